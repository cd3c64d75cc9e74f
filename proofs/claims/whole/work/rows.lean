section
/-- a private method of a class that the tables say can be made, by its rows of tables_1 -/
def lw_okq (q : MethodName × Nat) : Prop := (q.1.cls ≠ "java/lang/invoke/MethodHandle" ∧ q.1.cls ≠ "java/lang/invoke/VarHandle") ∧ Cond.instantiable q.1.cls q.2 ∈ tables_1 ∧ Cond.privateMethod q.1 ∈ tables_1 ∧ Cond.instanceMethod q.1 ∈ tables_1
theorem lw_p0 : lw_okq (⟨"RunForms", "append", "(LRunForms$Octets;II)I"⟩, 6) := ⟨⟨by decide +kernel, by decide +kernel⟩, List.mem_of_getElem? (i := 18) (by decide +kernel), List.mem_of_getElem? (i := 223) (by decide +kernel), List.mem_of_getElem? (i := 224) (by decide +kernel)⟩
theorem lw_p1 : lw_okq (⟨"RunForms", "rowOf", "(I)LRunForms$Octets;"⟩, 6) := ⟨⟨by decide +kernel, by decide +kernel⟩, List.mem_of_getElem? (i := 18) (by decide +kernel), List.mem_of_getElem? (i := 247) (by decide +kernel), List.mem_of_getElem? (i := 248) (by decide +kernel)⟩
theorem lw_p2 : lw_okq (⟨"RunForms", "packRefusal", "(I)I"⟩, 6) := ⟨⟨by decide +kernel, by decide +kernel⟩, List.mem_of_getElem? (i := 18) (by decide +kernel), List.mem_of_getElem? (i := 267) (by decide +kernel), List.mem_of_getElem? (i := 268) (by decide +kernel)⟩
theorem lw_p3 : lw_okq (⟨"RunForms", "rowBound", "()I"⟩, 6) := ⟨⟨by decide +kernel, by decide +kernel⟩, List.mem_of_getElem? (i := 18) (by decide +kernel), List.mem_of_getElem? (i := 558) (by decide +kernel), List.mem_of_getElem? (i := 559) (by decide +kernel)⟩
theorem lw_p4 : lw_okq (⟨"java/lang/Throwable", "fillInStackTrace", "(I)Ljava/lang/Throwable;"⟩, 6) := ⟨⟨by decide +kernel, by decide +kernel⟩, List.mem_of_getElem? (i := 601) (by decide +kernel), List.mem_of_getElem? (i := 599) (by decide +kernel), List.mem_of_getElem? (i := 600) (by decide +kernel)⟩
theorem lw_p5 : lw_okq (⟨"RunFormsModel", "isWhole", "(I)Z"⟩, 25) := ⟨⟨by decide +kernel, by decide +kernel⟩, List.mem_of_getElem? (i := 653) (by decide +kernel), List.mem_of_getElem? (i := 771) (by decide +kernel), List.mem_of_getElem? (i := 772) (by decide +kernel)⟩
theorem lw_p6 : lw_okq (⟨"RunFormsModel", "packAll", "(I)V"⟩, 25) := ⟨⟨by decide +kernel, by decide +kernel⟩, List.mem_of_getElem? (i := 653) (by decide +kernel), List.mem_of_getElem? (i := 775) (by decide +kernel), List.mem_of_getElem? (i := 776) (by decide +kernel)⟩
theorem lw_p7 : lw_okq (⟨"RunFormsModel", "takeUnits", "()V"⟩, 25) := ⟨⟨by decide +kernel, by decide +kernel⟩, List.mem_of_getElem? (i := 653) (by decide +kernel), List.mem_of_getElem? (i := 779) (by decide +kernel), List.mem_of_getElem? (i := 780) (by decide +kernel)⟩
theorem lw_p8 : lw_okq (⟨"RunFormsModel", "unitOf", "(I)J"⟩, 25) := ⟨⟨by decide +kernel, by decide +kernel⟩, List.mem_of_getElem? (i := 653) (by decide +kernel), List.mem_of_getElem? (i := 783) (by decide +kernel), List.mem_of_getElem? (i := 784) (by decide +kernel)⟩
theorem lw_p9 : lw_okq (⟨"RunFormsModel", "all", "()J"⟩, 25) := ⟨⟨by decide +kernel, by decide +kernel⟩, List.mem_of_getElem? (i := 653) (by decide +kernel), List.mem_of_getElem? (i := 787) (by decide +kernel), List.mem_of_getElem? (i := 788) (by decide +kernel)⟩
theorem lw_p10 : lw_okq (⟨"RunFormsModel", "part", "(III)V"⟩, 25) := ⟨⟨by decide +kernel, by decide +kernel⟩, List.mem_of_getElem? (i := 653) (by decide +kernel), List.mem_of_getElem? (i := 791) (by decide +kernel), List.mem_of_getElem? (i := 792) (by decide +kernel)⟩
theorem lw_p11 : lw_okq (⟨"RunFormsModel", "greedy", "(II)V"⟩, 25) := ⟨⟨by decide +kernel, by decide +kernel⟩, List.mem_of_getElem? (i := 653) (by decide +kernel), List.mem_of_getElem? (i := 795) (by decide +kernel), List.mem_of_getElem? (i := 796) (by decide +kernel)⟩
theorem lw_p12 : lw_okq (⟨"RunFormsModel", "restOf", "(II)I"⟩, 25) := ⟨⟨by decide +kernel, by decide +kernel⟩, List.mem_of_getElem? (i := 653) (by decide +kernel), List.mem_of_getElem? (i := 799) (by decide +kernel), List.mem_of_getElem? (i := 800) (by decide +kernel)⟩
theorem lw_p13 : lw_okq (⟨"RunFormsModel", "mostRun", "()I"⟩, 25) := ⟨⟨by decide +kernel, by decide +kernel⟩, List.mem_of_getElem? (i := 653) (by decide +kernel), List.mem_of_getElem? (i := 803) (by decide +kernel), List.mem_of_getElem? (i := 804) (by decide +kernel)⟩
theorem lw_p14 : lw_okq (⟨"RunFormsModel", "likes", "(III)I"⟩, 25) := ⟨⟨by decide +kernel, by decide +kernel⟩, List.mem_of_getElem? (i := 653) (by decide +kernel), List.mem_of_getElem? (i := 807) (by decide +kernel), List.mem_of_getElem? (i := 808) (by decide +kernel)⟩
theorem lw_p15 : lw_okq (⟨"RunFormsModel", "isMarked", "(I)Z"⟩, 25) := ⟨⟨by decide +kernel, by decide +kernel⟩, List.mem_of_getElem? (i := 653) (by decide +kernel), List.mem_of_getElem? (i := 811) (by decide +kernel), List.mem_of_getElem? (i := 812) (by decide +kernel)⟩
def lw_privs_1 : List (MethodName × Nat) := [(⟨"RunForms", "append", "(LRunForms$Octets;II)I"⟩, 6), (⟨"RunForms", "rowOf", "(I)LRunForms$Octets;"⟩, 6), (⟨"RunForms", "packRefusal", "(I)I"⟩, 6), (⟨"RunForms", "rowBound", "()I"⟩, 6), (⟨"java/lang/Throwable", "fillInStackTrace", "(I)Ljava/lang/Throwable;"⟩, 6), (⟨"RunFormsModel", "isWhole", "(I)Z"⟩, 25), (⟨"RunFormsModel", "packAll", "(I)V"⟩, 25), (⟨"RunFormsModel", "takeUnits", "()V"⟩, 25), (⟨"RunFormsModel", "unitOf", "(I)J"⟩, 25), (⟨"RunFormsModel", "all", "()J"⟩, 25), (⟨"RunFormsModel", "part", "(III)V"⟩, 25), (⟨"RunFormsModel", "greedy", "(II)V"⟩, 25), (⟨"RunFormsModel", "restOf", "(II)I"⟩, 25), (⟨"RunFormsModel", "mostRun", "()I"⟩, 25), (⟨"RunFormsModel", "likes", "(III)I"⟩, 25), (⟨"RunFormsModel", "isMarked", "(I)Z"⟩, 25)]
theorem lw_r1 : ∀ q ∈ lw_privs_1, lw_okq q := List.forall_mem_cons.mpr ⟨lw_p0, List.forall_mem_cons.mpr ⟨lw_p1, List.forall_mem_cons.mpr ⟨lw_p2, List.forall_mem_cons.mpr ⟨lw_p3, List.forall_mem_cons.mpr ⟨lw_p4, List.forall_mem_cons.mpr ⟨lw_p5, List.forall_mem_cons.mpr ⟨lw_p6, List.forall_mem_cons.mpr ⟨lw_p7, List.forall_mem_cons.mpr ⟨lw_p8, List.forall_mem_cons.mpr ⟨lw_p9, List.forall_mem_cons.mpr ⟨lw_p10, List.forall_mem_cons.mpr ⟨lw_p11, List.forall_mem_cons.mpr ⟨lw_p12, List.forall_mem_cons.mpr ⟨lw_p13, List.forall_mem_cons.mpr ⟨lw_p14, List.forall_mem_cons.mpr ⟨lw_p15, fun _ h => absurd h List.not_mem_nil⟩⟩⟩⟩⟩⟩⟩⟩⟩⟩⟩⟩⟩⟩⟩⟩
theorem lw_p16 : lw_okq (⟨"RunFormsModel", "layRun", "(II)V"⟩, 25) := ⟨⟨by decide +kernel, by decide +kernel⟩, List.mem_of_getElem? (i := 653) (by decide +kernel), List.mem_of_getElem? (i := 815) (by decide +kernel), List.mem_of_getElem? (i := 816) (by decide +kernel)⟩
theorem lw_p17 : lw_okq (⟨"RunFormsModel", "lay", "(I)V"⟩, 25) := ⟨⟨by decide +kernel, by decide +kernel⟩, List.mem_of_getElem? (i := 653) (by decide +kernel), List.mem_of_getElem? (i := 819) (by decide +kernel), List.mem_of_getElem? (i := 820) (by decide +kernel)⟩
theorem lw_p18 : lw_okq (⟨"RunFormsModel", "layUnit", "(J)V"⟩, 25) := ⟨⟨by decide +kernel, by decide +kernel⟩, List.mem_of_getElem? (i := 653) (by decide +kernel), List.mem_of_getElem? (i := 823) (by decide +kernel), List.mem_of_getElem? (i := 824) (by decide +kernel)⟩
theorem lw_p19 : lw_okq (⟨"RunFormsModel", "greedyThemselves", "(III)I"⟩, 25) := ⟨⟨by decide +kernel, by decide +kernel⟩, List.mem_of_getElem? (i := 653) (by decide +kernel), List.mem_of_getElem? (i := 827) (by decide +kernel), List.mem_of_getElem? (i := 828) (by decide +kernel)⟩
theorem lw_p20 : lw_okq (⟨"RunFormsModel", "layThemselves", "(II)V"⟩, 25) := ⟨⟨by decide +kernel, by decide +kernel⟩, List.mem_of_getElem? (i := 653) (by decide +kernel), List.mem_of_getElem? (i := 831) (by decide +kernel), List.mem_of_getElem? (i := 832) (by decide +kernel)⟩
theorem lw_p21 : lw_okq (⟨"RunFormsModel", "fewest", "(II)V"⟩, 25) := ⟨⟨by decide +kernel, by decide +kernel⟩, List.mem_of_getElem? (i := 653) (by decide +kernel), List.mem_of_getElem? (i := 835) (by decide +kernel), List.mem_of_getElem? (i := 836) (by decide +kernel)⟩
theorem lw_p22 : lw_okq (⟨"RunFormsModel", "reckon", "(II)V"⟩, 25) := ⟨⟨by decide +kernel, by decide +kernel⟩, List.mem_of_getElem? (i := 653) (by decide +kernel), List.mem_of_getElem? (i := 839) (by decide +kernel), List.mem_of_getElem? (i := 840) (by decide +kernel)⟩
theorem lw_p23 : lw_okq (⟨"RunFormsModel", "mayStand", "(II)Z"⟩, 25) := ⟨⟨by decide +kernel, by decide +kernel⟩, List.mem_of_getElem? (i := 653) (by decide +kernel), List.mem_of_getElem? (i := 844) (by decide +kernel), List.mem_of_getElem? (i := 845) (by decide +kernel)⟩
theorem lw_p24 : lw_okq (⟨"RunFormsModel", "selfCost", "(I)I"⟩, 25) := ⟨⟨by decide +kernel, by decide +kernel⟩, List.mem_of_getElem? (i := 653) (by decide +kernel), List.mem_of_getElem? (i := 848) (by decide +kernel), List.mem_of_getElem? (i := 849) (by decide +kernel)⟩
theorem lw_p25 : lw_okq (⟨"RunFormsModel", "runCost", "()I"⟩, 25) := ⟨⟨by decide +kernel, by decide +kernel⟩, List.mem_of_getElem? (i := 653) (by decide +kernel), List.mem_of_getElem? (i := 852) (by decide +kernel), List.mem_of_getElem? (i := 853) (by decide +kernel)⟩
theorem lw_p26 : lw_okq (⟨"RunFormsModel", "fewestAt", "(II)I"⟩, 25) := ⟨⟨by decide +kernel, by decide +kernel⟩, List.mem_of_getElem? (i := 653) (by decide +kernel), List.mem_of_getElem? (i := 856) (by decide +kernel), List.mem_of_getElem? (i := 857) (by decide +kernel)⟩
theorem lw_p27 : lw_okq (⟨"RunFormsModel", "openMarked", "()I"⟩, 25) := ⟨⟨by decide +kernel, by decide +kernel⟩, List.mem_of_getElem? (i := 653) (by decide +kernel), List.mem_of_getElem? (i := 865) (by decide +kernel), List.mem_of_getElem? (i := 866) (by decide +kernel)⟩
theorem lw_p28 : lw_okq (⟨"RunFormsModel", "fails", "(II)I"⟩, 25) := ⟨⟨by decide +kernel, by decide +kernel⟩, List.mem_of_getElem? (i := 653) (by decide +kernel), List.mem_of_getElem? (i := 869) (by decide +kernel), List.mem_of_getElem? (i := 870) (by decide +kernel)⟩
theorem lw_p29 : lw_okq (⟨"RunFormsModel", "puts", "(III)I"⟩, 25) := ⟨⟨by decide +kernel, by decide +kernel⟩, List.mem_of_getElem? (i := 653) (by decide +kernel), List.mem_of_getElem? (i := 873) (by decide +kernel), List.mem_of_getElem? (i := 874) (by decide +kernel)⟩
theorem lw_p30 : lw_okq (⟨"RunFormsModel", "openSigned", "()I"⟩, 25) := ⟨⟨by decide +kernel, by decide +kernel⟩, List.mem_of_getElem? (i := 653) (by decide +kernel), List.mem_of_getElem? (i := 877) (by decide +kernel), List.mem_of_getElem? (i := 878) (by decide +kernel)⟩
theorem lw_p31 : lw_okq (⟨"RunFormsModel", "openRows", "()I"⟩, 25) := ⟨⟨by decide +kernel, by decide +kernel⟩, List.mem_of_getElem? (i := 653) (by decide +kernel), List.mem_of_getElem? (i := 881) (by decide +kernel), List.mem_of_getElem? (i := 882) (by decide +kernel)⟩
def lw_privs_2 : List (MethodName × Nat) := [(⟨"RunFormsModel", "layRun", "(II)V"⟩, 25), (⟨"RunFormsModel", "lay", "(I)V"⟩, 25), (⟨"RunFormsModel", "layUnit", "(J)V"⟩, 25), (⟨"RunFormsModel", "greedyThemselves", "(III)I"⟩, 25), (⟨"RunFormsModel", "layThemselves", "(II)V"⟩, 25), (⟨"RunFormsModel", "fewest", "(II)V"⟩, 25), (⟨"RunFormsModel", "reckon", "(II)V"⟩, 25), (⟨"RunFormsModel", "mayStand", "(II)Z"⟩, 25), (⟨"RunFormsModel", "selfCost", "(I)I"⟩, 25), (⟨"RunFormsModel", "runCost", "()I"⟩, 25), (⟨"RunFormsModel", "fewestAt", "(II)I"⟩, 25), (⟨"RunFormsModel", "openMarked", "()I"⟩, 25), (⟨"RunFormsModel", "fails", "(II)I"⟩, 25), (⟨"RunFormsModel", "puts", "(III)I"⟩, 25), (⟨"RunFormsModel", "openSigned", "()I"⟩, 25), (⟨"RunFormsModel", "openRows", "()I"⟩, 25)]
theorem lw_r2 : ∀ q ∈ lw_privs_2, lw_okq q := List.forall_mem_cons.mpr ⟨lw_p16, List.forall_mem_cons.mpr ⟨lw_p17, List.forall_mem_cons.mpr ⟨lw_p18, List.forall_mem_cons.mpr ⟨lw_p19, List.forall_mem_cons.mpr ⟨lw_p20, List.forall_mem_cons.mpr ⟨lw_p21, List.forall_mem_cons.mpr ⟨lw_p22, List.forall_mem_cons.mpr ⟨lw_p23, List.forall_mem_cons.mpr ⟨lw_p24, List.forall_mem_cons.mpr ⟨lw_p25, List.forall_mem_cons.mpr ⟨lw_p26, List.forall_mem_cons.mpr ⟨lw_p27, List.forall_mem_cons.mpr ⟨lw_p28, List.forall_mem_cons.mpr ⟨lw_p29, List.forall_mem_cons.mpr ⟨lw_p30, List.forall_mem_cons.mpr ⟨lw_p31, fun _ h => absurd h List.not_mem_nil⟩⟩⟩⟩⟩⟩⟩⟩⟩⟩⟩⟩⟩⟩⟩⟩
theorem lw_p32 : lw_okq (⟨"RunFormsModel", "rowFaults", "(I)I"⟩, 25) := ⟨⟨by decide +kernel, by decide +kernel⟩, List.mem_of_getElem? (i := 653) (by decide +kernel), List.mem_of_getElem? (i := 885) (by decide +kernel), List.mem_of_getElem? (i := 886) (by decide +kernel)⟩
theorem lw_p33 : lw_okq (⟨"RunFormsModel", "rowIs", "()V"⟩, 25) := ⟨⟨by decide +kernel, by decide +kernel⟩, List.mem_of_getElem? (i := 653) (by decide +kernel), List.mem_of_getElem? (i := 889) (by decide +kernel), List.mem_of_getElem? (i := 890) (by decide +kernel)⟩
theorem lw_p34 : lw_okq (⟨"RunFormsModel", "endRow", "()I"⟩, 25) := ⟨⟨by decide +kernel, by decide +kernel⟩, List.mem_of_getElem? (i := 653) (by decide +kernel), List.mem_of_getElem? (i := 893) (by decide +kernel), List.mem_of_getElem? (i := 894) (by decide +kernel)⟩
theorem lw_p35 : lw_okq (⟨"RunFormsModel", "endAll", "()I"⟩, 25) := ⟨⟨by decide +kernel, by decide +kernel⟩, List.mem_of_getElem? (i := 653) (by decide +kernel), List.mem_of_getElem? (i := 897) (by decide +kernel), List.mem_of_getElem? (i := 898) (by decide +kernel)⟩
theorem lw_p36 : lw_okq (⟨"RunFormsModel", "goOn", "()I"⟩, 25) := ⟨⟨by decide +kernel, by decide +kernel⟩, List.mem_of_getElem? (i := 653) (by decide +kernel), List.mem_of_getElem? (i := 901) (by decide +kernel), List.mem_of_getElem? (i := 902) (by decide +kernel)⟩
theorem lw_p37 : lw_okq (⟨"RunFormsModel", "bytes", "(I)I"⟩, 25) := ⟨⟨by decide +kernel, by decide +kernel⟩, List.mem_of_getElem? (i := 653) (by decide +kernel), List.mem_of_getElem? (i := 905) (by decide +kernel), List.mem_of_getElem? (i := 906) (by decide +kernel)⟩
theorem lw_p38 : lw_okq (⟨"RunFormsModel", "plainMarked", "()Z"⟩, 25) := ⟨⟨by decide +kernel, by decide +kernel⟩, List.mem_of_getElem? (i := 653) (by decide +kernel), List.mem_of_getElem? (i := 918) (by decide +kernel), List.mem_of_getElem? (i := 919) (by decide +kernel)⟩
theorem lw_p39 : lw_okq (⟨"RunFormsModel", "copies", "(III)Z"⟩, 25) := ⟨⟨by decide +kernel, by decide +kernel⟩, List.mem_of_getElem? (i := 653) (by decide +kernel), List.mem_of_getElem? (i := 922) (by decide +kernel), List.mem_of_getElem? (i := 923) (by decide +kernel)⟩
theorem lw_p40 : lw_okq (⟨"RunFormsModel", "plainSigned", "()Z"⟩, 25) := ⟨⟨by decide +kernel, by decide +kernel⟩, List.mem_of_getElem? (i := 653) (by decide +kernel), List.mem_of_getElem? (i := 926) (by decide +kernel), List.mem_of_getElem? (i := 927) (by decide +kernel)⟩
theorem lw_p41 : lw_okq (⟨"RunFormsModel", "plainRows", "()Z"⟩, 25) := ⟨⟨by decide +kernel, by decide +kernel⟩, List.mem_of_getElem? (i := 653) (by decide +kernel), List.mem_of_getElem? (i := 930) (by decide +kernel), List.mem_of_getElem? (i := 931) (by decide +kernel)⟩
def lw_privs_3 : List (MethodName × Nat) := [(⟨"RunFormsModel", "rowFaults", "(I)I"⟩, 25), (⟨"RunFormsModel", "rowIs", "()V"⟩, 25), (⟨"RunFormsModel", "endRow", "()I"⟩, 25), (⟨"RunFormsModel", "endAll", "()I"⟩, 25), (⟨"RunFormsModel", "goOn", "()I"⟩, 25), (⟨"RunFormsModel", "bytes", "(I)I"⟩, 25), (⟨"RunFormsModel", "plainMarked", "()Z"⟩, 25), (⟨"RunFormsModel", "copies", "(III)Z"⟩, 25), (⟨"RunFormsModel", "plainSigned", "()Z"⟩, 25), (⟨"RunFormsModel", "plainRows", "()Z"⟩, 25)]
theorem lw_r3 : ∀ q ∈ lw_privs_3, lw_okq q := List.forall_mem_cons.mpr ⟨lw_p32, List.forall_mem_cons.mpr ⟨lw_p33, List.forall_mem_cons.mpr ⟨lw_p34, List.forall_mem_cons.mpr ⟨lw_p35, List.forall_mem_cons.mpr ⟨lw_p36, List.forall_mem_cons.mpr ⟨lw_p37, List.forall_mem_cons.mpr ⟨lw_p38, List.forall_mem_cons.mpr ⟨lw_p39, List.forall_mem_cons.mpr ⟨lw_p40, List.forall_mem_cons.mpr ⟨lw_p41, fun _ h => absurd h List.not_mem_nil⟩⟩⟩⟩⟩⟩⟩⟩⟩⟩
def lw_privs : List (MethodName × Nat) := lw_privs_1 ++ (lw_privs_2 ++ (lw_privs_3))
def lw_tbl : List Cond := k2_sels lw_privs ++ tables_1
theorem lw_privs_ok : ∀ q ∈ lw_privs, lw_okq q := by
  show ∀ q ∈ lw_privs_1 ++ (lw_privs_2 ++ (lw_privs_3)), lw_okq q
  exact List.forall_mem_append.mpr ⟨lw_r1, List.forall_mem_append.mpr ⟨lw_r2, lw_r3⟩⟩
end
section
def RX0 : String := "RunForms$Octets"
def TX0 : u_T := fun k => match k with
  | 0 => ("RunForms$Octets", "held", "[B", true)
  | _ => ("RunForms$Octets", "count", "I", false)
def tyX0 : Nat → FieldType := fun k => match k with
  | 0 => .array .byte
  | _ => .int
theorem nmX0 : ∀ a, a < 2 → ∀ b, b < 2 → a ≠ b → (TX0 a).2.1 ≠ (TX0 b).2.1 := by decide +kernel
theorem tyX0_ok : ∀ k, k < 2 → parseFieldDescriptor (TX0 k).2.2.1 = some (tyX0 k) := by decide +kernel
abbrev cX0_init : ByteArray := prog_2_method_1_code
def yX0_init : MethodName := ⟨RX0, "<init>", "(I)V"⟩
abbrev cX0_hasRoom : ByteArray := prog_2_method_2_code
def yX0_hasRoom : MethodName := ⟨RX0, "hasRoom", "(I)Z"⟩
abbrev cX0_add : ByteArray := prog_2_method_3_code
def yX0_add : MethodName := ⟨RX0, "add", "(I)V"⟩
abbrev cX0_set : ByteArray := prog_2_method_4_code
def yX0_set : MethodName := ⟨RX0, "set", "(II)V"⟩
abbrev cX0_get : ByteArray := prog_2_method_5_code
def yX0_get : MethodName := ⟨RX0, "get", "(I)I"⟩
abbrev cX0_blank : ByteArray := prog_2_method_6_code
def yX0_blank : MethodName := ⟨RX0, "blank", "()V"⟩
abbrev cX0_become : ByteArray := prog_2_method_7_code
def yX0_become : MethodName := ⟨RX0, "become", "(LRunForms$Octets;)V"⟩
def RX1 : String := "RunForms$Opener"
def TX1 : u_T := fun k => match k with
  | 0 => ("RunForms$Opener", "rules", "LRunForms$Rules;", true)
  | 1 => ("RunForms$Opener", "coded", "LRunForms$Octets;", true)
  | 2 => ("RunForms$Opener", "opened", "LRunForms$Octets;", true)
  | 3 => ("RunForms$Opener", "fault", "I", false)
  | 4 => ("RunForms$Opener", "place", "I", false)
  | 5 => ("RunForms$Opener", "next", "I", false)
  | 6 => ("RunForms$Opener", "ended", "Z", false)
  | 7 => ("RunForms$Opener", "row", "I", false)
  | _ => ("RunForms$Opener", "column", "I", false)
def tyX1 : Nat → FieldType := fun k => match k with
  | 0 => .object "RunForms$Rules"
  | 1 => .object "RunForms$Octets"
  | 2 => .object "RunForms$Octets"
  | 3 => .int
  | 4 => .int
  | 5 => .int
  | 6 => .boolean
  | 7 => .int
  | _ => .int
theorem nmX1 : ∀ a, a < 9 → ∀ b, b < 9 → a ≠ b → (TX1 a).2.1 ≠ (TX1 b).2.1 := by decide +kernel
theorem tyX1_ok : ∀ k, k < 9 → parseFieldDescriptor (TX1 k).2.2.1 = some (tyX1 k) := by decide +kernel
abbrev cX1_init : ByteArray := prog_3_method_1_code
def yX1_init : MethodName := ⟨RX1, "<init>", "(LRunForms$Rules;LRunForms$Octets;)V"⟩
abbrev cX1_run : ByteArray := prog_3_method_2_code
def yX1_run : MethodName := ⟨RX1, "run", "()V"⟩
abbrev cX1_takePiece : ByteArray := prog_3_method_3_code
def yX1_takePiece : MethodName := ⟨RX1, "takePiece", "()I"⟩
abbrev cX1_takeMarked : ByteArray := prog_3_method_4_code
def yX1_takeMarked : MethodName := ⟨RX1, "takeMarked", "()I"⟩
abbrev cX1_takeSigned : ByteArray := prog_3_method_5_code
def yX1_takeSigned : MethodName := ⟨RX1, "takeSigned", "()I"⟩
abbrev cX1_takeUnits : ByteArray := prog_3_method_6_code
def yX1_takeUnits : MethodName := ⟨RX1, "takeUnits", "(III)I"⟩
abbrev cX1_takeEnd : ByteArray := prog_3_method_7_code
def yX1_takeEnd : MethodName := ⟨RX1, "takeEnd", "()I"⟩
abbrev cX1_takeRows : ByteArray := prog_3_method_8_code
def yX1_takeRows : MethodName := ⟨RX1, "takeRows", "()I"⟩
abbrev cX1_takeRowRun : ByteArray := prog_3_method_9_code
def yX1_takeRowRun : MethodName := ⟨RX1, "takeRowRun", "(II)I"⟩
abbrev cX1_takeRowBytes : ByteArray := prog_3_method_10_code
def yX1_takeRowBytes : MethodName := ⟨RX1, "takeRowBytes", "(I)I"⟩
abbrev cX1_takeRowEnd : ByteArray := prog_3_method_11_code
def yX1_takeRowEnd : MethodName := ⟨RX1, "takeRowEnd", "()I"⟩
abbrev cX1_takeGoingOn : ByteArray := prog_3_method_12_code
def yX1_takeGoingOn : MethodName := ⟨RX1, "takeGoingOn", "()I"⟩
abbrev cX1_rowFault : ByteArray := prog_3_method_13_code
def yX1_rowFault : MethodName := ⟨RX1, "rowFault", "(I)I"⟩
abbrev cX1_putInRow : ByteArray := prog_3_method_14_code
def yX1_putInRow : MethodName := ⟨RX1, "putInRow", "(I)V"⟩
abbrev cX1_countRow : ByteArray := prog_3_method_15_code
def yX1_countRow : MethodName := ⟨RX1, "countRow", "()V"⟩
abbrev cX1_addUp : ByteArray := prog_3_method_16_code
def yX1_addUp : MethodName := ⟨RX1, "addUp", "()V"⟩
def RX2 : String := "RunForms$Packer"
def TX2 : u_T := fun k => match k with
  | 0 => ("RunForms$Packer", "rules", "LRunForms$Rules;", true)
  | 1 => ("RunForms$Packer", "packed", "LRunForms$Octets;", true)
  | 2 => ("RunForms$Packer", "units", "[I", true)
  | 3 => ("RunForms$Packer", "alike", "[I", true)
  | 4 => ("RunForms$Packer", "fewest", "[I", true)
  | 5 => ("RunForms$Packer", "sorts", "[I", true)
  | 6 => ("RunForms$Packer", "counts", "[I", true)
  | 7 => ("RunForms$Packer", "unitCount", "I", false)
  | 8 => ("RunForms$Packer", "end", "I", false)
  | _ => ("RunForms$Packer", "rest", "I", false)
def tyX2 : Nat → FieldType := fun k => match k with
  | 0 => .object "RunForms$Rules"
  | 1 => .object "RunForms$Octets"
  | 2 => .array .int
  | 3 => .array .int
  | 4 => .array .int
  | 5 => .array .int
  | 6 => .array .int
  | 7 => .int
  | 8 => .int
  | _ => .int
theorem nmX2 : ∀ a, a < 10 → ∀ b, b < 10 → a ≠ b → (TX2 a).2.1 ≠ (TX2 b).2.1 := by decide +kernel
theorem tyX2_ok : ∀ k, k < 10 → parseFieldDescriptor (TX2 k).2.2.1 = some (tyX2 k) := by decide +kernel
abbrev cX2_init : ByteArray := prog_4_method_1_code
def yX2_init : MethodName := ⟨RX2, "<init>", "(LRunForms$Rules;)V"⟩
abbrev cX2_make : ByteArray := prog_4_method_2_code
def yX2_make : MethodName := ⟨RX2, "make", "(LRunForms$Octets;I)I"⟩
abbrev cX2_readUnits : ByteArray := prog_4_method_3_code
def yX2_readUnits : MethodName := ⟨RX2, "readUnits", "(LRunForms$Octets;)V"⟩
abbrev cX2_addStretch : ByteArray := prog_4_method_4_code
def yX2_addStretch : MethodName := ⟨RX2, "addStretch", "(III)V"⟩
abbrev cX2_measure : ByteArray := prog_4_method_5_code
def yX2_measure : MethodName := ⟨RX2, "measure", "(I)V"⟩
abbrev cX2_addPieces : ByteArray := prog_4_method_6_code
def yX2_addPieces : MethodName := ⟨RX2, "addPieces", "(II)V"⟩
abbrev cX2_planFewest : ByteArray := prog_4_method_7_code
def yX2_planFewest : MethodName := ⟨RX2, "planFewest", "(I)V"⟩
abbrev cX2_chooseFewest : ByteArray := prog_4_method_8_code
def yX2_chooseFewest : MethodName := ⟨RX2, "chooseFewest", "(I)V"⟩
abbrev cX2_offer : ByteArray := prog_4_method_9_code
def yX2_offer : MethodName := ⟨RX2, "offer", "(IIII)V"⟩
abbrev cX2_choose : ByteArray := prog_4_method_10_code
def yX2_choose : MethodName := ⟨RX2, "choose", "(III)V"⟩
abbrev cX2_chooseGreedy : ByteArray := prog_4_method_11_code
def yX2_chooseGreedy : MethodName := ⟨RX2, "chooseGreedy", "(I)V"⟩
abbrev cX2_greedyTakesRun : ByteArray := prog_4_method_12_code
def yX2_greedyTakesRun : MethodName := ⟨RX2, "greedyTakesRun", "(II)Z"⟩
abbrev cX2_greedyThemselves : ByteArray := prog_4_method_13_code
def yX2_greedyThemselves : MethodName := ⟨RX2, "greedyThemselves", "(I)I"⟩
abbrev cX2_runAt : ByteArray := prog_4_method_14_code
def yX2_runAt : MethodName := ⟨RX2, "runAt", "(I)I"⟩
abbrev cX2_leastRun : ByteArray := prog_4_method_15_code
def yX2_leastRun : MethodName := ⟨RX2, "leastRun", "()I"⟩
abbrev cX2_leastThemselves : ByteArray := prog_4_method_16_code
def yX2_leastThemselves : MethodName := ⟨RX2, "leastThemselves", "()I"⟩
abbrev cX2_mostThemselves : ByteArray := prog_4_method_17_code
def yX2_mostThemselves : MethodName := ⟨RX2, "mostThemselves", "()I"⟩
abbrev cX2_beginsWithMark : ByteArray := prog_4_method_18_code
def yX2_beginsWithMark : MethodName := ⟨RX2, "beginsWithMark", "(I)Z"⟩
abbrev cX2_lengthRun : ByteArray := prog_4_method_19_code
def yX2_lengthRun : MethodName := ⟨RX2, "lengthRun", "()I"⟩
abbrev cX2_lengthThemselves : ByteArray := prog_4_method_20_code
def yX2_lengthThemselves : MethodName := ⟨RX2, "lengthThemselves", "(I)I"⟩
abbrev cX2_addPiece : ByteArray := prog_4_method_21_code
def yX2_addPiece : MethodName := ⟨RX2, "addPiece", "(I)V"⟩
abbrev cX2_addRunHead : ByteArray := prog_4_method_22_code
def yX2_addRunHead : MethodName := ⟨RX2, "addRunHead", "(I)V"⟩
abbrev cX2_addThemselvesHead : ByteArray := prog_4_method_23_code
def yX2_addThemselvesHead : MethodName := ⟨RX2, "addThemselvesHead", "(I)V"⟩
abbrev cX2_addUnit : ByteArray := prog_4_method_24_code
def yX2_addUnit : MethodName := ⟨RX2, "addUnit", "(I)V"⟩
abbrev cX2_addEnd : ByteArray := prog_4_method_25_code
def yX2_addEnd : MethodName := ⟨RX2, "addEnd", "()V"⟩
def RX3 : String := "RunForms$Plain"
def TX3 : u_T := fun k => match k with
  | 0 => ("RunForms$Plain", "rules", "LRunForms$Rules;", true)
  | 1 => ("RunForms$Plain", "coded", "LRunForms$Octets;", true)
  | 2 => ("RunForms$Plain", "held", "[B", true)
  | 3 => ("RunForms$Plain", "count", "I", false)
  | 4 => ("RunForms$Plain", "reach", "I", false)
  | 5 => ("RunForms$Plain", "next", "I", false)
  | 6 => ("RunForms$Plain", "ended", "Z", false)
  | 7 => ("RunForms$Plain", "row", "I", false)
  | _ => ("RunForms$Plain", "column", "I", false)
def tyX3 : Nat → FieldType := fun k => match k with
  | 0 => .object "RunForms$Rules"
  | 1 => .object "RunForms$Octets"
  | 2 => .array .byte
  | 3 => .int
  | 4 => .int
  | 5 => .int
  | 6 => .boolean
  | 7 => .int
  | _ => .int
theorem nmX3 : ∀ a, a < 9 → ∀ b, b < 9 → a ≠ b → (TX3 a).2.1 ≠ (TX3 b).2.1 := by decide +kernel
theorem tyX3_ok : ∀ k, k < 9 → parseFieldDescriptor (TX3 k).2.2.1 = some (tyX3 k) := by decide +kernel
abbrev cX3_init : ByteArray := prog_5_method_1_code
def yX3_init : MethodName := ⟨RX3, "<init>", "(LRunForms$Rules;LRunForms$Octets;)V"⟩
abbrev cX3_fill : ByteArray := prog_5_method_2_code
def yX3_fill : MethodName := ⟨RX3, "fill", "(I)I"⟩
abbrev cX3_copiesPiece : ByteArray := prog_5_method_3_code
def yX3_copiesPiece : MethodName := ⟨RX3, "copiesPiece", "()Z"⟩
abbrev cX3_copiesMarked : ByteArray := prog_5_method_4_code
def yX3_copiesMarked : MethodName := ⟨RX3, "copiesMarked", "()Z"⟩
abbrev cX3_copiesSigned : ByteArray := prog_5_method_5_code
def yX3_copiesSigned : MethodName := ⟨RX3, "copiesSigned", "()Z"⟩
abbrev cX3_copiesRows : ByteArray := prog_5_method_6_code
def yX3_copiesRows : MethodName := ⟨RX3, "copiesRows", "()Z"⟩
abbrev cX3_goesOn : ByteArray := prog_5_method_7_code
def yX3_goesOn : MethodName := ⟨RX3, "goesOn", "()Z"⟩
abbrev cX3_copiesTimes : ByteArray := prog_5_method_8_code
def yX3_copiesTimes : MethodName := ⟨RX3, "copiesTimes", "(III)Z"⟩
abbrev cX3_copies : ByteArray := prog_5_method_9_code
def yX3_copies : MethodName := ⟨RX3, "copies", "(II)Z"⟩
def RX4 : String := "RunForms$Rules"
def TX4 : u_T := fun k => match k with
  | 0 => ("RunForms$Rules", "form", "I", true)
  | 1 => ("RunForms$Rules", "unitBytes", "I", false)
  | 2 => ("RunForms$Rules", "width", "I", false)
  | 3 => ("RunForms$Rules", "mark", "I", false)
  | _ => ("RunForms$Rules", "differences", "I", false)
def tyX4 : Nat → FieldType := fun k => match k with
  | 0 => .int
  | 1 => .int
  | 2 => .int
  | 3 => .int
  | _ => .int
theorem nmX4 : ∀ a, a < 5 → ∀ b, b < 5 → a ≠ b → (TX4 a).2.1 ≠ (TX4 b).2.1 := by decide +kernel
theorem tyX4_ok : ∀ k, k < 5 → parseFieldDescriptor (TX4 k).2.2.1 = some (tyX4 k) := by decide +kernel
abbrev cX4_init : ByteArray := prog_6_method_1_code
def yX4_init : MethodName := ⟨RX4, "<init>", "(I)V"⟩
abbrev cX4_allow : ByteArray := prog_6_method_2_code
def yX4_allow : MethodName := ⟨RX4, "allow", "(II)Z"⟩
abbrev cX4_change : ByteArray := prog_6_method_3_code
def yX4_change : MethodName := ⟨RX4, "change", "(II)I"⟩
abbrev cX4_isWhole : ByteArray := prog_6_method_4_code
def yX4_isWhole : MethodName := ⟨RX4, "isWhole", "(I)Z"⟩
abbrev cX4_unitsIn : ByteArray := prog_6_method_5_code
def yX4_unitsIn : MethodName := ⟨RX4, "unitsIn", "(I)I"⟩
abbrev cX4_rowsIn : ByteArray := prog_6_method_6_code
def yX4_rowsIn : MethodName := ⟨RX4, "rowsIn", "(I)I"⟩
abbrev cX4_numberAt : ByteArray := prog_6_method_7_code
def yX4_numberAt : MethodName := ⟨RX4, "numberAt", "(LRunForms$Octets;I)I"⟩
abbrev cX4_byteOf : ByteArray := prog_6_method_8_code
def yX4_byteOf : MethodName := ⟨RX4, "byteOf", "(II)I"⟩
abbrev cX4_modulo : ByteArray := prog_6_method_9_code
def yX4_modulo : MethodName := ⟨RX4, "modulo", "(I)I"⟩
def RX5 : String := "RunForms"
def TX5 : u_T := fun k => match k with
  | 0 => ("RunForms", "rules", "LRunForms$Rules;", true)
  | 1 => ("RunForms", "source", "LRunForms$Octets;", true)
  | 2 => ("RunForms", "coded", "LRunForms$Octets;", true)
  | 3 => ("RunForms", "packer", "LRunForms$Packer;", true)
  | 4 => ("RunForms", "opener", "LRunForms$Opener;", true)
  | _ => ("RunForms", "copied", "LRunForms$Plain;", true)
def tyX5 : Nat → FieldType := fun k => match k with
  | 0 => .object "RunForms$Rules"
  | 1 => .object "RunForms$Octets"
  | 2 => .object "RunForms$Octets"
  | 3 => .object "RunForms$Packer"
  | 4 => .object "RunForms$Opener"
  | _ => .object "RunForms$Plain"
theorem nmX5 : ∀ a, a < 6 → ∀ b, b < 6 → a ≠ b → (TX5 a).2.1 ≠ (TX5 b).2.1 := by decide +kernel
theorem tyX5_ok : ∀ k, k < 6 → parseFieldDescriptor (TX5 k).2.2.1 = some (tyX5 k) := by decide +kernel
abbrev cX5_init : ByteArray := prog_1_method_1_code
def yX5_init : MethodName := ⟨RX5, "<init>", "(I)V"⟩
abbrev cX5_octet : ByteArray := prog_1_method_2_code
def yX5_octet : MethodName := ⟨RX5, "octet", "(I)I"⟩
abbrev cX5_repeat : ByteArray := prog_1_method_3_code
def yX5_repeat : MethodName := ⟨RX5, "repeat", "(II)I"⟩
abbrev cX5_code : ByteArray := prog_1_method_4_code
def yX5_code : MethodName := ⟨RX5, "code", "(I)I"⟩
abbrev cX5_cut : ByteArray := prog_1_method_5_code
def yX5_cut : MethodName := ⟨RX5, "cut", "(II)I"⟩
abbrev cX5_rule : ByteArray := prog_1_method_6_code
def yX5_rule : MethodName := ⟨RX5, "rule", "(II)I"⟩
abbrev cX5_pack : ByteArray := prog_1_method_7_code
def yX5_pack : MethodName := ⟨RX5, "pack", "(I)I"⟩
abbrev cX5_size : ByteArray := prog_1_method_8_code
def yX5_size : MethodName := ⟨RX5, "size", "(I)I"⟩
abbrev cX5_open : ByteArray := prog_1_method_9_code
def yX5_open : MethodName := ⟨RX5, "open", "()I"⟩
abbrev cX5_fault : ByteArray := prog_1_method_10_code
def yX5_fault : MethodName := ⟨RX5, "fault", "()I"⟩
abbrev cX5_plain : ByteArray := prog_1_method_11_code
def yX5_plain : MethodName := ⟨RX5, "plain", "(I)I"⟩
abbrev cX5_out : ByteArray := prog_1_method_12_code
def yX5_out : MethodName := ⟨RX5, "out", "(I)I"⟩
abbrev cX5_at : ByteArray := prog_1_method_13_code
def yX5_at : MethodName := ⟨RX5, "at", "(II)I"⟩
abbrev cX5_unit : ByteArray := prog_1_method_14_code
def yX5_unit : MethodName := ⟨RX5, "unit", "(I)J"⟩
abbrev cX5_bound : ByteArray := prog_1_method_15_code
def yX5_bound : MethodName := ⟨RX5, "bound", "(I)I"⟩
abbrev cX5_told : ByteArray := prog_1_method_16_code
def yX5_told : MethodName := ⟨RX5, "told", "(I)I"⟩
abbrev cX5_append : ByteArray := prog_1_method_17_code
def yX5_append : MethodName := ⟨RX5, "append", "(LRunForms$Octets;II)I"⟩
abbrev cX5_packRefusal : ByteArray := prog_1_method_18_code
def yX5_packRefusal : MethodName := ⟨RX5, "packRefusal", "(I)I"⟩
abbrev cX5_rowOf : ByteArray := prog_1_method_19_code
def yX5_rowOf : MethodName := ⟨RX5, "rowOf", "(I)LRunForms$Octets;"⟩
abbrev cX5_rowBound : ByteArray := prog_1_method_20_code
def yX5_rowBound : MethodName := ⟨RX5, "rowBound", "()I"⟩
def RX6 : String := "RunFormsModel"
def TX6 : u_T := fun k => match k with
  | 0 => ("RunFormsModel", "form", "I", true)
  | 1 => ("RunFormsModel", "unit", "I", false)
  | 2 => ("RunFormsModel", "width", "I", false)
  | 3 => ("RunFormsModel", "mark", "I", false)
  | 4 => ("RunFormsModel", "differences", "I", false)
  | 5 => ("RunFormsModel", "source", "[I", true)
  | 6 => ("RunFormsModel", "sourceSize", "I", false)
  | 7 => ("RunFormsModel", "code", "[I", true)
  | 8 => ("RunFormsModel", "codeSize", "I", false)
  | 9 => ("RunFormsModel", "plain", "[I", true)
  | 10 => ("RunFormsModel", "plainSize", "I", false)
  | 11 => ("RunFormsModel", "put", "I", false)
  | 12 => ("RunFormsModel", "fault", "I", false)
  | 13 => ("RunFormsModel", "thrown", "I", false)
  | 14 => ("RunFormsModel", "value", "[J", true)
  | 15 => ("RunFormsModel", "many", "I", false)
  | 16 => ("RunFormsModel", "cost", "[I", true)
  | 17 => ("RunFormsModel", "packed", "[I", true)
  | 18 => ("RunFormsModel", "packedSize", "I", false)
  | 19 => ("RunFormsModel", "opened", "[I", true)
  | 20 => ("RunFormsModel", "openedSize", "I", false)
  | 21 => ("RunFormsModel", "p", "I", false)
  | 22 => ("RunFormsModel", "x", "I", false)
  | 23 => ("RunFormsModel", "y", "I", false)
  | _ => ("RunFormsModel", "ended", "Z", false)
def tyX6 : Nat → FieldType := fun k => match k with
  | 0 => .int
  | 1 => .int
  | 2 => .int
  | 3 => .int
  | 4 => .int
  | 5 => .array .int
  | 6 => .int
  | 7 => .array .int
  | 8 => .int
  | 9 => .array .int
  | 10 => .int
  | 11 => .int
  | 12 => .int
  | 13 => .int
  | 14 => .array .long
  | 15 => .int
  | 16 => .array .int
  | 17 => .array .int
  | 18 => .int
  | 19 => .array .int
  | 20 => .int
  | 21 => .int
  | 22 => .int
  | 23 => .int
  | _ => .boolean
theorem nmX6 : ∀ a, a < 25 → ∀ b, b < 25 → a ≠ b → (TX6 a).2.1 ≠ (TX6 b).2.1 := by decide +kernel
theorem tyX6_ok : ∀ k, k < 25 → parseFieldDescriptor (TX6 k).2.2.1 = some (tyX6 k) := by decide +kernel
abbrev cX6_init : ByteArray := prog_8_method_1_code
def yX6_init : MethodName := ⟨RX6, "<init>", "(I)V"⟩
abbrev cX6_thrown : ByteArray := prog_8_method_2_code
def yX6_thrown : MethodName := ⟨RX6, "thrown", "()I"⟩
abbrev cX6_in : ByteArray := prog_8_method_3_code
def yX6_in : MethodName := ⟨RX6, "in", "(III)Z"⟩
abbrev cX6_octet : ByteArray := prog_8_method_4_code
def yX6_octet : MethodName := ⟨RX6, "octet", "(I)I"⟩
abbrev cX6_repeat : ByteArray := prog_8_method_5_code
def yX6_repeat : MethodName := ⟨RX6, "repeat", "(II)I"⟩
abbrev cX6_code : ByteArray := prog_8_method_6_code
def yX6_code : MethodName := ⟨RX6, "code", "(I)I"⟩
abbrev cX6_cut : ByteArray := prog_8_method_7_code
def yX6_cut : MethodName := ⟨RX6, "cut", "(II)I"⟩
abbrev cX6_rule : ByteArray := prog_8_method_8_code
def yX6_rule : MethodName := ⟨RX6, "rule", "(II)I"⟩
abbrev cX6_unitOf : ByteArray := prog_8_method_9_code
def yX6_unitOf : MethodName := ⟨RX6, "unitOf", "(I)J"⟩
abbrev cX6_all : ByteArray := prog_8_method_10_code
def yX6_all : MethodName := ⟨RX6, "all", "()J"⟩
abbrev cX6_takeUnits : ByteArray := prog_8_method_11_code
def yX6_takeUnits : MethodName := ⟨RX6, "takeUnits", "()V"⟩
abbrev cX6_lay : ByteArray := prog_8_method_12_code
def yX6_lay : MethodName := ⟨RX6, "lay", "(I)V"⟩
abbrev cX6_layUnit : ByteArray := prog_8_method_13_code
def yX6_layUnit : MethodName := ⟨RX6, "layUnit", "(J)V"⟩
abbrev cX6_isMarked : ByteArray := prog_8_method_14_code
def yX6_isMarked : MethodName := ⟨RX6, "isMarked", "(I)Z"⟩
abbrev cX6_likes : ByteArray := prog_8_method_15_code
def yX6_likes : MethodName := ⟨RX6, "likes", "(III)I"⟩
abbrev cX6_layRun : ByteArray := prog_8_method_16_code
def yX6_layRun : MethodName := ⟨RX6, "layRun", "(II)V"⟩
abbrev cX6_layThemselves : ByteArray := prog_8_method_17_code
def yX6_layThemselves : MethodName := ⟨RX6, "layThemselves", "(II)V"⟩
abbrev cX6_mostRun : ByteArray := prog_8_method_18_code
def yX6_mostRun : MethodName := ⟨RX6, "mostRun", "()I"⟩
abbrev cX6_runCost : ByteArray := prog_8_method_19_code
def yX6_runCost : MethodName := ⟨RX6, "runCost", "()I"⟩
abbrev cX6_selfCost : ByteArray := prog_8_method_20_code
def yX6_selfCost : MethodName := ⟨RX6, "selfCost", "(I)I"⟩
abbrev cX6_mayStand : ByteArray := prog_8_method_21_code
def yX6_mayStand : MethodName := ⟨RX6, "mayStand", "(II)Z"⟩
abbrev cX6_restOf : ByteArray := prog_8_method_22_code
def yX6_restOf : MethodName := ⟨RX6, "restOf", "(II)I"⟩
abbrev cX6_reckon : ByteArray := prog_8_method_23_code
def yX6_reckon : MethodName := ⟨RX6, "reckon", "(II)V"⟩
abbrev cX6_fewest : ByteArray := prog_8_method_24_code
def yX6_fewest : MethodName := ⟨RX6, "fewest", "(II)V"⟩
abbrev cX6_fewestAt : ByteArray := prog_8_method_25_code
def yX6_fewestAt : MethodName := ⟨RX6, "fewestAt", "(II)I"⟩
abbrev cX6_greedy : ByteArray := prog_8_method_26_code
def yX6_greedy : MethodName := ⟨RX6, "greedy", "(II)V"⟩
abbrev cX6_greedyThemselves : ByteArray := prog_8_method_27_code
def yX6_greedyThemselves : MethodName := ⟨RX6, "greedyThemselves", "(III)I"⟩
abbrev cX6_packAll : ByteArray := prog_8_method_28_code
def yX6_packAll : MethodName := ⟨RX6, "packAll", "(I)V"⟩
abbrev cX6_part : ByteArray := prog_8_method_29_code
def yX6_part : MethodName := ⟨RX6, "part", "(III)V"⟩
abbrev cX6_isWhole : ByteArray := prog_8_method_30_code
def yX6_isWhole : MethodName := ⟨RX6, "isWhole", "(I)Z"⟩
abbrev cX6_pack : ByteArray := prog_8_method_31_code
def yX6_pack : MethodName := ⟨RX6, "pack", "(I)I"⟩
abbrev cX6_size : ByteArray := prog_8_method_32_code
def yX6_size : MethodName := ⟨RX6, "size", "(I)I"⟩
abbrev cX6_fails : ByteArray := prog_8_method_33_code
def yX6_fails : MethodName := ⟨RX6, "fails", "(II)I"⟩
abbrev cX6_open : ByteArray := prog_8_method_34_code
def yX6_open : MethodName := ⟨RX6, "open", "()I"⟩
abbrev cX6_puts : ByteArray := prog_8_method_35_code
def yX6_puts : MethodName := ⟨RX6, "puts", "(III)I"⟩
abbrev cX6_openMarked : ByteArray := prog_8_method_36_code
def yX6_openMarked : MethodName := ⟨RX6, "openMarked", "()I"⟩
abbrev cX6_openSigned : ByteArray := prog_8_method_37_code
def yX6_openSigned : MethodName := ⟨RX6, "openSigned", "()I"⟩
abbrev cX6_rowFaults : ByteArray := prog_8_method_38_code
def yX6_rowFaults : MethodName := ⟨RX6, "rowFaults", "(I)I"⟩
abbrev cX6_rowIs : ByteArray := prog_8_method_39_code
def yX6_rowIs : MethodName := ⟨RX6, "rowIs", "()V"⟩
abbrev cX6_openRows : ByteArray := prog_8_method_40_code
def yX6_openRows : MethodName := ⟨RX6, "openRows", "()I"⟩
abbrev cX6_endAll : ByteArray := prog_8_method_41_code
def yX6_endAll : MethodName := ⟨RX6, "endAll", "()I"⟩
abbrev cX6_endRow : ByteArray := prog_8_method_42_code
def yX6_endRow : MethodName := ⟨RX6, "endRow", "()I"⟩
abbrev cX6_goOn : ByteArray := prog_8_method_43_code
def yX6_goOn : MethodName := ⟨RX6, "goOn", "()I"⟩
abbrev cX6_bytes : ByteArray := prog_8_method_44_code
def yX6_bytes : MethodName := ⟨RX6, "bytes", "(I)I"⟩
abbrev cX6_fault : ByteArray := prog_8_method_45_code
def yX6_fault : MethodName := ⟨RX6, "fault", "()I"⟩
abbrev cX6_copies : ByteArray := prog_8_method_46_code
def yX6_copies : MethodName := ⟨RX6, "copies", "(III)Z"⟩
abbrev cX6_plain : ByteArray := prog_8_method_47_code
def yX6_plain : MethodName := ⟨RX6, "plain", "(I)I"⟩
abbrev cX6_plainMarked : ByteArray := prog_8_method_48_code
def yX6_plainMarked : MethodName := ⟨RX6, "plainMarked", "()Z"⟩
abbrev cX6_plainSigned : ByteArray := prog_8_method_49_code
def yX6_plainSigned : MethodName := ⟨RX6, "plainSigned", "()Z"⟩
abbrev cX6_plainRows : ByteArray := prog_8_method_50_code
def yX6_plainRows : MethodName := ⟨RX6, "plainRows", "()Z"⟩
abbrev cX6_out : ByteArray := prog_8_method_51_code
def yX6_out : MethodName := ⟨RX6, "out", "(I)I"⟩
abbrev cX6_at : ByteArray := prog_8_method_52_code
def yX6_at : MethodName := ⟨RX6, "at", "(II)I"⟩
abbrev cX6_unit : ByteArray := prog_8_method_53_code
def yX6_unit : MethodName := ⟨RX6, "unit", "(I)J"⟩
abbrev cX6_bound : ByteArray := prog_8_method_54_code
def yX6_bound : MethodName := ⟨RX6, "bound", "(I)I"⟩
abbrev cX6_told : ByteArray := prog_8_method_55_code
def yX6_told : MethodName := ⟨RX6, "told", "(I)I"⟩
def RJx00060 : String := "java/lang/ArrayIndexOutOfBoundsException"
def TJx00060 : u_T := fun k => match k with
  | 0 => ("java/lang/Throwable", "backtrace", "Ljava/lang/Object;", false)
  | 1 => ("java/lang/Throwable", "detailMessage", "Ljava/lang/String;", false)
  | 2 => ("java/lang/Throwable", "cause", "Ljava/lang/Throwable;", false)
  | 3 => ("java/lang/Throwable", "stackTrace", "[Ljava/lang/StackTraceElement;", false)
  | 4 => ("java/lang/Throwable", "depth", "I", false)
  | _ => ("java/lang/Throwable", "suppressedExceptions", "Ljava/util/List;", false)
def tyJx00060 : Nat → FieldType := fun k => match k with
  | 0 => .object "java/lang/Object"
  | 1 => .object "java/lang/String"
  | 2 => .object "java/lang/Throwable"
  | 3 => .array (.object "java/lang/StackTraceElement")
  | 4 => .int
  | _ => .object "java/util/List"
theorem nmJx00060 : ∀ a, a < 6 → ∀ b, b < 6 → a ≠ b → (TJx00060 a).2.1 ≠ (TJx00060 b).2.1 := by decide +kernel
theorem tyJx00060_ok : ∀ k, k < 6 → parseFieldDescriptor (TJx00060 k).2.2.1 = some (tyJx00060 k) := by decide +kernel
abbrev cJx00060_init_a7421 : ByteArray := prog_9_method_2_code
def yJx00060_init_a7421 : MethodName := ⟨RJx00060, "<init>", "(Ljava/lang/String;)V"⟩
def RJ9 : String := "java/lang/Math"
def TJ9 : u_T := fun k => match k with
  | _ => ("", "", "", false)
def tyJ9 : Nat → FieldType := fun k => match k with
  | _ => .int
theorem nmJ9 : ∀ a, a < 0 → ∀ b, b < 0 → a ≠ b → (TJ9 a).2.1 ≠ (TJ9 b).2.1 := by decide +kernel
theorem tyJ9_ok : ∀ k, k < 0 → parseFieldDescriptor (TJ9 k).2.2.1 = some (tyJ9 k) := by decide +kernel
abbrev cJ9_max_7cf53 : ByteArray := prog_12_method_65_code
def yJ9_max_7cf53 : MethodName := ⟨RJ9, "max", "(II)I"⟩
abbrev cJ9_min_7cf53 : ByteArray := prog_12_method_69_code
def yJ9_min_7cf53 : MethodName := ⟨RJ9, "min", "(II)I"⟩
def RJ0 : String := "java/lang/String"
def TJ0 : u_T := fun k => match k with
  | 0 => ("java/lang/String", "value", "[B", true)
  | _ => ("java/lang/String", "coder", "B", true)
def tyJ0 : Nat → FieldType := fun k => match k with
  | 0 => .array .byte
  | _ => .byte
theorem nmJ0 : ∀ a, a < 2 → ∀ b, b < 2 → a ≠ b → (TJ0 a).2.1 ≠ (TJ0 b).2.1 := by decide +kernel
theorem tyJ0_ok : ∀ k, k < 2 → parseFieldDescriptor (TJ0 k).2.2.1 = some (tyJ0 k) := by decide +kernel
def RJ10 : String := "java/lang/System"
def TJ10 : u_T := fun k => match k with
  | _ => ("", "", "", false)
def tyJ10 : Nat → FieldType := fun k => match k with
  | _ => .int
theorem nmJ10 : ∀ a, a < 0 → ∀ b, b < 0 → a ≠ b → (TJ10 a).2.1 ≠ (TJ10 b).2.1 := by decide +kernel
theorem tyJ10_ok : ∀ k, k < 0 → parseFieldDescriptor (TJ10 k).2.2.1 = some (tyJ10 k) := by decide +kernel
def RJ7 : String := "java/util/Arrays"
def TJ7 : u_T := fun k => match k with
  | _ => ("", "", "", false)
def tyJ7 : Nat → FieldType := fun k => match k with
  | _ => .int
theorem nmJ7 : ∀ a, a < 0 → ∀ b, b < 0 → a ≠ b → (TJ7 a).2.1 ≠ (TJ7 b).2.1 := by decide +kernel
theorem tyJ7_ok : ∀ k, k < 0 → parseFieldDescriptor (TJ7 k).2.2.1 = some (tyJ7 k) := by decide +kernel
abbrev cJ7_fill_031fb : ByteArray := prog_17_method_109_code
def yJ7_fill_031fb : MethodName := ⟨RJ7, "fill", "([BB)V"⟩
def RL : String := "RunFormsLaw"
abbrev cL_cell : ByteArray := method_2_code
def yL_cell : MethodName := ⟨RL, "cell", "([II)I"⟩
abbrev cL_out : ByteArray := method_3_code
def yL_out : MethodName := ⟨RL, "out", "(LRunForms;I[J)I"⟩
abbrev cL_law : ByteArray := code
def yL_law : MethodName := ⟨RL, "law", "([I)Z"⟩
abbrev jcl : List vw_C := [(RJ0, TJ0, 2), (RJx00060, TJx00060, 6), (RX0, TX0, 2), (RX1, TX1, 9), (RX2, TX2, 10), (RX3, TX3, 9), (RX4, TX4, 5), (RX5, TX5, 6), (RX6, TX6, 25)]
end
section
/-! the memory of a system whose cells never change their shape: whole numbers by cell and place; longs likewise -/
abbrev jM : Type := (Nat → Nat → Int32) × (Nat → Nat → Int64)
def jsI (μ : jM) (c k : Nat) (v : Int32) : jM := (fun c' k' => if c' = c ∧ k' = k then v else μ.1 c' k', μ.2)
def jsJ (μ : jM) (c k : Nat) (v : Int64) : jM := (μ.1, fun c' k' => if c' = c ∧ k' = k then v else μ.2 c' k')
def jcp (μ : jM) (c1 sp c2 dp n : Nat) : jM := (fun c' k' => if c' = c2 then va_cpy (μ.1 c1) (μ.1 c2) sp dp n k' else μ.1 c' k', μ.2)
/-- a cell's shape: an object of a class, each field a number or a fixed cell; or an array, its kind (0 int, 1 byte, 2 long) and length -/
abbrev jS : Type := (Nat × List (Option Nat)) ⊕ (Nat × Nat)
def jfv (ad : Nat → Nat) (μ : jM) (c k : Nat) (o : Option Nat) : Value := match o with
  | none => .int (μ.1 c k)
  | some j => .ref (ad j)
def jent (cy : Nat → ClassId) (ad : Nat → Nat) (μ : jM) (c : Nat) (s : jS) : va_E := match s with
  | .inl o => .inr (o.1, o.2.mapIdx (fun k q => jfv ad μ c k q))
  | .inr a => .inl (cy a.1, a.2, if a.1 = 2 then .inr (.inl (μ.2 c)) else .inl (μ.1 c))
def jW (cy : Nat → ClassId) (ad : Nat → Nat) (sh : List jS) (μ : jM) : va_W := sh.mapIdx (fun c s => (ad c, jent cy ad μ c s))
theorem jW_get {cy : Nat → ClassId} {ad : Nat → Nat} {sh : List jS} {c : Nat} {s : jS} (μ : jM) (h : sh[c]? = some s) : (jW cy ad sh μ)[c]? = some (ad c, jent cy ad μ c s) := by
  simp [jW, List.getElem?_mapIdx, h]
theorem jW_set {cy : Nat → ClassId} {ad : Nat → Nat} {sh : List jS} {c : Nat} {s : jS} {μ μ' : jM} {x : va_E} (h : sh[c]? = some s) (hx : jent cy ad μ' c s = x)
    (ho : ∀ c', c' ≠ c → μ'.1 c' = μ.1 c' ∧ μ'.2 c' = μ.2 c') : (jW cy ad sh μ).set c (ad c, x) = jW cy ad sh μ' := by
  have hl : c < sh.length := (List.getElem?_eq_some_iff.mp h).1
  apply List.ext_getElem?
  intro i
  by_cases hi : i = c
  · subst hi
    rw [List.getElem?_set_self (by simp [jW]; exact hl), jW_get μ' h, hx]
  · rw [List.getElem?_set_ne (Ne.symm hi)]
    cases hs : sh[i]? with
    | none => simp [jW, List.getElem?_mapIdx, hs]
    | some s' =>
      rw [jW_get μ hs, jW_get μ' hs]
      obtain ⟨h1, h2⟩ := ho i hi
      congr 2
      cases s' with
      | inl o =>
        have : jfv ad μ i = jfv ad μ' i := by
          funext k q
          cases q <;> simp [jfv, h1]
        simp [jent, this]
      | inr a => simp [jent, h1, h2]
/-- the machine's side of a frame; the world's side -/
abbrev jC : Type _ := Program × Launch × Env × Room × State × MethodId × Array Value × List Frame × Method × Code
abbrev jD : Type _ := va_G × (Nat → ClassId) × (Nat → Nat) × (Nat → Prop)
def jr (Δ : jD) (c : Nat) : Value := .ref (Δ.2.2.1 c)
def jtys (cy : Nat → ClassId) : List (ClassId × FieldType) := [(cy 0, .int), (cy 1, .byte), (cy 2, .long)]
def jT : List Cond := lw_tbl.filter goodWord
def jL (ls : Array Slot) (L : List (Option Value)) : Prop := ls.size = L.length ∧ lv_wf ls ∧ ∀ (i : Nat) (v : Value), L[i]? = some (some v) → ls[i]? = some (.val v)
def jQc (Δ : jD) (sh : List jS) (fin : Option Value × jM) : Array Value → State → Outcome → State → Prop := fun _ st oc t =>
  oc = .returned fin.1 ∧ va_P Δ.1 jcl (jW Δ.2.1 Δ.2.2.1 sh fin.2) t.heap ∧ va_F Δ.2.2.2 st t
def jRm (d : Nat) : Room := { frames := d, cells := 0, slots := 0, locals := 60 * d }
/-- from here the frame comes to its end, with the answer and the memory 'fin' -/
def jG (Γ : jC) (Δ : jD) (sh : List jS) (fin : Option Value × jM) (pc : Nat) (L : List (Option Value)) (st : List Value) (μ : jM) : Prop := match Γ with
  | (p, l, e, R, s, m, args, below, meth, c) => ∀ (H : Heap) (locs : List Loc) (ls : Array Slot), va_P Δ.1 jcl (jW Δ.2.1 Δ.2.2.1 sh μ) H → va_S Δ.2.2.2 s.heap H locs → jL ls L →
      W p l e R s m args below meth c H locs 0 0 (MQ below (jQc Δ sh fin) args s 0 0 Δ.2.2.2) (F0 m pc ls st)
def jOk (Γ : jC) (Δ : jD) (sh : List jS) (cc : ByteArray) (nL : Nat) (own : String) (ret : Option FieldType) (d : Nat) : Prop := match Γ with
  | (p, l, e, R, s, m, args, below, meth, c) => p.tables.exec = Jvm.exec ∧ c.code = cc ∧ c.maxLocals = nL ∧ s.vm.findClass own = some m.cls ∧ (∀ w ∈ jT, w.before args s = true) ∧ meth.locks = false ∧ meth.sig.returnType = ret ∧ R = jRm d ∧
      va_K Δ.1 jcl (jtys Δ.2.1) s ∧ ∀ μ, va_D Δ.2.2.2 (jW Δ.2.1 Δ.2.2.1 sh μ)
theorem jL_pairs {ls : Array Slot} {L : List (Option Value)} (h : jL ls L) : lv_has ls L.length ((List.range L.length).filterMap (fun j => (L.getD j none).map (fun v => (j, v)))) := by
  refine ⟨h.1, h.2.1, fun q hq => ?_⟩
  obtain ⟨j, hj, hv⟩ := List.mem_filterMap.mp hq
  rw [List.mem_range] at hj
  cases hg : L[j]? with
  | none => rw [List.getElem?_eq_none_iff] at hg; omega
  | some o =>
    rw [List.getD_eq_getElem?_getD, hg] at hv
    cases o with
    | none => simp at hv
    | some v =>
      simp at hv
      rw [← hv]
      exact h.2.2 j v hg
theorem jL_mem {L : List (Option Value)} {j : Nat} {v : Value} (h : L[j]? = some (some v)) : (j, v) ∈ (List.range L.length).filterMap (fun j => (L.getD j none).map (fun v => (j, v))) := by
  refine List.mem_filterMap.mpr ⟨j, List.mem_range.mpr (List.getElem?_eq_some_iff.mp h).1, ?_⟩
  rw [List.getD_eq_getElem?_getD, h]
  rfl
/-- the place before holds no long -/
def jpre (L : List (Option Value)) (i : Nat) : Bool := match i with
  | 0 => true
  | j + 1 => match L[j]? with
    | some (some v) => !(v.category == 2)
    | _ => true
theorem jpre_ne {L : List (Option Value)} {i j : Nat} {w : Value} (hp : jpre L i = true) (hw : L[j]? = some (some w)) (h : j + 1 = i) : ¬ w.category = 2 := by
  subst h
  simp only [jpre, hw] at hp
  simpa using hp
theorem jL_store1 {ls : Array Slot} {L : List (Option Value)} {i : Nat} {v : Value} (h : jL ls L) (hi : i < L.length) (hp : jpre L i = true) {ls' : Array Slot}
    (h' : lv_has ls' L.length ((i, v) :: ((List.range L.length).filterMap (fun j => (L.getD j none).map (fun v => (j, v)))).filter (fun q => !(q.1 == i) && !(q.1 + 1 == i && q.2.category == 2)))) : jL ls' (L.set i (some v)) := by
  refine ⟨by rw [List.length_set]; exact h'.1, h'.2.1, fun j w hw => ?_⟩
  by_cases hj : j = i
  · subst hj
    rw [List.getElem?_set_self hi] at hw
    cases hw
    exact h'.2.2 (j, v) List.mem_cons_self
  · rw [List.getElem?_set_ne (Ne.symm hj)] at hw
    refine h'.2.2 (j, w) (List.mem_cons_of_mem _ (List.mem_filter.mpr ⟨jL_mem hw, ?_⟩))
    have h2 : ¬ (j + 1 = i ∧ w.category = 2) := fun q => jpre_ne hp hw q.1 q.2
    simp only [Bool.and_eq_true, Bool.not_eq_true', beq_eq_false_iff_ne, ne_eq, Bool.and_eq_false_iff]
    refine ⟨hj, ?_⟩
    by_cases q : j + 1 = i
    · exact Or.inr (fun z => h2 ⟨q, z⟩)
    · exact Or.inl q
theorem jL_store2 {ls : Array Slot} {L : List (Option Value)} {i : Nat} {v : Value} (h : jL ls L) (hi : i + 1 < L.length) (hp : jpre L i = true) {ls' : Array Slot}
    (h' : lv_has ls' L.length ((i, v) :: ((List.range L.length).filterMap (fun j => (L.getD j none).map (fun v => (j, v)))).filter (fun q => !(q.1 == i) && (!(q.1 == i + 1) && !(q.1 + 1 == i && q.2.category == 2))))) : jL ls' ((L.set i (some v)).set (i + 1) none) := by
  refine ⟨by rw [List.length_set, List.length_set]; exact h'.1, h'.2.1, fun j w hw => ?_⟩
  by_cases hj1 : j = i + 1
  · subst hj1
    rw [List.getElem?_set_self (by rw [List.length_set]; exact hi)] at hw
    cases hw
  rw [List.getElem?_set_ne (Ne.symm hj1)] at hw
  by_cases hj : j = i
  · subst hj
    rw [List.getElem?_set_self (by omega)] at hw
    cases hw
    exact h'.2.2 (j, v) List.mem_cons_self
  · rw [List.getElem?_set_ne (Ne.symm hj)] at hw
    refine h'.2.2 (j, w) (List.mem_cons_of_mem _ (List.mem_filter.mpr ⟨jL_mem hw, ?_⟩))
    have h2 : ¬ (j + 1 = i ∧ w.category = 2) := fun q => jpre_ne hp hw q.1 q.2
    simp only [Bool.and_eq_true, Bool.not_eq_true', beq_eq_false_iff_ne, ne_eq, Bool.and_eq_false_iff]
    refine ⟨hj, hj1, ?_⟩
    by_cases q : j + 1 = i
    · exact Or.inr (fun z => h2 ⟨q, z⟩)
    · exact Or.inl q
section JROWS
variable {Γ : jC} {Δ : jD} {sh : List jS} {cc : ByteArray} {nL : Nat} {own : String} {ret : Option FieldType} {d : Nat} {fin : Option Value × jM} {pc : Nat} {L : List (Option Value)} {st : List Value} {μ : jM}
theorem g_iadd {x y : Int32} (X : jOk Γ Δ sh cc nL own ret d) (dd : decode cc pc = .ok (.iadd, 1))  (g : jG Γ Δ sh fin (pc + 1) L (.int (x + y) :: st) μ) : jG Γ Δ sh fin pc L (.int y :: .int x :: st) μ := by
  obtain ⟨p, l, e, R, s, m, args, below, meth, c⟩ := Γ
  obtain ⟨hx, hb, hml, hown, hts, hlocks, hr, hR, hK, hD⟩ := X
  intro H locs ls hP hS hL
  exact lv_iadd hx hb dd  (g H locs ls hP hS hL)
theorem g_isub {x y : Int32} (X : jOk Γ Δ sh cc nL own ret d) (dd : decode cc pc = .ok (.isub, 1))  (g : jG Γ Δ sh fin (pc + 1) L (.int (x - y) :: st) μ) : jG Γ Δ sh fin pc L (.int y :: .int x :: st) μ := by
  obtain ⟨p, l, e, R, s, m, args, below, meth, c⟩ := Γ
  obtain ⟨hx, hb, hml, hown, hts, hlocks, hr, hR, hK, hD⟩ := X
  intro H locs ls hP hS hL
  exact lv_isub hx hb dd  (g H locs ls hP hS hL)
theorem g_imul {x y : Int32} (X : jOk Γ Δ sh cc nL own ret d) (dd : decode cc pc = .ok (.imul, 1))  (g : jG Γ Δ sh fin (pc + 1) L (.int (x * y) :: st) μ) : jG Γ Δ sh fin pc L (.int y :: .int x :: st) μ := by
  obtain ⟨p, l, e, R, s, m, args, below, meth, c⟩ := Γ
  obtain ⟨hx, hb, hml, hown, hts, hlocks, hr, hR, hK, hD⟩ := X
  intro H locs ls hP hS hL
  exact lv_imul hx hb dd  (g H locs ls hP hS hL)
theorem g_iand {x y : Int32} (X : jOk Γ Δ sh cc nL own ret d) (dd : decode cc pc = .ok (.iand, 1))  (g : jG Γ Δ sh fin (pc + 1) L (.int (x &&& y) :: st) μ) : jG Γ Δ sh fin pc L (.int y :: .int x :: st) μ := by
  obtain ⟨p, l, e, R, s, m, args, below, meth, c⟩ := Γ
  obtain ⟨hx, hb, hml, hown, hts, hlocks, hr, hR, hK, hD⟩ := X
  intro H locs ls hP hS hL
  exact lv_iand hx hb dd  (g H locs ls hP hS hL)
theorem g_ior {x y : Int32} (X : jOk Γ Δ sh cc nL own ret d) (dd : decode cc pc = .ok (.ior, 1))  (g : jG Γ Δ sh fin (pc + 1) L (.int (x ||| y) :: st) μ) : jG Γ Δ sh fin pc L (.int y :: .int x :: st) μ := by
  obtain ⟨p, l, e, R, s, m, args, below, meth, c⟩ := Γ
  obtain ⟨hx, hb, hml, hown, hts, hlocks, hr, hR, hK, hD⟩ := X
  intro H locs ls hP hS hL
  exact lv_ior hx hb dd  (g H locs ls hP hS hL)
theorem g_ladd {x y : Int64} (X : jOk Γ Δ sh cc nL own ret d) (dd : decode cc pc = .ok (.ladd, 1))  (g : jG Γ Δ sh fin (pc + 1) L (.long (x + y) :: st) μ) : jG Γ Δ sh fin pc L (.long y :: .long x :: st) μ := by
  obtain ⟨p, l, e, R, s, m, args, below, meth, c⟩ := Γ
  obtain ⟨hx, hb, hml, hown, hts, hlocks, hr, hR, hK, hD⟩ := X
  intro H locs ls hP hS hL
  exact lv_ladd hx hb dd  (g H locs ls hP hS hL)
theorem g_lsub {x y : Int64} (X : jOk Γ Δ sh cc nL own ret d) (dd : decode cc pc = .ok (.lsub, 1))  (g : jG Γ Δ sh fin (pc + 1) L (.long (x - y) :: st) μ) : jG Γ Δ sh fin pc L (.long y :: .long x :: st) μ := by
  obtain ⟨p, l, e, R, s, m, args, below, meth, c⟩ := Γ
  obtain ⟨hx, hb, hml, hown, hts, hlocks, hr, hR, hK, hD⟩ := X
  intro H locs ls hP hS hL
  exact lv_lsub hx hb dd  (g H locs ls hP hS hL)
theorem g_land {x y : Int64} (X : jOk Γ Δ sh cc nL own ret d) (dd : decode cc pc = .ok (.land, 1))  (g : jG Γ Δ sh fin (pc + 1) L (.long (x &&& y) :: st) μ) : jG Γ Δ sh fin pc L (.long y :: .long x :: st) μ := by
  obtain ⟨p, l, e, R, s, m, args, below, meth, c⟩ := Γ
  obtain ⟨hx, hb, hml, hown, hts, hlocks, hr, hR, hK, hD⟩ := X
  intro H locs ls hP hS hL
  exact lv_land hx hb dd  (g H locs ls hP hS hL)
theorem g_lor {x y : Int64} (X : jOk Γ Δ sh cc nL own ret d) (dd : decode cc pc = .ok (.lor, 1))  (g : jG Γ Δ sh fin (pc + 1) L (.long (x ||| y) :: st) μ) : jG Γ Δ sh fin pc L (.long y :: .long x :: st) μ := by
  obtain ⟨p, l, e, R, s, m, args, below, meth, c⟩ := Γ
  obtain ⟨hx, hb, hml, hown, hts, hlocks, hr, hR, hK, hD⟩ := X
  intro H locs ls hP hS hL
  exact lv_lor hx hb dd  (g H locs ls hP hS hL)
theorem g_idiv {x y : Int32} (X : jOk Γ Δ sh cc nL own ret d) (dd : decode cc pc = .ok (.idiv, 1)) (h : ¬ y = 0) (g : jG Γ Δ sh fin (pc + 1) L (.int (x / y) :: st) μ) : jG Γ Δ sh fin pc L (.int y :: .int x :: st) μ := by
  obtain ⟨p, l, e, R, s, m, args, below, meth, c⟩ := Γ
  obtain ⟨hx, hb, hml, hown, hts, hlocks, hr, hR, hK, hD⟩ := X
  intro H locs ls hP hS hL
  exact lv_idiv hx hb dd h (g H locs ls hP hS hL)
theorem g_irem {x y : Int32} (X : jOk Γ Δ sh cc nL own ret d) (dd : decode cc pc = .ok (.irem, 1)) (h : ¬ y = 0) (g : jG Γ Δ sh fin (pc + 1) L (.int (x - x / y * y) :: st) μ) : jG Γ Δ sh fin pc L (.int y :: .int x :: st) μ := by
  obtain ⟨p, l, e, R, s, m, args, below, meth, c⟩ := Γ
  obtain ⟨hx, hb, hml, hown, hts, hlocks, hr, hR, hK, hD⟩ := X
  intro H locs ls hP hS hL
  exact lv_irem hx hb dd h (g H locs ls hP hS hL)
theorem g_ishl {x y : Int32} (X : jOk Γ Δ sh cc nL own ret d) (dd : decode cc pc = .ok (.ishl, 1))  (g : jG Γ Δ sh fin (pc + 1) L (.int (x <<< (y &&& 31)) :: st) μ) : jG Γ Δ sh fin pc L (.int y :: .int x :: st) μ := by
  obtain ⟨p, l, e, R, s, m, args, below, meth, c⟩ := Γ
  obtain ⟨hx, hb, hml, hown, hts, hlocks, hr, hR, hK, hD⟩ := X
  intro H locs ls hP hS hL
  exact lv_ishl hx hb dd  (g H locs ls hP hS hL)
theorem g_iushr {x y : Int32} (X : jOk Γ Δ sh cc nL own ret d) (dd : decode cc pc = .ok (.iushr, 1))  (g : jG Γ Δ sh fin (pc + 1) L (.int ((x.toUInt32 >>> (y.toUInt32 &&& Int32.toUInt32 31)).toInt32) :: st) μ) : jG Γ Δ sh fin pc L (.int y :: .int x :: st) μ := by
  obtain ⟨p, l, e, R, s, m, args, below, meth, c⟩ := Γ
  obtain ⟨hx, hb, hml, hown, hts, hlocks, hr, hR, hK, hD⟩ := X
  intro H locs ls hP hS hL
  exact lv_iushr hx hb dd rfl (g H locs ls hP hS hL)
theorem g_lshl {x : Int64} {y : Int32} (X : jOk Γ Δ sh cc nL own ret d) (dd : decode cc pc = .ok (.lshl, 1))  (g : jG Γ Δ sh fin (pc + 1) L (.long (x <<< (y.toInt64 &&& 63)) :: st) μ) : jG Γ Δ sh fin pc L (.int y :: .long x :: st) μ := by
  obtain ⟨p, l, e, R, s, m, args, below, meth, c⟩ := Γ
  obtain ⟨hx, hb, hml, hown, hts, hlocks, hr, hR, hK, hD⟩ := X
  intro H locs ls hP hS hL
  exact lv_lshl hx hb dd rfl (g H locs ls hP hS hL)
theorem g_lshr {x : Int64} {y : Int32} (X : jOk Γ Δ sh cc nL own ret d) (dd : decode cc pc = .ok (.lshr, 1))  (g : jG Γ Δ sh fin (pc + 1) L (.long (x >>> (y.toInt64 &&& 63)) :: st) μ) : jG Γ Δ sh fin pc L (.int y :: .long x :: st) μ := by
  obtain ⟨p, l, e, R, s, m, args, below, meth, c⟩ := Γ
  obtain ⟨hx, hb, hml, hown, hts, hlocks, hr, hR, hK, hD⟩ := X
  intro H locs ls hP hS hL
  exact lv_lshr hx hb dd rfl (g H locs ls hP hS hL)
theorem g_i2l {x : Int32} (X : jOk Γ Δ sh cc nL own ret d) (dd : decode cc pc = .ok (.i2l, 1))  (g : jG Γ Δ sh fin (pc + 1) L (.long x.toInt64 :: st) μ) : jG Γ Δ sh fin pc L (.int x :: st) μ := by
  obtain ⟨p, l, e, R, s, m, args, below, meth, c⟩ := Γ
  obtain ⟨hx, hb, hml, hown, hts, hlocks, hr, hR, hK, hD⟩ := X
  intro H locs ls hP hS hL
  exact lv_i2l hx hb dd rfl (g H locs ls hP hS hL)
theorem g_l2i {x : Int64} (X : jOk Γ Δ sh cc nL own ret d) (dd : decode cc pc = .ok (.l2i, 1))  (g : jG Γ Δ sh fin (pc + 1) L (.int x.toInt32 :: st) μ) : jG Γ Δ sh fin pc L (.long x :: st) μ := by
  obtain ⟨p, l, e, R, s, m, args, below, meth, c⟩ := Γ
  obtain ⟨hx, hb, hml, hown, hts, hlocks, hr, hR, hK, hD⟩ := X
  intro H locs ls hP hS hL
  exact lv_l2i hx hb dd rfl (g H locs ls hP hS hL)
theorem g_i2b {x : Int32} (X : jOk Γ Δ sh cc nL own ret d) (dd : decode cc pc = .ok (.i2b, 1))  (g : jG Γ Δ sh fin (pc + 1) L (.int x.toInt8.toInt32 :: st) μ) : jG Γ Δ sh fin pc L (.int x :: st) μ := by
  obtain ⟨p, l, e, R, s, m, args, below, meth, c⟩ := Γ
  obtain ⟨hx, hb, hml, hown, hts, hlocks, hr, hR, hK, hD⟩ := X
  intro H locs ls hP hS hL
  exact lv_i2b hx hb dd rfl (g H locs ls hP hS hL)
theorem g_lcmp {x y : Int64} (X : jOk Γ Δ sh cc nL own ret d) (dd : decode cc pc = .ok (.lcmp, 1))  (g : jG Γ Δ sh fin (pc + 1) L (.int (lg_cmp x y) :: st) μ) : jG Γ Δ sh fin pc L (.long y :: .long x :: st) μ := by
  obtain ⟨p, l, e, R, s, m, args, below, meth, c⟩ := Γ
  obtain ⟨hx, hb, hml, hown, hts, hlocks, hr, hR, hK, hD⟩ := X
  intro H locs ls hP hS hL
  exact W.lcmp hx hb dd  (g H locs ls hP hS hL)
theorem g_iconst {n : Int} {v : Int32} (X : jOk Γ Δ sh cc nL own ret d) (dd : decode cc pc = .ok (.iconst n, 1)) (hv : Int32.ofInt n = v) (g : jG Γ Δ sh fin (pc + 1) L (.int v :: st) μ) : jG Γ Δ sh fin pc L (st) μ := by
  obtain ⟨p, l, e, R, s, m, args, below, meth, c⟩ := Γ
  obtain ⟨hx, hb, hml, hown, hts, hlocks, hr, hR, hK, hD⟩ := X
  intro H locs ls hP hS hL
  exact lv_iconst hx hb dd hv (g H locs ls hP hS hL)
theorem g_bipush {n : Int} {v : Int32} (X : jOk Γ Δ sh cc nL own ret d) (dd : decode cc pc = .ok (.bipush n, 2)) (hv : (Int8.ofInt n).toInt32 = v) (g : jG Γ Δ sh fin (pc + 2) L (.int v :: st) μ) : jG Γ Δ sh fin pc L (st) μ := by
  obtain ⟨p, l, e, R, s, m, args, below, meth, c⟩ := Γ
  obtain ⟨hx, hb, hml, hown, hts, hlocks, hr, hR, hK, hD⟩ := X
  intro H locs ls hP hS hL
  exact lv_bipush hx hb dd hv (g H locs ls hP hS hL)
theorem g_sipush {n : Int} {v : Int32} (X : jOk Γ Δ sh cc nL own ret d) (dd : decode cc pc = .ok (.sipush n, 3)) (hv : (Int16.ofInt n).toInt32 = v) (g : jG Γ Δ sh fin (pc + 3) L (.int v :: st) μ) : jG Γ Δ sh fin pc L (st) μ := by
  obtain ⟨p, l, e, R, s, m, args, below, meth, c⟩ := Γ
  obtain ⟨hx, hb, hml, hown, hts, hlocks, hr, hR, hK, hD⟩ := X
  intro H locs ls hP hS hL
  exact lv_sipush hx hb dd hv (g H locs ls hP hS hL)
theorem g_lconst {n : Fin 2} {v : Int64} (X : jOk Γ Δ sh cc nL own ret d) (dd : decode cc pc = .ok (.lconst n, 1)) (hv : Int64.ofNat (n : Nat) = v) (g : jG Γ Δ sh fin (pc + 1) L (.long v :: st) μ) : jG Γ Δ sh fin pc L (st) μ := by
  obtain ⟨p, l, e, R, s, m, args, below, meth, c⟩ := Γ
  obtain ⟨hx, hb, hml, hown, hts, hlocks, hr, hR, hK, hD⟩ := X
  intro H locs ls hP hS hL
  exact lv_lconst hx hb dd hv (g H locs ls hP hS hL)
theorem g_ldc {i : Nat} {v : Int32} (X : jOk Γ Δ sh cc nL own ret d) (dd : decode cc pc = .ok (.ldc i, 2)) (hw : Cond.constant own i v ∈ jT) (g : jG Γ Δ sh fin (pc + 2) L (.int v :: st) μ) : jG Γ Δ sh fin pc L (st) μ := by
  obtain ⟨p, l, e, R, s, m, args, below, meth, c⟩ := Γ
  obtain ⟨hx, hb, hml, hown, hts, hlocks, hr, hR, hK, hD⟩ := X
  intro H locs ls hP hS hL
  exact lv_ldc hx hb hown (hts _ hw) dd (g H locs ls hP hS hL)
theorem g_ldc2 {i : Nat} {v : Int64} (X : jOk Γ Δ sh cc nL own ret d) (dd : decode cc pc = .ok (.ldc2_w i, 3)) (hw : Cond.constantLong own i v ∈ jT) (g : jG Γ Δ sh fin (pc + 3) L (.long v :: st) μ) : jG Γ Δ sh fin pc L (st) μ := by
  obtain ⟨p, l, e, R, s, m, args, below, meth, c⟩ := Γ
  obtain ⟨hx, hb, hml, hown, hts, hlocks, hr, hR, hK, hD⟩ := X
  intro H locs ls hP hS hL
  exact lv_ldc2 hx hb hown (hts _ hw) dd (g H locs ls hP hS hL)
theorem g_null  (X : jOk Γ Δ sh cc nL own ret d) (dd : decode cc pc = .ok (.aconst_null, 1))  (g : jG Γ Δ sh fin (pc + 1) L (.null :: st) μ) : jG Γ Δ sh fin pc L (st) μ := by
  obtain ⟨p, l, e, R, s, m, args, below, meth, c⟩ := Γ
  obtain ⟨hx, hb, hml, hown, hts, hlocks, hr, hR, hK, hD⟩ := X
  intro H locs ls hP hS hL
  exact lv_null hx hb dd  (g H locs ls hP hS hL)
theorem g_dupI {x : Int32} (X : jOk Γ Δ sh cc nL own ret d) (dd : decode cc pc = .ok (.dup, 1))  (g : jG Γ Δ sh fin (pc + 1) L (.int x :: .int x :: st) μ) : jG Γ Δ sh fin pc L (.int x :: st) μ := by
  obtain ⟨p, l, e, R, s, m, args, below, meth, c⟩ := Γ
  obtain ⟨hx, hb, hml, hown, hts, hlocks, hr, hR, hK, hD⟩ := X
  intro H locs ls hP hS hL
  exact lv_dup hx hb dd rfl (g H locs ls hP hS hL)
theorem g_dupR {x : Nat} (X : jOk Γ Δ sh cc nL own ret d) (dd : decode cc pc = .ok (.dup, 1))  (g : jG Γ Δ sh fin (pc + 1) L (jr Δ x :: jr Δ x :: st) μ) : jG Γ Δ sh fin pc L (jr Δ x :: st) μ := by
  obtain ⟨p, l, e, R, s, m, args, below, meth, c⟩ := Γ
  obtain ⟨hx, hb, hml, hown, hts, hlocks, hr, hR, hK, hD⟩ := X
  intro H locs ls hP hS hL
  exact lv_dup hx hb dd rfl (g H locs ls hP hS hL)
theorem g_popI {x : Int32} (X : jOk Γ Δ sh cc nL own ret d) (dd : decode cc pc = .ok (.pop, 1))  (g : jG Γ Δ sh fin (pc + 1) L (st) μ) : jG Γ Δ sh fin pc L (.int x :: st) μ := by
  obtain ⟨p, l, e, R, s, m, args, below, meth, c⟩ := Γ
  obtain ⟨hx, hb, hml, hown, hts, hlocks, hr, hR, hK, hD⟩ := X
  intro H locs ls hP hS hL
  exact lv_pop hx hb dd rfl (g H locs ls hP hS hL)
theorem g_ild_n {k : Fin 4} {i : Nat} {x : Int32} (X : jOk Γ Δ sh cc nL own ret d) (dd : decode cc pc = .ok (.iload_n k, 1)) (hi : (k : Nat) = i) (hl : L[i]? = some (some (.int x))) (g : jG Γ Δ sh fin (pc + 1) L (.int x :: st) μ) : jG Γ Δ sh fin pc L (st) μ := by
  obtain ⟨p, l, e, R, s, m, args, below, meth, c⟩ := Γ
  obtain ⟨hx, hb, hml, hown, hts, hlocks, hr, hR, hK, hD⟩ := X
  intro H locs ls hP hS hL
  exact lv_iload_n hx hb dd hi (hL.2.2 i _ hl) (g H locs ls hP hS hL)
theorem g_ild {i : Nat} {x : Int32} (X : jOk Γ Δ sh cc nL own ret d) (dd : decode cc pc = .ok (.iload i, 2)) (hl : L[i]? = some (some (.int x))) (g : jG Γ Δ sh fin (pc + 2) L (.int x :: st) μ) : jG Γ Δ sh fin pc L (st) μ := by
  obtain ⟨p, l, e, R, s, m, args, below, meth, c⟩ := Γ
  obtain ⟨hx, hb, hml, hown, hts, hlocks, hr, hR, hK, hD⟩ := X
  intro H locs ls hP hS hL
  exact lv_iload hx hb dd (hL.2.2 i _ hl) (g H locs ls hP hS hL)
theorem g_lld_n {k : Fin 4} {i : Nat} {x : Int64} (X : jOk Γ Δ sh cc nL own ret d) (dd : decode cc pc = .ok (.lload_n k, 1)) (hi : (k : Nat) = i) (hl : L[i]? = some (some (.long x))) (g : jG Γ Δ sh fin (pc + 1) L (.long x :: st) μ) : jG Γ Δ sh fin pc L (st) μ := by
  obtain ⟨p, l, e, R, s, m, args, below, meth, c⟩ := Γ
  obtain ⟨hx, hb, hml, hown, hts, hlocks, hr, hR, hK, hD⟩ := X
  intro H locs ls hP hS hL
  exact lv_lload_n hx hb dd hi (hL.2.2 i _ hl) (g H locs ls hP hS hL)
theorem g_lld {i : Nat} {x : Int64} (X : jOk Γ Δ sh cc nL own ret d) (dd : decode cc pc = .ok (.lload i, 2)) (hl : L[i]? = some (some (.long x))) (g : jG Γ Δ sh fin (pc + 2) L (.long x :: st) μ) : jG Γ Δ sh fin pc L (st) μ := by
  obtain ⟨p, l, e, R, s, m, args, below, meth, c⟩ := Γ
  obtain ⟨hx, hb, hml, hown, hts, hlocks, hr, hR, hK, hD⟩ := X
  intro H locs ls hP hS hL
  exact lv_lload hx hb dd (hL.2.2 i _ hl) (g H locs ls hP hS hL)
theorem g_ald_n {k : Fin 4} {i x : Nat} (X : jOk Γ Δ sh cc nL own ret d) (dd : decode cc pc = .ok (.aload_n k, 1)) (hi : (k : Nat) = i) (hl : L[i]? = some (some (jr Δ x))) (g : jG Γ Δ sh fin (pc + 1) L (jr Δ x :: st) μ) : jG Γ Δ sh fin pc L (st) μ := by
  obtain ⟨p, l, e, R, s, m, args, below, meth, c⟩ := Γ
  obtain ⟨hx, hb, hml, hown, hts, hlocks, hr, hR, hK, hD⟩ := X
  intro H locs ls hP hS hL
  exact lv_aload_n hx hb dd hi (hL.2.2 i _ hl) (g H locs ls hP hS hL)
theorem g_aldN_n {k : Fin 4} {i : Nat} (X : jOk Γ Δ sh cc nL own ret d) (dd : decode cc pc = .ok (.aload_n k, 1)) (hi : (k : Nat) = i) (hl : L[i]? = some (some .null)) (g : jG Γ Δ sh fin (pc + 1) L (.null :: st) μ) : jG Γ Δ sh fin pc L (st) μ := by
  obtain ⟨p, l, e, R, s, m, args, below, meth, c⟩ := Γ
  obtain ⟨hx, hb, hml, hown, hts, hlocks, hr, hR, hK, hD⟩ := X
  intro H locs ls hP hS hL
  exact lv_aload_nN hx hb dd hi (hL.2.2 i _ hl) (g H locs ls hP hS hL)
theorem g_ist_n {k : Fin 4} {i : Nat} {x : Int32} {L1 : List (Option Value)} (X : jOk Γ Δ sh cc nL own ret d) (dd : decode cc pc = .ok (.istore_n k, 1)) (hk : (k : Nat) = i) (hi : i < L.length) (hp : jpre L i = true) (hL1 : L.set i (some (.int x)) = L1) (g : jG Γ Δ sh fin (pc + 1) L1 st μ) : jG Γ Δ sh fin pc L (.int x :: st) μ := by
  subst hL1
  obtain ⟨p, l, e, R, s, m, args, below, meth, c⟩ := Γ
  obtain ⟨hx, hb, hml, hown, hts, hlocks, hr, hR, hK, hD⟩ := X
  intro H locs ls hP hS hL
  exact lv_istore_n hx hb dd hk (jL_pairs hL) hi rfl (fun ls1 h1 => g H locs ls1 hP hS (jL_store1 hL hi hp h1))
theorem g_ist {i : Nat} {x : Int32} {L1 : List (Option Value)} (X : jOk Γ Δ sh cc nL own ret d) (dd : decode cc pc = .ok (.istore i, 2))  (hi : i < L.length) (hp : jpre L i = true) (hL1 : L.set i (some (.int x)) = L1) (g : jG Γ Δ sh fin (pc + 2) L1 st μ) : jG Γ Δ sh fin pc L (.int x :: st) μ := by
  subst hL1
  obtain ⟨p, l, e, R, s, m, args, below, meth, c⟩ := Γ
  obtain ⟨hx, hb, hml, hown, hts, hlocks, hr, hR, hK, hD⟩ := X
  intro H locs ls hP hS hL
  exact lv_istore hx hb dd  (jL_pairs hL) hi rfl (fun ls1 h1 => g H locs ls1 hP hS (jL_store1 hL hi hp h1))
theorem g_ast_n {k : Fin 4} {i x : Nat} {L1 : List (Option Value)} (X : jOk Γ Δ sh cc nL own ret d) (dd : decode cc pc = .ok (.astore_n k, 1)) (hk : (k : Nat) = i) (hi : i < L.length) (hp : jpre L i = true) (hL1 : L.set i (some (jr Δ x)) = L1) (g : jG Γ Δ sh fin (pc + 1) L1 st μ) : jG Γ Δ sh fin pc L (jr Δ x :: st) μ := by
  subst hL1
  obtain ⟨p, l, e, R, s, m, args, below, meth, c⟩ := Γ
  obtain ⟨hx, hb, hml, hown, hts, hlocks, hr, hR, hK, hD⟩ := X
  intro H locs ls hP hS hL
  exact lv_astore_n hx hb dd hk (jL_pairs hL) hi rfl (fun ls1 h1 => g H locs ls1 hP hS (jL_store1 hL hi hp h1))
theorem g_astN_n {k : Fin 4} {i : Nat} {L1 : List (Option Value)} (X : jOk Γ Δ sh cc nL own ret d) (dd : decode cc pc = .ok (.astore_n k, 1)) (hk : (k : Nat) = i) (hi : i < L.length) (hp : jpre L i = true) (hL1 : L.set i (some (.null)) = L1) (g : jG Γ Δ sh fin (pc + 1) L1 st μ) : jG Γ Δ sh fin pc L (.null :: st) μ := by
  subst hL1
  obtain ⟨p, l, e, R, s, m, args, below, meth, c⟩ := Γ
  obtain ⟨hx, hb, hml, hown, hts, hlocks, hr, hR, hK, hD⟩ := X
  intro H locs ls hP hS hL
  exact lv_astore_nN hx hb dd hk (jL_pairs hL) hi rfl (fun ls1 h1 => g H locs ls1 hP hS (jL_store1 hL hi hp h1))
theorem g_lst_n {k : Fin 4} {i : Nat} {x : Int64} {L1 : List (Option Value)} (X : jOk Γ Δ sh cc nL own ret d) (dd : decode cc pc = .ok (.lstore_n k, 1)) (hk : (k : Nat) = i) (hi : i + 1 < L.length) (hp : jpre L i = true) (hL1 : (L.set i (some (.long x))).set (i + 1) none = L1) (g : jG Γ Δ sh fin (pc + 1) L1 st μ) : jG Γ Δ sh fin pc L (.long x :: st) μ := by
  subst hL1
  obtain ⟨p, l, e, R, s, m, args, below, meth, c⟩ := Γ
  obtain ⟨hx, hb, hml, hown, hts, hlocks, hr, hR, hK, hD⟩ := X
  intro H locs ls hP hS hL
  exact lv_lstore_n hx hb dd hk (jL_pairs hL) hi rfl (fun ls1 h1 => g H locs ls1 hP hS (jL_store2 hL hi hp h1))
theorem g_iinc {i : Nat} {n : Int} {x v : Int32} {L1 : List (Option Value)} (X : jOk Γ Δ sh cc nL own ret d) (dd : decode cc pc = .ok (.iinc i n, 3)) (hl : L[i]? = some (some (.int x))) (hv : x + Int32.ofInt n = v) (hp : jpre L i = true) (hL1 : L.set i (some (.int v)) = L1) (g : jG Γ Δ sh fin (pc + 3) L1 st μ) : jG Γ Δ sh fin pc L st μ := by
  subst hL1
  obtain ⟨p, l, e, R, s, m, args, below, meth, c⟩ := Γ
  obtain ⟨hx, hb, hml, hown, hts, hlocks, hr, hR, hK, hD⟩ := X
  intro H locs ls hP hS hL
  have hi : i < L.length := (List.getElem?_eq_some_iff.mp hl).1
  obtain ⟨k, hk⟩ := List.getElem?_of_mem (jL_mem hl)
  exact lv_iinc hx hb dd (jL_pairs hL) hk hv hi rfl (fun ls1 h1 => g H locs ls1 hP hS (jL_store1 hL hi hp h1))
theorem g_if_eq {x : Int32} {off : Int} (tgt : Nat) (X : jOk Γ Δ sh cc nL own ret d) (dd : decode cc pc = .ok (.ifCond .eq off, 3)) (ht : (pc : Int) + off = (tgt : Int)) (kt : x = 0 → jG Γ Δ sh fin tgt L st μ) (kf : ¬ (x = 0) → jG Γ Δ sh fin (pc + 3) L st μ) : jG Γ Δ sh fin pc L (.int x :: st) μ := by
  obtain ⟨p, l, e, R, s, m, args, below, meth, c⟩ := Γ
  obtain ⟨hx, hb, hml, hown, hts, hlocks, hr, hR, hK, hD⟩ := X
  intro H locs ls hP hS hL
  exact lv_if_eq hx hb dd ht (fun q => kt q H locs ls hP hS hL) (fun q => kf q H locs ls hP hS hL)
theorem g_icmp_eq {x y : Int32} {off : Int} (tgt : Nat) (X : jOk Γ Δ sh cc nL own ret d) (dd : decode cc pc = .ok (.if_icmp .eq off, 3)) (ht : (pc : Int) + off = (tgt : Int)) (kt : x = y → jG Γ Δ sh fin tgt L st μ) (kf : ¬ (x = y) → jG Γ Δ sh fin (pc + 3) L st μ) : jG Γ Δ sh fin pc L (.int y :: .int x :: st) μ := by
  obtain ⟨p, l, e, R, s, m, args, below, meth, c⟩ := Γ
  obtain ⟨hx, hb, hml, hown, hts, hlocks, hr, hR, hK, hD⟩ := X
  intro H locs ls hP hS hL
  exact lv_icmp_eq hx hb dd ht (fun q => kt q H locs ls hP hS hL) (fun q => kf q H locs ls hP hS hL)
theorem g_if_ne {x : Int32} {off : Int} (tgt : Nat) (X : jOk Γ Δ sh cc nL own ret d) (dd : decode cc pc = .ok (.ifCond .ne off, 3)) (ht : (pc : Int) + off = (tgt : Int)) (kt : ¬ x = 0 → jG Γ Δ sh fin tgt L st μ) (kf : x = 0 → jG Γ Δ sh fin (pc + 3) L st μ) : jG Γ Δ sh fin pc L (.int x :: st) μ := by
  obtain ⟨p, l, e, R, s, m, args, below, meth, c⟩ := Γ
  obtain ⟨hx, hb, hml, hown, hts, hlocks, hr, hR, hK, hD⟩ := X
  intro H locs ls hP hS hL
  exact lv_if_ne hx hb dd ht (fun q => kt q H locs ls hP hS hL) (fun q => kf q H locs ls hP hS hL)
theorem g_icmp_ne {x y : Int32} {off : Int} (tgt : Nat) (X : jOk Γ Δ sh cc nL own ret d) (dd : decode cc pc = .ok (.if_icmp .ne off, 3)) (ht : (pc : Int) + off = (tgt : Int)) (kt : ¬ x = y → jG Γ Δ sh fin tgt L st μ) (kf : x = y → jG Γ Δ sh fin (pc + 3) L st μ) : jG Γ Δ sh fin pc L (.int y :: .int x :: st) μ := by
  obtain ⟨p, l, e, R, s, m, args, below, meth, c⟩ := Γ
  obtain ⟨hx, hb, hml, hown, hts, hlocks, hr, hR, hK, hD⟩ := X
  intro H locs ls hP hS hL
  exact lv_icmp_ne hx hb dd ht (fun q => kt q H locs ls hP hS hL) (fun q => kf q H locs ls hP hS hL)
theorem g_if_lt {x : Int32} {off : Int} (tgt : Nat) (X : jOk Γ Δ sh cc nL own ret d) (dd : decode cc pc = .ok (.ifCond .lt off, 3)) (ht : (pc : Int) + off = (tgt : Int)) (kt : x < 0 → jG Γ Δ sh fin tgt L st μ) (kf : ¬ (x < 0) → jG Γ Δ sh fin (pc + 3) L st μ) : jG Γ Δ sh fin pc L (.int x :: st) μ := by
  obtain ⟨p, l, e, R, s, m, args, below, meth, c⟩ := Γ
  obtain ⟨hx, hb, hml, hown, hts, hlocks, hr, hR, hK, hD⟩ := X
  intro H locs ls hP hS hL
  exact lv_if_lt hx hb dd ht (fun q => kt q H locs ls hP hS hL) (fun q => kf q H locs ls hP hS hL)
theorem g_icmp_lt {x y : Int32} {off : Int} (tgt : Nat) (X : jOk Γ Δ sh cc nL own ret d) (dd : decode cc pc = .ok (.if_icmp .lt off, 3)) (ht : (pc : Int) + off = (tgt : Int)) (kt : x < y → jG Γ Δ sh fin tgt L st μ) (kf : ¬ (x < y) → jG Γ Δ sh fin (pc + 3) L st μ) : jG Γ Δ sh fin pc L (.int y :: .int x :: st) μ := by
  obtain ⟨p, l, e, R, s, m, args, below, meth, c⟩ := Γ
  obtain ⟨hx, hb, hml, hown, hts, hlocks, hr, hR, hK, hD⟩ := X
  intro H locs ls hP hS hL
  exact lv_icmp_lt hx hb dd ht (fun q => kt q H locs ls hP hS hL) (fun q => kf q H locs ls hP hS hL)
theorem g_if_ge {x : Int32} {off : Int} (tgt : Nat) (X : jOk Γ Δ sh cc nL own ret d) (dd : decode cc pc = .ok (.ifCond .ge off, 3)) (ht : (pc : Int) + off = (tgt : Int)) (kt : 0 ≤ x → jG Γ Δ sh fin tgt L st μ) (kf : ¬ (0 ≤ x) → jG Γ Δ sh fin (pc + 3) L st μ) : jG Γ Δ sh fin pc L (.int x :: st) μ := by
  obtain ⟨p, l, e, R, s, m, args, below, meth, c⟩ := Γ
  obtain ⟨hx, hb, hml, hown, hts, hlocks, hr, hR, hK, hD⟩ := X
  intro H locs ls hP hS hL
  exact lv_if_ge hx hb dd ht (fun q => kt q H locs ls hP hS hL) (fun q => kf q H locs ls hP hS hL)
theorem g_icmp_ge {x y : Int32} {off : Int} (tgt : Nat) (X : jOk Γ Δ sh cc nL own ret d) (dd : decode cc pc = .ok (.if_icmp .ge off, 3)) (ht : (pc : Int) + off = (tgt : Int)) (kt : y ≤ x → jG Γ Δ sh fin tgt L st μ) (kf : ¬ (y ≤ x) → jG Γ Δ sh fin (pc + 3) L st μ) : jG Γ Δ sh fin pc L (.int y :: .int x :: st) μ := by
  obtain ⟨p, l, e, R, s, m, args, below, meth, c⟩ := Γ
  obtain ⟨hx, hb, hml, hown, hts, hlocks, hr, hR, hK, hD⟩ := X
  intro H locs ls hP hS hL
  exact lv_icmp_ge hx hb dd ht (fun q => kt q H locs ls hP hS hL) (fun q => kf q H locs ls hP hS hL)
theorem g_if_gt {x : Int32} {off : Int} (tgt : Nat) (X : jOk Γ Δ sh cc nL own ret d) (dd : decode cc pc = .ok (.ifCond .gt off, 3)) (ht : (pc : Int) + off = (tgt : Int)) (kt : 0 < x → jG Γ Δ sh fin tgt L st μ) (kf : ¬ (0 < x) → jG Γ Δ sh fin (pc + 3) L st μ) : jG Γ Δ sh fin pc L (.int x :: st) μ := by
  obtain ⟨p, l, e, R, s, m, args, below, meth, c⟩ := Γ
  obtain ⟨hx, hb, hml, hown, hts, hlocks, hr, hR, hK, hD⟩ := X
  intro H locs ls hP hS hL
  exact lv_if_gt hx hb dd ht (fun q => kt q H locs ls hP hS hL) (fun q => kf q H locs ls hP hS hL)
theorem g_icmp_gt {x y : Int32} {off : Int} (tgt : Nat) (X : jOk Γ Δ sh cc nL own ret d) (dd : decode cc pc = .ok (.if_icmp .gt off, 3)) (ht : (pc : Int) + off = (tgt : Int)) (kt : y < x → jG Γ Δ sh fin tgt L st μ) (kf : ¬ (y < x) → jG Γ Δ sh fin (pc + 3) L st μ) : jG Γ Δ sh fin pc L (.int y :: .int x :: st) μ := by
  obtain ⟨p, l, e, R, s, m, args, below, meth, c⟩ := Γ
  obtain ⟨hx, hb, hml, hown, hts, hlocks, hr, hR, hK, hD⟩ := X
  intro H locs ls hP hS hL
  exact lv_icmp_gt hx hb dd ht (fun q => kt q H locs ls hP hS hL) (fun q => kf q H locs ls hP hS hL)
theorem g_if_le {x : Int32} {off : Int} (tgt : Nat) (X : jOk Γ Δ sh cc nL own ret d) (dd : decode cc pc = .ok (.ifCond .le off, 3)) (ht : (pc : Int) + off = (tgt : Int)) (kt : x ≤ 0 → jG Γ Δ sh fin tgt L st μ) (kf : ¬ (x ≤ 0) → jG Γ Δ sh fin (pc + 3) L st μ) : jG Γ Δ sh fin pc L (.int x :: st) μ := by
  obtain ⟨p, l, e, R, s, m, args, below, meth, c⟩ := Γ
  obtain ⟨hx, hb, hml, hown, hts, hlocks, hr, hR, hK, hD⟩ := X
  intro H locs ls hP hS hL
  exact lv_if_le hx hb dd ht (fun q => kt q H locs ls hP hS hL) (fun q => kf q H locs ls hP hS hL)
theorem g_icmp_le {x y : Int32} {off : Int} (tgt : Nat) (X : jOk Γ Δ sh cc nL own ret d) (dd : decode cc pc = .ok (.if_icmp .le off, 3)) (ht : (pc : Int) + off = (tgt : Int)) (kt : x ≤ y → jG Γ Δ sh fin tgt L st μ) (kf : ¬ (x ≤ y) → jG Γ Δ sh fin (pc + 3) L st μ) : jG Γ Δ sh fin pc L (.int y :: .int x :: st) μ := by
  obtain ⟨p, l, e, R, s, m, args, below, meth, c⟩ := Γ
  obtain ⟨hx, hb, hml, hown, hts, hlocks, hr, hR, hK, hD⟩ := X
  intro H locs ls hP hS hL
  exact lv_icmp_le hx hb dd ht (fun q => kt q H locs ls hP hS hL) (fun q => kf q H locs ls hP hS hL)
theorem g_goto {off : Int} (tgt : Nat) (X : jOk Γ Δ sh cc nL own ret d) (dd : decode cc pc = .ok (.goto off, 3)) (ht : (pc : Int) + off = (tgt : Int)) (g : jG Γ Δ sh fin tgt L st μ) : jG Γ Δ sh fin pc L st μ := by
  obtain ⟨p, l, e, R, s, m, args, below, meth, c⟩ := Γ
  obtain ⟨hx, hb, hml, hown, hts, hlocks, hr, hR, hK, hD⟩ := X
  intro H locs ls hP hS hL
  exact lv_goto hx hb dd ht (g H locs ls hP hS hL)
theorem g_ifnull {off : Int} {x : Nat} (X : jOk Γ Δ sh cc nL own ret d) (dd : decode cc pc = .ok (.ifnull off, 3)) (g : jG Γ Δ sh fin (pc + 3) L st μ) : jG Γ Δ sh fin pc L (jr Δ x :: st) μ := by
  obtain ⟨p, l, e, R, s, m, args, below, meth, c⟩ := Γ
  obtain ⟨hx, hb, hml, hown, hts, hlocks, hr, hR, hK, hD⟩ := X
  intro H locs ls hP hS hL
  exact lv_ifnull hx hb dd (g H locs ls hP hS hL)
theorem g_ifnullN {off : Int} (tgt : Nat) (X : jOk Γ Δ sh cc nL own ret d) (dd : decode cc pc = .ok (.ifnull off, 3)) (ht : (pc : Int) + off = (tgt : Int)) (g : jG Γ Δ sh fin tgt L st μ) : jG Γ Δ sh fin pc L (.null :: st) μ := by
  obtain ⟨p, l, e, R, s, m, args, below, meth, c⟩ := Γ
  obtain ⟨hx, hb, hml, hown, hts, hlocks, hr, hR, hK, hD⟩ := X
  intro H locs ls hP hS hL
  exact lv_ifnullN hx hb dd ht (g H locs ls hP hS hL)
theorem g_ifnonnull {off : Int} {x : Nat} (tgt : Nat) (X : jOk Γ Δ sh cc nL own ret d) (dd : decode cc pc = .ok (.ifnonnull off, 3)) (ht : (pc : Int) + off = (tgt : Int)) (g : jG Γ Δ sh fin tgt L st μ) : jG Γ Δ sh fin pc L (jr Δ x :: st) μ := by
  obtain ⟨p, l, e, R, s, m, args, below, meth, c⟩ := Γ
  obtain ⟨hx, hb, hml, hown, hts, hlocks, hr, hR, hK, hD⟩ := X
  intro H locs ls hP hS hL
  exact lv_ifnonnull hx hb dd ht (g H locs ls hP hS hL)
theorem g_ifnonnullN {off : Int} (X : jOk Γ Δ sh cc nL own ret d) (dd : decode cc pc = .ok (.ifnonnull off, 3)) (g : jG Γ Δ sh fin (pc + 3) L st μ) : jG Γ Δ sh fin pc L (.null :: st) μ := by
  obtain ⟨p, l, e, R, s, m, args, below, meth, c⟩ := Γ
  obtain ⟨hx, hb, hml, hown, hts, hlocks, hr, hR, hK, hD⟩ := X
  intro H locs ls hP hS hL
  exact lv_ifnonnullN hx hb dd (g H locs ls hP hS hL)
theorem g_lookup {dflt : Int} {ps : Array (Int × Int)} {len : Nat} {x : Int32} {off : Int} (tgt : Nat) (X : jOk Γ Δ sh cc nL own ret d) (dd : decode cc pc = .ok (.lookupswitch dflt ps, len)) (hp : (ps.toList.zip (ps.toList.drop 1)).all (fun (a, next) => a.1 < next.1) = true) (ho : Op.lookupswitch.offset ps.toList dflt x.toInt = off) (ht : (pc : Int) + off = (tgt : Int)) (g : jG Γ Δ sh fin tgt L st μ) : jG Γ Δ sh fin pc L (.int x :: st) μ := by
  obtain ⟨p, l, e, R, s, m, args, below, meth, c⟩ := Γ
  obtain ⟨hx, hb, hml, hown, hts, hlocks, hr, hR, hK, hD⟩ := X
  intro H locs ls hP hS hL
  exact lv_lookup hx hb dd hp ho ht (g H locs ls hP hS hL)
theorem g_tblOut {dflt lo hi : Int} {offs : Array Int} {len : Nat} {x : Int32} (tgt : Nat) (X : jOk Γ Δ sh cc nL own ret d) (dd : decode cc pc = .ok (.tableswitch dflt lo hi offs, len)) (h : x.toInt < lo ∨ hi < x.toInt) (ht : (pc : Int) + dflt = (tgt : Int)) (g : jG Γ Δ sh fin tgt L st μ) : jG Γ Δ sh fin pc L (.int x :: st) μ := by
  obtain ⟨p, l, e, R, s, m, args, below, meth, c⟩ := Γ
  obtain ⟨hx, hb, hml, hown, hts, hlocks, hr, hR, hK, hD⟩ := X
  intro H locs ls hP hS hL
  exact lv_tableOut hx hb dd h ht (g H locs ls hP hS hL)
theorem g_tblIn {dflt lo hi : Int} {offs : Array Int} {len : Nat} {x : Int32} {off : Int} (tgt : Nat) (X : jOk Γ Δ sh cc nL own ret d) (dd : decode cc pc = .ok (.tableswitch dflt lo hi offs, len)) (h1 : ¬ x.toInt < lo) (h2 : ¬ hi < x.toInt) (ho : offs[(x.toInt - lo).toNat]? = some off) (ht : (pc : Int) + off = (tgt : Int)) (g : jG Γ Δ sh fin tgt L st μ) : jG Γ Δ sh fin pc L (.int x :: st) μ := by
  obtain ⟨p, l, e, R, s, m, args, below, meth, c⟩ := Γ
  obtain ⟨hx, hb, hml, hown, hts, hlocks, hr, hR, hK, hD⟩ := X
  intro H locs ls hP hS hL
  exact lv_tableIn hx hb dd h1 h2 ho ht (g H locs ls hP hS hL)
/-- a class of the table, by its number -/
def jCl (ci : Nat) (C : String) (T : u_T) (N : Nat) (ty : Nat → FieldType) : Prop := jcl[ci]? = some (C, T, N) ∧ (∀ w ∈ u_ws C T N, w ∈ jT) ∧ (∀ k, k < N → parseFieldDescriptor (T k).2.2.1 = some (ty k)) ∧ (∀ a, a < N → ∀ b, b < N → a ≠ b → (T a).2.1 ≠ (T b).2.1)
theorem jfs_get {Δ : jD} {μ : jM} {c k : Nat} {fl : List (Option Nat)} {o : Option Nat} (h : fl[k]? = some o) : (fl.mapIdx (fun k q => jfv Δ.2.2.1 μ c k q))[k]? = some (jfv Δ.2.2.1 μ c k o) := by
  simp [List.getElem?_mapIdx, h]
theorem g_getI {idx q k ci N : Nat} {C : String} {T : u_T} {ty : Nat → FieldType} {fl : List (Option Nat)} (X : jOk Γ Δ sh cc nL own ret d) (dd : decode cc pc = .ok (.getfield idx, 3)) (hc : jCl ci C T N ty) (hs : sh[q]? = some (.inl (ci, fl))) (hf : fl[k]? = some none) (hk : k < N) (hl : Cond.fieldLink own idx (T k).1 (T k).2.1 (T k).2.2.1 ∈ jT) (g : jG Γ Δ sh fin (pc + 3) L (.int (μ.1 q k) :: st) μ) : jG Γ Δ sh fin pc L (jr Δ q :: st) μ := by
  obtain ⟨p, l, e, R, s, m, args, below, meth, c⟩ := Γ
  obtain ⟨hx, hb, hml, hown, hts, hlocks, hr, hR, hK, hD⟩ := X
  intro H locs ls hP hS hL
  exact va_get (D := Δ.1) hx hb hts hc.2.1 hown hK hP q (jW_get μ hs) hc.1 k hk (hts _ hl) (fun _ h => h) (jfs_get hf) dd (g H locs ls hP hS hL)
theorem g_getR {idx q k j ci N : Nat} {C : String} {T : u_T} {ty : Nat → FieldType} {fl : List (Option Nat)} (X : jOk Γ Δ sh cc nL own ret d) (dd : decode cc pc = .ok (.getfield idx, 3)) (hc : jCl ci C T N ty) (hs : sh[q]? = some (.inl (ci, fl))) (hf : fl[k]? = some (some j)) (hk : k < N) (hl : Cond.fieldLink own idx (T k).1 (T k).2.1 (T k).2.2.1 ∈ jT) (g : jG Γ Δ sh fin (pc + 3) L (jr Δ j :: st) μ) : jG Γ Δ sh fin pc L (jr Δ q :: st) μ := by
  obtain ⟨p, l, e, R, s, m, args, below, meth, c⟩ := Γ
  obtain ⟨hx, hb, hml, hown, hts, hlocks, hr, hR, hK, hD⟩ := X
  intro H locs ls hP hS hL
  exact va_get (D := Δ.1) hx hb hts hc.2.1 hown hK hP q (jW_get μ hs) hc.1 k hk (hts _ hl) (fun _ h => h) (jfs_get hf) dd (g H locs ls hP hS hL)
theorem jent_put {cy : Nat → ClassId} {ad : Nat → Nat} {μ : jM} {q k ci : Nat} {fl : List (Option Nat)} {v : Int32} (hf : fl[k]? = some none) : jent cy ad (jsI μ q k v) q (.inl (ci, fl)) = .inr (ci, (fl.mapIdx (fun k o => jfv ad μ q k o)).set k (.int v)) := by
  show (Sum.inr (ci, fl.mapIdx (fun k1 o => jfv ad (jsI μ q k v) q k1 o)) : va_E) = Sum.inr (ci, (fl.mapIdx (fun k o => jfv ad μ q k o)).set k (.int v))
  refine congrArg (fun z => (Sum.inr (ci, z) : va_E)) ?_
  apply List.ext_getElem?
  intro i
  by_cases hi : i = k
  · subst hi
    have hl : i < fl.length := (List.getElem?_eq_some_iff.mp hf).1
    rw [List.getElem?_set_self (by simp; exact hl)]
    simp [List.getElem?_mapIdx, hf, jfv, jsI]
  · rw [List.getElem?_set_ne (Ne.symm hi)]
    simp only [List.getElem?_mapIdx]
    cases fl[i]? with
    | none => rfl
    | some o => cases o <;> simp [jfv, jsI, hi]
theorem jsI_off (μ : jM) (q k : Nat) (v : Int32) : ∀ c', c' ≠ q → (jsI μ q k v).1 c' = μ.1 c' ∧ (jsI μ q k v).2 c' = μ.2 c' := fun c' h => ⟨by funext k'; simp [jsI, h], rfl⟩
theorem jsJ_off (μ : jM) (q k : Nat) (v : Int64) : ∀ c', c' ≠ q → (jsJ μ q k v).1 c' = μ.1 c' ∧ (jsJ μ q k v).2 c' = μ.2 c' := fun c' h => ⟨rfl, by funext k'; simp [jsJ, h]⟩
theorem jcp_off (μ : jM) (c1 sp q dp n : Nat) : ∀ c', c' ≠ q → (jcp μ c1 sp q dp n).1 c' = μ.1 c' ∧ (jcp μ c1 sp q dp n).2 c' = μ.2 c' := fun c' h => ⟨by funext k'; simp [jcp, h], rfl⟩
theorem g_putI {idx q k ci N : Nat} {C : String} {T : u_T} {ty : Nat → FieldType} {fl : List (Option Nat)} {v : Int32} (X : jOk Γ Δ sh cc nL own ret d) (dd : decode cc pc = .ok (.putfield idx, 3)) (hc : jCl ci C T N ty) (hs : sh[q]? = some (.inl (ci, fl))) (hf : fl[k]? = some none) (hk : k < N) (hl : Cond.fieldLink own idx (T k).1 (T k).2.1 (T k).2.2.1 ∈ jT) (hfin : (T k).2.2.2 = false) (hn : narrow (ty k) (.int v) = .int v) (hfit : fits (ty k) (.int v) = true) (g : jG Γ Δ sh fin (pc + 3) L st (jsI μ q k v)) : jG Γ Δ sh fin pc L (.int v :: jr Δ q :: st) μ := by
  obtain ⟨p, l, e, R, s, m, args, below, meth, c⟩ := Γ
  obtain ⟨hx, hb, hml, hown, hts, hlocks, hr, hR, hK, hD⟩ := X
  intro H locs ls hP hS hL
  refine va_put (D := Δ.1) hx hb hts hc.2.1 ty hc.2.2.1 hc.2.2.2 hown hK hP (hD μ) hS q (jW_get μ hs) hc.1 k hk (hts _ hl) (fun _ h => h) hfin (hc.2.2.1 k hk) hn hfit (by simp; exact (List.getElem?_eq_some_iff.mp hf).1) dd (fun H1 locs1 hP1 hD1 hS1 => ?_)
  rw [jW_set hs (jent_put hf) (jsI_off μ q k v)] at hP1
  exact g H1 locs1 ls hP1 hS1 hL
theorem jent_i {cy : Nat → ClassId} {ad : Nat → Nat} {μ : jM} {q kd n : Nat} (h : ¬ kd = 2) : jent cy ad μ q (.inr (kd, n)) = .inl (cy kd, n, .inl (μ.1 q)) := by simp [jent, h]
theorem jent_l {cy : Nat → ClassId} {ad : Nat → Nat} {μ : jM} {q n : Nat} : jent cy ad μ q (.inr (2, n)) = .inl (cy 2, n, .inr (.inl (μ.2 q))) := by simp [jent]
theorem jsI_upd (μ : jM) (q k : Nat) (v : Int32) : (jsI μ q k v).1 q = upd (μ.1 q) k v := by funext j; by_cases h : j = k <;> simp [jsI, upd, h]
theorem jsJ_upd (μ : jM) (q k : Nat) (v : Int64) : (jsJ μ q k v).2 q = vp_updL (μ.2 q) k v := by funext j; by_cases h : j = k <;> simp [jsJ, vp_updL, h]
theorem jcp_upd (μ : jM) (c1 sp q dp n : Nat) : (jcp μ c1 sp q dp n).1 q = va_cpy (μ.1 c1) (μ.1 q) sp dp n := by funext j; simp [jcp]
theorem g_iald {q n : Nat} {i : Int32} (X : jOk Γ Δ sh cc nL own ret d) (dd : decode cc pc = .ok (.iaload, 1)) (hs : sh[q]? = some (.inr (0, n))) (hin : vp_in i n) (g : jG Γ Δ sh fin (pc + 1) L (.int (μ.1 q i.toNatClampNeg) :: st) μ) : jG Γ Δ sh fin pc L (.int i :: jr Δ q :: st) μ := by
  obtain ⟨p, l, e, R, s, m, args, below, meth, c⟩ := Γ
  obtain ⟨hx, hb, hml, hown, hts, hlocks, hr, hR, hK, hD⟩ := X
  intro H locs ls hP hS hL
  exact va_iald hx hb hK hP q 0 ((jW_get μ hs).trans (by rw [jent_i (by decide)])) rfl hin dd (g H locs ls hP hS hL)
theorem g_bald {q n : Nat} {i : Int32} (X : jOk Γ Δ sh cc nL own ret d) (dd : decode cc pc = .ok (.baload, 1)) (hs : sh[q]? = some (.inr (1, n))) (hin : vp_in i n) (g : jG Γ Δ sh fin (pc + 1) L (.int (μ.1 q i.toNatClampNeg) :: st) μ) : jG Γ Δ sh fin pc L (.int i :: jr Δ q :: st) μ := by
  obtain ⟨p, l, e, R, s, m, args, below, meth, c⟩ := Γ
  obtain ⟨hx, hb, hml, hown, hts, hlocks, hr, hR, hK, hD⟩ := X
  intro H locs ls hP hS hL
  exact va_bald hx hb hK hP q 1 ((jW_get μ hs).trans (by rw [jent_i (by decide)])) rfl hin dd (g H locs ls hP hS hL)
theorem g_lald {q n : Nat} {i : Int32} (X : jOk Γ Δ sh cc nL own ret d) (dd : decode cc pc = .ok (.laload, 1)) (hs : sh[q]? = some (.inr (2, n))) (hin : vp_in i n) (g : jG Γ Δ sh fin (pc + 1) L (.long (μ.2 q i.toNatClampNeg) :: st) μ) : jG Γ Δ sh fin pc L (.int i :: jr Δ q :: st) μ := by
  obtain ⟨p, l, e, R, s, m, args, below, meth, c⟩ := Γ
  obtain ⟨hx, hb, hml, hown, hts, hlocks, hr, hR, hK, hD⟩ := X
  intro H locs ls hP hS hL
  exact va_lald hx hb hK hP q 2 ((jW_get μ hs).trans (by rw [jent_l])) rfl hin dd (g H locs ls hP hS hL)
theorem g_iast {q n : Nat} {i x : Int32} (X : jOk Γ Δ sh cc nL own ret d) (dd : decode cc pc = .ok (.iastore, 1)) (hs : sh[q]? = some (.inr (0, n))) (hin : vp_in i n) (g : jG Γ Δ sh fin (pc + 1) L st (jsI μ q i.toNatClampNeg x)) : jG Γ Δ sh fin pc L (.int x :: .int i :: jr Δ q :: st) μ := by
  obtain ⟨p, l, e, R, s, m, args, below, meth, c⟩ := Γ
  obtain ⟨hx, hb, hml, hown, hts, hlocks, hr, hR, hK, hD⟩ := X
  intro H locs ls hP hS hL
  refine va_iast hx hb hK hP (hD μ) hS q 0 ((jW_get μ hs).trans (by rw [jent_i (by decide)])) rfl hin dd (fun H1 locs1 hP1 hD1 hS1 => ?_)
  rw [jW_set hs (by rw [jent_i (by decide), jsI_upd]) (jsI_off μ q i.toNatClampNeg x)] at hP1
  exact g H1 locs1 ls hP1 hS1 hL
theorem g_bast {q n : Nat} {i x : Int32} (X : jOk Γ Δ sh cc nL own ret d) (dd : decode cc pc = .ok (.bastore, 1)) (hs : sh[q]? = some (.inr (1, n))) (hin : vp_in i n) (g : jG Γ Δ sh fin (pc + 1) L st (jsI μ q i.toNatClampNeg x.toInt8.toInt32)) : jG Γ Δ sh fin pc L (.int x :: .int i :: jr Δ q :: st) μ := by
  obtain ⟨p, l, e, R, s, m, args, below, meth, c⟩ := Γ
  obtain ⟨hx, hb, hml, hown, hts, hlocks, hr, hR, hK, hD⟩ := X
  intro H locs ls hP hS hL
  refine va_bast hx hb hK hP (hD μ) hS q 1 ((jW_get μ hs).trans (by rw [jent_i (by decide)])) rfl hin dd (fun H1 locs1 hP1 hD1 hS1 => ?_)
  rw [vp_nar_byte, jW_set hs (by rw [jent_i (by decide), jsI_upd]) (jsI_off μ q i.toNatClampNeg x.toInt8.toInt32)] at hP1
  exact g H1 locs1 ls hP1 hS1 hL
theorem g_last {q n : Nat} {i : Int32} {x : Int64} (X : jOk Γ Δ sh cc nL own ret d) (dd : decode cc pc = .ok (.lastore, 1)) (hs : sh[q]? = some (.inr (2, n))) (hin : vp_in i n) (g : jG Γ Δ sh fin (pc + 1) L st (jsJ μ q i.toNatClampNeg x)) : jG Γ Δ sh fin pc L (.long x :: .int i :: jr Δ q :: st) μ := by
  obtain ⟨p, l, e, R, s, m, args, below, meth, c⟩ := Γ
  obtain ⟨hx, hb, hml, hown, hts, hlocks, hr, hR, hK, hD⟩ := X
  intro H locs ls hP hS hL
  refine va_last hx hb hK hP (hD μ) hS q 2 ((jW_get μ hs).trans (by rw [jent_l])) rfl hin dd (fun H1 locs1 hP1 hD1 hS1 => ?_)
  rw [jW_set hs (by rw [jent_l, jsJ_upd]) (jsJ_off μ q i.toNatClampNeg x)] at hP1
  exact g H1 locs1 ls hP1 hS1 hL
theorem g_alen {q kd n : Nat} (X : jOk Γ Δ sh cc nL own ret d) (dd : decode cc pc = .ok (.arraylength, 1)) (hs : sh[q]? = some (.inr (kd, n))) (hkd : kd < 3) (g : jG Γ Δ sh fin (pc + 1) L (.int (Int32.ofNat n) :: st) μ) : jG Γ Δ sh fin pc L (jr Δ q :: st) μ := by
  obtain ⟨p, l, e, R, s, m, args, below, meth, c⟩ := Γ
  obtain ⟨hx, hb, hml, hown, hts, hlocks, hr, hR, hK, hD⟩ := X
  intro H locs ls hP hS hL
  rcases (show kd = 0 ∨ kd = 1 ∨ kd = 2 by omega) with rfl | rfl | rfl
  · exact va_alen hx hb hK hP q 0 (x := (n, _)) (jW_get μ hs) (ty := .int) rfl rfl dd (g H locs ls hP hS hL)
  · exact va_alen hx hb hK hP q 1 (x := (n, _)) (jW_get μ hs) (ty := .byte) rfl rfl dd (g H locs ls hP hS hL)
  · exact va_alen hx hb hK hP q 2 (x := (n, _)) (jW_get μ hs) (ty := .long) rfl rfl dd (g H locs ls hP hS hL)
-- ends
theorem g_iret {v r : Int32} {μ' : jM} (X : jOk Γ Δ sh cc nL own (some .int) d) (dd : decode cc pc = .ok (.ireturn, 1)) (hf : some (v, μ) = some (r, μ')) : jG Γ Δ sh (some (.int r), μ') pc L [.int v] μ := by
  cases hf
  obtain ⟨p, l, e, R, s, m, args, below, meth, c⟩ := Γ
  obtain ⟨hx, hb, hml, hown, hts, hlocks, hr, hR, hK, hD⟩ := X
  intro H locs ls hP hS hL
  exact W.iret hx hb hr (fun t ht hW => ⟨rfl, by rw [ht]; exact hP, hS.F ht⟩) hS.2.2 dd (hlocks := hlocks)
theorem g_zret {v r : Int32} {μ' : jM} (X : jOk Γ Δ sh cc nL own (some .boolean) d) (dd : decode cc pc = .ok (.ireturn, 1)) (hv : v = 0 ∨ v = 1) (hf : some (v, μ) = some (r, μ')) : jG Γ Δ sh (some (.int r), μ') pc L [.int v] μ := by
  cases hf
  obtain ⟨p, l, e, R, s, m, args, below, meth, c⟩ := Γ
  obtain ⟨hx, hb, hml, hown, hts, hlocks, hr, hR, hK, hD⟩ := X
  intro H locs ls hP hS hL
  exact W.zret hx hb hr (by rcases hv with rfl | rfl <;> rfl) (fun t ht hW => ⟨rfl, by rw [ht]; exact hP, hS.F ht⟩) hS.2.2 dd (hlocks := hlocks)
theorem g_lret {v r : Int64} {μ' : jM} (X : jOk Γ Δ sh cc nL own (some .long) d) (dd : decode cc pc = .ok (.lreturn, 1)) (hf : some (v, μ) = some (r, μ')) : jG Γ Δ sh (some (.long r), μ') pc L [.long v] μ := by
  cases hf
  obtain ⟨p, l, e, R, s, m, args, below, meth, c⟩ := Γ
  obtain ⟨hx, hb, hml, hown, hts, hlocks, hr, hR, hK, hD⟩ := X
  intro H locs ls hP hS hL
  exact W.lret hx hb hr (fun t ht hW => ⟨rfl, by rw [ht]; exact hP, hS.F ht⟩) hS.2.2 dd (hlocks := hlocks)
theorem g_vret {u : Unit} {μ' : jM} (X : jOk Γ Δ sh cc nL own none d) (dd : decode cc pc = .ok (.return_, 1)) (hf : some ((), μ) = some (u, μ')) : jG Γ Δ sh (none, μ') pc L [] μ := by
  cases hf
  obtain ⟨p, l, e, R, s, m, args, below, meth, c⟩ := Γ
  obtain ⟨hx, hb, hml, hown, hts, hlocks, hr, hR, hK, hD⟩ := X
  intro H locs ls hP hS hL
  exact W.vret hx hb hr (fun t ht hW => ⟨rfl, by rw [ht]; exact hP, hS.F ht⟩) hS.2.2 dd (hlocks := hlocks)
/-- a fixed cell, or null, as an answer -/
def jrq (Δ : jD) (o : Option Nat) : Value := match o with
  | none => .null
  | some q => jr Δ q
theorem g_aret {o r : Option Nat} {n : String} {μ' : jM} (X : jOk Γ Δ sh cc nL own (some (.object n)) d) (dd : decode cc pc = .ok (.areturn, 1)) (hf : some (o, μ) = some (r, μ')) : jG Γ Δ sh (some (jrq Δ r), μ') pc L [jrq Δ o] μ := by
  cases hf
  obtain ⟨p, l, e, R, s, m, args, below, meth, c⟩ := Γ
  obtain ⟨hx, hb, hml, hown, hts, hlocks, hr, hR, hK, hD⟩ := X
  intro H locs ls hP hS hL
  exact W.aret hx hb hr (Or.inl ⟨_, rfl⟩) (by cases o with | none => exact Or.inl rfl | some q => exact Or.inr ⟨_, rfl⟩) (fun t ht hW => ⟨rfl, by rw [ht]; exact hP, hS.F ht⟩) hS.2.2 dd (hlocks := hlocks)
-- calls
def jMet (l : Launch) (y : MethodName) (bytes : ByteArray) (maxL : Nat) (ret : Option FieldType) (d : Nat) (Δ : jD) (sh : List jS) (av : List Value) (μ : jM) (fin : Option Value × jM) : Prop :=
  Met l y (.code y bytes maxL ret :: jT) (jRm d) (va_Pc av (fun U => va_P Δ.1 jcl (jW Δ.2.1 Δ.2.2.1 sh μ) U.heap ∧ va_K Δ.1 jcl (jtys Δ.2.1) U)) (jQc Δ sh fin) 0 0 Δ.2.2.2
def jentry (av : List Value) (n : Nat) : List (Option Value) := let a := av.flatMap (fun v => if v.category = 2 then [some v, none] else [some v]); a ++ List.replicate (n - a.length) none
theorem jentry_args (av : List Value) (pre : List (Option Value)) (k : Nat) : ∀ (i : Nat) (v : Value), ((pre ++ av.flatMap (fun v => if v.category = 2 then [some v, none] else [some v]) ++ List.replicate k none)[i]? = some (some v)) → pre.length ≤ i → (i, v) ∈ lv_args pre.length av := by
  induction av generalizing pre with
  | nil =>
    intro i v h hi
    simp only [List.flatMap_nil, List.append_nil] at h
    rw [List.getElem?_append_right hi, List.getElem?_replicate] at h
    split at h <;> simp at h
  | cons a av ih =>
    intro i v h hi
    by_cases ha : a.category = 2
    · simp only [List.flatMap_cons, ha, if_pos] at h
      by_cases h0 : i = pre.length
      · subst h0
        have : some (some a) = some (some v) := by rw [← h]; simp
        cases this
        simp [lv_args]
      · by_cases h1 : i = pre.length + 1
        · subst h1
          have : some (none : Option Value) = some (some v) := by rw [← h]; simp [List.getElem?_append]
          cases this
        · have := ih (pre ++ [some a, none]) i v (by simpa using h) (by simp; omega)
          simp only [List.length_append, List.length_cons, List.length_nil] at this
          simp only [lv_args, ha, if_pos]
          exact List.mem_cons_of_mem _ this
    · simp only [List.flatMap_cons, ha, if_neg, not_false_eq_true] at h
      by_cases h0 : i = pre.length
      · subst h0
        have : some (some a) = some (some v) := by rw [← h]; simp
        cases this
        simp [lv_args]
      · have := ih (pre ++ [some a]) i v (by simpa using h) (by simp; omega)
        simp only [List.length_append, List.length_cons, List.length_nil] at this
        simp only [lv_args, ha, if_neg, not_false_eq_true]
        exact List.mem_cons_of_mem _ this
theorem jentry_len (av : List Value) : (av.flatMap (fun v => if v.category = 2 then [some v, none] else [some v])).length = (lg_sl av).length := by
  induction av with
  | nil => rfl
  | cons a av ih =>
    simp only [List.flatMap_cons, List.length_append, ih, lg_sl]
    by_cases ha : a.category = 2 <;> simp [ha]
/-- a method's contract out of its walk -/
theorem jMet_of {l : Launch} {y : MethodName} {av : List Value} (hy : plainName y.cls = true) (hown : y.cls = own) (hn : (lg_sl av).length ≤ nL) (hL : jentry av nL = L) (hsep : ∀ μ, va_D Δ.2.2.2 (jW Δ.2.1 Δ.2.2.1 sh μ))
    (body : ∀ Γ : jC, Γ.2.1 = l → jOk Γ Δ sh cc nL own ret d → jG Γ Δ sh fin 0 L [] μ) : jMet l y cc nL ret d Δ sh av μ fin := by
  refine Met.ofW (cc := cc) (maxL := nL) (ret := ret) hy rfl ?_
  intro p e s m args below meth c s₁ B hml hv
  obtain ⟨rfl, hP, hK⟩ := hv
  have hts := atoms_spec (ws := .code y cc nL ret :: jT) B.pre
  have hw : s.vm.findClass own = some m.cls := by rw [← hown]; exact findClass_of_methodNamed B.named
  have hl := lv_entry av (n := nL) hn
  rw [lg_entry_eq]
  refine body (p, l, e, jRm d, s, m, av.toArray, below, meth, c) rfl ⟨B.exec, B.bytes, hml, hw, fun w h => hts w (List.mem_cons_of_mem _ h), B.notSynchronized, B.returns, rfl, hK, hsep⟩ s.heap [] _ hP va_S.rf ⟨?_, hl.2.1, fun i v hi => ?_⟩
  · rw [hl.1, ← hL]
    have := jentry_len av
    simp only [jentry, List.length_append, List.length_replicate]
    omega
  · rw [← hL] at hi
    have h2 := jentry_args av [] (nL - (av.flatMap (fun v => if v.category = 2 then [some v, none] else [some v])).length) i v (by simpa [jentry] using hi) (Nat.zero_le _)
    exact hl.2.2 (i, v) h2
/-- what the tables say of a method; what a place that calls it needs -/
def jY (y : MethodName) (bytes : ByteArray) (maxL : Nat) (ret : Option FieldType) (n : Nat) : Prop := Cond.code y bytes maxL ret ∈ jT ∧ Cond.initialized y.cls ∈ jT ∧ y.cls ≠ "java/lang/invoke/MethodHandle" ∧ y.cls ≠ "java/lang/invoke/VarHandle" ∧ (parseMethodDescriptor y.desc).map (fun d => d.parameters.length) = some n ∧ maxL ≤ 40
theorem jT_goodIn {ws : List Cond} (h : ∀ w ∈ ws, w ∈ jT) : GoodIn jT ws := fun w hw => ⟨h w hw, good_of_word (List.mem_filter.mp (h w hw)).2⟩
theorem jblind {av : List Value} {μ : jM} {Δ : jD} {sh : List jS} : FrameBlind (va_Pc av (fun U => va_P Δ.1 jcl (jW Δ.2.1 Δ.2.2.1 sh μ) U.heap ∧ va_K Δ.1 jcl (jtys Δ.2.1) U)) := fun a U g mk q => by
  obtain ⟨q0, qP, qK⟩ := q
  exact ⟨q0, qP, va_K.moved (u := U) (U := U.calling g mk a) (Vm.Alike.refl U.vm) qK⟩
theorem j_back {p : Program} {l : Launch} {e : Env} {R : Room} {s : State} {m : MethodId} {args : Array Value} {below : List Frame} {meth : Method} {c : Code} {H : Heap} {locs : List Loc} {Q : State → Prop} {ls : Array Slot} {rest st0 : List Value} {a : Array Value} {fin1 : Option Value × jM}
    (hr : va_Run p l e R s m args below meth c H locs 0 0 0 0 (F0 m pc ls st0) rest (jQc Δ sh fin1 a) Δ.2.2.2) (hS : va_S Δ.2.2.2 s.heap H locs)
    (kk : ∀ (H1 : Heap) (locs1 : List Loc), va_P Δ.1 jcl (jW Δ.2.1 Δ.2.2.1 sh fin1.2) H1 → va_S Δ.2.2.2 s.heap H1 locs1 → W p l e R s m args below meth c H1 locs1 0 0 Q (F0 m (pc + 3) ls (fin1.1.toList ++ rest))) : W p l e R s m args below meth c H locs 0 0 Q (F0 m pc ls st0) := by
  intro T hT X
  obtain ⟨v, st₀, t, T', L, h0, X', hL, e1, e2, ⟨hv, hp, hz, hk⟩, st⟩ := hr T hT X
  cases hv
  rw [h0] at hz hk
  obtain ⟨t2, a1, b1⟩ := kk T'.heap (locs ++ L) (by rw [e1]; exact hp)
    ⟨Nat.le_trans hS.1 (by rw [e1]; exact hz), fun q h1 h2 => by rw [e1, hk q (Nat.lt_of_lt_of_le h1 hS.1) h2]; exact hS.2.1 q h1 h2, fun q hq => by
      rcases List.mem_append.mp hq with h | h
      · exact hS.2.2 q h
      · exact hL q h⟩ T' rfl X'
  exact ⟨t2, st t2 a1, b1⟩
theorem g_callV {idx n d1 q ci N : Nat} {C : String} {T : u_T} {ty : Nat → FieldType} {fl : List (Option Nat)} {y : MethodName} {bytes : ByteArray} {maxL : Nat} {ret1 : Option FieldType} {fin1 : Option Value × jM} {st0 : List Value} (As : List Value) (X : jOk Γ Δ sh cc nL own ret d) (dd : decode cc pc = .ok (.invokevirtual idx, 3)) (hM : jMet Γ.2.1 y bytes maxL ret1 d1 Δ sh (jr Δ q :: As) μ fin1) (hY : jY y bytes maxL ret1 n) (hlink : Cond.methodLink own idx y ∈ jT) (hsel : Cond.selects y.cls y y ∈ jT) (hin : Cond.instanceMethod y ∈ jT) (hc : jCl ci C T N ty) (hC : y.cls = C) (hs : sh[q]? = some (.inl (ci, fl))) (hd : d1 < d) (hn : As.length = n) (hLn : L.length = nL) (hrest : (st.map fun v => v.category).sum ≤ 8) (hst : st0 = As.reverse ++ jr Δ q :: st)
    (g : jG Γ Δ sh fin (pc + 3) L (fin1.1.toList ++ st) fin1.2) : jG Γ Δ sh fin pc L st0 μ := by
  obtain ⟨p, l, e, R, s, m, args, below, meth, c⟩ := Γ
  obtain ⟨hx, hb, hml, hown, hts, hlocks, hr, hR, hK, hD⟩ := X
  subst hC
  subst hR
  intro H locs ls hP hS hL
  obtain ⟨y1, y2, y3, y4, y5, y6⟩ := hY
  refine j_back (va_runV (C := y.cls) (As := As) (rest := st) ⟨hx, hb, hml, hown, hts⟩ hM (cwV (bytes := bytes) (maxL := maxL) (ret := ret1) (ws' := jT) n hts (jT_goodIn (fun w hw => ?_)) rfl rfl rfl ⟨rfl, y3, y4, y5⟩ ⟨?_, ?_⟩) ⟨jblind, ?_, fun U hU hW => ⟨rfl, by rw [hU]; exact hP, va_K.moved hW.alike hK⟩⟩ rfl hn (by rw [← hLn]; exact hL.1) hst (lv_room hrest) dd ⟨Nat.zero_le _, Nat.zero_le _⟩) hS (fun H1 locs1 hP1 hS1 => g H1 locs1 ls hP1 hS1 hL)
  · simp only [wsV, List.cons_append, List.nil_append, List.mem_cons] at hw
    rcases hw with rfl | rfl | rfl | rfl | rfl | hw
    · exact hlink
    · exact hin
    · exact hsel
    · exact y2
    · exact y1
    · exact hw
  · show d1 + 1 ≤ d
    omega
  · show 8 + (maxL + 11) + 60 * d1 ≤ 60 * d
    omega
  · exact va_recv hK hP hc.1 (jW_get μ hs)
theorem g_callS {idx n d1 : Nat} {y : MethodName} {bytes : ByteArray} {maxL : Nat} {ret1 : Option FieldType} {fin1 : Option Value × jM} {st0 : List Value} (As : List Value) (X : jOk Γ Δ sh cc nL own ret d) (dd : decode cc pc = .ok (.invokestatic idx, 3)) (hM : jMet Γ.2.1 y bytes maxL ret1 d1 Δ sh As μ fin1) (hY : jY y bytes maxL ret1 n) (hlink : Cond.methodLink own idx y ∈ jT) (hstat : Cond.static y ∈ jT) (hd : d1 < d) (hn : As.length = n) (hLn : L.length = nL) (hrest : (st.map fun v => v.category).sum ≤ 8) (hst : st0 = As.reverse ++ st)
    (g : jG Γ Δ sh fin (pc + 3) L (fin1.1.toList ++ st) fin1.2) : jG Γ Δ sh fin pc L st0 μ := by
  obtain ⟨p, l, e, R, s, m, args, below, meth, c⟩ := Γ
  obtain ⟨hx, hb, hml, hown, hts, hlocks, hr, hR, hK, hD⟩ := X
  subst hR
  intro H locs ls hP hS hL
  obtain ⟨y1, y2, y3, y4, y5, y6⟩ := hY
  refine j_back (va_runS (As := As) (rest := st) ⟨hx, hb, hml, hown, hts⟩ hM ⟨callB_of (bytes := bytes) (maxL := maxL) (ret := ret1) (ws' := jT) n hts (jT_goodIn (fun w hw => ?_)) rfl rfl rfl (hts _ y2) (hts _ hlink) ⟨y3, y4, y5⟩ ⟨?_, ?_⟩, hts _ hstat⟩ ⟨jblind, fun U hU hW => ⟨rfl, by rw [hU]; exact hP, va_K.moved hW.alike hK⟩⟩ rfl hn (by rw [← hLn]; exact hL.1) hst (lv_room hrest) dd ⟨Nat.zero_le _, Nat.zero_le _⟩) hS (fun H1 locs1 hP1 hS1 => g H1 locs1 ls hP1 hS1 hL)
  · rcases List.mem_cons.mp hw with rfl | hw
    · exact y1
    · exact hw
  · show d1 + 1 ≤ d
    omega
  · show 8 + (maxL + 11) + 60 * d1 ≤ 60 * d
    omega
theorem g_min {idx : Nat} {x y : Int32} (X : jOk Γ Δ sh cc nL own ret d) (dd : decode cc pc = .ok (.invokestatic idx, 3)) (h1 : Cond.methodLink own idx Lib.Math.min.name ∈ jT) (h2 : Cond.static Lib.Math.min.name ∈ jT) (h3 : Cond.initialized "java/lang/Math" ∈ jT) (h4 : Cond.code Lib.Math.min.name Lib.Math.min.code 2 (some .int) ∈ jT) (hd : 1 ≤ d) (hLn : L.length = nL) (hrest : (st.map fun v => v.category).sum ≤ 8) (g : jG Γ Δ sh fin (pc + 3) L (.int (if y < x then y else x) :: st) μ) : jG Γ Δ sh fin pc L (.int y :: .int x :: st) μ := by
  obtain ⟨p, l, e, R, s, m, args, below, meth, c⟩ := Γ
  obtain ⟨hx, hb, hml, hown, hts, hlocks, hr, hR, hK, hD⟩ := X
  subst hR
  intro H locs ls hP hS hL
  exact va_mmin hx hb (by rw [hml, ← hLn]; exact hL.1.symm) hown (hts _ h1) (hts _ h2) (hts _ h3) (hts _ h4) hd (by show _ + 13 ≤ 60 * d; omega) (Nat.zero_le _) (Nat.zero_le _) dd (g H locs ls hP hS hL)
theorem g_max {idx : Nat} {x y : Int32} (X : jOk Γ Δ sh cc nL own ret d) (dd : decode cc pc = .ok (.invokestatic idx, 3)) (h1 : Cond.methodLink own idx Lib.Math.max.name ∈ jT) (h2 : Cond.static Lib.Math.max.name ∈ jT) (h3 : Cond.initialized "java/lang/Math" ∈ jT) (h4 : Cond.code Lib.Math.max.name Lib.Math.max.code 2 (some .int) ∈ jT) (hd : 1 ≤ d) (hLn : L.length = nL) (hrest : (st.map fun v => v.category).sum ≤ 8) (g : jG Γ Δ sh fin (pc + 3) L (.int (if x < y then y else x) :: st) μ) : jG Γ Δ sh fin pc L (.int y :: .int x :: st) μ := by
  obtain ⟨p, l, e, R, s, m, args, below, meth, c⟩ := Γ
  obtain ⟨hx, hb, hml, hown, hts, hlocks, hr, hR, hK, hD⟩ := X
  subst hR
  intro H locs ls hP hS hL
  exact va_mmax hx hb (by rw [hml, ← hLn]; exact hL.1.symm) hown (hts _ h1) (hts _ h2) (hts _ h3) (hts _ h4) hd (by show _ + 13 ≤ 60 * d; omega) (Nat.zero_le _) (Nat.zero_le _) dd (g H locs ls hP hS hL)
/-- a copy of bytes that goes wholly in -/
def jcpOk (μ : jM) (c1 n0 n1 : Nat) (sp dp n : Int32) : Prop := ¬ sp < 0 ∧ ¬ dp < 0 ∧ ¬ n < 0 ∧ sp.toNatClampNeg + n.toNatClampNeg ≤ n0 ∧ dp.toNatClampNeg + n.toNatClampNeg ≤ n1 ∧ ∀ i, i < n.toNatClampNeg → fits .byte (.int (μ.1 c1 (sp.toNatClampNeg + i))) = true
theorem g_copy {idx c1 c2 n0 n1 : Nat} {sp dp n : Int32} (X : jOk Γ Δ sh cc nL own ret d) (dd : decode cc pc = .ok (.invokestatic idx, 3)) (w1 : Cond.methodLink own idx arraycopyName ∈ jT) (w2 : Cond.native arraycopyName ∈ jT) (w3 : Cond.static arraycopyName ∈ jT) (w4 : Cond.initialized "java/lang/System" ∈ jT) (hd : 1 ≤ d) (hLn : L.length = nL) (hrest : (st.map fun v => v.category).sum ≤ 8) (hs1 : sh[c1]? = some (.inr (1, n0))) (hs2 : sh[c2]? = some (.inr (1, n1))) (h : jcpOk μ c1 n0 n1 sp dp n) (g : jG Γ Δ sh fin (pc + 3) L st (jcp μ c1 sp.toNatClampNeg c2 dp.toNatClampNeg n.toNatClampNeg)) : jG Γ Δ sh fin pc L (.int n :: .int dp :: jr Δ c2 :: .int sp :: jr Δ c1 :: st) μ := by
  obtain ⟨p, l, e, R, s, m, args, below, meth, c⟩ := Γ
  obtain ⟨hx, hb, hml, hown, hts, hlocks, hr, hR, hK, hD⟩ := X
  subst hR
  intro H locs ls hP hS hL
  obtain ⟨h1, h2, h3, h4, h5, h6⟩ := h
  refine va_copyi hx hb (by rw [hml, ← hLn]; exact hL.1.symm) hown (hts _ w1) (hts _ w2) (hts _ w3) (hts _ w4) hK hP (hD μ) hS c1 c2 1 1 ((jW_get μ hs1).trans (by rw [jent_i (by decide)])) ((jW_get μ hs2).trans (by rw [jent_i (by decide)])) rfl rfl rfl h1 h2 h3 h4 h5 h6 hd ?_ dd (fun H1 locs1 hP1 hD1 hS1 => ?_)
  · show _ + (nativeFrameWords "java/lang/System" "arraycopy" 5 + 11) ≤ 60 * d
    have : nativeFrameWords "java/lang/System" "arraycopy" 5 + 11 ≤ 52 := by decide +kernel
    omega
  · rw [jW_set hs2 (by rw [jent_i (by decide), jcp_upd]) (jcp_off μ c1 sp.toNatClampNeg c2 dp.toNatClampNeg n.toNatClampNeg)] at hP1
    exact g H1 locs1 ls hP1 hS1 hL
-- the words of a method's program
def jlet {α β : Type} (a : α) (k : α → Option β) : Option β := k a
def jcall {ρ β : Type} (a : Option (ρ × jM)) (k : ρ → jM → Option β) : Option β := match a with
  | none => none
  | some (r, μ) => k r μ
def jin {β : Type} (i : Int32) (n : Nat) (k : Option β) : Option β := if 0 ≤ i.toInt ∧ i.toInt < n then k else none
def jnz {β : Type} (y : Int32) (k : Option β) : Option β := if y = 0 then none else k
def jbl {β : Type} (v : Int32) (k : Option β) : Option β := if v = 0 ∨ v = 1 then k else none
noncomputable def jck {β : Type} (P : Prop) (k : Option β) : Option β := @ite _ P (Classical.propDecidable P) k none
theorem jlet_i {α β : Type} {a x : α} {k : α → Option β} {r : β} (hx : x = a) (h : jlet a k = some r) : k x = some r := by subst hx; exact h
theorem jcall_i {ρ β : Type} {a : Option (ρ × jM)} {k : ρ → jM → Option β} {r : β} (h : jcall a k = some r) : ∃ (v : ρ) (μ : jM), a = some (v, μ) ∧ k v μ = some r := by
  cases a with
  | none => cases h
  | some q => exact ⟨q.1, q.2, rfl, h⟩
theorem jin_i {β : Type} {i : Int32} {n : Nat} {k : Option β} {r : β} (h : jin i n k = some r) : vp_in i n ∧ k = some r := by
  unfold jin at h
  split at h
  · exact ⟨vp_in_iff.mpr (by assumption), h⟩
  · cases h
theorem jnz_i {β : Type} {y : Int32} {k : Option β} {r : β} (h : jnz y k = some r) : ¬ y = 0 ∧ k = some r := by
  unfold jnz at h
  split at h
  · cases h
  · exact ⟨by assumption, h⟩
theorem jbl_i {β : Type} {v : Int32} {k : Option β} {r : β} (h : jbl v k = some r) : (v = 0 ∨ v = 1) ∧ k = some r := by
  unfold jbl at h
  split at h
  · exact ⟨by assumption, h⟩
  · cases h
theorem jck_i {β : Type} {P : Prop} {k : Option β} {r : β} (h : jck P k = some r) : P ∧ k = some r := by
  unfold jck at h
  split at h
  · exact ⟨by assumption, h⟩
  · cases h
theorem jt_i {β : Type} {c : Prop} {inst : Decidable c} {a b : Option β} {r : β} (hc : c) (h : @ite _ c inst a b = some r) : a = some r := by rwa [if_pos hc] at h
theorem jf_i {β : Type} {c : Prop} {inst : Decidable c} {a b : Option β} {r : β} (hc : ¬ c) (h : @ite _ c inst a b = some r) : b = some r := by rwa [if_neg hc] at h
theorem jb_n {v : Int32} (h : v = 0 ∨ v = 1) : narrow .boolean (.int v) = .int v := by rcases h with rfl | rfl <;> rfl
theorem jb_f {v : Int32} (h : v = 0 ∨ v = 1) : fits .boolean (.int v) = true := by rcases h with rfl | rfl <;> rfl
-- names for values; fewer locals; the calls by the kind of their answer
theorem g_nmI {x : Int32} (k : ∀ y : Int32, y = x → jG Γ Δ sh fin pc L (.int y :: st) μ) : jG Γ Δ sh fin pc L (.int x :: st) μ := k x rfl
theorem g_nmJ {x : Int64} (k : ∀ y : Int64, y = x → jG Γ Δ sh fin pc L (.long y :: st) μ) : jG Γ Δ sh fin pc L (.long x :: st) μ := k x rfl
theorem g_nmM (k : ∀ ν : jM, ν = μ → jG Γ Δ sh fin pc L st ν) : jG Γ Δ sh fin pc L st μ := k μ rfl
theorem g_qN (g : jG Γ Δ sh fin pc L (.null :: st) μ) : jG Γ Δ sh fin pc L (jrq Δ none :: st) μ := g
theorem g_qS {q : Nat} (g : jG Γ Δ sh fin pc L (jr Δ q :: st) μ) : jG Γ Δ sh fin pc L (jrq Δ (some q) :: st) μ := g
def jsub : List (Option Value) → List (Option Value) → Prop
  | [], [] => True
  | none :: a, _ :: b => jsub a b
  | some v :: a, some w :: b => v = w ∧ jsub a b
  | _, _ => False
theorem jsub_spec : ∀ {a b : List (Option Value)}, jsub a b → a.length = b.length ∧ ∀ (i : Nat) (v : Value), a[i]? = some (some v) → b[i]? = some (some v)
  | [], [], _ => ⟨rfl, fun i v h => by simp at h⟩
  | none :: a, x :: b, h => by
    obtain ⟨h1, h2⟩ := jsub_spec (a := a) (b := b) (by cases x <;> exact h)
    refine ⟨by simp [h1], fun i v hi => ?_⟩
    cases i with
    | zero => simp at hi
    | succ i => exact h2 i v (by simpa using hi)
  | some v :: a, some w :: b, h => by
    obtain ⟨h0, h⟩ := h
    subst h0
    obtain ⟨h1, h2⟩ := jsub_spec (a := a) (b := b) h
    refine ⟨by simp [h1], fun i u hi => ?_⟩
    cases i with
    | zero => simpa using hi
    | succ i => exact h2 i u (by simpa using hi)
  | [], _ :: _, h => h.elim
  | none :: _, [], h => h.elim
  | some _ :: _, [], h => h.elim
  | some _ :: _, none :: _, h => h.elim
theorem g_weak {Lt : List (Option Value)} (g : jG Γ Δ sh fin pc Lt st μ) (h : jsub Lt L) : jG Γ Δ sh fin pc L st μ := by
  obtain ⟨p, l, e, R, s, m, args, below, meth, c⟩ := Γ
  intro H locs ls hP hS hL
  obtain ⟨h1, h2⟩ := jsub_spec h
  exact g H locs ls hP hS ⟨by rw [h1]; exact hL.1, hL.2.1, fun i v hi => hL.2.2 i v (h2 i v hi)⟩
def jSep (Δ : jD) (sh : List jS) : Prop := ∀ μ, va_D Δ.2.2.2 (jW Δ.2.1 Δ.2.2.1 sh μ)
theorem jOk_sep (X : jOk Γ Δ sh cc nL own ret d) : jSep Δ sh := by
  obtain ⟨p, l, e, R, s, m, args, below, meth, c⟩ := Γ
  exact X.2.2.2.2.2.2.2.2.2
theorem g_callVi {v : Int32} {idx n d1 q ci N : Nat} {C : String} {T : u_T} {ty : Nat → FieldType} {fl : List (Option Nat)} {y : MethodName} {bytes : ByteArray} {maxL : Nat} {ret1 : Option FieldType} {μ1 : jM} {st0 : List Value} (As : List Value) (X : jOk Γ Δ sh cc nL own ret d) (dd : decode cc pc = .ok (.invokevirtual idx, 3)) (hM : jMet Γ.2.1 y bytes maxL ret1 d1 Δ sh (jr Δ q :: As) μ (some (.int v), μ1)) (hY : jY y bytes maxL ret1 n) (hlink : Cond.methodLink own idx y ∈ jT) (hsel : Cond.selects y.cls y y ∈ jT) (hin : Cond.instanceMethod y ∈ jT) (hc : jCl ci C T N ty) (hC : y.cls = C) (hs : sh[q]? = some (.inl (ci, fl))) (hd : d1 < d) (hn : As.length = n) (hLn : L.length = nL) (hrest : (st.map fun v => v.category).sum ≤ 8) (hst : st0 = As.reverse ++ jr Δ q :: st) (g : jG Γ Δ sh fin (pc + 3) L (.int v :: st) μ1) : jG Γ Δ sh fin pc L st0 μ := g_callV As X dd hM hY hlink hsel hin hc hC hs hd hn hLn hrest hst g
theorem g_callSi {v : Int32} {idx n d1 : Nat} {y : MethodName} {bytes : ByteArray} {maxL : Nat} {ret1 : Option FieldType} {μ1 : jM} {st0 : List Value} (As : List Value) (X : jOk Γ Δ sh cc nL own ret d) (dd : decode cc pc = .ok (.invokestatic idx, 3)) (hM : jMet Γ.2.1 y bytes maxL ret1 d1 Δ sh As μ (some (.int v), μ1)) (hY : jY y bytes maxL ret1 n) (hlink : Cond.methodLink own idx y ∈ jT) (hstat : Cond.static y ∈ jT) (hd : d1 < d) (hn : As.length = n) (hLn : L.length = nL) (hrest : (st.map fun v => v.category).sum ≤ 8) (hst : st0 = As.reverse ++ st) (g : jG Γ Δ sh fin (pc + 3) L (.int v :: st) μ1) : jG Γ Δ sh fin pc L st0 μ := g_callS As X dd hM hY hlink hstat hd hn hLn hrest hst g
theorem g_callVl {v : Int64} {idx n d1 q ci N : Nat} {C : String} {T : u_T} {ty : Nat → FieldType} {fl : List (Option Nat)} {y : MethodName} {bytes : ByteArray} {maxL : Nat} {ret1 : Option FieldType} {μ1 : jM} {st0 : List Value} (As : List Value) (X : jOk Γ Δ sh cc nL own ret d) (dd : decode cc pc = .ok (.invokevirtual idx, 3)) (hM : jMet Γ.2.1 y bytes maxL ret1 d1 Δ sh (jr Δ q :: As) μ (some (.long v), μ1)) (hY : jY y bytes maxL ret1 n) (hlink : Cond.methodLink own idx y ∈ jT) (hsel : Cond.selects y.cls y y ∈ jT) (hin : Cond.instanceMethod y ∈ jT) (hc : jCl ci C T N ty) (hC : y.cls = C) (hs : sh[q]? = some (.inl (ci, fl))) (hd : d1 < d) (hn : As.length = n) (hLn : L.length = nL) (hrest : (st.map fun v => v.category).sum ≤ 8) (hst : st0 = As.reverse ++ jr Δ q :: st) (g : jG Γ Δ sh fin (pc + 3) L (.long v :: st) μ1) : jG Γ Δ sh fin pc L st0 μ := g_callV As X dd hM hY hlink hsel hin hc hC hs hd hn hLn hrest hst g
theorem g_callSl {v : Int64} {idx n d1 : Nat} {y : MethodName} {bytes : ByteArray} {maxL : Nat} {ret1 : Option FieldType} {μ1 : jM} {st0 : List Value} (As : List Value) (X : jOk Γ Δ sh cc nL own ret d) (dd : decode cc pc = .ok (.invokestatic idx, 3)) (hM : jMet Γ.2.1 y bytes maxL ret1 d1 Δ sh As μ (some (.long v), μ1)) (hY : jY y bytes maxL ret1 n) (hlink : Cond.methodLink own idx y ∈ jT) (hstat : Cond.static y ∈ jT) (hd : d1 < d) (hn : As.length = n) (hLn : L.length = nL) (hrest : (st.map fun v => v.category).sum ≤ 8) (hst : st0 = As.reverse ++ st) (g : jG Γ Δ sh fin (pc + 3) L (.long v :: st) μ1) : jG Γ Δ sh fin pc L st0 μ := g_callS As X dd hM hY hlink hstat hd hn hLn hrest hst g
theorem g_callVv {idx n d1 q ci N : Nat} {C : String} {T : u_T} {ty : Nat → FieldType} {fl : List (Option Nat)} {y : MethodName} {bytes : ByteArray} {maxL : Nat} {ret1 : Option FieldType} {μ1 : jM} {st0 : List Value} (As : List Value) (X : jOk Γ Δ sh cc nL own ret d) (dd : decode cc pc = .ok (.invokevirtual idx, 3)) (hM : jMet Γ.2.1 y bytes maxL ret1 d1 Δ sh (jr Δ q :: As) μ (none, μ1)) (hY : jY y bytes maxL ret1 n) (hlink : Cond.methodLink own idx y ∈ jT) (hsel : Cond.selects y.cls y y ∈ jT) (hin : Cond.instanceMethod y ∈ jT) (hc : jCl ci C T N ty) (hC : y.cls = C) (hs : sh[q]? = some (.inl (ci, fl))) (hd : d1 < d) (hn : As.length = n) (hLn : L.length = nL) (hrest : (st.map fun v => v.category).sum ≤ 8) (hst : st0 = As.reverse ++ jr Δ q :: st) (g : jG Γ Δ sh fin (pc + 3) L (st) μ1) : jG Γ Δ sh fin pc L st0 μ := g_callV As X dd hM hY hlink hsel hin hc hC hs hd hn hLn hrest hst g
theorem g_callSv {idx n d1 : Nat} {y : MethodName} {bytes : ByteArray} {maxL : Nat} {ret1 : Option FieldType} {μ1 : jM} {st0 : List Value} (As : List Value) (X : jOk Γ Δ sh cc nL own ret d) (dd : decode cc pc = .ok (.invokestatic idx, 3)) (hM : jMet Γ.2.1 y bytes maxL ret1 d1 Δ sh As μ (none, μ1)) (hY : jY y bytes maxL ret1 n) (hlink : Cond.methodLink own idx y ∈ jT) (hstat : Cond.static y ∈ jT) (hd : d1 < d) (hn : As.length = n) (hLn : L.length = nL) (hrest : (st.map fun v => v.category).sum ≤ 8) (hst : st0 = As.reverse ++ st) (g : jG Γ Δ sh fin (pc + 3) L (st) μ1) : jG Γ Δ sh fin pc L st0 μ := g_callS As X dd hM hY hlink hstat hd hn hLn hrest hst g
theorem g_callVq {v : Option Nat} {idx n d1 q ci N : Nat} {C : String} {T : u_T} {ty : Nat → FieldType} {fl : List (Option Nat)} {y : MethodName} {bytes : ByteArray} {maxL : Nat} {ret1 : Option FieldType} {μ1 : jM} {st0 : List Value} (As : List Value) (X : jOk Γ Δ sh cc nL own ret d) (dd : decode cc pc = .ok (.invokevirtual idx, 3)) (hM : jMet Γ.2.1 y bytes maxL ret1 d1 Δ sh (jr Δ q :: As) μ (some (jrq Δ v), μ1)) (hY : jY y bytes maxL ret1 n) (hlink : Cond.methodLink own idx y ∈ jT) (hsel : Cond.selects y.cls y y ∈ jT) (hin : Cond.instanceMethod y ∈ jT) (hc : jCl ci C T N ty) (hC : y.cls = C) (hs : sh[q]? = some (.inl (ci, fl))) (hd : d1 < d) (hn : As.length = n) (hLn : L.length = nL) (hrest : (st.map fun v => v.category).sum ≤ 8) (hst : st0 = As.reverse ++ jr Δ q :: st) (g : jG Γ Δ sh fin (pc + 3) L (jrq Δ v :: st) μ1) : jG Γ Δ sh fin pc L st0 μ := g_callV As X dd hM hY hlink hsel hin hc hC hs hd hn hLn hrest hst g
theorem g_callSq {v : Option Nat} {idx n d1 : Nat} {y : MethodName} {bytes : ByteArray} {maxL : Nat} {ret1 : Option FieldType} {μ1 : jM} {st0 : List Value} (As : List Value) (X : jOk Γ Δ sh cc nL own ret d) (dd : decode cc pc = .ok (.invokestatic idx, 3)) (hM : jMet Γ.2.1 y bytes maxL ret1 d1 Δ sh As μ (some (jrq Δ v), μ1)) (hY : jY y bytes maxL ret1 n) (hlink : Cond.methodLink own idx y ∈ jT) (hstat : Cond.static y ∈ jT) (hd : d1 < d) (hn : As.length = n) (hLn : L.length = nL) (hrest : (st.map fun v => v.category).sum ≤ 8) (hst : st0 = As.reverse ++ st) (g : jG Γ Δ sh fin (pc + 3) L (jrq Δ v :: st) μ1) : jG Γ Δ sh fin pc L st0 μ := g_callS As X dd hM hY hlink hstat hd hn hLn hrest hst g
end JROWS
end
section
theorem dJx00060_init_a7421_0 : decode cJx00060_init_a7421 0 = .ok (.aload_n 0, 1) := by decide +kernel
theorem dJx00060_init_a7421_1 : decode cJx00060_init_a7421 1 = .ok (.aload_n 1, 1) := by decide +kernel
theorem dJx00060_init_a7421_2 : decode cJx00060_init_a7421 2 = .ok (.invokespecial 7, 3) := by decide +kernel
theorem dJx00060_init_a7421_5 : decode cJx00060_init_a7421 5 = .ok (.return_, 1) := by decide +kernel
theorem dJ9_max_7cf53_0 : decode cJ9_max_7cf53 0 = .ok (.iload_n 0, 1) := by decide +kernel
theorem dJ9_max_7cf53_1 : decode cJ9_max_7cf53 1 = .ok (.iload_n 1, 1) := by decide +kernel
theorem dJ9_max_7cf53_2 : decode cJ9_max_7cf53 2 = .ok (.if_icmp .lt 7, 3) := by decide +kernel
theorem dJ9_max_7cf53_5 : decode cJ9_max_7cf53 5 = .ok (.iload_n 0, 1) := by decide +kernel
theorem dJ9_max_7cf53_6 : decode cJ9_max_7cf53 6 = .ok (.goto 4, 3) := by decide +kernel
theorem dJ9_max_7cf53_9 : decode cJ9_max_7cf53 9 = .ok (.iload_n 1, 1) := by decide +kernel
theorem dJ9_max_7cf53_10 : decode cJ9_max_7cf53 10 = .ok (.ireturn, 1) := by decide +kernel
theorem dJ9_min_7cf53_0 : decode cJ9_min_7cf53 0 = .ok (.iload_n 0, 1) := by decide +kernel
theorem dJ9_min_7cf53_1 : decode cJ9_min_7cf53 1 = .ok (.iload_n 1, 1) := by decide +kernel
theorem dJ9_min_7cf53_2 : decode cJ9_min_7cf53 2 = .ok (.if_icmp .gt 7, 3) := by decide +kernel
theorem dJ9_min_7cf53_5 : decode cJ9_min_7cf53 5 = .ok (.iload_n 0, 1) := by decide +kernel
theorem dJ9_min_7cf53_6 : decode cJ9_min_7cf53 6 = .ok (.goto 4, 3) := by decide +kernel
theorem dJ9_min_7cf53_9 : decode cJ9_min_7cf53 9 = .ok (.iload_n 1, 1) := by decide +kernel
theorem dJ9_min_7cf53_10 : decode cJ9_min_7cf53 10 = .ok (.ireturn, 1) := by decide +kernel
theorem dJ7_fill_031fb_0 : decode cJ7_fill_031fb 0 = .ok (.iconst 0, 1) := by decide +kernel
theorem dJ7_fill_031fb_1 : decode cJ7_fill_031fb 1 = .ok (.istore_n 2, 1) := by decide +kernel
theorem dJ7_fill_031fb_2 : decode cJ7_fill_031fb 2 = .ok (.aload_n 0, 1) := by decide +kernel
theorem dJ7_fill_031fb_3 : decode cJ7_fill_031fb 3 = .ok (.arraylength, 1) := by decide +kernel
theorem dJ7_fill_031fb_4 : decode cJ7_fill_031fb 4 = .ok (.istore_n 3, 1) := by decide +kernel
theorem dJ7_fill_031fb_5 : decode cJ7_fill_031fb 5 = .ok (.iload_n 2, 1) := by decide +kernel
theorem dJ7_fill_031fb_6 : decode cJ7_fill_031fb 6 = .ok (.iload_n 3, 1) := by decide +kernel
theorem dJ7_fill_031fb_7 : decode cJ7_fill_031fb 7 = .ok (.if_icmp .ge 13, 3) := by decide +kernel
theorem dJ7_fill_031fb_10 : decode cJ7_fill_031fb 10 = .ok (.aload_n 0, 1) := by decide +kernel
theorem dJ7_fill_031fb_11 : decode cJ7_fill_031fb 11 = .ok (.iload_n 2, 1) := by decide +kernel
theorem dJ7_fill_031fb_12 : decode cJ7_fill_031fb 12 = .ok (.iload_n 1, 1) := by decide +kernel
theorem dJ7_fill_031fb_13 : decode cJ7_fill_031fb 13 = .ok (.bastore, 1) := by decide +kernel
theorem dJ7_fill_031fb_14 : decode cJ7_fill_031fb 14 = .ok (.iinc 2 1, 3) := by decide +kernel
theorem dJ7_fill_031fb_17 : decode cJ7_fill_031fb 17 = .ok (.goto (-12), 3) := by decide +kernel
theorem dJ7_fill_031fb_20 : decode cJ7_fill_031fb 20 = .ok (.return_, 1) := by decide +kernel
end
section
theorem dX0_init_0 : decode cX0_init 0 = .ok (.aload_n 0, 1) := by decide +kernel
theorem dX0_init_1 : decode cX0_init 1 = .ok (.invokespecial 3, 3) := by decide +kernel
theorem dX0_init_4 : decode cX0_init 4 = .ok (.aload_n 0, 1) := by decide +kernel
theorem dX0_init_5 : decode cX0_init 5 = .ok (.iconst 0, 1) := by decide +kernel
theorem dX0_init_6 : decode cX0_init 6 = .ok (.putfield 9, 3) := by decide +kernel
theorem dX0_init_9 : decode cX0_init 9 = .ok (.aload_n 0, 1) := by decide +kernel
theorem dX0_init_10 : decode cX0_init 10 = .ok (.iload_n 1, 1) := by decide +kernel
theorem dX0_init_11 : decode cX0_init 11 = .ok (.newarray .byte, 2) := by decide +kernel
theorem dX0_init_13 : decode cX0_init 13 = .ok (.putfield 15, 3) := by decide +kernel
theorem dX0_init_16 : decode cX0_init 16 = .ok (.return_, 1) := by decide +kernel
theorem dX0_hasRoom_0 : decode cX0_hasRoom 0 = .ok (.iload_n 1, 1) := by decide +kernel
theorem dX0_hasRoom_1 : decode cX0_hasRoom 1 = .ok (.aload_n 0, 1) := by decide +kernel
theorem dX0_hasRoom_2 : decode cX0_hasRoom 2 = .ok (.getfield 15, 3) := by decide +kernel
theorem dX0_hasRoom_5 : decode cX0_hasRoom 5 = .ok (.arraylength, 1) := by decide +kernel
theorem dX0_hasRoom_6 : decode cX0_hasRoom 6 = .ok (.aload_n 0, 1) := by decide +kernel
theorem dX0_hasRoom_7 : decode cX0_hasRoom 7 = .ok (.getfield 9, 3) := by decide +kernel
theorem dX0_hasRoom_10 : decode cX0_hasRoom 10 = .ok (.isub, 1) := by decide +kernel
theorem dX0_hasRoom_11 : decode cX0_hasRoom 11 = .ok (.if_icmp .gt 7, 3) := by decide +kernel
theorem dX0_hasRoom_14 : decode cX0_hasRoom 14 = .ok (.iconst 1, 1) := by decide +kernel
theorem dX0_hasRoom_15 : decode cX0_hasRoom 15 = .ok (.goto 4, 3) := by decide +kernel
theorem dX0_hasRoom_18 : decode cX0_hasRoom 18 = .ok (.iconst 0, 1) := by decide +kernel
theorem dX0_hasRoom_19 : decode cX0_hasRoom 19 = .ok (.ireturn, 1) := by decide +kernel
theorem dX0_add_0 : decode cX0_add 0 = .ok (.aload_n 0, 1) := by decide +kernel
theorem dX0_add_1 : decode cX0_add 1 = .ok (.getfield 9, 3) := by decide +kernel
theorem dX0_add_4 : decode cX0_add 4 = .ok (.aload_n 0, 1) := by decide +kernel
theorem dX0_add_5 : decode cX0_add 5 = .ok (.getfield 15, 3) := by decide +kernel
theorem dX0_add_8 : decode cX0_add 8 = .ok (.arraylength, 1) := by decide +kernel
theorem dX0_add_9 : decode cX0_add 9 = .ok (.if_icmp .ge 24, 3) := by decide +kernel
theorem dX0_add_12 : decode cX0_add 12 = .ok (.aload_n 0, 1) := by decide +kernel
theorem dX0_add_13 : decode cX0_add 13 = .ok (.getfield 15, 3) := by decide +kernel
theorem dX0_add_16 : decode cX0_add 16 = .ok (.aload_n 0, 1) := by decide +kernel
theorem dX0_add_17 : decode cX0_add 17 = .ok (.getfield 9, 3) := by decide +kernel
theorem dX0_add_20 : decode cX0_add 20 = .ok (.iload_n 1, 1) := by decide +kernel
theorem dX0_add_21 : decode cX0_add 21 = .ok (.i2b, 1) := by decide +kernel
theorem dX0_add_22 : decode cX0_add 22 = .ok (.bastore, 1) := by decide +kernel
theorem dX0_add_23 : decode cX0_add 23 = .ok (.aload_n 0, 1) := by decide +kernel
theorem dX0_add_24 : decode cX0_add 24 = .ok (.dup, 1) := by decide +kernel
theorem dX0_add_25 : decode cX0_add 25 = .ok (.getfield 9, 3) := by decide +kernel
theorem dX0_add_28 : decode cX0_add 28 = .ok (.iconst 1, 1) := by decide +kernel
theorem dX0_add_29 : decode cX0_add 29 = .ok (.iadd, 1) := by decide +kernel
theorem dX0_add_30 : decode cX0_add 30 = .ok (.putfield 9, 3) := by decide +kernel
theorem dX0_add_33 : decode cX0_add 33 = .ok (.return_, 1) := by decide +kernel
theorem dX0_set_0 : decode cX0_set 0 = .ok (.iload_n 1, 1) := by decide +kernel
theorem dX0_set_1 : decode cX0_set 1 = .ok (.ifCond .lt 20, 3) := by decide +kernel
theorem dX0_set_4 : decode cX0_set 4 = .ok (.iload_n 1, 1) := by decide +kernel
theorem dX0_set_5 : decode cX0_set 5 = .ok (.aload_n 0, 1) := by decide +kernel
theorem dX0_set_6 : decode cX0_set 6 = .ok (.getfield 15, 3) := by decide +kernel
theorem dX0_set_9 : decode cX0_set 9 = .ok (.arraylength, 1) := by decide +kernel
theorem dX0_set_10 : decode cX0_set 10 = .ok (.if_icmp .ge 11, 3) := by decide +kernel
theorem dX0_set_13 : decode cX0_set 13 = .ok (.aload_n 0, 1) := by decide +kernel
theorem dX0_set_14 : decode cX0_set 14 = .ok (.getfield 15, 3) := by decide +kernel
theorem dX0_set_17 : decode cX0_set 17 = .ok (.iload_n 1, 1) := by decide +kernel
theorem dX0_set_18 : decode cX0_set 18 = .ok (.iload_n 2, 1) := by decide +kernel
theorem dX0_set_19 : decode cX0_set 19 = .ok (.i2b, 1) := by decide +kernel
theorem dX0_set_20 : decode cX0_set 20 = .ok (.bastore, 1) := by decide +kernel
theorem dX0_set_21 : decode cX0_set 21 = .ok (.return_, 1) := by decide +kernel
theorem dX0_get_0 : decode cX0_get 0 = .ok (.iload_n 1, 1) := by decide +kernel
theorem dX0_get_1 : decode cX0_get 1 = .ok (.ifCond .lt 24, 3) := by decide +kernel
theorem dX0_get_4 : decode cX0_get 4 = .ok (.iload_n 1, 1) := by decide +kernel
theorem dX0_get_5 : decode cX0_get 5 = .ok (.aload_n 0, 1) := by decide +kernel
theorem dX0_get_6 : decode cX0_get 6 = .ok (.getfield 9, 3) := by decide +kernel
theorem dX0_get_9 : decode cX0_get 9 = .ok (.if_icmp .ge 16, 3) := by decide +kernel
theorem dX0_get_12 : decode cX0_get 12 = .ok (.aload_n 0, 1) := by decide +kernel
theorem dX0_get_13 : decode cX0_get 13 = .ok (.getfield 15, 3) := by decide +kernel
theorem dX0_get_16 : decode cX0_get 16 = .ok (.iload_n 1, 1) := by decide +kernel
theorem dX0_get_17 : decode cX0_get 17 = .ok (.baload, 1) := by decide +kernel
theorem dX0_get_18 : decode cX0_get 18 = .ok (.sipush 255, 3) := by decide +kernel
theorem dX0_get_21 : decode cX0_get 21 = .ok (.iand, 1) := by decide +kernel
theorem dX0_get_22 : decode cX0_get 22 = .ok (.goto 4, 3) := by decide +kernel
theorem dX0_get_25 : decode cX0_get 25 = .ok (.iconst (-1), 1) := by decide +kernel
theorem dX0_get_26 : decode cX0_get 26 = .ok (.ireturn, 1) := by decide +kernel
theorem dX0_blank_0 : decode cX0_blank 0 = .ok (.aload_n 0, 1) := by decide +kernel
theorem dX0_blank_1 : decode cX0_blank 1 = .ok (.getfield 15, 3) := by decide +kernel
theorem dX0_blank_4 : decode cX0_blank 4 = .ok (.iconst 0, 1) := by decide +kernel
theorem dX0_blank_5 : decode cX0_blank 5 = .ok (.invokestatic 19, 3) := by decide +kernel
theorem dX0_blank_8 : decode cX0_blank 8 = .ok (.aload_n 0, 1) := by decide +kernel
theorem dX0_blank_9 : decode cX0_blank 9 = .ok (.iconst 0, 1) := by decide +kernel
theorem dX0_blank_10 : decode cX0_blank 10 = .ok (.putfield 9, 3) := by decide +kernel
theorem dX0_blank_13 : decode cX0_blank 13 = .ok (.return_, 1) := by decide +kernel
theorem dX0_become_0 : decode cX0_become 0 = .ok (.aload_n 0, 1) := by decide +kernel
theorem dX0_become_1 : decode cX0_become 1 = .ok (.aload_n 1, 1) := by decide +kernel
theorem dX0_become_2 : decode cX0_become 2 = .ok (.getfield 9, 3) := by decide +kernel
theorem dX0_become_5 : decode cX0_become 5 = .ok (.aload_n 0, 1) := by decide +kernel
theorem dX0_become_6 : decode cX0_become 6 = .ok (.getfield 15, 3) := by decide +kernel
theorem dX0_become_9 : decode cX0_become 9 = .ok (.arraylength, 1) := by decide +kernel
theorem dX0_become_10 : decode cX0_become 10 = .ok (.invokestatic 25, 3) := by decide +kernel
theorem dX0_become_13 : decode cX0_become 13 = .ok (.putfield 9, 3) := by decide +kernel
theorem dX0_become_16 : decode cX0_become 16 = .ok (.aload_n 1, 1) := by decide +kernel
theorem dX0_become_17 : decode cX0_become 17 = .ok (.getfield 15, 3) := by decide +kernel
theorem dX0_become_20 : decode cX0_become 20 = .ok (.iconst 0, 1) := by decide +kernel
theorem dX0_become_21 : decode cX0_become 21 = .ok (.aload_n 0, 1) := by decide +kernel
theorem dX0_become_22 : decode cX0_become 22 = .ok (.getfield 15, 3) := by decide +kernel
theorem dX0_become_25 : decode cX0_become 25 = .ok (.iconst 0, 1) := by decide +kernel
theorem dX0_become_26 : decode cX0_become 26 = .ok (.aload_n 0, 1) := by decide +kernel
theorem dX0_become_27 : decode cX0_become 27 = .ok (.getfield 9, 3) := by decide +kernel
theorem dX0_become_30 : decode cX0_become 30 = .ok (.invokestatic 31, 3) := by decide +kernel
theorem dX0_become_33 : decode cX0_become 33 = .ok (.return_, 1) := by decide +kernel
end
section
theorem jT_in {w : Cond} (i : Nat) (h : tables_1[i]? = some w) (hg : goodWord w = true) : w ∈ jT := List.mem_filter.mpr ⟨List.mem_append_right _ (List.mem_of_getElem? h), hg⟩
theorem jT_sel {q : MethodName × Nat} (i : Nat) (h : lw_privs[i]? = some q) : Cond.selects q.1.cls q.1 q.1 ∈ jT := List.mem_filter.mpr ⟨List.mem_append_left _ (List.mem_map.mpr ⟨q, List.mem_of_getElem? h, rfl⟩), rfl⟩
theorem w_1 : (Jvm.Cond.initialized "RunForms") ∈ jT := jT_in 1 (by decide +kernel) rfl
theorem w_2 : (Jvm.Cond.initialized "RunForms$Rules") ∈ jT := jT_in 2 (by decide +kernel) rfl
theorem w_3 : (Jvm.Cond.initialized "RunForms$Octets") ∈ jT := jT_in 3 (by decide +kernel) rfl
theorem w_4 : (Jvm.Cond.initialized "RunForms$Packer") ∈ jT := jT_in 4 (by decide +kernel) rfl
theorem w_5 : (Jvm.Cond.initialized "RunForms$Opener") ∈ jT := jT_in 5 (by decide +kernel) rfl
theorem w_6 : (Jvm.Cond.initialized "RunForms$Plain") ∈ jT := jT_in 6 (by decide +kernel) rfl
theorem w_7 : (Jvm.Cond.initialized "RunFormsModel") ∈ jT := jT_in 7 (by decide +kernel) rfl
theorem w_8 : (Jvm.Cond.initialized "java/lang/Math") ∈ jT := jT_in 8 (by decide +kernel) rfl
theorem w_9 : (Jvm.Cond.initialized "java/lang/System") ∈ jT := jT_in 9 (by decide +kernel) rfl
theorem w_10 : (Jvm.Cond.initialized "java/util/Arrays") ∈ jT := jT_in 10 (by decide +kernel) rfl
theorem w_31 : (Jvm.Cond.fieldLink "RunForms$Rules" (24 : Nat) "RunForms$Rules" "form" "I") ∈ jT := jT_in 31 (by decide +kernel) rfl
theorem w_32 : (Jvm.Cond.fieldLink "RunForms$Packer" (48 : Nat) "RunForms$Rules" "form" "I") ∈ jT := jT_in 32 (by decide +kernel) rfl
theorem w_33 : (Jvm.Cond.fieldLink "RunForms$Opener" (62 : Nat) "RunForms$Rules" "form" "I") ∈ jT := jT_in 33 (by decide +kernel) rfl
theorem w_34 : (Jvm.Cond.fieldLink "RunForms$Plain" (62 : Nat) "RunForms$Rules" "form" "I") ∈ jT := jT_in 34 (by decide +kernel) rfl
theorem w_35 : (Jvm.Cond.fieldLink "RunForms" (69 : Nat) "RunForms$Rules" "form" "I") ∈ jT := jT_in 35 (by decide +kernel) rfl
theorem w_36 : (Jvm.Cond.fieldLink "RunForms$Rules" (9 : Nat) "RunForms$Rules" "unitBytes" "I") ∈ jT := jT_in 36 (by decide +kernel) rfl
theorem w_37 : (Jvm.Cond.fieldLink "RunForms$Plain" (79 : Nat) "RunForms$Rules" "unitBytes" "I") ∈ jT := jT_in 37 (by decide +kernel) rfl
theorem w_38 : (Jvm.Cond.fieldLink "RunForms$Opener" (91 : Nat) "RunForms$Rules" "unitBytes" "I") ∈ jT := jT_in 38 (by decide +kernel) rfl
theorem w_39 : (Jvm.Cond.fieldLink "RunForms$Packer" (155 : Nat) "RunForms$Rules" "unitBytes" "I") ∈ jT := jT_in 39 (by decide +kernel) rfl
theorem w_40 : (Jvm.Cond.fieldLink "RunForms$Rules" (15 : Nat) "RunForms$Rules" "width" "I") ∈ jT := jT_in 40 (by decide +kernel) rfl
theorem w_41 : (Jvm.Cond.fieldLink "RunForms$Packer" (53 : Nat) "RunForms$Rules" "width" "I") ∈ jT := jT_in 41 (by decide +kernel) rfl
theorem w_42 : (Jvm.Cond.fieldLink "RunForms$Plain" (100 : Nat) "RunForms$Rules" "width" "I") ∈ jT := jT_in 42 (by decide +kernel) rfl
theorem w_43 : (Jvm.Cond.fieldLink "RunForms$Opener" (123 : Nat) "RunForms$Rules" "width" "I") ∈ jT := jT_in 43 (by decide +kernel) rfl
theorem w_44 : (Jvm.Cond.fieldLink "RunForms" (151 : Nat) "RunForms$Rules" "width" "I") ∈ jT := jT_in 44 (by decide +kernel) rfl
theorem w_45 : (Jvm.Cond.fieldLink "RunForms$Rules" (18 : Nat) "RunForms$Rules" "mark" "I") ∈ jT := jT_in 45 (by decide +kernel) rfl
theorem w_46 : (Jvm.Cond.fieldLink "RunForms$Opener" (81 : Nat) "RunForms$Rules" "mark" "I") ∈ jT := jT_in 46 (by decide +kernel) rfl
theorem w_47 : (Jvm.Cond.fieldLink "RunForms$Plain" (86 : Nat) "RunForms$Rules" "mark" "I") ∈ jT := jT_in 47 (by decide +kernel) rfl
theorem w_48 : (Jvm.Cond.fieldLink "RunForms$Packer" (161 : Nat) "RunForms$Rules" "mark" "I") ∈ jT := jT_in 48 (by decide +kernel) rfl
theorem w_49 : (Jvm.Cond.fieldLink "RunForms$Rules" (21 : Nat) "RunForms$Rules" "differences" "I") ∈ jT := jT_in 49 (by decide +kernel) rfl
theorem w_50 : (Jvm.Cond.fieldLink "RunForms$Opener" (54 : Nat) "RunForms$Rules" "differences" "I") ∈ jT := jT_in 50 (by decide +kernel) rfl
theorem w_51 : (Jvm.Cond.fieldLink "RunForms$Packer" (83 : Nat) "RunForms$Rules" "differences" "I") ∈ jT := jT_in 51 (by decide +kernel) rfl
theorem w_69 : (Jvm.Cond.fieldLink "RunForms$Octets" (15 : Nat) "RunForms$Octets" "held" "[B") ∈ jT := jT_in 69 (by decide +kernel) rfl
theorem w_70 : (Jvm.Cond.fieldLink "RunForms$Plain" (103 : Nat) "RunForms$Octets" "held" "[B") ∈ jT := jT_in 70 (by decide +kernel) rfl
theorem w_71 : (Jvm.Cond.fieldLink "RunForms$Octets" (9 : Nat) "RunForms$Octets" "count" "I") ∈ jT := jT_in 71 (by decide +kernel) rfl
theorem w_72 : (Jvm.Cond.fieldLink "RunForms$Packer" (40 : Nat) "RunForms$Octets" "count" "I") ∈ jT := jT_in 72 (by decide +kernel) rfl
theorem w_73 : (Jvm.Cond.fieldLink "RunForms$Opener" (74 : Nat) "RunForms$Octets" "count" "I") ∈ jT := jT_in 73 (by decide +kernel) rfl
theorem w_74 : (Jvm.Cond.fieldLink "RunForms$Plain" (76 : Nat) "RunForms$Octets" "count" "I") ∈ jT := jT_in 74 (by decide +kernel) rfl
theorem w_75 : (Jvm.Cond.fieldLink "RunForms" (61 : Nat) "RunForms$Octets" "count" "I") ∈ jT := jT_in 75 (by decide +kernel) rfl
theorem w_90 : (Jvm.Cond.fieldLink "RunForms$Packer" (36 : Nat) "RunForms$Packer" "rules" "LRunForms$Rules;") ∈ jT := jT_in 90 (by decide +kernel) rfl
theorem w_91 : (Jvm.Cond.fieldLink "RunForms$Packer" (14 : Nat) "RunForms$Packer" "packed" "LRunForms$Octets;") ∈ jT := jT_in 91 (by decide +kernel) rfl
theorem w_92 : (Jvm.Cond.fieldLink "RunForms" (84 : Nat) "RunForms$Packer" "packed" "LRunForms$Octets;") ∈ jT := jT_in 92 (by decide +kernel) rfl
theorem w_93 : (Jvm.Cond.fieldLink "RunForms$Packer" (20 : Nat) "RunForms$Packer" "units" "[I") ∈ jT := jT_in 93 (by decide +kernel) rfl
theorem w_94 : (Jvm.Cond.fieldLink "RunForms$Packer" (24 : Nat) "RunForms$Packer" "alike" "[I") ∈ jT := jT_in 94 (by decide +kernel) rfl
theorem w_95 : (Jvm.Cond.fieldLink "RunForms$Packer" (27 : Nat) "RunForms$Packer" "fewest" "[I") ∈ jT := jT_in 95 (by decide +kernel) rfl
theorem w_96 : (Jvm.Cond.fieldLink "RunForms$Packer" (30 : Nat) "RunForms$Packer" "sorts" "[I") ∈ jT := jT_in 96 (by decide +kernel) rfl
theorem w_97 : (Jvm.Cond.fieldLink "RunForms$Packer" (33 : Nat) "RunForms$Packer" "counts" "[I") ∈ jT := jT_in 97 (by decide +kernel) rfl
theorem w_98 : (Jvm.Cond.fieldLink "RunForms$Packer" (56 : Nat) "RunForms$Packer" "unitCount" "I") ∈ jT := jT_in 98 (by decide +kernel) rfl
theorem w_99 : (Jvm.Cond.fieldLink "RunForms$Packer" (89 : Nat) "RunForms$Packer" "end" "I") ∈ jT := jT_in 99 (by decide +kernel) rfl
theorem w_100 : (Jvm.Cond.fieldLink "RunForms$Packer" (105 : Nat) "RunForms$Packer" "rest" "I") ∈ jT := jT_in 100 (by decide +kernel) rfl
theorem w_131 : (Jvm.Cond.fieldLink "RunForms$Opener" (24 : Nat) "RunForms$Opener" "rules" "LRunForms$Rules;") ∈ jT := jT_in 131 (by decide +kernel) rfl
theorem w_132 : (Jvm.Cond.fieldLink "RunForms$Opener" (28 : Nat) "RunForms$Opener" "coded" "LRunForms$Octets;") ∈ jT := jT_in 132 (by decide +kernel) rfl
theorem w_133 : (Jvm.Cond.fieldLink "RunForms$Opener" (14 : Nat) "RunForms$Opener" "opened" "LRunForms$Octets;") ∈ jT := jT_in 133 (by decide +kernel) rfl
theorem w_134 : (Jvm.Cond.fieldLink "RunForms" (100 : Nat) "RunForms$Opener" "opened" "LRunForms$Octets;") ∈ jT := jT_in 134 (by decide +kernel) rfl
theorem w_135 : (Jvm.Cond.fieldLink "RunForms$Opener" (20 : Nat) "RunForms$Opener" "fault" "I") ∈ jT := jT_in 135 (by decide +kernel) rfl
theorem w_136 : (Jvm.Cond.fieldLink "RunForms" (94 : Nat) "RunForms$Opener" "fault" "I") ∈ jT := jT_in 136 (by decide +kernel) rfl
theorem w_137 : (Jvm.Cond.fieldLink "RunForms$Opener" (47 : Nat) "RunForms$Opener" "place" "I") ∈ jT := jT_in 137 (by decide +kernel) rfl
theorem w_138 : (Jvm.Cond.fieldLink "RunForms" (97 : Nat) "RunForms$Opener" "place" "I") ∈ jT := jT_in 138 (by decide +kernel) rfl
theorem w_139 : (Jvm.Cond.fieldLink "RunForms$Opener" (34 : Nat) "RunForms$Opener" "next" "I") ∈ jT := jT_in 139 (by decide +kernel) rfl
theorem w_140 : (Jvm.Cond.fieldLink "RunForms$Opener" (37 : Nat) "RunForms$Opener" "ended" "Z") ∈ jT := jT_in 140 (by decide +kernel) rfl
theorem w_141 : (Jvm.Cond.fieldLink "RunForms$Opener" (41 : Nat) "RunForms$Opener" "row" "I") ∈ jT := jT_in 141 (by decide +kernel) rfl
theorem w_142 : (Jvm.Cond.fieldLink "RunForms$Opener" (44 : Nat) "RunForms$Opener" "column" "I") ∈ jT := jT_in 142 (by decide +kernel) rfl
theorem w_168 : (Jvm.Cond.fieldLink "RunForms$Plain" (22 : Nat) "RunForms$Plain" "rules" "LRunForms$Rules;") ∈ jT := jT_in 168 (by decide +kernel) rfl
theorem w_169 : (Jvm.Cond.fieldLink "RunForms$Plain" (26 : Nat) "RunForms$Plain" "coded" "LRunForms$Octets;") ∈ jT := jT_in 169 (by decide +kernel) rfl
theorem w_170 : (Jvm.Cond.fieldLink "RunForms$Plain" (9 : Nat) "RunForms$Plain" "held" "[B") ∈ jT := jT_in 170 (by decide +kernel) rfl
theorem w_172 : (Jvm.Cond.fieldLink "RunForms$Plain" (15 : Nat) "RunForms$Plain" "count" "I") ∈ jT := jT_in 172 (by decide +kernel) rfl
theorem w_173 : (Jvm.Cond.fieldLink "RunForms" (106 : Nat) "RunForms$Plain" "count" "I") ∈ jT := jT_in 173 (by decide +kernel) rfl
theorem w_174 : (Jvm.Cond.fieldLink "RunForms$Plain" (19 : Nat) "RunForms$Plain" "reach" "I") ∈ jT := jT_in 174 (by decide +kernel) rfl
theorem w_175 : (Jvm.Cond.fieldLink "RunForms" (142 : Nat) "RunForms$Plain" "reach" "I") ∈ jT := jT_in 175 (by decide +kernel) rfl
theorem w_176 : (Jvm.Cond.fieldLink "RunForms$Plain" (45 : Nat) "RunForms$Plain" "next" "I") ∈ jT := jT_in 176 (by decide +kernel) rfl
theorem w_177 : (Jvm.Cond.fieldLink "RunForms$Plain" (48 : Nat) "RunForms$Plain" "ended" "Z") ∈ jT := jT_in 177 (by decide +kernel) rfl
theorem w_178 : (Jvm.Cond.fieldLink "RunForms$Plain" (52 : Nat) "RunForms$Plain" "row" "I") ∈ jT := jT_in 178 (by decide +kernel) rfl
theorem w_179 : (Jvm.Cond.fieldLink "RunForms$Plain" (55 : Nat) "RunForms$Plain" "column" "I") ∈ jT := jT_in 179 (by decide +kernel) rfl
theorem w_199 : (Jvm.Cond.fieldLink "RunForms" (14 : Nat) "RunForms" "rules" "LRunForms$Rules;") ∈ jT := jT_in 199 (by decide +kernel) rfl
theorem w_200 : (Jvm.Cond.fieldLink "RunForms" (21 : Nat) "RunForms" "source" "LRunForms$Octets;") ∈ jT := jT_in 200 (by decide +kernel) rfl
theorem w_201 : (Jvm.Cond.fieldLink "RunForms" (25 : Nat) "RunForms" "coded" "LRunForms$Octets;") ∈ jT := jT_in 201 (by decide +kernel) rfl
theorem w_202 : (Jvm.Cond.fieldLink "RunForms" (33 : Nat) "RunForms" "packer" "LRunForms$Packer;") ∈ jT := jT_in 202 (by decide +kernel) rfl
theorem w_203 : (Jvm.Cond.fieldLink "RunForms" (42 : Nat) "RunForms" "opener" "LRunForms$Opener;") ∈ jT := jT_in 203 (by decide +kernel) rfl
theorem w_204 : (Jvm.Cond.fieldLink "RunForms" (49 : Nat) "RunForms" "copied" "LRunForms$Plain;") ∈ jT := jT_in 204 (by decide +kernel) rfl
theorem w_221 : (Jvm.Cond.code ({ cls := "RunForms", name := "octet", desc := "(I)I" } : Jvm.MethodName) prog_1_method_2_code (2 : Nat) (Option.some Jvm.ClassFile.FieldType.int)) ∈ jT := jT_in 221 (by decide +kernel) rfl
theorem w_222 : (Jvm.Cond.methodLink "RunForms" (53 : Nat) ({ cls := "RunForms", name := "append", desc := "(LRunForms$Octets;II)I" } : Jvm.MethodName)) ∈ jT := jT_in 222 (by decide +kernel) rfl
theorem w_224 : (Jvm.Cond.instanceMethod ({ cls := "RunForms", name := "append", desc := "(LRunForms$Octets;II)I" } : Jvm.MethodName)) ∈ jT := jT_in 224 (by decide +kernel) rfl
theorem w_225 : (Jvm.Cond.code ({ cls := "RunForms", name := "append", desc := "(LRunForms$Octets;II)I" } : Jvm.MethodName) prog_1_method_17_code (5 : Nat) (Option.some Jvm.ClassFile.FieldType.int)) ∈ jT := jT_in 225 (by decide +kernel) rfl
theorem w_226 : (Jvm.Cond.methodLink "RunForms" (145 : Nat) ({ cls := "RunForms$Octets", name := "hasRoom", desc := "(I)Z" } : Jvm.MethodName)) ∈ jT := jT_in 226 (by decide +kernel) rfl
theorem w_227 : (Jvm.Cond.instanceMethod ({ cls := "RunForms$Octets", name := "hasRoom", desc := "(I)Z" } : Jvm.MethodName)) ∈ jT := jT_in 227 (by decide +kernel) rfl
theorem w_228 : (Jvm.Cond.selects "RunForms$Octets" ({ cls := "RunForms$Octets", name := "hasRoom", desc := "(I)Z" } : Jvm.MethodName) ({ cls := "RunForms$Octets", name := "hasRoom", desc := "(I)Z" } : Jvm.MethodName)) ∈ jT := jT_in 228 (by decide +kernel) rfl
theorem w_229 : (Jvm.Cond.code ({ cls := "RunForms$Octets", name := "hasRoom", desc := "(I)Z" } : Jvm.MethodName) prog_2_method_2_code (2 : Nat) (Option.some Jvm.ClassFile.FieldType.boolean)) ∈ jT := jT_in 229 (by decide +kernel) rfl
theorem w_230 : (Jvm.Cond.methodLink "RunForms" (148 : Nat) ({ cls := "RunForms$Octets", name := "add", desc := "(I)V" } : Jvm.MethodName)) ∈ jT := jT_in 230 (by decide +kernel) rfl
theorem w_231 : (Jvm.Cond.instanceMethod ({ cls := "RunForms$Octets", name := "add", desc := "(I)V" } : Jvm.MethodName)) ∈ jT := jT_in 231 (by decide +kernel) rfl
theorem w_232 : (Jvm.Cond.selects "RunForms$Octets" ({ cls := "RunForms$Octets", name := "add", desc := "(I)V" } : Jvm.MethodName) ({ cls := "RunForms$Octets", name := "add", desc := "(I)V" } : Jvm.MethodName)) ∈ jT := jT_in 232 (by decide +kernel) rfl
theorem w_233 : (Jvm.Cond.code ({ cls := "RunForms$Octets", name := "add", desc := "(I)V" } : Jvm.MethodName) prog_2_method_3_code (2 : Nat) (Option.none : Option Jvm.ClassFile.FieldType)) ∈ jT := jT_in 233 (by decide +kernel) rfl
theorem w_237 : (Jvm.Cond.code ({ cls := "RunForms", name := "repeat", desc := "(II)I" } : Jvm.MethodName) prog_1_method_3_code (3 : Nat) (Option.some Jvm.ClassFile.FieldType.int)) ∈ jT := jT_in 237 (by decide +kernel) rfl
theorem w_241 : (Jvm.Cond.code ({ cls := "RunForms", name := "code", desc := "(I)I" } : Jvm.MethodName) prog_1_method_4_code (2 : Nat) (Option.some Jvm.ClassFile.FieldType.int)) ∈ jT := jT_in 241 (by decide +kernel) rfl
theorem w_245 : (Jvm.Cond.code ({ cls := "RunForms", name := "cut", desc := "(II)I" } : Jvm.MethodName) prog_1_method_5_code (5 : Nat) (Option.some Jvm.ClassFile.FieldType.int)) ∈ jT := jT_in 245 (by decide +kernel) rfl
theorem w_246 : (Jvm.Cond.methodLink "RunForms" (57 : Nat) ({ cls := "RunForms", name := "rowOf", desc := "(I)LRunForms$Octets;" } : Jvm.MethodName)) ∈ jT := jT_in 246 (by decide +kernel) rfl
theorem w_248 : (Jvm.Cond.instanceMethod ({ cls := "RunForms", name := "rowOf", desc := "(I)LRunForms$Octets;" } : Jvm.MethodName)) ∈ jT := jT_in 248 (by decide +kernel) rfl
theorem w_249 : (Jvm.Cond.code ({ cls := "RunForms", name := "rowOf", desc := "(I)LRunForms$Octets;" } : Jvm.MethodName) prog_1_method_19_code (2 : Nat) (Option.some (Jvm.ClassFile.FieldType.object "RunForms$Octets"))) ∈ jT := jT_in 249 (by decide +kernel) rfl
theorem w_253 : (Jvm.Cond.code ({ cls := "RunForms", name := "rule", desc := "(II)I" } : Jvm.MethodName) prog_1_method_6_code (3 : Nat) (Option.some Jvm.ClassFile.FieldType.int)) ∈ jT := jT_in 253 (by decide +kernel) rfl
theorem w_254 : (Jvm.Cond.methodLink "RunForms" (65 : Nat) ({ cls := "RunForms$Rules", name := "allow", desc := "(II)Z" } : Jvm.MethodName)) ∈ jT := jT_in 254 (by decide +kernel) rfl
theorem w_255 : (Jvm.Cond.instanceMethod ({ cls := "RunForms$Rules", name := "allow", desc := "(II)Z" } : Jvm.MethodName)) ∈ jT := jT_in 255 (by decide +kernel) rfl
theorem w_256 : (Jvm.Cond.selects "RunForms$Rules" ({ cls := "RunForms$Rules", name := "allow", desc := "(II)Z" } : Jvm.MethodName) ({ cls := "RunForms$Rules", name := "allow", desc := "(II)Z" } : Jvm.MethodName)) ∈ jT := jT_in 256 (by decide +kernel) rfl
theorem w_257 : (Jvm.Cond.code ({ cls := "RunForms$Rules", name := "allow", desc := "(II)Z" } : Jvm.MethodName) prog_6_method_2_code (3 : Nat) (Option.some Jvm.ClassFile.FieldType.boolean)) ∈ jT := jT_in 257 (by decide +kernel) rfl
theorem w_258 : (Jvm.Cond.methodLink "RunForms" (72 : Nat) ({ cls := "RunForms$Rules", name := "change", desc := "(II)I" } : Jvm.MethodName)) ∈ jT := jT_in 258 (by decide +kernel) rfl
theorem w_259 : (Jvm.Cond.instanceMethod ({ cls := "RunForms$Rules", name := "change", desc := "(II)I" } : Jvm.MethodName)) ∈ jT := jT_in 259 (by decide +kernel) rfl
theorem w_260 : (Jvm.Cond.selects "RunForms$Rules" ({ cls := "RunForms$Rules", name := "change", desc := "(II)I" } : Jvm.MethodName) ({ cls := "RunForms$Rules", name := "change", desc := "(II)I" } : Jvm.MethodName)) ∈ jT := jT_in 260 (by decide +kernel) rfl
theorem w_261 : (Jvm.Cond.code ({ cls := "RunForms$Rules", name := "change", desc := "(II)I" } : Jvm.MethodName) prog_6_method_3_code (4 : Nat) (Option.some Jvm.ClassFile.FieldType.int)) ∈ jT := jT_in 261 (by decide +kernel) rfl
theorem w_265 : (Jvm.Cond.code ({ cls := "RunForms", name := "pack", desc := "(I)I" } : Jvm.MethodName) prog_1_method_7_code (3 : Nat) (Option.some Jvm.ClassFile.FieldType.int)) ∈ jT := jT_in 265 (by decide +kernel) rfl
theorem w_266 : (Jvm.Cond.methodLink "RunForms" (76 : Nat) ({ cls := "RunForms", name := "packRefusal", desc := "(I)I" } : Jvm.MethodName)) ∈ jT := jT_in 266 (by decide +kernel) rfl
theorem w_268 : (Jvm.Cond.instanceMethod ({ cls := "RunForms", name := "packRefusal", desc := "(I)I" } : Jvm.MethodName)) ∈ jT := jT_in 268 (by decide +kernel) rfl
theorem w_269 : (Jvm.Cond.code ({ cls := "RunForms", name := "packRefusal", desc := "(I)I" } : Jvm.MethodName) prog_1_method_18_code (2 : Nat) (Option.some Jvm.ClassFile.FieldType.int)) ∈ jT := jT_in 269 (by decide +kernel) rfl
theorem w_270 : (Jvm.Cond.methodLink "RunForms" (131 : Nat) ({ cls := "RunForms$Rules", name := "isWhole", desc := "(I)Z" } : Jvm.MethodName)) ∈ jT := jT_in 270 (by decide +kernel) rfl
theorem w_271 : (Jvm.Cond.instanceMethod ({ cls := "RunForms$Rules", name := "isWhole", desc := "(I)Z" } : Jvm.MethodName)) ∈ jT := jT_in 271 (by decide +kernel) rfl
theorem w_272 : (Jvm.Cond.selects "RunForms$Rules" ({ cls := "RunForms$Rules", name := "isWhole", desc := "(I)Z" } : Jvm.MethodName) ({ cls := "RunForms$Rules", name := "isWhole", desc := "(I)Z" } : Jvm.MethodName)) ∈ jT := jT_in 272 (by decide +kernel) rfl
theorem w_273 : (Jvm.Cond.code ({ cls := "RunForms$Rules", name := "isWhole", desc := "(I)Z" } : Jvm.MethodName) prog_6_method_4_code (3 : Nat) (Option.some Jvm.ClassFile.FieldType.boolean)) ∈ jT := jT_in 273 (by decide +kernel) rfl
theorem w_274 : (Jvm.Cond.methodLink "RunForms" (80 : Nat) ({ cls := "RunForms$Packer", name := "make", desc := "(LRunForms$Octets;I)I" } : Jvm.MethodName)) ∈ jT := jT_in 274 (by decide +kernel) rfl
theorem w_275 : (Jvm.Cond.instanceMethod ({ cls := "RunForms$Packer", name := "make", desc := "(LRunForms$Octets;I)I" } : Jvm.MethodName)) ∈ jT := jT_in 275 (by decide +kernel) rfl
theorem w_276 : (Jvm.Cond.selects "RunForms$Packer" ({ cls := "RunForms$Packer", name := "make", desc := "(LRunForms$Octets;I)I" } : Jvm.MethodName) ({ cls := "RunForms$Packer", name := "make", desc := "(LRunForms$Octets;I)I" } : Jvm.MethodName)) ∈ jT := jT_in 276 (by decide +kernel) rfl
theorem w_277 : (Jvm.Cond.code ({ cls := "RunForms$Packer", name := "make", desc := "(LRunForms$Octets;I)I" } : Jvm.MethodName) prog_4_method_2_code (5 : Nat) (Option.some Jvm.ClassFile.FieldType.int)) ∈ jT := jT_in 277 (by decide +kernel) rfl
theorem w_278 : (Jvm.Cond.methodLink "RunForms$Packer" (44 : Nat) ({ cls := "RunForms$Packer", name := "readUnits", desc := "(LRunForms$Octets;)V" } : Jvm.MethodName)) ∈ jT := jT_in 278 (by decide +kernel) rfl
theorem w_279 : (Jvm.Cond.instanceMethod ({ cls := "RunForms$Packer", name := "readUnits", desc := "(LRunForms$Octets;)V" } : Jvm.MethodName)) ∈ jT := jT_in 279 (by decide +kernel) rfl
theorem w_280 : (Jvm.Cond.selects "RunForms$Packer" ({ cls := "RunForms$Packer", name := "readUnits", desc := "(LRunForms$Octets;)V" } : Jvm.MethodName) ({ cls := "RunForms$Packer", name := "readUnits", desc := "(LRunForms$Octets;)V" } : Jvm.MethodName)) ∈ jT := jT_in 280 (by decide +kernel) rfl
theorem w_281 : (Jvm.Cond.code ({ cls := "RunForms$Packer", name := "readUnits", desc := "(LRunForms$Octets;)V" } : Jvm.MethodName) prog_4_method_3_code (5 : Nat) (Option.none : Option Jvm.ClassFile.FieldType)) ∈ jT := jT_in 281 (by decide +kernel) rfl
theorem w_282 : (Jvm.Cond.methodLink "RunForms$Packer" (75 : Nat) ({ cls := "RunForms$Rules", name := "unitsIn", desc := "(I)I" } : Jvm.MethodName)) ∈ jT := jT_in 282 (by decide +kernel) rfl
theorem w_283 : (Jvm.Cond.instanceMethod ({ cls := "RunForms$Rules", name := "unitsIn", desc := "(I)I" } : Jvm.MethodName)) ∈ jT := jT_in 283 (by decide +kernel) rfl
theorem w_284 : (Jvm.Cond.selects "RunForms$Rules" ({ cls := "RunForms$Rules", name := "unitsIn", desc := "(I)I" } : Jvm.MethodName) ({ cls := "RunForms$Rules", name := "unitsIn", desc := "(I)I" } : Jvm.MethodName)) ∈ jT := jT_in 284 (by decide +kernel) rfl
theorem w_285 : (Jvm.Cond.code ({ cls := "RunForms$Rules", name := "unitsIn", desc := "(I)I" } : Jvm.MethodName) prog_6_method_5_code (2 : Nat) (Option.some Jvm.ClassFile.FieldType.int)) ∈ jT := jT_in 285 (by decide +kernel) rfl
theorem w_286 : (Jvm.Cond.methodLink "RunForms$Packer" (79 : Nat) ({ cls := "RunForms$Rules", name := "numberAt", desc := "(LRunForms$Octets;I)I" } : Jvm.MethodName)) ∈ jT := jT_in 286 (by decide +kernel) rfl
theorem w_287 : (Jvm.Cond.instanceMethod ({ cls := "RunForms$Rules", name := "numberAt", desc := "(LRunForms$Octets;I)I" } : Jvm.MethodName)) ∈ jT := jT_in 287 (by decide +kernel) rfl
theorem w_288 : (Jvm.Cond.selects "RunForms$Rules" ({ cls := "RunForms$Rules", name := "numberAt", desc := "(LRunForms$Octets;I)I" } : Jvm.MethodName) ({ cls := "RunForms$Rules", name := "numberAt", desc := "(LRunForms$Octets;I)I" } : Jvm.MethodName)) ∈ jT := jT_in 288 (by decide +kernel) rfl
theorem w_289 : (Jvm.Cond.code ({ cls := "RunForms$Rules", name := "numberAt", desc := "(LRunForms$Octets;I)I" } : Jvm.MethodName) prog_6_method_7_code (5 : Nat) (Option.some Jvm.ClassFile.FieldType.int)) ∈ jT := jT_in 289 (by decide +kernel) rfl
theorem w_290 : (Jvm.Cond.methodLink "RunForms$Rules" (27 : Nat) ({ cls := "RunForms$Octets", name := "get", desc := "(I)I" } : Jvm.MethodName)) ∈ jT := jT_in 290 (by decide +kernel) rfl
theorem w_291 : (Jvm.Cond.instanceMethod ({ cls := "RunForms$Octets", name := "get", desc := "(I)I" } : Jvm.MethodName)) ∈ jT := jT_in 291 (by decide +kernel) rfl
theorem w_292 : (Jvm.Cond.selects "RunForms$Octets" ({ cls := "RunForms$Octets", name := "get", desc := "(I)I" } : Jvm.MethodName) ({ cls := "RunForms$Octets", name := "get", desc := "(I)I" } : Jvm.MethodName)) ∈ jT := jT_in 292 (by decide +kernel) rfl
theorem w_293 : (Jvm.Cond.code ({ cls := "RunForms$Octets", name := "get", desc := "(I)I" } : Jvm.MethodName) prog_2_method_5_code (2 : Nat) (Option.some Jvm.ClassFile.FieldType.int)) ∈ jT := jT_in 293 (by decide +kernel) rfl
theorem w_294 : (Jvm.Cond.methodLink "RunForms$Packer" (86 : Nat) ({ cls := "RunForms$Rules", name := "modulo", desc := "(I)I" } : Jvm.MethodName)) ∈ jT := jT_in 294 (by decide +kernel) rfl
theorem w_295 : (Jvm.Cond.instanceMethod ({ cls := "RunForms$Rules", name := "modulo", desc := "(I)I" } : Jvm.MethodName)) ∈ jT := jT_in 295 (by decide +kernel) rfl
theorem w_296 : (Jvm.Cond.selects "RunForms$Rules" ({ cls := "RunForms$Rules", name := "modulo", desc := "(I)I" } : Jvm.MethodName) ({ cls := "RunForms$Rules", name := "modulo", desc := "(I)I" } : Jvm.MethodName)) ∈ jT := jT_in 296 (by decide +kernel) rfl
theorem w_297 : (Jvm.Cond.code ({ cls := "RunForms$Rules", name := "modulo", desc := "(I)I" } : Jvm.MethodName) prog_6_method_9_code (2 : Nat) (Option.some Jvm.ClassFile.FieldType.int)) ∈ jT := jT_in 297 (by decide +kernel) rfl
theorem w_298 : (Jvm.Cond.methodLink "RunForms$Packer" (59 : Nat) ({ cls := "java/lang/Math", name := "max", desc := "(II)I" } : Jvm.MethodName)) ∈ jT := jT_in 298 (by decide +kernel) rfl
theorem w_299 : (Jvm.Cond.static ({ cls := "java/lang/Math", name := "max", desc := "(II)I" } : Jvm.MethodName)) ∈ jT := jT_in 299 (by decide +kernel) rfl
theorem w_300 : (Jvm.Cond.code ({ cls := "java/lang/Math", name := "max", desc := "(II)I" } : Jvm.MethodName) prog_12_method_65_code (2 : Nat) (Option.some Jvm.ClassFile.FieldType.int)) ∈ jT := jT_in 300 (by decide +kernel) rfl
theorem w_301 : (Jvm.Cond.methodLink "RunForms$Packer" (65 : Nat) ({ cls := "java/lang/Math", name := "min", desc := "(II)I" } : Jvm.MethodName)) ∈ jT := jT_in 301 (by decide +kernel) rfl
theorem w_302 : (Jvm.Cond.static ({ cls := "java/lang/Math", name := "min", desc := "(II)I" } : Jvm.MethodName)) ∈ jT := jT_in 302 (by decide +kernel) rfl
theorem w_303 : (Jvm.Cond.code ({ cls := "java/lang/Math", name := "min", desc := "(II)I" } : Jvm.MethodName) prog_12_method_69_code (2 : Nat) (Option.some Jvm.ClassFile.FieldType.int)) ∈ jT := jT_in 303 (by decide +kernel) rfl
theorem w_304 : (Jvm.Cond.methodLink "RunForms$Packer" (68 : Nat) ({ cls := "RunForms$Packer", name := "addStretch", desc := "(III)V" } : Jvm.MethodName)) ∈ jT := jT_in 304 (by decide +kernel) rfl
theorem w_305 : (Jvm.Cond.instanceMethod ({ cls := "RunForms$Packer", name := "addStretch", desc := "(III)V" } : Jvm.MethodName)) ∈ jT := jT_in 305 (by decide +kernel) rfl
theorem w_306 : (Jvm.Cond.selects "RunForms$Packer" ({ cls := "RunForms$Packer", name := "addStretch", desc := "(III)V" } : Jvm.MethodName) ({ cls := "RunForms$Packer", name := "addStretch", desc := "(III)V" } : Jvm.MethodName)) ∈ jT := jT_in 306 (by decide +kernel) rfl
theorem w_307 : (Jvm.Cond.code ({ cls := "RunForms$Packer", name := "addStretch", desc := "(III)V" } : Jvm.MethodName) prog_4_method_4_code (4 : Nat) (Option.none : Option Jvm.ClassFile.FieldType)) ∈ jT := jT_in 307 (by decide +kernel) rfl
theorem w_308 : (Jvm.Cond.methodLink "RunForms$Packer" (92 : Nat) ({ cls := "RunForms$Packer", name := "measure", desc := "(I)V" } : Jvm.MethodName)) ∈ jT := jT_in 308 (by decide +kernel) rfl
theorem w_309 : (Jvm.Cond.instanceMethod ({ cls := "RunForms$Packer", name := "measure", desc := "(I)V" } : Jvm.MethodName)) ∈ jT := jT_in 309 (by decide +kernel) rfl
theorem w_310 : (Jvm.Cond.selects "RunForms$Packer" ({ cls := "RunForms$Packer", name := "measure", desc := "(I)V" } : Jvm.MethodName) ({ cls := "RunForms$Packer", name := "measure", desc := "(I)V" } : Jvm.MethodName)) ∈ jT := jT_in 310 (by decide +kernel) rfl
theorem w_311 : (Jvm.Cond.code ({ cls := "RunForms$Packer", name := "measure", desc := "(I)V" } : Jvm.MethodName) prog_4_method_5_code (4 : Nat) (Option.none : Option Jvm.ClassFile.FieldType)) ∈ jT := jT_in 311 (by decide +kernel) rfl
theorem w_312 : (Jvm.Cond.methodLink "RunForms$Packer" (95 : Nat) ({ cls := "RunForms$Packer", name := "planFewest", desc := "(I)V" } : Jvm.MethodName)) ∈ jT := jT_in 312 (by decide +kernel) rfl
theorem w_313 : (Jvm.Cond.instanceMethod ({ cls := "RunForms$Packer", name := "planFewest", desc := "(I)V" } : Jvm.MethodName)) ∈ jT := jT_in 313 (by decide +kernel) rfl
theorem w_314 : (Jvm.Cond.selects "RunForms$Packer" ({ cls := "RunForms$Packer", name := "planFewest", desc := "(I)V" } : Jvm.MethodName) ({ cls := "RunForms$Packer", name := "planFewest", desc := "(I)V" } : Jvm.MethodName)) ∈ jT := jT_in 314 (by decide +kernel) rfl
theorem w_315 : (Jvm.Cond.code ({ cls := "RunForms$Packer", name := "planFewest", desc := "(I)V" } : Jvm.MethodName) prog_4_method_7_code (3 : Nat) (Option.none : Option Jvm.ClassFile.FieldType)) ∈ jT := jT_in 315 (by decide +kernel) rfl
theorem w_316 : (Jvm.Cond.methodLink "RunForms$Packer" (114 : Nat) ({ cls := "RunForms$Packer", name := "chooseFewest", desc := "(I)V" } : Jvm.MethodName)) ∈ jT := jT_in 316 (by decide +kernel) rfl
theorem w_317 : (Jvm.Cond.instanceMethod ({ cls := "RunForms$Packer", name := "chooseFewest", desc := "(I)V" } : Jvm.MethodName)) ∈ jT := jT_in 317 (by decide +kernel) rfl
theorem w_318 : (Jvm.Cond.selects "RunForms$Packer" ({ cls := "RunForms$Packer", name := "chooseFewest", desc := "(I)V" } : Jvm.MethodName) ({ cls := "RunForms$Packer", name := "chooseFewest", desc := "(I)V" } : Jvm.MethodName)) ∈ jT := jT_in 318 (by decide +kernel) rfl
theorem w_319 : (Jvm.Cond.code ({ cls := "RunForms$Packer", name := "chooseFewest", desc := "(I)V" } : Jvm.MethodName) prog_4_method_8_code (4 : Nat) (Option.none : Option Jvm.ClassFile.FieldType)) ∈ jT := jT_in 319 (by decide +kernel) rfl
theorem w_320 : (Jvm.Cond.methodLink "RunForms$Packer" (117 : Nat) ({ cls := "RunForms$Packer", name := "choose", desc := "(III)V" } : Jvm.MethodName)) ∈ jT := jT_in 320 (by decide +kernel) rfl
theorem w_321 : (Jvm.Cond.instanceMethod ({ cls := "RunForms$Packer", name := "choose", desc := "(III)V" } : Jvm.MethodName)) ∈ jT := jT_in 321 (by decide +kernel) rfl
theorem w_322 : (Jvm.Cond.selects "RunForms$Packer" ({ cls := "RunForms$Packer", name := "choose", desc := "(III)V" } : Jvm.MethodName) ({ cls := "RunForms$Packer", name := "choose", desc := "(III)V" } : Jvm.MethodName)) ∈ jT := jT_in 322 (by decide +kernel) rfl
theorem w_323 : (Jvm.Cond.code ({ cls := "RunForms$Packer", name := "choose", desc := "(III)V" } : Jvm.MethodName) prog_4_method_10_code (4 : Nat) (Option.none : Option Jvm.ClassFile.FieldType)) ∈ jT := jT_in 323 (by decide +kernel) rfl
theorem w_324 : (Jvm.Cond.constant "RunForms$Packer" (120 : Nat) (1000000 : Int32)) ∈ jT := jT_in 324 (by decide +kernel) rfl
theorem w_325 : (Jvm.Cond.methodLink "RunForms$Packer" (121 : Nat) ({ cls := "RunForms$Packer", name := "beginsWithMark", desc := "(I)Z" } : Jvm.MethodName)) ∈ jT := jT_in 325 (by decide +kernel) rfl
theorem w_326 : (Jvm.Cond.instanceMethod ({ cls := "RunForms$Packer", name := "beginsWithMark", desc := "(I)Z" } : Jvm.MethodName)) ∈ jT := jT_in 326 (by decide +kernel) rfl
theorem w_327 : (Jvm.Cond.selects "RunForms$Packer" ({ cls := "RunForms$Packer", name := "beginsWithMark", desc := "(I)Z" } : Jvm.MethodName) ({ cls := "RunForms$Packer", name := "beginsWithMark", desc := "(I)Z" } : Jvm.MethodName)) ∈ jT := jT_in 327 (by decide +kernel) rfl
theorem w_328 : (Jvm.Cond.code ({ cls := "RunForms$Packer", name := "beginsWithMark", desc := "(I)Z" } : Jvm.MethodName) prog_4_method_18_code (2 : Nat) (Option.some Jvm.ClassFile.FieldType.boolean)) ∈ jT := jT_in 328 (by decide +kernel) rfl
theorem w_329 : (Jvm.Cond.methodLink "RunForms$Packer" (158 : Nat) ({ cls := "RunForms$Rules", name := "byteOf", desc := "(II)I" } : Jvm.MethodName)) ∈ jT := jT_in 329 (by decide +kernel) rfl
theorem w_330 : (Jvm.Cond.instanceMethod ({ cls := "RunForms$Rules", name := "byteOf", desc := "(II)I" } : Jvm.MethodName)) ∈ jT := jT_in 330 (by decide +kernel) rfl
theorem w_331 : (Jvm.Cond.selects "RunForms$Rules" ({ cls := "RunForms$Rules", name := "byteOf", desc := "(II)I" } : Jvm.MethodName) ({ cls := "RunForms$Rules", name := "byteOf", desc := "(II)I" } : Jvm.MethodName)) ∈ jT := jT_in 331 (by decide +kernel) rfl
theorem w_332 : (Jvm.Cond.code ({ cls := "RunForms$Rules", name := "byteOf", desc := "(II)I" } : Jvm.MethodName) prog_6_method_8_code (3 : Nat) (Option.some Jvm.ClassFile.FieldType.int)) ∈ jT := jT_in 332 (by decide +kernel) rfl
theorem w_333 : (Jvm.Cond.methodLink "RunForms$Packer" (125 : Nat) ({ cls := "RunForms$Packer", name := "mostThemselves", desc := "()I" } : Jvm.MethodName)) ∈ jT := jT_in 333 (by decide +kernel) rfl
theorem w_334 : (Jvm.Cond.instanceMethod ({ cls := "RunForms$Packer", name := "mostThemselves", desc := "()I" } : Jvm.MethodName)) ∈ jT := jT_in 334 (by decide +kernel) rfl
theorem w_335 : (Jvm.Cond.selects "RunForms$Packer" ({ cls := "RunForms$Packer", name := "mostThemselves", desc := "()I" } : Jvm.MethodName) ({ cls := "RunForms$Packer", name := "mostThemselves", desc := "()I" } : Jvm.MethodName)) ∈ jT := jT_in 335 (by decide +kernel) rfl
theorem w_336 : (Jvm.Cond.code ({ cls := "RunForms$Packer", name := "mostThemselves", desc := "()I" } : Jvm.MethodName) prog_4_method_17_code (1 : Nat) (Option.some Jvm.ClassFile.FieldType.int)) ∈ jT := jT_in 336 (by decide +kernel) rfl
theorem w_337 : (Jvm.Cond.methodLink "RunForms$Packer" (129 : Nat) ({ cls := "RunForms$Packer", name := "leastThemselves", desc := "()I" } : Jvm.MethodName)) ∈ jT := jT_in 337 (by decide +kernel) rfl
theorem w_338 : (Jvm.Cond.instanceMethod ({ cls := "RunForms$Packer", name := "leastThemselves", desc := "()I" } : Jvm.MethodName)) ∈ jT := jT_in 338 (by decide +kernel) rfl
theorem w_339 : (Jvm.Cond.selects "RunForms$Packer" ({ cls := "RunForms$Packer", name := "leastThemselves", desc := "()I" } : Jvm.MethodName) ({ cls := "RunForms$Packer", name := "leastThemselves", desc := "()I" } : Jvm.MethodName)) ∈ jT := jT_in 339 (by decide +kernel) rfl
theorem w_340 : (Jvm.Cond.code ({ cls := "RunForms$Packer", name := "leastThemselves", desc := "()I" } : Jvm.MethodName) prog_4_method_16_code (1 : Nat) (Option.some Jvm.ClassFile.FieldType.int)) ∈ jT := jT_in 340 (by decide +kernel) rfl
theorem w_341 : (Jvm.Cond.methodLink "RunForms$Packer" (132 : Nat) ({ cls := "RunForms$Packer", name := "lengthThemselves", desc := "(I)I" } : Jvm.MethodName)) ∈ jT := jT_in 341 (by decide +kernel) rfl
theorem w_342 : (Jvm.Cond.instanceMethod ({ cls := "RunForms$Packer", name := "lengthThemselves", desc := "(I)I" } : Jvm.MethodName)) ∈ jT := jT_in 342 (by decide +kernel) rfl
theorem w_343 : (Jvm.Cond.selects "RunForms$Packer" ({ cls := "RunForms$Packer", name := "lengthThemselves", desc := "(I)I" } : Jvm.MethodName) ({ cls := "RunForms$Packer", name := "lengthThemselves", desc := "(I)I" } : Jvm.MethodName)) ∈ jT := jT_in 343 (by decide +kernel) rfl
theorem w_344 : (Jvm.Cond.code ({ cls := "RunForms$Packer", name := "lengthThemselves", desc := "(I)I" } : Jvm.MethodName) prog_4_method_20_code (2 : Nat) (Option.some Jvm.ClassFile.FieldType.int)) ∈ jT := jT_in 344 (by decide +kernel) rfl
theorem w_345 : (Jvm.Cond.methodLink "RunForms$Packer" (135 : Nat) ({ cls := "RunForms$Packer", name := "offer", desc := "(IIII)V" } : Jvm.MethodName)) ∈ jT := jT_in 345 (by decide +kernel) rfl
theorem w_346 : (Jvm.Cond.instanceMethod ({ cls := "RunForms$Packer", name := "offer", desc := "(IIII)V" } : Jvm.MethodName)) ∈ jT := jT_in 346 (by decide +kernel) rfl
theorem w_347 : (Jvm.Cond.selects "RunForms$Packer" ({ cls := "RunForms$Packer", name := "offer", desc := "(IIII)V" } : Jvm.MethodName) ({ cls := "RunForms$Packer", name := "offer", desc := "(IIII)V" } : Jvm.MethodName)) ∈ jT := jT_in 347 (by decide +kernel) rfl
theorem w_348 : (Jvm.Cond.code ({ cls := "RunForms$Packer", name := "offer", desc := "(IIII)V" } : Jvm.MethodName) prog_4_method_9_code (6 : Nat) (Option.none : Option Jvm.ClassFile.FieldType)) ∈ jT := jT_in 348 (by decide +kernel) rfl
theorem w_349 : (Jvm.Cond.methodLink "RunForms$Packer" (139 : Nat) ({ cls := "RunForms$Packer", name := "runAt", desc := "(I)I" } : Jvm.MethodName)) ∈ jT := jT_in 349 (by decide +kernel) rfl
theorem w_350 : (Jvm.Cond.instanceMethod ({ cls := "RunForms$Packer", name := "runAt", desc := "(I)I" } : Jvm.MethodName)) ∈ jT := jT_in 350 (by decide +kernel) rfl
theorem w_351 : (Jvm.Cond.selects "RunForms$Packer" ({ cls := "RunForms$Packer", name := "runAt", desc := "(I)I" } : Jvm.MethodName) ({ cls := "RunForms$Packer", name := "runAt", desc := "(I)I" } : Jvm.MethodName)) ∈ jT := jT_in 351 (by decide +kernel) rfl
theorem w_352 : (Jvm.Cond.code ({ cls := "RunForms$Packer", name := "runAt", desc := "(I)I" } : Jvm.MethodName) prog_4_method_14_code (2 : Nat) (Option.some Jvm.ClassFile.FieldType.int)) ∈ jT := jT_in 352 (by decide +kernel) rfl
theorem w_353 : (Jvm.Cond.methodLink "RunForms$Packer" (142 : Nat) ({ cls := "RunForms$Packer", name := "leastRun", desc := "()I" } : Jvm.MethodName)) ∈ jT := jT_in 353 (by decide +kernel) rfl
theorem w_354 : (Jvm.Cond.instanceMethod ({ cls := "RunForms$Packer", name := "leastRun", desc := "()I" } : Jvm.MethodName)) ∈ jT := jT_in 354 (by decide +kernel) rfl
theorem w_355 : (Jvm.Cond.selects "RunForms$Packer" ({ cls := "RunForms$Packer", name := "leastRun", desc := "()I" } : Jvm.MethodName) ({ cls := "RunForms$Packer", name := "leastRun", desc := "()I" } : Jvm.MethodName)) ∈ jT := jT_in 355 (by decide +kernel) rfl
theorem w_356 : (Jvm.Cond.code ({ cls := "RunForms$Packer", name := "leastRun", desc := "()I" } : Jvm.MethodName) prog_4_method_15_code (1 : Nat) (Option.some Jvm.ClassFile.FieldType.int)) ∈ jT := jT_in 356 (by decide +kernel) rfl
theorem w_357 : (Jvm.Cond.methodLink "RunForms$Packer" (145 : Nat) ({ cls := "RunForms$Packer", name := "lengthRun", desc := "()I" } : Jvm.MethodName)) ∈ jT := jT_in 357 (by decide +kernel) rfl
theorem w_358 : (Jvm.Cond.instanceMethod ({ cls := "RunForms$Packer", name := "lengthRun", desc := "()I" } : Jvm.MethodName)) ∈ jT := jT_in 358 (by decide +kernel) rfl
theorem w_359 : (Jvm.Cond.selects "RunForms$Packer" ({ cls := "RunForms$Packer", name := "lengthRun", desc := "()I" } : Jvm.MethodName) ({ cls := "RunForms$Packer", name := "lengthRun", desc := "()I" } : Jvm.MethodName)) ∈ jT := jT_in 359 (by decide +kernel) rfl
theorem w_360 : (Jvm.Cond.code ({ cls := "RunForms$Packer", name := "lengthRun", desc := "()I" } : Jvm.MethodName) prog_4_method_19_code (1 : Nat) (Option.some Jvm.ClassFile.FieldType.int)) ∈ jT := jT_in 360 (by decide +kernel) rfl
theorem w_361 : (Jvm.Cond.methodLink "RunForms$Packer" (98 : Nat) ({ cls := "RunForms$Packer", name := "addPieces", desc := "(II)V" } : Jvm.MethodName)) ∈ jT := jT_in 361 (by decide +kernel) rfl
theorem w_362 : (Jvm.Cond.instanceMethod ({ cls := "RunForms$Packer", name := "addPieces", desc := "(II)V" } : Jvm.MethodName)) ∈ jT := jT_in 362 (by decide +kernel) rfl
theorem w_363 : (Jvm.Cond.selects "RunForms$Packer" ({ cls := "RunForms$Packer", name := "addPieces", desc := "(II)V" } : Jvm.MethodName) ({ cls := "RunForms$Packer", name := "addPieces", desc := "(II)V" } : Jvm.MethodName)) ∈ jT := jT_in 363 (by decide +kernel) rfl
theorem w_364 : (Jvm.Cond.code ({ cls := "RunForms$Packer", name := "addPieces", desc := "(II)V" } : Jvm.MethodName) prog_4_method_6_code (5 : Nat) (Option.none : Option Jvm.ClassFile.FieldType)) ∈ jT := jT_in 364 (by decide +kernel) rfl
theorem w_365 : (Jvm.Cond.methodLink "RunForms$Packer" (108 : Nat) ({ cls := "RunForms$Packer", name := "chooseGreedy", desc := "(I)V" } : Jvm.MethodName)) ∈ jT := jT_in 365 (by decide +kernel) rfl
theorem w_366 : (Jvm.Cond.instanceMethod ({ cls := "RunForms$Packer", name := "chooseGreedy", desc := "(I)V" } : Jvm.MethodName)) ∈ jT := jT_in 366 (by decide +kernel) rfl
theorem w_367 : (Jvm.Cond.selects "RunForms$Packer" ({ cls := "RunForms$Packer", name := "chooseGreedy", desc := "(I)V" } : Jvm.MethodName) ({ cls := "RunForms$Packer", name := "chooseGreedy", desc := "(I)V" } : Jvm.MethodName)) ∈ jT := jT_in 367 (by decide +kernel) rfl
theorem w_368 : (Jvm.Cond.code ({ cls := "RunForms$Packer", name := "chooseGreedy", desc := "(I)V" } : Jvm.MethodName) prog_4_method_11_code (5 : Nat) (Option.none : Option Jvm.ClassFile.FieldType)) ∈ jT := jT_in 368 (by decide +kernel) rfl
theorem w_369 : (Jvm.Cond.methodLink "RunForms$Packer" (148 : Nat) ({ cls := "RunForms$Packer", name := "greedyTakesRun", desc := "(II)Z" } : Jvm.MethodName)) ∈ jT := jT_in 369 (by decide +kernel) rfl
theorem w_370 : (Jvm.Cond.instanceMethod ({ cls := "RunForms$Packer", name := "greedyTakesRun", desc := "(II)Z" } : Jvm.MethodName)) ∈ jT := jT_in 370 (by decide +kernel) rfl
theorem w_371 : (Jvm.Cond.selects "RunForms$Packer" ({ cls := "RunForms$Packer", name := "greedyTakesRun", desc := "(II)Z" } : Jvm.MethodName) ({ cls := "RunForms$Packer", name := "greedyTakesRun", desc := "(II)Z" } : Jvm.MethodName)) ∈ jT := jT_in 371 (by decide +kernel) rfl
theorem w_372 : (Jvm.Cond.code ({ cls := "RunForms$Packer", name := "greedyTakesRun", desc := "(II)Z" } : Jvm.MethodName) prog_4_method_12_code (3 : Nat) (Option.some Jvm.ClassFile.FieldType.boolean)) ∈ jT := jT_in 372 (by decide +kernel) rfl
theorem w_373 : (Jvm.Cond.methodLink "RunForms$Packer" (152 : Nat) ({ cls := "RunForms$Packer", name := "greedyThemselves", desc := "(I)I" } : Jvm.MethodName)) ∈ jT := jT_in 373 (by decide +kernel) rfl
theorem w_374 : (Jvm.Cond.instanceMethod ({ cls := "RunForms$Packer", name := "greedyThemselves", desc := "(I)I" } : Jvm.MethodName)) ∈ jT := jT_in 374 (by decide +kernel) rfl
theorem w_375 : (Jvm.Cond.selects "RunForms$Packer" ({ cls := "RunForms$Packer", name := "greedyThemselves", desc := "(I)I" } : Jvm.MethodName) ({ cls := "RunForms$Packer", name := "greedyThemselves", desc := "(I)I" } : Jvm.MethodName)) ∈ jT := jT_in 375 (by decide +kernel) rfl
theorem w_376 : (Jvm.Cond.code ({ cls := "RunForms$Packer", name := "greedyThemselves", desc := "(I)I" } : Jvm.MethodName) prog_4_method_13_code (5 : Nat) (Option.some Jvm.ClassFile.FieldType.int)) ∈ jT := jT_in 376 (by decide +kernel) rfl
theorem w_377 : (Jvm.Cond.methodLink "RunForms$Packer" (111 : Nat) ({ cls := "RunForms$Packer", name := "addPiece", desc := "(I)V" } : Jvm.MethodName)) ∈ jT := jT_in 377 (by decide +kernel) rfl
theorem w_378 : (Jvm.Cond.instanceMethod ({ cls := "RunForms$Packer", name := "addPiece", desc := "(I)V" } : Jvm.MethodName)) ∈ jT := jT_in 378 (by decide +kernel) rfl
theorem w_379 : (Jvm.Cond.selects "RunForms$Packer" ({ cls := "RunForms$Packer", name := "addPiece", desc := "(I)V" } : Jvm.MethodName) ({ cls := "RunForms$Packer", name := "addPiece", desc := "(I)V" } : Jvm.MethodName)) ∈ jT := jT_in 379 (by decide +kernel) rfl
theorem w_380 : (Jvm.Cond.code ({ cls := "RunForms$Packer", name := "addPiece", desc := "(I)V" } : Jvm.MethodName) prog_4_method_21_code (4 : Nat) (Option.none : Option Jvm.ClassFile.FieldType)) ∈ jT := jT_in 380 (by decide +kernel) rfl
theorem w_381 : (Jvm.Cond.methodLink "RunForms$Packer" (164 : Nat) ({ cls := "RunForms$Packer", name := "addRunHead", desc := "(I)V" } : Jvm.MethodName)) ∈ jT := jT_in 381 (by decide +kernel) rfl
theorem w_382 : (Jvm.Cond.instanceMethod ({ cls := "RunForms$Packer", name := "addRunHead", desc := "(I)V" } : Jvm.MethodName)) ∈ jT := jT_in 382 (by decide +kernel) rfl
theorem w_383 : (Jvm.Cond.selects "RunForms$Packer" ({ cls := "RunForms$Packer", name := "addRunHead", desc := "(I)V" } : Jvm.MethodName) ({ cls := "RunForms$Packer", name := "addRunHead", desc := "(I)V" } : Jvm.MethodName)) ∈ jT := jT_in 383 (by decide +kernel) rfl
theorem w_384 : (Jvm.Cond.code ({ cls := "RunForms$Packer", name := "addRunHead", desc := "(I)V" } : Jvm.MethodName) prog_4_method_22_code (2 : Nat) (Option.none : Option Jvm.ClassFile.FieldType)) ∈ jT := jT_in 384 (by decide +kernel) rfl
theorem w_385 : (Jvm.Cond.methodLink "RunForms$Packer" (102 : Nat) ({ cls := "RunForms$Octets", name := "add", desc := "(I)V" } : Jvm.MethodName)) ∈ jT := jT_in 385 (by decide +kernel) rfl
theorem w_386 : (Jvm.Cond.methodLink "RunForms$Packer" (167 : Nat) ({ cls := "RunForms$Packer", name := "addUnit", desc := "(I)V" } : Jvm.MethodName)) ∈ jT := jT_in 386 (by decide +kernel) rfl
theorem w_387 : (Jvm.Cond.instanceMethod ({ cls := "RunForms$Packer", name := "addUnit", desc := "(I)V" } : Jvm.MethodName)) ∈ jT := jT_in 387 (by decide +kernel) rfl
theorem w_388 : (Jvm.Cond.selects "RunForms$Packer" ({ cls := "RunForms$Packer", name := "addUnit", desc := "(I)V" } : Jvm.MethodName) ({ cls := "RunForms$Packer", name := "addUnit", desc := "(I)V" } : Jvm.MethodName)) ∈ jT := jT_in 388 (by decide +kernel) rfl
theorem w_389 : (Jvm.Cond.code ({ cls := "RunForms$Packer", name := "addUnit", desc := "(I)V" } : Jvm.MethodName) prog_4_method_24_code (3 : Nat) (Option.none : Option Jvm.ClassFile.FieldType)) ∈ jT := jT_in 389 (by decide +kernel) rfl
theorem w_390 : (Jvm.Cond.methodLink "RunForms$Packer" (170 : Nat) ({ cls := "RunForms$Packer", name := "addThemselvesHead", desc := "(I)V" } : Jvm.MethodName)) ∈ jT := jT_in 390 (by decide +kernel) rfl
theorem w_391 : (Jvm.Cond.instanceMethod ({ cls := "RunForms$Packer", name := "addThemselvesHead", desc := "(I)V" } : Jvm.MethodName)) ∈ jT := jT_in 391 (by decide +kernel) rfl
theorem w_392 : (Jvm.Cond.selects "RunForms$Packer" ({ cls := "RunForms$Packer", name := "addThemselvesHead", desc := "(I)V" } : Jvm.MethodName) ({ cls := "RunForms$Packer", name := "addThemselvesHead", desc := "(I)V" } : Jvm.MethodName)) ∈ jT := jT_in 392 (by decide +kernel) rfl
theorem w_393 : (Jvm.Cond.code ({ cls := "RunForms$Packer", name := "addThemselvesHead", desc := "(I)V" } : Jvm.MethodName) prog_4_method_23_code (2 : Nat) (Option.none : Option Jvm.ClassFile.FieldType)) ∈ jT := jT_in 393 (by decide +kernel) rfl
theorem w_394 : (Jvm.Cond.methodLink "RunForms$Packer" (72 : Nat) ({ cls := "RunForms$Packer", name := "addEnd", desc := "()V" } : Jvm.MethodName)) ∈ jT := jT_in 394 (by decide +kernel) rfl
theorem w_395 : (Jvm.Cond.instanceMethod ({ cls := "RunForms$Packer", name := "addEnd", desc := "()V" } : Jvm.MethodName)) ∈ jT := jT_in 395 (by decide +kernel) rfl
theorem w_396 : (Jvm.Cond.selects "RunForms$Packer" ({ cls := "RunForms$Packer", name := "addEnd", desc := "()V" } : Jvm.MethodName) ({ cls := "RunForms$Packer", name := "addEnd", desc := "()V" } : Jvm.MethodName)) ∈ jT := jT_in 396 (by decide +kernel) rfl
theorem w_397 : (Jvm.Cond.code ({ cls := "RunForms$Packer", name := "addEnd", desc := "()V" } : Jvm.MethodName) prog_4_method_25_code (1 : Nat) (Option.none : Option Jvm.ClassFile.FieldType)) ∈ jT := jT_in 397 (by decide +kernel) rfl
theorem w_398 : (Jvm.Cond.methodLink "RunForms" (87 : Nat) ({ cls := "RunForms$Octets", name := "become", desc := "(LRunForms$Octets;)V" } : Jvm.MethodName)) ∈ jT := jT_in 398 (by decide +kernel) rfl
theorem w_399 : (Jvm.Cond.instanceMethod ({ cls := "RunForms$Octets", name := "become", desc := "(LRunForms$Octets;)V" } : Jvm.MethodName)) ∈ jT := jT_in 399 (by decide +kernel) rfl
theorem w_400 : (Jvm.Cond.selects "RunForms$Octets" ({ cls := "RunForms$Octets", name := "become", desc := "(LRunForms$Octets;)V" } : Jvm.MethodName) ({ cls := "RunForms$Octets", name := "become", desc := "(LRunForms$Octets;)V" } : Jvm.MethodName)) ∈ jT := jT_in 400 (by decide +kernel) rfl
theorem w_401 : (Jvm.Cond.code ({ cls := "RunForms$Octets", name := "become", desc := "(LRunForms$Octets;)V" } : Jvm.MethodName) prog_2_method_7_code (2 : Nat) (Option.none : Option Jvm.ClassFile.FieldType)) ∈ jT := jT_in 401 (by decide +kernel) rfl
theorem w_402 : (Jvm.Cond.methodLink "RunForms$Octets" (25 : Nat) ({ cls := "java/lang/Math", name := "min", desc := "(II)I" } : Jvm.MethodName)) ∈ jT := jT_in 402 (by decide +kernel) rfl
theorem w_403 : (Jvm.Cond.methodLink "RunForms$Octets" (31 : Nat) ({ cls := "java/lang/System", name := "arraycopy", desc := "(Ljava/lang/Object;ILjava/lang/Object;II)V" } : Jvm.MethodName)) ∈ jT := jT_in 403 (by decide +kernel) rfl
theorem w_404 : (Jvm.Cond.static ({ cls := "java/lang/System", name := "arraycopy", desc := "(Ljava/lang/Object;ILjava/lang/Object;II)V" } : Jvm.MethodName)) ∈ jT := jT_in 404 (by decide +kernel) rfl
theorem w_405 : (Jvm.Cond.native ({ cls := "java/lang/System", name := "arraycopy", desc := "(Ljava/lang/Object;ILjava/lang/Object;II)V" } : Jvm.MethodName)) ∈ jT := jT_in 405 (by decide +kernel) rfl
theorem w_409 : (Jvm.Cond.code ({ cls := "RunForms", name := "size", desc := "(I)I" } : Jvm.MethodName) prog_1_method_8_code (3 : Nat) (Option.some Jvm.ClassFile.FieldType.int)) ∈ jT := jT_in 409 (by decide +kernel) rfl
theorem w_413 : (Jvm.Cond.code ({ cls := "RunForms", name := "open", desc := "()I" } : Jvm.MethodName) prog_1_method_9_code (1 : Nat) (Option.some Jvm.ClassFile.FieldType.int)) ∈ jT := jT_in 413 (by decide +kernel) rfl
theorem w_414 : (Jvm.Cond.methodLink "RunForms" (91 : Nat) ({ cls := "RunForms$Opener", name := "run", desc := "()V" } : Jvm.MethodName)) ∈ jT := jT_in 414 (by decide +kernel) rfl
theorem w_415 : (Jvm.Cond.instanceMethod ({ cls := "RunForms$Opener", name := "run", desc := "()V" } : Jvm.MethodName)) ∈ jT := jT_in 415 (by decide +kernel) rfl
theorem w_416 : (Jvm.Cond.selects "RunForms$Opener" ({ cls := "RunForms$Opener", name := "run", desc := "()V" } : Jvm.MethodName) ({ cls := "RunForms$Opener", name := "run", desc := "()V" } : Jvm.MethodName)) ∈ jT := jT_in 416 (by decide +kernel) rfl
theorem w_417 : (Jvm.Cond.code ({ cls := "RunForms$Opener", name := "run", desc := "()V" } : Jvm.MethodName) prog_3_method_2_code (2 : Nat) (Option.none : Option Jvm.ClassFile.FieldType)) ∈ jT := jT_in 417 (by decide +kernel) rfl
theorem w_418 : (Jvm.Cond.methodLink "RunForms$Opener" (31 : Nat) ({ cls := "RunForms$Octets", name := "blank", desc := "()V" } : Jvm.MethodName)) ∈ jT := jT_in 418 (by decide +kernel) rfl
theorem w_419 : (Jvm.Cond.instanceMethod ({ cls := "RunForms$Octets", name := "blank", desc := "()V" } : Jvm.MethodName)) ∈ jT := jT_in 419 (by decide +kernel) rfl
theorem w_420 : (Jvm.Cond.selects "RunForms$Octets" ({ cls := "RunForms$Octets", name := "blank", desc := "()V" } : Jvm.MethodName) ({ cls := "RunForms$Octets", name := "blank", desc := "()V" } : Jvm.MethodName)) ∈ jT := jT_in 420 (by decide +kernel) rfl
theorem w_421 : (Jvm.Cond.code ({ cls := "RunForms$Octets", name := "blank", desc := "()V" } : Jvm.MethodName) prog_2_method_6_code (1 : Nat) (Option.none : Option Jvm.ClassFile.FieldType)) ∈ jT := jT_in 421 (by decide +kernel) rfl
theorem w_422 : (Jvm.Cond.methodLink "RunForms$Octets" (19 : Nat) ({ cls := "java/util/Arrays", name := "fill", desc := "([BB)V" } : Jvm.MethodName)) ∈ jT := jT_in 422 (by decide +kernel) rfl
theorem w_423 : (Jvm.Cond.static ({ cls := "java/util/Arrays", name := "fill", desc := "([BB)V" } : Jvm.MethodName)) ∈ jT := jT_in 423 (by decide +kernel) rfl
theorem w_424 : (Jvm.Cond.code ({ cls := "java/util/Arrays", name := "fill", desc := "([BB)V" } : Jvm.MethodName) prog_17_method_109_code (4 : Nat) (Option.none : Option Jvm.ClassFile.FieldType)) ∈ jT := jT_in 424 (by decide +kernel) rfl
theorem w_425 : (Jvm.Cond.methodLink "RunForms$Opener" (50 : Nat) ({ cls := "RunForms$Opener", name := "takePiece", desc := "()I" } : Jvm.MethodName)) ∈ jT := jT_in 425 (by decide +kernel) rfl
theorem w_426 : (Jvm.Cond.instanceMethod ({ cls := "RunForms$Opener", name := "takePiece", desc := "()I" } : Jvm.MethodName)) ∈ jT := jT_in 426 (by decide +kernel) rfl
theorem w_427 : (Jvm.Cond.selects "RunForms$Opener" ({ cls := "RunForms$Opener", name := "takePiece", desc := "()I" } : Jvm.MethodName) ({ cls := "RunForms$Opener", name := "takePiece", desc := "()I" } : Jvm.MethodName)) ∈ jT := jT_in 427 (by decide +kernel) rfl
theorem w_428 : (Jvm.Cond.code ({ cls := "RunForms$Opener", name := "takePiece", desc := "()I" } : Jvm.MethodName) prog_3_method_3_code (1 : Nat) (Option.some Jvm.ClassFile.FieldType.int)) ∈ jT := jT_in 428 (by decide +kernel) rfl
theorem w_429 : (Jvm.Cond.methodLink "RunForms$Opener" (65 : Nat) ({ cls := "RunForms$Opener", name := "takeMarked", desc := "()I" } : Jvm.MethodName)) ∈ jT := jT_in 429 (by decide +kernel) rfl
theorem w_430 : (Jvm.Cond.instanceMethod ({ cls := "RunForms$Opener", name := "takeMarked", desc := "()I" } : Jvm.MethodName)) ∈ jT := jT_in 430 (by decide +kernel) rfl
theorem w_431 : (Jvm.Cond.selects "RunForms$Opener" ({ cls := "RunForms$Opener", name := "takeMarked", desc := "()I" } : Jvm.MethodName) ({ cls := "RunForms$Opener", name := "takeMarked", desc := "()I" } : Jvm.MethodName)) ∈ jT := jT_in 431 (by decide +kernel) rfl
theorem w_432 : (Jvm.Cond.code ({ cls := "RunForms$Opener", name := "takeMarked", desc := "()I" } : Jvm.MethodName) prog_3_method_4_code (3 : Nat) (Option.some Jvm.ClassFile.FieldType.int)) ∈ jT := jT_in 432 (by decide +kernel) rfl
theorem w_433 : (Jvm.Cond.methodLink "RunForms$Opener" (77 : Nat) ({ cls := "RunForms$Octets", name := "get", desc := "(I)I" } : Jvm.MethodName)) ∈ jT := jT_in 433 (by decide +kernel) rfl
theorem w_434 : (Jvm.Cond.methodLink "RunForms$Opener" (84 : Nat) ({ cls := "RunForms$Opener", name := "takeUnits", desc := "(III)I" } : Jvm.MethodName)) ∈ jT := jT_in 434 (by decide +kernel) rfl
theorem w_435 : (Jvm.Cond.instanceMethod ({ cls := "RunForms$Opener", name := "takeUnits", desc := "(III)I" } : Jvm.MethodName)) ∈ jT := jT_in 435 (by decide +kernel) rfl
theorem w_436 : (Jvm.Cond.selects "RunForms$Opener" ({ cls := "RunForms$Opener", name := "takeUnits", desc := "(III)I" } : Jvm.MethodName) ({ cls := "RunForms$Opener", name := "takeUnits", desc := "(III)I" } : Jvm.MethodName)) ∈ jT := jT_in 436 (by decide +kernel) rfl
theorem w_437 : (Jvm.Cond.code ({ cls := "RunForms$Opener", name := "takeUnits", desc := "(III)I" } : Jvm.MethodName) prog_3_method_6_code (7 : Nat) (Option.some Jvm.ClassFile.FieldType.int)) ∈ jT := jT_in 437 (by decide +kernel) rfl
theorem w_438 : (Jvm.Cond.methodLink "RunForms$Opener" (94 : Nat) ({ cls := "RunForms$Octets", name := "hasRoom", desc := "(I)Z" } : Jvm.MethodName)) ∈ jT := jT_in 438 (by decide +kernel) rfl
theorem w_439 : (Jvm.Cond.methodLink "RunForms$Opener" (98 : Nat) ({ cls := "RunForms$Octets", name := "add", desc := "(I)V" } : Jvm.MethodName)) ∈ jT := jT_in 439 (by decide +kernel) rfl
theorem w_440 : (Jvm.Cond.methodLink "RunForms$Opener" (88 : Nat) ({ cls := "RunForms$Opener", name := "takeEnd", desc := "()I" } : Jvm.MethodName)) ∈ jT := jT_in 440 (by decide +kernel) rfl
theorem w_441 : (Jvm.Cond.instanceMethod ({ cls := "RunForms$Opener", name := "takeEnd", desc := "()I" } : Jvm.MethodName)) ∈ jT := jT_in 441 (by decide +kernel) rfl
theorem w_442 : (Jvm.Cond.selects "RunForms$Opener" ({ cls := "RunForms$Opener", name := "takeEnd", desc := "()I" } : Jvm.MethodName) ({ cls := "RunForms$Opener", name := "takeEnd", desc := "()I" } : Jvm.MethodName)) ∈ jT := jT_in 442 (by decide +kernel) rfl
theorem w_443 : (Jvm.Cond.code ({ cls := "RunForms$Opener", name := "takeEnd", desc := "()I" } : Jvm.MethodName) prog_3_method_7_code (1 : Nat) (Option.some Jvm.ClassFile.FieldType.int)) ∈ jT := jT_in 443 (by decide +kernel) rfl
theorem w_444 : (Jvm.Cond.methodLink "RunForms$Opener" (68 : Nat) ({ cls := "RunForms$Opener", name := "takeSigned", desc := "()I" } : Jvm.MethodName)) ∈ jT := jT_in 444 (by decide +kernel) rfl
theorem w_445 : (Jvm.Cond.instanceMethod ({ cls := "RunForms$Opener", name := "takeSigned", desc := "()I" } : Jvm.MethodName)) ∈ jT := jT_in 445 (by decide +kernel) rfl
theorem w_446 : (Jvm.Cond.selects "RunForms$Opener" ({ cls := "RunForms$Opener", name := "takeSigned", desc := "()I" } : Jvm.MethodName) ({ cls := "RunForms$Opener", name := "takeSigned", desc := "()I" } : Jvm.MethodName)) ∈ jT := jT_in 446 (by decide +kernel) rfl
theorem w_447 : (Jvm.Cond.code ({ cls := "RunForms$Opener", name := "takeSigned", desc := "()I" } : Jvm.MethodName) prog_3_method_5_code (2 : Nat) (Option.some Jvm.ClassFile.FieldType.int)) ∈ jT := jT_in 447 (by decide +kernel) rfl
theorem w_448 : (Jvm.Cond.methodLink "RunForms$Opener" (71 : Nat) ({ cls := "RunForms$Opener", name := "takeRows", desc := "()I" } : Jvm.MethodName)) ∈ jT := jT_in 448 (by decide +kernel) rfl
theorem w_449 : (Jvm.Cond.instanceMethod ({ cls := "RunForms$Opener", name := "takeRows", desc := "()I" } : Jvm.MethodName)) ∈ jT := jT_in 449 (by decide +kernel) rfl
theorem w_450 : (Jvm.Cond.selects "RunForms$Opener" ({ cls := "RunForms$Opener", name := "takeRows", desc := "()I" } : Jvm.MethodName) ({ cls := "RunForms$Opener", name := "takeRows", desc := "()I" } : Jvm.MethodName)) ∈ jT := jT_in 450 (by decide +kernel) rfl
theorem w_451 : (Jvm.Cond.code ({ cls := "RunForms$Opener", name := "takeRows", desc := "()I" } : Jvm.MethodName) prog_3_method_8_code (4 : Nat) (Option.some Jvm.ClassFile.FieldType.int)) ∈ jT := jT_in 451 (by decide +kernel) rfl
theorem w_452 : (Jvm.Cond.methodLink "RunForms$Opener" (101 : Nat) ({ cls := "RunForms$Opener", name := "takeRowRun", desc := "(II)I" } : Jvm.MethodName)) ∈ jT := jT_in 452 (by decide +kernel) rfl
theorem w_453 : (Jvm.Cond.instanceMethod ({ cls := "RunForms$Opener", name := "takeRowRun", desc := "(II)I" } : Jvm.MethodName)) ∈ jT := jT_in 453 (by decide +kernel) rfl
theorem w_454 : (Jvm.Cond.selects "RunForms$Opener" ({ cls := "RunForms$Opener", name := "takeRowRun", desc := "(II)I" } : Jvm.MethodName) ({ cls := "RunForms$Opener", name := "takeRowRun", desc := "(II)I" } : Jvm.MethodName)) ∈ jT := jT_in 454 (by decide +kernel) rfl
theorem w_455 : (Jvm.Cond.code ({ cls := "RunForms$Opener", name := "takeRowRun", desc := "(II)I" } : Jvm.MethodName) prog_3_method_9_code (5 : Nat) (Option.some Jvm.ClassFile.FieldType.int)) ∈ jT := jT_in 455 (by decide +kernel) rfl
theorem w_456 : (Jvm.Cond.methodLink "RunForms$Opener" (114 : Nat) ({ cls := "RunForms$Opener", name := "rowFault", desc := "(I)I" } : Jvm.MethodName)) ∈ jT := jT_in 456 (by decide +kernel) rfl
theorem w_457 : (Jvm.Cond.instanceMethod ({ cls := "RunForms$Opener", name := "rowFault", desc := "(I)I" } : Jvm.MethodName)) ∈ jT := jT_in 457 (by decide +kernel) rfl
theorem w_458 : (Jvm.Cond.selects "RunForms$Opener" ({ cls := "RunForms$Opener", name := "rowFault", desc := "(I)I" } : Jvm.MethodName) ({ cls := "RunForms$Opener", name := "rowFault", desc := "(I)I" } : Jvm.MethodName)) ∈ jT := jT_in 458 (by decide +kernel) rfl
theorem w_459 : (Jvm.Cond.code ({ cls := "RunForms$Opener", name := "rowFault", desc := "(I)I" } : Jvm.MethodName) prog_3_method_13_code (2 : Nat) (Option.some Jvm.ClassFile.FieldType.int)) ∈ jT := jT_in 459 (by decide +kernel) rfl
theorem w_460 : (Jvm.Cond.methodLink "RunForms$Opener" (117 : Nat) ({ cls := "RunForms$Opener", name := "putInRow", desc := "(I)V" } : Jvm.MethodName)) ∈ jT := jT_in 460 (by decide +kernel) rfl
theorem w_461 : (Jvm.Cond.instanceMethod ({ cls := "RunForms$Opener", name := "putInRow", desc := "(I)V" } : Jvm.MethodName)) ∈ jT := jT_in 461 (by decide +kernel) rfl
theorem w_462 : (Jvm.Cond.selects "RunForms$Opener" ({ cls := "RunForms$Opener", name := "putInRow", desc := "(I)V" } : Jvm.MethodName) ({ cls := "RunForms$Opener", name := "putInRow", desc := "(I)V" } : Jvm.MethodName)) ∈ jT := jT_in 462 (by decide +kernel) rfl
theorem w_463 : (Jvm.Cond.code ({ cls := "RunForms$Opener", name := "putInRow", desc := "(I)V" } : Jvm.MethodName) prog_3_method_14_code (2 : Nat) (Option.none : Option Jvm.ClassFile.FieldType)) ∈ jT := jT_in 463 (by decide +kernel) rfl
theorem w_464 : (Jvm.Cond.methodLink "RunForms$Opener" (120 : Nat) ({ cls := "RunForms$Opener", name := "countRow", desc := "()V" } : Jvm.MethodName)) ∈ jT := jT_in 464 (by decide +kernel) rfl
theorem w_465 : (Jvm.Cond.instanceMethod ({ cls := "RunForms$Opener", name := "countRow", desc := "()V" } : Jvm.MethodName)) ∈ jT := jT_in 465 (by decide +kernel) rfl
theorem w_466 : (Jvm.Cond.selects "RunForms$Opener" ({ cls := "RunForms$Opener", name := "countRow", desc := "()V" } : Jvm.MethodName) ({ cls := "RunForms$Opener", name := "countRow", desc := "()V" } : Jvm.MethodName)) ∈ jT := jT_in 466 (by decide +kernel) rfl
theorem w_467 : (Jvm.Cond.code ({ cls := "RunForms$Opener", name := "countRow", desc := "()V" } : Jvm.MethodName) prog_3_method_15_code (1 : Nat) (Option.none : Option Jvm.ClassFile.FieldType)) ∈ jT := jT_in 467 (by decide +kernel) rfl
theorem w_468 : (Jvm.Cond.methodLink "RunForms$Opener" (126 : Nat) ({ cls := "RunForms$Octets", name := "set", desc := "(II)V" } : Jvm.MethodName)) ∈ jT := jT_in 468 (by decide +kernel) rfl
theorem w_469 : (Jvm.Cond.instanceMethod ({ cls := "RunForms$Octets", name := "set", desc := "(II)V" } : Jvm.MethodName)) ∈ jT := jT_in 469 (by decide +kernel) rfl
theorem w_470 : (Jvm.Cond.selects "RunForms$Octets" ({ cls := "RunForms$Octets", name := "set", desc := "(II)V" } : Jvm.MethodName) ({ cls := "RunForms$Octets", name := "set", desc := "(II)V" } : Jvm.MethodName)) ∈ jT := jT_in 470 (by decide +kernel) rfl
theorem w_471 : (Jvm.Cond.code ({ cls := "RunForms$Octets", name := "set", desc := "(II)V" } : Jvm.MethodName) prog_2_method_4_code (3 : Nat) (Option.none : Option Jvm.ClassFile.FieldType)) ∈ jT := jT_in 471 (by decide +kernel) rfl
theorem w_472 : (Jvm.Cond.methodLink "RunForms$Opener" (105 : Nat) ({ cls := "RunForms$Opener", name := "takeRowEnd", desc := "()I" } : Jvm.MethodName)) ∈ jT := jT_in 472 (by decide +kernel) rfl
theorem w_473 : (Jvm.Cond.instanceMethod ({ cls := "RunForms$Opener", name := "takeRowEnd", desc := "()I" } : Jvm.MethodName)) ∈ jT := jT_in 473 (by decide +kernel) rfl
theorem w_474 : (Jvm.Cond.selects "RunForms$Opener" ({ cls := "RunForms$Opener", name := "takeRowEnd", desc := "()I" } : Jvm.MethodName) ({ cls := "RunForms$Opener", name := "takeRowEnd", desc := "()I" } : Jvm.MethodName)) ∈ jT := jT_in 474 (by decide +kernel) rfl
theorem w_475 : (Jvm.Cond.code ({ cls := "RunForms$Opener", name := "takeRowEnd", desc := "()I" } : Jvm.MethodName) prog_3_method_11_code (2 : Nat) (Option.some Jvm.ClassFile.FieldType.int)) ∈ jT := jT_in 475 (by decide +kernel) rfl
theorem w_476 : (Jvm.Cond.methodLink "RunForms$Opener" (108 : Nat) ({ cls := "RunForms$Opener", name := "takeGoingOn", desc := "()I" } : Jvm.MethodName)) ∈ jT := jT_in 476 (by decide +kernel) rfl
theorem w_477 : (Jvm.Cond.instanceMethod ({ cls := "RunForms$Opener", name := "takeGoingOn", desc := "()I" } : Jvm.MethodName)) ∈ jT := jT_in 477 (by decide +kernel) rfl
theorem w_478 : (Jvm.Cond.selects "RunForms$Opener" ({ cls := "RunForms$Opener", name := "takeGoingOn", desc := "()I" } : Jvm.MethodName) ({ cls := "RunForms$Opener", name := "takeGoingOn", desc := "()I" } : Jvm.MethodName)) ∈ jT := jT_in 478 (by decide +kernel) rfl
theorem w_479 : (Jvm.Cond.code ({ cls := "RunForms$Opener", name := "takeGoingOn", desc := "()I" } : Jvm.MethodName) prog_3_method_12_code (2 : Nat) (Option.some Jvm.ClassFile.FieldType.int)) ∈ jT := jT_in 479 (by decide +kernel) rfl
theorem w_480 : (Jvm.Cond.methodLink "RunForms$Opener" (111 : Nat) ({ cls := "RunForms$Opener", name := "takeRowBytes", desc := "(I)I" } : Jvm.MethodName)) ∈ jT := jT_in 480 (by decide +kernel) rfl
theorem w_481 : (Jvm.Cond.instanceMethod ({ cls := "RunForms$Opener", name := "takeRowBytes", desc := "(I)I" } : Jvm.MethodName)) ∈ jT := jT_in 481 (by decide +kernel) rfl
theorem w_482 : (Jvm.Cond.selects "RunForms$Opener" ({ cls := "RunForms$Opener", name := "takeRowBytes", desc := "(I)I" } : Jvm.MethodName) ({ cls := "RunForms$Opener", name := "takeRowBytes", desc := "(I)I" } : Jvm.MethodName)) ∈ jT := jT_in 482 (by decide +kernel) rfl
theorem w_483 : (Jvm.Cond.code ({ cls := "RunForms$Opener", name := "takeRowBytes", desc := "(I)I" } : Jvm.MethodName) prog_3_method_10_code (5 : Nat) (Option.some Jvm.ClassFile.FieldType.int)) ∈ jT := jT_in 483 (by decide +kernel) rfl
theorem w_484 : (Jvm.Cond.methodLink "RunForms$Opener" (59 : Nat) ({ cls := "RunForms$Opener", name := "addUp", desc := "()V" } : Jvm.MethodName)) ∈ jT := jT_in 484 (by decide +kernel) rfl
theorem w_485 : (Jvm.Cond.instanceMethod ({ cls := "RunForms$Opener", name := "addUp", desc := "()V" } : Jvm.MethodName)) ∈ jT := jT_in 485 (by decide +kernel) rfl
theorem w_486 : (Jvm.Cond.selects "RunForms$Opener" ({ cls := "RunForms$Opener", name := "addUp", desc := "()V" } : Jvm.MethodName) ({ cls := "RunForms$Opener", name := "addUp", desc := "()V" } : Jvm.MethodName)) ∈ jT := jT_in 486 (by decide +kernel) rfl
theorem w_487 : (Jvm.Cond.code ({ cls := "RunForms$Opener", name := "addUp", desc := "()V" } : Jvm.MethodName) prog_3_method_16_code (4 : Nat) (Option.none : Option Jvm.ClassFile.FieldType)) ∈ jT := jT_in 487 (by decide +kernel) rfl
theorem w_488 : (Jvm.Cond.methodLink "RunForms$Opener" (130 : Nat) ({ cls := "RunForms$Rules", name := "unitsIn", desc := "(I)I" } : Jvm.MethodName)) ∈ jT := jT_in 488 (by decide +kernel) rfl
theorem w_489 : (Jvm.Cond.methodLink "RunForms$Opener" (133 : Nat) ({ cls := "RunForms$Rules", name := "numberAt", desc := "(LRunForms$Octets;I)I" } : Jvm.MethodName)) ∈ jT := jT_in 489 (by decide +kernel) rfl
theorem w_490 : (Jvm.Cond.methodLink "RunForms$Opener" (137 : Nat) ({ cls := "RunForms$Rules", name := "byteOf", desc := "(II)I" } : Jvm.MethodName)) ∈ jT := jT_in 490 (by decide +kernel) rfl
theorem w_494 : (Jvm.Cond.code ({ cls := "RunForms", name := "fault", desc := "()I" } : Jvm.MethodName) prog_1_method_10_code (1 : Nat) (Option.some Jvm.ClassFile.FieldType.int)) ∈ jT := jT_in 494 (by decide +kernel) rfl
theorem w_498 : (Jvm.Cond.code ({ cls := "RunForms", name := "plain", desc := "(I)I" } : Jvm.MethodName) prog_1_method_11_code (2 : Nat) (Option.some Jvm.ClassFile.FieldType.int)) ∈ jT := jT_in 498 (by decide +kernel) rfl
theorem w_499 : (Jvm.Cond.methodLink "RunForms" (103 : Nat) ({ cls := "RunForms$Plain", name := "fill", desc := "(I)I" } : Jvm.MethodName)) ∈ jT := jT_in 499 (by decide +kernel) rfl
theorem w_500 : (Jvm.Cond.instanceMethod ({ cls := "RunForms$Plain", name := "fill", desc := "(I)I" } : Jvm.MethodName)) ∈ jT := jT_in 500 (by decide +kernel) rfl
theorem w_501 : (Jvm.Cond.selects "RunForms$Plain" ({ cls := "RunForms$Plain", name := "fill", desc := "(I)I" } : Jvm.MethodName) ({ cls := "RunForms$Plain", name := "fill", desc := "(I)I" } : Jvm.MethodName)) ∈ jT := jT_in 501 (by decide +kernel) rfl
theorem w_502 : (Jvm.Cond.code ({ cls := "RunForms$Plain", name := "fill", desc := "(I)I" } : Jvm.MethodName) prog_5_method_2_code (3 : Nat) (Option.some Jvm.ClassFile.FieldType.int)) ∈ jT := jT_in 502 (by decide +kernel) rfl
theorem w_503 : (Jvm.Cond.methodLink "RunForms$Plain" (30 : Nat) ({ cls := "java/util/Arrays", name := "fill", desc := "([BB)V" } : Jvm.MethodName)) ∈ jT := jT_in 503 (by decide +kernel) rfl
theorem w_504 : (Jvm.Cond.methodLink "RunForms$Plain" (36 : Nat) ({ cls := "java/lang/Math", name := "min", desc := "(II)I" } : Jvm.MethodName)) ∈ jT := jT_in 504 (by decide +kernel) rfl
theorem w_505 : (Jvm.Cond.methodLink "RunForms$Plain" (42 : Nat) ({ cls := "java/lang/Math", name := "max", desc := "(II)I" } : Jvm.MethodName)) ∈ jT := jT_in 505 (by decide +kernel) rfl
theorem w_506 : (Jvm.Cond.methodLink "RunForms$Plain" (58 : Nat) ({ cls := "RunForms$Plain", name := "copiesPiece", desc := "()Z" } : Jvm.MethodName)) ∈ jT := jT_in 506 (by decide +kernel) rfl
theorem w_507 : (Jvm.Cond.instanceMethod ({ cls := "RunForms$Plain", name := "copiesPiece", desc := "()Z" } : Jvm.MethodName)) ∈ jT := jT_in 507 (by decide +kernel) rfl
theorem w_508 : (Jvm.Cond.selects "RunForms$Plain" ({ cls := "RunForms$Plain", name := "copiesPiece", desc := "()Z" } : Jvm.MethodName) ({ cls := "RunForms$Plain", name := "copiesPiece", desc := "()Z" } : Jvm.MethodName)) ∈ jT := jT_in 508 (by decide +kernel) rfl
theorem w_509 : (Jvm.Cond.code ({ cls := "RunForms$Plain", name := "copiesPiece", desc := "()Z" } : Jvm.MethodName) prog_5_method_3_code (1 : Nat) (Option.some Jvm.ClassFile.FieldType.boolean)) ∈ jT := jT_in 509 (by decide +kernel) rfl
theorem w_510 : (Jvm.Cond.methodLink "RunForms$Plain" (67 : Nat) ({ cls := "RunForms$Plain", name := "copiesMarked", desc := "()Z" } : Jvm.MethodName)) ∈ jT := jT_in 510 (by decide +kernel) rfl
theorem w_511 : (Jvm.Cond.instanceMethod ({ cls := "RunForms$Plain", name := "copiesMarked", desc := "()Z" } : Jvm.MethodName)) ∈ jT := jT_in 511 (by decide +kernel) rfl
theorem w_512 : (Jvm.Cond.selects "RunForms$Plain" ({ cls := "RunForms$Plain", name := "copiesMarked", desc := "()Z" } : Jvm.MethodName) ({ cls := "RunForms$Plain", name := "copiesMarked", desc := "()Z" } : Jvm.MethodName)) ∈ jT := jT_in 512 (by decide +kernel) rfl
theorem w_513 : (Jvm.Cond.code ({ cls := "RunForms$Plain", name := "copiesMarked", desc := "()Z" } : Jvm.MethodName) prog_5_method_4_code (3 : Nat) (Option.some Jvm.ClassFile.FieldType.boolean)) ∈ jT := jT_in 513 (by decide +kernel) rfl
theorem w_514 : (Jvm.Cond.methodLink "RunForms$Plain" (82 : Nat) ({ cls := "RunForms$Octets", name := "get", desc := "(I)I" } : Jvm.MethodName)) ∈ jT := jT_in 514 (by decide +kernel) rfl
theorem w_515 : (Jvm.Cond.methodLink "RunForms$Plain" (89 : Nat) ({ cls := "RunForms$Plain", name := "copiesTimes", desc := "(III)Z" } : Jvm.MethodName)) ∈ jT := jT_in 515 (by decide +kernel) rfl
theorem w_516 : (Jvm.Cond.instanceMethod ({ cls := "RunForms$Plain", name := "copiesTimes", desc := "(III)Z" } : Jvm.MethodName)) ∈ jT := jT_in 516 (by decide +kernel) rfl
theorem w_517 : (Jvm.Cond.selects "RunForms$Plain" ({ cls := "RunForms$Plain", name := "copiesTimes", desc := "(III)Z" } : Jvm.MethodName) ({ cls := "RunForms$Plain", name := "copiesTimes", desc := "(III)Z" } : Jvm.MethodName)) ∈ jT := jT_in 517 (by decide +kernel) rfl
theorem w_518 : (Jvm.Cond.code ({ cls := "RunForms$Plain", name := "copiesTimes", desc := "(III)Z" } : Jvm.MethodName) prog_5_method_8_code (5 : Nat) (Option.some Jvm.ClassFile.FieldType.boolean)) ∈ jT := jT_in 518 (by decide +kernel) rfl
theorem w_519 : (Jvm.Cond.methodLink "RunForms$Plain" (96 : Nat) ({ cls := "RunForms$Plain", name := "copies", desc := "(II)Z" } : Jvm.MethodName)) ∈ jT := jT_in 519 (by decide +kernel) rfl
theorem w_520 : (Jvm.Cond.instanceMethod ({ cls := "RunForms$Plain", name := "copies", desc := "(II)Z" } : Jvm.MethodName)) ∈ jT := jT_in 520 (by decide +kernel) rfl
theorem w_521 : (Jvm.Cond.selects "RunForms$Plain" ({ cls := "RunForms$Plain", name := "copies", desc := "(II)Z" } : Jvm.MethodName) ({ cls := "RunForms$Plain", name := "copies", desc := "(II)Z" } : Jvm.MethodName)) ∈ jT := jT_in 521 (by decide +kernel) rfl
theorem w_522 : (Jvm.Cond.code ({ cls := "RunForms$Plain", name := "copies", desc := "(II)Z" } : Jvm.MethodName) prog_5_method_9_code (4 : Nat) (Option.some Jvm.ClassFile.FieldType.boolean)) ∈ jT := jT_in 522 (by decide +kernel) rfl
theorem w_523 : (Jvm.Cond.methodLink "RunForms$Plain" (104 : Nat) ({ cls := "java/lang/System", name := "arraycopy", desc := "(Ljava/lang/Object;ILjava/lang/Object;II)V" } : Jvm.MethodName)) ∈ jT := jT_in 523 (by decide +kernel) rfl
theorem w_524 : (Jvm.Cond.methodLink "RunForms$Plain" (70 : Nat) ({ cls := "RunForms$Plain", name := "copiesSigned", desc := "()Z" } : Jvm.MethodName)) ∈ jT := jT_in 524 (by decide +kernel) rfl
theorem w_525 : (Jvm.Cond.instanceMethod ({ cls := "RunForms$Plain", name := "copiesSigned", desc := "()Z" } : Jvm.MethodName)) ∈ jT := jT_in 525 (by decide +kernel) rfl
theorem w_526 : (Jvm.Cond.selects "RunForms$Plain" ({ cls := "RunForms$Plain", name := "copiesSigned", desc := "()Z" } : Jvm.MethodName) ({ cls := "RunForms$Plain", name := "copiesSigned", desc := "()Z" } : Jvm.MethodName)) ∈ jT := jT_in 526 (by decide +kernel) rfl
theorem w_527 : (Jvm.Cond.code ({ cls := "RunForms$Plain", name := "copiesSigned", desc := "()Z" } : Jvm.MethodName) prog_5_method_5_code (3 : Nat) (Option.some Jvm.ClassFile.FieldType.boolean)) ∈ jT := jT_in 527 (by decide +kernel) rfl
theorem w_528 : (Jvm.Cond.methodLink "RunForms$Plain" (73 : Nat) ({ cls := "RunForms$Plain", name := "copiesRows", desc := "()Z" } : Jvm.MethodName)) ∈ jT := jT_in 528 (by decide +kernel) rfl
theorem w_529 : (Jvm.Cond.instanceMethod ({ cls := "RunForms$Plain", name := "copiesRows", desc := "()Z" } : Jvm.MethodName)) ∈ jT := jT_in 529 (by decide +kernel) rfl
theorem w_530 : (Jvm.Cond.selects "RunForms$Plain" ({ cls := "RunForms$Plain", name := "copiesRows", desc := "()Z" } : Jvm.MethodName) ({ cls := "RunForms$Plain", name := "copiesRows", desc := "()Z" } : Jvm.MethodName)) ∈ jT := jT_in 530 (by decide +kernel) rfl
theorem w_531 : (Jvm.Cond.code ({ cls := "RunForms$Plain", name := "copiesRows", desc := "()Z" } : Jvm.MethodName) prog_5_method_6_code (4 : Nat) (Option.some Jvm.ClassFile.FieldType.boolean)) ∈ jT := jT_in 531 (by decide +kernel) rfl
theorem w_532 : (Jvm.Cond.methodLink "RunForms$Plain" (93 : Nat) ({ cls := "RunForms$Plain", name := "goesOn", desc := "()Z" } : Jvm.MethodName)) ∈ jT := jT_in 532 (by decide +kernel) rfl
theorem w_533 : (Jvm.Cond.instanceMethod ({ cls := "RunForms$Plain", name := "goesOn", desc := "()Z" } : Jvm.MethodName)) ∈ jT := jT_in 533 (by decide +kernel) rfl
theorem w_534 : (Jvm.Cond.selects "RunForms$Plain" ({ cls := "RunForms$Plain", name := "goesOn", desc := "()Z" } : Jvm.MethodName) ({ cls := "RunForms$Plain", name := "goesOn", desc := "()Z" } : Jvm.MethodName)) ∈ jT := jT_in 534 (by decide +kernel) rfl
theorem w_535 : (Jvm.Cond.code ({ cls := "RunForms$Plain", name := "goesOn", desc := "()Z" } : Jvm.MethodName) prog_5_method_7_code (1 : Nat) (Option.some Jvm.ClassFile.FieldType.boolean)) ∈ jT := jT_in 535 (by decide +kernel) rfl
theorem w_539 : (Jvm.Cond.code ({ cls := "RunForms", name := "at", desc := "(II)I" } : Jvm.MethodName) prog_1_method_13_code (4 : Nat) (Option.some Jvm.ClassFile.FieldType.int)) ∈ jT := jT_in 539 (by decide +kernel) rfl
theorem w_540 : (Jvm.Cond.methodLink "RunForms" (118 : Nat) ({ cls := "RunForms$Octets", name := "get", desc := "(I)I" } : Jvm.MethodName)) ∈ jT := jT_in 540 (by decide +kernel) rfl
theorem w_544 : (Jvm.Cond.code ({ cls := "RunForms", name := "unit", desc := "(I)J" } : Jvm.MethodName) prog_1_method_14_code (2 : Nat) (Option.some Jvm.ClassFile.FieldType.long)) ∈ jT := jT_in 544 (by decide +kernel) rfl
theorem w_545 : (Jvm.Cond.methodLink "RunForms" (121 : Nat) ({ cls := "RunForms$Rules", name := "unitsIn", desc := "(I)I" } : Jvm.MethodName)) ∈ jT := jT_in 545 (by decide +kernel) rfl
theorem w_546 : (Jvm.Cond.constantLong "RunForms" (124 : Nat) (-1 : Int64)) ∈ jT := jT_in 546 (by decide +kernel) rfl
theorem w_547 : (Jvm.Cond.methodLink "RunForms" (126 : Nat) ({ cls := "RunForms$Rules", name := "numberAt", desc := "(LRunForms$Octets;I)I" } : Jvm.MethodName)) ∈ jT := jT_in 547 (by decide +kernel) rfl
theorem w_548 : (Jvm.Cond.constantLong "RunForms" (129 : Nat) (4294967295 : Int64)) ∈ jT := jT_in 548 (by decide +kernel) rfl
theorem w_552 : (Jvm.Cond.code ({ cls := "RunForms", name := "bound", desc := "(I)I" } : Jvm.MethodName) prog_1_method_15_code (3 : Nat) (Option.some Jvm.ClassFile.FieldType.int)) ∈ jT := jT_in 552 (by decide +kernel) rfl
theorem w_553 : (Jvm.Cond.methodLink "RunForms" (135 : Nat) ({ cls := "RunForms$Rules", name := "rowsIn", desc := "(I)I" } : Jvm.MethodName)) ∈ jT := jT_in 553 (by decide +kernel) rfl
theorem w_554 : (Jvm.Cond.instanceMethod ({ cls := "RunForms$Rules", name := "rowsIn", desc := "(I)I" } : Jvm.MethodName)) ∈ jT := jT_in 554 (by decide +kernel) rfl
theorem w_555 : (Jvm.Cond.selects "RunForms$Rules" ({ cls := "RunForms$Rules", name := "rowsIn", desc := "(I)I" } : Jvm.MethodName) ({ cls := "RunForms$Rules", name := "rowsIn", desc := "(I)I" } : Jvm.MethodName)) ∈ jT := jT_in 555 (by decide +kernel) rfl
theorem w_556 : (Jvm.Cond.code ({ cls := "RunForms$Rules", name := "rowsIn", desc := "(I)I" } : Jvm.MethodName) prog_6_method_6_code (2 : Nat) (Option.some Jvm.ClassFile.FieldType.int)) ∈ jT := jT_in 556 (by decide +kernel) rfl
theorem w_557 : (Jvm.Cond.methodLink "RunForms" (138 : Nat) ({ cls := "RunForms", name := "rowBound", desc := "()I" } : Jvm.MethodName)) ∈ jT := jT_in 557 (by decide +kernel) rfl
theorem w_559 : (Jvm.Cond.instanceMethod ({ cls := "RunForms", name := "rowBound", desc := "()I" } : Jvm.MethodName)) ∈ jT := jT_in 559 (by decide +kernel) rfl
theorem w_560 : (Jvm.Cond.code ({ cls := "RunForms", name := "rowBound", desc := "()I" } : Jvm.MethodName) prog_1_method_20_code (3 : Nat) (Option.some Jvm.ClassFile.FieldType.int)) ∈ jT := jT_in 560 (by decide +kernel) rfl
theorem w_561 : (Jvm.Cond.methodLink "RunForms" (154 : Nat) ({ cls := "java/lang/Math", name := "min", desc := "(II)I" } : Jvm.MethodName)) ∈ jT := jT_in 561 (by decide +kernel) rfl
theorem w_565 : (Jvm.Cond.code ({ cls := "RunForms", name := "told", desc := "(I)I" } : Jvm.MethodName) prog_1_method_16_code (2 : Nat) (Option.some Jvm.ClassFile.FieldType.int)) ∈ jT := jT_in 565 (by decide +kernel) rfl
theorem w_658 : (Jvm.Cond.methodLink "RunFormsModel" (39 : Nat) ({ cls := "RunFormsModel", name := "in", desc := "(III)Z" } : Jvm.MethodName)) ∈ jT := jT_in 658 (by decide +kernel) rfl
theorem w_659 : (Jvm.Cond.static ({ cls := "RunFormsModel", name := "in", desc := "(III)Z" } : Jvm.MethodName)) ∈ jT := jT_in 659 (by decide +kernel) rfl
theorem w_660 : (Jvm.Cond.code ({ cls := "RunFormsModel", name := "in", desc := "(III)Z" } : Jvm.MethodName) prog_8_method_3_code (3 : Nat) (Option.some Jvm.ClassFile.FieldType.boolean)) ∈ jT := jT_in 660 (by decide +kernel) rfl
theorem w_661 : (Jvm.Cond.fieldLink "RunFormsModel" (43 : Nat) "RunFormsModel" "form" "I") ∈ jT := jT_in 661 (by decide +kernel) rfl
theorem w_662 : (Jvm.Cond.fieldLink "RunFormsModel" (7 : Nat) "RunFormsModel" "unit" "I") ∈ jT := jT_in 662 (by decide +kernel) rfl
theorem w_663 : (Jvm.Cond.fieldLink "RunFormsModel" (13 : Nat) "RunFormsModel" "width" "I") ∈ jT := jT_in 663 (by decide +kernel) rfl
theorem w_664 : (Jvm.Cond.fieldLink "RunFormsModel" (55 : Nat) "RunFormsModel" "mark" "I") ∈ jT := jT_in 664 (by decide +kernel) rfl
theorem w_665 : (Jvm.Cond.fieldLink "RunFormsModel" (58 : Nat) "RunFormsModel" "differences" "I") ∈ jT := jT_in 665 (by decide +kernel) rfl
theorem w_666 : (Jvm.Cond.fieldLink "RunFormsModel" (16 : Nat) "RunFormsModel" "source" "[I") ∈ jT := jT_in 666 (by decide +kernel) rfl
theorem w_667 : (Jvm.Cond.fieldLink "RunFormsModel" (49 : Nat) "RunFormsModel" "sourceSize" "I") ∈ jT := jT_in 667 (by decide +kernel) rfl
theorem w_668 : (Jvm.Cond.fieldLink "RunFormsModel" (20 : Nat) "RunFormsModel" "code" "[I") ∈ jT := jT_in 668 (by decide +kernel) rfl
theorem w_669 : (Jvm.Cond.fieldLink "RunFormsModel" (52 : Nat) "RunFormsModel" "codeSize" "I") ∈ jT := jT_in 669 (by decide +kernel) rfl
theorem w_670 : (Jvm.Cond.fieldLink "RunFormsModel" (23 : Nat) "RunFormsModel" "plain" "[I") ∈ jT := jT_in 670 (by decide +kernel) rfl
theorem w_671 : (Jvm.Cond.fieldLink "RunFormsModel" (203 : Nat) "RunFormsModel" "plainSize" "I") ∈ jT := jT_in 671 (by decide +kernel) rfl
theorem w_672 : (Jvm.Cond.fieldLink "RunFormsModel" (206 : Nat) "RunFormsModel" "put" "I") ∈ jT := jT_in 672 (by decide +kernel) rfl
theorem w_673 : (Jvm.Cond.fieldLink "RunFormsModel" (149 : Nat) "RunFormsModel" "fault" "I") ∈ jT := jT_in 673 (by decide +kernel) rfl
theorem w_674 : (Jvm.Cond.fieldLink "RunFormsModel" (46 : Nat) "RunFormsModel" "thrown" "I") ∈ jT := jT_in 674 (by decide +kernel) rfl
theorem w_675 : (Jvm.Cond.fieldLink "RunFormsModel" (26 : Nat) "RunFormsModel" "value" "[J") ∈ jT := jT_in 675 (by decide +kernel) rfl
theorem w_676 : (Jvm.Cond.fieldLink "RunFormsModel" (61 : Nat) "RunFormsModel" "many" "I") ∈ jT := jT_in 676 (by decide +kernel) rfl
theorem w_677 : (Jvm.Cond.fieldLink "RunFormsModel" (30 : Nat) "RunFormsModel" "cost" "[I") ∈ jT := jT_in 677 (by decide +kernel) rfl
theorem w_678 : (Jvm.Cond.fieldLink "RunFormsModel" (33 : Nat) "RunFormsModel" "packed" "[I") ∈ jT := jT_in 678 (by decide +kernel) rfl
theorem w_679 : (Jvm.Cond.fieldLink "RunFormsModel" (72 : Nat) "RunFormsModel" "packedSize" "I") ∈ jT := jT_in 679 (by decide +kernel) rfl
theorem w_680 : (Jvm.Cond.fieldLink "RunFormsModel" (36 : Nat) "RunFormsModel" "opened" "[I") ∈ jT := jT_in 680 (by decide +kernel) rfl
theorem w_681 : (Jvm.Cond.fieldLink "RunFormsModel" (152 : Nat) "RunFormsModel" "openedSize" "I") ∈ jT := jT_in 681 (by decide +kernel) rfl
theorem w_682 : (Jvm.Cond.fieldLink "RunFormsModel" (155 : Nat) "RunFormsModel" "p" "I") ∈ jT := jT_in 682 (by decide +kernel) rfl
theorem w_683 : (Jvm.Cond.fieldLink "RunFormsModel" (158 : Nat) "RunFormsModel" "x" "I") ∈ jT := jT_in 683 (by decide +kernel) rfl
theorem w_684 : (Jvm.Cond.fieldLink "RunFormsModel" (161 : Nat) "RunFormsModel" "y" "I") ∈ jT := jT_in 684 (by decide +kernel) rfl
theorem w_685 : (Jvm.Cond.fieldLink "RunFormsModel" (164 : Nat) "RunFormsModel" "ended" "Z") ∈ jT := jT_in 685 (by decide +kernel) rfl
theorem w_741 : (Jvm.Cond.code ({ cls := "RunFormsModel", name := "thrown", desc := "()I" } : Jvm.MethodName) prog_8_method_2_code (1 : Nat) (Option.some Jvm.ClassFile.FieldType.int)) ∈ jT := jT_in 741 (by decide +kernel) rfl
theorem w_745 : (Jvm.Cond.code ({ cls := "RunFormsModel", name := "octet", desc := "(I)I" } : Jvm.MethodName) prog_8_method_4_code (2 : Nat) (Option.some Jvm.ClassFile.FieldType.int)) ∈ jT := jT_in 745 (by decide +kernel) rfl
theorem w_749 : (Jvm.Cond.code ({ cls := "RunFormsModel", name := "repeat", desc := "(II)I" } : Jvm.MethodName) prog_8_method_5_code (4 : Nat) (Option.some Jvm.ClassFile.FieldType.int)) ∈ jT := jT_in 749 (by decide +kernel) rfl
theorem w_753 : (Jvm.Cond.code ({ cls := "RunFormsModel", name := "code", desc := "(I)I" } : Jvm.MethodName) prog_8_method_6_code (2 : Nat) (Option.some Jvm.ClassFile.FieldType.int)) ∈ jT := jT_in 753 (by decide +kernel) rfl
theorem w_757 : (Jvm.Cond.code ({ cls := "RunFormsModel", name := "cut", desc := "(II)I" } : Jvm.MethodName) prog_8_method_7_code (4 : Nat) (Option.some Jvm.ClassFile.FieldType.int)) ∈ jT := jT_in 757 (by decide +kernel) rfl
theorem w_761 : (Jvm.Cond.code ({ cls := "RunFormsModel", name := "rule", desc := "(II)I" } : Jvm.MethodName) prog_8_method_8_code (5 : Nat) (Option.some Jvm.ClassFile.FieldType.int)) ∈ jT := jT_in 761 (by decide +kernel) rfl
theorem w_765 : (Jvm.Cond.code ({ cls := "RunFormsModel", name := "pack", desc := "(I)I" } : Jvm.MethodName) prog_8_method_31_code (4 : Nat) (Option.some Jvm.ClassFile.FieldType.int)) ∈ jT := jT_in 765 (by decide +kernel) rfl
theorem w_766 : (Jvm.Cond.methodLink "RunFormsModel" (140 : Nat) ({ cls := "RunFormsModel", name := "size", desc := "(I)I" } : Jvm.MethodName)) ∈ jT := jT_in 766 (by decide +kernel) rfl
theorem w_767 : (Jvm.Cond.instanceMethod ({ cls := "RunFormsModel", name := "size", desc := "(I)I" } : Jvm.MethodName)) ∈ jT := jT_in 767 (by decide +kernel) rfl
theorem w_768 : (Jvm.Cond.selects "RunFormsModel" ({ cls := "RunFormsModel", name := "size", desc := "(I)I" } : Jvm.MethodName) ({ cls := "RunFormsModel", name := "size", desc := "(I)I" } : Jvm.MethodName)) ∈ jT := jT_in 768 (by decide +kernel) rfl
theorem w_769 : (Jvm.Cond.code ({ cls := "RunFormsModel", name := "size", desc := "(I)I" } : Jvm.MethodName) prog_8_method_32_code (2 : Nat) (Option.some Jvm.ClassFile.FieldType.int)) ∈ jT := jT_in 769 (by decide +kernel) rfl
theorem w_770 : (Jvm.Cond.methodLink "RunFormsModel" (143 : Nat) ({ cls := "RunFormsModel", name := "isWhole", desc := "(I)Z" } : Jvm.MethodName)) ∈ jT := jT_in 770 (by decide +kernel) rfl
theorem w_772 : (Jvm.Cond.instanceMethod ({ cls := "RunFormsModel", name := "isWhole", desc := "(I)Z" } : Jvm.MethodName)) ∈ jT := jT_in 772 (by decide +kernel) rfl
theorem w_773 : (Jvm.Cond.code ({ cls := "RunFormsModel", name := "isWhole", desc := "(I)Z" } : Jvm.MethodName) prog_8_method_30_code (2 : Nat) (Option.some Jvm.ClassFile.FieldType.boolean)) ∈ jT := jT_in 773 (by decide +kernel) rfl
theorem w_774 : (Jvm.Cond.methodLink "RunFormsModel" (146 : Nat) ({ cls := "RunFormsModel", name := "packAll", desc := "(I)V" } : Jvm.MethodName)) ∈ jT := jT_in 774 (by decide +kernel) rfl
theorem w_776 : (Jvm.Cond.instanceMethod ({ cls := "RunFormsModel", name := "packAll", desc := "(I)V" } : Jvm.MethodName)) ∈ jT := jT_in 776 (by decide +kernel) rfl
theorem w_777 : (Jvm.Cond.code ({ cls := "RunFormsModel", name := "packAll", desc := "(I)V" } : Jvm.MethodName) prog_8_method_28_code (3 : Nat) (Option.none : Option Jvm.ClassFile.FieldType)) ∈ jT := jT_in 777 (by decide +kernel) rfl
theorem w_778 : (Jvm.Cond.methodLink "RunFormsModel" (127 : Nat) ({ cls := "RunFormsModel", name := "takeUnits", desc := "()V" } : Jvm.MethodName)) ∈ jT := jT_in 778 (by decide +kernel) rfl
theorem w_780 : (Jvm.Cond.instanceMethod ({ cls := "RunFormsModel", name := "takeUnits", desc := "()V" } : Jvm.MethodName)) ∈ jT := jT_in 780 (by decide +kernel) rfl
theorem w_781 : (Jvm.Cond.code ({ cls := "RunFormsModel", name := "takeUnits", desc := "()V" } : Jvm.MethodName) prog_8_method_11_code (2 : Nat) (Option.none : Option Jvm.ClassFile.FieldType)) ∈ jT := jT_in 781 (by decide +kernel) rfl
theorem w_782 : (Jvm.Cond.methodLink "RunFormsModel" (64 : Nat) ({ cls := "RunFormsModel", name := "unitOf", desc := "(I)J" } : Jvm.MethodName)) ∈ jT := jT_in 782 (by decide +kernel) rfl
theorem w_784 : (Jvm.Cond.instanceMethod ({ cls := "RunFormsModel", name := "unitOf", desc := "(I)J" } : Jvm.MethodName)) ∈ jT := jT_in 784 (by decide +kernel) rfl
theorem w_785 : (Jvm.Cond.code ({ cls := "RunFormsModel", name := "unitOf", desc := "(I)J" } : Jvm.MethodName) prog_8_method_9_code (5 : Nat) (Option.some Jvm.ClassFile.FieldType.long)) ∈ jT := jT_in 785 (by decide +kernel) rfl
theorem w_786 : (Jvm.Cond.methodLink "RunFormsModel" (68 : Nat) ({ cls := "RunFormsModel", name := "all", desc := "()J" } : Jvm.MethodName)) ∈ jT := jT_in 786 (by decide +kernel) rfl
theorem w_788 : (Jvm.Cond.instanceMethod ({ cls := "RunFormsModel", name := "all", desc := "()J" } : Jvm.MethodName)) ∈ jT := jT_in 788 (by decide +kernel) rfl
theorem w_789 : (Jvm.Cond.code ({ cls := "RunFormsModel", name := "all", desc := "()J" } : Jvm.MethodName) prog_8_method_10_code (1 : Nat) (Option.some Jvm.ClassFile.FieldType.long)) ∈ jT := jT_in 789 (by decide +kernel) rfl
theorem w_790 : (Jvm.Cond.methodLink "RunFormsModel" (130 : Nat) ({ cls := "RunFormsModel", name := "part", desc := "(III)V" } : Jvm.MethodName)) ∈ jT := jT_in 790 (by decide +kernel) rfl
theorem w_792 : (Jvm.Cond.instanceMethod ({ cls := "RunFormsModel", name := "part", desc := "(III)V" } : Jvm.MethodName)) ∈ jT := jT_in 792 (by decide +kernel) rfl
theorem w_793 : (Jvm.Cond.code ({ cls := "RunFormsModel", name := "part", desc := "(III)V" } : Jvm.MethodName) prog_8_method_29_code (4 : Nat) (Option.none : Option Jvm.ClassFile.FieldType)) ∈ jT := jT_in 793 (by decide +kernel) rfl
theorem w_794 : (Jvm.Cond.methodLink "RunFormsModel" (134 : Nat) ({ cls := "RunFormsModel", name := "greedy", desc := "(II)V" } : Jvm.MethodName)) ∈ jT := jT_in 794 (by decide +kernel) rfl
theorem w_796 : (Jvm.Cond.instanceMethod ({ cls := "RunFormsModel", name := "greedy", desc := "(II)V" } : Jvm.MethodName)) ∈ jT := jT_in 796 (by decide +kernel) rfl
theorem w_797 : (Jvm.Cond.code ({ cls := "RunFormsModel", name := "greedy", desc := "(II)V" } : Jvm.MethodName) prog_8_method_26_code (7 : Nat) (Option.none : Option Jvm.ClassFile.FieldType)) ∈ jT := jT_in 797 (by decide +kernel) rfl
theorem w_798 : (Jvm.Cond.methodLink "RunFormsModel" (87 : Nat) ({ cls := "RunFormsModel", name := "restOf", desc := "(II)I" } : Jvm.MethodName)) ∈ jT := jT_in 798 (by decide +kernel) rfl
theorem w_800 : (Jvm.Cond.instanceMethod ({ cls := "RunFormsModel", name := "restOf", desc := "(II)I" } : Jvm.MethodName)) ∈ jT := jT_in 800 (by decide +kernel) rfl
theorem w_801 : (Jvm.Cond.code ({ cls := "RunFormsModel", name := "restOf", desc := "(II)I" } : Jvm.MethodName) prog_8_method_22_code (4 : Nat) (Option.some Jvm.ClassFile.FieldType.int)) ∈ jT := jT_in 801 (by decide +kernel) rfl
theorem w_802 : (Jvm.Cond.methodLink "RunFormsModel" (100 : Nat) ({ cls := "RunFormsModel", name := "mostRun", desc := "()I" } : Jvm.MethodName)) ∈ jT := jT_in 802 (by decide +kernel) rfl
theorem w_804 : (Jvm.Cond.instanceMethod ({ cls := "RunFormsModel", name := "mostRun", desc := "()I" } : Jvm.MethodName)) ∈ jT := jT_in 804 (by decide +kernel) rfl
theorem w_805 : (Jvm.Cond.code ({ cls := "RunFormsModel", name := "mostRun", desc := "()I" } : Jvm.MethodName) prog_8_method_18_code (1 : Nat) (Option.some Jvm.ClassFile.FieldType.int)) ∈ jT := jT_in 805 (by decide +kernel) rfl
theorem w_806 : (Jvm.Cond.methodLink "RunFormsModel" (104 : Nat) ({ cls := "RunFormsModel", name := "likes", desc := "(III)I" } : Jvm.MethodName)) ∈ jT := jT_in 806 (by decide +kernel) rfl
theorem w_808 : (Jvm.Cond.instanceMethod ({ cls := "RunFormsModel", name := "likes", desc := "(III)I" } : Jvm.MethodName)) ∈ jT := jT_in 808 (by decide +kernel) rfl
theorem w_809 : (Jvm.Cond.code ({ cls := "RunFormsModel", name := "likes", desc := "(III)I" } : Jvm.MethodName) prog_8_method_15_code (5 : Nat) (Option.some Jvm.ClassFile.FieldType.int)) ∈ jT := jT_in 809 (by decide +kernel) rfl
theorem w_810 : (Jvm.Cond.methodLink "RunFormsModel" (83 : Nat) ({ cls := "RunFormsModel", name := "isMarked", desc := "(I)Z" } : Jvm.MethodName)) ∈ jT := jT_in 810 (by decide +kernel) rfl
theorem w_812 : (Jvm.Cond.instanceMethod ({ cls := "RunFormsModel", name := "isMarked", desc := "(I)Z" } : Jvm.MethodName)) ∈ jT := jT_in 812 (by decide +kernel) rfl
theorem w_813 : (Jvm.Cond.code ({ cls := "RunFormsModel", name := "isMarked", desc := "(I)Z" } : Jvm.MethodName) prog_8_method_14_code (2 : Nat) (Option.some Jvm.ClassFile.FieldType.boolean)) ∈ jT := jT_in 813 (by decide +kernel) rfl
theorem w_814 : (Jvm.Cond.methodLink "RunFormsModel" (121 : Nat) ({ cls := "RunFormsModel", name := "layRun", desc := "(II)V" } : Jvm.MethodName)) ∈ jT := jT_in 814 (by decide +kernel) rfl
theorem w_816 : (Jvm.Cond.instanceMethod ({ cls := "RunFormsModel", name := "layRun", desc := "(II)V" } : Jvm.MethodName)) ∈ jT := jT_in 816 (by decide +kernel) rfl
theorem w_817 : (Jvm.Cond.code ({ cls := "RunFormsModel", name := "layRun", desc := "(II)V" } : Jvm.MethodName) prog_8_method_16_code (3 : Nat) (Option.none : Option Jvm.ClassFile.FieldType)) ∈ jT := jT_in 817 (by decide +kernel) rfl
theorem w_818 : (Jvm.Cond.methodLink "RunFormsModel" (75 : Nat) ({ cls := "RunFormsModel", name := "lay", desc := "(I)V" } : Jvm.MethodName)) ∈ jT := jT_in 818 (by decide +kernel) rfl
theorem w_820 : (Jvm.Cond.instanceMethod ({ cls := "RunFormsModel", name := "lay", desc := "(I)V" } : Jvm.MethodName)) ∈ jT := jT_in 820 (by decide +kernel) rfl
theorem w_821 : (Jvm.Cond.code ({ cls := "RunFormsModel", name := "lay", desc := "(I)V" } : Jvm.MethodName) prog_8_method_12_code (2 : Nat) (Option.none : Option Jvm.ClassFile.FieldType)) ∈ jT := jT_in 821 (by decide +kernel) rfl
theorem w_822 : (Jvm.Cond.methodLink "RunFormsModel" (79 : Nat) ({ cls := "RunFormsModel", name := "layUnit", desc := "(J)V" } : Jvm.MethodName)) ∈ jT := jT_in 822 (by decide +kernel) rfl
theorem w_824 : (Jvm.Cond.instanceMethod ({ cls := "RunFormsModel", name := "layUnit", desc := "(J)V" } : Jvm.MethodName)) ∈ jT := jT_in 824 (by decide +kernel) rfl
theorem w_825 : (Jvm.Cond.code ({ cls := "RunFormsModel", name := "layUnit", desc := "(J)V" } : Jvm.MethodName) prog_8_method_13_code (4 : Nat) (Option.none : Option Jvm.ClassFile.FieldType)) ∈ jT := jT_in 825 (by decide +kernel) rfl
theorem w_826 : (Jvm.Cond.methodLink "RunFormsModel" (124 : Nat) ({ cls := "RunFormsModel", name := "greedyThemselves", desc := "(III)I" } : Jvm.MethodName)) ∈ jT := jT_in 826 (by decide +kernel) rfl
theorem w_828 : (Jvm.Cond.instanceMethod ({ cls := "RunFormsModel", name := "greedyThemselves", desc := "(III)I" } : Jvm.MethodName)) ∈ jT := jT_in 828 (by decide +kernel) rfl
theorem w_829 : (Jvm.Cond.code ({ cls := "RunFormsModel", name := "greedyThemselves", desc := "(III)I" } : Jvm.MethodName) prog_8_method_27_code (5 : Nat) (Option.some Jvm.ClassFile.FieldType.int)) ∈ jT := jT_in 829 (by decide +kernel) rfl
theorem w_830 : (Jvm.Cond.methodLink "RunFormsModel" (118 : Nat) ({ cls := "RunFormsModel", name := "layThemselves", desc := "(II)V" } : Jvm.MethodName)) ∈ jT := jT_in 830 (by decide +kernel) rfl
theorem w_832 : (Jvm.Cond.instanceMethod ({ cls := "RunFormsModel", name := "layThemselves", desc := "(II)V" } : Jvm.MethodName)) ∈ jT := jT_in 832 (by decide +kernel) rfl
theorem w_833 : (Jvm.Cond.code ({ cls := "RunFormsModel", name := "layThemselves", desc := "(II)V" } : Jvm.MethodName) prog_8_method_17_code (4 : Nat) (Option.none : Option Jvm.ClassFile.FieldType)) ∈ jT := jT_in 833 (by decide +kernel) rfl
theorem w_834 : (Jvm.Cond.methodLink "RunFormsModel" (137 : Nat) ({ cls := "RunFormsModel", name := "fewest", desc := "(II)V" } : Jvm.MethodName)) ∈ jT := jT_in 834 (by decide +kernel) rfl
theorem w_836 : (Jvm.Cond.instanceMethod ({ cls := "RunFormsModel", name := "fewest", desc := "(II)V" } : Jvm.MethodName)) ∈ jT := jT_in 836 (by decide +kernel) rfl
theorem w_837 : (Jvm.Cond.code ({ cls := "RunFormsModel", name := "fewest", desc := "(II)V" } : Jvm.MethodName) prog_8_method_24_code (6 : Nat) (Option.none : Option Jvm.ClassFile.FieldType)) ∈ jT := jT_in 837 (by decide +kernel) rfl
theorem w_838 : (Jvm.Cond.methodLink "RunFormsModel" (111 : Nat) ({ cls := "RunFormsModel", name := "reckon", desc := "(II)V" } : Jvm.MethodName)) ∈ jT := jT_in 838 (by decide +kernel) rfl
theorem w_840 : (Jvm.Cond.instanceMethod ({ cls := "RunFormsModel", name := "reckon", desc := "(II)V" } : Jvm.MethodName)) ∈ jT := jT_in 840 (by decide +kernel) rfl
theorem w_841 : (Jvm.Cond.code ({ cls := "RunFormsModel", name := "reckon", desc := "(II)V" } : Jvm.MethodName) prog_8_method_23_code (8 : Nat) (Option.none : Option Jvm.ClassFile.FieldType)) ∈ jT := jT_in 841 (by decide +kernel) rfl
theorem w_842 : (Jvm.Cond.constant "RunFormsModel" (91 : Nat) (1000000 : Int32)) ∈ jT := jT_in 842 (by decide +kernel) rfl
theorem w_843 : (Jvm.Cond.methodLink "RunFormsModel" (92 : Nat) ({ cls := "RunFormsModel", name := "mayStand", desc := "(II)Z" } : Jvm.MethodName)) ∈ jT := jT_in 843 (by decide +kernel) rfl
theorem w_845 : (Jvm.Cond.instanceMethod ({ cls := "RunFormsModel", name := "mayStand", desc := "(II)Z" } : Jvm.MethodName)) ∈ jT := jT_in 845 (by decide +kernel) rfl
theorem w_846 : (Jvm.Cond.code ({ cls := "RunFormsModel", name := "mayStand", desc := "(II)Z" } : Jvm.MethodName) prog_8_method_21_code (3 : Nat) (Option.some Jvm.ClassFile.FieldType.boolean)) ∈ jT := jT_in 846 (by decide +kernel) rfl
theorem w_847 : (Jvm.Cond.methodLink "RunFormsModel" (96 : Nat) ({ cls := "RunFormsModel", name := "selfCost", desc := "(I)I" } : Jvm.MethodName)) ∈ jT := jT_in 847 (by decide +kernel) rfl
theorem w_849 : (Jvm.Cond.instanceMethod ({ cls := "RunFormsModel", name := "selfCost", desc := "(I)I" } : Jvm.MethodName)) ∈ jT := jT_in 849 (by decide +kernel) rfl
theorem w_850 : (Jvm.Cond.code ({ cls := "RunFormsModel", name := "selfCost", desc := "(I)I" } : Jvm.MethodName) prog_8_method_20_code (2 : Nat) (Option.some Jvm.ClassFile.FieldType.int)) ∈ jT := jT_in 850 (by decide +kernel) rfl
theorem w_851 : (Jvm.Cond.methodLink "RunFormsModel" (108 : Nat) ({ cls := "RunFormsModel", name := "runCost", desc := "()I" } : Jvm.MethodName)) ∈ jT := jT_in 851 (by decide +kernel) rfl
theorem w_853 : (Jvm.Cond.instanceMethod ({ cls := "RunFormsModel", name := "runCost", desc := "()I" } : Jvm.MethodName)) ∈ jT := jT_in 853 (by decide +kernel) rfl
theorem w_854 : (Jvm.Cond.code ({ cls := "RunFormsModel", name := "runCost", desc := "()I" } : Jvm.MethodName) prog_8_method_19_code (1 : Nat) (Option.some Jvm.ClassFile.FieldType.int)) ∈ jT := jT_in 854 (by decide +kernel) rfl
theorem w_855 : (Jvm.Cond.methodLink "RunFormsModel" (115 : Nat) ({ cls := "RunFormsModel", name := "fewestAt", desc := "(II)I" } : Jvm.MethodName)) ∈ jT := jT_in 855 (by decide +kernel) rfl
theorem w_857 : (Jvm.Cond.instanceMethod ({ cls := "RunFormsModel", name := "fewestAt", desc := "(II)I" } : Jvm.MethodName)) ∈ jT := jT_in 857 (by decide +kernel) rfl
theorem w_858 : (Jvm.Cond.code ({ cls := "RunFormsModel", name := "fewestAt", desc := "(II)I" } : Jvm.MethodName) prog_8_method_25_code (4 : Nat) (Option.some Jvm.ClassFile.FieldType.int)) ∈ jT := jT_in 858 (by decide +kernel) rfl
theorem w_863 : (Jvm.Cond.code ({ cls := "RunFormsModel", name := "open", desc := "()I" } : Jvm.MethodName) prog_8_method_34_code (5 : Nat) (Option.some Jvm.ClassFile.FieldType.int)) ∈ jT := jT_in 863 (by decide +kernel) rfl
theorem w_864 : (Jvm.Cond.methodLink "RunFormsModel" (168 : Nat) ({ cls := "RunFormsModel", name := "openMarked", desc := "()I" } : Jvm.MethodName)) ∈ jT := jT_in 864 (by decide +kernel) rfl
theorem w_866 : (Jvm.Cond.instanceMethod ({ cls := "RunFormsModel", name := "openMarked", desc := "()I" } : Jvm.MethodName)) ∈ jT := jT_in 866 (by decide +kernel) rfl
theorem w_867 : (Jvm.Cond.code ({ cls := "RunFormsModel", name := "openMarked", desc := "()I" } : Jvm.MethodName) prog_8_method_36_code (4 : Nat) (Option.some Jvm.ClassFile.FieldType.int)) ∈ jT := jT_in 867 (by decide +kernel) rfl
theorem w_868 : (Jvm.Cond.methodLink "RunFormsModel" (177 : Nat) ({ cls := "RunFormsModel", name := "fails", desc := "(II)I" } : Jvm.MethodName)) ∈ jT := jT_in 868 (by decide +kernel) rfl
theorem w_870 : (Jvm.Cond.instanceMethod ({ cls := "RunFormsModel", name := "fails", desc := "(II)I" } : Jvm.MethodName)) ∈ jT := jT_in 870 (by decide +kernel) rfl
theorem w_871 : (Jvm.Cond.code ({ cls := "RunFormsModel", name := "fails", desc := "(II)I" } : Jvm.MethodName) prog_8_method_33_code (3 : Nat) (Option.some Jvm.ClassFile.FieldType.int)) ∈ jT := jT_in 871 (by decide +kernel) rfl
theorem w_872 : (Jvm.Cond.methodLink "RunFormsModel" (182 : Nat) ({ cls := "RunFormsModel", name := "puts", desc := "(III)I" } : Jvm.MethodName)) ∈ jT := jT_in 872 (by decide +kernel) rfl
theorem w_874 : (Jvm.Cond.instanceMethod ({ cls := "RunFormsModel", name := "puts", desc := "(III)I" } : Jvm.MethodName)) ∈ jT := jT_in 874 (by decide +kernel) rfl
theorem w_875 : (Jvm.Cond.code ({ cls := "RunFormsModel", name := "puts", desc := "(III)I" } : Jvm.MethodName) prog_8_method_35_code (6 : Nat) (Option.some Jvm.ClassFile.FieldType.int)) ∈ jT := jT_in 875 (by decide +kernel) rfl
theorem w_876 : (Jvm.Cond.methodLink "RunFormsModel" (171 : Nat) ({ cls := "RunFormsModel", name := "openSigned", desc := "()I" } : Jvm.MethodName)) ∈ jT := jT_in 876 (by decide +kernel) rfl
theorem w_878 : (Jvm.Cond.instanceMethod ({ cls := "RunFormsModel", name := "openSigned", desc := "()I" } : Jvm.MethodName)) ∈ jT := jT_in 878 (by decide +kernel) rfl
theorem w_879 : (Jvm.Cond.code ({ cls := "RunFormsModel", name := "openSigned", desc := "()I" } : Jvm.MethodName) prog_8_method_37_code (4 : Nat) (Option.some Jvm.ClassFile.FieldType.int)) ∈ jT := jT_in 879 (by decide +kernel) rfl
theorem w_880 : (Jvm.Cond.methodLink "RunFormsModel" (174 : Nat) ({ cls := "RunFormsModel", name := "openRows", desc := "()I" } : Jvm.MethodName)) ∈ jT := jT_in 880 (by decide +kernel) rfl
theorem w_882 : (Jvm.Cond.instanceMethod ({ cls := "RunFormsModel", name := "openRows", desc := "()I" } : Jvm.MethodName)) ∈ jT := jT_in 882 (by decide +kernel) rfl
theorem w_883 : (Jvm.Cond.code ({ cls := "RunFormsModel", name := "openRows", desc := "()I" } : Jvm.MethodName) prog_8_method_40_code (5 : Nat) (Option.some Jvm.ClassFile.FieldType.int)) ∈ jT := jT_in 883 (by decide +kernel) rfl
theorem w_884 : (Jvm.Cond.methodLink "RunFormsModel" (185 : Nat) ({ cls := "RunFormsModel", name := "rowFaults", desc := "(I)I" } : Jvm.MethodName)) ∈ jT := jT_in 884 (by decide +kernel) rfl
theorem w_886 : (Jvm.Cond.instanceMethod ({ cls := "RunFormsModel", name := "rowFaults", desc := "(I)I" } : Jvm.MethodName)) ∈ jT := jT_in 886 (by decide +kernel) rfl
theorem w_887 : (Jvm.Cond.code ({ cls := "RunFormsModel", name := "rowFaults", desc := "(I)I" } : Jvm.MethodName) prog_8_method_38_code (2 : Nat) (Option.some Jvm.ClassFile.FieldType.int)) ∈ jT := jT_in 887 (by decide +kernel) rfl
theorem w_888 : (Jvm.Cond.methodLink "RunFormsModel" (188 : Nat) ({ cls := "RunFormsModel", name := "rowIs", desc := "()V" } : Jvm.MethodName)) ∈ jT := jT_in 888 (by decide +kernel) rfl
theorem w_890 : (Jvm.Cond.instanceMethod ({ cls := "RunFormsModel", name := "rowIs", desc := "()V" } : Jvm.MethodName)) ∈ jT := jT_in 890 (by decide +kernel) rfl
theorem w_891 : (Jvm.Cond.code ({ cls := "RunFormsModel", name := "rowIs", desc := "()V" } : Jvm.MethodName) prog_8_method_39_code (1 : Nat) (Option.none : Option Jvm.ClassFile.FieldType)) ∈ jT := jT_in 891 (by decide +kernel) rfl
theorem w_892 : (Jvm.Cond.methodLink "RunFormsModel" (191 : Nat) ({ cls := "RunFormsModel", name := "endRow", desc := "()I" } : Jvm.MethodName)) ∈ jT := jT_in 892 (by decide +kernel) rfl
theorem w_894 : (Jvm.Cond.instanceMethod ({ cls := "RunFormsModel", name := "endRow", desc := "()I" } : Jvm.MethodName)) ∈ jT := jT_in 894 (by decide +kernel) rfl
theorem w_895 : (Jvm.Cond.code ({ cls := "RunFormsModel", name := "endRow", desc := "()I" } : Jvm.MethodName) prog_8_method_42_code (2 : Nat) (Option.some Jvm.ClassFile.FieldType.int)) ∈ jT := jT_in 895 (by decide +kernel) rfl
theorem w_896 : (Jvm.Cond.methodLink "RunFormsModel" (194 : Nat) ({ cls := "RunFormsModel", name := "endAll", desc := "()I" } : Jvm.MethodName)) ∈ jT := jT_in 896 (by decide +kernel) rfl
theorem w_898 : (Jvm.Cond.instanceMethod ({ cls := "RunFormsModel", name := "endAll", desc := "()I" } : Jvm.MethodName)) ∈ jT := jT_in 898 (by decide +kernel) rfl
theorem w_899 : (Jvm.Cond.code ({ cls := "RunFormsModel", name := "endAll", desc := "()I" } : Jvm.MethodName) prog_8_method_41_code (1 : Nat) (Option.some Jvm.ClassFile.FieldType.int)) ∈ jT := jT_in 899 (by decide +kernel) rfl
theorem w_900 : (Jvm.Cond.methodLink "RunFormsModel" (197 : Nat) ({ cls := "RunFormsModel", name := "goOn", desc := "()I" } : Jvm.MethodName)) ∈ jT := jT_in 900 (by decide +kernel) rfl
theorem w_902 : (Jvm.Cond.instanceMethod ({ cls := "RunFormsModel", name := "goOn", desc := "()I" } : Jvm.MethodName)) ∈ jT := jT_in 902 (by decide +kernel) rfl
theorem w_903 : (Jvm.Cond.code ({ cls := "RunFormsModel", name := "goOn", desc := "()I" } : Jvm.MethodName) prog_8_method_43_code (1 : Nat) (Option.some Jvm.ClassFile.FieldType.int)) ∈ jT := jT_in 903 (by decide +kernel) rfl
theorem w_904 : (Jvm.Cond.methodLink "RunFormsModel" (200 : Nat) ({ cls := "RunFormsModel", name := "bytes", desc := "(I)I" } : Jvm.MethodName)) ∈ jT := jT_in 904 (by decide +kernel) rfl
theorem w_906 : (Jvm.Cond.instanceMethod ({ cls := "RunFormsModel", name := "bytes", desc := "(I)I" } : Jvm.MethodName)) ∈ jT := jT_in 906 (by decide +kernel) rfl
theorem w_907 : (Jvm.Cond.code ({ cls := "RunFormsModel", name := "bytes", desc := "(I)I" } : Jvm.MethodName) prog_8_method_44_code (5 : Nat) (Option.some Jvm.ClassFile.FieldType.int)) ∈ jT := jT_in 907 (by decide +kernel) rfl
theorem w_908 : (Jvm.Cond.constantLong "RunFormsModel" (180 : Nat) (255 : Int64)) ∈ jT := jT_in 908 (by decide +kernel) rfl
theorem w_912 : (Jvm.Cond.code ({ cls := "RunFormsModel", name := "fault", desc := "()I" } : Jvm.MethodName) prog_8_method_45_code (1 : Nat) (Option.some Jvm.ClassFile.FieldType.int)) ∈ jT := jT_in 912 (by decide +kernel) rfl
theorem w_916 : (Jvm.Cond.code ({ cls := "RunFormsModel", name := "plain", desc := "(I)I" } : Jvm.MethodName) prog_8_method_47_code (3 : Nat) (Option.some Jvm.ClassFile.FieldType.int)) ∈ jT := jT_in 916 (by decide +kernel) rfl
theorem w_917 : (Jvm.Cond.methodLink "RunFormsModel" (209 : Nat) ({ cls := "RunFormsModel", name := "plainMarked", desc := "()Z" } : Jvm.MethodName)) ∈ jT := jT_in 917 (by decide +kernel) rfl
theorem w_919 : (Jvm.Cond.instanceMethod ({ cls := "RunFormsModel", name := "plainMarked", desc := "()Z" } : Jvm.MethodName)) ∈ jT := jT_in 919 (by decide +kernel) rfl
theorem w_920 : (Jvm.Cond.code ({ cls := "RunFormsModel", name := "plainMarked", desc := "()Z" } : Jvm.MethodName) prog_8_method_48_code (5 : Nat) (Option.some Jvm.ClassFile.FieldType.boolean)) ∈ jT := jT_in 920 (by decide +kernel) rfl
theorem w_921 : (Jvm.Cond.methodLink "RunFormsModel" (219 : Nat) ({ cls := "RunFormsModel", name := "copies", desc := "(III)Z" } : Jvm.MethodName)) ∈ jT := jT_in 921 (by decide +kernel) rfl
theorem w_923 : (Jvm.Cond.instanceMethod ({ cls := "RunFormsModel", name := "copies", desc := "(III)Z" } : Jvm.MethodName)) ∈ jT := jT_in 923 (by decide +kernel) rfl
theorem w_924 : (Jvm.Cond.code ({ cls := "RunFormsModel", name := "copies", desc := "(III)Z" } : Jvm.MethodName) prog_8_method_46_code (5 : Nat) (Option.some Jvm.ClassFile.FieldType.boolean)) ∈ jT := jT_in 924 (by decide +kernel) rfl
theorem w_925 : (Jvm.Cond.methodLink "RunFormsModel" (213 : Nat) ({ cls := "RunFormsModel", name := "plainSigned", desc := "()Z" } : Jvm.MethodName)) ∈ jT := jT_in 925 (by decide +kernel) rfl
theorem w_927 : (Jvm.Cond.instanceMethod ({ cls := "RunFormsModel", name := "plainSigned", desc := "()Z" } : Jvm.MethodName)) ∈ jT := jT_in 927 (by decide +kernel) rfl
theorem w_928 : (Jvm.Cond.code ({ cls := "RunFormsModel", name := "plainSigned", desc := "()Z" } : Jvm.MethodName) prog_8_method_49_code (5 : Nat) (Option.some Jvm.ClassFile.FieldType.boolean)) ∈ jT := jT_in 928 (by decide +kernel) rfl
theorem w_929 : (Jvm.Cond.methodLink "RunFormsModel" (216 : Nat) ({ cls := "RunFormsModel", name := "plainRows", desc := "()Z" } : Jvm.MethodName)) ∈ jT := jT_in 929 (by decide +kernel) rfl
theorem w_931 : (Jvm.Cond.instanceMethod ({ cls := "RunFormsModel", name := "plainRows", desc := "()Z" } : Jvm.MethodName)) ∈ jT := jT_in 931 (by decide +kernel) rfl
theorem w_932 : (Jvm.Cond.code ({ cls := "RunFormsModel", name := "plainRows", desc := "()Z" } : Jvm.MethodName) prog_8_method_50_code (8 : Nat) (Option.some Jvm.ClassFile.FieldType.boolean)) ∈ jT := jT_in 932 (by decide +kernel) rfl
theorem w_936 : (Jvm.Cond.code ({ cls := "RunFormsModel", name := "out", desc := "(I)I" } : Jvm.MethodName) prog_8_method_51_code (2 : Nat) (Option.some Jvm.ClassFile.FieldType.int)) ∈ jT := jT_in 936 (by decide +kernel) rfl
theorem w_940 : (Jvm.Cond.code ({ cls := "RunFormsModel", name := "at", desc := "(II)I" } : Jvm.MethodName) prog_8_method_52_code (3 : Nat) (Option.some Jvm.ClassFile.FieldType.int)) ∈ jT := jT_in 940 (by decide +kernel) rfl
theorem w_944 : (Jvm.Cond.code ({ cls := "RunFormsModel", name := "unit", desc := "(I)J" } : Jvm.MethodName) prog_8_method_53_code (2 : Nat) (Option.some Jvm.ClassFile.FieldType.long)) ∈ jT := jT_in 944 (by decide +kernel) rfl
theorem w_945 : (Jvm.Cond.constantLong "RunFormsModel" (222 : Nat) (-1 : Int64)) ∈ jT := jT_in 945 (by decide +kernel) rfl
theorem w_949 : (Jvm.Cond.code ({ cls := "RunFormsModel", name := "bound", desc := "(I)I" } : Jvm.MethodName) prog_8_method_54_code (4 : Nat) (Option.some Jvm.ClassFile.FieldType.int)) ∈ jT := jT_in 949 (by decide +kernel) rfl
theorem w_953 : (Jvm.Cond.code ({ cls := "RunFormsModel", name := "told", desc := "(I)I" } : Jvm.MethodName) prog_8_method_55_code (2 : Nat) (Option.some Jvm.ClassFile.FieldType.int)) ∈ jT := jT_in 953 (by decide +kernel) rfl
theorem ws_0 : Cond.selects "RunForms" ⟨"RunForms", "append", "(LRunForms$Octets;II)I"⟩ ⟨"RunForms", "append", "(LRunForms$Octets;II)I"⟩ ∈ jT := jT_sel (q := (⟨"RunForms", "append", "(LRunForms$Octets;II)I"⟩, 6)) 0 (by decide +kernel)
theorem ws_1 : Cond.selects "RunForms" ⟨"RunForms", "rowOf", "(I)LRunForms$Octets;"⟩ ⟨"RunForms", "rowOf", "(I)LRunForms$Octets;"⟩ ∈ jT := jT_sel (q := (⟨"RunForms", "rowOf", "(I)LRunForms$Octets;"⟩, 6)) 1 (by decide +kernel)
theorem ws_2 : Cond.selects "RunForms" ⟨"RunForms", "packRefusal", "(I)I"⟩ ⟨"RunForms", "packRefusal", "(I)I"⟩ ∈ jT := jT_sel (q := (⟨"RunForms", "packRefusal", "(I)I"⟩, 6)) 2 (by decide +kernel)
theorem ws_3 : Cond.selects "RunForms" ⟨"RunForms", "rowBound", "()I"⟩ ⟨"RunForms", "rowBound", "()I"⟩ ∈ jT := jT_sel (q := (⟨"RunForms", "rowBound", "()I"⟩, 6)) 3 (by decide +kernel)
theorem ws_5 : Cond.selects "RunFormsModel" ⟨"RunFormsModel", "isWhole", "(I)Z"⟩ ⟨"RunFormsModel", "isWhole", "(I)Z"⟩ ∈ jT := jT_sel (q := (⟨"RunFormsModel", "isWhole", "(I)Z"⟩, 25)) 5 (by decide +kernel)
theorem ws_6 : Cond.selects "RunFormsModel" ⟨"RunFormsModel", "packAll", "(I)V"⟩ ⟨"RunFormsModel", "packAll", "(I)V"⟩ ∈ jT := jT_sel (q := (⟨"RunFormsModel", "packAll", "(I)V"⟩, 25)) 6 (by decide +kernel)
theorem ws_7 : Cond.selects "RunFormsModel" ⟨"RunFormsModel", "takeUnits", "()V"⟩ ⟨"RunFormsModel", "takeUnits", "()V"⟩ ∈ jT := jT_sel (q := (⟨"RunFormsModel", "takeUnits", "()V"⟩, 25)) 7 (by decide +kernel)
theorem ws_8 : Cond.selects "RunFormsModel" ⟨"RunFormsModel", "unitOf", "(I)J"⟩ ⟨"RunFormsModel", "unitOf", "(I)J"⟩ ∈ jT := jT_sel (q := (⟨"RunFormsModel", "unitOf", "(I)J"⟩, 25)) 8 (by decide +kernel)
theorem ws_9 : Cond.selects "RunFormsModel" ⟨"RunFormsModel", "all", "()J"⟩ ⟨"RunFormsModel", "all", "()J"⟩ ∈ jT := jT_sel (q := (⟨"RunFormsModel", "all", "()J"⟩, 25)) 9 (by decide +kernel)
theorem ws_10 : Cond.selects "RunFormsModel" ⟨"RunFormsModel", "part", "(III)V"⟩ ⟨"RunFormsModel", "part", "(III)V"⟩ ∈ jT := jT_sel (q := (⟨"RunFormsModel", "part", "(III)V"⟩, 25)) 10 (by decide +kernel)
theorem ws_11 : Cond.selects "RunFormsModel" ⟨"RunFormsModel", "greedy", "(II)V"⟩ ⟨"RunFormsModel", "greedy", "(II)V"⟩ ∈ jT := jT_sel (q := (⟨"RunFormsModel", "greedy", "(II)V"⟩, 25)) 11 (by decide +kernel)
theorem ws_12 : Cond.selects "RunFormsModel" ⟨"RunFormsModel", "restOf", "(II)I"⟩ ⟨"RunFormsModel", "restOf", "(II)I"⟩ ∈ jT := jT_sel (q := (⟨"RunFormsModel", "restOf", "(II)I"⟩, 25)) 12 (by decide +kernel)
theorem ws_13 : Cond.selects "RunFormsModel" ⟨"RunFormsModel", "mostRun", "()I"⟩ ⟨"RunFormsModel", "mostRun", "()I"⟩ ∈ jT := jT_sel (q := (⟨"RunFormsModel", "mostRun", "()I"⟩, 25)) 13 (by decide +kernel)
theorem ws_14 : Cond.selects "RunFormsModel" ⟨"RunFormsModel", "likes", "(III)I"⟩ ⟨"RunFormsModel", "likes", "(III)I"⟩ ∈ jT := jT_sel (q := (⟨"RunFormsModel", "likes", "(III)I"⟩, 25)) 14 (by decide +kernel)
theorem ws_15 : Cond.selects "RunFormsModel" ⟨"RunFormsModel", "isMarked", "(I)Z"⟩ ⟨"RunFormsModel", "isMarked", "(I)Z"⟩ ∈ jT := jT_sel (q := (⟨"RunFormsModel", "isMarked", "(I)Z"⟩, 25)) 15 (by decide +kernel)
theorem ws_16 : Cond.selects "RunFormsModel" ⟨"RunFormsModel", "layRun", "(II)V"⟩ ⟨"RunFormsModel", "layRun", "(II)V"⟩ ∈ jT := jT_sel (q := (⟨"RunFormsModel", "layRun", "(II)V"⟩, 25)) 16 (by decide +kernel)
theorem ws_17 : Cond.selects "RunFormsModel" ⟨"RunFormsModel", "lay", "(I)V"⟩ ⟨"RunFormsModel", "lay", "(I)V"⟩ ∈ jT := jT_sel (q := (⟨"RunFormsModel", "lay", "(I)V"⟩, 25)) 17 (by decide +kernel)
theorem ws_18 : Cond.selects "RunFormsModel" ⟨"RunFormsModel", "layUnit", "(J)V"⟩ ⟨"RunFormsModel", "layUnit", "(J)V"⟩ ∈ jT := jT_sel (q := (⟨"RunFormsModel", "layUnit", "(J)V"⟩, 25)) 18 (by decide +kernel)
theorem ws_19 : Cond.selects "RunFormsModel" ⟨"RunFormsModel", "greedyThemselves", "(III)I"⟩ ⟨"RunFormsModel", "greedyThemselves", "(III)I"⟩ ∈ jT := jT_sel (q := (⟨"RunFormsModel", "greedyThemselves", "(III)I"⟩, 25)) 19 (by decide +kernel)
theorem ws_20 : Cond.selects "RunFormsModel" ⟨"RunFormsModel", "layThemselves", "(II)V"⟩ ⟨"RunFormsModel", "layThemselves", "(II)V"⟩ ∈ jT := jT_sel (q := (⟨"RunFormsModel", "layThemselves", "(II)V"⟩, 25)) 20 (by decide +kernel)
theorem ws_21 : Cond.selects "RunFormsModel" ⟨"RunFormsModel", "fewest", "(II)V"⟩ ⟨"RunFormsModel", "fewest", "(II)V"⟩ ∈ jT := jT_sel (q := (⟨"RunFormsModel", "fewest", "(II)V"⟩, 25)) 21 (by decide +kernel)
theorem ws_22 : Cond.selects "RunFormsModel" ⟨"RunFormsModel", "reckon", "(II)V"⟩ ⟨"RunFormsModel", "reckon", "(II)V"⟩ ∈ jT := jT_sel (q := (⟨"RunFormsModel", "reckon", "(II)V"⟩, 25)) 22 (by decide +kernel)
theorem ws_23 : Cond.selects "RunFormsModel" ⟨"RunFormsModel", "mayStand", "(II)Z"⟩ ⟨"RunFormsModel", "mayStand", "(II)Z"⟩ ∈ jT := jT_sel (q := (⟨"RunFormsModel", "mayStand", "(II)Z"⟩, 25)) 23 (by decide +kernel)
theorem ws_24 : Cond.selects "RunFormsModel" ⟨"RunFormsModel", "selfCost", "(I)I"⟩ ⟨"RunFormsModel", "selfCost", "(I)I"⟩ ∈ jT := jT_sel (q := (⟨"RunFormsModel", "selfCost", "(I)I"⟩, 25)) 24 (by decide +kernel)
theorem ws_25 : Cond.selects "RunFormsModel" ⟨"RunFormsModel", "runCost", "()I"⟩ ⟨"RunFormsModel", "runCost", "()I"⟩ ∈ jT := jT_sel (q := (⟨"RunFormsModel", "runCost", "()I"⟩, 25)) 25 (by decide +kernel)
theorem ws_26 : Cond.selects "RunFormsModel" ⟨"RunFormsModel", "fewestAt", "(II)I"⟩ ⟨"RunFormsModel", "fewestAt", "(II)I"⟩ ∈ jT := jT_sel (q := (⟨"RunFormsModel", "fewestAt", "(II)I"⟩, 25)) 26 (by decide +kernel)
theorem ws_27 : Cond.selects "RunFormsModel" ⟨"RunFormsModel", "openMarked", "()I"⟩ ⟨"RunFormsModel", "openMarked", "()I"⟩ ∈ jT := jT_sel (q := (⟨"RunFormsModel", "openMarked", "()I"⟩, 25)) 27 (by decide +kernel)
theorem ws_28 : Cond.selects "RunFormsModel" ⟨"RunFormsModel", "fails", "(II)I"⟩ ⟨"RunFormsModel", "fails", "(II)I"⟩ ∈ jT := jT_sel (q := (⟨"RunFormsModel", "fails", "(II)I"⟩, 25)) 28 (by decide +kernel)
theorem ws_29 : Cond.selects "RunFormsModel" ⟨"RunFormsModel", "puts", "(III)I"⟩ ⟨"RunFormsModel", "puts", "(III)I"⟩ ∈ jT := jT_sel (q := (⟨"RunFormsModel", "puts", "(III)I"⟩, 25)) 29 (by decide +kernel)
theorem ws_30 : Cond.selects "RunFormsModel" ⟨"RunFormsModel", "openSigned", "()I"⟩ ⟨"RunFormsModel", "openSigned", "()I"⟩ ∈ jT := jT_sel (q := (⟨"RunFormsModel", "openSigned", "()I"⟩, 25)) 30 (by decide +kernel)
theorem ws_31 : Cond.selects "RunFormsModel" ⟨"RunFormsModel", "openRows", "()I"⟩ ⟨"RunFormsModel", "openRows", "()I"⟩ ∈ jT := jT_sel (q := (⟨"RunFormsModel", "openRows", "()I"⟩, 25)) 31 (by decide +kernel)
theorem ws_32 : Cond.selects "RunFormsModel" ⟨"RunFormsModel", "rowFaults", "(I)I"⟩ ⟨"RunFormsModel", "rowFaults", "(I)I"⟩ ∈ jT := jT_sel (q := (⟨"RunFormsModel", "rowFaults", "(I)I"⟩, 25)) 32 (by decide +kernel)
theorem ws_33 : Cond.selects "RunFormsModel" ⟨"RunFormsModel", "rowIs", "()V"⟩ ⟨"RunFormsModel", "rowIs", "()V"⟩ ∈ jT := jT_sel (q := (⟨"RunFormsModel", "rowIs", "()V"⟩, 25)) 33 (by decide +kernel)
theorem ws_34 : Cond.selects "RunFormsModel" ⟨"RunFormsModel", "endRow", "()I"⟩ ⟨"RunFormsModel", "endRow", "()I"⟩ ∈ jT := jT_sel (q := (⟨"RunFormsModel", "endRow", "()I"⟩, 25)) 34 (by decide +kernel)
theorem ws_35 : Cond.selects "RunFormsModel" ⟨"RunFormsModel", "endAll", "()I"⟩ ⟨"RunFormsModel", "endAll", "()I"⟩ ∈ jT := jT_sel (q := (⟨"RunFormsModel", "endAll", "()I"⟩, 25)) 35 (by decide +kernel)
theorem ws_36 : Cond.selects "RunFormsModel" ⟨"RunFormsModel", "goOn", "()I"⟩ ⟨"RunFormsModel", "goOn", "()I"⟩ ∈ jT := jT_sel (q := (⟨"RunFormsModel", "goOn", "()I"⟩, 25)) 36 (by decide +kernel)
theorem ws_37 : Cond.selects "RunFormsModel" ⟨"RunFormsModel", "bytes", "(I)I"⟩ ⟨"RunFormsModel", "bytes", "(I)I"⟩ ∈ jT := jT_sel (q := (⟨"RunFormsModel", "bytes", "(I)I"⟩, 25)) 37 (by decide +kernel)
theorem ws_38 : Cond.selects "RunFormsModel" ⟨"RunFormsModel", "plainMarked", "()Z"⟩ ⟨"RunFormsModel", "plainMarked", "()Z"⟩ ∈ jT := jT_sel (q := (⟨"RunFormsModel", "plainMarked", "()Z"⟩, 25)) 38 (by decide +kernel)
theorem ws_39 : Cond.selects "RunFormsModel" ⟨"RunFormsModel", "copies", "(III)Z"⟩ ⟨"RunFormsModel", "copies", "(III)Z"⟩ ∈ jT := jT_sel (q := (⟨"RunFormsModel", "copies", "(III)Z"⟩, 25)) 39 (by decide +kernel)
theorem ws_40 : Cond.selects "RunFormsModel" ⟨"RunFormsModel", "plainSigned", "()Z"⟩ ⟨"RunFormsModel", "plainSigned", "()Z"⟩ ∈ jT := jT_sel (q := (⟨"RunFormsModel", "plainSigned", "()Z"⟩, 25)) 40 (by decide +kernel)
theorem ws_41 : Cond.selects "RunFormsModel" ⟨"RunFormsModel", "plainRows", "()Z"⟩ ⟨"RunFormsModel", "plainRows", "()Z"⟩ ∈ jT := jT_sel (q := (⟨"RunFormsModel", "plainRows", "()Z"⟩, 25)) 41 (by decide +kernel)
theorem Y_X0_hasRoom : jY yX0_hasRoom cX0_hasRoom 2 (some .boolean) 1 := ⟨w_229, w_3, by decide, by decide, by decide +kernel, by decide⟩
theorem Y_X0_add : jY yX0_add cX0_add 2 none 1 := ⟨w_233, w_3, by decide, by decide, by decide +kernel, by decide⟩
theorem Y_X0_set : jY yX0_set cX0_set 3 none 2 := ⟨w_471, w_3, by decide, by decide, by decide +kernel, by decide⟩
theorem Y_X0_get : jY yX0_get cX0_get 2 (some .int) 1 := ⟨w_293, w_3, by decide, by decide, by decide +kernel, by decide⟩
theorem Y_X0_blank : jY yX0_blank cX0_blank 1 none 0 := ⟨w_421, w_3, by decide, by decide, by decide +kernel, by decide⟩
theorem Y_X0_become : jY yX0_become cX0_become 2 none 1 := ⟨w_401, w_3, by decide, by decide, by decide +kernel, by decide⟩
theorem Y_X1_run : jY yX1_run cX1_run 2 none 0 := ⟨w_417, w_5, by decide, by decide, by decide +kernel, by decide⟩
theorem Y_X1_takePiece : jY yX1_takePiece cX1_takePiece 1 (some .int) 0 := ⟨w_428, w_5, by decide, by decide, by decide +kernel, by decide⟩
theorem Y_X1_takeMarked : jY yX1_takeMarked cX1_takeMarked 3 (some .int) 0 := ⟨w_432, w_5, by decide, by decide, by decide +kernel, by decide⟩
theorem Y_X1_takeSigned : jY yX1_takeSigned cX1_takeSigned 2 (some .int) 0 := ⟨w_447, w_5, by decide, by decide, by decide +kernel, by decide⟩
theorem Y_X1_takeUnits : jY yX1_takeUnits cX1_takeUnits 7 (some .int) 3 := ⟨w_437, w_5, by decide, by decide, by decide +kernel, by decide⟩
theorem Y_X1_takeEnd : jY yX1_takeEnd cX1_takeEnd 1 (some .int) 0 := ⟨w_443, w_5, by decide, by decide, by decide +kernel, by decide⟩
theorem Y_X1_takeRows : jY yX1_takeRows cX1_takeRows 4 (some .int) 0 := ⟨w_451, w_5, by decide, by decide, by decide +kernel, by decide⟩
theorem Y_X1_takeRowRun : jY yX1_takeRowRun cX1_takeRowRun 5 (some .int) 2 := ⟨w_455, w_5, by decide, by decide, by decide +kernel, by decide⟩
theorem Y_X1_takeRowBytes : jY yX1_takeRowBytes cX1_takeRowBytes 5 (some .int) 1 := ⟨w_483, w_5, by decide, by decide, by decide +kernel, by decide⟩
theorem Y_X1_takeRowEnd : jY yX1_takeRowEnd cX1_takeRowEnd 2 (some .int) 0 := ⟨w_475, w_5, by decide, by decide, by decide +kernel, by decide⟩
theorem Y_X1_takeGoingOn : jY yX1_takeGoingOn cX1_takeGoingOn 2 (some .int) 0 := ⟨w_479, w_5, by decide, by decide, by decide +kernel, by decide⟩
theorem Y_X1_rowFault : jY yX1_rowFault cX1_rowFault 2 (some .int) 1 := ⟨w_459, w_5, by decide, by decide, by decide +kernel, by decide⟩
theorem Y_X1_putInRow : jY yX1_putInRow cX1_putInRow 2 none 1 := ⟨w_463, w_5, by decide, by decide, by decide +kernel, by decide⟩
theorem Y_X1_countRow : jY yX1_countRow cX1_countRow 1 none 0 := ⟨w_467, w_5, by decide, by decide, by decide +kernel, by decide⟩
theorem Y_X1_addUp : jY yX1_addUp cX1_addUp 4 none 0 := ⟨w_487, w_5, by decide, by decide, by decide +kernel, by decide⟩
theorem Y_X2_make : jY yX2_make cX2_make 5 (some .int) 2 := ⟨w_277, w_4, by decide, by decide, by decide +kernel, by decide⟩
theorem Y_X2_readUnits : jY yX2_readUnits cX2_readUnits 5 none 1 := ⟨w_281, w_4, by decide, by decide, by decide +kernel, by decide⟩
theorem Y_X2_addStretch : jY yX2_addStretch cX2_addStretch 4 none 3 := ⟨w_307, w_4, by decide, by decide, by decide +kernel, by decide⟩
theorem Y_X2_measure : jY yX2_measure cX2_measure 4 none 1 := ⟨w_311, w_4, by decide, by decide, by decide +kernel, by decide⟩
theorem Y_X2_addPieces : jY yX2_addPieces cX2_addPieces 5 none 2 := ⟨w_364, w_4, by decide, by decide, by decide +kernel, by decide⟩
theorem Y_X2_planFewest : jY yX2_planFewest cX2_planFewest 3 none 1 := ⟨w_315, w_4, by decide, by decide, by decide +kernel, by decide⟩
theorem Y_X2_chooseFewest : jY yX2_chooseFewest cX2_chooseFewest 4 none 1 := ⟨w_319, w_4, by decide, by decide, by decide +kernel, by decide⟩
theorem Y_X2_offer : jY yX2_offer cX2_offer 6 none 4 := ⟨w_348, w_4, by decide, by decide, by decide +kernel, by decide⟩
theorem Y_X2_choose : jY yX2_choose cX2_choose 4 none 3 := ⟨w_323, w_4, by decide, by decide, by decide +kernel, by decide⟩
theorem Y_X2_chooseGreedy : jY yX2_chooseGreedy cX2_chooseGreedy 5 none 1 := ⟨w_368, w_4, by decide, by decide, by decide +kernel, by decide⟩
theorem Y_X2_greedyTakesRun : jY yX2_greedyTakesRun cX2_greedyTakesRun 3 (some .boolean) 2 := ⟨w_372, w_4, by decide, by decide, by decide +kernel, by decide⟩
theorem Y_X2_greedyThemselves : jY yX2_greedyThemselves cX2_greedyThemselves 5 (some .int) 1 := ⟨w_376, w_4, by decide, by decide, by decide +kernel, by decide⟩
theorem Y_X2_runAt : jY yX2_runAt cX2_runAt 2 (some .int) 1 := ⟨w_352, w_4, by decide, by decide, by decide +kernel, by decide⟩
theorem Y_X2_leastRun : jY yX2_leastRun cX2_leastRun 1 (some .int) 0 := ⟨w_356, w_4, by decide, by decide, by decide +kernel, by decide⟩
theorem Y_X2_leastThemselves : jY yX2_leastThemselves cX2_leastThemselves 1 (some .int) 0 := ⟨w_340, w_4, by decide, by decide, by decide +kernel, by decide⟩
theorem Y_X2_mostThemselves : jY yX2_mostThemselves cX2_mostThemselves 1 (some .int) 0 := ⟨w_336, w_4, by decide, by decide, by decide +kernel, by decide⟩
theorem Y_X2_beginsWithMark : jY yX2_beginsWithMark cX2_beginsWithMark 2 (some .boolean) 1 := ⟨w_328, w_4, by decide, by decide, by decide +kernel, by decide⟩
theorem Y_X2_lengthRun : jY yX2_lengthRun cX2_lengthRun 1 (some .int) 0 := ⟨w_360, w_4, by decide, by decide, by decide +kernel, by decide⟩
theorem Y_X2_lengthThemselves : jY yX2_lengthThemselves cX2_lengthThemselves 2 (some .int) 1 := ⟨w_344, w_4, by decide, by decide, by decide +kernel, by decide⟩
theorem Y_X2_addPiece : jY yX2_addPiece cX2_addPiece 4 none 1 := ⟨w_380, w_4, by decide, by decide, by decide +kernel, by decide⟩
theorem Y_X2_addRunHead : jY yX2_addRunHead cX2_addRunHead 2 none 1 := ⟨w_384, w_4, by decide, by decide, by decide +kernel, by decide⟩
theorem Y_X2_addThemselvesHead : jY yX2_addThemselvesHead cX2_addThemselvesHead 2 none 1 := ⟨w_393, w_4, by decide, by decide, by decide +kernel, by decide⟩
theorem Y_X2_addUnit : jY yX2_addUnit cX2_addUnit 3 none 1 := ⟨w_389, w_4, by decide, by decide, by decide +kernel, by decide⟩
theorem Y_X2_addEnd : jY yX2_addEnd cX2_addEnd 1 none 0 := ⟨w_397, w_4, by decide, by decide, by decide +kernel, by decide⟩
theorem Y_X3_fill : jY yX3_fill cX3_fill 3 (some .int) 1 := ⟨w_502, w_6, by decide, by decide, by decide +kernel, by decide⟩
theorem Y_X3_copiesPiece : jY yX3_copiesPiece cX3_copiesPiece 1 (some .boolean) 0 := ⟨w_509, w_6, by decide, by decide, by decide +kernel, by decide⟩
theorem Y_X3_copiesMarked : jY yX3_copiesMarked cX3_copiesMarked 3 (some .boolean) 0 := ⟨w_513, w_6, by decide, by decide, by decide +kernel, by decide⟩
theorem Y_X3_copiesSigned : jY yX3_copiesSigned cX3_copiesSigned 3 (some .boolean) 0 := ⟨w_527, w_6, by decide, by decide, by decide +kernel, by decide⟩
theorem Y_X3_copiesRows : jY yX3_copiesRows cX3_copiesRows 4 (some .boolean) 0 := ⟨w_531, w_6, by decide, by decide, by decide +kernel, by decide⟩
theorem Y_X3_goesOn : jY yX3_goesOn cX3_goesOn 1 (some .boolean) 0 := ⟨w_535, w_6, by decide, by decide, by decide +kernel, by decide⟩
theorem Y_X3_copiesTimes : jY yX3_copiesTimes cX3_copiesTimes 5 (some .boolean) 3 := ⟨w_518, w_6, by decide, by decide, by decide +kernel, by decide⟩
theorem Y_X3_copies : jY yX3_copies cX3_copies 4 (some .boolean) 2 := ⟨w_522, w_6, by decide, by decide, by decide +kernel, by decide⟩
theorem Y_X4_allow : jY yX4_allow cX4_allow 3 (some .boolean) 2 := ⟨w_257, w_2, by decide, by decide, by decide +kernel, by decide⟩
theorem Y_X4_change : jY yX4_change cX4_change 4 (some .int) 2 := ⟨w_261, w_2, by decide, by decide, by decide +kernel, by decide⟩
theorem Y_X4_isWhole : jY yX4_isWhole cX4_isWhole 3 (some .boolean) 1 := ⟨w_273, w_2, by decide, by decide, by decide +kernel, by decide⟩
theorem Y_X4_unitsIn : jY yX4_unitsIn cX4_unitsIn 2 (some .int) 1 := ⟨w_285, w_2, by decide, by decide, by decide +kernel, by decide⟩
theorem Y_X4_rowsIn : jY yX4_rowsIn cX4_rowsIn 2 (some .int) 1 := ⟨w_556, w_2, by decide, by decide, by decide +kernel, by decide⟩
theorem Y_X4_numberAt : jY yX4_numberAt cX4_numberAt 5 (some .int) 2 := ⟨w_289, w_2, by decide, by decide, by decide +kernel, by decide⟩
theorem Y_X4_byteOf : jY yX4_byteOf cX4_byteOf 3 (some .int) 2 := ⟨w_332, w_2, by decide, by decide, by decide +kernel, by decide⟩
theorem Y_X4_modulo : jY yX4_modulo cX4_modulo 2 (some .int) 1 := ⟨w_297, w_2, by decide, by decide, by decide +kernel, by decide⟩
theorem Y_X5_octet : jY yX5_octet cX5_octet 2 (some .int) 1 := ⟨w_221, w_1, by decide, by decide, by decide +kernel, by decide⟩
theorem Y_X5_repeat : jY yX5_repeat cX5_repeat 3 (some .int) 2 := ⟨w_237, w_1, by decide, by decide, by decide +kernel, by decide⟩
theorem Y_X5_code : jY yX5_code cX5_code 2 (some .int) 1 := ⟨w_241, w_1, by decide, by decide, by decide +kernel, by decide⟩
theorem Y_X5_cut : jY yX5_cut cX5_cut 5 (some .int) 2 := ⟨w_245, w_1, by decide, by decide, by decide +kernel, by decide⟩
theorem Y_X5_rule : jY yX5_rule cX5_rule 3 (some .int) 2 := ⟨w_253, w_1, by decide, by decide, by decide +kernel, by decide⟩
theorem Y_X5_pack : jY yX5_pack cX5_pack 3 (some .int) 1 := ⟨w_265, w_1, by decide, by decide, by decide +kernel, by decide⟩
theorem Y_X5_size : jY yX5_size cX5_size 3 (some .int) 1 := ⟨w_409, w_1, by decide, by decide, by decide +kernel, by decide⟩
theorem Y_X5_open : jY yX5_open cX5_open 1 (some .int) 0 := ⟨w_413, w_1, by decide, by decide, by decide +kernel, by decide⟩
theorem Y_X5_fault : jY yX5_fault cX5_fault 1 (some .int) 0 := ⟨w_494, w_1, by decide, by decide, by decide +kernel, by decide⟩
theorem Y_X5_plain : jY yX5_plain cX5_plain 2 (some .int) 1 := ⟨w_498, w_1, by decide, by decide, by decide +kernel, by decide⟩
theorem Y_X5_at : jY yX5_at cX5_at 4 (some .int) 2 := ⟨w_539, w_1, by decide, by decide, by decide +kernel, by decide⟩
theorem Y_X5_unit : jY yX5_unit cX5_unit 2 (some .long) 1 := ⟨w_544, w_1, by decide, by decide, by decide +kernel, by decide⟩
theorem Y_X5_bound : jY yX5_bound cX5_bound 3 (some .int) 1 := ⟨w_552, w_1, by decide, by decide, by decide +kernel, by decide⟩
theorem Y_X5_told : jY yX5_told cX5_told 2 (some .int) 1 := ⟨w_565, w_1, by decide, by decide, by decide +kernel, by decide⟩
theorem Y_X5_append : jY yX5_append cX5_append 5 (some .int) 3 := ⟨w_225, w_1, by decide, by decide, by decide +kernel, by decide⟩
theorem Y_X5_packRefusal : jY yX5_packRefusal cX5_packRefusal 2 (some .int) 1 := ⟨w_269, w_1, by decide, by decide, by decide +kernel, by decide⟩
theorem Y_X5_rowOf : jY yX5_rowOf cX5_rowOf 2 (some (.object "RunForms$Octets")) 1 := ⟨w_249, w_1, by decide, by decide, by decide +kernel, by decide⟩
theorem Y_X5_rowBound : jY yX5_rowBound cX5_rowBound 3 (some .int) 0 := ⟨w_560, w_1, by decide, by decide, by decide +kernel, by decide⟩
theorem Y_X6_thrown : jY yX6_thrown cX6_thrown 1 (some .int) 0 := ⟨w_741, w_7, by decide, by decide, by decide +kernel, by decide⟩
theorem Y_X6_in : jY yX6_in cX6_in 3 (some .boolean) 3 := ⟨w_660, w_7, by decide, by decide, by decide +kernel, by decide⟩
theorem Y_X6_octet : jY yX6_octet cX6_octet 2 (some .int) 1 := ⟨w_745, w_7, by decide, by decide, by decide +kernel, by decide⟩
theorem Y_X6_repeat : jY yX6_repeat cX6_repeat 4 (some .int) 2 := ⟨w_749, w_7, by decide, by decide, by decide +kernel, by decide⟩
theorem Y_X6_code : jY yX6_code cX6_code 2 (some .int) 1 := ⟨w_753, w_7, by decide, by decide, by decide +kernel, by decide⟩
theorem Y_X6_cut : jY yX6_cut cX6_cut 4 (some .int) 2 := ⟨w_757, w_7, by decide, by decide, by decide +kernel, by decide⟩
theorem Y_X6_rule : jY yX6_rule cX6_rule 5 (some .int) 2 := ⟨w_761, w_7, by decide, by decide, by decide +kernel, by decide⟩
theorem Y_X6_unitOf : jY yX6_unitOf cX6_unitOf 5 (some .long) 1 := ⟨w_785, w_7, by decide, by decide, by decide +kernel, by decide⟩
theorem Y_X6_all : jY yX6_all cX6_all 1 (some .long) 0 := ⟨w_789, w_7, by decide, by decide, by decide +kernel, by decide⟩
theorem Y_X6_takeUnits : jY yX6_takeUnits cX6_takeUnits 2 none 0 := ⟨w_781, w_7, by decide, by decide, by decide +kernel, by decide⟩
theorem Y_X6_lay : jY yX6_lay cX6_lay 2 none 1 := ⟨w_821, w_7, by decide, by decide, by decide +kernel, by decide⟩
theorem Y_X6_layUnit : jY yX6_layUnit cX6_layUnit 4 none 1 := ⟨w_825, w_7, by decide, by decide, by decide +kernel, by decide⟩
theorem Y_X6_isMarked : jY yX6_isMarked cX6_isMarked 2 (some .boolean) 1 := ⟨w_813, w_7, by decide, by decide, by decide +kernel, by decide⟩
theorem Y_X6_likes : jY yX6_likes cX6_likes 5 (some .int) 3 := ⟨w_809, w_7, by decide, by decide, by decide +kernel, by decide⟩
theorem Y_X6_layRun : jY yX6_layRun cX6_layRun 3 none 2 := ⟨w_817, w_7, by decide, by decide, by decide +kernel, by decide⟩
theorem Y_X6_layThemselves : jY yX6_layThemselves cX6_layThemselves 4 none 2 := ⟨w_833, w_7, by decide, by decide, by decide +kernel, by decide⟩
theorem Y_X6_mostRun : jY yX6_mostRun cX6_mostRun 1 (some .int) 0 := ⟨w_805, w_7, by decide, by decide, by decide +kernel, by decide⟩
theorem Y_X6_runCost : jY yX6_runCost cX6_runCost 1 (some .int) 0 := ⟨w_854, w_7, by decide, by decide, by decide +kernel, by decide⟩
theorem Y_X6_selfCost : jY yX6_selfCost cX6_selfCost 2 (some .int) 1 := ⟨w_850, w_7, by decide, by decide, by decide +kernel, by decide⟩
theorem Y_X6_mayStand : jY yX6_mayStand cX6_mayStand 3 (some .boolean) 2 := ⟨w_846, w_7, by decide, by decide, by decide +kernel, by decide⟩
theorem Y_X6_restOf : jY yX6_restOf cX6_restOf 4 (some .int) 2 := ⟨w_801, w_7, by decide, by decide, by decide +kernel, by decide⟩
theorem Y_X6_reckon : jY yX6_reckon cX6_reckon 8 none 2 := ⟨w_841, w_7, by decide, by decide, by decide +kernel, by decide⟩
theorem Y_X6_fewest : jY yX6_fewest cX6_fewest 6 none 2 := ⟨w_837, w_7, by decide, by decide, by decide +kernel, by decide⟩
theorem Y_X6_fewestAt : jY yX6_fewestAt cX6_fewestAt 4 (some .int) 2 := ⟨w_858, w_7, by decide, by decide, by decide +kernel, by decide⟩
theorem Y_X6_greedy : jY yX6_greedy cX6_greedy 7 none 2 := ⟨w_797, w_7, by decide, by decide, by decide +kernel, by decide⟩
theorem Y_X6_greedyThemselves : jY yX6_greedyThemselves cX6_greedyThemselves 5 (some .int) 3 := ⟨w_829, w_7, by decide, by decide, by decide +kernel, by decide⟩
theorem Y_X6_packAll : jY yX6_packAll cX6_packAll 3 none 1 := ⟨w_777, w_7, by decide, by decide, by decide +kernel, by decide⟩
theorem Y_X6_part : jY yX6_part cX6_part 4 none 3 := ⟨w_793, w_7, by decide, by decide, by decide +kernel, by decide⟩
theorem Y_X6_isWhole : jY yX6_isWhole cX6_isWhole 2 (some .boolean) 1 := ⟨w_773, w_7, by decide, by decide, by decide +kernel, by decide⟩
theorem Y_X6_pack : jY yX6_pack cX6_pack 4 (some .int) 1 := ⟨w_765, w_7, by decide, by decide, by decide +kernel, by decide⟩
theorem Y_X6_size : jY yX6_size cX6_size 2 (some .int) 1 := ⟨w_769, w_7, by decide, by decide, by decide +kernel, by decide⟩
theorem Y_X6_fails : jY yX6_fails cX6_fails 3 (some .int) 2 := ⟨w_871, w_7, by decide, by decide, by decide +kernel, by decide⟩
theorem Y_X6_open : jY yX6_open cX6_open 5 (some .int) 0 := ⟨w_863, w_7, by decide, by decide, by decide +kernel, by decide⟩
theorem Y_X6_puts : jY yX6_puts cX6_puts 6 (some .int) 3 := ⟨w_875, w_7, by decide, by decide, by decide +kernel, by decide⟩
theorem Y_X6_openMarked : jY yX6_openMarked cX6_openMarked 4 (some .int) 0 := ⟨w_867, w_7, by decide, by decide, by decide +kernel, by decide⟩
theorem Y_X6_openSigned : jY yX6_openSigned cX6_openSigned 4 (some .int) 0 := ⟨w_879, w_7, by decide, by decide, by decide +kernel, by decide⟩
theorem Y_X6_rowFaults : jY yX6_rowFaults cX6_rowFaults 2 (some .int) 1 := ⟨w_887, w_7, by decide, by decide, by decide +kernel, by decide⟩
theorem Y_X6_rowIs : jY yX6_rowIs cX6_rowIs 1 none 0 := ⟨w_891, w_7, by decide, by decide, by decide +kernel, by decide⟩
theorem Y_X6_openRows : jY yX6_openRows cX6_openRows 5 (some .int) 0 := ⟨w_883, w_7, by decide, by decide, by decide +kernel, by decide⟩
theorem Y_X6_endAll : jY yX6_endAll cX6_endAll 1 (some .int) 0 := ⟨w_899, w_7, by decide, by decide, by decide +kernel, by decide⟩
theorem Y_X6_endRow : jY yX6_endRow cX6_endRow 2 (some .int) 0 := ⟨w_895, w_7, by decide, by decide, by decide +kernel, by decide⟩
theorem Y_X6_goOn : jY yX6_goOn cX6_goOn 1 (some .int) 0 := ⟨w_903, w_7, by decide, by decide, by decide +kernel, by decide⟩
theorem Y_X6_bytes : jY yX6_bytes cX6_bytes 5 (some .int) 1 := ⟨w_907, w_7, by decide, by decide, by decide +kernel, by decide⟩
theorem Y_X6_fault : jY yX6_fault cX6_fault 1 (some .int) 0 := ⟨w_912, w_7, by decide, by decide, by decide +kernel, by decide⟩
theorem Y_X6_copies : jY yX6_copies cX6_copies 5 (some .boolean) 3 := ⟨w_924, w_7, by decide, by decide, by decide +kernel, by decide⟩
theorem Y_X6_plain : jY yX6_plain cX6_plain 3 (some .int) 1 := ⟨w_916, w_7, by decide, by decide, by decide +kernel, by decide⟩
theorem Y_X6_plainMarked : jY yX6_plainMarked cX6_plainMarked 5 (some .boolean) 0 := ⟨w_920, w_7, by decide, by decide, by decide +kernel, by decide⟩
theorem Y_X6_plainSigned : jY yX6_plainSigned cX6_plainSigned 5 (some .boolean) 0 := ⟨w_928, w_7, by decide, by decide, by decide +kernel, by decide⟩
theorem Y_X6_plainRows : jY yX6_plainRows cX6_plainRows 8 (some .boolean) 0 := ⟨w_932, w_7, by decide, by decide, by decide +kernel, by decide⟩
theorem Y_X6_out : jY yX6_out cX6_out 2 (some .int) 1 := ⟨w_936, w_7, by decide, by decide, by decide +kernel, by decide⟩
theorem Y_X6_at : jY yX6_at cX6_at 3 (some .int) 2 := ⟨w_940, w_7, by decide, by decide, by decide +kernel, by decide⟩
theorem Y_X6_unit : jY yX6_unit cX6_unit 2 (some .long) 1 := ⟨w_944, w_7, by decide, by decide, by decide +kernel, by decide⟩
theorem Y_X6_bound : jY yX6_bound cX6_bound 4 (some .int) 1 := ⟨w_949, w_7, by decide, by decide, by decide +kernel, by decide⟩
theorem Y_X6_told : jY yX6_told cX6_told 2 (some .int) 1 := ⟨w_953, w_7, by decide, by decide, by decide +kernel, by decide⟩
theorem Y_J7_fill_031fb : jY yJ7_fill_031fb cJ7_fill_031fb 4 none 2 := ⟨w_424, w_10, by decide, by decide, by decide +kernel, by decide⟩
theorem cl_X0 : jCl 2 RX0 TX0 2 tyX0 := ⟨rfl, by decide +kernel, tyX0_ok, nmX0⟩
theorem cl_X1 : jCl 3 RX1 TX1 9 tyX1 := ⟨rfl, by decide +kernel, tyX1_ok, nmX1⟩
theorem cl_X2 : jCl 4 RX2 TX2 10 tyX2 := ⟨rfl, by decide +kernel, tyX2_ok, nmX2⟩
theorem cl_X3 : jCl 5 RX3 TX3 9 tyX3 := ⟨rfl, by decide +kernel, tyX3_ok, nmX3⟩
theorem cl_X4 : jCl 6 RX4 TX4 5 tyX4 := ⟨rfl, by decide +kernel, tyX4_ok, nmX4⟩
theorem cl_X5 : jCl 7 RX5 TX5 6 tyX5 := ⟨rfl, by decide +kernel, tyX5_ok, nmX5⟩
theorem cl_X6 : jCl 8 RX6 TX6 25 tyX6 := ⟨rfl, by decide +kernel, tyX6_ok, nmX6⟩
def shC : List jS := [.inl (7, [some 1, some 2, some 4, some 6, some 14, some 17]), .inl (6, [none, none, none, none, none]), .inl (2, [some 3, none]), .inr (1, 240), .inl (2, [some 5, none]), .inr (1, 1000), .inl (4, [some 1, some 7, some 9, some 10, some 11, some 12, some 13, none, none, none]), .inl (2, [some 8, none]), .inr (1, 1000), .inr (0, 240), .inr (0, 240), .inr (0, 241), .inr (0, 240), .inr (0, 240), .inl (3, [some 1, some 4, some 15, none, none, none, none, none, none]), .inl (2, [some 16, none]), .inr (1, 240), .inl (5, [some 1, some 4, some 18, none, none, none, none, none, none]), .inr (1, 400)]
def shM : List jS := [.inl (8, [none, none, none, none, none, some 1, none, some 2, none, some 3, none, none, none, none, some 4, none, some 5, some 6, none, some 7, none, none, none, none, none]), .inr (0, 240), .inr (0, 1000), .inr (0, 400), .inr (2, 240), .inr (0, 241), .inr (0, 1000), .inr (0, 256)]
def jOct (q n : Nat) : Prop := shC[q]? = some (.inl (2, [some (q + 1), none])) ∧ shC[q + 1]? = some (.inr (1, n))
def jFU : Nat := 6000
end
section
/-! X0_hasRoom -/
abbrev D_X0_hasRoom : Nat := 0
noncomputable def f_X0_hasRoom (q : Nat) (n : Nat) (x1 : Int32) (μ : jM) : Option (Int32 × jM) := if ((Int32.ofNat n) - (μ.1 q 1)) < x1 then (jbl (0 : Int32) (some ((0 : Int32), μ))) else (jbl (1 : Int32) (some ((1 : Int32), μ)))
set_option maxHeartbeats 4000000 in
theorem M_X0_hasRoom {l : Launch} {Δ : jD} {r : Int32} {μ μ9 : jM} {q : Nat} {n : Nat} {x1 : Int32} (hq : jOct q n) (hsep : jSep Δ shC) (hf : f_X0_hasRoom q n x1 μ = some (r, μ9)) : jMet l yX0_hasRoom cX0_hasRoom 2 (some .boolean) D_X0_hasRoom Δ shC [jr Δ q, .int x1] μ (some (.int r), μ9) := by
  refine jMet_of (own := RX0) (L := [some (jr Δ q), some (.int x1)]) (by decide) rfl (Nat.le_of_ble_eq_true rfl) rfl hsep (fun Γ _ X => ?_)
  unfold f_X0_hasRoom at hf
  refine g_ild_n (pc := 0) (i := 1) X dX0_hasRoom_0 rfl rfl ?_
  refine g_ald_n (pc := 1) (i := 0) X dX0_hasRoom_1 rfl rfl ?_
  refine g_getR (pc := 2) (k := 0) X dX0_hasRoom_2 cl_X0 hq.1 rfl (by decide) w_69 ?_
  refine g_alen (pc := 5) X dX0_hasRoom_5 hq.2 (by decide) ?_
  refine g_ald_n (pc := 6) (i := 0) X dX0_hasRoom_6 rfl rfl ?_
  refine g_getI (pc := 7) (k := 1) X dX0_hasRoom_7 cl_X0 hq.1 rfl (by decide) w_71 ?_
  refine g_isub (pc := 10) X dX0_hasRoom_10 ?_
  refine g_icmp_gt (pc := 11) 18 X dX0_hasRoom_11 (by decide) (fun h3 => ?_) (fun h3 => ?_)
  · replace hf := jt_i h3 hf
    refine g_iconst (pc := 18) (v := (0 : Int32)) X dX0_hasRoom_18 (by decide) ?_
    obtain ⟨hb1, hf⟩ := jbl_i hf
    exact g_zret (pc := 19) X dX0_hasRoom_19 hb1 hf
  · replace hf := jf_i h3 hf
    refine g_iconst (pc := 14) (v := (1 : Int32)) X dX0_hasRoom_14 (by decide) ?_
    refine g_goto (pc := 15) 19 X dX0_hasRoom_15 (by decide) ?_
    obtain ⟨hb2, hf⟩ := jbl_i hf
    exact g_zret (pc := 19) X dX0_hasRoom_19 hb2 hf
/-! X0_add -/
abbrev D_X0_add : Nat := 0
noncomputable def f_X0_add (q : Nat) (n : Nat) (x1 : Int32) (μ : jM) : Option (Unit × jM) := if (Int32.ofNat n) ≤ (μ.1 q 1) then (some ((), μ)) else (jin (μ.1 q 1) n (jlet (jsI μ (q + 1) ((μ.1 q 1)).toNatClampNeg (((x1).toInt8.toInt32).toInt8.toInt32)) (fun μ1 : jM => jlet (jsI μ1 q 1 ((μ1.1 q 1) + (1 : Int32))) (fun μ2 : jM => some ((), μ2)))))
set_option maxHeartbeats 4000000 in
theorem M_X0_add {l : Launch} {Δ : jD} {r : Unit} {μ μ9 : jM} {q : Nat} {n : Nat} {x1 : Int32} (hq : jOct q n) (hsep : jSep Δ shC) (hf : f_X0_add q n x1 μ = some (r, μ9)) : jMet l yX0_add cX0_add 2 none D_X0_add Δ shC [jr Δ q, .int x1] μ (none, μ9) := by
  refine jMet_of (own := RX0) (L := [some (jr Δ q), some (.int x1)]) (by decide) rfl (Nat.le_of_ble_eq_true rfl) rfl hsep (fun Γ _ X => ?_)
  unfold f_X0_add at hf
  refine g_ald_n (pc := 0) (i := 0) X dX0_add_0 rfl rfl ?_
  refine g_getI (pc := 1) (k := 1) X dX0_add_1 cl_X0 hq.1 rfl (by decide) w_71 ?_
  refine g_ald_n (pc := 4) (i := 0) X dX0_add_4 rfl rfl ?_
  refine g_getR (pc := 5) (k := 0) X dX0_add_5 cl_X0 hq.1 rfl (by decide) w_69 ?_
  refine g_alen (pc := 8) X dX0_add_8 hq.2 (by decide) ?_
  refine g_icmp_ge (pc := 9) 33 X dX0_add_9 (by decide) (fun h3 => ?_) (fun h3 => ?_)
  · replace hf := jt_i h3 hf
    exact g_vret (pc := 33) X dX0_add_33 hf
  · replace hf := jf_i h3 hf
    refine g_ald_n (pc := 12) (i := 0) X dX0_add_12 rfl rfl ?_
    refine g_getR (pc := 13) (k := 0) X dX0_add_13 cl_X0 hq.1 rfl (by decide) w_69 ?_
    refine g_ald_n (pc := 16) (i := 0) X dX0_add_16 rfl rfl ?_
    refine g_getI (pc := 17) (k := 1) X dX0_add_17 cl_X0 hq.1 rfl (by decide) w_71 ?_
    refine g_ild_n (pc := 20) (i := 1) X dX0_add_20 rfl rfl ?_
    refine g_i2b (pc := 21) X dX0_add_21 ?_
    obtain ⟨hi1, hf⟩ := jin_i hf
    refine g_bast (pc := 22) X dX0_add_22 hq.2 hi1 ?_
    refine g_nmM (fun μ1 eμ1 => ?_)
    replace hf := jlet_i eμ1 hf
    refine g_ald_n (pc := 23) (i := 0) X dX0_add_23 rfl rfl ?_
    refine g_dupR (pc := 24) X dX0_add_24 ?_
    refine g_getI (pc := 25) (k := 1) X dX0_add_25 cl_X0 hq.1 rfl (by decide) w_71 ?_
    refine g_iconst (pc := 28) (v := (1 : Int32)) X dX0_add_28 (by decide) ?_
    refine g_iadd (pc := 29) X dX0_add_29 ?_
    refine g_putI (pc := 30) (k := 1) X dX0_add_30 cl_X0 hq.1 rfl (by decide) w_71 rfl rfl rfl ?_
    refine g_nmM (fun μ2 eμ2 => ?_)
    replace hf := jlet_i eμ2 hf
    exact g_vret (pc := 33) X dX0_add_33 hf
/-! X0_set -/
abbrev D_X0_set : Nat := 0
noncomputable def f_X0_set (q : Nat) (n : Nat) (x1 : Int32) (x2 : Int32) (μ : jM) : Option (Unit × jM) := if x1 < (0 : Int32) then (some ((), μ)) else (if (Int32.ofNat n) ≤ x1 then (some ((), μ)) else (jin x1 n (jlet (jsI μ (q + 1) (x1).toNatClampNeg (((x2).toInt8.toInt32).toInt8.toInt32)) (fun μ1 : jM => some ((), μ1)))))
set_option maxHeartbeats 4000000 in
theorem M_X0_set {l : Launch} {Δ : jD} {r : Unit} {μ μ9 : jM} {q : Nat} {n : Nat} {x1 : Int32} {x2 : Int32} (hq : jOct q n) (hsep : jSep Δ shC) (hf : f_X0_set q n x1 x2 μ = some (r, μ9)) : jMet l yX0_set cX0_set 3 none D_X0_set Δ shC [jr Δ q, .int x1, .int x2] μ (none, μ9) := by
  refine jMet_of (own := RX0) (L := [some (jr Δ q), some (.int x1), some (.int x2)]) (by decide) rfl (Nat.le_of_ble_eq_true rfl) rfl hsep (fun Γ _ X => ?_)
  unfold f_X0_set at hf
  refine g_ild_n (pc := 0) (i := 1) X dX0_set_0 rfl rfl ?_
  refine g_if_lt (pc := 1) 21 X dX0_set_1 (by decide) (fun h3 => ?_) (fun h3 => ?_)
  · replace hf := jt_i h3 hf
    exact g_vret (pc := 21) X dX0_set_21 hf
  · replace hf := jf_i h3 hf
    refine g_ild_n (pc := 4) (i := 1) X dX0_set_4 rfl rfl ?_
    refine g_ald_n (pc := 5) (i := 0) X dX0_set_5 rfl rfl ?_
    refine g_getR (pc := 6) (k := 0) X dX0_set_6 cl_X0 hq.1 rfl (by decide) w_69 ?_
    refine g_alen (pc := 9) X dX0_set_9 hq.2 (by decide) ?_
    refine g_icmp_ge (pc := 10) 21 X dX0_set_10 (by decide) (fun h2 => ?_) (fun h2 => ?_)
    · replace hf := jt_i h2 hf
      exact g_vret (pc := 21) X dX0_set_21 hf
    · replace hf := jf_i h2 hf
      refine g_ald_n (pc := 13) (i := 0) X dX0_set_13 rfl rfl ?_
      refine g_getR (pc := 14) (k := 0) X dX0_set_14 cl_X0 hq.1 rfl (by decide) w_69 ?_
      refine g_ild_n (pc := 17) (i := 1) X dX0_set_17 rfl rfl ?_
      refine g_ild_n (pc := 18) (i := 2) X dX0_set_18 rfl rfl ?_
      refine g_i2b (pc := 19) X dX0_set_19 ?_
      obtain ⟨hi1, hf⟩ := jin_i hf
      refine g_bast (pc := 20) X dX0_set_20 hq.2 hi1 ?_
      refine g_nmM (fun μ1 eμ1 => ?_)
      replace hf := jlet_i eμ1 hf
      exact g_vret (pc := 21) X dX0_set_21 hf
/-! X0_get -/
abbrev D_X0_get : Nat := 0
noncomputable def f_X0_get_25 (q : Nat) (n : Nat)   (μ : jM) : Option (Int32 × jM) := some ((-1 : Int32), μ)
noncomputable def f_X0_get (q : Nat) (n : Nat) (x1 : Int32) (μ : jM) : Option (Int32 × jM) := if x1 < (0 : Int32) then (f_X0_get_25 q n    μ) else (if (μ.1 q 1) ≤ x1 then (f_X0_get_25 q n    μ) else (jin x1 n (some (((μ.1 (q + 1) (x1).toNatClampNeg) &&& (255 : Int32)), μ))))
set_option maxHeartbeats 4000000 in
theorem t_X0_get_25 {Γ : jC} {Δ : jD} {r : Int32} {μ9 : jM} {q : Nat} {n : Nat}  (hq : jOct q n) (X : jOk Γ Δ shC cX0_get 2 RX0 (some .int) D_X0_get)  : ∀ (μ : jM), f_X0_get_25 q n   μ = some (r, μ9) → jG Γ Δ shC (some (.int r), μ9) 25 [none, none] [] μ := by
  intro  μ hf
  unfold f_X0_get_25 at hf
  refine g_iconst (pc := 25) (v := (-1 : Int32)) X dX0_get_25 (by decide) ?_
  exact g_iret (pc := 26) X dX0_get_26 hf
set_option maxHeartbeats 4000000 in
theorem M_X0_get {l : Launch} {Δ : jD} {r : Int32} {μ μ9 : jM} {q : Nat} {n : Nat} {x1 : Int32} (hq : jOct q n) (hsep : jSep Δ shC) (hf : f_X0_get q n x1 μ = some (r, μ9)) : jMet l yX0_get cX0_get 2 (some .int) D_X0_get Δ shC [jr Δ q, .int x1] μ (some (.int r), μ9) := by
  refine jMet_of (own := RX0) (L := [some (jr Δ q), some (.int x1)]) (by decide) rfl (Nat.le_of_ble_eq_true rfl) rfl hsep (fun Γ _ X => ?_)
  unfold f_X0_get at hf
  refine g_ild_n (pc := 0) (i := 1) X dX0_get_0 rfl rfl ?_
  refine g_if_lt (pc := 1) 25 X dX0_get_1 (by decide) (fun h3 => ?_) (fun h3 => ?_)
  · replace hf := jt_i h3 hf
    exact g_weak (t_X0_get_25 hq X    _ hf) (trivial)
  · replace hf := jf_i h3 hf
    refine g_ild_n (pc := 4) (i := 1) X dX0_get_4 rfl rfl ?_
    refine g_ald_n (pc := 5) (i := 0) X dX0_get_5 rfl rfl ?_
    refine g_getI (pc := 6) (k := 1) X dX0_get_6 cl_X0 hq.1 rfl (by decide) w_71 ?_
    refine g_icmp_ge (pc := 9) 25 X dX0_get_9 (by decide) (fun h2 => ?_) (fun h2 => ?_)
    · replace hf := jt_i h2 hf
      exact g_weak (t_X0_get_25 hq X    _ hf) (trivial)
    · replace hf := jf_i h2 hf
      refine g_ald_n (pc := 12) (i := 0) X dX0_get_12 rfl rfl ?_
      refine g_getR (pc := 13) (k := 0) X dX0_get_13 cl_X0 hq.1 rfl (by decide) w_69 ?_
      refine g_ild_n (pc := 16) (i := 1) X dX0_get_16 rfl rfl ?_
      obtain ⟨hi1, hf⟩ := jin_i hf
      refine g_bald (pc := 17) X dX0_get_17 hq.2 hi1 ?_
      refine g_sipush (pc := 18) (v := (255 : Int32)) X dX0_get_18 (by decide) ?_
      refine g_iand (pc := 21) X dX0_get_21 ?_
      refine g_goto (pc := 22) 26 X dX0_get_22 (by decide) ?_
      exact g_iret (pc := 26) X dX0_get_26 hf
/-! J7_fill_031fb -/
abbrev D_J7_fill_031fb : Nat := 0
noncomputable def f_J7_fill_031fb_5 (a0 : Nat) (n0 : Nat)  : Nat → Int32 → Int32 → Int32 → jM → Option (Unit × jM)
  | 0, _, _, _, _ => none
  | fu + 1, x1, x2, x3, μ => if x3 ≤ x2 then (some ((), μ)) else (jin x2 n0 (jlet (jsI μ a0 (x2).toNatClampNeg ((x1).toInt8.toInt32)) (fun μ1 : jM => jlet (x2 + (1 : Int32)) (fun z2 : Int32 => f_J7_fill_031fb_5 a0 n0  fu x1 z2 x3 μ1))))
noncomputable def f_J7_fill_031fb (a0 : Nat) (n0 : Nat) (x1 : Int32) (μ : jM) : Option (Unit × jM) := jlet (Int32.ofNat n0) (fun z4 : Int32 => f_J7_fill_031fb_5 a0 n0  jFU x1 (0 : Int32) z4 μ)
set_option maxHeartbeats 4000000 in
theorem t_J7_fill_031fb_5 {Γ : jC} {Δ : jD} {r : Unit} {μ9 : jM} {a0 : Nat} {n0 : Nat}  (ha0 : shC[a0]? = some (.inr (1, n0))) (X : jOk Γ Δ shC cJ7_fill_031fb 4 RJ7 none D_J7_fill_031fb)  : ∀ (fu : Nat) (x1 : Int32) (x2 : Int32) (x3 : Int32) (μ : jM), f_J7_fill_031fb_5 a0 n0  fu x1 x2 x3 μ = some (r, μ9) → jG Γ Δ shC (none, μ9) 5 [some (jr Δ a0), some (.int x1), some (.int x2), some (.int x3)] [] μ := by
  intro fu
  induction fu with
  | zero =>
    intro x1 x2 x3 μ hf
    cases hf
  | succ fu ih =>
    intro x1 x2 x3 μ hf
    replace hf := (f_J7_fill_031fb_5.eq_2 _ _ _ _ _ _ _).symm.trans hf
    refine g_ild_n (pc := 5) (i := 2) X dJ7_fill_031fb_5 rfl rfl ?_
    refine g_ild_n (pc := 6) (i := 3) X dJ7_fill_031fb_6 rfl rfl ?_
    refine g_icmp_ge (pc := 7) 20 X dJ7_fill_031fb_7 (by decide) (fun h3 => ?_) (fun h3 => ?_)
    · replace hf := jt_i h3 hf
      exact g_vret (pc := 20) X dJ7_fill_031fb_20 hf
    · replace hf := jf_i h3 hf
      refine g_ald_n (pc := 10) (i := 0) X dJ7_fill_031fb_10 rfl rfl ?_
      refine g_ild_n (pc := 11) (i := 2) X dJ7_fill_031fb_11 rfl rfl ?_
      refine g_ild_n (pc := 12) (i := 1) X dJ7_fill_031fb_12 rfl rfl ?_
      obtain ⟨hi1, hf⟩ := jin_i hf
      refine g_bast (pc := 13) X dJ7_fill_031fb_13 ha0 hi1 ?_
      refine g_nmM (fun μ1 eμ1 => ?_)
      replace hf := jlet_i eμ1 hf
      obtain ⟨z2, ez2⟩ : ∃ z : Int32, z = x2 + (1 : Int32) := ⟨_, rfl⟩
      replace hf := jlet_i ez2 hf
      refine g_iinc (pc := 14) (L1 := [some (jr Δ a0), some (.int x1), some (.int z2), some (.int x3)]) X dJ7_fill_031fb_14 rfl (by rw [ez2]; rfl) rfl rfl ?_
      refine g_goto (pc := 17) 5 X dJ7_fill_031fb_17 (by decide) ?_
      exact g_weak (ih _ _ _ _ hf) (⟨rfl, ⟨rfl, ⟨rfl, ⟨rfl, trivial⟩⟩⟩⟩)
set_option maxHeartbeats 4000000 in
theorem M_J7_fill_031fb {l : Launch} {Δ : jD} {r : Unit} {μ μ9 : jM} {a0 : Nat} {n0 : Nat} {x1 : Int32} (ha0 : shC[a0]? = some (.inr (1, n0))) (hsep : jSep Δ shC) (hf : f_J7_fill_031fb a0 n0 x1 μ = some (r, μ9)) : jMet l yJ7_fill_031fb cJ7_fill_031fb 4 none D_J7_fill_031fb Δ shC [jr Δ a0, .int x1] μ (none, μ9) := by
  refine jMet_of (own := RJ7) (L := [some (jr Δ a0), some (.int x1), none, none]) (by decide) rfl (Nat.le_of_ble_eq_true rfl) rfl hsep (fun Γ _ X => ?_)
  unfold f_J7_fill_031fb at hf
  refine g_iconst (pc := 0) (v := (0 : Int32)) X dJ7_fill_031fb_0 (by decide) ?_
  refine g_ist_n (pc := 1) (i := 2) (L1 := [some (jr Δ a0), some (.int x1), some (.int (0 : Int32)), none]) X dJ7_fill_031fb_1 rfl (Nat.le_of_ble_eq_true rfl) rfl rfl ?_
  refine g_ald_n (pc := 2) (i := 0) X dJ7_fill_031fb_2 rfl rfl ?_
  refine g_alen (pc := 3) X dJ7_fill_031fb_3 ha0 (by decide) ?_
  refine g_nmI (fun z4 ez4 => ?_)
  replace hf := jlet_i ez4 hf
  refine g_ist_n (pc := 4) (i := 3) (L1 := [some (jr Δ a0), some (.int x1), some (.int (0 : Int32)), some (.int z4)]) X dJ7_fill_031fb_4 rfl (Nat.le_of_ble_eq_true rfl) rfl rfl ?_
  exact g_weak (t_J7_fill_031fb_5 ha0 X  jFU _ _ _ _ hf) (⟨rfl, ⟨rfl, ⟨rfl, ⟨rfl, trivial⟩⟩⟩⟩)
/-! X0_blank -/
abbrev D_X0_blank : Nat := 1
noncomputable def f_X0_blank (q : Nat) (n : Nat) (μ : jM) : Option (Unit × jM) := jcall (f_J7_fill_031fb (q + 1) n (0 : Int32) μ) (fun (r1 : Unit) (μ1 : jM) => jlet (jsI μ1 q 1 (0 : Int32)) (fun μ2 : jM => some ((), μ2)))
set_option maxHeartbeats 4000000 in
theorem M_X0_blank {l : Launch} {Δ : jD} {r : Unit} {μ μ9 : jM} {q : Nat} {n : Nat} (hq : jOct q n) (hsep : jSep Δ shC) (hf : f_X0_blank q n μ = some (r, μ9)) : jMet l yX0_blank cX0_blank 1 none D_X0_blank Δ shC [jr Δ q] μ (none, μ9) := by
  refine jMet_of (own := RX0) (L := [some (jr Δ q)]) (by decide) rfl (Nat.le_of_ble_eq_true rfl) rfl hsep (fun Γ _ X => ?_)
  unfold f_X0_blank at hf
  refine g_ald_n (pc := 0) (i := 0) X dX0_blank_0 rfl rfl ?_
  refine g_getR (pc := 1) (k := 0) X dX0_blank_1 cl_X0 hq.1 rfl (by decide) w_69 ?_
  refine g_iconst (pc := 4) (v := (0 : Int32)) X dX0_blank_4 (by decide) ?_
  obtain ⟨r1, μ1, hc1, hf⟩ := jcall_i hf
  refine g_callSv (pc := 5) [jr Δ (q + 1), .int (0 : Int32)] X dX0_blank_5 (M_J7_fill_031fb hq.2 (jOk_sep X) hc1) Y_J7_fill_031fb w_422 w_423 (by decide) rfl rfl (Nat.le_of_ble_eq_true rfl) rfl ?_
  refine g_ald_n (pc := 8) (i := 0) X dX0_blank_8 rfl rfl ?_
  refine g_iconst (pc := 9) (v := (0 : Int32)) X dX0_blank_9 (by decide) ?_
  refine g_putI (pc := 10) (k := 1) X dX0_blank_10 cl_X0 hq.1 rfl (by decide) w_71 rfl rfl rfl ?_
  refine g_nmM (fun μ2 eμ2 => ?_)
  replace hf := jlet_i eμ2 hf
  exact g_vret (pc := 13) X dX0_blank_13 hf
/-! X0_become -/
abbrev D_X0_become : Nat := 1
noncomputable def f_X0_become (q : Nat) (n : Nat) (q1 : Nat) (n1 : Nat) (μ : jM) : Option (Unit × jM) := jlet (jsI μ q 1 (if (Int32.ofNat n) < (μ.1 q1 1) then (Int32.ofNat n) else (μ.1 q1 1))) (fun μ1 : jM => jck (jcpOk μ1 (q1 + 1) n1 n (0 : Int32) (0 : Int32) (μ1.1 q 1)) (jlet (jcp μ1 (q1 + 1) ((0 : Int32)).toNatClampNeg (q + 1) ((0 : Int32)).toNatClampNeg ((μ1.1 q 1)).toNatClampNeg) (fun μ2 : jM => some ((), μ2))))
set_option maxHeartbeats 4000000 in
theorem M_X0_become {l : Launch} {Δ : jD} {r : Unit} {μ μ9 : jM} {q : Nat} {n : Nat} {q1 : Nat} {n1 : Nat} (hq : jOct q n) (hq1 : jOct q1 n1) (hsep : jSep Δ shC) (hf : f_X0_become q n q1 n1 μ = some (r, μ9)) : jMet l yX0_become cX0_become 2 none D_X0_become Δ shC [jr Δ q, jr Δ q1] μ (none, μ9) := by
  refine jMet_of (own := RX0) (L := [some (jr Δ q), some (jr Δ q1)]) (by decide) rfl (Nat.le_of_ble_eq_true rfl) rfl hsep (fun Γ _ X => ?_)
  unfold f_X0_become at hf
  refine g_ald_n (pc := 0) (i := 0) X dX0_become_0 rfl rfl ?_
  refine g_ald_n (pc := 1) (i := 1) X dX0_become_1 rfl rfl ?_
  refine g_getI (pc := 2) (k := 1) X dX0_become_2 cl_X0 hq1.1 rfl (by decide) w_71 ?_
  refine g_ald_n (pc := 5) (i := 0) X dX0_become_5 rfl rfl ?_
  refine g_getR (pc := 6) (k := 0) X dX0_become_6 cl_X0 hq.1 rfl (by decide) w_69 ?_
  refine g_alen (pc := 9) X dX0_become_9 hq.2 (by decide) ?_
  refine g_min (pc := 10) X dX0_become_10 w_402 w_302 w_8 w_303 (by decide) rfl (Nat.le_of_ble_eq_true rfl) ?_
  refine g_putI (pc := 13) (k := 1) X dX0_become_13 cl_X0 hq.1 rfl (by decide) w_71 rfl rfl rfl ?_
  refine g_nmM (fun μ1 eμ1 => ?_)
  replace hf := jlet_i eμ1 hf
  refine g_ald_n (pc := 16) (i := 1) X dX0_become_16 rfl rfl ?_
  refine g_getR (pc := 17) (k := 0) X dX0_become_17 cl_X0 hq1.1 rfl (by decide) w_69 ?_
  refine g_iconst (pc := 20) (v := (0 : Int32)) X dX0_become_20 (by decide) ?_
  refine g_ald_n (pc := 21) (i := 0) X dX0_become_21 rfl rfl ?_
  refine g_getR (pc := 22) (k := 0) X dX0_become_22 cl_X0 hq.1 rfl (by decide) w_69 ?_
  refine g_iconst (pc := 25) (v := (0 : Int32)) X dX0_become_25 (by decide) ?_
  refine g_ald_n (pc := 26) (i := 0) X dX0_become_26 rfl rfl ?_
  refine g_getI (pc := 27) (k := 1) X dX0_become_27 cl_X0 hq.1 rfl (by decide) w_71 ?_
  obtain ⟨hk2, hf⟩ := jck_i hf
  refine g_copy (pc := 30) X dX0_become_30 w_403 w_405 w_404 w_9 (by decide) rfl (Nat.le_of_ble_eq_true rfl) hq1.2 hq.2 hk2 ?_
  refine g_nmM (fun μ2 eμ2 => ?_)
  replace hf := jlet_i eμ2 hf
  exact g_vret (pc := 33) X dX0_become_33 hf
end
