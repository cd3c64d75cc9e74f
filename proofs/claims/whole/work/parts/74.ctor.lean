theorem w_21 : ((Jvm.Cond.code ({ cls := "RunForms", name := "<init>", desc := "(I)V" } : Jvm.MethodName) prog_1_method_1_code (2 : Nat) (Option.none : Option Jvm.ClassFile.FieldType))) ∈ jT := jT_in 21 (by decide +kernel) rfl
theorem w_22 : ((Jvm.Cond.methodLink "RunForms" (1 : Nat) ({ cls := "java/lang/Object", name := "<init>", desc := "()V" } : Jvm.MethodName))) ∈ jT := jT_in 22 (by decide +kernel) rfl
theorem w_23 : ((Jvm.Cond.instanceMethod ({ cls := "java/lang/Object", name := "<init>", desc := "()V" } : Jvm.MethodName))) ∈ jT := jT_in 23 (by decide +kernel) rfl
theorem w_24 : ((Jvm.Cond.code ({ cls := "java/lang/Object", name := "<init>", desc := "()V" } : Jvm.MethodName) object_method_1_code (1 : Nat) (Option.none : Option Jvm.ClassFile.FieldType))) ∈ jT := jT_in 24 (by decide +kernel) rfl
theorem w_25 : ((Jvm.Cond.classLink "RunForms" (7 : Nat) "RunForms$Rules")) ∈ jT := jT_in 25 (by decide +kernel) rfl
theorem w_26 : ((Jvm.Cond.instantiable "RunForms$Rules" (5 : Nat))) ∈ jT := jT_in 26 (by decide +kernel) rfl
theorem w_27 : ((Jvm.Cond.methodLink "RunForms" (11 : Nat) ({ cls := "RunForms$Rules", name := "<init>", desc := "(I)V" } : Jvm.MethodName))) ∈ jT := jT_in 27 (by decide +kernel) rfl
theorem w_28 : ((Jvm.Cond.instanceMethod ({ cls := "RunForms$Rules", name := "<init>", desc := "(I)V" } : Jvm.MethodName))) ∈ jT := jT_in 28 (by decide +kernel) rfl
theorem w_29 : ((Jvm.Cond.code ({ cls := "RunForms$Rules", name := "<init>", desc := "(I)V" } : Jvm.MethodName) prog_6_method_1_code (2 : Nat) (Option.none : Option Jvm.ClassFile.FieldType))) ∈ jT := jT_in 29 (by decide +kernel) rfl
theorem w_30 : ((Jvm.Cond.methodLink "RunForms$Rules" (3 : Nat) ({ cls := "java/lang/Object", name := "<init>", desc := "()V" } : Jvm.MethodName))) ∈ jT := jT_in 30 (by decide +kernel) rfl
theorem w_63 : ((Jvm.Cond.classLink "RunForms" (18 : Nat) "RunForms$Octets")) ∈ jT := jT_in 63 (by decide +kernel) rfl
theorem w_64 : ((Jvm.Cond.instantiable "RunForms$Octets" (2 : Nat))) ∈ jT := jT_in 64 (by decide +kernel) rfl
theorem w_65 : ((Jvm.Cond.methodLink "RunForms" (20 : Nat) ({ cls := "RunForms$Octets", name := "<init>", desc := "(I)V" } : Jvm.MethodName))) ∈ jT := jT_in 65 (by decide +kernel) rfl
theorem w_66 : ((Jvm.Cond.instanceMethod ({ cls := "RunForms$Octets", name := "<init>", desc := "(I)V" } : Jvm.MethodName))) ∈ jT := jT_in 66 (by decide +kernel) rfl
theorem w_67 : ((Jvm.Cond.code ({ cls := "RunForms$Octets", name := "<init>", desc := "(I)V" } : Jvm.MethodName) prog_2_method_1_code (2 : Nat) (Option.none : Option Jvm.ClassFile.FieldType))) ∈ jT := jT_in 67 (by decide +kernel) rfl
theorem w_68 : ((Jvm.Cond.methodLink "RunForms$Octets" (3 : Nat) ({ cls := "java/lang/Object", name := "<init>", desc := "()V" } : Jvm.MethodName))) ∈ jT := jT_in 68 (by decide +kernel) rfl
theorem w_81 : ((Jvm.Cond.arrayClass Jvm.ClassFile.FieldType.byte)) ∈ jT := jT_in 81 (by decide +kernel) rfl
theorem w_82 : ((Jvm.Cond.classLink "RunForms" (28 : Nat) "RunForms$Packer")) ∈ jT := jT_in 82 (by decide +kernel) rfl
theorem w_83 : ((Jvm.Cond.instantiable "RunForms$Packer" (10 : Nat))) ∈ jT := jT_in 83 (by decide +kernel) rfl
theorem w_84 : ((Jvm.Cond.methodLink "RunForms" (30 : Nat) ({ cls := "RunForms$Packer", name := "<init>", desc := "(LRunForms$Rules;)V" } : Jvm.MethodName))) ∈ jT := jT_in 84 (by decide +kernel) rfl
theorem w_85 : ((Jvm.Cond.instanceMethod ({ cls := "RunForms$Packer", name := "<init>", desc := "(LRunForms$Rules;)V" } : Jvm.MethodName))) ∈ jT := jT_in 85 (by decide +kernel) rfl
theorem w_86 : ((Jvm.Cond.code ({ cls := "RunForms$Packer", name := "<init>", desc := "(LRunForms$Rules;)V" } : Jvm.MethodName) prog_4_method_1_code (2 : Nat) (Option.none : Option Jvm.ClassFile.FieldType))) ∈ jT := jT_in 86 (by decide +kernel) rfl
theorem w_87 : ((Jvm.Cond.methodLink "RunForms$Packer" (3 : Nat) ({ cls := "java/lang/Object", name := "<init>", desc := "()V" } : Jvm.MethodName))) ∈ jT := jT_in 87 (by decide +kernel) rfl
theorem w_88 : ((Jvm.Cond.classLink "RunForms$Packer" (9 : Nat) "RunForms$Octets")) ∈ jT := jT_in 88 (by decide +kernel) rfl
theorem w_89 : ((Jvm.Cond.methodLink "RunForms$Packer" (11 : Nat) ({ cls := "RunForms$Octets", name := "<init>", desc := "(I)V" } : Jvm.MethodName))) ∈ jT := jT_in 89 (by decide +kernel) rfl
theorem w_122 : ((Jvm.Cond.arrayClass Jvm.ClassFile.FieldType.int)) ∈ jT := jT_in 122 (by decide +kernel) rfl
theorem w_123 : ((Jvm.Cond.classLink "RunForms" (37 : Nat) "RunForms$Opener")) ∈ jT := jT_in 123 (by decide +kernel) rfl
theorem w_124 : ((Jvm.Cond.instantiable "RunForms$Opener" (9 : Nat))) ∈ jT := jT_in 124 (by decide +kernel) rfl
theorem w_125 : ((Jvm.Cond.methodLink "RunForms" (39 : Nat) ({ cls := "RunForms$Opener", name := "<init>", desc := "(LRunForms$Rules;LRunForms$Octets;)V" } : Jvm.MethodName))) ∈ jT := jT_in 125 (by decide +kernel) rfl
theorem w_126 : ((Jvm.Cond.instanceMethod ({ cls := "RunForms$Opener", name := "<init>", desc := "(LRunForms$Rules;LRunForms$Octets;)V" } : Jvm.MethodName))) ∈ jT := jT_in 126 (by decide +kernel) rfl
theorem w_127 : ((Jvm.Cond.code ({ cls := "RunForms$Opener", name := "<init>", desc := "(LRunForms$Rules;LRunForms$Octets;)V" } : Jvm.MethodName) prog_3_method_1_code (3 : Nat) (Option.none : Option Jvm.ClassFile.FieldType))) ∈ jT := jT_in 127 (by decide +kernel) rfl
theorem w_128 : ((Jvm.Cond.methodLink "RunForms$Opener" (3 : Nat) ({ cls := "java/lang/Object", name := "<init>", desc := "()V" } : Jvm.MethodName))) ∈ jT := jT_in 128 (by decide +kernel) rfl
theorem w_129 : ((Jvm.Cond.classLink "RunForms$Opener" (9 : Nat) "RunForms$Octets")) ∈ jT := jT_in 129 (by decide +kernel) rfl
theorem w_130 : ((Jvm.Cond.methodLink "RunForms$Opener" (11 : Nat) ({ cls := "RunForms$Octets", name := "<init>", desc := "(I)V" } : Jvm.MethodName))) ∈ jT := jT_in 130 (by decide +kernel) rfl
theorem w_162 : ((Jvm.Cond.classLink "RunForms" (46 : Nat) "RunForms$Plain")) ∈ jT := jT_in 162 (by decide +kernel) rfl
theorem w_163 : ((Jvm.Cond.instantiable "RunForms$Plain" (9 : Nat))) ∈ jT := jT_in 163 (by decide +kernel) rfl
theorem w_164 : ((Jvm.Cond.methodLink "RunForms" (48 : Nat) ({ cls := "RunForms$Plain", name := "<init>", desc := "(LRunForms$Rules;LRunForms$Octets;)V" } : Jvm.MethodName))) ∈ jT := jT_in 164 (by decide +kernel) rfl
theorem w_165 : ((Jvm.Cond.instanceMethod ({ cls := "RunForms$Plain", name := "<init>", desc := "(LRunForms$Rules;LRunForms$Octets;)V" } : Jvm.MethodName))) ∈ jT := jT_in 165 (by decide +kernel) rfl
theorem w_166 : ((Jvm.Cond.code ({ cls := "RunForms$Plain", name := "<init>", desc := "(LRunForms$Rules;LRunForms$Octets;)V" } : Jvm.MethodName) prog_5_method_1_code (3 : Nat) (Option.none : Option Jvm.ClassFile.FieldType))) ∈ jT := jT_in 166 (by decide +kernel) rfl
theorem w_167 : ((Jvm.Cond.methodLink "RunForms$Plain" (3 : Nat) ({ cls := "java/lang/Object", name := "<init>", desc := "()V" } : Jvm.MethodName))) ∈ jT := jT_in 167 (by decide +kernel) rfl
theorem w_656 : ((Jvm.Cond.code ({ cls := "RunFormsModel", name := "<init>", desc := "(I)V" } : Jvm.MethodName) prog_8_method_1_code (2 : Nat) (Option.none : Option Jvm.ClassFile.FieldType))) ∈ jT := jT_in 656 (by decide +kernel) rfl
theorem w_657 : ((Jvm.Cond.methodLink "RunFormsModel" (1 : Nat) ({ cls := "java/lang/Object", name := "<init>", desc := "()V" } : Jvm.MethodName))) ∈ jT := jT_in 657 (by decide +kernel) rfl
theorem w_737 : ((Jvm.Cond.arrayClass Jvm.ClassFile.FieldType.long)) ∈ jT := jT_in 737 (by decide +kernel) rfl
theorem Y_X0_init : jY yX0_init cX0_init 2 none 1 := ⟨w_67, w_3, by decide, by decide, by decide +kernel, by decide⟩
theorem Y_X1_init : jY yX1_init cX1_init 3 none 2 := ⟨w_127, w_5, by decide, by decide, by decide +kernel, by decide⟩
theorem Y_X2_init : jY yX2_init cX2_init 2 none 1 := ⟨w_86, w_4, by decide, by decide, by decide +kernel, by decide⟩
theorem Y_X3_init : jY yX3_init cX3_init 3 none 2 := ⟨w_166, w_6, by decide, by decide, by decide +kernel, by decide⟩
theorem Y_X4_init : jY yX4_init cX4_init 2 none 1 := ⟨w_29, w_2, by decide, by decide, by decide +kernel, by decide⟩
theorem Y_X5_init : jY yX5_init cX5_init 2 none 1 := ⟨w_21, w_1, by decide, by decide, by decide +kernel, by decide⟩
theorem Y_X6_init : jY yX6_init cX6_init 2 none 1 := ⟨w_656, w_7, by decide, by decide, by decide +kernel, by decide⟩
def jf (x : Int32) : Int32 := if x < 0 ∨ 2 < x then 0 else x
def muX5 (x : Int32) : jM := (fun c k => if c = 1 then (if k = 0 then jf x else if k = 1 then 1 else if k = 2 then 8 else 0) else 0, fun _ _ => 0)
def muX6 (x : Int32) : jM := (fun c k => if c = 0 then (if k = 0 then jf x else if k = 1 then 1 else if k = 2 then 8 else 0) else 0, fun _ _ => 0)
theorem f_in0 (x : Int32) (μ : jM) : f_X6_in x 0 2 μ = some (if x < 0 ∨ 2 < x then 0 else 1, μ) := by
  by_cases z : x < 0 ∨ 2 < x
  · rw [if_pos z, s_inF z]; rfl
  · rw [if_neg z, s_inT (fun y => z (Or.inl y)) (fun y => z (Or.inr y))]; rfl
set_option maxHeartbeats 4000000 in
theorem t_in0_14 {Γ : jC} {Δ : jD} {r : Int32} {μ9 : jM}    (X : jOk Γ Δ [] cX6_in 3 RX6 (some .boolean) D_X6_in)  : ∀ (μ : jM), f_X6_in_14    μ = some (r, μ9) → jG Γ Δ [] (some (.int r), μ9) 14 [none, none, none] [] μ := by
  intro  μ hf
  unfold f_X6_in_14 at hf
  refine g_iconst (pc := 14) (v := (0 : Int32)) X dX6_in_14 (by decide) ?_
  obtain ⟨hb1, hf⟩ := jbl_i hf
  exact g_zret (pc := 15) X dX6_in_15 hb1 hf
set_option maxHeartbeats 4000000 in
theorem M_in0 {l : Launch} {Δ : jD} {r : Int32} {μ μ9 : jM} {x0 : Int32} {x1 : Int32} {x2 : Int32}  (hsep : jSep Δ []) (hf : f_X6_in x0 x1 x2 μ = some (r, μ9)) : jMet l yX6_in cX6_in 3 (some .boolean) D_X6_in Δ [] [.int x0, .int x1, .int x2] μ (some (.int r), μ9) := by
  refine jMet_of (own := RX6) (L := [some (.int x0), some (.int x1), some (.int x2)]) (by decide) rfl (Nat.le_of_ble_eq_true rfl) rfl hsep (fun Γ _ X => ?_)
  unfold f_X6_in at hf
  refine g_ild_n (pc := 0) (i := 0) X dX6_in_0 rfl rfl ?_
  refine g_ild_n (pc := 1) (i := 1) X dX6_in_1 rfl rfl ?_
  refine g_icmp_lt (pc := 2) 14 X dX6_in_2 (by decide) (fun h4 => ?_) (fun h4 => ?_)
  · replace hf := jt_i h4 hf
    exact g_weak (t_in0_14  X    _ hf) (trivial)
  · replace hf := jf_i h4 hf
    refine g_ild_n (pc := 5) (i := 0) X dX6_in_5 rfl rfl ?_
    refine g_ild_n (pc := 6) (i := 2) X dX6_in_6 rfl rfl ?_
    refine g_icmp_gt (pc := 7) 14 X dX6_in_7 (by decide) (fun h3 => ?_) (fun h3 => ?_)
    · replace hf := jt_i h3 hf
      exact g_weak (t_in0_14  X    _ hf) (trivial)
    · replace hf := jf_i h3 hf
      refine g_iconst (pc := 10) (v := (1 : Int32)) X dX6_in_10 (by decide) ?_
      refine g_goto (pc := 11) 15 X dX6_in_11 (by decide) ?_
      obtain ⟨hb2, hf⟩ := jbl_i hf
      exact g_zret (pc := 15) X dX6_in_15 hb2 hf
set_option maxHeartbeats 4000000 in
set_option maxRecDepth 100000 in
theorem N_X4 {l : Launch} {G : va_G} {cy : Nat → ClassId} (h0 : Nat) (x : Int32)  : nMet l yX4_init cX4_init 2 1 0 0 G cy [.ref h0, .int x] [(h0, .inr (6, [.int 0, .int 0, .int 0, .int 0, .int 0]))] (fun qs => [(h0, .inr (6, [.int x, .int 1, .int 8, .int 0, .int 0]))]) := by
  refine nMet_of (own := RX4) (by decide) rfl rfl (Nat.le_of_ble_eq_true rfl) (fun Γ A hl hRm hnm hret hlk X => ?_)
  subst hl
  refine n_ald 0 X dX4_init_0 rfl ?_
  refine n_obj X dX4_init_1 w_30 w_23 w_24 (by rw [hRm]; exact Nat.le_of_ble_eq_true rfl) (by rw [hRm]; exact Nat.le_of_ble_eq_true rfl) ?_
  refine n_ald 0 X dX4_init_4 rfl ?_
  refine n_ic (v := 1) X dX4_init_5 (by decide) ?_
  refine n_put (q := 0) (f := 1) (ws1 := [(h0, .inr (6, [.int 0, .int 1, .int 0, .int 0, .int 0]))]) X dX4_init_6 cl_X4 rfl (Nat.le_of_ble_eq_true rfl) (by decide) w_36 rfl rfl rfl rfl ?_
  refine n_ald 0 X dX4_init_9 rfl ?_
  refine n_bi (v := 8) X dX4_init_10 (by decide) ?_
  refine n_put (q := 0) (f := 2) (ws1 := [(h0, .inr (6, [.int 0, .int 1, .int 8, .int 0, .int 0]))]) X dX4_init_12 cl_X4 rfl (Nat.le_of_ble_eq_true rfl) (by decide) w_40 rfl rfl rfl rfl ?_
  refine n_ald 0 X dX4_init_15 rfl ?_
  refine n_ic (v := 0) X dX4_init_16 (by decide) ?_
  refine n_put (q := 0) (f := 3) (ws1 := [(h0, .inr (6, [.int 0, .int 1, .int 8, .int 0, .int 0]))]) X dX4_init_17 cl_X4 rfl (Nat.le_of_ble_eq_true rfl) (by decide) w_45 rfl rfl rfl rfl ?_
  refine n_ald 0 X dX4_init_20 rfl ?_
  refine n_ic (v := 0) X dX4_init_21 (by decide) ?_
  refine n_put (q := 0) (f := 4) (ws1 := [(h0, .inr (6, [.int 0, .int 1, .int 8, .int 0, .int 0]))]) X dX4_init_22 cl_X4 rfl (Nat.le_of_ble_eq_true rfl) (by decide) w_49 rfl rfl rfl rfl ?_
  refine n_ald 0 X dX4_init_25 rfl ?_
  refine n_ild 1 X dX4_init_26 rfl ?_
  refine n_putF (q := 0) (f := 0) (ws1 := [(h0, .inr (6, [.int x, .int 1, .int 8, .int 0, .int 0]))]) X hnm dX4_init_27 cl_X4 rfl (Nat.le_of_ble_eq_true rfl) (by decide) w_31 rfl rfl rfl rfl rfl ?_
  exact n_vret (fun _ => 0) X hret hlk dX4_init_30 [0] (by decide) rfl rfl (Nat.le_of_ble_eq_true rfl) (Nat.le_of_ble_eq_true rfl)
set_option maxHeartbeats 4000000 in
set_option maxRecDepth 100000 in
theorem N_X0 {l : Launch} {G : va_G} {cy : Nat → ClassId} (h0 : Nat) (x : Int32) (N : Nat) (hx0 : ¬ x < 0) (hxN : x.toNatClampNeg = N) (hN : N ≤ 1000) : nMet l yX0_init cX0_init 2 1 1 N G cy [.ref h0, .int x] [(h0, .inr (2, [.null, .int 0]))] (fun qs => [(h0, .inr (2, [.ref (qs 0), .int 0])), ((qs 0), .inl (cy 1, N, .inl (fun _ => 0)))]) := by
  refine nMet_of (own := RX0) (by decide) rfl rfl (Nat.le_of_ble_eq_true rfl) (fun Γ A hl hRm hnm hret hlk X => ?_)
  subst hl
  refine n_ald 0 X dX0_init_0 rfl ?_
  refine n_obj X dX0_init_1 w_68 w_23 w_24 (by rw [hRm]; exact Nat.le_of_ble_eq_true rfl) (by rw [hRm]; exact Nat.le_of_ble_eq_true rfl) ?_
  refine n_ald 0 X dX0_init_4 rfl ?_
  refine n_ic (v := 0) X dX0_init_5 (by decide) ?_
  refine n_put (q := 0) (f := 1) (ws1 := [(h0, .inr (2, [.null, .int 0]))]) X dX0_init_6 cl_X0 rfl (Nat.le_of_ble_eq_true rfl) (by decide) w_71 rfl rfl rfl rfl ?_
  refine n_ald 0 X dX0_init_9 rfl ?_
  refine n_ild 1 X dX0_init_10 rfl ?_
  refine n_newa (t := 1) (ty := .byte) (N := N) (a0 := (N, .inl (fun _ => 0))) X dX0_init_11 rfl rfl (by decide) w_81 (fun _ => rfl) hx0 hxN (by show N * 1 ≤ 536870912; omega) (by rw [hRm]; exact Nat.le_of_ble_eq_true rfl) (by rw [hRm]; show 0 + N ≤ N; omega) (fun q1 => ?_)
  refine n_putF (q := 0) (f := 0) (ws1 := [(h0, .inr (2, [.ref q1, .int 0])), (q1, .inl (cy 1, N, .inl (fun _ => 0)))]) X hnm dX0_init_13 cl_X0 rfl (Nat.le_of_ble_eq_true rfl) (by decide) w_69 rfl rfl rfl rfl rfl ?_
  exact n_vret (fun i => match i with | 0 => q1 | _ => 0) X hret hlk dX0_init_16 [0, 1] (by decide) rfl rfl (Nat.le_of_ble_eq_true rfl) (by omega)
set_option maxHeartbeats 4000000 in
set_option maxRecDepth 100000 in
theorem N_X1 {l : Launch} {G : va_G} {cy : Nat → ClassId} (h0 : Nat) (b1 b2 : Nat)  : nMet l yX1_init cX1_init 3 2 2 242 G cy [.ref h0, .ref b1, .ref b2] [(h0, .inr (3, [.null, .null, .null, .int 0, .int 0, .int 0, .int 0, .int 0, .int 0]))] (fun qs => [(h0, .inr (3, [.ref b1, .ref b2, .ref (qs 0), .int 0, .int 0, .int 0, .int 0, .int 0, .int 0])), ((qs 0), .inr (2, [.ref (qs 1), .int 0])), ((qs 1), .inl (cy 1, 240, .inl (fun _ => 0)))]) := by
  refine nMet_of (own := RX1) (by decide) rfl rfl (Nat.le_of_ble_eq_true rfl) (fun Γ A hl hRm hnm hret hlk X => ?_)
  subst hl
  refine n_ald 0 X dX1_init_0 rfl ?_
  refine n_obj X dX1_init_1 w_128 w_23 w_24 (by rw [hRm]; exact Nat.le_of_ble_eq_true rfl) (by rw [hRm]; exact Nat.le_of_ble_eq_true rfl) ?_
  refine n_ald 0 X dX1_init_4 rfl ?_
  refine n_new (fs := [.null, .int 0]) X dX1_init_5 cl_X0 w_129 w_64 w_3 (by decide) (by rw [hRm]; exact Nat.le_of_ble_eq_true rfl) (by rw [hRm]; exact Nat.le_of_ble_eq_true rfl) (fun q1 => ?_)
  refine n_dup X dX1_init_8 ?_
  refine n_si (v := 240) X dX1_init_9 (by decide) ?_
  refine n_ctor (q := 1) [.int 240] [0] X dX1_init_12 (N_X0 q1 240 240 (by decide) (by decide) (by decide)) Y_X0_init w_130 w_66 rfl rfl rfl (wr := [(h0, .inr (3, [.null, .null, .null, .int 0, .int 0, .int 0, .int 0, .int 0, .int 0]))]) rfl (by decide) (by decide) (Nat.le_of_ble_eq_true rfl) rfl (by rw [hRm]; exact Nat.le_of_ble_eq_true rfl) (by rw [hRm]; exact Nat.le_of_ble_eq_true rfl) (by rw [hRm]; exact Nat.le_of_ble_eq_true rfl) (by rw [hRm]; exact Nat.le_of_ble_eq_true rfl) (fun q2 => ?_)
  refine n_putF (q := 0) (f := 2) (ws1 := [(h0, .inr (3, [.null, .null, .ref q1, .int 0, .int 0, .int 0, .int 0, .int 0, .int 0])), (q1, .inr (2, [.ref (q2 0), .int 0])), ((q2 0), .inl (cy 1, 240, .inl (fun _ => 0)))]) X hnm dX1_init_15 cl_X1 rfl (Nat.le_of_ble_eq_true rfl) (by decide) w_133 rfl rfl rfl rfl rfl ?_
  refine n_ald 0 X dX1_init_18 rfl ?_
  refine n_ic (v := 0) X dX1_init_19 (by decide) ?_
  refine n_put (q := 0) (f := 3) (ws1 := [(h0, .inr (3, [.null, .null, .ref q1, .int 0, .int 0, .int 0, .int 0, .int 0, .int 0])), (q1, .inr (2, [.ref (q2 0), .int 0])), ((q2 0), .inl (cy 1, 240, .inl (fun _ => 0)))]) X dX1_init_20 cl_X1 rfl (Nat.le_of_ble_eq_true rfl) (by decide) w_135 rfl rfl rfl rfl ?_
  refine n_ald 0 X dX1_init_23 rfl ?_
  refine n_ald 1 X dX1_init_24 rfl ?_
  refine n_putF (q := 0) (f := 0) (ws1 := [(h0, .inr (3, [.ref b1, .null, .ref q1, .int 0, .int 0, .int 0, .int 0, .int 0, .int 0])), (q1, .inr (2, [.ref (q2 0), .int 0])), ((q2 0), .inl (cy 1, 240, .inl (fun _ => 0)))]) X hnm dX1_init_25 cl_X1 rfl (Nat.le_of_ble_eq_true rfl) (by decide) w_131 rfl rfl rfl rfl rfl ?_
  refine n_ald 0 X dX1_init_28 rfl ?_
  refine n_ald 2 X dX1_init_29 rfl ?_
  refine n_putF (q := 0) (f := 1) (ws1 := [(h0, .inr (3, [.ref b1, .ref b2, .ref q1, .int 0, .int 0, .int 0, .int 0, .int 0, .int 0])), (q1, .inr (2, [.ref (q2 0), .int 0])), ((q2 0), .inl (cy 1, 240, .inl (fun _ => 0)))]) X hnm dX1_init_30 cl_X1 rfl (Nat.le_of_ble_eq_true rfl) (by decide) w_132 rfl rfl rfl rfl rfl ?_
  exact n_vret (fun i => match i with | 0 => q1 | 1 => q2 0 | _ => 0) X hret hlk dX1_init_33 [0, 1, 2] (by decide) rfl rfl (Nat.le_of_ble_eq_true rfl) (Nat.le_of_ble_eq_true rfl)
set_option maxHeartbeats 4000000 in
set_option maxRecDepth 100000 in
theorem N_X2 {l : Launch} {G : va_G} {cy : Nat → ClassId} (h0 : Nat) (b1 : Nat)  : nMet l yX2_init cX2_init 2 2 7 2203 G cy [.ref h0, .ref b1] [(h0, .inr (4, [.null, .null, .null, .null, .null, .null, .null, .int 0, .int 0, .int 0]))] (fun qs => [(h0, .inr (4, [.ref b1, .ref (qs 0), .ref (qs 2), .ref (qs 3), .ref (qs 4), .ref (qs 5), .ref (qs 6), .int 0, .int 0, .int 0])), ((qs 0), .inr (2, [.ref (qs 1), .int 0])), ((qs 1), .inl (cy 1, 1000, .inl (fun _ => 0))), ((qs 2), .inl (cy 0, 240, .inl (fun _ => 0))), ((qs 3), .inl (cy 0, 240, .inl (fun _ => 0))), ((qs 4), .inl (cy 0, 241, .inl (fun _ => 0))), ((qs 5), .inl (cy 0, 240, .inl (fun _ => 0))), ((qs 6), .inl (cy 0, 240, .inl (fun _ => 0)))]) := by
  refine nMet_of (own := RX2) (by decide) rfl rfl (Nat.le_of_ble_eq_true rfl) (fun Γ A hl hRm hnm hret hlk X => ?_)
  subst hl
  refine n_ald 0 X dX2_init_0 rfl ?_
  refine n_obj X dX2_init_1 w_87 w_23 w_24 (by rw [hRm]; exact Nat.le_of_ble_eq_true rfl) (by rw [hRm]; exact Nat.le_of_ble_eq_true rfl) ?_
  refine n_ald 0 X dX2_init_4 rfl ?_
  refine n_new (fs := [.null, .int 0]) X dX2_init_5 cl_X0 w_88 w_64 w_3 (by decide) (by rw [hRm]; exact Nat.le_of_ble_eq_true rfl) (by rw [hRm]; exact Nat.le_of_ble_eq_true rfl) (fun q1 => ?_)
  refine n_dup X dX2_init_8 ?_
  refine n_si (v := 1000) X dX2_init_9 (by decide) ?_
  refine n_ctor (q := 1) [.int 1000] [0] X dX2_init_12 (N_X0 q1 1000 1000 (by decide) (by decide) (by decide)) Y_X0_init w_89 w_66 rfl rfl rfl (wr := [(h0, .inr (4, [.null, .null, .null, .null, .null, .null, .null, .int 0, .int 0, .int 0]))]) rfl (by decide) (by decide) (Nat.le_of_ble_eq_true rfl) rfl (by rw [hRm]; exact Nat.le_of_ble_eq_true rfl) (by rw [hRm]; exact Nat.le_of_ble_eq_true rfl) (by rw [hRm]; exact Nat.le_of_ble_eq_true rfl) (by rw [hRm]; exact Nat.le_of_ble_eq_true rfl) (fun q2 => ?_)
  refine n_putF (q := 0) (f := 1) (ws1 := [(h0, .inr (4, [.null, .ref q1, .null, .null, .null, .null, .null, .int 0, .int 0, .int 0])), (q1, .inr (2, [.ref (q2 0), .int 0])), ((q2 0), .inl (cy 1, 1000, .inl (fun _ => 0)))]) X hnm dX2_init_15 cl_X2 rfl (Nat.le_of_ble_eq_true rfl) (by decide) w_91 rfl rfl rfl rfl rfl ?_
  refine n_ald 0 X dX2_init_18 rfl ?_
  refine n_si (v := 240) X dX2_init_19 (by decide) ?_
  refine n_newa (t := 0) (ty := .int) (N := 240) (a0 := (240, .inl (fun _ => 0))) X dX2_init_22 rfl rfl (by decide) w_122 (fun _ => rfl) (by decide) (by decide) (by decide) (by rw [hRm]; exact Nat.le_of_ble_eq_true rfl) (by rw [hRm]; exact Nat.le_of_ble_eq_true rfl) (fun q3 => ?_)
  refine n_putF (q := 0) (f := 2) (ws1 := [(h0, .inr (4, [.null, .ref q1, .ref q3, .null, .null, .null, .null, .int 0, .int 0, .int 0])), (q1, .inr (2, [.ref (q2 0), .int 0])), ((q2 0), .inl (cy 1, 1000, .inl (fun _ => 0))), (q3, .inl (cy 0, 240, .inl (fun _ => 0)))]) X hnm dX2_init_24 cl_X2 rfl (Nat.le_of_ble_eq_true rfl) (by decide) w_93 rfl rfl rfl rfl rfl ?_
  refine n_ald 0 X dX2_init_27 rfl ?_
  refine n_si (v := 240) X dX2_init_28 (by decide) ?_
  refine n_newa (t := 0) (ty := .int) (N := 240) (a0 := (240, .inl (fun _ => 0))) X dX2_init_31 rfl rfl (by decide) w_122 (fun _ => rfl) (by decide) (by decide) (by decide) (by rw [hRm]; exact Nat.le_of_ble_eq_true rfl) (by rw [hRm]; exact Nat.le_of_ble_eq_true rfl) (fun q4 => ?_)
  refine n_putF (q := 0) (f := 3) (ws1 := [(h0, .inr (4, [.null, .ref q1, .ref q3, .ref q4, .null, .null, .null, .int 0, .int 0, .int 0])), (q1, .inr (2, [.ref (q2 0), .int 0])), ((q2 0), .inl (cy 1, 1000, .inl (fun _ => 0))), (q3, .inl (cy 0, 240, .inl (fun _ => 0))), (q4, .inl (cy 0, 240, .inl (fun _ => 0)))]) X hnm dX2_init_33 cl_X2 rfl (Nat.le_of_ble_eq_true rfl) (by decide) w_94 rfl rfl rfl rfl rfl ?_
  refine n_ald 0 X dX2_init_36 rfl ?_
  refine n_si (v := 241) X dX2_init_37 (by decide) ?_
  refine n_newa (t := 0) (ty := .int) (N := 241) (a0 := (241, .inl (fun _ => 0))) X dX2_init_40 rfl rfl (by decide) w_122 (fun _ => rfl) (by decide) (by decide) (by decide) (by rw [hRm]; exact Nat.le_of_ble_eq_true rfl) (by rw [hRm]; exact Nat.le_of_ble_eq_true rfl) (fun q5 => ?_)
  refine n_putF (q := 0) (f := 4) (ws1 := [(h0, .inr (4, [.null, .ref q1, .ref q3, .ref q4, .ref q5, .null, .null, .int 0, .int 0, .int 0])), (q1, .inr (2, [.ref (q2 0), .int 0])), ((q2 0), .inl (cy 1, 1000, .inl (fun _ => 0))), (q3, .inl (cy 0, 240, .inl (fun _ => 0))), (q4, .inl (cy 0, 240, .inl (fun _ => 0))), (q5, .inl (cy 0, 241, .inl (fun _ => 0)))]) X hnm dX2_init_42 cl_X2 rfl (Nat.le_of_ble_eq_true rfl) (by decide) w_95 rfl rfl rfl rfl rfl ?_
  refine n_ald 0 X dX2_init_45 rfl ?_
  refine n_si (v := 240) X dX2_init_46 (by decide) ?_
  refine n_newa (t := 0) (ty := .int) (N := 240) (a0 := (240, .inl (fun _ => 0))) X dX2_init_49 rfl rfl (by decide) w_122 (fun _ => rfl) (by decide) (by decide) (by decide) (by rw [hRm]; exact Nat.le_of_ble_eq_true rfl) (by rw [hRm]; exact Nat.le_of_ble_eq_true rfl) (fun q6 => ?_)
  refine n_putF (q := 0) (f := 5) (ws1 := [(h0, .inr (4, [.null, .ref q1, .ref q3, .ref q4, .ref q5, .ref q6, .null, .int 0, .int 0, .int 0])), (q1, .inr (2, [.ref (q2 0), .int 0])), ((q2 0), .inl (cy 1, 1000, .inl (fun _ => 0))), (q3, .inl (cy 0, 240, .inl (fun _ => 0))), (q4, .inl (cy 0, 240, .inl (fun _ => 0))), (q5, .inl (cy 0, 241, .inl (fun _ => 0))), (q6, .inl (cy 0, 240, .inl (fun _ => 0)))]) X hnm dX2_init_51 cl_X2 rfl (Nat.le_of_ble_eq_true rfl) (by decide) w_96 rfl rfl rfl rfl rfl ?_
  refine n_ald 0 X dX2_init_54 rfl ?_
  refine n_si (v := 240) X dX2_init_55 (by decide) ?_
  refine n_newa (t := 0) (ty := .int) (N := 240) (a0 := (240, .inl (fun _ => 0))) X dX2_init_58 rfl rfl (by decide) w_122 (fun _ => rfl) (by decide) (by decide) (by decide) (by rw [hRm]; exact Nat.le_of_ble_eq_true rfl) (by rw [hRm]; exact Nat.le_of_ble_eq_true rfl) (fun q7 => ?_)
  refine n_putF (q := 0) (f := 6) (ws1 := [(h0, .inr (4, [.null, .ref q1, .ref q3, .ref q4, .ref q5, .ref q6, .ref q7, .int 0, .int 0, .int 0])), (q1, .inr (2, [.ref (q2 0), .int 0])), ((q2 0), .inl (cy 1, 1000, .inl (fun _ => 0))), (q3, .inl (cy 0, 240, .inl (fun _ => 0))), (q4, .inl (cy 0, 240, .inl (fun _ => 0))), (q5, .inl (cy 0, 241, .inl (fun _ => 0))), (q6, .inl (cy 0, 240, .inl (fun _ => 0))), (q7, .inl (cy 0, 240, .inl (fun _ => 0)))]) X hnm dX2_init_60 cl_X2 rfl (Nat.le_of_ble_eq_true rfl) (by decide) w_97 rfl rfl rfl rfl rfl ?_
  refine n_ald 0 X dX2_init_63 rfl ?_
  refine n_ald 1 X dX2_init_64 rfl ?_
  refine n_putF (q := 0) (f := 0) (ws1 := [(h0, .inr (4, [.ref b1, .ref q1, .ref q3, .ref q4, .ref q5, .ref q6, .ref q7, .int 0, .int 0, .int 0])), (q1, .inr (2, [.ref (q2 0), .int 0])), ((q2 0), .inl (cy 1, 1000, .inl (fun _ => 0))), (q3, .inl (cy 0, 240, .inl (fun _ => 0))), (q4, .inl (cy 0, 240, .inl (fun _ => 0))), (q5, .inl (cy 0, 241, .inl (fun _ => 0))), (q6, .inl (cy 0, 240, .inl (fun _ => 0))), (q7, .inl (cy 0, 240, .inl (fun _ => 0)))]) X hnm dX2_init_65 cl_X2 rfl (Nat.le_of_ble_eq_true rfl) (by decide) w_90 rfl rfl rfl rfl rfl ?_
  exact n_vret (fun i => match i with | 0 => q1 | 1 => q2 0 | 2 => q3 | 3 => q4 | 4 => q5 | 5 => q6 | 6 => q7 | _ => 0) X hret hlk dX2_init_68 [0, 1, 2, 3, 4, 5, 6, 7] (by decide) rfl rfl (Nat.le_of_ble_eq_true rfl) (Nat.le_of_ble_eq_true rfl)
set_option maxHeartbeats 4000000 in
set_option maxRecDepth 100000 in
theorem N_X3 {l : Launch} {G : va_G} {cy : Nat → ClassId} (h0 : Nat) (b1 b2 : Nat)  : nMet l yX3_init cX3_init 3 1 1 400 G cy [.ref h0, .ref b1, .ref b2] [(h0, .inr (5, [.null, .null, .null, .int 0, .int 0, .int 0, .int 0, .int 0, .int 0]))] (fun qs => [(h0, .inr (5, [.ref b1, .ref b2, .ref (qs 0), .int 0, .int 0, .int 0, .int 0, .int 0, .int 0])), ((qs 0), .inl (cy 1, 400, .inl (fun _ => 0)))]) := by
  refine nMet_of (own := RX3) (by decide) rfl rfl (Nat.le_of_ble_eq_true rfl) (fun Γ A hl hRm hnm hret hlk X => ?_)
  subst hl
  refine n_ald 0 X dX3_init_0 rfl ?_
  refine n_obj X dX3_init_1 w_167 w_23 w_24 (by rw [hRm]; exact Nat.le_of_ble_eq_true rfl) (by rw [hRm]; exact Nat.le_of_ble_eq_true rfl) ?_
  refine n_ald 0 X dX3_init_4 rfl ?_
  refine n_si (v := 400) X dX3_init_5 (by decide) ?_
  refine n_newa (t := 1) (ty := .byte) (N := 400) (a0 := (400, .inl (fun _ => 0))) X dX3_init_8 rfl rfl (by decide) w_81 (fun _ => rfl) (by decide) (by decide) (by decide) (by rw [hRm]; exact Nat.le_of_ble_eq_true rfl) (by rw [hRm]; exact Nat.le_of_ble_eq_true rfl) (fun q1 => ?_)
  refine n_putF (q := 0) (f := 2) (ws1 := [(h0, .inr (5, [.null, .null, .ref q1, .int 0, .int 0, .int 0, .int 0, .int 0, .int 0])), (q1, .inl (cy 1, 400, .inl (fun _ => 0)))]) X hnm dX3_init_10 cl_X3 rfl (Nat.le_of_ble_eq_true rfl) (by decide) w_170 rfl rfl rfl rfl rfl ?_
  refine n_ald 0 X dX3_init_13 rfl ?_
  refine n_ic (v := 0) X dX3_init_14 (by decide) ?_
  refine n_put (q := 0) (f := 3) (ws1 := [(h0, .inr (5, [.null, .null, .ref q1, .int 0, .int 0, .int 0, .int 0, .int 0, .int 0])), (q1, .inl (cy 1, 400, .inl (fun _ => 0)))]) X dX3_init_15 cl_X3 rfl (Nat.le_of_ble_eq_true rfl) (by decide) w_172 rfl rfl rfl rfl ?_
  refine n_ald 0 X dX3_init_18 rfl ?_
  refine n_ic (v := 0) X dX3_init_19 (by decide) ?_
  refine n_put (q := 0) (f := 4) (ws1 := [(h0, .inr (5, [.null, .null, .ref q1, .int 0, .int 0, .int 0, .int 0, .int 0, .int 0])), (q1, .inl (cy 1, 400, .inl (fun _ => 0)))]) X dX3_init_20 cl_X3 rfl (Nat.le_of_ble_eq_true rfl) (by decide) w_174 rfl rfl rfl rfl ?_
  refine n_ald 0 X dX3_init_23 rfl ?_
  refine n_ald 1 X dX3_init_24 rfl ?_
  refine n_putF (q := 0) (f := 0) (ws1 := [(h0, .inr (5, [.ref b1, .null, .ref q1, .int 0, .int 0, .int 0, .int 0, .int 0, .int 0])), (q1, .inl (cy 1, 400, .inl (fun _ => 0)))]) X hnm dX3_init_25 cl_X3 rfl (Nat.le_of_ble_eq_true rfl) (by decide) w_168 rfl rfl rfl rfl rfl ?_
  refine n_ald 0 X dX3_init_28 rfl ?_
  refine n_ald 2 X dX3_init_29 rfl ?_
  refine n_putF (q := 0) (f := 1) (ws1 := [(h0, .inr (5, [.ref b1, .ref b2, .ref q1, .int 0, .int 0, .int 0, .int 0, .int 0, .int 0])), (q1, .inl (cy 1, 400, .inl (fun _ => 0)))]) X hnm dX3_init_30 cl_X3 rfl (Nat.le_of_ble_eq_true rfl) (by decide) w_169 rfl rfl rfl rfl rfl ?_
  exact n_vret (fun i => match i with | 0 => q1 | _ => 0) X hret hlk dX3_init_33 [0, 1] (by decide) rfl rfl (Nat.le_of_ble_eq_true rfl) (Nat.le_of_ble_eq_true rfl)
