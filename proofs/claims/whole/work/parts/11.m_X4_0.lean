/-! X4_byteOf -/
abbrev D_X4_byteOf : Nat := 0
noncomputable def f_X4_byteOf (x1 : Int32) (x2 : Int32) (μ : jM) : Option (Int32 × jM) := some ((((x1).toUInt32 >>> ((((8 : Int32) * (((μ.1 1 1) - (1 : Int32)) - x2))).toUInt32 &&& Int32.toUInt32 31)).toInt32 &&& (255 : Int32)), μ)
set_option maxHeartbeats 4000000 in
theorem M_X4_byteOf {l : Launch} {Δ : jD} {r : Int32} {μ μ9 : jM} {x1 : Int32} {x2 : Int32}  (hsep : jSep Δ shC) (hf : f_X4_byteOf x1 x2 μ = some (r, μ9)) : jMet l yX4_byteOf cX4_byteOf 3 (some .int) D_X4_byteOf Δ shC [jr Δ 1, .int x1, .int x2] μ (some (.int r), μ9) := by
  refine jMet_of (own := RX4) (L := [some (jr Δ 1), some (.int x1), some (.int x2)]) (by decide) rfl (Nat.le_of_ble_eq_true rfl) rfl hsep (fun Γ _ X => ?_)
  unfold f_X4_byteOf at hf
  refine g_ild_n (pc := 0) (i := 1) X dX4_byteOf_0 rfl rfl ?_
  refine g_bipush (pc := 1) (v := (8 : Int32)) X dX4_byteOf_1 (by decide) ?_
  refine g_ald_n (pc := 3) (i := 0) X dX4_byteOf_3 rfl rfl ?_
  refine g_getI (pc := 4) (k := 1) X dX4_byteOf_4 cl_X4 rfl rfl (by decide) w_36 ?_
  refine g_iconst (pc := 7) (v := (1 : Int32)) X dX4_byteOf_7 (by decide) ?_
  refine g_isub (pc := 8) X dX4_byteOf_8 ?_
  refine g_ild_n (pc := 9) (i := 2) X dX4_byteOf_9 rfl rfl ?_
  refine g_isub (pc := 10) X dX4_byteOf_10 ?_
  refine g_imul (pc := 11) X dX4_byteOf_11 ?_
  refine g_iushr (pc := 12) X dX4_byteOf_12 ?_
  refine g_sipush (pc := 13) (v := (255 : Int32)) X dX4_byteOf_13 (by decide) ?_
  refine g_iand (pc := 16) X dX4_byteOf_16 ?_
  exact g_iret (pc := 17) X dX4_byteOf_17 hf
/-! X4_numberAt -/
abbrev D_X4_numberAt : Nat := 1
noncomputable def f_X4_numberAt_5 (q1 : Nat) (n1 : Nat)  : Nat → Int32 → Int32 → Int32 → jM → Option (Int32 × jM)
  | 0, _, _, _, _ => none
  | fu + 1, x2, x3, x4, μ => if (μ.1 1 1) ≤ x4 then (some (x3, μ)) else (jcall (f_X0_get q1 n1 ((x2 * (μ.1 1 1)) + x4) μ) (fun (r1 : Int32) (μ1 : jM) => jlet ((x3 <<< ((8 : Int32) &&& 31)) ||| r1) (fun z2 : Int32 => jlet (x4 + (1 : Int32)) (fun z3 : Int32 => f_X4_numberAt_5 q1 n1  fu x2 z2 z3 μ1))))
noncomputable def f_X4_numberAt (q1 : Nat) (n1 : Nat) (x2 : Int32) (μ : jM) : Option (Int32 × jM) := f_X4_numberAt_5 q1 n1  jFU x2 (0 : Int32) (0 : Int32) μ
set_option maxHeartbeats 4000000 in
theorem t_X4_numberAt_5 {Γ : jC} {Δ : jD} {r : Int32} {μ9 : jM} {q1 : Nat} {n1 : Nat}  (hq1 : jOct q1 n1) (X : jOk Γ Δ shC cX4_numberAt 5 RX4 (some .int) D_X4_numberAt)  : ∀ (fu : Nat) (x2 : Int32) (x3 : Int32) (x4 : Int32) (μ : jM), f_X4_numberAt_5 q1 n1  fu x2 x3 x4 μ = some (r, μ9) → jG Γ Δ shC (some (.int r), μ9) 5 [some (jr Δ 1), some (jr Δ q1), some (.int x2), some (.int x3), some (.int x4)] [] μ := by
  intro fu
  induction fu with
  | zero =>
    intro x2 x3 x4 μ hf
    cases hf
  | succ fu ih =>
    intro x2 x3 x4 μ hf
    replace hf := (f_X4_numberAt_5.eq_2 _ _ _ _ _ _ _).symm.trans hf
    refine g_ild (pc := 5) X dX4_numberAt_5 rfl ?_
    refine g_ald_n (pc := 7) (i := 0) X dX4_numberAt_7 rfl rfl ?_
    refine g_getI (pc := 8) (k := 1) X dX4_numberAt_8 cl_X4 rfl rfl (by decide) w_36 ?_
    refine g_icmp_ge (pc := 11) 39 X dX4_numberAt_11 (by decide) (fun h4 => ?_) (fun h4 => ?_)
    · replace hf := jt_i h4 hf
      refine g_ild_n (pc := 39) (i := 3) X dX4_numberAt_39 rfl rfl ?_
      exact g_iret (pc := 40) X dX4_numberAt_40 hf
    · replace hf := jf_i h4 hf
      refine g_ild_n (pc := 14) (i := 3) X dX4_numberAt_14 rfl rfl ?_
      refine g_bipush (pc := 15) (v := (8 : Int32)) X dX4_numberAt_15 (by decide) ?_
      refine g_ishl (pc := 17) X dX4_numberAt_17 ?_
      refine g_ald_n (pc := 18) (i := 1) X dX4_numberAt_18 rfl rfl ?_
      refine g_ild_n (pc := 19) (i := 2) X dX4_numberAt_19 rfl rfl ?_
      refine g_ald_n (pc := 20) (i := 0) X dX4_numberAt_20 rfl rfl ?_
      refine g_getI (pc := 21) (k := 1) X dX4_numberAt_21 cl_X4 rfl rfl (by decide) w_36 ?_
      refine g_imul (pc := 24) X dX4_numberAt_24 ?_
      refine g_ild (pc := 25) X dX4_numberAt_25 rfl ?_
      refine g_iadd (pc := 27) X dX4_numberAt_27 ?_
      obtain ⟨r1, μ1, hc1, hf⟩ := jcall_i hf
      refine g_callVi (pc := 28) [.int ((x2 * (μ.1 1 1)) + x4)] X dX4_numberAt_28 (M_X0_get hq1 (jOk_sep X) hc1) Y_X0_get w_290 w_292 w_291 cl_X0 rfl hq1.1 (by decide) rfl rfl (Nat.le_of_ble_eq_true rfl) rfl ?_
      refine g_ior (pc := 31) X dX4_numberAt_31 ?_
      refine g_nmI (fun z2 ez2 => ?_)
      replace hf := jlet_i ez2 hf
      refine g_ist_n (pc := 32) (i := 3) (L1 := [some (jr Δ 1), some (jr Δ q1), some (.int x2), some (.int z2), some (.int x4)]) X dX4_numberAt_32 rfl (Nat.le_of_ble_eq_true rfl) rfl rfl ?_
      obtain ⟨z3, ez3⟩ : ∃ z : Int32, z = x4 + (1 : Int32) := ⟨_, rfl⟩
      replace hf := jlet_i ez3 hf
      refine g_iinc (pc := 33) (L1 := [some (jr Δ 1), some (jr Δ q1), some (.int x2), some (.int z2), some (.int z3)]) X dX4_numberAt_33 rfl (by rw [ez3]; rfl) rfl rfl ?_
      refine g_goto (pc := 36) 5 X dX4_numberAt_36 (by decide) ?_
      exact g_weak (ih _ _ _ _ hf) (⟨rfl, ⟨rfl, ⟨rfl, ⟨rfl, ⟨rfl, trivial⟩⟩⟩⟩⟩)
set_option maxHeartbeats 4000000 in
theorem M_X4_numberAt {l : Launch} {Δ : jD} {r : Int32} {μ μ9 : jM} {q1 : Nat} {n1 : Nat} {x2 : Int32} (hq1 : jOct q1 n1) (hsep : jSep Δ shC) (hf : f_X4_numberAt q1 n1 x2 μ = some (r, μ9)) : jMet l yX4_numberAt cX4_numberAt 5 (some .int) D_X4_numberAt Δ shC [jr Δ 1, jr Δ q1, .int x2] μ (some (.int r), μ9) := by
  refine jMet_of (own := RX4) (L := [some (jr Δ 1), some (jr Δ q1), some (.int x2), none, none]) (by decide) rfl (Nat.le_of_ble_eq_true rfl) rfl hsep (fun Γ _ X => ?_)
  unfold f_X4_numberAt at hf
  refine g_iconst (pc := 0) (v := (0 : Int32)) X dX4_numberAt_0 (by decide) ?_
  refine g_ist_n (pc := 1) (i := 3) (L1 := [some (jr Δ 1), some (jr Δ q1), some (.int x2), some (.int (0 : Int32)), none]) X dX4_numberAt_1 rfl (Nat.le_of_ble_eq_true rfl) rfl rfl ?_
  refine g_iconst (pc := 2) (v := (0 : Int32)) X dX4_numberAt_2 (by decide) ?_
  refine g_ist (pc := 3) (L1 := [some (jr Δ 1), some (jr Δ q1), some (.int x2), some (.int (0 : Int32)), some (.int (0 : Int32))]) X dX4_numberAt_3 (Nat.le_of_ble_eq_true rfl) rfl rfl ?_
  exact g_weak (t_X4_numberAt_5 hq1 X  jFU _ _ _ _ hf) (⟨rfl, ⟨rfl, ⟨rfl, ⟨rfl, ⟨rfl, trivial⟩⟩⟩⟩⟩)
/-! X4_unitsIn -/
abbrev D_X4_unitsIn : Nat := 0
noncomputable def f_X4_unitsIn (x1 : Int32) (μ : jM) : Option (Int32 × jM) := if (μ.1 1 1) ≤ (0 : Int32) then (some ((0 : Int32), μ)) else (jnz (μ.1 1 1) (some ((x1 / (μ.1 1 1)), μ)))
set_option maxHeartbeats 4000000 in
theorem M_X4_unitsIn {l : Launch} {Δ : jD} {r : Int32} {μ μ9 : jM} {x1 : Int32}  (hsep : jSep Δ shC) (hf : f_X4_unitsIn x1 μ = some (r, μ9)) : jMet l yX4_unitsIn cX4_unitsIn 2 (some .int) D_X4_unitsIn Δ shC [jr Δ 1, .int x1] μ (some (.int r), μ9) := by
  refine jMet_of (own := RX4) (L := [some (jr Δ 1), some (.int x1)]) (by decide) rfl (Nat.le_of_ble_eq_true rfl) rfl hsep (fun Γ _ X => ?_)
  unfold f_X4_unitsIn at hf
  refine g_ald_n (pc := 0) (i := 0) X dX4_unitsIn_0 rfl rfl ?_
  refine g_getI (pc := 1) (k := 1) X dX4_unitsIn_1 cl_X4 rfl rfl (by decide) w_36 ?_
  refine g_if_le (pc := 4) 16 X dX4_unitsIn_4 (by decide) (fun h2 => ?_) (fun h2 => ?_)
  · replace hf := jt_i h2 hf
    refine g_iconst (pc := 16) (v := (0 : Int32)) X dX4_unitsIn_16 (by decide) ?_
    exact g_iret (pc := 17) X dX4_unitsIn_17 hf
  · replace hf := jf_i h2 hf
    refine g_ild_n (pc := 7) (i := 1) X dX4_unitsIn_7 rfl rfl ?_
    refine g_ald_n (pc := 8) (i := 0) X dX4_unitsIn_8 rfl rfl ?_
    refine g_getI (pc := 9) (k := 1) X dX4_unitsIn_9 cl_X4 rfl rfl (by decide) w_36 ?_
    obtain ⟨hz1, hf⟩ := jnz_i hf
    refine g_idiv (pc := 12) X dX4_unitsIn_12 hz1 ?_
    refine g_goto (pc := 13) 17 X dX4_unitsIn_13 (by decide) ?_
    exact g_iret (pc := 17) X dX4_unitsIn_17 hf
/-! X4_modulo -/
abbrev D_X4_modulo : Nat := 0
noncomputable def f_X4_modulo (x1 : Int32) (μ : jM) : Option (Int32 × jM) := if (μ.1 1 1) = (4 : Int32) then (some (x1, μ)) else (some ((x1 &&& (((1 : Int32) <<< (((8 : Int32) * (μ.1 1 1)) &&& 31)) - (1 : Int32))), μ))
set_option maxHeartbeats 4000000 in
theorem M_X4_modulo {l : Launch} {Δ : jD} {r : Int32} {μ μ9 : jM} {x1 : Int32}  (hsep : jSep Δ shC) (hf : f_X4_modulo x1 μ = some (r, μ9)) : jMet l yX4_modulo cX4_modulo 2 (some .int) D_X4_modulo Δ shC [jr Δ 1, .int x1] μ (some (.int r), μ9) := by
  refine jMet_of (own := RX4) (L := [some (jr Δ 1), some (.int x1)]) (by decide) rfl (Nat.le_of_ble_eq_true rfl) rfl hsep (fun Γ _ X => ?_)
  unfold f_X4_modulo at hf
  refine g_ald_n (pc := 0) (i := 0) X dX4_modulo_0 rfl rfl ?_
  refine g_getI (pc := 1) (k := 1) X dX4_modulo_1 cl_X4 rfl rfl (by decide) w_36 ?_
  refine g_iconst (pc := 4) (v := (4 : Int32)) X dX4_modulo_4 (by decide) ?_
  refine g_icmp_ne (pc := 5) 12 X dX4_modulo_5 (by decide) (fun h1 => ?_) (fun h1 => ?_)
  · replace hf := jf_i h1 hf
    refine g_ild_n (pc := 12) (i := 1) X dX4_modulo_12 rfl rfl ?_
    refine g_iconst (pc := 13) (v := (1 : Int32)) X dX4_modulo_13 (by decide) ?_
    refine g_bipush (pc := 14) (v := (8 : Int32)) X dX4_modulo_14 (by decide) ?_
    refine g_ald_n (pc := 16) (i := 0) X dX4_modulo_16 rfl rfl ?_
    refine g_getI (pc := 17) (k := 1) X dX4_modulo_17 cl_X4 rfl rfl (by decide) w_36 ?_
    refine g_imul (pc := 20) X dX4_modulo_20 ?_
    refine g_ishl (pc := 21) X dX4_modulo_21 ?_
    refine g_iconst (pc := 22) (v := (1 : Int32)) X dX4_modulo_22 (by decide) ?_
    refine g_isub (pc := 23) X dX4_modulo_23 ?_
    refine g_iand (pc := 24) X dX4_modulo_24 ?_
    exact g_iret (pc := 25) X dX4_modulo_25 hf
  · replace hf := jt_i h1 hf
    refine g_ild_n (pc := 8) (i := 1) X dX4_modulo_8 rfl rfl ?_
    refine g_goto (pc := 9) 25 X dX4_modulo_9 (by decide) ?_
    exact g_iret (pc := 25) X dX4_modulo_25 hf
/-! X4_allow -/
abbrev D_X4_allow : Nat := 0
noncomputable def f_X4_allow_96    (μ : jM) : Option (Int32 × jM) := jbl (1 : Int32) (some ((1 : Int32), μ))
noncomputable def f_X4_allow_85    (μ : jM) : Option (Int32 × jM) := jbl (0 : Int32) (some ((0 : Int32), μ))
noncomputable def f_X4_allow_68    (μ : jM) : Option (Int32 × jM) := jbl (0 : Int32) (some ((0 : Int32), μ))
noncomputable def f_X4_allow_47    (μ : jM) : Option (Int32 × jM) := jbl (1 : Int32) (some ((1 : Int32), μ))
noncomputable def f_X4_allow (x1 : Int32) (x2 : Int32) (μ : jM) : Option (Int32 × jM) := if x1 = (0 : Int32) then (if x2 = (1 : Int32) then (f_X4_allow_47     μ) else (if x2 = (2 : Int32) then (f_X4_allow_47     μ) else (if x2 = (4 : Int32) then (f_X4_allow_47     μ) else (jbl (0 : Int32) (some ((0 : Int32), μ)))))) else (if x1 = (1 : Int32) then (if x2 < (1 : Int32) then (f_X4_allow_68     μ) else (if (60 : Int32) < x2 then (f_X4_allow_68     μ) else (jbl (1 : Int32) (some ((1 : Int32), μ))))) else (if x1 = (2 : Int32) then (if x2 < (0 : Int32) then (f_X4_allow_85     μ) else (if (255 : Int32) < x2 then (f_X4_allow_85     μ) else (jbl (1 : Int32) (some ((1 : Int32), μ))))) else (if x1 = (3 : Int32) then (if x2 = (0 : Int32) then (f_X4_allow_96     μ) else (if x2 = (1 : Int32) then (f_X4_allow_96     μ) else (jbl (0 : Int32) (some ((0 : Int32), μ))))) else (jbl (0 : Int32) (some ((0 : Int32), μ))))))
set_option maxHeartbeats 4000000 in
theorem t_X4_allow_96 {Γ : jC} {Δ : jD} {r : Int32} {μ9 : jM}    (X : jOk Γ Δ shC cX4_allow 3 RX4 (some .boolean) D_X4_allow)  : ∀ (μ : jM), f_X4_allow_96    μ = some (r, μ9) → jG Γ Δ shC (some (.int r), μ9) 96 [none, none, none] [] μ := by
  intro  μ hf
  unfold f_X4_allow_96 at hf
  refine g_iconst (pc := 96) (v := (1 : Int32)) X dX4_allow_96 (by decide) ?_
  refine g_goto (pc := 97) 101 X dX4_allow_97 (by decide) ?_
  obtain ⟨hb1, hf⟩ := jbl_i hf
  exact g_zret (pc := 101) X dX4_allow_101 hb1 hf
set_option maxHeartbeats 4000000 in
theorem t_X4_allow_85 {Γ : jC} {Δ : jD} {r : Int32} {μ9 : jM}    (X : jOk Γ Δ shC cX4_allow 3 RX4 (some .boolean) D_X4_allow)  : ∀ (μ : jM), f_X4_allow_85    μ = some (r, μ9) → jG Γ Δ shC (some (.int r), μ9) 85 [none, none, none] [] μ := by
  intro  μ hf
  unfold f_X4_allow_85 at hf
  refine g_iconst (pc := 85) (v := (0 : Int32)) X dX4_allow_85 (by decide) ?_
  obtain ⟨hb2, hf⟩ := jbl_i hf
  exact g_zret (pc := 86) X dX4_allow_86 hb2 hf
set_option maxHeartbeats 4000000 in
theorem t_X4_allow_68 {Γ : jC} {Δ : jD} {r : Int32} {μ9 : jM}    (X : jOk Γ Δ shC cX4_allow 3 RX4 (some .boolean) D_X4_allow)  : ∀ (μ : jM), f_X4_allow_68    μ = some (r, μ9) → jG Γ Δ shC (some (.int r), μ9) 68 [none, none, none] [] μ := by
  intro  μ hf
  unfold f_X4_allow_68 at hf
  refine g_iconst (pc := 68) (v := (0 : Int32)) X dX4_allow_68 (by decide) ?_
  obtain ⟨hb3, hf⟩ := jbl_i hf
  exact g_zret (pc := 69) X dX4_allow_69 hb3 hf
set_option maxHeartbeats 4000000 in
theorem t_X4_allow_47 {Γ : jC} {Δ : jD} {r : Int32} {μ9 : jM}    (X : jOk Γ Δ shC cX4_allow 3 RX4 (some .boolean) D_X4_allow)  : ∀ (μ : jM), f_X4_allow_47    μ = some (r, μ9) → jG Γ Δ shC (some (.int r), μ9) 47 [none, none, none] [] μ := by
  intro  μ hf
  unfold f_X4_allow_47 at hf
  refine g_iconst (pc := 47) (v := (1 : Int32)) X dX4_allow_47 (by decide) ?_
  refine g_goto (pc := 48) 52 X dX4_allow_48 (by decide) ?_
  obtain ⟨hb4, hf⟩ := jbl_i hf
  exact g_zret (pc := 52) X dX4_allow_52 hb4 hf
set_option maxHeartbeats 4000000 in
theorem M_X4_allow {l : Launch} {Δ : jD} {r : Int32} {μ μ9 : jM} {x1 : Int32} {x2 : Int32}  (hsep : jSep Δ shC) (hf : f_X4_allow x1 x2 μ = some (r, μ9)) : jMet l yX4_allow cX4_allow 3 (some .boolean) D_X4_allow Δ shC [jr Δ 1, .int x1, .int x2] μ (some (.int r), μ9) := by
  refine jMet_of (own := RX4) (L := [some (jr Δ 1), some (.int x1), some (.int x2)]) (by decide) rfl (Nat.le_of_ble_eq_true rfl) rfl hsep (fun Γ _ X => ?_)
  unfold f_X4_allow at hf
  refine g_ild_n (pc := 0) (i := 1) X dX4_allow_0 rfl rfl ?_
  by_cases h5 : x1 = (0 : Int32)
  · replace hf := jt_i h5 hf
    refine g_tblIn (pc := 1) 32 X dX4_allow_1 (by rw [h5]; decide) (by rw [h5]; decide) (by rw [h5]; rfl) (by decide) ?_
    refine g_ild_n (pc := 32) (i := 2) X dX4_allow_32 rfl rfl ?_
    refine g_iconst (pc := 33) (v := (1 : Int32)) X dX4_allow_33 (by decide) ?_
    refine g_icmp_eq (pc := 34) 47 X dX4_allow_34 (by decide) (fun h9 => ?_) (fun h9 => ?_)
    · replace hf := jt_i h9 hf
      exact g_weak (t_X4_allow_47  X    _ hf) (trivial)
    · replace hf := jf_i h9 hf
      refine g_ild_n (pc := 37) (i := 2) X dX4_allow_37 rfl rfl ?_
      refine g_iconst (pc := 38) (v := (2 : Int32)) X dX4_allow_38 (by decide) ?_
      refine g_icmp_eq (pc := 39) 47 X dX4_allow_39 (by decide) (fun h8 => ?_) (fun h8 => ?_)
      · replace hf := jt_i h8 hf
        exact g_weak (t_X4_allow_47  X    _ hf) (trivial)
      · replace hf := jf_i h8 hf
        refine g_ild_n (pc := 42) (i := 2) X dX4_allow_42 rfl rfl ?_
        refine g_iconst (pc := 43) (v := (4 : Int32)) X dX4_allow_43 (by decide) ?_
        refine g_icmp_ne (pc := 44) 51 X dX4_allow_44 (by decide) (fun h7 => ?_) (fun h7 => ?_)
        · replace hf := jf_i h7 hf
          refine g_iconst (pc := 51) (v := (0 : Int32)) X dX4_allow_51 (by decide) ?_
          obtain ⟨hb6, hf⟩ := jbl_i hf
          exact g_zret (pc := 52) X dX4_allow_52 hb6 hf
        · replace hf := jt_i h7 hf
          exact g_weak (t_X4_allow_47  X    _ hf) (trivial)
  replace hf := jf_i h5 hf
  by_cases h10 : x1 = (1 : Int32)
  · replace hf := jt_i h10 hf
    refine g_tblIn (pc := 1) 53 X dX4_allow_1 (by rw [h10]; decide) (by rw [h10]; decide) (by rw [h10]; rfl) (by decide) ?_
    refine g_ild_n (pc := 53) (i := 2) X dX4_allow_53 rfl rfl ?_
    refine g_iconst (pc := 54) (v := (1 : Int32)) X dX4_allow_54 (by decide) ?_
    refine g_icmp_lt (pc := 55) 68 X dX4_allow_55 (by decide) (fun h13 => ?_) (fun h13 => ?_)
    · replace hf := jt_i h13 hf
      exact g_weak (t_X4_allow_68  X    _ hf) (trivial)
    · replace hf := jf_i h13 hf
      refine g_ild_n (pc := 58) (i := 2) X dX4_allow_58 rfl rfl ?_
      refine g_bipush (pc := 59) (v := (60 : Int32)) X dX4_allow_59 (by decide) ?_
      refine g_icmp_gt (pc := 61) 68 X dX4_allow_61 (by decide) (fun h12 => ?_) (fun h12 => ?_)
      · replace hf := jt_i h12 hf
        exact g_weak (t_X4_allow_68  X    _ hf) (trivial)
      · replace hf := jf_i h12 hf
        refine g_iconst (pc := 64) (v := (1 : Int32)) X dX4_allow_64 (by decide) ?_
        refine g_goto (pc := 65) 69 X dX4_allow_65 (by decide) ?_
        obtain ⟨hb11, hf⟩ := jbl_i hf
        exact g_zret (pc := 69) X dX4_allow_69 hb11 hf
  replace hf := jf_i h10 hf
  by_cases h14 : x1 = (2 : Int32)
  · replace hf := jt_i h14 hf
    refine g_tblIn (pc := 1) 70 X dX4_allow_1 (by rw [h14]; decide) (by rw [h14]; decide) (by rw [h14]; rfl) (by decide) ?_
    refine g_ild_n (pc := 70) (i := 2) X dX4_allow_70 rfl rfl ?_
    refine g_if_lt (pc := 71) 85 X dX4_allow_71 (by decide) (fun h17 => ?_) (fun h17 => ?_)
    · replace hf := jt_i h17 hf
      exact g_weak (t_X4_allow_85  X    _ hf) (trivial)
    · replace hf := jf_i h17 hf
      refine g_ild_n (pc := 74) (i := 2) X dX4_allow_74 rfl rfl ?_
      refine g_sipush (pc := 75) (v := (255 : Int32)) X dX4_allow_75 (by decide) ?_
      refine g_icmp_gt (pc := 78) 85 X dX4_allow_78 (by decide) (fun h16 => ?_) (fun h16 => ?_)
      · replace hf := jt_i h16 hf
        exact g_weak (t_X4_allow_85  X    _ hf) (trivial)
      · replace hf := jf_i h16 hf
        refine g_iconst (pc := 81) (v := (1 : Int32)) X dX4_allow_81 (by decide) ?_
        refine g_goto (pc := 82) 86 X dX4_allow_82 (by decide) ?_
        obtain ⟨hb15, hf⟩ := jbl_i hf
        exact g_zret (pc := 86) X dX4_allow_86 hb15 hf
  replace hf := jf_i h14 hf
  by_cases h18 : x1 = (3 : Int32)
  · replace hf := jt_i h18 hf
    refine g_tblIn (pc := 1) 87 X dX4_allow_1 (by rw [h18]; decide) (by rw [h18]; decide) (by rw [h18]; rfl) (by decide) ?_
    refine g_ild_n (pc := 87) (i := 2) X dX4_allow_87 rfl rfl ?_
    refine g_if_eq (pc := 88) 96 X dX4_allow_88 (by decide) (fun h21 => ?_) (fun h21 => ?_)
    · replace hf := jt_i h21 hf
      exact g_weak (t_X4_allow_96  X    _ hf) (trivial)
    · replace hf := jf_i h21 hf
      refine g_ild_n (pc := 91) (i := 2) X dX4_allow_91 rfl rfl ?_
      refine g_iconst (pc := 92) (v := (1 : Int32)) X dX4_allow_92 (by decide) ?_
      refine g_icmp_ne (pc := 93) 100 X dX4_allow_93 (by decide) (fun h20 => ?_) (fun h20 => ?_)
      · replace hf := jf_i h20 hf
        refine g_iconst (pc := 100) (v := (0 : Int32)) X dX4_allow_100 (by decide) ?_
        obtain ⟨hb19, hf⟩ := jbl_i hf
        exact g_zret (pc := 101) X dX4_allow_101 hb19 hf
      · replace hf := jt_i h20 hf
        exact g_weak (t_X4_allow_96  X    _ hf) (trivial)
  replace hf := jf_i h18 hf
  refine g_tblOut (pc := 1) 102 X dX4_allow_1 (by have yh5 := lv_neT (a := 0) h5 rfl; have yh10 := lv_neT (a := 1) h10 rfl; have yh14 := lv_neT (a := 2) h14 rfl; have yh18 := lv_neT (a := 3) h18 rfl; omega) (by decide) ?_
  refine g_iconst (pc := 102) (v := (0 : Int32)) X dX4_allow_102 (by decide) ?_
  obtain ⟨hb22, hf⟩ := jbl_i hf
  exact g_zret (pc := 103) X dX4_allow_103 hb22 hf
/-! X4_change -/
abbrev D_X4_change : Nat := 0
noncomputable def f_X4_change (x1 : Int32) (x2 : Int32) (μ : jM) : Option (Int32 × jM) := if x1 = (0 : Int32) then (jlet (μ.1 1 1) (fun z2 : Int32 => jlet (jsI μ 1 1 x2) (fun μ3 : jM => some (z2, μ3)))) else (if x1 = (1 : Int32) then (jlet (μ.1 1 2) (fun z5 : Int32 => jlet (jsI μ 1 2 x2) (fun μ6 : jM => some (z5, μ6)))) else (if x1 = (2 : Int32) then (jlet (μ.1 1 3) (fun z8 : Int32 => jlet (jsI μ 1 3 x2) (fun μ9 : jM => some (z8, μ9)))) else (jlet (μ.1 1 4) (fun z10 : Int32 => jlet (jsI μ 1 4 x2) (fun μ11 : jM => some (z10, μ11))))))
set_option maxHeartbeats 4000000 in
theorem M_X4_change {l : Launch} {Δ : jD} {r : Int32} {μ μ9 : jM} {x1 : Int32} {x2 : Int32}  (hsep : jSep Δ shC) (hf : f_X4_change x1 x2 μ = some (r, μ9)) : jMet l yX4_change cX4_change 4 (some .int) D_X4_change Δ shC [jr Δ 1, .int x1, .int x2] μ (some (.int r), μ9) := by
  refine jMet_of (own := RX4) (L := [some (jr Δ 1), some (.int x1), some (.int x2), none]) (by decide) rfl (Nat.le_of_ble_eq_true rfl) rfl hsep (fun Γ _ X => ?_)
  unfold f_X4_change at hf
  refine g_ild_n (pc := 0) (i := 1) X dX4_change_0 rfl rfl ?_
  by_cases h1 : x1 = (0 : Int32)
  · replace hf := jt_i h1 hf
    refine g_tblIn (pc := 1) 28 X dX4_change_1 (by rw [h1]; decide) (by rw [h1]; decide) (by rw [h1]; rfl) (by decide) ?_
    refine g_ald_n (pc := 28) (i := 0) X dX4_change_28 rfl rfl ?_
    refine g_getI (pc := 29) (k := 1) X dX4_change_29 cl_X4 rfl rfl (by decide) w_36 ?_
    refine g_nmI (fun z2 ez2 => ?_)
    replace hf := jlet_i ez2 hf
    refine g_ist_n (pc := 32) (i := 3) (L1 := [some (jr Δ 1), some (.int x1), some (.int x2), some (.int z2)]) X dX4_change_32 rfl (Nat.le_of_ble_eq_true rfl) rfl rfl ?_
    refine g_ald_n (pc := 33) (i := 0) X dX4_change_33 rfl rfl ?_
    refine g_ild_n (pc := 34) (i := 2) X dX4_change_34 rfl rfl ?_
    refine g_putI (pc := 35) (k := 1) X dX4_change_35 cl_X4 rfl rfl (by decide) w_36 rfl rfl rfl ?_
    refine g_nmM (fun μ3 eμ3 => ?_)
    replace hf := jlet_i eμ3 hf
    refine g_ild_n (pc := 38) (i := 3) X dX4_change_38 rfl rfl ?_
    exact g_iret (pc := 39) X dX4_change_39 hf
  replace hf := jf_i h1 hf
  by_cases h4 : x1 = (1 : Int32)
  · replace hf := jt_i h4 hf
    refine g_tblIn (pc := 1) 40 X dX4_change_1 (by rw [h4]; decide) (by rw [h4]; decide) (by rw [h4]; rfl) (by decide) ?_
    refine g_ald_n (pc := 40) (i := 0) X dX4_change_40 rfl rfl ?_
    refine g_getI (pc := 41) (k := 2) X dX4_change_41 cl_X4 rfl rfl (by decide) w_40 ?_
    refine g_nmI (fun z5 ez5 => ?_)
    replace hf := jlet_i ez5 hf
    refine g_ist_n (pc := 44) (i := 3) (L1 := [some (jr Δ 1), some (.int x1), some (.int x2), some (.int z5)]) X dX4_change_44 rfl (Nat.le_of_ble_eq_true rfl) rfl rfl ?_
    refine g_ald_n (pc := 45) (i := 0) X dX4_change_45 rfl rfl ?_
    refine g_ild_n (pc := 46) (i := 2) X dX4_change_46 rfl rfl ?_
    refine g_putI (pc := 47) (k := 2) X dX4_change_47 cl_X4 rfl rfl (by decide) w_40 rfl rfl rfl ?_
    refine g_nmM (fun μ6 eμ6 => ?_)
    replace hf := jlet_i eμ6 hf
    refine g_ild_n (pc := 50) (i := 3) X dX4_change_50 rfl rfl ?_
    exact g_iret (pc := 51) X dX4_change_51 hf
  replace hf := jf_i h4 hf
  by_cases h7 : x1 = (2 : Int32)
  · replace hf := jt_i h7 hf
    refine g_tblIn (pc := 1) 52 X dX4_change_1 (by rw [h7]; decide) (by rw [h7]; decide) (by rw [h7]; rfl) (by decide) ?_
    refine g_ald_n (pc := 52) (i := 0) X dX4_change_52 rfl rfl ?_
    refine g_getI (pc := 53) (k := 3) X dX4_change_53 cl_X4 rfl rfl (by decide) w_45 ?_
    refine g_nmI (fun z8 ez8 => ?_)
    replace hf := jlet_i ez8 hf
    refine g_ist_n (pc := 56) (i := 3) (L1 := [some (jr Δ 1), some (.int x1), some (.int x2), some (.int z8)]) X dX4_change_56 rfl (Nat.le_of_ble_eq_true rfl) rfl rfl ?_
    refine g_ald_n (pc := 57) (i := 0) X dX4_change_57 rfl rfl ?_
    refine g_ild_n (pc := 58) (i := 2) X dX4_change_58 rfl rfl ?_
    refine g_putI (pc := 59) (k := 3) X dX4_change_59 cl_X4 rfl rfl (by decide) w_45 rfl rfl rfl ?_
    refine g_nmM (fun μ9 eμ9 => ?_)
    replace hf := jlet_i eμ9 hf
    refine g_ild_n (pc := 62) (i := 3) X dX4_change_62 rfl rfl ?_
    exact g_iret (pc := 63) X dX4_change_63 hf
  replace hf := jf_i h7 hf
  refine g_tblOut (pc := 1) 64 X dX4_change_1 (by have yh1 := lv_neT (a := 0) h1 rfl; have yh4 := lv_neT (a := 1) h4 rfl; have yh7 := lv_neT (a := 2) h7 rfl; omega) (by decide) ?_
  refine g_ald_n (pc := 64) (i := 0) X dX4_change_64 rfl rfl ?_
  refine g_getI (pc := 65) (k := 4) X dX4_change_65 cl_X4 rfl rfl (by decide) w_49 ?_
  refine g_nmI (fun z10 ez10 => ?_)
  replace hf := jlet_i ez10 hf
  refine g_ist_n (pc := 68) (i := 3) (L1 := [some (jr Δ 1), some (.int x1), some (.int x2), some (.int z10)]) X dX4_change_68 rfl (Nat.le_of_ble_eq_true rfl) rfl rfl ?_
  refine g_ald_n (pc := 69) (i := 0) X dX4_change_69 rfl rfl ?_
  refine g_ild_n (pc := 70) (i := 2) X dX4_change_70 rfl rfl ?_
  refine g_putI (pc := 71) (k := 4) X dX4_change_71 cl_X4 rfl rfl (by decide) w_49 rfl rfl rfl ?_
  refine g_nmM (fun μ11 eμ11 => ?_)
  replace hf := jlet_i eμ11 hf
  refine g_ild_n (pc := 74) (i := 3) X dX4_change_74 rfl rfl ?_
  exact g_iret (pc := 75) X dX4_change_75 hf
/-! X4_isWhole -/
abbrev D_X4_isWhole : Nat := 0
noncomputable def f_X4_isWhole_34    (μ : jM) : Option (Int32 × jM) := jbl (0 : Int32) (some ((0 : Int32), μ))
noncomputable def f_X4_isWhole_19   (x1 : Int32) (s0 : Int32) (μ : jM) : Option (Int32 × jM) := if s0 ≤ (0 : Int32) then (f_X4_isWhole_34     μ) else (jnz s0 (if (x1 - x1 / s0 * s0) = (0 : Int32) then (jbl (1 : Int32) (some ((1 : Int32), μ))) else (f_X4_isWhole_34     μ)))
noncomputable def f_X4_isWhole (x1 : Int32) (μ : jM) : Option (Int32 × jM) := if (μ.1 1 0) = (2 : Int32) then (f_X4_isWhole_19    x1 (μ.1 1 2) μ) else (f_X4_isWhole_19    x1 (μ.1 1 1) μ)
set_option maxHeartbeats 4000000 in
theorem t_X4_isWhole_34 {Γ : jC} {Δ : jD} {r : Int32} {μ9 : jM}    (X : jOk Γ Δ shC cX4_isWhole 3 RX4 (some .boolean) D_X4_isWhole)  : ∀ (μ : jM), f_X4_isWhole_34    μ = some (r, μ9) → jG Γ Δ shC (some (.int r), μ9) 34 [none, none, none] [] μ := by
  intro  μ hf
  unfold f_X4_isWhole_34 at hf
  refine g_iconst (pc := 34) (v := (0 : Int32)) X dX4_isWhole_34 (by decide) ?_
  obtain ⟨hb1, hf⟩ := jbl_i hf
  exact g_zret (pc := 35) X dX4_isWhole_35 hb1 hf
set_option maxHeartbeats 4000000 in
theorem t_X4_isWhole_19 {Γ : jC} {Δ : jD} {r : Int32} {μ9 : jM}    (X : jOk Γ Δ shC cX4_isWhole 3 RX4 (some .boolean) D_X4_isWhole)  : ∀ (x1 : Int32) (s0 : Int32) (μ : jM), f_X4_isWhole_19   x1 s0 μ = some (r, μ9) → jG Γ Δ shC (some (.int r), μ9) 19 [none, some (.int x1), none] [.int s0] μ := by
  intro x1 s0 μ hf
  unfold f_X4_isWhole_19 at hf
  refine g_ist_n (pc := 19) (i := 2) (L1 := [none, some (.int x1), some (.int s0)]) X dX4_isWhole_19 rfl (Nat.le_of_ble_eq_true rfl) rfl rfl ?_
  refine g_ild_n (pc := 20) (i := 2) X dX4_isWhole_20 rfl rfl ?_
  refine g_if_le (pc := 21) 34 X dX4_isWhole_21 (by decide) (fun h5 => ?_) (fun h5 => ?_)
  · replace hf := jt_i h5 hf
    exact g_weak (t_X4_isWhole_34  X    _ hf) (trivial)
  · replace hf := jf_i h5 hf
    refine g_ild_n (pc := 24) (i := 1) X dX4_isWhole_24 rfl rfl ?_
    refine g_ild_n (pc := 25) (i := 2) X dX4_isWhole_25 rfl rfl ?_
    obtain ⟨hz2, hf⟩ := jnz_i hf
    refine g_irem (pc := 26) X dX4_isWhole_26 hz2 ?_
    refine g_if_ne (pc := 27) 34 X dX4_isWhole_27 (by decide) (fun h4 => ?_) (fun h4 => ?_)
    · replace hf := jf_i h4 hf
      exact g_weak (t_X4_isWhole_34  X    _ hf) (trivial)
    · replace hf := jt_i h4 hf
      refine g_iconst (pc := 30) (v := (1 : Int32)) X dX4_isWhole_30 (by decide) ?_
      refine g_goto (pc := 31) 35 X dX4_isWhole_31 (by decide) ?_
      obtain ⟨hb3, hf⟩ := jbl_i hf
      exact g_zret (pc := 35) X dX4_isWhole_35 hb3 hf
set_option maxHeartbeats 4000000 in
theorem M_X4_isWhole {l : Launch} {Δ : jD} {r : Int32} {μ μ9 : jM} {x1 : Int32}  (hsep : jSep Δ shC) (hf : f_X4_isWhole x1 μ = some (r, μ9)) : jMet l yX4_isWhole cX4_isWhole 3 (some .boolean) D_X4_isWhole Δ shC [jr Δ 1, .int x1] μ (some (.int r), μ9) := by
  refine jMet_of (own := RX4) (L := [some (jr Δ 1), some (.int x1), none]) (by decide) rfl (Nat.le_of_ble_eq_true rfl) rfl hsep (fun Γ _ X => ?_)
  unfold f_X4_isWhole at hf
  refine g_ald_n (pc := 0) (i := 0) X dX4_isWhole_0 rfl rfl ?_
  refine g_getI (pc := 1) (k := 0) X dX4_isWhole_1 cl_X4 rfl rfl (by decide) w_31 ?_
  refine g_iconst (pc := 4) (v := (2 : Int32)) X dX4_isWhole_4 (by decide) ?_
  refine g_icmp_ne (pc := 5) 15 X dX4_isWhole_5 (by decide) (fun h6 => ?_) (fun h6 => ?_)
  · replace hf := jf_i h6 hf
    refine g_ald_n (pc := 15) (i := 0) X dX4_isWhole_15 rfl rfl ?_
    refine g_getI (pc := 16) (k := 1) X dX4_isWhole_16 cl_X4 rfl rfl (by decide) w_36 ?_
    exact g_weak (t_X4_isWhole_19  X   _ _ _ hf) (⟨rfl, trivial⟩)
  · replace hf := jt_i h6 hf
    refine g_ald_n (pc := 8) (i := 0) X dX4_isWhole_8 rfl rfl ?_
    refine g_getI (pc := 9) (k := 2) X dX4_isWhole_9 cl_X4 rfl rfl (by decide) w_40 ?_
    refine g_goto (pc := 12) 19 X dX4_isWhole_12 (by decide) ?_
    exact g_weak (t_X4_isWhole_19  X   _ _ _ hf) (⟨rfl, trivial⟩)
/-! X4_rowsIn -/
abbrev D_X4_rowsIn : Nat := 0
noncomputable def f_X4_rowsIn (x1 : Int32) (μ : jM) : Option (Int32 × jM) := if (μ.1 1 2) ≤ (0 : Int32) then (some ((0 : Int32), μ)) else (jnz (μ.1 1 2) (some ((x1 / (μ.1 1 2)), μ)))
set_option maxHeartbeats 4000000 in
theorem M_X4_rowsIn {l : Launch} {Δ : jD} {r : Int32} {μ μ9 : jM} {x1 : Int32}  (hsep : jSep Δ shC) (hf : f_X4_rowsIn x1 μ = some (r, μ9)) : jMet l yX4_rowsIn cX4_rowsIn 2 (some .int) D_X4_rowsIn Δ shC [jr Δ 1, .int x1] μ (some (.int r), μ9) := by
  refine jMet_of (own := RX4) (L := [some (jr Δ 1), some (.int x1)]) (by decide) rfl (Nat.le_of_ble_eq_true rfl) rfl hsep (fun Γ _ X => ?_)
  unfold f_X4_rowsIn at hf
  refine g_ald_n (pc := 0) (i := 0) X dX4_rowsIn_0 rfl rfl ?_
  refine g_getI (pc := 1) (k := 2) X dX4_rowsIn_1 cl_X4 rfl rfl (by decide) w_40 ?_
  refine g_if_le (pc := 4) 16 X dX4_rowsIn_4 (by decide) (fun h2 => ?_) (fun h2 => ?_)
  · replace hf := jt_i h2 hf
    refine g_iconst (pc := 16) (v := (0 : Int32)) X dX4_rowsIn_16 (by decide) ?_
    exact g_iret (pc := 17) X dX4_rowsIn_17 hf
  · replace hf := jf_i h2 hf
    refine g_ild_n (pc := 7) (i := 1) X dX4_rowsIn_7 rfl rfl ?_
    refine g_ald_n (pc := 8) (i := 0) X dX4_rowsIn_8 rfl rfl ?_
    refine g_getI (pc := 9) (k := 2) X dX4_rowsIn_9 cl_X4 rfl rfl (by decide) w_40 ?_
    obtain ⟨hz1, hf⟩ := jnz_i hf
    refine g_idiv (pc := 12) X dX4_rowsIn_12 hz1 ?_
    refine g_goto (pc := 13) 17 X dX4_rowsIn_13 (by decide) ?_
    exact g_iret (pc := 17) X dX4_rowsIn_17 hf
