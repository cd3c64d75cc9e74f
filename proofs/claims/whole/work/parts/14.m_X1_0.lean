/-! X1_addUp -/
abbrev D_X1_addUp : Nat := 2
noncomputable def f_X1_addUp_39  (k4 : Int32 → Int32 → jM → Option (Unit × jM)) : Nat → Int32 → Int32 → Int32 → jM → Option (Unit × jM)
  | 0, _, _, _, _ => none
  | fu + 1, x1, x2, x3, μ => if (μ.1 1 1) ≤ x3 then (jlet (x2 + (1 : Int32)) (fun z1 : Int32 => k4 x1 z1 μ)) else (jcall (f_X4_byteOf x1 x3 μ) (fun (r2 : Int32) (μ2 : jM) => jcall (f_X0_set 15 240 ((x2 * (μ.1 1 1)) + x3) r2 μ2) (fun (r3 : Unit) (μ3 : jM) => jlet (x3 + (1 : Int32)) (fun z4 : Int32 => f_X1_addUp_39  k4 fu x1 x2 z4 μ3))))
noncomputable def f_X1_addUp_4   : Nat → Int32 → Int32 → jM → Option (Unit × jM)
  | 0, _, _, _ => none
  | fu + 1, x1, x2, μ => jcall (f_X4_unitsIn (μ.1 15 1) μ) (fun (r6 : Int32) (μ6 : jM) => if r6 ≤ x2 then (some ((), μ6)) else (jcall (f_X4_numberAt 15 240 x2 μ6) (fun (r7 : Int32) (μ7 : jM) => jlet (x1 + r7) (fun z8 : Int32 => f_X1_addUp_39  (fun x1 x2 μ => f_X1_addUp_4   fu x1 x2 μ) jFU z8 x2 (0 : Int32) μ7))))
noncomputable def f_X1_addUp  (μ : jM) : Option (Unit × jM) := f_X1_addUp_4   jFU (0 : Int32) (0 : Int32) μ
set_option maxHeartbeats 4000000 in
theorem t_X1_addUp_39 {Γ : jC} {Δ : jD} {r : Unit} {μ9 : jM}  {k4 : Int32 → Int32 → jM → Option (Unit × jM)}  (X : jOk Γ Δ shC cX1_addUp 4 RX1 none D_X1_addUp) (hk4 : ∀ (x1 : Int32) (x2 : Int32) (μ : jM), k4 x1 x2 μ = some (r, μ9) → jG Γ Δ shC (none, μ9) 4 [some (jr Δ 14), some (.int x1), some (.int x2), none] [] μ) : ∀ (fu : Nat) (x1 : Int32) (x2 : Int32) (x3 : Int32) (μ : jM), f_X1_addUp_39  k4 fu x1 x2 x3 μ = some (r, μ9) → jG Γ Δ shC (none, μ9) 39 [some (jr Δ 14), some (.int x1), some (.int x2), some (.int x3)] [] μ := by
  intro fu
  induction fu with
  | zero =>
    intro x1 x2 x3 μ hf
    cases hf
  | succ fu ih =>
    intro x1 x2 x3 μ hf
    replace hf := (f_X1_addUp_39.eq_2 _ _ _ _ _ _).symm.trans hf
    refine g_ild_n (pc := 39) (i := 3) X dX1_addUp_39 rfl rfl ?_
    refine g_ald_n (pc := 40) (i := 0) X dX1_addUp_40 rfl rfl ?_
    refine g_getR (pc := 41) (k := 0) X dX1_addUp_41 cl_X1 rfl rfl (by decide) w_131 ?_
    refine g_getI (pc := 44) (k := 1) X dX1_addUp_44 cl_X4 rfl rfl (by decide) w_38 ?_
    refine g_icmp_ge (pc := 47) 83 X dX1_addUp_47 (by decide) (fun h5 => ?_) (fun h5 => ?_)
    · replace hf := jt_i h5 hf
      obtain ⟨z1, ez1⟩ : ∃ z : Int32, z = x2 + (1 : Int32) := ⟨_, rfl⟩
      replace hf := jlet_i ez1 hf
      refine g_iinc (pc := 83) (L1 := [some (jr Δ 14), some (.int x1), some (.int z1), some (.int x3)]) X dX1_addUp_83 rfl (by rw [ez1]; rfl) rfl rfl ?_
      refine g_goto (pc := 86) 4 X dX1_addUp_86 (by decide) ?_
      exact g_weak (hk4 _ _ _ hf) (⟨rfl, ⟨rfl, ⟨rfl, trivial⟩⟩⟩)
    · replace hf := jf_i h5 hf
      refine g_ald_n (pc := 50) (i := 0) X dX1_addUp_50 rfl rfl ?_
      refine g_getR (pc := 51) (k := 2) X dX1_addUp_51 cl_X1 rfl rfl (by decide) w_133 ?_
      refine g_ild_n (pc := 54) (i := 2) X dX1_addUp_54 rfl rfl ?_
      refine g_ald_n (pc := 55) (i := 0) X dX1_addUp_55 rfl rfl ?_
      refine g_getR (pc := 56) (k := 0) X dX1_addUp_56 cl_X1 rfl rfl (by decide) w_131 ?_
      refine g_getI (pc := 59) (k := 1) X dX1_addUp_59 cl_X4 rfl rfl (by decide) w_38 ?_
      refine g_imul (pc := 62) X dX1_addUp_62 ?_
      refine g_ild_n (pc := 63) (i := 3) X dX1_addUp_63 rfl rfl ?_
      refine g_iadd (pc := 64) X dX1_addUp_64 ?_
      refine g_ald_n (pc := 65) (i := 0) X dX1_addUp_65 rfl rfl ?_
      refine g_getR (pc := 66) (k := 0) X dX1_addUp_66 cl_X1 rfl rfl (by decide) w_131 ?_
      refine g_ild_n (pc := 69) (i := 1) X dX1_addUp_69 rfl rfl ?_
      refine g_ild_n (pc := 70) (i := 3) X dX1_addUp_70 rfl rfl ?_
      obtain ⟨r2, μ2, hc2, hf⟩ := jcall_i hf
      refine g_callVi (pc := 71) [.int x1, .int x3] X dX1_addUp_71 (M_X4_byteOf  (jOk_sep X) hc2) Y_X4_byteOf w_490 w_331 w_330 cl_X4 rfl rfl (by decide) rfl rfl (Nat.le_of_ble_eq_true rfl) rfl ?_
      obtain ⟨r3, μ3, hc3, hf⟩ := jcall_i hf
      refine g_callVv (pc := 74) [.int ((x2 * (μ.1 1 1)) + x3), .int r2] X dX1_addUp_74 (M_X0_set ⟨rfl, rfl⟩ (jOk_sep X) hc3) Y_X0_set w_468 w_470 w_469 cl_X0 rfl rfl (by decide) rfl rfl (Nat.le_of_ble_eq_true rfl) rfl ?_
      obtain ⟨z4, ez4⟩ : ∃ z : Int32, z = x3 + (1 : Int32) := ⟨_, rfl⟩
      replace hf := jlet_i ez4 hf
      refine g_iinc (pc := 77) (L1 := [some (jr Δ 14), some (.int x1), some (.int x2), some (.int z4)]) X dX1_addUp_77 rfl (by rw [ez4]; rfl) rfl rfl ?_
      refine g_goto (pc := 80) 39 X dX1_addUp_80 (by decide) ?_
      exact g_weak (ih _ _ _ _ hf) (⟨rfl, ⟨rfl, ⟨rfl, ⟨rfl, trivial⟩⟩⟩⟩)
set_option maxHeartbeats 4000000 in
theorem t_X1_addUp_4 {Γ : jC} {Δ : jD} {r : Unit} {μ9 : jM}    (X : jOk Γ Δ shC cX1_addUp 4 RX1 none D_X1_addUp)  : ∀ (fu : Nat) (x1 : Int32) (x2 : Int32) (μ : jM), f_X1_addUp_4   fu x1 x2 μ = some (r, μ9) → jG Γ Δ shC (none, μ9) 4 [some (jr Δ 14), some (.int x1), some (.int x2), none] [] μ := by
  intro fu
  induction fu with
  | zero =>
    intro x1 x2 μ hf
    cases hf
  | succ fu ih =>
    intro x1 x2 μ hf
    replace hf := (f_X1_addUp_4.eq_2 _ _ _ _).symm.trans hf
    refine g_ild_n (pc := 4) (i := 2) X dX1_addUp_4 rfl rfl ?_
    refine g_ald_n (pc := 5) (i := 0) X dX1_addUp_5 rfl rfl ?_
    refine g_getR (pc := 6) (k := 0) X dX1_addUp_6 cl_X1 rfl rfl (by decide) w_131 ?_
    refine g_ald_n (pc := 9) (i := 0) X dX1_addUp_9 rfl rfl ?_
    refine g_getR (pc := 10) (k := 2) X dX1_addUp_10 cl_X1 rfl rfl (by decide) w_133 ?_
    refine g_getI (pc := 13) (k := 1) X dX1_addUp_13 cl_X0 rfl rfl (by decide) w_73 ?_
    obtain ⟨r6, μ6, hc6, hf⟩ := jcall_i hf
    refine g_callVi (pc := 16) [.int (μ.1 15 1)] X dX1_addUp_16 (M_X4_unitsIn  (jOk_sep X) hc6) Y_X4_unitsIn w_488 w_284 w_283 cl_X4 rfl rfl (by decide) rfl rfl (Nat.le_of_ble_eq_true rfl) rfl ?_
    refine g_icmp_ge (pc := 19) 89 X dX1_addUp_19 (by decide) (fun h9 => ?_) (fun h9 => ?_)
    · replace hf := jt_i h9 hf
      exact g_vret (pc := 89) X dX1_addUp_89 hf
    · replace hf := jf_i h9 hf
      refine g_ild_n (pc := 22) (i := 1) X dX1_addUp_22 rfl rfl ?_
      refine g_ald_n (pc := 23) (i := 0) X dX1_addUp_23 rfl rfl ?_
      refine g_getR (pc := 24) (k := 0) X dX1_addUp_24 cl_X1 rfl rfl (by decide) w_131 ?_
      refine g_ald_n (pc := 27) (i := 0) X dX1_addUp_27 rfl rfl ?_
      refine g_getR (pc := 28) (k := 2) X dX1_addUp_28 cl_X1 rfl rfl (by decide) w_133 ?_
      refine g_ild_n (pc := 31) (i := 2) X dX1_addUp_31 rfl rfl ?_
      obtain ⟨r7, μ7, hc7, hf⟩ := jcall_i hf
      refine g_callVi (pc := 32) [jr Δ 15, .int x2] X dX1_addUp_32 (M_X4_numberAt ⟨rfl, rfl⟩ (jOk_sep X) hc7) Y_X4_numberAt w_489 w_288 w_287 cl_X4 rfl rfl (by decide) rfl rfl (Nat.le_of_ble_eq_true rfl) rfl ?_
      refine g_iadd (pc := 35) X dX1_addUp_35 ?_
      refine g_nmI (fun z8 ez8 => ?_)
      replace hf := jlet_i ez8 hf
      refine g_ist_n (pc := 36) (i := 1) (L1 := [some (jr Δ 14), some (.int z8), some (.int x2), none]) X dX1_addUp_36 rfl (Nat.le_of_ble_eq_true rfl) rfl rfl ?_
      refine g_iconst (pc := 37) (v := (0 : Int32)) X dX1_addUp_37 (by decide) ?_
      refine g_ist_n (pc := 38) (i := 3) (L1 := [some (jr Δ 14), some (.int z8), some (.int x2), some (.int (0 : Int32))]) X dX1_addUp_38 rfl (Nat.le_of_ble_eq_true rfl) rfl rfl ?_
      exact g_weak (t_X1_addUp_39  X (fun _ _ _ h => ih _ _ _ h) jFU _ _ _ _ hf) (⟨rfl, ⟨rfl, ⟨rfl, ⟨rfl, trivial⟩⟩⟩⟩)
set_option maxHeartbeats 4000000 in
theorem M_X1_addUp {l : Launch} {Δ : jD} {r : Unit} {μ μ9 : jM}   (hsep : jSep Δ shC) (hf : f_X1_addUp  μ = some (r, μ9)) : jMet l yX1_addUp cX1_addUp 4 none D_X1_addUp Δ shC [jr Δ 14] μ (none, μ9) := by
  refine jMet_of (own := RX1) (L := [some (jr Δ 14), none, none, none]) (by decide) rfl (Nat.le_of_ble_eq_true rfl) rfl hsep (fun Γ _ X => ?_)
  unfold f_X1_addUp at hf
  refine g_iconst (pc := 0) (v := (0 : Int32)) X dX1_addUp_0 (by decide) ?_
  refine g_ist_n (pc := 1) (i := 1) (L1 := [some (jr Δ 14), some (.int (0 : Int32)), none, none]) X dX1_addUp_1 rfl (Nat.le_of_ble_eq_true rfl) rfl rfl ?_
  refine g_iconst (pc := 2) (v := (0 : Int32)) X dX1_addUp_2 (by decide) ?_
  refine g_ist_n (pc := 3) (i := 2) (L1 := [some (jr Δ 14), some (.int (0 : Int32)), some (.int (0 : Int32)), none]) X dX1_addUp_3 rfl (Nat.le_of_ble_eq_true rfl) rfl rfl ?_
  exact g_weak (t_X1_addUp_4  X  jFU _ _ _ hf) (⟨rfl, ⟨rfl, ⟨rfl, trivial⟩⟩⟩)
/-! X1_takeEnd -/
abbrev D_X1_takeEnd : Nat := 0
noncomputable def f_X1_takeEnd  (μ : jM) : Option (Int32 × jM) := if (μ.1 4 1) ≤ ((μ.1 14 4) + (2 : Int32)) then (jbl (1 : Int32) (jlet (jsI μ 14 6 (1 : Int32)) (fun μ1 : jM => some ((0 : Int32), μ1)))) else (jlet (jsI μ 14 4 ((μ.1 14 4) + (2 : Int32))) (fun μ3 : jM => some ((5 : Int32), μ3)))
set_option maxHeartbeats 4000000 in
theorem M_X1_takeEnd {l : Launch} {Δ : jD} {r : Int32} {μ μ9 : jM}   (hsep : jSep Δ shC) (hf : f_X1_takeEnd  μ = some (r, μ9)) : jMet l yX1_takeEnd cX1_takeEnd 1 (some .int) D_X1_takeEnd Δ shC [jr Δ 14] μ (some (.int r), μ9) := by
  refine jMet_of (own := RX1) (L := [some (jr Δ 14)]) (by decide) rfl (Nat.le_of_ble_eq_true rfl) rfl hsep (fun Γ _ X => ?_)
  unfold f_X1_takeEnd at hf
  refine g_ald_n (pc := 0) (i := 0) X dX1_takeEnd_0 rfl rfl ?_
  refine g_getI (pc := 1) (k := 4) X dX1_takeEnd_1 cl_X1 rfl rfl (by decide) w_137 ?_
  refine g_iconst (pc := 4) (v := (2 : Int32)) X dX1_takeEnd_4 (by decide) ?_
  refine g_iadd (pc := 5) X dX1_takeEnd_5 ?_
  refine g_ald_n (pc := 6) (i := 0) X dX1_takeEnd_6 rfl rfl ?_
  refine g_getR (pc := 7) (k := 1) X dX1_takeEnd_7 cl_X1 rfl rfl (by decide) w_132 ?_
  refine g_getI (pc := 10) (k := 1) X dX1_takeEnd_10 cl_X0 rfl rfl (by decide) w_73 ?_
  refine g_icmp_ge (pc := 13) 28 X dX1_takeEnd_13 (by decide) (fun h4 => ?_) (fun h4 => ?_)
  · replace hf := jt_i h4 hf
    refine g_ald_n (pc := 28) (i := 0) X dX1_takeEnd_28 rfl rfl ?_
    refine g_iconst (pc := 29) (v := (1 : Int32)) X dX1_takeEnd_29 (by decide) ?_
    obtain ⟨hb2, hf⟩ := jbl_i hf
    refine g_putI (pc := 30) (k := 6) X dX1_takeEnd_30 cl_X1 rfl rfl (by decide) w_140 rfl (jb_n hb2) (jb_f hb2) ?_
    refine g_nmM (fun μ1 eμ1 => ?_)
    replace hf := jlet_i eμ1 hf
    refine g_iconst (pc := 33) (v := (0 : Int32)) X dX1_takeEnd_33 (by decide) ?_
    exact g_iret (pc := 34) X dX1_takeEnd_34 hf
  · replace hf := jf_i h4 hf
    refine g_ald_n (pc := 16) (i := 0) X dX1_takeEnd_16 rfl rfl ?_
    refine g_dupR (pc := 17) X dX1_takeEnd_17 ?_
    refine g_getI (pc := 18) (k := 4) X dX1_takeEnd_18 cl_X1 rfl rfl (by decide) w_137 ?_
    refine g_iconst (pc := 21) (v := (2 : Int32)) X dX1_takeEnd_21 (by decide) ?_
    refine g_iadd (pc := 22) X dX1_takeEnd_22 ?_
    refine g_putI (pc := 23) (k := 4) X dX1_takeEnd_23 cl_X1 rfl rfl (by decide) w_137 rfl rfl rfl ?_
    refine g_nmM (fun μ3 eμ3 => ?_)
    replace hf := jlet_i eμ3 hf
    refine g_iconst (pc := 26) (v := (5 : Int32)) X dX1_takeEnd_26 (by decide) ?_
    exact g_iret (pc := 27) X dX1_takeEnd_27 hf
/-! X1_takeUnits -/
abbrev D_X1_takeUnits : Nat := 1
noncomputable def f_X1_takeUnits_55  (k46 : Int32 → Int32 → Int32 → Int32 → jM → Option (Int32 × jM)) : Nat → Int32 → Int32 → Int32 → Int32 → Int32 → jM → Option (Int32 × jM)
  | 0, _, _, _, _, _, _ => none
  | fu + 1, x1, x3, x4, x5, x6, μ => if x4 ≤ x6 then (jlet (x5 + (1 : Int32)) (fun z1 : Int32 => k46 x1 x3 x4 z1 μ)) else (jcall (f_X0_get 4 1000 (x1 + x6) μ) (fun (r2 : Int32) (μ2 : jM) => jcall (f_X0_add 15 240 r2 μ2) (fun (r3 : Unit) (μ3 : jM) => jlet (x6 + (1 : Int32)) (fun z4 : Int32 => f_X1_takeUnits_55  k46 fu x1 x3 x4 x5 z4 μ3))))
noncomputable def f_X1_takeUnits_46   : Nat → Int32 → Int32 → Int32 → Int32 → jM → Option (Int32 × jM)
  | 0, _, _, _, _, _ => none
  | fu + 1, x1, x3, x4, x5, μ => if x3 ≤ x5 then (jlet (jsI μ 14 5 (x1 + x4)) (fun μ6 : jM => some ((0 : Int32), μ6))) else (f_X1_takeUnits_55  (fun x1 x3 x4 x5 μ => f_X1_takeUnits_46   fu x1 x3 x4 x5 μ) jFU x1 x3 x4 x5 (0 : Int32) μ)
noncomputable def f_X1_takeUnits (x1 : Int32) (x2 : Int32) (x3 : Int32) (μ : jM) : Option (Int32 × jM) := jlet (x2 * (μ.1 1 1)) (fun z8 : Int32 => if z8 ≤ ((μ.1 4 1) - x1) then (jcall (f_X0_hasRoom 15 240 (z8 * x3) μ) (fun (r9 : Int32) (μ9 : jM) => if r9 = (0 : Int32) then (some ((4 : Int32), μ9)) else (f_X1_takeUnits_46   jFU x1 x3 z8 (0 : Int32) μ9))) else (some ((2 : Int32), μ)))
set_option maxHeartbeats 4000000 in
theorem t_X1_takeUnits_55 {Γ : jC} {Δ : jD} {r : Int32} {μ9 : jM}  {k46 : Int32 → Int32 → Int32 → Int32 → jM → Option (Int32 × jM)}  (X : jOk Γ Δ shC cX1_takeUnits 7 RX1 (some .int) D_X1_takeUnits) (hk46 : ∀ (x1 : Int32) (x3 : Int32) (x4 : Int32) (x5 : Int32) (μ : jM), k46 x1 x3 x4 x5 μ = some (r, μ9) → jG Γ Δ shC (some (.int r), μ9) 46 [some (jr Δ 14), some (.int x1), none, some (.int x3), some (.int x4), some (.int x5), none] [] μ) : ∀ (fu : Nat) (x1 : Int32) (x3 : Int32) (x4 : Int32) (x5 : Int32) (x6 : Int32) (μ : jM), f_X1_takeUnits_55  k46 fu x1 x3 x4 x5 x6 μ = some (r, μ9) → jG Γ Δ shC (some (.int r), μ9) 55 [some (jr Δ 14), some (.int x1), none, some (.int x3), some (.int x4), some (.int x5), some (.int x6)] [] μ := by
  intro fu
  induction fu with
  | zero =>
    intro x1 x3 x4 x5 x6 μ hf
    cases hf
  | succ fu ih =>
    intro x1 x3 x4 x5 x6 μ hf
    replace hf := (f_X1_takeUnits_55.eq_2 _ _ _ _ _ _ _ _).symm.trans hf
    refine g_ild (pc := 55) X dX1_takeUnits_55 rfl ?_
    refine g_ild (pc := 57) X dX1_takeUnits_57 rfl ?_
    refine g_icmp_ge (pc := 59) 86 X dX1_takeUnits_59 (by decide) (fun h5 => ?_) (fun h5 => ?_)
    · replace hf := jt_i h5 hf
      obtain ⟨z1, ez1⟩ : ∃ z : Int32, z = x5 + (1 : Int32) := ⟨_, rfl⟩
      replace hf := jlet_i ez1 hf
      refine g_iinc (pc := 86) (L1 := [some (jr Δ 14), some (.int x1), none, some (.int x3), some (.int x4), some (.int z1), some (.int x6)]) X dX1_takeUnits_86 rfl (by rw [ez1]; rfl) rfl rfl ?_
      refine g_goto (pc := 89) 46 X dX1_takeUnits_89 (by decide) ?_
      exact g_weak (hk46 _ _ _ _ _ hf) (⟨rfl, ⟨rfl, ⟨rfl, ⟨rfl, ⟨rfl, trivial⟩⟩⟩⟩⟩)
    · replace hf := jf_i h5 hf
      refine g_ald_n (pc := 62) (i := 0) X dX1_takeUnits_62 rfl rfl ?_
      refine g_getR (pc := 63) (k := 2) X dX1_takeUnits_63 cl_X1 rfl rfl (by decide) w_133 ?_
      refine g_ald_n (pc := 66) (i := 0) X dX1_takeUnits_66 rfl rfl ?_
      refine g_getR (pc := 67) (k := 1) X dX1_takeUnits_67 cl_X1 rfl rfl (by decide) w_132 ?_
      refine g_ild_n (pc := 70) (i := 1) X dX1_takeUnits_70 rfl rfl ?_
      refine g_ild (pc := 71) X dX1_takeUnits_71 rfl ?_
      refine g_iadd (pc := 73) X dX1_takeUnits_73 ?_
      obtain ⟨r2, μ2, hc2, hf⟩ := jcall_i hf
      refine g_callVi (pc := 74) [.int (x1 + x6)] X dX1_takeUnits_74 (M_X0_get ⟨rfl, rfl⟩ (jOk_sep X) hc2) Y_X0_get w_433 w_292 w_291 cl_X0 rfl rfl (by decide) rfl rfl (Nat.le_of_ble_eq_true rfl) rfl ?_
      obtain ⟨r3, μ3, hc3, hf⟩ := jcall_i hf
      refine g_callVv (pc := 77) [.int r2] X dX1_takeUnits_77 (M_X0_add ⟨rfl, rfl⟩ (jOk_sep X) hc3) Y_X0_add w_439 w_232 w_231 cl_X0 rfl rfl (by decide) rfl rfl (Nat.le_of_ble_eq_true rfl) rfl ?_
      obtain ⟨z4, ez4⟩ : ∃ z : Int32, z = x6 + (1 : Int32) := ⟨_, rfl⟩
      replace hf := jlet_i ez4 hf
      refine g_iinc (pc := 80) (L1 := [some (jr Δ 14), some (.int x1), none, some (.int x3), some (.int x4), some (.int x5), some (.int z4)]) X dX1_takeUnits_80 rfl (by rw [ez4]; rfl) rfl rfl ?_
      refine g_goto (pc := 83) 55 X dX1_takeUnits_83 (by decide) ?_
      exact g_weak (ih _ _ _ _ _ _ hf) (⟨rfl, ⟨rfl, ⟨rfl, ⟨rfl, ⟨rfl, ⟨rfl, trivial⟩⟩⟩⟩⟩⟩)
set_option maxHeartbeats 4000000 in
theorem t_X1_takeUnits_46 {Γ : jC} {Δ : jD} {r : Int32} {μ9 : jM}    (X : jOk Γ Δ shC cX1_takeUnits 7 RX1 (some .int) D_X1_takeUnits)  : ∀ (fu : Nat) (x1 : Int32) (x3 : Int32) (x4 : Int32) (x5 : Int32) (μ : jM), f_X1_takeUnits_46   fu x1 x3 x4 x5 μ = some (r, μ9) → jG Γ Δ shC (some (.int r), μ9) 46 [some (jr Δ 14), some (.int x1), none, some (.int x3), some (.int x4), some (.int x5), none] [] μ := by
  intro fu
  induction fu with
  | zero =>
    intro x1 x3 x4 x5 μ hf
    cases hf
  | succ fu ih =>
    intro x1 x3 x4 x5 μ hf
    replace hf := (f_X1_takeUnits_46.eq_2 _ _ _ _ _ _).symm.trans hf
    refine g_ild (pc := 46) X dX1_takeUnits_46 rfl ?_
    refine g_ild_n (pc := 48) (i := 3) X dX1_takeUnits_48 rfl rfl ?_
    refine g_icmp_ge (pc := 49) 92 X dX1_takeUnits_49 (by decide) (fun h7 => ?_) (fun h7 => ?_)
    · replace hf := jt_i h7 hf
      refine g_ald_n (pc := 92) (i := 0) X dX1_takeUnits_92 rfl rfl ?_
      refine g_ild_n (pc := 93) (i := 1) X dX1_takeUnits_93 rfl rfl ?_
      refine g_ild (pc := 94) X dX1_takeUnits_94 rfl ?_
      refine g_iadd (pc := 96) X dX1_takeUnits_96 ?_
      refine g_putI (pc := 97) (k := 5) X dX1_takeUnits_97 cl_X1 rfl rfl (by decide) w_139 rfl rfl rfl ?_
      refine g_nmM (fun μ6 eμ6 => ?_)
      replace hf := jlet_i eμ6 hf
      refine g_iconst (pc := 100) (v := (0 : Int32)) X dX1_takeUnits_100 (by decide) ?_
      exact g_iret (pc := 101) X dX1_takeUnits_101 hf
    · replace hf := jf_i h7 hf
      refine g_iconst (pc := 52) (v := (0 : Int32)) X dX1_takeUnits_52 (by decide) ?_
      refine g_ist (pc := 53) (L1 := [some (jr Δ 14), some (.int x1), none, some (.int x3), some (.int x4), some (.int x5), some (.int (0 : Int32))]) X dX1_takeUnits_53 (Nat.le_of_ble_eq_true rfl) rfl rfl ?_
      exact g_weak (t_X1_takeUnits_55  X (fun _ _ _ _ _ h => ih _ _ _ _ _ h) jFU _ _ _ _ _ _ hf) (⟨rfl, ⟨rfl, ⟨rfl, ⟨rfl, ⟨rfl, ⟨rfl, trivial⟩⟩⟩⟩⟩⟩)
set_option maxHeartbeats 4000000 in
theorem M_X1_takeUnits {l : Launch} {Δ : jD} {r : Int32} {μ μ9 : jM} {x1 : Int32} {x2 : Int32} {x3 : Int32}  (hsep : jSep Δ shC) (hf : f_X1_takeUnits x1 x2 x3 μ = some (r, μ9)) : jMet l yX1_takeUnits cX1_takeUnits 7 (some .int) D_X1_takeUnits Δ shC [jr Δ 14, .int x1, .int x2, .int x3] μ (some (.int r), μ9) := by
  refine jMet_of (own := RX1) (L := [some (jr Δ 14), some (.int x1), some (.int x2), some (.int x3), none, none, none]) (by decide) rfl (Nat.le_of_ble_eq_true rfl) rfl hsep (fun Γ _ X => ?_)
  unfold f_X1_takeUnits at hf
  refine g_ild_n (pc := 0) (i := 2) X dX1_takeUnits_0 rfl rfl ?_
  refine g_ald_n (pc := 1) (i := 0) X dX1_takeUnits_1 rfl rfl ?_
  refine g_getR (pc := 2) (k := 0) X dX1_takeUnits_2 cl_X1 rfl rfl (by decide) w_131 ?_
  refine g_getI (pc := 5) (k := 1) X dX1_takeUnits_5 cl_X4 rfl rfl (by decide) w_38 ?_
  refine g_imul (pc := 8) X dX1_takeUnits_8 ?_
  refine g_nmI (fun z8 ez8 => ?_)
  replace hf := jlet_i ez8 hf
  refine g_ist (pc := 9) (L1 := [some (jr Δ 14), some (.int x1), some (.int x2), some (.int x3), some (.int z8), none, none]) X dX1_takeUnits_9 (Nat.le_of_ble_eq_true rfl) rfl rfl ?_
  refine g_ild (pc := 11) X dX1_takeUnits_11 rfl ?_
  refine g_ald_n (pc := 13) (i := 0) X dX1_takeUnits_13 rfl rfl ?_
  refine g_getR (pc := 14) (k := 1) X dX1_takeUnits_14 cl_X1 rfl rfl (by decide) w_132 ?_
  refine g_getI (pc := 17) (k := 1) X dX1_takeUnits_17 cl_X0 rfl rfl (by decide) w_73 ?_
  refine g_ild_n (pc := 20) (i := 1) X dX1_takeUnits_20 rfl rfl ?_
  refine g_isub (pc := 21) X dX1_takeUnits_21 ?_
  refine g_icmp_le (pc := 22) 27 X dX1_takeUnits_22 (by decide) (fun h11 => ?_) (fun h11 => ?_)
  · replace hf := jt_i h11 hf
    refine g_ald_n (pc := 27) (i := 0) X dX1_takeUnits_27 rfl rfl ?_
    refine g_getR (pc := 28) (k := 2) X dX1_takeUnits_28 cl_X1 rfl rfl (by decide) w_133 ?_
    refine g_ild (pc := 31) X dX1_takeUnits_31 rfl ?_
    refine g_ild_n (pc := 33) (i := 3) X dX1_takeUnits_33 rfl rfl ?_
    refine g_imul (pc := 34) X dX1_takeUnits_34 ?_
    obtain ⟨r9, μ9, hc9, hf⟩ := jcall_i hf
    refine g_callVi (pc := 35) [.int (z8 * x3)] X dX1_takeUnits_35 (M_X0_hasRoom ⟨rfl, rfl⟩ (jOk_sep X) hc9) Y_X0_hasRoom w_438 w_228 w_227 cl_X0 rfl rfl (by decide) rfl rfl (Nat.le_of_ble_eq_true rfl) rfl ?_
    refine g_if_ne (pc := 38) 43 X dX1_takeUnits_38 (by decide) (fun h10 => ?_) (fun h10 => ?_)
    · replace hf := jf_i h10 hf
      refine g_iconst (pc := 43) (v := (0 : Int32)) X dX1_takeUnits_43 (by decide) ?_
      refine g_ist (pc := 44) (L1 := [some (jr Δ 14), some (.int x1), some (.int x2), some (.int x3), some (.int z8), some (.int (0 : Int32)), none]) X dX1_takeUnits_44 (Nat.le_of_ble_eq_true rfl) rfl rfl ?_
      exact g_weak (t_X1_takeUnits_46  X  jFU _ _ _ _ _ hf) (⟨rfl, ⟨rfl, ⟨rfl, ⟨rfl, ⟨rfl, trivial⟩⟩⟩⟩⟩)
    · replace hf := jt_i h10 hf
      refine g_iconst (pc := 41) (v := (4 : Int32)) X dX1_takeUnits_41 (by decide) ?_
      exact g_iret (pc := 42) X dX1_takeUnits_42 hf
  · replace hf := jf_i h11 hf
    refine g_iconst (pc := 25) (v := (2 : Int32)) X dX1_takeUnits_25 (by decide) ?_
    exact g_iret (pc := 26) X dX1_takeUnits_26 hf
/-! X1_takeMarked -/
abbrev D_X1_takeMarked : Nat := 2
noncomputable def f_X1_takeMarked  (μ : jM) : Option (Int32 × jM) := jlet ((μ.1 4 1) - (μ.1 14 4)) (fun z1 : Int32 => if (1 : Int32) ≤ z1 then (jcall (f_X0_get 4 1000 (μ.1 14 4) μ) (fun (r2 : Int32) (μ2 : jM) => if r2 = (μ2.1 1 3) then (if (2 : Int32) ≤ z1 then (jcall (f_X0_get 4 1000 ((μ2.1 14 4) + (1 : Int32)) μ2) (fun (r3 : Int32) (μ3 : jM) => if r3 = (0 : Int32) then (jcall (f_X1_takeEnd  μ3) (fun (r5 : Int32) (μ5 : jM) => some (r5, μ5))) else (jcall (f_X1_takeUnits ((μ3.1 14 4) + (2 : Int32)) (1 : Int32) r3 μ3) (fun (r4 : Int32) (μ4 : jM) => some (r4, μ4))))) else (some ((2 : Int32), μ2))) else (jcall (f_X1_takeUnits (μ2.1 14 4) (1 : Int32) (1 : Int32) μ2) (fun (r8 : Int32) (μ8 : jM) => some (r8, μ8))))) else (some ((1 : Int32), μ)))
set_option maxHeartbeats 4000000 in
theorem M_X1_takeMarked {l : Launch} {Δ : jD} {r : Int32} {μ μ9 : jM}   (hsep : jSep Δ shC) (hf : f_X1_takeMarked  μ = some (r, μ9)) : jMet l yX1_takeMarked cX1_takeMarked 3 (some .int) D_X1_takeMarked Δ shC [jr Δ 14] μ (some (.int r), μ9) := by
  refine jMet_of (own := RX1) (L := [some (jr Δ 14), none, none]) (by decide) rfl (Nat.le_of_ble_eq_true rfl) rfl hsep (fun Γ _ X => ?_)
  unfold f_X1_takeMarked at hf
  refine g_ald_n (pc := 0) (i := 0) X dX1_takeMarked_0 rfl rfl ?_
  refine g_getR (pc := 1) (k := 1) X dX1_takeMarked_1 cl_X1 rfl rfl (by decide) w_132 ?_
  refine g_getI (pc := 4) (k := 1) X dX1_takeMarked_4 cl_X0 rfl rfl (by decide) w_73 ?_
  refine g_ald_n (pc := 7) (i := 0) X dX1_takeMarked_7 rfl rfl ?_
  refine g_getI (pc := 8) (k := 4) X dX1_takeMarked_8 cl_X1 rfl rfl (by decide) w_137 ?_
  refine g_isub (pc := 11) X dX1_takeMarked_11 ?_
  refine g_nmI (fun z1 ez1 => ?_)
  replace hf := jlet_i ez1 hf
  refine g_ist_n (pc := 12) (i := 1) (L1 := [some (jr Δ 14), some (.int z1), none]) X dX1_takeMarked_12 rfl (Nat.le_of_ble_eq_true rfl) rfl rfl ?_
  refine g_ild_n (pc := 13) (i := 1) X dX1_takeMarked_13 rfl rfl ?_
  refine g_iconst (pc := 14) (v := (1 : Int32)) X dX1_takeMarked_14 (by decide) ?_
  refine g_icmp_ge (pc := 15) 20 X dX1_takeMarked_15 (by decide) (fun h10 => ?_) (fun h10 => ?_)
  · replace hf := jt_i h10 hf
    refine g_ald_n (pc := 20) (i := 0) X dX1_takeMarked_20 rfl rfl ?_
    refine g_getR (pc := 21) (k := 1) X dX1_takeMarked_21 cl_X1 rfl rfl (by decide) w_132 ?_
    refine g_ald_n (pc := 24) (i := 0) X dX1_takeMarked_24 rfl rfl ?_
    refine g_getI (pc := 25) (k := 4) X dX1_takeMarked_25 cl_X1 rfl rfl (by decide) w_137 ?_
    obtain ⟨r2, μ2, hc2, hf⟩ := jcall_i hf
    refine g_callVi (pc := 28) [.int (μ.1 14 4)] X dX1_takeMarked_28 (M_X0_get ⟨rfl, rfl⟩ (jOk_sep X) hc2) Y_X0_get w_433 w_292 w_291 cl_X0 rfl rfl (by decide) rfl rfl (Nat.le_of_ble_eq_true rfl) rfl ?_
    refine g_ald_n (pc := 31) (i := 0) X dX1_takeMarked_31 rfl rfl ?_
    refine g_getR (pc := 32) (k := 0) X dX1_takeMarked_32 cl_X1 rfl rfl (by decide) w_131 ?_
    refine g_getI (pc := 35) (k := 3) X dX1_takeMarked_35 cl_X4 rfl rfl (by decide) w_46 ?_
    refine g_icmp_eq (pc := 38) 52 X dX1_takeMarked_38 (by decide) (fun h9 => ?_) (fun h9 => ?_)
    · replace hf := jt_i h9 hf
      refine g_ild_n (pc := 52) (i := 1) X dX1_takeMarked_52 rfl rfl ?_
      refine g_iconst (pc := 53) (v := (2 : Int32)) X dX1_takeMarked_53 (by decide) ?_
      refine g_icmp_ge (pc := 54) 59 X dX1_takeMarked_54 (by decide) (fun h7 => ?_) (fun h7 => ?_)
      · replace hf := jt_i h7 hf
        refine g_ald_n (pc := 59) (i := 0) X dX1_takeMarked_59 rfl rfl ?_
        refine g_getR (pc := 60) (k := 1) X dX1_takeMarked_60 cl_X1 rfl rfl (by decide) w_132 ?_
        refine g_ald_n (pc := 63) (i := 0) X dX1_takeMarked_63 rfl rfl ?_
        refine g_getI (pc := 64) (k := 4) X dX1_takeMarked_64 cl_X1 rfl rfl (by decide) w_137 ?_
        refine g_iconst (pc := 67) (v := (1 : Int32)) X dX1_takeMarked_67 (by decide) ?_
        refine g_iadd (pc := 68) X dX1_takeMarked_68 ?_
        obtain ⟨r3, μ3, hc3, hf⟩ := jcall_i hf
        refine g_callVi (pc := 69) [.int ((μ2.1 14 4) + (1 : Int32))] X dX1_takeMarked_69 (M_X0_get ⟨rfl, rfl⟩ (jOk_sep X) hc3) Y_X0_get w_433 w_292 w_291 cl_X0 rfl rfl (by decide) rfl rfl (Nat.le_of_ble_eq_true rfl) rfl ?_
        refine g_ist_n (pc := 72) (i := 2) (L1 := [some (jr Δ 14), some (.int z1), some (.int r3)]) X dX1_takeMarked_72 rfl (Nat.le_of_ble_eq_true rfl) rfl rfl ?_
        refine g_ild_n (pc := 73) (i := 2) X dX1_takeMarked_73 rfl rfl ?_
        refine g_if_ne (pc := 74) 84 X dX1_takeMarked_74 (by decide) (fun h6 => ?_) (fun h6 => ?_)
        · replace hf := jf_i h6 hf
          refine g_ald_n (pc := 84) (i := 0) X dX1_takeMarked_84 rfl rfl ?_
          refine g_ald_n (pc := 85) (i := 0) X dX1_takeMarked_85 rfl rfl ?_
          refine g_getI (pc := 86) (k := 4) X dX1_takeMarked_86 cl_X1 rfl rfl (by decide) w_137 ?_
          refine g_iconst (pc := 89) (v := (2 : Int32)) X dX1_takeMarked_89 (by decide) ?_
          refine g_iadd (pc := 90) X dX1_takeMarked_90 ?_
          refine g_iconst (pc := 91) (v := (1 : Int32)) X dX1_takeMarked_91 (by decide) ?_
          refine g_ild_n (pc := 92) (i := 2) X dX1_takeMarked_92 rfl rfl ?_
          obtain ⟨r4, μ4, hc4, hf⟩ := jcall_i hf
          refine g_callVi (pc := 93) [.int ((μ3.1 14 4) + (2 : Int32)), .int (1 : Int32), .int r3] X dX1_takeMarked_93 (M_X1_takeUnits  (jOk_sep X) hc4) Y_X1_takeUnits w_434 w_436 w_435 cl_X1 rfl rfl (by decide) rfl rfl (Nat.le_of_ble_eq_true rfl) rfl ?_
          exact g_iret (pc := 96) X dX1_takeMarked_96 hf
        · replace hf := jt_i h6 hf
          refine g_ald_n (pc := 77) (i := 0) X dX1_takeMarked_77 rfl rfl ?_
          obtain ⟨r5, μ5, hc5, hf⟩ := jcall_i hf
          refine g_callVi (pc := 78) [] X dX1_takeMarked_78 (M_X1_takeEnd  (jOk_sep X) hc5) Y_X1_takeEnd w_440 w_442 w_441 cl_X1 rfl rfl (by decide) rfl rfl (Nat.le_of_ble_eq_true rfl) rfl ?_
          refine g_goto (pc := 81) 96 X dX1_takeMarked_81 (by decide) ?_
          exact g_iret (pc := 96) X dX1_takeMarked_96 hf
      · replace hf := jf_i h7 hf
        refine g_iconst (pc := 57) (v := (2 : Int32)) X dX1_takeMarked_57 (by decide) ?_
        exact g_iret (pc := 58) X dX1_takeMarked_58 hf
    · replace hf := jf_i h9 hf
      refine g_ald_n (pc := 41) (i := 0) X dX1_takeMarked_41 rfl rfl ?_
      refine g_ald_n (pc := 42) (i := 0) X dX1_takeMarked_42 rfl rfl ?_
      refine g_getI (pc := 43) (k := 4) X dX1_takeMarked_43 cl_X1 rfl rfl (by decide) w_137 ?_
      refine g_iconst (pc := 46) (v := (1 : Int32)) X dX1_takeMarked_46 (by decide) ?_
      refine g_iconst (pc := 47) (v := (1 : Int32)) X dX1_takeMarked_47 (by decide) ?_
      obtain ⟨r8, μ8, hc8, hf⟩ := jcall_i hf
      refine g_callVi (pc := 48) [.int (μ2.1 14 4), .int (1 : Int32), .int (1 : Int32)] X dX1_takeMarked_48 (M_X1_takeUnits  (jOk_sep X) hc8) Y_X1_takeUnits w_434 w_436 w_435 cl_X1 rfl rfl (by decide) rfl rfl (Nat.le_of_ble_eq_true rfl) rfl ?_
      exact g_iret (pc := 51) X dX1_takeMarked_51 hf
  · replace hf := jf_i h10 hf
    refine g_iconst (pc := 18) (v := (1 : Int32)) X dX1_takeMarked_18 (by decide) ?_
    exact g_iret (pc := 19) X dX1_takeMarked_19 hf
/-! X1_takeGoingOn -/
abbrev D_X1_takeGoingOn : Nat := 1
noncomputable def f_X1_takeGoingOn  (μ : jM) : Option (Int32 × jM) := if (4 : Int32) ≤ ((μ.1 4 1) - (μ.1 14 4)) then (jcall (f_X0_get 4 1000 ((μ.1 14 4) + (2 : Int32)) μ) (fun (r1 : Int32) (μ1 : jM) => if ((μ1.1 14 8) + r1) ≤ (μ1.1 1 2) then (jlet (jsI μ1 14 8 ((μ1.1 14 8) + r1)) (fun μ2 : jM => jcall (f_X0_get 4 1000 ((μ2.1 14 4) + (3 : Int32)) μ2) (fun (r3 : Int32) (μ3 : jM) => jlet (jsI μ3 14 7 ((μ2.1 14 7) + r3)) (fun μ4 : jM => jlet (jsI μ4 14 5 ((μ4.1 14 4) + (4 : Int32))) (fun μ5 : jM => some ((0 : Int32), μ5)))))) else (some ((3 : Int32), μ1)))) else (some ((2 : Int32), μ))
set_option maxHeartbeats 4000000 in
theorem M_X1_takeGoingOn {l : Launch} {Δ : jD} {r : Int32} {μ μ9 : jM}   (hsep : jSep Δ shC) (hf : f_X1_takeGoingOn  μ = some (r, μ9)) : jMet l yX1_takeGoingOn cX1_takeGoingOn 2 (some .int) D_X1_takeGoingOn Δ shC [jr Δ 14] μ (some (.int r), μ9) := by
  refine jMet_of (own := RX1) (L := [some (jr Δ 14), none]) (by decide) rfl (Nat.le_of_ble_eq_true rfl) rfl hsep (fun Γ _ X => ?_)
  unfold f_X1_takeGoingOn at hf
  refine g_ald_n (pc := 0) (i := 0) X dX1_takeGoingOn_0 rfl rfl ?_
  refine g_getR (pc := 1) (k := 1) X dX1_takeGoingOn_1 cl_X1 rfl rfl (by decide) w_132 ?_
  refine g_getI (pc := 4) (k := 1) X dX1_takeGoingOn_4 cl_X0 rfl rfl (by decide) w_73 ?_
  refine g_ald_n (pc := 7) (i := 0) X dX1_takeGoingOn_7 rfl rfl ?_
  refine g_getI (pc := 8) (k := 4) X dX1_takeGoingOn_8 cl_X1 rfl rfl (by decide) w_137 ?_
  refine g_isub (pc := 11) X dX1_takeGoingOn_11 ?_
  refine g_iconst (pc := 12) (v := (4 : Int32)) X dX1_takeGoingOn_12 (by decide) ?_
  refine g_icmp_ge (pc := 13) 18 X dX1_takeGoingOn_13 (by decide) (fun h7 => ?_) (fun h7 => ?_)
  · replace hf := jt_i h7 hf
    refine g_ald_n (pc := 18) (i := 0) X dX1_takeGoingOn_18 rfl rfl ?_
    refine g_getR (pc := 19) (k := 1) X dX1_takeGoingOn_19 cl_X1 rfl rfl (by decide) w_132 ?_
    refine g_ald_n (pc := 22) (i := 0) X dX1_takeGoingOn_22 rfl rfl ?_
    refine g_getI (pc := 23) (k := 4) X dX1_takeGoingOn_23 cl_X1 rfl rfl (by decide) w_137 ?_
    refine g_iconst (pc := 26) (v := (2 : Int32)) X dX1_takeGoingOn_26 (by decide) ?_
    refine g_iadd (pc := 27) X dX1_takeGoingOn_27 ?_
    obtain ⟨r1, μ1, hc1, hf⟩ := jcall_i hf
    refine g_callVi (pc := 28) [.int ((μ.1 14 4) + (2 : Int32))] X dX1_takeGoingOn_28 (M_X0_get ⟨rfl, rfl⟩ (jOk_sep X) hc1) Y_X0_get w_433 w_292 w_291 cl_X0 rfl rfl (by decide) rfl rfl (Nat.le_of_ble_eq_true rfl) rfl ?_
    refine g_ist_n (pc := 31) (i := 1) (L1 := [some (jr Δ 14), some (.int r1)]) X dX1_takeGoingOn_31 rfl (Nat.le_of_ble_eq_true rfl) rfl rfl ?_
    refine g_ald_n (pc := 32) (i := 0) X dX1_takeGoingOn_32 rfl rfl ?_
    refine g_getI (pc := 33) (k := 8) X dX1_takeGoingOn_33 cl_X1 rfl rfl (by decide) w_142 ?_
    refine g_ild_n (pc := 36) (i := 1) X dX1_takeGoingOn_36 rfl rfl ?_
    refine g_iadd (pc := 37) X dX1_takeGoingOn_37 ?_
    refine g_ald_n (pc := 38) (i := 0) X dX1_takeGoingOn_38 rfl rfl ?_
    refine g_getR (pc := 39) (k := 0) X dX1_takeGoingOn_39 cl_X1 rfl rfl (by decide) w_131 ?_
    refine g_getI (pc := 42) (k := 2) X dX1_takeGoingOn_42 cl_X4 rfl rfl (by decide) w_43 ?_
    refine g_icmp_le (pc := 45) 50 X dX1_takeGoingOn_45 (by decide) (fun h6 => ?_) (fun h6 => ?_)
    · replace hf := jt_i h6 hf
      refine g_ald_n (pc := 50) (i := 0) X dX1_takeGoingOn_50 rfl rfl ?_
      refine g_dupR (pc := 51) X dX1_takeGoingOn_51 ?_
      refine g_getI (pc := 52) (k := 8) X dX1_takeGoingOn_52 cl_X1 rfl rfl (by decide) w_142 ?_
      refine g_ild_n (pc := 55) (i := 1) X dX1_takeGoingOn_55 rfl rfl ?_
      refine g_iadd (pc := 56) X dX1_takeGoingOn_56 ?_
      refine g_putI (pc := 57) (k := 8) X dX1_takeGoingOn_57 cl_X1 rfl rfl (by decide) w_142 rfl rfl rfl ?_
      refine g_nmM (fun μ2 eμ2 => ?_)
      replace hf := jlet_i eμ2 hf
      refine g_ald_n (pc := 60) (i := 0) X dX1_takeGoingOn_60 rfl rfl ?_
      refine g_dupR (pc := 61) X dX1_takeGoingOn_61 ?_
      refine g_getI (pc := 62) (k := 7) X dX1_takeGoingOn_62 cl_X1 rfl rfl (by decide) w_141 ?_
      refine g_ald_n (pc := 65) (i := 0) X dX1_takeGoingOn_65 rfl rfl ?_
      refine g_getR (pc := 66) (k := 1) X dX1_takeGoingOn_66 cl_X1 rfl rfl (by decide) w_132 ?_
      refine g_ald_n (pc := 69) (i := 0) X dX1_takeGoingOn_69 rfl rfl ?_
      refine g_getI (pc := 70) (k := 4) X dX1_takeGoingOn_70 cl_X1 rfl rfl (by decide) w_137 ?_
      refine g_iconst (pc := 73) (v := (3 : Int32)) X dX1_takeGoingOn_73 (by decide) ?_
      refine g_iadd (pc := 74) X dX1_takeGoingOn_74 ?_
      obtain ⟨r3, μ3, hc3, hf⟩ := jcall_i hf
      refine g_callVi (pc := 75) [.int ((μ2.1 14 4) + (3 : Int32))] X dX1_takeGoingOn_75 (M_X0_get ⟨rfl, rfl⟩ (jOk_sep X) hc3) Y_X0_get w_433 w_292 w_291 cl_X0 rfl rfl (by decide) rfl rfl (Nat.le_of_ble_eq_true rfl) rfl ?_
      refine g_iadd (pc := 78) X dX1_takeGoingOn_78 ?_
      refine g_putI (pc := 79) (k := 7) X dX1_takeGoingOn_79 cl_X1 rfl rfl (by decide) w_141 rfl rfl rfl ?_
      refine g_nmM (fun μ4 eμ4 => ?_)
      replace hf := jlet_i eμ4 hf
      refine g_ald_n (pc := 82) (i := 0) X dX1_takeGoingOn_82 rfl rfl ?_
      refine g_ald_n (pc := 83) (i := 0) X dX1_takeGoingOn_83 rfl rfl ?_
      refine g_getI (pc := 84) (k := 4) X dX1_takeGoingOn_84 cl_X1 rfl rfl (by decide) w_137 ?_
      refine g_iconst (pc := 87) (v := (4 : Int32)) X dX1_takeGoingOn_87 (by decide) ?_
      refine g_iadd (pc := 88) X dX1_takeGoingOn_88 ?_
      refine g_putI (pc := 89) (k := 5) X dX1_takeGoingOn_89 cl_X1 rfl rfl (by decide) w_139 rfl rfl rfl ?_
      refine g_nmM (fun μ5 eμ5 => ?_)
      replace hf := jlet_i eμ5 hf
      refine g_iconst (pc := 92) (v := (0 : Int32)) X dX1_takeGoingOn_92 (by decide) ?_
      exact g_iret (pc := 93) X dX1_takeGoingOn_93 hf
    · replace hf := jf_i h6 hf
      refine g_iconst (pc := 48) (v := (3 : Int32)) X dX1_takeGoingOn_48 (by decide) ?_
      exact g_iret (pc := 49) X dX1_takeGoingOn_49 hf
  · replace hf := jf_i h7 hf
    refine g_iconst (pc := 16) (v := (2 : Int32)) X dX1_takeGoingOn_16 (by decide) ?_
    exact g_iret (pc := 17) X dX1_takeGoingOn_17 hf
/-! X1_countRow -/
abbrev D_X1_countRow : Nat := 0
noncomputable def f_X1_countRow  (μ : jM) : Option (Unit × jM) := jlet (jsI μ 15 1 (((μ.1 14 7) + (1 : Int32)) * (μ.1 1 2))) (fun μ1 : jM => some ((), μ1))
set_option maxHeartbeats 4000000 in
theorem M_X1_countRow {l : Launch} {Δ : jD} {r : Unit} {μ μ9 : jM}   (hsep : jSep Δ shC) (hf : f_X1_countRow  μ = some (r, μ9)) : jMet l yX1_countRow cX1_countRow 1 none D_X1_countRow Δ shC [jr Δ 14] μ (none, μ9) := by
  refine jMet_of (own := RX1) (L := [some (jr Δ 14)]) (by decide) rfl (Nat.le_of_ble_eq_true rfl) rfl hsep (fun Γ _ X => ?_)
  unfold f_X1_countRow at hf
  refine g_ald_n (pc := 0) (i := 0) X dX1_countRow_0 rfl rfl ?_
  refine g_getR (pc := 1) (k := 2) X dX1_countRow_1 cl_X1 rfl rfl (by decide) w_133 ?_
  refine g_ald_n (pc := 4) (i := 0) X dX1_countRow_4 rfl rfl ?_
  refine g_getI (pc := 5) (k := 7) X dX1_countRow_5 cl_X1 rfl rfl (by decide) w_141 ?_
  refine g_iconst (pc := 8) (v := (1 : Int32)) X dX1_countRow_8 (by decide) ?_
  refine g_iadd (pc := 9) X dX1_countRow_9 ?_
  refine g_ald_n (pc := 10) (i := 0) X dX1_countRow_10 rfl rfl ?_
  refine g_getR (pc := 11) (k := 0) X dX1_countRow_11 cl_X1 rfl rfl (by decide) w_131 ?_
  refine g_getI (pc := 14) (k := 2) X dX1_countRow_14 cl_X4 rfl rfl (by decide) w_43 ?_
  refine g_imul (pc := 17) X dX1_countRow_17 ?_
  refine g_putI (pc := 18) (k := 1) X dX1_countRow_18 cl_X0 rfl rfl (by decide) w_73 rfl rfl rfl ?_
  refine g_nmM (fun μ1 eμ1 => ?_)
  replace hf := jlet_i eμ1 hf
  exact g_vret (pc := 21) X dX1_countRow_21 hf
/-! X1_putInRow -/
abbrev D_X1_putInRow : Nat := 1
noncomputable def f_X1_putInRow (x1 : Int32) (μ : jM) : Option (Unit × jM) := jcall (f_X1_countRow  μ) (fun (r1 : Unit) (μ1 : jM) => jcall (f_X0_set 15 240 (((μ1.1 14 7) * (μ1.1 1 2)) + (μ1.1 14 8)) x1 μ1) (fun (r2 : Unit) (μ2 : jM) => jlet (jsI μ2 14 8 ((μ2.1 14 8) + (1 : Int32))) (fun μ3 : jM => some ((), μ3))))
set_option maxHeartbeats 4000000 in
theorem M_X1_putInRow {l : Launch} {Δ : jD} {r : Unit} {μ μ9 : jM} {x1 : Int32}  (hsep : jSep Δ shC) (hf : f_X1_putInRow x1 μ = some (r, μ9)) : jMet l yX1_putInRow cX1_putInRow 2 none D_X1_putInRow Δ shC [jr Δ 14, .int x1] μ (none, μ9) := by
  refine jMet_of (own := RX1) (L := [some (jr Δ 14), some (.int x1)]) (by decide) rfl (Nat.le_of_ble_eq_true rfl) rfl hsep (fun Γ _ X => ?_)
  unfold f_X1_putInRow at hf
  refine g_ald_n (pc := 0) (i := 0) X dX1_putInRow_0 rfl rfl ?_
  obtain ⟨r1, μ1, hc1, hf⟩ := jcall_i hf
  refine g_callVv (pc := 1) [] X dX1_putInRow_1 (M_X1_countRow  (jOk_sep X) hc1) Y_X1_countRow w_464 w_466 w_465 cl_X1 rfl rfl (by decide) rfl rfl (Nat.le_of_ble_eq_true rfl) rfl ?_
  refine g_ald_n (pc := 4) (i := 0) X dX1_putInRow_4 rfl rfl ?_
  refine g_getR (pc := 5) (k := 2) X dX1_putInRow_5 cl_X1 rfl rfl (by decide) w_133 ?_
  refine g_ald_n (pc := 8) (i := 0) X dX1_putInRow_8 rfl rfl ?_
  refine g_getI (pc := 9) (k := 7) X dX1_putInRow_9 cl_X1 rfl rfl (by decide) w_141 ?_
  refine g_ald_n (pc := 12) (i := 0) X dX1_putInRow_12 rfl rfl ?_
  refine g_getR (pc := 13) (k := 0) X dX1_putInRow_13 cl_X1 rfl rfl (by decide) w_131 ?_
  refine g_getI (pc := 16) (k := 2) X dX1_putInRow_16 cl_X4 rfl rfl (by decide) w_43 ?_
  refine g_imul (pc := 19) X dX1_putInRow_19 ?_
  refine g_ald_n (pc := 20) (i := 0) X dX1_putInRow_20 rfl rfl ?_
  refine g_getI (pc := 21) (k := 8) X dX1_putInRow_21 cl_X1 rfl rfl (by decide) w_142 ?_
  refine g_iadd (pc := 24) X dX1_putInRow_24 ?_
  refine g_ild_n (pc := 25) (i := 1) X dX1_putInRow_25 rfl rfl ?_
  obtain ⟨r2, μ2, hc2, hf⟩ := jcall_i hf
  refine g_callVv (pc := 26) [.int (((μ1.1 14 7) * (μ1.1 1 2)) + (μ1.1 14 8)), .int x1] X dX1_putInRow_26 (M_X0_set ⟨rfl, rfl⟩ (jOk_sep X) hc2) Y_X0_set w_468 w_470 w_469 cl_X0 rfl rfl (by decide) rfl rfl (Nat.le_of_ble_eq_true rfl) rfl ?_
  refine g_ald_n (pc := 29) (i := 0) X dX1_putInRow_29 rfl rfl ?_
  refine g_dupR (pc := 30) X dX1_putInRow_30 ?_
  refine g_getI (pc := 31) (k := 8) X dX1_putInRow_31 cl_X1 rfl rfl (by decide) w_142 ?_
  refine g_iconst (pc := 34) (v := (1 : Int32)) X dX1_putInRow_34 (by decide) ?_
  refine g_iadd (pc := 35) X dX1_putInRow_35 ?_
  refine g_putI (pc := 36) (k := 8) X dX1_putInRow_36 cl_X1 rfl rfl (by decide) w_142 rfl rfl rfl ?_
  refine g_nmM (fun μ3 eμ3 => ?_)
  replace hf := jlet_i eμ3 hf
  exact g_vret (pc := 39) X dX1_putInRow_39 hf
/-! X1_rowFault -/
abbrev D_X1_rowFault : Nat := 0
noncomputable def f_X1_rowFault (x1 : Int32) (μ : jM) : Option (Int32 × jM) := if ((μ.1 14 8) + x1) ≤ (μ.1 1 2) then (if (((μ.1 14 7) + (1 : Int32)) * (μ.1 1 2)) ≤ (240 : Int32) then (some ((0 : Int32), μ)) else (some ((4 : Int32), μ))) else (some ((3 : Int32), μ))
set_option maxHeartbeats 4000000 in
theorem M_X1_rowFault {l : Launch} {Δ : jD} {r : Int32} {μ μ9 : jM} {x1 : Int32}  (hsep : jSep Δ shC) (hf : f_X1_rowFault x1 μ = some (r, μ9)) : jMet l yX1_rowFault cX1_rowFault 2 (some .int) D_X1_rowFault Δ shC [jr Δ 14, .int x1] μ (some (.int r), μ9) := by
  refine jMet_of (own := RX1) (L := [some (jr Δ 14), some (.int x1)]) (by decide) rfl (Nat.le_of_ble_eq_true rfl) rfl hsep (fun Γ _ X => ?_)
  unfold f_X1_rowFault at hf
  refine g_ald_n (pc := 0) (i := 0) X dX1_rowFault_0 rfl rfl ?_
  refine g_getI (pc := 1) (k := 8) X dX1_rowFault_1 cl_X1 rfl rfl (by decide) w_142 ?_
  refine g_ild_n (pc := 4) (i := 1) X dX1_rowFault_4 rfl rfl ?_
  refine g_iadd (pc := 5) X dX1_rowFault_5 ?_
  refine g_ald_n (pc := 6) (i := 0) X dX1_rowFault_6 rfl rfl ?_
  refine g_getR (pc := 7) (k := 0) X dX1_rowFault_7 cl_X1 rfl rfl (by decide) w_131 ?_
  refine g_getI (pc := 10) (k := 2) X dX1_rowFault_10 cl_X4 rfl rfl (by decide) w_43 ?_
  refine g_icmp_le (pc := 13) 18 X dX1_rowFault_13 (by decide) (fun h2 => ?_) (fun h2 => ?_)
  · replace hf := jt_i h2 hf
    refine g_ald_n (pc := 18) (i := 0) X dX1_rowFault_18 rfl rfl ?_
    refine g_getI (pc := 19) (k := 7) X dX1_rowFault_19 cl_X1 rfl rfl (by decide) w_141 ?_
    refine g_iconst (pc := 22) (v := (1 : Int32)) X dX1_rowFault_22 (by decide) ?_
    refine g_iadd (pc := 23) X dX1_rowFault_23 ?_
    refine g_ald_n (pc := 24) (i := 0) X dX1_rowFault_24 rfl rfl ?_
    refine g_getR (pc := 25) (k := 0) X dX1_rowFault_25 cl_X1 rfl rfl (by decide) w_131 ?_
    refine g_getI (pc := 28) (k := 2) X dX1_rowFault_28 cl_X4 rfl rfl (by decide) w_43 ?_
    refine g_imul (pc := 31) X dX1_rowFault_31 ?_
    refine g_sipush (pc := 32) (v := (240 : Int32)) X dX1_rowFault_32 (by decide) ?_
    refine g_icmp_le (pc := 35) 42 X dX1_rowFault_35 (by decide) (fun h1 => ?_) (fun h1 => ?_)
    · replace hf := jt_i h1 hf
      refine g_iconst (pc := 42) (v := (0 : Int32)) X dX1_rowFault_42 (by decide) ?_
      exact g_iret (pc := 43) X dX1_rowFault_43 hf
    · replace hf := jf_i h1 hf
      refine g_iconst (pc := 38) (v := (4 : Int32)) X dX1_rowFault_38 (by decide) ?_
      refine g_goto (pc := 39) 43 X dX1_rowFault_39 (by decide) ?_
      exact g_iret (pc := 43) X dX1_rowFault_43 hf
  · replace hf := jf_i h2 hf
    refine g_iconst (pc := 16) (v := (3 : Int32)) X dX1_rowFault_16 (by decide) ?_
    exact g_iret (pc := 17) X dX1_rowFault_17 hf
/-! X1_takeRowBytes -/
abbrev D_X1_takeRowBytes : Nat := 2
noncomputable def f_X1_takeRowBytes_41   : Nat → Int32 → Int32 → Int32 → jM → Option (Int32 × jM)
  | 0, _, _, _, _ => none
  | fu + 1, x1, x2, x4, μ => if x1 ≤ x4 then (jlet (jsI μ 14 5 ((μ.1 14 4) + x2)) (fun μ1 : jM => some ((0 : Int32), μ1))) else (jcall (f_X0_get 4 1000 (((μ.1 14 4) + (2 : Int32)) + x4) μ) (fun (r2 : Int32) (μ2 : jM) => jcall (f_X1_putInRow r2 μ2) (fun (r3 : Unit) (μ3 : jM) => jlet (x4 + (1 : Int32)) (fun z4 : Int32 => f_X1_takeRowBytes_41   fu x1 x2 z4 μ3))))
noncomputable def f_X1_takeRowBytes (x1 : Int32) (μ : jM) : Option (Int32 × jM) := jlet (((2 : Int32) + x1) + (x1 &&& (1 : Int32))) (fun z6 : Int32 => if z6 ≤ ((μ.1 4 1) - (μ.1 14 4)) then (jcall (f_X1_rowFault x1 μ) (fun (r7 : Int32) (μ7 : jM) => if r7 = (0 : Int32) then (f_X1_takeRowBytes_41   jFU x1 z6 (0 : Int32) μ7) else (some (r7, μ7)))) else (some ((2 : Int32), μ)))
set_option maxHeartbeats 4000000 in
theorem t_X1_takeRowBytes_41 {Γ : jC} {Δ : jD} {r : Int32} {μ9 : jM}    (X : jOk Γ Δ shC cX1_takeRowBytes 5 RX1 (some .int) D_X1_takeRowBytes)  : ∀ (fu : Nat) (x1 : Int32) (x2 : Int32) (x4 : Int32) (μ : jM), f_X1_takeRowBytes_41   fu x1 x2 x4 μ = some (r, μ9) → jG Γ Δ shC (some (.int r), μ9) 41 [some (jr Δ 14), some (.int x1), some (.int x2), none, some (.int x4)] [] μ := by
  intro fu
  induction fu with
  | zero =>
    intro x1 x2 x4 μ hf
    cases hf
  | succ fu ih =>
    intro x1 x2 x4 μ hf
    replace hf := (f_X1_takeRowBytes_41.eq_2 _ _ _ _ _).symm.trans hf
    refine g_ild (pc := 41) X dX1_takeRowBytes_41 rfl ?_
    refine g_ild_n (pc := 43) (i := 1) X dX1_takeRowBytes_43 rfl rfl ?_
    refine g_icmp_ge (pc := 44) 73 X dX1_takeRowBytes_44 (by decide) (fun h5 => ?_) (fun h5 => ?_)
    · replace hf := jt_i h5 hf
      refine g_ald_n (pc := 73) (i := 0) X dX1_takeRowBytes_73 rfl rfl ?_
      refine g_ald_n (pc := 74) (i := 0) X dX1_takeRowBytes_74 rfl rfl ?_
      refine g_getI (pc := 75) (k := 4) X dX1_takeRowBytes_75 cl_X1 rfl rfl (by decide) w_137 ?_
      refine g_ild_n (pc := 78) (i := 2) X dX1_takeRowBytes_78 rfl rfl ?_
      refine g_iadd (pc := 79) X dX1_takeRowBytes_79 ?_
      refine g_putI (pc := 80) (k := 5) X dX1_takeRowBytes_80 cl_X1 rfl rfl (by decide) w_139 rfl rfl rfl ?_
      refine g_nmM (fun μ1 eμ1 => ?_)
      replace hf := jlet_i eμ1 hf
      refine g_iconst (pc := 83) (v := (0 : Int32)) X dX1_takeRowBytes_83 (by decide) ?_
      exact g_iret (pc := 84) X dX1_takeRowBytes_84 hf
    · replace hf := jf_i h5 hf
      refine g_ald_n (pc := 47) (i := 0) X dX1_takeRowBytes_47 rfl rfl ?_
      refine g_ald_n (pc := 48) (i := 0) X dX1_takeRowBytes_48 rfl rfl ?_
      refine g_getR (pc := 49) (k := 1) X dX1_takeRowBytes_49 cl_X1 rfl rfl (by decide) w_132 ?_
      refine g_ald_n (pc := 52) (i := 0) X dX1_takeRowBytes_52 rfl rfl ?_
      refine g_getI (pc := 53) (k := 4) X dX1_takeRowBytes_53 cl_X1 rfl rfl (by decide) w_137 ?_
      refine g_iconst (pc := 56) (v := (2 : Int32)) X dX1_takeRowBytes_56 (by decide) ?_
      refine g_iadd (pc := 57) X dX1_takeRowBytes_57 ?_
      refine g_ild (pc := 58) X dX1_takeRowBytes_58 rfl ?_
      refine g_iadd (pc := 60) X dX1_takeRowBytes_60 ?_
      obtain ⟨r2, μ2, hc2, hf⟩ := jcall_i hf
      refine g_callVi (pc := 61) [.int (((μ.1 14 4) + (2 : Int32)) + x4)] X dX1_takeRowBytes_61 (M_X0_get ⟨rfl, rfl⟩ (jOk_sep X) hc2) Y_X0_get w_433 w_292 w_291 cl_X0 rfl rfl (by decide) rfl rfl (Nat.le_of_ble_eq_true rfl) rfl ?_
      obtain ⟨r3, μ3, hc3, hf⟩ := jcall_i hf
      refine g_callVv (pc := 64) [.int r2] X dX1_takeRowBytes_64 (M_X1_putInRow  (jOk_sep X) hc3) Y_X1_putInRow w_460 w_462 w_461 cl_X1 rfl rfl (by decide) rfl rfl (Nat.le_of_ble_eq_true rfl) rfl ?_
      obtain ⟨z4, ez4⟩ : ∃ z : Int32, z = x4 + (1 : Int32) := ⟨_, rfl⟩
      replace hf := jlet_i ez4 hf
      refine g_iinc (pc := 67) (L1 := [some (jr Δ 14), some (.int x1), some (.int x2), none, some (.int z4)]) X dX1_takeRowBytes_67 rfl (by rw [ez4]; rfl) rfl rfl ?_
      refine g_goto (pc := 70) 41 X dX1_takeRowBytes_70 (by decide) ?_
      exact g_weak (ih _ _ _ _ hf) (⟨rfl, ⟨rfl, ⟨rfl, ⟨rfl, trivial⟩⟩⟩⟩)
set_option maxHeartbeats 4000000 in
theorem M_X1_takeRowBytes {l : Launch} {Δ : jD} {r : Int32} {μ μ9 : jM} {x1 : Int32}  (hsep : jSep Δ shC) (hf : f_X1_takeRowBytes x1 μ = some (r, μ9)) : jMet l yX1_takeRowBytes cX1_takeRowBytes 5 (some .int) D_X1_takeRowBytes Δ shC [jr Δ 14, .int x1] μ (some (.int r), μ9) := by
  refine jMet_of (own := RX1) (L := [some (jr Δ 14), some (.int x1), none, none, none]) (by decide) rfl (Nat.le_of_ble_eq_true rfl) rfl hsep (fun Γ _ X => ?_)
  unfold f_X1_takeRowBytes at hf
  refine g_iconst (pc := 0) (v := (2 : Int32)) X dX1_takeRowBytes_0 (by decide) ?_
  refine g_ild_n (pc := 1) (i := 1) X dX1_takeRowBytes_1 rfl rfl ?_
  refine g_iadd (pc := 2) X dX1_takeRowBytes_2 ?_
  refine g_ild_n (pc := 3) (i := 1) X dX1_takeRowBytes_3 rfl rfl ?_
  refine g_iconst (pc := 4) (v := (1 : Int32)) X dX1_takeRowBytes_4 (by decide) ?_
  refine g_iand (pc := 5) X dX1_takeRowBytes_5 ?_
  refine g_iadd (pc := 6) X dX1_takeRowBytes_6 ?_
  refine g_nmI (fun z6 ez6 => ?_)
  replace hf := jlet_i ez6 hf
  refine g_ist_n (pc := 7) (i := 2) (L1 := [some (jr Δ 14), some (.int x1), some (.int z6), none, none]) X dX1_takeRowBytes_7 rfl (Nat.le_of_ble_eq_true rfl) rfl rfl ?_
  refine g_ild_n (pc := 8) (i := 2) X dX1_takeRowBytes_8 rfl rfl ?_
  refine g_ald_n (pc := 9) (i := 0) X dX1_takeRowBytes_9 rfl rfl ?_
  refine g_getR (pc := 10) (k := 1) X dX1_takeRowBytes_10 cl_X1 rfl rfl (by decide) w_132 ?_
  refine g_getI (pc := 13) (k := 1) X dX1_takeRowBytes_13 cl_X0 rfl rfl (by decide) w_73 ?_
  refine g_ald_n (pc := 16) (i := 0) X dX1_takeRowBytes_16 rfl rfl ?_
  refine g_getI (pc := 17) (k := 4) X dX1_takeRowBytes_17 cl_X1 rfl rfl (by decide) w_137 ?_
  refine g_isub (pc := 20) X dX1_takeRowBytes_20 ?_
  refine g_icmp_le (pc := 21) 26 X dX1_takeRowBytes_21 (by decide) (fun h9 => ?_) (fun h9 => ?_)
  · replace hf := jt_i h9 hf
    refine g_ald_n (pc := 26) (i := 0) X dX1_takeRowBytes_26 rfl rfl ?_
    refine g_ild_n (pc := 27) (i := 1) X dX1_takeRowBytes_27 rfl rfl ?_
    obtain ⟨r7, μ7, hc7, hf⟩ := jcall_i hf
    refine g_callVi (pc := 28) [.int x1] X dX1_takeRowBytes_28 (M_X1_rowFault  (jOk_sep X) hc7) Y_X1_rowFault w_456 w_458 w_457 cl_X1 rfl rfl (by decide) rfl rfl (Nat.le_of_ble_eq_true rfl) rfl ?_
    refine g_ist_n (pc := 31) (i := 3) (L1 := [some (jr Δ 14), some (.int x1), some (.int z6), some (.int r7), none]) X dX1_takeRowBytes_31 rfl (Nat.le_of_ble_eq_true rfl) rfl rfl ?_
    refine g_ild_n (pc := 32) (i := 3) X dX1_takeRowBytes_32 rfl rfl ?_
    refine g_if_eq (pc := 33) 38 X dX1_takeRowBytes_33 (by decide) (fun h8 => ?_) (fun h8 => ?_)
    · replace hf := jt_i h8 hf
      refine g_iconst (pc := 38) (v := (0 : Int32)) X dX1_takeRowBytes_38 (by decide) ?_
      refine g_ist (pc := 39) (L1 := [some (jr Δ 14), some (.int x1), some (.int z6), some (.int r7), some (.int (0 : Int32))]) X dX1_takeRowBytes_39 (Nat.le_of_ble_eq_true rfl) rfl rfl ?_
      exact g_weak (t_X1_takeRowBytes_41  X  jFU _ _ _ _ hf) (⟨rfl, ⟨rfl, ⟨rfl, ⟨rfl, trivial⟩⟩⟩⟩)
    · replace hf := jf_i h8 hf
      refine g_ild_n (pc := 36) (i := 3) X dX1_takeRowBytes_36 rfl rfl ?_
      exact g_iret (pc := 37) X dX1_takeRowBytes_37 hf
  · replace hf := jf_i h9 hf
    refine g_iconst (pc := 24) (v := (2 : Int32)) X dX1_takeRowBytes_24 (by decide) ?_
    exact g_iret (pc := 25) X dX1_takeRowBytes_25 hf
/-! X1_takeRowEnd -/
abbrev D_X1_takeRowEnd : Nat := 1
noncomputable def f_X1_takeRowEnd  (μ : jM) : Option (Int32 × jM) := jcall (f_X1_rowFault (0 : Int32) μ) (fun (r1 : Int32) (μ1 : jM) => if r1 = (0 : Int32) then (jcall (f_X1_countRow  μ1) (fun (r2 : Unit) (μ2 : jM) => jlet (jsI μ2 14 7 ((μ2.1 14 7) + (1 : Int32))) (fun μ3 : jM => jlet (jsI μ3 14 8 (0 : Int32)) (fun μ4 : jM => jlet (jsI μ4 14 5 ((μ4.1 14 4) + (2 : Int32))) (fun μ5 : jM => some ((0 : Int32), μ5)))))) else (some (r1, μ1)))
set_option maxHeartbeats 4000000 in
theorem M_X1_takeRowEnd {l : Launch} {Δ : jD} {r : Int32} {μ μ9 : jM}   (hsep : jSep Δ shC) (hf : f_X1_takeRowEnd  μ = some (r, μ9)) : jMet l yX1_takeRowEnd cX1_takeRowEnd 2 (some .int) D_X1_takeRowEnd Δ shC [jr Δ 14] μ (some (.int r), μ9) := by
  refine jMet_of (own := RX1) (L := [some (jr Δ 14), none]) (by decide) rfl (Nat.le_of_ble_eq_true rfl) rfl hsep (fun Γ _ X => ?_)
  unfold f_X1_takeRowEnd at hf
  refine g_ald_n (pc := 0) (i := 0) X dX1_takeRowEnd_0 rfl rfl ?_
  refine g_iconst (pc := 1) (v := (0 : Int32)) X dX1_takeRowEnd_1 (by decide) ?_
  obtain ⟨r1, μ1, hc1, hf⟩ := jcall_i hf
  refine g_callVi (pc := 2) [.int (0 : Int32)] X dX1_takeRowEnd_2 (M_X1_rowFault  (jOk_sep X) hc1) Y_X1_rowFault w_456 w_458 w_457 cl_X1 rfl rfl (by decide) rfl rfl (Nat.le_of_ble_eq_true rfl) rfl ?_
  refine g_ist_n (pc := 5) (i := 1) (L1 := [some (jr Δ 14), some (.int r1)]) X dX1_takeRowEnd_5 rfl (Nat.le_of_ble_eq_true rfl) rfl rfl ?_
  refine g_ild_n (pc := 6) (i := 1) X dX1_takeRowEnd_6 rfl rfl ?_
  refine g_if_eq (pc := 7) 12 X dX1_takeRowEnd_7 (by decide) (fun h6 => ?_) (fun h6 => ?_)
  · replace hf := jt_i h6 hf
    refine g_ald_n (pc := 12) (i := 0) X dX1_takeRowEnd_12 rfl rfl ?_
    obtain ⟨r2, μ2, hc2, hf⟩ := jcall_i hf
    refine g_callVv (pc := 13) [] X dX1_takeRowEnd_13 (M_X1_countRow  (jOk_sep X) hc2) Y_X1_countRow w_464 w_466 w_465 cl_X1 rfl rfl (by decide) rfl rfl (Nat.le_of_ble_eq_true rfl) rfl ?_
    refine g_ald_n (pc := 16) (i := 0) X dX1_takeRowEnd_16 rfl rfl ?_
    refine g_dupR (pc := 17) X dX1_takeRowEnd_17 ?_
    refine g_getI (pc := 18) (k := 7) X dX1_takeRowEnd_18 cl_X1 rfl rfl (by decide) w_141 ?_
    refine g_iconst (pc := 21) (v := (1 : Int32)) X dX1_takeRowEnd_21 (by decide) ?_
    refine g_iadd (pc := 22) X dX1_takeRowEnd_22 ?_
    refine g_putI (pc := 23) (k := 7) X dX1_takeRowEnd_23 cl_X1 rfl rfl (by decide) w_141 rfl rfl rfl ?_
    refine g_nmM (fun μ3 eμ3 => ?_)
    replace hf := jlet_i eμ3 hf
    refine g_ald_n (pc := 26) (i := 0) X dX1_takeRowEnd_26 rfl rfl ?_
    refine g_iconst (pc := 27) (v := (0 : Int32)) X dX1_takeRowEnd_27 (by decide) ?_
    refine g_putI (pc := 28) (k := 8) X dX1_takeRowEnd_28 cl_X1 rfl rfl (by decide) w_142 rfl rfl rfl ?_
    refine g_nmM (fun μ4 eμ4 => ?_)
    replace hf := jlet_i eμ4 hf
    refine g_ald_n (pc := 31) (i := 0) X dX1_takeRowEnd_31 rfl rfl ?_
    refine g_ald_n (pc := 32) (i := 0) X dX1_takeRowEnd_32 rfl rfl ?_
    refine g_getI (pc := 33) (k := 4) X dX1_takeRowEnd_33 cl_X1 rfl rfl (by decide) w_137 ?_
    refine g_iconst (pc := 36) (v := (2 : Int32)) X dX1_takeRowEnd_36 (by decide) ?_
    refine g_iadd (pc := 37) X dX1_takeRowEnd_37 ?_
    refine g_putI (pc := 38) (k := 5) X dX1_takeRowEnd_38 cl_X1 rfl rfl (by decide) w_139 rfl rfl rfl ?_
    refine g_nmM (fun μ5 eμ5 => ?_)
    replace hf := jlet_i eμ5 hf
    refine g_iconst (pc := 41) (v := (0 : Int32)) X dX1_takeRowEnd_41 (by decide) ?_
    exact g_iret (pc := 42) X dX1_takeRowEnd_42 hf
  · replace hf := jf_i h6 hf
    refine g_ild_n (pc := 10) (i := 1) X dX1_takeRowEnd_10 rfl rfl ?_
    exact g_iret (pc := 11) X dX1_takeRowEnd_11 hf
/-! X1_takeRowRun -/
abbrev D_X1_takeRowRun : Nat := 2
noncomputable def f_X1_takeRowRun_15   : Nat → Int32 → Int32 → Int32 → jM → Option (Int32 × jM)
  | 0, _, _, _, _ => none
  | fu + 1, x1, x2, x4, μ => if x1 ≤ x4 then (jlet (jsI μ 14 5 ((μ.1 14 4) + (2 : Int32))) (fun μ1 : jM => some ((0 : Int32), μ1))) else (jcall (f_X1_putInRow x2 μ) (fun (r2 : Unit) (μ2 : jM) => jlet (x4 + (1 : Int32)) (fun z3 : Int32 => f_X1_takeRowRun_15   fu x1 x2 z3 μ2)))
noncomputable def f_X1_takeRowRun (x1 : Int32) (x2 : Int32) (μ : jM) : Option (Int32 × jM) := jcall (f_X1_rowFault x1 μ) (fun (r5 : Int32) (μ5 : jM) => if r5 = (0 : Int32) then (f_X1_takeRowRun_15   jFU x1 x2 (0 : Int32) μ5) else (some (r5, μ5)))
set_option maxHeartbeats 4000000 in
theorem t_X1_takeRowRun_15 {Γ : jC} {Δ : jD} {r : Int32} {μ9 : jM}    (X : jOk Γ Δ shC cX1_takeRowRun 5 RX1 (some .int) D_X1_takeRowRun)  : ∀ (fu : Nat) (x1 : Int32) (x2 : Int32) (x4 : Int32) (μ : jM), f_X1_takeRowRun_15   fu x1 x2 x4 μ = some (r, μ9) → jG Γ Δ shC (some (.int r), μ9) 15 [some (jr Δ 14), some (.int x1), some (.int x2), none, some (.int x4)] [] μ := by
  intro fu
  induction fu with
  | zero =>
    intro x1 x2 x4 μ hf
    cases hf
  | succ fu ih =>
    intro x1 x2 x4 μ hf
    replace hf := (f_X1_takeRowRun_15.eq_2 _ _ _ _ _).symm.trans hf
    refine g_ild (pc := 15) X dX1_takeRowRun_15 rfl ?_
    refine g_ild_n (pc := 17) (i := 1) X dX1_takeRowRun_17 rfl rfl ?_
    refine g_icmp_ge (pc := 18) 32 X dX1_takeRowRun_18 (by decide) (fun h4 => ?_) (fun h4 => ?_)
    · replace hf := jt_i h4 hf
      refine g_ald_n (pc := 32) (i := 0) X dX1_takeRowRun_32 rfl rfl ?_
      refine g_ald_n (pc := 33) (i := 0) X dX1_takeRowRun_33 rfl rfl ?_
      refine g_getI (pc := 34) (k := 4) X dX1_takeRowRun_34 cl_X1 rfl rfl (by decide) w_137 ?_
      refine g_iconst (pc := 37) (v := (2 : Int32)) X dX1_takeRowRun_37 (by decide) ?_
      refine g_iadd (pc := 38) X dX1_takeRowRun_38 ?_
      refine g_putI (pc := 39) (k := 5) X dX1_takeRowRun_39 cl_X1 rfl rfl (by decide) w_139 rfl rfl rfl ?_
      refine g_nmM (fun μ1 eμ1 => ?_)
      replace hf := jlet_i eμ1 hf
      refine g_iconst (pc := 42) (v := (0 : Int32)) X dX1_takeRowRun_42 (by decide) ?_
      exact g_iret (pc := 43) X dX1_takeRowRun_43 hf
    · replace hf := jf_i h4 hf
      refine g_ald_n (pc := 21) (i := 0) X dX1_takeRowRun_21 rfl rfl ?_
      refine g_ild_n (pc := 22) (i := 2) X dX1_takeRowRun_22 rfl rfl ?_
      obtain ⟨r2, μ2, hc2, hf⟩ := jcall_i hf
      refine g_callVv (pc := 23) [.int x2] X dX1_takeRowRun_23 (M_X1_putInRow  (jOk_sep X) hc2) Y_X1_putInRow w_460 w_462 w_461 cl_X1 rfl rfl (by decide) rfl rfl (Nat.le_of_ble_eq_true rfl) rfl ?_
      obtain ⟨z3, ez3⟩ : ∃ z : Int32, z = x4 + (1 : Int32) := ⟨_, rfl⟩
      replace hf := jlet_i ez3 hf
      refine g_iinc (pc := 26) (L1 := [some (jr Δ 14), some (.int x1), some (.int x2), none, some (.int z3)]) X dX1_takeRowRun_26 rfl (by rw [ez3]; rfl) rfl rfl ?_
      refine g_goto (pc := 29) 15 X dX1_takeRowRun_29 (by decide) ?_
      exact g_weak (ih _ _ _ _ hf) (⟨rfl, ⟨rfl, ⟨rfl, ⟨rfl, trivial⟩⟩⟩⟩)
set_option maxHeartbeats 4000000 in
theorem M_X1_takeRowRun {l : Launch} {Δ : jD} {r : Int32} {μ μ9 : jM} {x1 : Int32} {x2 : Int32}  (hsep : jSep Δ shC) (hf : f_X1_takeRowRun x1 x2 μ = some (r, μ9)) : jMet l yX1_takeRowRun cX1_takeRowRun 5 (some .int) D_X1_takeRowRun Δ shC [jr Δ 14, .int x1, .int x2] μ (some (.int r), μ9) := by
  refine jMet_of (own := RX1) (L := [some (jr Δ 14), some (.int x1), some (.int x2), none, none]) (by decide) rfl (Nat.le_of_ble_eq_true rfl) rfl hsep (fun Γ _ X => ?_)
  unfold f_X1_takeRowRun at hf
  refine g_ald_n (pc := 0) (i := 0) X dX1_takeRowRun_0 rfl rfl ?_
  refine g_ild_n (pc := 1) (i := 1) X dX1_takeRowRun_1 rfl rfl ?_
  obtain ⟨r5, μ5, hc5, hf⟩ := jcall_i hf
  refine g_callVi (pc := 2) [.int x1] X dX1_takeRowRun_2 (M_X1_rowFault  (jOk_sep X) hc5) Y_X1_rowFault w_456 w_458 w_457 cl_X1 rfl rfl (by decide) rfl rfl (Nat.le_of_ble_eq_true rfl) rfl ?_
  refine g_ist_n (pc := 5) (i := 3) (L1 := [some (jr Δ 14), some (.int x1), some (.int x2), some (.int r5), none]) X dX1_takeRowRun_5 rfl (Nat.le_of_ble_eq_true rfl) rfl rfl ?_
  refine g_ild_n (pc := 6) (i := 3) X dX1_takeRowRun_6 rfl rfl ?_
  refine g_if_eq (pc := 7) 12 X dX1_takeRowRun_7 (by decide) (fun h6 => ?_) (fun h6 => ?_)
  · replace hf := jt_i h6 hf
    refine g_iconst (pc := 12) (v := (0 : Int32)) X dX1_takeRowRun_12 (by decide) ?_
    refine g_ist (pc := 13) (L1 := [some (jr Δ 14), some (.int x1), some (.int x2), some (.int r5), some (.int (0 : Int32))]) X dX1_takeRowRun_13 (Nat.le_of_ble_eq_true rfl) rfl rfl ?_
    exact g_weak (t_X1_takeRowRun_15  X  jFU _ _ _ _ hf) (⟨rfl, ⟨rfl, ⟨rfl, ⟨rfl, trivial⟩⟩⟩⟩)
  · replace hf := jf_i h6 hf
    refine g_ild_n (pc := 10) (i := 3) X dX1_takeRowRun_10 rfl rfl ?_
    exact g_iret (pc := 11) X dX1_takeRowRun_11 hf
/-! X1_takeRows -/
abbrev D_X1_takeRows : Nat := 3
noncomputable def f_X1_takeRows  (μ : jM) : Option (Int32 × jM) := jlet ((μ.1 4 1) - (μ.1 14 4)) (fun z1 : Int32 => if (1 : Int32) ≤ z1 then (if (2 : Int32) ≤ z1 then (jcall (f_X0_get 4 1000 (μ.1 14 4) μ) (fun (r2 : Int32) (μ2 : jM) => jcall (f_X0_get 4 1000 ((μ2.1 14 4) + (1 : Int32)) μ2) (fun (r3 : Int32) (μ3 : jM) => if r2 ≤ (0 : Int32) then (if r3 = (0 : Int32) then (jcall (f_X1_takeRowEnd  μ3) (fun (r5 : Int32) (μ5 : jM) => some (r5, μ5))) else (if r3 = (1 : Int32) then (jcall (f_X1_takeEnd  μ3) (fun (r7 : Int32) (μ7 : jM) => some (r7, μ7))) else (if r3 = (2 : Int32) then (jcall (f_X1_takeGoingOn  μ3) (fun (r9 : Int32) (μ9 : jM) => some (r9, μ9))) else (jcall (f_X1_takeRowBytes r3 μ3) (fun (r10 : Int32) (μ10 : jM) => some (r10, μ10)))))) else (jcall (f_X1_takeRowRun r2 r3 μ3) (fun (r11 : Int32) (μ11 : jM) => some (r11, μ11)))))) else (some ((2 : Int32), μ))) else (some ((1 : Int32), μ)))
set_option maxHeartbeats 4000000 in
theorem M_X1_takeRows {l : Launch} {Δ : jD} {r : Int32} {μ μ9 : jM}   (hsep : jSep Δ shC) (hf : f_X1_takeRows  μ = some (r, μ9)) : jMet l yX1_takeRows cX1_takeRows 4 (some .int) D_X1_takeRows Δ shC [jr Δ 14] μ (some (.int r), μ9) := by
  refine jMet_of (own := RX1) (L := [some (jr Δ 14), none, none, none]) (by decide) rfl (Nat.le_of_ble_eq_true rfl) rfl hsep (fun Γ _ X => ?_)
  unfold f_X1_takeRows at hf
  refine g_ald_n (pc := 0) (i := 0) X dX1_takeRows_0 rfl rfl ?_
  refine g_getR (pc := 1) (k := 1) X dX1_takeRows_1 cl_X1 rfl rfl (by decide) w_132 ?_
  refine g_getI (pc := 4) (k := 1) X dX1_takeRows_4 cl_X0 rfl rfl (by decide) w_73 ?_
  refine g_ald_n (pc := 7) (i := 0) X dX1_takeRows_7 rfl rfl ?_
  refine g_getI (pc := 8) (k := 4) X dX1_takeRows_8 cl_X1 rfl rfl (by decide) w_137 ?_
  refine g_isub (pc := 11) X dX1_takeRows_11 ?_
  refine g_nmI (fun z1 ez1 => ?_)
  replace hf := jlet_i ez1 hf
  refine g_ist_n (pc := 12) (i := 1) (L1 := [some (jr Δ 14), some (.int z1), none, none]) X dX1_takeRows_12 rfl (Nat.le_of_ble_eq_true rfl) rfl rfl ?_
  refine g_ild_n (pc := 13) (i := 1) X dX1_takeRows_13 rfl rfl ?_
  refine g_iconst (pc := 14) (v := (1 : Int32)) X dX1_takeRows_14 (by decide) ?_
  refine g_icmp_ge (pc := 15) 20 X dX1_takeRows_15 (by decide) (fun h14 => ?_) (fun h14 => ?_)
  · replace hf := jt_i h14 hf
    refine g_ild_n (pc := 20) (i := 1) X dX1_takeRows_20 rfl rfl ?_
    refine g_iconst (pc := 21) (v := (2 : Int32)) X dX1_takeRows_21 (by decide) ?_
    refine g_icmp_ge (pc := 22) 27 X dX1_takeRows_22 (by decide) (fun h13 => ?_) (fun h13 => ?_)
    · replace hf := jt_i h13 hf
      refine g_ald_n (pc := 27) (i := 0) X dX1_takeRows_27 rfl rfl ?_
      refine g_getR (pc := 28) (k := 1) X dX1_takeRows_28 cl_X1 rfl rfl (by decide) w_132 ?_
      refine g_ald_n (pc := 31) (i := 0) X dX1_takeRows_31 rfl rfl ?_
      refine g_getI (pc := 32) (k := 4) X dX1_takeRows_32 cl_X1 rfl rfl (by decide) w_137 ?_
      obtain ⟨r2, μ2, hc2, hf⟩ := jcall_i hf
      refine g_callVi (pc := 35) [.int (μ.1 14 4)] X dX1_takeRows_35 (M_X0_get ⟨rfl, rfl⟩ (jOk_sep X) hc2) Y_X0_get w_433 w_292 w_291 cl_X0 rfl rfl (by decide) rfl rfl (Nat.le_of_ble_eq_true rfl) rfl ?_
      refine g_ist_n (pc := 38) (i := 2) (L1 := [some (jr Δ 14), some (.int z1), some (.int r2), none]) X dX1_takeRows_38 rfl (Nat.le_of_ble_eq_true rfl) rfl rfl ?_
      refine g_ald_n (pc := 39) (i := 0) X dX1_takeRows_39 rfl rfl ?_
      refine g_getR (pc := 40) (k := 1) X dX1_takeRows_40 cl_X1 rfl rfl (by decide) w_132 ?_
      refine g_ald_n (pc := 43) (i := 0) X dX1_takeRows_43 rfl rfl ?_
      refine g_getI (pc := 44) (k := 4) X dX1_takeRows_44 cl_X1 rfl rfl (by decide) w_137 ?_
      refine g_iconst (pc := 47) (v := (1 : Int32)) X dX1_takeRows_47 (by decide) ?_
      refine g_iadd (pc := 48) X dX1_takeRows_48 ?_
      obtain ⟨r3, μ3, hc3, hf⟩ := jcall_i hf
      refine g_callVi (pc := 49) [.int ((μ2.1 14 4) + (1 : Int32))] X dX1_takeRows_49 (M_X0_get ⟨rfl, rfl⟩ (jOk_sep X) hc3) Y_X0_get w_433 w_292 w_291 cl_X0 rfl rfl (by decide) rfl rfl (Nat.le_of_ble_eq_true rfl) rfl ?_
      refine g_ist_n (pc := 52) (i := 3) (L1 := [some (jr Δ 14), some (.int z1), some (.int r2), some (.int r3)]) X dX1_takeRows_52 rfl (Nat.le_of_ble_eq_true rfl) rfl rfl ?_
      refine g_ild_n (pc := 53) (i := 2) X dX1_takeRows_53 rfl rfl ?_
      refine g_if_le (pc := 54) 64 X dX1_takeRows_54 (by decide) (fun h12 => ?_) (fun h12 => ?_)
      · replace hf := jt_i h12 hf
        refine g_ild_n (pc := 64) (i := 3) X dX1_takeRows_64 rfl rfl ?_
        by_cases h4 : r3 = (0 : Int32)
        · replace hf := jt_i h4 hf
          refine g_tblIn (pc := 65) 92 X dX1_takeRows_65 (by rw [h4]; decide) (by rw [h4]; decide) (by rw [h4]; rfl) (by decide) ?_
          refine g_ald_n (pc := 92) (i := 0) X dX1_takeRows_92 rfl rfl ?_
          obtain ⟨r5, μ5, hc5, hf⟩ := jcall_i hf
          refine g_callVi (pc := 93) [] X dX1_takeRows_93 (M_X1_takeRowEnd  (jOk_sep X) hc5) Y_X1_takeRowEnd w_472 w_474 w_473 cl_X1 rfl rfl (by decide) rfl rfl (Nat.le_of_ble_eq_true rfl) rfl ?_
          exact g_iret (pc := 96) X dX1_takeRows_96 hf
        replace hf := jf_i h4 hf
        by_cases h6 : r3 = (1 : Int32)
        · replace hf := jt_i h6 hf
          refine g_tblIn (pc := 65) 97 X dX1_takeRows_65 (by rw [h6]; decide) (by rw [h6]; decide) (by rw [h6]; rfl) (by decide) ?_
          refine g_ald_n (pc := 97) (i := 0) X dX1_takeRows_97 rfl rfl ?_
          obtain ⟨r7, μ7, hc7, hf⟩ := jcall_i hf
          refine g_callVi (pc := 98) [] X dX1_takeRows_98 (M_X1_takeEnd  (jOk_sep X) hc7) Y_X1_takeEnd w_440 w_442 w_441 cl_X1 rfl rfl (by decide) rfl rfl (Nat.le_of_ble_eq_true rfl) rfl ?_
          exact g_iret (pc := 101) X dX1_takeRows_101 hf
        replace hf := jf_i h6 hf
        by_cases h8 : r3 = (2 : Int32)
        · replace hf := jt_i h8 hf
          refine g_tblIn (pc := 65) 102 X dX1_takeRows_65 (by rw [h8]; decide) (by rw [h8]; decide) (by rw [h8]; rfl) (by decide) ?_
          refine g_ald_n (pc := 102) (i := 0) X dX1_takeRows_102 rfl rfl ?_
          obtain ⟨r9, μ9, hc9, hf⟩ := jcall_i hf
          refine g_callVi (pc := 103) [] X dX1_takeRows_103 (M_X1_takeGoingOn  (jOk_sep X) hc9) Y_X1_takeGoingOn w_476 w_478 w_477 cl_X1 rfl rfl (by decide) rfl rfl (Nat.le_of_ble_eq_true rfl) rfl ?_
          exact g_iret (pc := 106) X dX1_takeRows_106 hf
        replace hf := jf_i h8 hf
        refine g_tblOut (pc := 65) 107 X dX1_takeRows_65 (by have yh4 := lv_neT (a := 0) h4 rfl; have yh6 := lv_neT (a := 1) h6 rfl; have yh8 := lv_neT (a := 2) h8 rfl; omega) (by decide) ?_
        refine g_ald_n (pc := 107) (i := 0) X dX1_takeRows_107 rfl rfl ?_
        refine g_ild_n (pc := 108) (i := 3) X dX1_takeRows_108 rfl rfl ?_
        obtain ⟨r10, μ10, hc10, hf⟩ := jcall_i hf
        refine g_callVi (pc := 109) [.int r3] X dX1_takeRows_109 (M_X1_takeRowBytes  (jOk_sep X) hc10) Y_X1_takeRowBytes w_480 w_482 w_481 cl_X1 rfl rfl (by decide) rfl rfl (Nat.le_of_ble_eq_true rfl) rfl ?_
        exact g_iret (pc := 112) X dX1_takeRows_112 hf
      · replace hf := jf_i h12 hf
        refine g_ald_n (pc := 57) (i := 0) X dX1_takeRows_57 rfl rfl ?_
        refine g_ild_n (pc := 58) (i := 2) X dX1_takeRows_58 rfl rfl ?_
        refine g_ild_n (pc := 59) (i := 3) X dX1_takeRows_59 rfl rfl ?_
        obtain ⟨r11, μ11, hc11, hf⟩ := jcall_i hf
        refine g_callVi (pc := 60) [.int r2, .int r3] X dX1_takeRows_60 (M_X1_takeRowRun  (jOk_sep X) hc11) Y_X1_takeRowRun w_452 w_454 w_453 cl_X1 rfl rfl (by decide) rfl rfl (Nat.le_of_ble_eq_true rfl) rfl ?_
        exact g_iret (pc := 63) X dX1_takeRows_63 hf
    · replace hf := jf_i h13 hf
      refine g_iconst (pc := 25) (v := (2 : Int32)) X dX1_takeRows_25 (by decide) ?_
      exact g_iret (pc := 26) X dX1_takeRows_26 hf
  · replace hf := jf_i h14 hf
    refine g_iconst (pc := 18) (v := (1 : Int32)) X dX1_takeRows_18 (by decide) ?_
    exact g_iret (pc := 19) X dX1_takeRows_19 hf
/-! X1_takeSigned -/
abbrev D_X1_takeSigned : Nat := 2
noncomputable def f_X1_takeSigned  (μ : jM) : Option (Int32 × jM) := if (μ.1 14 4) < (μ.1 4 1) then (jcall (f_X0_get 4 1000 (μ.1 14 4) μ) (fun (r1 : Int32) (μ1 : jM) => jlet ((r1).toInt8.toInt32) (fun z2 : Int32 => if z2 = (-128 : Int32) then (jlet (jsI μ1 14 5 ((μ1.1 14 4) + (1 : Int32))) (fun μ6 : jM => some ((0 : Int32), μ6))) else (if z2 < (0 : Int32) then (jcall (f_X1_takeUnits ((μ1.1 14 4) + (1 : Int32)) (1 : Int32) ((1 : Int32) - z2) μ1) (fun (r3 : Int32) (μ3 : jM) => some (r3, μ3))) else (jcall (f_X1_takeUnits ((μ1.1 14 4) + (1 : Int32)) (z2 + (1 : Int32)) (1 : Int32) μ1) (fun (r4 : Int32) (μ4 : jM) => some (r4, μ4))))))) else (jbl (1 : Int32) (jlet (jsI μ 14 6 (1 : Int32)) (fun μ8 : jM => some ((0 : Int32), μ8))))
set_option maxHeartbeats 4000000 in
theorem M_X1_takeSigned {l : Launch} {Δ : jD} {r : Int32} {μ μ9 : jM}   (hsep : jSep Δ shC) (hf : f_X1_takeSigned  μ = some (r, μ9)) : jMet l yX1_takeSigned cX1_takeSigned 2 (some .int) D_X1_takeSigned Δ shC [jr Δ 14] μ (some (.int r), μ9) := by
  refine jMet_of (own := RX1) (L := [some (jr Δ 14), none]) (by decide) rfl (Nat.le_of_ble_eq_true rfl) rfl hsep (fun Γ _ X => ?_)
  unfold f_X1_takeSigned at hf
  refine g_ald_n (pc := 0) (i := 0) X dX1_takeSigned_0 rfl rfl ?_
  refine g_getI (pc := 1) (k := 4) X dX1_takeSigned_1 cl_X1 rfl rfl (by decide) w_137 ?_
  refine g_ald_n (pc := 4) (i := 0) X dX1_takeSigned_4 rfl rfl ?_
  refine g_getR (pc := 5) (k := 1) X dX1_takeSigned_5 cl_X1 rfl rfl (by decide) w_132 ?_
  refine g_getI (pc := 8) (k := 1) X dX1_takeSigned_8 cl_X0 rfl rfl (by decide) w_73 ?_
  refine g_icmp_lt (pc := 11) 21 X dX1_takeSigned_11 (by decide) (fun h10 => ?_) (fun h10 => ?_)
  · replace hf := jt_i h10 hf
    refine g_ald_n (pc := 21) (i := 0) X dX1_takeSigned_21 rfl rfl ?_
    refine g_getR (pc := 22) (k := 1) X dX1_takeSigned_22 cl_X1 rfl rfl (by decide) w_132 ?_
    refine g_ald_n (pc := 25) (i := 0) X dX1_takeSigned_25 rfl rfl ?_
    refine g_getI (pc := 26) (k := 4) X dX1_takeSigned_26 cl_X1 rfl rfl (by decide) w_137 ?_
    obtain ⟨r1, μ1, hc1, hf⟩ := jcall_i hf
    refine g_callVi (pc := 29) [.int (μ.1 14 4)] X dX1_takeSigned_29 (M_X0_get ⟨rfl, rfl⟩ (jOk_sep X) hc1) Y_X0_get w_433 w_292 w_291 cl_X0 rfl rfl (by decide) rfl rfl (Nat.le_of_ble_eq_true rfl) rfl ?_
    refine g_i2b (pc := 32) X dX1_takeSigned_32 ?_
    refine g_nmI (fun z2 ez2 => ?_)
    replace hf := jlet_i ez2 hf
    refine g_ist_n (pc := 33) (i := 1) (L1 := [some (jr Δ 14), some (.int z2)]) X dX1_takeSigned_33 rfl (Nat.le_of_ble_eq_true rfl) rfl rfl ?_
    refine g_ild_n (pc := 34) (i := 1) X dX1_takeSigned_34 rfl rfl ?_
    refine g_bipush (pc := 35) (v := (-128 : Int32)) X dX1_takeSigned_35 (by decide) ?_
    refine g_icmp_ne (pc := 37) 52 X dX1_takeSigned_37 (by decide) (fun h7 => ?_) (fun h7 => ?_)
    · replace hf := jf_i h7 hf
      refine g_ild_n (pc := 52) (i := 1) X dX1_takeSigned_52 rfl rfl ?_
      refine g_if_lt (pc := 53) 73 X dX1_takeSigned_53 (by decide) (fun h5 => ?_) (fun h5 => ?_)
      · replace hf := jt_i h5 hf
        refine g_ald_n (pc := 73) (i := 0) X dX1_takeSigned_73 rfl rfl ?_
        refine g_ald_n (pc := 74) (i := 0) X dX1_takeSigned_74 rfl rfl ?_
        refine g_getI (pc := 75) (k := 4) X dX1_takeSigned_75 cl_X1 rfl rfl (by decide) w_137 ?_
        refine g_iconst (pc := 78) (v := (1 : Int32)) X dX1_takeSigned_78 (by decide) ?_
        refine g_iadd (pc := 79) X dX1_takeSigned_79 ?_
        refine g_iconst (pc := 80) (v := (1 : Int32)) X dX1_takeSigned_80 (by decide) ?_
        refine g_iconst (pc := 81) (v := (1 : Int32)) X dX1_takeSigned_81 (by decide) ?_
        refine g_ild_n (pc := 82) (i := 1) X dX1_takeSigned_82 rfl rfl ?_
        refine g_isub (pc := 83) X dX1_takeSigned_83 ?_
        obtain ⟨r3, μ3, hc3, hf⟩ := jcall_i hf
        refine g_callVi (pc := 84) [.int ((μ1.1 14 4) + (1 : Int32)), .int (1 : Int32), .int ((1 : Int32) - z2)] X dX1_takeSigned_84 (M_X1_takeUnits  (jOk_sep X) hc3) Y_X1_takeUnits w_434 w_436 w_435 cl_X1 rfl rfl (by decide) rfl rfl (Nat.le_of_ble_eq_true rfl) rfl ?_
        exact g_iret (pc := 87) X dX1_takeSigned_87 hf
      · replace hf := jf_i h5 hf
        refine g_ald_n (pc := 56) (i := 0) X dX1_takeSigned_56 rfl rfl ?_
        refine g_ald_n (pc := 57) (i := 0) X dX1_takeSigned_57 rfl rfl ?_
        refine g_getI (pc := 58) (k := 4) X dX1_takeSigned_58 cl_X1 rfl rfl (by decide) w_137 ?_
        refine g_iconst (pc := 61) (v := (1 : Int32)) X dX1_takeSigned_61 (by decide) ?_
        refine g_iadd (pc := 62) X dX1_takeSigned_62 ?_
        refine g_ild_n (pc := 63) (i := 1) X dX1_takeSigned_63 rfl rfl ?_
        refine g_iconst (pc := 64) (v := (1 : Int32)) X dX1_takeSigned_64 (by decide) ?_
        refine g_iadd (pc := 65) X dX1_takeSigned_65 ?_
        refine g_iconst (pc := 66) (v := (1 : Int32)) X dX1_takeSigned_66 (by decide) ?_
        obtain ⟨r4, μ4, hc4, hf⟩ := jcall_i hf
        refine g_callVi (pc := 67) [.int ((μ1.1 14 4) + (1 : Int32)), .int (z2 + (1 : Int32)), .int (1 : Int32)] X dX1_takeSigned_67 (M_X1_takeUnits  (jOk_sep X) hc4) Y_X1_takeUnits w_434 w_436 w_435 cl_X1 rfl rfl (by decide) rfl rfl (Nat.le_of_ble_eq_true rfl) rfl ?_
        refine g_goto (pc := 70) 87 X dX1_takeSigned_70 (by decide) ?_
        exact g_iret (pc := 87) X dX1_takeSigned_87 hf
    · replace hf := jt_i h7 hf
      refine g_ald_n (pc := 40) (i := 0) X dX1_takeSigned_40 rfl rfl ?_
      refine g_ald_n (pc := 41) (i := 0) X dX1_takeSigned_41 rfl rfl ?_
      refine g_getI (pc := 42) (k := 4) X dX1_takeSigned_42 cl_X1 rfl rfl (by decide) w_137 ?_
      refine g_iconst (pc := 45) (v := (1 : Int32)) X dX1_takeSigned_45 (by decide) ?_
      refine g_iadd (pc := 46) X dX1_takeSigned_46 ?_
      refine g_putI (pc := 47) (k := 5) X dX1_takeSigned_47 cl_X1 rfl rfl (by decide) w_139 rfl rfl rfl ?_
      refine g_nmM (fun μ6 eμ6 => ?_)
      replace hf := jlet_i eμ6 hf
      refine g_iconst (pc := 50) (v := (0 : Int32)) X dX1_takeSigned_50 (by decide) ?_
      exact g_iret (pc := 51) X dX1_takeSigned_51 hf
  · replace hf := jf_i h10 hf
    refine g_ald_n (pc := 14) (i := 0) X dX1_takeSigned_14 rfl rfl ?_
    refine g_iconst (pc := 15) (v := (1 : Int32)) X dX1_takeSigned_15 (by decide) ?_
    obtain ⟨hb9, hf⟩ := jbl_i hf
    refine g_putI (pc := 16) (k := 6) X dX1_takeSigned_16 cl_X1 rfl rfl (by decide) w_140 rfl (jb_n hb9) (jb_f hb9) ?_
    refine g_nmM (fun μ8 eμ8 => ?_)
    replace hf := jlet_i eμ8 hf
    refine g_iconst (pc := 19) (v := (0 : Int32)) X dX1_takeSigned_19 (by decide) ?_
    exact g_iret (pc := 20) X dX1_takeSigned_20 hf
/-! X1_takePiece -/
abbrev D_X1_takePiece : Nat := 4
noncomputable def f_X1_takePiece  (μ : jM) : Option (Int32 × jM) := if (μ.1 1 0) = (0 : Int32) then (jcall (f_X1_takeMarked  μ) (fun (r2 : Int32) (μ2 : jM) => some (r2, μ2))) else (if (μ.1 1 0) = (1 : Int32) then (jcall (f_X1_takeSigned  μ) (fun (r4 : Int32) (μ4 : jM) => some (r4, μ4))) else (jcall (f_X1_takeRows  μ) (fun (r5 : Int32) (μ5 : jM) => some (r5, μ5))))
set_option maxHeartbeats 4000000 in
theorem M_X1_takePiece {l : Launch} {Δ : jD} {r : Int32} {μ μ9 : jM}   (hsep : jSep Δ shC) (hf : f_X1_takePiece  μ = some (r, μ9)) : jMet l yX1_takePiece cX1_takePiece 1 (some .int) D_X1_takePiece Δ shC [jr Δ 14] μ (some (.int r), μ9) := by
  refine jMet_of (own := RX1) (L := [some (jr Δ 14)]) (by decide) rfl (Nat.le_of_ble_eq_true rfl) rfl hsep (fun Γ _ X => ?_)
  unfold f_X1_takePiece at hf
  refine g_ald_n (pc := 0) (i := 0) X dX1_takePiece_0 rfl rfl ?_
  refine g_getR (pc := 1) (k := 0) X dX1_takePiece_1 cl_X1 rfl rfl (by decide) w_131 ?_
  refine g_getI (pc := 4) (k := 0) X dX1_takePiece_4 cl_X4 rfl rfl (by decide) w_33 ?_
  by_cases h1 : (μ.1 1 0) = (0 : Int32)
  · replace hf := jt_i h1 hf
    refine g_lookup (pc := 7) (off := 25) 32 X dX1_takePiece_7 (by decide) (by rw [h1]; first | done | rfl) (by decide) ?_
    refine g_ald_n (pc := 32) (i := 0) X dX1_takePiece_32 rfl rfl ?_
    obtain ⟨r2, μ2, hc2, hf⟩ := jcall_i hf
    refine g_callVi (pc := 33) [] X dX1_takePiece_33 (M_X1_takeMarked  (jOk_sep X) hc2) Y_X1_takeMarked w_429 w_431 w_430 cl_X1 rfl rfl (by decide) rfl rfl (Nat.le_of_ble_eq_true rfl) rfl ?_
    exact g_iret (pc := 36) X dX1_takePiece_36 hf
  replace hf := jf_i h1 hf
  by_cases h3 : (μ.1 1 0) = (1 : Int32)
  · replace hf := jt_i h3 hf
    refine g_lookup (pc := 7) (off := 30) 37 X dX1_takePiece_7 (by decide) (by rw [h3]; first | done | rfl) (by decide) ?_
    refine g_ald_n (pc := 37) (i := 0) X dX1_takePiece_37 rfl rfl ?_
    obtain ⟨r4, μ4, hc4, hf⟩ := jcall_i hf
    refine g_callVi (pc := 38) [] X dX1_takePiece_38 (M_X1_takeSigned  (jOk_sep X) hc4) Y_X1_takeSigned w_444 w_446 w_445 cl_X1 rfl rfl (by decide) rfl rfl (Nat.le_of_ble_eq_true rfl) rfl ?_
    exact g_iret (pc := 41) X dX1_takePiece_41 hf
  replace hf := jf_i h3 hf
  refine g_lookup (pc := 7) (off := 35) 42 X dX1_takePiece_7 (by decide) (by show Op.lookupswitch.offset [(0, 25), (1, 30)] 35 _ = 35; rw [lv_osw (a := 0) h1 (by decide), lv_osw (a := 1) h3 (by decide)]; first | done | rfl) (by decide) ?_
  refine g_ald_n (pc := 42) (i := 0) X dX1_takePiece_42 rfl rfl ?_
  obtain ⟨r5, μ5, hc5, hf⟩ := jcall_i hf
  refine g_callVi (pc := 43) [] X dX1_takePiece_43 (M_X1_takeRows  (jOk_sep X) hc5) Y_X1_takeRows w_448 w_450 w_449 cl_X1 rfl rfl (by decide) rfl rfl (Nat.le_of_ble_eq_true rfl) rfl ?_
  exact g_iret (pc := 46) X dX1_takePiece_46 hf
/-! X1_run -/
abbrev D_X1_run : Nat := 5
noncomputable def f_X1_run_77    (μ : jM) : Option (Unit × jM) := if (μ.1 14 3) = (0 : Int32) then (if (μ.1 1 4) = (1 : Int32) then (jcall (f_X1_addUp  μ) (fun (r1 : Unit) (μ1 : jM) => some ((), μ1))) else (some ((), μ))) else (some ((), μ))
noncomputable def f_X1_run_34   : Nat → Int32 → jM → Option (Unit × jM)
  | 0, _, _ => none
  | fu + 1, x1, μ => if (1000 : Int32) < x1 then (f_X1_run_77     μ) else (if (μ.1 14 6) = (0 : Int32) then (if (μ.1 14 3) = (0 : Int32) then (jlet (jsI μ 14 4 (μ.1 14 5)) (fun μ4 : jM => jcall (f_X1_takePiece  μ4) (fun (r5 : Int32) (μ5 : jM) => jlet (jsI μ5 14 3 r5) (fun μ6 : jM => jlet (x1 + (1 : Int32)) (fun z7 : Int32 => f_X1_run_34   fu z7 μ6))))) else (f_X1_run_77     μ)) else (f_X1_run_77     μ))
noncomputable def f_X1_run  (μ : jM) : Option (Unit × jM) := jcall (f_X0_blank 15 240 μ) (fun (r11 : Unit) (μ11 : jM) => jlet (jsI μ11 14 3 (0 : Int32)) (fun μ12 : jM => jlet (jsI μ12 14 5 (0 : Int32)) (fun μ13 : jM => jbl (0 : Int32) (jlet (jsI μ13 14 6 (0 : Int32)) (fun μ14 : jM => jlet (jsI μ14 14 7 (0 : Int32)) (fun μ16 : jM => jlet (jsI μ16 14 8 (0 : Int32)) (fun μ17 : jM => f_X1_run_34   jFU (0 : Int32) μ17)))))))
set_option maxHeartbeats 4000000 in
theorem t_X1_run_77 {Γ : jC} {Δ : jD} {r : Unit} {μ9 : jM}    (X : jOk Γ Δ shC cX1_run 2 RX1 none D_X1_run)  : ∀ (μ : jM), f_X1_run_77    μ = some (r, μ9) → jG Γ Δ shC (none, μ9) 77 [some (jr Δ 14), none] [] μ := by
  intro  μ hf
  unfold f_X1_run_77 at hf
  refine g_ald_n (pc := 77) (i := 0) X dX1_run_77 rfl rfl ?_
  refine g_getI (pc := 78) (k := 3) X dX1_run_78 cl_X1 rfl rfl (by decide) w_135 ?_
  refine g_if_ne (pc := 81) 99 X dX1_run_81 (by decide) (fun h3 => ?_) (fun h3 => ?_)
  · replace hf := jf_i h3 hf
    exact g_vret (pc := 99) X dX1_run_99 hf
  · replace hf := jt_i h3 hf
    refine g_ald_n (pc := 84) (i := 0) X dX1_run_84 rfl rfl ?_
    refine g_getR (pc := 85) (k := 0) X dX1_run_85 cl_X1 rfl rfl (by decide) w_131 ?_
    refine g_getI (pc := 88) (k := 4) X dX1_run_88 cl_X4 rfl rfl (by decide) w_50 ?_
    refine g_iconst (pc := 91) (v := (1 : Int32)) X dX1_run_91 (by decide) ?_
    refine g_icmp_ne (pc := 92) 99 X dX1_run_92 (by decide) (fun h2 => ?_) (fun h2 => ?_)
    · replace hf := jf_i h2 hf
      exact g_vret (pc := 99) X dX1_run_99 hf
    · replace hf := jt_i h2 hf
      refine g_ald_n (pc := 95) (i := 0) X dX1_run_95 rfl rfl ?_
      obtain ⟨r1, μ1, hc1, hf⟩ := jcall_i hf
      refine g_callVv (pc := 96) [] X dX1_run_96 (M_X1_addUp  (jOk_sep X) hc1) Y_X1_addUp w_484 w_486 w_485 cl_X1 rfl rfl (by decide) rfl rfl (Nat.le_of_ble_eq_true rfl) rfl ?_
      exact g_vret (pc := 99) X dX1_run_99 hf
set_option maxHeartbeats 4000000 in
theorem t_X1_run_34 {Γ : jC} {Δ : jD} {r : Unit} {μ9 : jM}    (X : jOk Γ Δ shC cX1_run 2 RX1 none D_X1_run)  : ∀ (fu : Nat) (x1 : Int32) (μ : jM), f_X1_run_34   fu x1 μ = some (r, μ9) → jG Γ Δ shC (none, μ9) 34 [some (jr Δ 14), some (.int x1)] [] μ := by
  intro fu
  induction fu with
  | zero =>
    intro x1 μ hf
    cases hf
  | succ fu ih =>
    intro x1 μ hf
    replace hf := (f_X1_run_34.eq_2 _ _ _).symm.trans hf
    refine g_ild_n (pc := 34) (i := 1) X dX1_run_34 rfl rfl ?_
    refine g_sipush (pc := 35) (v := (1000 : Int32)) X dX1_run_35 (by decide) ?_
    refine g_icmp_gt (pc := 38) 77 X dX1_run_38 (by decide) (fun h10 => ?_) (fun h10 => ?_)
    · replace hf := jt_i h10 hf
      exact g_weak (t_X1_run_77  X    _ hf) (⟨rfl, trivial⟩)
    · replace hf := jf_i h10 hf
      refine g_ald_n (pc := 41) (i := 0) X dX1_run_41 rfl rfl ?_
      refine g_getI (pc := 42) (k := 6) X dX1_run_42 cl_X1 rfl rfl (by decide) w_140 ?_
      refine g_if_ne (pc := 45) 77 X dX1_run_45 (by decide) (fun h9 => ?_) (fun h9 => ?_)
      · replace hf := jf_i h9 hf
        exact g_weak (t_X1_run_77  X    _ hf) (⟨rfl, trivial⟩)
      · replace hf := jt_i h9 hf
        refine g_ald_n (pc := 48) (i := 0) X dX1_run_48 rfl rfl ?_
        refine g_getI (pc := 49) (k := 3) X dX1_run_49 cl_X1 rfl rfl (by decide) w_135 ?_
        refine g_if_ne (pc := 52) 77 X dX1_run_52 (by decide) (fun h8 => ?_) (fun h8 => ?_)
        · replace hf := jf_i h8 hf
          exact g_weak (t_X1_run_77  X    _ hf) (⟨rfl, trivial⟩)
        · replace hf := jt_i h8 hf
          refine g_ald_n (pc := 55) (i := 0) X dX1_run_55 rfl rfl ?_
          refine g_ald_n (pc := 56) (i := 0) X dX1_run_56 rfl rfl ?_
          refine g_getI (pc := 57) (k := 5) X dX1_run_57 cl_X1 rfl rfl (by decide) w_139 ?_
          refine g_putI (pc := 60) (k := 4) X dX1_run_60 cl_X1 rfl rfl (by decide) w_137 rfl rfl rfl ?_
          refine g_nmM (fun μ4 eμ4 => ?_)
          replace hf := jlet_i eμ4 hf
          refine g_ald_n (pc := 63) (i := 0) X dX1_run_63 rfl rfl ?_
          refine g_ald_n (pc := 64) (i := 0) X dX1_run_64 rfl rfl ?_
          obtain ⟨r5, μ5, hc5, hf⟩ := jcall_i hf
          refine g_callVi (pc := 65) [] X dX1_run_65 (M_X1_takePiece  (jOk_sep X) hc5) Y_X1_takePiece w_425 w_427 w_426 cl_X1 rfl rfl (by decide) rfl rfl (Nat.le_of_ble_eq_true rfl) rfl ?_
          refine g_putI (pc := 68) (k := 3) X dX1_run_68 cl_X1 rfl rfl (by decide) w_135 rfl rfl rfl ?_
          refine g_nmM (fun μ6 eμ6 => ?_)
          replace hf := jlet_i eμ6 hf
          obtain ⟨z7, ez7⟩ : ∃ z : Int32, z = x1 + (1 : Int32) := ⟨_, rfl⟩
          replace hf := jlet_i ez7 hf
          refine g_iinc (pc := 71) (L1 := [some (jr Δ 14), some (.int z7)]) X dX1_run_71 rfl (by rw [ez7]; rfl) rfl rfl ?_
          refine g_goto (pc := 74) 34 X dX1_run_74 (by decide) ?_
          exact g_weak (ih _ _ hf) (⟨rfl, ⟨rfl, trivial⟩⟩)
set_option maxHeartbeats 4000000 in
theorem M_X1_run {l : Launch} {Δ : jD} {r : Unit} {μ μ9 : jM}   (hsep : jSep Δ shC) (hf : f_X1_run  μ = some (r, μ9)) : jMet l yX1_run cX1_run 2 none D_X1_run Δ shC [jr Δ 14] μ (none, μ9) := by
  refine jMet_of (own := RX1) (L := [some (jr Δ 14), none]) (by decide) rfl (Nat.le_of_ble_eq_true rfl) rfl hsep (fun Γ _ X => ?_)
  unfold f_X1_run at hf
  refine g_ald_n (pc := 0) (i := 0) X dX1_run_0 rfl rfl ?_
  refine g_getR (pc := 1) (k := 2) X dX1_run_1 cl_X1 rfl rfl (by decide) w_133 ?_
  obtain ⟨r11, μ11, hc11, hf⟩ := jcall_i hf
  refine g_callVv (pc := 4) [] X dX1_run_4 (M_X0_blank ⟨rfl, rfl⟩ (jOk_sep X) hc11) Y_X0_blank w_418 w_420 w_419 cl_X0 rfl rfl (by decide) rfl rfl (Nat.le_of_ble_eq_true rfl) rfl ?_
  refine g_ald_n (pc := 7) (i := 0) X dX1_run_7 rfl rfl ?_
  refine g_iconst (pc := 8) (v := (0 : Int32)) X dX1_run_8 (by decide) ?_
  refine g_putI (pc := 9) (k := 3) X dX1_run_9 cl_X1 rfl rfl (by decide) w_135 rfl rfl rfl ?_
  refine g_nmM (fun μ12 eμ12 => ?_)
  replace hf := jlet_i eμ12 hf
  refine g_ald_n (pc := 12) (i := 0) X dX1_run_12 rfl rfl ?_
  refine g_iconst (pc := 13) (v := (0 : Int32)) X dX1_run_13 (by decide) ?_
  refine g_putI (pc := 14) (k := 5) X dX1_run_14 cl_X1 rfl rfl (by decide) w_139 rfl rfl rfl ?_
  refine g_nmM (fun μ13 eμ13 => ?_)
  replace hf := jlet_i eμ13 hf
  refine g_ald_n (pc := 17) (i := 0) X dX1_run_17 rfl rfl ?_
  refine g_iconst (pc := 18) (v := (0 : Int32)) X dX1_run_18 (by decide) ?_
  obtain ⟨hb15, hf⟩ := jbl_i hf
  refine g_putI (pc := 19) (k := 6) X dX1_run_19 cl_X1 rfl rfl (by decide) w_140 rfl (jb_n hb15) (jb_f hb15) ?_
  refine g_nmM (fun μ14 eμ14 => ?_)
  replace hf := jlet_i eμ14 hf
  refine g_ald_n (pc := 22) (i := 0) X dX1_run_22 rfl rfl ?_
  refine g_iconst (pc := 23) (v := (0 : Int32)) X dX1_run_23 (by decide) ?_
  refine g_putI (pc := 24) (k := 7) X dX1_run_24 cl_X1 rfl rfl (by decide) w_141 rfl rfl rfl ?_
  refine g_nmM (fun μ16 eμ16 => ?_)
  replace hf := jlet_i eμ16 hf
  refine g_ald_n (pc := 27) (i := 0) X dX1_run_27 rfl rfl ?_
  refine g_iconst (pc := 28) (v := (0 : Int32)) X dX1_run_28 (by decide) ?_
  refine g_putI (pc := 29) (k := 8) X dX1_run_29 cl_X1 rfl rfl (by decide) w_142 rfl rfl rfl ?_
  refine g_nmM (fun μ17 eμ17 => ?_)
  replace hf := jlet_i eμ17 hf
  refine g_iconst (pc := 32) (v := (0 : Int32)) X dX1_run_32 (by decide) ?_
  refine g_ist_n (pc := 33) (i := 1) (L1 := [some (jr Δ 14), some (.int (0 : Int32))]) X dX1_run_33 rfl (Nat.le_of_ble_eq_true rfl) rfl rfl ?_
  exact g_weak (t_X1_run_34  X  jFU _ _ hf) (⟨rfl, ⟨rfl, trivial⟩⟩)
