/-! X2_addEnd -/
abbrev D_X2_addEnd : Nat := 1
noncomputable def f_X2_addEnd  (μ : jM) : Option (Unit × jM) := if (μ.1 1 0) = (0 : Int32) then (jcall (f_X0_add 7 1000 (μ.1 1 3) μ) (fun (r4 : Unit) (μ4 : jM) => jcall (f_X0_add 7 1000 (0 : Int32) μ4) (fun (r5 : Unit) (μ5 : jM) => some ((), μ5)))) else (if (μ.1 1 0) = (2 : Int32) then (jcall (f_X0_add 7 1000 (0 : Int32) μ) (fun (r1 : Unit) (μ1 : jM) => jcall (f_X0_add 7 1000 (1 : Int32) μ1) (fun (r2 : Unit) (μ2 : jM) => some ((), μ2)))) else (some ((), μ)))
set_option maxHeartbeats 4000000 in
theorem M_X2_addEnd {l : Launch} {Δ : jD} {r : Unit} {μ μ9 : jM}   (hsep : jSep Δ shC) (hf : f_X2_addEnd  μ = some (r, μ9)) : jMet l yX2_addEnd cX2_addEnd 1 none D_X2_addEnd Δ shC [jr Δ 6] μ (none, μ9) := by
  refine jMet_of (own := RX2) (L := [some (jr Δ 6)]) (by decide) rfl (Nat.le_of_ble_eq_true rfl) rfl hsep (fun Γ _ X => ?_)
  unfold f_X2_addEnd at hf
  refine g_ald_n (pc := 0) (i := 0) X dX2_addEnd_0 rfl rfl ?_
  refine g_getR (pc := 1) (k := 0) X dX2_addEnd_1 cl_X2 rfl rfl (by decide) w_90 ?_
  refine g_getI (pc := 4) (k := 0) X dX2_addEnd_4 cl_X4 rfl rfl (by decide) w_32 ?_
  refine g_if_ne (pc := 7) 35 X dX2_addEnd_7 (by decide) (fun h6 => ?_) (fun h6 => ?_)
  · replace hf := jf_i h6 hf
    refine g_ald_n (pc := 35) (i := 0) X dX2_addEnd_35 rfl rfl ?_
    refine g_getR (pc := 36) (k := 0) X dX2_addEnd_36 cl_X2 rfl rfl (by decide) w_90 ?_
    refine g_getI (pc := 39) (k := 0) X dX2_addEnd_39 cl_X4 rfl rfl (by decide) w_32 ?_
    refine g_iconst (pc := 42) (v := (2 : Int32)) X dX2_addEnd_42 (by decide) ?_
    refine g_icmp_ne (pc := 43) 62 X dX2_addEnd_43 (by decide) (fun h3 => ?_) (fun h3 => ?_)
    · replace hf := jf_i h3 hf
      exact g_vret (pc := 62) X dX2_addEnd_62 hf
    · replace hf := jt_i h3 hf
      refine g_ald_n (pc := 46) (i := 0) X dX2_addEnd_46 rfl rfl ?_
      refine g_getR (pc := 47) (k := 1) X dX2_addEnd_47 cl_X2 rfl rfl (by decide) w_91 ?_
      refine g_iconst (pc := 50) (v := (0 : Int32)) X dX2_addEnd_50 (by decide) ?_
      obtain ⟨r1, μ1, hc1, hf⟩ := jcall_i hf
      refine g_callVv (pc := 51) [.int (0 : Int32)] X dX2_addEnd_51 (M_X0_add ⟨rfl, rfl⟩ (jOk_sep X) hc1) Y_X0_add w_385 w_232 w_231 cl_X0 rfl rfl (by decide) rfl rfl (Nat.le_of_ble_eq_true rfl) rfl ?_
      refine g_ald_n (pc := 54) (i := 0) X dX2_addEnd_54 rfl rfl ?_
      refine g_getR (pc := 55) (k := 1) X dX2_addEnd_55 cl_X2 rfl rfl (by decide) w_91 ?_
      refine g_iconst (pc := 58) (v := (1 : Int32)) X dX2_addEnd_58 (by decide) ?_
      obtain ⟨r2, μ2, hc2, hf⟩ := jcall_i hf
      refine g_callVv (pc := 59) [.int (1 : Int32)] X dX2_addEnd_59 (M_X0_add ⟨rfl, rfl⟩ (jOk_sep X) hc2) Y_X0_add w_385 w_232 w_231 cl_X0 rfl rfl (by decide) rfl rfl (Nat.le_of_ble_eq_true rfl) rfl ?_
      exact g_vret (pc := 62) X dX2_addEnd_62 hf
  · replace hf := jt_i h6 hf
    refine g_ald_n (pc := 10) (i := 0) X dX2_addEnd_10 rfl rfl ?_
    refine g_getR (pc := 11) (k := 1) X dX2_addEnd_11 cl_X2 rfl rfl (by decide) w_91 ?_
    refine g_ald_n (pc := 14) (i := 0) X dX2_addEnd_14 rfl rfl ?_
    refine g_getR (pc := 15) (k := 0) X dX2_addEnd_15 cl_X2 rfl rfl (by decide) w_90 ?_
    refine g_getI (pc := 18) (k := 3) X dX2_addEnd_18 cl_X4 rfl rfl (by decide) w_48 ?_
    obtain ⟨r4, μ4, hc4, hf⟩ := jcall_i hf
    refine g_callVv (pc := 21) [.int (μ.1 1 3)] X dX2_addEnd_21 (M_X0_add ⟨rfl, rfl⟩ (jOk_sep X) hc4) Y_X0_add w_385 w_232 w_231 cl_X0 rfl rfl (by decide) rfl rfl (Nat.le_of_ble_eq_true rfl) rfl ?_
    refine g_ald_n (pc := 24) (i := 0) X dX2_addEnd_24 rfl rfl ?_
    refine g_getR (pc := 25) (k := 1) X dX2_addEnd_25 cl_X2 rfl rfl (by decide) w_91 ?_
    refine g_iconst (pc := 28) (v := (0 : Int32)) X dX2_addEnd_28 (by decide) ?_
    obtain ⟨r5, μ5, hc5, hf⟩ := jcall_i hf
    refine g_callVv (pc := 29) [.int (0 : Int32)] X dX2_addEnd_29 (M_X0_add ⟨rfl, rfl⟩ (jOk_sep X) hc5) Y_X0_add w_385 w_232 w_231 cl_X0 rfl rfl (by decide) rfl rfl (Nat.le_of_ble_eq_true rfl) rfl ?_
    refine g_goto (pc := 32) 62 X dX2_addEnd_32 (by decide) ?_
    exact g_vret (pc := 62) X dX2_addEnd_62 hf
/-! X2_addRunHead -/
abbrev D_X2_addRunHead : Nat := 1
noncomputable def f_X2_addRunHead_46   (x1 : Int32) (μ : jM) : Option (Unit × jM) := jcall (f_X0_add 7 1000 x1 μ) (fun (r1 : Unit) (μ1 : jM) => some ((), μ1))
noncomputable def f_X2_addRunHead (x1 : Int32) (μ : jM) : Option (Unit × jM) := if (μ.1 1 0) = (1 : Int32) then (jcall (f_X0_add 7 1000 ((1 : Int32) - x1) μ) (fun (r4 : Unit) (μ4 : jM) => some ((), μ4))) else (if (μ.1 1 0) = (0 : Int32) then (jcall (f_X0_add 7 1000 (μ.1 1 3) μ) (fun (r2 : Unit) (μ2 : jM) => f_X2_addRunHead_46    x1 μ2)) else (f_X2_addRunHead_46    x1 μ))
set_option maxHeartbeats 4000000 in
theorem t_X2_addRunHead_46 {Γ : jC} {Δ : jD} {r : Unit} {μ9 : jM}    (X : jOk Γ Δ shC cX2_addRunHead 2 RX2 none D_X2_addRunHead)  : ∀ (x1 : Int32) (μ : jM), f_X2_addRunHead_46   x1 μ = some (r, μ9) → jG Γ Δ shC (none, μ9) 46 [some (jr Δ 6), some (.int x1)] [] μ := by
  intro x1 μ hf
  unfold f_X2_addRunHead_46 at hf
  refine g_ald_n (pc := 46) (i := 0) X dX2_addRunHead_46 rfl rfl ?_
  refine g_getR (pc := 47) (k := 1) X dX2_addRunHead_47 cl_X2 rfl rfl (by decide) w_91 ?_
  refine g_ild_n (pc := 50) (i := 1) X dX2_addRunHead_50 rfl rfl ?_
  obtain ⟨r1, μ1, hc1, hf⟩ := jcall_i hf
  refine g_callVv (pc := 51) [.int x1] X dX2_addRunHead_51 (M_X0_add ⟨rfl, rfl⟩ (jOk_sep X) hc1) Y_X0_add w_385 w_232 w_231 cl_X0 rfl rfl (by decide) rfl rfl (Nat.le_of_ble_eq_true rfl) rfl ?_
  exact g_vret (pc := 54) X dX2_addRunHead_54 hf
set_option maxHeartbeats 4000000 in
theorem M_X2_addRunHead {l : Launch} {Δ : jD} {r : Unit} {μ μ9 : jM} {x1 : Int32}  (hsep : jSep Δ shC) (hf : f_X2_addRunHead x1 μ = some (r, μ9)) : jMet l yX2_addRunHead cX2_addRunHead 2 none D_X2_addRunHead Δ shC [jr Δ 6, .int x1] μ (none, μ9) := by
  refine jMet_of (own := RX2) (L := [some (jr Δ 6), some (.int x1)]) (by decide) rfl (Nat.le_of_ble_eq_true rfl) rfl hsep (fun Γ _ X => ?_)
  unfold f_X2_addRunHead at hf
  refine g_ald_n (pc := 0) (i := 0) X dX2_addRunHead_0 rfl rfl ?_
  refine g_getR (pc := 1) (k := 0) X dX2_addRunHead_1 cl_X2 rfl rfl (by decide) w_90 ?_
  refine g_getI (pc := 4) (k := 0) X dX2_addRunHead_4 cl_X4 rfl rfl (by decide) w_32 ?_
  refine g_iconst (pc := 7) (v := (1 : Int32)) X dX2_addRunHead_7 (by decide) ?_
  refine g_icmp_ne (pc := 8) 22 X dX2_addRunHead_8 (by decide) (fun h5 => ?_) (fun h5 => ?_)
  · replace hf := jf_i h5 hf
    refine g_ald_n (pc := 22) (i := 0) X dX2_addRunHead_22 rfl rfl ?_
    refine g_getR (pc := 23) (k := 0) X dX2_addRunHead_23 cl_X2 rfl rfl (by decide) w_90 ?_
    refine g_getI (pc := 26) (k := 0) X dX2_addRunHead_26 cl_X4 rfl rfl (by decide) w_32 ?_
    refine g_if_ne (pc := 29) 46 X dX2_addRunHead_29 (by decide) (fun h3 => ?_) (fun h3 => ?_)
    · replace hf := jf_i h3 hf
      exact g_weak (t_X2_addRunHead_46  X   _ _ hf) (⟨rfl, ⟨rfl, trivial⟩⟩)
    · replace hf := jt_i h3 hf
      refine g_ald_n (pc := 32) (i := 0) X dX2_addRunHead_32 rfl rfl ?_
      refine g_getR (pc := 33) (k := 1) X dX2_addRunHead_33 cl_X2 rfl rfl (by decide) w_91 ?_
      refine g_ald_n (pc := 36) (i := 0) X dX2_addRunHead_36 rfl rfl ?_
      refine g_getR (pc := 37) (k := 0) X dX2_addRunHead_37 cl_X2 rfl rfl (by decide) w_90 ?_
      refine g_getI (pc := 40) (k := 3) X dX2_addRunHead_40 cl_X4 rfl rfl (by decide) w_48 ?_
      obtain ⟨r2, μ2, hc2, hf⟩ := jcall_i hf
      refine g_callVv (pc := 43) [.int (μ.1 1 3)] X dX2_addRunHead_43 (M_X0_add ⟨rfl, rfl⟩ (jOk_sep X) hc2) Y_X0_add w_385 w_232 w_231 cl_X0 rfl rfl (by decide) rfl rfl (Nat.le_of_ble_eq_true rfl) rfl ?_
      exact g_weak (t_X2_addRunHead_46  X   _ _ hf) (⟨rfl, ⟨rfl, trivial⟩⟩)
  · replace hf := jt_i h5 hf
    refine g_ald_n (pc := 11) (i := 0) X dX2_addRunHead_11 rfl rfl ?_
    refine g_getR (pc := 12) (k := 1) X dX2_addRunHead_12 cl_X2 rfl rfl (by decide) w_91 ?_
    refine g_iconst (pc := 15) (v := (1 : Int32)) X dX2_addRunHead_15 (by decide) ?_
    refine g_ild_n (pc := 16) (i := 1) X dX2_addRunHead_16 rfl rfl ?_
    refine g_isub (pc := 17) X dX2_addRunHead_17 ?_
    obtain ⟨r4, μ4, hc4, hf⟩ := jcall_i hf
    refine g_callVv (pc := 18) [.int ((1 : Int32) - x1)] X dX2_addRunHead_18 (M_X0_add ⟨rfl, rfl⟩ (jOk_sep X) hc4) Y_X0_add w_385 w_232 w_231 cl_X0 rfl rfl (by decide) rfl rfl (Nat.le_of_ble_eq_true rfl) rfl ?_
    exact g_vret (pc := 21) X dX2_addRunHead_21 hf
/-! X2_addThemselvesHead -/
abbrev D_X2_addThemselvesHead : Nat := 1
noncomputable def f_X2_addThemselvesHead (x1 : Int32) (μ : jM) : Option (Unit × jM) := if (μ.1 1 0) = (1 : Int32) then (jcall (f_X0_add 7 1000 (x1 - (1 : Int32)) μ) (fun (r4 : Unit) (μ4 : jM) => some ((), μ4))) else (if (μ.1 1 0) = (2 : Int32) then (jcall (f_X0_add 7 1000 (0 : Int32) μ) (fun (r1 : Unit) (μ1 : jM) => jcall (f_X0_add 7 1000 x1 μ1) (fun (r2 : Unit) (μ2 : jM) => some ((), μ2)))) else (some ((), μ)))
set_option maxHeartbeats 4000000 in
theorem M_X2_addThemselvesHead {l : Launch} {Δ : jD} {r : Unit} {μ μ9 : jM} {x1 : Int32}  (hsep : jSep Δ shC) (hf : f_X2_addThemselvesHead x1 μ = some (r, μ9)) : jMet l yX2_addThemselvesHead cX2_addThemselvesHead 2 none D_X2_addThemselvesHead Δ shC [jr Δ 6, .int x1] μ (none, μ9) := by
  refine jMet_of (own := RX2) (L := [some (jr Δ 6), some (.int x1)]) (by decide) rfl (Nat.le_of_ble_eq_true rfl) rfl hsep (fun Γ _ X => ?_)
  unfold f_X2_addThemselvesHead at hf
  refine g_ald_n (pc := 0) (i := 0) X dX2_addThemselvesHead_0 rfl rfl ?_
  refine g_getR (pc := 1) (k := 0) X dX2_addThemselvesHead_1 cl_X2 rfl rfl (by decide) w_90 ?_
  refine g_getI (pc := 4) (k := 0) X dX2_addThemselvesHead_4 cl_X4 rfl rfl (by decide) w_32 ?_
  refine g_iconst (pc := 7) (v := (1 : Int32)) X dX2_addThemselvesHead_7 (by decide) ?_
  refine g_icmp_ne (pc := 8) 24 X dX2_addThemselvesHead_8 (by decide) (fun h5 => ?_) (fun h5 => ?_)
  · replace hf := jf_i h5 hf
    refine g_ald_n (pc := 24) (i := 0) X dX2_addThemselvesHead_24 rfl rfl ?_
    refine g_getR (pc := 25) (k := 0) X dX2_addThemselvesHead_25 cl_X2 rfl rfl (by decide) w_90 ?_
    refine g_getI (pc := 28) (k := 0) X dX2_addThemselvesHead_28 cl_X4 rfl rfl (by decide) w_32 ?_
    refine g_iconst (pc := 31) (v := (2 : Int32)) X dX2_addThemselvesHead_31 (by decide) ?_
    refine g_icmp_ne (pc := 32) 51 X dX2_addThemselvesHead_32 (by decide) (fun h3 => ?_) (fun h3 => ?_)
    · replace hf := jf_i h3 hf
      exact g_vret (pc := 51) X dX2_addThemselvesHead_51 hf
    · replace hf := jt_i h3 hf
      refine g_ald_n (pc := 35) (i := 0) X dX2_addThemselvesHead_35 rfl rfl ?_
      refine g_getR (pc := 36) (k := 1) X dX2_addThemselvesHead_36 cl_X2 rfl rfl (by decide) w_91 ?_
      refine g_iconst (pc := 39) (v := (0 : Int32)) X dX2_addThemselvesHead_39 (by decide) ?_
      obtain ⟨r1, μ1, hc1, hf⟩ := jcall_i hf
      refine g_callVv (pc := 40) [.int (0 : Int32)] X dX2_addThemselvesHead_40 (M_X0_add ⟨rfl, rfl⟩ (jOk_sep X) hc1) Y_X0_add w_385 w_232 w_231 cl_X0 rfl rfl (by decide) rfl rfl (Nat.le_of_ble_eq_true rfl) rfl ?_
      refine g_ald_n (pc := 43) (i := 0) X dX2_addThemselvesHead_43 rfl rfl ?_
      refine g_getR (pc := 44) (k := 1) X dX2_addThemselvesHead_44 cl_X2 rfl rfl (by decide) w_91 ?_
      refine g_ild_n (pc := 47) (i := 1) X dX2_addThemselvesHead_47 rfl rfl ?_
      obtain ⟨r2, μ2, hc2, hf⟩ := jcall_i hf
      refine g_callVv (pc := 48) [.int x1] X dX2_addThemselvesHead_48 (M_X0_add ⟨rfl, rfl⟩ (jOk_sep X) hc2) Y_X0_add w_385 w_232 w_231 cl_X0 rfl rfl (by decide) rfl rfl (Nat.le_of_ble_eq_true rfl) rfl ?_
      exact g_vret (pc := 51) X dX2_addThemselvesHead_51 hf
  · replace hf := jt_i h5 hf
    refine g_ald_n (pc := 11) (i := 0) X dX2_addThemselvesHead_11 rfl rfl ?_
    refine g_getR (pc := 12) (k := 1) X dX2_addThemselvesHead_12 cl_X2 rfl rfl (by decide) w_91 ?_
    refine g_ild_n (pc := 15) (i := 1) X dX2_addThemselvesHead_15 rfl rfl ?_
    refine g_iconst (pc := 16) (v := (1 : Int32)) X dX2_addThemselvesHead_16 (by decide) ?_
    refine g_isub (pc := 17) X dX2_addThemselvesHead_17 ?_
    obtain ⟨r4, μ4, hc4, hf⟩ := jcall_i hf
    refine g_callVv (pc := 18) [.int (x1 - (1 : Int32))] X dX2_addThemselvesHead_18 (M_X0_add ⟨rfl, rfl⟩ (jOk_sep X) hc4) Y_X0_add w_385 w_232 w_231 cl_X0 rfl rfl (by decide) rfl rfl (Nat.le_of_ble_eq_true rfl) rfl ?_
    refine g_goto (pc := 21) 51 X dX2_addThemselvesHead_21 (by decide) ?_
    exact g_vret (pc := 51) X dX2_addThemselvesHead_51 hf
/-! X2_addUnit -/
abbrev D_X2_addUnit : Nat := 1
noncomputable def f_X2_addUnit_2   : Nat → Int32 → Int32 → jM → Option (Unit × jM)
  | 0, _, _, _ => none
  | fu + 1, x1, x2, μ => if (μ.1 1 1) ≤ x2 then (some ((), μ)) else (jcall (f_X4_byteOf x1 x2 μ) (fun (r1 : Int32) (μ1 : jM) => jcall (f_X0_add 7 1000 r1 μ1) (fun (r2 : Unit) (μ2 : jM) => jlet (x2 + (1 : Int32)) (fun z3 : Int32 => f_X2_addUnit_2   fu x1 z3 μ2))))
noncomputable def f_X2_addUnit (x1 : Int32) (μ : jM) : Option (Unit × jM) := f_X2_addUnit_2   jFU x1 (0 : Int32) μ
set_option maxHeartbeats 4000000 in
theorem t_X2_addUnit_2 {Γ : jC} {Δ : jD} {r : Unit} {μ9 : jM}    (X : jOk Γ Δ shC cX2_addUnit 3 RX2 none D_X2_addUnit)  : ∀ (fu : Nat) (x1 : Int32) (x2 : Int32) (μ : jM), f_X2_addUnit_2   fu x1 x2 μ = some (r, μ9) → jG Γ Δ shC (none, μ9) 2 [some (jr Δ 6), some (.int x1), some (.int x2)] [] μ := by
  intro fu
  induction fu with
  | zero =>
    intro x1 x2 μ hf
    cases hf
  | succ fu ih =>
    intro x1 x2 μ hf
    replace hf := (f_X2_addUnit_2.eq_2 _ _ _ _).symm.trans hf
    refine g_ild_n (pc := 2) (i := 2) X dX2_addUnit_2 rfl rfl ?_
    refine g_ald_n (pc := 3) (i := 0) X dX2_addUnit_3 rfl rfl ?_
    refine g_getR (pc := 4) (k := 0) X dX2_addUnit_4 cl_X2 rfl rfl (by decide) w_90 ?_
    refine g_getI (pc := 7) (k := 1) X dX2_addUnit_7 cl_X4 rfl rfl (by decide) w_39 ?_
    refine g_icmp_ge (pc := 10) 35 X dX2_addUnit_10 (by decide) (fun h4 => ?_) (fun h4 => ?_)
    · replace hf := jt_i h4 hf
      exact g_vret (pc := 35) X dX2_addUnit_35 hf
    · replace hf := jf_i h4 hf
      refine g_ald_n (pc := 13) (i := 0) X dX2_addUnit_13 rfl rfl ?_
      refine g_getR (pc := 14) (k := 1) X dX2_addUnit_14 cl_X2 rfl rfl (by decide) w_91 ?_
      refine g_ald_n (pc := 17) (i := 0) X dX2_addUnit_17 rfl rfl ?_
      refine g_getR (pc := 18) (k := 0) X dX2_addUnit_18 cl_X2 rfl rfl (by decide) w_90 ?_
      refine g_ild_n (pc := 21) (i := 1) X dX2_addUnit_21 rfl rfl ?_
      refine g_ild_n (pc := 22) (i := 2) X dX2_addUnit_22 rfl rfl ?_
      obtain ⟨r1, μ1, hc1, hf⟩ := jcall_i hf
      refine g_callVi (pc := 23) [.int x1, .int x2] X dX2_addUnit_23 (M_X4_byteOf  (jOk_sep X) hc1) Y_X4_byteOf w_329 w_331 w_330 cl_X4 rfl rfl (by decide) rfl rfl (Nat.le_of_ble_eq_true rfl) rfl ?_
      obtain ⟨r2, μ2, hc2, hf⟩ := jcall_i hf
      refine g_callVv (pc := 26) [.int r1] X dX2_addUnit_26 (M_X0_add ⟨rfl, rfl⟩ (jOk_sep X) hc2) Y_X0_add w_385 w_232 w_231 cl_X0 rfl rfl (by decide) rfl rfl (Nat.le_of_ble_eq_true rfl) rfl ?_
      obtain ⟨z3, ez3⟩ : ∃ z : Int32, z = x2 + (1 : Int32) := ⟨_, rfl⟩
      replace hf := jlet_i ez3 hf
      refine g_iinc (pc := 29) (L1 := [some (jr Δ 6), some (.int x1), some (.int z3)]) X dX2_addUnit_29 rfl (by rw [ez3]; rfl) rfl rfl ?_
      refine g_goto (pc := 32) 2 X dX2_addUnit_32 (by decide) ?_
      exact g_weak (ih _ _ _ hf) (⟨rfl, ⟨rfl, ⟨rfl, trivial⟩⟩⟩)
set_option maxHeartbeats 4000000 in
theorem M_X2_addUnit {l : Launch} {Δ : jD} {r : Unit} {μ μ9 : jM} {x1 : Int32}  (hsep : jSep Δ shC) (hf : f_X2_addUnit x1 μ = some (r, μ9)) : jMet l yX2_addUnit cX2_addUnit 3 none D_X2_addUnit Δ shC [jr Δ 6, .int x1] μ (none, μ9) := by
  refine jMet_of (own := RX2) (L := [some (jr Δ 6), some (.int x1), none]) (by decide) rfl (Nat.le_of_ble_eq_true rfl) rfl hsep (fun Γ _ X => ?_)
  unfold f_X2_addUnit at hf
  refine g_iconst (pc := 0) (v := (0 : Int32)) X dX2_addUnit_0 (by decide) ?_
  refine g_ist_n (pc := 1) (i := 2) (L1 := [some (jr Δ 6), some (.int x1), some (.int (0 : Int32))]) X dX2_addUnit_1 rfl (Nat.le_of_ble_eq_true rfl) rfl rfl ?_
  exact g_weak (t_X2_addUnit_2  X  jFU _ _ _ hf) (⟨rfl, ⟨rfl, ⟨rfl, trivial⟩⟩⟩)
/-! X2_addPiece -/
abbrev D_X2_addPiece : Nat := 2
noncomputable def f_X2_addPiece_40   : Nat → Int32 → Int32 → Int32 → jM → Option (Unit × jM)
  | 0, _, _, _, _ => none
  | fu + 1, x1, x2, x3, μ => if x2 ≤ x3 then (if (μ.1 1 0) = (2 : Int32) then (if (x2 &&& (1 : Int32)) = (1 : Int32) then (jcall (f_X0_add 7 1000 (0 : Int32) μ) (fun (r1 : Unit) (μ1 : jM) => some ((), μ1))) else (some ((), μ))) else (some ((), μ))) else (jin (x1 + x3) 240 (jcall (f_X2_addUnit (μ.1 9 ((x1 + x3)).toNatClampNeg) μ) (fun (r5 : Unit) (μ5 : jM) => jlet (x3 + (1 : Int32)) (fun z6 : Int32 => f_X2_addPiece_40   fu x1 x2 z6 μ5))))
noncomputable def f_X2_addPiece (x1 : Int32) (μ : jM) : Option (Unit × jM) := jin x1 240 (jlet (μ.1 13 (x1).toNatClampNeg) (fun z9 : Int32 => jin x1 240 (if (μ.1 12 (x1).toNatClampNeg) = (2 : Int32) then (jcall (f_X2_addRunHead z9 μ) (fun (r12 : Unit) (μ12 : jM) => jin x1 240 (jcall (f_X2_addUnit (μ12.1 9 (x1).toNatClampNeg) μ12) (fun (r14 : Unit) (μ14 : jM) => some ((), μ14))))) else (jcall (f_X2_addThemselvesHead z9 μ) (fun (r11 : Unit) (μ11 : jM) => f_X2_addPiece_40   jFU x1 z9 (0 : Int32) μ11)))))
set_option maxHeartbeats 4000000 in
theorem t_X2_addPiece_40 {Γ : jC} {Δ : jD} {r : Unit} {μ9 : jM}    (X : jOk Γ Δ shC cX2_addPiece 4 RX2 none D_X2_addPiece)  : ∀ (fu : Nat) (x1 : Int32) (x2 : Int32) (x3 : Int32) (μ : jM), f_X2_addPiece_40   fu x1 x2 x3 μ = some (r, μ9) → jG Γ Δ shC (none, μ9) 40 [some (jr Δ 6), some (.int x1), some (.int x2), some (.int x3)] [] μ := by
  intro fu
  induction fu with
  | zero =>
    intro x1 x2 x3 μ hf
    cases hf
  | succ fu ih =>
    intro x1 x2 x3 μ hf
    replace hf := (f_X2_addPiece_40.eq_2 _ _ _ _ _).symm.trans hf
    refine g_ild_n (pc := 40) (i := 3) X dX2_addPiece_40 rfl rfl ?_
    refine g_ild_n (pc := 41) (i := 2) X dX2_addPiece_41 rfl rfl ?_
    refine g_icmp_ge (pc := 42) 63 X dX2_addPiece_42 (by decide) (fun h7 => ?_) (fun h7 => ?_)
    · replace hf := jt_i h7 hf
      refine g_ald_n (pc := 63) (i := 0) X dX2_addPiece_63 rfl rfl ?_
      refine g_getR (pc := 64) (k := 0) X dX2_addPiece_64 cl_X2 rfl rfl (by decide) w_90 ?_
      refine g_getI (pc := 67) (k := 0) X dX2_addPiece_67 cl_X4 rfl rfl (by decide) w_32 ?_
      refine g_iconst (pc := 70) (v := (2 : Int32)) X dX2_addPiece_70 (by decide) ?_
      refine g_icmp_ne (pc := 71) 89 X dX2_addPiece_71 (by decide) (fun h3 => ?_) (fun h3 => ?_)
      · replace hf := jf_i h3 hf
        exact g_vret (pc := 89) X dX2_addPiece_89 hf
      · replace hf := jt_i h3 hf
        refine g_ild_n (pc := 74) (i := 2) X dX2_addPiece_74 rfl rfl ?_
        refine g_iconst (pc := 75) (v := (1 : Int32)) X dX2_addPiece_75 (by decide) ?_
        refine g_iand (pc := 76) X dX2_addPiece_76 ?_
        refine g_iconst (pc := 77) (v := (1 : Int32)) X dX2_addPiece_77 (by decide) ?_
        refine g_icmp_ne (pc := 78) 89 X dX2_addPiece_78 (by decide) (fun h2 => ?_) (fun h2 => ?_)
        · replace hf := jf_i h2 hf
          exact g_vret (pc := 89) X dX2_addPiece_89 hf
        · replace hf := jt_i h2 hf
          refine g_ald_n (pc := 81) (i := 0) X dX2_addPiece_81 rfl rfl ?_
          refine g_getR (pc := 82) (k := 1) X dX2_addPiece_82 cl_X2 rfl rfl (by decide) w_91 ?_
          refine g_iconst (pc := 85) (v := (0 : Int32)) X dX2_addPiece_85 (by decide) ?_
          obtain ⟨r1, μ1, hc1, hf⟩ := jcall_i hf
          refine g_callVv (pc := 86) [.int (0 : Int32)] X dX2_addPiece_86 (M_X0_add ⟨rfl, rfl⟩ (jOk_sep X) hc1) Y_X0_add w_385 w_232 w_231 cl_X0 rfl rfl (by decide) rfl rfl (Nat.le_of_ble_eq_true rfl) rfl ?_
          exact g_vret (pc := 89) X dX2_addPiece_89 hf
    · replace hf := jf_i h7 hf
      refine g_ald_n (pc := 45) (i := 0) X dX2_addPiece_45 rfl rfl ?_
      refine g_ald_n (pc := 46) (i := 0) X dX2_addPiece_46 rfl rfl ?_
      refine g_getR (pc := 47) (k := 2) X dX2_addPiece_47 cl_X2 rfl rfl (by decide) w_93 ?_
      refine g_ild_n (pc := 50) (i := 1) X dX2_addPiece_50 rfl rfl ?_
      refine g_ild_n (pc := 51) (i := 3) X dX2_addPiece_51 rfl rfl ?_
      refine g_iadd (pc := 52) X dX2_addPiece_52 ?_
      obtain ⟨hi4, hf⟩ := jin_i hf
      refine g_iald (pc := 53) X dX2_addPiece_53 rfl hi4 ?_
      obtain ⟨r5, μ5, hc5, hf⟩ := jcall_i hf
      refine g_callVv (pc := 54) [.int (μ.1 9 ((x1 + x3)).toNatClampNeg)] X dX2_addPiece_54 (M_X2_addUnit  (jOk_sep X) hc5) Y_X2_addUnit w_386 w_388 w_387 cl_X2 rfl rfl (by decide) rfl rfl (Nat.le_of_ble_eq_true rfl) rfl ?_
      obtain ⟨z6, ez6⟩ : ∃ z : Int32, z = x3 + (1 : Int32) := ⟨_, rfl⟩
      replace hf := jlet_i ez6 hf
      refine g_iinc (pc := 57) (L1 := [some (jr Δ 6), some (.int x1), some (.int x2), some (.int z6)]) X dX2_addPiece_57 rfl (by rw [ez6]; rfl) rfl rfl ?_
      refine g_goto (pc := 60) 40 X dX2_addPiece_60 (by decide) ?_
      exact g_weak (ih _ _ _ _ hf) (⟨rfl, ⟨rfl, ⟨rfl, ⟨rfl, trivial⟩⟩⟩⟩)
set_option maxHeartbeats 4000000 in
theorem M_X2_addPiece {l : Launch} {Δ : jD} {r : Unit} {μ μ9 : jM} {x1 : Int32}  (hsep : jSep Δ shC) (hf : f_X2_addPiece x1 μ = some (r, μ9)) : jMet l yX2_addPiece cX2_addPiece 4 none D_X2_addPiece Δ shC [jr Δ 6, .int x1] μ (none, μ9) := by
  refine jMet_of (own := RX2) (L := [some (jr Δ 6), some (.int x1), none, none]) (by decide) rfl (Nat.le_of_ble_eq_true rfl) rfl hsep (fun Γ _ X => ?_)
  unfold f_X2_addPiece at hf
  refine g_ald_n (pc := 0) (i := 0) X dX2_addPiece_0 rfl rfl ?_
  refine g_getR (pc := 1) (k := 6) X dX2_addPiece_1 cl_X2 rfl rfl (by decide) w_97 ?_
  refine g_ild_n (pc := 4) (i := 1) X dX2_addPiece_4 rfl rfl ?_
  obtain ⟨hi8, hf⟩ := jin_i hf
  refine g_iald (pc := 5) X dX2_addPiece_5 rfl hi8 ?_
  refine g_nmI (fun z9 ez9 => ?_)
  replace hf := jlet_i ez9 hf
  refine g_ist_n (pc := 6) (i := 2) (L1 := [some (jr Δ 6), some (.int x1), some (.int z9), none]) X dX2_addPiece_6 rfl (Nat.le_of_ble_eq_true rfl) rfl rfl ?_
  refine g_ald_n (pc := 7) (i := 0) X dX2_addPiece_7 rfl rfl ?_
  refine g_getR (pc := 8) (k := 5) X dX2_addPiece_8 cl_X2 rfl rfl (by decide) w_96 ?_
  refine g_ild_n (pc := 11) (i := 1) X dX2_addPiece_11 rfl rfl ?_
  obtain ⟨hi10, hf⟩ := jin_i hf
  refine g_iald (pc := 12) X dX2_addPiece_12 rfl hi10 ?_
  refine g_iconst (pc := 13) (v := (2 : Int32)) X dX2_addPiece_13 (by decide) ?_
  refine g_icmp_ne (pc := 14) 33 X dX2_addPiece_14 (by decide) (fun h15 => ?_) (fun h15 => ?_)
  · replace hf := jf_i h15 hf
    refine g_ald_n (pc := 33) (i := 0) X dX2_addPiece_33 rfl rfl ?_
    refine g_ild_n (pc := 34) (i := 2) X dX2_addPiece_34 rfl rfl ?_
    obtain ⟨r11, μ11, hc11, hf⟩ := jcall_i hf
    refine g_callVv (pc := 35) [.int z9] X dX2_addPiece_35 (M_X2_addThemselvesHead  (jOk_sep X) hc11) Y_X2_addThemselvesHead w_390 w_392 w_391 cl_X2 rfl rfl (by decide) rfl rfl (Nat.le_of_ble_eq_true rfl) rfl ?_
    refine g_iconst (pc := 38) (v := (0 : Int32)) X dX2_addPiece_38 (by decide) ?_
    refine g_ist_n (pc := 39) (i := 3) (L1 := [some (jr Δ 6), some (.int x1), some (.int z9), some (.int (0 : Int32))]) X dX2_addPiece_39 rfl (Nat.le_of_ble_eq_true rfl) rfl rfl ?_
    exact g_weak (t_X2_addPiece_40  X  jFU _ _ _ _ hf) (⟨rfl, ⟨rfl, ⟨rfl, ⟨rfl, trivial⟩⟩⟩⟩)
  · replace hf := jt_i h15 hf
    refine g_ald_n (pc := 17) (i := 0) X dX2_addPiece_17 rfl rfl ?_
    refine g_ild_n (pc := 18) (i := 2) X dX2_addPiece_18 rfl rfl ?_
    obtain ⟨r12, μ12, hc12, hf⟩ := jcall_i hf
    refine g_callVv (pc := 19) [.int z9] X dX2_addPiece_19 (M_X2_addRunHead  (jOk_sep X) hc12) Y_X2_addRunHead w_381 w_383 w_382 cl_X2 rfl rfl (by decide) rfl rfl (Nat.le_of_ble_eq_true rfl) rfl ?_
    refine g_ald_n (pc := 22) (i := 0) X dX2_addPiece_22 rfl rfl ?_
    refine g_ald_n (pc := 23) (i := 0) X dX2_addPiece_23 rfl rfl ?_
    refine g_getR (pc := 24) (k := 2) X dX2_addPiece_24 cl_X2 rfl rfl (by decide) w_93 ?_
    refine g_ild_n (pc := 27) (i := 1) X dX2_addPiece_27 rfl rfl ?_
    obtain ⟨hi13, hf⟩ := jin_i hf
    refine g_iald (pc := 28) X dX2_addPiece_28 rfl hi13 ?_
    obtain ⟨r14, μ14, hc14, hf⟩ := jcall_i hf
    refine g_callVv (pc := 29) [.int (μ12.1 9 (x1).toNatClampNeg)] X dX2_addPiece_29 (M_X2_addUnit  (jOk_sep X) hc14) Y_X2_addUnit w_386 w_388 w_387 cl_X2 rfl rfl (by decide) rfl rfl (Nat.le_of_ble_eq_true rfl) rfl ?_
    exact g_vret (pc := 32) X dX2_addPiece_32 hf
/-! X2_choose -/
abbrev D_X2_choose : Nat := 0
noncomputable def f_X2_choose (x1 : Int32) (x2 : Int32) (x3 : Int32) (μ : jM) : Option (Unit × jM) := jin x1 240 (jlet (jsI μ 12 (x1).toNatClampNeg x2) (fun μ1 : jM => jin x1 240 (jlet (jsI μ1 13 (x1).toNatClampNeg x3) (fun μ2 : jM => some ((), μ2)))))
set_option maxHeartbeats 4000000 in
theorem M_X2_choose {l : Launch} {Δ : jD} {r : Unit} {μ μ9 : jM} {x1 : Int32} {x2 : Int32} {x3 : Int32}  (hsep : jSep Δ shC) (hf : f_X2_choose x1 x2 x3 μ = some (r, μ9)) : jMet l yX2_choose cX2_choose 4 none D_X2_choose Δ shC [jr Δ 6, .int x1, .int x2, .int x3] μ (none, μ9) := by
  refine jMet_of (own := RX2) (L := [some (jr Δ 6), some (.int x1), some (.int x2), some (.int x3)]) (by decide) rfl (Nat.le_of_ble_eq_true rfl) rfl hsep (fun Γ _ X => ?_)
  unfold f_X2_choose at hf
  refine g_ald_n (pc := 0) (i := 0) X dX2_choose_0 rfl rfl ?_
  refine g_getR (pc := 1) (k := 5) X dX2_choose_1 cl_X2 rfl rfl (by decide) w_96 ?_
  refine g_ild_n (pc := 4) (i := 1) X dX2_choose_4 rfl rfl ?_
  refine g_ild_n (pc := 5) (i := 2) X dX2_choose_5 rfl rfl ?_
  obtain ⟨hi1, hf⟩ := jin_i hf
  refine g_iast (pc := 6) X dX2_choose_6 rfl hi1 ?_
  refine g_nmM (fun μ1 eμ1 => ?_)
  replace hf := jlet_i eμ1 hf
  refine g_ald_n (pc := 7) (i := 0) X dX2_choose_7 rfl rfl ?_
  refine g_getR (pc := 8) (k := 6) X dX2_choose_8 cl_X2 rfl rfl (by decide) w_97 ?_
  refine g_ild_n (pc := 11) (i := 1) X dX2_choose_11 rfl rfl ?_
  refine g_ild_n (pc := 12) (i := 3) X dX2_choose_12 rfl rfl ?_
  obtain ⟨hi2, hf⟩ := jin_i hf
  refine g_iast (pc := 13) X dX2_choose_13 rfl hi2 ?_
  refine g_nmM (fun μ2 eμ2 => ?_)
  replace hf := jlet_i eμ2 hf
  exact g_vret (pc := 14) X dX2_choose_14 hf
/-! X2_beginsWithMark -/
abbrev D_X2_beginsWithMark : Nat := 1
noncomputable def f_X2_beginsWithMark_38    (μ : jM) : Option (Int32 × jM) := jbl (0 : Int32) (some ((0 : Int32), μ))
noncomputable def f_X2_beginsWithMark (x1 : Int32) (μ : jM) : Option (Int32 × jM) := if (μ.1 1 0) = (0 : Int32) then (jin x1 240 (jcall (f_X4_byteOf (μ.1 9 (x1).toNatClampNeg) (0 : Int32) μ) (fun (r3 : Int32) (μ3 : jM) => if r3 = (μ3.1 1 3) then (jbl (1 : Int32) (some ((1 : Int32), μ3))) else (f_X2_beginsWithMark_38     μ3)))) else (f_X2_beginsWithMark_38     μ)
set_option maxHeartbeats 4000000 in
theorem t_X2_beginsWithMark_38 {Γ : jC} {Δ : jD} {r : Int32} {μ9 : jM}    (X : jOk Γ Δ shC cX2_beginsWithMark 2 RX2 (some .boolean) D_X2_beginsWithMark)  : ∀ (μ : jM), f_X2_beginsWithMark_38    μ = some (r, μ9) → jG Γ Δ shC (some (.int r), μ9) 38 [none, none] [] μ := by
  intro  μ hf
  unfold f_X2_beginsWithMark_38 at hf
  refine g_iconst (pc := 38) (v := (0 : Int32)) X dX2_beginsWithMark_38 (by decide) ?_
  obtain ⟨hb1, hf⟩ := jbl_i hf
  exact g_zret (pc := 39) X dX2_beginsWithMark_39 hb1 hf
set_option maxHeartbeats 4000000 in
theorem M_X2_beginsWithMark {l : Launch} {Δ : jD} {r : Int32} {μ μ9 : jM} {x1 : Int32}  (hsep : jSep Δ shC) (hf : f_X2_beginsWithMark x1 μ = some (r, μ9)) : jMet l yX2_beginsWithMark cX2_beginsWithMark 2 (some .boolean) D_X2_beginsWithMark Δ shC [jr Δ 6, .int x1] μ (some (.int r), μ9) := by
  refine jMet_of (own := RX2) (L := [some (jr Δ 6), some (.int x1)]) (by decide) rfl (Nat.le_of_ble_eq_true rfl) rfl hsep (fun Γ _ X => ?_)
  unfold f_X2_beginsWithMark at hf
  refine g_ald_n (pc := 0) (i := 0) X dX2_beginsWithMark_0 rfl rfl ?_
  refine g_getR (pc := 1) (k := 0) X dX2_beginsWithMark_1 cl_X2 rfl rfl (by decide) w_90 ?_
  refine g_getI (pc := 4) (k := 0) X dX2_beginsWithMark_4 cl_X4 rfl rfl (by decide) w_32 ?_
  refine g_if_ne (pc := 7) 38 X dX2_beginsWithMark_7 (by decide) (fun h6 => ?_) (fun h6 => ?_)
  · replace hf := jf_i h6 hf
    exact g_weak (t_X2_beginsWithMark_38  X    _ hf) (trivial)
  · replace hf := jt_i h6 hf
    refine g_ald_n (pc := 10) (i := 0) X dX2_beginsWithMark_10 rfl rfl ?_
    refine g_getR (pc := 11) (k := 0) X dX2_beginsWithMark_11 cl_X2 rfl rfl (by decide) w_90 ?_
    refine g_ald_n (pc := 14) (i := 0) X dX2_beginsWithMark_14 rfl rfl ?_
    refine g_getR (pc := 15) (k := 2) X dX2_beginsWithMark_15 cl_X2 rfl rfl (by decide) w_93 ?_
    refine g_ild_n (pc := 18) (i := 1) X dX2_beginsWithMark_18 rfl rfl ?_
    obtain ⟨hi2, hf⟩ := jin_i hf
    refine g_iald (pc := 19) X dX2_beginsWithMark_19 rfl hi2 ?_
    refine g_iconst (pc := 20) (v := (0 : Int32)) X dX2_beginsWithMark_20 (by decide) ?_
    obtain ⟨r3, μ3, hc3, hf⟩ := jcall_i hf
    refine g_callVi (pc := 21) [.int (μ.1 9 (x1).toNatClampNeg), .int (0 : Int32)] X dX2_beginsWithMark_21 (M_X4_byteOf  (jOk_sep X) hc3) Y_X4_byteOf w_329 w_331 w_330 cl_X4 rfl rfl (by decide) rfl rfl (Nat.le_of_ble_eq_true rfl) rfl ?_
    refine g_ald_n (pc := 24) (i := 0) X dX2_beginsWithMark_24 rfl rfl ?_
    refine g_getR (pc := 25) (k := 0) X dX2_beginsWithMark_25 cl_X2 rfl rfl (by decide) w_90 ?_
    refine g_getI (pc := 28) (k := 3) X dX2_beginsWithMark_28 cl_X4 rfl rfl (by decide) w_48 ?_
    refine g_icmp_ne (pc := 31) 38 X dX2_beginsWithMark_31 (by decide) (fun h5 => ?_) (fun h5 => ?_)
    · replace hf := jf_i h5 hf
      exact g_weak (t_X2_beginsWithMark_38  X    _ hf) (trivial)
    · replace hf := jt_i h5 hf
      refine g_iconst (pc := 34) (v := (1 : Int32)) X dX2_beginsWithMark_34 (by decide) ?_
      refine g_goto (pc := 35) 39 X dX2_beginsWithMark_35 (by decide) ?_
      obtain ⟨hb4, hf⟩ := jbl_i hf
      exact g_zret (pc := 39) X dX2_beginsWithMark_39 hb4 hf
/-! X2_lengthRun -/
abbrev D_X2_lengthRun : Nat := 0
noncomputable def f_X2_lengthRun  (μ : jM) : Option (Int32 × jM) := if (μ.1 1 0) = (0 : Int32) then (some (((2 : Int32) + (μ.1 1 1)), μ)) else (if (μ.1 1 0) = (1 : Int32) then (some (((1 : Int32) + (μ.1 1 1)), μ)) else (some ((2 : Int32), μ)))
set_option maxHeartbeats 4000000 in
theorem M_X2_lengthRun {l : Launch} {Δ : jD} {r : Int32} {μ μ9 : jM}   (hsep : jSep Δ shC) (hf : f_X2_lengthRun  μ = some (r, μ9)) : jMet l yX2_lengthRun cX2_lengthRun 1 (some .int) D_X2_lengthRun Δ shC [jr Δ 6] μ (some (.int r), μ9) := by
  refine jMet_of (own := RX2) (L := [some (jr Δ 6)]) (by decide) rfl (Nat.le_of_ble_eq_true rfl) rfl hsep (fun Γ _ X => ?_)
  unfold f_X2_lengthRun at hf
  refine g_ald_n (pc := 0) (i := 0) X dX2_lengthRun_0 rfl rfl ?_
  refine g_getR (pc := 1) (k := 0) X dX2_lengthRun_1 cl_X2 rfl rfl (by decide) w_90 ?_
  refine g_getI (pc := 4) (k := 0) X dX2_lengthRun_4 cl_X4 rfl rfl (by decide) w_32 ?_
  by_cases h1 : (μ.1 1 0) = (0 : Int32)
  · replace hf := jt_i h1 hf
    refine g_lookup (pc := 7) (off := 25) 32 X dX2_lengthRun_7 (by decide) (by rw [h1]; first | done | rfl) (by decide) ?_
    refine g_iconst (pc := 32) (v := (2 : Int32)) X dX2_lengthRun_32 (by decide) ?_
    refine g_ald_n (pc := 33) (i := 0) X dX2_lengthRun_33 rfl rfl ?_
    refine g_getR (pc := 34) (k := 0) X dX2_lengthRun_34 cl_X2 rfl rfl (by decide) w_90 ?_
    refine g_getI (pc := 37) (k := 1) X dX2_lengthRun_37 cl_X4 rfl rfl (by decide) w_39 ?_
    refine g_iadd (pc := 40) X dX2_lengthRun_40 ?_
    exact g_iret (pc := 41) X dX2_lengthRun_41 hf
  replace hf := jf_i h1 hf
  by_cases h2 : (μ.1 1 0) = (1 : Int32)
  · replace hf := jt_i h2 hf
    refine g_lookup (pc := 7) (off := 35) 42 X dX2_lengthRun_7 (by decide) (by rw [h2]; first | done | rfl) (by decide) ?_
    refine g_iconst (pc := 42) (v := (1 : Int32)) X dX2_lengthRun_42 (by decide) ?_
    refine g_ald_n (pc := 43) (i := 0) X dX2_lengthRun_43 rfl rfl ?_
    refine g_getR (pc := 44) (k := 0) X dX2_lengthRun_44 cl_X2 rfl rfl (by decide) w_90 ?_
    refine g_getI (pc := 47) (k := 1) X dX2_lengthRun_47 cl_X4 rfl rfl (by decide) w_39 ?_
    refine g_iadd (pc := 50) X dX2_lengthRun_50 ?_
    exact g_iret (pc := 51) X dX2_lengthRun_51 hf
  replace hf := jf_i h2 hf
  refine g_lookup (pc := 7) (off := 45) 52 X dX2_lengthRun_7 (by decide) (by show Op.lookupswitch.offset [(0, 25), (1, 35)] 45 _ = 45; rw [lv_osw (a := 0) h1 (by decide), lv_osw (a := 1) h2 (by decide)]; first | done | rfl) (by decide) ?_
  refine g_iconst (pc := 52) (v := (2 : Int32)) X dX2_lengthRun_52 (by decide) ?_
  exact g_iret (pc := 53) X dX2_lengthRun_53 hf
/-! X2_greedyTakesRun -/
abbrev D_X2_greedyTakesRun : Nat := 2
noncomputable def f_X2_greedyTakesRun_56    (μ : jM) : Option (Int32 × jM) := jbl (1 : Int32) (some ((1 : Int32), μ))
noncomputable def f_X2_greedyTakesRun (x1 : Int32) (x2 : Int32) (μ : jM) : Option (Int32 × jM) := if (μ.1 1 0) = (0 : Int32) then (jcall (f_X2_lengthRun  μ) (fun (r3 : Int32) (μ3 : jM) => if r3 < (x2 * (μ.1 1 1)) then (f_X2_greedyTakesRun_56     μ3) else (jcall (f_X2_beginsWithMark x1 μ3) (fun (r4 : Int32) (μ4 : jM) => if r4 = (0 : Int32) then (jbl (0 : Int32) (some ((0 : Int32), μ4))) else (f_X2_greedyTakesRun_56     μ4))))) else (if (μ.1 1 0) = (1 : Int32) then (if x2 ≤ (1 : Int32) then (jbl (0 : Int32) (some ((0 : Int32), μ))) else (jbl (1 : Int32) (some ((1 : Int32), μ)))) else (if x2 ≤ (2 : Int32) then (jbl (0 : Int32) (some ((0 : Int32), μ))) else (jbl (1 : Int32) (some ((1 : Int32), μ)))))
set_option maxHeartbeats 4000000 in
theorem t_X2_greedyTakesRun_56 {Γ : jC} {Δ : jD} {r : Int32} {μ9 : jM}    (X : jOk Γ Δ shC cX2_greedyTakesRun 3 RX2 (some .boolean) D_X2_greedyTakesRun)  : ∀ (μ : jM), f_X2_greedyTakesRun_56    μ = some (r, μ9) → jG Γ Δ shC (some (.int r), μ9) 56 [none, none, none] [] μ := by
  intro  μ hf
  unfold f_X2_greedyTakesRun_56 at hf
  refine g_iconst (pc := 56) (v := (1 : Int32)) X dX2_greedyTakesRun_56 (by decide) ?_
  refine g_goto (pc := 57) 61 X dX2_greedyTakesRun_57 (by decide) ?_
  obtain ⟨hb1, hf⟩ := jbl_i hf
  exact g_zret (pc := 61) X dX2_greedyTakesRun_61 hb1 hf
set_option maxHeartbeats 4000000 in
theorem M_X2_greedyTakesRun {l : Launch} {Δ : jD} {r : Int32} {μ μ9 : jM} {x1 : Int32} {x2 : Int32}  (hsep : jSep Δ shC) (hf : f_X2_greedyTakesRun x1 x2 μ = some (r, μ9)) : jMet l yX2_greedyTakesRun cX2_greedyTakesRun 3 (some .boolean) D_X2_greedyTakesRun Δ shC [jr Δ 6, .int x1, .int x2] μ (some (.int r), μ9) := by
  refine jMet_of (own := RX2) (L := [some (jr Δ 6), some (.int x1), some (.int x2)]) (by decide) rfl (Nat.le_of_ble_eq_true rfl) rfl hsep (fun Γ _ X => ?_)
  unfold f_X2_greedyTakesRun at hf
  refine g_ald_n (pc := 0) (i := 0) X dX2_greedyTakesRun_0 rfl rfl ?_
  refine g_getR (pc := 1) (k := 0) X dX2_greedyTakesRun_1 cl_X2 rfl rfl (by decide) w_90 ?_
  refine g_getI (pc := 4) (k := 0) X dX2_greedyTakesRun_4 cl_X4 rfl rfl (by decide) w_32 ?_
  by_cases h2 : (μ.1 1 0) = (0 : Int32)
  · replace hf := jt_i h2 hf
    refine g_lookup (pc := 7) (off := 25) 32 X dX2_greedyTakesRun_7 (by decide) (by rw [h2]; first | done | rfl) (by decide) ?_
    refine g_ild_n (pc := 32) (i := 2) X dX2_greedyTakesRun_32 rfl rfl ?_
    refine g_ald_n (pc := 33) (i := 0) X dX2_greedyTakesRun_33 rfl rfl ?_
    refine g_getR (pc := 34) (k := 0) X dX2_greedyTakesRun_34 cl_X2 rfl rfl (by decide) w_90 ?_
    refine g_getI (pc := 37) (k := 1) X dX2_greedyTakesRun_37 cl_X4 rfl rfl (by decide) w_39 ?_
    refine g_imul (pc := 40) X dX2_greedyTakesRun_40 ?_
    refine g_ald_n (pc := 41) (i := 0) X dX2_greedyTakesRun_41 rfl rfl ?_
    obtain ⟨r3, μ3, hc3, hf⟩ := jcall_i hf
    refine g_callVi (pc := 42) [] X dX2_greedyTakesRun_42 (M_X2_lengthRun  (jOk_sep X) hc3) Y_X2_lengthRun w_357 w_359 w_358 cl_X2 rfl rfl (by decide) rfl rfl (Nat.le_of_ble_eq_true rfl) rfl ?_
    refine g_icmp_gt (pc := 45) 56 X dX2_greedyTakesRun_45 (by decide) (fun h7 => ?_) (fun h7 => ?_)
    · replace hf := jt_i h7 hf
      exact g_weak (t_X2_greedyTakesRun_56  X    _ hf) (trivial)
    · replace hf := jf_i h7 hf
      refine g_ald_n (pc := 48) (i := 0) X dX2_greedyTakesRun_48 rfl rfl ?_
      refine g_ild_n (pc := 49) (i := 1) X dX2_greedyTakesRun_49 rfl rfl ?_
      obtain ⟨r4, μ4, hc4, hf⟩ := jcall_i hf
      refine g_callVi (pc := 50) [.int x1] X dX2_greedyTakesRun_50 (M_X2_beginsWithMark  (jOk_sep X) hc4) Y_X2_beginsWithMark w_325 w_327 w_326 cl_X2 rfl rfl (by decide) rfl rfl (Nat.le_of_ble_eq_true rfl) rfl ?_
      refine g_if_eq (pc := 53) 60 X dX2_greedyTakesRun_53 (by decide) (fun h6 => ?_) (fun h6 => ?_)
      · replace hf := jt_i h6 hf
        refine g_iconst (pc := 60) (v := (0 : Int32)) X dX2_greedyTakesRun_60 (by decide) ?_
        obtain ⟨hb5, hf⟩ := jbl_i hf
        exact g_zret (pc := 61) X dX2_greedyTakesRun_61 hb5 hf
      · replace hf := jf_i h6 hf
        exact g_weak (t_X2_greedyTakesRun_56  X    _ hf) (trivial)
  replace hf := jf_i h2 hf
  by_cases h8 : (μ.1 1 0) = (1 : Int32)
  · replace hf := jt_i h8 hf
    refine g_lookup (pc := 7) (off := 55) 62 X dX2_greedyTakesRun_7 (by decide) (by rw [h8]; first | done | rfl) (by decide) ?_
    refine g_ild_n (pc := 62) (i := 2) X dX2_greedyTakesRun_62 rfl rfl ?_
    refine g_iconst (pc := 63) (v := (1 : Int32)) X dX2_greedyTakesRun_63 (by decide) ?_
    refine g_icmp_le (pc := 64) 71 X dX2_greedyTakesRun_64 (by decide) (fun h11 => ?_) (fun h11 => ?_)
    · replace hf := jt_i h11 hf
      refine g_iconst (pc := 71) (v := (0 : Int32)) X dX2_greedyTakesRun_71 (by decide) ?_
      obtain ⟨hb9, hf⟩ := jbl_i hf
      exact g_zret (pc := 72) X dX2_greedyTakesRun_72 hb9 hf
    · replace hf := jf_i h11 hf
      refine g_iconst (pc := 67) (v := (1 : Int32)) X dX2_greedyTakesRun_67 (by decide) ?_
      refine g_goto (pc := 68) 72 X dX2_greedyTakesRun_68 (by decide) ?_
      obtain ⟨hb10, hf⟩ := jbl_i hf
      exact g_zret (pc := 72) X dX2_greedyTakesRun_72 hb10 hf
  replace hf := jf_i h8 hf
  refine g_lookup (pc := 7) (off := 66) 73 X dX2_greedyTakesRun_7 (by decide) (by show Op.lookupswitch.offset [(0, 25), (1, 55)] 66 _ = 66; rw [lv_osw (a := 0) h2 (by decide), lv_osw (a := 1) h8 (by decide)]; first | done | rfl) (by decide) ?_
  refine g_ild_n (pc := 73) (i := 2) X dX2_greedyTakesRun_73 rfl rfl ?_
  refine g_iconst (pc := 74) (v := (2 : Int32)) X dX2_greedyTakesRun_74 (by decide) ?_
  refine g_icmp_le (pc := 75) 82 X dX2_greedyTakesRun_75 (by decide) (fun h14 => ?_) (fun h14 => ?_)
  · replace hf := jt_i h14 hf
    refine g_iconst (pc := 82) (v := (0 : Int32)) X dX2_greedyTakesRun_82 (by decide) ?_
    obtain ⟨hb12, hf⟩ := jbl_i hf
    exact g_zret (pc := 83) X dX2_greedyTakesRun_83 hb12 hf
  · replace hf := jf_i h14 hf
    refine g_iconst (pc := 78) (v := (1 : Int32)) X dX2_greedyTakesRun_78 (by decide) ?_
    refine g_goto (pc := 79) 83 X dX2_greedyTakesRun_79 (by decide) ?_
    obtain ⟨hb13, hf⟩ := jbl_i hf
    exact g_zret (pc := 83) X dX2_greedyTakesRun_83 hb13 hf
/-! X2_mostThemselves -/
abbrev D_X2_mostThemselves : Nat := 0
noncomputable def f_X2_mostThemselves  (μ : jM) : Option (Int32 × jM) := if (μ.1 1 0) = (0 : Int32) then (some ((1 : Int32), μ)) else (if (μ.1 1 0) = (1 : Int32) then (some ((128 : Int32), μ)) else (some ((255 : Int32), μ)))
set_option maxHeartbeats 4000000 in
theorem M_X2_mostThemselves {l : Launch} {Δ : jD} {r : Int32} {μ μ9 : jM}   (hsep : jSep Δ shC) (hf : f_X2_mostThemselves  μ = some (r, μ9)) : jMet l yX2_mostThemselves cX2_mostThemselves 1 (some .int) D_X2_mostThemselves Δ shC [jr Δ 6] μ (some (.int r), μ9) := by
  refine jMet_of (own := RX2) (L := [some (jr Δ 6)]) (by decide) rfl (Nat.le_of_ble_eq_true rfl) rfl hsep (fun Γ _ X => ?_)
  unfold f_X2_mostThemselves at hf
  refine g_ald_n (pc := 0) (i := 0) X dX2_mostThemselves_0 rfl rfl ?_
  refine g_getR (pc := 1) (k := 0) X dX2_mostThemselves_1 cl_X2 rfl rfl (by decide) w_90 ?_
  refine g_getI (pc := 4) (k := 0) X dX2_mostThemselves_4 cl_X4 rfl rfl (by decide) w_32 ?_
  by_cases h1 : (μ.1 1 0) = (0 : Int32)
  · replace hf := jt_i h1 hf
    refine g_lookup (pc := 7) (off := 25) 32 X dX2_mostThemselves_7 (by decide) (by rw [h1]; first | done | rfl) (by decide) ?_
    refine g_iconst (pc := 32) (v := (1 : Int32)) X dX2_mostThemselves_32 (by decide) ?_
    exact g_iret (pc := 33) X dX2_mostThemselves_33 hf
  replace hf := jf_i h1 hf
  by_cases h2 : (μ.1 1 0) = (1 : Int32)
  · replace hf := jt_i h2 hf
    refine g_lookup (pc := 7) (off := 27) 34 X dX2_mostThemselves_7 (by decide) (by rw [h2]; first | done | rfl) (by decide) ?_
    refine g_sipush (pc := 34) (v := (128 : Int32)) X dX2_mostThemselves_34 (by decide) ?_
    exact g_iret (pc := 37) X dX2_mostThemselves_37 hf
  replace hf := jf_i h2 hf
  refine g_lookup (pc := 7) (off := 31) 38 X dX2_mostThemselves_7 (by decide) (by show Op.lookupswitch.offset [(0, 25), (1, 27)] 31 _ = 31; rw [lv_osw (a := 0) h1 (by decide), lv_osw (a := 1) h2 (by decide)]; first | done | rfl) (by decide) ?_
  refine g_sipush (pc := 38) (v := (255 : Int32)) X dX2_mostThemselves_38 (by decide) ?_
  exact g_iret (pc := 41) X dX2_mostThemselves_41 hf
/-! X2_greedyThemselves -/
abbrev D_X2_greedyThemselves : Nat := 1
noncomputable def f_X2_greedyThemselves_59   (x4 : Int32) (μ : jM) : Option (Int32 × jM) := some (x4, μ)
noncomputable def f_X2_greedyThemselves_34   : Nat → Int32 → Int32 → Int32 → Int32 → jM → Option (Int32 × jM)
  | 0, _, _, _, _, _ => none
  | fu + 1, x1, x2, x3, x4, μ => if x3 ≤ x4 then (f_X2_greedyThemselves_59    x4 μ) else (jin (x1 + x4) 240 (if x2 ≤ (μ.1 10 ((x1 + x4)).toNatClampNeg) then (f_X2_greedyThemselves_59    x4 μ) else (jlet (x4 + (1 : Int32)) (fun z2 : Int32 => f_X2_greedyThemselves_34   fu x1 x2 x3 z2 μ))))
noncomputable def f_X2_greedyThemselves_16   (x1 : Int32) (s0 : Int32) (μ : jM) : Option (Int32 × jM) := jcall (f_X2_mostThemselves  μ) (fun (r5 : Int32) (μ5 : jM) => jlet (if ((μ5.1 6 9) - x1) < r5 then ((μ5.1 6 9) - x1) else r5) (fun z6 : Int32 => f_X2_greedyThemselves_34   jFU x1 s0 z6 (1 : Int32) μ5))
noncomputable def f_X2_greedyThemselves (x1 : Int32) (μ : jM) : Option (Int32 × jM) := if (μ.1 1 0) = (2 : Int32) then (f_X2_greedyThemselves_16    x1 (3 : Int32) μ) else (f_X2_greedyThemselves_16    x1 (2 : Int32) μ)
set_option maxHeartbeats 4000000 in
theorem t_X2_greedyThemselves_59 {Γ : jC} {Δ : jD} {r : Int32} {μ9 : jM}    (X : jOk Γ Δ shC cX2_greedyThemselves 5 RX2 (some .int) D_X2_greedyThemselves)  : ∀ (x4 : Int32) (μ : jM), f_X2_greedyThemselves_59   x4 μ = some (r, μ9) → jG Γ Δ shC (some (.int r), μ9) 59 [none, none, none, none, some (.int x4)] [] μ := by
  intro x4 μ hf
  unfold f_X2_greedyThemselves_59 at hf
  refine g_ild (pc := 59) X dX2_greedyThemselves_59 rfl ?_
  exact g_iret (pc := 61) X dX2_greedyThemselves_61 hf
set_option maxHeartbeats 4000000 in
theorem t_X2_greedyThemselves_34 {Γ : jC} {Δ : jD} {r : Int32} {μ9 : jM}    (X : jOk Γ Δ shC cX2_greedyThemselves 5 RX2 (some .int) D_X2_greedyThemselves)  : ∀ (fu : Nat) (x1 : Int32) (x2 : Int32) (x3 : Int32) (x4 : Int32) (μ : jM), f_X2_greedyThemselves_34   fu x1 x2 x3 x4 μ = some (r, μ9) → jG Γ Δ shC (some (.int r), μ9) 34 [some (jr Δ 6), some (.int x1), some (.int x2), some (.int x3), some (.int x4)] [] μ := by
  intro fu
  induction fu with
  | zero =>
    intro x1 x2 x3 x4 μ hf
    cases hf
  | succ fu ih =>
    intro x1 x2 x3 x4 μ hf
    replace hf := (f_X2_greedyThemselves_34.eq_2 _ _ _ _ _ _).symm.trans hf
    refine g_ild (pc := 34) X dX2_greedyThemselves_34 rfl ?_
    refine g_ild_n (pc := 36) (i := 3) X dX2_greedyThemselves_36 rfl rfl ?_
    refine g_icmp_ge (pc := 37) 59 X dX2_greedyThemselves_37 (by decide) (fun h4 => ?_) (fun h4 => ?_)
    · replace hf := jt_i h4 hf
      exact g_weak (t_X2_greedyThemselves_59  X   _ _ hf) (⟨rfl, trivial⟩)
    · replace hf := jf_i h4 hf
      refine g_ald_n (pc := 40) (i := 0) X dX2_greedyThemselves_40 rfl rfl ?_
      refine g_getR (pc := 41) (k := 3) X dX2_greedyThemselves_41 cl_X2 rfl rfl (by decide) w_94 ?_
      refine g_ild_n (pc := 44) (i := 1) X dX2_greedyThemselves_44 rfl rfl ?_
      refine g_ild (pc := 45) X dX2_greedyThemselves_45 rfl ?_
      refine g_iadd (pc := 47) X dX2_greedyThemselves_47 ?_
      obtain ⟨hi1, hf⟩ := jin_i hf
      refine g_iald (pc := 48) X dX2_greedyThemselves_48 rfl hi1 ?_
      refine g_ild_n (pc := 49) (i := 2) X dX2_greedyThemselves_49 rfl rfl ?_
      refine g_icmp_ge (pc := 50) 59 X dX2_greedyThemselves_50 (by decide) (fun h3 => ?_) (fun h3 => ?_)
      · replace hf := jt_i h3 hf
        exact g_weak (t_X2_greedyThemselves_59  X   _ _ hf) (⟨rfl, trivial⟩)
      · replace hf := jf_i h3 hf
        obtain ⟨z2, ez2⟩ : ∃ z : Int32, z = x4 + (1 : Int32) := ⟨_, rfl⟩
        replace hf := jlet_i ez2 hf
        refine g_iinc (pc := 53) (L1 := [some (jr Δ 6), some (.int x1), some (.int x2), some (.int x3), some (.int z2)]) X dX2_greedyThemselves_53 rfl (by rw [ez2]; rfl) rfl rfl ?_
        refine g_goto (pc := 56) 34 X dX2_greedyThemselves_56 (by decide) ?_
        exact g_weak (ih _ _ _ _ _ hf) (⟨rfl, ⟨rfl, ⟨rfl, ⟨rfl, ⟨rfl, trivial⟩⟩⟩⟩⟩)
set_option maxHeartbeats 4000000 in
theorem t_X2_greedyThemselves_16 {Γ : jC} {Δ : jD} {r : Int32} {μ9 : jM}    (X : jOk Γ Δ shC cX2_greedyThemselves 5 RX2 (some .int) D_X2_greedyThemselves)  : ∀ (x1 : Int32) (s0 : Int32) (μ : jM), f_X2_greedyThemselves_16   x1 s0 μ = some (r, μ9) → jG Γ Δ shC (some (.int r), μ9) 16 [some (jr Δ 6), some (.int x1), none, none, none] [.int s0] μ := by
  intro x1 s0 μ hf
  unfold f_X2_greedyThemselves_16 at hf
  refine g_ist_n (pc := 16) (i := 2) (L1 := [some (jr Δ 6), some (.int x1), some (.int s0), none, none]) X dX2_greedyThemselves_16 rfl (Nat.le_of_ble_eq_true rfl) rfl rfl ?_
  refine g_ald_n (pc := 17) (i := 0) X dX2_greedyThemselves_17 rfl rfl ?_
  obtain ⟨r5, μ5, hc5, hf⟩ := jcall_i hf
  refine g_callVi (pc := 18) [] X dX2_greedyThemselves_18 (M_X2_mostThemselves  (jOk_sep X) hc5) Y_X2_mostThemselves w_333 w_335 w_334 cl_X2 rfl rfl (by decide) rfl rfl (Nat.le_of_ble_eq_true rfl) rfl ?_
  refine g_ald_n (pc := 21) (i := 0) X dX2_greedyThemselves_21 rfl rfl ?_
  refine g_getI (pc := 22) (k := 9) X dX2_greedyThemselves_22 cl_X2 rfl rfl (by decide) w_100 ?_
  refine g_ild_n (pc := 25) (i := 1) X dX2_greedyThemselves_25 rfl rfl ?_
  refine g_isub (pc := 26) X dX2_greedyThemselves_26 ?_
  refine g_min (pc := 27) X dX2_greedyThemselves_27 w_301 w_302 w_8 w_303 (by decide) rfl (Nat.le_of_ble_eq_true rfl) ?_
  refine g_nmI (fun z6 ez6 => ?_)
  replace hf := jlet_i ez6 hf
  refine g_ist_n (pc := 30) (i := 3) (L1 := [some (jr Δ 6), some (.int x1), some (.int s0), some (.int z6), none]) X dX2_greedyThemselves_30 rfl (Nat.le_of_ble_eq_true rfl) rfl rfl ?_
  refine g_iconst (pc := 31) (v := (1 : Int32)) X dX2_greedyThemselves_31 (by decide) ?_
  refine g_ist (pc := 32) (L1 := [some (jr Δ 6), some (.int x1), some (.int s0), some (.int z6), some (.int (1 : Int32))]) X dX2_greedyThemselves_32 (Nat.le_of_ble_eq_true rfl) rfl rfl ?_
  exact g_weak (t_X2_greedyThemselves_34  X  jFU _ _ _ _ _ hf) (⟨rfl, ⟨rfl, ⟨rfl, ⟨rfl, ⟨rfl, trivial⟩⟩⟩⟩⟩)
set_option maxHeartbeats 4000000 in
theorem M_X2_greedyThemselves {l : Launch} {Δ : jD} {r : Int32} {μ μ9 : jM} {x1 : Int32}  (hsep : jSep Δ shC) (hf : f_X2_greedyThemselves x1 μ = some (r, μ9)) : jMet l yX2_greedyThemselves cX2_greedyThemselves 5 (some .int) D_X2_greedyThemselves Δ shC [jr Δ 6, .int x1] μ (some (.int r), μ9) := by
  refine jMet_of (own := RX2) (L := [some (jr Δ 6), some (.int x1), none, none, none]) (by decide) rfl (Nat.le_of_ble_eq_true rfl) rfl hsep (fun Γ _ X => ?_)
  unfold f_X2_greedyThemselves at hf
  refine g_ald_n (pc := 0) (i := 0) X dX2_greedyThemselves_0 rfl rfl ?_
  refine g_getR (pc := 1) (k := 0) X dX2_greedyThemselves_1 cl_X2 rfl rfl (by decide) w_90 ?_
  refine g_getI (pc := 4) (k := 0) X dX2_greedyThemselves_4 cl_X4 rfl rfl (by decide) w_32 ?_
  refine g_iconst (pc := 7) (v := (2 : Int32)) X dX2_greedyThemselves_7 (by decide) ?_
  refine g_icmp_ne (pc := 8) 15 X dX2_greedyThemselves_8 (by decide) (fun h7 => ?_) (fun h7 => ?_)
  · replace hf := jf_i h7 hf
    refine g_iconst (pc := 15) (v := (2 : Int32)) X dX2_greedyThemselves_15 (by decide) ?_
    exact g_weak (t_X2_greedyThemselves_16  X   _ _ _ hf) (⟨rfl, ⟨rfl, trivial⟩⟩)
  · replace hf := jt_i h7 hf
    refine g_iconst (pc := 11) (v := (3 : Int32)) X dX2_greedyThemselves_11 (by decide) ?_
    refine g_goto (pc := 12) 16 X dX2_greedyThemselves_12 (by decide) ?_
    exact g_weak (t_X2_greedyThemselves_16  X   _ _ _ hf) (⟨rfl, ⟨rfl, trivial⟩⟩)
/-! X2_leastThemselves -/
abbrev D_X2_leastThemselves : Nat := 0
noncomputable def f_X2_leastThemselves  (μ : jM) : Option (Int32 × jM) := if (μ.1 1 0) = (2 : Int32) then (some ((3 : Int32), μ)) else (some ((1 : Int32), μ))
set_option maxHeartbeats 4000000 in
theorem M_X2_leastThemselves {l : Launch} {Δ : jD} {r : Int32} {μ μ9 : jM}   (hsep : jSep Δ shC) (hf : f_X2_leastThemselves  μ = some (r, μ9)) : jMet l yX2_leastThemselves cX2_leastThemselves 1 (some .int) D_X2_leastThemselves Δ shC [jr Δ 6] μ (some (.int r), μ9) := by
  refine jMet_of (own := RX2) (L := [some (jr Δ 6)]) (by decide) rfl (Nat.le_of_ble_eq_true rfl) rfl hsep (fun Γ _ X => ?_)
  unfold f_X2_leastThemselves at hf
  refine g_ald_n (pc := 0) (i := 0) X dX2_leastThemselves_0 rfl rfl ?_
  refine g_getR (pc := 1) (k := 0) X dX2_leastThemselves_1 cl_X2 rfl rfl (by decide) w_90 ?_
  refine g_getI (pc := 4) (k := 0) X dX2_leastThemselves_4 cl_X4 rfl rfl (by decide) w_32 ?_
  refine g_iconst (pc := 7) (v := (2 : Int32)) X dX2_leastThemselves_7 (by decide) ?_
  refine g_icmp_ne (pc := 8) 15 X dX2_leastThemselves_8 (by decide) (fun h1 => ?_) (fun h1 => ?_)
  · replace hf := jf_i h1 hf
    refine g_iconst (pc := 15) (v := (1 : Int32)) X dX2_leastThemselves_15 (by decide) ?_
    exact g_iret (pc := 16) X dX2_leastThemselves_16 hf
  · replace hf := jt_i h1 hf
    refine g_iconst (pc := 11) (v := (3 : Int32)) X dX2_leastThemselves_11 (by decide) ?_
    refine g_goto (pc := 12) 16 X dX2_leastThemselves_12 (by decide) ?_
    exact g_iret (pc := 16) X dX2_leastThemselves_16 hf
/-! X2_runAt -/
abbrev D_X2_runAt : Nat := 1
noncomputable def f_X2_runAt_26   (s0 : Int32) (s1 : Int32) (μ : jM) : Option (Int32 × jM) := some ((if s0 < s1 then s0 else s1), μ)
noncomputable def f_X2_runAt (x1 : Int32) (μ : jM) : Option (Int32 × jM) := jin x1 240 (if (μ.1 1 0) = (1 : Int32) then (f_X2_runAt_26    (128 : Int32) (μ.1 10 (x1).toNatClampNeg) μ) else (f_X2_runAt_26    (255 : Int32) (μ.1 10 (x1).toNatClampNeg) μ))
set_option maxHeartbeats 4000000 in
theorem t_X2_runAt_26 {Γ : jC} {Δ : jD} {r : Int32} {μ9 : jM}    (X : jOk Γ Δ shC cX2_runAt 2 RX2 (some .int) D_X2_runAt)  : ∀ (s0 : Int32) (s1 : Int32) (μ : jM), f_X2_runAt_26   s0 s1 μ = some (r, μ9) → jG Γ Δ shC (some (.int r), μ9) 26 [none, none] [.int s0, .int s1] μ := by
  intro s0 s1 μ hf
  unfold f_X2_runAt_26 at hf
  refine g_min (pc := 26) X dX2_runAt_26 w_301 w_302 w_8 w_303 (by decide) rfl (Nat.le_of_ble_eq_true rfl) ?_
  exact g_iret (pc := 29) X dX2_runAt_29 hf
set_option maxHeartbeats 4000000 in
theorem M_X2_runAt {l : Launch} {Δ : jD} {r : Int32} {μ μ9 : jM} {x1 : Int32}  (hsep : jSep Δ shC) (hf : f_X2_runAt x1 μ = some (r, μ9)) : jMet l yX2_runAt cX2_runAt 2 (some .int) D_X2_runAt Δ shC [jr Δ 6, .int x1] μ (some (.int r), μ9) := by
  refine jMet_of (own := RX2) (L := [some (jr Δ 6), some (.int x1)]) (by decide) rfl (Nat.le_of_ble_eq_true rfl) rfl hsep (fun Γ _ X => ?_)
  unfold f_X2_runAt at hf
  refine g_ald_n (pc := 0) (i := 0) X dX2_runAt_0 rfl rfl ?_
  refine g_getR (pc := 1) (k := 3) X dX2_runAt_1 cl_X2 rfl rfl (by decide) w_94 ?_
  refine g_ild_n (pc := 4) (i := 1) X dX2_runAt_4 rfl rfl ?_
  obtain ⟨hi1, hf⟩ := jin_i hf
  refine g_iald (pc := 5) X dX2_runAt_5 rfl hi1 ?_
  refine g_ald_n (pc := 6) (i := 0) X dX2_runAt_6 rfl rfl ?_
  refine g_getR (pc := 7) (k := 0) X dX2_runAt_7 cl_X2 rfl rfl (by decide) w_90 ?_
  refine g_getI (pc := 10) (k := 0) X dX2_runAt_10 cl_X4 rfl rfl (by decide) w_32 ?_
  refine g_iconst (pc := 13) (v := (1 : Int32)) X dX2_runAt_13 (by decide) ?_
  refine g_icmp_ne (pc := 14) 23 X dX2_runAt_14 (by decide) (fun h2 => ?_) (fun h2 => ?_)
  · replace hf := jf_i h2 hf
    refine g_sipush (pc := 23) (v := (255 : Int32)) X dX2_runAt_23 (by decide) ?_
    exact g_weak (t_X2_runAt_26  X   _ _ _ hf) (trivial)
  · replace hf := jt_i h2 hf
    refine g_sipush (pc := 17) (v := (128 : Int32)) X dX2_runAt_17 (by decide) ?_
    refine g_goto (pc := 20) 26 X dX2_runAt_20 (by decide) ?_
    exact g_weak (t_X2_runAt_26  X   _ _ _ hf) (trivial)
/-! X2_chooseGreedy -/
abbrev D_X2_chooseGreedy : Nat := 3
noncomputable def f_X2_chooseGreedy_86   (s0 : Int32) (s1 : Int32) (s2 : Int32) (μ : jM) : Option (Unit × jM) := jcall (f_X2_choose s2 s1 s0 μ) (fun (r1 : Unit) (μ1 : jM) => some ((), μ1))
noncomputable def f_X2_chooseGreedy_76   (x3 : Int32) (x4 : Int32) (s0 : Int32) (s1 : Int32) (μ : jM) : Option (Unit × jM) := if x4 = (0 : Int32) then (f_X2_chooseGreedy_86    (1 : Int32) s0 s1 μ) else (f_X2_chooseGreedy_86    x3 s0 s1 μ)
noncomputable def f_X2_chooseGreedy_62   (x1 : Int32) (x3 : Int32) (s0 : Int32) (μ : jM) : Option (Unit × jM) := if s0 = (0 : Int32) then (f_X2_chooseGreedy_76    x3 s0 (2 : Int32) x1 μ) else (f_X2_chooseGreedy_76    x3 s0 (1 : Int32) x1 μ)
noncomputable def f_X2_chooseGreedy (x1 : Int32) (μ : jM) : Option (Unit × jM) := jcall (f_X2_runAt x1 μ) (fun (r4 : Int32) (μ4 : jM) => if x1 < (μ4.1 6 9) then (jcall (f_X2_greedyTakesRun x1 r4 μ4) (fun (r5 : Int32) (μ5 : jM) => if r5 = (0 : Int32) then (jcall (f_X2_greedyThemselves x1 μ5) (fun (r6 : Int32) (μ6 : jM) => jcall (f_X2_leastThemselves  μ6) (fun (r7 : Int32) (μ7 : jM) => if r6 < r7 then (f_X2_chooseGreedy_62    x1 r6 (0 : Int32) μ7) else (f_X2_chooseGreedy_62    x1 r6 (1 : Int32) μ7)))) else (jcall (f_X2_choose x1 (2 : Int32) r4 μ5) (fun (r9 : Unit) (μ9 : jM) => some ((), μ9))))) else (jcall (f_X2_choose x1 (0 : Int32) (0 : Int32) μ4) (fun (r11 : Unit) (μ11 : jM) => some ((), μ11))))
set_option maxHeartbeats 4000000 in
theorem t_X2_chooseGreedy_86 {Γ : jC} {Δ : jD} {r : Unit} {μ9 : jM}    (X : jOk Γ Δ shC cX2_chooseGreedy 5 RX2 none D_X2_chooseGreedy)  : ∀ (s0 : Int32) (s1 : Int32) (s2 : Int32) (μ : jM), f_X2_chooseGreedy_86   s0 s1 s2 μ = some (r, μ9) → jG Γ Δ shC (none, μ9) 86 [none, none, none, none, none] [.int s0, .int s1, .int s2, jr Δ 6] μ := by
  intro s0 s1 s2 μ hf
  unfold f_X2_chooseGreedy_86 at hf
  obtain ⟨r1, μ1, hc1, hf⟩ := jcall_i hf
  refine g_callVv (pc := 86) [.int s2, .int s1, .int s0] X dX2_chooseGreedy_86 (M_X2_choose  (jOk_sep X) hc1) Y_X2_choose w_320 w_322 w_321 cl_X2 rfl rfl (by decide) rfl rfl (Nat.le_of_ble_eq_true rfl) rfl ?_
  exact g_vret (pc := 89) X dX2_chooseGreedy_89 hf
set_option maxHeartbeats 4000000 in
theorem t_X2_chooseGreedy_76 {Γ : jC} {Δ : jD} {r : Unit} {μ9 : jM}    (X : jOk Γ Δ shC cX2_chooseGreedy 5 RX2 none D_X2_chooseGreedy)  : ∀ (x3 : Int32) (x4 : Int32) (s0 : Int32) (s1 : Int32) (μ : jM), f_X2_chooseGreedy_76   x3 x4 s0 s1 μ = some (r, μ9) → jG Γ Δ shC (none, μ9) 76 [none, none, none, some (.int x3), some (.int x4)] [.int s0, .int s1, jr Δ 6] μ := by
  intro x3 x4 s0 s1 μ hf
  unfold f_X2_chooseGreedy_76 at hf
  refine g_ild (pc := 76) X dX2_chooseGreedy_76 rfl ?_
  refine g_if_eq (pc := 78) 85 X dX2_chooseGreedy_78 (by decide) (fun h2 => ?_) (fun h2 => ?_)
  · replace hf := jt_i h2 hf
    refine g_iconst (pc := 85) (v := (1 : Int32)) X dX2_chooseGreedy_85 (by decide) ?_
    exact g_weak (t_X2_chooseGreedy_86  X   _ _ _ _ hf) (trivial)
  · replace hf := jf_i h2 hf
    refine g_ild_n (pc := 81) (i := 3) X dX2_chooseGreedy_81 rfl rfl ?_
    refine g_goto (pc := 82) 86 X dX2_chooseGreedy_82 (by decide) ?_
    exact g_weak (t_X2_chooseGreedy_86  X   _ _ _ _ hf) (trivial)
set_option maxHeartbeats 4000000 in
theorem t_X2_chooseGreedy_62 {Γ : jC} {Δ : jD} {r : Unit} {μ9 : jM}    (X : jOk Γ Δ shC cX2_chooseGreedy 5 RX2 none D_X2_chooseGreedy)  : ∀ (x1 : Int32) (x3 : Int32) (s0 : Int32) (μ : jM), f_X2_chooseGreedy_62   x1 x3 s0 μ = some (r, μ9) → jG Γ Δ shC (none, μ9) 62 [some (jr Δ 6), some (.int x1), none, some (.int x3), none] [.int s0] μ := by
  intro x1 x3 s0 μ hf
  unfold f_X2_chooseGreedy_62 at hf
  refine g_ist (pc := 62) (L1 := [some (jr Δ 6), some (.int x1), none, some (.int x3), some (.int s0)]) X dX2_chooseGreedy_62 (Nat.le_of_ble_eq_true rfl) rfl rfl ?_
  refine g_ald_n (pc := 64) (i := 0) X dX2_chooseGreedy_64 rfl rfl ?_
  refine g_ild_n (pc := 65) (i := 1) X dX2_chooseGreedy_65 rfl rfl ?_
  refine g_ild (pc := 66) X dX2_chooseGreedy_66 rfl ?_
  refine g_if_eq (pc := 68) 75 X dX2_chooseGreedy_68 (by decide) (fun h3 => ?_) (fun h3 => ?_)
  · replace hf := jt_i h3 hf
    refine g_iconst (pc := 75) (v := (2 : Int32)) X dX2_chooseGreedy_75 (by decide) ?_
    exact g_weak (t_X2_chooseGreedy_76  X   _ _ _ _ _ hf) (⟨rfl, ⟨rfl, trivial⟩⟩)
  · replace hf := jf_i h3 hf
    refine g_iconst (pc := 71) (v := (1 : Int32)) X dX2_chooseGreedy_71 (by decide) ?_
    refine g_goto (pc := 72) 76 X dX2_chooseGreedy_72 (by decide) ?_
    exact g_weak (t_X2_chooseGreedy_76  X   _ _ _ _ _ hf) (⟨rfl, ⟨rfl, trivial⟩⟩)
set_option maxHeartbeats 4000000 in
theorem M_X2_chooseGreedy {l : Launch} {Δ : jD} {r : Unit} {μ μ9 : jM} {x1 : Int32}  (hsep : jSep Δ shC) (hf : f_X2_chooseGreedy x1 μ = some (r, μ9)) : jMet l yX2_chooseGreedy cX2_chooseGreedy 5 none D_X2_chooseGreedy Δ shC [jr Δ 6, .int x1] μ (none, μ9) := by
  refine jMet_of (own := RX2) (L := [some (jr Δ 6), some (.int x1), none, none, none]) (by decide) rfl (Nat.le_of_ble_eq_true rfl) rfl hsep (fun Γ _ X => ?_)
  unfold f_X2_chooseGreedy at hf
  refine g_ald_n (pc := 0) (i := 0) X dX2_chooseGreedy_0 rfl rfl ?_
  refine g_ild_n (pc := 1) (i := 1) X dX2_chooseGreedy_1 rfl rfl ?_
  obtain ⟨r4, μ4, hc4, hf⟩ := jcall_i hf
  refine g_callVi (pc := 2) [.int x1] X dX2_chooseGreedy_2 (M_X2_runAt  (jOk_sep X) hc4) Y_X2_runAt w_349 w_351 w_350 cl_X2 rfl rfl (by decide) rfl rfl (Nat.le_of_ble_eq_true rfl) rfl ?_
  refine g_ist_n (pc := 5) (i := 2) (L1 := [some (jr Δ 6), some (.int x1), some (.int r4), none, none]) X dX2_chooseGreedy_5 rfl (Nat.le_of_ble_eq_true rfl) rfl rfl ?_
  refine g_ild_n (pc := 6) (i := 1) X dX2_chooseGreedy_6 rfl rfl ?_
  refine g_ald_n (pc := 7) (i := 0) X dX2_chooseGreedy_7 rfl rfl ?_
  refine g_getI (pc := 8) (k := 9) X dX2_chooseGreedy_8 cl_X2 rfl rfl (by decide) w_100 ?_
  refine g_icmp_lt (pc := 11) 24 X dX2_chooseGreedy_11 (by decide) (fun h12 => ?_) (fun h12 => ?_)
  · replace hf := jt_i h12 hf
    refine g_ald_n (pc := 24) (i := 0) X dX2_chooseGreedy_24 rfl rfl ?_
    refine g_ild_n (pc := 25) (i := 1) X dX2_chooseGreedy_25 rfl rfl ?_
    refine g_ild_n (pc := 26) (i := 2) X dX2_chooseGreedy_26 rfl rfl ?_
    obtain ⟨r5, μ5, hc5, hf⟩ := jcall_i hf
    refine g_callVi (pc := 27) [.int x1, .int r4] X dX2_chooseGreedy_27 (M_X2_greedyTakesRun  (jOk_sep X) hc5) Y_X2_greedyTakesRun w_369 w_371 w_370 cl_X2 rfl rfl (by decide) rfl rfl (Nat.le_of_ble_eq_true rfl) rfl ?_
    refine g_if_eq (pc := 30) 43 X dX2_chooseGreedy_30 (by decide) (fun h10 => ?_) (fun h10 => ?_)
    · replace hf := jt_i h10 hf
      refine g_ald_n (pc := 43) (i := 0) X dX2_chooseGreedy_43 rfl rfl ?_
      refine g_ild_n (pc := 44) (i := 1) X dX2_chooseGreedy_44 rfl rfl ?_
      obtain ⟨r6, μ6, hc6, hf⟩ := jcall_i hf
      refine g_callVi (pc := 45) [.int x1] X dX2_chooseGreedy_45 (M_X2_greedyThemselves  (jOk_sep X) hc6) Y_X2_greedyThemselves w_373 w_375 w_374 cl_X2 rfl rfl (by decide) rfl rfl (Nat.le_of_ble_eq_true rfl) rfl ?_
      refine g_ist_n (pc := 48) (i := 3) (L1 := [some (jr Δ 6), some (.int x1), some (.int r4), some (.int r6), none]) X dX2_chooseGreedy_48 rfl (Nat.le_of_ble_eq_true rfl) rfl rfl ?_
      refine g_ild_n (pc := 49) (i := 3) X dX2_chooseGreedy_49 rfl rfl ?_
      refine g_ald_n (pc := 50) (i := 0) X dX2_chooseGreedy_50 rfl rfl ?_
      obtain ⟨r7, μ7, hc7, hf⟩ := jcall_i hf
      refine g_callVi (pc := 51) [] X dX2_chooseGreedy_51 (M_X2_leastThemselves  (jOk_sep X) hc7) Y_X2_leastThemselves w_337 w_339 w_338 cl_X2 rfl rfl (by decide) rfl rfl (Nat.le_of_ble_eq_true rfl) rfl ?_
      refine g_icmp_lt (pc := 54) 61 X dX2_chooseGreedy_54 (by decide) (fun h8 => ?_) (fun h8 => ?_)
      · replace hf := jt_i h8 hf
        refine g_iconst (pc := 61) (v := (0 : Int32)) X dX2_chooseGreedy_61 (by decide) ?_
        exact g_weak (t_X2_chooseGreedy_62  X   _ _ _ _ hf) (⟨rfl, ⟨rfl, ⟨rfl, trivial⟩⟩⟩)
      · replace hf := jf_i h8 hf
        refine g_iconst (pc := 57) (v := (1 : Int32)) X dX2_chooseGreedy_57 (by decide) ?_
        refine g_goto (pc := 58) 62 X dX2_chooseGreedy_58 (by decide) ?_
        exact g_weak (t_X2_chooseGreedy_62  X   _ _ _ _ hf) (⟨rfl, ⟨rfl, ⟨rfl, trivial⟩⟩⟩)
    · replace hf := jf_i h10 hf
      refine g_ald_n (pc := 33) (i := 0) X dX2_chooseGreedy_33 rfl rfl ?_
      refine g_ild_n (pc := 34) (i := 1) X dX2_chooseGreedy_34 rfl rfl ?_
      refine g_iconst (pc := 35) (v := (2 : Int32)) X dX2_chooseGreedy_35 (by decide) ?_
      refine g_ild_n (pc := 36) (i := 2) X dX2_chooseGreedy_36 rfl rfl ?_
      obtain ⟨r9, μ9, hc9, hf⟩ := jcall_i hf
      refine g_callVv (pc := 37) [.int x1, .int (2 : Int32), .int r4] X dX2_chooseGreedy_37 (M_X2_choose  (jOk_sep X) hc9) Y_X2_choose w_320 w_322 w_321 cl_X2 rfl rfl (by decide) rfl rfl (Nat.le_of_ble_eq_true rfl) rfl ?_
      refine g_goto (pc := 40) 89 X dX2_chooseGreedy_40 (by decide) ?_
      exact g_vret (pc := 89) X dX2_chooseGreedy_89 hf
  · replace hf := jf_i h12 hf
    refine g_ald_n (pc := 14) (i := 0) X dX2_chooseGreedy_14 rfl rfl ?_
    refine g_ild_n (pc := 15) (i := 1) X dX2_chooseGreedy_15 rfl rfl ?_
    refine g_iconst (pc := 16) (v := (0 : Int32)) X dX2_chooseGreedy_16 (by decide) ?_
    refine g_iconst (pc := 17) (v := (0 : Int32)) X dX2_chooseGreedy_17 (by decide) ?_
    obtain ⟨r11, μ11, hc11, hf⟩ := jcall_i hf
    refine g_callVv (pc := 18) [.int x1, .int (0 : Int32), .int (0 : Int32)] X dX2_chooseGreedy_18 (M_X2_choose  (jOk_sep X) hc11) Y_X2_choose w_320 w_322 w_321 cl_X2 rfl rfl (by decide) rfl rfl (Nat.le_of_ble_eq_true rfl) rfl ?_
    refine g_goto (pc := 21) 89 X dX2_chooseGreedy_21 (by decide) ?_
    exact g_vret (pc := 89) X dX2_chooseGreedy_89 hf
/-! X2_addPieces -/
abbrev D_X2_addPieces : Nat := 4
noncomputable def f_X2_addPieces_30  (k5 : Int32 → Int32 → Int32 → jM → Option (Unit × jM)) (x2 : Int32) (x3 : Int32) (x4 : Int32) (μ : jM) : Option (Unit × jM) := jin x3 240 (if (μ.1 12 (x3).toNatClampNeg) = (0 : Int32) then (some ((), μ)) else (jcall (f_X2_addPiece x3 μ) (fun (r2 : Unit) (μ2 : jM) => jin x3 240 (jlet (x3 + (μ2.1 13 (x3).toNatClampNeg)) (fun z4 : Int32 => jlet (x4 + (1 : Int32)) (fun z5 : Int32 => k5 x2 z4 z5 μ2))))))
noncomputable def f_X2_addPieces_5   : Nat → Int32 → Int32 → Int32 → jM → Option (Unit × jM)
  | 0, _, _, _, _ => none
  | fu + 1, x2, x3, x4, μ => if (240 : Int32) ≤ x4 then (some ((), μ)) else (if (μ.1 6 8) ≤ x3 then (some ((), μ)) else (if x2 = (0 : Int32) then (jcall (f_X2_chooseGreedy x3 μ) (fun (r7 : Unit) (μ7 : jM) => f_X2_addPieces_30  (fun x2 x3 x4 μ => f_X2_addPieces_5   fu x2 x3 x4 μ)  x2 x3 x4 μ7)) else (f_X2_addPieces_30  (fun x2 x3 x4 μ => f_X2_addPieces_5   fu x2 x3 x4 μ)  x2 x3 x4 μ)))
noncomputable def f_X2_addPieces (x1 : Int32) (x2 : Int32) (μ : jM) : Option (Unit × jM) := f_X2_addPieces_5   jFU x2 x1 (0 : Int32) μ
set_option maxHeartbeats 4000000 in
theorem t_X2_addPieces_30 {Γ : jC} {Δ : jD} {r : Unit} {μ9 : jM}  {k5 : Int32 → Int32 → Int32 → jM → Option (Unit × jM)}  (X : jOk Γ Δ shC cX2_addPieces 5 RX2 none D_X2_addPieces) (hk5 : ∀ (x2 : Int32) (x3 : Int32) (x4 : Int32) (μ : jM), k5 x2 x3 x4 μ = some (r, μ9) → jG Γ Δ shC (none, μ9) 5 [some (jr Δ 6), none, some (.int x2), some (.int x3), some (.int x4)] [] μ) : ∀ (x2 : Int32) (x3 : Int32) (x4 : Int32) (μ : jM), f_X2_addPieces_30  k5 x2 x3 x4 μ = some (r, μ9) → jG Γ Δ shC (none, μ9) 30 [some (jr Δ 6), none, some (.int x2), some (.int x3), some (.int x4)] [] μ := by
  intro x2 x3 x4 μ hf
  unfold f_X2_addPieces_30 at hf
  refine g_ald_n (pc := 30) (i := 0) X dX2_addPieces_30 rfl rfl ?_
  refine g_getR (pc := 31) (k := 5) X dX2_addPieces_31 cl_X2 rfl rfl (by decide) w_96 ?_
  refine g_ild_n (pc := 34) (i := 3) X dX2_addPieces_34 rfl rfl ?_
  obtain ⟨hi1, hf⟩ := jin_i hf
  refine g_iald (pc := 35) X dX2_addPieces_35 rfl hi1 ?_
  refine g_if_ne (pc := 36) 42 X dX2_addPieces_36 (by decide) (fun h6 => ?_) (fun h6 => ?_)
  · replace hf := jf_i h6 hf
    refine g_ald_n (pc := 42) (i := 0) X dX2_addPieces_42 rfl rfl ?_
    refine g_ild_n (pc := 43) (i := 3) X dX2_addPieces_43 rfl rfl ?_
    obtain ⟨r2, μ2, hc2, hf⟩ := jcall_i hf
    refine g_callVv (pc := 44) [.int x3] X dX2_addPieces_44 (M_X2_addPiece  (jOk_sep X) hc2) Y_X2_addPiece w_377 w_379 w_378 cl_X2 rfl rfl (by decide) rfl rfl (Nat.le_of_ble_eq_true rfl) rfl ?_
    refine g_ild_n (pc := 47) (i := 3) X dX2_addPieces_47 rfl rfl ?_
    refine g_ald_n (pc := 48) (i := 0) X dX2_addPieces_48 rfl rfl ?_
    refine g_getR (pc := 49) (k := 6) X dX2_addPieces_49 cl_X2 rfl rfl (by decide) w_97 ?_
    refine g_ild_n (pc := 52) (i := 3) X dX2_addPieces_52 rfl rfl ?_
    obtain ⟨hi3, hf⟩ := jin_i hf
    refine g_iald (pc := 53) X dX2_addPieces_53 rfl hi3 ?_
    refine g_iadd (pc := 54) X dX2_addPieces_54 ?_
    refine g_nmI (fun z4 ez4 => ?_)
    replace hf := jlet_i ez4 hf
    refine g_ist_n (pc := 55) (i := 3) (L1 := [some (jr Δ 6), none, some (.int x2), some (.int z4), some (.int x4)]) X dX2_addPieces_55 rfl (Nat.le_of_ble_eq_true rfl) rfl rfl ?_
    obtain ⟨z5, ez5⟩ : ∃ z : Int32, z = x4 + (1 : Int32) := ⟨_, rfl⟩
    replace hf := jlet_i ez5 hf
    refine g_iinc (pc := 56) (L1 := [some (jr Δ 6), none, some (.int x2), some (.int z4), some (.int z5)]) X dX2_addPieces_56 rfl (by rw [ez5]; rfl) rfl rfl ?_
    refine g_goto (pc := 59) 5 X dX2_addPieces_59 (by decide) ?_
    exact g_weak (hk5 _ _ _ _ hf) (⟨rfl, ⟨rfl, ⟨rfl, ⟨rfl, trivial⟩⟩⟩⟩)
  · replace hf := jt_i h6 hf
    refine g_goto (pc := 39) 62 X dX2_addPieces_39 (by decide) ?_
    exact g_vret (pc := 62) X dX2_addPieces_62 hf
set_option maxHeartbeats 4000000 in
theorem t_X2_addPieces_5 {Γ : jC} {Δ : jD} {r : Unit} {μ9 : jM}    (X : jOk Γ Δ shC cX2_addPieces 5 RX2 none D_X2_addPieces)  : ∀ (fu : Nat) (x2 : Int32) (x3 : Int32) (x4 : Int32) (μ : jM), f_X2_addPieces_5   fu x2 x3 x4 μ = some (r, μ9) → jG Γ Δ shC (none, μ9) 5 [some (jr Δ 6), none, some (.int x2), some (.int x3), some (.int x4)] [] μ := by
  intro fu
  induction fu with
  | zero =>
    intro x2 x3 x4 μ hf
    cases hf
  | succ fu ih =>
    intro x2 x3 x4 μ hf
    replace hf := (f_X2_addPieces_5.eq_2 _ _ _ _ _).symm.trans hf
    refine g_ild (pc := 5) X dX2_addPieces_5 rfl ?_
    refine g_sipush (pc := 7) (v := (240 : Int32)) X dX2_addPieces_7 (by decide) ?_
    refine g_icmp_ge (pc := 10) 62 X dX2_addPieces_10 (by decide) (fun h10 => ?_) (fun h10 => ?_)
    · replace hf := jt_i h10 hf
      exact g_vret (pc := 62) X dX2_addPieces_62 hf
    · replace hf := jf_i h10 hf
      refine g_ild_n (pc := 13) (i := 3) X dX2_addPieces_13 rfl rfl ?_
      refine g_ald_n (pc := 14) (i := 0) X dX2_addPieces_14 rfl rfl ?_
      refine g_getI (pc := 15) (k := 8) X dX2_addPieces_15 cl_X2 rfl rfl (by decide) w_99 ?_
      refine g_icmp_ge (pc := 18) 62 X dX2_addPieces_18 (by decide) (fun h9 => ?_) (fun h9 => ?_)
      · replace hf := jt_i h9 hf
        exact g_vret (pc := 62) X dX2_addPieces_62 hf
      · replace hf := jf_i h9 hf
        refine g_ild_n (pc := 21) (i := 2) X dX2_addPieces_21 rfl rfl ?_
        refine g_if_ne (pc := 22) 30 X dX2_addPieces_22 (by decide) (fun h8 => ?_) (fun h8 => ?_)
        · replace hf := jf_i h8 hf
          exact g_weak (t_X2_addPieces_30  X (fun _ _ _ _ h => ih _ _ _ _ h)  _ _ _ _ hf) (⟨rfl, ⟨rfl, ⟨rfl, ⟨rfl, trivial⟩⟩⟩⟩)
        · replace hf := jt_i h8 hf
          refine g_ald_n (pc := 25) (i := 0) X dX2_addPieces_25 rfl rfl ?_
          refine g_ild_n (pc := 26) (i := 3) X dX2_addPieces_26 rfl rfl ?_
          obtain ⟨r7, μ7, hc7, hf⟩ := jcall_i hf
          refine g_callVv (pc := 27) [.int x3] X dX2_addPieces_27 (M_X2_chooseGreedy  (jOk_sep X) hc7) Y_X2_chooseGreedy w_365 w_367 w_366 cl_X2 rfl rfl (by decide) rfl rfl (Nat.le_of_ble_eq_true rfl) rfl ?_
          exact g_weak (t_X2_addPieces_30  X (fun _ _ _ _ h => ih _ _ _ _ h)  _ _ _ _ hf) (⟨rfl, ⟨rfl, ⟨rfl, ⟨rfl, trivial⟩⟩⟩⟩)
set_option maxHeartbeats 4000000 in
theorem M_X2_addPieces {l : Launch} {Δ : jD} {r : Unit} {μ μ9 : jM} {x1 : Int32} {x2 : Int32}  (hsep : jSep Δ shC) (hf : f_X2_addPieces x1 x2 μ = some (r, μ9)) : jMet l yX2_addPieces cX2_addPieces 5 none D_X2_addPieces Δ shC [jr Δ 6, .int x1, .int x2] μ (none, μ9) := by
  refine jMet_of (own := RX2) (L := [some (jr Δ 6), some (.int x1), some (.int x2), none, none]) (by decide) rfl (Nat.le_of_ble_eq_true rfl) rfl hsep (fun Γ _ X => ?_)
  unfold f_X2_addPieces at hf
  refine g_ild_n (pc := 0) (i := 1) X dX2_addPieces_0 rfl rfl ?_
  refine g_ist_n (pc := 1) (i := 3) (L1 := [some (jr Δ 6), some (.int x1), some (.int x2), some (.int x1), none]) X dX2_addPieces_1 rfl (Nat.le_of_ble_eq_true rfl) rfl rfl ?_
  refine g_iconst (pc := 2) (v := (0 : Int32)) X dX2_addPieces_2 (by decide) ?_
  refine g_ist (pc := 3) (L1 := [some (jr Δ 6), some (.int x1), some (.int x2), some (.int x1), some (.int (0 : Int32))]) X dX2_addPieces_3 (Nat.le_of_ble_eq_true rfl) rfl rfl ?_
  exact g_weak (t_X2_addPieces_5  X  jFU _ _ _ _ hf) (⟨rfl, ⟨rfl, ⟨rfl, ⟨rfl, trivial⟩⟩⟩⟩)
/-! X2_measure -/
abbrev D_X2_measure : Nat := 0
noncomputable def f_X2_measure_112  (k15 : Int32 → Int32 → jM → Option (Unit × jM)) (x1 : Int32) (x2 : Int32) (μ : jM) : Option (Unit × jM) := jlet (x2 + (-1 : Int32)) (fun z1 : Int32 => k15 x1 z1 μ)
noncomputable def f_X2_measure_76  (k15 : Int32 → Int32 → jM → Option (Unit × jM)) (x1 : Int32) (x2 : Int32) (s0 : Int32) (s1 : Int32) (μ : jM) : Option (Unit × jM) := jin s1 240 (jlet (jsI μ 10 (s1).toNatClampNeg s0) (fun μ2 : jM => if (μ2.1 1 0) = (2 : Int32) then (if (μ2.1 6 9) = (x2 + (1 : Int32)) then (jin x2 240 (if (μ2.1 9 (x2).toNatClampNeg) = (0 : Int32) then (jlet (jsI μ2 6 9 x2) (fun μ4 : jM => f_X2_measure_112  k15  x1 x2 μ4)) else (f_X2_measure_112  k15  x1 x2 μ2))) else (f_X2_measure_112  k15  x1 x2 μ2)) else (f_X2_measure_112  k15  x1 x2 μ2)))
noncomputable def f_X2_measure_52  (k15 : Int32 → Int32 → jM → Option (Unit × jM)) (x1 : Int32) (x2 : Int32) (s0 : Int32) (μ : jM) : Option (Unit × jM) := if s0 = (0 : Int32) then (f_X2_measure_76  k15  x1 x2 (1 : Int32) x2 μ) else (jin (x2 + (1 : Int32)) 240 (f_X2_measure_76  k15  x1 x2 ((μ.1 10 ((x2 + (1 : Int32))).toNatClampNeg) + (1 : Int32)) x2 μ))
noncomputable def f_X2_measure_51  (k15 : Int32 → Int32 → jM → Option (Unit × jM)) (x1 : Int32) (x2 : Int32) (μ : jM) : Option (Unit × jM) := f_X2_measure_52  k15  x1 x2 (0 : Int32) μ
noncomputable def f_X2_measure_15   : Nat → Int32 → Int32 → jM → Option (Unit × jM)
  | 0, _, _, _ => none
  | fu + 1, x1, x2, μ => if x2 < x1 then (some ((), μ)) else (if (μ.1 6 8) ≤ (x2 + (1 : Int32)) then (f_X2_measure_51  (fun x1 x2 μ => f_X2_measure_15   fu x1 x2 μ)  x1 x2 μ) else (jin x2 240 (jin (x2 + (1 : Int32)) 240 (if (μ.1 9 (x2).toNatClampNeg) = (μ.1 9 ((x2 + (1 : Int32))).toNatClampNeg) then (f_X2_measure_52  (fun x1 x2 μ => f_X2_measure_15   fu x1 x2 μ)  x1 x2 (1 : Int32) μ) else (f_X2_measure_51  (fun x1 x2 μ => f_X2_measure_15   fu x1 x2 μ)  x1 x2 μ)))))
noncomputable def f_X2_measure (x1 : Int32) (μ : jM) : Option (Unit × jM) := jlet (jsI μ 6 9 (μ.1 6 8)) (fun μ15 : jM => jlet ((μ15.1 6 8) - (1 : Int32)) (fun z16 : Int32 => f_X2_measure_15   jFU x1 z16 μ15))
set_option maxHeartbeats 4000000 in
theorem t_X2_measure_112 {Γ : jC} {Δ : jD} {r : Unit} {μ9 : jM}  {k15 : Int32 → Int32 → jM → Option (Unit × jM)}  (X : jOk Γ Δ shC cX2_measure 4 RX2 none D_X2_measure) (hk15 : ∀ (x1 : Int32) (x2 : Int32) (μ : jM), k15 x1 x2 μ = some (r, μ9) → jG Γ Δ shC (none, μ9) 15 [some (jr Δ 6), some (.int x1), some (.int x2), none] [] μ) : ∀ (x1 : Int32) (x2 : Int32) (μ : jM), f_X2_measure_112  k15 x1 x2 μ = some (r, μ9) → jG Γ Δ shC (none, μ9) 112 [some (jr Δ 6), some (.int x1), some (.int x2), none] [] μ := by
  intro x1 x2 μ hf
  unfold f_X2_measure_112 at hf
  obtain ⟨z1, ez1⟩ : ∃ z : Int32, z = x2 + (-1 : Int32) := ⟨_, rfl⟩
  replace hf := jlet_i ez1 hf
  refine g_iinc (pc := 112) (L1 := [some (jr Δ 6), some (.int x1), some (.int z1), none]) X dX2_measure_112 rfl (by rw [ez1]; rfl) rfl rfl ?_
  refine g_goto (pc := 115) 15 X dX2_measure_115 (by decide) ?_
  exact g_weak (hk15 _ _ _ hf) (⟨rfl, ⟨rfl, ⟨rfl, trivial⟩⟩⟩)
set_option maxHeartbeats 4000000 in
theorem t_X2_measure_76 {Γ : jC} {Δ : jD} {r : Unit} {μ9 : jM}  {k15 : Int32 → Int32 → jM → Option (Unit × jM)}  (X : jOk Γ Δ shC cX2_measure 4 RX2 none D_X2_measure) (hk15 : ∀ (x1 : Int32) (x2 : Int32) (μ : jM), k15 x1 x2 μ = some (r, μ9) → jG Γ Δ shC (none, μ9) 15 [some (jr Δ 6), some (.int x1), some (.int x2), none] [] μ) : ∀ (x1 : Int32) (x2 : Int32) (s0 : Int32) (s1 : Int32) (μ : jM), f_X2_measure_76  k15 x1 x2 s0 s1 μ = some (r, μ9) → jG Γ Δ shC (none, μ9) 76 [some (jr Δ 6), some (.int x1), some (.int x2), none] [.int s0, .int s1, jr Δ 10] μ := by
  intro x1 x2 s0 s1 μ hf
  unfold f_X2_measure_76 at hf
  obtain ⟨hi2, hf⟩ := jin_i hf
  refine g_iast (pc := 76) X dX2_measure_76 rfl hi2 ?_
  refine g_nmM (fun μ2 eμ2 => ?_)
  replace hf := jlet_i eμ2 hf
  refine g_ald_n (pc := 77) (i := 0) X dX2_measure_77 rfl rfl ?_
  refine g_getR (pc := 78) (k := 0) X dX2_measure_78 cl_X2 rfl rfl (by decide) w_90 ?_
  refine g_getI (pc := 81) (k := 0) X dX2_measure_81 cl_X4 rfl rfl (by decide) w_32 ?_
  refine g_iconst (pc := 84) (v := (2 : Int32)) X dX2_measure_84 (by decide) ?_
  refine g_icmp_ne (pc := 85) 112 X dX2_measure_85 (by decide) (fun h7 => ?_) (fun h7 => ?_)
  · replace hf := jf_i h7 hf
    exact g_weak (t_X2_measure_112  X hk15  _ _ _ hf) (⟨rfl, ⟨rfl, ⟨rfl, trivial⟩⟩⟩)
  · replace hf := jt_i h7 hf
    refine g_ald_n (pc := 88) (i := 0) X dX2_measure_88 rfl rfl ?_
    refine g_getI (pc := 89) (k := 9) X dX2_measure_89 cl_X2 rfl rfl (by decide) w_100 ?_
    refine g_ild_n (pc := 92) (i := 2) X dX2_measure_92 rfl rfl ?_
    refine g_iconst (pc := 93) (v := (1 : Int32)) X dX2_measure_93 (by decide) ?_
    refine g_iadd (pc := 94) X dX2_measure_94 ?_
    refine g_icmp_ne (pc := 95) 112 X dX2_measure_95 (by decide) (fun h6 => ?_) (fun h6 => ?_)
    · replace hf := jf_i h6 hf
      exact g_weak (t_X2_measure_112  X hk15  _ _ _ hf) (⟨rfl, ⟨rfl, ⟨rfl, trivial⟩⟩⟩)
    · replace hf := jt_i h6 hf
      refine g_ald_n (pc := 98) (i := 0) X dX2_measure_98 rfl rfl ?_
      refine g_getR (pc := 99) (k := 2) X dX2_measure_99 cl_X2 rfl rfl (by decide) w_93 ?_
      refine g_ild_n (pc := 102) (i := 2) X dX2_measure_102 rfl rfl ?_
      obtain ⟨hi3, hf⟩ := jin_i hf
      refine g_iald (pc := 103) X dX2_measure_103 rfl hi3 ?_
      refine g_if_ne (pc := 104) 112 X dX2_measure_104 (by decide) (fun h5 => ?_) (fun h5 => ?_)
      · replace hf := jf_i h5 hf
        exact g_weak (t_X2_measure_112  X hk15  _ _ _ hf) (⟨rfl, ⟨rfl, ⟨rfl, trivial⟩⟩⟩)
      · replace hf := jt_i h5 hf
        refine g_ald_n (pc := 107) (i := 0) X dX2_measure_107 rfl rfl ?_
        refine g_ild_n (pc := 108) (i := 2) X dX2_measure_108 rfl rfl ?_
        refine g_putI (pc := 109) (k := 9) X dX2_measure_109 cl_X2 rfl rfl (by decide) w_100 rfl rfl rfl ?_
        refine g_nmM (fun μ4 eμ4 => ?_)
        replace hf := jlet_i eμ4 hf
        exact g_weak (t_X2_measure_112  X hk15  _ _ _ hf) (⟨rfl, ⟨rfl, ⟨rfl, trivial⟩⟩⟩)
set_option maxHeartbeats 4000000 in
theorem t_X2_measure_52 {Γ : jC} {Δ : jD} {r : Unit} {μ9 : jM}  {k15 : Int32 → Int32 → jM → Option (Unit × jM)}  (X : jOk Γ Δ shC cX2_measure 4 RX2 none D_X2_measure) (hk15 : ∀ (x1 : Int32) (x2 : Int32) (μ : jM), k15 x1 x2 μ = some (r, μ9) → jG Γ Δ shC (none, μ9) 15 [some (jr Δ 6), some (.int x1), some (.int x2), none] [] μ) : ∀ (x1 : Int32) (x2 : Int32) (s0 : Int32) (μ : jM), f_X2_measure_52  k15 x1 x2 s0 μ = some (r, μ9) → jG Γ Δ shC (none, μ9) 52 [some (jr Δ 6), some (.int x1), some (.int x2), none] [.int s0] μ := by
  intro x1 x2 s0 μ hf
  unfold f_X2_measure_52 at hf
  refine g_ist_n (pc := 52) (i := 3) (L1 := [some (jr Δ 6), some (.int x1), some (.int x2), some (.int s0)]) X dX2_measure_52 rfl (Nat.le_of_ble_eq_true rfl) rfl rfl ?_
  refine g_ald_n (pc := 53) (i := 0) X dX2_measure_53 rfl rfl ?_
  refine g_getR (pc := 54) (k := 3) X dX2_measure_54 cl_X2 rfl rfl (by decide) w_94 ?_
  refine g_ild_n (pc := 57) (i := 2) X dX2_measure_57 rfl rfl ?_
  refine g_ild_n (pc := 58) (i := 3) X dX2_measure_58 rfl rfl ?_
  refine g_if_eq (pc := 59) 75 X dX2_measure_59 (by decide) (fun h9 => ?_) (fun h9 => ?_)
  · replace hf := jt_i h9 hf
    refine g_iconst (pc := 75) (v := (1 : Int32)) X dX2_measure_75 (by decide) ?_
    exact g_weak (t_X2_measure_76  X hk15  _ _ _ _ _ hf) (⟨rfl, ⟨rfl, ⟨rfl, trivial⟩⟩⟩)
  · replace hf := jf_i h9 hf
    refine g_ald_n (pc := 62) (i := 0) X dX2_measure_62 rfl rfl ?_
    refine g_getR (pc := 63) (k := 3) X dX2_measure_63 cl_X2 rfl rfl (by decide) w_94 ?_
    refine g_ild_n (pc := 66) (i := 2) X dX2_measure_66 rfl rfl ?_
    refine g_iconst (pc := 67) (v := (1 : Int32)) X dX2_measure_67 (by decide) ?_
    refine g_iadd (pc := 68) X dX2_measure_68 ?_
    obtain ⟨hi8, hf⟩ := jin_i hf
    refine g_iald (pc := 69) X dX2_measure_69 rfl hi8 ?_
    refine g_iconst (pc := 70) (v := (1 : Int32)) X dX2_measure_70 (by decide) ?_
    refine g_iadd (pc := 71) X dX2_measure_71 ?_
    refine g_goto (pc := 72) 76 X dX2_measure_72 (by decide) ?_
    exact g_weak (t_X2_measure_76  X hk15  _ _ _ _ _ hf) (⟨rfl, ⟨rfl, ⟨rfl, trivial⟩⟩⟩)
set_option maxHeartbeats 4000000 in
theorem t_X2_measure_51 {Γ : jC} {Δ : jD} {r : Unit} {μ9 : jM}  {k15 : Int32 → Int32 → jM → Option (Unit × jM)}  (X : jOk Γ Δ shC cX2_measure 4 RX2 none D_X2_measure) (hk15 : ∀ (x1 : Int32) (x2 : Int32) (μ : jM), k15 x1 x2 μ = some (r, μ9) → jG Γ Δ shC (none, μ9) 15 [some (jr Δ 6), some (.int x1), some (.int x2), none] [] μ) : ∀ (x1 : Int32) (x2 : Int32) (μ : jM), f_X2_measure_51  k15 x1 x2 μ = some (r, μ9) → jG Γ Δ shC (none, μ9) 51 [some (jr Δ 6), some (.int x1), some (.int x2), none] [] μ := by
  intro x1 x2 μ hf
  unfold f_X2_measure_51 at hf
  refine g_iconst (pc := 51) (v := (0 : Int32)) X dX2_measure_51 (by decide) ?_
  exact g_weak (t_X2_measure_52  X hk15  _ _ _ _ hf) (⟨rfl, ⟨rfl, ⟨rfl, trivial⟩⟩⟩)
set_option maxHeartbeats 4000000 in
theorem t_X2_measure_15 {Γ : jC} {Δ : jD} {r : Unit} {μ9 : jM}    (X : jOk Γ Δ shC cX2_measure 4 RX2 none D_X2_measure)  : ∀ (fu : Nat) (x1 : Int32) (x2 : Int32) (μ : jM), f_X2_measure_15   fu x1 x2 μ = some (r, μ9) → jG Γ Δ shC (none, μ9) 15 [some (jr Δ 6), some (.int x1), some (.int x2), none] [] μ := by
  intro fu
  induction fu with
  | zero =>
    intro x1 x2 μ hf
    cases hf
  | succ fu ih =>
    intro x1 x2 μ hf
    replace hf := (f_X2_measure_15.eq_2 _ _ _ _).symm.trans hf
    refine g_ild_n (pc := 15) (i := 2) X dX2_measure_15 rfl rfl ?_
    refine g_ild_n (pc := 16) (i := 1) X dX2_measure_16 rfl rfl ?_
    refine g_icmp_lt (pc := 17) 118 X dX2_measure_17 (by decide) (fun h14 => ?_) (fun h14 => ?_)
    · replace hf := jt_i h14 hf
      exact g_vret (pc := 118) X dX2_measure_118 hf
    · replace hf := jf_i h14 hf
      refine g_ild_n (pc := 20) (i := 2) X dX2_measure_20 rfl rfl ?_
      refine g_iconst (pc := 21) (v := (1 : Int32)) X dX2_measure_21 (by decide) ?_
      refine g_iadd (pc := 22) X dX2_measure_22 ?_
      refine g_ald_n (pc := 23) (i := 0) X dX2_measure_23 rfl rfl ?_
      refine g_getI (pc := 24) (k := 8) X dX2_measure_24 cl_X2 rfl rfl (by decide) w_99 ?_
      refine g_icmp_ge (pc := 27) 51 X dX2_measure_27 (by decide) (fun h13 => ?_) (fun h13 => ?_)
      · replace hf := jt_i h13 hf
        exact g_weak (t_X2_measure_51  X (fun _ _ _ h => ih _ _ _ h)  _ _ _ hf) (⟨rfl, ⟨rfl, ⟨rfl, trivial⟩⟩⟩)
      · replace hf := jf_i h13 hf
        refine g_ald_n (pc := 30) (i := 0) X dX2_measure_30 rfl rfl ?_
        refine g_getR (pc := 31) (k := 2) X dX2_measure_31 cl_X2 rfl rfl (by decide) w_93 ?_
        refine g_ild_n (pc := 34) (i := 2) X dX2_measure_34 rfl rfl ?_
        obtain ⟨hi10, hf⟩ := jin_i hf
        refine g_iald (pc := 35) X dX2_measure_35 rfl hi10 ?_
        refine g_ald_n (pc := 36) (i := 0) X dX2_measure_36 rfl rfl ?_
        refine g_getR (pc := 37) (k := 2) X dX2_measure_37 cl_X2 rfl rfl (by decide) w_93 ?_
        refine g_ild_n (pc := 40) (i := 2) X dX2_measure_40 rfl rfl ?_
        refine g_iconst (pc := 41) (v := (1 : Int32)) X dX2_measure_41 (by decide) ?_
        refine g_iadd (pc := 42) X dX2_measure_42 ?_
        obtain ⟨hi11, hf⟩ := jin_i hf
        refine g_iald (pc := 43) X dX2_measure_43 rfl hi11 ?_
        refine g_icmp_ne (pc := 44) 51 X dX2_measure_44 (by decide) (fun h12 => ?_) (fun h12 => ?_)
        · replace hf := jf_i h12 hf
          exact g_weak (t_X2_measure_51  X (fun _ _ _ h => ih _ _ _ h)  _ _ _ hf) (⟨rfl, ⟨rfl, ⟨rfl, trivial⟩⟩⟩)
        · replace hf := jt_i h12 hf
          refine g_iconst (pc := 47) (v := (1 : Int32)) X dX2_measure_47 (by decide) ?_
          refine g_goto (pc := 48) 52 X dX2_measure_48 (by decide) ?_
          exact g_weak (t_X2_measure_52  X (fun _ _ _ h => ih _ _ _ h)  _ _ _ _ hf) (⟨rfl, ⟨rfl, ⟨rfl, trivial⟩⟩⟩)
set_option maxHeartbeats 4000000 in
theorem M_X2_measure {l : Launch} {Δ : jD} {r : Unit} {μ μ9 : jM} {x1 : Int32}  (hsep : jSep Δ shC) (hf : f_X2_measure x1 μ = some (r, μ9)) : jMet l yX2_measure cX2_measure 4 none D_X2_measure Δ shC [jr Δ 6, .int x1] μ (none, μ9) := by
  refine jMet_of (own := RX2) (L := [some (jr Δ 6), some (.int x1), none, none]) (by decide) rfl (Nat.le_of_ble_eq_true rfl) rfl hsep (fun Γ _ X => ?_)
  unfold f_X2_measure at hf
  refine g_ald_n (pc := 0) (i := 0) X dX2_measure_0 rfl rfl ?_
  refine g_ald_n (pc := 1) (i := 0) X dX2_measure_1 rfl rfl ?_
  refine g_getI (pc := 2) (k := 8) X dX2_measure_2 cl_X2 rfl rfl (by decide) w_99 ?_
  refine g_putI (pc := 5) (k := 9) X dX2_measure_5 cl_X2 rfl rfl (by decide) w_100 rfl rfl rfl ?_
  refine g_nmM (fun μ15 eμ15 => ?_)
  replace hf := jlet_i eμ15 hf
  refine g_ald_n (pc := 8) (i := 0) X dX2_measure_8 rfl rfl ?_
  refine g_getI (pc := 9) (k := 8) X dX2_measure_9 cl_X2 rfl rfl (by decide) w_99 ?_
  refine g_iconst (pc := 12) (v := (1 : Int32)) X dX2_measure_12 (by decide) ?_
  refine g_isub (pc := 13) X dX2_measure_13 ?_
  refine g_nmI (fun z16 ez16 => ?_)
  replace hf := jlet_i ez16 hf
  refine g_ist_n (pc := 14) (i := 2) (L1 := [some (jr Δ 6), some (.int x1), some (.int z16), none]) X dX2_measure_14 rfl (Nat.le_of_ble_eq_true rfl) rfl rfl ?_
  exact g_weak (t_X2_measure_15  X  jFU _ _ _ hf) (⟨rfl, ⟨rfl, ⟨rfl, trivial⟩⟩⟩)
/-! X2_leastRun -/
abbrev D_X2_leastRun : Nat := 0
noncomputable def f_X2_leastRun  (μ : jM) : Option (Int32 × jM) := if (μ.1 1 0) = (1 : Int32) then (some ((2 : Int32), μ)) else (some ((1 : Int32), μ))
set_option maxHeartbeats 4000000 in
theorem M_X2_leastRun {l : Launch} {Δ : jD} {r : Int32} {μ μ9 : jM}   (hsep : jSep Δ shC) (hf : f_X2_leastRun  μ = some (r, μ9)) : jMet l yX2_leastRun cX2_leastRun 1 (some .int) D_X2_leastRun Δ shC [jr Δ 6] μ (some (.int r), μ9) := by
  refine jMet_of (own := RX2) (L := [some (jr Δ 6)]) (by decide) rfl (Nat.le_of_ble_eq_true rfl) rfl hsep (fun Γ _ X => ?_)
  unfold f_X2_leastRun at hf
  refine g_ald_n (pc := 0) (i := 0) X dX2_leastRun_0 rfl rfl ?_
  refine g_getR (pc := 1) (k := 0) X dX2_leastRun_1 cl_X2 rfl rfl (by decide) w_90 ?_
  refine g_getI (pc := 4) (k := 0) X dX2_leastRun_4 cl_X4 rfl rfl (by decide) w_32 ?_
  refine g_iconst (pc := 7) (v := (1 : Int32)) X dX2_leastRun_7 (by decide) ?_
  refine g_icmp_ne (pc := 8) 15 X dX2_leastRun_8 (by decide) (fun h1 => ?_) (fun h1 => ?_)
  · replace hf := jf_i h1 hf
    refine g_iconst (pc := 15) (v := (1 : Int32)) X dX2_leastRun_15 (by decide) ?_
    exact g_iret (pc := 16) X dX2_leastRun_16 hf
  · replace hf := jt_i h1 hf
    refine g_iconst (pc := 11) (v := (2 : Int32)) X dX2_leastRun_11 (by decide) ?_
    refine g_goto (pc := 12) 16 X dX2_leastRun_12 (by decide) ?_
    exact g_iret (pc := 16) X dX2_leastRun_16 hf
/-! X2_lengthThemselves -/
abbrev D_X2_lengthThemselves : Nat := 0
noncomputable def f_X2_lengthThemselves (x1 : Int32) (μ : jM) : Option (Int32 × jM) := if (μ.1 1 0) = (0 : Int32) then (some ((μ.1 1 1), μ)) else (if (μ.1 1 0) = (1 : Int32) then (some (((1 : Int32) + (x1 * (μ.1 1 1))), μ)) else (some ((((2 : Int32) + x1) + (x1 &&& (1 : Int32))), μ)))
set_option maxHeartbeats 4000000 in
theorem M_X2_lengthThemselves {l : Launch} {Δ : jD} {r : Int32} {μ μ9 : jM} {x1 : Int32}  (hsep : jSep Δ shC) (hf : f_X2_lengthThemselves x1 μ = some (r, μ9)) : jMet l yX2_lengthThemselves cX2_lengthThemselves 2 (some .int) D_X2_lengthThemselves Δ shC [jr Δ 6, .int x1] μ (some (.int r), μ9) := by
  refine jMet_of (own := RX2) (L := [some (jr Δ 6), some (.int x1)]) (by decide) rfl (Nat.le_of_ble_eq_true rfl) rfl hsep (fun Γ _ X => ?_)
  unfold f_X2_lengthThemselves at hf
  refine g_ald_n (pc := 0) (i := 0) X dX2_lengthThemselves_0 rfl rfl ?_
  refine g_getR (pc := 1) (k := 0) X dX2_lengthThemselves_1 cl_X2 rfl rfl (by decide) w_90 ?_
  refine g_getI (pc := 4) (k := 0) X dX2_lengthThemselves_4 cl_X4 rfl rfl (by decide) w_32 ?_
  by_cases h1 : (μ.1 1 0) = (0 : Int32)
  · replace hf := jt_i h1 hf
    refine g_lookup (pc := 7) (off := 25) 32 X dX2_lengthThemselves_7 (by decide) (by rw [h1]; first | done | rfl) (by decide) ?_
    refine g_ald_n (pc := 32) (i := 0) X dX2_lengthThemselves_32 rfl rfl ?_
    refine g_getR (pc := 33) (k := 0) X dX2_lengthThemselves_33 cl_X2 rfl rfl (by decide) w_90 ?_
    refine g_getI (pc := 36) (k := 1) X dX2_lengthThemselves_36 cl_X4 rfl rfl (by decide) w_39 ?_
    exact g_iret (pc := 39) X dX2_lengthThemselves_39 hf
  replace hf := jf_i h1 hf
  by_cases h2 : (μ.1 1 0) = (1 : Int32)
  · replace hf := jt_i h2 hf
    refine g_lookup (pc := 7) (off := 33) 40 X dX2_lengthThemselves_7 (by decide) (by rw [h2]; first | done | rfl) (by decide) ?_
    refine g_iconst (pc := 40) (v := (1 : Int32)) X dX2_lengthThemselves_40 (by decide) ?_
    refine g_ild_n (pc := 41) (i := 1) X dX2_lengthThemselves_41 rfl rfl ?_
    refine g_ald_n (pc := 42) (i := 0) X dX2_lengthThemselves_42 rfl rfl ?_
    refine g_getR (pc := 43) (k := 0) X dX2_lengthThemselves_43 cl_X2 rfl rfl (by decide) w_90 ?_
    refine g_getI (pc := 46) (k := 1) X dX2_lengthThemselves_46 cl_X4 rfl rfl (by decide) w_39 ?_
    refine g_imul (pc := 49) X dX2_lengthThemselves_49 ?_
    refine g_iadd (pc := 50) X dX2_lengthThemselves_50 ?_
    exact g_iret (pc := 51) X dX2_lengthThemselves_51 hf
  replace hf := jf_i h2 hf
  refine g_lookup (pc := 7) (off := 45) 52 X dX2_lengthThemselves_7 (by decide) (by show Op.lookupswitch.offset [(0, 25), (1, 33)] 45 _ = 45; rw [lv_osw (a := 0) h1 (by decide), lv_osw (a := 1) h2 (by decide)]; first | done | rfl) (by decide) ?_
  refine g_iconst (pc := 52) (v := (2 : Int32)) X dX2_lengthThemselves_52 (by decide) ?_
  refine g_ild_n (pc := 53) (i := 1) X dX2_lengthThemselves_53 rfl rfl ?_
  refine g_iadd (pc := 54) X dX2_lengthThemselves_54 ?_
  refine g_ild_n (pc := 55) (i := 1) X dX2_lengthThemselves_55 rfl rfl ?_
  refine g_iconst (pc := 56) (v := (1 : Int32)) X dX2_lengthThemselves_56 (by decide) ?_
  refine g_iand (pc := 57) X dX2_lengthThemselves_57 ?_
  refine g_iadd (pc := 58) X dX2_lengthThemselves_58 ?_
  exact g_iret (pc := 59) X dX2_lengthThemselves_59 hf
/-! X2_offer -/
abbrev D_X2_offer : Nat := 1
noncomputable def f_X2_offer (x1 : Int32) (x2 : Int32) (x3 : Int32) (x4 : Int32) (μ : jM) : Option (Unit × jM) := if (x1 + x3) ≤ (μ.1 6 8) then (jin (x1 + x3) 241 (jlet (x4 + (μ.1 11 ((x1 + x3)).toNatClampNeg)) (fun z2 : Int32 => jin x1 241 (if (μ.1 11 (x1).toNatClampNeg) ≤ z2 then (some ((), μ)) else (jcall (f_X2_choose x1 x2 x3 μ) (fun (r4 : Unit) (μ4 : jM) => jin x1 241 (jlet (jsI μ4 11 (x1).toNatClampNeg z2) (fun μ5 : jM => some ((), μ5))))))))) else (some ((), μ))
set_option maxHeartbeats 4000000 in
theorem M_X2_offer {l : Launch} {Δ : jD} {r : Unit} {μ μ9 : jM} {x1 : Int32} {x2 : Int32} {x3 : Int32} {x4 : Int32}  (hsep : jSep Δ shC) (hf : f_X2_offer x1 x2 x3 x4 μ = some (r, μ9)) : jMet l yX2_offer cX2_offer 6 none D_X2_offer Δ shC [jr Δ 6, .int x1, .int x2, .int x3, .int x4] μ (none, μ9) := by
  refine jMet_of (own := RX2) (L := [some (jr Δ 6), some (.int x1), some (.int x2), some (.int x3), some (.int x4), none]) (by decide) rfl (Nat.le_of_ble_eq_true rfl) rfl hsep (fun Γ _ X => ?_)
  unfold f_X2_offer at hf
  refine g_ild_n (pc := 0) (i := 1) X dX2_offer_0 rfl rfl ?_
  refine g_ild_n (pc := 1) (i := 3) X dX2_offer_1 rfl rfl ?_
  refine g_iadd (pc := 2) X dX2_offer_2 ?_
  refine g_ald_n (pc := 3) (i := 0) X dX2_offer_3 rfl rfl ?_
  refine g_getI (pc := 4) (k := 8) X dX2_offer_4 cl_X2 rfl rfl (by decide) w_99 ?_
  refine g_icmp_le (pc := 7) 11 X dX2_offer_7 (by decide) (fun h7 => ?_) (fun h7 => ?_)
  · replace hf := jt_i h7 hf
    refine g_ild (pc := 11) X dX2_offer_11 rfl ?_
    refine g_ald_n (pc := 13) (i := 0) X dX2_offer_13 rfl rfl ?_
    refine g_getR (pc := 14) (k := 4) X dX2_offer_14 cl_X2 rfl rfl (by decide) w_95 ?_
    refine g_ild_n (pc := 17) (i := 1) X dX2_offer_17 rfl rfl ?_
    refine g_ild_n (pc := 18) (i := 3) X dX2_offer_18 rfl rfl ?_
    refine g_iadd (pc := 19) X dX2_offer_19 ?_
    obtain ⟨hi1, hf⟩ := jin_i hf
    refine g_iald (pc := 20) X dX2_offer_20 rfl hi1 ?_
    refine g_iadd (pc := 21) X dX2_offer_21 ?_
    refine g_nmI (fun z2 ez2 => ?_)
    replace hf := jlet_i ez2 hf
    refine g_ist (pc := 22) (L1 := [some (jr Δ 6), some (.int x1), some (.int x2), some (.int x3), some (.int x4), some (.int z2)]) X dX2_offer_22 (Nat.le_of_ble_eq_true rfl) rfl rfl ?_
    refine g_ild (pc := 24) X dX2_offer_24 rfl ?_
    refine g_ald_n (pc := 26) (i := 0) X dX2_offer_26 rfl rfl ?_
    refine g_getR (pc := 27) (k := 4) X dX2_offer_27 cl_X2 rfl rfl (by decide) w_95 ?_
    refine g_ild_n (pc := 30) (i := 1) X dX2_offer_30 rfl rfl ?_
    obtain ⟨hi3, hf⟩ := jin_i hf
    refine g_iald (pc := 31) X dX2_offer_31 rfl hi3 ?_
    refine g_icmp_ge (pc := 32) 50 X dX2_offer_32 (by decide) (fun h6 => ?_) (fun h6 => ?_)
    · replace hf := jt_i h6 hf
      exact g_vret (pc := 50) X dX2_offer_50 hf
    · replace hf := jf_i h6 hf
      refine g_ald_n (pc := 35) (i := 0) X dX2_offer_35 rfl rfl ?_
      refine g_ild_n (pc := 36) (i := 1) X dX2_offer_36 rfl rfl ?_
      refine g_ild_n (pc := 37) (i := 2) X dX2_offer_37 rfl rfl ?_
      refine g_ild_n (pc := 38) (i := 3) X dX2_offer_38 rfl rfl ?_
      obtain ⟨r4, μ4, hc4, hf⟩ := jcall_i hf
      refine g_callVv (pc := 39) [.int x1, .int x2, .int x3] X dX2_offer_39 (M_X2_choose  (jOk_sep X) hc4) Y_X2_choose w_320 w_322 w_321 cl_X2 rfl rfl (by decide) rfl rfl (Nat.le_of_ble_eq_true rfl) rfl ?_
      refine g_ald_n (pc := 42) (i := 0) X dX2_offer_42 rfl rfl ?_
      refine g_getR (pc := 43) (k := 4) X dX2_offer_43 cl_X2 rfl rfl (by decide) w_95 ?_
      refine g_ild_n (pc := 46) (i := 1) X dX2_offer_46 rfl rfl ?_
      refine g_ild (pc := 47) X dX2_offer_47 rfl ?_
      obtain ⟨hi5, hf⟩ := jin_i hf
      refine g_iast (pc := 49) X dX2_offer_49 rfl hi5 ?_
      refine g_nmM (fun μ5 eμ5 => ?_)
      replace hf := jlet_i eμ5 hf
      exact g_vret (pc := 50) X dX2_offer_50 hf
  · replace hf := jf_i h7 hf
    exact g_vret (pc := 10) X dX2_offer_10 hf
/-! X2_chooseFewest -/
abbrev D_X2_chooseFewest : Nat := 2
noncomputable def f_X2_chooseFewest_59   : Nat → Int32 → Int32 → jM → Option (Unit × jM)
  | 0, _, _, _ => none
  | fu + 1, x1, x3, μ => jcall (f_X2_leastThemselves  μ) (fun (r1 : Int32) (μ1 : jM) => if x3 < r1 then (jcall (f_X2_runAt x1 μ1) (fun (r2 : Int32) (μ2 : jM) => jcall (f_X2_leastRun  μ2) (fun (r3 : Int32) (μ3 : jM) => if r2 < r3 then (some ((), μ3)) else (jcall (f_X2_lengthRun  μ3) (fun (r4 : Int32) (μ4 : jM) => jcall (f_X2_offer x1 (2 : Int32) r2 r4 μ4) (fun (r5 : Unit) (μ5 : jM) => some ((), μ5))))))) else (jcall (f_X2_lengthThemselves x3 μ1) (fun (r7 : Int32) (μ7 : jM) => jcall (f_X2_offer x1 (1 : Int32) x3 r7 μ7) (fun (r8 : Unit) (μ8 : jM) => jlet (x3 + (-1 : Int32)) (fun z9 : Int32 => f_X2_chooseFewest_59   fu x1 z9 μ8)))))
noncomputable def f_X2_chooseFewest_56   (x1 : Int32) (s0 : Int32) (μ : jM) : Option (Unit × jM) := f_X2_chooseFewest_59   jFU x1 s0 μ
noncomputable def f_X2_chooseFewest (x1 : Int32) (μ : jM) : Option (Unit × jM) := if x1 < (μ.1 6 9) then (jin x1 241 (jlet (jsI μ 11 (x1).toNatClampNeg (1000000 : Int32)) (fun μ11 : jM => jcall (f_X2_beginsWithMark x1 μ11) (fun (r12 : Int32) (μ12 : jM) => if r12 = (0 : Int32) then (jcall (f_X2_mostThemselves  μ12) (fun (r13 : Int32) (μ13 : jM) => f_X2_chooseFewest_56    x1 (if ((μ13.1 6 8) - x1) < r13 then ((μ13.1 6 8) - x1) else r13) μ13)) else (f_X2_chooseFewest_56    x1 (0 : Int32) μ12))))) else (jcall (f_X2_choose x1 (0 : Int32) (0 : Int32) μ) (fun (r15 : Unit) (μ15 : jM) => jin x1 241 (jlet (jsI μ15 11 (x1).toNatClampNeg (2 : Int32)) (fun μ16 : jM => some ((), μ16)))))
set_option maxHeartbeats 4000000 in
theorem t_X2_chooseFewest_59 {Γ : jC} {Δ : jD} {r : Unit} {μ9 : jM}    (X : jOk Γ Δ shC cX2_chooseFewest 4 RX2 none D_X2_chooseFewest)  : ∀ (fu : Nat) (x1 : Int32) (x3 : Int32) (μ : jM), f_X2_chooseFewest_59   fu x1 x3 μ = some (r, μ9) → jG Γ Δ shC (none, μ9) 59 [some (jr Δ 6), some (.int x1), none, some (.int x3)] [] μ := by
  intro fu
  induction fu with
  | zero =>
    intro x1 x3 μ hf
    cases hf
  | succ fu ih =>
    intro x1 x3 μ hf
    replace hf := (f_X2_chooseFewest_59.eq_2 _ _ _ _).symm.trans hf
    refine g_ild_n (pc := 59) (i := 3) X dX2_chooseFewest_59 rfl rfl ?_
    refine g_ald_n (pc := 60) (i := 0) X dX2_chooseFewest_60 rfl rfl ?_
    obtain ⟨r1, μ1, hc1, hf⟩ := jcall_i hf
    refine g_callVi (pc := 61) [] X dX2_chooseFewest_61 (M_X2_leastThemselves  (jOk_sep X) hc1) Y_X2_leastThemselves w_337 w_339 w_338 cl_X2 rfl rfl (by decide) rfl rfl (Nat.le_of_ble_eq_true rfl) rfl ?_
    refine g_icmp_lt (pc := 64) 85 X dX2_chooseFewest_64 (by decide) (fun h10 => ?_) (fun h10 => ?_)
    · replace hf := jt_i h10 hf
      refine g_ald_n (pc := 85) (i := 0) X dX2_chooseFewest_85 rfl rfl ?_
      refine g_ild_n (pc := 86) (i := 1) X dX2_chooseFewest_86 rfl rfl ?_
      obtain ⟨r2, μ2, hc2, hf⟩ := jcall_i hf
      refine g_callVi (pc := 87) [.int x1] X dX2_chooseFewest_87 (M_X2_runAt  (jOk_sep X) hc2) Y_X2_runAt w_349 w_351 w_350 cl_X2 rfl rfl (by decide) rfl rfl (Nat.le_of_ble_eq_true rfl) rfl ?_
      refine g_ist_n (pc := 90) (i := 3) (L1 := [some (jr Δ 6), some (.int x1), none, some (.int r2)]) X dX2_chooseFewest_90 rfl (Nat.le_of_ble_eq_true rfl) rfl rfl ?_
      refine g_ild_n (pc := 91) (i := 3) X dX2_chooseFewest_91 rfl rfl ?_
      refine g_ald_n (pc := 92) (i := 0) X dX2_chooseFewest_92 rfl rfl ?_
      obtain ⟨r3, μ3, hc3, hf⟩ := jcall_i hf
      refine g_callVi (pc := 93) [] X dX2_chooseFewest_93 (M_X2_leastRun  (jOk_sep X) hc3) Y_X2_leastRun w_353 w_355 w_354 cl_X2 rfl rfl (by decide) rfl rfl (Nat.le_of_ble_eq_true rfl) rfl ?_
      refine g_icmp_lt (pc := 96) 110 X dX2_chooseFewest_96 (by decide) (fun h6 => ?_) (fun h6 => ?_)
      · replace hf := jt_i h6 hf
        exact g_vret (pc := 110) X dX2_chooseFewest_110 hf
      · replace hf := jf_i h6 hf
        refine g_ald_n (pc := 99) (i := 0) X dX2_chooseFewest_99 rfl rfl ?_
        refine g_ild_n (pc := 100) (i := 1) X dX2_chooseFewest_100 rfl rfl ?_
        refine g_iconst (pc := 101) (v := (2 : Int32)) X dX2_chooseFewest_101 (by decide) ?_
        refine g_ild_n (pc := 102) (i := 3) X dX2_chooseFewest_102 rfl rfl ?_
        refine g_ald_n (pc := 103) (i := 0) X dX2_chooseFewest_103 rfl rfl ?_
        obtain ⟨r4, μ4, hc4, hf⟩ := jcall_i hf
        refine g_callVi (pc := 104) [] X dX2_chooseFewest_104 (M_X2_lengthRun  (jOk_sep X) hc4) Y_X2_lengthRun w_357 w_359 w_358 cl_X2 rfl rfl (by decide) rfl rfl (Nat.le_of_ble_eq_true rfl) rfl ?_
        obtain ⟨r5, μ5, hc5, hf⟩ := jcall_i hf
        refine g_callVv (pc := 107) [.int x1, .int (2 : Int32), .int r2, .int r4] X dX2_chooseFewest_107 (M_X2_offer  (jOk_sep X) hc5) Y_X2_offer w_345 w_347 w_346 cl_X2 rfl rfl (by decide) rfl rfl (Nat.le_of_ble_eq_true rfl) rfl ?_
        exact g_vret (pc := 110) X dX2_chooseFewest_110 hf
    · replace hf := jf_i h10 hf
      refine g_ald_n (pc := 67) (i := 0) X dX2_chooseFewest_67 rfl rfl ?_
      refine g_ild_n (pc := 68) (i := 1) X dX2_chooseFewest_68 rfl rfl ?_
      refine g_iconst (pc := 69) (v := (1 : Int32)) X dX2_chooseFewest_69 (by decide) ?_
      refine g_ild_n (pc := 70) (i := 3) X dX2_chooseFewest_70 rfl rfl ?_
      refine g_ald_n (pc := 71) (i := 0) X dX2_chooseFewest_71 rfl rfl ?_
      refine g_ild_n (pc := 72) (i := 3) X dX2_chooseFewest_72 rfl rfl ?_
      obtain ⟨r7, μ7, hc7, hf⟩ := jcall_i hf
      refine g_callVi (pc := 73) [.int x3] X dX2_chooseFewest_73 (M_X2_lengthThemselves  (jOk_sep X) hc7) Y_X2_lengthThemselves w_341 w_343 w_342 cl_X2 rfl rfl (by decide) rfl rfl (Nat.le_of_ble_eq_true rfl) rfl ?_
      obtain ⟨r8, μ8, hc8, hf⟩ := jcall_i hf
      refine g_callVv (pc := 76) [.int x1, .int (1 : Int32), .int x3, .int r7] X dX2_chooseFewest_76 (M_X2_offer  (jOk_sep X) hc8) Y_X2_offer w_345 w_347 w_346 cl_X2 rfl rfl (by decide) rfl rfl (Nat.le_of_ble_eq_true rfl) rfl ?_
      obtain ⟨z9, ez9⟩ : ∃ z : Int32, z = x3 + (-1 : Int32) := ⟨_, rfl⟩
      replace hf := jlet_i ez9 hf
      refine g_iinc (pc := 79) (L1 := [some (jr Δ 6), some (.int x1), none, some (.int z9)]) X dX2_chooseFewest_79 rfl (by rw [ez9]; rfl) rfl rfl ?_
      refine g_goto (pc := 82) 59 X dX2_chooseFewest_82 (by decide) ?_
      exact g_weak (ih _ _ _ hf) (⟨rfl, ⟨rfl, ⟨rfl, trivial⟩⟩⟩)
set_option maxHeartbeats 4000000 in
theorem t_X2_chooseFewest_56 {Γ : jC} {Δ : jD} {r : Unit} {μ9 : jM}    (X : jOk Γ Δ shC cX2_chooseFewest 4 RX2 none D_X2_chooseFewest)  : ∀ (x1 : Int32) (s0 : Int32) (μ : jM), f_X2_chooseFewest_56   x1 s0 μ = some (r, μ9) → jG Γ Δ shC (none, μ9) 56 [some (jr Δ 6), some (.int x1), none, none] [.int s0] μ := by
  intro x1 s0 μ hf
  unfold f_X2_chooseFewest_56 at hf
  refine g_ist_n (pc := 56) (i := 2) (L1 := [some (jr Δ 6), some (.int x1), some (.int s0), none]) X dX2_chooseFewest_56 rfl (Nat.le_of_ble_eq_true rfl) rfl rfl ?_
  refine g_ild_n (pc := 57) (i := 2) X dX2_chooseFewest_57 rfl rfl ?_
  refine g_ist_n (pc := 58) (i := 3) (L1 := [some (jr Δ 6), some (.int x1), some (.int s0), some (.int s0)]) X dX2_chooseFewest_58 rfl (Nat.le_of_ble_eq_true rfl) rfl rfl ?_
  exact g_weak (t_X2_chooseFewest_59  X  jFU _ _ _ hf) (⟨rfl, ⟨rfl, ⟨rfl, trivial⟩⟩⟩)
set_option maxHeartbeats 4000000 in
theorem M_X2_chooseFewest {l : Launch} {Δ : jD} {r : Unit} {μ μ9 : jM} {x1 : Int32}  (hsep : jSep Δ shC) (hf : f_X2_chooseFewest x1 μ = some (r, μ9)) : jMet l yX2_chooseFewest cX2_chooseFewest 4 none D_X2_chooseFewest Δ shC [jr Δ 6, .int x1] μ (none, μ9) := by
  refine jMet_of (own := RX2) (L := [some (jr Δ 6), some (.int x1), none, none]) (by decide) rfl (Nat.le_of_ble_eq_true rfl) rfl hsep (fun Γ _ X => ?_)
  unfold f_X2_chooseFewest at hf
  refine g_ild_n (pc := 0) (i := 1) X dX2_chooseFewest_0 rfl rfl ?_
  refine g_ald_n (pc := 1) (i := 0) X dX2_chooseFewest_1 rfl rfl ?_
  refine g_getI (pc := 2) (k := 9) X dX2_chooseFewest_2 cl_X2 rfl rfl (by decide) w_100 ?_
  refine g_icmp_lt (pc := 5) 23 X dX2_chooseFewest_5 (by decide) (fun h17 => ?_) (fun h17 => ?_)
  · replace hf := jt_i h17 hf
    refine g_ald_n (pc := 23) (i := 0) X dX2_chooseFewest_23 rfl rfl ?_
    refine g_getR (pc := 24) (k := 4) X dX2_chooseFewest_24 cl_X2 rfl rfl (by decide) w_95 ?_
    refine g_ild_n (pc := 27) (i := 1) X dX2_chooseFewest_27 rfl rfl ?_
    refine g_ldc (pc := 28) X dX2_chooseFewest_28 w_324 ?_
    obtain ⟨hi11, hf⟩ := jin_i hf
    refine g_iast (pc := 30) X dX2_chooseFewest_30 rfl hi11 ?_
    refine g_nmM (fun μ11 eμ11 => ?_)
    replace hf := jlet_i eμ11 hf
    refine g_ald_n (pc := 31) (i := 0) X dX2_chooseFewest_31 rfl rfl ?_
    refine g_ild_n (pc := 32) (i := 1) X dX2_chooseFewest_32 rfl rfl ?_
    obtain ⟨r12, μ12, hc12, hf⟩ := jcall_i hf
    refine g_callVi (pc := 33) [.int x1] X dX2_chooseFewest_33 (M_X2_beginsWithMark  (jOk_sep X) hc12) Y_X2_beginsWithMark w_325 w_327 w_326 cl_X2 rfl rfl (by decide) rfl rfl (Nat.le_of_ble_eq_true rfl) rfl ?_
    refine g_if_eq (pc := 36) 43 X dX2_chooseFewest_36 (by decide) (fun h14 => ?_) (fun h14 => ?_)
    · replace hf := jt_i h14 hf
      refine g_ald_n (pc := 43) (i := 0) X dX2_chooseFewest_43 rfl rfl ?_
      obtain ⟨r13, μ13, hc13, hf⟩ := jcall_i hf
      refine g_callVi (pc := 44) [] X dX2_chooseFewest_44 (M_X2_mostThemselves  (jOk_sep X) hc13) Y_X2_mostThemselves w_333 w_335 w_334 cl_X2 rfl rfl (by decide) rfl rfl (Nat.le_of_ble_eq_true rfl) rfl ?_
      refine g_ald_n (pc := 47) (i := 0) X dX2_chooseFewest_47 rfl rfl ?_
      refine g_getI (pc := 48) (k := 8) X dX2_chooseFewest_48 cl_X2 rfl rfl (by decide) w_99 ?_
      refine g_ild_n (pc := 51) (i := 1) X dX2_chooseFewest_51 rfl rfl ?_
      refine g_isub (pc := 52) X dX2_chooseFewest_52 ?_
      refine g_min (pc := 53) X dX2_chooseFewest_53 w_301 w_302 w_8 w_303 (by decide) rfl (Nat.le_of_ble_eq_true rfl) ?_
      exact g_weak (t_X2_chooseFewest_56  X   _ _ _ hf) (⟨rfl, ⟨rfl, trivial⟩⟩)
    · replace hf := jf_i h14 hf
      refine g_iconst (pc := 39) (v := (0 : Int32)) X dX2_chooseFewest_39 (by decide) ?_
      refine g_goto (pc := 40) 56 X dX2_chooseFewest_40 (by decide) ?_
      exact g_weak (t_X2_chooseFewest_56  X   _ _ _ hf) (⟨rfl, ⟨rfl, trivial⟩⟩)
  · replace hf := jf_i h17 hf
    refine g_ald_n (pc := 8) (i := 0) X dX2_chooseFewest_8 rfl rfl ?_
    refine g_ild_n (pc := 9) (i := 1) X dX2_chooseFewest_9 rfl rfl ?_
    refine g_iconst (pc := 10) (v := (0 : Int32)) X dX2_chooseFewest_10 (by decide) ?_
    refine g_iconst (pc := 11) (v := (0 : Int32)) X dX2_chooseFewest_11 (by decide) ?_
    obtain ⟨r15, μ15, hc15, hf⟩ := jcall_i hf
    refine g_callVv (pc := 12) [.int x1, .int (0 : Int32), .int (0 : Int32)] X dX2_chooseFewest_12 (M_X2_choose  (jOk_sep X) hc15) Y_X2_choose w_320 w_322 w_321 cl_X2 rfl rfl (by decide) rfl rfl (Nat.le_of_ble_eq_true rfl) rfl ?_
    refine g_ald_n (pc := 15) (i := 0) X dX2_chooseFewest_15 rfl rfl ?_
    refine g_getR (pc := 16) (k := 4) X dX2_chooseFewest_16 cl_X2 rfl rfl (by decide) w_95 ?_
    refine g_ild_n (pc := 19) (i := 1) X dX2_chooseFewest_19 rfl rfl ?_
    refine g_iconst (pc := 20) (v := (2 : Int32)) X dX2_chooseFewest_20 (by decide) ?_
    obtain ⟨hi16, hf⟩ := jin_i hf
    refine g_iast (pc := 21) X dX2_chooseFewest_21 rfl hi16 ?_
    refine g_nmM (fun μ16 eμ16 => ?_)
    replace hf := jlet_i eμ16 hf
    exact g_vret (pc := 22) X dX2_chooseFewest_22 hf
/-! X2_planFewest -/
abbrev D_X2_planFewest : Nat := 3
noncomputable def f_X2_planFewest_32   : Nat → Int32 → Int32 → jM → Option (Unit × jM)
  | 0, _, _, _ => none
  | fu + 1, x1, x2, μ => if x2 < x1 then (some ((), μ)) else (jcall (f_X2_chooseFewest x2 μ) (fun (r1 : Unit) (μ1 : jM) => jlet (x2 + (-1 : Int32)) (fun z2 : Int32 => f_X2_planFewest_32   fu x1 z2 μ1)))
noncomputable def f_X2_planFewest_24   (x1 : Int32) (s0 : Int32) (s1 : Int32) (μ : jM) : Option (Unit × jM) := jin s1 241 (jlet (jsI μ 11 (s1).toNatClampNeg s0) (fun μ4 : jM => jlet ((μ4.1 6 8) - (1 : Int32)) (fun z5 : Int32 => f_X2_planFewest_32   jFU x1 z5 μ4)))
noncomputable def f_X2_planFewest (x1 : Int32) (μ : jM) : Option (Unit × jM) := if (μ.1 1 0) = (2 : Int32) then (f_X2_planFewest_24    x1 (2 : Int32) (μ.1 6 8) μ) else (f_X2_planFewest_24    x1 (0 : Int32) (μ.1 6 8) μ)
set_option maxHeartbeats 4000000 in
theorem t_X2_planFewest_32 {Γ : jC} {Δ : jD} {r : Unit} {μ9 : jM}    (X : jOk Γ Δ shC cX2_planFewest 3 RX2 none D_X2_planFewest)  : ∀ (fu : Nat) (x1 : Int32) (x2 : Int32) (μ : jM), f_X2_planFewest_32   fu x1 x2 μ = some (r, μ9) → jG Γ Δ shC (none, μ9) 32 [some (jr Δ 6), some (.int x1), some (.int x2)] [] μ := by
  intro fu
  induction fu with
  | zero =>
    intro x1 x2 μ hf
    cases hf
  | succ fu ih =>
    intro x1 x2 μ hf
    replace hf := (f_X2_planFewest_32.eq_2 _ _ _ _).symm.trans hf
    refine g_ild_n (pc := 32) (i := 2) X dX2_planFewest_32 rfl rfl ?_
    refine g_ild_n (pc := 33) (i := 1) X dX2_planFewest_33 rfl rfl ?_
    refine g_icmp_lt (pc := 34) 48 X dX2_planFewest_34 (by decide) (fun h3 => ?_) (fun h3 => ?_)
    · replace hf := jt_i h3 hf
      exact g_vret (pc := 48) X dX2_planFewest_48 hf
    · replace hf := jf_i h3 hf
      refine g_ald_n (pc := 37) (i := 0) X dX2_planFewest_37 rfl rfl ?_
      refine g_ild_n (pc := 38) (i := 2) X dX2_planFewest_38 rfl rfl ?_
      obtain ⟨r1, μ1, hc1, hf⟩ := jcall_i hf
      refine g_callVv (pc := 39) [.int x2] X dX2_planFewest_39 (M_X2_chooseFewest  (jOk_sep X) hc1) Y_X2_chooseFewest w_316 w_318 w_317 cl_X2 rfl rfl (by decide) rfl rfl (Nat.le_of_ble_eq_true rfl) rfl ?_
      obtain ⟨z2, ez2⟩ : ∃ z : Int32, z = x2 + (-1 : Int32) := ⟨_, rfl⟩
      replace hf := jlet_i ez2 hf
      refine g_iinc (pc := 42) (L1 := [some (jr Δ 6), some (.int x1), some (.int z2)]) X dX2_planFewest_42 rfl (by rw [ez2]; rfl) rfl rfl ?_
      refine g_goto (pc := 45) 32 X dX2_planFewest_45 (by decide) ?_
      exact g_weak (ih _ _ _ hf) (⟨rfl, ⟨rfl, ⟨rfl, trivial⟩⟩⟩)
set_option maxHeartbeats 4000000 in
theorem t_X2_planFewest_24 {Γ : jC} {Δ : jD} {r : Unit} {μ9 : jM}    (X : jOk Γ Δ shC cX2_planFewest 3 RX2 none D_X2_planFewest)  : ∀ (x1 : Int32) (s0 : Int32) (s1 : Int32) (μ : jM), f_X2_planFewest_24   x1 s0 s1 μ = some (r, μ9) → jG Γ Δ shC (none, μ9) 24 [some (jr Δ 6), some (.int x1), none] [.int s0, .int s1, jr Δ 11] μ := by
  intro x1 s0 s1 μ hf
  unfold f_X2_planFewest_24 at hf
  obtain ⟨hi4, hf⟩ := jin_i hf
  refine g_iast (pc := 24) X dX2_planFewest_24 rfl hi4 ?_
  refine g_nmM (fun μ4 eμ4 => ?_)
  replace hf := jlet_i eμ4 hf
  refine g_ald_n (pc := 25) (i := 0) X dX2_planFewest_25 rfl rfl ?_
  refine g_getI (pc := 26) (k := 8) X dX2_planFewest_26 cl_X2 rfl rfl (by decide) w_99 ?_
  refine g_iconst (pc := 29) (v := (1 : Int32)) X dX2_planFewest_29 (by decide) ?_
  refine g_isub (pc := 30) X dX2_planFewest_30 ?_
  refine g_nmI (fun z5 ez5 => ?_)
  replace hf := jlet_i ez5 hf
  refine g_ist_n (pc := 31) (i := 2) (L1 := [some (jr Δ 6), some (.int x1), some (.int z5)]) X dX2_planFewest_31 rfl (Nat.le_of_ble_eq_true rfl) rfl rfl ?_
  exact g_weak (t_X2_planFewest_32  X  jFU _ _ _ hf) (⟨rfl, ⟨rfl, ⟨rfl, trivial⟩⟩⟩)
set_option maxHeartbeats 4000000 in
theorem M_X2_planFewest {l : Launch} {Δ : jD} {r : Unit} {μ μ9 : jM} {x1 : Int32}  (hsep : jSep Δ shC) (hf : f_X2_planFewest x1 μ = some (r, μ9)) : jMet l yX2_planFewest cX2_planFewest 3 none D_X2_planFewest Δ shC [jr Δ 6, .int x1] μ (none, μ9) := by
  refine jMet_of (own := RX2) (L := [some (jr Δ 6), some (.int x1), none]) (by decide) rfl (Nat.le_of_ble_eq_true rfl) rfl hsep (fun Γ _ X => ?_)
  unfold f_X2_planFewest at hf
  refine g_ald_n (pc := 0) (i := 0) X dX2_planFewest_0 rfl rfl ?_
  refine g_getR (pc := 1) (k := 4) X dX2_planFewest_1 cl_X2 rfl rfl (by decide) w_95 ?_
  refine g_ald_n (pc := 4) (i := 0) X dX2_planFewest_4 rfl rfl ?_
  refine g_getI (pc := 5) (k := 8) X dX2_planFewest_5 cl_X2 rfl rfl (by decide) w_99 ?_
  refine g_ald_n (pc := 8) (i := 0) X dX2_planFewest_8 rfl rfl ?_
  refine g_getR (pc := 9) (k := 0) X dX2_planFewest_9 cl_X2 rfl rfl (by decide) w_90 ?_
  refine g_getI (pc := 12) (k := 0) X dX2_planFewest_12 cl_X4 rfl rfl (by decide) w_32 ?_
  refine g_iconst (pc := 15) (v := (2 : Int32)) X dX2_planFewest_15 (by decide) ?_
  refine g_icmp_ne (pc := 16) 23 X dX2_planFewest_16 (by decide) (fun h6 => ?_) (fun h6 => ?_)
  · replace hf := jf_i h6 hf
    refine g_iconst (pc := 23) (v := (0 : Int32)) X dX2_planFewest_23 (by decide) ?_
    exact g_weak (t_X2_planFewest_24  X   _ _ _ _ hf) (⟨rfl, ⟨rfl, trivial⟩⟩)
  · replace hf := jt_i h6 hf
    refine g_iconst (pc := 19) (v := (2 : Int32)) X dX2_planFewest_19 (by decide) ?_
    refine g_goto (pc := 20) 24 X dX2_planFewest_20 (by decide) ?_
    exact g_weak (t_X2_planFewest_24  X   _ _ _ _ hf) (⟨rfl, ⟨rfl, trivial⟩⟩)
/-! X2_addStretch -/
abbrev D_X2_addStretch : Nat := 5
noncomputable def f_X2_addStretch_20   (x1 : Int32) (x3 : Int32) (μ : jM) : Option (Unit × jM) := jcall (f_X2_addPieces x1 x3 μ) (fun (r1 : Unit) (μ1 : jM) => if (μ1.1 1 0) = (2 : Int32) then (jcall (f_X0_add 7 1000 (0 : Int32) μ1) (fun (r2 : Unit) (μ2 : jM) => jcall (f_X0_add 7 1000 (0 : Int32) μ2) (fun (r3 : Unit) (μ3 : jM) => some ((), μ3)))) else (some ((), μ1)))
noncomputable def f_X2_addStretch (x1 : Int32) (x2 : Int32) (x3 : Int32) (μ : jM) : Option (Unit × jM) := jlet (jsI μ 6 8 x2) (fun μ5 : jM => jcall (f_X2_measure x1 μ5) (fun (r6 : Unit) (μ6 : jM) => if x3 = (1 : Int32) then (jcall (f_X2_planFewest x1 μ6) (fun (r7 : Unit) (μ7 : jM) => f_X2_addStretch_20    x1 x3 μ7)) else (f_X2_addStretch_20    x1 x3 μ6)))
set_option maxHeartbeats 4000000 in
theorem t_X2_addStretch_20 {Γ : jC} {Δ : jD} {r : Unit} {μ9 : jM}    (X : jOk Γ Δ shC cX2_addStretch 4 RX2 none D_X2_addStretch)  : ∀ (x1 : Int32) (x3 : Int32) (μ : jM), f_X2_addStretch_20   x1 x3 μ = some (r, μ9) → jG Γ Δ shC (none, μ9) 20 [some (jr Δ 6), some (.int x1), none, some (.int x3)] [] μ := by
  intro x1 x3 μ hf
  unfold f_X2_addStretch_20 at hf
  refine g_ald_n (pc := 20) (i := 0) X dX2_addStretch_20 rfl rfl ?_
  refine g_ild_n (pc := 21) (i := 1) X dX2_addStretch_21 rfl rfl ?_
  refine g_ild_n (pc := 22) (i := 3) X dX2_addStretch_22 rfl rfl ?_
  obtain ⟨r1, μ1, hc1, hf⟩ := jcall_i hf
  refine g_callVv (pc := 23) [.int x1, .int x3] X dX2_addStretch_23 (M_X2_addPieces  (jOk_sep X) hc1) Y_X2_addPieces w_361 w_363 w_362 cl_X2 rfl rfl (by decide) rfl rfl (Nat.le_of_ble_eq_true rfl) rfl ?_
  refine g_ald_n (pc := 26) (i := 0) X dX2_addStretch_26 rfl rfl ?_
  refine g_getR (pc := 27) (k := 0) X dX2_addStretch_27 cl_X2 rfl rfl (by decide) w_90 ?_
  refine g_getI (pc := 30) (k := 0) X dX2_addStretch_30 cl_X4 rfl rfl (by decide) w_32 ?_
  refine g_iconst (pc := 33) (v := (2 : Int32)) X dX2_addStretch_33 (by decide) ?_
  refine g_icmp_ne (pc := 34) 53 X dX2_addStretch_34 (by decide) (fun h4 => ?_) (fun h4 => ?_)
  · replace hf := jf_i h4 hf
    exact g_vret (pc := 53) X dX2_addStretch_53 hf
  · replace hf := jt_i h4 hf
    refine g_ald_n (pc := 37) (i := 0) X dX2_addStretch_37 rfl rfl ?_
    refine g_getR (pc := 38) (k := 1) X dX2_addStretch_38 cl_X2 rfl rfl (by decide) w_91 ?_
    refine g_iconst (pc := 41) (v := (0 : Int32)) X dX2_addStretch_41 (by decide) ?_
    obtain ⟨r2, μ2, hc2, hf⟩ := jcall_i hf
    refine g_callVv (pc := 42) [.int (0 : Int32)] X dX2_addStretch_42 (M_X0_add ⟨rfl, rfl⟩ (jOk_sep X) hc2) Y_X0_add w_385 w_232 w_231 cl_X0 rfl rfl (by decide) rfl rfl (Nat.le_of_ble_eq_true rfl) rfl ?_
    refine g_ald_n (pc := 45) (i := 0) X dX2_addStretch_45 rfl rfl ?_
    refine g_getR (pc := 46) (k := 1) X dX2_addStretch_46 cl_X2 rfl rfl (by decide) w_91 ?_
    refine g_iconst (pc := 49) (v := (0 : Int32)) X dX2_addStretch_49 (by decide) ?_
    obtain ⟨r3, μ3, hc3, hf⟩ := jcall_i hf
    refine g_callVv (pc := 50) [.int (0 : Int32)] X dX2_addStretch_50 (M_X0_add ⟨rfl, rfl⟩ (jOk_sep X) hc3) Y_X0_add w_385 w_232 w_231 cl_X0 rfl rfl (by decide) rfl rfl (Nat.le_of_ble_eq_true rfl) rfl ?_
    exact g_vret (pc := 53) X dX2_addStretch_53 hf
set_option maxHeartbeats 4000000 in
theorem M_X2_addStretch {l : Launch} {Δ : jD} {r : Unit} {μ μ9 : jM} {x1 : Int32} {x2 : Int32} {x3 : Int32}  (hsep : jSep Δ shC) (hf : f_X2_addStretch x1 x2 x3 μ = some (r, μ9)) : jMet l yX2_addStretch cX2_addStretch 4 none D_X2_addStretch Δ shC [jr Δ 6, .int x1, .int x2, .int x3] μ (none, μ9) := by
  refine jMet_of (own := RX2) (L := [some (jr Δ 6), some (.int x1), some (.int x2), some (.int x3)]) (by decide) rfl (Nat.le_of_ble_eq_true rfl) rfl hsep (fun Γ _ X => ?_)
  unfold f_X2_addStretch at hf
  refine g_ald_n (pc := 0) (i := 0) X dX2_addStretch_0 rfl rfl ?_
  refine g_ild_n (pc := 1) (i := 2) X dX2_addStretch_1 rfl rfl ?_
  refine g_putI (pc := 2) (k := 8) X dX2_addStretch_2 cl_X2 rfl rfl (by decide) w_99 rfl rfl rfl ?_
  refine g_nmM (fun μ5 eμ5 => ?_)
  replace hf := jlet_i eμ5 hf
  refine g_ald_n (pc := 5) (i := 0) X dX2_addStretch_5 rfl rfl ?_
  refine g_ild_n (pc := 6) (i := 1) X dX2_addStretch_6 rfl rfl ?_
  obtain ⟨r6, μ6, hc6, hf⟩ := jcall_i hf
  refine g_callVv (pc := 7) [.int x1] X dX2_addStretch_7 (M_X2_measure  (jOk_sep X) hc6) Y_X2_measure w_308 w_310 w_309 cl_X2 rfl rfl (by decide) rfl rfl (Nat.le_of_ble_eq_true rfl) rfl ?_
  refine g_ild_n (pc := 10) (i := 3) X dX2_addStretch_10 rfl rfl ?_
  refine g_iconst (pc := 11) (v := (1 : Int32)) X dX2_addStretch_11 (by decide) ?_
  refine g_icmp_ne (pc := 12) 20 X dX2_addStretch_12 (by decide) (fun h8 => ?_) (fun h8 => ?_)
  · replace hf := jf_i h8 hf
    exact g_weak (t_X2_addStretch_20  X   _ _ _ hf) (⟨rfl, ⟨rfl, ⟨rfl, trivial⟩⟩⟩)
  · replace hf := jt_i h8 hf
    refine g_ald_n (pc := 15) (i := 0) X dX2_addStretch_15 rfl rfl ?_
    refine g_ild_n (pc := 16) (i := 1) X dX2_addStretch_16 rfl rfl ?_
    obtain ⟨r7, μ7, hc7, hf⟩ := jcall_i hf
    refine g_callVv (pc := 17) [.int x1] X dX2_addStretch_17 (M_X2_planFewest  (jOk_sep X) hc7) Y_X2_planFewest w_312 w_314 w_313 cl_X2 rfl rfl (by decide) rfl rfl (Nat.le_of_ble_eq_true rfl) rfl ?_
    exact g_weak (t_X2_addStretch_20  X   _ _ _ hf) (⟨rfl, ⟨rfl, ⟨rfl, trivial⟩⟩⟩)
/-! X2_readUnits -/
abbrev D_X2_readUnits : Nat := 2
noncomputable def f_X2_readUnits_70  (k19 : Int32 → Int32 → jM → Option (Unit × jM)) (x3 : Int32) (x4 : Int32) (s0 : Int32) (s1 : Int32) (μ : jM) : Option (Unit × jM) := jin s1 240 (jlet (jsI μ 9 (s1).toNatClampNeg s0) (fun μ1 : jM => jlet (x3 + (1 : Int32)) (fun z2 : Int32 => k19 x4 z2 μ1)))
noncomputable def f_X2_readUnits_19   : Nat → Int32 → Int32 → jM → Option (Unit × jM)
  | 0, _, _, _ => none
  | fu + 1, x2, x3, μ => if (μ.1 6 7) ≤ x3 then (some ((), μ)) else (jcall (f_X4_numberAt 2 240 x3 μ) (fun (r3 : Int32) (μ3 : jM) => if (μ3.1 1 4) = (1 : Int32) then (jcall (f_X4_modulo (r3 - x2) μ3) (fun (r4 : Int32) (μ4 : jM) => f_X2_readUnits_70  (fun x2 x3 μ => f_X2_readUnits_19   fu x2 x3 μ)  x3 r3 r4 x3 μ4)) else (f_X2_readUnits_70  (fun x2 x3 μ => f_X2_readUnits_19   fu x2 x3 μ)  x3 r3 r3 x3 μ3)))
noncomputable def f_X2_readUnits  (μ : jM) : Option (Unit × jM) := jcall (f_X4_unitsIn (μ.1 2 1) μ) (fun (r7 : Int32) (μ7 : jM) => jlet (jsI μ7 6 7 r7) (fun μ8 : jM => f_X2_readUnits_19   jFU (0 : Int32) (0 : Int32) μ8))
set_option maxHeartbeats 4000000 in
theorem t_X2_readUnits_70 {Γ : jC} {Δ : jD} {r : Unit} {μ9 : jM}  {k19 : Int32 → Int32 → jM → Option (Unit × jM)}  (X : jOk Γ Δ shC cX2_readUnits 5 RX2 none D_X2_readUnits) (hk19 : ∀ (x2 : Int32) (x3 : Int32) (μ : jM), k19 x2 x3 μ = some (r, μ9) → jG Γ Δ shC (none, μ9) 19 [some (jr Δ 6), some (jr Δ 2), some (.int x2), some (.int x3), none] [] μ) : ∀ (x3 : Int32) (x4 : Int32) (s0 : Int32) (s1 : Int32) (μ : jM), f_X2_readUnits_70  k19 x3 x4 s0 s1 μ = some (r, μ9) → jG Γ Δ shC (none, μ9) 70 [some (jr Δ 6), some (jr Δ 2), none, some (.int x3), some (.int x4)] [.int s0, .int s1, jr Δ 9] μ := by
  intro x3 x4 s0 s1 μ hf
  unfold f_X2_readUnits_70 at hf
  obtain ⟨hi1, hf⟩ := jin_i hf
  refine g_iast (pc := 70) X dX2_readUnits_70 rfl hi1 ?_
  refine g_nmM (fun μ1 eμ1 => ?_)
  replace hf := jlet_i eμ1 hf
  refine g_ild (pc := 71) X dX2_readUnits_71 rfl ?_
  refine g_ist_n (pc := 73) (i := 2) (L1 := [some (jr Δ 6), some (jr Δ 2), some (.int x4), some (.int x3), some (.int x4)]) X dX2_readUnits_73 rfl (Nat.le_of_ble_eq_true rfl) rfl rfl ?_
  obtain ⟨z2, ez2⟩ : ∃ z : Int32, z = x3 + (1 : Int32) := ⟨_, rfl⟩
  replace hf := jlet_i ez2 hf
  refine g_iinc (pc := 74) (L1 := [some (jr Δ 6), some (jr Δ 2), some (.int x4), some (.int z2), some (.int x4)]) X dX2_readUnits_74 rfl (by rw [ez2]; rfl) rfl rfl ?_
  refine g_goto (pc := 77) 19 X dX2_readUnits_77 (by decide) ?_
  exact g_weak (hk19 _ _ _ hf) (⟨rfl, ⟨rfl, ⟨rfl, ⟨rfl, trivial⟩⟩⟩⟩)
set_option maxHeartbeats 4000000 in
theorem t_X2_readUnits_19 {Γ : jC} {Δ : jD} {r : Unit} {μ9 : jM}    (X : jOk Γ Δ shC cX2_readUnits 5 RX2 none D_X2_readUnits)  : ∀ (fu : Nat) (x2 : Int32) (x3 : Int32) (μ : jM), f_X2_readUnits_19   fu x2 x3 μ = some (r, μ9) → jG Γ Δ shC (none, μ9) 19 [some (jr Δ 6), some (jr Δ 2), some (.int x2), some (.int x3), none] [] μ := by
  intro fu
  induction fu with
  | zero =>
    intro x2 x3 μ hf
    cases hf
  | succ fu ih =>
    intro x2 x3 μ hf
    replace hf := (f_X2_readUnits_19.eq_2 _ _ _ _).symm.trans hf
    refine g_ild_n (pc := 19) (i := 3) X dX2_readUnits_19 rfl rfl ?_
    refine g_ald_n (pc := 20) (i := 0) X dX2_readUnits_20 rfl rfl ?_
    refine g_getI (pc := 21) (k := 7) X dX2_readUnits_21 cl_X2 rfl rfl (by decide) w_98 ?_
    refine g_icmp_ge (pc := 24) 80 X dX2_readUnits_24 (by decide) (fun h6 => ?_) (fun h6 => ?_)
    · replace hf := jt_i h6 hf
      exact g_vret (pc := 80) X dX2_readUnits_80 hf
    · replace hf := jf_i h6 hf
      refine g_ald_n (pc := 27) (i := 0) X dX2_readUnits_27 rfl rfl ?_
      refine g_getR (pc := 28) (k := 0) X dX2_readUnits_28 cl_X2 rfl rfl (by decide) w_90 ?_
      refine g_ald_n (pc := 31) (i := 1) X dX2_readUnits_31 rfl rfl ?_
      refine g_ild_n (pc := 32) (i := 3) X dX2_readUnits_32 rfl rfl ?_
      obtain ⟨r3, μ3, hc3, hf⟩ := jcall_i hf
      refine g_callVi (pc := 33) [jr Δ 2, .int x3] X dX2_readUnits_33 (M_X4_numberAt ⟨rfl, rfl⟩ (jOk_sep X) hc3) Y_X4_numberAt w_286 w_288 w_287 cl_X4 rfl rfl (by decide) rfl rfl (Nat.le_of_ble_eq_true rfl) rfl ?_
      refine g_ist (pc := 36) (L1 := [some (jr Δ 6), some (jr Δ 2), some (.int x2), some (.int x3), some (.int r3)]) X dX2_readUnits_36 (Nat.le_of_ble_eq_true rfl) rfl rfl ?_
      refine g_ald_n (pc := 38) (i := 0) X dX2_readUnits_38 rfl rfl ?_
      refine g_getR (pc := 39) (k := 2) X dX2_readUnits_39 cl_X2 rfl rfl (by decide) w_93 ?_
      refine g_ild_n (pc := 42) (i := 3) X dX2_readUnits_42 rfl rfl ?_
      refine g_ald_n (pc := 43) (i := 0) X dX2_readUnits_43 rfl rfl ?_
      refine g_getR (pc := 44) (k := 0) X dX2_readUnits_44 cl_X2 rfl rfl (by decide) w_90 ?_
      refine g_getI (pc := 47) (k := 4) X dX2_readUnits_47 cl_X4 rfl rfl (by decide) w_51 ?_
      refine g_iconst (pc := 50) (v := (1 : Int32)) X dX2_readUnits_50 (by decide) ?_
      refine g_icmp_ne (pc := 51) 68 X dX2_readUnits_51 (by decide) (fun h5 => ?_) (fun h5 => ?_)
      · replace hf := jf_i h5 hf
        refine g_ild (pc := 68) X dX2_readUnits_68 rfl ?_
        exact g_weak (t_X2_readUnits_70  X (fun _ _ _ h => ih _ _ _ h)  _ _ _ _ _ hf) (⟨rfl, ⟨rfl, ⟨rfl, ⟨rfl, trivial⟩⟩⟩⟩)
      · replace hf := jt_i h5 hf
        refine g_ald_n (pc := 54) (i := 0) X dX2_readUnits_54 rfl rfl ?_
        refine g_getR (pc := 55) (k := 0) X dX2_readUnits_55 cl_X2 rfl rfl (by decide) w_90 ?_
        refine g_ild (pc := 58) X dX2_readUnits_58 rfl ?_
        refine g_ild_n (pc := 60) (i := 2) X dX2_readUnits_60 rfl rfl ?_
        refine g_isub (pc := 61) X dX2_readUnits_61 ?_
        obtain ⟨r4, μ4, hc4, hf⟩ := jcall_i hf
        refine g_callVi (pc := 62) [.int (r3 - x2)] X dX2_readUnits_62 (M_X4_modulo  (jOk_sep X) hc4) Y_X4_modulo w_294 w_296 w_295 cl_X4 rfl rfl (by decide) rfl rfl (Nat.le_of_ble_eq_true rfl) rfl ?_
        refine g_goto (pc := 65) 70 X dX2_readUnits_65 (by decide) ?_
        exact g_weak (t_X2_readUnits_70  X (fun _ _ _ h => ih _ _ _ h)  _ _ _ _ _ hf) (⟨rfl, ⟨rfl, ⟨rfl, ⟨rfl, trivial⟩⟩⟩⟩)
set_option maxHeartbeats 4000000 in
theorem M_X2_readUnits {l : Launch} {Δ : jD} {r : Unit} {μ μ9 : jM}   (hsep : jSep Δ shC) (hf : f_X2_readUnits  μ = some (r, μ9)) : jMet l yX2_readUnits cX2_readUnits 5 none D_X2_readUnits Δ shC [jr Δ 6, jr Δ 2] μ (none, μ9) := by
  refine jMet_of (own := RX2) (L := [some (jr Δ 6), some (jr Δ 2), none, none, none]) (by decide) rfl (Nat.le_of_ble_eq_true rfl) rfl hsep (fun Γ _ X => ?_)
  unfold f_X2_readUnits at hf
  refine g_ald_n (pc := 0) (i := 0) X dX2_readUnits_0 rfl rfl ?_
  refine g_ald_n (pc := 1) (i := 0) X dX2_readUnits_1 rfl rfl ?_
  refine g_getR (pc := 2) (k := 0) X dX2_readUnits_2 cl_X2 rfl rfl (by decide) w_90 ?_
  refine g_ald_n (pc := 5) (i := 1) X dX2_readUnits_5 rfl rfl ?_
  refine g_getI (pc := 6) (k := 1) X dX2_readUnits_6 cl_X0 rfl rfl (by decide) w_72 ?_
  obtain ⟨r7, μ7, hc7, hf⟩ := jcall_i hf
  refine g_callVi (pc := 9) [.int (μ.1 2 1)] X dX2_readUnits_9 (M_X4_unitsIn  (jOk_sep X) hc7) Y_X4_unitsIn w_282 w_284 w_283 cl_X4 rfl rfl (by decide) rfl rfl (Nat.le_of_ble_eq_true rfl) rfl ?_
  refine g_putI (pc := 12) (k := 7) X dX2_readUnits_12 cl_X2 rfl rfl (by decide) w_98 rfl rfl rfl ?_
  refine g_nmM (fun μ8 eμ8 => ?_)
  replace hf := jlet_i eμ8 hf
  refine g_iconst (pc := 15) (v := (0 : Int32)) X dX2_readUnits_15 (by decide) ?_
  refine g_ist_n (pc := 16) (i := 2) (L1 := [some (jr Δ 6), some (jr Δ 2), some (.int (0 : Int32)), none, none]) X dX2_readUnits_16 rfl (Nat.le_of_ble_eq_true rfl) rfl rfl ?_
  refine g_iconst (pc := 17) (v := (0 : Int32)) X dX2_readUnits_17 (by decide) ?_
  refine g_ist_n (pc := 18) (i := 3) (L1 := [some (jr Δ 6), some (jr Δ 2), some (.int (0 : Int32)), some (.int (0 : Int32)), none]) X dX2_readUnits_18 rfl (Nat.le_of_ble_eq_true rfl) rfl rfl ?_
  exact g_weak (t_X2_readUnits_19  X  jFU _ _ _ hf) (⟨rfl, ⟨rfl, ⟨rfl, ⟨rfl, trivial⟩⟩⟩⟩)
