/-! X2_make -/
abbrev D_X2_make : Nat := 6
noncomputable def f_X2_make_46   : Nat → Int32 → Int32 → Int32 → jM → Option (Int32 × jM)
  | 0, _, _, _, _ => none
  | fu + 1, x2, x3, x4, μ => if (μ.1 6 7) ≤ x4 then (jcall (f_X2_addEnd  μ) (fun (r1 : Unit) (μ1 : jM) => some ((μ1.1 7 1), μ1))) else (jcall (f_X2_addStretch x4 (if (x4 + x3) < (μ.1 6 7) then (x4 + x3) else (μ.1 6 7)) x2 μ) (fun (r2 : Unit) (μ2 : jM) => jlet (x4 + x3) (fun z3 : Int32 => f_X2_make_46   fu x2 x3 z3 μ2)))
noncomputable def f_X2_make_39   (x2 : Int32) (s0 : Int32) (s1 : Int32) (μ : jM) : Option (Int32 × jM) := jlet (if s1 < s0 then s0 else s1) (fun z5 : Int32 => f_X2_make_46   jFU x2 z5 (0 : Int32) μ)
noncomputable def f_X2_make (x2 : Int32) (μ : jM) : Option (Int32 × jM) := jlet (jsI μ 7 1 (0 : Int32)) (fun μ6 : jM => jcall (f_X2_readUnits  μ6) (fun (r7 : Unit) (μ7 : jM) => if (μ7.1 1 0) = (2 : Int32) then (f_X2_make_39    x2 (μ7.1 1 2) (1 : Int32) μ7) else (f_X2_make_39    x2 (μ7.1 6 7) (1 : Int32) μ7)))
set_option maxHeartbeats 4000000 in
theorem t_X2_make_46 {Γ : jC} {Δ : jD} {r : Int32} {μ9 : jM}    (X : jOk Γ Δ shC cX2_make 5 RX2 (some .int) D_X2_make)  : ∀ (fu : Nat) (x2 : Int32) (x3 : Int32) (x4 : Int32) (μ : jM), f_X2_make_46   fu x2 x3 x4 μ = some (r, μ9) → jG Γ Δ shC (some (.int r), μ9) 46 [some (jr Δ 6), none, some (.int x2), some (.int x3), some (.int x4)] [] μ := by
  intro fu
  induction fu with
  | zero =>
    intro x2 x3 x4 μ hf
    cases hf
  | succ fu ih =>
    intro x2 x3 x4 μ hf
    replace hf := (f_X2_make_46.eq_2 _ _ _ _ _).symm.trans hf
    refine g_ild (pc := 46) X dX2_make_46 rfl ?_
    refine g_ald_n (pc := 48) (i := 0) X dX2_make_48 rfl rfl ?_
    refine g_getI (pc := 49) (k := 7) X dX2_make_49 cl_X2 rfl rfl (by decide) w_98 ?_
    refine g_icmp_ge (pc := 52) 82 X dX2_make_52 (by decide) (fun h4 => ?_) (fun h4 => ?_)
    · replace hf := jt_i h4 hf
      refine g_ald_n (pc := 82) (i := 0) X dX2_make_82 rfl rfl ?_
      obtain ⟨r1, μ1, hc1, hf⟩ := jcall_i hf
      refine g_callVv (pc := 83) [] X dX2_make_83 (M_X2_addEnd  (jOk_sep X) hc1) Y_X2_addEnd w_394 w_396 w_395 cl_X2 rfl rfl (by decide) rfl rfl (Nat.le_of_ble_eq_true rfl) rfl ?_
      refine g_ald_n (pc := 86) (i := 0) X dX2_make_86 rfl rfl ?_
      refine g_getR (pc := 87) (k := 1) X dX2_make_87 cl_X2 rfl rfl (by decide) w_91 ?_
      refine g_getI (pc := 90) (k := 1) X dX2_make_90 cl_X0 rfl rfl (by decide) w_72 ?_
      exact g_iret (pc := 93) X dX2_make_93 hf
    · replace hf := jf_i h4 hf
      refine g_ald_n (pc := 55) (i := 0) X dX2_make_55 rfl rfl ?_
      refine g_ild (pc := 56) X dX2_make_56 rfl ?_
      refine g_ald_n (pc := 58) (i := 0) X dX2_make_58 rfl rfl ?_
      refine g_getI (pc := 59) (k := 7) X dX2_make_59 cl_X2 rfl rfl (by decide) w_98 ?_
      refine g_ild (pc := 62) X dX2_make_62 rfl ?_
      refine g_ild_n (pc := 64) (i := 3) X dX2_make_64 rfl rfl ?_
      refine g_iadd (pc := 65) X dX2_make_65 ?_
      refine g_min (pc := 66) X dX2_make_66 w_301 w_302 w_8 w_303 (by decide) rfl (Nat.le_of_ble_eq_true rfl) ?_
      refine g_ild_n (pc := 69) (i := 2) X dX2_make_69 rfl rfl ?_
      obtain ⟨r2, μ2, hc2, hf⟩ := jcall_i hf
      refine g_callVv (pc := 70) [.int x4, .int (if (x4 + x3) < (μ.1 6 7) then (x4 + x3) else (μ.1 6 7)), .int x2] X dX2_make_70 (M_X2_addStretch  (jOk_sep X) hc2) Y_X2_addStretch w_304 w_306 w_305 cl_X2 rfl rfl (by decide) rfl rfl (Nat.le_of_ble_eq_true rfl) rfl ?_
      refine g_ild (pc := 73) X dX2_make_73 rfl ?_
      refine g_ild_n (pc := 75) (i := 3) X dX2_make_75 rfl rfl ?_
      refine g_iadd (pc := 76) X dX2_make_76 ?_
      refine g_nmI (fun z3 ez3 => ?_)
      replace hf := jlet_i ez3 hf
      refine g_ist (pc := 77) (L1 := [some (jr Δ 6), none, some (.int x2), some (.int x3), some (.int z3)]) X dX2_make_77 (Nat.le_of_ble_eq_true rfl) rfl rfl ?_
      refine g_goto (pc := 79) 46 X dX2_make_79 (by decide) ?_
      exact g_weak (ih _ _ _ _ hf) (⟨rfl, ⟨rfl, ⟨rfl, ⟨rfl, trivial⟩⟩⟩⟩)
set_option maxHeartbeats 4000000 in
theorem t_X2_make_39 {Γ : jC} {Δ : jD} {r : Int32} {μ9 : jM}    (X : jOk Γ Δ shC cX2_make 5 RX2 (some .int) D_X2_make)  : ∀ (x2 : Int32) (s0 : Int32) (s1 : Int32) (μ : jM), f_X2_make_39   x2 s0 s1 μ = some (r, μ9) → jG Γ Δ shC (some (.int r), μ9) 39 [some (jr Δ 6), none, some (.int x2), none, none] [.int s0, .int s1] μ := by
  intro x2 s0 s1 μ hf
  unfold f_X2_make_39 at hf
  refine g_max (pc := 39) X dX2_make_39 w_298 w_299 w_8 w_300 (by decide) rfl (Nat.le_of_ble_eq_true rfl) ?_
  refine g_nmI (fun z5 ez5 => ?_)
  replace hf := jlet_i ez5 hf
  refine g_ist_n (pc := 42) (i := 3) (L1 := [some (jr Δ 6), none, some (.int x2), some (.int z5), none]) X dX2_make_42 rfl (Nat.le_of_ble_eq_true rfl) rfl rfl ?_
  refine g_iconst (pc := 43) (v := (0 : Int32)) X dX2_make_43 (by decide) ?_
  refine g_ist (pc := 44) (L1 := [some (jr Δ 6), none, some (.int x2), some (.int z5), some (.int (0 : Int32))]) X dX2_make_44 (Nat.le_of_ble_eq_true rfl) rfl rfl ?_
  exact g_weak (t_X2_make_46  X  jFU _ _ _ _ hf) (⟨rfl, ⟨rfl, ⟨rfl, ⟨rfl, trivial⟩⟩⟩⟩)
set_option maxHeartbeats 4000000 in
theorem M_X2_make {l : Launch} {Δ : jD} {r : Int32} {μ μ9 : jM} {x2 : Int32}  (hsep : jSep Δ shC) (hf : f_X2_make x2 μ = some (r, μ9)) : jMet l yX2_make cX2_make 5 (some .int) D_X2_make Δ shC [jr Δ 6, jr Δ 2, .int x2] μ (some (.int r), μ9) := by
  refine jMet_of (own := RX2) (L := [some (jr Δ 6), some (jr Δ 2), some (.int x2), none, none]) (by decide) rfl (Nat.le_of_ble_eq_true rfl) rfl hsep (fun Γ _ X => ?_)
  unfold f_X2_make at hf
  refine g_ald_n (pc := 0) (i := 0) X dX2_make_0 rfl rfl ?_
  refine g_getR (pc := 1) (k := 1) X dX2_make_1 cl_X2 rfl rfl (by decide) w_91 ?_
  refine g_iconst (pc := 4) (v := (0 : Int32)) X dX2_make_4 (by decide) ?_
  refine g_putI (pc := 5) (k := 1) X dX2_make_5 cl_X0 rfl rfl (by decide) w_72 rfl rfl rfl ?_
  refine g_nmM (fun μ6 eμ6 => ?_)
  replace hf := jlet_i eμ6 hf
  refine g_ald_n (pc := 8) (i := 0) X dX2_make_8 rfl rfl ?_
  refine g_ald_n (pc := 9) (i := 1) X dX2_make_9 rfl rfl ?_
  obtain ⟨r7, μ7, hc7, hf⟩ := jcall_i hf
  refine g_callVv (pc := 10) [jr Δ 2] X dX2_make_10 (M_X2_readUnits  (jOk_sep X) hc7) Y_X2_readUnits w_278 w_280 w_279 cl_X2 rfl rfl (by decide) rfl rfl (Nat.le_of_ble_eq_true rfl) rfl ?_
  refine g_iconst (pc := 13) (v := (1 : Int32)) X dX2_make_13 (by decide) ?_
  refine g_ald_n (pc := 14) (i := 0) X dX2_make_14 rfl rfl ?_
  refine g_getR (pc := 15) (k := 0) X dX2_make_15 cl_X2 rfl rfl (by decide) w_90 ?_
  refine g_getI (pc := 18) (k := 0) X dX2_make_18 cl_X4 rfl rfl (by decide) w_32 ?_
  refine g_iconst (pc := 21) (v := (2 : Int32)) X dX2_make_21 (by decide) ?_
  refine g_icmp_ne (pc := 22) 35 X dX2_make_22 (by decide) (fun h8 => ?_) (fun h8 => ?_)
  · replace hf := jf_i h8 hf
    refine g_ald_n (pc := 35) (i := 0) X dX2_make_35 rfl rfl ?_
    refine g_getI (pc := 36) (k := 7) X dX2_make_36 cl_X2 rfl rfl (by decide) w_98 ?_
    exact g_weak (t_X2_make_39  X   _ _ _ _ hf) (⟨rfl, ⟨rfl, trivial⟩⟩)
  · replace hf := jt_i h8 hf
    refine g_ald_n (pc := 25) (i := 0) X dX2_make_25 rfl rfl ?_
    refine g_getR (pc := 26) (k := 0) X dX2_make_26 cl_X2 rfl rfl (by decide) w_90 ?_
    refine g_getI (pc := 29) (k := 2) X dX2_make_29 cl_X4 rfl rfl (by decide) w_41 ?_
    refine g_goto (pc := 32) 39 X dX2_make_32 (by decide) ?_
    exact g_weak (t_X2_make_39  X   _ _ _ _ hf) (⟨rfl, ⟨rfl, trivial⟩⟩)
