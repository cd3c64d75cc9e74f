/-! X6_thrown -/
abbrev D_X6_thrown : Nat := 0
noncomputable def f_X6_thrown  (μ : jM) : Option (Int32 × jM) := some ((μ.1 0 13), μ)
set_option maxHeartbeats 4000000 in
theorem M_X6_thrown {l : Launch} {Δ : jD} {r : Int32} {μ μ9 : jM}   (hsep : jSep Δ shM) (hf : f_X6_thrown  μ = some (r, μ9)) : jMet l yX6_thrown cX6_thrown 1 (some .int) D_X6_thrown Δ shM [jr Δ 0] μ (some (.int r), μ9) := by
  refine jMet_of (own := RX6) (L := [some (jr Δ 0)]) (by decide) rfl (Nat.le_of_ble_eq_true rfl) rfl hsep (fun Γ _ X => ?_)
  unfold f_X6_thrown at hf
  refine g_ald_n (pc := 0) (i := 0) X dX6_thrown_0 rfl rfl ?_
  refine g_getI (pc := 1) (k := 13) X dX6_thrown_1 cl_X6 rfl rfl (by decide) w_674 ?_
  exact g_iret (pc := 4) X dX6_thrown_4 hf
/-! X6_in -/
abbrev D_X6_in : Nat := 0
noncomputable def f_X6_in_14    (μ : jM) : Option (Int32 × jM) := jbl (0 : Int32) (some ((0 : Int32), μ))
noncomputable def f_X6_in (x0 : Int32) (x1 : Int32) (x2 : Int32) (μ : jM) : Option (Int32 × jM) := if x0 < x1 then (f_X6_in_14     μ) else (if x2 < x0 then (f_X6_in_14     μ) else (jbl (1 : Int32) (some ((1 : Int32), μ))))
set_option maxHeartbeats 4000000 in
theorem t_X6_in_14 {Γ : jC} {Δ : jD} {r : Int32} {μ9 : jM}    (X : jOk Γ Δ shM cX6_in 3 RX6 (some .boolean) D_X6_in)  : ∀ (μ : jM), f_X6_in_14    μ = some (r, μ9) → jG Γ Δ shM (some (.int r), μ9) 14 [none, none, none] [] μ := by
  intro  μ hf
  unfold f_X6_in_14 at hf
  refine g_iconst (pc := 14) (v := (0 : Int32)) X dX6_in_14 (by decide) ?_
  obtain ⟨hb1, hf⟩ := jbl_i hf
  exact g_zret (pc := 15) X dX6_in_15 hb1 hf
set_option maxHeartbeats 4000000 in
theorem M_X6_in {l : Launch} {Δ : jD} {r : Int32} {μ μ9 : jM} {x0 : Int32} {x1 : Int32} {x2 : Int32}  (hsep : jSep Δ shM) (hf : f_X6_in x0 x1 x2 μ = some (r, μ9)) : jMet l yX6_in cX6_in 3 (some .boolean) D_X6_in Δ shM [.int x0, .int x1, .int x2] μ (some (.int r), μ9) := by
  refine jMet_of (own := RX6) (L := [some (.int x0), some (.int x1), some (.int x2)]) (by decide) rfl (Nat.le_of_ble_eq_true rfl) rfl hsep (fun Γ _ X => ?_)
  unfold f_X6_in at hf
  refine g_ild_n (pc := 0) (i := 0) X dX6_in_0 rfl rfl ?_
  refine g_ild_n (pc := 1) (i := 1) X dX6_in_1 rfl rfl ?_
  refine g_icmp_lt (pc := 2) 14 X dX6_in_2 (by decide) (fun h4 => ?_) (fun h4 => ?_)
  · replace hf := jt_i h4 hf
    exact g_weak (t_X6_in_14  X    _ hf) (trivial)
  · replace hf := jf_i h4 hf
    refine g_ild_n (pc := 5) (i := 0) X dX6_in_5 rfl rfl ?_
    refine g_ild_n (pc := 6) (i := 2) X dX6_in_6 rfl rfl ?_
    refine g_icmp_gt (pc := 7) 14 X dX6_in_7 (by decide) (fun h3 => ?_) (fun h3 => ?_)
    · replace hf := jt_i h3 hf
      exact g_weak (t_X6_in_14  X    _ hf) (trivial)
    · replace hf := jf_i h3 hf
      refine g_iconst (pc := 10) (v := (1 : Int32)) X dX6_in_10 (by decide) ?_
      refine g_goto (pc := 11) 15 X dX6_in_11 (by decide) ?_
      obtain ⟨hb2, hf⟩ := jbl_i hf
      exact g_zret (pc := 15) X dX6_in_15 hb2 hf
/-! X6_octet -/
abbrev D_X6_octet : Nat := 1
noncomputable def f_X6_octet (x1 : Int32) (μ : jM) : Option (Int32 × jM) := jlet (jsI μ 0 13 (0 : Int32)) (fun μ1 : jM => jcall (f_X6_in x1 (0 : Int32) (255 : Int32) μ1) (fun (r2 : Int32) (μ2 : jM) => if r2 = (0 : Int32) then (some ((-1 : Int32), μ2)) else (if (μ2.1 0 6) = (240 : Int32) then (some ((-2 : Int32), μ2)) else (jin (μ2.1 0 6) 240 (jlet (jsI μ2 1 ((μ2.1 0 6)).toNatClampNeg x1) (fun μ3 : jM => jlet (jsI μ3 0 6 ((μ3.1 0 6) + (1 : Int32))) (fun μ4 : jM => some ((μ4.1 0 6), μ4))))))))
set_option maxHeartbeats 4000000 in
theorem M_X6_octet {l : Launch} {Δ : jD} {r : Int32} {μ μ9 : jM} {x1 : Int32}  (hsep : jSep Δ shM) (hf : f_X6_octet x1 μ = some (r, μ9)) : jMet l yX6_octet cX6_octet 2 (some .int) D_X6_octet Δ shM [jr Δ 0, .int x1] μ (some (.int r), μ9) := by
  refine jMet_of (own := RX6) (L := [some (jr Δ 0), some (.int x1)]) (by decide) rfl (Nat.le_of_ble_eq_true rfl) rfl hsep (fun Γ _ X => ?_)
  unfold f_X6_octet at hf
  refine g_ald_n (pc := 0) (i := 0) X dX6_octet_0 rfl rfl ?_
  refine g_iconst (pc := 1) (v := (0 : Int32)) X dX6_octet_1 (by decide) ?_
  refine g_putI (pc := 2) (k := 13) X dX6_octet_2 cl_X6 rfl rfl (by decide) w_674 rfl rfl rfl ?_
  refine g_nmM (fun μ1 eμ1 => ?_)
  replace hf := jlet_i eμ1 hf
  refine g_ild_n (pc := 5) (i := 1) X dX6_octet_5 rfl rfl ?_
  refine g_iconst (pc := 6) (v := (0 : Int32)) X dX6_octet_6 (by decide) ?_
  refine g_sipush (pc := 7) (v := (255 : Int32)) X dX6_octet_7 (by decide) ?_
  obtain ⟨r2, μ2, hc2, hf⟩ := jcall_i hf
  refine g_callSi (pc := 10) [.int x1, .int (0 : Int32), .int (255 : Int32)] X dX6_octet_10 (M_X6_in  (jOk_sep X) hc2) Y_X6_in w_658 w_659 (by decide) rfl rfl (Nat.le_of_ble_eq_true rfl) rfl ?_
  refine g_if_ne (pc := 13) 18 X dX6_octet_13 (by decide) (fun h6 => ?_) (fun h6 => ?_)
  · replace hf := jf_i h6 hf
    refine g_ald_n (pc := 18) (i := 0) X dX6_octet_18 rfl rfl ?_
    refine g_getI (pc := 19) (k := 6) X dX6_octet_19 cl_X6 rfl rfl (by decide) w_667 ?_
    refine g_sipush (pc := 22) (v := (240 : Int32)) X dX6_octet_22 (by decide) ?_
    refine g_icmp_ne (pc := 25) 31 X dX6_octet_25 (by decide) (fun h5 => ?_) (fun h5 => ?_)
    · replace hf := jf_i h5 hf
      refine g_ald_n (pc := 31) (i := 0) X dX6_octet_31 rfl rfl ?_
      refine g_getR (pc := 32) (k := 5) X dX6_octet_32 cl_X6 rfl rfl (by decide) w_666 ?_
      refine g_ald_n (pc := 35) (i := 0) X dX6_octet_35 rfl rfl ?_
      refine g_getI (pc := 36) (k := 6) X dX6_octet_36 cl_X6 rfl rfl (by decide) w_667 ?_
      refine g_ild_n (pc := 39) (i := 1) X dX6_octet_39 rfl rfl ?_
      obtain ⟨hi3, hf⟩ := jin_i hf
      refine g_iast (pc := 40) X dX6_octet_40 rfl hi3 ?_
      refine g_nmM (fun μ3 eμ3 => ?_)
      replace hf := jlet_i eμ3 hf
      refine g_ald_n (pc := 41) (i := 0) X dX6_octet_41 rfl rfl ?_
      refine g_dupR (pc := 42) X dX6_octet_42 ?_
      refine g_getI (pc := 43) (k := 6) X dX6_octet_43 cl_X6 rfl rfl (by decide) w_667 ?_
      refine g_iconst (pc := 46) (v := (1 : Int32)) X dX6_octet_46 (by decide) ?_
      refine g_iadd (pc := 47) X dX6_octet_47 ?_
      refine g_putI (pc := 48) (k := 6) X dX6_octet_48 cl_X6 rfl rfl (by decide) w_667 rfl rfl rfl ?_
      refine g_nmM (fun μ4 eμ4 => ?_)
      replace hf := jlet_i eμ4 hf
      refine g_ald_n (pc := 51) (i := 0) X dX6_octet_51 rfl rfl ?_
      refine g_getI (pc := 52) (k := 6) X dX6_octet_52 cl_X6 rfl rfl (by decide) w_667 ?_
      exact g_iret (pc := 55) X dX6_octet_55 hf
    · replace hf := jt_i h5 hf
      refine g_bipush (pc := 28) (v := (-2 : Int32)) X dX6_octet_28 (by decide) ?_
      exact g_iret (pc := 30) X dX6_octet_30 hf
  · replace hf := jt_i h6 hf
    refine g_iconst (pc := 16) (v := (-1 : Int32)) X dX6_octet_16 (by decide) ?_
    exact g_iret (pc := 17) X dX6_octet_17 hf
/-! X6_repeat -/
abbrev D_X6_repeat : Nat := 1
noncomputable def f_X6_repeat_46   : Nat → Int32 → Int32 → Int32 → jM → Option (Int32 × jM)
  | 0, _, _, _, _ => none
  | fu + 1, x1, x2, x3, μ => if x1 ≤ x3 then (jlet (jsI μ 0 6 ((μ.1 0 6) + x1)) (fun μ1 : jM => some ((μ1.1 0 6), μ1))) else (jin ((μ.1 0 6) + x3) 240 (jlet (jsI μ 1 (((μ.1 0 6) + x3)).toNatClampNeg x2) (fun μ2 : jM => jlet (x3 + (1 : Int32)) (fun z3 : Int32 => f_X6_repeat_46   fu x1 x2 z3 μ2))))
noncomputable def f_X6_repeat_27    (μ : jM) : Option (Int32 × jM) := some ((-1 : Int32), μ)
noncomputable def f_X6_repeat (x1 : Int32) (x2 : Int32) (μ : jM) : Option (Int32 × jM) := jlet (jsI μ 0 13 (0 : Int32)) (fun μ5 : jM => jcall (f_X6_in x1 (1 : Int32) (240 : Int32) μ5) (fun (r6 : Int32) (μ6 : jM) => if r6 = (0 : Int32) then (f_X6_repeat_27     μ6) else (jcall (f_X6_in x2 (0 : Int32) (255 : Int32) μ6) (fun (r7 : Int32) (μ7 : jM) => if r7 = (0 : Int32) then (f_X6_repeat_27     μ7) else (if ((μ7.1 0 6) + x1) ≤ (240 : Int32) then (f_X6_repeat_46   jFU x1 x2 (0 : Int32) μ7) else (some ((-2 : Int32), μ7)))))))
set_option maxHeartbeats 4000000 in
theorem t_X6_repeat_46 {Γ : jC} {Δ : jD} {r : Int32} {μ9 : jM}    (X : jOk Γ Δ shM cX6_repeat 4 RX6 (some .int) D_X6_repeat)  : ∀ (fu : Nat) (x1 : Int32) (x2 : Int32) (x3 : Int32) (μ : jM), f_X6_repeat_46   fu x1 x2 x3 μ = some (r, μ9) → jG Γ Δ shM (some (.int r), μ9) 46 [some (jr Δ 0), some (.int x1), some (.int x2), some (.int x3)] [] μ := by
  intro fu
  induction fu with
  | zero =>
    intro x1 x2 x3 μ hf
    cases hf
  | succ fu ih =>
    intro x1 x2 x3 μ hf
    replace hf := (f_X6_repeat_46.eq_2 _ _ _ _ _).symm.trans hf
    refine g_ild_n (pc := 46) (i := 3) X dX6_repeat_46 rfl rfl ?_
    refine g_ild_n (pc := 47) (i := 1) X dX6_repeat_47 rfl rfl ?_
    refine g_icmp_ge (pc := 48) 69 X dX6_repeat_48 (by decide) (fun h4 => ?_) (fun h4 => ?_)
    · replace hf := jt_i h4 hf
      refine g_ald_n (pc := 69) (i := 0) X dX6_repeat_69 rfl rfl ?_
      refine g_dupR (pc := 70) X dX6_repeat_70 ?_
      refine g_getI (pc := 71) (k := 6) X dX6_repeat_71 cl_X6 rfl rfl (by decide) w_667 ?_
      refine g_ild_n (pc := 74) (i := 1) X dX6_repeat_74 rfl rfl ?_
      refine g_iadd (pc := 75) X dX6_repeat_75 ?_
      refine g_putI (pc := 76) (k := 6) X dX6_repeat_76 cl_X6 rfl rfl (by decide) w_667 rfl rfl rfl ?_
      refine g_nmM (fun μ1 eμ1 => ?_)
      replace hf := jlet_i eμ1 hf
      refine g_ald_n (pc := 79) (i := 0) X dX6_repeat_79 rfl rfl ?_
      refine g_getI (pc := 80) (k := 6) X dX6_repeat_80 cl_X6 rfl rfl (by decide) w_667 ?_
      exact g_iret (pc := 83) X dX6_repeat_83 hf
    · replace hf := jf_i h4 hf
      refine g_ald_n (pc := 51) (i := 0) X dX6_repeat_51 rfl rfl ?_
      refine g_getR (pc := 52) (k := 5) X dX6_repeat_52 cl_X6 rfl rfl (by decide) w_666 ?_
      refine g_ald_n (pc := 55) (i := 0) X dX6_repeat_55 rfl rfl ?_
      refine g_getI (pc := 56) (k := 6) X dX6_repeat_56 cl_X6 rfl rfl (by decide) w_667 ?_
      refine g_ild_n (pc := 59) (i := 3) X dX6_repeat_59 rfl rfl ?_
      refine g_iadd (pc := 60) X dX6_repeat_60 ?_
      refine g_ild_n (pc := 61) (i := 2) X dX6_repeat_61 rfl rfl ?_
      obtain ⟨hi2, hf⟩ := jin_i hf
      refine g_iast (pc := 62) X dX6_repeat_62 rfl hi2 ?_
      refine g_nmM (fun μ2 eμ2 => ?_)
      replace hf := jlet_i eμ2 hf
      obtain ⟨z3, ez3⟩ : ∃ z : Int32, z = x3 + (1 : Int32) := ⟨_, rfl⟩
      replace hf := jlet_i ez3 hf
      refine g_iinc (pc := 63) (L1 := [some (jr Δ 0), some (.int x1), some (.int x2), some (.int z3)]) X dX6_repeat_63 rfl (by rw [ez3]; rfl) rfl rfl ?_
      refine g_goto (pc := 66) 46 X dX6_repeat_66 (by decide) ?_
      exact g_weak (ih _ _ _ _ hf) (⟨rfl, ⟨rfl, ⟨rfl, ⟨rfl, trivial⟩⟩⟩⟩)
set_option maxHeartbeats 4000000 in
theorem t_X6_repeat_27 {Γ : jC} {Δ : jD} {r : Int32} {μ9 : jM}    (X : jOk Γ Δ shM cX6_repeat 4 RX6 (some .int) D_X6_repeat)  : ∀ (μ : jM), f_X6_repeat_27    μ = some (r, μ9) → jG Γ Δ shM (some (.int r), μ9) 27 [none, none, none, none] [] μ := by
  intro  μ hf
  unfold f_X6_repeat_27 at hf
  refine g_iconst (pc := 27) (v := (-1 : Int32)) X dX6_repeat_27 (by decide) ?_
  exact g_iret (pc := 28) X dX6_repeat_28 hf
set_option maxHeartbeats 4000000 in
theorem M_X6_repeat {l : Launch} {Δ : jD} {r : Int32} {μ μ9 : jM} {x1 : Int32} {x2 : Int32}  (hsep : jSep Δ shM) (hf : f_X6_repeat x1 x2 μ = some (r, μ9)) : jMet l yX6_repeat cX6_repeat 4 (some .int) D_X6_repeat Δ shM [jr Δ 0, .int x1, .int x2] μ (some (.int r), μ9) := by
  refine jMet_of (own := RX6) (L := [some (jr Δ 0), some (.int x1), some (.int x2), none]) (by decide) rfl (Nat.le_of_ble_eq_true rfl) rfl hsep (fun Γ _ X => ?_)
  unfold f_X6_repeat at hf
  refine g_ald_n (pc := 0) (i := 0) X dX6_repeat_0 rfl rfl ?_
  refine g_iconst (pc := 1) (v := (0 : Int32)) X dX6_repeat_1 (by decide) ?_
  refine g_putI (pc := 2) (k := 13) X dX6_repeat_2 cl_X6 rfl rfl (by decide) w_674 rfl rfl rfl ?_
  refine g_nmM (fun μ5 eμ5 => ?_)
  replace hf := jlet_i eμ5 hf
  refine g_ild_n (pc := 5) (i := 1) X dX6_repeat_5 rfl rfl ?_
  refine g_iconst (pc := 6) (v := (1 : Int32)) X dX6_repeat_6 (by decide) ?_
  refine g_sipush (pc := 7) (v := (240 : Int32)) X dX6_repeat_7 (by decide) ?_
  obtain ⟨r6, μ6, hc6, hf⟩ := jcall_i hf
  refine g_callSi (pc := 10) [.int x1, .int (1 : Int32), .int (240 : Int32)] X dX6_repeat_10 (M_X6_in  (jOk_sep X) hc6) Y_X6_in w_658 w_659 (by decide) rfl rfl (Nat.le_of_ble_eq_true rfl) rfl ?_
  refine g_if_eq (pc := 13) 27 X dX6_repeat_13 (by decide) (fun h10 => ?_) (fun h10 => ?_)
  · replace hf := jt_i h10 hf
    exact g_weak (t_X6_repeat_27  X    _ hf) (trivial)
  · replace hf := jf_i h10 hf
    refine g_ild_n (pc := 16) (i := 2) X dX6_repeat_16 rfl rfl ?_
    refine g_iconst (pc := 17) (v := (0 : Int32)) X dX6_repeat_17 (by decide) ?_
    refine g_sipush (pc := 18) (v := (255 : Int32)) X dX6_repeat_18 (by decide) ?_
    obtain ⟨r7, μ7, hc7, hf⟩ := jcall_i hf
    refine g_callSi (pc := 21) [.int x2, .int (0 : Int32), .int (255 : Int32)] X dX6_repeat_21 (M_X6_in  (jOk_sep X) hc7) Y_X6_in w_658 w_659 (by decide) rfl rfl (Nat.le_of_ble_eq_true rfl) rfl ?_
    refine g_if_ne (pc := 24) 29 X dX6_repeat_24 (by decide) (fun h9 => ?_) (fun h9 => ?_)
    · replace hf := jf_i h9 hf
      refine g_ald_n (pc := 29) (i := 0) X dX6_repeat_29 rfl rfl ?_
      refine g_getI (pc := 30) (k := 6) X dX6_repeat_30 cl_X6 rfl rfl (by decide) w_667 ?_
      refine g_ild_n (pc := 33) (i := 1) X dX6_repeat_33 rfl rfl ?_
      refine g_iadd (pc := 34) X dX6_repeat_34 ?_
      refine g_sipush (pc := 35) (v := (240 : Int32)) X dX6_repeat_35 (by decide) ?_
      refine g_icmp_le (pc := 38) 44 X dX6_repeat_38 (by decide) (fun h8 => ?_) (fun h8 => ?_)
      · replace hf := jt_i h8 hf
        refine g_iconst (pc := 44) (v := (0 : Int32)) X dX6_repeat_44 (by decide) ?_
        refine g_ist_n (pc := 45) (i := 3) (L1 := [some (jr Δ 0), some (.int x1), some (.int x2), some (.int (0 : Int32))]) X dX6_repeat_45 rfl (Nat.le_of_ble_eq_true rfl) rfl rfl ?_
        exact g_weak (t_X6_repeat_46  X  jFU _ _ _ _ hf) (⟨rfl, ⟨rfl, ⟨rfl, ⟨rfl, trivial⟩⟩⟩⟩)
      · replace hf := jf_i h8 hf
        refine g_bipush (pc := 41) (v := (-2 : Int32)) X dX6_repeat_41 (by decide) ?_
        exact g_iret (pc := 43) X dX6_repeat_43 hf
    · replace hf := jt_i h9 hf
      exact g_weak (t_X6_repeat_27  X    _ hf) (trivial)
/-! X6_code -/
abbrev D_X6_code : Nat := 1
noncomputable def f_X6_code (x1 : Int32) (μ : jM) : Option (Int32 × jM) := jlet (jsI μ 0 13 (0 : Int32)) (fun μ1 : jM => jcall (f_X6_in x1 (0 : Int32) (255 : Int32) μ1) (fun (r2 : Int32) (μ2 : jM) => if r2 = (0 : Int32) then (some ((-1 : Int32), μ2)) else (if (μ2.1 0 8) = (1000 : Int32) then (some ((-2 : Int32), μ2)) else (jin (μ2.1 0 8) 1000 (jlet (jsI μ2 2 ((μ2.1 0 8)).toNatClampNeg x1) (fun μ3 : jM => jlet (jsI μ3 0 8 ((μ3.1 0 8) + (1 : Int32))) (fun μ4 : jM => some ((μ4.1 0 8), μ4))))))))
set_option maxHeartbeats 4000000 in
theorem M_X6_code {l : Launch} {Δ : jD} {r : Int32} {μ μ9 : jM} {x1 : Int32}  (hsep : jSep Δ shM) (hf : f_X6_code x1 μ = some (r, μ9)) : jMet l yX6_code cX6_code 2 (some .int) D_X6_code Δ shM [jr Δ 0, .int x1] μ (some (.int r), μ9) := by
  refine jMet_of (own := RX6) (L := [some (jr Δ 0), some (.int x1)]) (by decide) rfl (Nat.le_of_ble_eq_true rfl) rfl hsep (fun Γ _ X => ?_)
  unfold f_X6_code at hf
  refine g_ald_n (pc := 0) (i := 0) X dX6_code_0 rfl rfl ?_
  refine g_iconst (pc := 1) (v := (0 : Int32)) X dX6_code_1 (by decide) ?_
  refine g_putI (pc := 2) (k := 13) X dX6_code_2 cl_X6 rfl rfl (by decide) w_674 rfl rfl rfl ?_
  refine g_nmM (fun μ1 eμ1 => ?_)
  replace hf := jlet_i eμ1 hf
  refine g_ild_n (pc := 5) (i := 1) X dX6_code_5 rfl rfl ?_
  refine g_iconst (pc := 6) (v := (0 : Int32)) X dX6_code_6 (by decide) ?_
  refine g_sipush (pc := 7) (v := (255 : Int32)) X dX6_code_7 (by decide) ?_
  obtain ⟨r2, μ2, hc2, hf⟩ := jcall_i hf
  refine g_callSi (pc := 10) [.int x1, .int (0 : Int32), .int (255 : Int32)] X dX6_code_10 (M_X6_in  (jOk_sep X) hc2) Y_X6_in w_658 w_659 (by decide) rfl rfl (Nat.le_of_ble_eq_true rfl) rfl ?_
  refine g_if_ne (pc := 13) 18 X dX6_code_13 (by decide) (fun h6 => ?_) (fun h6 => ?_)
  · replace hf := jf_i h6 hf
    refine g_ald_n (pc := 18) (i := 0) X dX6_code_18 rfl rfl ?_
    refine g_getI (pc := 19) (k := 8) X dX6_code_19 cl_X6 rfl rfl (by decide) w_669 ?_
    refine g_sipush (pc := 22) (v := (1000 : Int32)) X dX6_code_22 (by decide) ?_
    refine g_icmp_ne (pc := 25) 31 X dX6_code_25 (by decide) (fun h5 => ?_) (fun h5 => ?_)
    · replace hf := jf_i h5 hf
      refine g_ald_n (pc := 31) (i := 0) X dX6_code_31 rfl rfl ?_
      refine g_getR (pc := 32) (k := 7) X dX6_code_32 cl_X6 rfl rfl (by decide) w_668 ?_
      refine g_ald_n (pc := 35) (i := 0) X dX6_code_35 rfl rfl ?_
      refine g_getI (pc := 36) (k := 8) X dX6_code_36 cl_X6 rfl rfl (by decide) w_669 ?_
      refine g_ild_n (pc := 39) (i := 1) X dX6_code_39 rfl rfl ?_
      obtain ⟨hi3, hf⟩ := jin_i hf
      refine g_iast (pc := 40) X dX6_code_40 rfl hi3 ?_
      refine g_nmM (fun μ3 eμ3 => ?_)
      replace hf := jlet_i eμ3 hf
      refine g_ald_n (pc := 41) (i := 0) X dX6_code_41 rfl rfl ?_
      refine g_dupR (pc := 42) X dX6_code_42 ?_
      refine g_getI (pc := 43) (k := 8) X dX6_code_43 cl_X6 rfl rfl (by decide) w_669 ?_
      refine g_iconst (pc := 46) (v := (1 : Int32)) X dX6_code_46 (by decide) ?_
      refine g_iadd (pc := 47) X dX6_code_47 ?_
      refine g_putI (pc := 48) (k := 8) X dX6_code_48 cl_X6 rfl rfl (by decide) w_669 rfl rfl rfl ?_
      refine g_nmM (fun μ4 eμ4 => ?_)
      replace hf := jlet_i eμ4 hf
      refine g_ald_n (pc := 51) (i := 0) X dX6_code_51 rfl rfl ?_
      refine g_getI (pc := 52) (k := 8) X dX6_code_52 cl_X6 rfl rfl (by decide) w_669 ?_
      exact g_iret (pc := 55) X dX6_code_55 hf
    · replace hf := jt_i h5 hf
      refine g_bipush (pc := 28) (v := (-2 : Int32)) X dX6_code_28 (by decide) ?_
      exact g_iret (pc := 30) X dX6_code_30 hf
  · replace hf := jt_i h6 hf
    refine g_iconst (pc := 16) (v := (-1 : Int32)) X dX6_code_16 (by decide) ?_
    exact g_iret (pc := 17) X dX6_code_17 hf
/-! X6_cut -/
abbrev D_X6_cut : Nat := 1
noncomputable def f_X6_cut_87   (x3 : Int32) (s0 : Int32) (μ : jM) : Option (Int32 × jM) := jlet (jsI μ 0 8 s0) (fun μ1 : jM => some (x3, μ1))
noncomputable def f_X6_cut_70   (x1 : Int32) (x2 : Int32) (x3 : Int32) (s0 : Int32) (μ : jM) : Option (Int32 × jM) := jlet (jsI μ 0 6 s0) (fun μ2 : jM => if x1 = (1 : Int32) then (f_X6_cut_87    x3 x2 μ2) else (f_X6_cut_87    x3 (μ2.1 0 8) μ2))
noncomputable def f_X6_cut_54   (x1 : Int32) (x2 : Int32) (s0 : Int32) (μ : jM) : Option (Int32 × jM) := jlet (s0 - x2) (fun z4 : Int32 => if x1 = (0 : Int32) then (f_X6_cut_70    x1 x2 z4 x2 μ) else (f_X6_cut_70    x1 x2 z4 (μ.1 0 6) μ))
noncomputable def f_X6_cut_37    (μ : jM) : Option (Int32 × jM) := some ((-1 : Int32), μ)
noncomputable def f_X6_cut_31   (x1 : Int32) (x2 : Int32) (s0 : Int32) (s1 : Int32) (s2 : Int32) (μ : jM) : Option (Int32 × jM) := jcall (f_X6_in s2 s1 s0 μ) (fun (r6 : Int32) (μ6 : jM) => if r6 = (0 : Int32) then (f_X6_cut_37     μ6) else (if x1 = (0 : Int32) then (f_X6_cut_54    x1 x2 (μ6.1 0 6) μ6) else (f_X6_cut_54    x1 x2 (μ6.1 0 8) μ6)))
noncomputable def f_X6_cut (x1 : Int32) (x2 : Int32) (μ : jM) : Option (Int32 × jM) := jlet (jsI μ 0 13 (0 : Int32)) (fun μ9 : jM => jcall (f_X6_in x1 (0 : Int32) (1 : Int32) μ9) (fun (r10 : Int32) (μ10 : jM) => if r10 = (0 : Int32) then (f_X6_cut_37     μ10) else (if x1 = (0 : Int32) then (f_X6_cut_31    x1 x2 (μ10.1 0 6) (0 : Int32) x2 μ10) else (f_X6_cut_31    x1 x2 (μ10.1 0 8) (0 : Int32) x2 μ10))))
set_option maxHeartbeats 4000000 in
theorem t_X6_cut_87 {Γ : jC} {Δ : jD} {r : Int32} {μ9 : jM}    (X : jOk Γ Δ shM cX6_cut 4 RX6 (some .int) D_X6_cut)  : ∀ (x3 : Int32) (s0 : Int32) (μ : jM), f_X6_cut_87   x3 s0 μ = some (r, μ9) → jG Γ Δ shM (some (.int r), μ9) 87 [none, none, none, some (.int x3)] [.int s0, jr Δ 0] μ := by
  intro x3 s0 μ hf
  unfold f_X6_cut_87 at hf
  refine g_putI (pc := 87) (k := 8) X dX6_cut_87 cl_X6 rfl rfl (by decide) w_669 rfl rfl rfl ?_
  refine g_nmM (fun μ1 eμ1 => ?_)
  replace hf := jlet_i eμ1 hf
  refine g_ild_n (pc := 90) (i := 3) X dX6_cut_90 rfl rfl ?_
  exact g_iret (pc := 91) X dX6_cut_91 hf
set_option maxHeartbeats 4000000 in
theorem t_X6_cut_70 {Γ : jC} {Δ : jD} {r : Int32} {μ9 : jM}    (X : jOk Γ Δ shM cX6_cut 4 RX6 (some .int) D_X6_cut)  : ∀ (x1 : Int32) (x2 : Int32) (x3 : Int32) (s0 : Int32) (μ : jM), f_X6_cut_70   x1 x2 x3 s0 μ = some (r, μ9) → jG Γ Δ shM (some (.int r), μ9) 70 [some (jr Δ 0), some (.int x1), some (.int x2), some (.int x3)] [.int s0, jr Δ 0] μ := by
  intro x1 x2 x3 s0 μ hf
  unfold f_X6_cut_70 at hf
  refine g_putI (pc := 70) (k := 6) X dX6_cut_70 cl_X6 rfl rfl (by decide) w_667 rfl rfl rfl ?_
  refine g_nmM (fun μ2 eμ2 => ?_)
  replace hf := jlet_i eμ2 hf
  refine g_ald_n (pc := 73) (i := 0) X dX6_cut_73 rfl rfl ?_
  refine g_ild_n (pc := 74) (i := 1) X dX6_cut_74 rfl rfl ?_
  refine g_iconst (pc := 75) (v := (1 : Int32)) X dX6_cut_75 (by decide) ?_
  refine g_icmp_ne (pc := 76) 83 X dX6_cut_76 (by decide) (fun h3 => ?_) (fun h3 => ?_)
  · replace hf := jf_i h3 hf
    refine g_ald_n (pc := 83) (i := 0) X dX6_cut_83 rfl rfl ?_
    refine g_getI (pc := 84) (k := 8) X dX6_cut_84 cl_X6 rfl rfl (by decide) w_669 ?_
    exact g_weak (t_X6_cut_87  X   _ _ _ hf) (⟨rfl, trivial⟩)
  · replace hf := jt_i h3 hf
    refine g_ild_n (pc := 79) (i := 2) X dX6_cut_79 rfl rfl ?_
    refine g_goto (pc := 80) 87 X dX6_cut_80 (by decide) ?_
    exact g_weak (t_X6_cut_87  X   _ _ _ hf) (⟨rfl, trivial⟩)
set_option maxHeartbeats 4000000 in
theorem t_X6_cut_54 {Γ : jC} {Δ : jD} {r : Int32} {μ9 : jM}    (X : jOk Γ Δ shM cX6_cut 4 RX6 (some .int) D_X6_cut)  : ∀ (x1 : Int32) (x2 : Int32) (s0 : Int32) (μ : jM), f_X6_cut_54   x1 x2 s0 μ = some (r, μ9) → jG Γ Δ shM (some (.int r), μ9) 54 [some (jr Δ 0), some (.int x1), some (.int x2), none] [.int s0] μ := by
  intro x1 x2 s0 μ hf
  unfold f_X6_cut_54 at hf
  refine g_ild_n (pc := 54) (i := 2) X dX6_cut_54 rfl rfl ?_
  refine g_isub (pc := 55) X dX6_cut_55 ?_
  refine g_nmI (fun z4 ez4 => ?_)
  replace hf := jlet_i ez4 hf
  refine g_ist_n (pc := 56) (i := 3) (L1 := [some (jr Δ 0), some (.int x1), some (.int x2), some (.int z4)]) X dX6_cut_56 rfl (Nat.le_of_ble_eq_true rfl) rfl rfl ?_
  refine g_ald_n (pc := 57) (i := 0) X dX6_cut_57 rfl rfl ?_
  refine g_ild_n (pc := 58) (i := 1) X dX6_cut_58 rfl rfl ?_
  refine g_if_ne (pc := 59) 66 X dX6_cut_59 (by decide) (fun h5 => ?_) (fun h5 => ?_)
  · replace hf := jf_i h5 hf
    refine g_ald_n (pc := 66) (i := 0) X dX6_cut_66 rfl rfl ?_
    refine g_getI (pc := 67) (k := 6) X dX6_cut_67 cl_X6 rfl rfl (by decide) w_667 ?_
    exact g_weak (t_X6_cut_70  X   _ _ _ _ _ hf) (⟨rfl, ⟨rfl, ⟨rfl, ⟨rfl, trivial⟩⟩⟩⟩)
  · replace hf := jt_i h5 hf
    refine g_ild_n (pc := 62) (i := 2) X dX6_cut_62 rfl rfl ?_
    refine g_goto (pc := 63) 70 X dX6_cut_63 (by decide) ?_
    exact g_weak (t_X6_cut_70  X   _ _ _ _ _ hf) (⟨rfl, ⟨rfl, ⟨rfl, ⟨rfl, trivial⟩⟩⟩⟩)
set_option maxHeartbeats 4000000 in
theorem t_X6_cut_37 {Γ : jC} {Δ : jD} {r : Int32} {μ9 : jM}    (X : jOk Γ Δ shM cX6_cut 4 RX6 (some .int) D_X6_cut)  : ∀ (μ : jM), f_X6_cut_37    μ = some (r, μ9) → jG Γ Δ shM (some (.int r), μ9) 37 [none, none, none, none] [] μ := by
  intro  μ hf
  unfold f_X6_cut_37 at hf
  refine g_iconst (pc := 37) (v := (-1 : Int32)) X dX6_cut_37 (by decide) ?_
  exact g_iret (pc := 38) X dX6_cut_38 hf
set_option maxHeartbeats 4000000 in
theorem t_X6_cut_31 {Γ : jC} {Δ : jD} {r : Int32} {μ9 : jM}    (X : jOk Γ Δ shM cX6_cut 4 RX6 (some .int) D_X6_cut)  : ∀ (x1 : Int32) (x2 : Int32) (s0 : Int32) (s1 : Int32) (s2 : Int32) (μ : jM), f_X6_cut_31   x1 x2 s0 s1 s2 μ = some (r, μ9) → jG Γ Δ shM (some (.int r), μ9) 31 [some (jr Δ 0), some (.int x1), some (.int x2), none] [.int s0, .int s1, .int s2] μ := by
  intro x1 x2 s0 s1 s2 μ hf
  unfold f_X6_cut_31 at hf
  obtain ⟨r6, μ6, hc6, hf⟩ := jcall_i hf
  refine g_callSi (pc := 31) [.int s2, .int s1, .int s0] X dX6_cut_31 (M_X6_in  (jOk_sep X) hc6) Y_X6_in w_658 w_659 (by decide) rfl rfl (Nat.le_of_ble_eq_true rfl) rfl ?_
  refine g_if_ne (pc := 34) 39 X dX6_cut_34 (by decide) (fun h8 => ?_) (fun h8 => ?_)
  · replace hf := jf_i h8 hf
    refine g_ild_n (pc := 39) (i := 1) X dX6_cut_39 rfl rfl ?_
    refine g_if_ne (pc := 40) 50 X dX6_cut_40 (by decide) (fun h7 => ?_) (fun h7 => ?_)
    · replace hf := jf_i h7 hf
      refine g_ald_n (pc := 50) (i := 0) X dX6_cut_50 rfl rfl ?_
      refine g_getI (pc := 51) (k := 8) X dX6_cut_51 cl_X6 rfl rfl (by decide) w_669 ?_
      exact g_weak (t_X6_cut_54  X   _ _ _ _ hf) (⟨rfl, ⟨rfl, ⟨rfl, trivial⟩⟩⟩)
    · replace hf := jt_i h7 hf
      refine g_ald_n (pc := 43) (i := 0) X dX6_cut_43 rfl rfl ?_
      refine g_getI (pc := 44) (k := 6) X dX6_cut_44 cl_X6 rfl rfl (by decide) w_667 ?_
      refine g_goto (pc := 47) 54 X dX6_cut_47 (by decide) ?_
      exact g_weak (t_X6_cut_54  X   _ _ _ _ hf) (⟨rfl, ⟨rfl, ⟨rfl, trivial⟩⟩⟩)
  · replace hf := jt_i h8 hf
    exact g_weak (t_X6_cut_37  X    _ hf) (trivial)
set_option maxHeartbeats 4000000 in
theorem M_X6_cut {l : Launch} {Δ : jD} {r : Int32} {μ μ9 : jM} {x1 : Int32} {x2 : Int32}  (hsep : jSep Δ shM) (hf : f_X6_cut x1 x2 μ = some (r, μ9)) : jMet l yX6_cut cX6_cut 4 (some .int) D_X6_cut Δ shM [jr Δ 0, .int x1, .int x2] μ (some (.int r), μ9) := by
  refine jMet_of (own := RX6) (L := [some (jr Δ 0), some (.int x1), some (.int x2), none]) (by decide) rfl (Nat.le_of_ble_eq_true rfl) rfl hsep (fun Γ _ X => ?_)
  unfold f_X6_cut at hf
  refine g_ald_n (pc := 0) (i := 0) X dX6_cut_0 rfl rfl ?_
  refine g_iconst (pc := 1) (v := (0 : Int32)) X dX6_cut_1 (by decide) ?_
  refine g_putI (pc := 2) (k := 13) X dX6_cut_2 cl_X6 rfl rfl (by decide) w_674 rfl rfl rfl ?_
  refine g_nmM (fun μ9 eμ9 => ?_)
  replace hf := jlet_i eμ9 hf
  refine g_ild_n (pc := 5) (i := 1) X dX6_cut_5 rfl rfl ?_
  refine g_iconst (pc := 6) (v := (0 : Int32)) X dX6_cut_6 (by decide) ?_
  refine g_iconst (pc := 7) (v := (1 : Int32)) X dX6_cut_7 (by decide) ?_
  obtain ⟨r10, μ10, hc10, hf⟩ := jcall_i hf
  refine g_callSi (pc := 8) [.int x1, .int (0 : Int32), .int (1 : Int32)] X dX6_cut_8 (M_X6_in  (jOk_sep X) hc10) Y_X6_in w_658 w_659 (by decide) rfl rfl (Nat.le_of_ble_eq_true rfl) rfl ?_
  refine g_if_eq (pc := 11) 37 X dX6_cut_11 (by decide) (fun h12 => ?_) (fun h12 => ?_)
  · replace hf := jt_i h12 hf
    exact g_weak (t_X6_cut_37  X    _ hf) (trivial)
  · replace hf := jf_i h12 hf
    refine g_ild_n (pc := 14) (i := 2) X dX6_cut_14 rfl rfl ?_
    refine g_iconst (pc := 15) (v := (0 : Int32)) X dX6_cut_15 (by decide) ?_
    refine g_ild_n (pc := 16) (i := 1) X dX6_cut_16 rfl rfl ?_
    refine g_if_ne (pc := 17) 27 X dX6_cut_17 (by decide) (fun h11 => ?_) (fun h11 => ?_)
    · replace hf := jf_i h11 hf
      refine g_ald_n (pc := 27) (i := 0) X dX6_cut_27 rfl rfl ?_
      refine g_getI (pc := 28) (k := 8) X dX6_cut_28 cl_X6 rfl rfl (by decide) w_669 ?_
      exact g_weak (t_X6_cut_31  X   _ _ _ _ _ _ hf) (⟨rfl, ⟨rfl, ⟨rfl, trivial⟩⟩⟩)
    · replace hf := jt_i h11 hf
      refine g_ald_n (pc := 20) (i := 0) X dX6_cut_20 rfl rfl ?_
      refine g_getI (pc := 21) (k := 6) X dX6_cut_21 cl_X6 rfl rfl (by decide) w_667 ?_
      refine g_goto (pc := 24) 31 X dX6_cut_24 (by decide) ?_
      exact g_weak (t_X6_cut_31  X   _ _ _ _ _ _ hf) (⟨rfl, ⟨rfl, ⟨rfl, trivial⟩⟩⟩)
/-! X6_rule -/
abbrev D_X6_rule : Nat := 1
noncomputable def f_X6_rule_214   (x4 : Int32) (s0 : Int32) (μ : jM) : Option (Int32 × jM) := jlet (jsI μ 0 4 s0) (fun μ1 : jM => some (x4, μ1))
noncomputable def f_X6_rule_197   (x1 : Int32) (x2 : Int32) (x4 : Int32) (s0 : Int32) (μ : jM) : Option (Int32 × jM) := jlet (jsI μ 0 3 s0) (fun μ2 : jM => if x1 = (3 : Int32) then (f_X6_rule_214    x4 x2 μ2) else (f_X6_rule_214    x4 (μ2.1 0 4) μ2))
noncomputable def f_X6_rule_180   (x1 : Int32) (x2 : Int32) (x4 : Int32) (s0 : Int32) (μ : jM) : Option (Int32 × jM) := jlet (jsI μ 0 2 s0) (fun μ4 : jM => if x1 = (2 : Int32) then (f_X6_rule_197    x1 x2 x4 x2 μ4) else (f_X6_rule_197    x1 x2 x4 (μ4.1 0 3) μ4))
noncomputable def f_X6_rule_163   (x1 : Int32) (x2 : Int32) (x4 : Int32) (s0 : Int32) (μ : jM) : Option (Int32 × jM) := jlet (jsI μ 0 1 s0) (fun μ6 : jM => if x1 = (1 : Int32) then (f_X6_rule_180    x1 x2 x4 x2 μ6) else (f_X6_rule_180    x1 x2 x4 (μ6.1 0 2) μ6))
noncomputable def f_X6_rule_148   (x1 : Int32) (x2 : Int32) (s0 : Int32) (μ : jM) : Option (Int32 × jM) := if x1 = (0 : Int32) then (f_X6_rule_163    x1 x2 s0 x2 μ) else (f_X6_rule_163    x1 x2 s0 (μ.1 0 1) μ)
noncomputable def f_X6_rule_109   (x1 : Int32) (x2 : Int32) (μ : jM) : Option (Int32 × jM) := if x1 = (0 : Int32) then (f_X6_rule_148    x1 x2 (μ.1 0 1) μ) else (if x1 = (1 : Int32) then (f_X6_rule_148    x1 x2 (μ.1 0 2) μ) else (if x1 = (2 : Int32) then (f_X6_rule_148    x1 x2 (μ.1 0 3) μ) else (f_X6_rule_148    x1 x2 (μ.1 0 4) μ)))
noncomputable def f_X6_rule_106    (μ : jM) : Option (Int32 × jM) := some ((-3 : Int32), μ)
noncomputable def f_X6_rule_82   (x1 : Int32) (x2 : Int32) (s0 : Int32) (μ : jM) : Option (Int32 × jM) := if s0 = (0 : Int32) then (some ((-1 : Int32), μ)) else (if (μ.1 0 0) = (2 : Int32) then (if x1 = (0 : Int32) then (f_X6_rule_106     μ) else (if x1 = (3 : Int32) then (f_X6_rule_106     μ) else (f_X6_rule_109    x1 x2 μ))) else (f_X6_rule_109    x1 x2 μ))
noncomputable def f_X6_rule_81   (x1 : Int32) (x2 : Int32) (μ : jM) : Option (Int32 × jM) := f_X6_rule_82    x1 x2 (0 : Int32) μ
noncomputable def f_X6_rule_24   (x1 : Int32) (x2 : Int32) (μ : jM) : Option (Int32 × jM) := f_X6_rule_82    x1 x2 (1 : Int32) μ
noncomputable def f_X6_rule (x1 : Int32) (x2 : Int32) (μ : jM) : Option (Int32 × jM) := jlet (jsI μ 0 13 (0 : Int32)) (fun μ16 : jM => if x1 = (0 : Int32) then (if x2 = (1 : Int32) then (f_X6_rule_24    x1 x2 μ16) else (if x2 = (2 : Int32) then (f_X6_rule_24    x1 x2 μ16) else (if x2 = (4 : Int32) then (f_X6_rule_24    x1 x2 μ16) else (f_X6_rule_82    x1 x2 (0 : Int32) μ16)))) else (if x1 = (1 : Int32) then (jcall (f_X6_in x2 (1 : Int32) (60 : Int32) μ16) (fun (r22 : Int32) (μ22 : jM) => f_X6_rule_82    x1 x2 r22 μ22)) else (if x1 = (2 : Int32) then (jcall (f_X6_in x2 (0 : Int32) (255 : Int32) μ16) (fun (r20 : Int32) (μ20 : jM) => f_X6_rule_82    x1 x2 r20 μ20)) else (if x1 = (3 : Int32) then (jcall (f_X6_in x2 (0 : Int32) (1 : Int32) μ16) (fun (r17 : Int32) (μ17 : jM) => if r17 = (0 : Int32) then (f_X6_rule_81    x1 x2 μ17) else (f_X6_rule_82    x1 x2 (1 : Int32) μ17))) else (f_X6_rule_81    x1 x2 μ16)))))
set_option maxHeartbeats 4000000 in
theorem t_X6_rule_214 {Γ : jC} {Δ : jD} {r : Int32} {μ9 : jM}    (X : jOk Γ Δ shM cX6_rule 5 RX6 (some .int) D_X6_rule)  : ∀ (x4 : Int32) (s0 : Int32) (μ : jM), f_X6_rule_214   x4 s0 μ = some (r, μ9) → jG Γ Δ shM (some (.int r), μ9) 214 [none, none, none, none, some (.int x4)] [.int s0, jr Δ 0] μ := by
  intro x4 s0 μ hf
  unfold f_X6_rule_214 at hf
  refine g_putI (pc := 214) (k := 4) X dX6_rule_214 cl_X6 rfl rfl (by decide) w_665 rfl rfl rfl ?_
  refine g_nmM (fun μ1 eμ1 => ?_)
  replace hf := jlet_i eμ1 hf
  refine g_ild (pc := 217) X dX6_rule_217 rfl ?_
  exact g_iret (pc := 219) X dX6_rule_219 hf
set_option maxHeartbeats 4000000 in
theorem t_X6_rule_197 {Γ : jC} {Δ : jD} {r : Int32} {μ9 : jM}    (X : jOk Γ Δ shM cX6_rule 5 RX6 (some .int) D_X6_rule)  : ∀ (x1 : Int32) (x2 : Int32) (x4 : Int32) (s0 : Int32) (μ : jM), f_X6_rule_197   x1 x2 x4 s0 μ = some (r, μ9) → jG Γ Δ shM (some (.int r), μ9) 197 [some (jr Δ 0), some (.int x1), some (.int x2), none, some (.int x4)] [.int s0, jr Δ 0] μ := by
  intro x1 x2 x4 s0 μ hf
  unfold f_X6_rule_197 at hf
  refine g_putI (pc := 197) (k := 3) X dX6_rule_197 cl_X6 rfl rfl (by decide) w_664 rfl rfl rfl ?_
  refine g_nmM (fun μ2 eμ2 => ?_)
  replace hf := jlet_i eμ2 hf
  refine g_ald_n (pc := 200) (i := 0) X dX6_rule_200 rfl rfl ?_
  refine g_ild_n (pc := 201) (i := 1) X dX6_rule_201 rfl rfl ?_
  refine g_iconst (pc := 202) (v := (3 : Int32)) X dX6_rule_202 (by decide) ?_
  refine g_icmp_ne (pc := 203) 210 X dX6_rule_203 (by decide) (fun h3 => ?_) (fun h3 => ?_)
  · replace hf := jf_i h3 hf
    refine g_ald_n (pc := 210) (i := 0) X dX6_rule_210 rfl rfl ?_
    refine g_getI (pc := 211) (k := 4) X dX6_rule_211 cl_X6 rfl rfl (by decide) w_665 ?_
    exact g_weak (t_X6_rule_214  X   _ _ _ hf) (⟨rfl, trivial⟩)
  · replace hf := jt_i h3 hf
    refine g_ild_n (pc := 206) (i := 2) X dX6_rule_206 rfl rfl ?_
    refine g_goto (pc := 207) 214 X dX6_rule_207 (by decide) ?_
    exact g_weak (t_X6_rule_214  X   _ _ _ hf) (⟨rfl, trivial⟩)
set_option maxHeartbeats 4000000 in
theorem t_X6_rule_180 {Γ : jC} {Δ : jD} {r : Int32} {μ9 : jM}    (X : jOk Γ Δ shM cX6_rule 5 RX6 (some .int) D_X6_rule)  : ∀ (x1 : Int32) (x2 : Int32) (x4 : Int32) (s0 : Int32) (μ : jM), f_X6_rule_180   x1 x2 x4 s0 μ = some (r, μ9) → jG Γ Δ shM (some (.int r), μ9) 180 [some (jr Δ 0), some (.int x1), some (.int x2), none, some (.int x4)] [.int s0, jr Δ 0] μ := by
  intro x1 x2 x4 s0 μ hf
  unfold f_X6_rule_180 at hf
  refine g_putI (pc := 180) (k := 2) X dX6_rule_180 cl_X6 rfl rfl (by decide) w_663 rfl rfl rfl ?_
  refine g_nmM (fun μ4 eμ4 => ?_)
  replace hf := jlet_i eμ4 hf
  refine g_ald_n (pc := 183) (i := 0) X dX6_rule_183 rfl rfl ?_
  refine g_ild_n (pc := 184) (i := 1) X dX6_rule_184 rfl rfl ?_
  refine g_iconst (pc := 185) (v := (2 : Int32)) X dX6_rule_185 (by decide) ?_
  refine g_icmp_ne (pc := 186) 193 X dX6_rule_186 (by decide) (fun h5 => ?_) (fun h5 => ?_)
  · replace hf := jf_i h5 hf
    refine g_ald_n (pc := 193) (i := 0) X dX6_rule_193 rfl rfl ?_
    refine g_getI (pc := 194) (k := 3) X dX6_rule_194 cl_X6 rfl rfl (by decide) w_664 ?_
    exact g_weak (t_X6_rule_197  X   _ _ _ _ _ hf) (⟨rfl, ⟨rfl, ⟨rfl, ⟨rfl, trivial⟩⟩⟩⟩)
  · replace hf := jt_i h5 hf
    refine g_ild_n (pc := 189) (i := 2) X dX6_rule_189 rfl rfl ?_
    refine g_goto (pc := 190) 197 X dX6_rule_190 (by decide) ?_
    exact g_weak (t_X6_rule_197  X   _ _ _ _ _ hf) (⟨rfl, ⟨rfl, ⟨rfl, ⟨rfl, trivial⟩⟩⟩⟩)
set_option maxHeartbeats 4000000 in
theorem t_X6_rule_163 {Γ : jC} {Δ : jD} {r : Int32} {μ9 : jM}    (X : jOk Γ Δ shM cX6_rule 5 RX6 (some .int) D_X6_rule)  : ∀ (x1 : Int32) (x2 : Int32) (x4 : Int32) (s0 : Int32) (μ : jM), f_X6_rule_163   x1 x2 x4 s0 μ = some (r, μ9) → jG Γ Δ shM (some (.int r), μ9) 163 [some (jr Δ 0), some (.int x1), some (.int x2), none, some (.int x4)] [.int s0, jr Δ 0] μ := by
  intro x1 x2 x4 s0 μ hf
  unfold f_X6_rule_163 at hf
  refine g_putI (pc := 163) (k := 1) X dX6_rule_163 cl_X6 rfl rfl (by decide) w_662 rfl rfl rfl ?_
  refine g_nmM (fun μ6 eμ6 => ?_)
  replace hf := jlet_i eμ6 hf
  refine g_ald_n (pc := 166) (i := 0) X dX6_rule_166 rfl rfl ?_
  refine g_ild_n (pc := 167) (i := 1) X dX6_rule_167 rfl rfl ?_
  refine g_iconst (pc := 168) (v := (1 : Int32)) X dX6_rule_168 (by decide) ?_
  refine g_icmp_ne (pc := 169) 176 X dX6_rule_169 (by decide) (fun h7 => ?_) (fun h7 => ?_)
  · replace hf := jf_i h7 hf
    refine g_ald_n (pc := 176) (i := 0) X dX6_rule_176 rfl rfl ?_
    refine g_getI (pc := 177) (k := 2) X dX6_rule_177 cl_X6 rfl rfl (by decide) w_663 ?_
    exact g_weak (t_X6_rule_180  X   _ _ _ _ _ hf) (⟨rfl, ⟨rfl, ⟨rfl, ⟨rfl, trivial⟩⟩⟩⟩)
  · replace hf := jt_i h7 hf
    refine g_ild_n (pc := 172) (i := 2) X dX6_rule_172 rfl rfl ?_
    refine g_goto (pc := 173) 180 X dX6_rule_173 (by decide) ?_
    exact g_weak (t_X6_rule_180  X   _ _ _ _ _ hf) (⟨rfl, ⟨rfl, ⟨rfl, ⟨rfl, trivial⟩⟩⟩⟩)
set_option maxHeartbeats 4000000 in
theorem t_X6_rule_148 {Γ : jC} {Δ : jD} {r : Int32} {μ9 : jM}    (X : jOk Γ Δ shM cX6_rule 5 RX6 (some .int) D_X6_rule)  : ∀ (x1 : Int32) (x2 : Int32) (s0 : Int32) (μ : jM), f_X6_rule_148   x1 x2 s0 μ = some (r, μ9) → jG Γ Δ shM (some (.int r), μ9) 148 [some (jr Δ 0), some (.int x1), some (.int x2), none, none] [.int s0] μ := by
  intro x1 x2 s0 μ hf
  unfold f_X6_rule_148 at hf
  refine g_ist (pc := 148) (L1 := [some (jr Δ 0), some (.int x1), some (.int x2), none, some (.int s0)]) X dX6_rule_148 (Nat.le_of_ble_eq_true rfl) rfl rfl ?_
  refine g_ald_n (pc := 150) (i := 0) X dX6_rule_150 rfl rfl ?_
  refine g_ild_n (pc := 151) (i := 1) X dX6_rule_151 rfl rfl ?_
  refine g_if_ne (pc := 152) 159 X dX6_rule_152 (by decide) (fun h8 => ?_) (fun h8 => ?_)
  · replace hf := jf_i h8 hf
    refine g_ald_n (pc := 159) (i := 0) X dX6_rule_159 rfl rfl ?_
    refine g_getI (pc := 160) (k := 1) X dX6_rule_160 cl_X6 rfl rfl (by decide) w_662 ?_
    exact g_weak (t_X6_rule_163  X   _ _ _ _ _ hf) (⟨rfl, ⟨rfl, ⟨rfl, ⟨rfl, trivial⟩⟩⟩⟩)
  · replace hf := jt_i h8 hf
    refine g_ild_n (pc := 155) (i := 2) X dX6_rule_155 rfl rfl ?_
    refine g_goto (pc := 156) 163 X dX6_rule_156 (by decide) ?_
    exact g_weak (t_X6_rule_163  X   _ _ _ _ _ hf) (⟨rfl, ⟨rfl, ⟨rfl, ⟨rfl, trivial⟩⟩⟩⟩)
set_option maxHeartbeats 4000000 in
theorem t_X6_rule_109 {Γ : jC} {Δ : jD} {r : Int32} {μ9 : jM}    (X : jOk Γ Δ shM cX6_rule 5 RX6 (some .int) D_X6_rule)  : ∀ (x1 : Int32) (x2 : Int32) (μ : jM), f_X6_rule_109   x1 x2 μ = some (r, μ9) → jG Γ Δ shM (some (.int r), μ9) 109 [some (jr Δ 0), some (.int x1), some (.int x2), none, none] [] μ := by
  intro x1 x2 μ hf
  unfold f_X6_rule_109 at hf
  refine g_ild_n (pc := 109) (i := 1) X dX6_rule_109 rfl rfl ?_
  refine g_if_ne (pc := 110) 120 X dX6_rule_110 (by decide) (fun h11 => ?_) (fun h11 => ?_)
  · replace hf := jf_i h11 hf
    refine g_ild_n (pc := 120) (i := 1) X dX6_rule_120 rfl rfl ?_
    refine g_iconst (pc := 121) (v := (1 : Int32)) X dX6_rule_121 (by decide) ?_
    refine g_icmp_ne (pc := 122) 132 X dX6_rule_122 (by decide) (fun h10 => ?_) (fun h10 => ?_)
    · replace hf := jf_i h10 hf
      refine g_ild_n (pc := 132) (i := 1) X dX6_rule_132 rfl rfl ?_
      refine g_iconst (pc := 133) (v := (2 : Int32)) X dX6_rule_133 (by decide) ?_
      refine g_icmp_ne (pc := 134) 144 X dX6_rule_134 (by decide) (fun h9 => ?_) (fun h9 => ?_)
      · replace hf := jf_i h9 hf
        refine g_ald_n (pc := 144) (i := 0) X dX6_rule_144 rfl rfl ?_
        refine g_getI (pc := 145) (k := 4) X dX6_rule_145 cl_X6 rfl rfl (by decide) w_665 ?_
        exact g_weak (t_X6_rule_148  X   _ _ _ _ hf) (⟨rfl, ⟨rfl, ⟨rfl, trivial⟩⟩⟩)
      · replace hf := jt_i h9 hf
        refine g_ald_n (pc := 137) (i := 0) X dX6_rule_137 rfl rfl ?_
        refine g_getI (pc := 138) (k := 3) X dX6_rule_138 cl_X6 rfl rfl (by decide) w_664 ?_
        refine g_goto (pc := 141) 148 X dX6_rule_141 (by decide) ?_
        exact g_weak (t_X6_rule_148  X   _ _ _ _ hf) (⟨rfl, ⟨rfl, ⟨rfl, trivial⟩⟩⟩)
    · replace hf := jt_i h10 hf
      refine g_ald_n (pc := 125) (i := 0) X dX6_rule_125 rfl rfl ?_
      refine g_getI (pc := 126) (k := 2) X dX6_rule_126 cl_X6 rfl rfl (by decide) w_663 ?_
      refine g_goto (pc := 129) 148 X dX6_rule_129 (by decide) ?_
      exact g_weak (t_X6_rule_148  X   _ _ _ _ hf) (⟨rfl, ⟨rfl, ⟨rfl, trivial⟩⟩⟩)
  · replace hf := jt_i h11 hf
    refine g_ald_n (pc := 113) (i := 0) X dX6_rule_113 rfl rfl ?_
    refine g_getI (pc := 114) (k := 1) X dX6_rule_114 cl_X6 rfl rfl (by decide) w_662 ?_
    refine g_goto (pc := 117) 148 X dX6_rule_117 (by decide) ?_
    exact g_weak (t_X6_rule_148  X   _ _ _ _ hf) (⟨rfl, ⟨rfl, ⟨rfl, trivial⟩⟩⟩)
set_option maxHeartbeats 4000000 in
theorem t_X6_rule_106 {Γ : jC} {Δ : jD} {r : Int32} {μ9 : jM}    (X : jOk Γ Δ shM cX6_rule 5 RX6 (some .int) D_X6_rule)  : ∀ (μ : jM), f_X6_rule_106    μ = some (r, μ9) → jG Γ Δ shM (some (.int r), μ9) 106 [none, none, none, none, none] [] μ := by
  intro  μ hf
  unfold f_X6_rule_106 at hf
  refine g_bipush (pc := 106) (v := (-3 : Int32)) X dX6_rule_106 (by decide) ?_
  exact g_iret (pc := 108) X dX6_rule_108 hf
set_option maxHeartbeats 4000000 in
theorem t_X6_rule_82 {Γ : jC} {Δ : jD} {r : Int32} {μ9 : jM}    (X : jOk Γ Δ shM cX6_rule 5 RX6 (some .int) D_X6_rule)  : ∀ (x1 : Int32) (x2 : Int32) (s0 : Int32) (μ : jM), f_X6_rule_82   x1 x2 s0 μ = some (r, μ9) → jG Γ Δ shM (some (.int r), μ9) 82 [some (jr Δ 0), some (.int x1), some (.int x2), none, none] [.int s0] μ := by
  intro x1 x2 s0 μ hf
  unfold f_X6_rule_82 at hf
  refine g_ist_n (pc := 82) (i := 3) (L1 := [some (jr Δ 0), some (.int x1), some (.int x2), some (.int s0), none]) X dX6_rule_82 rfl (Nat.le_of_ble_eq_true rfl) rfl rfl ?_
  refine g_ild_n (pc := 83) (i := 3) X dX6_rule_83 rfl rfl ?_
  refine g_if_ne (pc := 84) 89 X dX6_rule_84 (by decide) (fun h15 => ?_) (fun h15 => ?_)
  · replace hf := jf_i h15 hf
    refine g_ald_n (pc := 89) (i := 0) X dX6_rule_89 rfl rfl ?_
    refine g_getI (pc := 90) (k := 0) X dX6_rule_90 cl_X6 rfl rfl (by decide) w_661 ?_
    refine g_iconst (pc := 93) (v := (2 : Int32)) X dX6_rule_93 (by decide) ?_
    refine g_icmp_ne (pc := 94) 109 X dX6_rule_94 (by decide) (fun h14 => ?_) (fun h14 => ?_)
    · replace hf := jf_i h14 hf
      exact g_weak (t_X6_rule_109  X   _ _ _ hf) (⟨rfl, ⟨rfl, ⟨rfl, trivial⟩⟩⟩)
    · replace hf := jt_i h14 hf
      refine g_ild_n (pc := 97) (i := 1) X dX6_rule_97 rfl rfl ?_
      refine g_if_eq (pc := 98) 106 X dX6_rule_98 (by decide) (fun h13 => ?_) (fun h13 => ?_)
      · replace hf := jt_i h13 hf
        exact g_weak (t_X6_rule_106  X    _ hf) (trivial)
      · replace hf := jf_i h13 hf
        refine g_ild_n (pc := 101) (i := 1) X dX6_rule_101 rfl rfl ?_
        refine g_iconst (pc := 102) (v := (3 : Int32)) X dX6_rule_102 (by decide) ?_
        refine g_icmp_ne (pc := 103) 109 X dX6_rule_103 (by decide) (fun h12 => ?_) (fun h12 => ?_)
        · replace hf := jf_i h12 hf
          exact g_weak (t_X6_rule_109  X   _ _ _ hf) (⟨rfl, ⟨rfl, ⟨rfl, trivial⟩⟩⟩)
        · replace hf := jt_i h12 hf
          exact g_weak (t_X6_rule_106  X    _ hf) (trivial)
  · replace hf := jt_i h15 hf
    refine g_iconst (pc := 87) (v := (-1 : Int32)) X dX6_rule_87 (by decide) ?_
    exact g_iret (pc := 88) X dX6_rule_88 hf
set_option maxHeartbeats 4000000 in
theorem t_X6_rule_81 {Γ : jC} {Δ : jD} {r : Int32} {μ9 : jM}    (X : jOk Γ Δ shM cX6_rule 5 RX6 (some .int) D_X6_rule)  : ∀ (x1 : Int32) (x2 : Int32) (μ : jM), f_X6_rule_81   x1 x2 μ = some (r, μ9) → jG Γ Δ shM (some (.int r), μ9) 81 [some (jr Δ 0), some (.int x1), some (.int x2), none, none] [] μ := by
  intro x1 x2 μ hf
  unfold f_X6_rule_81 at hf
  refine g_iconst (pc := 81) (v := (0 : Int32)) X dX6_rule_81 (by decide) ?_
  exact g_weak (t_X6_rule_82  X   _ _ _ _ hf) (⟨rfl, ⟨rfl, ⟨rfl, trivial⟩⟩⟩)
set_option maxHeartbeats 4000000 in
theorem t_X6_rule_24 {Γ : jC} {Δ : jD} {r : Int32} {μ9 : jM}    (X : jOk Γ Δ shM cX6_rule 5 RX6 (some .int) D_X6_rule)  : ∀ (x1 : Int32) (x2 : Int32) (μ : jM), f_X6_rule_24   x1 x2 μ = some (r, μ9) → jG Γ Δ shM (some (.int r), μ9) 24 [some (jr Δ 0), some (.int x1), some (.int x2), none, none] [] μ := by
  intro x1 x2 μ hf
  unfold f_X6_rule_24 at hf
  refine g_iconst (pc := 24) (v := (1 : Int32)) X dX6_rule_24 (by decide) ?_
  refine g_goto (pc := 25) 82 X dX6_rule_25 (by decide) ?_
  exact g_weak (t_X6_rule_82  X   _ _ _ _ hf) (⟨rfl, ⟨rfl, ⟨rfl, trivial⟩⟩⟩)
set_option maxHeartbeats 4000000 in
theorem M_X6_rule {l : Launch} {Δ : jD} {r : Int32} {μ μ9 : jM} {x1 : Int32} {x2 : Int32}  (hsep : jSep Δ shM) (hf : f_X6_rule x1 x2 μ = some (r, μ9)) : jMet l yX6_rule cX6_rule 5 (some .int) D_X6_rule Δ shM [jr Δ 0, .int x1, .int x2] μ (some (.int r), μ9) := by
  refine jMet_of (own := RX6) (L := [some (jr Δ 0), some (.int x1), some (.int x2), none, none]) (by decide) rfl (Nat.le_of_ble_eq_true rfl) rfl hsep (fun Γ _ X => ?_)
  unfold f_X6_rule at hf
  refine g_ald_n (pc := 0) (i := 0) X dX6_rule_0 rfl rfl ?_
  refine g_iconst (pc := 1) (v := (0 : Int32)) X dX6_rule_1 (by decide) ?_
  refine g_putI (pc := 2) (k := 13) X dX6_rule_2 cl_X6 rfl rfl (by decide) w_674 rfl rfl rfl ?_
  refine g_nmM (fun μ16 eμ16 => ?_)
  replace hf := jlet_i eμ16 hf
  refine g_ild_n (pc := 5) (i := 1) X dX6_rule_5 rfl rfl ?_
  refine g_if_ne (pc := 6) 32 X dX6_rule_6 (by decide) (fun h27 => ?_) (fun h27 => ?_)
  · replace hf := jf_i h27 hf
    refine g_ild_n (pc := 32) (i := 1) X dX6_rule_32 rfl rfl ?_
    refine g_iconst (pc := 33) (v := (1 : Int32)) X dX6_rule_33 (by decide) ?_
    refine g_icmp_ne (pc := 34) 47 X dX6_rule_34 (by decide) (fun h23 => ?_) (fun h23 => ?_)
    · replace hf := jf_i h23 hf
      refine g_ild_n (pc := 47) (i := 1) X dX6_rule_47 rfl rfl ?_
      refine g_iconst (pc := 48) (v := (2 : Int32)) X dX6_rule_48 (by decide) ?_
      refine g_icmp_ne (pc := 49) 63 X dX6_rule_49 (by decide) (fun h21 => ?_) (fun h21 => ?_)
      · replace hf := jf_i h21 hf
        refine g_ild_n (pc := 63) (i := 1) X dX6_rule_63 rfl rfl ?_
        refine g_iconst (pc := 64) (v := (3 : Int32)) X dX6_rule_64 (by decide) ?_
        refine g_icmp_ne (pc := 65) 81 X dX6_rule_65 (by decide) (fun h19 => ?_) (fun h19 => ?_)
        · replace hf := jf_i h19 hf
          exact g_weak (t_X6_rule_81  X   _ _ _ hf) (⟨rfl, ⟨rfl, ⟨rfl, trivial⟩⟩⟩)
        · replace hf := jt_i h19 hf
          refine g_ild_n (pc := 68) (i := 2) X dX6_rule_68 rfl rfl ?_
          refine g_iconst (pc := 69) (v := (0 : Int32)) X dX6_rule_69 (by decide) ?_
          refine g_iconst (pc := 70) (v := (1 : Int32)) X dX6_rule_70 (by decide) ?_
          obtain ⟨r17, μ17, hc17, hf⟩ := jcall_i hf
          refine g_callSi (pc := 71) [.int x2, .int (0 : Int32), .int (1 : Int32)] X dX6_rule_71 (M_X6_in  (jOk_sep X) hc17) Y_X6_in w_658 w_659 (by decide) rfl rfl (Nat.le_of_ble_eq_true rfl) rfl ?_
          refine g_if_eq (pc := 74) 81 X dX6_rule_74 (by decide) (fun h18 => ?_) (fun h18 => ?_)
          · replace hf := jt_i h18 hf
            exact g_weak (t_X6_rule_81  X   _ _ _ hf) (⟨rfl, ⟨rfl, ⟨rfl, trivial⟩⟩⟩)
          · replace hf := jf_i h18 hf
            refine g_iconst (pc := 77) (v := (1 : Int32)) X dX6_rule_77 (by decide) ?_
            refine g_goto (pc := 78) 82 X dX6_rule_78 (by decide) ?_
            exact g_weak (t_X6_rule_82  X   _ _ _ _ hf) (⟨rfl, ⟨rfl, ⟨rfl, trivial⟩⟩⟩)
      · replace hf := jt_i h21 hf
        refine g_ild_n (pc := 52) (i := 2) X dX6_rule_52 rfl rfl ?_
        refine g_iconst (pc := 53) (v := (0 : Int32)) X dX6_rule_53 (by decide) ?_
        refine g_sipush (pc := 54) (v := (255 : Int32)) X dX6_rule_54 (by decide) ?_
        obtain ⟨r20, μ20, hc20, hf⟩ := jcall_i hf
        refine g_callSi (pc := 57) [.int x2, .int (0 : Int32), .int (255 : Int32)] X dX6_rule_57 (M_X6_in  (jOk_sep X) hc20) Y_X6_in w_658 w_659 (by decide) rfl rfl (Nat.le_of_ble_eq_true rfl) rfl ?_
        refine g_goto (pc := 60) 82 X dX6_rule_60 (by decide) ?_
        exact g_weak (t_X6_rule_82  X   _ _ _ _ hf) (⟨rfl, ⟨rfl, ⟨rfl, trivial⟩⟩⟩)
    · replace hf := jt_i h23 hf
      refine g_ild_n (pc := 37) (i := 2) X dX6_rule_37 rfl rfl ?_
      refine g_iconst (pc := 38) (v := (1 : Int32)) X dX6_rule_38 (by decide) ?_
      refine g_bipush (pc := 39) (v := (60 : Int32)) X dX6_rule_39 (by decide) ?_
      obtain ⟨r22, μ22, hc22, hf⟩ := jcall_i hf
      refine g_callSi (pc := 41) [.int x2, .int (1 : Int32), .int (60 : Int32)] X dX6_rule_41 (M_X6_in  (jOk_sep X) hc22) Y_X6_in w_658 w_659 (by decide) rfl rfl (Nat.le_of_ble_eq_true rfl) rfl ?_
      refine g_goto (pc := 44) 82 X dX6_rule_44 (by decide) ?_
      exact g_weak (t_X6_rule_82  X   _ _ _ _ hf) (⟨rfl, ⟨rfl, ⟨rfl, trivial⟩⟩⟩)
  · replace hf := jt_i h27 hf
    refine g_ild_n (pc := 9) (i := 2) X dX6_rule_9 rfl rfl ?_
    refine g_iconst (pc := 10) (v := (1 : Int32)) X dX6_rule_10 (by decide) ?_
    refine g_icmp_eq (pc := 11) 24 X dX6_rule_11 (by decide) (fun h26 => ?_) (fun h26 => ?_)
    · replace hf := jt_i h26 hf
      exact g_weak (t_X6_rule_24  X   _ _ _ hf) (⟨rfl, ⟨rfl, ⟨rfl, trivial⟩⟩⟩)
    · replace hf := jf_i h26 hf
      refine g_ild_n (pc := 14) (i := 2) X dX6_rule_14 rfl rfl ?_
      refine g_iconst (pc := 15) (v := (2 : Int32)) X dX6_rule_15 (by decide) ?_
      refine g_icmp_eq (pc := 16) 24 X dX6_rule_16 (by decide) (fun h25 => ?_) (fun h25 => ?_)
      · replace hf := jt_i h25 hf
        exact g_weak (t_X6_rule_24  X   _ _ _ hf) (⟨rfl, ⟨rfl, ⟨rfl, trivial⟩⟩⟩)
      · replace hf := jf_i h25 hf
        refine g_ild_n (pc := 19) (i := 2) X dX6_rule_19 rfl rfl ?_
        refine g_iconst (pc := 20) (v := (4 : Int32)) X dX6_rule_20 (by decide) ?_
        refine g_icmp_ne (pc := 21) 28 X dX6_rule_21 (by decide) (fun h24 => ?_) (fun h24 => ?_)
        · replace hf := jf_i h24 hf
          refine g_iconst (pc := 28) (v := (0 : Int32)) X dX6_rule_28 (by decide) ?_
          refine g_goto (pc := 29) 82 X dX6_rule_29 (by decide) ?_
          exact g_weak (t_X6_rule_82  X   _ _ _ _ hf) (⟨rfl, ⟨rfl, ⟨rfl, trivial⟩⟩⟩)
        · replace hf := jt_i h24 hf
          exact g_weak (t_X6_rule_24  X   _ _ _ hf) (⟨rfl, ⟨rfl, ⟨rfl, trivial⟩⟩⟩)
/-! X6_unitOf -/
abbrev D_X6_unitOf : Nat := 0
noncomputable def f_X6_unitOf_5   : Nat → Int32 → Int64 → Int32 → jM → Option (Int64 × jM)
  | 0, _, _, _, _ => none
  | fu + 1, x1, x2, x4, μ => if (μ.1 0 1) ≤ x4 then (some (x2, μ)) else (jin (((μ.1 0 1) * x1) + x4) 240 (jlet ((x2 <<< (((8 : Int32)).toInt64 &&& 63)) ||| ((μ.1 1 ((((μ.1 0 1) * x1) + x4)).toNatClampNeg)).toInt64) (fun z2 : Int64 => jlet (x4 + (1 : Int32)) (fun z3 : Int32 => f_X6_unitOf_5   fu x1 z2 z3 μ))))
noncomputable def f_X6_unitOf (x1 : Int32) (μ : jM) : Option (Int64 × jM) := f_X6_unitOf_5   jFU x1 (0 : Int64) (0 : Int32) μ
set_option maxHeartbeats 4000000 in
theorem t_X6_unitOf_5 {Γ : jC} {Δ : jD} {r : Int64} {μ9 : jM}    (X : jOk Γ Δ shM cX6_unitOf 5 RX6 (some .long) D_X6_unitOf)  : ∀ (fu : Nat) (x1 : Int32) (x2 : Int64) (x4 : Int32) (μ : jM), f_X6_unitOf_5   fu x1 x2 x4 μ = some (r, μ9) → jG Γ Δ shM (some (.long r), μ9) 5 [some (jr Δ 0), some (.int x1), some (.long x2), none, some (.int x4)] [] μ := by
  intro fu
  induction fu with
  | zero =>
    intro x1 x2 x4 μ hf
    cases hf
  | succ fu ih =>
    intro x1 x2 x4 μ hf
    replace hf := (f_X6_unitOf_5.eq_2 _ _ _ _ _).symm.trans hf
    refine g_ild (pc := 5) X dX6_unitOf_5 rfl ?_
    refine g_ald_n (pc := 7) (i := 0) X dX6_unitOf_7 rfl rfl ?_
    refine g_getI (pc := 8) (k := 1) X dX6_unitOf_8 cl_X6 rfl rfl (by decide) w_662 ?_
    refine g_icmp_ge (pc := 11) 41 X dX6_unitOf_11 (by decide) (fun h4 => ?_) (fun h4 => ?_)
    · replace hf := jt_i h4 hf
      refine g_lld_n (pc := 41) (i := 2) X dX6_unitOf_41 rfl rfl ?_
      exact g_lret (pc := 42) X dX6_unitOf_42 hf
    · replace hf := jf_i h4 hf
      refine g_lld_n (pc := 14) (i := 2) X dX6_unitOf_14 rfl rfl ?_
      refine g_bipush (pc := 15) (v := (8 : Int32)) X dX6_unitOf_15 (by decide) ?_
      refine g_lshl (pc := 17) X dX6_unitOf_17 ?_
      refine g_ald_n (pc := 18) (i := 0) X dX6_unitOf_18 rfl rfl ?_
      refine g_getR (pc := 19) (k := 5) X dX6_unitOf_19 cl_X6 rfl rfl (by decide) w_666 ?_
      refine g_ald_n (pc := 22) (i := 0) X dX6_unitOf_22 rfl rfl ?_
      refine g_getI (pc := 23) (k := 1) X dX6_unitOf_23 cl_X6 rfl rfl (by decide) w_662 ?_
      refine g_ild_n (pc := 26) (i := 1) X dX6_unitOf_26 rfl rfl ?_
      refine g_imul (pc := 27) X dX6_unitOf_27 ?_
      refine g_ild (pc := 28) X dX6_unitOf_28 rfl ?_
      refine g_iadd (pc := 30) X dX6_unitOf_30 ?_
      obtain ⟨hi1, hf⟩ := jin_i hf
      refine g_iald (pc := 31) X dX6_unitOf_31 rfl hi1 ?_
      refine g_i2l (pc := 32) X dX6_unitOf_32 ?_
      refine g_lor (pc := 33) X dX6_unitOf_33 ?_
      refine g_nmJ (fun z2 ez2 => ?_)
      replace hf := jlet_i ez2 hf
      refine g_lst_n (pc := 34) (i := 2) (L1 := [some (jr Δ 0), some (.int x1), some (.long z2), none, some (.int x4)]) X dX6_unitOf_34 rfl (Nat.le_of_ble_eq_true rfl) rfl rfl ?_
      obtain ⟨z3, ez3⟩ : ∃ z : Int32, z = x4 + (1 : Int32) := ⟨_, rfl⟩
      replace hf := jlet_i ez3 hf
      refine g_iinc (pc := 35) (L1 := [some (jr Δ 0), some (.int x1), some (.long z2), none, some (.int z3)]) X dX6_unitOf_35 rfl (by rw [ez3]; rfl) rfl rfl ?_
      refine g_goto (pc := 38) 5 X dX6_unitOf_38 (by decide) ?_
      exact g_weak (ih _ _ _ _ hf) (⟨rfl, ⟨rfl, ⟨rfl, ⟨rfl, trivial⟩⟩⟩⟩)
set_option maxHeartbeats 4000000 in
theorem M_X6_unitOf {l : Launch} {Δ : jD} {r : Int64} {μ μ9 : jM} {x1 : Int32}  (hsep : jSep Δ shM) (hf : f_X6_unitOf x1 μ = some (r, μ9)) : jMet l yX6_unitOf cX6_unitOf 5 (some .long) D_X6_unitOf Δ shM [jr Δ 0, .int x1] μ (some (.long r), μ9) := by
  refine jMet_of (own := RX6) (L := [some (jr Δ 0), some (.int x1), none, none, none]) (by decide) rfl (Nat.le_of_ble_eq_true rfl) rfl hsep (fun Γ _ X => ?_)
  unfold f_X6_unitOf at hf
  refine g_lconst (pc := 0) (v := (0 : Int64)) X dX6_unitOf_0 (by decide) ?_
  refine g_lst_n (pc := 1) (i := 2) (L1 := [some (jr Δ 0), some (.int x1), some (.long (0 : Int64)), none, none]) X dX6_unitOf_1 rfl (Nat.le_of_ble_eq_true rfl) rfl rfl ?_
  refine g_iconst (pc := 2) (v := (0 : Int32)) X dX6_unitOf_2 (by decide) ?_
  refine g_ist (pc := 3) (L1 := [some (jr Δ 0), some (.int x1), some (.long (0 : Int64)), none, some (.int (0 : Int32))]) X dX6_unitOf_3 (Nat.le_of_ble_eq_true rfl) rfl rfl ?_
  exact g_weak (t_X6_unitOf_5  X  jFU _ _ _ _ hf) (⟨rfl, ⟨rfl, ⟨rfl, ⟨rfl, trivial⟩⟩⟩⟩)
/-! X6_all -/
abbrev D_X6_all : Nat := 0
noncomputable def f_X6_all  (μ : jM) : Option (Int64 × jM) := some ((((1 : Int64) <<< ((((8 : Int32) * (μ.1 0 1))).toInt64 &&& 63)) - (1 : Int64)), μ)
set_option maxHeartbeats 4000000 in
theorem M_X6_all {l : Launch} {Δ : jD} {r : Int64} {μ μ9 : jM}   (hsep : jSep Δ shM) (hf : f_X6_all  μ = some (r, μ9)) : jMet l yX6_all cX6_all 1 (some .long) D_X6_all Δ shM [jr Δ 0] μ (some (.long r), μ9) := by
  refine jMet_of (own := RX6) (L := [some (jr Δ 0)]) (by decide) rfl (Nat.le_of_ble_eq_true rfl) rfl hsep (fun Γ _ X => ?_)
  unfold f_X6_all at hf
  refine g_lconst (pc := 0) (v := (1 : Int64)) X dX6_all_0 (by decide) ?_
  refine g_bipush (pc := 1) (v := (8 : Int32)) X dX6_all_1 (by decide) ?_
  refine g_ald_n (pc := 3) (i := 0) X dX6_all_3 rfl rfl ?_
  refine g_getI (pc := 4) (k := 1) X dX6_all_4 cl_X6 rfl rfl (by decide) w_662 ?_
  refine g_imul (pc := 7) X dX6_all_7 ?_
  refine g_lshl (pc := 8) X dX6_all_8 ?_
  refine g_lconst (pc := 9) (v := (1 : Int64)) X dX6_all_9 (by decide) ?_
  refine g_lsub (pc := 10) X dX6_all_10 ?_
  exact g_lret (pc := 11) X dX6_all_11 hf
/-! X6_takeUnits -/
abbrev D_X6_takeUnits : Nat := 1
noncomputable def f_X6_takeUnits_47   : Nat → Int32 → jM → Option (Unit × jM)
  | 0, _, _ => none
  | fu + 1, x1, μ => if x1 ≤ (0 : Int32) then (some ((), μ)) else (if (μ.1 0 4) = (1 : Int32) then (jin x1 240 (jin (x1 - (1 : Int32)) 240 (jcall (f_X6_all  μ) (fun (r3 : Int64) (μ3 : jM) => jin x1 240 (jlet (jsJ μ3 4 (x1).toNatClampNeg (((μ.2 4 (x1).toNatClampNeg) - (μ.2 4 ((x1 - (1 : Int32))).toNatClampNeg)) &&& r3)) (fun μ4 : jM => jlet (x1 + (-1 : Int32)) (fun z5 : Int32 => f_X6_takeUnits_47   fu z5 μ4))))))) else (some ((), μ)))
noncomputable def f_X6_takeUnits_15   : Nat → Int32 → jM → Option (Unit × jM)
  | 0, _, _ => none
  | fu + 1, x1, μ => if (μ.1 0 15) ≤ x1 then (jlet ((μ.1 0 15) - (1 : Int32)) (fun z8 : Int32 => f_X6_takeUnits_47   jFU z8 μ)) else (jcall (f_X6_unitOf x1 μ) (fun (r9 : Int64) (μ9 : jM) => jin x1 240 (jlet (jsJ μ9 4 (x1).toNatClampNeg r9) (fun μ10 : jM => jlet (x1 + (1 : Int32)) (fun z11 : Int32 => f_X6_takeUnits_15   fu z11 μ10)))))
noncomputable def f_X6_takeUnits  (μ : jM) : Option (Unit × jM) := jnz (μ.1 0 1) (jlet (jsI μ 0 15 ((μ.1 0 6) / (μ.1 0 1))) (fun μ14 : jM => f_X6_takeUnits_15   jFU (0 : Int32) μ14))
set_option maxHeartbeats 4000000 in
theorem t_X6_takeUnits_47 {Γ : jC} {Δ : jD} {r : Unit} {μ9 : jM}    (X : jOk Γ Δ shM cX6_takeUnits 2 RX6 none D_X6_takeUnits)  : ∀ (fu : Nat) (x1 : Int32) (μ : jM), f_X6_takeUnits_47   fu x1 μ = some (r, μ9) → jG Γ Δ shM (none, μ9) 47 [some (jr Δ 0), some (.int x1)] [] μ := by
  intro fu
  induction fu with
  | zero =>
    intro x1 μ hf
    cases hf
  | succ fu ih =>
    intro x1 μ hf
    replace hf := (f_X6_takeUnits_47.eq_2 _ _ _).symm.trans hf
    refine g_ild_n (pc := 47) (i := 1) X dX6_takeUnits_47 rfl rfl ?_
    refine g_if_le (pc := 48) 91 X dX6_takeUnits_48 (by decide) (fun h7 => ?_) (fun h7 => ?_)
    · replace hf := jt_i h7 hf
      exact g_vret (pc := 91) X dX6_takeUnits_91 hf
    · replace hf := jf_i h7 hf
      refine g_ald_n (pc := 51) (i := 0) X dX6_takeUnits_51 rfl rfl ?_
      refine g_getI (pc := 52) (k := 4) X dX6_takeUnits_52 cl_X6 rfl rfl (by decide) w_665 ?_
      refine g_iconst (pc := 55) (v := (1 : Int32)) X dX6_takeUnits_55 (by decide) ?_
      refine g_icmp_ne (pc := 56) 91 X dX6_takeUnits_56 (by decide) (fun h6 => ?_) (fun h6 => ?_)
      · replace hf := jf_i h6 hf
        exact g_vret (pc := 91) X dX6_takeUnits_91 hf
      · replace hf := jt_i h6 hf
        refine g_ald_n (pc := 59) (i := 0) X dX6_takeUnits_59 rfl rfl ?_
        refine g_getR (pc := 60) (k := 14) X dX6_takeUnits_60 cl_X6 rfl rfl (by decide) w_675 ?_
        refine g_ild_n (pc := 63) (i := 1) X dX6_takeUnits_63 rfl rfl ?_
        refine g_ald_n (pc := 64) (i := 0) X dX6_takeUnits_64 rfl rfl ?_
        refine g_getR (pc := 65) (k := 14) X dX6_takeUnits_65 cl_X6 rfl rfl (by decide) w_675 ?_
        refine g_ild_n (pc := 68) (i := 1) X dX6_takeUnits_68 rfl rfl ?_
        obtain ⟨hi1, hf⟩ := jin_i hf
        refine g_lald (pc := 69) X dX6_takeUnits_69 rfl hi1 ?_
        refine g_ald_n (pc := 70) (i := 0) X dX6_takeUnits_70 rfl rfl ?_
        refine g_getR (pc := 71) (k := 14) X dX6_takeUnits_71 cl_X6 rfl rfl (by decide) w_675 ?_
        refine g_ild_n (pc := 74) (i := 1) X dX6_takeUnits_74 rfl rfl ?_
        refine g_iconst (pc := 75) (v := (1 : Int32)) X dX6_takeUnits_75 (by decide) ?_
        refine g_isub (pc := 76) X dX6_takeUnits_76 ?_
        obtain ⟨hi2, hf⟩ := jin_i hf
        refine g_lald (pc := 77) X dX6_takeUnits_77 rfl hi2 ?_
        refine g_lsub (pc := 78) X dX6_takeUnits_78 ?_
        refine g_ald_n (pc := 79) (i := 0) X dX6_takeUnits_79 rfl rfl ?_
        obtain ⟨r3, μ3, hc3, hf⟩ := jcall_i hf
        refine g_callVl (pc := 80) [] X dX6_takeUnits_80 (M_X6_all  (jOk_sep X) hc3) Y_X6_all w_786 ws_9 w_788 cl_X6 rfl rfl (by decide) rfl rfl (Nat.le_of_ble_eq_true rfl) rfl ?_
        refine g_land (pc := 83) X dX6_takeUnits_83 ?_
        obtain ⟨hi4, hf⟩ := jin_i hf
        refine g_last (pc := 84) X dX6_takeUnits_84 rfl hi4 ?_
        refine g_nmM (fun μ4 eμ4 => ?_)
        replace hf := jlet_i eμ4 hf
        obtain ⟨z5, ez5⟩ : ∃ z : Int32, z = x1 + (-1 : Int32) := ⟨_, rfl⟩
        replace hf := jlet_i ez5 hf
        refine g_iinc (pc := 85) (L1 := [some (jr Δ 0), some (.int z5)]) X dX6_takeUnits_85 rfl (by rw [ez5]; rfl) rfl rfl ?_
        refine g_goto (pc := 88) 47 X dX6_takeUnits_88 (by decide) ?_
        exact g_weak (ih _ _ hf) (⟨rfl, ⟨rfl, trivial⟩⟩)
set_option maxHeartbeats 4000000 in
theorem t_X6_takeUnits_15 {Γ : jC} {Δ : jD} {r : Unit} {μ9 : jM}    (X : jOk Γ Δ shM cX6_takeUnits 2 RX6 none D_X6_takeUnits)  : ∀ (fu : Nat) (x1 : Int32) (μ : jM), f_X6_takeUnits_15   fu x1 μ = some (r, μ9) → jG Γ Δ shM (none, μ9) 15 [some (jr Δ 0), some (.int x1)] [] μ := by
  intro fu
  induction fu with
  | zero =>
    intro x1 μ hf
    cases hf
  | succ fu ih =>
    intro x1 μ hf
    replace hf := (f_X6_takeUnits_15.eq_2 _ _ _).symm.trans hf
    refine g_ild_n (pc := 15) (i := 1) X dX6_takeUnits_15 rfl rfl ?_
    refine g_ald_n (pc := 16) (i := 0) X dX6_takeUnits_16 rfl rfl ?_
    refine g_getI (pc := 17) (k := 15) X dX6_takeUnits_17 cl_X6 rfl rfl (by decide) w_676 ?_
    refine g_icmp_ge (pc := 20) 40 X dX6_takeUnits_20 (by decide) (fun h12 => ?_) (fun h12 => ?_)
    · replace hf := jt_i h12 hf
      refine g_ald_n (pc := 40) (i := 0) X dX6_takeUnits_40 rfl rfl ?_
      refine g_getI (pc := 41) (k := 15) X dX6_takeUnits_41 cl_X6 rfl rfl (by decide) w_676 ?_
      refine g_iconst (pc := 44) (v := (1 : Int32)) X dX6_takeUnits_44 (by decide) ?_
      refine g_isub (pc := 45) X dX6_takeUnits_45 ?_
      refine g_nmI (fun z8 ez8 => ?_)
      replace hf := jlet_i ez8 hf
      refine g_ist_n (pc := 46) (i := 1) (L1 := [some (jr Δ 0), some (.int z8)]) X dX6_takeUnits_46 rfl (Nat.le_of_ble_eq_true rfl) rfl rfl ?_
      exact g_weak (t_X6_takeUnits_47  X  jFU _ _ hf) (⟨rfl, ⟨rfl, trivial⟩⟩)
    · replace hf := jf_i h12 hf
      refine g_ald_n (pc := 23) (i := 0) X dX6_takeUnits_23 rfl rfl ?_
      refine g_getR (pc := 24) (k := 14) X dX6_takeUnits_24 cl_X6 rfl rfl (by decide) w_675 ?_
      refine g_ild_n (pc := 27) (i := 1) X dX6_takeUnits_27 rfl rfl ?_
      refine g_ald_n (pc := 28) (i := 0) X dX6_takeUnits_28 rfl rfl ?_
      refine g_ild_n (pc := 29) (i := 1) X dX6_takeUnits_29 rfl rfl ?_
      obtain ⟨r9, μ9, hc9, hf⟩ := jcall_i hf
      refine g_callVl (pc := 30) [.int x1] X dX6_takeUnits_30 (M_X6_unitOf  (jOk_sep X) hc9) Y_X6_unitOf w_782 ws_8 w_784 cl_X6 rfl rfl (by decide) rfl rfl (Nat.le_of_ble_eq_true rfl) rfl ?_
      obtain ⟨hi10, hf⟩ := jin_i hf
      refine g_last (pc := 33) X dX6_takeUnits_33 rfl hi10 ?_
      refine g_nmM (fun μ10 eμ10 => ?_)
      replace hf := jlet_i eμ10 hf
      obtain ⟨z11, ez11⟩ : ∃ z : Int32, z = x1 + (1 : Int32) := ⟨_, rfl⟩
      replace hf := jlet_i ez11 hf
      refine g_iinc (pc := 34) (L1 := [some (jr Δ 0), some (.int z11)]) X dX6_takeUnits_34 rfl (by rw [ez11]; rfl) rfl rfl ?_
      refine g_goto (pc := 37) 15 X dX6_takeUnits_37 (by decide) ?_
      exact g_weak (ih _ _ hf) (⟨rfl, ⟨rfl, trivial⟩⟩)
set_option maxHeartbeats 4000000 in
theorem M_X6_takeUnits {l : Launch} {Δ : jD} {r : Unit} {μ μ9 : jM}   (hsep : jSep Δ shM) (hf : f_X6_takeUnits  μ = some (r, μ9)) : jMet l yX6_takeUnits cX6_takeUnits 2 none D_X6_takeUnits Δ shM [jr Δ 0] μ (none, μ9) := by
  refine jMet_of (own := RX6) (L := [some (jr Δ 0), none]) (by decide) rfl (Nat.le_of_ble_eq_true rfl) rfl hsep (fun Γ _ X => ?_)
  unfold f_X6_takeUnits at hf
  refine g_ald_n (pc := 0) (i := 0) X dX6_takeUnits_0 rfl rfl ?_
  refine g_ald_n (pc := 1) (i := 0) X dX6_takeUnits_1 rfl rfl ?_
  refine g_getI (pc := 2) (k := 6) X dX6_takeUnits_2 cl_X6 rfl rfl (by decide) w_667 ?_
  refine g_ald_n (pc := 5) (i := 0) X dX6_takeUnits_5 rfl rfl ?_
  refine g_getI (pc := 6) (k := 1) X dX6_takeUnits_6 cl_X6 rfl rfl (by decide) w_662 ?_
  obtain ⟨hz13, hf⟩ := jnz_i hf
  refine g_idiv (pc := 9) X dX6_takeUnits_9 hz13 ?_
  refine g_putI (pc := 10) (k := 15) X dX6_takeUnits_10 cl_X6 rfl rfl (by decide) w_676 rfl rfl rfl ?_
  refine g_nmM (fun μ14 eμ14 => ?_)
  replace hf := jlet_i eμ14 hf
  refine g_iconst (pc := 13) (v := (0 : Int32)) X dX6_takeUnits_13 (by decide) ?_
  refine g_ist_n (pc := 14) (i := 1) (L1 := [some (jr Δ 0), some (.int (0 : Int32))]) X dX6_takeUnits_14 rfl (Nat.le_of_ble_eq_true rfl) rfl rfl ?_
  exact g_weak (t_X6_takeUnits_15  X  jFU _ _ hf) (⟨rfl, ⟨rfl, trivial⟩⟩)
/-! X6_lay -/
abbrev D_X6_lay : Nat := 0
noncomputable def f_X6_lay (x1 : Int32) (μ : jM) : Option (Unit × jM) := jin (μ.1 0 18) 1000 (jlet (jsI μ 6 ((μ.1 0 18)).toNatClampNeg (x1 &&& (255 : Int32))) (fun μ1 : jM => jlet (jsI μ1 0 18 ((μ1.1 0 18) + (1 : Int32))) (fun μ2 : jM => some ((), μ2))))
set_option maxHeartbeats 4000000 in
theorem M_X6_lay {l : Launch} {Δ : jD} {r : Unit} {μ μ9 : jM} {x1 : Int32}  (hsep : jSep Δ shM) (hf : f_X6_lay x1 μ = some (r, μ9)) : jMet l yX6_lay cX6_lay 2 none D_X6_lay Δ shM [jr Δ 0, .int x1] μ (none, μ9) := by
  refine jMet_of (own := RX6) (L := [some (jr Δ 0), some (.int x1)]) (by decide) rfl (Nat.le_of_ble_eq_true rfl) rfl hsep (fun Γ _ X => ?_)
  unfold f_X6_lay at hf
  refine g_ald_n (pc := 0) (i := 0) X dX6_lay_0 rfl rfl ?_
  refine g_getR (pc := 1) (k := 17) X dX6_lay_1 cl_X6 rfl rfl (by decide) w_678 ?_
  refine g_ald_n (pc := 4) (i := 0) X dX6_lay_4 rfl rfl ?_
  refine g_getI (pc := 5) (k := 18) X dX6_lay_5 cl_X6 rfl rfl (by decide) w_679 ?_
  refine g_ild_n (pc := 8) (i := 1) X dX6_lay_8 rfl rfl ?_
  refine g_sipush (pc := 9) (v := (255 : Int32)) X dX6_lay_9 (by decide) ?_
  refine g_iand (pc := 12) X dX6_lay_12 ?_
  obtain ⟨hi1, hf⟩ := jin_i hf
  refine g_iast (pc := 13) X dX6_lay_13 rfl hi1 ?_
  refine g_nmM (fun μ1 eμ1 => ?_)
  replace hf := jlet_i eμ1 hf
  refine g_ald_n (pc := 14) (i := 0) X dX6_lay_14 rfl rfl ?_
  refine g_dupR (pc := 15) X dX6_lay_15 ?_
  refine g_getI (pc := 16) (k := 18) X dX6_lay_16 cl_X6 rfl rfl (by decide) w_679 ?_
  refine g_iconst (pc := 19) (v := (1 : Int32)) X dX6_lay_19 (by decide) ?_
  refine g_iadd (pc := 20) X dX6_lay_20 ?_
  refine g_putI (pc := 21) (k := 18) X dX6_lay_21 cl_X6 rfl rfl (by decide) w_679 rfl rfl rfl ?_
  refine g_nmM (fun μ2 eμ2 => ?_)
  replace hf := jlet_i eμ2 hf
  exact g_vret (pc := 24) X dX6_lay_24 hf
/-! X6_layUnit -/
abbrev D_X6_layUnit : Nat := 1
noncomputable def f_X6_layUnit_7   : Nat → Int64 → Int32 → jM → Option (Unit × jM)
  | 0, _, _, _ => none
  | fu + 1, x1, x3, μ => if x3 < (0 : Int32) then (some ((), μ)) else (jcall (f_X6_lay (((x1 >>> ((((8 : Int32) * x3)).toInt64 &&& 63))).toInt32) μ) (fun (r1 : Unit) (μ1 : jM) => jlet (x3 + (-1 : Int32)) (fun z2 : Int32 => f_X6_layUnit_7   fu x1 z2 μ1)))
noncomputable def f_X6_layUnit (x1 : Int64) (μ : jM) : Option (Unit × jM) := jlet ((μ.1 0 1) - (1 : Int32)) (fun z4 : Int32 => f_X6_layUnit_7   jFU x1 z4 μ)
set_option maxHeartbeats 4000000 in
theorem t_X6_layUnit_7 {Γ : jC} {Δ : jD} {r : Unit} {μ9 : jM}    (X : jOk Γ Δ shM cX6_layUnit 4 RX6 none D_X6_layUnit)  : ∀ (fu : Nat) (x1 : Int64) (x3 : Int32) (μ : jM), f_X6_layUnit_7   fu x1 x3 μ = some (r, μ9) → jG Γ Δ shM (none, μ9) 7 [some (jr Δ 0), some (.long x1), none, some (.int x3)] [] μ := by
  intro fu
  induction fu with
  | zero =>
    intro x1 x3 μ hf
    cases hf
  | succ fu ih =>
    intro x1 x3 μ hf
    replace hf := (f_X6_layUnit_7.eq_2 _ _ _ _).symm.trans hf
    refine g_ild_n (pc := 7) (i := 3) X dX6_layUnit_7 rfl rfl ?_
    refine g_if_lt (pc := 8) 28 X dX6_layUnit_8 (by decide) (fun h3 => ?_) (fun h3 => ?_)
    · replace hf := jt_i h3 hf
      exact g_vret (pc := 28) X dX6_layUnit_28 hf
    · replace hf := jf_i h3 hf
      refine g_ald_n (pc := 11) (i := 0) X dX6_layUnit_11 rfl rfl ?_
      refine g_lld_n (pc := 12) (i := 1) X dX6_layUnit_12 rfl rfl ?_
      refine g_bipush (pc := 13) (v := (8 : Int32)) X dX6_layUnit_13 (by decide) ?_
      refine g_ild_n (pc := 15) (i := 3) X dX6_layUnit_15 rfl rfl ?_
      refine g_imul (pc := 16) X dX6_layUnit_16 ?_
      refine g_lshr (pc := 17) X dX6_layUnit_17 ?_
      refine g_l2i (pc := 18) X dX6_layUnit_18 ?_
      obtain ⟨r1, μ1, hc1, hf⟩ := jcall_i hf
      refine g_callVv (pc := 19) [.int ((x1 >>> ((((8 : Int32) * x3)).toInt64 &&& 63))).toInt32] X dX6_layUnit_19 (M_X6_lay  (jOk_sep X) hc1) Y_X6_lay w_818 ws_17 w_820 cl_X6 rfl rfl (by decide) rfl rfl (Nat.le_of_ble_eq_true rfl) rfl ?_
      obtain ⟨z2, ez2⟩ : ∃ z : Int32, z = x3 + (-1 : Int32) := ⟨_, rfl⟩
      replace hf := jlet_i ez2 hf
      refine g_iinc (pc := 22) (L1 := [some (jr Δ 0), some (.long x1), none, some (.int z2)]) X dX6_layUnit_22 rfl (by rw [ez2]; rfl) rfl rfl ?_
      refine g_goto (pc := 25) 7 X dX6_layUnit_25 (by decide) ?_
      exact g_weak (ih _ _ _ hf) (⟨rfl, ⟨rfl, ⟨rfl, trivial⟩⟩⟩)
set_option maxHeartbeats 4000000 in
theorem M_X6_layUnit {l : Launch} {Δ : jD} {r : Unit} {μ μ9 : jM} {x1 : Int64}  (hsep : jSep Δ shM) (hf : f_X6_layUnit x1 μ = some (r, μ9)) : jMet l yX6_layUnit cX6_layUnit 4 none D_X6_layUnit Δ shM [jr Δ 0, .long x1] μ (none, μ9) := by
  refine jMet_of (own := RX6) (L := [some (jr Δ 0), some (.long x1), none, none]) (by decide) rfl (Nat.le_of_ble_eq_true rfl) rfl hsep (fun Γ _ X => ?_)
  unfold f_X6_layUnit at hf
  refine g_ald_n (pc := 0) (i := 0) X dX6_layUnit_0 rfl rfl ?_
  refine g_getI (pc := 1) (k := 1) X dX6_layUnit_1 cl_X6 rfl rfl (by decide) w_662 ?_
  refine g_iconst (pc := 4) (v := (1 : Int32)) X dX6_layUnit_4 (by decide) ?_
  refine g_isub (pc := 5) X dX6_layUnit_5 ?_
  refine g_nmI (fun z4 ez4 => ?_)
  replace hf := jlet_i ez4 hf
  refine g_ist_n (pc := 6) (i := 3) (L1 := [some (jr Δ 0), some (.long x1), none, some (.int z4)]) X dX6_layUnit_6 rfl (Nat.le_of_ble_eq_true rfl) rfl rfl ?_
  exact g_weak (t_X6_layUnit_7  X  jFU _ _ _ hf) (⟨rfl, ⟨rfl, ⟨rfl, trivial⟩⟩⟩)
/-! X6_isMarked -/
abbrev D_X6_isMarked : Nat := 0
noncomputable def f_X6_isMarked (x1 : Int32) (μ : jM) : Option (Int32 × jM) := jin x1 240 (if (lg_cmp ((μ.2 4 (x1).toNatClampNeg) >>> ((((8 : Int32) * ((μ.1 0 1) - (1 : Int32)))).toInt64 &&& 63)) (((μ.1 0 3)).toInt64)) = (0 : Int32) then (jbl (1 : Int32) (some ((1 : Int32), μ))) else (jbl (0 : Int32) (some ((0 : Int32), μ))))
set_option maxHeartbeats 4000000 in
theorem M_X6_isMarked {l : Launch} {Δ : jD} {r : Int32} {μ μ9 : jM} {x1 : Int32}  (hsep : jSep Δ shM) (hf : f_X6_isMarked x1 μ = some (r, μ9)) : jMet l yX6_isMarked cX6_isMarked 2 (some .boolean) D_X6_isMarked Δ shM [jr Δ 0, .int x1] μ (some (.int r), μ9) := by
  refine jMet_of (own := RX6) (L := [some (jr Δ 0), some (.int x1)]) (by decide) rfl (Nat.le_of_ble_eq_true rfl) rfl hsep (fun Γ _ X => ?_)
  unfold f_X6_isMarked at hf
  refine g_ald_n (pc := 0) (i := 0) X dX6_isMarked_0 rfl rfl ?_
  refine g_getR (pc := 1) (k := 14) X dX6_isMarked_1 cl_X6 rfl rfl (by decide) w_675 ?_
  refine g_ild_n (pc := 4) (i := 1) X dX6_isMarked_4 rfl rfl ?_
  obtain ⟨hi1, hf⟩ := jin_i hf
  refine g_lald (pc := 5) X dX6_isMarked_5 rfl hi1 ?_
  refine g_bipush (pc := 6) (v := (8 : Int32)) X dX6_isMarked_6 (by decide) ?_
  refine g_ald_n (pc := 8) (i := 0) X dX6_isMarked_8 rfl rfl ?_
  refine g_getI (pc := 9) (k := 1) X dX6_isMarked_9 cl_X6 rfl rfl (by decide) w_662 ?_
  refine g_iconst (pc := 12) (v := (1 : Int32)) X dX6_isMarked_12 (by decide) ?_
  refine g_isub (pc := 13) X dX6_isMarked_13 ?_
  refine g_imul (pc := 14) X dX6_isMarked_14 ?_
  refine g_lshr (pc := 15) X dX6_isMarked_15 ?_
  refine g_ald_n (pc := 16) (i := 0) X dX6_isMarked_16 rfl rfl ?_
  refine g_getI (pc := 17) (k := 3) X dX6_isMarked_17 cl_X6 rfl rfl (by decide) w_664 ?_
  refine g_i2l (pc := 20) X dX6_isMarked_20 ?_
  refine g_lcmp (pc := 21) X dX6_isMarked_21 ?_
  refine g_if_ne (pc := 22) 29 X dX6_isMarked_22 (by decide) (fun h4 => ?_) (fun h4 => ?_)
  · replace hf := jf_i h4 hf
    refine g_iconst (pc := 29) (v := (0 : Int32)) X dX6_isMarked_29 (by decide) ?_
    obtain ⟨hb2, hf⟩ := jbl_i hf
    exact g_zret (pc := 30) X dX6_isMarked_30 hb2 hf
  · replace hf := jt_i h4 hf
    refine g_iconst (pc := 25) (v := (1 : Int32)) X dX6_isMarked_25 (by decide) ?_
    refine g_goto (pc := 26) 30 X dX6_isMarked_26 (by decide) ?_
    obtain ⟨hb3, hf⟩ := jbl_i hf
    exact g_zret (pc := 30) X dX6_isMarked_30 hb3 hf
/-! X6_likes -/
abbrev D_X6_likes : Nat := 0
noncomputable def f_X6_likes_42   (x4 : Int32) (μ : jM) : Option (Int32 × jM) := some (x4, μ)
noncomputable def f_X6_likes_3   : Nat → Int32 → Int32 → Int32 → Int32 → jM → Option (Int32 × jM)
  | 0, _, _, _, _, _ => none
  | fu + 1, x1, x2, x3, x4, μ => if x2 ≤ (x1 + x4) then (f_X6_likes_42    x4 μ) else (if x3 ≤ x4 then (f_X6_likes_42    x4 μ) else (jin (x1 + x4) 240 (jin x1 240 (if (lg_cmp (μ.2 4 ((x1 + x4)).toNatClampNeg) (μ.2 4 (x1).toNatClampNeg)) = (0 : Int32) then (jlet (x4 + (1 : Int32)) (fun z3 : Int32 => f_X6_likes_3   fu x1 x2 x3 z3 μ)) else (f_X6_likes_42    x4 μ)))))
noncomputable def f_X6_likes (x1 : Int32) (x2 : Int32) (x3 : Int32) (μ : jM) : Option (Int32 × jM) := f_X6_likes_3   jFU x1 x2 x3 (1 : Int32) μ
set_option maxHeartbeats 4000000 in
theorem t_X6_likes_42 {Γ : jC} {Δ : jD} {r : Int32} {μ9 : jM}    (X : jOk Γ Δ shM cX6_likes 5 RX6 (some .int) D_X6_likes)  : ∀ (x4 : Int32) (μ : jM), f_X6_likes_42   x4 μ = some (r, μ9) → jG Γ Δ shM (some (.int r), μ9) 42 [none, none, none, none, some (.int x4)] [] μ := by
  intro x4 μ hf
  unfold f_X6_likes_42 at hf
  refine g_ild (pc := 42) X dX6_likes_42 rfl ?_
  exact g_iret (pc := 44) X dX6_likes_44 hf
set_option maxHeartbeats 4000000 in
theorem t_X6_likes_3 {Γ : jC} {Δ : jD} {r : Int32} {μ9 : jM}    (X : jOk Γ Δ shM cX6_likes 5 RX6 (some .int) D_X6_likes)  : ∀ (fu : Nat) (x1 : Int32) (x2 : Int32) (x3 : Int32) (x4 : Int32) (μ : jM), f_X6_likes_3   fu x1 x2 x3 x4 μ = some (r, μ9) → jG Γ Δ shM (some (.int r), μ9) 3 [some (jr Δ 0), some (.int x1), some (.int x2), some (.int x3), some (.int x4)] [] μ := by
  intro fu
  induction fu with
  | zero =>
    intro x1 x2 x3 x4 μ hf
    cases hf
  | succ fu ih =>
    intro x1 x2 x3 x4 μ hf
    replace hf := (f_X6_likes_3.eq_2 _ _ _ _ _ _).symm.trans hf
    refine g_ild_n (pc := 3) (i := 1) X dX6_likes_3 rfl rfl ?_
    refine g_ild (pc := 4) X dX6_likes_4 rfl ?_
    refine g_iadd (pc := 6) X dX6_likes_6 ?_
    refine g_ild_n (pc := 7) (i := 2) X dX6_likes_7 rfl rfl ?_
    refine g_icmp_ge (pc := 8) 42 X dX6_likes_8 (by decide) (fun h6 => ?_) (fun h6 => ?_)
    · replace hf := jt_i h6 hf
      exact g_weak (t_X6_likes_42  X   _ _ hf) (⟨rfl, trivial⟩)
    · replace hf := jf_i h6 hf
      refine g_ild (pc := 11) X dX6_likes_11 rfl ?_
      refine g_ild_n (pc := 13) (i := 3) X dX6_likes_13 rfl rfl ?_
      refine g_icmp_ge (pc := 14) 42 X dX6_likes_14 (by decide) (fun h5 => ?_) (fun h5 => ?_)
      · replace hf := jt_i h5 hf
        exact g_weak (t_X6_likes_42  X   _ _ hf) (⟨rfl, trivial⟩)
      · replace hf := jf_i h5 hf
        refine g_ald_n (pc := 17) (i := 0) X dX6_likes_17 rfl rfl ?_
        refine g_getR (pc := 18) (k := 14) X dX6_likes_18 cl_X6 rfl rfl (by decide) w_675 ?_
        refine g_ild_n (pc := 21) (i := 1) X dX6_likes_21 rfl rfl ?_
        refine g_ild (pc := 22) X dX6_likes_22 rfl ?_
        refine g_iadd (pc := 24) X dX6_likes_24 ?_
        obtain ⟨hi1, hf⟩ := jin_i hf
        refine g_lald (pc := 25) X dX6_likes_25 rfl hi1 ?_
        refine g_ald_n (pc := 26) (i := 0) X dX6_likes_26 rfl rfl ?_
        refine g_getR (pc := 27) (k := 14) X dX6_likes_27 cl_X6 rfl rfl (by decide) w_675 ?_
        refine g_ild_n (pc := 30) (i := 1) X dX6_likes_30 rfl rfl ?_
        obtain ⟨hi2, hf⟩ := jin_i hf
        refine g_lald (pc := 31) X dX6_likes_31 rfl hi2 ?_
        refine g_lcmp (pc := 32) X dX6_likes_32 ?_
        refine g_if_ne (pc := 33) 42 X dX6_likes_33 (by decide) (fun h4 => ?_) (fun h4 => ?_)
        · replace hf := jf_i h4 hf
          exact g_weak (t_X6_likes_42  X   _ _ hf) (⟨rfl, trivial⟩)
        · replace hf := jt_i h4 hf
          obtain ⟨z3, ez3⟩ : ∃ z : Int32, z = x4 + (1 : Int32) := ⟨_, rfl⟩
          replace hf := jlet_i ez3 hf
          refine g_iinc (pc := 36) (L1 := [some (jr Δ 0), some (.int x1), some (.int x2), some (.int x3), some (.int z3)]) X dX6_likes_36 rfl (by rw [ez3]; rfl) rfl rfl ?_
          refine g_goto (pc := 39) 3 X dX6_likes_39 (by decide) ?_
          exact g_weak (ih _ _ _ _ _ hf) (⟨rfl, ⟨rfl, ⟨rfl, ⟨rfl, ⟨rfl, trivial⟩⟩⟩⟩⟩)
set_option maxHeartbeats 4000000 in
theorem M_X6_likes {l : Launch} {Δ : jD} {r : Int32} {μ μ9 : jM} {x1 : Int32} {x2 : Int32} {x3 : Int32}  (hsep : jSep Δ shM) (hf : f_X6_likes x1 x2 x3 μ = some (r, μ9)) : jMet l yX6_likes cX6_likes 5 (some .int) D_X6_likes Δ shM [jr Δ 0, .int x1, .int x2, .int x3] μ (some (.int r), μ9) := by
  refine jMet_of (own := RX6) (L := [some (jr Δ 0), some (.int x1), some (.int x2), some (.int x3), none]) (by decide) rfl (Nat.le_of_ble_eq_true rfl) rfl hsep (fun Γ _ X => ?_)
  unfold f_X6_likes at hf
  refine g_iconst (pc := 0) (v := (1 : Int32)) X dX6_likes_0 (by decide) ?_
  refine g_ist (pc := 1) (L1 := [some (jr Δ 0), some (.int x1), some (.int x2), some (.int x3), some (.int (1 : Int32))]) X dX6_likes_1 (Nat.le_of_ble_eq_true rfl) rfl rfl ?_
  exact g_weak (t_X6_likes_3  X  jFU _ _ _ _ _ hf) (⟨rfl, ⟨rfl, ⟨rfl, ⟨rfl, ⟨rfl, trivial⟩⟩⟩⟩⟩)
/-! X6_layRun -/
abbrev D_X6_layRun : Nat := 2
noncomputable def f_X6_layRun (x1 : Int32) (x2 : Int32) (μ : jM) : Option (Unit × jM) := if (μ.1 0 0) = (0 : Int32) then (jcall (f_X6_lay (μ.1 0 3) μ) (fun (r8 : Unit) (μ8 : jM) => jcall (f_X6_lay x2 μ8) (fun (r9 : Unit) (μ9 : jM) => jin x1 240 (jcall (f_X6_layUnit (μ9.2 4 (x1).toNatClampNeg) μ9) (fun (r11 : Unit) (μ11 : jM) => some ((), μ11)))))) else (if (μ.1 0 0) = (1 : Int32) then (jcall (f_X6_lay ((1 : Int32) - x2) μ) (fun (r4 : Unit) (μ4 : jM) => jin x1 240 (jcall (f_X6_layUnit (μ4.2 4 (x1).toNatClampNeg) μ4) (fun (r6 : Unit) (μ6 : jM) => some ((), μ6))))) else (jcall (f_X6_lay x2 μ) (fun (r1 : Unit) (μ1 : jM) => jin x1 240 (jcall (f_X6_lay (((μ1.2 4 (x1).toNatClampNeg)).toInt32) μ1) (fun (r3 : Unit) (μ3 : jM) => some ((), μ3))))))
set_option maxHeartbeats 4000000 in
theorem M_X6_layRun {l : Launch} {Δ : jD} {r : Unit} {μ μ9 : jM} {x1 : Int32} {x2 : Int32}  (hsep : jSep Δ shM) (hf : f_X6_layRun x1 x2 μ = some (r, μ9)) : jMet l yX6_layRun cX6_layRun 3 none D_X6_layRun Δ shM [jr Δ 0, .int x1, .int x2] μ (none, μ9) := by
  refine jMet_of (own := RX6) (L := [some (jr Δ 0), some (.int x1), some (.int x2)]) (by decide) rfl (Nat.le_of_ble_eq_true rfl) rfl hsep (fun Γ _ X => ?_)
  unfold f_X6_layRun at hf
  refine g_ald_n (pc := 0) (i := 0) X dX6_layRun_0 rfl rfl ?_
  refine g_getI (pc := 1) (k := 0) X dX6_layRun_1 cl_X6 rfl rfl (by decide) w_661 ?_
  refine g_if_ne (pc := 4) 33 X dX6_layRun_4 (by decide) (fun h12 => ?_) (fun h12 => ?_)
  · replace hf := jf_i h12 hf
    refine g_ald_n (pc := 33) (i := 0) X dX6_layRun_33 rfl rfl ?_
    refine g_getI (pc := 34) (k := 0) X dX6_layRun_34 cl_X6 rfl rfl (by decide) w_661 ?_
    refine g_iconst (pc := 37) (v := (1 : Int32)) X dX6_layRun_37 (by decide) ?_
    refine g_icmp_ne (pc := 38) 61 X dX6_layRun_38 (by decide) (fun h7 => ?_) (fun h7 => ?_)
    · replace hf := jf_i h7 hf
      refine g_ald_n (pc := 61) (i := 0) X dX6_layRun_61 rfl rfl ?_
      refine g_ild_n (pc := 62) (i := 2) X dX6_layRun_62 rfl rfl ?_
      obtain ⟨r1, μ1, hc1, hf⟩ := jcall_i hf
      refine g_callVv (pc := 63) [.int x2] X dX6_layRun_63 (M_X6_lay  (jOk_sep X) hc1) Y_X6_lay w_818 ws_17 w_820 cl_X6 rfl rfl (by decide) rfl rfl (Nat.le_of_ble_eq_true rfl) rfl ?_
      refine g_ald_n (pc := 66) (i := 0) X dX6_layRun_66 rfl rfl ?_
      refine g_ald_n (pc := 67) (i := 0) X dX6_layRun_67 rfl rfl ?_
      refine g_getR (pc := 68) (k := 14) X dX6_layRun_68 cl_X6 rfl rfl (by decide) w_675 ?_
      refine g_ild_n (pc := 71) (i := 1) X dX6_layRun_71 rfl rfl ?_
      obtain ⟨hi2, hf⟩ := jin_i hf
      refine g_lald (pc := 72) X dX6_layRun_72 rfl hi2 ?_
      refine g_l2i (pc := 73) X dX6_layRun_73 ?_
      obtain ⟨r3, μ3, hc3, hf⟩ := jcall_i hf
      refine g_callVv (pc := 74) [.int ((μ1.2 4 (x1).toNatClampNeg)).toInt32] X dX6_layRun_74 (M_X6_lay  (jOk_sep X) hc3) Y_X6_lay w_818 ws_17 w_820 cl_X6 rfl rfl (by decide) rfl rfl (Nat.le_of_ble_eq_true rfl) rfl ?_
      exact g_vret (pc := 77) X dX6_layRun_77 hf
    · replace hf := jt_i h7 hf
      refine g_ald_n (pc := 41) (i := 0) X dX6_layRun_41 rfl rfl ?_
      refine g_iconst (pc := 42) (v := (1 : Int32)) X dX6_layRun_42 (by decide) ?_
      refine g_ild_n (pc := 43) (i := 2) X dX6_layRun_43 rfl rfl ?_
      refine g_isub (pc := 44) X dX6_layRun_44 ?_
      obtain ⟨r4, μ4, hc4, hf⟩ := jcall_i hf
      refine g_callVv (pc := 45) [.int ((1 : Int32) - x2)] X dX6_layRun_45 (M_X6_lay  (jOk_sep X) hc4) Y_X6_lay w_818 ws_17 w_820 cl_X6 rfl rfl (by decide) rfl rfl (Nat.le_of_ble_eq_true rfl) rfl ?_
      refine g_ald_n (pc := 48) (i := 0) X dX6_layRun_48 rfl rfl ?_
      refine g_ald_n (pc := 49) (i := 0) X dX6_layRun_49 rfl rfl ?_
      refine g_getR (pc := 50) (k := 14) X dX6_layRun_50 cl_X6 rfl rfl (by decide) w_675 ?_
      refine g_ild_n (pc := 53) (i := 1) X dX6_layRun_53 rfl rfl ?_
      obtain ⟨hi5, hf⟩ := jin_i hf
      refine g_lald (pc := 54) X dX6_layRun_54 rfl hi5 ?_
      obtain ⟨r6, μ6, hc6, hf⟩ := jcall_i hf
      refine g_callVv (pc := 55) [.long (μ4.2 4 (x1).toNatClampNeg)] X dX6_layRun_55 (M_X6_layUnit  (jOk_sep X) hc6) Y_X6_layUnit w_822 ws_18 w_824 cl_X6 rfl rfl (by decide) rfl rfl (Nat.le_of_ble_eq_true rfl) rfl ?_
      refine g_goto (pc := 58) 77 X dX6_layRun_58 (by decide) ?_
      exact g_vret (pc := 77) X dX6_layRun_77 hf
  · replace hf := jt_i h12 hf
    refine g_ald_n (pc := 7) (i := 0) X dX6_layRun_7 rfl rfl ?_
    refine g_ald_n (pc := 8) (i := 0) X dX6_layRun_8 rfl rfl ?_
    refine g_getI (pc := 9) (k := 3) X dX6_layRun_9 cl_X6 rfl rfl (by decide) w_664 ?_
    obtain ⟨r8, μ8, hc8, hf⟩ := jcall_i hf
    refine g_callVv (pc := 12) [.int (μ.1 0 3)] X dX6_layRun_12 (M_X6_lay  (jOk_sep X) hc8) Y_X6_lay w_818 ws_17 w_820 cl_X6 rfl rfl (by decide) rfl rfl (Nat.le_of_ble_eq_true rfl) rfl ?_
    refine g_ald_n (pc := 15) (i := 0) X dX6_layRun_15 rfl rfl ?_
    refine g_ild_n (pc := 16) (i := 2) X dX6_layRun_16 rfl rfl ?_
    obtain ⟨r9, μ9, hc9, hf⟩ := jcall_i hf
    refine g_callVv (pc := 17) [.int x2] X dX6_layRun_17 (M_X6_lay  (jOk_sep X) hc9) Y_X6_lay w_818 ws_17 w_820 cl_X6 rfl rfl (by decide) rfl rfl (Nat.le_of_ble_eq_true rfl) rfl ?_
    refine g_ald_n (pc := 20) (i := 0) X dX6_layRun_20 rfl rfl ?_
    refine g_ald_n (pc := 21) (i := 0) X dX6_layRun_21 rfl rfl ?_
    refine g_getR (pc := 22) (k := 14) X dX6_layRun_22 cl_X6 rfl rfl (by decide) w_675 ?_
    refine g_ild_n (pc := 25) (i := 1) X dX6_layRun_25 rfl rfl ?_
    obtain ⟨hi10, hf⟩ := jin_i hf
    refine g_lald (pc := 26) X dX6_layRun_26 rfl hi10 ?_
    obtain ⟨r11, μ11, hc11, hf⟩ := jcall_i hf
    refine g_callVv (pc := 27) [.long (μ9.2 4 (x1).toNatClampNeg)] X dX6_layRun_27 (M_X6_layUnit  (jOk_sep X) hc11) Y_X6_layUnit w_822 ws_18 w_824 cl_X6 rfl rfl (by decide) rfl rfl (Nat.le_of_ble_eq_true rfl) rfl ?_
    refine g_goto (pc := 30) 77 X dX6_layRun_30 (by decide) ?_
    exact g_vret (pc := 77) X dX6_layRun_77 hf
/-! X6_layThemselves -/
abbrev D_X6_layThemselves : Nat := 2
noncomputable def f_X6_layThemselves_38   : Nat → Int32 → Int32 → Int32 → jM → Option (Unit × jM)
  | 0, _, _, _, _ => none
  | fu + 1, x1, x2, x3, μ => if x2 ≤ x3 then (if (μ.1 0 0) = (2 : Int32) then (jnz (2 : Int32) (if (x2 - x2 / (2 : Int32) * (2 : Int32)) = (1 : Int32) then (jcall (f_X6_lay (0 : Int32) μ) (fun (r2 : Unit) (μ2 : jM) => some ((), μ2))) else (some ((), μ)))) else (some ((), μ))) else (jin (x1 + x3) 240 (jcall (f_X6_layUnit (μ.2 4 ((x1 + x3)).toNatClampNeg) μ) (fun (r6 : Unit) (μ6 : jM) => jlet (x3 + (1 : Int32)) (fun z7 : Int32 => f_X6_layThemselves_38   fu x1 x2 z7 μ6))))
noncomputable def f_X6_layThemselves_36   (x1 : Int32) (x2 : Int32) (μ : jM) : Option (Unit × jM) := f_X6_layThemselves_38   jFU x1 x2 (0 : Int32) μ
noncomputable def f_X6_layThemselves (x1 : Int32) (x2 : Int32) (μ : jM) : Option (Unit × jM) := if (μ.1 0 0) = (1 : Int32) then (jcall (f_X6_lay (x2 - (1 : Int32)) μ) (fun (r12 : Unit) (μ12 : jM) => f_X6_layThemselves_36    x1 x2 μ12)) else (if (μ.1 0 0) = (2 : Int32) then (jcall (f_X6_lay (0 : Int32) μ) (fun (r9 : Unit) (μ9 : jM) => jcall (f_X6_lay x2 μ9) (fun (r10 : Unit) (μ10 : jM) => f_X6_layThemselves_36    x1 x2 μ10))) else (f_X6_layThemselves_36    x1 x2 μ))
set_option maxHeartbeats 4000000 in
theorem t_X6_layThemselves_38 {Γ : jC} {Δ : jD} {r : Unit} {μ9 : jM}    (X : jOk Γ Δ shM cX6_layThemselves 4 RX6 none D_X6_layThemselves)  : ∀ (fu : Nat) (x1 : Int32) (x2 : Int32) (x3 : Int32) (μ : jM), f_X6_layThemselves_38   fu x1 x2 x3 μ = some (r, μ9) → jG Γ Δ shM (none, μ9) 38 [some (jr Δ 0), some (.int x1), some (.int x2), some (.int x3)] [] μ := by
  intro fu
  induction fu with
  | zero =>
    intro x1 x2 x3 μ hf
    cases hf
  | succ fu ih =>
    intro x1 x2 x3 μ hf
    replace hf := (f_X6_layThemselves_38.eq_2 _ _ _ _ _).symm.trans hf
    refine g_ild_n (pc := 38) (i := 3) X dX6_layThemselves_38 rfl rfl ?_
    refine g_ild_n (pc := 39) (i := 2) X dX6_layThemselves_39 rfl rfl ?_
    refine g_icmp_ge (pc := 40) 61 X dX6_layThemselves_40 (by decide) (fun h8 => ?_) (fun h8 => ?_)
    · replace hf := jt_i h8 hf
      refine g_ald_n (pc := 61) (i := 0) X dX6_layThemselves_61 rfl rfl ?_
      refine g_getI (pc := 62) (k := 0) X dX6_layThemselves_62 cl_X6 rfl rfl (by decide) w_661 ?_
      refine g_iconst (pc := 65) (v := (2 : Int32)) X dX6_layThemselves_65 (by decide) ?_
      refine g_icmp_ne (pc := 66) 81 X dX6_layThemselves_66 (by decide) (fun h4 => ?_) (fun h4 => ?_)
      · replace hf := jf_i h4 hf
        exact g_vret (pc := 81) X dX6_layThemselves_81 hf
      · replace hf := jt_i h4 hf
        refine g_ild_n (pc := 69) (i := 2) X dX6_layThemselves_69 rfl rfl ?_
        refine g_iconst (pc := 70) (v := (2 : Int32)) X dX6_layThemselves_70 (by decide) ?_
        obtain ⟨hz1, hf⟩ := jnz_i hf
        refine g_irem (pc := 71) X dX6_layThemselves_71 hz1 ?_
        refine g_iconst (pc := 72) (v := (1 : Int32)) X dX6_layThemselves_72 (by decide) ?_
        refine g_icmp_ne (pc := 73) 81 X dX6_layThemselves_73 (by decide) (fun h3 => ?_) (fun h3 => ?_)
        · replace hf := jf_i h3 hf
          exact g_vret (pc := 81) X dX6_layThemselves_81 hf
        · replace hf := jt_i h3 hf
          refine g_ald_n (pc := 76) (i := 0) X dX6_layThemselves_76 rfl rfl ?_
          refine g_iconst (pc := 77) (v := (0 : Int32)) X dX6_layThemselves_77 (by decide) ?_
          obtain ⟨r2, μ2, hc2, hf⟩ := jcall_i hf
          refine g_callVv (pc := 78) [.int (0 : Int32)] X dX6_layThemselves_78 (M_X6_lay  (jOk_sep X) hc2) Y_X6_lay w_818 ws_17 w_820 cl_X6 rfl rfl (by decide) rfl rfl (Nat.le_of_ble_eq_true rfl) rfl ?_
          exact g_vret (pc := 81) X dX6_layThemselves_81 hf
    · replace hf := jf_i h8 hf
      refine g_ald_n (pc := 43) (i := 0) X dX6_layThemselves_43 rfl rfl ?_
      refine g_ald_n (pc := 44) (i := 0) X dX6_layThemselves_44 rfl rfl ?_
      refine g_getR (pc := 45) (k := 14) X dX6_layThemselves_45 cl_X6 rfl rfl (by decide) w_675 ?_
      refine g_ild_n (pc := 48) (i := 1) X dX6_layThemselves_48 rfl rfl ?_
      refine g_ild_n (pc := 49) (i := 3) X dX6_layThemselves_49 rfl rfl ?_
      refine g_iadd (pc := 50) X dX6_layThemselves_50 ?_
      obtain ⟨hi5, hf⟩ := jin_i hf
      refine g_lald (pc := 51) X dX6_layThemselves_51 rfl hi5 ?_
      obtain ⟨r6, μ6, hc6, hf⟩ := jcall_i hf
      refine g_callVv (pc := 52) [.long (μ.2 4 ((x1 + x3)).toNatClampNeg)] X dX6_layThemselves_52 (M_X6_layUnit  (jOk_sep X) hc6) Y_X6_layUnit w_822 ws_18 w_824 cl_X6 rfl rfl (by decide) rfl rfl (Nat.le_of_ble_eq_true rfl) rfl ?_
      obtain ⟨z7, ez7⟩ : ∃ z : Int32, z = x3 + (1 : Int32) := ⟨_, rfl⟩
      replace hf := jlet_i ez7 hf
      refine g_iinc (pc := 55) (L1 := [some (jr Δ 0), some (.int x1), some (.int x2), some (.int z7)]) X dX6_layThemselves_55 rfl (by rw [ez7]; rfl) rfl rfl ?_
      refine g_goto (pc := 58) 38 X dX6_layThemselves_58 (by decide) ?_
      exact g_weak (ih _ _ _ _ hf) (⟨rfl, ⟨rfl, ⟨rfl, ⟨rfl, trivial⟩⟩⟩⟩)
set_option maxHeartbeats 4000000 in
theorem t_X6_layThemselves_36 {Γ : jC} {Δ : jD} {r : Unit} {μ9 : jM}    (X : jOk Γ Δ shM cX6_layThemselves 4 RX6 none D_X6_layThemselves)  : ∀ (x1 : Int32) (x2 : Int32) (μ : jM), f_X6_layThemselves_36   x1 x2 μ = some (r, μ9) → jG Γ Δ shM (none, μ9) 36 [some (jr Δ 0), some (.int x1), some (.int x2), none] [] μ := by
  intro x1 x2 μ hf
  unfold f_X6_layThemselves_36 at hf
  refine g_iconst (pc := 36) (v := (0 : Int32)) X dX6_layThemselves_36 (by decide) ?_
  refine g_ist_n (pc := 37) (i := 3) (L1 := [some (jr Δ 0), some (.int x1), some (.int x2), some (.int (0 : Int32))]) X dX6_layThemselves_37 rfl (Nat.le_of_ble_eq_true rfl) rfl rfl ?_
  exact g_weak (t_X6_layThemselves_38  X  jFU _ _ _ _ hf) (⟨rfl, ⟨rfl, ⟨rfl, ⟨rfl, trivial⟩⟩⟩⟩)
set_option maxHeartbeats 4000000 in
theorem M_X6_layThemselves {l : Launch} {Δ : jD} {r : Unit} {μ μ9 : jM} {x1 : Int32} {x2 : Int32}  (hsep : jSep Δ shM) (hf : f_X6_layThemselves x1 x2 μ = some (r, μ9)) : jMet l yX6_layThemselves cX6_layThemselves 4 none D_X6_layThemselves Δ shM [jr Δ 0, .int x1, .int x2] μ (none, μ9) := by
  refine jMet_of (own := RX6) (L := [some (jr Δ 0), some (.int x1), some (.int x2), none]) (by decide) rfl (Nat.le_of_ble_eq_true rfl) rfl hsep (fun Γ _ X => ?_)
  unfold f_X6_layThemselves at hf
  refine g_ald_n (pc := 0) (i := 0) X dX6_layThemselves_0 rfl rfl ?_
  refine g_getI (pc := 1) (k := 0) X dX6_layThemselves_1 cl_X6 rfl rfl (by decide) w_661 ?_
  refine g_iconst (pc := 4) (v := (1 : Int32)) X dX6_layThemselves_4 (by decide) ?_
  refine g_icmp_ne (pc := 5) 18 X dX6_layThemselves_5 (by decide) (fun h13 => ?_) (fun h13 => ?_)
  · replace hf := jf_i h13 hf
    refine g_ald_n (pc := 18) (i := 0) X dX6_layThemselves_18 rfl rfl ?_
    refine g_getI (pc := 19) (k := 0) X dX6_layThemselves_19 cl_X6 rfl rfl (by decide) w_661 ?_
    refine g_iconst (pc := 22) (v := (2 : Int32)) X dX6_layThemselves_22 (by decide) ?_
    refine g_icmp_ne (pc := 23) 36 X dX6_layThemselves_23 (by decide) (fun h11 => ?_) (fun h11 => ?_)
    · replace hf := jf_i h11 hf
      exact g_weak (t_X6_layThemselves_36  X   _ _ _ hf) (⟨rfl, ⟨rfl, ⟨rfl, trivial⟩⟩⟩)
    · replace hf := jt_i h11 hf
      refine g_ald_n (pc := 26) (i := 0) X dX6_layThemselves_26 rfl rfl ?_
      refine g_iconst (pc := 27) (v := (0 : Int32)) X dX6_layThemselves_27 (by decide) ?_
      obtain ⟨r9, μ9, hc9, hf⟩ := jcall_i hf
      refine g_callVv (pc := 28) [.int (0 : Int32)] X dX6_layThemselves_28 (M_X6_lay  (jOk_sep X) hc9) Y_X6_lay w_818 ws_17 w_820 cl_X6 rfl rfl (by decide) rfl rfl (Nat.le_of_ble_eq_true rfl) rfl ?_
      refine g_ald_n (pc := 31) (i := 0) X dX6_layThemselves_31 rfl rfl ?_
      refine g_ild_n (pc := 32) (i := 2) X dX6_layThemselves_32 rfl rfl ?_
      obtain ⟨r10, μ10, hc10, hf⟩ := jcall_i hf
      refine g_callVv (pc := 33) [.int x2] X dX6_layThemselves_33 (M_X6_lay  (jOk_sep X) hc10) Y_X6_lay w_818 ws_17 w_820 cl_X6 rfl rfl (by decide) rfl rfl (Nat.le_of_ble_eq_true rfl) rfl ?_
      exact g_weak (t_X6_layThemselves_36  X   _ _ _ hf) (⟨rfl, ⟨rfl, ⟨rfl, trivial⟩⟩⟩)
  · replace hf := jt_i h13 hf
    refine g_ald_n (pc := 8) (i := 0) X dX6_layThemselves_8 rfl rfl ?_
    refine g_ild_n (pc := 9) (i := 2) X dX6_layThemselves_9 rfl rfl ?_
    refine g_iconst (pc := 10) (v := (1 : Int32)) X dX6_layThemselves_10 (by decide) ?_
    refine g_isub (pc := 11) X dX6_layThemselves_11 ?_
    obtain ⟨r12, μ12, hc12, hf⟩ := jcall_i hf
    refine g_callVv (pc := 12) [.int (x2 - (1 : Int32))] X dX6_layThemselves_12 (M_X6_lay  (jOk_sep X) hc12) Y_X6_lay w_818 ws_17 w_820 cl_X6 rfl rfl (by decide) rfl rfl (Nat.le_of_ble_eq_true rfl) rfl ?_
    refine g_goto (pc := 15) 36 X dX6_layThemselves_15 (by decide) ?_
    exact g_weak (t_X6_layThemselves_36  X   _ _ _ hf) (⟨rfl, ⟨rfl, ⟨rfl, trivial⟩⟩⟩)
/-! X6_mostRun -/
abbrev D_X6_mostRun : Nat := 0
noncomputable def f_X6_mostRun  (μ : jM) : Option (Int32 × jM) := if (μ.1 0 0) = (1 : Int32) then (some ((128 : Int32), μ)) else (some ((255 : Int32), μ))
set_option maxHeartbeats 4000000 in
theorem M_X6_mostRun {l : Launch} {Δ : jD} {r : Int32} {μ μ9 : jM}   (hsep : jSep Δ shM) (hf : f_X6_mostRun  μ = some (r, μ9)) : jMet l yX6_mostRun cX6_mostRun 1 (some .int) D_X6_mostRun Δ shM [jr Δ 0] μ (some (.int r), μ9) := by
  refine jMet_of (own := RX6) (L := [some (jr Δ 0)]) (by decide) rfl (Nat.le_of_ble_eq_true rfl) rfl hsep (fun Γ _ X => ?_)
  unfold f_X6_mostRun at hf
  refine g_ald_n (pc := 0) (i := 0) X dX6_mostRun_0 rfl rfl ?_
  refine g_getI (pc := 1) (k := 0) X dX6_mostRun_1 cl_X6 rfl rfl (by decide) w_661 ?_
  refine g_iconst (pc := 4) (v := (1 : Int32)) X dX6_mostRun_4 (by decide) ?_
  refine g_icmp_ne (pc := 5) 14 X dX6_mostRun_5 (by decide) (fun h1 => ?_) (fun h1 => ?_)
  · replace hf := jf_i h1 hf
    refine g_sipush (pc := 14) (v := (255 : Int32)) X dX6_mostRun_14 (by decide) ?_
    exact g_iret (pc := 17) X dX6_mostRun_17 hf
  · replace hf := jt_i h1 hf
    refine g_sipush (pc := 8) (v := (128 : Int32)) X dX6_mostRun_8 (by decide) ?_
    refine g_goto (pc := 11) 17 X dX6_mostRun_11 (by decide) ?_
    exact g_iret (pc := 17) X dX6_mostRun_17 hf
/-! X6_runCost -/
abbrev D_X6_runCost : Nat := 0
noncomputable def f_X6_runCost  (μ : jM) : Option (Int32 × jM) := if (μ.1 0 0) = (0 : Int32) then (some (((2 : Int32) + (μ.1 0 1)), μ)) else (if (μ.1 0 0) = (1 : Int32) then (some (((1 : Int32) + (μ.1 0 1)), μ)) else (some ((2 : Int32), μ)))
set_option maxHeartbeats 4000000 in
theorem M_X6_runCost {l : Launch} {Δ : jD} {r : Int32} {μ μ9 : jM}   (hsep : jSep Δ shM) (hf : f_X6_runCost  μ = some (r, μ9)) : jMet l yX6_runCost cX6_runCost 1 (some .int) D_X6_runCost Δ shM [jr Δ 0] μ (some (.int r), μ9) := by
  refine jMet_of (own := RX6) (L := [some (jr Δ 0)]) (by decide) rfl (Nat.le_of_ble_eq_true rfl) rfl hsep (fun Γ _ X => ?_)
  unfold f_X6_runCost at hf
  refine g_ald_n (pc := 0) (i := 0) X dX6_runCost_0 rfl rfl ?_
  refine g_getI (pc := 1) (k := 0) X dX6_runCost_1 cl_X6 rfl rfl (by decide) w_661 ?_
  refine g_if_ne (pc := 4) 16 X dX6_runCost_4 (by decide) (fun h2 => ?_) (fun h2 => ?_)
  · replace hf := jf_i h2 hf
    refine g_ald_n (pc := 16) (i := 0) X dX6_runCost_16 rfl rfl ?_
    refine g_getI (pc := 17) (k := 0) X dX6_runCost_17 cl_X6 rfl rfl (by decide) w_661 ?_
    refine g_iconst (pc := 20) (v := (1 : Int32)) X dX6_runCost_20 (by decide) ?_
    refine g_icmp_ne (pc := 21) 33 X dX6_runCost_21 (by decide) (fun h1 => ?_) (fun h1 => ?_)
    · replace hf := jf_i h1 hf
      refine g_iconst (pc := 33) (v := (2 : Int32)) X dX6_runCost_33 (by decide) ?_
      exact g_iret (pc := 34) X dX6_runCost_34 hf
    · replace hf := jt_i h1 hf
      refine g_iconst (pc := 24) (v := (1 : Int32)) X dX6_runCost_24 (by decide) ?_
      refine g_ald_n (pc := 25) (i := 0) X dX6_runCost_25 rfl rfl ?_
      refine g_getI (pc := 26) (k := 1) X dX6_runCost_26 cl_X6 rfl rfl (by decide) w_662 ?_
      refine g_iadd (pc := 29) X dX6_runCost_29 ?_
      refine g_goto (pc := 30) 34 X dX6_runCost_30 (by decide) ?_
      exact g_iret (pc := 34) X dX6_runCost_34 hf
  · replace hf := jt_i h2 hf
    refine g_iconst (pc := 7) (v := (2 : Int32)) X dX6_runCost_7 (by decide) ?_
    refine g_ald_n (pc := 8) (i := 0) X dX6_runCost_8 rfl rfl ?_
    refine g_getI (pc := 9) (k := 1) X dX6_runCost_9 cl_X6 rfl rfl (by decide) w_662 ?_
    refine g_iadd (pc := 12) X dX6_runCost_12 ?_
    refine g_goto (pc := 13) 34 X dX6_runCost_13 (by decide) ?_
    exact g_iret (pc := 34) X dX6_runCost_34 hf
/-! X6_selfCost -/
abbrev D_X6_selfCost : Nat := 0
noncomputable def f_X6_selfCost (x1 : Int32) (μ : jM) : Option (Int32 × jM) := if (μ.1 0 0) = (0 : Int32) then (some ((μ.1 0 1), μ)) else (if (μ.1 0 0) = (1 : Int32) then (some (((1 : Int32) + (x1 * (μ.1 0 1))), μ)) else (jnz (2 : Int32) (some ((((2 : Int32) + x1) + (x1 - x1 / (2 : Int32) * (2 : Int32))), μ))))
set_option maxHeartbeats 4000000 in
theorem M_X6_selfCost {l : Launch} {Δ : jD} {r : Int32} {μ μ9 : jM} {x1 : Int32}  (hsep : jSep Δ shM) (hf : f_X6_selfCost x1 μ = some (r, μ9)) : jMet l yX6_selfCost cX6_selfCost 2 (some .int) D_X6_selfCost Δ shM [jr Δ 0, .int x1] μ (some (.int r), μ9) := by
  refine jMet_of (own := RX6) (L := [some (jr Δ 0), some (.int x1)]) (by decide) rfl (Nat.le_of_ble_eq_true rfl) rfl hsep (fun Γ _ X => ?_)
  unfold f_X6_selfCost at hf
  refine g_ald_n (pc := 0) (i := 0) X dX6_selfCost_0 rfl rfl ?_
  refine g_getI (pc := 1) (k := 0) X dX6_selfCost_1 cl_X6 rfl rfl (by decide) w_661 ?_
  refine g_if_ne (pc := 4) 14 X dX6_selfCost_4 (by decide) (fun h3 => ?_) (fun h3 => ?_)
  · replace hf := jf_i h3 hf
    refine g_ald_n (pc := 14) (i := 0) X dX6_selfCost_14 rfl rfl ?_
    refine g_getI (pc := 15) (k := 0) X dX6_selfCost_15 cl_X6 rfl rfl (by decide) w_661 ?_
    refine g_iconst (pc := 18) (v := (1 : Int32)) X dX6_selfCost_18 (by decide) ?_
    refine g_icmp_ne (pc := 19) 33 X dX6_selfCost_19 (by decide) (fun h2 => ?_) (fun h2 => ?_)
    · replace hf := jf_i h2 hf
      refine g_iconst (pc := 33) (v := (2 : Int32)) X dX6_selfCost_33 (by decide) ?_
      refine g_ild_n (pc := 34) (i := 1) X dX6_selfCost_34 rfl rfl ?_
      refine g_iadd (pc := 35) X dX6_selfCost_35 ?_
      refine g_ild_n (pc := 36) (i := 1) X dX6_selfCost_36 rfl rfl ?_
      refine g_iconst (pc := 37) (v := (2 : Int32)) X dX6_selfCost_37 (by decide) ?_
      obtain ⟨hz1, hf⟩ := jnz_i hf
      refine g_irem (pc := 38) X dX6_selfCost_38 hz1 ?_
      refine g_iadd (pc := 39) X dX6_selfCost_39 ?_
      exact g_iret (pc := 40) X dX6_selfCost_40 hf
    · replace hf := jt_i h2 hf
      refine g_iconst (pc := 22) (v := (1 : Int32)) X dX6_selfCost_22 (by decide) ?_
      refine g_ild_n (pc := 23) (i := 1) X dX6_selfCost_23 rfl rfl ?_
      refine g_ald_n (pc := 24) (i := 0) X dX6_selfCost_24 rfl rfl ?_
      refine g_getI (pc := 25) (k := 1) X dX6_selfCost_25 cl_X6 rfl rfl (by decide) w_662 ?_
      refine g_imul (pc := 28) X dX6_selfCost_28 ?_
      refine g_iadd (pc := 29) X dX6_selfCost_29 ?_
      refine g_goto (pc := 30) 40 X dX6_selfCost_30 (by decide) ?_
      exact g_iret (pc := 40) X dX6_selfCost_40 hf
  · replace hf := jt_i h3 hf
    refine g_ald_n (pc := 7) (i := 0) X dX6_selfCost_7 rfl rfl ?_
    refine g_getI (pc := 8) (k := 1) X dX6_selfCost_8 cl_X6 rfl rfl (by decide) w_662 ?_
    refine g_goto (pc := 11) 40 X dX6_selfCost_11 (by decide) ?_
    exact g_iret (pc := 40) X dX6_selfCost_40 hf
/-! X6_mayStand -/
abbrev D_X6_mayStand : Nat := 1
noncomputable def f_X6_mayStand_24    (μ : jM) : Option (Int32 × jM) := jbl (0 : Int32) (some ((0 : Int32), μ))
noncomputable def f_X6_mayStand (x1 : Int32) (x2 : Int32) (μ : jM) : Option (Int32 × jM) := if (μ.1 0 0) = (0 : Int32) then (if x2 = (1 : Int32) then (jcall (f_X6_isMarked x1 μ) (fun (r7 : Int32) (μ7 : jM) => if r7 = (0 : Int32) then (jbl (1 : Int32) (some ((1 : Int32), μ7))) else (f_X6_mayStand_24     μ7))) else (f_X6_mayStand_24     μ)) else (if (μ.1 0 0) = (1 : Int32) then (jcall (f_X6_in x2 (1 : Int32) (128 : Int32) μ) (fun (r4 : Int32) (μ4 : jM) => jbl r4 (some (r4, μ4)))) else (jcall (f_X6_in x2 (3 : Int32) (255 : Int32) μ) (fun (r2 : Int32) (μ2 : jM) => jbl r2 (some (r2, μ2)))))
set_option maxHeartbeats 4000000 in
theorem t_X6_mayStand_24 {Γ : jC} {Δ : jD} {r : Int32} {μ9 : jM}    (X : jOk Γ Δ shM cX6_mayStand 3 RX6 (some .boolean) D_X6_mayStand)  : ∀ (μ : jM), f_X6_mayStand_24    μ = some (r, μ9) → jG Γ Δ shM (some (.int r), μ9) 24 [none, none, none] [] μ := by
  intro  μ hf
  unfold f_X6_mayStand_24 at hf
  refine g_iconst (pc := 24) (v := (0 : Int32)) X dX6_mayStand_24 (by decide) ?_
  refine g_goto (pc := 25) 55 X dX6_mayStand_25 (by decide) ?_
  obtain ⟨hb1, hf⟩ := jbl_i hf
  exact g_zret (pc := 55) X dX6_mayStand_55 hb1 hf
set_option maxHeartbeats 4000000 in
theorem M_X6_mayStand {l : Launch} {Δ : jD} {r : Int32} {μ μ9 : jM} {x1 : Int32} {x2 : Int32}  (hsep : jSep Δ shM) (hf : f_X6_mayStand x1 x2 μ = some (r, μ9)) : jMet l yX6_mayStand cX6_mayStand 3 (some .boolean) D_X6_mayStand Δ shM [jr Δ 0, .int x1, .int x2] μ (some (.int r), μ9) := by
  refine jMet_of (own := RX6) (L := [some (jr Δ 0), some (.int x1), some (.int x2)]) (by decide) rfl (Nat.le_of_ble_eq_true rfl) rfl hsep (fun Γ _ X => ?_)
  unfold f_X6_mayStand at hf
  refine g_ald_n (pc := 0) (i := 0) X dX6_mayStand_0 rfl rfl ?_
  refine g_getI (pc := 1) (k := 0) X dX6_mayStand_1 cl_X6 rfl rfl (by decide) w_661 ?_
  refine g_if_ne (pc := 4) 28 X dX6_mayStand_4 (by decide) (fun h11 => ?_) (fun h11 => ?_)
  · replace hf := jf_i h11 hf
    refine g_ald_n (pc := 28) (i := 0) X dX6_mayStand_28 rfl rfl ?_
    refine g_getI (pc := 29) (k := 0) X dX6_mayStand_29 cl_X6 rfl rfl (by decide) w_661 ?_
    refine g_iconst (pc := 32) (v := (1 : Int32)) X dX6_mayStand_32 (by decide) ?_
    refine g_icmp_ne (pc := 33) 47 X dX6_mayStand_33 (by decide) (fun h6 => ?_) (fun h6 => ?_)
    · replace hf := jf_i h6 hf
      refine g_ild_n (pc := 47) (i := 2) X dX6_mayStand_47 rfl rfl ?_
      refine g_iconst (pc := 48) (v := (3 : Int32)) X dX6_mayStand_48 (by decide) ?_
      refine g_sipush (pc := 49) (v := (255 : Int32)) X dX6_mayStand_49 (by decide) ?_
      obtain ⟨r2, μ2, hc2, hf⟩ := jcall_i hf
      refine g_callSi (pc := 52) [.int x2, .int (3 : Int32), .int (255 : Int32)] X dX6_mayStand_52 (M_X6_in  (jOk_sep X) hc2) Y_X6_in w_658 w_659 (by decide) rfl rfl (Nat.le_of_ble_eq_true rfl) rfl ?_
      obtain ⟨hb3, hf⟩ := jbl_i hf
      exact g_zret (pc := 55) X dX6_mayStand_55 hb3 hf
    · replace hf := jt_i h6 hf
      refine g_ild_n (pc := 36) (i := 2) X dX6_mayStand_36 rfl rfl ?_
      refine g_iconst (pc := 37) (v := (1 : Int32)) X dX6_mayStand_37 (by decide) ?_
      refine g_sipush (pc := 38) (v := (128 : Int32)) X dX6_mayStand_38 (by decide) ?_
      obtain ⟨r4, μ4, hc4, hf⟩ := jcall_i hf
      refine g_callSi (pc := 41) [.int x2, .int (1 : Int32), .int (128 : Int32)] X dX6_mayStand_41 (M_X6_in  (jOk_sep X) hc4) Y_X6_in w_658 w_659 (by decide) rfl rfl (Nat.le_of_ble_eq_true rfl) rfl ?_
      refine g_goto (pc := 44) 55 X dX6_mayStand_44 (by decide) ?_
      obtain ⟨hb5, hf⟩ := jbl_i hf
      exact g_zret (pc := 55) X dX6_mayStand_55 hb5 hf
  · replace hf := jt_i h11 hf
    refine g_ild_n (pc := 7) (i := 2) X dX6_mayStand_7 rfl rfl ?_
    refine g_iconst (pc := 8) (v := (1 : Int32)) X dX6_mayStand_8 (by decide) ?_
    refine g_icmp_ne (pc := 9) 24 X dX6_mayStand_9 (by decide) (fun h10 => ?_) (fun h10 => ?_)
    · replace hf := jf_i h10 hf
      exact g_weak (t_X6_mayStand_24  X    _ hf) (trivial)
    · replace hf := jt_i h10 hf
      refine g_ald_n (pc := 12) (i := 0) X dX6_mayStand_12 rfl rfl ?_
      refine g_ild_n (pc := 13) (i := 1) X dX6_mayStand_13 rfl rfl ?_
      obtain ⟨r7, μ7, hc7, hf⟩ := jcall_i hf
      refine g_callVi (pc := 14) [.int x1] X dX6_mayStand_14 (M_X6_isMarked  (jOk_sep X) hc7) Y_X6_isMarked w_810 ws_15 w_812 cl_X6 rfl rfl (by decide) rfl rfl (Nat.le_of_ble_eq_true rfl) rfl ?_
      refine g_if_ne (pc := 17) 24 X dX6_mayStand_17 (by decide) (fun h9 => ?_) (fun h9 => ?_)
      · replace hf := jf_i h9 hf
        exact g_weak (t_X6_mayStand_24  X    _ hf) (trivial)
      · replace hf := jt_i h9 hf
        refine g_iconst (pc := 20) (v := (1 : Int32)) X dX6_mayStand_20 (by decide) ?_
        refine g_goto (pc := 21) 55 X dX6_mayStand_21 (by decide) ?_
        obtain ⟨hb8, hf⟩ := jbl_i hf
        exact g_zret (pc := 55) X dX6_mayStand_55 hb8 hf
/-! X6_restOf -/
abbrev D_X6_restOf : Nat := 0
noncomputable def f_X6_restOf_26   (x3 : Int32) (μ : jM) : Option (Int32 × jM) := some (x3, μ)
noncomputable def f_X6_restOf_2   : Nat → Int32 → Int32 → jM → Option (Int32 × jM)
  | 0, _, _, _ => none
  | fu + 1, x1, x3, μ => if x3 ≤ x1 then (f_X6_restOf_26    x3 μ) else (jin (x3 - (1 : Int32)) 240 (if (lg_cmp (μ.2 4 ((x3 - (1 : Int32))).toNatClampNeg) (0 : Int64)) = (0 : Int32) then (jlet (x3 + (-1 : Int32)) (fun z2 : Int32 => f_X6_restOf_2   fu x1 z2 μ)) else (f_X6_restOf_26    x3 μ)))
noncomputable def f_X6_restOf (x1 : Int32) (x2 : Int32) (μ : jM) : Option (Int32 × jM) := f_X6_restOf_2   jFU x1 x2 μ
set_option maxHeartbeats 4000000 in
theorem t_X6_restOf_26 {Γ : jC} {Δ : jD} {r : Int32} {μ9 : jM}    (X : jOk Γ Δ shM cX6_restOf 4 RX6 (some .int) D_X6_restOf)  : ∀ (x3 : Int32) (μ : jM), f_X6_restOf_26   x3 μ = some (r, μ9) → jG Γ Δ shM (some (.int r), μ9) 26 [none, none, none, some (.int x3)] [] μ := by
  intro x3 μ hf
  unfold f_X6_restOf_26 at hf
  refine g_ild_n (pc := 26) (i := 3) X dX6_restOf_26 rfl rfl ?_
  exact g_iret (pc := 27) X dX6_restOf_27 hf
set_option maxHeartbeats 4000000 in
theorem t_X6_restOf_2 {Γ : jC} {Δ : jD} {r : Int32} {μ9 : jM}    (X : jOk Γ Δ shM cX6_restOf 4 RX6 (some .int) D_X6_restOf)  : ∀ (fu : Nat) (x1 : Int32) (x3 : Int32) (μ : jM), f_X6_restOf_2   fu x1 x3 μ = some (r, μ9) → jG Γ Δ shM (some (.int r), μ9) 2 [some (jr Δ 0), some (.int x1), none, some (.int x3)] [] μ := by
  intro fu
  induction fu with
  | zero =>
    intro x1 x3 μ hf
    cases hf
  | succ fu ih =>
    intro x1 x3 μ hf
    replace hf := (f_X6_restOf_2.eq_2 _ _ _ _).symm.trans hf
    refine g_ild_n (pc := 2) (i := 3) X dX6_restOf_2 rfl rfl ?_
    refine g_ild_n (pc := 3) (i := 1) X dX6_restOf_3 rfl rfl ?_
    refine g_icmp_le (pc := 4) 26 X dX6_restOf_4 (by decide) (fun h4 => ?_) (fun h4 => ?_)
    · replace hf := jt_i h4 hf
      exact g_weak (t_X6_restOf_26  X   _ _ hf) (⟨rfl, trivial⟩)
    · replace hf := jf_i h4 hf
      refine g_ald_n (pc := 7) (i := 0) X dX6_restOf_7 rfl rfl ?_
      refine g_getR (pc := 8) (k := 14) X dX6_restOf_8 cl_X6 rfl rfl (by decide) w_675 ?_
      refine g_ild_n (pc := 11) (i := 3) X dX6_restOf_11 rfl rfl ?_
      refine g_iconst (pc := 12) (v := (1 : Int32)) X dX6_restOf_12 (by decide) ?_
      refine g_isub (pc := 13) X dX6_restOf_13 ?_
      obtain ⟨hi1, hf⟩ := jin_i hf
      refine g_lald (pc := 14) X dX6_restOf_14 rfl hi1 ?_
      refine g_lconst (pc := 15) (v := (0 : Int64)) X dX6_restOf_15 (by decide) ?_
      refine g_lcmp (pc := 16) X dX6_restOf_16 ?_
      refine g_if_ne (pc := 17) 26 X dX6_restOf_17 (by decide) (fun h3 => ?_) (fun h3 => ?_)
      · replace hf := jf_i h3 hf
        exact g_weak (t_X6_restOf_26  X   _ _ hf) (⟨rfl, trivial⟩)
      · replace hf := jt_i h3 hf
        obtain ⟨z2, ez2⟩ : ∃ z : Int32, z = x3 + (-1 : Int32) := ⟨_, rfl⟩
        replace hf := jlet_i ez2 hf
        refine g_iinc (pc := 20) (L1 := [some (jr Δ 0), some (.int x1), none, some (.int z2)]) X dX6_restOf_20 rfl (by rw [ez2]; rfl) rfl rfl ?_
        refine g_goto (pc := 23) 2 X dX6_restOf_23 (by decide) ?_
        exact g_weak (ih _ _ _ hf) (⟨rfl, ⟨rfl, ⟨rfl, trivial⟩⟩⟩)
set_option maxHeartbeats 4000000 in
theorem M_X6_restOf {l : Launch} {Δ : jD} {r : Int32} {μ μ9 : jM} {x1 : Int32} {x2 : Int32}  (hsep : jSep Δ shM) (hf : f_X6_restOf x1 x2 μ = some (r, μ9)) : jMet l yX6_restOf cX6_restOf 4 (some .int) D_X6_restOf Δ shM [jr Δ 0, .int x1, .int x2] μ (some (.int r), μ9) := by
  refine jMet_of (own := RX6) (L := [some (jr Δ 0), some (.int x1), some (.int x2), none]) (by decide) rfl (Nat.le_of_ble_eq_true rfl) rfl hsep (fun Γ _ X => ?_)
  unfold f_X6_restOf at hf
  refine g_ild_n (pc := 0) (i := 2) X dX6_restOf_0 rfl rfl ?_
  refine g_ist_n (pc := 1) (i := 3) (L1 := [some (jr Δ 0), some (.int x1), some (.int x2), some (.int x2)]) X dX6_restOf_1 rfl (Nat.le_of_ble_eq_true rfl) rfl rfl ?_
  exact g_weak (t_X6_restOf_2  X  jFU _ _ _ hf) (⟨rfl, ⟨rfl, ⟨rfl, trivial⟩⟩⟩)
