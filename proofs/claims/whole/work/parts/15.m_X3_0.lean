/-! X3_copies -/
abbrev D_X3_copies : Nat := 1
noncomputable def f_X3_copies_41    (μ : jM) : Option (Int32 × jM) := jbl (0 : Int32) (some ((0 : Int32), μ))
noncomputable def f_X3_copies (x1 : Int32) (x2 : Int32) (μ : jM) : Option (Int32 × jM) := jlet (((μ.1 17 7) * (μ.1 1 2)) + (μ.1 17 8)) (fun z2 : Int32 => if ((μ.1 4 1) - x1) < x2 then (f_X3_copies_41     μ) else (if x2 ≤ ((μ.1 17 3) - z2) then (jck (jcpOk μ 5 1000 400 x1 z2 x2) (jlet (jcp μ 5 (x1).toNatClampNeg 18 (z2).toNatClampNeg (x2).toNatClampNeg) (fun μ3 : jM => jlet (jsI μ3 17 4 (if (μ3.1 17 4) < (z2 + x2) then (z2 + x2) else (μ3.1 17 4))) (fun μ4 : jM => jlet (jsI μ4 17 8 ((μ4.1 17 8) + x2)) (fun μ5 : jM => jbl (1 : Int32) (some ((1 : Int32), μ5))))))) else (f_X3_copies_41     μ)))
set_option maxHeartbeats 4000000 in
theorem t_X3_copies_41 {Γ : jC} {Δ : jD} {r : Int32} {μ9 : jM}    (X : jOk Γ Δ shC cX3_copies 4 RX3 (some .boolean) D_X3_copies)  : ∀ (μ : jM), f_X3_copies_41    μ = some (r, μ9) → jG Γ Δ shC (some (.int r), μ9) 41 [none, none, none, none] [] μ := by
  intro  μ hf
  unfold f_X3_copies_41 at hf
  refine g_iconst (pc := 41) (v := (0 : Int32)) X dX3_copies_41 (by decide) ?_
  obtain ⟨hb1, hf⟩ := jbl_i hf
  exact g_zret (pc := 42) X dX3_copies_42 hb1 hf
set_option maxHeartbeats 4000000 in
theorem M_X3_copies {l : Launch} {Δ : jD} {r : Int32} {μ μ9 : jM} {x1 : Int32} {x2 : Int32}  (hsep : jSep Δ shC) (hf : f_X3_copies x1 x2 μ = some (r, μ9)) : jMet l yX3_copies cX3_copies 4 (some .boolean) D_X3_copies Δ shC [jr Δ 17, .int x1, .int x2] μ (some (.int r), μ9) := by
  refine jMet_of (own := RX3) (L := [some (jr Δ 17), some (.int x1), some (.int x2), none]) (by decide) rfl (Nat.le_of_ble_eq_true rfl) rfl hsep (fun Γ _ X => ?_)
  unfold f_X3_copies at hf
  refine g_ald_n (pc := 0) (i := 0) X dX3_copies_0 rfl rfl ?_
  refine g_getI (pc := 1) (k := 7) X dX3_copies_1 cl_X3 rfl rfl (by decide) w_178 ?_
  refine g_ald_n (pc := 4) (i := 0) X dX3_copies_4 rfl rfl ?_
  refine g_getR (pc := 5) (k := 0) X dX3_copies_5 cl_X3 rfl rfl (by decide) w_168 ?_
  refine g_getI (pc := 8) (k := 2) X dX3_copies_8 cl_X4 rfl rfl (by decide) w_42 ?_
  refine g_imul (pc := 11) X dX3_copies_11 ?_
  refine g_ald_n (pc := 12) (i := 0) X dX3_copies_12 rfl rfl ?_
  refine g_getI (pc := 13) (k := 8) X dX3_copies_13 cl_X3 rfl rfl (by decide) w_179 ?_
  refine g_iadd (pc := 16) X dX3_copies_16 ?_
  refine g_nmI (fun z2 ez2 => ?_)
  replace hf := jlet_i ez2 hf
  refine g_ist_n (pc := 17) (i := 3) (L1 := [some (jr Δ 17), some (.int x1), some (.int x2), some (.int z2)]) X dX3_copies_17 rfl (Nat.le_of_ble_eq_true rfl) rfl rfl ?_
  refine g_ild_n (pc := 18) (i := 2) X dX3_copies_18 rfl rfl ?_
  refine g_ald_n (pc := 19) (i := 0) X dX3_copies_19 rfl rfl ?_
  refine g_getR (pc := 20) (k := 1) X dX3_copies_20 cl_X3 rfl rfl (by decide) w_169 ?_
  refine g_getI (pc := 23) (k := 1) X dX3_copies_23 cl_X0 rfl rfl (by decide) w_74 ?_
  refine g_ild_n (pc := 26) (i := 1) X dX3_copies_26 rfl rfl ?_
  refine g_isub (pc := 27) X dX3_copies_27 ?_
  refine g_icmp_gt (pc := 28) 41 X dX3_copies_28 (by decide) (fun h8 => ?_) (fun h8 => ?_)
  · replace hf := jt_i h8 hf
    exact g_weak (t_X3_copies_41  X    _ hf) (trivial)
  · replace hf := jf_i h8 hf
    refine g_ild_n (pc := 31) (i := 2) X dX3_copies_31 rfl rfl ?_
    refine g_ald_n (pc := 32) (i := 0) X dX3_copies_32 rfl rfl ?_
    refine g_getI (pc := 33) (k := 3) X dX3_copies_33 cl_X3 rfl rfl (by decide) w_172 ?_
    refine g_ild_n (pc := 36) (i := 3) X dX3_copies_36 rfl rfl ?_
    refine g_isub (pc := 37) X dX3_copies_37 ?_
    refine g_icmp_le (pc := 38) 43 X dX3_copies_38 (by decide) (fun h7 => ?_) (fun h7 => ?_)
    · replace hf := jt_i h7 hf
      refine g_ald_n (pc := 43) (i := 0) X dX3_copies_43 rfl rfl ?_
      refine g_getR (pc := 44) (k := 1) X dX3_copies_44 cl_X3 rfl rfl (by decide) w_169 ?_
      refine g_getR (pc := 47) (k := 0) X dX3_copies_47 cl_X0 rfl rfl (by decide) w_70 ?_
      refine g_ild_n (pc := 50) (i := 1) X dX3_copies_50 rfl rfl ?_
      refine g_ald_n (pc := 51) (i := 0) X dX3_copies_51 rfl rfl ?_
      refine g_getR (pc := 52) (k := 2) X dX3_copies_52 cl_X3 rfl rfl (by decide) w_170 ?_
      refine g_ild_n (pc := 55) (i := 3) X dX3_copies_55 rfl rfl ?_
      refine g_ild_n (pc := 56) (i := 2) X dX3_copies_56 rfl rfl ?_
      obtain ⟨hk3, hf⟩ := jck_i hf
      refine g_copy (pc := 57) X dX3_copies_57 w_523 w_405 w_404 w_9 (by decide) rfl (Nat.le_of_ble_eq_true rfl) rfl rfl hk3 ?_
      refine g_nmM (fun μ3 eμ3 => ?_)
      replace hf := jlet_i eμ3 hf
      refine g_ald_n (pc := 60) (i := 0) X dX3_copies_60 rfl rfl ?_
      refine g_ald_n (pc := 61) (i := 0) X dX3_copies_61 rfl rfl ?_
      refine g_getI (pc := 62) (k := 4) X dX3_copies_62 cl_X3 rfl rfl (by decide) w_174 ?_
      refine g_ild_n (pc := 65) (i := 3) X dX3_copies_65 rfl rfl ?_
      refine g_ild_n (pc := 66) (i := 2) X dX3_copies_66 rfl rfl ?_
      refine g_iadd (pc := 67) X dX3_copies_67 ?_
      refine g_max (pc := 68) X dX3_copies_68 w_505 w_299 w_8 w_300 (by decide) rfl (Nat.le_of_ble_eq_true rfl) ?_
      refine g_putI (pc := 71) (k := 4) X dX3_copies_71 cl_X3 rfl rfl (by decide) w_174 rfl rfl rfl ?_
      refine g_nmM (fun μ4 eμ4 => ?_)
      replace hf := jlet_i eμ4 hf
      refine g_ald_n (pc := 74) (i := 0) X dX3_copies_74 rfl rfl ?_
      refine g_dupR (pc := 75) X dX3_copies_75 ?_
      refine g_getI (pc := 76) (k := 8) X dX3_copies_76 cl_X3 rfl rfl (by decide) w_179 ?_
      refine g_ild_n (pc := 79) (i := 2) X dX3_copies_79 rfl rfl ?_
      refine g_iadd (pc := 80) X dX3_copies_80 ?_
      refine g_putI (pc := 81) (k := 8) X dX3_copies_81 cl_X3 rfl rfl (by decide) w_179 rfl rfl rfl ?_
      refine g_nmM (fun μ5 eμ5 => ?_)
      replace hf := jlet_i eμ5 hf
      refine g_iconst (pc := 84) (v := (1 : Int32)) X dX3_copies_84 (by decide) ?_
      obtain ⟨hb6, hf⟩ := jbl_i hf
      exact g_zret (pc := 85) X dX3_copies_85 hb6 hf
    · replace hf := jf_i h7 hf
      exact g_weak (t_X3_copies_41  X    _ hf) (trivial)
/-! X3_copiesTimes -/
abbrev D_X3_copiesTimes : Nat := 2
noncomputable def f_X3_copiesTimes_3   : Nat → Int32 → Int32 → Int32 → Int32 → jM → Option (Int32 × jM)
  | 0, _, _, _, _, _ => none
  | fu + 1, x1, x2, x3, x4, μ => if x3 ≤ x4 then (jlet (jsI μ 17 5 (x1 + x2)) (fun μ1 : jM => jbl (1 : Int32) (some ((1 : Int32), μ1)))) else (jcall (f_X3_copies x1 x2 μ) (fun (r3 : Int32) (μ3 : jM) => if r3 = (0 : Int32) then (jbl (0 : Int32) (some ((0 : Int32), μ3))) else (jlet (x4 + (1 : Int32)) (fun z4 : Int32 => f_X3_copiesTimes_3   fu x1 x2 x3 z4 μ3))))
noncomputable def f_X3_copiesTimes (x1 : Int32) (x2 : Int32) (x3 : Int32) (μ : jM) : Option (Int32 × jM) := f_X3_copiesTimes_3   jFU x1 x2 x3 (0 : Int32) μ
set_option maxHeartbeats 4000000 in
theorem t_X3_copiesTimes_3 {Γ : jC} {Δ : jD} {r : Int32} {μ9 : jM}    (X : jOk Γ Δ shC cX3_copiesTimes 5 RX3 (some .boolean) D_X3_copiesTimes)  : ∀ (fu : Nat) (x1 : Int32) (x2 : Int32) (x3 : Int32) (x4 : Int32) (μ : jM), f_X3_copiesTimes_3   fu x1 x2 x3 x4 μ = some (r, μ9) → jG Γ Δ shC (some (.int r), μ9) 3 [some (jr Δ 17), some (.int x1), some (.int x2), some (.int x3), some (.int x4)] [] μ := by
  intro fu
  induction fu with
  | zero =>
    intro x1 x2 x3 x4 μ hf
    cases hf
  | succ fu ih =>
    intro x1 x2 x3 x4 μ hf
    replace hf := (f_X3_copiesTimes_3.eq_2 _ _ _ _ _ _).symm.trans hf
    refine g_ild (pc := 3) X dX3_copiesTimes_3 rfl ?_
    refine g_ild_n (pc := 5) (i := 3) X dX3_copiesTimes_5 rfl rfl ?_
    refine g_icmp_ge (pc := 6) 26 X dX3_copiesTimes_6 (by decide) (fun h7 => ?_) (fun h7 => ?_)
    · replace hf := jt_i h7 hf
      refine g_ald_n (pc := 26) (i := 0) X dX3_copiesTimes_26 rfl rfl ?_
      refine g_ild_n (pc := 27) (i := 1) X dX3_copiesTimes_27 rfl rfl ?_
      refine g_ild_n (pc := 28) (i := 2) X dX3_copiesTimes_28 rfl rfl ?_
      refine g_iadd (pc := 29) X dX3_copiesTimes_29 ?_
      refine g_putI (pc := 30) (k := 5) X dX3_copiesTimes_30 cl_X3 rfl rfl (by decide) w_176 rfl rfl rfl ?_
      refine g_nmM (fun μ1 eμ1 => ?_)
      replace hf := jlet_i eμ1 hf
      refine g_iconst (pc := 33) (v := (1 : Int32)) X dX3_copiesTimes_33 (by decide) ?_
      obtain ⟨hb2, hf⟩ := jbl_i hf
      exact g_zret (pc := 34) X dX3_copiesTimes_34 hb2 hf
    · replace hf := jf_i h7 hf
      refine g_ald_n (pc := 9) (i := 0) X dX3_copiesTimes_9 rfl rfl ?_
      refine g_ild_n (pc := 10) (i := 1) X dX3_copiesTimes_10 rfl rfl ?_
      refine g_ild_n (pc := 11) (i := 2) X dX3_copiesTimes_11 rfl rfl ?_
      obtain ⟨r3, μ3, hc3, hf⟩ := jcall_i hf
      refine g_callVi (pc := 12) [.int x1, .int x2] X dX3_copiesTimes_12 (M_X3_copies  (jOk_sep X) hc3) Y_X3_copies w_519 w_521 w_520 cl_X3 rfl rfl (by decide) rfl rfl (Nat.le_of_ble_eq_true rfl) rfl ?_
      refine g_if_ne (pc := 15) 20 X dX3_copiesTimes_15 (by decide) (fun h6 => ?_) (fun h6 => ?_)
      · replace hf := jf_i h6 hf
        obtain ⟨z4, ez4⟩ : ∃ z : Int32, z = x4 + (1 : Int32) := ⟨_, rfl⟩
        replace hf := jlet_i ez4 hf
        refine g_iinc (pc := 20) (L1 := [some (jr Δ 17), some (.int x1), some (.int x2), some (.int x3), some (.int z4)]) X dX3_copiesTimes_20 rfl (by rw [ez4]; rfl) rfl rfl ?_
        refine g_goto (pc := 23) 3 X dX3_copiesTimes_23 (by decide) ?_
        exact g_weak (ih _ _ _ _ _ hf) (⟨rfl, ⟨rfl, ⟨rfl, ⟨rfl, ⟨rfl, trivial⟩⟩⟩⟩⟩)
      · replace hf := jt_i h6 hf
        refine g_iconst (pc := 18) (v := (0 : Int32)) X dX3_copiesTimes_18 (by decide) ?_
        obtain ⟨hb5, hf⟩ := jbl_i hf
        exact g_zret (pc := 19) X dX3_copiesTimes_19 hb5 hf
set_option maxHeartbeats 4000000 in
theorem M_X3_copiesTimes {l : Launch} {Δ : jD} {r : Int32} {μ μ9 : jM} {x1 : Int32} {x2 : Int32} {x3 : Int32}  (hsep : jSep Δ shC) (hf : f_X3_copiesTimes x1 x2 x3 μ = some (r, μ9)) : jMet l yX3_copiesTimes cX3_copiesTimes 5 (some .boolean) D_X3_copiesTimes Δ shC [jr Δ 17, .int x1, .int x2, .int x3] μ (some (.int r), μ9) := by
  refine jMet_of (own := RX3) (L := [some (jr Δ 17), some (.int x1), some (.int x2), some (.int x3), none]) (by decide) rfl (Nat.le_of_ble_eq_true rfl) rfl hsep (fun Γ _ X => ?_)
  unfold f_X3_copiesTimes at hf
  refine g_iconst (pc := 0) (v := (0 : Int32)) X dX3_copiesTimes_0 (by decide) ?_
  refine g_ist (pc := 1) (L1 := [some (jr Δ 17), some (.int x1), some (.int x2), some (.int x3), some (.int (0 : Int32))]) X dX3_copiesTimes_1 (Nat.le_of_ble_eq_true rfl) rfl rfl ?_
  exact g_weak (t_X3_copiesTimes_3  X  jFU _ _ _ _ _ hf) (⟨rfl, ⟨rfl, ⟨rfl, ⟨rfl, ⟨rfl, trivial⟩⟩⟩⟩⟩)
/-! X3_copiesMarked -/
abbrev D_X3_copiesMarked : Nat := 3
noncomputable def f_X3_copiesMarked_123    (μ : jM) : Option (Int32 × jM) := jbl (1 : Int32) (some ((1 : Int32), μ))
noncomputable def f_X3_copiesMarked_98   (x1 : Int32) (x2 : Int32) (s0 : Int32) (μ : jM) : Option (Int32 × jM) := jbl s0 (jlet (jsI μ 17 6 s0) (fun μ2 : jM => if (μ2.1 17 6) = (0 : Int32) then (jcall (f_X3_copiesTimes ((μ2.1 17 5) + (2 : Int32)) x1 x2 μ2) (fun (r4 : Int32) (μ4 : jM) => if r4 = (0 : Int32) then (jbl (0 : Int32) (some ((0 : Int32), μ4))) else (f_X3_copiesMarked_123     μ4))) else (f_X3_copiesMarked_123     μ2)))
noncomputable def f_X3_copiesMarked  (μ : jM) : Option (Int32 × jM) := if (μ.1 17 5) < (μ.1 4 1) then (jlet (μ.1 1 1) (fun z8 : Int32 => jcall (f_X0_get 4 1000 (μ.1 17 5) μ) (fun (r9 : Int32) (μ9 : jM) => if r9 = (μ9.1 1 3) then (if ((μ9.1 17 5) + (1 : Int32)) < (μ9.1 4 1) then (jcall (f_X0_get 4 1000 ((μ9.1 17 5) + (1 : Int32)) μ9) (fun (r10 : Int32) (μ10 : jM) => if r10 = (0 : Int32) then (f_X3_copiesMarked_98    z8 r10 (1 : Int32) μ10) else (f_X3_copiesMarked_98    z8 r10 (0 : Int32) μ10))) else (jbl (0 : Int32) (some ((0 : Int32), μ9)))) else (jcall (f_X3_copiesTimes (μ9.1 17 5) z8 (1 : Int32) μ9) (fun (r14 : Int32) (μ14 : jM) => jbl r14 (some (r14, μ14))))))) else (jbl (0 : Int32) (some ((0 : Int32), μ)))
set_option maxHeartbeats 4000000 in
theorem t_X3_copiesMarked_123 {Γ : jC} {Δ : jD} {r : Int32} {μ9 : jM}    (X : jOk Γ Δ shC cX3_copiesMarked 3 RX3 (some .boolean) D_X3_copiesMarked)  : ∀ (μ : jM), f_X3_copiesMarked_123    μ = some (r, μ9) → jG Γ Δ shC (some (.int r), μ9) 123 [none, none, none] [] μ := by
  intro  μ hf
  unfold f_X3_copiesMarked_123 at hf
  refine g_iconst (pc := 123) (v := (1 : Int32)) X dX3_copiesMarked_123 (by decide) ?_
  refine g_goto (pc := 124) 128 X dX3_copiesMarked_124 (by decide) ?_
  obtain ⟨hb1, hf⟩ := jbl_i hf
  exact g_zret (pc := 128) X dX3_copiesMarked_128 hb1 hf
set_option maxHeartbeats 4000000 in
theorem t_X3_copiesMarked_98 {Γ : jC} {Δ : jD} {r : Int32} {μ9 : jM}    (X : jOk Γ Δ shC cX3_copiesMarked 3 RX3 (some .boolean) D_X3_copiesMarked)  : ∀ (x1 : Int32) (x2 : Int32) (s0 : Int32) (μ : jM), f_X3_copiesMarked_98   x1 x2 s0 μ = some (r, μ9) → jG Γ Δ shC (some (.int r), μ9) 98 [some (jr Δ 17), some (.int x1), some (.int x2)] [.int s0, jr Δ 17] μ := by
  intro x1 x2 s0 μ hf
  unfold f_X3_copiesMarked_98 at hf
  obtain ⟨hb3, hf⟩ := jbl_i hf
  refine g_putI (pc := 98) (k := 6) X dX3_copiesMarked_98 cl_X3 rfl rfl (by decide) w_177 rfl (jb_n hb3) (jb_f hb3) ?_
  refine g_nmM (fun μ2 eμ2 => ?_)
  replace hf := jlet_i eμ2 hf
  refine g_ald_n (pc := 101) (i := 0) X dX3_copiesMarked_101 rfl rfl ?_
  refine g_getI (pc := 102) (k := 6) X dX3_copiesMarked_102 cl_X3 rfl rfl (by decide) w_177 ?_
  refine g_if_ne (pc := 105) 123 X dX3_copiesMarked_105 (by decide) (fun h7 => ?_) (fun h7 => ?_)
  · replace hf := jf_i h7 hf
    exact g_weak (t_X3_copiesMarked_123  X    _ hf) (trivial)
  · replace hf := jt_i h7 hf
    refine g_ald_n (pc := 108) (i := 0) X dX3_copiesMarked_108 rfl rfl ?_
    refine g_ald_n (pc := 109) (i := 0) X dX3_copiesMarked_109 rfl rfl ?_
    refine g_getI (pc := 110) (k := 5) X dX3_copiesMarked_110 cl_X3 rfl rfl (by decide) w_176 ?_
    refine g_iconst (pc := 113) (v := (2 : Int32)) X dX3_copiesMarked_113 (by decide) ?_
    refine g_iadd (pc := 114) X dX3_copiesMarked_114 ?_
    refine g_ild_n (pc := 115) (i := 1) X dX3_copiesMarked_115 rfl rfl ?_
    refine g_ild_n (pc := 116) (i := 2) X dX3_copiesMarked_116 rfl rfl ?_
    obtain ⟨r4, μ4, hc4, hf⟩ := jcall_i hf
    refine g_callVi (pc := 117) [.int ((μ2.1 17 5) + (2 : Int32)), .int x1, .int x2] X dX3_copiesMarked_117 (M_X3_copiesTimes  (jOk_sep X) hc4) Y_X3_copiesTimes w_515 w_517 w_516 cl_X3 rfl rfl (by decide) rfl rfl (Nat.le_of_ble_eq_true rfl) rfl ?_
    refine g_if_eq (pc := 120) 127 X dX3_copiesMarked_120 (by decide) (fun h6 => ?_) (fun h6 => ?_)
    · replace hf := jt_i h6 hf
      refine g_iconst (pc := 127) (v := (0 : Int32)) X dX3_copiesMarked_127 (by decide) ?_
      obtain ⟨hb5, hf⟩ := jbl_i hf
      exact g_zret (pc := 128) X dX3_copiesMarked_128 hb5 hf
    · replace hf := jf_i h6 hf
      exact g_weak (t_X3_copiesMarked_123  X    _ hf) (trivial)
set_option maxHeartbeats 4000000 in
theorem M_X3_copiesMarked {l : Launch} {Δ : jD} {r : Int32} {μ μ9 : jM}   (hsep : jSep Δ shC) (hf : f_X3_copiesMarked  μ = some (r, μ9)) : jMet l yX3_copiesMarked cX3_copiesMarked 3 (some .boolean) D_X3_copiesMarked Δ shC [jr Δ 17] μ (some (.int r), μ9) := by
  refine jMet_of (own := RX3) (L := [some (jr Δ 17), none, none]) (by decide) rfl (Nat.le_of_ble_eq_true rfl) rfl hsep (fun Γ _ X => ?_)
  unfold f_X3_copiesMarked at hf
  refine g_ald_n (pc := 0) (i := 0) X dX3_copiesMarked_0 rfl rfl ?_
  refine g_getI (pc := 1) (k := 5) X dX3_copiesMarked_1 cl_X3 rfl rfl (by decide) w_176 ?_
  refine g_ald_n (pc := 4) (i := 0) X dX3_copiesMarked_4 rfl rfl ?_
  refine g_getR (pc := 5) (k := 1) X dX3_copiesMarked_5 cl_X3 rfl rfl (by decide) w_169 ?_
  refine g_getI (pc := 8) (k := 1) X dX3_copiesMarked_8 cl_X0 rfl rfl (by decide) w_74 ?_
  refine g_icmp_lt (pc := 11) 16 X dX3_copiesMarked_11 (by decide) (fun h18 => ?_) (fun h18 => ?_)
  · replace hf := jt_i h18 hf
    refine g_ald_n (pc := 16) (i := 0) X dX3_copiesMarked_16 rfl rfl ?_
    refine g_getR (pc := 17) (k := 0) X dX3_copiesMarked_17 cl_X3 rfl rfl (by decide) w_168 ?_
    refine g_getI (pc := 20) (k := 1) X dX3_copiesMarked_20 cl_X4 rfl rfl (by decide) w_37 ?_
    refine g_nmI (fun z8 ez8 => ?_)
    replace hf := jlet_i ez8 hf
    refine g_ist_n (pc := 23) (i := 1) (L1 := [some (jr Δ 17), some (.int z8), none]) X dX3_copiesMarked_23 rfl (Nat.le_of_ble_eq_true rfl) rfl rfl ?_
    refine g_ald_n (pc := 24) (i := 0) X dX3_copiesMarked_24 rfl rfl ?_
    refine g_getR (pc := 25) (k := 1) X dX3_copiesMarked_25 cl_X3 rfl rfl (by decide) w_169 ?_
    refine g_ald_n (pc := 28) (i := 0) X dX3_copiesMarked_28 rfl rfl ?_
    refine g_getI (pc := 29) (k := 5) X dX3_copiesMarked_29 cl_X3 rfl rfl (by decide) w_176 ?_
    obtain ⟨r9, μ9, hc9, hf⟩ := jcall_i hf
    refine g_callVi (pc := 32) [.int (μ.1 17 5)] X dX3_copiesMarked_32 (M_X0_get ⟨rfl, rfl⟩ (jOk_sep X) hc9) Y_X0_get w_514 w_292 w_291 cl_X0 rfl rfl (by decide) rfl rfl (Nat.le_of_ble_eq_true rfl) rfl ?_
    refine g_ald_n (pc := 35) (i := 0) X dX3_copiesMarked_35 rfl rfl ?_
    refine g_getR (pc := 36) (k := 0) X dX3_copiesMarked_36 cl_X3 rfl rfl (by decide) w_168 ?_
    refine g_getI (pc := 39) (k := 3) X dX3_copiesMarked_39 cl_X4 rfl rfl (by decide) w_47 ?_
    refine g_icmp_eq (pc := 42) 56 X dX3_copiesMarked_42 (by decide) (fun h16 => ?_) (fun h16 => ?_)
    · replace hf := jt_i h16 hf
      refine g_ald_n (pc := 56) (i := 0) X dX3_copiesMarked_56 rfl rfl ?_
      refine g_getI (pc := 57) (k := 5) X dX3_copiesMarked_57 cl_X3 rfl rfl (by decide) w_176 ?_
      refine g_iconst (pc := 60) (v := (1 : Int32)) X dX3_copiesMarked_60 (by decide) ?_
      refine g_iadd (pc := 61) X dX3_copiesMarked_61 ?_
      refine g_ald_n (pc := 62) (i := 0) X dX3_copiesMarked_62 rfl rfl ?_
      refine g_getR (pc := 63) (k := 1) X dX3_copiesMarked_63 cl_X3 rfl rfl (by decide) w_169 ?_
      refine g_getI (pc := 66) (k := 1) X dX3_copiesMarked_66 cl_X0 rfl rfl (by decide) w_74 ?_
      refine g_icmp_lt (pc := 69) 74 X dX3_copiesMarked_69 (by decide) (fun h13 => ?_) (fun h13 => ?_)
      · replace hf := jt_i h13 hf
        refine g_ald_n (pc := 74) (i := 0) X dX3_copiesMarked_74 rfl rfl ?_
        refine g_getR (pc := 75) (k := 1) X dX3_copiesMarked_75 cl_X3 rfl rfl (by decide) w_169 ?_
        refine g_ald_n (pc := 78) (i := 0) X dX3_copiesMarked_78 rfl rfl ?_
        refine g_getI (pc := 79) (k := 5) X dX3_copiesMarked_79 cl_X3 rfl rfl (by decide) w_176 ?_
        refine g_iconst (pc := 82) (v := (1 : Int32)) X dX3_copiesMarked_82 (by decide) ?_
        refine g_iadd (pc := 83) X dX3_copiesMarked_83 ?_
        obtain ⟨r10, μ10, hc10, hf⟩ := jcall_i hf
        refine g_callVi (pc := 84) [.int ((μ9.1 17 5) + (1 : Int32))] X dX3_copiesMarked_84 (M_X0_get ⟨rfl, rfl⟩ (jOk_sep X) hc10) Y_X0_get w_514 w_292 w_291 cl_X0 rfl rfl (by decide) rfl rfl (Nat.le_of_ble_eq_true rfl) rfl ?_
        refine g_ist_n (pc := 87) (i := 2) (L1 := [some (jr Δ 17), some (.int z8), some (.int r10)]) X dX3_copiesMarked_87 rfl (Nat.le_of_ble_eq_true rfl) rfl rfl ?_
        refine g_ald_n (pc := 88) (i := 0) X dX3_copiesMarked_88 rfl rfl ?_
        refine g_ild_n (pc := 89) (i := 2) X dX3_copiesMarked_89 rfl rfl ?_
        refine g_if_ne (pc := 90) 97 X dX3_copiesMarked_90 (by decide) (fun h11 => ?_) (fun h11 => ?_)
        · replace hf := jf_i h11 hf
          refine g_iconst (pc := 97) (v := (0 : Int32)) X dX3_copiesMarked_97 (by decide) ?_
          exact g_weak (t_X3_copiesMarked_98  X   _ _ _ _ hf) (⟨rfl, ⟨rfl, ⟨rfl, trivial⟩⟩⟩)
        · replace hf := jt_i h11 hf
          refine g_iconst (pc := 93) (v := (1 : Int32)) X dX3_copiesMarked_93 (by decide) ?_
          refine g_goto (pc := 94) 98 X dX3_copiesMarked_94 (by decide) ?_
          exact g_weak (t_X3_copiesMarked_98  X   _ _ _ _ hf) (⟨rfl, ⟨rfl, ⟨rfl, trivial⟩⟩⟩)
      · replace hf := jf_i h13 hf
        refine g_iconst (pc := 72) (v := (0 : Int32)) X dX3_copiesMarked_72 (by decide) ?_
        obtain ⟨hb12, hf⟩ := jbl_i hf
        exact g_zret (pc := 73) X dX3_copiesMarked_73 hb12 hf
    · replace hf := jf_i h16 hf
      refine g_ald_n (pc := 45) (i := 0) X dX3_copiesMarked_45 rfl rfl ?_
      refine g_ald_n (pc := 46) (i := 0) X dX3_copiesMarked_46 rfl rfl ?_
      refine g_getI (pc := 47) (k := 5) X dX3_copiesMarked_47 cl_X3 rfl rfl (by decide) w_176 ?_
      refine g_ild_n (pc := 50) (i := 1) X dX3_copiesMarked_50 rfl rfl ?_
      refine g_iconst (pc := 51) (v := (1 : Int32)) X dX3_copiesMarked_51 (by decide) ?_
      obtain ⟨r14, μ14, hc14, hf⟩ := jcall_i hf
      refine g_callVi (pc := 52) [.int (μ9.1 17 5), .int z8, .int (1 : Int32)] X dX3_copiesMarked_52 (M_X3_copiesTimes  (jOk_sep X) hc14) Y_X3_copiesTimes w_515 w_517 w_516 cl_X3 rfl rfl (by decide) rfl rfl (Nat.le_of_ble_eq_true rfl) rfl ?_
      obtain ⟨hb15, hf⟩ := jbl_i hf
      exact g_zret (pc := 55) X dX3_copiesMarked_55 hb15 hf
  · replace hf := jf_i h18 hf
    refine g_iconst (pc := 14) (v := (0 : Int32)) X dX3_copiesMarked_14 (by decide) ?_
    obtain ⟨hb17, hf⟩ := jbl_i hf
    exact g_zret (pc := 15) X dX3_copiesMarked_15 hb17 hf
/-! X3_goesOn -/
abbrev D_X3_goesOn : Nat := 1
noncomputable def f_X3_goesOn  (μ : jM) : Option (Int32 × jM) := if ((μ.1 17 5) + (3 : Int32)) < (μ.1 4 1) then (jcall (f_X0_get 4 1000 ((μ.1 17 5) + (2 : Int32)) μ) (fun (r1 : Int32) (μ1 : jM) => jlet (jsI μ1 17 8 ((μ.1 17 8) + r1)) (fun μ2 : jM => jcall (f_X0_get 4 1000 ((μ2.1 17 5) + (3 : Int32)) μ2) (fun (r3 : Int32) (μ3 : jM) => jlet (jsI μ3 17 7 ((μ2.1 17 7) + r3)) (fun μ4 : jM => jlet (jsI μ4 17 5 ((μ4.1 17 5) + (4 : Int32))) (fun μ5 : jM => jbl (1 : Int32) (some ((1 : Int32), μ5)))))))) else (jbl (0 : Int32) (some ((0 : Int32), μ)))
set_option maxHeartbeats 4000000 in
theorem M_X3_goesOn {l : Launch} {Δ : jD} {r : Int32} {μ μ9 : jM}   (hsep : jSep Δ shC) (hf : f_X3_goesOn  μ = some (r, μ9)) : jMet l yX3_goesOn cX3_goesOn 1 (some .boolean) D_X3_goesOn Δ shC [jr Δ 17] μ (some (.int r), μ9) := by
  refine jMet_of (own := RX3) (L := [some (jr Δ 17)]) (by decide) rfl (Nat.le_of_ble_eq_true rfl) rfl hsep (fun Γ _ X => ?_)
  unfold f_X3_goesOn at hf
  refine g_ald_n (pc := 0) (i := 0) X dX3_goesOn_0 rfl rfl ?_
  refine g_getI (pc := 1) (k := 5) X dX3_goesOn_1 cl_X3 rfl rfl (by decide) w_176 ?_
  refine g_iconst (pc := 4) (v := (3 : Int32)) X dX3_goesOn_4 (by decide) ?_
  refine g_iadd (pc := 5) X dX3_goesOn_5 ?_
  refine g_ald_n (pc := 6) (i := 0) X dX3_goesOn_6 rfl rfl ?_
  refine g_getR (pc := 7) (k := 1) X dX3_goesOn_7 cl_X3 rfl rfl (by decide) w_169 ?_
  refine g_getI (pc := 10) (k := 1) X dX3_goesOn_10 cl_X0 rfl rfl (by decide) w_74 ?_
  refine g_icmp_lt (pc := 13) 18 X dX3_goesOn_13 (by decide) (fun h8 => ?_) (fun h8 => ?_)
  · replace hf := jt_i h8 hf
    refine g_ald_n (pc := 18) (i := 0) X dX3_goesOn_18 rfl rfl ?_
    refine g_dupR (pc := 19) X dX3_goesOn_19 ?_
    refine g_getI (pc := 20) (k := 8) X dX3_goesOn_20 cl_X3 rfl rfl (by decide) w_179 ?_
    refine g_ald_n (pc := 23) (i := 0) X dX3_goesOn_23 rfl rfl ?_
    refine g_getR (pc := 24) (k := 1) X dX3_goesOn_24 cl_X3 rfl rfl (by decide) w_169 ?_
    refine g_ald_n (pc := 27) (i := 0) X dX3_goesOn_27 rfl rfl ?_
    refine g_getI (pc := 28) (k := 5) X dX3_goesOn_28 cl_X3 rfl rfl (by decide) w_176 ?_
    refine g_iconst (pc := 31) (v := (2 : Int32)) X dX3_goesOn_31 (by decide) ?_
    refine g_iadd (pc := 32) X dX3_goesOn_32 ?_
    obtain ⟨r1, μ1, hc1, hf⟩ := jcall_i hf
    refine g_callVi (pc := 33) [.int ((μ.1 17 5) + (2 : Int32))] X dX3_goesOn_33 (M_X0_get ⟨rfl, rfl⟩ (jOk_sep X) hc1) Y_X0_get w_514 w_292 w_291 cl_X0 rfl rfl (by decide) rfl rfl (Nat.le_of_ble_eq_true rfl) rfl ?_
    refine g_iadd (pc := 36) X dX3_goesOn_36 ?_
    refine g_putI (pc := 37) (k := 8) X dX3_goesOn_37 cl_X3 rfl rfl (by decide) w_179 rfl rfl rfl ?_
    refine g_nmM (fun μ2 eμ2 => ?_)
    replace hf := jlet_i eμ2 hf
    refine g_ald_n (pc := 40) (i := 0) X dX3_goesOn_40 rfl rfl ?_
    refine g_dupR (pc := 41) X dX3_goesOn_41 ?_
    refine g_getI (pc := 42) (k := 7) X dX3_goesOn_42 cl_X3 rfl rfl (by decide) w_178 ?_
    refine g_ald_n (pc := 45) (i := 0) X dX3_goesOn_45 rfl rfl ?_
    refine g_getR (pc := 46) (k := 1) X dX3_goesOn_46 cl_X3 rfl rfl (by decide) w_169 ?_
    refine g_ald_n (pc := 49) (i := 0) X dX3_goesOn_49 rfl rfl ?_
    refine g_getI (pc := 50) (k := 5) X dX3_goesOn_50 cl_X3 rfl rfl (by decide) w_176 ?_
    refine g_iconst (pc := 53) (v := (3 : Int32)) X dX3_goesOn_53 (by decide) ?_
    refine g_iadd (pc := 54) X dX3_goesOn_54 ?_
    obtain ⟨r3, μ3, hc3, hf⟩ := jcall_i hf
    refine g_callVi (pc := 55) [.int ((μ2.1 17 5) + (3 : Int32))] X dX3_goesOn_55 (M_X0_get ⟨rfl, rfl⟩ (jOk_sep X) hc3) Y_X0_get w_514 w_292 w_291 cl_X0 rfl rfl (by decide) rfl rfl (Nat.le_of_ble_eq_true rfl) rfl ?_
    refine g_iadd (pc := 58) X dX3_goesOn_58 ?_
    refine g_putI (pc := 59) (k := 7) X dX3_goesOn_59 cl_X3 rfl rfl (by decide) w_178 rfl rfl rfl ?_
    refine g_nmM (fun μ4 eμ4 => ?_)
    replace hf := jlet_i eμ4 hf
    refine g_ald_n (pc := 62) (i := 0) X dX3_goesOn_62 rfl rfl ?_
    refine g_dupR (pc := 63) X dX3_goesOn_63 ?_
    refine g_getI (pc := 64) (k := 5) X dX3_goesOn_64 cl_X3 rfl rfl (by decide) w_176 ?_
    refine g_iconst (pc := 67) (v := (4 : Int32)) X dX3_goesOn_67 (by decide) ?_
    refine g_iadd (pc := 68) X dX3_goesOn_68 ?_
    refine g_putI (pc := 69) (k := 5) X dX3_goesOn_69 cl_X3 rfl rfl (by decide) w_176 rfl rfl rfl ?_
    refine g_nmM (fun μ5 eμ5 => ?_)
    replace hf := jlet_i eμ5 hf
    refine g_iconst (pc := 72) (v := (1 : Int32)) X dX3_goesOn_72 (by decide) ?_
    obtain ⟨hb6, hf⟩ := jbl_i hf
    exact g_zret (pc := 73) X dX3_goesOn_73 hb6 hf
  · replace hf := jf_i h8 hf
    refine g_iconst (pc := 16) (v := (0 : Int32)) X dX3_goesOn_16 (by decide) ?_
    obtain ⟨hb7, hf⟩ := jbl_i hf
    exact g_zret (pc := 17) X dX3_goesOn_17 hb7 hf
/-! X3_copiesRows -/
abbrev D_X3_copiesRows : Nat := 3
noncomputable def f_X3_copiesRows  (μ : jM) : Option (Int32 × jM) := if ((μ.1 17 5) + (1 : Int32)) < (μ.1 4 1) then (jcall (f_X0_get 4 1000 (μ.1 17 5) μ) (fun (r1 : Int32) (μ1 : jM) => jcall (f_X0_get 4 1000 ((μ1.1 17 5) + (1 : Int32)) μ1) (fun (r2 : Int32) (μ2 : jM) => if r1 ≤ (0 : Int32) then (if r2 = (0 : Int32) then (jlet (jsI μ2 17 7 ((μ2.1 17 7) + (1 : Int32))) (fun μ4 : jM => jlet (jsI μ4 17 8 (0 : Int32)) (fun μ5 : jM => jlet (jsI μ5 17 5 ((μ5.1 17 5) + (2 : Int32))) (fun μ6 : jM => jbl (1 : Int32) (some ((1 : Int32), μ6)))))) else (if r2 = (1 : Int32) then (jbl (1 : Int32) (jlet (jsI μ2 17 6 (1 : Int32)) (fun μ9 : jM => jbl (1 : Int32) (some ((1 : Int32), μ9))))) else (if r2 = (2 : Int32) then (jcall (f_X3_goesOn  μ2) (fun (r13 : Int32) (μ13 : jM) => jbl r13 (some (r13, μ13)))) else (jcall (f_X3_copiesTimes ((μ2.1 17 5) + (2 : Int32)) r2 (1 : Int32) μ2) (fun (r15 : Int32) (μ15 : jM) => jlet (jsI μ15 17 5 ((μ15.1 17 5) + (r2 &&& (1 : Int32)))) (fun μ16 : jM => jbl r15 (some (r15, μ16)))))))) else (jcall (f_X3_copiesTimes ((μ2.1 17 5) + (1 : Int32)) (1 : Int32) r1 μ2) (fun (r18 : Int32) (μ18 : jM) => jbl r18 (some (r18, μ18))))))) else (jbl (0 : Int32) (some ((0 : Int32), μ)))
set_option maxHeartbeats 4000000 in
theorem M_X3_copiesRows {l : Launch} {Δ : jD} {r : Int32} {μ μ9 : jM}   (hsep : jSep Δ shC) (hf : f_X3_copiesRows  μ = some (r, μ9)) : jMet l yX3_copiesRows cX3_copiesRows 4 (some .boolean) D_X3_copiesRows Δ shC [jr Δ 17] μ (some (.int r), μ9) := by
  refine jMet_of (own := RX3) (L := [some (jr Δ 17), none, none, none]) (by decide) rfl (Nat.le_of_ble_eq_true rfl) rfl hsep (fun Γ _ X => ?_)
  unfold f_X3_copiesRows at hf
  refine g_ald_n (pc := 0) (i := 0) X dX3_copiesRows_0 rfl rfl ?_
  refine g_getI (pc := 1) (k := 5) X dX3_copiesRows_1 cl_X3 rfl rfl (by decide) w_176 ?_
  refine g_iconst (pc := 4) (v := (1 : Int32)) X dX3_copiesRows_4 (by decide) ?_
  refine g_iadd (pc := 5) X dX3_copiesRows_5 ?_
  refine g_ald_n (pc := 6) (i := 0) X dX3_copiesRows_6 rfl rfl ?_
  refine g_getR (pc := 7) (k := 1) X dX3_copiesRows_7 cl_X3 rfl rfl (by decide) w_169 ?_
  refine g_getI (pc := 10) (k := 1) X dX3_copiesRows_10 cl_X0 rfl rfl (by decide) w_74 ?_
  refine g_icmp_lt (pc := 13) 18 X dX3_copiesRows_13 (by decide) (fun h22 => ?_) (fun h22 => ?_)
  · replace hf := jt_i h22 hf
    refine g_ald_n (pc := 18) (i := 0) X dX3_copiesRows_18 rfl rfl ?_
    refine g_getR (pc := 19) (k := 1) X dX3_copiesRows_19 cl_X3 rfl rfl (by decide) w_169 ?_
    refine g_ald_n (pc := 22) (i := 0) X dX3_copiesRows_22 rfl rfl ?_
    refine g_getI (pc := 23) (k := 5) X dX3_copiesRows_23 cl_X3 rfl rfl (by decide) w_176 ?_
    obtain ⟨r1, μ1, hc1, hf⟩ := jcall_i hf
    refine g_callVi (pc := 26) [.int (μ.1 17 5)] X dX3_copiesRows_26 (M_X0_get ⟨rfl, rfl⟩ (jOk_sep X) hc1) Y_X0_get w_514 w_292 w_291 cl_X0 rfl rfl (by decide) rfl rfl (Nat.le_of_ble_eq_true rfl) rfl ?_
    refine g_ist_n (pc := 29) (i := 1) (L1 := [some (jr Δ 17), some (.int r1), none, none]) X dX3_copiesRows_29 rfl (Nat.le_of_ble_eq_true rfl) rfl rfl ?_
    refine g_ald_n (pc := 30) (i := 0) X dX3_copiesRows_30 rfl rfl ?_
    refine g_getR (pc := 31) (k := 1) X dX3_copiesRows_31 cl_X3 rfl rfl (by decide) w_169 ?_
    refine g_ald_n (pc := 34) (i := 0) X dX3_copiesRows_34 rfl rfl ?_
    refine g_getI (pc := 35) (k := 5) X dX3_copiesRows_35 cl_X3 rfl rfl (by decide) w_176 ?_
    refine g_iconst (pc := 38) (v := (1 : Int32)) X dX3_copiesRows_38 (by decide) ?_
    refine g_iadd (pc := 39) X dX3_copiesRows_39 ?_
    obtain ⟨r2, μ2, hc2, hf⟩ := jcall_i hf
    refine g_callVi (pc := 40) [.int ((μ1.1 17 5) + (1 : Int32))] X dX3_copiesRows_40 (M_X0_get ⟨rfl, rfl⟩ (jOk_sep X) hc2) Y_X0_get w_514 w_292 w_291 cl_X0 rfl rfl (by decide) rfl rfl (Nat.le_of_ble_eq_true rfl) rfl ?_
    refine g_ist_n (pc := 43) (i := 2) (L1 := [some (jr Δ 17), some (.int r1), some (.int r2), none]) X dX3_copiesRows_43 rfl (Nat.le_of_ble_eq_true rfl) rfl rfl ?_
    refine g_ild_n (pc := 44) (i := 1) X dX3_copiesRows_44 rfl rfl ?_
    refine g_if_le (pc := 45) 61 X dX3_copiesRows_45 (by decide) (fun h20 => ?_) (fun h20 => ?_)
    · replace hf := jt_i h20 hf
      refine g_ild_n (pc := 61) (i := 2) X dX3_copiesRows_61 rfl rfl ?_
      by_cases h3 : r2 = (0 : Int32)
      · replace hf := jt_i h3 hf
        refine g_tblIn (pc := 62) 88 X dX3_copiesRows_62 (by rw [h3]; decide) (by rw [h3]; decide) (by rw [h3]; rfl) (by decide) ?_
        refine g_ald_n (pc := 88) (i := 0) X dX3_copiesRows_88 rfl rfl ?_
        refine g_dupR (pc := 89) X dX3_copiesRows_89 ?_
        refine g_getI (pc := 90) (k := 7) X dX3_copiesRows_90 cl_X3 rfl rfl (by decide) w_178 ?_
        refine g_iconst (pc := 93) (v := (1 : Int32)) X dX3_copiesRows_93 (by decide) ?_
        refine g_iadd (pc := 94) X dX3_copiesRows_94 ?_
        refine g_putI (pc := 95) (k := 7) X dX3_copiesRows_95 cl_X3 rfl rfl (by decide) w_178 rfl rfl rfl ?_
        refine g_nmM (fun μ4 eμ4 => ?_)
        replace hf := jlet_i eμ4 hf
        refine g_ald_n (pc := 98) (i := 0) X dX3_copiesRows_98 rfl rfl ?_
        refine g_iconst (pc := 99) (v := (0 : Int32)) X dX3_copiesRows_99 (by decide) ?_
        refine g_putI (pc := 100) (k := 8) X dX3_copiesRows_100 cl_X3 rfl rfl (by decide) w_179 rfl rfl rfl ?_
        refine g_nmM (fun μ5 eμ5 => ?_)
        replace hf := jlet_i eμ5 hf
        refine g_ald_n (pc := 103) (i := 0) X dX3_copiesRows_103 rfl rfl ?_
        refine g_dupR (pc := 104) X dX3_copiesRows_104 ?_
        refine g_getI (pc := 105) (k := 5) X dX3_copiesRows_105 cl_X3 rfl rfl (by decide) w_176 ?_
        refine g_iconst (pc := 108) (v := (2 : Int32)) X dX3_copiesRows_108 (by decide) ?_
        refine g_iadd (pc := 109) X dX3_copiesRows_109 ?_
        refine g_putI (pc := 110) (k := 5) X dX3_copiesRows_110 cl_X3 rfl rfl (by decide) w_176 rfl rfl rfl ?_
        refine g_nmM (fun μ6 eμ6 => ?_)
        replace hf := jlet_i eμ6 hf
        refine g_iconst (pc := 113) (v := (1 : Int32)) X dX3_copiesRows_113 (by decide) ?_
        obtain ⟨hb7, hf⟩ := jbl_i hf
        exact g_zret (pc := 114) X dX3_copiesRows_114 hb7 hf
      replace hf := jf_i h3 hf
      by_cases h8 : r2 = (1 : Int32)
      · replace hf := jt_i h8 hf
        refine g_tblIn (pc := 62) 115 X dX3_copiesRows_62 (by rw [h8]; decide) (by rw [h8]; decide) (by rw [h8]; rfl) (by decide) ?_
        refine g_ald_n (pc := 115) (i := 0) X dX3_copiesRows_115 rfl rfl ?_
        refine g_iconst (pc := 116) (v := (1 : Int32)) X dX3_copiesRows_116 (by decide) ?_
        obtain ⟨hb10, hf⟩ := jbl_i hf
        refine g_putI (pc := 117) (k := 6) X dX3_copiesRows_117 cl_X3 rfl rfl (by decide) w_177 rfl (jb_n hb10) (jb_f hb10) ?_
        refine g_nmM (fun μ9 eμ9 => ?_)
        replace hf := jlet_i eμ9 hf
        refine g_iconst (pc := 120) (v := (1 : Int32)) X dX3_copiesRows_120 (by decide) ?_
        obtain ⟨hb11, hf⟩ := jbl_i hf
        exact g_zret (pc := 121) X dX3_copiesRows_121 hb11 hf
      replace hf := jf_i h8 hf
      by_cases h12 : r2 = (2 : Int32)
      · replace hf := jt_i h12 hf
        refine g_tblIn (pc := 62) 122 X dX3_copiesRows_62 (by rw [h12]; decide) (by rw [h12]; decide) (by rw [h12]; rfl) (by decide) ?_
        refine g_ald_n (pc := 122) (i := 0) X dX3_copiesRows_122 rfl rfl ?_
        obtain ⟨r13, μ13, hc13, hf⟩ := jcall_i hf
        refine g_callVi (pc := 123) [] X dX3_copiesRows_123 (M_X3_goesOn  (jOk_sep X) hc13) Y_X3_goesOn w_532 w_534 w_533 cl_X3 rfl rfl (by decide) rfl rfl (Nat.le_of_ble_eq_true rfl) rfl ?_
        obtain ⟨hb14, hf⟩ := jbl_i hf
        exact g_zret (pc := 126) X dX3_copiesRows_126 hb14 hf
      replace hf := jf_i h12 hf
      refine g_tblOut (pc := 62) 127 X dX3_copiesRows_62 (by have yh3 := lv_neT (a := 0) h3 rfl; have yh8 := lv_neT (a := 1) h8 rfl; have yh12 := lv_neT (a := 2) h12 rfl; omega) (by decide) ?_
      refine g_ald_n (pc := 127) (i := 0) X dX3_copiesRows_127 rfl rfl ?_
      refine g_ald_n (pc := 128) (i := 0) X dX3_copiesRows_128 rfl rfl ?_
      refine g_getI (pc := 129) (k := 5) X dX3_copiesRows_129 cl_X3 rfl rfl (by decide) w_176 ?_
      refine g_iconst (pc := 132) (v := (2 : Int32)) X dX3_copiesRows_132 (by decide) ?_
      refine g_iadd (pc := 133) X dX3_copiesRows_133 ?_
      refine g_ild_n (pc := 134) (i := 2) X dX3_copiesRows_134 rfl rfl ?_
      refine g_iconst (pc := 135) (v := (1 : Int32)) X dX3_copiesRows_135 (by decide) ?_
      obtain ⟨r15, μ15, hc15, hf⟩ := jcall_i hf
      refine g_callVi (pc := 136) [.int ((μ2.1 17 5) + (2 : Int32)), .int r2, .int (1 : Int32)] X dX3_copiesRows_136 (M_X3_copiesTimes  (jOk_sep X) hc15) Y_X3_copiesTimes w_515 w_517 w_516 cl_X3 rfl rfl (by decide) rfl rfl (Nat.le_of_ble_eq_true rfl) rfl ?_
      refine g_ist_n (pc := 139) (i := 3) (L1 := [some (jr Δ 17), some (.int r1), some (.int r2), some (.int r15)]) X dX3_copiesRows_139 rfl (Nat.le_of_ble_eq_true rfl) rfl rfl ?_
      refine g_ald_n (pc := 140) (i := 0) X dX3_copiesRows_140 rfl rfl ?_
      refine g_dupR (pc := 141) X dX3_copiesRows_141 ?_
      refine g_getI (pc := 142) (k := 5) X dX3_copiesRows_142 cl_X3 rfl rfl (by decide) w_176 ?_
      refine g_ild_n (pc := 145) (i := 2) X dX3_copiesRows_145 rfl rfl ?_
      refine g_iconst (pc := 146) (v := (1 : Int32)) X dX3_copiesRows_146 (by decide) ?_
      refine g_iand (pc := 147) X dX3_copiesRows_147 ?_
      refine g_iadd (pc := 148) X dX3_copiesRows_148 ?_
      refine g_putI (pc := 149) (k := 5) X dX3_copiesRows_149 cl_X3 rfl rfl (by decide) w_176 rfl rfl rfl ?_
      refine g_nmM (fun μ16 eμ16 => ?_)
      replace hf := jlet_i eμ16 hf
      refine g_ild_n (pc := 152) (i := 3) X dX3_copiesRows_152 rfl rfl ?_
      obtain ⟨hb17, hf⟩ := jbl_i hf
      exact g_zret (pc := 153) X dX3_copiesRows_153 hb17 hf
    · replace hf := jf_i h20 hf
      refine g_ald_n (pc := 48) (i := 0) X dX3_copiesRows_48 rfl rfl ?_
      refine g_ald_n (pc := 49) (i := 0) X dX3_copiesRows_49 rfl rfl ?_
      refine g_getI (pc := 50) (k := 5) X dX3_copiesRows_50 cl_X3 rfl rfl (by decide) w_176 ?_
      refine g_iconst (pc := 53) (v := (1 : Int32)) X dX3_copiesRows_53 (by decide) ?_
      refine g_iadd (pc := 54) X dX3_copiesRows_54 ?_
      refine g_iconst (pc := 55) (v := (1 : Int32)) X dX3_copiesRows_55 (by decide) ?_
      refine g_ild_n (pc := 56) (i := 1) X dX3_copiesRows_56 rfl rfl ?_
      obtain ⟨r18, μ18, hc18, hf⟩ := jcall_i hf
      refine g_callVi (pc := 57) [.int ((μ2.1 17 5) + (1 : Int32)), .int (1 : Int32), .int r1] X dX3_copiesRows_57 (M_X3_copiesTimes  (jOk_sep X) hc18) Y_X3_copiesTimes w_515 w_517 w_516 cl_X3 rfl rfl (by decide) rfl rfl (Nat.le_of_ble_eq_true rfl) rfl ?_
      obtain ⟨hb19, hf⟩ := jbl_i hf
      exact g_zret (pc := 60) X dX3_copiesRows_60 hb19 hf
  · replace hf := jf_i h22 hf
    refine g_iconst (pc := 16) (v := (0 : Int32)) X dX3_copiesRows_16 (by decide) ?_
    obtain ⟨hb21, hf⟩ := jbl_i hf
    exact g_zret (pc := 17) X dX3_copiesRows_17 hb21 hf
/-! X3_copiesSigned -/
abbrev D_X3_copiesSigned : Nat := 3
noncomputable def f_X3_copiesSigned  (μ : jM) : Option (Int32 × jM) := if (μ.1 17 5) < (μ.1 4 1) then (jlet (μ.1 1 1) (fun z1 : Int32 => jcall (f_X0_get 4 1000 (μ.1 17 5) μ) (fun (r2 : Int32) (μ2 : jM) => jlet ((r2).toInt8.toInt32) (fun z3 : Int32 => if z3 = (-128 : Int32) then (jlet (jsI μ2 17 5 ((μ2.1 17 5) + (1 : Int32))) (fun μ9 : jM => jbl (1 : Int32) (some ((1 : Int32), μ9)))) else (if z3 < (0 : Int32) then (jcall (f_X3_copiesTimes ((μ2.1 17 5) + (1 : Int32)) z1 ((1 : Int32) - z3) μ2) (fun (r4 : Int32) (μ4 : jM) => jbl r4 (some (r4, μ4)))) else (jcall (f_X3_copiesTimes ((μ2.1 17 5) + (1 : Int32)) ((z3 + (1 : Int32)) * z1) (1 : Int32) μ2) (fun (r6 : Int32) (μ6 : jM) => jbl r6 (some (r6, μ6))))))))) else (jbl (1 : Int32) (jlet (jsI μ 17 6 (1 : Int32)) (fun μ12 : jM => jbl (1 : Int32) (some ((1 : Int32), μ12)))))
set_option maxHeartbeats 4000000 in
theorem M_X3_copiesSigned {l : Launch} {Δ : jD} {r : Int32} {μ μ9 : jM}   (hsep : jSep Δ shC) (hf : f_X3_copiesSigned  μ = some (r, μ9)) : jMet l yX3_copiesSigned cX3_copiesSigned 3 (some .boolean) D_X3_copiesSigned Δ shC [jr Δ 17] μ (some (.int r), μ9) := by
  refine jMet_of (own := RX3) (L := [some (jr Δ 17), none, none]) (by decide) rfl (Nat.le_of_ble_eq_true rfl) rfl hsep (fun Γ _ X => ?_)
  unfold f_X3_copiesSigned at hf
  refine g_ald_n (pc := 0) (i := 0) X dX3_copiesSigned_0 rfl rfl ?_
  refine g_getI (pc := 1) (k := 5) X dX3_copiesSigned_1 cl_X3 rfl rfl (by decide) w_176 ?_
  refine g_ald_n (pc := 4) (i := 0) X dX3_copiesSigned_4 rfl rfl ?_
  refine g_getR (pc := 5) (k := 1) X dX3_copiesSigned_5 cl_X3 rfl rfl (by decide) w_169 ?_
  refine g_getI (pc := 8) (k := 1) X dX3_copiesSigned_8 cl_X0 rfl rfl (by decide) w_74 ?_
  refine g_icmp_lt (pc := 11) 21 X dX3_copiesSigned_11 (by decide) (fun h15 => ?_) (fun h15 => ?_)
  · replace hf := jt_i h15 hf
    refine g_ald_n (pc := 21) (i := 0) X dX3_copiesSigned_21 rfl rfl ?_
    refine g_getR (pc := 22) (k := 0) X dX3_copiesSigned_22 cl_X3 rfl rfl (by decide) w_168 ?_
    refine g_getI (pc := 25) (k := 1) X dX3_copiesSigned_25 cl_X4 rfl rfl (by decide) w_37 ?_
    refine g_nmI (fun z1 ez1 => ?_)
    replace hf := jlet_i ez1 hf
    refine g_ist_n (pc := 28) (i := 1) (L1 := [some (jr Δ 17), some (.int z1), none]) X dX3_copiesSigned_28 rfl (Nat.le_of_ble_eq_true rfl) rfl rfl ?_
    refine g_ald_n (pc := 29) (i := 0) X dX3_copiesSigned_29 rfl rfl ?_
    refine g_getR (pc := 30) (k := 1) X dX3_copiesSigned_30 cl_X3 rfl rfl (by decide) w_169 ?_
    refine g_ald_n (pc := 33) (i := 0) X dX3_copiesSigned_33 rfl rfl ?_
    refine g_getI (pc := 34) (k := 5) X dX3_copiesSigned_34 cl_X3 rfl rfl (by decide) w_176 ?_
    obtain ⟨r2, μ2, hc2, hf⟩ := jcall_i hf
    refine g_callVi (pc := 37) [.int (μ.1 17 5)] X dX3_copiesSigned_37 (M_X0_get ⟨rfl, rfl⟩ (jOk_sep X) hc2) Y_X0_get w_514 w_292 w_291 cl_X0 rfl rfl (by decide) rfl rfl (Nat.le_of_ble_eq_true rfl) rfl ?_
    refine g_i2b (pc := 40) X dX3_copiesSigned_40 ?_
    refine g_nmI (fun z3 ez3 => ?_)
    replace hf := jlet_i ez3 hf
    refine g_ist_n (pc := 41) (i := 2) (L1 := [some (jr Δ 17), some (.int z1), some (.int z3)]) X dX3_copiesSigned_41 rfl (Nat.le_of_ble_eq_true rfl) rfl rfl ?_
    refine g_ild_n (pc := 42) (i := 2) X dX3_copiesSigned_42 rfl rfl ?_
    refine g_bipush (pc := 43) (v := (-128 : Int32)) X dX3_copiesSigned_43 (by decide) ?_
    refine g_icmp_ne (pc := 45) 60 X dX3_copiesSigned_45 (by decide) (fun h11 => ?_) (fun h11 => ?_)
    · replace hf := jf_i h11 hf
      refine g_ild_n (pc := 60) (i := 2) X dX3_copiesSigned_60 rfl rfl ?_
      refine g_if_lt (pc := 61) 83 X dX3_copiesSigned_61 (by decide) (fun h8 => ?_) (fun h8 => ?_)
      · replace hf := jt_i h8 hf
        refine g_ald_n (pc := 83) (i := 0) X dX3_copiesSigned_83 rfl rfl ?_
        refine g_ald_n (pc := 84) (i := 0) X dX3_copiesSigned_84 rfl rfl ?_
        refine g_getI (pc := 85) (k := 5) X dX3_copiesSigned_85 cl_X3 rfl rfl (by decide) w_176 ?_
        refine g_iconst (pc := 88) (v := (1 : Int32)) X dX3_copiesSigned_88 (by decide) ?_
        refine g_iadd (pc := 89) X dX3_copiesSigned_89 ?_
        refine g_ild_n (pc := 90) (i := 1) X dX3_copiesSigned_90 rfl rfl ?_
        refine g_iconst (pc := 91) (v := (1 : Int32)) X dX3_copiesSigned_91 (by decide) ?_
        refine g_ild_n (pc := 92) (i := 2) X dX3_copiesSigned_92 rfl rfl ?_
        refine g_isub (pc := 93) X dX3_copiesSigned_93 ?_
        obtain ⟨r4, μ4, hc4, hf⟩ := jcall_i hf
        refine g_callVi (pc := 94) [.int ((μ2.1 17 5) + (1 : Int32)), .int z1, .int ((1 : Int32) - z3)] X dX3_copiesSigned_94 (M_X3_copiesTimes  (jOk_sep X) hc4) Y_X3_copiesTimes w_515 w_517 w_516 cl_X3 rfl rfl (by decide) rfl rfl (Nat.le_of_ble_eq_true rfl) rfl ?_
        obtain ⟨hb5, hf⟩ := jbl_i hf
        exact g_zret (pc := 97) X dX3_copiesSigned_97 hb5 hf
      · replace hf := jf_i h8 hf
        refine g_ald_n (pc := 64) (i := 0) X dX3_copiesSigned_64 rfl rfl ?_
        refine g_ald_n (pc := 65) (i := 0) X dX3_copiesSigned_65 rfl rfl ?_
        refine g_getI (pc := 66) (k := 5) X dX3_copiesSigned_66 cl_X3 rfl rfl (by decide) w_176 ?_
        refine g_iconst (pc := 69) (v := (1 : Int32)) X dX3_copiesSigned_69 (by decide) ?_
        refine g_iadd (pc := 70) X dX3_copiesSigned_70 ?_
        refine g_ild_n (pc := 71) (i := 2) X dX3_copiesSigned_71 rfl rfl ?_
        refine g_iconst (pc := 72) (v := (1 : Int32)) X dX3_copiesSigned_72 (by decide) ?_
        refine g_iadd (pc := 73) X dX3_copiesSigned_73 ?_
        refine g_ild_n (pc := 74) (i := 1) X dX3_copiesSigned_74 rfl rfl ?_
        refine g_imul (pc := 75) X dX3_copiesSigned_75 ?_
        refine g_iconst (pc := 76) (v := (1 : Int32)) X dX3_copiesSigned_76 (by decide) ?_
        obtain ⟨r6, μ6, hc6, hf⟩ := jcall_i hf
        refine g_callVi (pc := 77) [.int ((μ2.1 17 5) + (1 : Int32)), .int ((z3 + (1 : Int32)) * z1), .int (1 : Int32)] X dX3_copiesSigned_77 (M_X3_copiesTimes  (jOk_sep X) hc6) Y_X3_copiesTimes w_515 w_517 w_516 cl_X3 rfl rfl (by decide) rfl rfl (Nat.le_of_ble_eq_true rfl) rfl ?_
        refine g_goto (pc := 80) 97 X dX3_copiesSigned_80 (by decide) ?_
        obtain ⟨hb7, hf⟩ := jbl_i hf
        exact g_zret (pc := 97) X dX3_copiesSigned_97 hb7 hf
    · replace hf := jt_i h11 hf
      refine g_ald_n (pc := 48) (i := 0) X dX3_copiesSigned_48 rfl rfl ?_
      refine g_dupR (pc := 49) X dX3_copiesSigned_49 ?_
      refine g_getI (pc := 50) (k := 5) X dX3_copiesSigned_50 cl_X3 rfl rfl (by decide) w_176 ?_
      refine g_iconst (pc := 53) (v := (1 : Int32)) X dX3_copiesSigned_53 (by decide) ?_
      refine g_iadd (pc := 54) X dX3_copiesSigned_54 ?_
      refine g_putI (pc := 55) (k := 5) X dX3_copiesSigned_55 cl_X3 rfl rfl (by decide) w_176 rfl rfl rfl ?_
      refine g_nmM (fun μ9 eμ9 => ?_)
      replace hf := jlet_i eμ9 hf
      refine g_iconst (pc := 58) (v := (1 : Int32)) X dX3_copiesSigned_58 (by decide) ?_
      obtain ⟨hb10, hf⟩ := jbl_i hf
      exact g_zret (pc := 59) X dX3_copiesSigned_59 hb10 hf
  · replace hf := jf_i h15 hf
    refine g_ald_n (pc := 14) (i := 0) X dX3_copiesSigned_14 rfl rfl ?_
    refine g_iconst (pc := 15) (v := (1 : Int32)) X dX3_copiesSigned_15 (by decide) ?_
    obtain ⟨hb13, hf⟩ := jbl_i hf
    refine g_putI (pc := 16) (k := 6) X dX3_copiesSigned_16 cl_X3 rfl rfl (by decide) w_177 rfl (jb_n hb13) (jb_f hb13) ?_
    refine g_nmM (fun μ12 eμ12 => ?_)
    replace hf := jlet_i eμ12 hf
    refine g_iconst (pc := 19) (v := (1 : Int32)) X dX3_copiesSigned_19 (by decide) ?_
    obtain ⟨hb14, hf⟩ := jbl_i hf
    exact g_zret (pc := 20) X dX3_copiesSigned_20 hb14 hf
/-! X3_copiesPiece -/
abbrev D_X3_copiesPiece : Nat := 4
noncomputable def f_X3_copiesPiece  (μ : jM) : Option (Int32 × jM) := if (μ.1 1 0) = (0 : Int32) then (jcall (f_X3_copiesMarked  μ) (fun (r2 : Int32) (μ2 : jM) => jbl r2 (some (r2, μ2)))) else (if (μ.1 1 0) = (1 : Int32) then (jcall (f_X3_copiesSigned  μ) (fun (r5 : Int32) (μ5 : jM) => jbl r5 (some (r5, μ5)))) else (jcall (f_X3_copiesRows  μ) (fun (r7 : Int32) (μ7 : jM) => jbl r7 (some (r7, μ7)))))
set_option maxHeartbeats 4000000 in
theorem M_X3_copiesPiece {l : Launch} {Δ : jD} {r : Int32} {μ μ9 : jM}   (hsep : jSep Δ shC) (hf : f_X3_copiesPiece  μ = some (r, μ9)) : jMet l yX3_copiesPiece cX3_copiesPiece 1 (some .boolean) D_X3_copiesPiece Δ shC [jr Δ 17] μ (some (.int r), μ9) := by
  refine jMet_of (own := RX3) (L := [some (jr Δ 17)]) (by decide) rfl (Nat.le_of_ble_eq_true rfl) rfl hsep (fun Γ _ X => ?_)
  unfold f_X3_copiesPiece at hf
  refine g_ald_n (pc := 0) (i := 0) X dX3_copiesPiece_0 rfl rfl ?_
  refine g_getR (pc := 1) (k := 0) X dX3_copiesPiece_1 cl_X3 rfl rfl (by decide) w_168 ?_
  refine g_getI (pc := 4) (k := 0) X dX3_copiesPiece_4 cl_X4 rfl rfl (by decide) w_34 ?_
  by_cases h1 : (μ.1 1 0) = (0 : Int32)
  · replace hf := jt_i h1 hf
    refine g_lookup (pc := 7) (off := 25) 32 X dX3_copiesPiece_7 (by decide) (by rw [h1]; first | done | rfl) (by decide) ?_
    refine g_ald_n (pc := 32) (i := 0) X dX3_copiesPiece_32 rfl rfl ?_
    obtain ⟨r2, μ2, hc2, hf⟩ := jcall_i hf
    refine g_callVi (pc := 33) [] X dX3_copiesPiece_33 (M_X3_copiesMarked  (jOk_sep X) hc2) Y_X3_copiesMarked w_510 w_512 w_511 cl_X3 rfl rfl (by decide) rfl rfl (Nat.le_of_ble_eq_true rfl) rfl ?_
    obtain ⟨hb3, hf⟩ := jbl_i hf
    exact g_zret (pc := 36) X dX3_copiesPiece_36 hb3 hf
  replace hf := jf_i h1 hf
  by_cases h4 : (μ.1 1 0) = (1 : Int32)
  · replace hf := jt_i h4 hf
    refine g_lookup (pc := 7) (off := 30) 37 X dX3_copiesPiece_7 (by decide) (by rw [h4]; first | done | rfl) (by decide) ?_
    refine g_ald_n (pc := 37) (i := 0) X dX3_copiesPiece_37 rfl rfl ?_
    obtain ⟨r5, μ5, hc5, hf⟩ := jcall_i hf
    refine g_callVi (pc := 38) [] X dX3_copiesPiece_38 (M_X3_copiesSigned  (jOk_sep X) hc5) Y_X3_copiesSigned w_524 w_526 w_525 cl_X3 rfl rfl (by decide) rfl rfl (Nat.le_of_ble_eq_true rfl) rfl ?_
    obtain ⟨hb6, hf⟩ := jbl_i hf
    exact g_zret (pc := 41) X dX3_copiesPiece_41 hb6 hf
  replace hf := jf_i h4 hf
  refine g_lookup (pc := 7) (off := 35) 42 X dX3_copiesPiece_7 (by decide) (by show Op.lookupswitch.offset [(0, 25), (1, 30)] 35 _ = 35; rw [lv_osw (a := 0) h1 (by decide), lv_osw (a := 1) h4 (by decide)]; first | done | rfl) (by decide) ?_
  refine g_ald_n (pc := 42) (i := 0) X dX3_copiesPiece_42 rfl rfl ?_
  obtain ⟨r7, μ7, hc7, hf⟩ := jcall_i hf
  refine g_callVi (pc := 43) [] X dX3_copiesPiece_43 (M_X3_copiesRows  (jOk_sep X) hc7) Y_X3_copiesRows w_528 w_530 w_529 cl_X3 rfl rfl (by decide) rfl rfl (Nat.le_of_ble_eq_true rfl) rfl ?_
  obtain ⟨hb8, hf⟩ := jbl_i hf
  exact g_zret (pc := 46) X dX3_copiesPiece_46 hb8 hf
/-! X3_fill -/
abbrev D_X3_fill : Nat := 5
noncomputable def f_X3_fill_85    (μ : jM) : Option (Int32 × jM) := some ((0 : Int32), μ)
noncomputable def f_X3_fill_56   : Nat → Int32 → jM → Option (Int32 × jM)
  | 0, _, _ => none
  | fu + 1, x2, μ => if (1000 : Int32) < x2 then (f_X3_fill_85     μ) else (if (μ.1 17 6) = (0 : Int32) then (jcall (f_X3_copiesPiece  μ) (fun (r1 : Int32) (μ1 : jM) => if r1 = (0 : Int32) then (some ((1 : Int32), μ1)) else (jlet (x2 + (1 : Int32)) (fun z2 : Int32 => f_X3_fill_56   fu z2 μ1)))) else (f_X3_fill_85     μ))
noncomputable def f_X3_fill (x1 : Int32) (μ : jM) : Option (Int32 × jM) := jcall (f_J7_fill_031fb 18 400 (0 : Int32) μ) (fun (r6 : Unit) (μ6 : jM) => jlet (jsI μ6 17 3 (if (0 : Int32) < (if (400 : Int32) < x1 then (400 : Int32) else x1) then (if (400 : Int32) < x1 then (400 : Int32) else x1) else (0 : Int32))) (fun μ7 : jM => jlet (jsI μ7 17 4 (0 : Int32)) (fun μ8 : jM => if (0 : Int32) ≤ x1 then (jlet (jsI μ8 17 5 (0 : Int32)) (fun μ9 : jM => jbl (0 : Int32) (jlet (jsI μ9 17 6 (0 : Int32)) (fun μ10 : jM => jlet (jsI μ10 17 7 (0 : Int32)) (fun μ12 : jM => jlet (jsI μ12 17 8 (0 : Int32)) (fun μ13 : jM => f_X3_fill_56   jFU (0 : Int32) μ13)))))) else (some ((2 : Int32), μ8)))))
set_option maxHeartbeats 4000000 in
theorem t_X3_fill_85 {Γ : jC} {Δ : jD} {r : Int32} {μ9 : jM}    (X : jOk Γ Δ shC cX3_fill 3 RX3 (some .int) D_X3_fill)  : ∀ (μ : jM), f_X3_fill_85    μ = some (r, μ9) → jG Γ Δ shC (some (.int r), μ9) 85 [none, none, none] [] μ := by
  intro  μ hf
  unfold f_X3_fill_85 at hf
  refine g_iconst (pc := 85) (v := (0 : Int32)) X dX3_fill_85 (by decide) ?_
  exact g_iret (pc := 86) X dX3_fill_86 hf
set_option maxHeartbeats 4000000 in
theorem t_X3_fill_56 {Γ : jC} {Δ : jD} {r : Int32} {μ9 : jM}    (X : jOk Γ Δ shC cX3_fill 3 RX3 (some .int) D_X3_fill)  : ∀ (fu : Nat) (x2 : Int32) (μ : jM), f_X3_fill_56   fu x2 μ = some (r, μ9) → jG Γ Δ shC (some (.int r), μ9) 56 [some (jr Δ 17), none, some (.int x2)] [] μ := by
  intro fu
  induction fu with
  | zero =>
    intro x2 μ hf
    cases hf
  | succ fu ih =>
    intro x2 μ hf
    replace hf := (f_X3_fill_56.eq_2 _ _ _).symm.trans hf
    refine g_ild_n (pc := 56) (i := 2) X dX3_fill_56 rfl rfl ?_
    refine g_sipush (pc := 57) (v := (1000 : Int32)) X dX3_fill_57 (by decide) ?_
    refine g_icmp_gt (pc := 60) 85 X dX3_fill_60 (by decide) (fun h5 => ?_) (fun h5 => ?_)
    · replace hf := jt_i h5 hf
      exact g_weak (t_X3_fill_85  X    _ hf) (trivial)
    · replace hf := jf_i h5 hf
      refine g_ald_n (pc := 63) (i := 0) X dX3_fill_63 rfl rfl ?_
      refine g_getI (pc := 64) (k := 6) X dX3_fill_64 cl_X3 rfl rfl (by decide) w_177 ?_
      refine g_if_ne (pc := 67) 85 X dX3_fill_67 (by decide) (fun h4 => ?_) (fun h4 => ?_)
      · replace hf := jf_i h4 hf
        exact g_weak (t_X3_fill_85  X    _ hf) (trivial)
      · replace hf := jt_i h4 hf
        refine g_ald_n (pc := 70) (i := 0) X dX3_fill_70 rfl rfl ?_
        obtain ⟨r1, μ1, hc1, hf⟩ := jcall_i hf
        refine g_callVi (pc := 71) [] X dX3_fill_71 (M_X3_copiesPiece  (jOk_sep X) hc1) Y_X3_copiesPiece w_506 w_508 w_507 cl_X3 rfl rfl (by decide) rfl rfl (Nat.le_of_ble_eq_true rfl) rfl ?_
        refine g_if_ne (pc := 74) 79 X dX3_fill_74 (by decide) (fun h3 => ?_) (fun h3 => ?_)
        · replace hf := jf_i h3 hf
          obtain ⟨z2, ez2⟩ : ∃ z : Int32, z = x2 + (1 : Int32) := ⟨_, rfl⟩
          replace hf := jlet_i ez2 hf
          refine g_iinc (pc := 79) (L1 := [some (jr Δ 17), none, some (.int z2)]) X dX3_fill_79 rfl (by rw [ez2]; rfl) rfl rfl ?_
          refine g_goto (pc := 82) 56 X dX3_fill_82 (by decide) ?_
          exact g_weak (ih _ _ hf) (⟨rfl, ⟨rfl, trivial⟩⟩)
        · replace hf := jt_i h3 hf
          refine g_iconst (pc := 77) (v := (1 : Int32)) X dX3_fill_77 (by decide) ?_
          exact g_iret (pc := 78) X dX3_fill_78 hf
set_option maxHeartbeats 4000000 in
theorem M_X3_fill {l : Launch} {Δ : jD} {r : Int32} {μ μ9 : jM} {x1 : Int32}  (hsep : jSep Δ shC) (hf : f_X3_fill x1 μ = some (r, μ9)) : jMet l yX3_fill cX3_fill 3 (some .int) D_X3_fill Δ shC [jr Δ 17, .int x1] μ (some (.int r), μ9) := by
  refine jMet_of (own := RX3) (L := [some (jr Δ 17), some (.int x1), none]) (by decide) rfl (Nat.le_of_ble_eq_true rfl) rfl hsep (fun Γ _ X => ?_)
  unfold f_X3_fill at hf
  refine g_ald_n (pc := 0) (i := 0) X dX3_fill_0 rfl rfl ?_
  refine g_getR (pc := 1) (k := 2) X dX3_fill_1 cl_X3 rfl rfl (by decide) w_170 ?_
  refine g_iconst (pc := 4) (v := (0 : Int32)) X dX3_fill_4 (by decide) ?_
  obtain ⟨r6, μ6, hc6, hf⟩ := jcall_i hf
  refine g_callSv (pc := 5) [jr Δ 18, .int (0 : Int32)] X dX3_fill_5 (M_J7_fill_031fb rfl (jOk_sep X) hc6) Y_J7_fill_031fb w_503 w_423 (by decide) rfl rfl (Nat.le_of_ble_eq_true rfl) rfl ?_
  refine g_ald_n (pc := 8) (i := 0) X dX3_fill_8 rfl rfl ?_
  refine g_iconst (pc := 9) (v := (0 : Int32)) X dX3_fill_9 (by decide) ?_
  refine g_ild_n (pc := 10) (i := 1) X dX3_fill_10 rfl rfl ?_
  refine g_sipush (pc := 11) (v := (400 : Int32)) X dX3_fill_11 (by decide) ?_
  refine g_min (pc := 14) X dX3_fill_14 w_504 w_302 w_8 w_303 (by decide) rfl (Nat.le_of_ble_eq_true rfl) ?_
  refine g_max (pc := 17) X dX3_fill_17 w_505 w_299 w_8 w_300 (by decide) rfl (Nat.le_of_ble_eq_true rfl) ?_
  refine g_putI (pc := 20) (k := 3) X dX3_fill_20 cl_X3 rfl rfl (by decide) w_172 rfl rfl rfl ?_
  refine g_nmM (fun μ7 eμ7 => ?_)
  replace hf := jlet_i eμ7 hf
  refine g_ald_n (pc := 23) (i := 0) X dX3_fill_23 rfl rfl ?_
  refine g_iconst (pc := 24) (v := (0 : Int32)) X dX3_fill_24 (by decide) ?_
  refine g_putI (pc := 25) (k := 4) X dX3_fill_25 cl_X3 rfl rfl (by decide) w_174 rfl rfl rfl ?_
  refine g_nmM (fun μ8 eμ8 => ?_)
  replace hf := jlet_i eμ8 hf
  refine g_ild_n (pc := 28) (i := 1) X dX3_fill_28 rfl rfl ?_
  refine g_if_ge (pc := 29) 34 X dX3_fill_29 (by decide) (fun h14 => ?_) (fun h14 => ?_)
  · replace hf := jt_i h14 hf
    refine g_ald_n (pc := 34) (i := 0) X dX3_fill_34 rfl rfl ?_
    refine g_iconst (pc := 35) (v := (0 : Int32)) X dX3_fill_35 (by decide) ?_
    refine g_putI (pc := 36) (k := 5) X dX3_fill_36 cl_X3 rfl rfl (by decide) w_176 rfl rfl rfl ?_
    refine g_nmM (fun μ9 eμ9 => ?_)
    replace hf := jlet_i eμ9 hf
    refine g_ald_n (pc := 39) (i := 0) X dX3_fill_39 rfl rfl ?_
    refine g_iconst (pc := 40) (v := (0 : Int32)) X dX3_fill_40 (by decide) ?_
    obtain ⟨hb11, hf⟩ := jbl_i hf
    refine g_putI (pc := 41) (k := 6) X dX3_fill_41 cl_X3 rfl rfl (by decide) w_177 rfl (jb_n hb11) (jb_f hb11) ?_
    refine g_nmM (fun μ10 eμ10 => ?_)
    replace hf := jlet_i eμ10 hf
    refine g_ald_n (pc := 44) (i := 0) X dX3_fill_44 rfl rfl ?_
    refine g_iconst (pc := 45) (v := (0 : Int32)) X dX3_fill_45 (by decide) ?_
    refine g_putI (pc := 46) (k := 7) X dX3_fill_46 cl_X3 rfl rfl (by decide) w_178 rfl rfl rfl ?_
    refine g_nmM (fun μ12 eμ12 => ?_)
    replace hf := jlet_i eμ12 hf
    refine g_ald_n (pc := 49) (i := 0) X dX3_fill_49 rfl rfl ?_
    refine g_iconst (pc := 50) (v := (0 : Int32)) X dX3_fill_50 (by decide) ?_
    refine g_putI (pc := 51) (k := 8) X dX3_fill_51 cl_X3 rfl rfl (by decide) w_179 rfl rfl rfl ?_
    refine g_nmM (fun μ13 eμ13 => ?_)
    replace hf := jlet_i eμ13 hf
    refine g_iconst (pc := 54) (v := (0 : Int32)) X dX3_fill_54 (by decide) ?_
    refine g_ist_n (pc := 55) (i := 2) (L1 := [some (jr Δ 17), some (.int x1), some (.int (0 : Int32))]) X dX3_fill_55 rfl (Nat.le_of_ble_eq_true rfl) rfl rfl ?_
    exact g_weak (t_X3_fill_56  X  jFU _ _ hf) (⟨rfl, ⟨rfl, trivial⟩⟩)
  · replace hf := jf_i h14 hf
    refine g_iconst (pc := 32) (v := (2 : Int32)) X dX3_fill_32 (by decide) ?_
    exact g_iret (pc := 33) X dX3_fill_33 hf
