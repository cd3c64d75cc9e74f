/-! X6_copies -/
abbrev D_X6_copies : Nat := 0
noncomputable def f_X6_copies_76   (s0 : Int32) (μ : jM) : Option (Int32 × jM) := jlet (jsI μ 0 11 s0) (fun μ1 : jM => jbl (1 : Int32) (some ((1 : Int32), μ1)))
noncomputable def f_X6_copies_25   : Nat → Int32 → Int32 → Int32 → Int32 → jM → Option (Int32 × jM)
  | 0, _, _, _, _, _ => none
  | fu + 1, x1, x2, x3, x4, μ => if x3 ≤ x4 then (if (x2 + x3) ≤ (μ.1 0 11) then (f_X6_copies_76    (μ.1 0 11) μ) else (f_X6_copies_76    (x2 + x3) μ)) else (jin (x1 + x4) 1000 (jin (x2 + x4) 400 (jlet (jsI μ 3 ((x2 + x4)).toNatClampNeg (μ.1 2 ((x1 + x4)).toNatClampNeg)) (fun μ5 : jM => jlet (x4 + (1 : Int32)) (fun z6 : Int32 => f_X6_copies_25   fu x1 x2 x3 z6 μ5)))))
noncomputable def f_X6_copies_20    (μ : jM) : Option (Int32 × jM) := jbl (0 : Int32) (some ((0 : Int32), μ))
noncomputable def f_X6_copies (x1 : Int32) (x2 : Int32) (x3 : Int32) (μ : jM) : Option (Int32 × jM) := if (μ.1 0 8) < (x1 + x3) then (f_X6_copies_20     μ) else (if (x2 + x3) ≤ (μ.1 0 10) then (f_X6_copies_25   jFU x1 x2 x3 (0 : Int32) μ) else (f_X6_copies_20     μ))
set_option maxHeartbeats 4000000 in
theorem t_X6_copies_76 {Γ : jC} {Δ : jD} {r : Int32} {μ9 : jM}    (X : jOk Γ Δ shM cX6_copies 5 RX6 (some .boolean) D_X6_copies)  : ∀ (s0 : Int32) (μ : jM), f_X6_copies_76   s0 μ = some (r, μ9) → jG Γ Δ shM (some (.int r), μ9) 76 [none, none, none, none, none] [.int s0, jr Δ 0] μ := by
  intro s0 μ hf
  unfold f_X6_copies_76 at hf
  refine g_putI (pc := 76) (k := 11) X dX6_copies_76 cl_X6 rfl rfl (by decide) w_672 rfl rfl rfl ?_
  refine g_nmM (fun μ1 eμ1 => ?_)
  replace hf := jlet_i eμ1 hf
  refine g_iconst (pc := 79) (v := (1 : Int32)) X dX6_copies_79 (by decide) ?_
  obtain ⟨hb2, hf⟩ := jbl_i hf
  exact g_zret (pc := 80) X dX6_copies_80 hb2 hf
set_option maxHeartbeats 4000000 in
theorem t_X6_copies_25 {Γ : jC} {Δ : jD} {r : Int32} {μ9 : jM}    (X : jOk Γ Δ shM cX6_copies 5 RX6 (some .boolean) D_X6_copies)  : ∀ (fu : Nat) (x1 : Int32) (x2 : Int32) (x3 : Int32) (x4 : Int32) (μ : jM), f_X6_copies_25   fu x1 x2 x3 x4 μ = some (r, μ9) → jG Γ Δ shM (some (.int r), μ9) 25 [some (jr Δ 0), some (.int x1), some (.int x2), some (.int x3), some (.int x4)] [] μ := by
  intro fu
  induction fu with
  | zero =>
    intro x1 x2 x3 x4 μ hf
    cases hf
  | succ fu ih =>
    intro x1 x2 x3 x4 μ hf
    replace hf := (f_X6_copies_25.eq_2 _ _ _ _ _ _).symm.trans hf
    refine g_ild (pc := 25) X dX6_copies_25 rfl ?_
    refine g_ild_n (pc := 27) (i := 3) X dX6_copies_27 rfl rfl ?_
    refine g_icmp_ge (pc := 28) 55 X dX6_copies_28 (by decide) (fun h7 => ?_) (fun h7 => ?_)
    · replace hf := jt_i h7 hf
      refine g_ald_n (pc := 55) (i := 0) X dX6_copies_55 rfl rfl ?_
      refine g_ild_n (pc := 56) (i := 2) X dX6_copies_56 rfl rfl ?_
      refine g_ild_n (pc := 57) (i := 3) X dX6_copies_57 rfl rfl ?_
      refine g_iadd (pc := 58) X dX6_copies_58 ?_
      refine g_ald_n (pc := 59) (i := 0) X dX6_copies_59 rfl rfl ?_
      refine g_getI (pc := 60) (k := 11) X dX6_copies_60 cl_X6 rfl rfl (by decide) w_672 ?_
      refine g_icmp_le (pc := 63) 72 X dX6_copies_63 (by decide) (fun h3 => ?_) (fun h3 => ?_)
      · replace hf := jt_i h3 hf
        refine g_ald_n (pc := 72) (i := 0) X dX6_copies_72 rfl rfl ?_
        refine g_getI (pc := 73) (k := 11) X dX6_copies_73 cl_X6 rfl rfl (by decide) w_672 ?_
        exact g_weak (t_X6_copies_76  X   _ _ hf) (trivial)
      · replace hf := jf_i h3 hf
        refine g_ild_n (pc := 66) (i := 2) X dX6_copies_66 rfl rfl ?_
        refine g_ild_n (pc := 67) (i := 3) X dX6_copies_67 rfl rfl ?_
        refine g_iadd (pc := 68) X dX6_copies_68 ?_
        refine g_goto (pc := 69) 76 X dX6_copies_69 (by decide) ?_
        exact g_weak (t_X6_copies_76  X   _ _ hf) (trivial)
    · replace hf := jf_i h7 hf
      refine g_ald_n (pc := 31) (i := 0) X dX6_copies_31 rfl rfl ?_
      refine g_getR (pc := 32) (k := 9) X dX6_copies_32 cl_X6 rfl rfl (by decide) w_670 ?_
      refine g_ild_n (pc := 35) (i := 2) X dX6_copies_35 rfl rfl ?_
      refine g_ild (pc := 36) X dX6_copies_36 rfl ?_
      refine g_iadd (pc := 38) X dX6_copies_38 ?_
      refine g_ald_n (pc := 39) (i := 0) X dX6_copies_39 rfl rfl ?_
      refine g_getR (pc := 40) (k := 7) X dX6_copies_40 cl_X6 rfl rfl (by decide) w_668 ?_
      refine g_ild_n (pc := 43) (i := 1) X dX6_copies_43 rfl rfl ?_
      refine g_ild (pc := 44) X dX6_copies_44 rfl ?_
      refine g_iadd (pc := 46) X dX6_copies_46 ?_
      obtain ⟨hi4, hf⟩ := jin_i hf
      refine g_iald (pc := 47) X dX6_copies_47 rfl hi4 ?_
      obtain ⟨hi5, hf⟩ := jin_i hf
      refine g_iast (pc := 48) X dX6_copies_48 rfl hi5 ?_
      refine g_nmM (fun μ5 eμ5 => ?_)
      replace hf := jlet_i eμ5 hf
      obtain ⟨z6, ez6⟩ : ∃ z : Int32, z = x4 + (1 : Int32) := ⟨_, rfl⟩
      replace hf := jlet_i ez6 hf
      refine g_iinc (pc := 49) (L1 := [some (jr Δ 0), some (.int x1), some (.int x2), some (.int x3), some (.int z6)]) X dX6_copies_49 rfl (by rw [ez6]; rfl) rfl rfl ?_
      refine g_goto (pc := 52) 25 X dX6_copies_52 (by decide) ?_
      exact g_weak (ih _ _ _ _ _ hf) (⟨rfl, ⟨rfl, ⟨rfl, ⟨rfl, ⟨rfl, trivial⟩⟩⟩⟩⟩)
set_option maxHeartbeats 4000000 in
theorem t_X6_copies_20 {Γ : jC} {Δ : jD} {r : Int32} {μ9 : jM}    (X : jOk Γ Δ shM cX6_copies 5 RX6 (some .boolean) D_X6_copies)  : ∀ (μ : jM), f_X6_copies_20    μ = some (r, μ9) → jG Γ Δ shM (some (.int r), μ9) 20 [none, none, none, none, none] [] μ := by
  intro  μ hf
  unfold f_X6_copies_20 at hf
  refine g_iconst (pc := 20) (v := (0 : Int32)) X dX6_copies_20 (by decide) ?_
  obtain ⟨hb8, hf⟩ := jbl_i hf
  exact g_zret (pc := 21) X dX6_copies_21 hb8 hf
set_option maxHeartbeats 4000000 in
theorem M_X6_copies {l : Launch} {Δ : jD} {r : Int32} {μ μ9 : jM} {x1 : Int32} {x2 : Int32} {x3 : Int32}  (hsep : jSep Δ shM) (hf : f_X6_copies x1 x2 x3 μ = some (r, μ9)) : jMet l yX6_copies cX6_copies 5 (some .boolean) D_X6_copies Δ shM [jr Δ 0, .int x1, .int x2, .int x3] μ (some (.int r), μ9) := by
  refine jMet_of (own := RX6) (L := [some (jr Δ 0), some (.int x1), some (.int x2), some (.int x3), none]) (by decide) rfl (Nat.le_of_ble_eq_true rfl) rfl hsep (fun Γ _ X => ?_)
  unfold f_X6_copies at hf
  refine g_ild_n (pc := 0) (i := 1) X dX6_copies_0 rfl rfl ?_
  refine g_ild_n (pc := 1) (i := 3) X dX6_copies_1 rfl rfl ?_
  refine g_iadd (pc := 2) X dX6_copies_2 ?_
  refine g_ald_n (pc := 3) (i := 0) X dX6_copies_3 rfl rfl ?_
  refine g_getI (pc := 4) (k := 8) X dX6_copies_4 cl_X6 rfl rfl (by decide) w_669 ?_
  refine g_icmp_gt (pc := 7) 20 X dX6_copies_7 (by decide) (fun h10 => ?_) (fun h10 => ?_)
  · replace hf := jt_i h10 hf
    exact g_weak (t_X6_copies_20  X    _ hf) (trivial)
  · replace hf := jf_i h10 hf
    refine g_ild_n (pc := 10) (i := 2) X dX6_copies_10 rfl rfl ?_
    refine g_ild_n (pc := 11) (i := 3) X dX6_copies_11 rfl rfl ?_
    refine g_iadd (pc := 12) X dX6_copies_12 ?_
    refine g_ald_n (pc := 13) (i := 0) X dX6_copies_13 rfl rfl ?_
    refine g_getI (pc := 14) (k := 10) X dX6_copies_14 cl_X6 rfl rfl (by decide) w_671 ?_
    refine g_icmp_le (pc := 17) 22 X dX6_copies_17 (by decide) (fun h9 => ?_) (fun h9 => ?_)
    · replace hf := jt_i h9 hf
      refine g_iconst (pc := 22) (v := (0 : Int32)) X dX6_copies_22 (by decide) ?_
      refine g_ist (pc := 23) (L1 := [some (jr Δ 0), some (.int x1), some (.int x2), some (.int x3), some (.int (0 : Int32))]) X dX6_copies_23 (Nat.le_of_ble_eq_true rfl) rfl rfl ?_
      exact g_weak (t_X6_copies_25  X  jFU _ _ _ _ _ hf) (⟨rfl, ⟨rfl, ⟨rfl, ⟨rfl, ⟨rfl, trivial⟩⟩⟩⟩⟩)
    · replace hf := jf_i h9 hf
      exact g_weak (t_X6_copies_20  X    _ hf) (trivial)
/-! X6_plainMarked -/
abbrev D_X6_plainMarked : Nat := 1
noncomputable def f_X6_plainMarked_87  (k4 : Int32 → Int32 → jM → Option (Int32 × jM)) : Nat → Int32 → Int32 → Int32 → Int32 → jM → Option (Int32 × jM)
  | 0, _, _, _, _, _ => none
  | fu + 1, x1, x2, x3, x4, μ => if x3 ≤ x4 then (jlet (x1 + ((2 : Int32) + (μ.1 0 1))) (fun z1 : Int32 => k4 z1 x2 μ)) else (jcall (f_X6_copies (x1 + (2 : Int32)) x2 (μ.1 0 1) μ) (fun (r2 : Int32) (μ2 : jM) => if r2 = (0 : Int32) then (jbl (0 : Int32) (some ((0 : Int32), μ2))) else (jlet (x2 + (μ2.1 0 1)) (fun z3 : Int32 => jlet (x4 + (1 : Int32)) (fun z4 : Int32 => f_X6_plainMarked_87  k4 fu x1 z3 x3 z4 μ2)))))
noncomputable def f_X6_plainMarked_4   : Nat → Int32 → Int32 → jM → Option (Int32 × jM)
  | 0, _, _, _ => none
  | fu + 1, x1, x2, μ => if (μ.1 0 8) ≤ x1 then (jbl (0 : Int32) (some ((0 : Int32), μ))) else (jin x1 1000 (if (μ.1 2 (x1).toNatClampNeg) = (μ.1 0 3) then (if (x1 + (1 : Int32)) < (μ.1 0 8) then (jin (x1 + (1 : Int32)) 1000 (jlet (μ.1 2 ((x1 + (1 : Int32))).toNatClampNeg) (fun z11 : Int32 => if z11 = (0 : Int32) then (jbl (1 : Int32) (some ((1 : Int32), μ))) else (f_X6_plainMarked_87  (fun x1 x2 μ => f_X6_plainMarked_4   fu x1 x2 μ) jFU x1 x2 z11 (0 : Int32) μ)))) else (jbl (0 : Int32) (some ((0 : Int32), μ)))) else (jcall (f_X6_copies x1 x2 (μ.1 0 1) μ) (fun (r16 : Int32) (μ16 : jM) => if r16 = (0 : Int32) then (jbl (0 : Int32) (some ((0 : Int32), μ16))) else (jlet (x1 + (μ16.1 0 1)) (fun z17 : Int32 => jlet (x2 + (μ16.1 0 1)) (fun z18 : Int32 => f_X6_plainMarked_4   fu z17 z18 μ16)))))))
noncomputable def f_X6_plainMarked  (μ : jM) : Option (Int32 × jM) := f_X6_plainMarked_4   jFU (0 : Int32) (0 : Int32) μ
set_option maxHeartbeats 4000000 in
theorem t_X6_plainMarked_87 {Γ : jC} {Δ : jD} {r : Int32} {μ9 : jM}  {k4 : Int32 → Int32 → jM → Option (Int32 × jM)}  (X : jOk Γ Δ shM cX6_plainMarked 5 RX6 (some .boolean) D_X6_plainMarked) (hk4 : ∀ (x1 : Int32) (x2 : Int32) (μ : jM), k4 x1 x2 μ = some (r, μ9) → jG Γ Δ shM (some (.int r), μ9) 4 [some (jr Δ 0), some (.int x1), some (.int x2), none, none] [] μ) : ∀ (fu : Nat) (x1 : Int32) (x2 : Int32) (x3 : Int32) (x4 : Int32) (μ : jM), f_X6_plainMarked_87  k4 fu x1 x2 x3 x4 μ = some (r, μ9) → jG Γ Δ shM (some (.int r), μ9) 87 [some (jr Δ 0), some (.int x1), some (.int x2), some (.int x3), some (.int x4)] [] μ := by
  intro fu
  induction fu with
  | zero =>
    intro x1 x2 x3 x4 μ hf
    cases hf
  | succ fu ih =>
    intro x1 x2 x3 x4 μ hf
    replace hf := (f_X6_plainMarked_87.eq_2 _ _ _ _ _ _ _).symm.trans hf
    refine g_ild (pc := 87) X dX6_plainMarked_87 rfl ?_
    refine g_ild_n (pc := 89) (i := 3) X dX6_plainMarked_89 rfl rfl ?_
    refine g_icmp_ge (pc := 90) 123 X dX6_plainMarked_90 (by decide) (fun h7 => ?_) (fun h7 => ?_)
    · replace hf := jt_i h7 hf
      refine g_ild_n (pc := 123) (i := 1) X dX6_plainMarked_123 rfl rfl ?_
      refine g_iconst (pc := 124) (v := (2 : Int32)) X dX6_plainMarked_124 (by decide) ?_
      refine g_ald_n (pc := 125) (i := 0) X dX6_plainMarked_125 rfl rfl ?_
      refine g_getI (pc := 126) (k := 1) X dX6_plainMarked_126 cl_X6 rfl rfl (by decide) w_662 ?_
      refine g_iadd (pc := 129) X dX6_plainMarked_129 ?_
      refine g_iadd (pc := 130) X dX6_plainMarked_130 ?_
      refine g_nmI (fun z1 ez1 => ?_)
      replace hf := jlet_i ez1 hf
      refine g_ist_n (pc := 131) (i := 1) (L1 := [some (jr Δ 0), some (.int z1), some (.int x2), some (.int x3), some (.int x4)]) X dX6_plainMarked_131 rfl (Nat.le_of_ble_eq_true rfl) rfl rfl ?_
      refine g_goto (pc := 132) 4 X dX6_plainMarked_132 (by decide) ?_
      exact g_weak (hk4 _ _ _ hf) (⟨rfl, ⟨rfl, ⟨rfl, trivial⟩⟩⟩)
    · replace hf := jf_i h7 hf
      refine g_ald_n (pc := 93) (i := 0) X dX6_plainMarked_93 rfl rfl ?_
      refine g_ild_n (pc := 94) (i := 1) X dX6_plainMarked_94 rfl rfl ?_
      refine g_iconst (pc := 95) (v := (2 : Int32)) X dX6_plainMarked_95 (by decide) ?_
      refine g_iadd (pc := 96) X dX6_plainMarked_96 ?_
      refine g_ild_n (pc := 97) (i := 2) X dX6_plainMarked_97 rfl rfl ?_
      refine g_ald_n (pc := 98) (i := 0) X dX6_plainMarked_98 rfl rfl ?_
      refine g_getI (pc := 99) (k := 1) X dX6_plainMarked_99 cl_X6 rfl rfl (by decide) w_662 ?_
      obtain ⟨r2, μ2, hc2, hf⟩ := jcall_i hf
      refine g_callVi (pc := 102) [.int (x1 + (2 : Int32)), .int x2, .int (μ.1 0 1)] X dX6_plainMarked_102 (M_X6_copies  (jOk_sep X) hc2) Y_X6_copies w_921 ws_39 w_923 cl_X6 rfl rfl (by decide) rfl rfl (Nat.le_of_ble_eq_true rfl) rfl ?_
      refine g_if_ne (pc := 105) 110 X dX6_plainMarked_105 (by decide) (fun h6 => ?_) (fun h6 => ?_)
      · replace hf := jf_i h6 hf
        refine g_ild_n (pc := 110) (i := 2) X dX6_plainMarked_110 rfl rfl ?_
        refine g_ald_n (pc := 111) (i := 0) X dX6_plainMarked_111 rfl rfl ?_
        refine g_getI (pc := 112) (k := 1) X dX6_plainMarked_112 cl_X6 rfl rfl (by decide) w_662 ?_
        refine g_iadd (pc := 115) X dX6_plainMarked_115 ?_
        refine g_nmI (fun z3 ez3 => ?_)
        replace hf := jlet_i ez3 hf
        refine g_ist_n (pc := 116) (i := 2) (L1 := [some (jr Δ 0), some (.int x1), some (.int z3), some (.int x3), some (.int x4)]) X dX6_plainMarked_116 rfl (Nat.le_of_ble_eq_true rfl) rfl rfl ?_
        obtain ⟨z4, ez4⟩ : ∃ z : Int32, z = x4 + (1 : Int32) := ⟨_, rfl⟩
        replace hf := jlet_i ez4 hf
        refine g_iinc (pc := 117) (L1 := [some (jr Δ 0), some (.int x1), some (.int z3), some (.int x3), some (.int z4)]) X dX6_plainMarked_117 rfl (by rw [ez4]; rfl) rfl rfl ?_
        refine g_goto (pc := 120) 87 X dX6_plainMarked_120 (by decide) ?_
        exact g_weak (ih _ _ _ _ _ hf) (⟨rfl, ⟨rfl, ⟨rfl, ⟨rfl, ⟨rfl, trivial⟩⟩⟩⟩⟩)
      · replace hf := jt_i h6 hf
        refine g_iconst (pc := 108) (v := (0 : Int32)) X dX6_plainMarked_108 (by decide) ?_
        obtain ⟨hb5, hf⟩ := jbl_i hf
        exact g_zret (pc := 109) X dX6_plainMarked_109 hb5 hf
set_option maxHeartbeats 4000000 in
theorem t_X6_plainMarked_4 {Γ : jC} {Δ : jD} {r : Int32} {μ9 : jM}    (X : jOk Γ Δ shM cX6_plainMarked 5 RX6 (some .boolean) D_X6_plainMarked)  : ∀ (fu : Nat) (x1 : Int32) (x2 : Int32) (μ : jM), f_X6_plainMarked_4   fu x1 x2 μ = some (r, μ9) → jG Γ Δ shM (some (.int r), μ9) 4 [some (jr Δ 0), some (.int x1), some (.int x2), none, none] [] μ := by
  intro fu
  induction fu with
  | zero =>
    intro x1 x2 μ hf
    cases hf
  | succ fu ih =>
    intro x1 x2 μ hf
    replace hf := (f_X6_plainMarked_4.eq_2 _ _ _ _).symm.trans hf
    refine g_ild_n (pc := 4) (i := 1) X dX6_plainMarked_4 rfl rfl ?_
    refine g_ald_n (pc := 5) (i := 0) X dX6_plainMarked_5 rfl rfl ?_
    refine g_getI (pc := 6) (k := 8) X dX6_plainMarked_6 cl_X6 rfl rfl (by decide) w_669 ?_
    refine g_icmp_ge (pc := 9) 135 X dX6_plainMarked_9 (by decide) (fun h22 => ?_) (fun h22 => ?_)
    · replace hf := jt_i h22 hf
      refine g_iconst (pc := 135) (v := (0 : Int32)) X dX6_plainMarked_135 (by decide) ?_
      obtain ⟨hb8, hf⟩ := jbl_i hf
      exact g_zret (pc := 136) X dX6_plainMarked_136 hb8 hf
    · replace hf := jf_i h22 hf
      refine g_ald_n (pc := 12) (i := 0) X dX6_plainMarked_12 rfl rfl ?_
      refine g_getR (pc := 13) (k := 7) X dX6_plainMarked_13 cl_X6 rfl rfl (by decide) w_668 ?_
      refine g_ild_n (pc := 16) (i := 1) X dX6_plainMarked_16 rfl rfl ?_
      obtain ⟨hi9, hf⟩ := jin_i hf
      refine g_iald (pc := 17) X dX6_plainMarked_17 rfl hi9 ?_
      refine g_ald_n (pc := 18) (i := 0) X dX6_plainMarked_18 rfl rfl ?_
      refine g_getI (pc := 19) (k := 3) X dX6_plainMarked_19 cl_X6 rfl rfl (by decide) w_664 ?_
      refine g_icmp_eq (pc := 22) 57 X dX6_plainMarked_22 (by decide) (fun h21 => ?_) (fun h21 => ?_)
      · replace hf := jt_i h21 hf
        refine g_ild_n (pc := 57) (i := 1) X dX6_plainMarked_57 rfl rfl ?_
        refine g_iconst (pc := 58) (v := (1 : Int32)) X dX6_plainMarked_58 (by decide) ?_
        refine g_iadd (pc := 59) X dX6_plainMarked_59 ?_
        refine g_ald_n (pc := 60) (i := 0) X dX6_plainMarked_60 rfl rfl ?_
        refine g_getI (pc := 61) (k := 8) X dX6_plainMarked_61 cl_X6 rfl rfl (by decide) w_669 ?_
        refine g_icmp_lt (pc := 64) 69 X dX6_plainMarked_64 (by decide) (fun h15 => ?_) (fun h15 => ?_)
        · replace hf := jt_i h15 hf
          refine g_ald_n (pc := 69) (i := 0) X dX6_plainMarked_69 rfl rfl ?_
          refine g_getR (pc := 70) (k := 7) X dX6_plainMarked_70 cl_X6 rfl rfl (by decide) w_668 ?_
          refine g_ild_n (pc := 73) (i := 1) X dX6_plainMarked_73 rfl rfl ?_
          refine g_iconst (pc := 74) (v := (1 : Int32)) X dX6_plainMarked_74 (by decide) ?_
          refine g_iadd (pc := 75) X dX6_plainMarked_75 ?_
          obtain ⟨hi10, hf⟩ := jin_i hf
          refine g_iald (pc := 76) X dX6_plainMarked_76 rfl hi10 ?_
          refine g_nmI (fun z11 ez11 => ?_)
          replace hf := jlet_i ez11 hf
          refine g_ist_n (pc := 77) (i := 3) (L1 := [some (jr Δ 0), some (.int x1), some (.int x2), some (.int z11), none]) X dX6_plainMarked_77 rfl (Nat.le_of_ble_eq_true rfl) rfl rfl ?_
          refine g_ild_n (pc := 78) (i := 3) X dX6_plainMarked_78 rfl rfl ?_
          refine g_if_ne (pc := 79) 84 X dX6_plainMarked_79 (by decide) (fun h13 => ?_) (fun h13 => ?_)
          · replace hf := jf_i h13 hf
            refine g_iconst (pc := 84) (v := (0 : Int32)) X dX6_plainMarked_84 (by decide) ?_
            refine g_ist (pc := 85) (L1 := [some (jr Δ 0), some (.int x1), some (.int x2), some (.int z11), some (.int (0 : Int32))]) X dX6_plainMarked_85 (Nat.le_of_ble_eq_true rfl) rfl rfl ?_
            exact g_weak (t_X6_plainMarked_87  X (fun _ _ _ h => ih _ _ _ h) jFU _ _ _ _ _ hf) (⟨rfl, ⟨rfl, ⟨rfl, ⟨rfl, ⟨rfl, trivial⟩⟩⟩⟩⟩)
          · replace hf := jt_i h13 hf
            refine g_iconst (pc := 82) (v := (1 : Int32)) X dX6_plainMarked_82 (by decide) ?_
            obtain ⟨hb12, hf⟩ := jbl_i hf
            exact g_zret (pc := 83) X dX6_plainMarked_83 hb12 hf
        · replace hf := jf_i h15 hf
          refine g_iconst (pc := 67) (v := (0 : Int32)) X dX6_plainMarked_67 (by decide) ?_
          obtain ⟨hb14, hf⟩ := jbl_i hf
          exact g_zret (pc := 68) X dX6_plainMarked_68 hb14 hf
      · replace hf := jf_i h21 hf
        refine g_ald_n (pc := 25) (i := 0) X dX6_plainMarked_25 rfl rfl ?_
        refine g_ild_n (pc := 26) (i := 1) X dX6_plainMarked_26 rfl rfl ?_
        refine g_ild_n (pc := 27) (i := 2) X dX6_plainMarked_27 rfl rfl ?_
        refine g_ald_n (pc := 28) (i := 0) X dX6_plainMarked_28 rfl rfl ?_
        refine g_getI (pc := 29) (k := 1) X dX6_plainMarked_29 cl_X6 rfl rfl (by decide) w_662 ?_
        obtain ⟨r16, μ16, hc16, hf⟩ := jcall_i hf
        refine g_callVi (pc := 32) [.int x1, .int x2, .int (μ.1 0 1)] X dX6_plainMarked_32 (M_X6_copies  (jOk_sep X) hc16) Y_X6_copies w_921 ws_39 w_923 cl_X6 rfl rfl (by decide) rfl rfl (Nat.le_of_ble_eq_true rfl) rfl ?_
        refine g_if_ne (pc := 35) 40 X dX6_plainMarked_35 (by decide) (fun h20 => ?_) (fun h20 => ?_)
        · replace hf := jf_i h20 hf
          refine g_ild_n (pc := 40) (i := 1) X dX6_plainMarked_40 rfl rfl ?_
          refine g_ald_n (pc := 41) (i := 0) X dX6_plainMarked_41 rfl rfl ?_
          refine g_getI (pc := 42) (k := 1) X dX6_plainMarked_42 cl_X6 rfl rfl (by decide) w_662 ?_
          refine g_iadd (pc := 45) X dX6_plainMarked_45 ?_
          refine g_nmI (fun z17 ez17 => ?_)
          replace hf := jlet_i ez17 hf
          refine g_ist_n (pc := 46) (i := 1) (L1 := [some (jr Δ 0), some (.int z17), some (.int x2), none, none]) X dX6_plainMarked_46 rfl (Nat.le_of_ble_eq_true rfl) rfl rfl ?_
          refine g_ild_n (pc := 47) (i := 2) X dX6_plainMarked_47 rfl rfl ?_
          refine g_ald_n (pc := 48) (i := 0) X dX6_plainMarked_48 rfl rfl ?_
          refine g_getI (pc := 49) (k := 1) X dX6_plainMarked_49 cl_X6 rfl rfl (by decide) w_662 ?_
          refine g_iadd (pc := 52) X dX6_plainMarked_52 ?_
          refine g_nmI (fun z18 ez18 => ?_)
          replace hf := jlet_i ez18 hf
          refine g_ist_n (pc := 53) (i := 2) (L1 := [some (jr Δ 0), some (.int z17), some (.int z18), none, none]) X dX6_plainMarked_53 rfl (Nat.le_of_ble_eq_true rfl) rfl rfl ?_
          refine g_goto (pc := 54) 4 X dX6_plainMarked_54 (by decide) ?_
          exact g_weak (ih _ _ _ hf) (⟨rfl, ⟨rfl, ⟨rfl, trivial⟩⟩⟩)
        · replace hf := jt_i h20 hf
          refine g_iconst (pc := 38) (v := (0 : Int32)) X dX6_plainMarked_38 (by decide) ?_
          obtain ⟨hb19, hf⟩ := jbl_i hf
          exact g_zret (pc := 39) X dX6_plainMarked_39 hb19 hf
set_option maxHeartbeats 4000000 in
theorem M_X6_plainMarked {l : Launch} {Δ : jD} {r : Int32} {μ μ9 : jM}   (hsep : jSep Δ shM) (hf : f_X6_plainMarked  μ = some (r, μ9)) : jMet l yX6_plainMarked cX6_plainMarked 5 (some .boolean) D_X6_plainMarked Δ shM [jr Δ 0] μ (some (.int r), μ9) := by
  refine jMet_of (own := RX6) (L := [some (jr Δ 0), none, none, none, none]) (by decide) rfl (Nat.le_of_ble_eq_true rfl) rfl hsep (fun Γ _ X => ?_)
  unfold f_X6_plainMarked at hf
  refine g_iconst (pc := 0) (v := (0 : Int32)) X dX6_plainMarked_0 (by decide) ?_
  refine g_ist_n (pc := 1) (i := 1) (L1 := [some (jr Δ 0), some (.int (0 : Int32)), none, none, none]) X dX6_plainMarked_1 rfl (Nat.le_of_ble_eq_true rfl) rfl rfl ?_
  refine g_iconst (pc := 2) (v := (0 : Int32)) X dX6_plainMarked_2 (by decide) ?_
  refine g_ist_n (pc := 3) (i := 2) (L1 := [some (jr Δ 0), some (.int (0 : Int32)), some (.int (0 : Int32)), none, none]) X dX6_plainMarked_3 rfl (Nat.le_of_ble_eq_true rfl) rfl rfl ?_
  exact g_weak (t_X6_plainMarked_4  X  jFU _ _ _ hf) (⟨rfl, ⟨rfl, ⟨rfl, trivial⟩⟩⟩)
/-! X6_plainRows -/
abbrev D_X6_plainRows : Nat := 1
noncomputable def f_X6_plainRows_228  (k6 : Int32 → Int32 → Int32 → jM → Option (Int32 × jM)) (x1 : Int32) (x2 : Int32) (x3 : Int32) (μ : jM) : Option (Int32 × jM) := k6 x1 x2 x3 μ
noncomputable def f_X6_plainRows_117  (k6 : Int32 → Int32 → Int32 → jM → Option (Int32 × jM)) (k55 : Int32 → Int32 → Int32 → Int32 → Int32 → Int32 → Int32 → jM → Option (Int32 × jM)) (x1 : Int32) (x2 : Int32) (x3 : Int32) (x4 : Int32) (x5 : Int32) (x6 : Int32) (x7 : Int32) (s0 : Int32) (μ : jM) : Option (Int32 × jM) := jlet (jsI μ 0 11 s0) (fun μ1 : jM => jlet (x7 + (1 : Int32)) (fun z2 : Int32 => k55 x1 x2 x3 x4 x5 x6 z2 μ1))
noncomputable def f_X6_plainRows_55  (k6 : Int32 → Int32 → Int32 → jM → Option (Int32 × jM)) : Nat → Int32 → Int32 → Int32 → Int32 → Int32 → Int32 → Int32 → jM → Option (Int32 × jM)
  | 0, _, _, _, _, _, _, _, _ => none
  | fu + 1, x1, x2, x3, x4, x5, x6, x7, μ => if x4 ≤ x7 then (jlet (x2 + x4) (fun z3 : Int32 => f_X6_plainRows_228  k6  x1 z3 x3 μ)) else (if (x6 + x7) < (μ.1 0 10) then (jin (x6 + x7) 400 (jlet (jsI μ 3 ((x6 + x7)).toNatClampNeg x5) (fun μ4 : jM => if ((x6 + x7) + (1 : Int32)) ≤ (μ4.1 0 11) then (f_X6_plainRows_117  k6 (fun x1 x2 x3 x4 x5 x6 x7 μ => f_X6_plainRows_55  k6 fu x1 x2 x3 x4 x5 x6 x7 μ)  x1 x2 x3 x4 x5 x6 x7 (μ4.1 0 11) μ4) else (f_X6_plainRows_117  k6 (fun x1 x2 x3 x4 x5 x6 x7 μ => f_X6_plainRows_55  k6 fu x1 x2 x3 x4 x5 x6 x7 μ)  x1 x2 x3 x4 x5 x6 x7 ((x6 + x7) + (1 : Int32)) μ4)))) else (jbl (0 : Int32) (some ((0 : Int32), μ))))
noncomputable def f_X6_plainRows_6   : Nat → Int32 → Int32 → Int32 → jM → Option (Int32 × jM)
  | 0, _, _, _, _ => none
  | fu + 1, x1, x2, x3, μ => if (μ.1 0 8) ≤ (x1 + (1 : Int32)) then (jbl (0 : Int32) (some ((0 : Int32), μ))) else (jin x1 1000 (jlet (μ.1 2 (x1).toNatClampNeg) (fun z11 : Int32 => jin (x1 + (1 : Int32)) 1000 (jlet (μ.1 2 ((x1 + (1 : Int32))).toNatClampNeg) (fun z13 : Int32 => jlet ((x3 * (μ.1 0 2)) + x2) (fun z14 : Int32 => jlet (x1 + (2 : Int32)) (fun z15 : Int32 => if z11 ≤ (0 : Int32) then (if z13 = (0 : Int32) then (jlet (x3 + (1 : Int32)) (fun z32 : Int32 => f_X6_plainRows_228  (fun x1 x2 x3 μ => f_X6_plainRows_6   fu x1 x2 x3 μ)  z15 (0 : Int32) z32 μ)) else (if z13 = (1 : Int32) then (jbl (1 : Int32) (some ((1 : Int32), μ))) else (if z13 = (2 : Int32) then (if (z15 + (1 : Int32)) < (μ.1 0 8) then (jin z15 1000 (jlet (x2 + (μ.1 2 (z15).toNatClampNeg)) (fun z23 : Int32 => jin (z15 + (1 : Int32)) 1000 (jlet (x3 + (μ.1 2 ((z15 + (1 : Int32))).toNatClampNeg)) (fun z25 : Int32 => jlet (z15 + (2 : Int32)) (fun z26 : Int32 => f_X6_plainRows_228  (fun x1 x2 x3 μ => f_X6_plainRows_6   fu x1 x2 x3 μ)  z26 z23 z25 μ)))))) else (jbl (0 : Int32) (some ((0 : Int32), μ)))) else (jcall (f_X6_copies z15 z14 z13 μ) (fun (r16 : Int32) (μ16 : jM) => if r16 = (0 : Int32) then (jbl (0 : Int32) (some ((0 : Int32), μ16))) else (jlet (x2 + z13) (fun z17 : Int32 => jnz (2 : Int32) (jlet (z15 + (z13 + (z13 - z13 / (2 : Int32) * (2 : Int32)))) (fun z19 : Int32 => f_X6_plainRows_228  (fun x1 x2 x3 μ => f_X6_plainRows_6   fu x1 x2 x3 μ)  z19 z17 x3 μ16))))))))) else (f_X6_plainRows_55  (fun x1 x2 x3 μ => f_X6_plainRows_6   fu x1 x2 x3 μ) jFU z15 x2 x3 z11 z13 z14 (0 : Int32) μ))))))))
noncomputable def f_X6_plainRows  (μ : jM) : Option (Int32 × jM) := f_X6_plainRows_6   jFU (0 : Int32) (0 : Int32) (0 : Int32) μ
set_option maxHeartbeats 4000000 in
theorem t_X6_plainRows_228 {Γ : jC} {Δ : jD} {r : Int32} {μ9 : jM}  {k6 : Int32 → Int32 → Int32 → jM → Option (Int32 × jM)}  (X : jOk Γ Δ shM cX6_plainRows 8 RX6 (some .boolean) D_X6_plainRows) (hk6 : ∀ (x1 : Int32) (x2 : Int32) (x3 : Int32) (μ : jM), k6 x1 x2 x3 μ = some (r, μ9) → jG Γ Δ shM (some (.int r), μ9) 6 [some (jr Δ 0), some (.int x1), some (.int x2), some (.int x3), none, none, none, none] [] μ) : ∀ (x1 : Int32) (x2 : Int32) (x3 : Int32) (μ : jM), f_X6_plainRows_228  k6 x1 x2 x3 μ = some (r, μ9) → jG Γ Δ shM (some (.int r), μ9) 228 [some (jr Δ 0), some (.int x1), some (.int x2), some (.int x3), none, none, none, none] [] μ := by
  intro x1 x2 x3 μ hf
  unfold f_X6_plainRows_228 at hf
  refine g_goto (pc := 228) 6 X dX6_plainRows_228 (by decide) ?_
  exact g_weak (hk6 _ _ _ _ hf) (⟨rfl, ⟨rfl, ⟨rfl, ⟨rfl, trivial⟩⟩⟩⟩)
set_option maxHeartbeats 4000000 in
theorem t_X6_plainRows_117 {Γ : jC} {Δ : jD} {r : Int32} {μ9 : jM}  {k6 : Int32 → Int32 → Int32 → jM → Option (Int32 × jM)} {k55 : Int32 → Int32 → Int32 → Int32 → Int32 → Int32 → Int32 → jM → Option (Int32 × jM)}  (X : jOk Γ Δ shM cX6_plainRows 8 RX6 (some .boolean) D_X6_plainRows) (hk6 : ∀ (x1 : Int32) (x2 : Int32) (x3 : Int32) (μ : jM), k6 x1 x2 x3 μ = some (r, μ9) → jG Γ Δ shM (some (.int r), μ9) 6 [some (jr Δ 0), some (.int x1), some (.int x2), some (.int x3), none, none, none, none] [] μ) (hk55 : ∀ (x1 : Int32) (x2 : Int32) (x3 : Int32) (x4 : Int32) (x5 : Int32) (x6 : Int32) (x7 : Int32) (μ : jM), k55 x1 x2 x3 x4 x5 x6 x7 μ = some (r, μ9) → jG Γ Δ shM (some (.int r), μ9) 55 [some (jr Δ 0), some (.int x1), some (.int x2), some (.int x3), some (.int x4), some (.int x5), some (.int x6), some (.int x7)] [] μ) : ∀ (x1 : Int32) (x2 : Int32) (x3 : Int32) (x4 : Int32) (x5 : Int32) (x6 : Int32) (x7 : Int32) (s0 : Int32) (μ : jM), f_X6_plainRows_117  k6 k55 x1 x2 x3 x4 x5 x6 x7 s0 μ = some (r, μ9) → jG Γ Δ shM (some (.int r), μ9) 117 [some (jr Δ 0), some (.int x1), some (.int x2), some (.int x3), some (.int x4), some (.int x5), some (.int x6), some (.int x7)] [.int s0, jr Δ 0] μ := by
  intro x1 x2 x3 x4 x5 x6 x7 s0 μ hf
  unfold f_X6_plainRows_117 at hf
  refine g_putI (pc := 117) (k := 11) X dX6_plainRows_117 cl_X6 rfl rfl (by decide) w_672 rfl rfl rfl ?_
  refine g_nmM (fun μ1 eμ1 => ?_)
  replace hf := jlet_i eμ1 hf
  obtain ⟨z2, ez2⟩ : ∃ z : Int32, z = x7 + (1 : Int32) := ⟨_, rfl⟩
  replace hf := jlet_i ez2 hf
  refine g_iinc (pc := 120) (L1 := [some (jr Δ 0), some (.int x1), some (.int x2), some (.int x3), some (.int x4), some (.int x5), some (.int x6), some (.int z2)]) X dX6_plainRows_120 rfl (by rw [ez2]; rfl) rfl rfl ?_
  refine g_goto (pc := 123) 55 X dX6_plainRows_123 (by decide) ?_
  exact g_weak (hk55 _ _ _ _ _ _ _ _ hf) (⟨rfl, ⟨rfl, ⟨rfl, ⟨rfl, ⟨rfl, ⟨rfl, ⟨rfl, ⟨rfl, trivial⟩⟩⟩⟩⟩⟩⟩⟩)
set_option maxHeartbeats 4000000 in
theorem t_X6_plainRows_55 {Γ : jC} {Δ : jD} {r : Int32} {μ9 : jM}  {k6 : Int32 → Int32 → Int32 → jM → Option (Int32 × jM)}  (X : jOk Γ Δ shM cX6_plainRows 8 RX6 (some .boolean) D_X6_plainRows) (hk6 : ∀ (x1 : Int32) (x2 : Int32) (x3 : Int32) (μ : jM), k6 x1 x2 x3 μ = some (r, μ9) → jG Γ Δ shM (some (.int r), μ9) 6 [some (jr Δ 0), some (.int x1), some (.int x2), some (.int x3), none, none, none, none] [] μ) : ∀ (fu : Nat) (x1 : Int32) (x2 : Int32) (x3 : Int32) (x4 : Int32) (x5 : Int32) (x6 : Int32) (x7 : Int32) (μ : jM), f_X6_plainRows_55  k6 fu x1 x2 x3 x4 x5 x6 x7 μ = some (r, μ9) → jG Γ Δ shM (some (.int r), μ9) 55 [some (jr Δ 0), some (.int x1), some (.int x2), some (.int x3), some (.int x4), some (.int x5), some (.int x6), some (.int x7)] [] μ := by
  intro fu
  induction fu with
  | zero =>
    intro x1 x2 x3 x4 x5 x6 x7 μ hf
    cases hf
  | succ fu ih =>
    intro x1 x2 x3 x4 x5 x6 x7 μ hf
    replace hf := (f_X6_plainRows_55.eq_2 _ _ _ _ _ _ _ _ _ _).symm.trans hf
    refine g_ild (pc := 55) X dX6_plainRows_55 rfl ?_
    refine g_ild (pc := 57) X dX6_plainRows_57 rfl ?_
    refine g_icmp_ge (pc := 59) 126 X dX6_plainRows_59 (by decide) (fun h8 => ?_) (fun h8 => ?_)
    · replace hf := jt_i h8 hf
      refine g_ild_n (pc := 126) (i := 2) X dX6_plainRows_126 rfl rfl ?_
      refine g_ild (pc := 127) X dX6_plainRows_127 rfl ?_
      refine g_iadd (pc := 129) X dX6_plainRows_129 ?_
      refine g_nmI (fun z3 ez3 => ?_)
      replace hf := jlet_i ez3 hf
      refine g_ist_n (pc := 130) (i := 2) (L1 := [some (jr Δ 0), some (.int x1), some (.int z3), some (.int x3), some (.int x4), some (.int x5), some (.int x6), some (.int x7)]) X dX6_plainRows_130 rfl (Nat.le_of_ble_eq_true rfl) rfl rfl ?_
      refine g_goto (pc := 131) 228 X dX6_plainRows_131 (by decide) ?_
      exact g_weak (t_X6_plainRows_228  X hk6  _ _ _ _ hf) (⟨rfl, ⟨rfl, ⟨rfl, ⟨rfl, trivial⟩⟩⟩⟩)
    · replace hf := jf_i h8 hf
      refine g_ild (pc := 62) X dX6_plainRows_62 rfl ?_
      refine g_ild (pc := 64) X dX6_plainRows_64 rfl ?_
      refine g_iadd (pc := 66) X dX6_plainRows_66 ?_
      refine g_ald_n (pc := 67) (i := 0) X dX6_plainRows_67 rfl rfl ?_
      refine g_getI (pc := 68) (k := 10) X dX6_plainRows_68 cl_X6 rfl rfl (by decide) w_671 ?_
      refine g_icmp_lt (pc := 71) 76 X dX6_plainRows_71 (by decide) (fun h7 => ?_) (fun h7 => ?_)
      · replace hf := jt_i h7 hf
        refine g_ald_n (pc := 76) (i := 0) X dX6_plainRows_76 rfl rfl ?_
        refine g_getR (pc := 77) (k := 9) X dX6_plainRows_77 cl_X6 rfl rfl (by decide) w_670 ?_
        refine g_ild (pc := 80) X dX6_plainRows_80 rfl ?_
        refine g_ild (pc := 82) X dX6_plainRows_82 rfl ?_
        refine g_iadd (pc := 84) X dX6_plainRows_84 ?_
        refine g_ild (pc := 85) X dX6_plainRows_85 rfl ?_
        obtain ⟨hi4, hf⟩ := jin_i hf
        refine g_iast (pc := 87) X dX6_plainRows_87 rfl hi4 ?_
        refine g_nmM (fun μ4 eμ4 => ?_)
        replace hf := jlet_i eμ4 hf
        refine g_ald_n (pc := 88) (i := 0) X dX6_plainRows_88 rfl rfl ?_
        refine g_ild (pc := 89) X dX6_plainRows_89 rfl ?_
        refine g_ild (pc := 91) X dX6_plainRows_91 rfl ?_
        refine g_iadd (pc := 93) X dX6_plainRows_93 ?_
        refine g_iconst (pc := 94) (v := (1 : Int32)) X dX6_plainRows_94 (by decide) ?_
        refine g_iadd (pc := 95) X dX6_plainRows_95 ?_
        refine g_ald_n (pc := 96) (i := 0) X dX6_plainRows_96 rfl rfl ?_
        refine g_getI (pc := 97) (k := 11) X dX6_plainRows_97 cl_X6 rfl rfl (by decide) w_672 ?_
        refine g_icmp_le (pc := 100) 113 X dX6_plainRows_100 (by decide) (fun h5 => ?_) (fun h5 => ?_)
        · replace hf := jt_i h5 hf
          refine g_ald_n (pc := 113) (i := 0) X dX6_plainRows_113 rfl rfl ?_
          refine g_getI (pc := 114) (k := 11) X dX6_plainRows_114 cl_X6 rfl rfl (by decide) w_672 ?_
          exact g_weak (t_X6_plainRows_117  X hk6 (fun _ _ _ _ _ _ _ _ h => ih _ _ _ _ _ _ _ _ h)  _ _ _ _ _ _ _ _ _ hf) (⟨rfl, ⟨rfl, ⟨rfl, ⟨rfl, ⟨rfl, ⟨rfl, ⟨rfl, ⟨rfl, trivial⟩⟩⟩⟩⟩⟩⟩⟩)
        · replace hf := jf_i h5 hf
          refine g_ild (pc := 103) X dX6_plainRows_103 rfl ?_
          refine g_ild (pc := 105) X dX6_plainRows_105 rfl ?_
          refine g_iadd (pc := 107) X dX6_plainRows_107 ?_
          refine g_iconst (pc := 108) (v := (1 : Int32)) X dX6_plainRows_108 (by decide) ?_
          refine g_iadd (pc := 109) X dX6_plainRows_109 ?_
          refine g_goto (pc := 110) 117 X dX6_plainRows_110 (by decide) ?_
          exact g_weak (t_X6_plainRows_117  X hk6 (fun _ _ _ _ _ _ _ _ h => ih _ _ _ _ _ _ _ _ h)  _ _ _ _ _ _ _ _ _ hf) (⟨rfl, ⟨rfl, ⟨rfl, ⟨rfl, ⟨rfl, ⟨rfl, ⟨rfl, ⟨rfl, trivial⟩⟩⟩⟩⟩⟩⟩⟩)
      · replace hf := jf_i h7 hf
        refine g_iconst (pc := 74) (v := (0 : Int32)) X dX6_plainRows_74 (by decide) ?_
        obtain ⟨hb6, hf⟩ := jbl_i hf
        exact g_zret (pc := 75) X dX6_plainRows_75 hb6 hf
set_option maxHeartbeats 4000000 in
theorem t_X6_plainRows_6 {Γ : jC} {Δ : jD} {r : Int32} {μ9 : jM}    (X : jOk Γ Δ shM cX6_plainRows 8 RX6 (some .boolean) D_X6_plainRows)  : ∀ (fu : Nat) (x1 : Int32) (x2 : Int32) (x3 : Int32) (μ : jM), f_X6_plainRows_6   fu x1 x2 x3 μ = some (r, μ9) → jG Γ Δ shM (some (.int r), μ9) 6 [some (jr Δ 0), some (.int x1), some (.int x2), some (.int x3), none, none, none, none] [] μ := by
  intro fu
  induction fu with
  | zero =>
    intro x1 x2 x3 μ hf
    cases hf
  | succ fu ih =>
    intro x1 x2 x3 μ hf
    replace hf := (f_X6_plainRows_6.eq_2 _ _ _ _ _).symm.trans hf
    refine g_ild_n (pc := 6) (i := 1) X dX6_plainRows_6 rfl rfl ?_
    refine g_iconst (pc := 7) (v := (1 : Int32)) X dX6_plainRows_7 (by decide) ?_
    refine g_iadd (pc := 8) X dX6_plainRows_8 ?_
    refine g_ald_n (pc := 9) (i := 0) X dX6_plainRows_9 rfl rfl ?_
    refine g_getI (pc := 10) (k := 8) X dX6_plainRows_10 cl_X6 rfl rfl (by decide) w_669 ?_
    refine g_icmp_ge (pc := 13) 231 X dX6_plainRows_13 (by decide) (fun h35 => ?_) (fun h35 => ?_)
    · replace hf := jt_i h35 hf
      refine g_iconst (pc := 231) (v := (0 : Int32)) X dX6_plainRows_231 (by decide) ?_
      obtain ⟨hb9, hf⟩ := jbl_i hf
      exact g_zret (pc := 232) X dX6_plainRows_232 hb9 hf
    · replace hf := jf_i h35 hf
      refine g_ald_n (pc := 16) (i := 0) X dX6_plainRows_16 rfl rfl ?_
      refine g_getR (pc := 17) (k := 7) X dX6_plainRows_17 cl_X6 rfl rfl (by decide) w_668 ?_
      refine g_ild_n (pc := 20) (i := 1) X dX6_plainRows_20 rfl rfl ?_
      obtain ⟨hi10, hf⟩ := jin_i hf
      refine g_iald (pc := 21) X dX6_plainRows_21 rfl hi10 ?_
      refine g_nmI (fun z11 ez11 => ?_)
      replace hf := jlet_i ez11 hf
      refine g_ist (pc := 22) (L1 := [some (jr Δ 0), some (.int x1), some (.int x2), some (.int x3), some (.int z11), none, none, none]) X dX6_plainRows_22 (Nat.le_of_ble_eq_true rfl) rfl rfl ?_
      refine g_ald_n (pc := 24) (i := 0) X dX6_plainRows_24 rfl rfl ?_
      refine g_getR (pc := 25) (k := 7) X dX6_plainRows_25 cl_X6 rfl rfl (by decide) w_668 ?_
      refine g_ild_n (pc := 28) (i := 1) X dX6_plainRows_28 rfl rfl ?_
      refine g_iconst (pc := 29) (v := (1 : Int32)) X dX6_plainRows_29 (by decide) ?_
      refine g_iadd (pc := 30) X dX6_plainRows_30 ?_
      obtain ⟨hi12, hf⟩ := jin_i hf
      refine g_iald (pc := 31) X dX6_plainRows_31 rfl hi12 ?_
      refine g_nmI (fun z13 ez13 => ?_)
      replace hf := jlet_i ez13 hf
      refine g_ist (pc := 32) (L1 := [some (jr Δ 0), some (.int x1), some (.int x2), some (.int x3), some (.int z11), some (.int z13), none, none]) X dX6_plainRows_32 (Nat.le_of_ble_eq_true rfl) rfl rfl ?_
      refine g_ild_n (pc := 34) (i := 3) X dX6_plainRows_34 rfl rfl ?_
      refine g_ald_n (pc := 35) (i := 0) X dX6_plainRows_35 rfl rfl ?_
      refine g_getI (pc := 36) (k := 2) X dX6_plainRows_36 cl_X6 rfl rfl (by decide) w_663 ?_
      refine g_imul (pc := 39) X dX6_plainRows_39 ?_
      refine g_ild_n (pc := 40) (i := 2) X dX6_plainRows_40 rfl rfl ?_
      refine g_iadd (pc := 41) X dX6_plainRows_41 ?_
      refine g_nmI (fun z14 ez14 => ?_)
      replace hf := jlet_i ez14 hf
      refine g_ist (pc := 42) (L1 := [some (jr Δ 0), some (.int x1), some (.int x2), some (.int x3), some (.int z11), some (.int z13), some (.int z14), none]) X dX6_plainRows_42 (Nat.le_of_ble_eq_true rfl) rfl rfl ?_
      obtain ⟨z15, ez15⟩ : ∃ z : Int32, z = x1 + (2 : Int32) := ⟨_, rfl⟩
      replace hf := jlet_i ez15 hf
      refine g_iinc (pc := 44) (L1 := [some (jr Δ 0), some (.int z15), some (.int x2), some (.int x3), some (.int z11), some (.int z13), some (.int z14), none]) X dX6_plainRows_44 rfl (by rw [ez15]; rfl) rfl rfl ?_
      refine g_ild (pc := 47) X dX6_plainRows_47 rfl ?_
      refine g_if_le (pc := 49) 134 X dX6_plainRows_49 (by decide) (fun h34 => ?_) (fun h34 => ?_)
      · replace hf := jt_i h34 hf
        refine g_ild (pc := 134) X dX6_plainRows_134 rfl ?_
        refine g_if_ne (pc := 136) 147 X dX6_plainRows_136 (by decide) (fun h33 => ?_) (fun h33 => ?_)
        · replace hf := jf_i h33 hf
          refine g_ild (pc := 147) X dX6_plainRows_147 rfl ?_
          refine g_iconst (pc := 149) (v := (1 : Int32)) X dX6_plainRows_149 (by decide) ?_
          refine g_icmp_ne (pc := 150) 155 X dX6_plainRows_150 (by decide) (fun h31 => ?_) (fun h31 => ?_)
          · replace hf := jf_i h31 hf
            refine g_ild (pc := 155) X dX6_plainRows_155 rfl ?_
            refine g_iconst (pc := 157) (v := (2 : Int32)) X dX6_plainRows_157 (by decide) ?_
            refine g_icmp_ne (pc := 158) 199 X dX6_plainRows_158 (by decide) (fun h29 => ?_) (fun h29 => ?_)
            · replace hf := jf_i h29 hf
              refine g_ald_n (pc := 199) (i := 0) X dX6_plainRows_199 rfl rfl ?_
              refine g_ild_n (pc := 200) (i := 1) X dX6_plainRows_200 rfl rfl ?_
              refine g_ild (pc := 201) X dX6_plainRows_201 rfl ?_
              refine g_ild (pc := 203) X dX6_plainRows_203 rfl ?_
              obtain ⟨r16, μ16, hc16, hf⟩ := jcall_i hf
              refine g_callVi (pc := 205) [.int z15, .int z14, .int z13] X dX6_plainRows_205 (M_X6_copies  (jOk_sep X) hc16) Y_X6_copies w_921 ws_39 w_923 cl_X6 rfl rfl (by decide) rfl rfl (Nat.le_of_ble_eq_true rfl) rfl ?_
              refine g_if_ne (pc := 208) 213 X dX6_plainRows_208 (by decide) (fun h21 => ?_) (fun h21 => ?_)
              · replace hf := jf_i h21 hf
                refine g_ild_n (pc := 213) (i := 2) X dX6_plainRows_213 rfl rfl ?_
                refine g_ild (pc := 214) X dX6_plainRows_214 rfl ?_
                refine g_iadd (pc := 216) X dX6_plainRows_216 ?_
                refine g_nmI (fun z17 ez17 => ?_)
                replace hf := jlet_i ez17 hf
                refine g_ist_n (pc := 217) (i := 2) (L1 := [some (jr Δ 0), some (.int z15), some (.int z17), some (.int x3), some (.int z11), some (.int z13), some (.int z14), none]) X dX6_plainRows_217 rfl (Nat.le_of_ble_eq_true rfl) rfl rfl ?_
                refine g_ild_n (pc := 218) (i := 1) X dX6_plainRows_218 rfl rfl ?_
                refine g_ild (pc := 219) X dX6_plainRows_219 rfl ?_
                refine g_ild (pc := 221) X dX6_plainRows_221 rfl ?_
                refine g_iconst (pc := 223) (v := (2 : Int32)) X dX6_plainRows_223 (by decide) ?_
                obtain ⟨hz18, hf⟩ := jnz_i hf
                refine g_irem (pc := 224) X dX6_plainRows_224 hz18 ?_
                refine g_iadd (pc := 225) X dX6_plainRows_225 ?_
                refine g_iadd (pc := 226) X dX6_plainRows_226 ?_
                refine g_nmI (fun z19 ez19 => ?_)
                replace hf := jlet_i ez19 hf
                refine g_ist_n (pc := 227) (i := 1) (L1 := [some (jr Δ 0), some (.int z19), some (.int z17), some (.int x3), some (.int z11), some (.int z13), some (.int z14), none]) X dX6_plainRows_227 rfl (Nat.le_of_ble_eq_true rfl) rfl rfl ?_
                exact g_weak (t_X6_plainRows_228  X (fun _ _ _ _ h => ih _ _ _ _ h)  _ _ _ _ hf) (⟨rfl, ⟨rfl, ⟨rfl, ⟨rfl, trivial⟩⟩⟩⟩)
              · replace hf := jt_i h21 hf
                refine g_iconst (pc := 211) (v := (0 : Int32)) X dX6_plainRows_211 (by decide) ?_
                obtain ⟨hb20, hf⟩ := jbl_i hf
                exact g_zret (pc := 212) X dX6_plainRows_212 hb20 hf
            · replace hf := jt_i h29 hf
              refine g_ild_n (pc := 161) (i := 1) X dX6_plainRows_161 rfl rfl ?_
              refine g_iconst (pc := 162) (v := (1 : Int32)) X dX6_plainRows_162 (by decide) ?_
              refine g_iadd (pc := 163) X dX6_plainRows_163 ?_
              refine g_ald_n (pc := 164) (i := 0) X dX6_plainRows_164 rfl rfl ?_
              refine g_getI (pc := 165) (k := 8) X dX6_plainRows_165 cl_X6 rfl rfl (by decide) w_669 ?_
              refine g_icmp_lt (pc := 168) 173 X dX6_plainRows_168 (by decide) (fun h28 => ?_) (fun h28 => ?_)
              · replace hf := jt_i h28 hf
                refine g_ild_n (pc := 173) (i := 2) X dX6_plainRows_173 rfl rfl ?_
                refine g_ald_n (pc := 174) (i := 0) X dX6_plainRows_174 rfl rfl ?_
                refine g_getR (pc := 175) (k := 7) X dX6_plainRows_175 cl_X6 rfl rfl (by decide) w_668 ?_
                refine g_ild_n (pc := 178) (i := 1) X dX6_plainRows_178 rfl rfl ?_
                obtain ⟨hi22, hf⟩ := jin_i hf
                refine g_iald (pc := 179) X dX6_plainRows_179 rfl hi22 ?_
                refine g_iadd (pc := 180) X dX6_plainRows_180 ?_
                refine g_nmI (fun z23 ez23 => ?_)
                replace hf := jlet_i ez23 hf
                refine g_ist_n (pc := 181) (i := 2) (L1 := [some (jr Δ 0), some (.int z15), some (.int z23), some (.int x3), some (.int z11), some (.int z13), some (.int z14), none]) X dX6_plainRows_181 rfl (Nat.le_of_ble_eq_true rfl) rfl rfl ?_
                refine g_ild_n (pc := 182) (i := 3) X dX6_plainRows_182 rfl rfl ?_
                refine g_ald_n (pc := 183) (i := 0) X dX6_plainRows_183 rfl rfl ?_
                refine g_getR (pc := 184) (k := 7) X dX6_plainRows_184 cl_X6 rfl rfl (by decide) w_668 ?_
                refine g_ild_n (pc := 187) (i := 1) X dX6_plainRows_187 rfl rfl ?_
                refine g_iconst (pc := 188) (v := (1 : Int32)) X dX6_plainRows_188 (by decide) ?_
                refine g_iadd (pc := 189) X dX6_plainRows_189 ?_
                obtain ⟨hi24, hf⟩ := jin_i hf
                refine g_iald (pc := 190) X dX6_plainRows_190 rfl hi24 ?_
                refine g_iadd (pc := 191) X dX6_plainRows_191 ?_
                refine g_nmI (fun z25 ez25 => ?_)
                replace hf := jlet_i ez25 hf
                refine g_ist_n (pc := 192) (i := 3) (L1 := [some (jr Δ 0), some (.int z15), some (.int z23), some (.int z25), some (.int z11), some (.int z13), some (.int z14), none]) X dX6_plainRows_192 rfl (Nat.le_of_ble_eq_true rfl) rfl rfl ?_
                obtain ⟨z26, ez26⟩ : ∃ z : Int32, z = z15 + (2 : Int32) := ⟨_, rfl⟩
                replace hf := jlet_i ez26 hf
                refine g_iinc (pc := 193) (L1 := [some (jr Δ 0), some (.int z26), some (.int z23), some (.int z25), some (.int z11), some (.int z13), some (.int z14), none]) X dX6_plainRows_193 rfl (by rw [ez26]; rfl) rfl rfl ?_
                refine g_goto (pc := 196) 228 X dX6_plainRows_196 (by decide) ?_
                exact g_weak (t_X6_plainRows_228  X (fun _ _ _ _ h => ih _ _ _ _ h)  _ _ _ _ hf) (⟨rfl, ⟨rfl, ⟨rfl, ⟨rfl, trivial⟩⟩⟩⟩)
              · replace hf := jf_i h28 hf
                refine g_iconst (pc := 171) (v := (0 : Int32)) X dX6_plainRows_171 (by decide) ?_
                obtain ⟨hb27, hf⟩ := jbl_i hf
                exact g_zret (pc := 172) X dX6_plainRows_172 hb27 hf
          · replace hf := jt_i h31 hf
            refine g_iconst (pc := 153) (v := (1 : Int32)) X dX6_plainRows_153 (by decide) ?_
            obtain ⟨hb30, hf⟩ := jbl_i hf
            exact g_zret (pc := 154) X dX6_plainRows_154 hb30 hf
        · replace hf := jt_i h33 hf
          obtain ⟨z32, ez32⟩ : ∃ z : Int32, z = x3 + (1 : Int32) := ⟨_, rfl⟩
          replace hf := jlet_i ez32 hf
          refine g_iinc (pc := 139) (L1 := [some (jr Δ 0), some (.int z15), some (.int x2), some (.int z32), some (.int z11), some (.int z13), some (.int z14), none]) X dX6_plainRows_139 rfl (by rw [ez32]; rfl) rfl rfl ?_
          refine g_iconst (pc := 142) (v := (0 : Int32)) X dX6_plainRows_142 (by decide) ?_
          refine g_ist_n (pc := 143) (i := 2) (L1 := [some (jr Δ 0), some (.int z15), some (.int (0 : Int32)), some (.int z32), some (.int z11), some (.int z13), some (.int z14), none]) X dX6_plainRows_143 rfl (Nat.le_of_ble_eq_true rfl) rfl rfl ?_
          refine g_goto (pc := 144) 228 X dX6_plainRows_144 (by decide) ?_
          exact g_weak (t_X6_plainRows_228  X (fun _ _ _ _ h => ih _ _ _ _ h)  _ _ _ _ hf) (⟨rfl, ⟨rfl, ⟨rfl, ⟨rfl, trivial⟩⟩⟩⟩)
      · replace hf := jf_i h34 hf
        refine g_iconst (pc := 52) (v := (0 : Int32)) X dX6_plainRows_52 (by decide) ?_
        refine g_ist (pc := 53) (L1 := [some (jr Δ 0), some (.int z15), some (.int x2), some (.int x3), some (.int z11), some (.int z13), some (.int z14), some (.int (0 : Int32))]) X dX6_plainRows_53 (Nat.le_of_ble_eq_true rfl) rfl rfl ?_
        exact g_weak (t_X6_plainRows_55  X (fun _ _ _ _ h => ih _ _ _ _ h) jFU _ _ _ _ _ _ _ _ hf) (⟨rfl, ⟨rfl, ⟨rfl, ⟨rfl, ⟨rfl, ⟨rfl, ⟨rfl, ⟨rfl, trivial⟩⟩⟩⟩⟩⟩⟩⟩)
set_option maxHeartbeats 4000000 in
theorem M_X6_plainRows {l : Launch} {Δ : jD} {r : Int32} {μ μ9 : jM}   (hsep : jSep Δ shM) (hf : f_X6_plainRows  μ = some (r, μ9)) : jMet l yX6_plainRows cX6_plainRows 8 (some .boolean) D_X6_plainRows Δ shM [jr Δ 0] μ (some (.int r), μ9) := by
  refine jMet_of (own := RX6) (L := [some (jr Δ 0), none, none, none, none, none, none, none]) (by decide) rfl (Nat.le_of_ble_eq_true rfl) rfl hsep (fun Γ _ X => ?_)
  unfold f_X6_plainRows at hf
  refine g_iconst (pc := 0) (v := (0 : Int32)) X dX6_plainRows_0 (by decide) ?_
  refine g_ist_n (pc := 1) (i := 1) (L1 := [some (jr Δ 0), some (.int (0 : Int32)), none, none, none, none, none, none]) X dX6_plainRows_1 rfl (Nat.le_of_ble_eq_true rfl) rfl rfl ?_
  refine g_iconst (pc := 2) (v := (0 : Int32)) X dX6_plainRows_2 (by decide) ?_
  refine g_ist_n (pc := 3) (i := 2) (L1 := [some (jr Δ 0), some (.int (0 : Int32)), some (.int (0 : Int32)), none, none, none, none, none]) X dX6_plainRows_3 rfl (Nat.le_of_ble_eq_true rfl) rfl rfl ?_
  refine g_iconst (pc := 4) (v := (0 : Int32)) X dX6_plainRows_4 (by decide) ?_
  refine g_ist_n (pc := 5) (i := 3) (L1 := [some (jr Δ 0), some (.int (0 : Int32)), some (.int (0 : Int32)), some (.int (0 : Int32)), none, none, none, none]) X dX6_plainRows_5 rfl (Nat.le_of_ble_eq_true rfl) rfl rfl ?_
  exact g_weak (t_X6_plainRows_6  X  jFU _ _ _ _ hf) (⟨rfl, ⟨rfl, ⟨rfl, ⟨rfl, trivial⟩⟩⟩⟩)
/-! X6_plainSigned -/
abbrev D_X6_plainSigned : Nat := 1
noncomputable def f_X6_plainSigned_139  (k4 : Int32 → Int32 → jM → Option (Int32 × jM)) (x1 : Int32) (x2 : Int32) (μ : jM) : Option (Int32 × jM) := k4 x1 x2 μ
noncomputable def f_X6_plainSigned_96  (k4 : Int32 → Int32 → jM → Option (Int32 × jM)) : Nat → Int32 → Int32 → Int32 → Int32 → jM → Option (Int32 × jM)
  | 0, _, _, _, _, _ => none
  | fu + 1, x1, x2, x3, x4, μ => if ((1 : Int32) - x3) ≤ x4 then (jlet (x1 + (μ.1 0 1)) (fun z1 : Int32 => f_X6_plainSigned_139  k4  z1 x2 μ)) else (jcall (f_X6_copies x1 x2 (μ.1 0 1) μ) (fun (r2 : Int32) (μ2 : jM) => if r2 = (0 : Int32) then (jbl (0 : Int32) (some ((0 : Int32), μ2))) else (jlet (x2 + (μ2.1 0 1)) (fun z3 : Int32 => jlet (x4 + (1 : Int32)) (fun z4 : Int32 => f_X6_plainSigned_96  k4 fu x1 z3 x3 z4 μ2)))))
noncomputable def f_X6_plainSigned_43  (k4 : Int32 → Int32 → jM → Option (Int32 × jM)) (x1 : Int32) (x2 : Int32) (s0 : Int32) (μ : jM) : Option (Int32 × jM) := jlet (x1 + (1 : Int32)) (fun z8 : Int32 => if s0 < (0 : Int32) then (if s0 ≤ (-128 : Int32) then (f_X6_plainSigned_139  k4  z8 x2 μ) else (f_X6_plainSigned_96  k4 jFU z8 x2 s0 (0 : Int32) μ)) else (jlet ((s0 + (1 : Int32)) * (μ.1 0 1)) (fun z10 : Int32 => jcall (f_X6_copies z8 x2 z10 μ) (fun (r11 : Int32) (μ11 : jM) => if r11 = (0 : Int32) then (jbl (0 : Int32) (some ((0 : Int32), μ11))) else (jlet (z8 + z10) (fun z12 : Int32 => jlet (x2 + z10) (fun z13 : Int32 => f_X6_plainSigned_139  k4  z12 z13 μ11)))))))
noncomputable def f_X6_plainSigned_4   : Nat → Int32 → Int32 → jM → Option (Int32 × jM)
  | 0, _, _, _ => none
  | fu + 1, x1, x2, μ => if (μ.1 0 8) ≤ x1 then (jbl (1 : Int32) (some ((1 : Int32), μ))) else (jin x1 1000 (if (128 : Int32) ≤ (μ.1 2 (x1).toNatClampNeg) then (jin x1 1000 (f_X6_plainSigned_43  (fun x1 x2 μ => f_X6_plainSigned_4   fu x1 x2 μ)  x1 x2 ((μ.1 2 (x1).toNatClampNeg) - (256 : Int32)) μ)) else (jin x1 1000 (f_X6_plainSigned_43  (fun x1 x2 μ => f_X6_plainSigned_4   fu x1 x2 μ)  x1 x2 (μ.1 2 (x1).toNatClampNeg) μ))))
noncomputable def f_X6_plainSigned  (μ : jM) : Option (Int32 × jM) := f_X6_plainSigned_4   jFU (0 : Int32) (0 : Int32) μ
set_option maxHeartbeats 4000000 in
theorem t_X6_plainSigned_139 {Γ : jC} {Δ : jD} {r : Int32} {μ9 : jM}  {k4 : Int32 → Int32 → jM → Option (Int32 × jM)}  (X : jOk Γ Δ shM cX6_plainSigned 5 RX6 (some .boolean) D_X6_plainSigned) (hk4 : ∀ (x1 : Int32) (x2 : Int32) (μ : jM), k4 x1 x2 μ = some (r, μ9) → jG Γ Δ shM (some (.int r), μ9) 4 [some (jr Δ 0), some (.int x1), some (.int x2), none, none] [] μ) : ∀ (x1 : Int32) (x2 : Int32) (μ : jM), f_X6_plainSigned_139  k4 x1 x2 μ = some (r, μ9) → jG Γ Δ shM (some (.int r), μ9) 139 [some (jr Δ 0), some (.int x1), some (.int x2), none, none] [] μ := by
  intro x1 x2 μ hf
  unfold f_X6_plainSigned_139 at hf
  refine g_goto (pc := 139) 4 X dX6_plainSigned_139 (by decide) ?_
  exact g_weak (hk4 _ _ _ hf) (⟨rfl, ⟨rfl, ⟨rfl, trivial⟩⟩⟩)
set_option maxHeartbeats 4000000 in
theorem t_X6_plainSigned_96 {Γ : jC} {Δ : jD} {r : Int32} {μ9 : jM}  {k4 : Int32 → Int32 → jM → Option (Int32 × jM)}  (X : jOk Γ Δ shM cX6_plainSigned 5 RX6 (some .boolean) D_X6_plainSigned) (hk4 : ∀ (x1 : Int32) (x2 : Int32) (μ : jM), k4 x1 x2 μ = some (r, μ9) → jG Γ Δ shM (some (.int r), μ9) 4 [some (jr Δ 0), some (.int x1), some (.int x2), none, none] [] μ) : ∀ (fu : Nat) (x1 : Int32) (x2 : Int32) (x3 : Int32) (x4 : Int32) (μ : jM), f_X6_plainSigned_96  k4 fu x1 x2 x3 x4 μ = some (r, μ9) → jG Γ Δ shM (some (.int r), μ9) 96 [some (jr Δ 0), some (.int x1), some (.int x2), some (.int x3), some (.int x4)] [] μ := by
  intro fu
  induction fu with
  | zero =>
    intro x1 x2 x3 x4 μ hf
    cases hf
  | succ fu ih =>
    intro x1 x2 x3 x4 μ hf
    replace hf := (f_X6_plainSigned_96.eq_2 _ _ _ _ _ _ _).symm.trans hf
    refine g_ild (pc := 96) X dX6_plainSigned_96 rfl ?_
    refine g_iconst (pc := 98) (v := (1 : Int32)) X dX6_plainSigned_98 (by decide) ?_
    refine g_ild_n (pc := 99) (i := 3) X dX6_plainSigned_99 rfl rfl ?_
    refine g_isub (pc := 100) X dX6_plainSigned_100 ?_
    refine g_icmp_ge (pc := 101) 132 X dX6_plainSigned_101 (by decide) (fun h7 => ?_) (fun h7 => ?_)
    · replace hf := jt_i h7 hf
      refine g_ild_n (pc := 132) (i := 1) X dX6_plainSigned_132 rfl rfl ?_
      refine g_ald_n (pc := 133) (i := 0) X dX6_plainSigned_133 rfl rfl ?_
      refine g_getI (pc := 134) (k := 1) X dX6_plainSigned_134 cl_X6 rfl rfl (by decide) w_662 ?_
      refine g_iadd (pc := 137) X dX6_plainSigned_137 ?_
      refine g_nmI (fun z1 ez1 => ?_)
      replace hf := jlet_i ez1 hf
      refine g_ist_n (pc := 138) (i := 1) (L1 := [some (jr Δ 0), some (.int z1), some (.int x2), some (.int x3), some (.int x4)]) X dX6_plainSigned_138 rfl (Nat.le_of_ble_eq_true rfl) rfl rfl ?_
      exact g_weak (t_X6_plainSigned_139  X hk4  _ _ _ hf) (⟨rfl, ⟨rfl, ⟨rfl, trivial⟩⟩⟩)
    · replace hf := jf_i h7 hf
      refine g_ald_n (pc := 104) (i := 0) X dX6_plainSigned_104 rfl rfl ?_
      refine g_ild_n (pc := 105) (i := 1) X dX6_plainSigned_105 rfl rfl ?_
      refine g_ild_n (pc := 106) (i := 2) X dX6_plainSigned_106 rfl rfl ?_
      refine g_ald_n (pc := 107) (i := 0) X dX6_plainSigned_107 rfl rfl ?_
      refine g_getI (pc := 108) (k := 1) X dX6_plainSigned_108 cl_X6 rfl rfl (by decide) w_662 ?_
      obtain ⟨r2, μ2, hc2, hf⟩ := jcall_i hf
      refine g_callVi (pc := 111) [.int x1, .int x2, .int (μ.1 0 1)] X dX6_plainSigned_111 (M_X6_copies  (jOk_sep X) hc2) Y_X6_copies w_921 ws_39 w_923 cl_X6 rfl rfl (by decide) rfl rfl (Nat.le_of_ble_eq_true rfl) rfl ?_
      refine g_if_ne (pc := 114) 119 X dX6_plainSigned_114 (by decide) (fun h6 => ?_) (fun h6 => ?_)
      · replace hf := jf_i h6 hf
        refine g_ild_n (pc := 119) (i := 2) X dX6_plainSigned_119 rfl rfl ?_
        refine g_ald_n (pc := 120) (i := 0) X dX6_plainSigned_120 rfl rfl ?_
        refine g_getI (pc := 121) (k := 1) X dX6_plainSigned_121 cl_X6 rfl rfl (by decide) w_662 ?_
        refine g_iadd (pc := 124) X dX6_plainSigned_124 ?_
        refine g_nmI (fun z3 ez3 => ?_)
        replace hf := jlet_i ez3 hf
        refine g_ist_n (pc := 125) (i := 2) (L1 := [some (jr Δ 0), some (.int x1), some (.int z3), some (.int x3), some (.int x4)]) X dX6_plainSigned_125 rfl (Nat.le_of_ble_eq_true rfl) rfl rfl ?_
        obtain ⟨z4, ez4⟩ : ∃ z : Int32, z = x4 + (1 : Int32) := ⟨_, rfl⟩
        replace hf := jlet_i ez4 hf
        refine g_iinc (pc := 126) (L1 := [some (jr Δ 0), some (.int x1), some (.int z3), some (.int x3), some (.int z4)]) X dX6_plainSigned_126 rfl (by rw [ez4]; rfl) rfl rfl ?_
        refine g_goto (pc := 129) 96 X dX6_plainSigned_129 (by decide) ?_
        exact g_weak (ih _ _ _ _ _ hf) (⟨rfl, ⟨rfl, ⟨rfl, ⟨rfl, ⟨rfl, trivial⟩⟩⟩⟩⟩)
      · replace hf := jt_i h6 hf
        refine g_iconst (pc := 117) (v := (0 : Int32)) X dX6_plainSigned_117 (by decide) ?_
        obtain ⟨hb5, hf⟩ := jbl_i hf
        exact g_zret (pc := 118) X dX6_plainSigned_118 hb5 hf
set_option maxHeartbeats 4000000 in
theorem t_X6_plainSigned_43 {Γ : jC} {Δ : jD} {r : Int32} {μ9 : jM}  {k4 : Int32 → Int32 → jM → Option (Int32 × jM)}  (X : jOk Γ Δ shM cX6_plainSigned 5 RX6 (some .boolean) D_X6_plainSigned) (hk4 : ∀ (x1 : Int32) (x2 : Int32) (μ : jM), k4 x1 x2 μ = some (r, μ9) → jG Γ Δ shM (some (.int r), μ9) 4 [some (jr Δ 0), some (.int x1), some (.int x2), none, none] [] μ) : ∀ (x1 : Int32) (x2 : Int32) (s0 : Int32) (μ : jM), f_X6_plainSigned_43  k4 x1 x2 s0 μ = some (r, μ9) → jG Γ Δ shM (some (.int r), μ9) 43 [some (jr Δ 0), some (.int x1), some (.int x2), none, none] [.int s0] μ := by
  intro x1 x2 s0 μ hf
  unfold f_X6_plainSigned_43 at hf
  refine g_ist_n (pc := 43) (i := 3) (L1 := [some (jr Δ 0), some (.int x1), some (.int x2), some (.int s0), none]) X dX6_plainSigned_43 rfl (Nat.le_of_ble_eq_true rfl) rfl rfl ?_
  obtain ⟨z8, ez8⟩ : ∃ z : Int32, z = x1 + (1 : Int32) := ⟨_, rfl⟩
  replace hf := jlet_i ez8 hf
  refine g_iinc (pc := 44) (L1 := [some (jr Δ 0), some (.int z8), some (.int x2), some (.int s0), none]) X dX6_plainSigned_44 rfl (by rw [ez8]; rfl) rfl rfl ?_
  refine g_ild_n (pc := 47) (i := 3) X dX6_plainSigned_47 rfl rfl ?_
  refine g_if_lt (pc := 48) 87 X dX6_plainSigned_48 (by decide) (fun h16 => ?_) (fun h16 => ?_)
  · replace hf := jt_i h16 hf
    refine g_ild_n (pc := 87) (i := 3) X dX6_plainSigned_87 rfl rfl ?_
    refine g_bipush (pc := 88) (v := (-128 : Int32)) X dX6_plainSigned_88 (by decide) ?_
    refine g_icmp_le (pc := 90) 139 X dX6_plainSigned_90 (by decide) (fun h9 => ?_) (fun h9 => ?_)
    · replace hf := jt_i h9 hf
      exact g_weak (t_X6_plainSigned_139  X hk4  _ _ _ hf) (⟨rfl, ⟨rfl, ⟨rfl, trivial⟩⟩⟩)
    · replace hf := jf_i h9 hf
      refine g_iconst (pc := 93) (v := (0 : Int32)) X dX6_plainSigned_93 (by decide) ?_
      refine g_ist (pc := 94) (L1 := [some (jr Δ 0), some (.int z8), some (.int x2), some (.int s0), some (.int (0 : Int32))]) X dX6_plainSigned_94 (Nat.le_of_ble_eq_true rfl) rfl rfl ?_
      exact g_weak (t_X6_plainSigned_96  X hk4 jFU _ _ _ _ _ hf) (⟨rfl, ⟨rfl, ⟨rfl, ⟨rfl, ⟨rfl, trivial⟩⟩⟩⟩⟩)
  · replace hf := jf_i h16 hf
    refine g_ild_n (pc := 51) (i := 3) X dX6_plainSigned_51 rfl rfl ?_
    refine g_iconst (pc := 52) (v := (1 : Int32)) X dX6_plainSigned_52 (by decide) ?_
    refine g_iadd (pc := 53) X dX6_plainSigned_53 ?_
    refine g_ald_n (pc := 54) (i := 0) X dX6_plainSigned_54 rfl rfl ?_
    refine g_getI (pc := 55) (k := 1) X dX6_plainSigned_55 cl_X6 rfl rfl (by decide) w_662 ?_
    refine g_imul (pc := 58) X dX6_plainSigned_58 ?_
    refine g_nmI (fun z10 ez10 => ?_)
    replace hf := jlet_i ez10 hf
    refine g_ist (pc := 59) (L1 := [some (jr Δ 0), some (.int z8), some (.int x2), some (.int s0), some (.int z10)]) X dX6_plainSigned_59 (Nat.le_of_ble_eq_true rfl) rfl rfl ?_
    refine g_ald_n (pc := 61) (i := 0) X dX6_plainSigned_61 rfl rfl ?_
    refine g_ild_n (pc := 62) (i := 1) X dX6_plainSigned_62 rfl rfl ?_
    refine g_ild_n (pc := 63) (i := 2) X dX6_plainSigned_63 rfl rfl ?_
    refine g_ild (pc := 64) X dX6_plainSigned_64 rfl ?_
    obtain ⟨r11, μ11, hc11, hf⟩ := jcall_i hf
    refine g_callVi (pc := 66) [.int z8, .int x2, .int z10] X dX6_plainSigned_66 (M_X6_copies  (jOk_sep X) hc11) Y_X6_copies w_921 ws_39 w_923 cl_X6 rfl rfl (by decide) rfl rfl (Nat.le_of_ble_eq_true rfl) rfl ?_
    refine g_if_ne (pc := 69) 74 X dX6_plainSigned_69 (by decide) (fun h15 => ?_) (fun h15 => ?_)
    · replace hf := jf_i h15 hf
      refine g_ild_n (pc := 74) (i := 1) X dX6_plainSigned_74 rfl rfl ?_
      refine g_ild (pc := 75) X dX6_plainSigned_75 rfl ?_
      refine g_iadd (pc := 77) X dX6_plainSigned_77 ?_
      refine g_nmI (fun z12 ez12 => ?_)
      replace hf := jlet_i ez12 hf
      refine g_ist_n (pc := 78) (i := 1) (L1 := [some (jr Δ 0), some (.int z12), some (.int x2), some (.int s0), some (.int z10)]) X dX6_plainSigned_78 rfl (Nat.le_of_ble_eq_true rfl) rfl rfl ?_
      refine g_ild_n (pc := 79) (i := 2) X dX6_plainSigned_79 rfl rfl ?_
      refine g_ild (pc := 80) X dX6_plainSigned_80 rfl ?_
      refine g_iadd (pc := 82) X dX6_plainSigned_82 ?_
      refine g_nmI (fun z13 ez13 => ?_)
      replace hf := jlet_i ez13 hf
      refine g_ist_n (pc := 83) (i := 2) (L1 := [some (jr Δ 0), some (.int z12), some (.int z13), some (.int s0), some (.int z10)]) X dX6_plainSigned_83 rfl (Nat.le_of_ble_eq_true rfl) rfl rfl ?_
      refine g_goto (pc := 84) 139 X dX6_plainSigned_84 (by decide) ?_
      exact g_weak (t_X6_plainSigned_139  X hk4  _ _ _ hf) (⟨rfl, ⟨rfl, ⟨rfl, trivial⟩⟩⟩)
    · replace hf := jt_i h15 hf
      refine g_iconst (pc := 72) (v := (0 : Int32)) X dX6_plainSigned_72 (by decide) ?_
      obtain ⟨hb14, hf⟩ := jbl_i hf
      exact g_zret (pc := 73) X dX6_plainSigned_73 hb14 hf
set_option maxHeartbeats 4000000 in
theorem t_X6_plainSigned_4 {Γ : jC} {Δ : jD} {r : Int32} {μ9 : jM}    (X : jOk Γ Δ shM cX6_plainSigned 5 RX6 (some .boolean) D_X6_plainSigned)  : ∀ (fu : Nat) (x1 : Int32) (x2 : Int32) (μ : jM), f_X6_plainSigned_4   fu x1 x2 μ = some (r, μ9) → jG Γ Δ shM (some (.int r), μ9) 4 [some (jr Δ 0), some (.int x1), some (.int x2), none, none] [] μ := by
  intro fu
  induction fu with
  | zero =>
    intro x1 x2 μ hf
    cases hf
  | succ fu ih =>
    intro x1 x2 μ hf
    replace hf := (f_X6_plainSigned_4.eq_2 _ _ _ _).symm.trans hf
    refine g_ild_n (pc := 4) (i := 1) X dX6_plainSigned_4 rfl rfl ?_
    refine g_ald_n (pc := 5) (i := 0) X dX6_plainSigned_5 rfl rfl ?_
    refine g_getI (pc := 6) (k := 8) X dX6_plainSigned_6 cl_X6 rfl rfl (by decide) w_669 ?_
    refine g_icmp_ge (pc := 9) 142 X dX6_plainSigned_9 (by decide) (fun h22 => ?_) (fun h22 => ?_)
    · replace hf := jt_i h22 hf
      refine g_iconst (pc := 142) (v := (1 : Int32)) X dX6_plainSigned_142 (by decide) ?_
      obtain ⟨hb17, hf⟩ := jbl_i hf
      exact g_zret (pc := 143) X dX6_plainSigned_143 hb17 hf
    · replace hf := jf_i h22 hf
      refine g_ald_n (pc := 12) (i := 0) X dX6_plainSigned_12 rfl rfl ?_
      refine g_getR (pc := 13) (k := 7) X dX6_plainSigned_13 cl_X6 rfl rfl (by decide) w_668 ?_
      refine g_ild_n (pc := 16) (i := 1) X dX6_plainSigned_16 rfl rfl ?_
      obtain ⟨hi18, hf⟩ := jin_i hf
      refine g_iald (pc := 17) X dX6_plainSigned_17 rfl hi18 ?_
      refine g_sipush (pc := 18) (v := (128 : Int32)) X dX6_plainSigned_18 (by decide) ?_
      refine g_icmp_ge (pc := 21) 33 X dX6_plainSigned_21 (by decide) (fun h21 => ?_) (fun h21 => ?_)
      · replace hf := jt_i h21 hf
        refine g_ald_n (pc := 33) (i := 0) X dX6_plainSigned_33 rfl rfl ?_
        refine g_getR (pc := 34) (k := 7) X dX6_plainSigned_34 cl_X6 rfl rfl (by decide) w_668 ?_
        refine g_ild_n (pc := 37) (i := 1) X dX6_plainSigned_37 rfl rfl ?_
        obtain ⟨hi19, hf⟩ := jin_i hf
        refine g_iald (pc := 38) X dX6_plainSigned_38 rfl hi19 ?_
        refine g_sipush (pc := 39) (v := (256 : Int32)) X dX6_plainSigned_39 (by decide) ?_
        refine g_isub (pc := 42) X dX6_plainSigned_42 ?_
        exact g_weak (t_X6_plainSigned_43  X (fun _ _ _ h => ih _ _ _ h)  _ _ _ _ hf) (⟨rfl, ⟨rfl, ⟨rfl, trivial⟩⟩⟩)
      · replace hf := jf_i h21 hf
        refine g_ald_n (pc := 24) (i := 0) X dX6_plainSigned_24 rfl rfl ?_
        refine g_getR (pc := 25) (k := 7) X dX6_plainSigned_25 cl_X6 rfl rfl (by decide) w_668 ?_
        refine g_ild_n (pc := 28) (i := 1) X dX6_plainSigned_28 rfl rfl ?_
        obtain ⟨hi20, hf⟩ := jin_i hf
        refine g_iald (pc := 29) X dX6_plainSigned_29 rfl hi20 ?_
        refine g_goto (pc := 30) 43 X dX6_plainSigned_30 (by decide) ?_
        exact g_weak (t_X6_plainSigned_43  X (fun _ _ _ h => ih _ _ _ h)  _ _ _ _ hf) (⟨rfl, ⟨rfl, ⟨rfl, trivial⟩⟩⟩)
set_option maxHeartbeats 4000000 in
theorem M_X6_plainSigned {l : Launch} {Δ : jD} {r : Int32} {μ μ9 : jM}   (hsep : jSep Δ shM) (hf : f_X6_plainSigned  μ = some (r, μ9)) : jMet l yX6_plainSigned cX6_plainSigned 5 (some .boolean) D_X6_plainSigned Δ shM [jr Δ 0] μ (some (.int r), μ9) := by
  refine jMet_of (own := RX6) (L := [some (jr Δ 0), none, none, none, none]) (by decide) rfl (Nat.le_of_ble_eq_true rfl) rfl hsep (fun Γ _ X => ?_)
  unfold f_X6_plainSigned at hf
  refine g_iconst (pc := 0) (v := (0 : Int32)) X dX6_plainSigned_0 (by decide) ?_
  refine g_ist_n (pc := 1) (i := 1) (L1 := [some (jr Δ 0), some (.int (0 : Int32)), none, none, none]) X dX6_plainSigned_1 rfl (Nat.le_of_ble_eq_true rfl) rfl rfl ?_
  refine g_iconst (pc := 2) (v := (0 : Int32)) X dX6_plainSigned_2 (by decide) ?_
  refine g_ist_n (pc := 3) (i := 2) (L1 := [some (jr Δ 0), some (.int (0 : Int32)), some (.int (0 : Int32)), none, none]) X dX6_plainSigned_3 rfl (Nat.le_of_ble_eq_true rfl) rfl rfl ?_
  exact g_weak (t_X6_plainSigned_4  X  jFU _ _ _ hf) (⟨rfl, ⟨rfl, ⟨rfl, trivial⟩⟩⟩)
/-! X6_plain -/
abbrev D_X6_plain : Nat := 2
noncomputable def f_X6_plain_91   (s0 : Int32) (μ : jM) : Option (Int32 × jM) := if s0 = (0 : Int32) then (some ((1 : Int32), μ)) else (some ((0 : Int32), μ))
noncomputable def f_X6_plain_40   : Nat → Int32 → Int32 → jM → Option (Int32 × jM)
  | 0, _, _, _ => none
  | fu + 1, x1, x2, μ => if x1 ≤ x2 then (if (μ.1 0 0) = (0 : Int32) then (jcall (f_X6_plainMarked  μ) (fun (r5 : Int32) (μ5 : jM) => f_X6_plain_91    r5 μ5)) else (if (μ.1 0 0) = (1 : Int32) then (jcall (f_X6_plainSigned  μ) (fun (r3 : Int32) (μ3 : jM) => f_X6_plain_91    r3 μ3)) else (jcall (f_X6_plainRows  μ) (fun (r2 : Int32) (μ2 : jM) => f_X6_plain_91    r2 μ2)))) else (jin x2 400 (jlet (jsI μ 3 (x2).toNatClampNeg (0 : Int32)) (fun μ7 : jM => jlet (x2 + (1 : Int32)) (fun z8 : Int32 => f_X6_plain_40   fu x1 z8 μ7))))
noncomputable def f_X6_plain_24   (x1 : Int32) (s0 : Int32) (μ : jM) : Option (Int32 × jM) := jlet (jsI μ 0 10 s0) (fun μ10 : jM => jlet (jsI μ10 0 11 (0 : Int32)) (fun μ11 : jM => if (0 : Int32) ≤ x1 then (f_X6_plain_40   jFU x1 (0 : Int32) μ11) else (some ((2 : Int32), μ11))))
noncomputable def f_X6_plain (x1 : Int32) (μ : jM) : Option (Int32 × jM) := jlet (jsI μ 0 13 (0 : Int32)) (fun μ13 : jM => if x1 ≤ (400 : Int32) then (if (0 : Int32) ≤ x1 then (f_X6_plain_24    x1 x1 μ13) else (f_X6_plain_24    x1 (0 : Int32) μ13)) else (some ((-1 : Int32), μ13)))
set_option maxHeartbeats 4000000 in
theorem t_X6_plain_91 {Γ : jC} {Δ : jD} {r : Int32} {μ9 : jM}    (X : jOk Γ Δ shM cX6_plain 3 RX6 (some .int) D_X6_plain)  : ∀ (s0 : Int32) (μ : jM), f_X6_plain_91   s0 μ = some (r, μ9) → jG Γ Δ shM (some (.int r), μ9) 91 [none, none, none] [.int s0] μ := by
  intro s0 μ hf
  unfold f_X6_plain_91 at hf
  refine g_ist_n (pc := 91) (i := 2) (L1 := [none, none, some (.int s0)]) X dX6_plain_91 rfl (Nat.le_of_ble_eq_true rfl) rfl rfl ?_
  refine g_ild_n (pc := 92) (i := 2) X dX6_plain_92 rfl rfl ?_
  refine g_if_eq (pc := 93) 100 X dX6_plain_93 (by decide) (fun h1 => ?_) (fun h1 => ?_)
  · replace hf := jt_i h1 hf
    refine g_iconst (pc := 100) (v := (1 : Int32)) X dX6_plain_100 (by decide) ?_
    exact g_iret (pc := 101) X dX6_plain_101 hf
  · replace hf := jf_i h1 hf
    refine g_iconst (pc := 96) (v := (0 : Int32)) X dX6_plain_96 (by decide) ?_
    refine g_goto (pc := 97) 101 X dX6_plain_97 (by decide) ?_
    exact g_iret (pc := 101) X dX6_plain_101 hf
set_option maxHeartbeats 4000000 in
theorem t_X6_plain_40 {Γ : jC} {Δ : jD} {r : Int32} {μ9 : jM}    (X : jOk Γ Δ shM cX6_plain 3 RX6 (some .int) D_X6_plain)  : ∀ (fu : Nat) (x1 : Int32) (x2 : Int32) (μ : jM), f_X6_plain_40   fu x1 x2 μ = some (r, μ9) → jG Γ Δ shM (some (.int r), μ9) 40 [some (jr Δ 0), some (.int x1), some (.int x2)] [] μ := by
  intro fu
  induction fu with
  | zero =>
    intro x1 x2 μ hf
    cases hf
  | succ fu ih =>
    intro x1 x2 μ hf
    replace hf := (f_X6_plain_40.eq_2 _ _ _ _).symm.trans hf
    refine g_ild_n (pc := 40) (i := 2) X dX6_plain_40 rfl rfl ?_
    refine g_ild_n (pc := 41) (i := 1) X dX6_plain_41 rfl rfl ?_
    refine g_icmp_ge (pc := 42) 58 X dX6_plain_42 (by decide) (fun h9 => ?_) (fun h9 => ?_)
    · replace hf := jt_i h9 hf
      refine g_ald_n (pc := 58) (i := 0) X dX6_plain_58 rfl rfl ?_
      refine g_getI (pc := 59) (k := 0) X dX6_plain_59 cl_X6 rfl rfl (by decide) w_661 ?_
      refine g_if_ne (pc := 62) 72 X dX6_plain_62 (by decide) (fun h6 => ?_) (fun h6 => ?_)
      · replace hf := jf_i h6 hf
        refine g_ald_n (pc := 72) (i := 0) X dX6_plain_72 rfl rfl ?_
        refine g_getI (pc := 73) (k := 0) X dX6_plain_73 cl_X6 rfl rfl (by decide) w_661 ?_
        refine g_iconst (pc := 76) (v := (1 : Int32)) X dX6_plain_76 (by decide) ?_
        refine g_icmp_ne (pc := 77) 87 X dX6_plain_77 (by decide) (fun h4 => ?_) (fun h4 => ?_)
        · replace hf := jf_i h4 hf
          refine g_ald_n (pc := 87) (i := 0) X dX6_plain_87 rfl rfl ?_
          obtain ⟨r2, μ2, hc2, hf⟩ := jcall_i hf
          refine g_callVi (pc := 88) [] X dX6_plain_88 (M_X6_plainRows  (jOk_sep X) hc2) Y_X6_plainRows w_929 ws_41 w_931 cl_X6 rfl rfl (by decide) rfl rfl (Nat.le_of_ble_eq_true rfl) rfl ?_
          exact g_weak (t_X6_plain_91  X   _ _ hf) (trivial)
        · replace hf := jt_i h4 hf
          refine g_ald_n (pc := 80) (i := 0) X dX6_plain_80 rfl rfl ?_
          obtain ⟨r3, μ3, hc3, hf⟩ := jcall_i hf
          refine g_callVi (pc := 81) [] X dX6_plain_81 (M_X6_plainSigned  (jOk_sep X) hc3) Y_X6_plainSigned w_925 ws_40 w_927 cl_X6 rfl rfl (by decide) rfl rfl (Nat.le_of_ble_eq_true rfl) rfl ?_
          refine g_goto (pc := 84) 91 X dX6_plain_84 (by decide) ?_
          exact g_weak (t_X6_plain_91  X   _ _ hf) (trivial)
      · replace hf := jt_i h6 hf
        refine g_ald_n (pc := 65) (i := 0) X dX6_plain_65 rfl rfl ?_
        obtain ⟨r5, μ5, hc5, hf⟩ := jcall_i hf
        refine g_callVi (pc := 66) [] X dX6_plain_66 (M_X6_plainMarked  (jOk_sep X) hc5) Y_X6_plainMarked w_917 ws_38 w_919 cl_X6 rfl rfl (by decide) rfl rfl (Nat.le_of_ble_eq_true rfl) rfl ?_
        refine g_goto (pc := 69) 91 X dX6_plain_69 (by decide) ?_
        exact g_weak (t_X6_plain_91  X   _ _ hf) (trivial)
    · replace hf := jf_i h9 hf
      refine g_ald_n (pc := 45) (i := 0) X dX6_plain_45 rfl rfl ?_
      refine g_getR (pc := 46) (k := 9) X dX6_plain_46 cl_X6 rfl rfl (by decide) w_670 ?_
      refine g_ild_n (pc := 49) (i := 2) X dX6_plain_49 rfl rfl ?_
      refine g_iconst (pc := 50) (v := (0 : Int32)) X dX6_plain_50 (by decide) ?_
      obtain ⟨hi7, hf⟩ := jin_i hf
      refine g_iast (pc := 51) X dX6_plain_51 rfl hi7 ?_
      refine g_nmM (fun μ7 eμ7 => ?_)
      replace hf := jlet_i eμ7 hf
      obtain ⟨z8, ez8⟩ : ∃ z : Int32, z = x2 + (1 : Int32) := ⟨_, rfl⟩
      replace hf := jlet_i ez8 hf
      refine g_iinc (pc := 52) (L1 := [some (jr Δ 0), some (.int x1), some (.int z8)]) X dX6_plain_52 rfl (by rw [ez8]; rfl) rfl rfl ?_
      refine g_goto (pc := 55) 40 X dX6_plain_55 (by decide) ?_
      exact g_weak (ih _ _ _ hf) (⟨rfl, ⟨rfl, ⟨rfl, trivial⟩⟩⟩)
set_option maxHeartbeats 4000000 in
theorem t_X6_plain_24 {Γ : jC} {Δ : jD} {r : Int32} {μ9 : jM}    (X : jOk Γ Δ shM cX6_plain 3 RX6 (some .int) D_X6_plain)  : ∀ (x1 : Int32) (s0 : Int32) (μ : jM), f_X6_plain_24   x1 s0 μ = some (r, μ9) → jG Γ Δ shM (some (.int r), μ9) 24 [some (jr Δ 0), some (.int x1), none] [.int s0, jr Δ 0] μ := by
  intro x1 s0 μ hf
  unfold f_X6_plain_24 at hf
  refine g_putI (pc := 24) (k := 10) X dX6_plain_24 cl_X6 rfl rfl (by decide) w_671 rfl rfl rfl ?_
  refine g_nmM (fun μ10 eμ10 => ?_)
  replace hf := jlet_i eμ10 hf
  refine g_ald_n (pc := 27) (i := 0) X dX6_plain_27 rfl rfl ?_
  refine g_iconst (pc := 28) (v := (0 : Int32)) X dX6_plain_28 (by decide) ?_
  refine g_putI (pc := 29) (k := 11) X dX6_plain_29 cl_X6 rfl rfl (by decide) w_672 rfl rfl rfl ?_
  refine g_nmM (fun μ11 eμ11 => ?_)
  replace hf := jlet_i eμ11 hf
  refine g_ild_n (pc := 32) (i := 1) X dX6_plain_32 rfl rfl ?_
  refine g_if_ge (pc := 33) 38 X dX6_plain_33 (by decide) (fun h12 => ?_) (fun h12 => ?_)
  · replace hf := jt_i h12 hf
    refine g_iconst (pc := 38) (v := (0 : Int32)) X dX6_plain_38 (by decide) ?_
    refine g_ist_n (pc := 39) (i := 2) (L1 := [some (jr Δ 0), some (.int x1), some (.int (0 : Int32))]) X dX6_plain_39 rfl (Nat.le_of_ble_eq_true rfl) rfl rfl ?_
    exact g_weak (t_X6_plain_40  X  jFU _ _ _ hf) (⟨rfl, ⟨rfl, ⟨rfl, trivial⟩⟩⟩)
  · replace hf := jf_i h12 hf
    refine g_iconst (pc := 36) (v := (2 : Int32)) X dX6_plain_36 (by decide) ?_
    exact g_iret (pc := 37) X dX6_plain_37 hf
set_option maxHeartbeats 4000000 in
theorem M_X6_plain {l : Launch} {Δ : jD} {r : Int32} {μ μ9 : jM} {x1 : Int32}  (hsep : jSep Δ shM) (hf : f_X6_plain x1 μ = some (r, μ9)) : jMet l yX6_plain cX6_plain 3 (some .int) D_X6_plain Δ shM [jr Δ 0, .int x1] μ (some (.int r), μ9) := by
  refine jMet_of (own := RX6) (L := [some (jr Δ 0), some (.int x1), none]) (by decide) rfl (Nat.le_of_ble_eq_true rfl) rfl hsep (fun Γ _ X => ?_)
  unfold f_X6_plain at hf
  refine g_ald_n (pc := 0) (i := 0) X dX6_plain_0 rfl rfl ?_
  refine g_iconst (pc := 1) (v := (0 : Int32)) X dX6_plain_1 (by decide) ?_
  refine g_putI (pc := 2) (k := 13) X dX6_plain_2 cl_X6 rfl rfl (by decide) w_674 rfl rfl rfl ?_
  refine g_nmM (fun μ13 eμ13 => ?_)
  replace hf := jlet_i eμ13 hf
  refine g_ild_n (pc := 5) (i := 1) X dX6_plain_5 rfl rfl ?_
  refine g_sipush (pc := 6) (v := (400 : Int32)) X dX6_plain_6 (by decide) ?_
  refine g_icmp_le (pc := 9) 14 X dX6_plain_9 (by decide) (fun h15 => ?_) (fun h15 => ?_)
  · replace hf := jt_i h15 hf
    refine g_ald_n (pc := 14) (i := 0) X dX6_plain_14 rfl rfl ?_
    refine g_ild_n (pc := 15) (i := 1) X dX6_plain_15 rfl rfl ?_
    refine g_if_ge (pc := 16) 23 X dX6_plain_16 (by decide) (fun h14 => ?_) (fun h14 => ?_)
    · replace hf := jt_i h14 hf
      refine g_ild_n (pc := 23) (i := 1) X dX6_plain_23 rfl rfl ?_
      exact g_weak (t_X6_plain_24  X   _ _ _ hf) (⟨rfl, ⟨rfl, trivial⟩⟩)
    · replace hf := jf_i h14 hf
      refine g_iconst (pc := 19) (v := (0 : Int32)) X dX6_plain_19 (by decide) ?_
      refine g_goto (pc := 20) 24 X dX6_plain_20 (by decide) ?_
      exact g_weak (t_X6_plain_24  X   _ _ _ hf) (⟨rfl, ⟨rfl, trivial⟩⟩)
  · replace hf := jf_i h15 hf
    refine g_iconst (pc := 12) (v := (-1 : Int32)) X dX6_plain_12 (by decide) ?_
    exact g_iret (pc := 13) X dX6_plain_13 hf
/-! X6_out -/
abbrev D_X6_out : Nat := 1
noncomputable def f_X6_out (x1 : Int32) (μ : jM) : Option (Int32 × jM) := jlet (jsI μ 0 13 (0 : Int32)) (fun μ1 : jM => jcall (f_X6_in x1 (0 : Int32) ((μ1.1 0 10) - (1 : Int32)) μ1) (fun (r2 : Int32) (μ2 : jM) => if r2 = (0 : Int32) then (jlet (jsI μ2 0 13 (1 : Int32)) (fun μ4 : jM => some ((0 : Int32), μ4))) else (jin x1 400 (some (((μ2.1 3 (x1).toNatClampNeg)).toInt8.toInt32, μ2)))))
set_option maxHeartbeats 4000000 in
theorem M_X6_out {l : Launch} {Δ : jD} {r : Int32} {μ μ9 : jM} {x1 : Int32}  (hsep : jSep Δ shM) (hf : f_X6_out x1 μ = some (r, μ9)) : jMet l yX6_out cX6_out 2 (some .int) D_X6_out Δ shM [jr Δ 0, .int x1] μ (some (.int r), μ9) := by
  refine jMet_of (own := RX6) (L := [some (jr Δ 0), some (.int x1)]) (by decide) rfl (Nat.le_of_ble_eq_true rfl) rfl hsep (fun Γ _ X => ?_)
  unfold f_X6_out at hf
  refine g_ald_n (pc := 0) (i := 0) X dX6_out_0 rfl rfl ?_
  refine g_iconst (pc := 1) (v := (0 : Int32)) X dX6_out_1 (by decide) ?_
  refine g_putI (pc := 2) (k := 13) X dX6_out_2 cl_X6 rfl rfl (by decide) w_674 rfl rfl rfl ?_
  refine g_nmM (fun μ1 eμ1 => ?_)
  replace hf := jlet_i eμ1 hf
  refine g_ild_n (pc := 5) (i := 1) X dX6_out_5 rfl rfl ?_
  refine g_iconst (pc := 6) (v := (0 : Int32)) X dX6_out_6 (by decide) ?_
  refine g_ald_n (pc := 7) (i := 0) X dX6_out_7 rfl rfl ?_
  refine g_getI (pc := 8) (k := 10) X dX6_out_8 cl_X6 rfl rfl (by decide) w_671 ?_
  refine g_iconst (pc := 11) (v := (1 : Int32)) X dX6_out_11 (by decide) ?_
  refine g_isub (pc := 12) X dX6_out_12 ?_
  obtain ⟨r2, μ2, hc2, hf⟩ := jcall_i hf
  refine g_callSi (pc := 13) [.int x1, .int (0 : Int32), .int ((μ1.1 0 10) - (1 : Int32))] X dX6_out_13 (M_X6_in  (jOk_sep X) hc2) Y_X6_in w_658 w_659 (by decide) rfl rfl (Nat.le_of_ble_eq_true rfl) rfl ?_
  refine g_if_ne (pc := 16) 26 X dX6_out_16 (by decide) (fun h5 => ?_) (fun h5 => ?_)
  · replace hf := jf_i h5 hf
    refine g_ald_n (pc := 26) (i := 0) X dX6_out_26 rfl rfl ?_
    refine g_getR (pc := 27) (k := 9) X dX6_out_27 cl_X6 rfl rfl (by decide) w_670 ?_
    refine g_ild_n (pc := 30) (i := 1) X dX6_out_30 rfl rfl ?_
    obtain ⟨hi3, hf⟩ := jin_i hf
    refine g_iald (pc := 31) X dX6_out_31 rfl hi3 ?_
    refine g_i2b (pc := 32) X dX6_out_32 ?_
    exact g_iret (pc := 33) X dX6_out_33 hf
  · replace hf := jt_i h5 hf
    refine g_ald_n (pc := 19) (i := 0) X dX6_out_19 rfl rfl ?_
    refine g_iconst (pc := 20) (v := (1 : Int32)) X dX6_out_20 (by decide) ?_
    refine g_putI (pc := 21) (k := 13) X dX6_out_21 cl_X6 rfl rfl (by decide) w_674 rfl rfl rfl ?_
    refine g_nmM (fun μ4 eμ4 => ?_)
    replace hf := jlet_i eμ4 hf
    refine g_iconst (pc := 24) (v := (0 : Int32)) X dX6_out_24 (by decide) ?_
    exact g_iret (pc := 25) X dX6_out_25 hf
/-! X6_at -/
abbrev D_X6_at : Nat := 1
noncomputable def f_X6_at_39    (μ : jM) : Option (Int32 × jM) := some ((-1 : Int32), μ)
noncomputable def f_X6_at_31   (x1 : Int32) (x2 : Int32) (s0 : Int32) (s1 : Int32) (s2 : Int32) (μ : jM) : Option (Int32 × jM) := jcall (f_X6_in s2 s1 (s0 - (1 : Int32)) μ) (fun (r1 : Int32) (μ1 : jM) => if r1 = (0 : Int32) then (f_X6_at_39     μ1) else (if x1 = (0 : Int32) then (jin x2 240 (some ((μ1.1 1 (x2).toNatClampNeg), μ1))) else (jin x2 1000 (some ((μ1.1 2 (x2).toNatClampNeg), μ1)))))
noncomputable def f_X6_at (x1 : Int32) (x2 : Int32) (μ : jM) : Option (Int32 × jM) := jlet (jsI μ 0 13 (0 : Int32)) (fun μ6 : jM => jcall (f_X6_in x1 (0 : Int32) (1 : Int32) μ6) (fun (r7 : Int32) (μ7 : jM) => if r7 = (0 : Int32) then (f_X6_at_39     μ7) else (if x1 = (0 : Int32) then (f_X6_at_31    x1 x2 (μ7.1 0 6) (0 : Int32) x2 μ7) else (f_X6_at_31    x1 x2 (μ7.1 0 8) (0 : Int32) x2 μ7))))
set_option maxHeartbeats 4000000 in
theorem t_X6_at_39 {Γ : jC} {Δ : jD} {r : Int32} {μ9 : jM}    (X : jOk Γ Δ shM cX6_at 3 RX6 (some .int) D_X6_at)  : ∀ (μ : jM), f_X6_at_39    μ = some (r, μ9) → jG Γ Δ shM (some (.int r), μ9) 39 [none, none, none] [] μ := by
  intro  μ hf
  unfold f_X6_at_39 at hf
  refine g_iconst (pc := 39) (v := (-1 : Int32)) X dX6_at_39 (by decide) ?_
  exact g_iret (pc := 40) X dX6_at_40 hf
set_option maxHeartbeats 4000000 in
theorem t_X6_at_31 {Γ : jC} {Δ : jD} {r : Int32} {μ9 : jM}    (X : jOk Γ Δ shM cX6_at 3 RX6 (some .int) D_X6_at)  : ∀ (x1 : Int32) (x2 : Int32) (s0 : Int32) (s1 : Int32) (s2 : Int32) (μ : jM), f_X6_at_31   x1 x2 s0 s1 s2 μ = some (r, μ9) → jG Γ Δ shM (some (.int r), μ9) 31 [some (jr Δ 0), some (.int x1), some (.int x2)] [.int s0, .int s1, .int s2] μ := by
  intro x1 x2 s0 s1 s2 μ hf
  unfold f_X6_at_31 at hf
  refine g_iconst (pc := 31) (v := (1 : Int32)) X dX6_at_31 (by decide) ?_
  refine g_isub (pc := 32) X dX6_at_32 ?_
  obtain ⟨r1, μ1, hc1, hf⟩ := jcall_i hf
  refine g_callSi (pc := 33) [.int s2, .int s1, .int (s0 - (1 : Int32))] X dX6_at_33 (M_X6_in  (jOk_sep X) hc1) Y_X6_in w_658 w_659 (by decide) rfl rfl (Nat.le_of_ble_eq_true rfl) rfl ?_
  refine g_if_ne (pc := 36) 41 X dX6_at_36 (by decide) (fun h5 => ?_) (fun h5 => ?_)
  · replace hf := jf_i h5 hf
    refine g_ild_n (pc := 41) (i := 1) X dX6_at_41 rfl rfl ?_
    refine g_if_ne (pc := 42) 54 X dX6_at_42 (by decide) (fun h4 => ?_) (fun h4 => ?_)
    · replace hf := jf_i h4 hf
      refine g_ald_n (pc := 54) (i := 0) X dX6_at_54 rfl rfl ?_
      refine g_getR (pc := 55) (k := 7) X dX6_at_55 cl_X6 rfl rfl (by decide) w_668 ?_
      refine g_ild_n (pc := 58) (i := 2) X dX6_at_58 rfl rfl ?_
      obtain ⟨hi2, hf⟩ := jin_i hf
      refine g_iald (pc := 59) X dX6_at_59 rfl hi2 ?_
      exact g_iret (pc := 60) X dX6_at_60 hf
    · replace hf := jt_i h4 hf
      refine g_ald_n (pc := 45) (i := 0) X dX6_at_45 rfl rfl ?_
      refine g_getR (pc := 46) (k := 5) X dX6_at_46 cl_X6 rfl rfl (by decide) w_666 ?_
      refine g_ild_n (pc := 49) (i := 2) X dX6_at_49 rfl rfl ?_
      obtain ⟨hi3, hf⟩ := jin_i hf
      refine g_iald (pc := 50) X dX6_at_50 rfl hi3 ?_
      refine g_goto (pc := 51) 60 X dX6_at_51 (by decide) ?_
      exact g_iret (pc := 60) X dX6_at_60 hf
  · replace hf := jt_i h5 hf
    exact g_weak (t_X6_at_39  X    _ hf) (trivial)
set_option maxHeartbeats 4000000 in
theorem M_X6_at {l : Launch} {Δ : jD} {r : Int32} {μ μ9 : jM} {x1 : Int32} {x2 : Int32}  (hsep : jSep Δ shM) (hf : f_X6_at x1 x2 μ = some (r, μ9)) : jMet l yX6_at cX6_at 3 (some .int) D_X6_at Δ shM [jr Δ 0, .int x1, .int x2] μ (some (.int r), μ9) := by
  refine jMet_of (own := RX6) (L := [some (jr Δ 0), some (.int x1), some (.int x2)]) (by decide) rfl (Nat.le_of_ble_eq_true rfl) rfl hsep (fun Γ _ X => ?_)
  unfold f_X6_at at hf
  refine g_ald_n (pc := 0) (i := 0) X dX6_at_0 rfl rfl ?_
  refine g_iconst (pc := 1) (v := (0 : Int32)) X dX6_at_1 (by decide) ?_
  refine g_putI (pc := 2) (k := 13) X dX6_at_2 cl_X6 rfl rfl (by decide) w_674 rfl rfl rfl ?_
  refine g_nmM (fun μ6 eμ6 => ?_)
  replace hf := jlet_i eμ6 hf
  refine g_ild_n (pc := 5) (i := 1) X dX6_at_5 rfl rfl ?_
  refine g_iconst (pc := 6) (v := (0 : Int32)) X dX6_at_6 (by decide) ?_
  refine g_iconst (pc := 7) (v := (1 : Int32)) X dX6_at_7 (by decide) ?_
  obtain ⟨r7, μ7, hc7, hf⟩ := jcall_i hf
  refine g_callSi (pc := 8) [.int x1, .int (0 : Int32), .int (1 : Int32)] X dX6_at_8 (M_X6_in  (jOk_sep X) hc7) Y_X6_in w_658 w_659 (by decide) rfl rfl (Nat.le_of_ble_eq_true rfl) rfl ?_
  refine g_if_eq (pc := 11) 39 X dX6_at_11 (by decide) (fun h9 => ?_) (fun h9 => ?_)
  · replace hf := jt_i h9 hf
    exact g_weak (t_X6_at_39  X    _ hf) (trivial)
  · replace hf := jf_i h9 hf
    refine g_ild_n (pc := 14) (i := 2) X dX6_at_14 rfl rfl ?_
    refine g_iconst (pc := 15) (v := (0 : Int32)) X dX6_at_15 (by decide) ?_
    refine g_ild_n (pc := 16) (i := 1) X dX6_at_16 rfl rfl ?_
    refine g_if_ne (pc := 17) 27 X dX6_at_17 (by decide) (fun h8 => ?_) (fun h8 => ?_)
    · replace hf := jf_i h8 hf
      refine g_ald_n (pc := 27) (i := 0) X dX6_at_27 rfl rfl ?_
      refine g_getI (pc := 28) (k := 8) X dX6_at_28 cl_X6 rfl rfl (by decide) w_669 ?_
      exact g_weak (t_X6_at_31  X   _ _ _ _ _ _ hf) (⟨rfl, ⟨rfl, ⟨rfl, trivial⟩⟩⟩)
    · replace hf := jt_i h8 hf
      refine g_ald_n (pc := 20) (i := 0) X dX6_at_20 rfl rfl ?_
      refine g_getI (pc := 21) (k := 6) X dX6_at_21 cl_X6 rfl rfl (by decide) w_667 ?_
      refine g_goto (pc := 24) 31 X dX6_at_24 (by decide) ?_
      exact g_weak (t_X6_at_31  X   _ _ _ _ _ _ hf) (⟨rfl, ⟨rfl, ⟨rfl, trivial⟩⟩⟩)
/-! X6_unit -/
abbrev D_X6_unit : Nat := 1
noncomputable def f_X6_unit (x1 : Int32) (μ : jM) : Option (Int64 × jM) := jlet (jsI μ 0 13 (0 : Int32)) (fun μ1 : jM => jnz (μ1.1 0 1) (jcall (f_X6_in x1 (0 : Int32) (((μ1.1 0 6) / (μ1.1 0 1)) - (1 : Int32)) μ1) (fun (r3 : Int32) (μ3 : jM) => if r3 = (0 : Int32) then (some ((-1 : Int64), μ3)) else (jcall (f_X6_unitOf x1 μ3) (fun (r4 : Int64) (μ4 : jM) => some (r4, μ4))))))
set_option maxHeartbeats 4000000 in
theorem M_X6_unit {l : Launch} {Δ : jD} {r : Int64} {μ μ9 : jM} {x1 : Int32}  (hsep : jSep Δ shM) (hf : f_X6_unit x1 μ = some (r, μ9)) : jMet l yX6_unit cX6_unit 2 (some .long) D_X6_unit Δ shM [jr Δ 0, .int x1] μ (some (.long r), μ9) := by
  refine jMet_of (own := RX6) (L := [some (jr Δ 0), some (.int x1)]) (by decide) rfl (Nat.le_of_ble_eq_true rfl) rfl hsep (fun Γ _ X => ?_)
  unfold f_X6_unit at hf
  refine g_ald_n (pc := 0) (i := 0) X dX6_unit_0 rfl rfl ?_
  refine g_iconst (pc := 1) (v := (0 : Int32)) X dX6_unit_1 (by decide) ?_
  refine g_putI (pc := 2) (k := 13) X dX6_unit_2 cl_X6 rfl rfl (by decide) w_674 rfl rfl rfl ?_
  refine g_nmM (fun μ1 eμ1 => ?_)
  replace hf := jlet_i eμ1 hf
  refine g_ild_n (pc := 5) (i := 1) X dX6_unit_5 rfl rfl ?_
  refine g_iconst (pc := 6) (v := (0 : Int32)) X dX6_unit_6 (by decide) ?_
  refine g_ald_n (pc := 7) (i := 0) X dX6_unit_7 rfl rfl ?_
  refine g_getI (pc := 8) (k := 6) X dX6_unit_8 cl_X6 rfl rfl (by decide) w_667 ?_
  refine g_ald_n (pc := 11) (i := 0) X dX6_unit_11 rfl rfl ?_
  refine g_getI (pc := 12) (k := 1) X dX6_unit_12 cl_X6 rfl rfl (by decide) w_662 ?_
  obtain ⟨hz2, hf⟩ := jnz_i hf
  refine g_idiv (pc := 15) X dX6_unit_15 hz2 ?_
  refine g_iconst (pc := 16) (v := (1 : Int32)) X dX6_unit_16 (by decide) ?_
  refine g_isub (pc := 17) X dX6_unit_17 ?_
  obtain ⟨r3, μ3, hc3, hf⟩ := jcall_i hf
  refine g_callSi (pc := 18) [.int x1, .int (0 : Int32), .int (((μ1.1 0 6) / (μ1.1 0 1)) - (1 : Int32))] X dX6_unit_18 (M_X6_in  (jOk_sep X) hc3) Y_X6_in w_658 w_659 (by decide) rfl rfl (Nat.le_of_ble_eq_true rfl) rfl ?_
  refine g_if_eq (pc := 21) 32 X dX6_unit_21 (by decide) (fun h5 => ?_) (fun h5 => ?_)
  · replace hf := jt_i h5 hf
    refine g_ldc2 (pc := 32) X dX6_unit_32 w_945 ?_
    exact g_lret (pc := 35) X dX6_unit_35 hf
  · replace hf := jf_i h5 hf
    refine g_ald_n (pc := 24) (i := 0) X dX6_unit_24 rfl rfl ?_
    refine g_ild_n (pc := 25) (i := 1) X dX6_unit_25 rfl rfl ?_
    obtain ⟨r4, μ4, hc4, hf⟩ := jcall_i hf
    refine g_callVl (pc := 26) [.int x1] X dX6_unit_26 (M_X6_unitOf  (jOk_sep X) hc4) Y_X6_unitOf w_782 ws_8 w_784 cl_X6 rfl rfl (by decide) rfl rfl (Nat.le_of_ble_eq_true rfl) rfl ?_
    refine g_goto (pc := 29) 35 X dX6_unit_29 (by decide) ?_
    exact g_lret (pc := 35) X dX6_unit_35 hf
/-! X6_bound -/
abbrev D_X6_bound : Nat := 1
noncomputable def f_X6_bound_112   (x1 : Int32) (s0 : Int32) (μ : jM) : Option (Int32 × jM) := jnz (μ.1 0 2) (some (((2 : Int32) + ((x1 / (μ.1 0 2)) * ((2 : Int32) + s0))), μ))
noncomputable def f_X6_bound_106   (x1 : Int32) (μ : jM) : Option (Int32 × jM) := f_X6_bound_112    x1 ((2 : Int32) * (μ.1 0 2)) μ
noncomputable def f_X6_bound_24    (μ : jM) : Option (Int32 × jM) := some ((-1 : Int32), μ)
noncomputable def f_X6_bound (x1 : Int32) (μ : jM) : Option (Int32 × jM) := jlet (jsI μ 0 13 (0 : Int32)) (fun μ2 : jM => jcall (f_X6_in x1 (0 : Int32) (240 : Int32) μ2) (fun (r3 : Int32) (μ3 : jM) => if r3 = (0 : Int32) then (f_X6_bound_24     μ3) else (jcall (f_X6_isWhole x1 μ3) (fun (r4 : Int32) (μ4 : jM) => if r4 = (0 : Int32) then (f_X6_bound_24     μ4) else (if (μ4.1 0 0) = (0 : Int32) then (jnz (μ4.1 0 1) (some (((x1 + (2 : Int32)) + ((2 : Int32) * (x1 / (μ4.1 0 1)))), μ4))) else (if (μ4.1 0 0) = (1 : Int32) then (jnz (μ4.1 0 1) (jnz (128 : Int32) (some ((x1 + (((x1 / (μ4.1 0 1)) + (127 : Int32)) / (128 : Int32))), μ4)))) else (jnz (2 : Int32) (jlet (((μ4.1 0 2) + (2 : Int32)) + ((μ4.1 0 2) - (μ4.1 0 2) / (2 : Int32) * (2 : Int32))) (fun z6 : Int32 => if (μ4.1 0 2) ≤ (2 : Int32) then (f_X6_bound_106    x1 μ4) else (if ((2 : Int32) * (μ4.1 0 2)) ≤ z6 then (f_X6_bound_106    x1 μ4) else (f_X6_bound_112    x1 z6 μ4)))))))))))
set_option maxHeartbeats 4000000 in
theorem t_X6_bound_112 {Γ : jC} {Δ : jD} {r : Int32} {μ9 : jM}    (X : jOk Γ Δ shM cX6_bound 4 RX6 (some .int) D_X6_bound)  : ∀ (x1 : Int32) (s0 : Int32) (μ : jM), f_X6_bound_112   x1 s0 μ = some (r, μ9) → jG Γ Δ shM (some (.int r), μ9) 112 [some (jr Δ 0), some (.int x1), none, none] [.int s0] μ := by
  intro x1 s0 μ hf
  unfold f_X6_bound_112 at hf
  refine g_ist_n (pc := 112) (i := 3) (L1 := [some (jr Δ 0), some (.int x1), none, some (.int s0)]) X dX6_bound_112 rfl (Nat.le_of_ble_eq_true rfl) rfl rfl ?_
  refine g_iconst (pc := 113) (v := (2 : Int32)) X dX6_bound_113 (by decide) ?_
  refine g_ild_n (pc := 114) (i := 1) X dX6_bound_114 rfl rfl ?_
  refine g_ald_n (pc := 115) (i := 0) X dX6_bound_115 rfl rfl ?_
  refine g_getI (pc := 116) (k := 2) X dX6_bound_116 cl_X6 rfl rfl (by decide) w_663 ?_
  obtain ⟨hz1, hf⟩ := jnz_i hf
  refine g_idiv (pc := 119) X dX6_bound_119 hz1 ?_
  refine g_iconst (pc := 120) (v := (2 : Int32)) X dX6_bound_120 (by decide) ?_
  refine g_ild_n (pc := 121) (i := 3) X dX6_bound_121 rfl rfl ?_
  refine g_iadd (pc := 122) X dX6_bound_122 ?_
  refine g_imul (pc := 123) X dX6_bound_123 ?_
  refine g_iadd (pc := 124) X dX6_bound_124 ?_
  exact g_iret (pc := 125) X dX6_bound_125 hf
set_option maxHeartbeats 4000000 in
theorem t_X6_bound_106 {Γ : jC} {Δ : jD} {r : Int32} {μ9 : jM}    (X : jOk Γ Δ shM cX6_bound 4 RX6 (some .int) D_X6_bound)  : ∀ (x1 : Int32) (μ : jM), f_X6_bound_106   x1 μ = some (r, μ9) → jG Γ Δ shM (some (.int r), μ9) 106 [some (jr Δ 0), some (.int x1), none, none] [] μ := by
  intro x1 μ hf
  unfold f_X6_bound_106 at hf
  refine g_iconst (pc := 106) (v := (2 : Int32)) X dX6_bound_106 (by decide) ?_
  refine g_ald_n (pc := 107) (i := 0) X dX6_bound_107 rfl rfl ?_
  refine g_getI (pc := 108) (k := 2) X dX6_bound_108 cl_X6 rfl rfl (by decide) w_663 ?_
  refine g_imul (pc := 111) X dX6_bound_111 ?_
  exact g_weak (t_X6_bound_112  X   _ _ _ hf) (⟨rfl, ⟨rfl, trivial⟩⟩)
set_option maxHeartbeats 4000000 in
theorem t_X6_bound_24 {Γ : jC} {Δ : jD} {r : Int32} {μ9 : jM}    (X : jOk Γ Δ shM cX6_bound 4 RX6 (some .int) D_X6_bound)  : ∀ (μ : jM), f_X6_bound_24    μ = some (r, μ9) → jG Γ Δ shM (some (.int r), μ9) 24 [none, none, none, none] [] μ := by
  intro  μ hf
  unfold f_X6_bound_24 at hf
  refine g_iconst (pc := 24) (v := (-1 : Int32)) X dX6_bound_24 (by decide) ?_
  exact g_iret (pc := 25) X dX6_bound_25 hf
set_option maxHeartbeats 4000000 in
theorem M_X6_bound {l : Launch} {Δ : jD} {r : Int32} {μ μ9 : jM} {x1 : Int32}  (hsep : jSep Δ shM) (hf : f_X6_bound x1 μ = some (r, μ9)) : jMet l yX6_bound cX6_bound 4 (some .int) D_X6_bound Δ shM [jr Δ 0, .int x1] μ (some (.int r), μ9) := by
  refine jMet_of (own := RX6) (L := [some (jr Δ 0), some (.int x1), none, none]) (by decide) rfl (Nat.le_of_ble_eq_true rfl) rfl hsep (fun Γ _ X => ?_)
  unfold f_X6_bound at hf
  refine g_ald_n (pc := 0) (i := 0) X dX6_bound_0 rfl rfl ?_
  refine g_iconst (pc := 1) (v := (0 : Int32)) X dX6_bound_1 (by decide) ?_
  refine g_putI (pc := 2) (k := 13) X dX6_bound_2 cl_X6 rfl rfl (by decide) w_674 rfl rfl rfl ?_
  refine g_nmM (fun μ2 eμ2 => ?_)
  replace hf := jlet_i eμ2 hf
  refine g_ild_n (pc := 5) (i := 1) X dX6_bound_5 rfl rfl ?_
  refine g_iconst (pc := 6) (v := (0 : Int32)) X dX6_bound_6 (by decide) ?_
  refine g_sipush (pc := 7) (v := (240 : Int32)) X dX6_bound_7 (by decide) ?_
  obtain ⟨r3, μ3, hc3, hf⟩ := jcall_i hf
  refine g_callSi (pc := 10) [.int x1, .int (0 : Int32), .int (240 : Int32)] X dX6_bound_10 (M_X6_in  (jOk_sep X) hc3) Y_X6_in w_658 w_659 (by decide) rfl rfl (Nat.le_of_ble_eq_true rfl) rfl ?_
  refine g_if_eq (pc := 13) 24 X dX6_bound_13 (by decide) (fun h15 => ?_) (fun h15 => ?_)
  · replace hf := jt_i h15 hf
    exact g_weak (t_X6_bound_24  X    _ hf) (trivial)
  · replace hf := jf_i h15 hf
    refine g_ald_n (pc := 16) (i := 0) X dX6_bound_16 rfl rfl ?_
    refine g_ild_n (pc := 17) (i := 1) X dX6_bound_17 rfl rfl ?_
    obtain ⟨r4, μ4, hc4, hf⟩ := jcall_i hf
    refine g_callVi (pc := 18) [.int x1] X dX6_bound_18 (M_X6_isWhole  (jOk_sep X) hc4) Y_X6_isWhole w_770 ws_5 w_772 cl_X6 rfl rfl (by decide) rfl rfl (Nat.le_of_ble_eq_true rfl) rfl ?_
    refine g_if_ne (pc := 21) 26 X dX6_bound_21 (by decide) (fun h14 => ?_) (fun h14 => ?_)
    · replace hf := jf_i h14 hf
      refine g_ald_n (pc := 26) (i := 0) X dX6_bound_26 rfl rfl ?_
      refine g_getI (pc := 27) (k := 0) X dX6_bound_27 cl_X6 rfl rfl (by decide) w_661 ?_
      refine g_if_ne (pc := 30) 46 X dX6_bound_30 (by decide) (fun h13 => ?_) (fun h13 => ?_)
      · replace hf := jf_i h13 hf
        refine g_ald_n (pc := 46) (i := 0) X dX6_bound_46 rfl rfl ?_
        refine g_getI (pc := 47) (k := 0) X dX6_bound_47 cl_X6 rfl rfl (by decide) w_661 ?_
        refine g_iconst (pc := 50) (v := (1 : Int32)) X dX6_bound_50 (by decide) ?_
        refine g_icmp_ne (pc := 51) 70 X dX6_bound_51 (by decide) (fun h11 => ?_) (fun h11 => ?_)
        · replace hf := jf_i h11 hf
          refine g_ald_n (pc := 70) (i := 0) X dX6_bound_70 rfl rfl ?_
          refine g_getI (pc := 71) (k := 2) X dX6_bound_71 cl_X6 rfl rfl (by decide) w_663 ?_
          refine g_iconst (pc := 74) (v := (2 : Int32)) X dX6_bound_74 (by decide) ?_
          refine g_iadd (pc := 75) X dX6_bound_75 ?_
          refine g_ald_n (pc := 76) (i := 0) X dX6_bound_76 rfl rfl ?_
          refine g_getI (pc := 77) (k := 2) X dX6_bound_77 cl_X6 rfl rfl (by decide) w_663 ?_
          refine g_iconst (pc := 80) (v := (2 : Int32)) X dX6_bound_80 (by decide) ?_
          obtain ⟨hz5, hf⟩ := jnz_i hf
          refine g_irem (pc := 81) X dX6_bound_81 hz5 ?_
          refine g_iadd (pc := 82) X dX6_bound_82 ?_
          refine g_nmI (fun z6 ez6 => ?_)
          replace hf := jlet_i ez6 hf
          refine g_ist_n (pc := 83) (i := 2) (L1 := [some (jr Δ 0), some (.int x1), some (.int z6), none]) X dX6_bound_83 rfl (Nat.le_of_ble_eq_true rfl) rfl rfl ?_
          refine g_ald_n (pc := 84) (i := 0) X dX6_bound_84 rfl rfl ?_
          refine g_getI (pc := 85) (k := 2) X dX6_bound_85 cl_X6 rfl rfl (by decide) w_663 ?_
          refine g_iconst (pc := 88) (v := (2 : Int32)) X dX6_bound_88 (by decide) ?_
          refine g_icmp_le (pc := 89) 106 X dX6_bound_89 (by decide) (fun h8 => ?_) (fun h8 => ?_)
          · replace hf := jt_i h8 hf
            exact g_weak (t_X6_bound_106  X   _ _ hf) (⟨rfl, ⟨rfl, trivial⟩⟩)
          · replace hf := jf_i h8 hf
            refine g_ild_n (pc := 92) (i := 2) X dX6_bound_92 rfl rfl ?_
            refine g_iconst (pc := 93) (v := (2 : Int32)) X dX6_bound_93 (by decide) ?_
            refine g_ald_n (pc := 94) (i := 0) X dX6_bound_94 rfl rfl ?_
            refine g_getI (pc := 95) (k := 2) X dX6_bound_95 cl_X6 rfl rfl (by decide) w_663 ?_
            refine g_imul (pc := 98) X dX6_bound_98 ?_
            refine g_icmp_ge (pc := 99) 106 X dX6_bound_99 (by decide) (fun h7 => ?_) (fun h7 => ?_)
            · replace hf := jt_i h7 hf
              exact g_weak (t_X6_bound_106  X   _ _ hf) (⟨rfl, ⟨rfl, trivial⟩⟩)
            · replace hf := jf_i h7 hf
              refine g_ild_n (pc := 102) (i := 2) X dX6_bound_102 rfl rfl ?_
              refine g_goto (pc := 103) 112 X dX6_bound_103 (by decide) ?_
              exact g_weak (t_X6_bound_112  X   _ _ _ hf) (⟨rfl, ⟨rfl, trivial⟩⟩)
        · replace hf := jt_i h11 hf
          refine g_ild_n (pc := 54) (i := 1) X dX6_bound_54 rfl rfl ?_
          refine g_ild_n (pc := 55) (i := 1) X dX6_bound_55 rfl rfl ?_
          refine g_ald_n (pc := 56) (i := 0) X dX6_bound_56 rfl rfl ?_
          refine g_getI (pc := 57) (k := 1) X dX6_bound_57 cl_X6 rfl rfl (by decide) w_662 ?_
          obtain ⟨hz9, hf⟩ := jnz_i hf
          refine g_idiv (pc := 60) X dX6_bound_60 hz9 ?_
          refine g_bipush (pc := 61) (v := (127 : Int32)) X dX6_bound_61 (by decide) ?_
          refine g_iadd (pc := 63) X dX6_bound_63 ?_
          refine g_sipush (pc := 64) (v := (128 : Int32)) X dX6_bound_64 (by decide) ?_
          obtain ⟨hz10, hf⟩ := jnz_i hf
          refine g_idiv (pc := 67) X dX6_bound_67 hz10 ?_
          refine g_iadd (pc := 68) X dX6_bound_68 ?_
          exact g_iret (pc := 69) X dX6_bound_69 hf
      · replace hf := jt_i h13 hf
        refine g_ild_n (pc := 33) (i := 1) X dX6_bound_33 rfl rfl ?_
        refine g_iconst (pc := 34) (v := (2 : Int32)) X dX6_bound_34 (by decide) ?_
        refine g_iadd (pc := 35) X dX6_bound_35 ?_
        refine g_iconst (pc := 36) (v := (2 : Int32)) X dX6_bound_36 (by decide) ?_
        refine g_ild_n (pc := 37) (i := 1) X dX6_bound_37 rfl rfl ?_
        refine g_ald_n (pc := 38) (i := 0) X dX6_bound_38 rfl rfl ?_
        refine g_getI (pc := 39) (k := 1) X dX6_bound_39 cl_X6 rfl rfl (by decide) w_662 ?_
        obtain ⟨hz12, hf⟩ := jnz_i hf
        refine g_idiv (pc := 42) X dX6_bound_42 hz12 ?_
        refine g_imul (pc := 43) X dX6_bound_43 ?_
        refine g_iadd (pc := 44) X dX6_bound_44 ?_
        exact g_iret (pc := 45) X dX6_bound_45 hf
    · replace hf := jt_i h14 hf
      exact g_weak (t_X6_bound_24  X    _ hf) (trivial)
/-! X6_told -/
abbrev D_X6_told : Nat := 0
noncomputable def f_X6_told (x1 : Int32) (μ : jM) : Option (Int32 × jM) := jlet (jsI μ 0 13 (0 : Int32)) (fun μ1 : jM => if x1 = (0 : Int32) then (some ((μ1.1 0 0), μ1)) else (if x1 = (1 : Int32) then (some ((μ1.1 0 6), μ1)) else (if x1 = (2 : Int32) then (some ((μ1.1 0 8), μ1)) else (if x1 = (3 : Int32) then (some ((μ1.1 0 10), μ1)) else (if x1 = (4 : Int32) then (some ((μ1.1 0 11), μ1)) else (some ((-1 : Int32), μ1)))))))
set_option maxHeartbeats 4000000 in
theorem M_X6_told {l : Launch} {Δ : jD} {r : Int32} {μ μ9 : jM} {x1 : Int32}  (hsep : jSep Δ shM) (hf : f_X6_told x1 μ = some (r, μ9)) : jMet l yX6_told cX6_told 2 (some .int) D_X6_told Δ shM [jr Δ 0, .int x1] μ (some (.int r), μ9) := by
  refine jMet_of (own := RX6) (L := [some (jr Δ 0), some (.int x1)]) (by decide) rfl (Nat.le_of_ble_eq_true rfl) rfl hsep (fun Γ _ X => ?_)
  unfold f_X6_told at hf
  refine g_ald_n (pc := 0) (i := 0) X dX6_told_0 rfl rfl ?_
  refine g_iconst (pc := 1) (v := (0 : Int32)) X dX6_told_1 (by decide) ?_
  refine g_putI (pc := 2) (k := 13) X dX6_told_2 cl_X6 rfl rfl (by decide) w_674 rfl rfl rfl ?_
  refine g_nmM (fun μ1 eμ1 => ?_)
  replace hf := jlet_i eμ1 hf
  refine g_ild_n (pc := 5) (i := 1) X dX6_told_5 rfl rfl ?_
  by_cases h2 : x1 = (0 : Int32)
  · replace hf := jt_i h2 hf
    refine g_tblIn (pc := 6) 40 X dX6_told_6 (by rw [h2]; decide) (by rw [h2]; decide) (by rw [h2]; rfl) (by decide) ?_
    refine g_ald_n (pc := 40) (i := 0) X dX6_told_40 rfl rfl ?_
    refine g_getI (pc := 41) (k := 0) X dX6_told_41 cl_X6 rfl rfl (by decide) w_661 ?_
    exact g_iret (pc := 44) X dX6_told_44 hf
  replace hf := jf_i h2 hf
  by_cases h3 : x1 = (1 : Int32)
  · replace hf := jt_i h3 hf
    refine g_tblIn (pc := 6) 45 X dX6_told_6 (by rw [h3]; decide) (by rw [h3]; decide) (by rw [h3]; rfl) (by decide) ?_
    refine g_ald_n (pc := 45) (i := 0) X dX6_told_45 rfl rfl ?_
    refine g_getI (pc := 46) (k := 6) X dX6_told_46 cl_X6 rfl rfl (by decide) w_667 ?_
    exact g_iret (pc := 49) X dX6_told_49 hf
  replace hf := jf_i h3 hf
  by_cases h4 : x1 = (2 : Int32)
  · replace hf := jt_i h4 hf
    refine g_tblIn (pc := 6) 50 X dX6_told_6 (by rw [h4]; decide) (by rw [h4]; decide) (by rw [h4]; rfl) (by decide) ?_
    refine g_ald_n (pc := 50) (i := 0) X dX6_told_50 rfl rfl ?_
    refine g_getI (pc := 51) (k := 8) X dX6_told_51 cl_X6 rfl rfl (by decide) w_669 ?_
    exact g_iret (pc := 54) X dX6_told_54 hf
  replace hf := jf_i h4 hf
  by_cases h5 : x1 = (3 : Int32)
  · replace hf := jt_i h5 hf
    refine g_tblIn (pc := 6) 55 X dX6_told_6 (by rw [h5]; decide) (by rw [h5]; decide) (by rw [h5]; rfl) (by decide) ?_
    refine g_ald_n (pc := 55) (i := 0) X dX6_told_55 rfl rfl ?_
    refine g_getI (pc := 56) (k := 10) X dX6_told_56 cl_X6 rfl rfl (by decide) w_671 ?_
    exact g_iret (pc := 59) X dX6_told_59 hf
  replace hf := jf_i h5 hf
  by_cases h6 : x1 = (4 : Int32)
  · replace hf := jt_i h6 hf
    refine g_tblIn (pc := 6) 60 X dX6_told_6 (by rw [h6]; decide) (by rw [h6]; decide) (by rw [h6]; rfl) (by decide) ?_
    refine g_ald_n (pc := 60) (i := 0) X dX6_told_60 rfl rfl ?_
    refine g_getI (pc := 61) (k := 11) X dX6_told_61 cl_X6 rfl rfl (by decide) w_672 ?_
    exact g_iret (pc := 64) X dX6_told_64 hf
  replace hf := jf_i h6 hf
  refine g_tblOut (pc := 6) 65 X dX6_told_6 (by have yh2 := lv_neT (a := 0) h2 rfl; have yh3 := lv_neT (a := 1) h3 rfl; have yh4 := lv_neT (a := 2) h4 rfl; have yh5 := lv_neT (a := 3) h5 rfl; have yh6 := lv_neT (a := 4) h6 rfl; omega) (by decide) ?_
  refine g_iconst (pc := 65) (v := (-1 : Int32)) X dX6_told_65 (by decide) ?_
  exact g_iret (pc := 66) X dX6_told_66 hf
