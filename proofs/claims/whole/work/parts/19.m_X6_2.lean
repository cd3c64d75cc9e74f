/-! X6_openMarked -/
abbrev D_X6_openMarked : Nat := 2
noncomputable def f_X6_openMarked_179   (x3 : Int32) (s0 : Int32) (μ : jM) : Option (Int32 × jM) := jlet (jsI μ 0 21 s0) (fun μ1 : jM => some (x3, μ1))
noncomputable def f_X6_openMarked_157   (x2 : Int32) (s0 : Int32) (s1 : Int32) (s2 : Int32) (μ : jM) : Option (Int32 × jM) := jcall (f_X6_puts s2 s1 s0 μ) (fun (r2 : Int32) (μ2 : jM) => if (0 : Int32) ≤ r2 then (f_X6_openMarked_179    r2 (x2 + (μ2.1 0 1)) μ2) else (f_X6_openMarked_179    r2 (μ2.1 0 21) μ2))
noncomputable def f_X6_openMarked_108   (x1 : Int32) (s0 : Int32) (μ : jM) : Option (Int32 × jM) := if (s0 + (μ.1 0 1)) ≤ (μ.1 0 8) then (if x1 = (0 : Int32) then (f_X6_openMarked_157    s0 (1 : Int32) (μ.1 0 1) s0 μ) else (jin ((μ.1 0 21) + (1 : Int32)) 1000 (f_X6_openMarked_157    s0 (μ.1 2 (((μ.1 0 21) + (1 : Int32))).toNatClampNeg) (μ.1 0 1) s0 μ))) else (jcall (f_X6_fails (2 : Int32) (μ.1 0 21) μ) (fun (r6 : Int32) (μ6 : jM) => some (r6, μ6)))
noncomputable def f_X6_openMarked_91   (x1 : Int32) (μ : jM) : Option (Int32 × jM) := if x1 = (0 : Int32) then (f_X6_openMarked_108    x1 (μ.1 0 21) μ) else (f_X6_openMarked_108    x1 ((μ.1 0 21) + (2 : Int32)) μ)
noncomputable def f_X6_openMarked_42   (s0 : Int32) (μ : jM) : Option (Int32 × jM) := if s0 = (0 : Int32) then (f_X6_openMarked_91    s0 μ) else (if (μ.1 0 8) ≤ ((μ.1 0 21) + (1 : Int32)) then (f_X6_openMarked_91    s0 μ) else (jin ((μ.1 0 21) + (1 : Int32)) 1000 (if (μ.1 2 (((μ.1 0 21) + (1 : Int32))).toNatClampNeg) = (0 : Int32) then (jlet (jsI μ 0 21 ((μ.1 0 21) + (2 : Int32))) (fun μ10 : jM => jbl (1 : Int32) (jlet (jsI μ10 0 24 (1 : Int32)) (fun μ11 : jM => some ((0 : Int32), μ11))))) else (f_X6_openMarked_91    s0 μ))))
noncomputable def f_X6_openMarked  (μ : jM) : Option (Int32 × jM) := if (μ.1 0 21) = (μ.1 0 8) then (jcall (f_X6_fails (1 : Int32) (μ.1 0 21) μ) (fun (r18 : Int32) (μ18 : jM) => some (r18, μ18))) else (jin (μ.1 0 21) 1000 (if (μ.1 2 ((μ.1 0 21)).toNatClampNeg) = (μ.1 0 3) then (f_X6_openMarked_42    (1 : Int32) μ) else (f_X6_openMarked_42    (0 : Int32) μ)))
set_option maxHeartbeats 4000000 in
theorem t_X6_openMarked_179 {Γ : jC} {Δ : jD} {r : Int32} {μ9 : jM}    (X : jOk Γ Δ shM cX6_openMarked 4 RX6 (some .int) D_X6_openMarked)  : ∀ (x3 : Int32) (s0 : Int32) (μ : jM), f_X6_openMarked_179   x3 s0 μ = some (r, μ9) → jG Γ Δ shM (some (.int r), μ9) 179 [none, none, none, some (.int x3)] [.int s0, jr Δ 0] μ := by
  intro x3 s0 μ hf
  unfold f_X6_openMarked_179 at hf
  refine g_putI (pc := 179) (k := 21) X dX6_openMarked_179 cl_X6 rfl rfl (by decide) w_682 rfl rfl rfl ?_
  refine g_nmM (fun μ1 eμ1 => ?_)
  replace hf := jlet_i eμ1 hf
  refine g_ild_n (pc := 182) (i := 3) X dX6_openMarked_182 rfl rfl ?_
  exact g_iret (pc := 183) X dX6_openMarked_183 hf
set_option maxHeartbeats 4000000 in
theorem t_X6_openMarked_157 {Γ : jC} {Δ : jD} {r : Int32} {μ9 : jM}    (X : jOk Γ Δ shM cX6_openMarked 4 RX6 (some .int) D_X6_openMarked)  : ∀ (x2 : Int32) (s0 : Int32) (s1 : Int32) (s2 : Int32) (μ : jM), f_X6_openMarked_157   x2 s0 s1 s2 μ = some (r, μ9) → jG Γ Δ shM (some (.int r), μ9) 157 [some (jr Δ 0), none, some (.int x2), none] [.int s0, .int s1, .int s2, jr Δ 0] μ := by
  intro x2 s0 s1 s2 μ hf
  unfold f_X6_openMarked_157 at hf
  obtain ⟨r2, μ2, hc2, hf⟩ := jcall_i hf
  refine g_callVi (pc := 157) [.int s2, .int s1, .int s0] X dX6_openMarked_157 (M_X6_puts  (jOk_sep X) hc2) Y_X6_puts w_872 ws_29 w_874 cl_X6 rfl rfl (by decide) rfl rfl (Nat.le_of_ble_eq_true rfl) rfl ?_
  refine g_ist_n (pc := 160) (i := 3) (L1 := [some (jr Δ 0), none, some (.int x2), some (.int r2)]) X dX6_openMarked_160 rfl (Nat.le_of_ble_eq_true rfl) rfl rfl ?_
  refine g_ald_n (pc := 161) (i := 0) X dX6_openMarked_161 rfl rfl ?_
  refine g_ild_n (pc := 162) (i := 3) X dX6_openMarked_162 rfl rfl ?_
  refine g_if_ge (pc := 163) 173 X dX6_openMarked_163 (by decide) (fun h3 => ?_) (fun h3 => ?_)
  · replace hf := jt_i h3 hf
    refine g_ild_n (pc := 173) (i := 2) X dX6_openMarked_173 rfl rfl ?_
    refine g_ald_n (pc := 174) (i := 0) X dX6_openMarked_174 rfl rfl ?_
    refine g_getI (pc := 175) (k := 1) X dX6_openMarked_175 cl_X6 rfl rfl (by decide) w_662 ?_
    refine g_iadd (pc := 178) X dX6_openMarked_178 ?_
    exact g_weak (t_X6_openMarked_179  X   _ _ _ hf) (⟨rfl, trivial⟩)
  · replace hf := jf_i h3 hf
    refine g_ald_n (pc := 166) (i := 0) X dX6_openMarked_166 rfl rfl ?_
    refine g_getI (pc := 167) (k := 21) X dX6_openMarked_167 cl_X6 rfl rfl (by decide) w_682 ?_
    refine g_goto (pc := 170) 179 X dX6_openMarked_170 (by decide) ?_
    exact g_weak (t_X6_openMarked_179  X   _ _ _ hf) (⟨rfl, trivial⟩)
set_option maxHeartbeats 4000000 in
theorem t_X6_openMarked_108 {Γ : jC} {Δ : jD} {r : Int32} {μ9 : jM}    (X : jOk Γ Δ shM cX6_openMarked 4 RX6 (some .int) D_X6_openMarked)  : ∀ (x1 : Int32) (s0 : Int32) (μ : jM), f_X6_openMarked_108   x1 s0 μ = some (r, μ9) → jG Γ Δ shM (some (.int r), μ9) 108 [some (jr Δ 0), some (.int x1), none, none] [.int s0] μ := by
  intro x1 s0 μ hf
  unfold f_X6_openMarked_108 at hf
  refine g_ist_n (pc := 108) (i := 2) (L1 := [some (jr Δ 0), some (.int x1), some (.int s0), none]) X dX6_openMarked_108 rfl (Nat.le_of_ble_eq_true rfl) rfl rfl ?_
  refine g_ild_n (pc := 109) (i := 2) X dX6_openMarked_109 rfl rfl ?_
  refine g_ald_n (pc := 110) (i := 0) X dX6_openMarked_110 rfl rfl ?_
  refine g_getI (pc := 111) (k := 1) X dX6_openMarked_111 cl_X6 rfl rfl (by decide) w_662 ?_
  refine g_iadd (pc := 114) X dX6_openMarked_114 ?_
  refine g_ald_n (pc := 115) (i := 0) X dX6_openMarked_115 rfl rfl ?_
  refine g_getI (pc := 116) (k := 8) X dX6_openMarked_116 cl_X6 rfl rfl (by decide) w_669 ?_
  refine g_icmp_le (pc := 119) 132 X dX6_openMarked_119 (by decide) (fun h7 => ?_) (fun h7 => ?_)
  · replace hf := jt_i h7 hf
    refine g_ald_n (pc := 132) (i := 0) X dX6_openMarked_132 rfl rfl ?_
    refine g_ild_n (pc := 133) (i := 2) X dX6_openMarked_133 rfl rfl ?_
    refine g_ald_n (pc := 134) (i := 0) X dX6_openMarked_134 rfl rfl ?_
    refine g_getI (pc := 135) (k := 1) X dX6_openMarked_135 cl_X6 rfl rfl (by decide) w_662 ?_
    refine g_ild_n (pc := 138) (i := 1) X dX6_openMarked_138 rfl rfl ?_
    refine g_if_eq (pc := 139) 156 X dX6_openMarked_139 (by decide) (fun h5 => ?_) (fun h5 => ?_)
    · replace hf := jt_i h5 hf
      refine g_iconst (pc := 156) (v := (1 : Int32)) X dX6_openMarked_156 (by decide) ?_
      exact g_weak (t_X6_openMarked_157  X   _ _ _ _ _ hf) (⟨rfl, ⟨rfl, trivial⟩⟩)
    · replace hf := jf_i h5 hf
      refine g_ald_n (pc := 142) (i := 0) X dX6_openMarked_142 rfl rfl ?_
      refine g_getR (pc := 143) (k := 7) X dX6_openMarked_143 cl_X6 rfl rfl (by decide) w_668 ?_
      refine g_ald_n (pc := 146) (i := 0) X dX6_openMarked_146 rfl rfl ?_
      refine g_getI (pc := 147) (k := 21) X dX6_openMarked_147 cl_X6 rfl rfl (by decide) w_682 ?_
      refine g_iconst (pc := 150) (v := (1 : Int32)) X dX6_openMarked_150 (by decide) ?_
      refine g_iadd (pc := 151) X dX6_openMarked_151 ?_
      obtain ⟨hi4, hf⟩ := jin_i hf
      refine g_iald (pc := 152) X dX6_openMarked_152 rfl hi4 ?_
      refine g_goto (pc := 153) 157 X dX6_openMarked_153 (by decide) ?_
      exact g_weak (t_X6_openMarked_157  X   _ _ _ _ _ hf) (⟨rfl, ⟨rfl, trivial⟩⟩)
  · replace hf := jf_i h7 hf
    refine g_ald_n (pc := 122) (i := 0) X dX6_openMarked_122 rfl rfl ?_
    refine g_iconst (pc := 123) (v := (2 : Int32)) X dX6_openMarked_123 (by decide) ?_
    refine g_ald_n (pc := 124) (i := 0) X dX6_openMarked_124 rfl rfl ?_
    refine g_getI (pc := 125) (k := 21) X dX6_openMarked_125 cl_X6 rfl rfl (by decide) w_682 ?_
    obtain ⟨r6, μ6, hc6, hf⟩ := jcall_i hf
    refine g_callVi (pc := 128) [.int (2 : Int32), .int (μ.1 0 21)] X dX6_openMarked_128 (M_X6_fails  (jOk_sep X) hc6) Y_X6_fails w_868 ws_28 w_870 cl_X6 rfl rfl (by decide) rfl rfl (Nat.le_of_ble_eq_true rfl) rfl ?_
    exact g_iret (pc := 131) X dX6_openMarked_131 hf
set_option maxHeartbeats 4000000 in
theorem t_X6_openMarked_91 {Γ : jC} {Δ : jD} {r : Int32} {μ9 : jM}    (X : jOk Γ Δ shM cX6_openMarked 4 RX6 (some .int) D_X6_openMarked)  : ∀ (x1 : Int32) (μ : jM), f_X6_openMarked_91   x1 μ = some (r, μ9) → jG Γ Δ shM (some (.int r), μ9) 91 [some (jr Δ 0), some (.int x1), none, none] [] μ := by
  intro x1 μ hf
  unfold f_X6_openMarked_91 at hf
  refine g_ild_n (pc := 91) (i := 1) X dX6_openMarked_91 rfl rfl ?_
  refine g_if_eq (pc := 92) 104 X dX6_openMarked_92 (by decide) (fun h8 => ?_) (fun h8 => ?_)
  · replace hf := jt_i h8 hf
    refine g_ald_n (pc := 104) (i := 0) X dX6_openMarked_104 rfl rfl ?_
    refine g_getI (pc := 105) (k := 21) X dX6_openMarked_105 cl_X6 rfl rfl (by decide) w_682 ?_
    exact g_weak (t_X6_openMarked_108  X   _ _ _ hf) (⟨rfl, ⟨rfl, trivial⟩⟩)
  · replace hf := jf_i h8 hf
    refine g_ald_n (pc := 95) (i := 0) X dX6_openMarked_95 rfl rfl ?_
    refine g_getI (pc := 96) (k := 21) X dX6_openMarked_96 cl_X6 rfl rfl (by decide) w_682 ?_
    refine g_iconst (pc := 99) (v := (2 : Int32)) X dX6_openMarked_99 (by decide) ?_
    refine g_iadd (pc := 100) X dX6_openMarked_100 ?_
    refine g_goto (pc := 101) 108 X dX6_openMarked_101 (by decide) ?_
    exact g_weak (t_X6_openMarked_108  X   _ _ _ hf) (⟨rfl, ⟨rfl, trivial⟩⟩)
set_option maxHeartbeats 4000000 in
theorem t_X6_openMarked_42 {Γ : jC} {Δ : jD} {r : Int32} {μ9 : jM}    (X : jOk Γ Δ shM cX6_openMarked 4 RX6 (some .int) D_X6_openMarked)  : ∀ (s0 : Int32) (μ : jM), f_X6_openMarked_42   s0 μ = some (r, μ9) → jG Γ Δ shM (some (.int r), μ9) 42 [some (jr Δ 0), none, none, none] [.int s0] μ := by
  intro s0 μ hf
  unfold f_X6_openMarked_42 at hf
  refine g_ist_n (pc := 42) (i := 1) (L1 := [some (jr Δ 0), some (.int s0), none, none]) X dX6_openMarked_42 rfl (Nat.le_of_ble_eq_true rfl) rfl rfl ?_
  refine g_ild_n (pc := 43) (i := 1) X dX6_openMarked_43 rfl rfl ?_
  refine g_if_eq (pc := 44) 91 X dX6_openMarked_44 (by decide) (fun h15 => ?_) (fun h15 => ?_)
  · replace hf := jt_i h15 hf
    exact g_weak (t_X6_openMarked_91  X   _ _ hf) (⟨rfl, ⟨rfl, trivial⟩⟩)
  · replace hf := jf_i h15 hf
    refine g_ald_n (pc := 47) (i := 0) X dX6_openMarked_47 rfl rfl ?_
    refine g_getI (pc := 48) (k := 21) X dX6_openMarked_48 cl_X6 rfl rfl (by decide) w_682 ?_
    refine g_iconst (pc := 51) (v := (1 : Int32)) X dX6_openMarked_51 (by decide) ?_
    refine g_iadd (pc := 52) X dX6_openMarked_52 ?_
    refine g_ald_n (pc := 53) (i := 0) X dX6_openMarked_53 rfl rfl ?_
    refine g_getI (pc := 54) (k := 8) X dX6_openMarked_54 cl_X6 rfl rfl (by decide) w_669 ?_
    refine g_icmp_ge (pc := 57) 91 X dX6_openMarked_57 (by decide) (fun h14 => ?_) (fun h14 => ?_)
    · replace hf := jt_i h14 hf
      exact g_weak (t_X6_openMarked_91  X   _ _ hf) (⟨rfl, ⟨rfl, trivial⟩⟩)
    · replace hf := jf_i h14 hf
      refine g_ald_n (pc := 60) (i := 0) X dX6_openMarked_60 rfl rfl ?_
      refine g_getR (pc := 61) (k := 7) X dX6_openMarked_61 cl_X6 rfl rfl (by decide) w_668 ?_
      refine g_ald_n (pc := 64) (i := 0) X dX6_openMarked_64 rfl rfl ?_
      refine g_getI (pc := 65) (k := 21) X dX6_openMarked_65 cl_X6 rfl rfl (by decide) w_682 ?_
      refine g_iconst (pc := 68) (v := (1 : Int32)) X dX6_openMarked_68 (by decide) ?_
      refine g_iadd (pc := 69) X dX6_openMarked_69 ?_
      obtain ⟨hi9, hf⟩ := jin_i hf
      refine g_iald (pc := 70) X dX6_openMarked_70 rfl hi9 ?_
      refine g_if_ne (pc := 71) 91 X dX6_openMarked_71 (by decide) (fun h13 => ?_) (fun h13 => ?_)
      · replace hf := jf_i h13 hf
        exact g_weak (t_X6_openMarked_91  X   _ _ hf) (⟨rfl, ⟨rfl, trivial⟩⟩)
      · replace hf := jt_i h13 hf
        refine g_ald_n (pc := 74) (i := 0) X dX6_openMarked_74 rfl rfl ?_
        refine g_dupR (pc := 75) X dX6_openMarked_75 ?_
        refine g_getI (pc := 76) (k := 21) X dX6_openMarked_76 cl_X6 rfl rfl (by decide) w_682 ?_
        refine g_iconst (pc := 79) (v := (2 : Int32)) X dX6_openMarked_79 (by decide) ?_
        refine g_iadd (pc := 80) X dX6_openMarked_80 ?_
        refine g_putI (pc := 81) (k := 21) X dX6_openMarked_81 cl_X6 rfl rfl (by decide) w_682 rfl rfl rfl ?_
        refine g_nmM (fun μ10 eμ10 => ?_)
        replace hf := jlet_i eμ10 hf
        refine g_ald_n (pc := 84) (i := 0) X dX6_openMarked_84 rfl rfl ?_
        refine g_iconst (pc := 85) (v := (1 : Int32)) X dX6_openMarked_85 (by decide) ?_
        obtain ⟨hb12, hf⟩ := jbl_i hf
        refine g_putI (pc := 86) (k := 24) X dX6_openMarked_86 cl_X6 rfl rfl (by decide) w_685 rfl (jb_n hb12) (jb_f hb12) ?_
        refine g_nmM (fun μ11 eμ11 => ?_)
        replace hf := jlet_i eμ11 hf
        refine g_iconst (pc := 89) (v := (0 : Int32)) X dX6_openMarked_89 (by decide) ?_
        exact g_iret (pc := 90) X dX6_openMarked_90 hf
set_option maxHeartbeats 4000000 in
theorem M_X6_openMarked {l : Launch} {Δ : jD} {r : Int32} {μ μ9 : jM}   (hsep : jSep Δ shM) (hf : f_X6_openMarked  μ = some (r, μ9)) : jMet l yX6_openMarked cX6_openMarked 4 (some .int) D_X6_openMarked Δ shM [jr Δ 0] μ (some (.int r), μ9) := by
  refine jMet_of (own := RX6) (L := [some (jr Δ 0), none, none, none]) (by decide) rfl (Nat.le_of_ble_eq_true rfl) rfl hsep (fun Γ _ X => ?_)
  unfold f_X6_openMarked at hf
  refine g_ald_n (pc := 0) (i := 0) X dX6_openMarked_0 rfl rfl ?_
  refine g_getI (pc := 1) (k := 21) X dX6_openMarked_1 cl_X6 rfl rfl (by decide) w_682 ?_
  refine g_ald_n (pc := 4) (i := 0) X dX6_openMarked_4 rfl rfl ?_
  refine g_getI (pc := 5) (k := 8) X dX6_openMarked_5 cl_X6 rfl rfl (by decide) w_669 ?_
  refine g_icmp_ne (pc := 8) 21 X dX6_openMarked_8 (by decide) (fun h19 => ?_) (fun h19 => ?_)
  · replace hf := jf_i h19 hf
    refine g_ald_n (pc := 21) (i := 0) X dX6_openMarked_21 rfl rfl ?_
    refine g_getR (pc := 22) (k := 7) X dX6_openMarked_22 cl_X6 rfl rfl (by decide) w_668 ?_
    refine g_ald_n (pc := 25) (i := 0) X dX6_openMarked_25 rfl rfl ?_
    refine g_getI (pc := 26) (k := 21) X dX6_openMarked_26 cl_X6 rfl rfl (by decide) w_682 ?_
    obtain ⟨hi16, hf⟩ := jin_i hf
    refine g_iald (pc := 29) X dX6_openMarked_29 rfl hi16 ?_
    refine g_ald_n (pc := 30) (i := 0) X dX6_openMarked_30 rfl rfl ?_
    refine g_getI (pc := 31) (k := 3) X dX6_openMarked_31 cl_X6 rfl rfl (by decide) w_664 ?_
    refine g_icmp_ne (pc := 34) 41 X dX6_openMarked_34 (by decide) (fun h17 => ?_) (fun h17 => ?_)
    · replace hf := jf_i h17 hf
      refine g_iconst (pc := 41) (v := (0 : Int32)) X dX6_openMarked_41 (by decide) ?_
      exact g_weak (t_X6_openMarked_42  X   _ _ hf) (⟨rfl, trivial⟩)
    · replace hf := jt_i h17 hf
      refine g_iconst (pc := 37) (v := (1 : Int32)) X dX6_openMarked_37 (by decide) ?_
      refine g_goto (pc := 38) 42 X dX6_openMarked_38 (by decide) ?_
      exact g_weak (t_X6_openMarked_42  X   _ _ hf) (⟨rfl, trivial⟩)
  · replace hf := jt_i h19 hf
    refine g_ald_n (pc := 11) (i := 0) X dX6_openMarked_11 rfl rfl ?_
    refine g_iconst (pc := 12) (v := (1 : Int32)) X dX6_openMarked_12 (by decide) ?_
    refine g_ald_n (pc := 13) (i := 0) X dX6_openMarked_13 rfl rfl ?_
    refine g_getI (pc := 14) (k := 21) X dX6_openMarked_14 cl_X6 rfl rfl (by decide) w_682 ?_
    obtain ⟨r18, μ18, hc18, hf⟩ := jcall_i hf
    refine g_callVi (pc := 17) [.int (1 : Int32), .int (μ.1 0 21)] X dX6_openMarked_17 (M_X6_fails  (jOk_sep X) hc18) Y_X6_fails w_868 ws_28 w_870 cl_X6 rfl rfl (by decide) rfl rfl (Nat.le_of_ble_eq_true rfl) rfl ?_
    exact g_iret (pc := 20) X dX6_openMarked_20 hf
/-! X6_rowFaults -/
abbrev D_X6_rowFaults : Nat := 1
noncomputable def f_X6_rowFaults (x1 : Int32) (μ : jM) : Option (Int32 × jM) := if ((μ.1 0 22) + x1) ≤ (μ.1 0 2) then (if (((μ.1 0 23) + (1 : Int32)) * (μ.1 0 2)) ≤ (240 : Int32) then (some ((0 : Int32), μ)) else (jcall (f_X6_fails (4 : Int32) (μ.1 0 21) μ) (fun (r1 : Int32) (μ1 : jM) => some (r1, μ1)))) else (jcall (f_X6_fails (3 : Int32) (μ.1 0 21) μ) (fun (r3 : Int32) (μ3 : jM) => some (r3, μ3)))
set_option maxHeartbeats 4000000 in
theorem M_X6_rowFaults {l : Launch} {Δ : jD} {r : Int32} {μ μ9 : jM} {x1 : Int32}  (hsep : jSep Δ shM) (hf : f_X6_rowFaults x1 μ = some (r, μ9)) : jMet l yX6_rowFaults cX6_rowFaults 2 (some .int) D_X6_rowFaults Δ shM [jr Δ 0, .int x1] μ (some (.int r), μ9) := by
  refine jMet_of (own := RX6) (L := [some (jr Δ 0), some (.int x1)]) (by decide) rfl (Nat.le_of_ble_eq_true rfl) rfl hsep (fun Γ _ X => ?_)
  unfold f_X6_rowFaults at hf
  refine g_ald_n (pc := 0) (i := 0) X dX6_rowFaults_0 rfl rfl ?_
  refine g_getI (pc := 1) (k := 22) X dX6_rowFaults_1 cl_X6 rfl rfl (by decide) w_683 ?_
  refine g_ild_n (pc := 4) (i := 1) X dX6_rowFaults_4 rfl rfl ?_
  refine g_iadd (pc := 5) X dX6_rowFaults_5 ?_
  refine g_ald_n (pc := 6) (i := 0) X dX6_rowFaults_6 rfl rfl ?_
  refine g_getI (pc := 7) (k := 2) X dX6_rowFaults_7 cl_X6 rfl rfl (by decide) w_663 ?_
  refine g_icmp_le (pc := 10) 25 X dX6_rowFaults_10 (by decide) (fun h4 => ?_) (fun h4 => ?_)
  · replace hf := jt_i h4 hf
    refine g_ald_n (pc := 25) (i := 0) X dX6_rowFaults_25 rfl rfl ?_
    refine g_getI (pc := 26) (k := 23) X dX6_rowFaults_26 cl_X6 rfl rfl (by decide) w_684 ?_
    refine g_iconst (pc := 29) (v := (1 : Int32)) X dX6_rowFaults_29 (by decide) ?_
    refine g_iadd (pc := 30) X dX6_rowFaults_30 ?_
    refine g_ald_n (pc := 31) (i := 0) X dX6_rowFaults_31 rfl rfl ?_
    refine g_getI (pc := 32) (k := 2) X dX6_rowFaults_32 cl_X6 rfl rfl (by decide) w_663 ?_
    refine g_imul (pc := 35) X dX6_rowFaults_35 ?_
    refine g_sipush (pc := 36) (v := (240 : Int32)) X dX6_rowFaults_36 (by decide) ?_
    refine g_icmp_le (pc := 39) 54 X dX6_rowFaults_39 (by decide) (fun h2 => ?_) (fun h2 => ?_)
    · replace hf := jt_i h2 hf
      refine g_iconst (pc := 54) (v := (0 : Int32)) X dX6_rowFaults_54 (by decide) ?_
      exact g_iret (pc := 55) X dX6_rowFaults_55 hf
    · replace hf := jf_i h2 hf
      refine g_ald_n (pc := 42) (i := 0) X dX6_rowFaults_42 rfl rfl ?_
      refine g_iconst (pc := 43) (v := (4 : Int32)) X dX6_rowFaults_43 (by decide) ?_
      refine g_ald_n (pc := 44) (i := 0) X dX6_rowFaults_44 rfl rfl ?_
      refine g_getI (pc := 45) (k := 21) X dX6_rowFaults_45 cl_X6 rfl rfl (by decide) w_682 ?_
      obtain ⟨r1, μ1, hc1, hf⟩ := jcall_i hf
      refine g_callVi (pc := 48) [.int (4 : Int32), .int (μ.1 0 21)] X dX6_rowFaults_48 (M_X6_fails  (jOk_sep X) hc1) Y_X6_fails w_868 ws_28 w_870 cl_X6 rfl rfl (by decide) rfl rfl (Nat.le_of_ble_eq_true rfl) rfl ?_
      refine g_goto (pc := 51) 55 X dX6_rowFaults_51 (by decide) ?_
      exact g_iret (pc := 55) X dX6_rowFaults_55 hf
  · replace hf := jf_i h4 hf
    refine g_ald_n (pc := 13) (i := 0) X dX6_rowFaults_13 rfl rfl ?_
    refine g_iconst (pc := 14) (v := (3 : Int32)) X dX6_rowFaults_14 (by decide) ?_
    refine g_ald_n (pc := 15) (i := 0) X dX6_rowFaults_15 rfl rfl ?_
    refine g_getI (pc := 16) (k := 21) X dX6_rowFaults_16 cl_X6 rfl rfl (by decide) w_682 ?_
    obtain ⟨r3, μ3, hc3, hf⟩ := jcall_i hf
    refine g_callVi (pc := 19) [.int (3 : Int32), .int (μ.1 0 21)] X dX6_rowFaults_19 (M_X6_fails  (jOk_sep X) hc3) Y_X6_fails w_868 ws_28 w_870 cl_X6 rfl rfl (by decide) rfl rfl (Nat.le_of_ble_eq_true rfl) rfl ?_
    refine g_goto (pc := 22) 55 X dX6_rowFaults_22 (by decide) ?_
    exact g_iret (pc := 55) X dX6_rowFaults_55 hf
/-! X6_rowIs -/
abbrev D_X6_rowIs : Nat := 0
noncomputable def f_X6_rowIs_37   (s0 : Int32) (μ : jM) : Option (Unit × jM) := jlet (jsI μ 0 20 s0) (fun μ1 : jM => some ((), μ1))
noncomputable def f_X6_rowIs  (μ : jM) : Option (Unit × jM) := if (((μ.1 0 23) + (1 : Int32)) * (μ.1 0 2)) ≤ (μ.1 0 20) then (f_X6_rowIs_37    (μ.1 0 20) μ) else (f_X6_rowIs_37    (((μ.1 0 23) + (1 : Int32)) * (μ.1 0 2)) μ)
set_option maxHeartbeats 4000000 in
theorem t_X6_rowIs_37 {Γ : jC} {Δ : jD} {r : Unit} {μ9 : jM}    (X : jOk Γ Δ shM cX6_rowIs 1 RX6 none D_X6_rowIs)  : ∀ (s0 : Int32) (μ : jM), f_X6_rowIs_37   s0 μ = some (r, μ9) → jG Γ Δ shM (none, μ9) 37 [none] [.int s0, jr Δ 0] μ := by
  intro s0 μ hf
  unfold f_X6_rowIs_37 at hf
  refine g_putI (pc := 37) (k := 20) X dX6_rowIs_37 cl_X6 rfl rfl (by decide) w_681 rfl rfl rfl ?_
  refine g_nmM (fun μ1 eμ1 => ?_)
  replace hf := jlet_i eμ1 hf
  exact g_vret (pc := 40) X dX6_rowIs_40 hf
set_option maxHeartbeats 4000000 in
theorem M_X6_rowIs {l : Launch} {Δ : jD} {r : Unit} {μ μ9 : jM}   (hsep : jSep Δ shM) (hf : f_X6_rowIs  μ = some (r, μ9)) : jMet l yX6_rowIs cX6_rowIs 1 none D_X6_rowIs Δ shM [jr Δ 0] μ (none, μ9) := by
  refine jMet_of (own := RX6) (L := [some (jr Δ 0)]) (by decide) rfl (Nat.le_of_ble_eq_true rfl) rfl hsep (fun Γ _ X => ?_)
  unfold f_X6_rowIs at hf
  refine g_ald_n (pc := 0) (i := 0) X dX6_rowIs_0 rfl rfl ?_
  refine g_ald_n (pc := 1) (i := 0) X dX6_rowIs_1 rfl rfl ?_
  refine g_getI (pc := 2) (k := 23) X dX6_rowIs_2 cl_X6 rfl rfl (by decide) w_684 ?_
  refine g_iconst (pc := 5) (v := (1 : Int32)) X dX6_rowIs_5 (by decide) ?_
  refine g_iadd (pc := 6) X dX6_rowIs_6 ?_
  refine g_ald_n (pc := 7) (i := 0) X dX6_rowIs_7 rfl rfl ?_
  refine g_getI (pc := 8) (k := 2) X dX6_rowIs_8 cl_X6 rfl rfl (by decide) w_663 ?_
  refine g_imul (pc := 11) X dX6_rowIs_11 ?_
  refine g_ald_n (pc := 12) (i := 0) X dX6_rowIs_12 rfl rfl ?_
  refine g_getI (pc := 13) (k := 20) X dX6_rowIs_13 cl_X6 rfl rfl (by decide) w_681 ?_
  refine g_icmp_le (pc := 16) 33 X dX6_rowIs_16 (by decide) (fun h2 => ?_) (fun h2 => ?_)
  · replace hf := jt_i h2 hf
    refine g_ald_n (pc := 33) (i := 0) X dX6_rowIs_33 rfl rfl ?_
    refine g_getI (pc := 34) (k := 20) X dX6_rowIs_34 cl_X6 rfl rfl (by decide) w_681 ?_
    exact g_weak (t_X6_rowIs_37  X   _ _ hf) (trivial)
  · replace hf := jf_i h2 hf
    refine g_ald_n (pc := 19) (i := 0) X dX6_rowIs_19 rfl rfl ?_
    refine g_getI (pc := 20) (k := 23) X dX6_rowIs_20 cl_X6 rfl rfl (by decide) w_684 ?_
    refine g_iconst (pc := 23) (v := (1 : Int32)) X dX6_rowIs_23 (by decide) ?_
    refine g_iadd (pc := 24) X dX6_rowIs_24 ?_
    refine g_ald_n (pc := 25) (i := 0) X dX6_rowIs_25 rfl rfl ?_
    refine g_getI (pc := 26) (k := 2) X dX6_rowIs_26 cl_X6 rfl rfl (by decide) w_663 ?_
    refine g_imul (pc := 29) X dX6_rowIs_29 ?_
    refine g_goto (pc := 30) 37 X dX6_rowIs_30 (by decide) ?_
    exact g_weak (t_X6_rowIs_37  X   _ _ hf) (trivial)
/-! X6_bytes -/
abbrev D_X6_bytes : Nat := 2
noncomputable def f_X6_bytes_46   : Nat → Int32 → Int32 → Int32 → jM → Option (Int32 × jM)
  | 0, _, _, _, _ => none
  | fu + 1, x1, x2, x4, μ => if x1 ≤ x4 then (jlet (jsI μ 0 22 ((μ.1 0 22) + x1)) (fun μ1 : jM => jcall (f_X6_rowIs  μ1) (fun (r2 : Unit) (μ2 : jM) => jlet (jsI μ2 0 21 x2) (fun μ3 : jM => some ((0 : Int32), μ3))))) else (jin (((μ.1 0 21) + (2 : Int32)) + x4) 1000 (jin ((((μ.1 0 23) * (μ.1 0 2)) + (μ.1 0 22)) + x4) 256 (jlet (jsI μ 7 (((((μ.1 0 23) * (μ.1 0 2)) + (μ.1 0 22)) + x4)).toNatClampNeg (μ.1 2 ((((μ.1 0 21) + (2 : Int32)) + x4)).toNatClampNeg)) (fun μ5 : jM => jlet (x4 + (1 : Int32)) (fun z6 : Int32 => f_X6_bytes_46   fu x1 x2 z6 μ5)))))
noncomputable def f_X6_bytes (x1 : Int32) (μ : jM) : Option (Int32 × jM) := jnz (2 : Int32) (jlet ((((μ.1 0 21) + (2 : Int32)) + x1) + (x1 - x1 / (2 : Int32) * (2 : Int32))) (fun z9 : Int32 => if z9 ≤ (μ.1 0 8) then (jcall (f_X6_rowFaults x1 μ) (fun (r10 : Int32) (μ10 : jM) => if (0 : Int32) ≤ r10 then (f_X6_bytes_46   jFU x1 z9 (0 : Int32) μ10) else (some (r10, μ10)))) else (jcall (f_X6_fails (2 : Int32) (μ.1 0 21) μ) (fun (r12 : Int32) (μ12 : jM) => some (r12, μ12)))))
set_option maxHeartbeats 4000000 in
theorem t_X6_bytes_46 {Γ : jC} {Δ : jD} {r : Int32} {μ9 : jM}    (X : jOk Γ Δ shM cX6_bytes 5 RX6 (some .int) D_X6_bytes)  : ∀ (fu : Nat) (x1 : Int32) (x2 : Int32) (x4 : Int32) (μ : jM), f_X6_bytes_46   fu x1 x2 x4 μ = some (r, μ9) → jG Γ Δ shM (some (.int r), μ9) 46 [some (jr Δ 0), some (.int x1), some (.int x2), none, some (.int x4)] [] μ := by
  intro fu
  induction fu with
  | zero =>
    intro x1 x2 x4 μ hf
    cases hf
  | succ fu ih =>
    intro x1 x2 x4 μ hf
    replace hf := (f_X6_bytes_46.eq_2 _ _ _ _ _).symm.trans hf
    refine g_ild (pc := 46) X dX6_bytes_46 rfl ?_
    refine g_ild_n (pc := 48) (i := 1) X dX6_bytes_48 rfl rfl ?_
    refine g_icmp_ge (pc := 49) 94 X dX6_bytes_49 (by decide) (fun h7 => ?_) (fun h7 => ?_)
    · replace hf := jt_i h7 hf
      refine g_ald_n (pc := 94) (i := 0) X dX6_bytes_94 rfl rfl ?_
      refine g_dupR (pc := 95) X dX6_bytes_95 ?_
      refine g_getI (pc := 96) (k := 22) X dX6_bytes_96 cl_X6 rfl rfl (by decide) w_683 ?_
      refine g_ild_n (pc := 99) (i := 1) X dX6_bytes_99 rfl rfl ?_
      refine g_iadd (pc := 100) X dX6_bytes_100 ?_
      refine g_putI (pc := 101) (k := 22) X dX6_bytes_101 cl_X6 rfl rfl (by decide) w_683 rfl rfl rfl ?_
      refine g_nmM (fun μ1 eμ1 => ?_)
      replace hf := jlet_i eμ1 hf
      refine g_ald_n (pc := 104) (i := 0) X dX6_bytes_104 rfl rfl ?_
      obtain ⟨r2, μ2, hc2, hf⟩ := jcall_i hf
      refine g_callVv (pc := 105) [] X dX6_bytes_105 (M_X6_rowIs  (jOk_sep X) hc2) Y_X6_rowIs w_888 ws_33 w_890 cl_X6 rfl rfl (by decide) rfl rfl (Nat.le_of_ble_eq_true rfl) rfl ?_
      refine g_ald_n (pc := 108) (i := 0) X dX6_bytes_108 rfl rfl ?_
      refine g_ild_n (pc := 109) (i := 2) X dX6_bytes_109 rfl rfl ?_
      refine g_putI (pc := 110) (k := 21) X dX6_bytes_110 cl_X6 rfl rfl (by decide) w_682 rfl rfl rfl ?_
      refine g_nmM (fun μ3 eμ3 => ?_)
      replace hf := jlet_i eμ3 hf
      refine g_iconst (pc := 113) (v := (0 : Int32)) X dX6_bytes_113 (by decide) ?_
      exact g_iret (pc := 114) X dX6_bytes_114 hf
    · replace hf := jf_i h7 hf
      refine g_ald_n (pc := 52) (i := 0) X dX6_bytes_52 rfl rfl ?_
      refine g_getR (pc := 53) (k := 19) X dX6_bytes_53 cl_X6 rfl rfl (by decide) w_680 ?_
      refine g_ald_n (pc := 56) (i := 0) X dX6_bytes_56 rfl rfl ?_
      refine g_getI (pc := 57) (k := 23) X dX6_bytes_57 cl_X6 rfl rfl (by decide) w_684 ?_
      refine g_ald_n (pc := 60) (i := 0) X dX6_bytes_60 rfl rfl ?_
      refine g_getI (pc := 61) (k := 2) X dX6_bytes_61 cl_X6 rfl rfl (by decide) w_663 ?_
      refine g_imul (pc := 64) X dX6_bytes_64 ?_
      refine g_ald_n (pc := 65) (i := 0) X dX6_bytes_65 rfl rfl ?_
      refine g_getI (pc := 66) (k := 22) X dX6_bytes_66 cl_X6 rfl rfl (by decide) w_683 ?_
      refine g_iadd (pc := 69) X dX6_bytes_69 ?_
      refine g_ild (pc := 70) X dX6_bytes_70 rfl ?_
      refine g_iadd (pc := 72) X dX6_bytes_72 ?_
      refine g_ald_n (pc := 73) (i := 0) X dX6_bytes_73 rfl rfl ?_
      refine g_getR (pc := 74) (k := 7) X dX6_bytes_74 cl_X6 rfl rfl (by decide) w_668 ?_
      refine g_ald_n (pc := 77) (i := 0) X dX6_bytes_77 rfl rfl ?_
      refine g_getI (pc := 78) (k := 21) X dX6_bytes_78 cl_X6 rfl rfl (by decide) w_682 ?_
      refine g_iconst (pc := 81) (v := (2 : Int32)) X dX6_bytes_81 (by decide) ?_
      refine g_iadd (pc := 82) X dX6_bytes_82 ?_
      refine g_ild (pc := 83) X dX6_bytes_83 rfl ?_
      refine g_iadd (pc := 85) X dX6_bytes_85 ?_
      obtain ⟨hi4, hf⟩ := jin_i hf
      refine g_iald (pc := 86) X dX6_bytes_86 rfl hi4 ?_
      obtain ⟨hi5, hf⟩ := jin_i hf
      refine g_iast (pc := 87) X dX6_bytes_87 rfl hi5 ?_
      refine g_nmM (fun μ5 eμ5 => ?_)
      replace hf := jlet_i eμ5 hf
      obtain ⟨z6, ez6⟩ : ∃ z : Int32, z = x4 + (1 : Int32) := ⟨_, rfl⟩
      replace hf := jlet_i ez6 hf
      refine g_iinc (pc := 88) (L1 := [some (jr Δ 0), some (.int x1), some (.int x2), none, some (.int z6)]) X dX6_bytes_88 rfl (by rw [ez6]; rfl) rfl rfl ?_
      refine g_goto (pc := 91) 46 X dX6_bytes_91 (by decide) ?_
      exact g_weak (ih _ _ _ _ hf) (⟨rfl, ⟨rfl, ⟨rfl, ⟨rfl, trivial⟩⟩⟩⟩)
set_option maxHeartbeats 4000000 in
theorem M_X6_bytes {l : Launch} {Δ : jD} {r : Int32} {μ μ9 : jM} {x1 : Int32}  (hsep : jSep Δ shM) (hf : f_X6_bytes x1 μ = some (r, μ9)) : jMet l yX6_bytes cX6_bytes 5 (some .int) D_X6_bytes Δ shM [jr Δ 0, .int x1] μ (some (.int r), μ9) := by
  refine jMet_of (own := RX6) (L := [some (jr Δ 0), some (.int x1), none, none, none]) (by decide) rfl (Nat.le_of_ble_eq_true rfl) rfl hsep (fun Γ _ X => ?_)
  unfold f_X6_bytes at hf
  refine g_ald_n (pc := 0) (i := 0) X dX6_bytes_0 rfl rfl ?_
  refine g_getI (pc := 1) (k := 21) X dX6_bytes_1 cl_X6 rfl rfl (by decide) w_682 ?_
  refine g_iconst (pc := 4) (v := (2 : Int32)) X dX6_bytes_4 (by decide) ?_
  refine g_iadd (pc := 5) X dX6_bytes_5 ?_
  refine g_ild_n (pc := 6) (i := 1) X dX6_bytes_6 rfl rfl ?_
  refine g_iadd (pc := 7) X dX6_bytes_7 ?_
  refine g_ild_n (pc := 8) (i := 1) X dX6_bytes_8 rfl rfl ?_
  refine g_iconst (pc := 9) (v := (2 : Int32)) X dX6_bytes_9 (by decide) ?_
  obtain ⟨hz8, hf⟩ := jnz_i hf
  refine g_irem (pc := 10) X dX6_bytes_10 hz8 ?_
  refine g_iadd (pc := 11) X dX6_bytes_11 ?_
  refine g_nmI (fun z9 ez9 => ?_)
  replace hf := jlet_i ez9 hf
  refine g_ist_n (pc := 12) (i := 2) (L1 := [some (jr Δ 0), some (.int x1), some (.int z9), none, none]) X dX6_bytes_12 rfl (Nat.le_of_ble_eq_true rfl) rfl rfl ?_
  refine g_ild_n (pc := 13) (i := 2) X dX6_bytes_13 rfl rfl ?_
  refine g_ald_n (pc := 14) (i := 0) X dX6_bytes_14 rfl rfl ?_
  refine g_getI (pc := 15) (k := 8) X dX6_bytes_15 cl_X6 rfl rfl (by decide) w_669 ?_
  refine g_icmp_le (pc := 18) 31 X dX6_bytes_18 (by decide) (fun h13 => ?_) (fun h13 => ?_)
  · replace hf := jt_i h13 hf
    refine g_ald_n (pc := 31) (i := 0) X dX6_bytes_31 rfl rfl ?_
    refine g_ild_n (pc := 32) (i := 1) X dX6_bytes_32 rfl rfl ?_
    obtain ⟨r10, μ10, hc10, hf⟩ := jcall_i hf
    refine g_callVi (pc := 33) [.int x1] X dX6_bytes_33 (M_X6_rowFaults  (jOk_sep X) hc10) Y_X6_rowFaults w_884 ws_32 w_886 cl_X6 rfl rfl (by decide) rfl rfl (Nat.le_of_ble_eq_true rfl) rfl ?_
    refine g_ist_n (pc := 36) (i := 3) (L1 := [some (jr Δ 0), some (.int x1), some (.int z9), some (.int r10), none]) X dX6_bytes_36 rfl (Nat.le_of_ble_eq_true rfl) rfl rfl ?_
    refine g_ild_n (pc := 37) (i := 3) X dX6_bytes_37 rfl rfl ?_
    refine g_if_ge (pc := 38) 43 X dX6_bytes_38 (by decide) (fun h11 => ?_) (fun h11 => ?_)
    · replace hf := jt_i h11 hf
      refine g_iconst (pc := 43) (v := (0 : Int32)) X dX6_bytes_43 (by decide) ?_
      refine g_ist (pc := 44) (L1 := [some (jr Δ 0), some (.int x1), some (.int z9), some (.int r10), some (.int (0 : Int32))]) X dX6_bytes_44 (Nat.le_of_ble_eq_true rfl) rfl rfl ?_
      exact g_weak (t_X6_bytes_46  X  jFU _ _ _ _ hf) (⟨rfl, ⟨rfl, ⟨rfl, ⟨rfl, trivial⟩⟩⟩⟩)
    · replace hf := jf_i h11 hf
      refine g_ild_n (pc := 41) (i := 3) X dX6_bytes_41 rfl rfl ?_
      exact g_iret (pc := 42) X dX6_bytes_42 hf
  · replace hf := jf_i h13 hf
    refine g_ald_n (pc := 21) (i := 0) X dX6_bytes_21 rfl rfl ?_
    refine g_iconst (pc := 22) (v := (2 : Int32)) X dX6_bytes_22 (by decide) ?_
    refine g_ald_n (pc := 23) (i := 0) X dX6_bytes_23 rfl rfl ?_
    refine g_getI (pc := 24) (k := 21) X dX6_bytes_24 cl_X6 rfl rfl (by decide) w_682 ?_
    obtain ⟨r12, μ12, hc12, hf⟩ := jcall_i hf
    refine g_callVi (pc := 27) [.int (2 : Int32), .int (μ.1 0 21)] X dX6_bytes_27 (M_X6_fails  (jOk_sep X) hc12) Y_X6_fails w_868 ws_28 w_870 cl_X6 rfl rfl (by decide) rfl rfl (Nat.le_of_ble_eq_true rfl) rfl ?_
    exact g_iret (pc := 30) X dX6_bytes_30 hf
/-! X6_endAll -/
abbrev D_X6_endAll : Nat := 0
noncomputable def f_X6_endAll  (μ : jM) : Option (Int32 × jM) := jlet (jsI μ 0 21 ((μ.1 0 21) + (2 : Int32))) (fun μ1 : jM => jbl (1 : Int32) (jlet (jsI μ1 0 24 (1 : Int32)) (fun μ2 : jM => some ((0 : Int32), μ2))))
set_option maxHeartbeats 4000000 in
theorem M_X6_endAll {l : Launch} {Δ : jD} {r : Int32} {μ μ9 : jM}   (hsep : jSep Δ shM) (hf : f_X6_endAll  μ = some (r, μ9)) : jMet l yX6_endAll cX6_endAll 1 (some .int) D_X6_endAll Δ shM [jr Δ 0] μ (some (.int r), μ9) := by
  refine jMet_of (own := RX6) (L := [some (jr Δ 0)]) (by decide) rfl (Nat.le_of_ble_eq_true rfl) rfl hsep (fun Γ _ X => ?_)
  unfold f_X6_endAll at hf
  refine g_ald_n (pc := 0) (i := 0) X dX6_endAll_0 rfl rfl ?_
  refine g_dupR (pc := 1) X dX6_endAll_1 ?_
  refine g_getI (pc := 2) (k := 21) X dX6_endAll_2 cl_X6 rfl rfl (by decide) w_682 ?_
  refine g_iconst (pc := 5) (v := (2 : Int32)) X dX6_endAll_5 (by decide) ?_
  refine g_iadd (pc := 6) X dX6_endAll_6 ?_
  refine g_putI (pc := 7) (k := 21) X dX6_endAll_7 cl_X6 rfl rfl (by decide) w_682 rfl rfl rfl ?_
  refine g_nmM (fun μ1 eμ1 => ?_)
  replace hf := jlet_i eμ1 hf
  refine g_ald_n (pc := 10) (i := 0) X dX6_endAll_10 rfl rfl ?_
  refine g_iconst (pc := 11) (v := (1 : Int32)) X dX6_endAll_11 (by decide) ?_
  obtain ⟨hb3, hf⟩ := jbl_i hf
  refine g_putI (pc := 12) (k := 24) X dX6_endAll_12 cl_X6 rfl rfl (by decide) w_685 rfl (jb_n hb3) (jb_f hb3) ?_
  refine g_nmM (fun μ2 eμ2 => ?_)
  replace hf := jlet_i eμ2 hf
  refine g_iconst (pc := 15) (v := (0 : Int32)) X dX6_endAll_15 (by decide) ?_
  exact g_iret (pc := 16) X dX6_endAll_16 hf
/-! X6_endRow -/
abbrev D_X6_endRow : Nat := 2
noncomputable def f_X6_endRow  (μ : jM) : Option (Int32 × jM) := jcall (f_X6_rowFaults (0 : Int32) μ) (fun (r1 : Int32) (μ1 : jM) => if (0 : Int32) ≤ r1 then (jcall (f_X6_rowIs  μ1) (fun (r2 : Unit) (μ2 : jM) => jlet (jsI μ2 0 23 ((μ2.1 0 23) + (1 : Int32))) (fun μ3 : jM => jlet (jsI μ3 0 22 (0 : Int32)) (fun μ4 : jM => jlet (jsI μ4 0 21 ((μ4.1 0 21) + (2 : Int32))) (fun μ5 : jM => some ((0 : Int32), μ5)))))) else (some (r1, μ1)))
set_option maxHeartbeats 4000000 in
theorem M_X6_endRow {l : Launch} {Δ : jD} {r : Int32} {μ μ9 : jM}   (hsep : jSep Δ shM) (hf : f_X6_endRow  μ = some (r, μ9)) : jMet l yX6_endRow cX6_endRow 2 (some .int) D_X6_endRow Δ shM [jr Δ 0] μ (some (.int r), μ9) := by
  refine jMet_of (own := RX6) (L := [some (jr Δ 0), none]) (by decide) rfl (Nat.le_of_ble_eq_true rfl) rfl hsep (fun Γ _ X => ?_)
  unfold f_X6_endRow at hf
  refine g_ald_n (pc := 0) (i := 0) X dX6_endRow_0 rfl rfl ?_
  refine g_iconst (pc := 1) (v := (0 : Int32)) X dX6_endRow_1 (by decide) ?_
  obtain ⟨r1, μ1, hc1, hf⟩ := jcall_i hf
  refine g_callVi (pc := 2) [.int (0 : Int32)] X dX6_endRow_2 (M_X6_rowFaults  (jOk_sep X) hc1) Y_X6_rowFaults w_884 ws_32 w_886 cl_X6 rfl rfl (by decide) rfl rfl (Nat.le_of_ble_eq_true rfl) rfl ?_
  refine g_ist_n (pc := 5) (i := 1) (L1 := [some (jr Δ 0), some (.int r1)]) X dX6_endRow_5 rfl (Nat.le_of_ble_eq_true rfl) rfl rfl ?_
  refine g_ild_n (pc := 6) (i := 1) X dX6_endRow_6 rfl rfl ?_
  refine g_if_ge (pc := 7) 12 X dX6_endRow_7 (by decide) (fun h6 => ?_) (fun h6 => ?_)
  · replace hf := jt_i h6 hf
    refine g_ald_n (pc := 12) (i := 0) X dX6_endRow_12 rfl rfl ?_
    obtain ⟨r2, μ2, hc2, hf⟩ := jcall_i hf
    refine g_callVv (pc := 13) [] X dX6_endRow_13 (M_X6_rowIs  (jOk_sep X) hc2) Y_X6_rowIs w_888 ws_33 w_890 cl_X6 rfl rfl (by decide) rfl rfl (Nat.le_of_ble_eq_true rfl) rfl ?_
    refine g_ald_n (pc := 16) (i := 0) X dX6_endRow_16 rfl rfl ?_
    refine g_dupR (pc := 17) X dX6_endRow_17 ?_
    refine g_getI (pc := 18) (k := 23) X dX6_endRow_18 cl_X6 rfl rfl (by decide) w_684 ?_
    refine g_iconst (pc := 21) (v := (1 : Int32)) X dX6_endRow_21 (by decide) ?_
    refine g_iadd (pc := 22) X dX6_endRow_22 ?_
    refine g_putI (pc := 23) (k := 23) X dX6_endRow_23 cl_X6 rfl rfl (by decide) w_684 rfl rfl rfl ?_
    refine g_nmM (fun μ3 eμ3 => ?_)
    replace hf := jlet_i eμ3 hf
    refine g_ald_n (pc := 26) (i := 0) X dX6_endRow_26 rfl rfl ?_
    refine g_iconst (pc := 27) (v := (0 : Int32)) X dX6_endRow_27 (by decide) ?_
    refine g_putI (pc := 28) (k := 22) X dX6_endRow_28 cl_X6 rfl rfl (by decide) w_683 rfl rfl rfl ?_
    refine g_nmM (fun μ4 eμ4 => ?_)
    replace hf := jlet_i eμ4 hf
    refine g_ald_n (pc := 31) (i := 0) X dX6_endRow_31 rfl rfl ?_
    refine g_dupR (pc := 32) X dX6_endRow_32 ?_
    refine g_getI (pc := 33) (k := 21) X dX6_endRow_33 cl_X6 rfl rfl (by decide) w_682 ?_
    refine g_iconst (pc := 36) (v := (2 : Int32)) X dX6_endRow_36 (by decide) ?_
    refine g_iadd (pc := 37) X dX6_endRow_37 ?_
    refine g_putI (pc := 38) (k := 21) X dX6_endRow_38 cl_X6 rfl rfl (by decide) w_682 rfl rfl rfl ?_
    refine g_nmM (fun μ5 eμ5 => ?_)
    replace hf := jlet_i eμ5 hf
    refine g_iconst (pc := 41) (v := (0 : Int32)) X dX6_endRow_41 (by decide) ?_
    exact g_iret (pc := 42) X dX6_endRow_42 hf
  · replace hf := jf_i h6 hf
    refine g_ild_n (pc := 10) (i := 1) X dX6_endRow_10 rfl rfl ?_
    exact g_iret (pc := 11) X dX6_endRow_11 hf
/-! X6_goOn -/
abbrev D_X6_goOn : Nat := 1
noncomputable def f_X6_goOn  (μ : jM) : Option (Int32 × jM) := if ((μ.1 0 21) + (4 : Int32)) ≤ (μ.1 0 8) then (jin ((μ.1 0 21) + (2 : Int32)) 1000 (if ((μ.1 0 22) + (μ.1 2 (((μ.1 0 21) + (2 : Int32))).toNatClampNeg)) ≤ (μ.1 0 2) then (jin ((μ.1 0 21) + (2 : Int32)) 1000 (jlet (jsI μ 0 22 ((μ.1 0 22) + (μ.1 2 (((μ.1 0 21) + (2 : Int32))).toNatClampNeg))) (fun μ3 : jM => jin ((μ3.1 0 21) + (3 : Int32)) 1000 (jlet (jsI μ3 0 23 ((μ3.1 0 23) + (μ3.1 2 (((μ3.1 0 21) + (3 : Int32))).toNatClampNeg))) (fun μ5 : jM => jlet (jsI μ5 0 21 ((μ5.1 0 21) + (4 : Int32))) (fun μ6 : jM => some ((0 : Int32), μ6))))))) else (jcall (f_X6_fails (3 : Int32) (μ.1 0 21) μ) (fun (r7 : Int32) (μ7 : jM) => some (r7, μ7))))) else (jcall (f_X6_fails (2 : Int32) (μ.1 0 21) μ) (fun (r9 : Int32) (μ9 : jM) => some (r9, μ9)))
set_option maxHeartbeats 4000000 in
theorem M_X6_goOn {l : Launch} {Δ : jD} {r : Int32} {μ μ9 : jM}   (hsep : jSep Δ shM) (hf : f_X6_goOn  μ = some (r, μ9)) : jMet l yX6_goOn cX6_goOn 1 (some .int) D_X6_goOn Δ shM [jr Δ 0] μ (some (.int r), μ9) := by
  refine jMet_of (own := RX6) (L := [some (jr Δ 0)]) (by decide) rfl (Nat.le_of_ble_eq_true rfl) rfl hsep (fun Γ _ X => ?_)
  unfold f_X6_goOn at hf
  refine g_ald_n (pc := 0) (i := 0) X dX6_goOn_0 rfl rfl ?_
  refine g_getI (pc := 1) (k := 21) X dX6_goOn_1 cl_X6 rfl rfl (by decide) w_682 ?_
  refine g_iconst (pc := 4) (v := (4 : Int32)) X dX6_goOn_4 (by decide) ?_
  refine g_iadd (pc := 5) X dX6_goOn_5 ?_
  refine g_ald_n (pc := 6) (i := 0) X dX6_goOn_6 rfl rfl ?_
  refine g_getI (pc := 7) (k := 8) X dX6_goOn_7 cl_X6 rfl rfl (by decide) w_669 ?_
  refine g_icmp_le (pc := 10) 23 X dX6_goOn_10 (by decide) (fun h10 => ?_) (fun h10 => ?_)
  · replace hf := jt_i h10 hf
    refine g_ald_n (pc := 23) (i := 0) X dX6_goOn_23 rfl rfl ?_
    refine g_getI (pc := 24) (k := 22) X dX6_goOn_24 cl_X6 rfl rfl (by decide) w_683 ?_
    refine g_ald_n (pc := 27) (i := 0) X dX6_goOn_27 rfl rfl ?_
    refine g_getR (pc := 28) (k := 7) X dX6_goOn_28 cl_X6 rfl rfl (by decide) w_668 ?_
    refine g_ald_n (pc := 31) (i := 0) X dX6_goOn_31 rfl rfl ?_
    refine g_getI (pc := 32) (k := 21) X dX6_goOn_32 cl_X6 rfl rfl (by decide) w_682 ?_
    refine g_iconst (pc := 35) (v := (2 : Int32)) X dX6_goOn_35 (by decide) ?_
    refine g_iadd (pc := 36) X dX6_goOn_36 ?_
    obtain ⟨hi1, hf⟩ := jin_i hf
    refine g_iald (pc := 37) X dX6_goOn_37 rfl hi1 ?_
    refine g_iadd (pc := 38) X dX6_goOn_38 ?_
    refine g_ald_n (pc := 39) (i := 0) X dX6_goOn_39 rfl rfl ?_
    refine g_getI (pc := 40) (k := 2) X dX6_goOn_40 cl_X6 rfl rfl (by decide) w_663 ?_
    refine g_icmp_le (pc := 43) 56 X dX6_goOn_43 (by decide) (fun h8 => ?_) (fun h8 => ?_)
    · replace hf := jt_i h8 hf
      refine g_ald_n (pc := 56) (i := 0) X dX6_goOn_56 rfl rfl ?_
      refine g_dupR (pc := 57) X dX6_goOn_57 ?_
      refine g_getI (pc := 58) (k := 22) X dX6_goOn_58 cl_X6 rfl rfl (by decide) w_683 ?_
      refine g_ald_n (pc := 61) (i := 0) X dX6_goOn_61 rfl rfl ?_
      refine g_getR (pc := 62) (k := 7) X dX6_goOn_62 cl_X6 rfl rfl (by decide) w_668 ?_
      refine g_ald_n (pc := 65) (i := 0) X dX6_goOn_65 rfl rfl ?_
      refine g_getI (pc := 66) (k := 21) X dX6_goOn_66 cl_X6 rfl rfl (by decide) w_682 ?_
      refine g_iconst (pc := 69) (v := (2 : Int32)) X dX6_goOn_69 (by decide) ?_
      refine g_iadd (pc := 70) X dX6_goOn_70 ?_
      obtain ⟨hi2, hf⟩ := jin_i hf
      refine g_iald (pc := 71) X dX6_goOn_71 rfl hi2 ?_
      refine g_iadd (pc := 72) X dX6_goOn_72 ?_
      refine g_putI (pc := 73) (k := 22) X dX6_goOn_73 cl_X6 rfl rfl (by decide) w_683 rfl rfl rfl ?_
      refine g_nmM (fun μ3 eμ3 => ?_)
      replace hf := jlet_i eμ3 hf
      refine g_ald_n (pc := 76) (i := 0) X dX6_goOn_76 rfl rfl ?_
      refine g_dupR (pc := 77) X dX6_goOn_77 ?_
      refine g_getI (pc := 78) (k := 23) X dX6_goOn_78 cl_X6 rfl rfl (by decide) w_684 ?_
      refine g_ald_n (pc := 81) (i := 0) X dX6_goOn_81 rfl rfl ?_
      refine g_getR (pc := 82) (k := 7) X dX6_goOn_82 cl_X6 rfl rfl (by decide) w_668 ?_
      refine g_ald_n (pc := 85) (i := 0) X dX6_goOn_85 rfl rfl ?_
      refine g_getI (pc := 86) (k := 21) X dX6_goOn_86 cl_X6 rfl rfl (by decide) w_682 ?_
      refine g_iconst (pc := 89) (v := (3 : Int32)) X dX6_goOn_89 (by decide) ?_
      refine g_iadd (pc := 90) X dX6_goOn_90 ?_
      obtain ⟨hi4, hf⟩ := jin_i hf
      refine g_iald (pc := 91) X dX6_goOn_91 rfl hi4 ?_
      refine g_iadd (pc := 92) X dX6_goOn_92 ?_
      refine g_putI (pc := 93) (k := 23) X dX6_goOn_93 cl_X6 rfl rfl (by decide) w_684 rfl rfl rfl ?_
      refine g_nmM (fun μ5 eμ5 => ?_)
      replace hf := jlet_i eμ5 hf
      refine g_ald_n (pc := 96) (i := 0) X dX6_goOn_96 rfl rfl ?_
      refine g_dupR (pc := 97) X dX6_goOn_97 ?_
      refine g_getI (pc := 98) (k := 21) X dX6_goOn_98 cl_X6 rfl rfl (by decide) w_682 ?_
      refine g_iconst (pc := 101) (v := (4 : Int32)) X dX6_goOn_101 (by decide) ?_
      refine g_iadd (pc := 102) X dX6_goOn_102 ?_
      refine g_putI (pc := 103) (k := 21) X dX6_goOn_103 cl_X6 rfl rfl (by decide) w_682 rfl rfl rfl ?_
      refine g_nmM (fun μ6 eμ6 => ?_)
      replace hf := jlet_i eμ6 hf
      refine g_iconst (pc := 106) (v := (0 : Int32)) X dX6_goOn_106 (by decide) ?_
      exact g_iret (pc := 107) X dX6_goOn_107 hf
    · replace hf := jf_i h8 hf
      refine g_ald_n (pc := 46) (i := 0) X dX6_goOn_46 rfl rfl ?_
      refine g_iconst (pc := 47) (v := (3 : Int32)) X dX6_goOn_47 (by decide) ?_
      refine g_ald_n (pc := 48) (i := 0) X dX6_goOn_48 rfl rfl ?_
      refine g_getI (pc := 49) (k := 21) X dX6_goOn_49 cl_X6 rfl rfl (by decide) w_682 ?_
      obtain ⟨r7, μ7, hc7, hf⟩ := jcall_i hf
      refine g_callVi (pc := 52) [.int (3 : Int32), .int (μ.1 0 21)] X dX6_goOn_52 (M_X6_fails  (jOk_sep X) hc7) Y_X6_fails w_868 ws_28 w_870 cl_X6 rfl rfl (by decide) rfl rfl (Nat.le_of_ble_eq_true rfl) rfl ?_
      exact g_iret (pc := 55) X dX6_goOn_55 hf
  · replace hf := jf_i h10 hf
    refine g_ald_n (pc := 13) (i := 0) X dX6_goOn_13 rfl rfl ?_
    refine g_iconst (pc := 14) (v := (2 : Int32)) X dX6_goOn_14 (by decide) ?_
    refine g_ald_n (pc := 15) (i := 0) X dX6_goOn_15 rfl rfl ?_
    refine g_getI (pc := 16) (k := 21) X dX6_goOn_16 cl_X6 rfl rfl (by decide) w_682 ?_
    obtain ⟨r9, μ9, hc9, hf⟩ := jcall_i hf
    refine g_callVi (pc := 19) [.int (2 : Int32), .int (μ.1 0 21)] X dX6_goOn_19 (M_X6_fails  (jOk_sep X) hc9) Y_X6_fails w_868 ws_28 w_870 cl_X6 rfl rfl (by decide) rfl rfl (Nat.le_of_ble_eq_true rfl) rfl ?_
    exact g_iret (pc := 22) X dX6_goOn_22 hf
/-! X6_openRows -/
abbrev D_X6_openRows : Nat := 3
noncomputable def f_X6_openRows_85   : Nat → Int32 → Int32 → Int32 → jM → Option (Int32 × jM)
  | 0, _, _, _, _ => none
  | fu + 1, x1, x2, x4, μ => if x1 ≤ x4 then (jlet (jsI μ 0 22 ((μ.1 0 22) + x1)) (fun μ1 : jM => jcall (f_X6_rowIs  μ1) (fun (r2 : Unit) (μ2 : jM) => jlet (jsI μ2 0 21 ((μ2.1 0 21) + (2 : Int32))) (fun μ3 : jM => some ((0 : Int32), μ3))))) else (jin ((((μ.1 0 23) * (μ.1 0 2)) + (μ.1 0 22)) + x4) 256 (jlet (jsI μ 7 (((((μ.1 0 23) * (μ.1 0 2)) + (μ.1 0 22)) + x4)).toNatClampNeg x2) (fun μ4 : jM => jlet (x4 + (1 : Int32)) (fun z5 : Int32 => f_X6_openRows_85   fu x1 x2 z5 μ4))))
noncomputable def f_X6_openRows  (μ : jM) : Option (Int32 × jM) := if (μ.1 0 21) = (μ.1 0 8) then (jcall (f_X6_fails (1 : Int32) (μ.1 0 21) μ) (fun (r23 : Int32) (μ23 : jM) => some (r23, μ23))) else (if ((μ.1 0 21) + (1 : Int32)) = (μ.1 0 8) then (jcall (f_X6_fails (2 : Int32) (μ.1 0 21) μ) (fun (r21 : Int32) (μ21 : jM) => some (r21, μ21))) else (jin (μ.1 0 21) 1000 (jlet (μ.1 2 ((μ.1 0 21)).toNatClampNeg) (fun z8 : Int32 => jin ((μ.1 0 21) + (1 : Int32)) 1000 (jlet (μ.1 2 (((μ.1 0 21) + (1 : Int32))).toNatClampNeg) (fun z10 : Int32 => if z8 ≤ (0 : Int32) then (if z10 = (0 : Int32) then (jcall (f_X6_endRow  μ) (fun (r16 : Int32) (μ16 : jM) => some (r16, μ16))) else (if z10 = (1 : Int32) then (jcall (f_X6_endAll  μ) (fun (r14 : Int32) (μ14 : jM) => some (r14, μ14))) else (if z10 = (2 : Int32) then (jcall (f_X6_goOn  μ) (fun (r12 : Int32) (μ12 : jM) => some (r12, μ12))) else (jcall (f_X6_bytes z10 μ) (fun (r11 : Int32) (μ11 : jM) => some (r11, μ11)))))) else (jcall (f_X6_rowFaults z8 μ) (fun (r18 : Int32) (μ18 : jM) => if (0 : Int32) ≤ r18 then (f_X6_openRows_85   jFU z8 z10 (0 : Int32) μ18) else (some (r18, μ18))))))))))
set_option maxHeartbeats 4000000 in
theorem t_X6_openRows_85 {Γ : jC} {Δ : jD} {r : Int32} {μ9 : jM}    (X : jOk Γ Δ shM cX6_openRows 5 RX6 (some .int) D_X6_openRows)  : ∀ (fu : Nat) (x1 : Int32) (x2 : Int32) (x4 : Int32) (μ : jM), f_X6_openRows_85   fu x1 x2 x4 μ = some (r, μ9) → jG Γ Δ shM (some (.int r), μ9) 85 [some (jr Δ 0), some (.int x1), some (.int x2), none, some (.int x4)] [] μ := by
  intro fu
  induction fu with
  | zero =>
    intro x1 x2 x4 μ hf
    cases hf
  | succ fu ih =>
    intro x1 x2 x4 μ hf
    replace hf := (f_X6_openRows_85.eq_2 _ _ _ _ _).symm.trans hf
    refine g_ild (pc := 85) X dX6_openRows_85 rfl ?_
    refine g_ild_n (pc := 87) (i := 1) X dX6_openRows_87 rfl rfl ?_
    refine g_icmp_ge (pc := 88) 120 X dX6_openRows_88 (by decide) (fun h6 => ?_) (fun h6 => ?_)
    · replace hf := jt_i h6 hf
      refine g_ald_n (pc := 120) (i := 0) X dX6_openRows_120 rfl rfl ?_
      refine g_dupR (pc := 121) X dX6_openRows_121 ?_
      refine g_getI (pc := 122) (k := 22) X dX6_openRows_122 cl_X6 rfl rfl (by decide) w_683 ?_
      refine g_ild_n (pc := 125) (i := 1) X dX6_openRows_125 rfl rfl ?_
      refine g_iadd (pc := 126) X dX6_openRows_126 ?_
      refine g_putI (pc := 127) (k := 22) X dX6_openRows_127 cl_X6 rfl rfl (by decide) w_683 rfl rfl rfl ?_
      refine g_nmM (fun μ1 eμ1 => ?_)
      replace hf := jlet_i eμ1 hf
      refine g_ald_n (pc := 130) (i := 0) X dX6_openRows_130 rfl rfl ?_
      obtain ⟨r2, μ2, hc2, hf⟩ := jcall_i hf
      refine g_callVv (pc := 131) [] X dX6_openRows_131 (M_X6_rowIs  (jOk_sep X) hc2) Y_X6_rowIs w_888 ws_33 w_890 cl_X6 rfl rfl (by decide) rfl rfl (Nat.le_of_ble_eq_true rfl) rfl ?_
      refine g_ald_n (pc := 134) (i := 0) X dX6_openRows_134 rfl rfl ?_
      refine g_dupR (pc := 135) X dX6_openRows_135 ?_
      refine g_getI (pc := 136) (k := 21) X dX6_openRows_136 cl_X6 rfl rfl (by decide) w_682 ?_
      refine g_iconst (pc := 139) (v := (2 : Int32)) X dX6_openRows_139 (by decide) ?_
      refine g_iadd (pc := 140) X dX6_openRows_140 ?_
      refine g_putI (pc := 141) (k := 21) X dX6_openRows_141 cl_X6 rfl rfl (by decide) w_682 rfl rfl rfl ?_
      refine g_nmM (fun μ3 eμ3 => ?_)
      replace hf := jlet_i eμ3 hf
      refine g_iconst (pc := 144) (v := (0 : Int32)) X dX6_openRows_144 (by decide) ?_
      exact g_iret (pc := 145) X dX6_openRows_145 hf
    · replace hf := jf_i h6 hf
      refine g_ald_n (pc := 91) (i := 0) X dX6_openRows_91 rfl rfl ?_
      refine g_getR (pc := 92) (k := 19) X dX6_openRows_92 cl_X6 rfl rfl (by decide) w_680 ?_
      refine g_ald_n (pc := 95) (i := 0) X dX6_openRows_95 rfl rfl ?_
      refine g_getI (pc := 96) (k := 23) X dX6_openRows_96 cl_X6 rfl rfl (by decide) w_684 ?_
      refine g_ald_n (pc := 99) (i := 0) X dX6_openRows_99 rfl rfl ?_
      refine g_getI (pc := 100) (k := 2) X dX6_openRows_100 cl_X6 rfl rfl (by decide) w_663 ?_
      refine g_imul (pc := 103) X dX6_openRows_103 ?_
      refine g_ald_n (pc := 104) (i := 0) X dX6_openRows_104 rfl rfl ?_
      refine g_getI (pc := 105) (k := 22) X dX6_openRows_105 cl_X6 rfl rfl (by decide) w_683 ?_
      refine g_iadd (pc := 108) X dX6_openRows_108 ?_
      refine g_ild (pc := 109) X dX6_openRows_109 rfl ?_
      refine g_iadd (pc := 111) X dX6_openRows_111 ?_
      refine g_ild_n (pc := 112) (i := 2) X dX6_openRows_112 rfl rfl ?_
      obtain ⟨hi4, hf⟩ := jin_i hf
      refine g_iast (pc := 113) X dX6_openRows_113 rfl hi4 ?_
      refine g_nmM (fun μ4 eμ4 => ?_)
      replace hf := jlet_i eμ4 hf
      obtain ⟨z5, ez5⟩ : ∃ z : Int32, z = x4 + (1 : Int32) := ⟨_, rfl⟩
      replace hf := jlet_i ez5 hf
      refine g_iinc (pc := 114) (L1 := [some (jr Δ 0), some (.int x1), some (.int x2), none, some (.int z5)]) X dX6_openRows_114 rfl (by rw [ez5]; rfl) rfl rfl ?_
      refine g_goto (pc := 117) 85 X dX6_openRows_117 (by decide) ?_
      exact g_weak (ih _ _ _ _ hf) (⟨rfl, ⟨rfl, ⟨rfl, ⟨rfl, trivial⟩⟩⟩⟩)
set_option maxHeartbeats 4000000 in
theorem M_X6_openRows {l : Launch} {Δ : jD} {r : Int32} {μ μ9 : jM}   (hsep : jSep Δ shM) (hf : f_X6_openRows  μ = some (r, μ9)) : jMet l yX6_openRows cX6_openRows 5 (some .int) D_X6_openRows Δ shM [jr Δ 0] μ (some (.int r), μ9) := by
  refine jMet_of (own := RX6) (L := [some (jr Δ 0), none, none, none, none]) (by decide) rfl (Nat.le_of_ble_eq_true rfl) rfl hsep (fun Γ _ X => ?_)
  unfold f_X6_openRows at hf
  refine g_ald_n (pc := 0) (i := 0) X dX6_openRows_0 rfl rfl ?_
  refine g_getI (pc := 1) (k := 21) X dX6_openRows_1 cl_X6 rfl rfl (by decide) w_682 ?_
  refine g_ald_n (pc := 4) (i := 0) X dX6_openRows_4 rfl rfl ?_
  refine g_getI (pc := 5) (k := 8) X dX6_openRows_5 cl_X6 rfl rfl (by decide) w_669 ?_
  refine g_icmp_ne (pc := 8) 21 X dX6_openRows_8 (by decide) (fun h24 => ?_) (fun h24 => ?_)
  · replace hf := jf_i h24 hf
    refine g_ald_n (pc := 21) (i := 0) X dX6_openRows_21 rfl rfl ?_
    refine g_getI (pc := 22) (k := 21) X dX6_openRows_22 cl_X6 rfl rfl (by decide) w_682 ?_
    refine g_iconst (pc := 25) (v := (1 : Int32)) X dX6_openRows_25 (by decide) ?_
    refine g_iadd (pc := 26) X dX6_openRows_26 ?_
    refine g_ald_n (pc := 27) (i := 0) X dX6_openRows_27 rfl rfl ?_
    refine g_getI (pc := 28) (k := 8) X dX6_openRows_28 cl_X6 rfl rfl (by decide) w_669 ?_
    refine g_icmp_ne (pc := 31) 44 X dX6_openRows_31 (by decide) (fun h22 => ?_) (fun h22 => ?_)
    · replace hf := jf_i h22 hf
      refine g_ald_n (pc := 44) (i := 0) X dX6_openRows_44 rfl rfl ?_
      refine g_getR (pc := 45) (k := 7) X dX6_openRows_45 cl_X6 rfl rfl (by decide) w_668 ?_
      refine g_ald_n (pc := 48) (i := 0) X dX6_openRows_48 rfl rfl ?_
      refine g_getI (pc := 49) (k := 21) X dX6_openRows_49 cl_X6 rfl rfl (by decide) w_682 ?_
      obtain ⟨hi7, hf⟩ := jin_i hf
      refine g_iald (pc := 52) X dX6_openRows_52 rfl hi7 ?_
      refine g_nmI (fun z8 ez8 => ?_)
      replace hf := jlet_i ez8 hf
      refine g_ist_n (pc := 53) (i := 1) (L1 := [some (jr Δ 0), some (.int z8), none, none, none]) X dX6_openRows_53 rfl (Nat.le_of_ble_eq_true rfl) rfl rfl ?_
      refine g_ald_n (pc := 54) (i := 0) X dX6_openRows_54 rfl rfl ?_
      refine g_getR (pc := 55) (k := 7) X dX6_openRows_55 cl_X6 rfl rfl (by decide) w_668 ?_
      refine g_ald_n (pc := 58) (i := 0) X dX6_openRows_58 rfl rfl ?_
      refine g_getI (pc := 59) (k := 21) X dX6_openRows_59 cl_X6 rfl rfl (by decide) w_682 ?_
      refine g_iconst (pc := 62) (v := (1 : Int32)) X dX6_openRows_62 (by decide) ?_
      refine g_iadd (pc := 63) X dX6_openRows_63 ?_
      obtain ⟨hi9, hf⟩ := jin_i hf
      refine g_iald (pc := 64) X dX6_openRows_64 rfl hi9 ?_
      refine g_nmI (fun z10 ez10 => ?_)
      replace hf := jlet_i ez10 hf
      refine g_ist_n (pc := 65) (i := 2) (L1 := [some (jr Δ 0), some (.int z8), some (.int z10), none, none]) X dX6_openRows_65 rfl (Nat.le_of_ble_eq_true rfl) rfl rfl ?_
      refine g_ild_n (pc := 66) (i := 1) X dX6_openRows_66 rfl rfl ?_
      refine g_if_le (pc := 67) 146 X dX6_openRows_67 (by decide) (fun h20 => ?_) (fun h20 => ?_)
      · replace hf := jt_i h20 hf
        refine g_ild_n (pc := 146) (i := 2) X dX6_openRows_146 rfl rfl ?_
        refine g_if_ne (pc := 147) 157 X dX6_openRows_147 (by decide) (fun h17 => ?_) (fun h17 => ?_)
        · replace hf := jf_i h17 hf
          refine g_ild_n (pc := 157) (i := 2) X dX6_openRows_157 rfl rfl ?_
          refine g_iconst (pc := 158) (v := (1 : Int32)) X dX6_openRows_158 (by decide) ?_
          refine g_icmp_ne (pc := 159) 169 X dX6_openRows_159 (by decide) (fun h15 => ?_) (fun h15 => ?_)
          · replace hf := jf_i h15 hf
            refine g_ild_n (pc := 169) (i := 2) X dX6_openRows_169 rfl rfl ?_
            refine g_iconst (pc := 170) (v := (2 : Int32)) X dX6_openRows_170 (by decide) ?_
            refine g_icmp_ne (pc := 171) 181 X dX6_openRows_171 (by decide) (fun h13 => ?_) (fun h13 => ?_)
            · replace hf := jf_i h13 hf
              refine g_ald_n (pc := 181) (i := 0) X dX6_openRows_181 rfl rfl ?_
              refine g_ild_n (pc := 182) (i := 2) X dX6_openRows_182 rfl rfl ?_
              obtain ⟨r11, μ11, hc11, hf⟩ := jcall_i hf
              refine g_callVi (pc := 183) [.int z10] X dX6_openRows_183 (M_X6_bytes  (jOk_sep X) hc11) Y_X6_bytes w_904 ws_37 w_906 cl_X6 rfl rfl (by decide) rfl rfl (Nat.le_of_ble_eq_true rfl) rfl ?_
              exact g_iret (pc := 186) X dX6_openRows_186 hf
            · replace hf := jt_i h13 hf
              refine g_ald_n (pc := 174) (i := 0) X dX6_openRows_174 rfl rfl ?_
              obtain ⟨r12, μ12, hc12, hf⟩ := jcall_i hf
              refine g_callVi (pc := 175) [] X dX6_openRows_175 (M_X6_goOn  (jOk_sep X) hc12) Y_X6_goOn w_900 ws_36 w_902 cl_X6 rfl rfl (by decide) rfl rfl (Nat.le_of_ble_eq_true rfl) rfl ?_
              refine g_goto (pc := 178) 186 X dX6_openRows_178 (by decide) ?_
              exact g_iret (pc := 186) X dX6_openRows_186 hf
          · replace hf := jt_i h15 hf
            refine g_ald_n (pc := 162) (i := 0) X dX6_openRows_162 rfl rfl ?_
            obtain ⟨r14, μ14, hc14, hf⟩ := jcall_i hf
            refine g_callVi (pc := 163) [] X dX6_openRows_163 (M_X6_endAll  (jOk_sep X) hc14) Y_X6_endAll w_896 ws_35 w_898 cl_X6 rfl rfl (by decide) rfl rfl (Nat.le_of_ble_eq_true rfl) rfl ?_
            refine g_goto (pc := 166) 186 X dX6_openRows_166 (by decide) ?_
            exact g_iret (pc := 186) X dX6_openRows_186 hf
        · replace hf := jt_i h17 hf
          refine g_ald_n (pc := 150) (i := 0) X dX6_openRows_150 rfl rfl ?_
          obtain ⟨r16, μ16, hc16, hf⟩ := jcall_i hf
          refine g_callVi (pc := 151) [] X dX6_openRows_151 (M_X6_endRow  (jOk_sep X) hc16) Y_X6_endRow w_892 ws_34 w_894 cl_X6 rfl rfl (by decide) rfl rfl (Nat.le_of_ble_eq_true rfl) rfl ?_
          refine g_goto (pc := 154) 186 X dX6_openRows_154 (by decide) ?_
          exact g_iret (pc := 186) X dX6_openRows_186 hf
      · replace hf := jf_i h20 hf
        refine g_ald_n (pc := 70) (i := 0) X dX6_openRows_70 rfl rfl ?_
        refine g_ild_n (pc := 71) (i := 1) X dX6_openRows_71 rfl rfl ?_
        obtain ⟨r18, μ18, hc18, hf⟩ := jcall_i hf
        refine g_callVi (pc := 72) [.int z8] X dX6_openRows_72 (M_X6_rowFaults  (jOk_sep X) hc18) Y_X6_rowFaults w_884 ws_32 w_886 cl_X6 rfl rfl (by decide) rfl rfl (Nat.le_of_ble_eq_true rfl) rfl ?_
        refine g_ist_n (pc := 75) (i := 3) (L1 := [some (jr Δ 0), some (.int z8), some (.int z10), some (.int r18), none]) X dX6_openRows_75 rfl (Nat.le_of_ble_eq_true rfl) rfl rfl ?_
        refine g_ild_n (pc := 76) (i := 3) X dX6_openRows_76 rfl rfl ?_
        refine g_if_ge (pc := 77) 82 X dX6_openRows_77 (by decide) (fun h19 => ?_) (fun h19 => ?_)
        · replace hf := jt_i h19 hf
          refine g_iconst (pc := 82) (v := (0 : Int32)) X dX6_openRows_82 (by decide) ?_
          refine g_ist (pc := 83) (L1 := [some (jr Δ 0), some (.int z8), some (.int z10), some (.int r18), some (.int (0 : Int32))]) X dX6_openRows_83 (Nat.le_of_ble_eq_true rfl) rfl rfl ?_
          exact g_weak (t_X6_openRows_85  X  jFU _ _ _ _ hf) (⟨rfl, ⟨rfl, ⟨rfl, ⟨rfl, trivial⟩⟩⟩⟩)
        · replace hf := jf_i h19 hf
          refine g_ild_n (pc := 80) (i := 3) X dX6_openRows_80 rfl rfl ?_
          exact g_iret (pc := 81) X dX6_openRows_81 hf
    · replace hf := jt_i h22 hf
      refine g_ald_n (pc := 34) (i := 0) X dX6_openRows_34 rfl rfl ?_
      refine g_iconst (pc := 35) (v := (2 : Int32)) X dX6_openRows_35 (by decide) ?_
      refine g_ald_n (pc := 36) (i := 0) X dX6_openRows_36 rfl rfl ?_
      refine g_getI (pc := 37) (k := 21) X dX6_openRows_37 cl_X6 rfl rfl (by decide) w_682 ?_
      obtain ⟨r21, μ21, hc21, hf⟩ := jcall_i hf
      refine g_callVi (pc := 40) [.int (2 : Int32), .int (μ.1 0 21)] X dX6_openRows_40 (M_X6_fails  (jOk_sep X) hc21) Y_X6_fails w_868 ws_28 w_870 cl_X6 rfl rfl (by decide) rfl rfl (Nat.le_of_ble_eq_true rfl) rfl ?_
      exact g_iret (pc := 43) X dX6_openRows_43 hf
  · replace hf := jt_i h24 hf
    refine g_ald_n (pc := 11) (i := 0) X dX6_openRows_11 rfl rfl ?_
    refine g_iconst (pc := 12) (v := (1 : Int32)) X dX6_openRows_12 (by decide) ?_
    refine g_ald_n (pc := 13) (i := 0) X dX6_openRows_13 rfl rfl ?_
    refine g_getI (pc := 14) (k := 21) X dX6_openRows_14 cl_X6 rfl rfl (by decide) w_682 ?_
    obtain ⟨r23, μ23, hc23, hf⟩ := jcall_i hf
    refine g_callVi (pc := 17) [.int (1 : Int32), .int (μ.1 0 21)] X dX6_openRows_17 (M_X6_fails  (jOk_sep X) hc23) Y_X6_fails w_868 ws_28 w_870 cl_X6 rfl rfl (by decide) rfl rfl (Nat.le_of_ble_eq_true rfl) rfl ?_
    exact g_iret (pc := 20) X dX6_openRows_20 hf
/-! X6_openSigned -/
abbrev D_X6_openSigned : Nat := 2
noncomputable def f_X6_openSigned_165   (x3 : Int32) (s0 : Int32) (μ : jM) : Option (Int32 × jM) := jlet (jsI μ 0 21 s0) (fun μ1 : jM => some (x3, μ1))
noncomputable def f_X6_openSigned_141   (x2 : Int32) (s0 : Int32) (s1 : Int32) (s2 : Int32) (μ : jM) : Option (Int32 × jM) := jcall (f_X6_puts s2 s1 s0 μ) (fun (r2 : Int32) (μ2 : jM) => if (0 : Int32) ≤ r2 then (f_X6_openSigned_165    r2 (((μ2.1 0 21) + (1 : Int32)) + x2) μ2) else (f_X6_openSigned_165    r2 (μ2.1 0 21) μ2))
noncomputable def f_X6_openSigned_96   (x1 : Int32) (s0 : Int32) (μ : jM) : Option (Int32 × jM) := if (((μ.1 0 21) + (1 : Int32)) + s0) ≤ (μ.1 0 8) then (if (0 : Int32) ≤ x1 then (f_X6_openSigned_141    s0 (1 : Int32) s0 ((μ.1 0 21) + (1 : Int32)) μ) else (f_X6_openSigned_141    s0 ((1 : Int32) - x1) s0 ((μ.1 0 21) + (1 : Int32)) μ)) else (jcall (f_X6_fails (2 : Int32) (μ.1 0 21) μ) (fun (r5 : Int32) (μ5 : jM) => some (r5, μ5)))
noncomputable def f_X6_openSigned_58   (s0 : Int32) (μ : jM) : Option (Int32 × jM) := if s0 = (-128 : Int32) then (jlet (jsI μ 0 21 ((μ.1 0 21) + (1 : Int32))) (fun μ8 : jM => some ((0 : Int32), μ8))) else (if (0 : Int32) ≤ s0 then (f_X6_openSigned_96    s0 ((s0 + (1 : Int32)) * (μ.1 0 1)) μ) else (f_X6_openSigned_96    s0 (μ.1 0 1) μ))
noncomputable def f_X6_openSigned  (μ : jM) : Option (Int32 × jM) := if (μ.1 0 21) = (μ.1 0 8) then (jbl (1 : Int32) (jlet (jsI μ 0 24 (1 : Int32)) (fun μ14 : jM => some ((0 : Int32), μ14)))) else (jin (μ.1 0 21) 1000 (if (128 : Int32) ≤ (μ.1 2 ((μ.1 0 21)).toNatClampNeg) then (jin (μ.1 0 21) 1000 (f_X6_openSigned_58    ((μ.1 2 ((μ.1 0 21)).toNatClampNeg) - (256 : Int32)) μ)) else (jin (μ.1 0 21) 1000 (f_X6_openSigned_58    (μ.1 2 ((μ.1 0 21)).toNatClampNeg) μ))))
set_option maxHeartbeats 4000000 in
theorem t_X6_openSigned_165 {Γ : jC} {Δ : jD} {r : Int32} {μ9 : jM}    (X : jOk Γ Δ shM cX6_openSigned 4 RX6 (some .int) D_X6_openSigned)  : ∀ (x3 : Int32) (s0 : Int32) (μ : jM), f_X6_openSigned_165   x3 s0 μ = some (r, μ9) → jG Γ Δ shM (some (.int r), μ9) 165 [none, none, none, some (.int x3)] [.int s0, jr Δ 0] μ := by
  intro x3 s0 μ hf
  unfold f_X6_openSigned_165 at hf
  refine g_putI (pc := 165) (k := 21) X dX6_openSigned_165 cl_X6 rfl rfl (by decide) w_682 rfl rfl rfl ?_
  refine g_nmM (fun μ1 eμ1 => ?_)
  replace hf := jlet_i eμ1 hf
  refine g_ild_n (pc := 168) (i := 3) X dX6_openSigned_168 rfl rfl ?_
  exact g_iret (pc := 169) X dX6_openSigned_169 hf
set_option maxHeartbeats 4000000 in
theorem t_X6_openSigned_141 {Γ : jC} {Δ : jD} {r : Int32} {μ9 : jM}    (X : jOk Γ Δ shM cX6_openSigned 4 RX6 (some .int) D_X6_openSigned)  : ∀ (x2 : Int32) (s0 : Int32) (s1 : Int32) (s2 : Int32) (μ : jM), f_X6_openSigned_141   x2 s0 s1 s2 μ = some (r, μ9) → jG Γ Δ shM (some (.int r), μ9) 141 [some (jr Δ 0), none, some (.int x2), none] [.int s0, .int s1, .int s2, jr Δ 0] μ := by
  intro x2 s0 s1 s2 μ hf
  unfold f_X6_openSigned_141 at hf
  obtain ⟨r2, μ2, hc2, hf⟩ := jcall_i hf
  refine g_callVi (pc := 141) [.int s2, .int s1, .int s0] X dX6_openSigned_141 (M_X6_puts  (jOk_sep X) hc2) Y_X6_puts w_872 ws_29 w_874 cl_X6 rfl rfl (by decide) rfl rfl (Nat.le_of_ble_eq_true rfl) rfl ?_
  refine g_ist_n (pc := 144) (i := 3) (L1 := [some (jr Δ 0), none, some (.int x2), some (.int r2)]) X dX6_openSigned_144 rfl (Nat.le_of_ble_eq_true rfl) rfl rfl ?_
  refine g_ald_n (pc := 145) (i := 0) X dX6_openSigned_145 rfl rfl ?_
  refine g_ild_n (pc := 146) (i := 3) X dX6_openSigned_146 rfl rfl ?_
  refine g_if_ge (pc := 147) 157 X dX6_openSigned_147 (by decide) (fun h3 => ?_) (fun h3 => ?_)
  · replace hf := jt_i h3 hf
    refine g_ald_n (pc := 157) (i := 0) X dX6_openSigned_157 rfl rfl ?_
    refine g_getI (pc := 158) (k := 21) X dX6_openSigned_158 cl_X6 rfl rfl (by decide) w_682 ?_
    refine g_iconst (pc := 161) (v := (1 : Int32)) X dX6_openSigned_161 (by decide) ?_
    refine g_iadd (pc := 162) X dX6_openSigned_162 ?_
    refine g_ild_n (pc := 163) (i := 2) X dX6_openSigned_163 rfl rfl ?_
    refine g_iadd (pc := 164) X dX6_openSigned_164 ?_
    exact g_weak (t_X6_openSigned_165  X   _ _ _ hf) (⟨rfl, trivial⟩)
  · replace hf := jf_i h3 hf
    refine g_ald_n (pc := 150) (i := 0) X dX6_openSigned_150 rfl rfl ?_
    refine g_getI (pc := 151) (k := 21) X dX6_openSigned_151 cl_X6 rfl rfl (by decide) w_682 ?_
    refine g_goto (pc := 154) 165 X dX6_openSigned_154 (by decide) ?_
    exact g_weak (t_X6_openSigned_165  X   _ _ _ hf) (⟨rfl, trivial⟩)
set_option maxHeartbeats 4000000 in
theorem t_X6_openSigned_96 {Γ : jC} {Δ : jD} {r : Int32} {μ9 : jM}    (X : jOk Γ Δ shM cX6_openSigned 4 RX6 (some .int) D_X6_openSigned)  : ∀ (x1 : Int32) (s0 : Int32) (μ : jM), f_X6_openSigned_96   x1 s0 μ = some (r, μ9) → jG Γ Δ shM (some (.int r), μ9) 96 [some (jr Δ 0), some (.int x1), none, none] [.int s0] μ := by
  intro x1 s0 μ hf
  unfold f_X6_openSigned_96 at hf
  refine g_ist_n (pc := 96) (i := 2) (L1 := [some (jr Δ 0), some (.int x1), some (.int s0), none]) X dX6_openSigned_96 rfl (Nat.le_of_ble_eq_true rfl) rfl rfl ?_
  refine g_ald_n (pc := 97) (i := 0) X dX6_openSigned_97 rfl rfl ?_
  refine g_getI (pc := 98) (k := 21) X dX6_openSigned_98 cl_X6 rfl rfl (by decide) w_682 ?_
  refine g_iconst (pc := 101) (v := (1 : Int32)) X dX6_openSigned_101 (by decide) ?_
  refine g_iadd (pc := 102) X dX6_openSigned_102 ?_
  refine g_ild_n (pc := 103) (i := 2) X dX6_openSigned_103 rfl rfl ?_
  refine g_iadd (pc := 104) X dX6_openSigned_104 ?_
  refine g_ald_n (pc := 105) (i := 0) X dX6_openSigned_105 rfl rfl ?_
  refine g_getI (pc := 106) (k := 8) X dX6_openSigned_106 cl_X6 rfl rfl (by decide) w_669 ?_
  refine g_icmp_le (pc := 109) 122 X dX6_openSigned_109 (by decide) (fun h6 => ?_) (fun h6 => ?_)
  · replace hf := jt_i h6 hf
    refine g_ald_n (pc := 122) (i := 0) X dX6_openSigned_122 rfl rfl ?_
    refine g_ald_n (pc := 123) (i := 0) X dX6_openSigned_123 rfl rfl ?_
    refine g_getI (pc := 124) (k := 21) X dX6_openSigned_124 cl_X6 rfl rfl (by decide) w_682 ?_
    refine g_iconst (pc := 127) (v := (1 : Int32)) X dX6_openSigned_127 (by decide) ?_
    refine g_iadd (pc := 128) X dX6_openSigned_128 ?_
    refine g_ild_n (pc := 129) (i := 2) X dX6_openSigned_129 rfl rfl ?_
    refine g_ild_n (pc := 130) (i := 1) X dX6_openSigned_130 rfl rfl ?_
    refine g_if_ge (pc := 131) 140 X dX6_openSigned_131 (by decide) (fun h4 => ?_) (fun h4 => ?_)
    · replace hf := jt_i h4 hf
      refine g_iconst (pc := 140) (v := (1 : Int32)) X dX6_openSigned_140 (by decide) ?_
      exact g_weak (t_X6_openSigned_141  X   _ _ _ _ _ hf) (⟨rfl, ⟨rfl, trivial⟩⟩)
    · replace hf := jf_i h4 hf
      refine g_iconst (pc := 134) (v := (1 : Int32)) X dX6_openSigned_134 (by decide) ?_
      refine g_ild_n (pc := 135) (i := 1) X dX6_openSigned_135 rfl rfl ?_
      refine g_isub (pc := 136) X dX6_openSigned_136 ?_
      refine g_goto (pc := 137) 141 X dX6_openSigned_137 (by decide) ?_
      exact g_weak (t_X6_openSigned_141  X   _ _ _ _ _ hf) (⟨rfl, ⟨rfl, trivial⟩⟩)
  · replace hf := jf_i h6 hf
    refine g_ald_n (pc := 112) (i := 0) X dX6_openSigned_112 rfl rfl ?_
    refine g_iconst (pc := 113) (v := (2 : Int32)) X dX6_openSigned_113 (by decide) ?_
    refine g_ald_n (pc := 114) (i := 0) X dX6_openSigned_114 rfl rfl ?_
    refine g_getI (pc := 115) (k := 21) X dX6_openSigned_115 cl_X6 rfl rfl (by decide) w_682 ?_
    obtain ⟨r5, μ5, hc5, hf⟩ := jcall_i hf
    refine g_callVi (pc := 118) [.int (2 : Int32), .int (μ.1 0 21)] X dX6_openSigned_118 (M_X6_fails  (jOk_sep X) hc5) Y_X6_fails w_868 ws_28 w_870 cl_X6 rfl rfl (by decide) rfl rfl (Nat.le_of_ble_eq_true rfl) rfl ?_
    exact g_iret (pc := 121) X dX6_openSigned_121 hf
set_option maxHeartbeats 4000000 in
theorem t_X6_openSigned_58 {Γ : jC} {Δ : jD} {r : Int32} {μ9 : jM}    (X : jOk Γ Δ shM cX6_openSigned 4 RX6 (some .int) D_X6_openSigned)  : ∀ (s0 : Int32) (μ : jM), f_X6_openSigned_58   s0 μ = some (r, μ9) → jG Γ Δ shM (some (.int r), μ9) 58 [some (jr Δ 0), none, none, none] [.int s0] μ := by
  intro s0 μ hf
  unfold f_X6_openSigned_58 at hf
  refine g_ist_n (pc := 58) (i := 1) (L1 := [some (jr Δ 0), some (.int s0), none, none]) X dX6_openSigned_58 rfl (Nat.le_of_ble_eq_true rfl) rfl rfl ?_
  refine g_ild_n (pc := 59) (i := 1) X dX6_openSigned_59 rfl rfl ?_
  refine g_bipush (pc := 60) (v := (-128 : Int32)) X dX6_openSigned_60 (by decide) ?_
  refine g_icmp_ne (pc := 62) 77 X dX6_openSigned_62 (by decide) (fun h9 => ?_) (fun h9 => ?_)
  · replace hf := jf_i h9 hf
    refine g_ild_n (pc := 77) (i := 1) X dX6_openSigned_77 rfl rfl ?_
    refine g_if_ge (pc := 78) 88 X dX6_openSigned_78 (by decide) (fun h7 => ?_) (fun h7 => ?_)
    · replace hf := jt_i h7 hf
      refine g_ild_n (pc := 88) (i := 1) X dX6_openSigned_88 rfl rfl ?_
      refine g_iconst (pc := 89) (v := (1 : Int32)) X dX6_openSigned_89 (by decide) ?_
      refine g_iadd (pc := 90) X dX6_openSigned_90 ?_
      refine g_ald_n (pc := 91) (i := 0) X dX6_openSigned_91 rfl rfl ?_
      refine g_getI (pc := 92) (k := 1) X dX6_openSigned_92 cl_X6 rfl rfl (by decide) w_662 ?_
      refine g_imul (pc := 95) X dX6_openSigned_95 ?_
      exact g_weak (t_X6_openSigned_96  X   _ _ _ hf) (⟨rfl, ⟨rfl, trivial⟩⟩)
    · replace hf := jf_i h7 hf
      refine g_ald_n (pc := 81) (i := 0) X dX6_openSigned_81 rfl rfl ?_
      refine g_getI (pc := 82) (k := 1) X dX6_openSigned_82 cl_X6 rfl rfl (by decide) w_662 ?_
      refine g_goto (pc := 85) 96 X dX6_openSigned_85 (by decide) ?_
      exact g_weak (t_X6_openSigned_96  X   _ _ _ hf) (⟨rfl, ⟨rfl, trivial⟩⟩)
  · replace hf := jt_i h9 hf
    refine g_ald_n (pc := 65) (i := 0) X dX6_openSigned_65 rfl rfl ?_
    refine g_dupR (pc := 66) X dX6_openSigned_66 ?_
    refine g_getI (pc := 67) (k := 21) X dX6_openSigned_67 cl_X6 rfl rfl (by decide) w_682 ?_
    refine g_iconst (pc := 70) (v := (1 : Int32)) X dX6_openSigned_70 (by decide) ?_
    refine g_iadd (pc := 71) X dX6_openSigned_71 ?_
    refine g_putI (pc := 72) (k := 21) X dX6_openSigned_72 cl_X6 rfl rfl (by decide) w_682 rfl rfl rfl ?_
    refine g_nmM (fun μ8 eμ8 => ?_)
    replace hf := jlet_i eμ8 hf
    refine g_iconst (pc := 75) (v := (0 : Int32)) X dX6_openSigned_75 (by decide) ?_
    exact g_iret (pc := 76) X dX6_openSigned_76 hf
set_option maxHeartbeats 4000000 in
theorem M_X6_openSigned {l : Launch} {Δ : jD} {r : Int32} {μ μ9 : jM}   (hsep : jSep Δ shM) (hf : f_X6_openSigned  μ = some (r, μ9)) : jMet l yX6_openSigned cX6_openSigned 4 (some .int) D_X6_openSigned Δ shM [jr Δ 0] μ (some (.int r), μ9) := by
  refine jMet_of (own := RX6) (L := [some (jr Δ 0), none, none, none]) (by decide) rfl (Nat.le_of_ble_eq_true rfl) rfl hsep (fun Γ _ X => ?_)
  unfold f_X6_openSigned at hf
  refine g_ald_n (pc := 0) (i := 0) X dX6_openSigned_0 rfl rfl ?_
  refine g_getI (pc := 1) (k := 21) X dX6_openSigned_1 cl_X6 rfl rfl (by decide) w_682 ?_
  refine g_ald_n (pc := 4) (i := 0) X dX6_openSigned_4 rfl rfl ?_
  refine g_getI (pc := 5) (k := 8) X dX6_openSigned_5 cl_X6 rfl rfl (by decide) w_669 ?_
  refine g_icmp_ne (pc := 8) 18 X dX6_openSigned_8 (by decide) (fun h16 => ?_) (fun h16 => ?_)
  · replace hf := jf_i h16 hf
    refine g_ald_n (pc := 18) (i := 0) X dX6_openSigned_18 rfl rfl ?_
    refine g_getR (pc := 19) (k := 7) X dX6_openSigned_19 cl_X6 rfl rfl (by decide) w_668 ?_
    refine g_ald_n (pc := 22) (i := 0) X dX6_openSigned_22 rfl rfl ?_
    refine g_getI (pc := 23) (k := 21) X dX6_openSigned_23 cl_X6 rfl rfl (by decide) w_682 ?_
    obtain ⟨hi10, hf⟩ := jin_i hf
    refine g_iald (pc := 26) X dX6_openSigned_26 rfl hi10 ?_
    refine g_sipush (pc := 27) (v := (128 : Int32)) X dX6_openSigned_27 (by decide) ?_
    refine g_icmp_ge (pc := 30) 45 X dX6_openSigned_30 (by decide) (fun h13 => ?_) (fun h13 => ?_)
    · replace hf := jt_i h13 hf
      refine g_ald_n (pc := 45) (i := 0) X dX6_openSigned_45 rfl rfl ?_
      refine g_getR (pc := 46) (k := 7) X dX6_openSigned_46 cl_X6 rfl rfl (by decide) w_668 ?_
      refine g_ald_n (pc := 49) (i := 0) X dX6_openSigned_49 rfl rfl ?_
      refine g_getI (pc := 50) (k := 21) X dX6_openSigned_50 cl_X6 rfl rfl (by decide) w_682 ?_
      obtain ⟨hi11, hf⟩ := jin_i hf
      refine g_iald (pc := 53) X dX6_openSigned_53 rfl hi11 ?_
      refine g_sipush (pc := 54) (v := (256 : Int32)) X dX6_openSigned_54 (by decide) ?_
      refine g_isub (pc := 57) X dX6_openSigned_57 ?_
      exact g_weak (t_X6_openSigned_58  X   _ _ hf) (⟨rfl, trivial⟩)
    · replace hf := jf_i h13 hf
      refine g_ald_n (pc := 33) (i := 0) X dX6_openSigned_33 rfl rfl ?_
      refine g_getR (pc := 34) (k := 7) X dX6_openSigned_34 cl_X6 rfl rfl (by decide) w_668 ?_
      refine g_ald_n (pc := 37) (i := 0) X dX6_openSigned_37 rfl rfl ?_
      refine g_getI (pc := 38) (k := 21) X dX6_openSigned_38 cl_X6 rfl rfl (by decide) w_682 ?_
      obtain ⟨hi12, hf⟩ := jin_i hf
      refine g_iald (pc := 41) X dX6_openSigned_41 rfl hi12 ?_
      refine g_goto (pc := 42) 58 X dX6_openSigned_42 (by decide) ?_
      exact g_weak (t_X6_openSigned_58  X   _ _ hf) (⟨rfl, trivial⟩)
  · replace hf := jt_i h16 hf
    refine g_ald_n (pc := 11) (i := 0) X dX6_openSigned_11 rfl rfl ?_
    refine g_iconst (pc := 12) (v := (1 : Int32)) X dX6_openSigned_12 (by decide) ?_
    obtain ⟨hb15, hf⟩ := jbl_i hf
    refine g_putI (pc := 13) (k := 24) X dX6_openSigned_13 cl_X6 rfl rfl (by decide) w_685 rfl (jb_n hb15) (jb_f hb15) ?_
    refine g_nmM (fun μ14 eμ14 => ?_)
    replace hf := jlet_i eμ14 hf
    refine g_iconst (pc := 16) (v := (0 : Int32)) X dX6_openSigned_16 (by decide) ?_
    exact g_iret (pc := 17) X dX6_openSigned_17 hf
/-! X6_open -/
abbrev D_X6_open : Nat := 4
noncomputable def f_X6_open_258    (μ : jM) : Option (Int32 × jM) := some ((μ.1 0 6), μ)
noncomputable def f_X6_open_204  (k166 : Int32 → jM → Option (Int32 × jM)) : Nat → Int32 → Int64 → Int32 → jM → Option (Int32 × jM)
  | 0, _, _, _, _ => none
  | fu + 1, x1, x2, x4, μ => if (μ.1 0 1) ≤ x4 then (jlet (x1 + (1 : Int32)) (fun z1 : Int32 => k166 z1 μ)) else (jin (((μ.1 0 1) * x1) + x4) 240 (jlet (jsI μ 1 ((((μ.1 0 1) * x1) + x4)).toNatClampNeg ((((x2 >>> ((((8 : Int32) * (((μ.1 0 1) - (1 : Int32)) - x4))).toInt64 &&& 63)) &&& (255 : Int64))).toInt32)) (fun μ2 : jM => jlet (x4 + (1 : Int32)) (fun z3 : Int32 => f_X6_open_204  k166 fu x1 x2 z3 μ2))))
noncomputable def f_X6_open_166   : Nat → Int32 → jM → Option (Int32 × jM)
  | 0, _, _ => none
  | fu + 1, x1, μ => if (μ.1 0 4) = (1 : Int32) then (jnz (μ.1 0 1) (if ((μ.1 0 20) / (μ.1 0 1)) ≤ x1 then (f_X6_open_258     μ) else (jcall (f_X6_unitOf x1 μ) (fun (r6 : Int64) (μ6 : jM) => jcall (f_X6_unitOf (x1 - (1 : Int32)) μ6) (fun (r7 : Int64) (μ7 : jM) => jlet (r6 + r7) (fun z8 : Int64 => f_X6_open_204  (fun x1 μ => f_X6_open_166   fu x1 μ) jFU x1 z8 (0 : Int32) μ7)))))) else (f_X6_open_258     μ)
noncomputable def f_X6_open_138   : Nat → Int32 → jM → Option (Int32 × jM)
  | 0, _, _ => none
  | fu + 1, x1, μ => if (μ.1 0 20) ≤ x1 then (f_X6_open_166   jFU (1 : Int32) μ) else (jin x1 256 (jin x1 240 (jlet (jsI μ 1 (x1).toNatClampNeg (μ.1 7 (x1).toNatClampNeg)) (fun μ12 : jM => jlet (x1 + (1 : Int32)) (fun z13 : Int32 => f_X6_open_138   fu z13 μ12)))))
noncomputable def f_X6_open_97  (k57 : jM → Option (Int32 × jM)) (s0 : Int32) (μ : jM) : Option (Int32 × jM) := if (0 : Int32) ≤ s0 then (k57  μ) else (some (s0, μ))
noncomputable def f_X6_open_57   : Nat → jM → Option (Int32 × jM)
  | 0, _ => none
  | fu + 1, μ => if (μ.1 0 24) = (0 : Int32) then (if (μ.1 0 0) = (0 : Int32) then (jcall (f_X6_openMarked  μ) (fun (r22 : Int32) (μ22 : jM) => f_X6_open_97  (fun  μ => f_X6_open_57   fu  μ)  r22 μ22)) else (if (μ.1 0 0) = (1 : Int32) then (jcall (f_X6_openSigned  μ) (fun (r20 : Int32) (μ20 : jM) => f_X6_open_97  (fun  μ => f_X6_open_57   fu  μ)  r20 μ20)) else (jcall (f_X6_openRows  μ) (fun (r19 : Int32) (μ19 : jM) => f_X6_open_97  (fun  μ => f_X6_open_57   fu  μ)  r19 μ19)))) else (if (μ.1 0 8) ≤ (μ.1 0 21) then (jlet (jsI μ 0 6 (μ.1 0 20)) (fun μ16 : jM => f_X6_open_138   jFU (0 : Int32) μ16)) else (jcall (f_X6_fails (5 : Int32) (μ.1 0 21) μ) (fun (r17 : Int32) (μ17 : jM) => some (r17, μ17))))
noncomputable def f_X6_open_37   : Nat → Int32 → jM → Option (Int32 × jM)
  | 0, _, _ => none
  | fu + 1, x1, μ => if (256 : Int32) ≤ x1 then (f_X6_open_57   jFU  μ) else (jin x1 256 (jlet (jsI μ 7 (x1).toNatClampNeg (0 : Int32)) (fun μ25 : jM => jlet (x1 + (1 : Int32)) (fun z26 : Int32 => f_X6_open_37   fu z26 μ25))))
noncomputable def f_X6_open  (μ : jM) : Option (Int32 × jM) := jlet (jsI μ 0 13 (0 : Int32)) (fun μ28 : jM => jlet (jsI μ28 0 12 (0 : Int32)) (fun μ29 : jM => jlet (jsI μ29 0 20 (0 : Int32)) (fun μ30 : jM => jlet (jsI μ30 0 21 (0 : Int32)) (fun μ31 : jM => jlet (jsI μ31 0 22 (0 : Int32)) (fun μ32 : jM => jlet (jsI μ32 0 23 (0 : Int32)) (fun μ33 : jM => jbl (0 : Int32) (jlet (jsI μ33 0 24 (0 : Int32)) (fun μ34 : jM => f_X6_open_37   jFU (0 : Int32) μ34))))))))
set_option maxHeartbeats 4000000 in
theorem t_X6_open_258 {Γ : jC} {Δ : jD} {r : Int32} {μ9 : jM}    (X : jOk Γ Δ shM cX6_open 5 RX6 (some .int) D_X6_open)  : ∀ (μ : jM), f_X6_open_258    μ = some (r, μ9) → jG Γ Δ shM (some (.int r), μ9) 258 [some (jr Δ 0), none, none, none, none] [] μ := by
  intro  μ hf
  unfold f_X6_open_258 at hf
  refine g_ald_n (pc := 258) (i := 0) X dX6_open_258 rfl rfl ?_
  refine g_getI (pc := 259) (k := 6) X dX6_open_259 cl_X6 rfl rfl (by decide) w_667 ?_
  exact g_iret (pc := 262) X dX6_open_262 hf
set_option maxHeartbeats 4000000 in
theorem t_X6_open_204 {Γ : jC} {Δ : jD} {r : Int32} {μ9 : jM}  {k166 : Int32 → jM → Option (Int32 × jM)}  (X : jOk Γ Δ shM cX6_open 5 RX6 (some .int) D_X6_open) (hk166 : ∀ (x1 : Int32) (μ : jM), k166 x1 μ = some (r, μ9) → jG Γ Δ shM (some (.int r), μ9) 166 [some (jr Δ 0), some (.int x1), none, none, none] [] μ) : ∀ (fu : Nat) (x1 : Int32) (x2 : Int64) (x4 : Int32) (μ : jM), f_X6_open_204  k166 fu x1 x2 x4 μ = some (r, μ9) → jG Γ Δ shM (some (.int r), μ9) 204 [some (jr Δ 0), some (.int x1), some (.long x2), none, some (.int x4)] [] μ := by
  intro fu
  induction fu with
  | zero =>
    intro x1 x2 x4 μ hf
    cases hf
  | succ fu ih =>
    intro x1 x2 x4 μ hf
    replace hf := (f_X6_open_204.eq_2 _ _ _ _ _ _).symm.trans hf
    refine g_ild (pc := 204) X dX6_open_204 rfl ?_
    refine g_ald_n (pc := 206) (i := 0) X dX6_open_206 rfl rfl ?_
    refine g_getI (pc := 207) (k := 1) X dX6_open_207 cl_X6 rfl rfl (by decide) w_662 ?_
    refine g_icmp_ge (pc := 210) 252 X dX6_open_210 (by decide) (fun h4 => ?_) (fun h4 => ?_)
    · replace hf := jt_i h4 hf
      obtain ⟨z1, ez1⟩ : ∃ z : Int32, z = x1 + (1 : Int32) := ⟨_, rfl⟩
      replace hf := jlet_i ez1 hf
      refine g_iinc (pc := 252) (L1 := [some (jr Δ 0), some (.int z1), some (.long x2), none, some (.int x4)]) X dX6_open_252 rfl (by rw [ez1]; rfl) rfl rfl ?_
      refine g_goto (pc := 255) 166 X dX6_open_255 (by decide) ?_
      exact g_weak (hk166 _ _ hf) (⟨rfl, ⟨rfl, trivial⟩⟩)
    · replace hf := jf_i h4 hf
      refine g_ald_n (pc := 213) (i := 0) X dX6_open_213 rfl rfl ?_
      refine g_getR (pc := 214) (k := 5) X dX6_open_214 cl_X6 rfl rfl (by decide) w_666 ?_
      refine g_ald_n (pc := 217) (i := 0) X dX6_open_217 rfl rfl ?_
      refine g_getI (pc := 218) (k := 1) X dX6_open_218 cl_X6 rfl rfl (by decide) w_662 ?_
      refine g_ild_n (pc := 221) (i := 1) X dX6_open_221 rfl rfl ?_
      refine g_imul (pc := 222) X dX6_open_222 ?_
      refine g_ild (pc := 223) X dX6_open_223 rfl ?_
      refine g_iadd (pc := 225) X dX6_open_225 ?_
      refine g_lld_n (pc := 226) (i := 2) X dX6_open_226 rfl rfl ?_
      refine g_bipush (pc := 227) (v := (8 : Int32)) X dX6_open_227 (by decide) ?_
      refine g_ald_n (pc := 229) (i := 0) X dX6_open_229 rfl rfl ?_
      refine g_getI (pc := 230) (k := 1) X dX6_open_230 cl_X6 rfl rfl (by decide) w_662 ?_
      refine g_iconst (pc := 233) (v := (1 : Int32)) X dX6_open_233 (by decide) ?_
      refine g_isub (pc := 234) X dX6_open_234 ?_
      refine g_ild (pc := 235) X dX6_open_235 rfl ?_
      refine g_isub (pc := 237) X dX6_open_237 ?_
      refine g_imul (pc := 238) X dX6_open_238 ?_
      refine g_lshr (pc := 239) X dX6_open_239 ?_
      refine g_ldc2 (pc := 240) X dX6_open_240 w_908 ?_
      refine g_land (pc := 243) X dX6_open_243 ?_
      refine g_l2i (pc := 244) X dX6_open_244 ?_
      obtain ⟨hi2, hf⟩ := jin_i hf
      refine g_iast (pc := 245) X dX6_open_245 rfl hi2 ?_
      refine g_nmM (fun μ2 eμ2 => ?_)
      replace hf := jlet_i eμ2 hf
      obtain ⟨z3, ez3⟩ : ∃ z : Int32, z = x4 + (1 : Int32) := ⟨_, rfl⟩
      replace hf := jlet_i ez3 hf
      refine g_iinc (pc := 246) (L1 := [some (jr Δ 0), some (.int x1), some (.long x2), none, some (.int z3)]) X dX6_open_246 rfl (by rw [ez3]; rfl) rfl rfl ?_
      refine g_goto (pc := 249) 204 X dX6_open_249 (by decide) ?_
      exact g_weak (ih _ _ _ _ hf) (⟨rfl, ⟨rfl, ⟨rfl, ⟨rfl, trivial⟩⟩⟩⟩)
set_option maxHeartbeats 4000000 in
theorem t_X6_open_166 {Γ : jC} {Δ : jD} {r : Int32} {μ9 : jM}    (X : jOk Γ Δ shM cX6_open 5 RX6 (some .int) D_X6_open)  : ∀ (fu : Nat) (x1 : Int32) (μ : jM), f_X6_open_166   fu x1 μ = some (r, μ9) → jG Γ Δ shM (some (.int r), μ9) 166 [some (jr Δ 0), some (.int x1), none, none, none] [] μ := by
  intro fu
  induction fu with
  | zero =>
    intro x1 μ hf
    cases hf
  | succ fu ih =>
    intro x1 μ hf
    replace hf := (f_X6_open_166.eq_2 _ _ _).symm.trans hf
    refine g_ald_n (pc := 166) (i := 0) X dX6_open_166 rfl rfl ?_
    refine g_getI (pc := 167) (k := 4) X dX6_open_167 cl_X6 rfl rfl (by decide) w_665 ?_
    refine g_iconst (pc := 170) (v := (1 : Int32)) X dX6_open_170 (by decide) ?_
    refine g_icmp_ne (pc := 171) 258 X dX6_open_171 (by decide) (fun h10 => ?_) (fun h10 => ?_)
    · replace hf := jf_i h10 hf
      exact g_weak (t_X6_open_258  X    _ hf) (⟨rfl, trivial⟩)
    · replace hf := jt_i h10 hf
      refine g_ild_n (pc := 174) (i := 1) X dX6_open_174 rfl rfl ?_
      refine g_ald_n (pc := 175) (i := 0) X dX6_open_175 rfl rfl ?_
      refine g_getI (pc := 176) (k := 20) X dX6_open_176 cl_X6 rfl rfl (by decide) w_681 ?_
      refine g_ald_n (pc := 179) (i := 0) X dX6_open_179 rfl rfl ?_
      refine g_getI (pc := 180) (k := 1) X dX6_open_180 cl_X6 rfl rfl (by decide) w_662 ?_
      obtain ⟨hz5, hf⟩ := jnz_i hf
      refine g_idiv (pc := 183) X dX6_open_183 hz5 ?_
      refine g_icmp_ge (pc := 184) 258 X dX6_open_184 (by decide) (fun h9 => ?_) (fun h9 => ?_)
      · replace hf := jt_i h9 hf
        exact g_weak (t_X6_open_258  X    _ hf) (⟨rfl, trivial⟩)
      · replace hf := jf_i h9 hf
        refine g_ald_n (pc := 187) (i := 0) X dX6_open_187 rfl rfl ?_
        refine g_ild_n (pc := 188) (i := 1) X dX6_open_188 rfl rfl ?_
        obtain ⟨r6, μ6, hc6, hf⟩ := jcall_i hf
        refine g_callVl (pc := 189) [.int x1] X dX6_open_189 (M_X6_unitOf  (jOk_sep X) hc6) Y_X6_unitOf w_782 ws_8 w_784 cl_X6 rfl rfl (by decide) rfl rfl (Nat.le_of_ble_eq_true rfl) rfl ?_
        refine g_ald_n (pc := 192) (i := 0) X dX6_open_192 rfl rfl ?_
        refine g_ild_n (pc := 193) (i := 1) X dX6_open_193 rfl rfl ?_
        refine g_iconst (pc := 194) (v := (1 : Int32)) X dX6_open_194 (by decide) ?_
        refine g_isub (pc := 195) X dX6_open_195 ?_
        obtain ⟨r7, μ7, hc7, hf⟩ := jcall_i hf
        refine g_callVl (pc := 196) [.int (x1 - (1 : Int32))] X dX6_open_196 (M_X6_unitOf  (jOk_sep X) hc7) Y_X6_unitOf w_782 ws_8 w_784 cl_X6 rfl rfl (by decide) rfl rfl (Nat.le_of_ble_eq_true rfl) rfl ?_
        refine g_ladd (pc := 199) X dX6_open_199 ?_
        refine g_nmJ (fun z8 ez8 => ?_)
        replace hf := jlet_i ez8 hf
        refine g_lst_n (pc := 200) (i := 2) (L1 := [some (jr Δ 0), some (.int x1), some (.long z8), none, none]) X dX6_open_200 rfl (Nat.le_of_ble_eq_true rfl) rfl rfl ?_
        refine g_iconst (pc := 201) (v := (0 : Int32)) X dX6_open_201 (by decide) ?_
        refine g_ist (pc := 202) (L1 := [some (jr Δ 0), some (.int x1), some (.long z8), none, some (.int (0 : Int32))]) X dX6_open_202 (Nat.le_of_ble_eq_true rfl) rfl rfl ?_
        exact g_weak (t_X6_open_204  X (fun _ _ h => ih _ _ h) jFU _ _ _ _ hf) (⟨rfl, ⟨rfl, ⟨rfl, ⟨rfl, trivial⟩⟩⟩⟩)
set_option maxHeartbeats 4000000 in
theorem t_X6_open_138 {Γ : jC} {Δ : jD} {r : Int32} {μ9 : jM}    (X : jOk Γ Δ shM cX6_open 5 RX6 (some .int) D_X6_open)  : ∀ (fu : Nat) (x1 : Int32) (μ : jM), f_X6_open_138   fu x1 μ = some (r, μ9) → jG Γ Δ shM (some (.int r), μ9) 138 [some (jr Δ 0), some (.int x1), none, none, none] [] μ := by
  intro fu
  induction fu with
  | zero =>
    intro x1 μ hf
    cases hf
  | succ fu ih =>
    intro x1 μ hf
    replace hf := (f_X6_open_138.eq_2 _ _ _).symm.trans hf
    refine g_ild_n (pc := 138) (i := 1) X dX6_open_138 rfl rfl ?_
    refine g_ald_n (pc := 139) (i := 0) X dX6_open_139 rfl rfl ?_
    refine g_getI (pc := 140) (k := 20) X dX6_open_140 cl_X6 rfl rfl (by decide) w_681 ?_
    refine g_icmp_ge (pc := 143) 164 X dX6_open_143 (by decide) (fun h14 => ?_) (fun h14 => ?_)
    · replace hf := jt_i h14 hf
      refine g_iconst (pc := 164) (v := (1 : Int32)) X dX6_open_164 (by decide) ?_
      refine g_ist_n (pc := 165) (i := 1) (L1 := [some (jr Δ 0), some (.int (1 : Int32)), none, none, none]) X dX6_open_165 rfl (Nat.le_of_ble_eq_true rfl) rfl rfl ?_
      exact g_weak (t_X6_open_166  X  jFU _ _ hf) (⟨rfl, ⟨rfl, trivial⟩⟩)
    · replace hf := jf_i h14 hf
      refine g_ald_n (pc := 146) (i := 0) X dX6_open_146 rfl rfl ?_
      refine g_getR (pc := 147) (k := 5) X dX6_open_147 cl_X6 rfl rfl (by decide) w_666 ?_
      refine g_ild_n (pc := 150) (i := 1) X dX6_open_150 rfl rfl ?_
      refine g_ald_n (pc := 151) (i := 0) X dX6_open_151 rfl rfl ?_
      refine g_getR (pc := 152) (k := 19) X dX6_open_152 cl_X6 rfl rfl (by decide) w_680 ?_
      refine g_ild_n (pc := 155) (i := 1) X dX6_open_155 rfl rfl ?_
      obtain ⟨hi11, hf⟩ := jin_i hf
      refine g_iald (pc := 156) X dX6_open_156 rfl hi11 ?_
      obtain ⟨hi12, hf⟩ := jin_i hf
      refine g_iast (pc := 157) X dX6_open_157 rfl hi12 ?_
      refine g_nmM (fun μ12 eμ12 => ?_)
      replace hf := jlet_i eμ12 hf
      obtain ⟨z13, ez13⟩ : ∃ z : Int32, z = x1 + (1 : Int32) := ⟨_, rfl⟩
      replace hf := jlet_i ez13 hf
      refine g_iinc (pc := 158) (L1 := [some (jr Δ 0), some (.int z13), none, none, none]) X dX6_open_158 rfl (by rw [ez13]; rfl) rfl rfl ?_
      refine g_goto (pc := 161) 138 X dX6_open_161 (by decide) ?_
      exact g_weak (ih _ _ hf) (⟨rfl, ⟨rfl, trivial⟩⟩)
set_option maxHeartbeats 4000000 in
theorem t_X6_open_97 {Γ : jC} {Δ : jD} {r : Int32} {μ9 : jM}  {k57 : jM → Option (Int32 × jM)}  (X : jOk Γ Δ shM cX6_open 5 RX6 (some .int) D_X6_open) (hk57 : ∀ (μ : jM), k57  μ = some (r, μ9) → jG Γ Δ shM (some (.int r), μ9) 57 [some (jr Δ 0), none, none, none, none] [] μ) : ∀ (s0 : Int32) (μ : jM), f_X6_open_97  k57 s0 μ = some (r, μ9) → jG Γ Δ shM (some (.int r), μ9) 97 [some (jr Δ 0), none, none, none, none] [.int s0] μ := by
  intro s0 μ hf
  unfold f_X6_open_97 at hf
  refine g_ist_n (pc := 97) (i := 1) (L1 := [some (jr Δ 0), some (.int s0), none, none, none]) X dX6_open_97 rfl (Nat.le_of_ble_eq_true rfl) rfl rfl ?_
  refine g_ild_n (pc := 98) (i := 1) X dX6_open_98 rfl rfl ?_
  refine g_if_ge (pc := 99) 104 X dX6_open_99 (by decide) (fun h15 => ?_) (fun h15 => ?_)
  · replace hf := jt_i h15 hf
    refine g_goto (pc := 104) 57 X dX6_open_104 (by decide) ?_
    exact g_weak (hk57  _ hf) (⟨rfl, trivial⟩)
  · replace hf := jf_i h15 hf
    refine g_ild_n (pc := 102) (i := 1) X dX6_open_102 rfl rfl ?_
    exact g_iret (pc := 103) X dX6_open_103 hf
set_option maxHeartbeats 4000000 in
theorem t_X6_open_57 {Γ : jC} {Δ : jD} {r : Int32} {μ9 : jM}    (X : jOk Γ Δ shM cX6_open 5 RX6 (some .int) D_X6_open)  : ∀ (fu : Nat)  (μ : jM), f_X6_open_57   fu  μ = some (r, μ9) → jG Γ Δ shM (some (.int r), μ9) 57 [some (jr Δ 0), none, none, none, none] [] μ := by
  intro fu
  induction fu with
  | zero =>
    intro  μ hf
    cases hf
  | succ fu ih =>
    intro  μ hf
    replace hf := (f_X6_open_57.eq_2 _ _).symm.trans hf
    refine g_ald_n (pc := 57) (i := 0) X dX6_open_57 rfl rfl ?_
    refine g_getI (pc := 58) (k := 24) X dX6_open_58 cl_X6 rfl rfl (by decide) w_685 ?_
    refine g_if_ne (pc := 61) 107 X dX6_open_61 (by decide) (fun h24 => ?_) (fun h24 => ?_)
    · replace hf := jf_i h24 hf
      refine g_ald_n (pc := 107) (i := 0) X dX6_open_107 rfl rfl ?_
      refine g_getI (pc := 108) (k := 21) X dX6_open_108 cl_X6 rfl rfl (by decide) w_682 ?_
      refine g_ald_n (pc := 111) (i := 0) X dX6_open_111 rfl rfl ?_
      refine g_getI (pc := 112) (k := 8) X dX6_open_112 cl_X6 rfl rfl (by decide) w_669 ?_
      refine g_icmp_ge (pc := 115) 128 X dX6_open_115 (by decide) (fun h18 => ?_) (fun h18 => ?_)
      · replace hf := jt_i h18 hf
        refine g_ald_n (pc := 128) (i := 0) X dX6_open_128 rfl rfl ?_
        refine g_ald_n (pc := 129) (i := 0) X dX6_open_129 rfl rfl ?_
        refine g_getI (pc := 130) (k := 20) X dX6_open_130 cl_X6 rfl rfl (by decide) w_681 ?_
        refine g_putI (pc := 133) (k := 6) X dX6_open_133 cl_X6 rfl rfl (by decide) w_667 rfl rfl rfl ?_
        refine g_nmM (fun μ16 eμ16 => ?_)
        replace hf := jlet_i eμ16 hf
        refine g_iconst (pc := 136) (v := (0 : Int32)) X dX6_open_136 (by decide) ?_
        refine g_ist_n (pc := 137) (i := 1) (L1 := [some (jr Δ 0), some (.int (0 : Int32)), none, none, none]) X dX6_open_137 rfl (Nat.le_of_ble_eq_true rfl) rfl rfl ?_
        exact g_weak (t_X6_open_138  X  jFU _ _ hf) (⟨rfl, ⟨rfl, trivial⟩⟩)
      · replace hf := jf_i h18 hf
        refine g_ald_n (pc := 118) (i := 0) X dX6_open_118 rfl rfl ?_
        refine g_iconst (pc := 119) (v := (5 : Int32)) X dX6_open_119 (by decide) ?_
        refine g_ald_n (pc := 120) (i := 0) X dX6_open_120 rfl rfl ?_
        refine g_getI (pc := 121) (k := 21) X dX6_open_121 cl_X6 rfl rfl (by decide) w_682 ?_
        obtain ⟨r17, μ17, hc17, hf⟩ := jcall_i hf
        refine g_callVi (pc := 124) [.int (5 : Int32), .int (μ.1 0 21)] X dX6_open_124 (M_X6_fails  (jOk_sep X) hc17) Y_X6_fails w_868 ws_28 w_870 cl_X6 rfl rfl (by decide) rfl rfl (Nat.le_of_ble_eq_true rfl) rfl ?_
        exact g_iret (pc := 127) X dX6_open_127 hf
    · replace hf := jt_i h24 hf
      refine g_ald_n (pc := 64) (i := 0) X dX6_open_64 rfl rfl ?_
      refine g_getI (pc := 65) (k := 0) X dX6_open_65 cl_X6 rfl rfl (by decide) w_661 ?_
      refine g_if_ne (pc := 68) 78 X dX6_open_68 (by decide) (fun h23 => ?_) (fun h23 => ?_)
      · replace hf := jf_i h23 hf
        refine g_ald_n (pc := 78) (i := 0) X dX6_open_78 rfl rfl ?_
        refine g_getI (pc := 79) (k := 0) X dX6_open_79 cl_X6 rfl rfl (by decide) w_661 ?_
        refine g_iconst (pc := 82) (v := (1 : Int32)) X dX6_open_82 (by decide) ?_
        refine g_icmp_ne (pc := 83) 93 X dX6_open_83 (by decide) (fun h21 => ?_) (fun h21 => ?_)
        · replace hf := jf_i h21 hf
          refine g_ald_n (pc := 93) (i := 0) X dX6_open_93 rfl rfl ?_
          obtain ⟨r19, μ19, hc19, hf⟩ := jcall_i hf
          refine g_callVi (pc := 94) [] X dX6_open_94 (M_X6_openRows  (jOk_sep X) hc19) Y_X6_openRows w_880 ws_31 w_882 cl_X6 rfl rfl (by decide) rfl rfl (Nat.le_of_ble_eq_true rfl) rfl ?_
          exact g_weak (t_X6_open_97  X (fun  _ h => ih  _ h)  _ _ hf) (⟨rfl, trivial⟩)
        · replace hf := jt_i h21 hf
          refine g_ald_n (pc := 86) (i := 0) X dX6_open_86 rfl rfl ?_
          obtain ⟨r20, μ20, hc20, hf⟩ := jcall_i hf
          refine g_callVi (pc := 87) [] X dX6_open_87 (M_X6_openSigned  (jOk_sep X) hc20) Y_X6_openSigned w_876 ws_30 w_878 cl_X6 rfl rfl (by decide) rfl rfl (Nat.le_of_ble_eq_true rfl) rfl ?_
          refine g_goto (pc := 90) 97 X dX6_open_90 (by decide) ?_
          exact g_weak (t_X6_open_97  X (fun  _ h => ih  _ h)  _ _ hf) (⟨rfl, trivial⟩)
      · replace hf := jt_i h23 hf
        refine g_ald_n (pc := 71) (i := 0) X dX6_open_71 rfl rfl ?_
        obtain ⟨r22, μ22, hc22, hf⟩ := jcall_i hf
        refine g_callVi (pc := 72) [] X dX6_open_72 (M_X6_openMarked  (jOk_sep X) hc22) Y_X6_openMarked w_864 ws_27 w_866 cl_X6 rfl rfl (by decide) rfl rfl (Nat.le_of_ble_eq_true rfl) rfl ?_
        refine g_goto (pc := 75) 97 X dX6_open_75 (by decide) ?_
        exact g_weak (t_X6_open_97  X (fun  _ h => ih  _ h)  _ _ hf) (⟨rfl, trivial⟩)
set_option maxHeartbeats 4000000 in
theorem t_X6_open_37 {Γ : jC} {Δ : jD} {r : Int32} {μ9 : jM}    (X : jOk Γ Δ shM cX6_open 5 RX6 (some .int) D_X6_open)  : ∀ (fu : Nat) (x1 : Int32) (μ : jM), f_X6_open_37   fu x1 μ = some (r, μ9) → jG Γ Δ shM (some (.int r), μ9) 37 [some (jr Δ 0), some (.int x1), none, none, none] [] μ := by
  intro fu
  induction fu with
  | zero =>
    intro x1 μ hf
    cases hf
  | succ fu ih =>
    intro x1 μ hf
    replace hf := (f_X6_open_37.eq_2 _ _ _).symm.trans hf
    refine g_ild_n (pc := 37) (i := 1) X dX6_open_37 rfl rfl ?_
    refine g_sipush (pc := 38) (v := (256 : Int32)) X dX6_open_38 (by decide) ?_
    refine g_icmp_ge (pc := 41) 57 X dX6_open_41 (by decide) (fun h27 => ?_) (fun h27 => ?_)
    · replace hf := jt_i h27 hf
      exact g_weak (t_X6_open_57  X  jFU  _ hf) (⟨rfl, trivial⟩)
    · replace hf := jf_i h27 hf
      refine g_ald_n (pc := 44) (i := 0) X dX6_open_44 rfl rfl ?_
      refine g_getR (pc := 45) (k := 19) X dX6_open_45 cl_X6 rfl rfl (by decide) w_680 ?_
      refine g_ild_n (pc := 48) (i := 1) X dX6_open_48 rfl rfl ?_
      refine g_iconst (pc := 49) (v := (0 : Int32)) X dX6_open_49 (by decide) ?_
      obtain ⟨hi25, hf⟩ := jin_i hf
      refine g_iast (pc := 50) X dX6_open_50 rfl hi25 ?_
      refine g_nmM (fun μ25 eμ25 => ?_)
      replace hf := jlet_i eμ25 hf
      obtain ⟨z26, ez26⟩ : ∃ z : Int32, z = x1 + (1 : Int32) := ⟨_, rfl⟩
      replace hf := jlet_i ez26 hf
      refine g_iinc (pc := 51) (L1 := [some (jr Δ 0), some (.int z26), none, none, none]) X dX6_open_51 rfl (by rw [ez26]; rfl) rfl rfl ?_
      refine g_goto (pc := 54) 37 X dX6_open_54 (by decide) ?_
      exact g_weak (ih _ _ hf) (⟨rfl, ⟨rfl, trivial⟩⟩)
set_option maxHeartbeats 4000000 in
theorem M_X6_open {l : Launch} {Δ : jD} {r : Int32} {μ μ9 : jM}   (hsep : jSep Δ shM) (hf : f_X6_open  μ = some (r, μ9)) : jMet l yX6_open cX6_open 5 (some .int) D_X6_open Δ shM [jr Δ 0] μ (some (.int r), μ9) := by
  refine jMet_of (own := RX6) (L := [some (jr Δ 0), none, none, none, none]) (by decide) rfl (Nat.le_of_ble_eq_true rfl) rfl hsep (fun Γ _ X => ?_)
  unfold f_X6_open at hf
  refine g_ald_n (pc := 0) (i := 0) X dX6_open_0 rfl rfl ?_
  refine g_iconst (pc := 1) (v := (0 : Int32)) X dX6_open_1 (by decide) ?_
  refine g_putI (pc := 2) (k := 13) X dX6_open_2 cl_X6 rfl rfl (by decide) w_674 rfl rfl rfl ?_
  refine g_nmM (fun μ28 eμ28 => ?_)
  replace hf := jlet_i eμ28 hf
  refine g_ald_n (pc := 5) (i := 0) X dX6_open_5 rfl rfl ?_
  refine g_iconst (pc := 6) (v := (0 : Int32)) X dX6_open_6 (by decide) ?_
  refine g_putI (pc := 7) (k := 12) X dX6_open_7 cl_X6 rfl rfl (by decide) w_673 rfl rfl rfl ?_
  refine g_nmM (fun μ29 eμ29 => ?_)
  replace hf := jlet_i eμ29 hf
  refine g_ald_n (pc := 10) (i := 0) X dX6_open_10 rfl rfl ?_
  refine g_iconst (pc := 11) (v := (0 : Int32)) X dX6_open_11 (by decide) ?_
  refine g_putI (pc := 12) (k := 20) X dX6_open_12 cl_X6 rfl rfl (by decide) w_681 rfl rfl rfl ?_
  refine g_nmM (fun μ30 eμ30 => ?_)
  replace hf := jlet_i eμ30 hf
  refine g_ald_n (pc := 15) (i := 0) X dX6_open_15 rfl rfl ?_
  refine g_iconst (pc := 16) (v := (0 : Int32)) X dX6_open_16 (by decide) ?_
  refine g_putI (pc := 17) (k := 21) X dX6_open_17 cl_X6 rfl rfl (by decide) w_682 rfl rfl rfl ?_
  refine g_nmM (fun μ31 eμ31 => ?_)
  replace hf := jlet_i eμ31 hf
  refine g_ald_n (pc := 20) (i := 0) X dX6_open_20 rfl rfl ?_
  refine g_iconst (pc := 21) (v := (0 : Int32)) X dX6_open_21 (by decide) ?_
  refine g_putI (pc := 22) (k := 22) X dX6_open_22 cl_X6 rfl rfl (by decide) w_683 rfl rfl rfl ?_
  refine g_nmM (fun μ32 eμ32 => ?_)
  replace hf := jlet_i eμ32 hf
  refine g_ald_n (pc := 25) (i := 0) X dX6_open_25 rfl rfl ?_
  refine g_iconst (pc := 26) (v := (0 : Int32)) X dX6_open_26 (by decide) ?_
  refine g_putI (pc := 27) (k := 23) X dX6_open_27 cl_X6 rfl rfl (by decide) w_684 rfl rfl rfl ?_
  refine g_nmM (fun μ33 eμ33 => ?_)
  replace hf := jlet_i eμ33 hf
  refine g_ald_n (pc := 30) (i := 0) X dX6_open_30 rfl rfl ?_
  refine g_iconst (pc := 31) (v := (0 : Int32)) X dX6_open_31 (by decide) ?_
  obtain ⟨hb35, hf⟩ := jbl_i hf
  refine g_putI (pc := 32) (k := 24) X dX6_open_32 cl_X6 rfl rfl (by decide) w_685 rfl (jb_n hb35) (jb_f hb35) ?_
  refine g_nmM (fun μ34 eμ34 => ?_)
  replace hf := jlet_i eμ34 hf
  refine g_iconst (pc := 35) (v := (0 : Int32)) X dX6_open_35 (by decide) ?_
  refine g_ist_n (pc := 36) (i := 1) (L1 := [some (jr Δ 0), some (.int (0 : Int32)), none, none, none]) X dX6_open_36 rfl (Nat.le_of_ble_eq_true rfl) rfl rfl ?_
  exact g_weak (t_X6_open_37  X  jFU _ _ hf) (⟨rfl, ⟨rfl, trivial⟩⟩)
/-! X6_fault -/
abbrev D_X6_fault : Nat := 0
noncomputable def f_X6_fault  (μ : jM) : Option (Int32 × jM) := jlet (jsI μ 0 13 (0 : Int32)) (fun μ1 : jM => some ((μ1.1 0 12), μ1))
set_option maxHeartbeats 4000000 in
theorem M_X6_fault {l : Launch} {Δ : jD} {r : Int32} {μ μ9 : jM}   (hsep : jSep Δ shM) (hf : f_X6_fault  μ = some (r, μ9)) : jMet l yX6_fault cX6_fault 1 (some .int) D_X6_fault Δ shM [jr Δ 0] μ (some (.int r), μ9) := by
  refine jMet_of (own := RX6) (L := [some (jr Δ 0)]) (by decide) rfl (Nat.le_of_ble_eq_true rfl) rfl hsep (fun Γ _ X => ?_)
  unfold f_X6_fault at hf
  refine g_ald_n (pc := 0) (i := 0) X dX6_fault_0 rfl rfl ?_
  refine g_iconst (pc := 1) (v := (0 : Int32)) X dX6_fault_1 (by decide) ?_
  refine g_putI (pc := 2) (k := 13) X dX6_fault_2 cl_X6 rfl rfl (by decide) w_674 rfl rfl rfl ?_
  refine g_nmM (fun μ1 eμ1 => ?_)
  replace hf := jlet_i eμ1 hf
  refine g_ald_n (pc := 5) (i := 0) X dX6_fault_5 rfl rfl ?_
  refine g_getI (pc := 6) (k := 12) X dX6_fault_6 cl_X6 rfl rfl (by decide) w_673 ?_
  exact g_iret (pc := 9) X dX6_fault_9 hf
