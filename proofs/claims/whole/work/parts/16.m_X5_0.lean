/-! X5_append -/
abbrev D_X5_append : Nat := 1
noncomputable def f_X5_append_27 (q1 : Nat) (n1 : Nat)  : Nat → Int32 → Int32 → Int32 → jM → Option (Int32 × jM)
  | 0, _, _, _, _ => none
  | fu + 1, x2, x3, x4, μ => if x2 ≤ x4 then (some ((μ.1 q1 1), μ)) else (jcall (f_X0_add q1 n1 x3 μ) (fun (r1 : Unit) (μ1 : jM) => jlet (x4 + (1 : Int32)) (fun z2 : Int32 => f_X5_append_27 q1 n1  fu x2 x3 z2 μ1)))
noncomputable def f_X5_append_11 (q1 : Nat) (n1 : Nat)   (μ : jM) : Option (Int32 × jM) := some ((-1 : Int32), μ)
noncomputable def f_X5_append (q1 : Nat) (n1 : Nat) (x2 : Int32) (x3 : Int32) (μ : jM) : Option (Int32 × jM) := if x3 < (0 : Int32) then (f_X5_append_11 q1 n1    μ) else (if x3 ≤ (255 : Int32) then (jcall (f_X0_hasRoom q1 n1 x2 μ) (fun (r4 : Int32) (μ4 : jM) => if r4 = (0 : Int32) then (some ((-2 : Int32), μ4)) else (f_X5_append_27 q1 n1  jFU x2 x3 (0 : Int32) μ4))) else (f_X5_append_11 q1 n1    μ))
set_option maxHeartbeats 4000000 in
theorem t_X5_append_27 {Γ : jC} {Δ : jD} {r : Int32} {μ9 : jM} {q1 : Nat} {n1 : Nat}  (hq1 : jOct q1 n1) (X : jOk Γ Δ shC cX5_append 5 RX5 (some .int) D_X5_append)  : ∀ (fu : Nat) (x2 : Int32) (x3 : Int32) (x4 : Int32) (μ : jM), f_X5_append_27 q1 n1  fu x2 x3 x4 μ = some (r, μ9) → jG Γ Δ shC (some (.int r), μ9) 27 [none, some (jr Δ q1), some (.int x2), some (.int x3), some (.int x4)] [] μ := by
  intro fu
  induction fu with
  | zero =>
    intro x2 x3 x4 μ hf
    cases hf
  | succ fu ih =>
    intro x2 x3 x4 μ hf
    replace hf := (f_X5_append_27.eq_2 _ _ _ _ _ _ _).symm.trans hf
    refine g_ild (pc := 27) X dX5_append_27 rfl ?_
    refine g_ild_n (pc := 29) (i := 2) X dX5_append_29 rfl rfl ?_
    refine g_icmp_ge (pc := 30) 44 X dX5_append_30 (by decide) (fun h3 => ?_) (fun h3 => ?_)
    · replace hf := jt_i h3 hf
      refine g_ald_n (pc := 44) (i := 1) X dX5_append_44 rfl rfl ?_
      refine g_getI (pc := 45) (k := 1) X dX5_append_45 cl_X0 hq1.1 rfl (by decide) w_75 ?_
      exact g_iret (pc := 48) X dX5_append_48 hf
    · replace hf := jf_i h3 hf
      refine g_ald_n (pc := 33) (i := 1) X dX5_append_33 rfl rfl ?_
      refine g_ild_n (pc := 34) (i := 3) X dX5_append_34 rfl rfl ?_
      obtain ⟨r1, μ1, hc1, hf⟩ := jcall_i hf
      refine g_callVv (pc := 35) [.int x3] X dX5_append_35 (M_X0_add hq1 (jOk_sep X) hc1) Y_X0_add w_230 w_232 w_231 cl_X0 rfl hq1.1 (by decide) rfl rfl (Nat.le_of_ble_eq_true rfl) rfl ?_
      obtain ⟨z2, ez2⟩ : ∃ z : Int32, z = x4 + (1 : Int32) := ⟨_, rfl⟩
      replace hf := jlet_i ez2 hf
      refine g_iinc (pc := 38) (L1 := [none, some (jr Δ q1), some (.int x2), some (.int x3), some (.int z2)]) X dX5_append_38 rfl (by rw [ez2]; rfl) rfl rfl ?_
      refine g_goto (pc := 41) 27 X dX5_append_41 (by decide) ?_
      exact g_weak (ih _ _ _ _ hf) (⟨rfl, ⟨rfl, ⟨rfl, ⟨rfl, trivial⟩⟩⟩⟩)
set_option maxHeartbeats 4000000 in
theorem t_X5_append_11 {Γ : jC} {Δ : jD} {r : Int32} {μ9 : jM} {q1 : Nat} {n1 : Nat}  (hq1 : jOct q1 n1) (X : jOk Γ Δ shC cX5_append 5 RX5 (some .int) D_X5_append)  : ∀ (μ : jM), f_X5_append_11 q1 n1   μ = some (r, μ9) → jG Γ Δ shC (some (.int r), μ9) 11 [none, none, none, none, none] [] μ := by
  intro  μ hf
  unfold f_X5_append_11 at hf
  refine g_iconst (pc := 11) (v := (-1 : Int32)) X dX5_append_11 (by decide) ?_
  exact g_iret (pc := 12) X dX5_append_12 hf
set_option maxHeartbeats 4000000 in
theorem M_X5_append {l : Launch} {Δ : jD} {r : Int32} {μ μ9 : jM} {q1 : Nat} {n1 : Nat} {x2 : Int32} {x3 : Int32} (hq1 : jOct q1 n1) (hsep : jSep Δ shC) (hf : f_X5_append q1 n1 x2 x3 μ = some (r, μ9)) : jMet l yX5_append cX5_append 5 (some .int) D_X5_append Δ shC [jr Δ 0, jr Δ q1, .int x2, .int x3] μ (some (.int r), μ9) := by
  refine jMet_of (own := RX5) (L := [some (jr Δ 0), some (jr Δ q1), some (.int x2), some (.int x3), none]) (by decide) rfl (Nat.le_of_ble_eq_true rfl) rfl hsep (fun Γ _ X => ?_)
  unfold f_X5_append at hf
  refine g_ild_n (pc := 0) (i := 3) X dX5_append_0 rfl rfl ?_
  refine g_if_lt (pc := 1) 11 X dX5_append_1 (by decide) (fun h7 => ?_) (fun h7 => ?_)
  · replace hf := jt_i h7 hf
    exact g_weak (t_X5_append_11 hq1 X    _ hf) (trivial)
  · replace hf := jf_i h7 hf
    refine g_ild_n (pc := 4) (i := 3) X dX5_append_4 rfl rfl ?_
    refine g_sipush (pc := 5) (v := (255 : Int32)) X dX5_append_5 (by decide) ?_
    refine g_icmp_le (pc := 8) 13 X dX5_append_8 (by decide) (fun h6 => ?_) (fun h6 => ?_)
    · replace hf := jt_i h6 hf
      refine g_ald_n (pc := 13) (i := 1) X dX5_append_13 rfl rfl ?_
      refine g_ild_n (pc := 14) (i := 2) X dX5_append_14 rfl rfl ?_
      obtain ⟨r4, μ4, hc4, hf⟩ := jcall_i hf
      refine g_callVi (pc := 15) [.int x2] X dX5_append_15 (M_X0_hasRoom hq1 (jOk_sep X) hc4) Y_X0_hasRoom w_226 w_228 w_227 cl_X0 rfl hq1.1 (by decide) rfl rfl (Nat.le_of_ble_eq_true rfl) rfl ?_
      refine g_if_ne (pc := 18) 24 X dX5_append_18 (by decide) (fun h5 => ?_) (fun h5 => ?_)
      · replace hf := jf_i h5 hf
        refine g_iconst (pc := 24) (v := (0 : Int32)) X dX5_append_24 (by decide) ?_
        refine g_ist (pc := 25) (L1 := [some (jr Δ 0), some (jr Δ q1), some (.int x2), some (.int x3), some (.int (0 : Int32))]) X dX5_append_25 (Nat.le_of_ble_eq_true rfl) rfl rfl ?_
        exact g_weak (t_X5_append_27 hq1 X  jFU _ _ _ _ hf) (⟨rfl, ⟨rfl, ⟨rfl, ⟨rfl, trivial⟩⟩⟩⟩)
      · replace hf := jt_i h5 hf
        refine g_bipush (pc := 21) (v := (-2 : Int32)) X dX5_append_21 (by decide) ?_
        exact g_iret (pc := 23) X dX5_append_23 hf
    · replace hf := jf_i h6 hf
      exact g_weak (t_X5_append_11 hq1 X    _ hf) (trivial)
/-! X5_octet -/
abbrev D_X5_octet : Nat := 2
noncomputable def f_X5_octet (x1 : Int32) (μ : jM) : Option (Int32 × jM) := jcall (f_X5_append 2 240 (1 : Int32) x1 μ) (fun (r1 : Int32) (μ1 : jM) => some (r1, μ1))
set_option maxHeartbeats 4000000 in
theorem M_X5_octet {l : Launch} {Δ : jD} {r : Int32} {μ μ9 : jM} {x1 : Int32}  (hsep : jSep Δ shC) (hf : f_X5_octet x1 μ = some (r, μ9)) : jMet l yX5_octet cX5_octet 2 (some .int) D_X5_octet Δ shC [jr Δ 0, .int x1] μ (some (.int r), μ9) := by
  refine jMet_of (own := RX5) (L := [some (jr Δ 0), some (.int x1)]) (by decide) rfl (Nat.le_of_ble_eq_true rfl) rfl hsep (fun Γ _ X => ?_)
  unfold f_X5_octet at hf
  refine g_ald_n (pc := 0) (i := 0) X dX5_octet_0 rfl rfl ?_
  refine g_ald_n (pc := 1) (i := 0) X dX5_octet_1 rfl rfl ?_
  refine g_getR (pc := 2) (k := 1) X dX5_octet_2 cl_X5 rfl rfl (by decide) w_200 ?_
  refine g_iconst (pc := 5) (v := (1 : Int32)) X dX5_octet_5 (by decide) ?_
  refine g_ild_n (pc := 6) (i := 1) X dX5_octet_6 rfl rfl ?_
  obtain ⟨r1, μ1, hc1, hf⟩ := jcall_i hf
  refine g_callVi (pc := 7) [jr Δ 2, .int (1 : Int32), .int x1] X dX5_octet_7 (M_X5_append ⟨rfl, rfl⟩ (jOk_sep X) hc1) Y_X5_append w_222 ws_0 w_224 cl_X5 rfl rfl (by decide) rfl rfl (Nat.le_of_ble_eq_true rfl) rfl ?_
  exact g_iret (pc := 10) X dX5_octet_10 hf
/-! X5_repeat -/
abbrev D_X5_repeat : Nat := 2
noncomputable def f_X5_repeat_12    (μ : jM) : Option (Int32 × jM) := some ((-1 : Int32), μ)
noncomputable def f_X5_repeat (x1 : Int32) (x2 : Int32) (μ : jM) : Option (Int32 × jM) := if x1 < (1 : Int32) then (f_X5_repeat_12     μ) else (if x1 ≤ (240 : Int32) then (jcall (f_X5_append 2 240 x1 x2 μ) (fun (r1 : Int32) (μ1 : jM) => some (r1, μ1))) else (f_X5_repeat_12     μ))
set_option maxHeartbeats 4000000 in
theorem t_X5_repeat_12 {Γ : jC} {Δ : jD} {r : Int32} {μ9 : jM}    (X : jOk Γ Δ shC cX5_repeat 3 RX5 (some .int) D_X5_repeat)  : ∀ (μ : jM), f_X5_repeat_12    μ = some (r, μ9) → jG Γ Δ shC (some (.int r), μ9) 12 [none, none, none] [] μ := by
  intro  μ hf
  unfold f_X5_repeat_12 at hf
  refine g_iconst (pc := 12) (v := (-1 : Int32)) X dX5_repeat_12 (by decide) ?_
  exact g_iret (pc := 13) X dX5_repeat_13 hf
set_option maxHeartbeats 4000000 in
theorem M_X5_repeat {l : Launch} {Δ : jD} {r : Int32} {μ μ9 : jM} {x1 : Int32} {x2 : Int32}  (hsep : jSep Δ shC) (hf : f_X5_repeat x1 x2 μ = some (r, μ9)) : jMet l yX5_repeat cX5_repeat 3 (some .int) D_X5_repeat Δ shC [jr Δ 0, .int x1, .int x2] μ (some (.int r), μ9) := by
  refine jMet_of (own := RX5) (L := [some (jr Δ 0), some (.int x1), some (.int x2)]) (by decide) rfl (Nat.le_of_ble_eq_true rfl) rfl hsep (fun Γ _ X => ?_)
  unfold f_X5_repeat at hf
  refine g_ild_n (pc := 0) (i := 1) X dX5_repeat_0 rfl rfl ?_
  refine g_iconst (pc := 1) (v := (1 : Int32)) X dX5_repeat_1 (by decide) ?_
  refine g_icmp_lt (pc := 2) 12 X dX5_repeat_2 (by decide) (fun h3 => ?_) (fun h3 => ?_)
  · replace hf := jt_i h3 hf
    exact g_weak (t_X5_repeat_12  X    _ hf) (trivial)
  · replace hf := jf_i h3 hf
    refine g_ild_n (pc := 5) (i := 1) X dX5_repeat_5 rfl rfl ?_
    refine g_sipush (pc := 6) (v := (240 : Int32)) X dX5_repeat_6 (by decide) ?_
    refine g_icmp_le (pc := 9) 14 X dX5_repeat_9 (by decide) (fun h2 => ?_) (fun h2 => ?_)
    · replace hf := jt_i h2 hf
      refine g_ald_n (pc := 14) (i := 0) X dX5_repeat_14 rfl rfl ?_
      refine g_ald_n (pc := 15) (i := 0) X dX5_repeat_15 rfl rfl ?_
      refine g_getR (pc := 16) (k := 1) X dX5_repeat_16 cl_X5 rfl rfl (by decide) w_200 ?_
      refine g_ild_n (pc := 19) (i := 1) X dX5_repeat_19 rfl rfl ?_
      refine g_ild_n (pc := 20) (i := 2) X dX5_repeat_20 rfl rfl ?_
      obtain ⟨r1, μ1, hc1, hf⟩ := jcall_i hf
      refine g_callVi (pc := 21) [jr Δ 2, .int x1, .int x2] X dX5_repeat_21 (M_X5_append ⟨rfl, rfl⟩ (jOk_sep X) hc1) Y_X5_append w_222 ws_0 w_224 cl_X5 rfl rfl (by decide) rfl rfl (Nat.le_of_ble_eq_true rfl) rfl ?_
      exact g_iret (pc := 24) X dX5_repeat_24 hf
    · replace hf := jf_i h2 hf
      exact g_weak (t_X5_repeat_12  X    _ hf) (trivial)
/-! X5_code -/
abbrev D_X5_code : Nat := 2
noncomputable def f_X5_code (x1 : Int32) (μ : jM) : Option (Int32 × jM) := jcall (f_X5_append 4 1000 (1 : Int32) x1 μ) (fun (r1 : Int32) (μ1 : jM) => some (r1, μ1))
set_option maxHeartbeats 4000000 in
theorem M_X5_code {l : Launch} {Δ : jD} {r : Int32} {μ μ9 : jM} {x1 : Int32}  (hsep : jSep Δ shC) (hf : f_X5_code x1 μ = some (r, μ9)) : jMet l yX5_code cX5_code 2 (some .int) D_X5_code Δ shC [jr Δ 0, .int x1] μ (some (.int r), μ9) := by
  refine jMet_of (own := RX5) (L := [some (jr Δ 0), some (.int x1)]) (by decide) rfl (Nat.le_of_ble_eq_true rfl) rfl hsep (fun Γ _ X => ?_)
  unfold f_X5_code at hf
  refine g_ald_n (pc := 0) (i := 0) X dX5_code_0 rfl rfl ?_
  refine g_ald_n (pc := 1) (i := 0) X dX5_code_1 rfl rfl ?_
  refine g_getR (pc := 2) (k := 2) X dX5_code_2 cl_X5 rfl rfl (by decide) w_201 ?_
  refine g_iconst (pc := 5) (v := (1 : Int32)) X dX5_code_5 (by decide) ?_
  refine g_ild_n (pc := 6) (i := 1) X dX5_code_6 rfl rfl ?_
  obtain ⟨r1, μ1, hc1, hf⟩ := jcall_i hf
  refine g_callVi (pc := 7) [jr Δ 4, .int (1 : Int32), .int x1] X dX5_code_7 (M_X5_append ⟨rfl, rfl⟩ (jOk_sep X) hc1) Y_X5_append w_222 ws_0 w_224 cl_X5 rfl rfl (by decide) rfl rfl (Nat.le_of_ble_eq_true rfl) rfl ?_
  exact g_iret (pc := 10) X dX5_code_10 hf
/-! X5_rowOf -/
abbrev D_X5_rowOf : Nat := 0
noncomputable def f_X5_rowOf (x1 : Int32) (μ : jM) : Option ((Option Nat) × jM) := if x1 = (0 : Int32) then (some ((some 2), μ)) else (if x1 = (1 : Int32) then (some ((some 4), μ)) else (some (none, μ)))
set_option maxHeartbeats 4000000 in
theorem M_X5_rowOf {l : Launch} {Δ : jD} {r : (Option Nat)} {μ μ9 : jM} {x1 : Int32}  (hsep : jSep Δ shC) (hf : f_X5_rowOf x1 μ = some (r, μ9)) : jMet l yX5_rowOf cX5_rowOf 2 (some (.object "RunForms$Octets")) D_X5_rowOf Δ shC [jr Δ 0, .int x1] μ (some (jrq Δ r), μ9) := by
  refine jMet_of (own := RX5) (L := [some (jr Δ 0), some (.int x1)]) (by decide) rfl (Nat.le_of_ble_eq_true rfl) rfl hsep (fun Γ _ X => ?_)
  unfold f_X5_rowOf at hf
  refine g_ild_n (pc := 0) (i := 1) X dX5_rowOf_0 rfl rfl ?_
  refine g_if_ne (pc := 1) 11 X dX5_rowOf_1 (by decide) (fun h2 => ?_) (fun h2 => ?_)
  · replace hf := jf_i h2 hf
    refine g_ild_n (pc := 11) (i := 1) X dX5_rowOf_11 rfl rfl ?_
    refine g_iconst (pc := 12) (v := (1 : Int32)) X dX5_rowOf_12 (by decide) ?_
    refine g_icmp_ne (pc := 13) 23 X dX5_rowOf_13 (by decide) (fun h1 => ?_) (fun h1 => ?_)
    · replace hf := jf_i h1 hf
      refine g_null (pc := 23) X dX5_rowOf_23 ?_
      exact g_aret (pc := 24) (o := none) X dX5_rowOf_24 hf
    · replace hf := jt_i h1 hf
      refine g_ald_n (pc := 16) (i := 0) X dX5_rowOf_16 rfl rfl ?_
      refine g_getR (pc := 17) (k := 2) X dX5_rowOf_17 cl_X5 rfl rfl (by decide) w_201 ?_
      refine g_goto (pc := 20) 24 X dX5_rowOf_20 (by decide) ?_
      exact g_aret (pc := 24) (o := (some 4)) X dX5_rowOf_24 hf
  · replace hf := jt_i h2 hf
    refine g_ald_n (pc := 4) (i := 0) X dX5_rowOf_4 rfl rfl ?_
    refine g_getR (pc := 5) (k := 1) X dX5_rowOf_5 cl_X5 rfl rfl (by decide) w_200 ?_
    refine g_goto (pc := 8) 24 X dX5_rowOf_8 (by decide) ?_
    exact g_aret (pc := 24) (o := (some 2)) X dX5_rowOf_24 hf
/-! X5_cut -/
abbrev D_X5_cut : Nat := 1
noncomputable def f_X5_cut_22    (μ : jM) : Option (Int32 × jM) := some ((-1 : Int32), μ)
noncomputable def f_X5_cut (x1 : Int32) (x2 : Int32) (μ : jM) : Option (Int32 × jM) := jcall (f_X5_rowOf x1 μ) (fun (r1 : Option Nat) (μ1 : jM) => if r1 = none then (f_X5_cut_22     μ1) else (if r1 = some 2 then (if x2 < (0 : Int32) then (f_X5_cut_22     μ1) else (if x2 ≤ (μ1.1 2 1) then (jlet ((μ1.1 2 1) - x2) (fun z4 : Int32 => jlet (jsI μ1 2 1 x2) (fun μ5 : jM => some (z4, μ5)))) else (f_X5_cut_22     μ1))) else (if r1 = some 4 then (if x2 < (0 : Int32) then (f_X5_cut_22     μ1) else (if x2 ≤ (μ1.1 4 1) then (jlet ((μ1.1 4 1) - x2) (fun z9 : Int32 => jlet (jsI μ1 4 1 x2) (fun μ10 : jM => some (z9, μ10)))) else (f_X5_cut_22     μ1))) else (none))))
set_option maxHeartbeats 4000000 in
theorem t_X5_cut_22 {Γ : jC} {Δ : jD} {r : Int32} {μ9 : jM}    (X : jOk Γ Δ shC cX5_cut 5 RX5 (some .int) D_X5_cut)  : ∀ (μ : jM), f_X5_cut_22    μ = some (r, μ9) → jG Γ Δ shC (some (.int r), μ9) 22 [none, none, none, none, none] [] μ := by
  intro  μ hf
  unfold f_X5_cut_22 at hf
  refine g_iconst (pc := 22) (v := (-1 : Int32)) X dX5_cut_22 (by decide) ?_
  exact g_iret (pc := 23) X dX5_cut_23 hf
set_option maxHeartbeats 4000000 in
theorem M_X5_cut {l : Launch} {Δ : jD} {r : Int32} {μ μ9 : jM} {x1 : Int32} {x2 : Int32}  (hsep : jSep Δ shC) (hf : f_X5_cut x1 x2 μ = some (r, μ9)) : jMet l yX5_cut cX5_cut 5 (some .int) D_X5_cut Δ shC [jr Δ 0, .int x1, .int x2] μ (some (.int r), μ9) := by
  refine jMet_of (own := RX5) (L := [some (jr Δ 0), some (.int x1), some (.int x2), none, none]) (by decide) rfl (Nat.le_of_ble_eq_true rfl) rfl hsep (fun Γ _ X => ?_)
  unfold f_X5_cut at hf
  refine g_ald_n (pc := 0) (i := 0) X dX5_cut_0 rfl rfl ?_
  refine g_ild_n (pc := 1) (i := 1) X dX5_cut_1 rfl rfl ?_
  obtain ⟨r1, μ1, hc1, hf⟩ := jcall_i hf
  refine g_callVq (pc := 2) [.int x1] X dX5_cut_2 (M_X5_rowOf  (jOk_sep X) hc1) Y_X5_rowOf w_246 ws_1 w_248 cl_X5 rfl rfl (by decide) rfl rfl (Nat.le_of_ble_eq_true rfl) rfl ?_
  by_cases h2 : r1 = none
  · replace hf := jt_i h2 hf
    subst h2
    refine g_qN ?_
    refine g_astN_n (pc := 5) (i := 3) (L1 := [some (jr Δ 0), some (.int x1), some (.int x2), some (.null), none]) X dX5_cut_5 rfl (Nat.le_of_ble_eq_true rfl) rfl rfl ?_
    refine g_aldN_n (pc := 6) (i := 3) X dX5_cut_6 rfl rfl ?_
    refine g_ifnullN (pc := 7) 22 X dX5_cut_7 (by decide) ?_
    exact g_weak (t_X5_cut_22  X    _ hf) (trivial)
  replace hf := jf_i h2 hf
  by_cases h3 : r1 = some 2
  · replace hf := jt_i h3 hf
    subst h3
    refine g_qS ?_
    refine g_ast_n (pc := 5) (i := 3) (L1 := [some (jr Δ 0), some (.int x1), some (.int x2), some (jr Δ 2), none]) X dX5_cut_5 rfl (Nat.le_of_ble_eq_true rfl) rfl rfl ?_
    refine g_ald_n (pc := 6) (i := 3) X dX5_cut_6 rfl rfl ?_
    refine g_ifnull (pc := 7)  X dX5_cut_7  ?_
    refine g_ild_n (pc := 10) (i := 2) X dX5_cut_10 rfl rfl ?_
    refine g_if_lt (pc := 11) 22 X dX5_cut_11 (by decide) (fun h7 => ?_) (fun h7 => ?_)
    · replace hf := jt_i h7 hf
      exact g_weak (t_X5_cut_22  X    _ hf) (trivial)
    · replace hf := jf_i h7 hf
      refine g_ild_n (pc := 14) (i := 2) X dX5_cut_14 rfl rfl ?_
      refine g_ald_n (pc := 15) (i := 3) X dX5_cut_15 rfl rfl ?_
      refine g_getI (pc := 16) (k := 1) X dX5_cut_16 cl_X0 rfl rfl (by decide) w_75 ?_
      refine g_icmp_le (pc := 19) 24 X dX5_cut_19 (by decide) (fun h6 => ?_) (fun h6 => ?_)
      · replace hf := jt_i h6 hf
        refine g_ald_n (pc := 24) (i := 3) X dX5_cut_24 rfl rfl ?_
        refine g_getI (pc := 25) (k := 1) X dX5_cut_25 cl_X0 rfl rfl (by decide) w_75 ?_
        refine g_ild_n (pc := 28) (i := 2) X dX5_cut_28 rfl rfl ?_
        refine g_isub (pc := 29) X dX5_cut_29 ?_
        refine g_nmI (fun z4 ez4 => ?_)
        replace hf := jlet_i ez4 hf
        refine g_ist (pc := 30) (L1 := [some (jr Δ 0), some (.int x1), some (.int x2), some (jr Δ 2), some (.int z4)]) X dX5_cut_30 (Nat.le_of_ble_eq_true rfl) rfl rfl ?_
        refine g_ald_n (pc := 32) (i := 3) X dX5_cut_32 rfl rfl ?_
        refine g_ild_n (pc := 33) (i := 2) X dX5_cut_33 rfl rfl ?_
        refine g_putI (pc := 34) (k := 1) X dX5_cut_34 cl_X0 rfl rfl (by decide) w_75 rfl rfl rfl ?_
        refine g_nmM (fun μ5 eμ5 => ?_)
        replace hf := jlet_i eμ5 hf
        refine g_ild (pc := 37) X dX5_cut_37 rfl ?_
        exact g_iret (pc := 39) X dX5_cut_39 hf
      · replace hf := jf_i h6 hf
        exact g_weak (t_X5_cut_22  X    _ hf) (trivial)
  replace hf := jf_i h3 hf
  by_cases h8 : r1 = some 4
  · replace hf := jt_i h8 hf
    subst h8
    refine g_qS ?_
    refine g_ast_n (pc := 5) (i := 3) (L1 := [some (jr Δ 0), some (.int x1), some (.int x2), some (jr Δ 4), none]) X dX5_cut_5 rfl (Nat.le_of_ble_eq_true rfl) rfl rfl ?_
    refine g_ald_n (pc := 6) (i := 3) X dX5_cut_6 rfl rfl ?_
    refine g_ifnull (pc := 7)  X dX5_cut_7  ?_
    refine g_ild_n (pc := 10) (i := 2) X dX5_cut_10 rfl rfl ?_
    refine g_if_lt (pc := 11) 22 X dX5_cut_11 (by decide) (fun h12 => ?_) (fun h12 => ?_)
    · replace hf := jt_i h12 hf
      exact g_weak (t_X5_cut_22  X    _ hf) (trivial)
    · replace hf := jf_i h12 hf
      refine g_ild_n (pc := 14) (i := 2) X dX5_cut_14 rfl rfl ?_
      refine g_ald_n (pc := 15) (i := 3) X dX5_cut_15 rfl rfl ?_
      refine g_getI (pc := 16) (k := 1) X dX5_cut_16 cl_X0 rfl rfl (by decide) w_75 ?_
      refine g_icmp_le (pc := 19) 24 X dX5_cut_19 (by decide) (fun h11 => ?_) (fun h11 => ?_)
      · replace hf := jt_i h11 hf
        refine g_ald_n (pc := 24) (i := 3) X dX5_cut_24 rfl rfl ?_
        refine g_getI (pc := 25) (k := 1) X dX5_cut_25 cl_X0 rfl rfl (by decide) w_75 ?_
        refine g_ild_n (pc := 28) (i := 2) X dX5_cut_28 rfl rfl ?_
        refine g_isub (pc := 29) X dX5_cut_29 ?_
        refine g_nmI (fun z9 ez9 => ?_)
        replace hf := jlet_i ez9 hf
        refine g_ist (pc := 30) (L1 := [some (jr Δ 0), some (.int x1), some (.int x2), some (jr Δ 4), some (.int z9)]) X dX5_cut_30 (Nat.le_of_ble_eq_true rfl) rfl rfl ?_
        refine g_ald_n (pc := 32) (i := 3) X dX5_cut_32 rfl rfl ?_
        refine g_ild_n (pc := 33) (i := 2) X dX5_cut_33 rfl rfl ?_
        refine g_putI (pc := 34) (k := 1) X dX5_cut_34 cl_X0 rfl rfl (by decide) w_75 rfl rfl rfl ?_
        refine g_nmM (fun μ10 eμ10 => ?_)
        replace hf := jlet_i eμ10 hf
        refine g_ild (pc := 37) X dX5_cut_37 rfl ?_
        exact g_iret (pc := 39) X dX5_cut_39 hf
      · replace hf := jf_i h11 hf
        exact g_weak (t_X5_cut_22  X    _ hf) (trivial)
  replace hf := jf_i h8 hf
  cases hf
/-! X5_rule -/
abbrev D_X5_rule : Nat := 1
noncomputable def f_X5_rule_37   (x1 : Int32) (x2 : Int32) (μ : jM) : Option (Int32 × jM) := jcall (f_X4_change x1 x2 μ) (fun (r1 : Int32) (μ1 : jM) => some (r1, μ1))
noncomputable def f_X5_rule_34    (μ : jM) : Option (Int32 × jM) := some ((-3 : Int32), μ)
noncomputable def f_X5_rule (x1 : Int32) (x2 : Int32) (μ : jM) : Option (Int32 × jM) := jcall (f_X4_allow x1 x2 μ) (fun (r2 : Int32) (μ2 : jM) => if r2 = (0 : Int32) then (some ((-1 : Int32), μ2)) else (if (μ2.1 1 0) = (2 : Int32) then (if x1 = (0 : Int32) then (f_X5_rule_34     μ2) else (if x1 = (3 : Int32) then (f_X5_rule_34     μ2) else (f_X5_rule_37    x1 x2 μ2))) else (f_X5_rule_37    x1 x2 μ2)))
set_option maxHeartbeats 4000000 in
theorem t_X5_rule_37 {Γ : jC} {Δ : jD} {r : Int32} {μ9 : jM}    (X : jOk Γ Δ shC cX5_rule 3 RX5 (some .int) D_X5_rule)  : ∀ (x1 : Int32) (x2 : Int32) (μ : jM), f_X5_rule_37   x1 x2 μ = some (r, μ9) → jG Γ Δ shC (some (.int r), μ9) 37 [some (jr Δ 0), some (.int x1), some (.int x2)] [] μ := by
  intro x1 x2 μ hf
  unfold f_X5_rule_37 at hf
  refine g_ald_n (pc := 37) (i := 0) X dX5_rule_37 rfl rfl ?_
  refine g_getR (pc := 38) (k := 0) X dX5_rule_38 cl_X5 rfl rfl (by decide) w_199 ?_
  refine g_ild_n (pc := 41) (i := 1) X dX5_rule_41 rfl rfl ?_
  refine g_ild_n (pc := 42) (i := 2) X dX5_rule_42 rfl rfl ?_
  obtain ⟨r1, μ1, hc1, hf⟩ := jcall_i hf
  refine g_callVi (pc := 43) [.int x1, .int x2] X dX5_rule_43 (M_X4_change  (jOk_sep X) hc1) Y_X4_change w_258 w_260 w_259 cl_X4 rfl rfl (by decide) rfl rfl (Nat.le_of_ble_eq_true rfl) rfl ?_
  exact g_iret (pc := 46) X dX5_rule_46 hf
set_option maxHeartbeats 4000000 in
theorem t_X5_rule_34 {Γ : jC} {Δ : jD} {r : Int32} {μ9 : jM}    (X : jOk Γ Δ shC cX5_rule 3 RX5 (some .int) D_X5_rule)  : ∀ (μ : jM), f_X5_rule_34    μ = some (r, μ9) → jG Γ Δ shC (some (.int r), μ9) 34 [none, none, none] [] μ := by
  intro  μ hf
  unfold f_X5_rule_34 at hf
  refine g_bipush (pc := 34) (v := (-3 : Int32)) X dX5_rule_34 (by decide) ?_
  exact g_iret (pc := 36) X dX5_rule_36 hf
set_option maxHeartbeats 4000000 in
theorem M_X5_rule {l : Launch} {Δ : jD} {r : Int32} {μ μ9 : jM} {x1 : Int32} {x2 : Int32}  (hsep : jSep Δ shC) (hf : f_X5_rule x1 x2 μ = some (r, μ9)) : jMet l yX5_rule cX5_rule 3 (some .int) D_X5_rule Δ shC [jr Δ 0, .int x1, .int x2] μ (some (.int r), μ9) := by
  refine jMet_of (own := RX5) (L := [some (jr Δ 0), some (.int x1), some (.int x2)]) (by decide) rfl (Nat.le_of_ble_eq_true rfl) rfl hsep (fun Γ _ X => ?_)
  unfold f_X5_rule at hf
  refine g_ald_n (pc := 0) (i := 0) X dX5_rule_0 rfl rfl ?_
  refine g_getR (pc := 1) (k := 0) X dX5_rule_1 cl_X5 rfl rfl (by decide) w_199 ?_
  refine g_ild_n (pc := 4) (i := 1) X dX5_rule_4 rfl rfl ?_
  refine g_ild_n (pc := 5) (i := 2) X dX5_rule_5 rfl rfl ?_
  obtain ⟨r2, μ2, hc2, hf⟩ := jcall_i hf
  refine g_callVi (pc := 6) [.int x1, .int x2] X dX5_rule_6 (M_X4_allow  (jOk_sep X) hc2) Y_X4_allow w_254 w_256 w_255 cl_X4 rfl rfl (by decide) rfl rfl (Nat.le_of_ble_eq_true rfl) rfl ?_
  refine g_if_ne (pc := 9) 14 X dX5_rule_9 (by decide) (fun h6 => ?_) (fun h6 => ?_)
  · replace hf := jf_i h6 hf
    refine g_ald_n (pc := 14) (i := 0) X dX5_rule_14 rfl rfl ?_
    refine g_getR (pc := 15) (k := 0) X dX5_rule_15 cl_X5 rfl rfl (by decide) w_199 ?_
    refine g_getI (pc := 18) (k := 0) X dX5_rule_18 cl_X4 rfl rfl (by decide) w_35 ?_
    refine g_iconst (pc := 21) (v := (2 : Int32)) X dX5_rule_21 (by decide) ?_
    refine g_icmp_ne (pc := 22) 37 X dX5_rule_22 (by decide) (fun h5 => ?_) (fun h5 => ?_)
    · replace hf := jf_i h5 hf
      exact g_weak (t_X5_rule_37  X   _ _ _ hf) (⟨rfl, ⟨rfl, ⟨rfl, trivial⟩⟩⟩)
    · replace hf := jt_i h5 hf
      refine g_ild_n (pc := 25) (i := 1) X dX5_rule_25 rfl rfl ?_
      refine g_if_eq (pc := 26) 34 X dX5_rule_26 (by decide) (fun h4 => ?_) (fun h4 => ?_)
      · replace hf := jt_i h4 hf
        exact g_weak (t_X5_rule_34  X    _ hf) (trivial)
      · replace hf := jf_i h4 hf
        refine g_ild_n (pc := 29) (i := 1) X dX5_rule_29 rfl rfl ?_
        refine g_iconst (pc := 30) (v := (3 : Int32)) X dX5_rule_30 (by decide) ?_
        refine g_icmp_ne (pc := 31) 37 X dX5_rule_31 (by decide) (fun h3 => ?_) (fun h3 => ?_)
        · replace hf := jf_i h3 hf
          exact g_weak (t_X5_rule_37  X   _ _ _ hf) (⟨rfl, ⟨rfl, ⟨rfl, trivial⟩⟩⟩)
        · replace hf := jt_i h3 hf
          exact g_weak (t_X5_rule_34  X    _ hf) (trivial)
  · replace hf := jt_i h6 hf
    refine g_iconst (pc := 12) (v := (-1 : Int32)) X dX5_rule_12 (by decide) ?_
    exact g_iret (pc := 13) X dX5_rule_13 hf
/-! X5_packRefusal -/
abbrev D_X5_packRefusal : Nat := 1
noncomputable def f_X5_packRefusal_11    (μ : jM) : Option (Int32 × jM) := jcall (f_X4_isWhole (μ.1 2 1) μ) (fun (r1 : Int32) (μ1 : jM) => if r1 = (0 : Int32) then (some ((-3 : Int32), μ1)) else (some ((0 : Int32), μ1)))
noncomputable def f_X5_packRefusal (x1 : Int32) (μ : jM) : Option (Int32 × jM) := if x1 = (0 : Int32) then (f_X5_packRefusal_11     μ) else (if x1 = (1 : Int32) then (f_X5_packRefusal_11     μ) else (some ((-1 : Int32), μ)))
set_option maxHeartbeats 4000000 in
theorem t_X5_packRefusal_11 {Γ : jC} {Δ : jD} {r : Int32} {μ9 : jM}    (X : jOk Γ Δ shC cX5_packRefusal 2 RX5 (some .int) D_X5_packRefusal)  : ∀ (μ : jM), f_X5_packRefusal_11    μ = some (r, μ9) → jG Γ Δ shC (some (.int r), μ9) 11 [some (jr Δ 0), none] [] μ := by
  intro  μ hf
  unfold f_X5_packRefusal_11 at hf
  refine g_ald_n (pc := 11) (i := 0) X dX5_packRefusal_11 rfl rfl ?_
  refine g_getR (pc := 12) (k := 0) X dX5_packRefusal_12 cl_X5 rfl rfl (by decide) w_199 ?_
  refine g_ald_n (pc := 15) (i := 0) X dX5_packRefusal_15 rfl rfl ?_
  refine g_getR (pc := 16) (k := 1) X dX5_packRefusal_16 cl_X5 rfl rfl (by decide) w_200 ?_
  refine g_getI (pc := 19) (k := 1) X dX5_packRefusal_19 cl_X0 rfl rfl (by decide) w_75 ?_
  obtain ⟨r1, μ1, hc1, hf⟩ := jcall_i hf
  refine g_callVi (pc := 22) [.int (μ.1 2 1)] X dX5_packRefusal_22 (M_X4_isWhole  (jOk_sep X) hc1) Y_X4_isWhole w_270 w_272 w_271 cl_X4 rfl rfl (by decide) rfl rfl (Nat.le_of_ble_eq_true rfl) rfl ?_
  refine g_if_eq (pc := 25) 32 X dX5_packRefusal_25 (by decide) (fun h2 => ?_) (fun h2 => ?_)
  · replace hf := jt_i h2 hf
    refine g_bipush (pc := 32) (v := (-3 : Int32)) X dX5_packRefusal_32 (by decide) ?_
    exact g_iret (pc := 34) X dX5_packRefusal_34 hf
  · replace hf := jf_i h2 hf
    refine g_iconst (pc := 28) (v := (0 : Int32)) X dX5_packRefusal_28 (by decide) ?_
    refine g_goto (pc := 29) 34 X dX5_packRefusal_29 (by decide) ?_
    exact g_iret (pc := 34) X dX5_packRefusal_34 hf
set_option maxHeartbeats 4000000 in
theorem M_X5_packRefusal {l : Launch} {Δ : jD} {r : Int32} {μ μ9 : jM} {x1 : Int32}  (hsep : jSep Δ shC) (hf : f_X5_packRefusal x1 μ = some (r, μ9)) : jMet l yX5_packRefusal cX5_packRefusal 2 (some .int) D_X5_packRefusal Δ shC [jr Δ 0, .int x1] μ (some (.int r), μ9) := by
  refine jMet_of (own := RX5) (L := [some (jr Δ 0), some (.int x1)]) (by decide) rfl (Nat.le_of_ble_eq_true rfl) rfl hsep (fun Γ _ X => ?_)
  unfold f_X5_packRefusal at hf
  refine g_ild_n (pc := 0) (i := 1) X dX5_packRefusal_0 rfl rfl ?_
  refine g_if_eq (pc := 1) 11 X dX5_packRefusal_1 (by decide) (fun h4 => ?_) (fun h4 => ?_)
  · replace hf := jt_i h4 hf
    exact g_weak (t_X5_packRefusal_11  X    _ hf) (⟨rfl, trivial⟩)
  · replace hf := jf_i h4 hf
    refine g_ild_n (pc := 4) (i := 1) X dX5_packRefusal_4 rfl rfl ?_
    refine g_iconst (pc := 5) (v := (1 : Int32)) X dX5_packRefusal_5 (by decide) ?_
    refine g_icmp_eq (pc := 6) 11 X dX5_packRefusal_6 (by decide) (fun h3 => ?_) (fun h3 => ?_)
    · replace hf := jt_i h3 hf
      exact g_weak (t_X5_packRefusal_11  X    _ hf) (⟨rfl, trivial⟩)
    · replace hf := jf_i h3 hf
      refine g_iconst (pc := 9) (v := (-1 : Int32)) X dX5_packRefusal_9 (by decide) ?_
      exact g_iret (pc := 10) X dX5_packRefusal_10 hf
/-! X5_pack -/
abbrev D_X5_pack : Nat := 7
noncomputable def f_X5_pack (x1 : Int32) (μ : jM) : Option (Int32 × jM) := jcall (f_X5_packRefusal x1 μ) (fun (r1 : Int32) (μ1 : jM) => if r1 = (0 : Int32) then (jcall (f_X2_make x1 μ1) (fun (r2 : Int32) (μ2 : jM) => jcall (f_X0_become 4 1000 7 1000 μ2) (fun (r3 : Unit) (μ3 : jM) => some ((μ3.1 4 1), μ3)))) else (some (r1, μ1)))
set_option maxHeartbeats 4000000 in
theorem M_X5_pack {l : Launch} {Δ : jD} {r : Int32} {μ μ9 : jM} {x1 : Int32}  (hsep : jSep Δ shC) (hf : f_X5_pack x1 μ = some (r, μ9)) : jMet l yX5_pack cX5_pack 3 (some .int) D_X5_pack Δ shC [jr Δ 0, .int x1] μ (some (.int r), μ9) := by
  refine jMet_of (own := RX5) (L := [some (jr Δ 0), some (.int x1), none]) (by decide) rfl (Nat.le_of_ble_eq_true rfl) rfl hsep (fun Γ _ X => ?_)
  unfold f_X5_pack at hf
  refine g_ald_n (pc := 0) (i := 0) X dX5_pack_0 rfl rfl ?_
  refine g_ild_n (pc := 1) (i := 1) X dX5_pack_1 rfl rfl ?_
  obtain ⟨r1, μ1, hc1, hf⟩ := jcall_i hf
  refine g_callVi (pc := 2) [.int x1] X dX5_pack_2 (M_X5_packRefusal  (jOk_sep X) hc1) Y_X5_packRefusal w_266 ws_2 w_268 cl_X5 rfl rfl (by decide) rfl rfl (Nat.le_of_ble_eq_true rfl) rfl ?_
  refine g_ist_n (pc := 5) (i := 2) (L1 := [some (jr Δ 0), some (.int x1), some (.int r1)]) X dX5_pack_5 rfl (Nat.le_of_ble_eq_true rfl) rfl rfl ?_
  refine g_ild_n (pc := 6) (i := 2) X dX5_pack_6 rfl rfl ?_
  refine g_if_eq (pc := 7) 12 X dX5_pack_7 (by decide) (fun h4 => ?_) (fun h4 => ?_)
  · replace hf := jt_i h4 hf
    refine g_ald_n (pc := 12) (i := 0) X dX5_pack_12 rfl rfl ?_
    refine g_getR (pc := 13) (k := 3) X dX5_pack_13 cl_X5 rfl rfl (by decide) w_202 ?_
    refine g_ald_n (pc := 16) (i := 0) X dX5_pack_16 rfl rfl ?_
    refine g_getR (pc := 17) (k := 1) X dX5_pack_17 cl_X5 rfl rfl (by decide) w_200 ?_
    refine g_ild_n (pc := 20) (i := 1) X dX5_pack_20 rfl rfl ?_
    obtain ⟨r2, μ2, hc2, hf⟩ := jcall_i hf
    refine g_callVi (pc := 21) [jr Δ 2, .int x1] X dX5_pack_21 (M_X2_make  (jOk_sep X) hc2) Y_X2_make w_274 w_276 w_275 cl_X2 rfl rfl (by decide) rfl rfl (Nat.le_of_ble_eq_true rfl) rfl ?_
    refine g_popI (pc := 24) X dX5_pack_24 ?_
    refine g_ald_n (pc := 25) (i := 0) X dX5_pack_25 rfl rfl ?_
    refine g_getR (pc := 26) (k := 2) X dX5_pack_26 cl_X5 rfl rfl (by decide) w_201 ?_
    refine g_ald_n (pc := 29) (i := 0) X dX5_pack_29 rfl rfl ?_
    refine g_getR (pc := 30) (k := 3) X dX5_pack_30 cl_X5 rfl rfl (by decide) w_202 ?_
    refine g_getR (pc := 33) (k := 1) X dX5_pack_33 cl_X2 rfl rfl (by decide) w_92 ?_
    obtain ⟨r3, μ3, hc3, hf⟩ := jcall_i hf
    refine g_callVv (pc := 36) [jr Δ 7] X dX5_pack_36 (M_X0_become ⟨rfl, rfl⟩ ⟨rfl, rfl⟩ (jOk_sep X) hc3) Y_X0_become w_398 w_400 w_399 cl_X0 rfl rfl (by decide) rfl rfl (Nat.le_of_ble_eq_true rfl) rfl ?_
    refine g_ald_n (pc := 39) (i := 0) X dX5_pack_39 rfl rfl ?_
    refine g_getR (pc := 40) (k := 2) X dX5_pack_40 cl_X5 rfl rfl (by decide) w_201 ?_
    refine g_getI (pc := 43) (k := 1) X dX5_pack_43 cl_X0 rfl rfl (by decide) w_75 ?_
    exact g_iret (pc := 46) X dX5_pack_46 hf
  · replace hf := jf_i h4 hf
    refine g_ild_n (pc := 10) (i := 2) X dX5_pack_10 rfl rfl ?_
    exact g_iret (pc := 11) X dX5_pack_11 hf
/-! X5_size -/
abbrev D_X5_size : Nat := 7
noncomputable def f_X5_size (x1 : Int32) (μ : jM) : Option (Int32 × jM) := jcall (f_X5_packRefusal x1 μ) (fun (r1 : Int32) (μ1 : jM) => if r1 = (0 : Int32) then (jcall (f_X2_make x1 μ1) (fun (r2 : Int32) (μ2 : jM) => some (r2, μ2))) else (some (r1, μ1)))
set_option maxHeartbeats 4000000 in
theorem M_X5_size {l : Launch} {Δ : jD} {r : Int32} {μ μ9 : jM} {x1 : Int32}  (hsep : jSep Δ shC) (hf : f_X5_size x1 μ = some (r, μ9)) : jMet l yX5_size cX5_size 3 (some .int) D_X5_size Δ shC [jr Δ 0, .int x1] μ (some (.int r), μ9) := by
  refine jMet_of (own := RX5) (L := [some (jr Δ 0), some (.int x1), none]) (by decide) rfl (Nat.le_of_ble_eq_true rfl) rfl hsep (fun Γ _ X => ?_)
  unfold f_X5_size at hf
  refine g_ald_n (pc := 0) (i := 0) X dX5_size_0 rfl rfl ?_
  refine g_ild_n (pc := 1) (i := 1) X dX5_size_1 rfl rfl ?_
  obtain ⟨r1, μ1, hc1, hf⟩ := jcall_i hf
  refine g_callVi (pc := 2) [.int x1] X dX5_size_2 (M_X5_packRefusal  (jOk_sep X) hc1) Y_X5_packRefusal w_266 ws_2 w_268 cl_X5 rfl rfl (by decide) rfl rfl (Nat.le_of_ble_eq_true rfl) rfl ?_
  refine g_ist_n (pc := 5) (i := 2) (L1 := [some (jr Δ 0), some (.int x1), some (.int r1)]) X dX5_size_5 rfl (Nat.le_of_ble_eq_true rfl) rfl rfl ?_
  refine g_ild_n (pc := 6) (i := 2) X dX5_size_6 rfl rfl ?_
  refine g_if_eq (pc := 7) 14 X dX5_size_7 (by decide) (fun h3 => ?_) (fun h3 => ?_)
  · replace hf := jt_i h3 hf
    refine g_ald_n (pc := 14) (i := 0) X dX5_size_14 rfl rfl ?_
    refine g_getR (pc := 15) (k := 3) X dX5_size_15 cl_X5 rfl rfl (by decide) w_202 ?_
    refine g_ald_n (pc := 18) (i := 0) X dX5_size_18 rfl rfl ?_
    refine g_getR (pc := 19) (k := 1) X dX5_size_19 cl_X5 rfl rfl (by decide) w_200 ?_
    refine g_ild_n (pc := 22) (i := 1) X dX5_size_22 rfl rfl ?_
    obtain ⟨r2, μ2, hc2, hf⟩ := jcall_i hf
    refine g_callVi (pc := 23) [jr Δ 2, .int x1] X dX5_size_23 (M_X2_make  (jOk_sep X) hc2) Y_X2_make w_274 w_276 w_275 cl_X2 rfl rfl (by decide) rfl rfl (Nat.le_of_ble_eq_true rfl) rfl ?_
    exact g_iret (pc := 26) X dX5_size_26 hf
  · replace hf := jf_i h3 hf
    refine g_ild_n (pc := 10) (i := 2) X dX5_size_10 rfl rfl ?_
    refine g_goto (pc := 11) 26 X dX5_size_11 (by decide) ?_
    exact g_iret (pc := 26) X dX5_size_26 hf
/-! X5_open -/
abbrev D_X5_open : Nat := 6
noncomputable def f_X5_open  (μ : jM) : Option (Int32 × jM) := jcall (f_X1_run  μ) (fun (r1 : Unit) (μ1 : jM) => if (μ1.1 14 3) = (0 : Int32) then (jcall (f_X0_become 2 240 15 240 μ1) (fun (r2 : Unit) (μ2 : jM) => some ((μ2.1 2 1), μ2))) else (some (((-10 : Int32) - (μ1.1 14 4)), μ1)))
set_option maxHeartbeats 4000000 in
theorem M_X5_open {l : Launch} {Δ : jD} {r : Int32} {μ μ9 : jM}   (hsep : jSep Δ shC) (hf : f_X5_open  μ = some (r, μ9)) : jMet l yX5_open cX5_open 1 (some .int) D_X5_open Δ shC [jr Δ 0] μ (some (.int r), μ9) := by
  refine jMet_of (own := RX5) (L := [some (jr Δ 0)]) (by decide) rfl (Nat.le_of_ble_eq_true rfl) rfl hsep (fun Γ _ X => ?_)
  unfold f_X5_open at hf
  refine g_ald_n (pc := 0) (i := 0) X dX5_open_0 rfl rfl ?_
  refine g_getR (pc := 1) (k := 4) X dX5_open_1 cl_X5 rfl rfl (by decide) w_203 ?_
  obtain ⟨r1, μ1, hc1, hf⟩ := jcall_i hf
  refine g_callVv (pc := 4) [] X dX5_open_4 (M_X1_run  (jOk_sep X) hc1) Y_X1_run w_414 w_416 w_415 cl_X1 rfl rfl (by decide) rfl rfl (Nat.le_of_ble_eq_true rfl) rfl ?_
  refine g_ald_n (pc := 7) (i := 0) X dX5_open_7 rfl rfl ?_
  refine g_getR (pc := 8) (k := 4) X dX5_open_8 cl_X5 rfl rfl (by decide) w_203 ?_
  refine g_getI (pc := 11) (k := 3) X dX5_open_11 cl_X1 rfl rfl (by decide) w_136 ?_
  refine g_if_eq (pc := 14) 28 X dX5_open_14 (by decide) (fun h3 => ?_) (fun h3 => ?_)
  · replace hf := jt_i h3 hf
    refine g_ald_n (pc := 28) (i := 0) X dX5_open_28 rfl rfl ?_
    refine g_getR (pc := 29) (k := 1) X dX5_open_29 cl_X5 rfl rfl (by decide) w_200 ?_
    refine g_ald_n (pc := 32) (i := 0) X dX5_open_32 rfl rfl ?_
    refine g_getR (pc := 33) (k := 4) X dX5_open_33 cl_X5 rfl rfl (by decide) w_203 ?_
    refine g_getR (pc := 36) (k := 2) X dX5_open_36 cl_X1 rfl rfl (by decide) w_134 ?_
    obtain ⟨r2, μ2, hc2, hf⟩ := jcall_i hf
    refine g_callVv (pc := 39) [jr Δ 15] X dX5_open_39 (M_X0_become ⟨rfl, rfl⟩ ⟨rfl, rfl⟩ (jOk_sep X) hc2) Y_X0_become w_398 w_400 w_399 cl_X0 rfl rfl (by decide) rfl rfl (Nat.le_of_ble_eq_true rfl) rfl ?_
    refine g_ald_n (pc := 42) (i := 0) X dX5_open_42 rfl rfl ?_
    refine g_getR (pc := 43) (k := 1) X dX5_open_43 cl_X5 rfl rfl (by decide) w_200 ?_
    refine g_getI (pc := 46) (k := 1) X dX5_open_46 cl_X0 rfl rfl (by decide) w_75 ?_
    exact g_iret (pc := 49) X dX5_open_49 hf
  · replace hf := jf_i h3 hf
    refine g_bipush (pc := 17) (v := (-10 : Int32)) X dX5_open_17 (by decide) ?_
    refine g_ald_n (pc := 19) (i := 0) X dX5_open_19 rfl rfl ?_
    refine g_getR (pc := 20) (k := 4) X dX5_open_20 cl_X5 rfl rfl (by decide) w_203 ?_
    refine g_getI (pc := 23) (k := 4) X dX5_open_23 cl_X1 rfl rfl (by decide) w_138 ?_
    refine g_isub (pc := 26) X dX5_open_26 ?_
    exact g_iret (pc := 27) X dX5_open_27 hf
/-! X5_fault -/
abbrev D_X5_fault : Nat := 0
noncomputable def f_X5_fault  (μ : jM) : Option (Int32 × jM) := some ((μ.1 14 3), μ)
set_option maxHeartbeats 4000000 in
theorem M_X5_fault {l : Launch} {Δ : jD} {r : Int32} {μ μ9 : jM}   (hsep : jSep Δ shC) (hf : f_X5_fault  μ = some (r, μ9)) : jMet l yX5_fault cX5_fault 1 (some .int) D_X5_fault Δ shC [jr Δ 0] μ (some (.int r), μ9) := by
  refine jMet_of (own := RX5) (L := [some (jr Δ 0)]) (by decide) rfl (Nat.le_of_ble_eq_true rfl) rfl hsep (fun Γ _ X => ?_)
  unfold f_X5_fault at hf
  refine g_ald_n (pc := 0) (i := 0) X dX5_fault_0 rfl rfl ?_
  refine g_getR (pc := 1) (k := 4) X dX5_fault_1 cl_X5 rfl rfl (by decide) w_203 ?_
  refine g_getI (pc := 4) (k := 3) X dX5_fault_4 cl_X1 rfl rfl (by decide) w_136 ?_
  exact g_iret (pc := 7) X dX5_fault_7 hf
/-! X5_plain -/
abbrev D_X5_plain : Nat := 6
noncomputable def f_X5_plain (x1 : Int32) (μ : jM) : Option (Int32 × jM) := if x1 ≤ (400 : Int32) then (jcall (f_X3_fill x1 μ) (fun (r1 : Int32) (μ1 : jM) => some (r1, μ1))) else (some ((-1 : Int32), μ))
set_option maxHeartbeats 4000000 in
theorem M_X5_plain {l : Launch} {Δ : jD} {r : Int32} {μ μ9 : jM} {x1 : Int32}  (hsep : jSep Δ shC) (hf : f_X5_plain x1 μ = some (r, μ9)) : jMet l yX5_plain cX5_plain 2 (some .int) D_X5_plain Δ shC [jr Δ 0, .int x1] μ (some (.int r), μ9) := by
  refine jMet_of (own := RX5) (L := [some (jr Δ 0), some (.int x1)]) (by decide) rfl (Nat.le_of_ble_eq_true rfl) rfl hsep (fun Γ _ X => ?_)
  unfold f_X5_plain at hf
  refine g_ild_n (pc := 0) (i := 1) X dX5_plain_0 rfl rfl ?_
  refine g_sipush (pc := 1) (v := (400 : Int32)) X dX5_plain_1 (by decide) ?_
  refine g_icmp_le (pc := 4) 9 X dX5_plain_4 (by decide) (fun h2 => ?_) (fun h2 => ?_)
  · replace hf := jt_i h2 hf
    refine g_ald_n (pc := 9) (i := 0) X dX5_plain_9 rfl rfl ?_
    refine g_getR (pc := 10) (k := 5) X dX5_plain_10 cl_X5 rfl rfl (by decide) w_204 ?_
    refine g_ild_n (pc := 13) (i := 1) X dX5_plain_13 rfl rfl ?_
    obtain ⟨r1, μ1, hc1, hf⟩ := jcall_i hf
    refine g_callVi (pc := 14) [.int x1] X dX5_plain_14 (M_X3_fill  (jOk_sep X) hc1) Y_X3_fill w_499 w_501 w_500 cl_X3 rfl rfl (by decide) rfl rfl (Nat.le_of_ble_eq_true rfl) rfl ?_
    exact g_iret (pc := 17) X dX5_plain_17 hf
  · replace hf := jf_i h2 hf
    refine g_iconst (pc := 7) (v := (-1 : Int32)) X dX5_plain_7 (by decide) ?_
    exact g_iret (pc := 8) X dX5_plain_8 hf
/-! X5_at -/
abbrev D_X5_at : Nat := 1
noncomputable def f_X5_at (x1 : Int32) (x2 : Int32) (μ : jM) : Option (Int32 × jM) := jcall (f_X5_rowOf x1 μ) (fun (r1 : Option Nat) (μ1 : jM) => if r1 = none then (some ((-1 : Int32), μ1)) else (if r1 = some 2 then (jcall (f_X0_get 2 240 x2 μ1) (fun (r4 : Int32) (μ4 : jM) => some (r4, μ4))) else (if r1 = some 4 then (jcall (f_X0_get 4 1000 x2 μ1) (fun (r6 : Int32) (μ6 : jM) => some (r6, μ6))) else (none))))
set_option maxHeartbeats 4000000 in
theorem M_X5_at {l : Launch} {Δ : jD} {r : Int32} {μ μ9 : jM} {x1 : Int32} {x2 : Int32}  (hsep : jSep Δ shC) (hf : f_X5_at x1 x2 μ = some (r, μ9)) : jMet l yX5_at cX5_at 4 (some .int) D_X5_at Δ shC [jr Δ 0, .int x1, .int x2] μ (some (.int r), μ9) := by
  refine jMet_of (own := RX5) (L := [some (jr Δ 0), some (.int x1), some (.int x2), none]) (by decide) rfl (Nat.le_of_ble_eq_true rfl) rfl hsep (fun Γ _ X => ?_)
  unfold f_X5_at at hf
  refine g_ald_n (pc := 0) (i := 0) X dX5_at_0 rfl rfl ?_
  refine g_ild_n (pc := 1) (i := 1) X dX5_at_1 rfl rfl ?_
  obtain ⟨r1, μ1, hc1, hf⟩ := jcall_i hf
  refine g_callVq (pc := 2) [.int x1] X dX5_at_2 (M_X5_rowOf  (jOk_sep X) hc1) Y_X5_rowOf w_246 ws_1 w_248 cl_X5 rfl rfl (by decide) rfl rfl (Nat.le_of_ble_eq_true rfl) rfl ?_
  by_cases h2 : r1 = none
  · replace hf := jt_i h2 hf
    subst h2
    refine g_qN ?_
    refine g_astN_n (pc := 5) (i := 3) (L1 := [some (jr Δ 0), some (.int x1), some (.int x2), some (.null)]) X dX5_at_5 rfl (Nat.le_of_ble_eq_true rfl) rfl rfl ?_
    refine g_aldN_n (pc := 6) (i := 3) X dX5_at_6 rfl rfl ?_
    refine g_ifnonnullN (pc := 7)  X dX5_at_7  ?_
    refine g_iconst (pc := 10) (v := (-1 : Int32)) X dX5_at_10 (by decide) ?_
    refine g_goto (pc := 11) 19 X dX5_at_11 (by decide) ?_
    exact g_iret (pc := 19) X dX5_at_19 hf
  replace hf := jf_i h2 hf
  by_cases h3 : r1 = some 2
  · replace hf := jt_i h3 hf
    subst h3
    refine g_qS ?_
    refine g_ast_n (pc := 5) (i := 3) (L1 := [some (jr Δ 0), some (.int x1), some (.int x2), some (jr Δ 2)]) X dX5_at_5 rfl (Nat.le_of_ble_eq_true rfl) rfl rfl ?_
    refine g_ald_n (pc := 6) (i := 3) X dX5_at_6 rfl rfl ?_
    refine g_ifnonnull (pc := 7) 14 X dX5_at_7 (by decide) ?_
    refine g_ald_n (pc := 14) (i := 3) X dX5_at_14 rfl rfl ?_
    refine g_ild_n (pc := 15) (i := 2) X dX5_at_15 rfl rfl ?_
    obtain ⟨r4, μ4, hc4, hf⟩ := jcall_i hf
    refine g_callVi (pc := 16) [.int x2] X dX5_at_16 (M_X0_get ⟨rfl, rfl⟩ (jOk_sep X) hc4) Y_X0_get w_540 w_292 w_291 cl_X0 rfl rfl (by decide) rfl rfl (Nat.le_of_ble_eq_true rfl) rfl ?_
    exact g_iret (pc := 19) X dX5_at_19 hf
  replace hf := jf_i h3 hf
  by_cases h5 : r1 = some 4
  · replace hf := jt_i h5 hf
    subst h5
    refine g_qS ?_
    refine g_ast_n (pc := 5) (i := 3) (L1 := [some (jr Δ 0), some (.int x1), some (.int x2), some (jr Δ 4)]) X dX5_at_5 rfl (Nat.le_of_ble_eq_true rfl) rfl rfl ?_
    refine g_ald_n (pc := 6) (i := 3) X dX5_at_6 rfl rfl ?_
    refine g_ifnonnull (pc := 7) 14 X dX5_at_7 (by decide) ?_
    refine g_ald_n (pc := 14) (i := 3) X dX5_at_14 rfl rfl ?_
    refine g_ild_n (pc := 15) (i := 2) X dX5_at_15 rfl rfl ?_
    obtain ⟨r6, μ6, hc6, hf⟩ := jcall_i hf
    refine g_callVi (pc := 16) [.int x2] X dX5_at_16 (M_X0_get ⟨rfl, rfl⟩ (jOk_sep X) hc6) Y_X0_get w_540 w_292 w_291 cl_X0 rfl rfl (by decide) rfl rfl (Nat.le_of_ble_eq_true rfl) rfl ?_
    exact g_iret (pc := 19) X dX5_at_19 hf
  replace hf := jf_i h5 hf
  cases hf
/-! X5_unit -/
abbrev D_X5_unit : Nat := 2
noncomputable def f_X5_unit_22    (μ : jM) : Option (Int64 × jM) := some ((-1 : Int64), μ)
noncomputable def f_X5_unit (x1 : Int32) (μ : jM) : Option (Int64 × jM) := if x1 < (0 : Int32) then (f_X5_unit_22     μ) else (jcall (f_X4_unitsIn (μ.1 2 1) μ) (fun (r1 : Int32) (μ1 : jM) => if x1 < r1 then (jcall (f_X4_numberAt 2 240 x1 μ1) (fun (r2 : Int32) (μ2 : jM) => some (((r2).toInt64 &&& (4294967295 : Int64)), μ2))) else (f_X5_unit_22     μ1)))
set_option maxHeartbeats 4000000 in
theorem t_X5_unit_22 {Γ : jC} {Δ : jD} {r : Int64} {μ9 : jM}    (X : jOk Γ Δ shC cX5_unit 2 RX5 (some .long) D_X5_unit)  : ∀ (μ : jM), f_X5_unit_22    μ = some (r, μ9) → jG Γ Δ shC (some (.long r), μ9) 22 [none, none] [] μ := by
  intro  μ hf
  unfold f_X5_unit_22 at hf
  refine g_ldc2 (pc := 22) X dX5_unit_22 w_546 ?_
  exact g_lret (pc := 25) X dX5_unit_25 hf
set_option maxHeartbeats 4000000 in
theorem M_X5_unit {l : Launch} {Δ : jD} {r : Int64} {μ μ9 : jM} {x1 : Int32}  (hsep : jSep Δ shC) (hf : f_X5_unit x1 μ = some (r, μ9)) : jMet l yX5_unit cX5_unit 2 (some .long) D_X5_unit Δ shC [jr Δ 0, .int x1] μ (some (.long r), μ9) := by
  refine jMet_of (own := RX5) (L := [some (jr Δ 0), some (.int x1)]) (by decide) rfl (Nat.le_of_ble_eq_true rfl) rfl hsep (fun Γ _ X => ?_)
  unfold f_X5_unit at hf
  refine g_ild_n (pc := 0) (i := 1) X dX5_unit_0 rfl rfl ?_
  refine g_if_lt (pc := 1) 22 X dX5_unit_1 (by decide) (fun h4 => ?_) (fun h4 => ?_)
  · replace hf := jt_i h4 hf
    exact g_weak (t_X5_unit_22  X    _ hf) (trivial)
  · replace hf := jf_i h4 hf
    refine g_ild_n (pc := 4) (i := 1) X dX5_unit_4 rfl rfl ?_
    refine g_ald_n (pc := 5) (i := 0) X dX5_unit_5 rfl rfl ?_
    refine g_getR (pc := 6) (k := 0) X dX5_unit_6 cl_X5 rfl rfl (by decide) w_199 ?_
    refine g_ald_n (pc := 9) (i := 0) X dX5_unit_9 rfl rfl ?_
    refine g_getR (pc := 10) (k := 1) X dX5_unit_10 cl_X5 rfl rfl (by decide) w_200 ?_
    refine g_getI (pc := 13) (k := 1) X dX5_unit_13 cl_X0 rfl rfl (by decide) w_75 ?_
    obtain ⟨r1, μ1, hc1, hf⟩ := jcall_i hf
    refine g_callVi (pc := 16) [.int (μ.1 2 1)] X dX5_unit_16 (M_X4_unitsIn  (jOk_sep X) hc1) Y_X4_unitsIn w_545 w_284 w_283 cl_X4 rfl rfl (by decide) rfl rfl (Nat.le_of_ble_eq_true rfl) rfl ?_
    refine g_icmp_lt (pc := 19) 26 X dX5_unit_19 (by decide) (fun h3 => ?_) (fun h3 => ?_)
    · replace hf := jt_i h3 hf
      refine g_ald_n (pc := 26) (i := 0) X dX5_unit_26 rfl rfl ?_
      refine g_getR (pc := 27) (k := 0) X dX5_unit_27 cl_X5 rfl rfl (by decide) w_199 ?_
      refine g_ald_n (pc := 30) (i := 0) X dX5_unit_30 rfl rfl ?_
      refine g_getR (pc := 31) (k := 1) X dX5_unit_31 cl_X5 rfl rfl (by decide) w_200 ?_
      refine g_ild_n (pc := 34) (i := 1) X dX5_unit_34 rfl rfl ?_
      obtain ⟨r2, μ2, hc2, hf⟩ := jcall_i hf
      refine g_callVi (pc := 35) [jr Δ 2, .int x1] X dX5_unit_35 (M_X4_numberAt ⟨rfl, rfl⟩ (jOk_sep X) hc2) Y_X4_numberAt w_547 w_288 w_287 cl_X4 rfl rfl (by decide) rfl rfl (Nat.le_of_ble_eq_true rfl) rfl ?_
      refine g_i2l (pc := 38) X dX5_unit_38 ?_
      refine g_ldc2 (pc := 39) X dX5_unit_39 w_548 ?_
      refine g_land (pc := 42) X dX5_unit_42 ?_
      exact g_lret (pc := 43) X dX5_unit_43 hf
    · replace hf := jf_i h3 hf
      exact g_weak (t_X5_unit_22  X    _ hf) (trivial)
/-! X5_rowBound -/
abbrev D_X5_rowBound : Nat := 1
noncomputable def f_X5_rowBound  (μ : jM) : Option (Int32 × jM) := jlet (μ.1 1 2) (fun z1 : Int32 => jlet ((2 : Int32) * z1) (fun z2 : Int32 => if z1 ≤ (2 : Int32) then (some (z2, μ)) else (some ((if ((z1 + (2 : Int32)) + (z1 &&& (1 : Int32))) < z2 then ((z1 + (2 : Int32)) + (z1 &&& (1 : Int32))) else z2), μ))))
set_option maxHeartbeats 4000000 in
theorem M_X5_rowBound {l : Launch} {Δ : jD} {r : Int32} {μ μ9 : jM}   (hsep : jSep Δ shC) (hf : f_X5_rowBound  μ = some (r, μ9)) : jMet l yX5_rowBound cX5_rowBound 3 (some .int) D_X5_rowBound Δ shC [jr Δ 0] μ (some (.int r), μ9) := by
  refine jMet_of (own := RX5) (L := [some (jr Δ 0), none, none]) (by decide) rfl (Nat.le_of_ble_eq_true rfl) rfl hsep (fun Γ _ X => ?_)
  unfold f_X5_rowBound at hf
  refine g_ald_n (pc := 0) (i := 0) X dX5_rowBound_0 rfl rfl ?_
  refine g_getR (pc := 1) (k := 0) X dX5_rowBound_1 cl_X5 rfl rfl (by decide) w_199 ?_
  refine g_getI (pc := 4) (k := 2) X dX5_rowBound_4 cl_X4 rfl rfl (by decide) w_44 ?_
  refine g_nmI (fun z1 ez1 => ?_)
  replace hf := jlet_i ez1 hf
  refine g_ist_n (pc := 7) (i := 1) (L1 := [some (jr Δ 0), some (.int z1), none]) X dX5_rowBound_7 rfl (Nat.le_of_ble_eq_true rfl) rfl rfl ?_
  refine g_iconst (pc := 8) (v := (2 : Int32)) X dX5_rowBound_8 (by decide) ?_
  refine g_ild_n (pc := 9) (i := 1) X dX5_rowBound_9 rfl rfl ?_
  refine g_imul (pc := 10) X dX5_rowBound_10 ?_
  refine g_nmI (fun z2 ez2 => ?_)
  replace hf := jlet_i ez2 hf
  refine g_ist_n (pc := 11) (i := 2) (L1 := [some (jr Δ 0), some (.int z1), some (.int z2)]) X dX5_rowBound_11 rfl (Nat.le_of_ble_eq_true rfl) rfl rfl ?_
  refine g_ild_n (pc := 12) (i := 1) X dX5_rowBound_12 rfl rfl ?_
  refine g_iconst (pc := 13) (v := (2 : Int32)) X dX5_rowBound_13 (by decide) ?_
  refine g_icmp_le (pc := 14) 31 X dX5_rowBound_14 (by decide) (fun h3 => ?_) (fun h3 => ?_)
  · replace hf := jt_i h3 hf
    refine g_ild_n (pc := 31) (i := 2) X dX5_rowBound_31 rfl rfl ?_
    exact g_iret (pc := 32) X dX5_rowBound_32 hf
  · replace hf := jf_i h3 hf
    refine g_ild_n (pc := 17) (i := 2) X dX5_rowBound_17 rfl rfl ?_
    refine g_ild_n (pc := 18) (i := 1) X dX5_rowBound_18 rfl rfl ?_
    refine g_iconst (pc := 19) (v := (2 : Int32)) X dX5_rowBound_19 (by decide) ?_
    refine g_iadd (pc := 20) X dX5_rowBound_20 ?_
    refine g_ild_n (pc := 21) (i := 1) X dX5_rowBound_21 rfl rfl ?_
    refine g_iconst (pc := 22) (v := (1 : Int32)) X dX5_rowBound_22 (by decide) ?_
    refine g_iand (pc := 23) X dX5_rowBound_23 ?_
    refine g_iadd (pc := 24) X dX5_rowBound_24 ?_
    refine g_min (pc := 25) X dX5_rowBound_25 w_561 w_302 w_8 w_303 (by decide) rfl (Nat.le_of_ble_eq_true rfl) ?_
    refine g_goto (pc := 28) 32 X dX5_rowBound_28 (by decide) ?_
    exact g_iret (pc := 32) X dX5_rowBound_32 hf
/-! X5_bound -/
abbrev D_X5_bound : Nat := 2
noncomputable def f_X5_bound_22    (μ : jM) : Option (Int32 × jM) := some ((-1 : Int32), μ)
noncomputable def f_X5_bound (x1 : Int32) (μ : jM) : Option (Int32 × jM) := if x1 < (0 : Int32) then (f_X5_bound_22     μ) else (if (240 : Int32) < x1 then (f_X5_bound_22     μ) else (jcall (f_X4_isWhole x1 μ) (fun (r1 : Int32) (μ1 : jM) => if r1 = (0 : Int32) then (f_X5_bound_22     μ1) else (jcall (f_X4_unitsIn x1 μ1) (fun (r2 : Int32) (μ2 : jM) => if (μ2.1 1 0) = (0 : Int32) then (some (((x1 + (2 : Int32)) + ((2 : Int32) * r2)), μ2)) else (if (μ2.1 1 0) = (1 : Int32) then (jnz (128 : Int32) (some ((x1 + (((r2 + (128 : Int32)) - (1 : Int32)) / (128 : Int32))), μ2))) else (jcall (f_X4_rowsIn x1 μ2) (fun (r6 : Int32) (μ6 : jM) => jcall (f_X5_rowBound  μ6) (fun (r7 : Int32) (μ7 : jM) => some (((2 : Int32) + (r6 * ((2 : Int32) + r7))), μ7))))))))))
set_option maxHeartbeats 4000000 in
theorem t_X5_bound_22 {Γ : jC} {Δ : jD} {r : Int32} {μ9 : jM}    (X : jOk Γ Δ shC cX5_bound 3 RX5 (some .int) D_X5_bound)  : ∀ (μ : jM), f_X5_bound_22    μ = some (r, μ9) → jG Γ Δ shC (some (.int r), μ9) 22 [none, none, none] [] μ := by
  intro  μ hf
  unfold f_X5_bound_22 at hf
  refine g_iconst (pc := 22) (v := (-1 : Int32)) X dX5_bound_22 (by decide) ?_
  exact g_iret (pc := 23) X dX5_bound_23 hf
set_option maxHeartbeats 4000000 in
theorem M_X5_bound {l : Launch} {Δ : jD} {r : Int32} {μ μ9 : jM} {x1 : Int32}  (hsep : jSep Δ shC) (hf : f_X5_bound x1 μ = some (r, μ9)) : jMet l yX5_bound cX5_bound 3 (some .int) D_X5_bound Δ shC [jr Δ 0, .int x1] μ (some (.int r), μ9) := by
  refine jMet_of (own := RX5) (L := [some (jr Δ 0), some (.int x1), none]) (by decide) rfl (Nat.le_of_ble_eq_true rfl) rfl hsep (fun Γ _ X => ?_)
  unfold f_X5_bound at hf
  refine g_ild_n (pc := 0) (i := 1) X dX5_bound_0 rfl rfl ?_
  refine g_if_lt (pc := 1) 22 X dX5_bound_1 (by decide) (fun h10 => ?_) (fun h10 => ?_)
  · replace hf := jt_i h10 hf
    exact g_weak (t_X5_bound_22  X    _ hf) (trivial)
  · replace hf := jf_i h10 hf
    refine g_ild_n (pc := 4) (i := 1) X dX5_bound_4 rfl rfl ?_
    refine g_sipush (pc := 5) (v := (240 : Int32)) X dX5_bound_5 (by decide) ?_
    refine g_icmp_gt (pc := 8) 22 X dX5_bound_8 (by decide) (fun h9 => ?_) (fun h9 => ?_)
    · replace hf := jt_i h9 hf
      exact g_weak (t_X5_bound_22  X    _ hf) (trivial)
    · replace hf := jf_i h9 hf
      refine g_ald_n (pc := 11) (i := 0) X dX5_bound_11 rfl rfl ?_
      refine g_getR (pc := 12) (k := 0) X dX5_bound_12 cl_X5 rfl rfl (by decide) w_199 ?_
      refine g_ild_n (pc := 15) (i := 1) X dX5_bound_15 rfl rfl ?_
      obtain ⟨r1, μ1, hc1, hf⟩ := jcall_i hf
      refine g_callVi (pc := 16) [.int x1] X dX5_bound_16 (M_X4_isWhole  (jOk_sep X) hc1) Y_X4_isWhole w_270 w_272 w_271 cl_X4 rfl rfl (by decide) rfl rfl (Nat.le_of_ble_eq_true rfl) rfl ?_
      refine g_if_ne (pc := 19) 24 X dX5_bound_19 (by decide) (fun h8 => ?_) (fun h8 => ?_)
      · replace hf := jf_i h8 hf
        refine g_ald_n (pc := 24) (i := 0) X dX5_bound_24 rfl rfl ?_
        refine g_getR (pc := 25) (k := 0) X dX5_bound_25 cl_X5 rfl rfl (by decide) w_199 ?_
        refine g_ild_n (pc := 28) (i := 1) X dX5_bound_28 rfl rfl ?_
        obtain ⟨r2, μ2, hc2, hf⟩ := jcall_i hf
        refine g_callVi (pc := 29) [.int x1] X dX5_bound_29 (M_X4_unitsIn  (jOk_sep X) hc2) Y_X4_unitsIn w_545 w_284 w_283 cl_X4 rfl rfl (by decide) rfl rfl (Nat.le_of_ble_eq_true rfl) rfl ?_
        refine g_ist_n (pc := 32) (i := 2) (L1 := [some (jr Δ 0), some (.int x1), some (.int r2)]) X dX5_bound_32 rfl (Nat.le_of_ble_eq_true rfl) rfl rfl ?_
        refine g_ald_n (pc := 33) (i := 0) X dX5_bound_33 rfl rfl ?_
        refine g_getR (pc := 34) (k := 0) X dX5_bound_34 cl_X5 rfl rfl (by decide) w_199 ?_
        refine g_getI (pc := 37) (k := 0) X dX5_bound_37 cl_X4 rfl rfl (by decide) w_35 ?_
        by_cases h3 : (μ2.1 1 0) = (0 : Int32)
        · replace hf := jt_i h3 hf
          refine g_lookup (pc := 40) (off := 28) 68 X dX5_bound_40 (by decide) (by rw [h3]; first | done | rfl) (by decide) ?_
          refine g_ild_n (pc := 68) (i := 1) X dX5_bound_68 rfl rfl ?_
          refine g_iconst (pc := 69) (v := (2 : Int32)) X dX5_bound_69 (by decide) ?_
          refine g_iadd (pc := 70) X dX5_bound_70 ?_
          refine g_iconst (pc := 71) (v := (2 : Int32)) X dX5_bound_71 (by decide) ?_
          refine g_ild_n (pc := 72) (i := 2) X dX5_bound_72 rfl rfl ?_
          refine g_imul (pc := 73) X dX5_bound_73 ?_
          refine g_iadd (pc := 74) X dX5_bound_74 ?_
          exact g_iret (pc := 75) X dX5_bound_75 hf
        replace hf := jf_i h3 hf
        by_cases h4 : (μ2.1 1 0) = (1 : Int32)
        · replace hf := jt_i h4 hf
          refine g_lookup (pc := 40) (off := 36) 76 X dX5_bound_40 (by decide) (by rw [h4]; first | done | rfl) (by decide) ?_
          refine g_ild_n (pc := 76) (i := 1) X dX5_bound_76 rfl rfl ?_
          refine g_ild_n (pc := 77) (i := 2) X dX5_bound_77 rfl rfl ?_
          refine g_sipush (pc := 78) (v := (128 : Int32)) X dX5_bound_78 (by decide) ?_
          refine g_iadd (pc := 81) X dX5_bound_81 ?_
          refine g_iconst (pc := 82) (v := (1 : Int32)) X dX5_bound_82 (by decide) ?_
          refine g_isub (pc := 83) X dX5_bound_83 ?_
          refine g_sipush (pc := 84) (v := (128 : Int32)) X dX5_bound_84 (by decide) ?_
          obtain ⟨hz5, hf⟩ := jnz_i hf
          refine g_idiv (pc := 87) X dX5_bound_87 hz5 ?_
          refine g_iadd (pc := 88) X dX5_bound_88 ?_
          exact g_iret (pc := 89) X dX5_bound_89 hf
        replace hf := jf_i h4 hf
        refine g_lookup (pc := 40) (off := 50) 90 X dX5_bound_40 (by decide) (by show Op.lookupswitch.offset [(0, 28), (1, 36)] 50 _ = 50; rw [lv_osw (a := 0) h3 (by decide), lv_osw (a := 1) h4 (by decide)]; first | done | rfl) (by decide) ?_
        refine g_iconst (pc := 90) (v := (2 : Int32)) X dX5_bound_90 (by decide) ?_
        refine g_ald_n (pc := 91) (i := 0) X dX5_bound_91 rfl rfl ?_
        refine g_getR (pc := 92) (k := 0) X dX5_bound_92 cl_X5 rfl rfl (by decide) w_199 ?_
        refine g_ild_n (pc := 95) (i := 1) X dX5_bound_95 rfl rfl ?_
        obtain ⟨r6, μ6, hc6, hf⟩ := jcall_i hf
        refine g_callVi (pc := 96) [.int x1] X dX5_bound_96 (M_X4_rowsIn  (jOk_sep X) hc6) Y_X4_rowsIn w_553 w_555 w_554 cl_X4 rfl rfl (by decide) rfl rfl (Nat.le_of_ble_eq_true rfl) rfl ?_
        refine g_iconst (pc := 99) (v := (2 : Int32)) X dX5_bound_99 (by decide) ?_
        refine g_ald_n (pc := 100) (i := 0) X dX5_bound_100 rfl rfl ?_
        obtain ⟨r7, μ7, hc7, hf⟩ := jcall_i hf
        refine g_callVi (pc := 101) [] X dX5_bound_101 (M_X5_rowBound  (jOk_sep X) hc7) Y_X5_rowBound w_557 ws_3 w_559 cl_X5 rfl rfl (by decide) rfl rfl (Nat.le_of_ble_eq_true rfl) rfl ?_
        refine g_iadd (pc := 104) X dX5_bound_104 ?_
        refine g_imul (pc := 105) X dX5_bound_105 ?_
        refine g_iadd (pc := 106) X dX5_bound_106 ?_
        exact g_iret (pc := 107) X dX5_bound_107 hf
      · replace hf := jt_i h8 hf
        exact g_weak (t_X5_bound_22  X    _ hf) (trivial)
/-! X5_told -/
abbrev D_X5_told : Nat := 0
noncomputable def f_X5_told (x1 : Int32) (μ : jM) : Option (Int32 × jM) := if x1 = (0 : Int32) then (some ((μ.1 1 0), μ)) else (if x1 = (1 : Int32) then (some ((μ.1 2 1), μ)) else (if x1 = (2 : Int32) then (some ((μ.1 4 1), μ)) else (if x1 = (3 : Int32) then (some ((μ.1 17 3), μ)) else (if x1 = (4 : Int32) then (some ((μ.1 17 4), μ)) else (some ((-1 : Int32), μ))))))
set_option maxHeartbeats 4000000 in
theorem M_X5_told {l : Launch} {Δ : jD} {r : Int32} {μ μ9 : jM} {x1 : Int32}  (hsep : jSep Δ shC) (hf : f_X5_told x1 μ = some (r, μ9)) : jMet l yX5_told cX5_told 2 (some .int) D_X5_told Δ shC [jr Δ 0, .int x1] μ (some (.int r), μ9) := by
  refine jMet_of (own := RX5) (L := [some (jr Δ 0), some (.int x1)]) (by decide) rfl (Nat.le_of_ble_eq_true rfl) rfl hsep (fun Γ _ X => ?_)
  unfold f_X5_told at hf
  refine g_ild_n (pc := 0) (i := 1) X dX5_told_0 rfl rfl ?_
  by_cases h1 : x1 = (0 : Int32)
  · replace hf := jt_i h1 hf
    refine g_tblIn (pc := 1) 36 X dX5_told_1 (by rw [h1]; decide) (by rw [h1]; decide) (by rw [h1]; rfl) (by decide) ?_
    refine g_ald_n (pc := 36) (i := 0) X dX5_told_36 rfl rfl ?_
    refine g_getR (pc := 37) (k := 0) X dX5_told_37 cl_X5 rfl rfl (by decide) w_199 ?_
    refine g_getI (pc := 40) (k := 0) X dX5_told_40 cl_X4 rfl rfl (by decide) w_35 ?_
    exact g_iret (pc := 43) X dX5_told_43 hf
  replace hf := jf_i h1 hf
  by_cases h2 : x1 = (1 : Int32)
  · replace hf := jt_i h2 hf
    refine g_tblIn (pc := 1) 44 X dX5_told_1 (by rw [h2]; decide) (by rw [h2]; decide) (by rw [h2]; rfl) (by decide) ?_
    refine g_ald_n (pc := 44) (i := 0) X dX5_told_44 rfl rfl ?_
    refine g_getR (pc := 45) (k := 1) X dX5_told_45 cl_X5 rfl rfl (by decide) w_200 ?_
    refine g_getI (pc := 48) (k := 1) X dX5_told_48 cl_X0 rfl rfl (by decide) w_75 ?_
    exact g_iret (pc := 51) X dX5_told_51 hf
  replace hf := jf_i h2 hf
  by_cases h3 : x1 = (2 : Int32)
  · replace hf := jt_i h3 hf
    refine g_tblIn (pc := 1) 52 X dX5_told_1 (by rw [h3]; decide) (by rw [h3]; decide) (by rw [h3]; rfl) (by decide) ?_
    refine g_ald_n (pc := 52) (i := 0) X dX5_told_52 rfl rfl ?_
    refine g_getR (pc := 53) (k := 2) X dX5_told_53 cl_X5 rfl rfl (by decide) w_201 ?_
    refine g_getI (pc := 56) (k := 1) X dX5_told_56 cl_X0 rfl rfl (by decide) w_75 ?_
    exact g_iret (pc := 59) X dX5_told_59 hf
  replace hf := jf_i h3 hf
  by_cases h4 : x1 = (3 : Int32)
  · replace hf := jt_i h4 hf
    refine g_tblIn (pc := 1) 60 X dX5_told_1 (by rw [h4]; decide) (by rw [h4]; decide) (by rw [h4]; rfl) (by decide) ?_
    refine g_ald_n (pc := 60) (i := 0) X dX5_told_60 rfl rfl ?_
    refine g_getR (pc := 61) (k := 5) X dX5_told_61 cl_X5 rfl rfl (by decide) w_204 ?_
    refine g_getI (pc := 64) (k := 3) X dX5_told_64 cl_X3 rfl rfl (by decide) w_173 ?_
    exact g_iret (pc := 67) X dX5_told_67 hf
  replace hf := jf_i h4 hf
  by_cases h5 : x1 = (4 : Int32)
  · replace hf := jt_i h5 hf
    refine g_tblIn (pc := 1) 68 X dX5_told_1 (by rw [h5]; decide) (by rw [h5]; decide) (by rw [h5]; rfl) (by decide) ?_
    refine g_ald_n (pc := 68) (i := 0) X dX5_told_68 rfl rfl ?_
    refine g_getR (pc := 69) (k := 5) X dX5_told_69 cl_X5 rfl rfl (by decide) w_204 ?_
    refine g_getI (pc := 72) (k := 4) X dX5_told_72 cl_X3 rfl rfl (by decide) w_175 ?_
    exact g_iret (pc := 75) X dX5_told_75 hf
  replace hf := jf_i h5 hf
  refine g_tblOut (pc := 1) 76 X dX5_told_1 (by have yh1 := lv_neT (a := 0) h1 rfl; have yh2 := lv_neT (a := 1) h2 rfl; have yh3 := lv_neT (a := 2) h3 rfl; have yh4 := lv_neT (a := 3) h4 rfl; have yh5 := lv_neT (a := 4) h5 rfl; omega) (by decide) ?_
  refine g_iconst (pc := 76) (v := (-1 : Int32)) X dX5_told_76 (by decide) ?_
  exact g_iret (pc := 77) X dX5_told_77 hf
