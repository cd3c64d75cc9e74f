/-! X0_hasRoom -/
abbrev D_X0_hasRoom : Nat := 0
noncomputable def f_X0_hasRoom (q : Nat) (n : Nat) (x1 : Int32) (μ : jM) : Option (Int32 × jM) := if ((Int32.ofNat n) - (μ.1 q 1)) < x1 then (jbl (0 : Int32) (some ((0 : Int32), μ))) else (jbl (1 : Int32) (some ((1 : Int32), μ)))
set_option maxHeartbeats 4000000 in
theorem M_X0_hasRoom {l : Launch} {Δ : jD} {r : Int32} {μ μ9 : jM} {q : Nat} {n : Nat} {x1 : Int32} (hq : jOct q n) (hsep : jSep Δ shC) (hf : f_X0_hasRoom q n x1 μ = some (r, μ9)) : jMet l yX0_hasRoom cX0_hasRoom 2 (some .boolean) D_X0_hasRoom Δ shC [jr Δ q, .int x1] μ (some (.int r), μ9) := by
  refine jMet_of (own := RX0) (L := [some (jr Δ q), some (.int x1)]) (by decide) rfl (Nat.le_of_ble_eq_true rfl) rfl hsep (fun Γ _ X => ?_)
  unfold f_X0_hasRoom at hf
  refine g_ild_n (pc := 0) (i := 1) X dX0_hasRoom_0 rfl rfl ?_
  refine g_ald_n (pc := 1) (i := 0) X dX0_hasRoom_1 rfl rfl ?_
  refine g_getR (pc := 2) (k := 0) X dX0_hasRoom_2 cl_X0 hq.1 rfl (by decide) w_69 ?_
  refine g_alen (pc := 5) X dX0_hasRoom_5 hq.2 (by decide) ?_
  refine g_ald_n (pc := 6) (i := 0) X dX0_hasRoom_6 rfl rfl ?_
  refine g_getI (pc := 7) (k := 1) X dX0_hasRoom_7 cl_X0 hq.1 rfl (by decide) w_71 ?_
  refine g_isub (pc := 10) X dX0_hasRoom_10 ?_
  refine g_icmp_gt (pc := 11) 18 X dX0_hasRoom_11 (by decide) (fun h3 => ?_) (fun h3 => ?_)
  · replace hf := jt_i h3 hf
    refine g_iconst (pc := 18) (v := (0 : Int32)) X dX0_hasRoom_18 (by decide) ?_
    obtain ⟨hb1, hf⟩ := jbl_i hf
    exact g_zret (pc := 19) X dX0_hasRoom_19 hb1 hf
  · replace hf := jf_i h3 hf
    refine g_iconst (pc := 14) (v := (1 : Int32)) X dX0_hasRoom_14 (by decide) ?_
    refine g_goto (pc := 15) 19 X dX0_hasRoom_15 (by decide) ?_
    obtain ⟨hb2, hf⟩ := jbl_i hf
    exact g_zret (pc := 19) X dX0_hasRoom_19 hb2 hf
/-! X0_add -/
abbrev D_X0_add : Nat := 0
noncomputable def f_X0_add (q : Nat) (n : Nat) (x1 : Int32) (μ : jM) : Option (Unit × jM) := if (Int32.ofNat n) ≤ (μ.1 q 1) then (some ((), μ)) else (jin (μ.1 q 1) n (jlet (jsI μ (q + 1) ((μ.1 q 1)).toNatClampNeg (((x1).toInt8.toInt32).toInt8.toInt32)) (fun μ1 : jM => jlet (jsI μ1 q 1 ((μ1.1 q 1) + (1 : Int32))) (fun μ2 : jM => some ((), μ2)))))
set_option maxHeartbeats 4000000 in
theorem M_X0_add {l : Launch} {Δ : jD} {r : Unit} {μ μ9 : jM} {q : Nat} {n : Nat} {x1 : Int32} (hq : jOct q n) (hsep : jSep Δ shC) (hf : f_X0_add q n x1 μ = some (r, μ9)) : jMet l yX0_add cX0_add 2 none D_X0_add Δ shC [jr Δ q, .int x1] μ (none, μ9) := by
  refine jMet_of (own := RX0) (L := [some (jr Δ q), some (.int x1)]) (by decide) rfl (Nat.le_of_ble_eq_true rfl) rfl hsep (fun Γ _ X => ?_)
  unfold f_X0_add at hf
  refine g_ald_n (pc := 0) (i := 0) X dX0_add_0 rfl rfl ?_
  refine g_getI (pc := 1) (k := 1) X dX0_add_1 cl_X0 hq.1 rfl (by decide) w_71 ?_
  refine g_ald_n (pc := 4) (i := 0) X dX0_add_4 rfl rfl ?_
  refine g_getR (pc := 5) (k := 0) X dX0_add_5 cl_X0 hq.1 rfl (by decide) w_69 ?_
  refine g_alen (pc := 8) X dX0_add_8 hq.2 (by decide) ?_
  refine g_icmp_ge (pc := 9) 33 X dX0_add_9 (by decide) (fun h3 => ?_) (fun h3 => ?_)
  · replace hf := jt_i h3 hf
    exact g_vret (pc := 33) X dX0_add_33 hf
  · replace hf := jf_i h3 hf
    refine g_ald_n (pc := 12) (i := 0) X dX0_add_12 rfl rfl ?_
    refine g_getR (pc := 13) (k := 0) X dX0_add_13 cl_X0 hq.1 rfl (by decide) w_69 ?_
    refine g_ald_n (pc := 16) (i := 0) X dX0_add_16 rfl rfl ?_
    refine g_getI (pc := 17) (k := 1) X dX0_add_17 cl_X0 hq.1 rfl (by decide) w_71 ?_
    refine g_ild_n (pc := 20) (i := 1) X dX0_add_20 rfl rfl ?_
    refine g_i2b (pc := 21) X dX0_add_21 ?_
    obtain ⟨hi1, hf⟩ := jin_i hf
    refine g_bast (pc := 22) X dX0_add_22 hq.2 hi1 ?_
    refine g_nmM (fun μ1 eμ1 => ?_)
    replace hf := jlet_i eμ1 hf
    refine g_ald_n (pc := 23) (i := 0) X dX0_add_23 rfl rfl ?_
    refine g_dupR (pc := 24) X dX0_add_24 ?_
    refine g_getI (pc := 25) (k := 1) X dX0_add_25 cl_X0 hq.1 rfl (by decide) w_71 ?_
    refine g_iconst (pc := 28) (v := (1 : Int32)) X dX0_add_28 (by decide) ?_
    refine g_iadd (pc := 29) X dX0_add_29 ?_
    refine g_putI (pc := 30) (k := 1) X dX0_add_30 cl_X0 hq.1 rfl (by decide) w_71 rfl rfl rfl ?_
    refine g_nmM (fun μ2 eμ2 => ?_)
    replace hf := jlet_i eμ2 hf
    exact g_vret (pc := 33) X dX0_add_33 hf
/-! X0_set -/
abbrev D_X0_set : Nat := 0
noncomputable def f_X0_set (q : Nat) (n : Nat) (x1 : Int32) (x2 : Int32) (μ : jM) : Option (Unit × jM) := if x1 < (0 : Int32) then (some ((), μ)) else (if (Int32.ofNat n) ≤ x1 then (some ((), μ)) else (jin x1 n (jlet (jsI μ (q + 1) (x1).toNatClampNeg (((x2).toInt8.toInt32).toInt8.toInt32)) (fun μ1 : jM => some ((), μ1)))))
set_option maxHeartbeats 4000000 in
theorem M_X0_set {l : Launch} {Δ : jD} {r : Unit} {μ μ9 : jM} {q : Nat} {n : Nat} {x1 : Int32} {x2 : Int32} (hq : jOct q n) (hsep : jSep Δ shC) (hf : f_X0_set q n x1 x2 μ = some (r, μ9)) : jMet l yX0_set cX0_set 3 none D_X0_set Δ shC [jr Δ q, .int x1, .int x2] μ (none, μ9) := by
  refine jMet_of (own := RX0) (L := [some (jr Δ q), some (.int x1), some (.int x2)]) (by decide) rfl (Nat.le_of_ble_eq_true rfl) rfl hsep (fun Γ _ X => ?_)
  unfold f_X0_set at hf
  refine g_ild_n (pc := 0) (i := 1) X dX0_set_0 rfl rfl ?_
  refine g_if_lt (pc := 1) 21 X dX0_set_1 (by decide) (fun h3 => ?_) (fun h3 => ?_)
  · replace hf := jt_i h3 hf
    exact g_vret (pc := 21) X dX0_set_21 hf
  · replace hf := jf_i h3 hf
    refine g_ild_n (pc := 4) (i := 1) X dX0_set_4 rfl rfl ?_
    refine g_ald_n (pc := 5) (i := 0) X dX0_set_5 rfl rfl ?_
    refine g_getR (pc := 6) (k := 0) X dX0_set_6 cl_X0 hq.1 rfl (by decide) w_69 ?_
    refine g_alen (pc := 9) X dX0_set_9 hq.2 (by decide) ?_
    refine g_icmp_ge (pc := 10) 21 X dX0_set_10 (by decide) (fun h2 => ?_) (fun h2 => ?_)
    · replace hf := jt_i h2 hf
      exact g_vret (pc := 21) X dX0_set_21 hf
    · replace hf := jf_i h2 hf
      refine g_ald_n (pc := 13) (i := 0) X dX0_set_13 rfl rfl ?_
      refine g_getR (pc := 14) (k := 0) X dX0_set_14 cl_X0 hq.1 rfl (by decide) w_69 ?_
      refine g_ild_n (pc := 17) (i := 1) X dX0_set_17 rfl rfl ?_
      refine g_ild_n (pc := 18) (i := 2) X dX0_set_18 rfl rfl ?_
      refine g_i2b (pc := 19) X dX0_set_19 ?_
      obtain ⟨hi1, hf⟩ := jin_i hf
      refine g_bast (pc := 20) X dX0_set_20 hq.2 hi1 ?_
      refine g_nmM (fun μ1 eμ1 => ?_)
      replace hf := jlet_i eμ1 hf
      exact g_vret (pc := 21) X dX0_set_21 hf
/-! X0_get -/
abbrev D_X0_get : Nat := 0
noncomputable def f_X0_get_25 (q : Nat) (n : Nat)   (μ : jM) : Option (Int32 × jM) := some ((-1 : Int32), μ)
noncomputable def f_X0_get (q : Nat) (n : Nat) (x1 : Int32) (μ : jM) : Option (Int32 × jM) := if x1 < (0 : Int32) then (f_X0_get_25 q n    μ) else (if (μ.1 q 1) ≤ x1 then (f_X0_get_25 q n    μ) else (jin x1 n (some (((μ.1 (q + 1) (x1).toNatClampNeg) &&& (255 : Int32)), μ))))
set_option maxHeartbeats 4000000 in
theorem t_X0_get_25 {Γ : jC} {Δ : jD} {r : Int32} {μ9 : jM} {q : Nat} {n : Nat}  (hq : jOct q n) (X : jOk Γ Δ shC cX0_get 2 RX0 (some .int) D_X0_get)  : ∀ (μ : jM), f_X0_get_25 q n   μ = some (r, μ9) → jG Γ Δ shC (some (.int r), μ9) 25 [none, none] [] μ := by
  intro  μ hf
  unfold f_X0_get_25 at hf
  refine g_iconst (pc := 25) (v := (-1 : Int32)) X dX0_get_25 (by decide) ?_
  exact g_iret (pc := 26) X dX0_get_26 hf
set_option maxHeartbeats 4000000 in
theorem M_X0_get {l : Launch} {Δ : jD} {r : Int32} {μ μ9 : jM} {q : Nat} {n : Nat} {x1 : Int32} (hq : jOct q n) (hsep : jSep Δ shC) (hf : f_X0_get q n x1 μ = some (r, μ9)) : jMet l yX0_get cX0_get 2 (some .int) D_X0_get Δ shC [jr Δ q, .int x1] μ (some (.int r), μ9) := by
  refine jMet_of (own := RX0) (L := [some (jr Δ q), some (.int x1)]) (by decide) rfl (Nat.le_of_ble_eq_true rfl) rfl hsep (fun Γ _ X => ?_)
  unfold f_X0_get at hf
  refine g_ild_n (pc := 0) (i := 1) X dX0_get_0 rfl rfl ?_
  refine g_if_lt (pc := 1) 25 X dX0_get_1 (by decide) (fun h3 => ?_) (fun h3 => ?_)
  · replace hf := jt_i h3 hf
    exact g_weak (t_X0_get_25 hq X    _ hf) (trivial)
  · replace hf := jf_i h3 hf
    refine g_ild_n (pc := 4) (i := 1) X dX0_get_4 rfl rfl ?_
    refine g_ald_n (pc := 5) (i := 0) X dX0_get_5 rfl rfl ?_
    refine g_getI (pc := 6) (k := 1) X dX0_get_6 cl_X0 hq.1 rfl (by decide) w_71 ?_
    refine g_icmp_ge (pc := 9) 25 X dX0_get_9 (by decide) (fun h2 => ?_) (fun h2 => ?_)
    · replace hf := jt_i h2 hf
      exact g_weak (t_X0_get_25 hq X    _ hf) (trivial)
    · replace hf := jf_i h2 hf
      refine g_ald_n (pc := 12) (i := 0) X dX0_get_12 rfl rfl ?_
      refine g_getR (pc := 13) (k := 0) X dX0_get_13 cl_X0 hq.1 rfl (by decide) w_69 ?_
      refine g_ild_n (pc := 16) (i := 1) X dX0_get_16 rfl rfl ?_
      obtain ⟨hi1, hf⟩ := jin_i hf
      refine g_bald (pc := 17) X dX0_get_17 hq.2 hi1 ?_
      refine g_sipush (pc := 18) (v := (255 : Int32)) X dX0_get_18 (by decide) ?_
      refine g_iand (pc := 21) X dX0_get_21 ?_
      refine g_goto (pc := 22) 26 X dX0_get_22 (by decide) ?_
      exact g_iret (pc := 26) X dX0_get_26 hf
/-! J7_fill_031fb -/
abbrev D_J7_fill_031fb : Nat := 0
noncomputable def f_J7_fill_031fb_5 (a0 : Nat) (n0 : Nat)  : Nat → Int32 → Int32 → Int32 → jM → Option (Unit × jM)
  | 0, _, _, _, _ => none
  | fu + 1, x1, x2, x3, μ => if x3 ≤ x2 then (some ((), μ)) else (jin x2 n0 (jlet (jsI μ a0 (x2).toNatClampNeg ((x1).toInt8.toInt32)) (fun μ1 : jM => jlet (x2 + (1 : Int32)) (fun z2 : Int32 => f_J7_fill_031fb_5 a0 n0  fu x1 z2 x3 μ1))))
noncomputable def f_J7_fill_031fb (a0 : Nat) (n0 : Nat) (x1 : Int32) (μ : jM) : Option (Unit × jM) := jlet (Int32.ofNat n0) (fun z4 : Int32 => f_J7_fill_031fb_5 a0 n0  jFU x1 (0 : Int32) z4 μ)
set_option maxHeartbeats 4000000 in
theorem t_J7_fill_031fb_5 {Γ : jC} {Δ : jD} {r : Unit} {μ9 : jM} {a0 : Nat} {n0 : Nat}  (ha0 : shC[a0]? = some (.inr (1, n0))) (X : jOk Γ Δ shC cJ7_fill_031fb 4 RJ7 none D_J7_fill_031fb)  : ∀ (fu : Nat) (x1 : Int32) (x2 : Int32) (x3 : Int32) (μ : jM), f_J7_fill_031fb_5 a0 n0  fu x1 x2 x3 μ = some (r, μ9) → jG Γ Δ shC (none, μ9) 5 [some (jr Δ a0), some (.int x1), some (.int x2), some (.int x3)] [] μ := by
  intro fu
  induction fu with
  | zero =>
    intro x1 x2 x3 μ hf
    cases hf
  | succ fu ih =>
    intro x1 x2 x3 μ hf
    replace hf := (f_J7_fill_031fb_5.eq_2 _ _ _ _ _ _ _).symm.trans hf
    refine g_ild_n (pc := 5) (i := 2) X dJ7_fill_031fb_5 rfl rfl ?_
    refine g_ild_n (pc := 6) (i := 3) X dJ7_fill_031fb_6 rfl rfl ?_
    refine g_icmp_ge (pc := 7) 20 X dJ7_fill_031fb_7 (by decide) (fun h3 => ?_) (fun h3 => ?_)
    · replace hf := jt_i h3 hf
      exact g_vret (pc := 20) X dJ7_fill_031fb_20 hf
    · replace hf := jf_i h3 hf
      refine g_ald_n (pc := 10) (i := 0) X dJ7_fill_031fb_10 rfl rfl ?_
      refine g_ild_n (pc := 11) (i := 2) X dJ7_fill_031fb_11 rfl rfl ?_
      refine g_ild_n (pc := 12) (i := 1) X dJ7_fill_031fb_12 rfl rfl ?_
      obtain ⟨hi1, hf⟩ := jin_i hf
      refine g_bast (pc := 13) X dJ7_fill_031fb_13 ha0 hi1 ?_
      refine g_nmM (fun μ1 eμ1 => ?_)
      replace hf := jlet_i eμ1 hf
      obtain ⟨z2, ez2⟩ : ∃ z : Int32, z = x2 + (1 : Int32) := ⟨_, rfl⟩
      replace hf := jlet_i ez2 hf
      refine g_iinc (pc := 14) (L1 := [some (jr Δ a0), some (.int x1), some (.int z2), some (.int x3)]) X dJ7_fill_031fb_14 rfl (by rw [ez2]; rfl) rfl rfl ?_
      refine g_goto (pc := 17) 5 X dJ7_fill_031fb_17 (by decide) ?_
      exact g_weak (ih _ _ _ _ hf) (⟨rfl, ⟨rfl, ⟨rfl, ⟨rfl, trivial⟩⟩⟩⟩)
set_option maxHeartbeats 4000000 in
theorem M_J7_fill_031fb {l : Launch} {Δ : jD} {r : Unit} {μ μ9 : jM} {a0 : Nat} {n0 : Nat} {x1 : Int32} (ha0 : shC[a0]? = some (.inr (1, n0))) (hsep : jSep Δ shC) (hf : f_J7_fill_031fb a0 n0 x1 μ = some (r, μ9)) : jMet l yJ7_fill_031fb cJ7_fill_031fb 4 none D_J7_fill_031fb Δ shC [jr Δ a0, .int x1] μ (none, μ9) := by
  refine jMet_of (own := RJ7) (L := [some (jr Δ a0), some (.int x1), none, none]) (by decide) rfl (Nat.le_of_ble_eq_true rfl) rfl hsep (fun Γ _ X => ?_)
  unfold f_J7_fill_031fb at hf
  refine g_iconst (pc := 0) (v := (0 : Int32)) X dJ7_fill_031fb_0 (by decide) ?_
  refine g_ist_n (pc := 1) (i := 2) (L1 := [some (jr Δ a0), some (.int x1), some (.int (0 : Int32)), none]) X dJ7_fill_031fb_1 rfl (Nat.le_of_ble_eq_true rfl) rfl rfl ?_
  refine g_ald_n (pc := 2) (i := 0) X dJ7_fill_031fb_2 rfl rfl ?_
  refine g_alen (pc := 3) X dJ7_fill_031fb_3 ha0 (by decide) ?_
  refine g_nmI (fun z4 ez4 => ?_)
  replace hf := jlet_i ez4 hf
  refine g_ist_n (pc := 4) (i := 3) (L1 := [some (jr Δ a0), some (.int x1), some (.int (0 : Int32)), some (.int z4)]) X dJ7_fill_031fb_4 rfl (Nat.le_of_ble_eq_true rfl) rfl rfl ?_
  exact g_weak (t_J7_fill_031fb_5 ha0 X  jFU _ _ _ _ hf) (⟨rfl, ⟨rfl, ⟨rfl, ⟨rfl, trivial⟩⟩⟩⟩)
/-! X0_blank -/
abbrev D_X0_blank : Nat := 1
noncomputable def f_X0_blank (q : Nat) (n : Nat) (μ : jM) : Option (Unit × jM) := jcall (f_J7_fill_031fb (q + 1) n (0 : Int32) μ) (fun (r1 : Unit) (μ1 : jM) => jlet (jsI μ1 q 1 (0 : Int32)) (fun μ2 : jM => some ((), μ2)))
set_option maxHeartbeats 4000000 in
theorem M_X0_blank {l : Launch} {Δ : jD} {r : Unit} {μ μ9 : jM} {q : Nat} {n : Nat} (hq : jOct q n) (hsep : jSep Δ shC) (hf : f_X0_blank q n μ = some (r, μ9)) : jMet l yX0_blank cX0_blank 1 none D_X0_blank Δ shC [jr Δ q] μ (none, μ9) := by
  refine jMet_of (own := RX0) (L := [some (jr Δ q)]) (by decide) rfl (Nat.le_of_ble_eq_true rfl) rfl hsep (fun Γ _ X => ?_)
  unfold f_X0_blank at hf
  refine g_ald_n (pc := 0) (i := 0) X dX0_blank_0 rfl rfl ?_
  refine g_getR (pc := 1) (k := 0) X dX0_blank_1 cl_X0 hq.1 rfl (by decide) w_69 ?_
  refine g_iconst (pc := 4) (v := (0 : Int32)) X dX0_blank_4 (by decide) ?_
  obtain ⟨r1, μ1, hc1, hf⟩ := jcall_i hf
  refine g_callSv (pc := 5) [jr Δ (q + 1), .int (0 : Int32)] X dX0_blank_5 (M_J7_fill_031fb hq.2 (jOk_sep X) hc1) Y_J7_fill_031fb w_422 w_423 (by decide) rfl rfl (Nat.le_of_ble_eq_true rfl) rfl ?_
  refine g_ald_n (pc := 8) (i := 0) X dX0_blank_8 rfl rfl ?_
  refine g_iconst (pc := 9) (v := (0 : Int32)) X dX0_blank_9 (by decide) ?_
  refine g_putI (pc := 10) (k := 1) X dX0_blank_10 cl_X0 hq.1 rfl (by decide) w_71 rfl rfl rfl ?_
  refine g_nmM (fun μ2 eμ2 => ?_)
  replace hf := jlet_i eμ2 hf
  exact g_vret (pc := 13) X dX0_blank_13 hf
/-! X0_become -/
abbrev D_X0_become : Nat := 1
noncomputable def f_X0_become (q : Nat) (n : Nat) (q1 : Nat) (n1 : Nat) (μ : jM) : Option (Unit × jM) := jlet (jsI μ q 1 (if (Int32.ofNat n) < (μ.1 q1 1) then (Int32.ofNat n) else (μ.1 q1 1))) (fun μ1 : jM => jck (jcpOk μ1 (q1 + 1) n1 n (0 : Int32) (0 : Int32) (μ1.1 q 1)) (jlet (jcp μ1 (q1 + 1) ((0 : Int32)).toNatClampNeg (q + 1) ((0 : Int32)).toNatClampNeg ((μ1.1 q 1)).toNatClampNeg) (fun μ2 : jM => some ((), μ2))))
set_option maxHeartbeats 4000000 in
theorem M_X0_become {l : Launch} {Δ : jD} {r : Unit} {μ μ9 : jM} {q : Nat} {n : Nat} {q1 : Nat} {n1 : Nat} (hq : jOct q n) (hq1 : jOct q1 n1) (hsep : jSep Δ shC) (hf : f_X0_become q n q1 n1 μ = some (r, μ9)) : jMet l yX0_become cX0_become 2 none D_X0_become Δ shC [jr Δ q, jr Δ q1] μ (none, μ9) := by
  refine jMet_of (own := RX0) (L := [some (jr Δ q), some (jr Δ q1)]) (by decide) rfl (Nat.le_of_ble_eq_true rfl) rfl hsep (fun Γ _ X => ?_)
  unfold f_X0_become at hf
  refine g_ald_n (pc := 0) (i := 0) X dX0_become_0 rfl rfl ?_
  refine g_ald_n (pc := 1) (i := 1) X dX0_become_1 rfl rfl ?_
  refine g_getI (pc := 2) (k := 1) X dX0_become_2 cl_X0 hq1.1 rfl (by decide) w_71 ?_
  refine g_ald_n (pc := 5) (i := 0) X dX0_become_5 rfl rfl ?_
  refine g_getR (pc := 6) (k := 0) X dX0_become_6 cl_X0 hq.1 rfl (by decide) w_69 ?_
  refine g_alen (pc := 9) X dX0_become_9 hq.2 (by decide) ?_
  refine g_min (pc := 10) X dX0_become_10 w_402 w_302 w_8 w_303 (by decide) rfl (Nat.le_of_ble_eq_true rfl) ?_
  refine g_putI (pc := 13) (k := 1) X dX0_become_13 cl_X0 hq.1 rfl (by decide) w_71 rfl rfl rfl ?_
  refine g_nmM (fun μ1 eμ1 => ?_)
  replace hf := jlet_i eμ1 hf
  refine g_ald_n (pc := 16) (i := 1) X dX0_become_16 rfl rfl ?_
  refine g_getR (pc := 17) (k := 0) X dX0_become_17 cl_X0 hq1.1 rfl (by decide) w_69 ?_
  refine g_iconst (pc := 20) (v := (0 : Int32)) X dX0_become_20 (by decide) ?_
  refine g_ald_n (pc := 21) (i := 0) X dX0_become_21 rfl rfl ?_
  refine g_getR (pc := 22) (k := 0) X dX0_become_22 cl_X0 hq.1 rfl (by decide) w_69 ?_
  refine g_iconst (pc := 25) (v := (0 : Int32)) X dX0_become_25 (by decide) ?_
  refine g_ald_n (pc := 26) (i := 0) X dX0_become_26 rfl rfl ?_
  refine g_getI (pc := 27) (k := 1) X dX0_become_27 cl_X0 hq.1 rfl (by decide) w_71 ?_
  obtain ⟨hk2, hf⟩ := jck_i hf
  refine g_copy (pc := 30) X dX0_become_30 w_403 w_405 w_404 w_9 (by decide) rfl (Nat.le_of_ble_eq_true rfl) hq1.2 hq.2 hk2 ?_
  refine g_nmM (fun μ2 eμ2 => ?_)
  replace hf := jlet_i eμ2 hf
  exact g_vret (pc := 33) X dX0_become_33 hf
