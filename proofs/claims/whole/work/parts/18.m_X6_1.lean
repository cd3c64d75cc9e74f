/-! X6_reckon -/
abbrev D_X6_reckon : Nat := 2
noncomputable def f_X6_reckon_221  (k43 : Int32 → Int32 → Int32 → Int32 → jM → Option (Unit × jM)) (k174 : Int32 → Int32 → Int32 → Int32 → Int32 → Int32 → Int32 → jM → Option (Unit × jM)) (x1 : Int32) (x2 : Int32) (x3 : Int32) (x4 : Int32) (x6 : Int32) (x7 : Int32) (s0 : Int32) (μ : jM) : Option (Unit × jM) := jlet (x7 + (1 : Int32)) (fun z1 : Int32 => k174 x1 x2 x3 x4 s0 x6 z1 μ)
noncomputable def f_X6_reckon_174  (k43 : Int32 → Int32 → Int32 → Int32 → jM → Option (Unit × jM)) : Nat → Int32 → Int32 → Int32 → Int32 → Int32 → Int32 → Int32 → jM → Option (Unit × jM)
  | 0, _, _, _, _, _, _, _, _ => none
  | fu + 1, x1, x2, x3, x4, x5, x6, x7, μ => if x6 < x7 then (jin x4 241 (jlet (jsI μ 5 (x4).toNatClampNeg x5) (fun μ2 : jM => jlet (x4 + (-1 : Int32)) (fun z3 : Int32 => k43 x1 x2 x3 z3 μ2)))) else (jcall (f_X6_runCost  μ) (fun (r4 : Int32) (μ4 : jM) => jin (x4 + x7) 241 (if x5 ≤ (r4 + (μ4.1 5 ((x4 + x7)).toNatClampNeg)) then (f_X6_reckon_221  k43 (fun x1 x2 x3 x4 x5 x6 x7 μ => f_X6_reckon_174  k43 fu x1 x2 x3 x4 x5 x6 x7 μ)  x1 x2 x3 x4 x6 x7 x5 μ4) else (jcall (f_X6_runCost  μ4) (fun (r6 : Int32) (μ6 : jM) => jin (x4 + x7) 241 (f_X6_reckon_221  k43 (fun x1 x2 x3 x4 x5 x6 x7 μ => f_X6_reckon_174  k43 fu x1 x2 x3 x4 x5 x6 x7 μ)  x1 x2 x3 x4 x6 x7 (r6 + (μ6.1 5 ((x4 + x7)).toNatClampNeg)) μ6))))))
noncomputable def f_X6_reckon_172  (k43 : Int32 → Int32 → Int32 → Int32 → jM → Option (Unit × jM)) (x1 : Int32) (x2 : Int32) (x3 : Int32) (x4 : Int32) (x5 : Int32) (x6 : Int32) (s0 : Int32) (μ : jM) : Option (Unit × jM) := f_X6_reckon_174  k43 jFU x1 x2 x3 x4 x5 x6 s0 μ
noncomputable def f_X6_reckon_138  (k43 : Int32 → Int32 → Int32 → Int32 → jM → Option (Unit × jM)) (k74 : Int32 → Int32 → Int32 → Int32 → Int32 → Int32 → jM → Option (Unit × jM)) (x1 : Int32) (x2 : Int32) (x3 : Int32) (x4 : Int32) (x6 : Int32) (s0 : Int32) (μ : jM) : Option (Unit × jM) := jlet (x6 + (1 : Int32)) (fun z10 : Int32 => k74 x1 x2 x3 x4 s0 z10 μ)
noncomputable def f_X6_reckon_136  (k43 : Int32 → Int32 → Int32 → Int32 → jM → Option (Unit × jM)) (k74 : Int32 → Int32 → Int32 → Int32 → Int32 → Int32 → jM → Option (Unit × jM)) (x1 : Int32) (x2 : Int32) (x3 : Int32) (x4 : Int32) (x5 : Int32) (x6 : Int32) (μ : jM) : Option (Unit × jM) := f_X6_reckon_138  k43 k74  x1 x2 x3 x4 x6 x5 μ
noncomputable def f_X6_reckon_74  (k43 : Int32 → Int32 → Int32 → Int32 → jM → Option (Unit × jM)) : Nat → Int32 → Int32 → Int32 → Int32 → Int32 → Int32 → jM → Option (Unit × jM)
  | 0, _, _, _, _, _, _, _ => none
  | fu + 1, x1, x2, x3, x4, x5, x6, μ => if x2 < (x4 + x6) then (jcall (f_X6_mostRun  μ) (fun (r11 : Int32) (μ11 : jM) => jcall (f_X6_likes x4 x2 r11 μ11) (fun (r12 : Int32) (μ12 : jM) => if (μ12.1 0 0) = (1 : Int32) then (f_X6_reckon_172  k43  x1 x2 x3 x4 x5 r12 (2 : Int32) μ12) else (f_X6_reckon_172  k43  x1 x2 x3 x4 x5 r12 (1 : Int32) μ12)))) else (jcall (f_X6_mayStand x4 x6 μ) (fun (r14 : Int32) (μ14 : jM) => if r14 = (0 : Int32) then (f_X6_reckon_136  k43 (fun x1 x2 x3 x4 x5 x6 μ => f_X6_reckon_74  k43 fu x1 x2 x3 x4 x5 x6 μ)  x1 x2 x3 x4 x5 x6 μ14) else (jcall (f_X6_selfCost x6 μ14) (fun (r15 : Int32) (μ15 : jM) => jin (x4 + x6) 241 (if x5 ≤ (r15 + (μ15.1 5 ((x4 + x6)).toNatClampNeg)) then (f_X6_reckon_136  k43 (fun x1 x2 x3 x4 x5 x6 μ => f_X6_reckon_74  k43 fu x1 x2 x3 x4 x5 x6 μ)  x1 x2 x3 x4 x5 x6 μ15) else (jcall (f_X6_selfCost x6 μ15) (fun (r17 : Int32) (μ17 : jM) => jin (x4 + x6) 241 (f_X6_reckon_138  k43 (fun x1 x2 x3 x4 x5 x6 μ => f_X6_reckon_74  k43 fu x1 x2 x3 x4 x5 x6 μ)  x1 x2 x3 x4 x6 (r17 + (μ17.1 5 ((x4 + x6)).toNatClampNeg)) μ17))))))))
noncomputable def f_X6_reckon_69  (k43 : Int32 → Int32 → Int32 → Int32 → jM → Option (Unit × jM)) (x1 : Int32) (x2 : Int32) (x3 : Int32) (x4 : Int32) (s0 : Int32) (μ : jM) : Option (Unit × jM) := f_X6_reckon_74  k43 jFU x1 x2 x3 x4 s0 (1 : Int32) μ
noncomputable def f_X6_reckon_67  (k43 : Int32 → Int32 → Int32 → Int32 → jM → Option (Unit × jM)) (x1 : Int32) (x2 : Int32) (x3 : Int32) (x4 : Int32) (μ : jM) : Option (Unit × jM) := f_X6_reckon_69  k43  x1 x2 x3 x4 (1000000 : Int32) μ
noncomputable def f_X6_reckon_43   : Nat → Int32 → Int32 → Int32 → Int32 → jM → Option (Unit × jM)
  | 0, _, _, _, _, _ => none
  | fu + 1, x1, x2, x3, x4, μ => if x4 < x1 then (some ((), μ)) else (if (μ.1 0 0) = (2 : Int32) then (if x4 < x3 then (f_X6_reckon_67  (fun x1 x2 x3 x4 μ => f_X6_reckon_43   fu x1 x2 x3 x4 μ)  x1 x2 x3 x4 μ) else (f_X6_reckon_69  (fun x1 x2 x3 x4 μ => f_X6_reckon_43   fu x1 x2 x3 x4 μ)  x1 x2 x3 x4 (2 : Int32) μ)) else (f_X6_reckon_67  (fun x1 x2 x3 x4 μ => f_X6_reckon_43   fu x1 x2 x3 x4 μ)  x1 x2 x3 x4 μ))
noncomputable def f_X6_reckon_37   (x1 : Int32) (x2 : Int32) (x3 : Int32) (s0 : Int32) (s1 : Int32) (μ : jM) : Option (Unit × jM) := jin s1 241 (jlet (jsI μ 5 (s1).toNatClampNeg s0) (fun μ25 : jM => jlet (x2 - (1 : Int32)) (fun z26 : Int32 => f_X6_reckon_43   jFU x1 x2 x3 z26 μ25)))
noncomputable def f_X6_reckon_18   (x1 : Int32) (x2 : Int32) (s0 : Int32) (μ : jM) : Option (Unit × jM) := if (μ.1 0 0) = (2 : Int32) then (f_X6_reckon_37    x1 x2 s0 (2 : Int32) x2 μ) else (f_X6_reckon_37    x1 x2 s0 (0 : Int32) x2 μ)
noncomputable def f_X6_reckon (x1 : Int32) (x2 : Int32) (μ : jM) : Option (Unit × jM) := if (μ.1 0 0) = (2 : Int32) then (jcall (f_X6_restOf x1 x2 μ) (fun (r28 : Int32) (μ28 : jM) => f_X6_reckon_18    x1 x2 r28 μ28)) else (f_X6_reckon_18    x1 x2 x2 μ)
set_option maxHeartbeats 4000000 in
theorem t_X6_reckon_221 {Γ : jC} {Δ : jD} {r : Unit} {μ9 : jM}  {k43 : Int32 → Int32 → Int32 → Int32 → jM → Option (Unit × jM)} {k174 : Int32 → Int32 → Int32 → Int32 → Int32 → Int32 → Int32 → jM → Option (Unit × jM)}  (X : jOk Γ Δ shM cX6_reckon 8 RX6 none D_X6_reckon) (hk43 : ∀ (x1 : Int32) (x2 : Int32) (x3 : Int32) (x4 : Int32) (μ : jM), k43 x1 x2 x3 x4 μ = some (r, μ9) → jG Γ Δ shM (none, μ9) 43 [some (jr Δ 0), some (.int x1), some (.int x2), some (.int x3), some (.int x4), none, none, none] [] μ) (hk174 : ∀ (x1 : Int32) (x2 : Int32) (x3 : Int32) (x4 : Int32) (x5 : Int32) (x6 : Int32) (x7 : Int32) (μ : jM), k174 x1 x2 x3 x4 x5 x6 x7 μ = some (r, μ9) → jG Γ Δ shM (none, μ9) 174 [some (jr Δ 0), some (.int x1), some (.int x2), some (.int x3), some (.int x4), some (.int x5), some (.int x6), some (.int x7)] [] μ) : ∀ (x1 : Int32) (x2 : Int32) (x3 : Int32) (x4 : Int32) (x6 : Int32) (x7 : Int32) (s0 : Int32) (μ : jM), f_X6_reckon_221  k43 k174 x1 x2 x3 x4 x6 x7 s0 μ = some (r, μ9) → jG Γ Δ shM (none, μ9) 221 [some (jr Δ 0), some (.int x1), some (.int x2), some (.int x3), some (.int x4), none, some (.int x6), some (.int x7)] [.int s0] μ := by
  intro x1 x2 x3 x4 x6 x7 s0 μ hf
  unfold f_X6_reckon_221 at hf
  refine g_ist (pc := 221) (L1 := [some (jr Δ 0), some (.int x1), some (.int x2), some (.int x3), some (.int x4), some (.int s0), some (.int x6), some (.int x7)]) X dX6_reckon_221 (Nat.le_of_ble_eq_true rfl) rfl rfl ?_
  obtain ⟨z1, ez1⟩ : ∃ z : Int32, z = x7 + (1 : Int32) := ⟨_, rfl⟩
  replace hf := jlet_i ez1 hf
  refine g_iinc (pc := 223) (L1 := [some (jr Δ 0), some (.int x1), some (.int x2), some (.int x3), some (.int x4), some (.int s0), some (.int x6), some (.int z1)]) X dX6_reckon_223 rfl (by rw [ez1]; rfl) rfl rfl ?_
  refine g_goto (pc := 226) 174 X dX6_reckon_226 (by decide) ?_
  exact g_weak (hk174 _ _ _ _ _ _ _ _ hf) (⟨rfl, ⟨rfl, ⟨rfl, ⟨rfl, ⟨rfl, ⟨rfl, ⟨rfl, ⟨rfl, trivial⟩⟩⟩⟩⟩⟩⟩⟩)
set_option maxHeartbeats 4000000 in
theorem t_X6_reckon_174 {Γ : jC} {Δ : jD} {r : Unit} {μ9 : jM}  {k43 : Int32 → Int32 → Int32 → Int32 → jM → Option (Unit × jM)}  (X : jOk Γ Δ shM cX6_reckon 8 RX6 none D_X6_reckon) (hk43 : ∀ (x1 : Int32) (x2 : Int32) (x3 : Int32) (x4 : Int32) (μ : jM), k43 x1 x2 x3 x4 μ = some (r, μ9) → jG Γ Δ shM (none, μ9) 43 [some (jr Δ 0), some (.int x1), some (.int x2), some (.int x3), some (.int x4), none, none, none] [] μ) : ∀ (fu : Nat) (x1 : Int32) (x2 : Int32) (x3 : Int32) (x4 : Int32) (x5 : Int32) (x6 : Int32) (x7 : Int32) (μ : jM), f_X6_reckon_174  k43 fu x1 x2 x3 x4 x5 x6 x7 μ = some (r, μ9) → jG Γ Δ shM (none, μ9) 174 [some (jr Δ 0), some (.int x1), some (.int x2), some (.int x3), some (.int x4), some (.int x5), some (.int x6), some (.int x7)] [] μ := by
  intro fu
  induction fu with
  | zero =>
    intro x1 x2 x3 x4 x5 x6 x7 μ hf
    cases hf
  | succ fu ih =>
    intro x1 x2 x3 x4 x5 x6 x7 μ hf
    replace hf := (f_X6_reckon_174.eq_2 _ _ _ _ _ _ _ _ _ _).symm.trans hf
    refine g_ild (pc := 174) X dX6_reckon_174 rfl ?_
    refine g_ild (pc := 176) X dX6_reckon_176 rfl ?_
    refine g_icmp_gt (pc := 178) 229 X dX6_reckon_178 (by decide) (fun h9 => ?_) (fun h9 => ?_)
    · replace hf := jt_i h9 hf
      refine g_ald_n (pc := 229) (i := 0) X dX6_reckon_229 rfl rfl ?_
      refine g_getR (pc := 230) (k := 16) X dX6_reckon_230 cl_X6 rfl rfl (by decide) w_677 ?_
      refine g_ild (pc := 233) X dX6_reckon_233 rfl ?_
      refine g_ild (pc := 235) X dX6_reckon_235 rfl ?_
      obtain ⟨hi2, hf⟩ := jin_i hf
      refine g_iast (pc := 237) X dX6_reckon_237 rfl hi2 ?_
      refine g_nmM (fun μ2 eμ2 => ?_)
      replace hf := jlet_i eμ2 hf
      obtain ⟨z3, ez3⟩ : ∃ z : Int32, z = x4 + (-1 : Int32) := ⟨_, rfl⟩
      replace hf := jlet_i ez3 hf
      refine g_iinc (pc := 238) (L1 := [some (jr Δ 0), some (.int x1), some (.int x2), some (.int x3), some (.int z3), some (.int x5), some (.int x6), some (.int x7)]) X dX6_reckon_238 rfl (by rw [ez3]; rfl) rfl rfl ?_
      refine g_goto (pc := 241) 43 X dX6_reckon_241 (by decide) ?_
      exact g_weak (hk43 _ _ _ _ _ hf) (⟨rfl, ⟨rfl, ⟨rfl, ⟨rfl, ⟨rfl, trivial⟩⟩⟩⟩⟩)
    · replace hf := jf_i h9 hf
      refine g_ald_n (pc := 181) (i := 0) X dX6_reckon_181 rfl rfl ?_
      obtain ⟨r4, μ4, hc4, hf⟩ := jcall_i hf
      refine g_callVi (pc := 182) [] X dX6_reckon_182 (M_X6_runCost  (jOk_sep X) hc4) Y_X6_runCost w_851 ws_25 w_853 cl_X6 rfl rfl (by decide) rfl rfl (Nat.le_of_ble_eq_true rfl) rfl ?_
      refine g_ald_n (pc := 185) (i := 0) X dX6_reckon_185 rfl rfl ?_
      refine g_getR (pc := 186) (k := 16) X dX6_reckon_186 cl_X6 rfl rfl (by decide) w_677 ?_
      refine g_ild (pc := 189) X dX6_reckon_189 rfl ?_
      refine g_ild (pc := 191) X dX6_reckon_191 rfl ?_
      refine g_iadd (pc := 193) X dX6_reckon_193 ?_
      obtain ⟨hi5, hf⟩ := jin_i hf
      refine g_iald (pc := 194) X dX6_reckon_194 rfl hi5 ?_
      refine g_iadd (pc := 195) X dX6_reckon_195 ?_
      refine g_ild (pc := 196) X dX6_reckon_196 rfl ?_
      refine g_icmp_ge (pc := 198) 219 X dX6_reckon_198 (by decide) (fun h8 => ?_) (fun h8 => ?_)
      · replace hf := jt_i h8 hf
        refine g_ild (pc := 219) X dX6_reckon_219 rfl ?_
        exact g_weak (t_X6_reckon_221  X hk43 (fun _ _ _ _ _ _ _ _ h => ih _ _ _ _ _ _ _ _ h)  _ _ _ _ _ _ _ _ hf) (⟨rfl, ⟨rfl, ⟨rfl, ⟨rfl, ⟨rfl, ⟨rfl, ⟨rfl, trivial⟩⟩⟩⟩⟩⟩⟩)
      · replace hf := jf_i h8 hf
        refine g_ald_n (pc := 201) (i := 0) X dX6_reckon_201 rfl rfl ?_
        obtain ⟨r6, μ6, hc6, hf⟩ := jcall_i hf
        refine g_callVi (pc := 202) [] X dX6_reckon_202 (M_X6_runCost  (jOk_sep X) hc6) Y_X6_runCost w_851 ws_25 w_853 cl_X6 rfl rfl (by decide) rfl rfl (Nat.le_of_ble_eq_true rfl) rfl ?_
        refine g_ald_n (pc := 205) (i := 0) X dX6_reckon_205 rfl rfl ?_
        refine g_getR (pc := 206) (k := 16) X dX6_reckon_206 cl_X6 rfl rfl (by decide) w_677 ?_
        refine g_ild (pc := 209) X dX6_reckon_209 rfl ?_
        refine g_ild (pc := 211) X dX6_reckon_211 rfl ?_
        refine g_iadd (pc := 213) X dX6_reckon_213 ?_
        obtain ⟨hi7, hf⟩ := jin_i hf
        refine g_iald (pc := 214) X dX6_reckon_214 rfl hi7 ?_
        refine g_iadd (pc := 215) X dX6_reckon_215 ?_
        refine g_goto (pc := 216) 221 X dX6_reckon_216 (by decide) ?_
        exact g_weak (t_X6_reckon_221  X hk43 (fun _ _ _ _ _ _ _ _ h => ih _ _ _ _ _ _ _ _ h)  _ _ _ _ _ _ _ _ hf) (⟨rfl, ⟨rfl, ⟨rfl, ⟨rfl, ⟨rfl, ⟨rfl, ⟨rfl, trivial⟩⟩⟩⟩⟩⟩⟩)
set_option maxHeartbeats 4000000 in
theorem t_X6_reckon_172 {Γ : jC} {Δ : jD} {r : Unit} {μ9 : jM}  {k43 : Int32 → Int32 → Int32 → Int32 → jM → Option (Unit × jM)}  (X : jOk Γ Δ shM cX6_reckon 8 RX6 none D_X6_reckon) (hk43 : ∀ (x1 : Int32) (x2 : Int32) (x3 : Int32) (x4 : Int32) (μ : jM), k43 x1 x2 x3 x4 μ = some (r, μ9) → jG Γ Δ shM (none, μ9) 43 [some (jr Δ 0), some (.int x1), some (.int x2), some (.int x3), some (.int x4), none, none, none] [] μ) : ∀ (x1 : Int32) (x2 : Int32) (x3 : Int32) (x4 : Int32) (x5 : Int32) (x6 : Int32) (s0 : Int32) (μ : jM), f_X6_reckon_172  k43 x1 x2 x3 x4 x5 x6 s0 μ = some (r, μ9) → jG Γ Δ shM (none, μ9) 172 [some (jr Δ 0), some (.int x1), some (.int x2), some (.int x3), some (.int x4), some (.int x5), some (.int x6), none] [.int s0] μ := by
  intro x1 x2 x3 x4 x5 x6 s0 μ hf
  unfold f_X6_reckon_172 at hf
  refine g_ist (pc := 172) (L1 := [some (jr Δ 0), some (.int x1), some (.int x2), some (.int x3), some (.int x4), some (.int x5), some (.int x6), some (.int s0)]) X dX6_reckon_172 (Nat.le_of_ble_eq_true rfl) rfl rfl ?_
  exact g_weak (t_X6_reckon_174  X hk43 jFU _ _ _ _ _ _ _ _ hf) (⟨rfl, ⟨rfl, ⟨rfl, ⟨rfl, ⟨rfl, ⟨rfl, ⟨rfl, ⟨rfl, trivial⟩⟩⟩⟩⟩⟩⟩⟩)
set_option maxHeartbeats 4000000 in
theorem t_X6_reckon_138 {Γ : jC} {Δ : jD} {r : Unit} {μ9 : jM}  {k43 : Int32 → Int32 → Int32 → Int32 → jM → Option (Unit × jM)} {k74 : Int32 → Int32 → Int32 → Int32 → Int32 → Int32 → jM → Option (Unit × jM)}  (X : jOk Γ Δ shM cX6_reckon 8 RX6 none D_X6_reckon) (hk43 : ∀ (x1 : Int32) (x2 : Int32) (x3 : Int32) (x4 : Int32) (μ : jM), k43 x1 x2 x3 x4 μ = some (r, μ9) → jG Γ Δ shM (none, μ9) 43 [some (jr Δ 0), some (.int x1), some (.int x2), some (.int x3), some (.int x4), none, none, none] [] μ) (hk74 : ∀ (x1 : Int32) (x2 : Int32) (x3 : Int32) (x4 : Int32) (x5 : Int32) (x6 : Int32) (μ : jM), k74 x1 x2 x3 x4 x5 x6 μ = some (r, μ9) → jG Γ Δ shM (none, μ9) 74 [some (jr Δ 0), some (.int x1), some (.int x2), some (.int x3), some (.int x4), some (.int x5), some (.int x6), none] [] μ) : ∀ (x1 : Int32) (x2 : Int32) (x3 : Int32) (x4 : Int32) (x6 : Int32) (s0 : Int32) (μ : jM), f_X6_reckon_138  k43 k74 x1 x2 x3 x4 x6 s0 μ = some (r, μ9) → jG Γ Δ shM (none, μ9) 138 [some (jr Δ 0), some (.int x1), some (.int x2), some (.int x3), some (.int x4), none, some (.int x6), none] [.int s0] μ := by
  intro x1 x2 x3 x4 x6 s0 μ hf
  unfold f_X6_reckon_138 at hf
  refine g_ist (pc := 138) (L1 := [some (jr Δ 0), some (.int x1), some (.int x2), some (.int x3), some (.int x4), some (.int s0), some (.int x6), none]) X dX6_reckon_138 (Nat.le_of_ble_eq_true rfl) rfl rfl ?_
  obtain ⟨z10, ez10⟩ : ∃ z : Int32, z = x6 + (1 : Int32) := ⟨_, rfl⟩
  replace hf := jlet_i ez10 hf
  refine g_iinc (pc := 140) (L1 := [some (jr Δ 0), some (.int x1), some (.int x2), some (.int x3), some (.int x4), some (.int s0), some (.int z10), none]) X dX6_reckon_140 rfl (by rw [ez10]; rfl) rfl rfl ?_
  refine g_goto (pc := 143) 74 X dX6_reckon_143 (by decide) ?_
  exact g_weak (hk74 _ _ _ _ _ _ _ hf) (⟨rfl, ⟨rfl, ⟨rfl, ⟨rfl, ⟨rfl, ⟨rfl, ⟨rfl, trivial⟩⟩⟩⟩⟩⟩⟩)
set_option maxHeartbeats 4000000 in
theorem t_X6_reckon_136 {Γ : jC} {Δ : jD} {r : Unit} {μ9 : jM}  {k43 : Int32 → Int32 → Int32 → Int32 → jM → Option (Unit × jM)} {k74 : Int32 → Int32 → Int32 → Int32 → Int32 → Int32 → jM → Option (Unit × jM)}  (X : jOk Γ Δ shM cX6_reckon 8 RX6 none D_X6_reckon) (hk43 : ∀ (x1 : Int32) (x2 : Int32) (x3 : Int32) (x4 : Int32) (μ : jM), k43 x1 x2 x3 x4 μ = some (r, μ9) → jG Γ Δ shM (none, μ9) 43 [some (jr Δ 0), some (.int x1), some (.int x2), some (.int x3), some (.int x4), none, none, none] [] μ) (hk74 : ∀ (x1 : Int32) (x2 : Int32) (x3 : Int32) (x4 : Int32) (x5 : Int32) (x6 : Int32) (μ : jM), k74 x1 x2 x3 x4 x5 x6 μ = some (r, μ9) → jG Γ Δ shM (none, μ9) 74 [some (jr Δ 0), some (.int x1), some (.int x2), some (.int x3), some (.int x4), some (.int x5), some (.int x6), none] [] μ) : ∀ (x1 : Int32) (x2 : Int32) (x3 : Int32) (x4 : Int32) (x5 : Int32) (x6 : Int32) (μ : jM), f_X6_reckon_136  k43 k74 x1 x2 x3 x4 x5 x6 μ = some (r, μ9) → jG Γ Δ shM (none, μ9) 136 [some (jr Δ 0), some (.int x1), some (.int x2), some (.int x3), some (.int x4), some (.int x5), some (.int x6), none] [] μ := by
  intro x1 x2 x3 x4 x5 x6 μ hf
  unfold f_X6_reckon_136 at hf
  refine g_ild (pc := 136) X dX6_reckon_136 rfl ?_
  exact g_weak (t_X6_reckon_138  X hk43 hk74  _ _ _ _ _ _ _ hf) (⟨rfl, ⟨rfl, ⟨rfl, ⟨rfl, ⟨rfl, ⟨rfl, trivial⟩⟩⟩⟩⟩⟩)
set_option maxHeartbeats 4000000 in
theorem t_X6_reckon_74 {Γ : jC} {Δ : jD} {r : Unit} {μ9 : jM}  {k43 : Int32 → Int32 → Int32 → Int32 → jM → Option (Unit × jM)}  (X : jOk Γ Δ shM cX6_reckon 8 RX6 none D_X6_reckon) (hk43 : ∀ (x1 : Int32) (x2 : Int32) (x3 : Int32) (x4 : Int32) (μ : jM), k43 x1 x2 x3 x4 μ = some (r, μ9) → jG Γ Δ shM (none, μ9) 43 [some (jr Δ 0), some (.int x1), some (.int x2), some (.int x3), some (.int x4), none, none, none] [] μ) : ∀ (fu : Nat) (x1 : Int32) (x2 : Int32) (x3 : Int32) (x4 : Int32) (x5 : Int32) (x6 : Int32) (μ : jM), f_X6_reckon_74  k43 fu x1 x2 x3 x4 x5 x6 μ = some (r, μ9) → jG Γ Δ shM (none, μ9) 74 [some (jr Δ 0), some (.int x1), some (.int x2), some (.int x3), some (.int x4), some (.int x5), some (.int x6), none] [] μ := by
  intro fu
  induction fu with
  | zero =>
    intro x1 x2 x3 x4 x5 x6 μ hf
    cases hf
  | succ fu ih =>
    intro x1 x2 x3 x4 x5 x6 μ hf
    replace hf := (f_X6_reckon_74.eq_2 _ _ _ _ _ _ _ _ _).symm.trans hf
    refine g_ild (pc := 74) X dX6_reckon_74 rfl ?_
    refine g_ild (pc := 76) X dX6_reckon_76 rfl ?_
    refine g_iadd (pc := 78) X dX6_reckon_78 ?_
    refine g_ild_n (pc := 79) (i := 2) X dX6_reckon_79 rfl rfl ?_
    refine g_icmp_gt (pc := 80) 146 X dX6_reckon_80 (by decide) (fun h21 => ?_) (fun h21 => ?_)
    · replace hf := jt_i h21 hf
      refine g_ald_n (pc := 146) (i := 0) X dX6_reckon_146 rfl rfl ?_
      refine g_ild (pc := 147) X dX6_reckon_147 rfl ?_
      refine g_ild_n (pc := 149) (i := 2) X dX6_reckon_149 rfl rfl ?_
      refine g_ald_n (pc := 150) (i := 0) X dX6_reckon_150 rfl rfl ?_
      obtain ⟨r11, μ11, hc11, hf⟩ := jcall_i hf
      refine g_callVi (pc := 151) [] X dX6_reckon_151 (M_X6_mostRun  (jOk_sep X) hc11) Y_X6_mostRun w_802 ws_13 w_804 cl_X6 rfl rfl (by decide) rfl rfl (Nat.le_of_ble_eq_true rfl) rfl ?_
      obtain ⟨r12, μ12, hc12, hf⟩ := jcall_i hf
      refine g_callVi (pc := 154) [.int x4, .int x2, .int r11] X dX6_reckon_154 (M_X6_likes  (jOk_sep X) hc12) Y_X6_likes w_806 ws_14 w_808 cl_X6 rfl rfl (by decide) rfl rfl (Nat.le_of_ble_eq_true rfl) rfl ?_
      refine g_ist (pc := 157) (L1 := [some (jr Δ 0), some (.int x1), some (.int x2), some (.int x3), some (.int x4), some (.int x5), some (.int r12), none]) X dX6_reckon_157 (Nat.le_of_ble_eq_true rfl) rfl rfl ?_
      refine g_ald_n (pc := 159) (i := 0) X dX6_reckon_159 rfl rfl ?_
      refine g_getI (pc := 160) (k := 0) X dX6_reckon_160 cl_X6 rfl rfl (by decide) w_661 ?_
      refine g_iconst (pc := 163) (v := (1 : Int32)) X dX6_reckon_163 (by decide) ?_
      refine g_icmp_ne (pc := 164) 171 X dX6_reckon_164 (by decide) (fun h13 => ?_) (fun h13 => ?_)
      · replace hf := jf_i h13 hf
        refine g_iconst (pc := 171) (v := (1 : Int32)) X dX6_reckon_171 (by decide) ?_
        exact g_weak (t_X6_reckon_172  X hk43  _ _ _ _ _ _ _ _ hf) (⟨rfl, ⟨rfl, ⟨rfl, ⟨rfl, ⟨rfl, ⟨rfl, ⟨rfl, trivial⟩⟩⟩⟩⟩⟩⟩)
      · replace hf := jt_i h13 hf
        refine g_iconst (pc := 167) (v := (2 : Int32)) X dX6_reckon_167 (by decide) ?_
        refine g_goto (pc := 168) 172 X dX6_reckon_168 (by decide) ?_
        exact g_weak (t_X6_reckon_172  X hk43  _ _ _ _ _ _ _ _ hf) (⟨rfl, ⟨rfl, ⟨rfl, ⟨rfl, ⟨rfl, ⟨rfl, ⟨rfl, trivial⟩⟩⟩⟩⟩⟩⟩)
    · replace hf := jf_i h21 hf
      refine g_ald_n (pc := 83) (i := 0) X dX6_reckon_83 rfl rfl ?_
      refine g_ild (pc := 84) X dX6_reckon_84 rfl ?_
      refine g_ild (pc := 86) X dX6_reckon_86 rfl ?_
      obtain ⟨r14, μ14, hc14, hf⟩ := jcall_i hf
      refine g_callVi (pc := 88) [.int x4, .int x6] X dX6_reckon_88 (M_X6_mayStand  (jOk_sep X) hc14) Y_X6_mayStand w_843 ws_23 w_845 cl_X6 rfl rfl (by decide) rfl rfl (Nat.le_of_ble_eq_true rfl) rfl ?_
      refine g_if_eq (pc := 91) 136 X dX6_reckon_91 (by decide) (fun h20 => ?_) (fun h20 => ?_)
      · replace hf := jt_i h20 hf
        exact g_weak (t_X6_reckon_136  X hk43 (fun _ _ _ _ _ _ _ h => ih _ _ _ _ _ _ _ h)  _ _ _ _ _ _ _ hf) (⟨rfl, ⟨rfl, ⟨rfl, ⟨rfl, ⟨rfl, ⟨rfl, ⟨rfl, trivial⟩⟩⟩⟩⟩⟩⟩)
      · replace hf := jf_i h20 hf
        refine g_ald_n (pc := 94) (i := 0) X dX6_reckon_94 rfl rfl ?_
        refine g_ild (pc := 95) X dX6_reckon_95 rfl ?_
        obtain ⟨r15, μ15, hc15, hf⟩ := jcall_i hf
        refine g_callVi (pc := 97) [.int x6] X dX6_reckon_97 (M_X6_selfCost  (jOk_sep X) hc15) Y_X6_selfCost w_847 ws_24 w_849 cl_X6 rfl rfl (by decide) rfl rfl (Nat.le_of_ble_eq_true rfl) rfl ?_
        refine g_ald_n (pc := 100) (i := 0) X dX6_reckon_100 rfl rfl ?_
        refine g_getR (pc := 101) (k := 16) X dX6_reckon_101 cl_X6 rfl rfl (by decide) w_677 ?_
        refine g_ild (pc := 104) X dX6_reckon_104 rfl ?_
        refine g_ild (pc := 106) X dX6_reckon_106 rfl ?_
        refine g_iadd (pc := 108) X dX6_reckon_108 ?_
        obtain ⟨hi16, hf⟩ := jin_i hf
        refine g_iald (pc := 109) X dX6_reckon_109 rfl hi16 ?_
        refine g_iadd (pc := 110) X dX6_reckon_110 ?_
        refine g_ild (pc := 111) X dX6_reckon_111 rfl ?_
        refine g_icmp_ge (pc := 113) 136 X dX6_reckon_113 (by decide) (fun h19 => ?_) (fun h19 => ?_)
        · replace hf := jt_i h19 hf
          exact g_weak (t_X6_reckon_136  X hk43 (fun _ _ _ _ _ _ _ h => ih _ _ _ _ _ _ _ h)  _ _ _ _ _ _ _ hf) (⟨rfl, ⟨rfl, ⟨rfl, ⟨rfl, ⟨rfl, ⟨rfl, ⟨rfl, trivial⟩⟩⟩⟩⟩⟩⟩)
        · replace hf := jf_i h19 hf
          refine g_ald_n (pc := 116) (i := 0) X dX6_reckon_116 rfl rfl ?_
          refine g_ild (pc := 117) X dX6_reckon_117 rfl ?_
          obtain ⟨r17, μ17, hc17, hf⟩ := jcall_i hf
          refine g_callVi (pc := 119) [.int x6] X dX6_reckon_119 (M_X6_selfCost  (jOk_sep X) hc17) Y_X6_selfCost w_847 ws_24 w_849 cl_X6 rfl rfl (by decide) rfl rfl (Nat.le_of_ble_eq_true rfl) rfl ?_
          refine g_ald_n (pc := 122) (i := 0) X dX6_reckon_122 rfl rfl ?_
          refine g_getR (pc := 123) (k := 16) X dX6_reckon_123 cl_X6 rfl rfl (by decide) w_677 ?_
          refine g_ild (pc := 126) X dX6_reckon_126 rfl ?_
          refine g_ild (pc := 128) X dX6_reckon_128 rfl ?_
          refine g_iadd (pc := 130) X dX6_reckon_130 ?_
          obtain ⟨hi18, hf⟩ := jin_i hf
          refine g_iald (pc := 131) X dX6_reckon_131 rfl hi18 ?_
          refine g_iadd (pc := 132) X dX6_reckon_132 ?_
          refine g_goto (pc := 133) 138 X dX6_reckon_133 (by decide) ?_
          exact g_weak (t_X6_reckon_138  X hk43 (fun _ _ _ _ _ _ _ h => ih _ _ _ _ _ _ _ h)  _ _ _ _ _ _ _ hf) (⟨rfl, ⟨rfl, ⟨rfl, ⟨rfl, ⟨rfl, ⟨rfl, trivial⟩⟩⟩⟩⟩⟩)
set_option maxHeartbeats 4000000 in
theorem t_X6_reckon_69 {Γ : jC} {Δ : jD} {r : Unit} {μ9 : jM}  {k43 : Int32 → Int32 → Int32 → Int32 → jM → Option (Unit × jM)}  (X : jOk Γ Δ shM cX6_reckon 8 RX6 none D_X6_reckon) (hk43 : ∀ (x1 : Int32) (x2 : Int32) (x3 : Int32) (x4 : Int32) (μ : jM), k43 x1 x2 x3 x4 μ = some (r, μ9) → jG Γ Δ shM (none, μ9) 43 [some (jr Δ 0), some (.int x1), some (.int x2), some (.int x3), some (.int x4), none, none, none] [] μ) : ∀ (x1 : Int32) (x2 : Int32) (x3 : Int32) (x4 : Int32) (s0 : Int32) (μ : jM), f_X6_reckon_69  k43 x1 x2 x3 x4 s0 μ = some (r, μ9) → jG Γ Δ shM (none, μ9) 69 [some (jr Δ 0), some (.int x1), some (.int x2), some (.int x3), some (.int x4), none, none, none] [.int s0] μ := by
  intro x1 x2 x3 x4 s0 μ hf
  unfold f_X6_reckon_69 at hf
  refine g_ist (pc := 69) (L1 := [some (jr Δ 0), some (.int x1), some (.int x2), some (.int x3), some (.int x4), some (.int s0), none, none]) X dX6_reckon_69 (Nat.le_of_ble_eq_true rfl) rfl rfl ?_
  refine g_iconst (pc := 71) (v := (1 : Int32)) X dX6_reckon_71 (by decide) ?_
  refine g_ist (pc := 72) (L1 := [some (jr Δ 0), some (.int x1), some (.int x2), some (.int x3), some (.int x4), some (.int s0), some (.int (1 : Int32)), none]) X dX6_reckon_72 (Nat.le_of_ble_eq_true rfl) rfl rfl ?_
  exact g_weak (t_X6_reckon_74  X hk43 jFU _ _ _ _ _ _ _ hf) (⟨rfl, ⟨rfl, ⟨rfl, ⟨rfl, ⟨rfl, ⟨rfl, ⟨rfl, trivial⟩⟩⟩⟩⟩⟩⟩)
set_option maxHeartbeats 4000000 in
theorem t_X6_reckon_67 {Γ : jC} {Δ : jD} {r : Unit} {μ9 : jM}  {k43 : Int32 → Int32 → Int32 → Int32 → jM → Option (Unit × jM)}  (X : jOk Γ Δ shM cX6_reckon 8 RX6 none D_X6_reckon) (hk43 : ∀ (x1 : Int32) (x2 : Int32) (x3 : Int32) (x4 : Int32) (μ : jM), k43 x1 x2 x3 x4 μ = some (r, μ9) → jG Γ Δ shM (none, μ9) 43 [some (jr Δ 0), some (.int x1), some (.int x2), some (.int x3), some (.int x4), none, none, none] [] μ) : ∀ (x1 : Int32) (x2 : Int32) (x3 : Int32) (x4 : Int32) (μ : jM), f_X6_reckon_67  k43 x1 x2 x3 x4 μ = some (r, μ9) → jG Γ Δ shM (none, μ9) 67 [some (jr Δ 0), some (.int x1), some (.int x2), some (.int x3), some (.int x4), none, none, none] [] μ := by
  intro x1 x2 x3 x4 μ hf
  unfold f_X6_reckon_67 at hf
  refine g_ldc (pc := 67) X dX6_reckon_67 w_842 ?_
  exact g_weak (t_X6_reckon_69  X hk43  _ _ _ _ _ _ hf) (⟨rfl, ⟨rfl, ⟨rfl, ⟨rfl, ⟨rfl, trivial⟩⟩⟩⟩⟩)
set_option maxHeartbeats 4000000 in
theorem t_X6_reckon_43 {Γ : jC} {Δ : jD} {r : Unit} {μ9 : jM}    (X : jOk Γ Δ shM cX6_reckon 8 RX6 none D_X6_reckon)  : ∀ (fu : Nat) (x1 : Int32) (x2 : Int32) (x3 : Int32) (x4 : Int32) (μ : jM), f_X6_reckon_43   fu x1 x2 x3 x4 μ = some (r, μ9) → jG Γ Δ shM (none, μ9) 43 [some (jr Δ 0), some (.int x1), some (.int x2), some (.int x3), some (.int x4), none, none, none] [] μ := by
  intro fu
  induction fu with
  | zero =>
    intro x1 x2 x3 x4 μ hf
    cases hf
  | succ fu ih =>
    intro x1 x2 x3 x4 μ hf
    replace hf := (f_X6_reckon_43.eq_2 _ _ _ _ _ _).symm.trans hf
    refine g_ild (pc := 43) X dX6_reckon_43 rfl ?_
    refine g_ild_n (pc := 45) (i := 1) X dX6_reckon_45 rfl rfl ?_
    refine g_icmp_lt (pc := 46) 244 X dX6_reckon_46 (by decide) (fun h24 => ?_) (fun h24 => ?_)
    · replace hf := jt_i h24 hf
      exact g_vret (pc := 244) X dX6_reckon_244 hf
    · replace hf := jf_i h24 hf
      refine g_ald_n (pc := 49) (i := 0) X dX6_reckon_49 rfl rfl ?_
      refine g_getI (pc := 50) (k := 0) X dX6_reckon_50 cl_X6 rfl rfl (by decide) w_661 ?_
      refine g_iconst (pc := 53) (v := (2 : Int32)) X dX6_reckon_53 (by decide) ?_
      refine g_icmp_ne (pc := 54) 67 X dX6_reckon_54 (by decide) (fun h23 => ?_) (fun h23 => ?_)
      · replace hf := jf_i h23 hf
        exact g_weak (t_X6_reckon_67  X (fun _ _ _ _ _ h => ih _ _ _ _ _ h)  _ _ _ _ _ hf) (⟨rfl, ⟨rfl, ⟨rfl, ⟨rfl, ⟨rfl, trivial⟩⟩⟩⟩⟩)
      · replace hf := jt_i h23 hf
        refine g_ild (pc := 57) X dX6_reckon_57 rfl ?_
        refine g_ild_n (pc := 59) (i := 3) X dX6_reckon_59 rfl rfl ?_
        refine g_icmp_lt (pc := 60) 67 X dX6_reckon_60 (by decide) (fun h22 => ?_) (fun h22 => ?_)
        · replace hf := jt_i h22 hf
          exact g_weak (t_X6_reckon_67  X (fun _ _ _ _ _ h => ih _ _ _ _ _ h)  _ _ _ _ _ hf) (⟨rfl, ⟨rfl, ⟨rfl, ⟨rfl, ⟨rfl, trivial⟩⟩⟩⟩⟩)
        · replace hf := jf_i h22 hf
          refine g_iconst (pc := 63) (v := (2 : Int32)) X dX6_reckon_63 (by decide) ?_
          refine g_goto (pc := 64) 69 X dX6_reckon_64 (by decide) ?_
          exact g_weak (t_X6_reckon_69  X (fun _ _ _ _ _ h => ih _ _ _ _ _ h)  _ _ _ _ _ _ hf) (⟨rfl, ⟨rfl, ⟨rfl, ⟨rfl, ⟨rfl, trivial⟩⟩⟩⟩⟩)
set_option maxHeartbeats 4000000 in
theorem t_X6_reckon_37 {Γ : jC} {Δ : jD} {r : Unit} {μ9 : jM}    (X : jOk Γ Δ shM cX6_reckon 8 RX6 none D_X6_reckon)  : ∀ (x1 : Int32) (x2 : Int32) (x3 : Int32) (s0 : Int32) (s1 : Int32) (μ : jM), f_X6_reckon_37   x1 x2 x3 s0 s1 μ = some (r, μ9) → jG Γ Δ shM (none, μ9) 37 [some (jr Δ 0), some (.int x1), some (.int x2), some (.int x3), none, none, none, none] [.int s0, .int s1, jr Δ 5] μ := by
  intro x1 x2 x3 s0 s1 μ hf
  unfold f_X6_reckon_37 at hf
  obtain ⟨hi25, hf⟩ := jin_i hf
  refine g_iast (pc := 37) X dX6_reckon_37 rfl hi25 ?_
  refine g_nmM (fun μ25 eμ25 => ?_)
  replace hf := jlet_i eμ25 hf
  refine g_ild_n (pc := 38) (i := 2) X dX6_reckon_38 rfl rfl ?_
  refine g_iconst (pc := 39) (v := (1 : Int32)) X dX6_reckon_39 (by decide) ?_
  refine g_isub (pc := 40) X dX6_reckon_40 ?_
  refine g_nmI (fun z26 ez26 => ?_)
  replace hf := jlet_i ez26 hf
  refine g_ist (pc := 41) (L1 := [some (jr Δ 0), some (.int x1), some (.int x2), some (.int x3), some (.int z26), none, none, none]) X dX6_reckon_41 (Nat.le_of_ble_eq_true rfl) rfl rfl ?_
  exact g_weak (t_X6_reckon_43  X  jFU _ _ _ _ _ hf) (⟨rfl, ⟨rfl, ⟨rfl, ⟨rfl, ⟨rfl, trivial⟩⟩⟩⟩⟩)
set_option maxHeartbeats 4000000 in
theorem t_X6_reckon_18 {Γ : jC} {Δ : jD} {r : Unit} {μ9 : jM}    (X : jOk Γ Δ shM cX6_reckon 8 RX6 none D_X6_reckon)  : ∀ (x1 : Int32) (x2 : Int32) (s0 : Int32) (μ : jM), f_X6_reckon_18   x1 x2 s0 μ = some (r, μ9) → jG Γ Δ shM (none, μ9) 18 [some (jr Δ 0), some (.int x1), some (.int x2), none, none, none, none, none] [.int s0] μ := by
  intro x1 x2 s0 μ hf
  unfold f_X6_reckon_18 at hf
  refine g_ist_n (pc := 18) (i := 3) (L1 := [some (jr Δ 0), some (.int x1), some (.int x2), some (.int s0), none, none, none, none]) X dX6_reckon_18 rfl (Nat.le_of_ble_eq_true rfl) rfl rfl ?_
  refine g_ald_n (pc := 19) (i := 0) X dX6_reckon_19 rfl rfl ?_
  refine g_getR (pc := 20) (k := 16) X dX6_reckon_20 cl_X6 rfl rfl (by decide) w_677 ?_
  refine g_ild_n (pc := 23) (i := 2) X dX6_reckon_23 rfl rfl ?_
  refine g_ald_n (pc := 24) (i := 0) X dX6_reckon_24 rfl rfl ?_
  refine g_getI (pc := 25) (k := 0) X dX6_reckon_25 cl_X6 rfl rfl (by decide) w_661 ?_
  refine g_iconst (pc := 28) (v := (2 : Int32)) X dX6_reckon_28 (by decide) ?_
  refine g_icmp_ne (pc := 29) 36 X dX6_reckon_29 (by decide) (fun h27 => ?_) (fun h27 => ?_)
  · replace hf := jf_i h27 hf
    refine g_iconst (pc := 36) (v := (0 : Int32)) X dX6_reckon_36 (by decide) ?_
    exact g_weak (t_X6_reckon_37  X   _ _ _ _ _ _ hf) (⟨rfl, ⟨rfl, ⟨rfl, ⟨rfl, trivial⟩⟩⟩⟩)
  · replace hf := jt_i h27 hf
    refine g_iconst (pc := 32) (v := (2 : Int32)) X dX6_reckon_32 (by decide) ?_
    refine g_goto (pc := 33) 37 X dX6_reckon_33 (by decide) ?_
    exact g_weak (t_X6_reckon_37  X   _ _ _ _ _ _ hf) (⟨rfl, ⟨rfl, ⟨rfl, ⟨rfl, trivial⟩⟩⟩⟩)
set_option maxHeartbeats 4000000 in
theorem M_X6_reckon {l : Launch} {Δ : jD} {r : Unit} {μ μ9 : jM} {x1 : Int32} {x2 : Int32}  (hsep : jSep Δ shM) (hf : f_X6_reckon x1 x2 μ = some (r, μ9)) : jMet l yX6_reckon cX6_reckon 8 none D_X6_reckon Δ shM [jr Δ 0, .int x1, .int x2] μ (none, μ9) := by
  refine jMet_of (own := RX6) (L := [some (jr Δ 0), some (.int x1), some (.int x2), none, none, none, none, none]) (by decide) rfl (Nat.le_of_ble_eq_true rfl) rfl hsep (fun Γ _ X => ?_)
  unfold f_X6_reckon at hf
  refine g_ald_n (pc := 0) (i := 0) X dX6_reckon_0 rfl rfl ?_
  refine g_getI (pc := 1) (k := 0) X dX6_reckon_1 cl_X6 rfl rfl (by decide) w_661 ?_
  refine g_iconst (pc := 4) (v := (2 : Int32)) X dX6_reckon_4 (by decide) ?_
  refine g_icmp_ne (pc := 5) 17 X dX6_reckon_5 (by decide) (fun h29 => ?_) (fun h29 => ?_)
  · replace hf := jf_i h29 hf
    refine g_ild_n (pc := 17) (i := 2) X dX6_reckon_17 rfl rfl ?_
    exact g_weak (t_X6_reckon_18  X   _ _ _ _ hf) (⟨rfl, ⟨rfl, ⟨rfl, trivial⟩⟩⟩)
  · replace hf := jt_i h29 hf
    refine g_ald_n (pc := 8) (i := 0) X dX6_reckon_8 rfl rfl ?_
    refine g_ild_n (pc := 9) (i := 1) X dX6_reckon_9 rfl rfl ?_
    refine g_ild_n (pc := 10) (i := 2) X dX6_reckon_10 rfl rfl ?_
    obtain ⟨r28, μ28, hc28, hf⟩ := jcall_i hf
    refine g_callVi (pc := 11) [.int x1, .int x2] X dX6_reckon_11 (M_X6_restOf  (jOk_sep X) hc28) Y_X6_restOf w_798 ws_12 w_800 cl_X6 rfl rfl (by decide) rfl rfl (Nat.le_of_ble_eq_true rfl) rfl ?_
    refine g_goto (pc := 14) 18 X dX6_reckon_14 (by decide) ?_
    exact g_weak (t_X6_reckon_18  X   _ _ _ _ hf) (⟨rfl, ⟨rfl, ⟨rfl, trivial⟩⟩⟩)
/-! X6_fewestAt -/
abbrev D_X6_fewestAt : Nat := 3
noncomputable def f_X6_fewestAt_66   : Nat → Int32 → Int32 → jM → Option (Int32 × jM)
  | 0, _, _, _ => none
  | fu + 1, x1, x3, μ => jcall (f_X6_runCost  μ) (fun (r1 : Int32) (μ1 : jM) => jin (x1 + x3) 241 (jin x1 241 (if (r1 + (μ1.1 5 ((x1 + x3)).toNatClampNeg)) = (μ1.1 5 (x1).toNatClampNeg) then (jcall (f_X6_layRun x1 x3 μ1) (fun (r4 : Unit) (μ4 : jM) => some (x3, μ4))) else (jlet (x3 + (-1 : Int32)) (fun z5 : Int32 => f_X6_fewestAt_66   fu x1 z5 μ1)))))
noncomputable def f_X6_fewestAt_49  (k4 : Int32 → Int32 → Int32 → jM → Option (Int32 × jM)) (x1 : Int32) (x2 : Int32) (x3 : Int32) (μ : jM) : Option (Int32 × jM) := jlet (x3 + (-1 : Int32)) (fun z7 : Int32 => k4 x1 x2 z7 μ)
noncomputable def f_X6_fewestAt_4   : Nat → Int32 → Int32 → Int32 → jM → Option (Int32 × jM)
  | 0, _, _, _, _ => none
  | fu + 1, x1, x2, x3, μ => if x3 < (1 : Int32) then (jcall (f_X6_mostRun  μ) (fun (r8 : Int32) (μ8 : jM) => jcall (f_X6_likes x1 x2 r8 μ8) (fun (r9 : Int32) (μ9 : jM) => f_X6_fewestAt_66   jFU x1 r9 μ9))) else (jcall (f_X6_mayStand x1 x3 μ) (fun (r10 : Int32) (μ10 : jM) => if r10 = (0 : Int32) then (f_X6_fewestAt_49  (fun x1 x2 x3 μ => f_X6_fewestAt_4   fu x1 x2 x3 μ)  x1 x2 x3 μ10) else (jcall (f_X6_selfCost x3 μ10) (fun (r11 : Int32) (μ11 : jM) => jin (x1 + x3) 241 (jin x1 241 (if (r11 + (μ11.1 5 ((x1 + x3)).toNatClampNeg)) = (μ11.1 5 (x1).toNatClampNeg) then (jcall (f_X6_layThemselves x1 x3 μ11) (fun (r14 : Unit) (μ14 : jM) => some (x3, μ14))) else (f_X6_fewestAt_49  (fun x1 x2 x3 μ => f_X6_fewestAt_4   fu x1 x2 x3 μ)  x1 x2 x3 μ11)))))))
noncomputable def f_X6_fewestAt (x1 : Int32) (x2 : Int32) (μ : jM) : Option (Int32 × jM) := jlet (x2 - x1) (fun z18 : Int32 => f_X6_fewestAt_4   jFU x1 x2 z18 μ)
set_option maxHeartbeats 4000000 in
theorem t_X6_fewestAt_66 {Γ : jC} {Δ : jD} {r : Int32} {μ9 : jM}    (X : jOk Γ Δ shM cX6_fewestAt 4 RX6 (some .int) D_X6_fewestAt)  : ∀ (fu : Nat) (x1 : Int32) (x3 : Int32) (μ : jM), f_X6_fewestAt_66   fu x1 x3 μ = some (r, μ9) → jG Γ Δ shM (some (.int r), μ9) 66 [some (jr Δ 0), some (.int x1), none, some (.int x3)] [] μ := by
  intro fu
  induction fu with
  | zero =>
    intro x1 x3 μ hf
    cases hf
  | succ fu ih =>
    intro x1 x3 μ hf
    replace hf := (f_X6_fewestAt_66.eq_2 _ _ _ _).symm.trans hf
    refine g_ald_n (pc := 66) (i := 0) X dX6_fewestAt_66 rfl rfl ?_
    obtain ⟨r1, μ1, hc1, hf⟩ := jcall_i hf
    refine g_callVi (pc := 67) [] X dX6_fewestAt_67 (M_X6_runCost  (jOk_sep X) hc1) Y_X6_runCost w_851 ws_25 w_853 cl_X6 rfl rfl (by decide) rfl rfl (Nat.le_of_ble_eq_true rfl) rfl ?_
    refine g_ald_n (pc := 70) (i := 0) X dX6_fewestAt_70 rfl rfl ?_
    refine g_getR (pc := 71) (k := 16) X dX6_fewestAt_71 cl_X6 rfl rfl (by decide) w_677 ?_
    refine g_ild_n (pc := 74) (i := 1) X dX6_fewestAt_74 rfl rfl ?_
    refine g_ild_n (pc := 75) (i := 3) X dX6_fewestAt_75 rfl rfl ?_
    refine g_iadd (pc := 76) X dX6_fewestAt_76 ?_
    obtain ⟨hi2, hf⟩ := jin_i hf
    refine g_iald (pc := 77) X dX6_fewestAt_77 rfl hi2 ?_
    refine g_iadd (pc := 78) X dX6_fewestAt_78 ?_
    refine g_ald_n (pc := 79) (i := 0) X dX6_fewestAt_79 rfl rfl ?_
    refine g_getR (pc := 80) (k := 16) X dX6_fewestAt_80 cl_X6 rfl rfl (by decide) w_677 ?_
    refine g_ild_n (pc := 83) (i := 1) X dX6_fewestAt_83 rfl rfl ?_
    obtain ⟨hi3, hf⟩ := jin_i hf
    refine g_iald (pc := 84) X dX6_fewestAt_84 rfl hi3 ?_
    refine g_icmp_eq (pc := 85) 94 X dX6_fewestAt_85 (by decide) (fun h6 => ?_) (fun h6 => ?_)
    · replace hf := jt_i h6 hf
      refine g_ald_n (pc := 94) (i := 0) X dX6_fewestAt_94 rfl rfl ?_
      refine g_ild_n (pc := 95) (i := 1) X dX6_fewestAt_95 rfl rfl ?_
      refine g_ild_n (pc := 96) (i := 3) X dX6_fewestAt_96 rfl rfl ?_
      obtain ⟨r4, μ4, hc4, hf⟩ := jcall_i hf
      refine g_callVv (pc := 97) [.int x1, .int x3] X dX6_fewestAt_97 (M_X6_layRun  (jOk_sep X) hc4) Y_X6_layRun w_814 ws_16 w_816 cl_X6 rfl rfl (by decide) rfl rfl (Nat.le_of_ble_eq_true rfl) rfl ?_
      refine g_ild_n (pc := 100) (i := 3) X dX6_fewestAt_100 rfl rfl ?_
      exact g_iret (pc := 101) X dX6_fewestAt_101 hf
    · replace hf := jf_i h6 hf
      obtain ⟨z5, ez5⟩ : ∃ z : Int32, z = x3 + (-1 : Int32) := ⟨_, rfl⟩
      replace hf := jlet_i ez5 hf
      refine g_iinc (pc := 88) (L1 := [some (jr Δ 0), some (.int x1), none, some (.int z5)]) X dX6_fewestAt_88 rfl (by rw [ez5]; rfl) rfl rfl ?_
      refine g_goto (pc := 91) 66 X dX6_fewestAt_91 (by decide) ?_
      exact g_weak (ih _ _ _ hf) (⟨rfl, ⟨rfl, ⟨rfl, trivial⟩⟩⟩)
set_option maxHeartbeats 4000000 in
theorem t_X6_fewestAt_49 {Γ : jC} {Δ : jD} {r : Int32} {μ9 : jM}  {k4 : Int32 → Int32 → Int32 → jM → Option (Int32 × jM)}  (X : jOk Γ Δ shM cX6_fewestAt 4 RX6 (some .int) D_X6_fewestAt) (hk4 : ∀ (x1 : Int32) (x2 : Int32) (x3 : Int32) (μ : jM), k4 x1 x2 x3 μ = some (r, μ9) → jG Γ Δ shM (some (.int r), μ9) 4 [some (jr Δ 0), some (.int x1), some (.int x2), some (.int x3)] [] μ) : ∀ (x1 : Int32) (x2 : Int32) (x3 : Int32) (μ : jM), f_X6_fewestAt_49  k4 x1 x2 x3 μ = some (r, μ9) → jG Γ Δ shM (some (.int r), μ9) 49 [some (jr Δ 0), some (.int x1), some (.int x2), some (.int x3)] [] μ := by
  intro x1 x2 x3 μ hf
  unfold f_X6_fewestAt_49 at hf
  obtain ⟨z7, ez7⟩ : ∃ z : Int32, z = x3 + (-1 : Int32) := ⟨_, rfl⟩
  replace hf := jlet_i ez7 hf
  refine g_iinc (pc := 49) (L1 := [some (jr Δ 0), some (.int x1), some (.int x2), some (.int z7)]) X dX6_fewestAt_49 rfl (by rw [ez7]; rfl) rfl rfl ?_
  refine g_goto (pc := 52) 4 X dX6_fewestAt_52 (by decide) ?_
  exact g_weak (hk4 _ _ _ _ hf) (⟨rfl, ⟨rfl, ⟨rfl, ⟨rfl, trivial⟩⟩⟩⟩)
set_option maxHeartbeats 4000000 in
theorem t_X6_fewestAt_4 {Γ : jC} {Δ : jD} {r : Int32} {μ9 : jM}    (X : jOk Γ Δ shM cX6_fewestAt 4 RX6 (some .int) D_X6_fewestAt)  : ∀ (fu : Nat) (x1 : Int32) (x2 : Int32) (x3 : Int32) (μ : jM), f_X6_fewestAt_4   fu x1 x2 x3 μ = some (r, μ9) → jG Γ Δ shM (some (.int r), μ9) 4 [some (jr Δ 0), some (.int x1), some (.int x2), some (.int x3)] [] μ := by
  intro fu
  induction fu with
  | zero =>
    intro x1 x2 x3 μ hf
    cases hf
  | succ fu ih =>
    intro x1 x2 x3 μ hf
    replace hf := (f_X6_fewestAt_4.eq_2 _ _ _ _ _).symm.trans hf
    refine g_ild_n (pc := 4) (i := 3) X dX6_fewestAt_4 rfl rfl ?_
    refine g_iconst (pc := 5) (v := (1 : Int32)) X dX6_fewestAt_5 (by decide) ?_
    refine g_icmp_lt (pc := 6) 55 X dX6_fewestAt_6 (by decide) (fun h17 => ?_) (fun h17 => ?_)
    · replace hf := jt_i h17 hf
      refine g_ald_n (pc := 55) (i := 0) X dX6_fewestAt_55 rfl rfl ?_
      refine g_ild_n (pc := 56) (i := 1) X dX6_fewestAt_56 rfl rfl ?_
      refine g_ild_n (pc := 57) (i := 2) X dX6_fewestAt_57 rfl rfl ?_
      refine g_ald_n (pc := 58) (i := 0) X dX6_fewestAt_58 rfl rfl ?_
      obtain ⟨r8, μ8, hc8, hf⟩ := jcall_i hf
      refine g_callVi (pc := 59) [] X dX6_fewestAt_59 (M_X6_mostRun  (jOk_sep X) hc8) Y_X6_mostRun w_802 ws_13 w_804 cl_X6 rfl rfl (by decide) rfl rfl (Nat.le_of_ble_eq_true rfl) rfl ?_
      obtain ⟨r9, μ9, hc9, hf⟩ := jcall_i hf
      refine g_callVi (pc := 62) [.int x1, .int x2, .int r8] X dX6_fewestAt_62 (M_X6_likes  (jOk_sep X) hc9) Y_X6_likes w_806 ws_14 w_808 cl_X6 rfl rfl (by decide) rfl rfl (Nat.le_of_ble_eq_true rfl) rfl ?_
      refine g_ist_n (pc := 65) (i := 3) (L1 := [some (jr Δ 0), some (.int x1), some (.int x2), some (.int r9)]) X dX6_fewestAt_65 rfl (Nat.le_of_ble_eq_true rfl) rfl rfl ?_
      exact g_weak (t_X6_fewestAt_66  X  jFU _ _ _ hf) (⟨rfl, ⟨rfl, ⟨rfl, trivial⟩⟩⟩)
    · replace hf := jf_i h17 hf
      refine g_ald_n (pc := 9) (i := 0) X dX6_fewestAt_9 rfl rfl ?_
      refine g_ild_n (pc := 10) (i := 1) X dX6_fewestAt_10 rfl rfl ?_
      refine g_ild_n (pc := 11) (i := 3) X dX6_fewestAt_11 rfl rfl ?_
      obtain ⟨r10, μ10, hc10, hf⟩ := jcall_i hf
      refine g_callVi (pc := 12) [.int x1, .int x3] X dX6_fewestAt_12 (M_X6_mayStand  (jOk_sep X) hc10) Y_X6_mayStand w_843 ws_23 w_845 cl_X6 rfl rfl (by decide) rfl rfl (Nat.le_of_ble_eq_true rfl) rfl ?_
      refine g_if_eq (pc := 15) 49 X dX6_fewestAt_15 (by decide) (fun h16 => ?_) (fun h16 => ?_)
      · replace hf := jt_i h16 hf
        exact g_weak (t_X6_fewestAt_49  X (fun _ _ _ _ h => ih _ _ _ _ h)  _ _ _ _ hf) (⟨rfl, ⟨rfl, ⟨rfl, ⟨rfl, trivial⟩⟩⟩⟩)
      · replace hf := jf_i h16 hf
        refine g_ald_n (pc := 18) (i := 0) X dX6_fewestAt_18 rfl rfl ?_
        refine g_ild_n (pc := 19) (i := 3) X dX6_fewestAt_19 rfl rfl ?_
        obtain ⟨r11, μ11, hc11, hf⟩ := jcall_i hf
        refine g_callVi (pc := 20) [.int x3] X dX6_fewestAt_20 (M_X6_selfCost  (jOk_sep X) hc11) Y_X6_selfCost w_847 ws_24 w_849 cl_X6 rfl rfl (by decide) rfl rfl (Nat.le_of_ble_eq_true rfl) rfl ?_
        refine g_ald_n (pc := 23) (i := 0) X dX6_fewestAt_23 rfl rfl ?_
        refine g_getR (pc := 24) (k := 16) X dX6_fewestAt_24 cl_X6 rfl rfl (by decide) w_677 ?_
        refine g_ild_n (pc := 27) (i := 1) X dX6_fewestAt_27 rfl rfl ?_
        refine g_ild_n (pc := 28) (i := 3) X dX6_fewestAt_28 rfl rfl ?_
        refine g_iadd (pc := 29) X dX6_fewestAt_29 ?_
        obtain ⟨hi12, hf⟩ := jin_i hf
        refine g_iald (pc := 30) X dX6_fewestAt_30 rfl hi12 ?_
        refine g_iadd (pc := 31) X dX6_fewestAt_31 ?_
        refine g_ald_n (pc := 32) (i := 0) X dX6_fewestAt_32 rfl rfl ?_
        refine g_getR (pc := 33) (k := 16) X dX6_fewestAt_33 cl_X6 rfl rfl (by decide) w_677 ?_
        refine g_ild_n (pc := 36) (i := 1) X dX6_fewestAt_36 rfl rfl ?_
        obtain ⟨hi13, hf⟩ := jin_i hf
        refine g_iald (pc := 37) X dX6_fewestAt_37 rfl hi13 ?_
        refine g_icmp_ne (pc := 38) 49 X dX6_fewestAt_38 (by decide) (fun h15 => ?_) (fun h15 => ?_)
        · replace hf := jf_i h15 hf
          exact g_weak (t_X6_fewestAt_49  X (fun _ _ _ _ h => ih _ _ _ _ h)  _ _ _ _ hf) (⟨rfl, ⟨rfl, ⟨rfl, ⟨rfl, trivial⟩⟩⟩⟩)
        · replace hf := jt_i h15 hf
          refine g_ald_n (pc := 41) (i := 0) X dX6_fewestAt_41 rfl rfl ?_
          refine g_ild_n (pc := 42) (i := 1) X dX6_fewestAt_42 rfl rfl ?_
          refine g_ild_n (pc := 43) (i := 3) X dX6_fewestAt_43 rfl rfl ?_
          obtain ⟨r14, μ14, hc14, hf⟩ := jcall_i hf
          refine g_callVv (pc := 44) [.int x1, .int x3] X dX6_fewestAt_44 (M_X6_layThemselves  (jOk_sep X) hc14) Y_X6_layThemselves w_830 ws_20 w_832 cl_X6 rfl rfl (by decide) rfl rfl (Nat.le_of_ble_eq_true rfl) rfl ?_
          refine g_ild_n (pc := 47) (i := 3) X dX6_fewestAt_47 rfl rfl ?_
          exact g_iret (pc := 48) X dX6_fewestAt_48 hf
set_option maxHeartbeats 4000000 in
theorem M_X6_fewestAt {l : Launch} {Δ : jD} {r : Int32} {μ μ9 : jM} {x1 : Int32} {x2 : Int32}  (hsep : jSep Δ shM) (hf : f_X6_fewestAt x1 x2 μ = some (r, μ9)) : jMet l yX6_fewestAt cX6_fewestAt 4 (some .int) D_X6_fewestAt Δ shM [jr Δ 0, .int x1, .int x2] μ (some (.int r), μ9) := by
  refine jMet_of (own := RX6) (L := [some (jr Δ 0), some (.int x1), some (.int x2), none]) (by decide) rfl (Nat.le_of_ble_eq_true rfl) rfl hsep (fun Γ _ X => ?_)
  unfold f_X6_fewestAt at hf
  refine g_ild_n (pc := 0) (i := 2) X dX6_fewestAt_0 rfl rfl ?_
  refine g_ild_n (pc := 1) (i := 1) X dX6_fewestAt_1 rfl rfl ?_
  refine g_isub (pc := 2) X dX6_fewestAt_2 ?_
  refine g_nmI (fun z18 ez18 => ?_)
  replace hf := jlet_i ez18 hf
  refine g_ist_n (pc := 3) (i := 3) (L1 := [some (jr Δ 0), some (.int x1), some (.int x2), some (.int z18)]) X dX6_fewestAt_3 rfl (Nat.le_of_ble_eq_true rfl) rfl rfl ?_
  exact g_weak (t_X6_fewestAt_4  X  jFU _ _ _ _ hf) (⟨rfl, ⟨rfl, ⟨rfl, ⟨rfl, trivial⟩⟩⟩⟩)
/-! X6_fewest -/
abbrev D_X6_fewest : Nat := 4
noncomputable def f_X6_fewest_98    (μ : jM) : Option (Unit × jM) := if (μ.1 0 0) = (2 : Int32) then (jcall (f_X6_lay (0 : Int32) μ) (fun (r1 : Unit) (μ1 : jM) => jcall (f_X6_lay (0 : Int32) μ1) (fun (r2 : Unit) (μ2 : jM) => some ((), μ2)))) else (some ((), μ))
noncomputable def f_X6_fewest_83  (k33 : Int32 → Int32 → Int32 → Int32 → jM → Option (Unit × jM)) (x2 : Int32) (x3 : Int32) (x4 : Int32) (x5 : Int32) (μ : jM) : Option (Unit × jM) := jcall (f_X6_fewestAt x4 x2 μ) (fun (r4 : Int32) (μ4 : jM) => jlet (x4 + r4) (fun z5 : Int32 => k33 x2 x3 z5 x5 μ4))
noncomputable def f_X6_fewest_52  (k33 : Int32 → Int32 → Int32 → Int32 → jM → Option (Unit × jM)) (x2 : Int32) (x3 : Int32) (x4 : Int32) (x5 : Int32) (μ : jM) : Option (Unit × jM) := if (μ.1 0 0) = (2 : Int32) then (if x4 < x3 then (f_X6_fewest_83  k33  x2 x3 x4 x5 μ) else (jin x4 241 (if (μ.1 5 (x4).toNatClampNeg) = (2 : Int32) then (k33 x2 x3 x4 (0 : Int32) μ) else (f_X6_fewest_83  k33  x2 x3 x4 x5 μ)))) else (f_X6_fewest_83  k33  x2 x3 x4 x5 μ)
noncomputable def f_X6_fewest_33   : Nat → Int32 → Int32 → Int32 → Int32 → jM → Option (Unit × jM)
  | 0, _, _, _, _, _ => none
  | fu + 1, x2, x3, x4, x5, μ => if x5 = (0 : Int32) then (f_X6_fewest_98     μ) else (if x4 < x2 then (f_X6_fewest_52  (fun x2 x3 x4 x5 μ => f_X6_fewest_33   fu x2 x3 x4 x5 μ)  x2 x3 x4 x5 μ) else (if (μ.1 0 0) = (2 : Int32) then (f_X6_fewest_52  (fun x2 x3 x4 x5 μ => f_X6_fewest_33   fu x2 x3 x4 x5 μ)  x2 x3 x4 x5 μ) else (f_X6_fewest_98     μ)))
noncomputable def f_X6_fewest_26   (x1 : Int32) (x2 : Int32) (s0 : Int32) (μ : jM) : Option (Unit × jM) := f_X6_fewest_33   jFU x2 s0 x1 (1 : Int32) μ
noncomputable def f_X6_fewest (x1 : Int32) (x2 : Int32) (μ : jM) : Option (Unit × jM) := jcall (f_X6_reckon x1 x2 μ) (fun (r13 : Unit) (μ13 : jM) => if (μ13.1 0 0) = (2 : Int32) then (jcall (f_X6_restOf x1 x2 μ13) (fun (r14 : Int32) (μ14 : jM) => f_X6_fewest_26    x1 x2 r14 μ14)) else (f_X6_fewest_26    x1 x2 (x2 + (1 : Int32)) μ13))
set_option maxHeartbeats 4000000 in
theorem t_X6_fewest_98 {Γ : jC} {Δ : jD} {r : Unit} {μ9 : jM}    (X : jOk Γ Δ shM cX6_fewest 6 RX6 none D_X6_fewest)  : ∀ (μ : jM), f_X6_fewest_98    μ = some (r, μ9) → jG Γ Δ shM (none, μ9) 98 [some (jr Δ 0), none, none, none, none, none] [] μ := by
  intro  μ hf
  unfold f_X6_fewest_98 at hf
  refine g_ald_n (pc := 98) (i := 0) X dX6_fewest_98 rfl rfl ?_
  refine g_getI (pc := 99) (k := 0) X dX6_fewest_99 cl_X6 rfl rfl (by decide) w_661 ?_
  refine g_iconst (pc := 102) (v := (2 : Int32)) X dX6_fewest_102 (by decide) ?_
  refine g_icmp_ne (pc := 103) 116 X dX6_fewest_103 (by decide) (fun h3 => ?_) (fun h3 => ?_)
  · replace hf := jf_i h3 hf
    exact g_vret (pc := 116) X dX6_fewest_116 hf
  · replace hf := jt_i h3 hf
    refine g_ald_n (pc := 106) (i := 0) X dX6_fewest_106 rfl rfl ?_
    refine g_iconst (pc := 107) (v := (0 : Int32)) X dX6_fewest_107 (by decide) ?_
    obtain ⟨r1, μ1, hc1, hf⟩ := jcall_i hf
    refine g_callVv (pc := 108) [.int (0 : Int32)] X dX6_fewest_108 (M_X6_lay  (jOk_sep X) hc1) Y_X6_lay w_818 ws_17 w_820 cl_X6 rfl rfl (by decide) rfl rfl (Nat.le_of_ble_eq_true rfl) rfl ?_
    refine g_ald_n (pc := 111) (i := 0) X dX6_fewest_111 rfl rfl ?_
    refine g_iconst (pc := 112) (v := (0 : Int32)) X dX6_fewest_112 (by decide) ?_
    obtain ⟨r2, μ2, hc2, hf⟩ := jcall_i hf
    refine g_callVv (pc := 113) [.int (0 : Int32)] X dX6_fewest_113 (M_X6_lay  (jOk_sep X) hc2) Y_X6_lay w_818 ws_17 w_820 cl_X6 rfl rfl (by decide) rfl rfl (Nat.le_of_ble_eq_true rfl) rfl ?_
    exact g_vret (pc := 116) X dX6_fewest_116 hf
set_option maxHeartbeats 4000000 in
theorem t_X6_fewest_83 {Γ : jC} {Δ : jD} {r : Unit} {μ9 : jM}  {k33 : Int32 → Int32 → Int32 → Int32 → jM → Option (Unit × jM)}  (X : jOk Γ Δ shM cX6_fewest 6 RX6 none D_X6_fewest) (hk33 : ∀ (x2 : Int32) (x3 : Int32) (x4 : Int32) (x5 : Int32) (μ : jM), k33 x2 x3 x4 x5 μ = some (r, μ9) → jG Γ Δ shM (none, μ9) 33 [some (jr Δ 0), none, some (.int x2), some (.int x3), some (.int x4), some (.int x5)] [] μ) : ∀ (x2 : Int32) (x3 : Int32) (x4 : Int32) (x5 : Int32) (μ : jM), f_X6_fewest_83  k33 x2 x3 x4 x5 μ = some (r, μ9) → jG Γ Δ shM (none, μ9) 83 [some (jr Δ 0), none, some (.int x2), some (.int x3), some (.int x4), some (.int x5)] [] μ := by
  intro x2 x3 x4 x5 μ hf
  unfold f_X6_fewest_83 at hf
  refine g_ild (pc := 83) X dX6_fewest_83 rfl ?_
  refine g_ald_n (pc := 85) (i := 0) X dX6_fewest_85 rfl rfl ?_
  refine g_ild (pc := 86) X dX6_fewest_86 rfl ?_
  refine g_ild_n (pc := 88) (i := 2) X dX6_fewest_88 rfl rfl ?_
  obtain ⟨r4, μ4, hc4, hf⟩ := jcall_i hf
  refine g_callVi (pc := 89) [.int x4, .int x2] X dX6_fewest_89 (M_X6_fewestAt  (jOk_sep X) hc4) Y_X6_fewestAt w_855 ws_26 w_857 cl_X6 rfl rfl (by decide) rfl rfl (Nat.le_of_ble_eq_true rfl) rfl ?_
  refine g_iadd (pc := 92) X dX6_fewest_92 ?_
  refine g_nmI (fun z5 ez5 => ?_)
  replace hf := jlet_i ez5 hf
  refine g_ist (pc := 93) (L1 := [some (jr Δ 0), none, some (.int x2), some (.int x3), some (.int z5), some (.int x5)]) X dX6_fewest_93 (Nat.le_of_ble_eq_true rfl) rfl rfl ?_
  refine g_goto (pc := 95) 33 X dX6_fewest_95 (by decide) ?_
  exact g_weak (hk33 _ _ _ _ _ hf) (⟨rfl, ⟨rfl, ⟨rfl, ⟨rfl, ⟨rfl, trivial⟩⟩⟩⟩⟩)
set_option maxHeartbeats 4000000 in
theorem t_X6_fewest_52 {Γ : jC} {Δ : jD} {r : Unit} {μ9 : jM}  {k33 : Int32 → Int32 → Int32 → Int32 → jM → Option (Unit × jM)}  (X : jOk Γ Δ shM cX6_fewest 6 RX6 none D_X6_fewest) (hk33 : ∀ (x2 : Int32) (x3 : Int32) (x4 : Int32) (x5 : Int32) (μ : jM), k33 x2 x3 x4 x5 μ = some (r, μ9) → jG Γ Δ shM (none, μ9) 33 [some (jr Δ 0), none, some (.int x2), some (.int x3), some (.int x4), some (.int x5)] [] μ) : ∀ (x2 : Int32) (x3 : Int32) (x4 : Int32) (x5 : Int32) (μ : jM), f_X6_fewest_52  k33 x2 x3 x4 x5 μ = some (r, μ9) → jG Γ Δ shM (none, μ9) 52 [some (jr Δ 0), none, some (.int x2), some (.int x3), some (.int x4), some (.int x5)] [] μ := by
  intro x2 x3 x4 x5 μ hf
  unfold f_X6_fewest_52 at hf
  refine g_ald_n (pc := 52) (i := 0) X dX6_fewest_52 rfl rfl ?_
  refine g_getI (pc := 53) (k := 0) X dX6_fewest_53 cl_X6 rfl rfl (by decide) w_661 ?_
  refine g_iconst (pc := 56) (v := (2 : Int32)) X dX6_fewest_56 (by decide) ?_
  refine g_icmp_ne (pc := 57) 83 X dX6_fewest_57 (by decide) (fun h9 => ?_) (fun h9 => ?_)
  · replace hf := jf_i h9 hf
    exact g_weak (t_X6_fewest_83  X hk33  _ _ _ _ _ hf) (⟨rfl, ⟨rfl, ⟨rfl, ⟨rfl, ⟨rfl, trivial⟩⟩⟩⟩⟩)
  · replace hf := jt_i h9 hf
    refine g_ild (pc := 60) X dX6_fewest_60 rfl ?_
    refine g_ild_n (pc := 62) (i := 3) X dX6_fewest_62 rfl rfl ?_
    refine g_icmp_lt (pc := 63) 83 X dX6_fewest_63 (by decide) (fun h8 => ?_) (fun h8 => ?_)
    · replace hf := jt_i h8 hf
      exact g_weak (t_X6_fewest_83  X hk33  _ _ _ _ _ hf) (⟨rfl, ⟨rfl, ⟨rfl, ⟨rfl, ⟨rfl, trivial⟩⟩⟩⟩⟩)
    · replace hf := jf_i h8 hf
      refine g_ald_n (pc := 66) (i := 0) X dX6_fewest_66 rfl rfl ?_
      refine g_getR (pc := 67) (k := 16) X dX6_fewest_67 cl_X6 rfl rfl (by decide) w_677 ?_
      refine g_ild (pc := 70) X dX6_fewest_70 rfl ?_
      obtain ⟨hi6, hf⟩ := jin_i hf
      refine g_iald (pc := 72) X dX6_fewest_72 rfl hi6 ?_
      refine g_iconst (pc := 73) (v := (2 : Int32)) X dX6_fewest_73 (by decide) ?_
      refine g_icmp_ne (pc := 74) 83 X dX6_fewest_74 (by decide) (fun h7 => ?_) (fun h7 => ?_)
      · replace hf := jf_i h7 hf
        exact g_weak (t_X6_fewest_83  X hk33  _ _ _ _ _ hf) (⟨rfl, ⟨rfl, ⟨rfl, ⟨rfl, ⟨rfl, trivial⟩⟩⟩⟩⟩)
      · replace hf := jt_i h7 hf
        refine g_iconst (pc := 77) (v := (0 : Int32)) X dX6_fewest_77 (by decide) ?_
        refine g_ist (pc := 78) (L1 := [some (jr Δ 0), none, some (.int x2), some (.int x3), some (.int x4), some (.int (0 : Int32))]) X dX6_fewest_78 (Nat.le_of_ble_eq_true rfl) rfl rfl ?_
        refine g_goto (pc := 80) 33 X dX6_fewest_80 (by decide) ?_
        exact g_weak (hk33 _ _ _ _ _ hf) (⟨rfl, ⟨rfl, ⟨rfl, ⟨rfl, ⟨rfl, trivial⟩⟩⟩⟩⟩)
set_option maxHeartbeats 4000000 in
theorem t_X6_fewest_33 {Γ : jC} {Δ : jD} {r : Unit} {μ9 : jM}    (X : jOk Γ Δ shM cX6_fewest 6 RX6 none D_X6_fewest)  : ∀ (fu : Nat) (x2 : Int32) (x3 : Int32) (x4 : Int32) (x5 : Int32) (μ : jM), f_X6_fewest_33   fu x2 x3 x4 x5 μ = some (r, μ9) → jG Γ Δ shM (none, μ9) 33 [some (jr Δ 0), none, some (.int x2), some (.int x3), some (.int x4), some (.int x5)] [] μ := by
  intro fu
  induction fu with
  | zero =>
    intro x2 x3 x4 x5 μ hf
    cases hf
  | succ fu ih =>
    intro x2 x3 x4 x5 μ hf
    replace hf := (f_X6_fewest_33.eq_2 _ _ _ _ _ _).symm.trans hf
    refine g_ild (pc := 33) X dX6_fewest_33 rfl ?_
    refine g_if_eq (pc := 35) 98 X dX6_fewest_35 (by decide) (fun h12 => ?_) (fun h12 => ?_)
    · replace hf := jt_i h12 hf
      exact g_weak (t_X6_fewest_98  X    _ hf) (⟨rfl, trivial⟩)
    · replace hf := jf_i h12 hf
      refine g_ild (pc := 38) X dX6_fewest_38 rfl ?_
      refine g_ild_n (pc := 40) (i := 2) X dX6_fewest_40 rfl rfl ?_
      refine g_icmp_lt (pc := 41) 52 X dX6_fewest_41 (by decide) (fun h11 => ?_) (fun h11 => ?_)
      · replace hf := jt_i h11 hf
        exact g_weak (t_X6_fewest_52  X (fun _ _ _ _ _ h => ih _ _ _ _ _ h)  _ _ _ _ _ hf) (⟨rfl, ⟨rfl, ⟨rfl, ⟨rfl, ⟨rfl, trivial⟩⟩⟩⟩⟩)
      · replace hf := jf_i h11 hf
        refine g_ald_n (pc := 44) (i := 0) X dX6_fewest_44 rfl rfl ?_
        refine g_getI (pc := 45) (k := 0) X dX6_fewest_45 cl_X6 rfl rfl (by decide) w_661 ?_
        refine g_iconst (pc := 48) (v := (2 : Int32)) X dX6_fewest_48 (by decide) ?_
        refine g_icmp_ne (pc := 49) 98 X dX6_fewest_49 (by decide) (fun h10 => ?_) (fun h10 => ?_)
        · replace hf := jf_i h10 hf
          exact g_weak (t_X6_fewest_98  X    _ hf) (⟨rfl, trivial⟩)
        · replace hf := jt_i h10 hf
          exact g_weak (t_X6_fewest_52  X (fun _ _ _ _ _ h => ih _ _ _ _ _ h)  _ _ _ _ _ hf) (⟨rfl, ⟨rfl, ⟨rfl, ⟨rfl, ⟨rfl, trivial⟩⟩⟩⟩⟩)
set_option maxHeartbeats 4000000 in
theorem t_X6_fewest_26 {Γ : jC} {Δ : jD} {r : Unit} {μ9 : jM}    (X : jOk Γ Δ shM cX6_fewest 6 RX6 none D_X6_fewest)  : ∀ (x1 : Int32) (x2 : Int32) (s0 : Int32) (μ : jM), f_X6_fewest_26   x1 x2 s0 μ = some (r, μ9) → jG Γ Δ shM (none, μ9) 26 [some (jr Δ 0), some (.int x1), some (.int x2), none, none, none] [.int s0] μ := by
  intro x1 x2 s0 μ hf
  unfold f_X6_fewest_26 at hf
  refine g_ist_n (pc := 26) (i := 3) (L1 := [some (jr Δ 0), some (.int x1), some (.int x2), some (.int s0), none, none]) X dX6_fewest_26 rfl (Nat.le_of_ble_eq_true rfl) rfl rfl ?_
  refine g_ild_n (pc := 27) (i := 1) X dX6_fewest_27 rfl rfl ?_
  refine g_ist (pc := 28) (L1 := [some (jr Δ 0), some (.int x1), some (.int x2), some (.int s0), some (.int x1), none]) X dX6_fewest_28 (Nat.le_of_ble_eq_true rfl) rfl rfl ?_
  refine g_iconst (pc := 30) (v := (1 : Int32)) X dX6_fewest_30 (by decide) ?_
  refine g_ist (pc := 31) (L1 := [some (jr Δ 0), some (.int x1), some (.int x2), some (.int s0), some (.int x1), some (.int (1 : Int32))]) X dX6_fewest_31 (Nat.le_of_ble_eq_true rfl) rfl rfl ?_
  exact g_weak (t_X6_fewest_33  X  jFU _ _ _ _ _ hf) (⟨rfl, ⟨rfl, ⟨rfl, ⟨rfl, ⟨rfl, trivial⟩⟩⟩⟩⟩)
set_option maxHeartbeats 4000000 in
theorem M_X6_fewest {l : Launch} {Δ : jD} {r : Unit} {μ μ9 : jM} {x1 : Int32} {x2 : Int32}  (hsep : jSep Δ shM) (hf : f_X6_fewest x1 x2 μ = some (r, μ9)) : jMet l yX6_fewest cX6_fewest 6 none D_X6_fewest Δ shM [jr Δ 0, .int x1, .int x2] μ (none, μ9) := by
  refine jMet_of (own := RX6) (L := [some (jr Δ 0), some (.int x1), some (.int x2), none, none, none]) (by decide) rfl (Nat.le_of_ble_eq_true rfl) rfl hsep (fun Γ _ X => ?_)
  unfold f_X6_fewest at hf
  refine g_ald_n (pc := 0) (i := 0) X dX6_fewest_0 rfl rfl ?_
  refine g_ild_n (pc := 1) (i := 1) X dX6_fewest_1 rfl rfl ?_
  refine g_ild_n (pc := 2) (i := 2) X dX6_fewest_2 rfl rfl ?_
  obtain ⟨r13, μ13, hc13, hf⟩ := jcall_i hf
  refine g_callVv (pc := 3) [.int x1, .int x2] X dX6_fewest_3 (M_X6_reckon  (jOk_sep X) hc13) Y_X6_reckon w_838 ws_22 w_840 cl_X6 rfl rfl (by decide) rfl rfl (Nat.le_of_ble_eq_true rfl) rfl ?_
  refine g_ald_n (pc := 6) (i := 0) X dX6_fewest_6 rfl rfl ?_
  refine g_getI (pc := 7) (k := 0) X dX6_fewest_7 cl_X6 rfl rfl (by decide) w_661 ?_
  refine g_iconst (pc := 10) (v := (2 : Int32)) X dX6_fewest_10 (by decide) ?_
  refine g_icmp_ne (pc := 11) 23 X dX6_fewest_11 (by decide) (fun h15 => ?_) (fun h15 => ?_)
  · replace hf := jf_i h15 hf
    refine g_ild_n (pc := 23) (i := 2) X dX6_fewest_23 rfl rfl ?_
    refine g_iconst (pc := 24) (v := (1 : Int32)) X dX6_fewest_24 (by decide) ?_
    refine g_iadd (pc := 25) X dX6_fewest_25 ?_
    exact g_weak (t_X6_fewest_26  X   _ _ _ _ hf) (⟨rfl, ⟨rfl, ⟨rfl, trivial⟩⟩⟩)
  · replace hf := jt_i h15 hf
    refine g_ald_n (pc := 14) (i := 0) X dX6_fewest_14 rfl rfl ?_
    refine g_ild_n (pc := 15) (i := 1) X dX6_fewest_15 rfl rfl ?_
    refine g_ild_n (pc := 16) (i := 2) X dX6_fewest_16 rfl rfl ?_
    obtain ⟨r14, μ14, hc14, hf⟩ := jcall_i hf
    refine g_callVi (pc := 17) [.int x1, .int x2] X dX6_fewest_17 (M_X6_restOf  (jOk_sep X) hc14) Y_X6_restOf w_798 ws_12 w_800 cl_X6 rfl rfl (by decide) rfl rfl (Nat.le_of_ble_eq_true rfl) rfl ?_
    refine g_goto (pc := 20) 26 X dX6_fewest_20 (by decide) ?_
    exact g_weak (t_X6_fewest_26  X   _ _ _ _ hf) (⟨rfl, ⟨rfl, ⟨rfl, trivial⟩⟩⟩)
/-! X6_greedyThemselves -/
abbrev D_X6_greedyThemselves : Nat := 3
noncomputable def f_X6_greedyThemselves_105   (x1 : Int32) (x4 : Int32) (μ : jM) : Option (Int32 × jM) := jcall (f_X6_layThemselves x1 x4 μ) (fun (r1 : Unit) (μ1 : jM) => some (x4, μ1))
noncomputable def f_X6_greedyThemselves_91   (x1 : Int32) (x4 : Int32) (μ : jM) : Option (Int32 × jM) := if (3 : Int32) ≤ x4 then (f_X6_greedyThemselves_105    x1 x4 μ) else (jcall (f_X6_layRun x1 (1 : Int32) μ) (fun (r2 : Unit) (μ2 : jM) => some ((1 : Int32), μ2)))
noncomputable def f_X6_greedyThemselves_55   : Nat → Int32 → Int32 → Int32 → Int32 → jM → Option (Int32 × jM)
  | 0, _, _, _, _, _ => none
  | fu + 1, x1, x2, x3, x4, μ => if x2 ≤ (x1 + x4) then (f_X6_greedyThemselves_91    x1 x4 μ) else (if (255 : Int32) ≤ x4 then (f_X6_greedyThemselves_91    x1 x4 μ) else (jcall (f_X6_likes (x1 + x4) x3 (3 : Int32) μ) (fun (r4 : Int32) (μ4 : jM) => if (3 : Int32) ≤ r4 then (f_X6_greedyThemselves_91    x1 x4 μ4) else (jlet (x4 + (1 : Int32)) (fun z5 : Int32 => f_X6_greedyThemselves_55   fu x1 x2 x3 z5 μ4)))))
noncomputable def f_X6_greedyThemselves_11   : Nat → Int32 → Int32 → Int32 → jM → Option (Int32 × jM)
  | 0, _, _, _, _ => none
  | fu + 1, x1, x3, x4, μ => if x3 ≤ (x1 + x4) then (f_X6_greedyThemselves_105    x1 x4 μ) else (if (128 : Int32) ≤ x4 then (f_X6_greedyThemselves_105    x1 x4 μ) else (jcall (f_X6_likes (x1 + x4) x3 (2 : Int32) μ) (fun (r9 : Int32) (μ9 : jM) => if (2 : Int32) ≤ r9 then (f_X6_greedyThemselves_105    x1 x4 μ9) else (jlet (x4 + (1 : Int32)) (fun z10 : Int32 => f_X6_greedyThemselves_11   fu x1 x3 z10 μ9)))))
noncomputable def f_X6_greedyThemselves (x1 : Int32) (x2 : Int32) (x3 : Int32) (μ : jM) : Option (Int32 × jM) := if (μ.1 0 0) = (1 : Int32) then (f_X6_greedyThemselves_11   jFU x1 x3 (1 : Int32) μ) else (if (μ.1 0 0) = (2 : Int32) then (f_X6_greedyThemselves_55   jFU x1 x2 x3 (1 : Int32) μ) else (f_X6_greedyThemselves_105    x1 (1 : Int32) μ))
set_option maxHeartbeats 4000000 in
theorem t_X6_greedyThemselves_105 {Γ : jC} {Δ : jD} {r : Int32} {μ9 : jM}    (X : jOk Γ Δ shM cX6_greedyThemselves 5 RX6 (some .int) D_X6_greedyThemselves)  : ∀ (x1 : Int32) (x4 : Int32) (μ : jM), f_X6_greedyThemselves_105   x1 x4 μ = some (r, μ9) → jG Γ Δ shM (some (.int r), μ9) 105 [some (jr Δ 0), some (.int x1), none, none, some (.int x4)] [] μ := by
  intro x1 x4 μ hf
  unfold f_X6_greedyThemselves_105 at hf
  refine g_ald_n (pc := 105) (i := 0) X dX6_greedyThemselves_105 rfl rfl ?_
  refine g_ild_n (pc := 106) (i := 1) X dX6_greedyThemselves_106 rfl rfl ?_
  refine g_ild (pc := 107) X dX6_greedyThemselves_107 rfl ?_
  obtain ⟨r1, μ1, hc1, hf⟩ := jcall_i hf
  refine g_callVv (pc := 109) [.int x1, .int x4] X dX6_greedyThemselves_109 (M_X6_layThemselves  (jOk_sep X) hc1) Y_X6_layThemselves w_830 ws_20 w_832 cl_X6 rfl rfl (by decide) rfl rfl (Nat.le_of_ble_eq_true rfl) rfl ?_
  refine g_ild (pc := 112) X dX6_greedyThemselves_112 rfl ?_
  exact g_iret (pc := 114) X dX6_greedyThemselves_114 hf
set_option maxHeartbeats 4000000 in
theorem t_X6_greedyThemselves_91 {Γ : jC} {Δ : jD} {r : Int32} {μ9 : jM}    (X : jOk Γ Δ shM cX6_greedyThemselves 5 RX6 (some .int) D_X6_greedyThemselves)  : ∀ (x1 : Int32) (x4 : Int32) (μ : jM), f_X6_greedyThemselves_91   x1 x4 μ = some (r, μ9) → jG Γ Δ shM (some (.int r), μ9) 91 [some (jr Δ 0), some (.int x1), none, none, some (.int x4)] [] μ := by
  intro x1 x4 μ hf
  unfold f_X6_greedyThemselves_91 at hf
  refine g_ild (pc := 91) X dX6_greedyThemselves_91 rfl ?_
  refine g_iconst (pc := 93) (v := (3 : Int32)) X dX6_greedyThemselves_93 (by decide) ?_
  refine g_icmp_ge (pc := 94) 105 X dX6_greedyThemselves_94 (by decide) (fun h3 => ?_) (fun h3 => ?_)
  · replace hf := jt_i h3 hf
    exact g_weak (t_X6_greedyThemselves_105  X   _ _ _ hf) (⟨rfl, ⟨rfl, ⟨rfl, trivial⟩⟩⟩)
  · replace hf := jf_i h3 hf
    refine g_ald_n (pc := 97) (i := 0) X dX6_greedyThemselves_97 rfl rfl ?_
    refine g_ild_n (pc := 98) (i := 1) X dX6_greedyThemselves_98 rfl rfl ?_
    refine g_iconst (pc := 99) (v := (1 : Int32)) X dX6_greedyThemselves_99 (by decide) ?_
    obtain ⟨r2, μ2, hc2, hf⟩ := jcall_i hf
    refine g_callVv (pc := 100) [.int x1, .int (1 : Int32)] X dX6_greedyThemselves_100 (M_X6_layRun  (jOk_sep X) hc2) Y_X6_layRun w_814 ws_16 w_816 cl_X6 rfl rfl (by decide) rfl rfl (Nat.le_of_ble_eq_true rfl) rfl ?_
    refine g_iconst (pc := 103) (v := (1 : Int32)) X dX6_greedyThemselves_103 (by decide) ?_
    exact g_iret (pc := 104) X dX6_greedyThemselves_104 hf
set_option maxHeartbeats 4000000 in
theorem t_X6_greedyThemselves_55 {Γ : jC} {Δ : jD} {r : Int32} {μ9 : jM}    (X : jOk Γ Δ shM cX6_greedyThemselves 5 RX6 (some .int) D_X6_greedyThemselves)  : ∀ (fu : Nat) (x1 : Int32) (x2 : Int32) (x3 : Int32) (x4 : Int32) (μ : jM), f_X6_greedyThemselves_55   fu x1 x2 x3 x4 μ = some (r, μ9) → jG Γ Δ shM (some (.int r), μ9) 55 [some (jr Δ 0), some (.int x1), some (.int x2), some (.int x3), some (.int x4)] [] μ := by
  intro fu
  induction fu with
  | zero =>
    intro x1 x2 x3 x4 μ hf
    cases hf
  | succ fu ih =>
    intro x1 x2 x3 x4 μ hf
    replace hf := (f_X6_greedyThemselves_55.eq_2 _ _ _ _ _ _).symm.trans hf
    refine g_ild_n (pc := 55) (i := 1) X dX6_greedyThemselves_55 rfl rfl ?_
    refine g_ild (pc := 56) X dX6_greedyThemselves_56 rfl ?_
    refine g_iadd (pc := 58) X dX6_greedyThemselves_58 ?_
    refine g_ild_n (pc := 59) (i := 2) X dX6_greedyThemselves_59 rfl rfl ?_
    refine g_icmp_ge (pc := 60) 91 X dX6_greedyThemselves_60 (by decide) (fun h8 => ?_) (fun h8 => ?_)
    · replace hf := jt_i h8 hf
      exact g_weak (t_X6_greedyThemselves_91  X   _ _ _ hf) (⟨rfl, ⟨rfl, ⟨rfl, trivial⟩⟩⟩)
    · replace hf := jf_i h8 hf
      refine g_ild (pc := 63) X dX6_greedyThemselves_63 rfl ?_
      refine g_sipush (pc := 65) (v := (255 : Int32)) X dX6_greedyThemselves_65 (by decide) ?_
      refine g_icmp_ge (pc := 68) 91 X dX6_greedyThemselves_68 (by decide) (fun h7 => ?_) (fun h7 => ?_)
      · replace hf := jt_i h7 hf
        exact g_weak (t_X6_greedyThemselves_91  X   _ _ _ hf) (⟨rfl, ⟨rfl, ⟨rfl, trivial⟩⟩⟩)
      · replace hf := jf_i h7 hf
        refine g_ald_n (pc := 71) (i := 0) X dX6_greedyThemselves_71 rfl rfl ?_
        refine g_ild_n (pc := 72) (i := 1) X dX6_greedyThemselves_72 rfl rfl ?_
        refine g_ild (pc := 73) X dX6_greedyThemselves_73 rfl ?_
        refine g_iadd (pc := 75) X dX6_greedyThemselves_75 ?_
        refine g_ild_n (pc := 76) (i := 3) X dX6_greedyThemselves_76 rfl rfl ?_
        refine g_iconst (pc := 77) (v := (3 : Int32)) X dX6_greedyThemselves_77 (by decide) ?_
        obtain ⟨r4, μ4, hc4, hf⟩ := jcall_i hf
        refine g_callVi (pc := 78) [.int (x1 + x4), .int x3, .int (3 : Int32)] X dX6_greedyThemselves_78 (M_X6_likes  (jOk_sep X) hc4) Y_X6_likes w_806 ws_14 w_808 cl_X6 rfl rfl (by decide) rfl rfl (Nat.le_of_ble_eq_true rfl) rfl ?_
        refine g_iconst (pc := 81) (v := (3 : Int32)) X dX6_greedyThemselves_81 (by decide) ?_
        refine g_icmp_ge (pc := 82) 91 X dX6_greedyThemselves_82 (by decide) (fun h6 => ?_) (fun h6 => ?_)
        · replace hf := jt_i h6 hf
          exact g_weak (t_X6_greedyThemselves_91  X   _ _ _ hf) (⟨rfl, ⟨rfl, ⟨rfl, trivial⟩⟩⟩)
        · replace hf := jf_i h6 hf
          obtain ⟨z5, ez5⟩ : ∃ z : Int32, z = x4 + (1 : Int32) := ⟨_, rfl⟩
          replace hf := jlet_i ez5 hf
          refine g_iinc (pc := 85) (L1 := [some (jr Δ 0), some (.int x1), some (.int x2), some (.int x3), some (.int z5)]) X dX6_greedyThemselves_85 rfl (by rw [ez5]; rfl) rfl rfl ?_
          refine g_goto (pc := 88) 55 X dX6_greedyThemselves_88 (by decide) ?_
          exact g_weak (ih _ _ _ _ _ hf) (⟨rfl, ⟨rfl, ⟨rfl, ⟨rfl, ⟨rfl, trivial⟩⟩⟩⟩⟩)
set_option maxHeartbeats 4000000 in
theorem t_X6_greedyThemselves_11 {Γ : jC} {Δ : jD} {r : Int32} {μ9 : jM}    (X : jOk Γ Δ shM cX6_greedyThemselves 5 RX6 (some .int) D_X6_greedyThemselves)  : ∀ (fu : Nat) (x1 : Int32) (x3 : Int32) (x4 : Int32) (μ : jM), f_X6_greedyThemselves_11   fu x1 x3 x4 μ = some (r, μ9) → jG Γ Δ shM (some (.int r), μ9) 11 [some (jr Δ 0), some (.int x1), none, some (.int x3), some (.int x4)] [] μ := by
  intro fu
  induction fu with
  | zero =>
    intro x1 x3 x4 μ hf
    cases hf
  | succ fu ih =>
    intro x1 x3 x4 μ hf
    replace hf := (f_X6_greedyThemselves_11.eq_2 _ _ _ _ _).symm.trans hf
    refine g_ild_n (pc := 11) (i := 1) X dX6_greedyThemselves_11 rfl rfl ?_
    refine g_ild (pc := 12) X dX6_greedyThemselves_12 rfl ?_
    refine g_iadd (pc := 14) X dX6_greedyThemselves_14 ?_
    refine g_ild_n (pc := 15) (i := 3) X dX6_greedyThemselves_15 rfl rfl ?_
    refine g_icmp_ge (pc := 16) 105 X dX6_greedyThemselves_16 (by decide) (fun h13 => ?_) (fun h13 => ?_)
    · replace hf := jt_i h13 hf
      exact g_weak (t_X6_greedyThemselves_105  X   _ _ _ hf) (⟨rfl, ⟨rfl, ⟨rfl, trivial⟩⟩⟩)
    · replace hf := jf_i h13 hf
      refine g_ild (pc := 19) X dX6_greedyThemselves_19 rfl ?_
      refine g_sipush (pc := 21) (v := (128 : Int32)) X dX6_greedyThemselves_21 (by decide) ?_
      refine g_icmp_ge (pc := 24) 105 X dX6_greedyThemselves_24 (by decide) (fun h12 => ?_) (fun h12 => ?_)
      · replace hf := jt_i h12 hf
        exact g_weak (t_X6_greedyThemselves_105  X   _ _ _ hf) (⟨rfl, ⟨rfl, ⟨rfl, trivial⟩⟩⟩)
      · replace hf := jf_i h12 hf
        refine g_ald_n (pc := 27) (i := 0) X dX6_greedyThemselves_27 rfl rfl ?_
        refine g_ild_n (pc := 28) (i := 1) X dX6_greedyThemselves_28 rfl rfl ?_
        refine g_ild (pc := 29) X dX6_greedyThemselves_29 rfl ?_
        refine g_iadd (pc := 31) X dX6_greedyThemselves_31 ?_
        refine g_ild_n (pc := 32) (i := 3) X dX6_greedyThemselves_32 rfl rfl ?_
        refine g_iconst (pc := 33) (v := (2 : Int32)) X dX6_greedyThemselves_33 (by decide) ?_
        obtain ⟨r9, μ9, hc9, hf⟩ := jcall_i hf
        refine g_callVi (pc := 34) [.int (x1 + x4), .int x3, .int (2 : Int32)] X dX6_greedyThemselves_34 (M_X6_likes  (jOk_sep X) hc9) Y_X6_likes w_806 ws_14 w_808 cl_X6 rfl rfl (by decide) rfl rfl (Nat.le_of_ble_eq_true rfl) rfl ?_
        refine g_iconst (pc := 37) (v := (2 : Int32)) X dX6_greedyThemselves_37 (by decide) ?_
        refine g_icmp_ge (pc := 38) 105 X dX6_greedyThemselves_38 (by decide) (fun h11 => ?_) (fun h11 => ?_)
        · replace hf := jt_i h11 hf
          exact g_weak (t_X6_greedyThemselves_105  X   _ _ _ hf) (⟨rfl, ⟨rfl, ⟨rfl, trivial⟩⟩⟩)
        · replace hf := jf_i h11 hf
          obtain ⟨z10, ez10⟩ : ∃ z : Int32, z = x4 + (1 : Int32) := ⟨_, rfl⟩
          replace hf := jlet_i ez10 hf
          refine g_iinc (pc := 41) (L1 := [some (jr Δ 0), some (.int x1), none, some (.int x3), some (.int z10)]) X dX6_greedyThemselves_41 rfl (by rw [ez10]; rfl) rfl rfl ?_
          refine g_goto (pc := 44) 11 X dX6_greedyThemselves_44 (by decide) ?_
          exact g_weak (ih _ _ _ _ hf) (⟨rfl, ⟨rfl, ⟨rfl, ⟨rfl, trivial⟩⟩⟩⟩)
set_option maxHeartbeats 4000000 in
theorem M_X6_greedyThemselves {l : Launch} {Δ : jD} {r : Int32} {μ μ9 : jM} {x1 : Int32} {x2 : Int32} {x3 : Int32}  (hsep : jSep Δ shM) (hf : f_X6_greedyThemselves x1 x2 x3 μ = some (r, μ9)) : jMet l yX6_greedyThemselves cX6_greedyThemselves 5 (some .int) D_X6_greedyThemselves Δ shM [jr Δ 0, .int x1, .int x2, .int x3] μ (some (.int r), μ9) := by
  refine jMet_of (own := RX6) (L := [some (jr Δ 0), some (.int x1), some (.int x2), some (.int x3), none]) (by decide) rfl (Nat.le_of_ble_eq_true rfl) rfl hsep (fun Γ _ X => ?_)
  unfold f_X6_greedyThemselves at hf
  refine g_iconst (pc := 0) (v := (1 : Int32)) X dX6_greedyThemselves_0 (by decide) ?_
  refine g_ist (pc := 1) (L1 := [some (jr Δ 0), some (.int x1), some (.int x2), some (.int x3), some (.int (1 : Int32))]) X dX6_greedyThemselves_1 (Nat.le_of_ble_eq_true rfl) rfl rfl ?_
  refine g_ald_n (pc := 3) (i := 0) X dX6_greedyThemselves_3 rfl rfl ?_
  refine g_getI (pc := 4) (k := 0) X dX6_greedyThemselves_4 cl_X6 rfl rfl (by decide) w_661 ?_
  refine g_iconst (pc := 7) (v := (1 : Int32)) X dX6_greedyThemselves_7 (by decide) ?_
  refine g_icmp_ne (pc := 8) 47 X dX6_greedyThemselves_8 (by decide) (fun h15 => ?_) (fun h15 => ?_)
  · replace hf := jf_i h15 hf
    refine g_ald_n (pc := 47) (i := 0) X dX6_greedyThemselves_47 rfl rfl ?_
    refine g_getI (pc := 48) (k := 0) X dX6_greedyThemselves_48 cl_X6 rfl rfl (by decide) w_661 ?_
    refine g_iconst (pc := 51) (v := (2 : Int32)) X dX6_greedyThemselves_51 (by decide) ?_
    refine g_icmp_ne (pc := 52) 105 X dX6_greedyThemselves_52 (by decide) (fun h14 => ?_) (fun h14 => ?_)
    · replace hf := jf_i h14 hf
      exact g_weak (t_X6_greedyThemselves_105  X   _ _ _ hf) (⟨rfl, ⟨rfl, ⟨rfl, trivial⟩⟩⟩)
    · replace hf := jt_i h14 hf
      exact g_weak (t_X6_greedyThemselves_55  X  jFU _ _ _ _ _ hf) (⟨rfl, ⟨rfl, ⟨rfl, ⟨rfl, ⟨rfl, trivial⟩⟩⟩⟩⟩)
  · replace hf := jt_i h15 hf
    exact g_weak (t_X6_greedyThemselves_11  X  jFU _ _ _ _ hf) (⟨rfl, ⟨rfl, ⟨rfl, ⟨rfl, trivial⟩⟩⟩⟩)
/-! X6_greedy -/
abbrev D_X6_greedy : Nat := 4
noncomputable def f_X6_greedy_152  (k22 : Int32 → Int32 → Int32 → jM → Option (Unit × jM)) (x2 : Int32) (x3 : Int32) (x4 : Int32) (μ : jM) : Option (Unit × jM) := k22 x2 x3 x4 μ
noncomputable def f_X6_greedy_114  (k22 : Int32 → Int32 → Int32 → jM → Option (Unit × jM)) (x2 : Int32) (x3 : Int32) (x4 : Int32) (x5 : Int32) (s0 : Int32) (μ : jM) : Option (Unit × jM) := if s0 = (0 : Int32) then (jcall (f_X6_greedyThemselves x4 x3 x2 μ) (fun (r1 : Int32) (μ1 : jM) => jlet (x4 + r1) (fun z2 : Int32 => f_X6_greedy_152  k22  x2 x3 z2 μ1))) else (jcall (f_X6_layRun x4 x5 μ) (fun (r3 : Unit) (μ3 : jM) => jlet (x4 + x5) (fun z4 : Int32 => f_X6_greedy_152  k22  x2 x3 z4 μ3)))
noncomputable def f_X6_greedy_73  (k22 : Int32 → Int32 → Int32 → jM → Option (Unit × jM)) (x2 : Int32) (x3 : Int32) (x4 : Int32) (x5 : Int32) (μ : jM) : Option (Unit × jM) := f_X6_greedy_114  k22  x2 x3 x4 x5 (1 : Int32) μ
noncomputable def f_X6_greedy_22   : Nat → Int32 → Int32 → Int32 → jM → Option (Unit × jM)
  | 0, _, _, _, _ => none
  | fu + 1, x2, x3, x4, μ => if x3 ≤ x4 then (if (μ.1 0 0) = (2 : Int32) then (jcall (f_X6_lay (0 : Int32) μ) (fun (r6 : Unit) (μ6 : jM) => jcall (f_X6_lay (0 : Int32) μ6) (fun (r7 : Unit) (μ7 : jM) => some ((), μ7)))) else (some ((), μ))) else (jcall (f_X6_mostRun  μ) (fun (r9 : Int32) (μ9 : jM) => jcall (f_X6_likes x4 x2 r9 μ9) (fun (r10 : Int32) (μ10 : jM) => if (μ10.1 0 0) = (0 : Int32) then (if ((2 : Int32) + (μ10.1 0 1)) < (r10 * (μ10.1 0 1)) then (f_X6_greedy_73  (fun x2 x3 x4 μ => f_X6_greedy_22   fu x2 x3 x4 μ)  x2 x3 x4 r10 μ10) else (jcall (f_X6_isMarked x4 μ10) (fun (r14 : Int32) (μ14 : jM) => if r14 = (0 : Int32) then (f_X6_greedy_114  (fun x2 x3 x4 μ => f_X6_greedy_22   fu x2 x3 x4 μ)  x2 x3 x4 r10 (0 : Int32) μ14) else (f_X6_greedy_73  (fun x2 x3 x4 μ => f_X6_greedy_22   fu x2 x3 x4 μ)  x2 x3 x4 r10 μ14)))) else (if (μ10.1 0 0) = (1 : Int32) then (if r10 ≤ (1 : Int32) then (f_X6_greedy_114  (fun x2 x3 x4 μ => f_X6_greedy_22   fu x2 x3 x4 μ)  x2 x3 x4 r10 (0 : Int32) μ10) else (f_X6_greedy_114  (fun x2 x3 x4 μ => f_X6_greedy_22   fu x2 x3 x4 μ)  x2 x3 x4 r10 (1 : Int32) μ10)) else (if r10 ≤ (2 : Int32) then (f_X6_greedy_114  (fun x2 x3 x4 μ => f_X6_greedy_22   fu x2 x3 x4 μ)  x2 x3 x4 r10 (0 : Int32) μ10) else (f_X6_greedy_114  (fun x2 x3 x4 μ => f_X6_greedy_22   fu x2 x3 x4 μ)  x2 x3 x4 r10 (1 : Int32) μ10))))))
noncomputable def f_X6_greedy_18   (x1 : Int32) (x2 : Int32) (s0 : Int32) (μ : jM) : Option (Unit × jM) := f_X6_greedy_22   jFU x2 s0 x1 μ
noncomputable def f_X6_greedy (x1 : Int32) (x2 : Int32) (μ : jM) : Option (Unit × jM) := if (μ.1 0 0) = (2 : Int32) then (jcall (f_X6_restOf x1 x2 μ) (fun (r19 : Int32) (μ19 : jM) => f_X6_greedy_18    x1 x2 r19 μ19)) else (f_X6_greedy_18    x1 x2 x2 μ)
set_option maxHeartbeats 4000000 in
theorem t_X6_greedy_152 {Γ : jC} {Δ : jD} {r : Unit} {μ9 : jM}  {k22 : Int32 → Int32 → Int32 → jM → Option (Unit × jM)}  (X : jOk Γ Δ shM cX6_greedy 7 RX6 none D_X6_greedy) (hk22 : ∀ (x2 : Int32) (x3 : Int32) (x4 : Int32) (μ : jM), k22 x2 x3 x4 μ = some (r, μ9) → jG Γ Δ shM (none, μ9) 22 [some (jr Δ 0), none, some (.int x2), some (.int x3), some (.int x4), none, none] [] μ) : ∀ (x2 : Int32) (x3 : Int32) (x4 : Int32) (μ : jM), f_X6_greedy_152  k22 x2 x3 x4 μ = some (r, μ9) → jG Γ Δ shM (none, μ9) 152 [some (jr Δ 0), none, some (.int x2), some (.int x3), some (.int x4), none, none] [] μ := by
  intro x2 x3 x4 μ hf
  unfold f_X6_greedy_152 at hf
  refine g_goto (pc := 152) 22 X dX6_greedy_152 (by decide) ?_
  exact g_weak (hk22 _ _ _ _ hf) (⟨rfl, ⟨rfl, ⟨rfl, ⟨rfl, trivial⟩⟩⟩⟩)
set_option maxHeartbeats 4000000 in
theorem t_X6_greedy_114 {Γ : jC} {Δ : jD} {r : Unit} {μ9 : jM}  {k22 : Int32 → Int32 → Int32 → jM → Option (Unit × jM)}  (X : jOk Γ Δ shM cX6_greedy 7 RX6 none D_X6_greedy) (hk22 : ∀ (x2 : Int32) (x3 : Int32) (x4 : Int32) (μ : jM), k22 x2 x3 x4 μ = some (r, μ9) → jG Γ Δ shM (none, μ9) 22 [some (jr Δ 0), none, some (.int x2), some (.int x3), some (.int x4), none, none] [] μ) : ∀ (x2 : Int32) (x3 : Int32) (x4 : Int32) (x5 : Int32) (s0 : Int32) (μ : jM), f_X6_greedy_114  k22 x2 x3 x4 x5 s0 μ = some (r, μ9) → jG Γ Δ shM (none, μ9) 114 [some (jr Δ 0), none, some (.int x2), some (.int x3), some (.int x4), some (.int x5), none] [.int s0] μ := by
  intro x2 x3 x4 x5 s0 μ hf
  unfold f_X6_greedy_114 at hf
  refine g_ist (pc := 114) (L1 := [some (jr Δ 0), none, some (.int x2), some (.int x3), some (.int x4), some (.int x5), some (.int s0)]) X dX6_greedy_114 (Nat.le_of_ble_eq_true rfl) rfl rfl ?_
  refine g_ild (pc := 116) X dX6_greedy_116 rfl ?_
  refine g_if_eq (pc := 118) 139 X dX6_greedy_118 (by decide) (fun h5 => ?_) (fun h5 => ?_)
  · replace hf := jt_i h5 hf
    refine g_ild (pc := 139) X dX6_greedy_139 rfl ?_
    refine g_ald_n (pc := 141) (i := 0) X dX6_greedy_141 rfl rfl ?_
    refine g_ild (pc := 142) X dX6_greedy_142 rfl ?_
    refine g_ild_n (pc := 144) (i := 3) X dX6_greedy_144 rfl rfl ?_
    refine g_ild_n (pc := 145) (i := 2) X dX6_greedy_145 rfl rfl ?_
    obtain ⟨r1, μ1, hc1, hf⟩ := jcall_i hf
    refine g_callVi (pc := 146) [.int x4, .int x3, .int x2] X dX6_greedy_146 (M_X6_greedyThemselves  (jOk_sep X) hc1) Y_X6_greedyThemselves w_826 ws_19 w_828 cl_X6 rfl rfl (by decide) rfl rfl (Nat.le_of_ble_eq_true rfl) rfl ?_
    refine g_iadd (pc := 149) X dX6_greedy_149 ?_
    refine g_nmI (fun z2 ez2 => ?_)
    replace hf := jlet_i ez2 hf
    refine g_ist (pc := 150) (L1 := [some (jr Δ 0), none, some (.int x2), some (.int x3), some (.int z2), some (.int x5), some (.int s0)]) X dX6_greedy_150 (Nat.le_of_ble_eq_true rfl) rfl rfl ?_
    exact g_weak (t_X6_greedy_152  X hk22  _ _ _ _ hf) (⟨rfl, ⟨rfl, ⟨rfl, ⟨rfl, trivial⟩⟩⟩⟩)
  · replace hf := jf_i h5 hf
    refine g_ald_n (pc := 121) (i := 0) X dX6_greedy_121 rfl rfl ?_
    refine g_ild (pc := 122) X dX6_greedy_122 rfl ?_
    refine g_ild (pc := 124) X dX6_greedy_124 rfl ?_
    obtain ⟨r3, μ3, hc3, hf⟩ := jcall_i hf
    refine g_callVv (pc := 126) [.int x4, .int x5] X dX6_greedy_126 (M_X6_layRun  (jOk_sep X) hc3) Y_X6_layRun w_814 ws_16 w_816 cl_X6 rfl rfl (by decide) rfl rfl (Nat.le_of_ble_eq_true rfl) rfl ?_
    refine g_ild (pc := 129) X dX6_greedy_129 rfl ?_
    refine g_ild (pc := 131) X dX6_greedy_131 rfl ?_
    refine g_iadd (pc := 133) X dX6_greedy_133 ?_
    refine g_nmI (fun z4 ez4 => ?_)
    replace hf := jlet_i ez4 hf
    refine g_ist (pc := 134) (L1 := [some (jr Δ 0), none, some (.int x2), some (.int x3), some (.int z4), some (.int x5), some (.int s0)]) X dX6_greedy_134 (Nat.le_of_ble_eq_true rfl) rfl rfl ?_
    refine g_goto (pc := 136) 152 X dX6_greedy_136 (by decide) ?_
    exact g_weak (t_X6_greedy_152  X hk22  _ _ _ _ hf) (⟨rfl, ⟨rfl, ⟨rfl, ⟨rfl, trivial⟩⟩⟩⟩)
set_option maxHeartbeats 4000000 in
theorem t_X6_greedy_73 {Γ : jC} {Δ : jD} {r : Unit} {μ9 : jM}  {k22 : Int32 → Int32 → Int32 → jM → Option (Unit × jM)}  (X : jOk Γ Δ shM cX6_greedy 7 RX6 none D_X6_greedy) (hk22 : ∀ (x2 : Int32) (x3 : Int32) (x4 : Int32) (μ : jM), k22 x2 x3 x4 μ = some (r, μ9) → jG Γ Δ shM (none, μ9) 22 [some (jr Δ 0), none, some (.int x2), some (.int x3), some (.int x4), none, none] [] μ) : ∀ (x2 : Int32) (x3 : Int32) (x4 : Int32) (x5 : Int32) (μ : jM), f_X6_greedy_73  k22 x2 x3 x4 x5 μ = some (r, μ9) → jG Γ Δ shM (none, μ9) 73 [some (jr Δ 0), none, some (.int x2), some (.int x3), some (.int x4), some (.int x5), none] [] μ := by
  intro x2 x3 x4 x5 μ hf
  unfold f_X6_greedy_73 at hf
  refine g_iconst (pc := 73) (v := (1 : Int32)) X dX6_greedy_73 (by decide) ?_
  refine g_goto (pc := 74) 114 X dX6_greedy_74 (by decide) ?_
  exact g_weak (t_X6_greedy_114  X hk22  _ _ _ _ _ _ hf) (⟨rfl, ⟨rfl, ⟨rfl, ⟨rfl, ⟨rfl, trivial⟩⟩⟩⟩⟩)
set_option maxHeartbeats 4000000 in
theorem t_X6_greedy_22 {Γ : jC} {Δ : jD} {r : Unit} {μ9 : jM}    (X : jOk Γ Δ shM cX6_greedy 7 RX6 none D_X6_greedy)  : ∀ (fu : Nat) (x2 : Int32) (x3 : Int32) (x4 : Int32) (μ : jM), f_X6_greedy_22   fu x2 x3 x4 μ = some (r, μ9) → jG Γ Δ shM (none, μ9) 22 [some (jr Δ 0), none, some (.int x2), some (.int x3), some (.int x4), none, none] [] μ := by
  intro fu
  induction fu with
  | zero =>
    intro x2 x3 x4 μ hf
    cases hf
  | succ fu ih =>
    intro x2 x3 x4 μ hf
    replace hf := (f_X6_greedy_22.eq_2 _ _ _ _ _).symm.trans hf
    refine g_ild (pc := 22) X dX6_greedy_22 rfl ?_
    refine g_ild_n (pc := 24) (i := 3) X dX6_greedy_24 rfl rfl ?_
    refine g_icmp_ge (pc := 25) 155 X dX6_greedy_25 (by decide) (fun h18 => ?_) (fun h18 => ?_)
    · replace hf := jt_i h18 hf
      refine g_ald_n (pc := 155) (i := 0) X dX6_greedy_155 rfl rfl ?_
      refine g_getI (pc := 156) (k := 0) X dX6_greedy_156 cl_X6 rfl rfl (by decide) w_661 ?_
      refine g_iconst (pc := 159) (v := (2 : Int32)) X dX6_greedy_159 (by decide) ?_
      refine g_icmp_ne (pc := 160) 173 X dX6_greedy_160 (by decide) (fun h8 => ?_) (fun h8 => ?_)
      · replace hf := jf_i h8 hf
        exact g_vret (pc := 173) X dX6_greedy_173 hf
      · replace hf := jt_i h8 hf
        refine g_ald_n (pc := 163) (i := 0) X dX6_greedy_163 rfl rfl ?_
        refine g_iconst (pc := 164) (v := (0 : Int32)) X dX6_greedy_164 (by decide) ?_
        obtain ⟨r6, μ6, hc6, hf⟩ := jcall_i hf
        refine g_callVv (pc := 165) [.int (0 : Int32)] X dX6_greedy_165 (M_X6_lay  (jOk_sep X) hc6) Y_X6_lay w_818 ws_17 w_820 cl_X6 rfl rfl (by decide) rfl rfl (Nat.le_of_ble_eq_true rfl) rfl ?_
        refine g_ald_n (pc := 168) (i := 0) X dX6_greedy_168 rfl rfl ?_
        refine g_iconst (pc := 169) (v := (0 : Int32)) X dX6_greedy_169 (by decide) ?_
        obtain ⟨r7, μ7, hc7, hf⟩ := jcall_i hf
        refine g_callVv (pc := 170) [.int (0 : Int32)] X dX6_greedy_170 (M_X6_lay  (jOk_sep X) hc7) Y_X6_lay w_818 ws_17 w_820 cl_X6 rfl rfl (by decide) rfl rfl (Nat.le_of_ble_eq_true rfl) rfl ?_
        exact g_vret (pc := 173) X dX6_greedy_173 hf
    · replace hf := jf_i h18 hf
      refine g_ald_n (pc := 28) (i := 0) X dX6_greedy_28 rfl rfl ?_
      refine g_ild (pc := 29) X dX6_greedy_29 rfl ?_
      refine g_ild_n (pc := 31) (i := 2) X dX6_greedy_31 rfl rfl ?_
      refine g_ald_n (pc := 32) (i := 0) X dX6_greedy_32 rfl rfl ?_
      obtain ⟨r9, μ9, hc9, hf⟩ := jcall_i hf
      refine g_callVi (pc := 33) [] X dX6_greedy_33 (M_X6_mostRun  (jOk_sep X) hc9) Y_X6_mostRun w_802 ws_13 w_804 cl_X6 rfl rfl (by decide) rfl rfl (Nat.le_of_ble_eq_true rfl) rfl ?_
      obtain ⟨r10, μ10, hc10, hf⟩ := jcall_i hf
      refine g_callVi (pc := 36) [.int x4, .int x2, .int r9] X dX6_greedy_36 (M_X6_likes  (jOk_sep X) hc10) Y_X6_likes w_806 ws_14 w_808 cl_X6 rfl rfl (by decide) rfl rfl (Nat.le_of_ble_eq_true rfl) rfl ?_
      refine g_ist (pc := 39) (L1 := [some (jr Δ 0), none, some (.int x2), some (.int x3), some (.int x4), some (.int r10), none]) X dX6_greedy_39 (Nat.le_of_ble_eq_true rfl) rfl rfl ?_
      refine g_ald_n (pc := 41) (i := 0) X dX6_greedy_41 rfl rfl ?_
      refine g_getI (pc := 42) (k := 0) X dX6_greedy_42 cl_X6 rfl rfl (by decide) w_661 ?_
      refine g_if_ne (pc := 45) 81 X dX6_greedy_45 (by decide) (fun h17 => ?_) (fun h17 => ?_)
      · replace hf := jf_i h17 hf
        refine g_ald_n (pc := 81) (i := 0) X dX6_greedy_81 rfl rfl ?_
        refine g_getI (pc := 82) (k := 0) X dX6_greedy_82 cl_X6 rfl rfl (by decide) w_661 ?_
        refine g_iconst (pc := 85) (v := (1 : Int32)) X dX6_greedy_85 (by decide) ?_
        refine g_icmp_ne (pc := 86) 103 X dX6_greedy_86 (by decide) (fun h13 => ?_) (fun h13 => ?_)
        · replace hf := jf_i h13 hf
          refine g_ild (pc := 103) X dX6_greedy_103 rfl ?_
          refine g_iconst (pc := 105) (v := (2 : Int32)) X dX6_greedy_105 (by decide) ?_
          refine g_icmp_le (pc := 106) 113 X dX6_greedy_106 (by decide) (fun h11 => ?_) (fun h11 => ?_)
          · replace hf := jt_i h11 hf
            refine g_iconst (pc := 113) (v := (0 : Int32)) X dX6_greedy_113 (by decide) ?_
            exact g_weak (t_X6_greedy_114  X (fun _ _ _ _ h => ih _ _ _ _ h)  _ _ _ _ _ _ hf) (⟨rfl, ⟨rfl, ⟨rfl, ⟨rfl, ⟨rfl, trivial⟩⟩⟩⟩⟩)
          · replace hf := jf_i h11 hf
            refine g_iconst (pc := 109) (v := (1 : Int32)) X dX6_greedy_109 (by decide) ?_
            refine g_goto (pc := 110) 114 X dX6_greedy_110 (by decide) ?_
            exact g_weak (t_X6_greedy_114  X (fun _ _ _ _ h => ih _ _ _ _ h)  _ _ _ _ _ _ hf) (⟨rfl, ⟨rfl, ⟨rfl, ⟨rfl, ⟨rfl, trivial⟩⟩⟩⟩⟩)
        · replace hf := jt_i h13 hf
          refine g_ild (pc := 89) X dX6_greedy_89 rfl ?_
          refine g_iconst (pc := 91) (v := (1 : Int32)) X dX6_greedy_91 (by decide) ?_
          refine g_icmp_le (pc := 92) 99 X dX6_greedy_92 (by decide) (fun h12 => ?_) (fun h12 => ?_)
          · replace hf := jt_i h12 hf
            refine g_iconst (pc := 99) (v := (0 : Int32)) X dX6_greedy_99 (by decide) ?_
            refine g_goto (pc := 100) 114 X dX6_greedy_100 (by decide) ?_
            exact g_weak (t_X6_greedy_114  X (fun _ _ _ _ h => ih _ _ _ _ h)  _ _ _ _ _ _ hf) (⟨rfl, ⟨rfl, ⟨rfl, ⟨rfl, ⟨rfl, trivial⟩⟩⟩⟩⟩)
          · replace hf := jf_i h12 hf
            refine g_iconst (pc := 95) (v := (1 : Int32)) X dX6_greedy_95 (by decide) ?_
            refine g_goto (pc := 96) 114 X dX6_greedy_96 (by decide) ?_
            exact g_weak (t_X6_greedy_114  X (fun _ _ _ _ h => ih _ _ _ _ h)  _ _ _ _ _ _ hf) (⟨rfl, ⟨rfl, ⟨rfl, ⟨rfl, ⟨rfl, trivial⟩⟩⟩⟩⟩)
      · replace hf := jt_i h17 hf
        refine g_ild (pc := 48) X dX6_greedy_48 rfl ?_
        refine g_ald_n (pc := 50) (i := 0) X dX6_greedy_50 rfl rfl ?_
        refine g_getI (pc := 51) (k := 1) X dX6_greedy_51 cl_X6 rfl rfl (by decide) w_662 ?_
        refine g_imul (pc := 54) X dX6_greedy_54 ?_
        refine g_iconst (pc := 55) (v := (2 : Int32)) X dX6_greedy_55 (by decide) ?_
        refine g_ald_n (pc := 56) (i := 0) X dX6_greedy_56 rfl rfl ?_
        refine g_getI (pc := 57) (k := 1) X dX6_greedy_57 cl_X6 rfl rfl (by decide) w_662 ?_
        refine g_iadd (pc := 60) X dX6_greedy_60 ?_
        refine g_icmp_gt (pc := 61) 73 X dX6_greedy_61 (by decide) (fun h16 => ?_) (fun h16 => ?_)
        · replace hf := jt_i h16 hf
          exact g_weak (t_X6_greedy_73  X (fun _ _ _ _ h => ih _ _ _ _ h)  _ _ _ _ _ hf) (⟨rfl, ⟨rfl, ⟨rfl, ⟨rfl, ⟨rfl, trivial⟩⟩⟩⟩⟩)
        · replace hf := jf_i h16 hf
          refine g_ald_n (pc := 64) (i := 0) X dX6_greedy_64 rfl rfl ?_
          refine g_ild (pc := 65) X dX6_greedy_65 rfl ?_
          obtain ⟨r14, μ14, hc14, hf⟩ := jcall_i hf
          refine g_callVi (pc := 67) [.int x4] X dX6_greedy_67 (M_X6_isMarked  (jOk_sep X) hc14) Y_X6_isMarked w_810 ws_15 w_812 cl_X6 rfl rfl (by decide) rfl rfl (Nat.le_of_ble_eq_true rfl) rfl ?_
          refine g_if_eq (pc := 70) 77 X dX6_greedy_70 (by decide) (fun h15 => ?_) (fun h15 => ?_)
          · replace hf := jt_i h15 hf
            refine g_iconst (pc := 77) (v := (0 : Int32)) X dX6_greedy_77 (by decide) ?_
            refine g_goto (pc := 78) 114 X dX6_greedy_78 (by decide) ?_
            exact g_weak (t_X6_greedy_114  X (fun _ _ _ _ h => ih _ _ _ _ h)  _ _ _ _ _ _ hf) (⟨rfl, ⟨rfl, ⟨rfl, ⟨rfl, ⟨rfl, trivial⟩⟩⟩⟩⟩)
          · replace hf := jf_i h15 hf
            exact g_weak (t_X6_greedy_73  X (fun _ _ _ _ h => ih _ _ _ _ h)  _ _ _ _ _ hf) (⟨rfl, ⟨rfl, ⟨rfl, ⟨rfl, ⟨rfl, trivial⟩⟩⟩⟩⟩)
set_option maxHeartbeats 4000000 in
theorem t_X6_greedy_18 {Γ : jC} {Δ : jD} {r : Unit} {μ9 : jM}    (X : jOk Γ Δ shM cX6_greedy 7 RX6 none D_X6_greedy)  : ∀ (x1 : Int32) (x2 : Int32) (s0 : Int32) (μ : jM), f_X6_greedy_18   x1 x2 s0 μ = some (r, μ9) → jG Γ Δ shM (none, μ9) 18 [some (jr Δ 0), some (.int x1), some (.int x2), none, none, none, none] [.int s0] μ := by
  intro x1 x2 s0 μ hf
  unfold f_X6_greedy_18 at hf
  refine g_ist_n (pc := 18) (i := 3) (L1 := [some (jr Δ 0), some (.int x1), some (.int x2), some (.int s0), none, none, none]) X dX6_greedy_18 rfl (Nat.le_of_ble_eq_true rfl) rfl rfl ?_
  refine g_ild_n (pc := 19) (i := 1) X dX6_greedy_19 rfl rfl ?_
  refine g_ist (pc := 20) (L1 := [some (jr Δ 0), some (.int x1), some (.int x2), some (.int s0), some (.int x1), none, none]) X dX6_greedy_20 (Nat.le_of_ble_eq_true rfl) rfl rfl ?_
  exact g_weak (t_X6_greedy_22  X  jFU _ _ _ _ hf) (⟨rfl, ⟨rfl, ⟨rfl, ⟨rfl, trivial⟩⟩⟩⟩)
set_option maxHeartbeats 4000000 in
theorem M_X6_greedy {l : Launch} {Δ : jD} {r : Unit} {μ μ9 : jM} {x1 : Int32} {x2 : Int32}  (hsep : jSep Δ shM) (hf : f_X6_greedy x1 x2 μ = some (r, μ9)) : jMet l yX6_greedy cX6_greedy 7 none D_X6_greedy Δ shM [jr Δ 0, .int x1, .int x2] μ (none, μ9) := by
  refine jMet_of (own := RX6) (L := [some (jr Δ 0), some (.int x1), some (.int x2), none, none, none, none]) (by decide) rfl (Nat.le_of_ble_eq_true rfl) rfl hsep (fun Γ _ X => ?_)
  unfold f_X6_greedy at hf
  refine g_ald_n (pc := 0) (i := 0) X dX6_greedy_0 rfl rfl ?_
  refine g_getI (pc := 1) (k := 0) X dX6_greedy_1 cl_X6 rfl rfl (by decide) w_661 ?_
  refine g_iconst (pc := 4) (v := (2 : Int32)) X dX6_greedy_4 (by decide) ?_
  refine g_icmp_ne (pc := 5) 17 X dX6_greedy_5 (by decide) (fun h20 => ?_) (fun h20 => ?_)
  · replace hf := jf_i h20 hf
    refine g_ild_n (pc := 17) (i := 2) X dX6_greedy_17 rfl rfl ?_
    exact g_weak (t_X6_greedy_18  X   _ _ _ _ hf) (⟨rfl, ⟨rfl, ⟨rfl, trivial⟩⟩⟩)
  · replace hf := jt_i h20 hf
    refine g_ald_n (pc := 8) (i := 0) X dX6_greedy_8 rfl rfl ?_
    refine g_ild_n (pc := 9) (i := 1) X dX6_greedy_9 rfl rfl ?_
    refine g_ild_n (pc := 10) (i := 2) X dX6_greedy_10 rfl rfl ?_
    obtain ⟨r19, μ19, hc19, hf⟩ := jcall_i hf
    refine g_callVi (pc := 11) [.int x1, .int x2] X dX6_greedy_11 (M_X6_restOf  (jOk_sep X) hc19) Y_X6_restOf w_798 ws_12 w_800 cl_X6 rfl rfl (by decide) rfl rfl (Nat.le_of_ble_eq_true rfl) rfl ?_
    refine g_goto (pc := 14) 18 X dX6_greedy_14 (by decide) ?_
    exact g_weak (t_X6_greedy_18  X   _ _ _ _ hf) (⟨rfl, ⟨rfl, ⟨rfl, trivial⟩⟩⟩)
/-! X6_part -/
abbrev D_X6_part : Nat := 5
noncomputable def f_X6_part (x1 : Int32) (x2 : Int32) (x3 : Int32) (μ : jM) : Option (Unit × jM) := if x1 = (0 : Int32) then (jcall (f_X6_greedy x2 x3 μ) (fun (r2 : Unit) (μ2 : jM) => some ((), μ2))) else (jcall (f_X6_fewest x2 x3 μ) (fun (r1 : Unit) (μ1 : jM) => some ((), μ1)))
set_option maxHeartbeats 4000000 in
theorem M_X6_part {l : Launch} {Δ : jD} {r : Unit} {μ μ9 : jM} {x1 : Int32} {x2 : Int32} {x3 : Int32}  (hsep : jSep Δ shM) (hf : f_X6_part x1 x2 x3 μ = some (r, μ9)) : jMet l yX6_part cX6_part 4 none D_X6_part Δ shM [jr Δ 0, .int x1, .int x2, .int x3] μ (none, μ9) := by
  refine jMet_of (own := RX6) (L := [some (jr Δ 0), some (.int x1), some (.int x2), some (.int x3)]) (by decide) rfl (Nat.le_of_ble_eq_true rfl) rfl hsep (fun Γ _ X => ?_)
  unfold f_X6_part at hf
  refine g_ild_n (pc := 0) (i := 1) X dX6_part_0 rfl rfl ?_
  refine g_if_ne (pc := 1) 13 X dX6_part_1 (by decide) (fun h3 => ?_) (fun h3 => ?_)
  · replace hf := jf_i h3 hf
    refine g_ald_n (pc := 13) (i := 0) X dX6_part_13 rfl rfl ?_
    refine g_ild_n (pc := 14) (i := 2) X dX6_part_14 rfl rfl ?_
    refine g_ild_n (pc := 15) (i := 3) X dX6_part_15 rfl rfl ?_
    obtain ⟨r1, μ1, hc1, hf⟩ := jcall_i hf
    refine g_callVv (pc := 16) [.int x2, .int x3] X dX6_part_16 (M_X6_fewest  (jOk_sep X) hc1) Y_X6_fewest w_834 ws_21 w_836 cl_X6 rfl rfl (by decide) rfl rfl (Nat.le_of_ble_eq_true rfl) rfl ?_
    exact g_vret (pc := 19) X dX6_part_19 hf
  · replace hf := jt_i h3 hf
    refine g_ald_n (pc := 4) (i := 0) X dX6_part_4 rfl rfl ?_
    refine g_ild_n (pc := 5) (i := 2) X dX6_part_5 rfl rfl ?_
    refine g_ild_n (pc := 6) (i := 3) X dX6_part_6 rfl rfl ?_
    obtain ⟨r2, μ2, hc2, hf⟩ := jcall_i hf
    refine g_callVv (pc := 7) [.int x2, .int x3] X dX6_part_7 (M_X6_greedy  (jOk_sep X) hc2) Y_X6_greedy w_794 ws_11 w_796 cl_X6 rfl rfl (by decide) rfl rfl (Nat.le_of_ble_eq_true rfl) rfl ?_
    refine g_goto (pc := 10) 19 X dX6_part_10 (by decide) ?_
    exact g_vret (pc := 19) X dX6_part_19 hf
/-! X6_packAll -/
abbrev D_X6_packAll : Nat := 6
noncomputable def f_X6_packAll_19   : Nat → Int32 → Int32 → jM → Option (Unit × jM)
  | 0, _, _, _ => none
  | fu + 1, x1, x2, μ => jnz (μ.1 0 2) (if ((μ.1 0 15) / (μ.1 0 2)) ≤ x2 then (jcall (f_X6_lay (0 : Int32) μ) (fun (r2 : Unit) (μ2 : jM) => jcall (f_X6_lay (1 : Int32) μ2) (fun (r3 : Unit) (μ3 : jM) => some ((), μ3)))) else (jcall (f_X6_part x1 (x2 * (μ.1 0 2)) ((x2 + (1 : Int32)) * (μ.1 0 2)) μ) (fun (r4 : Unit) (μ4 : jM) => jlet (x2 + (1 : Int32)) (fun z5 : Int32 => f_X6_packAll_19   fu x1 z5 μ4))))
noncomputable def f_X6_packAll (x1 : Int32) (μ : jM) : Option (Unit × jM) := jlet (jsI μ 0 18 (0 : Int32)) (fun μ7 : jM => jcall (f_X6_takeUnits  μ7) (fun (r8 : Unit) (μ8 : jM) => if (μ8.1 0 0) = (2 : Int32) then (f_X6_packAll_19   jFU x1 (0 : Int32) μ8) else (jcall (f_X6_part x1 (0 : Int32) (μ8.1 0 15) μ8) (fun (r9 : Unit) (μ9 : jM) => if (μ9.1 0 0) = (0 : Int32) then (jcall (f_X6_lay (μ9.1 0 3) μ9) (fun (r10 : Unit) (μ10 : jM) => jcall (f_X6_lay (0 : Int32) μ10) (fun (r11 : Unit) (μ11 : jM) => some ((), μ11)))) else (some ((), μ9))))))
set_option maxHeartbeats 4000000 in
theorem t_X6_packAll_19 {Γ : jC} {Δ : jD} {r : Unit} {μ9 : jM}    (X : jOk Γ Δ shM cX6_packAll 3 RX6 none D_X6_packAll)  : ∀ (fu : Nat) (x1 : Int32) (x2 : Int32) (μ : jM), f_X6_packAll_19   fu x1 x2 μ = some (r, μ9) → jG Γ Δ shM (none, μ9) 19 [some (jr Δ 0), some (.int x1), some (.int x2)] [] μ := by
  intro fu
  induction fu with
  | zero =>
    intro x1 x2 μ hf
    cases hf
  | succ fu ih =>
    intro x1 x2 μ hf
    replace hf := (f_X6_packAll_19.eq_2 _ _ _ _).symm.trans hf
    refine g_ild_n (pc := 19) (i := 2) X dX6_packAll_19 rfl rfl ?_
    refine g_ald_n (pc := 20) (i := 0) X dX6_packAll_20 rfl rfl ?_
    refine g_getI (pc := 21) (k := 15) X dX6_packAll_21 cl_X6 rfl rfl (by decide) w_676 ?_
    refine g_ald_n (pc := 24) (i := 0) X dX6_packAll_24 rfl rfl ?_
    refine g_getI (pc := 25) (k := 2) X dX6_packAll_25 cl_X6 rfl rfl (by decide) w_663 ?_
    obtain ⟨hz1, hf⟩ := jnz_i hf
    refine g_idiv (pc := 28) X dX6_packAll_28 hz1 ?_
    refine g_icmp_ge (pc := 29) 57 X dX6_packAll_29 (by decide) (fun h6 => ?_) (fun h6 => ?_)
    · replace hf := jt_i h6 hf
      refine g_ald_n (pc := 57) (i := 0) X dX6_packAll_57 rfl rfl ?_
      refine g_iconst (pc := 58) (v := (0 : Int32)) X dX6_packAll_58 (by decide) ?_
      obtain ⟨r2, μ2, hc2, hf⟩ := jcall_i hf
      refine g_callVv (pc := 59) [.int (0 : Int32)] X dX6_packAll_59 (M_X6_lay  (jOk_sep X) hc2) Y_X6_lay w_818 ws_17 w_820 cl_X6 rfl rfl (by decide) rfl rfl (Nat.le_of_ble_eq_true rfl) rfl ?_
      refine g_ald_n (pc := 62) (i := 0) X dX6_packAll_62 rfl rfl ?_
      refine g_iconst (pc := 63) (v := (1 : Int32)) X dX6_packAll_63 (by decide) ?_
      obtain ⟨r3, μ3, hc3, hf⟩ := jcall_i hf
      refine g_callVv (pc := 64) [.int (1 : Int32)] X dX6_packAll_64 (M_X6_lay  (jOk_sep X) hc3) Y_X6_lay w_818 ws_17 w_820 cl_X6 rfl rfl (by decide) rfl rfl (Nat.le_of_ble_eq_true rfl) rfl ?_
      refine g_goto (pc := 67) 100 X dX6_packAll_67 (by decide) ?_
      exact g_vret (pc := 100) X dX6_packAll_100 hf
    · replace hf := jf_i h6 hf
      refine g_ald_n (pc := 32) (i := 0) X dX6_packAll_32 rfl rfl ?_
      refine g_ild_n (pc := 33) (i := 1) X dX6_packAll_33 rfl rfl ?_
      refine g_ild_n (pc := 34) (i := 2) X dX6_packAll_34 rfl rfl ?_
      refine g_ald_n (pc := 35) (i := 0) X dX6_packAll_35 rfl rfl ?_
      refine g_getI (pc := 36) (k := 2) X dX6_packAll_36 cl_X6 rfl rfl (by decide) w_663 ?_
      refine g_imul (pc := 39) X dX6_packAll_39 ?_
      refine g_ild_n (pc := 40) (i := 2) X dX6_packAll_40 rfl rfl ?_
      refine g_iconst (pc := 41) (v := (1 : Int32)) X dX6_packAll_41 (by decide) ?_
      refine g_iadd (pc := 42) X dX6_packAll_42 ?_
      refine g_ald_n (pc := 43) (i := 0) X dX6_packAll_43 rfl rfl ?_
      refine g_getI (pc := 44) (k := 2) X dX6_packAll_44 cl_X6 rfl rfl (by decide) w_663 ?_
      refine g_imul (pc := 47) X dX6_packAll_47 ?_
      obtain ⟨r4, μ4, hc4, hf⟩ := jcall_i hf
      refine g_callVv (pc := 48) [.int x1, .int (x2 * (μ.1 0 2)), .int ((x2 + (1 : Int32)) * (μ.1 0 2))] X dX6_packAll_48 (M_X6_part  (jOk_sep X) hc4) Y_X6_part w_790 ws_10 w_792 cl_X6 rfl rfl (by decide) rfl rfl (Nat.le_of_ble_eq_true rfl) rfl ?_
      obtain ⟨z5, ez5⟩ : ∃ z : Int32, z = x2 + (1 : Int32) := ⟨_, rfl⟩
      replace hf := jlet_i ez5 hf
      refine g_iinc (pc := 51) (L1 := [some (jr Δ 0), some (.int x1), some (.int z5)]) X dX6_packAll_51 rfl (by rw [ez5]; rfl) rfl rfl ?_
      refine g_goto (pc := 54) 19 X dX6_packAll_54 (by decide) ?_
      exact g_weak (ih _ _ _ hf) (⟨rfl, ⟨rfl, ⟨rfl, trivial⟩⟩⟩)
set_option maxHeartbeats 4000000 in
theorem M_X6_packAll {l : Launch} {Δ : jD} {r : Unit} {μ μ9 : jM} {x1 : Int32}  (hsep : jSep Δ shM) (hf : f_X6_packAll x1 μ = some (r, μ9)) : jMet l yX6_packAll cX6_packAll 3 none D_X6_packAll Δ shM [jr Δ 0, .int x1] μ (none, μ9) := by
  refine jMet_of (own := RX6) (L := [some (jr Δ 0), some (.int x1), none]) (by decide) rfl (Nat.le_of_ble_eq_true rfl) rfl hsep (fun Γ _ X => ?_)
  unfold f_X6_packAll at hf
  refine g_ald_n (pc := 0) (i := 0) X dX6_packAll_0 rfl rfl ?_
  refine g_iconst (pc := 1) (v := (0 : Int32)) X dX6_packAll_1 (by decide) ?_
  refine g_putI (pc := 2) (k := 18) X dX6_packAll_2 cl_X6 rfl rfl (by decide) w_679 rfl rfl rfl ?_
  refine g_nmM (fun μ7 eμ7 => ?_)
  replace hf := jlet_i eμ7 hf
  refine g_ald_n (pc := 5) (i := 0) X dX6_packAll_5 rfl rfl ?_
  obtain ⟨r8, μ8, hc8, hf⟩ := jcall_i hf
  refine g_callVv (pc := 6) [] X dX6_packAll_6 (M_X6_takeUnits  (jOk_sep X) hc8) Y_X6_takeUnits w_778 ws_7 w_780 cl_X6 rfl rfl (by decide) rfl rfl (Nat.le_of_ble_eq_true rfl) rfl ?_
  refine g_ald_n (pc := 9) (i := 0) X dX6_packAll_9 rfl rfl ?_
  refine g_getI (pc := 10) (k := 0) X dX6_packAll_10 cl_X6 rfl rfl (by decide) w_661 ?_
  refine g_iconst (pc := 13) (v := (2 : Int32)) X dX6_packAll_13 (by decide) ?_
  refine g_icmp_ne (pc := 14) 70 X dX6_packAll_14 (by decide) (fun h13 => ?_) (fun h13 => ?_)
  · replace hf := jf_i h13 hf
    refine g_ald_n (pc := 70) (i := 0) X dX6_packAll_70 rfl rfl ?_
    refine g_ild_n (pc := 71) (i := 1) X dX6_packAll_71 rfl rfl ?_
    refine g_iconst (pc := 72) (v := (0 : Int32)) X dX6_packAll_72 (by decide) ?_
    refine g_ald_n (pc := 73) (i := 0) X dX6_packAll_73 rfl rfl ?_
    refine g_getI (pc := 74) (k := 15) X dX6_packAll_74 cl_X6 rfl rfl (by decide) w_676 ?_
    obtain ⟨r9, μ9, hc9, hf⟩ := jcall_i hf
    refine g_callVv (pc := 77) [.int x1, .int (0 : Int32), .int (μ8.1 0 15)] X dX6_packAll_77 (M_X6_part  (jOk_sep X) hc9) Y_X6_part w_790 ws_10 w_792 cl_X6 rfl rfl (by decide) rfl rfl (Nat.le_of_ble_eq_true rfl) rfl ?_
    refine g_ald_n (pc := 80) (i := 0) X dX6_packAll_80 rfl rfl ?_
    refine g_getI (pc := 81) (k := 0) X dX6_packAll_81 cl_X6 rfl rfl (by decide) w_661 ?_
    refine g_if_ne (pc := 84) 100 X dX6_packAll_84 (by decide) (fun h12 => ?_) (fun h12 => ?_)
    · replace hf := jf_i h12 hf
      exact g_vret (pc := 100) X dX6_packAll_100 hf
    · replace hf := jt_i h12 hf
      refine g_ald_n (pc := 87) (i := 0) X dX6_packAll_87 rfl rfl ?_
      refine g_ald_n (pc := 88) (i := 0) X dX6_packAll_88 rfl rfl ?_
      refine g_getI (pc := 89) (k := 3) X dX6_packAll_89 cl_X6 rfl rfl (by decide) w_664 ?_
      obtain ⟨r10, μ10, hc10, hf⟩ := jcall_i hf
      refine g_callVv (pc := 92) [.int (μ9.1 0 3)] X dX6_packAll_92 (M_X6_lay  (jOk_sep X) hc10) Y_X6_lay w_818 ws_17 w_820 cl_X6 rfl rfl (by decide) rfl rfl (Nat.le_of_ble_eq_true rfl) rfl ?_
      refine g_ald_n (pc := 95) (i := 0) X dX6_packAll_95 rfl rfl ?_
      refine g_iconst (pc := 96) (v := (0 : Int32)) X dX6_packAll_96 (by decide) ?_
      obtain ⟨r11, μ11, hc11, hf⟩ := jcall_i hf
      refine g_callVv (pc := 97) [.int (0 : Int32)] X dX6_packAll_97 (M_X6_lay  (jOk_sep X) hc11) Y_X6_lay w_818 ws_17 w_820 cl_X6 rfl rfl (by decide) rfl rfl (Nat.le_of_ble_eq_true rfl) rfl ?_
      exact g_vret (pc := 100) X dX6_packAll_100 hf
  · replace hf := jt_i h13 hf
    refine g_iconst (pc := 17) (v := (0 : Int32)) X dX6_packAll_17 (by decide) ?_
    refine g_ist_n (pc := 18) (i := 2) (L1 := [some (jr Δ 0), some (.int x1), some (.int (0 : Int32))]) X dX6_packAll_18 rfl (Nat.le_of_ble_eq_true rfl) rfl rfl ?_
    exact g_weak (t_X6_packAll_19  X  jFU _ _ _ hf) (⟨rfl, ⟨rfl, ⟨rfl, trivial⟩⟩⟩)
/-! X6_isWhole -/
abbrev D_X6_isWhole : Nat := 0
noncomputable def f_X6_isWhole_20   (s0 : Int32) (s1 : Int32) (μ : jM) : Option (Int32 × jM) := jnz s0 (if (s1 - s1 / s0 * s0) = (0 : Int32) then (jbl (1 : Int32) (some ((1 : Int32), μ))) else (jbl (0 : Int32) (some ((0 : Int32), μ))))
noncomputable def f_X6_isWhole (x1 : Int32) (μ : jM) : Option (Int32 × jM) := if (μ.1 0 0) = (2 : Int32) then (f_X6_isWhole_20    (μ.1 0 2) x1 μ) else (f_X6_isWhole_20    (μ.1 0 1) x1 μ)
set_option maxHeartbeats 4000000 in
theorem t_X6_isWhole_20 {Γ : jC} {Δ : jD} {r : Int32} {μ9 : jM}    (X : jOk Γ Δ shM cX6_isWhole 2 RX6 (some .boolean) D_X6_isWhole)  : ∀ (s0 : Int32) (s1 : Int32) (μ : jM), f_X6_isWhole_20   s0 s1 μ = some (r, μ9) → jG Γ Δ shM (some (.int r), μ9) 20 [none, none] [.int s0, .int s1] μ := by
  intro s0 s1 μ hf
  unfold f_X6_isWhole_20 at hf
  obtain ⟨hz1, hf⟩ := jnz_i hf
  refine g_irem (pc := 20) X dX6_isWhole_20 hz1 ?_
  refine g_if_ne (pc := 21) 28 X dX6_isWhole_21 (by decide) (fun h4 => ?_) (fun h4 => ?_)
  · replace hf := jf_i h4 hf
    refine g_iconst (pc := 28) (v := (0 : Int32)) X dX6_isWhole_28 (by decide) ?_
    obtain ⟨hb2, hf⟩ := jbl_i hf
    exact g_zret (pc := 29) X dX6_isWhole_29 hb2 hf
  · replace hf := jt_i h4 hf
    refine g_iconst (pc := 24) (v := (1 : Int32)) X dX6_isWhole_24 (by decide) ?_
    refine g_goto (pc := 25) 29 X dX6_isWhole_25 (by decide) ?_
    obtain ⟨hb3, hf⟩ := jbl_i hf
    exact g_zret (pc := 29) X dX6_isWhole_29 hb3 hf
set_option maxHeartbeats 4000000 in
theorem M_X6_isWhole {l : Launch} {Δ : jD} {r : Int32} {μ μ9 : jM} {x1 : Int32}  (hsep : jSep Δ shM) (hf : f_X6_isWhole x1 μ = some (r, μ9)) : jMet l yX6_isWhole cX6_isWhole 2 (some .boolean) D_X6_isWhole Δ shM [jr Δ 0, .int x1] μ (some (.int r), μ9) := by
  refine jMet_of (own := RX6) (L := [some (jr Δ 0), some (.int x1)]) (by decide) rfl (Nat.le_of_ble_eq_true rfl) rfl hsep (fun Γ _ X => ?_)
  unfold f_X6_isWhole at hf
  refine g_ild_n (pc := 0) (i := 1) X dX6_isWhole_0 rfl rfl ?_
  refine g_ald_n (pc := 1) (i := 0) X dX6_isWhole_1 rfl rfl ?_
  refine g_getI (pc := 2) (k := 0) X dX6_isWhole_2 cl_X6 rfl rfl (by decide) w_661 ?_
  refine g_iconst (pc := 5) (v := (2 : Int32)) X dX6_isWhole_5 (by decide) ?_
  refine g_icmp_ne (pc := 6) 16 X dX6_isWhole_6 (by decide) (fun h5 => ?_) (fun h5 => ?_)
  · replace hf := jf_i h5 hf
    refine g_ald_n (pc := 16) (i := 0) X dX6_isWhole_16 rfl rfl ?_
    refine g_getI (pc := 17) (k := 1) X dX6_isWhole_17 cl_X6 rfl rfl (by decide) w_662 ?_
    exact g_weak (t_X6_isWhole_20  X   _ _ _ hf) (trivial)
  · replace hf := jt_i h5 hf
    refine g_ald_n (pc := 9) (i := 0) X dX6_isWhole_9 rfl rfl ?_
    refine g_getI (pc := 10) (k := 2) X dX6_isWhole_10 cl_X6 rfl rfl (by decide) w_663 ?_
    refine g_goto (pc := 13) 20 X dX6_isWhole_13 (by decide) ?_
    exact g_weak (t_X6_isWhole_20  X   _ _ _ hf) (trivial)
/-! X6_size -/
abbrev D_X6_size : Nat := 7
noncomputable def f_X6_size (x1 : Int32) (μ : jM) : Option (Int32 × jM) := jlet (jsI μ 0 13 (0 : Int32)) (fun μ1 : jM => jcall (f_X6_in x1 (0 : Int32) (1 : Int32) μ1) (fun (r2 : Int32) (μ2 : jM) => if r2 = (0 : Int32) then (some ((-1 : Int32), μ2)) else (jcall (f_X6_isWhole (μ2.1 0 6) μ2) (fun (r3 : Int32) (μ3 : jM) => if r3 = (0 : Int32) then (some ((-3 : Int32), μ3)) else (jcall (f_X6_packAll x1 μ3) (fun (r4 : Unit) (μ4 : jM) => some ((μ4.1 0 18), μ4)))))))
set_option maxHeartbeats 4000000 in
theorem M_X6_size {l : Launch} {Δ : jD} {r : Int32} {μ μ9 : jM} {x1 : Int32}  (hsep : jSep Δ shM) (hf : f_X6_size x1 μ = some (r, μ9)) : jMet l yX6_size cX6_size 2 (some .int) D_X6_size Δ shM [jr Δ 0, .int x1] μ (some (.int r), μ9) := by
  refine jMet_of (own := RX6) (L := [some (jr Δ 0), some (.int x1)]) (by decide) rfl (Nat.le_of_ble_eq_true rfl) rfl hsep (fun Γ _ X => ?_)
  unfold f_X6_size at hf
  refine g_ald_n (pc := 0) (i := 0) X dX6_size_0 rfl rfl ?_
  refine g_iconst (pc := 1) (v := (0 : Int32)) X dX6_size_1 (by decide) ?_
  refine g_putI (pc := 2) (k := 13) X dX6_size_2 cl_X6 rfl rfl (by decide) w_674 rfl rfl rfl ?_
  refine g_nmM (fun μ1 eμ1 => ?_)
  replace hf := jlet_i eμ1 hf
  refine g_ild_n (pc := 5) (i := 1) X dX6_size_5 rfl rfl ?_
  refine g_iconst (pc := 6) (v := (0 : Int32)) X dX6_size_6 (by decide) ?_
  refine g_iconst (pc := 7) (v := (1 : Int32)) X dX6_size_7 (by decide) ?_
  obtain ⟨r2, μ2, hc2, hf⟩ := jcall_i hf
  refine g_callSi (pc := 8) [.int x1, .int (0 : Int32), .int (1 : Int32)] X dX6_size_8 (M_X6_in  (jOk_sep X) hc2) Y_X6_in w_658 w_659 (by decide) rfl rfl (Nat.le_of_ble_eq_true rfl) rfl ?_
  refine g_if_ne (pc := 11) 16 X dX6_size_11 (by decide) (fun h6 => ?_) (fun h6 => ?_)
  · replace hf := jf_i h6 hf
    refine g_ald_n (pc := 16) (i := 0) X dX6_size_16 rfl rfl ?_
    refine g_ald_n (pc := 17) (i := 0) X dX6_size_17 rfl rfl ?_
    refine g_getI (pc := 18) (k := 6) X dX6_size_18 cl_X6 rfl rfl (by decide) w_667 ?_
    obtain ⟨r3, μ3, hc3, hf⟩ := jcall_i hf
    refine g_callVi (pc := 21) [.int (μ2.1 0 6)] X dX6_size_21 (M_X6_isWhole  (jOk_sep X) hc3) Y_X6_isWhole w_770 ws_5 w_772 cl_X6 rfl rfl (by decide) rfl rfl (Nat.le_of_ble_eq_true rfl) rfl ?_
    refine g_if_ne (pc := 24) 30 X dX6_size_24 (by decide) (fun h5 => ?_) (fun h5 => ?_)
    · replace hf := jf_i h5 hf
      refine g_ald_n (pc := 30) (i := 0) X dX6_size_30 rfl rfl ?_
      refine g_ild_n (pc := 31) (i := 1) X dX6_size_31 rfl rfl ?_
      obtain ⟨r4, μ4, hc4, hf⟩ := jcall_i hf
      refine g_callVv (pc := 32) [.int x1] X dX6_size_32 (M_X6_packAll  (jOk_sep X) hc4) Y_X6_packAll w_774 ws_6 w_776 cl_X6 rfl rfl (by decide) rfl rfl (Nat.le_of_ble_eq_true rfl) rfl ?_
      refine g_ald_n (pc := 35) (i := 0) X dX6_size_35 rfl rfl ?_
      refine g_getI (pc := 36) (k := 18) X dX6_size_36 cl_X6 rfl rfl (by decide) w_679 ?_
      exact g_iret (pc := 39) X dX6_size_39 hf
    · replace hf := jt_i h5 hf
      refine g_bipush (pc := 27) (v := (-3 : Int32)) X dX6_size_27 (by decide) ?_
      exact g_iret (pc := 29) X dX6_size_29 hf
  · replace hf := jt_i h6 hf
    refine g_iconst (pc := 14) (v := (-1 : Int32)) X dX6_size_14 (by decide) ?_
    exact g_iret (pc := 15) X dX6_size_15 hf
/-! X6_pack -/
abbrev D_X6_pack : Nat := 8
noncomputable def f_X6_pack_19   : Nat → Int32 → Int32 → jM → Option (Int32 × jM)
  | 0, _, _, _ => none
  | fu + 1, x2, x3, μ => if x2 ≤ x3 then (jlet (jsI μ 0 8 x2) (fun μ1 : jM => some (x2, μ1))) else (jin x3 1000 (jin x3 1000 (jlet (jsI μ 2 (x3).toNatClampNeg (μ.1 6 (x3).toNatClampNeg)) (fun μ3 : jM => jlet (x3 + (1 : Int32)) (fun z4 : Int32 => f_X6_pack_19   fu x2 z4 μ3)))))
noncomputable def f_X6_pack (x1 : Int32) (μ : jM) : Option (Int32 × jM) := jlet (jsI μ 0 13 (0 : Int32)) (fun μ6 : jM => jcall (f_X6_size x1 μ6) (fun (r7 : Int32) (μ7 : jM) => if (0 : Int32) ≤ r7 then (f_X6_pack_19   jFU r7 (0 : Int32) μ7) else (some (r7, μ7))))
set_option maxHeartbeats 4000000 in
theorem t_X6_pack_19 {Γ : jC} {Δ : jD} {r : Int32} {μ9 : jM}    (X : jOk Γ Δ shM cX6_pack 4 RX6 (some .int) D_X6_pack)  : ∀ (fu : Nat) (x2 : Int32) (x3 : Int32) (μ : jM), f_X6_pack_19   fu x2 x3 μ = some (r, μ9) → jG Γ Δ shM (some (.int r), μ9) 19 [some (jr Δ 0), none, some (.int x2), some (.int x3)] [] μ := by
  intro fu
  induction fu with
  | zero =>
    intro x2 x3 μ hf
    cases hf
  | succ fu ih =>
    intro x2 x3 μ hf
    replace hf := (f_X6_pack_19.eq_2 _ _ _ _).symm.trans hf
    refine g_ild_n (pc := 19) (i := 3) X dX6_pack_19 rfl rfl ?_
    refine g_ild_n (pc := 20) (i := 2) X dX6_pack_20 rfl rfl ?_
    refine g_icmp_ge (pc := 21) 42 X dX6_pack_21 (by decide) (fun h5 => ?_) (fun h5 => ?_)
    · replace hf := jt_i h5 hf
      refine g_ald_n (pc := 42) (i := 0) X dX6_pack_42 rfl rfl ?_
      refine g_ild_n (pc := 43) (i := 2) X dX6_pack_43 rfl rfl ?_
      refine g_putI (pc := 44) (k := 8) X dX6_pack_44 cl_X6 rfl rfl (by decide) w_669 rfl rfl rfl ?_
      refine g_nmM (fun μ1 eμ1 => ?_)
      replace hf := jlet_i eμ1 hf
      refine g_ild_n (pc := 47) (i := 2) X dX6_pack_47 rfl rfl ?_
      exact g_iret (pc := 48) X dX6_pack_48 hf
    · replace hf := jf_i h5 hf
      refine g_ald_n (pc := 24) (i := 0) X dX6_pack_24 rfl rfl ?_
      refine g_getR (pc := 25) (k := 7) X dX6_pack_25 cl_X6 rfl rfl (by decide) w_668 ?_
      refine g_ild_n (pc := 28) (i := 3) X dX6_pack_28 rfl rfl ?_
      refine g_ald_n (pc := 29) (i := 0) X dX6_pack_29 rfl rfl ?_
      refine g_getR (pc := 30) (k := 17) X dX6_pack_30 cl_X6 rfl rfl (by decide) w_678 ?_
      refine g_ild_n (pc := 33) (i := 3) X dX6_pack_33 rfl rfl ?_
      obtain ⟨hi2, hf⟩ := jin_i hf
      refine g_iald (pc := 34) X dX6_pack_34 rfl hi2 ?_
      obtain ⟨hi3, hf⟩ := jin_i hf
      refine g_iast (pc := 35) X dX6_pack_35 rfl hi3 ?_
      refine g_nmM (fun μ3 eμ3 => ?_)
      replace hf := jlet_i eμ3 hf
      obtain ⟨z4, ez4⟩ : ∃ z : Int32, z = x3 + (1 : Int32) := ⟨_, rfl⟩
      replace hf := jlet_i ez4 hf
      refine g_iinc (pc := 36) (L1 := [some (jr Δ 0), none, some (.int x2), some (.int z4)]) X dX6_pack_36 rfl (by rw [ez4]; rfl) rfl rfl ?_
      refine g_goto (pc := 39) 19 X dX6_pack_39 (by decide) ?_
      exact g_weak (ih _ _ _ hf) (⟨rfl, ⟨rfl, ⟨rfl, trivial⟩⟩⟩)
set_option maxHeartbeats 4000000 in
theorem M_X6_pack {l : Launch} {Δ : jD} {r : Int32} {μ μ9 : jM} {x1 : Int32}  (hsep : jSep Δ shM) (hf : f_X6_pack x1 μ = some (r, μ9)) : jMet l yX6_pack cX6_pack 4 (some .int) D_X6_pack Δ shM [jr Δ 0, .int x1] μ (some (.int r), μ9) := by
  refine jMet_of (own := RX6) (L := [some (jr Δ 0), some (.int x1), none, none]) (by decide) rfl (Nat.le_of_ble_eq_true rfl) rfl hsep (fun Γ _ X => ?_)
  unfold f_X6_pack at hf
  refine g_ald_n (pc := 0) (i := 0) X dX6_pack_0 rfl rfl ?_
  refine g_iconst (pc := 1) (v := (0 : Int32)) X dX6_pack_1 (by decide) ?_
  refine g_putI (pc := 2) (k := 13) X dX6_pack_2 cl_X6 rfl rfl (by decide) w_674 rfl rfl rfl ?_
  refine g_nmM (fun μ6 eμ6 => ?_)
  replace hf := jlet_i eμ6 hf
  refine g_ald_n (pc := 5) (i := 0) X dX6_pack_5 rfl rfl ?_
  refine g_ild_n (pc := 6) (i := 1) X dX6_pack_6 rfl rfl ?_
  obtain ⟨r7, μ7, hc7, hf⟩ := jcall_i hf
  refine g_callVi (pc := 7) [.int x1] X dX6_pack_7 (M_X6_size  (jOk_sep X) hc7) Y_X6_size w_766 w_768 w_767 cl_X6 rfl rfl (by decide) rfl rfl (Nat.le_of_ble_eq_true rfl) rfl ?_
  refine g_ist_n (pc := 10) (i := 2) (L1 := [some (jr Δ 0), some (.int x1), some (.int r7), none]) X dX6_pack_10 rfl (Nat.le_of_ble_eq_true rfl) rfl rfl ?_
  refine g_ild_n (pc := 11) (i := 2) X dX6_pack_11 rfl rfl ?_
  refine g_if_ge (pc := 12) 17 X dX6_pack_12 (by decide) (fun h8 => ?_) (fun h8 => ?_)
  · replace hf := jt_i h8 hf
    refine g_iconst (pc := 17) (v := (0 : Int32)) X dX6_pack_17 (by decide) ?_
    refine g_ist_n (pc := 18) (i := 3) (L1 := [some (jr Δ 0), some (.int x1), some (.int r7), some (.int (0 : Int32))]) X dX6_pack_18 rfl (Nat.le_of_ble_eq_true rfl) rfl rfl ?_
    exact g_weak (t_X6_pack_19  X  jFU _ _ _ hf) (⟨rfl, ⟨rfl, ⟨rfl, trivial⟩⟩⟩)
  · replace hf := jf_i h8 hf
    refine g_ild_n (pc := 15) (i := 2) X dX6_pack_15 rfl rfl ?_
    exact g_iret (pc := 16) X dX6_pack_16 hf
/-! X6_fails -/
abbrev D_X6_fails : Nat := 0
noncomputable def f_X6_fails (x1 : Int32) (x2 : Int32) (μ : jM) : Option (Int32 × jM) := jlet (jsI μ 0 12 x1) (fun μ1 : jM => some (((-10 : Int32) - x2), μ1))
set_option maxHeartbeats 4000000 in
theorem M_X6_fails {l : Launch} {Δ : jD} {r : Int32} {μ μ9 : jM} {x1 : Int32} {x2 : Int32}  (hsep : jSep Δ shM) (hf : f_X6_fails x1 x2 μ = some (r, μ9)) : jMet l yX6_fails cX6_fails 3 (some .int) D_X6_fails Δ shM [jr Δ 0, .int x1, .int x2] μ (some (.int r), μ9) := by
  refine jMet_of (own := RX6) (L := [some (jr Δ 0), some (.int x1), some (.int x2)]) (by decide) rfl (Nat.le_of_ble_eq_true rfl) rfl hsep (fun Γ _ X => ?_)
  unfold f_X6_fails at hf
  refine g_ald_n (pc := 0) (i := 0) X dX6_fails_0 rfl rfl ?_
  refine g_ild_n (pc := 1) (i := 1) X dX6_fails_1 rfl rfl ?_
  refine g_putI (pc := 2) (k := 12) X dX6_fails_2 cl_X6 rfl rfl (by decide) w_673 rfl rfl rfl ?_
  refine g_nmM (fun μ1 eμ1 => ?_)
  replace hf := jlet_i eμ1 hf
  refine g_bipush (pc := 5) (v := (-10 : Int32)) X dX6_fails_5 (by decide) ?_
  refine g_ild_n (pc := 7) (i := 2) X dX6_fails_7 rfl rfl ?_
  refine g_isub (pc := 8) X dX6_fails_8 ?_
  exact g_iret (pc := 9) X dX6_fails_9 hf
/-! X6_puts -/
abbrev D_X6_puts : Nat := 1
noncomputable def f_X6_puts_36  (k27 : Int32 → Int32 → Int32 → Int32 → jM → Option (Int32 × jM)) : Nat → Int32 → Int32 → Int32 → Int32 → Int32 → jM → Option (Int32 × jM)
  | 0, _, _, _, _, _, _ => none
  | fu + 1, x1, x2, x3, x4, x5, μ => if x2 ≤ x5 then (jlet (x4 + (1 : Int32)) (fun z1 : Int32 => k27 x1 x2 x3 z1 μ)) else (jin (x1 + x5) 1000 (jin (μ.1 0 20) 256 (jlet (jsI μ 7 ((μ.1 0 20)).toNatClampNeg (μ.1 2 ((x1 + x5)).toNatClampNeg)) (fun μ3 : jM => jlet (jsI μ3 0 20 ((μ3.1 0 20) + (1 : Int32))) (fun μ4 : jM => jlet (x5 + (1 : Int32)) (fun z5 : Int32 => f_X6_puts_36  k27 fu x1 x2 x3 x4 z5 μ4))))))
noncomputable def f_X6_puts_27   : Nat → Int32 → Int32 → Int32 → Int32 → jM → Option (Int32 × jM)
  | 0, _, _, _, _, _ => none
  | fu + 1, x1, x2, x3, x4, μ => if x3 ≤ x4 then (some ((0 : Int32), μ)) else (f_X6_puts_36  (fun x1 x2 x3 x4 μ => f_X6_puts_27   fu x1 x2 x3 x4 μ) jFU x1 x2 x3 x4 (0 : Int32) μ)
noncomputable def f_X6_puts (x1 : Int32) (x2 : Int32) (x3 : Int32) (μ : jM) : Option (Int32 × jM) := if ((μ.1 0 20) + (x2 * x3)) ≤ (240 : Int32) then (f_X6_puts_27   jFU x1 x2 x3 (0 : Int32) μ) else (jcall (f_X6_fails (4 : Int32) (μ.1 0 21) μ) (fun (r8 : Int32) (μ8 : jM) => some (r8, μ8)))
set_option maxHeartbeats 4000000 in
theorem t_X6_puts_36 {Γ : jC} {Δ : jD} {r : Int32} {μ9 : jM}  {k27 : Int32 → Int32 → Int32 → Int32 → jM → Option (Int32 × jM)}  (X : jOk Γ Δ shM cX6_puts 6 RX6 (some .int) D_X6_puts) (hk27 : ∀ (x1 : Int32) (x2 : Int32) (x3 : Int32) (x4 : Int32) (μ : jM), k27 x1 x2 x3 x4 μ = some (r, μ9) → jG Γ Δ shM (some (.int r), μ9) 27 [some (jr Δ 0), some (.int x1), some (.int x2), some (.int x3), some (.int x4), none] [] μ) : ∀ (fu : Nat) (x1 : Int32) (x2 : Int32) (x3 : Int32) (x4 : Int32) (x5 : Int32) (μ : jM), f_X6_puts_36  k27 fu x1 x2 x3 x4 x5 μ = some (r, μ9) → jG Γ Δ shM (some (.int r), μ9) 36 [some (jr Δ 0), some (.int x1), some (.int x2), some (.int x3), some (.int x4), some (.int x5)] [] μ := by
  intro fu
  induction fu with
  | zero =>
    intro x1 x2 x3 x4 x5 μ hf
    cases hf
  | succ fu ih =>
    intro x1 x2 x3 x4 x5 μ hf
    replace hf := (f_X6_puts_36.eq_2 _ _ _ _ _ _ _ _).symm.trans hf
    refine g_ild (pc := 36) X dX6_puts_36 rfl ?_
    refine g_ild_n (pc := 38) (i := 2) X dX6_puts_38 rfl rfl ?_
    refine g_icmp_ge (pc := 39) 76 X dX6_puts_39 (by decide) (fun h6 => ?_) (fun h6 => ?_)
    · replace hf := jt_i h6 hf
      obtain ⟨z1, ez1⟩ : ∃ z : Int32, z = x4 + (1 : Int32) := ⟨_, rfl⟩
      replace hf := jlet_i ez1 hf
      refine g_iinc (pc := 76) (L1 := [some (jr Δ 0), some (.int x1), some (.int x2), some (.int x3), some (.int z1), some (.int x5)]) X dX6_puts_76 rfl (by rw [ez1]; rfl) rfl rfl ?_
      refine g_goto (pc := 79) 27 X dX6_puts_79 (by decide) ?_
      exact g_weak (hk27 _ _ _ _ _ hf) (⟨rfl, ⟨rfl, ⟨rfl, ⟨rfl, ⟨rfl, trivial⟩⟩⟩⟩⟩)
    · replace hf := jf_i h6 hf
      refine g_ald_n (pc := 42) (i := 0) X dX6_puts_42 rfl rfl ?_
      refine g_getR (pc := 43) (k := 19) X dX6_puts_43 cl_X6 rfl rfl (by decide) w_680 ?_
      refine g_ald_n (pc := 46) (i := 0) X dX6_puts_46 rfl rfl ?_
      refine g_getI (pc := 47) (k := 20) X dX6_puts_47 cl_X6 rfl rfl (by decide) w_681 ?_
      refine g_ald_n (pc := 50) (i := 0) X dX6_puts_50 rfl rfl ?_
      refine g_getR (pc := 51) (k := 7) X dX6_puts_51 cl_X6 rfl rfl (by decide) w_668 ?_
      refine g_ild_n (pc := 54) (i := 1) X dX6_puts_54 rfl rfl ?_
      refine g_ild (pc := 55) X dX6_puts_55 rfl ?_
      refine g_iadd (pc := 57) X dX6_puts_57 ?_
      obtain ⟨hi2, hf⟩ := jin_i hf
      refine g_iald (pc := 58) X dX6_puts_58 rfl hi2 ?_
      obtain ⟨hi3, hf⟩ := jin_i hf
      refine g_iast (pc := 59) X dX6_puts_59 rfl hi3 ?_
      refine g_nmM (fun μ3 eμ3 => ?_)
      replace hf := jlet_i eμ3 hf
      refine g_ald_n (pc := 60) (i := 0) X dX6_puts_60 rfl rfl ?_
      refine g_dupR (pc := 61) X dX6_puts_61 ?_
      refine g_getI (pc := 62) (k := 20) X dX6_puts_62 cl_X6 rfl rfl (by decide) w_681 ?_
      refine g_iconst (pc := 65) (v := (1 : Int32)) X dX6_puts_65 (by decide) ?_
      refine g_iadd (pc := 66) X dX6_puts_66 ?_
      refine g_putI (pc := 67) (k := 20) X dX6_puts_67 cl_X6 rfl rfl (by decide) w_681 rfl rfl rfl ?_
      refine g_nmM (fun μ4 eμ4 => ?_)
      replace hf := jlet_i eμ4 hf
      obtain ⟨z5, ez5⟩ : ∃ z : Int32, z = x5 + (1 : Int32) := ⟨_, rfl⟩
      replace hf := jlet_i ez5 hf
      refine g_iinc (pc := 70) (L1 := [some (jr Δ 0), some (.int x1), some (.int x2), some (.int x3), some (.int x4), some (.int z5)]) X dX6_puts_70 rfl (by rw [ez5]; rfl) rfl rfl ?_
      refine g_goto (pc := 73) 36 X dX6_puts_73 (by decide) ?_
      exact g_weak (ih _ _ _ _ _ _ hf) (⟨rfl, ⟨rfl, ⟨rfl, ⟨rfl, ⟨rfl, ⟨rfl, trivial⟩⟩⟩⟩⟩⟩)
set_option maxHeartbeats 4000000 in
theorem t_X6_puts_27 {Γ : jC} {Δ : jD} {r : Int32} {μ9 : jM}    (X : jOk Γ Δ shM cX6_puts 6 RX6 (some .int) D_X6_puts)  : ∀ (fu : Nat) (x1 : Int32) (x2 : Int32) (x3 : Int32) (x4 : Int32) (μ : jM), f_X6_puts_27   fu x1 x2 x3 x4 μ = some (r, μ9) → jG Γ Δ shM (some (.int r), μ9) 27 [some (jr Δ 0), some (.int x1), some (.int x2), some (.int x3), some (.int x4), none] [] μ := by
  intro fu
  induction fu with
  | zero =>
    intro x1 x2 x3 x4 μ hf
    cases hf
  | succ fu ih =>
    intro x1 x2 x3 x4 μ hf
    replace hf := (f_X6_puts_27.eq_2 _ _ _ _ _ _).symm.trans hf
    refine g_ild (pc := 27) X dX6_puts_27 rfl ?_
    refine g_ild_n (pc := 29) (i := 3) X dX6_puts_29 rfl rfl ?_
    refine g_icmp_ge (pc := 30) 82 X dX6_puts_30 (by decide) (fun h7 => ?_) (fun h7 => ?_)
    · replace hf := jt_i h7 hf
      refine g_iconst (pc := 82) (v := (0 : Int32)) X dX6_puts_82 (by decide) ?_
      exact g_iret (pc := 83) X dX6_puts_83 hf
    · replace hf := jf_i h7 hf
      refine g_iconst (pc := 33) (v := (0 : Int32)) X dX6_puts_33 (by decide) ?_
      refine g_ist (pc := 34) (L1 := [some (jr Δ 0), some (.int x1), some (.int x2), some (.int x3), some (.int x4), some (.int (0 : Int32))]) X dX6_puts_34 (Nat.le_of_ble_eq_true rfl) rfl rfl ?_
      exact g_weak (t_X6_puts_36  X (fun _ _ _ _ _ h => ih _ _ _ _ _ h) jFU _ _ _ _ _ _ hf) (⟨rfl, ⟨rfl, ⟨rfl, ⟨rfl, ⟨rfl, ⟨rfl, trivial⟩⟩⟩⟩⟩⟩)
set_option maxHeartbeats 4000000 in
theorem M_X6_puts {l : Launch} {Δ : jD} {r : Int32} {μ μ9 : jM} {x1 : Int32} {x2 : Int32} {x3 : Int32}  (hsep : jSep Δ shM) (hf : f_X6_puts x1 x2 x3 μ = some (r, μ9)) : jMet l yX6_puts cX6_puts 6 (some .int) D_X6_puts Δ shM [jr Δ 0, .int x1, .int x2, .int x3] μ (some (.int r), μ9) := by
  refine jMet_of (own := RX6) (L := [some (jr Δ 0), some (.int x1), some (.int x2), some (.int x3), none, none]) (by decide) rfl (Nat.le_of_ble_eq_true rfl) rfl hsep (fun Γ _ X => ?_)
  unfold f_X6_puts at hf
  refine g_ald_n (pc := 0) (i := 0) X dX6_puts_0 rfl rfl ?_
  refine g_getI (pc := 1) (k := 20) X dX6_puts_1 cl_X6 rfl rfl (by decide) w_681 ?_
  refine g_ild_n (pc := 4) (i := 2) X dX6_puts_4 rfl rfl ?_
  refine g_ild_n (pc := 5) (i := 3) X dX6_puts_5 rfl rfl ?_
  refine g_imul (pc := 6) X dX6_puts_6 ?_
  refine g_iadd (pc := 7) X dX6_puts_7 ?_
  refine g_sipush (pc := 8) (v := (240 : Int32)) X dX6_puts_8 (by decide) ?_
  refine g_icmp_le (pc := 11) 24 X dX6_puts_11 (by decide) (fun h9 => ?_) (fun h9 => ?_)
  · replace hf := jt_i h9 hf
    refine g_iconst (pc := 24) (v := (0 : Int32)) X dX6_puts_24 (by decide) ?_
    refine g_ist (pc := 25) (L1 := [some (jr Δ 0), some (.int x1), some (.int x2), some (.int x3), some (.int (0 : Int32)), none]) X dX6_puts_25 (Nat.le_of_ble_eq_true rfl) rfl rfl ?_
    exact g_weak (t_X6_puts_27  X  jFU _ _ _ _ _ hf) (⟨rfl, ⟨rfl, ⟨rfl, ⟨rfl, ⟨rfl, trivial⟩⟩⟩⟩⟩)
  · replace hf := jf_i h9 hf
    refine g_ald_n (pc := 14) (i := 0) X dX6_puts_14 rfl rfl ?_
    refine g_iconst (pc := 15) (v := (4 : Int32)) X dX6_puts_15 (by decide) ?_
    refine g_ald_n (pc := 16) (i := 0) X dX6_puts_16 rfl rfl ?_
    refine g_getI (pc := 17) (k := 21) X dX6_puts_17 cl_X6 rfl rfl (by decide) w_682 ?_
    obtain ⟨r8, μ8, hc8, hf⟩ := jcall_i hf
    refine g_callVi (pc := 20) [.int (4 : Int32), .int (μ.1 0 21)] X dX6_puts_20 (M_X6_fails  (jOk_sep X) hc8) Y_X6_fails w_868 ws_28 w_870 cl_X6 rfl rfl (by decide) rfl rfl (Nat.le_of_ble_eq_true rfl) rfl ?_
    exact g_iret (pc := 23) X dX6_puts_23 hf
