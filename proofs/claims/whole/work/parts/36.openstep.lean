theorem CO.pl {μ0 μ : jM} {pl p on x y en pl' : Nat} {o : Nat → Nat} (h : CO μ0 μ pl p on x y en o) : CO μ0 (jsI μ 14 4 (nI pl')) pl' p on x y en o := by
  obtain ⟨h0, h1, h2, h3, h4, h5, h6, h7, h8⟩ := h
  refine ⟨h0.tr (Fr.I _ _ _ (by decide)), jsI_s _ _ _ _, ?_, ?_, ?_, ?_, ?_, h7, fun i hi => ?_⟩
  · simp (decide := true) only [jsI_s, jsI_k, jsI_c, jsI_2, jsJ_1, ne_eq, not_false_eq_true, h2]
  · simp (decide := true) only [jsI_s, jsI_k, jsI_c, jsI_2, jsJ_1, ne_eq, not_false_eq_true, h3]
  · simp (decide := true) only [jsI_s, jsI_k, jsI_c, jsI_2, jsJ_1, ne_eq, not_false_eq_true, h4]
  · simp (decide := true) only [jsI_s, jsI_k, jsI_c, jsI_2, jsJ_1, ne_eq, not_false_eq_true, h5]
  · simp (decide := true) only [jsI_s, jsI_k, jsI_c, jsI_2, jsJ_1, ne_eq, not_false_eq_true, h6]
  · rw [jsI_c _ _ _ (by decide)]; exact h8 i hi
theorem CO.en {μ0 μ : jM} {pl p on x y en en' : Nat} {o : Nat → Nat} (h : CO μ0 μ pl p on x y en o) : CO μ0 (jsI μ 14 6 (nI en')) pl p on x y en' o := by
  obtain ⟨h0, h1, h2, h3, h4, h5, h6, h7, h8⟩ := h
  refine ⟨h0.tr (Fr.I _ _ _ (by decide)), ?_, ?_, jsI_s _ _ _ _, ?_, ?_, ?_, h7, fun i hi => ?_⟩
  · simp (decide := true) only [jsI_s, jsI_k, jsI_c, jsI_2, jsJ_1, ne_eq, not_false_eq_true, h1]
  · simp (decide := true) only [jsI_s, jsI_k, jsI_c, jsI_2, jsJ_1, ne_eq, not_false_eq_true, h2]
  · simp (decide := true) only [jsI_s, jsI_k, jsI_c, jsI_2, jsJ_1, ne_eq, not_false_eq_true, h4]
  · simp (decide := true) only [jsI_s, jsI_k, jsI_c, jsI_2, jsJ_1, ne_eq, not_false_eq_true, h5]
  · simp (decide := true) only [jsI_s, jsI_k, jsI_c, jsI_2, jsJ_1, ne_eq, not_false_eq_true, h6]
  · rw [jsI_c _ _ _ (by decide)]; exact h8 i hi
theorem CO.nx {μ0 μ : jM} {pl p on x y en p' : Nat} {o : Nat → Nat} (h : CO μ0 μ pl p on x y en o) : CO μ0 (jsI μ 14 5 (nI p')) pl p' on x y en o := by
  obtain ⟨h0, h1, h2, h3, h4, h5, h6, h7, h8⟩ := h
  refine ⟨h0.tr (Fr.I _ _ _ (by decide)), ?_, jsI_s _ _ _ _, ?_, ?_, ?_, ?_, h7, fun i hi => ?_⟩
  · simp (decide := true) only [jsI_s, jsI_k, jsI_c, jsI_2, jsJ_1, ne_eq, not_false_eq_true, h1]
  · simp (decide := true) only [jsI_s, jsI_k, jsI_c, jsI_2, jsJ_1, ne_eq, not_false_eq_true, h3]
  · simp (decide := true) only [jsI_s, jsI_k, jsI_c, jsI_2, jsJ_1, ne_eq, not_false_eq_true, h4]
  · simp (decide := true) only [jsI_s, jsI_k, jsI_c, jsI_2, jsJ_1, ne_eq, not_false_eq_true, h5]
  · simp (decide := true) only [jsI_s, jsI_k, jsI_c, jsI_2, jsJ_1, ne_eq, not_false_eq_true, h6]
  · rw [jsI_c _ _ _ (by decide)]; exact h8 i hi
theorem CO.f3 {μ0 μ : jM} {pl p on x y en : Nat} {o : Nat → Nat} (h : CO μ0 μ pl p on x y en o) (v : Int32) : CO μ0 (jsI μ 14 3 v) pl p on x y en o := by
  obtain ⟨h0, h1, h2, h3, h4, h5, h6, h7, h8⟩ := h
  refine ⟨h0.tr (Fr.I _ _ _ (by decide)), ?_, ?_, ?_, ?_, ?_, ?_, h7, fun i hi => ?_⟩
  · simp (decide := true) only [jsI_s, jsI_k, jsI_c, jsI_2, jsJ_1, ne_eq, not_false_eq_true, h1]
  · simp (decide := true) only [jsI_s, jsI_k, jsI_c, jsI_2, jsJ_1, ne_eq, not_false_eq_true, h2]
  · simp (decide := true) only [jsI_s, jsI_k, jsI_c, jsI_2, jsJ_1, ne_eq, not_false_eq_true, h3]
  · simp (decide := true) only [jsI_s, jsI_k, jsI_c, jsI_2, jsJ_1, ne_eq, not_false_eq_true, h4]
  · simp (decide := true) only [jsI_s, jsI_k, jsI_c, jsI_2, jsJ_1, ne_eq, not_false_eq_true, h5]
  · simp (decide := true) only [jsI_s, jsI_k, jsI_c, jsI_2, jsJ_1, ne_eq, not_false_eq_true, h6]
  · rw [jsI_c _ _ _ (by decide)]; exact h8 i hi
theorem CO.row {μ0 μ : jM} {pl p on x y en y' : Nat} {o : Nat → Nat} (h : CO μ0 μ pl p on x y en o) : CO μ0 (jsI μ 14 7 (nI y')) pl p on x y' en o := by
  obtain ⟨h0, h1, h2, h3, h4, h5, h6, h7, h8⟩ := h
  refine ⟨h0.tr (Fr.I _ _ _ (by decide)), ?_, ?_, ?_, jsI_s _ _ _ _, ?_, ?_, h7, fun i hi => ?_⟩
  · simp (decide := true) only [jsI_s, jsI_k, jsI_c, jsI_2, jsJ_1, ne_eq, not_false_eq_true, h1]
  · simp (decide := true) only [jsI_s, jsI_k, jsI_c, jsI_2, jsJ_1, ne_eq, not_false_eq_true, h2]
  · simp (decide := true) only [jsI_s, jsI_k, jsI_c, jsI_2, jsJ_1, ne_eq, not_false_eq_true, h3]
  · simp (decide := true) only [jsI_s, jsI_k, jsI_c, jsI_2, jsJ_1, ne_eq, not_false_eq_true, h5]
  · simp (decide := true) only [jsI_s, jsI_k, jsI_c, jsI_2, jsJ_1, ne_eq, not_false_eq_true, h6]
  · rw [jsI_c _ _ _ (by decide)]; exact h8 i hi
theorem CO.col {μ0 μ : jM} {pl p on x y en x' : Nat} {o : Nat → Nat} (h : CO μ0 μ pl p on x y en o) : CO μ0 (jsI μ 14 8 (nI x')) pl p on x' y en o := by
  obtain ⟨h0, h1, h2, h3, h4, h5, h6, h7, h8⟩ := h
  refine ⟨h0.tr (Fr.I _ _ _ (by decide)), ?_, ?_, ?_, ?_, jsI_s _ _ _ _, ?_, h7, fun i hi => ?_⟩
  · simp (decide := true) only [jsI_s, jsI_k, jsI_c, jsI_2, jsJ_1, ne_eq, not_false_eq_true, h1]
  · simp (decide := true) only [jsI_s, jsI_k, jsI_c, jsI_2, jsJ_1, ne_eq, not_false_eq_true, h2]
  · simp (decide := true) only [jsI_s, jsI_k, jsI_c, jsI_2, jsJ_1, ne_eq, not_false_eq_true, h3]
  · simp (decide := true) only [jsI_s, jsI_k, jsI_c, jsI_2, jsJ_1, ne_eq, not_false_eq_true, h4]
  · simp (decide := true) only [jsI_s, jsI_k, jsI_c, jsI_2, jsJ_1, ne_eq, not_false_eq_true, h6]
  · rw [jsI_c _ _ _ (by decide)]; exact h8 i hi
theorem CO.cnt {μ0 μ : jM} {pl p on x y en on' : Nat} {o : Nat → Nat} (h : CO μ0 μ pl p on x y en o) (hn : on' ≤ 240) : CO μ0 (jsI μ 15 1 (nI on')) pl p on' x y en o := by
  obtain ⟨h0, h1, h2, h3, h4, h5, h6, h7, h8⟩ := h
  refine ⟨h0.tr (Fr.I _ _ _ (by decide)), ?_, ?_, ?_, ?_, ?_, jsI_s _ _ _ _, hn, fun i hi => ?_⟩
  · simp (decide := true) only [jsI_s, jsI_k, jsI_c, jsI_2, jsJ_1, ne_eq, not_false_eq_true, h1]
  · simp (decide := true) only [jsI_s, jsI_k, jsI_c, jsI_2, jsJ_1, ne_eq, not_false_eq_true, h2]
  · simp (decide := true) only [jsI_s, jsI_k, jsI_c, jsI_2, jsJ_1, ne_eq, not_false_eq_true, h3]
  · simp (decide := true) only [jsI_s, jsI_k, jsI_c, jsI_2, jsJ_1, ne_eq, not_false_eq_true, h4]
  · simp (decide := true) only [jsI_s, jsI_k, jsI_c, jsI_2, jsJ_1, ne_eq, not_false_eq_true, h5]
  · rw [jsI_c _ _ _ (by decide)]; exact h8 i hi
theorem MO.p {ν0 ν : jM} {p on x y en p' : Nat} {o : Nat → Nat} (h : MO ν0 ν p on x y en o) : MO ν0 (jsI ν 0 21 (nI p')) p' on x y en o := by
  obtain ⟨h0, h1, h2, h3, h4, h5, h6, h7⟩ := h
  refine ⟨⟨h0.1.f (by omega) _, ?_⟩, jsI_s _ _ _ _, ?_, ?_, ?_, ?_, h6, fun i hi => ?_⟩
  · simp (decide := true) only [jsI_s, jsI_k, jsI_c, jsI_2, jsJ_1, ne_eq, not_false_eq_true, h0.2]
  · simp (decide := true) only [jsI_s, jsI_k, jsI_c, jsI_2, jsJ_1, ne_eq, not_false_eq_true, h2]
  · simp (decide := true) only [jsI_s, jsI_k, jsI_c, jsI_2, jsJ_1, ne_eq, not_false_eq_true, h3]
  · simp (decide := true) only [jsI_s, jsI_k, jsI_c, jsI_2, jsJ_1, ne_eq, not_false_eq_true, h4]
  · simp (decide := true) only [jsI_s, jsI_k, jsI_c, jsI_2, jsJ_1, ne_eq, not_false_eq_true, h5]
  · rw [jsI_c _ _ _ (by decide)]; exact h7 i hi
theorem MO.en {ν0 ν : jM} {p on x y en en' : Nat} {o : Nat → Nat} (h : MO ν0 ν p on x y en o) : MO ν0 (jsI ν 0 24 (nI en')) p on x y en' o := by
  obtain ⟨h0, h1, h2, h3, h4, h5, h6, h7⟩ := h
  refine ⟨⟨h0.1.f (by omega) _, ?_⟩, ?_, jsI_s _ _ _ _, ?_, ?_, ?_, h6, fun i hi => ?_⟩
  · simp (decide := true) only [jsI_s, jsI_k, jsI_c, jsI_2, jsJ_1, ne_eq, not_false_eq_true, h0.2]
  · simp (decide := true) only [jsI_s, jsI_k, jsI_c, jsI_2, jsJ_1, ne_eq, not_false_eq_true, h1]
  · simp (decide := true) only [jsI_s, jsI_k, jsI_c, jsI_2, jsJ_1, ne_eq, not_false_eq_true, h3]
  · simp (decide := true) only [jsI_s, jsI_k, jsI_c, jsI_2, jsJ_1, ne_eq, not_false_eq_true, h4]
  · simp (decide := true) only [jsI_s, jsI_k, jsI_c, jsI_2, jsJ_1, ne_eq, not_false_eq_true, h5]
  · rw [jsI_c _ _ _ (by decide)]; exact h7 i hi
theorem MO.row {ν0 ν : jM} {p on x y en y' : Nat} {o : Nat → Nat} (h : MO ν0 ν p on x y en o) : MO ν0 (jsI ν 0 23 (nI y')) p on x y' en o := by
  obtain ⟨h0, h1, h2, h3, h4, h5, h6, h7⟩ := h
  refine ⟨⟨h0.1.f (by omega) _, ?_⟩, ?_, ?_, jsI_s _ _ _ _, ?_, ?_, h6, fun i hi => ?_⟩
  · simp (decide := true) only [jsI_s, jsI_k, jsI_c, jsI_2, jsJ_1, ne_eq, not_false_eq_true, h0.2]
  · simp (decide := true) only [jsI_s, jsI_k, jsI_c, jsI_2, jsJ_1, ne_eq, not_false_eq_true, h1]
  · simp (decide := true) only [jsI_s, jsI_k, jsI_c, jsI_2, jsJ_1, ne_eq, not_false_eq_true, h2]
  · simp (decide := true) only [jsI_s, jsI_k, jsI_c, jsI_2, jsJ_1, ne_eq, not_false_eq_true, h4]
  · simp (decide := true) only [jsI_s, jsI_k, jsI_c, jsI_2, jsJ_1, ne_eq, not_false_eq_true, h5]
  · rw [jsI_c _ _ _ (by decide)]; exact h7 i hi
theorem MO.col {ν0 ν : jM} {p on x y en x' : Nat} {o : Nat → Nat} (h : MO ν0 ν p on x y en o) : MO ν0 (jsI ν 0 22 (nI x')) p on x' y en o := by
  obtain ⟨h0, h1, h2, h3, h4, h5, h6, h7⟩ := h
  refine ⟨⟨h0.1.f (by omega) _, ?_⟩, ?_, ?_, ?_, jsI_s _ _ _ _, ?_, h6, fun i hi => ?_⟩
  · simp (decide := true) only [jsI_s, jsI_k, jsI_c, jsI_2, jsJ_1, ne_eq, not_false_eq_true, h0.2]
  · simp (decide := true) only [jsI_s, jsI_k, jsI_c, jsI_2, jsJ_1, ne_eq, not_false_eq_true, h1]
  · simp (decide := true) only [jsI_s, jsI_k, jsI_c, jsI_2, jsJ_1, ne_eq, not_false_eq_true, h2]
  · simp (decide := true) only [jsI_s, jsI_k, jsI_c, jsI_2, jsJ_1, ne_eq, not_false_eq_true, h3]
  · simp (decide := true) only [jsI_s, jsI_k, jsI_c, jsI_2, jsJ_1, ne_eq, not_false_eq_true, h5]
  · rw [jsI_c _ _ _ (by decide)]; exact h7 i hi
theorem MO.cnt {ν0 ν : jM} {p on x y en on' : Nat} {o : Nat → Nat} (h : MO ν0 ν p on x y en o) (hn : on' ≤ 240) : MO ν0 (jsI ν 0 20 (nI on')) p on' x y en o := by
  obtain ⟨h0, h1, h2, h3, h4, h5, h6, h7⟩ := h
  refine ⟨⟨h0.1.f (by omega) _, ?_⟩, ?_, ?_, ?_, ?_, jsI_s _ _ _ _, hn, fun i hi => ?_⟩
  · simp (decide := true) only [jsI_s, jsI_k, jsI_c, jsI_2, jsJ_1, ne_eq, not_false_eq_true, h0.2]
  · simp (decide := true) only [jsI_s, jsI_k, jsI_c, jsI_2, jsJ_1, ne_eq, not_false_eq_true, h1]
  · simp (decide := true) only [jsI_s, jsI_k, jsI_c, jsI_2, jsJ_1, ne_eq, not_false_eq_true, h2]
  · simp (decide := true) only [jsI_s, jsI_k, jsI_c, jsI_2, jsJ_1, ne_eq, not_false_eq_true, h3]
  · simp (decide := true) only [jsI_s, jsI_k, jsI_c, jsI_2, jsJ_1, ne_eq, not_false_eq_true, h4]
  · rw [jsI_c _ _ _ (by decide)]; exact h7 i hi
/-- a fault, alike -/
theorem STEP.flt {μ0 ν0 μ ν : jM} {cn W p on x y f pn xn yn en : Nat} {o o2 : Nat → Nat} {a b : Option (Int32 × jM)} (ft : Nat) (h1 : 1 ≤ ft) (h2 : ft ≤ 4) (hc : CO μ0 μ p pn on xn yn en o) (hk : MK ν0 ν) (ha : a = some (nI ft, μ)) (hb : b = some (-10 - nI p, jsI ν 0 12 (nI ft))) : STEP μ0 ν0 cn W p on x y f a b :=
  Or.inl ⟨ft, μ, _, h1, h2, ha, hb, hc.1, hc.2.1, hk.f (by omega) _, jsI_s _ _ _ _⟩
theorem s_takeEnd {μ0 μ : jM} {p on x y cn : Nat} {o cd : Nat → Nat} (hcd : OC μ0 4 1000 cn cd) (hp : p + 2 ≤ cn) (h : CO μ0 μ p p on x y 0 o) : (p + 2 < cn ∧ f_X1_takeEnd μ = some (nI 5, jsI μ 14 4 (nI (p + 2)))) ∨ (p + 2 = cn ∧ f_X1_takeEnd μ = some (nI 0, jsI μ 14 6 (nI 1))) := by
  have hcn := hcd.2.1
  have h4 := (h.oc hcd).1
  have h14 := h.2.1
  unfold f_X1_takeEnd
  by_cases hl : p + 2 < cn
  · left
    refine ⟨hl, ?_⟩
    simp (disch := omega) only [jlet_e, jcall_s, jin_n, jnz_n, jbl_0, jbl_1, nI_ofNat, jl_0, jl_1, jl_2, jl_3, jl_4, jl_5, jl_8, jl_60, jl_127, jl_128, jl_240, jl_255, jl_256, jl_400, jl_1000, jl_1000000, nI_ltI, nI_leI, nI_eq, nI_add, pk_sub, pk_mul, pk_div, pk_rem, nI_clamp, if_pos, if_neg, ite_true, ite_false, h4, h14]
  · right
    refine ⟨by omega, ?_⟩
    simp (disch := omega) only [jlet_e, jcall_s, jin_n, jnz_n, jbl_0, jbl_1, nI_ofNat, jl_0, jl_1, jl_2, jl_3, jl_4, jl_5, jl_8, jl_60, jl_127, jl_128, jl_240, jl_255, jl_256, jl_400, jl_1000, jl_1000000, nI_ltI, nI_leI, nI_eq, nI_add, pk_sub, pk_mul, pk_div, pk_rem, nI_clamp, if_pos, if_neg, ite_true, ite_false, h4, h14]
theorem s_157F {ν ν1 : jM} {p : Nat} {x2 s0 s1 s2 : Int32} (hp : p ≤ 1000) (r2 : f_X6_puts s2 s1 s0 ν = some (-10 - nI p, ν1)) : f_X6_openMarked_157 x2 s0 s1 s2 ν = some (-10 - nI p, jsI ν1 0 21 (ν1.1 0 21)) := by
  unfold f_X6_openMarked_157 f_X6_openMarked_179
  rw [r2, jcall_s, jl_0, if_neg (neg10 hp), jlet_e]
theorem s_157T {ν ν1 : jM} {f U W M D fr : Nat} {s0 s1 s2 : Int32} (hm : MF ν1 f U W M D) (r2 : f_X6_puts s2 s1 s0 ν = some (nI 0, ν1)) : f_X6_openMarked_157 (nI fr) s0 s1 s2 ν = some (nI 0, jsI ν1 0 21 (nI (fr + U))) := by
  unfold f_X6_openMarked_157 f_X6_openMarked_179
  rw [r2, jcall_s, jl_0, if_pos (by decide), jlet_e, hm.2.1, nI_add]
theorem stepM {μ0 ν0 μ ν : jM} {f U W M D cn p on x y : Nat} {cd o : Nat → Nat} (hb : CB f U W M D) (hc : CF μ0 f U W M D) (hcd : OC μ0 4 1000 cn cd) (hm : MF ν0 f U W M D) (hmd : MR ν0 8 2 1000 cn cd) (hf : f = 0) (hp : p ≤ cn) (hx : x ≤ W) (hy : y ≤ 256 * p) (h : CO μ0 μ p p on x y 0 o) (g : MO ν0 ν p on x y 0 o) : STEP μ0 ν0 cn W p on x y f (f_X1_takeMarked μ) (f_X6_openMarked ν) := by
  have hcn := hcd.2.1
  have hU := hb.2.1
  have hM := hb.2.2.2.2.1
  have c4 := (h.oc hcd).1
  have cp := h.2.1
  have cM := (h.cf hc).2.2.2.1
  have m8 := (g.mr hmd).1
  have mp := g.2.1
  have mM := (g.mf hm).2.2.2.1
  have mU := (g.mf hm).2.1
  have hk := g.1.1
  by_cases h1 : p = cn
  · refine STEP.flt (o2 := o) 1 (by omega) (by omega) h hk ?_ ?_
    · unfold f_X1_takeMarked
      simp (disch := omega) only [jlet_e, jcall_s, jin_n, jnz_n, jbl_0, jbl_1, nI_ofNat, jl_0, jl_1, jl_2, jl_3, jl_4, jl_5, jl_8, jl_60, jl_127, jl_128, jl_240, jl_255, jl_256, jl_400, jl_1000, jl_1000000, nI_ltI, nI_leI, nI_eq, nI_add, pk_sub, pk_mul, pk_div, pk_rem, nI_clamp, if_pos, if_neg, ite_true, ite_false, c4, cp]
    · unfold f_X6_openMarked f_X6_fails
      simp (disch := omega) only [jlet_e, jcall_s, jin_n, jnz_n, jbl_0, jbl_1, nI_ofNat, jl_0, jl_1, jl_2, jl_3, jl_4, jl_5, jl_8, jl_60, jl_127, jl_128, jl_240, jl_255, jl_256, jl_400, jl_1000, jl_1000000, nI_ltI, nI_leI, nI_eq, nI_add, pk_sub, pk_mul, pk_div, pk_rem, nI_clamp, if_pos, if_neg, ite_true, ite_false, m8, mp]
  obtain ⟨b1, b2⟩ := (g.mr hmd).2.2.2 p (by omega)
  by_cases hq : cd p = M
  · -- marked
    by_cases h2 : p + 1 = cn
    · refine STEP.flt (o2 := o) 2 (by omega) (by omega) h hk ?_ ?_
      · unfold f_X1_takeMarked
        simp (disch := omega) only [jlet_e, jcall_s, jin_n, jnz_n, jbl_0, jbl_1, nI_ofNat, jl_0, jl_1, jl_2, jl_3, jl_4, jl_5, jl_8, jl_60, jl_127, jl_128, jl_240, jl_255, jl_256, jl_400, jl_1000, jl_1000000, nI_ltI, nI_leI, nI_eq, nI_add, pk_sub, pk_mul, pk_div, pk_rem, nI_clamp, if_pos, if_neg, ite_true, ite_false, c4, cp, cM, s_get (h.oc hcd) (show p < cn by omega)]
      · unfold f_X6_openMarked f_X6_openMarked_42 f_X6_openMarked_91 f_X6_openMarked_108 f_X6_fails
        simp (disch := omega) only [jlet_e, jcall_s, jin_n, jnz_n, jbl_0, jbl_1, nI_ofNat, jl_0, jl_1, jl_2, jl_3, jl_4, jl_5, jl_8, jl_60, jl_127, jl_128, jl_240, jl_255, jl_256, jl_400, jl_1000, jl_1000000, nI_ltI, nI_leI, nI_eq, nI_add, pk_sub, pk_mul, pk_div, pk_rem, nI_clamp, if_pos, if_neg, ite_true, ite_false, m8, mp, mM, b2, mU]
    obtain ⟨b3, b4⟩ := (g.mr hmd).2.2.2 (p + 1) (by omega)
    by_cases h3 : cd (p + 1) = 0
    · rcases s_takeEnd hcd (by omega) h with ⟨q1, q2⟩ | ⟨q1, q2⟩
      · refine Or.inr (Or.inl ⟨p + 2, _, jsI (jsI ν 0 21 (nI (p + 2))) 0 24 (nI 1), q1, ?_, ?_, (h.pl (pl' := p + 2)).1, jsI_s _ _ _ _, (hk.f (by omega) _).f (by omega) _, ?_, jsI_s _ _ _ _⟩)
        · unfold f_X1_takeMarked
          simp (disch := omega) only [jlet_e, jcall_s, jin_n, jnz_n, jbl_0, jbl_1, nI_ofNat, jl_0, jl_1, jl_2, jl_3, jl_4, jl_5, jl_8, jl_60, jl_127, jl_128, jl_240, jl_255, jl_256, jl_400, jl_1000, jl_1000000, nI_ltI, nI_leI, nI_eq, nI_add, pk_sub, pk_mul, pk_div, pk_rem, nI_clamp, if_pos, if_neg, ite_true, ite_false, c4, cp, cM, s_get (h.oc hcd) (show p < cn by omega), s_get (h.oc hcd) (show p + 1 < cn by omega), h3, q2]
        · unfold f_X6_openMarked f_X6_openMarked_42
          simp (disch := omega) only [jlet_e, jcall_s, jin_n, jnz_n, jbl_0, jbl_1, nI_ofNat, jl_0, jl_1, jl_2, jl_3, jl_4, jl_5, jl_8, jl_60, jl_127, jl_128, jl_240, jl_255, jl_256, jl_400, jl_1000, jl_1000000, nI_ltI, nI_leI, nI_eq, nI_add, pk_sub, pk_mul, pk_div, pk_rem, nI_clamp, if_pos, if_neg, ite_true, ite_false, m8, mp, mM, b2, b4, h3]
        · simp (decide := true) only [jsI_s, jsI_k, jsI_c, jsI_2, jsJ_1, ne_eq, not_false_eq_true]
      · refine Or.inr (Or.inr (Or.inl ⟨p, p, p + 2, o, _, jsI (jsI ν 0 21 (nI (p + 2))) 0 24 (nI 1), by omega, by omega, ?_, ?_, h.en, g.p.en⟩))
        · unfold f_X1_takeMarked
          simp (disch := omega) only [jlet_e, jcall_s, jin_n, jnz_n, jbl_0, jbl_1, nI_ofNat, jl_0, jl_1, jl_2, jl_3, jl_4, jl_5, jl_8, jl_60, jl_127, jl_128, jl_240, jl_255, jl_256, jl_400, jl_1000, jl_1000000, nI_ltI, nI_leI, nI_eq, nI_add, pk_sub, pk_mul, pk_div, pk_rem, nI_clamp, if_pos, if_neg, ite_true, ite_false, c4, cp, cM, s_get (h.oc hcd) (show p < cn by omega), s_get (h.oc hcd) (show p + 1 < cn by omega), h3, q2]
        · unfold f_X6_openMarked f_X6_openMarked_42
          simp (disch := omega) only [jlet_e, jcall_s, jin_n, jnz_n, jbl_0, jbl_1, nI_ofNat, jl_0, jl_1, jl_2, jl_3, jl_4, jl_5, jl_8, jl_60, jl_127, jl_128, jl_240, jl_255, jl_256, jl_400, jl_1000, jl_1000000, nI_ltI, nI_leI, nI_eq, nI_add, pk_sub, pk_mul, pk_div, pk_rem, nI_clamp, if_pos, if_neg, ite_true, ite_false, m8, mp, mM, b2, b4, h3]
    · have ec : f_X1_takeMarked μ = jcall (f_X1_takeUnits (nI (p + 2)) (nI 1) (nI (cd (p + 1))) μ) (fun (r4 : Int32) (μ4 : jM) => some (r4, μ4)) := by
        unfold f_X1_takeMarked
        simp (disch := omega) only [jlet_e, jcall_s, jin_n, jnz_n, jbl_0, jbl_1, nI_ofNat, jl_0, jl_1, jl_2, jl_3, jl_4, jl_5, jl_8, jl_60, jl_127, jl_128, jl_240, jl_255, jl_256, jl_400, jl_1000, jl_1000000, nI_ltI, nI_leI, nI_eq, nI_add, pk_sub, pk_mul, pk_div, pk_rem, nI_clamp, if_pos, if_neg, ite_true, ite_false, c4, cp, cM, s_get (h.oc hcd) (show p < cn by omega), s_get (h.oc hcd) (show p + 1 < cn by omega)]
      have em : f_X6_openMarked ν = f_X6_openMarked_108 (nI 1) (nI (p + 2)) ν := by
        unfold f_X6_openMarked f_X6_openMarked_42 f_X6_openMarked_91
        simp (disch := omega) only [jlet_e, jcall_s, jin_n, jnz_n, jbl_0, jbl_1, nI_ofNat, jl_0, jl_1, jl_2, jl_3, jl_4, jl_5, jl_8, jl_60, jl_127, jl_128, jl_240, jl_255, jl_256, jl_400, jl_1000, jl_1000000, nI_ltI, nI_leI, nI_eq, nI_add, pk_sub, pk_mul, pk_div, pk_rem, nI_clamp, if_pos, if_neg, ite_true, ite_false, m8, mp, mM, b2, b4]
      rw [ec, em]
      unfold f_X6_openMarked_108 f_X6_fails
      rcases s_takeUnits (m := 1) hb hc hcd (show p + 2 ≤ cn by omega) (by omega) (show cd (p + 1) ≤ 255 by omega) h with ⟨q1, q2⟩ | ⟨q1, q2, q3⟩ | ⟨q1, q2, μ', q3, q4⟩
      · rw [Nat.one_mul] at q1
        refine STEP.flt (o2 := o) 2 (by omega) (by omega) h hk (by rw [q2, jcall_s]) ?_
        simp (disch := omega) only [jlet_e, jcall_s, jin_n, jnz_n, jbl_0, jbl_1, nI_ofNat, jl_0, jl_1, jl_2, jl_3, jl_4, jl_5, jl_8, jl_60, jl_127, jl_128, jl_240, jl_255, jl_256, jl_400, jl_1000, jl_1000000, nI_ltI, nI_leI, nI_eq, nI_add, pk_sub, pk_mul, pk_div, pk_rem, nI_clamp, if_pos, if_neg, ite_true, ite_false, m8, mp, mU]
      · rw [Nat.one_mul] at q1 q2
        rcases s_puts (T := cd (p + 1)) hmd q1 (by omega) (by omega) g with ⟨r1, r2⟩ | ⟨r1, -⟩
        · refine Or.inl ⟨4, μ, jsI (jsI ν 0 12 (nI 4)) 0 21 (nI p), by omega, by omega, by rw [q3, jcall_s], ?_, h.1, h.2.1, (hk.f (by omega) _).f (by omega) _, by simp (decide := true) only [jsI_s, jsI_k, jsI_c, jsI_2, jsJ_1, ne_eq, not_false_eq_true]⟩
          simp (disch := omega) only [jlet_e, jcall_s, jin_n, jnz_n, jbl_0, jbl_1, nI_ofNat, jl_0, jl_1, jl_2, jl_3, jl_4, jl_5, jl_8, jl_60, jl_127, jl_128, jl_240, jl_255, jl_256, jl_400, jl_1000, jl_1000000, nI_ltI, nI_leI, nI_eq, nI_add, pk_sub, pk_mul, pk_div, pk_rem, nI_clamp, if_pos, if_neg, ite_true, ite_false, m8, mp, mU, b4, s_157F (show p ≤ 1000 by omega) r2, jsI_k]
        · omega
      · rw [Nat.one_mul] at q1 q2 q4
        rcases s_puts (T := cd (p + 1)) hmd q1 (by omega) (by omega) g with ⟨r1, -⟩ | ⟨r1, ν', r2, r3⟩
        · omega
        · have mU' := (r3.mf hm).2.1
          refine Or.inr (Or.inr (Or.inr ⟨p + 2 + U, _, x, y, _, μ', jsI ν' 0 21 (nI (p + 2 + U)), by omega, q1, hx, by omega, by omega, by rw [q3, jcall_s], ?_, q4, r3.p⟩))
          simp (disch := omega) only [jlet_e, jcall_s, jin_n, jnz_n, jbl_0, jbl_1, nI_ofNat, jl_0, jl_1, jl_2, jl_3, jl_4, jl_5, jl_8, jl_60, jl_127, jl_128, jl_240, jl_255, jl_256, jl_400, jl_1000, jl_1000000, nI_ltI, nI_leI, nI_eq, nI_add, pk_sub, pk_mul, pk_div, pk_rem, nI_clamp, if_pos, if_neg, ite_true, ite_false, m8, mp, mU, b4, s_157T (r3.mf hm) r2]
  · have ec : f_X1_takeMarked μ = jcall (f_X1_takeUnits (nI p) (nI 1) (nI 1) μ) (fun (r4 : Int32) (μ4 : jM) => some (r4, μ4)) := by
      unfold f_X1_takeMarked
      simp (disch := omega) only [jlet_e, jcall_s, jin_n, jnz_n, jbl_0, jbl_1, nI_ofNat, jl_0, jl_1, jl_2, jl_3, jl_4, jl_5, jl_8, jl_60, jl_127, jl_128, jl_240, jl_255, jl_256, jl_400, jl_1000, jl_1000000, nI_ltI, nI_leI, nI_eq, nI_add, pk_sub, pk_mul, pk_div, pk_rem, nI_clamp, if_pos, if_neg, ite_true, ite_false, c4, cp, cM, s_get (h.oc hcd) (show p < cn by omega)]
    have em : f_X6_openMarked ν = f_X6_openMarked_108 (nI 0) (nI p) ν := by
      unfold f_X6_openMarked f_X6_openMarked_42 f_X6_openMarked_91
      simp (disch := omega) only [jlet_e, jcall_s, jin_n, jnz_n, jbl_0, jbl_1, nI_ofNat, jl_0, jl_1, jl_2, jl_3, jl_4, jl_5, jl_8, jl_60, jl_127, jl_128, jl_240, jl_255, jl_256, jl_400, jl_1000, jl_1000000, nI_ltI, nI_leI, nI_eq, nI_add, pk_sub, pk_mul, pk_div, pk_rem, nI_clamp, if_pos, if_neg, ite_true, ite_false, m8, mp, mM, b2]
    rw [ec, em]
    unfold f_X6_openMarked_108 f_X6_fails
    rcases s_takeUnits (m := 1) (T := 1) hb hc hcd (show p ≤ cn by omega) (by omega) (by omega) h with ⟨q1, q2⟩ | ⟨q1, q2, q3⟩ | ⟨q1, q2, μ', q3, q4⟩
    · rw [Nat.one_mul] at q1
      refine STEP.flt (o2 := o) 2 (by omega) (by omega) h hk (by rw [q2, jcall_s]) ?_
      simp (disch := omega) only [jlet_e, jcall_s, jin_n, jnz_n, jbl_0, jbl_1, nI_ofNat, jl_0, jl_1, jl_2, jl_3, jl_4, jl_5, jl_8, jl_60, jl_127, jl_128, jl_240, jl_255, jl_256, jl_400, jl_1000, jl_1000000, nI_ltI, nI_leI, nI_eq, nI_add, pk_sub, pk_mul, pk_div, pk_rem, nI_clamp, if_pos, if_neg, ite_true, ite_false, m8, mp, mU]
    · rw [Nat.one_mul] at q1 q2
      rcases s_puts (T := 1) hmd q1 (by omega) (by omega) g with ⟨r1, r2⟩ | ⟨r1, -⟩
      · refine Or.inl ⟨4, μ, jsI (jsI ν 0 12 (nI 4)) 0 21 (nI p), by omega, by omega, by rw [q3, jcall_s], ?_, h.1, h.2.1, (hk.f (by omega) _).f (by omega) _, by simp (decide := true) only [jsI_s, jsI_k, jsI_c, jsI_2, jsJ_1, ne_eq, not_false_eq_true]⟩
        simp (disch := omega) only [jlet_e, jcall_s, jin_n, jnz_n, jbl_0, jbl_1, nI_ofNat, jl_0, jl_1, jl_2, jl_3, jl_4, jl_5, jl_8, jl_60, jl_127, jl_128, jl_240, jl_255, jl_256, jl_400, jl_1000, jl_1000000, nI_ltI, nI_leI, nI_eq, nI_add, pk_sub, pk_mul, pk_div, pk_rem, nI_clamp, if_pos, if_neg, ite_true, ite_false, m8, mp, mU, s_157F (show p ≤ 1000 by omega) r2, jsI_k]
      · omega
    · rw [Nat.one_mul] at q1 q2 q4
      rcases s_puts (T := 1) hmd q1 (by omega) (by omega) g with ⟨r1, -⟩ | ⟨r1, ν', r2, r3⟩
      · omega
      · have mU' := (r3.mf hm).2.1
        refine Or.inr (Or.inr (Or.inr ⟨p + U, _, x, y, _, μ', jsI ν' 0 21 (nI (p + U)), by omega, q1, hx, by omega, by omega, by rw [q3, jcall_s], ?_, q4, r3.p⟩))
        simp (disch := omega) only [jlet_e, jcall_s, jin_n, jnz_n, jbl_0, jbl_1, nI_ofNat, jl_0, jl_1, jl_2, jl_3, jl_4, jl_5, jl_8, jl_60, jl_127, jl_128, jl_240, jl_255, jl_256, jl_400, jl_1000, jl_1000000, nI_ltI, nI_leI, nI_eq, nI_add, pk_sub, pk_mul, pk_div, pk_rem, nI_clamp, if_pos, if_neg, ite_true, ite_false, m8, mp, mU, s_157T (r3.mf hm) r2]
