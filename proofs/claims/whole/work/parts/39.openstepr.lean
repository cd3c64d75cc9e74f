
theorem stepR {μ0 ν0 μ ν : jM} {f U W M D cn p on x y : Nat} {cd o : Nat → Nat} (hb : CB f U W M D) (hc : CF μ0 f U W M D) (hcd : OC μ0 4 1000 cn cd) (hm : MF ν0 f U W M D) (hmd : MR ν0 8 2 1000 cn cd) (hf : f = 2) (hp : p ≤ cn) (hx : x ≤ W) (hy : y ≤ 256 * p) (hon : on ≤ (y + 1) * W) (h : CO μ0 μ p p on x y 0 o) (g : MO ν0 ν p on x y 0 o) : STEP μ0 ν0 cn W p on x y f (f_X1_takeRows μ) (f_X6_openRows ν) := by
  obtain ⟨-, hU, hW1, hW2, hM, hD, h2⟩ := id hb
  have hcn := hcd.2.1
  have c4 := (h.oc hcd).1
  have cp := h.2.1
  have m8 := (g.mr hmd).1
  have mp := g.2.1
  have hk := g.1.1
  by_cases h1 : p = cn
  · refine STEP.flt (o2 := o) 1 (by omega) (by omega) h hk ?_ ?_
    · unfold f_X1_takeRows
      simp (disch := omega) only [jlet_e, jcall_s, jin_n, jnz_n, jbl_0, jbl_1, nI_ofNat, jl_0, jl_1, jl_2, jl_3, jl_4, jl_5, jl_8, jl_60, jl_127, jl_128, jl_240, jl_255, jl_256, jl_400, jl_1000, jl_1000000, nI_ltI, nI_leI, nI_eq, nI_add, pk_sub, pk_mul, pk_div, pk_rem, nI_clamp, if_pos, if_neg, ite_true, ite_false, c4, cp]
    · unfold f_X6_openRows f_X6_fails
      simp (disch := omega) only [jlet_e, jcall_s, jin_n, jnz_n, jbl_0, jbl_1, nI_ofNat, jl_0, jl_1, jl_2, jl_3, jl_4, jl_5, jl_8, jl_60, jl_127, jl_128, jl_240, jl_255, jl_256, jl_400, jl_1000, jl_1000000, nI_ltI, nI_leI, nI_eq, nI_add, pk_sub, pk_mul, pk_div, pk_rem, nI_clamp, if_pos, if_neg, ite_true, ite_false, m8, mp]
  by_cases h3 : p + 1 = cn
  · refine STEP.flt (o2 := o) 2 (by omega) (by omega) h hk ?_ ?_
    · unfold f_X1_takeRows
      simp (disch := omega) only [jlet_e, jcall_s, jin_n, jnz_n, jbl_0, jbl_1, nI_ofNat, jl_0, jl_1, jl_2, jl_3, jl_4, jl_5, jl_8, jl_60, jl_127, jl_128, jl_240, jl_255, jl_256, jl_400, jl_1000, jl_1000000, nI_ltI, nI_leI, nI_eq, nI_add, pk_sub, pk_mul, pk_div, pk_rem, nI_clamp, if_pos, if_neg, ite_true, ite_false, c4, cp]
    · unfold f_X6_openRows f_X6_fails
      simp (disch := omega) only [jlet_e, jcall_s, jin_n, jnz_n, jbl_0, jbl_1, nI_ofNat, jl_0, jl_1, jl_2, jl_3, jl_4, jl_5, jl_8, jl_60, jl_127, jl_128, jl_240, jl_255, jl_256, jl_400, jl_1000, jl_1000000, nI_ltI, nI_leI, nI_eq, nI_add, pk_sub, pk_mul, pk_div, pk_rem, nI_clamp, if_pos, if_neg, ite_true, ite_false, m8, mp]
  obtain ⟨b1, b2⟩ := (g.mr hmd).2.2.2 p (by omega)
  obtain ⟨b3, b4⟩ := (g.mr hmd).2.2.2 (p + 1) (by omega)
  have hyW : (y + 1) * W = y * W + W := Nat.succ_mul y W
  by_cases hmany : cd p = 0
  · by_cases k0 : cd (p + 1) = 0
    · -- the row ends
      have ec : f_X1_takeRows μ = jcall (f_X1_takeRowEnd μ) (fun (r5 : Int32) (μ5 : jM) => some (r5, μ5)) := by
        unfold f_X1_takeRows
        simp (disch := omega) only [jlet_e, jcall_s, jin_n, jnz_n, jbl_0, jbl_1, nI_ofNat, jl_0, jl_1, jl_2, jl_3, jl_4, jl_5, jl_8, jl_60, jl_127, jl_128, jl_240, jl_255, jl_256, jl_400, jl_1000, jl_1000000, nI_ltI, nI_leI, nI_eq, nI_add, pk_sub, pk_mul, pk_div, pk_rem, nI_clamp, if_pos, if_neg, ite_true, ite_false, c4, cp, s_get (h.oc hcd) (show p < cn by omega), s_get (h.oc hcd) (show p + 1 < cn by omega), hmany, k0]
      have em : f_X6_openRows ν = jcall (f_X6_endRow ν) (fun (r16 : Int32) (μ16 : jM) => some (r16, μ16)) := by
        unfold f_X6_openRows
        simp (disch := omega) only [jlet_e, jcall_s, jin_n, jnz_n, jbl_0, jbl_1, nI_ofNat, jl_0, jl_1, jl_2, jl_3, jl_4, jl_5, jl_8, jl_60, jl_127, jl_128, jl_240, jl_255, jl_256, jl_400, jl_1000, jl_1000000, nI_ltI, nI_leI, nI_eq, nI_add, pk_sub, pk_mul, pk_div, pk_rem, nI_clamp, if_pos, if_neg, ite_true, ite_false, m8, mp, b2, b4, hmany, k0]
      rw [ec, em]
      unfold f_X1_takeRowEnd f_X6_endRow
      have hx0 : x + 0 ≤ W := hx
      rw [jl_0, s_rowFault hb hc hx (by omega) (by omega) h, s_rowFaultM hb hm hx (by omega) (by omega) g, if_pos hx0, if_pos hx0]
      by_cases hw : (y + 1) * W ≤ 240
      · rw [if_pos hw, if_pos hw, jcall_s, jcall_s, if_pos rfl, if_pos (by decide), s_rowIs hb hm hw hon g, jcall_s]
        unfold f_X1_countRow
        have e1 := (h.cf hc).2.2.1
        have e2 := h.2.2.2.2.1
        have hq := h.cnt hw
        have gq := g.cnt hw
        have e3 := hq.2.2.2.2.1
        have e4 := (hq.row (y' := y + 1)).col (x' := 0) |>.2.1
        have g3 := gq.2.2.2.1
        have g4 := (gq.row (y' := y + 1)).col (x' := 0) |>.2.1
        rw [e2, e1, jl_1, nI_add, pk_mul, jlet_e, jcall_s, e3, nI_add, jlet_e, jlet_e, e4, jl_2, nI_add, jlet_e, jcall_s, g3, nI_add, jlet_e, jlet_e, g4, nI_add, jlet_e, jcall_s]
        exact Or.inr (Or.inr (Or.inr ⟨p + 2, (y + 1) * W, 0, y + 1, o, _, _, by omega, by omega, by omega, by omega, fun _ => by rw [Nat.succ_mul (y + 1) W]; omega, rfl, rfl, ((hq.row).col).nx, ((gq.row).col).p⟩))
      · rw [if_neg hw, if_neg hw, jcall_s, jcall_s, if_neg (by decide), if_neg (neg10 (by omega)), jcall_s, jcall_s]
        exact STEP.flt (o2 := o) 4 (by omega) (by omega) h hk rfl rfl
    by_cases k1 : cd (p + 1) = 1
    · have ec : f_X1_takeRows μ = jcall (f_X1_takeEnd μ) (fun (r5 : Int32) (μ5 : jM) => some (r5, μ5)) := by
        unfold f_X1_takeRows
        simp (disch := omega) only [jlet_e, jcall_s, jin_n, jnz_n, jbl_0, jbl_1, nI_ofNat, jl_0, jl_1, jl_2, jl_3, jl_4, jl_5, jl_8, jl_60, jl_127, jl_128, jl_240, jl_255, jl_256, jl_400, jl_1000, jl_1000000, nI_ltI, nI_leI, nI_eq, nI_add, pk_sub, pk_mul, pk_div, pk_rem, nI_clamp, if_pos, if_neg, ite_true, ite_false, c4, cp, s_get (h.oc hcd) (show p < cn by omega), s_get (h.oc hcd) (show p + 1 < cn by omega), hmany, k1]
      have em : f_X6_openRows ν = some (nI 0, jsI (jsI ν 0 21 (nI (p + 2))) 0 24 (nI 1)) := by
        unfold f_X6_openRows f_X6_endAll
        simp (disch := omega) only [jlet_e, jcall_s, jin_n, jnz_n, jbl_0, jbl_1, nI_ofNat, jl_0, jl_1, jl_2, jl_3, jl_4, jl_5, jl_8, jl_60, jl_127, jl_128, jl_240, jl_255, jl_256, jl_400, jl_1000, jl_1000000, nI_ltI, nI_leI, nI_eq, nI_add, pk_sub, pk_mul, pk_div, pk_rem, nI_clamp, if_pos, if_neg, ite_true, ite_false, m8, mp, b2, b4, hmany, k1]
      rw [ec, em]
      rcases s_takeEnd hcd (by omega) h with ⟨q1, q2⟩ | ⟨q1, q2⟩
      · exact Or.inr (Or.inl ⟨p + 2, _, _, q1, by rw [q2, jcall_s], rfl, (h.pl (pl' := p + 2)).1, jsI_s _ _ _ _, (hk.f (by omega) _).f (by omega) _, by simp (decide := true) only [jsI_s, jsI_k, jsI_c, jsI_2, jsJ_1, ne_eq, not_false_eq_true], jsI_s _ _ _ _⟩)
      · exact Or.inr (Or.inr (Or.inl ⟨p, p, p + 2, o, _, _, by omega, by omega, by rw [q2, jcall_s], rfl, h.en, g.p.en⟩))
    by_cases k2 : cd (p + 1) = 2
    · have ec : f_X1_takeRows μ = jcall (f_X1_takeGoingOn μ) (fun (r5 : Int32) (μ5 : jM) => some (r5, μ5)) := by
        unfold f_X1_takeRows
        simp (disch := omega) only [jlet_e, jcall_s, jin_n, jnz_n, jbl_0, jbl_1, nI_ofNat, jl_0, jl_1, jl_2, jl_3, jl_4, jl_5, jl_8, jl_60, jl_127, jl_128, jl_240, jl_255, jl_256, jl_400, jl_1000, jl_1000000, nI_ltI, nI_leI, nI_eq, nI_add, pk_sub, pk_mul, pk_div, pk_rem, nI_clamp, if_pos, if_neg, ite_true, ite_false, c4, cp, s_get (h.oc hcd) (show p < cn by omega), s_get (h.oc hcd) (show p + 1 < cn by omega), hmany, k2]
      have em : f_X6_openRows ν = jcall (f_X6_goOn ν) (fun (r16 : Int32) (μ16 : jM) => some (r16, μ16)) := by
        unfold f_X6_openRows
        simp (disch := omega) only [jlet_e, jcall_s, jin_n, jnz_n, jbl_0, jbl_1, nI_ofNat, jl_0, jl_1, jl_2, jl_3, jl_4, jl_5, jl_8, jl_60, jl_127, jl_128, jl_240, jl_255, jl_256, jl_400, jl_1000, jl_1000000, nI_ltI, nI_leI, nI_eq, nI_add, pk_sub, pk_mul, pk_div, pk_rem, nI_clamp, if_pos, if_neg, ite_true, ite_false, m8, mp, b2, b4, hmany, k2]
      rw [ec, em]
      unfold f_X1_takeGoingOn f_X6_goOn f_X6_fails
      have e1 := (h.cf hc).2.2.1
      have e2 := h.2.2.2.2.1
      have e3 := h.2.2.2.2.2.1
      have g1 := (g.mf hm).2.2.1
      have g2 := g.2.2.2.1
      have g3 := g.2.2.2.2.1
      by_cases q4 : p + 4 ≤ cn
      · obtain ⟨b5, b6⟩ := (g.mr hmd).2.2.2 (p + 2) (by omega)
        obtain ⟨b7, b8⟩ := (g.mr hmd).2.2.2 (p + 3) (by omega)
        by_cases q5 : x + cd (p + 2) ≤ W
        · have hq := h.col (x' := x + cd (p + 2))
          have gq := g.col (x' := x + cd (p + 2))
          have hq2 := hq.row (y' := y + cd (p + 3))
          have gq2 := gq.row (y' := y + cd (p + 3))
          have f1 := hq.2.1
          have f2 := hq.2.2.2.2.1
          have f3 := hq2.2.1
          have u1 := gq.2.1
          have u2 := gq.2.2.2.1
          have u3 := gq2.2.1
          have u4 := ((gq.mr hmd).2.2.2 (p + 3) (by omega)).2
          refine Or.inr (Or.inr (Or.inr ⟨p + 4, on, x + cd (p + 2), y + cd (p + 3), o, _, _, by omega, by omega, q5, by omega, fun _ => ?_, ?_, ?_, hq2.nx, gq2.p⟩))
          · have : (y + 1) * W ≤ (y + cd (p + 3) + 1) * W := Nat.mul_le_mul_right W (by omega)
            omega
          · simp (disch := omega) only [jlet_e, jcall_s, jin_n, jnz_n, jbl_0, jbl_1, nI_ofNat, jl_0, jl_1, jl_2, jl_3, jl_4, jl_5, jl_8, jl_60, jl_127, jl_128, jl_240, jl_255, jl_256, jl_400, jl_1000, jl_1000000, nI_ltI, nI_leI, nI_eq, nI_add, pk_sub, pk_mul, pk_div, pk_rem, nI_clamp, if_pos, if_neg, ite_true, ite_false, c4, cp, e1, e2, e3, s_get (h.oc hcd) (show p + 2 < cn by omega), s_get (hq.oc hcd) (show p + 3 < cn by omega), f1, f2, f3]
          · simp (disch := omega) only [jlet_e, jcall_s, jin_n, jnz_n, jbl_0, jbl_1, nI_ofNat, jl_0, jl_1, jl_2, jl_3, jl_4, jl_5, jl_8, jl_60, jl_127, jl_128, jl_240, jl_255, jl_256, jl_400, jl_1000, jl_1000000, nI_ltI, nI_leI, nI_eq, nI_add, pk_sub, pk_mul, pk_div, pk_rem, nI_clamp, if_pos, if_neg, ite_true, ite_false, m8, mp, g1, g2, g3, b6, b8, u1, u2, u3, u4]
        · refine STEP.flt (o2 := o) 3 (by omega) (by omega) h hk ?_ ?_
          · simp (disch := omega) only [jlet_e, jcall_s, jin_n, jnz_n, jbl_0, jbl_1, nI_ofNat, jl_0, jl_1, jl_2, jl_3, jl_4, jl_5, jl_8, jl_60, jl_127, jl_128, jl_240, jl_255, jl_256, jl_400, jl_1000, jl_1000000, nI_ltI, nI_leI, nI_eq, nI_add, pk_sub, pk_mul, pk_div, pk_rem, nI_clamp, if_pos, if_neg, ite_true, ite_false, c4, cp, e1, e2, e3, s_get (h.oc hcd) (show p + 2 < cn by omega)]
          · simp (disch := omega) only [jlet_e, jcall_s, jin_n, jnz_n, jbl_0, jbl_1, nI_ofNat, jl_0, jl_1, jl_2, jl_3, jl_4, jl_5, jl_8, jl_60, jl_127, jl_128, jl_240, jl_255, jl_256, jl_400, jl_1000, jl_1000000, nI_ltI, nI_leI, nI_eq, nI_add, pk_sub, pk_mul, pk_div, pk_rem, nI_clamp, if_pos, if_neg, ite_true, ite_false, m8, mp, g1, g2, g3, b6]
      · refine STEP.flt (o2 := o) 2 (by omega) (by omega) h hk ?_ ?_
        · simp (disch := omega) only [jlet_e, jcall_s, jin_n, jnz_n, jbl_0, jbl_1, nI_ofNat, jl_0, jl_1, jl_2, jl_3, jl_4, jl_5, jl_8, jl_60, jl_127, jl_128, jl_240, jl_255, jl_256, jl_400, jl_1000, jl_1000000, nI_ltI, nI_leI, nI_eq, nI_add, pk_sub, pk_mul, pk_div, pk_rem, nI_clamp, if_pos, if_neg, ite_true, ite_false, c4, cp]
        · simp (disch := omega) only [jlet_e, jcall_s, jin_n, jnz_n, jbl_0, jbl_1, nI_ofNat, jl_0, jl_1, jl_2, jl_3, jl_4, jl_5, jl_8, jl_60, jl_127, jl_128, jl_240, jl_255, jl_256, jl_400, jl_1000, jl_1000000, nI_ltI, nI_leI, nI_eq, nI_add, pk_sub, pk_mul, pk_div, pk_rem, nI_clamp, if_pos, if_neg, ite_true, ite_false, m8, mp]
    · -- bytes
      have ec : f_X1_takeRows μ = jcall (f_X1_takeRowBytes (nI (cd (p + 1))) μ) (fun (r5 : Int32) (μ5 : jM) => some (r5, μ5)) := by
        unfold f_X1_takeRows
        simp (disch := omega) only [jlet_e, jcall_s, jin_n, jnz_n, jbl_0, jbl_1, nI_ofNat, jl_0, jl_1, jl_2, jl_3, jl_4, jl_5, jl_8, jl_60, jl_127, jl_128, jl_240, jl_255, jl_256, jl_400, jl_1000, jl_1000000, nI_ltI, nI_leI, nI_eq, nI_add, pk_sub, pk_mul, pk_div, pk_rem, nI_clamp, if_pos, if_neg, ite_true, ite_false, c4, cp, s_get (h.oc hcd) (show p < cn by omega), s_get (h.oc hcd) (show p + 1 < cn by omega), hmany]
      have em : f_X6_openRows ν = jcall (f_X6_bytes (nI (cd (p + 1))) ν) (fun (r16 : Int32) (μ16 : jM) => some (r16, μ16)) := by
        unfold f_X6_openRows
        simp (disch := omega) only [jlet_e, jcall_s, jin_n, jnz_n, jbl_0, jbl_1, nI_ofNat, jl_0, jl_1, jl_2, jl_3, jl_4, jl_5, jl_8, jl_60, jl_127, jl_128, jl_240, jl_255, jl_256, jl_400, jl_1000, jl_1000000, nI_ltI, nI_leI, nI_eq, nI_add, pk_sub, pk_mul, pk_div, pk_rem, nI_clamp, if_pos, if_neg, ite_true, ite_false, m8, mp, b2, b4, hmany]
      rw [ec, em]
      generalize hn : cd (p + 1) = n at *
      have hn2 : n % 2 < 2 := Nat.mod_lt _ (by omega)
      unfold f_X1_takeRowBytes f_X6_bytes f_X6_fails
      rw [jlet_e, jl_1, nI_and1 (by omega), jl_2, nI_add, nI_add, jnz_n (y := 2) (by omega) (by omega), jlet_e, mp, nI_rem2 (by omega), nI_add, nI_add, nI_add, c4, cp, m8, pk_sub (by omega)]
      by_cases q4 : p + 2 + n + n % 2 ≤ cn
      · rw [if_pos (by rw [nI_leI (by omega) (by omega)]; omega), if_pos (by rw [nI_leI (by omega) (by omega)]; omega), s_rowFault hb hc hx (by omega) (by omega) h, s_rowFaultM hb hm hx (by omega) (by omega) g]
        by_cases q5 : x + n ≤ W
        · rw [if_pos q5, if_pos q5]
          by_cases hw : (y + 1) * W ≤ 240
          · rw [if_pos hw, if_pos hw, jcall_s, jcall_s, jl_0, if_pos rfl, if_pos (by decide)]
            obtain ⟨μ', e1, f1⟩ := s_rowBytes (p := p) (y := y) (L := 2 + n + n % 2) (n := n) (o := o) (x0 := x) hb hc hcd q5 hw (by omega) (by omega) n jFU 0 on μ (by unfold jFU; omega) (by omega) (by simpa [ov_0] using h) (by omega)
            obtain ⟨ν', e2, f2⟩ := s_rowBytesM (p := p) (y := y) (L := p + 2 + n + n % 2) (n := n) (o := o) (x := x) hb hm hmd q5 hw hon (by omega) n jFU 0 ν (by unfold jFU; omega) (by omega) (by simpa [ov_0] using g)
            rw [e1, e2, jcall_s, jcall_s]
            exact Or.inr (Or.inr (Or.inr ⟨p + 2 + n + n % 2, (y + 1) * W, x + n, y, _, _, _, by omega, by omega, q5, by omega, fun _ => Nat.le_refl _, rfl, rfl, by rw [show p + 2 + n + n % 2 = p + (2 + n + n % 2) by omega]; exact f1, f2⟩))
          · rw [if_neg hw, if_neg hw, jcall_s, jcall_s, jl_0, if_neg (by decide), if_neg (neg10 (by omega)), jcall_s, jcall_s]
            exact STEP.flt (o2 := o) 4 (by omega) (by omega) h hk rfl rfl
        · rw [if_neg q5, if_neg q5, jcall_s, jcall_s, jl_0, if_neg (by decide), if_neg (neg10 (by omega)), jcall_s, jcall_s]
          exact STEP.flt (o2 := o) 3 (by omega) (by omega) h hk rfl rfl
      · rw [if_neg (by rw [nI_leI (by omega) (by omega)]; omega), if_neg (by rw [nI_leI (by omega) (by omega)]; omega), jlet_e, jcall_s, jcall_s, jcall_s]
        exact STEP.flt (o2 := o) 2 (by omega) (by omega) h hk rfl rfl
  · -- a run
    have ec : f_X1_takeRows μ = jcall (f_X1_takeRowRun (nI (cd p)) (nI (cd (p + 1))) μ) (fun (r5 : Int32) (μ5 : jM) => some (r5, μ5)) := by
      unfold f_X1_takeRows
      simp (disch := omega) only [jlet_e, jcall_s, jin_n, jnz_n, jbl_0, jbl_1, nI_ofNat, jl_0, jl_1, jl_2, jl_3, jl_4, jl_5, jl_8, jl_60, jl_127, jl_128, jl_240, jl_255, jl_256, jl_400, jl_1000, jl_1000000, nI_ltI, nI_leI, nI_eq, nI_add, pk_sub, pk_mul, pk_div, pk_rem, nI_clamp, if_pos, if_neg, ite_true, ite_false, c4, cp, s_get (h.oc hcd) (show p < cn by omega), s_get (h.oc hcd) (show p + 1 < cn by omega)]
    have em : f_X6_openRows ν = jcall (f_X6_rowFaults (nI (cd p)) ν) (fun (r18 : Int32) (μ18 : jM) => if (nI 0 : Int32) ≤ r18 then (f_X6_openRows_85 jFU (nI (cd p)) (nI (cd (p + 1))) (nI 0) μ18) else (some (r18, μ18))) := by
      unfold f_X6_openRows
      simp (disch := omega) only [jlet_e, jcall_s, jin_n, jnz_n, jbl_0, jbl_1, nI_ofNat, jl_0, jl_1, jl_2, jl_3, jl_4, jl_5, jl_8, jl_60, jl_127, jl_128, jl_240, jl_255, jl_256, jl_400, jl_1000, jl_1000000, nI_ltI, nI_leI, nI_eq, nI_add, pk_sub, pk_mul, pk_div, pk_rem, nI_clamp, if_pos, if_neg, ite_true, ite_false, m8, mp, b2, b4]
    rw [ec, em]
    generalize hn : cd p = n at *
    unfold f_X1_takeRowRun
    rw [s_rowFault hb hc hx (by omega) (by omega) h, s_rowFaultM hb hm hx (by omega) (by omega) g]
    by_cases q5 : x + n ≤ W
    · rw [if_pos q5, if_pos q5]
      by_cases hw : (y + 1) * W ≤ 240
      · rw [if_pos hw, if_pos hw, jcall_s, jcall_s, jl_0, if_pos rfl, if_pos (by decide)]
        obtain ⟨μ', e1, f1⟩ := s_rowRun (p := p) (y := y) (n := n) (o := o) (x0 := x) hb hc q5 hw b3 (by omega) n jFU 0 on μ (by unfold jFU; omega) (by omega) (by simpa [ov_0] using h) (by omega)
        obtain ⟨ν', e2, f2⟩ := s_rowRunM (p := p) (y := y) (n := n) (o := o) (x := x) hb hm q5 hw hon b3 (by omega) n jFU 0 ν (by unfold jFU; omega) (by omega) (by simpa [ov_0] using g)
        rw [e1, e2, jcall_s]
        exact Or.inr (Or.inr (Or.inr ⟨p + 2, (y + 1) * W, x + n, y, _, _, _, by omega, by omega, q5, by omega, fun _ => Nat.le_refl _, rfl, rfl, f1, f2⟩))
      · rw [if_neg hw, if_neg hw, jcall_s, jcall_s, jl_0, if_neg (by decide), if_neg (neg10 (by omega)), jcall_s]
        exact STEP.flt (o2 := o) 4 (by omega) (by omega) h hk rfl rfl
    · rw [if_neg q5, if_neg q5, jcall_s, jcall_s, jl_0, if_neg (by decide), if_neg (neg10 (by omega)), jcall_s]
      exact STEP.flt (o2 := o) 3 (by omega) (by omega) h hk rfl rfl
