/-! open: the class's side -/
def CO (μ0 μ : jM) (pl p on x y en : Nat) (o : Nat → Nat) : Prop := Fr [14, 15, 16] μ0 μ ∧ μ.1 14 4 = nI pl ∧ μ.1 14 5 = nI p ∧ μ.1 14 6 = nI en ∧ μ.1 14 7 = nI y ∧ μ.1 14 8 = nI x ∧ μ.1 15 1 = nI on ∧ on ≤ 240 ∧ ∀ i, i < 240 → o i < 256 ∧ μ.1 16 i = jb (o i)
theorem CO.cf {μ0 μ : jM} {pl p on x y en f U W M D : Nat} {o : Nat → Nat} (h : CO μ0 μ pl p on x y en o) (hc : CF μ0 f U W M D) : CF μ f U W M D := hc.of (h.1.1 1 (by decide))
theorem CO.oc {μ0 μ : jM} {pl p on x y en cn : Nat} {o cd : Nat → Nat} (h : CO μ0 μ pl p on x y en o) (hc : OC μ0 4 1000 cn cd) : OC μ 4 1000 cn cd := OC_of hc (h.1.1 4 (by decide)) (h.1.1 5 (by decide))
theorem CO.op {μ0 μ : jM} {pl p on x y en : Nat} {o : Nat → Nat} (h : CO μ0 μ pl p on x y en o) : OC μ 15 240 on o := ⟨h.2.2.2.2.2.2.1, h.2.2.2.2.2.2.2.1, by omega, fun i hi => h.2.2.2.2.2.2.2.2 i (by have := h.2.2.2.2.2.2.2.1; omega)⟩
/-- after c bytes of a repeated stretch -/
def pu (o : Nat → Nat) (on fr b : Nat) (cd : Nat → Nat) (c : Nat) : Nat → Nat := fun i => if on ≤ i ∧ i < on + c then cd (fr + (i - on) % b) else o i
theorem pu_0 (o : Nat → Nat) (on fr b : Nat) (cd : Nat → Nat) : pu o on fr b cd 0 = o := by
  funext i
  unfold pu
  rw [if_neg (by omega)]
theorem pu_s (o : Nat → Nat) (on fr b : Nat) (cd : Nat → Nat) (t k : Nat) (hk : k < b) (i : Nat) : pu o on fr b cd (t * b + k + 1) i = if i = on + (t * b + k) then cd (fr + k) else pu o on fr b cd (t * b + k) i := by
  unfold pu
  by_cases h : i = on + (t * b + k)
  · subst h
    rw [if_pos (by omega), if_pos rfl, show on + (t * b + k) - on = t * b + k by omega, Nat.mul_comm t b, Nat.mul_add_mod, Nat.mod_eq_of_lt hk]
  · rw [if_neg h]
    by_cases h2 : on ≤ i ∧ i < on + (t * b + k)
    · rw [if_pos h2, if_pos (by omega)]
    · rw [if_neg h2, if_neg (by omega)]
theorem CO_add {μ0 μ : jM} {pl p on x y en v : Nat} {o o' : Nat → Nat} (h : CO μ0 μ pl p on x y en o) (hn : on < 240) (hv : v < 256) (ho : ∀ i, o' i = if i = on then v else o i) : f_X0_add 15 240 (nI v) μ = some ((), jsI (jsI μ 16 on (jb v)) 15 1 (nI (on + 1))) ∧ CO μ0 (jsI (jsI μ 16 on (jb v)) 15 1 (nI (on + 1))) pl p (on + 1) x y en o' := by
  refine ⟨s_add h.op hn (nI v), ?_⟩
  obtain ⟨h0, h1, h2, h3, h4, h5, h6, h7, h8⟩ := h
  refine ⟨h0.tr ((Fr.I _ _ _ (by decide)).tr (Fr.I _ _ _ (by decide))), ?_, ?_, ?_, ?_, ?_, jsI_s _ _ _ _, hn, fun i hi => ?_⟩
  · simp (decide := true) only [jsI_s, jsI_k, jsI_c, jsI_2, jsJ_1, ne_eq, not_false_eq_true, h1]
  · simp (decide := true) only [jsI_s, jsI_k, jsI_c, jsI_2, jsJ_1, ne_eq, not_false_eq_true, h2]
  · simp (decide := true) only [jsI_s, jsI_k, jsI_c, jsI_2, jsJ_1, ne_eq, not_false_eq_true, h3]
  · simp (decide := true) only [jsI_s, jsI_k, jsI_c, jsI_2, jsJ_1, ne_eq, not_false_eq_true, h4]
  · simp (decide := true) only [jsI_s, jsI_k, jsI_c, jsI_2, jsJ_1, ne_eq, not_false_eq_true, h5]
  · rw [ho i, jsI_c _ _ _ (by decide)]
    by_cases hin : i = on
    · rw [if_pos hin, hin, jsI_s]
      exact ⟨hv, rfl⟩
    · rw [if_neg hin, jsI_k _ _ hin]
      exact h8 i hi
theorem s_tu55 {μ0 : jM} {cn fr b T t pl p x y en on0 : Nat} {cd o : Nat → Nat} (hcd : OC μ0 4 1000 cn cd) (hfr : fr + b ≤ cn) (ht : on0 + (t * b + b) ≤ 240) (K : Int32 → Int32 → Int32 → Int32 → jM → Option (Int32 × jM)) (hT : t < 1000) :
    ∀ (j fu k : Nat) (μ : jM), j < fu → k + j = b → CO μ0 μ pl p (on0 + (t * b + k)) x y en (pu o on0 fr b cd (t * b + k)) → ∃ μ', f_X1_takeUnits_55 K fu (nI fr) (nI T) (nI b) (nI t) (nI k) μ = K (nI fr) (nI T) (nI b) (nI (t + 1)) μ' ∧ CO μ0 μ' pl p (on0 + (t * b + b)) x y en (pu o on0 fr b cd (t * b + b)) := by
  have hcn := hcd.2.1
  intro j
  induction j with
  | zero =>
    intro fu k μ hf hk h
    obtain ⟨fu, rfl⟩ : ∃ g, fu = g + 1 := ⟨fu - 1, by omega⟩
    obtain rfl : k = b := by omega
    refine ⟨μ, ?_, h⟩
    rw [f_X1_takeUnits_55.eq_2]
    simp (disch := omega) only [jlet_e, jcall_s, jin_n, jnz_n, jbl_0, jbl_1, nI_ofNat, jl_0, jl_1, jl_2, jl_3, jl_4, jl_5, jl_8, jl_60, jl_127, jl_128, jl_240, jl_255, jl_256, jl_400, jl_1000, jl_1000000, nI_ltI, nI_leI, nI_eq, nI_add, pk_sub, pk_mul, pk_div, pk_rem, nI_clamp, if_pos, if_neg, ite_true, ite_false]
  | succ j ih =>
    intro fu k μ hf hk h
    obtain ⟨fu, rfl⟩ : ∃ g, fu = g + 1 := ⟨fu - 1, by omega⟩
    have hv := (hcd.2.2.2 (fr + k) (by omega)).1
    obtain ⟨ea, h'⟩ := CO_add h (v := cd (fr + k)) (by omega) hv (fun i => pu_s o on0 fr b cd t k (by omega) i)
    obtain ⟨μ', e, h''⟩ := ih fu (k + 1) _ (by omega) (by omega) h'
    refine ⟨μ', ?_, h''⟩
    rw [f_X1_takeUnits_55.eq_2]
    simp (disch := omega) only [jlet_e, jcall_s, jin_n, jnz_n, jbl_0, jbl_1, nI_ofNat, jl_0, jl_1, jl_2, jl_3, jl_4, jl_5, jl_8, jl_60, jl_127, jl_128, jl_240, jl_255, jl_256, jl_400, jl_1000, jl_1000000, nI_ltI, nI_leI, nI_eq, nI_add, pk_sub, pk_mul, pk_div, pk_rem, nI_clamp, if_pos, if_neg, ite_true, ite_false, s_get (h.oc hcd) (show fr + k < cn by omega), ea]
    exact e
theorem s_tu46 {μ0 : jM} {cn fr b T pl p x y en on0 : Nat} {cd o : Nat → Nat} (hcd : OC μ0 4 1000 cn cd) (hfr : fr + b ≤ cn) (hb : 0 < b) (ht : on0 + T * b ≤ 240) (hT : T < 1000) :
    ∀ (j fu t : Nat) (μ : jM), j < fu → t + j = T → CO μ0 μ pl p (on0 + t * b) x y en (pu o on0 fr b cd (t * b)) → ∃ μ', f_X1_takeUnits_46 fu (nI fr) (nI T) (nI b) (nI t) μ = some (nI 0, μ') ∧ CO μ0 μ' pl (fr + b) (on0 + T * b) x y en (pu o on0 fr b cd (T * b)) := by
  have hcn := hcd.2.1
  intro j
  induction j with
  | zero =>
    intro fu t μ hf hk h
    obtain ⟨fu, rfl⟩ : ∃ g, fu = g + 1 := ⟨fu - 1, by omega⟩
    obtain rfl : t = T := by omega
    refine ⟨jsI μ 14 5 (nI (fr + b)), ?_, ?_⟩
    · rw [f_X1_takeUnits_46.eq_2]
      simp (disch := omega) only [jlet_e, jcall_s, jin_n, jnz_n, jbl_0, jbl_1, nI_ofNat, jl_0, jl_1, jl_2, jl_3, jl_4, jl_5, jl_8, jl_60, jl_127, jl_128, jl_240, jl_255, jl_256, jl_400, jl_1000, jl_1000000, nI_ltI, nI_leI, nI_eq, nI_add, pk_sub, pk_mul, pk_div, pk_rem, nI_clamp, if_pos, if_neg, ite_true, ite_false]
    · obtain ⟨h0, h1, h2, h3, h4, h5, h6, h7, h8⟩ := h
      refine ⟨h0.tr (Fr.I _ _ _ (by decide)), ?_, jsI_s _ _ _ _, ?_, ?_, ?_, ?_, h7, fun i hi => ?_⟩
      · simp (decide := true) only [jsI_s, jsI_k, jsI_c, jsI_2, jsJ_1, ne_eq, not_false_eq_true, h1]
      · simp (decide := true) only [jsI_s, jsI_k, jsI_c, jsI_2, jsJ_1, ne_eq, not_false_eq_true, h3]
      · simp (decide := true) only [jsI_s, jsI_k, jsI_c, jsI_2, jsJ_1, ne_eq, not_false_eq_true, h4]
      · simp (decide := true) only [jsI_s, jsI_k, jsI_c, jsI_2, jsJ_1, ne_eq, not_false_eq_true, h5]
      · simp (decide := true) only [jsI_s, jsI_k, jsI_c, jsI_2, jsJ_1, ne_eq, not_false_eq_true, h6]
      · rw [jsI_c _ _ _ (by decide)]; exact h8 i hi
  | succ j ih =>
    intro fu t μ hf hk h
    obtain ⟨fu, rfl⟩ : ∃ g, fu = g + 1 := ⟨fu - 1, by omega⟩
    have hm : (t + 1) * b = t * b + b := Nat.succ_mul t b
    have hm2 : (t + 1) * b ≤ T * b := Nat.mul_le_mul_right b (by omega)
    obtain ⟨μ1, e1, h1⟩ := s_tu55 (T := T) (o := o) (on0 := on0) (t := t) hcd hfr (by omega) (fun x1 x3 x4 x5 μ => f_X1_takeUnits_46 fu x1 x3 x4 x5 μ) (by omega) b jFU 0 μ (by unfold jFU; omega) (by omega) (by simpa using h)
    obtain ⟨μ', e, h'⟩ := ih fu (t + 1) μ1 (by omega) (by omega) (by rw [hm]; exact h1)
    refine ⟨μ', ?_, h'⟩
    rw [f_X1_takeUnits_46.eq_2]
    simp (disch := omega) only [jlet_e, jcall_s, jin_n, jnz_n, jbl_0, jbl_1, nI_ofNat, jl_0, jl_1, jl_2, jl_3, jl_4, jl_5, jl_8, jl_60, jl_127, jl_128, jl_240, jl_255, jl_256, jl_400, jl_1000, jl_1000000, nI_ltI, nI_leI, nI_eq, nI_add, pk_sub, pk_mul, pk_div, pk_rem, nI_clamp, if_pos, if_neg, ite_true, ite_false]
    rw [e1]
    exact e
/-- what taking units does: LACKS, ROOM, or the bytes are put -/
theorem s_takeUnits {μ0 μ : jM} {f U W M D cn fr m T pl p x y en on : Nat} {cd o : Nat → Nat} (hb : CB f U W M D) (hc : CF μ0 f U W M D) (hcd : OC μ0 4 1000 cn cd) (hfr : fr ≤ cn) (hm : 1 ≤ m ∧ m ≤ 128) (hT : T ≤ 255) (h : CO μ0 μ pl p on x y en o) :
    (cn < fr + m * U ∧ f_X1_takeUnits (nI fr) (nI m) (nI T) μ = some (nI 2, μ)) ∨ (fr + m * U ≤ cn ∧ 240 < on + T * (m * U) ∧ f_X1_takeUnits (nI fr) (nI m) (nI T) μ = some (nI 4, μ)) ∨ (fr + m * U ≤ cn ∧ on + T * (m * U) ≤ 240 ∧ ∃ μ', f_X1_takeUnits (nI fr) (nI m) (nI T) μ = some (nI 0, μ') ∧ CO μ0 μ' pl (fr + m * U) (on + T * (m * U)) x y en (pu o on fr (m * U) cd (T * (m * U)))) := by
  have hcn := hcd.2.1
  have hU := hb.2.1
  have h1 := (h.cf hc).2.1
  have h2 := (h.oc hcd).1
  have hmU : m * U ≤ 512 := Nat.le_trans (Nat.mul_le_mul hm.2 (show U ≤ 4 by omega)) (by omega)
  have hmU0 : 0 < m * U := Nat.mul_pos (by omega) (by omega)
  have hTm : T * (m * U) ≤ 255 * 512 := Nat.mul_le_mul hT hmU
  have hTc : m * U * T = T * (m * U) := Nat.mul_comm _ _
  have hon := h.2.2.2.2.2.2.2.1
  unfold f_X1_takeUnits
  generalize hbe : m * U = b at hmU hmU0 hTm hTc ⊢
  by_cases hl : fr + b ≤ cn
  · by_cases hr : on + T * b ≤ 240
    · right; right
      obtain ⟨μ', e, h'⟩ := s_tu46 (T := T) (o := o) (on0 := on) hcd hl hmU0 hr (by omega) T jFU 0 μ (by unfold jFU; omega) (by omega) (by simpa [pu_0] using h)
      refine ⟨hl, hr, μ', ?_, h'⟩
      simp (disch := omega) only [jlet_e, jcall_s, jin_n, jnz_n, jbl_0, jbl_1, nI_ofNat, jl_0, jl_1, jl_2, jl_3, jl_4, jl_5, jl_8, jl_60, jl_127, jl_128, jl_240, jl_255, jl_256, jl_400, jl_1000, jl_1000000, nI_ltI, nI_leI, nI_eq, nI_add, pk_sub, pk_mul, pk_div, pk_rem, nI_clamp, if_pos, if_neg, ite_true, ite_false, h1, h2, hbe, hTc]
      rw [s_hasRoom h.op (by omega)]
      simp (disch := omega) only [jlet_e, jcall_s, jin_n, jnz_n, jbl_0, jbl_1, nI_ofNat, jl_0, jl_1, jl_2, jl_3, jl_4, jl_5, jl_8, jl_60, jl_127, jl_128, jl_240, jl_255, jl_256, jl_400, jl_1000, jl_1000000, nI_ltI, nI_leI, nI_eq, nI_add, pk_sub, pk_mul, pk_div, pk_rem, nI_clamp, if_pos, if_neg, ite_true, ite_false]
      exact e
    · right; left
      refine ⟨hl, by omega, ?_⟩
      simp (disch := omega) only [jlet_e, jcall_s, jin_n, jnz_n, jbl_0, jbl_1, nI_ofNat, jl_0, jl_1, jl_2, jl_3, jl_4, jl_5, jl_8, jl_60, jl_127, jl_128, jl_240, jl_255, jl_256, jl_400, jl_1000, jl_1000000, nI_ltI, nI_leI, nI_eq, nI_add, pk_sub, pk_mul, pk_div, pk_rem, nI_clamp, if_pos, if_neg, ite_true, ite_false, h1, h2, hbe, hTc]
      by_cases hj : T * b ≤ 70000
      · rw [s_hasRoom h.op hj]
        simp (disch := omega) only [jlet_e, jcall_s, jin_n, jnz_n, jbl_0, jbl_1, nI_ofNat, jl_0, jl_1, jl_2, jl_3, jl_4, jl_5, jl_8, jl_60, jl_127, jl_128, jl_240, jl_255, jl_256, jl_400, jl_1000, jl_1000000, nI_ltI, nI_leI, nI_eq, nI_add, pk_sub, pk_mul, pk_div, pk_rem, nI_clamp, if_pos, if_neg, ite_true, ite_false]
      · obtain ⟨g1, g2, g3, g4⟩ := h.op
        unfold f_X0_hasRoom
        simp (disch := omega) only [jlet_e, jcall_s, jin_n, jnz_n, jbl_0, jbl_1, nI_ofNat, jl_0, jl_1, jl_2, jl_3, jl_4, jl_5, jl_8, jl_60, jl_127, jl_128, jl_240, jl_255, jl_256, jl_400, jl_1000, jl_1000000, nI_ltI, nI_leI, nI_eq, nI_add, pk_sub, pk_mul, pk_div, pk_rem, nI_clamp, if_pos, if_neg, ite_true, ite_false, g1]
  · left
    refine ⟨by omega, ?_⟩
    simp (disch := omega) only [jlet_e, jcall_s, jin_n, jnz_n, jbl_0, jbl_1, nI_ofNat, jl_0, jl_1, jl_2, jl_3, jl_4, jl_5, jl_8, jl_60, jl_127, jl_128, jl_240, jl_255, jl_256, jl_400, jl_1000, jl_1000000, nI_ltI, nI_leI, nI_eq, nI_add, pk_sub, pk_mul, pk_div, pk_rem, nI_clamp, if_pos, if_neg, ite_true, ite_false, h1, h2, hbe]
