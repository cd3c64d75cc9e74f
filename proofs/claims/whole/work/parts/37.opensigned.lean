theorem jb_lo : ∀ v, v < 128 → jb v = nI v := by decide +kernel
theorem jb_128 : jb 128 = -128 := by decide +kernel
theorem jb_hi : ∀ v, v < 256 → 128 < v → (¬ jb v = -128 ∧ jb v < 0 ∧ ¬ 0 ≤ jb v ∧ 1 - jb v = nI (257 - v)) := by decide +kernel
theorem jb_sub : ∀ v, v < 256 → 128 ≤ v → nI v - 256 = jb v := by decide +kernel
theorem nI_n128 : ∀ v, v < 128 → ¬ nI v = -128 ∧ ¬ nI v < 0 ∧ 0 ≤ nI v := by decide +kernel
theorem s_141F {ν ν1 : jM} {p : Nat} {x2 s0 s1 s2 : Int32} (hp : p ≤ 1000) (r2 : f_X6_puts s2 s1 s0 ν = some (-10 - nI p, ν1)) : f_X6_openSigned_141 x2 s0 s1 s2 ν = some (-10 - nI p, jsI ν1 0 21 (ν1.1 0 21)) := by
  unfold f_X6_openSigned_141 f_X6_openSigned_165
  rw [r2, jcall_s, jl_0, if_neg (neg10 hp), jlet_e]
theorem s_141T {ν ν1 : jM} {p b : Nat} {s0 s1 s2 : Int32} (hm : ν1.1 0 21 = nI p) (r2 : f_X6_puts s2 s1 s0 ν = some (nI 0, ν1)) : f_X6_openSigned_141 (nI b) s0 s1 s2 ν = some (nI 0, jsI ν1 0 21 (nI (p + 1 + b))) := by
  unfold f_X6_openSigned_141 f_X6_openSigned_165
  rw [r2, jcall_s, jl_0, if_pos (by decide), jlet_e, hm, jl_1, nI_add, nI_add]
/-- a piece of units, taken by both -/
theorem stepU {μ0 ν0 μ ν : jM} {f U W M D cn p on x y m T : Nat} {cd o : Nat → Nat} {x1 : Int32} (hb : CB f U W M D) (hc : CF μ0 f U W M D) (hcd : OC μ0 4 1000 cn cd) (hm : MF ν0 f U W M D) (hmd : MR ν0 8 2 1000 cn cd) (hf : f = 1) (hp : p < cn) (hx : x ≤ W) (hy : y ≤ 256 * p) (h : CO μ0 μ p p on x y 0 o) (g : MO ν0 ν p on x y 0 o) (hmm : 1 ≤ m ∧ m ≤ 128) (hT : T ≤ 255) (hx1 : (0 ≤ x1 ∧ T = 1) ∨ (¬ 0 ≤ x1 ∧ 1 - x1 = nI T)) :
    STEP μ0 ν0 cn W p on x y f (jcall (f_X1_takeUnits (nI (p + 1)) (nI m) (nI T) μ) (fun (r3 : Int32) (μ3 : jM) => some (r3, μ3))) (f_X6_openSigned_96 x1 (nI (m * U)) ν) := by
  have hcn := hcd.2.1
  have hU := hb.2.1
  have m8 := (g.mr hmd).1
  have mp := g.2.1
  have hk := g.1.1
  have hmU : m * U ≤ 512 := Nat.le_trans (Nat.mul_le_mul hmm.2 (show U ≤ 4 by omega)) (by omega)
  have hmU0 : 0 < m * U := Nat.mul_pos (by omega) (by omega)
  have e96 : p + 1 + m * U ≤ cn → f_X6_openSigned_96 x1 (nI (m * U)) ν = f_X6_openSigned_141 (nI (m * U)) (nI T) (nI (m * U)) (nI (p + 1)) ν := by
    intro hq
    unfold f_X6_openSigned_96
    rw [mp, m8, jl_1, nI_add, nI_add, if_pos (by rw [nI_leI (by omega) (by omega)]; exact hq)]
    rcases hx1 with ⟨a1, a2⟩ | ⟨a1, a2⟩
    · rw [if_pos a1, a2]
    · rw [if_neg a1, ← jl_1, a2]
  rcases s_takeUnits (m := m) (T := T) hb hc hcd (show p + 1 ≤ cn by omega) hmm hT h with ⟨q1, q2⟩ | ⟨q1, q2, q3⟩ | ⟨q1, q2, μ', q3, q4⟩
  · refine STEP.flt (o2 := o) 2 (by omega) (by omega) h hk (by rw [q2, jcall_s]) ?_
    unfold f_X6_openSigned_96 f_X6_fails
    rw [mp, m8, jl_1, nI_add, nI_add, if_neg (by rw [nI_leI (by omega) (by omega)]; omega), jlet_e, jcall_s, jl_2]
  · rcases s_puts (T := T) hmd q1 ⟨hmU0, hmU⟩ hT g with ⟨r1, r2⟩ | ⟨r1, -⟩
    · refine Or.inl ⟨4, μ, jsI (jsI ν 0 12 (nI 4)) 0 21 (nI p), by omega, by omega, by rw [q3, jcall_s], ?_, h.1, h.2.1, (hk.f (by omega) _).f (by omega) _, by simp (decide := true) only [jsI_s, jsI_k, jsI_c, jsI_2, jsJ_1, ne_eq, not_false_eq_true]⟩
      rw [e96 q1, s_141F (by omega) r2, jsI_k _ _ (by decide), mp]
    · omega
  · rcases s_puts (T := T) hmd q1 ⟨hmU0, hmU⟩ hT g with ⟨r1, -⟩ | ⟨r1, ν', r2, r3⟩
    · omega
    · refine Or.inr (Or.inr (Or.inr ⟨p + 1 + m * U, _, x, y, _, μ', jsI ν' 0 21 (nI (p + 1 + m * U)), by omega, q1, hx, by omega, by omega, by rw [q3, jcall_s], ?_, q4, r3.p⟩))
      rw [e96 q1, s_141T r3.2.1 r2]
theorem stepS {μ0 ν0 μ ν : jM} {f U W M D cn p on x y : Nat} {cd o : Nat → Nat} (hb : CB f U W M D) (hc : CF μ0 f U W M D) (hcd : OC μ0 4 1000 cn cd) (hm : MF ν0 f U W M D) (hmd : MR ν0 8 2 1000 cn cd) (hf : f = 1) (hp : p ≤ cn) (hx : x ≤ W) (hy : y ≤ 256 * p) (h : CO μ0 μ p p on x y 0 o) (g : MO ν0 ν p on x y 0 o) : STEP μ0 ν0 cn W p on x y f (f_X1_takeSigned μ) (f_X6_openSigned ν) := by
  have hcn := hcd.2.1
  have hU := hb.2.1
  have c4 := (h.oc hcd).1
  have cp := h.2.1
  have m8 := (g.mr hmd).1
  have mp := g.2.1
  have mU := (g.mf hm).2.1
  have hk := g.1.1
  by_cases h1 : p = cn
  · refine Or.inr (Or.inr (Or.inl ⟨p, p, p, o, _, jsI ν 0 24 (nI 1), by omega, by omega, ?_, ?_, h.en (en' := 1), g.en⟩))
    · unfold f_X1_takeSigned
      rw [cp, c4, if_neg (by rw [nI_ltI (by omega) (by omega)]; omega), jl_1, jbl_1, jlet_e, jl_0]
    · unfold f_X6_openSigned
      rw [mp, m8, if_pos (by rw [h1]), jl_1, jbl_1, jlet_e, jl_0]
  obtain ⟨b1, b2⟩ := (g.mr hmd).2.2.2 p (by omega)
  have ec : f_X1_takeSigned μ = (if jb (cd p) = -128 then (jlet (jsI μ 14 5 (nI (p + 1))) (fun μ6 : jM => some ((0 : Int32), μ6))) else (if jb (cd p) < 0 then (jcall (f_X1_takeUnits (nI (p + 1)) 1 (1 - jb (cd p)) μ) (fun (r3 : Int32) (μ3 : jM) => some (r3, μ3))) else (jcall (f_X1_takeUnits (nI (p + 1)) (jb (cd p) + 1) 1 μ) (fun (r4 : Int32) (μ4 : jM) => some (r4, μ4))))) := by
    unfold f_X1_takeSigned
    rw [cp, c4, if_pos (by rw [nI_ltI (by omega) (by omega)]; omega), s_get (h.oc hcd) (show p < cn by omega), jcall_s, jlet_e, cp, jl_1, nI_add]
    rfl
  have em : f_X6_openSigned ν = f_X6_openSigned_58 (if 128 ≤ cd p then nI (cd p) - 256 else nI (cd p)) ν := by
    unfold f_X6_openSigned
    rw [mp, m8, if_neg (by rw [nI_eq (by omega) (by omega)]; exact h1), jin_n (by omega) (by omega), nI_clamp (by omega), b2]
    by_cases h2 : 128 ≤ cd p
    · rw [if_pos (by rw [jl_128, nI_leI (by omega) (by omega)]; exact h2), if_pos h2, jin_n (by omega) (by omega)]
    · rw [if_neg (by rw [jl_128, nI_leI (by omega) (by omega)]; exact h2), if_neg h2, jin_n (by omega) (by omega)]
  rw [ec, em]
  by_cases h2 : cd p < 128
  · obtain ⟨e1, e2, e3⟩ := nI_n128 (cd p) h2
    rw [jb_lo _ h2, if_neg e1, if_neg e2, if_neg (by omega)]
    unfold f_X6_openSigned_58
    rw [if_neg e1, if_pos e3, mU, jl_1, nI_add, pk_mul]
    exact stepU (m := cd p + 1) (T := 1) hb hc hcd hm hmd hf (by omega) hx hy h g (by omega) (by omega) (Or.inl ⟨e3, rfl⟩)
  by_cases h3 : cd p = 128
  · rw [h3, jb_128, if_pos rfl, if_pos (by omega), jb_sub 128 (by omega) (by omega), jb_128, jlet_e]
    unfold f_X6_openSigned_58
    rw [if_pos rfl, mp, jl_1, nI_add, jlet_e]
    exact Or.inr (Or.inr (Or.inr ⟨p + 1, on, x, y, o, _, _, by omega, by omega, hx, by omega, by omega, by rw [jl_0], by rw [jl_0], h.nx, g.p⟩))
  · obtain ⟨e1, e2, e3, e4⟩ := jb_hi (cd p) b1 (by omega)
    rw [if_neg e1, if_pos e2, if_pos (by omega), jb_sub _ b1 (by omega), e4]
    unfold f_X6_openSigned_58
    rw [if_neg e1, if_neg e3, mU, jl_1]
    have := stepU (m := 1) (T := 257 - cd p) (x1 := jb (cd p)) hb hc hcd hm hmd hf (by omega) hx hy h g (by omega) (by omega) (Or.inr ⟨e3, e4⟩)
    rw [Nat.one_mul] at this
    exact this
