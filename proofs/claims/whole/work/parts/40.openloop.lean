noncomputable def opF (f : Nat) (ν : jM) : Option (Int32 × jM) := if f = 0 then f_X6_openMarked ν else if f = 1 then f_X6_openSigned ν else f_X6_openRows ν
theorem jcall_id {a : Option (Int32 × jM)} : jcall a (fun (r : Int32) (μ : jM) => some (r, μ)) = a := by
  cases a with
  | none => rfl
  | some q => rfl
theorem stepF {μ0 ν0 μ ν : jM} {f U W M D cn p on x y : Nat} {cd o : Nat → Nat} (hb : CB f U W M D) (hc : CF μ0 f U W M D) (hcd : OC μ0 4 1000 cn cd) (hm : MF ν0 f U W M D) (hmd : MR ν0 8 2 1000 cn cd) (hp : p ≤ cn) (hx : x ≤ W) (hy : y ≤ 256 * p) (hon : f = 2 → on ≤ (y + 1) * W) (h : CO μ0 μ p p on x y 0 o) (g : MO ν0 ν p on x y 0 o) : STEP μ0 ν0 cn W p on x y f (f_X1_takePiece μ) (opF f ν) := by
  unfold f_X1_takePiece opF
  rw [(h.cf hc).1, jcall_id, jcall_id, jcall_id]
  have hf := hb.1
  rcases (show f = 0 ∨ f = 1 ∨ f = 2 by omega) with q | q | q
  · rw [if_pos (by rw [q]; exact jl_0.symm), if_pos q]
    exact stepM hb hc hcd hm hmd q hp hx hy h g
  · rw [if_neg (by rw [q]; decide), if_pos (by rw [q]; exact jl_1.symm), if_neg (by omega), if_pos q]
    exact stepS hb hc hcd hm hmd q hp hx hy h g
  · rw [if_neg (by rw [q]; decide), if_neg (by rw [q]; decide), if_neg (by omega), if_neg (by omega)]
    exact stepR hb hc hcd hm hmd q hp hx hy (hon q) h g
theorem s_open57 {ν0 ν : jM} {f U W M D p on x y fu : Nat} {o : Nat → Nat} (hb : CB f U W M D) (hm : MF ν0 f U W M D) (g : MO ν0 ν p on x y 0 o) : f_X6_open_57 (fu + 1) ν = jcall (opF f ν) (fun (r : Int32) (ν1 : jM) => f_X6_open_97 (fun μ => f_X6_open_57 fu μ) r ν1) := by
  have hf := hb.1
  rw [f_X6_open_57.eq_2, g.2.2.1, if_pos (show nI 0 = 0 by decide), (g.mf hm).1]
  unfold opF
  rcases (show f = 0 ∨ f = 1 ∨ f = 2 by omega) with q | q | q
  · rw [if_pos (by rw [q]; exact jl_0.symm), if_pos q]
  · rw [if_neg (by rw [q]; decide), if_pos (by rw [q]; exact jl_1.symm), if_neg (by omega), if_pos q]
  · rw [if_neg (by rw [q]; decide), if_neg (by rw [q]; decide), if_neg (by omega), if_neg (by omega)]
theorem s_run34x {μ : jM} {fu : Nat} {x1 : Int32} (h : ¬ μ.1 14 3 = 0 ∨ ¬ μ.1 14 6 = 0) : f_X1_run_34 (fu + 1) x1 μ = f_X1_run_77 μ := by
  rw [f_X1_run_34.eq_2]
  by_cases h1 : (1000 : Int32) < x1
  · rw [if_pos h1]
  · rw [if_neg h1]
    by_cases h2 : μ.1 14 6 = 0
    · rw [if_pos h2, if_neg (h.resolve_right (fun z => z h2))]
    · rw [if_neg h2]
def RES (μ0 ν0 : jM) (a : Option (Unit × jM)) (b : Option (Int32 × jM)) : Prop :=
  (∃ ft pl μ' ν', 1 ≤ ft ∧ ft ≤ 5 ∧ pl ≤ 1000 ∧ a = some ((), μ') ∧ b = some (-10 - nI pl, ν') ∧ Fr [14, 15, 16] μ0 μ' ∧ μ'.1 14 3 = nI ft ∧ μ'.1 14 4 = nI pl ∧ MK ν0 ν' ∧ ν'.1 0 12 = nI ft) ∨
  (∃ pl pc p' on x y o μ' ν', a = f_X1_run_77 μ' ∧ μ'.1 14 3 = nI 0 ∧ CO μ0 μ' pl pc on x y 1 o ∧ b = f_X6_open_138 jFU (nI 0) (jsI ν' 0 6 (nI on)) ∧ MO ν0 ν' p' on x y 1 o)
theorem s_run77f {μ : jM} (h : ¬ μ.1 14 3 = 0) : f_X1_run_77 μ = some ((), μ) := by
  unfold f_X1_run_77
  rw [if_neg h]
theorem nI_ne0' {n : Nat} (h : 1 ≤ n) (h2 : n ≤ 1000) : ¬ nI n = 0 := by rw [jl_0, nI_eq (by omega) (by omega)]; omega
theorem open_loop {μ0 ν0 : jM} {f U W M D cn : Nat} {cd : Nat → Nat} (hb : CB f U W M D) (hc : CF μ0 f U W M D) (hcd : OC μ0 4 1000 cn cd) (hm : MF ν0 f U W M D) (hmd : MR ν0 8 2 1000 cn cd) :
    ∀ (j fc fm i p on x y pl : Nat) (o : Nat → Nat) (μ ν : jM), cn - p ≤ j → j + 2 ≤ fc → j + 2 ≤ fm → i ≤ p → p ≤ cn → x ≤ W → y ≤ 256 * p → (f = 2 → on ≤ (y + 1) * W) → CO μ0 μ pl p on x y 0 o → μ.1 14 3 = nI 0 → MO ν0 ν p on x y 0 o → RES μ0 ν0 (f_X1_run_34 fc (nI i) μ) (f_X6_open_57 fm ν) := by
  have hcn := hcd.2.1
  intro j
  induction j with
  | zero =>
    intro fc fm i p on x y pl o μ ν hj hfc hfm hi hp hx hy hon h h3 g
    obtain ⟨fc, rfl⟩ : ∃ z, fc = z + 2 := ⟨fc - 2, by omega⟩
    obtain ⟨fm, rfl⟩ : ∃ z, fm = z + 2 := ⟨fm - 2, by omega⟩
    have h4 := h.pl (pl' := p)
    have hs := stepF hb hc hcd hm hmd hp hx hy hon h4 g
    have ec : f_X1_run_34 (fc + 1 + 1) (nI i) μ = jcall (f_X1_takePiece (jsI μ 14 4 (nI p))) (fun (r5 : Int32) (μ5 : jM) => f_X1_run_34 (fc + 1) (nI (i + 1)) (jsI μ5 14 3 r5)) := by
      rw [f_X1_run_34.eq_2, if_neg (by rw [jl_1000, nI_ltI (by omega) (by omega)]; omega), h.2.2.2.1, if_pos (show nI 0 = 0 by decide), h3, if_pos (show nI 0 = 0 by decide), jlet_e, h.2.2.1]
      simp only [jlet_e, jl_1, nI_add]
    rw [ec, s_open57 hb hm g]
    rcases hs with ⟨ft, μ', ν', q1, q2, q3, q4, q5, q6, q7, q8⟩ | ⟨pl2, μ', ν', q1, q2, q3, q4, q5, q6, q7, q8⟩ | ⟨pl2, pc, p', o', μ', ν', q1, q2, q3, q4, q5, q6⟩ | ⟨p', on', x', y', o', μ', ν', q1, q2, -⟩
    · rw [q3, q4, jcall_s, jcall_s]
      unfold f_X6_open_97
      rw [jl_0, if_neg (neg10 (by omega)), s_run34x (Or.inl (by rw [jsI_s]; exact nI_ne0' q1 (by omega))), s_run77f (by rw [jsI_s]; exact nI_ne0' q1 (by omega))]
      exact Or.inl ⟨ft, p, _, ν', q1, by omega, by omega, rfl, rfl, q5.tr (Fr.I _ _ _ (by decide)), jsI_s _ _ _ _, by simp (decide := true) only [jsI_s, jsI_k, jsI_c, jsI_2, jsJ_1, ne_eq, not_false_eq_true, q6], q7, q8⟩
    · rw [q2, q3, jcall_s, jcall_s]
      unfold f_X6_open_97
      rw [jl_0, if_pos (by decide), s_run34x (Or.inl (by rw [jsI_s]; decide)), s_run77f (by rw [jsI_s]; decide)]
      show RES μ0 ν0 _ (f_X6_open_57 (fm + 1) ν')
      rw [f_X6_open_57.eq_2, q8, if_neg (by decide), q7, (q6.1 8 (by omega)).trans hmd.1, if_neg (by rw [nI_leI (by omega) (by omega)]; omega)]
      unfold f_X6_fails
      rw [jlet_e, jcall_s]
      exact Or.inl ⟨5, pl2, _, _, by omega, by omega, by omega, rfl, rfl, q4.tr (Fr.I _ _ _ (by decide)), jsI_s _ _ _ _, by simp (decide := true) only [jsI_s, jsI_k, jsI_c, jsI_2, jsJ_1, ne_eq, not_false_eq_true, q5], q6.f (by omega) _, by rw [jsI_s, jl_5]⟩
    · rw [q3, q4, jcall_s, jcall_s]
      unfold f_X6_open_97
      rw [jl_0, if_pos (by decide), s_run34x (Or.inr (by rw [(q5.f3 _).2.2.2.1]; decide))]
      show RES μ0 ν0 _ (f_X6_open_57 (fm + 1) ν')
      rw [f_X6_open_57.eq_2, q6.2.2.1, if_neg (by decide), q6.2.1, (q6.mr hmd).1, if_pos (by rw [nI_leI (by omega) (by omega)]; omega), q6.2.2.2.2.2.1, jlet_e, jl_0]
      exact Or.inr ⟨pl2, pc, p', on, x, y, o', _, ν', rfl, jsI_s _ _ _ _, q5.f3 _, rfl, q6⟩
    · omega
  | succ j ih =>
    intro fc fm i p on x y pl o μ ν hj hfc hfm hi hp hx hy hon h h3 g
    obtain ⟨fc, rfl⟩ : ∃ z, fc = z + 2 := ⟨fc - 2, by omega⟩
    obtain ⟨fm, rfl⟩ : ∃ z, fm = z + 2 := ⟨fm - 2, by omega⟩
    have h4 := h.pl (pl' := p)
    have hs := stepF hb hc hcd hm hmd hp hx hy hon h4 g
    have ec : f_X1_run_34 (fc + 1 + 1) (nI i) μ = jcall (f_X1_takePiece (jsI μ 14 4 (nI p))) (fun (r5 : Int32) (μ5 : jM) => f_X1_run_34 (fc + 1) (nI (i + 1)) (jsI μ5 14 3 r5)) := by
      rw [f_X1_run_34.eq_2, if_neg (by rw [jl_1000, nI_ltI (by omega) (by omega)]; omega), h.2.2.2.1, if_pos (show nI 0 = 0 by decide), h3, if_pos (show nI 0 = 0 by decide), jlet_e, h.2.2.1]
      simp only [jlet_e, jl_1, nI_add]
    rw [ec, s_open57 hb hm g]
    rcases hs with ⟨ft, μ', ν', q1, q2, q3, q4, q5, q6, q7, q8⟩ | ⟨pl2, μ', ν', q1, q2, q3, q4, q5, q6, q7, q8⟩ | ⟨pl2, pc, p', o', μ', ν', q1, q2, q3, q4, q5, q6⟩ | ⟨p', on', x', y', o', μ', ν', q1, q2, q3, q4, q5, q6, q7, q8, q9⟩
    · rw [q3, q4, jcall_s, jcall_s]
      unfold f_X6_open_97
      rw [jl_0, if_neg (neg10 (by omega)), s_run34x (Or.inl (by rw [jsI_s]; exact nI_ne0' q1 (by omega))), s_run77f (by rw [jsI_s]; exact nI_ne0' q1 (by omega))]
      exact Or.inl ⟨ft, p, _, ν', q1, by omega, by omega, rfl, rfl, q5.tr (Fr.I _ _ _ (by decide)), jsI_s _ _ _ _, by simp (decide := true) only [jsI_s, jsI_k, jsI_c, jsI_2, jsJ_1, ne_eq, not_false_eq_true, q6], q7, q8⟩
    · rw [q2, q3, jcall_s, jcall_s]
      unfold f_X6_open_97
      rw [jl_0, if_pos (by decide), s_run34x (Or.inl (by rw [jsI_s]; decide)), s_run77f (by rw [jsI_s]; decide)]
      show RES μ0 ν0 _ (f_X6_open_57 (fm + 1) ν')
      rw [f_X6_open_57.eq_2, q8, if_neg (by decide), q7, (q6.1 8 (by omega)).trans hmd.1, if_neg (by rw [nI_leI (by omega) (by omega)]; omega)]
      unfold f_X6_fails
      rw [jlet_e, jcall_s]
      exact Or.inl ⟨5, pl2, _, _, by omega, by omega, by omega, rfl, rfl, q4.tr (Fr.I _ _ _ (by decide)), jsI_s _ _ _ _, by simp (decide := true) only [jsI_s, jsI_k, jsI_c, jsI_2, jsJ_1, ne_eq, not_false_eq_true, q5], q6.f (by omega) _, by rw [jsI_s, jl_5]⟩
    · rw [q3, q4, jcall_s, jcall_s]
      unfold f_X6_open_97
      rw [jl_0, if_pos (by decide), s_run34x (Or.inr (by rw [(q5.f3 _).2.2.2.1]; decide))]
      show RES μ0 ν0 _ (f_X6_open_57 (fm + 1) ν')
      rw [f_X6_open_57.eq_2, q6.2.2.1, if_neg (by decide), q6.2.1, (q6.mr hmd).1, if_pos (by rw [nI_leI (by omega) (by omega)]; omega), q6.2.2.2.2.2.1, jlet_e, jl_0]
      exact Or.inr ⟨pl2, pc, p', on, x, y, o', _, ν', rfl, jsI_s _ _ _ _, q5.f3 _, rfl, q6⟩
    · rw [q6, q7, jcall_s, jcall_s]
      unfold f_X6_open_97
      rw [jl_0, if_pos (by decide)]
      exact ih (fc + 1) (fm + 1) (i + 1) p' on' x' y' p o' _ ν' (by omega) (by omega) (by omega) (by omega) q2 q3 q4 q5 (q8.f3 _) (jsI_s _ _ _ _) q9
