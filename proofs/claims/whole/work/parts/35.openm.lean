/-! open: the reference's side -/
def MK (ν0 ν : jM) : Prop := (∀ k, k ≤ 11 → ν.1 0 k = ν0.1 0 k) ∧ ν.1 1 = ν0.1 1 ∧ ν.1 2 = ν0.1 2 ∧ ν.1 3 = ν0.1 3
def MO (ν0 ν : jM) (p on x y en : Nat) (o : Nat → Nat) : Prop := (MK ν0 ν ∧ ν.1 0 12 = nI 0) ∧ ν.1 0 21 = nI p ∧ ν.1 0 24 = nI en ∧ ν.1 0 23 = nI y ∧ ν.1 0 22 = nI x ∧ ν.1 0 20 = nI on ∧ on ≤ 240 ∧ ∀ i, i < 240 → o i < 256 ∧ ν.1 7 i = nI (o i)
theorem MO.mf {ν0 ν : jM} {p on x y en f U W M D : Nat} {o : Nat → Nat} (h : MO ν0 ν p on x y en o) (hc : MF ν0 f U W M D) : MF ν f U W M D := by
  obtain ⟨⟨⟨e, -⟩, -⟩, -⟩ := h
  obtain ⟨a1, a2, a3, a4, a5⟩ := hc
  exact ⟨(e 0 (by omega)).trans a1, (e 1 (by omega)).trans a2, (e 2 (by omega)).trans a3, (e 3 (by omega)).trans a4, (e 4 (by omega)).trans a5⟩
theorem MO.mr {ν0 ν : jM} {p on x y en cn : Nat} {o cd : Nat → Nat} (h : MO ν0 ν p on x y en o) (hc : MR ν0 8 2 1000 cn cd) : MR ν 8 2 1000 cn cd := by
  obtain ⟨⟨⟨e, -, e2, -⟩, -⟩, -⟩ := h
  exact ⟨(e 8 (by omega)).trans hc.1, hc.2.1, hc.2.2.1, fun i hi => by rw [e2]; exact hc.2.2.2 i hi⟩
theorem MK.f {ν0 ν : jM} (h : MK ν0 ν) {k : Nat} (hk : 12 ≤ k) (v : Int32) : MK ν0 (jsI ν 0 k v) := ⟨fun j hj => (jsI_k _ _ (by omega)).trans (h.1 j hj), by rw [← h.2.1]; funext i; exact jsI_c _ _ _ (by decide), by rw [← h.2.2.1]; funext i; exact jsI_c _ _ _ (by decide), by rw [← h.2.2.2]; funext i; exact jsI_c _ _ _ (by decide)⟩
theorem MK.a {ν0 ν : jM} (h : MK ν0 ν) (k : Nat) (v : Int32) : MK ν0 (jsI ν 7 k v) := ⟨fun j hj => (jsI_c _ _ _ (by decide)).trans (h.1 j hj), by rw [← h.2.1]; funext i; exact jsI_c _ _ _ (by decide), by rw [← h.2.2.1]; funext i; exact jsI_c _ _ _ (by decide), by rw [← h.2.2.2]; funext i; exact jsI_c _ _ _ (by decide)⟩
theorem MO_add {ν0 ν : jM} {p on x y en v : Nat} {o o' : Nat → Nat} (h : MO ν0 ν p on x y en o) (hn : on < 240) (hv : v < 256) (ho : ∀ i, o' i = if i = on then v else o i) : MO ν0 (jsI (jsI ν 7 on (nI v)) 0 20 (nI (on + 1))) p (on + 1) x y en o' := by
  obtain ⟨h0, h1, h2, h3, h4, h5, h6, h7⟩ := h
  refine ⟨⟨(h0.1.a _ _).f (by omega) _, ?_⟩, ?_, ?_, ?_, ?_, jsI_s _ _ _ _, hn, fun i hi => ?_⟩
  · simp (decide := true) only [jsI_s, jsI_k, jsI_c, jsI_2, jsJ_1, ne_eq, not_false_eq_true, h0.2]
  · simp (decide := true) only [jsI_s, jsI_k, jsI_c, jsI_2, jsJ_1, ne_eq, not_false_eq_true, h1]
  · simp (decide := true) only [jsI_s, jsI_k, jsI_c, jsI_2, jsJ_1, ne_eq, not_false_eq_true, h2]
  · simp (decide := true) only [jsI_s, jsI_k, jsI_c, jsI_2, jsJ_1, ne_eq, not_false_eq_true, h3]
  · simp (decide := true) only [jsI_s, jsI_k, jsI_c, jsI_2, jsJ_1, ne_eq, not_false_eq_true, h4]
  · rw [ho i, jsI_c _ _ _ (by decide)]
    by_cases hin : i = on
    · rw [if_pos hin, hin, jsI_s]
      exact ⟨hv, rfl⟩
    · rw [if_neg hin, jsI_k _ _ hin]
      exact h7 i hi
theorem s_pu36 {ν0 : jM} {cn fr b T t p x y en on0 : Nat} {cd o : Nat → Nat} (hcd : MR ν0 8 2 1000 cn cd) (hfr : fr + b ≤ cn) (ht : on0 + (t * b + b) ≤ 240) (K : Int32 → Int32 → Int32 → Int32 → jM → Option (Int32 × jM)) (hT : t < 1000) :
    ∀ (j fu k : Nat) (ν : jM), j < fu → k + j = b → MO ν0 ν p (on0 + (t * b + k)) x y en (pu o on0 fr b cd (t * b + k)) → ∃ ν', f_X6_puts_36 K fu (nI fr) (nI b) (nI T) (nI t) (nI k) ν = K (nI fr) (nI b) (nI T) (nI (t + 1)) ν' ∧ MO ν0 ν' p (on0 + (t * b + b)) x y en (pu o on0 fr b cd (t * b + b)) := by
  have hcn := hcd.2.1
  intro j
  induction j with
  | zero =>
    intro fu k ν hf hk h
    obtain ⟨fu, rfl⟩ : ∃ g, fu = g + 1 := ⟨fu - 1, by omega⟩
    obtain rfl : k = b := by omega
    refine ⟨ν, ?_, h⟩
    rw [f_X6_puts_36.eq_2]
    simp (disch := omega) only [jlet_e, jcall_s, jin_n, jnz_n, jbl_0, jbl_1, nI_ofNat, jl_0, jl_1, jl_2, jl_3, jl_4, jl_5, jl_8, jl_60, jl_127, jl_128, jl_240, jl_255, jl_256, jl_400, jl_1000, jl_1000000, nI_ltI, nI_leI, nI_eq, nI_add, pk_sub, pk_mul, pk_div, pk_rem, nI_clamp, if_pos, if_neg, ite_true, ite_false]
  | succ j ih =>
    intro fu k ν hf hk h
    obtain ⟨fu, rfl⟩ : ∃ g, fu = g + 1 := ⟨fu - 1, by omega⟩
    obtain ⟨hv, hv2⟩ := (h.mr hcd).2.2.2 (fr + k) (by omega)
    have h' := MO_add h (v := cd (fr + k)) (by omega) hv (fun i => pu_s o on0 fr b cd t k (by omega) i)
    obtain ⟨ν', e, h''⟩ := ih fu (k + 1) _ (by omega) (by omega) h'
    refine ⟨ν', ?_, h''⟩
    have h20 := h.2.2.2.2.2.1
    rw [f_X6_puts_36.eq_2]
    simp (disch := omega) only [jlet_e, jcall_s, jin_n, jnz_n, jbl_0, jbl_1, nI_ofNat, jl_0, jl_1, jl_2, jl_3, jl_4, jl_5, jl_8, jl_60, jl_127, jl_128, jl_240, jl_255, jl_256, jl_400, jl_1000, jl_1000000, nI_ltI, nI_leI, nI_eq, nI_add, pk_sub, pk_mul, pk_div, pk_rem, nI_clamp, if_pos, if_neg, ite_true, ite_false, h20, hv2, jsI_c]
    exact e
theorem s_pu27 {ν0 : jM} {cn fr b T p x y en on0 : Nat} {cd o : Nat → Nat} (hcd : MR ν0 8 2 1000 cn cd) (hfr : fr + b ≤ cn) (hb : 0 < b) (ht : on0 + T * b ≤ 240) (hT : T < 1000) :
    ∀ (j fu t : Nat) (ν : jM), j < fu → t + j = T → MO ν0 ν p (on0 + t * b) x y en (pu o on0 fr b cd (t * b)) → ∃ ν', f_X6_puts_27 fu (nI fr) (nI b) (nI T) (nI t) ν = some (nI 0, ν') ∧ MO ν0 ν' p (on0 + T * b) x y en (pu o on0 fr b cd (T * b)) := by
  have hcn := hcd.2.1
  intro j
  induction j with
  | zero =>
    intro fu t ν hf hk h
    obtain ⟨fu, rfl⟩ : ∃ g, fu = g + 1 := ⟨fu - 1, by omega⟩
    obtain rfl : t = T := by omega
    refine ⟨ν, ?_, h⟩
    rw [f_X6_puts_27.eq_2]
    simp (disch := omega) only [jlet_e, jcall_s, jin_n, jnz_n, jbl_0, jbl_1, nI_ofNat, jl_0, jl_1, jl_2, jl_3, jl_4, jl_5, jl_8, jl_60, jl_127, jl_128, jl_240, jl_255, jl_256, jl_400, jl_1000, jl_1000000, nI_ltI, nI_leI, nI_eq, nI_add, pk_sub, pk_mul, pk_div, pk_rem, nI_clamp, if_pos, if_neg, ite_true, ite_false]
  | succ j ih =>
    intro fu t ν hf hk h
    obtain ⟨fu, rfl⟩ : ∃ g, fu = g + 1 := ⟨fu - 1, by omega⟩
    have hm : (t + 1) * b = t * b + b := Nat.succ_mul t b
    have hm2 : (t + 1) * b ≤ T * b := Nat.mul_le_mul_right b (by omega)
    obtain ⟨ν1, e1, h1⟩ := s_pu36 (T := T) (o := o) (on0 := on0) (t := t) hcd hfr (by omega) (fun x1 x2 x3 x4 ν => f_X6_puts_27 fu x1 x2 x3 x4 ν) (by omega) b jFU 0 ν (by unfold jFU; omega) (by omega) (by simpa using h)
    obtain ⟨ν', e, h'⟩ := ih fu (t + 1) ν1 (by omega) (by omega) (by rw [hm]; exact h1)
    refine ⟨ν', ?_, h'⟩
    rw [f_X6_puts_27.eq_2]
    simp (disch := omega) only [jlet_e, jcall_s, jin_n, jnz_n, jbl_0, jbl_1, nI_ofNat, jl_0, jl_1, jl_2, jl_3, jl_4, jl_5, jl_8, jl_60, jl_127, jl_128, jl_240, jl_255, jl_256, jl_400, jl_1000, jl_1000000, nI_ltI, nI_leI, nI_eq, nI_add, pk_sub, pk_mul, pk_div, pk_rem, nI_clamp, if_pos, if_neg, ite_true, ite_false]
    rw [e1]
    exact e
theorem s_puts {ν0 ν : jM} {cn fr b T p x y en on : Nat} {cd o : Nat → Nat} (hcd : MR ν0 8 2 1000 cn cd) (hfr : fr + b ≤ cn) (hb : 0 < b ∧ b ≤ 512) (hT : T ≤ 255) (h : MO ν0 ν p on x y en o) :
    (240 < on + T * b ∧ f_X6_puts (nI fr) (nI b) (nI T) ν = some (-10 - nI p, jsI ν 0 12 (nI 4))) ∨ (on + T * b ≤ 240 ∧ ∃ ν', f_X6_puts (nI fr) (nI b) (nI T) ν = some (nI 0, ν') ∧ MO ν0 ν' p (on + T * b) x y en (pu o on fr b cd (T * b))) := by
  have hcn := hcd.2.1
  have hTm : T * b ≤ 255 * 512 := Nat.mul_le_mul hT hb.2
  have hTc : b * T = T * b := Nat.mul_comm _ _
  have h20 := h.2.2.2.2.2.1
  have hon := h.2.2.2.2.2.2.1
  have h21 := h.2.1
  unfold f_X6_puts
  by_cases hr : on + T * b ≤ 240
  · right
    obtain ⟨ν', e, h'⟩ := s_pu27 (T := T) (o := o) (on0 := on) hcd hfr hb.1 hr (by omega) T jFU 0 ν (by unfold jFU; omega) (by omega) (by simpa [pu_0] using h)
    refine ⟨hr, ν', ?_, h'⟩
    simp (disch := omega) only [jlet_e, jcall_s, jin_n, jnz_n, jbl_0, jbl_1, nI_ofNat, jl_0, jl_1, jl_2, jl_3, jl_4, jl_5, jl_8, jl_60, jl_127, jl_128, jl_240, jl_255, jl_256, jl_400, jl_1000, jl_1000000, nI_ltI, nI_leI, nI_eq, nI_add, pk_sub, pk_mul, pk_div, pk_rem, nI_clamp, if_pos, if_neg, ite_true, ite_false, h20, hTc]
    exact e
  · left
    refine ⟨by omega, ?_⟩
    unfold f_X6_fails
    simp (disch := omega) only [jlet_e, jcall_s, jin_n, jnz_n, jbl_0, jbl_1, nI_ofNat, jl_0, jl_1, jl_2, jl_3, jl_4, jl_5, jl_8, jl_60, jl_127, jl_128, jl_240, jl_255, jl_256, jl_400, jl_1000, jl_1000000, nI_ltI, nI_leI, nI_eq, nI_add, pk_sub, pk_mul, pk_div, pk_rem, nI_clamp, if_pos, if_neg, ite_true, ite_false, h20, h21, hTc]
theorem neg10 {p : Nat} (h : p ≤ 1000) : ¬ (nI 0 : Int32) ≤ -10 - nI p := by
  have h1 : (nI p).toInt = p := nI_toInt (by omega)
  have h2 : (-10 - nI p : Int32).toInt = -10 - p := by
    rw [Int32.toInt_sub, h1]
    have h3 : (-10 : Int32).toInt = -10 := by decide +kernel
    rw [h3]
    rw [Int.bmod_eq_of_le] <;> omega
  rw [Int32.le_iff_toInt_le, h2]
  have h4 : (nI 0).toInt = 0 := by decide +kernel
  omega
theorem ite_neg10 {α : Type} {p : Nat} {inst : Decidable ((nI 0 : Int32) ≤ -10 - nI p)} (h : p ≤ 1000) (a b : α) : @ite α ((nI 0 : Int32) ≤ -10 - nI p) inst a b = b := if_neg (neg10 h)
/-- how a piece is opened by both -/
def STEP (μ0 ν0 : jM) (cn W p on x y : Nat) (f : Nat) (a b : Option (Int32 × jM)) : Prop :=
  (∃ ft μ' ν', 1 ≤ ft ∧ ft ≤ 4 ∧ a = some (nI ft, μ') ∧ b = some (-10 - nI p, ν') ∧ Fr [14, 15, 16] μ0 μ' ∧ μ'.1 14 4 = nI p ∧ MK ν0 ν' ∧ ν'.1 0 12 = nI ft) ∨
  (∃ pl μ' ν', pl < cn ∧ a = some (nI 5, μ') ∧ b = some (nI 0, ν') ∧ Fr [14, 15, 16] μ0 μ' ∧ μ'.1 14 4 = nI pl ∧ MK ν0 ν' ∧ ν'.1 0 21 = nI pl ∧ ν'.1 0 24 = nI 1) ∨
  (∃ pl pc p' o μ' ν', cn ≤ p' ∧ p' ≤ 2000 ∧ a = some (nI 0, μ') ∧ b = some (nI 0, ν') ∧ CO μ0 μ' pl pc on x y 1 o ∧ MO ν0 ν' p' on x y 1 o) ∨
  (∃ p' on' x' y' o μ' ν', p < p' ∧ p' ≤ cn ∧ x' ≤ W ∧ y' ≤ 256 * p' ∧ (f = 2 → on' ≤ (y' + 1) * W) ∧ a = some (nI 0, μ') ∧ b = some (nI 0, ν') ∧ CO μ0 μ' p p' on' x' y' 0 o ∧ MO ν0 ν' p' on' x' y' 0 o)
