theorem nI_split {x : Int32} {m : Nat} (hm : m < 2147483648) : x < 0 ∨ nI m < x ∨ ∃ j : Nat, j ≤ m ∧ x = nI j := by
  by_cases h0 : x < 0
  · exact Or.inl h0
  by_cases h1 : nI m < x
  · exact Or.inr (Or.inl h1)
  · obtain ⟨j, hj, rfl⟩ := nI_of h0
    refine Or.inr (Or.inr ⟨j, ?_, rfl⟩)
    rw [nI_ltI hm hj] at h1
    omega
theorem s_append_loop {q N m v : Nat} (hv : v < 256) (hm : m ≤ 1000) : ∀ (j fu k n : Nat) (a : Nat → Nat) (μ : jM), OC μ q N n a → n + j ≤ N → j < fu → k + j = m →
    ∃ μ', f_X5_append_27 q N fu (nI m) (nI v) (nI k) μ = some (nI (n + j), μ') ∧ OC μ' q N (n + j) (fun i => if i < n then a i else v) ∧ Fr [q, q + 1] μ μ' := by
  intro j
  induction j with
  | zero =>
    intro fu k n a μ h hn hf hk
    obtain ⟨fu, rfl⟩ : ∃ g, fu = g + 1 := ⟨fu - 1, by omega⟩
    refine ⟨μ, ?_, OC_congr h (fun i hi => if_pos (by simpa using hi)), Fr.rf⟩
    rw [f_X5_append_27.eq_2]
    simp (disch := omega) only [jlet_e, jcall_s, jin_n, jnz_n, jbl_0, jbl_1, nI_ofNat, jl_0, jl_1, jl_2, jl_3, jl_4, jl_5, jl_8, jl_60, jl_127, jl_128, jl_240, jl_255, jl_256, jl_400, jl_1000, jl_1000000, nI_ltI, nI_leI, nI_eq, nI_add, pk_sub, pk_mul, pk_div, pk_rem, nI_clamp, if_pos, if_neg, ite_true, ite_false, h.1, Nat.add_zero]
  | succ j ih =>
    intro fu k n a μ h hn hf hk
    obtain ⟨fu, rfl⟩ : ∃ g, fu = g + 1 := ⟨fu - 1, by omega⟩
    obtain ⟨μ', e, ho, hfr⟩ := ih fu (k + 1) (n + 1) _ _ (OC_add h (by omega) hv) (by omega) (by omega) (by omega)
    refine ⟨μ', ?_, ?_, ?_⟩
    · rw [f_X5_append_27.eq_2]
      simp (disch := omega) only [jlet_e, jcall_s, jin_n, jnz_n, jbl_0, jbl_1, nI_ofNat, jl_0, jl_1, jl_2, jl_3, jl_4, jl_5, jl_8, jl_60, jl_127, jl_128, jl_240, jl_255, jl_256, jl_400, jl_1000, jl_1000000, nI_ltI, nI_leI, nI_eq, nI_add, pk_sub, pk_mul, pk_div, pk_rem, nI_clamp, if_pos, if_neg, ite_true, ite_false, s_add h (show n < N by omega)]
      rw [show n + (j + 1) = n + 1 + j by omega]
      exact e
    · rw [show n + (j + 1) = n + 1 + j by omega]
      refine OC_congr ho (fun i hi => ?_)
      by_cases h1 : i < n
      · rw [if_pos h1, if_pos (by omega), if_neg (by omega)]
      · rw [if_neg h1]
        by_cases h2 : i < n + 1
        · rw [if_pos h2, if_pos (by omega)]
        · rw [if_neg h2]
    · exact ((Fr.I _ _ _ (by simp)).tr (Fr.I _ _ _ (by simp))).tr hfr
theorem s_append {q N m : Nat} {μ : jM} {n : Nat} {a : Nat → Nat} (h : OC μ q N n a) (hm : m ≤ 1000) (x : Int32) : (x < 0 ∨ nI 255 < x) ∧ f_X5_append q N (nI m) x μ = some (-1, μ) ∨
    ∃ v, v ≤ 255 ∧ x = nI v ∧ (N < n + m ∧ f_X5_append q N (nI m) x μ = some (-2, μ) ∨ n + m ≤ N ∧ ∃ μ', f_X5_append q N (nI m) x μ = some (nI (n + m), μ') ∧ OC μ' q N (n + m) (fun i => if i < n then a i else v) ∧ Fr [q, q + 1] μ μ') := by
  unfold f_X5_append f_X5_append_11
  rcases nI_split (x := x) (m := 255) (by omega) with hx | hx | ⟨v, hv, rfl⟩
  · exact Or.inl ⟨Or.inl hx, by rw [if_pos hx]⟩
  · refine Or.inl ⟨Or.inr hx, ?_⟩
    have h0 : ¬ x < 0 := fun z => by
      have h1 := Int32.lt_iff_toInt_lt.mp hx
      have h2 := Int32.lt_iff_toInt_lt.mp z
      rw [nI_toInt (by omega)] at h1
      have h3 : (0 : Int32).toInt = 0 := rfl
      omega
    rw [if_neg h0, if_neg (by rw [jl_255]; exact Int32.not_le.mpr hx)]
  · refine Or.inr ⟨v, hv, rfl, ?_⟩
    by_cases hr : n + m ≤ N
    · obtain ⟨μ', e, ho, hfr⟩ := s_append_loop (q := q) (N := N) (m := m) (v := v) (by omega) hm m jFU 0 n a μ h hr (by unfold jFU; omega) (by omega)
      refine Or.inr ⟨hr, μ', ?_, ho, hfr⟩
      simp (disch := omega) only [jlet_e, jcall_s, jin_n, jnz_n, jbl_0, jbl_1, nI_ofNat, jl_0, jl_1, jl_2, jl_3, jl_4, jl_5, jl_8, jl_60, jl_127, jl_128, jl_240, jl_255, jl_256, jl_400, jl_1000, jl_1000000, nI_ltI, nI_leI, nI_eq, nI_add, pk_sub, pk_mul, pk_div, pk_rem, nI_clamp, if_pos, if_neg, ite_true, ite_false, s_hasRoom h (show m ≤ 70000 by omega)]
      exact e
    · refine Or.inl ⟨by omega, ?_⟩
      simp (disch := omega) only [jlet_e, jcall_s, jin_n, jnz_n, jbl_0, jbl_1, nI_ofNat, jl_0, jl_1, jl_2, jl_3, jl_4, jl_5, jl_8, jl_60, jl_127, jl_128, jl_240, jl_255, jl_256, jl_400, jl_1000, jl_1000000, nI_ltI, nI_leI, nI_eq, nI_add, pk_sub, pk_mul, pk_div, pk_rem, nI_clamp, if_pos, if_neg, ite_true, ite_false, s_hasRoom h (show m ≤ 70000 by omega)]
theorem MR_put {ν : jM} {k q N n : Nat} {a : Nat → Nat} (h : MR ν k q N n a) (hq : q ≠ 0) (hn : n < N) {v : Nat} (hv : v < 256) : MR (jsI (jsI ν q n (nI v)) 0 k (nI (n + 1))) k q N (n + 1) (fun i => if i < n then a i else v) := by
  obtain ⟨h1, h2, h3, h4⟩ := h
  refine ⟨jsI_s _ _ _ _, hn, h3, fun i hi => ?_⟩
  rw [jsI_c _ _ _ hq]
  by_cases hin : i < n
  · simp only [if_pos hin]
    rw [jsI_k _ _ (by omega)]
    exact h4 i hin
  · simp only [if_neg hin]
    obtain rfl : i = n := by omega
    exact ⟨hv, jsI_s _ _ _ _⟩
theorem notneg_of_gt {x : Int32} {m : Nat} (hm : m < 2147483648) (hx : nI m < x) : ¬ x < 0 := fun z => by
  have h1 := Int32.lt_iff_toInt_lt.mp hx
  have h2 := Int32.lt_iff_toInt_lt.mp z
  rw [nI_toInt (by omega)] at h1
  have h3 : (0 : Int32).toInt = 0 := rfl
  omega
/-- the class's other cells stay -/
theorem CS.src {μ μ' : jM} {f U W M D n cn pn rc ft n' : Nat} {sr cd pl sr' : Nat → Nat} (h : CS μ f U W M D n cn pn rc ft sr cd pl) (hfr : Fr [2, 3] μ μ') (ho : OC μ' 2 240 n' sr') : CS μ' f U W M D n' cn pn rc ft sr' cd pl := by
  obtain ⟨h1, h2, h3, h4, h5, h6⟩ := h
  refine ⟨h1.of (hfr.1 1 (by decide)), ho, OC_of h3 (hfr.1 4 (by decide)) (hfr.1 5 (by decide)), ⟨?_, h4.2.1, fun i hi => ?_⟩, ?_, ?_⟩
  · rw [hfr.at (by decide)]; exact h4.1
  · rw [hfr.at (by decide)]; exact h4.2.2 i hi
  · rw [hfr.at (by decide)]; exact h5
  · rw [hfr.at (by decide)]; exact h6
theorem CS.cod {μ μ' : jM} {f U W M D n cn pn rc ft n' : Nat} {sr cd pl cd' : Nat → Nat} (h : CS μ f U W M D n cn pn rc ft sr cd pl) (hfr : Fr [4, 5] μ μ') (ho : OC μ' 4 1000 n' cd') : CS μ' f U W M D n n' pn rc ft sr cd' pl := by
  obtain ⟨h1, h2, h3, h4, h5, h6⟩ := h
  refine ⟨h1.of (hfr.1 1 (by decide)), OC_of h2 (hfr.1 2 (by decide)) (hfr.1 3 (by decide)), ho, ⟨?_, h4.2.1, fun i hi => ?_⟩, ?_, ?_⟩
  · rw [hfr.at (by decide)]; exact h4.1
  · rw [hfr.at (by decide)]; exact h4.2.2 i hi
  · rw [hfr.at (by decide)]; exact h5
  · rw [hfr.at (by decide)]; exact h6
theorem MS.src {ν ν' : jM} {f U W M D n cn pn rc ft n' : Nat} {sr cd pl sr' : Nat → Nat} (h : MS ν f U W M D n cn pn rc ft sr cd pl) (e0 : ∀ k, k ≤ 12 → k ≠ 6 → ν'.1 0 k = ν.1 0 k) (e2 : ν'.1 2 = ν.1 2) (e3 : ν'.1 3 = ν.1 3) (ho : MR ν' 6 1 240 n' sr') : MS ν' f U W M D n' cn pn rc ft sr' cd pl := by
  obtain ⟨⟨a1, a2, a3, a4, a5⟩, h2, h3, h4, h5, h6⟩ := h
  refine ⟨⟨?_, ?_, ?_, ?_, ?_⟩, ho, ⟨?_, h3.2.1, h3.2.2.1, fun i hi => by rw [e2]; exact h3.2.2.2 i hi⟩, ⟨?_, h4.2.1, h4.2.2.1, fun i hi => by rw [e3]; exact h4.2.2.2 i hi⟩, ?_, ?_⟩
  · rw [e0 0 (by omega) (by omega)]; exact a1
  · rw [e0 1 (by omega) (by omega)]; exact a2
  · rw [e0 2 (by omega) (by omega)]; exact a3
  · rw [e0 3 (by omega) (by omega)]; exact a4
  · rw [e0 4 (by omega) (by omega)]; exact a5
  · rw [e0 8 (by omega) (by omega)]; exact h3.1
  · rw [e0 10 (by omega) (by omega)]; exact h4.1
  · rw [e0 11 (by omega) (by omega)]; exact h5
  · rw [e0 12 (by omega) (by omega)]; exact h6
theorem MS.cod {ν ν' : jM} {f U W M D n cn pn rc ft n' : Nat} {sr cd pl cd' : Nat → Nat} (h : MS ν f U W M D n cn pn rc ft sr cd pl) (e0 : ∀ k, k ≤ 12 → k ≠ 8 → ν'.1 0 k = ν.1 0 k) (e1 : ν'.1 1 = ν.1 1) (e3 : ν'.1 3 = ν.1 3) (ho : MR ν' 8 2 1000 n' cd') : MS ν' f U W M D n n' pn rc ft sr cd' pl := by
  obtain ⟨⟨a1, a2, a3, a4, a5⟩, h2, h3, h4, h5, h6⟩ := h
  refine ⟨⟨?_, ?_, ?_, ?_, ?_⟩, ⟨?_, h2.2.1, h2.2.2.1, fun i hi => by rw [e1]; exact h2.2.2.2 i hi⟩, ho, ⟨?_, h4.2.1, h4.2.2.1, fun i hi => by rw [e3]; exact h4.2.2.2 i hi⟩, ?_, ?_⟩
  · rw [e0 0 (by omega) (by omega)]; exact a1
  · rw [e0 1 (by omega) (by omega)]; exact a2
  · rw [e0 2 (by omega) (by omega)]; exact a3
  · rw [e0 3 (by omega) (by omega)]; exact a4
  · rw [e0 4 (by omega) (by omega)]; exact a5
  · rw [e0 6 (by omega) (by omega)]; exact h2.1
  · rw [e0 10 (by omega) (by omega)]; exact h4.1
  · rw [e0 11 (by omega) (by omega)]; exact h5
  · rw [e0 12 (by omega) (by omega)]; exact h6
/-- both answer alike, and stay alike -/
def AL {ρ : Type} (a b : Option (ρ × jM)) : Prop := ∃ (r : ρ) (μ ν : jM), a = some (r, μ) ∧ b = some (r, ν) ∧ REL μ ν
theorem al_octet {μ ν : jM} (h : REL μ ν) (x : Int32) : AL (f_X5_octet x μ) (f_X6_octet x ν) := by
  obtain ⟨f, U, W, M, D, n, cn, pn, rc, ft, sr, cd, pl, hb, hc, hm⟩ := h
  unfold f_X5_octet f_X6_octet
  have hm0 := hm.t0 0
  rw [jlet_e]
  generalize jsI ν 0 13 (0 : Int32) = ν0 at hm0 ⊢
  have h6 : ν0.1 0 6 = nI n := hm0.2.1.1
  have hn := hc.2.1.2.1
  rcases s_append hc.2.1 (m := 1) (by omega) x with ⟨hx, e⟩ | ⟨v, hv, rfl, ⟨hr, e⟩ | ⟨hr, μ', e, ho, hfr⟩⟩
  · refine ⟨-1, μ, ν0, ?_, ?_, f, U, W, M, D, n, cn, pn, rc, ft, sr, cd, pl, hb, hc, hm0⟩
    · rw [jl_1, e]; rfl
    · rw [jl_255, s_inF hx, jcall_s, ← jl_0, if_pos rfl]
  · refine ⟨-2, μ, ν0, ?_, ?_, f, U, W, M, D, n, cn, pn, rc, ft, sr, cd, pl, hb, hc, hm0⟩
    · rw [jl_1, e]; rfl
    · rw [s_inT (by rw [jl_0, nI_ltI (by omega) (by omega)]; omega) (by rw [jl_255, nI_ltI (by omega) (by omega)]; omega), jcall_s, h6]
      simp (disch := omega) only [jlet_e, jcall_s, jin_n, jnz_n, jbl_0, jbl_1, nI_ofNat, jl_0, jl_1, jl_2, jl_3, jl_4, jl_5, jl_8, jl_60, jl_127, jl_128, jl_240, jl_255, jl_256, jl_400, jl_1000, jl_1000000, nI_ltI, nI_leI, nI_eq, nI_add, pk_sub, pk_mul, pk_div, pk_rem, nI_clamp, if_pos, if_neg, ite_true, ite_false]
  · refine ⟨nI (n + 1), μ', _, by rw [jl_1, e]; rfl, ?_, f, U, W, M, D, n + 1, cn, pn, rc, ft, _, cd, pl, hb, hc.src hfr ho, hm0.src (ν' := jsI (jsI ν0 1 n (nI v)) 0 6 (nI (n + 1))) (fun k hk h6 => ?_) ?_ ?_ (MR_put hm0.2.1 (by decide) (by omega) (by omega))⟩
    · rw [s_inT (by rw [jl_0, nI_ltI (by omega) (by omega)]; omega) (by rw [jl_255, nI_ltI (by omega) (by omega)]; omega), jcall_s, h6]
      simp (disch := omega) only [jlet_e, jcall_s, jin_n, jnz_n, jbl_0, jbl_1, nI_ofNat, jl_0, jl_1, jl_2, jl_3, jl_4, jl_5, jl_8, jl_60, jl_127, jl_128, jl_240, jl_255, jl_256, jl_400, jl_1000, jl_1000000, nI_ltI, nI_leI, nI_eq, nI_add, pk_sub, pk_mul, pk_div, pk_rem, nI_clamp, if_pos, if_neg, ite_true, ite_false, jsI_c, jsI_s, h6]
    · rw [jsI_k _ _ h6, jsI_c _ _ _ (by decide)]
    · funext k; rw [jsI_c _ _ _ (by decide), jsI_c _ _ _ (by decide)]
    · funext k; rw [jsI_c _ _ _ (by decide), jsI_c _ _ _ (by decide)]
theorem al_code {μ ν : jM} (h : REL μ ν) (x : Int32) : AL (f_X5_code x μ) (f_X6_code x ν) := by
  obtain ⟨f, U, W, M, D, n, cn, pn, rc, ft, sr, cd, pl, hb, hc, hm⟩ := h
  unfold f_X5_code f_X6_code
  have hm0 := hm.t0 0
  rw [jlet_e]
  generalize jsI ν 0 13 (0 : Int32) = ν0 at hm0 ⊢
  have h6 : ν0.1 0 8 = nI cn := hm0.2.2.1.1
  have hn := hc.2.2.1.2.1
  rcases s_append hc.2.2.1 (m := 1) (by omega) x with ⟨hx, e⟩ | ⟨v, hv, rfl, ⟨hr, e⟩ | ⟨hr, μ', e, ho, hfr⟩⟩
  · refine ⟨-1, μ, ν0, ?_, ?_, f, U, W, M, D, n, cn, pn, rc, ft, sr, cd, pl, hb, hc, hm0⟩
    · rw [jl_1, e]; rfl
    · rw [jl_255, s_inF hx, jcall_s, ← jl_0, if_pos rfl]
  · refine ⟨-2, μ, ν0, ?_, ?_, f, U, W, M, D, n, cn, pn, rc, ft, sr, cd, pl, hb, hc, hm0⟩
    · rw [jl_1, e]; rfl
    · rw [s_inT (by rw [jl_0, nI_ltI (by omega) (by omega)]; omega) (by rw [jl_255, nI_ltI (by omega) (by omega)]; omega), jcall_s, h6]
      simp (disch := omega) only [jlet_e, jcall_s, jin_n, jnz_n, jbl_0, jbl_1, nI_ofNat, jl_0, jl_1, jl_2, jl_3, jl_4, jl_5, jl_8, jl_60, jl_127, jl_128, jl_240, jl_255, jl_256, jl_400, jl_1000, jl_1000000, nI_ltI, nI_leI, nI_eq, nI_add, pk_sub, pk_mul, pk_div, pk_rem, nI_clamp, if_pos, if_neg, ite_true, ite_false]
  · refine ⟨nI (cn + 1), μ', _, by rw [jl_1, e]; rfl, ?_, f, U, W, M, D, n, cn + 1, pn, rc, ft, sr, _, pl, hb, hc.cod hfr ho, hm0.cod (ν' := jsI (jsI ν0 2 cn (nI v)) 0 8 (nI (cn + 1))) (fun k hk h6 => ?_) ?_ ?_ (MR_put hm0.2.2.1 (by decide) (by omega) (by omega))⟩
    · rw [s_inT (by rw [jl_0, nI_ltI (by omega) (by omega)]; omega) (by rw [jl_255, nI_ltI (by omega) (by omega)]; omega), jcall_s, h6]
      simp (disch := omega) only [jlet_e, jcall_s, jin_n, jnz_n, jbl_0, jbl_1, nI_ofNat, jl_0, jl_1, jl_2, jl_3, jl_4, jl_5, jl_8, jl_60, jl_127, jl_128, jl_240, jl_255, jl_256, jl_400, jl_1000, jl_1000000, nI_ltI, nI_leI, nI_eq, nI_add, pk_sub, pk_mul, pk_div, pk_rem, nI_clamp, if_pos, if_neg, ite_true, ite_false, jsI_c, jsI_s, h6]
    · rw [jsI_k _ _ h6, jsI_c _ _ _ (by decide)]
    · funext k; rw [jsI_c _ _ _ (by decide), jsI_c _ _ _ (by decide)]
    · funext k; rw [jsI_c _ _ _ (by decide), jsI_c _ _ _ (by decide)]
theorem s_repeat_loop {m v n : Nat} (hv : v < 256) (hm : m ≤ 240) (hn : n + m ≤ 240) : ∀ (j fu k : Nat) (ν : jM), ν.1 0 6 = nI n → j < fu → k + j = m →
    ∃ ν', f_X6_repeat_46 fu (nI m) (nI v) (nI k) ν = some (nI (n + m), ν') ∧ ν'.1 0 6 = nI (n + m) ∧ (∀ i, i < n + k → ν'.1 1 i = ν.1 1 i) ∧ (∀ i, n + k ≤ i → i < n + m → ν'.1 1 i = nI v) ∧ Fr [0, 1] ν ν' ∧ ∀ i, i ≠ 6 → ν'.1 0 i = ν.1 0 i := by
  intro j
  induction j with
  | zero =>
    intro fu k ν h hf hk
    obtain ⟨fu, rfl⟩ : ∃ g, fu = g + 1 := ⟨fu - 1, by omega⟩
    refine ⟨jsI ν 0 6 (nI (n + m)), ?_, jsI_s _ _ _ _, fun i _ => jsI_c _ _ _ (by decide), fun i h1 h2 => by omega, Fr.I _ _ _ (by decide), fun i hi => jsI_k _ _ hi⟩
    rw [f_X6_repeat_46.eq_2]
    simp (disch := omega) only [jlet_e, jcall_s, jin_n, jnz_n, jbl_0, jbl_1, nI_ofNat, jl_0, jl_1, jl_2, jl_3, jl_4, jl_5, jl_8, jl_60, jl_127, jl_128, jl_240, jl_255, jl_256, jl_400, jl_1000, jl_1000000, nI_ltI, nI_leI, nI_eq, nI_add, pk_sub, pk_mul, pk_div, pk_rem, nI_clamp, if_pos, if_neg, ite_true, ite_false, h, jsI_s]
  | succ j ih =>
    intro fu k ν h hf hk
    obtain ⟨fu, rfl⟩ : ∃ g, fu = g + 1 := ⟨fu - 1, by omega⟩
    obtain ⟨ν', e, h1, h2, h3, h4, h5⟩ := ih fu (k + 1) (jsI ν 1 (n + k) (nI v)) (by rw [jsI_c _ _ _ (by decide)]; exact h) (by omega) (by omega)
    refine ⟨ν', ?_, h1, fun i hi => ?_, fun i hi1 hi2 => ?_, (Fr.I _ _ _ (by decide)).tr h4, fun i hi => ?_⟩
    · rw [f_X6_repeat_46.eq_2]
      simp (disch := omega) only [jlet_e, jcall_s, jin_n, jnz_n, jbl_0, jbl_1, nI_ofNat, jl_0, jl_1, jl_2, jl_3, jl_4, jl_5, jl_8, jl_60, jl_127, jl_128, jl_240, jl_255, jl_256, jl_400, jl_1000, jl_1000000, nI_ltI, nI_leI, nI_eq, nI_add, pk_sub, pk_mul, pk_div, pk_rem, nI_clamp, if_pos, if_neg, ite_true, ite_false, h]
      exact e
    · rw [h2 i (by omega), jsI_k _ _ (by omega)]
    · by_cases hi : i = n + k
      · rw [h2 i (by omega), hi, jsI_s]
      · exact h3 i (by omega) hi2
    · rw [h5 i hi, jsI_c _ _ _ (by decide)]
theorem al_repeat {μ ν : jM} (h : REL μ ν) (y x : Int32) : AL (f_X5_repeat y x μ) (f_X6_repeat y x ν) := by
  obtain ⟨f, U, W, M, D, n, cn, pn, rc, ft, sr, cd, pl, hb, hc, hm⟩ := h
  unfold f_X5_repeat f_X6_repeat f_X5_repeat_12 f_X6_repeat_27
  have hm0 := hm.t0 0
  rw [jlet_e]
  generalize jsI ν 0 13 (0 : Int32) = ν0 at hm0 ⊢
  have h6 : ν0.1 0 6 = nI n := hm0.2.1.1
  have hn := hc.2.1.2.1
  by_cases hy1 : y < 1
  · refine ⟨-1, μ, ν0, ?_, ?_, f, U, W, M, D, n, cn, pn, rc, ft, sr, cd, pl, hb, hc, hm0⟩
    · rw [if_pos hy1]
    · rw [s_inF (Or.inl hy1), jcall_s, ← jl_0, if_pos rfl]
  by_cases hy2 : 240 < y
  · refine ⟨-1, μ, ν0, ?_, ?_, f, U, W, M, D, n, cn, pn, rc, ft, sr, cd, pl, hb, hc, hm0⟩
    · rw [if_neg hy1, if_neg (Int32.not_le.mpr hy2)]
    · rw [s_inF (Or.inr hy2), jcall_s, ← jl_0, if_pos rfl]
  rw [if_neg hy1, if_pos (Int32.not_lt.mp hy2), s_inT hy1 hy2, jcall_s]
  obtain ⟨m, hmm, rfl⟩ : ∃ m : Nat, m ≤ 240 ∧ y = nI m := by
    rcases nI_split (x := y) (m := 240) (by omega) with q | q | q
    · exact absurd (Int32.lt_iff_toInt_lt.mpr (by have h1 := Int32.lt_iff_toInt_lt.mp q; have h2 : (0 : Int32).toInt = 0 := rfl; have h3 : (1 : Int32).toInt = 1 := rfl; omega)) hy1
    · exact absurd (by rw [jl_240]; exact q) hy2
    · exact q
  have hm1 : 1 ≤ m := by rw [jl_1, nI_ltI (by omega) (by omega)] at hy1; omega
  rw [if_neg (show ¬ (nI 1 : Int32) = 0 by decide)]
  rcases s_append hc.2.1 (m := m) (by omega) x with ⟨hx, e⟩ | ⟨v, hv, rfl, ⟨hr, e⟩ | ⟨hr, μ', e, ho, hfr⟩⟩
  · refine ⟨-1, μ, ν0, ?_, ?_, f, U, W, M, D, n, cn, pn, rc, ft, sr, cd, pl, hb, hc, hm0⟩
    · rw [e]; rfl
    · rw [jl_255, s_inF hx, jcall_s, ← jl_0, if_pos rfl]
  · refine ⟨-2, μ, ν0, ?_, ?_, f, U, W, M, D, n, cn, pn, rc, ft, sr, cd, pl, hb, hc, hm0⟩
    · rw [e]; rfl
    · rw [s_inT (by rw [jl_0, nI_ltI (by omega) (by omega)]; omega) (by rw [jl_255, nI_ltI (by omega) (by omega)]; omega), jcall_s]
      simp (disch := omega) only [jlet_e, jcall_s, jin_n, jnz_n, jbl_0, jbl_1, nI_ofNat, jl_0, jl_1, jl_2, jl_3, jl_4, jl_5, jl_8, jl_60, jl_127, jl_128, jl_240, jl_255, jl_256, jl_400, jl_1000, jl_1000000, nI_ltI, nI_leI, nI_eq, nI_add, pk_sub, pk_mul, pk_div, pk_rem, nI_clamp, if_pos, if_neg, ite_true, ite_false, h6]
  · obtain ⟨ν', e2, g1, g2, g3, g4, g5⟩ := s_repeat_loop (m := m) (v := v) (n := n) (by omega) (by omega) hr m jFU 0 ν0 h6 (by unfold jFU; omega) (by omega)
    refine ⟨nI (n + m), μ', ν', by rw [e]; rfl, ?_, f, U, W, M, D, n + m, cn, pn, rc, ft, _, cd, pl, hb, hc.src hfr ho, hm0.src (fun k hk h6 => g5 k h6) (g4.1 2 (by decide)) (g4.1 3 (by decide)) ⟨g1, hr, by omega, fun i hi => ?_⟩⟩
    · rw [s_inT (by rw [jl_0, nI_ltI (by omega) (by omega)]; omega) (by rw [jl_255, nI_ltI (by omega) (by omega)]; omega), jcall_s]
      simp (disch := omega) only [jlet_e, jcall_s, jin_n, jnz_n, jbl_0, jbl_1, nI_ofNat, jl_0, jl_1, jl_2, jl_3, jl_4, jl_5, jl_8, jl_60, jl_127, jl_128, jl_240, jl_255, jl_256, jl_400, jl_1000, jl_1000000, nI_ltI, nI_leI, nI_eq, nI_add, pk_sub, pk_mul, pk_div, pk_rem, nI_clamp, if_pos, if_neg, ite_true, ite_false, h6]
      exact e2
    · by_cases hin : i < n
      · simp only [if_pos hin]
        rw [g2 i (by omega)]
        exact hm0.2.1.2.2.2 i hin
      · simp only [if_neg hin]
        exact ⟨by omega, g3 i (by omega) hi⟩
theorem al_fault {μ ν : jM} (h : REL μ ν) : AL (f_X5_fault μ) (f_X6_fault ν) := by
  obtain ⟨f, U, W, M, D, n, cn, pn, rc, ft, sr, cd, pl, hb, hc, hm⟩ := h
  have hm0 := hm.t0 0
  exact ⟨nI ft, μ, jsI ν 0 13 0, by unfold f_X5_fault; rw [hc.2.2.2.2.2], by unfold f_X6_fault; rw [jlet_e, hm0.2.2.2.2.2], f, U, W, M, D, n, cn, pn, rc, ft, sr, cd, pl, hb, hc, hm0⟩
theorem al_told {μ ν : jM} (h : REL μ ν) (x : Int32) : AL (f_X5_told x μ) (f_X6_told x ν) := by
  obtain ⟨f, U, W, M, D, n, cn, pn, rc, ft, sr, cd, pl, hb, hc, hm⟩ := h
  have hm0 := hm.t0 0
  unfold f_X5_told f_X6_told
  rw [jlet_e]
  generalize jsI ν 0 13 (0 : Int32) = ν0 at hm0 ⊢
  rw [hc.1.1, hc.2.1.1, hc.2.2.1.1, hc.2.2.2.1.1, hc.2.2.2.2.1, hm0.1.1, hm0.2.1.1, hm0.2.2.1.1, hm0.2.2.2.1.1, hm0.2.2.2.2.1]
  have key : ∀ r : Int32, AL (some (r, μ)) (some (r, ν0)) := fun r => ⟨r, μ, ν0, rfl, rfl, f, U, W, M, D, n, cn, pn, rc, ft, sr, cd, pl, hb, hc, hm0⟩
  repeat' split
  all_goals exact key _
theorem al_cut {μ ν : jM} (h : REL μ ν) (x y : Int32) : AL (f_X5_cut x y μ) (f_X6_cut x y ν) := by
  obtain ⟨f, U, W, M, D, n, cn, pn, rc, ft, sr, cd, pl, hb, hc, hm⟩ := h
  have hm0 := hm.t0 0
  unfold f_X5_cut f_X6_cut f_X5_rowOf f_X5_cut_22 f_X6_cut_37
  rw [jlet_e]
  generalize jsI ν 0 13 (0 : Int32) = ν0 at hm0 ⊢
  have key : ∀ r : Int32, AL (some (r, μ)) (some (r, ν0)) := fun r => ⟨r, μ, ν0, rfl, rfl, f, U, W, M, D, n, cn, pn, rc, ft, sr, cd, pl, hb, hc, hm0⟩
  have hn := hc.2.1.2.1
  have hcn := hc.2.2.1.2.1
  by_cases hx0 : x = 0
  · subst hx0
    rw [if_pos rfl, jcall_s, if_neg (by decide), if_pos rfl, s_inT (by decide) (by decide), jcall_s, if_neg (show ¬ (nI 1 : Int32) = 0 by decide), if_pos rfl]
    unfold f_X6_cut_31 f_X6_cut_37
    rw [hc.2.1.1, hm0.2.1.1]
    by_cases hy1 : y < 0
    · rw [if_pos hy1, s_inF (Or.inl hy1), jcall_s, ← jl_0, if_pos rfl]
      exact key _
    by_cases hy2 : nI n < y
    · rw [if_neg hy1, if_neg (Int32.not_le.mpr hy2), s_inF (Or.inr hy2), jcall_s, ← jl_0, if_pos rfl]
      exact key _
    obtain ⟨j, hj, rfl⟩ := (nI_split (x := y) (m := n) (by omega)).resolve_left hy1 |>.resolve_left hy2
    rw [if_neg hy1, if_pos (Int32.not_lt.mp hy2), s_inT hy1 hy2, jcall_s, if_neg (show ¬ (nI 1 : Int32) = 0 by decide), if_pos rfl]
    unfold f_X6_cut_54 f_X6_cut_70 f_X6_cut_87
    rw [jlet_e, jlet_e, jlet_e, if_pos rfl, jlet_e, if_neg (by decide), jlet_e, hm0.2.1.1]
    refine ⟨_, _, _, rfl, rfl, f, U, W, M, D, j, cn, pn, rc, ft, sr, cd, pl, hb, hc.src (Fr.I _ _ _ (by decide)) ⟨jsI_s _ _ _ _, by omega, by omega, fun i hi => ?_⟩, hm0.src (fun k hk h6 => ?_) ?_ ?_ ⟨?_, by omega, by omega, fun i hi => ?_⟩⟩
    · rw [jsI_c _ _ _ (by decide)]; exact hc.2.1.2.2.2 i (by omega)
    · by_cases h8 : k = 8
      · subst h8; rw [jsI_s, jsI_k _ _ (by decide)]
      · rw [jsI_k _ _ h8, jsI_k _ _ h6]
    · funext k; rw [jsI_c _ _ _ (by decide), jsI_c _ _ _ (by decide)]
    · funext k; rw [jsI_c _ _ _ (by decide), jsI_c _ _ _ (by decide)]
    · rw [jsI_k _ _ (by decide), jsI_s]
    · rw [jsI_c _ _ _ (by decide), jsI_c _ _ _ (by decide)]; exact hm0.2.1.2.2.2 i (by omega)
  by_cases hx1 : x = 1
  · subst hx1
    rw [if_neg (by decide), if_pos rfl, jcall_s, if_neg (by decide), if_neg (by decide), if_pos rfl, s_inT (by decide) (by decide), jcall_s, if_neg (show ¬ (nI 1 : Int32) = 0 by decide), if_neg (show ¬ (1 : Int32) = 0 by decide)]
    unfold f_X6_cut_31 f_X6_cut_37
    rw [hc.2.2.1.1, hm0.2.2.1.1]
    by_cases hy1 : y < 0
    · rw [if_pos hy1, s_inF (Or.inl hy1), jcall_s, ← jl_0, if_pos rfl]
      exact key _
    by_cases hy2 : nI cn < y
    · rw [if_neg hy1, if_neg (Int32.not_le.mpr hy2), s_inF (Or.inr hy2), jcall_s, ← jl_0, if_pos rfl]
      exact key _
    obtain ⟨j, hj, rfl⟩ := (nI_split (x := y) (m := cn) (by omega)).resolve_left hy1 |>.resolve_left hy2
    rw [if_neg hy1, if_pos (Int32.not_lt.mp hy2), s_inT hy1 hy2, jcall_s, if_neg (show ¬ (nI 1 : Int32) = 0 by decide), if_neg (show ¬ (1 : Int32) = 0 by decide)]
    unfold f_X6_cut_54 f_X6_cut_70 f_X6_cut_87
    rw [jlet_e, jlet_e, jlet_e, if_neg (by decide), jlet_e, if_pos rfl, jlet_e, hm0.2.2.1.1]
    refine ⟨_, _, _, rfl, rfl, f, U, W, M, D, n, j, pn, rc, ft, sr, cd, pl, hb, hc.cod (Fr.I _ _ _ (by decide)) ⟨jsI_s _ _ _ _, by omega, by omega, fun i hi => ?_⟩, hm0.cod (fun k hk h6 => ?_) ?_ ?_ ⟨?_, by omega, by omega, fun i hi => ?_⟩⟩
    · rw [jsI_c _ _ _ (by decide)]; exact hc.2.2.1.2.2.2 i (by omega)
    · by_cases h8 : k = 6
      · subst h8; rw [jsI_k _ _ (by decide), jsI_s]
      · rw [jsI_k _ _ h6, jsI_k _ _ h8]
    · funext k; rw [jsI_c _ _ _ (by decide), jsI_c _ _ _ (by decide)]
    · funext k; rw [jsI_c _ _ _ (by decide), jsI_c _ _ _ (by decide)]
    · rw [jsI_s]
    · rw [jsI_c _ _ _ (by decide), jsI_c _ _ _ (by decide)]; exact hm0.2.2.1.2.2.2 i (by omega)
  · rw [if_neg hx0, if_neg hx1, jcall_s, if_pos rfl, s_inF, jcall_s, ← jl_0, if_pos rfl]
    · exact key _
    · rcases nI_split (x := x) (m := 1) (by omega) with q | q | ⟨j, hj, rfl⟩
      · exact Or.inl q
      · exact Or.inr (by rw [jl_1]; exact q)
      · rcases (show j = 0 ∨ j = 1 by omega) with rfl | rfl
        · exact absurd jl_0.symm hx0
        · exact absurd jl_1.symm hx1
theorem al_at {μ ν : jM} (h : REL μ ν) (x y : Int32) : AL (f_X5_at x y μ) (f_X6_at x y ν) := by
  obtain ⟨f, U, W, M, D, n, cn, pn, rc, ft, sr, cd, pl, hb, hc, hm⟩ := h
  have hm0 := hm.t0 0
  unfold f_X5_at f_X6_at f_X5_rowOf f_X6_at_39
  rw [jlet_e]
  generalize jsI ν 0 13 (0 : Int32) = ν0 at hm0 ⊢
  have key : ∀ r : Int32, AL (some (r, μ)) (some (r, ν0)) := fun r => ⟨r, μ, ν0, rfl, rfl, f, U, W, M, D, n, cn, pn, rc, ft, sr, cd, pl, hb, hc, hm0⟩
  have hn := hc.2.1.2.1
  have hcn := hc.2.2.1.2.1
  have sub1 : ∀ m : Nat, m ≤ 1000 → y < 0 ∨ nI m ≤ y ∨ (∃ j, j < m ∧ y = nI j ∧ ¬ nI m - 1 < y) := fun m hm => by
    rcases pk_ix y (n := m) (by omega) with q | q | ⟨j, hj, rfl⟩
    · exact Or.inl q
    · exact Or.inr (Or.inl q)
    · refine Or.inr (Or.inr ⟨j, hj, rfl, ?_⟩)
      rw [jl_1, pk_sub (by omega), nI_ltI (by omega) (by omega)]
      omega
  have sub2 : ∀ m : Nat, m ≤ 1000 → ¬ y < 0 → nI m ≤ y → nI m - 1 < y := fun m hm h0 h1 => by
    obtain ⟨j, hj, rfl⟩ := nI_of h0
    rw [nI_leI (by omega) hj] at h1
    by_cases hz : m = 0
    · subst hz
      exact Int32.lt_iff_toInt_lt.mpr (by rw [nI_toInt hj]; have : (nI 0 - 1 : Int32).toInt = -1 := by decide +kernel
                                          omega)
    · rw [jl_1, pk_sub (by omega), nI_ltI (by omega) (by omega)]
      omega
  by_cases hx0 : x = 0
  · subst hx0
    rw [if_pos rfl, jcall_s, if_neg (by decide), if_pos rfl, s_inT (by decide) (by decide), jcall_s, if_neg (by decide), if_pos rfl]
    unfold f_X6_at_31 f_X6_at_39
    rw [hm0.2.1.1]
    rcases sub1 n (by omega) with q | q | ⟨j, hj, rfl, q⟩
    · rw [s_getN hc.2.1 (Or.inl q), s_inF (Or.inl q), jcall_s, jcall_s, ← jl_0, if_pos rfl]
      exact key _
    · by_cases q0 : y < 0
      · rw [s_getN hc.2.1 (Or.inl q0), s_inF (Or.inl q0), jcall_s, jcall_s, ← jl_0, if_pos rfl]
        exact key _
      rw [s_getN hc.2.1 (Or.inr q), s_inF (Or.inr (sub2 n (by omega) q0 q)), jcall_s, jcall_s, ← jl_0, if_pos rfl]
      exact key _
    · rw [s_get hc.2.1 hj, s_inT (by rw [jl_0, nI_ltI (by omega) (by omega)]; omega) q, jcall_s, jcall_s, if_neg (by decide), if_pos rfl, jin_n (by omega) (by omega), nI_clamp (by omega), (hm0.2.1.2.2.2 j hj).2]
      exact key _
  by_cases hx1 : x = 1
  · subst hx1
    rw [if_neg (by decide), if_pos rfl, jcall_s, if_neg (by decide), if_neg (by decide), if_pos rfl, s_inT (by decide) (by decide), jcall_s, if_neg (by decide), if_neg (by decide)]
    unfold f_X6_at_31 f_X6_at_39
    rw [hm0.2.2.1.1]
    rcases sub1 cn (by omega) with q | q | ⟨j, hj, rfl, q⟩
    · rw [s_getN hc.2.2.1 (Or.inl q), s_inF (Or.inl q), jcall_s, jcall_s, ← jl_0, if_pos rfl]
      exact key _
    · by_cases q0 : y < 0
      · rw [s_getN hc.2.2.1 (Or.inl q0), s_inF (Or.inl q0), jcall_s, jcall_s, ← jl_0, if_pos rfl]
        exact key _
      rw [s_getN hc.2.2.1 (Or.inr q), s_inF (Or.inr (sub2 cn (by omega) q0 q)), jcall_s, jcall_s, ← jl_0, if_pos rfl]
      exact key _
    · rw [s_get hc.2.2.1 hj, s_inT (by rw [jl_0, nI_ltI (by omega) (by omega)]; omega) q, jcall_s, jcall_s, if_neg (by decide), if_neg (by decide), jin_n (by omega) (by omega), nI_clamp (by omega), (hm0.2.2.1.2.2.2 j hj).2]
      exact key _
  · rw [if_neg hx0, if_neg hx1, jcall_s, if_pos rfl, s_inF, jcall_s, ← jl_0, if_pos rfl]
    · exact key _
    · rcases nI_split (x := x) (m := 1) (by omega) with q | q | ⟨j, hj, rfl⟩
      · exact Or.inl q
      · exact Or.inr (by rw [jl_1]; exact q)
      · rcases (show j = 0 ∨ j = 1 by omega) with rfl | rfl
        · exact absurd jl_0.symm hx0
        · exact absurd jl_1.symm hx1
