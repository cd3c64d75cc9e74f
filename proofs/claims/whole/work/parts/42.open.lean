theorem jb_0 : jb 0 = 0 := by decide +kernel
theorem s_fill {a n : Nat} (hn : n ≤ 1000) : ∀ (j fu k : Nat) (μ : jM), j < fu → k + j = n → ∃ μ', f_J7_fill_031fb_5 a n fu 0 (nI k) (nI n) μ = some ((), μ') ∧ Fr [a] μ μ' ∧ (∀ i, i < k → μ'.1 a i = μ.1 a i) ∧ ∀ i, k ≤ i → i < n → μ'.1 a i = 0 := by
  intro j
  induction j with
  | zero =>
    intro fu k μ hf hk
    obtain ⟨fu, rfl⟩ : ∃ g, fu = g + 1 := ⟨fu - 1, by omega⟩
    refine ⟨μ, ?_, Fr.rf, fun _ _ => rfl, fun i h1 h2 => by omega⟩
    rw [f_J7_fill_031fb_5.eq_2, if_pos (by rw [nI_leI (by omega) (by omega)]; omega)]
  | succ j ih =>
    intro fu k μ hf hk
    obtain ⟨fu, rfl⟩ : ∃ g, fu = g + 1 := ⟨fu - 1, by omega⟩
    obtain ⟨μ', e, h1, h2, h3⟩ := ih fu (k + 1) (jsI μ a k 0) (by omega) (by omega)
    refine ⟨μ', ?_, (Fr.I _ _ _ (by simp)).tr h1, fun i hi => ?_, fun i h4 h5 => ?_⟩
    · rw [f_J7_fill_031fb_5.eq_2, if_neg (by rw [nI_leI (by omega) (by omega)]; omega), jin_n (by omega) (by omega), nI_clamp (by omega), jlet_e, jl_1, nI_add, jlet_e]
      exact e
    · rw [h2 i (by omega), jsI_k _ _ (by omega)]
    · by_cases hi : i = k
      · rw [h2 i (by omega), hi, jsI_s]
      · exact h3 i (by omega) h5
theorem s_fillA {a n : Nat} (hn : n ≤ 1000) (μ : jM) : ∃ μ', f_J7_fill_031fb a n 0 μ = some ((), μ') ∧ Fr [a] μ μ' ∧ ∀ i, i < n → μ'.1 a i = 0 := by
  obtain ⟨μ', e, h1, -, h3⟩ := s_fill (a := a) hn n jFU 0 μ (by unfold jFU; omega) (by omega)
  refine ⟨μ', ?_, h1, fun i hi => h3 i (by omega) hi⟩
  unfold f_J7_fill_031fb
  rw [jlet_e]
  exact e
theorem s_become {μ : jM} {q N q1 N1 n : Nat} {a : Nat → Nat} (h : OC μ q1 N1 n a) (hn : n ≤ N) (hN : N ≤ 1000) (d1 : q1 + 1 ≠ q) (d2 : q1 ≠ q) : ∃ μ', f_X0_become q N q1 N1 μ = some ((), μ') ∧ OC μ' q N n a ∧ Fr [q, q + 1] μ μ' := by
  obtain ⟨h1, h2, h3, h4⟩ := h
  refine ⟨jcp (jsI μ q 1 (nI n)) (q1 + 1) 0 (q + 1) 0 n, ?_, ⟨?_, hn, hN, fun i hi => ?_⟩, (Fr.I _ _ _ (by simp)).tr (Fr.C _ (by simp))⟩
  · unfold f_X0_become
    rw [h1, nI_ofNat, if_neg (by rw [nI_ltI (by omega) (by omega)]; omega), jlet_e, jsI_s, jck_t, jlet_e, nI_clamp (by omega)]
    · rfl
    · refine ⟨by decide, by decide, ?_, ?_, ?_, fun i hi => ?_⟩
      · rw [jl_0, nI_ltI (by omega) (by omega)]; omega
      · rw [nI_clamp (by omega)]; show 0 + n ≤ N1; omega
      · rw [nI_clamp (by omega)]; show 0 + n ≤ N; omega
      · rw [nI_clamp (by omega)] at hi
        rw [jsI_c _ _ _ d1]
        show fits .byte (.int (μ.1 (q1 + 1) (0 + i))) = true
        rw [Nat.zero_add, (h4 i hi).2]
        exact jb_fit _
  · rw [(jcp_off _ _ _ _ _ _ q (by omega)).1, jsI_s]
  · rw [jcp_upd]
    unfold va_cpy
    rw [if_pos (by omega), jsI_c _ _ _ d1]
    simpa using h4 i hi
theorem MC.congr {ν0 ν : jM} {on : Nat} {s s' : Nat → Nat} (h : MC ν0 ν on s) (hs : ∀ i, i < on → s' i = s i) : MC ν0 ν on s' := ⟨h.1, h.2.1, h.2.2.1, h.2.2.2.1, h.2.2.2.2.1, fun i hi => by rw [hs i hi]; exact h.2.2.2.2.2 i hi⟩
theorem s_m138 {ν0 : jM} {on : Nat} {o : Nat → Nat} (hon : on ≤ 240) (ho : ∀ i, i < on → o i < 256) : ∀ (j fu k : Nat) (ν : jM), j < fu → k + j = on → (∀ k, k ≤ 12 → k ≠ 6 → ν.1 0 k = ν0.1 0 k) → ν.1 0 6 = nI on → ν.1 0 20 = nI on → ν.1 2 = ν0.1 2 → ν.1 3 = ν0.1 3 → (∀ i, i < k → ν.1 1 i = nI (o i)) → (∀ i, i < on → ν.1 7 i = nI (o i)) → ∃ ν', f_X6_open_138 fu (nI k) ν = f_X6_open_166 jFU (nI 1) ν' ∧ MC ν0 ν' on o := by
  intro j
  induction j with
  | zero =>
    intro fu k ν hf hk h1 h2 h3 h4 h5 h6 h7
    obtain ⟨fu, rfl⟩ : ∃ g, fu = g + 1 := ⟨fu - 1, by omega⟩
    refine ⟨ν, ?_, h1, h2, h3, h4, h5, fun i hi => ⟨ho i hi, h6 i (by omega)⟩⟩
    rw [f_X6_open_138.eq_2, h3, if_pos (by rw [nI_leI (by omega) (by omega)]; omega), jl_1]
  | succ j ih =>
    intro fu k ν hf hk h1 h2 h3 h4 h5 h6 h7
    obtain ⟨fu, rfl⟩ : ∃ g, fu = g + 1 := ⟨fu - 1, by omega⟩
    obtain ⟨ν', e, h'⟩ := ih fu (k + 1) (jsI ν 1 k (nI (o k))) (by omega) (by omega) (fun j hj h6 => (jsI_c _ _ _ (by decide)).trans (h1 j hj h6)) (by simp (decide := true) only [jsI_s, jsI_k, jsI_c, jsI_2, jsJ_1, ne_eq, not_false_eq_true, h2]) (by simp (decide := true) only [jsI_s, jsI_k, jsI_c, jsI_2, jsJ_1, ne_eq, not_false_eq_true, h3]) (by rw [← h4]; funext i; exact jsI_c _ _ _ (by decide)) (by rw [← h5]; funext i; exact jsI_c _ _ _ (by decide))
      (fun i hi => by
        by_cases hin : i = k
        · rw [hin, jsI_s]
        · rw [jsI_k _ _ hin]; exact h6 i (by omega)) (fun i hi => (jsI_c _ _ _ (by decide)).trans (h7 i hi))
    refine ⟨ν', ?_, h'⟩
    rw [f_X6_open_138.eq_2, h3, if_neg (by rw [nI_leI (by omega) (by omega)]; omega), jin_n (by omega) (by omega), jin_n (by omega) (by omega), nI_clamp (by omega), h7 k (by omega), jlet_e, jl_1, nI_add, jlet_e]
    exact e
theorem au_first {o : Nat → Nat} {U : Nat} (hU : U = 1 ∨ U = 2 ∨ U = 4) (ho : ∀ k, k < U → o k < 256) (i : Nat) : au o U U i = o i := by
  unfold au
  by_cases h : i < U
  · rw [if_pos h, Nat.div_eq_of_lt h, Nat.mod_eq_of_lt h]
    have := dgt_num (a := o) (b := 0) (k := i) hU (fun k hk => by rw [Nat.zero_add]; exact ho k hk) h
    simp only [Sp, Nat.zero_mul, Nat.zero_add] at this ⊢
    exact this
  · rw [if_neg h]
/-- how the opened bytes become source, in both -/
def opn (o : Nat → Nat) (U D on : Nat) : Nat → Nat := if D = 1 then au o U (on / U * U) else o
theorem s_m166all {ν0 ν : jM} {f U W M D on : Nat} {o : Nat → Nat} (hb : CB f U W M D) (hm : MF ν0 f U W M D) (hon : on ≤ 240) (ho : ∀ i, i < on → o i < 256) (h : MC ν0 ν on o) : ∃ ν', f_X6_open_166 jFU (nI 1) ν = some (nI on, ν') ∧ MC ν0 ν' on (opn o U D on) := by
  have hU := hb.2.1
  have hDb := hb.2.2.2.2.2.1
  unfold opn
  by_cases hD : D = 1
  · rw [if_pos hD]
    by_cases h0 : on / U = 0
    · refine ⟨ν, ?_, ?_⟩
      · rw [show jFU = 5999 + 1 from rfl, f_X6_open_166.eq_2, (h.mf hm).2.2.2.2, hD, if_pos (show nI 1 = 1 by decide), (h.mf hm).2.1, jnz_n (by omega) (by omega), h.2.2.1, pk_div (by omega) (by omega) (by omega), h0, if_pos (show nI 0 ≤ nI 1 by decide)]
        unfold f_X6_open_258
        rw [h.2.1]
      · rw [h0, Nat.zero_mul, au_0]
        exact h
    · have hpos := Nat.pos_of_ne_zero h0
      have h1 : 0 * U + U ≤ on := div_ge (by omega) hpos
      obtain ⟨ν', e, h'⟩ := s_m166 (o := o) hb hm hD hon ho (on / U - 1) jFU 1 ν (by have := Nat.div_le_self on U; unfold jFU; omega) (by omega) (by omega) (h.congr (fun i hi => by rw [Nat.one_mul]; exact au_first hU (fun k hk => ho k (by omega)) i))
      exact ⟨ν', e, h'⟩
  · rw [if_neg hD]
    refine ⟨ν, ?_, h⟩
    rw [show jFU = 5999 + 1 from rfl, f_X6_open_166.eq_2, (h.mf hm).2.2.2.2, if_neg (by rw [jl_1, nI_eq (by omega) (by omega)]; exact hD)]
    unfold f_X6_open_258
    rw [h.2.1]
theorem s_run77 {μ0 μ : jM} {f U W M D pl p on x y : Nat} {o : Nat → Nat} (hb : CB f U W M D) (hc : CF μ0 f U W M D) (h : CO μ0 μ pl p on x y 1 o) (h3 : μ.1 14 3 = nI 0) : ∃ μ', f_X1_run_77 μ = some ((), μ') ∧ CO μ0 μ' pl p on x y 1 (opn o U D on) ∧ μ'.1 14 3 = nI 0 := by
  have hDb := hb.2.2.2.2.2.1
  unfold f_X1_run_77 opn
  rw [h3, if_pos (show nI 0 = 0 by decide), (h.cf hc).2.2.2.2]
  by_cases hD : D = 1
  · rw [if_pos (by rw [hD]; decide), if_pos hD]
    have hU := hb.2.1
    obtain ⟨μ', e, h', g'⟩ := s_au4 (on := on) (o := o) hb hc (fun i hi => (h.2.2.2.2.2.2.2.2 i hi).1) (on / U) jFU 0 μ (by have := Nat.div_le_self on U; have := h.2.2.2.2.2.2.2.1; unfold jFU; omega) (by omega) (by rw [Nat.zero_mul, au_0]; exact h)
    refine ⟨μ', ?_, h', g'.trans h3⟩
    unfold f_X1_addUp
    rw [jl_0]
    have e0 : Sp o U 0 = 0 := rfl
    rw [e0] at e
    rw [e, jcall_s]
  · rw [if_neg (by rw [jl_1, nI_eq (by omega) (by omega)]; exact hD), if_neg hD]
    exact ⟨μ, rfl, h, h3⟩
theorem s_run {μ0 ν0 : jM} {f U W M D n cn pn rc ft : Nat} {sr cd pl : Nat → Nat} (hb : CB f U W M D) (hc : CS μ0 f U W M D n cn pn rc ft sr cd pl) : ∃ μ, f_X1_run μ0 = f_X1_run_34 jFU (nI 0) μ ∧ μ.1 14 3 = nI 0 ∧ ∃ pl, CO μ0 μ pl 0 0 0 0 0 (fun _ => 0) := by
  obtain ⟨μ1, e1, h1, h2⟩ := s_fillA (a := 16) (n := 240) (by omega) μ0
  obtain ⟨pl0, -, hpl⟩ := wb_of32 (μ1.1 14 4)
  refine ⟨jsI (jsI (jsI (jsI (jsI (jsI μ1 15 1 (nI 0)) 14 3 (nI 0)) 14 5 (nI 0)) 14 6 (nI 0)) 14 7 (nI 0)) 14 8 (nI 0), ?_, ?_, pl0, ?_, ?_, ?_, ?_, ?_, ?_, ?_, by omega, fun i hi => ⟨show 0 < 256 by decide, ?_⟩⟩
  · unfold f_X1_run f_X0_blank
    rw [e1, jcall_s, jlet_e, jcall_s, jlet_e, jlet_e, jl_0, jbl_0, jlet_e, jlet_e, jlet_e]
  · simp (decide := true) only [jsI_s, jsI_k, jsI_c, jsI_2, jsJ_1, ne_eq, not_false_eq_true]
  · exact (h1.up (by decide)).tr ((Fr.I _ _ _ (by decide)).tr ((Fr.I _ _ _ (by decide)).tr ((Fr.I _ _ _ (by decide)).tr ((Fr.I _ _ _ (by decide)).tr ((Fr.I _ _ _ (by decide)).tr (Fr.I _ _ _ (by decide)))))))
  · simp (decide := true) only [jsI_s, jsI_k, jsI_c, jsI_2, jsJ_1, ne_eq, not_false_eq_true, hpl]
  · simp (decide := true) only [jsI_s, jsI_k, jsI_c, jsI_2, jsJ_1, ne_eq, not_false_eq_true]
  · simp (decide := true) only [jsI_s, jsI_k, jsI_c, jsI_2, jsJ_1, ne_eq, not_false_eq_true]
  · simp (decide := true) only [jsI_s, jsI_k, jsI_c, jsI_2, jsJ_1, ne_eq, not_false_eq_true]
  · simp (decide := true) only [jsI_s, jsI_k, jsI_c, jsI_2, jsJ_1, ne_eq, not_false_eq_true]
  · simp (decide := true) only [jsI_s, jsI_k, jsI_c, jsI_2, jsJ_1, ne_eq, not_false_eq_true]
  · simp (decide := true) only [jsI_s, jsI_k, jsI_c, jsI_2, jsJ_1, ne_eq, not_false_eq_true, h2 i hi, jb_0]
theorem s_mopen {ν0 : jM} {f U W M D n cn pn rc ft : Nat} {sr cd pl : Nat → Nat} (hm : MS ν0 f U W M D n cn pn rc ft sr cd pl) : ∃ ν, f_X6_open ν0 = f_X6_open_57 jFU ν ∧ MO ν0 ν 0 0 0 0 0 (fun _ => 0) := by
  have loop : ∀ (j fu k : Nat) (ν : jM), j < fu → k + j = 256 → ∃ ν', f_X6_open_37 fu (nI k) ν = f_X6_open_57 jFU ν' ∧ Fr [7] ν ν' ∧ (∀ i, i < k → ν'.1 7 i = ν.1 7 i) ∧ ∀ i, k ≤ i → i < 256 → ν'.1 7 i = nI 0 := by
    intro j
    induction j with
    | zero =>
      intro fu k ν hf hk
      obtain ⟨fu, rfl⟩ : ∃ g, fu = g + 1 := ⟨fu - 1, by omega⟩
      refine ⟨ν, ?_, Fr.rf, fun _ _ => rfl, fun i h1 h2 => by omega⟩
      rw [f_X6_open_37.eq_2, if_pos (by rw [jl_256, nI_leI (by omega) (by omega)]; omega)]
    | succ j ih =>
      intro fu k ν hf hk
      obtain ⟨fu, rfl⟩ : ∃ g, fu = g + 1 := ⟨fu - 1, by omega⟩
      obtain ⟨ν', e, h1, h2, h3⟩ := ih fu (k + 1) (jsI ν 7 k (nI 0)) (by omega) (by omega)
      refine ⟨ν', ?_, (Fr.I _ _ _ (by decide)).tr h1, fun i hi => ?_, fun i h4 h5 => ?_⟩
      · rw [f_X6_open_37.eq_2, if_neg (by rw [jl_256, nI_leI (by omega) (by omega)]; omega), jin_n (by omega) (by omega), nI_clamp (by omega), jlet_e, jl_1, nI_add, jlet_e, jl_0]
        exact e
      · rw [h2 i (by omega), jsI_k _ _ (by omega)]
      · by_cases hi : i = k
        · rw [h2 i (by omega), hi, jsI_s]
        · exact h3 i (by omega) h5
  obtain ⟨ν', e, h1, -, h3⟩ := loop 256 jFU 0 (jsI (jsI (jsI (jsI (jsI (jsI (jsI ν0 0 13 (nI 0)) 0 12 (nI 0)) 0 20 (nI 0)) 0 21 (nI 0)) 0 22 (nI 0)) 0 23 (nI 0)) 0 24 (nI 0)) (by unfold jFU; omega) (by omega)
  refine ⟨ν', ?_, ⟨⟨fun k hk => ?_, ?_, ?_, ?_⟩, ?_⟩, ?_, ?_, ?_, ?_, ?_, by omega, fun i hi => ⟨show 0 < 256 by decide, h3 i (by omega) (by omega)⟩⟩
  · unfold f_X6_open
    rw [jlet_e, jlet_e, jlet_e, jlet_e, jlet_e, jlet_e, jl_0, jbl_0, jlet_e]
    exact e
  · rw [h1.at (by decide), jsI_k _ _ (by omega), jsI_k _ _ (by omega), jsI_k _ _ (by omega), jsI_k _ _ (by omega), jsI_k _ _ (by omega), jsI_k _ _ (by omega), jsI_k _ _ (by omega)]
  · funext k; rw [h1.at (by decide)]; simp (decide := true) only [jsI_s, jsI_k, jsI_c, jsI_2, jsJ_1, ne_eq, not_false_eq_true]
  · funext k; rw [h1.at (by decide)]; simp (decide := true) only [jsI_s, jsI_k, jsI_c, jsI_2, jsJ_1, ne_eq, not_false_eq_true]
  · funext k; rw [h1.at (by decide)]; simp (decide := true) only [jsI_s, jsI_k, jsI_c, jsI_2, jsJ_1, ne_eq, not_false_eq_true]
  · rw [h1.at (by decide)]; simp (decide := true) only [jsI_s, jsI_k, jsI_c, jsI_2, jsJ_1, ne_eq, not_false_eq_true]
  · rw [h1.at (by decide)]; simp (decide := true) only [jsI_s, jsI_k, jsI_c, jsI_2, jsJ_1, ne_eq, not_false_eq_true]
  · rw [h1.at (by decide)]; simp (decide := true) only [jsI_s, jsI_k, jsI_c, jsI_2, jsJ_1, ne_eq, not_false_eq_true]
  · rw [h1.at (by decide)]; simp (decide := true) only [jsI_s, jsI_k, jsI_c, jsI_2, jsJ_1, ne_eq, not_false_eq_true]
  · rw [h1.at (by decide)]; simp (decide := true) only [jsI_s, jsI_k, jsI_c, jsI_2, jsJ_1, ne_eq, not_false_eq_true]
  · rw [h1.at (by decide)]; simp (decide := true) only [jsI_s, jsI_k, jsI_c, jsI_2, jsJ_1, ne_eq, not_false_eq_true]
theorem CS.op {μ μ' : jM} {f U W M D n cn pn rc ft ft' : Nat} {sr cd pl : Nat → Nat} (h : CS μ f U W M D n cn pn rc ft sr cd pl) (hfr : Fr [14, 15, 16] μ μ') (h3 : μ'.1 14 3 = nI ft') : CS μ' f U W M D n cn pn rc ft' sr cd pl := by
  obtain ⟨h1, h2, h3', h4, h5, h6⟩ := h
  refine ⟨h1.of (hfr.1 1 (by decide)), OC_of h2 (hfr.1 2 (by decide)) (hfr.1 3 (by decide)), OC_of h3' (hfr.1 4 (by decide)) (hfr.1 5 (by decide)), ⟨?_, h4.2.1, fun i hi => ?_⟩, ?_, h3⟩
  · rw [hfr.at (by decide)]; exact h4.1
  · rw [hfr.at (by decide)]; exact h4.2.2 i hi
  · rw [hfr.at (by decide)]; exact h5
theorem al_open {μ ν : jM} (h : REL μ ν) : AL (f_X5_open μ) (f_X6_open ν) := by
  obtain ⟨f, U, W, M, D, n, cn, pn, rc, ft, sr, cd, pl, hb, hc, hm⟩ := h
  obtain ⟨μ1, e1, h3, pl1, hco⟩ := s_run (ν0 := ν) hb hc
  obtain ⟨ν1, e2, hmo⟩ := s_mopen hm
  have hcn := hc.2.2.1.2.1
  have hres := open_loop hb hc.1 hc.2.2.1 hm.1 hm.2.2.1 cn jFU jFU 0 0 0 0 0 pl1 (fun _ => 0) μ1 ν1 (by omega) (by unfold jFU; omega) (by unfold jFU; omega) (by omega) (by omega) (by omega) (by omega) (by omega) hco h3 hmo
  rw [← e1, ← e2] at hres
  unfold f_X5_open
  rcases hres with ⟨ft', pl', μ', ν', q1, q2, q3, q4, q5, q6, q7, q8, q9, q10⟩ | ⟨pl', pc, p', on, x, y, o, μ', ν', q1, q2, q3, q4, q5⟩
  · rw [q4, q5, jcall_s, q7, if_neg (nI_ne0' q1 (by omega)), q8]
    refine ⟨_, μ', ν', rfl, rfl, f, U, W, M, D, n, cn, pn, rc, ft', sr, cd, pl, hb, hc.op q6 q7, ?_⟩
    obtain ⟨⟨a1, a2, a3, a4, a5⟩, m2, m3, m4, m5, m6⟩ := hm
    obtain ⟨k0, k1, k2, k3⟩ := q9
    exact ⟨⟨(k0 0 (by omega)).trans a1, (k0 1 (by omega)).trans a2, (k0 2 (by omega)).trans a3, (k0 3 (by omega)).trans a4, (k0 4 (by omega)).trans a5⟩, ⟨(k0 6 (by omega)).trans m2.1, m2.2.1, m2.2.2.1, fun i hi => by rw [k1]; exact m2.2.2.2 i hi⟩, ⟨(k0 8 (by omega)).trans m3.1, m3.2.1, m3.2.2.1, fun i hi => by rw [k2]; exact m3.2.2.2 i hi⟩, ⟨(k0 10 (by omega)).trans m4.1, m4.2.1, m4.2.2.1, fun i hi => by rw [k3]; exact m4.2.2.2 i hi⟩, (k0 11 (by omega)).trans m5, q10⟩
  · obtain ⟨μ2, f1, f2, f3⟩ := s_run77 hb hc.1 q3 q2
    obtain ⟨μ3, g1, g2, g3⟩ := s_become (q := 2) (N := 240) f2.op (f2.2.2.2.2.2.2.2.1) (by omega) (by decide) (by decide)
    have hon := q5.2.2.2.2.2.2.1
    have ho : ∀ i, i < on → o i < 256 := fun i hi => (q5.2.2.2.2.2.2.2 i (by omega)).1
    obtain ⟨ν2, r1, r2⟩ := s_m138 (ν0 := jsI ν 0 12 (nI 0)) hon ho on jFU 0 (jsI ν' 0 6 (nI on)) (by unfold jFU; omega) (by omega) (fun k hk h6 => by
        by_cases h12 : k = 12
        · subst h12; rw [jsI_k _ _ (by decide), jsI_s]; exact q5.1.2
        · rw [jsI_k _ _ h6, jsI_k _ _ h12]; exact q5.1.1.1 k (by omega)) (jsI_s _ _ _ _) (by simp (decide := true) only [jsI_s, jsI_k, jsI_c, jsI_2, jsJ_1, ne_eq, not_false_eq_true, q5.2.2.2.2.2.1]) (by funext k; simp (decide := true) only [jsI_s, jsI_k, jsI_c, jsI_2, jsJ_1, ne_eq, not_false_eq_true, q5.1.1.2.2.1]) (by funext k; simp (decide := true) only [jsI_s, jsI_k, jsI_c, jsI_2, jsJ_1, ne_eq, not_false_eq_true, q5.1.1.2.2.2]) (fun i hi => by omega) (fun i hi => by rw [jsI_c _ _ _ (by decide)]; exact (q5.2.2.2.2.2.2.2 i (by omega)).2)
    have hm12 : MF (jsI ν 0 12 (nI 0)) f U W M D := by
      obtain ⟨a1, a2, a3, a4, a5⟩ := hm.1
      exact ⟨by simp (decide := true) only [jsI_s, jsI_k, jsI_c, jsI_2, jsJ_1, ne_eq, not_false_eq_true, a1], by simp (decide := true) only [jsI_s, jsI_k, jsI_c, jsI_2, jsJ_1, ne_eq, not_false_eq_true, a2], by simp (decide := true) only [jsI_s, jsI_k, jsI_c, jsI_2, jsJ_1, ne_eq, not_false_eq_true, a3], by simp (decide := true) only [jsI_s, jsI_k, jsI_c, jsI_2, jsJ_1, ne_eq, not_false_eq_true, a4], by simp (decide := true) only [jsI_s, jsI_k, jsI_c, jsI_2, jsJ_1, ne_eq, not_false_eq_true, a5]⟩
    obtain ⟨ν3, t1, t2⟩ := s_m166all hb hm12 hon ho r2
    rw [q1, f1, jcall_s, f3, if_pos (show nI 0 = 0 by decide), g1, jcall_s, g2.1, q4, r1, t1]
    refine ⟨nI on, μ3, ν3, rfl, rfl, f, U, W, M, D, on, cn, pn, rc, 0, opn o U D on, cd, pl, hb, (hc.op f2.1 f3).src g3 g2, ?_⟩
    obtain ⟨⟨a1, a2, a3, a4, a5⟩, m2, m3, m4, m5, m6⟩ := hm
    have kk : ∀ k, k ≤ 11 → k ≠ 6 → ν3.1 0 k = ν.1 0 k := fun k hk h6 => (t2.1 k (by omega) h6).trans (jsI_k _ _ (by omega))
    have k2 : ν3.1 2 = ν.1 2 := t2.2.2.2.1.trans (by funext k; simp (decide := true) only [jsI_s, jsI_k, jsI_c, jsI_2, jsJ_1, ne_eq, not_false_eq_true])
    have k3 : ν3.1 3 = ν.1 3 := t2.2.2.2.2.1.trans (by funext k; simp (decide := true) only [jsI_s, jsI_k, jsI_c, jsI_2, jsJ_1, ne_eq, not_false_eq_true])
    exact ⟨⟨(kk 0 (by omega) (by omega)).trans a1, (kk 1 (by omega) (by omega)).trans a2, (kk 2 (by omega) (by omega)).trans a3, (kk 3 (by omega) (by omega)).trans a4, (kk 4 (by omega) (by omega)).trans a5⟩, ⟨t2.2.1, hon, by omega, t2.2.2.2.2.2⟩, ⟨(kk 8 (by omega) (by omega)).trans m3.1, m3.2.1, m3.2.2.1, fun i hi => by rw [k2]; exact m3.2.2.2 i hi⟩, ⟨(kk 10 (by omega) (by omega)).trans m4.1, m4.2.1, m4.2.2.1, fun i hi => by rw [k3]; exact m4.2.2.2 i hi⟩, (kk 11 (by omega) (by omega)).trans m5, (t2.1 12 (by omega) (by omega)).trans (jsI_s _ _ _ _)⟩
