theorem s_m40 {ν0 : jM} {n : Nat} (hn : n ≤ 400) : ∀ (j fu k : Nat) (ν : jM), j < fu → k + j = n → ((∀ k, k ≤ 9 ∨ k = 12 → ν.1 0 k = ν0.1 0 k) ∧ ν.1 1 = ν0.1 1 ∧ ν.1 2 = ν0.1 2 ∧ ν.1 0 10 = nI n ∧ ν.1 0 11 = nI 0 ∧ ∀ i, i < k → ν.1 3 i = nI 0) → ∃ ν', f_X6_plain_40 fu (nI n) (nI k) ν = (if (ν'.1 0 0) = (0 : Int32) then (jcall (f_X6_plainMarked  ν') (fun (r5 : Int32) (μ5 : jM) => f_X6_plain_91    r5 μ5)) else (if (ν'.1 0 0) = (1 : Int32) then (jcall (f_X6_plainSigned  ν') (fun (r3 : Int32) (μ3 : jM) => f_X6_plain_91    r3 μ3)) else (jcall (f_X6_plainRows  ν') (fun (r2 : Int32) (μ2 : jM) => f_X6_plain_91    r2 μ2)))) ∧ MN ν0 ν' 0 n (fun _ => 0) := by
  intro j
  induction j with
  | zero =>
    intro fu k ν hf hk h
    obtain ⟨fu, rfl⟩ : ∃ g, fu = g + 1 := ⟨fu - 1, by omega⟩
    obtain ⟨h1, h2, h3, h4, h5, h6⟩ := h
    refine ⟨ν, ?_, h1, h2, h3, h4, h5, hn, fun i hi => ⟨show 0 < 256 by decide, h6 i (by omega)⟩⟩
    rw [f_X6_plain_40.eq_2, if_pos (by rw [nI_leI (by omega) (by omega)]; omega)]
  | succ j ih =>
    intro fu k ν hf hk h
    obtain ⟨fu, rfl⟩ : ∃ g, fu = g + 1 := ⟨fu - 1, by omega⟩
    obtain ⟨h1, h2, h3, h4, h5, h6⟩ := h
    have e : f_X6_plain_40 (fu + 1) (nI n) (nI k) ν = f_X6_plain_40 fu (nI n) (nI (k + 1)) (jsI ν 3 k (nI 0)) := by
      rw [f_X6_plain_40.eq_2, if_neg (by rw [nI_leI (by omega) (by omega)]; omega), jin_n (by omega) (by omega), nI_clamp (by omega), jlet_e, jl_1, nI_add, jlet_e, jl_0]
    rw [e]
    refine ih fu (k + 1) _ (by omega) (by omega) ⟨fun q hq => by rw [jsI_c _ _ _ (by decide)]; exact h1 q hq, ?_, ?_, ?_, ?_, fun i hi => ?_⟩
    · rw [← h2]; funext i; exact jsI_c _ _ _ (by decide)
    · rw [← h3]; funext i; exact jsI_c _ _ _ (by decide)
    · simp (decide := true) only [jsI_s, jsI_k, jsI_c, jsI_2, jsJ_1, ne_eq, not_false_eq_true, h4]
    · simp (decide := true) only [jsI_s, jsI_k, jsI_c, jsI_2, jsJ_1, ne_eq, not_false_eq_true, h5]
    · by_cases hin : i = k
      · rw [hin, jsI_s]
      · rw [jsI_k _ _ hin]; exact h6 i (by omega)
theorem CS.pln {μ μ' : jM} {f U W M D n cn pn rc ft pn' rc' : Nat} {sr cd pl pl' : Nat → Nat} (h : CS μ f U W M D n cn pn rc ft sr cd pl) (hfr : Fr [17, 18] μ μ') (a1 : μ'.1 17 3 = nI pn') (a2 : pn' ≤ 400) (a3 : ∀ i, i < pn' → pl' i < 256 ∧ μ'.1 18 i = jb (pl' i)) (a4 : μ'.1 17 4 = nI rc') : CS μ' f U W M D n cn pn' rc' ft sr cd pl' := by
  obtain ⟨h1, h2, h3, h4, h5, h6⟩ := h
  exact ⟨h1.of (hfr.1 1 (by decide)), OC_of h2 (hfr.1 2 (by decide)) (hfr.1 3 (by decide)), OC_of h3 (hfr.1 4 (by decide)) (hfr.1 5 (by decide)), ⟨a1, a2, a3⟩, a4, by rw [hfr.at (by decide)]; exact h6⟩
theorem MS.pln {ν ν' : jM} {f U W M D n cn pn rc ft pn' rc' : Nat} {sr cd pl pl' : Nat → Nat} (h : MS ν f U W M D n cn pn rc ft sr cd pl) (g : MN ν ν' rc' pn' pl') : MS ν' f U W M D n cn pn' rc' ft sr cd pl' := by
  obtain ⟨⟨a1, a2, a3, a4, a5⟩, h2, h3, h4, h5, h6⟩ := h
  obtain ⟨e, e1, e2, g4, g5, g6, g7⟩ := g
  exact ⟨⟨(e 0 (by omega)).trans a1, (e 1 (by omega)).trans a2, (e 2 (by omega)).trans a3, (e 3 (by omega)).trans a4, (e 4 (by omega)).trans a5⟩, ⟨(e 6 (by omega)).trans h2.1, h2.2.1, h2.2.2.1, fun i hi => by rw [e1]; exact h2.2.2.2 i hi⟩, ⟨(e 8 (by omega)).trans h3.1, h3.2.1, h3.2.2.1, fun i hi => by rw [e2]; exact h3.2.2.2 i hi⟩, ⟨g4, g6, by omega, g7⟩, g5, (e 12 (by omega)).trans h6⟩
theorem al_plain {μ ν : jM} (h : REL μ ν) (x : Int32) : AL (f_X5_plain x μ) (f_X6_plain x ν) := by
  obtain ⟨f, U, W, M, D, n, cn, pn, rc, ft, sr, cd, pl, hb, hc, hm⟩ := h
  have hm0 := hm.t0 0
  unfold f_X5_plain f_X6_plain
  rw [jlet_e]
  generalize jsI ν 0 13 (0 : Int32) = ν0 at hm0 ⊢
  have key : ∀ r : Int32, AL (some (r, μ)) (some (r, ν0)) := fun r => ⟨r, μ, ν0, rfl, rfl, f, U, W, M, D, n, cn, pn, rc, ft, sr, cd, pl, hb, hc, hm0⟩
  by_cases h4 : x ≤ 400
  · rw [if_pos h4, if_pos h4]
    obtain ⟨μ1, e1, f1, f2⟩ := s_fillA (a := 18) (n := 400) (by omega) μ
    unfold f_X3_fill
    rw [e1, jcall_s]
    by_cases h0 : x < 0
    · have h0' : ¬ (0 : Int32) ≤ x := Int32.not_le.mpr h0
      have h4' : ¬ (400 : Int32) < x := Int32.not_lt.mpr h4
      have h0'' : ¬ (0 : Int32) < x := fun z => h0' (Int32.le_of_lt z)
      unfold f_X6_plain_24
      rw [if_neg h4', if_neg h0'', jlet_e, jlet_e, if_neg h0', jcall_s, if_neg h0', jlet_e, jlet_e, if_neg h0', jl_2, jl_0]
      refine ⟨nI 2, _, _, rfl, rfl, f, U, W, M, D, n, cn, 0, 0, ft, sr, cd, fun _ => 0, hb, hc.pln ((f1.up (by decide)).tr ((Fr.I _ _ _ (by decide)).tr (Fr.I _ _ _ (by decide)))) (by simp (decide := true) only [jsI_s, jsI_k, jsI_c, jsI_2, jsJ_1, ne_eq, not_false_eq_true]) (by omega) (fun i hi => by omega) (by simp (decide := true) only [jsI_s, jsI_k, jsI_c, jsI_2, jsJ_1, ne_eq, not_false_eq_true]), hm0.pln ⟨fun k hk => ?_, ?_, ?_, ?_, ?_, by omega, fun i hi => by omega⟩⟩
      · rw [jsI_k _ _ (by omega), jsI_k _ _ (by omega)]
      · funext k; simp (decide := true) only [jsI_s, jsI_k, jsI_c, jsI_2, jsJ_1, ne_eq, not_false_eq_true]
      · funext k; simp (decide := true) only [jsI_s, jsI_k, jsI_c, jsI_2, jsJ_1, ne_eq, not_false_eq_true]
      · simp (decide := true) only [jsI_s, jsI_k, jsI_c, jsI_2, jsJ_1, ne_eq, not_false_eq_true]
      · simp (decide := true) only [jsI_s, jsI_k, jsI_c, jsI_2, jsJ_1, ne_eq, not_false_eq_true]
    · obtain ⟨m, hm', rfl⟩ := nI_of_lit (m := 400) (by omega) h0 (by rw [← jl_400]; exact Int32.not_lt.mpr h4)
      have h0' : (0 : Int32) ≤ nI m := Int32.not_lt.mp h0
      have hmn : (if (0 : Int32) < (if (400 : Int32) < nI m then (400 : Int32) else nI m) then (if (400 : Int32) < nI m then (400 : Int32) else nI m) else (0 : Int32)) = nI m := by
        rw [if_neg (Int32.not_lt.mpr h4)]
        by_cases hz : m = 0
        · rw [hz]; decide
        · rw [if_pos (by rw [jl_0, nI_ltI (by omega) (by omega)]; omega)]
      rw [hmn, jlet_e, jlet_e, if_pos h0', jlet_e, jl_0, jbl_0, jlet_e, jlet_e, jlet_e, ← jl_0, if_pos h0', jl_0]
      unfold f_X6_plain_24
      rw [jlet_e, jlet_e, ← jl_0, if_pos h0', jl_0]
      obtain ⟨ν2, e2, g2⟩ := s_m40 (ν0 := ν0) hm' m jFU 0 (jsI (jsI ν0 0 10 (nI m)) 0 11 (nI 0)) (by unfold jFU; omega) (by omega) ⟨fun k hk => by rw [jsI_k _ _ (by omega), jsI_k _ _ (by omega)], by funext k; simp (decide := true) only [jsI_s, jsI_k, jsI_c, jsI_2, jsJ_1, ne_eq, not_false_eq_true], by funext k; simp (decide := true) only [jsI_s, jsI_k, jsI_c, jsI_2, jsJ_1, ne_eq, not_false_eq_true], by simp (decide := true) only [jsI_s, jsI_k, jsI_c, jsI_2, jsJ_1, ne_eq, not_false_eq_true], by simp (decide := true) only [jsI_s, jsI_k, jsI_c, jsI_2, jsJ_1, ne_eq, not_false_eq_true], fun i hi => by omega⟩
      rw [e2]
      have hCN : CN μ (jsI (jsI (jsI (jsI (jsI (jsI μ1 17 3 (nI m)) 17 4 (nI 0)) 17 5 (nI 0)) 17 6 (nI 0)) 17 7 (nI 0)) 17 8 (nI 0)) 0 0 0 0 0 m (fun _ => 0) := by
        refine ⟨(f1.up (by decide)).tr ((Fr.I _ _ _ (by decide)).tr ((Fr.I _ _ _ (by decide)).tr ((Fr.I _ _ _ (by decide)).tr ((Fr.I _ _ _ (by decide)).tr ((Fr.I _ _ _ (by decide)).tr (Fr.I _ _ _ (by decide))))))), ?_, ?_, ?_, ?_, ?_, ?_, hm', fun i hi => ⟨show 0 < 256 by decide, ?_⟩⟩
        · simp (decide := true) only [jsI_s, jsI_k, jsI_c, jsI_2, jsJ_1, ne_eq, not_false_eq_true]
        · simp (decide := true) only [jsI_s, jsI_k, jsI_c, jsI_2, jsJ_1, ne_eq, not_false_eq_true]
        · simp (decide := true) only [jsI_s, jsI_k, jsI_c, jsI_2, jsJ_1, ne_eq, not_false_eq_true]
        · simp (decide := true) only [jsI_s, jsI_k, jsI_c, jsI_2, jsJ_1, ne_eq, not_false_eq_true]
        · simp (decide := true) only [jsI_s, jsI_k, jsI_c, jsI_2, jsJ_1, ne_eq, not_false_eq_true]
        · simp (decide := true) only [jsI_s, jsI_k, jsI_c, jsI_2, jsJ_1, ne_eq, not_false_eq_true]
        · simp (decide := true) only [jsI_s, jsI_k, jsI_c, jsI_2, jsJ_1, ne_eq, not_false_eq_true, f2 i (show i < 400 by omega), jb_0]
      have hcn := hc.2.2.1.2.1
      have fin : ∀ b : Option (Int32 × jM), PRES μ ν0 m (f_X3_fill_56 jFU (nI 0) (jsI (jsI (jsI (jsI (jsI (jsI μ1 17 3 (nI m)) 17 4 (nI 0)) 17 5 (nI 0)) 17 6 (nI 0)) 17 7 (nI 0)) 17 8 (nI 0))) b → AL (jcall (f_X3_fill_56 jFU (nI 0) (jsI (jsI (jsI (jsI (jsI (jsI μ1 17 3 (nI m)) 17 4 (nI 0)) 17 5 (nI 0)) 17 6 (nI 0)) 17 7 (nI 0)) 17 8 (nI 0))) (fun (r1 : Int32) (μ1 : jM) => some (r1, μ1))) (jcall b (fun (r5 : Int32) (μ5 : jM) => f_X6_plain_91 r5 μ5)) := by
        intro b hp
        obtain ⟨μ', ν', p, y, x, en, rc', pl', hor, k1, k2⟩ := hp
        have hrel : REL μ' ν' := ⟨f, U, W, M, D, n, cn, m, rc', ft, sr, cd, pl', hb, hc.pln k1.1 k1.2.1 k1.2.2.2.2.2.2.2.1 k1.2.2.2.2.2.2.2.2 k1.2.2.1, hm0.pln k2⟩
        unfold f_X6_plain_91
        rcases hor with ⟨a1, a2⟩ | ⟨a1, a2⟩
        · rw [a1, a2, jcall_s, jcall_s, if_neg (show ¬ (nI 1 : Int32) = 0 by decide)]
          exact ⟨nI 0, μ', ν', rfl, by rw [jl_0], hrel⟩
        · rw [a1, a2, jcall_s, jcall_s, if_pos (show (nI 0 : Int32) = 0 by decide)]
          exact ⟨nI 1, μ', ν', rfl, by rw [jl_1], hrel⟩
      have hf := hb.1
      have e0 := (g2.mf hm0.1).1
      rw [e0]
      rcases (show f = 0 ∨ f = 1 ∨ f = 2 by omega) with q | q | q
      · rw [if_pos (by rw [q]; decide)]
        refine fin _ ?_
        unfold f_X6_plainMarked
        rw [jl_0]
        exact plM hb hc.1 hc.2.2.1 hm0.1 hm0.2.2.1 q hm' cn jFU jFU 0 0 0 0 (fun _ => 0) _ ν2 (by omega) (by unfold jFU; omega) (by unfold jFU; omega) (by omega) (by omega) (by omega) (by omega) hCN g2
      · rw [if_neg (by rw [q]; decide), if_pos (by rw [q]; decide)]
        refine fin _ ?_
        unfold f_X6_plainSigned
        rw [jl_0]
        exact plS hb hc.1 hc.2.2.1 hm0.1 hm0.2.2.1 q hm' cn jFU jFU 0 0 0 0 (fun _ => 0) _ ν2 (by omega) (by unfold jFU; omega) (by unfold jFU; omega) (by omega) (by omega) (by omega) (by omega) hCN g2
      · rw [if_neg (by rw [q]; decide), if_neg (by rw [q]; decide)]
        refine fin _ ?_
        unfold f_X6_plainRows
        rw [jl_0]
        exact plR hb hc.1 hc.2.2.1 hm0.1 hm0.2.2.1 q hm' (cn + 1) jFU jFU 0 0 0 0 0 (fun _ => 0) _ ν2 (by omega) (by unfold jFU; omega) (by unfold jFU; omega) (by omega) (by omega) (by omega) (by omega) (by omega) hCN g2
  · rw [if_neg h4, if_neg h4]
    exact key _
