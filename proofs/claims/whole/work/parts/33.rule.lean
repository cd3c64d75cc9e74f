theorem CS.cf {μ μ' : jM} {f U W M D n cn pn rc ft U' W' M' D' : Nat} {sr cd pl : Nat → Nat} (h : CS μ f U W M D n cn pn rc ft sr cd pl) (hfr : Fr [1] μ μ') (hc : CF μ' f U' W' M' D') : CS μ' f U' W' M' D' n cn pn rc ft sr cd pl := by
  obtain ⟨h1, h2, h3, h4, h5, h6⟩ := h
  refine ⟨hc, OC_of h2 (hfr.1 2 (by decide)) (hfr.1 3 (by decide)), OC_of h3 (hfr.1 4 (by decide)) (hfr.1 5 (by decide)), ⟨?_, h4.2.1, fun i hi => ?_⟩, ?_, ?_⟩
  · rw [hfr.at (by decide)]; exact h4.1
  · rw [hfr.at (by decide)]; exact h4.2.2 i hi
  · rw [hfr.at (by decide)]; exact h5
  · rw [hfr.at (by decide)]; exact h6
theorem MS.mf {ν ν' : jM} {f U W M D n cn pn rc ft U' W' M' D' : Nat} {sr cd pl : Nat → Nat} (h : MS ν f U W M D n cn pn rc ft sr cd pl) (e0 : ∀ k, 5 ≤ k → ν'.1 0 k = ν.1 0 k) (e1 : ν'.1 1 = ν.1 1) (e2 : ν'.1 2 = ν.1 2) (e3 : ν'.1 3 = ν.1 3) (hc : MF ν' f U' W' M' D') : MS ν' f U' W' M' D' n cn pn rc ft sr cd pl := by
  obtain ⟨-, h2, h3, h4, h5, h6⟩ := h
  refine ⟨hc, ⟨?_, h2.2.1, h2.2.2.1, fun i hi => by rw [e1]; exact h2.2.2.2 i hi⟩, ⟨?_, h3.2.1, h3.2.2.1, fun i hi => by rw [e2]; exact h3.2.2.2 i hi⟩, ⟨?_, h4.2.1, h4.2.2.1, fun i hi => by rw [e3]; exact h4.2.2.2 i hi⟩, ?_, ?_⟩
  · rw [e0 6 (by omega)]; exact h2.1
  · rw [e0 8 (by omega)]; exact h3.1
  · rw [e0 10 (by omega)]; exact h4.1
  · rw [e0 11 (by omega)]; exact h5
  · rw [e0 12 (by omega)]; exact h6
def mru (ν : jM) (x y : Int32) : jM := jsI (jsI (jsI (jsI ν 0 1 (if x = 0 then y else ν.1 0 1)) 0 2 (if x = 1 then y else ν.1 0 2)) 0 3 (if x = 2 then y else ν.1 0 3)) 0 4 (if x = 3 then y else ν.1 0 4)
theorem s_m148 (x y s : Int32) (ν : jM) : f_X6_rule_148 x y s ν = some (s, mru ν x y) := by
  unfold f_X6_rule_148 f_X6_rule_163 f_X6_rule_180 f_X6_rule_197 f_X6_rule_214 mru
  simp only [jlet_e]
  by_cases h0 : x = 0
  · subst h0
    simp (decide := true) only [if_true, if_false, jsI_k, ne_eq]
  by_cases h1 : x = 1
  · subst h1
    simp (decide := true) only [if_true, if_false, jsI_k, ne_eq]
  by_cases h2 : x = 2
  · subst h2
    simp (decide := true) only [if_true, if_false, jsI_k, ne_eq]
  by_cases h3 : x = 3
  · subst h3
    simp (decide := true) only [if_true, if_false, jsI_k, ne_eq]
  simp (decide := true) only [h0, h1, h2, h3, if_true, if_false, jsI_k, ne_eq]
theorem mru_ms {ν : jM} {f U W M D n cn pn rc ft U' W' M' D' : Nat} {sr cd pl : Nat → Nat} (h : MS ν f U W M D n cn pn rc ft sr cd pl) {x y : Int32} (a1 : (if x = 0 then y else nI U) = nI U') (a2 : (if x = 1 then y else nI W) = nI W') (a3 : (if x = 2 then y else nI M) = nI M') (a4 : (if x = 3 then y else nI D) = nI D') : MS (mru ν x y) f U' W' M' D' n cn pn rc ft sr cd pl := by
  obtain ⟨⟨b0, b1, b2, b3, b4⟩, -⟩ := id h
  refine h.mf (fun k hk => ?_) ?_ ?_ ?_ ⟨?_, ?_, ?_, ?_, ?_⟩
  · unfold mru
    rw [jsI_k _ _ (by omega), jsI_k _ _ (by omega), jsI_k _ _ (by omega), jsI_k _ _ (by omega)]
  · funext k
    unfold mru
    simp (decide := true) only [jsI_c, ne_eq]
  · funext k
    unfold mru
    simp (decide := true) only [jsI_c, ne_eq]
  · funext k
    unfold mru
    simp (decide := true) only [jsI_c, ne_eq]
  · unfold mru
    simp (decide := true) only [jsI_k, ne_eq, b0]
  · unfold mru
    simp (decide := true) only [jsI_k, jsI_s, ne_eq, b1, a1]
  · unfold mru
    simp (decide := true) only [jsI_k, jsI_s, ne_eq, b2, a2]
  · unfold mru
    simp (decide := true) only [jsI_k, jsI_s, ne_eq, b3, a3]
  · unfold mru
    simp (decide := true) only [jsI_k, jsI_s, ne_eq, b4, a4]
/-- a rule is allowed: what both do then -/
theorem al_rule2 {μ ν : jM} {f U W M D n cn pn rc ft : Nat} {sr cd pl : Nat → Nat} (hb : CB f U W M D) (hc : CS μ f U W M D n cn pn rc ft sr cd pl) (hm : MS ν f U W M D n cn pn rc ft sr cd pl) (k : Nat) (hk : k ≤ 3) (v : Nat) (hv : (k = 0 → v = 1 ∨ v = 2 ∨ v = 4) ∧ (k = 1 → 1 ≤ v ∧ v ≤ 60) ∧ (k = 2 → v ≤ 255) ∧ (k = 3 → v ≤ 1)) :
    AL (if μ.1 1 0 = 2 then (if nI k = 0 then f_X5_rule_34 μ else (if nI k = 3 then f_X5_rule_34 μ else f_X5_rule_37 (nI k) (nI v) μ)) else f_X5_rule_37 (nI k) (nI v) μ) (f_X6_rule_82 (nI k) (nI v) (nI 1) ν) := by
  unfold f_X6_rule_82 f_X5_rule_37 f_X6_rule_109
  rw [if_neg (show ¬ (nI 1 : Int32) = 0 by decide), hc.1.1, hm.1.1]
  obtain ⟨hf, hU, hW1, hW2, hM, hD, h2⟩ := id hb
  have key3 : AL (f_X5_rule_34 μ) (f_X6_rule_106 ν) := ⟨-3, μ, ν, rfl, rfl, f, U, W, M, D, n, cn, pn, rc, ft, sr, cd, pl, hb, hc, hm⟩
  have chg : (f = 2 → k = 1 ∨ k = 2) → AL (jcall (f_X4_change (nI k) (nI v) μ) (fun r1 μ1 => some (r1, μ1))) (if nI k = 0 then f_X6_rule_148 (nI k) (nI v) (ν.1 0 1) ν else (if nI k = 1 then f_X6_rule_148 (nI k) (nI v) (ν.1 0 2) ν else (if nI k = 2 then f_X6_rule_148 (nI k) (nI v) (ν.1 0 3) ν else f_X6_rule_148 (nI k) (nI v) (ν.1 0 4) ν))) := by
    intro h2k
    rw [s_m148, s_m148, s_m148, s_m148]
    unfold f_X4_change
    rw [hc.1.2.1, hc.1.2.2.1, hc.1.2.2.2.1, hc.1.2.2.2.2, hm.1.2.1, hm.1.2.2.1, hm.1.2.2.2.1, hm.1.2.2.2.2]
    simp only [jlet_e]
    rcases (show k = 0 ∨ k = 1 ∨ k = 2 ∨ k = 3 by omega) with rfl | rfl | rfl | rfl
    · simp (decide := true) only [if_true, jcall_s]
      exact ⟨_, _, _, rfl, rfl, f, v, W, M, D, n, cn, pn, rc, ft, sr, cd, pl, ⟨hf, hv.1 rfl, hW1, hW2, hM, hD, fun z => by have := h2k z; omega⟩, hc.cf (Fr.I _ _ _ (by decide)) ⟨by rw [jsI_k _ _ (by decide)]; exact hc.1.1, jsI_s _ _ _ _, by rw [jsI_k _ _ (by decide)]; exact hc.1.2.2.1, by rw [jsI_k _ _ (by decide)]; exact hc.1.2.2.2.1, by rw [jsI_k _ _ (by decide)]; exact hc.1.2.2.2.2⟩, mru_ms hm (by simp (decide := true)) (by simp (decide := true)) (by simp (decide := true)) (by simp (decide := true))⟩
    · simp (decide := true) only [if_true, if_false, jcall_s]
      exact ⟨_, _, _, rfl, rfl, f, U, v, M, D, n, cn, pn, rc, ft, sr, cd, pl, ⟨hf, hU, (hv.2.1 rfl).1, (hv.2.1 rfl).2, hM, hD, h2⟩, hc.cf (Fr.I _ _ _ (by decide)) ⟨by rw [jsI_k _ _ (by decide)]; exact hc.1.1, by rw [jsI_k _ _ (by decide)]; exact hc.1.2.1, jsI_s _ _ _ _, by rw [jsI_k _ _ (by decide)]; exact hc.1.2.2.2.1, by rw [jsI_k _ _ (by decide)]; exact hc.1.2.2.2.2⟩, mru_ms hm (by simp (decide := true)) (by simp (decide := true)) (by simp (decide := true)) (by simp (decide := true))⟩
    · simp (decide := true) only [if_true, if_false, jcall_s]
      exact ⟨_, _, _, rfl, rfl, f, U, W, v, D, n, cn, pn, rc, ft, sr, cd, pl, ⟨hf, hU, hW1, hW2, hv.2.2.1 rfl, hD, h2⟩, hc.cf (Fr.I _ _ _ (by decide)) ⟨by rw [jsI_k _ _ (by decide)]; exact hc.1.1, by rw [jsI_k _ _ (by decide)]; exact hc.1.2.1, by rw [jsI_k _ _ (by decide)]; exact hc.1.2.2.1, jsI_s _ _ _ _, by rw [jsI_k _ _ (by decide)]; exact hc.1.2.2.2.2⟩, mru_ms hm (by simp (decide := true)) (by simp (decide := true)) (by simp (decide := true)) (by simp (decide := true))⟩
    · simp (decide := true) only [if_true, if_false, jcall_s]
      exact ⟨_, _, _, rfl, rfl, f, U, W, M, v, n, cn, pn, rc, ft, sr, cd, pl, ⟨hf, hU, hW1, hW2, hM, hv.2.2.2 rfl, fun z => by have := h2k z; omega⟩, hc.cf (Fr.I _ _ _ (by decide)) ⟨by rw [jsI_k _ _ (by decide)]; exact hc.1.1, by rw [jsI_k _ _ (by decide)]; exact hc.1.2.1, by rw [jsI_k _ _ (by decide)]; exact hc.1.2.2.1, by rw [jsI_k _ _ (by decide)]; exact hc.1.2.2.2.1, jsI_s _ _ _ _⟩, mru_ms hm (by simp (decide := true)) (by simp (decide := true)) (by simp (decide := true)) (by simp (decide := true))⟩
  by_cases hf2 : f = 2
  · have e2 : nI f = 2 := by rw [hf2]; exact jl_2.symm
    rw [if_pos e2, if_pos e2]
    by_cases h0 : k = 0
    · have e0 : nI k = 0 := by rw [h0]; exact jl_0.symm
      rw [if_pos e0, if_pos e0]
      exact key3
    have e0 : ¬ nI k = 0 := by rw [jl_0, nI_eq (by omega) (by omega)]; exact h0
    by_cases h3 : k = 3
    · have e3 : nI k = 3 := by rw [h3]; exact jl_3.symm
      rw [if_neg e0, if_neg e0, if_pos e3, if_pos e3]
      exact key3
    · have e3 : ¬ nI k = 3 := by rw [jl_3, nI_eq (by omega) (by omega)]; exact h3
      have := chg (fun _ => by omega)
      rw [if_neg e0, if_neg e0, if_neg e3, if_neg e3]
      exact this
  · have e2 : ¬ nI f = 2 := by rw [jl_2, nI_eq (by omega) (by omega)]; exact hf2
    rw [if_neg e2, if_neg e2]
    exact chg (fun z => absurd z hf2)
theorem nI_of_lit {y : Int32} {m : Nat} (hm : m < 2147483648) (h0 : ¬ y < 0) (h1 : ¬ nI m < y) : ∃ j, j ≤ m ∧ y = nI j := ((nI_split (x := y) hm).resolve_left h0).resolve_left h1
theorem lt1_0 {y : Int32} (h : ¬ y < 1) : ¬ y < 0 := fun z => h (Int32.lt_iff_toInt_lt.mpr (by
  have h1 := Int32.lt_iff_toInt_lt.mp z
  have h2 : (0 : Int32).toInt = 0 := rfl
  have h3 : (1 : Int32).toInt = 1 := rfl
  omega))
theorem al_rule {μ ν : jM} (h : REL μ ν) (x y : Int32) : AL (f_X5_rule x y μ) (f_X6_rule x y ν) := by
  obtain ⟨f, U, W, M, D, n, cn, pn, rc, ft, sr, cd, pl, hb, hc, hm⟩ := h
  have hm0 := hm.t0 0
  unfold f_X5_rule f_X6_rule f_X4_allow f_X4_allow_47 f_X4_allow_68 f_X4_allow_85 f_X4_allow_96 f_X6_rule_24 f_X6_rule_81
  rw [jlet_e]
  generalize jsI ν 0 13 (0 : Int32) = ν0 at hm0 ⊢
  have key : ∀ r : Int32, AL (some (r, μ)) (some (r, ν0)) := fun r => ⟨r, μ, ν0, rfl, rfl, f, U, W, M, D, n, cn, pn, rc, ft, sr, cd, pl, hb, hc, hm0⟩
  have bl0 : (jbl (0 : Int32) (some ((0 : Int32), μ))) = some (0, μ) := rfl
  have bl1 : (jbl (1 : Int32) (some ((1 : Int32), μ))) = some (1, μ) := rfl
  have bad : AL (jcall (some ((0 : Int32), μ)) (fun (r2 : Int32) (μ2 : jM) => if r2 = (0 : Int32) then (some ((-1 : Int32), μ2)) else (if (μ2.1 1 0) = (2 : Int32) then (if x = (0 : Int32) then (f_X5_rule_34     μ2) else (if x = (3 : Int32) then (f_X5_rule_34     μ2) else (f_X5_rule_37    x y μ2))) else (f_X5_rule_37    x y μ2)))) (f_X6_rule_82 x y 0 ν0) := by
    unfold f_X6_rule_82
    rw [jcall_s, if_pos rfl, if_pos rfl]
    exact key _
  have good : ∀ (k v : Nat), k ≤ 3 → x = nI k → y = nI v → ((k = 0 → v = 1 ∨ v = 2 ∨ v = 4) ∧ (k = 1 → 1 ≤ v ∧ v ≤ 60) ∧ (k = 2 → v ≤ 255) ∧ (k = 3 → v ≤ 1)) → AL (jcall (some ((1 : Int32), μ)) (fun (r2 : Int32) (μ2 : jM) => if r2 = (0 : Int32) then (some ((-1 : Int32), μ2)) else (if (μ2.1 1 0) = (2 : Int32) then (if x = (0 : Int32) then (f_X5_rule_34     μ2) else (if x = (3 : Int32) then (f_X5_rule_34     μ2) else (f_X5_rule_37    x y μ2))) else (f_X5_rule_37    x y μ2)))) (f_X6_rule_82 x y 1 ν0) := by
    intro k v hk ex ey hv
    rw [jcall_s, if_neg (show ¬ (1 : Int32) = 0 by decide), ex, ey]
    exact al_rule2 hb hc hm0 k hk v hv
  simp only [bl0, bl1]
  by_cases hx0 : x = 0
  · subst hx0
    rw [if_pos rfl, if_pos rfl]
    by_cases h1 : y = 1
    · rw [if_pos h1, if_pos h1]
      exact good 0 1 (by omega) jl_0 (h1.trans jl_1) (by omega)
    by_cases h2 : y = 2
    · rw [if_neg h1, if_neg h1, if_pos h2, if_pos h2]
      exact good 0 2 (by omega) jl_0 (h2.trans jl_2) (by omega)
    by_cases h4 : y = 4
    · rw [if_neg h1, if_neg h1, if_neg h2, if_neg h2, if_pos h4, if_pos h4]
      exact good 0 4 (by omega) jl_0 (h4.trans jl_4) (by omega)
    · rw [if_neg h1, if_neg h1, if_neg h2, if_neg h2, if_neg h4, if_neg h4]
      exact bad
  by_cases hx1 : x = 1
  · subst hx1
    rw [if_neg hx0, if_neg hx0, if_pos rfl, if_pos rfl]
    by_cases h1 : y < 1
    · rw [if_pos h1, s_inF (Or.inl h1), jcall_s, ← jl_0]
      exact bad
    by_cases h2 : 60 < y
    · rw [if_neg h1, if_pos h2, s_inF (Or.inr h2), jcall_s, ← jl_0]
      exact bad
    · rw [if_neg h1, if_neg h2, s_inT h1 h2, jcall_s, ← jl_1]
      obtain ⟨j, hj, rfl⟩ := nI_of_lit (m := 60) (by omega) (lt1_0 h1) (by rw [← jl_60]; exact h2)
      rw [jl_1, nI_ltI (by omega) (by omega)] at h1
      exact good 1 j (by omega) jl_1 rfl (by omega)
  by_cases hx2 : x = 2
  · subst hx2
    rw [if_neg hx0, if_neg hx0, if_neg hx1, if_neg hx1, if_pos rfl, if_pos rfl]
    by_cases h1 : y < 0
    · rw [if_pos h1, s_inF (Or.inl h1), jcall_s, ← jl_0]
      exact bad
    by_cases h2 : 255 < y
    · rw [if_neg h1, if_pos h2, s_inF (Or.inr h2), jcall_s, ← jl_0]
      exact bad
    · rw [if_neg h1, if_neg h2, s_inT h1 h2, jcall_s, ← jl_1]
      obtain ⟨j, hj, rfl⟩ := nI_of_lit (m := 255) (by omega) h1 (by rw [← jl_255]; exact h2)
      exact good 2 j (by omega) jl_2 rfl (by omega)
  by_cases hx3 : x = 3
  · subst hx3
    rw [if_neg hx0, if_neg hx0, if_neg hx1, if_neg hx1, if_neg hx2, if_neg hx2, if_pos rfl, if_pos rfl]
    by_cases h0 : y = 0
    · rw [if_pos h0, s_inT (by rw [h0]; decide) (by rw [h0]; decide), jcall_s (nI 1) ν0, if_neg (show ¬ (nI 1 : Int32) = 0 by decide)]
      exact good 3 0 (by omega) jl_3 (h0.trans jl_0) (by omega)
    by_cases h1 : y = 1
    · rw [if_neg h0, if_pos h1, s_inT (by rw [h1]; decide) (by rw [h1]; decide), jcall_s (nI 1) ν0, if_neg (show ¬ (nI 1 : Int32) = 0 by decide)]
      exact good 3 1 (by omega) jl_3 (h1.trans jl_1) (by omega)
    · rw [if_neg h0, if_neg h1, s_inF, jcall_s (nI 0) ν0, if_pos (show (nI 0 : Int32) = 0 by decide)]
      · exact bad
      · rcases nI_split (x := y) (m := 1) (by omega) with q | q | ⟨j, hj, rfl⟩
        · exact Or.inl q
        · exact Or.inr (by rw [jl_1]; exact q)
        · rcases (show j = 0 ∨ j = 1 by omega) with rfl | rfl
          · exact absurd jl_0.symm h0
          · exact absurd jl_1.symm h1
  · rw [if_neg hx0, if_neg hx0, if_neg hx1, if_neg hx1, if_neg hx2, if_neg hx2, if_neg hx3, if_neg hx3]
    exact bad
/-- whole units, rows -/
theorem mod_of_rem {a d : Nat} (ha : a < 2147483648) (h0 : 0 < d) (hd : d < 2147483648) : (nI a - nI a / nI d * nI d = 0) ↔ a % d = 0 := by
  rw [pk_rem ha h0 hd, jl_0, nI_eq (Nat.lt_trans (Nat.mod_lt _ h0) hd) (by omega)]
def gr (f U W : Nat) : Nat := if f = 2 then W else U
theorem s_isWhole {μ : jM} {f U W M D n : Nat} (hc : CF μ f U W M D) (hb : CB f U W M D) (hn : n ≤ 1000) : f_X4_isWhole (nI n) μ = some (if n % gr f U W = 0 then nI 1 else nI 0, μ) := by
  obtain ⟨hf, hU, hW1, hW2, hM, hD, h2⟩ := hb
  unfold f_X4_isWhole f_X4_isWhole_19 f_X4_isWhole_34 gr
  rw [hc.1, hc.2.2.1, hc.2.1]
  by_cases hf2 : f = 2
  · rw [if_pos (by rw [hf2]; exact jl_2.symm), if_neg (by rw [jl_0, nI_leI (by omega) (by omega)]; omega), jnz_n (by omega) (by omega), if_pos hf2]
    by_cases hz : n % W = 0
    · rw [if_pos ((mod_of_rem (by omega) (by omega) (by omega)).mpr hz), if_pos hz]; rfl
    · rw [if_neg (fun z => hz ((mod_of_rem (by omega) (by omega) (by omega)).mp z)), if_neg hz]; rfl
  · rw [if_neg (by rw [jl_2, nI_eq (by omega) (by omega)]; exact hf2), if_neg (by rw [jl_0, nI_leI (by omega) (by omega)]; omega), jnz_n (by omega) (by omega), if_neg hf2]
    by_cases hz : n % U = 0
    · rw [if_pos ((mod_of_rem (by omega) (by omega) (by omega)).mpr hz), if_pos hz]; rfl
    · rw [if_neg (fun z => hz ((mod_of_rem (by omega) (by omega) (by omega)).mp z)), if_neg hz]; rfl
theorem s_isWholeM {ν : jM} {f U W M D n : Nat} (hc : MF ν f U W M D) (hb : CB f U W M D) (hn : n ≤ 1000) : f_X6_isWhole (nI n) ν = some (if n % gr f U W = 0 then nI 1 else nI 0, ν) := by
  obtain ⟨hf, hU, hW1, hW2, hM, hD, h2⟩ := hb
  unfold f_X6_isWhole f_X6_isWhole_20 gr
  rw [hc.1, hc.2.2.1, hc.2.1]
  by_cases hf2 : f = 2
  · rw [if_pos (by rw [hf2]; exact jl_2.symm), jnz_n (by omega) (by omega), if_pos hf2]
    by_cases hz : n % W = 0
    · rw [if_pos ((mod_of_rem (by omega) (by omega) (by omega)).mpr hz), if_pos hz]; rfl
    · rw [if_neg (fun z => hz ((mod_of_rem (by omega) (by omega) (by omega)).mp z)), if_neg hz]; rfl
  · rw [if_neg (by rw [jl_2, nI_eq (by omega) (by omega)]; exact hf2), jnz_n (by omega) (by omega), if_neg hf2]
    by_cases hz : n % U = 0
    · rw [if_pos ((mod_of_rem (by omega) (by omega) (by omega)).mpr hz), if_pos hz]; rfl
    · rw [if_neg (fun z => hz ((mod_of_rem (by omega) (by omega) (by omega)).mp z)), if_neg hz]; rfl
theorem nI_and1 {n : Nat} (h : n < 4294967296) : nI n &&& nI 1 = nI (n % 2) := pk_andN h 1 (by decide +kernel)
theorem nI_rem2 {n : Nat} (h : n < 2147483648) : nI n - nI n / nI 2 * nI 2 = nI (n % 2) := pk_rem h (by omega) (by omega)
theorem al_bound {μ ν : jM} (h : REL μ ν) (x : Int32) : AL (f_X5_bound x μ) (f_X6_bound x ν) := by
  obtain ⟨f, U, W, M, D, n, cn, pn, rc, ft, sr, cd, pl, hb, hc, hm⟩ := h
  have hm0 := hm.t0 0
  unfold f_X5_bound f_X6_bound f_X5_bound_22 f_X6_bound_24 f_X5_rowBound f_X6_bound_106 f_X6_bound_112
  rw [jlet_e]
  generalize jsI ν 0 13 (0 : Int32) = ν0 at hm0 ⊢
  have key : ∀ r : Int32, AL (some (r, μ)) (some (r, ν0)) := fun r => ⟨r, μ, ν0, rfl, rfl, f, U, W, M, D, n, cn, pn, rc, ft, sr, cd, pl, hb, hc, hm0⟩
  by_cases h0 : x < 0
  · rw [if_pos h0, s_inF (Or.inl h0), jcall_s, ← jl_0, if_pos rfl]
    exact key _
  by_cases h1 : 240 < x
  · rw [if_neg h0, if_pos h1, s_inF (Or.inr h1), jcall_s, ← jl_0, if_pos rfl]
    exact key _
  rw [if_neg h0, if_neg h1, s_inT h0 h1, jcall_s (nI 1) ν0, if_neg (show ¬ (nI 1 : Int32) = 0 by decide)]
  obtain ⟨m, hm', rfl⟩ := nI_of_lit (m := 240) (by omega) h0 (by rw [← jl_240]; exact h1)
  obtain ⟨hf, hU, hW1, hW2, hM, hD, h2⟩ := id hb
  rw [s_isWhole hc.1 hb (by omega), s_isWholeM hm0.1 hb (by omega), jcall_s, jcall_s]
  by_cases hz : m % gr f U W = 0
  · rw [if_pos hz, if_neg (show ¬ (nI 1 : Int32) = 0 by decide), if_neg (show ¬ (nI 1 : Int32) = 0 by decide), s_unitsIn hc.1 hb (by omega), jcall_s, hc.1.1, hm0.1.1, hm0.1.2.1, hm0.1.2.2.1, s_rowsIn hc.1 hb (by omega)]
    have hd : m / U ≤ m := Nat.div_le_self m U
    have hd2 : m / W ≤ m := Nat.div_le_self m W
    have hw2 : W % 2 < 2 := Nat.mod_lt _ (by omega)
    rcases (show f = 0 ∨ f = 1 ∨ f = 2 by omega) with rfl | rfl | rfl
    · rw [if_pos (show nI 0 = 0 by decide), if_pos (show nI 0 = 0 by decide), jnz_n (by omega) (by omega), pk_div (by omega) (by omega) (by omega)]
      exact key _
    · rw [if_neg (show ¬ nI 1 = 0 by decide), if_neg (show ¬ nI 1 = 0 by decide), if_pos (show nI 1 = 1 by decide), if_pos (show nI 1 = 1 by decide), jnz_n (by omega) (by omega), pk_div (by omega) (by omega) (by omega)]
      generalize m / U = du at hd ⊢
      have e : (nI du + 128 - 1 : Int32) = nI du + 127 := by
        rw [jl_128, jl_1, jl_127, nI_add, nI_add, pk_sub (by omega)]; rfl
      rw [e]
      exact key _
    · by_cases hw : W ≤ 2
      · simp (disch := omega) only [jlet_e, jcall_s, jin_n, jnz_n, jbl_0, jbl_1, nI_ofNat, jl_0, jl_1, jl_2, jl_3, jl_4, jl_5, jl_8, jl_60, jl_127, jl_128, jl_240, jl_255, jl_256, jl_400, jl_1000, jl_1000000, nI_ltI, nI_leI, nI_eq, nI_add, pk_sub, pk_mul, pk_div, pk_rem, nI_clamp, if_pos, if_neg, ite_true, ite_false, hc.1.2.2.1, nI_rem2, nI_and1]
        exact key _
      · by_cases hq : W + 2 + W % 2 < 2 * W
        · simp (disch := omega) only [jlet_e, jcall_s, jin_n, jnz_n, jbl_0, jbl_1, nI_ofNat, jl_0, jl_1, jl_2, jl_3, jl_4, jl_5, jl_8, jl_60, jl_127, jl_128, jl_240, jl_255, jl_256, jl_400, jl_1000, jl_1000000, nI_ltI, nI_leI, nI_eq, nI_add, pk_sub, pk_mul, pk_div, pk_rem, nI_clamp, if_pos, if_neg, ite_true, ite_false, hc.1.2.2.1, nI_rem2, nI_and1]
          rw [show W - W / 2 * 2 = W % 2 by omega]
          exact key _
        · simp (disch := omega) only [jlet_e, jcall_s, jin_n, jnz_n, jbl_0, jbl_1, nI_ofNat, jl_0, jl_1, jl_2, jl_3, jl_4, jl_5, jl_8, jl_60, jl_127, jl_128, jl_240, jl_255, jl_256, jl_400, jl_1000, jl_1000000, nI_ltI, nI_leI, nI_eq, nI_add, pk_sub, pk_mul, pk_div, pk_rem, nI_clamp, if_pos, if_neg, ite_true, ite_false, hc.1.2.2.1, nI_rem2, nI_and1]
          exact key _
  · rw [if_neg hz, if_pos (show (nI 0 : Int32) = 0 by decide), if_pos (show (nI 0 : Int32) = 0 by decide)]
    exact key _
