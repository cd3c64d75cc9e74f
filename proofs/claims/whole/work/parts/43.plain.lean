theorem subLe {a b c : Nat} (ha : a < 1073741824) (hb : b < 1073741824) (hc : c < 1073741824) : nI c ≤ nI a - nI b ↔ b + c ≤ a := by
  rw [Int32.le_iff_toInt_le, pk_sub_toInt ha hb, nI_toInt (by omega)]
  omega
theorem subLt {a b c : Nat} (ha : a < 1073741824) (hb : b < 1073741824) (hc : c < 1073741824) : nI a - nI b < nI c ↔ a < b + c := by
  rw [Int32.lt_iff_toInt_lt, pk_sub_toInt ha hb, nI_toInt (by omega)]
  omega
/-- plain, the class's side: next, row, column, end, reach, the bytes -/
def CN (μ0 μ : jM) (p y x en rc pn : Nat) (pl : Nat → Nat) : Prop := Fr [17, 18] μ0 μ ∧ μ.1 17 3 = nI pn ∧ μ.1 17 4 = nI rc ∧ μ.1 17 5 = nI p ∧ μ.1 17 6 = nI en ∧ μ.1 17 7 = nI y ∧ μ.1 17 8 = nI x ∧ pn ≤ 400 ∧ ∀ i, i < pn → pl i < 256 ∧ μ.1 18 i = jb (pl i)
/-- the reference's -/
def MN (ν0 ν : jM) (rc pn : Nat) (pl : Nat → Nat) : Prop := (∀ k, k ≤ 9 ∨ k = 12 → ν.1 0 k = ν0.1 0 k) ∧ ν.1 1 = ν0.1 1 ∧ ν.1 2 = ν0.1 2 ∧ ν.1 0 10 = nI pn ∧ ν.1 0 11 = nI rc ∧ pn ≤ 400 ∧ ∀ i, i < pn → pl i < 256 ∧ ν.1 3 i = nI (pl i)
theorem CN.cf {μ0 μ : jM} {p y x en rc pn f U W M D : Nat} {pl : Nat → Nat} (h : CN μ0 μ p y x en rc pn pl) (hc : CF μ0 f U W M D) : CF μ f U W M D := hc.of (h.1.1 1 (by decide))
theorem CN.oc {μ0 μ : jM} {p y x en rc pn cn : Nat} {pl cd : Nat → Nat} (h : CN μ0 μ p y x en rc pn pl) (hc : OC μ0 4 1000 cn cd) : OC μ 4 1000 cn cd := OC_of hc (h.1.1 4 (by decide)) (h.1.1 5 (by decide))
theorem MN.mf {ν0 ν : jM} {rc pn f U W M D : Nat} {pl : Nat → Nat} (h : MN ν0 ν rc pn pl) (hc : MF ν0 f U W M D) : MF ν f U W M D := by
  obtain ⟨e, -⟩ := h
  obtain ⟨a1, a2, a3, a4, a5⟩ := hc
  exact ⟨(e 0 (by omega)).trans a1, (e 1 (by omega)).trans a2, (e 2 (by omega)).trans a3, (e 3 (by omega)).trans a4, (e 4 (by omega)).trans a5⟩
theorem MN.mr {ν0 ν : jM} {rc pn cn : Nat} {pl cd : Nat → Nat} (h : MN ν0 ν rc pn pl) (hc : MR ν0 8 2 1000 cn cd) : MR ν 8 2 1000 cn cd := by
  obtain ⟨e, -, e2, -⟩ := h
  exact ⟨(e 8 (by omega)).trans hc.1, hc.2.1, hc.2.2.1, fun i hi => by rw [e2]; exact hc.2.2.2 i hi⟩
theorem CN.upd {μ0 μ : jM} {p y x en rc pn p' y' x' en' : Nat} {pl : Nat → Nat} (h : CN μ0 μ p y x en rc pn pl) (k : Nat) (v : Nat) (hk : (k = 5 ∧ p' = v ∧ y' = y ∧ x' = x ∧ en' = en) ∨ (k = 6 ∧ p' = p ∧ y' = y ∧ x' = x ∧ en' = v) ∨ (k = 7 ∧ p' = p ∧ y' = v ∧ x' = x ∧ en' = en) ∨ (k = 8 ∧ p' = p ∧ y' = y ∧ x' = v ∧ en' = en)) : CN μ0 (jsI μ 17 k (nI v)) p' y' x' en' rc pn pl := by
  obtain ⟨h0, h1, h2, h3, h4, h5, h6, h7, h8⟩ := h
  rcases hk with ⟨rfl, rfl, rfl, rfl, rfl⟩ | ⟨rfl, rfl, rfl, rfl, rfl⟩ | ⟨rfl, rfl, rfl, rfl, rfl⟩ | ⟨rfl, rfl, rfl, rfl, rfl⟩ <;>
  · refine ⟨h0.tr (Fr.I _ _ _ (by decide)), ?_, ?_, ?_, ?_, ?_, ?_, h7, fun i hi => ?_⟩
    · simp (decide := true) only [jsI_s, jsI_k, jsI_c, jsI_2, jsJ_1, ne_eq, not_false_eq_true, h1]
    · simp (decide := true) only [jsI_s, jsI_k, jsI_c, jsI_2, jsJ_1, ne_eq, not_false_eq_true, h2]
    · simp (decide := true) only [jsI_s, jsI_k, jsI_c, jsI_2, jsJ_1, ne_eq, not_false_eq_true, h3]
    · simp (decide := true) only [jsI_s, jsI_k, jsI_c, jsI_2, jsJ_1, ne_eq, not_false_eq_true, h4]
    · simp (decide := true) only [jsI_s, jsI_k, jsI_c, jsI_2, jsJ_1, ne_eq, not_false_eq_true, h5]
    · simp (decide := true) only [jsI_s, jsI_k, jsI_c, jsI_2, jsJ_1, ne_eq, not_false_eq_true, h6]
    · rw [jsI_c _ _ _ (by decide)]; exact h8 i hi
/-- one copy of the machine, by the class -/
theorem s_copies {μ0 μ : jM} {f U W M D cn fr b p y x en rc pn : Nat} {pl cd : Nat → Nat} (hb : CB f U W M D) (hc : CF μ0 f U W M D) (hcd : OC μ0 4 1000 cn cd) (hfr : fr ≤ cn) (hb2 : b ≤ 512) (hto : y * W + x < 100000000) (hrc : rc ≤ 400) (h : CN μ0 μ p y x en rc pn pl) :
    (¬ (fr + b ≤ cn ∧ y * W + x + b ≤ pn) ∧ f_X3_copies (nI fr) (nI b) μ = some (nI 0, μ)) ∨ (fr + b ≤ cn ∧ y * W + x + b ≤ pn ∧ ∃ μ', f_X3_copies (nI fr) (nI b) μ = some (nI 1, μ') ∧ CN μ0 μ' p y (x + b) en (if rc < y * W + x + b then y * W + x + b else rc) pn (ov pl (y * W + x) (fun k => cd (fr + k)) b)) := by
  have hcn := hcd.2.1
  obtain ⟨h0, h1, h2, h3, h4, h5, h6, h7, h8⟩ := id h
  have hW := (h.cf hc).2.2.1
  have h41 := (h.oc hcd).1
  have hco := (h.oc hcd).2.2.2
  unfold f_X3_copies f_X3_copies_41
  rw [h5, hW, h6, pk_mul, nI_add, jlet_e, h41, h1]
  generalize hte : y * W + x = t at hto ⊢
  by_cases q1 : fr + b ≤ cn
  · by_cases q2 : t + b ≤ pn
    · right
      refine ⟨q1, q2, jsI (jsI (jcp μ 5 fr 18 t b) 17 4 (nI (if rc < t + b then t + b else rc))) 17 8 (nI (x + b)), ?_, ?_⟩
      · rw [if_neg (by rw [subLt (by omega) (by omega) (by omega)]; omega), if_pos (by rw [subLe (by omega) (by omega) (by omega)]; omega), jck_t, jlet_e, nI_clamp (by omega), nI_clamp (by omega), nI_clamp (by omega)]
        · have e4 : (jcp μ 5 fr 18 t b).1 17 4 = nI rc := by rw [(jcp_off μ 5 fr 18 t b 17 (by decide)).1]; exact h2
          have e8 : (jcp μ 5 fr 18 t b).1 17 8 = nI x := by rw [(jcp_off μ 5 fr 18 t b 17 (by decide)).1]; exact h6
          have ei : (if nI rc < nI (t + b) then nI (t + b) else nI rc) = nI (if rc < t + b then t + b else rc) := by
            by_cases hq : rc < t + b
            · rw [if_pos (by rw [nI_ltI (by omega) (by omega)]; exact hq), if_pos hq]
            · rw [if_neg (by rw [nI_ltI (by omega) (by omega)]; exact hq), if_neg hq]
          rw [e4, nI_add, ei, jlet_e, jsI_k _ _ (by decide), e8, nI_add, jlet_e, jl_1, jbl_1]
        · refine ⟨?_, ?_, ?_, ?_, ?_, fun i hi => ?_⟩
          · rw [jl_0, nI_ltI (by omega) (by omega)]; omega
          · rw [jl_0, nI_ltI (by omega) (by omega)]; omega
          · rw [jl_0, nI_ltI (by omega) (by omega)]; omega
          · rw [nI_clamp (by omega), nI_clamp (by omega)]; omega
          · rw [nI_clamp (by omega), nI_clamp (by omega)]; omega
          · rw [nI_clamp (by omega)] at hi
            rw [nI_clamp (by omega), (hco (fr + i) (by omega)).2]
            exact jb_fit _
      · have off : ∀ k, (jcp μ 5 fr 18 t b).1 17 k = μ.1 17 k := fun k => by rw [(jcp_off μ 5 fr 18 t b 17 (by decide)).1]
        refine ⟨h0.tr ((Fr.C _ (by decide)).tr ((Fr.I _ _ _ (by decide)).tr (Fr.I _ _ _ (by decide)))), ?_, ?_, ?_, ?_, ?_, jsI_s _ _ _ _, h7, fun i hi => ?_⟩
        · simp (decide := true) only [jsI_s, jsI_k, jsI_c, jsI_2, jsJ_1, ne_eq, not_false_eq_true, off, h1]
        · simp (decide := true) only [jsI_s, jsI_k, jsI_c, jsI_2, jsJ_1, ne_eq, not_false_eq_true]
        · simp (decide := true) only [jsI_s, jsI_k, jsI_c, jsI_2, jsJ_1, ne_eq, not_false_eq_true, off, h3]
        · simp (decide := true) only [jsI_s, jsI_k, jsI_c, jsI_2, jsJ_1, ne_eq, not_false_eq_true, off, h4]
        · simp (decide := true) only [jsI_s, jsI_k, jsI_c, jsI_2, jsJ_1, ne_eq, not_false_eq_true, off, h5]
        · rw [jsI_c _ _ _ (by decide), jsI_c _ _ _ (by decide), jcp_upd]
          unfold va_cpy ov
          by_cases hin : t ≤ i ∧ i < t + b
          · rw [if_pos hin, if_pos hin]
            exact hco (fr + (i - t)) (by omega)
          · rw [if_neg hin, if_neg hin]
            exact h8 i hi
    · left
      refine ⟨by omega, ?_⟩
      rw [if_neg (by rw [subLt (by omega) (by omega) (by omega)]; omega), if_neg (by rw [subLe (by omega) (by omega) (by omega)]; omega), jl_0, jbl_0]
  · left
    refine ⟨by omega, ?_⟩
    rw [if_pos (by rw [subLt (by omega) (by omega) (by omega)]; omega), jl_0, jbl_0]
theorem MN.put {ν0 ν : jM} {rc pn k v : Nat} {pl pl' : Nat → Nat} (h : MN ν0 ν rc pn pl) (hv : v < 256) (hs : ∀ i, pl' i = if i = k then v else pl i) : MN ν0 (jsI ν 3 k (nI v)) rc pn pl' := by
  obtain ⟨h1, h2, h3, h4, h5, h6, h7⟩ := h
  refine ⟨fun j hj => (jsI_c _ _ _ (by decide)).trans (h1 j hj), ?_, ?_, ?_, ?_, h6, fun i hi => ?_⟩
  · rw [← h2]; funext i; exact jsI_c _ _ _ (by decide)
  · rw [← h3]; funext i; exact jsI_c _ _ _ (by decide)
  · simp (decide := true) only [jsI_s, jsI_k, jsI_c, jsI_2, jsJ_1, ne_eq, not_false_eq_true, h4]
  · simp (decide := true) only [jsI_s, jsI_k, jsI_c, jsI_2, jsJ_1, ne_eq, not_false_eq_true, h5]
  · rw [hs i]
    by_cases hin : i = k
    · rw [if_pos hin, hin, jsI_s]
      exact ⟨hv, rfl⟩
    · rw [if_neg hin, jsI_k _ _ hin]
      exact h7 i hi
theorem MN.rc {ν0 ν : jM} {rc pn rc' : Nat} {pl : Nat → Nat} (h : MN ν0 ν rc pn pl) : MN ν0 (jsI ν 0 11 (nI rc')) rc' pn pl := by
  obtain ⟨h1, h2, h3, h4, h5, h6, h7⟩ := h
  refine ⟨fun j hj => (jsI_k _ _ (by omega)).trans (h1 j hj), ?_, ?_, ?_, jsI_s _ _ _ _, h6, fun i hi => ?_⟩
  · rw [← h2]; funext i; exact jsI_c _ _ _ (by decide)
  · rw [← h3]; funext i; exact jsI_c _ _ _ (by decide)
  · simp (decide := true) only [jsI_s, jsI_k, jsI_c, jsI_2, jsJ_1, ne_eq, not_false_eq_true, h4]
  · rw [jsI_c _ _ _ (by decide)]; exact h7 i hi
theorem s_cM25 {ν0 : jM} {cn fr b to rc pn : Nat} {pl cd : Nat → Nat} (hmd : MR ν0 8 2 1000 cn cd) (q1 : fr + b ≤ cn) (q2 : to + b ≤ pn) (hrc : rc ≤ 400) : ∀ (j fu k : Nat) (ν : jM), j < fu → k + j = b → MN ν0 ν rc pn (ov pl to (fun i => cd (fr + i)) k) → ∃ ν', f_X6_copies_25 fu (nI fr) (nI to) (nI b) (nI k) ν = some (nI 1, ν') ∧ MN ν0 ν' (if rc < to + b then to + b else rc) pn (ov pl to (fun i => cd (fr + i)) b) := by
  have hcn := hmd.2.1
  intro j
  induction j with
  | zero =>
    intro fu k ν hf hk h
    obtain ⟨fu, rfl⟩ : ∃ g, fu = g + 1 := ⟨fu - 1, by omega⟩
    obtain rfl : k = b := by omega
    have hpn := h.2.2.2.2.2.1
    refine ⟨jsI ν 0 11 (nI (if rc < to + k then to + k else rc)), ?_, h.rc⟩
    unfold f_X6_copies_25 f_X6_copies_76
    rw [if_pos (by rw [nI_leI (by omega) (by omega)]; omega), h.2.2.2.2.1, nI_add]
    by_cases hq : rc < to + k
    · rw [if_neg (by rw [nI_leI (by omega) (by omega)]; omega), if_pos hq, jlet_e, jl_1, jbl_1]
    · rw [if_pos (by rw [nI_leI (by omega) (by omega)]; omega), if_neg hq, jlet_e, jl_1, jbl_1]
  | succ j ih =>
    intro fu k ν hf hk h
    obtain ⟨fu, rfl⟩ : ∃ g, fu = g + 1 := ⟨fu - 1, by omega⟩
    have hpn := h.2.2.2.2.2.1
    obtain ⟨hv, hv2⟩ := (h.mr hmd).2.2.2 (fr + k) (by omega)
    obtain ⟨ν', e, h'⟩ := ih fu (k + 1) _ (by omega) (by omega) (h.put (k := to + k) (v := cd (fr + k)) hv (fun i => by rw [ov_s]))
    refine ⟨ν', ?_, h'⟩
    rw [f_X6_copies_25.eq_2, if_neg (by rw [nI_leI (by omega) (by omega)]; omega), nI_add, nI_add, jin_n (by omega) (by omega), jin_n (by omega) (by omega), nI_clamp (by omega), nI_clamp (by omega), hv2, jlet_e, jl_1, nI_add, jlet_e]
    exact e
theorem s_copiesM {ν0 ν : jM} {cn fr b to rc pn : Nat} {pl cd : Nat → Nat} (hmd : MR ν0 8 2 1000 cn cd) (hfr : fr ≤ cn) (hb2 : b ≤ 512) (hto : to < 100000000) (hrc : rc ≤ 400) (h : MN ν0 ν rc pn pl) :
    (¬ (fr + b ≤ cn ∧ to + b ≤ pn) ∧ f_X6_copies (nI fr) (nI to) (nI b) ν = some (nI 0, ν)) ∨ (fr + b ≤ cn ∧ to + b ≤ pn ∧ ∃ ν', f_X6_copies (nI fr) (nI to) (nI b) ν = some (nI 1, ν') ∧ MN ν0 ν' (if rc < to + b then to + b else rc) pn (ov pl to (fun k => cd (fr + k)) b)) := by
  have hcn := hmd.2.1
  have hpn := h.2.2.2.2.2.1
  unfold f_X6_copies f_X6_copies_20
  rw [(h.mr hmd).1, h.2.2.2.1, nI_add, nI_add]
  by_cases q1 : fr + b ≤ cn
  · by_cases q2 : to + b ≤ pn
    · right
      obtain ⟨ν', e, h'⟩ := s_cM25 (pl := pl) hmd q1 q2 hrc b jFU 0 ν (by unfold jFU; omega) (by omega) (by rw [ov_0]; exact h)
      refine ⟨q1, q2, ν', ?_, h'⟩
      rw [if_neg (by rw [nI_ltI (by omega) (by omega)]; omega), if_pos (by rw [nI_leI (by omega) (by omega)]; omega), jl_0]
      exact e
    · left
      refine ⟨by omega, ?_⟩
      rw [if_neg (by rw [nI_ltI (by omega) (by omega)]; omega), if_neg (by rw [nI_leI (by omega) (by omega)]; omega), jl_0, jbl_0]
  · left
    refine ⟨by omega, ?_⟩
    rw [if_pos (by rw [nI_ltI (by omega) (by omega)]; omega), jl_0, jbl_0]
