/-- T copies one behind the other: all done?, reach, place, bytes -/
def cp (cn fr b pn : Nat) (cd : Nat → Nat) : Nat → Nat → Nat → (Nat → Nat) → Bool × Nat × Nat × (Nat → Nat)
  | 0, rc, to, pl => (true, rc, to, pl)
  | j + 1, rc, to, pl => if fr + b ≤ cn ∧ to + b ≤ pn then cp cn fr b pn cd j (if rc < to + b then to + b else rc) (to + b) (ov pl to (fun k => cd (fr + k)) b) else (false, rc, to, pl)
theorem cp_to {cn fr b pn : Nat} {cd : Nat → Nat} : ∀ (j rc to : Nat) (pl : Nat → Nat), (cp cn fr b pn cd j rc to pl).1 = true → (cp cn fr b pn cd j rc to pl).2.2.1 = to + j * b ∧ (0 < j → fr + b ≤ cn ∧ to + j * b ≤ pn)
  | 0, rc, to, pl, _ => by simp [cp]
  | j + 1, rc, to, pl, h => by
    unfold cp at h ⊢
    by_cases hq : fr + b ≤ cn ∧ to + b ≤ pn
    · rw [if_pos hq] at h ⊢
      obtain ⟨h1, h2⟩ := cp_to j _ _ _ h
      have hs : (j + 1) * b = j * b + b := Nat.succ_mul j b
      refine ⟨by omega, fun _ => ⟨hq.1, ?_⟩⟩
      by_cases hj : 0 < j
      · have := (h2 hj).2; omega
      · obtain rfl : j = 0 := by omega
        omega
    · rw [if_neg hq] at h
      cases h
theorem cp_rc {cn fr b pn : Nat} {cd : Nat → Nat} (hpn : pn ≤ 400) : ∀ (j rc to : Nat) (pl : Nat → Nat), rc ≤ 400 → (cp cn fr b pn cd j rc to pl).2.1 ≤ 400
  | 0, rc, to, pl, h => h
  | j + 1, rc, to, pl, h => by
    unfold cp
    by_cases hq : fr + b ≤ cn ∧ to + b ≤ pn
    · rw [if_pos hq]
      refine cp_rc hpn j _ _ _ ?_
      by_cases h2 : rc < to + b
      · rw [if_pos h2]; omega
      · rw [if_neg h2]; exact h
    · rw [if_neg hq]
      exact h
theorem s_cT {μ0 : jM} {f U W M D cn fr b p y en pn T : Nat} {cd : Nat → Nat} (hb : CB f U W M D) (hc : CF μ0 f U W M D) (hcd : OC μ0 4 1000 cn cd) (hfr : fr ≤ cn) (hb2 : b ≤ 512) (hT : T ≤ 255) :
    ∀ (j fu t x rc : Nat) (pl : Nat → Nat) (μ : jM), j < fu → t + j = T → y * W + x < 100000000 → rc ≤ 400 → CN μ0 μ p y x en rc pn pl → ∃ μ' p' x', f_X3_copiesTimes_3 fu (nI fr) (nI b) (nI T) (nI t) μ = some (if (cp cn fr b pn cd j rc (y * W + x) pl).1 then nI 1 else nI 0, μ') ∧ CN μ0 μ' p' y x' en (cp cn fr b pn cd j rc (y * W + x) pl).2.1 pn (cp cn fr b pn cd j rc (y * W + x) pl).2.2.2 ∧ ((cp cn fr b pn cd j rc (y * W + x) pl).1 = true → p' = fr + b ∧ x' = x + j * b) := by
  have hcn := hcd.2.1
  intro j
  induction j with
  | zero =>
    intro fu t x rc pl μ hf hk hto hrc h
    obtain ⟨fu, rfl⟩ : ∃ g, fu = g + 1 := ⟨fu - 1, by omega⟩
    refine ⟨_, fr + b, x, ?_, h.upd 5 (fr + b) (Or.inl ⟨rfl, rfl, rfl, rfl, rfl⟩), fun _ => ⟨rfl, by omega⟩⟩
    rw [f_X3_copiesTimes_3.eq_2, if_pos (by rw [nI_leI (by omega) (by omega)]; omega), nI_add, jlet_e, jl_1, jbl_1]
    rfl
  | succ j ih =>
    intro fu t x rc pl μ hf hk hto hrc h
    obtain ⟨fu, rfl⟩ : ∃ g, fu = g + 1 := ⟨fu - 1, by omega⟩
    have hpn := h.2.2.2.2.2.2.2.1
    rw [f_X3_copiesTimes_3.eq_2, if_neg (by rw [nI_leI (by omega) (by omega)]; omega)]
    rcases s_copies hb hc hcd hfr hb2 hto hrc h with ⟨q1, q2⟩ | ⟨q1, q2, μ1, q3, q4⟩
    · have ec : cp cn fr b pn cd (j + 1) rc (y * W + x) pl = (false, rc, y * W + x, pl) := by unfold cp; rw [if_neg q1]
      rw [ec]
      refine ⟨μ, p, x, ?_, h, fun z => by cases z⟩
      rw [q2, jcall_s, jl_0, if_pos rfl, jbl_0]
      rfl
    · have ec : cp cn fr b pn cd (j + 1) rc (y * W + x) pl = cp cn fr b pn cd j (if rc < y * W + x + b then y * W + x + b else rc) (y * W + (x + b)) (ov pl (y * W + x) (fun k => cd (fr + k)) b) := by
        conv => lhs; unfold cp
        rw [if_pos ⟨q1, q2⟩, Nat.add_assoc]
      rw [ec, q3, jcall_s, if_neg (show ¬ (nI 1 : Int32) = 0 by decide), jl_1, nI_add, jlet_e]
      obtain ⟨μ', p', x', e, h', hh⟩ := ih fu (t + 1) (x + b) _ _ μ1 (by omega) (by omega) (by omega) (by
        by_cases h2 : rc < y * W + x + b
        · rw [if_pos h2]; omega
        · rw [if_neg h2]; exact hrc) q4
      exact ⟨μ', p', x', e, h', fun z => by
        obtain ⟨a1, a2⟩ := hh z
        have hs : (j + 1) * b = j * b + b := Nat.succ_mul j b
        exact ⟨a1, by omega⟩⟩
theorem s_cTall {μ0 μ : jM} {f U W M D cn fr b p y x en pn T rc : Nat} {pl cd : Nat → Nat} (hb : CB f U W M D) (hc : CF μ0 f U W M D) (hcd : OC μ0 4 1000 cn cd) (hfr : fr ≤ cn) (hb2 : b ≤ 512) (hT : T ≤ 255) (hto : y * W + x < 100000000) (hrc : rc ≤ 400) (h : CN μ0 μ p y x en rc pn pl) : ∃ μ' p' x', f_X3_copiesTimes (nI fr) (nI b) (nI T) μ = some (if (cp cn fr b pn cd T rc (y * W + x) pl).1 then nI 1 else nI 0, μ') ∧ CN μ0 μ' p' y x' en (cp cn fr b pn cd T rc (y * W + x) pl).2.1 pn (cp cn fr b pn cd T rc (y * W + x) pl).2.2.2 ∧ ((cp cn fr b pn cd T rc (y * W + x) pl).1 = true → p' = fr + b ∧ x' = x + T * b) := by
  unfold f_X3_copiesTimes
  rw [jl_0]
  exact s_cT hb hc hcd hfr hb2 hT T jFU 0 x rc pl μ (by unfold jFU; omega) (by omega) hto hrc h
theorem s_m87 {ν0 : jM} {f U W M D cn i pn T : Nat} {cd : Nat → Nat} (hb : CB f U W M D) (hm : MF ν0 f U W M D) (hmd : MR ν0 8 2 1000 cn cd) (hfr : i + 2 ≤ cn) (hT : T ≤ 255) (K : Int32 → Int32 → jM → Option (Int32 × jM)) :
    ∀ (j fu t to rc : Nat) (pl : Nat → Nat) (ν : jM), j < fu → t + j = T → to < 100000000 → rc ≤ 400 → MN ν0 ν rc pn pl → ∃ ν', f_X6_plainMarked_87 K fu (nI i) (nI to) (nI T) (nI t) ν = (if (cp cn (i + 2) U pn cd j rc to pl).1 then K (nI (i + (2 + U))) (nI (cp cn (i + 2) U pn cd j rc to pl).2.2.1) ν' else some (nI 0, ν')) ∧ MN ν0 ν' (cp cn (i + 2) U pn cd j rc to pl).2.1 pn (cp cn (i + 2) U pn cd j rc to pl).2.2.2 := by
  have hU := hb.2.1
  have hcn := hmd.2.1
  intro j
  induction j with
  | zero =>
    intro fu t to rc pl ν hf hk hto hrc h
    obtain ⟨fu, rfl⟩ : ∃ g, fu = g + 1 := ⟨fu - 1, by omega⟩
    refine ⟨ν, ?_, h⟩
    rw [f_X6_plainMarked_87.eq_2, if_pos (by rw [nI_leI (by omega) (by omega)]; omega), (h.mf hm).2.1, jl_2, nI_add, nI_add, jlet_e]
    rfl
  | succ j ih =>
    intro fu t to rc pl ν hf hk hto hrc h
    obtain ⟨fu, rfl⟩ : ∃ g, fu = g + 1 := ⟨fu - 1, by omega⟩
    have hpn := h.2.2.2.2.2.1
    rw [f_X6_plainMarked_87.eq_2, if_neg (by rw [nI_leI (by omega) (by omega)]; omega), (h.mf hm).2.1, jl_2, nI_add]
    rcases s_copiesM (fr := i + 2) (b := U) (to := to) hmd hfr (by omega) hto hrc h with ⟨q1, q2⟩ | ⟨q1, q2, ν1, q3, q4⟩
    · have ec : cp cn (i + 2) U pn cd (j + 1) rc to pl = (false, rc, to, pl) := by unfold cp; rw [if_neg q1]
      rw [ec]
      refine ⟨ν, ?_, h⟩
      rw [q2, jcall_s, jl_0, if_pos rfl, jbl_0]
      rfl
    · have ec : cp cn (i + 2) U pn cd (j + 1) rc to pl = cp cn (i + 2) U pn cd j (if rc < to + U then to + U else rc) (to + U) (ov pl to (fun k => cd (i + 2 + k)) U) := by
        conv => lhs; unfold cp
        rw [if_pos ⟨q1, q2⟩]
      rw [ec, q3, jcall_s, if_neg (show ¬ (nI 1 : Int32) = 0 by decide), (q4.mf hm).2.1, nI_add, jlet_e, jl_1, nI_add, jlet_e]
      exact ih fu (t + 1) (to + U) _ _ ν1 (by omega) (by omega) (by omega) (by
        by_cases h2 : rc < to + U
        · rw [if_pos h2]; omega
        · rw [if_neg h2]; exact hrc) q4
theorem s_m96 {ν0 : jM} {f U W M D cn fr pn T : Nat} {cd : Nat → Nat} {c : Int32} (hb : CB f U W M D) (hm : MF ν0 f U W M D) (hmd : MR ν0 8 2 1000 cn cd) (hfr : fr ≤ cn) (hT : T ≤ 255) (hcT : 1 - c = nI T) (K : Int32 → Int32 → jM → Option (Int32 × jM)) :
    ∀ (j fu t to rc : Nat) (pl : Nat → Nat) (ν : jM), j < fu → t + j = T → to < 100000000 → rc ≤ 400 → MN ν0 ν rc pn pl → ∃ ν', f_X6_plainSigned_96 K fu (nI fr) (nI to) c (nI t) ν = (if (cp cn fr U pn cd j rc to pl).1 then K (nI (fr + U)) (nI (cp cn fr U pn cd j rc to pl).2.2.1) ν' else some (nI 0, ν')) ∧ MN ν0 ν' (cp cn fr U pn cd j rc to pl).2.1 pn (cp cn fr U pn cd j rc to pl).2.2.2 := by
  have hU := hb.2.1
  have hcn := hmd.2.1
  intro j
  induction j with
  | zero =>
    intro fu t to rc pl ν hf hk hto hrc h
    obtain ⟨fu, rfl⟩ : ∃ g, fu = g + 1 := ⟨fu - 1, by omega⟩
    refine ⟨ν, ?_, h⟩
    unfold f_X6_plainSigned_96 f_X6_plainSigned_139
    rw [hcT, if_pos (by rw [nI_leI (by omega) (by omega)]; omega), (h.mf hm).2.1, nI_add, jlet_e]
    rfl
  | succ j ih =>
    intro fu t to rc pl ν hf hk hto hrc h
    obtain ⟨fu, rfl⟩ : ∃ g, fu = g + 1 := ⟨fu - 1, by omega⟩
    have hpn := h.2.2.2.2.2.1
    rw [f_X6_plainSigned_96.eq_2, hcT, if_neg (by rw [nI_leI (by omega) (by omega)]; omega), (h.mf hm).2.1]
    rcases s_copiesM (fr := fr) (b := U) (to := to) hmd hfr (by omega) hto hrc h with ⟨q1, q2⟩ | ⟨q1, q2, ν1, q3, q4⟩
    · have ec : cp cn fr U pn cd (j + 1) rc to pl = (false, rc, to, pl) := by unfold cp; rw [if_neg q1]
      rw [ec]
      refine ⟨ν, ?_, h⟩
      rw [q2, jcall_s, jl_0, if_pos rfl, jbl_0]
      rfl
    · have ec : cp cn fr U pn cd (j + 1) rc to pl = cp cn fr U pn cd j (if rc < to + U then to + U else rc) (to + U) (ov pl to (fun k => cd (fr + k)) U) := by
        conv => lhs; unfold cp
        rw [if_pos ⟨q1, q2⟩]
      rw [ec, q3, jcall_s, if_neg (show ¬ (nI 1 : Int32) = 0 by decide), (q4.mf hm).2.1, nI_add, jlet_e, jl_1, nI_add, jlet_e]
      exact ih fu (t + 1) (to + U) _ _ ν1 (by omega) (by omega) (by omega) (by
        by_cases h2 : rc < to + U
        · rw [if_pos h2]; omega
        · rw [if_neg h2]; exact hrc) q4
theorem s_m55 {ν0 : jM} {f U W M D cn fr pn T i x y to0 : Nat} {cd : Nat → Nat} (hb : CB f U W M D) (hm : MF ν0 f U W M D) (hmd : MR ν0 8 2 1000 cn cd) (hfr : fr < cn) (hT : T ≤ 255) (hto : to0 < 100000000) (hx : x < 100000000) (K : Int32 → Int32 → Int32 → jM → Option (Int32 × jM)) :
    ∀ (j fu t rc : Nat) (pl : Nat → Nat) (ν : jM), j < fu → t + j = T → rc ≤ 400 → MN ν0 ν rc pn pl → ∃ ν', f_X6_plainRows_55 K fu (nI i) (nI x) (nI y) (nI T) (nI (cd fr)) (nI to0) (nI t) ν = (if (cp cn fr 1 pn cd j rc (to0 + t) pl).1 then K (nI i) (nI (x + T)) (nI y) ν' else some (nI 0, ν')) ∧ MN ν0 ν' (cp cn fr 1 pn cd j rc (to0 + t) pl).2.1 pn (cp cn fr 1 pn cd j rc (to0 + t) pl).2.2.2 := by
  have hcn := hmd.2.1
  have hv := (hmd.2.2.2 fr hfr).1
  intro j
  induction j with
  | zero =>
    intro fu t rc pl ν hf hk hrc h
    obtain ⟨fu, rfl⟩ : ∃ g, fu = g + 1 := ⟨fu - 1, by omega⟩
    refine ⟨ν, ?_, h⟩
    unfold f_X6_plainRows_55 f_X6_plainRows_228
    rw [if_pos (by rw [nI_leI (by omega) (by omega)]; omega), nI_add, jlet_e]
    rfl
  | succ j ih =>
    intro fu t rc pl ν hf hk hrc h
    obtain ⟨fu, rfl⟩ : ∃ g, fu = g + 1 := ⟨fu - 1, by omega⟩
    have hpn := h.2.2.2.2.2.1
    rw [f_X6_plainRows_55.eq_2, if_neg (by rw [nI_leI (by omega) (by omega)]; omega), nI_add, h.2.2.2.1]
    by_cases q : to0 + t + 1 ≤ pn
    · have ec : cp cn fr 1 pn cd (j + 1) rc (to0 + t) pl = cp cn fr 1 pn cd j (if rc < to0 + t + 1 then to0 + t + 1 else rc) (to0 + (t + 1)) (ov pl (to0 + t) (fun k => cd (fr + k)) 1) := by
        conv => lhs; unfold cp
        rw [if_pos ⟨by omega, q⟩]
        rfl
      have h1 := h.put (k := to0 + t) (v := cd fr) (pl' := ov pl (to0 + t) (fun k => cd (fr + k)) 1) hv (fun i => by rw [ov_s]; simp [ov_0])
      have e11 := h1.2.2.2.2.1
      have hif : (if rc < to0 + t + 1 then to0 + t + 1 else rc) ≤ 400 := by
        by_cases h2 : rc < to0 + t + 1
        · rw [if_pos h2]; omega
        · rw [if_neg h2]; exact hrc
      rw [ec, if_pos (by rw [nI_ltI (by omega) (by omega)]; omega), jin_n (by omega) (by omega), nI_clamp (by omega), jlet_e, e11, jl_1, nI_add]
      unfold f_X6_plainRows_117
      obtain ⟨ν', e, h'⟩ := ih fu (t + 1) _ _ _ (by omega) (by omega) hif (h1.rc (rc' := if rc < to0 + t + 1 then to0 + t + 1 else rc))
      refine ⟨ν', ?_, h'⟩
      by_cases h2 : rc < to0 + t + 1
      · rw [if_neg (by rw [nI_leI (by omega) (by omega)]; omega), jlet_e, jl_1, nI_add, jlet_e]
        rw [if_pos h2] at e ⊢
        exact e
      · rw [if_pos (by rw [nI_leI (by omega) (by omega)]; omega), jlet_e, jl_1, nI_add, jlet_e]
        rw [if_neg h2] at e ⊢
        exact e
    · have ec : cp cn fr 1 pn cd (j + 1) rc (to0 + t) pl = (false, rc, to0 + t, pl) := by unfold cp; rw [if_neg (by omega)]
      rw [ec]
      refine ⟨ν, ?_, h⟩
      rw [if_neg (by rw [nI_ltI (by omega) (by omega)]; omega), jl_0, jbl_0]
      rfl
