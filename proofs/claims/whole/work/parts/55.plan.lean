/-! the class's plan in the fewest bytes -/
def CHb (f U M : Nat) (vl : Nat → Nat) (e i : Nat) (T : Nat → Nat) (b s n : Nat) : Prop :=
  (∀ k, msd f U M vl e i k → b ≤ sc f U k + T (i + k)) ∧ (lrn f ≤ RR f vl e i → b ≤ rc f U + T (i + RR f vl e i)) ∧
  ((s = 1 ∧ msd f U M vl e i n ∧ b = sc f U n + T (i + n) ∧ ∀ k, msd f U M vl e i k → n < k → b < sc f U k + T (i + k)) ∨
   (s = 2 ∧ n = RR f vl e i ∧ lrn f ≤ RR f vl e i ∧ b = rc f U + T (i + RR f vl e i) ∧ ∀ k, msd f U M vl e i k → b < sc f U k + T (i + k)))
theorem CHb.congr {f U M : Nat} {vl : Nat → Nat} {e i : Nat} {T T' : Nat → Nat} {b s n : Nat} (hi : i < e) (h : CHb f U M vl e i T b s n) (g : ∀ k, i < k → T' k = T k) : CHb f U M vl e i T' b s n := by
  have hl := lst_ge f
  have hR := (RR_b (f := f) (vl := vl) hi).1
  have gk : ∀ k, msd f U M vl e i k → T' (i + k) = T (i + k) := fun k hk => g _ (by have := hk.1; omega)
  obtain ⟨h1, h2, h3⟩ := h
  refine ⟨fun k hk => by rw [gk k hk]; exact h1 k hk, fun z => by rw [g _ (by omega)]; exact h2 z, ?_⟩
  rcases h3 with ⟨a, b', c, d⟩ | ⟨a, b', c, d, d'⟩
  · exact Or.inl ⟨a, b', by rw [gk n b']; exact c, fun k hk hk2 => by rw [gk k hk]; exact d k hk hk2⟩
  · exact Or.inr ⟨a, b', c, by rw [g _ (by omega)]; exact d, fun k hk => by rw [gk k hk]; exact d' k hk⟩
/-- only the three rows' places i have changed -/
def FO (i : Nat) (μ μ' : jM) : Prop := Fr [11, 12, 13] μ μ' ∧ ∀ k, k ≠ i → μ'.1 11 k = μ.1 11 k ∧ μ'.1 12 k = μ.1 12 k ∧ μ'.1 13 k = μ.1 13 k
theorem FO.rf {i : Nat} {μ : jM} : FO i μ μ := ⟨Fr.rf, fun _ _ => ⟨rfl, rfl, rfl⟩⟩
theorem FO.tr {i : Nat} {μ μ1 μ2 : jM} (h : FO i μ μ1) (g : FO i μ1 μ2) : FO i μ μ2 := ⟨h.1.tr g.1, fun k hk => ⟨((g.2 k hk).1).trans (h.2 k hk).1, ((g.2 k hk).2.1).trans (h.2 k hk).2.1, ((g.2 k hk).2.2).trans (h.2 k hk).2.2⟩⟩
theorem FO.I {i : Nat} (μ : jM) {c : Nat} (v : Int32) (h : c = 11 ∨ c = 12 ∨ c = 13) : FO i μ (jsI μ c i v) := by
  refine ⟨Fr.I _ _ _ (by rcases h with q | q | q <;> subst q <;> decide), fun k hk => ?_⟩
  have g : ∀ d, (jsI μ c i v).1 d k = μ.1 d k := fun d => by
    by_cases z : d = c
    · rw [z, jsI_k _ _ hk]
    · rw [jsI_c _ _ _ z]
  exact ⟨g _, g _, g _⟩
theorem s_choose {μ : jM} {i : Nat} (hi : i < 240) (s n : Nat) : ∃ μ', f_X2_choose (nI i) (nI s) (nI n) μ = some ((), μ') ∧ FO i μ μ' ∧ μ'.1 11 = μ.1 11 ∧ μ'.1 12 i = nI s ∧ μ'.1 13 i = nI n := by
  refine ⟨jsI (jsI μ 12 i (nI s)) 13 i (nI n), ?_, (FO.I _ _ (by decide)).tr (FO.I _ _ (by decide)), ?_, ?_, jsI_s _ _ _ _⟩
  · unfold f_X2_choose
    rw [jin_n (by omega) (by omega), nI_clamp (by omega), jlet_e, jin_n (by omega) (by omega), jlet_e]
  · funext k
    rw [jsI_c _ _ _ (by decide), jsI_c _ _ _ (by decide)]
  · rw [jsI_c _ _ _ (by decide), jsI_s]
theorem s_offer {μ : jM} {i e n s c b t : Nat} (e8 : μ.1 6 8 = nI e) (he : e ≤ 240) (hin : i + n ≤ e) (hn : 1 ≤ n) (ht : μ.1 11 (i + n) = nI t) (hb : μ.1 11 i = nI b) (hb2 : b ≤ 1000000) (hc : c ≤ 1500) (ht2 : t ≤ 2000) :
    ∃ μ', f_X2_offer (nI i) (nI s) (nI n) (nI c) μ = some ((), μ') ∧ FO i μ μ' ∧ ((c + t < b ∧ μ'.1 11 i = nI (c + t) ∧ μ'.1 12 i = nI s ∧ μ'.1 13 i = nI n) ∨ (b ≤ c + t ∧ μ' = μ)) := by
  unfold f_X2_offer
  rw [nI_add, e8, if_pos (by rw [nI_leI (by omega) (by omega)]; exact hin), jin_n (by omega) (by omega), nI_clamp (by omega), ht, nI_add, jlet_e, jin_n (by omega) (by omega), nI_clamp (by omega), hb]
  by_cases q : b ≤ c + t
  · rw [if_pos (by rw [nI_leI (by omega) (by omega)]; exact q)]
    exact ⟨μ, rfl, FO.rf, Or.inr ⟨q, rfl⟩⟩
  · obtain ⟨μ1, e1, g1, k1, k2, k3⟩ := s_choose (μ := μ) (i := i) (by omega) s n
    rw [if_neg (by rw [nI_leI (by omega) (by omega)]; exact q), e1, jcall_s, jin_n (by omega) (by omega), jlet_e]
    refine ⟨_, rfl, g1.tr (FO.I _ _ (by decide)), Or.inl ⟨by omega, jsI_s _ _ _ _, ?_, ?_⟩⟩
    · rw [jsI_c _ _ _ (by decide)]; exact k2
    · rw [jsI_c _ _ _ (by decide)]; exact k3
/-- what the class has measured of a stretch -/
def ME (μ : jM) (f : Nat) (vl : Nat → Nat) (fr e : Nat) : Prop := μ.1 6 8 = nI e ∧ μ.1 6 9 = nI (rst f vl fr e) ∧ ∀ i, fr ≤ i → i < e → μ.1 10 i = nI (lk vl e i)
theorem ME.fr {cs : List Nat} {μ μ' : jM} {f : Nat} {vl : Nat → Nat} {fr e : Nat} (h : ME μ f vl fr e) (g : Fr cs μ μ') (h6 : 6 ∉ cs) (h10 : 10 ∉ cs) : ME μ' f vl fr e := ⟨by rw [g.at h6]; exact h.1, by rw [g.at h6]; exact h.2.1, fun i a b => by rw [g.at h10]; exact h.2.2 i a b⟩
theorem UV.fr {cs : List Nat} {μ μ' : jM} {m : Nat} {vl : Nat → Nat} (h : UV μ m vl) (g : Fr cs μ μ') (h9 : 9 ∉ cs) : UV μ' m vl := fun i hi => by rw [g.at h9]; exact h i hi
theorem s_chF_loop {μ0 : jM} {f U W M D m fr e i : Nat} {vl T : Nat → Nat} (hb : CB f U W M D) (hc : CF μ0 f U W M D) (hme : ME μ0 f vl fr e) (hm : m ≤ 240) (hem : e ≤ m) (hfi : fr ≤ i) (hi : i < e) (hT : ∀ k, i < k → k ≤ e → μ0.1 11 k = nI (T k) ∧ T k ≤ 2000) :
    ∀ (j fu k b : Nat) (μ : jM) (x : Int32), j < fu → (j = 0 → x < nI (lst f)) → (0 < j → x = nI k ∧ lst f ≤ k) → j + lst f = k + 1 ∨ j = 0 → (0 < j → i + k ≤ e ∧ k ≤ mst f ∧ ¬ mkd f U M vl i) → FO i μ0 μ → μ.1 11 i = nI b → b ≤ 1000000 →
      (∀ k', (j = 0 ∨ k < k') → msd f U M vl e i k' → b ≤ sc f U k' + T (i + k')) →
      (∀ _ : Unit, b = 1000000 ∨ μ.1 12 i = nI 1 ∧ ∃ n, μ.1 13 i = nI n ∧ msd f U M vl e i n ∧ (j = 0 ∨ k < n) ∧ b = sc f U n + T (i + n) ∧ ∀ k', msd f U M vl e i k' → n < k' → b < sc f U k' + T (i + k')) →
      ∃ μ' b' s' n', f_X2_chooseFewest_59 fu (nI i) x μ = some ((), μ') ∧ FO i μ0 μ' ∧ μ'.1 11 i = nI b' ∧ μ'.1 12 i = nI s' ∧ μ'.1 13 i = nI n' ∧ CHb f U M vl e i T b' s' n' := by
  obtain ⟨hf, hU, hW1, hW2, hM, hD, h2⟩ := id hb
  obtain ⟨r1, r2, r3⟩ := RR_b (f := f) (vl := vl) hi
  have hl1 := lst_ge f
  have hms := mst_le f
  have hmr := mrn_le f
  have hrc := rc_le hb
  intro j
  induction j with
  | zero =>
    intro fu k b μ x hfu h0 h1 hjk hk hfo e11 hb6 hle hch
    obtain ⟨fu, rfl⟩ : ∃ g, fu = g + 1 := ⟨fu - 1, by omega⟩
    have hcf := hc.fr hfo.1 (by decide)
    have hmf := hme.fr hfo.1 (by decide) (by decide)
    have hT' : ∀ k, i < k → k ≤ e → μ.1 11 k = nI (T k) := fun k a c => by rw [(hfo.2 k (by omega)).1]; exact (hT k a c).1
    rw [f_X2_chooseFewest_59.eq_2, s_leastThem hb hcf, jcall_s, if_pos (h0 rfl), s_runAt hb hcf (hmf.2.2 i hfi hi) hi (by omega), jcall_s, s_leastRun hb hcf, jcall_s]
    by_cases q : RR f vl e i < lrn f
    · have q1 : f = 1 := by
        unfold lrn at q
        by_cases z : f = 1
        · exact z
        · rw [if_neg z] at q; omega
      have m1 : msd f U M vl e i 1 := by
        refine ⟨?_, hms.2, by omega, fun z => by have := z.1; omega⟩
        unfold lst; rw [if_neg (by omega)]; omega
      have hb1 := hle 1 (Or.inl rfl) m1
      have hs1 := sc_le (n := 1) hb (by omega)
      have ht1 := (hT (i + 1) (by omega) (by omega)).2
      rcases hch () with z | ⟨c1, n, c2, c3, c4, c5, c6⟩
      · omega
      · rw [if_pos (by rw [nI_ltI (by omega) (by unfold lrn; split <;> omega)]; exact q)]
        exact ⟨μ, b, 1, n, rfl, hfo, e11, c1, c2, fun k' hk' => hle k' (Or.inl rfl) hk', fun z => by omega, Or.inl ⟨rfl, c3, c5, c6⟩⟩
    · rw [if_neg (by rw [nI_ltI (by omega) (by unfold lrn; split <;> omega)]; exact q), s_lengthRun hb hcf, jcall_s]
      have hR := hT (i + RR f vl e i) (by omega) (by omega)
      obtain ⟨μ', e1, g1, k1⟩ := s_offer (s := 2) (c := rc f U) hmf.1 (by omega) r3 r1 (hT' _ (by omega) (by omega)) e11 hb6 (by omega) hR.2
      rw [jl_2, e1, jcall_s]
      rcases k1 with ⟨d1, d2, d3, d4⟩ | ⟨d1, d2⟩
      · refine ⟨μ', _, 2, _, rfl, hfo.tr g1, d2, d3, d4, fun k' hk' => ?_, fun _ => Nat.le_refl _, Or.inr ⟨rfl, rfl, by omega, rfl, fun k' hk' => ?_⟩⟩
        · have := hle k' (Or.inl rfl) hk'; omega
        · have := hle k' (Or.inl rfl) hk'; omega
      · subst d2
        rcases hch () with z | ⟨c1, n, c2, c3, c4, c5, c6⟩
        · omega
        · exact ⟨μ', b, 1, n, rfl, hfo, e11, c1, c2, fun k' hk' => hle k' (Or.inl rfl) hk', fun z => d1, Or.inl ⟨rfl, c3, c5, c6⟩⟩
  | succ j ih =>
    intro fu k b μ x hfu h0 h1 hjk hk hfo e11 hb6 hle hch
    obtain ⟨fu, rfl⟩ : ∃ g, fu = g + 1 := ⟨fu - 1, by omega⟩
    have hcf := hc.fr hfo.1 (by decide)
    have hmf := hme.fr hfo.1 (by decide) (by decide)
    have hT' : ∀ k, i < k → k ≤ e → μ.1 11 k = nI (T k) := fun k a c => by rw [(hfo.2 k (by omega)).1]; exact (hT k a c).1
    obtain ⟨hx, hlk⟩ := h1 (by omega)
    obtain ⟨w1, w2, w3⟩ := hk (by omega)
    have hmk : msd f U M vl e i k := ⟨hlk, w2, w1, w3⟩
    have hK := hT (i + k) (by omega) w1
    obtain ⟨μ', e1, g1, k1⟩ := s_offer (s := 1) (c := sc f U k) hmf.1 (by omega) w1 (by omega) (hT' (i + k) (by omega) w1) e11 hb6 (sc_le hb (by omega)) hK.2
    rw [f_X2_chooseFewest_59.eq_2, s_leastThem hb hcf, jcall_s, hx, if_neg (by rw [nI_ltI (by omega) (by omega)]; omega), s_lengthThem hb hcf (by omega), jcall_s, jl_1, e1, jcall_s, jlet_e]
    have hxx : nI k + -nI 1 = nI (k - 1) := sb_m1 (by omega)
    rcases k1 with ⟨d1, d2, d3, d4⟩ | ⟨d1, d2⟩
    · refine ih fu (k - 1) _ μ' _ (by omega) (fun z => ?_) (fun z => ⟨hxx, by omega⟩) (by omega) (fun z => ⟨by omega, by omega, w3⟩) (hfo.tr g1) d2 (by omega) (fun k' hk' hm' => ?_) (fun _ => Or.inr ⟨d3, k, d4, hmk, Or.inr (by omega), rfl, fun k' hm' hk' => ?_⟩)
      · rw [hxx, nI_ltI (by omega) (by omega)]; omega
      · by_cases z : k' = k
        · rw [z]; omega
        · have : k < k' := by have := hm'.1; omega
          have := hle k' (Or.inr this) hm'
          omega
      · have := hle k' (Or.inr hk') hm'
        omega
    · subst d2
      refine ih fu (k - 1) _ μ' _ (by omega) (fun z => ?_) (fun z => ⟨hxx, by omega⟩) (by omega) (fun z => ⟨by omega, by omega, w3⟩) hfo e11 hb6 (fun k' hk' hm' => ?_) ?_
      · rw [hxx, nI_ltI (by omega) (by omega)]; omega
      · by_cases z : k' = k
        · rw [z]; omega
        · have : k < k' := by have := hm'.1; omega
          exact hle k' (Or.inr this) hm'
      · intro _
        rcases hch () with z | ⟨c1, n, c2, c3, c4, c5, c6⟩
        · exact Or.inl z
        · exact Or.inr ⟨c1, n, c2, c3, Or.inr (by omega), c5, c6⟩
theorem s_chooseFewest {μ : jM} {f U W M D m fr e i : Nat} {vl T : Nat → Nat} (hb : CB f U W M D) (hc : CF μ f U W M D) (hv : UV μ m vl) (hme : ME μ f vl fr e) (hm : m ≤ 240) (hem : e ≤ m) (hfi : fr ≤ i) (hi : i < e) (hT : ∀ k, i < k → k ≤ e → μ.1 11 k = nI (T k) ∧ T k ≤ 2000) :
    ∃ μ' b s n, f_X2_chooseFewest (nI i) μ = some ((), μ') ∧ FO i μ μ' ∧ μ'.1 11 i = nI b ∧ μ'.1 12 i = nI s ∧ μ'.1 13 i = nI n ∧ (i < rst f vl fr e → CHb f U M vl e i T b s n) ∧ (rst f vl fr e ≤ i → b = 2 ∧ s = 0 ∧ n = 0) := by
  have hr := rst_le (f := f) (vl := vl) (fr := fr) (e := e)
  have hms := mst_le f
  have hl1 := lst_ge f
  unfold f_X2_chooseFewest
  rw [hme.2.1]
  by_cases q : i < rst f vl fr e
  · have g0 : FO i μ (jsI μ 11 i (nI 1000000)) := FO.I _ _ (by decide)
    rw [if_pos (by rw [nI_ltI (by omega) (by omega)]; exact q), jin_n (by omega) (by omega), nI_clamp (by omega), jl_1000000, jlet_e, s_begins hb (hc.fr g0.1 (by decide)) (hv.fr g0.1 (by decide)) (by omega) hm, jcall_s]
    have L := s_chF_loop (T := T) (vl := vl) hb hc hme hm hem hfi hi hT
    by_cases q2 : mkd f U M vl i
    · rw [if_pos q2, if_neg (by decide)]
      unfold f_X2_chooseFewest_56
      obtain ⟨μ', b', s', n', a1, a2, a3, a4, a5, a6⟩ := L 0 jFU 0 1000000 _ 0 (by unfold jFU; omega) (fun _ => by rw [jl_0, nI_ltI (by omega) (by have : lst f ≤ 3 := (by unfold lst; split <;> omega); omega)]; omega) (fun z => absurd z (by omega)) (Or.inr rfl) (fun z => absurd z (by omega)) g0 (jsI_s _ _ _ _) (by omega) (fun k' _ hm' => absurd q2 hm'.2.2.2) (fun _ => Or.inl rfl)
      exact ⟨μ', b', s', n', a1, a2, a3, a4, a5, fun _ => a6, fun z => absurd z (by omega)⟩
    · rw [if_neg q2, if_pos (by decide), s_mostThem hb (hc.fr g0.1 (by decide)), jcall_s, (hme.fr g0.1 (by decide) (by decide)).1, pk_sub (by omega), nI_min (by omega) (by omega)]
      unfold f_X2_chooseFewest_56
      have hl3 : lst f ≤ 3 := by unfold lst; split <;> omega
      have h7 : min (mst f) (e - i) ≤ mst f := Nat.min_le_left _ _
      have h8 : min (mst f) (e - i) ≤ e - i := Nat.min_le_right _ _
      generalize hk : min (mst f) (e - i) = k at *
      obtain ⟨μ', b', s', n', a1, a2, a3, a4, a5, a6⟩ := L (k + 1 - lst f) jFU k 1000000 _ (nI k) (by unfold jFU; omega) (fun z => by rw [nI_ltI (by omega) (by omega)]; omega) (fun z => ⟨rfl, by omega⟩) (by omega) (fun z => ⟨by omega, by omega, q2⟩) g0 (jsI_s _ _ _ _) (by omega) (fun k' hk' hm' => by
        obtain ⟨y1, y2, y3, y4⟩ := hm'
        omega) (fun _ => Or.inl rfl)
      exact ⟨μ', b', s', n', a1, a2, a3, a4, a5, fun _ => a6, fun z => absurd z (by omega)⟩
  · obtain ⟨μ1, e1, g1, k1, k2, k3⟩ := s_choose (μ := μ) (i := i) (by omega) 0 0
    rw [if_neg (by rw [nI_ltI (by omega) (by omega)]; exact q), jl_0, e1, jcall_s, jin_n (by omega) (by omega), nI_clamp (by omega), jlet_e, jl_2]
    refine ⟨_, 2, 0, 0, rfl, g1.tr (FO.I _ _ (by decide)), jsI_s _ _ _ _, ?_, ?_, fun z => absurd z q, fun _ => ⟨rfl, rfl, rfl⟩⟩
    · rw [jsI_c _ _ _ (by decide)]; exact k2
    · rw [jsI_c _ _ _ (by decide)]; exact k3
