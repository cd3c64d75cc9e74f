/-! the plan of a whole stretch; what is left never takes more bytes than a longer rest -/
def PL (f U M : Nat) (vl : Nat → Nat) (fr e : Nat) (T so ct : Nat → Nat) (i0 : Nat) : Prop := T e = (if f = 2 then 2 else 0) ∧ ∀ j, i0 ≤ j → j < e → (j < rst f vl fr e → CHb f U M vl e j T (T j) (so j) (ct j)) ∧ (rst f vl fr e ≤ j → T j = 2 ∧ so j = 0 ∧ ct j = 0)
theorem rst_1 {f : Nat} {vl : Nat → Nat} {fr e : Nat} (h : f ≠ 2) : rst f vl fr e = e := by unfold rst; rw [if_neg h]
theorem msd1 {f U M : Nat} {vl : Nat → Nat} {e i : Nat} (q : f = 1) (hi : i < e) : msd f U M vl e i 1 := by
  refine ⟨?_, (mst_le f).2, by omega, fun z => by have := z.1; omega⟩
  unfold lst; rw [if_neg (by omega)]; omega
theorem PL_bound {f U W M D : Nat} {vl : Nat → Nat} {fr e : Nat} {T so ct : Nat → Nat} {i0 : Nat} (hb : CB f U W M D) (h : PL f U M vl fr e T so ct i0) : ∀ (d j : Nat), e - j ≤ d → i0 ≤ j → j ≤ e → T j ≤ 6 * d + 2 := by
  obtain ⟨hf, hU, hW1, hW2, hM, hD, h2⟩ := id hb
  intro d
  induction d with
  | zero =>
    intro j hj h0 h1
    rw [show j = e by omega, h.1]
    split <;> omega
  | succ d ih =>
    intro j hj h0 h1
    by_cases z : j = e
    · rw [z, h.1]
      split <;> omega
    · obtain ⟨g1, g2⟩ := h.2 j h0 (by omega)
      by_cases q : j < rst f vl fr e
      · obtain ⟨c1, c2, c3⟩ := g1 q
        obtain ⟨r1, r2, r3⟩ := RR_b (f := f) (vl := vl) (show j < e by omega)
        by_cases q1 : f = 1
        · have := c1 1 (msd1 q1 (by omega))
          have hi := ih (j + 1) (by omega) (by omega) (by omega)
          have : sc f U 1 = 1 + 1 * U := by unfold sc; rw [if_neg (by omega), if_pos q1]
          omega
        · have := c2 (by unfold lrn; rw [if_neg q1]; exact r1)
          have hi := ih (j + RR f vl e j) (by omega) (by omega) (by omega)
          have := rc_le hb
          omega
      · have := (g2 (by omega)).1
        omega
theorem lk_dec {vl : Nat → Nat} {e i : Nat} (hi : i < e) (h : 2 ≤ lk vl e i) : lk vl e (i + 1) + 1 = lk vl e i ∧ i + 1 < e := by
  rw [lk_rec hi] at h ⊢
  by_cases q : i + 1 < e ∧ vl i = vl (i + 1)
  · rw [if_pos q]; exact ⟨rfl, q.1⟩
  · rw [if_neg q] at h; omega
theorem PL_mono {f U W M D : Nat} {vl : Nat → Nat} {fr e : Nat} {T so ct : Nat → Nat} {i0 : Nat} (hb : CB f U W M D) (h : PL f U M vl fr e T so ct i0) : ∀ (d a b : Nat), e - a ≤ d → i0 ≤ a → a ≤ b → b ≤ e → T b ≤ T a := by
  obtain ⟨hf, hU, hW1, hW2, hM, hD, h2⟩ := id hb
  intro d
  induction d with
  | zero =>
    intro a b hd h0 hab hbe
    rw [show b = a by omega]
    exact Nat.le_refl _
  | succ d ih =>
    intro j b hd h0 hab hbe
    by_cases zz : b = j
    · rw [zz]; exact Nat.le_refl _
    have hb1 := ih (j + 1) b (by omega) (by omega) (by omega) hbe
    refine Nat.le_trans hb1 ?_
    have hj : j < e := by omega
    have hrl := rst_le (f := f) (vl := vl) (fr := fr) (e := e)
    have hTe := h.1
    obtain ⟨g1, g2⟩ := h.2 j h0 hj
    -- the next place, if it is none of the inner ones
    have edge : 2 ≤ T j → (j + 1 = e ∨ rst f vl fr e ≤ j + 1) → f = 2 → T (j + 1) ≤ T j := by
      intro t2 w q
      by_cases z : j + 1 = e
      · rw [z, hTe, if_pos q]; exact t2
      · rcases w with w | w
        · exact absurd w z
        · rw [((h.2 (j + 1) (by omega) (by omega)).2 w).1]; exact t2
    by_cases q : j < rst f vl fr e
    · obtain ⟨c1, c2, c3⟩ := g1 q
      obtain ⟨r1, r2, r3⟩ := RR_b (f := f) (vl := vl) hj
      by_cases q2 : f = 2
      · -- rows
        have e1 : lst f = 3 := by unfold lst; rw [if_pos q2]
        have e2 : rc f U = 2 := by unfold rc; rw [if_neg (by omega), if_neg (by omega)]
        have e3 : ∀ n, sc f U n = 2 + n + n % 2 := fun n => by unfold sc; rw [if_neg (by omega), if_neg (by omega)]
        have e4 : lrn f = 1 := by unfold lrn; rw [if_neg (by omega)]
        have t2 : 2 ≤ T j := by
          rcases c3 with ⟨-, w1, w2, -⟩ | ⟨-, w1, w2, w3, -⟩
          · have := e3 (ct j); omega
          · omega
        by_cases w : j + 1 = e ∨ rst f vl fr e ≤ j + 1
        · exact edge t2 w q2
        · obtain ⟨d1, d2, -⟩ := (h.2 (j + 1) (by omega) (by omega)).1 (by omega)
          obtain ⟨s1, s2, s3⟩ := RR_b (f := f) (vl := vl) (show j + 1 < e by omega)
          have dr := d2 (by omega)
          rcases c3 with ⟨-, w1, w2, -⟩ | ⟨-, w1, w2, w3, -⟩
          · obtain ⟨m1, m2, m3, m4⟩ := w1
            by_cases n3 : ct j = 3
            · have k1 := ih (j + 2) (j + 1 + RR f vl e (j + 1)) (by omega) (by omega) (by omega) (by omega)
              have k2 : T (j + 2) ≤ 2 + T (j + 3) := by
                obtain ⟨p1, p2⟩ := h.2 (j + 2) (by omega) (by omega)
                by_cases y : j + 2 < rst f vl fr e
                · obtain ⟨-, p3, -⟩ := p1 y
                  obtain ⟨u1, u2, u3⟩ := RR_b (f := f) (vl := vl) (show j + 2 < e by omega)
                  have p4 := p3 (by omega)
                  have k3 := ih (j + 3) (j + 2 + RR f vl e (j + 2)) (by omega) (by omega) (by omega) (by omega)
                  omega
                · have := (p2 (by omega)).1
                  omega
              have := e3 (ct j)
              rw [n3] at w2 this
              omega
            · have p5 := d1 (ct j - 1) ⟨by omega, by omega, by omega, fun z => by have := z.1; omega⟩
              rw [show j + 1 + (ct j - 1) = j + ct j by omega] at p5
              have k1 := e3 (ct j)
              have k2 := e3 (ct j - 1)
              omega
          · by_cases R1 : RR f vl e j = 1
            · rw [R1] at w3; omega
            · have hl := lk_dec (vl := vl) hj (by unfold RR at r1 R1; omega)
              have k1 := ih (j + RR f vl e j) (j + 1 + RR f vl e (j + 1)) (by omega) (by omega) (by unfold RR; omega) (by omega)
              omega
      · have rs : rst f vl fr e = e := rst_1 q2
        by_cases je : j + 1 = e
        · rw [je, hTe, if_neg q2]; omega
        obtain ⟨d1, d2, -⟩ := (h.2 (j + 1) (by omega) (by omega)).1 (by omega)
        obtain ⟨s1, s2, s3⟩ := RR_b (f := f) (vl := vl) (show j + 1 < e by omega)
        rcases c3 with ⟨-, w1, w2, -⟩ | ⟨-, w1, w2, w3, -⟩
        · obtain ⟨m1, m2, m3, m4⟩ := w1
          by_cases n1 : ct j = 1
          · rw [n1] at w2; omega
          · have q1 : f = 1 := by
              have h1 := lst_ge f
              unfold mst at m2
              by_cases z : f = 0
              · rw [if_pos z] at m2; omega
              · omega
            have e3 : ∀ n, sc f U n = 1 + n * U := fun n => by unfold sc; rw [if_neg (by omega), if_pos q1]
            have e1 : lst f = 1 := by unfold lst; rw [if_neg (by omega)]
            have p5 := d1 (ct j - 1) ⟨by omega, by omega, by omega, fun z => by have := z.1; omega⟩
            rw [show j + 1 + (ct j - 1) = j + ct j by omega] at p5
            have k1 := e3 (ct j)
            have k2 := e3 (ct j - 1)
            have k3 : (ct j - 1) * U ≤ ct j * U := Nat.mul_le_mul_right U (by omega)
            omega
        · by_cases R1 : RR f vl e j = 1
          · rw [R1] at w3; omega
          · have hl := lk_dec (vl := vl) hj (by unfold RR at r1 R1; omega)
            by_cases y : lrn f ≤ RR f vl e (j + 1)
            · have k1 := ih (j + RR f vl e j) (j + 1 + RR f vl e (j + 1)) (by omega) (by omega) (by unfold RR; omega) (by omega)
              have := d2 y
              omega
            · have q1 : f = 1 := by
                unfold lrn at y
                by_cases z : f = 1
                · exact z
                · rw [if_neg z] at y; omega
              have e4 : lrn f = 2 := by unfold lrn; rw [if_pos q1]
              have e5 : mrn f = 128 := by unfold mrn; rw [if_pos q1]
              have e6 : RR f vl e j = 2 := by unfold RR at *; omega
              have p5 := d1 1 (msd1 q1 (by omega))
              have e3 : sc f U 1 = 1 + 1 * U := by unfold sc; rw [if_neg (by omega), if_pos q1]
              have e7 : rc f U = 1 + U := by unfold rc; rw [if_neg (by omega), if_pos q1]
              rw [e6] at w3
              rw [show j + 1 + 1 = j + 2 by omega] at p5
              omega
    · have t := (g2 (by omega)).1
      have q2 : f = 2 := by
        by_cases z : f = 2
        · exact z
        · rw [rst_1 z] at q; omega
      exact edge (by omega) (Or.inr (by omega)) q2
/-- the class's three rows hold the plan -/
def MT (μ : jM) (T so ct : Nat → Nat) (i0 e : Nat) : Prop := (∀ k, i0 ≤ k → k ≤ e → μ.1 11 k = nI (T k)) ∧ ∀ k, i0 ≤ k → k < e → μ.1 12 k = nI (so k) ∧ μ.1 13 k = nI (ct k)
theorem s_plan_loop {μ0 : jM} {f U W M D m fr e : Nat} {vl : Nat → Nat} (hb : CB f U W M D) (hc : CF μ0 f U W M D) (hv : UV μ0 m vl) (hme : ME μ0 f vl fr e) (hm : m ≤ 240) (hem : e ≤ m) :
    ∀ (j fu : Nat) (μ : jM) (T so ct : Nat → Nat), j < fu → fr + j ≤ e → Fr [11, 12, 13] μ0 μ → PL f U M vl fr e T so ct (fr + j) → MT μ T so ct (fr + j) e →
    ∃ μ' T' so' ct', f_X2_planFewest_32 fu (nI fr) (nI (fr + j) - 1) μ = some ((), μ') ∧ Fr [11, 12, 13] μ0 μ' ∧ PL f U M vl fr e T' so' ct' fr ∧ MT μ' T' so' ct' fr e := by
  intro j
  induction j with
  | zero =>
    intro fu μ T so ct hfu hj hfr hpl hmt
    obtain ⟨fu, rfl⟩ : ∃ g, fu = g + 1 := ⟨fu - 1, by omega⟩
    refine ⟨μ, T, so, ct, ?_, hfr, hpl, hmt⟩
    rw [f_X2_planFewest_32.eq_2, Nat.add_zero, if_pos (jdec fr (by omega))]
  | succ j ih =>
    intro fu μ T so ct hfu hj hfr hpl hmt
    obtain ⟨fu, rfl⟩ : ∃ g, fu = g + 1 := ⟨fu - 1, by omega⟩
    obtain ⟨i, hi⟩ : ∃ i, i = fr + j := ⟨_, rfl⟩
    have ei : nI (fr + (j + 1)) - 1 = nI i := by rw [jl_1, pk_sub (by omega), hi]; rfl
    rw [← Nat.add_assoc, ← hi] at hpl hmt
    obtain ⟨μ1, b, s, n, e1, g1, k1, k2, k3, k4, k5⟩ := s_chooseFewest (T := T) hb (hc.fr hfr (by decide)) (hv.fr hfr (by decide)) (hme.fr hfr (by decide) (by decide)) hm hem (show fr ≤ i by omega) (by omega) (fun k a c => ⟨hmt.1 k (by omega) c, by
      have := PL_bound hb hpl (e - k) k (by omega) (by omega) c
      omega⟩)
    obtain ⟨μ', T', so', ct', d1, d2⟩ := ih fu μ1 (fun k => if k = i then b else T k) (fun k => if k = i then s else so k) (fun k => if k = i then n else ct k) (by omega) (by omega) (hfr.tr g1.1) (by
        rw [← hi]
        refine ⟨?_, fun k hk hke => ?_⟩
        · simp only [if_neg (show ¬ e = i by omega)]; exact hpl.1
        · by_cases z : k = i
          · subst z
            simp only [if_pos]
            refine ⟨fun w => (k4 w).congr (by omega) (fun k' hk' => ?_), k5⟩
            simp only [if_neg (show ¬ k' = k by omega)]
          · simp only [if_neg z]
            obtain ⟨p1, p2⟩ := hpl.2 k (by omega) hke
            refine ⟨fun w => (p1 w).congr (by omega) (fun k' hk' => ?_), p2⟩
            simp only [if_neg (show ¬ k' = i by omega)]) (by
        rw [← hi]
        refine ⟨fun k hk hke => ?_, fun k hk hke => ?_⟩
        · by_cases z : k = i
          · subst z; simp only [if_pos]; exact k1
          · simp only [if_neg z]; rw [(g1.2 k z).1]; exact hmt.1 k (by omega) hke
        · by_cases z : k = i
          · subst z; simp only [if_pos]; exact ⟨k2, k3⟩
          · simp only [if_neg z]; rw [(g1.2 k z).2.1, (g1.2 k z).2.2]; exact hmt.2 k (by omega) hke)
    refine ⟨μ', T', so', ct', ?_, d2⟩
    rw [f_X2_planFewest_32.eq_2, ei, if_neg (by rw [nI_ltI (by omega) (by omega)]; omega), e1, jcall_s, jm1, jlet_e, hi]
    exact d1
theorem s_plan {μ : jM} {f U W M D m fr e : Nat} {vl : Nat → Nat} (hb : CB f U W M D) (hc : CF μ f U W M D) (hv : UV μ m vl) (hme : ME μ f vl fr e) (hm : m ≤ 240) (hem : e ≤ m) (hfe : fr ≤ e) :
    ∃ μ' T so ct, f_X2_planFewest (nI fr) μ = some ((), μ') ∧ Fr [11, 12, 13] μ μ' ∧ PL f U M vl fr e T so ct fr ∧ MT μ' T so ct fr e := by
  have hf := hb.1
  have go : ∀ z : Nat, z = (if f = 2 then 2 else 0) → ∃ μ' T so ct, f_X2_planFewest_24 (nI fr) (nI z) (nI e) μ = some ((), μ') ∧ Fr [11, 12, 13] μ μ' ∧ PL f U M vl fr e T so ct fr ∧ MT μ' T so ct fr e := by
    intro z hz
    have g0 : Fr [11, 12, 13] μ (jsI μ 11 e (nI z)) := Fr.I _ _ _ (by decide)
    obtain ⟨μ', T, so, ct, e1, e2, e3⟩ := s_plan_loop (f := f) (vl := vl) (fr := fr) hb (hc.fr g0 (by decide)) (hv.fr g0 (by decide)) (hme.fr g0 (by decide) (by decide)) hm hem (e - fr) jFU _ (fun _ => z) (fun _ => 0) (fun _ => 0) (by unfold jFU; omega) (by omega) Fr.rf (by
      rw [show fr + (e - fr) = e by omega]
      exact ⟨hz, fun k a c => absurd a (by omega)⟩) (by
      rw [show fr + (e - fr) = e by omega]
      exact ⟨fun k a c => by rw [show k = e by omega, jsI_s], fun k a c => absurd a (by omega)⟩)
    rw [show fr + (e - fr) = e by omega] at e1
    refine ⟨μ', T, so, ct, ?_, g0.tr e2, e3⟩
    unfold f_X2_planFewest_24
    rw [jin_n (by omega) (by omega), nI_clamp (by omega), jlet_e, (hme.fr g0 (by decide) (by decide)).1, jlet_e]
    exact e1
  unfold f_X2_planFewest
  rw [hc.1, hme.1]
  by_cases q : f = 2
  · rw [if_pos (by rw [q]; decide), jl_2]
    exact go 2 (by rw [if_pos q])
  · rw [if_neg (by rw [jl_2, nI_eq (by omega) (by omega)]; exact q), jl_0]
    exact go 0 (by rw [if_neg q])
