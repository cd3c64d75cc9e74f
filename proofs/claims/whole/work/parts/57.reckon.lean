/-! the reference reckons the same costs -/
theorem s_rk174 {f U W M D e i : Nat} {T : Nat → Nat} {vl : Nat → Nat} {k43 : Int32 → Int32 → Int32 → Int32 → jM → Option (Unit × jM)} {x1 x3 : Int32} {ν : jM} (hb : CB f U W M D) (hm : MF ν f U W M D) (he : e ≤ 240) (hi : i < e) (hT : ∀ k, i < k → k ≤ e → ν.1 5 k = nI (T k) ∧ T k ≤ 2000)
    (hlow : ∀ n, lrn f ≤ n → n ≤ RR f vl e i → T i ≤ rc f U + T (i + n)) {P : Nat → Prop} (hP : ∀ b b', P b → b' ≤ b → T i ≤ b' → P b') (hcl : ∀ b, P b → T i ≤ b → (∀ n, lrn f ≤ n → n ≤ RR f vl e i → b ≤ rc f U + T (i + n)) → b = T i) :
    ∀ (j fu n b : Nat), j < fu → n + j = RR f vl e i + 1 ∨ (j = 0 ∧ RR f vl e i < n) → n ≤ 300 → lrn f ≤ n → b ≤ 1000000 → P b → T i ≤ b → (∀ n', lrn f ≤ n' → n' < n → n' ≤ RR f vl e i → b ≤ rc f U + T (i + n')) →
    f_X6_reckon_174 k43 fu x1 (nI e) x3 (nI i) (nI b) (nI (RR f vl e i)) (nI n) ν = k43 x1 (nI e) x3 (nI i - 1) (jsI ν 5 i (nI (T i))) := by
  obtain ⟨r1, r2, r3⟩ := RR_b (f := f) (vl := vl) hi
  have hmr := mrn_le f
  have hrc := rc_le hb
  have hl : 1 ≤ lrn f := by unfold lrn; split <;> omega
  intro j
  induction j with
  | zero =>
    intro fu n b hfu hn hn3 hln hb6 hp htb hle
    obtain ⟨fu, rfl⟩ : ∃ g, fu = g + 1 := ⟨fu - 1, by omega⟩
    have eb : b = T i := hcl b hp htb (fun n' a c => hle n' a (by omega) c)
    rw [f_X6_reckon_174.eq_2, if_pos (by rw [nI_ltI (by omega) (by omega)]; omega), jin_n (by omega) (by omega), nI_clamp (by omega), jlet_e, jlet_e, jm1, eb]
  | succ j ih =>
    intro fu n b hfu hn hn3 hln hb6 hp htb hle
    obtain ⟨fu, rfl⟩ : ∃ g, fu = g + 1 := ⟨fu - 1, by omega⟩
    have hTn := hT (i + n) (by omega) (by omega)
    rw [f_X6_reckon_174.eq_2, if_neg (by rw [nI_ltI (by omega) (by omega)]; omega), s_runCost hb hm, jcall_s, nI_add, jin_n (by omega) (by omega), nI_clamp (by omega), hTn.1, nI_add]
    by_cases q : b ≤ rc f U + T (i + n)
    · rw [if_pos (by rw [nI_leI (by omega) (by omega)]; exact q)]
      unfold f_X6_reckon_221
      rw [jl_1, nI_add, jlet_e]
      refine ih fu (n + 1) b (by omega) (by omega) (by omega) (by omega) hb6 hp htb (fun n' a c d => ?_)
      by_cases z : n' = n
      · rw [z]; exact q
      · exact hle n' a (by omega) d
    · rw [if_neg (by rw [nI_leI (by omega) (by omega)]; exact q), s_runCost hb hm, jcall_s, jin_n (by omega) (by omega), hTn.1, nI_add]
      unfold f_X6_reckon_221
      rw [jl_1, nI_add, jlet_e]
      have hlw := hlow n hln (by omega)
      refine ih fu (n + 1) _ (by omega) (by omega) (by omega) (by omega) (by omega) (hP b _ hp (by omega) hlw) hlw (fun n' a c d => ?_)
      by_cases z : n' = n
      · rw [z]; exact Nat.le_refl _
      · have := hle n' a (by omega) d
        omega
theorem s_rk74 {f U W M D m e i : Nat} {T : Nat → Nat} {vl : Nat → Nat} {k43 : Int32 → Int32 → Int32 → Int32 → jM → Option (Unit × jM)} {x1 x3 : Int32} {ν : jM} (hb : CB f U W M D) (hm : MF ν f U W M D) (hV : VL ν m vl) (hvl : ∀ i, i < m → vl i < 256 ^ U) (hm2 : m ≤ 240) (hem : e ≤ m) (hi : i < e) (hT : ∀ k, i < k → k ≤ e → ν.1 5 k = nI (T k) ∧ T k ≤ 2000)
    (hlow1 : ∀ n, msd f U M vl e i n → T i ≤ sc f U n + T (i + n)) (hlow : ∀ n, lrn f ≤ n → n ≤ RR f vl e i → T i ≤ rc f U + T (i + n)) {b0 : Nat}
    (hcl : ∀ b, b ≤ b0 → T i ≤ b → (∀ n, msd f U M vl e i n → b ≤ sc f U n + T (i + n)) → (∀ n, lrn f ≤ n → n ≤ RR f vl e i → b ≤ rc f U + T (i + n)) → b = T i) :
    ∀ (j fu n b : Nat), j < fu → n + j = e - i + 1 → 1 ≤ n → b ≤ 1000000 → b ≤ b0 → T i ≤ b → (∀ n', n' < n → msd f U M vl e i n' → b ≤ sc f U n' + T (i + n')) →
    f_X6_reckon_74 k43 fu x1 (nI e) x3 (nI i) (nI b) (nI n) ν = k43 x1 (nI e) x3 (nI i - 1) (jsI ν 5 i (nI (T i))) := by
  obtain ⟨r1, r2, r3⟩ := RR_b (f := f) (vl := vl) hi
  have hmr := mrn_le f
  have hv4 : ∀ i, i < m → vl i < 4294967296 := fun i hi => Nat.lt_of_lt_of_le (hvl i hi) (p256_le (by have := hb.2.1; omega))
  have hf := hb.1
  intro j
  induction j with
  | zero =>
    intro fu n b hfu hn hn1 hb6 hbb htb hle
    obtain ⟨fu, rfl⟩ : ∃ g, fu = g + 1 := ⟨fu - 1, by omega⟩
    have hall : ∀ n', msd f U M vl e i n' → b ≤ sc f U n' + T (i + n') := fun n' hm' => hle n' (by have := hm'.2.2.1; omega) hm'
    have L := s_rk174 (vl := vl) (T := T) (k43 := k43) (x1 := x1) (x3 := x3) hb hm (by omega) hi hT hlow (P := fun b => b ≤ b0 ∧ ∀ n', msd f U M vl e i n' → b ≤ sc f U n' + T (i + n')) (fun b b' h1 h2 _ => ⟨by omega, fun n' hm' => Nat.le_trans h2 (h1.2 n' hm')⟩) (fun b h1 h2 h3 => hcl b h1.1 h2 h1.2 h3)
    rw [f_X6_reckon_74.eq_2, nI_add, if_pos (by rw [nI_ltI (by omega) (by omega)]; omega), s_mostRun hb hm, jcall_s, s_likes hV hm2 hem hv4 hi hmr.1 hmr.2, jcall_s, hm.1]
    unfold f_X6_reckon_172
    show (if nI f = 1 then f_X6_reckon_174 k43 jFU x1 (nI e) x3 (nI i) (nI b) (nI (RR f vl e i)) 2 ν else f_X6_reckon_174 k43 jFU x1 (nI e) x3 (nI i) (nI b) (nI (RR f vl e i)) 1 ν) = _
    by_cases q : f = 1
    · have e4 : lrn f = 2 := by unfold lrn; rw [if_pos q]
      rw [if_pos (by rw [q]; decide), jl_2]
      exact L (RR f vl e i - 1) jFU 2 b (by unfold jFU; omega) (by omega) (by omega) (by omega) hb6 ⟨hbb, hall⟩ htb (fun n' a c => absurd c (by omega))
    · have e4 : lrn f = 1 := by unfold lrn; rw [if_neg q]
      rw [if_neg (by rw [jl_1, nI_eq (by omega) (by omega)]; exact q), jl_1]
      exact L (RR f vl e i) jFU 1 b (by unfold jFU; omega) (by omega) (by omega) (by omega) hb6 ⟨hbb, hall⟩ htb (fun n' a c => absurd c (by omega))
  | succ j ih =>
    intro fu n b hfu hn hn1 hb6 hbb htb hle
    obtain ⟨fu, rfl⟩ : ∃ g, fu = g + 1 := ⟨fu - 1, by omega⟩
    have hTn := hT (i + n) (by omega) (by omega)
    have skip : (msd f U M vl e i n → b ≤ sc f U n + T (i + n)) → f_X6_reckon_136 k43 (fun x1 x2 x3 x4 x5 x6 μ => f_X6_reckon_74 k43 fu x1 x2 x3 x4 x5 x6 μ) x1 (nI e) x3 (nI i) (nI b) (nI n) ν = k43 x1 (nI e) x3 (nI i - 1) (jsI ν 5 i (nI (T i))) := by
      intro hq
      unfold f_X6_reckon_136 f_X6_reckon_138
      rw [jl_1, nI_add, jlet_e]
      refine ih fu (n + 1) b (by omega) (by omega) (by omega) hb6 hbb htb (fun n' a c => ?_)
      by_cases z : n' = n
      · rw [z] at c ⊢; exact hq c
      · exact hle n' (by omega) c
    rw [f_X6_reckon_74.eq_2, nI_add, if_neg (by rw [nI_ltI (by omega) (by omega)]; omega)]
    rcases s_mayStand (n := n) (i := i) (e := e) hb hm hV hvl hm2 hem hn1 (by omega) with ⟨a1, a2⟩ | ⟨a1, a2⟩
    · have hn255 : n ≤ 255 := by omega
      have hsc := sc_le (n := n) hb hn255
      rw [a2, jcall_s, if_neg (by decide), s_selfCost hb hm hn255, jcall_s, jin_n (by omega) (by omega), nI_clamp (by omega), hTn.1, nI_add]
      by_cases q : b ≤ sc f U n + T (i + n)
      · rw [if_pos (by rw [nI_leI (by omega) (by omega)]; exact q)]
        exact skip (fun _ => q)
      · rw [if_neg (by rw [nI_leI (by omega) (by omega)]; exact q), s_selfCost hb hm hn255, jcall_s, jin_n (by omega) (by omega), hTn.1, nI_add]
        unfold f_X6_reckon_138
        rw [jl_1, nI_add, jlet_e]
        refine ih fu (n + 1) _ (by omega) (by omega) (by omega) (by omega) (by omega) (hlow1 n a1) (fun n' a c => ?_)
        by_cases z : n' = n
        · rw [z]; exact Nat.le_refl _
        · have := hle n' (by omega) c
          omega
    · rw [a2, jcall_s, if_pos (by decide)]
      exact skip (fun z => absurd z a1)
/-- the reference's costs -/
def MCo (ν : jM) (T : Nat → Nat) (i0 e : Nat) : Prop := ∀ k, i0 ≤ k → k ≤ e → ν.1 5 k = nI (T k)
theorem MF.fr {cs : List Nat} {ν ν' : jM} {f U W M D : Nat} (h : MF ν f U W M D) (g : Fr cs ν ν') (h0 : 0 ∉ cs) : MF ν' f U W M D := by
  unfold MF
  rw [g.1 0 h0]
  exact h
theorem VL.fr {cs : List Nat} {ν ν' : jM} {m : Nat} {vl : Nat → Nat} (h : VL ν m vl) (g : Fr cs ν ν') (h4 : 4 ∉ cs) : VL ν' m vl := fun i hi => by rw [g.2 4 h4]; exact h i hi
theorem s_rk43 {ν0 : jM} {f U W M D m fr e : Nat} {vl T so ct : Nat → Nat} (hb : CB f U W M D) (hm : MF ν0 f U W M D) (hV : VL ν0 m vl) (hvl : ∀ i, i < m → vl i < 256 ^ U) (hm2 : m ≤ 240) (hem : e ≤ m) (hpl : PL f U M vl fr e T so ct fr) :
    ∀ (j fu : Nat) (ν : jM), j < fu → fr + j ≤ e → Fr [5] ν0 ν → MCo ν T (fr + j) e → ∃ ν', f_X6_reckon_43 fu (nI fr) (nI e) (nI (rst f vl fr e)) (nI (fr + j) - 1) ν = some ((), ν') ∧ Fr [5] ν0 ν' ∧ MCo ν' T fr e := by
  have hf := hb.1
  have hrl := rst_le (f := f) (vl := vl) (fr := fr) (e := e)
  intro j
  induction j with
  | zero =>
    intro fu ν hfu hj hfr hmc
    obtain ⟨fu, rfl⟩ : ∃ g, fu = g + 1 := ⟨fu - 1, by omega⟩
    refine ⟨ν, ?_, hfr, hmc⟩
    rw [f_X6_reckon_43.eq_2, Nat.add_zero, if_pos (jdec fr (by omega))]
  | succ j ih =>
    intro fu ν hfu hj hfr hmc
    obtain ⟨fu, rfl⟩ : ∃ g, fu = g + 1 := ⟨fu - 1, by omega⟩
    obtain ⟨i, hi⟩ : ∃ i, i = fr + j := ⟨_, rfl⟩
    have ei : nI (fr + (j + 1)) - 1 = nI i := by rw [jl_1, pk_sub (by omega), hi]; rfl
    rw [← Nat.add_assoc, ← hi] at hmc
    have hmf := hm.fr hfr (by decide)
    have hVf := hV.fr hfr (by decide)
    have hT : ∀ k, i < k → k ≤ e → ν.1 5 k = nI (T k) ∧ T k ≤ 2000 := fun k a c => ⟨hmc k (by omega) c, by
      have := PL_bound hb hpl (e - k) k (by omega) (by omega) c
      omega⟩
    have hTi : T i ≤ 2000 := by
      have := PL_bound hb hpl (e - i) i (by omega) (by omega) (by omega)
      omega
    obtain ⟨μ', e1, e2, e3⟩ := ih fu (jsI ν 5 i (nI (T i))) (by omega) (by omega) (hfr.tr (Fr.I _ _ _ (by decide))) (fun k a c => by
      rw [← hi] at a
      by_cases z : k = i
      · rw [z, jsI_s]
      · rw [jsI_k _ _ z]; exact hmc k (by omega) c)
    refine ⟨μ', ?_, e2, e3⟩
    rw [← hi] at e1
    have hmono := PL_mono hb hpl
    obtain ⟨g1, g2⟩ := hpl.2 i (by omega) (by omega)
    obtain ⟨r1, r2, r3⟩ := RR_b (f := f) (vl := vl) (show i < e by omega)
    rw [f_X6_reckon_43.eq_2, ei, if_neg (by rw [nI_ltI (by omega) (by omega)]; omega), hmf.1]
    by_cases q : i < rst f vl fr e
    · obtain ⟨c1, c2, c3⟩ := g1 q
      have L := s_rk74 (T := T) (vl := vl) (k43 := fun x1 x2 x3 x4 μ => f_X6_reckon_43 fu x1 x2 x3 x4 μ) (x1 := nI fr) (x3 := nI (rst f vl fr e)) (b0 := 1000000) hb hmf hVf hvl hm2 hem (show i < e by omega) hT c1 (fun n a c => by
        have := c2 (by omega)
        have := hmono (e - (i + n)) (i + n) (i + RR f vl e i) (by omega) (by omega) (by omega) (by omega)
        omega) (fun b _ h2 h3 h4 => by
          rcases c3 with ⟨-, w1, w2, -⟩ | ⟨-, w1, w2, w3, -⟩
          · have := h3 _ w1; omega
          · have := h4 _ w2 (Nat.le_refl _); omega) (e - i) jFU 1 1000000 (by unfold jFU; omega) (by omega) (by omega) (by omega) (by omega) (by omega) (fun n' a c => by
            have := c.1
            have := lst_ge f
            omega)
      have e67 : f_X6_reckon_67 (fun x1 x2 x3 x4 μ => f_X6_reckon_43 fu x1 x2 x3 x4 μ) (nI fr) (nI e) (nI (rst f vl fr e)) (nI i) ν = some ((), μ') := by
        unfold f_X6_reckon_67 f_X6_reckon_69
        rw [jl_1000000, jl_1]
        exact L.trans e1
      by_cases q2 : f = 2
      · rw [if_pos (by rw [q2]; decide), if_pos (by rw [nI_ltI (by omega) (by omega)]; exact q)]
        exact e67
      · rw [if_neg (by rw [jl_2, nI_eq (by omega) (by omega)]; exact q2)]
        exact e67
    · have t2 := (g2 (by omega)).1
      have q2 : f = 2 := by
        by_cases z : f = 2
        · exact z
        · rw [rst_1 z] at q; omega
      have k1 : rc f U = 2 := by unfold rc; rw [if_neg (by omega), if_neg (by omega)]
      have L := s_rk74 (T := T) (vl := vl) (k43 := fun x1 x2 x3 x4 μ => f_X6_reckon_43 fu x1 x2 x3 x4 μ) (x1 := nI fr) (x3 := nI (rst f vl fr e)) (b0 := 2) hb hmf hVf hvl hm2 hem (show i < e by omega) hT (fun n _ => by
        have : sc f U n = 2 + n + n % 2 := by unfold sc; rw [if_neg (by omega), if_neg (by omega)]
        omega) (fun n _ _ => by omega) (fun b h1 h2 _ _ => by omega) (e - i) jFU 1 2 (by unfold jFU; omega) (by omega) (by omega) (by omega) (by omega) (by omega) (fun n' a c => by
            have := c.1
            have := lst_ge f
            omega)
      rw [if_pos (by rw [q2]; decide), if_neg (by rw [nI_ltI (by omega) (by omega)]; exact q)]
      unfold f_X6_reckon_69
      rw [jl_2, jl_1]
      exact L.trans e1
theorem s_reckon {ν : jM} {f U W M D m fr e : Nat} {vl T so ct : Nat → Nat} (hb : CB f U W M D) (hm : MF ν f U W M D) (hV : VL ν m vl) (hvl : ∀ i, i < m → vl i < 256 ^ U) (hm2 : m ≤ 240) (hem : e ≤ m) (hfe : fr ≤ e) (hpl : PL f U M vl fr e T so ct fr) :
    ∃ ν', f_X6_reckon (nI fr) (nI e) ν = some ((), ν') ∧ Fr [5] ν ν' ∧ MCo ν' T fr e := by
  have hf := hb.1
  have hv4 : ∀ i, i < m → vl i < 4294967296 := fun i hi => Nat.lt_of_lt_of_le (hvl i hi) (p256_le (by have := hb.2.1; omega))
  have go : ∀ z : Nat, z = T e → ∃ ν', f_X6_reckon_37 (nI fr) (nI e) (nI (rst f vl fr e)) (nI z) (nI e) ν = some ((), ν') ∧ Fr [5] ν ν' ∧ MCo ν' T fr e := by
    intro z hz
    have g0 : Fr [5] ν (jsI ν 5 e (nI z)) := Fr.I _ _ _ (by decide)
    obtain ⟨μ', e1, e2, e3⟩ := s_rk43 hb (hm.fr g0 (by decide)) (hV.fr g0 (by decide)) hvl hm2 hem hpl (e - fr) jFU _ (by unfold jFU; omega) (by omega) Fr.rf (fun k a c => by
      rw [show k = e by omega, jsI_s, hz])
    rw [show fr + (e - fr) = e by omega] at e1
    refine ⟨μ', ?_, g0.tr e2, e3⟩
    unfold f_X6_reckon_37
    rw [jin_n (by omega) (by omega), nI_clamp (by omega), jlet_e, jlet_e]
    exact e1
  unfold f_X6_reckon f_X6_reckon_18
  have hTe := hpl.1
  by_cases q : f = 2
  · have er : rs0 vl fr e = rst f vl fr e := by unfold rst; rw [if_pos q]
    rw [hm.1, if_pos (by rw [q]; decide), s_restOf hV hm2 hv4 (by omega) hem, jcall_s, er, hm.1, if_pos (by rw [q]; decide), jl_2]
    exact go 2 (by rw [hTe, if_pos q])
  · have er := rst_1 (vl := vl) (fr := fr) (e := e) q
    have hn : ¬ nI f = 2 := by rw [jl_2, nI_eq (by omega) (by omega)]; exact q
    rw [er] at go
    rw [hm.1, if_neg hn, if_neg hn, jl_0]
    exact go 0 (by rw [hTe, if_neg q])
