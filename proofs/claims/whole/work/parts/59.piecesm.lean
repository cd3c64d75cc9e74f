/-! the reference lays the same pieces -/
theorem VC_greedy {f U W M D : Nat} {vl : Nat → Nat} {fr e : Nat} (hb : CB f U W M D) : VC f fr e (gso f U M vl fr e) (gct f U M vl fr e) := by
  intro i h1 h2
  have hr := rst_le (f := f) (vl := vl) (fr := fr) (e := e)
  obtain ⟨r1, r2, r3⟩ := RR_b (f := f) (vl := vl) h2
  have hmr := mrn_le f
  have hms := mst_le f
  unfold gso gct
  by_cases q : rst f vl fr e ≤ i
  · rw [if_pos q]; exact Or.inl rfl
  · rw [if_neg q, if_neg q]
    by_cases q1 : gtr f U M vl e i
    · rw [if_pos q1, if_pos q1]
      refine Or.inr ⟨Or.inr rfl, r1, by omega, r3, fun z _ => ?_, fun _ z => absurd z (by decide)⟩
      have : mrn f = 128 := by unfold mrn; rw [if_pos z]
      rcases q1 with y | y | y
      · omega
      · omega
      · omega
    · rw [if_neg q1, if_neg q1]
      have hg := gm_b (f := f) (vl := vl) (fr := fr) (e := e) (i := i) (by omega)
      by_cases q2 : lst f ≤ gm f vl fr e i
      · rw [if_pos q2, if_pos q2]
        refine Or.inr ⟨Or.inl rfl, hg.1, by omega, by omega, fun _ z => absurd z (by decide), fun z _ => ?_⟩
        have : lst f = 3 := by unfold lst; rw [if_pos z]
        omega
      · rw [if_neg q2, if_neg q2]
        refine Or.inr ⟨Or.inr rfl, by omega, by omega, by omega, fun z _ => ?_, fun _ z => absurd z (by decide)⟩
        have : lst f = 1 := by unfold lst; rw [if_neg (by omega)]
        omega
theorem VC_plan {f U W M D : Nat} {vl T so ct : Nat → Nat} {fr e : Nat} (hb : CB f U W M D) (h : PL f U M vl fr e T so ct fr) : VC f fr e so ct := by
  intro i h1 h2
  obtain ⟨g1, g2⟩ := h.2 i h1 h2
  obtain ⟨r1, r2, r3⟩ := RR_b (f := f) (vl := vl) h2
  have hmr := mrn_le f
  have hms := mst_le f
  have hl := lst_ge f
  by_cases q : i < rst f vl fr e
  · rcases (g1 q).2.2 with ⟨w0, w1, w2, -⟩ | ⟨w0, w1, w2, w3, -⟩
    · obtain ⟨m1, m2, m3, m4⟩ := w1
      refine Or.inr ⟨Or.inl w0, by omega, by omega, m3, fun _ z => by omega, fun z _ => ?_⟩
      have : lst f = 3 := by unfold lst; rw [if_pos z]
      omega
    · refine Or.inr ⟨Or.inr w0, by omega, by omega, by omega, fun z _ => ?_, fun _ z => by omega⟩
      have : mrn f = 128 := by unfold mrn; rw [if_pos z]
      have : lrn f = 2 := by unfold lrn; rw [if_pos z]
      omega
  · exact Or.inl (g2 (by omega)).2.1
theorem s_gm11 {ν : jM} {m e i : Nat} {vl : Nat → Nat} (hV : VL ν m vl) (hm : m ≤ 240) (hem : e ≤ m) (hv4 : ∀ i, i < m → vl i < 4294967296) (hi : i < e) :
    ∀ (k fu n : Nat), k < fu → min 128 (e - i) ≤ n + k → n ≤ 255 → 1 ≤ n → f_X6_greedyThemselves_11 fu (nI i) (nI e) (nI n) ν = f_X6_greedyThemselves_105 (nI i) (nI (gml vl e i (min 128 (e - i)) 2 k n)) ν := by
  intro k
  induction k with
  | zero =>
    intro fu n hfu h1 h2 h3
    obtain ⟨fu, rfl⟩ : ∃ g, fu = g + 1 := ⟨fu - 1, by omega⟩
    rw [f_X6_greedyThemselves_11.eq_2, gml, nI_add]
    by_cases q : e ≤ i + n
    · rw [if_pos (by rw [nI_leI (by omega) (by omega)]; exact q)]
    · rw [if_neg (by rw [nI_leI (by omega) (by omega)]; exact q), jl_128, if_pos (by rw [nI_leI (by omega) (by omega)]; omega)]
  | succ k ih =>
    intro fu n hfu h1 h2 h3
    obtain ⟨fu, rfl⟩ : ∃ g, fu = g + 1 := ⟨fu - 1, by omega⟩
    rw [f_X6_greedyThemselves_11.eq_2, gml, nI_add]
    by_cases q : e ≤ i + n
    · rw [if_pos (by rw [nI_leI (by omega) (by omega)]; exact q), if_neg (fun z => by omega)]
    · rw [if_neg (by rw [nI_leI (by omega) (by omega)]; exact q), jl_128]
      by_cases q1 : 128 ≤ n
      · rw [if_pos (by rw [nI_leI (by omega) (by omega)]; exact q1), if_neg (fun z => by omega)]
      · rw [if_neg (by rw [nI_leI (by omega) (by omega)]; exact q1), jl_2, s_likes hV hm hem hv4 (by omega) (by omega) (by omega), jcall_s]
        by_cases q2 : lk vl e (i + n) < 2
        · rw [if_neg (by rw [nI_leI (by omega) (by omega)]; omega), if_pos ⟨by omega, q2⟩, jl_1, nI_add, jlet_e]
          exact ih fu (n + 1) (by omega) (by omega) (by omega) (by omega)
        · rw [if_pos (by rw [nI_leI (by omega) (by omega)]; omega), if_neg (fun z => q2 z.2)]
theorem s_gm55 {ν : jM} {m e i rs : Nat} {vl : Nat → Nat} (hV : VL ν m vl) (hm : m ≤ 240) (hem : e ≤ m) (hv4 : ∀ i, i < m → vl i < 4294967296) (hi : i < rs) (hrs : rs ≤ e) :
    ∀ (k fu n : Nat), k < fu → min 255 (rs - i) ≤ n + k → n ≤ 255 → 1 ≤ n → f_X6_greedyThemselves_55 fu (nI i) (nI rs) (nI e) (nI n) ν = f_X6_greedyThemselves_91 (nI i) (nI (gml vl e i (min 255 (rs - i)) 3 k n)) ν := by
  intro k
  induction k with
  | zero =>
    intro fu n hfu h1 h2 h3
    obtain ⟨fu, rfl⟩ : ∃ g, fu = g + 1 := ⟨fu - 1, by omega⟩
    rw [f_X6_greedyThemselves_55.eq_2, gml, nI_add]
    by_cases q : rs ≤ i + n
    · rw [if_pos (by rw [nI_leI (by omega) (by omega)]; exact q)]
    · rw [if_neg (by rw [nI_leI (by omega) (by omega)]; exact q), jl_255, if_pos (by rw [nI_leI (by omega) (by omega)]; omega)]
  | succ k ih =>
    intro fu n hfu h1 h2 h3
    obtain ⟨fu, rfl⟩ : ∃ g, fu = g + 1 := ⟨fu - 1, by omega⟩
    rw [f_X6_greedyThemselves_55.eq_2, gml, nI_add]
    by_cases q : rs ≤ i + n
    · rw [if_pos (by rw [nI_leI (by omega) (by omega)]; exact q), if_neg (fun z => by omega)]
    · rw [if_neg (by rw [nI_leI (by omega) (by omega)]; exact q), jl_255]
      by_cases q1 : 255 ≤ n
      · rw [if_pos (by rw [nI_leI (by omega) (by omega)]; exact q1), if_neg (fun z => by omega)]
      · rw [if_neg (by rw [nI_leI (by omega) (by omega)]; exact q1), jl_3, s_likes hV hm hem hv4 (by omega) (by omega) (by omega), jcall_s]
        by_cases q2 : lk vl e (i + n) < 3
        · rw [if_neg (by rw [nI_leI (by omega) (by omega)]; omega), if_pos ⟨by omega, q2⟩, jl_1, nI_add, jlet_e]
          exact ih fu (n + 1) (by omega) (by omega) (by omega) (by omega)
        · rw [if_pos (by rw [nI_leI (by omega) (by omega)]; omega), if_neg (fun z => q2 z.2)]
theorem s_gThemM {ν : jM} {f U W M D m fr e i : Nat} {vl : Nat → Nat} {l : List Nat} (hb : CB f U W M D) (hm : MF ν f U W M D) (hV : VL ν m vl) (hvl : ∀ i, i < m → vl i < 256 ^ U) (hm2 : m ≤ 240) (hem : e ≤ m) (hi : i < rst f vl fr e) (hq : ¬ gtr f U M vl e i) (h : ML ν l) (hl : l.length + KK f U * (e - i) ≤ 990) :
    ∃ ν', f_X6_greedyThemselves (nI i) (nI (rst f vl fr e)) (nI e) ν = some (nI (gct f U M vl fr e i), ν') ∧ ML ν' (l ++ enc f U M vl i (gso f U M vl fr e i) (gct f U M vl fr e i)) ∧ GF ν ν' := by
  have hv4 : ∀ i, i < m → vl i < 4294967296 := fun i hi => Nat.lt_of_lt_of_le (hvl i hi) (p256_le (by have := hb.2.1; omega))
  have hr := rst_le (f := f) (vl := vl) (fr := fr) (e := e)
  have hg := gm_b hi
  have hms := mst_le f
  have so : gso f U M vl fr e i = if lst f ≤ gm f vl fr e i then 1 else 2 := by unfold gso; rw [if_neg (by omega), if_neg hq]
  have ct : gct f U M vl fr e i = if lst f ≤ gm f vl fr e i then gm f vl fr e i else 1 := by unfold gct; rw [if_neg (by omega), if_neg hq]
  have hKe : ∀ n, i + n ≤ e → KK f U * n ≤ KK f U * (e - i) := fun n hn => Nat.mul_le_mul_left _ (by omega)
  have them : lst f ≤ gm f vl fr e i → ∃ ν', f_X6_greedyThemselves_105 (nI i) (nI (gm f vl fr e i)) ν = some (nI (gct f U M vl fr e i), ν') ∧ ML ν' (l ++ enc f U M vl i (gso f U M vl fr e i) (gct f U M vl fr e i)) ∧ GF ν ν' := by
    intro z
    rw [if_pos z] at so ct
    rw [so, ct]
    have hlen := enc_len (vl := vl) (i := i) (n := gm f vl fr e i) hb (Or.inl rfl) hg.1 (fun y _ => by
      have : lst f = 3 := by unfold lst; rw [if_pos y]
      omega)
    have := hKe (gm f vl fr e i) (by omega)
    obtain ⟨ν', e1, e2, e3⟩ := s_layThem (n := gm f vl fr e i) (i := i) hb hm hV (by omega) hm2 hvl h ⟨hg.1, by omega⟩ (by omega)
    refine ⟨ν', ?_, e2, e3⟩
    unfold f_X6_greedyThemselves_105
    rw [e1, jcall_s]
  unfold f_X6_greedyThemselves
  rw [hm.1]
  rcases f3 hb with q | q | q
  · rw [if_neg (by rw [q]; decide), if_neg (by rw [q]; decide), jl_1]
    have e1 : mst f = 1 := by unfold mst; rw [if_pos q]
    have e2 : gm f vl fr e i = 1 := by omega
    rw [e2] at them
    exact them (by unfold lst; rw [if_neg (by omega)]; omega)
  · have er := rst_1 (f := f) (vl := vl) (fr := fr) (e := e) (by omega)
    have e2 : gm f vl fr e i = gml vl e i (min 128 (e - i)) 2 255 1 := by
      unfold gm gmo gth mst
      rw [if_neg (show ¬ f = 0 by omega), if_pos q, if_neg (show ¬ f = 2 by omega), er]
    rw [if_pos (by rw [q]; decide), jl_1, s_gm11 hV hm2 hem hv4 (by omega) 255 jFU 1 (by unfold jFU; omega) (by omega) (by omega) (by omega), ← e2]
    exact them (by
      have : lst f = 1 := by unfold lst; rw [if_neg (by omega)]
      omega)
  · have e2 : gm f vl fr e i = gml vl e i (min 255 (rst f vl fr e - i)) 3 255 1 := by
      unfold gm gmo gth mst
      rw [if_neg (show ¬ f = 0 by omega), if_neg (show ¬ f = 1 by omega), if_pos q]
    have e3 : lst f = 3 := by unfold lst; rw [if_pos q]
    rw [if_neg (by rw [q]; decide), if_pos (by rw [q]; decide), jl_1, s_gm55 hV hm2 hem hv4 hi hr 255 jFU 1 (by unfold jFU; omega) (by omega) (by omega) (by omega), ← e2]
    unfold f_X6_greedyThemselves_91
    by_cases z : 3 ≤ gm f vl fr e i
    · rw [jl_3, if_pos (by rw [nI_leI (by omega) (by omega)]; exact z)]
      exact them (by omega)
    · rw [if_neg (by omega)] at so ct
      rw [so, ct]
      have hlen := enc_len (vl := vl) (i := i) (n := 1) hb (Or.inr rfl) (by omega) (fun _ y => absurd y (by decide))
      have := hKe 1 (by omega)
      obtain ⟨ν', e1, e2, e3⟩ := s_layRun (n := 1) (i := i) hb hm hV (by omega) hm2 hvl h ⟨by omega, by omega⟩ (fun y => by omega) (by omega)
      rw [jl_3, if_neg (by rw [nI_leI (by omega) (by omega)]; exact z), jl_1, e1, jcall_s]
      exact ⟨ν', rfl, e2, e3⟩
def re (f : Nat) : List Nat := if f = 2 then [0, 0] else []
theorem s_re {ν : jM} {f : Nat} {l : List Nat} (q : f = 2) (h : ML ν l) (hl : l.length + 2 ≤ 1000) : ∃ ν', jcall (f_X6_lay (0 : Int32) ν) (fun (r6 : Unit) (μ6 : jM) => jcall (f_X6_lay (0 : Int32) μ6) (fun (r7 : Unit) (μ7 : jM) => some ((), μ7))) = some ((), ν') ∧ ML ν' (l ++ re f) ∧ GF ν ν' := by
  obtain ⟨ν1, e1, g1, k1⟩ := s_layN (v := 0) h (by omega) (by omega)
  obtain ⟨ν2, e2, g2, k2⟩ := s_layN (v := 0) g1 (by rw [List.length_append]; simp; omega) (by omega)
  rw [jl_0, e1, jcall_s, e2, jcall_s]
  refine ⟨ν2, rfl, ?_, k1.tr k2⟩
  unfold re
  rw [if_pos q]
  simpa [List.append_assoc] using g2
theorem s_greedyM_loop {ν0 : jM} {f U W M D m fr e : Nat} {vl : Nat → Nat} (hb : CB f U W M D) (hm : MF ν0 f U W M D) (hV : VL ν0 m vl) (hvl : ∀ i, i < m → vl i < 256 ^ U) (hm2 : m ≤ 240) (hem : e ≤ m) :
    ∀ (k fu i : Nat) (ν : jM) (l : List Nat), k < fu → e ≤ i + k → fr ≤ i → i ≤ e → ML ν l → l.length + KK f U * (e - i) ≤ 990 → GF ν0 ν →
    ∃ ν', f_X6_greedy_22 fu (nI e) (nI (rst f vl fr e)) (nI i) ν = some ((), ν') ∧ ML ν' (l ++ pcs f U M vl (gso f U M vl fr e) (gct f U M vl fr e) e k i ++ re f) ∧ GF ν0 ν' := by
  have hf := hb.1
  have hv4 : ∀ i, i < m → vl i < 4294967296 := fun i hi => Nat.lt_of_lt_of_le (hvl i hi) (p256_le (by have := hb.2.1; omega))
  have hr := rst_le (f := f) (vl := vl) (fr := fr) (e := e)
  have hvc := VC_greedy (vl := vl) (fr := fr) (e := e) hb
  -- where nothing is left but the end
  have fin : ∀ (k fu i : Nat) (ν : jM) (l : List Nat), rst f vl fr e ≤ i → i ≤ e → ML ν l → l.length ≤ 990 → GF ν0 ν → ∃ ν', f_X6_greedy_22 (fu + 1) (nI e) (nI (rst f vl fr e)) (nI i) ν = some ((), ν') ∧ ML ν' (l ++ pcs f U M vl (gso f U M vl fr e) (gct f U M vl fr e) e k i ++ re f) ∧ GF ν0 ν' := by
    intro k fu i ν l h1 h2 h3 h4 h5
    rw [pcs_nil (Or.inr (by unfold gso; rw [if_pos h1])), List.append_nil, f_X6_greedy_22.eq_2, if_pos (by rw [nI_leI (by omega) (by omega)]; exact h1), (hm.gf h5).1]
    by_cases q : f = 2
    · obtain ⟨ν', e1, e2, e3⟩ := s_re q h3 (by omega)
      rw [if_pos (by rw [q]; decide)]
      exact ⟨ν', e1, e2, h5.tr e3⟩
    · rw [if_neg (by rw [jl_2, nI_eq (by omega) (by omega)]; exact q)]
      exact ⟨ν, rfl, by unfold re; rw [if_neg q, List.append_nil]; exact h3, h5⟩
  intro k
  induction k with
  | zero =>
    intro fu i ν l hfu hk hfi hie hl hll hgf
    obtain ⟨fu, rfl⟩ : ∃ g, fu = g + 1 := ⟨fu - 1, by omega⟩
    exact fin 0 fu i ν l (by omega) hie hl (by omega) hgf
  | succ k ih =>
    intro fu i ν l hfu hk hfi hie hl hll hgf
    obtain ⟨fu, rfl⟩ : ∃ g, fu = g + 1 := ⟨fu - 1, by omega⟩
    by_cases q : rst f vl fr e ≤ i
    · exact fin (k + 1) fu i ν l q hie hl (by omega) hgf
    · have hmf := hm.gf hgf
      have hVf := hV.gf hgf
      have hmr := mrn_le f
      obtain ⟨r1, r2, r3⟩ := RR_b (f := f) (vl := vl) (show i < e by omega)
      have z : ¬ gso f U M vl fr e i = 0 := by
        unfold gso
        rw [if_neg q]
        split
        · omega
        · split <;> omega
      obtain ⟨w1, w2, w3, w4, w5, w6⟩ := (hvc i hfi (by omega)).resolve_left z
      have hlen := enc_len (vl := vl) (i := i) hb w1 w2 w6
      have h3 : KK f U * (e - i) = KK f U * gct f U M vl fr e i + KK f U * (e - (i + gct f U M vl fr e i)) := by
        rw [← Nat.mul_add]
        congr 1
        omega
      have nx : ∀ ν1, ML ν1 (l ++ enc f U M vl i (gso f U M vl fr e i) (gct f U M vl fr e i)) → GF ν ν1 → ∃ ν', f_X6_greedy_152 (fun x2 x3 x4 μ => f_X6_greedy_22 fu x2 x3 x4 μ) (nI e) (nI (rst f vl fr e)) (nI (i + gct f U M vl fr e i)) ν1 = some ((), ν') ∧ ML ν' (l ++ pcs f U M vl (gso f U M vl fr e) (gct f U M vl fr e) e (k + 1) i ++ re f) ∧ GF ν0 ν' := by
        intro ν1 a1 a2
        obtain ⟨ν', c1, c2, c3⟩ := ih fu (i + gct f U M vl fr e i) ν1 _ (by omega) (by omega) (by omega) w4 a1 (by rw [List.length_append]; omega) (hgf.tr a2)
        refine ⟨ν', c1, ?_, c3⟩
        rw [pcs, if_neg (fun y => y.elim (by omega) z), ← List.append_assoc l]
        exact c2
      have run : gtr f U M vl e i → ∃ ν', f_X6_greedy_114 (fun x2 x3 x4 μ => f_X6_greedy_22 fu x2 x3 x4 μ) (nI e) (nI (rst f vl fr e)) (nI i) (nI (RR f vl e i)) 1 ν = some ((), ν') ∧ ML ν' (l ++ pcs f U M vl (gso f U M vl fr e) (gct f U M vl fr e) e (k + 1) i ++ re f) ∧ GF ν0 ν' := by
        intro y
        have so : gso f U M vl fr e i = 2 := by unfold gso; rw [if_neg q, if_pos y]
        have ct : gct f U M vl fr e i = RR f vl e i := by unfold gct; rw [if_neg q, if_pos y]
        rw [so, ct] at nx
        rw [so, ct] at hlen
        rw [ct] at h3
        obtain ⟨ν1, a1, a2, a3⟩ := s_layRun (n := RR f vl e i) (i := i) hb hmf hVf (by omega) hm2 hvl hl ⟨r1, by omega⟩ (fun y => by rw [← ct]; exact w5 y so) (by omega)
        obtain ⟨ν', b1, b2⟩ := nx ν1 a2 a3
        refine ⟨ν', ?_, b2⟩
        unfold f_X6_greedy_114
        rw [if_neg (by decide), a1, jcall_s, nI_add, jlet_e]
        exact b1
      have them : ¬ gtr f U M vl e i → ∃ ν', f_X6_greedy_114 (fun x2 x3 x4 μ => f_X6_greedy_22 fu x2 x3 x4 μ) (nI e) (nI (rst f vl fr e)) (nI i) (nI (RR f vl e i)) 0 ν = some ((), ν') ∧ ML ν' (l ++ pcs f U M vl (gso f U M vl fr e) (gct f U M vl fr e) e (k + 1) i ++ re f) ∧ GF ν0 ν' := by
        intro y
        obtain ⟨ν1, a1, a2, a3⟩ := s_gThemM (i := i) hb hmf hVf hvl hm2 hem (show i < rst f vl fr e by omega) y hl hll
        obtain ⟨ν', b1, b2⟩ := nx ν1 a2 a3
        refine ⟨ν', ?_, b2⟩
        unfold f_X6_greedy_114
        rw [if_pos rfl, a1, jcall_s, nI_add, jlet_e]
        exact b1
      have hRU : RR f vl e i * U ≤ 240 * 4 := Nat.mul_le_mul (by omega) (by have := hb.2.1; omega)
      rw [f_X6_greedy_22.eq_2, if_neg (by rw [nI_leI (by omega) (by omega)]; exact q), s_mostRun hb hmf, jcall_s, s_likes hVf hm2 hem hv4 (by omega) hmr.1 hmr.2, jcall_s, hmf.1, hmf.2.1]
      rw [show min (lk vl e i) (mrn f) = RR f vl e i from rfl]
      unfold f_X6_greedy_73
      rcases f3 hb with p | p | p
      · have p0 : nI f = 0 := by rw [p]; decide
        rw [if_pos p0, jl_2, nI_add, pk_mul]
        by_cases q1 : 2 + U < RR f vl e i * U
        · rw [if_pos (by rw [nI_ltI (by have := hb.2.1; omega) (by omega)]; exact q1)]
          exact run (Or.inl ⟨p, Or.inl q1⟩)
        · rw [if_neg (by rw [nI_ltI (by have := hb.2.1; omega) (by omega)]; exact q1), s_isMarked hb hmf hVf hvl (by omega) hm2 p, jcall_s]
          by_cases q2 : mkd f U M vl i
          · rw [if_pos q2, if_neg (by decide)]
            exact run (Or.inl ⟨p, Or.inr q2⟩)
          · rw [if_neg q2, if_pos (by decide)]
            exact them (fun z => by
              rcases z with z | z | z
              · exact z.2.elim q1 q2
              · omega
              · omega)
      · have p0 : ¬ nI f = 0 := by rw [p]; decide
        have p1 : nI f = 1 := by rw [p]; decide
        rw [if_neg p0, if_pos p1]
        by_cases q1 : 1 < RR f vl e i
        · rw [if_neg (by rw [jl_1, nI_leI (by omega) (by omega)]; omega)]
          exact run (Or.inr (Or.inl ⟨p, q1⟩))
        · rw [if_pos (by rw [jl_1, nI_leI (by omega) (by omega)]; omega)]
          exact them (fun z => by omega)
      · have p0 : ¬ nI f = 0 := by rw [p]; decide
        have p1 : ¬ nI f = 1 := by rw [p]; decide
        rw [if_neg p0, if_neg p1]
        by_cases q1 : 2 < RR f vl e i
        · rw [if_neg (by rw [jl_2, nI_leI (by omega) (by omega)]; omega)]
          exact run (Or.inr (Or.inr ⟨p, q1⟩))
        · rw [if_pos (by rw [jl_2, nI_leI (by omega) (by omega)]; omega)]
          exact them (fun z => by omega)
theorem s_greedyM {ν : jM} {f U W M D m fr e : Nat} {vl : Nat → Nat} {l : List Nat} (hb : CB f U W M D) (hm : MF ν f U W M D) (hV : VL ν m vl) (hvl : ∀ i, i < m → vl i < 256 ^ U) (hm2 : m ≤ 240) (hem : e ≤ m) (hfe : fr ≤ e) (h : ML ν l) (hl : l.length + KK f U * (e - fr) ≤ 990) :
    ∃ ν', f_X6_greedy (nI fr) (nI e) ν = some ((), ν') ∧ ML ν' (l ++ pcs f U M vl (gso f U M vl fr e) (gct f U M vl fr e) e (e - fr) fr ++ re f) ∧ GF ν ν' := by
  have hf := hb.1
  have hv4 : ∀ i, i < m → vl i < 4294967296 := fun i hi => Nat.lt_of_lt_of_le (hvl i hi) (p256_le (by have := hb.2.1; omega))
  have L := s_greedyM_loop (vl := vl) (fr := fr) (e := e) hb hm hV hvl hm2 hem (e - fr) jFU fr ν l (by unfold jFU; omega) (by omega) (Nat.le_refl _) hfe h hl GF.rf
  unfold f_X6_greedy f_X6_greedy_18
  by_cases q : f = 2
  · have er : rs0 vl fr e = rst f vl fr e := by unfold rst; rw [if_pos q]
    rw [hm.1, if_pos (by rw [q]; decide), s_restOf hV hm2 hv4 (by omega) hem, jcall_s, er]
    exact L
  · rw [hm.1, if_neg (by rw [jl_2, nI_eq (by omega) (by omega)]; exact q)]
    have er := rst_1 (vl := vl) (fr := fr) (e := e) q
    rw [er] at L
    exact L
