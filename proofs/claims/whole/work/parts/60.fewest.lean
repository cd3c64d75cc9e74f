/-! the reference lays down its fewest bytes; a stretch in both -/
theorem s_fAt_skip {ν : jM} {f U W M D m e i : Nat} {vl T : Nat → Nat} (hb : CB f U W M D) (hm : MF ν f U W M D) (hV : VL ν m vl) (hvl : ∀ i, i < m → vl i < 256 ^ U) (hm2 : m ≤ 240) (hem : e ≤ m) (hi : i < e) (hT : ∀ k, i ≤ k → k ≤ e → ν.1 5 k = nI (T k) ∧ T k ≤ 2000) :
    ∀ (j fu n : Nat), i + (n + j) ≤ e → (∀ n', n < n' → msd f U M vl e i n' → ¬ sc f U n' + T (i + n') = T i) → f_X6_fewestAt_4 (fu + j) (nI i) (nI e) (nI (n + j)) ν = f_X6_fewestAt_4 fu (nI i) (nI e) (nI n) ν := by
  intro j
  induction j with
  | zero => intro fu n h1 h2; rfl
  | succ j ih =>
    intro fu n h1 h2
    have hTn := hT (i + (n + (j + 1))) (by omega) (by omega)
    have hTi := hT i (by omega) (by omega)
    have nx : f_X6_fewestAt_49 (fun x1 x2 x3 μ => f_X6_fewestAt_4 (fu + j) x1 x2 x3 μ) (nI i) (nI e) (nI (n + (j + 1))) ν = f_X6_fewestAt_4 fu (nI i) (nI e) (nI n) ν := by
      unfold f_X6_fewestAt_49
      rw [sb_m1 (by omega), jlet_e]
      exact ih fu n (by omega) h2
    rw [show fu + (j + 1) = (fu + j) + 1 by omega, f_X6_fewestAt_4.eq_2, if_neg (by rw [jl_1, nI_ltI (by omega) (by omega)]; omega)]
    rcases s_mayStand (n := n + (j + 1)) (i := i) (e := e) hb hm hV hvl hm2 hem (by omega) (by omega) with ⟨a1, a2⟩ | ⟨a1, a2⟩
    · have hsc := sc_le (n := n + (j + 1)) hb (by omega)
      rw [a2, jcall_s, if_neg (by decide), s_selfCost hb hm (by omega), jcall_s, nI_add, jin_n (by omega) (by omega), jin_n (by omega) (by omega), nI_clamp (by omega), nI_clamp (by omega), hTn.1, hTi.1, nI_add, if_neg (by rw [nI_eq (by omega) (by omega)]; exact h2 _ (by omega) a1)]
      exact nx
    · rw [a2, jcall_s, if_pos (by decide)]
      exact nx
theorem s_fewestAt {ν : jM} {f U W M D m e i s n : Nat} {vl T : Nat → Nat} {l : List Nat} (hb : CB f U W M D) (hm : MF ν f U W M D) (hV : VL ν m vl) (hvl : ∀ i, i < m → vl i < 256 ^ U) (hm2 : m ≤ 240) (hem : e ≤ m) (hi : i < e) (hT : ∀ k, i ≤ k → k ≤ e → ν.1 5 k = nI (T k) ∧ T k ≤ 2000) (hch : CHb f U M vl e i T (T i) s n) (h : ML ν l) (hl : l.length + KK f U * (e - i) ≤ 990) :
    ∃ ν', f_X6_fewestAt (nI i) (nI e) ν = some (nI n, ν') ∧ ML ν' (l ++ enc f U M vl i s n) ∧ GF ν ν' := by
  have hv4 : ∀ i, i < m → vl i < 4294967296 := fun i hi => Nat.lt_of_lt_of_le (hvl i hi) (p256_le (by have := hb.2.1; omega))
  obtain ⟨r1, r2, r3⟩ := RR_b (f := f) (vl := vl) hi
  have hmr := mrn_le f
  have hms := mst_le f
  have hlg := lst_ge f
  have hTi := hT i (by omega) (by omega)
  have hKe : ∀ n, i + n ≤ e → KK f U * n ≤ KK f U * (e - i) := fun n hn => Nat.mul_le_mul_left _ (by omega)
  unfold f_X6_fewestAt
  rw [pk_sub (by omega), jlet_e]
  rcases hch.2.2 with ⟨w0, w1, w2, w3⟩ | ⟨w0, w1, w2, w3, w4⟩
  · have hmsd := w1
    obtain ⟨m1, m2, m3, m4⟩ := w1
    have hTn := hT (i + n) (by omega) (by omega)
    have hsc := sc_le (n := n) hb (by omega)
    have hlen := enc_len (vl := vl) (i := i) (n := n) hb (Or.inl w0) (by omega) (fun y _ => by
      have : lst f = 3 := by unfold lst; rw [if_pos y]
      omega)
    have := hKe n m3
    rw [w0] at hlen
    obtain ⟨ν', e1, e2, e3⟩ := s_layThem (n := n) (i := i) hb hm hV (by omega) hm2 hvl h ⟨by omega, by omega⟩ (by omega)
    have sk := s_fAt_skip hb hm hV hvl hm2 hem hi hT (e - i - n) (jFU - (e - i - n)) n (by omega) (fun n' a c => by have := w3 n' c a; omega)
    rw [show jFU - (e - i - n) + (e - i - n) = (jFU : Nat) by unfold jFU; omega, show n + (e - i - n) = e - i by omega] at sk
    rw [sk, show jFU - (e - i - n) = (jFU - (e - i - n) - 1) + 1 by unfold jFU; omega, f_X6_fewestAt_4.eq_2, if_neg (by rw [jl_1, nI_ltI (by omega) (by omega)]; omega)]
    rcases s_mayStand (n := n) (i := i) (e := e) hb hm hV hvl hm2 hem (by omega) (by omega) with ⟨a1, a2⟩ | ⟨a1, a2⟩
    · rw [a2, jcall_s, if_neg (by decide), s_selfCost hb hm (by omega), jcall_s, nI_add, jin_n (by omega) (by omega), jin_n (by omega) (by omega), nI_clamp (by omega), nI_clamp (by omega), hTn.1, hTi.1, nI_add, if_pos (by rw [w2]), e1, jcall_s]
      exact ⟨ν', rfl, by rw [w0]; exact e2, e3⟩
    · exact absurd hmsd a1
  · have hTn := hT (i + RR f vl e i) (by omega) (by omega)
    have hlen := enc_len (vl := vl) (i := i) (n := RR f vl e i) hb (Or.inr rfl) (by omega) (fun _ y => absurd y (by decide))
    have := hKe (RR f vl e i) (by omega)
    have hrc := rc_le hb
    obtain ⟨ν', e1, e2, e3⟩ := s_layRun (n := RR f vl e i) (i := i) hb hm hV (by omega) hm2 hvl h ⟨by omega, by omega⟩ (fun y => by
      have : mrn f = 128 := by unfold mrn; rw [if_pos y]
      have : lrn f = 2 := by unfold lrn; rw [if_pos y]
      omega) (by omega)
    have sk := s_fAt_skip hb hm hV hvl hm2 hem hi hT (e - i) (jFU - (e - i)) 0 (by omega) (fun n' a c => by have := w4 n' c; omega)
    rw [show jFU - (e - i) + (e - i) = (jFU : Nat) by unfold jFU; omega, Nat.zero_add] at sk
    rw [sk, show jFU - (e - i) = (jFU - (e - i) - 1) + 1 by unfold jFU; omega, f_X6_fewestAt_4.eq_2, if_pos (by decide), s_mostRun hb hm, jcall_s, s_likes hV hm2 hem hv4 hi hmr.1 hmr.2, jcall_s, show min (lk vl e i) (mrn f) = RR f vl e i from rfl]
    have e5 : f_X6_fewestAt_66 jFU (nI i) (nI (RR f vl e i)) ν = some (nI (RR f vl e i), ν') := by
      rw [show (jFU : Nat) = (jFU - 1) + 1 by unfold jFU; omega, f_X6_fewestAt_66.eq_2, s_runCost hb hm, jcall_s, nI_add, jin_n (by omega) (by omega), jin_n (by omega) (by omega), nI_clamp (by omega), nI_clamp (by omega), hTn.1, hTi.1, nI_add, if_pos (by rw [w3]), e1, jcall_s]
    rw [e5, w1, w0]
    exact ⟨ν', rfl, e2, e3⟩
theorem s_fewestM_loop {ν0 : jM} {f U W M D m fr e : Nat} {vl T so ct : Nat → Nat} {x3 : Nat} (hb : CB f U W M D) (hm : MF ν0 f U W M D) (hV : VL ν0 m vl) (hvl : ∀ i, i < m → vl i < 256 ^ U) (hm2 : m ≤ 240) (hem : e ≤ m) (hpl : PL f U M vl fr e T so ct fr) (hT : MCo ν0 T fr e) (hx3 : f = 2 → x3 = rst f vl fr e) :
    ∀ (k fu i : Nat) (ν : jM) (l : List Nat), k + 1 < fu → e ≤ i + k → fr ≤ i → i ≤ e → ML ν l → l.length + KK f U * (e - i) ≤ 990 → GF ν0 ν →
    ∃ ν', f_X6_fewest_33 fu (nI e) (nI x3) (nI i) (nI 1) ν = some ((), ν') ∧ ML ν' (l ++ pcs f U M vl so ct e k i ++ re f) ∧ GF ν0 ν' := by
  have hf := hb.1
  have hr := rst_le (f := f) (vl := vl) (fr := fr) (e := e)
  have hvc := VC_plan hb hpl
  have hTe := hpl.1
  have fin : ∀ (k fu i : Nat) (ν : jM) (l : List Nat), rst f vl fr e ≤ i → fr ≤ i → i ≤ e → ML ν l → l.length ≤ 990 → GF ν0 ν → ∃ ν', f_X6_fewest_33 (fu + 1 + 1) (nI e) (nI x3) (nI i) (nI 1) ν = some ((), ν') ∧ ML ν' (l ++ pcs f U M vl so ct e k i ++ re f) ∧ GF ν0 ν' := by
    intro k fu i ν l h1 h0 h2 h3 h4 h5
    have hso : e ≤ i ∨ so i = 0 := by
      by_cases z : i = e
      · exact Or.inl (by omega)
      · exact Or.inr ((hpl.2 i h0 (by omega)).2 h1).2.1
    rw [pcs_nil hso, List.append_nil, f_X6_fewest_33.eq_2, if_neg (by decide), (hm.gf h5).1]
    by_cases q : f = 2
    · obtain ⟨ν', e1, e2, e3⟩ := s_re q h3 (by omega)
      have hTi : T i = 2 := by
        by_cases z : i = e
        · rw [z, hTe, if_pos q]
        · exact ((hpl.2 i h0 (by omega)).2 h1).1
      have c5 : ν.1 5 i = nI 2 := by rw [h5.2.1 5 (by decide) (by decide), hT i h0 h2, hTi]
      have p2 : nI f = 2 := by rw [q]; decide
      have e52 : f_X6_fewest_52 (fun x2 x3 x4 x5 μ => f_X6_fewest_33 (fu + 1) x2 x3 x4 x5 μ) (nI e) (nI x3) (nI i) (nI 1) ν = some ((), ν') := by
        unfold f_X6_fewest_52
        rw [(hm.gf h5).1, if_pos p2, hx3 q, if_neg (by rw [nI_ltI (by omega) (by omega)]; omega), jin_n (by omega) (by omega), nI_clamp (by omega), c5, if_pos (by decide)]
        show f_X6_fewest_33 (fu + 1) (nI e) (nI (rst f vl fr e)) (nI i) 0 ν = some ((), ν')
        rw [f_X6_fewest_33.eq_2, if_pos rfl]
        unfold f_X6_fewest_98
        rw [(hm.gf h5).1, if_pos p2]
        exact e1
      refine ⟨ν', ?_, e2, h5.tr e3⟩
      rw [if_pos p2, e52]
      split <;> rfl
    · have p2 : ¬ nI f = 2 := by rw [jl_2, nI_eq (by omega) (by omega)]; exact q
      have er := rst_1 (vl := vl) (fr := fr) (e := e) q
      rw [if_neg (by rw [nI_ltI (by omega) (by omega)]; omega), if_neg p2]
      unfold f_X6_fewest_98
      rw [(hm.gf h5).1, if_neg p2]
      exact ⟨ν, rfl, by unfold re; rw [if_neg q, List.append_nil]; exact h3, h5⟩
  intro k
  induction k with
  | zero =>
    intro fu i ν l hfu hk hfi hie hl hll hgf
    obtain ⟨fu, rfl⟩ : ∃ g, fu = g + 1 + 1 := ⟨fu - 2, by omega⟩
    exact fin 0 fu i ν l (by omega) hfi hie hl (by omega) hgf
  | succ k ih =>
    intro fu i ν l hfu hk hfi hie hl hll hgf
    obtain ⟨fu, rfl⟩ : ∃ g, fu = g + 1 + 1 := ⟨fu - 2, by omega⟩
    by_cases q : rst f vl fr e ≤ i
    · exact fin (k + 1) fu i ν l q hfi hie hl (by omega) hgf
    · have hmf := hm.gf hgf
      have hVf := hV.gf hgf
      have hch := (hpl.2 i hfi (by omega)).1 (by omega)
      have z : ¬ so i = 0 := by
        rcases hch.2.2 with ⟨w0, -⟩ | ⟨w0, -⟩ <;> omega
      obtain ⟨w1, w2, w3, w4, w5, w6⟩ := (hvc i hfi (by omega)).resolve_left z
      have hlen := enc_len (vl := vl) (i := i) hb w1 w2 w6
      have h3 : KK f U * (e - i) = KK f U * ct i + KK f U * (e - (i + ct i)) := by
        rw [← Nat.mul_add]
        congr 1
        omega
      obtain ⟨ν1, a1, a2, a3⟩ := s_fewestAt hb hmf hVf hvl hm2 hem (show i < e by omega) (fun k' b1 b2 => ⟨by rw [hgf.2.1 5 (by decide) (by decide)]; exact hT k' (by omega) b2, by
        have := PL_bound hb hpl (e - k') k' (by omega) (by omega) b2
        omega⟩) hch hl hll
      obtain ⟨ν', c1, c2, c3⟩ := ih (fu + 1) (i + ct i) ν1 _ (by omega) (by omega) (by omega) w4 a2 (by rw [List.length_append]; omega) (hgf.tr a3)
      refine ⟨ν', ?_, ?_, c3⟩
      · have e83 : f_X6_fewest_83 (fun x2 x3 x4 x5 μ => f_X6_fewest_33 (fu + 1) x2 x3 x4 x5 μ) (nI e) (nI x3) (nI i) (nI 1) ν = some ((), ν') := by
          unfold f_X6_fewest_83
          rw [a1, jcall_s, nI_add, jlet_e]
          exact c1
        rw [f_X6_fewest_33.eq_2, if_neg (by decide), if_pos (by rw [nI_ltI (by omega) (by omega)]; omega)]
        unfold f_X6_fewest_52
        rw [hmf.1]
        by_cases p : f = 2
        · rw [if_pos (by rw [p]; decide), hx3 p, if_pos (by rw [nI_ltI (by omega) (by omega)]; omega)]
          rw [hx3 p] at e83
          exact e83
        · rw [if_neg (by rw [jl_2, nI_eq (by omega) (by omega)]; exact p)]
          exact e83
      · rw [pcs, if_neg (fun y => y.elim (by omega) z), ← List.append_assoc l]
        exact c2
/-- the reference's frame over a stretch -/
def HF (ν ν' : jM) : Prop := (∀ k, k ≠ 18 → ν'.1 0 k = ν.1 0 k) ∧ (∀ c, c ≠ 0 → c ≠ 5 → c ≠ 6 → ν'.1 c = ν.1 c) ∧ ν'.2 4 = ν.2 4
theorem HF.rf {ν : jM} : HF ν ν := ⟨fun _ _ => rfl, fun _ _ _ _ => rfl, rfl⟩
theorem HF.tr {ν ν1 ν2 : jM} (h : HF ν ν1) (g : HF ν1 ν2) : HF ν ν2 := ⟨fun k hk => (g.1 k hk).trans (h.1 k hk), fun c h0 h5 h6 => (g.2.1 c h0 h5 h6).trans (h.2.1 c h0 h5 h6), g.2.2.trans h.2.2⟩
theorem GF.hf {ν ν' : jM} (h : GF ν ν') : HF ν ν' := ⟨h.1, fun c h0 _ h6 => h.2.1 c h0 h6, by rw [h.2.2]⟩
theorem Fr.hf {ν ν' : jM} (h : Fr [5] ν ν') : HF ν ν' := ⟨fun k _ => h.at (by decide) k, fun c h0 h5 _ => h.1 c (by simpa using h5), h.2 4 (by decide)⟩
theorem MF.hf {ν ν' : jM} {f U W M D : Nat} (hm : MF ν f U W M D) (h : HF ν ν') : MF ν' f U W M D := by
  obtain ⟨a1, a2, a3, a4, a5⟩ := hm
  exact ⟨(h.1 0 (by decide)).trans a1, (h.1 1 (by decide)).trans a2, (h.1 2 (by decide)).trans a3, (h.1 3 (by decide)).trans a4, (h.1 4 (by decide)).trans a5⟩
theorem VL.hf {ν ν' : jM} {m : Nat} {vl : Nat → Nat} (h : VL ν m vl) (g : HF ν ν') : VL ν' m vl := fun i hi => by rw [g.2.2]; exact h i hi
theorem s_fewestM {ν : jM} {f U W M D m fr e : Nat} {vl T so ct : Nat → Nat} {l : List Nat} (hb : CB f U W M D) (hm : MF ν f U W M D) (hV : VL ν m vl) (hvl : ∀ i, i < m → vl i < 256 ^ U) (hm2 : m ≤ 240) (hem : e ≤ m) (hfe : fr ≤ e) (hpl : PL f U M vl fr e T so ct fr) (h : ML ν l) (hl : l.length + KK f U * (e - fr) ≤ 990) :
    ∃ ν', f_X6_fewest (nI fr) (nI e) ν = some ((), ν') ∧ ML ν' (l ++ pcs f U M vl so ct e (e - fr) fr ++ re f) ∧ HF ν ν' := by
  have hf := hb.1
  have hv4 : ∀ i, i < m → vl i < 4294967296 := fun i hi => Nat.lt_of_lt_of_le (hvl i hi) (p256_le (by have := hb.2.1; omega))
  obtain ⟨ν1, a1, a2, a3⟩ := s_reckon hb hm hV hvl hm2 hem hfe hpl
  have hmf := hm.fr a2 (by decide)
  have hVf := hV.fr a2 (by decide)
  have h1 : ML ν1 l := ⟨by rw [a2.at (by decide)]; exact h.1, h.2.1, h.2.2.1, fun i hi => by rw [a2.at (by decide)]; exact h.2.2.2 i hi⟩
  have L : ∀ x3, (f = 2 → x3 = rst f vl fr e) → _ := fun x3 hx3 => s_fewestM_loop (x3 := x3) hb hmf hVf hvl hm2 hem hpl a3 hx3 (e - fr) jFU fr ν1 l (by unfold jFU; omega) (by omega) (Nat.le_refl _) hfe h1 hl GF.rf
  unfold f_X6_fewest f_X6_fewest_26
  rw [a1, jcall_s, hmf.1]
  by_cases q : f = 2
  · have er : rs0 vl fr e = rst f vl fr e := by unfold rst; rw [if_pos q]
    obtain ⟨ν', c1, c2, c3⟩ := L (rst f vl fr e) (fun _ => rfl)
    rw [if_pos (by rw [q]; decide), s_restOf hVf hm2 hv4 (by omega) hem, jcall_s, er]
    exact ⟨ν', c1, c2, a2.hf.tr c3.hf⟩
  · obtain ⟨ν', c1, c2, c3⟩ := L (e + 1) (fun z => absurd z q)
    rw [if_neg (by rw [jl_2, nI_eq (by omega) (by omega)]; exact q), jl_1, nI_add]
    exact ⟨ν', c1, c2, a2.hf.tr c3.hf⟩
theorem s_addTwo {μ : jM} {l : List Nat} {a b : Nat} (ha : a < 256) (hb : b < 256) (h : OL μ l) (hl : l.length + 2 ≤ 1000) : ∃ μ', jcall (f_X0_add 7 1000 (nI a) μ) (fun (r2 : Unit) (μ2 : jM) => jcall (f_X0_add 7 1000 (nI b) μ2) (fun (r3 : Unit) (μ3 : jM) => some ((), μ3))) = some ((), μ') ∧ OL μ' (l ++ [a, b]) ∧ Fr [7, 8] μ μ' := by
  obtain ⟨μ1, e1, g1, k1⟩ := s_addN (v := a) h (by omega) ha
  obtain ⟨μ2, e2, g2, k2⟩ := s_addN (v := b) g1 (by rw [List.length_append]; simp; omega) hb
  rw [e1, jcall_s, e2, jcall_s]
  exact ⟨μ2, rfl, by simpa [List.append_assoc] using g2, k1.tr k2⟩
/-- the class packs a stretch -/
theorem s_stretch {μ : jM} {f U W M D m fr e how : Nat} {vl : Nat → Nat} {l : List Nat} (hb : CB f U W M D) (hc : CF μ f U W M D) (hv : UV μ m vl) (hm : m ≤ 240) (hem : e ≤ m) (hfe : fr ≤ e) (hhow : how ≤ 1) (hvl : ∀ i, i < m → vl i < 256 ^ U) (h : OL μ l) (hl : l.length + KK f U * (e - fr) ≤ 990) :
    ∃ μ' so ct, f_X2_addStretch (nI fr) (nI e) (nI how) μ = some ((), μ') ∧ OL μ' (l ++ pcs f U M vl so ct e (e - fr) fr ++ re f) ∧ Fr [6, 7, 8, 10, 11, 12, 13] μ μ' ∧ μ'.1 6 7 = μ.1 6 7 ∧ VC f fr e so ct ∧ (how = 0 → so = gso f U M vl fr e ∧ ct = gct f U M vl fr e) ∧ (how = 1 → ∃ T, PL f U M vl fr e T so ct fr) := by
  have hf := hb.1
  have g0 : Fr [6] μ (jsI μ 6 8 (nI e)) := Fr.I _ _ _ (by decide)
  obtain ⟨μ1, a1, a2, a3, a4, a5, a6⟩ := s_measure (fr := fr) (e := e) hb (hc.fr g0 (by decide)) (hv.fr g0 (by decide)) hm hfe hem hvl (jsI_s _ _ _ _)
  have g1 : Fr [6, 10] μ μ1 := (g0.up (by decide)).tr a2
  have hme : ME μ1 f vl fr e := ⟨a4, a5, a6⟩
  have hc1 := hc.fr g1 (by decide)
  have hv1 := hv.fr g1 (by decide)
  have h1 : OL μ1 l := OC_fr h g1 (by decide) (by decide)
  have e67 : μ1.1 6 7 = μ.1 6 7 := by rw [a3, jsI_k _ _ (by decide)]
  -- the end of a stretch
  have fin : ∀ (μ2 μ3 : jM) (so ct : Nat → Nat), Fr [11, 12, 13] μ1 μ2 → f_X2_addPieces (nI fr) (nI how) μ2 = some ((), μ3) → OL μ3 (l ++ pcs f U M vl so ct e (e - fr) fr) → Fr [7, 8, 11, 12, 13] μ2 μ3 → VC f fr e so ct → ∃ μ', f_X2_addStretch_20 (nI fr) (nI how) μ2 = some ((), μ') ∧ OL μ' (l ++ pcs f U M vl so ct e (e - fr) fr ++ re f) ∧ Fr [6, 7, 8, 10, 11, 12, 13] μ μ' ∧ μ'.1 6 7 = μ.1 6 7 := by
    intro μ2 μ3 so ct b1 b2 b3 b4 b5
    have gg : Fr [7, 8, 11, 12, 13] μ1 μ3 := (b1.up (by decide)).tr b4
    have hlen := pcs_len (vl := vl) hb b5 (e - fr) fr (Nat.le_refl _) hfe
    unfold f_X2_addStretch_20
    rw [b2, jcall_s, (hc1.fr gg (by decide)).1]
    by_cases q : f = 2
    · obtain ⟨μ', c1, c2, c3⟩ := s_addTwo (a := 0) (b := 0) (by omega) (by omega) b3 (by rw [List.length_append]; omega)
      rw [if_pos (by rw [q]; decide), jl_0]
      refine ⟨μ', c1, by unfold re; rw [if_pos q]; exact c2, (g1.up (by decide)).tr ((gg.up (by decide)).tr (c3.up (by decide))), ?_⟩
      rw [c3.at (by decide), gg.at (by decide), e67]
    · rw [if_neg (by rw [jl_2, nI_eq (by omega) (by omega)]; exact q)]
      refine ⟨μ3, rfl, by unfold re; rw [if_neg q, List.append_nil]; exact b3, (g1.up (by decide)).tr (gg.up (by decide)), ?_⟩
      rw [gg.at (by decide), e67]
  unfold f_X2_addStretch
  rw [jlet_e, a1, jcall_s]
  by_cases q : how = 1
  · obtain ⟨μ2, T, so, ct, b1, b2, b3, b4⟩ := s_plan hb hc1 hv1 hme hm hem hfe
    have hvc := VC_plan hb b3
    obtain ⟨μ3, c1, c2, c3⟩ := s_pieces_loop (how := 1) (so := so) (ct := ct) hb (hc1.fr b2 (by decide)) (hv1.fr b2 (by decide)) hm hem (by omega) (by rw [b2.at (by decide)]; exact a4) hvc (J := fun μ => μ.1 12 = μ2.1 12 ∧ μ.1 13 = μ2.1 13) (fun μa μb ha hfr => ⟨(hfr.1 12 (by decide)).trans ha.1, (hfr.1 13 (by decide)).trans ha.2⟩) (fun i μa z1 z2 z3 z4 => ⟨μa, fun y => absurd y (by omega), fun _ => rfl, Fr.rf, z4, by rw [z4.1]; exact (b4.2 i z1 z2).1, by rw [z4.2]; exact (b4.2 i z1 z2).2⟩) (e - fr) jFU fr 0 μ2 l (by unfold jFU; omega) (by omega) (Nat.le_refl _) hfe (by omega) (OC_fr h1 b2 (by decide) (by decide)) hl Fr.rf ⟨rfl, rfl⟩
    obtain ⟨μ', d1, d2⟩ := fin μ2 μ3 so ct b2 (by unfold f_X2_addPieces; rw [q, jl_0]; exact c1) c2 c3 hvc
    rw [if_pos (by rw [q]; decide), b1, jcall_s]
    exact ⟨μ', so, ct, d1, d2.1, d2.2.1, d2.2.2, hvc, fun z => by omega, fun _ => ⟨T, b3⟩⟩
  · have q0 : how = 0 := by omega
    have hvc := VC_greedy (vl := vl) (fr := fr) (e := e) hb
    obtain ⟨μ3, c1, c2, c3⟩ := s_pieces_loop (how := 0) (so := gso f U M vl fr e) (ct := gct f U M vl fr e) hb hc1 hv1 hm hem (by omega) a4 hvc (J := fun _ => True) (fun _ _ _ _ => trivial) (fun i μa z1 z2 z3 _ => by
      obtain ⟨μb, y1, y2, y3, y4⟩ := s_chooseGreedy hb (hc1.fr z3 (by decide)) (hv1.fr z3 (by decide)) (hme.fr z3 (by decide) (by decide)) hm hem z1 z2
      exact ⟨μb, fun _ => y1, fun y => absurd rfl y, y2.1, trivial, y3, y4⟩) (e - fr) jFU fr 0 μ1 l (by unfold jFU; omega) (by omega) (Nat.le_refl _) hfe (by omega) h1 hl Fr.rf trivial
    obtain ⟨μ', d1, d2⟩ := fin μ1 μ3 _ _ Fr.rf (by unfold f_X2_addPieces; rw [q0, jl_0]; exact c1) c2 c3 hvc
    rw [if_neg (by rw [jl_1, nI_eq (by omega) (by omega)]; exact q)]
    exact ⟨μ', _, _, d1, d2.1, d2.2.1, d2.2.2, hvc, fun _ => ⟨rfl, rfl⟩, fun z => by omega⟩
/-- the reference packs a part -/
theorem s_part {ν : jM} {f U W M D m fr e how : Nat} {vl so ct : Nat → Nat} {l : List Nat} (hb : CB f U W M D) (hm : MF ν f U W M D) (hV : VL ν m vl) (hvl : ∀ i, i < m → vl i < 256 ^ U) (hm2 : m ≤ 240) (hem : e ≤ m) (hfe : fr ≤ e) (hhow : how ≤ 1) (h0 : how = 0 → so = gso f U M vl fr e ∧ ct = gct f U M vl fr e) (h1 : how = 1 → ∃ T, PL f U M vl fr e T so ct fr) (h : ML ν l) (hl : l.length + KK f U * (e - fr) ≤ 990) :
    ∃ ν', f_X6_part (nI how) (nI fr) (nI e) ν = some ((), ν') ∧ ML ν' (l ++ pcs f U M vl so ct e (e - fr) fr ++ re f) ∧ HF ν ν' := by
  unfold f_X6_part
  by_cases q : how = 1
  · obtain ⟨T, hpl⟩ := h1 q
    obtain ⟨ν', a1, a2, a3⟩ := s_fewestM hb hm hV hvl hm2 hem hfe hpl h hl
    rw [if_neg (by rw [q]; decide), a1, jcall_s]
    exact ⟨ν', rfl, a2, a3⟩
  · obtain ⟨k1, k2⟩ := h0 (by omega)
    obtain ⟨ν', a1, a2, a3⟩ := s_greedyM (fr := fr) hb hm hV hvl hm2 hem hfe h hl
    rw [if_pos (by rw [show how = 0 by omega]; decide), a1, jcall_s, k1, k2]
    exact ⟨ν', rfl, a2, a3.hf⟩
