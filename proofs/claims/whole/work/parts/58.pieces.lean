/-! greedy choice, and the pieces of a stretch -/
def gth (f : Nat) : Nat := if f = 2 then 3 else 2
def gml (vl : Nat → Nat) (e i mo th : Nat) : Nat → Nat → Nat
  | 0, n => n
  | k + 1, n => if n < mo ∧ lk vl e (i + n) < th then gml vl e i mo th k (n + 1) else n
theorem gml_b {vl : Nat → Nat} {e i mo th : Nat} : ∀ (k n : Nat), n ≤ mo → n ≤ gml vl e i mo th k n ∧ gml vl e i mo th k n ≤ mo
  | 0, n, h => ⟨Nat.le_refl _, h⟩
  | k + 1, n, h => by
    rw [gml]
    by_cases q : n < mo ∧ lk vl e (i + n) < th
    · rw [if_pos q]
      have := gml_b (vl := vl) (e := e) (i := i) (mo := mo) (th := th) k (n + 1) q.1
      omega
    · rw [if_neg q]; exact ⟨Nat.le_refl _, h⟩
def gmo (f : Nat) (vl : Nat → Nat) (fr e i : Nat) : Nat := min (mst f) (rst f vl fr e - i)
def gm (f : Nat) (vl : Nat → Nat) (fr e i : Nat) : Nat := gml vl e i (gmo f vl fr e i) (gth f) 255 1
abbrev gtr (f U M : Nat) (vl : Nat → Nat) (e i : Nat) : Prop := (f = 0 ∧ (2 + U < RR f vl e i * U ∨ mkd f U M vl i)) ∨ (f = 1 ∧ 1 < RR f vl e i) ∨ (f = 2 ∧ 2 < RR f vl e i)
def gso (f U M : Nat) (vl : Nat → Nat) (fr e i : Nat) : Nat := if rst f vl fr e ≤ i then 0 else if gtr f U M vl e i then 2 else if lst f ≤ gm f vl fr e i then 1 else 2
def gct (f U M : Nat) (vl : Nat → Nat) (fr e i : Nat) : Nat := if rst f vl fr e ≤ i then 0 else if gtr f U M vl e i then RR f vl e i else if lst f ≤ gm f vl fr e i then gm f vl fr e i else 1
theorem s_gml {μ : jM} {fr e i mo th : Nat} {vl : Nat → Nat} (he : e ≤ 240) (hmo : mo ≤ 255) (hmo2 : i + mo ≤ e) (hfi : fr ≤ i) (hth : th ≤ 3) (ha : ∀ i, fr ≤ i → i < e → μ.1 10 i = nI (lk vl e i)) :
    ∀ (k fu n : Nat), k < fu → mo ≤ n + k → n ≤ 255 → 1 ≤ n → f_X2_greedyThemselves_34 fu (nI i) (nI th) (nI mo) (nI n) μ = some (nI (gml vl e i mo th k n), μ) := by
  intro k
  induction k with
  | zero =>
    intro fu n hfu h1 h2 h3
    obtain ⟨fu, rfl⟩ : ∃ g, fu = g + 1 := ⟨fu - 1, by omega⟩
    rw [f_X2_greedyThemselves_34.eq_2, if_pos (by rw [nI_leI (by omega) (by omega)]; omega)]
    rfl
  | succ k ih =>
    intro fu n hfu h1 h2 h3
    obtain ⟨fu, rfl⟩ : ∃ g, fu = g + 1 := ⟨fu - 1, by omega⟩
    rw [f_X2_greedyThemselves_34.eq_2, gml]
    unfold f_X2_greedyThemselves_59
    by_cases q : mo ≤ n
    · rw [if_pos (by rw [nI_leI (by omega) (by omega)]; exact q), if_neg (fun z => by omega)]
    · have hl := lk_le' (vl := vl) (e := e) (i := i + n) (by omega)
      rw [if_neg (by rw [nI_leI (by omega) (by omega)]; exact q), nI_add, jin_n (by omega) (by omega), nI_clamp (by omega), ha (i + n) (by omega) (by omega)]
      by_cases q2 : th ≤ lk vl e (i + n)
      · rw [if_pos (by rw [nI_leI (by omega) (by omega)]; exact q2), if_neg (fun z => by omega)]
      · rw [if_neg (by rw [nI_leI (by omega) (by omega)]; exact q2), jl_1, nI_add, jlet_e, if_pos ⟨by omega, by omega⟩]
        exact ih fu (n + 1) (by omega) (by omega) (by omega) (by omega)
theorem gmo_b {f : Nat} {vl : Nat → Nat} {fr e i : Nat} (h : i < rst f vl fr e) : 1 ≤ gmo f vl fr e i ∧ gmo f vl fr e i ≤ mst f ∧ i + gmo f vl fr e i ≤ rst f vl fr e := by
  have := mst_le f
  unfold gmo
  omega
theorem gm_b {f : Nat} {vl : Nat → Nat} {fr e i : Nat} (h : i < rst f vl fr e) : 1 ≤ gm f vl fr e i ∧ gm f vl fr e i ≤ mst f ∧ i + gm f vl fr e i ≤ rst f vl fr e := by
  have h1 := gmo_b h
  have h2 := gml_b (vl := vl) (e := e) (i := i) (mo := gmo f vl fr e i) (th := gth f) 255 1 h1.1
  unfold gm
  omega
theorem s_greedyThem {μ : jM} {f U W M D fr e i : Nat} {vl : Nat → Nat} (hb : CB f U W M D) (hc : CF μ f U W M D) (hme : ME μ f vl fr e) (he : e ≤ 240) (hfi : fr ≤ i) (hi : i < rst f vl fr e) : f_X2_greedyThemselves (nI i) μ = some (nI (gm f vl fr e i), μ) := by
  have hf := hb.1
  have hr := rst_le (f := f) (vl := vl) (fr := fr) (e := e)
  have hmo := gmo_b hi
  have hms := mst_le f
  have go : ∀ th, th = gth f → f_X2_greedyThemselves_16 (nI i) (nI th) μ = some (nI (gm f vl fr e i), μ) := by
    intro th hth
    unfold f_X2_greedyThemselves_16
    rw [s_mostThem hb hc, jcall_s, hme.2.1, pk_sub (by omega), nI_min (by omega) (by omega), jlet_e, jl_1]
    have : th ≤ 3 := by rw [hth]; unfold gth; split <;> omega
    have L := s_gml (μ := μ) (fr := fr) (mo := gmo f vl fr e i) (th := th) (vl := vl) he (by omega) (by omega) hfi this hme.2.2 255 jFU 1 (by unfold jFU; omega) (by omega) (by omega) (by omega)
    rw [hth] at L ⊢
    exact L
  unfold f_X2_greedyThemselves
  rw [hc.1]
  by_cases q : f = 2
  · rw [if_pos (by rw [q]; decide), jl_3]
    exact go 3 (by unfold gth; rw [if_pos q])
  · rw [if_neg (by rw [jl_2, nI_eq (by omega) (by omega)]; exact q), jl_2]
    exact go 2 (by unfold gth; rw [if_neg q])
theorem s_takesRun {μ : jM} {f U W M D m e i : Nat} {vl : Nat → Nat} (hb : CB f U W M D) (hc : CF μ f U W M D) (hv : UV μ m vl) (hm : m ≤ 240) (hem : e ≤ m) (hi : i < e) : f_X2_greedyTakesRun (nI i) (nI (RR f vl e i)) μ = some (if gtr f U M vl e i then nI 1 else nI 0, μ) := by
  obtain ⟨hf, hU, hW1, hW2, hM, hD, h2⟩ := id hb
  obtain ⟨r1, r2, r3⟩ := RR_b (f := f) (vl := vl) hi
  have hRU : RR f vl e i * U ≤ 240 * 4 := Nat.mul_le_mul (by omega) (by omega)
  unfold f_X2_greedyTakesRun f_X2_greedyTakesRun_56
  rw [hc.1, hc.2.1]
  rcases f3 hb with q | q | q
  · have e1 : rc f U = 2 + U := by unfold rc; rw [if_pos q]
    rw [if_pos (by rw [q]; decide), s_lengthRun hb hc, jcall_s, pk_mul, e1]
    by_cases q1 : 2 + U < RR f vl e i * U
    · rw [if_pos (by rw [nI_ltI (by omega) (by omega)]; exact q1), if_pos (Or.inl ⟨q, Or.inl q1⟩), jl_1, jbl_1]
    · rw [if_neg (by rw [nI_ltI (by omega) (by omega)]; exact q1), s_begins hb hc hv (by omega) hm, jcall_s]
      by_cases q2 : mkd f U M vl i
      · rw [if_pos q2, if_neg (by decide), if_pos (Or.inl ⟨q, Or.inr q2⟩), jl_1, jbl_1]
      · rw [if_neg q2, if_pos (by decide), if_neg (fun z => by
          rcases z with z | z | z
          · exact z.2.elim q1 q2
          · omega
          · omega), jl_0, jbl_0]
  · rw [if_neg (by rw [q]; decide), if_pos (by rw [q]; decide)]
    by_cases q1 : 1 < RR f vl e i
    · rw [if_neg (by rw [jl_1, nI_leI (by omega) (by omega)]; omega), if_pos (Or.inr (Or.inl ⟨q, q1⟩)), jl_1, jbl_1]
    · rw [if_pos (by rw [jl_1, nI_leI (by omega) (by omega)]; omega), if_neg (fun z => by omega), jl_0, jbl_0]
  · rw [if_neg (by rw [q]; decide), if_neg (by rw [q]; decide)]
    by_cases q1 : 2 < RR f vl e i
    · rw [if_neg (by rw [jl_2, nI_leI (by omega) (by omega)]; omega), if_pos (Or.inr (Or.inr ⟨q, q1⟩)), jl_1, jbl_1]
    · rw [if_pos (by rw [jl_2, nI_leI (by omega) (by omega)]; omega), if_neg (fun z => by omega), jl_0, jbl_0]
theorem s_chooseGreedy {μ : jM} {f U W M D m fr e i : Nat} {vl : Nat → Nat} (hb : CB f U W M D) (hc : CF μ f U W M D) (hv : UV μ m vl) (hme : ME μ f vl fr e) (hm : m ≤ 240) (hem : e ≤ m) (hfi : fr ≤ i) (hi : i < e) :
    ∃ μ', f_X2_chooseGreedy (nI i) μ = some ((), μ') ∧ FO i μ μ' ∧ μ'.1 12 i = nI (gso f U M vl fr e i) ∧ μ'.1 13 i = nI (gct f U M vl fr e i) := by
  have hr := rst_le (f := f) (vl := vl) (fr := fr) (e := e)
  have hl3 : lst f ≤ 3 := by unfold lst; split <;> omega
  have hms := mst_le f
  unfold f_X2_chooseGreedy gso gct
  rw [s_runAt hb hc (hme.2.2 i hfi hi) hi (by omega), jcall_s, hme.2.1]
  by_cases q : i < rst f vl fr e
  · rw [if_pos (by rw [nI_ltI (by omega) (by omega)]; exact q), if_neg (show ¬ rst f vl fr e ≤ i by omega), if_neg (show ¬ rst f vl fr e ≤ i by omega), s_takesRun hb hc hv hm hem hi, jcall_s]
    by_cases q1 : gtr f U M vl e i
    · obtain ⟨μ1, e1, g1, k1, k2, k3⟩ := s_choose (μ := μ) (i := i) (by omega) 2 (RR f vl e i)
      rw [if_pos q1, if_pos q1, if_pos q1, if_neg (by decide), jl_2, e1, jcall_s]
      exact ⟨μ1, rfl, g1, k2, k3⟩
    · have hg := gm_b q
      rw [if_neg q1, if_neg q1, if_neg q1, if_pos (by decide), s_greedyThem hb hc hme (by omega) hfi q, jcall_s, s_leastThem hb hc, jcall_s]
      unfold f_X2_chooseGreedy_62 f_X2_chooseGreedy_76 f_X2_chooseGreedy_86
      by_cases q2 : lst f ≤ gm f vl fr e i
      · obtain ⟨μ1, e1, g1, k1, k2, k3⟩ := s_choose (μ := μ) (i := i) (by omega) 1 (gm f vl fr e i)
        rw [if_neg (by rw [nI_ltI (by omega) (by omega)]; omega), if_pos q2, if_pos q2, if_neg (by decide), if_neg (by decide), jl_1, e1, jcall_s]
        exact ⟨μ1, rfl, g1, k2, k3⟩
      · obtain ⟨μ1, e1, g1, k1, k2, k3⟩ := s_choose (μ := μ) (i := i) (by omega) 2 1
        rw [if_pos (by rw [nI_ltI (by omega) (by omega)]; omega), if_neg q2, if_neg q2, if_pos rfl, if_pos rfl, jl_1, jl_2, e1, jcall_s]
        exact ⟨μ1, rfl, g1, k2, k3⟩
  · obtain ⟨μ1, e1, g1, k1, k2, k3⟩ := s_choose (μ := μ) (i := i) (by omega) 0 0
    rw [if_neg (by rw [nI_ltI (by omega) (by omega)]; exact q), if_pos (show rst f vl fr e ≤ i by omega), if_pos (show rst f vl fr e ≤ i by omega), jl_0, e1, jcall_s]
    exact ⟨μ1, rfl, g1, k2, k3⟩
/-- the pieces from here on -/
def pcs (f U M : Nat) (vl so ct : Nat → Nat) (e : Nat) : Nat → Nat → List Nat
  | 0, _ => []
  | k + 1, i => if e ≤ i ∨ so i = 0 then [] else enc f U M vl i (so i) (ct i) ++ pcs f U M vl so ct e k (i + ct i)
theorem pcs_end {f U M : Nat} {vl so ct : Nat → Nat} {e k i : Nat} (h : e ≤ i ∨ so i = 0) : pcs f U M vl so ct e k i = [] ∨ k = 0 := by
  cases k with
  | zero => exact Or.inr rfl
  | succ k => rw [pcs, if_pos h]; exact Or.inl rfl
theorem pcs_nil {f U M : Nat} {vl so ct : Nat → Nat} {e k i : Nat} (h : e ≤ i ∨ so i = 0) : pcs f U M vl so ct e k i = [] := by
  cases k with
  | zero => rfl
  | succ k => rw [pcs, if_pos h]
/-- choices that can be laid down -/
def VC (f : Nat) (fr e : Nat) (so ct : Nat → Nat) : Prop := ∀ i, fr ≤ i → i < e → so i = 0 ∨ ((so i = 1 ∨ so i = 2) ∧ 1 ≤ ct i ∧ ct i ≤ 255 ∧ i + ct i ≤ e ∧ (f = 1 → so i = 2 → 2 ≤ ct i ∧ ct i ≤ 128) ∧ (f = 2 → so i = 1 → 3 ≤ ct i))
def KK (f U : Nat) : Nat := if f = 0 then 2 + U else if f = 1 then 1 + U else 2
theorem enc_len {f U W M D : Nat} {vl : Nat → Nat} {i so n : Nat} (hb : CB f U W M D) (hs : so = 1 ∨ so = 2) (hn : 1 ≤ n) (h3 : f = 2 → so = 1 → 3 ≤ n) : (enc f U M vl i so n).length ≤ KK f U * n := by
  obtain ⟨hf, hU, hW1, hW2, hM, hD, h2⟩ := id hb
  unfold enc KK
  have hUn : U * 1 ≤ U * n := Nat.mul_le_mul_left U hn
  rcases hs with s | s <;> rw [s]
  · rw [if_neg (by decide), List.length_append, List.length_append, es_len]
    unfold hdT tlT
    rcases f3 hb with q | q | q
    · rw [if_pos q, if_pos q, if_neg (fun z => by omega), Nat.add_mul, Nat.mul_comm n U]
      simp
    · rw [if_neg (by omega), if_pos q, if_neg (by omega), if_pos q, if_neg (fun z => by omega), Nat.add_mul, Nat.mul_comm n U]
      simp
      omega
    · obtain ⟨u1, -⟩ := h2 q
      have := h3 q s
      have n0 : ¬ f = 0 := by omega
      have n1 : ¬ f = 1 := by omega
      simp only [if_neg n0, if_neg n1]
      rw [u1]
      by_cases z : n % 2 = 1
      · rw [if_pos ⟨q, z⟩]; simp; omega
      · rw [if_neg (fun y => z y.2)]; simp; omega
  · rw [if_pos rfl, List.length_append, eu_len]
    unfold hdR
    rcases f3 hb with q | q | q
    · rw [if_pos q, if_pos q, Nat.add_mul]
      simp
      omega
    · rw [if_neg (by omega), if_pos q, if_neg (by omega), if_pos q, Nat.add_mul]
      simp
      omega
    · obtain ⟨u1, -⟩ := h2 q
      have n0 : ¬ f = 0 := by omega
      have n1 : ¬ f = 1 := by omega
      simp only [if_neg n0, if_neg n1]
      rw [u1]
      simp
      omega
theorem pcs_len {f U W M D : Nat} {vl so ct : Nat → Nat} {fr e : Nat} (hb : CB f U W M D) (hvc : VC f fr e so ct) : ∀ (k i : Nat), fr ≤ i → i ≤ e → (pcs f U M vl so ct e k i).length ≤ KK f U * (e - i)
  | 0, i, _, _ => by rw [pcs]; simp
  | k + 1, i, h, h' => by
    rw [pcs]
    by_cases q : e ≤ i ∨ so i = 0
    · rw [if_pos q]; simp
    · rw [if_neg q, List.length_append]
      rcases hvc i h (by omega) with z | ⟨a1, a2, a3, a4, a5, a6⟩
      · exact absurd (Or.inr z) q
      · have h1 := enc_len (vl := vl) (i := i) hb a1 a2 a6
        have h2 := pcs_len (vl := vl) hb hvc k (i + ct i) (by omega) a4
        have h3 : KK f U * (e - i) = KK f U * ct i + KK f U * (e - (i + ct i)) := by
          rw [← Nat.mul_add]
          congr 1
          omega
        omega
/-- the class lays the pieces of a stretch -/
theorem s_pieces_loop {μ0 : jM} {f U W M D m fr e how : Nat} {vl so ct : Nat → Nat} (hb : CB f U W M D) (hc : CF μ0 f U W M D) (hv : UV μ0 m vl) (hm : m ≤ 240) (hem : e ≤ m) (hhow : how ≤ 1) (h6 : μ0.1 6 8 = nI e) (hvc : VC f fr e so ct) {J : jM → Prop} (hJ : ∀ μ μ', J μ → Fr [7, 8] μ μ' → J μ')
    (hst : ∀ (i : Nat) (μ : jM), fr ≤ i → i < e → Fr [7, 8, 11, 12, 13] μ0 μ → J μ → ∃ μ1, (how = 0 → f_X2_chooseGreedy (nI i) μ = some ((), μ1)) ∧ (how ≠ 0 → μ1 = μ) ∧ Fr [11, 12, 13] μ μ1 ∧ J μ1 ∧ μ1.1 12 i = nI (so i) ∧ μ1.1 13 i = nI (ct i)) :
    ∀ (k fu i p : Nat) (μ : jM) (l : List Nat), k < fu → e ≤ i + k → fr ≤ i → i ≤ e → p + (e - i) ≤ 240 → OL μ l → l.length + KK f U * (e - i) ≤ 990 → Fr [7, 8, 11, 12, 13] μ0 μ → J μ →
    ∃ μ', f_X2_addPieces_5 fu (nI how) (nI i) (nI p) μ = some ((), μ') ∧ OL μ' (l ++ pcs f U M vl so ct e k i) ∧ Fr [7, 8, 11, 12, 13] μ0 μ' := by
  intro k
  induction k with
  | zero =>
    intro fu i p μ l hfu hk hfi hie hp hl hll hfr hj
    obtain ⟨fu, rfl⟩ : ∃ g, fu = g + 1 := ⟨fu - 1, by omega⟩
    refine ⟨μ, ?_, by rw [pcs, List.append_nil]; exact hl, hfr⟩
    rw [f_X2_addPieces_5.eq_2, hfr.at (by decide), h6, if_pos (show nI e ≤ nI i by rw [nI_leI (by omega) (by omega)]; omega)]
    split <;> rfl
  | succ k ih =>
    intro fu i p μ l hfu hk hfi hie hp hl hll hfr hj
    obtain ⟨fu, rfl⟩ : ∃ g, fu = g + 1 := ⟨fu - 1, by omega⟩
    by_cases q : e ≤ i
    · refine ⟨μ, ?_, by rw [pcs_nil (Or.inl q), List.append_nil]; exact hl, hfr⟩
      rw [f_X2_addPieces_5.eq_2, hfr.at (by decide), h6, if_pos (show nI e ≤ nI i by rw [nI_leI (by omega) (by omega)]; omega)]
      split <;> rfl
    · obtain ⟨μ1, a1, a2, a3, a4, a5, a6⟩ := hst i μ hfi (by omega) hfr hj
      have hfr1 : Fr [7, 8, 11, 12, 13] μ0 μ1 := hfr.tr (a3.up (by decide))
      have hl1 : OL μ1 l := OC_fr hl a3 (by decide) (by decide)
      have key : ∃ μ', f_X2_addPieces_30 (fun x2 x3 x4 μ => f_X2_addPieces_5 fu x2 x3 x4 μ) (nI how) (nI i) (nI p) μ1 = some ((), μ') ∧ OL μ' (l ++ pcs f U M vl so ct e (k + 1) i) ∧ Fr [7, 8, 11, 12, 13] μ0 μ' := by
        unfold f_X2_addPieces_30
        rw [jin_n (by omega) (by omega), nI_clamp (by omega), a5]
        by_cases z : so i = 0
        · rw [if_pos (by rw [z]; decide)]
          exact ⟨μ1, rfl, by rw [pcs_nil (Or.inr z), List.append_nil]; exact hl1, hfr1⟩
        · rcases hvc i hfi (by omega) with w | ⟨w1, w2, w3, w4, w5, w6⟩
          · exact absurd w z
          · have hlen := enc_len (vl := vl) (i := i) hb w1 w2 w6
            have h3 : KK f U * (e - i) = KK f U * ct i + KK f U * (e - (i + ct i)) := by
              rw [← Nat.mul_add]
              congr 1
              omega
            obtain ⟨μ2, b1, b2, b3⟩ := s_addPiece hb (hc.fr hfr1 (by decide)) (hv.fr hfr1 (by decide)) hm hl1 a5 a6 w1 ⟨w2, w3⟩ (by omega) w5 (by omega)
            obtain ⟨μ', c1, c2, c3⟩ := ih fu (i + ct i) (p + 1) μ2 (l ++ enc f U M vl i (so i) (ct i)) (by omega) (by omega) (by omega) w4 (by omega) b2 (by rw [List.length_append]; omega) (hfr1.tr (b3.up (by decide))) (hJ _ _ a4 b3)
            have e13 : μ2.1 13 i = nI (ct i) := by rw [b3.at (by decide)]; exact a6
            refine ⟨μ', ?_, ?_, c3⟩
            · rw [if_neg (by rw [jl_0, nI_eq (by omega) (by omega)]; exact z), b1, jcall_s, jin_n (by omega) (by omega), e13, nI_add, jlet_e, jl_1, nI_add, jlet_e]
              exact c1
            · rw [pcs, if_neg (fun y => y.elim q z), ← List.append_assoc]
              exact c2
      rw [f_X2_addPieces_5.eq_2, jl_240, if_neg (by rw [nI_leI (by omega) (by omega)]; omega), hfr.at (by decide), h6, if_neg (by rw [nI_leI (by omega) (by omega)]; omega)]
      by_cases y : how = 0
      · rw [if_pos (by rw [y]; decide), a1 y, jcall_s]
        exact key
      · rw [if_neg (by rw [jl_0, nI_eq (by omega) (by omega)]; exact y)]
        rw [a2 y] at key
        exact key
