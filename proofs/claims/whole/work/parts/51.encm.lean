def GF (ν ν' : jM) : Prop := (∀ k, k ≠ 18 → ν'.1 0 k = ν.1 0 k) ∧ (∀ c, c ≠ 0 → c ≠ 6 → ν'.1 c = ν.1 c) ∧ ν'.2 = ν.2
theorem GF.rf {ν : jM} : GF ν ν := ⟨fun _ _ => rfl, fun _ _ _ => rfl, rfl⟩
theorem GF.tr {ν ν1 ν2 : jM} (h : GF ν ν1) (g : GF ν1 ν2) : GF ν ν2 := ⟨fun k hk => (g.1 k hk).trans (h.1 k hk), fun c h0 h6 => (g.2.1 c h0 h6).trans (h.2.1 c h0 h6), g.2.2.trans h.2.2⟩
theorem MF.gf {ν ν' : jM} {f U W M D : Nat} (hm : MF ν f U W M D) (h : GF ν ν') : MF ν' f U W M D := by
  obtain ⟨a1, a2, a3, a4, a5⟩ := hm
  exact ⟨(h.1 0 (by decide)).trans a1, (h.1 1 (by decide)).trans a2, (h.1 2 (by decide)).trans a3, (h.1 3 (by decide)).trans a4, (h.1 4 (by decide)).trans a5⟩
theorem s_lay {ν : jM} {l : List Nat} {x : Int32} {v : Nat} (h : ML ν l) (hl : l.length < 1000) (hv : v < 256) (hx : x &&& 255 = nI v) : ∃ ν', f_X6_lay x ν = some ((), ν') ∧ ML ν' (l ++ [v]) ∧ GF ν ν' := by
  have h18 := h.1
  refine ⟨jsI (jsI ν 6 l.length (nI v)) 0 18 (nI (l.length + 1)), ?_, ?_, fun k hk => ?_, fun c h0 h6 => ?_, rfl⟩
  · unfold f_X6_lay
    rw [h18, jin_n (by omega) (by omega), nI_clamp (by omega), hx, jlet_e, jsI_c _ _ _ (by decide), h18, jl_1, nI_add, jlet_e]
  · unfold ML
    rw [List.length_append]
    refine MR_congr (MR_put h (by decide) hl hv) (fun i hi => ?_)
    rw [getD_app1 hi]
    have hi2 : i < l.length + 1 := hi
    by_cases hin : i < l.length
    · rw [if_pos hin, if_neg (by omega)]
    · rw [if_neg hin, if_pos (by omega)]
  · rw [jsI_k _ _ hk, jsI_c _ _ _ (by decide)]
  · funext k
    rw [jsI_c _ _ _ h0, jsI_c _ _ _ h6]
theorem nI_and255 {v : Nat} (h : v < 256) : nI v &&& 255 = nI v := by
  rw [jl_255, pk_andN (by omega) 8 (by decide +kernel), Nat.mod_eq_of_lt (by omega)]
theorem s_layN {ν : jM} {l : List Nat} {v : Nat} (h : ML ν l) (hl : l.length < 1000) (hv : v < 256) : ∃ ν', f_X6_lay (nI v) ν = some ((), ν') ∧ ML ν' (l ++ [v]) ∧ GF ν ν' := s_lay h hl hv (nI_and255 hv)
theorem l_byte2 {v k : Nat} (hv : v < 4294967296) (hk : k < 4) : (lN v >>> ((nI (8 * k)).toInt64 &&& 63)).toInt32 &&& 255 = nI (dgt v k) := by
  rw [pf_shr (hl8 k hk) (by omega), lN_i, p2_256, jl_255, pk_andN (Nat.lt_of_le_of_lt (Nat.div_le_self _ _) (by omega)) 8 (by decide +kernel)]
  rfl
theorem s_layUnit_loop {ν0 : jM} {U v : Nat} {l : List Nat} (hU : U = 1 ∨ U = 2 ∨ U = 4) (hv : v < 4294967296) (hl : l.length + U ≤ 1000) : ∀ (j fu : Nat) (x3 : Int32) (ν : jM), j < fu → j ≤ U → (j = 0 → x3 = -1) → (0 < j → x3 = nI (j - 1)) → ML ν (l ++ eu U v (U - j)) → GF ν0 ν → ∃ ν', f_X6_layUnit_7 fu (lN v) x3 ν = some ((), ν') ∧ ML ν' (l ++ eu U v U) ∧ GF ν0 ν' := by
  intro j
  induction j with
  | zero =>
    intro fu x3 ν hf hj h0 h1 h hg
    obtain ⟨fu, rfl⟩ : ∃ g, fu = g + 1 := ⟨fu - 1, by omega⟩
    refine ⟨ν, ?_, h, hg⟩
    rw [f_X6_layUnit_7.eq_2, h0 rfl, if_pos (by decide)]
  | succ j ih =>
    intro fu x3 ν hf hj h0 h1 h hg
    obtain ⟨fu, rfl⟩ : ∃ g, fu = g + 1 := ⟨fu - 1, by omega⟩
    have e3 : x3 = nI j := h1 (by omega)
    obtain ⟨ν1, e1, g1, k1⟩ := s_lay (x := (lN v >>> ((nI (8 * j)).toInt64 &&& 63)).toInt32) (v := dgt v j) h (by rw [List.length_append, eu_len]; omega) (dgt_lt _ _) (l_byte2 hv (by omega))
    obtain ⟨ν', e, g', k'⟩ := ih fu (nI j + (-1)) ν1 (by omega) (by omega) (fun z => by rw [z]; decide) (fun z => by rw [sb_m1 z]) (by
      rw [show U - j = (U - (j + 1)) + 1 by omega, eu, ← List.append_assoc, show U - 1 - (U - (j + 1)) = j by omega]
      exact g1) (hg.tr k1)
    refine ⟨ν', ?_, g', k'⟩
    rw [f_X6_layUnit_7.eq_2, e3, if_neg (by rw [jl_0, nI_ltI (by omega) (by omega)]; omega), jl_8, pk_mul, e1, jcall_s, jlet_e]
    exact e
theorem s_layUnit {ν : jM} {f U W M D v : Nat} {l : List Nat} (hb : CB f U W M D) (hm : MF ν f U W M D) (hv : v < 4294967296) (h : ML ν l) (hl : l.length + U ≤ 1000) : ∃ ν', f_X6_layUnit (lN v) ν = some ((), ν') ∧ ML ν' (l ++ eu U v U) ∧ GF ν ν' := by
  have hU := hb.2.1
  unfold f_X6_layUnit
  rw [hm.2.1, jl_1, pk_sub (by omega), jlet_e]
  exact s_layUnit_loop hU hv hl U jFU _ ν (by unfold jFU; omega) (by omega) (by omega) (fun _ => rfl) (by rw [Nat.sub_self, eu, List.append_nil]; exact h) GF.rf
/-- the values of the units, as the reference has them -/
def VL (ν : jM) (m : Nat) (vl : Nat → Nat) : Prop := ∀ i, i < m → ν.2 4 i = lN (vl i)
theorem VL.gf {ν ν' : jM} {m : Nat} {vl : Nat → Nat} (h : VL ν m vl) (g : GF ν ν') : VL ν' m vl := fun i hi => by rw [g.2.2]; exact h i hi
theorem s_layRun {ν : jM} {f U W M D n i m : Nat} {vl : Nat → Nat} {l : List Nat} (hb : CB f U W M D) (hm : MF ν f U W M D) (hV : VL ν m vl) (him : i < m) (hm2 : m ≤ 240) (hvl : ∀ i, i < m → vl i < 256 ^ U) (h : ML ν l) (hn : 1 ≤ n ∧ n ≤ 255) (hn1 : f = 1 → 2 ≤ n ∧ n ≤ 128) (hl : l.length + (enc f U M vl i 2 n).length ≤ 996) : ∃ ν', f_X6_layRun (nI i) (nI n) ν = some ((), ν') ∧ ML ν' (l ++ enc f U M vl i 2 n) ∧ GF ν ν' := by
  obtain ⟨hf, hU, hW1, hW2, hM, hD, h2⟩ := id hb
  have hv4 : vl i < 4294967296 := Nat.lt_of_lt_of_le (hvl i him) (p256_le (by omega))
  unfold enc at hl ⊢
  rw [if_pos rfl] at hl ⊢
  rw [List.length_append, eu_len] at hl
  rcases (show f = 0 ∨ f = 1 ∨ f = 2 by omega) with q | q | q
  · have eh : hdR f M n = [M, n] := by unfold hdR; rw [if_pos q]
    rw [eh] at hl ⊢
    have z0 : nI f = 0 := by rw [q]; decide
    unfold f_X6_layRun
    rw [hm.1]
    simp at hl
    obtain ⟨ν1, e1, g1, k1⟩ := s_layN (v := M) h (by omega) (by omega)
    obtain ⟨ν2, e2, g2, k2⟩ := s_layN (v := n) g1 (by rw [List.length_append]; simp; omega) (by omega)
    have ev : ν2.2 4 i = lN (vl i) := (hV.gf (k1.tr k2)) i him
    obtain ⟨ν3, e3, g3, k3⟩ := s_layUnit hb (hm.gf (k1.tr k2)) hv4 g2 (by rw [List.length_append, List.length_append]; simp; omega)
    rw [if_pos z0, hm.2.2.2.1, e1, jcall_s, e2, jcall_s, jin_n (by omega) (by omega), nI_clamp (by omega), ev, e3, jcall_s]
    exact ⟨ν3, rfl, by simpa [List.append_assoc] using g3, (k1.tr k2).tr k3⟩
  · have n0 : ¬ f = 0 := by omega
    have eh : hdR f M n = [257 - n] := by unfold hdR; rw [if_neg n0, if_pos q]
    rw [eh] at hl ⊢
    have z0 : ¬ nI f = 0 := by rw [q]; decide
    have z1 : nI f = 1 := by rw [q]; decide
    unfold f_X6_layRun
    rw [hm.1]
    simp at hl
    obtain ⟨a1, a2⟩ := hn1 q
    obtain ⟨ν1, e1, g1, k1⟩ := s_lay (x := 1 - nI n) (v := 257 - n) h (by omega) (by omega) (m257 n (by omega) a1)
    have ev : ν1.2 4 i = lN (vl i) := (hV.gf k1) i him
    obtain ⟨ν3, e3, g3, k3⟩ := s_layUnit hb (hm.gf k1) hv4 g1 (by rw [List.length_append]; simp; omega)
    rw [if_neg z0, if_pos z1, e1, jcall_s, jin_n (by omega) (by omega), nI_clamp (by omega), ev, e3, jcall_s]
    exact ⟨ν3, rfl, by simpa [List.append_assoc] using g3, k1.tr k3⟩
  · have n0 : ¬ f = 0 := by omega
    have n1 : ¬ f = 1 := by omega
    have eh : hdR f M n = [n] := by unfold hdR; rw [if_neg n0, if_neg n1]
    rw [eh] at hl ⊢
    have z0 : ¬ nI f = 0 := by rw [q]; decide
    have z1 : ¬ nI f = 1 := by rw [q]; decide
    unfold f_X6_layRun
    rw [hm.1]
    simp at hl
    obtain ⟨u1, -⟩ := h2 q
    obtain ⟨ν1, e1, g1, k1⟩ := s_layN (v := n) h (by omega) (by omega)
    have ev : ν1.2 4 i = lN (vl i) := (hV.gf k1) i him
    have hv1 : vl i < 256 := by have := hvl i him; rw [u1, p256_1] at this; exact this
    obtain ⟨ν3, e3, g3, k3⟩ := s_layN (v := vl i) g1 (by rw [List.length_append]; simp; omega) hv1
    rw [if_neg z0, if_neg z1, e1, jcall_s, jin_n (by omega) (by omega), nI_clamp (by omega), ev, lN_i, e3, jcall_s]
    refine ⟨ν3, rfl, ?_, k1.tr k3⟩
    have e4 : eu U (vl i) U = [vl i] := by
      rw [u1]
      simp only [eu, dgt]
      simp
      omega
    rw [e4]
    simpa [List.append_assoc] using g3
theorem s_layThem_loop {ν0 : jM} {f U W M D n i m : Nat} {vl : Nat → Nat} {l : List Nat} (hb : CB f U W M D) (hm : MF ν0 f U W M D) (hV : VL ν0 m vl) (him : i + n ≤ m) (hm2 : m ≤ 240) (hvl : ∀ i, i < m → vl i < 256 ^ U) (hl : l.length + n * U + 1 ≤ 1000) (hn : n ≤ 255) : ∀ (j fu k : Nat) (ν : jM), j < fu → k + j = n → ML ν (l ++ es U vl i k) → GF ν0 ν → ∃ ν', f_X6_layThemselves_38 fu (nI i) (nI n) (nI k) ν = some ((), ν') ∧ ML ν' (l ++ es U vl i n ++ tlT f n) ∧ GF ν0 ν' := by
  obtain ⟨hf, hU, hW1, hW2, hM, hD, h2⟩ := id hb
  intro j
  induction j with
  | zero =>
    intro fu k ν hfu hk h hg
    obtain ⟨fu, rfl⟩ : ∃ g, fu = g + 1 := ⟨fu - 1, by omega⟩
    obtain rfl : k = n := by omega
    rw [f_X6_layThemselves_38.eq_2, if_pos (by rw [nI_leI (by omega) (by omega)]; omega), (hm.gf hg).1, jl_2, nI_rem2 (by omega), jnz_n (by omega) (by omega)]
    unfold tlT
    by_cases q : f = 2
    · rw [if_pos (by rw [q])]
      by_cases q2 : k % 2 = 1
      · obtain ⟨ν1, e1, g1, k1⟩ := s_layN (v := 0) h (by rw [List.length_append, es_len]; omega) (by omega)
        rw [if_pos (by rw [q2]; decide), jl_0, e1, jcall_s, if_pos ⟨q, q2⟩]
        exact ⟨ν1, rfl, g1, hg.tr k1⟩
      · rw [if_neg (by rw [jl_1, nI_eq (by omega) (by omega)]; exact q2), if_neg (fun z => q2 z.2)]
        exact ⟨ν, rfl, by simpa using h, hg⟩
    · rw [if_neg (by rw [nI_eq (by omega) (by omega)]; exact q), if_neg (fun z => q z.1)]
      exact ⟨ν, rfl, by simpa using h, hg⟩
  | succ j ih =>
    intro fu k ν hfu hk h hg
    obtain ⟨fu, rfl⟩ : ∃ g, fu = g + 1 := ⟨fu - 1, by omega⟩
    have hkU : (k + 1) * U ≤ n * U := Nat.mul_le_mul_right U (by omega)
    rw [Nat.succ_mul] at hkU
    have hv4 : vl (i + k) < 4294967296 := Nat.lt_of_lt_of_le (hvl (i + k) (by omega)) (p256_le (by omega))
    obtain ⟨ν1, e1, g1, k1⟩ := s_layUnit (v := vl (i + k)) hb (hm.gf hg) hv4 h (by rw [List.length_append, es_len]; omega)
    obtain ⟨ν', e, g', k'⟩ := ih fu (k + 1) ν1 (by omega) (by omega) (by rw [es, ← List.append_assoc]; exact g1) (hg.tr k1)
    refine ⟨ν', ?_, g', k'⟩
    have ev : ν.2 4 (i + k) = lN (vl (i + k)) := (hV.gf hg) (i + k) (by omega)
    rw [f_X6_layThemselves_38.eq_2, if_neg (by rw [nI_leI (by omega) (by omega)]; omega), nI_add, jin_n (by omega) (by omega), nI_clamp (by omega), ev, e1, jcall_s, jl_1, nI_add, jlet_e]
    exact e
theorem s_layThem {ν : jM} {f U W M D n i m : Nat} {vl : Nat → Nat} {l : List Nat} (hb : CB f U W M D) (hm : MF ν f U W M D) (hV : VL ν m vl) (him : i + n ≤ m) (hm2 : m ≤ 240) (hvl : ∀ i, i < m → vl i < 256 ^ U) (h : ML ν l) (hn : 1 ≤ n ∧ n ≤ 255) (hl : l.length + (enc f U M vl i 1 n).length ≤ 996) : ∃ ν', f_X6_layThemselves (nI i) (nI n) ν = some ((), ν') ∧ ML ν' (l ++ enc f U M vl i 1 n) ∧ GF ν ν' := by
  obtain ⟨hf, hU, hW1, hW2, hM, hD, h2⟩ := id hb
  unfold enc at hl ⊢
  rw [if_neg (by decide)] at hl ⊢
  rw [List.length_append, List.length_append, es_len] at hl
  have fin : ∀ (ν1 : jM), ML ν1 (l ++ hdT f n) → GF ν ν1 → ∃ ν', f_X6_layThemselves_36 (nI i) (nI n) ν1 = some ((), ν') ∧ ML ν' (l ++ (hdT f n ++ es U vl i n ++ tlT f n)) ∧ GF ν ν' := by
    intro ν1 g1 k1
    obtain ⟨ν', e, g', k'⟩ := s_layThem_loop (n := n) (i := i) (l := l ++ hdT f n) hb (hm.gf k1) (hV.gf k1) him hm2 hvl (by rw [List.length_append]; omega) hn.2 n jFU 0 ν1 (by unfold jFU; omega) (by omega) (by rw [es, List.append_nil]; exact g1) GF.rf
    unfold f_X6_layThemselves_36
    rw [jl_0]
    refine ⟨ν', e, ?_, k1.tr k'⟩
    simpa [List.append_assoc] using g'
  rcases (show f = 0 ∨ f = 1 ∨ f = 2 by omega) with q | q | q
  · have eh : hdT f n = [] := by unfold hdT; rw [if_pos q]
    have z1 : ¬ nI f = 1 := by rw [q]; decide
    have z2 : ¬ nI f = 2 := by rw [q]; decide
    unfold f_X6_layThemselves
    rw [hm.1, if_neg z1, if_neg z2]
    exact fin ν (by rw [eh]; simpa using h) GF.rf
  · have n0 : ¬ f = 0 := by omega
    have eh : hdT f n = [n - 1] := by unfold hdT; rw [if_neg n0, if_pos q]
    have z1 : nI f = 1 := by rw [q]; decide
    obtain ⟨ν1, e1, g1, k1⟩ := s_layN (v := n - 1) h (by omega) (by omega)
    unfold f_X6_layThemselves
    rw [hm.1, if_pos z1, jl_1, pk_sub hn.1, e1, jcall_s]
    exact fin ν1 (by rw [eh]; exact g1) k1
  · have n0 : ¬ f = 0 := by omega
    have n1 : ¬ f = 1 := by omega
    have eh : hdT f n = [0, n] := by unfold hdT; rw [if_neg n0, if_neg n1]
    rw [eh] at hl
    simp at hl
    have z1 : ¬ nI f = 1 := by rw [q]; decide
    have z2 : nI f = 2 := by rw [q]; decide
    obtain ⟨ν1, e1, g1, k1⟩ := s_layN (v := 0) h (by omega) (by omega)
    obtain ⟨ν2, e2, g2, k2⟩ := s_layN (v := n) g1 (by rw [List.length_append]; simp; omega) (by omega)
    unfold f_X6_layThemselves
    rw [hm.1, if_neg z1, if_pos z2, jl_0, e1, jcall_s, e2, jcall_s]
    exact fin ν2 (by rw [eh]; simpa [List.append_assoc] using g2) (k1.tr k2)
