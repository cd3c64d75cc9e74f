/-! packing: what is laid down, as a list of bytes, in both -/
def OL (μ : jM) (l : List Nat) : Prop := OC μ 7 1000 l.length (fun i => l.getD i 0)
def ML (ν : jM) (l : List Nat) : Prop := MR ν 18 6 1000 l.length (fun i => l.getD i 0)
theorem getD_app1 {l : List Nat} {v i : Nat} (h : i < l.length + 1) : (l ++ [v]).getD i 0 = if i = l.length then v else l.getD i 0 := by
  by_cases hi : i = l.length
  · subst hi
    rw [if_pos rfl]
    simp
  · rw [if_neg hi, List.getD_eq_getElem?_getD, List.getD_eq_getElem?_getD, List.getElem?_append_left (by omega)]
theorem s_addO {μ : jM} {l : List Nat} {x : Int32} {v : Nat} (h : OL μ l) (hl : l.length < 1000) (hv : v < 256) (hx : x.toInt8.toInt32 = jb v) : ∃ μ', f_X0_add 7 1000 x μ = some ((), μ') ∧ OL μ' (l ++ [v]) ∧ Fr [7, 8] μ μ' := by
  refine ⟨_, s_add h hl x, ?_, (Fr.I _ _ _ (by decide)).tr (Fr.I _ _ _ (by decide))⟩
  rw [hx]
  have := OC_add h hl hv
  unfold OL
  rw [List.length_append]
  exact OC_congr this (fun i hi => getD_app1 hi)
theorem s_addN {μ : jM} {l : List Nat} {v : Nat} (h : OL μ l) (hl : l.length < 1000) (hv : v < 256) : ∃ μ', f_X0_add 7 1000 (nI v) μ = some ((), μ') ∧ OL μ' (l ++ [v]) ∧ Fr [7, 8] μ μ' := s_addO h hl hv rfl
/-- bytes of a unit -/
def eu (U v : Nat) : Nat → List Nat
  | 0 => []
  | k + 1 => eu U v k ++ [dgt v (U - 1 - k)]
theorem eu_len (U v : Nat) : ∀ k, (eu U v k).length = k
  | 0 => rfl
  | k + 1 => by rw [eu, List.length_append, eu_len U v k]; rfl
theorem s_addUnit_loop {μ0 : jM} {f U W M D v : Nat} {l : List Nat} (hb : CB f U W M D) (hc : CF μ0 f U W M D) (hl : l.length + U ≤ 1000) : ∀ (j fu k : Nat) (μ : jM), j < fu → k + j = U → OL μ (l ++ eu U v k) → Fr [7, 8] μ0 μ → ∃ μ', f_X2_addUnit_2 fu (nI v) (nI k) μ = some ((), μ') ∧ OL μ' (l ++ eu U v U) ∧ Fr [7, 8] μ0 μ' := by
  have hU := hb.2.1
  intro j
  induction j with
  | zero =>
    intro fu k μ hf hk h hfr
    obtain ⟨fu, rfl⟩ : ∃ g, fu = g + 1 := ⟨fu - 1, by omega⟩
    obtain rfl : k = U := by omega
    have hcf := hc.of (hfr.1 1 (by decide))
    refine ⟨μ, ?_, h, hfr⟩
    rw [f_X2_addUnit_2.eq_2, hcf.2.1, if_pos (by rw [nI_leI (by omega) (by omega)]; omega)]
  | succ j ih =>
    intro fu k μ hf hk h hfr
    obtain ⟨fu, rfl⟩ : ∃ g, fu = g + 1 := ⟨fu - 1, by omega⟩
    have hcf := hc.of (hfr.1 1 (by decide))
    obtain ⟨μ1, e1, h1, g1⟩ := s_addN (v := dgt v (U - 1 - k)) h (by rw [List.length_append, eu_len]; omega) (dgt_lt _ _)
    obtain ⟨μ', e, h', g'⟩ := ih fu (k + 1) μ1 (by omega) (by omega) (by rw [eu, ← List.append_assoc]; exact h1) (hfr.tr g1)
    refine ⟨μ', ?_, h', g'⟩
    rw [f_X2_addUnit_2.eq_2, hcf.2.1, if_neg (by rw [nI_leI (by omega) (by omega)]; omega), s_byteOf hb hcf (by omega), jcall_s, e1, jcall_s, jl_1, nI_add, jlet_e]
    exact e
theorem s_addUnit {μ : jM} {f U W M D v : Nat} {l : List Nat} (hb : CB f U W M D) (hc : CF μ f U W M D) (h : OL μ l) (hl : l.length + U ≤ 1000) : ∃ μ', f_X2_addUnit (nI v) μ = some ((), μ') ∧ OL μ' (l ++ eu U v U) ∧ Fr [7, 8] μ μ' := by
  have hU := hb.2.1
  unfold f_X2_addUnit
  rw [jl_0]
  exact s_addUnit_loop hb hc hl U jFU 0 μ (by unfold jFU; omega) (by omega) (by simpa [eu] using h) Fr.rf
/-- units by themselves -/
def es (U : Nat) (vl : Nat → Nat) (i : Nat) : Nat → List Nat
  | 0 => []
  | k + 1 => es U vl i k ++ eu U (vl (i + k)) U
theorem es_len (U : Nat) (vl : Nat → Nat) (i : Nat) : ∀ k, (es U vl i k).length = k * U
  | 0 => by simp [es]
  | k + 1 => by rw [es, List.length_append, es_len U vl i k, eu_len, Nat.succ_mul]
def hdR (f M n : Nat) : List Nat := if f = 0 then [M, n] else if f = 1 then [257 - n] else [n]
def hdT (f n : Nat) : List Nat := if f = 0 then [] else if f = 1 then [n - 1] else [0, n]
def tlT (f n : Nat) : List Nat := if f = 2 ∧ n % 2 = 1 then [0] else []
/-- a piece: sort 2 a run of n, else n by themselves -/
def enc (f U M : Nat) (vl : Nat → Nat) (i so n : Nat) : List Nat := if so = 2 then hdR f M n ++ eu U (vl i) U else hdT f n ++ es U vl i n ++ tlT f n
theorem j257 : ∀ n, n < 129 → 2 ≤ n → (1 - nI n).toInt8.toInt32 = jb (257 - n) := by decide +kernel
theorem m257 : ∀ n, n < 129 → 2 ≤ n → (1 - nI n) &&& 255 = nI (257 - n) := by decide +kernel
theorem s_runHead {μ : jM} {f U W M D n : Nat} {l : List Nat} (hb : CB f U W M D) (hc : CF μ f U W M D) (h : OL μ l) (hl : l.length + 2 ≤ 1000) (hn : n ≤ 255) (hn1 : f = 1 → 2 ≤ n ∧ n ≤ 128) : ∃ μ', f_X2_addRunHead (nI n) μ = some ((), μ') ∧ OL μ' (l ++ hdR f M n) ∧ Fr [7, 8] μ μ' := by
  obtain ⟨hf, hU, hW1, hW2, hM, hD, h2⟩ := id hb
  unfold f_X2_addRunHead f_X2_addRunHead_46 hdR
  rw [hc.1]
  rcases (show f = 0 ∨ f = 1 ∨ f = 2 by omega) with q | q | q
  · obtain ⟨μ1, e1, h1, g1⟩ := s_addN (v := M) h (by omega) (by omega)
    obtain ⟨μ2, e2, h2', g2⟩ := s_addN (v := n) h1 (by rw [List.length_append]; simp; omega) (by omega)
    rw [q, if_neg (show ¬ nI 0 = 1 by decide), if_pos (show nI 0 = 0 by decide), if_pos rfl, hc.2.2.2.1, e1, jcall_s, e2, jcall_s]
    exact ⟨μ2, rfl, by simpa using h2', g1.tr g2⟩
  · obtain ⟨a1, a2⟩ := hn1 q
    obtain ⟨μ1, e1, h1, g1⟩ := s_addO (v := 257 - n) (x := 1 - nI n) h (by omega) (by omega) (j257 n (by omega) a1)
    rw [q, if_pos (show nI 1 = 1 by decide), if_neg (by decide), if_pos rfl, e1, jcall_s]
    exact ⟨μ1, rfl, h1, g1⟩
  · obtain ⟨μ1, e1, h1, g1⟩ := s_addN (v := n) h (by omega) (by omega)
    rw [q, if_neg (show ¬ nI 2 = 1 by decide), if_neg (show ¬ nI 2 = 0 by decide), if_neg (by decide), if_neg (by decide), e1, jcall_s]
    exact ⟨μ1, rfl, h1, g1⟩
theorem s_themHead {μ : jM} {f U W M D n : Nat} {l : List Nat} (hb : CB f U W M D) (hc : CF μ f U W M D) (h : OL μ l) (hl : l.length + 2 ≤ 1000) (hn : n ≤ 255) (hn1 : 1 ≤ n) : ∃ μ', f_X2_addThemselvesHead (nI n) μ = some ((), μ') ∧ OL μ' (l ++ hdT f n) ∧ Fr [7, 8] μ μ' := by
  obtain ⟨hf, hU, hW1, hW2, hM, hD, h2⟩ := id hb
  unfold f_X2_addThemselvesHead hdT
  rw [hc.1]
  rcases (show f = 0 ∨ f = 1 ∨ f = 2 by omega) with q | q | q
  · rw [q, if_neg (show ¬ nI 0 = 1 by decide), if_neg (show ¬ nI 0 = 2 by decide), if_pos rfl]
    exact ⟨μ, rfl, by simpa using h, Fr.rf⟩
  · obtain ⟨μ1, e1, h1, g1⟩ := s_addN (v := n - 1) h (by omega) (by omega)
    rw [q, if_pos (show nI 1 = 1 by decide), if_neg (by decide), if_pos rfl, jl_1, pk_sub hn1, e1, jcall_s]
    exact ⟨μ1, rfl, h1, g1⟩
  · obtain ⟨μ1, e1, h1, g1⟩ := s_addN (v := 0) h (by omega) (by omega)
    obtain ⟨μ2, e2, h2', g2⟩ := s_addN (v := n) h1 (by rw [List.length_append]; simp; omega) (by omega)
    rw [q, if_neg (show ¬ nI 2 = 1 by decide), if_pos (show nI 2 = 2 by decide), if_neg (by decide), if_neg (by decide), jl_0, e1, jcall_s, e2, jcall_s]
    exact ⟨μ2, rfl, by simpa using h2', g1.tr g2⟩
/-- the values of the units, as the class has them in its row -/
def UV (μ : jM) (m : Nat) (vl : Nat → Nat) : Prop := ∀ i, i < m → μ.1 9 i = nI (vl i)
theorem s_themLoop {μ0 : jM} {f U W M D n i m : Nat} {vl : Nat → Nat} {l : List Nat} (hb : CB f U W M D) (hc : CF μ0 f U W M D) (hv : UV μ0 m vl) (him : i + n ≤ m) (hm : m ≤ 240) (hl : l.length + n * U + 1 ≤ 1000) (hn : n ≤ 255) : ∀ (j fu k : Nat) (μ : jM), j < fu → k + j = n → OL μ (l ++ es U vl i k) → Fr [7, 8] μ0 μ → ∃ μ', f_X2_addPiece_40 fu (nI i) (nI n) (nI k) μ = some ((), μ') ∧ OL μ' (l ++ es U vl i n ++ tlT f n) ∧ Fr [7, 8] μ0 μ' := by
  obtain ⟨hf, hU, hW1, hW2, hM, hD, h2⟩ := id hb
  intro j
  induction j with
  | zero =>
    intro fu k μ hfu hk h hfr
    obtain ⟨fu, rfl⟩ : ∃ g, fu = g + 1 := ⟨fu - 1, by omega⟩
    obtain rfl : k = n := by omega
    have hcf := hc.of (hfr.1 1 (by decide))
    rw [f_X2_addPiece_40.eq_2, if_pos (by rw [nI_leI (by omega) (by omega)]; omega), hcf.1, jl_1, nI_and1 (by omega)]
    unfold tlT
    by_cases q : f = 2
    · rw [if_pos (by rw [q]; decide)]
      by_cases q2 : k % 2 = 1
      · obtain ⟨μ1, e1, h1, g1⟩ := s_addN (v := 0) h (by rw [List.length_append, es_len]; omega) (by omega)
        rw [if_pos (by rw [q2]), jl_0, e1, jcall_s, if_pos ⟨q, q2⟩]
        exact ⟨μ1, rfl, h1, hfr.tr g1⟩
      · rw [if_neg (by rw [nI_eq (by omega) (by omega)]; exact q2), if_neg (fun z => q2 z.2)]
        exact ⟨μ, rfl, by simpa using h, hfr⟩
    · rw [if_neg (by rw [jl_2, nI_eq (by omega) (by omega)]; exact q), if_neg (fun z => q z.1)]
      exact ⟨μ, rfl, by simpa using h, hfr⟩
  | succ j ih =>
    intro fu k μ hfu hk h hfr
    obtain ⟨fu, rfl⟩ : ∃ g, fu = g + 1 := ⟨fu - 1, by omega⟩
    have hcf := hc.of (hfr.1 1 (by decide))
    have hkU : (k + 1) * U ≤ n * U := Nat.mul_le_mul_right U (by omega)
    rw [Nat.succ_mul] at hkU
    obtain ⟨μ1, e1, h1, g1⟩ := s_addUnit (v := vl (i + k)) hb hcf h (by rw [List.length_append, es_len]; omega)
    obtain ⟨μ', e, h', g'⟩ := ih fu (k + 1) μ1 (by omega) (by omega) (by rw [es, ← List.append_assoc]; exact h1) (hfr.tr g1)
    refine ⟨μ', ?_, h', g'⟩
    have e9 : μ.1 9 (i + k) = nI (vl (i + k)) := by rw [hfr.at (by decide)]; exact hv _ (by omega)
    rw [f_X2_addPiece_40.eq_2, if_neg (by rw [nI_leI (by omega) (by omega)]; omega), nI_add, jin_n (by omega) (by omega), nI_clamp (by omega), e9, e1, jcall_s, jl_1, nI_add, jlet_e]
    exact e
/-- the class lays a piece -/
theorem s_addPiece {μ : jM} {f U W M D so n i m : Nat} {vl : Nat → Nat} {l : List Nat} (hb : CB f U W M D) (hc : CF μ f U W M D) (hv : UV μ m vl) (hm : m ≤ 240) (h : OL μ l) (e12 : μ.1 12 i = nI so) (e13 : μ.1 13 i = nI n) (hso : so = 1 ∨ so = 2) (hn : 1 ≤ n ∧ n ≤ 255) (him : i + n ≤ m) (hn1 : f = 1 → so = 2 → 2 ≤ n ∧ n ≤ 128) (hl : l.length + (enc f U M vl i so n).length ≤ 996) : ∃ μ', f_X2_addPiece (nI i) μ = some ((), μ') ∧ OL μ' (l ++ enc f U M vl i so n) ∧ Fr [7, 8] μ μ' := by
  obtain ⟨hf, hU, hW1, hW2, hM, hD, h2⟩ := id hb
  unfold f_X2_addPiece
  rw [jin_n (by omega) (by omega), nI_clamp (by omega), e13, jlet_e, jin_n (by omega) (by omega), e12]
  unfold enc at hl ⊢
  rcases hso with q | q
  · rw [q] at hl ⊢
    rw [if_neg (by decide)] at hl
    rw [if_neg (show ¬ nI 1 = 2 by decide), if_neg (by decide)]
    rw [List.length_append, List.length_append, es_len] at hl
    obtain ⟨μ1, e1, h1, g1⟩ := s_themHead (n := n) hb hc h (by omega) hn.2 hn.1
    obtain ⟨μ', e, h', g'⟩ := s_themLoop (n := n) (i := i) (vl := vl) (l := l ++ hdT f n) hb (hc.of (g1.1 1 (by decide))) (fun z hz => by rw [g1.at (by decide)]; exact hv z hz) him hm (by rw [List.length_append]; omega) hn.2 n jFU 0 μ1 (by unfold jFU; omega) (by omega) (by simpa [es] using h1) Fr.rf
    rw [e1, jcall_s, jl_0]
    refine ⟨μ', e, ?_, g1.tr g'⟩
    simpa [List.append_assoc] using h'
  · rw [q] at hl ⊢
    rw [if_pos rfl] at hl
    rw [if_pos (show nI 2 = 2 by decide), if_pos rfl]
    rw [List.length_append, eu_len] at hl
    obtain ⟨μ1, e1, h1, g1⟩ := s_runHead (n := n) hb hc h (by omega) hn.2 (fun z => hn1 z q)
    have e9 : μ1.1 9 i = nI (vl i) := by rw [g1.at (by decide)]; exact hv _ (by omega)
    obtain ⟨μ', e, h', g'⟩ := s_addUnit (v := vl i) hb (hc.of (g1.1 1 (by decide))) h1 (by rw [List.length_append]; omega)
    rw [e1, jcall_s, jin_n (by omega) (by omega), e9, e, jcall_s]
    exact ⟨μ', rfl, by simpa [List.append_assoc] using h', g1.tr g'⟩
