def dgt (x j : Nat) : Nat := x / 256 ^ j % 256
theorem hs8 : ∀ j, j < 4 → (((nI (8 * j)).toUInt32 &&& Int32.toUInt32 31).toBitVec % 32).toNat = 8 * j := by decide +kernel
theorem hl8 : ∀ j, j < 4 → (((nI (8 * j)).toInt64 &&& 63).toBitVec.smod 64).toNat = 8 * j := by decide +kernel
theorem p2_256 (j : Nat) : 2 ^ (8 * j) = 256 ^ j := by rw [Nat.pow_mul]
theorem dgt_m32 (S : Nat) {j : Nat} (hj : j < 4) : S % 4294967296 / 256 ^ j % 256 = dgt S j := by
  unfold dgt
  rcases (show j = 0 ∨ j = 1 ∨ j = 2 ∨ j = 3 by omega) with rfl | rfl | rfl | rfl
  · rw [Nat.pow_zero]; omega
  · rw [p256_1]; omega
  · rw [p256_2]; omega
  · rw [p256_3]; omega
theorem dgt_lt (x j : Nat) : dgt x j < 256 := Nat.mod_lt _ (by decide)
theorem s_byteOf {μ : jM} {f U W M D S k : Nat} (hb : CB f U W M D) (hc : CF μ f U W M D) (hk : k < U) : f_X4_byteOf (nI S) (nI k) μ = some (nI (dgt S (U - 1 - k)), μ) := by
  have hU := hb.2.1
  unfold f_X4_byteOf
  rw [hc.2.1, jl_1, pk_sub (by omega), pk_sub (by omega), jl_8, pk_mul, nI_mod32 S, pk_ushrN (Nat.mod_lt _ (by decide)) _ (8 * (U - 1 - k)) (hs8 _ (by omega)), p2_256, jl_255, pk_andN (Nat.lt_of_le_of_lt (Nat.div_le_self _ _) (Nat.mod_lt _ (by decide))) 8 (by decide +kernel)]
  rw [show (2 : Nat) ^ 8 = 256 from rfl, dgt_m32 S (by omega)]
theorem l_byte {v j : Nat} (hv : v < 4611686018427387904) (hj : j < 4) : ((lN v >>> ((nI (8 * j)).toInt64 &&& 63)) &&& 255).toInt32 = nI (dgt v j) := by
  rw [pf_shr (hl8 j hj) hv, show (255 : Int64) = lN (2 ^ 8 - 1) by decide +kernel, wb_mask (Nat.lt_of_le_of_lt (Nat.div_le_self _ _) (by omega)) (by decide), lN_i, p2_256]
  rfl
/-- sums of units -/
def Sp (o : Nat → Nat) (U : Nat) : Nat → Nat
  | 0 => 0
  | i + 1 => Sp o U i + num o (i * U) U
/-- the bytes added up, c of them -/
def au (o : Nat → Nat) (U c : Nat) : Nat → Nat := fun j => if j < c then dgt (Sp o U (j / U + 1)) (U - 1 - j % U) else o j
theorem au_0 (o : Nat → Nat) (U : Nat) : au o U 0 = o := by
  funext j
  unfold au
  rw [if_neg (by omega)]
theorem au_s (o : Nat → Nat) {U i k : Nat} (hk : k < U) (j : Nat) : au o U (i * U + k + 1) j = if j = i * U + k then dgt (Sp o U (i + 1)) (U - 1 - k) else au o U (i * U + k) j := by
  unfold au
  by_cases h : j = i * U + k
  · have e1 : j / U = i := by rw [h, Nat.mul_comm, Nat.mul_add_div (by omega), Nat.div_eq_of_lt hk]; rfl
    have e2 : j % U = k := by rw [h, Nat.mul_comm, Nat.mul_add_mod, Nat.mod_eq_of_lt hk]
    rw [if_pos h, if_pos (by omega), e1, e2]
  · rw [if_neg h]
    by_cases h2 : j < i * U + k
    · rw [if_pos h2, if_pos (by omega)]
    · rw [if_neg h2, if_neg (by omega)]
/-- digits put together again -/
theorem num_dgt {a : Nat → Nat} {b U x : Nat} (hU : U = 1 ∨ U = 2 ∨ U = 4) (h : ∀ k, k < U → a (b + k) = dgt x (U - 1 - k)) : num a b U = x % 256 ^ U := by
  rcases hU with rfl | rfl | rfl
  · have h0 := h 0 (by omega)
    simp only [num, h0, dgt]
    simp
  · have h0 := h 0 (by omega)
    have h1 := h 1 (by omega)
    simp only [num, h0, h1, dgt]
    simp
    omega
  · have h0 := h 0 (by omega)
    have h1 := h 1 (by omega)
    have h2 := h 2 (by omega)
    have h3 := h 3 (by omega)
    simp only [num, h0, h1, h2, h3, dgt]
    simp
    omega
theorem dgt_num {a : Nat → Nat} {b U k : Nat} (hU : U = 1 ∨ U = 2 ∨ U = 4) (h : ∀ k, k < U → a (b + k) < 256) (hk : k < U) : dgt (num a b U) (U - 1 - k) = a (b + k) := by
  rcases hU with rfl | rfl | rfl
  · have h0 : a b < 256 := h 0 (by omega)
    obtain rfl : k = 0 := by omega
    simp only [num, dgt]
    simp
    omega
  · have h0 : a b < 256 := h 0 (by omega)
    have h1 := h 1 (by omega)
    rcases (show k = 0 ∨ k = 1 by omega) with rfl | rfl
    · simp only [num, dgt]
      simp
      omega
    · simp only [num, dgt]
      simp
      omega
  · have h0 : a b < 256 := h 0 (by omega)
    have h1 := h 1 (by omega)
    have h2 := h 2 (by omega)
    have h3 := h 3 (by omega)
    rcases (show k = 0 ∨ k = 1 ∨ k = 2 ∨ k = 3 by omega) with rfl | rfl | rfl | rfl
    · simp only [num, dgt]
      simp
      omega
    · simp only [num, dgt]
      simp
      omega
    · simp only [num, dgt]
      simp
      omega
    · simp only [num, dgt]
      simp
      omega
theorem dgt_add {U j a b : Nat} (hU : U = 1 ∨ U = 2 ∨ U = 4) (hj : j < U) : dgt (a + b % 256 ^ U) j = dgt (a + b) j := by
  unfold dgt
  rcases hU with rfl | rfl | rfl
  · obtain rfl : j = 0 := by omega
    simp
  · rcases (show j = 0 ∨ j = 1 by omega) with rfl | rfl
    · simp; omega
    · simp; omega
  · rcases (show j = 0 ∨ j = 1 ∨ j = 2 ∨ j = 3 by omega) with rfl | rfl | rfl | rfl
    · simp; omega
    · simp; omega
    · simp; omega
    · simp; omega
/-- the class adds up -/
theorem s_au39 {μ0 : jM} {f U W M D pl p on x y i S : Nat} {o : Nat → Nat} (hb : CB f U W M D) (hc : CF μ0 f U W M D) (hi : i * U + U ≤ on) (hon : on ≤ 240) (hS : S = Sp o U (i + 1)) (K : Int32 → Int32 → jM → Option (Unit × jM)) : ∀ (j fu k : Nat) (μ : jM), j < fu → k + j = U → CO μ0 μ pl p on x y 1 (au o U (i * U + k)) → ∃ μ', f_X1_addUp_39 K fu (nI S) (nI i) (nI k) μ = K (nI S) (nI (i + 1)) μ' ∧ CO μ0 μ' pl p on x y 1 (au o U (i * U + U)) ∧ μ'.1 14 3 = μ.1 14 3 := by
  have hU := hb.2.1
  have hiU : i ≤ i * U := Nat.le_mul_of_pos_right i (by omega)
  intro j
  induction j with
  | zero =>
    intro fu k μ hf hk h
    obtain ⟨fu, rfl⟩ : ∃ g, fu = g + 1 := ⟨fu - 1, by omega⟩
    obtain rfl : k = U := by omega
    refine ⟨μ, ?_, h, rfl⟩
    rw [f_X1_addUp_39.eq_2, (h.cf hc).2.1, if_pos (by rw [nI_leI (by omega) (by omega)]; omega), jl_1, nI_add, jlet_e]
  | succ j ih =>
    intro fu k μ hf hk h
    obtain ⟨fu, rfl⟩ : ∃ g, fu = g + 1 := ⟨fu - 1, by omega⟩
    have h1 := CO_put (k := i * U + k) (v := dgt S (U - 1 - k)) (o' := au o U (i * U + k + 1)) h (dgt_lt _ _) (fun z => by rw [au_s o (by omega), hS])
    obtain ⟨μ', e, h', h3⟩ := ih fu (k + 1) _ (by omega) (by omega) h1
    refine ⟨μ', ?_, h', h3.trans (jsI_c _ _ _ (by decide))⟩
    rw [f_X1_addUp_39.eq_2, (h.cf hc).2.1, if_neg (by rw [nI_leI (by omega) (by omega)]; omega), s_byteOf hb (h.cf hc) (by omega), jcall_s, pk_mul, nI_add, s_set (by omega) (by omega), jcall_s, jl_1, nI_add, jlet_e]
    exact e
theorem s_au4 {μ0 : jM} {f U W M D pl p on x y : Nat} {o : Nat → Nat} (hb : CB f U W M D) (hc : CF μ0 f U W M D) (ho : ∀ i, i < 240 → o i < 256) : ∀ (j fu i : Nat) (μ : jM), j < fu → i + j = on / U → CO μ0 μ pl p on x y 1 (au o U (i * U)) → ∃ μ', f_X1_addUp_4 fu (nI (Sp o U i)) (nI i) μ = some ((), μ') ∧ CO μ0 μ' pl p on x y 1 (au o U (on / U * U)) ∧ μ'.1 14 3 = μ.1 14 3 := by
  have hU := hb.2.1
  intro j
  induction j with
  | zero =>
    intro fu i μ hf hk h
    obtain ⟨fu, rfl⟩ : ∃ g, fu = g + 1 := ⟨fu - 1, by omega⟩
    obtain rfl : i = on / U := by omega
    have hon := h.2.2.2.2.2.2.2.1
    have hd : on / U ≤ on := Nat.div_le_self _ _
    refine ⟨μ, ?_, h, rfl⟩
    rw [f_X1_addUp_4.eq_2, h.2.2.2.2.2.2.1, s_unitsIn (h.cf hc) hb (by omega), jcall_s, if_pos (by rw [nI_leI (by omega) (by omega)]; omega)]
  | succ j ih =>
    intro fu i μ hf hk h
    obtain ⟨fu, rfl⟩ : ∃ g, fu = g + 1 := ⟨fu - 1, by omega⟩
    have hon := h.2.2.2.2.2.2.2.1
    have hd : on / U ≤ on := Nat.div_le_self _ _
    have hlt : i < on / U := by omega
    have hi : i * U + U ≤ on := div_ge (by omega) hlt
    have hn : num (au o U (i * U)) (i * U) U = num o (i * U) U := num_congr U (fun z hz => by unfold au; rw [if_neg (by omega)])
    obtain ⟨μ1, e1, h1, g1⟩ := s_au39 (i := i) (o := o) hb hc hi hon rfl (fun x1 x2 μ => f_X1_addUp_4 fu x1 x2 μ) U jFU 0 μ (by unfold jFU; omega) (by omega) h
    obtain ⟨μ', e, h', g'⟩ := ih fu (i + 1) μ1 (by omega) (by omega) (by rw [Nat.succ_mul]; exact h1)
    refine ⟨μ', ?_, h', g'.trans g1⟩
    rw [f_X1_addUp_4.eq_2, h.2.2.2.2.2.2.1, s_unitsIn (h.cf hc) hb (by omega), jcall_s, if_neg (by rw [nI_leI (by omega) (by omega)]; omega), s_numberAt (h.cf hc) hb h.op hi, jcall_s, hn, nI_add, jlet_e, jl_0]
    exact e1.trans e
/-- the reference: source after the copy, c bytes added up -/
def MC (ν0 ν : jM) (on : Nat) (s : Nat → Nat) : Prop := (∀ k, k ≤ 12 → k ≠ 6 → ν.1 0 k = ν0.1 0 k) ∧ ν.1 0 6 = nI on ∧ ν.1 0 20 = nI on ∧ ν.1 2 = ν0.1 2 ∧ ν.1 3 = ν0.1 3 ∧ ∀ i, i < on → s i < 256 ∧ ν.1 1 i = nI (s i)
theorem MC.put {ν0 ν : jM} {on k v : Nat} {s s' : Nat → Nat} (h : MC ν0 ν on s) (hv : v < 256) (hs : ∀ i, s' i = if i = k then v else s i) : MC ν0 (jsI ν 1 k (nI v)) on s' := by
  obtain ⟨h1, h2, h3, h4, h5, h6⟩ := h
  refine ⟨fun j hj h6 => (jsI_c _ _ _ (by decide)).trans (h1 j hj h6), ?_, ?_, ?_, ?_, fun i hi => ?_⟩
  · simp (decide := true) only [jsI_s, jsI_k, jsI_c, jsI_2, jsJ_1, ne_eq, not_false_eq_true, h2]
  · simp (decide := true) only [jsI_s, jsI_k, jsI_c, jsI_2, jsJ_1, ne_eq, not_false_eq_true, h3]
  · rw [← h4]; funext i; exact jsI_c _ _ _ (by decide)
  · rw [← h5]; funext i; exact jsI_c _ _ _ (by decide)
  · rw [hs i]
    by_cases hin : i = k
    · rw [if_pos hin, hin, jsI_s]
      exact ⟨hv, rfl⟩
    · rw [if_neg hin, jsI_k _ _ hin]
      exact h6 i hi
theorem MC.mf {ν0 ν : jM} {on f U W M D : Nat} {s : Nat → Nat} (h : MC ν0 ν on s) (hm : MF ν0 f U W M D) : MF ν f U W M D := by
  obtain ⟨a1, a2, a3, a4, a5⟩ := hm
  exact ⟨(h.1 0 (by omega) (by omega)).trans a1, (h.1 1 (by omega) (by omega)).trans a2, (h.1 2 (by omega) (by omega)).trans a3, (h.1 3 (by omega) (by omega)).trans a4, (h.1 4 (by omega) (by omega)).trans a5⟩
theorem s_m204 {ν0 : jM} {f U W M D on i v : Nat} {o : Nat → Nat} (hb : CB f U W M D) (hm : MF ν0 f U W M D) (hi : i * U + U ≤ on) (hon : on ≤ 240) (hv : v < 4611686018427387904) (hS : ∀ j, j < U → dgt v j = dgt (Sp o U (i + 1)) j) (K : Int32 → jM → Option (Int32 × jM)) : ∀ (j fu k : Nat) (ν : jM), j < fu → k + j = U → MC ν0 ν on (au o U (i * U + k)) → ∃ ν', f_X6_open_204 K fu (nI i) (lN v) (nI k) ν = K (nI (i + 1)) ν' ∧ MC ν0 ν' on (au o U (i * U + U)) := by
  have hU := hb.2.1
  have hiU : i ≤ i * U := Nat.le_mul_of_pos_right i (by omega)
  have hcm : U * i = i * U := Nat.mul_comm _ _
  intro j
  induction j with
  | zero =>
    intro fu k ν hf hk h
    obtain ⟨fu, rfl⟩ : ∃ g, fu = g + 1 := ⟨fu - 1, by omega⟩
    obtain rfl : k = U := by omega
    refine ⟨ν, ?_, h⟩
    rw [f_X6_open_204.eq_2, (h.mf hm).2.1, if_pos (by rw [nI_leI (by omega) (by omega)]; omega), jl_1, nI_add, jlet_e]
  | succ j ih =>
    intro fu k ν hf hk h
    obtain ⟨fu, rfl⟩ : ∃ g, fu = g + 1 := ⟨fu - 1, by omega⟩
    have h1 := h.put (k := i * U + k) (v := dgt v (U - 1 - k)) (s' := au o U (i * U + k + 1)) (dgt_lt _ _) (fun z => by rw [au_s o (by omega), hS _ (by omega)])
    obtain ⟨ν', e, h'⟩ := ih fu (k + 1) _ (by omega) (by omega) h1
    refine ⟨ν', ?_, h'⟩
    rw [f_X6_open_204.eq_2, (h.mf hm).2.1, if_neg (by rw [nI_leI (by omega) (by omega)]; omega), pk_mul, hcm, nI_add, jin_n (by omega) (by omega), nI_clamp (by omega), jl_1, pk_sub (by omega), pk_sub (by omega), jl_8, pk_mul, l_byte hv (by omega), jlet_e, nI_add, jlet_e]
    exact e
theorem Sp_lt {o : Nat → Nat} {U on : Nat} (hU : U ≤ 4) (ho : ∀ i, i < on → o i < 256) : ∀ i, i * U ≤ on → Sp o U i ≤ i * 4294967296
  | 0, _ => by simp [Sp]
  | i + 1, h => by
    rw [Nat.succ_mul] at h
    have h1 := Sp_lt (o := o) (U := U) (on := on) hU ho i (by omega)
    have h2 := num_lt (a := o) (b := i * U) U (fun z hz => ho _ (by omega))
    have h3 := p256_le hU
    rw [Sp]
    omega
theorem s_m166 {ν0 : jM} {f U W M D on : Nat} {o : Nat → Nat} (hb : CB f U W M D) (hm : MF ν0 f U W M D) (hD : D = 1) (hon : on ≤ 240) (ho : ∀ i, i < on → o i < 256) : ∀ (j fu i : Nat) (ν : jM), j < fu → 1 ≤ i → i + j = on / U → MC ν0 ν on (au o U (i * U)) → ∃ ν', f_X6_open_166 fu (nI i) ν = some (nI on, ν') ∧ MC ν0 ν' on (au o U (on / U * U)) := by
  have hU := hb.2.1
  have hd : on / U ≤ on := Nat.div_le_self _ _
  intro j
  induction j with
  | zero =>
    intro fu i ν hf h1 hk h
    obtain ⟨fu, rfl⟩ : ∃ g, fu = g + 1 := ⟨fu - 1, by omega⟩
    obtain rfl : i = on / U := by omega
    refine ⟨ν, ?_, h⟩
    unfold f_X6_open_166 f_X6_open_258
    rw [(h.mf hm).2.2.2.2, hD, if_pos (show nI 1 = 1 by decide), (h.mf hm).2.1, jnz_n (by omega) (by omega), h.2.2.1, pk_div (by omega) (by omega) (by omega), if_pos (by rw [nI_leI (by omega) (by omega)]; omega), h.2.1]
  | succ j ih =>
    intro fu i ν hf h1 hk h
    obtain ⟨fu, rfl⟩ : ∃ g, fu = g + 1 := ⟨fu - 1, by omega⟩
    have hlt : i < on / U := by omega
    have hi : i * U + U ≤ on := div_ge (by omega) hlt
    obtain ⟨i', rfl⟩ : ∃ z, i = z + 1 := ⟨i - 1, by omega⟩
    have hsm : (i' + 1) * U = i' * U + U := Nat.succ_mul _ _
    have hn1 : num (au o U ((i' + 1) * U)) ((i' + 1) * U) U = num o ((i' + 1) * U) U := num_congr U (fun z hz => by unfold au; rw [if_neg (by omega)])
    have hn2 : num (au o U ((i' + 1) * U)) (i' * U) U = Sp o U (i' + 1) % 256 ^ U := num_dgt hU (fun k hk => by
      unfold au
      have e1 : (i' * U + k) / U = i' := by rw [Nat.mul_comm, Nat.mul_add_div (by omega), Nat.div_eq_of_lt hk]; rfl
      have e2 : (i' * U + k) % U = k := by rw [Nat.mul_comm, Nat.mul_add_mod, Nat.mod_eq_of_lt hk]
      rw [if_pos (by omega), e1, e2])
    have b1 := num_lt (a := o) (b := (i' + 1) * U) U (fun z hz => ho _ (by omega))
    have b2 := p256_le (U := U) (by omega)
    have b3 : Sp o U (i' + 1) % 256 ^ U < 256 ^ U := Nat.mod_lt _ (Nat.pow_pos (by decide))
    have hv : num o ((i' + 1) * U) U + Sp o U (i' + 1) % 256 ^ U < 4611686018427387904 := by omega
    obtain ⟨ν1, e1, g1⟩ := s_m204 (i := i' + 1) (o := o) (v := num o ((i' + 1) * U) U + Sp o U (i' + 1) % 256 ^ U) hb hm hi hon hv (fun j hj => by rw [dgt_add hU hj, Nat.add_comm]; rfl) (fun x1 μ => f_X6_open_166 fu x1 μ) U jFU 0 ν (by unfold jFU; omega) (by omega) h
    obtain ⟨ν', e, h'⟩ := ih fu (i' + 1 + 1) ν1 (by omega) (by omega) (by omega) (by rw [Nat.succ_mul (i' + 1) U]; exact g1)
    refine ⟨ν', ?_, h'⟩
    rw [f_X6_open_166.eq_2, (h.mf hm).2.2.2.2, hD, if_pos (show nI 1 = 1 by decide), (h.mf hm).2.1, jnz_n (by omega) (by omega), h.2.2.1, pk_div (by omega) (by omega) (by omega), if_neg (by rw [nI_leI (by omega) (by omega)]; omega), s_unitOf (h.mf hm) hb h.2.2.2.2.2 hon hi, jcall_s, jl_1, pk_sub (by omega), show i' + 1 - 1 = i' by omega, s_unitOf (h.mf hm) hb h.2.2.2.2.2 hon (by omega), jcall_s, hn1, hn2, lN_add, jlet_e, jl_0]
    exact e1.trans e
