/-! numbers of units: m's base-256 digits -/
def num (a : Nat → Nat) (b : Nat) : Nat → Nat
  | 0 => 0
  | k + 1 => num a b k * 256 + a (b + k)
theorem num_lt {a : Nat → Nat} {b : Nat} : ∀ k, (∀ i, i < k → a (b + i) < 256) → num a b k < 256 ^ k
  | 0, _ => by simp [num]
  | k + 1, h => by
    have h1 := num_lt (a := a) (b := b) k (fun i hi => h i (by omega))
    have h2 := h k (by omega)
    rw [num, Nat.pow_succ]
    omega
theorem num_congr {a a' : Nat → Nat} {b b' : Nat} : ∀ k, (∀ i, i < k → a (b + i) = a' (b' + i)) → num a b k = num a' b' k
  | 0, _ => rfl
  | k + 1, h => by rw [num, num, num_congr k (fun i hi => h i (by omega)), h k (by omega)]
theorem p256_1 : (256 : Nat) ^ 1 = 256 := rfl
theorem p256_2 : (256 : Nat) ^ 2 = 65536 := rfl
theorem p256_3 : (256 : Nat) ^ 3 = 16777216 := rfl
theorem p256_4 : (256 : Nat) ^ 4 = 4294967296 := rfl
theorem p256_le {U : Nat} (h : U ≤ 4) : 256 ^ U ≤ 4294967296 := by
  rcases (show U = 0 ∨ U = 1 ∨ U = 2 ∨ U = 3 ∨ U = 4 by omega) with rfl | rfl | rfl | rfl | rfl <;> decide
theorem nI_bv (n : Nat) : (nI n).toBitVec = BitVec.ofNat 32 n := rfl
theorem nI_inj32 {a b : Nat} (ha : a < 4294967296) (hb : b < 4294967296) : nI a = nI b ↔ a = b := by
  constructor
  · intro h
    have h1 := congrArg (fun z : Int32 => z.toBitVec.toNat) h
    simp only [nI_bv, BitVec.toNat_ofNat] at h1
    omega
  · intro h; rw [h]
theorem nI_mod32 (n : Nat) : nI n = nI (n % 4294967296) := Int32.toBitVec_inj.mp (by rw [nI_bv, nI_bv]; apply BitVec.eq_of_toNat_eq; simp)
theorem nI_or {a b : Nat} (ha : a < 4294967296) (hb : b < 4294967296) : nI a ||| nI b = nI (a ||| b) := by
  apply Int32.toBitVec_inj.mp
  rw [Int32.toBitVec_or, nI_bv, nI_bv, nI_bv]
  apply BitVec.eq_of_toNat_eq
  rw [BitVec.toNat_or, BitVec.toNat_ofNat, BitVec.toNat_ofNat, BitVec.toNat_ofNat, Nat.mod_eq_of_lt ha, Nat.mod_eq_of_lt hb, Nat.mod_eq_of_lt]
  exact Nat.or_lt_two_pow ha hb
theorem nI_8or {m b : Nat} (hm : m < 16777216) (hb : b < 256) : (nI m <<< (nI 8 &&& 31)) ||| nI b = nI (m * 256 + b) := by
  rw [pk_shlN (nI 8 &&& 31) 8 (by decide +kernel) (by omega), nI_or (by omega) (by omega)]
  have := Nat.two_pow_add_eq_or_of_lt (b := b) (i := 8) (by omega) m
  rw [show m * 2 ^ 8 = 2 ^ 8 * m by omega, ← this, show 2 ^ 8 * m + b = m * 256 + b by omega]
theorem lN_8or {m b : Nat} (hm : m < 16777216) (hb : b < 256) : (lN m <<< ((nI 8).toInt64 &&& 63)) ||| (nI b).toInt64 = lN (m * 256 + b) := by
  rw [wb_shl m (by decide), nI_l (by omega), wb_or (by omega) (by omega)]
  have := Nat.two_pow_add_eq_or_of_lt (b := b) (i := 8) (by omega) m
  rw [show m * 2 ^ 8 = 2 ^ 8 * m by omega, ← this, show 2 ^ 8 * m + b = m * 256 + b by omega]
theorem nI_u64 {v : Nat} (h : v < 4294967296) : (nI v).toInt64 &&& 4294967295 = lN v := by
  apply wb_inj
  have e : (4294967295 : Int64).toBitVec = BitVec.ofNat 64 4294967295 := rfl
  rw [Int64.toBitVec_and, Int32.toBitVec_toInt64, nI_bv, wb_tb, e]
  apply BitVec.eq_of_getLsbD_eq
  intro i hi
  have hm : (BitVec.ofNat 64 4294967295).getLsbD i = decide (i < 32) := by
    have : ∀ i, i < 64 → (BitVec.ofNat 64 4294967295).getLsbD i = decide (i < 32) := by decide +kernel
    exact this i hi
  rw [BitVec.getLsbD_and, hm, BitVec.getLsbD_signExtend]
  by_cases h32 : i < 32
  · simp only [h32, hi, decide_true, Bool.and_true, Bool.true_and, if_true, BitVec.getLsbD_ofNat]
  · simp only [h32, decide_false, Bool.and_false, BitVec.getLsbD_ofNat]
    have : v.testBit i = false := Nat.testBit_lt_two_pow (Nat.lt_of_lt_of_le h (by
      have : (2 : Nat) ^ 32 ≤ 2 ^ i := Nat.pow_le_pow_right (by decide) (by omega)
      omega))
    simp [this]
theorem s_unitsIn {μ : jM} {f U W M D n : Nat} (hc : CF μ f U W M D) (hb : CB f U W M D) (hn : n ≤ 1000) : f_X4_unitsIn (nI n) μ = some (nI (n / U), μ) := by
  unfold f_X4_unitsIn
  have hU := hb.2.1
  rw [hc.2.1]
  simp (disch := omega) only [jlet_e, jcall_s, jin_n, jnz_n, jbl_0, jbl_1, nI_ofNat, jl_0, jl_1, jl_2, jl_3, jl_4, jl_5, jl_8, jl_60, jl_127, jl_128, jl_240, jl_255, jl_256, jl_400, jl_1000, jl_1000000, nI_ltI, nI_leI, nI_eq, nI_add, pk_sub, pk_mul, pk_div, pk_rem, nI_clamp, if_pos, if_neg, ite_true, ite_false]
theorem s_rowsIn {μ : jM} {f U W M D n : Nat} (hc : CF μ f U W M D) (hb : CB f U W M D) (hn : n ≤ 1000) : f_X4_rowsIn (nI n) μ = some (nI (n / W), μ) := by
  unfold f_X4_rowsIn
  obtain ⟨-, -, hW1, hW2, -⟩ := hb
  rw [hc.2.2.1]
  simp (disch := omega) only [jlet_e, jcall_s, jin_n, jnz_n, jbl_0, jbl_1, nI_ofNat, jl_0, jl_1, jl_2, jl_3, jl_4, jl_5, jl_8, jl_60, jl_127, jl_128, jl_240, jl_255, jl_256, jl_400, jl_1000, jl_1000000, nI_ltI, nI_leI, nI_eq, nI_add, pk_sub, pk_mul, pk_div, pk_rem, nI_clamp, if_pos, if_neg, ite_true, ite_false]
theorem s_numberAt_loop {μ : jM} {f U W M D q N n i : Nat} {a : Nat → Nat} (hc : CF μ f U W M D) (hb : CB f U W M D) (h : OC μ q N n a) (hi : i * U + U ≤ n) : ∀ (j fu k : Nat), j < fu → k + j = U → f_X4_numberAt_5 q N fu (nI i) (nI (num a (i * U) k)) (nI k) μ = some (nI (num a (i * U) U), μ) := by
  obtain ⟨h1, h2, h3, h4⟩ := id h
  have hU := hb.2.1
  have hiU : i ≤ i * U := Nat.le_mul_of_pos_right i (by omega)
  intro j
  induction j with
  | zero =>
    intro fu k hf hk
    obtain ⟨fu, rfl⟩ : ∃ g, fu = g + 1 := ⟨fu - 1, by omega⟩
    rw [f_X4_numberAt_5.eq_2, hc.2.1]
    obtain rfl : k = U := by omega
    simp (disch := omega) only [jlet_e, jcall_s, jin_n, jnz_n, jbl_0, jbl_1, nI_ofNat, jl_0, jl_1, jl_2, jl_3, jl_4, jl_5, jl_8, jl_60, jl_127, jl_128, jl_240, jl_255, jl_256, jl_400, jl_1000, jl_1000000, nI_ltI, nI_leI, nI_eq, nI_add, pk_sub, pk_mul, pk_div, pk_rem, nI_clamp, if_pos, if_neg, ite_true, ite_false]
  | succ j ih =>
    intro fu k hf hk
    obtain ⟨fu, rfl⟩ : ∃ g, fu = g + 1 := ⟨fu - 1, by omega⟩
    rw [f_X4_numberAt_5.eq_2, hc.2.1]
    have hb1 : a (i * U + k) < 256 := (h4 (i * U + k) (by omega)).1
    have hn1 : num a (i * U) k < 16777216 := by
      have h5 := num_lt (a := a) (b := i * U) k (fun z hz => (h4 (i * U + z) (by omega)).1)
      have h6 : 256 ^ k ≤ 256 ^ 3 := Nat.pow_le_pow_right (by decide) (by omega)
      rw [p256_3] at h6
      omega
    simp (disch := omega) only [jlet_e, jcall_s, jin_n, jnz_n, jbl_0, jbl_1, nI_ofNat, jl_0, jl_1, jl_2, jl_3, jl_4, jl_5, jl_8, jl_60, jl_127, jl_128, jl_240, jl_255, jl_256, jl_400, jl_1000, jl_1000000, nI_ltI, nI_leI, nI_eq, nI_add, pk_sub, pk_mul, pk_div, pk_rem, nI_clamp, if_pos, if_neg, ite_true, ite_false, s_get h (show i * U + k < n by omega), nI_8or hn1 hb1]
    exact ih fu (k + 1) (by omega) (by omega)
theorem s_numberAt {μ : jM} {f U W M D q N n i : Nat} {a : Nat → Nat} (hc : CF μ f U W M D) (hb : CB f U W M D) (h : OC μ q N n a) (hi : i * U + U ≤ n) : f_X4_numberAt q N (nI i) μ = some (nI (num a (i * U) U), μ) := by
  have hU := hb.2.1
  unfold f_X4_numberAt
  rw [jl_0]
  exact s_numberAt_loop hc hb h hi U jFU 0 (by unfold jFU; omega) (by omega)
theorem s_unitOf_loop {ν : jM} {f U W M D N n i : Nat} {a : Nat → Nat} (hc : MF ν f U W M D) (hb : CB f U W M D) (h4 : ∀ i, i < n → a i < 256 ∧ ν.1 1 i = nI (a i)) (hn : n ≤ 240) (hi : i * U + U ≤ n) : ∀ (j fu k : Nat), j < fu → k + j = U → f_X6_unitOf_5 fu (nI i) (lN (num a (i * U) k)) (nI k) ν = some (lN (num a (i * U) U), ν) := by
  have hU := hb.2.1
  have hiU : i ≤ i * U := Nat.le_mul_of_pos_right i (by omega)
  have hcm : U * i = i * U := Nat.mul_comm U i
  intro j
  induction j with
  | zero =>
    intro fu k hf hk
    obtain ⟨fu, rfl⟩ : ∃ g, fu = g + 1 := ⟨fu - 1, by omega⟩
    rw [f_X6_unitOf_5.eq_2, hc.2.1]
    obtain rfl : k = U := by omega
    simp (disch := omega) only [jlet_e, jcall_s, jin_n, jnz_n, jbl_0, jbl_1, nI_ofNat, jl_0, jl_1, jl_2, jl_3, jl_4, jl_5, jl_8, jl_60, jl_127, jl_128, jl_240, jl_255, jl_256, jl_400, jl_1000, jl_1000000, nI_ltI, nI_leI, nI_eq, nI_add, pk_sub, pk_mul, pk_div, pk_rem, nI_clamp, if_pos, if_neg, ite_true, ite_false]
  | succ j ih =>
    intro fu k hf hk
    obtain ⟨fu, rfl⟩ : ∃ g, fu = g + 1 := ⟨fu - 1, by omega⟩
    rw [f_X6_unitOf_5.eq_2, hc.2.1]
    obtain ⟨hb1, hb2⟩ := h4 (i * U + k) (by omega)
    have hn1 : num a (i * U) k < 16777216 := by
      have h5 := num_lt (a := a) (b := i * U) k (fun z hz => (h4 (i * U + z) (by omega)).1)
      have h6 : 256 ^ k ≤ 256 ^ 3 := Nat.pow_le_pow_right (by decide) (by omega)
      rw [p256_3] at h6
      omega
    simp (disch := omega) only [jlet_e, jcall_s, jin_n, jnz_n, jbl_0, jbl_1, nI_ofNat, jl_0, jl_1, jl_2, jl_3, jl_4, jl_5, jl_8, jl_60, jl_127, jl_128, jl_240, jl_255, jl_256, jl_400, jl_1000, jl_1000000, nI_ltI, nI_leI, nI_eq, nI_add, pk_sub, pk_mul, pk_div, pk_rem, nI_clamp, if_pos, if_neg, ite_true, ite_false, hcm, hb2, lN_8or hn1 hb1]
    exact ih fu (k + 1) (by omega) (by omega)
theorem s_unitOf {ν : jM} {f U W M D n i : Nat} {a : Nat → Nat} (hc : MF ν f U W M D) (hb : CB f U W M D) (h4 : ∀ i, i < n → a i < 256 ∧ ν.1 1 i = nI (a i)) (hn : n ≤ 240) (hi : i * U + U ≤ n) : f_X6_unitOf (nI i) ν = some (lN (num a (i * U) U), ν) := by
  have hU := hb.2.1
  unfold f_X6_unitOf
  rw [jl_0]
  exact s_unitOf_loop (N := 0) hc hb h4 hn hi U jFU 0 (by unfold jFU; omega) (by omega)
theorem div_ge {n U i : Nat} (hU : 0 < U) (h : i < n / U) : i * U + U ≤ n := by
  have h1 := Nat.div_mul_le_self n U
  have h2 : (i + 1) * U ≤ n / U * U := Nat.mul_le_mul_right U h
  rw [Nat.add_mul] at h2
  omega
theorem al_unit {μ ν : jM} (h : REL μ ν) (x : Int32) : AL (f_X5_unit x μ) (f_X6_unit x ν) := by
  obtain ⟨f, U, W, M, D, n, cn, pn, rc, ft, sr, cd, pl, hb, hc, hm⟩ := h
  have hm0 := hm.t0 0
  unfold f_X5_unit f_X6_unit f_X5_unit_22
  rw [jlet_e]
  generalize jsI ν 0 13 (0 : Int32) = ν0 at hm0 ⊢
  have key : ∀ r : Int64, AL (some (r, μ)) (some (r, ν0)) := fun r => ⟨r, μ, ν0, rfl, rfl, f, U, W, M, D, n, cn, pn, rc, ft, sr, cd, pl, hb, hc, hm0⟩
  have hn := hc.2.1.2.1
  have hU := hb.2.1
  rw [hm0.1.2.1, hm0.2.1.1, hc.2.1.1, jnz_n (by omega) (by omega), pk_div (by omega) (by omega) (by omega)]
  have hd : n / U ≤ n := Nat.div_le_self n U
  rcases pk_ix x (n := n / U) (by omega) with q | q | ⟨j, hj, rfl⟩
  · rw [if_pos q, s_inF (Or.inl q), jcall_s, ← jl_0, if_pos rfl]
    exact key _
  · by_cases q0 : x < 0
    · rw [if_pos q0, s_inF (Or.inl q0), jcall_s, ← jl_0, if_pos rfl]
      exact key _
    rw [if_neg q0, s_unitsIn hc.1 hb (by omega), jcall_s, if_neg (Int32.not_lt.mpr q), s_inF, jcall_s, ← jl_0, if_pos rfl]
    · exact key _
    · obtain ⟨j, hj, rfl⟩ := nI_of q0
      rw [nI_leI (by omega) hj] at q
      refine Or.inr ?_
      generalize n / U = d at q hd ⊢
      by_cases hz : d = 0
      · rw [hz]
        exact Int32.lt_iff_toInt_lt.mpr (by rw [nI_toInt hj]; have : (nI 0 - 1 : Int32).toInt = -1 := by decide +kernel
                                            omega)
      · rw [jl_1, pk_sub (by omega), nI_ltI (by omega) (by omega)]
        omega
  · have h1 : j * U + U ≤ n := div_ge (by omega) hj
    rw [if_neg (by rw [jl_0, nI_ltI (by omega) (by omega)]; omega), s_unitsIn hc.1 hb (by omega), jcall_s, if_pos (by rw [nI_ltI (by omega) (by omega)]; exact hj), s_numberAt hc.1 hb hc.2.1 h1, jcall_s,
      s_inT (by rw [jl_0, nI_ltI (by omega) (by omega)]; omega) (by rw [jl_1, pk_sub (by omega), nI_ltI (by omega) (by omega)]; omega), jcall_s, if_neg (by decide), s_unitOf hm0.1 hb hm0.2.1.2.2.2 hn h1, jcall_s, nI_u64]
    · exact key _
    · have h5 := num_lt (a := sr) (b := j * U) U (fun z hz => (hc.2.1.2.2.2 (j * U + z) (by omega)).1)
      have := p256_le (U := U) (by omega)
      omega
