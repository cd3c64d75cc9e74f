/-! the units' numbers, or their differences -/
def pv (nm : Nat → Nat) (i : Nat) : Nat := if i = 0 then 0 else nm (i - 1)
def vdf (U D : Nat) (nm : Nat → Nat) (i : Nat) : Nat := if D = 1 then (nm i + 256 ^ U - pv nm i) % 256 ^ U else nm i
theorem p256_pos (U : Nat) : 0 < 256 ^ U := Nat.pos_of_ne_zero (by simp)
theorem vdf_lt {U D : Nat} {nm : Nat → Nat} {m : Nat} (h : ∀ i, i < m → nm i < 256 ^ U) : ∀ i, i < m → vdf U D nm i < 256 ^ U := by
  intro i hi
  unfold vdf
  by_cases q : D = 1
  · rw [if_pos q]
    exact Nat.mod_lt _ (p256_pos U)
  · rw [if_neg q]
    exact h i hi
theorem nI_subw {a b : Nat} (hb : b ≤ 4294967296) : nI a - nI b = nI (a + 4294967296 - b) := by
  have e : nI a = nI (a + 4294967296 - b) + nI b := by
    rw [nI_add, show a + 4294967296 - b + b = a + 4294967296 by omega, nI_mod32 (a + 4294967296), nI_mod32 a, Nat.add_mod_right]
  rw [e, Int32.add_sub_cancel]
theorem lN_subw {a b : Nat} (hb : b ≤ 4294967296) : lN a - lN b = lN (a + 18446744073709551616 - b) := by
  have e : lN a = lN (a + 18446744073709551616 - b) + lN b := by
    rw [lN_add, show a + 18446744073709551616 - b + b = a + 18446744073709551616 by omega, wb_mod (a + 18446744073709551616), wb_mod a, show (a + 18446744073709551616) % 2 ^ 64 = a % 2 ^ 64 from Nat.add_mod_right a _]
  rw [e, Int64.add_sub_cancel]
theorem wmod32 {a b U : Nat} (hU : U = 1 ∨ U = 2 ∨ U = 4) (hb : b < 256 ^ U) : (a + 4294967296 - b) % 256 ^ U = (a + 256 ^ U - b) % 256 ^ U := by
  rcases hU with q | q | q
  · rw [q, p256_1] at hb ⊢; omega
  · rw [q, p256_2] at hb ⊢; omega
  · rw [q, p256_4] at hb ⊢
theorem wmod64 {a b U : Nat} (hU : U = 1 ∨ U = 2 ∨ U = 4) (hb : b < 256 ^ U) : (a + 18446744073709551616 - b) % 256 ^ U = (a + 256 ^ U - b) % 256 ^ U := by
  rcases hU with q | q | q
  · rw [q, p256_1] at hb ⊢; omega
  · rw [q, p256_2] at hb ⊢; omega
  · rw [q, p256_4] at hb ⊢; omega
theorem nI_andm {x U : Nat} (hU : U = 1 ∨ U = 2) : nI x &&& (((1 : Int32) <<< (((8 : Int32) * nI U) &&& 31)) - 1) = nI (x % 256 ^ U) := by
  have hx : x % 4294967296 < 4294967296 := Nat.mod_lt _ (by decide)
  rcases hU with q | q
  · rw [q, nI_mod32 x, pk_andN hx 8 (by decide +kernel), p256_1]
    congr 1
    omega
  · rw [q, nI_mod32 x, pk_andN hx 16 (by decide +kernel), p256_2]
    congr 1
    omega
theorem s_modulo {μ : jM} {f U W M D a b : Nat} (hb : CB f U W M D) (hc : CF μ f U W M D) (hb2 : b < 256 ^ U) : f_X4_modulo (nI a - nI b) μ = some (nI ((a + 256 ^ U - b) % 256 ^ U), μ) := by
  have hU := hb.2.1
  have hb4 : b ≤ 4294967296 := Nat.le_of_lt (Nat.lt_of_lt_of_le hb2 (p256_le (by omega)))
  unfold f_X4_modulo
  rw [hc.2.1, nI_subw hb4, ← wmod32 hU hb2]
  rcases hU with q | q | q
  · rw [if_neg (by rw [q]; decide), nI_andm (Or.inl q)]
  · rw [if_neg (by rw [q]; decide), nI_andm (Or.inr q)]
  · rw [if_pos (by rw [q]; decide), q, p256_4, ← nI_mod32]
theorem s_all {ν : jM} {f U W M D : Nat} (hb : CB f U W M D) (hm : MF ν f U W M D) : f_X6_all ν = some (lN (256 ^ U - 1), ν) := by
  have hU := hb.2.1
  unfold f_X6_all
  rw [hm.2.1]
  rcases hU with q | q | q
  · rw [q]; congr 2
  · rw [q]; congr 2
  · rw [q]; congr 2
theorem lN_andm {x U : Nat} (hU : U = 1 ∨ U = 2 ∨ U = 4) : lN x &&& lN (256 ^ U - 1) = lN (x % 256 ^ U) := by
  have hx : x % 2 ^ 64 < 2 ^ 64 := Nat.mod_lt _ (by decide)
  rw [wb_mod x, ← p2_256, wb_mask hx (by omega), Nat.mod_mod_of_dvd]
  exact Nat.pow_dvd_pow 2 (by omega)
theorem CF.fr {cs : List Nat} {μ μ' : jM} {f U W M D : Nat} (h : CF μ f U W M D) (g : Fr cs μ μ') (hc : 1 ∉ cs) : CF μ' f U W M D := h.of (g.1 1 hc)
theorem OC_fr {cs : List Nat} {μ μ' : jM} {q N n : Nat} {a : Nat → Nat} (h : OC μ q N n a) (g : Fr cs μ μ') (h1 : q ∉ cs) (h2 : q + 1 ∉ cs) : OC μ' q N n a := OC_of h (g.1 q h1) (g.1 _ h2)
theorem s_readUnits_loop {μ0 : jM} {f U W M D n m : Nat} {sr : Nat → Nat} (hb : CB f U W M D) (hc : CF μ0 f U W M D) (hs : OC μ0 2 240 n sr) (hmn : m = n / U) (e0 : μ0.1 6 7 = nI m) :
    ∀ (j fu i : Nat) (μ : jM), j < fu → i + j = m → Fr [9] μ0 μ → UV μ i (vdf U D (fun i => num sr (i * U) U)) → ∃ μ', f_X2_readUnits_19 fu (nI (pv (fun i => num sr (i * U) U) i)) (nI i) μ = some ((), μ') ∧ Fr [9] μ0 μ' ∧ UV μ' m (vdf U D (fun i => num sr (i * U) U)) := by
  obtain ⟨hf, hU, hW1, hW2, hM, hD, h2⟩ := id hb
  have hn : n ≤ 240 := hs.2.1
  have hm : m ≤ 240 := by rw [hmn]; exact Nat.le_trans (Nat.div_le_self _ _) hn
  intro j
  induction j with
  | zero =>
    intro fu i μ hfu hi hfr hu
    obtain ⟨fu, rfl⟩ : ∃ g, fu = g + 1 := ⟨fu - 1, by omega⟩
    obtain rfl : i = m := by omega
    refine ⟨μ, ?_, hfr, hu⟩
    rw [f_X2_readUnits_19.eq_2, hfr.at (by decide), e0, if_pos (by rw [nI_leI (by omega) (by omega)]; omega)]
  | succ j ih =>
    intro fu i μ hfu hi hfr hu
    obtain ⟨fu, rfl⟩ : ∃ g, fu = g + 1 := ⟨fu - 1, by omega⟩
    have hcf := hc.fr hfr (by decide)
    have hsf := OC_fr hs hfr (by decide) (by decide)
    have hiU : i * U + U ≤ n := div_ge (by omega) (by omega)
    have epv : pv (fun i => num sr (i * U) U) i < 256 ^ U := by
      unfold pv
      by_cases z : i = 0
      · rw [if_pos z]; exact p256_pos U
      · rw [if_neg z]
        refine num_lt U (fun k hk => (hs.2.2.2 _ ?_).1)
        have : (i - 1) * U ≤ i * U := Nat.mul_le_mul_right U (by omega)
        omega
    have step : ∀ (v : Nat), v = vdf U D (fun i => num sr (i * U) U) i → ∃ μ', f_X2_readUnits_70 (fun x2 x3 μ => f_X2_readUnits_19 fu x2 x3 μ) (nI i) (nI (num sr (i * U) U)) (nI v) (nI i) μ = some ((), μ') ∧ Fr [9] μ0 μ' ∧ UV μ' m (vdf U D (fun i => num sr (i * U) U)) := by
      intro v hv
      obtain ⟨μ', e, g, u⟩ := ih fu (i + 1) (jsI μ 9 i (nI v)) (by omega) (by omega) (hfr.tr (Fr.I _ _ _ (by decide))) (fun k hk => by
        by_cases z : k = i
        · rw [z, jsI_s, hv]
        · rw [jsI_k _ _ z]
          exact hu k (by omega))
      refine ⟨μ', ?_, g, u⟩
      unfold f_X2_readUnits_70
      rw [jin_n (by omega) (by omega), nI_clamp (by omega), jlet_e, jl_1, nI_add, jlet_e]
      have e9 : pv (fun i => num sr (i * U) U) (i + 1) = num sr (i * U) U := by
        unfold pv
        rw [if_neg (by omega)]
        rfl
      rw [e9] at e
      exact e
    rw [f_X2_readUnits_19.eq_2, hfr.at (by decide), e0, if_neg (by rw [nI_leI (by omega) (by omega)]; omega), s_numberAt hcf hb hsf hiU, jcall_s, hcf.2.2.2.2]
    by_cases q : D = 1
    · rw [if_pos (by rw [q]; decide), s_modulo hb hcf epv, jcall_s]
      exact step _ (by unfold vdf; rw [if_pos q])
    · rw [if_neg (by rw [jl_1, nI_eq (by omega) (by omega)]; exact q)]
      exact step _ (by unfold vdf; rw [if_neg q])
theorem s_readUnits {μ : jM} {f U W M D n : Nat} {sr : Nat → Nat} (hb : CB f U W M D) (hc : CF μ f U W M D) (hs : OC μ 2 240 n sr) : ∃ μ', f_X2_readUnits μ = some ((), μ') ∧ Fr [6, 9] μ μ' ∧ μ'.1 6 7 = nI (n / U) ∧ UV μ' (n / U) (vdf U D (fun i => num sr (i * U) U)) := by
  have hn : n ≤ 240 := hs.2.1
  have g1 : Fr [6, 9] μ (jsI μ 6 7 (nI (n / U))) := Fr.I _ _ _ (by decide)
  obtain ⟨μ', e, g, u⟩ := s_readUnits_loop (n := n) (sr := sr) hb (hc.fr g1 (by decide)) (OC_fr hs g1 (by decide) (by decide)) rfl (jsI_s _ _ _ _) (n / U) jFU 0 _ (by unfold jFU; have := Nat.div_le_self n U; omega) (by omega) Fr.rf (fun i hi => absurd hi (by omega))
  unfold f_X2_readUnits
  rw [hs.1, s_unitsIn hc hb (by omega), jcall_s, jlet_e, jl_0]
  refine ⟨μ', e, g1.tr (g.up (by decide)), ?_, u⟩
  rw [g.at (by decide), jsI_s]
/-- the reference: nothing but its long row and its count -/
def VF (ν ν' : jM) : Prop := (∀ k, k ≠ 15 → ν'.1 0 k = ν.1 0 k) ∧ (∀ c, c ≠ 0 → ν'.1 c = ν.1 c)
theorem VF.rf {ν : jM} : VF ν ν := ⟨fun _ _ => rfl, fun _ _ => rfl⟩
theorem VF.tr {ν ν1 ν2 : jM} (h : VF ν ν1) (g : VF ν1 ν2) : VF ν ν2 := ⟨fun k hk => (g.1 k hk).trans (h.1 k hk), fun c h0 => (g.2 c h0).trans (h.2 c h0)⟩
theorem VF.J {ν : jM} (k : Nat) (v : Int64) : VF ν (jsJ ν 4 k v) := ⟨fun _ _ => rfl, fun _ _ => rfl⟩
theorem MF.vf {ν ν' : jM} {f U W M D : Nat} (hm : MF ν f U W M D) (h : VF ν ν') : MF ν' f U W M D := by
  obtain ⟨a1, a2, a3, a4, a5⟩ := hm
  exact ⟨(h.1 0 (by decide)).trans a1, (h.1 1 (by decide)).trans a2, (h.1 2 (by decide)).trans a3, (h.1 3 (by decide)).trans a4, (h.1 4 (by decide)).trans a5⟩
theorem s_take2 {f U W M D m : Nat} {nm : Nat → Nat} (hb : CB f U W M D) (hm : m ≤ 240) (hnm : ∀ i, i < m → nm i < 256 ^ U) (q : D = 1) :
    ∀ (j fu : Nat) (x : Int32) (ν : jM), j < fu → (j = 0 → x ≤ 0) → (0 < j → x = nI j) → j < m → MF ν f U W M D → (∀ k, k ≤ j → ν.2 4 k = lN (nm k)) → (∀ k, j < k → k < m → ν.2 4 k = lN (vdf U D nm k)) → ∃ ν', f_X6_takeUnits_47 fu x ν = some ((), ν') ∧ ν'.1 = ν.1 ∧ VL ν' m (vdf U D nm) := by
  obtain ⟨hf, hU, hW1, hW2, hM, hD, h2⟩ := id hb
  intro j
  induction j with
  | zero =>
    intro fu x ν hfu h0 h1 hj hmf ha hz
    obtain ⟨fu, rfl⟩ : ∃ g, fu = g + 1 := ⟨fu - 1, by omega⟩
    refine ⟨ν, ?_, rfl, fun i hi => ?_⟩
    · rw [f_X6_takeUnits_47.eq_2, if_pos (h0 rfl)]
    · by_cases z : i = 0
      · rw [z, ha 0 (by omega)]
        have := hnm 0 hj
        unfold vdf pv
        rw [if_pos q, if_pos rfl, Nat.sub_zero, Nat.add_mod_right, Nat.mod_eq_of_lt this]
      · exact hz i (by omega) hi
  | succ j ih =>
    intro fu x ν hfu h0 h1 hj hmf ha hz
    obtain ⟨fu, rfl⟩ : ∃ g, fu = g + 1 := ⟨fu - 1, by omega⟩
    have ex := h1 (by omega)
    have hb4 : nm j ≤ 4294967296 := Nat.le_of_lt (Nat.lt_of_lt_of_le (hnm j (by omega)) (p256_le (by omega)))
    obtain ⟨ν', e, g, u⟩ := ih fu (nI (j + 1) + (-1)) (jsJ ν 4 (j + 1) (lN (vdf U D nm (j + 1)))) (by omega) (fun z => by rw [z]; decide) (fun z => by rw [sb_m1 (by omega)]; rfl) (by omega) hmf
      (fun k hk => by rw [jsJ_k _ _ (by omega)]; exact ha k (by omega))
      (fun k hk hk2 => by
        by_cases z : k = j + 1
        · rw [z, jsJ_s]
        · rw [jsJ_k _ _ z]
          exact hz k (by omega) hk2)
    refine ⟨ν', ?_, g, u⟩
    have hv : vdf U D nm (j + 1) = (nm (j + 1) + 256 ^ U - nm j) % 256 ^ U := by
      unfold vdf pv
      rw [if_pos q, if_neg (by omega)]
      rfl
    rw [f_X6_takeUnits_47.eq_2, ex, if_neg (by rw [jl_0, nI_leI (by omega) (by omega)]; omega), hmf.2.2.2.2, if_pos (by rw [q]; decide), jin_n (by omega) (by omega), jl_1, pk_sub (by omega), Nat.add_sub_cancel, jin_n (by omega) (by omega), s_all hb hmf, jcall_s, nI_clamp (by omega), nI_clamp (by omega), ha (j + 1) (by omega), ha j (by omega), lN_subw hb4, lN_andm hU, wmod64 hU (hnm j (by omega)), ← hv, jin_n (by omega) (by omega), jlet_e, jlet_e]
    exact e
theorem s_take1 {ν0 : jM} {f U W M D n m : Nat} {sr : Nat → Nat} (hb : CB f U W M D) (hmf : MF ν0 f U W M D) (hs : ∀ i, i < n → sr i < 256 ∧ ν0.1 1 i = nI (sr i)) (hn : n ≤ 240) (hmn : m = n / U) (e0 : ν0.1 0 15 = nI m) :
    ∀ (j fu i : Nat) (ν : jM), j < fu → i + j = m → ν.1 = ν0.1 → VL ν i (fun i => num sr (i * U) U) → ∃ ν', f_X6_takeUnits_15 fu (nI i) ν = some ((), ν') ∧ ν'.1 = ν0.1 ∧ VL ν' m (vdf U D (fun i => num sr (i * U) U)) := by
  obtain ⟨hf, hU, hW1, hW2, hM, hD, h2⟩ := id hb
  have hm : m ≤ 240 := by rw [hmn]; exact Nat.le_trans (Nat.div_le_self _ _) hn
  intro j
  induction j with
  | zero =>
    intro fu i ν hfu hi h1 hv
    obtain ⟨fu, rfl⟩ : ∃ g, fu = g + 1 := ⟨fu - 1, by omega⟩
    obtain rfl : i = m := by omega
    have hmf' : MF ν f U W M D := by unfold MF; rw [h1]; exact hmf
    rw [f_X6_takeUnits_15.eq_2, h1, e0, if_pos (by rw [nI_leI (by omega) (by omega)]; omega), jlet_e]
    by_cases z : i = 0
    · refine ⟨ν, ?_, h1, fun k hk => absurd hk (by omega)⟩
      unfold jFU
      rw [f_X6_takeUnits_47.eq_2, if_pos (by rw [z]; decide)]
    · by_cases q : D = 1
      · obtain ⟨ν', e, g, u⟩ := s_take2 (nm := fun i => num sr (i * U) U) hb hm (fun k hk => num_lt U (fun k' hk' => (hs _ (by
          have := div_ge (n := n) (U := U) (i := k) (by omega) (by omega)
          omega)).1)) q (i - 1) jFU (nI i - 1) ν (by unfold jFU; omega) (fun y => by rw [show i = 1 by omega]; decide) (fun y => by rw [jl_1, pk_sub (by omega)]) (by omega) hmf' (fun k hk => hv k (by omega)) (fun k hk hk2 => absurd hk (by omega))
        exact ⟨ν', e, g.trans h1, u⟩
      · refine ⟨ν, ?_, h1, fun k hk => ?_⟩
        · unfold jFU
          rw [f_X6_takeUnits_47.eq_2, hmf'.2.2.2.2]
          have hd : ¬ nI D = 1 := by rw [jl_1, nI_eq (by omega) (by omega)]; exact q
          rw [if_neg hd]
          by_cases y : nI i - 1 ≤ 0
          · rw [if_pos y]
          · rw [if_neg y]
        · rw [hv k hk]
          unfold vdf
          rw [if_neg q]
  | succ j ih =>
    intro fu i ν hfu hi h1 hv
    obtain ⟨fu, rfl⟩ : ∃ g, fu = g + 1 := ⟨fu - 1, by omega⟩
    have hmf' : MF ν f U W M D := by unfold MF; rw [h1]; exact hmf
    have hs' : ∀ i, i < n → sr i < 256 ∧ ν.1 1 i = nI (sr i) := by rw [h1]; exact hs
    have hiU : i * U + U ≤ n := div_ge (by omega) (by omega)
    obtain ⟨ν', e, g, u⟩ := ih fu (i + 1) (jsJ ν 4 i (lN (num sr (i * U) U))) (by omega) (by omega) h1 (fun k hk => by
      by_cases z : k = i
      · rw [z, jsJ_s]
      · rw [jsJ_k _ _ z]
        exact hv k (by omega))
    refine ⟨ν', ?_, g, u⟩
    rw [f_X6_takeUnits_15.eq_2, h1, e0, if_neg (by rw [nI_leI (by omega) (by omega)]; omega), s_unitOf hmf' hb hs' hn hiU, jcall_s, jin_n (by omega) (by omega), nI_clamp (by omega), jlet_e, jl_1, nI_add, jlet_e]
    exact e
theorem s_takeVals {ν : jM} {f U W M D n : Nat} {sr : Nat → Nat} (hb : CB f U W M D) (hmf : MF ν f U W M D) (hs : MR ν 6 1 240 n sr) : ∃ ν', f_X6_takeUnits ν = some ((), ν') ∧ ν'.1 = (jsI ν 0 15 (nI (n / U))).1 ∧ VL ν' (n / U) (vdf U D (fun i => num sr (i * U) U)) := by
  obtain ⟨hf, hU, hW1, hW2, hM, hD, h2⟩ := id hb
  have hn : n ≤ 240 := hs.2.1
  have hmf' : MF (jsI ν 0 15 (nI (n / U))) f U W M D := by
    obtain ⟨a1, a2, a3, a4, a5⟩ := hmf
    refine ⟨?_, ?_, ?_, ?_, ?_⟩ <;> rw [jsI_k _ _ (by decide)] <;> assumption
  obtain ⟨ν', e, g, u⟩ := s_take1 (n := n) (sr := sr) hb hmf' (fun i hi => by rw [jsI_c _ _ _ (by decide)]; exact hs.2.2.2 i hi) hn rfl (jsI_s _ _ _ _) (n / U) jFU 0 _ (by unfold jFU; have := Nat.div_le_self n U; omega) (by omega) rfl (fun i hi => absurd hi (by omega))
  unfold f_X6_takeUnits
  rw [hmf.2.1, hs.1, jnz_n (by omega) (by omega), pk_div (by omega) (by omega) (by omega), jlet_e, jl_0]
  exact ⟨ν', e, g, u⟩
