/-! the small questions of both packers -/
def rc (f U : Nat) : Nat := if f = 0 then 2 + U else if f = 1 then 1 + U else 2
def sc (f U n : Nat) : Nat := if f = 0 then U else if f = 1 then 1 + n * U else 2 + n + n % 2
def mst (f : Nat) : Nat := if f = 0 then 1 else if f = 1 then 128 else 255
def lst (f : Nat) : Nat := if f = 2 then 3 else 1
def lrn (f : Nat) : Nat := if f = 1 then 2 else 1
def mrn (f : Nat) : Nat := if f = 1 then 128 else 255
def RR (f : Nat) (vl : Nat → Nat) (e i : Nat) : Nat := min (lk vl e i) (mrn f)
abbrev mkd (f U M : Nat) (vl : Nat → Nat) (i : Nat) : Prop := f = 0 ∧ dgt (vl i) (U - 1) = M
theorem f3 {f U W M D : Nat} (hb : CB f U W M D) : f = 0 ∨ f = 1 ∨ f = 2 := by
  have := hb.1
  omega
theorem s_lengthRun {μ : jM} {f U W M D : Nat} (hb : CB f U W M D) (hc : CF μ f U W M D) : f_X2_lengthRun μ = some (nI (rc f U), μ) := by
  unfold f_X2_lengthRun rc
  rw [hc.1, hc.2.1]
  rcases f3 hb with q | q | q <;> subst q
  · rw [if_pos (show nI 0 = 0 by decide), if_pos rfl, jl_2, nI_add]
  · rw [if_neg (show ¬ nI 1 = 0 by decide), if_pos (show nI 1 = 1 by decide), if_neg (by decide), if_pos rfl, jl_1, nI_add]
  · rw [if_neg (show ¬ nI 2 = 0 by decide), if_neg (show ¬ nI 2 = 1 by decide), if_neg (by decide), if_neg (by decide), jl_2]
theorem s_runCost {ν : jM} {f U W M D : Nat} (hb : CB f U W M D) (hc : MF ν f U W M D) : f_X6_runCost ν = some (nI (rc f U), ν) := by
  unfold f_X6_runCost rc
  rw [hc.1, hc.2.1]
  rcases f3 hb with q | q | q <;> subst q
  · rw [if_pos (show nI 0 = 0 by decide), if_pos rfl, jl_2, nI_add]
  · rw [if_neg (show ¬ nI 1 = 0 by decide), if_pos (show nI 1 = 1 by decide), if_neg (by decide), if_pos rfl, jl_1, nI_add]
  · rw [if_neg (show ¬ nI 2 = 0 by decide), if_neg (show ¬ nI 2 = 1 by decide), if_neg (by decide), if_neg (by decide), jl_2]
theorem s_lengthThem {μ : jM} {f U W M D n : Nat} (hb : CB f U W M D) (hc : CF μ f U W M D) (hn : n ≤ 255) : f_X2_lengthThemselves (nI n) μ = some (nI (sc f U n), μ) := by
  unfold f_X2_lengthThemselves sc
  rw [hc.1, hc.2.1]
  rcases f3 hb with q | q | q <;> subst q
  · rw [if_pos (show nI 0 = 0 by decide), if_pos rfl]
  · rw [if_neg (show ¬ nI 1 = 0 by decide), if_pos (show nI 1 = 1 by decide), if_neg (by decide), if_pos rfl, jl_1, pk_mul, nI_add]
  · rw [if_neg (show ¬ nI 2 = 0 by decide), if_neg (show ¬ nI 2 = 1 by decide), if_neg (by decide), if_neg (by decide), jl_2, jl_1, nI_and1 (by omega), nI_add, nI_add]
theorem s_selfCost {ν : jM} {f U W M D n : Nat} (hb : CB f U W M D) (hc : MF ν f U W M D) (hn : n ≤ 255) : f_X6_selfCost (nI n) ν = some (nI (sc f U n), ν) := by
  unfold f_X6_selfCost sc
  rw [hc.1, hc.2.1]
  rcases f3 hb with q | q | q <;> subst q
  · rw [if_pos (show nI 0 = 0 by decide), if_pos rfl]
  · rw [if_neg (show ¬ nI 1 = 0 by decide), if_pos (show nI 1 = 1 by decide), if_neg (by decide), if_pos rfl, jl_1, pk_mul, nI_add]
  · rw [if_neg (show ¬ nI 2 = 0 by decide), if_neg (show ¬ nI 2 = 1 by decide), if_neg (by decide), if_neg (by decide), jl_2, jnz_n (by omega) (by omega), nI_rem2 (by omega), nI_add, nI_add]
theorem s_mostThem {μ : jM} {f U W M D : Nat} (hb : CB f U W M D) (hc : CF μ f U W M D) : f_X2_mostThemselves μ = some (nI (mst f), μ) := by
  unfold f_X2_mostThemselves mst
  rw [hc.1]
  rcases f3 hb with q | q | q <;> subst q
  · rw [if_pos (show nI 0 = 0 by decide), if_pos rfl, jl_1]
  · rw [if_neg (show ¬ nI 1 = 0 by decide), if_pos (show nI 1 = 1 by decide), if_neg (by decide), if_pos rfl, jl_128]
  · rw [if_neg (show ¬ nI 2 = 0 by decide), if_neg (show ¬ nI 2 = 1 by decide), if_neg (by decide), if_neg (by decide), jl_255]
theorem s_leastThem {μ : jM} {f U W M D : Nat} (hb : CB f U W M D) (hc : CF μ f U W M D) : f_X2_leastThemselves μ = some (nI (lst f), μ) := by
  unfold f_X2_leastThemselves lst
  rw [hc.1]
  rcases f3 hb with q | q | q <;> subst q
  · rw [if_neg (show ¬ nI 0 = 2 by decide), if_neg (by decide), jl_1]
  · rw [if_neg (show ¬ nI 1 = 2 by decide), if_neg (by decide), jl_1]
  · rw [if_pos (show nI 2 = 2 by decide), if_pos rfl, jl_3]
theorem s_leastRun {μ : jM} {f U W M D : Nat} (hb : CB f U W M D) (hc : CF μ f U W M D) : f_X2_leastRun μ = some (nI (lrn f), μ) := by
  unfold f_X2_leastRun lrn
  rw [hc.1]
  rcases f3 hb with q | q | q <;> subst q
  · rw [if_neg (show ¬ nI 0 = 1 by decide), if_neg (by decide), jl_1]
  · rw [if_pos (show nI 1 = 1 by decide), if_pos rfl, jl_2]
  · rw [if_neg (show ¬ nI 2 = 1 by decide), if_neg (by decide), jl_1]
theorem s_mostRun {ν : jM} {f U W M D : Nat} (hb : CB f U W M D) (hc : MF ν f U W M D) : f_X6_mostRun ν = some (nI (mrn f), ν) := by
  unfold f_X6_mostRun mrn
  rw [hc.1]
  rcases f3 hb with q | q | q <;> subst q
  · rw [if_neg (show ¬ nI 0 = 1 by decide), if_neg (by decide), jl_255]
  · rw [if_pos (show nI 1 = 1 by decide), if_pos rfl, jl_128]
  · rw [if_neg (show ¬ nI 2 = 1 by decide), if_neg (by decide), jl_255]
theorem nI_min {a b : Nat} (ha : a ≤ 1000) (hb : b ≤ 1000) : (if nI a < nI b then nI a else nI b) = nI (min b a) := by
  by_cases q : a < b
  · rw [if_pos (by rw [nI_ltI (by omega) (by omega)]; exact q), Nat.min_eq_right (by omega)]
  · rw [if_neg (by rw [nI_ltI (by omega) (by omega)]; exact q), Nat.min_eq_left (by omega)]
theorem s_runAt {μ : jM} {f U W M D e i : Nat} {vl : Nat → Nat} (hb : CB f U W M D) (hc : CF μ f U W M D) (ha : μ.1 10 i = nI (lk vl e i)) (hi : i < e) (he : e ≤ 240) : f_X2_runAt (nI i) μ = some (nI (RR f vl e i), μ) := by
  have h1 := lk_le' (vl := vl) (show i ≤ e by omega)
  unfold f_X2_runAt f_X2_runAt_26 RR mrn
  rw [jin_n (by omega) (by omega), nI_clamp (by omega), hc.1, ha]
  rcases f3 hb with q | q | q <;> subst q
  · rw [if_neg (show ¬ nI 0 = 1 by decide), if_neg (show ¬ (0 : Nat) = 1 by decide), jl_255, nI_min (by omega) (by omega)]
  · rw [if_pos (show nI 1 = 1 by decide), if_pos rfl, jl_128, nI_min (by omega) (by omega)]
  · rw [if_neg (show ¬ nI 2 = 1 by decide), if_neg (show ¬ (2 : Nat) = 1 by decide), jl_255, nI_min (by omega) (by omega)]
theorem s_begins {μ : jM} {f U W M D m i : Nat} {vl : Nat → Nat} (hb : CB f U W M D) (hc : CF μ f U W M D) (hv : UV μ m vl) (hi : i < m) (hm : m ≤ 240) : f_X2_beginsWithMark (nI i) μ = some (if mkd f U M vl i then nI 1 else nI 0, μ) := by
  obtain ⟨hf, hU, hW1, hW2, hM, hD, h2⟩ := id hb
  unfold f_X2_beginsWithMark f_X2_beginsWithMark_38
  rw [hc.1]
  by_cases q : f = 0
  · have hd := dgt_lt (vl i) (U - 1 - 0)
    rw [if_pos (by rw [q]; decide), jin_n (by omega) (by omega), nI_clamp (by omega), hv i hi, jl_0, s_byteOf hb hc (by omega), jcall_s, hc.2.2.2.1]
    by_cases q2 : dgt (vl i) (U - 1 - 0) = M
    · rw [if_pos (by rw [q2]), if_pos ⟨q, q2⟩, jl_1, jbl_1]
    · rw [if_neg (by rw [nI_eq (by omega) (by omega)]; exact q2), if_neg (fun z => q2 z.2), jbl_0]
  · rw [if_neg (by rw [jl_0, nI_eq (by omega) (by omega)]; exact q), if_neg (fun z => q z.1), jl_0, jbl_0]
theorem s_isMarked {ν : jM} {f U W M D m i : Nat} {vl : Nat → Nat} (hb : CB f U W M D) (hc : MF ν f U W M D) (hV : VL ν m vl) (hvl : ∀ i, i < m → vl i < 256 ^ U) (hi : i < m) (hm : m ≤ 240) (q : f = 0) : f_X6_isMarked (nI i) ν = some (if mkd f U M vl i then nI 1 else nI 0, ν) := by
  obtain ⟨hf, hU, hW1, hW2, hM, hD, h2⟩ := id hb
  have hv := hvl i hi
  have hv4 : vl i < 4294967296 := Nat.lt_of_lt_of_le hv (p256_le (by omega))
  have hd : vl i / 256 ^ (U - 1) < 256 := by
    rw [Nat.div_lt_iff_lt_mul (p256_pos _)]
    have : 256 * 256 ^ (U - 1) = 256 ^ U := by
      rw [Nat.mul_comm, ← Nat.pow_succ]
      congr 1
      omega
    omega
  unfold f_X6_isMarked
  rw [jin_n (by omega) (by omega), nI_clamp (by omega), hV i hi, hc.2.1, hc.2.2.2.1, jl_1, pk_sub (by omega), jl_8, pk_mul, pf_shr (hl8 (U - 1) (by omega)) (by omega), p2_256, nI_l (by omega)]
  have ed : dgt (vl i) (U - 1) = vl i / 256 ^ (U - 1) := by unfold dgt; rw [Nat.mod_eq_of_lt hd]
  by_cases q2 : dgt (vl i) (U - 1) = M
  · rw [if_pos (by rw [lg_cmp_eq, ← ed, q2]), if_pos ⟨q, q2⟩, jbl_1]
  · rw [if_neg (by rw [lg_cmp_eq, ← ed, lN_inj (by omega) (by omega)]; exact q2), if_neg (fun z => q2 z.2), jl_0, jbl_0]
/-- so many may stand by themselves here -/
def msd (f U M : Nat) (vl : Nat → Nat) (e i n : Nat) : Prop := lst f ≤ n ∧ n ≤ mst f ∧ i + n ≤ e ∧ ¬ mkd f U M vl i
theorem s_mayStand {ν : jM} {f U W M D m i e n : Nat} {vl : Nat → Nat} (hb : CB f U W M D) (hc : MF ν f U W M D) (hV : VL ν m vl) (hvl : ∀ i, i < m → vl i < 256 ^ U) (hm : m ≤ 240) (hem : e ≤ m) (hn : 1 ≤ n) (hie : i + n ≤ e) :
    msd f U M vl e i n ∧ f_X6_mayStand (nI i) (nI n) ν = some (nI 1, ν) ∨ ¬ msd f U M vl e i n ∧ f_X6_mayStand (nI i) (nI n) ν = some (nI 0, ν) := by
  obtain ⟨hf, hU, hW1, hW2, hM, hD, h2⟩ := id hb
  unfold f_X6_mayStand f_X6_mayStand_24 msd
  rw [hc.1]
  rcases f3 hb with q | q | q
  · rw [if_pos (by rw [q]; decide)]
    have e1 : lst f = 1 := by unfold lst; rw [if_neg (by omega)]
    have e2 : mst f = 1 := by unfold mst; rw [if_pos q]
    by_cases q1 : n = 1
    · rw [if_pos (by rw [q1]; decide), s_isMarked hb hc hV hvl (by omega) hm q, jcall_s]
      by_cases q2 : mkd f U M vl i
      · rw [if_pos q2, if_neg (by decide), jl_0, jbl_0]
        exact Or.inr ⟨fun z => z.2.2.2 q2, rfl⟩
      · rw [if_neg q2, if_pos (by decide), jl_1, jbl_1]
        exact Or.inl ⟨⟨by omega, by omega, hie, q2⟩, rfl⟩
    · rw [if_neg (by rw [jl_1, nI_eq (by omega) (by omega)]; exact q1), jl_0, jbl_0]
      exact Or.inr ⟨fun z => by omega, rfl⟩
  · rw [if_neg (by rw [q]; decide), if_pos (by rw [q]; decide)]
    have e1 : lst f = 1 := by unfold lst; rw [if_neg (by omega)]
    have e2 : mst f = 128 := by unfold mst; rw [if_neg (by omega), if_pos q]
    by_cases q1 : n ≤ 128
    · rw [jl_1, jl_128, s_inT (by rw [nI_ltI (by omega) (by omega)]; omega) (by rw [nI_ltI (by omega) (by omega)]; omega), jcall_s, jbl_1]
      exact Or.inl ⟨⟨by omega, by omega, hie, fun z => by have := z.1; omega⟩, rfl⟩
    · rw [jl_1, jl_128, s_inF (Or.inr (by rw [nI_ltI (by omega) (by omega)]; omega)), jcall_s, jbl_0]
      exact Or.inr ⟨fun z => by omega, rfl⟩
  · rw [if_neg (by rw [q]; decide), if_neg (by rw [q]; decide)]
    have e1 : lst f = 3 := by unfold lst; rw [if_pos q]
    have e2 : mst f = 255 := by unfold mst; rw [if_neg (by omega), if_neg (by omega)]
    by_cases q1 : 3 ≤ n
    · rw [jl_3, jl_255, s_inT (by rw [nI_ltI (by omega) (by omega)]; omega) (by rw [nI_ltI (by omega) (by omega)]; omega), jcall_s, jbl_1]
      exact Or.inl ⟨⟨by omega, by omega, hie, fun z => by have := z.1; omega⟩, rfl⟩
    · rw [jl_3, jl_255, s_inF (Or.inl (by rw [nI_ltI (by omega) (by omega)]; omega)), jcall_s, jbl_0]
      exact Or.inr ⟨fun z => by omega, rfl⟩
theorem lst_ge (f : Nat) : 1 ≤ lst f := by unfold lst; split <;> omega
theorem mst_le (f : Nat) : mst f ≤ 255 ∧ 1 ≤ mst f := by unfold mst; split <;> (try split) <;> omega
theorem mrn_le (f : Nat) : mrn f ≤ 255 ∧ 1 ≤ mrn f := by unfold mrn; split <;> omega
theorem sc_le {f U W M D n : Nat} (hb : CB f U W M D) (hn : n ≤ 255) : sc f U n ≤ 1500 := by
  obtain ⟨hf, hU, hW1, hW2, hM, hD, h2⟩ := id hb
  unfold sc
  rcases hU with q | q | q <;> subst q <;> split <;> (try split) <;> omega
theorem rc_le {f U W M D : Nat} (hb : CB f U W M D) : rc f U ≤ 6 := by
  obtain ⟨hf, hU, hW1, hW2, hM, hD, h2⟩ := id hb
  unfold rc
  split <;> (try split) <;> omega
theorem RR_b {f : Nat} {vl : Nat → Nat} {e i : Nat} (h : i < e) : 1 ≤ RR f vl e i ∧ RR f vl e i ≤ mrn f ∧ i + RR f vl e i ≤ e := by
  have h1 := lk_pos (vl := vl) h
  have h2 := lk_le' (vl := vl) (show i ≤ e by omega)
  have h3 := mrn_le f
  unfold RR
  omega
