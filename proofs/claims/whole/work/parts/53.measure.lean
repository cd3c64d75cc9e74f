/-! how many like units from here on; where only noughts are left -/
def lkd (vl : Nat → Nat) : Nat → Nat → Nat
  | _, 0 => 0
  | i, d + 1 => if d ≠ 0 ∧ vl i = vl (i + 1) then lkd vl (i + 1) d + 1 else 1
def lk (vl : Nat → Nat) (e i : Nat) : Nat := lkd vl i (e - i)
theorem lk_rec {vl : Nat → Nat} {e i : Nat} (h : i < e) : lk vl e i = if i + 1 < e ∧ vl i = vl (i + 1) then lk vl e (i + 1) + 1 else 1 := by
  unfold lk
  rw [show e - i = (e - (i + 1)) + 1 by omega, lkd]
  by_cases q : e - (i + 1) ≠ 0 ∧ vl i = vl (i + 1)
  · rw [if_pos q, if_pos ⟨by omega, q.2⟩]
  · rw [if_neg q, if_neg (fun z => q ⟨by omega, z.2⟩)]
theorem lk_pos {vl : Nat → Nat} {e i : Nat} (h : i < e) : 1 ≤ lk vl e i := by
  rw [lk_rec h]
  split <;> omega
theorem lk_le {vl : Nat → Nat} {e : Nat} : ∀ (d i : Nat), i + d = e → i + lk vl e i ≤ e
  | 0, i, h => by unfold lk; rw [show e - i = 0 by omega, lkd]; omega
  | d + 1, i, h => by
    have ih := lk_le (vl := vl) (e := e) d (i + 1) (by omega)
    rw [lk_rec (by omega)]
    split <;> omega
theorem lk_le' {vl : Nat → Nat} {e i : Nat} (h : i ≤ e) : i + lk vl e i ≤ e := lk_le (e - i) i (by omega)
theorem lk_eq {vl : Nat → Nat} {e : Nat} : ∀ (d i : Nat), i + d = e → ∀ r, r < lk vl e i → vl (i + r) = vl i
  | 0, i, h, r, hr => by unfold lk at hr; rw [show e - i = 0 by omega, lkd] at hr; omega
  | d + 1, i, h, r, hr => by
    have ih := lk_eq (vl := vl) (e := e) d (i + 1) (by omega)
    rw [lk_rec (by omega)] at hr
    by_cases q : i + 1 < e ∧ vl i = vl (i + 1)
    · rw [if_pos q] at hr
      by_cases z : r = 0
      · rw [z]; rfl
      · have := ih (r - 1) (by omega)
        rw [show i + 1 + (r - 1) = i + r by omega] at this
        rw [this, q.2]
    · rw [if_neg q] at hr
      rw [show r = 0 by omega]; rfl
theorem lk_ne {vl : Nat → Nat} {e : Nat} : ∀ (d i : Nat), i + d = e → i + lk vl e i < e → vl (i + lk vl e i) ≠ vl i
  | 0, i, h, hr => by omega
  | d + 1, i, h, hr => by
    have ih := lk_ne (vl := vl) (e := e) d (i + 1) (by omega)
    rw [lk_rec (by omega)] at hr ⊢
    by_cases q : i + 1 < e ∧ vl i = vl (i + 1)
    · rw [if_pos q] at hr ⊢
      have := ih (by omega)
      rw [show i + (lk vl e (i + 1) + 1) = i + 1 + lk vl e (i + 1) by omega, q.2]
      exact this
    · rw [if_neg q] at hr ⊢
      exact fun z => q ⟨hr, z.symm⟩
def rs0 (vl : Nat → Nat) (fr : Nat) : Nat → Nat
  | 0 => 0
  | e + 1 => if fr < e + 1 ∧ vl e = 0 then rs0 vl fr e else e + 1
theorem rs0_self (vl : Nat → Nat) : ∀ i, rs0 vl i i = i
  | 0 => rfl
  | i + 1 => by rw [rs0, if_neg (fun z => by omega)]
theorem rs0_step {vl : Nat → Nat} {i : Nat} : ∀ (e : Nat), i < e → rs0 vl i e = if rs0 vl (i + 1) e = i + 1 ∧ vl i = 0 then i else rs0 vl (i + 1) e := by
  intro e
  induction e with
  | zero => intro h; omega
  | succ e ih =>
    intro h
    by_cases z : i = e
    · subst z
      rw [rs0_self, rs0, rs0_self]
      by_cases q : vl i = 0
      · rw [if_pos ⟨by omega, q⟩, if_pos ⟨rfl, q⟩]
      · rw [if_neg (fun y => q y.2), if_neg (fun y => q y.2)]
    · have ih := ih (by omega)
      by_cases q : vl e = 0
      · have k1 : rs0 vl i (e + 1) = rs0 vl i e := by rw [rs0, if_pos ⟨by omega, q⟩]
        have k2 : rs0 vl (i + 1) (e + 1) = rs0 vl (i + 1) e := by rw [rs0, if_pos ⟨by omega, q⟩]
        rw [k1, k2]
        exact ih
      · have k1 : rs0 vl i (e + 1) = e + 1 := by rw [rs0, if_neg (fun y => q y.2)]
        have k2 : rs0 vl (i + 1) (e + 1) = e + 1 := by rw [rs0, if_neg (fun y => q y.2)]
        rw [k1, k2, if_neg (fun y => by omega)]
theorem rs0_le {vl : Nat → Nat} {fr : Nat} : ∀ e, rs0 vl fr e ≤ e
  | 0 => Nat.le_refl _
  | e + 1 => by
    have := rs0_le (vl := vl) (fr := fr) e
    rw [rs0]
    split <;> omega
theorem rs0_ge {vl : Nat → Nat} {fr : Nat} : ∀ e, fr ≤ e → fr ≤ rs0 vl fr e
  | 0, h => h
  | e + 1, h => by
    rw [rs0]
    by_cases q : fr < e + 1 ∧ vl e = 0
    · rw [if_pos q]
      exact rs0_ge e (by omega)
    · rw [if_neg q]
      exact h
def rst (f : Nat) (vl : Nat → Nat) (fr e : Nat) : Nat := if f = 2 then rs0 vl fr e else e
theorem rst_le {f : Nat} {vl : Nat → Nat} {fr e : Nat} : rst f vl fr e ≤ e := by
  unfold rst
  split
  · exact rs0_le e
  · omega
theorem jm1 (x : Int32) : x + (-1) = x - 1 := by rw [Int32.sub_eq_add_neg]
theorem jdec : ∀ n, n < 242 → nI n - 1 < nI n := by decide +kernel
theorem s_measure_loop {μ0 : jM} {f U W M D m fr e : Nat} {vl : Nat → Nat} (hb : CB f U W M D) (hc : CF μ0 f U W M D) (hv : UV μ0 m vl) (hm : m ≤ 240) (hem : e ≤ m) (hvl : ∀ i, i < m → vl i < 256 ^ U) (e8 : μ0.1 6 8 = nI e) :
    ∀ (j fu : Nat) (μ : jM), j < fu → fr + j ≤ e → Fr [6, 10] μ0 μ → μ.1 6 7 = μ0.1 6 7 → μ.1 6 8 = nI e → μ.1 6 9 = nI (rst f vl (fr + j) e) → (∀ i, fr + j ≤ i → i < e → μ.1 10 i = nI (lk vl e i)) →
    ∃ μ', f_X2_measure_15 fu (nI fr) (nI (fr + j) - 1) μ = some ((), μ') ∧ Fr [6, 10] μ0 μ' ∧ μ'.1 6 7 = μ0.1 6 7 ∧ μ'.1 6 8 = nI e ∧ μ'.1 6 9 = nI (rst f vl fr e) ∧ ∀ i, fr ≤ i → i < e → μ'.1 10 i = nI (lk vl e i) := by
  obtain ⟨hf, hU, hW1, hW2, hM, hD, h2⟩ := id hb
  have hv4 : ∀ i, i < m → vl i < 4294967296 := fun i hi => Nat.lt_of_lt_of_le (hvl i hi) (p256_le (by omega))
  intro j
  induction j with
  | zero =>
    intro fu μ hfu hj hfr e7 e8 e9 ha
    obtain ⟨fu, rfl⟩ : ∃ g, fu = g + 1 := ⟨fu - 1, by omega⟩
    refine ⟨μ, ?_, hfr, e7, e8, e9, ha⟩
    rw [f_X2_measure_15.eq_2, Nat.add_zero, if_pos (jdec fr (by omega))]
  | succ j ih =>
    intro fu μ hfu hj hfr e7 e8 e9 ha
    obtain ⟨fu, rfl⟩ : ∃ g, fu = g + 1 := ⟨fu - 1, by omega⟩
    obtain ⟨i, hi⟩ : ∃ i, i = fr + j := ⟨_, rfl⟩
    have ei : nI (fr + (j + 1)) - 1 = nI i := by rw [jl_1, pk_sub (by omega), hi]; rfl
    rw [← Nat.add_assoc, ← hi] at e9 ha
    have hcf := hc.fr hfr (by decide)
    have u0 : μ.1 9 i = nI (vl i) := by rw [hfr.at (by decide)]; exact hv i (by omega)
    have nx : ∀ (μ' : jM), Fr [6, 10] μ0 μ' → μ'.1 6 7 = μ0.1 6 7 → μ'.1 6 8 = nI e → μ'.1 6 9 = nI (rst f vl i e) → (∀ k, i ≤ k → k < e → μ'.1 10 k = nI (lk vl e k)) →
      ∃ μ9, f_X2_measure_112 (fun x1 x2 μ => f_X2_measure_15 fu x1 x2 μ) (nI fr) (nI i) μ' = some ((), μ9) ∧ Fr [6, 10] μ0 μ9 ∧ μ9.1 6 7 = μ0.1 6 7 ∧ μ9.1 6 8 = nI e ∧ μ9.1 6 9 = nI (rst f vl fr e) ∧ ∀ i, fr ≤ i → i < e → μ9.1 10 i = nI (lk vl e i) := by
      intro μ' a1 a2 a3 a4 a5
      rw [hi] at a4 a5
      obtain ⟨μ9, b1, b2⟩ := ih fu μ' (by omega) (by omega) a1 a2 a3 a4 a5
      refine ⟨μ9, ?_, b2⟩
      unfold f_X2_measure_112
      rw [jlet_e, jm1, hi]
      exact b1
    have st : ∀ (v : Nat), v = lk vl e i → ∃ μ9, f_X2_measure_76 (fun x1 x2 μ => f_X2_measure_15 fu x1 x2 μ) (nI fr) (nI i) (nI v) (nI i) μ = some ((), μ9) ∧ Fr [6, 10] μ0 μ9 ∧ μ9.1 6 7 = μ0.1 6 7 ∧ μ9.1 6 8 = nI e ∧ μ9.1 6 9 = nI (rst f vl fr e) ∧ ∀ i, fr ≤ i → i < e → μ9.1 10 i = nI (lk vl e i) := by
      intro v hv'
      have a0 : ∀ k, i ≤ k → k < e → (jsI μ 10 i (nI v)).1 10 k = nI (lk vl e k) := fun k hk hk2 => by
        by_cases z : k = i
        · rw [z, jsI_s, hv']
        · rw [jsI_k _ _ z]; exact ha k (by omega) hk2
      have a1 : Fr [6, 10] μ0 (jsI μ 10 i (nI v)) := hfr.tr (Fr.I _ _ _ (by decide))
      have a2 : (jsI μ 10 i (nI v)).1 6 7 = μ0.1 6 7 := by rw [jsI_c _ _ _ (by decide)]; exact e7
      have a3 : (jsI μ 10 i (nI v)).1 6 8 = nI e := by rw [jsI_c _ _ _ (by decide)]; exact e8
      have a4 : (jsI μ 10 i (nI v)).1 6 9 = nI (rst f vl (i + 1) e) := by rw [jsI_c _ _ _ (by decide)]; exact e9
      have a5 : (jsI μ 10 i (nI v)).1 1 0 = nI f := by rw [jsI_c _ _ _ (by decide)]; exact hcf.1
      have a6 : (jsI μ 10 i (nI v)).1 9 i = nI (vl i) := by rw [jsI_c _ _ _ (by decide)]; exact u0
      unfold f_X2_measure_76
      rw [jin_n (by omega) (by omega), nI_clamp (by omega), jlet_e, a5, a4, a6]
      by_cases q : f = 2
      · have eq : rst f vl (i + 1) e = rs0 vl (i + 1) e := by unfold rst; rw [if_pos q]
        have eq' : rst f vl i e = if rs0 vl (i + 1) e = i + 1 ∧ vl i = 0 then i else rs0 vl (i + 1) e := by unfold rst; rw [if_pos q, rs0_step e (by omega)]
        have hr := rs0_le (vl := vl) (fr := i + 1) e
        rw [if_pos (by rw [q]; decide), jl_1, nI_add, eq]
        by_cases q1 : rs0 vl (i + 1) e = i + 1
        · rw [if_pos (by rw [q1]), jin_n (by omega) (by omega)]
          by_cases q2 : vl i = 0
          · rw [if_pos (by rw [q2]; decide), jlet_e]
            refine nx _ (a1.tr (Fr.I _ _ _ (by decide))) (by rw [jsI_k _ _ (by decide)]; exact a2) (by rw [jsI_k _ _ (by decide)]; exact a3) (by rw [jsI_s, eq', if_pos ⟨q1, q2⟩]) (fun k hk hk2 => by rw [jsI_c _ _ _ (by decide)]; exact a0 k hk hk2)
          · rw [if_neg (by rw [jl_0, nI_inj32 (hv4 i (by omega)) (by omega)]; exact q2)]
            exact nx _ a1 a2 a3 (by rw [a4, eq, eq', if_neg (fun z => q2 z.2)]) a0
        · rw [if_neg (by rw [nI_eq (by omega) (by omega)]; exact q1)]
          exact nx _ a1 a2 a3 (by rw [a4, eq, eq', if_neg (fun z => q1 z.1)]) a0
      · rw [if_neg (by rw [jl_2, nI_eq (by omega) (by omega)]; exact q)]
        refine nx _ a1 a2 a3 ?_ a0
        rw [a4]
        unfold rst
        rw [if_neg q, if_neg q]
    rw [f_X2_measure_15.eq_2, ei, if_neg (by rw [nI_ltI (by omega) (by omega)]; omega), e8, jl_1, nI_add]
    have hk := lk_rec (vl := vl) (show i < e by omega)
    by_cases q : i + 1 < e
    · have u1 : μ.1 9 (i + 1) = nI (vl (i + 1)) := by rw [hfr.at (by decide)]; exact hv _ (by omega)
      rw [if_neg (by rw [nI_leI (by omega) (by omega)]; omega), jin_n (by omega) (by omega), jin_n (by omega) (by omega), nI_clamp (by omega), nI_clamp (by omega), u0, u1]
      by_cases q2 : vl i = vl (i + 1)
      · rw [if_pos ⟨q, q2⟩] at hk
        rw [if_pos (by rw [q2])]
        unfold f_X2_measure_52
        rw [if_neg (by decide), jl_1, nI_add, jin_n (by omega) (by omega), nI_clamp (by omega), ha (i + 1) (by omega) q, nI_add]
        exact st _ hk.symm
      · rw [if_neg (fun z => q2 z.2)] at hk
        rw [if_neg (by rw [nI_inj32 (hv4 i (by omega)) (hv4 _ (by omega))]; exact q2)]
        unfold f_X2_measure_51 f_X2_measure_52
        rw [if_pos rfl, jl_1]
        exact st _ hk.symm
    · rw [if_neg (fun z => q z.1)] at hk
      rw [if_pos (by rw [nI_leI (by omega) (by omega)]; omega)]
      unfold f_X2_measure_51 f_X2_measure_52
      rw [if_pos rfl, jl_1]
      exact st _ hk.symm
theorem s_measure {μ : jM} {f U W M D m fr e : Nat} {vl : Nat → Nat} (hb : CB f U W M D) (hc : CF μ f U W M D) (hv : UV μ m vl) (hm : m ≤ 240) (hfe : fr ≤ e) (hem : e ≤ m) (hvl : ∀ i, i < m → vl i < 256 ^ U) (e8 : μ.1 6 8 = nI e) :
    ∃ μ', f_X2_measure (nI fr) μ = some ((), μ') ∧ Fr [6, 10] μ μ' ∧ μ'.1 6 7 = μ.1 6 7 ∧ μ'.1 6 8 = nI e ∧ μ'.1 6 9 = nI (rst f vl fr e) ∧ ∀ i, fr ≤ i → i < e → μ'.1 10 i = nI (lk vl e i) := by
  have g1 : Fr [6, 10] μ (jsI μ 6 9 (nI e)) := Fr.I _ _ _ (by decide)
  have f1 : Fr [6] μ (jsI μ 6 9 (nI e)) := Fr.I _ _ _ (by decide)
  have r0 : rst f vl e e = e := by unfold rst; rw [rs0_self]; split <;> rfl
  have k8 : (jsI μ 6 9 (nI e)).1 6 8 = nI e := by rw [jsI_k _ _ (by decide)]; exact e8
  obtain ⟨μ', e1, e2, e3, e4⟩ := s_measure_loop (fr := fr) (m := m) (e := e) (vl := vl) hb (hc.fr g1 (by decide)) (fun i hi => by rw [f1.at (by decide)]; exact hv i hi) hm hem hvl k8 (e - fr) jFU _ (by unfold jFU; omega) (by omega) Fr.rf rfl k8 (by rw [jsI_s, show fr + (e - fr) = e by omega, r0]) (fun i h1 h2 => absurd h1 (by omega))
  unfold f_X2_measure
  rw [e8, jlet_e, k8, jlet_e]
  rw [show fr + (e - fr) = e by omega] at e1
  exact ⟨μ', e1, g1.tr e2, e3.trans (jsI_k _ _ (by decide)), e4⟩
theorem lN_inj {a b : Nat} (ha : a < 4294967296) (hb : b < 4294967296) : lN a = lN b ↔ a = b := by
  refine ⟨fun h => ?_, fun h => by rw [h]⟩
  have := congrArg (fun z => z.toBitVec.toNat) h
  simp only [wb_tn (show a < 2 ^ 64 by omega), wb_tn (show b < 2 ^ 64 by omega)] at this
  exact this
theorem lN_z : (0 : Int64) = lN 0 := rfl
theorem s_likes_loop {ν : jM} {m i e mo : Nat} {vl : Nat → Nat} (hV : VL ν m vl) (hm : m ≤ 240) (hem : e ≤ m) (hv4 : ∀ i, i < m → vl i < 4294967296) (hi : i < e) (hmo : mo ≤ 255) :
    ∀ (j fu r : Nat), j < fu → r + j = min (lk vl e i) mo → 1 ≤ r → f_X6_likes_3 fu (nI i) (nI e) (nI mo) (nI r) ν = some (nI (min (lk vl e i) mo), ν) := by
  have hle := lk_le' (vl := vl) (show i ≤ e by omega)
  intro j
  induction j with
  | zero =>
    intro fu r hfu hr h1
    obtain ⟨fu, rfl⟩ : ∃ g, fu = g + 1 := ⟨fu - 1, by omega⟩
    obtain rfl : r = min (lk vl e i) mo := by omega
    have h2 : min (lk vl e i) mo ≤ lk vl e i := Nat.min_le_left _ _
    rw [f_X6_likes_3.eq_2, nI_add]
    generalize hg : min (lk vl e i) mo = r at *
    unfold f_X6_likes_42
    by_cases q1 : e ≤ i + r
    · rw [if_pos (by rw [nI_leI (by omega) (by omega)]; exact q1)]
    · rw [if_neg (by rw [nI_leI (by omega) (by omega)]; exact q1)]
      by_cases q2 : mo ≤ r
      · rw [if_pos (by rw [nI_leI (by omega) (by omega)]; exact q2)]
      · have hrl : r = lk vl e i := by omega
        have hne := lk_ne (vl := vl) (e := e) (e - i) i (by omega) (by omega)
        rw [← hrl] at hne
        rw [if_neg (by rw [nI_leI (by omega) (by omega)]; exact q2), jin_n (by omega) (by omega), jin_n (by omega) (by omega), nI_clamp (by omega), nI_clamp (by omega), hV _ (show i + r < m by omega), hV _ (show i < m by omega), if_neg (by rw [lg_cmp_eq, lN_inj (hv4 _ (by omega)) (hv4 _ (by omega))]; exact hne)]
  | succ j ih =>
    intro fu r hfu hr h1
    obtain ⟨fu, rfl⟩ : ∃ g, fu = g + 1 := ⟨fu - 1, by omega⟩
    have h2 : min (lk vl e i) mo ≤ lk vl e i := Nat.min_le_left _ _
    have h3 : min (lk vl e i) mo ≤ mo := Nat.min_le_right _ _
    have heq := lk_eq (vl := vl) (e := e) (e - i) i (by omega) r (by omega)
    rw [f_X6_likes_3.eq_2, nI_add, if_neg (by rw [nI_leI (by omega) (by omega)]; omega), if_neg (by rw [nI_leI (by omega) (by omega)]; omega), jin_n (by omega) (by omega), jin_n (by omega) (by omega), nI_clamp (by omega), nI_clamp (by omega), hV _ (show i + r < m by omega), hV _ (show i < m by omega), if_pos (by rw [lg_cmp_eq, heq]), jl_1, nI_add, jlet_e]
    exact ih fu (r + 1) (by omega) (by omega) (by omega)
theorem s_likes {ν : jM} {m i e mo : Nat} {vl : Nat → Nat} (hV : VL ν m vl) (hm : m ≤ 240) (hem : e ≤ m) (hv4 : ∀ i, i < m → vl i < 4294967296) (hi : i < e) (hmo : mo ≤ 255) (hmo1 : 1 ≤ mo) : f_X6_likes (nI i) (nI e) (nI mo) ν = some (nI (min (lk vl e i) mo), ν) := by
  have h1 := lk_pos (vl := vl) hi
  have h3 : min (lk vl e i) mo ≤ mo := Nat.min_le_right _ _
  unfold f_X6_likes
  rw [jl_1]
  exact s_likes_loop hV hm hem hv4 hi hmo (min (lk vl e i) mo - 1) jFU 1 (by unfold jFU; omega) (by omega) (by omega)
theorem s_restOf_loop {ν : jM} {m fr : Nat} {vl : Nat → Nat} (hV : VL ν m vl) (hm : m ≤ 240) (hv4 : ∀ i, i < m → vl i < 4294967296) (hfr : fr ≤ 240) : ∀ (e fu : Nat), e < fu → e ≤ m → f_X6_restOf_2 fu (nI fr) (nI e) ν = some (nI (rs0 vl fr e), ν) := by
  intro e
  induction e with
  | zero =>
    intro fu hfu hem
    obtain ⟨fu, rfl⟩ : ∃ g, fu = g + 1 := ⟨fu - 1, by omega⟩
    rw [f_X6_restOf_2.eq_2, if_pos (by rw [nI_leI (by omega) (by omega)]; omega)]
    rfl
  | succ e ih =>
    intro fu hfu hem
    obtain ⟨fu, rfl⟩ : ∃ g, fu = g + 1 := ⟨fu - 1, by omega⟩
    rw [f_X6_restOf_2.eq_2, rs0]
    unfold f_X6_restOf_26
    by_cases q : e + 1 ≤ fr
    · rw [if_pos (by rw [nI_leI (by omega) (by omega)]; exact q), if_neg (fun z => by omega)]
    · rw [if_neg (by rw [nI_leI (by omega) (by omega)]; exact q), jm1, jl_1, pk_sub (by omega), Nat.add_sub_cancel, jin_n (by omega) (by omega), nI_clamp (by omega), hV e (by omega), lN_z]
      by_cases q2 : vl e = 0
      · rw [if_pos (by rw [lg_cmp_eq, q2]), jlet_e, ih fu (by omega) (by omega), if_pos ⟨by omega, q2⟩]
      · rw [if_neg (by rw [lg_cmp_eq, lN_inj (hv4 e (by omega)) (by omega)]; exact q2), if_neg (fun z => q2 z.2)]
theorem s_restOf {ν : jM} {m fr e : Nat} {vl : Nat → Nat} (hV : VL ν m vl) (hm : m ≤ 240) (hv4 : ∀ i, i < m → vl i < 4294967296) (hfr : fr ≤ 240) (hem : e ≤ m) : f_X6_restOf (nI fr) (nI e) ν = some (nI (rs0 vl fr e), ν) := by
  unfold f_X6_restOf
  exact s_restOf_loop hV hm hv4 hfr e jFU (by unfold jFU; omega) hem
