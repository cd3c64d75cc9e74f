theorem s_set {μ : jM} {q N i : Nat} (hi : i < N) (hN : N ≤ 1000) (x : Int32) : f_X0_set q N (nI i) x μ = some ((), jsI μ (q + 1) i x.toInt8.toInt32) := by
  unfold f_X0_set
  simp (disch := omega) only [jlet_e, jcall_s, jin_n, jnz_n, jbl_0, jbl_1, nI_ofNat, jl_0, jl_1, jl_2, jl_3, jl_4, jl_5, jl_8, jl_60, jl_127, jl_128, jl_240, jl_255, jl_256, jl_400, jl_1000, jl_1000000, nI_ltI, nI_leI, nI_eq, nI_add, pk_sub, pk_mul, pk_div, pk_rem, nI_clamp, if_pos, if_neg, ite_true, ite_false, jb_jb]
/-- a stretch of bytes from s on -/
def ov (o : Nat → Nat) (s : Nat) (g : Nat → Nat) (n : Nat) : Nat → Nat := fun i => if s ≤ i ∧ i < s + n then g (i - s) else o i
theorem ov_0 (o : Nat → Nat) (s : Nat) (g : Nat → Nat) : ov o s g 0 = o := by
  funext i
  unfold ov
  rw [if_neg (by omega)]
theorem ov_s (o : Nat → Nat) (s : Nat) (g : Nat → Nat) (n i : Nat) : ov o s g (n + 1) i = if i = s + n then g n else ov o s g n i := by
  unfold ov
  by_cases h : i = s + n
  · rw [if_pos (by omega), if_pos h, h, show s + n - s = n by omega]
  · rw [if_neg h]
    by_cases h2 : s ≤ i ∧ i < s + n
    · rw [if_pos h2, if_pos (by omega)]
    · rw [if_neg h2, if_neg (by omega)]
theorem CO_put {μ0 μ : jM} {pl p on x y en k v : Nat} {o o' : Nat → Nat} (h : CO μ0 μ pl p on x y en o) (hv : v < 256) (ho : ∀ i, o' i = if i = k then v else o i) : CO μ0 (jsI μ 16 k (jb v)) pl p on x y en o' := by
  obtain ⟨h0, h1, h2, h3, h4, h5, h6, h7, h8⟩ := h
  refine ⟨h0.tr (Fr.I _ _ _ (by decide)), ?_, ?_, ?_, ?_, ?_, ?_, h7, fun i hi => ?_⟩
  · simp (decide := true) only [jsI_s, jsI_k, jsI_c, jsI_2, jsJ_1, ne_eq, not_false_eq_true, h1]
  · simp (decide := true) only [jsI_s, jsI_k, jsI_c, jsI_2, jsJ_1, ne_eq, not_false_eq_true, h2]
  · simp (decide := true) only [jsI_s, jsI_k, jsI_c, jsI_2, jsJ_1, ne_eq, not_false_eq_true, h3]
  · simp (decide := true) only [jsI_s, jsI_k, jsI_c, jsI_2, jsJ_1, ne_eq, not_false_eq_true, h4]
  · simp (decide := true) only [jsI_s, jsI_k, jsI_c, jsI_2, jsJ_1, ne_eq, not_false_eq_true, h5]
  · simp (decide := true) only [jsI_s, jsI_k, jsI_c, jsI_2, jsJ_1, ne_eq, not_false_eq_true, h6]
  · rw [ho i]
    by_cases hin : i = k
    · rw [if_pos hin, hin, jsI_s]
      exact ⟨hv, rfl⟩
    · rw [if_neg hin, jsI_k _ _ hin]
      exact h8 i hi
theorem MO_put {ν0 ν : jM} {p on x y en k v : Nat} {o o' : Nat → Nat} (h : MO ν0 ν p on x y en o) (hv : v < 256) (ho : ∀ i, o' i = if i = k then v else o i) : MO ν0 (jsI ν 7 k (nI v)) p on x y en o' := by
  obtain ⟨h0, h1, h2, h3, h4, h5, h6, h7⟩ := h
  refine ⟨⟨h0.1.a _ _, ?_⟩, ?_, ?_, ?_, ?_, ?_, h6, fun i hi => ?_⟩
  · simp (decide := true) only [jsI_s, jsI_k, jsI_c, jsI_2, jsJ_1, ne_eq, not_false_eq_true, h0.2]
  · simp (decide := true) only [jsI_s, jsI_k, jsI_c, jsI_2, jsJ_1, ne_eq, not_false_eq_true, h1]
  · simp (decide := true) only [jsI_s, jsI_k, jsI_c, jsI_2, jsJ_1, ne_eq, not_false_eq_true, h2]
  · simp (decide := true) only [jsI_s, jsI_k, jsI_c, jsI_2, jsJ_1, ne_eq, not_false_eq_true, h3]
  · simp (decide := true) only [jsI_s, jsI_k, jsI_c, jsI_2, jsJ_1, ne_eq, not_false_eq_true, h4]
  · simp (decide := true) only [jsI_s, jsI_k, jsI_c, jsI_2, jsJ_1, ne_eq, not_false_eq_true, h5]
  · rw [ho i]
    by_cases hin : i = k
    · rw [if_pos hin, hin, jsI_s]
      exact ⟨hv, rfl⟩
    · rw [if_neg hin, jsI_k _ _ hin]
      exact h7 i hi
theorem s_putInRow {μ0 μ : jM} {f U W M D pl p on x y en v : Nat} {o o' : Nat → Nat} (hb : CB f U W M D) (hc : CF μ0 f U W M D) (hx : x < W) (hw : (y + 1) * W ≤ 240) (hv : v < 256) (h : CO μ0 μ pl p on x y en o) (ho : ∀ i, o' i = if i = y * W + x then v else o i) : ∃ μ', f_X1_putInRow (nI v) μ = some ((), μ') ∧ CO μ0 μ' pl p ((y + 1) * W) (x + 1) y en o' := by
  obtain ⟨hf, hU, hW1, hW2, hM, hD, h2⟩ := id hb
  have hyW : (y + 1) * W = y * W + W := Nat.succ_mul y W
  have hy240 : y ≤ 240 := by
    have : y * 1 ≤ y * W := Nat.mul_le_mul_left y hW1
    omega
  have hn := CO_put (k := y * W + x) (h.cnt hw) hv ho
  refine ⟨_, ?_, hn.col (x' := x + 1)⟩
  have e1 := (h.cf hc).2.2.1
  have e2 := h.2.2.2.2.1
  unfold f_X1_putInRow f_X1_countRow
  rw [jlet_e, jcall_s, e1, e2, jl_1, nI_add, pk_mul]
  have k1 := ((h.cnt hw).cf hc).2.2.1
  have k2 := (h.cnt hw).2.2.2.2.1
  have k3 := (h.cnt hw).2.2.2.2.2.1
  rw [k1, k2, k3, pk_mul, nI_add, s_set (by omega) (by omega), jcall_s, jlet_e]
  have k4 : (jsI (jsI μ 15 1 (nI ((y + 1) * W))) 16 (y * W + x) (jb v)).1 14 8 = nI x := hn.2.2.2.2.2.1
  show some ((), jsI (jsI (jsI μ 15 1 (nI ((y + 1) * W))) 16 (y * W + x) (jb v)) 14 8 ((jsI (jsI μ 15 1 (nI ((y + 1) * W))) 16 (y * W + x) (jb v)).1 14 8 + nI 1)) = _
  rw [k4, nI_add]
theorem s_rowRun {μ0 : jM} {f U W M D p y x0 n b : Nat} {o : Nat → Nat} (hb : CB f U W M D) (hc : CF μ0 f U W M D) (hx : x0 + n ≤ W) (hw : (y + 1) * W ≤ 240) (hv : b < 256) (hp : p ≤ 1000) : ∀ (j fu k on : Nat) (μ : jM), j < fu → k + j = n → CO μ0 μ p p on (x0 + k) y 0 (ov o (y * W + x0) (fun _ => b) k) → (j = 0 → on = (y + 1) * W) → ∃ μ', f_X1_takeRowRun_15 fu (nI n) (nI b) (nI k) μ = some (nI 0, μ') ∧ CO μ0 μ' p (p + 2) ((y + 1) * W) (x0 + n) y 0 (ov o (y * W + x0) (fun _ => b) n) := by
  obtain ⟨hf, hU, hW1, hW2, hM, hD, h2⟩ := id hb
  intro j
  induction j with
  | zero =>
    intro fu k on μ hf hk h ho
    obtain ⟨fu, rfl⟩ : ∃ g, fu = g + 1 := ⟨fu - 1, by omega⟩
    obtain rfl : k = n := by omega
    rw [ho rfl] at h
    refine ⟨_, ?_, h.nx⟩
    have e := h.2.1
    rw [f_X1_takeRowRun_15.eq_2]
    simp (disch := omega) only [jlet_e, jcall_s, jin_n, jnz_n, jbl_0, jbl_1, nI_ofNat, jl_0, jl_1, jl_2, jl_3, jl_4, jl_5, jl_8, jl_60, jl_127, jl_128, jl_240, jl_255, jl_256, jl_400, jl_1000, jl_1000000, nI_ltI, nI_leI, nI_eq, nI_add, pk_sub, pk_mul, pk_div, pk_rem, nI_clamp, if_pos, if_neg, ite_true, ite_false, e]
  | succ j ih =>
    intro fu k on μ hf hk h ho
    obtain ⟨fu, rfl⟩ : ∃ g, fu = g + 1 := ⟨fu - 1, by omega⟩
    obtain ⟨μ1, e1, h1⟩ := s_putInRow (x := x0 + k) (o' := ov o (y * W + x0) (fun _ => b) (k + 1)) hb hc (by omega) hw hv h (fun i => by rw [ov_s, Nat.add_assoc])
    obtain ⟨μ', e, h'⟩ := ih fu (k + 1) _ μ1 (by omega) (by omega) h1 (fun _ => rfl)
    refine ⟨μ', ?_, h'⟩
    rw [f_X1_takeRowRun_15.eq_2]
    simp (disch := omega) only [jlet_e, jcall_s, jin_n, jnz_n, jbl_0, jbl_1, nI_ofNat, jl_0, jl_1, jl_2, jl_3, jl_4, jl_5, jl_8, jl_60, jl_127, jl_128, jl_240, jl_255, jl_256, jl_400, jl_1000, jl_1000000, nI_ltI, nI_leI, nI_eq, nI_add, pk_sub, pk_mul, pk_div, pk_rem, nI_clamp, if_pos, if_neg, ite_true, ite_false, e1]
    exact e
theorem s_rowBytes {μ0 : jM} {f U W M D p y x0 n cn L : Nat} {o cd : Nat → Nat} (hb : CB f U W M D) (hc : CF μ0 f U W M D) (hcd : OC μ0 4 1000 cn cd) (hx : x0 + n ≤ W) (hw : (y + 1) * W ≤ 240) (hL : p + 2 + n ≤ cn) (hL2 : L ≤ 1000) : ∀ (j fu k on : Nat) (μ : jM), j < fu → k + j = n → CO μ0 μ p p on (x0 + k) y 0 (ov o (y * W + x0) (fun i => cd (p + 2 + i)) k) → (j = 0 → on = (y + 1) * W) → ∃ μ', f_X1_takeRowBytes_41 fu (nI n) (nI L) (nI k) μ = some (nI 0, μ') ∧ CO μ0 μ' p (p + L) ((y + 1) * W) (x0 + n) y 0 (ov o (y * W + x0) (fun i => cd (p + 2 + i)) n) := by
  obtain ⟨hf, hU, hW1, hW2, hM, hD, h2⟩ := id hb
  have hcn := hcd.2.1
  intro j
  induction j with
  | zero =>
    intro fu k on μ hf hk h ho
    obtain ⟨fu, rfl⟩ : ∃ g, fu = g + 1 := ⟨fu - 1, by omega⟩
    obtain rfl : k = n := by omega
    rw [ho rfl] at h
    refine ⟨_, ?_, h.nx⟩
    have e := h.2.1
    rw [f_X1_takeRowBytes_41.eq_2]
    simp (disch := omega) only [jlet_e, jcall_s, jin_n, jnz_n, jbl_0, jbl_1, nI_ofNat, jl_0, jl_1, jl_2, jl_3, jl_4, jl_5, jl_8, jl_60, jl_127, jl_128, jl_240, jl_255, jl_256, jl_400, jl_1000, jl_1000000, nI_ltI, nI_leI, nI_eq, nI_add, pk_sub, pk_mul, pk_div, pk_rem, nI_clamp, if_pos, if_neg, ite_true, ite_false, e]
  | succ j ih =>
    intro fu k on μ hf hk h ho
    obtain ⟨fu, rfl⟩ : ∃ g, fu = g + 1 := ⟨fu - 1, by omega⟩
    have hv := (hcd.2.2.2 (p + 2 + k) (by omega)).1
    obtain ⟨μ1, e1, h1⟩ := s_putInRow (x := x0 + k) (v := cd (p + 2 + k)) (o' := ov o (y * W + x0) (fun i => cd (p + 2 + i)) (k + 1)) hb hc (by omega) hw hv h (fun i => by rw [ov_s, Nat.add_assoc])
    obtain ⟨μ', e, h'⟩ := ih fu (k + 1) _ μ1 (by omega) (by omega) h1 (fun _ => rfl)
    refine ⟨μ', ?_, h'⟩
    have e2 := h.2.1
    rw [f_X1_takeRowBytes_41.eq_2]
    simp (disch := omega) only [jlet_e, jcall_s, jin_n, jnz_n, jbl_0, jbl_1, nI_ofNat, jl_0, jl_1, jl_2, jl_3, jl_4, jl_5, jl_8, jl_60, jl_127, jl_128, jl_240, jl_255, jl_256, jl_400, jl_1000, jl_1000000, nI_ltI, nI_leI, nI_eq, nI_add, pk_sub, pk_mul, pk_div, pk_rem, nI_clamp, if_pos, if_neg, ite_true, ite_false, e2, s_get (h.oc hcd) (show p + 2 + k < cn by omega), e1]
    exact e
/-- the reference's count of rows -/
theorem s_rowIs {ν0 ν : jM} {f U W M D p on x y : Nat} {o : Nat → Nat} (hb : CB f U W M D) (hm : MF ν0 f U W M D) (hw : (y + 1) * W ≤ 240) (ho : on ≤ (y + 1) * W) (h : MO ν0 ν p on x y 0 o) : f_X6_rowIs ν = some ((), jsI ν 0 20 (nI ((y + 1) * W))) := by
  have e1 := (h.mf hm).2.2.1
  have e2 := h.2.2.2.1
  have e3 := h.2.2.2.2.2.1
  unfold f_X6_rowIs f_X6_rowIs_37
  rw [e1, e2, e3, jl_1, nI_add, pk_mul]
  by_cases hq : (y + 1) * W ≤ on
  · rw [if_pos (by rw [nI_leI (by omega) (by omega)]; exact hq), jlet_e, show on = (y + 1) * W by omega]
  · rw [if_neg (by rw [nI_leI (by omega) (by omega)]; exact hq), jlet_e]
theorem s_rowRunM {ν0 : jM} {f U W M D p y x n b on : Nat} {o : Nat → Nat} (hb : CB f U W M D) (hm : MF ν0 f U W M D) (hx : x + n ≤ W) (hw : (y + 1) * W ≤ 240) (ho : on ≤ (y + 1) * W) (hv : b < 256) (hp : p ≤ 1000) : ∀ (j fu k : Nat) (ν : jM), j < fu → k + j = n → MO ν0 ν p on x y 0 (ov o (y * W + x) (fun _ => b) k) → ∃ ν', f_X6_openRows_85 fu (nI n) (nI b) (nI k) ν = some (nI 0, ν') ∧ MO ν0 ν' (p + 2) ((y + 1) * W) (x + n) y 0 (ov o (y * W + x) (fun _ => b) n) := by
  obtain ⟨hf, hU, hW1, hW2, hM, hD, h2⟩ := id hb
  have hyW : (y + 1) * W = y * W + W := Nat.succ_mul y W
  intro j
  induction j with
  | zero =>
    intro fu k ν hf hk h
    obtain ⟨fu, rfl⟩ : ∃ g, fu = g + 1 := ⟨fu - 1, by omega⟩
    obtain rfl : k = n := by omega
    refine ⟨_, ?_, ((h.col (x' := x + k)).cnt hw).p⟩
    have e := h.2.2.2.2.1
    have e2 := ((h.col (x' := x + k)).cnt hw).2.1
    rw [f_X6_openRows_85.eq_2, if_pos (by rw [nI_leI (by omega) (by omega)]; omega), e, nI_add, jlet_e, s_rowIs hb hm hw ho h.col, jcall_s, e2, jl_2, nI_add, jlet_e, jl_0]
  | succ j ih =>
    intro fu k ν hf hk h
    obtain ⟨fu, rfl⟩ : ∃ g, fu = g + 1 := ⟨fu - 1, by omega⟩
    have h1 := MO_put (k := y * W + x + k) (o' := ov o (y * W + x) (fun _ => b) (k + 1)) h hv (fun i => by rw [ov_s])
    obtain ⟨ν', e, h'⟩ := ih fu (k + 1) _ (by omega) (by omega) h1
    refine ⟨ν', ?_, h'⟩
    have e1 := (h.mf hm).2.2.1
    have e2 := h.2.2.2.1
    have e3 := h.2.2.2.2.1
    rw [f_X6_openRows_85.eq_2, if_neg (by rw [nI_leI (by omega) (by omega)]; omega), e1, e2, e3, pk_mul, nI_add, nI_add, jin_n (by omega) (by omega), nI_clamp (by omega), jlet_e, jl_1, nI_add, jlet_e]
    exact e
theorem s_rowBytesM {ν0 : jM} {f U W M D p y x n on cn L : Nat} {o cd : Nat → Nat} (hb : CB f U W M D) (hm : MF ν0 f U W M D) (hmd : MR ν0 8 2 1000 cn cd) (hx : x + n ≤ W) (hw : (y + 1) * W ≤ 240) (ho : on ≤ (y + 1) * W) (hL : p + 2 + n ≤ cn) : ∀ (j fu k : Nat) (ν : jM), j < fu → k + j = n → MO ν0 ν p on x y 0 (ov o (y * W + x) (fun i => cd (p + 2 + i)) k) → ∃ ν', f_X6_bytes_46 fu (nI n) (nI L) (nI k) ν = some (nI 0, ν') ∧ MO ν0 ν' L ((y + 1) * W) (x + n) y 0 (ov o (y * W + x) (fun i => cd (p + 2 + i)) n) := by
  obtain ⟨hf, hU, hW1, hW2, hM, hD, h2⟩ := id hb
  have hcn := hmd.2.1
  have hyW : (y + 1) * W = y * W + W := Nat.succ_mul y W
  intro j
  induction j with
  | zero =>
    intro fu k ν hf hk h
    obtain ⟨fu, rfl⟩ : ∃ g, fu = g + 1 := ⟨fu - 1, by omega⟩
    obtain rfl : k = n := by omega
    refine ⟨_, ?_, ((h.col (x' := x + k)).cnt hw).p⟩
    have e := h.2.2.2.2.1
    rw [f_X6_bytes_46.eq_2, if_pos (by rw [nI_leI (by omega) (by omega)]; omega), e, nI_add, jlet_e, s_rowIs hb hm hw ho h.col, jcall_s, jlet_e, jl_0]
  | succ j ih =>
    intro fu k ν hf hk h
    obtain ⟨fu, rfl⟩ : ∃ g, fu = g + 1 := ⟨fu - 1, by omega⟩
    obtain ⟨hv, hv2⟩ := (h.mr hmd).2.2.2 (p + 2 + k) (by omega)
    have h1 := MO_put (k := y * W + x + k) (v := cd (p + 2 + k)) (o' := ov o (y * W + x) (fun i => cd (p + 2 + i)) (k + 1)) h hv (fun i => by rw [ov_s])
    obtain ⟨ν', e, h'⟩ := ih fu (k + 1) _ (by omega) (by omega) h1
    refine ⟨ν', ?_, h'⟩
    have e1 := (h.mf hm).2.2.1
    have e2 := h.2.2.2.1
    have e3 := h.2.2.2.2.1
    have e4 := h.2.1
    rw [f_X6_bytes_46.eq_2, if_neg (by rw [nI_leI (by omega) (by omega)]; omega), e4, jl_2, nI_add, nI_add, jin_n (by omega) (by omega), e1, e2, e3, pk_mul, nI_add, nI_add, jin_n (by omega) (by omega), nI_clamp (by omega), nI_clamp (by omega), hv2, jlet_e, jl_1, nI_add, jlet_e]
    exact e
theorem s_rowFault {μ0 μ : jM} {f U W M D pl p on x y n : Nat} {o : Nat → Nat} (hb : CB f U W M D) (hc : CF μ0 f U W M D) (hx : x ≤ W) (hy : y ≤ 256000) (hn : n ≤ 255) (h : CO μ0 μ pl p on x y 0 o) : f_X1_rowFault (nI n) μ = some (if x + n ≤ W then (if (y + 1) * W ≤ 240 then nI 0 else nI 4) else nI 3, μ) := by
  obtain ⟨hf, hU, hW1, hW2, hM, hD, h2⟩ := id hb
  have hyW : (y + 1) * W ≤ 256001 * 60 := Nat.mul_le_mul (by omega) hW2
  have e1 := (h.cf hc).2.2.1
  have e2 := h.2.2.2.2.1
  have e3 := h.2.2.2.2.2.1
  unfold f_X1_rowFault
  by_cases h1 : x + n ≤ W
  · by_cases h2 : (y + 1) * W ≤ 240
    · simp (disch := omega) only [jlet_e, jcall_s, jin_n, jnz_n, jbl_0, jbl_1, nI_ofNat, jl_0, jl_1, jl_2, jl_3, jl_4, jl_5, jl_8, jl_60, jl_127, jl_128, jl_240, jl_255, jl_256, jl_400, jl_1000, jl_1000000, nI_ltI, nI_leI, nI_eq, nI_add, pk_sub, pk_mul, pk_div, pk_rem, nI_clamp, if_pos, if_neg, ite_true, ite_false, e1, e2, e3]
    · simp (disch := omega) only [jlet_e, jcall_s, jin_n, jnz_n, jbl_0, jbl_1, nI_ofNat, jl_0, jl_1, jl_2, jl_3, jl_4, jl_5, jl_8, jl_60, jl_127, jl_128, jl_240, jl_255, jl_256, jl_400, jl_1000, jl_1000000, nI_ltI, nI_leI, nI_eq, nI_add, pk_sub, pk_mul, pk_div, pk_rem, nI_clamp, if_pos, if_neg, ite_true, ite_false, e1, e2, e3]
  · simp (disch := omega) only [jlet_e, jcall_s, jin_n, jnz_n, jbl_0, jbl_1, nI_ofNat, jl_0, jl_1, jl_2, jl_3, jl_4, jl_5, jl_8, jl_60, jl_127, jl_128, jl_240, jl_255, jl_256, jl_400, jl_1000, jl_1000000, nI_ltI, nI_leI, nI_eq, nI_add, pk_sub, pk_mul, pk_div, pk_rem, nI_clamp, if_pos, if_neg, ite_true, ite_false, e1, e2, e3]
theorem s_rowFaultM {ν0 ν : jM} {f U W M D p on x y n : Nat} {o : Nat → Nat} (hb : CB f U W M D) (hm : MF ν0 f U W M D) (hx : x ≤ W) (hy : y ≤ 256000) (hn : n ≤ 255) (h : MO ν0 ν p on x y 0 o) : f_X6_rowFaults (nI n) ν = (if x + n ≤ W then (if (y + 1) * W ≤ 240 then some (nI 0, ν) else some (-10 - nI p, jsI ν 0 12 (nI 4))) else some (-10 - nI p, jsI ν 0 12 (nI 3))) := by
  obtain ⟨hf, hU, hW1, hW2, hM, hD, h2⟩ := id hb
  have hyW : (y + 1) * W ≤ 256001 * 60 := Nat.mul_le_mul (by omega) hW2
  have e1 := (h.mf hm).2.2.1
  have e2 := h.2.2.2.1
  have e3 := h.2.2.2.2.1
  have e4 := h.2.1
  unfold f_X6_rowFaults f_X6_fails
  by_cases h1 : x + n ≤ W
  · by_cases h2 : (y + 1) * W ≤ 240
    · simp (disch := omega) only [jlet_e, jcall_s, jin_n, jnz_n, jbl_0, jbl_1, nI_ofNat, jl_0, jl_1, jl_2, jl_3, jl_4, jl_5, jl_8, jl_60, jl_127, jl_128, jl_240, jl_255, jl_256, jl_400, jl_1000, jl_1000000, nI_ltI, nI_leI, nI_eq, nI_add, pk_sub, pk_mul, pk_div, pk_rem, nI_clamp, if_pos, if_neg, ite_true, ite_false, e1, e2, e3, e4]
    · simp (disch := omega) only [jlet_e, jcall_s, jin_n, jnz_n, jbl_0, jbl_1, nI_ofNat, jl_0, jl_1, jl_2, jl_3, jl_4, jl_5, jl_8, jl_60, jl_127, jl_128, jl_240, jl_255, jl_256, jl_400, jl_1000, jl_1000000, nI_ltI, nI_leI, nI_eq, nI_add, pk_sub, pk_mul, pk_div, pk_rem, nI_clamp, if_pos, if_neg, ite_true, ite_false, e1, e2, e3, e4]
  · simp (disch := omega) only [jlet_e, jcall_s, jin_n, jnz_n, jbl_0, jbl_1, nI_ofNat, jl_0, jl_1, jl_2, jl_3, jl_4, jl_5, jl_8, jl_60, jl_127, jl_128, jl_240, jl_255, jl_256, jl_400, jl_1000, jl_1000000, nI_ltI, nI_leI, nI_eq, nI_add, pk_sub, pk_mul, pk_div, pk_rem, nI_clamp, if_pos, if_neg, ite_true, ite_false, e1, e2, e3, e4]
