/-! pack and size, of both -/
def ee (f M : Nat) : List Nat := if f = 0 then [M, 0] else if f = 2 then [0, 1] else []
theorem s_addEnd {μ : jM} {f U W M D : Nat} {l : List Nat} (hb : CB f U W M D) (hc : CF μ f U W M D) (h : OL μ l) (hl : l.length + 2 ≤ 1000) : ∃ μ', f_X2_addEnd μ = some ((), μ') ∧ OL μ' (l ++ ee f M) ∧ Fr [7, 8] μ μ' := by
  obtain ⟨hf, hU, hW1, hW2, hM, hD, h2⟩ := id hb
  unfold f_X2_addEnd ee
  rw [hc.1]
  rcases f3 hb with q | q | q
  · have p0 : nI f = 0 := by rw [q]; decide
    obtain ⟨μ', c1, c2, c3⟩ := s_addTwo (a := M) (b := 0) (by omega) (by omega) h hl
    rw [if_pos p0, if_pos q, hc.2.2.2.1, jl_0]
    exact ⟨μ', c1, c2, c3⟩
  · have p0 : ¬ nI f = 0 := by rw [q]; decide
    have p2 : ¬ nI f = 2 := by rw [q]; decide
    rw [if_neg p0, if_neg p2, if_neg (show ¬ f = 0 by omega), if_neg (show ¬ f = 2 by omega), List.append_nil]
    exact ⟨μ, rfl, h, Fr.rf⟩
  · have p0 : ¬ nI f = 0 := by rw [q]; decide
    have p2 : nI f = 2 := by rw [q]; decide
    obtain ⟨μ', c1, c2, c3⟩ := s_addTwo (a := 0) (b := 1) (by omega) (by omega) h hl
    rw [if_neg p0, if_pos p2, if_neg (show ¬ f = 0 by omega), if_pos q, jl_0, jl_1]
    exact ⟨μ', c1, c2, c3⟩
theorem s_layTwo {ν : jM} {l : List Nat} {a b : Nat} (ha : a < 256) (hb : b < 256) (h : ML ν l) (hl : l.length + 2 ≤ 1000) : ∃ ν', jcall (f_X6_lay (nI a) ν) (fun (r6 : Unit) (μ6 : jM) => jcall (f_X6_lay (nI b) μ6) (fun (r7 : Unit) (μ7 : jM) => some ((), μ7))) = some ((), ν') ∧ ML ν' (l ++ [a, b]) ∧ GF ν ν' := by
  obtain ⟨ν1, e1, g1, k1⟩ := s_layN (v := a) h (by omega) ha
  obtain ⟨ν2, e2, g2, k2⟩ := s_layN (v := b) g1 (by rw [List.length_append]; simp; omega) hb
  rw [e1, jcall_s, e2, jcall_s]
  exact ⟨ν2, rfl, by simpa [List.append_assoc] using g2, k1.tr k2⟩
/-- one stretch, in both -/
theorem s_both {μ ν : jM} {f U W M D m fr e how : Nat} {vl : Nat → Nat} {l : List Nat} (hb : CB f U W M D) (hc : CF μ f U W M D) (hv : UV μ m vl) (hm : MF ν f U W M D) (hV : VL ν m vl) (hm2 : m ≤ 240) (hem : e ≤ m) (hfe : fr ≤ e) (hhow : how ≤ 1) (hvl : ∀ i, i < m → vl i < 256 ^ U) (h : OL μ l) (h' : ML ν l) (hl : l.length + KK f U * (e - fr) ≤ 990) :
    ∃ μ' ν' l', f_X2_addStretch (nI fr) (nI e) (nI how) μ = some ((), μ') ∧ f_X6_part (nI how) (nI fr) (nI e) ν = some ((), ν') ∧ OL μ' l' ∧ ML ν' l' ∧ l'.length ≤ l.length + KK f U * (e - fr) + (re f).length ∧ Fr [6, 7, 8, 10, 11, 12, 13] μ μ' ∧ μ'.1 6 7 = μ.1 6 7 ∧ HF ν ν' := by
  obtain ⟨μ', so, ct, a1, a2, a3, a4, a5, a6, a7⟩ := s_stretch hb hc hv hm2 hem hfe hhow hvl h hl
  obtain ⟨ν', b1, b2, b3⟩ := s_part hb hm hV hvl hm2 hem hfe hhow a6 a7 h' hl
  have hlen := pcs_len (vl := vl) hb a5 (e - fr) fr (Nat.le_refl _) hfe
  exact ⟨μ', ν', _, a1, b1, a2, b2, by rw [List.length_append, List.length_append]; omega, a3, a4, b3⟩
/-- the rows of FORM 2, one after the other, in both -/
theorem s_rows {f U W M D m how : Nat} {vl : Nat → Nat} (hb : CB f U W M D) (q : f = 2) (hm2 : m ≤ 240) (hhow : how ≤ 1) (hvl : ∀ i, i < m → vl i < 256 ^ U) (hmW : m % W = 0) :
    ∀ (j fu fv y : Nat) (μ ν : jM) (l : List Nat), j < fu → j < fv → y + j = m / W → CF μ f U W M D → UV μ m vl → μ.1 6 7 = nI m → MF ν f U W M D → VL ν m vl → ν.1 0 15 = nI m → OL μ l → ML ν l → l.length ≤ 2 * (y * W) + 2 * y →
    ∃ μ' ν' l', f_X2_make_46 fu (nI how) (nI W) (nI (y * W)) μ = some (nI l'.length, μ') ∧ f_X6_packAll_19 fv (nI how) (nI y) ν = some ((), ν') ∧ OL μ' l' ∧ ML ν' l' ∧ Fr [6, 7, 8, 10, 11, 12, 13] μ μ' ∧ HF ν ν' := by
  obtain ⟨hf, hU, hW1, hW2, hM, hD, h2⟩ := id hb
  have hKK : KK f U = 2 := by unfold KK; rw [if_neg (by omega), if_neg (by omega)]
  have hre : (re f).length = 2 := by unfold re; rw [if_pos q]; rfl
  have hmw : m / W * W = m := by
    have := Nat.div_add_mod m W
    rw [hmW, Nat.add_zero, Nat.mul_comm] at this
    exact this
  have hmwl : m / W ≤ m := Nat.div_le_self _ _
  intro j
  induction j with
  | zero =>
    intro fu fv y μ ν l hfu hfv hy hc hv e7 hm hV e15 h h' hl
    obtain ⟨fu, rfl⟩ : ∃ g, fu = g + 1 := ⟨fu - 1, by omega⟩
    obtain ⟨fv, rfl⟩ : ∃ g, fv = g + 1 := ⟨fv - 1, by omega⟩
    have ey : y = m / W := by omega
    have eyW : y * W = m := by rw [ey]; exact hmw
    obtain ⟨μ', a1, a2, a3⟩ := s_addEnd hb hc h (by omega)
    obtain ⟨ν', b1, b2, b3⟩ := s_layTwo (a := 0) (b := 1) (by omega) (by omega) h' (by omega)
    have he : ee f M = [0, 1] := by unfold ee; rw [if_neg (by omega), if_pos q]
    rw [he] at a2
    refine ⟨μ', ν', _, ?_, ?_, a2, b2, a3.up (by decide), b3.hf⟩
    · rw [f_X2_make_46.eq_2, e7, if_pos (by rw [nI_leI (by omega) (by omega)]; omega), a1, jcall_s, a2.1]
    · rw [f_X6_packAll_19.eq_2, hm.2.2.1, e15, jnz_n (by omega) (by omega), pk_div (by omega) (by omega) (by omega), if_pos (by rw [nI_leI (by omega) (by omega)]; omega), jl_0, jl_1]
      exact b1
  | succ j ih =>
    intro fu fv y μ ν l hfu hfv hy hc hv e7 hm hV e15 h h' hl
    obtain ⟨fu, rfl⟩ : ∃ g, fu = g + 1 := ⟨fu - 1, by omega⟩
    obtain ⟨fv, rfl⟩ : ∃ g, fv = g + 1 := ⟨fv - 1, by omega⟩
    have hyW : (y + 1) * W ≤ m := by rw [← hmw]; exact Nat.mul_le_mul_right W (by omega)
    have hyW2 : (y + 1) * W = y * W + W := Nat.succ_mul y W
    have hyy : (y + 1) ≤ (y + 1) * W := Nat.le_mul_of_pos_right _ (by omega)
    obtain ⟨μ1, ν1, l1, a1, a2, a3, a4, a5, a6, a7, a8⟩ := s_both (fr := y * W) (e := (y + 1) * W) (how := how) hb hc hv hm hV hm2 hyW (by omega) hhow hvl h h' (by rw [hKK]; omega)
    rw [hKK, hre] at a5
    obtain ⟨μ', ν', l', c1, c2, c3, c4, c5, c6⟩ := ih fu fv (y + 1) μ1 ν1 l1 (by omega) (by omega) (by omega) (hc.fr a6 (by decide)) (hv.fr a6 (by decide)) (a7.trans e7) (hm.hf a8) (hV.hf a8) ((a8.1 15 (by decide)).trans e15) a3 a4 (by omega)
    refine ⟨μ', ν', l', ?_, ?_, c3, c4, a6.tr c5, a8.tr c6⟩
    · rw [f_X2_make_46.eq_2, e7, if_neg (by rw [nI_leI (by omega) (by omega)]; omega), nI_add, ← hyW2]
      have e9 : (if nI ((y + 1) * W) < nI m then nI ((y + 1) * W) else nI m) = nI ((y + 1) * W) := by
        by_cases z : (y + 1) * W < m
        · rw [if_pos (by rw [nI_ltI (by omega) (by omega)]; exact z)]
        · rw [if_neg (by rw [nI_ltI (by omega) (by omega)]; exact z), show m = (y + 1) * W by omega]
      rw [e9, a1, jcall_s, jlet_e]
      exact c1
    · rw [f_X6_packAll_19.eq_2, hm.2.2.1, e15, jnz_n (by omega) (by omega), pk_div (by omega) (by omega) (by omega), if_neg (by rw [nI_leI (by omega) (by omega)]; omega), jl_1, nI_add, pk_mul, pk_mul, a2, jcall_s, jlet_e]
      exact c2
theorem KKU {f U W M D n : Nat} (hb : CB f U W M D) (hn : n ≤ 240) (q : f ≠ 2) : KK f U * (n / U) ≤ 720 := by
  obtain ⟨hf, hU, hW1, hW2, hM, hD, h2⟩ := id hb
  unfold KK
  rcases hU with u | u | u <;> subst u
  · split
    · omega
    · split <;> omega
  · split
    · omega
    · split <;> omega
  · split
    · omega
    · split <;> omega
theorem s_makeBoth {μ ν : jM} {f U W M D n how : Nat} {sr : Nat → Nat} (hb : CB f U W M D) (hc : CF μ f U W M D) (hs : OC μ 2 240 n sr) (hm : MF ν f U W M D) (hs' : MR ν 6 1 240 n sr) (hhow : how ≤ 1) (hw : n % gr f U W = 0) :
    ∃ μ' ν' l, f_X2_make (nI how) μ = some (nI l.length, μ') ∧ f_X6_packAll (nI how) ν = some ((), ν') ∧ OL μ' l ∧ ML ν' l ∧ Fr [6, 7, 8, 9, 10, 11, 12, 13] μ μ' ∧ (∀ k, k ≠ 15 → k ≠ 18 → ν'.1 0 k = ν.1 0 k) ∧ (∀ c, c ≠ 0 → c ≠ 5 → c ≠ 6 → ν'.1 c = ν.1 c) := by
  obtain ⟨hf, hU, hW1, hW2, hM, hD, h2⟩ := id hb
  have hn : n ≤ 240 := hs.2.1
  have hmn : n / U ≤ n := Nat.div_le_self _ _
  -- the class: nothing packed yet, the units read
  have g0 : Fr [7] μ (jsI μ 7 1 (nI 0)) := Fr.I _ _ _ (by decide)
  obtain ⟨μ1, a1, a2, a3, a4⟩ := s_readUnits hb (hc.fr g0 (by decide)) (OC_fr hs g0 (by decide) (by decide))
  have g1 : Fr [6, 7, 8, 9, 10, 11, 12, 13] μ μ1 := (g0.up (by decide)).tr (a2.up (by decide))
  have hc1 := hc.fr g1 (by decide)
  have o1 : OL μ1 [] := ⟨by rw [a2.at (by decide), jsI_s]; rfl, by decide, by decide, fun i hi => absurd hi (by simp)⟩
  -- the reference
  have gm0 : MF (jsI ν 0 18 (nI 0)) f U W M D := by
    obtain ⟨b1, b2, b3, b4, b5⟩ := hm
    refine ⟨?_, ?_, ?_, ?_, ?_⟩ <;> rw [jsI_k _ _ (by decide)] <;> assumption
  have gs0 : MR (jsI ν 0 18 (nI 0)) 6 1 240 n sr := ⟨by rw [jsI_k _ _ (by decide)]; exact hs'.1, hs'.2.1, hs'.2.2.1, fun i hi => by rw [jsI_c _ _ _ (by decide)]; exact hs'.2.2.2 i hi⟩
  obtain ⟨ν1, d1, d2, d3⟩ := s_takeVals hb gm0 gs0
  have hm1 : MF ν1 f U W M D := by
    obtain ⟨b1, b2, b3, b4, b5⟩ := gm0
    unfold MF
    rw [d2]
    refine ⟨?_, ?_, ?_, ?_, ?_⟩ <;> rw [jsI_k _ _ (by decide)] <;> assumption
  have e15 : ν1.1 0 15 = nI (n / U) := by rw [d2, jsI_s]
  have m1 : ML ν1 [] := ⟨by rw [d2, jsI_k _ _ (by decide), jsI_s]; rfl, by decide, by decide, fun i hi => absurd hi (by simp)⟩
  have k1 : ∀ k, k ≠ 15 → k ≠ 18 → ν1.1 0 k = ν.1 0 k := fun k z1 z2 => by rw [d2, jsI_k _ _ z1, jsI_k _ _ z2]
  have k2 : ∀ c, c ≠ 0 → ν1.1 c = ν.1 c := fun c z => by funext i; rw [d2, jsI_c _ _ _ z, jsI_c _ _ _ z]
  have hvl : ∀ i, i < n / U → vdf U D (fun i => num sr (i * U) U) i < 256 ^ U := vdf_lt (fun i hi => num_lt U (fun k hk => (hs.2.2.2 _ (by
    have := div_ge (n := n) (U := U) (i := i) (by omega) hi
    omega)).1))
  generalize vdf U D (fun i => num sr (i * U) U) = vl at a4 d3 hvl
  unfold f_X2_make f_X6_packAll f_X2_make_39
  rw [jl_0, jlet_e, jlet_e, a1, jcall_s, d1, jcall_s, hc1.1, hm1.1]
  by_cases q : f = 2
  · obtain ⟨u1, -⟩ := h2 q
    have eg : gr f U W = W := by unfold gr; rw [if_pos q]
    rw [eg] at hw
    rw [u1, Nat.div_one] at a3 a4 d3 e15 hvl
    have hvl' : ∀ i, i < n → vl i < 256 ^ U := by rw [u1]; exact hvl
    obtain ⟨μ', ν', l', c1, c2, c3, c4, c5, c6⟩ := s_rows (how := how) hb q hn hhow hvl' hw (n / W) jFU jFU 0 μ1 ν1 [] (by unfold jFU; have := Nat.div_le_self n W; omega) (by unfold jFU; have := Nat.div_le_self n W; omega) (by omega) hc1 a4 a3 hm1 d3 e15 o1 m1 (by simp)
    have p2 : nI f = 2 := by rw [q]; decide
    rw [if_pos p2, if_pos p2, hc1.2.2.1]
    have ew : (if (1 : Int32) < nI W then nI W else 1) = nI W := by
      by_cases z : 1 < W
      · rw [if_pos (by rw [jl_1, nI_ltI (by omega) (by omega)]; exact z)]
      · rw [if_neg (by rw [jl_1, nI_ltI (by omega) (by omega)]; exact z), show W = 1 by omega]; rfl
    rw [ew, jlet_e]
    rw [Nat.zero_mul] at c1
    exact ⟨μ', ν', l', c1, c2, c3, c4, g1.tr (c5.up (by decide)), fun k z1 z2 => (c6.1 k z2).trans (k1 k z1 z2), fun c z0 z5 z6 => (c6.2.1 c z0 z5 z6).trans (k2 c z0)⟩
  · have p2 : ¬ nI f = 2 := by rw [jl_2, nI_eq (by omega) (by omega)]; exact q
    have hKU := KKU (n := n) hb hn q
    have hre : (re f).length = 0 := by unfold re; rw [if_neg q]; rfl
    rw [if_neg p2, if_neg p2, a3, e15]
    -- the end, in both
    have fin : ∀ (fu x : Nat) (z : Int32) (μ2 ν2 : jM) (l : List Nat), n / U ≤ x → x ≤ 1000 → Fr [6, 7, 8, 10, 11, 12, 13] μ1 μ2 → μ2.1 6 7 = nI (n / U) → HF ν1 ν2 → OL μ2 l → ML ν2 l → l.length ≤ 720 → ∃ μ' ν' l', f_X2_make_46 (fu + 1) (nI how) z (nI x) μ2 = some (nI l'.length, μ') ∧ (if ν2.1 0 0 = nI 0 then jcall (f_X6_lay (ν2.1 0 3) ν2) (fun (r10 : Unit) (μ10 : jM) => jcall (f_X6_lay (nI 0) μ10) (fun (r11 : Unit) (μ11 : jM) => some ((), μ11))) else some ((), ν2)) = some ((), ν') ∧ OL μ' l' ∧ ML ν' l' ∧ Fr [6, 7, 8, 9, 10, 11, 12, 13] μ μ' ∧ (∀ k, k ≠ 15 → k ≠ 18 → ν'.1 0 k = ν.1 0 k) ∧ (∀ c, c ≠ 0 → c ≠ 5 → c ≠ 6 → ν'.1 c = ν.1 c) := by
      intro fu x z μ2 ν2 l y1 y2 y3 y4 y5 y6 y7 y8
      obtain ⟨μ', b1, b2, b3⟩ := s_addEnd hb (hc1.fr y3 (by decide)) y6 (by omega)
      have hm2 := hm1.hf y5
      have e46 : f_X2_make_46 (fu + 1) (nI how) z (nI x) μ2 = some (nI (l ++ ee f M).length, μ') := by
        rw [f_X2_make_46.eq_2, y4, if_pos (by rw [nI_leI (by omega) (by omega)]; exact y1), b1, jcall_s, b2.1]
      rw [hm2.1, hm2.2.2.2.1]
      rcases f3 hb with p | p | p
      · have p0 : nI f = nI 0 := by rw [p]
        obtain ⟨ν', f1, f2, f4⟩ := s_layTwo (a := M) (b := 0) (by omega) (by omega) y7 (by omega)
        have he : ee f M = [M, 0] := by unfold ee; rw [if_pos p]
        rw [he] at b2 e46
        rw [if_pos p0]
        exact ⟨μ', ν', _, e46, f1, b2, f2, g1.tr ((y3.up (by decide)).tr (b3.up (by decide))), fun k z1 z2 => (f4.hf.1 k z2).trans ((y5.1 k z2).trans (k1 k z1 z2)), fun c z0 z5 z6 => (f4.hf.2.1 c z0 z5 z6).trans ((y5.2.1 c z0 z5 z6).trans (k2 c z0))⟩
      · have p0 : ¬ nI f = nI 0 := by rw [p]; decide
        have he : ee f M = [] := by unfold ee; rw [if_neg (by omega), if_neg (by omega)]
        rw [he, List.append_nil] at b2 e46
        rw [if_neg p0]
        exact ⟨μ', ν2, l, e46, rfl, b2, y7, g1.tr ((y3.up (by decide)).tr (b3.up (by decide))), fun k z1 z2 => (y5.1 k z2).trans (k1 k z1 z2), fun c z0 z5 z6 => (y5.2.1 c z0 z5 z6).trans (k2 c z0)⟩
      · exact absurd p q
    by_cases m0 : n / U = 0
    · -- nothing to pack
      have hp : ∃ ν2, f_X6_part (nI how) (nI 0) (nI (n / U)) ν1 = some ((), ν2) ∧ ML ν2 [] ∧ HF ν1 ν2 := by
        obtain ⟨ν2, b1, b2, b3⟩ := s_part (so := if how = 0 then gso f U M vl 0 (n / U) else fun _ => 0) (ct := if how = 0 then gct f U M vl 0 (n / U) else fun _ => 0) hb hm1 d3 hvl (by omega) (Nat.le_refl _) (Nat.zero_le _) hhow (fun z => by rw [if_pos z, if_pos z]; exact ⟨rfl, rfl⟩) (fun z => ⟨fun _ => 0, by rw [if_neg q], fun j _ hj => absurd hj (by omega)⟩) m1 (by simp; omega)
        refine ⟨ν2, b1, ?_, b3⟩
        have hr0 : re f = [] := by unfold re; rw [if_neg q]
        rw [m0, hr0] at b2
        exact b2
      obtain ⟨ν2, b1, b2, b3⟩ := hp
      obtain ⟨μ', ν', l', c1, c2, c3⟩ := fin (jFU - 1) 0 (if (1 : Int32) < nI (n / U) then nI (n / U) else 1) μ1 ν2 [] (by omega) (by omega) Fr.rf a3 b3 o1 b2 (by simp)
      rw [jlet_e, b1, jcall_s]
      exact ⟨μ', ν', l', c1, c2, c3⟩
    · have mp : 1 ≤ n / U := Nat.pos_of_ne_zero m0
      have ew : (if (1 : Int32) < nI (n / U) then nI (n / U) else 1) = nI (n / U) := by
        by_cases z : 1 < n / U
        · rw [if_pos (by rw [jl_1, nI_ltI (by omega) (by omega)]; exact z)]
        · rw [if_neg (by rw [jl_1, nI_ltI (by omega) (by omega)]; exact z), show n / U = 1 by omega]; rfl
      obtain ⟨μ2, ν2, l2, b1, b2, b3, b4, b5, b6, b7, b8⟩ := s_both (fr := 0) (e := n / U) (how := how) hb hc1 a4 hm1 d3 (by omega) (Nat.le_refl _) (Nat.zero_le _) hhow hvl o1 m1 (by simp; omega)
      simp at b5
      obtain ⟨μ', ν', l', c1, c2, c3⟩ := fin (jFU - 2) (0 + n / U) (nI (n / U)) μ2 ν2 l2 (by omega) (by omega) b6 (b7.trans a3) b8 b3 b4 (by omega)
      rw [ew, jlet_e, b2, jcall_s]
      refine ⟨μ', ν', l', ?_, c2, c3⟩
      rw [show (jFU : Nat) = (jFU - 2 + 1) + 1 by unfold jFU; omega, f_X2_make_46.eq_2, a3, if_neg (by rw [nI_leI (by omega) (by omega)]; omega), nI_add, Nat.zero_add, if_neg (by rw [nI_ltI (by omega) (by omega)]; omega), b1, jcall_s, jlet_e]
      rw [Nat.zero_add] at c1
      exact c1
theorem s_sizeB {μ ν : jM} {f U W M D n cn pn rc ft : Nat} {sr cd pl : Nat → Nat} (hb : CB f U W M D) (hc : CS μ f U W M D n cn pn rc ft sr cd pl) (hm : MS ν f U W M D n cn pn rc ft sr cd pl) (x : Int32) :
    (∃ r, (r = -1 ∨ r = -3) ∧ f_X5_packRefusal x μ = some (r, μ) ∧ f_X6_size x ν = some (r, jsI ν 0 13 0)) ∨
    (∃ l μ' ν', f_X5_packRefusal x μ = some (0, μ) ∧ f_X2_make x μ = some (nI l.length, μ') ∧ f_X6_size x ν = some (nI l.length, ν') ∧ OL μ' l ∧ ML ν' l ∧ CS μ' f U W M D n cn pn rc ft sr cd pl ∧ MS ν' f U W M D n cn pn rc ft sr cd pl) := by
  have hm0 := hm.t0 0
  have hn := hc.2.1.2.1
  unfold f_X6_size
  rw [jlet_e]
  generalize jsI ν 0 13 (0 : Int32) = ν0 at hm0 ⊢
  rcases nI_split (x := x) (m := 1) (by omega) with y | y | ⟨how, hhow, rfl⟩
  · refine Or.inl ⟨-1, Or.inl rfl, ?_, ?_⟩
    · unfold f_X5_packRefusal
      rw [if_neg (fun z => by rw [z] at y; exact absurd y (by decide)), if_neg (fun z => by rw [z] at y; exact absurd y (by decide))]
    · rw [s_inF (Or.inl y), jcall_s, if_pos (by decide)]
  · refine Or.inl ⟨-1, Or.inl rfl, ?_, ?_⟩
    · unfold f_X5_packRefusal
      rw [if_neg (fun z => by rw [z] at y; exact absurd y (by decide)), if_neg (fun z => by rw [z] at y; exact absurd y (by decide))]
    · rw [s_inF (Or.inr (show (1 : Int32) < x by rw [jl_1]; exact y)), jcall_s, if_pos (by decide)]
  · have h1 : ¬ nI how < 0 := by rw [jl_0, nI_ltI (by omega) (by omega)]; omega
    have h2 : ¬ 1 < nI how := by rw [jl_1, nI_ltI (by omega) (by omega)]; omega
    have er : f_X5_packRefusal (nI how) μ = f_X5_packRefusal_11 μ := by
      unfold f_X5_packRefusal
      by_cases z : how = 0
      · rw [if_pos (by rw [z]; decide)]
      · rw [if_neg (by rw [jl_0, nI_eq (by omega) (by omega)]; exact z), if_pos (by rw [show how = 1 by omega]; decide)]
    rw [er, s_inT h1 h2, jcall_s, if_neg (by decide), hm0.2.1.1, s_isWholeM hm0.1 hb (by omega), jcall_s]
    unfold f_X5_packRefusal_11
    rw [hc.2.1.1, s_isWhole hc.1 hb (by omega), jcall_s]
    by_cases q : n % gr f U W = 0
    · refine Or.inr ?_
      obtain ⟨μ', ν', l, a1, a2, a3, a4, a5, a6, a7⟩ := s_makeBoth (how := how) hb hc.1 hc.2.1 hm0.1 hm0.2.1 hhow q
      refine ⟨l, μ', ν', ?_, a1, ?_, a3, a4, ?_, ?_⟩
      · rw [if_pos q, if_neg (by decide)]
      · rw [if_pos q, if_neg (by decide), a2, jcall_s, a4.1]
      · exact hc.fr (a5.1 1 (by decide)) (a5.1 2 (by decide)) (a5.1 3 (by decide)) (a5.1 4 (by decide)) (a5.1 5 (by decide)) (a5.at (by decide) 3) (a5.at (by decide) 4) (a5.1 18 (by decide)) (a5.at (by decide) 3)
      · exact hm0.fr (fun k hk => a6 k (by omega) (by omega)) (a7 1 (by decide) (by decide) (by decide)) (a7 2 (by decide) (by decide) (by decide)) (a7 3 (by decide) (by decide) (by decide))
    · refine Or.inl ⟨-3, Or.inr rfl, ?_, ?_⟩
      · rw [if_neg q, if_pos (by decide)]
      · rw [if_neg q, if_pos (by decide)]
theorem al_size {μ ν : jM} (h : REL μ ν) (x : Int32) : AL (f_X5_size x μ) (f_X6_size x ν) := by
  obtain ⟨f, U, W, M, D, n, cn, pn, rc, ft, sr, cd, pl, hb, hc, hm⟩ := h
  unfold f_X5_size
  rcases s_sizeB hb hc hm x with ⟨r, hr, a1, a2⟩ | ⟨l, μ', ν', a1, a2, a3, a4, a5, a6, a7⟩
  · rw [a1, jcall_s, a2, if_neg (by rcases hr with z | z <;> rw [z] <;> decide)]
    exact ⟨r, _, _, rfl, rfl, f, U, W, M, D, n, cn, pn, rc, ft, sr, cd, pl, hb, hc, hm.t0 0⟩
  · rw [a1, jcall_s, if_pos rfl, a2, jcall_s, a3]
    exact ⟨_, _, _, rfl, rfl, f, U, W, M, D, n, cn, pn, rc, ft, sr, cd, pl, hb, a6, a7⟩
theorem s_pack19 {ν0 : jM} {n : Nat} {a : Nat → Nat} (hn : n ≤ 1000) (h0 : ∀ i, i < n → a i < 256 ∧ ν0.1 6 i = nI (a i)) : ∀ (j fu k : Nat) (ν : jM), j < fu → k + j = n → (∀ c, c ≠ 2 → ν.1 c = ν0.1 c) → (∀ i, i < k → ν.1 2 i = nI (a i)) →
    ∃ ν', f_X6_pack_19 fu (nI n) (nI k) ν = some (nI n, ν') ∧ (∀ c, c ≠ 2 → c ≠ 0 → ν'.1 c = ν0.1 c) ∧ (∀ k, k ≠ 8 → ν'.1 0 k = ν0.1 0 k) ∧ ν'.1 0 8 = nI n ∧ (∀ i, i < n → ν'.1 2 i = nI (a i)) := by
  intro j
  induction j with
  | zero =>
    intro fu k ν hfu hk hc h2
    obtain ⟨fu, rfl⟩ : ∃ g, fu = g + 1 := ⟨fu - 1, by omega⟩
    obtain rfl : k = n := by omega
    refine ⟨jsI ν 0 8 (nI k), ?_, fun c z1 z2 => ?_, fun k' z => ?_, jsI_s _ _ _ _, fun i hi => ?_⟩
    · rw [f_X6_pack_19.eq_2, if_pos (by rw [nI_leI (by omega) (by omega)]; omega), jlet_e]
    · funext i; rw [jsI_c _ _ _ z2, hc c z1]
    · rw [jsI_k _ _ z, hc 0 (by decide)]
    · rw [jsI_c _ _ _ (by decide)]; exact h2 i hi
  | succ j ih =>
    intro fu k ν hfu hk hc h2
    obtain ⟨fu, rfl⟩ : ∃ g, fu = g + 1 := ⟨fu - 1, by omega⟩
    obtain ⟨ν', e, g⟩ := ih fu (k + 1) (jsI ν 2 k (nI (a k))) (by omega) (by omega) (fun c z => by funext i; rw [jsI_c _ _ _ z, hc c z]) (fun i hi => by
      by_cases z : i = k
      · rw [z, jsI_s]
      · rw [jsI_k _ _ z]; exact h2 i (by omega))
    refine ⟨ν', ?_, g⟩
    have e6 : ν.1 6 k = nI (a k) := by rw [hc 6 (by decide)]; exact (h0 k (by omega)).2
    rw [f_X6_pack_19.eq_2, if_neg (by rw [nI_leI (by omega) (by omega)]; omega), jin_n (by omega) (by omega), jin_n (by omega) (by omega), nI_clamp (by omega), e6, jlet_e, jl_1, nI_add, jlet_e]
    exact e
theorem al_pack {μ ν : jM} (h : REL μ ν) (x : Int32) : AL (f_X5_pack x μ) (f_X6_pack x ν) := by
  obtain ⟨f, U, W, M, D, n, cn, pn, rc, ft, sr, cd, pl, hb, hc, hm⟩ := h
  unfold f_X5_pack f_X6_pack
  rw [jlet_e]
  rcases s_sizeB hb hc (hm.t0 0) x with ⟨r, hr, a1, a2⟩ | ⟨l, μ', ν', a1, a2, a3, a4, a5, a6, a7⟩
  · rw [a1, jcall_s, a2, jcall_s, if_neg (by rcases hr with z | z <;> rw [z] <;> decide), if_neg (by rcases hr with z | z <;> rw [z] <;> decide)]
    exact ⟨r, _, _, rfl, rfl, f, U, W, M, D, n, cn, pn, rc, ft, sr, cd, pl, hb, hc, (hm.t0 0).t0 0⟩
  · have hl : l.length ≤ 1000 := a4.2.1
    obtain ⟨μ2, b1, b2, b3⟩ := s_become (q := 4) (N := 1000) a4 hl (by omega) (by decide) (by decide)
    obtain ⟨ν2, c1, c2, c3, c4, c5⟩ := s_pack19 (ν0 := ν') (n := l.length) (a := fun i => l.getD i 0) hl a5.2.2.2 l.length jFU 0 ν' (by unfold jFU; omega) (by omega) (fun _ _ => rfl) (fun i hi => absurd hi (by omega))
    rw [a1, jcall_s, if_pos rfl, a2, jcall_s, b1, jcall_s, a3, jcall_s, if_pos (by rw [jl_0, nI_leI (by omega) (by omega)]; omega), jl_0, c1, b2.1]
    refine ⟨_, _, _, rfl, rfl, f, U, W, M, D, n, l.length, pn, rc, ft, sr, (fun i => l.getD i 0), pl, hb, a6.cod b3 b2, a7.cod (fun k _ hk => c3 k hk) (c2 1 (by decide) (by decide)) (c2 3 (by decide) (by decide)) ⟨c4, hl, by omega, fun i hi => ⟨(a5.2.2.2 i hi).1, c5 i hi⟩⟩⟩
