theorem plS {μ0 ν0 : jM} {f U W M D cn pn : Nat} {cd : Nat → Nat} (hb : CB f U W M D) (hc : CF μ0 f U W M D) (hcd : OC μ0 4 1000 cn cd) (hm : MF ν0 f U W M D) (hmd : MR ν0 8 2 1000 cn cd) (hf : f = 1) (hpn : pn ≤ 400) :
    ∀ (j fc fm c p x rc : Nat) (pl : Nat → Nat) (μ ν : jM), cn - p ≤ j → j + 2 ≤ fc → j + 1 ≤ fm → c ≤ p → p ≤ cn → x ≤ 400 → rc ≤ 400 → CN μ0 μ p 0 x 0 rc pn pl → MN ν0 ν rc pn pl → PRES μ0 ν0 pn (f_X3_fill_56 fc (nI c) μ) (f_X6_plainSigned_4 fm (nI p) (nI x) ν) := by
  have hcn := hcd.2.1
  have hU := hb.2.1
  intro j
  induction j using Nat.strongRecOn with
  | _ j ih =>
    intro fc fm c p x rc pl μ ν hj hfc hfm hcp hp hx hrc h g
    obtain ⟨fc, rfl⟩ : ∃ z, fc = z + 2 := ⟨fc - 2, by omega⟩
    obtain ⟨fm, rfl⟩ : ∃ z, fm = z + 1 := ⟨fm - 1, by omega⟩
    have c4 := (h.oc hcd).1
    have cp5 := h.2.2.2.1
    have cU := (h.cf hc).2.1
    have m8 := (g.mr hmd).1
    have mU := (g.mf hm).2.1
    have hto : 0 * W + x = x := by rw [Nat.zero_mul, Nat.zero_add]
    have pc : ∀ {b : Bool} {μ' : jM}, f_X3_copiesSigned μ = some (bI b, μ') → f_X3_copiesPiece μ = some (bI b, μ') := fun e => s_piece hb hc h (fun z => by omega) (fun _ => e) (fun z => by omega)
    by_cases h1 : p = cn
    · have hh := h.upd (p' := p) (y' := 0) (x' := x) (en' := 1) 6 1 (Or.inr (Or.inl ⟨rfl, rfl, rfl, rfl, rfl⟩))
      refine PRES.fin (by omega) h (pc (b := true) ?_) (ν' := ν) ?_ hh g
      · unfold f_X3_copiesSigned
        rw [cp5, c4, if_neg (by rw [nI_ltI (by omega) (by omega)]; omega), jl_1, jbl_1, jlet_e, jbl_1, bI_t]
      · rw [f_X6_plainSigned_4.eq_2, m8, if_pos (by rw [nI_leI (by omega) (by omega)]; omega), jl_1, jbl_1]
    obtain ⟨b1, b2⟩ := (g.mr hmd).2.2.2 p (by omega)
    have ec0 : f_X3_copiesSigned μ = (if jb (cd p) = -128 then (jlet (jsI μ 17 5 (nI (p + 1))) (fun μ9 : jM => jbl (1 : Int32) (some ((1 : Int32), μ9)))) else (if jb (cd p) < 0 then (jcall (f_X3_copiesTimes (nI (p + 1)) (nI U) (1 - jb (cd p)) μ) (fun (r4 : Int32) (μ4 : jM) => jbl r4 (some (r4, μ4)))) else (jcall (f_X3_copiesTimes (nI (p + 1)) ((jb (cd p) + 1) * nI U) 1 μ) (fun (r6 : Int32) (μ6 : jM) => jbl r6 (some (r6, μ6)))))) := by
      unfold f_X3_copiesSigned
      rw [cp5, c4, if_pos (by rw [nI_ltI (by omega) (by omega)]; omega), cU, jlet_e, s_get (h.oc hcd) (show p < cn by omega), jcall_s, jlet_e, cp5]
      rw [show (nI p + 1 : Int32) = nI (p + 1) by rw [jl_1, nI_add]]
      rfl
    have em0 : f_X6_plainSigned_4 (fm + 1) (nI p) (nI x) ν = f_X6_plainSigned_43 (fun x1 x2 μ => f_X6_plainSigned_4 fm x1 x2 μ) (nI p) (nI x) (jb (cd p)) ν := by
      rw [f_X6_plainSigned_4.eq_2, m8, if_neg (by rw [nI_leI (by omega) (by omega)]; omega), jin_n (by omega) (by omega), nI_clamp (by omega), b2]
      by_cases h2 : 128 ≤ cd p
      · rw [if_pos (by rw [jl_128, nI_leI (by omega) (by omega)]; exact h2), jin_n (by omega) (by omega), jb_sub _ b1 h2]
      · rw [if_neg (by rw [jl_128, nI_leI (by omega) (by omega)]; exact h2), jin_n (by omega) (by omega), jb_lo _ (by omega)]
    rw [em0]
    unfold f_X6_plainSigned_43
    rw [show (nI p + 1 : Int32) = nI (p + 1) by rw [jl_1, nI_add], jlet_e]
    by_cases h2 : cd p < 128
    · obtain ⟨e1, e2, e3⟩ := nI_n128 (cd p) h2
      rw [jb_lo _ h2] at ec0 ⊢
      rw [if_neg e1, if_neg e2] at ec0
      have hmul : (nI (cd p) + 1) * nI U = nI ((cd p + 1) * U) := by rw [jl_1, nI_add, pk_mul]
      rw [hmul] at ec0
      rw [if_neg e2, mU, hmul, jlet_e]
      have hmU : (cd p + 1) * U ≤ 512 := Nat.le_trans (Nat.mul_le_mul (show cd p + 1 ≤ 128 by omega) (show U ≤ 4 by omega)) (by omega)
      have hmU0 : 0 < (cd p + 1) * U := Nat.mul_pos (by omega) (by omega)
      generalize (cd p + 1) * U = b at hmU hmU0 ec0 ⊢
      obtain ⟨μ', p', x', q1, q2, q3⟩ := s_cTall (fr := p + 1) (b := b) (T := 1) hb hc hcd (by omega) (by omega) (by omega) (by omega) hrc h
      rw [hto, cp1] at q1 q2 q3
      have ec : ∀ bo : Bool, f_X3_copiesTimes (nI (p + 1)) (nI b) (nI 1) μ = some (bI bo, μ') → f_X3_copiesSigned μ = some (bI bo, μ') := by
        intro bo hq1
        rw [ec0, jl_1, hq1, jcall_s, jbl_b]
      rcases s_copiesM (fr := p + 1) (b := b) (to := x) hmd (by omega) (by omega) (by omega) hrc g with ⟨r1, r2⟩ | ⟨r1, r2, ν', r3, r4⟩
      · rw [if_neg r1] at q1 q2 q3
        exact PRES.fail (by omega) h (pc (ec false q1)) (ν' := ν) (by rw [r2, jcall_s, jl_0, if_pos rfl, jbl_0]) q2 g
      · have rr : p + 1 + b ≤ cn ∧ x + b ≤ pn := ⟨r1, r2⟩
        rw [if_pos rr] at q1 q2 q3
        obtain ⟨t1, t2⟩ := q3 rfl
        subst t1; subst t2
        refine PRES.go (by omega) h (pc (ec true q1)) ?_
        unfold f_X6_plainSigned_139
        rw [r3, jcall_s, if_neg (show ¬ (nI 1 : Int32) = 0 by decide), nI_add, nI_add, jlet_e, jlet_e]
        rw [Nat.one_mul] at q2
        exact ih (cn - (p + 1 + b)) (by omega) (fc + 1) fm (c + 1) (p + 1 + b) (x + b) _ _ μ' ν' (by omega) (by omega) (by omega) (by omega) (by omega) (by omega) (by
          show (if rc < x + b then x + b else rc) ≤ 400
          by_cases h2 : rc < x + b
          · rw [if_pos h2]; omega
          · rw [if_neg h2]; exact hrc) q2 r4
    by_cases h3 : cd p = 128
    · rw [h3, jb_128, if_pos rfl, jlet_e, jl_1, jbl_1] at ec0
      rw [h3, jb_128, if_pos (show (-128 : Int32) < 0 by decide), if_pos (show (-128 : Int32) ≤ -128 by decide)]
      unfold f_X6_plainSigned_139
      have hh := h.upd (p' := p + 1) (y' := 0) (x' := x) (en' := 0) 5 (p + 1) (Or.inl ⟨rfl, rfl, rfl, rfl, rfl⟩)
      exact PRES.go (by omega) h (pc (b := true) ec0) (ih (cn - (p + 1)) (by omega) (fc + 1) fm (c + 1) (p + 1) x rc pl _ ν (by omega) (by omega) (by omega) (by omega) (by omega) hx hrc hh g)
    · obtain ⟨e1, e2, e3, e4⟩ := jb_hi (cd p) b1 (by omega)
      have e5 : ¬ jb (cd p) ≤ -128 := fun z => e1 (by
        have : ∀ v, v < 256 → 128 < v → ¬ jb v ≤ -128 := by decide +kernel
        exact absurd z (this _ b1 (by omega)))
      rw [if_neg e1, if_pos e2, e4] at ec0
      rw [if_pos e2, if_neg e5]
      obtain ⟨μ', p', x', q1, q2, q3⟩ := s_cTall (fr := p + 1) (b := U) (T := 257 - cd p) hb hc hcd (by omega) (by omega) (by omega) (by omega) hrc h
      obtain ⟨ν', r1, r2⟩ := s_m96 (fr := p + 1) (T := 257 - cd p) hb hm hmd (by omega) (by omega) e4 (fun x1 x2 μ => f_X6_plainSigned_4 fm x1 x2 μ) (257 - cd p) jFU 0 x rc pl ν (by unfold jFU; omega) (by omega) (by omega) hrc g
      rw [hto] at q1 q2 q3
      have ec : ∀ bo : Bool, f_X3_copiesTimes (nI (p + 1)) (nI U) (nI (257 - cd p)) μ = some (bI bo, μ') → f_X3_copiesSigned μ = some (bI bo, μ') := by
        intro bo hq1
        rw [ec0, hq1, jcall_s, jbl_b]
      rw [jl_0, r1]
      have hrc' := cp_rc (cn := cn) (fr := p + 1) (b := U) (cd := cd) hpn (257 - cd p) rc x pl hrc
      have hcpt := cp_to (cn := cn) (fr := p + 1) (b := U) (pn := pn) (cd := cd) (257 - cd p) rc x pl
      generalize cp cn (p + 1) U pn cd (257 - cd p) rc x pl = R at q1 q2 q3 r2 hrc' hcpt ⊢
      obtain ⟨ok, rc', to', pl'⟩ := R
      have ec2 := pc (ec ok q1)
      cases ok
      · exact PRES.fail (by omega) h ec2 rfl q2 r2
      · obtain ⟨t1, t2⟩ := q3 rfl
        obtain ⟨t3, t4⟩ := hcpt rfl
        have t5 := t4 (by omega)
        subst t1; subst t2
        refine PRES.go (by omega) h ec2 ?_
        rw [if_pos rfl]
        dsimp only at t3 ⊢
        rw [t3]
        exact ih (cn - (p + 1 + U)) (by omega) (fc + 1) fm (c + 1) (p + 1 + U) (x + (257 - cd p) * U) rc' pl' μ' ν' (by omega) (by omega) (by omega) (by omega) (by omega) (by omega) hrc' q2 r2
theorem plR {μ0 ν0 : jM} {f U W M D cn pn : Nat} {cd : Nat → Nat} (hb : CB f U W M D) (hc : CF μ0 f U W M D) (hcd : OC μ0 4 1000 cn cd) (hm : MF ν0 f U W M D) (hmd : MR ν0 8 2 1000 cn cd) (hf : f = 2) (hpn : pn ≤ 400) :
    ∀ (j fc fm c p x y rc : Nat) (pl : Nat → Nat) (μ ν : jM), cn + 1 - p ≤ j → j + 2 ≤ fc → j + 1 ≤ fm → 2 * c ≤ p → p ≤ cn + 1 → x ≤ 256 * p → y ≤ 256 * p → rc ≤ 400 → CN μ0 μ p y x 0 rc pn pl → MN ν0 ν rc pn pl → PRES μ0 ν0 pn (f_X3_fill_56 fc (nI c) μ) (f_X6_plainRows_6 fm (nI p) (nI x) (nI y) ν) := by
  have hcn := hcd.2.1
  obtain ⟨-, hU, hW1, hW2, hM, hD, hf2⟩ := id hb
  intro j
  induction j using Nat.strongRecOn with
  | _ j ih =>
    intro fc fm c p x y rc pl μ ν hj hfc hfm hcp hp hx hy hrc h g
    obtain ⟨fc, rfl⟩ : ∃ z, fc = z + 2 := ⟨fc - 2, by omega⟩
    obtain ⟨fm, rfl⟩ : ∃ z, fm = z + 1 := ⟨fm - 1, by omega⟩
    have c4 := (h.oc hcd).1
    have cp5 := h.2.2.2.1
    have cy := h.2.2.2.2.2.1
    have cx := h.2.2.2.2.2.2.1
    have m8 := (g.mr hmd).1
    have mW := (g.mf hm).2.2.1
    have hyW : y * W ≤ 256256 * 60 := Nat.mul_le_mul (by omega) hW2
    have pc : ∀ {b : Bool} {μ' : jM}, f_X3_copiesRows μ = some (bI b, μ') → f_X3_copiesPiece μ = some (bI b, μ') := fun e => s_piece hb hc h (fun z => by omega) (fun z => by omega) (fun _ => e)
    by_cases h1 : cn ≤ p + 1
    · refine PRES.fail (by omega) h (pc (b := false) (μ' := μ) ?_) (ν' := ν) ?_ h g
      · unfold f_X3_copiesRows
        rw [cp5, c4, jl_1, nI_add, if_neg (by rw [nI_ltI (by omega) (by omega)]; omega), jl_0, jbl_0, bI_f]
      · rw [f_X6_plainRows_6.eq_2, m8, jl_1, nI_add, if_pos (by rw [nI_leI (by omega) (by omega)]; omega), jl_0, jbl_0]
    obtain ⟨b1, b2⟩ := (g.mr hmd).2.2.2 p (by omega)
    obtain ⟨b3, b4⟩ := (g.mr hmd).2.2.2 (p + 1) (by omega)
    have ec0 : f_X3_copiesRows μ = (if nI (cd p) ≤ (0 : Int32) then (if nI (cd (p + 1)) = (0 : Int32) then (jlet (jsI μ 17 7 (nI (y + 1))) (fun μ4 : jM => jlet (jsI μ4 17 8 (nI 0)) (fun μ5 : jM => jlet (jsI μ5 17 5 ((μ5.1 17 5) + (2 : Int32))) (fun μ6 : jM => jbl (1 : Int32) (some ((1 : Int32), μ6)))))) else (if nI (cd (p + 1)) = (1 : Int32) then (jbl (1 : Int32) (jlet (jsI μ 17 6 (1 : Int32)) (fun μ9 : jM => jbl (1 : Int32) (some ((1 : Int32), μ9))))) else (if nI (cd (p + 1)) = (2 : Int32) then (jcall (f_X3_goesOn  μ) (fun (r13 : Int32) (μ13 : jM) => jbl r13 (some (r13, μ13)))) else (jcall (f_X3_copiesTimes (nI (p + 2)) (nI (cd (p + 1))) (1 : Int32) μ) (fun (r15 : Int32) (μ15 : jM) => jlet (jsI μ15 17 5 ((μ15.1 17 5) + (nI (cd (p + 1)) &&& (1 : Int32)))) (fun μ16 : jM => jbl r15 (some (r15, μ16)))))))) else (jcall (f_X3_copiesTimes (nI (p + 1)) (1 : Int32) (nI (cd p)) μ) (fun (r18 : Int32) (μ18 : jM) => jbl r18 (some (r18, μ18))))) := by
      unfold f_X3_copiesRows
      have a1 : (nI p + 1 : Int32) = nI (p + 1) := by rw [jl_1, nI_add]
      have a2 : (nI p + 2 : Int32) = nI (p + 2) := by rw [jl_2, nI_add]
      have a3 : (nI y + 1 : Int32) = nI (y + 1) := by rw [jl_1, nI_add]
      rw [cp5, c4, a1, if_pos (by rw [nI_ltI (by omega) (by omega)]; omega), s_get (h.oc hcd) (show p < cn by omega), jcall_s, cp5, a1, s_get (h.oc hcd) (show p + 1 < cn by omega), jcall_s, cy, a3, cp5, a2, a1, ← jl_0]
    have em0 : f_X6_plainRows_6 (fm + 1) (nI p) (nI x) (nI y) ν = (if nI (cd p) ≤ (0 : Int32) then (if nI (cd (p + 1)) = (0 : Int32) then f_X6_plainRows_6 fm (nI (p + 2)) (nI 0) (nI (y + 1)) ν else (if nI (cd (p + 1)) = (1 : Int32) then some (nI 1, ν) else (if nI (cd (p + 1)) = (2 : Int32) then (if nI (p + 3) < nI cn then (jin (nI (p + 2)) 1000 (jlet (nI x + (ν.1 2 (nI (p + 2)).toNatClampNeg)) (fun z23 : Int32 => jin (nI (p + 3)) 1000 (jlet (nI y + (ν.1 2 (nI (p + 3)).toNatClampNeg)) (fun z25 : Int32 => f_X6_plainRows_6 fm (nI (p + 4)) z23 z25 ν))))) else some (nI 0, ν)) else (jcall (f_X6_copies (nI (p + 2)) (nI (y * W + x)) (nI (cd (p + 1))) ν) (fun (r16 : Int32) (μ16 : jM) => if r16 = (0 : Int32) then some (nI 0, μ16) else (f_X6_plainRows_6 fm (nI (p + 2 + (cd (p + 1) + cd (p + 1) % 2))) (nI (x + cd (p + 1))) (nI y) μ16)))))) else (f_X6_plainRows_55 (fun x1 x2 x3 μ => f_X6_plainRows_6 fm x1 x2 x3 μ) jFU (nI (p + 2)) (nI x) (nI y) (nI (cd p)) (nI (cd (p + 1))) (nI (y * W + x)) (nI 0) ν)) := by
      have a1 : (nI p + 1 : Int32) = nI (p + 1) := by rw [jl_1, nI_add]
      have a2 : (nI p + 2 : Int32) = nI (p + 2) := by rw [jl_2, nI_add]
      have a3 : (nI y + 1 : Int32) = nI (y + 1) := by rw [jl_1, nI_add]
      have a4 : (nI (p + 2) + 1 : Int32) = nI (p + 3) := by rw [jl_1, nI_add]
      have a5 : (nI (p + 2) + 2 : Int32) = nI (p + 4) := by rw [jl_2, nI_add]
      rw [f_X6_plainRows_6.eq_2, m8, a1, if_neg (by rw [nI_leI (by omega) (by omega)]; omega), jin_n (by omega) (by omega), nI_clamp (by omega), b2, jlet_e, jin_n (by omega) (by omega), nI_clamp (by omega), b4, jlet_e, mW, pk_mul, nI_add, jlet_e, a2, jlet_e, a3, jlet_e, a4, a5]
      have nz : ∀ (k : Option (Int32 × jM)), jnz (2 : Int32) k = k := fun k => by rw [jl_2, jnz_n (by omega) (by omega)]
      have rm : nI (cd (p + 1)) - nI (cd (p + 1)) / 2 * 2 = nI (cd (p + 1) % 2) := by rw [jl_2, nI_rem2 (by omega)]
      have b0 : jbl (0 : Int32) (some ((0 : Int32), ν)) = some (nI 0, ν) := by rw [jl_0, jbl_0]
      have b5 : jbl (1 : Int32) (some ((1 : Int32), ν)) = some (nI 1, ν) := by rw [jl_1, jbl_1]
      have b6 : ∀ μ : jM, jbl (0 : Int32) (some ((0 : Int32), μ)) = some (nI 0, μ) := fun μ => by rw [jl_0, jbl_0]
      simp only [nz, rm, b0, b5, b6, nI_add, jlet_e, f_X6_plainRows_228]
      rw [← jl_0]
    rw [em0]
    by_cases hmany : cd p = 0
    · have z0 : nI (cd p) ≤ (0 : Int32) := by rw [hmany]; decide
      rw [if_pos z0] at ec0 ⊢
      by_cases k0 : cd (p + 1) = 0
      · have z1 : nI (cd (p + 1)) = 0 := by rw [k0]; decide
        rw [if_pos z1] at ec0 ⊢
        have h1' := h.upd (p' := p) (y' := y + 1) (x' := x) (en' := 0) 7 (y + 1) (Or.inr (Or.inr (Or.inl ⟨rfl, rfl, rfl, rfl, rfl⟩)))
        have h2' := h1'.upd (p' := p) (y' := y + 1) (x' := 0) (en' := 0) 8 0 (Or.inr (Or.inr (Or.inr ⟨rfl, rfl, rfl, rfl, rfl⟩)))
        have h3' := h2'.upd (p' := p + 2) (y' := y + 1) (x' := 0) (en' := 0) 5 (p + 2) (Or.inl ⟨rfl, rfl, rfl, rfl, rfl⟩)
        rw [jlet_e, jlet_e, h2'.2.2.2.1, jl_2, nI_add, jlet_e, jl_1, jbl_1] at ec0
        exact PRES.go (by omega) h (pc (b := true) ec0) (ih (cn + 1 - (p + 2)) (by omega) (fc + 1) fm (c + 1) (p + 2) 0 (y + 1) rc pl _ ν (by omega) (by omega) (by omega) (by omega) (by omega) (by omega) (by omega) hrc h3' g)
      have z1 : ¬ nI (cd (p + 1)) = 0 := nI_ne0' (by omega) (by omega)
      rw [if_neg z1] at ec0 ⊢
      by_cases k1 : cd (p + 1) = 1
      · have z2 : nI (cd (p + 1)) = 1 := by rw [k1]; decide
        rw [if_pos z2] at ec0 ⊢
        have hh := h.upd (p' := p) (y' := y) (x' := x) (en' := 1) 6 1 (Or.inr (Or.inl ⟨rfl, rfl, rfl, rfl, rfl⟩))
        rw [jl_1, jbl_1, jlet_e, jbl_1] at ec0
        exact PRES.fin (by omega) h (pc (b := true) ec0) rfl hh g
      have z2 : ¬ nI (cd (p + 1)) = 1 := by rw [jl_1, nI_eq (by omega) (by omega)]; exact k1
      rw [if_neg z2] at ec0 ⊢
      by_cases k2 : cd (p + 1) = 2
      · have z3 : nI (cd (p + 1)) = 2 := by rw [k2]; decide
        rw [if_pos z3] at ec0 ⊢
        by_cases q4 : p + 3 < cn
        · obtain ⟨b5, b6⟩ := (g.mr hmd).2.2.2 (p + 2) (by omega)
          obtain ⟨b7, b8⟩ := (g.mr hmd).2.2.2 (p + 3) (by omega)
          have h1' := h.upd (p' := p) (y' := y) (x' := x + cd (p + 2)) (en' := 0) 8 (x + cd (p + 2)) (Or.inr (Or.inr (Or.inr ⟨rfl, rfl, rfl, rfl, rfl⟩)))
          have h2' := h1'.upd (p' := p) (y' := y + cd (p + 3)) (x' := x + cd (p + 2)) (en' := 0) 7 (y + cd (p + 3)) (Or.inr (Or.inr (Or.inl ⟨rfl, rfl, rfl, rfl, rfl⟩)))
          have h3' := h2'.upd (p' := p + 4) (y' := y + cd (p + 3)) (x' := x + cd (p + 2)) (en' := 0) 5 (p + 4) (Or.inl ⟨rfl, rfl, rfl, rfl, rfl⟩)
          have eg : f_X3_goesOn μ = some (nI 1, jsI (jsI (jsI μ 17 8 (nI (x + cd (p + 2)))) 17 7 (nI (y + cd (p + 3)))) 17 5 (nI (p + 4))) := by
            unfold f_X3_goesOn
            rw [cp5, jl_3, nI_add, c4, if_pos (by rw [nI_ltI (by omega) (by omega)]; omega), jl_2, nI_add, s_get (h.oc hcd) (show p + 2 < cn by omega), jcall_s, cx, nI_add, jlet_e, h1'.2.2.2.1, nI_add, s_get (h1'.oc hcd) (show p + 3 < cn by omega), jcall_s, h1'.2.2.2.2.2.1, nI_add, jlet_e, h2'.2.2.2.1, jl_4, nI_add, jlet_e, jl_1, jbl_1]
          rw [eg, jcall_s, jbl_1] at ec0
          rw [if_pos (by rw [nI_ltI (by omega) (by omega)]; exact q4), jin_n (by omega) (by omega), nI_clamp (by omega), b6, nI_add, jlet_e, jin_n (by omega) (by omega), nI_clamp (by omega), b8, nI_add, jlet_e]
          exact PRES.go (by omega) h (pc (b := true) ec0) (ih (cn + 1 - (p + 4)) (by omega) (fc + 1) fm (c + 1) (p + 4) (x + cd (p + 2)) (y + cd (p + 3)) rc pl _ ν (by omega) (by omega) (by omega) (by omega) (by omega) (by omega) (by omega) hrc h3' g)
        · have eg : f_X3_goesOn μ = some (nI 0, μ) := by
            unfold f_X3_goesOn
            rw [cp5, jl_3, nI_add, c4, if_neg (by rw [nI_ltI (by omega) (by omega)]; omega), jl_0, jbl_0]
          rw [eg, jcall_s, jbl_0] at ec0
          rw [if_neg (by rw [nI_ltI (by omega) (by omega)]; exact q4)]
          exact PRES.fail (by omega) h (pc (b := false) ec0) rfl h g
      · have z3 : ¬ nI (cd (p + 1)) = 2 := by rw [jl_2, nI_eq (by omega) (by omega)]; exact k2
        rw [if_neg z3] at ec0 ⊢
        obtain ⟨μ', p', x', q1, q2, q3⟩ := s_cTall (fr := p + 2) (b := cd (p + 1)) (T := 1) hb hc hcd (by omega) (by omega) (by omega) (by omega) hrc h
        rw [cp1] at q1 q2 q3
        have e2 : cd (p + 1) % 2 < 2 := Nat.mod_lt _ (by omega)
        have ec : ∀ bo : Bool, f_X3_copiesTimes (nI (p + 2)) (nI (cd (p + 1))) (nI 1) μ = some (bI bo, μ') → f_X3_copiesRows μ = some (bI bo, jsI μ' 17 5 (nI (p' + cd (p + 1) % 2))) := by
          intro bo hq1
          rw [ec0, jl_1, hq1, jcall_s, nI_and1 (by omega), q2.2.2.2.1, nI_add, jlet_e, jbl_b]
        have hh := q2.upd (p' := p' + cd (p + 1) % 2) (y' := y) (x' := x') (en' := 0) 5 (p' + cd (p + 1) % 2) (Or.inl ⟨rfl, rfl, rfl, rfl, rfl⟩)
        rcases s_copiesM (fr := p + 2) (b := cd (p + 1)) (to := y * W + x) hmd (by omega) (by omega) (by omega) hrc g with ⟨r1, r2⟩ | ⟨r1, r2, ν', r3, r4⟩
        · rw [if_neg r1] at q1 q2 q3 hh
          exact PRES.fail (by omega) h (pc (ec false q1)) (ν' := ν) (by rw [r2, jcall_s, if_pos (show (nI 0 : Int32) = 0 by decide)]) hh g
        · have rr : p + 2 + cd (p + 1) ≤ cn ∧ y * W + x + cd (p + 1) ≤ pn := ⟨r1, r2⟩
          rw [if_pos rr] at q1 q2 q3 hh
          obtain ⟨t1, t2⟩ := q3 rfl
          subst t1; subst t2
          refine PRES.go (by omega) h (pc (ec true q1)) ?_
          rw [r3, jcall_s, if_neg (show ¬ (nI 1 : Int32) = 0 by decide)]
          rw [Nat.one_mul] at hh
          have := ih (cn + 1 - (p + 2 + cd (p + 1) + cd (p + 1) % 2)) (by omega) (fc + 1) fm (c + 1) (p + 2 + cd (p + 1) + cd (p + 1) % 2) (x + cd (p + 1)) y _ _ _ ν' (by omega) (by omega) (by omega) (by omega) (by omega) (by omega) (by omega) (by
            show (if rc < y * W + x + cd (p + 1) then y * W + x + cd (p + 1) else rc) ≤ 400
            by_cases h2 : rc < y * W + x + cd (p + 1)
            · rw [if_pos h2]; omega
            · rw [if_neg h2]; exact hrc) hh r4
          rw [show p + 2 + (cd (p + 1) + cd (p + 1) % 2) = p + 2 + cd (p + 1) + cd (p + 1) % 2 by omega]
          exact this
    · have z0 : ¬ nI (cd p) ≤ (0 : Int32) := by rw [jl_0, nI_leI (by omega) (by omega)]; omega
      rw [if_neg z0] at ec0 ⊢
      obtain ⟨μ', p', x', q1, q2, q3⟩ := s_cTall (fr := p + 1) (b := 1) (T := cd p) hb hc hcd (by omega) (by omega) (by omega) (by omega) hrc h
      obtain ⟨ν', r1, r2⟩ := s_m55 (fr := p + 1) (T := cd p) (i := p + 2) (x := x) (y := y) (to0 := y * W + x) hb hm hmd (by omega) (by omega) (by omega) (by omega) (fun x1 x2 x3 μ => f_X6_plainRows_6 fm x1 x2 x3 μ) (cd p) jFU 0 rc pl ν (by unfold jFU; omega) (by omega) hrc g
      rw [Nat.add_zero] at r1 r2
      have ec : ∀ bo : Bool, f_X3_copiesTimes (nI (p + 1)) (nI 1) (nI (cd p)) μ = some (bI bo, μ') → f_X3_copiesRows μ = some (bI bo, μ') := by
        intro bo hq1
        rw [ec0, jl_1, hq1, jcall_s, jbl_b]
      rw [r1]
      have hrc' := cp_rc (cn := cn) (fr := p + 1) (b := 1) (cd := cd) hpn (cd p) rc (y * W + x) pl hrc
      have hcpt := cp_to (cn := cn) (fr := p + 1) (b := 1) (pn := pn) (cd := cd) (cd p) rc (y * W + x) pl
      generalize cp cn (p + 1) 1 pn cd (cd p) rc (y * W + x) pl = R at q1 q2 q3 r2 hrc' hcpt ⊢
      obtain ⟨ok, rc', to', pl'⟩ := R
      have ec2 := pc (ec ok q1)
      cases ok
      · exact PRES.fail (by omega) h ec2 rfl q2 r2
      · obtain ⟨t1, t2⟩ := q3 rfl
        subst t1; subst t2
        refine PRES.go (by omega) h ec2 ?_
        rw [if_pos rfl]
        rw [Nat.mul_one] at q2
        exact ih (cn + 1 - (p + 1 + 1)) (by omega) (fc + 1) fm (c + 1) (p + 1 + 1) (x + cd p) y rc' pl' μ' ν' (by omega) (by omega) (by omega) (by omega) (by omega) (by omega) (by omega) hrc' q2 r2
