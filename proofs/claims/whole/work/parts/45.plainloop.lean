def PRES (μ0 ν0 : jM) (pn : Nat) (a b : Option (Int32 × jM)) : Prop := ∃ (μ' ν' : jM) (p y x en rc : Nat) (pl : Nat → Nat), ((a = some (nI 0, μ') ∧ b = some (nI 1, ν')) ∨ (a = some (nI 1, μ') ∧ b = some (nI 0, ν'))) ∧ CN μ0 μ' p y x en rc pn pl ∧ MN ν0 ν' rc pn pl
theorem s_f56 {μ0 μ : jM} {p y x rc pn c fu : Nat} {pl : Nat → Nat} (hc : c ≤ 1000) (h : CN μ0 μ p y x 0 rc pn pl) : f_X3_fill_56 (fu + 1) (nI c) μ = jcall (f_X3_copiesPiece μ) (fun (r1 : Int32) (μ1 : jM) => if r1 = 0 then some (nI 1, μ1) else f_X3_fill_56 fu (nI (c + 1)) μ1) := by
  rw [f_X3_fill_56.eq_2, if_neg (by rw [jl_1000, nI_ltI (by omega) (by omega)]; omega), h.2.2.2.2.1, if_pos (show nI 0 = 0 by decide)]
  simp only [jlet_e, jl_1, nI_add]
theorem s_f56e {μ0 μ : jM} {p y x rc pn fu : Nat} {x2 : Int32} {pl : Nat → Nat} (h : CN μ0 μ p y x 1 rc pn pl) : f_X3_fill_56 (fu + 1) x2 μ = some (nI 0, μ) := by
  unfold f_X3_fill_56 f_X3_fill_85
  rw [h.2.2.2.2.1, if_neg (show ¬ (nI 1 : Int32) = 0 by decide), jl_0]
  by_cases h1 : (1000 : Int32) < x2
  · rw [if_pos h1]
  · rw [if_neg h1]
theorem jblr {r : Int32} {μ : jM} {b : Bool} (h : r = if b then nI 1 else nI 0) : jbl r (some (r, μ)) = some (r, μ) := by
  subst h
  cases b
  · exact jbl_0
  · exact jbl_1
theorem cp1 {cn fr b pn rc to : Nat} {pl cd : Nat → Nat} : cp cn fr b pn cd 1 rc to pl = if fr + b ≤ cn ∧ to + b ≤ pn then (true, (if rc < to + b then to + b else rc), to + b, ov pl to (fun k => cd (fr + k)) b) else (false, rc, to, pl) := by
  conv => lhs; unfold cp
  rfl
def bI (b : Bool) : Int32 := if b then nI 1 else nI 0
theorem bI_t : bI true = nI 1 := rfl
theorem bI_f : bI false = nI 0 := rfl
theorem jbl_b {b : Bool} {μ : jM} : jbl (bI b) (some (bI b, μ)) = some (bI b, μ) := jblr (b := b) rfl
theorem s_piece {μ0 μ μ' : jM} {f U W M D p y x en rc pn : Nat} {pl : Nat → Nat} {b : Bool} (hb : CB f U W M D) (hc : CF μ0 f U W M D) (h : CN μ0 μ p y x en rc pn pl) (e0 : f = 0 → f_X3_copiesMarked μ = some (bI b, μ')) (e1 : f = 1 → f_X3_copiesSigned μ = some (bI b, μ')) (e2 : f = 2 → f_X3_copiesRows μ = some (bI b, μ')) : f_X3_copiesPiece μ = some (bI b, μ') := by
  have hf := hb.1
  unfold f_X3_copiesPiece
  rw [(h.cf hc).1]
  rcases (show f = 0 ∨ f = 1 ∨ f = 2 by omega) with q | q | q
  · rw [e0 q, q, if_pos (show nI 0 = 0 by decide), jcall_s, jbl_b]
  · rw [e1 q, q, if_neg (show ¬ nI 1 = 0 by decide), if_pos (show nI 1 = 1 by decide), jcall_s, jbl_b]
  · rw [e2 q, q, if_neg (show ¬ nI 2 = 0 by decide), if_neg (show ¬ nI 2 = 1 by decide), jcall_s, jbl_b]
theorem PRES.fail {μ0 ν0 μ μ' ν' : jM} {p y x rc pn c fu p' y' x' en' rc' : Nat} {pl pl' : Nat → Nat} {b : Option (Int32 × jM)} (hc : c ≤ 1000) (h : CN μ0 μ p y x 0 rc pn pl) (e : f_X3_copiesPiece μ = some (bI false, μ')) (em : b = some (nI 0, ν')) (h' : CN μ0 μ' p' y' x' en' rc' pn pl') (g' : MN ν0 ν' rc' pn pl') : PRES μ0 ν0 pn (f_X3_fill_56 (fu + 1) (nI c) μ) b := by
  refine ⟨μ', ν', p', y', x', en', rc', pl', Or.inr ⟨?_, em⟩, h', g'⟩
  rw [s_f56 hc h, e, jcall_s, bI_f, if_pos (show (nI 0 : Int32) = 0 by decide)]
theorem PRES.go {μ0 ν0 μ μ' : jM} {p y x rc pn c fu : Nat} {pl : Nat → Nat} {b : Option (Int32 × jM)} (hc : c ≤ 1000) (h : CN μ0 μ p y x 0 rc pn pl) (e : f_X3_copiesPiece μ = some (bI true, μ')) (k : PRES μ0 ν0 pn (f_X3_fill_56 fu (nI (c + 1)) μ') b) : PRES μ0 ν0 pn (f_X3_fill_56 (fu + 1) (nI c) μ) b := by
  rw [s_f56 hc h, e, jcall_s, bI_t, if_neg (show ¬ (nI 1 : Int32) = 0 by decide)]
  exact k
theorem PRES.fin {μ0 ν0 μ μ' ν' : jM} {p y x rc pn c fu p' y' x' rc' : Nat} {pl pl' : Nat → Nat} {b : Option (Int32 × jM)} (hc : c ≤ 1000) (h : CN μ0 μ p y x 0 rc pn pl) (e : f_X3_copiesPiece μ = some (bI true, μ')) (em : b = some (nI 1, ν')) (h' : CN μ0 μ' p' y' x' 1 rc' pn pl') (g' : MN ν0 ν' rc' pn pl') : PRES μ0 ν0 pn (f_X3_fill_56 (fu + 2) (nI c) μ) b :=
  PRES.go hc h e ⟨μ', ν', p', y', x', 1, rc', pl', Or.inl ⟨s_f56e h', em⟩, h', g'⟩
theorem plM {μ0 ν0 : jM} {f U W M D cn pn : Nat} {cd : Nat → Nat} (hb : CB f U W M D) (hc : CF μ0 f U W M D) (hcd : OC μ0 4 1000 cn cd) (hm : MF ν0 f U W M D) (hmd : MR ν0 8 2 1000 cn cd) (hf : f = 0) (hpn : pn ≤ 400) :
    ∀ (j fc fm c p x rc : Nat) (pl : Nat → Nat) (μ ν : jM), cn - p ≤ j → j + 2 ≤ fc → j + 1 ≤ fm → c ≤ p → p ≤ cn → x ≤ 400 → rc ≤ 400 → CN μ0 μ p 0 x 0 rc pn pl → MN ν0 ν rc pn pl → PRES μ0 ν0 pn (f_X3_fill_56 fc (nI c) μ) (f_X6_plainMarked_4 fm (nI p) (nI x) ν) := by
  have hcn := hcd.2.1
  have hU := hb.2.1
  have hM := hb.2.2.2.2.1
  intro j
  induction j using Nat.strongRecOn with
  | _ j ih =>
    intro fc fm c p x rc pl μ ν hj hfc hfm hcp hp hx hrc h g
    obtain ⟨fc, rfl⟩ : ∃ z, fc = z + 2 := ⟨fc - 2, by omega⟩
    obtain ⟨fm, rfl⟩ : ∃ z, fm = z + 1 := ⟨fm - 1, by omega⟩
    have c4 := (h.oc hcd).1
    have cp5 := h.2.2.2.1
    have cU := (h.cf hc).2.1
    have cM := (h.cf hc).2.2.2.1
    have m8 := (g.mr hmd).1
    have mM := (g.mf hm).2.2.2.1
    have mU := (g.mf hm).2.1
    have hto : 0 * W + x = x := by rw [Nat.zero_mul, Nat.zero_add]
    have pc : ∀ {b : Bool} {μ' : jM}, f_X3_copiesMarked μ = some (bI b, μ') → f_X3_copiesPiece μ = some (bI b, μ') := fun e => s_piece hb hc h (fun _ => e) (fun z => by omega) (fun z => by omega)
    by_cases h1 : p = cn
    · refine PRES.fail (by omega) h (pc (b := false) (μ' := μ) ?_) (ν' := ν) ?_ h g
      · unfold f_X3_copiesMarked
        rw [cp5, c4, if_neg (by rw [nI_ltI (by omega) (by omega)]; omega), jl_0, jbl_0, bI_f]
      · rw [f_X6_plainMarked_4.eq_2, m8, if_pos (by rw [nI_leI (by omega) (by omega)]; omega), jl_0, jbl_0]
    obtain ⟨b1, b2⟩ := (g.mr hmd).2.2.2 p (by omega)
    by_cases hq : cd p = M
    · by_cases h2 : p + 1 = cn
      · refine PRES.fail (by omega) h (pc (b := false) (μ' := μ) ?_) (ν' := ν) ?_ h g
        · unfold f_X3_copiesMarked
          rw [cp5, c4, if_pos (by rw [nI_ltI (by omega) (by omega)]; omega), cU, jlet_e, s_get (h.oc hcd) (show p < cn by omega), jcall_s, cM, cp5, c4, if_pos (by rw [hq]), jl_1, nI_add, if_neg (by rw [nI_ltI (by omega) (by omega)]; omega), jl_0, jbl_0, bI_f]
        · rw [f_X6_plainMarked_4.eq_2, m8, if_neg (by rw [nI_leI (by omega) (by omega)]; omega), jin_n (by omega) (by omega), nI_clamp (by omega), b2, mM, if_pos (by rw [hq]), jl_1, nI_add, if_neg (by rw [nI_ltI (by omega) (by omega)]; omega), jl_0, jbl_0]
      obtain ⟨b3, b4⟩ := (g.mr hmd).2.2.2 (p + 1) (by omega)
      by_cases h3 : cd (p + 1) = 0
      · have e0 : nI (cd (p + 1)) = 0 := by rw [h3]; decide
        have hh := h.upd (p' := p) (y' := 0) (x' := x) (en' := 1) 6 1 (Or.inr (Or.inl ⟨rfl, rfl, rfl, rfl, rfl⟩))
        refine PRES.fin (by omega) h (pc (b := true) ?_) (ν' := ν) ?_ hh g
        · unfold f_X3_copiesMarked
          rw [cp5, c4, if_pos (by rw [nI_ltI (by omega) (by omega)]; omega), cU, jlet_e, s_get (h.oc hcd) (show p < cn by omega), jcall_s, cM, cp5, c4, if_pos (by rw [hq]), jl_1, nI_add, if_pos (by rw [nI_ltI (by omega) (by omega)]; omega), s_get (h.oc hcd) (show p + 1 < cn by omega), jcall_s, if_pos e0]
          unfold f_X3_copiesMarked_98 f_X3_copiesMarked_123
          rw [jbl_1, jlet_e, jsI_s, if_neg (show ¬ (nI 1 : Int32) = 0 by decide), jl_1, jbl_1, bI_t]
        · rw [f_X6_plainMarked_4.eq_2, m8, if_neg (by rw [nI_leI (by omega) (by omega)]; omega), jin_n (by omega) (by omega), nI_clamp (by omega), b2, mM, if_pos (by rw [hq]), jl_1, nI_add, if_pos (by rw [nI_ltI (by omega) (by omega)]; omega), jin_n (by omega) (by omega), nI_clamp (by omega), b4, jlet_e, if_pos e0, jbl_1]
      · have e0 : ¬ nI (cd (p + 1)) = 0 := nI_ne0' (by omega) (by omega)
        have hh := h.upd (p' := p) (y' := 0) (x' := x) (en' := 0) 6 0 (Or.inr (Or.inl ⟨rfl, rfl, rfl, rfl, rfl⟩))
        have cp6 := hh.2.2.2.1
        obtain ⟨μ', p', x', q1, q2, q3⟩ := s_cTall (fr := p + 2) (b := U) (T := cd (p + 1)) hb hc hcd (by omega) (by omega) (by omega) (by omega) hrc hh
        obtain ⟨ν', r1, r2⟩ := s_m87 (i := p) (T := cd (p + 1)) hb hm hmd (by omega) (by omega) (fun x1 x2 μ => f_X6_plainMarked_4 fm x1 x2 μ) (cd (p + 1)) jFU 0 x rc pl ν (by unfold jFU; omega) (by omega) (by omega) hrc g
        rw [hto] at q1 q2 q3
        have ec : ∀ b : Bool, f_X3_copiesTimes (nI (p + 2)) (nI U) (nI (cd (p + 1))) (jsI μ 17 6 (nI 0)) = some (bI b, μ') → f_X3_copiesMarked μ = some (bI b, μ') := by
          intro b hq1
          unfold f_X3_copiesMarked
          rw [cp5, c4, if_pos (by rw [nI_ltI (by omega) (by omega)]; omega), cU, jlet_e, s_get (h.oc hcd) (show p < cn by omega), jcall_s, cM, cp5, c4, if_pos (by rw [hq]), jl_1, nI_add, if_pos (by rw [nI_ltI (by omega) (by omega)]; omega), s_get (h.oc hcd) (show p + 1 < cn by omega), jcall_s, if_neg e0]
          unfold f_X3_copiesMarked_98 f_X3_copiesMarked_123
          rw [jl_0, jbl_0, jlet_e, jsI_s, if_pos rfl, cp6, jl_2, nI_add, hq1, jcall_s]
          cases b
          · rw [bI_f, if_pos rfl, jbl_0]
          · rw [bI_t, if_neg (show ¬ (nI 1 : Int32) = nI 0 by decide), jl_1, jbl_1]
        have em : f_X6_plainMarked_4 (fm + 1) (nI p) (nI x) ν = f_X6_plainMarked_87 (fun x1 x2 μ => f_X6_plainMarked_4 fm x1 x2 μ) jFU (nI p) (nI x) (nI (cd (p + 1))) (nI 0) ν := by
          rw [f_X6_plainMarked_4.eq_2, m8, if_neg (by rw [nI_leI (by omega) (by omega)]; omega), jin_n (by omega) (by omega), nI_clamp (by omega), b2, mM, if_pos (by rw [hq]), jl_1, nI_add, if_pos (by rw [nI_ltI (by omega) (by omega)]; omega), jin_n (by omega) (by omega), nI_clamp (by omega), b4, jlet_e, if_neg e0, jl_0]
        rw [em, r1]
        have hrc' := cp_rc (cn := cn) (fr := p + 2) (b := U) (cd := cd) hpn (cd (p + 1)) rc x pl hrc
        have hcpt := cp_to (cn := cn) (fr := p + 2) (b := U) (pn := pn) (cd := cd) (cd (p + 1)) rc x pl
        generalize cp cn (p + 2) U pn cd (cd (p + 1)) rc x pl = R at q1 q2 q3 r2 hrc' hcpt ⊢
        obtain ⟨ok, rc', to', pl'⟩ := R
        have ec2 := pc (ec ok q1)
        cases ok
        · exact PRES.fail (by omega) h ec2 rfl q2 r2
        · obtain ⟨t1, t2⟩ := q3 rfl
          obtain ⟨t3, t4⟩ := hcpt rfl
          have t5 := t4 (by omega)
          subst t1; subst t2
          refine PRES.go (by omega) h ec2 ?_
          rw [if_pos rfl]
          dsimp only at t3 ⊢
          rw [t3, show p + (2 + U) = p + 2 + U by omega]
          exact ih (cn - (p + 2 + U)) (by omega) (fc + 1) fm (c + 1) (p + 2 + U) (x + cd (p + 1) * U) rc' pl' μ' ν' (by omega) (by omega) (by omega) (by omega) (by omega) (by omega) hrc' q2 r2
    · have hq2 : ¬ nI (cd p) = nI M := by rw [nI_eq (by omega) (by omega)]; exact hq
      obtain ⟨μ', p', x', q1, q2, q3⟩ := s_cTall (fr := p) (b := U) (T := 1) hb hc hcd (by omega) (by omega) (by omega) (by omega) hrc h
      rw [hto, cp1] at q1 q2 q3
      have ec : ∀ b : Bool, f_X3_copiesTimes (nI p) (nI U) (nI 1) μ = some (if b then nI 1 else nI 0, μ') → f_X3_copiesMarked μ = some (bI b, μ') := by
        intro b hq1
        unfold f_X3_copiesMarked
        rw [cp5, c4, if_pos (by rw [nI_ltI (by omega) (by omega)]; omega), cU, jlet_e, s_get (h.oc hcd) (show p < cn by omega), jcall_s, cM, cp5, c4, if_neg hq2, jl_1, hq1, jcall_s]
        exact jbl_b
      have em : f_X6_plainMarked_4 (fm + 1) (nI p) (nI x) ν = jcall (f_X6_copies (nI p) (nI x) (nI U) ν) (fun (r16 : Int32) (μ16 : jM) => if r16 = (0 : Int32) then (jbl (0 : Int32) (some ((0 : Int32), μ16))) else (jlet ((nI p) + (μ16.1 0 1)) (fun z17 : Int32 => jlet ((nI x) + (μ16.1 0 1)) (fun z18 : Int32 => f_X6_plainMarked_4 fm z17 z18 μ16)))) := by
        rw [f_X6_plainMarked_4.eq_2, m8, if_neg (by rw [nI_leI (by omega) (by omega)]; omega), jin_n (by omega) (by omega), nI_clamp (by omega), b2, mM, if_neg hq2, mU]
      rw [em]
      rcases s_copiesM (fr := p) (b := U) (to := x) hmd (by omega) (by omega) (by omega) hrc g with ⟨r1, r2⟩ | ⟨r1, r2, ν', r3, r4⟩
      · rw [if_neg r1] at q1 q2 q3
        exact PRES.fail (by omega) h (pc (ec false q1)) (ν' := ν) (by rw [r2, jcall_s, jl_0, if_pos rfl, jbl_0]) q2 g
      · have rr : p + U ≤ cn ∧ x + U ≤ pn := ⟨r1, r2⟩
        rw [if_pos rr] at q1 q2 q3
        obtain ⟨t1, t2⟩ := q3 rfl
        subst t1; subst t2
        have mU' := (r4.mf hm).2.1
        refine PRES.go (by omega) h (pc (ec true q1)) ?_
        rw [r3, jcall_s, if_neg (show ¬ (nI 1 : Int32) = 0 by decide), mU', nI_add, nI_add, jlet_e, jlet_e]
        rw [Nat.one_mul] at q2
        exact ih (cn - (p + U)) (by omega) (fc + 1) fm (c + 1) (p + U) (x + U) _ _ μ' ν' (by omega) (by omega) (by omega) (by omega) (by omega) (by omega) (by
          show (if rc < x + U then x + U else rc) ≤ 400
          by_cases h2 : rc < x + U
          · rw [if_pos h2]; omega
          · rw [if_neg h2]; exact hrc) q2 r4
