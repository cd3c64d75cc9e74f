/-! the start is alike; out is alike -/
theorem jf_n (x : Int32) : ∃ f : Nat, f ≤ 2 ∧ jf x = nI f := by
  unfold jf
  by_cases z : x < 0 ∨ 2 < x
  · rw [if_pos z]; exact ⟨0, by omega, rfl⟩
  · rw [if_neg z]
    obtain ⟨j, hj, rfl⟩ := (nI_split (x := x) (m := 2) (by omega)).resolve_left (fun y => z (Or.inl y)) |>.resolve_left (fun y => z (Or.inr y))
    exact ⟨j, hj, rfl⟩
theorem rel_0 (x : Int32) : REL (muX5 x) (muX6 x) := by
  obtain ⟨f, hf, e⟩ := jf_n x
  refine ⟨f, 1, 8, 0, 0, 0, 0, 0, 0, 0, fun _ => 0, fun _ => 0, fun _ => 0, ⟨hf, Or.inl rfl, by omega, by omega, by omega, by omega, fun _ => ⟨rfl, rfl⟩⟩, ⟨⟨?_, rfl, rfl, rfl, rfl⟩, ⟨rfl, by omega, by omega, fun i hi => absurd hi (by omega)⟩, ⟨rfl, by omega, by omega, fun i hi => absurd hi (by omega)⟩, ⟨rfl, by omega, fun i hi => absurd hi (by omega)⟩, rfl, rfl⟩, ⟨⟨?_, rfl, rfl, rfl, rfl⟩, ⟨rfl, by omega, by omega, fun i hi => absurd hi (by omega)⟩, ⟨rfl, by omega, by omega, fun i hi => absurd hi (by omega)⟩, ⟨rfl, by omega, by omega, fun i hi => absurd hi (by omega)⟩, rfl, rfl⟩⟩
  · exact e
  · exact e
theorem al_out {μ ν : jM} (h : REL μ ν) (x : Int32) : ∃ (pn : Nat) (r th : Int32) (ν' : jM), μ.1 17 3 = nI pn ∧ pn ≤ 400 ∧ f_X6_out x ν = some (r, ν') ∧ f_X6_thrown ν' = some (th, ν') ∧ REL μ ν' ∧ ((oOk μ x ∧ th = 0 ∧ r = μ.1 18 x.toNatClampNeg) ∨ (¬ oOk μ x ∧ th = 1)) := by
  obtain ⟨f, U, W, M, D, n, cn, pn, rc, ft, sr, cd, pl, hb, hc, hm⟩ := h
  have hm0 := hm.t0 0
  obtain ⟨c1, c2, c3⟩ := hc.2.2.2.1
  have hpl := hm0.2.2.2.1
  have e13 : (jsI ν 0 13 (0 : Int32)).1 0 13 = 0 := jsI_s _ _ _ _
  unfold f_X6_out f_X6_thrown
  rw [jlet_e]
  generalize jsI ν 0 13 (0 : Int32) = ν0 at hm0 hpl e13 ⊢
  rw [hpl.1]
  have no : ¬ oOk μ x → f_X6_in x 0 (nI pn - 1) ν0 = some (nI 0, ν0) := by
    intro hz
    refine s_inF ?_
    by_cases y : x < 0
    · exact Or.inl y
    · refine Or.inr ?_
      obtain ⟨j, hj, rfl⟩ := nI_of y
      have hjp : pn ≤ j := by
        rcases Nat.lt_or_ge j pn with q | q
        · exact absurd ⟨y, by rw [c1, nI_ltI hj (by omega)]; exact q⟩ hz
        · exact q
      by_cases p0 : pn = 0
      · rw [p0]
        refine Int32.lt_iff_toInt_lt.mpr ?_
        rw [nI_toInt hj, show (nI 0 - 1).toInt = -1 by decide]
        omega
      · rw [jl_1, pk_sub (by omega), nI_ltI (by omega) hj]
        omega
  by_cases z : oOk μ x
  · obtain ⟨y1, y2⟩ := z
    obtain ⟨j, hj, rfl⟩ := nI_of y1
    have hjp : j < pn := by rw [c1, nI_ltI hj (by omega)] at y2; exact y2
    obtain ⟨b1, b2⟩ := c3 j hjp
    obtain ⟨b3, b4⟩ := hpl.2.2.2 j hjp
    refine ⟨pn, jb (pl j), 0, ν0, c1, c2, ?_, by rw [e13], ⟨f, U, W, M, D, n, cn, pn, rc, ft, sr, cd, pl, hb, hc, hm0⟩, Or.inl ⟨⟨y1, y2⟩, rfl, by rw [nI_clamp hj, b2]⟩⟩
    rw [jl_0, jl_1, pk_sub (by omega), s_inT (by rw [nI_ltI hj (by omega)]; omega) (by rw [nI_ltI (by omega) hj]; omega), jcall_s, if_neg (by decide), jin_n (by omega) (by omega), nI_clamp hj, b4]
    rfl
  · refine ⟨pn, 0, 1, jsI ν0 0 13 1, c1, c2, ?_, by rw [jsI_s], ⟨f, U, W, M, D, n, cn, pn, rc, ft, sr, cd, pl, hb, hc, hm0.t0 1⟩, Or.inr ⟨z, rfl⟩⟩
    rw [no z, jcall_s, if_pos (by decide), jlet_e]
