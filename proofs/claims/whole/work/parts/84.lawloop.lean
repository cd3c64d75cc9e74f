/-! the law's loop -/
theorem lw_sub {L i : Nat} (hL : L ≤ 1537) (hi : i < 10000) (h : ¬ nI L - nI 3 < nI i) : i + 2 < L := by
  by_cases h3 : 3 ≤ L
  · have e : nI L - nI 3 = nI (L - 3) := by
      have e1 : nI L = nI (L - 3) + nI 3 := by rw [nI_add]; exact congrArg nI (by omega)
      rw [e1, Int32.add_sub_cancel]
    rw [e, nI_ltI (by omega) (by omega)] at h
    omega
  · refine absurd ?_ h
    rw [Int32.lt_iff_toInt_lt, nI_toInt (by omega)]
    have h4 : L = 0 ∨ L = 1 ∨ L = 2 := by omega
    have h5 : (nI L - nI 3).toInt < 0 := by
      rcases h4 with rfl | rfl | rfl <;> decide +kernel
    omega
theorem lw_and (x : Int32) : ∃ d : Nat, d < 16 ∧ x &&& 15 = nI d := by
  refine ⟨x.toBitVec.toNat % 2 ^ 4, Nat.mod_lt _ (by decide), ?_⟩
  have h := pk_andN (n := x.toBitVec.toNat) x.toBitVec.isLt (m := 15) 4 (by decide +kernel)
  have e : nI x.toBitVec.toNat = x := Int32.toBitVec_inj.mp (by rw [nI_bv]; apply BitVec.eq_of_toNat_eq; rw [BitVec.toNat_ofNat]; exact Nat.mod_eq_of_lt x.toBitVec.isLt)
  rw [e] at h
  exact h
section
variable {Γ : jC} {G : va_G} {cy : Nat → ClassId} {A : Nat → Prop} {Q : State → Prop} {b L qo sa : Nat} {xs : Nat → Int32} {adC adM : Nat → Nat}
set_option maxHeartbeats 1000000 in
theorem law_loop (X : nOk Γ G cy A code 7 R_law) (hX : lX Γ A b L xs) (hlt : Γ.2.1.stackTraces = false) (hZ : oZ A sa Γ.2.2.2.2.1 Γ.2.2.2.2.1.heap) (hR : Γ.2.2.2.1 = room_1)
    (fin : ∀ (k n i : Nat) (μ ν : jM) (f : Nat → Int64), k ≤ 2000 → n ≤ 20000 → nG Γ G A 7 Q k n 561 [(4, .int (nI i)), (3, .ref qo), (2, .ref (adM 0)), (1, .ref (adC 0)), (0, .ref b)] [] (LW cy adC adM μ ν qo f)) :
    ∀ (fu i k n : Nat) (μ ν : jM) (f : Nat → Int64), L ≤ i + fu → i + 3 * fu ≤ 9000 → k + fu ≤ 2000 → n + 6 * fu ≤ 20000 → REL μ ν → nG Γ G A 7 Q k n 33 [(4, .int (nI i)), (3, .ref qo), (2, .ref (adM 0)), (1, .ref (adC 0)), (0, .ref b)] [] (LW cy adC adM μ ν qo f) := by
  have hL9 : L ≤ 1537 := hX.2.2.2
  intro fu
  induction fu with
  | zero =>
    intro i k n μ ν f h1 h2 h3 h4 hrel
    refine n_ildw 0 X dL_law_33 rfl ?_
    refine n_ald 4 X dL_law_35 rfl ?_
    refine n_slen X hX dL_law_36 ?_
    refine n_ic (v := nI 3) X dL_law_37 (by decide) ?_
    refine n_isub X dL_law_38 ?_
    refine n_icmp_gt 561 X dL_law_39 (by decide) (fun _ => fin k n i μ ν f (by omega) (by omega)) (fun c1 => ?_)
    have := lw_sub hL9 (by omega) c1
    omega
  | succ fu ih =>
    intro i k n μ ν f h1 h2 h3 h4 hrel
    refine n_ildw 0 X dL_law_33 rfl ?_
    refine n_ald 4 X dL_law_35 rfl ?_
    refine n_slen X hX dL_law_36 ?_
    refine n_ic (v := nI 3) X dL_law_37 (by decide) ?_
    refine n_isub X dL_law_38 ?_
    refine n_icmp_gt 561 X dL_law_39 (by decide) (fun _ => fin k n i μ ν f (by omega) (by omega)) (fun c1 => ?_)
    have hi := lw_sub hL9 (by omega) c1
    have go : ∀ (k1 n1 : Nat) (μ1 ν1 : jM) (f1 : Nat → Int64), k1 + fu ≤ 2000 → n1 + 6 * fu ≤ 20000 → REL μ1 ν1 → nG Γ G A 7 Q k1 n1 555 [(4, .int (nI i)), (3, .ref qo), (2, .ref (adM 0)), (1, .ref (adC 0)), (0, .ref b)] [] (LW cy adC adM μ1 ν1 qo f1) := by
      intro k1 n1 μ1 ν1 f1 hk1 hn1 hr1
      refine n_iinc (j := 0) (v := nI (i + 3)) (lv' := [(4, .int (nI (i + 3))), (3, .ref qo), (2, .ref (adM 0)), (1, .ref (adC 0)), (0, .ref b)]) X dL_law_555 rfl (nI_add i 3) (by decide) rfl ?_
      refine n_goto 33 X dL_law_558 (by decide) ?_
      exact ih (i + 3) k1 n1 μ1 ν1 f1 (by omega) (by omega) hk1 hn1 hr1
    have nx : ∀ (μ1 ν1 : jM), REL μ1 ν1 → nG Γ G A 7 Q k n 555 [(4, .int (nI i)), (3, .ref qo), (2, .ref (adM 0)), (1, .ref (adC 0)), (0, .ref b)] [] (LW cy adC adM μ1 ν1 qo f) := fun μ1 ν1 hr1 => go k n μ1 ν1 f (by omega) (by omega) hr1
    refine n_ald 4 X dL_law_42 rfl ?_
    refine n_ildw 0 X dL_law_43 rfl ?_
    refine n_sld X hX (by omega) dL_law_45 ?_
    refine n_bi (v := 15) X dL_law_46 (by decide) ?_
    refine n_iand X dL_law_48 ?_
    obtain ⟨d, hd, he⟩ := lw_and (xs i)
    rw [he]
    have hk : k ≤ 600000 := by omega
    have hn : n ≤ 7000000 := by omega
    match d, hd with
    | 0, _ => exact n_tblIn 124 X dL_law_49 (by decide) (by decide) rfl (by decide) (law_0 X hX hR hk hn hi hrel nx)
    | 1, _ => exact n_tblIn 149 X dL_law_49 (by decide) (by decide) rfl (by decide) (law_1 X hX hR hk hn hi hrel nx)
    | 2, _ => exact n_tblIn 186 X dL_law_49 (by decide) (by decide) rfl (by decide) (law_2 X hX hR hk hn hi hrel nx)
    | 3, _ => exact n_tblIn 211 X dL_law_49 (by decide) (by decide) rfl (by decide) (law_3 X hX hR hk hn hi hrel nx)
    | 4, _ => exact n_tblIn 248 X dL_law_49 (by decide) (by decide) rfl (by decide) (law_4 X hX hR hk hn hi hrel nx)
    | 5, _ => exact n_tblIn 285 X dL_law_49 (by decide) (by decide) rfl (by decide) (law_5 X hX hR hk hn hi hrel nx)
    | 6, _ => exact n_tblIn 310 X dL_law_49 (by decide) (by decide) rfl (by decide) (law_6 X hX hR hk hn hi hrel nx)
    | 7, _ => exact n_tblIn 335 X dL_law_49 (by decide) (by decide) rfl (by decide) (law_7 X hX hR hk hn hi hrel nx)
    | 8, _ => exact n_tblIn 348 X dL_law_49 (by decide) (by decide) rfl (by decide) (law_8 X hX hR hk hn hi hrel nx)
    | 9, _ => exact n_tblIn 361 X dL_law_49 (by decide) (by decide) rfl (by decide) (law_9 X hX hR hk hn hi hrel nx)
    | 10, _ => exact n_tblIn 386 X dL_law_49 (by decide) (by decide) rfl (by decide) (law_10 X hX hlt hZ hR hk hn hi hrel (fun μ1 ν1 f1 hr1 => go (k + 1) (n + 6) μ1 ν1 f1 (by omega) (by omega) hr1))
    | 11, _ => exact n_tblIn 442 X dL_law_49 (by decide) (by decide) rfl (by decide) (law_11 X hX hR hk hn hi hrel nx)
    | 12, _ => exact n_tblIn 479 X dL_law_49 (by decide) (by decide) rfl (by decide) (law_12 X hX hR hk hn hi hrel nx)
    | 13, _ => exact n_tblIn 505 X dL_law_49 (by decide) (by decide) rfl (by decide) (law_13 X hX hR hk hn hi hrel nx)
    | 14, _ => exact n_tblIn 530 X dL_law_49 (by decide) (by decide) rfl (by decide) (law_14 X hX hR hk hn hi hrel nx)
    | 15, _ => exact n_tblOut 555 X dL_law_49 (Or.inr (by decide)) (by decide) (nx μ ν hrel)
    | d + 16, h => exact absurd h (by omega)
end
