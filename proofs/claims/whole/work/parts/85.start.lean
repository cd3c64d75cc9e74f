/-! the law from its entry -/
theorem st_K {s : State} {args : Array Value} (hts : ∀ w ∈ jT, w.before args s = true) : ∃ (G : va_G) (cy : Nat → ClassId), va_K G jcl (jtys cy) s := by
  have arr : ∀ ty : FieldType, Cond.arrayClass ty ∈ jT → (ty = .int ∨ ty = .byte ∨ ty = .long) → ∃ cA : ClassId, ArrOfT s cA ty ∧ va_RA s cA ty := by
    intro ty h ht
    obtain ⟨cA, kA, comp, h1, h2, h3⟩ := Cond.arrayClass_spec (hts _ h)
    refine ⟨cA, fun n z => ⟨fun k h => (by cases h), kA, h2, comp, h3⟩, ?_⟩
    rcases ht with rfl | rfl | rfl <;> exact h1
  obtain ⟨y0, hy0⟩ := arr .int w_122 (Or.inl rfl)
  obtain ⟨y1, hy1⟩ := arr .byte w_81 (Or.inr (Or.inl rfl))
  obtain ⟨y2, hy2⟩ := arr .long w_737 (Or.inr (Or.inr rfl))
  obtain ⟨c0, i0, k0⟩ := u_known (C := RJ0) (T := TJ0) (N := 2) hts (by decide +kernel) (hts _ w_640)
  obtain ⟨c1, i1, k1⟩ := u_known (C := RJx00060) (T := TJx00060) (N := 6) hts (by decide +kernel) (hts _ w_573)
  obtain ⟨c2, i2, k2⟩ := u_known (C := RX0) (T := TX0) (N := 2) hts cl_X0.2.1 (hts _ w_64)
  obtain ⟨c3, i3, k3⟩ := u_known (C := RX1) (T := TX1) (N := 9) hts cl_X1.2.1 (hts _ w_124)
  obtain ⟨c4, i4, k4⟩ := u_known (C := RX2) (T := TX2) (N := 10) hts cl_X2.2.1 (hts _ w_83)
  obtain ⟨c5, i5, k5⟩ := u_known (C := RX3) (T := TX3) (N := 9) hts cl_X3.2.1 (hts _ w_163)
  obtain ⟨c6, i6, k6⟩ := u_known (C := RX4) (T := TX4) (N := 5) hts cl_X4.2.1 (hts _ w_26)
  obtain ⟨c7, i7, k7⟩ := u_known (C := RX5) (T := TX5) (N := 6) hts cl_X5.2.1 (hts _ w_18)
  obtain ⟨c8, i8, k8⟩ := u_known (C := RX6) (T := TX6) (N := 25) hts cl_X6.2.1 (hts _ w_653)
  refine ⟨(fun c => match c with | 0 => c0 | 1 => c1 | 2 => c2 | 3 => c3 | 4 => c4 | 5 => c5 | 6 => c6 | 7 => c7 | _ => c8, fun c => match c with | 0 => i0 | 1 => i1 | 2 => i2 | 3 => i3 | 4 => i4 | 5 => i5 | 6 => i6 | 7 => i7 | _ => i8), fun t => match t with | 0 => y0 | 1 => y1 | _ => y2, fun c q hq => ?_, fun t q hq => ?_⟩
  · match c, hq with
    | 0, hq => cases hq; exact k0
    | 1, hq => cases hq; exact k1
    | 2, hq => cases hq; exact k2
    | 3, hq => cases hq; exact k3
    | 4, hq => cases hq; exact k4
    | 5, hq => cases hq; exact k5
    | 6, hq => cases hq; exact k6
    | 7, hq => cases hq; exact k7
    | 8, hq => cases hq; exact k8
    | c + 9, hq => simp [jcl] at hq
  · match t, hq with
    | 0, hq => cases hq; exact hy0
    | 1, hq => cases hq; exact hy1
    | 2, hq => cases hq; exact hy2
    | t + 3, hq => simp [jtys] at hq
theorem st_Z {s : State} {b : Nat} {G : va_G} {cy : Nat → ClassId} (hts : ∀ w ∈ lw_tbl, w.before #[Value.ref b] s = true) (hgv : (Jvm.Cond.and given_1 narrow_1).before #[Value.ref b] s = true) (hK : va_K G jcl (jtys cy) s) : ∃ sa, oZ (fun q => s.heap.size ≤ q) sa s s.heap := by
  have hS : (Cond.stringRef RX5 109 oTx).before #[Value.ref b] s = true := hts _ (by decide +kernel)
  have hown := (hK.1 7 _ rfl).2.1
  obtain ⟨k, cf, i, sa, hk, hcf, hcp, -, hr, hev⟩ := Cond.stringRef_spec hown hS
  refine ⟨sa, vx_Zqof (hts (.laysStatic Bundle.tN "UNASSIGNED_STACK" Bundle.steD) (by decide +kernel)) (hts (.initialized Bundle.tN) (by decide +kernel)) (flat_of_before _ hgv _ (by decide +kernel)) (fun a h1 h2 => absurd h1 (Nat.not_lt.mpr h2)), vx_Zqof (hts (.laysStatic Bundle.tN "SUPPRESSED_SENTINEL" Bundle.listD) (by decide +kernel)) (hts (.initialized Bundle.tN) (by decide +kernel)) (flat_of_before _ hgv _ (by decide +kernel)) (fun a h1 h2 => absurd h1 (Nat.not_lt.mpr h2)), vk_R.of hS hev, oB.of hts⟩
section
variable {Γ : jC} {G : va_G} {cy : Nat → ClassId} {A : Nat → Prop} {Q : State → Prop} {k n b L i qo sa : Nat} {xs : Nat → Int32} {adC adM : Nat → Nat} {f : Nat → Int64} {μ ν : jM} {lv : List (Nat × Value)} {st : List Value} {pc : Nat}
theorem nG_nil {w : va_W} (g : nG Γ G A 7 Q k n pc lv st w) : nG Γ G A 7 Q k n pc lv st ([] ++ w) := by
  rw [List.nil_append]
  exact g
theorem nG_LW (g : nG Γ G A 7 Q k n pc lv st (LW cy adC adM μ ν qo f)) : nG Γ G A 7 Q k n pc lv st ((jW cy adC shC μ ++ jW cy adM shM ν) ++ [(qo, .inl (cy 2, 1, .inr (.inl f)))]) := by
  rw [List.append_assoc]
  exact g
set_option maxHeartbeats 1000000 in
theorem law_go (X : nOk Γ G cy A code 7 R_law) (hX : lX Γ A b L xs) (hlt : Γ.2.1.stackTraces = false) (hZ : oZ A sa Γ.2.2.2.2.1 Γ.2.2.2.2.1.heap) (hR : Γ.2.2.2.1 = room_1)
    (fin : ∀ (adC adM : Nat → Nat) (qo k n i : Nat) (μ ν : jM) (f : Nat → Int64), k ≤ 2000 → n ≤ 20000 → nG Γ G A 7 Q k n 561 [(4, .int (nI i)), (3, .ref qo), (2, .ref (adM 0)), (1, .ref (adC 0)), (0, .ref b)] [] (LW cy adC adM μ ν qo f)) :
    nG Γ G A 7 Q 0 0 0 [(0, .ref b)] [] [] := by
  have hL9 : L ≤ 1537 := hX.2.2.2
  refine n_new (fs := [.null, .null, .null, .null, .null, .null]) X dL_law_0 cl_X5 w_17 w_18 w_1 (by decide) (by rw [hR]; exact Nat.le_of_ble_eq_true rfl) (by rw [hR]; exact Nat.le_of_ble_eq_true rfl) (fun h0 => ?_)
  refine n_dup X dL_law_3 ?_
  refine n_ald 0 X dL_law_4 rfl ?_
  refine n_ic (v := 0) X dL_law_5 (by decide) ?_
  refine n_cell X hX dL_law_6 w_566 (Nat.le_of_ble_eq_true rfl) (by rw [hR]; exact Nat.le_of_ble_eq_true rfl) (by rw [hR]; exact Nat.le_of_ble_eq_true rfl) (by rw [hR]; exact Nat.le_of_ble_eq_true rfl) (by rw [hR]; exact Nat.le_of_ble_eq_true rfl) ?_
  refine n_ctor (q := 0) [.int (c0 L xs)] [] X dL_law_9 (N_X5 h0 (c0 L xs)) Y_X5_init w_19 w_20 rfl rfl rfl (wr := []) rfl (by decide) (by decide) (Nat.le_of_ble_eq_true rfl) rfl (by rw [hR]; exact Nat.le_of_ble_eq_true rfl) (by rw [hR]; exact Nat.le_of_ble_eq_true rfl) (by rw [hR]; exact Nat.le_of_ble_eq_true rfl) (by rw [hR]; exact Nat.le_of_ble_eq_true rfl) (fun qs => ?_)
  refine nG_nil ?_
  refine n_ast (lv' := [(1, .ref h0), (0, .ref b)]) X dL_law_12 (by decide) rfl ?_
  refine n_new (fs := [.int 0, .int 0, .int 0, .int 0, .int 0, .null, .int 0, .null, .int 0, .null, .int 0, .int 0, .int 0, .int 0, .null, .int 0, .null, .null, .int 0, .null, .int 0, .int 0, .int 0, .int 0, .int 0]) X dL_law_13 cl_X6 w_652 w_653 w_7 (by decide) (by rw [hR]; exact Nat.le_of_ble_eq_true rfl) (by rw [hR]; exact Nat.le_of_ble_eq_true rfl) (fun h1 => ?_)
  refine n_dup X dL_law_16 ?_
  refine n_ald 1 X dL_law_17 rfl ?_
  refine n_ic (v := 0) X dL_law_18 (by decide) ?_
  refine n_cell X hX dL_law_19 w_566 (Nat.le_of_ble_eq_true rfl) (by rw [hR]; exact Nat.le_of_ble_eq_true rfl) (by rw [hR]; exact Nat.le_of_ble_eq_true rfl) (by rw [hR]; exact Nat.le_of_ble_eq_true rfl) (by rw [hR]; exact Nat.le_of_ble_eq_true rfl) ?_
  refine n_ctorL (N0 := 19) [.int (c0 L xs)] X dL_law_22 (N_X6 h1 (c0 L xs)) Y_X6_init w_654 w_655 rfl rfl ((jW_len _).trans rfl) (by decide) (by decide) (Nat.le_of_ble_eq_true rfl) rfl (by rw [hR]; exact Nat.le_of_ble_eq_true rfl) (by rw [hR]; exact Nat.le_of_ble_eq_true rfl) (by rw [hR]; exact Nat.le_of_ble_eq_true rfl) (by rw [hR]; exact Nat.le_of_ble_eq_true rfl) (fun qt => ?_)
  refine n_ast (lv' := [(2, .ref h1), (1, .ref h0), (0, .ref b)]) X dL_law_25 (by decide) rfl ?_
  refine n_ic (v := 1) X dL_law_26 (by decide) ?_
  refine n_newa (t := 2) (ty := .long) (N := 1) (a0 := (1, .inr (.inl (fun _ => 0)))) X dL_law_27 rfl rfl (by decide) w_737 (fun _ => rfl) (by decide) (by decide) (by decide) (by rw [hR]; exact Nat.le_of_ble_eq_true rfl) (by rw [hR]; exact Nat.le_of_ble_eq_true rfl) (fun qo => ?_)
  refine n_ast (lv' := [(3, .ref qo), (2, .ref h1), (1, .ref h0), (0, .ref b)]) X dL_law_29 (by decide) rfl ?_
  refine n_ic (v := nI 1) X dL_law_30 (by decide) ?_
  refine n_ist (lv' := [(4, .int (nI 1)), (3, .ref qo), (2, .ref h1), (1, .ref h0), (0, .ref b)]) X dL_law_31 (by decide) rfl ?_
  refine nG_LW (adC := fun c => if c = 0 then h0 else qs c) (adM := fun c => if c = 0 then h1 else qt c) ?_
  exact law_loop (adC := fun c => if c = 0 then h0 else qs c) (adM := fun c => if c = 0 then h1 else qt c) X hX hlt hZ hR (fin _ _ qo) L 1 _ _ _ _ _ (Nat.le_add_left _ _) (by omega) (by omega) (by omega) (rel_0 (c0 L xs))
end
