/-! the law's call of out -/
theorem vD_iff {A : Nat → Prop} {ws : va_W} : va_D A ws ↔ (ws.map (fun q => q.1)).Nodup ∧ ∀ q ∈ ws, A q.1 := by
  constructor
  · intro h
    refine ⟨List.pairwise_iff_getElem.mpr (fun i j hi hj hij e => ?_), fun q hq => ?_⟩
    · rw [List.length_map] at hi hj
      rw [List.getElem_map, List.getElem_map] at e
      have := h.1 i j _ _ (List.getElem?_eq_getElem hi) (List.getElem?_eq_getElem hj) e
      omega
    · obtain ⟨i, hi, rfl⟩ := List.getElem_of_mem hq
      exact h.2 i _ (List.getElem?_eq_getElem hi)
  · rintro ⟨h1, h2⟩
    refine ⟨fun i j p q hi hj hpq => ?_, fun k q hk => h2 q (List.mem_of_getElem? hk)⟩
    have hil := (List.getElem?_eq_some_iff.mp hi).1
    refine (List.getElem?_inj (l := ws.map (fun q => q.1)) (by rw [List.length_map]; exact hil) h1).mp ?_
    rw [List.getElem?_map, List.getElem?_map, hi, hj]
    exact congrArg some hpq
theorem vD_swap {A : Nat → Prop} {a b c : va_W} (h : va_D A (a ++ (b ++ c))) : va_D A ((a ++ c) ++ b) := by
  have hp : List.Perm (a ++ (b ++ c)) ((a ++ c) ++ b) := by
    rw [List.append_assoc]
    exact List.Perm.append_left a List.perm_append_comm
  obtain ⟨h1, h2⟩ := vD_iff.mp h
  exact vD_iff.mpr ⟨(hp.map (fun q => q.1)).nodup_iff.mp h1, fun q hq => h2 q (hp.mem_iff.mpr hq)⟩
theorem vP_swap {G : va_G} {a b c : va_W} {H : Heap} (h : va_P G jcl (a ++ (b ++ c)) H) : va_P G jcl ((a ++ c) ++ b) H := by
  obtain ⟨h1, h2⟩ := vP_app h
  obtain ⟨h3, h4⟩ := vP_app h2
  exact (h1.app h4).app h3
section
variable {Γ : jC} {G : va_G} {cy : Nat → ClassId} {A : Nat → Prop} {Q : State → Prop} {k n b L i qo sa : Nat} {xs : Nat → Int32} {adC adM : Nat → Nat} {f : Nat → Int64} {μ ν : jM} {lv : List (Nat × Value)} {st : List Value} {pc : Nat}
set_option maxHeartbeats 1000000 in
theorem n_out {x : Int32} {pn : Nat} (X : nOk Γ G cy A code 7 R_law) (hlt : Γ.2.1.stackTraces = false) (hZ : oZ A sa Γ.2.2.2.2.1 Γ.2.2.2.2.1.heap) (hR : Γ.2.2.2.1 = room_1) (hk : k ≤ 600000) (hn : n ≤ 7000000) (h17 : μ.1 17 3 = nI pn) (hpn : pn ≤ 400) (dd : decode code pc = .ok (.invokestatic 69, 3)) (g : ∀ r f1, oPost μ x f r f1 → nG Γ G A 7 Q (k + 1) (n + 6) (pc + 3) lv [.int r] (LW cy adC adM μ ν qo f1)) : nG Γ G A 7 Q k n pc lv [.ref qo, .int x, .ref (adC 0)] (LW cy adC adM μ ν qo f) := by
  obtain ⟨p, l, e, R, s, m, args, below, meth, c⟩ := Γ
  obtain ⟨hx, hb, hml, hown, hts, hK, hA⟩ := X
  have hR : R = room_1 := hR
  subst hR
  intro H locs ls hP hD hS hL
  have hP1 : va_P G jcl (owL cy adC μ qo f ++ jW cy adM shM ν) H := vP_swap hP
  have hD1 : va_D A (owL cy adC μ qo f ++ jW cy adM shM ν) := vD_swap hD
  have hPo := (vP_app hP1).1
  have hDo := vD_left hD1
  have hF : ∀ q, va_A (owL cy adC μ qo f) H.size q → A q := by
    rintro q (⟨j, e9, hj⟩ | h)
    · exact hDo.2 j (q, e9) hj
    · exact hA q (Nat.le_trans hS.1 h)
  have hZo : oZ (va_A (owL cy adC μ qo f) H.size) sa s H := (hZ.kept hS.2.1).narrow hF
  refine va_calli (vx_runSW (As := [.ref (adC 0), .int x, .ref qo]) (rest := []) ⟨hx, hb, hml, hown, hts⟩ (O_L hlt x sa qo pn f h17 hpn H.size) (vx_cwSW (bytes := cL_out) (maxL := 4) (ret := some .int) (hh := [(0, 9, 12, 13)]) (ws' := jT) 3 hts (jT_goodIn (fun w hw => ?_)) rfl rfl rfl ⟨by decide, by decide, by decide +kernel⟩ ⟨Nat.le_of_ble_eq_true rfl, Nat.le_of_ble_eq_true rfl⟩) ⟨fun a U g mk q => ?_, fun U hU hW => ⟨rfl, by rw [hU], by rw [hU]; exact hPo, va_K.moved hW.alike hK, hDo.weaken (fun _ _ _ _ => trivial), by rw [hU]; exact oZ.warm hW hZo⟩⟩ rfl rfl hL.1 rfl (lv_room (Nat.le_of_ble_eq_true rfl)) dd ⟨Nat.le_trans (Nat.add_le_add_right hk 1) (Nat.le_of_ble_eq_true rfl), Nat.le_trans (Nat.add_le_add_right hn 6) (Nat.le_of_ble_eq_true rfl)⟩) hS (fun q _ h => hF q h) hF (fun r f1 t H1 locs1 ht hvm hw hB hz1 hk1 hS1 => ?_)
  · simp only [va_wsS, List.cons_append, List.nil_append, List.mem_cons] at hw
    rcases hw with rfl | rfl | rfl | rfl | hw
    · exact w_569
    · exact w_570
    · exact w_0
    · exact w_571
    · exact hw
  · obtain ⟨q0, q1, qP, qK, qD, qZ⟩ := q
    exact ⟨q0, q1, qP, va_K.moved (u := U) (U := U.calling g mk a) (Vm.Alike.refl U.vm) qK, qD, qZ.calling⟩
  · rw [ht] at hB
    have hM : va_P G jcl (jW cy adM shM ν) H1 := vP_beside (b1 := []) hP1 hD1 hk1
    obtain ⟨hB1, hB2⟩ := vP_app hB
    refine g r f1 hw H1 locs1 ls (hB1.app (hM.app hB2)) (vD_map hD ?_) hS1 hL
    unfold LW
    simp only [List.map_append, List.map_cons, List.map_nil]
theorem n_lald {q N : Nat} {x : Int32} {a : Nat} {f : Nat → Int64} {ws : va_W} (X : nOk Γ G cy A code 7 R_law) (dd : decode code pc = .ok (.laload, 1)) (ha : ws[q]? = some (a, .inl (cy 2, N, .inr (.inl f)))) (hin : vp_in x N) (g : nG Γ G A 7 Q k n (pc + 1) lv (.long (f x.toNatClampNeg) :: st) ws) : nG Γ G A 7 Q k n pc lv (.int x :: .ref a :: st) ws := by
  obtain ⟨p, l, e, R, s, m, args, below, meth, c⟩ := Γ
  obtain ⟨hx, hb, hml, hown, hts, hK, hA⟩ := X
  intro H locs ls hP hD hS hL
  exact va_lald hx hb hK hP q 2 ha rfl hin dd (g H locs ls hP hD hS hL)
theorem LW_out : (LW cy adC adM μ ν qo f)[27]? = some (qo, .inl (cy 2, 1, .inr (.inl f))) := by
  unfold LW
  rw [List.getElem?_append_right (by rw [jW_len]; decide), jW_len, List.getElem?_append_right (by rw [jW_len]; decide), jW_len]
  rfl
set_option maxHeartbeats 1000000 in
theorem law_10 (X : nOk Γ G cy A code 7 R_law) (hX : lX Γ A b L xs) (hlt : Γ.2.1.stackTraces = false) (hZ : oZ A sa Γ.2.2.2.2.1 Γ.2.2.2.2.1.heap) (hR : Γ.2.2.2.1 = room_1) (hk : k ≤ 600000) (hn : n ≤ 7000000) (hi : i + 2 < L) (hrel : REL μ ν) (nxt : ∀ μ1 ν1 f1, REL μ1 ν1 → nG Γ G A 7 Q (k + 1) (n + 6) 555 [(4, .int (nI i)), (3, .ref qo), (2, .ref (adM 0)), (1, .ref (adC 0)), (0, .ref b)] [] (LW cy adC adM μ1 ν1 qo f1)) : nG Γ G A 7 Q k n 386 [(4, .int (nI i)), (3, .ref qo), (2, .ref (adM 0)), (1, .ref (adC 0)), (0, .ref b)] [] (LW cy adC adM μ ν qo f) := by
  obtain ⟨pn, rr, th, ν1, h17, hpn, e1, e2, h1, hor⟩ := al_out hrel (xs (i + 1))
  refine n_ald 3 X dL_law_386 rfl ?_
  refine n_arg (o := 1) 4 0 X hX rfl rfl dL_law_387 dL_law_388 dL_law_390 dL_law_391 dL_law_392 (by decide) (by omega) ?_
  refine n_ald 1 X dL_law_393 rfl ?_
  refine n_out X hlt hZ hR hk hn h17 hpn dL_law_394 (fun r f1 hp => ?_)
  refine n_ist (lv' := (5, .int r) :: [(4, .int (nI i)), (3, .ref qo), (2, .ref (adM 0)), (1, .ref (adC 0)), (0, .ref b)]) X dL_law_397 (by decide) rfl ?_
  refine n_ald 3 X dL_law_399 rfl ?_
  refine n_arg (o := 1) 5 1 X hX rfl rfl dL_law_400 dL_law_401 dL_law_403 dL_law_404 dL_law_405 (by decide) (by omega) ?_
  refine n_callM (v := .int rr) (ν1 := ν1) [.int (xs (i + 1))] X dL_law_406 (fun hs => M_X6_out hs e1) Y_X6_out w_933 w_935 w_934 cl_X6 rfl rfl rfl (Nat.le_of_ble_eq_true rfl) rfl (by rw [hR]; exact Nat.le_of_ble_eq_true rfl) (by rw [hR]; exact Nat.le_of_ble_eq_true rfl) (by rw [hR]; exact Nat.le_trans (Nat.add_le_add_right hk 1) (Nat.le_of_ble_eq_true rfl)) (by rw [hR]; exact Nat.le_trans (Nat.add_le_add_right hn 6) (Nat.le_of_ble_eq_true rfl)) ?_
  refine n_ist (lv' := (6, .int rr) :: (5, .int r) :: [(4, .int (nI i)), (3, .ref qo), (2, .ref (adM 0)), (1, .ref (adC 0)), (0, .ref b)]) X dL_law_409 (by decide) rfl ?_
  refine n_ald 4 X dL_law_411 rfl ?_
  refine n_callM (v := .int th) (ν1 := ν1) [] X dL_law_412 (fun hs => M_X6_thrown hs e2) Y_X6_thrown w_738 w_740 w_739 cl_X6 rfl rfl rfl (Nat.le_of_ble_eq_true rfl) rfl (by rw [hR]; exact Nat.le_of_ble_eq_true rfl) (by rw [hR]; exact Nat.le_of_ble_eq_true rfl) (by rw [hR]; exact Nat.le_trans (Nat.add_le_add_right hk 1) (Nat.le_of_ble_eq_true rfl)) (by rw [hR]; exact Nat.le_trans (Nat.add_le_add_right hn 6) (Nat.le_of_ble_eq_true rfl)) ?_
  refine n_ildw 1 X dL_law_415 rfl ?_
  have fin : nG Γ G A 7 Q (k + 1) (n + 6) 439 ((6, .int rr) :: (5, .int r) :: [(4, .int (nI i)), (3, .ref qo), (2, .ref (adM 0)), (1, .ref (adC 0)), (0, .ref b)]) [] (LW cy adC adM μ ν1 qo f1) := by
    refine n_goto 555 X dL_law_439 (by decide) ?_
    exact n_lsub [2, 3, 4, 5, 6] rfl (nxt μ ν1 f1 h1)
  refine n_icmp_eq 422 X dL_law_417 (by decide) (fun _ => ?_) (fun c => absurd ?_ c)
  · refine n_ildw 1 X dL_law_422 rfl ?_
    refine n_if_ne 439 X dL_law_424 (by decide) (fun _ => fin) (fun c => ?_)
    refine n_ald 3 X dL_law_427 rfl ?_
    refine n_ic (v := 0) X dL_law_428 (by decide) ?_
    refine n_lald (q := 27) (N := 1) X dL_law_429 LW_out (by rw [vp_in_iff]; decide) ?_
    refine n_ildw 0 X dL_law_430 rfl ?_
    refine n_i2l X dL_law_432 ?_
    refine n_lcmp X dL_law_433 ?_
    refine n_if_eq 439 X dL_law_434 (by decide) (fun _ => fin) (fun c2 => absurd ((lg_cmp_eq _ _).mpr ?_) c2)
    rcases hp with ⟨ho, -, rfl⟩ | ⟨-, h2, -⟩
    · rcases hor with ⟨-, -, rfl⟩ | ⟨hno, -⟩
      · rfl
      · exact absurd ho hno
    · rw [h2] at c
      exact absurd c (by decide)
  · rcases hp with ⟨ho, h2, -⟩ | ⟨ho, h2, -⟩ <;> rcases hor with ⟨ho2, h3, -⟩ | ⟨ho2, h3⟩
    · rw [h2, h3]
    · exact absurd ho ho2
    · exact absurd ho2 ho
    · rw [h2, h3]
end
