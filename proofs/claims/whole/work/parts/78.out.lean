/-! out: of the class (it returns or throws), and of the law (it catches) -/
def oOk (μ : jM) (i : Int32) : Prop := ¬ i < 0 ∧ i < μ.1 17 3
section
variable {Γ : jC} {G : va_G} {cy : Nat → ClassId} {A : Nat → Prop} {cc : ByteArray} {nL : Nat} {own : String} {Q : State → Prop} {k n pc : Nat} {lv : List (Nat × Value)} {st : List Value} {ws : va_W}
theorem n_icmp_lt {x y : Int32} {off : Int} (tgt : Nat) (X : nOk Γ G cy A cc nL own) (dd : decode cc pc = .ok (.if_icmp .lt off, 3)) (ht : (pc : Int) + off = (tgt : Int)) (kt : x < y → nG Γ G A nL Q k n tgt lv st ws) (kf : ¬ x < y → nG Γ G A nL Q k n (pc + 3) lv st ws) : nG Γ G A nL Q k n pc lv (.int y :: .int x :: st) ws := by
  obtain ⟨p, l, e, R, s, m, args, below, meth, c⟩ := Γ
  obtain ⟨hx, hb, hml, hown, hts, hK, hA⟩ := X
  intro H locs ls hP hD hS hL
  exact lv_icmp_lt hx hb dd ht (fun q => kt q H locs ls hP hD hS hL) (fun q => kf q H locs ls hP hD hS hL)
theorem n_getI {idx q f ci N : Nat} {C : String} {T : u_T} {ty : Nat → FieldType} {fl : List (Option Nat)} {ad : Nat → Nat} {μ : jM} (X : nOk Γ G cy A cc nL own) (dd : decode cc pc = .ok (.getfield idx, 3)) (hc : jCl ci C T N ty) (hs : ws[q]? = some (ad q, jent cy ad μ q (.inl (ci, fl)))) (hf : fl[f]? = some none) (hk : f < N) (hl : Cond.fieldLink own idx (T f).1 (T f).2.1 (T f).2.2.1 ∈ jT) (g : nG Γ G A nL Q k n (pc + 3) lv (.int (μ.1 q f) :: st) ws) : nG Γ G A nL Q k n pc lv (.ref (ad q) :: st) ws :=
  n_get (v := .int (μ.1 q f)) X dd hc hs (by simp [List.getElem?_mapIdx, hf, jfv]) hk hl g
theorem n_getR {idx q f j ci N : Nat} {C : String} {T : u_T} {ty : Nat → FieldType} {fl : List (Option Nat)} {ad : Nat → Nat} {μ : jM} (X : nOk Γ G cy A cc nL own) (dd : decode cc pc = .ok (.getfield idx, 3)) (hc : jCl ci C T N ty) (hs : ws[q]? = some (ad q, jent cy ad μ q (.inl (ci, fl)))) (hf : fl[f]? = some (some j)) (hk : f < N) (hl : Cond.fieldLink own idx (T f).1 (T f).2.1 (T f).2.2.1 ∈ jT) (g : nG Γ G A nL Q k n (pc + 3) lv (.ref (ad j) :: st) ws) : nG Γ G A nL Q k n pc lv (.ref (ad q) :: st) ws :=
  n_get (v := .ref (ad j)) X dd hc hs (by simp [List.getElem?_mapIdx, hf, jfv]) hk hl g
theorem n_bald {q N : Nat} {i : Int32} {ad : Nat → Nat} {μ : jM} (X : nOk Γ G cy A cc nL own) (dd : decode cc pc = .ok (.baload, 1)) (hs : ws[q]? = some (ad q, jent cy ad μ q (.inr (1, N)))) (hin : vp_in i N) (g : nG Γ G A nL Q k n (pc + 1) lv (.int (μ.1 q i.toNatClampNeg) :: st) ws) : nG Γ G A nL Q k n pc lv (.int i :: .ref (ad q) :: st) ws := by
  obtain ⟨p, l, e, R, s, m, args, below, meth, c⟩ := Γ
  obtain ⟨hx, hb, hml, hown, hts, hK, hA⟩ := X
  intro H locs ls hP hD hS hL
  exact va_bald hx hb hK hP q 1 (hs.trans (by rw [jent_i (by decide)])) rfl hin dd (g H locs ls hP hD hS hL)
end
/-- the class's contract -/
def oMet (l : Launch) (G : va_G) (cy : Nat → ClassId) (ad : Nat → Nat) (μ : jM) (i : Int32) (sa : Nat) : Prop := ∀ sz, vx_Met l yX5_out (.code yX5_out cX5_out 2 (some .int) :: jT) (nRm 7 1 6)
  (va_Pc [.ref (ad 0), .int i] (fun U => U.heap.size = sz ∧ va_P G jcl (jW cy ad shC μ) U.heap ∧ va_K G jcl (jtys cy) U ∧ va_D (fun _ => True) (jW cy ad shC μ) ∧ oZ (va_A (jW cy ad shC μ) sz) sa U U.heap))
  (va_Qi (fun r (_ : Unit) => oOk μ i ∧ r = μ.1 18 i.toNatClampNeg) (fun _ t => va_P G jcl (jW cy ad shC μ) t.heap) (va_A (jW cy ad shC μ) sz))
  (vx_X (fun _ : Unit => ¬ oOk μ i) (fun E _ t => E = oX ∧ va_P G jcl (jW cy ad shC μ) t.heap) (va_A (jW cy ad shC μ) sz)) 1 6 (va_A (jW cy ad shC μ) sz)
set_option maxHeartbeats 1000000 in
theorem O_X5 {l : Launch} {G : va_G} {cy : Nat → ClassId} {ad : Nat → Nat} {μ : jM} (hlt : l.stackTraces = false) (i : Int32) (sa pn : Nat) (h17 : μ.1 17 3 = nI pn) (hpn : pn ≤ 400) : oMet l G cy ad μ i sa := by
  intro sz
  refine vx_ofW (cc := cX5_out) (maxL := 2) (ret := some .int) (by decide) rfl ?_
  intro p e s m args below meth c s₁ B hml htab hv
  obtain ⟨rfl, hsz, hP, hK, hD0, hZ⟩ := hv
  subst hsz
  have hts := atoms_spec (ws := .code yX5_out cX5_out 2 (some .int) :: jT) B.pre
  have hown : s.vm.findClass RX5 = some m.cls := findClass_of_methodNamed B.named
  have hl0 := lv_entry [.ref (ad 0), .int i] (n := 2) (Nat.le_of_ble_eq_true rfl)
  rw [lg_entry_eq]
  have X : nOk (p, l, e, nRm 7 1 6, s, m, [Value.ref (ad 0), .int i].toArray, below, meth, c) G cy (va_A (jW cy ad shC μ) s.heap.size) cX5_out 2 RX5 := ⟨B.exec, B.bytes, hml, hown, fun w h => hts w (List.mem_cons_of_mem _ h), hK, fun q h => Or.inr h⟩
  have hT := X.2.2.2.2.1
  have thr : ¬ oOk μ i → nG (p, l, e, nRm 7 1 6, s, m, [Value.ref (ad 0), .int i].toArray, below, meth, c) G (va_A (jW cy ad shC μ) s.heap.size) 2 (vx_MQ below (va_Qi (fun r (_ : Unit) => oOk μ i ∧ r = μ.1 18 i.toNatClampNeg) (fun _ t => va_P G jcl (jW cy ad shC μ) t.heap) (va_A (jW cy ad shC μ) s.heap.size)) (vx_X (fun _ : Unit => ¬ oOk μ i) (fun E _ t => E = oX ∧ va_P G jcl (jW cy ad shC μ) t.heap) (va_A (jW cy ad shC μ) s.heap.size)) [Value.ref (ad 0), .int i].toArray s 1 6 (va_A (jW cy ad shC μ) s.heap.size)) 0 0 15 (lv_args 0 [.ref (ad 0), .int i]) [] (jW cy ad shC μ) := by
    intro hbad H locs ls hP hD hS hL
    refine vx_throwS (own := RX5) (cls := oX) (text := oTx) (names := oN) (ik := 107) (is := 109) (ic := 111) (sa := sa) (A := va_A (jW cy ad shC μ) s.heap.size) B.exec B.bytes hlt hown (by decide) (by decide) (hT _ w_649) (hT _ w_15) hZ.2.2.1
      (vx_hat (B := oBad) (fun w hw => hT w (o_jT w hw)) o_bad (fun w hw => ?_)) o_good hZ.1 hZ.2.1 hS (by rw [hml]; exact hL.1) dX5_out_15 dX5_out_18 dX5_out_19 dX5_out_21 dX5_out_24 (fun x hx => (htab x hx).elim)
      (Nat.le_of_ble_eq_true rfl) (Nat.le_of_ble_eq_true rfl) (Nat.le_of_ble_eq_true rfl) (Nat.le_of_ble_eq_true rfl) B.notSynchronized (fun t hvm hz hk => ⟨(), hbad, ⟨rfl, hP.kept (fun k x hx => hk x.1 (hP k x hx).lt)⟩, Nat.le_trans hS.1 hz, fun q h1 h2 => (hk q (Nat.lt_of_lt_of_le h1 hS.1)).trans (hS.2.1 q h1 h2)⟩) hS.2.2 (Nat.le_refl 1) (Nat.le_refl 6)
    have h9 := hZ.2.2.2 w hw
    simp only [oBad, List.mem_cons, List.not_mem_nil, or_false] at hw
    rcases hw with rfl | rfl | rfl | rfl | rfl
    · exact j_cast (Vm.Alike.refl _) h9
    · exact j_decl (Vm.Alike.refl _) h9
    · exact j_decl (Vm.Alike.refl _) h9
    · exact j_decl (Vm.Alike.refl _) h9
    · exact j_decl (Vm.Alike.refl _) h9
  suffices g : nG (p, l, e, nRm 7 1 6, s, m, [Value.ref (ad 0), .int i].toArray, below, meth, c) G (va_A (jW cy ad shC μ) s.heap.size) 2 (vx_MQ below (va_Qi (fun r (_ : Unit) => oOk μ i ∧ r = μ.1 18 i.toNatClampNeg) (fun _ t => va_P G jcl (jW cy ad shC μ) t.heap) (va_A (jW cy ad shC μ) s.heap.size)) (vx_X (fun _ : Unit => ¬ oOk μ i) (fun E _ t => E = oX ∧ va_P G jcl (jW cy ad shC μ) t.heap) (va_A (jW cy ad shC μ) s.heap.size)) [Value.ref (ad 0), .int i].toArray s 1 6 (va_A (jW cy ad shC μ) s.heap.size)) 0 0 0 (lv_args 0 [.ref (ad 0), .int i]) [] (jW cy ad shC μ) from g s.heap [] _ hP (hD0.self (sz := s.heap.size)) va_S.rf hl0
  refine n_ild 1 X dX5_out_0 rfl ?_
  refine n_if_lt 15 X dX5_out_1 (by decide) (fun c1 => thr (fun z => z.1 c1)) (fun c1 => ?_)
  refine n_ild 1 X dX5_out_4 rfl ?_
  refine n_ald 0 X dX5_out_5 rfl ?_
  refine n_getR (q := 0) (f := 5) (j := 17) X dX5_out_6 cl_X5 (jW_get μ rfl) rfl (by decide) w_204 ?_
  refine n_getI (q := 17) (f := 3) X dX5_out_9 cl_X3 (jW_get μ rfl) rfl (by decide) w_173 ?_
  refine n_icmp_lt 25 X dX5_out_12 (by decide) (fun c2 => ?_) (fun c2 => thr (fun z => c2 z.2))
  obtain ⟨j, hj, rfl⟩ := nI_of c1
  have hjp : j < pn := by rw [h17, nI_ltI hj (by omega)] at c2; exact c2
  refine n_ald 0 X dX5_out_25 rfl ?_
  refine n_getR (q := 0) (f := 5) (j := 17) X dX5_out_26 cl_X5 (jW_get μ rfl) rfl (by decide) w_204 ?_
  refine n_getR (q := 17) (f := 2) (j := 18) X dX5_out_29 cl_X3 (jW_get μ rfl) rfl (by decide) w_171 ?_
  refine n_ild 1 X dX5_out_32 rfl ?_
  refine n_bald (q := 18) (N := 400) X dX5_out_33 (jW_get μ rfl) (vp_in_nI (by omega) (by omega)) ?_
  intro H locs ls hP hD hS hL
  refine W.widen (k := 1) (n := 6) (by omega) (by omega) (vx_ret ?_)
  exact W.iret B.exec B.bytes B.returns (fun t ht hW => ⟨⟨_, (), rfl, ⟨⟨c1, c2⟩, rfl⟩, by show va_P G jcl _ t.heap; rw [ht]; exact hP⟩, hS.F ht⟩) hS.2.2 dX5_out_34 (hlocks := B.notSynchronized)
/-- the law's own: nought and the byte, or one -/
def owL (cy : Nat → ClassId) (ad : Nat → Nat) (μ : jM) (qo : Nat) (f : Nat → Int64) : va_W := jW cy ad shC μ ++ [(qo, .inl (cy 2, 1, .inr (.inl f)))]
def oPost (μ : jM) (i : Int32) (f : Nat → Int64) (r : Int32) (f' : Nat → Int64) : Prop := (oOk μ i ∧ r = 0 ∧ f' = vp_updL f 0 (μ.1 18 i.toNatClampNeg).toInt64) ∨ (¬ oOk μ i ∧ r = 1 ∧ f' = f)
def oLaw (l : Launch) (G : va_G) (cy : Nat → ClassId) (ad : Nat → Nat) (μ : jM) (i : Int32) (sa qo : Nat) (f : Nat → Int64) : Prop := ∀ sz, Met l yL_out (.codeWith yL_out cL_out 4 (some .int) [(0, 9, 12, 13)] :: jT) (nRm 8 1 6)
  (va_Pc [.ref (ad 0), .int i, .ref qo] (fun U => U.heap.size = sz ∧ va_P G jcl (owL cy ad μ qo f) U.heap ∧ va_K G jcl (jtys cy) U ∧ va_D (fun _ => True) (owL cy ad μ qo f) ∧ oZ (va_A (owL cy ad μ qo f) sz) sa U U.heap))
  (va_Qi (oPost μ i f) (fun f' t => va_P G jcl (owL cy ad μ qo f') t.heap) (va_A (owL cy ad μ qo f) sz)) 1 6 (va_A (owL cy ad μ qo f) sz)
theorem jW_at {cy : Nat → ClassId} {ad : Nat → Nat} {sh : List jS} {μ : jM} {w2 : va_W} {c : Nat} {s : jS} (h : sh[c]? = some s) : (jW cy ad sh μ ++ w2)[c]? = some (ad c, jent cy ad μ c s) := by
  rw [List.getElem?_append_left (by rw [jW_len]; exact (List.getElem?_eq_some_iff.mp h).1), jW_get μ h]
theorem vD_left {A : Nat → Prop} {a b : va_W} (h : va_D A (a ++ b)) : va_D A a := ⟨fun i j p q hi hj hpq => h.1 i j p q (by rw [List.getElem?_append_left (List.getElem?_eq_some_iff.mp hi).1]; exact hi) (by rw [List.getElem?_append_left (List.getElem?_eq_some_iff.mp hj).1]; exact hj) hpq, fun k q hk => h.2 k q (by rw [List.getElem?_append_left (List.getElem?_eq_some_iff.mp hk).1]; exact hk)⟩
/-- the cells beside the called ones stay -/
theorem vP_beside {G : va_G} {A : Nat → Prop} {a b b1 : va_W} {H H1 : Heap} (hP : va_P G jcl (a ++ b) H) (hD : va_D A (a ++ b)) (hk : ∀ q : Nat, q < H.size → ¬ va_A a H.size q → H1[q]? = H[q]?) : va_P G jcl b H1 := by
  intro i q hi
  have h1 : (a ++ b)[a.length + i]? = some q := by rw [List.getElem?_append_right (by omega), Nat.add_sub_cancel_left]; exact hi
  have h2 := hP _ _ h1
  refine h2.kept (hk q.1 h2.lt ?_)
  rintro (⟨j, e, hj⟩ | h)
  · have := hD.1 (a.length + i) j q (q.1, e) h1 (by rw [List.getElem?_append_left (List.getElem?_eq_some_iff.mp hj).1]; exact hj) rfl
    have := (List.getElem?_eq_some_iff.mp hj).1
    omega
  · have := h2.lt
    omega
set_option maxHeartbeats 1000000 in
theorem O_L {l : Launch} {G : va_G} {cy : Nat → ClassId} {ad : Nat → Nat} {μ : jM} (hlt : l.stackTraces = false) (i : Int32) (sa qo pn : Nat) (f : Nat → Int64) (h17 : μ.1 17 3 = nI pn) (hpn : pn ≤ 400) : oLaw l G cy ad μ i sa qo f := by
  intro sz
  refine j_ofWH (cc := cL_out) (maxL := 4) (ret := some .int) (hh := [(0, 9, 12, 13)]) (by decide) rfl ?_
  intro p e s m args below meth c s₁ B hml hv
  obtain ⟨rfl, hsz, hP, hK, hD0, hZ⟩ := hv
  subst hsz
  have hts := atoms_spec (ws := .codeWith yL_out cL_out 4 (some .int) [(0, 9, 12, 13)] :: jT) B.pre
  have htab : c.exceptionTable.toList = [⟨0, 9, 12, 13⟩] := vx_table (x := yL_out) B (hts _ List.mem_cons_self)
  have hown : s.vm.findClass RL = some m.cls := findClass_of_methodNamed B.named
  have hl0 := lv_entry [.ref (ad 0), .int i, .ref qo] (n := 4) (Nat.le_of_ble_eq_true rfl)
  rw [lg_entry_eq]
  have hX : nOk (p, l, e, nRm 8 1 6, s, m, [Value.ref (ad 0), .int i, .ref qo].toArray, below, meth, c) G cy (va_A (owL cy ad μ qo f) s.heap.size) cL_out 4 RL := ⟨B.exec, B.bytes, hml, hown, fun w h => hts w (List.mem_cons_of_mem _ h), hK, fun q h => Or.inr h⟩
  have hT := hX.2.2.2.2.1
  suffices g : nG (p, l, e, nRm 8 1 6, s, m, [Value.ref (ad 0), .int i, .ref qo].toArray, below, meth, c) G (va_A (owL cy ad μ qo f) s.heap.size) 4 (MQ below (va_Qi (oPost μ i f) (fun f' t => va_P G jcl (owL cy ad μ qo f') t.heap) (va_A (owL cy ad μ qo f) s.heap.size)) [Value.ref (ad 0), .int i, .ref qo].toArray s 1 6 (va_A (owL cy ad μ qo f) s.heap.size)) 0 0 0 (lv_args 0 [.ref (ad 0), .int i, .ref qo]) [] (owL cy ad μ qo f) from g s.heap [] _ hP (hD0.self (sz := s.heap.size)) va_S.rf hl0
  refine n_ald 2 hX dL_out_0 rfl ?_
  refine n_ic (v := 0) hX dL_out_1 (by decide) ?_
  refine n_ald 0 hX dL_out_2 rfl ?_
  refine n_ild 1 hX dL_out_3 rfl ?_
  intro H locs ls hP hD hS hL
  have hL : lv_has ls 4 [(0, .ref (ad 0)), (1, .int i), (2, .ref qo)] := hL
  have hPc := (vP_app hP).1
  have hDc := vD_left hD
  have hFc : ∀ q, va_A (jW cy ad shC μ) H.size q → va_A (owL cy ad μ qo f) s.heap.size q := by
    rintro q (⟨k, e9, hk⟩ | h)
    · exact hDc.2 k (q, e9) hk
    · exact Or.inr (Nat.le_trans hS.1 h)
  have hZc : oZ (va_A (jW cy ad shC μ) H.size) sa s H := (hZ.kept hS.2.1).narrow hFc
  have hoth : ∀ {H1 : Heap}, (∀ q : Nat, q < H.size → ¬ va_A (jW cy ad shC μ) H.size q → H1[q]? = H[q]?) → va_P G jcl (jW cy ad shC μ) H1 → va_P G jcl (owL cy ad μ qo f) H1 := fun hk1 hP1 => hP1.app (vP_beside (b1 := []) hP hD hk1)
  refine vx_calli (vx_runV (C := RX5) (As := [.int i]) (rest := [.int 0, .ref qo]) ⟨B.exec, B.bytes, hml, hown, hT⟩ (O_X5 hlt i sa pn h17 hpn H.size) (cwV (bytes := cX5_out) (maxL := 2) (ret := some .int) (ws' := jT) 1 hT (jT_goodIn (fun w hw => ?_)) rfl rfl rfl ⟨rfl, by decide, by decide, by decide +kernel⟩ ⟨Nat.le_of_ble_eq_true rfl, Nat.le_of_ble_eq_true rfl⟩) ⟨fun a U g mk q => ?_, va_recv hK hPc (ci := 7) (q0 := 0) rfl (jW_get (s := .inl (7, [some 1, some 2, some 4, some 6, some 14, some 17])) μ rfl), fun U hU hW => ⟨rfl, by rw [hU], by rw [hU]; exact hPc, va_K.moved hW.alike hK, hDc.weaken (fun _ _ _ _ => trivial), by rw [hU]; exact oZ.warm hW hZc⟩⟩ rfl rfl hL.1 rfl (lv_room (Nat.le_of_ble_eq_true rfl)) dL_out_4 ⟨Nat.le_of_ble_eq_true rfl, Nat.le_of_ble_eq_true rfl⟩) hS (fun q _ h => hFc q h) hFc (fun q _ h => hFc q h) (fun E ce q9 u t H1 locs1 ht hvm hpx hBX hz1 hk1 hS1 hcell hcv hcl => ?_) (fun r u t H1 locs1 ht hvm hw hB hz1 hk1 hS1 => ?_)
  · simp only [wsV, List.cons_append, List.nil_append, List.mem_cons] at hw
    rcases hw with rfl | rfl | rfl | rfl | rfl | hw
    · exact w_645
    · exact w_646
    · exact w_647
    · exact w_1
    · exact w_648
    · exact hw
  · obtain ⟨q0, q1, qP, qK, qD, qZ⟩ := q
    exact ⟨q0, q1, qP, va_K.moved (u := U) (U := U.calling g mk a) (Vm.Alike.refl U.vm) qK, qD, qZ.calling⟩
  · obtain ⟨rfl, hP1⟩ := hBX
    rw [ht] at hP1
    have hP2 := hoth hk1 hP1
    refine j_catch (own := RL) (name := oX) (x := ⟨0, 9, 12, 13⟩) hown htab rfl (by decide) (hT _ w_572) (j_cast (Vm.Alike.refl _) (hZ.2.2.2 _ List.mem_cons_self)) hcell hcv hcl ?_
    refine lv_astore_n (lv' := [(3, .ref q9), (0, .ref (ad 0)), (1, .int i), (2, .ref qo)]) B.exec B.bytes dL_out_12 rfl hL (by decide) rfl (fun ls hL => ?_)
    refine lv_iconst (v := 1) B.exec B.bytes dL_out_13 (by decide) ?_
    refine W.widen (k := 1) (n := 6) (by omega) (by omega) ?_
    exact W.iret B.exec B.bytes B.returns (fun t9 ht9 hW => ⟨⟨1, f, rfl, Or.inr ⟨hpx, rfl, rfl⟩, by show va_P G jcl _ t9.heap; rw [ht9]; exact hP2⟩, hS1.F ht9⟩) hS1.2.2 dL_out_14 (hlocks := B.notSynchronized)
  · rw [ht] at hB
    have hP2 := hoth hk1 hB
    refine lv_i2l (v := r.toInt64) B.exec B.bytes dL_out_7 rfl ?_
    refine va_last B.exec B.bytes hK hP2 hD hS1 19 2 (n := 1) (f := f) (by unfold owL; rw [List.getElem?_append_right (by rw [jW_len]; decide), jW_len]; rfl) rfl (i := 0) (x := r.toInt64) (by rw [vp_in_iff]; decide) dL_out_8 (fun H2 locs2 hP3 hD3 hS2 => ?_)
    refine lv_goto (tgt := 15) B.exec B.bytes dL_out_9 (by decide) ?_
    refine lv_iconst (v := 0) B.exec B.bytes dL_out_15 (by decide) ?_
    refine W.widen (k := 1) (n := 6) (by omega) (by omega) ?_
    have e9 : (owL cy ad μ qo f).set 19 (qo, .inl (cy 2, 1, .inr (.inl (vp_updL f 0 r.toInt64)))) = owL cy ad μ qo (vp_updL f 0 r.toInt64) := by
      unfold owL
      rw [List.set_append_right _ _ (by rw [jW_len]; decide), jW_len]
      rfl
    have hP4 : va_P G jcl (owL cy ad μ qo (vp_updL f 0 r.toInt64)) H2 := by rw [← e9]; exact hP3
    exact W.iret B.exec B.bytes B.returns (fun t9 ht9 hW => ⟨⟨0, vp_updL f 0 r.toInt64, rfl, Or.inl ⟨hw.1, rfl, by rw [hw.2]⟩, by show va_P G jcl _ t9.heap; rw [ht9]; exact hP4⟩, hS2.F ht9⟩) hS2.2.2 dL_out_16 (hlocks := B.notSynchronized)
