/-! rows of the law's own frame -/
section
variable {Γ : jC} {G : va_G} {cy : Nat → ClassId} {A : Nat → Prop} {cc : ByteArray} {nL : Nat} {own : String} {Q : State → Prop} {k n pc : Nat} {lv : List (Nat × Value)} {st : List Value} {ws : va_W}
theorem n_ast {i : Fin 4} {x : Nat} {lv' : List (Nat × Value)} (X : nOk Γ G cy A cc nL own) (dd : decode cc pc = .ok (.astore_n i, 1)) (hi : (i : Nat) < nL) (hl : ((i : Nat), Value.ref x) :: lv.filter (fun q => !(q.1 == (i : Nat)) && !(q.1 + 1 == (i : Nat) && q.2.category == 2)) = lv') (g : nG Γ G A nL Q k n (pc + 1) lv' st ws) : nG Γ G A nL Q k n pc lv (.ref x :: st) ws := by
  obtain ⟨p, l, e, R, s, m, args, below, meth, c⟩ := Γ
  obtain ⟨hx, hb, hml, hown, hts, hK, hA⟩ := X
  intro H locs ls hP hD hS hL
  exact lv_astore_n hx hb dd rfl hL hi hl (fun ls1 hL1 => g H locs ls1 hP hD hS hL1)
theorem n_ist {i : Nat} {x : Int32} {lv' : List (Nat × Value)} (X : nOk Γ G cy A cc nL own) (dd : decode cc pc = .ok (.istore i, 2)) (hi : i < nL) (hl : (i, Value.int x) :: lv.filter (fun q => !(q.1 == i) && !(q.1 + 1 == i && q.2.category == 2)) = lv') (g : nG Γ G A nL Q k n (pc + 2) lv' st ws) : nG Γ G A nL Q k n pc lv (.int x :: st) ws := by
  obtain ⟨p, l, e, R, s, m, args, below, meth, c⟩ := Γ
  obtain ⟨hx, hb, hml, hown, hts, hK, hA⟩ := X
  intro H locs ls hP hD hS hL
  exact lv_istore hx hb dd hL hi hl (fun ls1 hL1 => g H locs ls1 hP hD hS hL1)
theorem n_iinc {i j : Nat} {z : Int} {x v : Int32} {lv' : List (Nat × Value)} (X : nOk Γ G cy A cc nL own) (dd : decode cc pc = .ok (.iinc i z, 3)) (hj : lv[j]? = some (i, .int x)) (hv : x + Int32.ofInt z = v) (hi : i < nL) (hl : (i, Value.int v) :: lv.filter (fun q => !(q.1 == i) && !(q.1 + 1 == i && q.2.category == 2)) = lv') (g : nG Γ G A nL Q k n (pc + 3) lv' st ws) : nG Γ G A nL Q k n pc lv st ws := by
  obtain ⟨p, l, e, R, s, m, args, below, meth, c⟩ := Γ
  obtain ⟨hx, hb, hml, hown, hts, hK, hA⟩ := X
  intro H locs ls hP hD hS hL
  exact lv_iinc hx hb dd hL hj hv hi hl (fun ls1 hL1 => g H locs ls1 hP hD hS hL1)
theorem n_lsub {lv' : List (Nat × Value)} (ks : List Nat) (h : lv_pick lv ks = lv') (g : nG Γ G A nL Q k n pc lv' st ws) : nG Γ G A nL Q k n pc lv st ws := by
  obtain ⟨p, l, e, R, s, m, args, below, meth, c⟩ := Γ
  intro H locs ls hP hD hS hL
  exact g H locs ls hP hD hS (lv_sub hL ks h)
theorem n_isub {x y : Int32} (X : nOk Γ G cy A cc nL own) (dd : decode cc pc = .ok (.isub, 1)) (g : nG Γ G A nL Q k n (pc + 1) lv (.int (x - y) :: st) ws) : nG Γ G A nL Q k n pc lv (.int y :: .int x :: st) ws := by
  obtain ⟨p, l, e, R, s, m, args, below, meth, c⟩ := Γ
  obtain ⟨hx, hb, hml, hown, hts, hK, hA⟩ := X
  intro H locs ls hP hD hS hL
  exact lv_isub hx hb dd (g H locs ls hP hD hS hL)
theorem n_iand {x y : Int32} (X : nOk Γ G cy A cc nL own) (dd : decode cc pc = .ok (.iand, 1)) (g : nG Γ G A nL Q k n (pc + 1) lv (.int (x &&& y) :: st) ws) : nG Γ G A nL Q k n pc lv (.int y :: .int x :: st) ws := by
  obtain ⟨p, l, e, R, s, m, args, below, meth, c⟩ := Γ
  obtain ⟨hx, hb, hml, hown, hts, hK, hA⟩ := X
  intro H locs ls hP hD hS hL
  exact lv_iand hx hb dd (g H locs ls hP hD hS hL)
theorem n_i2l {x : Int32} (X : nOk Γ G cy A cc nL own) (dd : decode cc pc = .ok (.i2l, 1)) (g : nG Γ G A nL Q k n (pc + 1) lv (.long x.toInt64 :: st) ws) : nG Γ G A nL Q k n pc lv (.int x :: st) ws := by
  obtain ⟨p, l, e, R, s, m, args, below, meth, c⟩ := Γ
  obtain ⟨hx, hb, hml, hown, hts, hK, hA⟩ := X
  intro H locs ls hP hD hS hL
  exact lv_i2l hx hb dd rfl (g H locs ls hP hD hS hL)
theorem n_lcmp {x y : Int64} (X : nOk Γ G cy A cc nL own) (dd : decode cc pc = .ok (.lcmp, 1)) (g : nG Γ G A nL Q k n (pc + 1) lv (.int (lg_cmp x y) :: st) ws) : nG Γ G A nL Q k n pc lv (.long y :: .long x :: st) ws := by
  obtain ⟨p, l, e, R, s, m, args, below, meth, c⟩ := Γ
  obtain ⟨hx, hb, hml, hown, hts, hK, hA⟩ := X
  intro H locs ls hP hD hS hL
  exact W.lcmp hx hb dd (g H locs ls hP hD hS hL)
theorem n_if_ne {x : Int32} {off : Int} (tgt : Nat) (X : nOk Γ G cy A cc nL own) (dd : decode cc pc = .ok (.ifCond .ne off, 3)) (ht : (pc : Int) + off = (tgt : Int)) (kt : ¬ x = 0 → nG Γ G A nL Q k n tgt lv st ws) (kf : x = 0 → nG Γ G A nL Q k n (pc + 3) lv st ws) : nG Γ G A nL Q k n pc lv (.int x :: st) ws := by
  obtain ⟨p, l, e, R, s, m, args, below, meth, c⟩ := Γ
  obtain ⟨hx, hb, hml, hown, hts, hK, hA⟩ := X
  intro H locs ls hP hD hS hL
  exact lv_if_ne hx hb dd ht (fun q => kt q H locs ls hP hD hS hL) (fun q => kf q H locs ls hP hD hS hL)
theorem n_icmp_eq {x y : Int32} {off : Int} (tgt : Nat) (X : nOk Γ G cy A cc nL own) (dd : decode cc pc = .ok (.if_icmp .eq off, 3)) (ht : (pc : Int) + off = (tgt : Int)) (kt : x = y → nG Γ G A nL Q k n tgt lv st ws) (kf : ¬ x = y → nG Γ G A nL Q k n (pc + 3) lv st ws) : nG Γ G A nL Q k n pc lv (.int y :: .int x :: st) ws := by
  obtain ⟨p, l, e, R, s, m, args, below, meth, c⟩ := Γ
  obtain ⟨hx, hb, hml, hown, hts, hK, hA⟩ := X
  intro H locs ls hP hD hS hL
  exact lv_icmp_eq hx hb dd ht (fun q => kt q H locs ls hP hD hS hL) (fun q => kf q H locs ls hP hD hS hL)
theorem n_tblOut {dflt lo hi : Int} {offs : Array Int} {len : Nat} {x : Int32} (tgt : Nat) (X : nOk Γ G cy A cc nL own) (dd : decode cc pc = .ok (.tableswitch dflt lo hi offs, len)) (h : x.toInt < lo ∨ hi < x.toInt) (ht : (pc : Int) + dflt = (tgt : Int)) (g : nG Γ G A nL Q k n tgt lv st ws) : nG Γ G A nL Q k n pc lv (.int x :: st) ws := by
  obtain ⟨p, l, e, R, s, m, args, below, meth, c⟩ := Γ
  obtain ⟨hx, hb, hml, hown, hts, hK, hA⟩ := X
  intro H locs ls hP hD hS hL
  exact lv_tableOut hx hb dd h ht (g H locs ls hP hD hS hL)
theorem n_tblIn {dflt lo hi : Int} {offs : Array Int} {len : Nat} {x : Int32} {off : Int} (tgt : Nat) (X : nOk Γ G cy A cc nL own) (dd : decode cc pc = .ok (.tableswitch dflt lo hi offs, len)) (h1 : ¬ x.toInt < lo) (h2 : ¬ hi < x.toInt) (ho : offs[(x.toInt - lo).toNat]? = some off) (ht : (pc : Int) + off = (tgt : Int)) (g : nG Γ G A nL Q k n tgt lv st ws) : nG Γ G A nL Q k n pc lv (.int x :: st) ws := by
  obtain ⟨p, l, e, R, s, m, args, below, meth, c⟩ := Γ
  obtain ⟨hx, hb, hml, hown, hts, hK, hA⟩ := X
  intro H locs ls hP hD hS hL
  exact lv_tableIn hx hb dd h1 h2 ho ht (g H locs ls hP hD hS hL)
/-- the script, seen from the law's start -/
def lX (Γ : jC) (A : Nat → Prop) (b L : Nat) (xs : Nat → Int32) : Prop := va_X b L xs Γ.2.2.2.2.1 Γ.2.2.2.2.1.heap ∧ b < Γ.2.2.2.2.1.heap.size ∧ ¬ A b ∧ L ≤ 1537
theorem n_slen {b L : Nat} {xs : Nat → Int32} (X : nOk Γ G cy A cc nL own) (hX : lX Γ A b L xs) (dd : decode cc pc = .ok (.arraylength, 1)) (g : nG Γ G A nL Q k n (pc + 1) lv (.int (nI L) :: st) ws) : nG Γ G A nL Q k n pc lv (.ref b :: st) ws := by
  obtain ⟨p, l, e, R, s, m, args, below, meth, c⟩ := Γ
  obtain ⟨hx, hb, hml, hown, hts, hK, hA⟩ := X
  intro H locs ls hP hD hS hL
  exact va_slen hx hb hX.1 hX.2.1 hX.2.2.1 hS dd (g H locs ls hP hD hS hL)
theorem n_sld {b L : Nat} {xs : Nat → Int32} {i : Nat} (X : nOk Γ G cy A cc nL own) (hX : lX Γ A b L xs) (hi : i < L) (dd : decode cc pc = .ok (.iaload, 1)) (g : nG Γ G A nL Q k n (pc + 1) lv (.int (xs i) :: st) ws) : nG Γ G A nL Q k n pc lv (.int (nI i) :: .ref b :: st) ws := by
  obtain ⟨p, l, e, R, s, m, args, below, meth, c⟩ := Γ
  obtain ⟨hx, hb, hml, hown, hts, hK, hA⟩ := X
  have hL9 : L ≤ 1537 := hX.2.2.2
  intro H locs ls hP hD hS hL
  refine va_sld hx hb hX.1 hX.2.1 hX.2.2.1 hS (vp_in_nI hi (by omega)) dd ?_
  rw [nI_clamp (by omega)]
  exact g H locs ls hP hD hS hL
theorem n_arg {b L i o : Nat} {xs : Nat → Int32} {z : Int} (j0 j4 : Nat) (X : nOk Γ G cy A cc nL own) (hX : lX Γ A b L xs) (h0 : lv[j0]? = some (0, .ref b)) (h4 : lv[j4]? = some (4, .int (nI i))) (d0 : decode cc pc = .ok (.aload_n 0, 1)) (d1 : decode cc (pc + 1) = .ok (.iload 4, 2)) (d2 : decode cc (pc + 3) = .ok (.iconst z, 1)) (d3 : decode cc (pc + 4) = .ok (.iadd, 1)) (d4 : decode cc (pc + 5) = .ok (.iaload, 1)) (hz : Int32.ofInt z = nI o) (hi : i + o < L) (g : nG Γ G A nL Q k n (pc + 6) lv (.int (xs (i + o)) :: st) ws) : nG Γ G A nL Q k n pc lv st ws := by
  refine n_ald j0 X d0 h0 ?_
  refine n_ildw j4 X d1 h4 ?_
  refine n_ic X d2 hz ?_
  have g2 : nG Γ G A nL Q k n (pc + 1 + 2 + 1 + 1) lv (.int (nI (i + o)) :: .ref b :: st) ws := n_sld X hX hi d4 g
  obtain ⟨p, l, e, R, s, m, args, below, meth, c⟩ := Γ
  obtain ⟨hx, hb, hml, hown, hts, hK, hA⟩ := X
  intro H locs ls hP hD hS hL
  refine lv_iadd hx hb d3 ?_
  rw [nI_add]
  exact g2 H locs ls hP hD hS hL
def c0 (L : Nat) (xs : Nat → Int32) : Int32 := if 0 < L then xs 0 else 0
theorem n_cell {b L idx : Nat} {xs : Nat → Int32} (X : nOk Γ G cy A cc nL own) (hX : lX Γ A b L xs) (dd : decode cc pc = .ok (.invokestatic idx, 3)) (hlink : Cond.methodLink own idx yL_cell ∈ jT) (hrest : (st.map fun v => v.category).sum ≤ 8) (hf1 : 1 ≤ Γ.2.2.2.1.frames) (hf2 : 60 ≤ Γ.2.2.2.1.locals) (hf3 : k ≤ Γ.2.2.2.1.cells) (hf4 : n ≤ Γ.2.2.2.1.slots) (g : nG Γ G A nL Q k n (pc + 3) lv (.int (c0 L xs) :: st) ws) : nG Γ G A nL Q k n pc lv (.int 0 :: .ref b :: st) ws := by
  obtain ⟨p, l, e, R, s, m, args, below, meth, c⟩ := Γ
  obtain ⟨hx, hb, hml, hown, hts, hK, hA⟩ := X
  obtain ⟨y1, y2, y3, y4, y5, y6⟩ := Y_L_cell
  intro H locs ls hP hD hS hL
  refine va_calli (A1 := fun _ => False) (va_runS (As := [.ref b, .int 0]) (rest := st) ⟨hx, hb, hml, hown, hts⟩ (L_cell b L xs hX.2.2.2) ⟨callB_of (bytes := cL_cell) (maxL := 2) (ret := some .int) (ws' := jT) 2 hts (jT_goodIn (fun w hw => ?_)) rfl rfl rfl (hts _ y2) (hts _ hlink) ⟨y3, y4, y5⟩ ⟨hf1, ?_⟩, hts _ w_567⟩ ⟨fun a U g mk q => ⟨q.1, va_X.moved (U := U.calling g mk a) (Vm.Alike.refl U.vm) q.2⟩, fun U hU hW => ⟨rfl, by show va_X b L xs U U.heap; rw [hU]; exact va_X.moved hW.alike (hX.1.kept (hS.2.1 b hX.2.1 hX.2.2.1))⟩⟩ rfl rfl hL.1 rfl (lv_room hrest) dd ⟨hf3, hf4⟩) hS (fun _ _ h => h.elim) (fun _ h => h.elim) (fun r u t H1 locs1 ht hvm hw hB hz1 hk1 hS1 => ?_)
  · rcases List.mem_cons.mp hw with rfl | hw
    · exact y1
    · exact hw
  · show 8 + (2 + 11) + 60 * 0 ≤ R.locals
    have : 60 ≤ R.locals := hf2
    omega
  · have hw : r = c0 L xs := hw
    rw [hw]
    exact g H1 locs1 ls (hP.kept (fun k x hx => hk1 x.1 (hP k x hx).lt (fun z => z))) hD hS1 hL
theorem map_range {α : Type} (w : List α) (x : α) : (List.range w.length).map (fun i => (w ++ [x])[i]?) = w.map some := by
  apply List.ext_getElem?
  intro i
  rw [List.getElem?_map, List.getElem?_map]
  by_cases h : i < w.length
  · rw [List.getElem?_range h, List.getElem?_eq_getElem h]
    simp [List.getElem?_append_left h, h]
  · rw [List.getElem?_eq_none (by simpa using h), List.getElem?_eq_none (by omega)]
    rfl
theorem n_ctorL {idx ci a d mc ms np maxL N0 : Nat} {fs : List Value} {y : MethodName} {bytes : ByteArray} {mk : (Nat → Nat) → va_W} {wr : va_W} {st0 : List Value} (As : List Value) (X : nOk Γ G cy A cc nL own) (dd : decode cc pc = .ok (.invokespecial idx, 3)) (hM : nMet Γ.2.1 y bytes maxL d mc ms G cy (.ref a :: As) [(a, .inr (ci, fs))] mk) (hY : jY y bytes maxL none np) (hlink : Cond.methodLink own idx y ∈ jT) (hin : Cond.instanceMethod y ∈ jT) (hyn : y.name = "<init>") (hn : As.length = np) (hlen : wr.length = N0) (hnd : va_nd (List.range N0) = true) (hdis : ∀ i ∈ List.range N0, i ∉ [N0]) (hrest : (st.map fun v => v.category).sum ≤ 8) (hst : st0 = As.reverse ++ .ref a :: st) (hf1 : d + 1 ≤ Γ.2.2.2.1.frames) (hf2 : 60 * d + 60 ≤ Γ.2.2.2.1.locals) (hf3 : k + mc ≤ Γ.2.2.2.1.cells) (hf4 : n + ms ≤ Γ.2.2.2.1.slots) (g : ∀ qs, nG Γ G A nL Q (k + mc) (n + ms) (pc + 3) lv st (wr ++ mk qs)) : nG Γ G A nL Q k n pc lv st0 (wr ++ [(a, .inr (ci, fs))]) :=
  n_ctor (q := N0) As (List.range N0) X dd hM hY hlink hin hyn hn (by rw [← hlen, List.getElem?_append_right (Nat.le_refl _), Nat.sub_self]; rfl) (wr := wr) (by rw [← hlen]; exact map_range wr _) hnd hdis hrest hst hf1 hf2 hf3 hf4 g
end
