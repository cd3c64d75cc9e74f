/-! frames that make cells: the world is a list that grows -/
def nOk (Γ : jC) (G : va_G) (cy : Nat → ClassId) (A : Nat → Prop) (cc : ByteArray) (nL : Nat) (own : String) : Prop := match Γ with
  | (p, _, _, _, s, m, args, _, _, c) => p.tables.exec = Jvm.exec ∧ c.code = cc ∧ c.maxLocals = nL ∧ s.vm.findClass own = some m.cls ∧ (∀ w ∈ jT, w.before args s = true) ∧ va_K G jcl (jtys cy) s ∧ ∀ q, s.heap.size ≤ q → A q
def nG (Γ : jC) (G : va_G) (A : Nat → Prop) (nL : Nat) (Q : State → Prop) (k n pc : Nat) (lv : List (Nat × Value)) (st : List Value) (ws : va_W) : Prop := match Γ with
  | (p, l, e, R, s, m, args, below, meth, c) => ∀ (H : Heap) (locs : List Loc) (ls : Array Slot), va_P G jcl ws H → va_D A ws → va_S A s.heap H locs → lv_has ls nL lv → W p l e R s m args below meth c H locs k n Q (F0 m pc ls st)
section NROWS
variable {Γ : jC} {G : va_G} {cy : Nat → ClassId} {A : Nat → Prop} {cc : ByteArray} {nL : Nat} {own : String} {Q : State → Prop} {k n pc : Nat} {lv : List (Nat × Value)} {st : List Value} {ws : va_W}
theorem n_ald {i : Fin 4} {x : Nat} (j : Nat) (X : nOk Γ G cy A cc nL own) (dd : decode cc pc = .ok (.aload_n i, 1)) (hl : lv[j]? = some ((i : Nat), .ref x)) (g : nG Γ G A nL Q k n (pc + 1) lv (.ref x :: st) ws) : nG Γ G A nL Q k n pc lv st ws := by
  obtain ⟨p, l, e, R, s, m, args, below, meth, c⟩ := Γ
  obtain ⟨hx, hb, hml, hown, hts, hK, hA⟩ := X
  intro H locs ls hP hD hS hL
  exact lv_aload_n hx hb dd rfl (lv_at hL j hl) (g H locs ls hP hD hS hL)
theorem n_ild {i : Fin 4} {x : Int32} (j : Nat) (X : nOk Γ G cy A cc nL own) (dd : decode cc pc = .ok (.iload_n i, 1)) (hl : lv[j]? = some ((i : Nat), .int x)) (g : nG Γ G A nL Q k n (pc + 1) lv (.int x :: st) ws) : nG Γ G A nL Q k n pc lv st ws := by
  obtain ⟨p, l, e, R, s, m, args, below, meth, c⟩ := Γ
  obtain ⟨hx, hb, hml, hown, hts, hK, hA⟩ := X
  intro H locs ls hP hD hS hL
  exact lv_iload_n hx hb dd rfl (lv_at hL j hl) (g H locs ls hP hD hS hL)
theorem n_ildw {i : Nat} {x : Int32} (j : Nat) (X : nOk Γ G cy A cc nL own) (dd : decode cc pc = .ok (.iload i, 2)) (hl : lv[j]? = some (i, .int x)) (g : nG Γ G A nL Q k n (pc + 2) lv (.int x :: st) ws) : nG Γ G A nL Q k n pc lv st ws := by
  obtain ⟨p, l, e, R, s, m, args, below, meth, c⟩ := Γ
  obtain ⟨hx, hb, hml, hown, hts, hK, hA⟩ := X
  intro H locs ls hP hD hS hL
  exact lv_iload hx hb dd (lv_at hL j hl) (g H locs ls hP hD hS hL)
theorem n_ic {z : Int} {v : Int32} (X : nOk Γ G cy A cc nL own) (dd : decode cc pc = .ok (.iconst z, 1)) (hv : Int32.ofInt z = v) (g : nG Γ G A nL Q k n (pc + 1) lv (.int v :: st) ws) : nG Γ G A nL Q k n pc lv st ws := by
  obtain ⟨p, l, e, R, s, m, args, below, meth, c⟩ := Γ
  obtain ⟨hx, hb, hml, hown, hts, hK, hA⟩ := X
  intro H locs ls hP hD hS hL
  exact lv_iconst hx hb dd hv (g H locs ls hP hD hS hL)
theorem n_bi {z : Int} {v : Int32} (X : nOk Γ G cy A cc nL own) (dd : decode cc pc = .ok (.bipush z, 2)) (hv : (Int8.ofInt z).toInt32 = v) (g : nG Γ G A nL Q k n (pc + 2) lv (.int v :: st) ws) : nG Γ G A nL Q k n pc lv st ws := by
  obtain ⟨p, l, e, R, s, m, args, below, meth, c⟩ := Γ
  obtain ⟨hx, hb, hml, hown, hts, hK, hA⟩ := X
  intro H locs ls hP hD hS hL
  exact lv_bipush hx hb dd hv (g H locs ls hP hD hS hL)
theorem n_si {z : Int} {v : Int32} (X : nOk Γ G cy A cc nL own) (dd : decode cc pc = .ok (.sipush z, 3)) (hv : (Int16.ofInt z).toInt32 = v) (g : nG Γ G A nL Q k n (pc + 3) lv (.int v :: st) ws) : nG Γ G A nL Q k n pc lv st ws := by
  obtain ⟨p, l, e, R, s, m, args, below, meth, c⟩ := Γ
  obtain ⟨hx, hb, hml, hown, hts, hK, hA⟩ := X
  intro H locs ls hP hD hS hL
  exact lv_sipush hx hb dd hv (g H locs ls hP hD hS hL)
theorem n_dup {x : Nat} (X : nOk Γ G cy A cc nL own) (dd : decode cc pc = .ok (.dup, 1)) (g : nG Γ G A nL Q k n (pc + 1) lv (.ref x :: .ref x :: st) ws) : nG Γ G A nL Q k n pc lv (.ref x :: st) ws := by
  obtain ⟨p, l, e, R, s, m, args, below, meth, c⟩ := Γ
  obtain ⟨hx, hb, hml, hown, hts, hK, hA⟩ := X
  intro H locs ls hP hD hS hL
  exact lv_dup hx hb dd rfl (g H locs ls hP hD hS hL)
theorem n_goto {off : Int} (tgt : Nat) (X : nOk Γ G cy A cc nL own) (dd : decode cc pc = .ok (.goto off, 3)) (ht : (pc : Int) + off = (tgt : Int)) (g : nG Γ G A nL Q k n tgt lv st ws) : nG Γ G A nL Q k n pc lv st ws := by
  obtain ⟨p, l, e, R, s, m, args, below, meth, c⟩ := Γ
  obtain ⟨hx, hb, hml, hown, hts, hK, hA⟩ := X
  intro H locs ls hP hD hS hL
  exact lv_goto hx hb dd ht (g H locs ls hP hD hS hL)
theorem n_if_lt {x : Int32} {off : Int} (tgt : Nat) (X : nOk Γ G cy A cc nL own) (dd : decode cc pc = .ok (.ifCond .lt off, 3)) (ht : (pc : Int) + off = (tgt : Int)) (kt : x < 0 → nG Γ G A nL Q k n tgt lv st ws) (kf : ¬ x < 0 → nG Γ G A nL Q k n (pc + 3) lv st ws) : nG Γ G A nL Q k n pc lv (.int x :: st) ws := by
  obtain ⟨p, l, e, R, s, m, args, below, meth, c⟩ := Γ
  obtain ⟨hx, hb, hml, hown, hts, hK, hA⟩ := X
  intro H locs ls hP hD hS hL
  exact lv_if_lt hx hb dd ht (fun q => kt q H locs ls hP hD hS hL) (fun q => kf q H locs ls hP hD hS hL)
theorem n_if_eq {x : Int32} {off : Int} (tgt : Nat) (X : nOk Γ G cy A cc nL own) (dd : decode cc pc = .ok (.ifCond .eq off, 3)) (ht : (pc : Int) + off = (tgt : Int)) (kt : x = 0 → nG Γ G A nL Q k n tgt lv st ws) (kf : ¬ x = 0 → nG Γ G A nL Q k n (pc + 3) lv st ws) : nG Γ G A nL Q k n pc lv (.int x :: st) ws := by
  obtain ⟨p, l, e, R, s, m, args, below, meth, c⟩ := Γ
  obtain ⟨hx, hb, hml, hown, hts, hK, hA⟩ := X
  intro H locs ls hP hD hS hL
  exact lv_if_eq hx hb dd ht (fun q => kt q H locs ls hP hD hS hL) (fun q => kf q H locs ls hP hD hS hL)
theorem n_icmp_gt {x y : Int32} {off : Int} (tgt : Nat) (X : nOk Γ G cy A cc nL own) (dd : decode cc pc = .ok (.if_icmp .gt off, 3)) (ht : (pc : Int) + off = (tgt : Int)) (kt : y < x → nG Γ G A nL Q k n tgt lv st ws) (kf : ¬ y < x → nG Γ G A nL Q k n (pc + 3) lv st ws) : nG Γ G A nL Q k n pc lv (.int y :: .int x :: st) ws := by
  obtain ⟨p, l, e, R, s, m, args, below, meth, c⟩ := Γ
  obtain ⟨hx, hb, hml, hown, hts, hK, hA⟩ := X
  intro H locs ls hP hD hS hL
  exact lv_icmp_gt hx hb dd ht (fun q => kt q H locs ls hP hD hS hL) (fun q => kf q H locs ls hP hD hS hL)
theorem n_wid {k' n' : Nat} (h1 : k ≤ k') (h2 : n ≤ n') (g : nG Γ G A nL Q k' n' pc lv st ws) : nG Γ G A nL Q k n pc lv st ws := by
  obtain ⟨p, l, e, R, s, m, args, below, meth, c⟩ := Γ
  intro H locs ls hP hD hS hL
  exact W.widen h1 h2 (g H locs ls hP hD hS hL)
theorem n_get {idx q f ci N a : Nat} {C : String} {T : u_T} {ty : Nat → FieldType} {fs : List Value} {v : Value} (X : nOk Γ G cy A cc nL own) (dd : decode cc pc = .ok (.getfield idx, 3)) (hc : jCl ci C T N ty) (hs : ws[q]? = some (a, .inr (ci, fs))) (hf : fs[f]? = some v) (hk : f < N) (hl : Cond.fieldLink own idx (T f).1 (T f).2.1 (T f).2.2.1 ∈ jT) (g : nG Γ G A nL Q k n (pc + 3) lv (v :: st) ws) : nG Γ G A nL Q k n pc lv (.ref a :: st) ws := by
  obtain ⟨p, l, e, R, s, m, args, below, meth, c⟩ := Γ
  obtain ⟨hx, hb, hml, hown, hts, hK, hA⟩ := X
  intro H locs ls hP hD hS hL
  exact va_get (D := G) hx hb hts hc.2.1 hown hK hP q hs hc.1 f hk (hts _ hl) (fun _ h => h) hf dd (g H locs ls hP hD hS hL)
theorem n_put {idx q f ci N a : Nat} {C : String} {T : u_T} {ty : Nat → FieldType} {fs : List Value} {v : Value} {ws1 : va_W} (X : nOk Γ G cy A cc nL own) (dd : decode cc pc = .ok (.putfield idx, 3)) (hc : jCl ci C T N ty) (hs : ws[q]? = some (a, .inr (ci, fs))) (hfl : f < fs.length) (hk : f < N) (hl : Cond.fieldLink own idx (T f).1 (T f).2.1 (T f).2.2.1 ∈ jT) (hfin : (T f).2.2.2 = false) (hn : narrow (ty f) v = v) (hfit : fits (ty f) v = true) (hw : ws.set q (a, .inr (ci, fs.set f v)) = ws1) (g : nG Γ G A nL Q k n (pc + 3) lv st ws1) : nG Γ G A nL Q k n pc lv (v :: .ref a :: st) ws := by
  subst hw
  obtain ⟨p, l, e, R, s, m, args, below, meth, c⟩ := Γ
  obtain ⟨hx, hb, hml, hown, hts, hK, hA⟩ := X
  intro H locs ls hP hD hS hL
  exact va_put (D := G) hx hb hts hc.2.1 ty hc.2.2.1 hc.2.2.2 hown hK hP hD hS q hs hc.1 f hk (hts _ hl) (fun _ h => h) hfin (hc.2.2.1 f hk) hn hfit hfl dd (fun H1 locs1 hP1 hD1 hS1 => g H1 locs1 ls hP1 hD1 hS1 hL)
theorem n_putF {idx q f ci N a : Nat} {C : String} {T : u_T} {ty : Nat → FieldType} {fs : List Value} {v : Value} {ws1 : va_W} (X : nOk Γ G cy A cc nL own) (hi : Γ.2.2.2.2.2.2.2.2.1.name = "<init>") (dd : decode cc pc = .ok (.putfield idx, 3)) (hc : jCl ci C T N ty) (hs : ws[q]? = some (a, .inr (ci, fs))) (hfl : f < fs.length) (hk : f < N) (hl : Cond.fieldLink own idx (T f).1 (T f).2.1 (T f).2.2.1 ∈ jT) (hfin : (T f).2.2.2 = true) (hdecl : (T f).1 = own) (hn : narrow (ty f) v = v) (hfit : fits (ty f) v = true) (hw : ws.set q (a, .inr (ci, fs.set f v)) = ws1) (g : nG Γ G A nL Q k n (pc + 3) lv st ws1) : nG Γ G A nL Q k n pc lv (v :: .ref a :: st) ws := by
  subst hw
  obtain ⟨p, l, e, R, s, m, args, below, meth, c⟩ := Γ
  obtain ⟨hx, hb, hml, hown, hts, hK, hA⟩ := X
  intro H locs ls hP hD hS hL
  exact va_putF (D := G) hx hb hts hc.2.1 ty hc.2.2.1 hc.2.2.2 hown hK hP hD hS q hs hc.1 f hk (hts _ hl) (fun _ h => h) hfin hi hdecl (hc.2.2.1 f hk) hn hfit hfl dd (fun H1 locs1 hP1 hD1 hS1 => g H1 locs1 ls hP1 hD1 hS1 hL)
theorem n_new {idx ci N : Nat} {C : String} {T : u_T} {ty : Nat → FieldType} {fs : List Value} (X : nOk Γ G cy A cc nL own) (dd : decode cc pc = .ok (.new idx, 3)) (hc : jCl ci C T N ty) (h1 : Cond.classLink own idx C ∈ jT) (h2 : Cond.instantiable C N ∈ jT) (h3 : Cond.initialized C ∈ jT) (hfs : ∀ j, j < N → defaultValue (ty j) = vp_V fs j) (hR1 : k + 1 ≤ Γ.2.2.2.1.cells) (hR2 : n + N ≤ Γ.2.2.2.1.slots) (g : ∀ q, nG Γ G A nL Q (k + 1) (n + N) (pc + 3) lv (.ref q :: st) (ws ++ [(q, .inr (ci, fs))])) : nG Γ G A nL Q k n pc lv st ws := by
  obtain ⟨p, l, e, R, s, m, args, below, meth, c⟩ := Γ
  obtain ⟨hx, hb, hml, hown, hts, hK, hA⟩ := X
  intro H locs ls hP hD hS hL
  exact va_new hx hb hts hc.2.1 ty hc.2.2.1 hown (hts _ h1) (hts _ h2) (hts _ h3) hK hP hD hS hA hc.1 hfs hR1 hR2 dd (fun q H1 hP1 hD1 hS1 => g q H1 locs ls hP1 hD1 hS1 hL)
theorem n_newa {at0 : ArrayType} {t N : Nat} {ty : FieldType} {v : Int32} {a0 : vp_A} (X : nOk Γ G cy A cc nL own) (dd : decode cc pc = .ok (.newarray at0, 2)) (ht : (jtys cy)[t]? = some (cy t, ty)) (hty : newarray.typeOf at0 = ty) (hty2 : ty = .int ∨ ty = .byte ∨ ty = .long) (h1 : Cond.arrayClass (newarray.typeOf at0) ∈ jT) (ha : ∀ cA : ClassId, vp_cell cA a0 = arrV cA N (fun _ => defaultValue ty)) (hv : ¬ v < 0) (hN : v.toNatClampNeg = N) (hb : N * componentBytes ty ≤ 536870912) (hR1 : k + 1 ≤ Γ.2.2.2.1.cells) (hR2 : n + N ≤ Γ.2.2.2.1.slots) (g : ∀ q, nG Γ G A nL Q (k + 1) (n + N) (pc + 2) lv (.ref q :: st) (ws ++ [(q, .inl (cy t, a0))])) : nG Γ G A nL Q k n pc lv (.int v :: st) ws := by
  obtain ⟨p, l, e, R, s, m, args, below, meth, c⟩ := Γ
  obtain ⟨hx, hb', hml, hown, hts, hK, hA⟩ := X
  intro H locs ls hP hD hS hL
  refine va_newa hx hb' (hts _ h1) hty hK hP hD hS hA ha hv hN hb hR1 hR2 dd (fun q cA H1 hK1 hP1 hD1 hS1 => ?_)
  have e1 := (hK.2 t _ ht).2
  have e2 := (hK1.2 3 (cA, ty) (by simp [jtys])).2
  have e3 : cA = cy t := by
    rcases hty2 with rfl | rfl | rfl
    · exact Option.some.inj (e2.symm.trans e1)
    · exact Option.some.inj (e2.symm.trans e1)
    · exact Option.some.inj (e2.symm.trans e1)
  rw [e3] at hP1 hD1
  exact g q H1 locs ls hP1 hD1 hS1 hL
theorem n_obj {idx a : Nat} (X : nOk Γ G cy A cc nL own) (dd : decode cc pc = .ok (.invokespecial idx, 3)) (h1 : Cond.methodLink own idx Lib.objectInit ∈ jT) (h2 : Cond.instanceMethod Lib.objectInit ∈ jT) (h3 : Cond.code Lib.objectInit ⟨#[0xb1]⟩ 1 none ∈ jT) (hR1 : 1 ≤ Γ.2.2.2.1.frames) (hR2 : 12 ≤ Γ.2.2.2.1.locals) (g : nG Γ G A nL Q k n (pc + 3) lv [] ws) : nG Γ G A nL Q k n pc lv [.ref a] ws := by
  obtain ⟨p, l, e, R, s, m, args, below, meth, c⟩ := Γ
  obtain ⟨hx, hb, hml, hown, hts, hK, hA⟩ := X
  intro H locs ls hP hD hS hL
  refine W.objInit hx hb hown (hts _ h1) (hts _ h2) (hts _ h3) rfl (by rw [hml]; exact hL.1) rfl dd hR1 hR2 ?_
  exact W.eq (g2 := F0 m (pc + 3) ls []) rfl (g H locs ls hP hD hS hL)
end NROWS
/-- a constructor's contract: its own cell in, a world of cells out -/
def nQc (G : va_G) (A : Nat → Prop) (mk : (Nat → Nat) → va_W) : Array Value → State → Outcome → State → Prop := va_Qv (fun _ : Unit => True) (fun _ t => ∃ qs, va_P G jcl (mk qs) t.heap ∧ va_D A (mk qs)) A
def nRm (d mc ms : Nat) : Room := { frames := d, cells := mc, slots := ms, locals := 60 * d }
def nMet (l : Launch) (y : MethodName) (bytes : ByteArray) (maxL d mc ms : Nat) (G : va_G) (cy : Nat → ClassId) (av : List Value) (w : va_W) (mk : (Nat → Nat) → va_W) : Prop :=
  ∀ sz, Met l y (.code y bytes maxL none :: jT) (nRm d mc ms) (va_Pc av (fun U => U.heap.size = sz ∧ va_P G jcl w U.heap ∧ va_K G jcl (jtys cy) U ∧ va_D (fun _ => True) w)) (nQc G (va_A w sz) mk) mc ms (va_A w sz)
theorem nMet_of {l : Launch} {y : MethodName} {cc : ByteArray} {nL d mc ms : Nat} {G : va_G} {cy : Nat → ClassId} {av : List Value} {w : va_W} {mk : (Nat → Nat) → va_W} {own : String} (hy : plainName y.cls = true) (hown : y.cls = own) (hyn : y.name = "<init>") (hn : (lg_sl av).length ≤ nL)
    (body : ∀ (Γ : jC) (A : Nat → Prop), Γ.2.1 = l → Γ.2.2.2.1 = nRm d mc ms → Γ.2.2.2.2.2.2.2.2.1.name = "<init>" → Γ.2.2.2.2.2.2.2.2.1.sig.returnType = none → Γ.2.2.2.2.2.2.2.2.1.locks = false → nOk Γ G cy A cc nL own → nG Γ G A nL (MQ Γ.2.2.2.2.2.2.2.1 (nQc G A mk) Γ.2.2.2.2.2.2.1 Γ.2.2.2.2.1 mc ms A) 0 0 0 (lv_args 0 av) [] w) : nMet l y cc nL d mc ms G cy av w mk := by
  intro sz
  refine Met.ofW (cc := cc) (maxL := nL) (ret := none) hy rfl ?_
  intro p e s m args below meth c s₁ B hml hv
  obtain ⟨rfl, hsz, hP, hK, hD0⟩ := hv
  subst hsz
  have hts := atoms_spec (ws := .code y cc nL none :: jT) B.pre
  have hw : s.vm.findClass own = some m.cls := by rw [← hown]; exact findClass_of_methodNamed B.named
  have hl := lv_entry av (n := nL) hn
  have hin : meth.name = "<init>" := (name_of_methodNamed B.named B.method).1.trans hyn
  rw [lg_entry_eq]
  exact body (p, l, e, nRm d mc ms, s, m, av.toArray, below, meth, c) (va_A w s.heap.size) rfl rfl hin B.returns B.notSynchronized ⟨B.exec, B.bytes, hml, hw, fun x h => hts x (List.mem_cons_of_mem _ h), hK, fun q h => Or.inr h⟩ s.heap [] _ hP (hD0.self (sz := s.heap.size)) va_S.rf hl
section NROWS
variable {Γ : jC} {G : va_G} {cy : Nat → ClassId} {A : Nat → Prop} {cc : ByteArray} {nL : Nat} {own : String} {Q : State → Prop} {k n pc : Nat} {lv : List (Nat × Value)} {st : List Value} {ws : va_W}
theorem n_vret {mk : (Nat → Nat) → va_W} {mc ms : Nat} (qs : Nat → Nat) (X : nOk Γ G cy A cc nL own) (hr : Γ.2.2.2.2.2.2.2.2.1.sig.returnType = none) (hlk : Γ.2.2.2.2.2.2.2.2.1.locks = false) (dd : decode cc pc = .ok (.return_, 1)) (is : List Nat) (hn : va_nd is = true) (hs : is.filterMap (fun i => ws[i]?) = mk qs) (hs2 : is.map (fun i => ws[i]?) = (mk qs).map some) (h1 : k ≤ mc) (h2 : n ≤ ms) : nG Γ G A nL (MQ Γ.2.2.2.2.2.2.2.1 (nQc G A mk) Γ.2.2.2.2.2.2.1 Γ.2.2.2.2.1 mc ms A) k n pc lv [] ws := by
  obtain ⟨p, l, e, R, s, m, args, below, meth, c⟩ := Γ
  obtain ⟨hx, hb, hml, hown, hts, hK, hA⟩ := X
  intro H locs ls hP hD hS hL
  have hP9 := hP.sub is hs
  have hD9 := hD.sub is hn hs2
  exact W.widen h1 h2 (W.vret hx hb hr (fun t ht hW => ⟨⟨(), rfl, trivial, qs, by rw [ht]; exact hP9, hD9⟩, hS.F ht⟩) hS.2.2 dd (hlocks := hlk))
/-- a constructor is called: its cell lies at the place q -/
theorem n_ctor {idx q ci a d mc ms np maxL : Nat} {fs : List Value} {y : MethodName} {bytes : ByteArray} {mk : (Nat → Nat) → va_W} {wr : va_W} {st0 : List Value} (As : List Value) (isR : List Nat) (X : nOk Γ G cy A cc nL own) (dd : decode cc pc = .ok (.invokespecial idx, 3)) (hM : nMet Γ.2.1 y bytes maxL d mc ms G cy (.ref a :: As) [(a, .inr (ci, fs))] mk) (hY : jY y bytes maxL none np) (hlink : Cond.methodLink own idx y ∈ jT) (hin : Cond.instanceMethod y ∈ jT) (hyn : y.name = "<init>") (hn : As.length = np) (hs : ws[q]? = some (a, .inr (ci, fs))) (hR : isR.map (fun i => ws[i]?) = wr.map some) (hnd : va_nd isR = true) (hdis : ∀ i ∈ isR, i ∉ [q]) (hrest : (st.map fun v => v.category).sum ≤ 8) (hst : st0 = As.reverse ++ .ref a :: st) (hf1 : d + 1 ≤ Γ.2.2.2.1.frames) (hf2 : 60 * d + 60 ≤ Γ.2.2.2.1.locals) (hf3 : k + mc ≤ Γ.2.2.2.1.cells) (hf4 : n + ms ≤ Γ.2.2.2.1.slots) (g : ∀ qs, nG Γ G A nL Q (k + mc) (n + ms) (pc + 3) lv st (wr ++ mk qs)) : nG Γ G A nL Q k n pc lv st0 ws := by
  obtain ⟨p, l, e, R, s, m, args, below, meth, c⟩ := Γ
  obtain ⟨hx, hb, hml, hown, hts, hK, hA⟩ := X
  obtain ⟨y1, y2, y3, y4, y5, y6⟩ := hY
  intro H locs ls hP hD hS hL
  have hPc := hP.sub (ws' := [(a, .inr (ci, fs))]) [q] (by simp [hs])
  have hDc := hD.sub (ws' := [(a, .inr (ci, fs))]) [q] (by rfl) (by simp [hs])
  have hFc := va_free (wc := [(a, .inr (ci, fs))]) hD hS hA [q] (by simp [hs])
  refine va_callv (va_runI (As := As) (rest := st) ⟨hx, hb, hml, hown, hts⟩ (hM H.size) (cwI (bytes := bytes) (maxL := maxL) (ws' := jT) np hts (jT_goodIn (fun w hw => ?_)) rfl rfl rfl (hts _ y2) (hts _ hlink) (hts _ hin) hyn ⟨y3, y4, y5⟩ ⟨hf1, ?_⟩) ⟨fun a U g mk q => ?_, fun U hU hW => ⟨rfl, by rw [hU], by rw [hU]; exact hPc, va_K.moved hW.alike hK, hDc.weaken (fun _ _ _ _ => trivial)⟩⟩ rfl hn hL.1 hst (lv_room hrest) dd ⟨hf3, hf4⟩) hS (fun q _ h => hFc q h) hFc (fun u t H1 locs1 ht hvm hw hB hz1 hk1 hS1 => ?_)
  · rcases List.mem_cons.mp hw with rfl | hw
    · exact y1
    · exact hw
  · show 8 + (maxL + 11) + 60 * d ≤ R.locals
    have : 60 * d + 60 ≤ R.locals := hf2
    omega
  · obtain ⟨q0, q1, qP, qK, qD⟩ := q
    exact ⟨q0, q1, qP, va_K.moved (u := U) (U := U.calling g mk a) (Vm.Alike.refl U.vm) qK, qD⟩
  · obtain ⟨qs, hP1, hD1⟩ := hB
    rw [ht] at hP1
    obtain ⟨hP2, hD2⟩ := va_join (wr := wr) (w1 := mk qs) hP hD [q] isR (by simp [hs]) hR hnd hdis hk1 hFc hP1 hD1
    exact g qs H1 locs1 ls hP2 hD2 hS1 hL
end NROWS
