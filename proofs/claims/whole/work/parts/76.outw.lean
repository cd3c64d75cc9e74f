/-! the words of the one throw; what of the start it rests on -/
abbrev oX : String := "java/lang/ArrayIndexOutOfBoundsException"
abbrev oN : List String := ["java/lang/IndexOutOfBoundsException", "java/lang/RuntimeException", "java/lang/Exception"]
abbrev oTx : String := "PLAIN has no such byte"
theorem o_good : ∀ w ∈ Cond.classLink RX5 107 oX :: Cond.initialized oX :: vx_atS RX5 111 oX oN, vx_ot w = true := by decide +kernel
theorem o_tbl : ∀ w ∈ vx_atS RX5 111 oX oN, w ∈ lw_tbl := by decide +kernel
def oBad : List Cond := [.castable oX oX, .declares (Bundle.initS "java/lang/IndexOutOfBoundsException"), .declares (Bundle.initS "java/lang/RuntimeException"), .declares (Bundle.initS "java/lang/Exception"), .declares (Bundle.initS Bundle.tN)]
theorem o_bad : ∀ w ∈ (vx_atS RX5 111 oX oN).filter (fun w => !goodWord w), w ∈ oBad := by decide +kernel
theorem o_badT : ∀ w ∈ oBad, w ∈ lw_tbl := by decide +kernel
theorem o_jT : ∀ w ∈ (vx_atS RX5 111 oX oN).filter goodWord, w ∈ jT := fun w hw => List.mem_filter.mpr ⟨o_tbl w (List.mem_filter.mp hw).1, (List.mem_filter.mp hw).2⟩
theorem j_cast {a b : String} {A B : Array Value} {u U : State} (hvm : u.vm.Alike U.vm) (h : (Cond.castable a b).before A u = true) : (Cond.castable a b).before B U = true := by
  obtain ⟨c, t, h1, h2, h3⟩ := Cond.castable_spec h
  simp [Cond.before, Cond.holds, Cond.value, hvm.findClass, h1, h2, hvm.assignable, h3]
theorem j_decl {x : MethodName} {A B : Array Value} {u U : State} (hvm : u.vm.Alike U.vm) (h : (Cond.declares x).before A u = true) : (Cond.declares x).before B U = true := va_tabs (A := A) rfl (rfl : (u.setVm U.vm).vm = U.vm) (by rw [Cond.declares_setVm hvm]; exact h)
def oB (U : State) : Prop := ∀ w ∈ oBad, w.before #[] U = true
theorem oB.moved {u U : State} (hvm : u.vm.Alike U.vm) (h : oB u) : oB U := by
  intro w hw
  have h9 := h w hw
  simp only [oBad, List.mem_cons, List.not_mem_nil, or_false] at hw
  rcases hw with rfl | rfl | rfl | rfl | rfl
  · exact j_cast hvm h9
  · exact j_decl hvm h9
  · exact j_decl hvm h9
  · exact j_decl hvm h9
  · exact j_decl hvm h9
theorem oB.of {A : Array Value} {U : State} (h : ∀ w ∈ lw_tbl, w.before A U = true) : oB U := by
  intro w hw
  have h9 := h w (o_badT w hw)
  simp only [oBad, List.mem_cons, List.not_mem_nil, or_false] at hw
  rcases hw with rfl | rfl | rfl | rfl | rfl
  · exact j_cast (Vm.Alike.refl _) h9
  · exact j_decl (Vm.Alike.refl _) h9
  · exact j_decl (Vm.Alike.refl _) h9
  · exact j_decl (Vm.Alike.refl _) h9
  · exact j_decl (Vm.Alike.refl _) h9
def oZ (A : Nat → Prop) (sa : Nat) (U : State) (H : Heap) : Prop := vx_Zq Bundle.tN "UNASSIGNED_STACK" Bundle.steD A U H ∧ vx_Zq Bundle.tN "SUPPRESSED_SENTINEL" Bundle.listD A U H ∧ vk_R RX5 109 oTx sa U ∧ oB U
theorem oZ.warm {A : Nat → Prop} {sa : Nat} {s U : State} {H : Heap} (hW : s.WarmedH U.vm) (h : oZ A sa s H) : oZ A sa U H := ⟨vx_Zq.moved hW.alike h.1, vx_Zq.moved hW.alike h.2.1, vk_R.warm hW h.2.2.1, h.2.2.2.moved hW.alike⟩
theorem oZ.kept {A : Nat → Prop} {sa : Nat} {U : State} {H H1 : Heap} (h : oZ A sa U H) (hq : ∀ a : Nat, a < H.size → ¬ A a → H1[a]? = H[a]?) : oZ A sa U H1 := ⟨h.1.kept hq, h.2.1.kept hq, h.2.2⟩
theorem oZ.narrow {A B : Nat → Prop} {sa : Nat} {U : State} {H : Heap} (h : oZ A sa U H) (hAB : ∀ q, B q → A q) : oZ B sa U H := ⟨h.1.narrow hAB, h.2.1.narrow hAB, h.2.2⟩
theorem oZ.calling {A : Nat → Prop} {sa : Nat} {U : State} {g : JFrame} {mk : MethodId} {a : Array Value} (h : oZ A sa U U.heap) : oZ A sa (U.calling g mk a) (U.calling g mk a).heap := oZ.warm (U := U.calling g mk a) (State.WarmedH.refl U) h
/-- a body with a table of handlers, that always returns -/
theorem j_ofWH {l : Launch} {y : MethodName} {ws ws' : List Cond} {rm : Room} {Pc : Array Value → State → Prop} {Qc : Array Value → State → Outcome → State → Prop} {mc ms : Nat} {free : Addr → Prop} {cc : ByteArray} {maxL : Nat} {ret : Option FieldType} {hh : List (Nat × Nat × Nat × Nat)}
    (hy : plainName y.cls = true) (hw : ws = Cond.codeWith y cc maxL ret hh :: ws')
    (body : ∀ p e s m args below meth c s₁, BodyLoose p l y (headSpec ws rm) cc maxL ret e s m args below meth c s₁ → c.maxLocals = maxL → Pc args s →
      W p l e (headSpec ws rm).room s m args below meth c s.heap [] 0 0 (MQ below Qc args s mc ms free) (entryFrame m args maxL)) : Met l y ws rm Pc Qc mc ms free := by
  refine MetFree.of_bodyS (code := cc) (maxLocals := maxL) (ret := ret) hy ?_ ?_
  · intro args s m h hn
    obtain ⟨m9, meth, c, hn9, h1, h2, h3, h4, -, h5, h6, -⟩ := Cond.codeWith_spec (atoms_spec (ws := ws) h _ (by rw [hw]; exact List.mem_cons_self))
    cases hn.symm.trans hn9
    exact ⟨meth, c, h1, h2, h3, h4, h5, h6⟩
  · intro p e s m args below meth c s₁ B hml hP _
    have hh0 : s₁.heap = s.heap := by rw [B.state]; rfl
    obtain ⟨t, a1, o, b1, b2, b3⟩ := body p e s m args below meth c s₁ B hml hP s₁ hh0 (Stand.of_body B)
    exact ⟨t, o, a1, b1, b2, b3⟩
