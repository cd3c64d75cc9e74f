/-! the memory of a system whose cells never change their shape: whole numbers by cell and place; longs likewise -/
abbrev jM : Type := (Nat → Nat → Int32) × (Nat → Nat → Int64)
def jsI (μ : jM) (c k : Nat) (v : Int32) : jM := (fun c' k' => if c' = c ∧ k' = k then v else μ.1 c' k', μ.2)
def jsJ (μ : jM) (c k : Nat) (v : Int64) : jM := (μ.1, fun c' k' => if c' = c ∧ k' = k then v else μ.2 c' k')
def jcp (μ : jM) (c1 sp c2 dp n : Nat) : jM := (fun c' k' => if c' = c2 then va_cpy (μ.1 c1) (μ.1 c2) sp dp n k' else μ.1 c' k', μ.2)
/-- a cell's shape: an object of a class, each field a number or a fixed cell; or an array, its kind (0 int, 1 byte, 2 long) and length -/
abbrev jS : Type := (Nat × List (Option Nat)) ⊕ (Nat × Nat)
def jfv (ad : Nat → Nat) (μ : jM) (c k : Nat) (o : Option Nat) : Value := match o with
  | none => .int (μ.1 c k)
  | some j => .ref (ad j)
def jent (cy : Nat → ClassId) (ad : Nat → Nat) (μ : jM) (c : Nat) (s : jS) : va_E := match s with
  | .inl o => .inr (o.1, o.2.mapIdx (fun k q => jfv ad μ c k q))
  | .inr a => .inl (cy a.1, a.2, if a.1 = 2 then .inr (.inl (μ.2 c)) else .inl (μ.1 c))
def jW (cy : Nat → ClassId) (ad : Nat → Nat) (sh : List jS) (μ : jM) : va_W := sh.mapIdx (fun c s => (ad c, jent cy ad μ c s))
theorem jW_get {cy : Nat → ClassId} {ad : Nat → Nat} {sh : List jS} {c : Nat} {s : jS} (μ : jM) (h : sh[c]? = some s) : (jW cy ad sh μ)[c]? = some (ad c, jent cy ad μ c s) := by
  simp [jW, List.getElem?_mapIdx, h]
theorem jW_set {cy : Nat → ClassId} {ad : Nat → Nat} {sh : List jS} {c : Nat} {s : jS} {μ μ' : jM} {x : va_E} (h : sh[c]? = some s) (hx : jent cy ad μ' c s = x)
    (ho : ∀ c', c' ≠ c → μ'.1 c' = μ.1 c' ∧ μ'.2 c' = μ.2 c') : (jW cy ad sh μ).set c (ad c, x) = jW cy ad sh μ' := by
  have hl : c < sh.length := (List.getElem?_eq_some_iff.mp h).1
  apply List.ext_getElem?
  intro i
  by_cases hi : i = c
  · subst hi
    rw [List.getElem?_set_self (by simp [jW]; exact hl), jW_get μ' h, hx]
  · rw [List.getElem?_set_ne (Ne.symm hi)]
    cases hs : sh[i]? with
    | none => simp [jW, List.getElem?_mapIdx, hs]
    | some s' =>
      rw [jW_get μ hs, jW_get μ' hs]
      obtain ⟨h1, h2⟩ := ho i hi
      congr 2
      cases s' with
      | inl o =>
        have : jfv ad μ i = jfv ad μ' i := by
          funext k q
          cases q <;> simp [jfv, h1]
        simp [jent, this]
      | inr a => simp [jent, h1, h2]
/-- the machine's side of a frame; the world's side -/
abbrev jC : Type _ := Program × Launch × Env × Room × State × MethodId × Array Value × List Frame × Method × Code
abbrev jD : Type _ := va_G × (Nat → ClassId) × (Nat → Nat) × (Nat → Prop)
def jr (Δ : jD) (c : Nat) : Value := .ref (Δ.2.2.1 c)
def jtys (cy : Nat → ClassId) : List (ClassId × FieldType) := [(cy 0, .int), (cy 1, .byte), (cy 2, .long)]
def jL (ls : Array Slot) (L : List (Option Value)) : Prop := ls.size = L.length ∧ lv_wf ls ∧ ∀ (i : Nat) (v : Value), L[i]? = some (some v) → ls[i]? = some (.val v)
def jQc (Δ : jD) (sh : List jS) (fin : Option Value × jM) : Array Value → State → Outcome → State → Prop := fun _ st oc t =>
  oc = .returned fin.1 ∧ va_P Δ.1 jcl (jW Δ.2.1 Δ.2.2.1 sh fin.2) t.heap ∧ va_F Δ.2.2.2 st t
def jRm (d : Nat) : Room := { frames := d, cells := 0, slots := 0, locals := 60 * d }
/-- from here the frame comes to its end, with the answer and the memory 'fin' -/
def jG (Γ : jC) (Δ : jD) (sh : List jS) (fin : Option Value × jM) (pc : Nat) (L : List (Option Value)) (st : List Value) (μ : jM) : Prop := match Γ with
  | (p, l, e, R, s, m, args, below, meth, c) => ∀ (H : Heap) (locs : List Loc) (ls : Array Slot), va_P Δ.1 jcl (jW Δ.2.1 Δ.2.2.1 sh μ) H → va_S Δ.2.2.2 s.heap H locs → jL ls L →
      W p l e R s m args below meth c H locs 0 0 (MQ below (jQc Δ sh fin) args s 0 0 Δ.2.2.2) (F0 m pc ls st)
def jOk (Γ : jC) (Δ : jD) (sh : List jS) (cc : ByteArray) (nL : Nat) (own : String) (ret : Option FieldType) (d : Nat) : Prop := match Γ with
  | (p, l, e, R, s, m, args, below, meth, c) => p.tables.exec = Jvm.exec ∧ c.code = cc ∧ c.maxLocals = nL ∧ s.vm.findClass own = some m.cls ∧ (∀ w ∈ jT, w.before args s = true) ∧ meth.locks = false ∧ meth.sig.returnType = ret ∧ R = jRm d ∧
      va_K Δ.1 jcl (jtys Δ.2.1) s ∧ ∀ μ, va_D Δ.2.2.2 (jW Δ.2.1 Δ.2.2.1 sh μ)
theorem jL_pairs {ls : Array Slot} {L : List (Option Value)} (h : jL ls L) : lv_has ls L.length ((List.range L.length).filterMap (fun j => (L.getD j none).map (fun v => (j, v)))) := by
  refine ⟨h.1, h.2.1, fun q hq => ?_⟩
  obtain ⟨j, hj, hv⟩ := List.mem_filterMap.mp hq
  rw [List.mem_range] at hj
  cases hg : L[j]? with
  | none => rw [List.getElem?_eq_none_iff] at hg; omega
  | some o =>
    rw [List.getD_eq_getElem?_getD, hg] at hv
    cases o with
    | none => simp at hv
    | some v =>
      simp at hv
      rw [← hv]
      exact h.2.2 j v hg
theorem jL_mem {L : List (Option Value)} {j : Nat} {v : Value} (h : L[j]? = some (some v)) : (j, v) ∈ (List.range L.length).filterMap (fun j => (L.getD j none).map (fun v => (j, v))) := by
  refine List.mem_filterMap.mpr ⟨j, List.mem_range.mpr (List.getElem?_eq_some_iff.mp h).1, ?_⟩
  rw [List.getD_eq_getElem?_getD, h]
  rfl
/-- the place before holds no long -/
def jpre (L : List (Option Value)) (i : Nat) : Bool := match i with
  | 0 => true
  | j + 1 => match L[j]? with
    | some (some v) => !(v.category == 2)
    | _ => true
theorem jpre_ne {L : List (Option Value)} {i j : Nat} {w : Value} (hp : jpre L i = true) (hw : L[j]? = some (some w)) (h : j + 1 = i) : ¬ w.category = 2 := by
  subst h
  simp only [jpre, hw] at hp
  simpa using hp
theorem jL_store1 {ls : Array Slot} {L : List (Option Value)} {i : Nat} {v : Value} (h : jL ls L) (hi : i < L.length) (hp : jpre L i = true) {ls' : Array Slot}
    (h' : lv_has ls' L.length ((i, v) :: ((List.range L.length).filterMap (fun j => (L.getD j none).map (fun v => (j, v)))).filter (fun q => !(q.1 == i) && !(q.1 + 1 == i && q.2.category == 2)))) : jL ls' (L.set i (some v)) := by
  refine ⟨by rw [List.length_set]; exact h'.1, h'.2.1, fun j w hw => ?_⟩
  by_cases hj : j = i
  · subst hj
    rw [List.getElem?_set_self hi] at hw
    cases hw
    exact h'.2.2 (j, v) List.mem_cons_self
  · rw [List.getElem?_set_ne (Ne.symm hj)] at hw
    refine h'.2.2 (j, w) (List.mem_cons_of_mem _ (List.mem_filter.mpr ⟨jL_mem hw, ?_⟩))
    have h2 : ¬ (j + 1 = i ∧ w.category = 2) := fun q => jpre_ne hp hw q.1 q.2
    simp only [Bool.and_eq_true, Bool.not_eq_true', beq_eq_false_iff_ne, ne_eq, Bool.and_eq_false_iff]
    refine ⟨hj, ?_⟩
    by_cases q : j + 1 = i
    · exact Or.inr (fun z => h2 ⟨q, z⟩)
    · exact Or.inl q
theorem jL_store2 {ls : Array Slot} {L : List (Option Value)} {i : Nat} {v : Value} (h : jL ls L) (hi : i + 1 < L.length) (hp : jpre L i = true) {ls' : Array Slot}
    (h' : lv_has ls' L.length ((i, v) :: ((List.range L.length).filterMap (fun j => (L.getD j none).map (fun v => (j, v)))).filter (fun q => !(q.1 == i) && (!(q.1 == i + 1) && !(q.1 + 1 == i && q.2.category == 2))))) : jL ls' ((L.set i (some v)).set (i + 1) none) := by
  refine ⟨by rw [List.length_set, List.length_set]; exact h'.1, h'.2.1, fun j w hw => ?_⟩
  by_cases hj1 : j = i + 1
  · subst hj1
    rw [List.getElem?_set_self (by rw [List.length_set]; exact hi)] at hw
    cases hw
  rw [List.getElem?_set_ne (Ne.symm hj1)] at hw
  by_cases hj : j = i
  · subst hj
    rw [List.getElem?_set_self (by omega)] at hw
    cases hw
    exact h'.2.2 (j, v) List.mem_cons_self
  · rw [List.getElem?_set_ne (Ne.symm hj)] at hw
    refine h'.2.2 (j, w) (List.mem_cons_of_mem _ (List.mem_filter.mpr ⟨jL_mem hw, ?_⟩))
    have h2 : ¬ (j + 1 = i ∧ w.category = 2) := fun q => jpre_ne hp hw q.1 q.2
    simp only [Bool.and_eq_true, Bool.not_eq_true', beq_eq_false_iff_ne, ne_eq, Bool.and_eq_false_iff]
    refine ⟨hj, hj1, ?_⟩
    by_cases q : j + 1 = i
    · exact Or.inr (fun z => h2 ⟨q, z⟩)
    · exact Or.inl q
section JROWS
variable {Γ : jC} {Δ : jD} {sh : List jS} {cc : ByteArray} {nL : Nat} {own : String} {ret : Option FieldType} {d : Nat} {fin : Option Value × jM} {pc : Nat} {L : List (Option Value)} {st : List Value} {μ : jM}
theorem g_iadd {x y : Int32} (X : jOk Γ Δ sh cc nL own ret d) (dd : decode cc pc = .ok (.iadd, 1))  (g : jG Γ Δ sh fin (pc + 1) L (.int (x + y) :: st) μ) : jG Γ Δ sh fin pc L (.int y :: .int x :: st) μ := by
  obtain ⟨p, l, e, R, s, m, args, below, meth, c⟩ := Γ
  obtain ⟨hx, hb, hml, hown, hts, hlocks, hr, hR, hK, hD⟩ := X
  intro H locs ls hP hS hL
  exact lv_iadd hx hb dd  (g H locs ls hP hS hL)
theorem g_isub {x y : Int32} (X : jOk Γ Δ sh cc nL own ret d) (dd : decode cc pc = .ok (.isub, 1))  (g : jG Γ Δ sh fin (pc + 1) L (.int (x - y) :: st) μ) : jG Γ Δ sh fin pc L (.int y :: .int x :: st) μ := by
  obtain ⟨p, l, e, R, s, m, args, below, meth, c⟩ := Γ
  obtain ⟨hx, hb, hml, hown, hts, hlocks, hr, hR, hK, hD⟩ := X
  intro H locs ls hP hS hL
  exact lv_isub hx hb dd  (g H locs ls hP hS hL)
theorem g_imul {x y : Int32} (X : jOk Γ Δ sh cc nL own ret d) (dd : decode cc pc = .ok (.imul, 1))  (g : jG Γ Δ sh fin (pc + 1) L (.int (x * y) :: st) μ) : jG Γ Δ sh fin pc L (.int y :: .int x :: st) μ := by
  obtain ⟨p, l, e, R, s, m, args, below, meth, c⟩ := Γ
  obtain ⟨hx, hb, hml, hown, hts, hlocks, hr, hR, hK, hD⟩ := X
  intro H locs ls hP hS hL
  exact lv_imul hx hb dd  (g H locs ls hP hS hL)
theorem g_iand {x y : Int32} (X : jOk Γ Δ sh cc nL own ret d) (dd : decode cc pc = .ok (.iand, 1))  (g : jG Γ Δ sh fin (pc + 1) L (.int (x &&& y) :: st) μ) : jG Γ Δ sh fin pc L (.int y :: .int x :: st) μ := by
  obtain ⟨p, l, e, R, s, m, args, below, meth, c⟩ := Γ
  obtain ⟨hx, hb, hml, hown, hts, hlocks, hr, hR, hK, hD⟩ := X
  intro H locs ls hP hS hL
  exact lv_iand hx hb dd  (g H locs ls hP hS hL)
theorem g_ior {x y : Int32} (X : jOk Γ Δ sh cc nL own ret d) (dd : decode cc pc = .ok (.ior, 1))  (g : jG Γ Δ sh fin (pc + 1) L (.int (x ||| y) :: st) μ) : jG Γ Δ sh fin pc L (.int y :: .int x :: st) μ := by
  obtain ⟨p, l, e, R, s, m, args, below, meth, c⟩ := Γ
  obtain ⟨hx, hb, hml, hown, hts, hlocks, hr, hR, hK, hD⟩ := X
  intro H locs ls hP hS hL
  exact lv_ior hx hb dd  (g H locs ls hP hS hL)
theorem g_ladd {x y : Int64} (X : jOk Γ Δ sh cc nL own ret d) (dd : decode cc pc = .ok (.ladd, 1))  (g : jG Γ Δ sh fin (pc + 1) L (.long (x + y) :: st) μ) : jG Γ Δ sh fin pc L (.long y :: .long x :: st) μ := by
  obtain ⟨p, l, e, R, s, m, args, below, meth, c⟩ := Γ
  obtain ⟨hx, hb, hml, hown, hts, hlocks, hr, hR, hK, hD⟩ := X
  intro H locs ls hP hS hL
  exact lv_ladd hx hb dd  (g H locs ls hP hS hL)
theorem g_lsub {x y : Int64} (X : jOk Γ Δ sh cc nL own ret d) (dd : decode cc pc = .ok (.lsub, 1))  (g : jG Γ Δ sh fin (pc + 1) L (.long (x - y) :: st) μ) : jG Γ Δ sh fin pc L (.long y :: .long x :: st) μ := by
  obtain ⟨p, l, e, R, s, m, args, below, meth, c⟩ := Γ
  obtain ⟨hx, hb, hml, hown, hts, hlocks, hr, hR, hK, hD⟩ := X
  intro H locs ls hP hS hL
  exact lv_lsub hx hb dd  (g H locs ls hP hS hL)
theorem g_land {x y : Int64} (X : jOk Γ Δ sh cc nL own ret d) (dd : decode cc pc = .ok (.land, 1))  (g : jG Γ Δ sh fin (pc + 1) L (.long (x &&& y) :: st) μ) : jG Γ Δ sh fin pc L (.long y :: .long x :: st) μ := by
  obtain ⟨p, l, e, R, s, m, args, below, meth, c⟩ := Γ
  obtain ⟨hx, hb, hml, hown, hts, hlocks, hr, hR, hK, hD⟩ := X
  intro H locs ls hP hS hL
  exact lv_land hx hb dd  (g H locs ls hP hS hL)
theorem g_lor {x y : Int64} (X : jOk Γ Δ sh cc nL own ret d) (dd : decode cc pc = .ok (.lor, 1))  (g : jG Γ Δ sh fin (pc + 1) L (.long (x ||| y) :: st) μ) : jG Γ Δ sh fin pc L (.long y :: .long x :: st) μ := by
  obtain ⟨p, l, e, R, s, m, args, below, meth, c⟩ := Γ
  obtain ⟨hx, hb, hml, hown, hts, hlocks, hr, hR, hK, hD⟩ := X
  intro H locs ls hP hS hL
  exact lv_lor hx hb dd  (g H locs ls hP hS hL)
theorem g_idiv {x y : Int32} (X : jOk Γ Δ sh cc nL own ret d) (dd : decode cc pc = .ok (.idiv, 1)) (h : ¬ y = 0) (g : jG Γ Δ sh fin (pc + 1) L (.int (x / y) :: st) μ) : jG Γ Δ sh fin pc L (.int y :: .int x :: st) μ := by
  obtain ⟨p, l, e, R, s, m, args, below, meth, c⟩ := Γ
  obtain ⟨hx, hb, hml, hown, hts, hlocks, hr, hR, hK, hD⟩ := X
  intro H locs ls hP hS hL
  exact lv_idiv hx hb dd h (g H locs ls hP hS hL)
theorem g_irem {x y : Int32} (X : jOk Γ Δ sh cc nL own ret d) (dd : decode cc pc = .ok (.irem, 1)) (h : ¬ y = 0) (g : jG Γ Δ sh fin (pc + 1) L (.int (x - x / y * y) :: st) μ) : jG Γ Δ sh fin pc L (.int y :: .int x :: st) μ := by
  obtain ⟨p, l, e, R, s, m, args, below, meth, c⟩ := Γ
  obtain ⟨hx, hb, hml, hown, hts, hlocks, hr, hR, hK, hD⟩ := X
  intro H locs ls hP hS hL
  exact lv_irem hx hb dd h (g H locs ls hP hS hL)
theorem g_ishl {x y : Int32} (X : jOk Γ Δ sh cc nL own ret d) (dd : decode cc pc = .ok (.ishl, 1))  (g : jG Γ Δ sh fin (pc + 1) L (.int (x <<< (y &&& 31)) :: st) μ) : jG Γ Δ sh fin pc L (.int y :: .int x :: st) μ := by
  obtain ⟨p, l, e, R, s, m, args, below, meth, c⟩ := Γ
  obtain ⟨hx, hb, hml, hown, hts, hlocks, hr, hR, hK, hD⟩ := X
  intro H locs ls hP hS hL
  exact lv_ishl hx hb dd  (g H locs ls hP hS hL)
theorem g_iushr {x y : Int32} (X : jOk Γ Δ sh cc nL own ret d) (dd : decode cc pc = .ok (.iushr, 1))  (g : jG Γ Δ sh fin (pc + 1) L (.int ((x.toUInt32 >>> (y.toUInt32 &&& Int32.toUInt32 31)).toInt32) :: st) μ) : jG Γ Δ sh fin pc L (.int y :: .int x :: st) μ := by
  obtain ⟨p, l, e, R, s, m, args, below, meth, c⟩ := Γ
  obtain ⟨hx, hb, hml, hown, hts, hlocks, hr, hR, hK, hD⟩ := X
  intro H locs ls hP hS hL
  exact lv_iushr hx hb dd rfl (g H locs ls hP hS hL)
theorem g_lshl {x : Int64} {y : Int32} (X : jOk Γ Δ sh cc nL own ret d) (dd : decode cc pc = .ok (.lshl, 1))  (g : jG Γ Δ sh fin (pc + 1) L (.long (x <<< (y.toInt64 &&& 63)) :: st) μ) : jG Γ Δ sh fin pc L (.int y :: .long x :: st) μ := by
  obtain ⟨p, l, e, R, s, m, args, below, meth, c⟩ := Γ
  obtain ⟨hx, hb, hml, hown, hts, hlocks, hr, hR, hK, hD⟩ := X
  intro H locs ls hP hS hL
  exact lv_lshl hx hb dd rfl (g H locs ls hP hS hL)
theorem g_lshr {x : Int64} {y : Int32} (X : jOk Γ Δ sh cc nL own ret d) (dd : decode cc pc = .ok (.lshr, 1))  (g : jG Γ Δ sh fin (pc + 1) L (.long (x >>> (y.toInt64 &&& 63)) :: st) μ) : jG Γ Δ sh fin pc L (.int y :: .long x :: st) μ := by
  obtain ⟨p, l, e, R, s, m, args, below, meth, c⟩ := Γ
  obtain ⟨hx, hb, hml, hown, hts, hlocks, hr, hR, hK, hD⟩ := X
  intro H locs ls hP hS hL
  exact lv_lshr hx hb dd rfl (g H locs ls hP hS hL)
theorem g_i2l {x : Int32} (X : jOk Γ Δ sh cc nL own ret d) (dd : decode cc pc = .ok (.i2l, 1))  (g : jG Γ Δ sh fin (pc + 1) L (.long x.toInt64 :: st) μ) : jG Γ Δ sh fin pc L (.int x :: st) μ := by
  obtain ⟨p, l, e, R, s, m, args, below, meth, c⟩ := Γ
  obtain ⟨hx, hb, hml, hown, hts, hlocks, hr, hR, hK, hD⟩ := X
  intro H locs ls hP hS hL
  exact lv_i2l hx hb dd rfl (g H locs ls hP hS hL)
theorem g_l2i {x : Int64} (X : jOk Γ Δ sh cc nL own ret d) (dd : decode cc pc = .ok (.l2i, 1))  (g : jG Γ Δ sh fin (pc + 1) L (.int x.toInt32 :: st) μ) : jG Γ Δ sh fin pc L (.long x :: st) μ := by
  obtain ⟨p, l, e, R, s, m, args, below, meth, c⟩ := Γ
  obtain ⟨hx, hb, hml, hown, hts, hlocks, hr, hR, hK, hD⟩ := X
  intro H locs ls hP hS hL
  exact lv_l2i hx hb dd rfl (g H locs ls hP hS hL)
theorem g_i2b {x : Int32} (X : jOk Γ Δ sh cc nL own ret d) (dd : decode cc pc = .ok (.i2b, 1))  (g : jG Γ Δ sh fin (pc + 1) L (.int x.toInt8.toInt32 :: st) μ) : jG Γ Δ sh fin pc L (.int x :: st) μ := by
  obtain ⟨p, l, e, R, s, m, args, below, meth, c⟩ := Γ
  obtain ⟨hx, hb, hml, hown, hts, hlocks, hr, hR, hK, hD⟩ := X
  intro H locs ls hP hS hL
  exact lv_i2b hx hb dd rfl (g H locs ls hP hS hL)
theorem g_lcmp {x y : Int64} (X : jOk Γ Δ sh cc nL own ret d) (dd : decode cc pc = .ok (.lcmp, 1))  (g : jG Γ Δ sh fin (pc + 1) L (.int (lg_cmp x y) :: st) μ) : jG Γ Δ sh fin pc L (.long y :: .long x :: st) μ := by
  obtain ⟨p, l, e, R, s, m, args, below, meth, c⟩ := Γ
  obtain ⟨hx, hb, hml, hown, hts, hlocks, hr, hR, hK, hD⟩ := X
  intro H locs ls hP hS hL
  exact W.lcmp hx hb dd  (g H locs ls hP hS hL)
theorem g_iconst {n : Int} {v : Int32} (X : jOk Γ Δ sh cc nL own ret d) (dd : decode cc pc = .ok (.iconst n, 1)) (hv : Int32.ofInt n = v) (g : jG Γ Δ sh fin (pc + 1) L (.int v :: st) μ) : jG Γ Δ sh fin pc L (st) μ := by
  obtain ⟨p, l, e, R, s, m, args, below, meth, c⟩ := Γ
  obtain ⟨hx, hb, hml, hown, hts, hlocks, hr, hR, hK, hD⟩ := X
  intro H locs ls hP hS hL
  exact lv_iconst hx hb dd hv (g H locs ls hP hS hL)
theorem g_bipush {n : Int} {v : Int32} (X : jOk Γ Δ sh cc nL own ret d) (dd : decode cc pc = .ok (.bipush n, 2)) (hv : (Int8.ofInt n).toInt32 = v) (g : jG Γ Δ sh fin (pc + 2) L (.int v :: st) μ) : jG Γ Δ sh fin pc L (st) μ := by
  obtain ⟨p, l, e, R, s, m, args, below, meth, c⟩ := Γ
  obtain ⟨hx, hb, hml, hown, hts, hlocks, hr, hR, hK, hD⟩ := X
  intro H locs ls hP hS hL
  exact lv_bipush hx hb dd hv (g H locs ls hP hS hL)
theorem g_sipush {n : Int} {v : Int32} (X : jOk Γ Δ sh cc nL own ret d) (dd : decode cc pc = .ok (.sipush n, 3)) (hv : (Int16.ofInt n).toInt32 = v) (g : jG Γ Δ sh fin (pc + 3) L (.int v :: st) μ) : jG Γ Δ sh fin pc L (st) μ := by
  obtain ⟨p, l, e, R, s, m, args, below, meth, c⟩ := Γ
  obtain ⟨hx, hb, hml, hown, hts, hlocks, hr, hR, hK, hD⟩ := X
  intro H locs ls hP hS hL
  exact lv_sipush hx hb dd hv (g H locs ls hP hS hL)
theorem g_lconst {n : Fin 2} {v : Int64} (X : jOk Γ Δ sh cc nL own ret d) (dd : decode cc pc = .ok (.lconst n, 1)) (hv : Int64.ofNat (n : Nat) = v) (g : jG Γ Δ sh fin (pc + 1) L (.long v :: st) μ) : jG Γ Δ sh fin pc L (st) μ := by
  obtain ⟨p, l, e, R, s, m, args, below, meth, c⟩ := Γ
  obtain ⟨hx, hb, hml, hown, hts, hlocks, hr, hR, hK, hD⟩ := X
  intro H locs ls hP hS hL
  exact lv_lconst hx hb dd hv (g H locs ls hP hS hL)
theorem g_ldc {i : Nat} {v : Int32} (X : jOk Γ Δ sh cc nL own ret d) (dd : decode cc pc = .ok (.ldc i, 2)) (hw : Cond.constant own i v ∈ jT) (g : jG Γ Δ sh fin (pc + 2) L (.int v :: st) μ) : jG Γ Δ sh fin pc L (st) μ := by
  obtain ⟨p, l, e, R, s, m, args, below, meth, c⟩ := Γ
  obtain ⟨hx, hb, hml, hown, hts, hlocks, hr, hR, hK, hD⟩ := X
  intro H locs ls hP hS hL
  exact lv_ldc hx hb hown (hts _ hw) dd (g H locs ls hP hS hL)
theorem g_ldc2 {i : Nat} {v : Int64} (X : jOk Γ Δ sh cc nL own ret d) (dd : decode cc pc = .ok (.ldc2_w i, 3)) (hw : Cond.constantLong own i v ∈ jT) (g : jG Γ Δ sh fin (pc + 3) L (.long v :: st) μ) : jG Γ Δ sh fin pc L (st) μ := by
  obtain ⟨p, l, e, R, s, m, args, below, meth, c⟩ := Γ
  obtain ⟨hx, hb, hml, hown, hts, hlocks, hr, hR, hK, hD⟩ := X
  intro H locs ls hP hS hL
  exact lv_ldc2 hx hb hown (hts _ hw) dd (g H locs ls hP hS hL)
theorem g_null  (X : jOk Γ Δ sh cc nL own ret d) (dd : decode cc pc = .ok (.aconst_null, 1))  (g : jG Γ Δ sh fin (pc + 1) L (.null :: st) μ) : jG Γ Δ sh fin pc L (st) μ := by
  obtain ⟨p, l, e, R, s, m, args, below, meth, c⟩ := Γ
  obtain ⟨hx, hb, hml, hown, hts, hlocks, hr, hR, hK, hD⟩ := X
  intro H locs ls hP hS hL
  exact lv_null hx hb dd  (g H locs ls hP hS hL)
theorem g_dupI {x : Int32} (X : jOk Γ Δ sh cc nL own ret d) (dd : decode cc pc = .ok (.dup, 1))  (g : jG Γ Δ sh fin (pc + 1) L (.int x :: .int x :: st) μ) : jG Γ Δ sh fin pc L (.int x :: st) μ := by
  obtain ⟨p, l, e, R, s, m, args, below, meth, c⟩ := Γ
  obtain ⟨hx, hb, hml, hown, hts, hlocks, hr, hR, hK, hD⟩ := X
  intro H locs ls hP hS hL
  exact lv_dup hx hb dd rfl (g H locs ls hP hS hL)
theorem g_dupR {x : Nat} (X : jOk Γ Δ sh cc nL own ret d) (dd : decode cc pc = .ok (.dup, 1))  (g : jG Γ Δ sh fin (pc + 1) L (jr Δ x :: jr Δ x :: st) μ) : jG Γ Δ sh fin pc L (jr Δ x :: st) μ := by
  obtain ⟨p, l, e, R, s, m, args, below, meth, c⟩ := Γ
  obtain ⟨hx, hb, hml, hown, hts, hlocks, hr, hR, hK, hD⟩ := X
  intro H locs ls hP hS hL
  exact lv_dup hx hb dd rfl (g H locs ls hP hS hL)
theorem g_popI {x : Int32} (X : jOk Γ Δ sh cc nL own ret d) (dd : decode cc pc = .ok (.pop, 1))  (g : jG Γ Δ sh fin (pc + 1) L (st) μ) : jG Γ Δ sh fin pc L (.int x :: st) μ := by
  obtain ⟨p, l, e, R, s, m, args, below, meth, c⟩ := Γ
  obtain ⟨hx, hb, hml, hown, hts, hlocks, hr, hR, hK, hD⟩ := X
  intro H locs ls hP hS hL
  exact lv_pop hx hb dd rfl (g H locs ls hP hS hL)
theorem g_ild_n {k : Fin 4} {i : Nat} {x : Int32} (X : jOk Γ Δ sh cc nL own ret d) (dd : decode cc pc = .ok (.iload_n k, 1)) (hi : (k : Nat) = i) (hl : L[i]? = some (some (.int x))) (g : jG Γ Δ sh fin (pc + 1) L (.int x :: st) μ) : jG Γ Δ sh fin pc L (st) μ := by
  obtain ⟨p, l, e, R, s, m, args, below, meth, c⟩ := Γ
  obtain ⟨hx, hb, hml, hown, hts, hlocks, hr, hR, hK, hD⟩ := X
  intro H locs ls hP hS hL
  exact lv_iload_n hx hb dd hi (hL.2.2 i _ hl) (g H locs ls hP hS hL)
theorem g_ild {i : Nat} {x : Int32} (X : jOk Γ Δ sh cc nL own ret d) (dd : decode cc pc = .ok (.iload i, 2)) (hl : L[i]? = some (some (.int x))) (g : jG Γ Δ sh fin (pc + 2) L (.int x :: st) μ) : jG Γ Δ sh fin pc L (st) μ := by
  obtain ⟨p, l, e, R, s, m, args, below, meth, c⟩ := Γ
  obtain ⟨hx, hb, hml, hown, hts, hlocks, hr, hR, hK, hD⟩ := X
  intro H locs ls hP hS hL
  exact lv_iload hx hb dd (hL.2.2 i _ hl) (g H locs ls hP hS hL)
theorem g_lld_n {k : Fin 4} {i : Nat} {x : Int64} (X : jOk Γ Δ sh cc nL own ret d) (dd : decode cc pc = .ok (.lload_n k, 1)) (hi : (k : Nat) = i) (hl : L[i]? = some (some (.long x))) (g : jG Γ Δ sh fin (pc + 1) L (.long x :: st) μ) : jG Γ Δ sh fin pc L (st) μ := by
  obtain ⟨p, l, e, R, s, m, args, below, meth, c⟩ := Γ
  obtain ⟨hx, hb, hml, hown, hts, hlocks, hr, hR, hK, hD⟩ := X
  intro H locs ls hP hS hL
  exact lv_lload_n hx hb dd hi (hL.2.2 i _ hl) (g H locs ls hP hS hL)
theorem g_lld {i : Nat} {x : Int64} (X : jOk Γ Δ sh cc nL own ret d) (dd : decode cc pc = .ok (.lload i, 2)) (hl : L[i]? = some (some (.long x))) (g : jG Γ Δ sh fin (pc + 2) L (.long x :: st) μ) : jG Γ Δ sh fin pc L (st) μ := by
  obtain ⟨p, l, e, R, s, m, args, below, meth, c⟩ := Γ
  obtain ⟨hx, hb, hml, hown, hts, hlocks, hr, hR, hK, hD⟩ := X
  intro H locs ls hP hS hL
  exact lv_lload hx hb dd (hL.2.2 i _ hl) (g H locs ls hP hS hL)
theorem g_ald_n {k : Fin 4} {i x : Nat} (X : jOk Γ Δ sh cc nL own ret d) (dd : decode cc pc = .ok (.aload_n k, 1)) (hi : (k : Nat) = i) (hl : L[i]? = some (some (jr Δ x))) (g : jG Γ Δ sh fin (pc + 1) L (jr Δ x :: st) μ) : jG Γ Δ sh fin pc L (st) μ := by
  obtain ⟨p, l, e, R, s, m, args, below, meth, c⟩ := Γ
  obtain ⟨hx, hb, hml, hown, hts, hlocks, hr, hR, hK, hD⟩ := X
  intro H locs ls hP hS hL
  exact lv_aload_n hx hb dd hi (hL.2.2 i _ hl) (g H locs ls hP hS hL)
theorem g_aldN_n {k : Fin 4} {i : Nat} (X : jOk Γ Δ sh cc nL own ret d) (dd : decode cc pc = .ok (.aload_n k, 1)) (hi : (k : Nat) = i) (hl : L[i]? = some (some .null)) (g : jG Γ Δ sh fin (pc + 1) L (.null :: st) μ) : jG Γ Δ sh fin pc L (st) μ := by
  obtain ⟨p, l, e, R, s, m, args, below, meth, c⟩ := Γ
  obtain ⟨hx, hb, hml, hown, hts, hlocks, hr, hR, hK, hD⟩ := X
  intro H locs ls hP hS hL
  exact lv_aload_nN hx hb dd hi (hL.2.2 i _ hl) (g H locs ls hP hS hL)
theorem g_ist_n {k : Fin 4} {i : Nat} {x : Int32} {L1 : List (Option Value)} (X : jOk Γ Δ sh cc nL own ret d) (dd : decode cc pc = .ok (.istore_n k, 1)) (hk : (k : Nat) = i) (hi : i < L.length) (hp : jpre L i = true) (hL1 : L.set i (some (.int x)) = L1) (g : jG Γ Δ sh fin (pc + 1) L1 st μ) : jG Γ Δ sh fin pc L (.int x :: st) μ := by
  subst hL1
  obtain ⟨p, l, e, R, s, m, args, below, meth, c⟩ := Γ
  obtain ⟨hx, hb, hml, hown, hts, hlocks, hr, hR, hK, hD⟩ := X
  intro H locs ls hP hS hL
  exact lv_istore_n hx hb dd hk (jL_pairs hL) hi rfl (fun ls1 h1 => g H locs ls1 hP hS (jL_store1 hL hi hp h1))
theorem g_ist {i : Nat} {x : Int32} {L1 : List (Option Value)} (X : jOk Γ Δ sh cc nL own ret d) (dd : decode cc pc = .ok (.istore i, 2))  (hi : i < L.length) (hp : jpre L i = true) (hL1 : L.set i (some (.int x)) = L1) (g : jG Γ Δ sh fin (pc + 2) L1 st μ) : jG Γ Δ sh fin pc L (.int x :: st) μ := by
  subst hL1
  obtain ⟨p, l, e, R, s, m, args, below, meth, c⟩ := Γ
  obtain ⟨hx, hb, hml, hown, hts, hlocks, hr, hR, hK, hD⟩ := X
  intro H locs ls hP hS hL
  exact lv_istore hx hb dd  (jL_pairs hL) hi rfl (fun ls1 h1 => g H locs ls1 hP hS (jL_store1 hL hi hp h1))
theorem g_ast_n {k : Fin 4} {i x : Nat} {L1 : List (Option Value)} (X : jOk Γ Δ sh cc nL own ret d) (dd : decode cc pc = .ok (.astore_n k, 1)) (hk : (k : Nat) = i) (hi : i < L.length) (hp : jpre L i = true) (hL1 : L.set i (some (jr Δ x)) = L1) (g : jG Γ Δ sh fin (pc + 1) L1 st μ) : jG Γ Δ sh fin pc L (jr Δ x :: st) μ := by
  subst hL1
  obtain ⟨p, l, e, R, s, m, args, below, meth, c⟩ := Γ
  obtain ⟨hx, hb, hml, hown, hts, hlocks, hr, hR, hK, hD⟩ := X
  intro H locs ls hP hS hL
  exact lv_astore_n hx hb dd hk (jL_pairs hL) hi rfl (fun ls1 h1 => g H locs ls1 hP hS (jL_store1 hL hi hp h1))
theorem g_astN_n {k : Fin 4} {i : Nat} {L1 : List (Option Value)} (X : jOk Γ Δ sh cc nL own ret d) (dd : decode cc pc = .ok (.astore_n k, 1)) (hk : (k : Nat) = i) (hi : i < L.length) (hp : jpre L i = true) (hL1 : L.set i (some (.null)) = L1) (g : jG Γ Δ sh fin (pc + 1) L1 st μ) : jG Γ Δ sh fin pc L (.null :: st) μ := by
  subst hL1
  obtain ⟨p, l, e, R, s, m, args, below, meth, c⟩ := Γ
  obtain ⟨hx, hb, hml, hown, hts, hlocks, hr, hR, hK, hD⟩ := X
  intro H locs ls hP hS hL
  exact lv_astore_nN hx hb dd hk (jL_pairs hL) hi rfl (fun ls1 h1 => g H locs ls1 hP hS (jL_store1 hL hi hp h1))
theorem g_lst_n {k : Fin 4} {i : Nat} {x : Int64} {L1 : List (Option Value)} (X : jOk Γ Δ sh cc nL own ret d) (dd : decode cc pc = .ok (.lstore_n k, 1)) (hk : (k : Nat) = i) (hi : i + 1 < L.length) (hp : jpre L i = true) (hL1 : (L.set i (some (.long x))).set (i + 1) none = L1) (g : jG Γ Δ sh fin (pc + 1) L1 st μ) : jG Γ Δ sh fin pc L (.long x :: st) μ := by
  subst hL1
  obtain ⟨p, l, e, R, s, m, args, below, meth, c⟩ := Γ
  obtain ⟨hx, hb, hml, hown, hts, hlocks, hr, hR, hK, hD⟩ := X
  intro H locs ls hP hS hL
  exact lv_lstore_n hx hb dd hk (jL_pairs hL) hi rfl (fun ls1 h1 => g H locs ls1 hP hS (jL_store2 hL hi hp h1))
theorem g_iinc {i : Nat} {n : Int} {x v : Int32} {L1 : List (Option Value)} (X : jOk Γ Δ sh cc nL own ret d) (dd : decode cc pc = .ok (.iinc i n, 3)) (hl : L[i]? = some (some (.int x))) (hv : x + Int32.ofInt n = v) (hp : jpre L i = true) (hL1 : L.set i (some (.int v)) = L1) (g : jG Γ Δ sh fin (pc + 3) L1 st μ) : jG Γ Δ sh fin pc L st μ := by
  subst hL1
  obtain ⟨p, l, e, R, s, m, args, below, meth, c⟩ := Γ
  obtain ⟨hx, hb, hml, hown, hts, hlocks, hr, hR, hK, hD⟩ := X
  intro H locs ls hP hS hL
  have hi : i < L.length := (List.getElem?_eq_some_iff.mp hl).1
  obtain ⟨k, hk⟩ := List.getElem?_of_mem (jL_mem hl)
  exact lv_iinc hx hb dd (jL_pairs hL) hk hv hi rfl (fun ls1 h1 => g H locs ls1 hP hS (jL_store1 hL hi hp h1))
theorem g_if_eq {x : Int32} {off : Int} (tgt : Nat) (X : jOk Γ Δ sh cc nL own ret d) (dd : decode cc pc = .ok (.ifCond .eq off, 3)) (ht : (pc : Int) + off = (tgt : Int)) (kt : x = 0 → jG Γ Δ sh fin tgt L st μ) (kf : ¬ (x = 0) → jG Γ Δ sh fin (pc + 3) L st μ) : jG Γ Δ sh fin pc L (.int x :: st) μ := by
  obtain ⟨p, l, e, R, s, m, args, below, meth, c⟩ := Γ
  obtain ⟨hx, hb, hml, hown, hts, hlocks, hr, hR, hK, hD⟩ := X
  intro H locs ls hP hS hL
  exact lv_if_eq hx hb dd ht (fun q => kt q H locs ls hP hS hL) (fun q => kf q H locs ls hP hS hL)
theorem g_icmp_eq {x y : Int32} {off : Int} (tgt : Nat) (X : jOk Γ Δ sh cc nL own ret d) (dd : decode cc pc = .ok (.if_icmp .eq off, 3)) (ht : (pc : Int) + off = (tgt : Int)) (kt : x = y → jG Γ Δ sh fin tgt L st μ) (kf : ¬ (x = y) → jG Γ Δ sh fin (pc + 3) L st μ) : jG Γ Δ sh fin pc L (.int y :: .int x :: st) μ := by
  obtain ⟨p, l, e, R, s, m, args, below, meth, c⟩ := Γ
  obtain ⟨hx, hb, hml, hown, hts, hlocks, hr, hR, hK, hD⟩ := X
  intro H locs ls hP hS hL
  exact lv_icmp_eq hx hb dd ht (fun q => kt q H locs ls hP hS hL) (fun q => kf q H locs ls hP hS hL)
theorem g_if_ne {x : Int32} {off : Int} (tgt : Nat) (X : jOk Γ Δ sh cc nL own ret d) (dd : decode cc pc = .ok (.ifCond .ne off, 3)) (ht : (pc : Int) + off = (tgt : Int)) (kt : ¬ x = 0 → jG Γ Δ sh fin tgt L st μ) (kf : x = 0 → jG Γ Δ sh fin (pc + 3) L st μ) : jG Γ Δ sh fin pc L (.int x :: st) μ := by
  obtain ⟨p, l, e, R, s, m, args, below, meth, c⟩ := Γ
  obtain ⟨hx, hb, hml, hown, hts, hlocks, hr, hR, hK, hD⟩ := X
  intro H locs ls hP hS hL
  exact lv_if_ne hx hb dd ht (fun q => kt q H locs ls hP hS hL) (fun q => kf q H locs ls hP hS hL)
theorem g_icmp_ne {x y : Int32} {off : Int} (tgt : Nat) (X : jOk Γ Δ sh cc nL own ret d) (dd : decode cc pc = .ok (.if_icmp .ne off, 3)) (ht : (pc : Int) + off = (tgt : Int)) (kt : ¬ x = y → jG Γ Δ sh fin tgt L st μ) (kf : x = y → jG Γ Δ sh fin (pc + 3) L st μ) : jG Γ Δ sh fin pc L (.int y :: .int x :: st) μ := by
  obtain ⟨p, l, e, R, s, m, args, below, meth, c⟩ := Γ
  obtain ⟨hx, hb, hml, hown, hts, hlocks, hr, hR, hK, hD⟩ := X
  intro H locs ls hP hS hL
  exact lv_icmp_ne hx hb dd ht (fun q => kt q H locs ls hP hS hL) (fun q => kf q H locs ls hP hS hL)
theorem g_if_lt {x : Int32} {off : Int} (tgt : Nat) (X : jOk Γ Δ sh cc nL own ret d) (dd : decode cc pc = .ok (.ifCond .lt off, 3)) (ht : (pc : Int) + off = (tgt : Int)) (kt : x < 0 → jG Γ Δ sh fin tgt L st μ) (kf : ¬ (x < 0) → jG Γ Δ sh fin (pc + 3) L st μ) : jG Γ Δ sh fin pc L (.int x :: st) μ := by
  obtain ⟨p, l, e, R, s, m, args, below, meth, c⟩ := Γ
  obtain ⟨hx, hb, hml, hown, hts, hlocks, hr, hR, hK, hD⟩ := X
  intro H locs ls hP hS hL
  exact lv_if_lt hx hb dd ht (fun q => kt q H locs ls hP hS hL) (fun q => kf q H locs ls hP hS hL)
theorem g_icmp_lt {x y : Int32} {off : Int} (tgt : Nat) (X : jOk Γ Δ sh cc nL own ret d) (dd : decode cc pc = .ok (.if_icmp .lt off, 3)) (ht : (pc : Int) + off = (tgt : Int)) (kt : x < y → jG Γ Δ sh fin tgt L st μ) (kf : ¬ (x < y) → jG Γ Δ sh fin (pc + 3) L st μ) : jG Γ Δ sh fin pc L (.int y :: .int x :: st) μ := by
  obtain ⟨p, l, e, R, s, m, args, below, meth, c⟩ := Γ
  obtain ⟨hx, hb, hml, hown, hts, hlocks, hr, hR, hK, hD⟩ := X
  intro H locs ls hP hS hL
  exact lv_icmp_lt hx hb dd ht (fun q => kt q H locs ls hP hS hL) (fun q => kf q H locs ls hP hS hL)
theorem g_if_ge {x : Int32} {off : Int} (tgt : Nat) (X : jOk Γ Δ sh cc nL own ret d) (dd : decode cc pc = .ok (.ifCond .ge off, 3)) (ht : (pc : Int) + off = (tgt : Int)) (kt : 0 ≤ x → jG Γ Δ sh fin tgt L st μ) (kf : ¬ (0 ≤ x) → jG Γ Δ sh fin (pc + 3) L st μ) : jG Γ Δ sh fin pc L (.int x :: st) μ := by
  obtain ⟨p, l, e, R, s, m, args, below, meth, c⟩ := Γ
  obtain ⟨hx, hb, hml, hown, hts, hlocks, hr, hR, hK, hD⟩ := X
  intro H locs ls hP hS hL
  exact lv_if_ge hx hb dd ht (fun q => kt q H locs ls hP hS hL) (fun q => kf q H locs ls hP hS hL)
theorem g_icmp_ge {x y : Int32} {off : Int} (tgt : Nat) (X : jOk Γ Δ sh cc nL own ret d) (dd : decode cc pc = .ok (.if_icmp .ge off, 3)) (ht : (pc : Int) + off = (tgt : Int)) (kt : y ≤ x → jG Γ Δ sh fin tgt L st μ) (kf : ¬ (y ≤ x) → jG Γ Δ sh fin (pc + 3) L st μ) : jG Γ Δ sh fin pc L (.int y :: .int x :: st) μ := by
  obtain ⟨p, l, e, R, s, m, args, below, meth, c⟩ := Γ
  obtain ⟨hx, hb, hml, hown, hts, hlocks, hr, hR, hK, hD⟩ := X
  intro H locs ls hP hS hL
  exact lv_icmp_ge hx hb dd ht (fun q => kt q H locs ls hP hS hL) (fun q => kf q H locs ls hP hS hL)
theorem g_if_gt {x : Int32} {off : Int} (tgt : Nat) (X : jOk Γ Δ sh cc nL own ret d) (dd : decode cc pc = .ok (.ifCond .gt off, 3)) (ht : (pc : Int) + off = (tgt : Int)) (kt : 0 < x → jG Γ Δ sh fin tgt L st μ) (kf : ¬ (0 < x) → jG Γ Δ sh fin (pc + 3) L st μ) : jG Γ Δ sh fin pc L (.int x :: st) μ := by
  obtain ⟨p, l, e, R, s, m, args, below, meth, c⟩ := Γ
  obtain ⟨hx, hb, hml, hown, hts, hlocks, hr, hR, hK, hD⟩ := X
  intro H locs ls hP hS hL
  exact lv_if_gt hx hb dd ht (fun q => kt q H locs ls hP hS hL) (fun q => kf q H locs ls hP hS hL)
theorem g_icmp_gt {x y : Int32} {off : Int} (tgt : Nat) (X : jOk Γ Δ sh cc nL own ret d) (dd : decode cc pc = .ok (.if_icmp .gt off, 3)) (ht : (pc : Int) + off = (tgt : Int)) (kt : y < x → jG Γ Δ sh fin tgt L st μ) (kf : ¬ (y < x) → jG Γ Δ sh fin (pc + 3) L st μ) : jG Γ Δ sh fin pc L (.int y :: .int x :: st) μ := by
  obtain ⟨p, l, e, R, s, m, args, below, meth, c⟩ := Γ
  obtain ⟨hx, hb, hml, hown, hts, hlocks, hr, hR, hK, hD⟩ := X
  intro H locs ls hP hS hL
  exact lv_icmp_gt hx hb dd ht (fun q => kt q H locs ls hP hS hL) (fun q => kf q H locs ls hP hS hL)
theorem g_if_le {x : Int32} {off : Int} (tgt : Nat) (X : jOk Γ Δ sh cc nL own ret d) (dd : decode cc pc = .ok (.ifCond .le off, 3)) (ht : (pc : Int) + off = (tgt : Int)) (kt : x ≤ 0 → jG Γ Δ sh fin tgt L st μ) (kf : ¬ (x ≤ 0) → jG Γ Δ sh fin (pc + 3) L st μ) : jG Γ Δ sh fin pc L (.int x :: st) μ := by
  obtain ⟨p, l, e, R, s, m, args, below, meth, c⟩ := Γ
  obtain ⟨hx, hb, hml, hown, hts, hlocks, hr, hR, hK, hD⟩ := X
  intro H locs ls hP hS hL
  exact lv_if_le hx hb dd ht (fun q => kt q H locs ls hP hS hL) (fun q => kf q H locs ls hP hS hL)
theorem g_icmp_le {x y : Int32} {off : Int} (tgt : Nat) (X : jOk Γ Δ sh cc nL own ret d) (dd : decode cc pc = .ok (.if_icmp .le off, 3)) (ht : (pc : Int) + off = (tgt : Int)) (kt : x ≤ y → jG Γ Δ sh fin tgt L st μ) (kf : ¬ (x ≤ y) → jG Γ Δ sh fin (pc + 3) L st μ) : jG Γ Δ sh fin pc L (.int y :: .int x :: st) μ := by
  obtain ⟨p, l, e, R, s, m, args, below, meth, c⟩ := Γ
  obtain ⟨hx, hb, hml, hown, hts, hlocks, hr, hR, hK, hD⟩ := X
  intro H locs ls hP hS hL
  exact lv_icmp_le hx hb dd ht (fun q => kt q H locs ls hP hS hL) (fun q => kf q H locs ls hP hS hL)
theorem g_goto {off : Int} (tgt : Nat) (X : jOk Γ Δ sh cc nL own ret d) (dd : decode cc pc = .ok (.goto off, 3)) (ht : (pc : Int) + off = (tgt : Int)) (g : jG Γ Δ sh fin tgt L st μ) : jG Γ Δ sh fin pc L st μ := by
  obtain ⟨p, l, e, R, s, m, args, below, meth, c⟩ := Γ
  obtain ⟨hx, hb, hml, hown, hts, hlocks, hr, hR, hK, hD⟩ := X
  intro H locs ls hP hS hL
  exact lv_goto hx hb dd ht (g H locs ls hP hS hL)
theorem g_ifnull {off : Int} {x : Nat} (X : jOk Γ Δ sh cc nL own ret d) (dd : decode cc pc = .ok (.ifnull off, 3)) (g : jG Γ Δ sh fin (pc + 3) L st μ) : jG Γ Δ sh fin pc L (jr Δ x :: st) μ := by
  obtain ⟨p, l, e, R, s, m, args, below, meth, c⟩ := Γ
  obtain ⟨hx, hb, hml, hown, hts, hlocks, hr, hR, hK, hD⟩ := X
  intro H locs ls hP hS hL
  exact lv_ifnull hx hb dd (g H locs ls hP hS hL)
theorem g_ifnullN {off : Int} (tgt : Nat) (X : jOk Γ Δ sh cc nL own ret d) (dd : decode cc pc = .ok (.ifnull off, 3)) (ht : (pc : Int) + off = (tgt : Int)) (g : jG Γ Δ sh fin tgt L st μ) : jG Γ Δ sh fin pc L (.null :: st) μ := by
  obtain ⟨p, l, e, R, s, m, args, below, meth, c⟩ := Γ
  obtain ⟨hx, hb, hml, hown, hts, hlocks, hr, hR, hK, hD⟩ := X
  intro H locs ls hP hS hL
  exact lv_ifnullN hx hb dd ht (g H locs ls hP hS hL)
theorem g_ifnonnull {off : Int} {x : Nat} (tgt : Nat) (X : jOk Γ Δ sh cc nL own ret d) (dd : decode cc pc = .ok (.ifnonnull off, 3)) (ht : (pc : Int) + off = (tgt : Int)) (g : jG Γ Δ sh fin tgt L st μ) : jG Γ Δ sh fin pc L (jr Δ x :: st) μ := by
  obtain ⟨p, l, e, R, s, m, args, below, meth, c⟩ := Γ
  obtain ⟨hx, hb, hml, hown, hts, hlocks, hr, hR, hK, hD⟩ := X
  intro H locs ls hP hS hL
  exact lv_ifnonnull hx hb dd ht (g H locs ls hP hS hL)
theorem g_ifnonnullN {off : Int} (X : jOk Γ Δ sh cc nL own ret d) (dd : decode cc pc = .ok (.ifnonnull off, 3)) (g : jG Γ Δ sh fin (pc + 3) L st μ) : jG Γ Δ sh fin pc L (.null :: st) μ := by
  obtain ⟨p, l, e, R, s, m, args, below, meth, c⟩ := Γ
  obtain ⟨hx, hb, hml, hown, hts, hlocks, hr, hR, hK, hD⟩ := X
  intro H locs ls hP hS hL
  exact lv_ifnonnullN hx hb dd (g H locs ls hP hS hL)
theorem g_lookup {dflt : Int} {ps : Array (Int × Int)} {len : Nat} {x : Int32} {off : Int} (tgt : Nat) (X : jOk Γ Δ sh cc nL own ret d) (dd : decode cc pc = .ok (.lookupswitch dflt ps, len)) (hp : (ps.toList.zip (ps.toList.drop 1)).all (fun (a, next) => a.1 < next.1) = true) (ho : Op.lookupswitch.offset ps.toList dflt x.toInt = off) (ht : (pc : Int) + off = (tgt : Int)) (g : jG Γ Δ sh fin tgt L st μ) : jG Γ Δ sh fin pc L (.int x :: st) μ := by
  obtain ⟨p, l, e, R, s, m, args, below, meth, c⟩ := Γ
  obtain ⟨hx, hb, hml, hown, hts, hlocks, hr, hR, hK, hD⟩ := X
  intro H locs ls hP hS hL
  exact lv_lookup hx hb dd hp ho ht (g H locs ls hP hS hL)
theorem g_tblOut {dflt lo hi : Int} {offs : Array Int} {len : Nat} {x : Int32} (tgt : Nat) (X : jOk Γ Δ sh cc nL own ret d) (dd : decode cc pc = .ok (.tableswitch dflt lo hi offs, len)) (h : x.toInt < lo ∨ hi < x.toInt) (ht : (pc : Int) + dflt = (tgt : Int)) (g : jG Γ Δ sh fin tgt L st μ) : jG Γ Δ sh fin pc L (.int x :: st) μ := by
  obtain ⟨p, l, e, R, s, m, args, below, meth, c⟩ := Γ
  obtain ⟨hx, hb, hml, hown, hts, hlocks, hr, hR, hK, hD⟩ := X
  intro H locs ls hP hS hL
  exact lv_tableOut hx hb dd h ht (g H locs ls hP hS hL)
theorem g_tblIn {dflt lo hi : Int} {offs : Array Int} {len : Nat} {x : Int32} {off : Int} (tgt : Nat) (X : jOk Γ Δ sh cc nL own ret d) (dd : decode cc pc = .ok (.tableswitch dflt lo hi offs, len)) (h1 : ¬ x.toInt < lo) (h2 : ¬ hi < x.toInt) (ho : offs[(x.toInt - lo).toNat]? = some off) (ht : (pc : Int) + off = (tgt : Int)) (g : jG Γ Δ sh fin tgt L st μ) : jG Γ Δ sh fin pc L (.int x :: st) μ := by
  obtain ⟨p, l, e, R, s, m, args, below, meth, c⟩ := Γ
  obtain ⟨hx, hb, hml, hown, hts, hlocks, hr, hR, hK, hD⟩ := X
  intro H locs ls hP hS hL
  exact lv_tableIn hx hb dd h1 h2 ho ht (g H locs ls hP hS hL)
/-- a class of the table, by its number -/
def jCl (ci : Nat) (C : String) (T : u_T) (N : Nat) (ty : Nat → FieldType) : Prop := jcl[ci]? = some (C, T, N) ∧ (∀ w ∈ u_ws C T N, w ∈ jT) ∧ (∀ k, k < N → parseFieldDescriptor (T k).2.2.1 = some (ty k)) ∧ (∀ a, a < N → ∀ b, b < N → a ≠ b → (T a).2.1 ≠ (T b).2.1)
theorem jfs_get {Δ : jD} {μ : jM} {c k : Nat} {fl : List (Option Nat)} {o : Option Nat} (h : fl[k]? = some o) : (fl.mapIdx (fun k q => jfv Δ.2.2.1 μ c k q))[k]? = some (jfv Δ.2.2.1 μ c k o) := by
  simp [List.getElem?_mapIdx, h]
theorem g_getI {idx q k ci N : Nat} {C : String} {T : u_T} {ty : Nat → FieldType} {fl : List (Option Nat)} (X : jOk Γ Δ sh cc nL own ret d) (dd : decode cc pc = .ok (.getfield idx, 3)) (hc : jCl ci C T N ty) (hs : sh[q]? = some (.inl (ci, fl))) (hf : fl[k]? = some none) (hk : k < N) (hl : Cond.fieldLink own idx (T k).1 (T k).2.1 (T k).2.2.1 ∈ jT) (g : jG Γ Δ sh fin (pc + 3) L (.int (μ.1 q k) :: st) μ) : jG Γ Δ sh fin pc L (jr Δ q :: st) μ := by
  obtain ⟨p, l, e, R, s, m, args, below, meth, c⟩ := Γ
  obtain ⟨hx, hb, hml, hown, hts, hlocks, hr, hR, hK, hD⟩ := X
  intro H locs ls hP hS hL
  exact va_get (D := Δ.1) hx hb hts hc.2.1 hown hK hP q (jW_get μ hs) hc.1 k hk (hts _ hl) (fun _ h => h) (jfs_get hf) dd (g H locs ls hP hS hL)
theorem g_getR {idx q k j ci N : Nat} {C : String} {T : u_T} {ty : Nat → FieldType} {fl : List (Option Nat)} (X : jOk Γ Δ sh cc nL own ret d) (dd : decode cc pc = .ok (.getfield idx, 3)) (hc : jCl ci C T N ty) (hs : sh[q]? = some (.inl (ci, fl))) (hf : fl[k]? = some (some j)) (hk : k < N) (hl : Cond.fieldLink own idx (T k).1 (T k).2.1 (T k).2.2.1 ∈ jT) (g : jG Γ Δ sh fin (pc + 3) L (jr Δ j :: st) μ) : jG Γ Δ sh fin pc L (jr Δ q :: st) μ := by
  obtain ⟨p, l, e, R, s, m, args, below, meth, c⟩ := Γ
  obtain ⟨hx, hb, hml, hown, hts, hlocks, hr, hR, hK, hD⟩ := X
  intro H locs ls hP hS hL
  exact va_get (D := Δ.1) hx hb hts hc.2.1 hown hK hP q (jW_get μ hs) hc.1 k hk (hts _ hl) (fun _ h => h) (jfs_get hf) dd (g H locs ls hP hS hL)
theorem jent_put {cy : Nat → ClassId} {ad : Nat → Nat} {μ : jM} {q k ci : Nat} {fl : List (Option Nat)} {v : Int32} (hf : fl[k]? = some none) : jent cy ad (jsI μ q k v) q (.inl (ci, fl)) = .inr (ci, (fl.mapIdx (fun k o => jfv ad μ q k o)).set k (.int v)) := by
  show (Sum.inr (ci, fl.mapIdx (fun k1 o => jfv ad (jsI μ q k v) q k1 o)) : va_E) = Sum.inr (ci, (fl.mapIdx (fun k o => jfv ad μ q k o)).set k (.int v))
  refine congrArg (fun z => (Sum.inr (ci, z) : va_E)) ?_
  apply List.ext_getElem?
  intro i
  by_cases hi : i = k
  · subst hi
    have hl : i < fl.length := (List.getElem?_eq_some_iff.mp hf).1
    rw [List.getElem?_set_self (by simp; exact hl)]
    simp [List.getElem?_mapIdx, hf, jfv, jsI]
  · rw [List.getElem?_set_ne (Ne.symm hi)]
    simp only [List.getElem?_mapIdx]
    cases fl[i]? with
    | none => rfl
    | some o => cases o <;> simp [jfv, jsI, hi]
theorem jsI_off (μ : jM) (q k : Nat) (v : Int32) : ∀ c', c' ≠ q → (jsI μ q k v).1 c' = μ.1 c' ∧ (jsI μ q k v).2 c' = μ.2 c' := fun c' h => ⟨by funext k'; simp [jsI, h], rfl⟩
theorem jsJ_off (μ : jM) (q k : Nat) (v : Int64) : ∀ c', c' ≠ q → (jsJ μ q k v).1 c' = μ.1 c' ∧ (jsJ μ q k v).2 c' = μ.2 c' := fun c' h => ⟨rfl, by funext k'; simp [jsJ, h]⟩
theorem jcp_off (μ : jM) (c1 sp q dp n : Nat) : ∀ c', c' ≠ q → (jcp μ c1 sp q dp n).1 c' = μ.1 c' ∧ (jcp μ c1 sp q dp n).2 c' = μ.2 c' := fun c' h => ⟨by funext k'; simp [jcp, h], rfl⟩
theorem g_putI {idx q k ci N : Nat} {C : String} {T : u_T} {ty : Nat → FieldType} {fl : List (Option Nat)} {v : Int32} (X : jOk Γ Δ sh cc nL own ret d) (dd : decode cc pc = .ok (.putfield idx, 3)) (hc : jCl ci C T N ty) (hs : sh[q]? = some (.inl (ci, fl))) (hf : fl[k]? = some none) (hk : k < N) (hl : Cond.fieldLink own idx (T k).1 (T k).2.1 (T k).2.2.1 ∈ jT) (hfin : (T k).2.2.2 = false) (hn : narrow (ty k) (.int v) = .int v) (hfit : fits (ty k) (.int v) = true) (g : jG Γ Δ sh fin (pc + 3) L st (jsI μ q k v)) : jG Γ Δ sh fin pc L (.int v :: jr Δ q :: st) μ := by
  obtain ⟨p, l, e, R, s, m, args, below, meth, c⟩ := Γ
  obtain ⟨hx, hb, hml, hown, hts, hlocks, hr, hR, hK, hD⟩ := X
  intro H locs ls hP hS hL
  refine va_put (D := Δ.1) hx hb hts hc.2.1 ty hc.2.2.1 hc.2.2.2 hown hK hP (hD μ) hS q (jW_get μ hs) hc.1 k hk (hts _ hl) (fun _ h => h) hfin (hc.2.2.1 k hk) hn hfit (by simp; exact (List.getElem?_eq_some_iff.mp hf).1) dd (fun H1 locs1 hP1 hD1 hS1 => ?_)
  rw [jW_set hs (jent_put hf) (jsI_off μ q k v)] at hP1
  exact g H1 locs1 ls hP1 hS1 hL
theorem jent_i {cy : Nat → ClassId} {ad : Nat → Nat} {μ : jM} {q kd n : Nat} (h : ¬ kd = 2) : jent cy ad μ q (.inr (kd, n)) = .inl (cy kd, n, .inl (μ.1 q)) := by simp [jent, h]
theorem jent_l {cy : Nat → ClassId} {ad : Nat → Nat} {μ : jM} {q n : Nat} : jent cy ad μ q (.inr (2, n)) = .inl (cy 2, n, .inr (.inl (μ.2 q))) := by simp [jent]
theorem jsI_upd (μ : jM) (q k : Nat) (v : Int32) : (jsI μ q k v).1 q = upd (μ.1 q) k v := by funext j; by_cases h : j = k <;> simp [jsI, upd, h]
theorem jsJ_upd (μ : jM) (q k : Nat) (v : Int64) : (jsJ μ q k v).2 q = vp_updL (μ.2 q) k v := by funext j; by_cases h : j = k <;> simp [jsJ, vp_updL, h]
theorem jcp_upd (μ : jM) (c1 sp q dp n : Nat) : (jcp μ c1 sp q dp n).1 q = va_cpy (μ.1 c1) (μ.1 q) sp dp n := by funext j; simp [jcp]
theorem g_iald {q n : Nat} {i : Int32} (X : jOk Γ Δ sh cc nL own ret d) (dd : decode cc pc = .ok (.iaload, 1)) (hs : sh[q]? = some (.inr (0, n))) (hin : vp_in i n) (g : jG Γ Δ sh fin (pc + 1) L (.int (μ.1 q i.toNatClampNeg) :: st) μ) : jG Γ Δ sh fin pc L (.int i :: jr Δ q :: st) μ := by
  obtain ⟨p, l, e, R, s, m, args, below, meth, c⟩ := Γ
  obtain ⟨hx, hb, hml, hown, hts, hlocks, hr, hR, hK, hD⟩ := X
  intro H locs ls hP hS hL
  exact va_iald hx hb hK hP q 0 ((jW_get μ hs).trans (by rw [jent_i (by decide)])) rfl hin dd (g H locs ls hP hS hL)
theorem g_bald {q n : Nat} {i : Int32} (X : jOk Γ Δ sh cc nL own ret d) (dd : decode cc pc = .ok (.baload, 1)) (hs : sh[q]? = some (.inr (1, n))) (hin : vp_in i n) (g : jG Γ Δ sh fin (pc + 1) L (.int (μ.1 q i.toNatClampNeg) :: st) μ) : jG Γ Δ sh fin pc L (.int i :: jr Δ q :: st) μ := by
  obtain ⟨p, l, e, R, s, m, args, below, meth, c⟩ := Γ
  obtain ⟨hx, hb, hml, hown, hts, hlocks, hr, hR, hK, hD⟩ := X
  intro H locs ls hP hS hL
  exact va_bald hx hb hK hP q 1 ((jW_get μ hs).trans (by rw [jent_i (by decide)])) rfl hin dd (g H locs ls hP hS hL)
theorem g_lald {q n : Nat} {i : Int32} (X : jOk Γ Δ sh cc nL own ret d) (dd : decode cc pc = .ok (.laload, 1)) (hs : sh[q]? = some (.inr (2, n))) (hin : vp_in i n) (g : jG Γ Δ sh fin (pc + 1) L (.long (μ.2 q i.toNatClampNeg) :: st) μ) : jG Γ Δ sh fin pc L (.int i :: jr Δ q :: st) μ := by
  obtain ⟨p, l, e, R, s, m, args, below, meth, c⟩ := Γ
  obtain ⟨hx, hb, hml, hown, hts, hlocks, hr, hR, hK, hD⟩ := X
  intro H locs ls hP hS hL
  exact va_lald hx hb hK hP q 2 ((jW_get μ hs).trans (by rw [jent_l])) rfl hin dd (g H locs ls hP hS hL)
theorem g_iast {q n : Nat} {i x : Int32} (X : jOk Γ Δ sh cc nL own ret d) (dd : decode cc pc = .ok (.iastore, 1)) (hs : sh[q]? = some (.inr (0, n))) (hin : vp_in i n) (g : jG Γ Δ sh fin (pc + 1) L st (jsI μ q i.toNatClampNeg x)) : jG Γ Δ sh fin pc L (.int x :: .int i :: jr Δ q :: st) μ := by
  obtain ⟨p, l, e, R, s, m, args, below, meth, c⟩ := Γ
  obtain ⟨hx, hb, hml, hown, hts, hlocks, hr, hR, hK, hD⟩ := X
  intro H locs ls hP hS hL
  refine va_iast hx hb hK hP (hD μ) hS q 0 ((jW_get μ hs).trans (by rw [jent_i (by decide)])) rfl hin dd (fun H1 locs1 hP1 hD1 hS1 => ?_)
  rw [jW_set hs (by rw [jent_i (by decide), jsI_upd]) (jsI_off μ q i.toNatClampNeg x)] at hP1
  exact g H1 locs1 ls hP1 hS1 hL
theorem g_bast {q n : Nat} {i x : Int32} (X : jOk Γ Δ sh cc nL own ret d) (dd : decode cc pc = .ok (.bastore, 1)) (hs : sh[q]? = some (.inr (1, n))) (hin : vp_in i n) (g : jG Γ Δ sh fin (pc + 1) L st (jsI μ q i.toNatClampNeg x.toInt8.toInt32)) : jG Γ Δ sh fin pc L (.int x :: .int i :: jr Δ q :: st) μ := by
  obtain ⟨p, l, e, R, s, m, args, below, meth, c⟩ := Γ
  obtain ⟨hx, hb, hml, hown, hts, hlocks, hr, hR, hK, hD⟩ := X
  intro H locs ls hP hS hL
  refine va_bast hx hb hK hP (hD μ) hS q 1 ((jW_get μ hs).trans (by rw [jent_i (by decide)])) rfl hin dd (fun H1 locs1 hP1 hD1 hS1 => ?_)
  rw [vp_nar_byte, jW_set hs (by rw [jent_i (by decide), jsI_upd]) (jsI_off μ q i.toNatClampNeg x.toInt8.toInt32)] at hP1
  exact g H1 locs1 ls hP1 hS1 hL
theorem g_last {q n : Nat} {i : Int32} {x : Int64} (X : jOk Γ Δ sh cc nL own ret d) (dd : decode cc pc = .ok (.lastore, 1)) (hs : sh[q]? = some (.inr (2, n))) (hin : vp_in i n) (g : jG Γ Δ sh fin (pc + 1) L st (jsJ μ q i.toNatClampNeg x)) : jG Γ Δ sh fin pc L (.long x :: .int i :: jr Δ q :: st) μ := by
  obtain ⟨p, l, e, R, s, m, args, below, meth, c⟩ := Γ
  obtain ⟨hx, hb, hml, hown, hts, hlocks, hr, hR, hK, hD⟩ := X
  intro H locs ls hP hS hL
  refine va_last hx hb hK hP (hD μ) hS q 2 ((jW_get μ hs).trans (by rw [jent_l])) rfl hin dd (fun H1 locs1 hP1 hD1 hS1 => ?_)
  rw [jW_set hs (by rw [jent_l, jsJ_upd]) (jsJ_off μ q i.toNatClampNeg x)] at hP1
  exact g H1 locs1 ls hP1 hS1 hL
theorem g_alen {q kd n : Nat} (X : jOk Γ Δ sh cc nL own ret d) (dd : decode cc pc = .ok (.arraylength, 1)) (hs : sh[q]? = some (.inr (kd, n))) (hkd : kd < 3) (g : jG Γ Δ sh fin (pc + 1) L (.int (Int32.ofNat n) :: st) μ) : jG Γ Δ sh fin pc L (jr Δ q :: st) μ := by
  obtain ⟨p, l, e, R, s, m, args, below, meth, c⟩ := Γ
  obtain ⟨hx, hb, hml, hown, hts, hlocks, hr, hR, hK, hD⟩ := X
  intro H locs ls hP hS hL
  rcases (show kd = 0 ∨ kd = 1 ∨ kd = 2 by omega) with rfl | rfl | rfl
  · exact va_alen hx hb hK hP q 0 (x := (n, _)) (jW_get μ hs) (ty := .int) rfl rfl dd (g H locs ls hP hS hL)
  · exact va_alen hx hb hK hP q 1 (x := (n, _)) (jW_get μ hs) (ty := .byte) rfl rfl dd (g H locs ls hP hS hL)
  · exact va_alen hx hb hK hP q 2 (x := (n, _)) (jW_get μ hs) (ty := .long) rfl rfl dd (g H locs ls hP hS hL)
-- ends
theorem g_iret {v r : Int32} {μ' : jM} (X : jOk Γ Δ sh cc nL own (some .int) d) (dd : decode cc pc = .ok (.ireturn, 1)) (hf : some (v, μ) = some (r, μ')) : jG Γ Δ sh (some (.int r), μ') pc L [.int v] μ := by
  cases hf
  obtain ⟨p, l, e, R, s, m, args, below, meth, c⟩ := Γ
  obtain ⟨hx, hb, hml, hown, hts, hlocks, hr, hR, hK, hD⟩ := X
  intro H locs ls hP hS hL
  exact W.iret hx hb hr (fun t ht hW => ⟨rfl, by rw [ht]; exact hP, hS.F ht⟩) hS.2.2 dd (hlocks := hlocks)
theorem g_zret {v r : Int32} {μ' : jM} (X : jOk Γ Δ sh cc nL own (some .boolean) d) (dd : decode cc pc = .ok (.ireturn, 1)) (hv : v = 0 ∨ v = 1) (hf : some (v, μ) = some (r, μ')) : jG Γ Δ sh (some (.int r), μ') pc L [.int v] μ := by
  cases hf
  obtain ⟨p, l, e, R, s, m, args, below, meth, c⟩ := Γ
  obtain ⟨hx, hb, hml, hown, hts, hlocks, hr, hR, hK, hD⟩ := X
  intro H locs ls hP hS hL
  exact W.zret hx hb hr (by rcases hv with rfl | rfl <;> rfl) (fun t ht hW => ⟨rfl, by rw [ht]; exact hP, hS.F ht⟩) hS.2.2 dd (hlocks := hlocks)
theorem g_lret {v r : Int64} {μ' : jM} (X : jOk Γ Δ sh cc nL own (some .long) d) (dd : decode cc pc = .ok (.lreturn, 1)) (hf : some (v, μ) = some (r, μ')) : jG Γ Δ sh (some (.long r), μ') pc L [.long v] μ := by
  cases hf
  obtain ⟨p, l, e, R, s, m, args, below, meth, c⟩ := Γ
  obtain ⟨hx, hb, hml, hown, hts, hlocks, hr, hR, hK, hD⟩ := X
  intro H locs ls hP hS hL
  exact W.lret hx hb hr (fun t ht hW => ⟨rfl, by rw [ht]; exact hP, hS.F ht⟩) hS.2.2 dd (hlocks := hlocks)
theorem g_vret {u : Unit} {μ' : jM} (X : jOk Γ Δ sh cc nL own none d) (dd : decode cc pc = .ok (.return_, 1)) (hf : some ((), μ) = some (u, μ')) : jG Γ Δ sh (none, μ') pc L [] μ := by
  cases hf
  obtain ⟨p, l, e, R, s, m, args, below, meth, c⟩ := Γ
  obtain ⟨hx, hb, hml, hown, hts, hlocks, hr, hR, hK, hD⟩ := X
  intro H locs ls hP hS hL
  exact W.vret hx hb hr (fun t ht hW => ⟨rfl, by rw [ht]; exact hP, hS.F ht⟩) hS.2.2 dd (hlocks := hlocks)
/-- a fixed cell, or null, as an answer -/
def jrq (Δ : jD) (o : Option Nat) : Value := match o with
  | none => .null
  | some q => jr Δ q
theorem g_aret {o r : Option Nat} {n : String} {μ' : jM} (X : jOk Γ Δ sh cc nL own (some (.object n)) d) (dd : decode cc pc = .ok (.areturn, 1)) (hf : some (o, μ) = some (r, μ')) : jG Γ Δ sh (some (jrq Δ r), μ') pc L [jrq Δ o] μ := by
  cases hf
  obtain ⟨p, l, e, R, s, m, args, below, meth, c⟩ := Γ
  obtain ⟨hx, hb, hml, hown, hts, hlocks, hr, hR, hK, hD⟩ := X
  intro H locs ls hP hS hL
  exact W.aret hx hb hr (Or.inl ⟨_, rfl⟩) (by cases o with | none => exact Or.inl rfl | some q => exact Or.inr ⟨_, rfl⟩) (fun t ht hW => ⟨rfl, by rw [ht]; exact hP, hS.F ht⟩) hS.2.2 dd (hlocks := hlocks)
-- calls
def jMet (l : Launch) (y : MethodName) (bytes : ByteArray) (maxL : Nat) (ret : Option FieldType) (d : Nat) (Δ : jD) (sh : List jS) (av : List Value) (μ : jM) (fin : Option Value × jM) : Prop :=
  Met l y (.code y bytes maxL ret :: jT) (jRm d) (va_Pc av (fun U => va_P Δ.1 jcl (jW Δ.2.1 Δ.2.2.1 sh μ) U.heap ∧ va_K Δ.1 jcl (jtys Δ.2.1) U)) (jQc Δ sh fin) 0 0 Δ.2.2.2
def jentry (av : List Value) (n : Nat) : List (Option Value) := let a := av.flatMap (fun v => if v.category = 2 then [some v, none] else [some v]); a ++ List.replicate (n - a.length) none
theorem jentry_args (av : List Value) (pre : List (Option Value)) (k : Nat) : ∀ (i : Nat) (v : Value), ((pre ++ av.flatMap (fun v => if v.category = 2 then [some v, none] else [some v]) ++ List.replicate k none)[i]? = some (some v)) → pre.length ≤ i → (i, v) ∈ lv_args pre.length av := by
  induction av generalizing pre with
  | nil =>
    intro i v h hi
    simp only [List.flatMap_nil, List.append_nil] at h
    rw [List.getElem?_append_right hi, List.getElem?_replicate] at h
    split at h <;> simp at h
  | cons a av ih =>
    intro i v h hi
    by_cases ha : a.category = 2
    · simp only [List.flatMap_cons, ha, if_pos] at h
      by_cases h0 : i = pre.length
      · subst h0
        have : some (some a) = some (some v) := by rw [← h]; simp
        cases this
        simp [lv_args]
      · by_cases h1 : i = pre.length + 1
        · subst h1
          have : some (none : Option Value) = some (some v) := by rw [← h]; simp [List.getElem?_append]
          cases this
        · have := ih (pre ++ [some a, none]) i v (by simpa using h) (by simp; omega)
          simp only [List.length_append, List.length_cons, List.length_nil] at this
          simp only [lv_args, ha, if_pos]
          exact List.mem_cons_of_mem _ this
    · simp only [List.flatMap_cons, ha, if_neg, not_false_eq_true] at h
      by_cases h0 : i = pre.length
      · subst h0
        have : some (some a) = some (some v) := by rw [← h]; simp
        cases this
        simp [lv_args]
      · have := ih (pre ++ [some a]) i v (by simpa using h) (by simp; omega)
        simp only [List.length_append, List.length_cons, List.length_nil] at this
        simp only [lv_args, ha, if_neg, not_false_eq_true]
        exact List.mem_cons_of_mem _ this
theorem jentry_len (av : List Value) : (av.flatMap (fun v => if v.category = 2 then [some v, none] else [some v])).length = (lg_sl av).length := by
  induction av with
  | nil => rfl
  | cons a av ih =>
    simp only [List.flatMap_cons, List.length_append, ih, lg_sl]
    by_cases ha : a.category = 2 <;> simp [ha]
/-- a method's contract out of its walk -/
theorem jMet_of {l : Launch} {y : MethodName} {av : List Value} (hy : plainName y.cls = true) (hown : y.cls = own) (hn : (lg_sl av).length ≤ nL) (hL : jentry av nL = L) (hsep : ∀ μ, va_D Δ.2.2.2 (jW Δ.2.1 Δ.2.2.1 sh μ))
    (body : ∀ Γ : jC, Γ.2.1 = l → jOk Γ Δ sh cc nL own ret d → jG Γ Δ sh fin 0 L [] μ) : jMet l y cc nL ret d Δ sh av μ fin := by
  refine Met.ofW (cc := cc) (maxL := nL) (ret := ret) hy rfl ?_
  intro p e s m args below meth c s₁ B hml hv
  obtain ⟨rfl, hP, hK⟩ := hv
  have hts := atoms_spec (ws := .code y cc nL ret :: jT) B.pre
  have hw : s.vm.findClass own = some m.cls := by rw [← hown]; exact findClass_of_methodNamed B.named
  have hl := lv_entry av (n := nL) hn
  rw [lg_entry_eq]
  refine body (p, l, e, jRm d, s, m, av.toArray, below, meth, c) rfl ⟨B.exec, B.bytes, hml, hw, fun w h => hts w (List.mem_cons_of_mem _ h), B.notSynchronized, B.returns, rfl, hK, hsep⟩ s.heap [] _ hP va_S.rf ⟨?_, hl.2.1, fun i v hi => ?_⟩
  · rw [hl.1, ← hL]
    have := jentry_len av
    simp only [jentry, List.length_append, List.length_replicate]
    omega
  · rw [← hL] at hi
    have h2 := jentry_args av [] (nL - (av.flatMap (fun v => if v.category = 2 then [some v, none] else [some v])).length) i v (by simpa [jentry] using hi) (Nat.zero_le _)
    exact hl.2.2 (i, v) h2
/-- what the tables say of a method; what a place that calls it needs -/
def jY (y : MethodName) (bytes : ByteArray) (maxL : Nat) (ret : Option FieldType) (n : Nat) : Prop := Cond.code y bytes maxL ret ∈ jT ∧ Cond.initialized y.cls ∈ jT ∧ y.cls ≠ "java/lang/invoke/MethodHandle" ∧ y.cls ≠ "java/lang/invoke/VarHandle" ∧ (parseMethodDescriptor y.desc).map (fun d => d.parameters.length) = some n ∧ maxL ≤ 40
theorem jT_goodIn {ws : List Cond} (h : ∀ w ∈ ws, w ∈ jT) : GoodIn jT ws := fun w hw => ⟨h w hw, good_of_word (List.mem_filter.mp (h w hw)).2⟩
theorem jblind {av : List Value} {μ : jM} {Δ : jD} {sh : List jS} : FrameBlind (va_Pc av (fun U => va_P Δ.1 jcl (jW Δ.2.1 Δ.2.2.1 sh μ) U.heap ∧ va_K Δ.1 jcl (jtys Δ.2.1) U)) := fun a U g mk q => by
  obtain ⟨q0, qP, qK⟩ := q
  exact ⟨q0, qP, va_K.moved (u := U) (U := U.calling g mk a) (Vm.Alike.refl U.vm) qK⟩
theorem j_back {p : Program} {l : Launch} {e : Env} {R : Room} {s : State} {m : MethodId} {args : Array Value} {below : List Frame} {meth : Method} {c : Code} {H : Heap} {locs : List Loc} {Q : State → Prop} {ls : Array Slot} {rest st0 : List Value} {a : Array Value} {fin1 : Option Value × jM}
    (hr : va_Run p l e R s m args below meth c H locs 0 0 0 0 (F0 m pc ls st0) rest (jQc Δ sh fin1 a) Δ.2.2.2) (hS : va_S Δ.2.2.2 s.heap H locs)
    (kk : ∀ (H1 : Heap) (locs1 : List Loc), va_P Δ.1 jcl (jW Δ.2.1 Δ.2.2.1 sh fin1.2) H1 → va_S Δ.2.2.2 s.heap H1 locs1 → W p l e R s m args below meth c H1 locs1 0 0 Q (F0 m (pc + 3) ls (fin1.1.toList ++ rest))) : W p l e R s m args below meth c H locs 0 0 Q (F0 m pc ls st0) := by
  intro T hT X
  obtain ⟨v, st₀, t, T', L, h0, X', hL, e1, e2, ⟨hv, hp, hz, hk⟩, st⟩ := hr T hT X
  cases hv
  rw [h0] at hz hk
  obtain ⟨t2, a1, b1⟩ := kk T'.heap (locs ++ L) (by rw [e1]; exact hp)
    ⟨Nat.le_trans hS.1 (by rw [e1]; exact hz), fun q h1 h2 => by rw [e1, hk q (Nat.lt_of_lt_of_le h1 hS.1) h2]; exact hS.2.1 q h1 h2, fun q hq => by
      rcases List.mem_append.mp hq with h | h
      · exact hS.2.2 q h
      · exact hL q h⟩ T' rfl X'
  exact ⟨t2, st t2 a1, b1⟩
theorem g_callV {idx n d1 q ci N : Nat} {C : String} {T : u_T} {ty : Nat → FieldType} {fl : List (Option Nat)} {y : MethodName} {bytes : ByteArray} {maxL : Nat} {ret1 : Option FieldType} {fin1 : Option Value × jM} {st0 : List Value} (As : List Value) (X : jOk Γ Δ sh cc nL own ret d) (dd : decode cc pc = .ok (.invokevirtual idx, 3)) (hM : jMet Γ.2.1 y bytes maxL ret1 d1 Δ sh (jr Δ q :: As) μ fin1) (hY : jY y bytes maxL ret1 n) (hlink : Cond.methodLink own idx y ∈ jT) (hsel : Cond.selects y.cls y y ∈ jT) (hin : Cond.instanceMethod y ∈ jT) (hc : jCl ci C T N ty) (hC : y.cls = C) (hs : sh[q]? = some (.inl (ci, fl))) (hd : d1 < d) (hn : As.length = n) (hLn : L.length = nL) (hrest : (st.map fun v => v.category).sum ≤ 8) (hst : st0 = As.reverse ++ jr Δ q :: st)
    (g : jG Γ Δ sh fin (pc + 3) L (fin1.1.toList ++ st) fin1.2) : jG Γ Δ sh fin pc L st0 μ := by
  obtain ⟨p, l, e, R, s, m, args, below, meth, c⟩ := Γ
  obtain ⟨hx, hb, hml, hown, hts, hlocks, hr, hR, hK, hD⟩ := X
  subst hC
  subst hR
  intro H locs ls hP hS hL
  obtain ⟨y1, y2, y3, y4, y5, y6⟩ := hY
  refine j_back (va_runV (C := y.cls) (As := As) (rest := st) ⟨hx, hb, hml, hown, hts⟩ hM (cwV (bytes := bytes) (maxL := maxL) (ret := ret1) (ws' := jT) n hts (jT_goodIn (fun w hw => ?_)) rfl rfl rfl ⟨rfl, y3, y4, y5⟩ ⟨?_, ?_⟩) ⟨jblind, ?_, fun U hU hW => ⟨rfl, by rw [hU]; exact hP, va_K.moved hW.alike hK⟩⟩ rfl hn (by rw [← hLn]; exact hL.1) hst (lv_room hrest) dd ⟨Nat.zero_le _, Nat.zero_le _⟩) hS (fun H1 locs1 hP1 hS1 => g H1 locs1 ls hP1 hS1 hL)
  · simp only [wsV, List.cons_append, List.nil_append, List.mem_cons] at hw
    rcases hw with rfl | rfl | rfl | rfl | rfl | hw
    · exact hlink
    · exact hin
    · exact hsel
    · exact y2
    · exact y1
    · exact hw
  · show d1 + 1 ≤ d
    omega
  · show 8 + (maxL + 11) + 60 * d1 ≤ 60 * d
    omega
  · exact va_recv hK hP hc.1 (jW_get μ hs)
theorem g_callS {idx n d1 : Nat} {y : MethodName} {bytes : ByteArray} {maxL : Nat} {ret1 : Option FieldType} {fin1 : Option Value × jM} {st0 : List Value} (As : List Value) (X : jOk Γ Δ sh cc nL own ret d) (dd : decode cc pc = .ok (.invokestatic idx, 3)) (hM : jMet Γ.2.1 y bytes maxL ret1 d1 Δ sh As μ fin1) (hY : jY y bytes maxL ret1 n) (hlink : Cond.methodLink own idx y ∈ jT) (hstat : Cond.static y ∈ jT) (hd : d1 < d) (hn : As.length = n) (hLn : L.length = nL) (hrest : (st.map fun v => v.category).sum ≤ 8) (hst : st0 = As.reverse ++ st)
    (g : jG Γ Δ sh fin (pc + 3) L (fin1.1.toList ++ st) fin1.2) : jG Γ Δ sh fin pc L st0 μ := by
  obtain ⟨p, l, e, R, s, m, args, below, meth, c⟩ := Γ
  obtain ⟨hx, hb, hml, hown, hts, hlocks, hr, hR, hK, hD⟩ := X
  subst hR
  intro H locs ls hP hS hL
  obtain ⟨y1, y2, y3, y4, y5, y6⟩ := hY
  refine j_back (va_runS (As := As) (rest := st) ⟨hx, hb, hml, hown, hts⟩ hM ⟨callB_of (bytes := bytes) (maxL := maxL) (ret := ret1) (ws' := jT) n hts (jT_goodIn (fun w hw => ?_)) rfl rfl rfl (hts _ y2) (hts _ hlink) ⟨y3, y4, y5⟩ ⟨?_, ?_⟩, hts _ hstat⟩ ⟨jblind, fun U hU hW => ⟨rfl, by rw [hU]; exact hP, va_K.moved hW.alike hK⟩⟩ rfl hn (by rw [← hLn]; exact hL.1) hst (lv_room hrest) dd ⟨Nat.zero_le _, Nat.zero_le _⟩) hS (fun H1 locs1 hP1 hS1 => g H1 locs1 ls hP1 hS1 hL)
  · rcases List.mem_cons.mp hw with rfl | hw
    · exact y1
    · exact hw
  · show d1 + 1 ≤ d
    omega
  · show 8 + (maxL + 11) + 60 * d1 ≤ 60 * d
    omega
theorem g_min {idx : Nat} {x y : Int32} (X : jOk Γ Δ sh cc nL own ret d) (dd : decode cc pc = .ok (.invokestatic idx, 3)) (h1 : Cond.methodLink own idx Lib.Math.min.name ∈ jT) (h2 : Cond.static Lib.Math.min.name ∈ jT) (h3 : Cond.initialized "java/lang/Math" ∈ jT) (h4 : Cond.code Lib.Math.min.name Lib.Math.min.code 2 (some .int) ∈ jT) (hd : 1 ≤ d) (hLn : L.length = nL) (hrest : (st.map fun v => v.category).sum ≤ 8) (g : jG Γ Δ sh fin (pc + 3) L (.int (if y < x then y else x) :: st) μ) : jG Γ Δ sh fin pc L (.int y :: .int x :: st) μ := by
  obtain ⟨p, l, e, R, s, m, args, below, meth, c⟩ := Γ
  obtain ⟨hx, hb, hml, hown, hts, hlocks, hr, hR, hK, hD⟩ := X
  subst hR
  intro H locs ls hP hS hL
  exact va_mmin hx hb (by rw [hml, ← hLn]; exact hL.1.symm) hown (hts _ h1) (hts _ h2) (hts _ h3) (hts _ h4) hd (by show _ + 13 ≤ 60 * d; omega) (Nat.zero_le _) (Nat.zero_le _) dd (g H locs ls hP hS hL)
theorem g_max {idx : Nat} {x y : Int32} (X : jOk Γ Δ sh cc nL own ret d) (dd : decode cc pc = .ok (.invokestatic idx, 3)) (h1 : Cond.methodLink own idx Lib.Math.max.name ∈ jT) (h2 : Cond.static Lib.Math.max.name ∈ jT) (h3 : Cond.initialized "java/lang/Math" ∈ jT) (h4 : Cond.code Lib.Math.max.name Lib.Math.max.code 2 (some .int) ∈ jT) (hd : 1 ≤ d) (hLn : L.length = nL) (hrest : (st.map fun v => v.category).sum ≤ 8) (g : jG Γ Δ sh fin (pc + 3) L (.int (if x < y then y else x) :: st) μ) : jG Γ Δ sh fin pc L (.int y :: .int x :: st) μ := by
  obtain ⟨p, l, e, R, s, m, args, below, meth, c⟩ := Γ
  obtain ⟨hx, hb, hml, hown, hts, hlocks, hr, hR, hK, hD⟩ := X
  subst hR
  intro H locs ls hP hS hL
  exact va_mmax hx hb (by rw [hml, ← hLn]; exact hL.1.symm) hown (hts _ h1) (hts _ h2) (hts _ h3) (hts _ h4) hd (by show _ + 13 ≤ 60 * d; omega) (Nat.zero_le _) (Nat.zero_le _) dd (g H locs ls hP hS hL)
/-- a copy of bytes that goes wholly in -/
def jcpOk (μ : jM) (c1 n0 n1 : Nat) (sp dp n : Int32) : Prop := ¬ sp < 0 ∧ ¬ dp < 0 ∧ ¬ n < 0 ∧ sp.toNatClampNeg + n.toNatClampNeg ≤ n0 ∧ dp.toNatClampNeg + n.toNatClampNeg ≤ n1 ∧ ∀ i, i < n.toNatClampNeg → fits .byte (.int (μ.1 c1 (sp.toNatClampNeg + i))) = true
theorem g_copy {idx c1 c2 n0 n1 : Nat} {sp dp n : Int32} (X : jOk Γ Δ sh cc nL own ret d) (dd : decode cc pc = .ok (.invokestatic idx, 3)) (w1 : Cond.methodLink own idx arraycopyName ∈ jT) (w2 : Cond.native arraycopyName ∈ jT) (w3 : Cond.static arraycopyName ∈ jT) (w4 : Cond.initialized "java/lang/System" ∈ jT) (hd : 1 ≤ d) (hLn : L.length = nL) (hrest : (st.map fun v => v.category).sum ≤ 8) (hs1 : sh[c1]? = some (.inr (1, n0))) (hs2 : sh[c2]? = some (.inr (1, n1))) (h : jcpOk μ c1 n0 n1 sp dp n) (g : jG Γ Δ sh fin (pc + 3) L st (jcp μ c1 sp.toNatClampNeg c2 dp.toNatClampNeg n.toNatClampNeg)) : jG Γ Δ sh fin pc L (.int n :: .int dp :: jr Δ c2 :: .int sp :: jr Δ c1 :: st) μ := by
  obtain ⟨p, l, e, R, s, m, args, below, meth, c⟩ := Γ
  obtain ⟨hx, hb, hml, hown, hts, hlocks, hr, hR, hK, hD⟩ := X
  subst hR
  intro H locs ls hP hS hL
  obtain ⟨h1, h2, h3, h4, h5, h6⟩ := h
  refine va_copyi hx hb (by rw [hml, ← hLn]; exact hL.1.symm) hown (hts _ w1) (hts _ w2) (hts _ w3) (hts _ w4) hK hP (hD μ) hS c1 c2 1 1 ((jW_get μ hs1).trans (by rw [jent_i (by decide)])) ((jW_get μ hs2).trans (by rw [jent_i (by decide)])) rfl rfl rfl h1 h2 h3 h4 h5 h6 hd ?_ dd (fun H1 locs1 hP1 hD1 hS1 => ?_)
  · show _ + (nativeFrameWords "java/lang/System" "arraycopy" 5 + 11) ≤ 60 * d
    have : nativeFrameWords "java/lang/System" "arraycopy" 5 + 11 ≤ 52 := by decide +kernel
    omega
  · rw [jW_set hs2 (by rw [jent_i (by decide), jcp_upd]) (jcp_off μ c1 sp.toNatClampNeg c2 dp.toNatClampNeg n.toNatClampNeg)] at hP1
    exact g H1 locs1 ls hP1 hS1 hL
-- the words of a method's program
def jlet {α β : Type} (a : α) (k : α → Option β) : Option β := k a
def jcall {ρ β : Type} (a : Option (ρ × jM)) (k : ρ → jM → Option β) : Option β := match a with
  | none => none
  | some (r, μ) => k r μ
def jin {β : Type} (i : Int32) (n : Nat) (k : Option β) : Option β := if 0 ≤ i.toInt ∧ i.toInt < n then k else none
def jnz {β : Type} (y : Int32) (k : Option β) : Option β := if y = 0 then none else k
def jbl {β : Type} (v : Int32) (k : Option β) : Option β := if v = 0 ∨ v = 1 then k else none
noncomputable def jck {β : Type} (P : Prop) (k : Option β) : Option β := @ite _ P (Classical.propDecidable P) k none
theorem jlet_i {α β : Type} {a x : α} {k : α → Option β} {r : β} (hx : x = a) (h : jlet a k = some r) : k x = some r := by subst hx; exact h
theorem jcall_i {ρ β : Type} {a : Option (ρ × jM)} {k : ρ → jM → Option β} {r : β} (h : jcall a k = some r) : ∃ (v : ρ) (μ : jM), a = some (v, μ) ∧ k v μ = some r := by
  cases a with
  | none => cases h
  | some q => exact ⟨q.1, q.2, rfl, h⟩
theorem jin_i {β : Type} {i : Int32} {n : Nat} {k : Option β} {r : β} (h : jin i n k = some r) : vp_in i n ∧ k = some r := by
  unfold jin at h
  split at h
  · exact ⟨vp_in_iff.mpr (by assumption), h⟩
  · cases h
theorem jnz_i {β : Type} {y : Int32} {k : Option β} {r : β} (h : jnz y k = some r) : ¬ y = 0 ∧ k = some r := by
  unfold jnz at h
  split at h
  · cases h
  · exact ⟨by assumption, h⟩
theorem jbl_i {β : Type} {v : Int32} {k : Option β} {r : β} (h : jbl v k = some r) : (v = 0 ∨ v = 1) ∧ k = some r := by
  unfold jbl at h
  split at h
  · exact ⟨by assumption, h⟩
  · cases h
theorem jck_i {β : Type} {P : Prop} {k : Option β} {r : β} (h : jck P k = some r) : P ∧ k = some r := by
  unfold jck at h
  split at h
  · exact ⟨by assumption, h⟩
  · cases h
theorem jt_i {β : Type} {c : Prop} {inst : Decidable c} {a b : Option β} {r : β} (hc : c) (h : @ite _ c inst a b = some r) : a = some r := by rwa [if_pos hc] at h
theorem jf_i {β : Type} {c : Prop} {inst : Decidable c} {a b : Option β} {r : β} (hc : ¬ c) (h : @ite _ c inst a b = some r) : b = some r := by rwa [if_neg hc] at h
theorem jb_n {v : Int32} (h : v = 0 ∨ v = 1) : narrow .boolean (.int v) = .int v := by rcases h with rfl | rfl <;> rfl
theorem jb_f {v : Int32} (h : v = 0 ∨ v = 1) : fits .boolean (.int v) = true := by rcases h with rfl | rfl <;> rfl
-- names for values; fewer locals; the calls by the kind of their answer
theorem g_nmI {x : Int32} (k : ∀ y : Int32, y = x → jG Γ Δ sh fin pc L (.int y :: st) μ) : jG Γ Δ sh fin pc L (.int x :: st) μ := k x rfl
theorem g_nmJ {x : Int64} (k : ∀ y : Int64, y = x → jG Γ Δ sh fin pc L (.long y :: st) μ) : jG Γ Δ sh fin pc L (.long x :: st) μ := k x rfl
theorem g_nmM (k : ∀ ν : jM, ν = μ → jG Γ Δ sh fin pc L st ν) : jG Γ Δ sh fin pc L st μ := k μ rfl
theorem g_qN (g : jG Γ Δ sh fin pc L (.null :: st) μ) : jG Γ Δ sh fin pc L (jrq Δ none :: st) μ := g
theorem g_qS {q : Nat} (g : jG Γ Δ sh fin pc L (jr Δ q :: st) μ) : jG Γ Δ sh fin pc L (jrq Δ (some q) :: st) μ := g
def jsub : List (Option Value) → List (Option Value) → Prop
  | [], [] => True
  | none :: a, _ :: b => jsub a b
  | some v :: a, some w :: b => v = w ∧ jsub a b
  | _, _ => False
theorem jsub_spec : ∀ {a b : List (Option Value)}, jsub a b → a.length = b.length ∧ ∀ (i : Nat) (v : Value), a[i]? = some (some v) → b[i]? = some (some v)
  | [], [], _ => ⟨rfl, fun i v h => by simp at h⟩
  | none :: a, x :: b, h => by
    obtain ⟨h1, h2⟩ := jsub_spec (a := a) (b := b) (by cases x <;> exact h)
    refine ⟨by simp [h1], fun i v hi => ?_⟩
    cases i with
    | zero => simp at hi
    | succ i => exact h2 i v (by simpa using hi)
  | some v :: a, some w :: b, h => by
    obtain ⟨h0, h⟩ := h
    subst h0
    obtain ⟨h1, h2⟩ := jsub_spec (a := a) (b := b) h
    refine ⟨by simp [h1], fun i u hi => ?_⟩
    cases i with
    | zero => simpa using hi
    | succ i => exact h2 i u (by simpa using hi)
  | [], _ :: _, h => h.elim
  | none :: _, [], h => h.elim
  | some _ :: _, [], h => h.elim
  | some _ :: _, none :: _, h => h.elim
theorem g_weak {Lt : List (Option Value)} (g : jG Γ Δ sh fin pc Lt st μ) (h : jsub Lt L) : jG Γ Δ sh fin pc L st μ := by
  obtain ⟨p, l, e, R, s, m, args, below, meth, c⟩ := Γ
  intro H locs ls hP hS hL
  obtain ⟨h1, h2⟩ := jsub_spec h
  exact g H locs ls hP hS ⟨by rw [h1]; exact hL.1, hL.2.1, fun i v hi => hL.2.2 i v (h2 i v hi)⟩
def jSep (Δ : jD) (sh : List jS) : Prop := ∀ μ, va_D Δ.2.2.2 (jW Δ.2.1 Δ.2.2.1 sh μ)
theorem jOk_sep (X : jOk Γ Δ sh cc nL own ret d) : jSep Δ sh := by
  obtain ⟨p, l, e, R, s, m, args, below, meth, c⟩ := Γ
  exact X.2.2.2.2.2.2.2.2.2
theorem g_callVi {v : Int32} {idx n d1 q ci N : Nat} {C : String} {T : u_T} {ty : Nat → FieldType} {fl : List (Option Nat)} {y : MethodName} {bytes : ByteArray} {maxL : Nat} {ret1 : Option FieldType} {μ1 : jM} {st0 : List Value} (As : List Value) (X : jOk Γ Δ sh cc nL own ret d) (dd : decode cc pc = .ok (.invokevirtual idx, 3)) (hM : jMet Γ.2.1 y bytes maxL ret1 d1 Δ sh (jr Δ q :: As) μ (some (.int v), μ1)) (hY : jY y bytes maxL ret1 n) (hlink : Cond.methodLink own idx y ∈ jT) (hsel : Cond.selects y.cls y y ∈ jT) (hin : Cond.instanceMethod y ∈ jT) (hc : jCl ci C T N ty) (hC : y.cls = C) (hs : sh[q]? = some (.inl (ci, fl))) (hd : d1 < d) (hn : As.length = n) (hLn : L.length = nL) (hrest : (st.map fun v => v.category).sum ≤ 8) (hst : st0 = As.reverse ++ jr Δ q :: st) (g : jG Γ Δ sh fin (pc + 3) L (.int v :: st) μ1) : jG Γ Δ sh fin pc L st0 μ := g_callV As X dd hM hY hlink hsel hin hc hC hs hd hn hLn hrest hst g
theorem g_callSi {v : Int32} {idx n d1 : Nat} {y : MethodName} {bytes : ByteArray} {maxL : Nat} {ret1 : Option FieldType} {μ1 : jM} {st0 : List Value} (As : List Value) (X : jOk Γ Δ sh cc nL own ret d) (dd : decode cc pc = .ok (.invokestatic idx, 3)) (hM : jMet Γ.2.1 y bytes maxL ret1 d1 Δ sh As μ (some (.int v), μ1)) (hY : jY y bytes maxL ret1 n) (hlink : Cond.methodLink own idx y ∈ jT) (hstat : Cond.static y ∈ jT) (hd : d1 < d) (hn : As.length = n) (hLn : L.length = nL) (hrest : (st.map fun v => v.category).sum ≤ 8) (hst : st0 = As.reverse ++ st) (g : jG Γ Δ sh fin (pc + 3) L (.int v :: st) μ1) : jG Γ Δ sh fin pc L st0 μ := g_callS As X dd hM hY hlink hstat hd hn hLn hrest hst g
theorem g_callVl {v : Int64} {idx n d1 q ci N : Nat} {C : String} {T : u_T} {ty : Nat → FieldType} {fl : List (Option Nat)} {y : MethodName} {bytes : ByteArray} {maxL : Nat} {ret1 : Option FieldType} {μ1 : jM} {st0 : List Value} (As : List Value) (X : jOk Γ Δ sh cc nL own ret d) (dd : decode cc pc = .ok (.invokevirtual idx, 3)) (hM : jMet Γ.2.1 y bytes maxL ret1 d1 Δ sh (jr Δ q :: As) μ (some (.long v), μ1)) (hY : jY y bytes maxL ret1 n) (hlink : Cond.methodLink own idx y ∈ jT) (hsel : Cond.selects y.cls y y ∈ jT) (hin : Cond.instanceMethod y ∈ jT) (hc : jCl ci C T N ty) (hC : y.cls = C) (hs : sh[q]? = some (.inl (ci, fl))) (hd : d1 < d) (hn : As.length = n) (hLn : L.length = nL) (hrest : (st.map fun v => v.category).sum ≤ 8) (hst : st0 = As.reverse ++ jr Δ q :: st) (g : jG Γ Δ sh fin (pc + 3) L (.long v :: st) μ1) : jG Γ Δ sh fin pc L st0 μ := g_callV As X dd hM hY hlink hsel hin hc hC hs hd hn hLn hrest hst g
theorem g_callSl {v : Int64} {idx n d1 : Nat} {y : MethodName} {bytes : ByteArray} {maxL : Nat} {ret1 : Option FieldType} {μ1 : jM} {st0 : List Value} (As : List Value) (X : jOk Γ Δ sh cc nL own ret d) (dd : decode cc pc = .ok (.invokestatic idx, 3)) (hM : jMet Γ.2.1 y bytes maxL ret1 d1 Δ sh As μ (some (.long v), μ1)) (hY : jY y bytes maxL ret1 n) (hlink : Cond.methodLink own idx y ∈ jT) (hstat : Cond.static y ∈ jT) (hd : d1 < d) (hn : As.length = n) (hLn : L.length = nL) (hrest : (st.map fun v => v.category).sum ≤ 8) (hst : st0 = As.reverse ++ st) (g : jG Γ Δ sh fin (pc + 3) L (.long v :: st) μ1) : jG Γ Δ sh fin pc L st0 μ := g_callS As X dd hM hY hlink hstat hd hn hLn hrest hst g
theorem g_callVv {idx n d1 q ci N : Nat} {C : String} {T : u_T} {ty : Nat → FieldType} {fl : List (Option Nat)} {y : MethodName} {bytes : ByteArray} {maxL : Nat} {ret1 : Option FieldType} {μ1 : jM} {st0 : List Value} (As : List Value) (X : jOk Γ Δ sh cc nL own ret d) (dd : decode cc pc = .ok (.invokevirtual idx, 3)) (hM : jMet Γ.2.1 y bytes maxL ret1 d1 Δ sh (jr Δ q :: As) μ (none, μ1)) (hY : jY y bytes maxL ret1 n) (hlink : Cond.methodLink own idx y ∈ jT) (hsel : Cond.selects y.cls y y ∈ jT) (hin : Cond.instanceMethod y ∈ jT) (hc : jCl ci C T N ty) (hC : y.cls = C) (hs : sh[q]? = some (.inl (ci, fl))) (hd : d1 < d) (hn : As.length = n) (hLn : L.length = nL) (hrest : (st.map fun v => v.category).sum ≤ 8) (hst : st0 = As.reverse ++ jr Δ q :: st) (g : jG Γ Δ sh fin (pc + 3) L (st) μ1) : jG Γ Δ sh fin pc L st0 μ := g_callV As X dd hM hY hlink hsel hin hc hC hs hd hn hLn hrest hst g
theorem g_callSv {idx n d1 : Nat} {y : MethodName} {bytes : ByteArray} {maxL : Nat} {ret1 : Option FieldType} {μ1 : jM} {st0 : List Value} (As : List Value) (X : jOk Γ Δ sh cc nL own ret d) (dd : decode cc pc = .ok (.invokestatic idx, 3)) (hM : jMet Γ.2.1 y bytes maxL ret1 d1 Δ sh As μ (none, μ1)) (hY : jY y bytes maxL ret1 n) (hlink : Cond.methodLink own idx y ∈ jT) (hstat : Cond.static y ∈ jT) (hd : d1 < d) (hn : As.length = n) (hLn : L.length = nL) (hrest : (st.map fun v => v.category).sum ≤ 8) (hst : st0 = As.reverse ++ st) (g : jG Γ Δ sh fin (pc + 3) L (st) μ1) : jG Γ Δ sh fin pc L st0 μ := g_callS As X dd hM hY hlink hstat hd hn hLn hrest hst g
theorem g_callVq {v : Option Nat} {idx n d1 q ci N : Nat} {C : String} {T : u_T} {ty : Nat → FieldType} {fl : List (Option Nat)} {y : MethodName} {bytes : ByteArray} {maxL : Nat} {ret1 : Option FieldType} {μ1 : jM} {st0 : List Value} (As : List Value) (X : jOk Γ Δ sh cc nL own ret d) (dd : decode cc pc = .ok (.invokevirtual idx, 3)) (hM : jMet Γ.2.1 y bytes maxL ret1 d1 Δ sh (jr Δ q :: As) μ (some (jrq Δ v), μ1)) (hY : jY y bytes maxL ret1 n) (hlink : Cond.methodLink own idx y ∈ jT) (hsel : Cond.selects y.cls y y ∈ jT) (hin : Cond.instanceMethod y ∈ jT) (hc : jCl ci C T N ty) (hC : y.cls = C) (hs : sh[q]? = some (.inl (ci, fl))) (hd : d1 < d) (hn : As.length = n) (hLn : L.length = nL) (hrest : (st.map fun v => v.category).sum ≤ 8) (hst : st0 = As.reverse ++ jr Δ q :: st) (g : jG Γ Δ sh fin (pc + 3) L (jrq Δ v :: st) μ1) : jG Γ Δ sh fin pc L st0 μ := g_callV As X dd hM hY hlink hsel hin hc hC hs hd hn hLn hrest hst g
theorem g_callSq {v : Option Nat} {idx n d1 : Nat} {y : MethodName} {bytes : ByteArray} {maxL : Nat} {ret1 : Option FieldType} {μ1 : jM} {st0 : List Value} (As : List Value) (X : jOk Γ Δ sh cc nL own ret d) (dd : decode cc pc = .ok (.invokestatic idx, 3)) (hM : jMet Γ.2.1 y bytes maxL ret1 d1 Δ sh As μ (some (jrq Δ v), μ1)) (hY : jY y bytes maxL ret1 n) (hlink : Cond.methodLink own idx y ∈ jT) (hstat : Cond.static y ∈ jT) (hd : d1 < d) (hn : As.length = n) (hLn : L.length = nL) (hrest : (st.map fun v => v.category).sum ≤ 8) (hst : st0 = As.reverse ++ st) (g : jG Γ Δ sh fin (pc + 3) L (jrq Δ v :: st) μ1) : jG Γ Δ sh fin pc L st0 μ := g_callS As X dd hM hY hlink hstat hd hn hLn hrest hst g
end JROWS
