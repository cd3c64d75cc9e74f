/-! a method of one of the two worlds, called from a frame of a larger world -/
theorem vP_app {D : va_G} {cl : List vw_C} {a b : va_W} {H : Heap} (h : va_P D cl (a ++ b) H) : va_P D cl a H ∧ va_P D cl b H := by
  refine ⟨fun k q hk => h k q ?_, fun k q hk => h (a.length + k) q ?_⟩
  · rw [List.getElem?_append_left (List.getElem?_eq_some_iff.mp hk).1]; exact hk
  · rw [List.getElem?_append_right (by omega), Nat.add_sub_cancel_left]; exact hk
theorem vD_map {A : Nat → Prop} {a b : va_W} (h : va_D A a) (e : b.map (fun q => q.1) = a.map (fun q => q.1)) : va_D A b := by
  have get : ∀ (k : Nat) (q : Nat × va_E), b[k]? = some q → ∃ q', a[k]? = some q' ∧ q'.1 = q.1 := by
    intro k q hk
    have h1 : (b.map (fun q => q.1))[k]? = some q.1 := by rw [List.getElem?_map, hk]; rfl
    rw [e, List.getElem?_map] at h1
    cases ha : a[k]? with
    | none => rw [ha] at h1; cases h1
    | some q' => rw [ha] at h1; exact ⟨q', rfl, Option.some.inj h1⟩
  refine ⟨fun i j p q hi hj hpq => ?_, fun k q hk => ?_⟩
  · obtain ⟨p', hp1, hp2⟩ := get i p hi
    obtain ⟨q', hq1, hq2⟩ := get j q hj
    exact h.1 i j p' q' hp1 hq1 (by rw [hp2, hq2]; exact hpq)
  · obtain ⟨q', hq1, hq2⟩ := get k q hk
    rw [← hq2]
    exact h.2 k q' hq1
theorem jW_map {cy : Nat → ClassId} {ad : Nat → Nat} {sh : List jS} (μ μ' : jM) : (jW cy ad sh μ).map (fun q => q.1) = (jW cy ad sh μ').map (fun q => q.1) := by
  apply List.ext_getElem?
  intro i
  simp only [jW, List.getElem?_map, List.getElem?_mapIdx]
  cases sh[i]? <;> rfl
theorem jW_len {cy : Nat → ClassId} {ad : Nat → Nat} {sh : List jS} (μ : jM) : (jW cy ad sh μ).length = sh.length := by simp [jW]
/-- the cells of a world -/
def jA (ad : Nat → Nat) (sh : List jS) (q : Nat) : Prop := ∃ c, c < sh.length ∧ q = ad c
theorem jW_ad {cy : Nat → ClassId} {ad : Nat → Nat} {sh : List jS} {μ : jM} {c : Nat} (h : c < sh.length) : ∃ x, (jW cy ad sh μ)[c]? = some (ad c, x) := ⟨_, jW_get μ (List.getElem?_eq_getElem h)⟩
theorem jSep_of {G : va_G} {cy : Nat → ClassId} {ad : Nat → Nat} {sh : List jS} {A : Nat → Prop} {w1 w2 : va_W} {μ : jM} (h : va_D A (w1 ++ (jW cy ad sh μ ++ w2))) : jSep (G, cy, ad, jA ad sh) sh := by
  intro μ'
  have hm : va_D A (jW cy ad sh μ) := by
    refine ⟨fun i j p q hi hj hpq => ?_, fun k q hk => ?_⟩
    · have := h.1 (w1.length + i) (w1.length + j) p q
        (by rw [List.getElem?_append_right (by omega), Nat.add_sub_cancel_left, List.getElem?_append_left (List.getElem?_eq_some_iff.mp hi).1]; exact hi)
        (by rw [List.getElem?_append_right (by omega), Nat.add_sub_cancel_left, List.getElem?_append_left (List.getElem?_eq_some_iff.mp hj).1]; exact hj) hpq
      omega
    · exact h.2 (w1.length + k) q (by rw [List.getElem?_append_right (by omega), Nat.add_sub_cancel_left, List.getElem?_append_left (List.getElem?_eq_some_iff.mp hk).1]; exact hk)
  have hm' := vD_map hm (jW_map μ' μ)
  refine ⟨hm'.1, fun k q hk => ?_⟩
  have hl : k < sh.length := by have := (List.getElem?_eq_some_iff.mp hk).1; rw [jW_len] at this; exact this
  obtain ⟨x, hx⟩ := jW_ad (cy := cy) (ad := ad) (μ := μ') hl
  have e := Option.some.inj (hk.symm.trans hx)
  exact ⟨k, hl, by rw [e]⟩
section
variable {Γ : jC} {G : va_G} {cy : Nat → ClassId} {A : Nat → Prop} {cc : ByteArray} {nL : Nat} {own : String} {Q : State → Prop} {k n pc : Nat} {lv : List (Nat × Value)} {st : List Value} {ws : va_W}
theorem n_after {ad : Nat → Nat} {sh : List jS} {w1 w2 ws1 : va_W} {μ : jM} {fin1 : Option Value × jM} {st0 : List Value} {a : Array Value} (hw : ws = w1 ++ (jW cy ad sh μ ++ w2)) (hw1 : w1 ++ (jW cy ad sh fin1.2 ++ w2) = ws1) (g : nG Γ G A nL Q k n (pc + 3) lv (fin1.1.toList ++ st) ws1) {H : Heap} {locs : List Loc} {ls : Array Slot} (hP : va_P G jcl ws H) (hD : va_D A ws) (hS : va_S A Γ.2.2.2.2.1.heap H locs) (hL : lv_has ls nL lv)
    (hr : va_Run Γ.1 Γ.2.1 Γ.2.2.1 Γ.2.2.2.1 Γ.2.2.2.2.1 Γ.2.2.2.2.2.1 Γ.2.2.2.2.2.2.1 Γ.2.2.2.2.2.2.2.1 Γ.2.2.2.2.2.2.2.2.1 Γ.2.2.2.2.2.2.2.2.2 H locs k n 0 0 (F0 Γ.2.2.2.2.2.1 pc ls st0) st (jQc (G, cy, ad, jA ad sh) sh fin1 a) (jA ad sh)) :
    W Γ.1 Γ.2.1 Γ.2.2.1 Γ.2.2.2.1 Γ.2.2.2.2.1 Γ.2.2.2.2.2.1 Γ.2.2.2.2.2.2.1 Γ.2.2.2.2.2.2.2.1 Γ.2.2.2.2.2.2.2.2.1 Γ.2.2.2.2.2.2.2.2.2 H locs k n Q (F0 Γ.2.2.2.2.2.1 pc ls st0) := by
  subst hw hw1
  obtain ⟨p, l, e, R, s, m, args, below, meth, c⟩ := Γ
  intro T hT X
  obtain ⟨v, st₀, t, T', L, h0, X', hLc, e1, e2, ⟨hv, hp, hz, hk⟩, stp⟩ := hr T hT X
  cases hv
  rw [h0] at hz hk
  have inA : ∀ q, jA ad sh q → A q := by
    rintro q ⟨c9, hc9, rfl⟩
    obtain ⟨x, hx⟩ := jW_ad (cy := cy) (ad := ad) (μ := μ) hc9
    exact hD.2 (w1.length + c9) _ (by rw [List.getElem?_append_right (by omega), Nat.add_sub_cancel_left, List.getElem?_append_left (by rw [jW_len]; exact hc9)]; exact hx)
  -- what lies beside the called world stays
  have off : ∀ (i : Nat) (q : Nat × va_E), (w1 ++ (jW cy ad sh μ ++ w2))[i]? = some q → ¬ (w1.length ≤ i ∧ i < w1.length + sh.length) → ¬ jA ad sh q.1 := by
    rintro i q hi ho ⟨c9, hc9, hq⟩
    obtain ⟨x, hx⟩ := jW_ad (cy := cy) (ad := ad) (μ := μ) hc9
    have := hD.1 i (w1.length + c9) q (ad c9, x) hi (by rw [List.getElem?_append_right (by omega), Nat.add_sub_cancel_left, List.getElem?_append_left (by rw [jW_len]; exact hc9)]; exact hx) hq
    omega
  obtain ⟨hP1, hPr⟩ := vP_app hP
  obtain ⟨hPm, hP2⟩ := vP_app hPr
  have hz' : H.size ≤ t.heap.size := hz
  have hk' : ∀ q : Nat, q < H.size → ¬ jA ad sh q → t.heap[q]? = H[q]? := hk
  have hPn : va_P G jcl (w1 ++ (jW cy ad sh fin1.2 ++ w2)) t.heap := by
    refine va_P.app (fun i q hi => (hP1 i q hi).kept (hk' q.1 (hP1 i q hi).lt (off i q ?_ ?_))) (va_P.app hp (fun i q hi => (hP2 i q hi).kept (hk' q.1 (hP2 i q hi).lt (off (w1.length + (sh.length + i)) q ?_ ?_))))
    · rw [List.getElem?_append_left (List.getElem?_eq_some_iff.mp hi).1]; exact hi
    · have := (List.getElem?_eq_some_iff.mp hi).1; omega
    · rw [List.getElem?_append_right (by omega), Nat.add_sub_cancel_left, List.getElem?_append_right (by rw [jW_len]; omega), jW_len, Nat.add_sub_cancel_left]; exact hi
    · omega
  have hDn : va_D A (w1 ++ (jW cy ad sh fin1.2 ++ w2)) := vD_map hD (by simp only [List.map_append]; rw [jW_map fin1.2 μ])
  obtain ⟨t2, a1, b1⟩ := g T'.heap (locs ++ L) ls (by rw [e1]; exact hPn) hDn
    ⟨Nat.le_trans hS.1 (by rw [e1]; exact hz'), fun q h1 h2 => by rw [e1, hk' q (Nat.lt_of_lt_of_le h1 hS.1) (fun z => h2 (inA q z))]; exact hS.2.1 q h1 h2, fun q hq => by
      rcases List.mem_append.mp hq with h | h
      · exact hS.2.2 q h
      · exact inA _ (hLc q h)⟩ hL T' rfl X'
  exact ⟨t2, stp t2 a1, b1⟩
theorem n_callV {idx np d1 q ci N maxL : Nat} {C : String} {T : u_T} {ty : Nat → FieldType} {fl : List (Option Nat)} {y : MethodName} {bytes : ByteArray} {ret1 : Option FieldType} {fin1 : Option Value × jM} {ad : Nat → Nat} {sh : List jS} {w1 w2 ws1 : va_W} {μ : jM} {st0 : List Value} (As : List Value) (X : nOk Γ G cy A cc nL own) (dd : decode cc pc = .ok (.invokevirtual idx, 3)) (hM : jSep (G, cy, ad, jA ad sh) sh → jMet Γ.2.1 y bytes maxL ret1 d1 (G, cy, ad, jA ad sh) sh (.ref (ad q) :: As) μ fin1) (hY : jY y bytes maxL ret1 np) (hlink : Cond.methodLink own idx y ∈ jT) (hsel : Cond.selects y.cls y y ∈ jT) (hin : Cond.instanceMethod y ∈ jT) (hc : jCl ci C T N ty) (hC : y.cls = C) (hs : sh[q]? = some (.inl (ci, fl))) (hn : As.length = np) (hrest : (st.map fun v => v.category).sum ≤ 8) (hst : st0 = As.reverse ++ .ref (ad q) :: st) (hf1 : d1 + 1 ≤ Γ.2.2.2.1.frames) (hf2 : 60 * d1 + 60 ≤ Γ.2.2.2.1.locals) (hf3 : k ≤ Γ.2.2.2.1.cells) (hf4 : n ≤ Γ.2.2.2.1.slots) (hw : ws = w1 ++ (jW cy ad sh μ ++ w2)) (hw1 : w1 ++ (jW cy ad sh fin1.2 ++ w2) = ws1)
    (g : nG Γ G A nL Q k n (pc + 3) lv (fin1.1.toList ++ st) ws1) : nG Γ G A nL Q k n pc lv st0 ws := by
  obtain ⟨p, l, e, R, s, m, args, below, meth, c⟩ := Γ
  obtain ⟨hx, hb, hml, hown, hts, hK, hA⟩ := X
  subst hC
  intro H locs ls hP hD hS hL
  obtain ⟨y1, y2, y3, y4, y5, y6⟩ := hY
  have hPm : va_P G jcl (jW cy ad sh μ) H := by rw [hw] at hP; exact (vP_app (vP_app hP).2).1
  have hMm := hM (jSep_of (by rw [← hw]; exact hD))
  refine n_after (Γ := (p, l, e, R, s, m, args, below, meth, c)) (a := (Value.ref (ad q) :: As).toArray) hw hw1 g hP hD hS hL (va_runV (C := y.cls) (As := As) (rest := st) ⟨hx, hb, hml, hown, hts⟩ hMm (cwV (bytes := bytes) (maxL := maxL) (ret := ret1) (ws' := jT) np hts (jT_goodIn (fun w hw => ?_)) rfl rfl rfl ⟨rfl, y3, y4, y5⟩ ⟨hf1, ?_⟩) ⟨jblind, ?_, fun U hU hW => ⟨rfl, by rw [hU]; exact hPm, va_K.moved hW.alike hK⟩⟩ rfl hn hL.1 hst (lv_room hrest) dd ⟨hf3, hf4⟩)
  · simp only [wsV, List.cons_append, List.nil_append, List.mem_cons] at hw
    rcases hw with rfl | rfl | rfl | rfl | rfl | hw
    · exact hlink
    · exact hin
    · exact hsel
    · exact y2
    · exact y1
    · exact hw
  · show 8 + (maxL + 11) + 60 * d1 ≤ R.locals
    have : 60 * d1 + 60 ≤ R.locals := hf2
    omega
  · exact va_recv hK hPm hc.1 (jW_get μ hs)
theorem n_callS {idx np d1 maxL : Nat} {y : MethodName} {bytes : ByteArray} {ret1 : Option FieldType} {fin1 : Option Value × jM} {ad : Nat → Nat} {sh : List jS} {w1 w2 ws1 : va_W} {μ : jM} {st0 : List Value} (As : List Value) (X : nOk Γ G cy A cc nL own) (dd : decode cc pc = .ok (.invokestatic idx, 3)) (hM : jSep (G, cy, ad, jA ad sh) sh → jMet Γ.2.1 y bytes maxL ret1 d1 (G, cy, ad, jA ad sh) sh As μ fin1) (hY : jY y bytes maxL ret1 np) (hlink : Cond.methodLink own idx y ∈ jT) (hstat : Cond.static y ∈ jT) (hn : As.length = np) (hrest : (st.map fun v => v.category).sum ≤ 8) (hst : st0 = As.reverse ++ st) (hf1 : d1 + 1 ≤ Γ.2.2.2.1.frames) (hf2 : 60 * d1 + 60 ≤ Γ.2.2.2.1.locals) (hf3 : k ≤ Γ.2.2.2.1.cells) (hf4 : n ≤ Γ.2.2.2.1.slots) (hw : ws = w1 ++ (jW cy ad sh μ ++ w2)) (hw1 : w1 ++ (jW cy ad sh fin1.2 ++ w2) = ws1)
    (g : nG Γ G A nL Q k n (pc + 3) lv (fin1.1.toList ++ st) ws1) : nG Γ G A nL Q k n pc lv st0 ws := by
  obtain ⟨p, l, e, R, s, m, args, below, meth, c⟩ := Γ
  obtain ⟨hx, hb, hml, hown, hts, hK, hA⟩ := X
  intro H locs ls hP hD hS hL
  obtain ⟨y1, y2, y3, y4, y5, y6⟩ := hY
  have hPm : va_P G jcl (jW cy ad sh μ) H := by rw [hw] at hP; exact (vP_app (vP_app hP).2).1
  have hMm := hM (jSep_of (by rw [← hw]; exact hD))
  refine n_after (Γ := (p, l, e, R, s, m, args, below, meth, c)) (a := As.toArray) hw hw1 g hP hD hS hL (va_runS (As := As) (rest := st) ⟨hx, hb, hml, hown, hts⟩ hMm ⟨callB_of (bytes := bytes) (maxL := maxL) (ret := ret1) (ws' := jT) np hts (jT_goodIn (fun w hw => ?_)) rfl rfl rfl (hts _ y2) (hts _ hlink) ⟨y3, y4, y5⟩ ⟨hf1, ?_⟩, hts _ hstat⟩ ⟨jblind, fun U hU hW => ⟨rfl, by rw [hU]; exact hPm, va_K.moved hW.alike hK⟩⟩ rfl hn hL.1 hst (lv_room hrest) dd ⟨hf3, hf4⟩)
  · rcases List.mem_cons.mp hw with rfl | hw
    · exact y1
    · exact hw
  · show 8 + (maxL + 11) + 60 * d1 ≤ R.locals
    have : 60 * d1 + 60 ≤ R.locals := hf2
    omega
end
