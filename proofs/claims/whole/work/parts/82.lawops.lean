/-! the law's calls, one by one -/
def LW (cy : Nat → ClassId) (adC adM : Nat → Nat) (μ ν : jM) (qo : Nat) (f : Nat → Int64) : va_W := jW cy adC shC μ ++ (jW cy adM shM ν ++ [(qo, .inl (cy 2, 1, .inr (.inl f)))])
section
variable {Γ : jC} {G : va_G} {cy : Nat → ClassId} {A : Nat → Prop} {Q : State → Prop} {k n b L i qo : Nat} {xs : Nat → Int32} {adC adM : Nat → Nat} {f : Nat → Int64} {μ ν : jM} {lv : List (Nat × Value)} {st : List Value} {pc : Nat}
theorem n_callC {idx np d1 q ci N maxL : Nat} {C : String} {T : u_T} {ty : Nat → FieldType} {fl : List (Option Nat)} {y : MethodName} {bytes : ByteArray} {ret1 : Option FieldType} {v : Value} {μ1 : jM} {st0 : List Value} (As : List Value) (X : nOk Γ G cy A code 7 R_law) (dd : decode code pc = .ok (.invokevirtual idx, 3)) (hM : jSep (G, cy, adC, jA adC shC) shC → jMet Γ.2.1 y bytes maxL ret1 d1 (G, cy, adC, jA adC shC) shC (.ref (adC q) :: As) μ (some v, μ1)) (hY : jY y bytes maxL ret1 np) (hlink : Cond.methodLink R_law idx y ∈ jT) (hsel : Cond.selects y.cls y y ∈ jT) (hin : Cond.instanceMethod y ∈ jT) (hc : jCl ci C T N ty) (hC : y.cls = C) (hs : shC[q]? = some (.inl (ci, fl))) (hn : As.length = np) (hrest : (st.map fun v => v.category).sum ≤ 8) (hst : st0 = As.reverse ++ .ref (adC q) :: st) (hf1 : d1 + 1 ≤ Γ.2.2.2.1.frames) (hf2 : 60 * d1 + 60 ≤ Γ.2.2.2.1.locals) (hf3 : k ≤ Γ.2.2.2.1.cells) (hf4 : n ≤ Γ.2.2.2.1.slots)
    (g : nG Γ G A 7 Q k n (pc + 3) lv (v :: st) (LW cy adC adM μ1 ν qo f)) : nG Γ G A 7 Q k n pc lv st0 (LW cy adC adM μ ν qo f) :=
  n_callV (sh := shC) (ad := adC) (q := q) (w1 := []) (w2 := jW cy adM shM ν ++ [(qo, .inl (cy 2, 1, .inr (.inl f)))]) (fin1 := (some v, μ1)) As X dd hM hY hlink hsel hin hc hC hs hn hrest hst hf1 hf2 hf3 hf4 (by unfold LW; rw [List.nil_append]) (by unfold LW; rw [List.nil_append]) g
theorem n_callM {idx np d1 q ci N maxL : Nat} {C : String} {T : u_T} {ty : Nat → FieldType} {fl : List (Option Nat)} {y : MethodName} {bytes : ByteArray} {ret1 : Option FieldType} {v : Value} {ν1 : jM} {st0 : List Value} (As : List Value) (X : nOk Γ G cy A code 7 R_law) (dd : decode code pc = .ok (.invokevirtual idx, 3)) (hM : jSep (G, cy, adM, jA adM shM) shM → jMet Γ.2.1 y bytes maxL ret1 d1 (G, cy, adM, jA adM shM) shM (.ref (adM q) :: As) ν (some v, ν1)) (hY : jY y bytes maxL ret1 np) (hlink : Cond.methodLink R_law idx y ∈ jT) (hsel : Cond.selects y.cls y y ∈ jT) (hin : Cond.instanceMethod y ∈ jT) (hc : jCl ci C T N ty) (hC : y.cls = C) (hs : shM[q]? = some (.inl (ci, fl))) (hn : As.length = np) (hrest : (st.map fun v => v.category).sum ≤ 8) (hst : st0 = As.reverse ++ .ref (adM q) :: st) (hf1 : d1 + 1 ≤ Γ.2.2.2.1.frames) (hf2 : 60 * d1 + 60 ≤ Γ.2.2.2.1.locals) (hf3 : k ≤ Γ.2.2.2.1.cells) (hf4 : n ≤ Γ.2.2.2.1.slots)
    (g : nG Γ G A 7 Q k n (pc + 3) lv (v :: st) (LW cy adC adM μ ν1 qo f)) : nG Γ G A 7 Q k n pc lv st0 (LW cy adC adM μ ν qo f) :=
  n_callV (sh := shM) (ad := adM) (q := q) (w1 := jW cy adC shC μ) (w2 := [(qo, .inl (cy 2, 1, .inr (.inl f)))]) (fin1 := (some v, ν1)) As X dd hM hY hlink hsel hin hc hC hs hn hrest hst hf1 hf2 hf3 hf4 (by unfold LW; rfl) (by unfold LW; rfl) g
theorem law_0 (X : nOk Γ G cy A code 7 R_law) (hX : lX Γ A b L xs) (hR : Γ.2.2.2.1 = room_1) (hk : k ≤ 600000) (hn : n ≤ 7000000) (hi : i + 2 < L) (hrel : REL μ ν) (nxt : ∀ μ1 ν1, REL μ1 ν1 → nG Γ G A 7 Q k n 555 [(4, .int (nI i)), (3, .ref qo), (2, .ref (adM 0)), (1, .ref (adC 0)), (0, .ref b)] [] (LW cy adC adM μ1 ν1 qo f)) : nG Γ G A 7 Q k n 124 [(4, .int (nI i)), (3, .ref qo), (2, .ref (adM 0)), (1, .ref (adC 0)), (0, .ref b)] [] (LW cy adC adM μ ν qo f) := by
  obtain ⟨r, μ1, ν1, e1, e2, h1⟩ := al_octet hrel (xs (i + 1))
  refine n_ald 3 X dL_law_124 rfl ?_
  refine n_arg (o := 1) 4 0 X hX rfl rfl dL_law_125 dL_law_126 dL_law_128 dL_law_129 dL_law_130 (by decide) (by omega) ?_
  refine n_callC (v := .int r) (μ1 := μ1) [.int (xs (i + 1))] X dL_law_131 (fun hs => M_X5_octet hs e1) Y_X5_octet w_218 w_220 w_219 cl_X5 rfl rfl rfl (Nat.le_of_ble_eq_true rfl) rfl (by rw [hR]; exact Nat.le_of_ble_eq_true rfl) (by rw [hR]; exact Nat.le_of_ble_eq_true rfl) (by rw [hR]; exact Nat.le_trans hk (Nat.le_of_ble_eq_true rfl)) (by rw [hR]; exact Nat.le_trans hn (Nat.le_of_ble_eq_true rfl)) ?_
  refine n_ald 2 X dL_law_134 rfl ?_
  refine n_arg (o := 1) 4 0 X hX rfl rfl dL_law_135 dL_law_136 dL_law_138 dL_law_139 dL_law_140 (by decide) (by omega) ?_
  refine n_callM (v := .int r) (ν1 := ν1) [.int (xs (i + 1))] X dL_law_141 (fun hs => M_X6_octet hs e2) Y_X6_octet w_742 w_744 w_743 cl_X6 rfl rfl rfl (Nat.le_of_ble_eq_true rfl) rfl (by rw [hR]; exact Nat.le_of_ble_eq_true rfl) (by rw [hR]; exact Nat.le_of_ble_eq_true rfl) (by rw [hR]; exact Nat.le_trans hk (Nat.le_of_ble_eq_true rfl)) (by rw [hR]; exact Nat.le_trans hn (Nat.le_of_ble_eq_true rfl)) ?_
  exact n_icmp_eq 555 X dL_law_144 (by decide) (fun _ => nxt μ1 ν1 h1) (fun c => absurd rfl c)
theorem law_1 (X : nOk Γ G cy A code 7 R_law) (hX : lX Γ A b L xs) (hR : Γ.2.2.2.1 = room_1) (hk : k ≤ 600000) (hn : n ≤ 7000000) (hi : i + 2 < L) (hrel : REL μ ν) (nxt : ∀ μ1 ν1, REL μ1 ν1 → nG Γ G A 7 Q k n 555 [(4, .int (nI i)), (3, .ref qo), (2, .ref (adM 0)), (1, .ref (adC 0)), (0, .ref b)] [] (LW cy adC adM μ1 ν1 qo f)) : nG Γ G A 7 Q k n 149 [(4, .int (nI i)), (3, .ref qo), (2, .ref (adM 0)), (1, .ref (adC 0)), (0, .ref b)] [] (LW cy adC adM μ ν qo f) := by
  obtain ⟨r, μ1, ν1, e1, e2, h1⟩ := al_repeat hrel (xs (i + 1)) (xs (i + 2))
  refine n_ald 3 X dL_law_149 rfl ?_
  refine n_arg (o := 1) 4 0 X hX rfl rfl dL_law_150 dL_law_151 dL_law_153 dL_law_154 dL_law_155 (by decide) (by omega) ?_
  refine n_arg (o := 2) 4 0 X hX rfl rfl dL_law_156 dL_law_157 dL_law_159 dL_law_160 dL_law_161 (by decide) (by omega) ?_
  refine n_callC (v := .int r) (μ1 := μ1) [.int (xs (i + 1)), .int (xs (i + 2))] X dL_law_162 (fun hs => M_X5_repeat hs e1) Y_X5_repeat w_234 w_236 w_235 cl_X5 rfl rfl rfl (Nat.le_of_ble_eq_true rfl) rfl (by rw [hR]; exact Nat.le_of_ble_eq_true rfl) (by rw [hR]; exact Nat.le_of_ble_eq_true rfl) (by rw [hR]; exact Nat.le_trans hk (Nat.le_of_ble_eq_true rfl)) (by rw [hR]; exact Nat.le_trans hn (Nat.le_of_ble_eq_true rfl)) ?_
  refine n_ald 2 X dL_law_165 rfl ?_
  refine n_arg (o := 1) 4 0 X hX rfl rfl dL_law_166 dL_law_167 dL_law_169 dL_law_170 dL_law_171 (by decide) (by omega) ?_
  refine n_arg (o := 2) 4 0 X hX rfl rfl dL_law_172 dL_law_173 dL_law_175 dL_law_176 dL_law_177 (by decide) (by omega) ?_
  refine n_callM (v := .int r) (ν1 := ν1) [.int (xs (i + 1)), .int (xs (i + 2))] X dL_law_178 (fun hs => M_X6_repeat hs e2) Y_X6_repeat w_746 w_748 w_747 cl_X6 rfl rfl rfl (Nat.le_of_ble_eq_true rfl) rfl (by rw [hR]; exact Nat.le_of_ble_eq_true rfl) (by rw [hR]; exact Nat.le_of_ble_eq_true rfl) (by rw [hR]; exact Nat.le_trans hk (Nat.le_of_ble_eq_true rfl)) (by rw [hR]; exact Nat.le_trans hn (Nat.le_of_ble_eq_true rfl)) ?_
  exact n_icmp_eq 555 X dL_law_181 (by decide) (fun _ => nxt μ1 ν1 h1) (fun c => absurd rfl c)
theorem law_2 (X : nOk Γ G cy A code 7 R_law) (hX : lX Γ A b L xs) (hR : Γ.2.2.2.1 = room_1) (hk : k ≤ 600000) (hn : n ≤ 7000000) (hi : i + 2 < L) (hrel : REL μ ν) (nxt : ∀ μ1 ν1, REL μ1 ν1 → nG Γ G A 7 Q k n 555 [(4, .int (nI i)), (3, .ref qo), (2, .ref (adM 0)), (1, .ref (adC 0)), (0, .ref b)] [] (LW cy adC adM μ1 ν1 qo f)) : nG Γ G A 7 Q k n 186 [(4, .int (nI i)), (3, .ref qo), (2, .ref (adM 0)), (1, .ref (adC 0)), (0, .ref b)] [] (LW cy adC adM μ ν qo f) := by
  obtain ⟨r, μ1, ν1, e1, e2, h1⟩ := al_code hrel (xs (i + 1))
  refine n_ald 3 X dL_law_186 rfl ?_
  refine n_arg (o := 1) 4 0 X hX rfl rfl dL_law_187 dL_law_188 dL_law_190 dL_law_191 dL_law_192 (by decide) (by omega) ?_
  refine n_callC (v := .int r) (μ1 := μ1) [.int (xs (i + 1))] X dL_law_193 (fun hs => M_X5_code hs e1) Y_X5_code w_238 w_240 w_239 cl_X5 rfl rfl rfl (Nat.le_of_ble_eq_true rfl) rfl (by rw [hR]; exact Nat.le_of_ble_eq_true rfl) (by rw [hR]; exact Nat.le_of_ble_eq_true rfl) (by rw [hR]; exact Nat.le_trans hk (Nat.le_of_ble_eq_true rfl)) (by rw [hR]; exact Nat.le_trans hn (Nat.le_of_ble_eq_true rfl)) ?_
  refine n_ald 2 X dL_law_196 rfl ?_
  refine n_arg (o := 1) 4 0 X hX rfl rfl dL_law_197 dL_law_198 dL_law_200 dL_law_201 dL_law_202 (by decide) (by omega) ?_
  refine n_callM (v := .int r) (ν1 := ν1) [.int (xs (i + 1))] X dL_law_203 (fun hs => M_X6_code hs e2) Y_X6_code w_750 w_752 w_751 cl_X6 rfl rfl rfl (Nat.le_of_ble_eq_true rfl) rfl (by rw [hR]; exact Nat.le_of_ble_eq_true rfl) (by rw [hR]; exact Nat.le_of_ble_eq_true rfl) (by rw [hR]; exact Nat.le_trans hk (Nat.le_of_ble_eq_true rfl)) (by rw [hR]; exact Nat.le_trans hn (Nat.le_of_ble_eq_true rfl)) ?_
  exact n_icmp_eq 555 X dL_law_206 (by decide) (fun _ => nxt μ1 ν1 h1) (fun c => absurd rfl c)
theorem law_3 (X : nOk Γ G cy A code 7 R_law) (hX : lX Γ A b L xs) (hR : Γ.2.2.2.1 = room_1) (hk : k ≤ 600000) (hn : n ≤ 7000000) (hi : i + 2 < L) (hrel : REL μ ν) (nxt : ∀ μ1 ν1, REL μ1 ν1 → nG Γ G A 7 Q k n 555 [(4, .int (nI i)), (3, .ref qo), (2, .ref (adM 0)), (1, .ref (adC 0)), (0, .ref b)] [] (LW cy adC adM μ1 ν1 qo f)) : nG Γ G A 7 Q k n 211 [(4, .int (nI i)), (3, .ref qo), (2, .ref (adM 0)), (1, .ref (adC 0)), (0, .ref b)] [] (LW cy adC adM μ ν qo f) := by
  obtain ⟨r, μ1, ν1, e1, e2, h1⟩ := al_cut hrel (xs (i + 1)) (xs (i + 2))
  refine n_ald 3 X dL_law_211 rfl ?_
  refine n_arg (o := 1) 4 0 X hX rfl rfl dL_law_212 dL_law_213 dL_law_215 dL_law_216 dL_law_217 (by decide) (by omega) ?_
  refine n_arg (o := 2) 4 0 X hX rfl rfl dL_law_218 dL_law_219 dL_law_221 dL_law_222 dL_law_223 (by decide) (by omega) ?_
  refine n_callC (v := .int r) (μ1 := μ1) [.int (xs (i + 1)), .int (xs (i + 2))] X dL_law_224 (fun hs => M_X5_cut hs e1) Y_X5_cut w_242 w_244 w_243 cl_X5 rfl rfl rfl (Nat.le_of_ble_eq_true rfl) rfl (by rw [hR]; exact Nat.le_of_ble_eq_true rfl) (by rw [hR]; exact Nat.le_of_ble_eq_true rfl) (by rw [hR]; exact Nat.le_trans hk (Nat.le_of_ble_eq_true rfl)) (by rw [hR]; exact Nat.le_trans hn (Nat.le_of_ble_eq_true rfl)) ?_
  refine n_ald 2 X dL_law_227 rfl ?_
  refine n_arg (o := 1) 4 0 X hX rfl rfl dL_law_228 dL_law_229 dL_law_231 dL_law_232 dL_law_233 (by decide) (by omega) ?_
  refine n_arg (o := 2) 4 0 X hX rfl rfl dL_law_234 dL_law_235 dL_law_237 dL_law_238 dL_law_239 (by decide) (by omega) ?_
  refine n_callM (v := .int r) (ν1 := ν1) [.int (xs (i + 1)), .int (xs (i + 2))] X dL_law_240 (fun hs => M_X6_cut hs e2) Y_X6_cut w_754 w_756 w_755 cl_X6 rfl rfl rfl (Nat.le_of_ble_eq_true rfl) rfl (by rw [hR]; exact Nat.le_of_ble_eq_true rfl) (by rw [hR]; exact Nat.le_of_ble_eq_true rfl) (by rw [hR]; exact Nat.le_trans hk (Nat.le_of_ble_eq_true rfl)) (by rw [hR]; exact Nat.le_trans hn (Nat.le_of_ble_eq_true rfl)) ?_
  exact n_icmp_eq 555 X dL_law_243 (by decide) (fun _ => nxt μ1 ν1 h1) (fun c => absurd rfl c)
theorem law_4 (X : nOk Γ G cy A code 7 R_law) (hX : lX Γ A b L xs) (hR : Γ.2.2.2.1 = room_1) (hk : k ≤ 600000) (hn : n ≤ 7000000) (hi : i + 2 < L) (hrel : REL μ ν) (nxt : ∀ μ1 ν1, REL μ1 ν1 → nG Γ G A 7 Q k n 555 [(4, .int (nI i)), (3, .ref qo), (2, .ref (adM 0)), (1, .ref (adC 0)), (0, .ref b)] [] (LW cy adC adM μ1 ν1 qo f)) : nG Γ G A 7 Q k n 248 [(4, .int (nI i)), (3, .ref qo), (2, .ref (adM 0)), (1, .ref (adC 0)), (0, .ref b)] [] (LW cy adC adM μ ν qo f) := by
  obtain ⟨r, μ1, ν1, e1, e2, h1⟩ := al_rule hrel (xs (i + 1)) (xs (i + 2))
  refine n_ald 3 X dL_law_248 rfl ?_
  refine n_arg (o := 1) 4 0 X hX rfl rfl dL_law_249 dL_law_250 dL_law_252 dL_law_253 dL_law_254 (by decide) (by omega) ?_
  refine n_arg (o := 2) 4 0 X hX rfl rfl dL_law_255 dL_law_256 dL_law_258 dL_law_259 dL_law_260 (by decide) (by omega) ?_
  refine n_callC (v := .int r) (μ1 := μ1) [.int (xs (i + 1)), .int (xs (i + 2))] X dL_law_261 (fun hs => M_X5_rule hs e1) Y_X5_rule w_250 w_252 w_251 cl_X5 rfl rfl rfl (Nat.le_of_ble_eq_true rfl) rfl (by rw [hR]; exact Nat.le_of_ble_eq_true rfl) (by rw [hR]; exact Nat.le_of_ble_eq_true rfl) (by rw [hR]; exact Nat.le_trans hk (Nat.le_of_ble_eq_true rfl)) (by rw [hR]; exact Nat.le_trans hn (Nat.le_of_ble_eq_true rfl)) ?_
  refine n_ald 2 X dL_law_264 rfl ?_
  refine n_arg (o := 1) 4 0 X hX rfl rfl dL_law_265 dL_law_266 dL_law_268 dL_law_269 dL_law_270 (by decide) (by omega) ?_
  refine n_arg (o := 2) 4 0 X hX rfl rfl dL_law_271 dL_law_272 dL_law_274 dL_law_275 dL_law_276 (by decide) (by omega) ?_
  refine n_callM (v := .int r) (ν1 := ν1) [.int (xs (i + 1)), .int (xs (i + 2))] X dL_law_277 (fun hs => M_X6_rule hs e2) Y_X6_rule w_758 w_760 w_759 cl_X6 rfl rfl rfl (Nat.le_of_ble_eq_true rfl) rfl (by rw [hR]; exact Nat.le_of_ble_eq_true rfl) (by rw [hR]; exact Nat.le_of_ble_eq_true rfl) (by rw [hR]; exact Nat.le_trans hk (Nat.le_of_ble_eq_true rfl)) (by rw [hR]; exact Nat.le_trans hn (Nat.le_of_ble_eq_true rfl)) ?_
  exact n_icmp_eq 555 X dL_law_280 (by decide) (fun _ => nxt μ1 ν1 h1) (fun c => absurd rfl c)
theorem law_5 (X : nOk Γ G cy A code 7 R_law) (hX : lX Γ A b L xs) (hR : Γ.2.2.2.1 = room_1) (hk : k ≤ 600000) (hn : n ≤ 7000000) (hi : i + 2 < L) (hrel : REL μ ν) (nxt : ∀ μ1 ν1, REL μ1 ν1 → nG Γ G A 7 Q k n 555 [(4, .int (nI i)), (3, .ref qo), (2, .ref (adM 0)), (1, .ref (adC 0)), (0, .ref b)] [] (LW cy adC adM μ1 ν1 qo f)) : nG Γ G A 7 Q k n 285 [(4, .int (nI i)), (3, .ref qo), (2, .ref (adM 0)), (1, .ref (adC 0)), (0, .ref b)] [] (LW cy adC adM μ ν qo f) := by
  obtain ⟨r, μ1, ν1, e1, e2, h1⟩ := al_pack hrel (xs (i + 1))
  refine n_ald 3 X dL_law_285 rfl ?_
  refine n_arg (o := 1) 4 0 X hX rfl rfl dL_law_286 dL_law_287 dL_law_289 dL_law_290 dL_law_291 (by decide) (by omega) ?_
  refine n_callC (v := .int r) (μ1 := μ1) [.int (xs (i + 1))] X dL_law_292 (fun hs => M_X5_pack hs e1) Y_X5_pack w_262 w_264 w_263 cl_X5 rfl rfl rfl (Nat.le_of_ble_eq_true rfl) rfl (by rw [hR]; exact Nat.le_of_ble_eq_true rfl) (by rw [hR]; exact Nat.le_of_ble_eq_true rfl) (by rw [hR]; exact Nat.le_trans hk (Nat.le_of_ble_eq_true rfl)) (by rw [hR]; exact Nat.le_trans hn (Nat.le_of_ble_eq_true rfl)) ?_
  refine n_ald 2 X dL_law_295 rfl ?_
  refine n_arg (o := 1) 4 0 X hX rfl rfl dL_law_296 dL_law_297 dL_law_299 dL_law_300 dL_law_301 (by decide) (by omega) ?_
  refine n_callM (v := .int r) (ν1 := ν1) [.int (xs (i + 1))] X dL_law_302 (fun hs => M_X6_pack hs e2) Y_X6_pack w_762 w_764 w_763 cl_X6 rfl rfl rfl (Nat.le_of_ble_eq_true rfl) rfl (by rw [hR]; exact Nat.le_of_ble_eq_true rfl) (by rw [hR]; exact Nat.le_of_ble_eq_true rfl) (by rw [hR]; exact Nat.le_trans hk (Nat.le_of_ble_eq_true rfl)) (by rw [hR]; exact Nat.le_trans hn (Nat.le_of_ble_eq_true rfl)) ?_
  exact n_icmp_eq 555 X dL_law_305 (by decide) (fun _ => nxt μ1 ν1 h1) (fun c => absurd rfl c)
theorem law_6 (X : nOk Γ G cy A code 7 R_law) (hX : lX Γ A b L xs) (hR : Γ.2.2.2.1 = room_1) (hk : k ≤ 600000) (hn : n ≤ 7000000) (hi : i + 2 < L) (hrel : REL μ ν) (nxt : ∀ μ1 ν1, REL μ1 ν1 → nG Γ G A 7 Q k n 555 [(4, .int (nI i)), (3, .ref qo), (2, .ref (adM 0)), (1, .ref (adC 0)), (0, .ref b)] [] (LW cy adC adM μ1 ν1 qo f)) : nG Γ G A 7 Q k n 310 [(4, .int (nI i)), (3, .ref qo), (2, .ref (adM 0)), (1, .ref (adC 0)), (0, .ref b)] [] (LW cy adC adM μ ν qo f) := by
  obtain ⟨r, μ1, ν1, e1, e2, h1⟩ := al_size hrel (xs (i + 1))
  refine n_ald 3 X dL_law_310 rfl ?_
  refine n_arg (o := 1) 4 0 X hX rfl rfl dL_law_311 dL_law_312 dL_law_314 dL_law_315 dL_law_316 (by decide) (by omega) ?_
  refine n_callC (v := .int r) (μ1 := μ1) [.int (xs (i + 1))] X dL_law_317 (fun hs => M_X5_size hs e1) Y_X5_size w_406 w_408 w_407 cl_X5 rfl rfl rfl (Nat.le_of_ble_eq_true rfl) rfl (by rw [hR]; exact Nat.le_of_ble_eq_true rfl) (by rw [hR]; exact Nat.le_of_ble_eq_true rfl) (by rw [hR]; exact Nat.le_trans hk (Nat.le_of_ble_eq_true rfl)) (by rw [hR]; exact Nat.le_trans hn (Nat.le_of_ble_eq_true rfl)) ?_
  refine n_ald 2 X dL_law_320 rfl ?_
  refine n_arg (o := 1) 4 0 X hX rfl rfl dL_law_321 dL_law_322 dL_law_324 dL_law_325 dL_law_326 (by decide) (by omega) ?_
  refine n_callM (v := .int r) (ν1 := ν1) [.int (xs (i + 1))] X dL_law_327 (fun hs => M_X6_size hs e2) Y_X6_size w_859 w_768 w_767 cl_X6 rfl rfl rfl (Nat.le_of_ble_eq_true rfl) rfl (by rw [hR]; exact Nat.le_of_ble_eq_true rfl) (by rw [hR]; exact Nat.le_of_ble_eq_true rfl) (by rw [hR]; exact Nat.le_trans hk (Nat.le_of_ble_eq_true rfl)) (by rw [hR]; exact Nat.le_trans hn (Nat.le_of_ble_eq_true rfl)) ?_
  exact n_icmp_eq 555 X dL_law_330 (by decide) (fun _ => nxt μ1 ν1 h1) (fun c => absurd rfl c)
theorem law_7 (X : nOk Γ G cy A code 7 R_law) (hX : lX Γ A b L xs) (hR : Γ.2.2.2.1 = room_1) (hk : k ≤ 600000) (hn : n ≤ 7000000) (hi : i + 2 < L) (hrel : REL μ ν) (nxt : ∀ μ1 ν1, REL μ1 ν1 → nG Γ G A 7 Q k n 555 [(4, .int (nI i)), (3, .ref qo), (2, .ref (adM 0)), (1, .ref (adC 0)), (0, .ref b)] [] (LW cy adC adM μ1 ν1 qo f)) : nG Γ G A 7 Q k n 335 [(4, .int (nI i)), (3, .ref qo), (2, .ref (adM 0)), (1, .ref (adC 0)), (0, .ref b)] [] (LW cy adC adM μ ν qo f) := by
  obtain ⟨r, μ1, ν1, e1, e2, h1⟩ := al_open hrel
  refine n_ald 3 X dL_law_335 rfl ?_
  refine n_callC (v := .int r) (μ1 := μ1) [] X dL_law_336 (fun hs => M_X5_open hs e1) Y_X5_open w_410 w_412 w_411 cl_X5 rfl rfl rfl (Nat.le_of_ble_eq_true rfl) rfl (by rw [hR]; exact Nat.le_of_ble_eq_true rfl) (by rw [hR]; exact Nat.le_of_ble_eq_true rfl) (by rw [hR]; exact Nat.le_trans hk (Nat.le_of_ble_eq_true rfl)) (by rw [hR]; exact Nat.le_trans hn (Nat.le_of_ble_eq_true rfl)) ?_
  refine n_ald 2 X dL_law_339 rfl ?_
  refine n_callM (v := .int r) (ν1 := ν1) [] X dL_law_340 (fun hs => M_X6_open hs e2) Y_X6_open w_860 w_862 w_861 cl_X6 rfl rfl rfl (Nat.le_of_ble_eq_true rfl) rfl (by rw [hR]; exact Nat.le_of_ble_eq_true rfl) (by rw [hR]; exact Nat.le_of_ble_eq_true rfl) (by rw [hR]; exact Nat.le_trans hk (Nat.le_of_ble_eq_true rfl)) (by rw [hR]; exact Nat.le_trans hn (Nat.le_of_ble_eq_true rfl)) ?_
  exact n_icmp_eq 555 X dL_law_343 (by decide) (fun _ => nxt μ1 ν1 h1) (fun c => absurd rfl c)
theorem law_8 (X : nOk Γ G cy A code 7 R_law) (hX : lX Γ A b L xs) (hR : Γ.2.2.2.1 = room_1) (hk : k ≤ 600000) (hn : n ≤ 7000000) (hi : i + 2 < L) (hrel : REL μ ν) (nxt : ∀ μ1 ν1, REL μ1 ν1 → nG Γ G A 7 Q k n 555 [(4, .int (nI i)), (3, .ref qo), (2, .ref (adM 0)), (1, .ref (adC 0)), (0, .ref b)] [] (LW cy adC adM μ1 ν1 qo f)) : nG Γ G A 7 Q k n 348 [(4, .int (nI i)), (3, .ref qo), (2, .ref (adM 0)), (1, .ref (adC 0)), (0, .ref b)] [] (LW cy adC adM μ ν qo f) := by
  obtain ⟨r, μ1, ν1, e1, e2, h1⟩ := al_fault hrel
  refine n_ald 3 X dL_law_348 rfl ?_
  refine n_callC (v := .int r) (μ1 := μ1) [] X dL_law_349 (fun hs => M_X5_fault hs e1) Y_X5_fault w_491 w_493 w_492 cl_X5 rfl rfl rfl (Nat.le_of_ble_eq_true rfl) rfl (by rw [hR]; exact Nat.le_of_ble_eq_true rfl) (by rw [hR]; exact Nat.le_of_ble_eq_true rfl) (by rw [hR]; exact Nat.le_trans hk (Nat.le_of_ble_eq_true rfl)) (by rw [hR]; exact Nat.le_trans hn (Nat.le_of_ble_eq_true rfl)) ?_
  refine n_ald 2 X dL_law_352 rfl ?_
  refine n_callM (v := .int r) (ν1 := ν1) [] X dL_law_353 (fun hs => M_X6_fault hs e2) Y_X6_fault w_909 w_911 w_910 cl_X6 rfl rfl rfl (Nat.le_of_ble_eq_true rfl) rfl (by rw [hR]; exact Nat.le_of_ble_eq_true rfl) (by rw [hR]; exact Nat.le_of_ble_eq_true rfl) (by rw [hR]; exact Nat.le_trans hk (Nat.le_of_ble_eq_true rfl)) (by rw [hR]; exact Nat.le_trans hn (Nat.le_of_ble_eq_true rfl)) ?_
  exact n_icmp_eq 555 X dL_law_356 (by decide) (fun _ => nxt μ1 ν1 h1) (fun c => absurd rfl c)
theorem law_9 (X : nOk Γ G cy A code 7 R_law) (hX : lX Γ A b L xs) (hR : Γ.2.2.2.1 = room_1) (hk : k ≤ 600000) (hn : n ≤ 7000000) (hi : i + 2 < L) (hrel : REL μ ν) (nxt : ∀ μ1 ν1, REL μ1 ν1 → nG Γ G A 7 Q k n 555 [(4, .int (nI i)), (3, .ref qo), (2, .ref (adM 0)), (1, .ref (adC 0)), (0, .ref b)] [] (LW cy adC adM μ1 ν1 qo f)) : nG Γ G A 7 Q k n 361 [(4, .int (nI i)), (3, .ref qo), (2, .ref (adM 0)), (1, .ref (adC 0)), (0, .ref b)] [] (LW cy adC adM μ ν qo f) := by
  obtain ⟨r, μ1, ν1, e1, e2, h1⟩ := al_plain hrel (xs (i + 1))
  refine n_ald 3 X dL_law_361 rfl ?_
  refine n_arg (o := 1) 4 0 X hX rfl rfl dL_law_362 dL_law_363 dL_law_365 dL_law_366 dL_law_367 (by decide) (by omega) ?_
  refine n_callC (v := .int r) (μ1 := μ1) [.int (xs (i + 1))] X dL_law_368 (fun hs => M_X5_plain hs e1) Y_X5_plain w_495 w_497 w_496 cl_X5 rfl rfl rfl (Nat.le_of_ble_eq_true rfl) rfl (by rw [hR]; exact Nat.le_of_ble_eq_true rfl) (by rw [hR]; exact Nat.le_of_ble_eq_true rfl) (by rw [hR]; exact Nat.le_trans hk (Nat.le_of_ble_eq_true rfl)) (by rw [hR]; exact Nat.le_trans hn (Nat.le_of_ble_eq_true rfl)) ?_
  refine n_ald 2 X dL_law_371 rfl ?_
  refine n_arg (o := 1) 4 0 X hX rfl rfl dL_law_372 dL_law_373 dL_law_375 dL_law_376 dL_law_377 (by decide) (by omega) ?_
  refine n_callM (v := .int r) (ν1 := ν1) [.int (xs (i + 1))] X dL_law_378 (fun hs => M_X6_plain hs e2) Y_X6_plain w_913 w_915 w_914 cl_X6 rfl rfl rfl (Nat.le_of_ble_eq_true rfl) rfl (by rw [hR]; exact Nat.le_of_ble_eq_true rfl) (by rw [hR]; exact Nat.le_of_ble_eq_true rfl) (by rw [hR]; exact Nat.le_trans hk (Nat.le_of_ble_eq_true rfl)) (by rw [hR]; exact Nat.le_trans hn (Nat.le_of_ble_eq_true rfl)) ?_
  exact n_icmp_eq 555 X dL_law_381 (by decide) (fun _ => nxt μ1 ν1 h1) (fun c => absurd rfl c)
theorem law_11 (X : nOk Γ G cy A code 7 R_law) (hX : lX Γ A b L xs) (hR : Γ.2.2.2.1 = room_1) (hk : k ≤ 600000) (hn : n ≤ 7000000) (hi : i + 2 < L) (hrel : REL μ ν) (nxt : ∀ μ1 ν1, REL μ1 ν1 → nG Γ G A 7 Q k n 555 [(4, .int (nI i)), (3, .ref qo), (2, .ref (adM 0)), (1, .ref (adC 0)), (0, .ref b)] [] (LW cy adC adM μ1 ν1 qo f)) : nG Γ G A 7 Q k n 442 [(4, .int (nI i)), (3, .ref qo), (2, .ref (adM 0)), (1, .ref (adC 0)), (0, .ref b)] [] (LW cy adC adM μ ν qo f) := by
  obtain ⟨r, μ1, ν1, e1, e2, h1⟩ := al_at hrel (xs (i + 1)) (xs (i + 2))
  refine n_ald 3 X dL_law_442 rfl ?_
  refine n_arg (o := 1) 4 0 X hX rfl rfl dL_law_443 dL_law_444 dL_law_446 dL_law_447 dL_law_448 (by decide) (by omega) ?_
  refine n_arg (o := 2) 4 0 X hX rfl rfl dL_law_449 dL_law_450 dL_law_452 dL_law_453 dL_law_454 (by decide) (by omega) ?_
  refine n_callC (v := .int r) (μ1 := μ1) [.int (xs (i + 1)), .int (xs (i + 2))] X dL_law_455 (fun hs => M_X5_at hs e1) Y_X5_at w_536 w_538 w_537 cl_X5 rfl rfl rfl (Nat.le_of_ble_eq_true rfl) rfl (by rw [hR]; exact Nat.le_of_ble_eq_true rfl) (by rw [hR]; exact Nat.le_of_ble_eq_true rfl) (by rw [hR]; exact Nat.le_trans hk (Nat.le_of_ble_eq_true rfl)) (by rw [hR]; exact Nat.le_trans hn (Nat.le_of_ble_eq_true rfl)) ?_
  refine n_ald 2 X dL_law_458 rfl ?_
  refine n_arg (o := 1) 4 0 X hX rfl rfl dL_law_459 dL_law_460 dL_law_462 dL_law_463 dL_law_464 (by decide) (by omega) ?_
  refine n_arg (o := 2) 4 0 X hX rfl rfl dL_law_465 dL_law_466 dL_law_468 dL_law_469 dL_law_470 (by decide) (by omega) ?_
  refine n_callM (v := .int r) (ν1 := ν1) [.int (xs (i + 1)), .int (xs (i + 2))] X dL_law_471 (fun hs => M_X6_at hs e2) Y_X6_at w_937 w_939 w_938 cl_X6 rfl rfl rfl (Nat.le_of_ble_eq_true rfl) rfl (by rw [hR]; exact Nat.le_of_ble_eq_true rfl) (by rw [hR]; exact Nat.le_of_ble_eq_true rfl) (by rw [hR]; exact Nat.le_trans hk (Nat.le_of_ble_eq_true rfl)) (by rw [hR]; exact Nat.le_trans hn (Nat.le_of_ble_eq_true rfl)) ?_
  exact n_icmp_eq 555 X dL_law_474 (by decide) (fun _ => nxt μ1 ν1 h1) (fun c => absurd rfl c)
theorem law_12 (X : nOk Γ G cy A code 7 R_law) (hX : lX Γ A b L xs) (hR : Γ.2.2.2.1 = room_1) (hk : k ≤ 600000) (hn : n ≤ 7000000) (hi : i + 2 < L) (hrel : REL μ ν) (nxt : ∀ μ1 ν1, REL μ1 ν1 → nG Γ G A 7 Q k n 555 [(4, .int (nI i)), (3, .ref qo), (2, .ref (adM 0)), (1, .ref (adC 0)), (0, .ref b)] [] (LW cy adC adM μ1 ν1 qo f)) : nG Γ G A 7 Q k n 479 [(4, .int (nI i)), (3, .ref qo), (2, .ref (adM 0)), (1, .ref (adC 0)), (0, .ref b)] [] (LW cy adC adM μ ν qo f) := by
  obtain ⟨r, μ1, ν1, e1, e2, h1⟩ := al_unit hrel (xs (i + 1))
  refine n_ald 3 X dL_law_479 rfl ?_
  refine n_arg (o := 1) 4 0 X hX rfl rfl dL_law_480 dL_law_481 dL_law_483 dL_law_484 dL_law_485 (by decide) (by omega) ?_
  refine n_callC (v := .long r) (μ1 := μ1) [.int (xs (i + 1))] X dL_law_486 (fun hs => M_X5_unit hs e1) Y_X5_unit w_541 w_543 w_542 cl_X5 rfl rfl rfl (Nat.le_of_ble_eq_true rfl) rfl (by rw [hR]; exact Nat.le_of_ble_eq_true rfl) (by rw [hR]; exact Nat.le_of_ble_eq_true rfl) (by rw [hR]; exact Nat.le_trans hk (Nat.le_of_ble_eq_true rfl)) (by rw [hR]; exact Nat.le_trans hn (Nat.le_of_ble_eq_true rfl)) ?_
  refine n_ald 2 X dL_law_489 rfl ?_
  refine n_arg (o := 1) 4 0 X hX rfl rfl dL_law_490 dL_law_491 dL_law_493 dL_law_494 dL_law_495 (by decide) (by omega) ?_
  refine n_callM (v := .long r) (ν1 := ν1) [.int (xs (i + 1))] X dL_law_496 (fun hs => M_X6_unit hs e2) Y_X6_unit w_941 w_943 w_942 cl_X6 rfl rfl rfl (Nat.le_of_ble_eq_true rfl) rfl (by rw [hR]; exact Nat.le_of_ble_eq_true rfl) (by rw [hR]; exact Nat.le_of_ble_eq_true rfl) (by rw [hR]; exact Nat.le_trans hk (Nat.le_of_ble_eq_true rfl)) (by rw [hR]; exact Nat.le_trans hn (Nat.le_of_ble_eq_true rfl)) ?_
  refine n_lcmp X dL_law_499 ?_
  exact n_if_eq 555 X dL_law_500 (by decide) (fun _ => nxt μ1 ν1 h1) (fun c => absurd ((lg_cmp_eq r r).mpr rfl) c)
theorem law_13 (X : nOk Γ G cy A code 7 R_law) (hX : lX Γ A b L xs) (hR : Γ.2.2.2.1 = room_1) (hk : k ≤ 600000) (hn : n ≤ 7000000) (hi : i + 2 < L) (hrel : REL μ ν) (nxt : ∀ μ1 ν1, REL μ1 ν1 → nG Γ G A 7 Q k n 555 [(4, .int (nI i)), (3, .ref qo), (2, .ref (adM 0)), (1, .ref (adC 0)), (0, .ref b)] [] (LW cy adC adM μ1 ν1 qo f)) : nG Γ G A 7 Q k n 505 [(4, .int (nI i)), (3, .ref qo), (2, .ref (adM 0)), (1, .ref (adC 0)), (0, .ref b)] [] (LW cy adC adM μ ν qo f) := by
  obtain ⟨r, μ1, ν1, e1, e2, h1⟩ := al_bound hrel (xs (i + 1))
  refine n_ald 3 X dL_law_505 rfl ?_
  refine n_arg (o := 1) 4 0 X hX rfl rfl dL_law_506 dL_law_507 dL_law_509 dL_law_510 dL_law_511 (by decide) (by omega) ?_
  refine n_callC (v := .int r) (μ1 := μ1) [.int (xs (i + 1))] X dL_law_512 (fun hs => M_X5_bound hs e1) Y_X5_bound w_549 w_551 w_550 cl_X5 rfl rfl rfl (Nat.le_of_ble_eq_true rfl) rfl (by rw [hR]; exact Nat.le_of_ble_eq_true rfl) (by rw [hR]; exact Nat.le_of_ble_eq_true rfl) (by rw [hR]; exact Nat.le_trans hk (Nat.le_of_ble_eq_true rfl)) (by rw [hR]; exact Nat.le_trans hn (Nat.le_of_ble_eq_true rfl)) ?_
  refine n_ald 2 X dL_law_515 rfl ?_
  refine n_arg (o := 1) 4 0 X hX rfl rfl dL_law_516 dL_law_517 dL_law_519 dL_law_520 dL_law_521 (by decide) (by omega) ?_
  refine n_callM (v := .int r) (ν1 := ν1) [.int (xs (i + 1))] X dL_law_522 (fun hs => M_X6_bound hs e2) Y_X6_bound w_946 w_948 w_947 cl_X6 rfl rfl rfl (Nat.le_of_ble_eq_true rfl) rfl (by rw [hR]; exact Nat.le_of_ble_eq_true rfl) (by rw [hR]; exact Nat.le_of_ble_eq_true rfl) (by rw [hR]; exact Nat.le_trans hk (Nat.le_of_ble_eq_true rfl)) (by rw [hR]; exact Nat.le_trans hn (Nat.le_of_ble_eq_true rfl)) ?_
  exact n_icmp_eq 555 X dL_law_525 (by decide) (fun _ => nxt μ1 ν1 h1) (fun c => absurd rfl c)
theorem law_14 (X : nOk Γ G cy A code 7 R_law) (hX : lX Γ A b L xs) (hR : Γ.2.2.2.1 = room_1) (hk : k ≤ 600000) (hn : n ≤ 7000000) (hi : i + 2 < L) (hrel : REL μ ν) (nxt : ∀ μ1 ν1, REL μ1 ν1 → nG Γ G A 7 Q k n 555 [(4, .int (nI i)), (3, .ref qo), (2, .ref (adM 0)), (1, .ref (adC 0)), (0, .ref b)] [] (LW cy adC adM μ1 ν1 qo f)) : nG Γ G A 7 Q k n 530 [(4, .int (nI i)), (3, .ref qo), (2, .ref (adM 0)), (1, .ref (adC 0)), (0, .ref b)] [] (LW cy adC adM μ ν qo f) := by
  obtain ⟨r, μ1, ν1, e1, e2, h1⟩ := al_told hrel (xs (i + 1))
  refine n_ald 3 X dL_law_530 rfl ?_
  refine n_arg (o := 1) 4 0 X hX rfl rfl dL_law_531 dL_law_532 dL_law_534 dL_law_535 dL_law_536 (by decide) (by omega) ?_
  refine n_callC (v := .int r) (μ1 := μ1) [.int (xs (i + 1))] X dL_law_537 (fun hs => M_X5_told hs e1) Y_X5_told w_562 w_564 w_563 cl_X5 rfl rfl rfl (Nat.le_of_ble_eq_true rfl) rfl (by rw [hR]; exact Nat.le_of_ble_eq_true rfl) (by rw [hR]; exact Nat.le_of_ble_eq_true rfl) (by rw [hR]; exact Nat.le_trans hk (Nat.le_of_ble_eq_true rfl)) (by rw [hR]; exact Nat.le_trans hn (Nat.le_of_ble_eq_true rfl)) ?_
  refine n_ald 2 X dL_law_540 rfl ?_
  refine n_arg (o := 1) 4 0 X hX rfl rfl dL_law_541 dL_law_542 dL_law_544 dL_law_545 dL_law_546 (by decide) (by omega) ?_
  refine n_callM (v := .int r) (ν1 := ν1) [.int (xs (i + 1))] X dL_law_547 (fun hs => M_X6_told hs e2) Y_X6_told w_950 w_952 w_951 cl_X6 rfl rfl rfl (Nat.le_of_ble_eq_true rfl) rfl (by rw [hR]; exact Nat.le_of_ble_eq_true rfl) (by rw [hR]; exact Nat.le_of_ble_eq_true rfl) (by rw [hR]; exact Nat.le_trans hk (Nat.le_of_ble_eq_true rfl)) (by rw [hR]; exact Nat.le_trans hn (Nat.le_of_ble_eq_true rfl)) ?_
  exact n_icmp_eq 555 X dL_law_550 (by decide) (fun _ => nxt μ1 ν1 h1) (fun c => absurd rfl c)
end
