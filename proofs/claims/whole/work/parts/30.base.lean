theorem jl_0 : (0 : Int32) = nI 0 := by decide +kernel
theorem jl_1 : (1 : Int32) = nI 1 := by decide +kernel
theorem jl_2 : (2 : Int32) = nI 2 := by decide +kernel
theorem jl_3 : (3 : Int32) = nI 3 := by decide +kernel
theorem jl_4 : (4 : Int32) = nI 4 := by decide +kernel
theorem jl_5 : (5 : Int32) = nI 5 := by decide +kernel
theorem jl_8 : (8 : Int32) = nI 8 := by decide +kernel
theorem jl_60 : (60 : Int32) = nI 60 := by decide +kernel
theorem jl_127 : (127 : Int32) = nI 127 := by decide +kernel
theorem jl_128 : (128 : Int32) = nI 128 := by decide +kernel
theorem jl_240 : (240 : Int32) = nI 240 := by decide +kernel
theorem jl_255 : (255 : Int32) = nI 255 := by decide +kernel
theorem jl_256 : (256 : Int32) = nI 256 := by decide +kernel
theorem jl_400 : (400 : Int32) = nI 400 := by decide +kernel
theorem jl_1000 : (1000 : Int32) = nI 1000 := by decide +kernel
theorem jl_1000000 : (1000000 : Int32) = nI 1000000 := by decide +kernel
theorem nI_ofNat (n : Nat) : Int32.ofNat n = nI n := rfl
theorem jlet_e {α β : Type} (a : α) (k : α → Option β) : jlet a k = k a := rfl
theorem jcall_s {ρ β : Type} (r : ρ) (μ : jM) (k : ρ → jM → Option β) : jcall (some (r, μ)) k = k r μ := rfl
theorem jin_n {β : Type} {i n : Nat} {k : Option β} (h : i < n) (hn : n ≤ 2147483648) : jin (nI i) n k = k := by
  have e : (nI i).toInt = (i : Int) := nI_toInt (by omega)
  unfold jin
  rw [if_pos (by rw [e]; omega)]
theorem jnz_n {β : Type} {y : Nat} {k : Option β} (h : 0 < y) (hy : y < 2147483648) : jnz (nI y) k = k := by
  unfold jnz
  rw [if_neg (nI_ne0 h hy)]
theorem jbl_0 {β : Type} {k : Option β} : jbl (nI 0) k = k := by unfold jbl; rw [if_pos (Or.inl nI_0)]
theorem jbl_1 {β : Type} {k : Option β} : jbl (nI 1) k = k := by unfold jbl; rw [if_pos (Or.inr (by decide +kernel))]
theorem jck_t {β : Type} {P : Prop} {k : Option β} (h : P) : jck P k = k := by unfold jck; rw [if_pos h]
-- reading what was written
theorem jsI_s (μ : jM) (c k : Nat) (v : Int32) : (jsI μ c k v).1 c k = v := by simp [jsI]
theorem jsI_c (μ : jM) {c k c' : Nat} (v : Int32) (k' : Nat) (h : c' ≠ c) : (jsI μ c k v).1 c' k' = μ.1 c' k' := by simp [jsI, h]
theorem jsI_k (μ : jM) {c k k' : Nat} (v : Int32) (h : k' ≠ k) : (jsI μ c k v).1 c k' = μ.1 c k' := by simp [jsI, h]
theorem jsI_2 (μ : jM) (c k : Nat) (v : Int32) : (jsI μ c k v).2 = μ.2 := rfl
theorem jsJ_1 (μ : jM) (c k : Nat) (v : Int64) : (jsJ μ c k v).1 = μ.1 := rfl
theorem jsJ_s (μ : jM) (c k : Nat) (v : Int64) : (jsJ μ c k v).2 c k = v := by simp [jsJ]
theorem jsJ_c (μ : jM) {c k c' : Nat} (v : Int64) (k' : Nat) (h : c' ≠ c) : (jsJ μ c k v).2 c' k' = μ.2 c' k' := by simp [jsJ, h]
theorem jsJ_k (μ : jM) {c k k' : Nat} (v : Int64) (h : k' ≠ k) : (jsJ μ c k v).2 c k' = μ.2 c k' := by simp [jsJ, h]
/-- a byte as the machine keeps it -/
def jb (n : Nat) : Int32 := (nI n).toInt8.toInt32
theorem jb_and {n : Nat} (h : n < 256) : jb n &&& nI 255 = nI n := by rw [← jl_255]; exact sc_k8 n h
theorem jb_jb (x : Int32) : x.toInt8.toInt32.toInt8.toInt32 = x.toInt8.toInt32 := by simp
theorem jb_fit (n : Nat) : fits .byte (.int (jb n)) = true := pk_fb _
theorem jb_tw (n : Nat) : ((nI n).toInt8.toInt32).toInt8.toInt32 = jb n := jb_jb _
/-- a row of bytes: the cell q has the count n, the cell behind it the bytes a -/
def OC (μ : jM) (q N n : Nat) (a : Nat → Nat) : Prop := μ.1 q 1 = nI n ∧ n ≤ N ∧ N ≤ 1000 ∧ ∀ i, i < n → a i < 256 ∧ μ.1 (q + 1) i = jb (a i)
theorem s_get {μ : jM} {q N n : Nat} {a : Nat → Nat} (h : OC μ q N n a) {i : Nat} (hi : i < n) : f_X0_get q N (nI i) μ = some (nI (a i), μ) := by
  obtain ⟨h1, h2, h3, h4⟩ := h
  obtain ⟨h5, h6⟩ := h4 i hi
  unfold f_X0_get
  simp (disch := omega) only [jlet_e, jcall_s, jin_n, jnz_n, jbl_0, jbl_1, nI_ofNat, jl_0, jl_1, jl_2, jl_3, jl_4, jl_5, jl_8, jl_60, jl_127, jl_128, jl_240, jl_255, jl_256, jl_400, jl_1000, jl_1000000, nI_ltI, nI_leI, nI_eq, nI_add, pk_sub, pk_mul, pk_div, pk_rem, nI_clamp, if_pos, if_neg, ite_true, ite_false, h1, h6, jb_and h5]
theorem s_getN {μ : jM} {q N n : Nat} {a : Nat → Nat} (h : OC μ q N n a) {x : Int32} (hx : x < 0 ∨ nI n ≤ x) : f_X0_get q N x μ = some (-1, μ) := by
  unfold f_X0_get f_X0_get_25
  by_cases h0 : x < 0
  · rw [if_pos h0]
  · rw [if_neg h0, h.1, if_pos (hx.resolve_left h0)]
theorem s_add {μ : jM} {q N n : Nat} {a : Nat → Nat} (h : OC μ q N n a) (hn : n < N) (x : Int32) : f_X0_add q N x μ = some ((), jsI (jsI μ (q + 1) n x.toInt8.toInt32) q 1 (nI (n + 1))) := by
  obtain ⟨h1, h2, h3, h4⟩ := h
  unfold f_X0_add
  simp (disch := omega) only [jlet_e, jcall_s, jin_n, jnz_n, jbl_0, jbl_1, nI_ofNat, jl_0, jl_1, jl_2, jl_3, jl_4, jl_5, jl_8, jl_60, jl_127, jl_128, jl_240, jl_255, jl_256, jl_400, jl_1000, jl_1000000, nI_ltI, nI_leI, nI_eq, nI_add, pk_sub, pk_mul, pk_div, pk_rem, nI_clamp, if_pos, if_neg, ite_true, ite_false, h1, jb_jb, jsI_c, h1]
theorem OC_add {μ : jM} {q N n : Nat} {a : Nat → Nat} (h : OC μ q N n a) (hn : n < N) {v : Nat} (hv : v < 256) : OC (jsI (jsI μ (q + 1) n (jb v)) q 1 (nI (n + 1))) q N (n + 1) (fun i => if i = n then v else a i) := by
  obtain ⟨h1, h2, h3, h4⟩ := h
  refine ⟨jsI_s _ _ _ _, hn, h3, fun i hi => ?_⟩
  rw [jsI_c _ _ _ (by omega)]
  by_cases hin : i = n
  · subst hin
    simp only [if_pos]
    exact ⟨hv, jsI_s _ _ _ _⟩
  · simp only [if_neg hin]
    rw [jsI_k _ _ hin]
    exact h4 i (by omega)
theorem OC_congr {μ : jM} {q N n : Nat} {a b : Nat → Nat} (h : OC μ q N n a) (hab : ∀ i, i < n → b i = a i) : OC μ q N n b := ⟨h.1, h.2.1, h.2.2.1, fun i hi => by rw [hab i hi]; exact h.2.2.2 i hi⟩
theorem OC_of {μ μ' : jM} {q N n : Nat} {a : Nat → Nat} (h : OC μ q N n a) (e1 : μ'.1 q = μ.1 q) (e2 : μ'.1 (q + 1) = μ.1 (q + 1)) : OC μ' q N n a := ⟨by rw [e1]; exact h.1, h.2.1, h.2.2.1, fun i hi => by rw [e2]; exact h.2.2.2 i hi⟩
/-- nothing but these cells has changed -/
def Fr (cs : List Nat) (μ μ' : jM) : Prop := (∀ c, c ∉ cs → μ'.1 c = μ.1 c) ∧ ∀ c, c ∉ cs → μ'.2 c = μ.2 c
theorem Fr.rf {cs : List Nat} {μ : jM} : Fr cs μ μ := ⟨fun _ _ => rfl, fun _ _ => rfl⟩
theorem Fr.tr {cs : List Nat} {μ μ1 μ2 : jM} (h : Fr cs μ μ1) (g : Fr cs μ1 μ2) : Fr cs μ μ2 := ⟨fun c hc => (g.1 c hc).trans (h.1 c hc), fun c hc => (g.2 c hc).trans (h.2 c hc)⟩
theorem Fr.up {cs ds : List Nat} {μ μ1 : jM} (h : Fr cs μ μ1) (hs : ∀ c ∈ cs, c ∈ ds) : Fr ds μ μ1 := ⟨fun c hc => h.1 c (fun q => hc (hs c q)), fun c hc => h.2 c (fun q => hc (hs c q))⟩
theorem Fr.I {cs : List Nat} (μ : jM) {c : Nat} (k : Nat) (v : Int32) (h : c ∈ cs) : Fr cs μ (jsI μ c k v) := ⟨fun c' hc => (jsI_off μ c k v c' (fun e => hc (e ▸ h))).1, fun c' hc => (jsI_off μ c k v c' (fun e => hc (e ▸ h))).2⟩
theorem Fr.J {cs : List Nat} (μ : jM) {c : Nat} (k : Nat) (v : Int64) (h : c ∈ cs) : Fr cs μ (jsJ μ c k v) := ⟨fun c' hc => (jsJ_off μ c k v c' (fun e => hc (e ▸ h))).1, fun c' hc => (jsJ_off μ c k v c' (fun e => hc (e ▸ h))).2⟩
theorem Fr.C {cs : List Nat} (μ : jM) {c1 sp c dp n : Nat} (h : c ∈ cs) : Fr cs μ (jcp μ c1 sp c dp n) := ⟨fun c' hc => (jcp_off μ c1 sp c dp n c' (fun e => hc (e ▸ h))).1, fun c' hc => (jcp_off μ c1 sp c dp n c' (fun e => hc (e ▸ h))).2⟩
theorem Fr.at {cs : List Nat} {μ μ' : jM} (h : Fr cs μ μ') {c : Nat} (hc : c ∉ cs) (k : Nat) : μ'.1 c k = μ.1 c k := by rw [h.1 c hc]
theorem Fr.at2 {cs : List Nat} {μ μ' : jM} (h : Fr cs μ μ') {c : Nat} (hc : c ∉ cs) (k : Nat) : μ'.2 c k = μ.2 c k := by rw [h.2 c hc]
/-- the rules, in the class and in the reference -/
def CF (μ : jM) (f U W M D : Nat) : Prop := μ.1 1 0 = nI f ∧ μ.1 1 1 = nI U ∧ μ.1 1 2 = nI W ∧ μ.1 1 3 = nI M ∧ μ.1 1 4 = nI D
def MF (ν : jM) (f U W M D : Nat) : Prop := ν.1 0 0 = nI f ∧ ν.1 0 1 = nI U ∧ ν.1 0 2 = nI W ∧ ν.1 0 3 = nI M ∧ ν.1 0 4 = nI D
def CB (f U W M D : Nat) : Prop := f ≤ 2 ∧ (U = 1 ∨ U = 2 ∨ U = 4) ∧ 1 ≤ W ∧ W ≤ 60 ∧ M ≤ 255 ∧ D ≤ 1 ∧ (f = 2 → U = 1 ∧ D = 0)
theorem CF.of {μ μ' : jM} {f U W M D : Nat} (h : CF μ f U W M D) (e : μ'.1 1 = μ.1 1) : CF μ' f U W M D := by unfold CF; rw [e]; exact h
/-- an int row of the reference: the size in field k of its object, the bytes in the cell q -/
def MR (ν : jM) (k q N n : Nat) (a : Nat → Nat) : Prop := ν.1 0 k = nI n ∧ n ≤ N ∧ N ≤ 1000 ∧ ∀ i, i < n → a i < 256 ∧ ν.1 q i = nI (a i)
theorem MR_congr {ν : jM} {k q N n : Nat} {a b : Nat → Nat} (h : MR ν k q N n a) (hab : ∀ i, i < n → b i = a i) : MR ν k q N n b := ⟨h.1, h.2.1, h.2.2.1, fun i hi => by rw [hab i hi]; exact h.2.2.2 i hi⟩
/-- the whole state, of both -/
def CS (μ : jM) (f U W M D n cn pn rc ft : Nat) (sr cd pl : Nat → Nat) : Prop := CF μ f U W M D ∧ OC μ 2 240 n sr ∧ OC μ 4 1000 cn cd ∧ (μ.1 17 3 = nI pn ∧ pn ≤ 400 ∧ ∀ i, i < pn → pl i < 256 ∧ μ.1 18 i = jb (pl i)) ∧ μ.1 17 4 = nI rc ∧ μ.1 14 3 = nI ft
def MS (ν : jM) (f U W M D n cn pn rc ft : Nat) (sr cd pl : Nat → Nat) : Prop := MF ν f U W M D ∧ MR ν 6 1 240 n sr ∧ MR ν 8 2 1000 cn cd ∧ MR ν 10 3 400 pn pl ∧ ν.1 0 11 = nI rc ∧ ν.1 0 12 = nI ft
def REL (μ ν : jM) : Prop := ∃ (f U W M D n cn pn rc ft : Nat) (sr cd pl : Nat → Nat), CB f U W M D ∧ CS μ f U W M D n cn pn rc ft sr cd pl ∧ MS ν f U W M D n cn pn rc ft sr cd pl
theorem CS.fr {μ μ' : jM} {f U W M D n cn pn rc ft : Nat} {sr cd pl : Nat → Nat} (h : CS μ f U W M D n cn pn rc ft sr cd pl) (e1 : μ'.1 1 = μ.1 1) (e2 : μ'.1 2 = μ.1 2) (e3 : μ'.1 3 = μ.1 3) (e4 : μ'.1 4 = μ.1 4) (e5 : μ'.1 5 = μ.1 5) (e6 : μ'.1 17 3 = μ.1 17 3) (e7 : μ'.1 17 4 = μ.1 17 4) (e8 : μ'.1 18 = μ.1 18) (e9 : μ'.1 14 3 = μ.1 14 3) : CS μ' f U W M D n cn pn rc ft sr cd pl := by
  obtain ⟨h1, h2, h3, h4, h5, h6⟩ := h
  exact ⟨h1.of e1, OC_of h2 e2 e3, OC_of h3 e4 e5, ⟨by rw [e6]; exact h4.1, h4.2.1, fun i hi => by rw [e8]; exact h4.2.2 i hi⟩, by rw [e7]; exact h5, by rw [e9]; exact h6⟩
theorem MS.fr {ν ν' : jM} {f U W M D n cn pn rc ft : Nat} {sr cd pl : Nat → Nat} (h : MS ν f U W M D n cn pn rc ft sr cd pl) (e0 : ∀ k, k ≤ 12 → ν'.1 0 k = ν.1 0 k) (e1 : ν'.1 1 = ν.1 1) (e2 : ν'.1 2 = ν.1 2) (e3 : ν'.1 3 = ν.1 3) : MS ν' f U W M D n cn pn rc ft sr cd pl := by
  obtain ⟨⟨a1, a2, a3, a4, a5⟩, h2, h3, h4, h5, h6⟩ := h
  refine ⟨⟨?_, ?_, ?_, ?_, ?_⟩, ⟨?_, h2.2.1, h2.2.2.1, fun i hi => by rw [e1]; exact h2.2.2.2 i hi⟩, ⟨?_, h3.2.1, h3.2.2.1, fun i hi => by rw [e2]; exact h3.2.2.2 i hi⟩, ⟨?_, h4.2.1, h4.2.2.1, fun i hi => by rw [e3]; exact h4.2.2.2 i hi⟩, ?_, ?_⟩
  · rw [e0 0 (by omega)]; exact a1
  · rw [e0 1 (by omega)]; exact a2
  · rw [e0 2 (by omega)]; exact a3
  · rw [e0 3 (by omega)]; exact a4
  · rw [e0 4 (by omega)]; exact a5
  · rw [e0 6 (by omega)]; exact h2.1
  · rw [e0 8 (by omega)]; exact h3.1
  · rw [e0 10 (by omega)]; exact h4.1
  · rw [e0 11 (by omega)]; exact h5
  · rw [e0 12 (by omega)]; exact h6
/-- the mark of a throw, put back -/
theorem MS.t0 {ν : jM} {f U W M D n cn pn rc ft : Nat} {sr cd pl : Nat → Nat} (h : MS ν f U W M D n cn pn rc ft sr cd pl) (v : Int32) : MS (jsI ν 0 13 v) f U W M D n cn pn rc ft sr cd pl :=
  h.fr (fun k hk => jsI_k _ _ (by omega)) (by funext k; exact jsI_c _ _ _ (by decide)) (by funext k; exact jsI_c _ _ _ (by decide)) (by funext k; exact jsI_c _ _ _ (by decide))
theorem s_inT {ν : jM} {x a b : Int32} (h1 : ¬ x < a) (h2 : ¬ b < x) : f_X6_in x a b ν = some (nI 1, ν) := by
  unfold f_X6_in
  rw [if_neg h1, if_neg h2]
  simp (disch := omega) only [jlet_e, jcall_s, jin_n, jnz_n, jbl_0, jbl_1, nI_ofNat, jl_0, jl_1, jl_2, jl_3, jl_4, jl_5, jl_8, jl_60, jl_127, jl_128, jl_240, jl_255, jl_256, jl_400, jl_1000, jl_1000000, nI_ltI, nI_leI, nI_eq, nI_add, pk_sub, pk_mul, pk_div, pk_rem, nI_clamp, if_pos, if_neg, ite_true, ite_false]
theorem s_inF {ν : jM} {x a b : Int32} (h : x < a ∨ b < x) : f_X6_in x a b ν = some (nI 0, ν) := by
  unfold f_X6_in f_X6_in_14
  by_cases h1 : x < a
  · rw [if_pos h1]
    simp (disch := omega) only [jlet_e, jcall_s, jin_n, jnz_n, jbl_0, jbl_1, nI_ofNat, jl_0, jl_1, jl_2, jl_3, jl_4, jl_5, jl_8, jl_60, jl_127, jl_128, jl_240, jl_255, jl_256, jl_400, jl_1000, jl_1000000, nI_ltI, nI_leI, nI_eq, nI_add, pk_sub, pk_mul, pk_div, pk_rem, nI_clamp, if_pos, if_neg, ite_true, ite_false]
  · rw [if_neg h1, if_pos (h.resolve_left h1)]
    simp (disch := omega) only [jlet_e, jcall_s, jin_n, jnz_n, jbl_0, jbl_1, nI_ofNat, jl_0, jl_1, jl_2, jl_3, jl_4, jl_5, jl_8, jl_60, jl_127, jl_128, jl_240, jl_255, jl_256, jl_400, jl_1000, jl_1000000, nI_ltI, nI_leI, nI_eq, nI_add, pk_sub, pk_mul, pk_div, pk_rem, nI_clamp, if_pos, if_neg, ite_true, ite_false]
theorem s_hasRoom {μ : jM} {q N n j : Nat} {a : Nat → Nat} (h : OC μ q N n a) (hj : j ≤ 70000) : f_X0_hasRoom q N (nI j) μ = some (if n + j ≤ N then nI 1 else nI 0, μ) := by
  obtain ⟨h1, h2, h3, h4⟩ := h
  unfold f_X0_hasRoom
  by_cases hr : n + j ≤ N
  · simp (disch := omega) only [jlet_e, jcall_s, jin_n, jnz_n, jbl_0, jbl_1, nI_ofNat, jl_0, jl_1, jl_2, jl_3, jl_4, jl_5, jl_8, jl_60, jl_127, jl_128, jl_240, jl_255, jl_256, jl_400, jl_1000, jl_1000000, nI_ltI, nI_leI, nI_eq, nI_add, pk_sub, pk_mul, pk_div, pk_rem, nI_clamp, if_pos, if_neg, ite_true, ite_false, h1]
  · simp (disch := omega) only [jlet_e, jcall_s, jin_n, jnz_n, jbl_0, jbl_1, nI_ofNat, jl_0, jl_1, jl_2, jl_3, jl_4, jl_5, jl_8, jl_60, jl_127, jl_128, jl_240, jl_255, jl_256, jl_400, jl_1000, jl_1000000, nI_ltI, nI_leI, nI_eq, nI_add, pk_sub, pk_mul, pk_div, pk_rem, nI_clamp, if_pos, if_neg, ite_true, ite_false, h1]
