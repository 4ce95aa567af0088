/-! MAKING: the cells come one behind another, ids and addresses in step -/
def zc_L (G : zw_G) : Prop := ∀ i, i < 182 → G.2.2.1 i = G.2.2.1 0 + i
def zc_A (G : zw_G) (k : Nat) : Nat → Prop := fun q => G.2.2.1 0 + k ≤ q
/-- the cells k .. n - 1 -/
def zc_ws (G : zw_G) (k n : Nat) (Z : Nat → va_E) : va_W := (List.range (n - k)).map (fun i => (G.2.2.1 (k + i), Z (k + i)))
def zc_u (Z : Nat → va_E) (o : Nat) (x : va_E) : Nat → va_E := fun i => if i = o then x else Z i
theorem zc_us (Z : Nat → va_E) (o : Nat) (x : va_E) : zc_u Z o x o = x := if_pos rfl
theorem zc_un {Z : Nat → va_E} {o i : Nat} {x : va_E} (h : i ≠ o) : zc_u Z o x i = Z i := if_neg h
theorem zc_get {G : zw_G} {k n o : Nat} {Z : Nat → va_E} (h1 : k ≤ o) (h2 : o < n) : (zc_ws G k n Z)[o - k]? = some (G.2.2.1 o, Z o) := by
  unfold zc_ws
  rw [List.getElem?_map, List.getElem?_range (by omega)]
  show some (G.2.2.1 (k + (o - k)), Z (k + (o - k))) = _
  rw [show k + (o - k) = o by omega]
theorem zc_len {G : zw_G} {k n : Nat} {Z : Nat → va_E} : (zc_ws G k n Z).length = n - k := by simp [zc_ws]
theorem zc_of {G : zw_G} {k n j : Nat} {Z : Nat → va_E} {q : Nat × va_E} (h : (zc_ws G k n Z)[j]? = some q) : j < n - k ∧ q = (G.2.2.1 (k + j), Z (k + j)) := by
  have hj : j < n - k := by
    have := (List.getElem?_eq_some_iff.mp h).1
    rwa [zc_len] at this
  refine ⟨hj, ?_⟩
  unfold zc_ws at h
  rw [List.getElem?_map, List.getElem?_range hj] at h
  exact (Option.some.inj h).symm
theorem zc_PI {G : zw_G} {k n : Nat} {Z : Nat → va_E} {D : va_G} {cl : List vw_C} {H : Heap} : va_P D cl (zc_ws G k n Z) H ↔ ∀ o, k ≤ o → o < n → va_at D cl (G.2.2.1 o, Z o) H := by
  constructor
  · intro h o h1 h2
    exact h _ _ (zc_get h1 h2)
  · intro h j q hq
    obtain ⟨h1, rfl⟩ := zc_of hq
    exact h _ (by omega) (by omega)
theorem zc_D {G : zw_G} {k n : Nat} {Z : Nat → va_E} (hL : zc_L G) (hn : n ≤ 182) : va_D (zc_A G k) (zc_ws G k n Z) := by
  refine ⟨fun i j p q h1 h2 e => ?_, fun i q h => ?_⟩
  · obtain ⟨a1, rfl⟩ := zc_of h1
    obtain ⟨b1, rfl⟩ := zc_of h2
    have e : G.2.2.1 (k + i) = G.2.2.1 (k + j) := e
    have x1 := hL (k + i) (by omega)
    have x2 := hL (k + j) (by omega)
    omega
  · obtain ⟨a1, rfl⟩ := zc_of h
    show G.2.2.1 0 + k ≤ G.2.2.1 (k + i)
    have x1 := hL (k + i) (by omega)
    omega
theorem zc_set {G : zw_G} {k n o : Nat} {Z : Nat → va_E} {x : va_E} (h1 : k ≤ o) (h2 : o < n) : (zc_ws G k n Z).set (o - k) (G.2.2.1 o, x) = zc_ws G k n (zc_u Z o x) := by
  apply List.ext_getElem?
  intro i
  by_cases hi : i < n - k
  · have e1 := zc_get (G := G) (Z := zc_u Z o x) (show k ≤ k + i by omega) (show k + i < n by omega)
    have e2 := zc_get (G := G) (Z := Z) (show k ≤ k + i by omega) (show k + i < n by omega)
    rw [show k + i - k = i by omega] at e1 e2
    rw [e1, List.getElem?_set]
    by_cases e : o - k = i
    · rw [if_pos e, if_pos (by rw [zc_len]; omega), show k + i = o by omega, zc_us]
    · rw [if_neg e, e2, zc_un (by omega)]
  · rw [List.getElem?_eq_none (by rw [List.length_set, zc_len]; omega), List.getElem?_eq_none (by rw [zc_len]; omega)]
theorem zc_app {G : zw_G} {k n : Nat} {Z : Nat → va_E} {x : va_E} (h : k ≤ n) : zc_ws G k n Z ++ [(G.2.2.1 n, x)] = zc_ws G k (n + 1) (zc_u Z n x) := by
  unfold zc_ws
  rw [show n + 1 - k = (n - k) + 1 by omega, List.range_succ, List.map_append]
  congr 1
  · apply List.map_congr_left
    intro i hi
    rw [List.mem_range] at hi
    rw [zc_un (by omega)]
  · show _ = [(G.2.2.1 (k + (n - k)), zc_u Z n x (k + (n - k)))]
    rw [show k + (n - k) = n by omega, zc_us]
/-- a new cell's address -/
theorem zc_q {G : zw_G} {k n q : Nat} {Z : Nat → va_E} {x : va_E} {H : Heap} (hL : zc_L G) (hn : n < 182) (hk : k ≤ n) (hD : va_D (zc_A G k) (zc_ws G k n Z ++ [(q, x)])) (hP : va_P G.1 vwCl (zc_ws G k n Z ++ [(q, x)]) H) (hz : H.size ≤ G.2.2.1 0 + n + 1) : q = G.2.2.1 n := by
  have hlast : (zc_ws G k n Z ++ [(q, x)])[n - k]? = some (q, x) := by
    rw [List.getElem?_append_right (by rw [zc_len]; omega), zc_len, Nat.sub_self]; rfl
  have h1 : q < H.size := (hP _ _ hlast).lt
  have h2 : G.2.2.1 0 + k ≤ q := hD.2 _ _ hlast
  have hLn := hL n hn
  rcases Nat.lt_or_ge q (G.2.2.1 0 + n) with h | h
  · exfalso
    have hg := zc_get (G := G) (Z := Z) (show k ≤ q - G.2.2.1 0 by omega) (show q - G.2.2.1 0 < n by omega)
    have hLq := hL (q - G.2.2.1 0) (by omega)
    have hg2 : (zc_ws G k n Z ++ [(q, x)])[q - G.2.2.1 0 - k]? = some (G.2.2.1 (q - G.2.2.1 0), Z (q - G.2.2.1 0)) := by
      rw [List.getElem?_append_left (by rw [zc_len]; omega)]; exact hg
    have := hD.1 _ _ _ _ hlast hg2 (by show q = G.2.2.1 (q - G.2.2.1 0); omega)
    omega
  · omega
def zc_K (G : zw_G) (s : State) : Prop := va_K G.1 vwCl (zw_tys G) s ∧ (∀ (a : String) (i : Nat) (y : MethodName) (h : String), Cond.methodLinkNest a i y h ∈ lw_tbl → va_Nw (.methodLinkNest a i y h) s) ∧ va_AO "GraftRules$State" s ∧ va_AO "GraftRules$Image" s ∧ ∃ kA : Class, s.vm.classes[G.2.1 4]? = some kA ∧ kA.kind = .array (G.2.1 1) (.array .long)
theorem zc_K.go {G : zw_G} {s U : State} (h : zc_K G s) (hvm : s.vm.Alike U.vm) (hn : ∀ (a : String) (i : Nat) (y : MethodName) (h : String), va_Nw (.methodLinkNest a i y h) s → va_Nw (.methodLinkNest a i y h) U) : zc_K G U := by
  refine ⟨va_K.moved hvm h.1, fun a i y k hk => hn a i y k (h.2.1 a i y k hk), va_AO.moved hvm h.2.2.1, va_AO.moved hvm h.2.2.2.1, ?_⟩
  obtain ⟨kA, h1, h2⟩ := h.2.2.2.2
  obtain ⟨k', hk', he⟩ := hvm.2.2 _ _ h1
  exact ⟨k', hk', by rw [he]; exact h2⟩
/-- where a method's body stands that makes the cells up to E -/
def zc_C (G : zw_G) (d : Nat) (M : zw_M) (k E : Nat) (p : Program) (R : Room) (s : State) (m : MethodId) (args : Array Value) (meth : Method) (c : Code) : Prop :=
  p.tables.exec = Jvm.exec ∧ c.code = M.2.1 ∧ c.maxLocals = M.2.2.1 ∧ s.vm.findClass M.1.cls = some m.cls ∧ (∀ w ∈ zw_tb, w.before args s = true) ∧ zc_K G s ∧ zc_L G ∧ d ≤ R.frames ∧ 36 * d ≤ R.locals ∧ G.2.2.1 0 + E ≤ s.heap.size + R.cells ∧ G.2.2.1 0 + k ≤ s.heap.size ∧ E ≤ 182
/-- the cells k .. n - 1 are there, as Z says; y slots more may be made -/
def zc_S (G : zw_G) (R : Room) (s : State) (k E n : Nat) (Z : Nat → va_E) (y : Nat) (H : Heap) (locs : List Loc) (cells slots : Nat) : Prop :=
  s.heap.size + cells = G.2.2.1 0 + n ∧ slots + y ≤ R.slots ∧ k ≤ n ∧ n ≤ E ∧ va_P G.1 vwCl (zc_ws G k n Z) H ∧ va_S (zc_A G k) s.heap H locs
/-- the start of all -/
def zc_0 : zw_S := (fun i j => if zw_kd i = 10 then (if zw_kd (i - 2) = 4 then -1 else if i = 169 ∧ 25 ≤ j ∧ j < 33 then -1 else 0) else if (zw_kd i = 3 ∧ j = 4) ∨ (i = 0 ∧ j = 10) ∨ (i = 168 ∧ j = 7) then -1 else if zw_kd i = 7 ∧ (j = 2 ∨ j = 3) then 1 else 0, fun _ _ => 0)
/-- a new object's fields -/
def zc_df (ci : Nat) : List Value := (zw_foT.getD ci []).map (fun o => match o with | none => .int 0 | some _ => .null)
def zc_Q (G : zw_G) (k E : Nat) : Array Value → State → Outcome → State → Prop := fun _ st oc t => oc = .returned none ∧ va_P G.1 vwCl (zc_ws G k E (zw_cell G zc_0)) t.heap ∧ va_F (zc_A G k) st t
/-- a constructor's contract: the object k is new and the last; then its cells are there, as at the start of all -/
def zc_T (l : Launch) (G : zw_G) (d : Nat) (N : zw_M) (k m ci y : Nat) : Prop :=
  Met l N.1 (zw_wds N) { frames := d, cells := m, slots := y, locals := 36 * d } (va_Pc [.ref (G.2.2.1 k)] (fun U => U.heap.size = G.2.2.1 0 + (k + 1) ∧ va_P G.1 vwCl (zc_ws G k (k + 1) (fun _ => .inr (ci, zc_df ci))) U.heap ∧ zc_K G U)) (zc_Q G k (k + (m + 1))) m y (zc_A G k)
/-- what the tables say of a constructor -/
def zc_IM (N : zw_M) : Prop := Cond.instanceMethod N.1 ∈ zw_tb ∧ Cond.initialized N.1.cls ∈ zw_tb ∧ Cond.code N.1 N.2.1 N.2.2.1 N.2.2.2 ∈ zw_tb ∧ (N.1.cls ≠ "java/lang/invoke/MethodHandle" ∧ N.1.cls ≠ "java/lang/invoke/VarHandle" ∧ (parseMethodDescriptor N.1.desc).map (fun d => d.parameters.length) = some 0) ∧ N.2.2.1 ≤ 17 ∧ N.2.2.2 = none ∧ N.1.name = "<init>" ∧ plainFor N.1 = true
def zc_IK (own : String) (i : Nat) (y : MethodName) : Prop := Cond.methodLink own i y ∈ zw_tb ∨ ∃ host, Cond.methodLinkNest own i y host ∈ lw_tbl
/-- .. of 'new' -/
def zc_CL (own : String) (i ci N : Nat) : Prop := ∃ (C : String) (T : u_T) (ty : Nat → FieldType), vwCl[ci]? = some (C, T, N) ∧ (∀ w ∈ u_ws C T N, w ∈ zw_tb) ∧ (∀ k, k < N → parseFieldDescriptor (T k).2.2.1 = some (ty k)) ∧ Cond.classLink own i C ∈ zw_tb ∧ Cond.instantiable C N ∈ zw_tb ∧ Cond.initialized C ∈ zw_tb ∧ ∀ j, j < N → defaultValue (ty j) = vp_V (zc_df ci) j
/-- .. of a final field, and of another -/
def zc_FF (own : String) (i ci j : Nat) : Prop := ∃ (C : String) (T : u_T) (N : Nat) (ty0 : Nat → FieldType) (ty : FieldType), vwCl[ci]? = some (C, T, N) ∧ (∀ w ∈ u_ws C T N, w ∈ zw_tb) ∧ (∀ k, k < N → parseFieldDescriptor (T k).2.2.1 = some (ty0 k)) ∧ (∀ a, a < N → ∀ b, b < N → a ≠ b → (T a).2.1 ≠ (T b).2.1) ∧ j < N ∧ Cond.fieldLink own i (T j).1 (T j).2.1 (T j).2.2.1 ∈ zw_tb ∧ (T j).2.2.2 = true ∧ (T j).1 = own ∧ parseFieldDescriptor (T j).2.2.1 = some ty ∧ (∀ a, narrow ty (.ref a) = .ref a) ∧ ∀ a, fits ty (.ref a) = true
def zc_FI (own : String) (i ci j : Nat) (v : Int32) : Prop := ∃ (C : String) (T : u_T) (N : Nat) (ty0 : Nat → FieldType) (ty : FieldType), vwCl[ci]? = some (C, T, N) ∧ (∀ w ∈ u_ws C T N, w ∈ zw_tb) ∧ (∀ k, k < N → parseFieldDescriptor (T k).2.2.1 = some (ty0 k)) ∧ (∀ a, a < N → ∀ b, b < N → a ≠ b → (T a).2.1 ≠ (T b).2.1) ∧ j < N ∧ Cond.fieldLink own i (T j).1 (T j).2.1 (T j).2.2.1 ∈ zw_tb ∧ (T j).2.2.2 = false ∧ parseFieldDescriptor (T j).2.2.1 = some ty ∧ narrow ty (.int v) = .int v ∧ fits ty (.int v) = true
theorem kw_arrI : Cond.arrayClass .int ∈ zw_tb := zw_tb_of (List.mem_of_getElem? (i := 102) (by decide +kernel)) rfl
theorem kw_arrL : Cond.arrayClass .long ∈ zw_tb := zw_tb_of (List.mem_of_getElem? (i := 226) (by decide +kernel)) rfl
theorem kw_oi : Cond.instanceMethod objectInit ∈ zw_tb := zw_tb_of (List.mem_of_getElem? (i := 78) (by decide +kernel)) rfl
theorem kw_oc : Cond.code objectInit ⟨#[0xb1]⟩ 1 none ∈ zw_tb := zw_tb_of (List.mem_of_getElem? (i := 79) (by decide +kernel)) rfl
section Z43
variable {p : Program} {l : Launch} {e : Env} {R : Room} {s : State} {m : MethodId} {args : Array Value} {below : List Frame} {meth : Method} {c : Code} {H : Heap} {locs : List Loc} {cells slots : Nat} {Q : State → Prop} {pc : Nat} {ls : Array Slot} {st : List Value}
variable {G : zw_G} {d k E n y : Nat} {M : zw_M} {Z : Nat → va_E}
theorem zc_size {g : JFrame} (kk : H.size ≤ s.heap.size + cells → W p l e R s m args below meth c H locs cells slots Q g) : W p l e R s m args below meth c H locs cells slots Q g := fun T hT X => kk (by rw [← hT]; exact X.heapSize) T hT X
theorem zk_oi (hC : zc_C G (d + 1) M k E p R s m args meth c) {idx a : Nat} (hl : ls.size = M.2.2.1) (hd : decode M.2.1 pc = .ok (.invokespecial idx, 3)) (hk : Cond.methodLink M.1.cls idx objectInit ∈ zw_tb) (kk : W p l e R s m args below meth c H locs cells slots Q (F0 m (pc + 3) ls [])) : W p l e R s m args below meth c H locs cells slots Q (F0 m pc ls [.ref a]) := by
  obtain ⟨hx, hb, hml, hown, hts, hK, hL, hfr, hlo, hce, hks, h182⟩ := hC
  exact W.objInit hx hb hown (hts _ hk) (hts _ kw_oi) (hts _ kw_oc) rfl (hl.trans hml.symm) rfl hd (by omega) (by show 0 + 12 ≤ R.locals; omega) kk
theorem zk_newi (hC : zc_C G d M k E p R s m args meth c) {N : Nat} {v : Int32} (hS : zc_S G R s k E n Z (y + N) H locs cells slots) (hd : decode M.2.1 pc = .ok (.newarray .int, 2)) (hn : n < E) (h0 : ¬ v < 0) (hN : v.toNatClampNeg = N) (hby : N * 4 ≤ 536870912) (kk : ∀ H1, zc_S G R s k E (n + 1) (zc_u Z n (.inl (G.2.1 0, N, .inl fun _ => 0))) y H1 locs (cells + 1) (slots + N) → W p l e R s m args below meth c H1 locs (cells + 1) (slots + N) Q (F0 m (pc + 2) ls (.ref (G.2.2.1 n) :: st))) : W p l e R s m args below meth c H locs cells slots Q (F0 m pc ls (.int v :: st)) := by
  obtain ⟨hx, hb, hml, hown, hts, hK, hL, hfr, hlo, hce, hks, h182⟩ := hC
  obtain ⟨s1, s2, s3, s4, hP, hV⟩ := hS
  refine va_newa (atype := .int) (ty := .int) hx hb (hts _ kw_arrI) rfl hK.1 hP (zc_D hL (by omega)) hV (fun q hq => by show _ ≤ _; omega) (a0 := (N, .inl fun _ => 0)) (fun cA => rfl) h0 hN hby (by omega) (by omega) hd (fun q cA H1 hK1 hP1 hD1 hV1 => ?_)
  refine zc_size (fun hz => ?_)
  obtain rfl : q = G.2.2.1 n := zc_q hL (by omega) s3 hD1 hP1 (by omega)
  have e1 := (hK1.2 5 (cA, .int) rfl).2
  have e0 := (hK.1.2 0 (G.2.1 0, .int) rfl).2
  obtain rfl : cA = G.2.1 0 := Option.some.inj (e1.symm.trans e0)
  rw [zc_app s3] at hP1
  exact kk H1 ⟨by omega, by omega, by omega, by omega, hP1, hV1⟩
theorem zk_newl (hC : zc_C G d M k E p R s m args meth c) {N : Nat} {v : Int32} (hS : zc_S G R s k E n Z (y + N) H locs cells slots) (hd : decode M.2.1 pc = .ok (.newarray .long, 2)) (hn : n < E) (h0 : ¬ v < 0) (hN : v.toNatClampNeg = N) (hby : N * 8 ≤ 536870912) (kk : ∀ H1, zc_S G R s k E (n + 1) (zc_u Z n (.inl (G.2.1 1, N, .inr (.inl fun _ => 0)))) y H1 locs (cells + 1) (slots + N) → W p l e R s m args below meth c H1 locs (cells + 1) (slots + N) Q (F0 m (pc + 2) ls (.ref (G.2.2.1 n) :: st))) : W p l e R s m args below meth c H locs cells slots Q (F0 m pc ls (.int v :: st)) := by
  obtain ⟨hx, hb, hml, hown, hts, hK, hL, hfr, hlo, hce, hks, h182⟩ := hC
  obtain ⟨s1, s2, s3, s4, hP, hV⟩ := hS
  refine va_newa (atype := .long) (ty := .long) hx hb (hts _ kw_arrL) rfl hK.1 hP (zc_D hL (by omega)) hV (fun q hq => by show _ ≤ _; omega) (a0 := (N, .inr (.inl fun _ => 0))) (fun cA => rfl) h0 hN hby (by omega) (by omega) hd (fun q cA H1 hK1 hP1 hD1 hV1 => ?_)
  refine zc_size (fun hz => ?_)
  obtain rfl : q = G.2.2.1 n := zc_q hL (by omega) s3 hD1 hP1 (by omega)
  have e1 := (hK1.2 5 (cA, .long) rfl).2
  have e0 := (hK.1.2 1 (G.2.1 1, .long) rfl).2
  obtain rfl : cA = G.2.1 1 := Option.some.inj (e1.symm.trans e0)
  rw [zc_app s3] at hP1
  exact kk H1 ⟨by omega, by omega, by omega, by omega, hP1, hV1⟩
/-- an array of references: t its place in zw_tys -/
theorem zk_anew (hC : zc_C G d M k E p R s m args meth c) {N idx t : Nat} {C : String} {v : Int32} (hS : zc_S G R s k E n Z (y + N) H locs cells slots) (hd : decode M.2.1 pc = .ok (.anewarray idx, 3)) (hlk : Cond.classLink M.1.cls idx C ∈ zw_tb) (hao : va_AO C s) (ht : (zw_tys G)[t]? = some (G.2.1 t, .object C)) (hn : n < E) (h0 : ¬ v < 0) (hN : v.toNatClampNeg = N) (hby : N * 4 ≤ 536870912) (kk : ∀ H1, zc_S G R s k E (n + 1) (zc_u Z n (.inl (G.2.1 t, N, .inr (.inr (.inr (.inr fun _ => none)))))) y H1 locs (cells + 1) (slots + N) → W p l e R s m args below meth c H1 locs (cells + 1) (slots + N) Q (F0 m (pc + 3) ls (.ref (G.2.2.1 n) :: st))) : W p l e R s m args below meth c H locs cells slots Q (F0 m pc ls (.int v :: st)) := by
  obtain ⟨hx, hb, hml, hown, hts, hK, hL, hfr, hlo, hce, hks, h182⟩ := hC
  obtain ⟨s1, s2, s3, s4, hP, hV⟩ := hS
  refine va_newq hx hb hown (hts _ hlk) hao hK.1 hP (zc_D hL (by omega)) hV (fun q hq => by show _ ≤ _; omega) h0 hN hby (by omega) (by omega) hd (fun q cA H1 hK1 hP1 hD1 hV1 => ?_)
  refine zc_size (fun hz => ?_)
  obtain rfl : q = G.2.2.1 n := zc_q hL (by omega) s3 hD1 hP1 (by omega)
  obtain ⟨_, _, -, -, -, e1⟩ := (hK1.2 5 (cA, .object C) rfl).2
  obtain ⟨_, _, -, -, -, e0⟩ := (hK.1.2 t _ ht).2
  obtain rfl : cA = G.2.1 t := Option.some.inj (e1.symm.trans e0)
  rw [zc_app s3] at hP1
  exact kk H1 ⟨by omega, by omega, by omega, by omega, hP1, hV1⟩
theorem zk_putR (hC : zc_C G d M k E p R s m args meth c) (hin : meth.name = "<init>") {ci j idx a : Nat} {fs : List Value} (hS : zc_S G R s k E n Z y H locs cells slots) (hZ : Z k = .inr (ci, fs)) (hn : k < n) (hd : decode M.2.1 pc = .ok (.putfield idx, 3)) (hf : zc_FF M.1.cls idx ci j) (hl : j < fs.length) (kk : ∀ H1 locs1, zc_S G R s k E n (zc_u Z k (.inr (ci, fs.set j (.ref a)))) y H1 locs1 cells slots → W p l e R s m args below meth c H1 locs1 cells slots Q (F0 m (pc + 3) ls st)) : W p l e R s m args below meth c H locs cells slots Q (F0 m pc ls (.ref a :: .ref (G.2.2.1 k) :: st)) := by
  obtain ⟨hx, hb, hml, hown, hts, hK, hL, hfr, hlo, hce, hks, h182⟩ := hC
  obtain ⟨s1, s2, s3, s4, hP, hV⟩ := hS
  obtain ⟨C, T, N, ty0, ty, f1, f2, f3, f4, f5, f6, f7, f8, f9, f10, f11⟩ := hf
  refine va_putF hx hb hts f2 ty0 f3 f4 hown hK.1 hP (zc_D hL (by omega)) hV (k - k) (by rw [zc_get (Nat.le_refl k) hn, hZ]) f1 j f5 (hts _ f6) (fun x h => h) f7 hin f8 f9 (f10 a) (f11 a) hl hd (fun H1 locs1 hP1 hD1 hV1 => ?_)
  rw [zc_set (Nat.le_refl k) hn] at hP1
  exact kk H1 locs1 ⟨s1, s2, s3, s4, hP1, hV1⟩
theorem zk_putI (hC : zc_C G d M k E p R s m args meth c) {ci j idx : Nat} {v : Int32} {fs : List Value} (hS : zc_S G R s k E n Z y H locs cells slots) (hZ : Z k = .inr (ci, fs)) (hn : k < n) (hd : decode M.2.1 pc = .ok (.putfield idx, 3)) (hf : zc_FI M.1.cls idx ci j v) (hl : j < fs.length) (kk : ∀ H1 locs1, zc_S G R s k E n (zc_u Z k (.inr (ci, fs.set j (.int v)))) y H1 locs1 cells slots → W p l e R s m args below meth c H1 locs1 cells slots Q (F0 m (pc + 3) ls st)) : W p l e R s m args below meth c H locs cells slots Q (F0 m pc ls (.int v :: .ref (G.2.2.1 k) :: st)) := by
  obtain ⟨hx, hb, hml, hown, hts, hK, hL, hfr, hlo, hce, hks, h182⟩ := hC
  obtain ⟨s1, s2, s3, s4, hP, hV⟩ := hS
  obtain ⟨C, T, N, ty0, ty, f1, f2, f3, f4, f5, f6, f7, f9, f10, f11⟩ := hf
  refine va_put hx hb hts f2 ty0 f3 f4 hown hK.1 hP (zc_D hL (by omega)) hV (k - k) (by rw [zc_get (Nat.le_refl k) hn, hZ]) f1 j f5 (hts _ f6) (fun x h => h) f7 f9 f10 f11 hl hd (fun H1 locs1 hP1 hD1 hV1 => ?_)
  rw [zc_set (Nat.le_refl k) hn] at hP1
  exact kk H1 locs1 ⟨s1, s2, s3, s4, hP1, hV1⟩
theorem zk_get (hC : zc_C G d M k E p R s m args meth c) {ci j idx a : Nat} {fs : List Value} (hS : zc_S G R s k E n Z y H locs cells slots) (hZ : Z k = .inr (ci, fs)) (hn : k < n) (hd : decode M.2.1 pc = .ok (.getfield idx, 3)) (hf : zc_FF M.1.cls idx ci j) (hv : fs[j]? = some (.ref a)) (kk : W p l e R s m args below meth c H locs cells slots Q (F0 m (pc + 3) ls (.ref a :: st))) : W p l e R s m args below meth c H locs cells slots Q (F0 m pc ls (.ref (G.2.2.1 k) :: st)) := by
  obtain ⟨hx, hb, hml, hown, hts, hK, hL, hfr, hlo, hce, hks, h182⟩ := hC
  obtain ⟨s1, s2, s3, s4, hP, hV⟩ := hS
  obtain ⟨C, T, N, ty0, ty, f1, f2, f3, f4, f5, f6, f7, f8, f9, f10, f11⟩ := hf
  exact va_get hx hb hts f2 hown hK.1 hP (k - k) (by rw [zc_get (Nat.le_refl k) hn, hZ]) f1 j f5 (hts _ f6) (fun x h => h) hv hd kk
theorem zk_iast (hC : zc_C G d M k E p R s m args meth c) {o N j : Nat} {x : Int32} {f : Nat → Int32} (hS : zc_S G R s k E n Z y H locs cells slots) (hZ : Z o = .inl (G.2.1 0, N, .inl f)) (hk : k ≤ o) (hn : o < n) (hd : decode M.2.1 pc = .ok (.iastore, 1)) (hj : j < N) (hN : N < 2 ^ 31) (kk : ∀ H1 locs1, zc_S G R s k E n (zc_u Z o (.inl (G.2.1 0, N, .inl (upd f j x)))) y H1 locs1 cells slots → W p l e R s m args below meth c H1 locs1 cells slots Q (F0 m (pc + 1) ls st)) : W p l e R s m args below meth c H locs cells slots Q (F0 m pc ls (.int x :: .int (nI j) :: .ref (G.2.2.1 o) :: st)) := by
  obtain ⟨hx, hb, hml, hown, hts, hK, hL, hfr, hlo, hce, hks, h182⟩ := hC
  obtain ⟨s1, s2, s3, s4, hP, hV⟩ := hS
  refine va_iast hx hb hK.1 hP (zc_D hL (by omega)) hV (o - k) 0 (by rw [zc_get hk hn, hZ]) rfl (vp_in_nI hj hN) hd (fun H1 locs1 hP1 hD1 hV1 => ?_)
  rw [nI_clamp (by omega), zc_set hk hn] at hP1
  exact kk H1 locs1 ⟨s1, s2, s3, s4, hP1, hV1⟩
theorem zk_aast (hC : zc_C G d M k E p R s m args meth c) {o v ci N j t : Nat} {r : vw_C} {vs : List Value} {f : Nat → Option Nat} (hS : zc_S G R s k E n Z y H locs cells slots) (hZ : Z o = .inl (G.2.1 t, N, .inr (.inr (.inr (.inr f))))) (ht : (zw_tys G)[t]? = some (G.2.1 t, .object r.1)) (hk : k ≤ o) (hn : o < n) (hv : Z v = .inr (ci, vs)) (hc : vwCl[ci]? = some r) (hk2 : k ≤ v) (hn2 : v < n) (hd : decode M.2.1 pc = .ok (.aastore, 1)) (hj : j < N) (hN : N < 2 ^ 31) (kk : ∀ H1 locs1, zc_S G R s k E n (zc_u Z o (.inl (G.2.1 t, N, .inr (.inr (.inr (.inr (va_up f j (some (G.2.2.1 v)))))))) ) y H1 locs1 cells slots → W p l e R s m args below meth c H1 locs1 cells slots Q (F0 m (pc + 1) ls st)) : W p l e R s m args below meth c H locs cells slots Q (F0 m pc ls (.ref (G.2.2.1 v) :: .int (nI j) :: .ref (G.2.2.1 o) :: st)) := by
  obtain ⟨hx, hb, hml, hown, hts, hK, hL, hfr, hlo, hce, hks, h182⟩ := hC
  obtain ⟨s1, s2, s3, s4, hP, hV⟩ := hS
  refine va_astq hx hb hK.1 hP (zc_D hL (by omega)) hV (o - k) t (v - k) ci (by rw [zc_get hk hn, hZ]) ht (by rw [zc_get hk2 hn2, hv]) hc (vp_in_nI hj hN) hd (fun H1 locs1 hP1 hD1 hV1 => ?_)
  rw [nI_clamp (by omega), zc_set hk hn] at hP1
  exact kk H1 locs1 ⟨s1, s2, s3, s4, hP1, hV1⟩
/-- what is behind a constructor's call: the cells ahead of n as they were, those from n on as at the start of all -/
theorem zc_join {k n n' : Nat} {H H1 : Heap} (hL : zc_L G) (hn' : n' ≤ 182) (hP : va_P G.1 vwCl (zc_ws G k n Z) H) (hkn : k ≤ n) (hP1 : va_P G.1 vwCl (zc_ws G n n' (zw_cell G zc_0)) H1) (hk : ∀ q : Nat, q < H.size → ¬ zc_A G n q → H1[q]? = H[q]?) (hnn : n ≤ n') : va_P G.1 vwCl (zc_ws G k n' (fun i => if i < n then Z i else zw_cell G zc_0 i)) H1 := by
  rw [zc_PI] at hP hP1 ⊢
  intro o h1 h2
  by_cases q : o < n
  · rw [if_pos q]
    have h := hP o h1 q
    refine h.kept (hk _ h.lt ?_)
    show ¬ G.2.2.1 0 + n ≤ G.2.2.1 o
    have := hL o (by omega)
    omega
  · rw [if_neg q]
    exact hP1 o (by omega) h2
theorem zc_blind {k m ci : Nat} : FrameBlind (va_Pc [.ref (G.2.2.1 k)] (fun U => U.heap.size = G.2.2.1 0 + (k + 1) ∧ va_P G.1 vwCl (zc_ws G k (k + 1) (fun _ => .inr (ci, zc_df ci))) U.heap ∧ zc_K G U)) :=
  fun a U g mk q => ⟨q.1, q.2.1, q.2.2.1, zc_K.go q.2.2.2 (U := U.calling g mk a) (Vm.Alike.refl U.vm) (fun _ _ _ _ h => va_Nw.same rfl rfl h)⟩
/-- new, dup, the constructor's call -/
theorem zk_make (hC : zc_C G (d + 1) M k E p R s m args meth c) {N : zw_M} {i0 i1 ci nf mm y' : Nat} (hS : zc_S G R s k E n Z (y + (nf + y')) H locs cells slots) (hl : ls.size = M.2.2.1) (hcat : (st.map fun v => v.category).sum + 1 ≤ 8) (hd0 : decode M.2.1 pc = .ok (.new i0, 3)) (hd1 : decode M.2.1 (pc + 3) = .ok (.dup, 1)) (hd2 : decode M.2.1 (pc + 3 + 1) = .ok (.invokespecial i1, 3)) (hcl : zc_CL M.1.cls i0 ci nf) (hik : zc_IK M.1.cls i1 N.1) (him : zc_IM N) (hM : zc_T l G d N n mm ci y') (hn : n + (mm + 1) ≤ E) (kk : ∀ H1 locs1 cells1 slots1, zc_S G R s k E (n + (mm + 1)) (fun i => if i < n then Z i else zw_cell G zc_0 i) y H1 locs1 cells1 slots1 → W p l e R s m args below meth c H1 locs1 cells1 slots1 Q (F0 m (pc + 3 + 1 + 3) ls (.ref (G.2.2.1 n) :: st))) : W p l e R s m args below meth c H locs cells slots Q (F0 m pc ls st) := by
  obtain ⟨hx, hb, hml, hown, hts, hK, hL, hfr, hlo, hce, hks, h182⟩ := hC
  obtain ⟨s1, s2, s3, s4, hP, hV⟩ := hS
  obtain ⟨C, T, ty, c1, c2, c3, c4, c5, c6, c7⟩ := hcl
  obtain ⟨i2, i3, i4, i5, i6, i7, i8, i9⟩ := him
  refine va_new hx hb hts c2 ty c3 hown (hts _ c4) (hts _ c5) (hts _ c6) hK.1 hP (zc_D hL (by omega)) hV (fun q hq => by show _ ≤ _; omega) c1 c7 (by omega) (by omega) hd0 (fun q H1 hP1 hD1 hV1 => ?_)
  refine zc_size (fun hz => ?_)
  obtain rfl : q = G.2.2.1 n := zc_q hL (by omega) s3 hD1 hP1 (by omega)
  rw [zc_app s3] at hP1
  refine lv_dup hx hb hd1 rfl ?_
  have hlast : va_P G.1 vwCl (zc_ws G n (n + 1) (fun _ => .inr (ci, zc_df ci))) H1 := by
    rw [zc_PI] at hP1 ⊢
    intro o h1 h2
    obtain rfl : o = n := by omega
    have := hP1 o s3 (by omega)
    rwa [zc_us] at this
  have hold : va_P G.1 vwCl (zc_ws G k n Z) H1 := by
    rw [zc_PI] at hP1 ⊢
    intro o h1 h2
    have := hP1 o h1 (by omega)
    rwa [zc_un (by omega)] at this
  have hsz : H1.size = G.2.2.1 0 + (n + 1) := by
    rw [zc_PI] at hlast
    have := (hlast n (Nat.le_refl n) (by omega)).lt
    have hLn := hL n (by omega)
    have this : G.2.2.1 n < H1.size := this
    omega
  have hpre : PreS s H1 (va_Pc [.ref (G.2.2.1 n)] (fun U => U.heap.size = G.2.2.1 0 + (n + 1) ∧ va_P G.1 vwCl (zc_ws G n (n + 1) (fun _ => .inr (ci, zc_df ci))) U.heap ∧ zc_K G U)) [.ref (G.2.2.1 n)] := ⟨zc_blind (m := 0), fun U hU hW => ⟨rfl, by rw [hU]; exact hsz, by rw [hU]; exact hlast, zc_K.go hK hW.alike (fun _ _ _ _ h => va_Nw.warmM hW h)⟩⟩
  have run : va_Run p l e R s m args below meth c H1 locs (cells + 1) (slots + nf) mm y' (F0 m (pc + 3 + 1) ls (.ref (G.2.2.1 n) :: .ref (G.2.2.1 n) :: st)) (.ref (G.2.2.1 n) :: st) (zc_Q G n (n + (mm + 1)) (Value.ref (G.2.2.1 n) :: []).toArray) (zc_A G n) := by
    have hrm : (lv_room (m := m) (pc := pc + 3 + 1) (ls := ls) (rest := .ref (G.2.2.1 n) :: .ref (G.2.2.1 n) :: st) (st := .ref (G.2.2.1 n) :: st) (by show 1 + (st.map fun v => v.category).sum ≤ 8; omega)) = (lv_room (m := m) (pc := pc + 3 + 1) (ls := ls) (rest := .ref (G.2.2.1 n) :: .ref (G.2.2.1 n) :: st) (st := .ref (G.2.2.1 n) :: st) (by show 1 + (st.map fun v => v.category).sum ≤ 8; omega)) := rfl
    rcases hik with hlk | ⟨host, hlk⟩
    · exact va_runI (As := []) ⟨hx, hb, hml, hown, hts⟩ hM ⟨callB_of 0 hts (zw_goodIn i4) (by rw [← i7]; rfl) rfl rfl (hts _ i3) (hts _ hlk) i5 ⟨hfr, by show 8 + (N.2.2.1 + 11) + 36 * d ≤ R.locals; omega⟩, i8, hts _ i2⟩ hpre rfl rfl hl rfl (lv_room (by show 1 + (st.map fun v => v.category).sum ≤ 8; omega)) hd2 ⟨by omega, by omega⟩
    · exact va_runIN (As := []) ⟨hx, hb, hml, hown, hts⟩ hM ⟨va_cnB 0 hts (zw_goodIn i4) (by rw [← i7]; rfl) rfl rfl (hK.2.1 _ _ _ _ hlk) (hts _ i3) i5 ⟨hfr, by show 8 + (N.2.2.1 + 11) + 36 * d ≤ R.locals; omega⟩, i8, hts _ i2⟩ hpre rfl rfl hl rfl (lv_room (by show 1 + (st.map fun v => v.category).sum ≤ 8; omega)) hd2 ⟨by omega, by omega⟩
  intro T1 hT1 X1
  obtain ⟨v, st₀, t, T', Lc, h0, X', hLc, e1, e2, ⟨hv, hPt, hz1, hk1⟩, stp⟩ := run T1 hT1 X1
  cases hv
  rw [h0] at hz1 hk1
  have hP2 := zc_join (k := k) hL (by omega) hold s3 hPt (fun q a b => hk1 q a b) (by omega)
  obtain ⟨t2, a1, b1⟩ := kk T'.heap (locs ++ Lc) (cells + 1 + mm) (slots + nf + y') ⟨by omega, by omega, by omega, hn, by rw [e1]; exact hP2, ⟨Nat.le_trans hV1.1 (by rw [e1]; exact hz1), fun q a b => by
      rw [e1, hk1 q (Nat.lt_of_lt_of_le a hV1.1) (fun z => b (Nat.le_trans (by omega) z))]; exact hV1.2.1 q a b, fun q hq => by
      rcases List.mem_append.mp hq with h | h
      · exact hV1.2.2 q h
      · exact Nat.le_trans (by omega) (hLc q h)⟩⟩ T' rfl X'
  exact ⟨t2, stp t2 a1, b1⟩
/-- a constructor's contract out of a walk of its body -/
theorem zc_enter {N : zw_M} {mm ci yy : Nat} (him : zc_IM N) (hL : zc_L G) (hk : k + (mm + 1) ≤ 182) (hmx : 1 ≤ N.2.2.1) (body : ∀ (p : Program) (e : Env) (s : State) (m : MethodId) (args : Array Value) (below : List Frame) (meth : Method) (c : Code) (Q : State → Prop) (ls : Array Slot), zc_C G d N k (k + (mm + 1)) p { frames := d, cells := mm, slots := yy, locals := 36 * d } s m args meth c → meth.name = "<init>" → zc_S G { frames := d, cells := mm, slots := yy, locals := 36 * d } s k (k + (mm + 1)) (k + 1) (fun _ => .inr (ci, zc_df ci)) yy s.heap [] 0 0 → lv_has ls N.2.2.1 [(0, .ref (G.2.2.1 k))] → (∀ Z H locs cells slots pc ls, zc_S G { frames := d, cells := mm, slots := yy, locals := 36 * d } s k (k + (mm + 1)) (k + (mm + 1)) Z 0 H locs cells slots → (∀ i, k ≤ i → i < k + (mm + 1) → Z i = zw_cell G zc_0 i) → decode N.2.1 pc = .ok (.return_, 1) → W p l e { frames := d, cells := mm, slots := yy, locals := 36 * d } s m args below meth c H locs cells slots Q (F0 m pc ls [])) → W p l e { frames := d, cells := mm, slots := yy, locals := 36 * d } s m args below meth c s.heap [] 0 0 Q (F0 m 0 ls [])) : zc_T l G d N k mm ci yy := by
  obtain ⟨i2, i3, i4, i5, i6, i7, i8, i9⟩ := him
  refine va_MetF (cc := N.2.1) (maxL := N.2.2.1) (ret := N.2.2.2) i9 rfl ?_
  intro p e s m args below meth c s₁ B hml hv
  obtain ⟨rfl, hsz, hP, hK⟩ := hv
  have hts := atoms_spec (ws := zw_wds N) B.pre
  have hlocks := B.notSynchronized
  have hin : meth.name = "<init>" := (name_of_methodNamed B.named B.method).1.trans i8
  have hls := lv_entry ([.ref (G.2.2.1 k)]) (n := N.2.2.1) (by show 1 ≤ _; exact hmx)
  rw [lg_entry_eq]
  generalize (lg_sl ([.ref (G.2.2.1 k)]) ++ List.replicate (N.2.2.1 - (lg_sl ([.ref (G.2.2.1 k)])).length) Slot.unset).toArray = ls at hls ⊢
  refine body p e s m _ below meth c _ ls ⟨B.exec, B.bytes, hml, findClass_of_methodNamed B.named, fun w hw => hts w (List.mem_cons_of_mem _ hw), hK, hL, Nat.le_refl _, Nat.le_refl _, by show _ ≤ s.heap.size + mm; omega, by omega, hk⟩ hin ⟨by omega, by show 0 + yy ≤ yy; omega, by omega, by omega, hP, va_S.rf⟩ hls ?_
  intro Z H locs cells slots pc ls2 hS hZ hd
  obtain ⟨t1, t2, t3, t4, hP2, hV2⟩ := hS
  have hP3 : va_P G.1 vwCl (zc_ws G k (k + (mm + 1)) (zw_cell G zc_0)) H := by
    rw [zc_PI] at hP2 ⊢
    intro o h1 h2
    rw [← hZ o h1 h2]
    exact hP2 o h1 h2
  refine W.widen (k := mm) (n := yy) (by omega) (by show slots ≤ yy; exact t2) ?_
  exact W.vret B.exec B.bytes (B.returns.trans i7) (fun t ht hW => ⟨rfl, by rw [ht]; exact hP3, hV2.F ht⟩) hV2.2.2 hd
end Z43
