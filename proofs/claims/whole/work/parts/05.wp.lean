/-- the words of the tables that a callee may use too -/
def zw_tb : List Cond := lw_tbl.filter goodWord
theorem zw_tb_of {w : Cond} (h : w ∈ lw_tbl) (g : goodWord w = true) : w ∈ zw_tb := List.mem_filter.mpr ⟨h, g⟩
/-- what a method knows of the machine besides the store -/
def zw_K (G : zw_G) (s : State) (H : Heap) : Prop :=
  va_K G.1 vwCl (zw_tys G) s ∧ (∀ i j, i < 182 → j < 182 → G.2.2.1 i = G.2.2.1 j → i = j) ∧
  va_Z "GraftRules" "SECOND_WEIGHT" "[I" (.ref (G.2.2.1 182)) (zw_A G) s H ∧ va_Z "GraftRules" "THIRD_WEIGHT" "[I" (.ref (G.2.2.1 183)) (zw_A G) s H ∧
  (∀ k, (k = 182 ∨ k = 183 ∨ k = 184) → va_T .int (G.2.2.1 k) (G.2.2.2 k).1 (fun j => .int ((G.2.2.2 k).2 j)) (zw_A G) s H) ∧
  ∀ (a : String) (i : Nat) (b n d h : String), Cond.fieldLinkNest a i b n d h ∈ lw_tbl → va_Nw (.fieldLinkNest a i b n d h) s
theorem zw_K.go {G : zw_G} {s U : State} {H H1 : Heap} (h : zw_K G s H) (hvm : s.vm.Alike U.vm) (hn : ∀ (a : String) (i : Nat) (b n d h : String), va_Nw (.fieldLinkNest a i b n d h) s → va_Nw (.fieldLinkNest a i b n d h) U) (hq : ∀ a : Nat, a < H.size → ¬ zw_A G a → H1[a]? = H[a]?) : zw_K G U H1 :=
  ⟨va_K.moved hvm h.1, h.2.1, (h.2.2.1.moved hvm).kept hq, (h.2.2.2.1.moved hvm).kept hq, fun k hk => ((h.2.2.2.2.1 k hk).moved hvm).kept hq, fun a i b n d k hk => hn a i b n d k (h.2.2.2.2.2 a i b n d k hk)⟩
def zw_as (G : zw_G) : Nat → List (Option Value) → List (Nat × Value)
  | _, [] => []
  | i, none :: t => zw_as G (i + 1) t
  | i, some v :: t => (i, zw_v G v) :: zw_as G (i + 1) t
theorem zw_as_mem {G : zw_G} : ∀ {L : List (Option Value)} {i k : Nat} {w : Value}, (k, w) ∈ zw_as G i L ↔ ∃ j v, k = i + j ∧ L[j]? = some (some v) ∧ w = zw_v G v
  | [], i, k, w => by simp [zw_as]
  | none :: t, i, k, w => by
    rw [zw_as, zw_as_mem]
    constructor
    · rintro ⟨j, v, e, h, hw⟩
      exact ⟨j + 1, v, by omega, by simpa using h, hw⟩
    · rintro ⟨j, v, e, h, hw⟩
      cases j with
      | zero => simp at h
      | succ j => exact ⟨j, v, by omega, by simpa using h, hw⟩
  | some u :: t, i, k, w => by
    rw [zw_as, List.mem_cons, zw_as_mem]
    constructor
    · rintro (h | ⟨j, v, e, h, hw⟩)
      · cases h
        exact ⟨0, u, by omega, rfl, rfl⟩
      · exact ⟨j + 1, v, by omega, by simpa using h, hw⟩
    · rintro ⟨j, v, e, h, hw⟩
      cases j with
      | zero =>
        simp at h
        subst h
        left
        rw [hw, show k = i by omega]
      | succ j => exact Or.inr ⟨j, v, by omega, by simpa using h, hw⟩
def zw_L (G : zw_G) (nL : Nat) (L : List (Option Value)) (ls : Array Slot) : Prop := lv_has ls nL (zw_as G 0 L)
theorem zw_L.at {G : zw_G} {nL : Nat} {L : List (Option Value)} {ls : Array Slot} (h : zw_L G nL L ls) {k : Nat} {v : Value} (hk : L[k]? = some (some v)) : ls[k]? = some (.val (zw_v G v)) :=
  h.2.2 (k, zw_v G v) (zw_as_mem.mpr ⟨k, v, by omega, hk, rfl⟩)
theorem zw_cat (G : zw_G) (v : Value) : (zw_v G v).category = v.category := by cases v <;> rfl
theorem zw_L.set1 {G : zw_G} {nL i : Nat} {L : List (Option Value)} {ls : Array Slot} {x : Value} (h : lv_has ls nL ((i, zw_v G x) :: (zw_as G 0 L).filter (fun q => !(q.1 == i) && !(q.1 + 1 == i && q.2.category == 2)))) (hc : ∀ j v, j + 1 = i → L[j]? = some (some v) → ¬ v.category = 2) : zw_L G nL (L.set i (some x)) ls := by
  refine ⟨h.1, h.2.1, fun q hq => ?_⟩
  obtain ⟨k, w⟩ := q
  obtain ⟨j, v, e, hj, hw⟩ := zw_as_mem.mp hq
  have ek : k = j := by omega
  subst ek
  apply h.2.2
  by_cases hi : k = i
  · subst hi
    have : v = x := by
      rw [List.getElem?_set] at hj
      simp at hj
      exact hj.2.symm
    rw [hw, this]
    exact List.mem_cons_self
  · rw [List.getElem?_set_ne (fun q => hi q.symm)] at hj
    refine List.mem_cons_of_mem _ (List.mem_filter.mpr ⟨zw_as_mem.mpr ⟨k, v, by omega, hj, hw⟩, ?_⟩)
    by_cases h2 : k + 1 = i
    · have h3 := hc k v h2 hj
      have h4 : ¬ w.category = 2 := by rw [hw, zw_cat]; exact h3
      simp [hi, h4]
    · simp [hi, h2]
theorem zw_L.set2 {G : zw_G} {nL i : Nat} {L : List (Option Value)} {ls : Array Slot} {x : Value} (h : lv_has ls nL ((i, zw_v G x) :: (zw_as G 0 L).filter (fun q => !(q.1 == i) && (!(q.1 == i + 1) && !(q.1 + 1 == i && q.2.category == 2))))) (hc : ∀ j v, j + 1 = i → L[j]? = some (some v) → ¬ v.category = 2) : zw_L G nL ((L.set i (some x)).set (i + 1) none) ls := by
  refine ⟨h.1, h.2.1, fun q hq => ?_⟩
  obtain ⟨k, w⟩ := q
  obtain ⟨j, v, e, hj, hw⟩ := zw_as_mem.mp hq
  have ek : k = j := by omega
  subst ek
  apply h.2.2
  by_cases hi1 : k = i + 1
  · subst hi1
    rw [List.getElem?_set] at hj
    simp at hj
  · rw [List.getElem?_set_ne (fun q => hi1 q.symm)] at hj
    by_cases hi : k = i
    · subst hi
      have : v = x := by
        rw [List.getElem?_set] at hj
        simp at hj
        exact hj.2.symm
      rw [hw, this]
      exact List.mem_cons_self
    · rw [List.getElem?_set_ne (fun q => hi q.symm)] at hj
      refine List.mem_cons_of_mem _ (List.mem_filter.mpr ⟨zw_as_mem.mpr ⟨k, v, by omega, hj, hw⟩, ?_⟩)
      by_cases h2 : k + 1 = i
      · have h3 := hc k v h2 hj
        have h4 : ¬ w.category = 2 := by rw [hw, zw_cat]; exact h3
        simp [hi, hi1, h4]
      · simp [hi, hi1, h2]
/-- where a method's body stands: the machine, the words, the room for d calls more -/
def zw_C (G : zw_G) (d : Nat) (M : zw_M) (p : Program) (R : Room) (s : State) (m : MethodId) (args : Array Value) (meth : Method) (c : Code) (cells slots : Nat) : Prop :=
  p.tables.exec = Jvm.exec ∧ c.code = M.2.1 ∧ c.maxLocals = M.2.2.1 ∧ meth.sig.returnType = M.2.2.2 ∧ meth.locks = false ∧ s.vm.findClass M.1.cls = some m.cls ∧ (∀ w ∈ zw_tb, w.before args s = true) ∧ zw_K G s s.heap ∧ d ≤ R.frames ∧ 36 * d ≤ R.locals ∧ cells ≤ R.cells ∧ slots ≤ R.slots
/-- at pc a return instruction that fits the answer -/
def zw_rd (M : zw_M) (pc : Nat) (r : Option Value) : Prop :=
  (r = none ∧ M.2.2.2 = none ∧ decode M.2.1 pc = .ok (.return_, 1)) ∨
  (∃ v ty, r = some (.int v) ∧ M.2.2.2 = some ty ∧ narrow ty (.int v) = .int v ∧ decode M.2.1 pc = .ok (.ireturn, 1)) ∨
  (∃ v, r = some (.long v) ∧ M.2.2.2 = some .long ∧ decode M.2.1 pc = .ok (.lreturn, 1)) ∨
  (∃ v n, r = some v ∧ (v = .null ∨ ∃ a, v = .ref a) ∧ M.2.2.2 = some (.object n) ∧ decode M.2.1 pc = .ok (.areturn, 1))
/-- from pc, with locals L, operand stack st and store σ, the method comes to its end with an answer and a store of which P holds -/
def zw_W (l : Launch) (G : zw_G) (d : Nat) (M : zw_M) (pc : Nat) (L : List (Option Value)) (st : List Value) (σ : zw_S) (P : Option Value → zw_S → Prop) : Prop :=
  ∀ (p : Program) (e : Env) (R : Room) (s : State) (m : MethodId) (args : Array Value) (below : List Frame) (meth : Method) (c : Code) (H : Heap) (locs : List Loc) (cells slots : Nat) (Q : State → Prop) (ls : Array Slot),
    zw_C G d M p R s m args meth c cells slots → va_P G.1 vwCl (zw_ws G σ) H → va_S (zw_A G) s.heap H locs → zw_L G M.2.2.1 L ls →
    (∀ (r : Option Value) (σ' : zw_S) (H' : Heap) (locs' : List Loc) (pc' : Nat) (ls' : Array Slot), P r σ' → va_P G.1 vwCl (zw_ws G σ') H' → va_S (zw_A G) s.heap H' locs' → zw_rd M pc' r → W p l e R s m args below meth c H' locs' cells slots Q (F0 m pc' ls' (r.toList.map (zw_v G)))) →
    W p l e R s m args below meth c H locs cells slots Q (F0 m pc ls (st.map (zw_v G)))
def zw_rm (d : Nat) : Room := { frames := d, cells := 0, slots := 0, locals := 36 * d }
def zw_wds (M : zw_M) : List Cond := Cond.code M.1 M.2.1 M.2.2.1 M.2.2.2 :: zw_tb
def zw_Q (G : zw_G) (P : Option Value → zw_S → Prop) : Array Value → State → Outcome → State → Prop := fun _ st oc t =>
  (∃ (r : Option Value) (σ' : zw_S), oc = .returned (r.map (zw_v G)) ∧ P r σ' ∧ va_P G.1 vwCl (zw_ws G σ') t.heap) ∧ va_F (zw_A G) st t
/-- a method's contract: called with these arguments in store σ it ends with P -/
def zw_T (l : Launch) (G : zw_G) (d : Nat) (M : zw_M) (as : List Value) (σ : zw_S) (P : Option Value → zw_S → Prop) : Prop :=
  Met l M.1 (zw_wds M) (zw_rm d) (va_Pc (as.map (zw_v G)) (fun U => va_P G.1 vwCl (zw_ws G σ) U.heap ∧ zw_K G U U.heap)) (zw_Q G P) 0 0 (zw_A G)
def zw_eL : List Value → List (Option Value)
  | [] => []
  | v :: vs => if v.category = 2 then some v :: none :: zw_eL vs else some v :: zw_eL vs
theorem zw_eL_args (G : zw_G) : ∀ (as : List Value) (i k : Nat) (v : Value), (zw_eL as)[k]? = some (some v) → (i + k, zw_v G v) ∈ lv_args i (as.map (zw_v G))
  | [], i, k, v, h => by simp [zw_eL] at h
  | a :: t, i, k, v, h => by
    rw [List.map_cons, lv_args, zw_cat]
    rw [zw_eL] at h
    by_cases c : a.category = 2
    · rw [if_pos c] at h
      rw [if_pos c]
      match k, h with
      | 0, h => simp at h; subst h; exact List.mem_cons_self
      | 1, h => simp at h
      | k + 2, h =>
        simp at h
        have := zw_eL_args G t (i + 2) k v h
        rw [show i + 2 + k = i + (k + 2) by omega] at this
        exact List.mem_cons_of_mem _ this
    · rw [if_neg c] at h
      rw [if_neg c]
      match k, h with
      | 0, h => simp at h; subst h; exact List.mem_cons_self
      | k + 1, h =>
        simp at h
        have := zw_eL_args G t (i + 1) k v h
        rw [show i + 1 + k = i + (k + 1) by omega] at this
        exact List.mem_cons_of_mem _ this
theorem zw_eL_len (G : zw_G) : ∀ (as : List Value), (lg_sl (as.map (zw_v G))).length = (zw_eL as).length
  | [] => rfl
  | a :: t => by
    have ih := zw_eL_len G t
    unfold lg_sl at ih ⊢
    rw [List.map_cons, List.flatMap_cons, List.length_append, ih, zw_eL, zw_cat]
    by_cases c : a.category = 2
    · rw [if_pos c, if_pos c]; simp; omega
    · rw [if_neg c, if_neg c]; simp; omega
/-- a contract out of a walk of the body -/
theorem zw_enter {l : Launch} {G : zw_G} {d : Nat} {M : zw_M} {as : List Value} {σ : zw_S} {P : Option Value → zw_S → Prop} {L : List (Option Value)} (hy : plainFor M.1 = true) (hl : ((zw_eL as).length ≤ M.2.2.1)) (hL : ∀ (k : Nat) (v : Value), L[k]? = some (some v) → (zw_eL as)[k]? = some (some v)) (k : zw_W l G d M 0 L [] σ P) : zw_T l G d M as σ P := by
  refine va_MetF (cc := M.2.1) (maxL := M.2.2.1) (ret := M.2.2.2) hy rfl ?_
  intro p e s m args below meth c s₁ B hml hv
  obtain ⟨rfl, hP, hK⟩ := hv
  have hts := atoms_spec (ws := zw_wds M) B.pre
  have hlocks := B.notSynchronized
  have hls := lv_entry (as.map (zw_v G)) (n := M.2.2.1) (by rw [zw_eL_len]; exact hl)
  rw [lg_entry_eq]
  generalize (lg_sl (as.map (zw_v G)) ++ List.replicate (M.2.2.1 - (lg_sl (as.map (zw_v G))).length) Slot.unset).toArray = ls at hls ⊢
  have hL2 : zw_L G M.2.2.1 L ls := by
    refine ⟨hls.1, hls.2.1, fun q hq => ?_⟩
    obtain ⟨j, w⟩ := q
    obtain ⟨i, v, e1, e2, e3⟩ := zw_as_mem.mp hq
    have := zw_eL_args G as 0 i v (hL i v e2)
    have h2 := hls.2.2 _ this
    rw [e3, e1]
    exact h2
  refine k p e _ s m _ below meth c s.heap [] 0 0 _ ls ⟨B.exec, B.bytes, hml, B.returns, hlocks, findClass_of_methodNamed B.named, fun w hw => hts w (List.mem_cons_of_mem _ hw), hK, Nat.le_refl _, Nat.le_refl _, Nat.zero_le _, Nat.zero_le _⟩ hP va_S.rf hL2 ?_
  intro r σ' H' locs' pc' ls' hPr hP' hS' hrd
  have hq : ∀ t : State, t.heap = H' → s.WarmedH t.vm → zw_Q G P (as.map (zw_v G)).toArray s (.returned (r.map (zw_v G))) t := fun t ht hW => ⟨⟨r, σ', rfl, hPr, by rw [ht]; exact hP'⟩, hS'.F ht⟩
  rcases hrd with ⟨rfl, hr, hd⟩ | ⟨v, ty, rfl, hr, hn, hd⟩ | ⟨v, rfl, hr, hd⟩ | ⟨v, n, rfl, hv, hr, hd⟩
  · exact W.vret B.exec B.bytes (B.returns.trans hr) hq hS'.2.2 hd
  · exact W.zret B.exec B.bytes (B.returns.trans hr) hn hq hS'.2.2 hd
  · exact W.lret B.exec B.bytes (B.returns.trans hr) hq hS'.2.2 hd
  · refine W.aret B.exec B.bytes (B.returns.trans hr) (Or.inl ⟨n, rfl⟩) ?_ hq hS'.2.2 hd
    rcases hv with rfl | ⟨a, rfl⟩
    · exact Or.inl rfl
    · exact Or.inr ⟨_, rfl⟩
