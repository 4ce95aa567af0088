/-! MAKING: multianewarray of two rows of eight longs, which has no row in the kit: the instruction's own meaning, step by step -/
def zm_O (c : ClassId) : Cell := { cls := c, slots := Array.replicate 2 .null, vm := .none }
def zm_I (c : ClassId) : Cell := { cls := c, slots := Array.replicate 8 (.long 0), vm := .none }
def zm_1 (T : State) (c k : ClassId) : State := ((T.pushCell (zm_O c)).pushCell (zm_I k)).setCell T.heap.size ((zm_O c).setSlot 0 (.ref (T.heap.size + 1)))
def zm_2 (T : State) (c k : ClassId) : State := ((zm_1 T c k).pushCell (zm_I k)).setCell T.heap.size (((zm_O c).setSlot 0 (.ref (T.heap.size + 1))).setSlot 1 (.ref (T.heap.size + 2)))
section Z47a
variable {E : CtlPost} {e : Env} {d : Bool} {acts : List Action} {s : State}
theorem zm_s0 {c : ClassId} : (s.pushCell (zm_O c)).heap.size = s.heap.size + 1 := by simp
theorem zm_h0 {c k : ClassId} : ((s.pushCell (zm_O c)).pushCell (zm_I k)).heap[s.heap.size]? = some (zm_O c) := by
  have h : s.heap.size < (s.pushCell (zm_O c)).heap.size := by rw [zm_s0]; omega
  rw [State.heap_pushCell_of_lt (h := h)]
  exact State.heap_pushCell_size _ _
theorem zm_s1 {c k : ClassId} : (zm_1 s c k).heap.size = s.heap.size + 2 := by
  unfold zm_1; simp [State.setCell]
theorem zm_h1 {c k : ClassId} : ((zm_1 s c k).pushCell (zm_I k)).heap[s.heap.size]? = some ((zm_O c).setSlot 0 (.ref (s.heap.size + 1))) := by
  have h : s.heap.size < (zm_1 s c k).heap.size := by rw [zm_s1]; omega
  rw [State.heap_pushCell_of_lt (h := h)]
  exact State.heap_setCell_self zm_h0
theorem zm_u0 {c : ClassId} : (s.pushCell (zm_O c)).slotsUsed = s.slotsUsed + 2 := by simp [zm_O]
theorem zm_u1 {c k : ClassId} : (zm_1 s c k).slotsUsed = s.slotsUsed + 10 := by simp [zm_1, zm_O, zm_I]
theorem zm_vm1 {c k : ClassId} : (zm_1 s c k).vm = s.vm := rfl
theorem zm_make1 {c k : ClassId} {kc : Class} {cc : ClassId} (hk : s.vm.classes[k]? = some kc) (hkind : kc.kind = .array cc .long) (hl : ¬ 8 > e.platform.arrayLengthLimit) (hh : ¬ 8 * componentBytes .long > e.platform.maxHeapBytes) (h1 : s.heap.size < e.platform.maxCells) (h2 : s.slotsUsed + 8 ≤ e.platform.maxSlots) {Q : Addr → Pre} (hq : ∀ acts', Q s.heap.size d acts' (s.pushCell (zm_I k))) : wp (multianewarray.make k [nI 8]) Q E e d acts s := by
  rw [multianewarray.make]
  simp only [wp_bind', W.ite, show ¬ nI 8 < 0 by decide, if_false, wp_pure', W.theClass, hk, hkind, Option.some.injEq, exists_eq_left']
  exact W.newArray_of hk hkind hl hh h1 h2 rfl hq
theorem zm_make2 {c k : ClassId} {kA kc : Class} {cc : ClassId} (hkA : s.vm.classes[c]? = some kA) (hkindA : kA.kind = .array k (.array .long)) (hk : s.vm.classes[k]? = some kc) (hkind : kc.kind = .array cc .long) (hl2 : ¬ 2 > e.platform.arrayLengthLimit) (hh2 : ¬ 2 * componentBytes (.array .long) > e.platform.maxHeapBytes) (hl : ¬ 8 > e.platform.arrayLengthLimit) (hh : ¬ 8 * componentBytes .long > e.platform.maxHeapBytes) (h1 : s.heap.size + 3 ≤ e.platform.maxCells) (h2 : s.slotsUsed + 18 ≤ e.platform.maxSlots) {Q : Addr → Pre} (hq : ∀ d' acts', Q s.heap.size d' acts' (zm_2 s c k)) : wp (multianewarray.make c [nI 2, nI 8]) Q E e d acts s := by
  rw [multianewarray.make]
  simp only [wp_bind', W.ite, show ¬ nI 2 < 0 by decide, if_false, wp_pure', W.theClass, hkA, hkindA, Option.some.injEq, exists_eq_left']
  refine W.newArray_of hkA hkindA hl2 hh2 (by omega) (by show s.slotsUsed + 2 ≤ _; omega) rfl (fun acts1 => ?_)
  rw [show ({ cls := c, slots := Array.replicate (nI 2).toNatClampNeg .null } : Cell) = zm_O c from rfl]
  simp only [show (nI 2 == 0) = false by decide, Bool.false_eq_true, if_false, wp_pure']
  rw [wp_bind', Std.Legacy.Range.forIn_eq_forIn_range']
  show wp (forIn [0, 1] PUnit.unit _) _ E e _ _ _
  simp only [List.forIn_cons, List.forIn_nil, wp_bind']
  refine zm_make1 (c := c) (s := s.pushCell (zm_O c)) hk hkind hl hh (by rw [zm_s0]; omega) (by rw [zm_u0]; omega) (fun acts2 => ?_)
  rw [zm_s0]
  simp only [wp_bind', W.writeLoc, wp_pure']
  refine ⟨zm_O c, zm_h0, (by intro h; cases h), (by simp [zm_O]), ?_, ?_⟩
  · simp [State.fitsSlot, State.slotType?, zm_O, hkA, hkindA, fits]
  · show wp _ _ E e _ _ (zm_1 s c k)
    refine zm_make1 (c := c) (s := zm_1 s c k) hk hkind hl hh (by rw [zm_s1]; omega) (by rw [zm_u1]; omega) (fun acts3 => ?_)
    rw [zm_s1]
    simp only [wp_bind', W.writeLoc, wp_pure']
    refine ⟨_, zm_h1, (by intro h; cases h), (by simp [zm_O, Cell.setSlot]), ?_, ?_⟩
    · simp [State.fitsSlot, State.slotType?, zm_O, Cell.setSlot, zm_vm1, hkA, hkindA, fits]
    · exact hq _ _
theorem zm_top {c k : ClassId} (f : JFrame) : zm_2 (s.setTop f) c k = (zm_2 s c k).setTop f := by
  simp only [zm_2, zm_1, State.heap_setTop, State.pushCell_setTop, State.setCell_setTop]
end Z47a
section Z47b
variable {p : Program} {l : Launch} {e : Env} {R : Room} {s : State} {m : MethodId} {args : Array Value} {below : List Frame} {meth : Method} {c : Code} {T : State} {locs : List Loc} {cells slots : Nat}
theorem zm_stand (X : Stand p l e R s m args below meth c T locs cells slots) (cA k : ClassId) : Stand p l e R s m args below meth c (zm_2 T cA k) (locs ++ [⟨T.heap.size, 0⟩] ++ [⟨T.heap.size, 1⟩]) (cells + 3) (slots + 18) := by
  have XB := ((X.pushed (zm_O cA)).pushed (zm_I k)).stored (zm_h0 (s := T) (c := cA) (k := k)) 0 (.ref (T.heap.size + 1))
  have XC := (Stand.pushed (T := zm_1 T cA k) XB (zm_I k)).stored (zm_h1 (s := T) (c := cA) (k := k)) 1 (.ref (T.heap.size + 2))
  exact XC
theorem zm_step (X : Stand p l e R s m args below meth c T locs cells slots) (hexec : p.tables.exec = Jvm.exec) {own : String} {index : Nat} (hown : s.vm.findClass own = some m.cls) (hclink : (Cond.classLink own index "[[J").before args s = true) {cA comp cc : ClassId} {kA kC : Class} (hfA : s.vm.findClass "[[J" = some cA) (hkA : s.vm.classes[cA]? = some kA) (hkindA : kA.kind = .array comp (.array .long)) (hkC : s.vm.classes[comp]? = some kC) (hkindC : kC.kind = .array cc .long) {g : JFrame} (hg : g.method = m) (hdg : decode c.code g.pc = .ok (.multianewarray index 2, 4)) {rest : List Value} (hstack : g.stack = .int (nI 8) :: .int (nI 2) :: rest) (hcells : cells + 3 ≤ R.cells) (hslots : slots + 18 ≤ R.slots) : ∃ vm₁ : Vm, Stand p l e R s m args below meth c (zm_2 (T.setVm vm₁) cA comp) (locs ++ [⟨T.heap.size, 0⟩] ++ [⟨T.heap.size, 1⟩]) (cells + 3) (slots + 18) ∧ ∀ target, Steps p.tables e below ((zm_2 (T.setVm vm₁) cA comp).setTop { g with pc := g.pc + 4, stack := .ref T.heap.size :: rest }) target → Steps p.tables e below (T.setTop g) target := by
  subst hg
  have hpl : e.platform.magicAccessors = ({} : Platform).magicAccessors := by rw [X.admits.platform]
  obtain ⟨c0, hfc0, hcl⟩ := Cond.classLink_spec hown hclink e.platform hpl
  cases hfA.symm.trans hfc0
  obtain ⟨hg₁, hwarm₁, -⟩ := State.classEntry (e := e) X.warmed hcl
  generalize T.vm.noted g.method.cls index (.cls cA) = vm₁ at hg₁ hwarm₁
  obtain ⟨kA₁, hkA₁, heA⟩ := hwarm₁.alike.2.2 _ _ hkA
  obtain ⟨kC₁, hkC₁, heC⟩ := hwarm₁.alike.2.2 _ _ hkC
  have hkindA₁ : kA₁.kind = .array comp (.array .long) := by rw [heA]; exact hkindA
  have hkindC₁ : kC₁.kind = .array cc .long := by rw [heC]; exact hkindC
  obtain ⟨hr1, hr2⟩ := X.roomAbove hcells hslots
  have XS := zm_stand (X.noted hwarm₁) cA comp
  refine ⟨vm₁, XS, fun target hrest => ?_⟩
  have hlim : e.platform.arrayLengthLimit ≥ 8 := by rw [Launch.admits_arrayLengthLimit X.admits]; decide
  have hhp : e.platform.maxHeapBytes ≥ 64 := by rw [Launch.admits_maxHeapBytes X.admits]; decide
  jvm_step X.here [hexec, hdg]
  simp only [multianewarray.sem, wp_bind', W.resolveClassAt_links (State.method?_setTop g X.here.top) hg₁]
  rw [W.popN, if_neg (by decide)]
  refine ⟨g, State.topJava?_setTop' (s := T.setVm vm₁) g X.here.top, [.int (nI 2), .int (nI 8)], rest, rfl, hstack, ?_⟩
  simp only [List.mapM_cons, List.mapM_nil, wp_bind', wp_pure']
  refine zm_make2 hkA₁ hkindA₁ hkC₁ hkindC₁ (by omega) (by show ¬ 2 * 4 > _; omega) (by omega) (by show ¬ 8 * 8 > _; omega) (by show T.heap.size + 3 ≤ _; omega) (by show T.slotsUsed + 18 ≤ _; omega) (fun d' acts' => ?_)
  have eS : ((T.setTop g).setVm vm₁).setTop { g with stack := rest } = (T.setVm vm₁).setTop { g with stack := rest } := by
    show ((T.setVm vm₁).setTop g).setTop _ = _
    rw [State.setTop_setTop]
  rw [eS, zm_top]
  simp only [wp_bind', W.mark, W.pushRef, State.topJava?_setTop' _ XS.here.top, Option.some.injEq, exists_eq_left', State.setTop_setTop, State.heap_setTop]
  intro acts
  simp [jvm, XS.here.top]
  exact hrest
end Z47b
