/-! MAKING: two rows of eight longs, as cells -/
section Z48a
variable {s : State} {c k : ClassId}
theorem zm_s2 : (zm_2 s c k).heap.size = s.heap.size + 3 := by
  unfold zm_2; simp [State.setCell, zm_s1]
theorem zm_a : (zm_2 s c k).heap[s.heap.size]? = some (((zm_O c).setSlot 0 (.ref (s.heap.size + 1))).setSlot 1 (.ref (s.heap.size + 2))) := State.heap_setCell_self zm_h1
theorem zm_old {q : Nat} (hq : q < s.heap.size) : (zm_2 s c k).heap[q]? = s.heap[q]? := by
  have h1 : q < (zm_1 s c k).heap.size := by rw [zm_s1]; omega
  have h0 : q < (s.pushCell (zm_O c)).heap.size := by rw [zm_s0]; omega
  unfold zm_2
  rw [State.heap_setCell_other (show s.heap.size ≠ q by omega), State.heap_pushCell_of_lt (h := h1)]
  unfold zm_1
  rw [State.heap_setCell_other (show s.heap.size ≠ q by omega), State.heap_pushCell_of_lt (h := h0), State.heap_pushCell_of_lt (h := hq)]
theorem zm_b : (zm_2 s c k).heap[s.heap.size + 1]? = some (zm_I k) := by
  have h1 : s.heap.size + 1 < (zm_1 s c k).heap.size := by rw [zm_s1]; omega
  unfold zm_2
  rw [State.heap_setCell_other (show s.heap.size ≠ s.heap.size + 1 by omega), State.heap_pushCell_of_lt (h := h1)]
  unfold zm_1
  rw [State.heap_setCell_other (show s.heap.size ≠ s.heap.size + 1 by omega), ← zm_s0 (s := s) (c := c)]
  exact State.heap_pushCell_size _ _
theorem zm_c : (zm_2 s c k).heap[s.heap.size + 2]? = some (zm_I k) := by
  unfold zm_2
  rw [State.heap_setCell_other (show s.heap.size ≠ s.heap.size + 2 by omega), ← zm_s1 (s := s) (c := c) (k := k)]
  exact State.heap_pushCell_size _ _
theorem zm_Iv : zm_I k = arrV k 8 (fun _ => .long 0) := arrV_new k 8 (.long 0)
theorem zm_Ov {a b : Nat} {f : Nat → Value} (h0 : f 0 = .ref a) (h1 : f 1 = .ref b) : ((zm_O c).setSlot 0 (.ref a)).setSlot 1 (.ref b) = arrV c 2 f := by
  rw [show zm_O c = arrV c 2 (fun _ => .null) from arrV_new c 2 .null, arrV_store, arrV_store]
  refine zc_arr (fun j hj => ?_)
  rcases (show j = 0 ∨ j = 1 by omega) with rfl | rfl
  · simp [updV, h0]
  · simp [updV, h1]
end Z48a
section Z48
variable {p : Program} {l : Launch} {e : Env} {R : Room} {s : State} {m : MethodId} {args : Array Value} {below : List Frame} {meth : Method} {c : Code} {H : Heap} {locs : List Loc} {cells slots : Nat} {Q : State → Prop} {pc : Nat} {ls : Array Slot} {st : List Value}
variable {G : zw_G} {d k E n y ci o : Nat} {M : zw_M} {fs : List Value} {X : va_E}
theorem zv_multi {idx : Nat} (hC : zc_C G d M k E p R s m args meth c) (hV : zc_X G R s k E n ci fs o X (y + 18) H locs cells slots) (hd : decode M.2.1 pc = .ok (.multianewarray idx 2, 4)) (hlk : Cond.classLink M.1.cls idx "[[J" ∈ zw_tb) (hn : n + 3 ≤ E) (k0 : zw_kd n = 14) (k1 : zw_kd (n + 1) = 11) (k2 : zw_kd (n + 2) = 11) (l0 : zw_ln n = 2) (l1 : zw_ln (n + 1) = 8) (l2 : zw_ln (n + 2) = 8) (he : ∀ j, zw_er n j = n + 1 + j) (kk : ∀ H1 locs1, zc_X G R s k E (n + 3) ci fs o X y H1 locs1 (cells + 3) (slots + 18) → W p l e R s m args below meth c H1 locs1 (cells + 3) (slots + 18) Q (F0 m (pc + 4) ls (.ref (G.2.2.1 n) :: st))) : W p l e R s m args below meth c H locs cells slots Q (F0 m pc ls (.int (nI 8) :: .int (nI 2) :: st)) := by
  obtain ⟨hx, hb, hml, hown, hts, hK, hL, hfr, hlo, hce, hks, h182⟩ := hC
  obtain ⟨Z, ⟨s1, s2, s3, s4, hP, hVs⟩, h1, h2, h3, h4⟩ := hV
  refine zc_size (fun hz => ?_)
  have hsz : H.size = G.2.2.1 0 + n := by
    rw [zc_PI] at hP
    have hh : G.2.2.1 (n - 1) < H.size := (hP (n - 1) (by omega) (by omega)).lt
    have hLn := hL (n - 1) (by omega)
    omega
  have hLn := hL n (by omega)
  have hLn1 := hL (n + 1) (by omega)
  have hLn2 := hL (n + 2) (by omega)
  have hfA : s.vm.findClass "[[J" = some (G.2.1 4) := (hK.1.2 4 (G.2.1 4, .array .long) rfl).2
  obtain ⟨kA, hkA, hkindA⟩ := hK.2.2.2.2
  obtain ⟨-, kC, hkC, cc, hkindC⟩ := (hK.1.2 1 (G.2.1 1, .long) rfl).1 0 (fun _ => .null)
  intro T hT XX
  obtain ⟨vm₁, X', stp⟩ := zm_step XX hx hown (hts _ hlk) hfA hkA hkindA hkC hkindC (g := F0 m pc ls (.int (nI 8) :: .int (nI 2) :: st)) (rest := st) rfl (by rw [hb]; exact hd) rfl (by omega) (by omega)
  have hT' : (T.setVm vm₁).heap = H := hT
  have eT : T.heap.size = G.2.2.1 0 + n := by rw [hT]; exact hsz
  have a0 := zm_a (s := T.setVm vm₁) (c := G.2.1 4) (k := G.2.1 1)
  have a1 := zm_b (s := T.setVm vm₁) (c := G.2.1 4) (k := G.2.1 1)
  have a2 := zm_c (s := T.setVm vm₁) (c := G.2.1 4) (k := G.2.1 1)
  have a3 := zm_s2 (s := T.setVm vm₁) (c := G.2.1 4) (k := G.2.1 1)
  have a4 := fun q => zm_old (s := T.setVm vm₁) (c := G.2.1 4) (k := G.2.1 1) (q := q)
  rw [hT', hsz] at a0 a1 a2 a3 a4
  generalize hH1 : (zm_2 (T.setVm vm₁) (G.2.1 4) (G.2.1 1)).heap = H1 at a0 a1 a2 a3 a4
  rw [eT] at X' stp
  have hX1 : zc_X G R s k E (n + 3) ci fs o X y H1 (locs ++ [⟨G.2.2.1 0 + n, 0⟩] ++ [⟨G.2.2.1 0 + n, 1⟩]) (cells + 3) (slots + 18) := by
    refine ⟨fun i => if i < n then Z i else zw_cell G zc_0 i, ⟨by omega, by omega, by omega, hn, ?_, ?_⟩, by omega, by show (if k < n then _ else _) = _; rw [if_pos h1]; exact h2, fun q => ?_, fun i a b q => ?_⟩
    · rw [zc_PI] at hP ⊢
      intro i x1 x2
      by_cases q : i < n
      · rw [if_pos q]
        have h := hP i x1 q
        have hLi := hL i (by omega)
        refine h.kept (a4 _ ?_)
        show G.2.2.1 i < G.2.2.1 0 + n
        omega
      · rw [if_neg q]
        rcases (show i = n ∨ i = n + 1 ∨ i = n + 2 by omega) with rfl | rfl | rfl
        · rw [zw_cell_q (c := 2) (by rw [k0])]
          show H1[G.2.2.1 i]? = some (vp_cell _ _)
          rw [hLn, a0, vp_cell_q, l0]
          congr 1
          refine zm_Ov ?_ ?_
          · show va_rf (zw_el G i 0) = _
            unfold zw_el
            rw [if_pos (by rw [l0]; decide), he]
            show Value.ref (G.2.2.1 (i + 1 + 0)) = _
            rw [Nat.add_zero, hLn1]; rfl
          · show va_rf (zw_el G i 1) = _
            unfold zw_el
            rw [if_pos (by rw [l0]; decide), he]
            show Value.ref (G.2.2.1 (i + 1 + 1)) = _
            rw [show i + 1 + 1 = i + 2 from rfl, hLn2]; rfl
        · rw [zw_cell_l k1]
          show H1[G.2.2.1 (n + 1)]? = some (vp_cell _ _)
          rw [hLn1, show G.2.2.1 0 + (n + 1) = G.2.2.1 0 + n + 1 by omega, a1, vp_cell_l, l1, zm_Iv]; rfl
        · rw [zw_cell_l k2]
          show H1[G.2.2.1 (n + 2)]? = some (vp_cell _ _)
          rw [hLn2, show G.2.2.1 0 + (n + 2) = G.2.2.1 0 + n + 2 by omega, a2, vp_cell_l, l2, zm_Iv]; rfl
    · refine ⟨by have := hVs.1; omega, fun q x1 x2 => ?_, fun q hq => ?_⟩
      · rw [a4 q (by have := hVs.1; omega)]
        exact hVs.2.1 q x1 x2
      · rcases List.mem_append.mp hq with hq | hq
        · rcases List.mem_append.mp hq with hq | hq
          · exact hVs.2.2 q hq
          · rw [List.mem_singleton.mp hq]
            show G.2.2.1 0 + k ≤ G.2.2.1 0 + n
            omega
        · rw [List.mem_singleton.mp hq]
          show G.2.2.1 0 + k ≤ G.2.2.1 0 + n
          omega
    · obtain ⟨x1, x2, x3⟩ := h3 q
      exact ⟨by show (if o < n then _ else _) = _; rw [if_pos x3]; exact x1, x2, by omega⟩
    · show (if i < n then _ else _) = _
      by_cases r : i < n
      · rw [if_pos r]; exact h4 i a r q
      · rw [if_neg r]
  obtain ⟨t2, b1, b2⟩ := kk H1 _ hX1 _ hH1 X'
  refine ⟨t2, stp t2 ?_, b2⟩
  rw [hLn] at b1
  exact b1
end Z48
