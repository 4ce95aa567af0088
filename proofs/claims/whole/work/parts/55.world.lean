/-! THE WORLD AT THE LAW'S ENTRY -/
theorem zl_over {args : Array Value} {s : State} {t : FieldType} (h : (Cond.arrayOver (.array t)).before args s = true) : ∃ (cp ca : ClassId) (ka : Class), s.vm.findClass (FieldType.array t).toString = some cp ∧ s.vm.classes[ca]? = some ka ∧ ka.kind = .array cp (.array t) ∧ s.vm.findClass ("[" ++ (FieldType.array t).toString) = some ca := by
  simp only [Cond.before, Cond.holds, Cond.value, beq_iff_eq] at h
  cases e : s.vm.findClass (FieldType.array t).toString with
  | none => simp [e] at h
  | some cp =>
    simp only [e, Option.bind_some, Option.bind_eq_some_iff, Option.map_eq_some_iff] at h
    obtain ⟨ca, h1, ka, h2, h3⟩ := h
    have h4 := (Array.findIdx?_eq_some_iff_getElem.mp h1).2.1
    rw [(Array.getElem?_eq_some_iff.mp h2).2] at h4
    cases q : ka.kind with
    | array cp2 ty =>
      rw [q] at h3 h4
      simp at h3 h4
      exact ⟨cp, ca, ka, rfl, h2, by rw [q, h4, h3.1], h3.2⟩
    | _ => rw [q] at h3; simp at h3
theorem zl_ar {s : State} {cA comp : ClassId} {kA : Class} {ty : FieldType} (h2 : s.vm.classes[cA]? = some kA) (h3 : kA.kind = .array comp ty) : ArrOfT s cA ty := fun N z => ⟨(fun k h => by cases h), kA, h2, comp, h3⟩
theorem zl_kn {own : String} {i ci N : Nat} {A : Array Value} {s : State} (hts : ∀ w ∈ zw_tb, w.before A s = true) (h : zc_CL own i ci N) : ∃ f : ClassId × (Nat → Nat), ∀ q : vw_C, vwCl[ci]? = some q → u_Kn s q.1 q.2.1 q.2.2 f.1 f.2 := by
  obtain ⟨C, T, ty, c1, c2, c3, c4, c5, c6, c7⟩ := h
  obtain ⟨cC, iS, hk⟩ := u_known hts c2 (hts _ c5)
  exact ⟨(cC, iS), fun q hq => by rw [c1] at hq; cases hq; exact hk⟩
theorem zl_G1 {A : Array Value} {s : State} (hts : ∀ w ∈ zw_tb, w.before A s = true) : ∃ D : va_G, ∀ (c : Nat) (q : vw_C), vwCl[c]? = some q → u_Kn s q.1 q.2.1 q.2.2 (D.1 c) (D.2 c) := by
  have this : ∀ c : Nat, ∃ f : ClassId × (Nat → Nat), ∀ q : vw_C, vwCl[c]? = some q → u_Kn s q.1 q.2.1 q.2.2 f.1 f.2 := by
    intro c
    match c with
    | 0 => exact zl_kn hts clX8_29
    | 1 => exact zl_kn hts clX8_16
    | 2 => exact zl_kn hts clX8_23
    | 3 => exact zl_kn hts clX8_36
    | 4 => exact zl_kn hts clX6_9
    | 5 => exact zl_kn hts clX8_43
    | 6 => exact zl_kn hts clX8_9
    | 7 => exact zl_kn hts clX8_50
    | 8 => exact zl_kn hts clL_7
    | 9 => exact zl_kn hts clL_10
    | c + 10 => exact ⟨(0, fun _ => 0), fun q hq => by simp [vwCl] at hq⟩
  obtain ⟨f, hf⟩ := Classical.axiomOfChoice this
  exact ⟨(fun c => (f c).1, fun c => (f c).2), fun c q h => hf c q h⟩
theorem zl_G2 {A : Array Value} {s : State} (hts : ∀ w ∈ lw_tbl, w.before A s = true) : ∃ g : Nat → ClassId, (∀ (k : Nat) (q : ClassId × FieldType), ([(g 0, .int), (g 1, .long), (g 2, .object "GraftRules$Image"), (g 3, .object "GraftRules$State"), (g 4, .array .long)] : List (ClassId × FieldType))[k]? = some q → ArrOfT s q.1 q.2 ∧ va_RA s q.1 q.2) ∧ ∃ kA : Class, s.vm.classes[g 4]? = some kA ∧ kA.kind = .array (g 1) (.array .long) := by
  obtain ⟨a0, k0, m0, f0, h0, t0⟩ := Cond.arrayClass_spec (hts (.arrayClass .int) (List.mem_of_getElem? (i := 102) (by decide +kernel)))
  obtain ⟨a1, k1, m1, f1, h1, t1⟩ := Cond.arrayClass_spec (hts (.arrayClass .long) (List.mem_of_getElem? (i := 226) (by decide +kernel)))
  obtain ⟨m2, a2, k2, f2, -, h2, t2, n2⟩ := Cond.arrayOver_spec (hts (.arrayOver (.object "GraftRules$Image")) (List.mem_of_getElem? (i := 139) (by decide +kernel)))
  obtain ⟨m3, a3, k3, f3, -, h3, t3, n3⟩ := Cond.arrayOver_spec (hts (.arrayOver (.object "GraftRules$State")) (List.mem_of_getElem? (i := 125) (by decide +kernel)))
  obtain ⟨m4, a4, k4, f4, h4, t4, n4⟩ := zl_over (hts (.arrayOver (.array .long)) (List.mem_of_getElem? (i := 210) (by decide +kernel)))
  obtain rfl : m4 = a1 := Option.some.inj (f4.symm.trans f1)
  refine ⟨fun k => match k with | 0 => a0 | 1 => m4 | 2 => a2 | 3 => a3 | _ => a4, ?_, k4, h4, t4⟩
  intro k q hq
  match k, hq with
  | 0, hq => cases hq; exact ⟨zl_ar h0 t0, f0⟩
  | 1, hq => cases hq; exact ⟨zl_ar h1 t1, f1⟩
  | 2, hq => cases hq; exact ⟨zl_ar h2 t2, k2, m2, h2, t2, f2, n2⟩
  | 3, hq => cases hq; exact ⟨zl_ar h3 t3, k3, m3, h3, t3, f3, n3⟩
  | 4, hq => cases hq; exact ⟨zl_ar h4 t4, n4⟩
  | k + 5, hq => simp at hq
theorem zl_S2 {args : Array Value} {s : State} (hgv : (Jvm.Cond.and given_1 narrow_1).before args s = true) : ∃ t : Nat, (Term.static "GraftRules" "SECOND_WEIGHT" "[I").eval args s none [] s = some (.ref t) ∧ va_T .int t 5 (fun j => .int (nI (([243, 243, 243, 81, 81] : List Nat).getD j 0))) (fun q => s.heap.size ≤ q) s s.heap := by
  have hs := flat_of_before _ hgv
  refine va_Tof (by decide) (hs _ (by decide +kernel)) (va_eqt (hs _ (by decide +kernel))) (fun j hj => ?_) (fun a h => Nat.not_le.mpr h)
  match j, hj with
  | 0, _ => exact va_eqt (hs _ (by decide +kernel))
  | 1, _ => exact va_eqt (hs _ (by decide +kernel))
  | 2, _ => exact va_eqt (hs _ (by decide +kernel))
  | 3, _ => exact va_eqt (hs _ (by decide +kernel))
  | 4, _ => exact va_eqt (hs _ (by decide +kernel))
  | j + 5, h => exact absurd h (by omega)
theorem zl_S3 {args : Array Value} {s : State} (hgv : (Jvm.Cond.and given_1 narrow_1).before args s = true) : ∃ t : Nat, (Term.static "GraftRules" "THIRD_WEIGHT" "[I").eval args s none [] s = some (.ref t) ∧ va_T .int t 5 (fun j => .int (nI (([81, 27, 9, 27, 9] : List Nat).getD j 0))) (fun q => s.heap.size ≤ q) s s.heap := by
  have hs := flat_of_before _ hgv
  refine va_Tof (by decide) (hs _ (by decide +kernel)) (va_eqt (hs _ (by decide +kernel))) (fun j hj => ?_) (fun a h => Nat.not_le.mpr h)
  match j, hj with
  | 0, _ => exact va_eqt (hs _ (by decide +kernel))
  | 1, _ => exact va_eqt (hs _ (by decide +kernel))
  | 2, _ => exact va_eqt (hs _ (by decide +kernel))
  | 3, _ => exact va_eqt (hs _ (by decide +kernel))
  | 4, _ => exact va_eqt (hs _ (by decide +kernel))
  | j + 5, h => exact absurd h (by omega)
theorem zl_G {p : Program} {s : State} {m : MethodId} {meth : Method} {c : Code} {b L : Nat} {xs : Nat → Int32} (C0 : lw_At p s m meth c b L xs) : ∃ G : zw_G, zc_K G s ∧ zc_L G ∧ G.2.2.1 0 = s.heap.size ∧ zw_K G s s.heap ∧ zj_G G ∧ G.2.2.1 184 = b ∧ (G.2.2.2 184).1 = L := by
  obtain ⟨hx, hb, hr, hml, hown, hts, hX, hbl, hlocks, hgv⟩ := C0
  obtain ⟨D, hD⟩ := zl_G1 (A := #[Value.ref b]) (s := s) (fun w hw => hts w (List.mem_filter.mp hw).1)
  obtain ⟨g, hg, hk⟩ := zl_G2 hts
  obtain ⟨t2, e2, h2⟩ := zl_S2 hgv
  obtain ⟨t3, e3, h3⟩ := zl_S3 hgv
  have hini := hts (.initialized "GraftRules") (List.mem_of_getElem? (i := 59) (by decide +kernel))
  have z2 := va_Zref (A := fun q => s.heap.size ≤ q) (hts (.laysStatic "GraftRules" "SECOND_WEIGHT" "[I") (List.mem_of_getElem? (i := 369) (by decide +kernel))) hini e2 (fun a h => Nat.not_le.mpr h)
  have z3 := va_Zref (A := fun q => s.heap.size ≤ q) (hts (.laysStatic "GraftRules" "THIRD_WEIGHT" "[I") (List.mem_of_getElem? (i := 371) (by decide +kernel))) hini e3 (fun a h => Nat.not_le.mpr h)
  have hb4 : va_T .int b L (fun j => .int (xs j)) (fun q => s.heap.size ≤ q) s s.heap := by
    obtain ⟨scr, q1, q2, q3, q4, q5⟩ := hX
    exact ⟨scr, q1, q2, q3, by omega, by rw [q4], q5, Nat.not_le.mpr hbl⟩
  let G : zw_G := (D, g, (fun i => if i < 182 then s.heap.size + i else if i = 182 then t2 else if i = 183 then t3 else b), (fun i => if i = 182 then (5, fun j => nI (([243, 243, 243, 81, 81] : List Nat).getD j 0)) else if i = 183 then (5, fun j => nI (([81, 27, 9, 27, 9] : List Nat).getD j 0)) else (L, xs)))
  have ga : ∀ i, i < 182 → G.2.2.1 i = s.heap.size + i := fun i h => if_pos h
  have g2 : G.2.2.1 182 = t2 := rfl
  have g3 : G.2.2.1 183 = t3 := rfl
  have g4 : G.2.2.1 184 = b := rfl
  have d2 : G.2.2.2 182 = (5, fun j => nI (([243, 243, 243, 81, 81] : List Nat).getD j 0)) := rfl
  have d3 : G.2.2.2 183 = (5, fun j => nI (([81, 27, 9, 27, 9] : List Nat).getD j 0)) := rfl
  have d4 : G.2.2.2 184 = (L, xs) := rfl
  have hK : va_K G.1 vwCl (zw_tys G) s := ⟨hD, hg⟩
  have hk4 : ∃ kA : Class, s.vm.classes[G.2.1 4]? = some kA ∧ kA.kind = .array (G.2.1 1) (.array .long) := hk
  clear_value G
  have hAB : ∀ q, zw_A G q → s.heap.size ≤ q := by
    rintro q ⟨k, hk, rfl⟩
    rw [ga k hk]
    omega
  have g0 := ga 0 (by omega)
  refine ⟨G, ⟨hK, fun a i y h hm => va_tabs rfl rfl (hts _ hm), va_AO.of (hts (.arrayOver (.object "GraftRules$State")) (List.mem_of_getElem? (i := 125) (by decide +kernel))), va_AO.of (hts (.arrayOver (.object "GraftRules$Image")) (List.mem_of_getElem? (i := 139) (by decide +kernel))), hk4⟩, fun i hi => by rw [ga i hi, g0]; omega, by rw [g0]; omega, ⟨hK, fun i j hi hj h => ?_, by rw [g2]; exact z2.narrow hAB, by rw [g3]; exact z3.narrow hAB, ?_, fun a i b n d h hm => va_tabs rfl rfl (hts _ hm)⟩, ?_, g4, by rw [d4]⟩
  · rw [ga i hi, ga j hj] at h
    omega
  · rintro k (rfl | rfl | rfl)
    · rw [g2, d2]; exact h2.narrow hAB
    · rw [g3, d3]; exact h3.narrow hAB
    · rw [g4, d4]; exact hb4.narrow hAB
  · refine ⟨by rw [d2], by rw [d3], fun j _ => ⟨by rw [d2], by rw [d3]⟩⟩
