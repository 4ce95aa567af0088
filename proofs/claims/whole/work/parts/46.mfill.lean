/-! MAKING: Arrays.fill over the newest array -/
def zc_FQ (G : zw_G) (o : Nat) (v : Int32) : Array Value → State → Outcome → State → Prop := fun _ st oc t => oc = .returned none ∧ va_P G.1 vwCl (zc_ws G o (o + 1) (fun _ => .inl (G.2.1 0, 8, .inl fun _ => v))) t.heap ∧ va_F (zc_A G o) st t
section Z46
variable {l : Launch} {G : zw_G} {d : Nat}
theorem zc_fillL {p : Program} {e : Env} {R : Room} {s : State} {m : MethodId} {args : Array Value} {below : List Frame} {meth : Method} {c : Code} {Q : State → Prop} {o : Nat} {v : Int32} (hC : zc_C G d mJ7_fill_53178 o (o + 1) p R s m args meth c) (hR : ∀ H locs cells slots ls, zc_S G R s o (o + 1) (o + 1) (fun _ => .inl (G.2.1 0, 8, .inl fun _ => v)) 0 H locs cells slots → W p l e R s m args below meth c H locs cells slots Q (F0 m 20 ls [])) : ∀ (n i : Nat) (f : Nat → Int32) (H : Heap) (locs : List Loc) (cells slots : Nat) (ls : Array Slot), i + n = 8 → (∀ j, j < i → f j = v) → zc_S G R s o (o + 1) (o + 1) (fun _ => .inl (G.2.1 0, 8, .inl f)) 0 H locs cells slots → lv_has ls 4 [(3, .int (nI 8)), (2, .int (nI i)), (1, .int v), (0, .ref (G.2.2.1 o))] → W p l e R s m args below meth c H locs cells slots Q (F0 m 5 ls []) := by
  have hx := hC.1
  have hb := hC.2.1
  intro n
  induction n with
  | zero =>
    intro i f H locs cells slots ls hi hf hS hl
    refine lv_iload_n hx hb dJ7_fill_53178_5 rfl (lv_at hl 1 rfl) ?_
    refine lv_iload_n hx hb dJ7_fill_53178_6 rfl (lv_at hl 0 rfl) ?_
    refine lv_icmp_ge (tgt := 20) hx hb dJ7_fill_53178_7 (by decide) (fun _ => ?_) (fun h => ?_)
    · obtain ⟨s1, s2, s3, s4, s5, s6⟩ := hS
      refine hR H locs cells slots ls ⟨s1, s2, s3, s4, ?_, s6⟩
      rw [zc_PI] at s5 ⊢
      intro q a b
      have h5 := s5 q a b
      show H[G.2.2.1 q]? = some (vp_cell _ _)
      rw [show H[G.2.2.1 q]? = some (vp_cell (G.2.1 0) (8, .inl f)) from h5]
      congr 1
      rw [vp_cell_i, vp_cell_i]
      exact zc_arr (fun j hj => by rw [hf j (by omega)])
    · rw [zn_le (by omega) (by omega)] at h; omega
  | succ n ih =>
    intro i f H locs cells slots ls hi hf hS hl
    refine lv_iload_n hx hb dJ7_fill_53178_5 rfl (lv_at hl 1 rfl) ?_
    refine lv_iload_n hx hb dJ7_fill_53178_6 rfl (lv_at hl 0 rfl) ?_
    refine lv_icmp_ge (tgt := 20) hx hb dJ7_fill_53178_7 (by decide) (fun h => ?_) (fun _ => ?_)
    · rw [zn_le (by omega) (by omega)] at h; omega
    · refine lv_aload_n hx hb dJ7_fill_53178_10 rfl (lv_at hl 3 rfl) ?_
      refine lv_iload_n hx hb dJ7_fill_53178_11 rfl (lv_at hl 1 rfl) ?_
      refine lv_iload_n hx hb dJ7_fill_53178_12 rfl (lv_at hl 2 rfl) ?_
      refine zk_iast (o := o) hC hS rfl (Nat.le_refl o) (by omega) dJ7_fill_53178_13 (show i < 8 by omega) (by decide) (fun H1 locs1 hS1 => ?_)
      refine lv_iinc (v := nI (i + 1)) (lv' := [(2, .int (nI (i + 1))), (3, .int (nI 8)), (1, .int v), (0, .ref (G.2.2.1 o))]) hx hb dJ7_fill_53178_14 hl (k := 1) rfl (nI_add i 1) (by decide) rfl (fun ls hl => ?_)
      refine lv_goto (tgt := 5) hx hb dJ7_fill_53178_17 (by decide) ?_
      have hS2 : zc_S G R s o (o + 1) (o + 1) (fun _ => .inl (G.2.1 0, 8, .inl (upd f i v))) 0 H1 locs1 cells slots := by
        obtain ⟨s1, s2, s3, s4, s5, s6⟩ := hS1
        refine ⟨s1, s2, s3, s4, ?_, s6⟩
        rw [zc_PI] at s5 ⊢
        intro q a b
        obtain rfl : q = o := by omega
        have := s5 q a b
        rwa [zc_us] at this
      exact ih (i + 1) (upd f i v) H1 locs1 cells slots ls (by omega) (fun j hj => by
        by_cases q : j = i
        · subst q; simp [upd]
        · simp [upd, q]; exact hf j (by omega)) hS2 (lv_sub hl [1, 0, 2, 3] rfl)
theorem zc_fillT {o : Nat} {f : Nat → Int32} {v : Int32} (hL : zc_L G) (ho : o < 182) : Met l mJ7_fill_53178.1 (zw_wds mJ7_fill_53178) { frames := d, cells := 0, slots := 0, locals := 36 * d } (va_Pc [.ref (G.2.2.1 o), .int v] (fun U => U.heap.size = G.2.2.1 0 + (o + 1) ∧ va_P G.1 vwCl (zc_ws G o (o + 1) (fun _ => .inl (G.2.1 0, 8, .inl f))) U.heap ∧ zc_K G U)) (zc_FQ G o v) 0 0 (zc_A G o) := by
  refine va_MetF (cc := cJ7_fill_53178) (maxL := 4) (ret := none) (by decide) rfl ?_
  intro p e s m args below meth c s₁ B hml hv
  obtain ⟨rfl, hsz, hP, hK⟩ := hv
  have hts := atoms_spec (ws := zw_wds mJ7_fill_53178) B.pre
  have hlocks := B.notSynchronized
  have hls := lv_entry ([.ref (G.2.2.1 o), .int v]) (n := 4) (Nat.le_of_ble_eq_true rfl)
  rw [lg_entry_eq]
  generalize (lg_sl ([.ref (G.2.2.1 o), .int v]) ++ List.replicate (4 - (lg_sl ([.ref (G.2.2.1 o), .int v])).length) Slot.unset).toArray = ls at hls ⊢
  have hl : lv_has ls 4 [(0, .ref (G.2.2.1 o)), (1, .int v)] := hls
  have hx := B.exec
  have hb := B.bytes
  refine lv_iconst (v := nI 0) hx hb dJ7_fill_53178_0 (by decide) ?_
  refine lv_istore_n (lv' := [(2, .int (nI 0)), (0, .ref (G.2.2.1 o)), (1, .int v)]) hx hb dJ7_fill_53178_1 rfl hl (by decide) rfl (fun ls hl => ?_)
  refine lv_aload_n hx hb dJ7_fill_53178_2 rfl (lv_at hl 1 rfl) ?_
  refine va_alen (v := nI 8) hx hb hK.1 hP (o - o) 0 (zc_get (Nat.le_refl o) (by omega)) rfl rfl dJ7_fill_53178_3 ?_
  refine lv_istore_n (lv' := [(3, .int (nI 8)), (2, .int (nI 0)), (0, .ref (G.2.2.1 o)), (1, .int v)]) hx hb dJ7_fill_53178_4 rfl hl (by decide) rfl (fun ls hl => ?_)
  refine zc_fillL (d := d) (o := o) (v := v) ⟨hx, hb, hml, findClass_of_methodNamed B.named, fun w hw => hts w (List.mem_cons_of_mem _ hw), hK, hL, Nat.le_refl _, Nat.le_refl _, by show _ ≤ s.heap.size + 0; omega, by omega, by omega⟩ ?_ 8 0 f s.heap [] 0 0 ls rfl (fun j hj => by omega) ⟨by omega, by show 0 + 0 ≤ 0; omega, by omega, by omega, hP, va_S.rf⟩ (lv_sub hl [0, 1, 3, 2] rfl)
  intro H locs cells slots ls2 hS
  obtain ⟨t1, t2, t3, t4, hP2, hV2⟩ := hS
  refine W.widen (k := 0) (n := 0) (by omega) (by show slots ≤ 0; exact t2) ?_
  exact W.vret hx hb B.returns (fun t ht hW => ⟨rfl, by rw [ht]; exact hP2, hV2.F ht⟩) hV2.2.2 dJ7_fill_53178_20
variable {p : Program} {e : Env} {R : Room} {s : State} {m : MethodId} {args : Array Value} {below : List Frame} {meth : Method} {c : Code} {H : Heap} {locs : List Loc} {cells slots : Nat} {Q : State → Prop} {pc : Nat} {ls : Array Slot}
variable {k E n y ci o : Nat} {M : zw_M} {fs : List Value}
theorem zv_fill {idx : Nat} {v : Int32} {f : Nat → Int32} (hC : zc_C G (d + 1) M k E p R s m args meth c) (hV : zc_X G R s k E n ci fs o (.inl (G.2.1 0, 8, .inl f)) y H locs cells slots) (hl : ls.size = M.2.2.1) (ho : o ≠ k) (hon : o + 1 = n) (hd : decode M.2.1 pc = .ok (.invokestatic idx, 3)) (hlk : Cond.methodLink M.1.cls idx mJ7_fill_53178.1 ∈ zw_tb) (kk : ∀ H1 locs1, zc_X G R s k E n ci fs o (.inl (G.2.1 0, 8, .inl fun _ => v)) y H1 locs1 cells slots → W p l e R s m args below meth c H1 locs1 cells slots Q (F0 m (pc + 3) ls [])) : W p l e R s m args below meth c H locs cells slots Q (F0 m pc ls [.int v, .ref (G.2.2.1 o)]) := by
  obtain ⟨hx, hb, hml, hown, hts, hK, hL, hfr, hlo, hce, hks, h182⟩ := hC
  obtain ⟨Z, ⟨s1, s2, s3, s4, hP, hVs⟩, h1, h2, h3, h4⟩ := hV
  obtain ⟨a1, a2, a3⟩ := h3 ho
  obtain ⟨hst, hini, hcd, hnm, hmx⟩ := smJ7_fill_53178
  refine zc_size (fun hz => ?_)
  have hlast : va_P G.1 vwCl (zc_ws G o (o + 1) (fun _ => .inl (G.2.1 0, 8, .inl f))) H := by
    rw [zc_PI] at hP ⊢
    intro q x1 x2
    obtain rfl : q = o := by omega
    have := hP q (by omega) (by omega)
    rwa [a1] at this
  have hsz : H.size = G.2.2.1 0 + (o + 1) := by
    rw [zc_PI] at hlast
    have hh : G.2.2.1 o < H.size := (hlast o (Nat.le_refl o) (by omega)).lt
    have hLn := hL o (by omega)
    omega
  have hpre : PreS s H (va_Pc [.ref (G.2.2.1 o), .int v] (fun U => U.heap.size = G.2.2.1 0 + (o + 1) ∧ va_P G.1 vwCl (zc_ws G o (o + 1) (fun _ => .inl (G.2.1 0, 8, .inl f))) U.heap ∧ zc_K G U)) [.ref (G.2.2.1 o), .int v] := ⟨fun a U g mk q => ⟨q.1, q.2.1, q.2.2.1, zc_K.go q.2.2.2 (U := U.calling g mk a) (Vm.Alike.refl U.vm) (fun _ _ _ _ h => va_Nw.same rfl rfl h)⟩, fun U hU hW => ⟨rfl, by rw [hU]; exact hsz, by rw [hU]; exact hlast, zc_K.go hK hW.alike (fun _ _ _ _ h => va_Nw.warmM hW h)⟩⟩
  have run := va_runS (l := l) (e := e) (below := below) (meth := meth) (locs := locs) (cells := cells) (slots := slots) (As := [.ref (G.2.2.1 o), .int v]) (rest := []) (g := F0 m pc ls [.int v, .ref (G.2.2.1 o)]) ⟨hx, hb, hml, hown, hts⟩ (zc_fillT (d := d) (f := f) (v := v) hL (show o < 182 by omega)) ⟨callB_of (R := R) 2 hts (zw_goodIn hcd) rfl rfl rfl (hts _ hini) (hts _ hlk) hnm ⟨hfr, by show 8 + (4 + 11) + 36 * d ≤ R.locals; omega⟩, hts _ hst⟩ hpre rfl rfl hl rfl (lv_room (by decide)) hd ⟨by omega, by omega⟩
  intro T1 hT1 X1
  obtain ⟨vv, st₀, t, T', Lc, h0, X', hLc, e1, e2, ⟨hv, hPt, hz1, hk1⟩, stp⟩ := run T1 hT1 X1
  cases hv
  rw [h0] at hz1 hk1
  have hP2 : va_P G.1 vwCl (zc_ws G k n (zc_u Z o (.inl (G.2.1 0, 8, .inl fun _ => v)))) T'.heap := by
    rw [e1]
    rw [zc_PI] at hP hPt ⊢
    intro q x1 x2
    by_cases e : q = o
    · subst e
      rw [zc_us]
      exact hPt q (Nat.le_refl q) (by omega)
    · rw [zc_un e]
      have h := hP q x1 x2
      refine h.kept (hk1 _ h.lt ?_)
      show ¬ G.2.2.1 0 + o ≤ G.2.2.1 q
      have := hL q (by omega)
      omega
  obtain ⟨t2, b1, b2⟩ := kk T'.heap (locs ++ Lc) ⟨zc_u Z o (.inl (G.2.1 0, 8, .inl fun _ => v)), ⟨s1, s2, s3, s4, hP2, ⟨Nat.le_trans hVs.1 (by rw [e1]; exact hz1), fun q a b => by
      rw [e1, hk1 q (Nat.lt_of_lt_of_le a hVs.1) (fun z => b (Nat.le_trans (by omega) z))]; exact hVs.2.1 q a b, fun q hq => by
      rcases List.mem_append.mp hq with h | h
      · exact hVs.2.2 q h
      · exact Nat.le_trans (by omega) (hLc q h)⟩⟩, h1, by rw [zc_un (by omega)]; exact h2, fun q => ⟨zc_us _ _ _, a2, a3⟩, fun i x1 x2 x3 => by rw [zc_un x3]; exact h4 i x1 x2 x3⟩ T' rfl X'
  exact ⟨t2, stp t2 b1, b2⟩
end Z46
