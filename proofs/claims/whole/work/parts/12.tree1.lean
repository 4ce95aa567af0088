/-! the class's Tree: an object h, its figures h + 1, its handed row h + 2 -/
def zt_ok (h : Nat) : Prop := zw_kd h = 7 ∧ zw_kd (h + 1) = 10 ∧ zw_kd (h + 2) = 10 ∧ zw_ln (h + 1) = 13 ∧ zw_ln (h + 2) = 13
def zt_V (σ : zw_S) (h : Nat) (w : List Nat) (s : Int32) : Prop := w.length ≤ 13 ∧ (∀ x ∈ w, x < 3) ∧ σ.1 h 2 = nI w.length ∧ σ.1 h 3 = s ∧ ∀ i, i < w.length → σ.1 (h + 1) i = nI (w.getD i 0)
def zt_A (h : Nat) : Nat → Prop := fun o => h ≤ o ∧ o < h + 3
/-- an index, or none -/
def zp_oI (o : Option Nat) : Int32 := match o with
  | some j => nI j
  | none => -1
/-- the leaves' places -/
def zt_lv (w : List Nat) : List Nat := (List.range w.length).filter (fun i => w.getD i 0 == 0)
section Z12
variable {l : Launch} {G : zw_G} {d : Nat} {σ : zw_S} {h : Nat} {w : List Nat} {s : Int32}
theorem zt_V.cg {τ : zw_S} (hV : zt_V σ h w s) (h1 : τ.1 h = σ.1 h) (h2 : τ.1 (h + 1) = σ.1 (h + 1)) : zt_V τ h w s := ⟨hV.1, hV.2.1, by rw [h1]; exact hV.2.2.1, by rw [h1]; exact hV.2.2.2.1, fun i hi => by rw [h2]; exact hV.2.2.2.2 i hi⟩
theorem zt_V.fr {τ : zw_S} {A : Nat → Prop} (hV : zt_V σ h w s) (hF : zw_F A σ τ) (h1 : ¬ A h) (h2 : ¬ A (h + 1)) : zt_V τ h w s := hV.cg (hF.2 _ h1) (hF.2 _ h2)
theorem c7_open (ho : zt_ok h) : zw_Tv l G (d + 1) mX7_open [.ref h] σ (fun τ => zt_V τ h [] (nI 1) ∧ zw_F (zt_A h) σ τ) := by
  obtain ⟨k0, k1, k2, l1, l2⟩ := ho
  refine zw_enter2 (L := [some _]) (by decide) (Nat.le_of_ble_eq_true rfl) rfl ?_
  refine zi_ald0 dX7_open_0 ?_
  refine zi_iconst (nI 0) dX7_open_1 (by decide) ?_
  refine zi_putI dX7_open_2 flX7_18 fp_7_2 rfl (by first | assumption | decide) ?_
  refine zi_ald0 dX7_open_5 ?_
  refine zi_iconst (nI 1) dX7_open_6 (by decide) ?_
  refine zi_putI dX7_open_7 flX7_22 fp_7_3 rfl (by first | assumption | decide) ?_
  refine zi_ret dX7_open_10 rfl ?_
  refine ⟨rfl, ⟨by decide, by simp, ?_, zs_same _ _ _ _, fun i hi => by simp at hi⟩, (zw_F.rf.pI ?_).pI ?_⟩
  · rw [zs_slot (by decide), zs_same]; rfl
  · exact ⟨Nat.le_refl _, by omega⟩
  · exact ⟨Nat.le_refl _, by omega⟩
theorem c7_append (ho : zt_ok h) (hV : zt_V σ h w s) (hl : w.length < 13) {x : Nat} (hx : x < 3) : zw_Tv l G (d + 1) mX7_append [.ref h, .int (nI x)] σ (fun τ => zt_V τ h (w ++ [x]) s ∧ zw_F (zt_A h) σ τ) := by
  obtain ⟨k0, k1, k2, l1, l2⟩ := ho
  obtain ⟨v1, v2, v3, v4, v5⟩ := hV
  refine zw_enter2 (L := [some _, some _]) (by decide) (Nat.le_of_ble_eq_true rfl) rfl ?_
  refine zi_ald0 dX7_append_0 ?_
  refine zi_getI dX7_append_1 flX7_18 rfl (by first | assumption | decide) ?_
  refine zi_if_lt 36 dX7_append_4 (by decide) (fun c4 => ?_) (fun c4 => ?_)
  · rw [v3, zn_0, zn_neg _ (by omega)] at c4; exact c4.elim
  · refine zi_ald0 dX7_append_7 ?_
    refine zi_getI dX7_append_8 flX7_18 rfl (by first | assumption | decide) ?_
    refine zi_bipush (nI 13) dX7_append_11 (by decide) ?_
    refine zi_icmp_ge 36 dX7_append_13 (by decide) (fun c13 => ?_) (fun c13 => ?_)
    · rw [v3, zn_le (by omega) (by omega)] at c13; omega
    · refine zi_ald0 dX7_append_16 ?_
      refine zi_getR dX7_append_17 flX7_9 rfl (by first | assumption | decide) ?_
      refine zi_ald0 dX7_append_20 ?_
      refine zi_getI dX7_append_21 flX7_18 rfl (by first | assumption | decide) ?_
      refine zi_ild1 dX7_append_24 ?_
      refine zi_iastN w.length dX7_append_25 (by first | assumption | decide) v3 (by omega) (by omega) ?_
      refine zi_ald0 dX7_append_26 ?_
      refine zi_dupr dX7_append_27 ?_
      refine zi_getI dX7_append_28 flX7_18 rfl (by first | assumption | decide) ?_
      refine zi_iconst (nI 1) dX7_append_31 (by decide) ?_
      refine zi_iadd dX7_append_32 ?_
      refine zi_putI dX7_append_33 flX7_18 fp_7_2 rfl (by first | assumption | decide) ?_
      refine zi_ret dX7_append_36 rfl ?_
      refine ⟨rfl, ⟨by simp; omega, ?_, ?_, ?_, fun i hi => ?_⟩, (zw_F.rf.pI ?_).pI ?_⟩
      · intro y hy
        rcases List.mem_append.mp hy with q | q
        · exact v2 y q
        · rw [List.mem_singleton.mp q]; exact hx
      · rw [zs_same, zs_obj (by omega), v3, nI_add, List.length_append]; rfl
      · rw [zs_slot (by decide), zs_obj (by omega)]; exact v4
      · rw [zs_obj (by omega)]
        rw [List.length_append, List.length_singleton] at hi
        by_cases e : i = w.length
        · subst e
          rw [zs_same, zl_app_hi (Nat.le_refl _), Nat.sub_self]; rfl
        · rw [zs_slot e, zl_app_lo (by omega)]
          exact v5 i (by omega)
      · exact ⟨by omega, by omega⟩
      · exact ⟨by omega, by omega⟩
theorem c7_becomeLeaf (ho : zt_ok h) : zw_Tv l G (d + 2) mX7_becomeLeaf [.ref h, .int s] σ (fun τ => zt_V τ h [0] s ∧ zw_F (zt_A h) σ τ) := by
  have k0 := ho.1
  refine zw_enter2 (L := [some _, some _]) (by decide) (Nat.le_of_ble_eq_true rfl) rfl ?_
  refine zi_ald0 dX7_becomeLeaf_0 ?_
  refine zi_cV0v vmX7_open lkX7_25 dX7_becomeLeaf_1 (by first | assumption | decide) (Nat.le_of_ble_eq_true rfl) (c7_open ho) ?_
  rintro τ1 ⟨hV1, hF1⟩
  refine zi_ald0 dX7_becomeLeaf_4 ?_
  refine zi_iconst (nI 0) dX7_becomeLeaf_5 (by decide) ?_
  refine zi_cV1v vmX7_append lkX7_28 dX7_becomeLeaf_6 (by first | assumption | decide) (Nat.le_of_ble_eq_true rfl) (c7_append (x := 0) ho hV1 (by decide) (by decide)) ?_
  rintro τ2 ⟨hV2, hF2⟩
  refine zi_ald0 dX7_becomeLeaf_9 ?_
  refine zi_ild1 dX7_becomeLeaf_10 ?_
  refine zi_putI dX7_becomeLeaf_11 flX7_22 fp_7_3 rfl (by first | assumption | decide) ?_
  refine zi_ret dX7_becomeLeaf_14 rfl ?_
  obtain ⟨v1, v2, v3, v4, v5⟩ := hV2
  refine ⟨rfl, ⟨v1, v2, ?_, zs_same _ _ _ _, fun i hi => ?_⟩, (hF1.tr hF2 (fun _ q => q) (fun _ q => q)).pI ?_⟩
  · rw [zs_slot (by decide)]; exact v3
  · rw [zs_obj (by omega)]; exact v5 i hi
  · exact ⟨by omega, by omega⟩
theorem c7_becomeNode (ho : zt_ok h) {x : Nat} (hx : x < 2) : zw_Tv l G (d + 2) mX7_becomeNode [.ref h, .int (nI x)] σ (fun τ => zt_V τ h [x + 1, 0, 0] (nI 1) ∧ zw_F (zt_A h) σ τ) := by
  have k0 := ho.1
  refine zw_enter2 (L := [some _, some _]) (by decide) (Nat.le_of_ble_eq_true rfl) rfl ?_
  refine zi_ald0 dX7_becomeNode_0 ?_
  refine zi_cV0v vmX7_open lkX7_25 dX7_becomeNode_1 (by first | assumption | decide) (Nat.le_of_ble_eq_true rfl) (c7_open ho) ?_
  rintro τ1 ⟨hV1, hF1⟩
  refine zi_ald0 dX7_becomeNode_4 ?_
  refine zi_ild1 dX7_becomeNode_5 ?_
  refine zi_iconst (nI 1) dX7_becomeNode_6 (by decide) ?_
  refine zi_iadd dX7_becomeNode_7 ?_
  rw [nI_add]
  refine zi_cV1v vmX7_append lkX7_28 dX7_becomeNode_8 (by first | assumption | decide) (Nat.le_of_ble_eq_true rfl) (c7_append (x := x + 1) ho hV1 (by decide) (by omega)) ?_
  rintro τ2 ⟨hV2, hF2⟩
  refine zi_ald0 dX7_becomeNode_11 ?_
  refine zi_iconst (nI 0) dX7_becomeNode_12 (by decide) ?_
  refine zi_cV1v vmX7_append lkX7_28 dX7_becomeNode_13 (by first | assumption | decide) (Nat.le_of_ble_eq_true rfl) (c7_append (x := 0) ho hV2 (by simp) (by decide)) ?_
  rintro τ3 ⟨hV3, hF3⟩
  refine zi_ald0 dX7_becomeNode_16 ?_
  refine zi_iconst (nI 0) dX7_becomeNode_17 (by decide) ?_
  refine zi_cV1v vmX7_append lkX7_28 dX7_becomeNode_18 (by first | assumption | decide) (Nat.le_of_ble_eq_true rfl) (c7_append (x := 0) ho hV3 (by simp) (by decide)) ?_
  rintro τ4 ⟨hV4, hF4⟩
  refine zi_ret dX7_becomeNode_21 rfl ?_
  exact ⟨rfl, hV4, ((hF1.tr hF2 (fun _ q => q) (fun _ q => q)).tr hF3 (fun _ q => q) (fun _ q => q)).tr hF4 (fun _ q => q) (fun _ q => q)⟩
theorem c7_figureAt_raw (ho : zt_ok h) {n i : Nat} (hn : σ.1 h 2 = nI n) (h13 : n ≤ 13) (hi : i < n) : zw_Ti l G (d + 1) mX7_figureAt [.ref h, .int (nI i)] σ (fun x τ => σ = τ ∧ x = σ.1 (h + 1) i) := by
  obtain ⟨k0, k1, k2, l1, l2⟩ := ho
  refine zw_enter2 (L := [some _, some _]) (by decide) (Nat.le_of_ble_eq_true rfl) rfl ?_
  refine zi_ild1 dX7_figureAt_0 ?_
  refine zi_if_lt 27 dX7_figureAt_1 (by decide) (fun c1 => ?_) (fun c1 => ?_)
  · rw [zn_0, zn_neg i (by omega)] at c1; exact c1.elim
  · refine zi_ild1 dX7_figureAt_4 ?_
    refine zi_ald0 dX7_figureAt_5 ?_
    refine zi_getI dX7_figureAt_6 flX7_18 rfl (by first | assumption | decide) ?_
    refine zi_icmp_ge 27 dX7_figureAt_9 (by decide) (fun c9 => ?_) (fun c9 => ?_)
    · rw [hn, zn_le (by omega) (by omega)] at c9; omega
    · refine zi_ild1 dX7_figureAt_12 ?_
      refine zi_bipush (nI 13) dX7_figureAt_13 (by decide) ?_
      refine zi_icmp_ge 27 dX7_figureAt_15 (by decide) (fun c15 => ?_) (fun c15 => ?_)
      · rw [zn_le (by omega) (by omega)] at c15; omega
      · refine zi_ald0 dX7_figureAt_18 ?_
        refine zi_getR dX7_figureAt_19 flX7_9 rfl (by first | assumption | decide) ?_
        refine zi_ild1 dX7_figureAt_22 ?_
        refine zi_ialdN _ dX7_figureAt_23 (by first | assumption | decide) rfl (by omega) (by omega) ?_
        refine zi_goto 28 dX7_figureAt_24 (by decide) ?_
        refine zi_iret dX7_figureAt_28 rfl ?_
        exact ⟨_, rfl, rfl, rfl⟩
theorem c7_figureAt_no (ho : zt_ok h) {n i : Nat} (hn : σ.1 h 2 = nI n) (h13 : n ≤ 13) (hi : n ≤ i) (hi2 : i < 2147483648) : zw_Ti l G (d + 1) mX7_figureAt [.ref h, .int (nI i)] σ (fun x τ => σ = τ ∧ x = nI 0) := by
  obtain ⟨k0, k1, k2, l1, l2⟩ := ho
  refine zw_enter2 (L := [some _, some _]) (by decide) (Nat.le_of_ble_eq_true rfl) rfl ?_
  refine zi_ild1 dX7_figureAt_0 ?_
  refine zi_if_lt 27 dX7_figureAt_1 (by decide) (fun c1 => ?_) (fun c1 => ?_)
  · rw [zn_0, zn_neg i (by omega)] at c1; exact c1.elim
  · refine zi_ild1 dX7_figureAt_4 ?_
    refine zi_ald0 dX7_figureAt_5 ?_
    refine zi_getI dX7_figureAt_6 flX7_18 rfl (by first | assumption | decide) ?_
    refine zi_icmp_ge 27 dX7_figureAt_9 (by decide) (fun c9 => ?_) (fun c9 => ?_)
    · refine zi_iconst (nI 0) dX7_figureAt_27 (by decide) ?_
      refine zi_iret dX7_figureAt_28 rfl ?_
      exact ⟨_, rfl, rfl, rfl⟩
    · rw [hn, zn_le (by omega) (by omega)] at c9; omega
theorem c7_figureAt (ho : zt_ok h) (hV : zt_V σ h w s) {i : Nat} (hi2 : i < 2147483648) : zw_Ti l G (d + 1) mX7_figureAt [.ref h, .int (nI i)] σ (fun x τ => σ = τ ∧ x = nI (w.getD i 0)) := by
  rcases Nat.lt_or_ge i w.length with q | q
  · exact (c7_figureAt_raw ho hV.2.2.1 hV.1 q).mono (fun r τ ⟨x, e1, e2, e3⟩ => ⟨x, e1, e2, e3.trans (hV.2.2.2.2 i q)⟩)
  · exact (c7_figureAt_no ho hV.2.2.1 hV.1 q hi2).mono (fun r τ ⟨x, e1, e2, e3⟩ => ⟨x, e1, e2, by rw [zl_getD_no q]; exact e3⟩)
theorem c7_putFigure_raw (ho : zt_ok h) {n i : Nat} {x : Int32} (hn : σ.1 h 2 = nI n) (h13 : n ≤ 13) (hi : i < n) : zw_Tv l G (d + 1) mX7_putFigure [.ref h, .int (nI i), .int x] σ (fun τ => τ = zw_pI σ (h + 1) i x) := by
  obtain ⟨k0, k1, k2, l1, l2⟩ := ho
  refine zw_enter2 (L := [some _, some _, some _]) (by decide) (Nat.le_of_ble_eq_true rfl) rfl ?_
  refine zi_ild1 dX7_putFigure_0 ?_
  refine zi_if_lt 25 dX7_putFigure_1 (by decide) (fun c1 => ?_) (fun c1 => ?_)
  · rw [zn_0, zn_neg i (by omega)] at c1; exact c1.elim
  · refine zi_ild1 dX7_putFigure_4 ?_
    refine zi_ald0 dX7_putFigure_5 ?_
    refine zi_getI dX7_putFigure_6 flX7_18 rfl (by first | assumption | decide) ?_
    refine zi_icmp_ge 25 dX7_putFigure_9 (by decide) (fun c9 => ?_) (fun c9 => ?_)
    · rw [hn, zn_le (by omega) (by omega)] at c9; omega
    · refine zi_ild1 dX7_putFigure_12 ?_
      refine zi_bipush (nI 13) dX7_putFigure_13 (by decide) ?_
      refine zi_icmp_ge 25 dX7_putFigure_15 (by decide) (fun c15 => ?_) (fun c15 => ?_)
      · rw [zn_le (by omega) (by omega)] at c15; omega
      · refine zi_ald0 dX7_putFigure_18 ?_
        refine zi_getR dX7_putFigure_19 flX7_9 rfl (by first | assumption | decide) ?_
        refine zi_ild1 dX7_putFigure_22 ?_
        refine zi_ild2 dX7_putFigure_23 ?_
        refine zi_iastN _ dX7_putFigure_24 (by first | assumption | decide) rfl (by omega) (by omega) ?_
        refine zi_ret dX7_putFigure_25 rfl ?_
        exact ⟨rfl, rfl⟩
theorem zt_V.put (hV : zt_V σ h w s) {i x : Nat} (hi : i < w.length) (hx : x < 3) : zt_V (zw_pI σ (h + 1) i (nI x)) h (w.set i x) s := by
  obtain ⟨v1, v2, v3, v4, v5⟩ := hV
  refine ⟨by rw [List.length_set]; exact v1, ?_, ?_, ?_, ?_⟩
  · intro y hy
    rcases List.mem_or_eq_of_mem_set hy with q | q
    · exact v2 y q
    · omega
  · rw [zs_obj (by omega), List.length_set]; exact v3
  · rw [zs_obj (by omega)]; exact v4
  · intro j hj
    rw [List.length_set] at hj
    rw [zl_set hi]
    by_cases e : j = i
    · subst e
      rw [zs_same, if_pos rfl]
    · rw [zs_slot e, if_neg e]
      exact v5 j hj
theorem c7_putFigure (ho : zt_ok h) (hV : zt_V σ h w s) {i x : Nat} (hi : i < w.length) (hx : x < 3) : zw_Tv l G (d + 1) mX7_putFigure [.ref h, .int (nI i), .int (nI x)] σ (fun τ => zt_V τ h (w.set i x) s ∧ zw_F (fun o => o = h + 1) σ τ) :=
  (c7_putFigure_raw ho hV.2.2.1 hV.1 hi).mono (fun r τ ⟨e1, e2⟩ => ⟨e1, by rw [e2]; exact hV.put hi hx, by rw [e2]; exact zw_F.rf.pI rfl⟩)
theorem c7_isNode (ho : zt_ok h) (hV : zt_V σ h w s) {i : Nat} (hi2 : i < 2147483648) : zw_Ti l G (d + 2) mX7_isNode [.ref h, .int (nI i)] σ (fun x τ => σ = τ ∧ x = if w.getD i 0 = 0 then nI 0 else nI 1) := by
  have k0 := ho.1
  have hx := zl_getD_lt hV.2.1 i
  refine zw_enter2 (L := [some _, some _]) (by decide) (Nat.le_of_ble_eq_true rfl) rfl ?_
  refine zi_ald0 dX7_isNode_0 ?_
  refine zi_ild1 dX7_isNode_1 ?_
  refine zi_cV1i vmX7_figureAt lkX7_32 dX7_isNode_2 (by first | assumption | decide) (Nat.le_of_ble_eq_true rfl) (c7_figureAt ho hV hi2) ?_
  rintro _ _ ⟨rfl, rfl⟩
  refine zi_if_eq 12 dX7_isNode_5 (by decide) (fun c5 => ?_) (fun c5 => ?_)
  · rw [zn_0, zn_eq (by omega) (by omega)] at c5
    refine zi_iconst (nI 0) dX7_isNode_12 (by decide) ?_
    refine zi_zret dX7_isNode_13 rfl (by decide) ?_
    exact ⟨_, rfl, rfl, by first | rw [if_pos c5] | rw [if_neg c5]⟩
  · rw [zn_0, zn_eq (by omega) (by omega)] at c5
    refine zi_iconst (nI 1) dX7_isNode_8 (by decide) ?_
    refine zi_goto 13 dX7_isNode_9 (by decide) ?_
    refine zi_zret dX7_isNode_13 rfl (by decide) ?_
    exact ⟨_, rfl, rfl, by first | rw [if_pos c5] | rw [if_neg c5]⟩
theorem c7_nodes (ho : zt_ok h) (hV : zt_V σ h w s) (hl : 1 ≤ w.length) : zw_Ti l G (d + 1) mX7_nodes [.ref h] σ (fun x τ => σ = τ ∧ x = nI ((w.length - 1) / 2)) := by
  have k0 := ho.1
  have := hV.1
  refine zw_enter2 (L := [some _]) (by decide) (Nat.le_of_ble_eq_true rfl) rfl ?_
  refine zi_ald0 dX7_nodes_0 ?_
  refine zi_getI dX7_nodes_1 flX7_18 rfl (by first | assumption | decide) ?_
  refine zi_iconst (nI 1) dX7_nodes_4 (by decide) ?_
  refine zi_isub dX7_nodes_5 ?_
  refine zi_iconst (nI 2) dX7_nodes_6 (by decide) ?_
  refine zi_idiv dX7_nodes_7 (by decide) ?_
  refine zi_iret dX7_nodes_8 rfl ?_
  refine ⟨_, rfl, rfl, ?_⟩
  rw [hV.2.2.1, pk_sub hl, pk_div (by omega) (by decide) (by decide)]
theorem c7_leaves (ho : zt_ok h) (hV : zt_V σ h w s) (hl : 1 ≤ w.length) : zw_Ti l G (d + 2) mX7_leaves [.ref h] σ (fun x τ => σ = τ ∧ x = nI ((w.length - 1) / 2 + 1)) := by
  have k0 := ho.1
  refine zw_enter2 (L := [some _]) (by decide) (Nat.le_of_ble_eq_true rfl) rfl ?_
  refine zi_ald0 dX7_leaves_0 ?_
  refine zi_cV0i vmX7_nodes lkX7_36 dX7_leaves_1 (by first | assumption | decide) (Nat.le_of_ble_eq_true rfl) (c7_nodes ho hV hl) ?_
  rintro _ _ ⟨rfl, rfl⟩
  refine zi_iconst (nI 1) dX7_leaves_4 (by decide) ?_
  refine zi_iadd dX7_leaves_5 ?_
  refine zi_iret dX7_leaves_6 rfl ?_
  exact ⟨_, rfl, rfl, nI_add _ _⟩
theorem l7_codeNow (ho : zt_ok h) (hV : zt_V σ h w s) : ∀ n i, i + n = w.length → zw_W l G (d + 2) mX7_codeNow 4 [some (.ref h), some (.int (nI (zt_code (w.take i)))), some (.int (nI i))] [] σ (fun x τ => ∃ y, x = some (.int y) ∧ σ = τ ∧ y = nI (zt_code w)) := by
  obtain ⟨k0, k1, k2, l1, l2⟩ := id ho
  have h13 := hV.1
  intro n
  induction n with
  | zero =>
    intro i hi
    refine zi_ild2 dX7_codeNow_4 ?_
    refine zi_ald0 dX7_codeNow_5 ?_
    refine zi_getI dX7_codeNow_6 flX7_18 rfl (by first | assumption | decide) ?_
    refine zi_icmp_ge 28 dX7_codeNow_9 (by decide) (fun c9 => ?_) (fun c9 => ?_)
    · refine zi_ild1 dX7_codeNow_28 ?_
      refine zi_iret dX7_codeNow_29 rfl ?_
      exact ⟨_, rfl, rfl, by rw [List.take_of_length_le (by omega)]⟩
    · rw [hV.2.2.1, zn_le (by omega) (by omega)] at c9; omega
  | succ n ih =>
    intro i hi
    refine zi_ild2 dX7_codeNow_4 ?_
    refine zi_ald0 dX7_codeNow_5 ?_
    refine zi_getI dX7_codeNow_6 flX7_18 rfl (by first | assumption | decide) ?_
    refine zi_icmp_ge 28 dX7_codeNow_9 (by decide) (fun c9 => ?_) (fun c9 => ?_)
    · rw [hV.2.2.1, zn_le (by omega) (by omega)] at c9; omega
    · refine zi_iconst (nI 3) dX7_codeNow_12 (by decide) ?_
      refine zi_ild1 dX7_codeNow_13 ?_
      refine zi_imul dX7_codeNow_14 ?_
      refine zi_ald0 dX7_codeNow_15 ?_
      refine zi_ild2 dX7_codeNow_16 ?_
      refine zi_cV1i vmX7_figureAt lkX7_32 dX7_codeNow_17 (by first | assumption | decide) (Nat.le_of_ble_eq_true rfl) (c7_figureAt ho hV (show i < 2147483648 by omega)) ?_
      rintro _ _ ⟨rfl, rfl⟩
      refine zi_iadd dX7_codeNow_20 ?_
      refine zi_ist1 dX7_codeNow_21 (Nat.le_of_ble_eq_true rfl) rfl ?_
      refine zi_inc2 (nI 1) dX7_codeNow_22 (by decide) (Nat.le_of_ble_eq_true rfl) rfl ?_
      refine zi_goto 4 dX7_codeNow_25 (by decide) ?_
      rw [pk_mul, nI_add, nI_add, ← zt_code_snoc, ← zl_take_succ (by omega)]
      exact ih (i + 1) (by omega)
theorem c7_codeNow (ho : zt_ok h) (hV : zt_V σ h w s) : zw_Ti l G (d + 2) mX7_codeNow [.ref h] σ (fun x τ => σ = τ ∧ x = nI (zt_code w)) := by
  refine zw_enter2 (L := [some _, none, none]) (by decide) (Nat.le_of_ble_eq_true rfl) rfl ?_
  refine zi_iconst (nI 0) dX7_codeNow_0 (by decide) ?_
  refine zi_ist1 dX7_codeNow_1 (Nat.le_of_ble_eq_true rfl) rfl ?_
  refine zi_iconst (nI 0) dX7_codeNow_2 (by decide) ?_
  refine zi_ist2 dX7_codeNow_3 (Nat.le_of_ble_eq_true rfl) rfl ?_
  exact l7_codeNow ho hV w.length 0 (by omega)
theorem l7_copyFrom {q : Nat} (ho : zt_ok h) (hq : zt_ok q) (ha : h + 3 ≤ q ∨ q + 3 ≤ h) (hV : zt_V σ q w s) : ∀ n i τ, i + n = w.length → zt_V τ h (w.take i) (nI 1) → zw_F (zt_A h) σ τ → zw_W l G (d + 2) mX7_copyFrom 6 [some (.ref h), some (.ref q), some (.int (nI i))] [] τ (fun x υ => x = none ∧ zt_V υ h w s ∧ zw_F (zt_A h) σ υ) := by
  have k0 := ho.1
  have j0 := hq.1
  have h13 := hV.1
  intro n
  induction n with
  | zero =>
    intro i τ hi hT hF
    have hQ : zt_V τ q w s := hV.fr hF (by unfold zt_A; omega) (by unfold zt_A; omega)
    refine zi_ild2 dX7_copyFrom_6 ?_
    refine zi_ald1 dX7_copyFrom_7 ?_
    refine zi_getI dX7_copyFrom_8 flX7_18 rfl (by first | assumption | decide) ?_
    refine zi_icmp_ge 29 dX7_copyFrom_11 (by decide) (fun c11 => ?_) (fun c11 => ?_)
    · refine zi_ald0 dX7_copyFrom_29 ?_
      refine zi_ald1 dX7_copyFrom_30 ?_
      refine zi_getI dX7_copyFrom_31 flX7_22 rfl (by first | assumption | decide) ?_
      refine zi_putI dX7_copyFrom_34 flX7_22 fp_7_3 rfl (by first | assumption | decide) ?_
      refine zi_ret dX7_copyFrom_37 rfl ?_
      rw [List.take_of_length_le (by omega)] at hT
      obtain ⟨v1, v2, v3, v4, v5⟩ := hT
      refine ⟨rfl, ⟨v1, v2, ?_, ?_, fun i hi => ?_⟩, hF.pI ?_⟩
      · rw [zs_slot (by decide)]; exact v3
      · rw [zs_same]; exact hQ.2.2.2.1
      · rw [zs_obj (by omega)]; exact v5 i hi
      · exact ⟨by omega, by omega⟩
    · rw [hQ.2.2.1, zn_le (by omega) (by omega)] at c11; omega
  | succ n ih =>
    intro i τ hi hT hF
    have hQ : zt_V τ q w s := hV.fr hF (by unfold zt_A; omega) (by unfold zt_A; omega)
    have hx := zl_getD_lt hV.2.1 i
    refine zi_ild2 dX7_copyFrom_6 ?_
    refine zi_ald1 dX7_copyFrom_7 ?_
    refine zi_getI dX7_copyFrom_8 flX7_18 rfl (by first | assumption | decide) ?_
    refine zi_icmp_ge 29 dX7_copyFrom_11 (by decide) (fun c11 => ?_) (fun c11 => ?_)
    · rw [hQ.2.2.1, zn_le (by omega) (by omega)] at c11; omega
    · refine zi_ald0 dX7_copyFrom_14 ?_
      refine zi_ald1 dX7_copyFrom_15 ?_
      refine zi_ild2 dX7_copyFrom_16 ?_
      refine zi_cV1i vmX7_figureAt lkX7_32 dX7_copyFrom_17 (by first | assumption | decide) (Nat.le_of_ble_eq_true rfl) (c7_figureAt hq hQ (show i < 2147483648 by omega)) ?_
      rintro _ _ ⟨rfl, rfl⟩
      refine zi_cV1v vmX7_append lkX7_28 dX7_copyFrom_20 (by first | assumption | decide) (Nat.le_of_ble_eq_true rfl) (c7_append ho hT (by rw [List.length_take]; omega) hx) ?_
      rintro τ2 ⟨hT2, hF2⟩
      refine zi_inc2 (nI 1) dX7_copyFrom_23 (by decide) (Nat.le_of_ble_eq_true rfl) rfl ?_
      refine zi_goto 6 dX7_copyFrom_26 (by decide) ?_
      rw [nI_add]
      rw [← zl_take_succ (by omega)] at hT2
      exact ih (i + 1) τ2 (by omega) hT2 (hF.tr hF2 (fun _ q => q) (fun _ q => q))
theorem c7_copyFrom {q : Nat} (ho : zt_ok h) (hq : zt_ok q) (ha : h + 3 ≤ q ∨ q + 3 ≤ h) (hV : zt_V σ q w s) : zw_Tv l G (d + 2) mX7_copyFrom [.ref h, .ref q] σ (fun υ => zt_V υ h w s ∧ zw_F (zt_A h) σ υ) := by
  have k0 := ho.1
  refine zw_enter2 (L := [some _, some _, none]) (by decide) (Nat.le_of_ble_eq_true rfl) rfl ?_
  refine zi_ald0 dX7_copyFrom_0 ?_
  refine zi_cV0v vmX7_open lkX7_25 dX7_copyFrom_1 (by first | assumption | decide) (Nat.le_of_ble_eq_true rfl) (c7_open ho) ?_
  rintro τ1 ⟨hV1, hF1⟩
  refine zi_iconst (nI 0) dX7_copyFrom_4 (by decide) ?_
  refine zi_ist2 dX7_copyFrom_5 (Nat.le_of_ble_eq_true rfl) rfl ?_
  exact l7_copyFrom ho hq ha hV w.length 0 τ1 (by omega) hV1 hF1
theorem c7_equalTo {q : Nat} {v : List Nat} {t : Int32} (ho : zt_ok h) (hq : zt_ok q) (hV : zt_V σ h w s) (hQ : zt_V σ q v t) : zw_Ti l G (d + 3) mX7_equalTo [.ref h, .ref q] σ (fun x τ => σ = τ ∧ x = if s = t ∧ zt_code w = zt_code v then nI 1 else nI 0) := by
  have k0 := ho.1
  have j0 := hq.1
  have e1 := zt_code_small hV.2.1 hV.1
  have e2 := zt_code_small hQ.2.1 hQ.1
  refine zw_enter2 (L := [some _, some _]) (by decide) (Nat.le_of_ble_eq_true rfl) rfl ?_
  refine zi_ald0 dX7_equalTo_0 ?_
  refine zi_getI dX7_equalTo_1 flX7_22 rfl (by first | assumption | decide) ?_
  refine zi_ald1 dX7_equalTo_4 ?_
  refine zi_getI dX7_equalTo_5 flX7_22 rfl (by first | assumption | decide) ?_
  rw [hV.2.2.2.1, hQ.2.2.2.1]
  refine zi_icmp_ne 26 dX7_equalTo_8 (by decide) (fun c8 => ?_) (fun c8 => ?_)
  · refine zi_iconst (nI 0) dX7_equalTo_26 (by decide) ?_
    refine zi_zret dX7_equalTo_27 rfl (by decide) ?_
    refine ⟨_, rfl, rfl, ?_⟩
    first | (rw [zn_eq (by omega) (by omega)] at c19; simp [c8, c19]; done) | (simp [c8]; done)
  · refine zi_ald0 dX7_equalTo_11 ?_
    refine zi_cV0i vmX7_codeNow lkX7_40 dX7_equalTo_12 (by first | assumption | decide) (Nat.le_of_ble_eq_true rfl) (c7_codeNow ho hV) ?_
    rintro _ _ ⟨rfl, rfl⟩
    refine zi_ald1 dX7_equalTo_15 ?_
    refine zi_cV0i vmX7_codeNow lkX7_40 dX7_equalTo_16 (by first | assumption | decide) (Nat.le_of_ble_eq_true rfl) (c7_codeNow hq hQ) ?_
    rintro _ _ ⟨rfl, rfl⟩
    refine zi_icmp_ne 26 dX7_equalTo_19 (by decide) (fun c19 => ?_) (fun c19 => ?_)
    · refine zi_iconst (nI 0) dX7_equalTo_26 (by decide) ?_
      refine zi_zret dX7_equalTo_27 rfl (by decide) ?_
      refine ⟨_, rfl, rfl, ?_⟩
      first | (rw [zn_eq (by omega) (by omega)] at c19; simp [c8, c19]; done) | (simp [c8]; done)
    · refine zi_iconst (nI 1) dX7_equalTo_22 (by decide) ?_
      refine zi_goto 27 dX7_equalTo_23 (by decide) ?_
      refine zi_zret dX7_equalTo_27 rfl (by decide) ?_
      refine ⟨_, rfl, rfl, ?_⟩
      first | (rw [zn_eq (by omega) (by omega)] at c19; simp [c8, c19]; done) | (simp [c8]; done)
end Z12
