/-! THE CONSTRUCTORS -/
theorem zc_z {i : Nat} (h : zw_kd i = 10) (h1 : zw_kd (i - 1) ≠ 9) (h2 : zw_kd (i - 2) ≠ 4) (j : Nat) : zc_0.1 i j = 0 := by
  have h3 : ¬ i = 169 := fun q => h1 (by rw [q]; decide)
  simp [zc_0, h, h2, h3]
theorem zc_g {i : Nat} (h : zw_kd i = 10) (h2 : zw_kd (i - 2) = 4) (j : Nat) : zc_0.1 i j = -1 := by simp [zc_0, h, h2]
section Z49
variable {l : Launch} {G : zw_G} {d : Nat}
theorem zc_fs0 {k : Nat} (h : zw_kd k = 0) : zw_fs G zc_0 k = [.ref (G.2.2.1 (k + 1)), .ref (G.2.2.1 (k + 2)), .int 0] := by
  unfold zw_fs zw_fo
  rw [h]
  show ([.ref (G.2.2.1 (k + 1)), .ref (G.2.2.1 (k + 2)), .int (zc_0.1 k 2)] : List Value) = _
  rw [show zc_0.1 k 2 = 0 from by simp [zc_0, h]]
theorem zc_fs1 {k : Nat} (h : zw_kd k = 1) : zw_fs G zc_0 k = [.ref (G.2.2.1 (k + 1)), .int 0, .int 0] := by
  unfold zw_fs zw_fo
  rw [h]
  show ([.ref (G.2.2.1 (k + 1)), .int (zc_0.1 k 1), .int (zc_0.1 k 2)] : List Value) = _
  rw [show zc_0.1 k 1 = 0 from by simp [zc_0, h], show zc_0.1 k 2 = 0 from by simp [zc_0, h]]
theorem zc_fs2 {k : Nat} (h : zw_kd k = 2) : zw_fs G zc_0 k = [.ref (G.2.2.1 (k + 1)), .int 0, .int 0] := by
  unfold zw_fs zw_fo
  rw [h]
  show ([.ref (G.2.2.1 (k + 1)), .int (zc_0.1 k 1), .int (zc_0.1 k 2)] : List Value) = _
  rw [show zc_0.1 k 1 = 0 from by simp [zc_0, h], show zc_0.1 k 2 = 0 from by simp [zc_0, h]]
theorem zc_fs3 {k : Nat} (h : zw_kd k = 3) : zw_fs G zc_0 k = [.ref (G.2.2.1 (k + 1)), .ref (G.2.2.1 (k + 4)), .int 0, .int 0, .int (-1)] := by
  unfold zw_fs zw_fo
  rw [h]
  show ([.ref (G.2.2.1 (k + 1)), .ref (G.2.2.1 (k + 4)), .int (zc_0.1 k 2), .int (zc_0.1 k 3), .int (zc_0.1 k 4)] : List Value) = _
  rw [show zc_0.1 k 2 = 0 from by simp [zc_0, h], show zc_0.1 k 3 = 0 from by simp [zc_0, h], show zc_0.1 k 4 = -1 from by simp [zc_0, h]]
theorem zc_fs4 {k : Nat} (h : zw_kd k = 4) : zw_fs G zc_0 k = [.ref (G.2.2.1 (k + 1)), .ref (G.2.2.1 (k + 2))] := by
  unfold zw_fs zw_fo
  rw [h]
  show ([.ref (G.2.2.1 (k + 1)), .ref (G.2.2.1 (k + 2))] : List Value) = _
  rfl
theorem zc_fs5 {k : Nat} (h : zw_kd k = 5) : zw_fs G zc_0 k = [.ref (G.2.2.1 (k + 1)), .ref (G.2.2.1 (k + 2)), .ref (G.2.2.1 (k + 5)), .ref (G.2.2.1 (k + 6))] := by
  unfold zw_fs zw_fo
  rw [h]
  show ([.ref (G.2.2.1 (k + 1)), .ref (G.2.2.1 (k + 2)), .ref (G.2.2.1 (k + 5)), .ref (G.2.2.1 (k + 6))] : List Value) = _
  rfl
theorem zc_fs6 {k : Nat} (h : zw_kd k = 6) : zw_fs G zc_0 k = [.ref (G.2.2.1 (k + 1)), .ref (G.2.2.1 (k + 4)), .ref (G.2.2.1 (k + 5)), .int 0] := by
  unfold zw_fs zw_fo
  rw [h]
  show ([.ref (G.2.2.1 (k + 1)), .ref (G.2.2.1 (k + 4)), .ref (G.2.2.1 (k + 5)), .int (zc_0.1 k 3)] : List Value) = _
  rw [show zc_0.1 k 3 = 0 from by simp [zc_0, h]]
theorem zc_fs7 {k : Nat} (h : zw_kd k = 7) : zw_fs G zc_0 k = [.ref (G.2.2.1 (k + 1)), .ref (G.2.2.1 (k + 2)), .int 1, .int 1] := by
  unfold zw_fs zw_fo
  rw [h]
  show ([.ref (G.2.2.1 (k + 1)), .ref (G.2.2.1 (k + 2)), .int (zc_0.1 k 2), .int (zc_0.1 k 3)] : List Value) = _
  rw [show zc_0.1 k 2 = 1 from by simp [zc_0, h], show zc_0.1 k 3 = 1 from by simp [zc_0, h]]
theorem zc_fs8 : zw_fs G zc_0 0 = [.ref (G.2.2.1 (1)), .ref (G.2.2.1 (7)), .ref (G.2.2.1 (129)), .ref (G.2.2.1 (130)), .ref (G.2.2.1 (133)), .ref (G.2.2.1 (140)), .ref (G.2.2.1 (147)), .ref (G.2.2.1 (150)), .ref (G.2.2.1 (153)), .int 0, .int (-1), .int 0] := by
  unfold zw_fs zw_fo
  rw [show zw_kd 0 = 8 by decide]
  show ([.ref (G.2.2.1 (0 + 1)), .ref (G.2.2.1 (0 + 7)), .ref (G.2.2.1 (0 + 129)), .ref (G.2.2.1 (0 + 130)), .ref (G.2.2.1 (0 + 133)), .ref (G.2.2.1 (0 + 140)), .ref (G.2.2.1 (0 + 147)), .ref (G.2.2.1 (0 + 150)), .ref (G.2.2.1 (0 + 153)), .int (zc_0.1 0 9), .int (zc_0.1 0 10), .int (zc_0.1 0 11)] : List Value) = _
  rw [show zc_0.1 0 9 = 0 from by decide, show zc_0.1 0 10 = -1 from by decide, show zc_0.1 0 11 = 0 from by decide]
theorem iX4 {k : Nat} (hL : zc_L G) (h : zr_ok k) (hz : zw_kd (k - 1) = 6) (hk : k + 3 ≤ 182) : zc_T l G (d + 1) mX4_init k 2 4 16 := by
  obtain ⟨k0, k1, k2, l1, l2⟩ := h
  refine zc_enter imX4 hL (by omega) (by decide) ?_
  intro p e s m args below meth c Q ls hC hin hS hl hR
  have hx := hC.1
  have hb := hC.2.1
  have hv := zc_X.start hS
  have hl : lv_has ls 1 [(0, .ref (G.2.2.1 k))] := hl
  refine lv_aload_n hx hb dX4_init_0 rfl (lv_at hl 0 rfl) ?_
  refine zk_oi hC hl.1 dX4_init_1 oiX4 ?_
  refine lv_aload_n hx hb dX4_init_4 rfl (lv_at hl 0 rfl) ?_
  refine lv_bipush (v := nI 8) hx hb dX4_init_5 (by decide) ?_
  refine zv_newi (y := 8) (N := 8) hC hv dX4_init_7 (by omega) (by decide) (by decide) (by decide) k1 l1 (zc_z k1 (by rw [show k + 1 - 1 = k by omega, k0]; decide) (by rw [show k + 1 - 2 = k - 1 by omega, hz]; decide)) (fun H1 hv => ?_)
  rw [show k + 1 + 1 = k + 2 by omega] at hv
  refine zv_putR hC hin hv dX4_init_9 ffX4_9 (Nat.le_of_ble_eq_true rfl) (fun H1 locs1 hv => ?_)
  refine lv_aload_n hx hb dX4_init_12 rfl (lv_at hl 0 rfl) ?_
  refine lv_bipush (v := nI 8) hx hb dX4_init_13 (by decide) ?_
  refine zv_newiX (y := 0) (N := 8) hC hv dX4_init_15 (by omega) (by decide) (by decide) (by decide) (fun H1 hv => ?_)
  rw [show k + 2 + 1 = k + 3 by omega] at hv
  refine zv_putR hC hin hv dX4_init_17 ffX4_15 (Nat.le_of_ble_eq_true rfl) (fun H1 locs1 hv => ?_)
  refine lv_aload_n hx hb dX4_init_20 rfl (lv_at hl 0 rfl) ?_
  refine zv_get hC hv dX4_init_21 ffX4_15 rfl ?_
  refine lv_iconst (v := -1) hx hb dX4_init_24 (by decide) ?_
  refine zv_fill (d := d) hC hv hl.1 (by omega) (by omega) dX4_init_25 lkX4_18 (fun H1 locs1 hv => ?_)
  replace hv := hv.close (fun a H h => by
    rw [zw_cell_i k2, l2, show zc_0.1 (k + 2) = fun _ => -1 from funext (zc_g k2 (by rw [show k + 2 - 2 = k by omega]; exact k0))]; exact h)
  obtain ⟨Z, hS2, hZ⟩ := hv.done k0 (by decide) (zc_fs4 k0).symm
  exact hR Z _ _ _ _ _ _ hS2 hZ dX4_init_28
theorem iX6 {k : Nat} (hL : zc_L G) (h : zg_ok k) (hk : k + 6 ≤ 182) : zc_T l G (d + 2) mX6_init k 5 6 34 := by
  obtain ⟨k0, hr, k4, k5, l4, l5⟩ := h
  obtain ⟨r0, r1, r2, m1, m2⟩ := id hr
  refine zc_enter imX6 hL (by omega) (by decide) ?_
  intro p e s m args below meth c Q ls hC hin hS hl hR
  have hx := hC.1
  have hb := hC.2.1
  have hv := zc_X.start hS
  have hl : lv_has ls 1 [(0, .ref (G.2.2.1 k))] := hl
  refine lv_aload_n hx hb dX6_init_0 rfl (lv_at hl 0 rfl) ?_
  refine zk_oi hC hl.1 dX6_init_1 oiX6 ?_
  refine lv_aload_n hx hb dX6_init_4 rfl (lv_at hl 0 rfl) ?_
  refine zv_make (N := mX4_init) (y := 16) (nf := 2) (mm := 2) (y' := 16) hC hv hl.1 (Nat.le_of_ble_eq_true rfl) dX6_init_5 dX6_init_8 dX6_init_9 clX6_9 ikX6_11 imX4 (iX4 hL hr (by rw [show k + 1 - 1 = k by omega]; exact k0) (by omega)) (by omega) (fun H1 locs1 cells1 slots1 hv => ?_)
  rw [show k + 1 + (2 + 1) = k + 4 by omega] at hv
  refine zv_putR hC hin hv dX6_init_12 ffX6_12 (Nat.le_of_ble_eq_true rfl) (fun H1 locs1 hv => ?_)
  refine lv_aload_n hx hb dX6_init_15 rfl (lv_at hl 0 rfl) ?_
  refine lv_bipush (v := nI 8) hx hb dX6_init_16 (by decide) ?_
  refine zv_newi (y := 8) (N := 8) hC hv dX6_init_18 (by omega) (by decide) (by decide) (by decide) k4 l4 (zc_z k4 (by rw [show k + 4 - 1 = k + 1 + 2 by omega, r2]; decide) (by rw [show k + 4 - 2 = k + 1 + 1 by omega, r1]; decide)) (fun H1 hv => ?_)
  rw [show k + 4 + 1 = k + 5 by omega] at hv
  refine zv_putR hC hin hv dX6_init_20 ffX6_18 (Nat.le_of_ble_eq_true rfl) (fun H1 locs1 hv => ?_)
  refine lv_aload_n hx hb dX6_init_23 rfl (lv_at hl 0 rfl) ?_
  refine lv_bipush (v := nI 8) hx hb dX6_init_24 (by decide) ?_
  refine zv_newi (y := 0) (N := 8) hC hv dX6_init_26 (by omega) (by decide) (by decide) (by decide) k5 l5 (zc_z k5 (by rw [show k + 5 - 1 = k + 4 by omega, k4]; decide) (by rw [show k + 5 - 2 = k + 1 + 2 by omega, r2]; decide)) (fun H1 hv => ?_)
  rw [show k + 5 + 1 = k + 6 by omega] at hv
  refine zv_putR hC hin hv dX6_init_28 ffX6_22 (Nat.le_of_ble_eq_true rfl) (fun H1 locs1 hv => ?_)
  refine lv_aload_n hx hb dX6_init_31 rfl (lv_at hl 0 rfl) ?_
  refine lv_iconst (v := 0) hx hb dX6_init_32 (by decide) ?_
  refine zv_putI hC hv dX6_init_33 (fiX6_25 _) (Nat.le_of_ble_eq_true rfl) (fun H1 locs1 hv => ?_)
  obtain ⟨Z, hS2, hZ⟩ := hv.done k0 (by decide) (zc_fs6 k0).symm
  exact hR Z _ _ _ _ _ _ hS2 hZ dX6_init_36
theorem iX7 {k : Nat} (hL : zc_L G) (h : zt_ok k) (h1 : ∀ j, zc_0.1 (k + 1) j = 0) (h2 : ∀ j, zc_0.1 (k + 2) j = 0) (hk : k + 3 ≤ 182) : zc_T l G (d + 1) mX7_init k 2 7 26 := by
  obtain ⟨k0, k1, k2, l1, l2⟩ := h
  refine zc_enter imX7 hL (by omega) (by decide) ?_
  intro p e s m args below meth c Q ls hC hin hS hl hR
  have hx := hC.1
  have hb := hC.2.1
  have hv := zc_X.start hS
  have hl : lv_has ls 1 [(0, .ref (G.2.2.1 k))] := hl
  refine lv_aload_n hx hb dX7_init_0 rfl (lv_at hl 0 rfl) ?_
  refine zk_oi hC hl.1 dX7_init_1 oiX7 ?_
  refine lv_aload_n hx hb dX7_init_4 rfl (lv_at hl 0 rfl) ?_
  refine lv_bipush (v := nI 13) hx hb dX7_init_5 (by decide) ?_
  refine zv_newi (y := 13) (N := 13) hC hv dX7_init_7 (by omega) (by decide) (by decide) (by decide) k1 l1 h1 (fun H1 hv => ?_)
  rw [show k + 1 + 1 = k + 2 by omega] at hv
  refine zv_putR hC hin hv dX7_init_9 ffX7_9 (Nat.le_of_ble_eq_true rfl) (fun H1 locs1 hv => ?_)
  refine lv_aload_n hx hb dX7_init_12 rfl (lv_at hl 0 rfl) ?_
  refine lv_bipush (v := nI 13) hx hb dX7_init_13 (by decide) ?_
  refine zv_newi (y := 0) (N := 13) hC hv dX7_init_15 (by omega) (by decide) (by decide) (by decide) k2 l2 h2 (fun H1 hv => ?_)
  rw [show k + 2 + 1 = k + 3 by omega] at hv
  refine zv_putR hC hin hv dX7_init_17 ffX7_15 (Nat.le_of_ble_eq_true rfl) (fun H1 locs1 hv => ?_)
  refine lv_aload_n hx hb dX7_init_20 rfl (lv_at hl 0 rfl) ?_
  refine lv_iconst (v := 1) hx hb dX7_init_21 (by decide) ?_
  refine zv_putI hC hv dX7_init_22 (fiX7_18 _) (Nat.le_of_ble_eq_true rfl) (fun H1 locs1 hv => ?_)
  refine lv_aload_n hx hb dX7_init_25 rfl (lv_at hl 0 rfl) ?_
  refine lv_iconst (v := 1) hx hb dX7_init_26 (by decide) ?_
  refine zv_putI hC hv dX7_init_27 (fiX7_22 _) (Nat.le_of_ble_eq_true rfl) (fun H1 locs1 hv => ?_)
  obtain ⟨Z, hS2, hZ⟩ := hv.done k0 (by decide) (zc_fs7 k0).symm
  exact hR Z _ _ _ _ _ _ hS2 hZ dX7_init_30
theorem iX0 (hL : zc_L G)  : zc_T l G (d + 1) mX0_init 130 2 0 40 := by
  refine zc_enter imX0 hL (by omega) (by decide) ?_
  intro p e s m args below meth c Q ls hC hin hS hl hR
  have hx := hC.1
  have hb := hC.2.1
  have hv := zc_X.start hS
  have hl : lv_has ls 1 [(0, .ref (G.2.2.1 130))] := hl
  refine lv_aload_n hx hb dX0_init_0 rfl (lv_at hl 0 rfl) ?_
  refine zk_oi hC hl.1 dX0_init_1 oiX0 ?_
  refine lv_aload_n hx hb dX0_init_4 rfl (lv_at hl 0 rfl) ?_
  refine lv_bipush (v := nI 20) hx hb dX0_init_5 (by decide) ?_
  refine zv_newi (y := 20) (N := 20) hC hv dX0_init_7 (by omega) (by decide) (by decide) (by decide) (by decide) (by decide) (zc_z (by decide) (by decide) (by decide)) (fun H1 hv => ?_)
  rw [show 131 + 1 = 132 by omega] at hv
  refine zv_putR hC hin hv dX0_init_9 ffX0_9 (Nat.le_of_ble_eq_true rfl) (fun H1 locs1 hv => ?_)
  refine lv_aload_n hx hb dX0_init_12 rfl (lv_at hl 0 rfl) ?_
  refine lv_bipush (v := nI 20) hx hb dX0_init_13 (by decide) ?_
  refine zv_newi (y := 0) (N := 20) hC hv dX0_init_15 (by omega) (by decide) (by decide) (by decide) (by decide) (by decide) (zc_z (by decide) (by decide) (by decide)) (fun H1 hv => ?_)
  rw [show 132 + 1 = 133 by omega] at hv
  refine zv_putR hC hin hv dX0_init_17 ffX0_15 (Nat.le_of_ble_eq_true rfl) (fun H1 locs1 hv => ?_)
  refine lv_aload_n hx hb dX0_init_20 rfl (lv_at hl 0 rfl) ?_
  refine lv_iconst (v := 0) hx hb dX0_init_21 (by decide) ?_
  refine zv_putI hC hv dX0_init_22 (fiX0_18 _) (Nat.le_of_ble_eq_true rfl) (fun H1 locs1 hv => ?_)
  obtain ⟨Z, hS2, hZ⟩ := hv.done (by decide) (by decide) (zc_fs0 (by decide)).symm
  exact hR Z _ _ _ _ _ _ hS2 hZ dX0_init_25
theorem iX3 (hL : zc_L G)  : zc_T l G (d + 2) mX3_init 133 6 3 60 := by
  refine zc_enter imX3 hL (by omega) (by decide) ?_
  intro p e s m args below meth c Q ls hC hin hS hl hR
  have hx := hC.1
  have hb := hC.2.1
  have hv := zc_X.start hS
  have hl : lv_has ls 1 [(0, .ref (G.2.2.1 133))] := hl
  refine lv_aload_n hx hb dX3_init_0 rfl (lv_at hl 0 rfl) ?_
  refine zk_oi hC hl.1 dX3_init_1 oiX3 ?_
  refine lv_aload_n hx hb dX3_init_4 rfl (lv_at hl 0 rfl) ?_
  refine zv_make (N := mX7_init) (y := 30) (nf := 4) (mm := 2) (y' := 26) hC hv hl.1 (Nat.le_of_ble_eq_true rfl) dX3_init_5 dX3_init_8 dX3_init_9 clX3_9 ikX3_11 imX7 (iX7 hL zt_ok134 (zc_z (by decide) (by decide) (by decide)) (zc_z (by decide) (by decide) (by decide)) (by omega)) (by omega) (fun H1 locs1 cells1 slots1 hv => ?_)
  rw [show 134 + (2 + 1) = 137 by omega] at hv
  refine zv_putR hC hin hv dX3_init_12 ffX3_12 (Nat.le_of_ble_eq_true rfl) (fun H1 locs1 hv => ?_)
  refine lv_aload_n hx hb dX3_init_15 rfl (lv_at hl 0 rfl) ?_
  refine zv_make (N := mX7_init) (y := 0) (nf := 4) (mm := 2) (y' := 26) hC hv hl.1 (Nat.le_of_ble_eq_true rfl) dX3_init_16 dX3_init_19 dX3_init_20 clX3_9 ikX3_11 imX7 (iX7 hL zt_ok137 (zc_z (by decide) (by decide) (by decide)) (zc_z (by decide) (by decide) (by decide)) (by omega)) (by omega) (fun H1 locs1 cells1 slots1 hv => ?_)
  rw [show 137 + (2 + 1) = 140 by omega] at hv
  refine zv_putR hC hin hv dX3_init_23 ffX3_18 (Nat.le_of_ble_eq_true rfl) (fun H1 locs1 hv => ?_)
  refine lv_aload_n hx hb dX3_init_26 rfl (lv_at hl 0 rfl) ?_
  refine lv_iconst (v := 0) hx hb dX3_init_27 (by decide) ?_
  refine zv_putI hC hv dX3_init_28 (fiX3_21 _) (Nat.le_of_ble_eq_true rfl) (fun H1 locs1 hv => ?_)
  refine lv_aload_n hx hb dX3_init_31 rfl (lv_at hl 0 rfl) ?_
  refine lv_iconst (v := 0) hx hb dX3_init_32 (by decide) ?_
  refine zv_putI hC hv dX3_init_33 (fiX3_25 _) (Nat.le_of_ble_eq_true rfl) (fun H1 locs1 hv => ?_)
  refine lv_aload_n hx hb dX3_init_36 rfl (lv_at hl 0 rfl) ?_
  refine lv_iconst (v := -1) hx hb dX3_init_37 (by decide) ?_
  refine zv_putI hC hv dX3_init_38 (fiX3_28 _) (Nat.le_of_ble_eq_true rfl) (fun H1 locs1 hv => ?_)
  obtain ⟨Z, hS2, hZ⟩ := hv.done (by decide) (by decide) (zc_fs3 (by decide)).symm
  exact hR Z _ _ _ _ _ _ hS2 hZ dX3_init_41
theorem iX5 (hL : zc_L G)  : zc_T l G (d + 1) mX5_init 140 6 5 42 := by
  refine zc_enter imX5 hL (by omega) (by decide) ?_
  intro p e s m args below meth c Q ls hC hin hS hl hR
  have hx := hC.1
  have hb := hC.2.1
  have hv := zc_X.start hS
  have hl : lv_has ls 1 [(0, .ref (G.2.2.1 140))] := hl
  refine lv_aload_n hx hb dX5_init_0 rfl (lv_at hl 0 rfl) ?_
  refine zk_oi hC hl.1 dX5_init_1 oiX5 ?_
  refine lv_aload_n hx hb dX5_init_4 rfl (lv_at hl 0 rfl) ?_
  refine lv_bipush (v := nI 8) hx hb dX5_init_5 (by decide) ?_
  refine zv_newl (y := 34) (N := 8) hC hv dX5_init_7 (by omega) (by decide) (by decide) (by decide) (by decide) (by decide) (fun H1 hv => ?_)
  rw [show 141 + 1 = 142 by omega] at hv
  refine zv_putR hC hin hv dX5_init_9 ffX5_9 (Nat.le_of_ble_eq_true rfl) (fun H1 locs1 hv => ?_)
  refine lv_aload_n hx hb dX5_init_12 rfl (lv_at hl 0 rfl) ?_
  refine lv_iconst (v := nI 2) hx hb dX5_init_13 (by decide) ?_
  refine lv_bipush (v := nI 8) hx hb dX5_init_14 (by decide) ?_
  refine zv_multi (y := 16) hC hv dX5_init_16 cnX5_15 (by omega) (by decide) (by decide) (by decide) (by decide) (by decide) (by decide) (fun j => by unfold zw_er; rw [if_neg (by decide), if_neg (by decide)]) (fun H1 locs1 hv => ?_)
  rw [show 142 + 3 = 145 by omega] at hv
  refine zv_putR hC hin hv dX5_init_20 ffX5_17 (Nat.le_of_ble_eq_true rfl) (fun H1 locs1 hv => ?_)
  refine lv_aload_n hx hb dX5_init_23 rfl (lv_at hl 0 rfl) ?_
  refine lv_bipush (v := nI 8) hx hb dX5_init_24 (by decide) ?_
  refine zv_newl (y := 8) (N := 8) hC hv dX5_init_26 (by omega) (by decide) (by decide) (by decide) (by decide) (by decide) (fun H1 hv => ?_)
  rw [show 145 + 1 = 146 by omega] at hv
  refine zv_putR hC hin hv dX5_init_28 ffX5_20 (Nat.le_of_ble_eq_true rfl) (fun H1 locs1 hv => ?_)
  refine lv_aload_n hx hb dX5_init_31 rfl (lv_at hl 0 rfl) ?_
  refine lv_bipush (v := nI 8) hx hb dX5_init_32 (by decide) ?_
  refine zv_newl (y := 0) (N := 8) hC hv dX5_init_34 (by omega) (by decide) (by decide) (by decide) (by decide) (by decide) (fun H1 hv => ?_)
  rw [show 146 + 1 = 147 by omega] at hv
  refine zv_putR hC hin hv dX5_init_36 ffX5_23 (Nat.le_of_ble_eq_true rfl) (fun H1 locs1 hv => ?_)
  obtain ⟨Z, hS2, hZ⟩ := hv.done (by decide) (by decide) (zc_fs5 (by decide)).symm
  exact hR Z _ _ _ _ _ _ hS2 hZ dX5_init_39
theorem iX2 {k : Nat} (hL : zc_L G) (h : zw_kd k = 2) (hg : zg_ok (k + 1)) (hk : k + 7 ≤ 182) : zc_T l G (d + 3) mX2_init k 6 2 38 := by
  refine zc_enter imX2 hL (by omega) (by decide) ?_
  intro p e s m args below meth c Q ls hC hin hS hl hR
  have hx := hC.1
  have hb := hC.2.1
  have hv := zc_X.start hS
  have hl : lv_has ls 1 [(0, .ref (G.2.2.1 k))] := hl
  refine lv_aload_n hx hb dX2_init_0 rfl (lv_at hl 0 rfl) ?_
  refine zk_oi hC hl.1 dX2_init_1 oiX2 ?_
  refine lv_aload_n hx hb dX2_init_4 rfl (lv_at hl 0 rfl) ?_
  refine zv_make (N := mX6_init) (y := 0) (nf := 4) (mm := 5) (y' := 34) hC hv hl.1 (Nat.le_of_ble_eq_true rfl) dX2_init_5 dX2_init_8 dX2_init_9 clX2_7 ikX2_9 imX6 (iX6 hL hg (by omega)) (by omega) (fun H1 locs1 cells1 slots1 hv => ?_)
  rw [show k + 1 + (5 + 1) = k + 7 by omega] at hv
  refine zv_putR hC hin hv dX2_init_12 ffX2_10 (Nat.le_of_ble_eq_true rfl) (fun H1 locs1 hv => ?_)
  refine lv_aload_n hx hb dX2_init_15 rfl (lv_at hl 0 rfl) ?_
  refine lv_iconst (v := 0) hx hb dX2_init_16 (by decide) ?_
  refine zv_putI hC hv dX2_init_17 (fiX2_16 _) (Nat.le_of_ble_eq_true rfl) (fun H1 locs1 hv => ?_)
  refine lv_aload_n hx hb dX2_init_20 rfl (lv_at hl 0 rfl) ?_
  refine lv_iconst (v := 0) hx hb dX2_init_21 (by decide) ?_
  refine zv_putI hC hv dX2_init_22 fiX2_20 (Nat.le_of_ble_eq_true rfl) (fun H1 locs1 hv => ?_)
  obtain ⟨Z, hS2, hZ⟩ := hv.done h (by decide) (zc_fs2 h).symm
  exact hR Z _ _ _ _ _ _ hS2 hZ dX2_init_25
end Z49
