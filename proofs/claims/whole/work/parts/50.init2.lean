/-! THE CONSTRUCTORS with loops: history, the class, the model -/
section Z50
variable {l : Launch} {G : zw_G} {d : Nat}
theorem iX1_loop {p : Program} {e : Env} {R : Room} {s : State} {m : MethodId} {args : Array Value} {below : List Frame} {meth : Method} {c : Code} {Q : State → Prop} {fs : List Value} (hC : zc_C G (d + 3) mX1_init 7 129 p R s m args meth c) (hL : zc_L G) (hf0 : fs[0]? = some (.ref (G.2.2.1 8))) (hR : ∀ H locs cells slots ls, zc_X G R s 7 129 129 1 fs 8 (.inl (G.2.1 3, 20, .inr (.inr (.inr (.inr (fun j => if j < 20 then some (G.2.2.1 (zw_er 8 j)) else none)))))) 0 H locs cells slots → W p l e R s m args below meth c H locs cells slots Q (F0 m 50 ls [])) : ∀ (n i : Nat) (H : Heap) (locs : List Loc) (cells slots : Nat) (ls : Array Slot), i + n = 20 → zc_X G R s 7 129 (9 + 6 * i) 1 fs 8 (.inl (G.2.1 3, 20, .inr (.inr (.inr (.inr (fun j => if j < i then some (G.2.2.1 (zw_er 8 j)) else none)))))) (38 * n) H locs cells slots → lv_has ls 2 [(1, .int (nI i)), (0, .ref (G.2.2.1 7))] → W p l e R s m args below meth c H locs cells slots Q (F0 m 25 ls []) := by
  have hx := hC.1
  have hb := hC.2.1
  intro n
  induction n with
  | zero =>
    intro i H locs cells slots ls hi hv hl
    obtain rfl : i = 20 := by omega
    refine lv_iload_n hx hb dX1_init_25 rfl (lv_at hl 0 rfl) ?_
    refine lv_bipush (v := nI 20) hx hb dX1_init_26 (by decide) ?_
    refine lv_icmp_ge (tgt := 50) hx hb dX1_init_28 (by decide) (fun _ => ?_) (fun h => ?_)
    · exact hR H locs cells slots ls hv
    · exact absurd (by decide) h
  | succ n ih =>
    intro i H locs cells slots ls hi hv hl
    have hg := zq_ok i (by omega)
    have her : zw_er 8 i = 9 + 6 * i := by unfold zw_er; rw [if_pos rfl]
    refine lv_iload_n hx hb dX1_init_25 rfl (lv_at hl 0 rfl) ?_
    refine lv_bipush (v := nI 20) hx hb dX1_init_26 (by decide) ?_
    refine lv_icmp_ge (tgt := 50) hx hb dX1_init_28 (by decide) (fun h => ?_) (fun _ => ?_)
    · rw [zn_le (by omega) (by omega)] at h; omega
    · refine lv_aload_n hx hb dX1_init_31 rfl (lv_at hl 1 rfl) ?_
      refine zv_get hC hv dX1_init_32 ffX1_11 hf0 ?_
      refine lv_iload_n hx hb dX1_init_35 rfl (lv_at hl 0 rfl) ?_
      rw [show 38 * (n + 1) = 38 * n + (4 + 34) by omega] at hv
      refine zv_make (N := mX6_init) (y := 38 * n) (nf := 4) (mm := 5) (y' := 34) hC hv hl.1 (Nat.le_of_ble_eq_true rfl) dX1_init_36 dX1_init_39 dX1_init_40 clX1_9 ikX1_24 imX6 (iX6 hL hg (by omega)) (by omega) (fun H1 locs1 cells1 slots1 hv => ?_)
      refine zv_aast (r := (RX6, TX6, 4)) hC hv (by decide) rfl hg.1 (by decide) rfl (by omega) (by omega) (by omega) dX1_init_43 (show i < 20 by omega) (by decide) (fun H1 locs1 hv => ?_)
      rw [show va_up (fun j => if j < i then some (G.2.2.1 (zw_er 8 j)) else none) i (some (G.2.2.1 (9 + 6 * i))) = (fun j => if j < i + 1 then some (G.2.2.1 (zw_er 8 j)) else none) from by
        funext j
        unfold va_up
        by_cases q : j = i
        · rw [if_pos q, if_pos (by omega), q, her]
        · rw [if_neg q]
          by_cases r : j < i
          · exact (if_pos r).trans (if_pos (by omega)).symm
          · exact (if_neg r).trans (if_neg (by omega)).symm] at hv
      rw [show 9 + 6 * i + (5 + 1) = 9 + 6 * (i + 1) by omega] at hv
      refine lv_iinc (v := nI (i + 1)) (lv' := [(1, .int (nI (i + 1))), (0, .ref (G.2.2.1 7))]) hx hb dX1_init_44 hl (k := 0) rfl (nI_add i 1) (by decide) rfl (fun ls hl => ?_)
      refine lv_goto (tgt := 25) hx hb dX1_init_47 (by decide) ?_
      exact ih (i + 1) _ _ _ _ ls (by omega) hv hl
theorem iX1 (hL : zc_L G)  : zc_T l G (d + 3) mX1_init 7 121 1 780 := by
  refine zc_enter imX1 hL (by omega) (by decide) ?_
  intro p e s m args below meth c Q ls hC hin hS hl hR
  have hx := hC.1
  have hb := hC.2.1
  have hv := zc_X.start hS
  have hl : lv_has ls 2 [(0, .ref (G.2.2.1 7))] := hl
  refine lv_aload_n hx hb dX1_init_0 rfl (lv_at hl 0 rfl) ?_
  refine zk_oi hC hl.1 dX1_init_1 oiX1 ?_
  refine lv_aload_n hx hb dX1_init_4 rfl (lv_at hl 0 rfl) ?_
  refine lv_bipush (v := nI 20) hx hb dX1_init_5 (by decide) ?_
  refine zv_anewX (y := 760) (N := 20) (t := 3) (C := "GraftRules$State") hC hv dX1_init_7 cnX1_9 hC.2.2.2.2.2.1.2.2.1 rfl (by omega) (by decide) (by decide) (by decide) (fun H1 hv => ?_)
  rw [show 8 + 1 = 9 by omega] at hv
  refine zv_putR hC hin hv dX1_init_10 ffX1_11 (Nat.le_of_ble_eq_true rfl) (fun H1 locs1 hv => ?_)
  refine lv_aload_n hx hb dX1_init_13 rfl (lv_at hl 0 rfl) ?_
  refine lv_iconst (v := 0) hx hb dX1_init_14 (by decide) ?_
  refine zv_putI hC hv dX1_init_15 (fiX1_17 _) (Nat.le_of_ble_eq_true rfl) (fun H1 locs1 hv => ?_)
  refine lv_aload_n hx hb dX1_init_18 rfl (lv_at hl 0 rfl) ?_
  refine lv_iconst (v := 0) hx hb dX1_init_19 (by decide) ?_
  refine zv_putI hC hv dX1_init_20 (fiX1_21 _) (Nat.le_of_ble_eq_true rfl) (fun H1 locs1 hv => ?_)
  refine lv_iconst (v := nI 0) hx hb dX1_init_23 (by decide) ?_
  refine lv_istore_n (lv' := [(1, .int (nI 0)), (0, .ref (G.2.2.1 7))]) hx hb dX1_init_24 rfl hl (by decide) rfl (fun ls hl => ?_)
  rw [show (fun _ : Nat => (none : Option Nat)) = (fun j => if j < 0 then some (G.2.2.1 (zw_er 8 j)) else none) from funext (fun j => (if_neg (Nat.not_lt_zero j)).symm)] at hv
  refine iX1_loop hC hL rfl ?_ 20 0 _ _ _ _ ls rfl hv hl
  intro H locs cells slots ls hv
  replace hv := hv.close (fun a H h => by
    rw [zw_cell_q (c := 1) (by decide)]
    exact h)
  obtain ⟨Z, hS2, hZ⟩ := hv.done (by decide) (by decide) (zc_fs1 (by decide)).symm
  exact hR Z _ _ _ _ _ _ hS2 hZ dX1_init_50
theorem iX8_loop {p : Program} {e : Env} {R : Room} {s : State} {m : MethodId} {args : Array Value} {below : List Frame} {meth : Method} {c : Code} {Q : State → Prop} {fs : List Value} (hC : zc_C G (d + 4) mX8_init 0 168 p R s m args meth c) (hL : zc_L G) (hf0 : fs[2]? = some (.ref (G.2.2.1 129))) (hR : ∀ H locs cells slots ls, zc_X G R s 0 168 168 8 fs 129 (.inl (G.2.1 2, 2, .inr (.inr (.inr (.inr (fun j => if j < 2 then some (G.2.2.1 (zw_er 129 j)) else none)))))) 0 H locs cells slots → W p l e R s m args below meth c H locs cells slots Q (F0 m 138 ls [])) : ∀ (n i : Nat) (H : Heap) (locs : List Loc) (cells slots : Nat) (ls : Array Slot), i + n = 2 → zc_X G R s 0 168 (154 + 7 * i) 8 fs 129 (.inl (G.2.1 2, 2, .inr (.inr (.inr (.inr (fun j => if j < i then some (G.2.2.1 (zw_er 129 j)) else none)))))) (41 * n) H locs cells slots → lv_has ls 2 [(1, .int (nI i)), (0, .ref (G.2.2.1 0))] → W p l e R s m args below meth c H locs cells slots Q (F0 m 114 ls []) := by
  have hx := hC.1
  have hb := hC.2.1
  intro n
  induction n with
  | zero =>
    intro i H locs cells slots ls hi hv hl
    obtain rfl : i = 2 := by omega
    refine lv_iload_n hx hb dX8_init_114 rfl (lv_at hl 0 rfl) ?_
    refine lv_iconst (v := nI 2) hx hb dX8_init_115 (by decide) ?_
    refine lv_icmp_ge (tgt := 138) hx hb dX8_init_116 (by decide) (fun _ => ?_) (fun h => ?_)
    · exact hR H locs cells slots ls hv
    · exact absurd (by decide) h
  | succ n ih =>
    intro i H locs cells slots ls hi hv hl
    obtain ⟨hkd, hg⟩ := zx_im (show i < 2 by omega)
    have her : zw_er 129 i = 154 + 7 * i := by unfold zw_er; rw [if_neg (by decide), if_pos rfl]
    refine lv_iload_n hx hb dX8_init_114 rfl (lv_at hl 0 rfl) ?_
    refine lv_iconst (v := nI 2) hx hb dX8_init_115 (by decide) ?_
    refine lv_icmp_ge (tgt := 138) hx hb dX8_init_116 (by decide) (fun h => ?_) (fun _ => ?_)
    · rw [zn_le (by omega) (by omega)] at h; omega
    · refine lv_aload_n hx hb dX8_init_119 rfl (lv_at hl 1 rfl) ?_
      refine zv_get hC hv dX8_init_120 ffX8_25 hf0 ?_
      refine lv_iload_n hx hb dX8_init_123 rfl (lv_at hl 0 rfl) ?_
      rw [show 41 * (n + 1) = 41 * n + (3 + 38) by omega] at hv
      refine zv_make (N := mX2_init) (y := 41 * n) (nf := 3) (mm := 6) (y' := 38) hC hv hl.1 (Nat.le_of_ble_eq_true rfl) dX8_init_124 dX8_init_127 dX8_init_128 clX8_23 ikX8_74 imX2 (iX2 hL hkd (by rw [show 154 + 7 * i + 1 = 155 + 7 * i by omega]; exact hg) (by omega)) (by omega) (fun H1 locs1 cells1 slots1 hv => ?_)
      refine zv_aast (r := (RX2, TX2, 3)) hC hv (by decide) rfl hkd (by decide) rfl (by omega) (by omega) (by omega) dX8_init_131 (show i < 2 by omega) (by decide) (fun H1 locs1 hv => ?_)
      rw [show va_up (fun j => if j < i then some (G.2.2.1 (zw_er 129 j)) else none) i (some (G.2.2.1 (154 + 7 * i))) = (fun j => if j < i + 1 then some (G.2.2.1 (zw_er 129 j)) else none) from by
        funext j
        unfold va_up
        by_cases q : j = i
        · rw [if_pos q, if_pos (by omega), q, her]
        · rw [if_neg q]
          by_cases r : j < i
          · exact (if_pos r).trans (if_pos (by omega)).symm
          · exact (if_neg r).trans (if_neg (by omega)).symm] at hv
      rw [show 154 + 7 * i + (6 + 1) = 154 + 7 * (i + 1) by omega] at hv
      refine lv_iinc (v := nI (i + 1)) (lv' := [(1, .int (nI (i + 1))), (0, .ref (G.2.2.1 0))]) hx hb dX8_init_132 hl (k := 0) rfl (nI_add i 1) (by decide) rfl (fun ls hl => ?_)
      refine lv_goto (tgt := 114) hx hb dX8_init_135 (by decide) ?_
      exact ih (i + 1) _ _ _ _ ls (by omega) hv hl
theorem iX8 (hL : zc_L G)  : zc_T l G (d + 4) mX8_init 0 167 8 1149 := by
  refine zc_enter imX8 hL (by omega) (by decide) ?_
  intro p e s m args below meth c Q ls hC hin hS hl hR
  have hx := hC.1
  have hb := hC.2.1
  have hv := zc_X.start hS
  have hl : lv_has ls 2 [(0, .ref (G.2.2.1 0))] := hl
  refine lv_aload_n hx hb dX8_init_0 rfl (lv_at hl 0 rfl) ?_
  refine zk_oi hC hl.1 dX8_init_1 oiX8 ?_
  refine lv_aload_n hx hb dX8_init_4 rfl (lv_at hl 0 rfl) ?_
  refine zv_make (N := mX6_init) (y := 1111) (nf := 4) (mm := 5) (y' := 34) hC hv hl.1 (Nat.le_of_ble_eq_true rfl) dX8_init_5 dX8_init_8 dX8_init_9 clX8_9 ikX8_11 imX6 (iX6 hL zg_ok1 (by omega)) (by omega) (fun H1 locs1 cells1 slots1 hv => ?_)
  rw [show 1 + (5 + 1) = 7 by omega] at hv
  refine zv_putR hC hin hv dX8_init_12 ffX8_12 (Nat.le_of_ble_eq_true rfl) (fun H1 locs1 hv => ?_)
  refine lv_aload_n hx hb dX8_init_15 rfl (lv_at hl 0 rfl) ?_
  refine zv_make (N := mX1_init) (y := 328) (nf := 3) (mm := 121) (y' := 780) hC hv hl.1 (Nat.le_of_ble_eq_true rfl) dX8_init_16 dX8_init_19 dX8_init_20 clX8_16 ikX8_18 imX1 (iX1 hL) (by omega) (fun H1 locs1 cells1 slots1 hv => ?_)
  rw [show 7 + (121 + 1) = 129 by omega] at hv
  refine zv_putR hC hin hv dX8_init_23 ffX8_19 (Nat.le_of_ble_eq_true rfl) (fun H1 locs1 hv => ?_)
  refine lv_aload_n hx hb dX8_init_26 rfl (lv_at hl 0 rfl) ?_
  refine lv_iconst (v := nI 2) hx hb dX8_init_27 (by decide) ?_
  refine zv_anewX (y := 326) (N := 2) (t := 2) (C := "GraftRules$Image") hC hv dX8_init_28 cnX8_23 hC.2.2.2.2.2.1.2.2.2.1 rfl (by omega) (by decide) (by decide) (by decide) (fun H1 hv => ?_)
  rw [show 129 + 1 = 130 by omega] at hv
  refine zv_putR hC hin hv dX8_init_31 ffX8_25 (Nat.le_of_ble_eq_true rfl) (fun H1 locs1 hv => ?_)
  refine lv_aload_n hx hb dX8_init_34 rfl (lv_at hl 0 rfl) ?_
  refine zv_make (N := mX0_init) (y := 283) (nf := 3) (mm := 2) (y' := 40) hC hv hl.1 (Nat.le_of_ble_eq_true rfl) dX8_init_35 dX8_init_38 dX8_init_39 clX8_29 ikX8_31 imX0 (iX0 (d := d + 2) hL) (by omega) (fun H1 locs1 cells1 slots1 hv => ?_)
  rw [show 130 + (2 + 1) = 133 by omega] at hv
  refine zv_putR hC hin hv dX8_init_42 ffX8_32 (Nat.le_of_ble_eq_true rfl) (fun H1 locs1 hv => ?_)
  refine lv_aload_n hx hb dX8_init_45 rfl (lv_at hl 0 rfl) ?_
  refine zv_make (N := mX3_init) (y := 218) (nf := 5) (mm := 6) (y' := 60) hC hv hl.1 (Nat.le_of_ble_eq_true rfl) dX8_init_46 dX8_init_49 dX8_init_50 clX8_36 ikX8_38 imX3 (iX3 (d := d + 1) hL) (by omega) (fun H1 locs1 cells1 slots1 hv => ?_)
  rw [show 133 + (6 + 1) = 140 by omega] at hv
  refine zv_putR hC hin hv dX8_init_53 ffX8_39 (Nat.le_of_ble_eq_true rfl) (fun H1 locs1 hv => ?_)
  refine lv_aload_n hx hb dX8_init_56 rfl (lv_at hl 0 rfl) ?_
  refine zv_make (N := mX5_init) (y := 172) (nf := 4) (mm := 6) (y' := 42) hC hv hl.1 (Nat.le_of_ble_eq_true rfl) dX8_init_57 dX8_init_60 dX8_init_61 clX8_43 ikX8_45 imX5 (iX5 (d := d + 2) hL) (by omega) (fun H1 locs1 cells1 slots1 hv => ?_)
  rw [show 140 + (6 + 1) = 147 by omega] at hv
  refine zv_putR hC hin hv dX8_init_64 ffX8_46 (Nat.le_of_ble_eq_true rfl) (fun H1 locs1 hv => ?_)
  refine lv_aload_n hx hb dX8_init_67 rfl (lv_at hl 0 rfl) ?_
  refine zv_make (N := mX7_init) (y := 142) (nf := 4) (mm := 2) (y' := 26) hC hv hl.1 (Nat.le_of_ble_eq_true rfl) dX8_init_68 dX8_init_71 dX8_init_72 clX8_50 ikX8_52 imX7 (iX7 (d := d + 2) hL zt_ok147 (zc_z (by decide) (by decide) (by decide)) (zc_z (by decide) (by decide) (by decide)) (by omega)) (by omega) (fun H1 locs1 cells1 slots1 hv => ?_)
  rw [show 147 + (2 + 1) = 150 by omega] at hv
  refine zv_putR hC hin hv dX8_init_75 ffX8_53 (Nat.le_of_ble_eq_true rfl) (fun H1 locs1 hv => ?_)
  refine lv_aload_n hx hb dX8_init_78 rfl (lv_at hl 0 rfl) ?_
  refine zv_make (N := mX7_init) (y := 112) (nf := 4) (mm := 2) (y' := 26) hC hv hl.1 (Nat.le_of_ble_eq_true rfl) dX8_init_79 dX8_init_82 dX8_init_83 clX8_50 ikX8_52 imX7 (iX7 (d := d + 2) hL zt_ok150 (zc_z (by decide) (by decide) (by decide)) (zc_z (by decide) (by decide) (by decide)) (by omega)) (by omega) (fun H1 locs1 cells1 slots1 hv => ?_)
  rw [show 150 + (2 + 1) = 153 by omega] at hv
  refine zv_putR hC hin hv dX8_init_86 ffX8_57 (Nat.le_of_ble_eq_true rfl) (fun H1 locs1 hv => ?_)
  refine lv_aload_n hx hb dX8_init_89 rfl (lv_at hl 0 rfl) ?_
  refine lv_bipush (v := nI 30) hx hb dX8_init_90 (by decide) ?_
  refine zv_newi (y := 82) (N := 30) hC hv dX8_init_92 (by omega) (by decide) (by decide) (by decide) (by decide) (by decide) (zc_z (by decide) (by decide) (by decide)) (fun H1 hv => ?_)
  rw [show 153 + 1 = 154 by omega] at hv
  refine zv_putR hC hin hv dX8_init_94 ffX8_60 (Nat.le_of_ble_eq_true rfl) (fun H1 locs1 hv => ?_)
  refine lv_aload_n hx hb dX8_init_97 rfl (lv_at hl 0 rfl) ?_
  refine lv_iconst (v := 0) hx hb dX8_init_98 (by decide) ?_
  refine zv_putI hC hv dX8_init_99 (fiX8_64 _) (Nat.le_of_ble_eq_true rfl) (fun H1 locs1 hv => ?_)
  refine lv_aload_n hx hb dX8_init_102 rfl (lv_at hl 0 rfl) ?_
  refine lv_iconst (v := -1) hx hb dX8_init_103 (by decide) ?_
  refine zv_putI hC hv dX8_init_104 (fiX8_68 _) (Nat.le_of_ble_eq_true rfl) (fun H1 locs1 hv => ?_)
  refine lv_aload_n hx hb dX8_init_107 rfl (lv_at hl 0 rfl) ?_
  refine lv_iconst (v := 0) hx hb dX8_init_108 (by decide) ?_
  refine zv_putI hC hv dX8_init_109 (fiX8_71 _) (Nat.le_of_ble_eq_true rfl) (fun H1 locs1 hv => ?_)
  refine lv_iconst (v := nI 0) hx hb dX8_init_112 (by decide) ?_
  refine lv_istore_n (lv' := [(1, .int (nI 0)), (0, .ref (G.2.2.1 0))]) hx hb dX8_init_113 rfl hl (by decide) rfl (fun ls hl => ?_)
  rw [show (fun _ : Nat => (none : Option Nat)) = (fun j => if j < 0 then some (G.2.2.1 (zw_er 129 j)) else none) from funext (fun j => (if_neg (Nat.not_lt_zero j)).symm)] at hv
  refine iX8_loop hC hL rfl ?_ 2 0 _ _ _ _ ls rfl hv hl
  intro H locs cells slots ls hv
  replace hv := hv.close (fun a H h => by
    rw [zw_cell_q (c := 0) (by decide)]
    exact h)
  obtain ⟨Z, hS2, hZ⟩ := hv.done (by decide) (by decide) (zc_fs8).symm
  exact hR Z _ _ _ _ _ _ hS2 hZ dX8_init_138
end Z50
