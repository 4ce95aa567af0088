/-! THE MODEL'S CONSTRUCTOR -/
section Z51
variable {l : Launch} {G : zw_G} {d : Nat}
theorem zc_fs9 {k : Nat} (e : k = 168) : zw_fs G zc_0 k = [.ref (G.2.2.1 (k + 1)), .int 0, .int 0, .int 0, .ref (G.2.2.1 (k + 2)), .ref (G.2.2.1 (k + 3)), .int 0, .int (-1), .ref (G.2.2.1 (k + 4)), .ref (G.2.2.1 (k + 5)), .int 0, .ref (G.2.2.1 (k + 6)), .int 0, .int 0, .ref (G.2.2.1 (k + 7)), .int 0, .ref (G.2.2.1 (k + 8)), .ref (G.2.2.1 (k + 9)), .ref (G.2.2.1 (k + 10)), .ref (G.2.2.1 (k + 11)), .ref (G.2.2.1 (k + 12)), .ref (G.2.2.1 (k + 13))] := by
  have h : zw_kd k = 9 := by rw [e]; decide
  have h1 : zw_fo k = [some 1, none, none, none, some 2, some 3, none, none, some 4, some 5, none, some 6, none, none, some 7, none, some 8, some 9, some 10, some 11, some 12, some 13] := by unfold zw_fo; rw [h]; rfl
  unfold zw_fs
  rw [h1]
  simp only [List.mapIdx_cons, List.mapIdx_nil, Nat.reduceAdd, Nat.zero_add, zw_fv]
  rw [show zc_0.1 k 1 = 0 by rw [e]; decide, show zc_0.1 k 2 = 0 by rw [e]; decide, show zc_0.1 k 3 = 0 by rw [e]; decide, show zc_0.1 k 6 = 0 by rw [e]; decide, show zc_0.1 k 7 = -1 by rw [e]; decide, show zc_0.1 k 10 = 0 by rw [e]; decide, show zc_0.1 k 12 = 0 by rw [e]; decide, show zc_0.1 k 13 = 0 by rw [e]; decide, show zc_0.1 k 15 = 0 by rw [e]; decide]
theorem iX9_loop {k cells slots : Nat} {p : Program} {e : Env} {R : Room} {s : State} {m : MethodId} {args : Array Value} {below : List Frame} {meth : Method} {c : Code} {Q : State → Prop} {fs : List Value} (hC : zc_C G (d + 1) mX9_init k (k + (13 + 1)) p R s m args meth c) (hf0 : fs[0]? = some (.ref (G.2.2.1 (k + 1)))) (hR : ∀ H locs ls, zc_X G R s k (k + (13 + 1)) (k + 14) 9 fs (k + 1) (.inl (G.2.1 0, 782, .inl (fun j => if 25 ≤ j ∧ j < 25 + 8 then -1 else 0))) 0 H locs cells slots → W p l e R s m args below meth c H locs cells slots Q (F0 m 137 ls [])) : ∀ (n i : Nat) (H : Heap) (locs : List Loc) (ls : Array Slot), i + n = 8 → zc_X G R s k (k + (13 + 1)) (k + 14) 9 fs (k + 1) (.inl (G.2.1 0, 782, .inl (fun j => if 25 ≤ j ∧ j < 25 + i then -1 else 0))) 0 H locs cells slots → lv_has ls 2 [(1, .int (nI i)), (0, .ref (G.2.2.1 k))] → W p l e R s m args below meth c H locs cells slots Q (F0 m 115 ls []) := by
  have hx := hC.1
  have hb := hC.2.1
  intro n
  induction n with
  | zero =>
    intro i H locs ls hi hv hl
    obtain rfl : i = 8 := by omega
    refine lv_iload_n hx hb dX9_init_115 rfl (lv_at hl 0 rfl) ?_
    refine lv_bipush (v := nI 8) hx hb dX9_init_116 (by decide) ?_
    refine lv_icmp_ge (tgt := 137) hx hb dX9_init_118 (by decide) (fun _ => ?_) (fun h => ?_)
    · exact hR H locs ls hv
    · exact absurd (by decide) h
  | succ n ih =>
    intro i H locs ls hi hv hl
    refine lv_iload_n hx hb dX9_init_115 rfl (lv_at hl 0 rfl) ?_
    refine lv_bipush (v := nI 8) hx hb dX9_init_116 (by decide) ?_
    refine lv_icmp_ge (tgt := 137) hx hb dX9_init_118 (by decide) (fun h => ?_) (fun _ => ?_)
    · rw [zn_le (by omega) (by omega)] at h; omega
    · refine lv_aload_n hx hb dX9_init_121 rfl (lv_at hl 1 rfl) ?_
      refine zv_get hC hv dX9_init_122 ffX9_7 hf0 ?_
      refine lv_bipush (v := nI 25) hx hb dX9_init_125 (by decide) ?_
      refine lv_iload_n hx hb dX9_init_127 rfl (lv_at hl 0 rfl) ?_
      refine lv_iadd hx hb dX9_init_128 ?_
      rw [nI_add 25 i]
      refine lv_iconst (v := -1) hx hb dX9_init_129 (by decide) ?_
      refine zv_iast hC hv (by omega) dX9_init_130 (show 25 + i < 782 by omega) (by decide) (fun H1 locs1 hv => ?_)
      rw [show upd (fun j => if 25 ≤ j ∧ j < 25 + i then (-1 : Int32) else 0) (25 + i) (-1) = (fun j => if 25 ≤ j ∧ j < 25 + (i + 1) then (-1 : Int32) else 0) from by
        funext j
        unfold upd
        by_cases q : j = 25 + i
        · rw [if_pos q, if_pos (by omega)]
        · rw [if_neg q]
          by_cases r : 25 ≤ j ∧ j < 25 + i
          · exact (if_pos r).trans (if_pos (by omega)).symm
          · exact (if_neg r).trans (if_neg (by omega)).symm] at hv
      refine lv_iinc (v := nI (i + 1)) (lv' := [(1, .int (nI (i + 1))), (0, .ref (G.2.2.1 k))]) hx hb dX9_init_131 hl (k := 0) rfl (nI_add i 1) (by decide) rfl (fun ls hl => ?_)
      refine lv_goto (tgt := 115) hx hb dX9_init_134 (by decide) ?_
      exact ih (i + 1) _ _ ls (by omega) hv hl
theorem iX9 {k : Nat} (hL : zc_L G) (e : k = 168) : zc_T l G (d + 1) mX9_init k 13 9 958 := by
  refine zc_enter imX9 hL (by omega) (by decide) ?_
  intro p e0 s m args below meth c Q ls hC hin hS hl hR
  have hx := hC.1
  have hb := hC.2.1
  have hv := zc_X.start hS
  have hl : lv_has ls 2 [(0, .ref (G.2.2.1 k))] := hl
  refine lv_aload_n hx hb dX9_init_0 rfl (lv_at hl 0 rfl) ?_
  refine zk_oi hC hl.1 dX9_init_1 oiX9 ?_
  refine lv_aload_n hx hb dX9_init_4 rfl (lv_at hl 0 rfl) ?_
  refine lv_sipush (v := nI 782) hx hb dX9_init_5 (by decide) ?_
  refine zv_newiX (y := 176) (N := 782) hC hv dX9_init_8 (by omega) (by decide) (by decide) (by decide) (fun H1 hv => ?_)
  rw [show k + 1 + 1 = k + 2 by omega] at hv
  refine zv_putR hC hin hv dX9_init_10 ffX9_7 (Nat.le_of_ble_eq_true rfl) (fun H1 locs1 hv => ?_)
  refine lv_aload_n hx hb dX9_init_13 rfl (lv_at hl 0 rfl) ?_
  refine lv_iconst (v := nI 2) hx hb dX9_init_14 (by decide) ?_
  refine zv_newi (y := 174) (N := 2) hC hv dX9_init_15 (by omega) (by decide) (by decide) (by decide) (by rw [e]; decide) (by rw [e]; decide) (zc_z (by rw [e]; decide) (by rw [e]; decide) (by rw [e]; decide)) (fun H1 hv => ?_)
  rw [show k + 2 + 1 = k + 3 by omega] at hv
  refine zv_putR hC hin hv dX9_init_17 ffX9_13 (Nat.le_of_ble_eq_true rfl) (fun H1 locs1 hv => ?_)
  refine lv_aload_n hx hb dX9_init_20 rfl (lv_at hl 0 rfl) ?_
  refine lv_bipush (v := nI 30) hx hb dX9_init_21 (by decide) ?_
  refine zv_newi (y := 144) (N := 30) hC hv dX9_init_23 (by omega) (by decide) (by decide) (by decide) (by rw [e]; decide) (by rw [e]; decide) (zc_z (by rw [e]; decide) (by rw [e]; decide) (by rw [e]; decide)) (fun H1 hv => ?_)
  rw [show k + 3 + 1 = k + 4 by omega] at hv
  refine zv_putR hC hin hv dX9_init_25 ffX9_16 (Nat.le_of_ble_eq_true rfl) (fun H1 locs1 hv => ?_)
  refine lv_aload_n hx hb dX9_init_28 rfl (lv_at hl 0 rfl) ?_
  refine lv_iconst (v := -1) hx hb dX9_init_29 (by decide) ?_
  refine zv_putI hC hv dX9_init_30 (fiX9_19 _) (Nat.le_of_ble_eq_true rfl) (fun H1 locs1 hv => ?_)
  refine lv_aload_n hx hb dX9_init_33 rfl (lv_at hl 0 rfl) ?_
  refine lv_bipush (v := nI 20) hx hb dX9_init_34 (by decide) ?_
  refine zv_newi (y := 124) (N := 20) hC hv dX9_init_36 (by omega) (by decide) (by decide) (by decide) (by rw [e]; decide) (by rw [e]; decide) (zc_z (by rw [e]; decide) (by rw [e]; decide) (by rw [e]; decide)) (fun H1 hv => ?_)
  rw [show k + 4 + 1 = k + 5 by omega] at hv
  refine zv_putR hC hin hv dX9_init_38 ffX9_23 (Nat.le_of_ble_eq_true rfl) (fun H1 locs1 hv => ?_)
  refine lv_aload_n hx hb dX9_init_41 rfl (lv_at hl 0 rfl) ?_
  refine lv_bipush (v := nI 20) hx hb dX9_init_42 (by decide) ?_
  refine zv_newi (y := 104) (N := 20) hC hv dX9_init_44 (by omega) (by decide) (by decide) (by decide) (by rw [e]; decide) (by rw [e]; decide) (zc_z (by rw [e]; decide) (by rw [e]; decide) (by rw [e]; decide)) (fun H1 hv => ?_)
  rw [show k + 5 + 1 = k + 6 by omega] at hv
  refine zv_putR hC hin hv dX9_init_46 ffX9_26 (Nat.le_of_ble_eq_true rfl) (fun H1 locs1 hv => ?_)
  refine lv_aload_n hx hb dX9_init_49 rfl (lv_at hl 0 rfl) ?_
  refine lv_bipush (v := nI 16) hx hb dX9_init_50 (by decide) ?_
  refine zv_newi (y := 88) (N := 16) hC hv dX9_init_52 (by omega) (by decide) (by decide) (by decide) (by rw [e]; decide) (by rw [e]; decide) (zc_z (by rw [e]; decide) (by rw [e]; decide) (by rw [e]; decide)) (fun H1 hv => ?_)
  rw [show k + 6 + 1 = k + 7 by omega] at hv
  refine zv_putR hC hin hv dX9_init_54 ffX9_29 (Nat.le_of_ble_eq_true rfl) (fun H1 locs1 hv => ?_)
  refine lv_aload_n hx hb dX9_init_57 rfl (lv_at hl 0 rfl) ?_
  refine lv_bipush (v := nI 16) hx hb dX9_init_58 (by decide) ?_
  refine zv_newi (y := 72) (N := 16) hC hv dX9_init_60 (by omega) (by decide) (by decide) (by decide) (by rw [e]; decide) (by rw [e]; decide) (zc_z (by rw [e]; decide) (by rw [e]; decide) (by rw [e]; decide)) (fun H1 hv => ?_)
  rw [show k + 7 + 1 = k + 8 by omega] at hv
  refine zv_putR hC hin hv dX9_init_62 ffX9_32 (Nat.le_of_ble_eq_true rfl) (fun H1 locs1 hv => ?_)
  refine lv_aload_n hx hb dX9_init_65 rfl (lv_at hl 0 rfl) ?_
  refine lv_bipush (v := nI 16) hx hb dX9_init_66 (by decide) ?_
  refine zv_newi (y := 56) (N := 16) hC hv dX9_init_68 (by omega) (by decide) (by decide) (by decide) (by rw [e]; decide) (by rw [e]; decide) (zc_z (by rw [e]; decide) (by rw [e]; decide) (by rw [e]; decide)) (fun H1 hv => ?_)
  rw [show k + 8 + 1 = k + 9 by omega] at hv
  refine zv_putR hC hin hv dX9_init_70 ffX9_35 (Nat.le_of_ble_eq_true rfl) (fun H1 locs1 hv => ?_)
  refine lv_aload_n hx hb dX9_init_73 rfl (lv_at hl 0 rfl) ?_
  refine lv_bipush (v := nI 24) hx hb dX9_init_74 (by decide) ?_
  refine zv_newl (y := 32) (N := 24) hC hv dX9_init_76 (by omega) (by decide) (by decide) (by decide) (by rw [e]; decide) (by rw [e]; decide) (fun H1 hv => ?_)
  rw [show k + 9 + 1 = k + 10 by omega] at hv
  refine zv_putR hC hin hv dX9_init_78 ffX9_38 (Nat.le_of_ble_eq_true rfl) (fun H1 locs1 hv => ?_)
  refine lv_aload_n hx hb dX9_init_81 rfl (lv_at hl 0 rfl) ?_
  refine lv_bipush (v := nI 8) hx hb dX9_init_82 (by decide) ?_
  refine zv_newl (y := 24) (N := 8) hC hv dX9_init_84 (by omega) (by decide) (by decide) (by decide) (by rw [e]; decide) (by rw [e]; decide) (fun H1 hv => ?_)
  rw [show k + 10 + 1 = k + 11 by omega] at hv
  refine zv_putR hC hin hv dX9_init_86 ffX9_42 (Nat.le_of_ble_eq_true rfl) (fun H1 locs1 hv => ?_)
  refine lv_aload_n hx hb dX9_init_89 rfl (lv_at hl 0 rfl) ?_
  refine lv_bipush (v := nI 8) hx hb dX9_init_90 (by decide) ?_
  refine zv_newl (y := 16) (N := 8) hC hv dX9_init_92 (by omega) (by decide) (by decide) (by decide) (by rw [e]; decide) (by rw [e]; decide) (fun H1 hv => ?_)
  rw [show k + 11 + 1 = k + 12 by omega] at hv
  refine zv_putR hC hin hv dX9_init_94 ffX9_45 (Nat.le_of_ble_eq_true rfl) (fun H1 locs1 hv => ?_)
  refine lv_aload_n hx hb dX9_init_97 rfl (lv_at hl 0 rfl) ?_
  refine lv_bipush (v := nI 8) hx hb dX9_init_98 (by decide) ?_
  refine zv_newl (y := 8) (N := 8) hC hv dX9_init_100 (by omega) (by decide) (by decide) (by decide) (by rw [e]; decide) (by rw [e]; decide) (fun H1 hv => ?_)
  rw [show k + 12 + 1 = k + 13 by omega] at hv
  refine zv_putR hC hin hv dX9_init_102 ffX9_48 (Nat.le_of_ble_eq_true rfl) (fun H1 locs1 hv => ?_)
  refine lv_aload_n hx hb dX9_init_105 rfl (lv_at hl 0 rfl) ?_
  refine lv_bipush (v := nI 8) hx hb dX9_init_106 (by decide) ?_
  refine zv_newi (y := 0) (N := 8) hC hv dX9_init_108 (by omega) (by decide) (by decide) (by decide) (by rw [e]; decide) (by rw [e]; decide) (zc_z (by rw [e]; decide) (by rw [e]; decide) (by rw [e]; decide)) (fun H1 hv => ?_)
  rw [show k + 13 + 1 = k + 14 by omega] at hv
  refine zv_putR hC hin hv dX9_init_110 ffX9_51 (Nat.le_of_ble_eq_true rfl) (fun H1 locs1 hv => ?_)
  refine lv_iconst (v := nI 0) hx hb dX9_init_113 (by decide) ?_
  refine lv_istore_n (lv' := [(1, .int (nI 0)), (0, .ref (G.2.2.1 k))]) hx hb dX9_init_114 rfl hl (by decide) rfl (fun ls hl => ?_)
  rw [show (fun _ : Nat => (0 : Int32)) = (fun j => if 25 ≤ j ∧ j < 25 + 0 then -1 else 0) from funext (fun j => (if_neg (by omega)).symm)] at hv
  refine iX9_loop hC rfl ?_ 8 0 _ _ ls rfl hv hl
  intro H locs ls hv
  replace hv := hv.close (fun a H h => by
    rw [zw_cell_i (by rw [e]; decide), show zw_ln (k + 1) = 782 by rw [e]; decide, show zc_0.1 (k + 1) = (fun j => if 25 ≤ j ∧ j < 25 + 8 then -1 else 0) from by
      funext j
      rw [e]
      show zc_0.1 169 j = _
      simp [zc_0, show zw_kd 169 = 10 by decide, show zw_kd 167 ≠ 4 by decide]]
    exact h)
  obtain ⟨Z, hS2, hZ⟩ := hv.done (by rw [e]; decide) (by decide) (zc_fs9 e).symm
  exact hR Z _ _ _ _ _ _ hS2 hZ dX9_init_137
end Z51
