section Z27
variable {l : Launch} {G : zw_G} {d : Nat} {σ : zw_S} {A : zx_T}
theorem c8_tree (hV : zx_V σ A) {t k : Int32} : zw_Ti l G (d + 6) mX8_tree [.ref 0, .int t, .int k] σ (fun x υ => x = zx_tree A t k ∧ zx_V υ A ∧ zx_F σ υ) := by
  obtain ⟨h1, -⟩ := id hV
  have hl8 := h1.1
  rcases zn_case t (n := A.1.1.length) (by omega) with ho | ⟨i, hi, rfl⟩
  · have e : zx_tree A t k = zx_UN := by unfold zx_tree; rw [zx_ix_out (by omega) ho]
    rw [e]
    refine zw_enter2 (L := [some _, some _, some _]) (by decide) (Nat.le_of_ble_eq_true rfl) rfl ?_
    refine zi_ald0 dX8_tree_0 ?_
    refine zi_getR dX8_tree_1 flX8_12 rfl (by first | assumption | decide) ?_
    refine zi_ild1 dX8_tree_4 ?_
    refine zi_cV1i vmX6_has lkX8_135 dX8_tree_5 (by first | assumption | decide) (Nat.le_of_ble_eq_true rfl) (c6_has_out zg_ok1 h1 ho) ?_
    rintro _ _ ⟨rfl, rfl⟩
    refine zi_if_ne 14 dX8_tree_8 (by decide) (fun c8 => ?_) (fun c8 => ?_)
    · exact absurd rfl c8
    · refine zi_ldc dX8_tree_11 kcX8_139 ?_
      refine zi_iret dX8_tree_13 rfl ?_
      exact ⟨_, rfl, rfl, hV, zx_F.rf⟩
  · obtain ⟨hw, hs⟩ := h1.item hi
    have hR := h1.2.2.2.2
    have hwl := hw.2.2
    have hwp := hw.pos
    rcases zn_case k (n := 9) (by decide) with ho | ⟨j, hj, rfl⟩
    · have e : zx_tree A (nI i) k = zx_OU := by unfold zx_tree; rw [zx_ix_in (by omega) hi, zx_ix_out (by decide) ho]
      have hq := zn_out_int (by decide) ho
      rw [e]
      refine zw_enter2 (L := [some _, some _, some _]) (by decide) (Nat.le_of_ble_eq_true rfl) rfl ?_
      refine zi_ald0 dX8_tree_0 ?_
      refine zi_getR dX8_tree_1 flX8_12 rfl (by first | assumption | decide) ?_
      refine zi_ild1 dX8_tree_4 ?_
      refine zi_cV1i vmX6_has lkX8_135 dX8_tree_5 (by first | assumption | decide) (Nat.le_of_ble_eq_true rfl) (c6_has zg_ok1 h1 hi) ?_
      rintro _ _ ⟨rfl, rfl⟩
      refine zi_if_ne 14 dX8_tree_8 (by decide) (fun c8 => ?_) (fun c8 => ?_)
      · refine zi_ald0 dX8_tree_14 ?_
        refine zi_getR dX8_tree_15 flX8_12 rfl (by first | assumption | decide) ?_
        refine zi_ild1 dX8_tree_18 ?_
        refine zi_ald0 dX8_tree_19 ?_
        refine zi_getR dX8_tree_20 flX8_53 rfl (by first | assumption | decide) ?_
        refine zi_cV2v vmX6_lend lkX8_140 dX8_tree_23 (by first | assumption | decide) (Nat.le_of_ble_eq_true rfl) (c6_lend zg_ok1 zt_ok147 h1 hi) ?_
        rintro τ1 ⟨hT1, hF1⟩
        obtain ⟨hV1, hx1⟩ := hV.sc hF1 zx_sc147
        refine zi_ild2 dX8_tree_26 ?_
        refine zi_tableOut 150 dX8_tree_27 (by omega) (by decide) ?_
        refine zi_ldc dX8_tree_150 kcX8_75 ?_
        refine zi_iret dX8_tree_152 rfl ?_
        exact ⟨_, rfl, rfl, hV1, hx1⟩
      · exact absurd c8 (by decide)
    · match j, hj with
      | 0, _ =>
        have e : zx_tree A (nI i) (nI 0) = nI (zt_code (A.1.1.getD i zg_d).1) := by unfold zx_tree; rw [zx_ix_in (by omega) hi, zx_ix_in (by decide) (by decide)]; try rfl
        rw [e]
        refine zw_enter2 (L := [some _, some _, some _]) (by decide) (Nat.le_of_ble_eq_true rfl) rfl ?_
        refine zi_ald0 dX8_tree_0 ?_
        refine zi_getR dX8_tree_1 flX8_12 rfl (by first | assumption | decide) ?_
        refine zi_ild1 dX8_tree_4 ?_
        refine zi_cV1i vmX6_has lkX8_135 dX8_tree_5 (by first | assumption | decide) (Nat.le_of_ble_eq_true rfl) (c6_has zg_ok1 h1 hi) ?_
        rintro _ _ ⟨rfl, rfl⟩
        refine zi_if_ne 14 dX8_tree_8 (by decide) (fun c8 => ?_) (fun c8 => ?_)
        · refine zi_ald0 dX8_tree_14 ?_
          refine zi_getR dX8_tree_15 flX8_12 rfl (by first | assumption | decide) ?_
          refine zi_ild1 dX8_tree_18 ?_
          refine zi_ald0 dX8_tree_19 ?_
          refine zi_getR dX8_tree_20 flX8_53 rfl (by first | assumption | decide) ?_
          refine zi_cV2v vmX6_lend lkX8_140 dX8_tree_23 (by first | assumption | decide) (Nat.le_of_ble_eq_true rfl) (c6_lend zg_ok1 zt_ok147 h1 hi) ?_
          rintro τ1 ⟨hT1, hF1⟩
          obtain ⟨hV1, hx1⟩ := hV.sc hF1 zx_sc147
          have hR1 := hV1.1.2.2.2.2
          refine zi_ild2 dX8_tree_26 ?_
          refine zi_tableIn (off := 49) 76 dX8_tree_27 (by decide) (by decide) (by decide) (by decide) ?_
          refine zi_ald0 dX8_tree_76 ?_
          refine zi_getR dX8_tree_77 flX8_53 rfl (by first | assumption | decide) ?_
          refine zi_cV0i vmX7_codeNow lkX8_144 dX8_tree_80 (by first | assumption | decide) (Nat.le_of_ble_eq_true rfl) (c7_codeNow zt_ok147 hT1) ?_
          rintro _ _ ⟨rfl, rfl⟩
          refine zi_iret dX8_tree_83 rfl ?_
          exact ⟨_, rfl, rfl, hV1, hx1⟩
        · exact absurd c8 (by decide)
      | 1, _ =>
        have e : zx_tree A (nI i) (nI 1) = (A.1.1.getD i zg_d).2 + nI 1 := by unfold zx_tree; rw [zx_ix_in (by omega) hi, zx_ix_in (by decide) (by decide)]; try rfl
        rw [e]
        refine zw_enter2 (L := [some _, some _, some _]) (by decide) (Nat.le_of_ble_eq_true rfl) rfl ?_
        refine zi_ald0 dX8_tree_0 ?_
        refine zi_getR dX8_tree_1 flX8_12 rfl (by first | assumption | decide) ?_
        refine zi_ild1 dX8_tree_4 ?_
        refine zi_cV1i vmX6_has lkX8_135 dX8_tree_5 (by first | assumption | decide) (Nat.le_of_ble_eq_true rfl) (c6_has zg_ok1 h1 hi) ?_
        rintro _ _ ⟨rfl, rfl⟩
        refine zi_if_ne 14 dX8_tree_8 (by decide) (fun c8 => ?_) (fun c8 => ?_)
        · refine zi_ald0 dX8_tree_14 ?_
          refine zi_getR dX8_tree_15 flX8_12 rfl (by first | assumption | decide) ?_
          refine zi_ild1 dX8_tree_18 ?_
          refine zi_ald0 dX8_tree_19 ?_
          refine zi_getR dX8_tree_20 flX8_53 rfl (by first | assumption | decide) ?_
          refine zi_cV2v vmX6_lend lkX8_140 dX8_tree_23 (by first | assumption | decide) (Nat.le_of_ble_eq_true rfl) (c6_lend zg_ok1 zt_ok147 h1 hi) ?_
          rintro τ1 ⟨hT1, hF1⟩
          obtain ⟨hV1, hx1⟩ := hV.sc hF1 zx_sc147
          have hR1 := hV1.1.2.2.2.2
          refine zi_ild2 dX8_tree_26 ?_
          refine zi_tableIn (off := 57) 84 dX8_tree_27 (by decide) (by decide) (by decide) (by decide) ?_
          refine zi_ald0 dX8_tree_84 ?_
          refine zi_getR dX8_tree_85 flX8_53 rfl (by first | assumption | decide) ?_
          refine zi_getI dX8_tree_88 flX8_147 rfl (by first | assumption | decide) ?_
          refine zi_iconst (nI 1) dX8_tree_91 (by decide) ?_
          refine zi_iadd dX8_tree_92 ?_
          refine zi_iret dX8_tree_93 rfl ?_
          exact ⟨_, rfl, by rw [show τ1.1 (0 + 147) 3 = _ from hT1.2.2.2.1], hV1, hx1⟩
        · exact absurd c8 (by decide)
      | 2, _ =>
        have e : zx_tree A (nI i) (nI 2) = nI (((A.1.1.getD i zg_d).1.length - 1) / 2) := by unfold zx_tree; rw [zx_ix_in (by omega) hi, zx_ix_in (by decide) (by decide)]; try rfl
        rw [e]
        refine zw_enter2 (L := [some _, some _, some _]) (by decide) (Nat.le_of_ble_eq_true rfl) rfl ?_
        refine zi_ald0 dX8_tree_0 ?_
        refine zi_getR dX8_tree_1 flX8_12 rfl (by first | assumption | decide) ?_
        refine zi_ild1 dX8_tree_4 ?_
        refine zi_cV1i vmX6_has lkX8_135 dX8_tree_5 (by first | assumption | decide) (Nat.le_of_ble_eq_true rfl) (c6_has zg_ok1 h1 hi) ?_
        rintro _ _ ⟨rfl, rfl⟩
        refine zi_if_ne 14 dX8_tree_8 (by decide) (fun c8 => ?_) (fun c8 => ?_)
        · refine zi_ald0 dX8_tree_14 ?_
          refine zi_getR dX8_tree_15 flX8_12 rfl (by first | assumption | decide) ?_
          refine zi_ild1 dX8_tree_18 ?_
          refine zi_ald0 dX8_tree_19 ?_
          refine zi_getR dX8_tree_20 flX8_53 rfl (by first | assumption | decide) ?_
          refine zi_cV2v vmX6_lend lkX8_140 dX8_tree_23 (by first | assumption | decide) (Nat.le_of_ble_eq_true rfl) (c6_lend zg_ok1 zt_ok147 h1 hi) ?_
          rintro τ1 ⟨hT1, hF1⟩
          obtain ⟨hV1, hx1⟩ := hV.sc hF1 zx_sc147
          have hR1 := hV1.1.2.2.2.2
          refine zi_ild2 dX8_tree_26 ?_
          refine zi_tableIn (off := 67) 94 dX8_tree_27 (by decide) (by decide) (by decide) (by decide) ?_
          refine zi_ald0 dX8_tree_94 ?_
          refine zi_getR dX8_tree_95 flX8_53 rfl (by first | assumption | decide) ?_
          refine zi_cV0i vmX7_nodes lkX8_150 dX8_tree_98 (by first | assumption | decide) (Nat.le_of_ble_eq_true rfl) (c7_nodes zt_ok147 hT1 hwp) ?_
          rintro _ _ ⟨rfl, rfl⟩
          refine zi_iret dX8_tree_101 rfl ?_
          exact ⟨_, rfl, rfl, hV1, hx1⟩
        · exact absurd c8 (by decide)
      | 3, _ =>
        have e : zx_tree A (nI i) (nI 3) = nI (zt_sp A.1.2.1 (A.1.1.getD i zg_d).1).length := by unfold zx_tree; rw [zx_ix_in (by omega) hi, zx_ix_in (by decide) (by decide)]; try rfl
        rw [e]
        refine zw_enter2 (L := [some _, some _, some _]) (by decide) (Nat.le_of_ble_eq_true rfl) rfl ?_
        refine zi_ald0 dX8_tree_0 ?_
        refine zi_getR dX8_tree_1 flX8_12 rfl (by first | assumption | decide) ?_
        refine zi_ild1 dX8_tree_4 ?_
        refine zi_cV1i vmX6_has lkX8_135 dX8_tree_5 (by first | assumption | decide) (Nat.le_of_ble_eq_true rfl) (c6_has zg_ok1 h1 hi) ?_
        rintro _ _ ⟨rfl, rfl⟩
        refine zi_if_ne 14 dX8_tree_8 (by decide) (fun c8 => ?_) (fun c8 => ?_)
        · refine zi_ald0 dX8_tree_14 ?_
          refine zi_getR dX8_tree_15 flX8_12 rfl (by first | assumption | decide) ?_
          refine zi_ild1 dX8_tree_18 ?_
          refine zi_ald0 dX8_tree_19 ?_
          refine zi_getR dX8_tree_20 flX8_53 rfl (by first | assumption | decide) ?_
          refine zi_cV2v vmX6_lend lkX8_140 dX8_tree_23 (by first | assumption | decide) (Nat.le_of_ble_eq_true rfl) (c6_lend zg_ok1 zt_ok147 h1 hi) ?_
          rintro τ1 ⟨hT1, hF1⟩
          obtain ⟨hV1, hx1⟩ := hV.sc hF1 zx_sc147
          have hR1 := hV1.1.2.2.2.2
          refine zi_ild2 dX8_tree_26 ?_
          refine zi_tableIn (off := 75) 102 dX8_tree_27 (by decide) (by decide) (by decide) (by decide) ?_
          refine zi_ald0 dX8_tree_102 ?_
          refine zi_getR dX8_tree_103 flX8_53 rfl (by first | assumption | decide) ?_
          refine zi_ald0 dX8_tree_106 ?_
          refine zi_getR dX8_tree_107 flX8_12 rfl (by first | assumption | decide) ?_
          refine zi_getR dX8_tree_110 flX8_104 rfl (by first | assumption | decide) ?_
          refine zi_cV1i vmX7_places lkX8_153 dX8_tree_113 (by first | assumption | decide) (Nat.le_of_ble_eq_true rfl) (c7_places zt_ok147 zg_rul1 hT1 hR1) ?_
          rintro _ _ ⟨rfl, rfl⟩
          refine zi_iret dX8_tree_116 rfl ?_
          exact ⟨_, rfl, rfl, hV1, hx1⟩
        · exact absurd c8 (by decide)
      | 4, _ =>
        have e : zx_tree A (nI i) (nI 4) = zx_mp A.1 (A.1.1.getD i zg_d) 4 := by unfold zx_tree; rw [zx_ix_in (by omega) hi, zx_ix_in (by decide) (by decide)]; try rfl
        rw [e]
        refine zw_enter2 (L := [some _, some _, some _]) (by decide) (Nat.le_of_ble_eq_true rfl) rfl ?_
        refine zi_ald0 dX8_tree_0 ?_
        refine zi_getR dX8_tree_1 flX8_12 rfl (by first | assumption | decide) ?_
        refine zi_ild1 dX8_tree_4 ?_
        refine zi_cV1i vmX6_has lkX8_135 dX8_tree_5 (by first | assumption | decide) (Nat.le_of_ble_eq_true rfl) (c6_has zg_ok1 h1 hi) ?_
        rintro _ _ ⟨rfl, rfl⟩
        refine zi_if_ne 14 dX8_tree_8 (by decide) (fun c8 => ?_) (fun c8 => ?_)
        · refine zi_ald0 dX8_tree_14 ?_
          refine zi_getR dX8_tree_15 flX8_12 rfl (by first | assumption | decide) ?_
          refine zi_ild1 dX8_tree_18 ?_
          refine zi_ald0 dX8_tree_19 ?_
          refine zi_getR dX8_tree_20 flX8_53 rfl (by first | assumption | decide) ?_
          refine zi_cV2v vmX6_lend lkX8_140 dX8_tree_23 (by first | assumption | decide) (Nat.le_of_ble_eq_true rfl) (c6_lend zg_ok1 zt_ok147 h1 hi) ?_
          rintro τ1 ⟨hT1, hF1⟩
          obtain ⟨hV1, hx1⟩ := hV.sc hF1 zx_sc147
          have hR1 := hV1.1.2.2.2.2
          refine zi_ild2 dX8_tree_26 ?_
          refine zi_tableIn (off := 90) 117 dX8_tree_27 (by decide) (by decide) (by decide) (by decide) ?_
          refine zi_ald0 dX8_tree_117 ?_
          refine zi_ild2 dX8_tree_118 ?_
          refine zi_cV1i vmX8_madePlain lkX8_157 dX8_tree_119 (by first | assumption | decide) (Nat.le_of_ble_eq_true rfl) (c8_madePlain (x := A.1.1.getD i zg_d) hV1 (by decide) (by decide) hw hT1) ?_
          rintro _ τ2 ⟨rfl, hF2⟩
          obtain ⟨hV2, hx2⟩ := hV1.sc hF2 zx_sc147
          refine zi_iret dX8_tree_122 rfl ?_
          exact ⟨_, rfl, rfl, hV2, hx1.tr hx2⟩
        · exact absurd c8 (by decide)
      | 5, _ =>
        have e : zx_tree A (nI i) (nI 5) = zx_mp A.1 (A.1.1.getD i zg_d) 5 := by unfold zx_tree; rw [zx_ix_in (by omega) hi, zx_ix_in (by decide) (by decide)]; try rfl
        rw [e]
        refine zw_enter2 (L := [some _, some _, some _]) (by decide) (Nat.le_of_ble_eq_true rfl) rfl ?_
        refine zi_ald0 dX8_tree_0 ?_
        refine zi_getR dX8_tree_1 flX8_12 rfl (by first | assumption | decide) ?_
        refine zi_ild1 dX8_tree_4 ?_
        refine zi_cV1i vmX6_has lkX8_135 dX8_tree_5 (by first | assumption | decide) (Nat.le_of_ble_eq_true rfl) (c6_has zg_ok1 h1 hi) ?_
        rintro _ _ ⟨rfl, rfl⟩
        refine zi_if_ne 14 dX8_tree_8 (by decide) (fun c8 => ?_) (fun c8 => ?_)
        · refine zi_ald0 dX8_tree_14 ?_
          refine zi_getR dX8_tree_15 flX8_12 rfl (by first | assumption | decide) ?_
          refine zi_ild1 dX8_tree_18 ?_
          refine zi_ald0 dX8_tree_19 ?_
          refine zi_getR dX8_tree_20 flX8_53 rfl (by first | assumption | decide) ?_
          refine zi_cV2v vmX6_lend lkX8_140 dX8_tree_23 (by first | assumption | decide) (Nat.le_of_ble_eq_true rfl) (c6_lend zg_ok1 zt_ok147 h1 hi) ?_
          rintro τ1 ⟨hT1, hF1⟩
          obtain ⟨hV1, hx1⟩ := hV.sc hF1 zx_sc147
          have hR1 := hV1.1.2.2.2.2
          refine zi_ild2 dX8_tree_26 ?_
          refine zi_tableIn (off := 90) 117 dX8_tree_27 (by decide) (by decide) (by decide) (by decide) ?_
          refine zi_ald0 dX8_tree_117 ?_
          refine zi_ild2 dX8_tree_118 ?_
          refine zi_cV1i vmX8_madePlain lkX8_157 dX8_tree_119 (by first | assumption | decide) (Nat.le_of_ble_eq_true rfl) (c8_madePlain (x := A.1.1.getD i zg_d) hV1 (by decide) (by decide) hw hT1) ?_
          rintro _ τ2 ⟨rfl, hF2⟩
          obtain ⟨hV2, hx2⟩ := hV1.sc hF2 zx_sc147
          refine zi_iret dX8_tree_122 rfl ?_
          exact ⟨_, rfl, rfl, hV2, hx1.tr hx2⟩
        · exact absurd c8 (by decide)
      | 6, _ =>
        have e : zx_tree A (nI i) (nI 6) = zx_mp A.1 (A.1.1.getD i zg_d) 6 := by unfold zx_tree; rw [zx_ix_in (by omega) hi, zx_ix_in (by decide) (by decide)]; try rfl
        rw [e]
        refine zw_enter2 (L := [some _, some _, some _]) (by decide) (Nat.le_of_ble_eq_true rfl) rfl ?_
        refine zi_ald0 dX8_tree_0 ?_
        refine zi_getR dX8_tree_1 flX8_12 rfl (by first | assumption | decide) ?_
        refine zi_ild1 dX8_tree_4 ?_
        refine zi_cV1i vmX6_has lkX8_135 dX8_tree_5 (by first | assumption | decide) (Nat.le_of_ble_eq_true rfl) (c6_has zg_ok1 h1 hi) ?_
        rintro _ _ ⟨rfl, rfl⟩
        refine zi_if_ne 14 dX8_tree_8 (by decide) (fun c8 => ?_) (fun c8 => ?_)
        · refine zi_ald0 dX8_tree_14 ?_
          refine zi_getR dX8_tree_15 flX8_12 rfl (by first | assumption | decide) ?_
          refine zi_ild1 dX8_tree_18 ?_
          refine zi_ald0 dX8_tree_19 ?_
          refine zi_getR dX8_tree_20 flX8_53 rfl (by first | assumption | decide) ?_
          refine zi_cV2v vmX6_lend lkX8_140 dX8_tree_23 (by first | assumption | decide) (Nat.le_of_ble_eq_true rfl) (c6_lend zg_ok1 zt_ok147 h1 hi) ?_
          rintro τ1 ⟨hT1, hF1⟩
          obtain ⟨hV1, hx1⟩ := hV.sc hF1 zx_sc147
          have hR1 := hV1.1.2.2.2.2
          refine zi_ild2 dX8_tree_26 ?_
          refine zi_tableIn (off := 90) 117 dX8_tree_27 (by decide) (by decide) (by decide) (by decide) ?_
          refine zi_ald0 dX8_tree_117 ?_
          refine zi_ild2 dX8_tree_118 ?_
          refine zi_cV1i vmX8_madePlain lkX8_157 dX8_tree_119 (by first | assumption | decide) (Nat.le_of_ble_eq_true rfl) (c8_madePlain (x := A.1.1.getD i zg_d) hV1 (by decide) (by decide) hw hT1) ?_
          rintro _ τ2 ⟨rfl, hF2⟩
          obtain ⟨hV2, hx2⟩ := hV1.sc hF2 zx_sc147
          refine zi_iret dX8_tree_122 rfl ?_
          exact ⟨_, rfl, rfl, hV2, hx1.tr hx2⟩
        · exact absurd c8 (by decide)
      | 7, _ =>
        have e : zx_tree A (nI i) (nI 7) = nI (zt_code (zm_r (A.1.1.getD i zg_d).1)) := by unfold zx_tree; rw [zx_ix_in (by omega) hi, zx_ix_in (by decide) (by decide)]; try rfl
        rw [e]
        refine zw_enter2 (L := [some _, some _, some _]) (by decide) (Nat.le_of_ble_eq_true rfl) rfl ?_
        refine zi_ald0 dX8_tree_0 ?_
        refine zi_getR dX8_tree_1 flX8_12 rfl (by first | assumption | decide) ?_
        refine zi_ild1 dX8_tree_4 ?_
        refine zi_cV1i vmX6_has lkX8_135 dX8_tree_5 (by first | assumption | decide) (Nat.le_of_ble_eq_true rfl) (c6_has zg_ok1 h1 hi) ?_
        rintro _ _ ⟨rfl, rfl⟩
        refine zi_if_ne 14 dX8_tree_8 (by decide) (fun c8 => ?_) (fun c8 => ?_)
        · refine zi_ald0 dX8_tree_14 ?_
          refine zi_getR dX8_tree_15 flX8_12 rfl (by first | assumption | decide) ?_
          refine zi_ild1 dX8_tree_18 ?_
          refine zi_ald0 dX8_tree_19 ?_
          refine zi_getR dX8_tree_20 flX8_53 rfl (by first | assumption | decide) ?_
          refine zi_cV2v vmX6_lend lkX8_140 dX8_tree_23 (by first | assumption | decide) (Nat.le_of_ble_eq_true rfl) (c6_lend zg_ok1 zt_ok147 h1 hi) ?_
          rintro τ1 ⟨hT1, hF1⟩
          obtain ⟨hV1, hx1⟩ := hV.sc hF1 zx_sc147
          have hR1 := hV1.1.2.2.2.2
          refine zi_ild2 dX8_tree_26 ?_
          refine zi_tableIn (off := 96) 123 dX8_tree_27 (by decide) (by decide) (by decide) (by decide) ?_
          refine zi_ald0 dX8_tree_123 ?_
          refine zi_getR dX8_tree_124 flX8_57 rfl (by first | assumption | decide) ?_
          refine zi_ald0 dX8_tree_127 ?_
          refine zi_getR dX8_tree_128 flX8_53 rfl (by first | assumption | decide) ?_
          refine zi_cV1v vmX7_mirrorOf lkX8_160 dX8_tree_131 (by first | assumption | decide) (Nat.le_of_ble_eq_true rfl) (c7_mirrorOf zt_ok150 zt_ok147 (by omega) hT1 hw) ?_
          rintro τ2 ⟨hT2, hF2⟩
          obtain ⟨hV2, hx2⟩ := hV1.sc hF2 zx_sc150
          refine zi_ald0 dX8_tree_134 ?_
          refine zi_getR dX8_tree_135 flX8_57 rfl (by first | assumption | decide) ?_
          refine zi_cV0i vmX7_codeNow lkX8_144 dX8_tree_138 (by first | assumption | decide) (Nat.le_of_ble_eq_true rfl) (c7_codeNow zt_ok150 hT2) ?_
          rintro _ _ ⟨rfl, rfl⟩
          refine zi_iret dX8_tree_141 rfl ?_
          exact ⟨_, rfl, rfl, hV2, hx1.tr hx2⟩
        · exact absurd c8 (by decide)
      | 8, _ =>
        have e : zx_tree A (nI i) (nI 8) = nI (zh_m (A.1.1.getD i zg_d).1 (A.1.1.getD i zg_d).1.length) := by unfold zx_tree; rw [zx_ix_in (by omega) hi, zx_ix_in (by decide) (by decide)]; try rfl
        rw [e]
        refine zw_enter2 (L := [some _, some _, some _]) (by decide) (Nat.le_of_ble_eq_true rfl) rfl ?_
        refine zi_ald0 dX8_tree_0 ?_
        refine zi_getR dX8_tree_1 flX8_12 rfl (by first | assumption | decide) ?_
        refine zi_ild1 dX8_tree_4 ?_
        refine zi_cV1i vmX6_has lkX8_135 dX8_tree_5 (by first | assumption | decide) (Nat.le_of_ble_eq_true rfl) (c6_has zg_ok1 h1 hi) ?_
        rintro _ _ ⟨rfl, rfl⟩
        refine zi_if_ne 14 dX8_tree_8 (by decide) (fun c8 => ?_) (fun c8 => ?_)
        · refine zi_ald0 dX8_tree_14 ?_
          refine zi_getR dX8_tree_15 flX8_12 rfl (by first | assumption | decide) ?_
          refine zi_ild1 dX8_tree_18 ?_
          refine zi_ald0 dX8_tree_19 ?_
          refine zi_getR dX8_tree_20 flX8_53 rfl (by first | assumption | decide) ?_
          refine zi_cV2v vmX6_lend lkX8_140 dX8_tree_23 (by first | assumption | decide) (Nat.le_of_ble_eq_true rfl) (c6_lend zg_ok1 zt_ok147 h1 hi) ?_
          rintro τ1 ⟨hT1, hF1⟩
          obtain ⟨hV1, hx1⟩ := hV.sc hF1 zx_sc147
          have hR1 := hV1.1.2.2.2.2
          refine zi_ild2 dX8_tree_26 ?_
          refine zi_tableIn (off := 115) 142 dX8_tree_27 (by decide) (by decide) (by decide) (by decide) ?_
          refine zi_ald0 dX8_tree_142 ?_
          refine zi_getR dX8_tree_143 flX8_53 rfl (by first | assumption | decide) ?_
          refine zi_cV0i vmX7_height lkX8_164 dX8_tree_146 (by first | assumption | decide) (Nat.le_of_ble_eq_true rfl) (c7_height zt_ok147 hT1 hw.1) ?_
          rintro _ τ2 ⟨rfl, hF2⟩
          obtain ⟨hV2, hx2⟩ := hV1.sc hF2 zx_sc147
          refine zi_iret dX8_tree_149 rfl ?_
          exact ⟨_, rfl, rfl, hV2, hx1.tr hx2⟩
        · exact absurd c8 (by decide)
theorem c8_same (hV : zx_V σ A) {t u : Int32} : zw_Ti l G (d + 5) mX8_same [.ref 0, .int t, .int u] σ (fun x υ => x = zx_same A t u ∧ zx_V υ A ∧ zx_F σ υ) := by
  obtain ⟨h1, -⟩ := id hV
  have hl8 := h1.1
  rcases zn_case t (n := A.1.1.length) (by omega) with ho | ⟨i, hi, rfl⟩
  · have e : zx_same A t u = zx_UN := by unfold zx_same; rw [zx_ix_out (by omega) ho]
    rw [e]
    refine zw_enter2 (L := [some _, some _, some _]) (by decide) (Nat.le_of_ble_eq_true rfl) rfl ?_
    refine zi_ald0 dX8_same_0 ?_
    refine zi_getR dX8_same_1 flX8_12 rfl (by first | assumption | decide) ?_
    refine zi_ild1 dX8_same_4 ?_
    refine zi_cV1i vmX6_has lkX8_135 dX8_same_5 (by first | assumption | decide) (Nat.le_of_ble_eq_true rfl) (c6_has_out zg_ok1 h1 ho) ?_
    rintro _ _ ⟨rfl, rfl⟩
    refine zi_if_eq 22 dX8_same_8 (by decide) (fun c8 => ?_) (fun c8 => ?_)
    · refine zi_ldc dX8_same_22 kcX8_139 ?_
      refine zi_iret dX8_same_24 rfl ?_
      exact ⟨_, rfl, rfl, hV, zx_F.rf⟩
    · exact absurd rfl c8
  · rcases zn_case u (n := A.1.1.length) (by omega) with ho | ⟨j, hj, rfl⟩
    · have e : zx_same A (nI i) u = zx_UN := by unfold zx_same; rw [zx_ix_in (by omega) hi, zx_ix_out (by omega) ho]
      rw [e]
      refine zw_enter2 (L := [some _, some _, some _]) (by decide) (Nat.le_of_ble_eq_true rfl) rfl ?_
      refine zi_ald0 dX8_same_0 ?_
      refine zi_getR dX8_same_1 flX8_12 rfl (by first | assumption | decide) ?_
      refine zi_ild1 dX8_same_4 ?_
      refine zi_cV1i vmX6_has lkX8_135 dX8_same_5 (by first | assumption | decide) (Nat.le_of_ble_eq_true rfl) (c6_has zg_ok1 h1 hi) ?_
      rintro _ _ ⟨rfl, rfl⟩
      refine zi_if_eq 22 dX8_same_8 (by decide) (fun c8 => ?_) (fun c8 => ?_)
      · exact absurd c8 (by decide)
      · refine zi_ald0 dX8_same_11 ?_
        refine zi_getR dX8_same_12 flX8_12 rfl (by first | assumption | decide) ?_
        refine zi_ild2 dX8_same_15 ?_
        refine zi_cV1i vmX6_has lkX8_135 dX8_same_16 (by first | assumption | decide) (Nat.le_of_ble_eq_true rfl) (c6_has_out zg_ok1 h1 ho) ?_
        rintro _ _ ⟨rfl, rfl⟩
        refine zi_if_ne 25 dX8_same_19 (by decide) (fun c19 => ?_) (fun c19 => ?_)
        · exact absurd rfl c19
        · refine zi_ldc dX8_same_22 kcX8_139 ?_
          refine zi_iret dX8_same_24 rfl ?_
          exact ⟨_, rfl, rfl, hV, zx_F.rf⟩
    · obtain ⟨hw, hs⟩ := h1.item hi
      obtain ⟨hw2, hs2⟩ := h1.item hj
      have e : zx_same A (nI i) (nI j) = match zt_pl A.1.2.1 A.1.2.2 60 0 (A.1.1.getD i zg_d).1 (A.1.1.getD i zg_d).2, zt_pl A.1.2.1 A.1.2.2 60 0 (A.1.1.getD j zg_d).1 (A.1.1.getD j zg_d).2 with
        | some x, some y => if x.2.2 = y.2.2 ∧ zt_code x.2.1 = zt_code y.2.1 then nI 1 else nI 0
        | _, _ => -1 := by unfold zx_same; rw [zx_ix_in (by omega) hi, zx_ix_in (by omega) hj]; try rfl
      rw [e]
      refine zw_enter2 (L := [some _, some _, some _]) (by decide) (Nat.le_of_ble_eq_true rfl) rfl ?_
      refine zi_ald0 dX8_same_0 ?_
      refine zi_getR dX8_same_1 flX8_12 rfl (by first | assumption | decide) ?_
      refine zi_ild1 dX8_same_4 ?_
      refine zi_cV1i vmX6_has lkX8_135 dX8_same_5 (by first | assumption | decide) (Nat.le_of_ble_eq_true rfl) (c6_has zg_ok1 h1 hi) ?_
      rintro _ _ ⟨rfl, rfl⟩
      refine zi_if_eq 22 dX8_same_8 (by decide) (fun c8 => ?_) (fun c8 => ?_)
      · exact absurd c8 (by decide)
      · refine zi_ald0 dX8_same_11 ?_
        refine zi_getR dX8_same_12 flX8_12 rfl (by first | assumption | decide) ?_
        refine zi_ild2 dX8_same_15 ?_
        refine zi_cV1i vmX6_has lkX8_135 dX8_same_16 (by first | assumption | decide) (Nat.le_of_ble_eq_true rfl) (c6_has zg_ok1 h1 hj) ?_
        rintro _ _ ⟨rfl, rfl⟩
        refine zi_if_ne 25 dX8_same_19 (by decide) (fun c19 => ?_) (fun c19 => ?_)
        · refine zi_ald0 dX8_same_25 ?_
          refine zi_getR dX8_same_26 flX8_12 rfl (by first | assumption | decide) ?_
          refine zi_ild1 dX8_same_29 ?_
          refine zi_ald0 dX8_same_30 ?_
          refine zi_getR dX8_same_31 flX8_53 rfl (by first | assumption | decide) ?_
          refine zi_cV2v vmX6_lend lkX8_140 dX8_same_34 (by first | assumption | decide) (Nat.le_of_ble_eq_true rfl) (c6_lend zg_ok1 zt_ok147 h1 hi) ?_
          rintro τ1 ⟨hT1, hF1⟩
          obtain ⟨hV1, hx1⟩ := hV.sc hF1 zx_sc147
          refine zi_ald0 dX8_same_37 ?_
          refine zi_getR dX8_same_38 flX8_12 rfl (by first | assumption | decide) ?_
          refine zi_ild2 dX8_same_41 ?_
          refine zi_ald0 dX8_same_42 ?_
          refine zi_getR dX8_same_43 flX8_57 rfl (by first | assumption | decide) ?_
          refine zi_cV2v vmX6_lend lkX8_140 dX8_same_46 (by first | assumption | decide) (Nat.le_of_ble_eq_true rfl) (c6_lend zg_ok1 zt_ok150 hV1.1 hj) ?_
          rintro τ2 ⟨hT2, hF2⟩
          obtain ⟨hV2, hx2⟩ := hV1.sc hF2 zx_sc150
          have hT12 := hT1.fr hF2 (by unfold zt_A; omega) (by unfold zt_A; omega)
          refine zi_ald0 dX8_same_49 ?_
          refine zi_getR dX8_same_50 flX8_53 rfl (by first | assumption | decide) ?_
          refine zi_ald0 dX8_same_53 ?_
          refine zi_getR dX8_same_54 flX8_12 rfl (by first | assumption | decide) ?_
          refine zi_getR dX8_same_57 flX8_104 rfl (by first | assumption | decide) ?_
          refine zi_cV1i vmX7_makePlain lkX8_167 dX8_same_60 (by first | assumption | decide) (Nat.le_of_ble_eq_true rfl) (c7_makePlain zt_ok147 zg_rul1 (by omega) hT12 hV2.1.2.2.2.2 hw) ?_
          rintro y3 τ3 ⟨hF3, hE3⟩
          obtain ⟨hV3, hx3⟩ := hV2.sc hF3 zx_sc147
          have hT23 := hT2.fr hF3 (by unfold zt_A; omega) (by unfold zt_A; omega)
          refine zi_iconst (-1) dX8_same_63 (by decide) ?_
          refine zi_icmp_eq 85 dX8_same_64 (by decide) (fun c64 => ?_) (fun c64 => ?_)
          · refine zi_iconst (-1) dX8_same_85 (by decide) ?_
            refine zi_iret dX8_same_86 rfl ?_
            first
            | (refine ⟨_, rfl, ?_, hV4, ((hx1.tr hx2).tr hx3).tr hx4⟩
               rcases hE4 with ⟨e1, e2⟩ | ⟨n', w', s', p1, p2, p3, p4, p5⟩
               · rw [e2]
                 cases zt_pl A.1.2.1 A.1.2.2 60 0 (A.1.1.getD i zg_d).1 (A.1.1.getD i zg_d).2 <;> rfl
               · rw [p3, zn_m1 n' (by omega)] at c82; exact absurd c82 id)
            | (refine ⟨_, rfl, ?_, hV3, (hx1.tr hx2).tr hx3⟩
               rcases hE3 with ⟨e1, e2⟩ | ⟨n', w', s', p1, p2, p3, p4, p5⟩
               · rw [e2]
               · rw [p3, zn_m1 n' (by omega)] at c64; exact absurd c64 id)
          · refine zi_ald0 dX8_same_67 ?_
            refine zi_getR dX8_same_68 flX8_57 rfl (by first | assumption | decide) ?_
            refine zi_ald0 dX8_same_71 ?_
            refine zi_getR dX8_same_72 flX8_12 rfl (by first | assumption | decide) ?_
            refine zi_getR dX8_same_75 flX8_104 rfl (by first | assumption | decide) ?_
            refine zi_cV1i vmX7_makePlain lkX8_167 dX8_same_78 (by first | assumption | decide) (Nat.le_of_ble_eq_true rfl) (c7_makePlain zt_ok150 zg_rul1 (by omega) hT23 hV3.1.2.2.2.2 hw2) ?_
            rintro y4 τ4 ⟨hF4, hE4⟩
            obtain ⟨hV4, hx4⟩ := hV3.sc hF4 zx_sc150
            refine zi_iconst (-1) dX8_same_81 (by decide) ?_
            refine zi_icmp_ne 87 dX8_same_82 (by decide) (fun c82 => ?_) (fun c82 => ?_)
            · obtain ⟨n3, w3, s3, p31, p32, p33, p34, p35⟩ : ∃ n' w' s', zt_pl A.1.2.1 A.1.2.2 60 0 (A.1.1.getD i zg_d).1 (A.1.1.getD i zg_d).2 = some (n', w', s') ∧ n' ≤ 60 ∧ y3 = nI n' ∧ zt_V τ3 147 w' s' ∧ zt_wd w' := by
                rcases hE3 with ⟨e1, e2⟩ | h
                · exact absurd e1 c64
                · exact h
              obtain ⟨n4, w4, s4, p41, p42, p43, p44, p45⟩ : ∃ n' w' s', zt_pl A.1.2.1 A.1.2.2 60 0 (A.1.1.getD j zg_d).1 (A.1.1.getD j zg_d).2 = some (n', w', s') ∧ n' ≤ 60 ∧ y4 = nI n' ∧ zt_V τ4 150 w' s' ∧ zt_wd w' := by
                rcases hE4 with ⟨e1, e2⟩ | h
                · exact absurd e1 c82
                · exact h
              rw [p31, p41]
              have hT34 := p34.fr hF4 (by unfold zt_A; omega) (by unfold zt_A; omega)
              refine zi_ald0 dX8_same_87 ?_
              refine zi_getR dX8_same_88 flX8_53 rfl (by first | assumption | decide) ?_
              refine zi_ald0 dX8_same_91 ?_
              refine zi_getR dX8_same_92 flX8_57 rfl (by first | assumption | decide) ?_
              refine zi_cV1i vmX7_equalTo lkX8_182 dX8_same_95 (by first | assumption | decide) (Nat.le_of_ble_eq_true rfl) (c7_equalTo zt_ok147 zt_ok150 hT34 p44) ?_
              rintro _ _ ⟨rfl, rfl⟩
              refine zi_if_eq 105 dX8_same_98 (by decide) (fun c98 => ?_) (fun c98 => ?_)
              · refine zi_iconst (nI 0) dX8_same_105 (by decide) ?_
                refine zi_iret dX8_same_106 rfl ?_
                refine ⟨_, rfl, ?_, hV4, ((hx1.tr hx2).tr hx3).tr hx4⟩
                show _ = if s3 = s4 ∧ zt_code w3 = zt_code w4 then nI 1 else nI 0
                by_cases q : s3 = s4 ∧ zt_code w3 = zt_code w4
                · rw [if_pos q] at c98
                  rw [if_pos q]
                  try first | rfl | (exact absurd c98 (by decide))
                · rw [if_neg q] at c98
                  rw [if_neg q]
                  try first | rfl | (exact absurd rfl c98)
              · refine zi_iconst (nI 1) dX8_same_101 (by decide) ?_
                refine zi_goto 106 dX8_same_102 (by decide) ?_
                refine zi_iret dX8_same_106 rfl ?_
                refine ⟨_, rfl, ?_, hV4, ((hx1.tr hx2).tr hx3).tr hx4⟩
                show _ = if s3 = s4 ∧ zt_code w3 = zt_code w4 then nI 1 else nI 0
                by_cases q : s3 = s4 ∧ zt_code w3 = zt_code w4
                · rw [if_pos q] at c98
                  rw [if_pos q]
                  try first | rfl | (exact absurd c98 (by decide))
                · rw [if_neg q] at c98
                  rw [if_neg q]
                  try first | rfl | (exact absurd rfl c98)
            · refine zi_iconst (-1) dX8_same_85 (by decide) ?_
              refine zi_iret dX8_same_86 rfl ?_
              first
              | (refine ⟨_, rfl, ?_, hV4, ((hx1.tr hx2).tr hx3).tr hx4⟩
                 rcases hE4 with ⟨e1, e2⟩ | ⟨n', w', s', p1, p2, p3, p4, p5⟩
                 · rw [e2]
                   cases zt_pl A.1.2.1 A.1.2.2 60 0 (A.1.1.getD i zg_d).1 (A.1.1.getD i zg_d).2 <;> rfl
                 · rw [p3, zn_m1 n' (by omega)] at c82; exact absurd c82 id)
              | (refine ⟨_, rfl, ?_, hV3, (hx1.tr hx2).tr hx3⟩
                 rcases hE3 with ⟨e1, e2⟩ | ⟨n', w', s', p1, p2, p3, p4, p5⟩
                 · rw [e2]
                 · rw [p3, zn_m1 n' (by omega)] at c64; exact absurd c64 id)
        · exact absurd c19 (by decide)
theorem zx_V.fl {τ : zw_S} {B : Nat → Prop} (hV : zx_V σ A) (hF : zL_F B σ τ) (hB : ∀ o, B o → o < 168) : zx_V τ A ∧ zx_F σ τ := ⟨hV.cg (fun o a b => by rw [hF.1]), zx_F.ofL hF hB⟩
theorem zx_cov {n : Int32} : (n < nI 1 ∨ nI 7 < n) ∨ ∃ k, 1 ≤ k ∧ k ≤ 7 ∧ n = nI k := by
  rcases zn_case n (n := 8) (by decide) with (h | h) | ⟨k, hk, rfl⟩
  · exact Or.inl (Or.inl (Int32.lt_trans h (by decide)))
  · exact Or.inl (Or.inr (Int32.lt_of_lt_of_le (by decide) h))
  · by_cases q : k = 0
    · subst q
      exact Or.inl (Or.inl (by decide))
    · exact Or.inr ⟨k, by omega, by omega, rfl⟩
theorem zx_ix_cov {n : Int32} (h : n < nI 1 ∨ nI 7 < n) : zx_ix n 8 = none ∨ zx_ix n 8 = some 0 := by
  rcases zn_case n (n := 8) (by decide) with ho | ⟨k, hk, rfl⟩
  · exact Or.inl (zx_ix_out (by decide) ho)
  · right
    rw [zx_ix_in (by decide) hk]
    rcases h with q | q
    · rw [zn_lt (by omega) (by omega)] at q
      rw [show k = 0 by omega]
    · rw [zn_lt (by omega) (by omega)] at q
      omega
theorem c8_count (hV : zx_V σ A) {n : Int32} : zw_Tl l G (d + 6) mX8_count [.ref 0, .int n] σ (fun x υ => x = zx_count A n ∧ zx_V υ A ∧ zx_F σ υ) := by
  obtain ⟨h1, -⟩ := id hV
  have l141 : zw_ln (0 + 140 + 1) = 8 := by decide
  rcases zx_cov (n := n) with ho | ⟨k, hk1, hk7, rfl⟩
  · have e : zx_count A n = -1000000002 := by
      unfold zx_count
      rcases zx_ix_cov ho with q | q <;> (rw [q]; try rfl)
    rw [e]
    refine zw_enter2 (L := [some _, some _]) (by decide) (Nat.le_of_ble_eq_true rfl) rfl ?_
    refine zi_ild1 dX8_count_0 ?_
    refine zi_cS1i smX5_covers lkX8_186 dX8_count_1 (Nat.le_of_ble_eq_true rfl) (c5_covers_out ho) ?_
    rintro _ _ ⟨rfl, rfl⟩
    refine zi_if_ne 11 dX8_count_4 (by decide) (fun c4 => ?_) (fun c4 => ?_)
    · exact absurd rfl c4
    · refine zi_ldc2 dX8_count_7 kcX8_189 ?_
      refine zi_lret dX8_count_10 rfl ?_
      exact ⟨_, rfl, rfl, hV, zx_F.rf⟩
  · have e : zx_count A (nI k) = zk_P A.1.2.1 k := by
      unfold zx_count
      rw [zx_ix_in (by decide) (by omega)]
      obtain ⟨m, rfl⟩ : ∃ m, k = m + 1 := ⟨k - 1, by omega⟩
      rfl
    rw [e]
    refine zw_enter2 (L := [some _, some _]) (by decide) (Nat.le_of_ble_eq_true rfl) rfl ?_
    refine zi_ild1 dX8_count_0 ?_
    refine zi_cS1i smX5_covers lkX8_186 dX8_count_1 (Nat.le_of_ble_eq_true rfl) (c5_covers_in hk1 hk7) ?_
    rintro _ _ ⟨rfl, rfl⟩
    refine zi_if_ne 11 dX8_count_4 (by decide) (fun c4 => ?_) (fun c4 => ?_)
    · refine zi_ald0 dX8_count_11 ?_
      refine zi_getR dX8_count_12 flX8_46 rfl (by first | assumption | decide) ?_
      refine zi_ald0 dX8_count_15 ?_
      refine zi_getR dX8_count_16 flX8_12 rfl (by first | assumption | decide) ?_
      refine zi_getR dX8_count_19 flX8_104 rfl (by first | assumption | decide) ?_
      refine zi_cV1v vmX5_countTrees lkX8_191 dX8_count_22 (by first | assumption | decide) (Nat.le_of_ble_eq_true rfl) (c5_countTrees zg_rul1 (by decide) h1.2.2.2.2) ?_
      rintro τ1 ⟨hP1, hF1⟩
      obtain ⟨hV1, hx1⟩ := hV.fl hF1 (fun o q => by unfold zk_A at q; omega)
      refine zi_ald0 dX8_count_25 ?_
      refine zi_getR dX8_count_26 flX8_46 rfl (by first | assumption | decide) ?_
      refine zi_getR dX8_count_29 flX8_194 rfl (by first | assumption | decide) ?_
      refine zi_ild1 dX8_count_32 ?_
      refine zi_laldN _ dX8_count_33 (by first | assumption | decide) rfl (by omega) (by omega) ?_
      refine zi_lret dX8_count_34 rfl ?_
      exact ⟨_, rfl, hP1 k hk1 (by omega), hV1, hx1⟩
    · exact absurd c4 (by decide)
theorem c8_undoneBy (hV : zx_V σ A) {n : Int32} : zw_Tl l G (d + 6) mX8_undoneBy [.ref 0, .int n] σ (fun x υ => x = zx_undone A n ∧ zx_V υ A ∧ zx_F σ υ) := by
  obtain ⟨h1, -⟩ := id hV
  have l145 : zw_ln (0 + 140 + 5) = 8 := by decide
  rcases zx_cov (n := n) with ho | ⟨k, hk1, hk7, rfl⟩
  · have e : zx_undone A n = -1000000002 := by
      unfold zx_undone
      rcases zx_ix_cov ho with q | q <;> (rw [q]; try rfl)
    rw [e]
    refine zw_enter2 (L := [some _, some _]) (by decide) (Nat.le_of_ble_eq_true rfl) rfl ?_
    refine zi_ild1 dX8_undoneBy_0 ?_
    refine zi_cS1i smX5_covers lkX8_186 dX8_undoneBy_1 (Nat.le_of_ble_eq_true rfl) (c5_covers_out ho) ?_
    rintro _ _ ⟨rfl, rfl⟩
    refine zi_if_ne 11 dX8_undoneBy_4 (by decide) (fun c4 => ?_) (fun c4 => ?_)
    · exact absurd rfl c4
    · refine zi_ldc2 dX8_undoneBy_7 kcX8_189 ?_
      refine zi_lret dX8_undoneBy_10 rfl ?_
      exact ⟨_, rfl, rfl, hV, zx_F.rf⟩
  · have e : zx_undone A (nI k) = zk_un (zk_P A.1.2.1) 6 k := by
      unfold zx_undone
      rw [zx_ix_in (by decide) (by omega)]
      obtain ⟨m, rfl⟩ : ∃ m, k = m + 1 := ⟨k - 1, by omega⟩
      rfl
    rw [e]
    refine zw_enter2 (L := [some _, some _]) (by decide) (Nat.le_of_ble_eq_true rfl) rfl ?_
    refine zi_ild1 dX8_undoneBy_0 ?_
    refine zi_cS1i smX5_covers lkX8_186 dX8_undoneBy_1 (Nat.le_of_ble_eq_true rfl) (c5_covers_in hk1 hk7) ?_
    rintro _ _ ⟨rfl, rfl⟩
    refine zi_if_ne 11 dX8_undoneBy_4 (by decide) (fun c4 => ?_) (fun c4 => ?_)
    · refine zi_ald0 dX8_undoneBy_11 ?_
      refine zi_getR dX8_undoneBy_12 flX8_46 rfl (by first | assumption | decide) ?_
      refine zi_ald0 dX8_undoneBy_15 ?_
      refine zi_getR dX8_undoneBy_16 flX8_12 rfl (by first | assumption | decide) ?_
      refine zi_getR dX8_undoneBy_19 flX8_104 rfl (by first | assumption | decide) ?_
      refine zi_cV1v vmX5_countTrees lkX8_191 dX8_undoneBy_22 (by first | assumption | decide) (Nat.le_of_ble_eq_true rfl) (c5_countTrees zg_rul1 (by decide) h1.2.2.2.2) ?_
      rintro τ1 ⟨hP1, hF1⟩
      obtain ⟨hV1, hx1⟩ := hV.fl hF1 (fun o q => by unfold zk_A at q; omega)
      refine zi_ald0 dX8_undoneBy_25 ?_
      refine zi_getR dX8_undoneBy_26 flX8_46 rfl (by first | assumption | decide) ?_
      refine zi_cV0v vmX5_undoTrees lkX8_198 dX8_undoneBy_29 (by first | assumption | decide) (Nat.le_of_ble_eq_true rfl) (c5_undoTrees (P := zk_P A.1.2.1) hP1) ?_
      rintro τ2 ⟨hU2, hF2⟩
      obtain ⟨hV2, hx2⟩ := hV1.fl hF2 (fun o q => by unfold zk_A2 at q; omega)
      refine zi_ald0 dX8_undoneBy_32 ?_
      refine zi_getR dX8_undoneBy_33 flX8_46 rfl (by first | assumption | decide) ?_
      refine zi_getR dX8_undoneBy_36 flX8_201 rfl (by first | assumption | decide) ?_
      refine zi_ild1 dX8_undoneBy_39 ?_
      refine zi_laldN _ dX8_undoneBy_40 (by first | assumption | decide) rfl (by omega) (by omega) ?_
      refine zi_lret dX8_undoneBy_41 rfl ?_
      exact ⟨_, rfl, hU2 k (by omega), hV2, hx1.tr hx2⟩
    · exact absurd c4 (by decide)
end Z27
