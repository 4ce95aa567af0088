/-! the class's own methods: what is asked -/
theorem zn_out_int {x : Int32} {n : Nat} (hn : n < 2147483648) (h : zn_out x n) : x.toInt < 0 ∨ (n : Int) ≤ x.toInt := by
  rcases h with h | h
  · left
    have := Int32.lt_iff_toInt_lt.mp h
    rw [nI_toInt (by decide)] at this
    exact this
  · right
    have := Int32.le_iff_toInt_le.mp h
    rwa [nI_toInt hn] at this
theorem zg_rul1 : zr_ok 2 := zg_ok1.2.1
section Z26
variable {l : Launch} {G : zw_G} {d : Nat} {σ : zw_S} {A : zx_T}
theorem zx_own_t {X : zg_X} (h : ∀ p, p < 8 → zr_df X.2.1 X.2.2 p = X.2.1 p) : zx_own X = true := by
  unfold zx_own
  rw [List.all_eq_true]
  intro p hp
  simpa using h p (List.mem_range.mp hp)
theorem zx_own_f {X : zg_X} (h : ∃ p, p < 8 ∧ zr_df X.2.1 X.2.2 p ≠ X.2.1 p) : zx_own X = false := by
  obtain ⟨p, hp, hne⟩ := h
  rw [← Bool.not_eq_true]
  unfold zx_own
  rw [List.all_eq_true]
  intro q
  have := q p (List.mem_range.mpr hp)
  simp at this
  exact hne this
theorem c8_told (hG : zj_G G) (hV : zx_V σ A) {k : Int32} : zw_Ti l G (d + 7) mX8_told [.ref 0, .int k] σ (fun x υ => x = zx_told A k ∧ zx_V υ A ∧ zx_F σ υ) := by
  obtain ⟨h1, ⟨nx, h2⟩, h3, h4, h5, h6, h7, h8⟩ := id hV
  have hle := zj_f_le A.1.2.1 A.1.2.2 zj_W
  rw [zj_W_len] at hle
  rcases zn_case k (n := 10) (by decide) with ho | ⟨j, hj, rfl⟩
  · have e : zx_told A k = zx_OU := by unfold zx_told; rw [zx_ix_out (by decide) ho]
    have hi := zn_out_int (by decide) ho
    rw [e]
    refine zw_enter2 (L := [some _, some _]) (by decide) (Nat.le_of_ble_eq_true rfl) rfl ?_
    refine zi_ild1 dX8_told_0 ?_
    refine zi_iconst (nI 2) dX8_told_1 (by decide) ?_
    refine zi_icmp_lt 24 dX8_told_2 (by decide) (fun c2 => ?_) (fun c2 => ?_)
    · refine zi_ild1 dX8_told_24 ?_
      refine zi_tableOut 180 dX8_told_25 (by omega) (by decide) ?_
      refine zi_ldc dX8_told_180 kcX8_75 ?_
      refine zi_iret dX8_told_182 rfl ?_
      exact ⟨_, rfl, rfl, hV, zx_F.rf⟩
    · refine zi_ild1 dX8_told_5 ?_
      refine zi_iconst (nI 5) dX8_told_6 (by decide) ?_
      refine zi_icmp_gt 24 dX8_told_7 (by decide) (fun c7 => ?_) (fun c7 => ?_)
      · refine zi_ild1 dX8_told_24 ?_
        refine zi_tableOut 180 dX8_told_25 (by omega) (by decide) ?_
        refine zi_ldc dX8_told_180 kcX8_75 ?_
        refine zi_iret dX8_told_182 rfl ?_
        exact ⟨_, rfl, rfl, hV, zx_F.rf⟩
      · exfalso
        rcases ho with q | q
        · exact c2 (Int32.lt_trans q (by decide))
        · exact c7 (Int32.lt_of_lt_of_le (by decide) q)
  · match j, hj with
    | 0, _ =>
      have e : zx_told A (nI 0) = nI A.1.1.length := by unfold zx_told; rw [zx_ix_in (by decide) (by decide)]; try rfl
      rw [e]
      refine zw_enter2 (L := [some _, some _]) (by decide) (Nat.le_of_ble_eq_true rfl) rfl ?_
      refine zi_ild1 dX8_told_0 ?_
      refine zi_iconst (nI 2) dX8_told_1 (by decide) ?_
      refine zi_icmp_lt 24 dX8_told_2 (by decide) (fun c2 => ?_) (fun c2 => ?_)
      · refine zi_ild1 dX8_told_24 ?_
        refine zi_tableIn (off := 55) 80 dX8_told_25 (by decide) (by decide) (by decide) (by decide) ?_
        refine zi_ald0 dX8_told_80 ?_
        refine zi_getR dX8_told_81 flX8_12 rfl (by first | assumption | decide) ?_
        refine zi_getI dX8_told_84 flX8_112 rfl (by first | assumption | decide) ?_
        refine zi_iret dX8_told_87 rfl ?_
        exact ⟨_, rfl, h1.2.2.1, hV, zx_F.rf⟩
      · exact absurd (by decide) c2
    | 1, _ =>
      have e : zx_told A (nI 1) = nI A.2.2.2.1.length := by unfold zx_told; rw [zx_ix_in (by decide) (by decide)]; try rfl
      rw [e]
      refine zw_enter2 (L := [some _, some _]) (by decide) (Nat.le_of_ble_eq_true rfl) rfl ?_
      refine zi_ild1 dX8_told_0 ?_
      refine zi_iconst (nI 2) dX8_told_1 (by decide) ?_
      refine zi_icmp_lt 24 dX8_told_2 (by decide) (fun c2 => ?_) (fun c2 => ?_)
      · refine zi_ild1 dX8_told_24 ?_
        refine zi_tableIn (off := 63) 88 dX8_told_25 (by decide) (by decide) (by decide) (by decide) ?_
        refine zi_ald0 dX8_told_88 ?_
        refine zi_getI dX8_told_89 flX8_64 rfl (by first | assumption | decide) ?_
        refine zi_iret dX8_told_92 rfl ?_
        exact ⟨_, rfl, h4.2.2.1, hV, zx_F.rf⟩
      · exact absurd (by decide) c2
    | 2, _ =>
      have e : zx_told A (nI 2) = nI (zj_f A.1.2.1 A.1.2.2 zj_W).1 := by unfold zx_told; rw [zx_ix_in (by decide) (by decide)]; try rfl
      rw [e]
      refine zw_enter2 (L := [some _, some _]) (by decide) (Nat.le_of_ble_eq_true rfl) rfl ?_
      refine zi_ild1 dX8_told_0 ?_
      refine zi_iconst (nI 2) dX8_told_1 (by decide) ?_
      refine zi_icmp_lt 24 dX8_told_2 (by decide) (fun c2 => ?_) (fun c2 => ?_)
      · exact absurd c2 (by decide)
      · refine zi_ild1 dX8_told_5 ?_
        refine zi_iconst (nI 5) dX8_told_6 (by decide) ?_
        refine zi_icmp_gt 24 dX8_told_7 (by decide) (fun c7 => ?_) (fun c7 => ?_)
        · exact absurd c7 (by decide)
        · refine zi_ald0 dX8_told_10 ?_
          refine zi_getR dX8_told_11 flX8_39 rfl (by first | assumption | decide) ?_
          refine zi_ald0 dX8_told_14 ?_
          refine zi_getR dX8_told_15 flX8_12 rfl (by first | assumption | decide) ?_
          refine zi_getR dX8_told_18 flX8_104 rfl (by first | assumption | decide) ?_
          refine zi_cV1v vmX3_judgeAll lkX8_108 dX8_told_21 (by first | assumption | decide) (Nat.le_of_ble_eq_true rfl) (c3_judgeAll hG zg_rul1 (by decide) h1.2.2.2.2) ?_
          rintro τ1 ⟨⟨j1, j2, j3⟩, hF1⟩
          have hV1 : zx_V τ1 A := hV.cg (fun o a b => hF1.2 o (fun q => a (by unfold zj_A at q; unfold zx_sc; omega)))
          have hx1 : zx_F σ τ1 := zx_F.of hF1 (fun o q => by unfold zj_A at q; omega)
          refine zi_ild1 dX8_told_24 ?_
          refine zi_tableIn (off := 68) 93 dX8_told_25 (by decide) (by decide) (by decide) (by decide) ?_
          refine zi_ald0 dX8_told_93 ?_
          refine zi_getR dX8_told_94 flX8_39 rfl (by first | assumption | decide) ?_
          refine zi_getI dX8_told_97 flX8_115 rfl (by first | assumption | decide) ?_
          refine zi_iret dX8_told_100 rfl ?_
          exact ⟨_, rfl, j1, hV1, hx1⟩
    | 3, _ =>
      have e : zx_told A (nI 3) = nI (zj_f A.1.2.1 A.1.2.2 zj_W).2.1 := by unfold zx_told; rw [zx_ix_in (by decide) (by decide)]; try rfl
      rw [e]
      refine zw_enter2 (L := [some _, some _]) (by decide) (Nat.le_of_ble_eq_true rfl) rfl ?_
      refine zi_ild1 dX8_told_0 ?_
      refine zi_iconst (nI 2) dX8_told_1 (by decide) ?_
      refine zi_icmp_lt 24 dX8_told_2 (by decide) (fun c2 => ?_) (fun c2 => ?_)
      · exact absurd c2 (by decide)
      · refine zi_ild1 dX8_told_5 ?_
        refine zi_iconst (nI 5) dX8_told_6 (by decide) ?_
        refine zi_icmp_gt 24 dX8_told_7 (by decide) (fun c7 => ?_) (fun c7 => ?_)
        · exact absurd c7 (by decide)
        · refine zi_ald0 dX8_told_10 ?_
          refine zi_getR dX8_told_11 flX8_39 rfl (by first | assumption | decide) ?_
          refine zi_ald0 dX8_told_14 ?_
          refine zi_getR dX8_told_15 flX8_12 rfl (by first | assumption | decide) ?_
          refine zi_getR dX8_told_18 flX8_104 rfl (by first | assumption | decide) ?_
          refine zi_cV1v vmX3_judgeAll lkX8_108 dX8_told_21 (by first | assumption | decide) (Nat.le_of_ble_eq_true rfl) (c3_judgeAll hG zg_rul1 (by decide) h1.2.2.2.2) ?_
          rintro τ1 ⟨⟨j1, j2, j3⟩, hF1⟩
          have hV1 : zx_V τ1 A := hV.cg (fun o a b => hF1.2 o (fun q => a (by unfold zj_A at q; unfold zx_sc; omega)))
          have hx1 : zx_F σ τ1 := zx_F.of hF1 (fun o q => by unfold zj_A at q; omega)
          refine zi_ild1 dX8_told_24 ?_
          refine zi_tableIn (off := 76) 101 dX8_told_25 (by decide) (by decide) (by decide) (by decide) ?_
          refine zi_ald0 dX8_told_101 ?_
          refine zi_getR dX8_told_102 flX8_39 rfl (by first | assumption | decide) ?_
          refine zi_getI dX8_told_105 flX8_118 rfl (by first | assumption | decide) ?_
          refine zi_iret dX8_told_108 rfl ?_
          exact ⟨_, rfl, j2, hV1, hx1⟩
    | 4, _ =>
      have e : zx_told A (nI 4) = zp_oI (zj_f A.1.2.1 A.1.2.2 zj_W).2.2 := by unfold zx_told; rw [zx_ix_in (by decide) (by decide)]; try rfl
      rw [e]
      refine zw_enter2 (L := [some _, some _]) (by decide) (Nat.le_of_ble_eq_true rfl) rfl ?_
      refine zi_ild1 dX8_told_0 ?_
      refine zi_iconst (nI 2) dX8_told_1 (by decide) ?_
      refine zi_icmp_lt 24 dX8_told_2 (by decide) (fun c2 => ?_) (fun c2 => ?_)
      · exact absurd c2 (by decide)
      · refine zi_ild1 dX8_told_5 ?_
        refine zi_iconst (nI 5) dX8_told_6 (by decide) ?_
        refine zi_icmp_gt 24 dX8_told_7 (by decide) (fun c7 => ?_) (fun c7 => ?_)
        · exact absurd c7 (by decide)
        · refine zi_ald0 dX8_told_10 ?_
          refine zi_getR dX8_told_11 flX8_39 rfl (by first | assumption | decide) ?_
          refine zi_ald0 dX8_told_14 ?_
          refine zi_getR dX8_told_15 flX8_12 rfl (by first | assumption | decide) ?_
          refine zi_getR dX8_told_18 flX8_104 rfl (by first | assumption | decide) ?_
          refine zi_cV1v vmX3_judgeAll lkX8_108 dX8_told_21 (by first | assumption | decide) (Nat.le_of_ble_eq_true rfl) (c3_judgeAll hG zg_rul1 (by decide) h1.2.2.2.2) ?_
          rintro τ1 ⟨⟨j1, j2, j3⟩, hF1⟩
          have hV1 : zx_V τ1 A := hV.cg (fun o a b => hF1.2 o (fun q => a (by unfold zj_A at q; unfold zx_sc; omega)))
          have hx1 : zx_F σ τ1 := zx_F.of hF1 (fun o q => by unfold zj_A at q; omega)
          refine zi_ild1 dX8_told_24 ?_
          refine zi_tableIn (off := 84) 109 dX8_told_25 (by decide) (by decide) (by decide) (by decide) ?_
          refine zi_ald0 dX8_told_109 ?_
          refine zi_getR dX8_told_110 flX8_39 rfl (by first | assumption | decide) ?_
          refine zi_getI dX8_told_113 flX8_121 rfl (by first | assumption | decide) ?_
          refine zi_iret dX8_told_116 rfl ?_
          exact ⟨_, rfl, j3, hV1, hx1⟩
    | 5, _ =>
      have e : zx_told A (nI 5) = if (zj_f A.1.2.1 A.1.2.2 zj_W).2.1 = 0 then nI 1 else nI 0 := by unfold zx_told; rw [zx_ix_in (by decide) (by decide)]; try rfl
      rw [e]
      refine zw_enter2 (L := [some _, some _]) (by decide) (Nat.le_of_ble_eq_true rfl) rfl ?_
      refine zi_ild1 dX8_told_0 ?_
      refine zi_iconst (nI 2) dX8_told_1 (by decide) ?_
      refine zi_icmp_lt 24 dX8_told_2 (by decide) (fun c2 => ?_) (fun c2 => ?_)
      · exact absurd c2 (by decide)
      · refine zi_ild1 dX8_told_5 ?_
        refine zi_iconst (nI 5) dX8_told_6 (by decide) ?_
        refine zi_icmp_gt 24 dX8_told_7 (by decide) (fun c7 => ?_) (fun c7 => ?_)
        · exact absurd c7 (by decide)
        · refine zi_ald0 dX8_told_10 ?_
          refine zi_getR dX8_told_11 flX8_39 rfl (by first | assumption | decide) ?_
          refine zi_ald0 dX8_told_14 ?_
          refine zi_getR dX8_told_15 flX8_12 rfl (by first | assumption | decide) ?_
          refine zi_getR dX8_told_18 flX8_104 rfl (by first | assumption | decide) ?_
          refine zi_cV1v vmX3_judgeAll lkX8_108 dX8_told_21 (by first | assumption | decide) (Nat.le_of_ble_eq_true rfl) (c3_judgeAll hG zg_rul1 (by decide) h1.2.2.2.2) ?_
          rintro τ1 ⟨⟨j1, j2, j3⟩, hF1⟩
          have hV1 : zx_V τ1 A := hV.cg (fun o a b => hF1.2 o (fun q => a (by unfold zj_A at q; unfold zx_sc; omega)))
          have hx1 : zx_F σ τ1 := zx_F.of hF1 (fun o q => by unfold zj_A at q; omega)
          refine zi_ild1 dX8_told_24 ?_
          refine zi_tableIn (off := 92) 117 dX8_told_25 (by decide) (by decide) (by decide) (by decide) ?_
          refine zi_ald0 dX8_told_117 ?_
          refine zi_getR dX8_told_118 flX8_39 rfl (by first | assumption | decide) ?_
          refine zi_getI dX8_told_121 flX8_118 rfl (by first | assumption | decide) ?_
          rw [show τ1.1 (0 + 133) 3 = nI (zj_f A.1.2.1 A.1.2.2 zj_W).2.1 from j2]
          refine zi_if_ne 131 dX8_told_124 (by decide) (fun c124 => ?_) (fun c124 => ?_)
          · refine zi_iconst (nI 0) dX8_told_131 (by decide) ?_
            refine zi_iret dX8_told_132 rfl ?_
            rw [zn_0, zn_eq (by omega) (by decide)] at c124
            refine ⟨_, rfl, ?_, hV1, hx1⟩
            first | rw [if_pos c124] | rw [if_neg c124]
          · refine zi_iconst (nI 1) dX8_told_127 (by decide) ?_
            refine zi_goto 132 dX8_told_128 (by decide) ?_
            refine zi_iret dX8_told_132 rfl ?_
            rw [zn_0, zn_eq (by omega) (by decide)] at c124
            refine ⟨_, rfl, ?_, hV1, hx1⟩
            first | rw [if_pos c124] | rw [if_neg c124]
    | 6, _ =>
      have e : zx_told A (nI 6) = if zx_own A.1 then nI 1 else nI 0 := by unfold zx_told; rw [zx_ix_in (by decide) (by decide)]; try rfl
      rw [e]
      refine zw_enter2 (L := [some _, some _]) (by decide) (Nat.le_of_ble_eq_true rfl) rfl ?_
      refine zi_ild1 dX8_told_0 ?_
      refine zi_iconst (nI 2) dX8_told_1 (by decide) ?_
      refine zi_icmp_lt 24 dX8_told_2 (by decide) (fun c2 => ?_) (fun c2 => ?_)
      · exact absurd c2 (by decide)
      · refine zi_ild1 dX8_told_5 ?_
        refine zi_iconst (nI 5) dX8_told_6 (by decide) ?_
        refine zi_icmp_gt 24 dX8_told_7 (by decide) (fun c7 => ?_) (fun c7 => ?_)
        · refine zi_ild1 dX8_told_24 ?_
          refine zi_tableIn (off := 108) 133 dX8_told_25 (by decide) (by decide) (by decide) (by decide) ?_
          refine zi_ald0 dX8_told_133 ?_
          refine zi_getR dX8_told_134 flX8_12 rfl (by first | assumption | decide) ?_
          refine zi_getR dX8_told_137 flX8_104 rfl (by first | assumption | decide) ?_
          refine zi_cV0i vmX4_isOwnDual lkX8_124 dX8_told_140 (by first | assumption | decide) (Nat.le_of_ble_eq_true rfl) (c4_isOwnDual zg_rul1 h1.2.2.2.2) ?_
          rintro y6 _ ⟨rfl, hy⟩
          refine zi_if_eq 150 dX8_told_143 (by decide) (fun c143 => ?_) (fun c143 => ?_)
          · refine zi_iconst (nI 0) dX8_told_150 (by decide) ?_
            refine zi_iret dX8_told_151 rfl ?_
            refine ⟨_, rfl, ?_, hV, zx_F.rf⟩
            rcases hy with ⟨y1, y2⟩ | ⟨y1, y2⟩
            · rw [zx_own_t y2]
              first | rfl | (rw [y1] at c143; exact absurd c143 (by decide))
            · rw [zx_own_f y2]
              first | rfl | (rw [y1] at c143; exact absurd rfl c143)
          · refine zi_iconst (nI 1) dX8_told_146 (by decide) ?_
            refine zi_goto 151 dX8_told_147 (by decide) ?_
            refine zi_iret dX8_told_151 rfl ?_
            refine ⟨_, rfl, ?_, hV, zx_F.rf⟩
            rcases hy with ⟨y1, y2⟩ | ⟨y1, y2⟩
            · rw [zx_own_t y2]
              first | rfl | (rw [y1] at c143; exact absurd c143 (by decide))
            · rw [zx_own_f y2]
              first | rfl | (rw [y1] at c143; exact absurd rfl c143)
        · exact absurd (by decide) c7
    | 7, _ =>
      have e : zx_told A (nI 7) = nI A.2.2.2.2.2.1.length := by unfold zx_told; rw [zx_ix_in (by decide) (by decide)]; try rfl
      rw [e]
      refine zw_enter2 (L := [some _, some _]) (by decide) (Nat.le_of_ble_eq_true rfl) rfl ?_
      refine zi_ild1 dX8_told_0 ?_
      refine zi_iconst (nI 2) dX8_told_1 (by decide) ?_
      refine zi_icmp_lt 24 dX8_told_2 (by decide) (fun c2 => ?_) (fun c2 => ?_)
      · exact absurd c2 (by decide)
      · refine zi_ild1 dX8_told_5 ?_
        refine zi_iconst (nI 5) dX8_told_6 (by decide) ?_
        refine zi_icmp_gt 24 dX8_told_7 (by decide) (fun c7 => ?_) (fun c7 => ?_)
        · refine zi_ild1 dX8_told_24 ?_
          refine zi_tableIn (off := 127) 152 dX8_told_25 (by decide) (by decide) (by decide) (by decide) ?_
          refine zi_ald0 dX8_told_152 ?_
          refine zi_getR dX8_told_153 flX8_32 rfl (by first | assumption | decide) ?_
          refine zi_getI dX8_told_156 flX8_129 rfl (by first | assumption | decide) ?_
          refine zi_iret dX8_told_159 rfl ?_
          exact ⟨_, rfl, h6.2.1, hV, zx_F.rf⟩
        · exact absurd (by decide) c7
    | 8, _ =>
      have e : zx_told A (nI 8) = zp_oI (zb_w A.1.1 A.2.2.2.2.2.1) := by unfold zx_told; rw [zx_ix_in (by decide) (by decide)]; try rfl
      rw [e]
      refine zw_enter2 (L := [some _, some _]) (by decide) (Nat.le_of_ble_eq_true rfl) rfl ?_
      refine zi_ild1 dX8_told_0 ?_
      refine zi_iconst (nI 2) dX8_told_1 (by decide) ?_
      refine zi_icmp_lt 24 dX8_told_2 (by decide) (fun c2 => ?_) (fun c2 => ?_)
      · exact absurd c2 (by decide)
      · refine zi_ild1 dX8_told_5 ?_
        refine zi_iconst (nI 5) dX8_told_6 (by decide) ?_
        refine zi_icmp_gt 24 dX8_told_7 (by decide) (fun c7 => ?_) (fun c7 => ?_)
        · refine zi_ild1 dX8_told_24 ?_
          refine zi_tableIn (off := 135) 160 dX8_told_25 (by decide) (by decide) (by decide) (by decide) ?_
          refine zi_ald0 dX8_told_160 ?_
          refine zi_getR dX8_told_161 flX8_32 rfl (by first | assumption | decide) ?_
          refine zi_ald0 dX8_told_164 ?_
          refine zi_getR dX8_told_165 flX8_12 rfl (by first | assumption | decide) ?_
          refine zi_cV1i vmX0_firstWrong lkX8_130 dX8_told_168 (by first | assumption | decide) (Nat.le_of_ble_eq_true rfl) (c0_firstWrong h6 h1) ?_
          rintro _ _ ⟨rfl, rfl⟩
          refine zi_iret dX8_told_171 rfl ?_
          exact ⟨_, rfl, rfl, hV, zx_F.rf⟩
        · exact absurd (by decide) c7
    | 9, _ =>
      have e : zx_told A (nI 9) = nI A.2.1.length := by unfold zx_told; rw [zx_ix_in (by decide) (by decide)]; try rfl
      rw [e]
      refine zw_enter2 (L := [some _, some _]) (by decide) (Nat.le_of_ble_eq_true rfl) rfl ?_
      refine zi_ild1 dX8_told_0 ?_
      refine zi_iconst (nI 2) dX8_told_1 (by decide) ?_
      refine zi_icmp_lt 24 dX8_told_2 (by decide) (fun c2 => ?_) (fun c2 => ?_)
      · exact absurd c2 (by decide)
      · refine zi_ild1 dX8_told_5 ?_
        refine zi_iconst (nI 5) dX8_told_6 (by decide) ?_
        refine zi_icmp_gt 24 dX8_told_7 (by decide) (fun c7 => ?_) (fun c7 => ?_)
        · refine zi_ild1 dX8_told_24 ?_
          refine zi_tableIn (off := 147) 172 dX8_told_25 (by decide) (by decide) (by decide) (by decide) ?_
          refine zi_ald0 dX8_told_172 ?_
          refine zi_getR dX8_told_173 flX8_19 rfl (by first | assumption | decide) ?_
          refine zi_getI dX8_told_176 flX8_134 rfl (by first | assumption | decide) ?_
          refine zi_iret dX8_told_179 rfl ?_
          exact ⟨_, rfl, h2.2.2.2.1, hV, zx_F.rf⟩
        · exact absurd (by decide) c7
theorem c8_pattern (hV : zx_V σ A) {p k : Int32} : zw_Ti l G (d + 3) mX8_pattern [.ref 0, .int p, .int k] σ (fun x υ => x = zx_pattern A p k ∧ zx_V υ A ∧ zx_F σ υ) := by
  obtain ⟨h1, -⟩ := id hV
  rcases zn_case p (n := 8) (by decide) with ho | ⟨i, hi, rfl⟩
  · have e : zx_pattern A p k = zx_UN := by unfold zx_pattern; rw [zx_ix_out (by decide) ho]
    rw [e]
    refine zw_enter2 (L := [some _, some _, some _]) (by decide) (Nat.le_of_ble_eq_true rfl) rfl ?_
    refine zi_ild1 dX8_pattern_0 ?_
    refine zi_cS1i smX4_isPattern lkX8_170 dX8_pattern_1 (Nat.le_of_ble_eq_true rfl) (c4_isPattern_out ho) ?_
    rintro _ _ ⟨rfl, rfl⟩
    refine zi_if_ne 10 dX8_pattern_4 (by decide) (fun c4 => ?_) (fun c4 => ?_)
    · exact absurd rfl c4
    · refine zi_ldc dX8_pattern_7 kcX8_139 ?_
      refine zi_iret dX8_pattern_9 rfl ?_
      exact ⟨_, rfl, rfl, hV, zx_F.rf⟩
  · rcases zn_case k (n := 3) (by decide) with ho | ⟨j, hj, rfl⟩
    · have e : zx_pattern A (nI i) k = zx_OU := by unfold zx_pattern; rw [zx_ix_in (by decide) hi, zx_ix_out (by decide) ho]
      have hq := zn_out_int (by decide) ho
      rw [e]
      refine zw_enter2 (L := [some _, some _, some _]) (by decide) (Nat.le_of_ble_eq_true rfl) rfl ?_
      refine zi_ild1 dX8_pattern_0 ?_
      refine zi_cS1i smX4_isPattern lkX8_170 dX8_pattern_1 (Nat.le_of_ble_eq_true rfl) (c4_isPattern_in hi) ?_
      rintro _ _ ⟨rfl, rfl⟩
      refine zi_if_ne 10 dX8_pattern_4 (by decide) (fun c4 => ?_) (fun c4 => ?_)
      · refine zi_ild2 dX8_pattern_10 ?_
        refine zi_tableOut 72 dX8_pattern_11 (by omega) (by decide) ?_
        refine zi_ldc dX8_pattern_72 kcX8_75 ?_
        refine zi_iret dX8_pattern_74 rfl ?_
        exact ⟨_, rfl, rfl, hV, zx_F.rf⟩
      · exact absurd c4 (by decide)
    · match j, hj with
      | 0, _ =>
        have e : zx_pattern A (nI i) (nI 0) = nI (A.1.2.1 i) := by unfold zx_pattern; rw [zx_ix_in (by decide) hi, zx_ix_in (by decide) (by decide)]; try rfl
        rw [e]
        refine zw_enter2 (L := [some _, some _, some _]) (by decide) (Nat.le_of_ble_eq_true rfl) rfl ?_
        refine zi_ild1 dX8_pattern_0 ?_
        refine zi_cS1i smX4_isPattern lkX8_170 dX8_pattern_1 (Nat.le_of_ble_eq_true rfl) (c4_isPattern_in hi) ?_
        rintro _ _ ⟨rfl, rfl⟩
        refine zi_if_ne 10 dX8_pattern_4 (by decide) (fun c4 => ?_) (fun c4 => ?_)
        · refine zi_ild2 dX8_pattern_10 ?_
          refine zi_tableIn (off := 25) 36 dX8_pattern_11 (by decide) (by decide) (by decide) (by decide) ?_
          refine zi_ald0 dX8_pattern_36 ?_
          refine zi_getR dX8_pattern_37 flX8_12 rfl (by first | assumption | decide) ?_
          refine zi_getR dX8_pattern_40 flX8_104 rfl (by first | assumption | decide) ?_
          refine zi_ild1 dX8_pattern_43 ?_
          refine zi_cV1i vmX4_fateOf lkX8_173 dX8_pattern_44 (by first | assumption | decide) (Nat.le_of_ble_eq_true rfl) (c4_fateOf zg_rul1 h1.2.2.2.2 hi) ?_
          rintro _ _ ⟨rfl, rfl⟩
          refine zi_iret dX8_pattern_47 rfl ?_
          exact ⟨_, rfl, rfl, hV, zx_F.rf⟩
        · exact absurd c4 (by decide)
      | 1, _ =>
        have e : zx_pattern A (nI i) (nI 1) = zp_gI (A.1.2.2 i) := by unfold zx_pattern; rw [zx_ix_in (by decide) hi, zx_ix_in (by decide) (by decide)]; try rfl
        rw [e]
        refine zw_enter2 (L := [some _, some _, some _]) (by decide) (Nat.le_of_ble_eq_true rfl) rfl ?_
        refine zi_ild1 dX8_pattern_0 ?_
        refine zi_cS1i smX4_isPattern lkX8_170 dX8_pattern_1 (Nat.le_of_ble_eq_true rfl) (c4_isPattern_in hi) ?_
        rintro _ _ ⟨rfl, rfl⟩
        refine zi_if_ne 10 dX8_pattern_4 (by decide) (fun c4 => ?_) (fun c4 => ?_)
        · refine zi_ild2 dX8_pattern_10 ?_
          refine zi_tableIn (off := 37) 48 dX8_pattern_11 (by decide) (by decide) (by decide) (by decide) ?_
          refine zi_ald0 dX8_pattern_48 ?_
          refine zi_getR dX8_pattern_49 flX8_12 rfl (by first | assumption | decide) ?_
          refine zi_getR dX8_pattern_52 flX8_104 rfl (by first | assumption | decide) ?_
          refine zi_ild1 dX8_pattern_55 ?_
          refine zi_cV1i vmX4_goalOf lkX8_176 dX8_pattern_56 (by first | assumption | decide) (Nat.le_of_ble_eq_true rfl) (c4_goalOf zg_rul1 h1.2.2.2.2 hi) ?_
          rintro _ _ ⟨rfl, rfl⟩
          refine zi_iret dX8_pattern_59 rfl ?_
          exact ⟨_, rfl, rfl, hV, zx_F.rf⟩
        · exact absurd c4 (by decide)
      | 2, _ =>
        have e : zx_pattern A (nI i) (nI 2) = zp_gI (zr_mk A.1.2.2 i 8) := by unfold zx_pattern; rw [zx_ix_in (by decide) hi, zx_ix_in (by decide) (by decide)]; try rfl
        rw [e]
        refine zw_enter2 (L := [some _, some _, some _]) (by decide) (Nat.le_of_ble_eq_true rfl) rfl ?_
        refine zi_ild1 dX8_pattern_0 ?_
        refine zi_cS1i smX4_isPattern lkX8_170 dX8_pattern_1 (Nat.le_of_ble_eq_true rfl) (c4_isPattern_in hi) ?_
        rintro _ _ ⟨rfl, rfl⟩
        refine zi_if_ne 10 dX8_pattern_4 (by decide) (fun c4 => ?_) (fun c4 => ?_)
        · refine zi_ild2 dX8_pattern_10 ?_
          refine zi_tableIn (off := 49) 60 dX8_pattern_11 (by decide) (by decide) (by decide) (by decide) ?_
          refine zi_ald0 dX8_pattern_60 ?_
          refine zi_getR dX8_pattern_61 flX8_12 rfl (by first | assumption | decide) ?_
          refine zi_getR dX8_pattern_64 flX8_104 rfl (by first | assumption | decide) ?_
          refine zi_ild1 dX8_pattern_67 ?_
          refine zi_cV1i vmX4_makerOf lkX8_179 dX8_pattern_68 (by first | assumption | decide) (Nat.le_of_ble_eq_true rfl) (c4_makerOf zg_rul1 h1.2.2.2.2 hi) ?_
          rintro _ _ ⟨rfl, rfl⟩
          refine zi_iret dX8_pattern_71 rfl ?_
          exact ⟨_, rfl, rfl, hV, zx_F.rf⟩
        · exact absurd c4 (by decide)
theorem zx_V.sc {τ : zw_S} {B : Nat → Prop} (hV : zx_V σ A) (hF : zw_F B σ τ) (hB : ∀ o, B o → zx_sc o) : zx_V τ A ∧ zx_F σ τ := ⟨hV.cg (fun o a b => hF.2 o (fun q => a (hB o q))), zx_F.of hF (fun o q => by have := hB o q; unfold zx_sc at this; omega)⟩
theorem zx_sc147 : ∀ o, zt_A 147 o → zx_sc o := fun o q => by unfold zt_A at q; unfold zx_sc; omega
theorem zx_sc150 : ∀ o, zt_A 150 o → zx_sc o := fun o q => by unfold zt_A at q; unfold zx_sc; omega
theorem c8_madePlain {x : zg_T} {k : Nat} (hV : zx_V σ A) (hk : 4 ≤ k) (hk2 : k ≤ 6) (hw : zt_wd x.1) (hT : zt_V σ 147 x.1 x.2) : zw_Ti l G (d + 5) mX8_madePlain [.ref 0, .int (nI k)] σ (fun y υ => y = zx_mp A.1 x k ∧ zw_F (zt_A 147) σ υ) := by
  obtain ⟨h1, -⟩ := id hV
  have hi : (nI k).toInt = k := nI_toInt (by omega)
  refine zw_enter2 (L := [some _, some _, none]) (by decide) (Nat.le_of_ble_eq_true rfl) rfl ?_
  refine zi_ald0 dX8_madePlain_0 ?_
  refine zi_getR dX8_madePlain_1 flX8_53 rfl (by first | assumption | decide) ?_
  refine zi_ald0 dX8_madePlain_4 ?_
  refine zi_getR dX8_madePlain_5 flX8_12 rfl (by first | assumption | decide) ?_
  refine zi_getR dX8_madePlain_8 flX8_104 rfl (by first | assumption | decide) ?_
  refine zi_cV1i vmX7_makePlain lkX8_167 dX8_madePlain_11 (by first | assumption | decide) (Nat.le_of_ble_eq_true rfl) (c7_makePlain zt_ok147 zg_rul1 (by omega) hT h1.2.2.2.2 hw) ?_
  rintro y1 τ1 ⟨hF1, hE1⟩
  refine zi_ist2 dX8_madePlain_14 (Nat.le_of_ble_eq_true rfl) rfl ?_
  refine zi_ild2 dX8_madePlain_15 ?_
  refine zi_iconst (-1) dX8_madePlain_16 (by decide) ?_
  refine zi_icmp_ne 22 dX8_madePlain_17 (by decide) (fun c17 => ?_) (fun c17 => ?_)
  · obtain ⟨n', w', s', p1, p2, p3, p4, p5⟩ : ∃ n' w' s', zt_pl A.1.2.1 A.1.2.2 60 0 x.1 x.2 = some (n', w', s') ∧ n' ≤ 60 ∧ y1 = nI n' ∧ zt_V τ1 147 w' s' ∧ zt_wd w' := by
      rcases hE1 with ⟨e1, e2⟩ | h
      · exact absurd e1 c17
      · exact h
    have em : zx_mp A.1 x k = if k = 4 then nI n' else if k = 5 then nI (zt_code w') else s' + nI 1 := by unfold zx_mp; rw [p1]
    rw [em]
    subst p3
    refine zi_ild1 dX8_madePlain_22 ?_
    rcases (show k = 4 ∨ k = 5 ∨ k = 6 by omega) with rfl | rfl | rfl
    · refine zi_lookup (off := 25) 48 dX8_madePlain_23 (by decide) (by decide) (by decide) ?_
      refine zi_ild2 dX8_madePlain_48 ?_
      refine zi_iret dX8_madePlain_49 rfl ?_
      exact ⟨_, rfl, rfl, hF1⟩
    · refine zi_lookup (off := 27) 50 dX8_madePlain_23 (by decide) (by decide) (by decide) ?_
      refine zi_ald0 dX8_madePlain_50 ?_
      refine zi_getR dX8_madePlain_51 flX8_53 rfl (by decide) ?_
      refine zi_cV0i vmX7_codeNow lkX8_144 dX8_madePlain_54 (by decide) (Nat.le_of_ble_eq_true rfl) (c7_codeNow zt_ok147 p4) ?_
      rintro _ _ ⟨rfl, rfl⟩
      refine zi_iret dX8_madePlain_57 rfl ?_
      exact ⟨_, rfl, rfl, hF1⟩
    · refine zi_lookup (off := 35) 58 dX8_madePlain_23 (by decide) (by decide) (by decide) ?_
      refine zi_ald0 dX8_madePlain_58 ?_
      refine zi_getR dX8_madePlain_59 flX8_53 rfl (by decide) ?_
      refine zi_getI dX8_madePlain_62 flX8_147 rfl (by decide) ?_
      refine zi_iconst (nI 1) dX8_madePlain_65 (by decide) ?_
      refine zi_iadd dX8_madePlain_66 ?_
      refine zi_iret dX8_madePlain_67 rfl ?_
      exact ⟨_, rfl, by rw [show τ1.1 (0 + 147) 3 = s' from p4.2.2.2.1]; rfl, hF1⟩
  · refine zi_iconst (-1) dX8_madePlain_20 (by decide) ?_
    refine zi_iret dX8_madePlain_21 rfl ?_
    refine ⟨_, rfl, ?_, hF1⟩
    rcases hE1 with ⟨e1, e2⟩ | ⟨n', w', s', p1, p2, p3, p4, p5⟩
    · unfold zx_mp; rw [e2]
    · rw [p3, zn_m1 n' (by omega)] at c17; exact absurd c17 id
end Z26
