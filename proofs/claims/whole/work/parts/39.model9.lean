/-! the model: what is asked -/
theorem zj_f_c {fa go : Nat → Nat} {c : Nat} (h : (zj_f fa go zj_W).2.2 = some c) : c < 1594323 := by
  have := zj_f_min fa go zj_W (0, 0, none)
  rw [show (zj_W.foldl (zj_s fa go) (0, 0, none)).2.2 = some c from h] at this
  rcases this.1 with q | ⟨w, hw, -, rfl⟩
  · cases q
  · have := zj_W_wd w hw
    exact zt_code_small this.2.1 this.2.2
theorem zj_f_0 {fa go : Nat → Nat} : ((zj_f fa go zj_W).2.2 = none) = ((zj_f fa go zj_W).2.1 = 0) := by
  have h1 := zj_f_min fa go zj_W (0, 0, none)
  have h2 := (zj_f_gen fa go zj_W (0, 0, none)).2
  have h2 : (zj_f fa go zj_W).2.1 = zj_W.countP (zj_b fa go) := h2.trans (Nat.zero_add _)
  rw [h2]
  cases hc : (zj_f fa go zj_W).2.2 with
  | none =>
    rw [show (zj_W.foldl (zj_s fa go) (0, 0, none)).2.2 = none from hc] at h1
    refine propext ⟨fun _ => ?_, fun _ => rfl⟩
    rw [List.countP_eq_zero]
    intro w hw
    rw [h1.2 w hw]; decide
  | some c =>
    rw [show (zj_W.foldl (zj_s fa go) (0, 0, none)).2.2 = some c from hc] at h1
    refine propext ⟨fun q => (Option.some_ne_none _ q).elim, fun q => ?_⟩
    rcases h1.1 with r | ⟨w, hw, hb, -⟩
    · cases r
    · rw [List.countP_eq_zero] at q
      exact absurd hb (q w hw)
section Z39
variable {l : Launch} {G : zw_G} {d : Nat} {σ : zw_S} {A : zx_T} {X : zg_X} {w : List Nat} {s : Int32} {fa go : Nat → Nat}
theorem c9_isTree_in (hR : zy_R σ 0 X) {t : Nat} (ht : t < X.1.length) : zw_Ti l G (d + 2) mX9_isTree [.ref 168, .int (nI t)] σ (fun x τ => σ = τ ∧ x = nI 1) := by
  have h8 := hR.1
  refine (c9_isTree hR).mono ?_
  rintro r τ ⟨x, e1, e2, e3⟩
  exact ⟨x, e1, e2, by rw [e3, zx_ix_in (by omega) ht]; rfl⟩
theorem c9_isTree_out (hR : zy_R σ 0 X) {t : Int32} (ht : zn_out t X.1.length) : zw_Ti l G (d + 2) mX9_isTree [.ref 168, .int t] σ (fun x τ => σ = τ ∧ x = nI 0) := by
  have h8 := hR.1
  refine (c9_isTree hR).mono ?_
  rintro r τ ⟨x, e1, e2, e3⟩
  exact ⟨x, e1, e2, by rw [e3, zx_ix_out (by omega) ht]; rfl⟩
theorem c9_isPattern_in {p : Nat} (hp : p < 8) : zw_Ti l G (d + 2) mX9_isPattern [.ref 168, .int (nI p)] σ (fun x τ => σ = τ ∧ x = nI 1) := by
  refine c9_isPattern.mono ?_
  rintro r τ ⟨x, e1, e2, e3⟩
  exact ⟨x, e1, e2, by rw [e3, zx_ix_in (by decide) hp]; rfl⟩
theorem c9_isPattern_out {p : Int32} (hp : zn_out p 8) : zw_Ti l G (d + 2) mX9_isPattern [.ref 168, .int p] σ (fun x τ => σ = τ ∧ x = nI 0) := by
  refine c9_isPattern.mono ?_
  rintro r τ ⟨x, e1, e2, e3⟩
  exact ⟨x, e1, e2, by rw [e3, zx_ix_out (by decide) hp]; rfl⟩
theorem c9_told (hV : zy_V σ A) {k : Int32} : zw_Ti l G (d + 9) mX9_told [.ref 168, .int k] σ (fun x υ => x = zx_told A k ∧ zy_V υ A ∧ zy_F σ υ) := by
  obtain ⟨h1, h2, h3, h4, h5, h6, h7, h8, h9⟩ := id hV
  have hR := h1.2.2.2.2
  have hle := zj_f_le A.1.2.1 A.1.2.2 zj_W
  rw [zj_W_len] at hle
  rcases zn_case k (n := 10) (by decide) with ho | ⟨j, hj, rfl⟩
  · have e : zx_told A k = zx_OU := by unfold zx_told; rw [zx_ix_out (by decide) ho]
    have hi := zn_out_int (by decide) ho
    rw [e]
    refine zw_enter2 (L := [some _, some _]) (by decide) (Nat.le_of_ble_eq_true rfl) rfl ?_
    refine zi_ild1 dX9_told_0 ?_
    refine zi_tableOut 125 dX9_told_1 (by omega) (by decide) ?_
    refine zi_ldc dX9_told_125 kcX9_148 ?_
    refine zi_iret dX9_told_127 rfl ?_
    exact ⟨_, rfl, rfl, hV, zy_F.rf⟩
  · match j, hj with
    | 0, _ =>
      have e : zx_told A (nI 0) = nI A.1.1.length := by unfold zx_told; rw [zx_ix_in (by decide) (by decide)]; try rfl
      rw [e]
      refine zw_enter2 (L := [some _, some _]) (by decide) (Nat.le_of_ble_eq_true rfl) rfl ?_
      refine zi_ild1 dX9_told_0 ?_
      refine zi_tableIn (off := 55) 56 dX9_told_1 (by decide) (by decide) (by decide) (by decide) ?_
      refine zi_ald0 dX9_told_56 ?_
      refine zi_getR dX9_told_57 flX9_7 rfl (by first | assumption | decide) ?_
      refine zi_iconst (nI 0) dX9_told_60 (by decide) ?_
      refine zi_ialdN 0 dX9_told_61 (by first | assumption | decide) rfl (zy_b1 (by omega)) (by decide) ?_
      refine zi_iret dX9_told_62 rfl ?_
      exact ⟨_, rfl, h1.2.2.1, hV, zy_F.rf⟩
    | 1, _ =>
      have e : zx_told A (nI 1) = nI A.2.2.2.1.length := by unfold zx_told; rw [zx_ix_in (by decide) (by decide)]; try rfl
      rw [e]
      refine zw_enter2 (L := [some _, some _]) (by decide) (Nat.le_of_ble_eq_true rfl) rfl ?_
      refine zi_ild1 dX9_told_0 ?_
      refine zi_tableIn (off := 62) 63 dX9_told_1 (by decide) (by decide) (by decide) (by decide) ?_
      refine zi_ald0 dX9_told_63 ?_
      refine zi_getI dX9_told_64 flX9_149 rfl (by first | assumption | decide) ?_
      refine zi_iret dX9_told_67 rfl ?_
      exact ⟨_, rfl, h5.2.2.1, hV, zy_F.rf⟩
    | 2, _ =>
      have e : zx_told A (nI 2) = nI (zj_f A.1.2.1 A.1.2.2 zj_W).1 := by unfold zx_told; rw [zx_ix_in (by decide) (by decide)]; try rfl
      rw [e]
      refine zw_enter2 (L := [some _, some _]) (by decide) (Nat.le_of_ble_eq_true rfl) rfl ?_
      refine zi_ild1 dX9_told_0 ?_
      refine zi_tableIn (off := 67) 68 dX9_told_1 (by decide) (by decide) (by decide) (by decide) ?_
      refine zi_ald0 dX9_told_68 ?_
      refine zi_cV0i vmX9_criticals lkX9_168 dX9_told_69 (by first | assumption | decide) (Nat.le_of_ble_eq_true rfl) (c9_criticals hR) ?_
      rintro _ τ1 ⟨rfl, hS1⟩
      refine zi_iret dX9_told_72 rfl ?_
      exact ⟨_, rfl, rfl, hV.s hS1, hS1.q.f⟩
    | 3, _ =>
      have e : zx_told A (nI 3) = nI (zj_f A.1.2.1 A.1.2.2 zj_W).2.1 := by unfold zx_told; rw [zx_ix_in (by decide) (by decide)]; try rfl
      rw [e]
      refine zw_enter2 (L := [some _, some _]) (by decide) (Nat.le_of_ble_eq_true rfl) rfl ?_
      refine zi_ild1 dX9_told_0 ?_
      refine zi_tableIn (off := 72) 73 dX9_told_1 (by decide) (by decide) (by decide) (by decide) ?_
      refine zi_ald0 dX9_told_73 ?_
      refine zi_cV0i vmX9_bads lkX9_171 dX9_told_74 (by first | assumption | decide) (Nat.le_of_ble_eq_true rfl) (c9_bads hR) ?_
      rintro _ τ1 ⟨rfl, hS1⟩
      refine zi_iret dX9_told_77 rfl ?_
      exact ⟨_, rfl, rfl, hV.s hS1, hS1.q.f⟩
    | 4, _ =>
      have e : zx_told A (nI 4) = zp_oI (zj_f A.1.2.1 A.1.2.2 zj_W).2.2 := by unfold zx_told; rw [zx_ix_in (by decide) (by decide)]; try rfl
      rw [e]
      refine zw_enter2 (L := [some _, some _]) (by decide) (Nat.le_of_ble_eq_true rfl) rfl ?_
      refine zi_ild1 dX9_told_0 ?_
      refine zi_tableIn (off := 77) 78 dX9_told_1 (by decide) (by decide) (by decide) (by decide) ?_
      refine zi_ald0 dX9_told_78 ?_
      refine zi_cV0i vmX9_firstBad lkX9_174 dX9_told_79 (by first | assumption | decide) (Nat.le_of_ble_eq_true rfl) (c9_firstBad hR) ?_
      rintro _ τ1 ⟨rfl, hS1⟩
      refine zi_iret dX9_told_82 rfl ?_
      exact ⟨_, rfl, rfl, hV.s hS1, hS1.q.f⟩
    | 5, _ =>
      have e : zx_told A (nI 5) = if (zj_f A.1.2.1 A.1.2.2 zj_W).2.1 = 0 then nI 1 else nI 0 := by unfold zx_told; rw [zx_ix_in (by decide) (by decide)]; try rfl
      rw [e]
      refine zw_enter2 (L := [some _, some _]) (by decide) (Nat.le_of_ble_eq_true rfl) rfl ?_
      refine zi_ild1 dX9_told_0 ?_
      refine zi_tableIn (off := 82) 83 dX9_told_1 (by decide) (by decide) (by decide) (by decide) ?_
      refine zi_ald0 dX9_told_83 ?_
      refine zi_cV0i vmX9_firstBad lkX9_174 dX9_told_84 (by first | assumption | decide) (Nat.le_of_ble_eq_true rfl) (c9_firstBad hR) ?_
      rintro _ τ1 ⟨rfl, hS1⟩
      refine zi_iconst (-1) dX9_told_87 (by decide) ?_
      refine zi_icmp_ne 95 dX9_told_88 (by decide) (fun c88 => ?_) (fun c88 => ?_)
      · refine zi_iconst (nI 0) dX9_told_95 (by decide) ?_
        refine zi_iret dX9_told_96 rfl ?_
        rw [zp_oI_m1 (fun c hc => by have := zj_f_c hc; omega), zj_f_0] at c88
        refine ⟨_, rfl, ?_, hV.s hS1, hS1.q.f⟩
        first | (rw [if_pos c88]; done) | (rw [if_neg c88]; done)
      · refine zi_iconst (nI 1) dX9_told_91 (by decide) ?_
        refine zi_goto 96 dX9_told_92 (by decide) ?_
        refine zi_iret dX9_told_96 rfl ?_
        rw [zp_oI_m1 (fun c hc => by have := zj_f_c hc; omega), zj_f_0] at c88
        refine ⟨_, rfl, ?_, hV.s hS1, hS1.q.f⟩
        first | (rw [if_pos c88]; done) | (rw [if_neg c88]; done)
    | 6, _ =>
      have e : zx_told A (nI 6) = if zx_own A.1 then nI 1 else nI 0 := by unfold zx_told; rw [zx_ix_in (by decide) (by decide)]; try rfl
      rw [e]
      refine zw_enter2 (L := [some _, some _]) (by decide) (Nat.le_of_ble_eq_true rfl) rfl ?_
      refine zi_ild1 dX9_told_0 ?_
      refine zi_tableIn (off := 96) 97 dX9_told_1 (by decide) (by decide) (by decide) (by decide) ?_
      refine zi_ald0 dX9_told_97 ?_
      refine zi_cV0i vmX9_isOwnDual lkX9_177 dX9_told_98 (by first | assumption | decide) (Nat.le_of_ble_eq_true rfl) (c9_isOwnDual hR) ?_
      rintro _ _ ⟨rfl, rfl⟩
      refine zi_if_eq 108 dX9_told_101 (by decide) (fun c101 => ?_) (fun c101 => ?_)
      · refine zi_iconst (nI 0) dX9_told_108 (by decide) ?_
        refine zi_iret dX9_told_109 rfl ?_
        refine ⟨_, rfl, ?_, hV, zy_F.rf⟩
        cases hb : zx_own A.1 with
        | true =>
          rw [hb] at c101
          first | rfl | exact absurd c101 (by decide)
        | false =>
          rw [hb] at c101
          first | rfl | exact absurd rfl c101
      · refine zi_iconst (nI 1) dX9_told_104 (by decide) ?_
        refine zi_goto 109 dX9_told_105 (by decide) ?_
        refine zi_iret dX9_told_109 rfl ?_
        refine ⟨_, rfl, ?_, hV, zy_F.rf⟩
        cases hb : zx_own A.1 with
        | true =>
          rw [hb] at c101
          first | rfl | exact absurd c101 (by decide)
        | false =>
          rw [hb] at c101
          first | rfl | exact absurd rfl c101
    | 7, _ =>
      have e : zx_told A (nI 7) = nI A.2.2.2.2.2.1.length := by unfold zx_told; rw [zx_ix_in (by decide) (by decide)]; try rfl
      rw [e]
      refine zw_enter2 (L := [some _, some _]) (by decide) (Nat.le_of_ble_eq_true rfl) rfl ?_
      refine zi_ild1 dX9_told_0 ?_
      refine zi_tableIn (off := 109) 110 dX9_told_1 (by decide) (by decide) (by decide) (by decide) ?_
      refine zi_ald0 dX9_told_110 ?_
      refine zi_getI dX9_told_111 flX9_162 rfl (by first | assumption | decide) ?_
      refine zi_iret dX9_told_114 rfl ?_
      exact ⟨_, rfl, h7.2.1, hV, zy_F.rf⟩
    | 8, _ =>
      have e : zx_told A (nI 8) = zp_oI (zb_w A.1.1 A.2.2.2.2.2.1) := by unfold zx_told; rw [zx_ix_in (by decide) (by decide)]; try rfl
      rw [e]
      refine zw_enter2 (L := [some _, some _]) (by decide) (Nat.le_of_ble_eq_true rfl) rfl ?_
      refine zi_ild1 dX9_told_0 ?_
      refine zi_tableIn (off := 114) 115 dX9_told_1 (by decide) (by decide) (by decide) (by decide) ?_
      refine zi_ald0 dX9_told_115 ?_
      refine zi_cV0i vmX9_wrongEntry lkX9_180 dX9_told_116 (by first | assumption | decide) (Nat.le_of_ble_eq_true rfl) (c9_wrongEntry h7 h1) ?_
      rintro _ _ ⟨rfl, rfl⟩
      refine zi_iret dX9_told_119 rfl ?_
      exact ⟨_, rfl, rfl, hV, zy_F.rf⟩
    | 9, _ =>
      have e : zx_told A (nI 9) = nI A.2.1.length := by unfold zx_told; rw [zx_ix_in (by decide) (by decide)]; try rfl
      rw [e]
      refine zw_enter2 (L := [some _, some _]) (by decide) (Nat.le_of_ble_eq_true rfl) rfl ?_
      refine zi_ild1 dX9_told_0 ?_
      refine zi_tableIn (off := 119) 120 dX9_told_1 (by decide) (by decide) (by decide) (by decide) ?_
      refine zi_ald0 dX9_told_120 ?_
      refine zi_getI dX9_told_121 flX9_183 rfl (by first | assumption | decide) ?_
      refine zi_iret dX9_told_124 rfl ?_
      exact ⟨_, rfl, h2.2.1, hV, zy_F.rf⟩
theorem c9_turnedCode (hW : zy_w σ w s) (hw : zt_wd w) : zw_Ti l G (d + 3) mX9_turnedCode [.ref 168] σ (fun x υ => x = nI (zt_code (zm_r w)) ∧ zy_S σ υ) := by
  refine zw_enter2 (L := [some _]) (by decide) (Nat.le_of_ble_eq_true rfl) rfl ?_
  refine zi_ald0 dX9_turnedCode_0 ?_
  refine zi_cV0v vmX9_turn lkX9_186 dX9_turnedCode_1 (by first | assumption | decide) (Nat.le_of_ble_eq_true rfl) (c9_turn hW hw) ?_
  rintro τ1 ⟨hW1, hS1⟩
  refine zi_ald0 dX9_turnedCode_4 ?_
  refine zi_cV0i vmX9_code lkX9_117 dX9_turnedCode_5 (by first | assumption | decide) (Nat.le_of_ble_eq_true rfl) (c9_code hW1) ?_
  rintro _ _ ⟨rfl, rfl⟩
  refine zi_iret dX9_turnedCode_8 rfl ?_
  exact ⟨_, rfl, rfl, hS1⟩
theorem c9_ofPlain {k : Nat} {x : zg_T} (hR : zy_R σ 0 X) (hk : 4 ≤ k) (hk2 : k ≤ 6) (hW : zy_w σ x.1 x.2) (hw : zt_wd x.1) : zw_Ti l G (d + 7) mX9_ofPlain [.ref 168, .int (nI k)] σ (fun y υ => y = zx_mp X x k ∧ zy_S σ υ) := by
  refine zw_enter2 (L := [some _, some _, none]) (by decide) (Nat.le_of_ble_eq_true rfl) rfl ?_
  refine zi_ald0 dX9_ofPlain_0 ?_
  refine zi_cV0i vmX9_makePlain lkX9_114 dX9_ofPlain_1 (by first | assumption | decide) (Nat.le_of_ble_eq_true rfl) (c9_makePlain hW hR.2.2.2.2 hw) ?_
  rintro y1 τ1 ⟨hS1, hE1⟩
  refine zi_ist2 dX9_ofPlain_4 (Nat.le_of_ble_eq_true rfl) rfl ?_
  refine zi_ild2 dX9_ofPlain_5 ?_
  refine zi_iconst (-1) dX9_ofPlain_6 (by decide) ?_
  refine zi_icmp_ne 12 dX9_ofPlain_7 (by decide) (fun c7 => ?_) (fun c7 => ?_)
  · obtain ⟨n', w', s', p1, p2, p3, p4, p5⟩ : ∃ n' w' s', zt_pl X.2.1 X.2.2 60 0 x.1 x.2 = some (n', w', s') ∧ n' ≤ 60 ∧ y1 = nI n' ∧ zy_w τ1 w' s' ∧ zt_wd w' := by
      rcases hE1 with ⟨e1, e2⟩ | h
      · exact absurd e1 c7
      · exact h
    have em : zx_mp X x k = if k = 4 then nI n' else if k = 5 then nI (zt_code w') else s' + nI 1 := by unfold zx_mp; rw [p1]
    rw [em]
    subst p3
    refine zi_ild1 dX9_ofPlain_12 ?_
    refine zi_iconst (nI 4) dX9_ofPlain_13 (by decide) ?_
    refine zi_icmp_ne 21 dX9_ofPlain_14 (by decide) (fun c14 => ?_) (fun c14 => ?_)
    · rw [zn_eq (by omega) (by omega)] at c14
      refine zi_ild1 dX9_ofPlain_21 ?_
      refine zi_iconst (nI 5) dX9_ofPlain_22 (by decide) ?_
      refine zi_icmp_ne 33 dX9_ofPlain_23 (by decide) (fun c23 => ?_) (fun c23 => ?_)
      · rw [zn_eq (by omega) (by omega)] at c23
        refine zi_ald0 dX9_ofPlain_33 ?_
        refine zi_getI dX9_ofPlain_34 flX9_61 rfl (by first | assumption | decide) ?_
        refine zi_iconst (nI 1) dX9_ofPlain_37 (by decide) ?_
        refine zi_iadd dX9_ofPlain_38 ?_
        refine zi_iret dX9_ofPlain_39 rfl ?_
        refine ⟨_, rfl, ?_, hS1⟩
        first
        | (rw [if_pos c14]; done)
        | (rw [if_neg c14, if_pos c23]; done)
        | (rw [if_neg c14, if_neg c23, p4.2.2.2.1]; done)
      · rw [zn_eq (by omega) (by omega)] at c23
        refine zi_ald0 dX9_ofPlain_26 ?_
        refine zi_cV0i vmX9_code lkX9_117 dX9_ofPlain_27 (by first | assumption | decide) (Nat.le_of_ble_eq_true rfl) (c9_code p4) ?_
        rintro _ _ ⟨rfl, rfl⟩
        refine zi_goto 39 dX9_ofPlain_30 (by decide) ?_
        refine zi_iret dX9_ofPlain_39 rfl ?_
        refine ⟨_, rfl, ?_, hS1⟩
        first
        | (rw [if_pos c14]; done)
        | (rw [if_neg c14, if_pos c23]; done)
        | (rw [if_neg c14, if_neg c23, p4.2.2.2.1]; done)
    · rw [zn_eq (by omega) (by omega)] at c14
      refine zi_ild2 dX9_ofPlain_17 ?_
      refine zi_goto 39 dX9_ofPlain_18 (by decide) ?_
      refine zi_iret dX9_ofPlain_39 rfl ?_
      refine ⟨_, rfl, ?_, hS1⟩
      first
      | (rw [if_pos c14]; done)
      | (rw [if_neg c14, if_pos c23]; done)
      | (rw [if_neg c14, if_neg c23, p4.2.2.2.1]; done)
  · refine zi_iconst (-1) dX9_ofPlain_10 (by decide) ?_
    refine zi_iret dX9_ofPlain_11 rfl ?_
    refine ⟨_, rfl, ?_, hS1⟩
    rcases hE1 with ⟨e1, e2⟩ | ⟨n', w', s', p1, p2, p3, p4, p5⟩
    · unfold zx_mp; rw [e2]
    · rw [p3, zn_m1 n' (by omega)] at c7; exact absurd c7 id
theorem c9_tree (hV : zy_V σ A) {t k : Int32} : zw_Ti l G (d + 8) mX9_tree [.ref 168, .int t, .int k] σ (fun x υ => x = zx_tree A t k ∧ zy_V υ A ∧ zy_F σ υ) := by
  obtain ⟨h1, -⟩ := id hV
  have hl8 := h1.1
  rcases zn_case t (n := A.1.1.length) (by omega) with ho | ⟨i, hi, rfl⟩
  · have e : zx_tree A t k = zx_UN := by unfold zx_tree; rw [zx_ix_out (by omega) ho]
    rw [e]
    refine zw_enter2 (L := [some _, some _, some _]) (by decide) (Nat.le_of_ble_eq_true rfl) rfl ?_
    refine zi_ald0 dX9_tree_0 ?_
    refine zi_ild1 dX9_tree_1 ?_
    refine zi_cV1i vmX9_isTree lkX9_165 dX9_tree_2 (by first | assumption | decide) (Nat.le_of_ble_eq_true rfl) (c9_isTree_out h1 ho) ?_
    rintro _ _ ⟨rfl, rfl⟩
    refine zi_if_ne 11 dX9_tree_5 (by decide) (fun c5 => ?_) (fun c5 => ?_)
    · exact absurd rfl c5
    · refine zi_ldc dX9_tree_8 kcX9_189 ?_
      refine zi_iret dX9_tree_10 rfl ?_
      exact ⟨_, rfl, rfl, hV, zy_F.rf⟩
  · obtain ⟨hw, hs⟩ := h1.item hi
    have hwl := hw.2.2
    have hwp := hw.pos
    rcases zn_case k (n := 9) (by decide) with ho | ⟨j, hj, rfl⟩
    · have e : zx_tree A (nI i) k = zx_OU := by unfold zx_tree; rw [zx_ix_in (by omega) hi, zx_ix_out (by decide) ho]
      have hq := zn_out_int (by decide) ho
      rw [e]
      refine zw_enter2 (L := [some _, some _, some _]) (by decide) (Nat.le_of_ble_eq_true rfl) rfl ?_
      refine zi_ald0 dX9_tree_0 ?_
      refine zi_ild1 dX9_tree_1 ?_
      refine zi_cV1i vmX9_isTree lkX9_165 dX9_tree_2 (by first | assumption | decide) (Nat.le_of_ble_eq_true rfl) (c9_isTree_in h1 hi) ?_
      rintro _ _ ⟨rfl, rfl⟩
      refine zi_if_ne 11 dX9_tree_5 (by decide) (fun c5 => ?_) (fun c5 => ?_)
      · refine zi_ald0 dX9_tree_11 ?_
        refine zi_ild1 dX9_tree_12 ?_
        refine zi_cV1v vmX9_openTree lkX9_190 dX9_tree_13 (by first | assumption | decide) (Nat.le_of_ble_eq_true rfl) (c9_openTree h1 hi) ?_
        rintro τ1 ⟨hW1, hS1⟩
        refine zi_ild2 dX9_tree_16 ?_
        refine zi_tableOut 115 dX9_tree_17 (by omega) (by decide) ?_
        refine zi_ldc dX9_tree_115 kcX9_148 ?_
        refine zi_iret dX9_tree_117 rfl ?_
        exact ⟨_, rfl, rfl, hV.s hS1, hS1.q.f⟩
      · exact absurd c5 (by decide)
    · match j, hj with
      | 0, _ =>
        have e : zx_tree A (nI i) (nI 0) = nI (zt_code (A.1.1.getD i zg_d).1) := by unfold zx_tree; rw [zx_ix_in (by omega) hi, zx_ix_in (by decide) (by decide)]; try rfl
        rw [e]
        refine zw_enter2 (L := [some _, some _, some _]) (by decide) (Nat.le_of_ble_eq_true rfl) rfl ?_
        refine zi_ald0 dX9_tree_0 ?_
        refine zi_ild1 dX9_tree_1 ?_
        refine zi_cV1i vmX9_isTree lkX9_165 dX9_tree_2 (by first | assumption | decide) (Nat.le_of_ble_eq_true rfl) (c9_isTree_in h1 hi) ?_
        rintro _ _ ⟨rfl, rfl⟩
        refine zi_if_ne 11 dX9_tree_5 (by decide) (fun c5 => ?_) (fun c5 => ?_)
        · refine zi_ald0 dX9_tree_11 ?_
          refine zi_ild1 dX9_tree_12 ?_
          refine zi_cV1v vmX9_openTree lkX9_190 dX9_tree_13 (by first | assumption | decide) (Nat.le_of_ble_eq_true rfl) (c9_openTree h1 hi) ?_
          rintro τ1 ⟨hW1, hS1⟩
          refine zi_ild2 dX9_tree_16 ?_
          refine zi_tableIn (off := 51) 68 dX9_tree_17 (by decide) (by decide) (by decide) (by decide) ?_
          refine zi_ald0 dX9_tree_68 ?_
          refine zi_getR dX9_tree_69 flX9_7 rfl (by first | assumption | decide) ?_
          refine zi_iconst (nI 1) dX9_tree_72 (by decide) ?_
          refine zi_ild1 dX9_tree_73 ?_
          refine zi_iadd dX9_tree_74 ?_
          refine zi_ialdN (1 + i) dX9_tree_75 (by first | assumption | decide) (nI_add _ _) (zy_b1 (by omega)) (by decide) ?_
          refine zi_iret dX9_tree_76 rfl ?_
          exact ⟨_, rfl, (h1.cg hS1.w).c0 hi, hV.s hS1, hS1.q.f⟩
        · exact absurd c5 (by decide)
      | 1, _ =>
        have e : zx_tree A (nI i) (nI 1) = (A.1.1.getD i zg_d).2 + nI 1 := by unfold zx_tree; rw [zx_ix_in (by omega) hi, zx_ix_in (by decide) (by decide)]; try rfl
        rw [e]
        refine zw_enter2 (L := [some _, some _, some _]) (by decide) (Nat.le_of_ble_eq_true rfl) rfl ?_
        refine zi_ald0 dX9_tree_0 ?_
        refine zi_ild1 dX9_tree_1 ?_
        refine zi_cV1i vmX9_isTree lkX9_165 dX9_tree_2 (by first | assumption | decide) (Nat.le_of_ble_eq_true rfl) (c9_isTree_in h1 hi) ?_
        rintro _ _ ⟨rfl, rfl⟩
        refine zi_if_ne 11 dX9_tree_5 (by decide) (fun c5 => ?_) (fun c5 => ?_)
        · refine zi_ald0 dX9_tree_11 ?_
          refine zi_ild1 dX9_tree_12 ?_
          refine zi_cV1v vmX9_openTree lkX9_190 dX9_tree_13 (by first | assumption | decide) (Nat.le_of_ble_eq_true rfl) (c9_openTree h1 hi) ?_
          rintro τ1 ⟨hW1, hS1⟩
          refine zi_ild2 dX9_tree_16 ?_
          refine zi_tableIn (off := 60) 77 dX9_tree_17 (by decide) (by decide) (by decide) (by decide) ?_
          refine zi_ald0 dX9_tree_77 ?_
          refine zi_getR dX9_tree_78 flX9_7 rfl (by first | assumption | decide) ?_
          refine zi_bipush (nI 9) dX9_tree_81 (by decide) ?_
          refine zi_ild1 dX9_tree_83 ?_
          refine zi_iadd dX9_tree_84 ?_
          refine zi_ialdN (9 + i) dX9_tree_85 (by first | assumption | decide) (nI_add _ _) (zy_b1 (by omega)) (by decide) ?_
          rw [(h1.cg hS1.w).s0 hi]
          refine zi_iconst (nI 1) dX9_tree_86 (by decide) ?_
          refine zi_iadd dX9_tree_87 ?_
          refine zi_iret dX9_tree_88 rfl ?_
          exact ⟨_, rfl, rfl, hV.s hS1, hS1.q.f⟩
        · exact absurd c5 (by decide)
      | 2, _ =>
        have e : zx_tree A (nI i) (nI 2) = nI (((A.1.1.getD i zg_d).1.length - 1) / 2) := by unfold zx_tree; rw [zx_ix_in (by omega) hi, zx_ix_in (by decide) (by decide)]; try rfl
        rw [e]
        refine zw_enter2 (L := [some _, some _, some _]) (by decide) (Nat.le_of_ble_eq_true rfl) rfl ?_
        refine zi_ald0 dX9_tree_0 ?_
        refine zi_ild1 dX9_tree_1 ?_
        refine zi_cV1i vmX9_isTree lkX9_165 dX9_tree_2 (by first | assumption | decide) (Nat.le_of_ble_eq_true rfl) (c9_isTree_in h1 hi) ?_
        rintro _ _ ⟨rfl, rfl⟩
        refine zi_if_ne 11 dX9_tree_5 (by decide) (fun c5 => ?_) (fun c5 => ?_)
        · refine zi_ald0 dX9_tree_11 ?_
          refine zi_ild1 dX9_tree_12 ?_
          refine zi_cV1v vmX9_openTree lkX9_190 dX9_tree_13 (by first | assumption | decide) (Nat.le_of_ble_eq_true rfl) (c9_openTree h1 hi) ?_
          rintro τ1 ⟨hW1, hS1⟩
          refine zi_ild2 dX9_tree_16 ?_
          refine zi_tableIn (off := 72) 89 dX9_tree_17 (by decide) (by decide) (by decide) (by decide) ?_
          refine zi_ald0 dX9_tree_89 ?_
          refine zi_cV0i vmX9_nodes lkX9_193 dX9_tree_90 (by first | assumption | decide) (Nat.le_of_ble_eq_true rfl) (c9_nodes hW1 hw) ?_
          rintro _ _ ⟨rfl, rfl⟩
          refine zi_iret dX9_tree_93 rfl ?_
          exact ⟨_, rfl, rfl, hV.s hS1, hS1.q.f⟩
        · exact absurd c5 (by decide)
      | 3, _ =>
        have e : zx_tree A (nI i) (nI 3) = nI (zt_sp A.1.2.1 (A.1.1.getD i zg_d).1).length := by unfold zx_tree; rw [zx_ix_in (by omega) hi, zx_ix_in (by decide) (by decide)]; try rfl
        rw [e]
        refine zw_enter2 (L := [some _, some _, some _]) (by decide) (Nat.le_of_ble_eq_true rfl) rfl ?_
        refine zi_ald0 dX9_tree_0 ?_
        refine zi_ild1 dX9_tree_1 ?_
        refine zi_cV1i vmX9_isTree lkX9_165 dX9_tree_2 (by first | assumption | decide) (Nat.le_of_ble_eq_true rfl) (c9_isTree_in h1 hi) ?_
        rintro _ _ ⟨rfl, rfl⟩
        refine zi_if_ne 11 dX9_tree_5 (by decide) (fun c5 => ?_) (fun c5 => ?_)
        · refine zi_ald0 dX9_tree_11 ?_
          refine zi_ild1 dX9_tree_12 ?_
          refine zi_cV1v vmX9_openTree lkX9_190 dX9_tree_13 (by first | assumption | decide) (Nat.le_of_ble_eq_true rfl) (c9_openTree h1 hi) ?_
          rintro τ1 ⟨hW1, hS1⟩
          refine zi_ild2 dX9_tree_16 ?_
          refine zi_tableIn (off := 77) 94 dX9_tree_17 (by decide) (by decide) (by decide) (by decide) ?_
          refine zi_ald0 dX9_tree_94 ?_
          refine zi_cV0i vmX9_places lkX9_106 dX9_tree_95 (by first | assumption | decide) (Nat.le_of_ble_eq_true rfl) (c9_places hW1 hw.1 (h1.cg hS1.w).2.2.2.2) ?_
          rintro _ _ ⟨rfl, rfl⟩
          refine zi_iret dX9_tree_98 rfl ?_
          exact ⟨_, rfl, rfl, hV.s hS1, hS1.q.f⟩
        · exact absurd c5 (by decide)
      | 4, _ =>
        have e : zx_tree A (nI i) (nI 4) = zx_mp A.1 (A.1.1.getD i zg_d) 4 := by unfold zx_tree; rw [zx_ix_in (by omega) hi, zx_ix_in (by decide) (by decide)]; try rfl
        rw [e]
        refine zw_enter2 (L := [some _, some _, some _]) (by decide) (Nat.le_of_ble_eq_true rfl) rfl ?_
        refine zi_ald0 dX9_tree_0 ?_
        refine zi_ild1 dX9_tree_1 ?_
        refine zi_cV1i vmX9_isTree lkX9_165 dX9_tree_2 (by first | assumption | decide) (Nat.le_of_ble_eq_true rfl) (c9_isTree_in h1 hi) ?_
        rintro _ _ ⟨rfl, rfl⟩
        refine zi_if_ne 11 dX9_tree_5 (by decide) (fun c5 => ?_) (fun c5 => ?_)
        · refine zi_ald0 dX9_tree_11 ?_
          refine zi_ild1 dX9_tree_12 ?_
          refine zi_cV1v vmX9_openTree lkX9_190 dX9_tree_13 (by first | assumption | decide) (Nat.le_of_ble_eq_true rfl) (c9_openTree h1 hi) ?_
          rintro τ1 ⟨hW1, hS1⟩
          refine zi_ild2 dX9_tree_16 ?_
          refine zi_tableIn (off := 82) 99 dX9_tree_17 (by decide) (by decide) (by decide) (by decide) ?_
          refine zi_ald0 dX9_tree_99 ?_
          refine zi_ild2 dX9_tree_100 ?_
          refine zi_cV1i vmX9_ofPlain lkX9_196 dX9_tree_101 (by first | assumption | decide) (Nat.le_of_ble_eq_true rfl) (c9_ofPlain (x := A.1.1.getD i zg_d) (h1.cg hS1.w) (by decide) (by decide) hW1 hw) ?_
          rintro _ τ2 ⟨rfl, hS2⟩
          refine zi_iret dX9_tree_104 rfl ?_
          exact ⟨_, rfl, rfl, hV.s (hS1.tr hS2), (hS1.tr hS2).q.f⟩
        · exact absurd c5 (by decide)
      | 5, _ =>
        have e : zx_tree A (nI i) (nI 5) = zx_mp A.1 (A.1.1.getD i zg_d) 5 := by unfold zx_tree; rw [zx_ix_in (by omega) hi, zx_ix_in (by decide) (by decide)]; try rfl
        rw [e]
        refine zw_enter2 (L := [some _, some _, some _]) (by decide) (Nat.le_of_ble_eq_true rfl) rfl ?_
        refine zi_ald0 dX9_tree_0 ?_
        refine zi_ild1 dX9_tree_1 ?_
        refine zi_cV1i vmX9_isTree lkX9_165 dX9_tree_2 (by first | assumption | decide) (Nat.le_of_ble_eq_true rfl) (c9_isTree_in h1 hi) ?_
        rintro _ _ ⟨rfl, rfl⟩
        refine zi_if_ne 11 dX9_tree_5 (by decide) (fun c5 => ?_) (fun c5 => ?_)
        · refine zi_ald0 dX9_tree_11 ?_
          refine zi_ild1 dX9_tree_12 ?_
          refine zi_cV1v vmX9_openTree lkX9_190 dX9_tree_13 (by first | assumption | decide) (Nat.le_of_ble_eq_true rfl) (c9_openTree h1 hi) ?_
          rintro τ1 ⟨hW1, hS1⟩
          refine zi_ild2 dX9_tree_16 ?_
          refine zi_tableIn (off := 82) 99 dX9_tree_17 (by decide) (by decide) (by decide) (by decide) ?_
          refine zi_ald0 dX9_tree_99 ?_
          refine zi_ild2 dX9_tree_100 ?_
          refine zi_cV1i vmX9_ofPlain lkX9_196 dX9_tree_101 (by first | assumption | decide) (Nat.le_of_ble_eq_true rfl) (c9_ofPlain (x := A.1.1.getD i zg_d) (h1.cg hS1.w) (by decide) (by decide) hW1 hw) ?_
          rintro _ τ2 ⟨rfl, hS2⟩
          refine zi_iret dX9_tree_104 rfl ?_
          exact ⟨_, rfl, rfl, hV.s (hS1.tr hS2), (hS1.tr hS2).q.f⟩
        · exact absurd c5 (by decide)
      | 6, _ =>
        have e : zx_tree A (nI i) (nI 6) = zx_mp A.1 (A.1.1.getD i zg_d) 6 := by unfold zx_tree; rw [zx_ix_in (by omega) hi, zx_ix_in (by decide) (by decide)]; try rfl
        rw [e]
        refine zw_enter2 (L := [some _, some _, some _]) (by decide) (Nat.le_of_ble_eq_true rfl) rfl ?_
        refine zi_ald0 dX9_tree_0 ?_
        refine zi_ild1 dX9_tree_1 ?_
        refine zi_cV1i vmX9_isTree lkX9_165 dX9_tree_2 (by first | assumption | decide) (Nat.le_of_ble_eq_true rfl) (c9_isTree_in h1 hi) ?_
        rintro _ _ ⟨rfl, rfl⟩
        refine zi_if_ne 11 dX9_tree_5 (by decide) (fun c5 => ?_) (fun c5 => ?_)
        · refine zi_ald0 dX9_tree_11 ?_
          refine zi_ild1 dX9_tree_12 ?_
          refine zi_cV1v vmX9_openTree lkX9_190 dX9_tree_13 (by first | assumption | decide) (Nat.le_of_ble_eq_true rfl) (c9_openTree h1 hi) ?_
          rintro τ1 ⟨hW1, hS1⟩
          refine zi_ild2 dX9_tree_16 ?_
          refine zi_tableIn (off := 82) 99 dX9_tree_17 (by decide) (by decide) (by decide) (by decide) ?_
          refine zi_ald0 dX9_tree_99 ?_
          refine zi_ild2 dX9_tree_100 ?_
          refine zi_cV1i vmX9_ofPlain lkX9_196 dX9_tree_101 (by first | assumption | decide) (Nat.le_of_ble_eq_true rfl) (c9_ofPlain (x := A.1.1.getD i zg_d) (h1.cg hS1.w) (by decide) (by decide) hW1 hw) ?_
          rintro _ τ2 ⟨rfl, hS2⟩
          refine zi_iret dX9_tree_104 rfl ?_
          exact ⟨_, rfl, rfl, hV.s (hS1.tr hS2), (hS1.tr hS2).q.f⟩
        · exact absurd c5 (by decide)
      | 7, _ =>
        have e : zx_tree A (nI i) (nI 7) = nI (zt_code (zm_r (A.1.1.getD i zg_d).1)) := by unfold zx_tree; rw [zx_ix_in (by omega) hi, zx_ix_in (by decide) (by decide)]; try rfl
        rw [e]
        refine zw_enter2 (L := [some _, some _, some _]) (by decide) (Nat.le_of_ble_eq_true rfl) rfl ?_
        refine zi_ald0 dX9_tree_0 ?_
        refine zi_ild1 dX9_tree_1 ?_
        refine zi_cV1i vmX9_isTree lkX9_165 dX9_tree_2 (by first | assumption | decide) (Nat.le_of_ble_eq_true rfl) (c9_isTree_in h1 hi) ?_
        rintro _ _ ⟨rfl, rfl⟩
        refine zi_if_ne 11 dX9_tree_5 (by decide) (fun c5 => ?_) (fun c5 => ?_)
        · refine zi_ald0 dX9_tree_11 ?_
          refine zi_ild1 dX9_tree_12 ?_
          refine zi_cV1v vmX9_openTree lkX9_190 dX9_tree_13 (by first | assumption | decide) (Nat.le_of_ble_eq_true rfl) (c9_openTree h1 hi) ?_
          rintro τ1 ⟨hW1, hS1⟩
          refine zi_ild2 dX9_tree_16 ?_
          refine zi_tableIn (off := 88) 105 dX9_tree_17 (by decide) (by decide) (by decide) (by decide) ?_
          refine zi_ald0 dX9_tree_105 ?_
          refine zi_cV0i vmX9_turnedCode lkX9_199 dX9_tree_106 (by first | assumption | decide) (Nat.le_of_ble_eq_true rfl) (c9_turnedCode hW1 hw) ?_
          rintro _ τ2 ⟨rfl, hS2⟩
          refine zi_iret dX9_tree_109 rfl ?_
          exact ⟨_, rfl, rfl, hV.s (hS1.tr hS2), (hS1.tr hS2).q.f⟩
        · exact absurd c5 (by decide)
      | 8, _ =>
        have e : zx_tree A (nI i) (nI 8) = nI (zh_m (A.1.1.getD i zg_d).1 (A.1.1.getD i zg_d).1.length) := by unfold zx_tree; rw [zx_ix_in (by omega) hi, zx_ix_in (by decide) (by decide)]; try rfl
        rw [e]
        refine zw_enter2 (L := [some _, some _, some _]) (by decide) (Nat.le_of_ble_eq_true rfl) rfl ?_
        refine zi_ald0 dX9_tree_0 ?_
        refine zi_ild1 dX9_tree_1 ?_
        refine zi_cV1i vmX9_isTree lkX9_165 dX9_tree_2 (by first | assumption | decide) (Nat.le_of_ble_eq_true rfl) (c9_isTree_in h1 hi) ?_
        rintro _ _ ⟨rfl, rfl⟩
        refine zi_if_ne 11 dX9_tree_5 (by decide) (fun c5 => ?_) (fun c5 => ?_)
        · refine zi_ald0 dX9_tree_11 ?_
          refine zi_ild1 dX9_tree_12 ?_
          refine zi_cV1v vmX9_openTree lkX9_190 dX9_tree_13 (by first | assumption | decide) (Nat.le_of_ble_eq_true rfl) (c9_openTree h1 hi) ?_
          rintro τ1 ⟨hW1, hS1⟩
          refine zi_ild2 dX9_tree_16 ?_
          refine zi_tableIn (off := 93) 110 dX9_tree_17 (by decide) (by decide) (by decide) (by decide) ?_
          refine zi_ald0 dX9_tree_110 ?_
          refine zi_cV0i vmX9_height lkX9_202 dX9_tree_111 (by first | assumption | decide) (Nat.le_of_ble_eq_true rfl) (c9_height hW1 hw.1) ?_
          rintro _ _ ⟨rfl, rfl⟩
          refine zi_iret dX9_tree_114 rfl ?_
          exact ⟨_, rfl, rfl, hV.s hS1, hS1.q.f⟩
        · exact absurd c5 (by decide)
theorem c9_pattern (hV : zy_V σ A) {p k : Int32} : zw_Ti l G (d + 3) mX9_pattern [.ref 168, .int p, .int k] σ (fun x υ => x = zx_pattern A p k ∧ zy_V υ A ∧ zy_F σ υ) := by
  obtain ⟨h1, -⟩ := id hV
  have hR := h1.2.2.2.2
  rcases zn_case p (n := 8) (by decide) with ho | ⟨i, hi, rfl⟩
  · have e : zx_pattern A p k = zx_UN := by unfold zx_pattern; rw [zx_ix_out (by decide) ho]
    rw [e]
    refine zw_enter2 (L := [some _, some _, some _]) (by decide) (Nat.le_of_ble_eq_true rfl) rfl ?_
    refine zi_ald0 dX9_pattern_0 ?_
    refine zi_ild1 dX9_pattern_1 ?_
    refine zi_cV1i vmX9_isPattern lkX9_205 dX9_pattern_2 (by first | assumption | decide) (Nat.le_of_ble_eq_true rfl) (c9_isPattern_out ho) ?_
    rintro _ _ ⟨rfl, rfl⟩
    refine zi_if_ne 11 dX9_pattern_5 (by decide) (fun c5 => ?_) (fun c5 => ?_)
    · exact absurd rfl c5
    · refine zi_ldc dX9_pattern_8 kcX9_189 ?_
      refine zi_iret dX9_pattern_10 rfl ?_
      exact ⟨_, rfl, rfl, hV, zy_F.rf⟩
  · rcases zn_case k (n := 3) (by decide) with ho | ⟨j, hj, rfl⟩
    · have e : zx_pattern A (nI i) k = zx_OU := by unfold zx_pattern; rw [zx_ix_in (by decide) hi, zx_ix_out (by decide) ho]
      have hq := zn_out_int (by decide) ho
      rw [e]
      refine zw_enter2 (L := [some _, some _, some _]) (by decide) (Nat.le_of_ble_eq_true rfl) rfl ?_
      refine zi_ald0 dX9_pattern_0 ?_
      refine zi_ild1 dX9_pattern_1 ?_
      refine zi_cV1i vmX9_isPattern lkX9_205 dX9_pattern_2 (by first | assumption | decide) (Nat.le_of_ble_eq_true rfl) (c9_isPattern_in hi) ?_
      rintro _ _ ⟨rfl, rfl⟩
      refine zi_if_ne 11 dX9_pattern_5 (by decide) (fun c5 => ?_) (fun c5 => ?_)
      · refine zi_ild2 dX9_pattern_11 ?_
        refine zi_tableOut 66 dX9_pattern_12 (by omega) (by decide) ?_
        refine zi_ldc dX9_pattern_66 kcX9_148 ?_
        refine zi_iret dX9_pattern_68 rfl ?_
        exact ⟨_, rfl, rfl, hV, zy_F.rf⟩
      · exact absurd c5 (by decide)
    · match j, hj with
      | 0, _ =>
        have e : zx_pattern A (nI i) (nI 0) = nI (A.1.2.1 i) := by unfold zx_pattern; rw [zx_ix_in (by decide) hi, zx_ix_in (by decide) (by decide)]; try rfl
        rw [e]
        refine zw_enter2 (L := [some _, some _, some _]) (by decide) (Nat.le_of_ble_eq_true rfl) rfl ?_
        refine zi_ald0 dX9_pattern_0 ?_
        refine zi_ild1 dX9_pattern_1 ?_
        refine zi_cV1i vmX9_isPattern lkX9_205 dX9_pattern_2 (by first | assumption | decide) (Nat.le_of_ble_eq_true rfl) (c9_isPattern_in hi) ?_
        rintro _ _ ⟨rfl, rfl⟩
        refine zi_if_ne 11 dX9_pattern_5 (by decide) (fun c5 => ?_) (fun c5 => ?_)
        · refine zi_ild2 dX9_pattern_11 ?_
          refine zi_tableIn (off := 28) 40 dX9_pattern_12 (by decide) (by decide) (by decide) (by decide) ?_
          refine zi_ald0 dX9_pattern_40 ?_
          refine zi_getR dX9_pattern_41 flX9_7 rfl (by first | assumption | decide) ?_
          refine zi_bipush (nI 17) dX9_pattern_44 (by decide) ?_
          refine zi_ild1 dX9_pattern_46 ?_
          refine zi_iadd dX9_pattern_47 ?_
          refine zi_ialdN (17 + i) dX9_pattern_48 (by first | assumption | decide) (nI_add _ _) (zy_b1 (by omega)) (by decide) ?_
          refine zi_iret dX9_pattern_49 rfl ?_
          exact ⟨_, rfl, hR.f0 hi, hV, zy_F.rf⟩
        · exact absurd c5 (by decide)
      | 1, _ =>
        have e : zx_pattern A (nI i) (nI 1) = zp_gI (A.1.2.2 i) := by unfold zx_pattern; rw [zx_ix_in (by decide) hi, zx_ix_in (by decide) (by decide)]; try rfl
        rw [e]
        refine zw_enter2 (L := [some _, some _, some _]) (by decide) (Nat.le_of_ble_eq_true rfl) rfl ?_
        refine zi_ald0 dX9_pattern_0 ?_
        refine zi_ild1 dX9_pattern_1 ?_
        refine zi_cV1i vmX9_isPattern lkX9_205 dX9_pattern_2 (by first | assumption | decide) (Nat.le_of_ble_eq_true rfl) (c9_isPattern_in hi) ?_
        rintro _ _ ⟨rfl, rfl⟩
        refine zi_if_ne 11 dX9_pattern_5 (by decide) (fun c5 => ?_) (fun c5 => ?_)
        · refine zi_ild2 dX9_pattern_11 ?_
          refine zi_tableIn (off := 38) 50 dX9_pattern_12 (by decide) (by decide) (by decide) (by decide) ?_
          refine zi_ald0 dX9_pattern_50 ?_
          refine zi_getR dX9_pattern_51 flX9_7 rfl (by first | assumption | decide) ?_
          refine zi_bipush (nI 25) dX9_pattern_54 (by decide) ?_
          refine zi_ild1 dX9_pattern_56 ?_
          refine zi_iadd dX9_pattern_57 ?_
          refine zi_ialdN (25 + i) dX9_pattern_58 (by first | assumption | decide) (nI_add _ _) (zy_b1 (by omega)) (by decide) ?_
          refine zi_iret dX9_pattern_59 rfl ?_
          exact ⟨_, rfl, hR.g0 hi, hV, zy_F.rf⟩
        · exact absurd c5 (by decide)
      | 2, _ =>
        have e : zx_pattern A (nI i) (nI 2) = zp_gI (zr_mk A.1.2.2 i 8) := by unfold zx_pattern; rw [zx_ix_in (by decide) hi, zx_ix_in (by decide) (by decide)]; try rfl
        rw [e]
        refine zw_enter2 (L := [some _, some _, some _]) (by decide) (Nat.le_of_ble_eq_true rfl) rfl ?_
        refine zi_ald0 dX9_pattern_0 ?_
        refine zi_ild1 dX9_pattern_1 ?_
        refine zi_cV1i vmX9_isPattern lkX9_205 dX9_pattern_2 (by first | assumption | decide) (Nat.le_of_ble_eq_true rfl) (c9_isPattern_in hi) ?_
        rintro _ _ ⟨rfl, rfl⟩
        refine zi_if_ne 11 dX9_pattern_5 (by decide) (fun c5 => ?_) (fun c5 => ?_)
        · refine zi_ild2 dX9_pattern_11 ?_
          refine zi_tableIn (off := 48) 60 dX9_pattern_12 (by decide) (by decide) (by decide) (by decide) ?_
          refine zi_ald0 dX9_pattern_60 ?_
          refine zi_ild1 dX9_pattern_61 ?_
          refine zi_cV1i vmX9_comesFrom lkX9_142 dX9_pattern_62 (by first | assumption | decide) (Nat.le_of_ble_eq_true rfl) (c9_comesFrom hR hi) ?_
          rintro _ _ ⟨rfl, rfl⟩
          refine zi_iret dX9_pattern_65 rfl ?_
          exact ⟨_, rfl, rfl, hV, zy_F.rf⟩
        · exact absurd c5 (by decide)
theorem zy_mp_ok {x : zg_T} {y : Int32} {υ : zw_S} (hs : zg_s x) (h : (y = -1 ∧ zt_pl fa go 60 0 x.1 x.2 = none) ∨ ∃ n' w' s', zt_pl fa go 60 0 x.1 x.2 = some (n', w', s') ∧ n' ≤ 60 ∧ y = nI n' ∧ zy_w υ w' s' ∧ zt_wd w') : zy_ok (zt_pl fa go 60 0 x.1 x.2) := by
  intro z hz
  rcases h with ⟨-, h⟩ | ⟨n', w', s', h, -, -, -, h5⟩
  · rw [h] at hz; cases hz
  · have h2 := hz
    rw [h] at hz; cases hz
    exact ⟨zg_s_pl 60 0 x.1 x.2 hs _ h2, h5⟩
def zy_sm (P Q : Option (Nat × List Nat × Int32)) : Int32 := match P, Q with
  | some x, some y => if x.2.2 = y.2.2 ∧ zt_code x.2.1 = zt_code y.2.1 then nI 1 else nI 0
  | _, _ => -1
theorem l9_same82 {x1 x2 : Int32} {P Q : Option (Nat × List Nat × Int32)} (hP : zy_ok P) (hQ : zy_ok Q) : zw_W l G (d + 7) mX9_same 82 [some (.ref 168), some (.int x1), some (.int x2), some (.int (zy_e P)), some (.int (zy_e Q))] [] σ (fun x τ => ∃ y, x = some (.int y) ∧ σ = τ ∧ y = zy_sm P Q) := by
  cases P with
  | none =>
    refine zi_ild3 dX9_same_82 ?_
    refine zi_iconst (-1) dX9_same_83 (by decide) ?_
    refine zi_icmp_eq 93 dX9_same_84 (by decide) (fun c84 => ?_) (fun c84 => ?_)
    · refine zi_iconst (-1) dX9_same_93 (by decide) ?_
      refine zi_iret dX9_same_94 rfl ?_
      exact ⟨_, rfl, rfl, by unfold zy_sm; rfl⟩
    · exact absurd rfl c84
  | some x =>
    have hx := hP x rfl
    cases Q with
    | none =>
      refine zi_ild3 dX9_same_82 ?_
      refine zi_iconst (-1) dX9_same_83 (by decide) ?_
      refine zi_icmp_eq 93 dX9_same_84 (by decide) (fun c84 => ?_) (fun c84 => ?_)
      · exact absurd c84 (zy_e_ne hx.1 hx.2)
      · refine zi_ild4 dX9_same_87 ?_
        refine zi_iconst (-1) dX9_same_89 (by decide) ?_
        refine zi_icmp_ne 95 dX9_same_90 (by decide) (fun c90 => ?_) (fun c90 => ?_)
        · exact absurd rfl c90
        · refine zi_iconst (-1) dX9_same_93 (by decide) ?_
          refine zi_iret dX9_same_94 rfl ?_
          exact ⟨_, rfl, rfl, by unfold zy_sm; rfl⟩
    | some y =>
      have hy := hQ y rfl
      refine zi_ild3 dX9_same_82 ?_
      refine zi_iconst (-1) dX9_same_83 (by decide) ?_
      refine zi_icmp_eq 93 dX9_same_84 (by decide) (fun c84 => ?_) (fun c84 => ?_)
      · exact absurd c84 (zy_e_ne hx.1 hx.2)
      · refine zi_ild4 dX9_same_87 ?_
        refine zi_iconst (-1) dX9_same_89 (by decide) ?_
        refine zi_icmp_ne 95 dX9_same_90 (by decide) (fun c90 => ?_) (fun c90 => ?_)
        · refine zi_ild3 dX9_same_95 ?_
          refine zi_ild4 dX9_same_96 ?_
          refine zi_icmp_ne 105 dX9_same_98 (by decide) (fun c98 => ?_) (fun c98 => ?_)
          · refine zi_iconst (nI 0) dX9_same_105 (by decide) ?_
            refine zi_iret dX9_same_106 rfl ?_
            rw [zy_e_eq hx.1 hx.2 hy.1 hy.2] at c98
            refine ⟨_, rfl, rfl, ?_⟩
            show _ = if x.2.2 = y.2.2 ∧ zt_code x.2.1 = zt_code y.2.1 then nI 1 else nI 0
            first | (rw [if_pos c98]; done) | (rw [if_neg c98]; done)
          · refine zi_iconst (nI 1) dX9_same_101 (by decide) ?_
            refine zi_goto 106 dX9_same_102 (by decide) ?_
            refine zi_iret dX9_same_106 rfl ?_
            rw [zy_e_eq hx.1 hx.2 hy.1 hy.2] at c98
            refine ⟨_, rfl, rfl, ?_⟩
            show _ = if x.2.2 = y.2.2 ∧ zt_code x.2.1 = zt_code y.2.1 then nI 1 else nI 0
            first | (rw [if_pos c98]; done) | (rw [if_neg c98]; done)
        · exact absurd c90 (zy_e_ne hy.1 hy.2)
theorem l9_same50 {P : Option (Nat × List Nat × Int32)} {x1 : Int32} {j : Nat} {x4 : Option Value} (hP : zy_ok P) (hR : zy_R σ 0 X) (hj : j < X.1.length) : zw_W l G (d + 7) mX9_same 50 [some (.ref 168), some (.int x1), some (.int (nI j)), some (.int (zy_e P)), x4] [] σ (fun x υ => ∃ y, x = some (.int y) ∧ zy_S σ υ ∧ y = zy_sm P (zt_pl X.2.1 X.2.2 60 0 (X.1.getD j zg_d).1 (X.1.getD j zg_d).2)) := by
  obtain ⟨hw, hs⟩ := hR.item hj
  refine zi_ald0 dX9_same_50 ?_
  refine zi_ild2 dX9_same_51 ?_
  refine zi_cV1v vmX9_openTree lkX9_190 dX9_same_52 (by first | assumption | decide) (Nat.le_of_ble_eq_true rfl) (c9_openTree hR hj) ?_
  rintro τ1 ⟨hW1, hS1⟩
  refine zi_ald0 dX9_same_55 ?_
  refine zi_cV0i vmX9_makePlain lkX9_114 dX9_same_56 (by first | assumption | decide) (Nat.le_of_ble_eq_true rfl) (c9_makePlain hW1 (hR.cg hS1.w).2.2.2.2 hw) ?_
  rintro y2 τ2 ⟨hS2, hE2⟩
  replace hS2 := hS1.tr hS2
  have hQ := zy_mp_ok hs hE2
  refine zi_iconst (-1) dX9_same_59 (by decide) ?_
  refine zi_icmp_ne 67 dX9_same_60 (by decide) (fun c60 => ?_) (fun c60 => ?_)
  · obtain ⟨n', w', s', eB, -, -, hW3, -⟩ : ∃ n' w' s', zt_pl X.2.1 X.2.2 60 0 (X.1.getD j zg_d).1 (X.1.getD j zg_d).2 = some (n', w', s') ∧ n' ≤ 60 ∧ y2 = nI n' ∧ zy_w τ2 w' s' ∧ zt_wd w' := by
      rcases hE2 with ⟨h, -⟩ | h
      · exact absurd h c60
      · exact h
    refine zi_iconst (nI 3) dX9_same_67 (by decide) ?_
    refine zi_ald0 dX9_same_68 ?_
    refine zi_cV0i vmX9_code lkX9_117 dX9_same_69 (by first | assumption | decide) (Nat.le_of_ble_eq_true rfl) (c9_code hW3) ?_
    rintro _ _ ⟨rfl, rfl⟩
    refine zi_imul dX9_same_72 ?_
    refine zi_ald0 dX9_same_73 ?_
    refine zi_getI dX9_same_74 flX9_61 rfl (by first | assumption | decide) ?_
    rw [hW3.2.2.2.1]
    refine zi_iadd dX9_same_77 ?_
    refine zi_iconst (nI 1) dX9_same_78 (by decide) ?_
    refine zi_iadd dX9_same_79 ?_
    refine zi_ist4 dX9_same_80 (Nat.le_of_ble_eq_true rfl) rfl ?_
    rw [eB] at hQ ⊢
    refine zw_W.mono (l9_same82 (σ := τ2) hP hQ) ?_
    rintro x υ ⟨y, e1, rfl, e2⟩
    exact ⟨y, e1, hS2, e2⟩
  · have eB : zt_pl X.2.1 X.2.2 60 0 (X.1.getD j zg_d).1 (X.1.getD j zg_d).2 = none := by
      rcases hE2 with ⟨-, h⟩ | ⟨n', w', s', h, h1, h2, -, h5⟩
      · exact h
      · rw [h2, zn_m1 n' (by omega)] at c60; exact absurd c60 id
    refine zi_iconst (-1) dX9_same_63 (by decide) ?_
    refine zi_goto 80 dX9_same_64 (by decide) ?_
    refine zi_ist4 dX9_same_80 (Nat.le_of_ble_eq_true rfl) rfl ?_
    rw [eB] at hQ ⊢
    refine zw_W.mono (l9_same82 (σ := τ2) hP hQ) ?_
    rintro x υ ⟨y, e1, rfl, e2⟩
    exact ⟨y, e1, hS2, e2⟩
theorem c9_same (hV : zy_V σ A) {t u : Int32} : zw_Ti l G (d + 7) mX9_same [.ref 168, .int t, .int u] σ (fun x υ => x = zx_same A t u ∧ zy_V υ A ∧ zy_F σ υ) := by
  obtain ⟨h1, -⟩ := id hV
  have hl8 := h1.1
  rcases zn_case t (n := A.1.1.length) (by omega) with ho | ⟨i, hi, rfl⟩
  · have e : zx_same A t u = zx_UN := by unfold zx_same; rw [zx_ix_out (by omega) ho]
    rw [e]
    refine zw_enter2 (L := [some _, some _, some _, none, none]) (by decide) (Nat.le_of_ble_eq_true rfl) rfl ?_
    refine zi_ald0 dX9_same_0 ?_
    refine zi_ild1 dX9_same_1 ?_
    refine zi_cV1i vmX9_isTree lkX9_165 dX9_same_2 (by first | assumption | decide) (Nat.le_of_ble_eq_true rfl) (c9_isTree_out h1 ho) ?_
    rintro _ _ ⟨rfl, rfl⟩
    refine zi_if_eq 16 dX9_same_5 (by decide) (fun c5 => ?_) (fun c5 => ?_)
    · refine zi_ldc dX9_same_16 kcX9_189 ?_
      refine zi_iret dX9_same_18 rfl ?_
      exact ⟨_, rfl, rfl, hV, zy_F.rf⟩
    · exact absurd rfl c5
  · rcases zn_case u (n := A.1.1.length) (by omega) with ho | ⟨j, hj, rfl⟩
    · have e : zx_same A (nI i) u = zx_UN := by unfold zx_same; rw [zx_ix_in (by omega) hi, zx_ix_out (by omega) ho]
      rw [e]
      refine zw_enter2 (L := [some _, some _, some _, none, none]) (by decide) (Nat.le_of_ble_eq_true rfl) rfl ?_
      refine zi_ald0 dX9_same_0 ?_
      refine zi_ild1 dX9_same_1 ?_
      refine zi_cV1i vmX9_isTree lkX9_165 dX9_same_2 (by first | assumption | decide) (Nat.le_of_ble_eq_true rfl) (c9_isTree_in h1 hi) ?_
      rintro _ _ ⟨rfl, rfl⟩
      refine zi_if_eq 16 dX9_same_5 (by decide) (fun c5 => ?_) (fun c5 => ?_)
      · exact absurd c5 (by decide)
      · refine zi_ald0 dX9_same_8 ?_
        refine zi_ild2 dX9_same_9 ?_
        refine zi_cV1i vmX9_isTree lkX9_165 dX9_same_10 (by first | assumption | decide) (Nat.le_of_ble_eq_true rfl) (c9_isTree_out h1 ho) ?_
        rintro _ _ ⟨rfl, rfl⟩
        refine zi_if_ne 19 dX9_same_13 (by decide) (fun c13 => ?_) (fun c13 => ?_)
        · exact absurd rfl c13
        · refine zi_ldc dX9_same_16 kcX9_189 ?_
          refine zi_iret dX9_same_18 rfl ?_
          exact ⟨_, rfl, rfl, hV, zy_F.rf⟩
    · obtain ⟨hw, hs⟩ := h1.item hi
      have e : zx_same A (nI i) (nI j) = zy_sm (zt_pl A.1.2.1 A.1.2.2 60 0 (A.1.1.getD i zg_d).1 (A.1.1.getD i zg_d).2) (zt_pl A.1.2.1 A.1.2.2 60 0 (A.1.1.getD j zg_d).1 (A.1.1.getD j zg_d).2) := by unfold zx_same; rw [zx_ix_in (by omega) hi, zx_ix_in (by omega) hj]; rfl
      rw [e]
      refine zw_enter2 (L := [some _, some _, some _, none, none]) (by decide) (Nat.le_of_ble_eq_true rfl) rfl ?_
      refine zi_ald0 dX9_same_0 ?_
      refine zi_ild1 dX9_same_1 ?_
      refine zi_cV1i vmX9_isTree lkX9_165 dX9_same_2 (by first | assumption | decide) (Nat.le_of_ble_eq_true rfl) (c9_isTree_in h1 hi) ?_
      rintro _ _ ⟨rfl, rfl⟩
      refine zi_if_eq 16 dX9_same_5 (by decide) (fun c5 => ?_) (fun c5 => ?_)
      · exact absurd c5 (by decide)
      · refine zi_ald0 dX9_same_8 ?_
        refine zi_ild2 dX9_same_9 ?_
        refine zi_cV1i vmX9_isTree lkX9_165 dX9_same_10 (by first | assumption | decide) (Nat.le_of_ble_eq_true rfl) (c9_isTree_in h1 hj) ?_
        rintro _ _ ⟨rfl, rfl⟩
        refine zi_if_ne 19 dX9_same_13 (by decide) (fun c13 => ?_) (fun c13 => ?_)
        · refine zi_ald0 dX9_same_19 ?_
          refine zi_ild1 dX9_same_20 ?_
          refine zi_cV1v vmX9_openTree lkX9_190 dX9_same_21 (by first | assumption | decide) (Nat.le_of_ble_eq_true rfl) (c9_openTree h1 hi) ?_
          rintro τ1 ⟨hW1, hS1⟩
          refine zi_ald0 dX9_same_24 ?_
          refine zi_cV0i vmX9_makePlain lkX9_114 dX9_same_25 (by first | assumption | decide) (Nat.le_of_ble_eq_true rfl) (c9_makePlain hW1 (h1.cg hS1.w).2.2.2.2 hw) ?_
          rintro y2 τ2 ⟨hS2, hE2⟩
          replace hS2 := hS1.tr hS2
          have hQ := zy_mp_ok hs hE2
          refine zi_iconst (-1) dX9_same_28 (by decide) ?_
          refine zi_icmp_ne 36 dX9_same_29 (by decide) (fun c29 => ?_) (fun c29 => ?_)
          · obtain ⟨n', w', s', eB, -, -, hW3, -⟩ : ∃ n' w' s', zt_pl A.1.2.1 A.1.2.2 60 0 (A.1.1.getD i zg_d).1 (A.1.1.getD i zg_d).2 = some (n', w', s') ∧ n' ≤ 60 ∧ y2 = nI n' ∧ zy_w τ2 w' s' ∧ zt_wd w' := by
              rcases hE2 with ⟨h, -⟩ | h
              · exact absurd h c29
              · exact h
            refine zi_iconst (nI 3) dX9_same_36 (by decide) ?_
            refine zi_ald0 dX9_same_37 ?_
            refine zi_cV0i vmX9_code lkX9_117 dX9_same_38 (by first | assumption | decide) (Nat.le_of_ble_eq_true rfl) (c9_code hW3) ?_
            rintro _ _ ⟨rfl, rfl⟩
            refine zi_imul dX9_same_41 ?_
            refine zi_ald0 dX9_same_42 ?_
            refine zi_getI dX9_same_43 flX9_61 rfl (by first | assumption | decide) ?_
            rw [hW3.2.2.2.1]
            refine zi_iadd dX9_same_46 ?_
            refine zi_iconst (nI 1) dX9_same_47 (by decide) ?_
            refine zi_iadd dX9_same_48 ?_
            refine zi_ist3 dX9_same_49 (Nat.le_of_ble_eq_true rfl) rfl ?_
            have := l9_same50 (l := l) (G := G) (d := d) (x1 := nI i) (x4 := none) hQ (h1.cg hS2.w) hj
            rw [eB] at this ⊢
            refine zw_W.mono this ?_
            rintro x υ ⟨y, e1, e2, e3⟩
            exact ⟨y, e1, e3, hV.s (hS2.tr e2), (hS2.tr e2).q.f⟩
          · have eB : zt_pl A.1.2.1 A.1.2.2 60 0 (A.1.1.getD i zg_d).1 (A.1.1.getD i zg_d).2 = none := by
              rcases hE2 with ⟨-, h⟩ | ⟨n', w', s', h, h1, h2, -, h5⟩
              · exact h
              · rw [h2, zn_m1 n' (by omega)] at c29; exact absurd c29 id
            refine zi_iconst (-1) dX9_same_32 (by decide) ?_
            refine zi_goto 49 dX9_same_33 (by decide) ?_
            refine zi_ist3 dX9_same_49 (Nat.le_of_ble_eq_true rfl) rfl ?_
            have := l9_same50 (l := l) (G := G) (d := d) (x1 := nI i) (x4 := none) hQ (h1.cg hS2.w) hj
            rw [eB] at this ⊢
            refine zw_W.mono this ?_
            rintro x υ ⟨y, e1, e2, e3⟩
            exact ⟨y, e1, e3, hV.s (hS2.tr e2), (hS2.tr e2).q.f⟩
        · exact absurd c13 (by decide)
theorem c9_count (hV : zy_V σ A) {n : Int32} : zw_Tl l G (d + 3) mX9_count [.ref 168, .int n] σ (fun x υ => x = zx_count A n ∧ zy_V υ A ∧ zy_F σ υ) := by
  have hR := hV.1.2.2.2.2
  rcases zx_cov (n := n) with ho | ⟨k, hk1, hk7, rfl⟩
  · have e : zx_count A n = -1000000002 := by
      unfold zx_count
      rcases zx_ix_cov ho with q | q <;> (rw [q]; try rfl)
    rw [e]
    refine zw_enter2 (L := [some _, some _]) (by decide) (Nat.le_of_ble_eq_true rfl) rfl ?_
    refine zi_ild1 dX9_count_0 ?_
    refine zi_iconst (nI 1) dX9_count_1 (by decide) ?_
    refine zi_bipush (nI 7) dX9_count_2 (by decide) ?_
    refine zi_cS3i smX9_in lkX9_54 dX9_count_4 (Nat.le_of_ble_eq_true rfl) (c9_in_out ho) ?_
    rintro _ _ ⟨rfl, rfl⟩
    refine zi_if_ne 14 dX9_count_7 (by decide) (fun c7 => ?_) (fun c7 => ?_)
    · exact absurd rfl c7
    · refine zi_ldc2 dX9_count_10 kcX9_137 ?_
      refine zi_lret dX9_count_13 rfl ?_
      exact ⟨_, rfl, rfl, hV, zy_F.rf⟩
  · have e : zx_count A (nI k) = zk_P A.1.2.1 k := by
      unfold zx_count
      rw [zx_ix_in (by decide) (by omega)]
      obtain ⟨m, rfl⟩ : ∃ m, k = m + 1 := ⟨k - 1, by omega⟩
      rfl
    rw [e]
    refine zw_enter2 (L := [some _, some _]) (by decide) (Nat.le_of_ble_eq_true rfl) rfl ?_
    refine zi_ild1 dX9_count_0 ?_
    refine zi_iconst (nI 1) dX9_count_1 (by decide) ?_
    refine zi_bipush (nI 7) dX9_count_2 (by decide) ?_
    refine zi_cS3i smX9_in lkX9_54 dX9_count_4 (Nat.le_of_ble_eq_true rfl) (c9_in_in hk1 hk7 (by decide)) ?_
    rintro _ _ ⟨rfl, rfl⟩
    refine zi_if_ne 14 dX9_count_7 (by decide) (fun c7 => ?_) (fun c7 => ?_)
    · refine zi_ald0 dX9_count_14 ?_
      refine zi_cV0v vmX9_countPlains lkX9_127 dX9_count_15 (by first | assumption | decide) (Nat.le_of_ble_eq_true rfl) (c9_countPlains hR) ?_
      rintro τ1 ⟨hP1, hF1⟩
      refine zi_ald0 dX9_count_18 ?_
      refine zi_ild1 dX9_count_19 ?_
      refine zi_cV1l vmX9_plainOf lkX9_133 dX9_count_20 (by first | assumption | decide) (Nat.le_of_ble_eq_true rfl) (c9_plainOf hP1 hk1 hk7) ?_
      rintro _ _ ⟨rfl, rfl⟩
      refine zi_lret dX9_count_23 rfl ?_
      exact ⟨_, rfl, rfl, hV.l hF1, (zy_ql hF1).f⟩
    · exact absurd c7 (by decide)
theorem c9_undoneBy (hV : zy_V σ A) {n : Int32} : zw_Tl l G (d + 4) mX9_undoneBy [.ref 168, .int n] σ (fun x υ => x = zx_undone A n ∧ zy_V υ A ∧ zy_F σ υ) := by
  have hR := hV.1.2.2.2.2
  rcases zx_cov (n := n) with ho | ⟨k, hk1, hk7, rfl⟩
  · have e : zx_undone A n = -1000000002 := by
      unfold zx_undone
      rcases zx_ix_cov ho with q | q <;> (rw [q]; try rfl)
    rw [e]
    refine zw_enter2 (L := [some _, some _]) (by decide) (Nat.le_of_ble_eq_true rfl) rfl ?_
    refine zi_ild1 dX9_undoneBy_0 ?_
    refine zi_iconst (nI 1) dX9_undoneBy_1 (by decide) ?_
    refine zi_bipush (nI 7) dX9_undoneBy_2 (by decide) ?_
    refine zi_cS3i smX9_in lkX9_54 dX9_undoneBy_4 (Nat.le_of_ble_eq_true rfl) (c9_in_out ho) ?_
    rintro _ _ ⟨rfl, rfl⟩
    refine zi_if_ne 14 dX9_undoneBy_7 (by decide) (fun c7 => ?_) (fun c7 => ?_)
    · exact absurd rfl c7
    · refine zi_ldc2 dX9_undoneBy_10 kcX9_137 ?_
      refine zi_lret dX9_undoneBy_13 rfl ?_
      exact ⟨_, rfl, rfl, hV, zy_F.rf⟩
  · have e : zx_undone A (nI k) = zk_un (zk_P A.1.2.1) 6 k := by
      unfold zx_undone
      rw [zx_ix_in (by decide) (by omega)]
      obtain ⟨m, rfl⟩ : ∃ m, k = m + 1 := ⟨k - 1, by omega⟩
      rfl
    rw [e]
    refine zw_enter2 (L := [some _, some _]) (by decide) (Nat.le_of_ble_eq_true rfl) rfl ?_
    refine zi_ild1 dX9_undoneBy_0 ?_
    refine zi_iconst (nI 1) dX9_undoneBy_1 (by decide) ?_
    refine zi_bipush (nI 7) dX9_undoneBy_2 (by decide) ?_
    refine zi_cS3i smX9_in lkX9_54 dX9_undoneBy_4 (Nat.le_of_ble_eq_true rfl) (c9_in_in hk1 hk7 (by decide)) ?_
    rintro _ _ ⟨rfl, rfl⟩
    refine zi_if_ne 14 dX9_undoneBy_7 (by decide) (fun c7 => ?_) (fun c7 => ?_)
    · refine zi_ald0 dX9_undoneBy_14 ?_
      refine zi_cV0v vmX9_undoSeries lkX9_139 dX9_undoneBy_15 (by first | assumption | decide) (Nat.le_of_ble_eq_true rfl) (c9_undoSeries hR) ?_
      rintro τ1 ⟨hP1, hF1⟩
      refine zi_ald0 dX9_undoneBy_18 ?_
      refine zi_getR dX9_undoneBy_19 flX9_42 rfl (by first | assumption | decide) ?_
      refine zi_ild1 dX9_undoneBy_22 ?_
      refine zi_laldN k dX9_undoneBy_23 (by first | assumption | decide) rfl (zy_c10 (by omega)) (by decide) ?_
      refine zi_lret dX9_undoneBy_24 rfl ?_
      exact ⟨_, rfl, hP1 k (by omega), hV.l hF1, (zy_ql hF1).f⟩
    · exact absurd c7 (by decide)
end Z39
