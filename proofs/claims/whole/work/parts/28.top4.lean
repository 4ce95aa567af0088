/-! the class's own methods: deeds -/
theorem zg_s_mul {w u v : List Nat} {s t : Int32} (h1 : zg_s (w, s)) (h2 : zg_s (u, t)) (n1 : s ≠ nI 0) (n2 : t ≠ nI 0) : zg_s (v, s * t) := by
  rcases h1 with a | a | ⟨a, -⟩
  · have a : s = nI 1 := a
    subst a
    rcases h2 with b | b | ⟨b, -⟩
    · have b : t = nI 1 := b
      subst b; exact Or.inl (show nI 1 * nI 1 = nI 1 by decide)
    · have b : t = -1 := b
      subst b; exact Or.inr (Or.inl (show nI 1 * (-1) = (-1 : Int32) by decide))
    · exact absurd b n2
  · have a : s = -1 := a
    subst a
    rcases h2 with b | b | ⟨b, -⟩
    · have b : t = nI 1 := b
      subst b; exact Or.inr (Or.inl (show (-1 : Int32) * nI 1 = -1 by decide))
    · have b : t = -1 := b
      subst b; exact Or.inl (show (-1 : Int32) * (-1) = nI 1 by decide)
    · exact absurd b n2
  · exact absurd a n1
theorem zt_bi_leaf (fa : Nat → Nat) (k : Nat) : zt_bi fa [0] k = false := by
  unfold zt_bi zt_pat
  have : ([0] : List Nat).getD (k / 2) 0 = 0 := by
    rcases Nat.lt_or_ge (k / 2) 1 with q | q
    · rw [show k / 2 = 0 by omega]; rfl
    · exact zl_getD_no q
  rw [if_pos this]; rfl
theorem zg_s_st {fa go : Nat → Nat} {w : List Nat} {s : Int32} {k : Nat} (h : zg_s (w, s)) (hb : zt_bi fa w k = true) : zg_s (zt_st fa go w s k) := by
  unfold zt_st
  split
  · exact Or.inr (Or.inr ⟨rfl, rfl⟩)
  · rcases h with a | a | ⟨a, b⟩
    · have a : s = nI 1 := a
      subst a
      split
      · exact Or.inr (Or.inl (show -nI 1 = (-1 : Int32) by decide))
      · exact Or.inl rfl
    · have a : s = -1 := a
      subst a
      split
      · exact Or.inl (show -(-1 : Int32) = nI 1 by decide)
      · exact Or.inr (Or.inl rfl)
    · have b : w = [0] := b
      rw [b, zt_bi_leaf] at hb
      exact absurd hb (by decide)
theorem zg_s_pl {fa go : Nat → Nat} : ∀ (f n : Nat) (w : List Nat) (s : Int32), zg_s (w, s) → ∀ x, zt_pl fa go f n w s = some x → zg_s x.2
  | 0, n, w, s, h, x, hx => by
    cases hh : (zt_sp fa w)[0]? with
    | none =>
      rw [zt_pl_nil hh] at hx
      cases hx; exact h
    | some k => rw [zt_pl_0 hh] at hx; cases hx
  | f + 1, n, w, s, h, x, hx => by
    cases hh : (zt_sp fa w)[0]? with
    | none =>
      rw [zt_pl_nil hh] at hx
      cases hx; exact h
    | some k =>
      rw [zt_pl_s hh] at hx
      exact zg_s_pl f (n + 1) _ _ (zg_s_st h (zt_sp_head hh)) x hx
theorem zp_at_mem {l : List Nat} {k : Int32} {j : Nat} (h : zp_at l k = some j) : j ∈ l := by
  unfold zp_at at h
  split at h
  · cases h
  · exact List.mem_of_getElem? h
theorem zt_lv_lt {w : List Nat} {j : Nat} (h : j ∈ zt_lv w) : j < w.length ∧ w.getD j 0 = 0 := by
  obtain ⟨a, b⟩ := List.mem_filter.mp h
  exact ⟨List.mem_range.mp a, by simpa using b⟩
theorem zt_graft_wd {w u : List Nat} {j : Nat} (hw : zt_wd w) (hu : zt_wd u) (hj : j < w.length) (h0 : w.getD j 0 = 0) (hl : w.length + u.length - 1 ≤ 13) : zt_wd (w.take j ++ u ++ w.drop (j + 1)) := by
  refine ⟨?_, ?_, ?_⟩
  · rw [List.append_assoc]
    refine zt_rd_repl (w.take j) (w.drop j) _ 1 (by rw [List.take_append_drop]; exact hw.1) (fun m hm => ?_)
    rw [zl_drop hj, h0] at hm
    cases m with
    | zero => exact hm.elim
    | succ m =>
      have hm : zt_rd m (w.drop (j + 1)) := hm
      have := zt_rd_app _ _ _ _ hu.1 hm
      rwa [Nat.add_comm] at this
  · intro x hx
    rcases List.mem_append.mp hx with hx | hx
    · rcases List.mem_append.mp hx with hx | hx
      · exact hw.2.1 x (List.mem_of_mem_take hx)
      · exact hu.2.1 x hx
    · exact hw.2.1 x (List.mem_of_mem_drop hx)
  · rw [List.length_append, List.length_append, List.length_take, List.length_drop]
    have := hu.pos
    omega
section Z28
variable {l : Launch} {G : zw_G} {d : Nat} {σ : zw_S} {A : zx_T}
theorem zx_scq (o : Nat) (h : zx_sc o) : ¬ zg_A 1 o := by unfold zx_sc at h; unfold zg_A; omega
theorem zx_Fq {τ : zw_S} (h : zw_F zq_A σ τ) : zx_F σ τ := zx_F.of h (fun o q => by unfold zq_A at q; omega)
theorem zx_Fg {τ : zw_S} (h : zw_F (zg_A 1) σ τ) : zx_F σ τ := zx_F.of h (fun o q => by unfold zg_A at q; omega)
theorem c8_graft (hV : zx_V σ A) {t i u : Int32} : zw_Ti l G (d + 5) mX8_graft [.ref 0, .int t, .int i, .int u] σ (fun x υ => x = (zx_graft A t i u).1 ∧ zx_V υ (zx_graft A t i u).2 ∧ zx_F σ υ) := by
  obtain ⟨h1, -⟩ := id hV
  have hl8 := h1.1
  rcases zn_case t (n := A.1.1.length) (by omega) with ho | ⟨a, ha, rfl⟩
  · have e : zx_graft A t i u = (zx_UN, A) := by unfold zx_graft; rw [zx_ix_out (by omega) ho]
    rw [e]
    refine zw_enter2 (L := [some _, some _, some _, some _, none]) (by decide) (Nat.le_of_ble_eq_true rfl) rfl ?_
    refine zi_ald0 dX8_graft_0 ?_
    refine zi_getR dX8_graft_1 flX8_12 rfl (by first | assumption | decide) ?_
    refine zi_ild1 dX8_graft_4 ?_
    refine zi_cV1i vmX6_has lkX8_135 dX8_graft_5 (by first | assumption | decide) (Nat.le_of_ble_eq_true rfl) (c6_has_out zg_ok1 h1 ho) ?_
    rintro _ _ ⟨rfl, rfl⟩
    refine zi_if_eq 22 dX8_graft_8 (by decide) (fun c8 => ?_) (fun c8 => ?_)
    · refine zi_ldc dX8_graft_22 kcX8_139 ?_
      refine zi_iret dX8_graft_24 rfl ?_
      exact ⟨_, rfl, rfl, hV, zx_F.rf⟩
    · exact absurd rfl c8
  · rcases zn_case u (n := A.1.1.length) (by omega) with ho | ⟨b, hb, rfl⟩
    · have e : zx_graft A (nI a) i u = (zx_UN, A) := by unfold zx_graft; rw [zx_ix_in (by omega) ha, zx_ix_out (by omega) ho]
      rw [e]
      refine zw_enter2 (L := [some _, some _, some _, some _, none]) (by decide) (Nat.le_of_ble_eq_true rfl) rfl ?_
      refine zi_ald0 dX8_graft_0 ?_
      refine zi_getR dX8_graft_1 flX8_12 rfl (by first | assumption | decide) ?_
      refine zi_ild1 dX8_graft_4 ?_
      refine zi_cV1i vmX6_has lkX8_135 dX8_graft_5 (by first | assumption | decide) (Nat.le_of_ble_eq_true rfl) (c6_has zg_ok1 h1 ha) ?_
      rintro _ _ ⟨rfl, rfl⟩
      refine zi_if_eq 22 dX8_graft_8 (by decide) (fun c8 => ?_) (fun c8 => ?_)
      · exact absurd c8 (by decide)
      · refine zi_ald0 dX8_graft_11 ?_
        refine zi_getR dX8_graft_12 flX8_12 rfl (by first | assumption | decide) ?_
        refine zi_ild3 dX8_graft_15 ?_
        refine zi_cV1i vmX6_has lkX8_135 dX8_graft_16 (by first | assumption | decide) (Nat.le_of_ble_eq_true rfl) (c6_has_out zg_ok1 h1 ho) ?_
        rintro _ _ ⟨rfl, rfl⟩
        refine zi_if_ne 25 dX8_graft_19 (by decide) (fun c19 => ?_) (fun c19 => ?_)
        · exact absurd rfl c19
        · refine zi_ldc dX8_graft_22 kcX8_139 ?_
          refine zi_iret dX8_graft_24 rfl ?_
          exact ⟨_, rfl, rfl, hV, zx_F.rf⟩
    · obtain ⟨hw, hs⟩ := h1.item ha
      obtain ⟨hw2, hs2⟩ := h1.item hb
      obtain ⟨n1, e1, -⟩ := hw.odd
      obtain ⟨n2, e2, -⟩ := hw2.odd
      generalize hX : A.1.1.getD a zg_d = X at hw hs e1
      generalize hY : A.1.1.getD b zg_d = Y at hw2 hs2 e2
      have e : zx_graft A (nI a) i (nI b) = match zp_at (zt_lv X.1) i with
        | none => (zx_UN, A)
        | some j => if A.1.1.length = 8 then (zx_FU, A) else
          if (X.1.length - 1) / 2 + (Y.1.length - 1) / 2 ≤ 6 ∧ X.2 ≠ nI 0 ∧ Y.2 ≠ nI 0 then
            (nI A.1.1.length, zx_dd A (A.1.1 ++ [(X.1.take j ++ Y.1 ++ X.1.drop (j + 1), X.2 * Y.2)], A.1.2))
          else (zx_NO, A) := by unfold zx_graft; rw [zx_ix_in (by omega) ha, zx_ix_in (by omega) hb, ← hX, ← hY]; try rfl
      rw [e]
      refine zw_enter2 (L := [some _, some _, some _, some _, none]) (by decide) (Nat.le_of_ble_eq_true rfl) rfl ?_
      refine zi_ald0 dX8_graft_0 ?_
      refine zi_getR dX8_graft_1 flX8_12 rfl (by first | assumption | decide) ?_
      refine zi_ild1 dX8_graft_4 ?_
      refine zi_cV1i vmX6_has lkX8_135 dX8_graft_5 (by first | assumption | decide) (Nat.le_of_ble_eq_true rfl) (c6_has zg_ok1 h1 ha) ?_
      rintro _ _ ⟨rfl, rfl⟩
      refine zi_if_eq 22 dX8_graft_8 (by decide) (fun c8 => ?_) (fun c8 => ?_)
      · exact absurd c8 (by decide)
      · refine zi_ald0 dX8_graft_11 ?_
        refine zi_getR dX8_graft_12 flX8_12 rfl (by first | assumption | decide) ?_
        refine zi_ild3 dX8_graft_15 ?_
        refine zi_cV1i vmX6_has lkX8_135 dX8_graft_16 (by first | assumption | decide) (Nat.le_of_ble_eq_true rfl) (c6_has zg_ok1 h1 hb) ?_
        rintro _ _ ⟨rfl, rfl⟩
        refine zi_if_ne 25 dX8_graft_19 (by decide) (fun c19 => ?_) (fun c19 => ?_)
        · refine zi_ald0 dX8_graft_25 ?_
          refine zi_getR dX8_graft_26 flX8_12 rfl (by first | assumption | decide) ?_
          refine zi_ild1 dX8_graft_29 ?_
          refine zi_ald0 dX8_graft_30 ?_
          refine zi_getR dX8_graft_31 flX8_53 rfl (by first | assumption | decide) ?_
          refine zi_cV2v vmX6_lend lkX8_140 dX8_graft_34 (by first | assumption | decide) (Nat.le_of_ble_eq_true rfl) (c6_lend zg_ok1 zt_ok147 h1 ha) ?_
          rintro τ1 ⟨hT1, hF1⟩
          rw [hX] at hT1
          obtain ⟨hV1, hx1⟩ := hV.sc hF1 zx_sc147
          refine zi_ald0 dX8_graft_37 ?_
          refine zi_getR dX8_graft_38 flX8_12 rfl (by first | assumption | decide) ?_
          refine zi_ild3 dX8_graft_41 ?_
          refine zi_ald0 dX8_graft_42 ?_
          refine zi_getR dX8_graft_43 flX8_57 rfl (by first | assumption | decide) ?_
          refine zi_cV2v vmX6_lend lkX8_140 dX8_graft_46 (by first | assumption | decide) (Nat.le_of_ble_eq_true rfl) (c6_lend zg_ok1 zt_ok150 hV1.1 hb) ?_
          rintro τ2 ⟨hT2, hF2⟩
          rw [hY] at hT2
          obtain ⟨hV2, hx2⟩ := hV1.sc hF2 zx_sc150
          have hT12 := hT1.fr hF2 (by unfold zt_A; omega) (by unfold zt_A; omega)
          have hx12 := hx1.tr hx2
          clear hT1 hF1 hV1
          refine zi_ald0 dX8_graft_49 ?_
          refine zi_getR dX8_graft_50 flX8_53 rfl (by first | assumption | decide) ?_
          refine zi_ild2 dX8_graft_53 ?_
          refine zi_cV1i vmX7_leafAt lkX8_204 dX8_graft_54 (by first | assumption | decide) (Nat.le_of_ble_eq_true rfl) (c7_leafAt zt_ok147 hT12) ?_
          rintro _ _ ⟨rfl, rfl⟩
          have hlf : ∀ k, zp_at (zt_lv X.1) i = some k → k < X.1.length ∧ X.1.getD k 0 = 0 := fun k hk => zt_lv_lt (zp_at_mem hk)
          have hXl := hw.2.2
          refine zi_ist4 dX8_graft_57 (Nat.le_of_ble_eq_true rfl) rfl ?_
          refine zi_ild4 dX8_graft_59 ?_
          refine zi_iconst (-1) dX8_graft_61 (by decide) ?_
          refine zi_icmp_ne 68 dX8_graft_62 (by decide) (fun c62 => ?_) (fun c62 => ?_)
          · rw [zp_oI_m1 (fun k hk => by have := (hlf k hk).1; omega)] at c62
            obtain ⟨j, hj⟩ := Option.ne_none_iff_exists'.mp c62
            obtain ⟨hjl, hj0⟩ := hlf j hj
            rw [hj, zp_oI_some]
            simp only
            refine zi_ald0 dX8_graft_68 ?_
            refine zi_getR dX8_graft_69 flX8_12 rfl (by first | assumption | decide) ?_
            refine zi_cV0i vmX6_isFull lkX8_77 dX8_graft_72 (by first | assumption | decide) (Nat.le_of_ble_eq_true rfl) (c6_isFull zg_ok1 hV2.1) ?_
            rintro _ _ ⟨rfl, rfl⟩
            refine zi_if_eq 81 dX8_graft_75 (by decide) (fun c75 => ?_) (fun c75 => ?_)
            · have e8 : A.1.1.length < 8 := by
                by_cases q : 8 ≤ A.1.1.length
                · rw [if_pos q] at c75; exact absurd c75 (by decide)
                · omega
              rw [if_neg (show ¬ A.1.1.length = 8 by omega)]
              refine zi_ald0 dX8_graft_81 ?_
              refine zi_getR dX8_graft_82 flX8_53 rfl (by first | assumption | decide) ?_
              refine zi_ald0 dX8_graft_85 ?_
              refine zi_getR dX8_graft_86 flX8_57 rfl (by first | assumption | decide) ?_
              refine zi_cV1i vmX7_hasRoomFor lkX8_207 dX8_graft_89 (by first | assumption | decide) (Nat.le_of_ble_eq_true rfl) (c7_hasRoomFor zt_ok147 zt_ok150 hT12 hT2 hw.pos hw2.pos) ?_
              rintro _ _ ⟨rfl, rfl⟩
              refine zi_if_eq 115 dX8_graft_92 (by decide) (fun c92 => ?_) (fun c92 => ?_)
              · refine zi_ldc dX8_graft_115 kcX8_210 ?_
                refine zi_iret dX8_graft_117 rfl ?_
                have hn : ¬ ((X.1.length - 1) / 2 + (Y.1.length - 1) / 2 ≤ 6 ∧ X.2 ≠ nI 0 ∧ Y.2 ≠ nI 0) := by
                  rintro ⟨q1, q2, q3⟩
                  rw [if_pos q1] at c92
                  first | exact absurd c92 (by decide) | exact q2 c102 | exact q3 c112
                rw [if_neg hn]
                exact ⟨_, rfl, rfl, hV2, hx12⟩
              · refine zi_ald0 dX8_graft_95 ?_
                refine zi_getR dX8_graft_96 flX8_53 rfl (by first | assumption | decide) ?_
                refine zi_getI dX8_graft_99 flX8_147 rfl (by first | assumption | decide) ?_
                rw [show τ2.1 (0 + 147) 3 = X.2 from hT12.2.2.2.1]
                refine zi_if_eq 115 dX8_graft_102 (by decide) (fun c102 => ?_) (fun c102 => ?_)
                · refine zi_ldc dX8_graft_115 kcX8_210 ?_
                  refine zi_iret dX8_graft_117 rfl ?_
                  have hn : ¬ ((X.1.length - 1) / 2 + (Y.1.length - 1) / 2 ≤ 6 ∧ X.2 ≠ nI 0 ∧ Y.2 ≠ nI 0) := by
                    rintro ⟨q1, q2, q3⟩
                    rw [if_pos q1] at c92
                    first | exact absurd c92 (by decide) | exact q2 c102 | exact q3 c112
                  rw [if_neg hn]
                  exact ⟨_, rfl, rfl, hV2, hx12⟩
                · refine zi_ald0 dX8_graft_105 ?_
                  refine zi_getR dX8_graft_106 flX8_57 rfl (by first | assumption | decide) ?_
                  refine zi_getI dX8_graft_109 flX8_147 rfl (by first | assumption | decide) ?_
                  rw [show τ2.1 (0 + 150) 3 = Y.2 from hT2.2.2.2.1]
                  refine zi_if_ne 118 dX8_graft_112 (by decide) (fun c112 => ?_) (fun c112 => ?_)
                  · have hy : (X.1.length - 1) / 2 + (Y.1.length - 1) / 2 ≤ 6 ∧ X.2 ≠ nI 0 ∧ Y.2 ≠ nI 0 := by
                      refine ⟨?_, c102, c112⟩
                      by_cases q : (X.1.length - 1) / 2 + (Y.1.length - 1) / 2 ≤ 6
                      · exact q
                      · rw [if_neg q] at c92; exact absurd rfl c92
                    rw [if_pos hy]
                    refine zi_ald0 dX8_graft_118 ?_
                    refine zi_getR dX8_graft_119 flX8_53 rfl (by first | assumption | decide) ?_
                    refine zi_ild4 dX8_graft_122 ?_
                    refine zi_ald0 dX8_graft_124 ?_
                    refine zi_getR dX8_graft_125 flX8_57 rfl (by first | assumption | decide) ?_
                    refine zi_cV2v vmX7_graftAt lkX8_211 dX8_graft_128 (by first | assumption | decide) (Nat.le_of_ble_eq_true rfl) (c7_graftAt zt_ok147 zt_ok150 (by omega) hT12 hT2 hjl hw2.pos (by omega)) ?_
                    rintro τ3 ⟨hT3, hF3⟩
                    obtain ⟨hV3, hx3⟩ := hV2.sc hF3 zx_sc147
                    have hT23 := hT2.fr hF3 (by unfold zt_A; omega) (by unfold zt_A; omega)
                    refine zi_ald0 dX8_graft_131 ?_
                    refine zi_getR dX8_graft_132 flX8_53 rfl (by first | assumption | decide) ?_
                    refine zi_dupr dX8_graft_135 ?_
                    refine zi_getI dX8_graft_136 flX8_147 rfl (by first | assumption | decide) ?_
                    refine zi_ald0 dX8_graft_139 ?_
                    refine zi_getR dX8_graft_140 flX8_57 rfl (by first | assumption | decide) ?_
                    refine zi_getI dX8_graft_143 flX8_147 rfl (by first | assumption | decide) ?_
                    refine zi_imul dX8_graft_146 ?_
                    rw [show τ3.1 (0 + 147) 3 = X.2 from hT3.2.2.2.1, show τ3.1 (0 + 150) 3 = Y.2 from hT23.2.2.2.1]
                    refine zi_putI dX8_graft_147 flX8_147 fp_7_3 rfl (by first | assumption | decide) ?_
                    have hT4 : zt_V (zw_pI τ3 147 3 (X.2 * Y.2)) 147 (X.1.take j ++ Y.1 ++ X.1.drop (j + 1)) (X.2 * Y.2) := by
                      obtain ⟨v1, v2, v3, v4, v5⟩ := hT3
                      refine ⟨v1, v2, ?_, zs_same _ _ _ _, fun i hi => ?_⟩
                      · rw [zs_slot (by decide)]; exact v3
                      · rw [zs_obj (by omega)]; exact v5 i hi
                    obtain ⟨hV4, hx4⟩ := hV3.sc (τ := zw_pI τ3 147 3 (X.2 * Y.2)) (B := zt_A 147) (zw_F.rf.pI (by unfold zt_A; omega)) zx_sc147
                    have hx34 := (hx12.tr hx3).tr hx4
                    obtain ⟨g1, ⟨nx, g2⟩, -⟩ := id hV4
                    refine zi_ald0 dX8_graft_150 ?_
                    refine zi_getR dX8_graft_151 flX8_19 rfl (by first | assumption | decide) ?_
                    refine zi_ald0 dX8_graft_154 ?_
                    refine zi_getR dX8_graft_155 flX8_12 rfl (by first | assumption | decide) ?_
                    refine zi_cV1v vmX1_record lkX8_85 dX8_graft_158 (by first | assumption | decide) (Nat.le_of_ble_eq_true rfl) (c1_record g2 g1) ?_
                    rintro τ5 ⟨hq5, hF5⟩
                    have g5 : zg_V τ5 1 A.1 := g1.fr hF5 (fun o a b => by unfold zq_A; omega)
                    have hT5 := hT4.fr hF5 (by unfold zq_A; omega) (by unfold zq_A; omega)
                    refine zi_ald0 dX8_graft_161 ?_
                    refine zi_getR dX8_graft_162 flX8_12 rfl (by first | assumption | decide) ?_
                    refine zi_ald0 dX8_graft_165 ?_
                    refine zi_getR dX8_graft_166 flX8_53 rfl (by first | assumption | decide) ?_
                    refine zi_cV1i vmX6_add lkX8_89 dX8_graft_169 (by first | assumption | decide) (Nat.le_of_ble_eq_true rfl) (c6_add zg_ok1 zt_ok147 (by omega) g5 e8 hT5 (zt_graft_wd hw hw2 hjl hj0 (by omega)) (zg_s_mul hs hs2 hy.2.1 hy.2.2)) ?_
                    rintro _ τ6 ⟨rfl, hX6, hF6⟩
                    refine zi_iret dX8_graft_172 rfl ?_
                    exact ⟨_, rfl, rfl, zx_deed hV4 (fun o a b c => hF5.2 o b) hq5 hX6 (fun o a b c => hF6.2 o b), (hx34.tr (zx_Fq hF5)).tr (zx_Fg hF6)⟩
                  · refine zi_ldc dX8_graft_115 kcX8_210 ?_
                    refine zi_iret dX8_graft_117 rfl ?_
                    have hn : ¬ ((X.1.length - 1) / 2 + (Y.1.length - 1) / 2 ≤ 6 ∧ X.2 ≠ nI 0 ∧ Y.2 ≠ nI 0) := by
                      rintro ⟨q1, q2, q3⟩
                      rw [if_pos q1] at c92
                      first | exact absurd c92 (by decide) | exact q2 c102 | exact q3 c112
                    rw [if_neg hn]
                    exact ⟨_, rfl, rfl, hV2, hx12⟩
            · refine zi_ldc dX8_graft_78 kcX8_76 ?_
              refine zi_iret dX8_graft_80 rfl ?_
              have e8 : A.1.1.length = 8 := by
                by_cases q : 8 ≤ A.1.1.length
                · omega
                · rw [if_neg q] at c75; exact absurd rfl c75
              rw [if_pos e8]
              exact ⟨_, rfl, rfl, hV2, hx12⟩
          · rw [zp_oI_m1 (fun k hk => by have := (hlf k hk).1; omega)] at c62
            rw [c62]
            refine zi_ldc dX8_graft_65 kcX8_139 ?_
            refine zi_iret dX8_graft_67 rfl ?_
            exact ⟨_, rfl, rfl, hV2, hx12⟩
        · exact absurd c19 (by decide)
theorem c8_step (hV : zx_V σ A) {t k : Int32} : zw_Ti l G (d + 4) mX8_step [.ref 0, .int t, .int k] σ (fun x υ => x = (zx_step A t k).1 ∧ zx_V υ (zx_step A t k).2 ∧ zx_F σ υ) := by
  obtain ⟨h1, -⟩ := id hV
  have hl8 := h1.1
  rcases zn_case t (n := A.1.1.length) (by omega) with ho | ⟨a, ha, rfl⟩
  · have e : zx_step A t k = (zx_UN, A) := by unfold zx_step; rw [zx_ix_out (by omega) ho]
    rw [e]
    refine zw_enter2 (L := [some _, some _, some _, none]) (by decide) (Nat.le_of_ble_eq_true rfl) rfl ?_
    refine zi_ald0 dX8_step_0 ?_
    refine zi_getR dX8_step_1 flX8_12 rfl (by first | assumption | decide) ?_
    refine zi_ild1 dX8_step_4 ?_
    refine zi_cV1i vmX6_has lkX8_135 dX8_step_5 (by first | assumption | decide) (Nat.le_of_ble_eq_true rfl) (c6_has_out zg_ok1 h1 ho) ?_
    rintro _ _ ⟨rfl, rfl⟩
    refine zi_if_ne 14 dX8_step_8 (by decide) (fun c8 => ?_) (fun c8 => ?_)
    · exact absurd rfl c8
    · refine zi_ldc dX8_step_11 kcX8_139 ?_
      refine zi_iret dX8_step_13 rfl ?_
      exact ⟨_, rfl, rfl, hV, zx_F.rf⟩
  · obtain ⟨hw, hs⟩ := h1.item ha
    have hXl := hw.2.2
    generalize hX : A.1.1.getD a zg_d = X at hw hs hXl
    have e : zx_step A (nI a) k = match zp_at (zt_sp A.1.2.1 X.1) k with
      | none => (zx_OU, A)
      | some j => (nI (zt_sp A.1.2.1 (zt_st A.1.2.1 A.1.2.2 X.1 X.2 j).1).length, zx_dd A (A.1.1.set a (zt_st A.1.2.1 A.1.2.2 X.1 X.2 j), A.1.2)) := by unfold zx_step; rw [zx_ix_in (by omega) ha, ← hX]; try rfl
    rw [e]
    refine zw_enter2 (L := [some _, some _, some _, none]) (by decide) (Nat.le_of_ble_eq_true rfl) rfl ?_
    refine zi_ald0 dX8_step_0 ?_
    refine zi_getR dX8_step_1 flX8_12 rfl (by first | assumption | decide) ?_
    refine zi_ild1 dX8_step_4 ?_
    refine zi_cV1i vmX6_has lkX8_135 dX8_step_5 (by first | assumption | decide) (Nat.le_of_ble_eq_true rfl) (c6_has zg_ok1 h1 ha) ?_
    rintro _ _ ⟨rfl, rfl⟩
    refine zi_if_ne 14 dX8_step_8 (by decide) (fun c8 => ?_) (fun c8 => ?_)
    · refine zi_ald0 dX8_step_14 ?_
      refine zi_getR dX8_step_15 flX8_12 rfl (by first | assumption | decide) ?_
      refine zi_ild1 dX8_step_18 ?_
      refine zi_ald0 dX8_step_19 ?_
      refine zi_getR dX8_step_20 flX8_53 rfl (by first | assumption | decide) ?_
      refine zi_cV2v vmX6_lend lkX8_140 dX8_step_23 (by first | assumption | decide) (Nat.le_of_ble_eq_true rfl) (c6_lend zg_ok1 zt_ok147 h1 ha) ?_
      rintro τ1 ⟨hT1, hF1⟩
      rw [hX] at hT1
      obtain ⟨hV1, hx1⟩ := hV.sc hF1 zx_sc147
      have hR1 := hV1.1.2.2.2.2
      refine zi_ald0 dX8_step_26 ?_
      refine zi_getR dX8_step_27 flX8_53 rfl (by first | assumption | decide) ?_
      refine zi_ild2 dX8_step_30 ?_
      refine zi_ald0 dX8_step_31 ?_
      refine zi_getR dX8_step_32 flX8_12 rfl (by first | assumption | decide) ?_
      refine zi_getR dX8_step_35 flX8_104 rfl (by first | assumption | decide) ?_
      refine zi_cV2i vmX7_spotOf lkX8_214 dX8_step_38 (by first | assumption | decide) (Nat.le_of_ble_eq_true rfl) (c7_spotOf zt_ok147 zg_rul1 hT1 hR1) ?_
      rintro _ _ ⟨rfl, rfl⟩
      have hlf : ∀ j, zp_at (zt_sp A.1.2.1 X.1) k = some j → j < 2 * X.1.length ∧ zt_bi A.1.2.1 X.1 j = true := fun j hj => by
        obtain ⟨p, q⟩ := List.mem_filter.mp (zp_at_mem hj)
        exact ⟨List.mem_range.mp p, q⟩
      refine zi_ist3 dX8_step_41 (Nat.le_of_ble_eq_true rfl) rfl ?_
      refine zi_ild3 dX8_step_42 ?_
      refine zi_iconst (-1) dX8_step_43 (by decide) ?_
      refine zi_icmp_ne 50 dX8_step_44 (by decide) (fun c44 => ?_) (fun c44 => ?_)
      · rw [zp_oI_m1 (fun j hj => by have := (hlf j hj).1; omega)] at c44
        obtain ⟨j, hj⟩ := Option.ne_none_iff_exists'.mp c44
        obtain ⟨hjl, hjb⟩ := hlf j hj
        rw [hj, zp_oI_some]
        simp only
        have hr3 := (hR1 _ (zt_bi_lt hjb).1).2.2.1
        refine zi_ald0 dX8_step_50 ?_
        refine zi_getR dX8_step_51 flX8_53 rfl (by first | assumption | decide) ?_
        refine zi_ild3 dX8_step_54 ?_
        refine zi_ald0 dX8_step_55 ?_
        refine zi_getR dX8_step_56 flX8_12 rfl (by first | assumption | decide) ?_
        refine zi_getR dX8_step_59 flX8_104 rfl (by first | assumption | decide) ?_
        refine zi_cV2v vmX7_stepAt lkX8_218 dX8_step_62 (by first | assumption | decide) (Nat.le_of_ble_eq_true rfl) (c7_stepAt zt_ok147 zg_rul1 (by omega) hT1 hR1 hw.1 hjb) ?_
        rintro τ2 ⟨hT2, hF2⟩
        obtain ⟨hV2, hx2⟩ := hV1.sc hF2 zx_sc147
        obtain ⟨g1, ⟨nx, g2⟩, -⟩ := id hV2
        refine zi_ald0 dX8_step_65 ?_
        refine zi_getR dX8_step_66 flX8_19 rfl (by first | assumption | decide) ?_
        refine zi_ald0 dX8_step_69 ?_
        refine zi_getR dX8_step_70 flX8_12 rfl (by first | assumption | decide) ?_
        refine zi_cV1v vmX1_record lkX8_85 dX8_step_73 (by first | assumption | decide) (Nat.le_of_ble_eq_true rfl) (c1_record g2 g1) ?_
        rintro τ3 ⟨hq3, hF3⟩
        have g3 : zg_V τ3 1 A.1 := g1.fr hF3 (fun o a b => by unfold zq_A; omega)
        have hT3 := hT2.fr hF3 (by unfold zq_A; omega) (by unfold zq_A; omega)
        refine zi_ald0 dX8_step_76 ?_
        refine zi_getR dX8_step_77 flX8_12 rfl (by first | assumption | decide) ?_
        refine zi_ild1 dX8_step_80 ?_
        refine zi_ald0 dX8_step_81 ?_
        refine zi_getR dX8_step_82 flX8_53 rfl (by first | assumption | decide) ?_
        refine zi_cV2v vmX6_put lkX8_222 dX8_step_85 (by first | assumption | decide) (Nat.le_of_ble_eq_true rfl) (c6_put zg_ok1 zt_ok147 (by omega) g3 ha hT3 (zt_st_wd hw (zt_bi_lt hjb).1 (fun q => hr3.mp (by have := (zt_bi_lt hjb).2; omega))) (zg_s_st hs hjb)) ?_
        rintro τ4 ⟨hX4, hF4⟩
        have hT4 := hT3.fr hF4 (by unfold zg_A; omega) (by unfold zg_A; omega)
        refine zi_ald0 dX8_step_88 ?_
        refine zi_getR dX8_step_89 flX8_53 rfl (by first | assumption | decide) ?_
        refine zi_ald0 dX8_step_92 ?_
        refine zi_getR dX8_step_93 flX8_12 rfl (by first | assumption | decide) ?_
        refine zi_getR dX8_step_96 flX8_104 rfl (by first | assumption | decide) ?_
        refine zi_cV1i vmX7_places lkX8_153 dX8_step_99 (by first | assumption | decide) (Nat.le_of_ble_eq_true rfl) (c7_places zt_ok147 zg_rul1 hT4 hX4.2.2.2.2) ?_
        rintro _ _ ⟨rfl, rfl⟩
        refine zi_iret dX8_step_102 rfl ?_
        exact ⟨_, rfl, rfl, zx_deed hV2 (fun o a b c => hF3.2 o b) hq3 hX4 (fun o a b c => hF4.2 o b), ((hx1.tr hx2).tr (zx_Fq hF3)).tr (zx_Fg hF4)⟩
      · rw [zp_oI_m1 (fun j hj => by have := (hlf j hj).1; omega)] at c44
        rw [c44]
        refine zi_ldc dX8_step_47 kcX8_75 ?_
        refine zi_iret dX8_step_49 rfl ?_
        exact ⟨_, rfl, rfl, hV1, hx1⟩
    · exact absurd c8 (by decide)
theorem c8_plain (hV : zx_V σ A) {t : Int32} : zw_Ti l G (d + 5) mX8_plain [.ref 0, .int t] σ (fun x υ => x = (zx_plain A t).1 ∧ zx_V υ (zx_plain A t).2 ∧ zx_F σ υ) := by
  obtain ⟨h1, -⟩ := id hV
  have hl8 := h1.1
  rcases zn_case t (n := A.1.1.length) (by omega) with ho | ⟨a, ha, rfl⟩
  · have e : zx_plain A t = (zx_UN, A) := by unfold zx_plain; rw [zx_ix_out (by omega) ho]
    rw [e]
    refine zw_enter2 (L := [some _, some _, none]) (by decide) (Nat.le_of_ble_eq_true rfl) rfl ?_
    refine zi_ald0 dX8_plain_0 ?_
    refine zi_getR dX8_plain_1 flX8_12 rfl (by first | assumption | decide) ?_
    refine zi_ild1 dX8_plain_4 ?_
    refine zi_cV1i vmX6_has lkX8_135 dX8_plain_5 (by first | assumption | decide) (Nat.le_of_ble_eq_true rfl) (c6_has_out zg_ok1 h1 ho) ?_
    rintro _ _ ⟨rfl, rfl⟩
    refine zi_if_ne 14 dX8_plain_8 (by decide) (fun c8 => ?_) (fun c8 => ?_)
    · exact absurd rfl c8
    · refine zi_ldc dX8_plain_11 kcX8_139 ?_
      refine zi_iret dX8_plain_13 rfl ?_
      exact ⟨_, rfl, rfl, hV, zx_F.rf⟩
  · obtain ⟨hw, hs⟩ := h1.item ha
    generalize hX : A.1.1.getD a zg_d = X at hw hs
    have e : zx_plain A (nI a) = match zt_pl A.1.2.1 A.1.2.2 60 0 X.1 X.2 with
      | none => (zx_NO, A)
      | some x => (nI x.1, zx_dd A (A.1.1.set a x.2, A.1.2)) := by unfold zx_plain; rw [zx_ix_in (by omega) ha, ← hX]; try rfl
    rw [e]
    refine zw_enter2 (L := [some _, some _, none]) (by decide) (Nat.le_of_ble_eq_true rfl) rfl ?_
    refine zi_ald0 dX8_plain_0 ?_
    refine zi_getR dX8_plain_1 flX8_12 rfl (by first | assumption | decide) ?_
    refine zi_ild1 dX8_plain_4 ?_
    refine zi_cV1i vmX6_has lkX8_135 dX8_plain_5 (by first | assumption | decide) (Nat.le_of_ble_eq_true rfl) (c6_has zg_ok1 h1 ha) ?_
    rintro _ _ ⟨rfl, rfl⟩
    refine zi_if_ne 14 dX8_plain_8 (by decide) (fun c8 => ?_) (fun c8 => ?_)
    · refine zi_ald0 dX8_plain_14 ?_
      refine zi_getR dX8_plain_15 flX8_12 rfl (by first | assumption | decide) ?_
      refine zi_ild1 dX8_plain_18 ?_
      refine zi_ald0 dX8_plain_19 ?_
      refine zi_getR dX8_plain_20 flX8_53 rfl (by first | assumption | decide) ?_
      refine zi_cV2v vmX6_lend lkX8_140 dX8_plain_23 (by first | assumption | decide) (Nat.le_of_ble_eq_true rfl) (c6_lend zg_ok1 zt_ok147 h1 ha) ?_
      rintro τ1 ⟨hT1, hF1⟩
      rw [hX] at hT1
      obtain ⟨hV1, hx1⟩ := hV.sc hF1 zx_sc147
      refine zi_ald0 dX8_plain_26 ?_
      refine zi_getR dX8_plain_27 flX8_53 rfl (by first | assumption | decide) ?_
      refine zi_ald0 dX8_plain_30 ?_
      refine zi_getR dX8_plain_31 flX8_12 rfl (by first | assumption | decide) ?_
      refine zi_getR dX8_plain_34 flX8_104 rfl (by first | assumption | decide) ?_
      refine zi_cV1i vmX7_makePlain lkX8_167 dX8_plain_37 (by first | assumption | decide) (Nat.le_of_ble_eq_true rfl) (c7_makePlain zt_ok147 zg_rul1 (by omega) hT1 hV1.1.2.2.2.2 hw) ?_
      rintro y2 τ2 ⟨hF2, hE2⟩
      obtain ⟨hV2, hx2⟩ := hV1.sc hF2 zx_sc147
      obtain ⟨g1, ⟨nx, g2⟩, -⟩ := id hV2
      refine zi_ist2 dX8_plain_40 (Nat.le_of_ble_eq_true rfl) rfl ?_
      refine zi_ild2 dX8_plain_41 ?_
      refine zi_iconst (-1) dX8_plain_42 (by decide) ?_
      refine zi_icmp_ne 49 dX8_plain_43 (by decide) (fun c43 => ?_) (fun c43 => ?_)
      · obtain ⟨n', w', s', p1, p2, p3, p4, p5⟩ : ∃ n' w' s', zt_pl A.1.2.1 A.1.2.2 60 0 X.1 X.2 = some (n', w', s') ∧ n' ≤ 60 ∧ y2 = nI n' ∧ zt_V τ2 147 w' s' ∧ zt_wd w' := by
          rcases hE2 with ⟨e1, e2⟩ | h
          · exact absurd e1 c43
          · exact h
        subst p3
        rw [p1]
        simp only
        refine zi_ald0 dX8_plain_49 ?_
        refine zi_getR dX8_plain_50 flX8_19 rfl (by first | assumption | decide) ?_
        refine zi_ald0 dX8_plain_53 ?_
        refine zi_getR dX8_plain_54 flX8_12 rfl (by first | assumption | decide) ?_
        refine zi_cV1v vmX1_record lkX8_85 dX8_plain_57 (by first | assumption | decide) (Nat.le_of_ble_eq_true rfl) (c1_record g2 g1) ?_
        rintro τ3 ⟨hq3, hF3⟩
        have g3 : zg_V τ3 1 A.1 := g1.fr hF3 (fun o a b => by unfold zq_A; omega)
        have hT3 := p4.fr hF3 (by unfold zq_A; omega) (by unfold zq_A; omega)
        refine zi_ald0 dX8_plain_60 ?_
        refine zi_getR dX8_plain_61 flX8_12 rfl (by first | assumption | decide) ?_
        refine zi_ild1 dX8_plain_64 ?_
        refine zi_ald0 dX8_plain_65 ?_
        refine zi_getR dX8_plain_66 flX8_53 rfl (by first | assumption | decide) ?_
        refine zi_cV2v vmX6_put lkX8_222 dX8_plain_69 (by first | assumption | decide) (Nat.le_of_ble_eq_true rfl) (c6_put zg_ok1 zt_ok147 (by omega) g3 ha hT3 p5 (zg_s_pl 60 0 X.1 X.2 hs _ p1)) ?_
        rintro τ4 ⟨hX4, hF4⟩
        refine zi_ild2 dX8_plain_72 ?_
        refine zi_iret dX8_plain_73 rfl ?_
        exact ⟨_, rfl, rfl, zx_deed hV2 (fun o a b c => hF3.2 o b) hq3 hX4 (fun o a b c => hF4.2 o b), ((hx1.tr hx2).tr (zx_Fq hF3)).tr (zx_Fg hF4)⟩
      · refine zi_ldc dX8_plain_46 kcX8_210 ?_
        refine zi_iret dX8_plain_48 rfl ?_
        rcases hE2 with ⟨e1, e2⟩ | ⟨n', w', s', p1, p2, p3, p4, p5⟩
        · rw [e2]
          exact ⟨_, rfl, rfl, hV2, hx1.tr hx2⟩
        · rw [p3, zn_m1 n' (by omega)] at c43; exact absurd c43 id
    · exact absurd c8 (by decide)
theorem c8_mirror (hV : zx_V σ A) {t : Int32} : zw_Ti l G (d + 4) mX8_mirror [.ref 0, .int t] σ (fun x υ => x = (zx_mirror A t).1 ∧ zx_V υ (zx_mirror A t).2 ∧ zx_F σ υ) := by
  obtain ⟨h1, -⟩ := id hV
  have hl8 := h1.1
  rcases zn_case t (n := A.1.1.length) (by omega) with ho | ⟨a, ha, rfl⟩
  · have e : zx_mirror A t = (zx_UN, A) := by unfold zx_mirror; rw [zx_ix_out (by omega) ho]
    rw [e]
    refine zw_enter2 (L := [some _, some _]) (by decide) (Nat.le_of_ble_eq_true rfl) rfl ?_
    refine zi_ald0 dX8_mirror_0 ?_
    refine zi_getR dX8_mirror_1 flX8_12 rfl (by first | assumption | decide) ?_
    refine zi_ild1 dX8_mirror_4 ?_
    refine zi_cV1i vmX6_has lkX8_135 dX8_mirror_5 (by first | assumption | decide) (Nat.le_of_ble_eq_true rfl) (c6_has_out zg_ok1 h1 ho) ?_
    rintro _ _ ⟨rfl, rfl⟩
    refine zi_if_ne 14 dX8_mirror_8 (by decide) (fun c8 => ?_) (fun c8 => ?_)
    · exact absurd rfl c8
    · refine zi_ldc dX8_mirror_11 kcX8_139 ?_
      refine zi_iret dX8_mirror_13 rfl ?_
      exact ⟨_, rfl, rfl, hV, zx_F.rf⟩
  · obtain ⟨hw, hs⟩ := h1.item ha
    generalize hX : A.1.1.getD a zg_d = X at hw hs
    have hs2 : zg_s (zm_r X.1, X.2) := by
      rcases hs with q | q | ⟨q, r⟩
      · exact Or.inl q
      · exact Or.inr (Or.inl q)
      · exact Or.inr (Or.inr ⟨q, by show zm_r X.1 = [0]; rw [r]; rfl⟩)
    have e : zx_mirror A (nI a) = (nI (zt_code (zm_r X.1)), zx_dd A (A.1.1.set a (zm_r X.1, X.2), A.1.2)) := by unfold zx_mirror; rw [zx_ix_in (by omega) ha, ← hX]; try rfl
    rw [e]
    refine zw_enter2 (L := [some _, some _]) (by decide) (Nat.le_of_ble_eq_true rfl) rfl ?_
    refine zi_ald0 dX8_mirror_0 ?_
    refine zi_getR dX8_mirror_1 flX8_12 rfl (by first | assumption | decide) ?_
    refine zi_ild1 dX8_mirror_4 ?_
    refine zi_cV1i vmX6_has lkX8_135 dX8_mirror_5 (by first | assumption | decide) (Nat.le_of_ble_eq_true rfl) (c6_has zg_ok1 h1 ha) ?_
    rintro _ _ ⟨rfl, rfl⟩
    refine zi_if_ne 14 dX8_mirror_8 (by decide) (fun c8 => ?_) (fun c8 => ?_)
    · refine zi_ald0 dX8_mirror_14 ?_
      refine zi_getR dX8_mirror_15 flX8_12 rfl (by first | assumption | decide) ?_
      refine zi_ild1 dX8_mirror_18 ?_
      refine zi_ald0 dX8_mirror_19 ?_
      refine zi_getR dX8_mirror_20 flX8_53 rfl (by first | assumption | decide) ?_
      refine zi_cV2v vmX6_lend lkX8_140 dX8_mirror_23 (by first | assumption | decide) (Nat.le_of_ble_eq_true rfl) (c6_lend zg_ok1 zt_ok147 h1 ha) ?_
      rintro τ1 ⟨hT1, hF1⟩
      rw [hX] at hT1
      obtain ⟨hV1, hx1⟩ := hV.sc hF1 zx_sc147
      refine zi_ald0 dX8_mirror_26 ?_
      refine zi_getR dX8_mirror_27 flX8_57 rfl (by first | assumption | decide) ?_
      refine zi_ald0 dX8_mirror_30 ?_
      refine zi_getR dX8_mirror_31 flX8_53 rfl (by first | assumption | decide) ?_
      refine zi_cV1v vmX7_mirrorOf lkX8_160 dX8_mirror_34 (by first | assumption | decide) (Nat.le_of_ble_eq_true rfl) (c7_mirrorOf zt_ok150 zt_ok147 (by omega) hT1 hw) ?_
      rintro τ2 ⟨hT2, hF2⟩
      obtain ⟨hV2, hx2⟩ := hV1.sc hF2 zx_sc150
      obtain ⟨g1, ⟨nx, g2⟩, -⟩ := id hV2
      refine zi_ald0 dX8_mirror_37 ?_
      refine zi_getR dX8_mirror_38 flX8_19 rfl (by first | assumption | decide) ?_
      refine zi_ald0 dX8_mirror_41 ?_
      refine zi_getR dX8_mirror_42 flX8_12 rfl (by first | assumption | decide) ?_
      refine zi_cV1v vmX1_record lkX8_85 dX8_mirror_45 (by first | assumption | decide) (Nat.le_of_ble_eq_true rfl) (c1_record g2 g1) ?_
      rintro τ3 ⟨hq3, hF3⟩
      have g3 : zg_V τ3 1 A.1 := g1.fr hF3 (fun o a b => by unfold zq_A; omega)
      have hT3 := hT2.fr hF3 (by unfold zq_A; omega) (by unfold zq_A; omega)
      refine zi_ald0 dX8_mirror_48 ?_
      refine zi_getR dX8_mirror_49 flX8_12 rfl (by first | assumption | decide) ?_
      refine zi_ild1 dX8_mirror_52 ?_
      refine zi_ald0 dX8_mirror_53 ?_
      refine zi_getR dX8_mirror_54 flX8_57 rfl (by first | assumption | decide) ?_
      refine zi_cV2v vmX6_put lkX8_222 dX8_mirror_57 (by first | assumption | decide) (Nat.le_of_ble_eq_true rfl) (c6_put zg_ok1 zt_ok150 (by omega) g3 ha hT3 (zm_r_wd hw) hs2) ?_
      rintro τ4 ⟨hX4, hF4⟩
      refine zi_ald0 dX8_mirror_60 ?_
      refine zi_getR dX8_mirror_61 flX8_12 rfl (by first | assumption | decide) ?_
      refine zi_ild1 dX8_mirror_64 ?_
      refine zi_cV1i vmX6_codeOf lkX8_225 dX8_mirror_65 (by first | assumption | decide) (Nat.le_of_ble_eq_true rfl) (c6_codeOf zg_ok1 hX4 (show a < (A.1.1.set a (zm_r X.1, X.2)).length by rw [List.length_set]; exact ha)) ?_
      rintro _ _ ⟨rfl, rfl⟩
      refine zi_iret dX8_mirror_68 rfl ?_
      refine ⟨_, rfl, ?_, zx_deed hV2 (fun o a b c => hF3.2 o b) hq3 hX4 (fun o a b c => hF4.2 o b), ((hx1.tr hx2).tr (zx_Fq hF3)).tr (zx_Fg hF4)⟩
      show nI (zt_code ((A.1.1.set a (zm_r X.1, X.2)).getD a zg_d).1) = _
      rw [zd_set ha, if_pos rfl]
    · exact absurd c8 (by decide)
theorem c8_take (hV : zx_V σ A) {t : Int32} : zw_Ti l G (d + 4) mX8_take [.ref 0, .int t] σ (fun x υ => x = (zx_take A t).1 ∧ zx_V υ (zx_take A t).2 ∧ zx_F σ υ) := by
  obtain ⟨h1, ⟨nx, h2⟩, -⟩ := id hV
  have hl8 := h1.1
  rcases zn_case t (n := A.1.1.length) (by omega) with ho | ⟨a, ha, rfl⟩
  · have e : zx_take A t = (zx_UN, A) := by unfold zx_take; rw [zx_ix_out (by omega) ho]
    rw [e]
    refine zw_enter2 (L := [some _, some _]) (by decide) (Nat.le_of_ble_eq_true rfl) rfl ?_
    refine zi_ald0 dX8_take_0 ?_
    refine zi_getR dX8_take_1 flX8_12 rfl (by first | assumption | decide) ?_
    refine zi_ild1 dX8_take_4 ?_
    refine zi_cV1i vmX6_has lkX8_135 dX8_take_5 (by first | assumption | decide) (Nat.le_of_ble_eq_true rfl) (c6_has_out zg_ok1 h1 ho) ?_
    rintro _ _ ⟨rfl, rfl⟩
    refine zi_if_ne 14 dX8_take_8 (by decide) (fun c8 => ?_) (fun c8 => ?_)
    · exact absurd rfl c8
    · refine zi_ldc dX8_take_11 kcX8_139 ?_
      refine zi_iret dX8_take_13 rfl ?_
      exact ⟨_, rfl, rfl, hV, zx_F.rf⟩
  · have e : zx_take A (nI a) = (nI (A.1.1.length - 1), zx_dd A (A.1.1.eraseIdx a, A.1.2)) := by unfold zx_take; rw [zx_ix_in (by omega) ha]; try rfl
    rw [e]
    refine zw_enter2 (L := [some _, some _]) (by decide) (Nat.le_of_ble_eq_true rfl) rfl ?_
    refine zi_ald0 dX8_take_0 ?_
    refine zi_getR dX8_take_1 flX8_12 rfl (by first | assumption | decide) ?_
    refine zi_ild1 dX8_take_4 ?_
    refine zi_cV1i vmX6_has lkX8_135 dX8_take_5 (by first | assumption | decide) (Nat.le_of_ble_eq_true rfl) (c6_has zg_ok1 h1 ha) ?_
    rintro _ _ ⟨rfl, rfl⟩
    refine zi_if_ne 14 dX8_take_8 (by decide) (fun c8 => ?_) (fun c8 => ?_)
    · refine zi_ald0 dX8_take_14 ?_
      refine zi_getR dX8_take_15 flX8_19 rfl (by first | assumption | decide) ?_
      refine zi_ald0 dX8_take_18 ?_
      refine zi_getR dX8_take_19 flX8_12 rfl (by first | assumption | decide) ?_
      refine zi_cV1v vmX1_record lkX8_85 dX8_take_22 (by first | assumption | decide) (Nat.le_of_ble_eq_true rfl) (c1_record h2 h1) ?_
      rintro τ3 ⟨hq3, hF3⟩
      have g3 : zg_V τ3 1 A.1 := h1.fr hF3 (fun o a b => by unfold zq_A; omega)
      refine zi_ald0 dX8_take_25 ?_
      refine zi_getR dX8_take_26 flX8_12 rfl (by first | assumption | decide) ?_
      refine zi_ild1 dX8_take_29 ?_
      refine zi_cV1v vmX6_remove lkX8_228 dX8_take_30 (by first | assumption | decide) (Nat.le_of_ble_eq_true rfl) (c6_remove zg_ok1 g3 ha) ?_
      rintro τ4 ⟨hX4, hF4⟩
      refine zi_ald0 dX8_take_33 ?_
      refine zi_getR dX8_take_34 flX8_12 rfl (by first | assumption | decide) ?_
      refine zi_getI dX8_take_37 flX8_112 rfl (by first | assumption | decide) ?_
      refine zi_iret dX8_take_40 rfl ?_
      refine ⟨_, rfl, ?_, zx_deed hV (fun o a b c => hF3.2 o b) hq3 hX4 (fun o a b c => hF4.2 o b), (zx_Fq hF3).tr (zx_Fg hF4)⟩
      rw [show τ4.1 (0 + 1) 3 = _ from hX4.2.2.1]
      show nI (A.1.1.eraseIdx a).length = _
      rw [List.length_eraseIdx, if_pos ha]
    · exact absurd c8 (by decide)
theorem c8_dual (hG : zj_G G) (hV : zx_V σ A) : zw_Ti l G (d + 7) mX8_dual [.ref 0] σ (fun x υ => x = (zx_dual A).1 ∧ zx_V υ (zx_dual A).2 ∧ zx_F σ υ) := by
  obtain ⟨h1, ⟨nx, h2⟩, -⟩ := id hV
  refine zw_enter2 (L := [some _]) (by decide) (Nat.le_of_ble_eq_true rfl) rfl ?_
  refine zi_ald0 dX8_dual_0 ?_
  refine zi_getR dX8_dual_1 flX8_19 rfl (by first | assumption | decide) ?_
  refine zi_ald0 dX8_dual_4 ?_
  refine zi_getR dX8_dual_5 flX8_12 rfl (by first | assumption | decide) ?_
  refine zi_cV1v vmX1_record lkX8_85 dX8_dual_8 (by first | assumption | decide) (Nat.le_of_ble_eq_true rfl) (c1_record h2 h1) ?_
  rintro τ3 ⟨hq3, hF3⟩
  have g3 : zg_V τ3 1 A.1 := h1.fr hF3 (fun o a b => by unfold zq_A; omega)
  refine zi_ald0 dX8_dual_11 ?_
  refine zi_getR dX8_dual_12 flX8_12 rfl (by first | assumption | decide) ?_
  refine zi_getR dX8_dual_15 flX8_104 rfl (by first | assumption | decide) ?_
  refine zi_cV0v vmX4_turnDual lkX8_238 dX8_dual_18 (by first | assumption | decide) (Nat.le_of_ble_eq_true rfl) (c4_turnDual zg_rul1 g3.2.2.2.2) ?_
  rintro τ4 ⟨hR4, hF4⟩
  have hX4 : zg_V τ4 1 (A.1.1, zr_df A.1.2.1 A.1.2.2, A.1.2.2) := by
    obtain ⟨v1, v2, v3, v4, v5⟩ := g3
    refine ⟨v1, v2, by rw [hF4.2 1 (by omega)]; exact v3, fun i hi => ?_, hR4⟩
    rw [hF4.2 (1 + 4) (by omega), hF4.2 (1 + 5) (by omega)]
    exact v4 i hi
  have hV4 := zx_deed (υ := τ4) hV (fun o a b c => hF3.2 o b) hq3 hX4 (fun o a b c => hF4.2 o (fun q => b (by unfold zg_A; omega)))
  refine zi_ald0 dX8_dual_21 ?_
  refine zi_getR dX8_dual_22 flX8_39 rfl (by first | assumption | decide) ?_
  refine zi_ald0 dX8_dual_25 ?_
  refine zi_getR dX8_dual_26 flX8_12 rfl (by first | assumption | decide) ?_
  refine zi_getR dX8_dual_29 flX8_104 rfl (by first | assumption | decide) ?_
  refine zi_cV1v vmX3_judgeAll lkX8_108 dX8_dual_32 (by first | assumption | decide) (Nat.le_of_ble_eq_true rfl) (c3_judgeAll hG zg_rul1 (by decide) hR4) ?_
  rintro τ5 ⟨⟨j1, j2, j3⟩, hF5⟩
  obtain ⟨hV5, hx5⟩ := hV4.sc hF5 (fun o q => by unfold zj_A at q; unfold zx_sc; omega)
  refine zi_ald0 dX8_dual_35 ?_
  refine zi_getR dX8_dual_36 flX8_39 rfl (by first | assumption | decide) ?_
  refine zi_getI dX8_dual_39 flX8_118 rfl (by first | assumption | decide) ?_
  refine zi_iret dX8_dual_42 rfl ?_
  exact ⟨_, rfl, j2, hV5, ((zx_Fq hF3).tr (zx_F.of hF4 (fun o q => by omega))).tr hx5⟩
theorem c8_clear (hV : zx_V σ A) : zw_Ti l G (d + 4) mX8_clear [.ref 0] σ (fun x υ => x = (zx_clear A).1 ∧ zx_V υ (zx_clear A).2 ∧ zx_F σ υ) := by
  obtain ⟨h1, ⟨nx, h2⟩, -⟩ := id hV
  refine zw_enter2 (L := [some _, none]) (by decide) (Nat.le_of_ble_eq_true rfl) rfl ?_
  refine zi_ald0 dX8_clear_0 ?_
  refine zi_getR dX8_clear_1 flX8_12 rfl (by first | assumption | decide) ?_
  refine zi_getR dX8_clear_4 flX8_104 rfl (by first | assumption | decide) ?_
  refine zi_cV0i vmX4_bound lkX8_241 dX8_clear_7 (by first | assumption | decide) (Nat.le_of_ble_eq_true rfl) (c4_bound zg_rul1 h1.2.2.2.2) ?_
  rintro _ _ ⟨rfl, rfl⟩
  refine zi_ist1 dX8_clear_10 (Nat.le_of_ble_eq_true rfl) rfl ?_
  refine zi_ald0 dX8_clear_11 ?_
  refine zi_getR dX8_clear_12 flX8_19 rfl (by first | assumption | decide) ?_
  refine zi_ald0 dX8_clear_15 ?_
  refine zi_getR dX8_clear_16 flX8_12 rfl (by first | assumption | decide) ?_
  refine zi_cV1v vmX1_record lkX8_85 dX8_clear_19 (by first | assumption | decide) (Nat.le_of_ble_eq_true rfl) (c1_record h2 h1) ?_
  rintro τ3 ⟨hq3, hF3⟩
  have g3 : zg_V τ3 1 A.1 := h1.fr hF3 (fun o a b => by unfold zq_A; omega)
  refine zi_ald0 dX8_clear_22 ?_
  refine zi_getR dX8_clear_23 flX8_12 rfl (by first | assumption | decide) ?_
  refine zi_getR dX8_clear_26 flX8_104 rfl (by first | assumption | decide) ?_
  refine zi_cV0v vmX4_release lkX8_244 dX8_clear_29 (by first | assumption | decide) (Nat.le_of_ble_eq_true rfl) (c4_release zg_rul1) ?_
  rintro τ4 ⟨hR4, hF4⟩
  have hX4 : zg_V τ4 1 (A.1.1, (fun _ => 0), (fun _ => 8)) := by
    obtain ⟨v1, v2, v3, v4, v5⟩ := g3
    refine ⟨v1, v2, by rw [hF4.2 1 (by omega)]; exact v3, fun i hi => ?_, hR4⟩
    rw [hF4.2 (1 + 4) (by omega), hF4.2 (1 + 5) (by omega)]
    exact v4 i hi
  refine zi_ild1 dX8_clear_32 ?_
  refine zi_iret dX8_clear_33 rfl ?_
  exact ⟨_, rfl, rfl, zx_deed (υ := τ4) hV (fun o a b c => hF3.2 o b) hq3 hX4 (fun o a b c => hF4.2 o (fun q => b (by unfold zg_A; omega))), (zx_Fq hF3).tr (zx_F.of hF4 (fun o q => by omega))⟩
end Z28
