/-! the model: graft, step, plain, mirror, take -/
section Z40
variable {l : Launch} {G : zw_G} {d : Nat} {σ : zw_S} {A : zx_T} {X : zg_X} {w : List Nat} {s : Int32} {fa go : Nat → Nat}
theorem l9_g114 (hW : zy_w σ w s) {x1 x2 x3 x4 : Int32} {x8 x9 : Option Value} {j : Nat} (hj : j ≤ w.length) {P : Option Value → zw_S → Prop} (hk : zw_W l G (d + 4) mX9_graft 141 [some (.ref 168), some (.int x1), some (.int x2), some (.int x3), some (.int x4), some (.int (nI j)), some (.int (nI (zt_code (w.take j)))), some (.int (nI j)), x8, x9] [] σ P) : ∀ n k, k + n = j → zw_W l G (d + 4) mX9_graft 114 [some (.ref 168), some (.int x1), some (.int x2), some (.int x3), some (.int x4), some (.int (nI j)), some (.int (nI (zt_code (w.take k)))), some (.int (nI k)), x8, x9] [] σ P := by
  have h13 := hW.1
  intro n
  induction n with
  | zero =>
    intro k hkj
    obtain rfl : k = j := by omega
    refine zi_ild7 dX9_graft_114 ?_
    refine zi_ild5 dX9_graft_116 ?_
    refine zi_icmp_ge 141 dX9_graft_118 (by decide) (fun c118 => ?_) (fun c118 => ?_)
    · exact hk
    · rw [zn_le (by omega) (by omega)] at c118; omega
  | succ n ih =>
    intro k hkj
    refine zi_ild7 dX9_graft_114 ?_
    refine zi_ild5 dX9_graft_116 ?_
    refine zi_icmp_ge 141 dX9_graft_118 (by decide) (fun c118 => ?_) (fun c118 => ?_)
    · rw [zn_le (by omega) (by omega)] at c118; omega
    · refine zi_iconst (nI 3) dX9_graft_121 (by decide) ?_
      refine zi_ild6 dX9_graft_122 ?_
      refine zi_imul dX9_graft_124 ?_
      refine zi_ald0 dX9_graft_125 ?_
      refine zi_getR dX9_graft_126 flX9_29 rfl (by first | assumption | decide) ?_
      refine zi_ild7 dX9_graft_129 ?_
      refine zi_ialdN k dX9_graft_131 (by first | assumption | decide) rfl (zy_b6 (by omega)) (by decide) ?_
      refine zi_iadd dX9_graft_132 ?_
      refine zi_ist6 dX9_graft_133 (Nat.le_of_ble_eq_true rfl) rfl ?_
      refine zi_inc7 (nI 1) dX9_graft_135 (by decide) (Nat.le_of_ble_eq_true rfl) rfl ?_
      refine zi_goto 114 dX9_graft_138 (by decide) ?_
      rw [hW.2.2.2.2 k (by omega), pk_mul, nI_add, nI_add, ← zt_code_snoc, ← zl_take_succ (by omega)]
      exact ih (k + 1) (by omega)
theorem l9_g161 (hW : zy_w σ w s) {x1 x2 x3 x4 x6 x7 : Int32} {j : Nat} (hj : j < w.length) {P : Option Value → zw_S → Prop} (hk : zw_W l G (d + 4) mX9_graft 190 [some (.ref 168), some (.int x1), some (.int x2), some (.int x3), some (.int x4), some (.int (nI j)), some (.int x6), some (.int x7), some (.int (nI (zt_code (w.drop (j + 1))))), some (.int (nI w.length))] [] σ P) : ∀ n k, j + 1 + k + n = w.length → zw_W l G (d + 4) mX9_graft 161 [some (.ref 168), some (.int x1), some (.int x2), some (.int x3), some (.int x4), some (.int (nI j)), some (.int x6), some (.int x7), some (.int (nI (zt_code ((w.drop (j + 1)).take k)))), some (.int (nI (j + 1 + k)))] [] σ P := by
  have h13 := hW.1
  intro n
  induction n with
  | zero =>
    intro k hkj
    rw [List.take_of_length_le (by rw [List.length_drop]; omega), show j + 1 + k = w.length by omega]
    refine zi_ild9 dX9_graft_161 ?_
    refine zi_ald0 dX9_graft_163 ?_
    refine zi_getI dX9_graft_164 flX9_58 rfl (by first | assumption | decide) ?_
    refine zi_icmp_ge 190 dX9_graft_167 (by decide) (fun c167 => ?_) (fun c167 => ?_)
    · exact hk
    · rw [hW.2.2.1] at c167; exact absurd (Int32.le_refl _) c167
  | succ n ih =>
    intro k hkj
    refine zi_ild9 dX9_graft_161 ?_
    refine zi_ald0 dX9_graft_163 ?_
    refine zi_getI dX9_graft_164 flX9_58 rfl (by first | assumption | decide) ?_
    refine zi_icmp_ge 190 dX9_graft_167 (by decide) (fun c167 => ?_) (fun c167 => ?_)
    · rw [hW.2.2.1, zn_le (by omega) (by omega)] at c167; omega
    · refine zi_iconst (nI 3) dX9_graft_170 (by decide) ?_
      refine zi_ild8 dX9_graft_171 ?_
      refine zi_imul dX9_graft_173 ?_
      refine zi_ald0 dX9_graft_174 ?_
      refine zi_getR dX9_graft_175 flX9_29 rfl (by first | assumption | decide) ?_
      refine zi_ild9 dX9_graft_178 ?_
      refine zi_ialdN (j + 1 + k) dX9_graft_180 (by first | assumption | decide) rfl (zy_b6 (by omega)) (by decide) ?_
      refine zi_iadd dX9_graft_181 ?_
      refine zi_ist8 dX9_graft_182 (Nat.le_of_ble_eq_true rfl) rfl ?_
      refine zi_inc9 (nI 1) dX9_graft_184 (by decide) (Nat.le_of_ble_eq_true rfl) rfl ?_
      refine zi_goto 161 dX9_graft_187 (by decide) ?_
      rw [hW.2.2.2.2 (j + 1 + k) (by omega), pk_mul, nI_add (3 * _), nI_add (j + 1 + k) 1, ← zl_dropD, ← zt_code_snoc, ← zl_take_succ (by rw [List.length_drop]; omega)]
      exact ih (k + 1) (by omega)
theorem l9_g198 (hW : zy_w σ w s) {x1 x2 x3 x4 x5 x7 x8 : Int32} {v : List Nat} {P : Option Value → zw_S → Prop} (hk : zw_W l G (d + 4) mX9_graft 227 [some (.ref 168), some (.int x1), some (.int x2), some (.int x3), some (.int x4), some (.int x5), some (.int (nI (zt_code (v ++ w)))), some (.int x7), some (.int x8), some (.int (nI w.length))] [] σ P) : ∀ n k, k + n = w.length → zw_W l G (d + 4) mX9_graft 198 [some (.ref 168), some (.int x1), some (.int x2), some (.int x3), some (.int x4), some (.int x5), some (.int (nI (zt_code (v ++ w.take k)))), some (.int x7), some (.int x8), some (.int (nI k))] [] σ P := by
  have h13 := hW.1
  intro n
  induction n with
  | zero =>
    intro k hkj
    rw [List.take_of_length_le (by omega), show k = w.length by omega]
    refine zi_ild9 dX9_graft_198 ?_
    refine zi_ald0 dX9_graft_200 ?_
    refine zi_getI dX9_graft_201 flX9_58 rfl (by first | assumption | decide) ?_
    refine zi_icmp_ge 227 dX9_graft_204 (by decide) (fun c204 => ?_) (fun c204 => ?_)
    · exact hk
    · rw [hW.2.2.1] at c204; exact absurd (Int32.le_refl _) c204
  | succ n ih =>
    intro k hkj
    refine zi_ild9 dX9_graft_198 ?_
    refine zi_ald0 dX9_graft_200 ?_
    refine zi_getI dX9_graft_201 flX9_58 rfl (by first | assumption | decide) ?_
    refine zi_icmp_ge 227 dX9_graft_204 (by decide) (fun c204 => ?_) (fun c204 => ?_)
    · rw [hW.2.2.1, zn_le (by omega) (by omega)] at c204; omega
    · refine zi_iconst (nI 3) dX9_graft_207 (by decide) ?_
      refine zi_ild6 dX9_graft_208 ?_
      refine zi_imul dX9_graft_210 ?_
      refine zi_ald0 dX9_graft_211 ?_
      refine zi_getR dX9_graft_212 flX9_29 rfl (by first | assumption | decide) ?_
      refine zi_ild9 dX9_graft_215 ?_
      refine zi_ialdN k dX9_graft_217 (by first | assumption | decide) rfl (zy_b6 (by omega)) (by decide) ?_
      refine zi_iadd dX9_graft_218 ?_
      refine zi_ist6 dX9_graft_219 (Nat.le_of_ble_eq_true rfl) rfl ?_
      refine zi_inc9 (nI 1) dX9_graft_221 (by decide) (Nat.le_of_ble_eq_true rfl) rfl ?_
      refine zi_goto 198 dX9_graft_224 (by decide) ?_
      rw [hW.2.2.2.2 k (by omega), pk_mul, nI_add (3 * _), nI_add k 1, ← zt_code_snoc, List.append_assoc, ← zl_take_succ (by omega)]
      exact ih (k + 1) (by omega)
theorem l9_g230 {x1 x2 x3 x4 x5 x8 : Int32} {t c : Nat} (ht : t ≤ 100) {P : Option Value → zw_S → Prop} (hk : zw_W l G (d + 4) mX9_graft 249 [some (.ref 168), some (.int x1), some (.int x2), some (.int x3), some (.int x4), some (.int x5), some (.int (nI (c * 3 ^ t))), some (.int (nI t)), some (.int x8), some (.int (nI t))] [] σ P) : ∀ n k, k + n = t → zw_W l G (d + 4) mX9_graft 230 [some (.ref 168), some (.int x1), some (.int x2), some (.int x3), some (.int x4), some (.int x5), some (.int (nI (c * 3 ^ k))), some (.int (nI t)), some (.int x8), some (.int (nI k))] [] σ P := by
  intro n
  induction n with
  | zero =>
    intro k hkj
    obtain rfl : k = t := by omega
    refine zi_ild9 dX9_graft_230 ?_
    refine zi_ild7 dX9_graft_232 ?_
    refine zi_icmp_ge 249 dX9_graft_234 (by decide) (fun c234 => ?_) (fun c234 => ?_)
    · exact hk
    · exact absurd (Int32.le_refl _) c234
  | succ n ih =>
    intro k hkj
    refine zi_ild9 dX9_graft_230 ?_
    refine zi_ild7 dX9_graft_232 ?_
    refine zi_icmp_ge 249 dX9_graft_234 (by decide) (fun c234 => ?_) (fun c234 => ?_)
    · rw [zn_le (by omega) (by omega)] at c234; omega
    · refine zi_iconst (nI 3) dX9_graft_237 (by decide) ?_
      refine zi_ild6 dX9_graft_238 ?_
      refine zi_imul dX9_graft_240 ?_
      refine zi_ist6 dX9_graft_241 (Nat.le_of_ble_eq_true rfl) rfl ?_
      refine zi_inc9 (nI 1) dX9_graft_243 (by decide) (Nat.le_of_ble_eq_true rfl) rfl ?_
      refine zi_goto 230 dX9_graft_246 (by decide) ?_
      rw [pk_mul, nI_add, show 3 * (c * 3 ^ k) = c * 3 ^ (k + 1) by rw [Nat.pow_succ, Nat.mul_comm 3, Nat.mul_assoc]]
      exact ih (k + 1) (by omega)
theorem c9_graft (hV : zy_V σ A) {t i u : Int32} : zw_Ti l G (d + 4) mX9_graft [.ref 168, .int t, .int i, .int u] σ (fun x υ => x = (zx_graft A t i u).1 ∧ zy_V υ (zx_graft A t i u).2 ∧ zy_F σ υ) := by
  obtain ⟨h1, -⟩ := id hV
  have hl8 := h1.1
  rcases zn_case t (n := A.1.1.length) (by omega) with ho | ⟨a, ha, rfl⟩
  · have e : zx_graft A t i u = (zx_UN, A) := by unfold zx_graft; rw [zx_ix_out (by omega) ho]
    rw [e]
    refine zw_enter2 (L := [some _, some _, some _, some _, none, none, none, none, none, none]) (by decide) (Nat.le_of_ble_eq_true rfl) rfl ?_
    refine zi_ald0 dX9_graft_0 ?_
    refine zi_ild1 dX9_graft_1 ?_
    refine zi_cV1i vmX9_isTree lkX9_165 dX9_graft_2 (by first | assumption | decide) (Nat.le_of_ble_eq_true rfl) (c9_isTree_out h1 ho) ?_
    rintro _ _ ⟨rfl, rfl⟩
    refine zi_if_eq 16 dX9_graft_5 (by decide) (fun c5 => ?_) (fun c5 => ?_)
    · refine zi_ldc dX9_graft_16 kcX9_189 ?_
      refine zi_iret dX9_graft_18 rfl ?_
      exact ⟨_, rfl, rfl, hV, zy_F.rf⟩
    · exact absurd rfl c5
  · rcases zn_case u (n := A.1.1.length) (by omega) with ho | ⟨b, hb, rfl⟩
    · have e : zx_graft A (nI a) i u = (zx_UN, A) := by unfold zx_graft; rw [zx_ix_in (by omega) ha, zx_ix_out (by omega) ho]
      rw [e]
      refine zw_enter2 (L := [some _, some _, some _, some _, none, none, none, none, none, none]) (by decide) (Nat.le_of_ble_eq_true rfl) rfl ?_
      refine zi_ald0 dX9_graft_0 ?_
      refine zi_ild1 dX9_graft_1 ?_
      refine zi_cV1i vmX9_isTree lkX9_165 dX9_graft_2 (by first | assumption | decide) (Nat.le_of_ble_eq_true rfl) (c9_isTree_in h1 ha) ?_
      rintro _ _ ⟨rfl, rfl⟩
      refine zi_if_eq 16 dX9_graft_5 (by decide) (fun c5 => ?_) (fun c5 => ?_)
      · exact absurd c5 (by decide)
      · refine zi_ald0 dX9_graft_8 ?_
        refine zi_ild3 dX9_graft_9 ?_
        refine zi_cV1i vmX9_isTree lkX9_165 dX9_graft_10 (by first | assumption | decide) (Nat.le_of_ble_eq_true rfl) (c9_isTree_out h1 ho) ?_
        rintro _ _ ⟨rfl, rfl⟩
        refine zi_if_ne 19 dX9_graft_13 (by decide) (fun c13 => ?_) (fun c13 => ?_)
        · exact absurd rfl c13
        · refine zi_ldc dX9_graft_16 kcX9_189 ?_
          refine zi_iret dX9_graft_18 rfl ?_
          exact ⟨_, rfl, rfl, hV, zy_F.rf⟩
    · obtain ⟨hw, hs⟩ := h1.item ha
      obtain ⟨hw2, hs2⟩ := h1.item hb
      obtain ⟨n1, e1, -⟩ := hw.odd
      obtain ⟨n2, e2, -⟩ := hw2.odd
      generalize hX : A.1.1.getD a zg_d = X at hw hs e1
      generalize hY : A.1.1.getD b zg_d = Y at hw2 hs2 e2
      have e : zx_graft A (nI a) i (nI b) = match zp_at (zt_lv X.1) i with
        | none => (zx_UN, A)
        | some j => if A.1.1.length = 8 then (zx_FU, A) else
          if (X.1.length - 1) / 2 + (Y.1.length - 1) / 2 ≤ 6 ∧ X.2 ≠ nI 0 ∧ Y.2 ≠ nI 0 then
            (nI A.1.1.length, zx_dd A (A.1.1 ++ [(X.1.take j ++ Y.1 ++ X.1.drop (j + 1), X.2 * Y.2)], A.1.2))
          else (zx_NO, A) := by unfold zx_graft; rw [zx_ix_in (by omega) ha, zx_ix_in (by omega) hb, ← hX, ← hY]; try rfl
      rw [e]
      refine zw_enter2 (L := [some _, some _, some _, some _, none, none, none, none, none, none]) (by decide) (Nat.le_of_ble_eq_true rfl) rfl ?_
      refine zi_ald0 dX9_graft_0 ?_
      refine zi_ild1 dX9_graft_1 ?_
      refine zi_cV1i vmX9_isTree lkX9_165 dX9_graft_2 (by first | assumption | decide) (Nat.le_of_ble_eq_true rfl) (c9_isTree_in h1 ha) ?_
      rintro _ _ ⟨rfl, rfl⟩
      refine zi_if_eq 16 dX9_graft_5 (by decide) (fun c5 => ?_) (fun c5 => ?_)
      · exact absurd c5 (by decide)
      · refine zi_ald0 dX9_graft_8 ?_
        refine zi_ild3 dX9_graft_9 ?_
        refine zi_cV1i vmX9_isTree lkX9_165 dX9_graft_10 (by first | assumption | decide) (Nat.le_of_ble_eq_true rfl) (c9_isTree_in h1 hb) ?_
        rintro _ _ ⟨rfl, rfl⟩
        refine zi_if_ne 19 dX9_graft_13 (by decide) (fun c13 => ?_) (fun c13 => ?_)
        · refine zi_ald0 dX9_graft_19 ?_
          refine zi_ild3 dX9_graft_20 ?_
          refine zi_cV1v vmX9_openTree lkX9_190 dX9_graft_21 (by first | assumption | decide) (Nat.le_of_ble_eq_true rfl) (c9_openTree h1 hb) ?_
          rintro τ1 ⟨hW1, hS1⟩
          rw [hY] at hW1
          refine zi_ald0 dX9_graft_24 ?_
          refine zi_cV0i vmX9_nodes lkX9_193 dX9_graft_25 (by first | assumption | decide) (Nat.le_of_ble_eq_true rfl) (c9_nodes hW1 hw2) ?_
          rintro _ _ ⟨rfl, rfl⟩
          refine zi_ist4 dX9_graft_28 (Nat.le_of_ble_eq_true rfl) rfl ?_
          refine zi_ald0 dX9_graft_30 ?_
          refine zi_ild1 dX9_graft_31 ?_
          refine zi_cV1v vmX9_openTree lkX9_190 dX9_graft_32 (by first | assumption | decide) (Nat.le_of_ble_eq_true rfl) (c9_openTree (h1.cg hS1.w) ha) ?_
          rintro τ2 ⟨hW2, hS2⟩
          rw [hX] at hW2
          replace hS2 := hS1.tr hS2
          clear hW1
          refine zi_ald0 dX9_graft_35 ?_
          refine zi_ild2 dX9_graft_36 ?_
          refine zi_cV1i vmX9_leafAt lkX9_214 dX9_graft_37 (by first | assumption | decide) (Nat.le_of_ble_eq_true rfl) (c9_leafAt hW2) ?_
          rintro _ _ ⟨rfl, rfl⟩
          have hlf : ∀ k, zp_at (zt_lv X.1) i = some k → k < X.1.length ∧ X.1.getD k 0 = 0 := fun k hk => zt_lv_lt (zp_at_mem hk)
          have hXl := hw.2.2
          have hYl := hw2.2.2
          have hV2 := hV.s hS2
          have hF2 := hS2.q.f
          refine zi_ist5 dX9_graft_40 (Nat.le_of_ble_eq_true rfl) rfl ?_
          refine zi_ild5 dX9_graft_42 ?_
          refine zi_iconst (-1) dX9_graft_44 (by decide) ?_
          refine zi_icmp_ne 51 dX9_graft_45 (by decide) (fun c45 => ?_) (fun c45 => ?_)
          · rw [zp_oI_m1 (fun k hk => by have := (hlf k hk).1; omega)] at c45
            obtain ⟨j, hj⟩ := Option.ne_none_iff_exists'.mp c45
            obtain ⟨hjl, hj0⟩ := hlf j hj
            rw [hj, zp_oI_some]
            simp only
            refine zi_ald0 dX9_graft_51 ?_
            refine zi_getR dX9_graft_52 flX9_7 rfl (by first | assumption | decide) ?_
            refine zi_iconst (nI 0) dX9_graft_55 (by decide) ?_
            refine zi_ialdN 0 dX9_graft_56 (by first | assumption | decide) rfl (zy_b1 (by omega)) (by decide) ?_
            rw [hV2.1.2.2.1]
            refine zi_bipush (nI 8) dX9_graft_57 (by decide) ?_
            refine zi_icmp_ne 65 dX9_graft_59 (by decide) (fun c59 => ?_) (fun c59 => ?_)
            · rw [zn_eq (by omega) (by omega)] at c59
              rw [if_neg c59]
              refine zi_ald0 dX9_graft_65 ?_
              refine zi_cV0i vmX9_nodes lkX9_193 dX9_graft_66 (by first | assumption | decide) (Nat.le_of_ble_eq_true rfl) (c9_nodes hW2 hw) ?_
              rintro _ _ ⟨rfl, rfl⟩
              refine zi_ild4 dX9_graft_69 ?_
              refine zi_iadd dX9_graft_71 ?_
              rw [nI_add]
              refine zi_bipush (nI 6) dX9_graft_72 (by decide) ?_
              refine zi_icmp_gt 101 dX9_graft_74 (by decide) (fun c74 => ?_) (fun c74 => ?_)
              · refine zi_ldc dX9_graft_101 kcX9_217 ?_
                refine zi_iret dX9_graft_103 rfl ?_
                have hn : ¬ ((X.1.length - 1) / 2 + (Y.1.length - 1) / 2 ≤ 6 ∧ X.2 ≠ nI 0 ∧ Y.2 ≠ nI 0) := by
                  rintro ⟨q1, q2, q3⟩
                  first
                  | exact q3 c98
                  | exact q2 c86
                  | (rw [zn_lt (by omega) (by omega)] at c74; omega)
                rw [if_neg hn]
                exact ⟨_, rfl, rfl, hV2, hF2⟩
              · refine zi_ald0 dX9_graft_77 ?_
                refine zi_getR dX9_graft_78 flX9_7 rfl (by first | assumption | decide) ?_
                refine zi_bipush (nI 9) dX9_graft_81 (by decide) ?_
                refine zi_ild1 dX9_graft_83 ?_
                refine zi_iadd dX9_graft_84 ?_
                refine zi_ialdN (9 + a) dX9_graft_85 (by first | assumption | decide) (nI_add _ _) (zy_b1 (by omega)) (by decide) ?_
                rw [hV2.1.s0 ha, hX]
                refine zi_if_eq 101 dX9_graft_86 (by decide) (fun c86 => ?_) (fun c86 => ?_)
                · refine zi_ldc dX9_graft_101 kcX9_217 ?_
                  refine zi_iret dX9_graft_103 rfl ?_
                  have hn : ¬ ((X.1.length - 1) / 2 + (Y.1.length - 1) / 2 ≤ 6 ∧ X.2 ≠ nI 0 ∧ Y.2 ≠ nI 0) := by
                    rintro ⟨q1, q2, q3⟩
                    first
                    | exact q3 c98
                    | exact q2 c86
                    | (rw [zn_lt (by omega) (by omega)] at c74; omega)
                  rw [if_neg hn]
                  exact ⟨_, rfl, rfl, hV2, hF2⟩
                · refine zi_ald0 dX9_graft_89 ?_
                  refine zi_getR dX9_graft_90 flX9_7 rfl (by first | assumption | decide) ?_
                  refine zi_bipush (nI 9) dX9_graft_93 (by decide) ?_
                  refine zi_ild3 dX9_graft_95 ?_
                  refine zi_iadd dX9_graft_96 ?_
                  refine zi_ialdN (9 + b) dX9_graft_97 (by first | assumption | decide) (nI_add _ _) (zy_b1 (by omega)) (by decide) ?_
                  rw [hV2.1.s0 hb, hY]
                  refine zi_if_ne 104 dX9_graft_98 (by decide) (fun c98 => ?_) (fun c98 => ?_)
                  · have hy : (X.1.length - 1) / 2 + (Y.1.length - 1) / 2 ≤ 6 ∧ X.2 ≠ nI 0 ∧ Y.2 ≠ nI 0 := by
                      refine ⟨?_, c86, c98⟩
                      rw [zn_lt (by omega) (by omega)] at c74; omega
                    rw [if_pos hy]
                    have hgw := zt_graft_wd hw hw2 hjl hj0 (by omega)
                    refine zi_ald0 dX9_graft_104 ?_
                    refine zi_cV0v vmX9_remember lkX9_156 dX9_graft_105 (by first | assumption | decide) (Nat.le_of_ble_eq_true rfl) (c9_remember hV2) ?_
                    rintro τ3 ⟨hV3, hM3⟩
                    have hW3 := hM3.w hW2
                    have hF3 := hF2.tr hM3.f
                    refine zi_iconst (nI 0) dX9_graft_108 (by decide) ?_
                    refine zi_ist6 dX9_graft_109 (Nat.le_of_ble_eq_true rfl) rfl ?_
                    refine zi_iconst (nI 0) dX9_graft_111 (by decide) ?_
                    refine zi_ist7 dX9_graft_112 (Nat.le_of_ble_eq_true rfl) rfl ?_
                    refine l9_g114 hW3 (show j ≤ X.1.length by omega) ?_ j 0 (by omega)
                    refine zi_ald0 dX9_graft_141 ?_
                    refine zi_getI dX9_graft_142 flX9_58 rfl (by first | assumption | decide) ?_
                    rw [hW3.2.2.1]
                    refine zi_ild5 dX9_graft_145 ?_
                    refine zi_isub dX9_graft_147 ?_
                    refine zi_iconst (nI 1) dX9_graft_148 (by decide) ?_
                    refine zi_isub dX9_graft_149 ?_
                    rw [pk_sub (show j ≤ X.1.length by omega), pk_sub (show 1 ≤ X.1.length - j by omega)]
                    refine zi_ist7 dX9_graft_150 (Nat.le_of_ble_eq_true rfl) rfl ?_
                    refine zi_iconst (nI 0) dX9_graft_152 (by decide) ?_
                    refine zi_ist8 dX9_graft_153 (Nat.le_of_ble_eq_true rfl) rfl ?_
                    refine zi_ild5 dX9_graft_155 ?_
                    refine zi_iconst (nI 1) dX9_graft_157 (by decide) ?_
                    refine zi_iadd dX9_graft_158 ?_
                    rw [nI_add]
                    refine zi_ist9 dX9_graft_159 (Nat.le_of_ble_eq_true rfl) rfl ?_
                    refine l9_g161 hW3 hjl ?_ (X.1.length - (j + 1)) 0 (by omega)
                    refine zi_ald0 dX9_graft_190 ?_
                    refine zi_ild3 dX9_graft_191 ?_
                    refine zi_cV1v vmX9_openTree lkX9_190 dX9_graft_192 (by first | assumption | decide) (Nat.le_of_ble_eq_true rfl) (c9_openTree hV3.1 hb) ?_
                    rintro τ4 ⟨hW4, hS4⟩
                    rw [show (zx_dd A A.1).1.1.getD b zg_d = Y from hY] at hW4
                    have hV4 := hV3.s hS4
                    have hF4 := hF3.tr hS4.q.f
                    refine zi_iconst (nI 0) dX9_graft_195 (by decide) ?_
                    refine zi_ist9 dX9_graft_196 (Nat.le_of_ble_eq_true rfl) rfl ?_
                    have key : ∀ (P : Option Value → zw_S → Prop) (L : List Nat), X.1.take j = L ++ Y.1.take 0 → zw_W l G (d + 3 + 1) mX9_graft 198 [some (.ref 168), some (.int (nI a)), some (.int i), some (.int (nI b)), some (.int (nI ((Y.1.length - 1) / 2))), some (.int (nI j)), some (.int (nI (zt_code (L ++ Y.1.take 0)))), some (.int (nI (X.1.length - j - 1))), some (.int (nI (zt_code (X.1.drop (j + 1))))), some (.int (nI 0))] [] τ4 P → zw_W l G (d + 3 + 1) mX9_graft 198 [some (.ref 168), some (.int (nI a)), some (.int i), some (.int (nI b)), some (.int (nI ((Y.1.length - 1) / 2))), some (.int (nI j)), some (.int (nI (zt_code (X.1.take j)))), some (.int (nI (X.1.length - j - 1))), some (.int (nI (zt_code (X.1.drop (j + 1))))), some (.int (nI 0))] [] τ4 P := fun P L eL h => by rw [eL]; exact h
                    refine key _ (X.1.take j) (by rw [List.take_zero, List.append_nil]) ?_
                    refine l9_g198 hW4 ?_ Y.1.length 0 (by omega)
                    refine zi_iconst (nI 0) dX9_graft_227 (by decide) ?_
                    refine zi_ist9 dX9_graft_228 (Nat.le_of_ble_eq_true rfl) rfl ?_
                    rw [show zt_code (X.1.take j ++ Y.1) = zt_code (X.1.take j ++ Y.1) * 3 ^ 0 by rw [Nat.pow_zero, Nat.mul_one]]
                    refine l9_g230 (t := X.1.length - j - 1) (by omega) ?_ (X.1.length - j - 1) 0 (by omega)
                    refine zi_ald0 dX9_graft_249 ?_
                    refine zi_ild6 dX9_graft_250 ?_
                    refine zi_ild8 dX9_graft_252 ?_
                    refine zi_iadd dX9_graft_254 ?_
                    refine zi_ald0 dX9_graft_255 ?_
                    refine zi_getR dX9_graft_256 flX9_7 rfl (by first | assumption | decide) ?_
                    refine zi_bipush (nI 9) dX9_graft_259 (by decide) ?_
                    refine zi_ild1 dX9_graft_261 ?_
                    refine zi_iadd dX9_graft_262 ?_
                    refine zi_ialdN (9 + a) dX9_graft_263 (by first | assumption | decide) (nI_add _ _) (zy_b1 (by omega)) (by decide) ?_
                    rw [hV4.1.s0 ha, show (zx_dd A A.1).1.1.getD a zg_d = X from hX]
                    refine zi_ald0 dX9_graft_264 ?_
                    refine zi_getR dX9_graft_265 flX9_7 rfl (by first | assumption | decide) ?_
                    refine zi_bipush (nI 9) dX9_graft_268 (by decide) ?_
                    refine zi_ild3 dX9_graft_270 ?_
                    refine zi_iadd dX9_graft_271 ?_
                    refine zi_ialdN (9 + b) dX9_graft_272 (by first | assumption | decide) (nI_add _ _) (zy_b1 (by omega)) (by decide) ?_
                    rw [hV4.1.s0 hb, show (zx_dd A A.1).1.1.getD b zg_d = Y from hY]
                    refine zi_imul dX9_graft_273 ?_
                    rw [nI_add, show X.1.length - j - 1 = (X.1.drop (j + 1)).length by rw [List.length_drop]; omega, ← zt_code_app]
                    refine zi_cV2v vmX9_open lkX9_64 dX9_graft_274 (by first | assumption | decide) (Nat.le_of_ble_eq_true rfl) (c9_open hgw.2.1 hgw.nm hgw.2.2) ?_
                    rintro τ5 ⟨hW5, hS5⟩
                    have hV5 := hV4.s hS5
                    refine zi_ald0 dX9_graft_277 ?_
                    refine zi_cV0i vmX9_shelve lkX9_159 dX9_graft_278 (by first | assumption | decide) (Nat.le_of_ble_eq_true rfl) (c9_shelve hV5.1 (show A.1.1.length < 8 by omega) hW5 hgw (zg_s_mul hs hs2 hy.2.1 hy.2.2)) ?_
                    rintro _ τ6 ⟨rfl, hR6, hQ6⟩
                    refine zi_iret dX9_graft_281 rfl ?_
                    exact ⟨_, rfl, rfl, hV5.q hQ6 hR6, (hF4.tr hS5.q.f).tr hQ6.f⟩
                  · refine zi_ldc dX9_graft_101 kcX9_217 ?_
                    refine zi_iret dX9_graft_103 rfl ?_
                    have hn : ¬ ((X.1.length - 1) / 2 + (Y.1.length - 1) / 2 ≤ 6 ∧ X.2 ≠ nI 0 ∧ Y.2 ≠ nI 0) := by
                      rintro ⟨q1, q2, q3⟩
                      first
                      | exact q3 c98
                      | exact q2 c86
                      | (rw [zn_lt (by omega) (by omega)] at c74; omega)
                    rw [if_neg hn]
                    exact ⟨_, rfl, rfl, hV2, hF2⟩
            · refine zi_ldc dX9_graft_62 kcX9_152 ?_
              refine zi_iret dX9_graft_64 rfl ?_
              rw [zn_eq (by omega) (by omega)] at c59
              rw [if_pos c59]
              exact ⟨_, rfl, rfl, hV2, hF2⟩
          · rw [zp_oI_m1 (fun k hk => by have := (hlf k hk).1; omega)] at c45
            rw [c45]
            refine zi_ldc dX9_graft_48 kcX9_189 ?_
            refine zi_iret dX9_graft_50 rfl ?_
            exact ⟨_, rfl, rfl, hV2, hF2⟩
        · exact absurd c13 (by decide)
theorem c9_step (hV : zy_V σ A) {t k : Int32} : zw_Ti l G (d + 6) mX9_step [.ref 168, .int t, .int k] σ (fun x υ => x = (zx_step A t k).1 ∧ zy_V υ (zx_step A t k).2 ∧ zy_F σ υ) := by
  obtain ⟨h1, -⟩ := id hV
  have hl8 := h1.1
  rcases zn_case t (n := A.1.1.length) (by omega) with ho | ⟨a, ha, rfl⟩
  · have e : zx_step A t k = (zx_UN, A) := by unfold zx_step; rw [zx_ix_out (by omega) ho]
    rw [e]
    refine zw_enter2 (L := [some _, some _, some _, none]) (by decide) (Nat.le_of_ble_eq_true rfl) rfl ?_
    refine zi_ald0 dX9_step_0 ?_
    refine zi_ild1 dX9_step_1 ?_
    refine zi_cV1i vmX9_isTree lkX9_165 dX9_step_2 (by first | assumption | decide) (Nat.le_of_ble_eq_true rfl) (c9_isTree_out h1 ho) ?_
    rintro _ _ ⟨rfl, rfl⟩
    refine zi_if_ne 11 dX9_step_5 (by decide) (fun c5 => ?_) (fun c5 => ?_)
    · exact absurd rfl c5
    · refine zi_ldc dX9_step_8 kcX9_189 ?_
      refine zi_iret dX9_step_10 rfl ?_
      exact ⟨_, rfl, rfl, hV, zy_F.rf⟩
  · obtain ⟨hw, hs⟩ := h1.item ha
    have hXl := hw.2.2
    generalize hX : A.1.1.getD a zg_d = X at hw hs hXl
    have e : zx_step A (nI a) k = match zp_at (zt_sp A.1.2.1 X.1) k with
      | none => (zx_OU, A)
      | some j => (nI (zt_sp A.1.2.1 (zt_st A.1.2.1 A.1.2.2 X.1 X.2 j).1).length, zx_dd A (A.1.1.set a (zt_st A.1.2.1 A.1.2.2 X.1 X.2 j), A.1.2)) := by unfold zx_step; rw [zx_ix_in (by omega) ha, ← hX]; try rfl
    rw [e]
    refine zw_enter2 (L := [some _, some _, some _, none]) (by decide) (Nat.le_of_ble_eq_true rfl) rfl ?_
    refine zi_ald0 dX9_step_0 ?_
    refine zi_ild1 dX9_step_1 ?_
    refine zi_cV1i vmX9_isTree lkX9_165 dX9_step_2 (by first | assumption | decide) (Nat.le_of_ble_eq_true rfl) (c9_isTree_in h1 ha) ?_
    rintro _ _ ⟨rfl, rfl⟩
    refine zi_if_ne 11 dX9_step_5 (by decide) (fun c5 => ?_) (fun c5 => ?_)
    · refine zi_ald0 dX9_step_11 ?_
      refine zi_ild1 dX9_step_12 ?_
      refine zi_cV1v vmX9_openTree lkX9_190 dX9_step_13 (by first | assumption | decide) (Nat.le_of_ble_eq_true rfl) (c9_openTree h1 ha) ?_
      rintro τ1 ⟨hW1, hS1⟩
      rw [hX] at hW1
      have hV1 := hV.s hS1
      have hF1 := hS1.q.f
      have hR1 := hV1.1.2.2.2.2
      have hlf : ∀ j, zp_at (zt_sp A.1.2.1 X.1) k = some j → j < 2 * X.1.length ∧ zt_bi A.1.2.1 X.1 j = true := fun j hj => by
        obtain ⟨p, q⟩ := List.mem_filter.mp (zp_at_mem hj)
        exact ⟨List.mem_range.mp p, q⟩
      refine zi_ild2 dX9_step_16 ?_
      refine zi_if_ge 24 dX9_step_17 (by decide) (fun c17 => ?_) (fun c17 => ?_)
      · refine zi_ald0 dX9_step_24 ?_
        refine zi_ild2 dX9_step_25 ?_
        refine zi_cV1i vmX9_placeAt lkX9_96 dX9_step_26 (by first | assumption | decide) (Nat.le_of_ble_eq_true rfl) (c9_placeAt hW1 hw.1 hR1) ?_
        rintro _ _ ⟨rfl, rfl⟩
        refine zi_ist3 dX9_step_29 (Nat.le_of_ble_eq_true rfl) rfl ?_
        refine zi_ild3 dX9_step_30 ?_
        refine zi_iconst (-1) dX9_step_31 (by decide) ?_
        refine zi_icmp_ne 38 dX9_step_32 (by decide) (fun c32 => ?_) (fun c32 => ?_)
        · rw [zp_oI_m1 (fun j hj => by have := (hlf j hj).1; omega)] at c32
          obtain ⟨j, hj⟩ := Option.ne_none_iff_exists'.mp c32
          obtain ⟨hjl, hjb⟩ := hlf j hj
          rw [hj, zp_oI_some]
          simp only
          have hr3 := (hR1 _ (zt_bi_lt hjb).1).2.2.1
          have hgw := zt_st_wd (fa := A.1.2.1) (go := A.1.2.2) (s := X.2) hw (zt_bi_lt hjb).1 (fun q => hr3.mp (by have := (zt_bi_lt hjb).2; omega))
          have hgs := zg_s_st (go := A.1.2.2) hs hjb
          refine zi_ald0 dX9_step_38 ?_
          refine zi_cV0v vmX9_remember lkX9_156 dX9_step_39 (by first | assumption | decide) (Nat.le_of_ble_eq_true rfl) (c9_remember hV1) ?_
          rintro τ2 ⟨hV2, hM2⟩
          have hW2 := hM2.w hW1
          refine zi_ald0 dX9_step_42 ?_
          refine zi_ild3 dX9_step_43 ?_
          refine zi_cV1v vmX9_stepAt lkX9_99 dX9_step_44 (by first | assumption | decide) (Nat.le_of_ble_eq_true rfl) (c9_stepAt hW2 hw hV2.1.2.2.2.2 hjb) ?_
          rintro τ3 ⟨hW3, hS3⟩
          have hV3 := hV2.s hS3
          refine zi_ald0 dX9_step_47 ?_
          refine zi_ild1 dX9_step_48 ?_
          refine zi_cV1v vmX9_lay lkX9_211 dX9_step_49 (by first | assumption | decide) (Nat.le_of_ble_eq_true rfl) (c9_layT hV3.1 hW3 ha hgw hgs) ?_
          rintro τ4 ⟨hR4, hQ4, hW4, -⟩
          refine zi_ald0 dX9_step_52 ?_
          refine zi_cV0i vmX9_places lkX9_106 dX9_step_53 (by first | assumption | decide) (Nat.le_of_ble_eq_true rfl) (c9_places hW4 hgw.1 hR4.2.2.2.2) ?_
          rintro _ _ ⟨rfl, rfl⟩
          refine zi_iret dX9_step_56 rfl ?_
          exact ⟨_, rfl, rfl, hV3.q hQ4 hR4, ((hF1.tr hM2.f).tr hS3.q.f).tr hQ4.f⟩
        · refine zi_ldc dX9_step_35 kcX9_148 ?_
          refine zi_iret dX9_step_37 rfl ?_
          rw [zp_oI_m1 (fun j hj => by have := (hlf j hj).1; omega)] at c32
          rw [c32]
          exact ⟨_, rfl, rfl, hV1, hF1⟩
      · refine zi_iconst (-1) dX9_step_20 (by decide) ?_
        have q : zp_at (zt_sp A.1.2.1 X.1) k = none := by
          unfold zp_at; exact if_pos (Int32.not_le.mp c17)
        rw [show (-1 : Int32) = zp_oI (zp_at (zt_sp A.1.2.1 X.1) k) by rw [q]; rfl]
        refine zi_goto 29 dX9_step_21 (by decide) ?_
        refine zi_ist3 dX9_step_29 (Nat.le_of_ble_eq_true rfl) rfl ?_
        refine zi_ild3 dX9_step_30 ?_
        refine zi_iconst (-1) dX9_step_31 (by decide) ?_
        refine zi_icmp_ne 38 dX9_step_32 (by decide) (fun c32 => ?_) (fun c32 => ?_)
        · rw [zp_oI_m1 (fun j hj => by have := (hlf j hj).1; omega)] at c32
          obtain ⟨j, hj⟩ := Option.ne_none_iff_exists'.mp c32
          obtain ⟨hjl, hjb⟩ := hlf j hj
          rw [hj, zp_oI_some]
          simp only
          have hr3 := (hR1 _ (zt_bi_lt hjb).1).2.2.1
          have hgw := zt_st_wd (fa := A.1.2.1) (go := A.1.2.2) (s := X.2) hw (zt_bi_lt hjb).1 (fun q => hr3.mp (by have := (zt_bi_lt hjb).2; omega))
          have hgs := zg_s_st (go := A.1.2.2) hs hjb
          refine zi_ald0 dX9_step_38 ?_
          refine zi_cV0v vmX9_remember lkX9_156 dX9_step_39 (by first | assumption | decide) (Nat.le_of_ble_eq_true rfl) (c9_remember hV1) ?_
          rintro τ2 ⟨hV2, hM2⟩
          have hW2 := hM2.w hW1
          refine zi_ald0 dX9_step_42 ?_
          refine zi_ild3 dX9_step_43 ?_
          refine zi_cV1v vmX9_stepAt lkX9_99 dX9_step_44 (by first | assumption | decide) (Nat.le_of_ble_eq_true rfl) (c9_stepAt hW2 hw hV2.1.2.2.2.2 hjb) ?_
          rintro τ3 ⟨hW3, hS3⟩
          have hV3 := hV2.s hS3
          refine zi_ald0 dX9_step_47 ?_
          refine zi_ild1 dX9_step_48 ?_
          refine zi_cV1v vmX9_lay lkX9_211 dX9_step_49 (by first | assumption | decide) (Nat.le_of_ble_eq_true rfl) (c9_layT hV3.1 hW3 ha hgw hgs) ?_
          rintro τ4 ⟨hR4, hQ4, hW4, -⟩
          refine zi_ald0 dX9_step_52 ?_
          refine zi_cV0i vmX9_places lkX9_106 dX9_step_53 (by first | assumption | decide) (Nat.le_of_ble_eq_true rfl) (c9_places hW4 hgw.1 hR4.2.2.2.2) ?_
          rintro _ _ ⟨rfl, rfl⟩
          refine zi_iret dX9_step_56 rfl ?_
          exact ⟨_, rfl, rfl, hV3.q hQ4 hR4, ((hF1.tr hM2.f).tr hS3.q.f).tr hQ4.f⟩
        · refine zi_ldc dX9_step_35 kcX9_148 ?_
          refine zi_iret dX9_step_37 rfl ?_
          rw [zp_oI_m1 (fun j hj => by have := (hlf j hj).1; omega)] at c32
          rw [c32]
          exact ⟨_, rfl, rfl, hV1, hF1⟩
    · exact absurd c5 (by decide)
theorem c9_plain (hV : zy_V σ A) {t : Int32} : zw_Ti l G (d + 7) mX9_plain [.ref 168, .int t] σ (fun x υ => x = (zx_plain A t).1 ∧ zy_V υ (zx_plain A t).2 ∧ zy_F σ υ) := by
  obtain ⟨h1, -⟩ := id hV
  have hl8 := h1.1
  rcases zn_case t (n := A.1.1.length) (by omega) with ho | ⟨a, ha, rfl⟩
  · have e : zx_plain A t = (zx_UN, A) := by unfold zx_plain; rw [zx_ix_out (by omega) ho]
    rw [e]
    refine zw_enter2 (L := [some _, some _, none]) (by decide) (Nat.le_of_ble_eq_true rfl) rfl ?_
    refine zi_ald0 dX9_plain_0 ?_
    refine zi_ild1 dX9_plain_1 ?_
    refine zi_cV1i vmX9_isTree lkX9_165 dX9_plain_2 (by first | assumption | decide) (Nat.le_of_ble_eq_true rfl) (c9_isTree_out h1 ho) ?_
    rintro _ _ ⟨rfl, rfl⟩
    refine zi_if_ne 11 dX9_plain_5 (by decide) (fun c5 => ?_) (fun c5 => ?_)
    · exact absurd rfl c5
    · refine zi_ldc dX9_plain_8 kcX9_189 ?_
      refine zi_iret dX9_plain_10 rfl ?_
      exact ⟨_, rfl, rfl, hV, zy_F.rf⟩
  · obtain ⟨hw, hs⟩ := h1.item ha
    generalize hX : A.1.1.getD a zg_d = X at hw hs
    have e : zx_plain A (nI a) = match zt_pl A.1.2.1 A.1.2.2 60 0 X.1 X.2 with
      | none => (zx_NO, A)
      | some x => (nI x.1, zx_dd A (A.1.1.set a x.2, A.1.2)) := by unfold zx_plain; rw [zx_ix_in (by omega) ha, ← hX]; try rfl
    rw [e]
    refine zw_enter2 (L := [some _, some _, none]) (by decide) (Nat.le_of_ble_eq_true rfl) rfl ?_
    refine zi_ald0 dX9_plain_0 ?_
    refine zi_ild1 dX9_plain_1 ?_
    refine zi_cV1i vmX9_isTree lkX9_165 dX9_plain_2 (by first | assumption | decide) (Nat.le_of_ble_eq_true rfl) (c9_isTree_in h1 ha) ?_
    rintro _ _ ⟨rfl, rfl⟩
    refine zi_if_ne 11 dX9_plain_5 (by decide) (fun c5 => ?_) (fun c5 => ?_)
    · refine zi_ald0 dX9_plain_11 ?_
      refine zi_ild1 dX9_plain_12 ?_
      refine zi_cV1v vmX9_openTree lkX9_190 dX9_plain_13 (by first | assumption | decide) (Nat.le_of_ble_eq_true rfl) (c9_openTree h1 ha) ?_
      rintro τ1 ⟨hW1, hS1⟩
      rw [hX] at hW1
      refine zi_ald0 dX9_plain_16 ?_
      refine zi_cV0i vmX9_makePlain lkX9_114 dX9_plain_17 (by first | assumption | decide) (Nat.le_of_ble_eq_true rfl) (c9_makePlain hW1 (h1.cg hS1.w).2.2.2.2 hw) ?_
      rintro y2 τ2 ⟨hS2, hE2⟩
      replace hS2 := hS1.tr hS2
      have hV2 := hV.s hS2
      have hF2 := hS2.q.f
      refine zi_ist2 dX9_plain_20 (Nat.le_of_ble_eq_true rfl) rfl ?_
      refine zi_ild2 dX9_plain_21 ?_
      refine zi_iconst (-1) dX9_plain_22 (by decide) ?_
      refine zi_icmp_ne 29 dX9_plain_23 (by decide) (fun c23 => ?_) (fun c23 => ?_)
      · obtain ⟨n', w', s', hp, -, hy2, hW2, hw2⟩ : ∃ n' w' s', zt_pl A.1.2.1 A.1.2.2 60 0 X.1 X.2 = some (n', w', s') ∧ n' ≤ 60 ∧ y2 = nI n' ∧ zy_w τ2 w' s' ∧ zt_wd w' := by
          rcases hE2 with ⟨h, -⟩ | h
          · exact absurd h c23
          · exact h
        have hgs := zg_s_pl 60 0 X.1 X.2 hs _ hp
        rw [hp]
        simp only
        subst hy2
        refine zi_ald0 dX9_plain_29 ?_
        refine zi_cV0v vmX9_remember lkX9_156 dX9_plain_30 (by first | assumption | decide) (Nat.le_of_ble_eq_true rfl) (c9_remember hV2) ?_
        rintro τ3 ⟨hV3, hM3⟩
        have hW3 := hM3.w hW2
        refine zi_ald0 dX9_plain_33 ?_
        refine zi_ild1 dX9_plain_34 ?_
        refine zi_cV1v vmX9_lay lkX9_211 dX9_plain_35 (by first | assumption | decide) (Nat.le_of_ble_eq_true rfl) (c9_layT hV3.1 hW3 ha hw2 hgs) ?_
        rintro τ4 ⟨hR4, hQ4, -, -⟩
        refine zi_ild2 dX9_plain_38 ?_
        refine zi_iret dX9_plain_39 rfl ?_
        exact ⟨_, rfl, rfl, hV3.q hQ4 hR4, (hF2.tr hM3.f).tr hQ4.f⟩
      · refine zi_ldc dX9_plain_26 kcX9_217 ?_
        refine zi_iret dX9_plain_28 rfl ?_
        rcases hE2 with ⟨-, h⟩ | ⟨n', w', s', h, h1, h2, -, h5⟩
        · rw [h]
          exact ⟨_, rfl, rfl, hV2, hF2⟩
        · rw [h2, zn_m1 n' (by omega)] at c23; exact absurd c23 id
    · exact absurd c5 (by decide)
theorem c9_mirror (hV : zy_V σ A) {t : Int32} : zw_Ti l G (d + 3) mX9_mirror [.ref 168, .int t] σ (fun x υ => x = (zx_mirror A t).1 ∧ zy_V υ (zx_mirror A t).2 ∧ zy_F σ υ) := by
  obtain ⟨h1, -⟩ := id hV
  have hl8 := h1.1
  rcases zn_case t (n := A.1.1.length) (by omega) with ho | ⟨a, ha, rfl⟩
  · have e : zx_mirror A t = (zx_UN, A) := by unfold zx_mirror; rw [zx_ix_out (by omega) ho]
    rw [e]
    refine zw_enter2 (L := [some _, some _]) (by decide) (Nat.le_of_ble_eq_true rfl) rfl ?_
    refine zi_ald0 dX9_mirror_0 ?_
    refine zi_ild1 dX9_mirror_1 ?_
    refine zi_cV1i vmX9_isTree lkX9_165 dX9_mirror_2 (by first | assumption | decide) (Nat.le_of_ble_eq_true rfl) (c9_isTree_out h1 ho) ?_
    rintro _ _ ⟨rfl, rfl⟩
    refine zi_if_ne 11 dX9_mirror_5 (by decide) (fun c5 => ?_) (fun c5 => ?_)
    · exact absurd rfl c5
    · refine zi_ldc dX9_mirror_8 kcX9_189 ?_
      refine zi_iret dX9_mirror_10 rfl ?_
      exact ⟨_, rfl, rfl, hV, zy_F.rf⟩
  · obtain ⟨hw, hs⟩ := h1.item ha
    generalize hX : A.1.1.getD a zg_d = X at hw hs
    have e : zx_mirror A (nI a) = (nI (zt_code (zm_r X.1)), zx_dd A (A.1.1.set a (zm_r X.1, X.2), A.1.2)) := by unfold zx_mirror; rw [zx_ix_in (by omega) ha, ← hX]; try rfl
    rw [e]
    have hgs : zg_s (zm_r X.1, X.2) := by
      rcases hs with q | q | ⟨q1, q2⟩
      · exact Or.inl q
      · exact Or.inr (Or.inl q)
      · exact Or.inr (Or.inr ⟨q1, by show zm_r X.1 = [0]; rw [q2]; rfl⟩)
    refine zw_enter2 (L := [some _, some _]) (by decide) (Nat.le_of_ble_eq_true rfl) rfl ?_
    refine zi_ald0 dX9_mirror_0 ?_
    refine zi_ild1 dX9_mirror_1 ?_
    refine zi_cV1i vmX9_isTree lkX9_165 dX9_mirror_2 (by first | assumption | decide) (Nat.le_of_ble_eq_true rfl) (c9_isTree_in h1 ha) ?_
    rintro _ _ ⟨rfl, rfl⟩
    refine zi_if_ne 11 dX9_mirror_5 (by decide) (fun c5 => ?_) (fun c5 => ?_)
    · refine zi_ald0 dX9_mirror_11 ?_
      refine zi_cV0v vmX9_remember lkX9_156 dX9_mirror_12 (by first | assumption | decide) (Nat.le_of_ble_eq_true rfl) (c9_remember hV) ?_
      rintro τ1 ⟨hV1, hM1⟩
      refine zi_ald0 dX9_mirror_15 ?_
      refine zi_ild1 dX9_mirror_16 ?_
      refine zi_cV1v vmX9_openTree lkX9_190 dX9_mirror_17 (by first | assumption | decide) (Nat.le_of_ble_eq_true rfl) (c9_openTree hV1.1 ha) ?_
      rintro τ2 ⟨hW2, hS2⟩
      rw [show (zx_dd A A.1).1.1.getD a zg_d = X from hX] at hW2
      refine zi_ald0 dX9_mirror_20 ?_
      refine zi_cV0v vmX9_turn lkX9_186 dX9_mirror_21 (by first | assumption | decide) (Nat.le_of_ble_eq_true rfl) (c9_turn hW2 hw) ?_
      rintro τ3 ⟨hW3, hS3⟩
      replace hS3 := hS2.tr hS3
      have hV3 := hV1.s hS3
      refine zi_ald0 dX9_mirror_24 ?_
      refine zi_ild1 dX9_mirror_25 ?_
      refine zi_cV1v vmX9_lay lkX9_211 dX9_mirror_26 (by first | assumption | decide) (Nat.le_of_ble_eq_true rfl) (c9_layT hV3.1 hW3 ha (zm_r_wd hw) hgs) ?_
      rintro τ4 ⟨hR4, hQ4, -, hc4⟩
      refine zi_ald0 dX9_mirror_29 ?_
      refine zi_getR dX9_mirror_30 flX9_7 rfl (by first | assumption | decide) ?_
      refine zi_iconst (nI 1) dX9_mirror_33 (by decide) ?_
      refine zi_ild1 dX9_mirror_34 ?_
      refine zi_iadd dX9_mirror_35 ?_
      refine zi_ialdN (1 + a) dX9_mirror_36 (by first | assumption | decide) (nI_add _ _) (zy_b1 (by omega)) (by decide) ?_
      refine zi_iret dX9_mirror_37 rfl ?_
      exact ⟨_, rfl, hc4, hV3.q hQ4 hR4, (hM1.f.tr hS3.q.f).tr hQ4.f⟩
    · exact absurd c5 (by decide)
theorem l9_take (hR : zy_R σ 0 X) {t : Nat} (ht : t < X.1.length) : ∀ n i τ, i + n + 1 = X.1.length → t ≤ i → zy_Q σ τ → τ.1 (168 + 1) 0 = nI (X.1.length - 1) → (∀ j, 17 ≤ j → τ.1 (168 + 1) j = σ.1 (168 + 1) j) → (∀ j, j < X.1.length → τ.1 (168 + 1) (1 + j) = σ.1 (168 + 1) (1 + (if t ≤ j ∧ j < i then j + 1 else j)) ∧ τ.1 (168 + 1) (9 + j) = σ.1 (168 + 1) (9 + (if t ≤ j ∧ j < i then j + 1 else j))) → zw_W l G (d + 3) mX9_take 27 [some (.ref 168), some (.int (nI t)), some (.int (nI i))] [] τ (fun x υ => ∃ y, x = some (.int y) ∧ y = nI (X.1.length - 1) ∧ zy_R υ 0 (X.1.eraseIdx t, X.2) ∧ zy_Q σ υ) := by
  obtain ⟨v1, v2, v3, v4, v5⟩ := id hR
  intro n
  induction n with
  | zero =>
    intro i τ hi hti hQ h0 hr hI
    refine zi_ild2 dX9_take_27 ?_
    refine zi_ald0 dX9_take_28 ?_
    refine zi_getR dX9_take_29 flX9_7 rfl (by first | assumption | decide) ?_
    refine zi_iconst (nI 0) dX9_take_32 (by decide) ?_
    refine zi_ialdN 0 dX9_take_33 (by first | assumption | decide) rfl (zy_b1 (by omega)) (by decide) ?_
    rw [h0]
    refine zi_icmp_ge 81 dX9_take_34 (by decide) (fun c34 => ?_) (fun c34 => ?_)
    · refine zi_ald0 dX9_take_81 ?_
      refine zi_getR dX9_take_82 flX9_7 rfl (by first | assumption | decide) ?_
      refine zi_iconst (nI 0) dX9_take_85 (by decide) ?_
      refine zi_ialdN 0 dX9_take_86 (by first | assumption | decide) rfl (zy_b1 (by omega)) (by decide) ?_
      refine zi_iret dX9_take_87 rfl ?_
      refine ⟨_, rfl, h0, ⟨by rw [List.length_eraseIdx]; split <;> omega, fun x hx => v2 x (List.mem_of_mem_eraseIdx hx), ?_, fun j hj => ?_, fun p hp => ?_⟩, hQ⟩
      · rw [h0, List.length_eraseIdx, if_pos ht]
      · rw [List.length_eraseIdx, if_pos ht] at hj
        rw [Nat.zero_add, Nat.zero_add, (hI j (by omega)).1, (hI j (by omega)).2, zd_erase]
        by_cases q : j < t
        · rw [if_neg (by omega), if_pos q]
          have := v4 j (by omega)
          rwa [Nat.zero_add, Nat.zero_add] at this
        · rw [if_pos (by omega), if_neg q]
          have := v4 (j + 1) (by omega)
          rwa [Nat.zero_add, Nat.zero_add] at this
      · rw [hr _ (by omega), hr _ (by omega)]; exact v5 p hp
    · rw [zn_le (by omega) (by omega)] at c34; omega
  | succ n ih =>
    intro i τ hi hti hQ h0 hr hI
    refine zi_ild2 dX9_take_27 ?_
    refine zi_ald0 dX9_take_28 ?_
    refine zi_getR dX9_take_29 flX9_7 rfl (by first | assumption | decide) ?_
    refine zi_iconst (nI 0) dX9_take_32 (by decide) ?_
    refine zi_ialdN 0 dX9_take_33 (by first | assumption | decide) rfl (zy_b1 (by omega)) (by decide) ?_
    rw [h0]
    refine zi_icmp_ge 81 dX9_take_34 (by decide) (fun c34 => ?_) (fun c34 => ?_)
    · rw [zn_le (by omega) (by omega)] at c34; omega
    · refine zi_ald0 dX9_take_37 ?_
      refine zi_getR dX9_take_38 flX9_7 rfl (by first | assumption | decide) ?_
      refine zi_iconst (nI 1) dX9_take_41 (by decide) ?_
      refine zi_ild2 dX9_take_42 ?_
      refine zi_iadd dX9_take_43 ?_
      refine zi_ald0 dX9_take_44 ?_
      refine zi_getR dX9_take_45 flX9_7 rfl (by first | assumption | decide) ?_
      refine zi_iconst (nI 1) dX9_take_48 (by decide) ?_
      refine zi_ild2 dX9_take_49 ?_
      refine zi_iadd dX9_take_50 ?_
      refine zi_iconst (nI 1) dX9_take_51 (by decide) ?_
      refine zi_iadd dX9_take_52 ?_
      refine zi_ialdN (1 + (i + 1)) dX9_take_53 (by first | assumption | decide) (by rw [nI_add, nI_add]; congr 1) (zy_b1 (by omega)) (by decide) ?_
      refine zi_iastN (1 + i) dX9_take_54 (by first | assumption | decide) (nI_add _ _) (zy_b1 (by omega)) (by decide) ?_
      refine zi_ald0 dX9_take_55 ?_
      refine zi_getR dX9_take_56 flX9_7 rfl (by first | assumption | decide) ?_
      refine zi_bipush (nI 9) dX9_take_59 (by decide) ?_
      refine zi_ild2 dX9_take_61 ?_
      refine zi_iadd dX9_take_62 ?_
      refine zi_ald0 dX9_take_63 ?_
      refine zi_getR dX9_take_64 flX9_7 rfl (by first | assumption | decide) ?_
      refine zi_bipush (nI 9) dX9_take_67 (by decide) ?_
      refine zi_ild2 dX9_take_69 ?_
      refine zi_iadd dX9_take_70 ?_
      refine zi_iconst (nI 1) dX9_take_71 (by decide) ?_
      refine zi_iadd dX9_take_72 ?_
      refine zi_ialdN (9 + (i + 1)) dX9_take_73 (by first | assumption | decide) (by rw [nI_add, nI_add]; congr 1) (zy_b1 (by omega)) (by decide) ?_
      refine zi_iastN (9 + i) dX9_take_74 (by first | assumption | decide) (nI_add _ _) (zy_b1 (by omega)) (by decide) ?_
      refine zi_inc2 (nI 1) dX9_take_75 (by decide) (Nat.le_of_ble_eq_true rfl) rfl ?_
      refine zi_goto 27 dX9_take_78 (by decide) ?_
      rw [nI_add]
      refine ih (i + 1) _ (by omega) (by omega) ((hQ.row (by omega)).row (by omega)) ?_ (fun j hj => ?_) (fun j hj => ?_)
      · rw [zs_slot (by omega), zs_slot (by omega)]; exact h0
      · rw [zs_slot (by omega), zs_slot (by omega)]; exact hr j hj
      · have k1 := hI (i + 1) (by omega)
        rw [if_neg (by omega)] at k1
        by_cases e : j = i
        · subst e
          rw [zs_slot (by omega), zs_same, zs_same, zs_slot (by omega), k1.1, k1.2, if_pos (by omega)]
          exact ⟨rfl, rfl⟩
        · rw [zs_slot (by omega), zs_slot (by omega), zs_slot (by omega), zs_slot (by omega), (hI j hj).1, (hI j hj).2]
          by_cases q : t ≤ j ∧ j < i
          · rw [if_pos q, if_pos (by omega)]; exact ⟨rfl, rfl⟩
          · rw [if_neg q, if_neg (by omega)]; exact ⟨rfl, rfl⟩
theorem c9_take (hV : zy_V σ A) {t : Int32} : zw_Ti l G (d + 3) mX9_take [.ref 168, .int t] σ (fun x υ => x = (zx_take A t).1 ∧ zy_V υ (zx_take A t).2 ∧ zy_F σ υ) := by
  obtain ⟨h1, -⟩ := id hV
  have hl8 := h1.1
  rcases zn_case t (n := A.1.1.length) (by omega) with ho | ⟨a, ha, rfl⟩
  · have e : zx_take A t = (zx_UN, A) := by unfold zx_take; rw [zx_ix_out (by omega) ho]
    rw [e]
    refine zw_enter2 (L := [some _, some _, none]) (by decide) (Nat.le_of_ble_eq_true rfl) rfl ?_
    refine zi_ald0 dX9_take_0 ?_
    refine zi_ild1 dX9_take_1 ?_
    refine zi_cV1i vmX9_isTree lkX9_165 dX9_take_2 (by first | assumption | decide) (Nat.le_of_ble_eq_true rfl) (c9_isTree_out h1 ho) ?_
    rintro _ _ ⟨rfl, rfl⟩
    refine zi_if_ne 11 dX9_take_5 (by decide) (fun c5 => ?_) (fun c5 => ?_)
    · exact absurd rfl c5
    · refine zi_ldc dX9_take_8 kcX9_189 ?_
      refine zi_iret dX9_take_10 rfl ?_
      exact ⟨_, rfl, rfl, hV, zy_F.rf⟩
  · have e : zx_take A (nI a) = (nI (A.1.1.length - 1), zx_dd A (A.1.1.eraseIdx a, A.1.2)) := by unfold zx_take; rw [zx_ix_in (by omega) ha]
    rw [e]
    refine zw_enter2 (L := [some _, some _, none]) (by decide) (Nat.le_of_ble_eq_true rfl) rfl ?_
    refine zi_ald0 dX9_take_0 ?_
    refine zi_ild1 dX9_take_1 ?_
    refine zi_cV1i vmX9_isTree lkX9_165 dX9_take_2 (by first | assumption | decide) (Nat.le_of_ble_eq_true rfl) (c9_isTree_in h1 ha) ?_
    rintro _ _ ⟨rfl, rfl⟩
    refine zi_if_ne 11 dX9_take_5 (by decide) (fun c5 => ?_) (fun c5 => ?_)
    · refine zi_ald0 dX9_take_11 ?_
      refine zi_cV0v vmX9_remember lkX9_156 dX9_take_12 (by first | assumption | decide) (Nat.le_of_ble_eq_true rfl) (c9_remember hV) ?_
      rintro τ1 ⟨hV1, hM1⟩
      refine zi_ald0 dX9_take_15 ?_
      refine zi_getR dX9_take_16 flX9_7 rfl (by first | assumption | decide) ?_
      refine zi_iconst (nI 0) dX9_take_19 (by decide) ?_
      refine zi_dup2ri dX9_take_20 ?_
      refine zi_ialdN 0 dX9_take_21 (by first | assumption | decide) rfl (zy_b1 (by omega)) (by decide) ?_
      rw [show τ1.1 (168 + 1) 0 = nI A.1.1.length from hV1.1.2.2.1]
      refine zi_iconst (nI 1) dX9_take_22 (by decide) ?_
      refine zi_isub dX9_take_23 ?_
      rw [pk_sub (by omega)]
      refine zi_iastN 0 dX9_take_24 (by first | assumption | decide) rfl (zy_b1 (by omega)) (by decide) ?_
      refine zi_ild1 dX9_take_25 ?_
      refine zi_ist2 dX9_take_26 (Nat.le_of_ble_eq_true rfl) rfl ?_
      refine zw_W.mono (l9_take (σ := τ1) (X := A.1) hV1.1 ha (A.1.1.length - 1 - a) a _ (by omega) (Nat.le_refl a) (zy_Q.rf.row (by decide)) (zs_same _ _ _ _) (fun j hj => zs_slot (by omega)) (fun j hj => ?_)) ?_
      · rw [zs_slot (by omega), zs_slot (by omega), if_neg (by omega)]; exact ⟨rfl, rfl⟩
      · rintro x υ ⟨y, e1, e2, e3, e4⟩
        exact ⟨y, e1, e2, hV1.q e4 e3, hM1.f.tr e4.f⟩
    · exact absurd c5 (by decide)
end Z40
