/-! the model: draws, undo, book, images -/
theorem zy_sd {s : Nat} (h : s < 2147483648) : (nI s).toInt64 * 1103515245 + 12345 - ((nI s).toInt64 * 1103515245 + 12345) / 2147483648 * 2147483648 = lN (zx_sd s) := by
  rw [nI_l h, show (1103515245 : Int64) = lN 1103515245 from rfl, show (12345 : Int64) = lN 12345 from rfl, show (2147483648 : Int64) = lN 2147483648 from rfl, lN_mul, lN_add, pk_lRem (by omega) (by decide) (by decide)]
  rfl
theorem zy_V.seed {σ : zw_S} {A : zx_T} {s : Nat} (hV : zy_V σ A) (hs : s < 2147483648) : zy_V (zw_pI σ 168 3 (nI s)) (zx_sA A s) := by
  obtain ⟨h1, h2, h3, h4, h5, h6, h7, h8, h9⟩ := hV
  have e : ∀ o, o ≠ 168 → (zw_pI σ 168 3 (nI s)).1 o = σ.1 o := fun o ho => zs_obj ho
  have f : ∀ j, j ≠ 3 → (zw_pI σ 168 3 (nI s)).1 168 j = σ.1 168 j := fun j hj => zs_slot hj
  exact ⟨h1.cg (e _ (by decide)), ⟨h2.1, by rw [f 1 (by decide)]; exact h2.2.1, fun j hj => (h2.2.2 j hj).cg (e _ (by decide))⟩, fun i hi => (h3 i hi).mv (by rw [e _ (by decide)]) (fun m hm => by rw [e _ (by decide)]), by rw [f 2 (by decide)]; exact h4, h5.cg (f 6 (by decide)) (e _ (by decide)), by rw [f 7 (by decide)]; exact h6, h7.cg (f 10 (by decide)) (e _ (by decide)) (e _ (by decide)), hs, zs_same _ _ _ _⟩
theorem zy_k_lt (o : Option (zg_X × Nat)) : zy_k o < 2 := by cases o <;> (unfold zy_k; simp)
section Z42
variable {l : Launch} {G : zw_G} {d : Nat} {σ : zw_S} {A : zx_T} {w : List Nat} {s : Int32}
theorem c9_draw {s n s1 x : Nat} (es : s1 = zx_sd s) (ex : x = zx_dr s n) (hs : σ.1 168 3 = nI s) (hs2 : s < 2147483648) (h1 : 1 ≤ n) (hn : n < 2147483648) : zw_Ti l G (d + 1) mX9_draw [.ref 168, .int (nI n)] σ (fun y υ => y = nI x ∧ υ = zw_pI σ 168 3 (nI s1)) := by
  have hlt := zx_sd_lt s
  have e0 := zy_sd hs2
  have ex2 : x = s1 / 65536 % n := by rw [es, ex]; rfl
  rw [← es] at hlt e0
  refine zw_enter2 (L := [some _, some _, none, none]) (by decide) (Nat.le_of_ble_eq_true rfl) rfl ?_
  refine zi_ald0 dX9_draw_0 ?_
  refine zi_getI dX9_draw_1 flX9_221 rfl (by first | assumption | decide) ?_
  rw [hs]
  refine zi_i2l dX9_draw_4 ?_
  refine zi_ldc2 dX9_draw_5 kcX9_224 ?_
  refine zi_lmul dX9_draw_8 ?_
  refine zi_ldc2 dX9_draw_9 kcX9_226 ?_
  refine zi_ladd dX9_draw_12 ?_
  refine zi_ldc2 dX9_draw_13 kcX9_228 ?_
  refine zi_lrem dX9_draw_16 (by decide) ?_
  rw [e0]
  refine zi_lst2 dX9_draw_17 (Nat.le_of_ble_eq_true rfl) rfl ?_
  refine zi_ald0 dX9_draw_18 ?_
  refine zi_lld2 dX9_draw_19 ?_
  refine zi_l2i dX9_draw_20 ?_
  rw [lN_i]
  refine zi_putI dX9_draw_21 flX9_221 fp_9_3 rfl (by first | assumption | decide) ?_
  refine zi_ald0 dX9_draw_24 ?_
  refine zi_getI dX9_draw_25 flX9_221 rfl (by first | assumption | decide) ?_
  rw [zs_same]
  refine zi_ldc dX9_draw_28 kcX9_230 ?_
  refine zi_idiv dX9_draw_30 (by decide) ?_
  rw [show (65536 : Int32) = nI 65536 from rfl, pk_div (by omega) (by decide) (by decide)]
  refine zi_ild1 dX9_draw_31 ?_
  refine zi_irem dX9_draw_32 (by rw [zn_0, zn_eq (by omega) (by omega)]; omega) ?_
  refine zi_iret dX9_draw_33 rfl ?_
  refine ⟨_, rfl, ?_, rfl⟩
  rw [ex2]
  exact pk_rem (by omega) (by omega) (by omega)
theorem c9_put {i j x : Nat} (hW : zy_w σ w s) (hi : i < 100) (hj : (zt_lv w)[i]? = some j) (hx : x < 2) (hl : w.length + 2 ≤ 13) : zw_Tv l G (d + 2) mX9_put [.ref 168, .int (nI i), .int (nI x)] σ (fun υ => zy_w υ (w.take j ++ [x + 1, 0, 0] ++ w.drop (j + 1)) s ∧ zy_S σ υ) := by
  have h13 := hW.1
  obtain ⟨hjl, hj0⟩ := zt_lv_lt (List.mem_of_getElem? hj)
  have l1 : (w.take j).length = j := by rw [List.length_take]; omega
  have ed : w.take j ++ [1 + x] ++ [0] ++ w.drop j = w.take j ++ [x + 1, 0, 0] ++ w.drop (j + 1) := by
    rw [zl_drop hjl, hj0, Nat.add_comm 1 x]; simp
  have hz : (w.take j ++ [x + 1, 0, 0] ++ w.drop (j + 1)).length ≤ 13 := by
    rw [List.length_append, List.length_append, l1, List.length_drop]
    simp only [List.length_cons, List.length_nil]; omega
  have hzx : ∀ y ∈ w.take j ++ [x + 1, 0, 0] ++ w.drop (j + 1), y < 3 := by
    intro y hy
    rcases List.mem_append.mp hy with hy | hy
    · rcases List.mem_append.mp hy with hy | hy
      · exact hW.2.1 y (List.mem_of_mem_take hy)
      · simp at hy; omega
    · exact hW.2.1 y (List.mem_of_mem_drop hy)
  refine zw_enter2 (L := [some _, some _, some _, none]) (by decide) (Nat.le_of_ble_eq_true rfl) rfl ?_
  refine zi_ald0 dX9_put_0 ?_
  refine zi_ild1 dX9_put_1 ?_
  refine zi_cV1i vmX9_leafAt lkX9_214 dX9_put_2 (by first | assumption | decide) (Nat.le_of_ble_eq_true rfl) (c9_leafAt hW) ?_
  rintro _ _ ⟨rfl, rfl⟩
  rw [zp_at_n (by omega), hj, zp_oI_some]
  refine zi_ist3 dX9_put_5 (Nat.le_of_ble_eq_true rfl) rfl ?_
  refine zi_ald0 dX9_put_6 ?_
  refine zi_iconst (nI 0) dX9_put_7 (by decide) ?_
  refine zi_putI dX9_put_8 flX9_83 fp_9_15 rfl (by first | assumption | decide) ?_
  have hW0 : zy_w (zw_pI σ 168 15 (nI 0)) w s := hW.ar (zs_slot (by decide)) (zs_slot (by decide)) (zs_obj (by decide))
  have hO0 : zy_o (zw_pI σ 168 15 (nI 0)) [] := ⟨by decide, zs_same _ _ _ _, fun i hi => absurd hi (Nat.not_lt_zero _)⟩
  have hS0 : zy_S σ (zw_pI σ 168 15 (nI 0)) := zy_S.rf.fld (by omega)
  refine zi_ald0 dX9_put_11 ?_
  refine zi_iconst (nI 0) dX9_put_12 (by decide) ?_
  refine zi_ild3 dX9_put_13 ?_
  refine zi_cV2v vmX9_copyOther lkX9_86 dX9_put_14 (by first | assumption | decide) (Nat.le_of_ble_eq_true rfl) (c9_copyOther (a := 0) (by decide) (show j ≤ w.length by omega) hW0 hO0 (by simp only [List.length_nil]; omega)) ?_
  rintro τ1 ⟨hW1, hO1, hS1⟩
  have e1 : [] ++ (w.drop 0).take (j - 0) = w.take j := by rw [List.nil_append, List.drop_zero, Nat.sub_zero]
  rw [e1] at hO1
  refine zi_ald0 dX9_put_17 ?_
  refine zi_iconst (nI 1) dX9_put_18 (by decide) ?_
  refine zi_ild2 dX9_put_19 ?_
  refine zi_iadd dX9_put_20 ?_
  rw [nI_add]
  refine zi_cV1v vmX9_addOther lkX9_89 dX9_put_21 (by first | assumption | decide) (Nat.le_of_ble_eq_true rfl) (c9_addOther hW1 hO1 (by omega)) ?_
  rintro τ2 ⟨hW2, hO2, hS2, -⟩
  have l2 : (w.take j ++ [1 + x]).length = j + 1 := by rw [List.length_append, l1]; rfl
  refine zi_ald0 dX9_put_24 ?_
  refine zi_iconst (nI 0) dX9_put_25 (by decide) ?_
  refine zi_cV1v vmX9_addOther lkX9_89 dX9_put_26 (by first | assumption | decide) (Nat.le_of_ble_eq_true rfl) (c9_addOther (x := 0) hW2 hO2 (by omega)) ?_
  rintro τ3 ⟨hW3, hO3, hS3, -⟩
  have l3 : (w.take j ++ [1 + x] ++ [0]).length = j + 2 := by rw [List.length_append, l2]; rfl
  refine zi_ald0 dX9_put_29 ?_
  refine zi_ild3 dX9_put_30 ?_
  refine zi_ald0 dX9_put_31 ?_
  refine zi_getI dX9_put_32 flX9_58 rfl (by first | assumption | decide) ?_
  rw [hW3.2.2.1]
  refine zi_cV2v vmX9_copyOther lkX9_86 dX9_put_35 (by first | assumption | decide) (Nat.le_of_ble_eq_true rfl) (c9_copyOther (show j ≤ 100 by omega) (Nat.le_refl _) hW3 hO3 (by omega)) ?_
  rintro τ4 ⟨hW4, hO4, hS4⟩
  rw [List.take_of_length_le (show (w.drop j).length ≤ w.length - j by rw [List.length_drop]; omega), ed] at hO4
  refine zi_ald0 dX9_put_38 ?_
  refine zi_cV0v vmX9_takeOther lkX9_93 dX9_put_39 (by first | assumption | decide) (Nat.le_of_ble_eq_true rfl) (c9_takeOther hz hzx hW4.2.2.2.1 hO4) ?_
  rintro τ5 ⟨hW5, hS5⟩
  refine zi_ret dX9_put_42 rfl ?_
  exact ⟨rfl, hW5, ((((hS0.tr hS1).tr hS2).tr hS3).tr hS4).tr hS5⟩
theorem zy_pIF {s : Int32} : zy_F σ (zw_pI σ 168 3 s) := zy_F.rf.pI (by decide)
theorem zy_w.sd {v : Int32} (hW : zy_w σ w s) : zy_w (zw_pI σ 168 3 v) w s := hW.ar (zs_slot (by decide)) (zs_slot (by decide)) (zs_obj (by decide))
theorem l9_chance {m : Nat} (hm : m ≤ 4) : ∀ (k : Nat), k ≤ m → ∀ (σ : zw_S) (w : List Nat) (s : Nat) (y : Option Value) (A : zx_T) (p : List Nat × Nat), zx_gr k w s = p → zy_V σ (zx_sA A s) → A.1.1.length < 8 → zy_w σ w (nI 1) → zt_wd w → w.length = 2 * (m + 1 - k) + 1 → zw_W l G (d + 4) mX9_chance 26 [some (.ref 168), some (.int (nI (m + 1))), some (.int (nI (m + 1 - k))), y] [] σ (fun r υ => r = none ∧ zy_V υ (zx_dd (zx_sA A p.2) (A.1.1 ++ [(p.1, nI 1)], A.1.2)) ∧ zy_F σ υ)
  | 0, hk, σ, w, s, y, A, p, hp, hV, h8, hT, hw, hl => by
    have hp : (w, s) = p := hp
    subst hp
    refine zi_ild2 dX9_chance_26 ?_
    refine zi_ild1 dX9_chance_27 ?_
    refine zi_icmp_ge 55 dX9_chance_28 (by decide) (fun c28 => ?_) (fun c28 => ?_)
    · refine zi_ald0 dX9_chance_55 ?_
      refine zi_cV0v vmX9_remember lkX9_156 dX9_chance_56 (by first | assumption | decide) (Nat.le_of_ble_eq_true rfl) (c9_remember hV) ?_
      rintro τ1 ⟨hV1, hM1⟩
      refine zi_ald0 dX9_chance_59 ?_
      refine zi_cV0i vmX9_shelve lkX9_159 dX9_chance_60 (by first | assumption | decide) (Nat.le_of_ble_eq_true rfl) (c9_shelve hV1.1 h8 (hM1.w hT) hw (Or.inl rfl)) ?_
      rintro _ τ2 ⟨rfl, hR2, hQ2⟩
      refine zi_ist2 dX9_chance_63 (Nat.le_of_ble_eq_true rfl) rfl ?_
      refine zi_ret dX9_chance_64 rfl ?_
      exact ⟨rfl, hV1.q hQ2 hR2, hM1.f.tr hQ2.f⟩
    · rw [zn_le (by omega) (by omega)] at c28; omega
  | k + 1, hk, σ, w, s, y, A, p, hp, hV, h8, hT, hw, hl => by
    have ih := l9_chance hm k (by omega)
    obtain ⟨-, -, -, -, -, -, -, hs, hs1⟩ := id hV
    have hs : s < 2147483648 := hs
    have hs1 : σ.1 168 3 = nI s := hs1
    have hll := zt_lv_len hw.1
    have hd1 := zx_dr_lt (s := s) (n := (w.length - 1) / 2 + 1) (by omega)
    have hd2 := zx_dr_lt (s := zx_sd s) (n := 2) (by omega)
    have hl1 := zx_sd_lt s
    have hl2 := zx_sd_lt (zx_sd s)
    have e : zx_gr (k + 1) w s = zx_gr k (w.take ((zt_lv w).getD (zx_dr s ((w.length - 1) / 2 + 1)) 0) ++ [zx_dr (zx_sd s) 2 + 1, 0, 0] ++ w.drop ((zt_lv w).getD (zx_dr s ((w.length - 1) / 2 + 1)) 0 + 1)) (zx_sd (zx_sd s)) := by unfold zx_gr; rw [zx_gG]
    rw [e] at hp
    clear e
    obtain ⟨j, hj⟩ : ∃ j, j = zx_dr s ((w.length - 1) / 2 + 1) := ⟨_, rfl⟩
    obtain ⟨s1, es1⟩ : ∃ s1, s1 = zx_sd s := ⟨_, rfl⟩
    rw [← es1] at hd2 hl1 hl2 hp
    rw [← hj] at hd1 hp
    obtain ⟨s2, es2⟩ : ∃ s2, s2 = zx_sd s1 := ⟨_, rfl⟩
    obtain ⟨x2, ex2⟩ : ∃ x2, x2 = zx_dr s1 2 := ⟨_, rfl⟩
    rw [← es2, ← ex2] at hp
    rw [← es2] at hl2
    rw [← ex2] at hd2
    have hj2 : j < (zt_lv w).length := by omega
    have hjm := zt_lv_lt (List.getElem_mem hj2)
    have hjD : (zt_lv w).getD j 0 = (zt_lv w)[j] := by rw [List.getD_eq_getElem?_getD, List.getElem?_eq_getElem hj2]; rfl
    rw [← hjD] at hjm
    have hjo : (zt_lv w)[j]? = some ((zt_lv w).getD j 0) := by rw [hjD, List.getElem?_eq_getElem hj2]
    generalize hq : (zt_lv w).getD j 0 = q at hp hjm hjD hjo
    have hlw : (w.length - 1) / 2 + 1 = m + 1 - (k + 1) + 1 := by omega
    rw [hlw] at hj
    refine zi_ild2 dX9_chance_26 ?_
    refine zi_ild1 dX9_chance_27 ?_
    refine zi_icmp_ge 55 dX9_chance_28 (by decide) (fun c28 => ?_) (fun c28 => ?_)
    · rw [zn_le (by omega) (by omega)] at c28; omega
    · refine zi_ald0 dX9_chance_31 ?_
      refine zi_ild2 dX9_chance_32 ?_
      refine zi_iconst (nI 1) dX9_chance_33 (by decide) ?_
      refine zi_iadd dX9_chance_34 ?_
      rw [nI_add]
      refine zi_cV1i vmX9_draw lkX9_231 dX9_chance_35 (by first | assumption | decide) (Nat.le_of_ble_eq_true rfl) (c9_draw es1 hj hs1 hs (by omega) (by omega)) ?_
      rintro _ τ1 ⟨rfl, rfl⟩
      have hV1 : zy_V _ (zx_sA A s1) := hV.seed hl1
      have hT1 : zy_w (zw_pI σ 168 3 (nI s1)) w (nI 1) := hT.sd
      refine zi_ist3 dX9_chance_38 (Nat.le_of_ble_eq_true rfl) rfl ?_
      refine zi_ald0 dX9_chance_39 ?_
      refine zi_ild3 dX9_chance_40 ?_
      refine zi_ald0 dX9_chance_41 ?_
      refine zi_iconst (nI 2) dX9_chance_42 (by decide) ?_
      refine zi_cV1i vmX9_draw lkX9_231 dX9_chance_43 (by first | assumption | decide) (Nat.le_of_ble_eq_true rfl) (c9_draw (n := 2) es2 ex2 (zs_same _ _ _ _) hl1 (by decide) (by decide)) ?_
      rintro _ τ2 ⟨rfl, rfl⟩
      have hV2 : zy_V _ (zx_sA A s2) := hV1.seed hl2
      have hT2 : zy_w (zw_pI (zw_pI σ 168 3 (nI s1)) 168 3 (nI s2)) w (nI 1) := hT1.sd
      refine zi_cV2v vmX9_put lkX9_234 dX9_chance_46 (by first | assumption | decide) (Nat.le_of_ble_eq_true rfl) (c9_put hT2 (show j < 100 by omega) hjo hd2 (by omega)) ?_
      rintro τ3 ⟨hT3, hS3⟩
      have hV3 := hV2.s hS3
      have hgl : (w.take q ++ [x2 + 1, 0, 0] ++ w.drop (q + 1)).length = w.length + 2 := by
        rw [List.length_append, List.length_append, List.length_take, List.length_drop]
        simp only [List.length_cons, List.length_nil]; omega
      have hgw := zt_graft_wd hw (zx_dr_nw hd2) hjm.1 hjm.2 (by simp only [List.length_cons, List.length_nil]; omega)
      refine zi_inc2 (nI 1) dX9_chance_49 (by decide) (Nat.le_of_ble_eq_true rfl) rfl ?_
      refine zi_goto 26 dX9_chance_52 (by decide) ?_
      rw [nI_add (m + 1 - (k + 1)) 1, show m + 1 - (k + 1) + 1 = m + 1 - k by omega]
      refine (ih τ3 _ s2 _ A p hp hV3 h8 hT3 hgw (by rw [hgl]; omega)).mono ?_
      rintro r υ ⟨q1, q2, q3⟩
      exact ⟨q1, q2, ((zy_pIF.tr zy_pIF).tr hS3.q.f).tr q3⟩
theorem c9_chance {p : List Nat × Nat} (hV : zy_V σ A) (h8 : A.1.1.length < 8) (hp : zx_gr (zx_dr A.2.2.2.2.2.2 5) [zx_dr (zx_sd A.2.2.2.2.2.2) 2 + 1, 0, 0] (zx_sd (zx_sd A.2.2.2.2.2.2)) = p) : zw_Tv l G (d + 4) mX9_chance [.ref 168] σ (fun υ => zy_V υ (zx_dd (zx_sA A p.2) (A.1.1 ++ [(p.1, nI 1)], A.1.2)) ∧ zy_F σ υ) := by
  obtain ⟨-, -, -, -, -, -, -, hs, hs1⟩ := id hV
  have hd1 := zx_dr_lt (s := A.2.2.2.2.2.2) (n := 5) (by omega)
  have hd2 := zx_dr_lt (s := zx_sd A.2.2.2.2.2.2) (n := 2) (by omega)
  have hl1 := zx_sd_lt A.2.2.2.2.2.2
  have hl2 := zx_sd_lt (zx_sd A.2.2.2.2.2.2)
  generalize hs0 : A.2.2.2.2.2.2 = s at hs hs1 hd1 hd2 hl1 hl2 hp
  obtain ⟨m, hm⟩ : ∃ m, m = zx_dr s 5 := ⟨_, rfl⟩
  obtain ⟨s1, es1⟩ : ∃ s1, s1 = zx_sd s := ⟨_, rfl⟩
  rw [← es1] at hd2 hl1 hl2 hp
  rw [← hm] at hd1 hp
  obtain ⟨s2, es2⟩ : ∃ s2, s2 = zx_sd s1 := ⟨_, rfl⟩
  obtain ⟨x2, ex2⟩ : ∃ x2, x2 = zx_dr s1 2 := ⟨_, rfl⟩
  rw [← es2, ← ex2] at hp
  rw [← es2] at hl2
  rw [← ex2] at hd2
  refine zw_enter2 (L := [some _, none, none, none]) (by decide) (Nat.le_of_ble_eq_true rfl) rfl ?_
  refine zi_ald0 dX9_chance_0 ?_
  refine zi_iconst (nI 5) dX9_chance_1 (by decide) ?_
  refine zi_cV1i vmX9_draw lkX9_231 dX9_chance_2 (by first | assumption | decide) (Nat.le_of_ble_eq_true rfl) (c9_draw (n := 5) es1 hm hs1 hs (by decide) (by decide)) ?_
  rintro _ τ1 ⟨rfl, rfl⟩
  have hV1 : zy_V (zw_pI σ 168 3 (nI s1)) (zx_sA A s1) := hV.seed hl1
  refine zi_iconst (nI 1) dX9_chance_5 (by decide) ?_
  refine zi_iadd dX9_chance_6 ?_
  rw [nI_add]
  refine zi_ist1 dX9_chance_7 (Nat.le_of_ble_eq_true rfl) rfl ?_
  refine zi_ald0 dX9_chance_8 ?_
  refine zi_iconst (nI 0) dX9_chance_9 (by decide) ?_
  refine zi_iconst (nI 1) dX9_chance_10 (by decide) ?_
  refine zi_cV2v vmX9_open lkX9_64 dX9_chance_11 (by first | assumption | decide) (Nat.le_of_ble_eq_true rfl) (c9_open (w := [0]) (by decide) ⟨by decide, Or.inl rfl⟩ (by decide)) ?_
  rintro τ2 ⟨hW2, hS2⟩
  have hV2 := hV1.s hS2
  have hs2 : τ2.1 168 3 = nI s1 := by rw [hS2.2.2 3 (by decide) (by decide) (by decide), zs_same]
  refine zi_ald0 dX9_chance_14 ?_
  refine zi_iconst (nI 0) dX9_chance_15 (by decide) ?_
  refine zi_ald0 dX9_chance_16 ?_
  refine zi_iconst (nI 2) dX9_chance_17 (by decide) ?_
  refine zi_cV1i vmX9_draw lkX9_231 dX9_chance_18 (by first | assumption | decide) (Nat.le_of_ble_eq_true rfl) (c9_draw (n := 2) es2 ex2 hs2 hl1 (by decide) (by decide)) ?_
  rintro _ τ3 ⟨rfl, rfl⟩
  have hV3 : zy_V (zw_pI τ2 168 3 (nI s2)) (zx_sA A s2) := hV2.seed hl2
  have hW3 : zy_w (zw_pI τ2 168 3 (nI s2)) [0] (nI 1) := hW2.sd
  refine zi_cV2v vmX9_put lkX9_234 dX9_chance_21 (by first | assumption | decide) (Nat.le_of_ble_eq_true rfl) (c9_put (i := 0) (j := 0) hW3 (by decide) (by decide) hd2 (by decide)) ?_
  rintro τ4 ⟨hW4, hS4⟩
  have hV4 := hV3.s hS4
  have hW4 : zy_w τ4 [x2 + 1, 0, 0] (nI 1) := hW4
  refine zi_iconst (nI 1) dX9_chance_24 (by decide) ?_
  refine zi_ist2 dX9_chance_25 (Nat.le_of_ble_eq_true rfl) rfl ?_
  have := l9_chance (l := l) (G := G) (d := d) (m := m) (by omega) m (Nat.le_refl m) τ4 [x2 + 1, 0, 0] s2 none A p hp hV4 h8 hW4 (zx_dr_nw hd2) (by simp only [List.length_cons, List.length_nil]; omega)
  rw [show m + 1 - m = 1 by omega] at this
  refine zw_W.mono this ?_
  rintro r υ ⟨q1, q2, q3⟩
  exact ⟨q1, q2, (((zy_pIF.tr hS2.q.f).tr zy_pIF).tr hS4.q.f).tr q3⟩
theorem l9_drift {n : Nat} (hn : n ≤ 8) : ∀ (k : Nat), k ≤ n → ∀ (σ : zw_S) (A : zx_T), zy_V σ A → zw_W l G (d + 5) mX9_drift 15 [some (.ref 168), some (.int (nI n)), some (.int (nI (n - k)))] [] σ (fun r υ => ∃ x, r = some (.int x) ∧ x = nI (zx_dn k A).1.1.length ∧ zy_V υ (zx_dn k A) ∧ zy_F σ υ)
  | 0, hk, σ, A, hV => by
    refine zi_ild2 dX9_drift_15 ?_
    refine zi_ild1 dX9_drift_16 ?_
    refine zi_icmp_ge 41 dX9_drift_17 (by decide) (fun c17 => ?_) (fun c17 => ?_)
    · refine zi_ald0 dX9_drift_41 ?_
      refine zi_getR dX9_drift_42 flX9_7 rfl (by first | assumption | decide) ?_
      refine zi_iconst (nI 0) dX9_drift_45 (by decide) ?_
      refine zi_ialdN 0 dX9_drift_46 (by first | assumption | decide) rfl (zy_b1 (by omega)) (by decide) ?_
      refine zi_iret dX9_drift_47 rfl ?_
      exact ⟨_, rfl, hV.1.2.2.1, hV, zy_F.rf⟩
    · rw [zn_le (by omega) (by omega)] at c17; omega
  | k + 1, hk, σ, A, hV => by
    have ih := l9_drift hn k (by omega)
    have hl8 := hV.1.1
    refine zi_ild2 dX9_drift_15 ?_
    refine zi_ild1 dX9_drift_16 ?_
    refine zi_icmp_ge 41 dX9_drift_17 (by decide) (fun c17 => ?_) (fun c17 => ?_)
    · rw [zn_le (by omega) (by omega)] at c17; omega
    · refine zi_ald0 dX9_drift_20 ?_
      refine zi_getR dX9_drift_21 flX9_7 rfl (by first | assumption | decide) ?_
      refine zi_iconst (nI 0) dX9_drift_24 (by decide) ?_
      refine zi_ialdN 0 dX9_drift_25 (by first | assumption | decide) rfl (zy_b1 (by omega)) (by decide) ?_
      rw [hV.1.2.2.1]
      refine zi_bipush (nI 8) dX9_drift_26 (by decide) ?_
      refine zi_icmp_ge 41 dX9_drift_28 (by decide) (fun c28 => ?_) (fun c28 => ?_)
      · rw [zn_le (by omega) (by omega)] at c28
        rw [show zx_dn (k + 1) A = A from if_pos (by omega)]
        refine zi_ald0 dX9_drift_41 ?_
        refine zi_getR dX9_drift_42 flX9_7 rfl (by first | assumption | decide) ?_
        refine zi_iconst (nI 0) dX9_drift_45 (by decide) ?_
        refine zi_ialdN 0 dX9_drift_46 (by first | assumption | decide) rfl (zy_b1 (by omega)) (by decide) ?_
        refine zi_iret dX9_drift_47 rfl ?_
        exact ⟨_, rfl, hV.1.2.2.1, hV, zy_F.rf⟩
      · rw [zn_le (by omega) (by omega)] at c28
        rw [show zx_dn (k + 1) A = zx_dn k (zx_ch A) from if_neg (by omega)]
        obtain ⟨p, hp⟩ : ∃ p, zx_gr (zx_dr A.2.2.2.2.2.2 5) [zx_dr (zx_sd A.2.2.2.2.2.2) 2 + 1, 0, 0] (zx_sd (zx_sd A.2.2.2.2.2.2)) = p := ⟨_, rfl⟩
        have hch : zx_ch A = zx_dd (zx_sA A p.2) (A.1.1 ++ [(p.1, nI 1)], A.1.2) := by unfold zx_ch; rw [hp]; rfl
        rw [hch]
        refine zi_ald0 dX9_drift_31 ?_
        refine zi_cV0v vmX9_chance lkX9_237 dX9_drift_32 (by first | assumption | decide) (Nat.le_of_ble_eq_true rfl) (c9_chance hV (by omega) hp) ?_
        rintro τ1 ⟨hV1, hF1⟩
        refine zi_inc2 (nI 1) dX9_drift_35 (by decide) (Nat.le_of_ble_eq_true rfl) rfl ?_
        refine zi_goto 15 dX9_drift_38 (by decide) ?_
        rw [nI_add, show n - (k + 1) + 1 = n - k by omega]
        refine (ih τ1 _ hV1).mono ?_
        rintro r υ ⟨x, q1, q2, q3, q4⟩
        exact ⟨x, q1, q2, q3, hF1.tr q4⟩
theorem c9_drift (hV : zy_V σ A) {n : Int32} : zw_Ti l G (d + 5) mX9_drift [.ref 168, .int n] σ (fun x υ => x = (zx_drift A n).1 ∧ zy_V υ (zx_drift A n).2 ∧ zy_F σ υ) := by
  rcases zx_rg n (n := 8) (by decide) with ho | ⟨k, hk1, hk8, rfl⟩
  · have e : zx_drift A n = (zx_OU, A) := by
      unfold zx_drift
      rcases zx_ix_rg (by decide) ho with q | q <;> (rw [q]; try rfl)
    rw [e]
    refine zw_enter2 (L := [some _, some _, none]) (by decide) (Nat.le_of_ble_eq_true rfl) rfl ?_
    refine zi_ild1 dX9_drift_0 ?_
    refine zi_iconst (nI 1) dX9_drift_1 (by decide) ?_
    refine zi_bipush (nI 8) dX9_drift_2 (by decide) ?_
    refine zi_cS3i smX9_in lkX9_54 dX9_drift_4 (Nat.le_of_ble_eq_true rfl) (c9_in_out ho) ?_
    rintro _ _ ⟨rfl, rfl⟩
    refine zi_if_ne 13 dX9_drift_7 (by decide) (fun c7 => ?_) (fun c7 => ?_)
    · exact absurd rfl c7
    · refine zi_ldc dX9_drift_10 kcX9_148 ?_
      refine zi_iret dX9_drift_12 rfl ?_
      exact ⟨_, rfl, rfl, hV, zy_F.rf⟩
  · have e : zx_drift A (nI k) = (nI (zx_dn k A).1.1.length, zx_dn k A) := by
      unfold zx_drift
      rw [zx_ix_in (by decide) (by omega)]
      cases k with
      | zero => omega
      | succ k => rfl
    rw [e]
    refine zw_enter2 (L := [some _, some _, none]) (by decide) (Nat.le_of_ble_eq_true rfl) rfl ?_
    refine zi_ild1 dX9_drift_0 ?_
    refine zi_iconst (nI 1) dX9_drift_1 (by decide) ?_
    refine zi_bipush (nI 8) dX9_drift_2 (by decide) ?_
    refine zi_cS3i smX9_in lkX9_54 dX9_drift_4 (Nat.le_of_ble_eq_true rfl) (c9_in_in hk1 hk8 (by decide)) ?_
    rintro _ _ ⟨rfl, rfl⟩
    refine zi_if_ne 13 dX9_drift_7 (by decide) (fun c7 => ?_) (fun c7 => ?_)
    · refine zi_iconst (nI 0) dX9_drift_13 (by decide) ?_
      refine zi_ist2 dX9_drift_14 (Nat.le_of_ble_eq_true rfl) rfl ?_
      have := l9_drift (l := l) (G := G) (d := d) hk8 k (Nat.le_refl _) σ A hV
      rw [Nat.sub_self] at this
      exact this
    · exact absurd c7 (by decide)
theorem c9_undo (hV : zy_V σ A) {n : Int32} : zw_Ti l G (d + 2) mX9_undo [.ref 168, .int n] σ (fun x υ => x = (zx_undo A n).1 ∧ zy_V υ (zx_undo A n).2 ∧ zy_F σ υ) := by
  rcases zx_rg n (n := 20) (by decide) with ho | ⟨k, hk1, hk8, rfl⟩
  · have e : zx_undo A n = (zx_OU, A) := by
      unfold zx_undo
      rcases zx_ix_rg (by decide) ho with q | q <;> (rw [q]; try rfl)
    rw [e]
    refine zw_enter2 (L := [some _, some _]) (by decide) (Nat.le_of_ble_eq_true rfl) rfl ?_
    refine zi_ild1 dX9_undo_0 ?_
    refine zi_iconst (nI 1) dX9_undo_1 (by decide) ?_
    refine zi_bipush (nI 20) dX9_undo_2 (by decide) ?_
    refine zi_cS3i smX9_in lkX9_54 dX9_undo_4 (Nat.le_of_ble_eq_true rfl) (c9_in_out ho) ?_
    rintro _ _ ⟨rfl, rfl⟩
    refine zi_if_ne 13 dX9_undo_7 (by decide) (fun c7 => ?_) (fun c7 => ?_)
    · exact absurd rfl c7
    · refine zi_ldc dX9_undo_10 kcX9_148 ?_
      refine zi_iret dX9_undo_12 rfl ?_
      exact ⟨_, rfl, rfl, hV, zy_F.rf⟩
  · obtain ⟨h1, ⟨v1, v2, v3⟩, h3, h4, h5, h6, h7, h8, h9⟩ := id hV
    have e : zx_undo A (nI k) = if k ≤ A.2.1.length then (nI (A.2.1.getD (k - 1) zy_dX).1.length, A.2.1.getD (k - 1) zy_dX, A.2.1.drop k, A.2.2) else (zx_NO, A) := by
      unfold zx_undo
      rw [zx_ix_in (by decide) (by omega)]
      cases k with
      | zero => omega
      | succ k =>
        show (match A.2.1[k]? with | none => (zx_NO, A) | some X => (nI X.1.length, X, A.2.1.drop (k + 1), A.2.2)) = _
        rw [Nat.add_sub_cancel, List.getD_eq_getElem?_getD]
        by_cases q : k + 1 ≤ A.2.1.length
        · rw [if_pos q, List.getElem?_eq_getElem (by omega)]; rfl
        · rw [if_neg q, List.getElem?_eq_none (by omega)]
    rw [e]
    refine zw_enter2 (L := [some _, some _]) (by decide) (Nat.le_of_ble_eq_true rfl) rfl ?_
    refine zi_ild1 dX9_undo_0 ?_
    refine zi_iconst (nI 1) dX9_undo_1 (by decide) ?_
    refine zi_bipush (nI 20) dX9_undo_2 (by decide) ?_
    refine zi_cS3i smX9_in lkX9_54 dX9_undo_4 (Nat.le_of_ble_eq_true rfl) (c9_in_in hk1 hk8 (by decide)) ?_
    rintro _ _ ⟨rfl, rfl⟩
    refine zi_if_ne 13 dX9_undo_7 (by decide) (fun c7 => ?_) (fun c7 => ?_)
    · refine zi_ild1 dX9_undo_13 ?_
      refine zi_ald0 dX9_undo_14 ?_
      refine zi_getI dX9_undo_15 flX9_183 rfl (by first | assumption | decide) ?_
      rw [v2]
      refine zi_icmp_le 24 dX9_undo_18 (by decide) (fun c18 => ?_) (fun c18 => ?_)
      · rw [zn_le (by omega) (by omega)] at c18
        rw [if_pos c18]
        refine zi_ald0 dX9_undo_24 ?_
        refine zi_dupr dX9_undo_25 ?_
        refine zi_getI dX9_undo_26 flX9_183 rfl (by first | assumption | decide) ?_
        refine zi_ild1 dX9_undo_29 ?_
        refine zi_isub dX9_undo_30 ?_
        rw [v2, pk_sub c18]
        refine zi_putI dX9_undo_31 flX9_183 fp_9_1 rfl (by first | assumption | decide) ?_
        refine zi_ald0 dX9_undo_34 ?_
        refine zi_bipush (nI 34) dX9_undo_35 (by decide) ?_
        refine zi_ald0 dX9_undo_37 ?_
        refine zi_getI dX9_undo_38 flX9_183 rfl (by first | assumption | decide) ?_
        refine zi_iconst (nI 1) dX9_undo_41 (by decide) ?_
        refine zi_iadd dX9_undo_42 ?_
        rw [zs_same, nI_add]
        refine zi_imul dX9_undo_43 ?_
        rw [pk_mul]
        refine zi_iconst (nI 0) dX9_undo_44 (by decide) ?_
        refine zi_cV2v vmX9_copyRow lkX9_208 dX9_undo_45 (by first | assumption | decide) (Nat.le_of_ble_eq_true rfl) (c9_copyRow (x := 34 * (A.2.1.length - k + 1)) (y := 0) (by omega) (by omega) (by omega)) ?_
        rintro τ1 ⟨k1, k2, hF1⟩
        have hX1 : zy_R τ1 0 (A.2.1.getD (k - 1) zy_dX) := by
          refine (v3 (k - 1) (by omega)).mv (fun m hm => ?_)
          rw [k1 m hm, zs_obj (by decide), show A.2.1.length - (k - 1) = A.2.1.length - k + 1 by omega]
        have o1 : ∀ o, o ≠ 168 → o ≠ 169 → τ1.1 o = σ.1 o := fun o a b => by rw [hF1.2 o b, zs_obj a]
        have o2 : ∀ j, j ≠ 1 → τ1.1 168 j = σ.1 168 j := fun j a => by rw [hF1.2 168 (by decide), zs_slot a]
        have o3 : ∀ j, 34 ≤ j → τ1.1 (168 + 1) j = σ.1 (168 + 1) j := fun j a => by rw [k2 j (by omega), zs_obj (by decide)]
        refine zi_ald0 dX9_undo_48 ?_
        refine zi_getR dX9_undo_49 flX9_7 rfl (by first | assumption | decide) ?_
        refine zi_iconst (nI 0) dX9_undo_52 (by decide) ?_
        refine zi_ialdN 0 dX9_undo_53 (by first | assumption | decide) rfl (zy_b1 (by omega)) (by decide) ?_
        refine zi_iret dX9_undo_54 rfl ?_
        refine ⟨_, rfl, hX1.2.2.1, ⟨hX1, ⟨by show (A.2.1.drop k).length ≤ 20; rw [List.length_drop]; omega, ?_, fun j hj => ?_⟩, fun i hi => (h3 i hi).mv (by rw [o1 _ (by decide) (by decide)]) (fun m hm => o3 _ (by omega)), by rw [o2 2 (by decide)]; exact h4, h5.cg (o2 6 (by decide)) (o1 _ (by decide) (by decide)), by rw [o2 7 (by decide)]; exact h6, h7.cg (o2 10 (by decide)) (o1 _ (by decide) (by decide)) (o1 _ (by decide) (by decide)), h8, by rw [o2 3 (by decide)]; exact h9⟩, fun o ho => ⟨o1 o (by omega) (by omega), by rw [hF1.1]; rfl⟩⟩
        · rw [hF1.2 168 (by decide), zs_same]
          show _ = nI (A.2.1.drop k).length
          rw [List.length_drop]
        · have hj : j < (A.2.1.drop k).length := hj
          show zy_R τ1 (34 * ((A.2.1.drop k).length - j)) ((A.2.1.drop k).getD j zy_dX)
          rw [List.length_drop] at hj ⊢
          rw [show (A.2.1.drop k).getD j zy_dX = A.2.1.getD (k + j) zy_dX by rw [List.getD_eq_getElem?_getD, List.getElem?_drop, List.getD_eq_getElem?_getD], show A.2.1.length - k - j = A.2.1.length - (k + j) by omega]
          exact (v3 (k + j) (by omega)).mv (fun m hm => o3 _ (by omega))
      · rw [zn_le (by omega) (by omega)] at c18
        rw [if_neg c18]
        refine zi_ldc dX9_undo_21 kcX9_217 ?_
        refine zi_iret dX9_undo_23 rfl ?_
        exact ⟨_, rfl, rfl, hV, zy_F.rf⟩
    · exact absurd c7 (by decide)
theorem c9_write (hV : zy_V σ A) {t c : Int32} : zw_Ti l G (d + 3) mX9_write [.ref 168, .int t, .int c] σ (fun x υ => x = (zx_write A t c).1 ∧ zy_V υ (zx_write A t c).2 ∧ zy_F σ υ) := by
  obtain ⟨h1, h2, h3, h4, h5, h6, h7, h8, h9⟩ := id hV
  have hl8 := h1.1
  obtain ⟨b1, b2, b3⟩ := id h7
  rcases zn_case t (n := A.1.1.length) (by omega) with ho | ⟨a, ha, rfl⟩
  · have e : zx_write A t c = (zx_UN, A) := by unfold zx_write; rw [zx_ix_out (by omega) ho]
    rw [e]
    refine zw_enter2 (L := [some _, some _, some _]) (by decide) (Nat.le_of_ble_eq_true rfl) rfl ?_
    refine zi_ald0 dX9_write_0 ?_
    refine zi_ild1 dX9_write_1 ?_
    refine zi_cV1i vmX9_isTree lkX9_165 dX9_write_2 (by first | assumption | decide) (Nat.le_of_ble_eq_true rfl) (c9_isTree_out h1 ho) ?_
    rintro _ _ ⟨rfl, rfl⟩
    refine zi_if_ne 11 dX9_write_5 (by decide) (fun c5 => ?_) (fun c5 => ?_)
    · exact absurd rfl c5
    · refine zi_ldc dX9_write_8 kcX9_189 ?_
      refine zi_iret dX9_write_10 rfl ?_
      exact ⟨_, rfl, rfl, hV, zy_F.rf⟩
  · have e : zx_write A (nI a) c = if A.2.2.2.2.2.1.length = 20 then (zx_FU, A) else (nI (A.2.2.2.2.2.1.length + 1), A.1, A.2.1, A.2.2.1, A.2.2.2.1, A.2.2.2.2.1, A.2.2.2.2.2.1 ++ [(a, c)], A.2.2.2.2.2.2) := by unfold zx_write; rw [zx_ix_in (by omega) ha]
    rw [e]
    refine zw_enter2 (L := [some _, some _, some _]) (by decide) (Nat.le_of_ble_eq_true rfl) rfl ?_
    refine zi_ald0 dX9_write_0 ?_
    refine zi_ild1 dX9_write_1 ?_
    refine zi_cV1i vmX9_isTree lkX9_165 dX9_write_2 (by first | assumption | decide) (Nat.le_of_ble_eq_true rfl) (c9_isTree_in h1 ha) ?_
    rintro _ _ ⟨rfl, rfl⟩
    refine zi_if_ne 11 dX9_write_5 (by decide) (fun c5 => ?_) (fun c5 => ?_)
    · refine zi_ald0 dX9_write_11 ?_
      refine zi_getI dX9_write_12 flX9_162 rfl (by first | assumption | decide) ?_
      refine zi_bipush (nI 20) dX9_write_15 (by decide) ?_
      refine zi_icmp_ne 23 dX9_write_17 (by decide) (fun c17 => ?_) (fun c17 => ?_)
      · rw [b2, zn_eq (by omega) (by omega)] at c17
        rw [if_neg c17]
        refine zi_ald0 dX9_write_23 ?_
        refine zi_getR dX9_write_24 flX9_23 rfl (by first | assumption | decide) ?_
        refine zi_ald0 dX9_write_27 ?_
        refine zi_getI dX9_write_28 flX9_162 rfl (by first | assumption | decide) ?_
        refine zi_ild1 dX9_write_31 ?_
        refine zi_iastN A.2.2.2.2.2.1.length dX9_write_32 (by first | assumption | decide) b2 (zy_d4 (by omega)) (by decide) ?_
        refine zi_ald0 dX9_write_33 ?_
        refine zi_getR dX9_write_34 flX9_26 rfl (by first | assumption | decide) ?_
        refine zi_ald0 dX9_write_37 ?_
        refine zi_getI dX9_write_38 flX9_162 rfl (by first | assumption | decide) ?_
        rw [zs_obj (by decide), b2]
        refine zi_ild2 dX9_write_41 ?_
        refine zi_iastN A.2.2.2.2.2.1.length dX9_write_42 (by first | assumption | decide) rfl (zy_d5 (by omega)) (by decide) ?_
        refine zi_ald0 dX9_write_43 ?_
        refine zi_dupr dX9_write_44 ?_
        refine zi_getI dX9_write_45 flX9_162 rfl (by first | assumption | decide) ?_
        refine zi_iconst (nI 1) dX9_write_48 (by decide) ?_
        refine zi_iadd dX9_write_49 ?_
        rw [zs_obj (by decide), zs_obj (by decide), b2, nI_add]
        refine zi_putI dX9_write_50 flX9_162 fp_9_10 rfl (by first | assumption | decide) ?_
        refine zi_ald0 dX9_write_53 ?_
        refine zi_getI dX9_write_54 flX9_162 rfl (by first | assumption | decide) ?_
        refine zi_iret dX9_write_57 rfl ?_
        rw [zs_same]
        have o1 : ∀ o, o ≠ 168 → o ≠ 168 + 4 → o ≠ 168 + 5 → (zw_pI (zw_pI (zw_pI σ (168 + 4) A.2.2.2.2.2.1.length (nI a)) (168 + 5) A.2.2.2.2.2.1.length c) 168 10 (nI (A.2.2.2.2.2.1.length + 1))).1 o = σ.1 o := fun o a b c => by rw [zs_obj a, zs_obj c, zs_obj b]
        have o2 : ∀ j, j ≠ 10 → (zw_pI (zw_pI (zw_pI σ (168 + 4) A.2.2.2.2.2.1.length (nI a)) (168 + 5) A.2.2.2.2.2.1.length c) 168 10 (nI (A.2.2.2.2.2.1.length + 1))).1 168 j = σ.1 168 j := fun j a => by rw [zs_slot a, zs_obj (by decide), zs_obj (by decide)]
        refine ⟨_, rfl, rfl, ⟨h1.cg (o1 _ (by decide) (by decide) (by decide)), ⟨h2.1, by rw [o2 1 (by decide)]; exact h2.2.1, fun j hj => (h2.2.2 j hj).cg (o1 _ (by decide) (by decide) (by decide))⟩, fun i hi => (h3 i hi).mv (by rw [o1 _ (by decide) (by decide) (by decide)]) (fun m hm => by rw [o1 _ (by decide) (by decide) (by decide)]), by rw [o2 2 (by decide)]; exact h4, h5.cg (o2 6 (by decide)) (o1 _ (by decide) (by decide) (by decide)), by rw [o2 7 (by decide)]; exact h6, ⟨?_, ?_, fun i hi => ?_⟩, h8, by rw [o2 3 (by decide)]; exact h9⟩, ((zy_F.rf.pI (by decide)).pI (by decide)).pI (by decide)⟩
        · show (A.2.2.2.2.2.1 ++ [(a, c)]).length ≤ 20
          rw [List.length_append, List.length_singleton]; omega
        · rw [zs_same]
          show _ = nI (A.2.2.2.2.2.1 ++ [(a, c)]).length
          rw [List.length_append, List.length_singleton]
        · have hi : i < (A.2.2.2.2.2.1 ++ [(a, c)]).length := hi
          show ((A.2.2.2.2.2.1 ++ [(a, c)]).getD i (0, 0)).1 < 8 ∧ _ = nI ((A.2.2.2.2.2.1 ++ [(a, c)]).getD i (0, 0)).1 ∧ _ = ((A.2.2.2.2.2.1 ++ [(a, c)]).getD i (0, 0)).2
          rw [List.length_append, List.length_singleton] at hi
          rw [zs_obj (show 168 + 4 ≠ 168 by decide), zs_obj (show 168 + 4 ≠ 168 + 5 by decide), zs_obj (show 168 + 5 ≠ 168 by decide)]
          by_cases q : i = A.2.2.2.2.2.1.length
          · subst q
            rw [zs_same, zs_same, zd_hi (Nat.le_refl _), Nat.sub_self]
            exact ⟨by show a < 8; omega, rfl, rfl⟩
          · rw [zs_slot q, zs_slot q, zs_obj (show 168 + 5 ≠ 168 + 4 by decide), zd_lo (by omega)]
            exact b3 i (by omega)
      · refine zi_ldc dX9_write_20 kcX9_152 ?_
        refine zi_iret dX9_write_22 rfl ?_
        rw [b2, zn_eq (by omega) (by omega)] at c17
        rw [if_pos c17]
        exact ⟨_, rfl, rfl, hV, zy_F.rf⟩
    · exact absurd c5 (by decide)
theorem c9_tear (hV : zy_V σ A) : zw_Ti l G (d + 1) mX9_tear [.ref 168] σ (fun x υ => x = (zx_tear A).1 ∧ zy_V υ (zx_tear A).2 ∧ zy_F σ υ) := by
  obtain ⟨h1, h2, h3, h4, h5, h6, h7, h8, h9⟩ := id hV
  refine zw_enter2 (L := [some _, none]) (by decide) (Nat.le_of_ble_eq_true rfl) rfl ?_
  refine zi_ald0 dX9_tear_0 ?_
  refine zi_getI dX9_tear_1 flX9_162 rfl (by first | assumption | decide) ?_
  refine zi_ist1 dX9_tear_4 (Nat.le_of_ble_eq_true rfl) rfl ?_
  refine zi_ald0 dX9_tear_5 ?_
  refine zi_iconst (nI 0) dX9_tear_6 (by decide) ?_
  refine zi_putI dX9_tear_7 flX9_162 fp_9_10 rfl (by first | assumption | decide) ?_
  refine zi_ild1 dX9_tear_10 ?_
  refine zi_iret dX9_tear_11 rfl ?_
  have o1 : ∀ o, o ≠ 168 → (zw_pI σ 168 10 (nI 0)).1 o = σ.1 o := fun o a => zs_obj a
  have o2 : ∀ j, j ≠ 10 → (zw_pI σ 168 10 (nI 0)).1 168 j = σ.1 168 j := fun j a => zs_slot a
  exact ⟨_, rfl, h7.2.1, ⟨h1.cg (o1 _ (by decide)), ⟨h2.1, by rw [o2 1 (by decide)]; exact h2.2.1, fun j hj => (h2.2.2 j hj).cg (o1 _ (by decide))⟩, fun i hi => (h3 i hi).mv (by rw [o1 _ (by decide)]) (fun m hm => by rw [o1 _ (by decide)]), by rw [o2 2 (by decide)]; exact h4, h5.cg (o2 6 (by decide)) (o1 _ (by decide)), by rw [o2 7 (by decide)]; exact h6, ⟨by show ([] : List (Nat × Int32)).length ≤ 20; decide, zs_same _ _ _ _, fun i hi => absurd hi (Nat.not_lt_zero _)⟩, h8, by rw [o2 3 (by decide)]; exact h9⟩, zy_F.rf.pI (by decide)⟩
theorem c9_seed (hV : zy_V σ A) {v : Int32} : zw_Ti l G (d + 1) mX9_seed [.ref 168, .int v] σ (fun x υ => x = (zx_seed A v).1 ∧ zy_V υ (zx_seed A v).2 ∧ zy_F σ υ) := by
  obtain ⟨h1, h2, h3, h4, h5, h6, h7, h8, h9⟩ := id hV
  by_cases hv : v < nI 0
  · have e : zx_seed A v = (zx_OU, A) := by unfold zx_seed; rw [if_pos hv]
    rw [e]
    refine zw_enter2 (L := [some _, some _, none]) (by decide) (Nat.le_of_ble_eq_true rfl) rfl ?_
    refine zi_ild1 dX9_seed_0 ?_
    refine zi_if_ge 7 dX9_seed_1 (by decide) (fun c1 => ?_) (fun c1 => ?_)
    · exact absurd c1 (Int32.not_le.mpr hv)
    · refine zi_ldc dX9_seed_4 kcX9_148 ?_
      refine zi_iret dX9_seed_6 rfl ?_
      exact ⟨_, rfl, rfl, hV, zy_F.rf⟩
  · obtain ⟨j, hj, rfl⟩ := nI_of hv
    have e : zx_seed A (nI j) = (nI A.2.2.2.2.2.2, zx_sA A j) := by unfold zx_seed; rw [if_neg hv, nI_clamp hj]; rfl
    rw [e]
    refine zw_enter2 (L := [some _, some _, none]) (by decide) (Nat.le_of_ble_eq_true rfl) rfl ?_
    refine zi_ild1 dX9_seed_0 ?_
    refine zi_if_ge 7 dX9_seed_1 (by decide) (fun c1 => ?_) (fun c1 => ?_)
    · refine zi_ald0 dX9_seed_7 ?_
      refine zi_getI dX9_seed_8 flX9_221 rfl (by first | assumption | decide) ?_
      refine zi_ist2 dX9_seed_11 (Nat.le_of_ble_eq_true rfl) rfl ?_
      refine zi_ald0 dX9_seed_12 ?_
      refine zi_ild1 dX9_seed_13 ?_
      refine zi_putI dX9_seed_14 flX9_221 fp_9_3 rfl (by first | assumption | decide) ?_
      refine zi_ild2 dX9_seed_17 ?_
      refine zi_iret dX9_seed_18 rfl ?_
      exact ⟨_, rfl, h9, hV.seed hj, zy_F.rf.pI (by decide)⟩
    · exact absurd (Int32.not_lt.mp hv) c1
theorem zy_kor : ∀ a, a < 2 → ∀ b, b < 2 → (nI (a + 2 * b) ||| (nI 1 <<< (nI 0 &&& 31)) = nI (1 + 2 * b)) ∧ (nI (a + 2 * b) ||| (nI 1 <<< (nI 1 &&& 31)) = nI (a + 2 * 1)) ∧ (nI (a + 2 * b) >>> (nI 0 &&& 31) &&& nI 1 = nI a) ∧ (nI (a + 2 * b) >>> (nI 1 &&& 31) &&& nI 1 = nI b) := by decide
theorem c9_keep (hV : zy_V σ A) {x : Int32} : zw_Ti l G (d + 2) mX9_keep [.ref 168, .int x] σ (fun y υ => y = (zx_keep A x).1 ∧ zy_V υ (zx_keep A x).2 ∧ zy_F σ υ) := by
  obtain ⟨h1, h2, h3, h4, h5, h6, h7, h8, h9⟩ := id hV
  have kk := zy_kor (zy_k (A.2.2.1 0)) (zy_k_lt _) (zy_k (A.2.2.1 1)) (zy_k_lt _)
  rcases zn_case x (n := 2) (by decide) with ho | ⟨k, hk, rfl⟩
  · have e : zx_keep A x = (zx_UN, A) := by unfold zx_keep; rw [zx_ix_out (by decide) ho]
    rw [e]
    refine zw_enter2 (L := [some _, some _]) (by decide) (Nat.le_of_ble_eq_true rfl) rfl ?_
    refine zi_ild1 dX9_keep_0 ?_
    refine zi_iconst (nI 0) dX9_keep_1 (by decide) ?_
    refine zi_iconst (nI 1) dX9_keep_2 (by decide) ?_
    refine zi_cS3i smX9_in lkX9_54 dX9_keep_3 (Nat.le_of_ble_eq_true rfl) (c9_in_n (m := 1) (by decide)) ?_
    rintro _ _ ⟨rfl, rfl⟩
    rw [zx_ix_out (by decide) ho]
    refine zi_if_ne 12 dX9_keep_6 (by decide) (fun c6 => ?_) (fun c6 => ?_)
    · exact absurd rfl c6
    · refine zi_ldc dX9_keep_9 kcX9_189 ?_
      refine zi_iret dX9_keep_11 rfl ?_
      exact ⟨_, rfl, rfl, hV, zy_F.rf⟩
  · have e : zx_keep A (nI k) = (nI 1, A.1, [], (fun j => if j = k then some (A.1, A.2.2.2.2.2.2) else A.2.2.1 j), A.2.2.2) := by unfold zx_keep; rw [zx_ix_in (by decide) hk]
    rw [e]
    refine zw_enter2 (L := [some _, some _]) (by decide) (Nat.le_of_ble_eq_true rfl) rfl ?_
    refine zi_ild1 dX9_keep_0 ?_
    refine zi_iconst (nI 0) dX9_keep_1 (by decide) ?_
    refine zi_iconst (nI 1) dX9_keep_2 (by decide) ?_
    refine zi_cS3i smX9_in lkX9_54 dX9_keep_3 (Nat.le_of_ble_eq_true rfl) (c9_in_n (m := 1) (by decide)) ?_
    rintro _ _ ⟨rfl, rfl⟩
    rw [zx_ix_in (by decide) hk, if_pos (by rfl)]
    refine zi_if_ne 12 dX9_keep_6 (by decide) (fun c6 => ?_) (fun c6 => ?_)
    · refine zi_ald0 dX9_keep_12 ?_
      refine zi_iconst (nI 0) dX9_keep_13 (by decide) ?_
      refine zi_sipush (nI 714) dX9_keep_14 (by decide) ?_
      refine zi_bipush (nI 34) dX9_keep_17 (by decide) ?_
      refine zi_ild1 dX9_keep_19 ?_
      refine zi_imul dX9_keep_20 ?_
      refine zi_iadd dX9_keep_21 ?_
      rw [pk_mul, nI_add]
      refine zi_cV2v vmX9_copyRow lkX9_208 dX9_keep_22 (by first | assumption | decide) (Nat.le_of_ble_eq_true rfl) (c9_copyRow (x := 0) (y := 714 + 34 * k) (by omega) (by omega) (by omega)) ?_
      rintro τ1 ⟨k1, k2, hF1⟩
      have e3 : τ1.1 168 3 = nI A.2.2.2.2.2.2 := by rw [hF1.2 168 (by decide)]; exact h9
      have e2 : τ1.1 168 2 = nI (zy_k (A.2.2.1 0) + 2 * zy_k (A.2.2.1 1)) := by rw [hF1.2 168 (by decide)]; exact h4
      refine zi_ald0 dX9_keep_25 ?_
      refine zi_getR dX9_keep_26 flX9_13 rfl (by first | assumption | decide) ?_
      refine zi_ild1 dX9_keep_29 ?_
      refine zi_ald0 dX9_keep_30 ?_
      refine zi_getI dX9_keep_31 flX9_221 rfl (by first | assumption | decide) ?_
      rw [e3]
      refine zi_iastN k dX9_keep_34 (by first | assumption | decide) rfl (zy_d2 (by omega)) (by decide) ?_
      refine zi_ald0 dX9_keep_35 ?_
      refine zi_dupr dX9_keep_36 ?_
      refine zi_getI dX9_keep_37 flX9_240 rfl (by first | assumption | decide) ?_
      refine zi_iconst (nI 1) dX9_keep_40 (by decide) ?_
      refine zi_ild1 dX9_keep_41 ?_
      refine zi_ishl dX9_keep_42 ?_
      refine zi_ior dX9_keep_43 ?_
      rw [zs_obj (by decide), e2]
      refine zi_putI dX9_keep_44 flX9_240 fp_9_2 rfl (by first | assumption | decide) ?_
      refine zi_ald0 dX9_keep_47 ?_
      refine zi_iconst (nI 0) dX9_keep_48 (by decide) ?_
      refine zi_putI dX9_keep_49 flX9_183 fp_9_1 rfl (by first | assumption | decide) ?_
      refine zi_iconst (nI 1) dX9_keep_52 (by decide) ?_
      refine zi_iret dX9_keep_53 rfl ?_
      generalize hv : (nI (zy_k (A.2.2.1 0) + 2 * zy_k (A.2.2.1 1)) ||| nI 1 <<< (nI k &&& 31)) = v
      have o1 : ∀ o, o ≠ 168 → o ≠ 169 → o ≠ 170 → (zw_pI (zw_pI (zw_pI τ1 (168 + 2) k (nI A.2.2.2.2.2.2)) 168 2 v) 168 1 (nI 0)).1 o = σ.1 o := fun o a b c => by rw [zs_obj a, zs_obj a, zs_obj c, hF1.2 o b]
      have o2 : ∀ j, j ≠ 1 → j ≠ 2 → (zw_pI (zw_pI (zw_pI τ1 (168 + 2) k (nI A.2.2.2.2.2.2)) 168 2 v) 168 1 (nI 0)).1 168 j = σ.1 168 j := fun j a b => by rw [zs_slot a, zs_slot b, zs_obj (by decide), hF1.2 168 (by decide)]
      have o3 : ∀ j, (zw_pI (zw_pI (zw_pI τ1 (168 + 2) k (nI A.2.2.2.2.2.2)) 168 2 v) 168 1 (nI 0)).1 (168 + 1) j = τ1.1 (168 + 1) j := fun j => by rw [zs_obj (by decide), zs_obj (by decide), zs_obj (by decide)]
      have o4 : (zw_pI (zw_pI (zw_pI τ1 (168 + 2) k (nI A.2.2.2.2.2.2)) 168 2 v) 168 1 (nI 0)).1 168 2 = v := by rw [zs_slot (by decide), zs_same]
      have o5 : ∀ j, (zw_pI (zw_pI (zw_pI τ1 (168 + 2) k (nI A.2.2.2.2.2.2)) 168 2 v) 168 1 (nI 0)).1 (168 + 2) j = if j = k then nI A.2.2.2.2.2.2 else σ.1 (168 + 2) j := fun j => by
        rw [zs_obj (by decide), zs_obj (by decide)]
        by_cases q : j = k
        · rw [if_pos q, q, zs_same]
        · rw [if_neg q, zs_slot q, hF1.2 _ (by decide)]
      have o6 : (zw_pI (zw_pI (zw_pI τ1 (168 + 2) k (nI A.2.2.2.2.2.2)) 168 2 v) 168 1 (nI 0)).1 168 1 = nI 0 := zs_same _ _ _ _
      have o7 : (zw_pI (zw_pI (zw_pI τ1 (168 + 2) k (nI A.2.2.2.2.2.2)) 168 2 v) 168 1 (nI 0)).2 = σ.2 := hF1.1
      generalize (zw_pI (zw_pI (zw_pI τ1 (168 + 2) k (nI A.2.2.2.2.2.2)) 168 2 v) 168 1 (nI 0)) = υ at o1 o2 o3 o4 o5 o6 o7 ⊢
      refine ⟨_, rfl, rfl, ⟨h1.mv (fun m hm => by rw [o3, k2 _ (by omega)]), ⟨by show ([] : List zg_X).length ≤ 20; decide, o6, fun j hj => absurd hj (Nat.not_lt_zero _)⟩, fun i hi => ?_, ?_, h5.cg (o2 6 (by decide) (by decide)) (o1 _ (by decide) (by decide) (by decide)), by rw [o2 7 (by decide) (by decide)]; exact h6, h7.cg (o2 10 (by decide) (by decide)) (o1 _ (by decide) (by decide) (by decide)) (o1 _ (by decide) (by decide) (by decide)), h8, by rw [o2 3 (by decide) (by decide)]; exact h9⟩, fun o ho => ⟨o1 o (by omega) (by omega) (by omega), by rw [o7]⟩⟩
      · show zy_I υ i (if i = k then some (A.1, A.2.2.2.2.2.2) else A.2.2.1 i)
        by_cases q : i = k
        · rw [if_pos q]
          intro z hz
          cases hz
          refine ⟨by rw [o5, if_pos q], h1.mv (fun m hm => ?_), h8⟩
          rw [o3, q, k1 m hm]
        · rw [if_neg q]
          refine (h3 i hi).mv (by rw [o5, if_neg q]) (fun m hm => ?_)
          rw [o3, k2 _ (by omega)]
      · show υ.1 168 2 = nI (zy_k (if 0 = k then some (A.1, A.2.2.2.2.2.2) else A.2.2.1 0) + 2 * zy_k (if 1 = k then some (A.1, A.2.2.2.2.2.2) else A.2.2.1 1))
        rw [o4, ← hv]
        rcases (show k = 0 ∨ k = 1 by omega) with rfl | rfl
        · rw [if_pos rfl, if_neg (by decide), kk.1]; rfl
        · rw [if_neg (by decide), if_pos rfl, kk.2.1]; rfl
    · exact absurd c6 (by decide)
theorem c9_goBack (hV : zy_V σ A) {x : Int32} : zw_Ti l G (d + 2) mX9_goBack [.ref 168, .int x] σ (fun y υ => y = (zx_goBack A x).1 ∧ zy_V υ (zx_goBack A x).2 ∧ zy_F σ υ) := by
  obtain ⟨h1, h2, h3, h4, h5, h6, h7, h8, h9⟩ := id hV
  have kk := zy_kor (zy_k (A.2.2.1 0)) (zy_k_lt _) (zy_k (A.2.2.1 1)) (zy_k_lt _)
  rcases zn_case x (n := 2) (by decide) with ho | ⟨k, hk, rfl⟩
  · have e : zx_goBack A x = (zx_UN, A) := by unfold zx_goBack; rw [zx_ix_out (by decide) ho]
    rw [e]
    refine zw_enter2 (L := [some _, some _]) (by decide) (Nat.le_of_ble_eq_true rfl) rfl ?_
    refine zi_ild1 dX9_goBack_0 ?_
    refine zi_iconst (nI 0) dX9_goBack_1 (by decide) ?_
    refine zi_iconst (nI 1) dX9_goBack_2 (by decide) ?_
    refine zi_cS3i smX9_in lkX9_54 dX9_goBack_3 (Nat.le_of_ble_eq_true rfl) (c9_in_n (m := 1) (by decide)) ?_
    rintro _ _ ⟨rfl, rfl⟩
    rw [zx_ix_out (by decide) ho]
    refine zi_if_ne 12 dX9_goBack_6 (by decide) (fun c6 => ?_) (fun c6 => ?_)
    · exact absurd rfl c6
    · refine zi_ldc dX9_goBack_9 kcX9_189 ?_
      refine zi_iret dX9_goBack_11 rfl ?_
      exact ⟨_, rfl, rfl, hV, zy_F.rf⟩
  · have hb : nI (zy_k (A.2.2.1 0) + 2 * zy_k (A.2.2.1 1)) >>> (nI k &&& 31) &&& nI 1 = nI (zy_k (A.2.2.1 k)) := by
      rcases (show k = 0 ∨ k = 1 by omega) with rfl | rfl
      · exact kk.2.2.1
      · exact kk.2.2.2
    cases hI : A.2.2.1 k with
    | none =>
      have e : zx_goBack A (nI k) = (zx_NO, A) := by unfold zx_goBack; rw [zx_ix_in (by decide) hk]; simp only; rw [hI]
      rw [e]
      rw [hI] at hb
      refine zw_enter2 (L := [some _, some _]) (by decide) (Nat.le_of_ble_eq_true rfl) rfl ?_
      refine zi_ild1 dX9_goBack_0 ?_
      refine zi_iconst (nI 0) dX9_goBack_1 (by decide) ?_
      refine zi_iconst (nI 1) dX9_goBack_2 (by decide) ?_
      refine zi_cS3i smX9_in lkX9_54 dX9_goBack_3 (Nat.le_of_ble_eq_true rfl) (c9_in_n (m := 1) (by decide)) ?_
      rintro _ _ ⟨rfl, rfl⟩
      rw [zx_ix_in (by decide) hk, if_pos (by rfl)]
      refine zi_if_ne 12 dX9_goBack_6 (by decide) (fun c6 => ?_) (fun c6 => ?_)
      · refine zi_ald0 dX9_goBack_12 ?_
        refine zi_getI dX9_goBack_13 flX9_240 rfl (by first | assumption | decide) ?_
        rw [h4]
        refine zi_ild1 dX9_goBack_16 ?_
        refine zi_ishr dX9_goBack_17 ?_
        refine zi_iconst (nI 1) dX9_goBack_18 (by decide) ?_
        refine zi_iand dX9_goBack_19 ?_
        rw [hb]
        refine zi_if_ne 26 dX9_goBack_20 (by decide) (fun c20 => ?_) (fun c20 => ?_)
        · exact absurd rfl c20
        · refine zi_ldc dX9_goBack_23 kcX9_217 ?_
          refine zi_iret dX9_goBack_25 rfl ?_
          exact ⟨_, rfl, rfl, hV, zy_F.rf⟩
      · exact absurd c6 (by decide)
    | some z =>
      have e : zx_goBack A (nI k) = (nI 1, z.1, [], A.2.2.1, A.2.2.2.1, A.2.2.2.2.1, A.2.2.2.2.2.1, z.2) := by unfold zx_goBack; rw [zx_ix_in (by decide) hk]; simp only; rw [hI]
      rw [e]
      rw [hI, show zy_k (some z) = 1 from rfl] at hb
      obtain ⟨i1, i2, i3⟩ := h3 k hk z hI
      refine zw_enter2 (L := [some _, some _]) (by decide) (Nat.le_of_ble_eq_true rfl) rfl ?_
      refine zi_ild1 dX9_goBack_0 ?_
      refine zi_iconst (nI 0) dX9_goBack_1 (by decide) ?_
      refine zi_iconst (nI 1) dX9_goBack_2 (by decide) ?_
      refine zi_cS3i smX9_in lkX9_54 dX9_goBack_3 (Nat.le_of_ble_eq_true rfl) (c9_in_n (m := 1) (by decide)) ?_
      rintro _ _ ⟨rfl, rfl⟩
      rw [zx_ix_in (by decide) hk, if_pos (by rfl)]
      refine zi_if_ne 12 dX9_goBack_6 (by decide) (fun c6 => ?_) (fun c6 => ?_)
      · refine zi_ald0 dX9_goBack_12 ?_
        refine zi_getI dX9_goBack_13 flX9_240 rfl (by first | assumption | decide) ?_
        rw [h4]
        refine zi_ild1 dX9_goBack_16 ?_
        refine zi_ishr dX9_goBack_17 ?_
        refine zi_iconst (nI 1) dX9_goBack_18 (by decide) ?_
        refine zi_iand dX9_goBack_19 ?_
        rw [hb]
        refine zi_if_ne 26 dX9_goBack_20 (by decide) (fun c20 => ?_) (fun c20 => ?_)
        · refine zi_ald0 dX9_goBack_26 ?_
          refine zi_sipush (nI 714) dX9_goBack_27 (by decide) ?_
          refine zi_bipush (nI 34) dX9_goBack_30 (by decide) ?_
          refine zi_ild1 dX9_goBack_32 ?_
          refine zi_imul dX9_goBack_33 ?_
          refine zi_iadd dX9_goBack_34 ?_
          rw [pk_mul, nI_add]
          refine zi_iconst (nI 0) dX9_goBack_35 (by decide) ?_
          refine zi_cV2v vmX9_copyRow lkX9_208 dX9_goBack_36 (by first | assumption | decide) (Nat.le_of_ble_eq_true rfl) (c9_copyRow (x := 714 + 34 * k) (y := 0) (by omega) (by omega) (by omega)) ?_
          rintro τ1 ⟨k1, k2, hF1⟩
          refine zi_ald0 dX9_goBack_39 ?_
          refine zi_ald0 dX9_goBack_40 ?_
          refine zi_getR dX9_goBack_41 flX9_13 rfl (by first | assumption | decide) ?_
          refine zi_ild1 dX9_goBack_44 ?_
          refine zi_ialdN k dX9_goBack_45 (by first | assumption | decide) rfl (zy_d2 (by omega)) (by decide) ?_
          rw [hF1.2 (168 + 2) (by decide), i1]
          refine zi_putI dX9_goBack_46 flX9_221 fp_9_3 rfl (by first | assumption | decide) ?_
          refine zi_ald0 dX9_goBack_49 ?_
          refine zi_iconst (nI 0) dX9_goBack_50 (by decide) ?_
          refine zi_putI dX9_goBack_51 flX9_183 fp_9_1 rfl (by first | assumption | decide) ?_
          refine zi_iconst (nI 1) dX9_goBack_54 (by decide) ?_
          refine zi_iret dX9_goBack_55 rfl ?_
          have o1 : ∀ o, o ≠ 168 → o ≠ 169 → (zw_pI (zw_pI τ1 168 3 (nI z.2)) 168 1 (nI 0)).1 o = σ.1 o := fun o a b => by rw [zs_obj a, zs_obj a, hF1.2 o b]
          have o2 : ∀ j, j ≠ 1 → j ≠ 3 → (zw_pI (zw_pI τ1 168 3 (nI z.2)) 168 1 (nI 0)).1 168 j = σ.1 168 j := fun j a b => by rw [zs_slot a, zs_slot b, hF1.2 168 (by decide)]
          have o3 : ∀ j, (zw_pI (zw_pI τ1 168 3 (nI z.2)) 168 1 (nI 0)).1 (168 + 1) j = τ1.1 (168 + 1) j := fun j => by rw [zs_obj (by decide), zs_obj (by decide)]
          have o4 : (zw_pI (zw_pI τ1 168 3 (nI z.2)) 168 1 (nI 0)).1 168 3 = nI z.2 := by rw [zs_slot (by decide), zs_same]
          have o6 : (zw_pI (zw_pI τ1 168 3 (nI z.2)) 168 1 (nI 0)).1 168 1 = nI 0 := zs_same _ _ _ _
          have o7 : (zw_pI (zw_pI τ1 168 3 (nI z.2)) 168 1 (nI 0)).2 = σ.2 := hF1.1
          generalize (zw_pI (zw_pI τ1 168 3 (nI z.2)) 168 1 (nI 0)) = υ at o1 o2 o3 o4 o6 o7 ⊢
          exact ⟨_, rfl, rfl, ⟨i2.mv (fun m hm => by rw [o3, k1 m hm]), ⟨by show ([] : List zg_X).length ≤ 20; decide, o6, fun j hj => absurd hj (Nat.not_lt_zero _)⟩, fun i hi => (h3 i hi).mv (by rw [o1 _ (by decide) (by decide)]) (fun m hm => by rw [o3, k2 _ (by omega)]), by rw [o2 2 (by decide) (by decide)]; exact h4, h5.cg (o2 6 (by decide) (by decide)) (o1 _ (by decide) (by decide)), by rw [o2 7 (by decide) (by decide)]; exact h6, h7.cg (o2 10 (by decide) (by decide)) (o1 _ (by decide) (by decide)) (o1 _ (by decide) (by decide)), i3, o4⟩, fun o ho => ⟨o1 o (by omega) (by omega), by rw [o7]⟩⟩
        · exact absurd c20 (by decide)
      · exact absurd c6 (by decide)
end Z42
