/-! the class's own methods: fate, draws, undo, book, images -/
theorem zn_sd {s : Nat} (h : s < 2147483648) : ((nI s).toInt64 * 1103515245 + 12345 &&& 2147483647).toInt32 = nI (zx_sd s) := by
  have e1 : (nI s).toInt64 = Int64.ofNat s := by
    apply Int64.toInt_inj.mp
    rw [Int32.toInt_toInt64, nI_toInt h, Int64.toInt_ofNat_of_lt (by omega)]
  have e2 : Int64.ofNat s * 1103515245 + 12345 = Int64.ofNat (s * 1103515245 + 12345) := by
    rw [Int64.ofNat_add, Int64.ofNat_mul]; rfl
  rw [e1, e2]
  apply Int32.toBitVec_inj.mp
  apply BitVec.eq_of_toNat_eq
  have e3 : ((Int64.ofNat (s * 1103515245 + 12345) &&& 2147483647).toInt32).toBitVec = (BitVec.ofNat 64 (s * 1103515245 + 12345) &&& BitVec.ofNat 64 2147483647).signExtend 32 := rfl
  rw [e3, BitVec.signExtend_eq_setWidth_of_le _ (by decide), BitVec.toNat_setWidth, BitVec.toNat_and, BitVec.toNat_ofNat, BitVec.toNat_ofNat]
  rw [show 2147483647 % 2 ^ 64 = 2 ^ 31 - 1 by decide, Nat.and_two_pow_sub_one_eq_mod]
  have e4 : (nI (zx_sd s)).toBitVec.toNat = zx_sd s % 2 ^ 32 := by
    show (BitVec.ofNat 32 (zx_sd s)).toNat = _
    rw [BitVec.toNat_ofNat]
  rw [e4]
  unfold zx_sd
  rw [Nat.mod_eq_of_lt (show s * 1103515245 + 12345 < 2 ^ 64 by omega), show (2 : Nat) ^ 31 = 2147483648 by decide]
theorem zx_sd_lt (s : Nat) : zx_sd s < 2147483648 := Nat.mod_lt _ (by decide)
theorem zn_sh {a : Nat} (h : a < 2147483648) : nI a >>> (nI 16 &&& 31) = nI (a / 65536) := pk_shrN h _ 16 (by decide)
theorem zx_dr_lt {s n : Nat} (h : 1 ≤ n) : zx_dr s n < n := Nat.mod_lt _ (by omega)
theorem zt_rd_zero : ∀ (w : List Nat) (m : Nat), zt_rd m w → 2 * w.countP (fun x => x == 0) = w.length + m
  | [], 0, _ => rfl
  | [], m + 1, h => h.elim
  | x :: l, 0, h => h.elim
  | 0 :: l, m + 1, h => by
    have := zt_rd_zero l m h
    rw [List.countP_cons_of_pos (by rfl), List.length_cons]
    omega
  | (x + 1) :: l, m + 1, h => by
    have := zt_rd_zero l (m + 2) h
    rw [List.countP_cons_of_neg (by simp), List.length_cons]
    omega
theorem zt_lv_cnt : ∀ (w : List Nat), (zt_lv w).length = w.countP (fun x => x == 0)
  | [] => rfl
  | x :: l => by
    have ih := zt_lv_cnt l
    unfold zt_lv at ih ⊢
    rw [List.length_cons, List.range_succ_eq_map, List.filter_cons, List.filter_map]
    have e : ((fun i => (x :: l).getD i 0 == 0) ∘ Nat.succ) = fun i => l.getD i 0 == 0 := by
      funext i; simp
    rw [e]
    by_cases q : x = 0
    · subst q
      rw [if_pos (by simp), List.length_cons, List.length_map, ih, List.countP_cons_of_pos (by rfl)]
    · rw [if_neg (by simp [q]), List.length_map, ih, List.countP_cons_of_neg (by simp [q])]
theorem zt_lv_len {w : List Nat} (h : zt_rd 1 w) : (zt_lv w).length = (w.length - 1) / 2 + 1 := by
  have h1 := zt_rd_zero w 1 h
  have h2 := zt_rd_ne h
  rw [zt_lv_cnt]
  omega
/-- the seed alone is another -/
def zx_sA (A : zx_T) (s : Nat) : zx_T := (A.1, A.2.1, A.2.2.1, A.2.2.2.1, A.2.2.2.2.1, A.2.2.2.2.2.1, s)
theorem zx_V.seed {σ : zw_S} {A : zx_T} {s : Nat} (hV : zx_V σ A) (hs : s < 2147483648) : zx_V (zw_pI σ 0 11 (nI s)) (zx_sA A s) := by
  obtain ⟨h1, ⟨nx, a1, a2, a3, a4, a5⟩, h3, h4, h5, ⟨b1, b2, b3⟩, h7, h8⟩ := hV
  have e : ∀ o, o ≠ 0 → (zw_pI σ 0 11 (nI s)).1 o = σ.1 o := fun o ho => zs_obj ho
  refine ⟨h1.cg (fun o a b => e o (by omega)), ⟨nx, a1, a2, by rw [e 7 (by omega)]; exact a3, by rw [e 7 (by omega)]; exact a4, fun j hj => (a5 j hj).cg (fun o p q => e o (by unfold zq_sl at p; omega))⟩, fun i hi => (h3 i hi).cg (fun k a b => e k (by omega)), h4.cg (zs_slot (by decide)) (e _ (by omega)), ?_, ⟨b1, ?_, fun i hi => ?_⟩, hs, zs_same _ _ _ _⟩
  · rw [zs_slot (by decide)]; exact h5
  · rw [e 130 (by omega)]; exact b2
  · rw [e 131 (by omega), e 132 (by omega)]; exact b3 i hi
section Z29
variable {l : Launch} {G : zw_G} {d : Nat} {σ : zw_S} {A : zx_T}
theorem c8_draw {s n s1 x : Nat} (es : s1 = zx_sd s) (ex : x = zx_dr s n) (hs : σ.1 0 11 = nI s) (hs2 : s < 2147483648) (h1 : 1 ≤ n) (hn : n < 2147483648) : zw_Ti l G (d + 1) mX8_draw [.ref 0, .int (nI n)] σ (fun y υ => y = nI x ∧ υ = zw_pI σ 0 11 (nI s1)) := by
  have hlt := zx_sd_lt s
  have e0 := zn_sd hs2
  have ex2 : x = s1 / 65536 % n := by rw [es, ex]; rfl
  rw [← es] at hlt e0
  refine zw_enter2 (L := [some _, some _]) (by decide) (Nat.le_of_ble_eq_true rfl) rfl ?_
  refine zi_ald0 dX8_draw_0 ?_
  refine zi_ald0 dX8_draw_1 ?_
  refine zi_getI dX8_draw_2 flX8_71 rfl (by first | assumption | decide) ?_
  rw [hs]
  refine zi_i2l dX8_draw_5 ?_
  refine zi_ldc2 dX8_draw_6 kcX8_259 ?_
  refine zi_lmul dX8_draw_9 ?_
  refine zi_ldc2 dX8_draw_10 kcX8_261 ?_
  refine zi_ladd dX8_draw_13 ?_
  refine zi_ldc2 dX8_draw_14 kcX8_263 ?_
  refine zi_land dX8_draw_17 ?_
  refine zi_l2i dX8_draw_18 ?_
  rw [e0]
  refine zi_putI dX8_draw_19 flX8_71 fp_8_11 rfl (by first | assumption | decide) ?_
  refine zi_ild1 dX8_draw_22 ?_
  refine zi_iconst (nI 1) dX8_draw_23 (by decide) ?_
  refine zi_icmp_ge 31 dX8_draw_24 (by decide) (fun c24 => ?_) (fun c24 => ?_)
  · refine zi_ald0 dX8_draw_31 ?_
    refine zi_getI dX8_draw_32 flX8_71 rfl (by first | assumption | decide) ?_
    rw [zs_same]
    refine zi_bipush (nI 16) dX8_draw_35 (by decide) ?_
    refine zi_ishr dX8_draw_37 ?_
    rw [zn_sh hlt]
    refine zi_ild1 dX8_draw_38 ?_
    refine zi_irem dX8_draw_39 (by rw [zn_0, zn_eq (by omega) (by omega)]; omega) ?_
    refine zi_iret dX8_draw_40 rfl ?_
    refine ⟨_, rfl, ?_, rfl⟩
    rw [ex2]
    exact pk_rem (by omega) (by omega) (by omega)
  · rw [zn_le (by omega) (by omega)] at c24; omega
theorem zx_dr_nw {x : Nat} (hx : x < 2) : zt_wd [x + 1, 0, 0] := ⟨trivial, by intro y hy; simp at hy; omega, by simp only [List.length_cons, List.length_nil]; omega⟩
theorem zx_pIF {s : Int32} : zx_F σ (zw_pI σ 0 11 s) := fun o ho => ⟨by rw [zs_obj (by omega)], rfl⟩
theorem c8_drawTree_loop {m : Nat} (hm : m ≤ 4) : ∀ (k : Nat), k ≤ m → ∀ (σ : zw_S) (w : List Nat) (s : Nat) (y : Option Value) (A : zx_T) (p : List Nat × Nat), zx_gr k w s = p → zx_V σ (zx_sA A s) → zt_V σ 147 w (nI 1) → zt_wd w → w.length = 2 * (m + 1 - k) + 1 → zw_W l G (d + 4) mX8_drawTree 22 [some (.ref 0), some (.int (nI (m + 1))), some (.int (nI (m + 1 - k))), y] [] σ (fun r υ => r = none ∧ zx_V υ (zx_sA A p.2) ∧ zt_V υ 147 p.1 (nI 1) ∧ zt_wd p.1 ∧ zx_F σ υ)
  | 0, hk, σ, w, s, y, A, p, hp, hV, hT, hw, hl => by
    have hp : (w, s) = p := hp
    subst hp
    refine zi_ild2 dX8_drawTree_22 ?_
    refine zi_ild1 dX8_drawTree_23 ?_
    refine zi_icmp_ge 81 dX8_drawTree_24 (by decide) (fun c24 => ?_) (fun c24 => ?_)
    · refine zi_ret dX8_drawTree_81 rfl ?_
      exact ⟨rfl, hV, hT, hw, zx_F.rf⟩
    · rw [zn_le (by omega) (by omega)] at c24; omega
  | k + 1, hk, σ, w, s, y, A, p, hp, hV, hT, hw, hl => by
    have ih := c8_drawTree_loop hm k (by omega)
    obtain ⟨-, -, -, -, -, -, hs, hs1⟩ := id hV
    have hs : s < 2147483648 := hs
    have hs1 : σ.1 0 11 = nI s := hs1
    have hll := zt_lv_len hw.1
    have hd1 := zx_dr_lt (s := s) (n := (w.length - 1) / 2 + 1) (by omega)
    have hd2 := zx_dr_lt (s := zx_sd s) (n := 2) (by omega)
    have hl1 := zx_sd_lt s
    have hl2 := zx_sd_lt (zx_sd s)
    have e : zx_gr (k + 1) w s = zx_gr k (w.take ((zt_lv w).getD (zx_dr s ((w.length - 1) / 2 + 1)) 0) ++ [zx_dr (zx_sd s) 2 + 1, 0, 0] ++ w.drop ((zt_lv w).getD (zx_dr s ((w.length - 1) / 2 + 1)) 0 + 1)) (zx_sd (zx_sd s)) := by unfold zx_gr; rw [zx_gG]
    rw [e] at hp
    clear e
    obtain ⟨j, hj⟩ : ∃ j, j = zx_dr s ((w.length - 1) / 2 + 1) := ⟨_, rfl⟩
    obtain ⟨s1, es1⟩ : ∃ s1, s1 = zx_sd s := ⟨_, rfl⟩
    rw [← es1] at hd2 hl1 hl2 hp
    rw [← hj] at hd1 hp
    obtain ⟨s2, es2⟩ : ∃ s2, s2 = zx_sd s1 := ⟨_, rfl⟩
    obtain ⟨x2, ex2⟩ : ∃ x2, x2 = zx_dr s1 2 := ⟨_, rfl⟩
    rw [← es2, ← ex2] at hp
    rw [← es2] at hl2
    rw [← ex2] at hd2
    have hj2 : j < (zt_lv w).length := by omega
    have hjm := zt_lv_lt (List.getElem_mem hj2)
    have hjD : (zt_lv w).getD j 0 = (zt_lv w)[j] := by rw [List.getD_eq_getElem?_getD, List.getElem?_eq_getElem hj2]; rfl
    rw [← hjD] at hjm
    generalize hq : (zt_lv w).getD j 0 = q at hp hjm hjD
    refine zi_ild2 dX8_drawTree_22 ?_
    refine zi_ild1 dX8_drawTree_23 ?_
    refine zi_icmp_ge 81 dX8_drawTree_24 (by decide) (fun c24 => ?_) (fun c24 => ?_)
    · rw [zn_le (by omega) (by omega)] at c24; omega
    · refine zi_ild2 dX8_drawTree_27 ?_
      refine zi_iconst (nI 5) dX8_drawTree_28 (by decide) ?_
      refine zi_icmp_ge 81 dX8_drawTree_29 (by decide) (fun c29 => ?_) (fun c29 => ?_)
      · rw [zn_le (by omega) (by omega)] at c29; omega
      · refine zi_ald0 dX8_drawTree_32 ?_
        refine zi_getR dX8_drawTree_33 flX8_53 rfl (by first | assumption | decide) ?_
        refine zi_ald0 dX8_drawTree_36 ?_
        refine zi_ald0 dX8_drawTree_37 ?_
        refine zi_getR dX8_drawTree_38 flX8_53 rfl (by first | assumption | decide) ?_
        refine zi_cV0i vmX7_leaves lkX8_256 dX8_drawTree_41 (by first | assumption | decide) (Nat.le_of_ble_eq_true rfl) (c7_leaves zt_ok147 hT hw.pos) ?_
        rintro _ _ ⟨rfl, rfl⟩
        refine zi_cV1i vmX8_draw lkX8_250 dX8_drawTree_44 (by first | assumption | decide) (Nat.le_of_ble_eq_true rfl) (c8_draw es1 hj hs1 hs (by omega) (by omega)) ?_
        rintro _ τ1 ⟨rfl, rfl⟩
        have hV1 : zx_V _ (zx_sA A s1) := hV.seed hl1
        have hT1 := hT.cg (τ := zw_pI σ 0 11 (nI s1)) (zs_obj (by decide)) (zs_obj (by decide))
        refine zi_cV1i vmX7_leafAt lkX8_204 dX8_drawTree_47 (by first | assumption | decide) (Nat.le_of_ble_eq_true rfl) (c7_leafAt zt_ok147 hT1) ?_
        rintro _ _ ⟨rfl, rfl⟩
        rw [zp_at_n (by omega), List.getElem?_eq_getElem hj2, zp_oI_some, ← hjD]
        refine zi_ist3 dX8_drawTree_50 (Nat.le_of_ble_eq_true rfl) rfl ?_
        refine zi_ald0 dX8_drawTree_51 ?_
        refine zi_getR dX8_drawTree_52 flX8_57 rfl (by first | assumption | decide) ?_
        refine zi_ald0 dX8_drawTree_55 ?_
        refine zi_iconst (nI 2) dX8_drawTree_56 (by decide) ?_
        refine zi_cV1i vmX8_draw lkX8_250 dX8_drawTree_57 (by first | assumption | decide) (Nat.le_of_ble_eq_true rfl) (c8_draw (n := 2) es2 ex2 (zs_same _ _ _ _) hl1 (by decide) (by decide)) ?_
        rintro _ τ2 ⟨rfl, rfl⟩
        have hV2 : zx_V _ (zx_sA A s2) := hV1.seed hl2
        have hT2 := hT1.cg (τ := zw_pI (zw_pI σ 0 11 (nI s1)) 0 11 (nI s2)) (zs_obj (by decide)) (zs_obj (by decide))
        have hx2 : zx_F σ (zw_pI (zw_pI σ 0 11 (nI s1)) 0 11 (nI s2)) := zx_pIF.tr zx_pIF
        refine zi_cV1v vmX7_becomeNode lkX8_253 dX8_drawTree_60 (by first | assumption | decide) (Nat.le_of_ble_eq_true rfl) (c7_becomeNode zt_ok150 hd2) ?_
        rintro τ3 ⟨hQ3, hF3⟩
        obtain ⟨hV3, hx3⟩ := hV2.sc hF3 zx_sc150
        have hT3 := hT2.fr hF3 (by unfold zt_A; omega) (by unfold zt_A; omega)
        refine zi_ald0 dX8_drawTree_63 ?_
        refine zi_getR dX8_drawTree_64 flX8_53 rfl (by first | assumption | decide) ?_
        refine zi_ild3 dX8_drawTree_67 ?_
        refine zi_ald0 dX8_drawTree_68 ?_
        refine zi_getR dX8_drawTree_69 flX8_57 rfl (by first | assumption | decide) ?_
        refine zi_cV2v vmX7_graftAt lkX8_211 dX8_drawTree_72 (by first | assumption | decide) (Nat.le_of_ble_eq_true rfl) (c7_graftAt zt_ok147 zt_ok150 (by omega) hT3 hQ3 hjm.1 (zx_dr_nw hd2).pos (by simp only [List.length_cons, List.length_nil]; omega)) ?_
        rintro τ4 ⟨hT4, hF4⟩
        obtain ⟨hV4, hx4⟩ := hV3.sc hF4 zx_sc147
        have hw4 := zt_graft_wd hw (zx_dr_nw hd2) hjm.1 hjm.2 (by simp only [List.length_cons, List.length_nil]; omega)
        refine zi_inc2 (nI 1) dX8_drawTree_75 (by decide) (Nat.le_of_ble_eq_true rfl) rfl ?_
        refine zi_goto 22 dX8_drawTree_78 (by decide) ?_
        rw [nI_add, show m + 1 - (k + 1) + 1 = m + 1 - k by omega]
        refine (ih τ4 _ s2 _ A p hp hV4 hT4 hw4 ?_).mono (fun r υ hr => ⟨hr.1, hr.2.1, hr.2.2.1, hr.2.2.2.1, ((hx2.tr hx3).tr hx4).tr hr.2.2.2.2⟩)
        simp only [List.length_append, List.length_cons, List.length_nil, List.length_take, List.length_drop]
        omega
theorem c8_drawTree {p : List Nat × Nat} (hV : zx_V σ A) (hp : zx_gr (zx_dr A.2.2.2.2.2.2 5) [zx_dr (zx_sd A.2.2.2.2.2.2) 2 + 1, 0, 0] (zx_sd (zx_sd A.2.2.2.2.2.2)) = p) : zw_Tv l G (d + 4) mX8_drawTree [.ref 0] σ (fun υ => zx_V υ (zx_sA A p.2) ∧ zt_V υ 147 p.1 (nI 1) ∧ zt_wd p.1 ∧ zx_F σ υ) := by
  obtain ⟨-, -, -, -, -, -, hs, hs1⟩ := id hV
  generalize hse : A.2.2.2.2.2.2 = s at hs hs1 hp
  have hd1 := zx_dr_lt (s := s) (n := 5) (by omega)
  have hd2 := zx_dr_lt (s := zx_sd s) (n := 2) (by omega)
  have hl1 := zx_sd_lt s
  have hl2 := zx_sd_lt (zx_sd s)
  obtain ⟨m, hm⟩ : ∃ m, m = zx_dr s 5 := ⟨_, rfl⟩
  obtain ⟨s1, es1⟩ : ∃ s1, s1 = zx_sd s := ⟨_, rfl⟩
  rw [← es1] at hd2 hl1 hl2 hp
  rw [← hm] at hd1 hp
  obtain ⟨s2, es2⟩ : ∃ s2, s2 = zx_sd s1 := ⟨_, rfl⟩
  obtain ⟨x2, ex2⟩ : ∃ x2, x2 = zx_dr s1 2 := ⟨_, rfl⟩
  rw [← es2, ← ex2] at hp
  rw [← es2] at hl2
  rw [← ex2] at hd2
  refine zw_enter2 (L := [some _, none, none, none]) (by decide) (Nat.le_of_ble_eq_true rfl) rfl ?_
  refine zi_ald0 dX8_drawTree_0 ?_
  refine zi_iconst (nI 5) dX8_drawTree_1 (by decide) ?_
  refine zi_cV1i vmX8_draw lkX8_250 dX8_drawTree_2 (by first | assumption | decide) (Nat.le_of_ble_eq_true rfl) (c8_draw (n := 5) es1 hm hs1 hs (by decide) (by decide)) ?_
  rintro _ τ1 ⟨rfl, rfl⟩
  have hV1 : zx_V _ (zx_sA A s1) := hV.seed hl1
  refine zi_iconst (nI 1) dX8_drawTree_5 (by decide) ?_
  refine zi_iadd dX8_drawTree_6 ?_
  rw [nI_add]
  refine zi_ist1 dX8_drawTree_7 (Nat.le_of_ble_eq_true rfl) rfl ?_
  refine zi_ald0 dX8_drawTree_8 ?_
  refine zi_getR dX8_drawTree_9 flX8_53 rfl (by first | assumption | decide) ?_
  refine zi_ald0 dX8_drawTree_12 ?_
  refine zi_iconst (nI 2) dX8_drawTree_13 (by decide) ?_
  refine zi_cV1i vmX8_draw lkX8_250 dX8_drawTree_14 (by first | assumption | decide) (Nat.le_of_ble_eq_true rfl) (c8_draw (n := 2) es2 ex2 (zs_same _ _ _ _) hl1 (by decide) (by decide)) ?_
  rintro _ τ2 ⟨rfl, rfl⟩
  have hV2 : zx_V _ (zx_sA A s2) := hV1.seed hl2
  have hx2 : zx_F σ (zw_pI (zw_pI σ 0 11 (nI s1)) 0 11 (nI s2)) := zx_pIF.tr zx_pIF
  refine zi_cV1v vmX7_becomeNode lkX8_253 dX8_drawTree_17 (by first | assumption | decide) (Nat.le_of_ble_eq_true rfl) (c7_becomeNode zt_ok147 hd2) ?_
  rintro τ3 ⟨hQ3, hF3⟩
  obtain ⟨hV3, hx3⟩ := hV2.sc hF3 zx_sc147
  refine zi_iconst (nI 1) dX8_drawTree_20 (by decide) ?_
  refine zi_ist2 dX8_drawTree_21 (Nat.le_of_ble_eq_true rfl) rfl ?_
  have ih := c8_drawTree_loop (l := l) (G := G) (d := d) (m := m) (by omega) m (Nat.le_refl _) τ3 _ s2 none A p hp hV3 hQ3 (zx_dr_nw hd2) (by simp only [List.length_cons, List.length_nil]; omega)
  rw [show m + 1 - m = 1 by omega] at ih
  exact ih.mono (fun r υ hr => ⟨hr.1, hr.2.1, hr.2.2.1, hr.2.2.2.1, (hx2.tr hx3).tr hr.2.2.2.2⟩)
theorem c8_drift_loop {n : Nat} (hn : n ≤ 8) : ∀ (k : Nat), k ≤ n → ∀ (σ : zw_S) (A : zx_T), zx_V σ A → zw_W l G (d + 5) mX8_drift 16 [some (.ref 0), some (.int (nI n)), some (.int (nI (n - k)))] [] σ (fun r υ => ∃ x, r = some (.int x) ∧ x = nI (zx_dn k A).1.1.length ∧ zx_V υ (zx_dn k A) ∧ zx_F σ υ)
  | 0, hk, σ, A, hV => by
    refine zi_ild2 dX8_drift_16 ?_
    refine zi_ild1 dX8_drift_17 ?_
    refine zi_icmp_ge 64 dX8_drift_18 (by decide) (fun c18 => ?_) (fun c18 => ?_)
    · refine zi_ald0 dX8_drift_64 ?_
      refine zi_getR dX8_drift_65 flX8_12 rfl (by first | assumption | decide) ?_
      refine zi_getI dX8_drift_68 flX8_112 rfl (by first | assumption | decide) ?_
      refine zi_iret dX8_drift_71 rfl ?_
      exact ⟨_, rfl, hV.1.2.2.1, hV, zx_F.rf⟩
    · rw [zn_le (by omega) (by omega)] at c18; omega
  | k + 1, hk, σ, A, hV => by
    have ih := c8_drift_loop hn k (by omega)
    have hl8 := hV.1.1
    refine zi_ild2 dX8_drift_16 ?_
    refine zi_ild1 dX8_drift_17 ?_
    refine zi_icmp_ge 64 dX8_drift_18 (by decide) (fun c18 => ?_) (fun c18 => ?_)
    · rw [zn_le (by omega) (by omega)] at c18; omega
    · refine zi_ald0 dX8_drift_21 ?_
      refine zi_getR dX8_drift_22 flX8_12 rfl (by first | assumption | decide) ?_
      refine zi_cV0i vmX6_isFull lkX8_77 dX8_drift_25 (by first | assumption | decide) (Nat.le_of_ble_eq_true rfl) (c6_isFull zg_ok1 hV.1) ?_
      rintro _ _ ⟨rfl, rfl⟩
      refine zi_if_ne 64 dX8_drift_28 (by decide) (fun c28 => ?_) (fun c28 => ?_)
      · have e8 : A.1.1.length = 8 := by
          by_cases q : 8 ≤ A.1.1.length
          · omega
          · rw [if_neg q] at c28; exact absurd rfl c28
        rw [show zx_dn (k + 1) A = A from if_pos e8]
        refine zi_ald0 dX8_drift_64 ?_
        refine zi_getR dX8_drift_65 flX8_12 rfl (by first | assumption | decide) ?_
        refine zi_getI dX8_drift_68 flX8_112 rfl (by first | assumption | decide) ?_
        refine zi_iret dX8_drift_71 rfl ?_
        exact ⟨_, rfl, hV.1.2.2.1, hV, zx_F.rf⟩
      · have e8 : A.1.1.length < 8 := by
          by_cases q : 8 ≤ A.1.1.length
          · rw [if_pos q] at c28; exact absurd c28 (by decide)
          · omega
        rw [show zx_dn (k + 1) A = zx_dn k (zx_ch A) from if_neg (by omega)]
        obtain ⟨p, hp⟩ : ∃ p, zx_gr (zx_dr A.2.2.2.2.2.2 5) [zx_dr (zx_sd A.2.2.2.2.2.2) 2 + 1, 0, 0] (zx_sd (zx_sd A.2.2.2.2.2.2)) = p := ⟨_, rfl⟩
        have hch : zx_ch A = zx_dd (zx_sA A p.2) (A.1.1 ++ [(p.1, nI 1)], A.1.2) := by unfold zx_ch; rw [hp]; rfl
        rw [hch]
        refine zi_ald0 dX8_drift_31 ?_
        refine zi_cV0v vmX8_drawTree lkX8_247 dX8_drift_32 (by first | assumption | decide) (Nat.le_of_ble_eq_true rfl) (c8_drawTree hV hp) ?_
        rintro τ1 ⟨hV1, hT1, hw1, hx1⟩
        obtain ⟨g1, ⟨nx, g2⟩, -⟩ := id hV1
        refine zi_ald0 dX8_drift_35 ?_
        refine zi_getR dX8_drift_36 flX8_19 rfl (by first | assumption | decide) ?_
        refine zi_ald0 dX8_drift_39 ?_
        refine zi_getR dX8_drift_40 flX8_12 rfl (by first | assumption | decide) ?_
        refine zi_cV1v vmX1_record lkX8_85 dX8_drift_43 (by first | assumption | decide) (Nat.le_of_ble_eq_true rfl) (c1_record g2 g1) ?_
        rintro τ3 ⟨hq3, hF3⟩
        have g3 : zg_V τ3 1 A.1 := g1.fr hF3 (fun o a b => by unfold zq_A; omega)
        have hT3 := hT1.fr hF3 (by unfold zq_A; omega) (by unfold zq_A; omega)
        refine zi_ald0 dX8_drift_46 ?_
        refine zi_getR dX8_drift_47 flX8_12 rfl (by first | assumption | decide) ?_
        refine zi_ald0 dX8_drift_50 ?_
        refine zi_getR dX8_drift_51 flX8_53 rfl (by first | assumption | decide) ?_
        refine zi_cV1i vmX6_add lkX8_89 dX8_drift_54 (by first | assumption | decide) (Nat.le_of_ble_eq_true rfl) (c6_add zg_ok1 zt_ok147 (by omega) g3 e8 hT3 hw1 (Or.inl rfl)) ?_
        rintro _ τ4 ⟨rfl, hX4, hF4⟩
        have hV4 := zx_deed hV1 (fun o a b c => hF3.2 o b) hq3 hX4 (fun o a b c => hF4.2 o b)
        refine zi_popi dX8_drift_57 ?_
        refine zi_inc2 (nI 1) dX8_drift_58 (by decide) (Nat.le_of_ble_eq_true rfl) rfl ?_
        refine zi_goto 16 dX8_drift_61 (by decide) ?_
        rw [nI_add, show n - (k + 1) + 1 = n - k by omega]
        refine (ih τ4 _ hV4).mono ?_
        rintro r υ ⟨x, q1, q2, q3, q4⟩
        exact ⟨x, q1, q2, q3, ((hx1.tr (zx_Fq hF3)).tr (zx_Fg hF4)).tr q4⟩
theorem zx_rg (x : Int32) {n : Nat} (hn : n < 2147483647) : (x < nI 1 ∨ nI n < x) ∨ ∃ k, 1 ≤ k ∧ k ≤ n ∧ x = nI k := by
  rcases zn_case x (n := n + 1) (by omega) with (h | h) | ⟨k, hk, rfl⟩
  · exact Or.inl (Or.inl (Int32.lt_trans h (by decide)))
  · exact Or.inl (Or.inr (Int32.lt_of_lt_of_le (by rw [zn_lt (by omega) (by omega)]; omega) h))
  · by_cases q : k = 0
    · subst q
      exact Or.inl (Or.inl (by decide))
    · exact Or.inr ⟨k, by omega, by omega, rfl⟩
theorem zx_ix_rg {x : Int32} {n : Nat} (hn : n < 2147483647) (h : x < nI 1 ∨ nI n < x) : zx_ix x (n + 1) = none ∨ zx_ix x (n + 1) = some 0 := by
  rcases zn_case x (n := n + 1) (by omega) with ho | ⟨k, hk, rfl⟩
  · exact Or.inl (zx_ix_out (by omega) ho)
  · right
    rw [zx_ix_in (by omega) hk]
    rcases h with q | q
    · rw [zn_lt (by omega) (by omega)] at q
      rw [show k = 0 by omega]
    · rw [zn_lt (by omega) (by omega)] at q
      omega
theorem c8_drift (hV : zx_V σ A) {n : Int32} : zw_Ti l G (d + 5) mX8_drift [.ref 0, .int n] σ (fun x υ => x = (zx_drift A n).1 ∧ zx_V υ (zx_drift A n).2 ∧ zx_F σ υ) := by
  rcases zx_rg n (n := 8) (by decide) with ho | ⟨k, hk1, hk8, rfl⟩
  · have e : zx_drift A n = (zx_OU, A) := by
      unfold zx_drift
      rcases zx_ix_rg (by decide) ho with q | q <;> (rw [q]; try rfl)
    rw [e]
    refine zw_enter2 (L := [some _, some _, none]) (by decide) (Nat.le_of_ble_eq_true rfl) rfl ?_
    refine zi_ild1 dX8_drift_0 ?_
    refine zi_iconst (nI 1) dX8_drift_1 (by decide) ?_
    refine zi_icmp_lt 11 dX8_drift_2 (by decide) (fun c2 => ?_) (fun c2 => ?_)
    · refine zi_ldc dX8_drift_11 kcX8_75 ?_
      refine zi_iret dX8_drift_13 rfl ?_
      exact ⟨_, rfl, rfl, hV, zx_F.rf⟩
    · refine zi_ild1 dX8_drift_5 ?_
      refine zi_bipush (nI 8) dX8_drift_6 (by decide) ?_
      refine zi_icmp_le 14 dX8_drift_8 (by decide) (fun c8 => ?_) (fun c8 => ?_)
      · exfalso; rcases ho with q | q; exact c2 q; exact absurd c8 (Int32.not_le.mpr q)
      · refine zi_ldc dX8_drift_11 kcX8_75 ?_
        refine zi_iret dX8_drift_13 rfl ?_
        exact ⟨_, rfl, rfl, hV, zx_F.rf⟩
  · have e : zx_drift A (nI k) = (nI (zx_dn k A).1.1.length, zx_dn k A) := by
      unfold zx_drift
      rw [zx_ix_in (by decide) (by omega)]
      cases k with
      | zero => omega
      | succ k => rfl
    rw [e]
    refine zw_enter2 (L := [some _, some _, none]) (by decide) (Nat.le_of_ble_eq_true rfl) rfl ?_
    refine zi_ild1 dX8_drift_0 ?_
    refine zi_iconst (nI 1) dX8_drift_1 (by decide) ?_
    refine zi_icmp_lt 11 dX8_drift_2 (by decide) (fun c2 => ?_) (fun c2 => ?_)
    · rw [zn_lt (by omega) (by omega)] at c2; omega
    · refine zi_ild1 dX8_drift_5 ?_
      refine zi_bipush (nI 8) dX8_drift_6 (by decide) ?_
      refine zi_icmp_le 14 dX8_drift_8 (by decide) (fun c8 => ?_) (fun c8 => ?_)
      · refine zi_iconst (nI 0) dX8_drift_14 (by decide) ?_
        refine zi_ist2 dX8_drift_15 (Nat.le_of_ble_eq_true rfl) rfl ?_
        have := c8_drift_loop (l := l) (G := G) (d := d) hk8 k (Nat.le_refl _) σ A hV
        rw [Nat.sub_self] at this
        exact this
      · rw [zn_le (by omega) (by omega)] at c8; omega
theorem c8_undo (hV : zx_V σ A) {n : Int32} : zw_Ti l G (d + 4) mX8_undo [.ref 0, .int n] σ (fun x υ => x = (zx_undo A n).1 ∧ zx_V υ (zx_undo A n).2 ∧ zx_F σ υ) := by
  rcases zx_rg n (n := 20) (by decide) with ho | ⟨k, hk1, hk8, rfl⟩
  · have e : zx_undo A n = (zx_OU, A) := by
      unfold zx_undo
      rcases zx_ix_rg (by decide) ho with q | q <;> (rw [q]; try rfl)
    rw [e]
    refine zw_enter2 (L := [some _, some _]) (by decide) (Nat.le_of_ble_eq_true rfl) rfl ?_
    refine zi_ild1 dX8_undo_0 ?_
    refine zi_iconst (nI 1) dX8_undo_1 (by decide) ?_
    refine zi_icmp_lt 11 dX8_undo_2 (by decide) (fun c2 => ?_) (fun c2 => ?_)
    · refine zi_ldc dX8_undo_11 kcX8_75 ?_
      refine zi_iret dX8_undo_13 rfl ?_
      exact ⟨_, rfl, rfl, hV, zx_F.rf⟩
    · refine zi_ild1 dX8_undo_5 ?_
      refine zi_bipush (nI 20) dX8_undo_6 (by decide) ?_
      refine zi_icmp_le 14 dX8_undo_8 (by decide) (fun c8 => ?_) (fun c8 => ?_)
      · exfalso; rcases ho with q | q; exact c2 q; exact absurd c8 (Int32.not_le.mpr q)
      · refine zi_ldc dX8_undo_11 kcX8_75 ?_
        refine zi_iret dX8_undo_13 rfl ?_
        exact ⟨_, rfl, rfl, hV, zx_F.rf⟩
  · obtain ⟨h1, ⟨nx, h2⟩, h3, h4, h5, h6, h7, h8⟩ := id hV
    have hl20 := h2.2.1
    have e : zx_undo A (nI k) = if k ≤ A.2.1.length then (nI (A.2.1.getD (k - 1) ([], fun _ => 0, fun _ => 8)).1.length, A.2.1.getD (k - 1) ([], fun _ => 0, fun _ => 8), A.2.1.drop k, A.2.2) else (zx_NO, A) := by
      unfold zx_undo
      rw [zx_ix_in (by decide) (by omega)]
      cases k with
      | zero => omega
      | succ k =>
        show (match A.2.1[k]? with | none => (zx_NO, A) | some X => (nI X.1.length, X, A.2.1.drop (k + 1), A.2.2)) = _
        rw [Nat.add_sub_cancel, List.getD_eq_getElem?_getD]
        by_cases q : k + 1 ≤ A.2.1.length
        · rw [if_pos q, List.getElem?_eq_getElem (by omega)]; rfl
        · rw [if_neg q, List.getElem?_eq_none (by omega)]
    rw [e]
    refine zw_enter2 (L := [some _, some _]) (by decide) (Nat.le_of_ble_eq_true rfl) rfl ?_
    refine zi_ild1 dX8_undo_0 ?_
    refine zi_iconst (nI 1) dX8_undo_1 (by decide) ?_
    refine zi_icmp_lt 11 dX8_undo_2 (by decide) (fun c2 => ?_) (fun c2 => ?_)
    · rw [zn_lt (by omega) (by omega)] at c2; omega
    · refine zi_ild1 dX8_undo_5 ?_
      refine zi_bipush (nI 20) dX8_undo_6 (by decide) ?_
      refine zi_icmp_le 14 dX8_undo_8 (by decide) (fun c8 => ?_) (fun c8 => ?_)
      · refine zi_ild1 dX8_undo_14 ?_
        refine zi_ald0 dX8_undo_15 ?_
        refine zi_getR dX8_undo_16 flX8_19 rfl (by first | assumption | decide) ?_
        refine zi_getI dX8_undo_19 flX8_134 rfl (by first | assumption | decide) ?_
        rw [show σ.1 (0 + 7) 2 = nI A.2.1.length from h2.2.2.2.1]
        refine zi_icmp_le 28 dX8_undo_22 (by decide) (fun c22 => ?_) (fun c22 => ?_)
        · rw [zn_le (by omega) (by omega)] at c22
          rw [if_pos c22]
          refine zi_ald0 dX8_undo_28 ?_
          refine zi_getR dX8_undo_29 flX8_19 rfl (by first | assumption | decide) ?_
          refine zi_ild1 dX8_undo_32 ?_
          refine zi_ald0 dX8_undo_33 ?_
          refine zi_getR dX8_undo_34 flX8_12 rfl (by first | assumption | decide) ?_
          refine zi_cV2v vmX1_rewind lkX8_265 dX8_undo_37 (by first | assumption | decide) (Nat.le_of_ble_eq_true rfl) (c1_rewind h2 hk1 c22) ?_
          rintro τ1 ⟨hq1, hX1, hF1⟩
          refine zi_ald0 dX8_undo_40 ?_
          refine zi_getR dX8_undo_41 flX8_12 rfl (by first | assumption | decide) ?_
          refine zi_getI dX8_undo_44 flX8_112 rfl (by first | assumption | decide) ?_
          refine zi_iret dX8_undo_47 rfl ?_
          have e0 := hF1.2 0 (by omega)
          refine ⟨_, rfl, hX1.2.2.1, ⟨hX1, ⟨_, hq1⟩, fun i hi => (h3 i hi).cg (fun k a b => hF1.2 k (by omega)), h4.cg (by rw [e0]) (hF1.2 _ (by omega)), by rw [e0]; exact h5, ?_, h7, by rw [e0]; exact h8⟩, zx_F.of hF1 (fun o q => by omega)⟩
          obtain ⟨a1, a2, a3⟩ := h6
          refine ⟨a1, by rw [hF1.2 130 (by omega)]; exact a2, fun i hi => ?_⟩
          rw [hF1.2 131 (by omega), hF1.2 132 (by omega)]
          exact a3 i hi
        · rw [zn_le (by omega) (by omega)] at c22
          rw [if_neg c22]
          refine zi_ldc dX8_undo_25 kcX8_210 ?_
          refine zi_iret dX8_undo_27 rfl ?_
          exact ⟨_, rfl, rfl, hV, zx_F.rf⟩
      · rw [zn_le (by omega) (by omega)] at c8; omega
end Z29
