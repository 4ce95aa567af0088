/-! the model: a step, made plain, turned, height -/
theorem zl_piece {w : List Nat} {a b : Nat} (h : a ≤ b) : (w.drop a).take (b - a) ++ w.drop b = w.drop a := by
  have : w.drop b = (w.drop a).drop (b - a) := by rw [List.drop_drop]; congr 1; omega
  rw [this, List.take_append_drop]
theorem zt_cn_nd {w : List Nat} {i m : Nat} (hi : i < w.length) (h0 : w.getD i 0 ≠ 0) (hr : zt_rd (2 + m) (w.drop (i + 1))) : zt_cn 1 (w.drop i) = 1 + zt_cn 1 (w.drop (i + 1)) + zt_cn 1 (w.drop (i + 1 + zt_cn 1 (w.drop (i + 1)))) ∧ zt_rd (1 + m) (w.drop (i + 1 + zt_cn 1 (w.drop (i + 1)))) := by
  obtain ⟨x, hx⟩ : ∃ x, w.getD i 0 = x + 1 := ⟨w.getD i 0 - 1, by omega⟩
  have e2 := zt_cn_add (w.drop (i + 1)) 1 1 (Or.inr ⟨m, hr⟩)
  have e3 := (zt_rd_split (w.drop (i + 1)) 1 (1 + m) (by rw [show 1 + (1 + m) = 2 + m by omega]; exact hr)).2
  rw [List.drop_drop] at e2 e3
  refine ⟨?_, e3⟩
  have : zt_cn 1 (w.drop i) = 1 + zt_cn 2 (w.drop (i + 1)) := by rw [zl_drop hi, hx]; rfl
  rw [this, show zt_cn 2 (w.drop (i + 1)) = _ from e2]
  omega
theorem zt_rd_pos1 {w : List Nat} (hw : zt_rd 1 w) {i : Nat} (hi : i < w.length) : ∃ m, zt_rd (1 + m) (w.drop i) := by
  obtain ⟨j, hj⟩ := zt_wd_drop hw (show i ≤ w.length by omega)
  have := zt_rd_pos hj (by rw [List.length_drop]; omega)
  exact ⟨j - 1, by rw [show 1 + (j - 1) = j by omega]; exact hj⟩
/-- where the three branches of a pattern stand, the left way -/
theorem zy_pos0 {w : List Nat} {k : Nat} (hw : zt_rd 1 w) (hp : zt_pat w k < 8) (hk : k % 2 = 0) : ∃ t e m1 m2 m3, k / 2 < w.length ∧ zt_rd (1 + m1) (w.drop (k / 2)) ∧ k / 2 + zt_cn 1 (w.drop (k / 2)) = e ∧ zt_rd (1 + m2) (w.drop (k / 2 + 1)) ∧ zt_br w (k / 2) 1 = t ∧ zt_rd (1 + m3) (w.drop (k / 2 + 2)) ∧ k / 2 + 2 + zt_cn 1 (w.drop (k / 2 + 2)) = k / 2 + 2 + zt_a w k ∧ k / 2 + 2 + zt_a w k ≤ t ∧ t ≤ e ∧ e ≤ w.length ∧ zt_b k = k / 2 + 2 := by
  have hn := zt_pat_lt hp
  obtain ⟨j, hj⟩ := zt_wd_drop hw (show k / 2 ≤ w.length by omega)
  obtain ⟨j', ej, -, -, hle, h0, h1⟩ := zt_core hp hj
  have hb : zt_br w (k / 2) (k % 2) = k / 2 + 1 := by unfold zt_br; rw [if_pos hk]
  rw [hb] at h1
  obtain ⟨m, hm, em⟩ := zt_node_rd hj hn h0
  obtain ⟨m', hm', em'⟩ := zt_node_rd hm (show k / 2 + 1 < w.length by omega) h1
  obtain ⟨c1, r1⟩ := zt_cn_nd hn h0 hm
  obtain ⟨c2, r2⟩ := zt_cn_nd (show k / 2 + 1 < w.length by omega) h1 hm'
  have ea : zt_a w k = zt_cn 1 (w.drop (k / 2 + 2)) := by unfold zt_a; rw [if_pos hk]
  have hl := zt_cn_le (w.drop (k / 2)) 1
  rw [List.length_drop] at hl
  have c2 : zt_cn 1 (w.drop (k / 2 + 1)) = 1 + zt_cn 1 (w.drop (k / 2 + 2)) + zt_cn 1 (w.drop (k / 2 + 1 + 1 + zt_cn 1 (w.drop (k / 2 + 1 + 1)))) := c2
  refine ⟨_, _, m, m + 1, m' + 1, hn, by rw [show 1 + m = j by omega]; exact hj, rfl, by rw [show 1 + (m + 1) = 2 + m by omega]; exact hm, rfl, by rw [show 1 + (m' + 1) = 2 + m' by omega]; exact hm', by rw [ea], ?_, ?_, by omega, by unfold zt_b; rw [if_pos hk]⟩
  · unfold zt_br; rw [if_neg (by decide), ea]; omega
  · unfold zt_br; rw [if_neg (by decide)]; omega
/-- and the right way -/
theorem zy_pos1 {w : List Nat} {k : Nat} (hw : zt_rd 1 w) (hp : zt_pat w k < 8) (hk : k % 2 = 1) : ∃ t e m1 m2 m3, k / 2 < w.length ∧ zt_rd (1 + m1) (w.drop (k / 2)) ∧ k / 2 + zt_cn 1 (w.drop (k / 2)) = e ∧ zt_rd (1 + m2) (w.drop (k / 2 + 1)) ∧ zt_br w (k / 2) 1 = k / 2 + 1 + zt_a w k ∧ zt_rd (1 + m3) (w.drop (k / 2 + 2 + zt_a w k)) ∧ k / 2 + 2 + zt_a w k + zt_cn 1 (w.drop (k / 2 + 2 + zt_a w k)) = t ∧ k / 2 + 2 + zt_a w k ≤ t ∧ t ≤ e ∧ e ≤ w.length ∧ zt_b k = k / 2 + 1 := by
  have hn := zt_pat_lt hp
  obtain ⟨j, hj⟩ := zt_wd_drop hw (show k / 2 ≤ w.length by omega)
  obtain ⟨j', ej, -, -, hle, h0, h1⟩ := zt_core hp hj
  have ea : zt_a w k = zt_cn 1 (w.drop (k / 2 + 1)) := by unfold zt_a; rw [if_neg (by omega)]
  have hb : zt_br w (k / 2) (k % 2) = k / 2 + 1 + zt_a w k := by unfold zt_br; rw [if_neg (by omega), ea]
  rw [hb] at h1
  obtain ⟨m, hm, em⟩ := zt_node_rd hj hn h0
  obtain ⟨c1, r1⟩ := zt_cn_nd hn h0 hm
  rw [← ea] at c1 r1
  obtain ⟨m', hm', em'⟩ := zt_node_rd r1 (show k / 2 + 1 + zt_a w k < w.length by omega) h1
  obtain ⟨c2, r2⟩ := zt_cn_nd (show k / 2 + 1 + zt_a w k < w.length by omega) h1 hm'
  rw [show k / 2 + 1 + zt_a w k + 1 = k / 2 + 2 + zt_a w k by omega] at c2 r2 hm'
  have hl := zt_cn_le (w.drop (k / 2)) 1
  rw [List.length_drop] at hl
  refine ⟨_, _, m, m + 1, m' + 1, hn, by rw [show 1 + m = j by omega]; exact hj, rfl, by rw [show 1 + (m + 1) = 2 + m by omega]; exact hm, ?_, by rw [show 1 + (m' + 1) = 2 + m' by omega]; exact hm', rfl, by omega, by omega, by omega, by unfold zt_b; rw [if_neg (by omega)]⟩
  unfold zt_br; rw [if_neg (by decide), ea]
section Z33
variable {l : Launch} {G : zw_G} {d : Nat} {σ : zw_S} {w : List Nat} {s : Int32} {fa go : Nat → Nat}
theorem l9_step206 {c e t : Nat} {x1 x2 x3 x5 x7 x8 x11 : Int32} {f : Nat} {v z : List Nat} (hW : zy_w σ w s) (hO : zy_o σ v) (hf : f < 4) (h1 : c ≤ t) (h2 : t ≤ e) (h3 : e ≤ w.length) (hz : v ++ w.drop c = z) (hzl : z.length ≤ 13) (hzx : ∀ x ∈ z, x < 3) : zw_W l G (d + 4) mX9_stepAt 206 [some (.ref 168), some (.int x1), some (.int x2), some (.int x3), some (.int (nI f)), some (.int x5), some (.int (nI e)), some (.int x7), some (.int x8), some (.int (nI c)), some (.int (nI t)), some (.int x11)] [] σ (fun r υ => r = none ∧ zy_w υ z (if f = 3 then -s else s) ∧ zy_S σ υ) := by
  have h13 := hW.1
  have hl : v.length + (w.length - c) ≤ 13 := by
    rw [← hz, List.length_append, List.length_drop] at hzl
    exact hzl
  refine zi_ald0 dX9_stepAt_206 ?_
  refine zi_ild9 dX9_stepAt_207 ?_
  refine zi_ild10 dX9_stepAt_209 ?_
  refine zi_cV2v vmX9_copyOther lkX9_86 dX9_stepAt_211 (by first | assumption | decide) (Nat.le_of_ble_eq_true rfl) (c9_copyOther (show c ≤ 100 by omega) (show t ≤ w.length by omega) hW hO (by omega)) ?_
  rintro τ1 ⟨hW1, hO1, hS1⟩
  have l1 : (v ++ (w.drop c).take (t - c)).length = v.length + (t - c) := by rw [List.length_append, List.length_take, List.length_drop]; omega
  refine zi_ald0 dX9_stepAt_214 ?_
  refine zi_ild10 dX9_stepAt_215 ?_
  refine zi_ild6 dX9_stepAt_217 ?_
  refine zi_cV2v vmX9_copyOther lkX9_86 dX9_stepAt_219 (by first | assumption | decide) (Nat.le_of_ble_eq_true rfl) (c9_copyOther (show t ≤ 100 by omega) h3 hW1 hO1 (by omega)) ?_
  rintro τ2 ⟨hW2, hO2, hS2⟩
  have l2 : (v ++ (w.drop c).take (t - c) ++ (w.drop t).take (e - t)).length = v.length + (e - c) := by rw [List.length_append, l1, List.length_take, List.length_drop]; omega
  refine zi_ald0 dX9_stepAt_222 ?_
  refine zi_ild6 dX9_stepAt_223 ?_
  refine zi_ald0 dX9_stepAt_225 ?_
  refine zi_getI dX9_stepAt_226 flX9_58 rfl (by first | assumption | decide) ?_
  rw [hW2.2.2.1]
  refine zi_cV2v vmX9_copyOther lkX9_86 dX9_stepAt_229 (by first | assumption | decide) (Nat.le_of_ble_eq_true rfl) (c9_copyOther (show e ≤ 100 by omega) (Nat.le_refl _) hW2 hO2 (by omega)) ?_
  rintro τ3 ⟨hW3, hO3, hS3⟩
  have e3 : v ++ (w.drop c).take (t - c) ++ (w.drop t).take (e - t) ++ (w.drop e).take (w.length - e) = z := by
    rw [List.take_of_length_le (show (w.drop e).length ≤ w.length - e by rw [List.length_drop]; omega), List.append_assoc, zl_piece h2, List.append_assoc, zl_piece h1, hz]
  rw [e3] at hO3
  refine zi_ald0 dX9_stepAt_232 ?_
  refine zi_cV0v vmX9_takeOther lkX9_93 dX9_stepAt_233 (by first | assumption | decide) (Nat.le_of_ble_eq_true rfl) (c9_takeOther hzl hzx hW3.2.2.2.1 hO3) ?_
  rintro τ4 ⟨hW4, hS4⟩
  have hS := ((hS1.tr hS2).tr hS3).tr hS4
  have e13 : τ4.1 168 13 = s := hW4.2.2.2.1
  refine zi_ald0 dX9_stepAt_236 ?_
  refine zi_ild4 dX9_stepAt_237 ?_
  refine zi_iconst (nI 3) dX9_stepAt_239 (by decide) ?_
  refine zi_icmp_ne 251 dX9_stepAt_240 (by decide) (fun c240 => ?_) (fun c240 => ?_)
  · rw [zn_eq (by omega) (by decide)] at c240
    refine zi_ald0 dX9_stepAt_251 ?_
    refine zi_getI dX9_stepAt_252 flX9_61 rfl (by first | assumption | decide) ?_
    try rw [e13]
    refine zi_putI dX9_stepAt_255 flX9_61 fp_9_13 rfl (by first | assumption | decide) ?_
    refine zi_ret dX9_stepAt_258 rfl ?_
    first
    | (rw [if_pos c240]
       exact ⟨rfl, ⟨hW4.1, hW4.2.1, by rw [zs_slot (by decide)]; exact hW4.2.2.1, zs_same _ _ _ _, fun i hi => by rw [zs_obj (by decide)]; exact hW4.2.2.2.2 i hi⟩, hS.fld (by omega)⟩)
    | (rw [if_neg c240]
       exact ⟨rfl, ⟨hW4.1, hW4.2.1, by rw [zs_slot (by decide)]; exact hW4.2.2.1, zs_same _ _ _ _, fun i hi => by rw [zs_obj (by decide)]; exact hW4.2.2.2.2 i hi⟩, hS.fld (by omega)⟩)
  · rw [zn_eq (by omega) (by decide)] at c240
    refine zi_ald0 dX9_stepAt_243 ?_
    refine zi_getI dX9_stepAt_244 flX9_61 rfl (by first | assumption | decide) ?_
    rw [e13]
    refine zi_ineg dX9_stepAt_247 ?_
    refine zi_goto 255 dX9_stepAt_248 (by decide) ?_
    try rw [e13]
    refine zi_putI dX9_stepAt_255 flX9_61 fp_9_13 rfl (by first | assumption | decide) ?_
    refine zi_ret dX9_stepAt_258 rfl ?_
    first
    | (rw [if_pos c240]
       exact ⟨rfl, ⟨hW4.1, hW4.2.1, by rw [zs_slot (by decide)]; exact hW4.2.2.1, zs_same _ _ _ _, fun i hi => by rw [zs_obj (by decide)]; exact hW4.2.2.2.2 i hi⟩, hS.fld (by omega)⟩)
    | (rw [if_neg c240]
       exact ⟨rfl, ⟨hW4.1, hW4.2.1, by rw [zs_slot (by decide)]; exact hW4.2.2.1, zs_same _ _ _ _, fun i hi => by rw [zs_obj (by decide)]; exact hW4.2.2.2.2 i hi⟩, hS.fld (by omega)⟩)
theorem l9_step178 {b fe c e t g : Nat} {x1 x2 x3 x7 : Int32} {f : Nat} {v z : List Nat} (hW : zy_w σ w s) (hO : zy_o σ v) (hf : f < 4) (hg : g < 8) (hb : b ≤ fe) (hfe : fe ≤ w.length) (h1 : c ≤ t) (h2 : t ≤ e) (h3 : e ≤ w.length) (hz : v ++ (w.drop b).take (fe - b) ++ (if g % 2 = 1 then [g / 2 % 2 + 1] else []) ++ w.drop c = z) (hzl : z.length ≤ 13) (hzx : ∀ x ∈ z, x < 3) : zw_W l G (d + 4) mX9_stepAt 178 [some (.ref 168), some (.int x1), some (.int x2), some (.int x3), some (.int (nI f)), some (.int (nI g)), some (.int (nI e)), some (.int x7), some (.int (nI b)), some (.int (nI c)), some (.int (nI t)), some (.int (nI fe))] [] σ (fun r υ => r = none ∧ zy_w υ z (if f = 3 then -s else s) ∧ zy_S σ υ) := by
  have h13 := hW.1
  have hl : v.length + (fe - b) + (if g % 2 = 1 then 1 else 0) ≤ 13 := by
    rw [← hz, List.length_append, List.length_append, List.length_append, List.length_take, List.length_drop] at hzl
    split at hzl
    · next q => rw [if_pos q]; simp only [List.length_cons, List.length_nil] at hzl; omega
    · next q => rw [if_neg q]; omega
  refine zi_ald0 dX9_stepAt_178 ?_
  refine zi_ild8 dX9_stepAt_179 ?_
  refine zi_ild11 dX9_stepAt_181 ?_
  refine zi_cV2v vmX9_copyOther lkX9_86 dX9_stepAt_183 (by first | assumption | decide) (Nat.le_of_ble_eq_true rfl) (c9_copyOther (show b ≤ 100 by omega) hfe hW hO (by omega)) ?_
  rintro τ1 ⟨hW1, hO1, hS1⟩
  have l1 : (v ++ (w.drop b).take (fe - b)).length = v.length + (fe - b) := by rw [List.length_append, List.length_take, List.length_drop]; omega
  refine zi_ild5 dX9_stepAt_186 ?_
  refine zi_iconst (nI 2) dX9_stepAt_188 (by decide) ?_
  refine zi_irem dX9_stepAt_189 (by decide) ?_
  refine zi_iconst (nI 1) dX9_stepAt_190 (by decide) ?_
  rw [pk_rem (by omega) (by decide) (by decide)]
  refine zi_icmp_ne 206 dX9_stepAt_191 (by decide) (fun c191 => ?_) (fun c191 => ?_)
  · first
    | exact (l9_step206 hW2 hO2 hf h1 h2 h3 hz hzl hzx).mono (fun r υ hr => ⟨hr.1, hr.2.1, (hS1.tr hS2).tr hr.2.2⟩)
    | (rw [zn_eq (by omega) (by omega)] at c191
       rw [if_neg c191, List.append_nil] at hz
       exact (l9_step206 hW1 hO1 hf h1 h2 h3 hz hzl hzx).mono (fun r υ hr => ⟨hr.1, hr.2.1, hS1.tr hr.2.2⟩))
  · rw [zn_eq (by omega) (by omega)] at c191
    rw [if_pos c191] at hz hl
    refine zi_ald0 dX9_stepAt_194 ?_
    refine zi_iconst (nI 1) dX9_stepAt_195 (by decide) ?_
    refine zi_ild5 dX9_stepAt_196 ?_
    refine zi_iconst (nI 2) dX9_stepAt_198 (by decide) ?_
    refine zi_idiv dX9_stepAt_199 (by decide) ?_
    refine zi_iconst (nI 2) dX9_stepAt_200 (by decide) ?_
    refine zi_irem dX9_stepAt_201 (by decide) ?_
    refine zi_iadd dX9_stepAt_202 ?_
    rw [pk_div (by omega) (by decide) (by decide), pk_rem (by omega) (by decide) (by decide), nI_add, show 1 + g / 2 % 2 = g / 2 % 2 + 1 by omega]
    refine zi_cV1v vmX9_addOther lkX9_89 dX9_stepAt_203 (by first | assumption | decide) (Nat.le_of_ble_eq_true rfl) (c9_addOther hW1 hO1 (by omega)) ?_
    rintro τ2 ⟨hW2, hO2, hS2, -⟩
    first
    | exact (l9_step206 hW2 hO2 hf h1 h2 h3 hz hzl hzx).mono (fun r υ hr => ⟨hr.1, hr.2.1, (hS1.tr hS2).tr hr.2.2⟩)
    | (rw [zn_eq (by omega) (by omega)] at c191
       rw [if_neg c191, List.append_nil] at hz
       exact (l9_step206 hW1 hO1 hf h1 h2 h3 hz hzl hzx).mono (fun r υ hr => ⟨hr.1, hr.2.1, hS1.tr hr.2.2⟩))
theorem l9_step138 {n b fe c e t g : Nat} {x1 x3 x7 : Int32} {f : Nat} {z : List Nat} (hW : zy_w σ w s) (hf : f < 4) (hg : g < 8) (hn : n ≤ w.length) (hb : b ≤ fe) (hfe : fe ≤ w.length) (h1 : c ≤ t) (h2 : t ≤ e) (h3 : e ≤ w.length) (hz : w.take n ++ [g / 4 + 1] ++ (if g % 2 = 0 then [g / 2 % 2 + 1] else []) ++ (w.drop b).take (fe - b) ++ (if g % 2 = 1 then [g / 2 % 2 + 1] else []) ++ w.drop c = z) (hzl : z.length ≤ 13) (hzx : ∀ x ∈ z, x < 3) : zw_W l G (d + 4) mX9_stepAt 138 [some (.ref 168), some (.int x1), some (.int (nI n)), some (.int x3), some (.int (nI f)), some (.int (nI g)), some (.int (nI e)), some (.int x7), some (.int (nI b)), some (.int (nI c)), some (.int (nI t)), some (.int (nI fe))] [] σ (fun r υ => r = none ∧ zy_w υ z (if f = 3 then -s else s) ∧ zy_S σ υ) := by
  have h13 := hW.1
  refine zi_ald0 dX9_stepAt_138 ?_
  refine zi_iconst (nI 0) dX9_stepAt_139 (by decide) ?_
  refine zi_putI dX9_stepAt_140 flX9_83 fp_9_15 rfl (by first | assumption | decide) ?_
  have hW0 : zy_w (zw_pI σ 168 15 (nI 0)) w s := hW.ar (zs_slot (by decide)) (zs_slot (by decide)) (zs_obj (by decide))
  have hO0 : zy_o (zw_pI σ 168 15 (nI 0)) [] := ⟨by decide, zs_same _ _ _ _, fun i hi => absurd hi (Nat.not_lt_zero _)⟩
  have hS0 : zy_S σ (zw_pI σ 168 15 (nI 0)) := zy_S.rf.fld (by omega)
  refine zi_ald0 dX9_stepAt_143 ?_
  refine zi_iconst (nI 0) dX9_stepAt_144 (by decide) ?_
  refine zi_ild2 dX9_stepAt_145 ?_
  refine zi_cV2v vmX9_copyOther lkX9_86 dX9_stepAt_146 (by first | assumption | decide) (Nat.le_of_ble_eq_true rfl) (c9_copyOther (a := 0) (by decide) hn hW0 hO0 (by simp only [List.length_nil]; omega)) ?_
  rintro τ1 ⟨hW1, hO1, hS1⟩
  have e1 : [] ++ (w.drop 0).take (n - 0) = w.take n := by rw [List.nil_append, List.drop_zero, Nat.sub_zero]
  rw [e1] at hO1
  have l1 : (w.take n).length = n := by rw [List.length_take]; omega
  refine zi_ald0 dX9_stepAt_149 ?_
  refine zi_iconst (nI 1) dX9_stepAt_150 (by decide) ?_
  refine zi_ild5 dX9_stepAt_151 ?_
  refine zi_iconst (nI 4) dX9_stepAt_153 (by decide) ?_
  refine zi_idiv dX9_stepAt_154 (by decide) ?_
  refine zi_iadd dX9_stepAt_155 ?_
  rw [pk_div (by omega) (by decide) (by decide), nI_add, show 1 + g / 4 = g / 4 + 1 by omega]
  refine zi_cV1v vmX9_addOther lkX9_89 dX9_stepAt_156 (by first | assumption | decide) (Nat.le_of_ble_eq_true rfl) (c9_addOther hW1 hO1 (by omega)) ?_
  rintro τ2 ⟨hW2, hO2, hS2, -⟩
  replace hS2 := (hS0.tr hS1).tr hS2
  have l2 : (w.take n ++ [g / 4 + 1]).length = n + 1 := by rw [List.length_append, l1]; rfl
  clear hW0 hO0 hW1 hO1 hS0 hS1
  refine zi_ild5 dX9_stepAt_159 ?_
  refine zi_iconst (nI 2) dX9_stepAt_161 (by decide) ?_
  refine zi_irem dX9_stepAt_162 (by decide) ?_
  rw [pk_rem (by omega) (by decide) (by decide)]
  refine zi_if_ne 178 dX9_stepAt_163 (by decide) (fun c163 => ?_) (fun c163 => ?_)
  · first
    | exact (l9_step178 hW3 hO3 hf hg hb hfe h1 h2 h3 hz hzl hzx).mono (fun r υ hr => ⟨hr.1, hr.2.1, (hS2.tr hS3).tr hr.2.2⟩)
    | (rw [zn_0, zn_eq (by omega) (by omega)] at c163
       rw [if_neg c163, List.append_nil] at hz
       exact (l9_step178 hW2 hO2 hf hg hb hfe h1 h2 h3 hz hzl hzx).mono (fun r υ hr => ⟨hr.1, hr.2.1, hS2.tr hr.2.2⟩))
  · rw [zn_0, zn_eq (by omega) (by omega)] at c163
    rw [if_pos c163] at hz
    refine zi_ald0 dX9_stepAt_166 ?_
    refine zi_iconst (nI 1) dX9_stepAt_167 (by decide) ?_
    refine zi_ild5 dX9_stepAt_168 ?_
    refine zi_iconst (nI 2) dX9_stepAt_170 (by decide) ?_
    refine zi_idiv dX9_stepAt_171 (by decide) ?_
    refine zi_iconst (nI 2) dX9_stepAt_172 (by decide) ?_
    refine zi_irem dX9_stepAt_173 (by decide) ?_
    refine zi_iadd dX9_stepAt_174 ?_
    rw [pk_div (by omega) (by decide) (by decide), pk_rem (by omega) (by decide) (by decide), nI_add, show 1 + g / 2 % 2 = g / 2 % 2 + 1 by omega]
    refine zi_cV1v vmX9_addOther lkX9_89 dX9_stepAt_175 (by first | assumption | decide) (Nat.le_of_ble_eq_true rfl) (c9_addOther hW2 hO2 (by omega)) ?_
    rintro τ3 ⟨hW3, hO3, hS3, -⟩
    first
    | exact (l9_step178 hW3 hO3 hf hg hb hfe h1 h2 h3 hz hzl hzx).mono (fun r υ hr => ⟨hr.1, hr.2.1, (hS2.tr hS3).tr hr.2.2⟩)
    | (rw [zn_0, zn_eq (by omega) (by omega)] at c163
       rw [if_neg c163, List.append_nil] at hz
       exact (l9_step178 hW2 hO2 hf hg hb hfe h1 h2 h3 hz hzl hzx).mono (fun r υ hr => ⟨hr.1, hr.2.1, hS2.tr hr.2.2⟩))
theorem zy_rb {k g : Nat} {b fe : Nat} (hb : b = zt_b k) (hfe : fe = b + zt_a w k) : w.take (k / 2) ++ [g / 4 + 1] ++ (if g % 2 = 0 then [g / 2 % 2 + 1] else []) ++ (w.drop b).take (fe - b) ++ (if g % 2 = 1 then [g / 2 % 2 + 1] else []) ++ w.drop (k / 2 + 2 + zt_a w k) = zt_rb w k g := by
  subst hb hfe
  unfold zt_rb
  rw [Nat.add_sub_cancel_left]
  by_cases q : g % 2 = 0
  · rw [if_pos q, if_pos q, if_neg (by omega)]
    simp only [List.append_assoc, List.cons_append, List.nil_append, List.append_nil]
  · rw [if_neg q, if_neg q, if_pos (by omega)]
    simp only [List.append_assoc, List.cons_append, List.nil_append, List.append_nil]
theorem c9_stepAt {k : Nat} (hW : zy_w σ w s) (hw : zt_wd w) (hR : zy_r σ 0 fa go) (hb : zt_bi fa w k = true) : zw_Tv l G (d + 4) mX9_stepAt [.ref 168, .int (nI k)] σ (fun υ => zy_w υ (zt_st fa go w s k).1 (zt_st fa go w s k).2 ∧ zy_S σ υ) := by
  have h13 := hW.1
  obtain ⟨hp, hf0⟩ := zt_bi_lt hb
  have hn := zt_pat_lt hp
  obtain ⟨hf4, hg8, hfg, -, -⟩ := hR _ hp
  by_cases hf1 : fa (zt_pat w k) = 1
  · have e : zt_st fa go w s k = ([0], nI 0) := by unfold zt_st; rw [if_pos hf1]
    rw [e]
    refine zw_enter2 (L := [some _, some _, none, none, none, none, none, none, none, none, none, none]) (by decide) (Nat.le_of_ble_eq_true rfl) rfl ?_
    refine zi_ild1 dX9_stepAt_0 ?_
    refine zi_iconst (nI 2) dX9_stepAt_1 (by decide) ?_
    refine zi_idiv dX9_stepAt_2 (by decide) ?_
    refine zi_ist2 dX9_stepAt_3 (Nat.le_of_ble_eq_true rfl) rfl ?_
    refine zi_ald0 dX9_stepAt_4 ?_
    refine zi_ild2 dX9_stepAt_5 ?_
    refine zi_ild1 dX9_stepAt_6 ?_
    refine zi_iconst (nI 2) dX9_stepAt_7 (by decide) ?_
    refine zi_irem dX9_stepAt_8 (by decide) ?_
    rw [pk_rem (by omega) (by decide) (by decide), pk_div (by omega) (by decide) (by decide)]
    refine zi_cV2i vmX9_patternAt lkX9_76 dX9_stepAt_9 (by first | assumption | decide) (Nat.le_of_ble_eq_true rfl) (c9_patternAt hW hw.1 hn) ?_
    rintro _ _ ⟨rfl, rfl⟩
    rw [zp_gI_lt hp]
    refine zi_ist3 dX9_stepAt_12 (Nat.le_of_ble_eq_true rfl) rfl ?_
    refine zi_ald0 dX9_stepAt_13 ?_
    refine zi_getR dX9_stepAt_14 flX9_7 rfl (by first | assumption | decide) ?_
    refine zi_bipush (nI 17) dX9_stepAt_17 (by decide) ?_
    refine zi_ild3 dX9_stepAt_19 ?_
    refine zi_iadd dX9_stepAt_20 ?_
    refine zi_ialdN (17 + zt_pat w k) dX9_stepAt_21 (by first | assumption | decide) (nI_add _ _) (zy_b1 (by omega)) (by decide) ?_
    rw [hR.f0 hp, hf1]
    refine zi_ist4 dX9_stepAt_22 (Nat.le_of_ble_eq_true rfl) rfl ?_
    refine zi_ild4 dX9_stepAt_24 ?_
    refine zi_iconst (nI 1) dX9_stepAt_26 (by decide) ?_
    refine zi_icmp_ne 37 dX9_stepAt_27 (by decide) (fun c27 => ?_) (fun c27 => ?_)
    · exact absurd rfl c27
    · refine zi_ald0 dX9_stepAt_30 ?_
      refine zi_iconst (nI 0) dX9_stepAt_31 (by decide) ?_
      refine zi_iconst (nI 0) dX9_stepAt_32 (by decide) ?_
      refine zi_cV2v vmX9_open lkX9_64 dX9_stepAt_33 (by first | assumption | decide) (Nat.le_of_ble_eq_true rfl) (c9_open (w := [0]) (by decide) ⟨by decide, Or.inl rfl⟩ (by decide)) ?_
      rintro τ1 ⟨hW1, hS1⟩
      refine zi_ret dX9_stepAt_36 rfl ?_
      exact ⟨rfl, hW1, hS1⟩
  · have hg : go (zt_pat w k) < 8 := hfg.mp (by omega)
    have e : zt_st fa go w s k = (zt_rb w k (go (zt_pat w k)), if fa (zt_pat w k) = 3 then -s else s) := by unfold zt_st; rw [if_neg hf1]
    rw [e]
    have hrw := zt_rb_wd hw hp hg
    rcases Nat.mod_two_eq_zero_or_one k with hk | hk
    · obtain ⟨t, en, m1, m2, m3, p1, p2, p3, p4, p5, p6, p7, p8, p9, p10, p11⟩ := zy_pos0 hw.1 hp hk
      refine zw_enter2 (L := [some _, some _, none, none, none, none, none, none, none, none, none, none]) (by decide) (Nat.le_of_ble_eq_true rfl) rfl ?_
      refine zi_ild1 dX9_stepAt_0 ?_
      refine zi_iconst (nI 2) dX9_stepAt_1 (by decide) ?_
      refine zi_idiv dX9_stepAt_2 (by decide) ?_
      rw [pk_div (by omega) (by decide) (by decide)]
      refine zi_ist2 dX9_stepAt_3 (Nat.le_of_ble_eq_true rfl) rfl ?_
      refine zi_ald0 dX9_stepAt_4 ?_
      refine zi_ild2 dX9_stepAt_5 ?_
      refine zi_ild1 dX9_stepAt_6 ?_
      refine zi_iconst (nI 2) dX9_stepAt_7 (by decide) ?_
      refine zi_irem dX9_stepAt_8 (by decide) ?_
      rw [pk_rem (by omega) (by decide) (by decide)]
      refine zi_cV2i vmX9_patternAt lkX9_76 dX9_stepAt_9 (by first | assumption | decide) (Nat.le_of_ble_eq_true rfl) (c9_patternAt hW hw.1 hn) ?_
      rintro _ _ ⟨rfl, rfl⟩
      rw [zp_gI_lt hp]
      refine zi_ist3 dX9_stepAt_12 (Nat.le_of_ble_eq_true rfl) rfl ?_
      refine zi_ald0 dX9_stepAt_13 ?_
      refine zi_getR dX9_stepAt_14 flX9_7 rfl (by first | assumption | decide) ?_
      refine zi_bipush (nI 17) dX9_stepAt_17 (by decide) ?_
      refine zi_ild3 dX9_stepAt_19 ?_
      refine zi_iadd dX9_stepAt_20 ?_
      refine zi_ialdN (17 + zt_pat w k) dX9_stepAt_21 (by first | assumption | decide) (nI_add _ _) (zy_b1 (by omega)) (by decide) ?_
      rw [hR.f0 hp]
      refine zi_ist4 dX9_stepAt_22 (Nat.le_of_ble_eq_true rfl) rfl ?_
      refine zi_ild4 dX9_stepAt_24 ?_
      refine zi_iconst (nI 1) dX9_stepAt_26 (by decide) ?_
      refine zi_icmp_ne 37 dX9_stepAt_27 (by decide) (fun c27 => ?_) (fun c27 => ?_)
      · refine zi_ald0 dX9_stepAt_37 ?_
        refine zi_getR dX9_stepAt_38 flX9_7 rfl (by first | assumption | decide) ?_
        refine zi_bipush (nI 25) dX9_stepAt_41 (by decide) ?_
        refine zi_ild3 dX9_stepAt_43 ?_
        refine zi_iadd dX9_stepAt_44 ?_
        refine zi_ialdN (25 + zt_pat w k) dX9_stepAt_45 (by first | assumption | decide) (nI_add _ _) (zy_b1 (by omega)) (by decide) ?_
        rw [hR.g0 hp, zp_gI_lt hg]
        refine zi_ist5 dX9_stepAt_46 (Nat.le_of_ble_eq_true rfl) rfl ?_
        refine zi_ald0 dX9_stepAt_48 ?_
        refine zi_ild2 dX9_stepAt_49 ?_
        refine zi_cV1i vmX9_behind lkX9_68 dX9_stepAt_50 (by first | assumption | decide) (Nat.le_of_ble_eq_true rfl) (c9_behind hW (show k / 2 ≤ w.length by omega) p2) ?_
        rintro _ _ ⟨rfl, rfl⟩
        rw [p3]
        refine zi_ist6 dX9_stepAt_53 (Nat.le_of_ble_eq_true rfl) rfl ?_
        refine zi_ald0 dX9_stepAt_55 ?_
        refine zi_ild2 dX9_stepAt_56 ?_
        refine zi_iconst (nI 1) dX9_stepAt_57 (by decide) ?_
        refine zi_cV2i vmX9_branchOf lkX9_72 dX9_stepAt_58 (by first | assumption | decide) (Nat.le_of_ble_eq_true rfl) (c9_branchOf (sd := 1) hW (by decide) p1 p4) ?_
        rintro _ _ ⟨rfl, rfl⟩
        rw [p5]
        refine zi_ist7 dX9_stepAt_61 (Nat.le_of_ble_eq_true rfl) rfl ?_
        refine zi_ild1 dX9_stepAt_63 ?_
        refine zi_iconst (nI 2) dX9_stepAt_64 (by decide) ?_
        refine zi_irem dX9_stepAt_65 (by decide) ?_
        rw [pk_rem (by omega) (by decide) (by decide), hk]
        refine zi_if_ne 75 dX9_stepAt_66 (by decide) (fun c66 => ?_) (fun c66 => ?_)
        · exact absurd rfl c66
        · refine zi_ild2 dX9_stepAt_69 ?_
          refine zi_iconst (nI 2) dX9_stepAt_70 (by decide) ?_
          refine zi_iadd dX9_stepAt_71 ?_
          refine zi_goto 78 dX9_stepAt_72 (by decide) ?_
          refine zi_ist8 dX9_stepAt_78 (Nat.le_of_ble_eq_true rfl) rfl ?_
          refine zi_ild1 dX9_stepAt_80 ?_
          refine zi_iconst (nI 2) dX9_stepAt_81 (by decide) ?_
          refine zi_irem dX9_stepAt_82 (by decide) ?_
          rw [pk_rem (by omega) (by decide) (by decide), hk]
          refine zi_if_ne 96 dX9_stepAt_83 (by decide) (fun c83 => ?_) (fun c83 => ?_)
          · exact absurd rfl c83
          · refine zi_ald0 dX9_stepAt_86 ?_
            refine zi_ild2 dX9_stepAt_87 ?_
            refine zi_iconst (nI 2) dX9_stepAt_88 (by decide) ?_
            refine zi_iadd dX9_stepAt_89 ?_
            rw [nI_add]
            refine zi_cV1i vmX9_behind lkX9_68 dX9_stepAt_90 (by first | assumption | decide) (Nat.le_of_ble_eq_true rfl) (c9_behind hW (show k / 2 + 2 ≤ w.length by omega) p6) ?_
            rintro _ _ ⟨rfl, rfl⟩
            rw [p7]
            refine zi_goto 100 dX9_stepAt_93 (by decide) ?_
            refine zi_ist9 dX9_stepAt_100 (Nat.le_of_ble_eq_true rfl) rfl ?_
            refine zi_ild1 dX9_stepAt_102 ?_
            refine zi_iconst (nI 2) dX9_stepAt_103 (by decide) ?_
            refine zi_irem dX9_stepAt_104 (by decide) ?_
            rw [pk_rem (by omega) (by decide) (by decide), hk]
            refine zi_if_ne 113 dX9_stepAt_105 (by decide) (fun c105 => ?_) (fun c105 => ?_)
            · exact absurd rfl c105
            · refine zi_ild7 dX9_stepAt_108 ?_
              refine zi_goto 121 dX9_stepAt_110 (by decide) ?_
              refine zi_ist10 dX9_stepAt_121 (Nat.le_of_ble_eq_true rfl) rfl ?_
              refine zi_ild1 dX9_stepAt_123 ?_
              refine zi_iconst (nI 2) dX9_stepAt_124 (by decide) ?_
              refine zi_irem dX9_stepAt_125 (by decide) ?_
              rw [pk_rem (by omega) (by decide) (by decide), hk]
              refine zi_if_ne 134 dX9_stepAt_126 (by decide) (fun c126 => ?_) (fun c126 => ?_)
              · exact absurd rfl c126
              · refine zi_ild9 dX9_stepAt_129 ?_
                refine zi_goto 136 dX9_stepAt_131 (by decide) ?_
                refine zi_ist11 dX9_stepAt_136 (Nat.le_of_ble_eq_true rfl) rfl ?_
                exact l9_step138 hW hf4 hg (show k / 2 ≤ w.length by omega) (by omega) (by omega) p8 p9 p10 (zy_rb p11.symm rfl) hrw.2.2 hrw.2.1
      · rw [zn_eq (by omega) (by omega)] at c27; exact absurd c27 hf1
    · obtain ⟨t, en, m1, m2, m3, p1, p2, p3, p4, p5, p6, p7, p8, p9, p10, p11⟩ := zy_pos1 hw.1 hp hk
      refine zw_enter2 (L := [some _, some _, none, none, none, none, none, none, none, none, none, none]) (by decide) (Nat.le_of_ble_eq_true rfl) rfl ?_
      refine zi_ild1 dX9_stepAt_0 ?_
      refine zi_iconst (nI 2) dX9_stepAt_1 (by decide) ?_
      refine zi_idiv dX9_stepAt_2 (by decide) ?_
      rw [pk_div (by omega) (by decide) (by decide)]
      refine zi_ist2 dX9_stepAt_3 (Nat.le_of_ble_eq_true rfl) rfl ?_
      refine zi_ald0 dX9_stepAt_4 ?_
      refine zi_ild2 dX9_stepAt_5 ?_
      refine zi_ild1 dX9_stepAt_6 ?_
      refine zi_iconst (nI 2) dX9_stepAt_7 (by decide) ?_
      refine zi_irem dX9_stepAt_8 (by decide) ?_
      rw [pk_rem (by omega) (by decide) (by decide)]
      refine zi_cV2i vmX9_patternAt lkX9_76 dX9_stepAt_9 (by first | assumption | decide) (Nat.le_of_ble_eq_true rfl) (c9_patternAt hW hw.1 hn) ?_
      rintro _ _ ⟨rfl, rfl⟩
      rw [zp_gI_lt hp]
      refine zi_ist3 dX9_stepAt_12 (Nat.le_of_ble_eq_true rfl) rfl ?_
      refine zi_ald0 dX9_stepAt_13 ?_
      refine zi_getR dX9_stepAt_14 flX9_7 rfl (by first | assumption | decide) ?_
      refine zi_bipush (nI 17) dX9_stepAt_17 (by decide) ?_
      refine zi_ild3 dX9_stepAt_19 ?_
      refine zi_iadd dX9_stepAt_20 ?_
      refine zi_ialdN (17 + zt_pat w k) dX9_stepAt_21 (by first | assumption | decide) (nI_add _ _) (zy_b1 (by omega)) (by decide) ?_
      rw [hR.f0 hp]
      refine zi_ist4 dX9_stepAt_22 (Nat.le_of_ble_eq_true rfl) rfl ?_
      refine zi_ild4 dX9_stepAt_24 ?_
      refine zi_iconst (nI 1) dX9_stepAt_26 (by decide) ?_
      refine zi_icmp_ne 37 dX9_stepAt_27 (by decide) (fun c27 => ?_) (fun c27 => ?_)
      · refine zi_ald0 dX9_stepAt_37 ?_
        refine zi_getR dX9_stepAt_38 flX9_7 rfl (by first | assumption | decide) ?_
        refine zi_bipush (nI 25) dX9_stepAt_41 (by decide) ?_
        refine zi_ild3 dX9_stepAt_43 ?_
        refine zi_iadd dX9_stepAt_44 ?_
        refine zi_ialdN (25 + zt_pat w k) dX9_stepAt_45 (by first | assumption | decide) (nI_add _ _) (zy_b1 (by omega)) (by decide) ?_
        rw [hR.g0 hp, zp_gI_lt hg]
        refine zi_ist5 dX9_stepAt_46 (Nat.le_of_ble_eq_true rfl) rfl ?_
        refine zi_ald0 dX9_stepAt_48 ?_
        refine zi_ild2 dX9_stepAt_49 ?_
        refine zi_cV1i vmX9_behind lkX9_68 dX9_stepAt_50 (by first | assumption | decide) (Nat.le_of_ble_eq_true rfl) (c9_behind hW (show k / 2 ≤ w.length by omega) p2) ?_
        rintro _ _ ⟨rfl, rfl⟩
        rw [p3]
        refine zi_ist6 dX9_stepAt_53 (Nat.le_of_ble_eq_true rfl) rfl ?_
        refine zi_ald0 dX9_stepAt_55 ?_
        refine zi_ild2 dX9_stepAt_56 ?_
        refine zi_iconst (nI 1) dX9_stepAt_57 (by decide) ?_
        refine zi_cV2i vmX9_branchOf lkX9_72 dX9_stepAt_58 (by first | assumption | decide) (Nat.le_of_ble_eq_true rfl) (c9_branchOf (sd := 1) hW (by decide) p1 p4) ?_
        rintro _ _ ⟨rfl, rfl⟩
        rw [p5]
        refine zi_ist7 dX9_stepAt_61 (Nat.le_of_ble_eq_true rfl) rfl ?_
        refine zi_ild1 dX9_stepAt_63 ?_
        refine zi_iconst (nI 2) dX9_stepAt_64 (by decide) ?_
        refine zi_irem dX9_stepAt_65 (by decide) ?_
        rw [pk_rem (by omega) (by decide) (by decide), hk]
        refine zi_if_ne 75 dX9_stepAt_66 (by decide) (fun c66 => ?_) (fun c66 => ?_)
        · refine zi_ild2 dX9_stepAt_75 ?_
          refine zi_iconst (nI 1) dX9_stepAt_76 (by decide) ?_
          refine zi_iadd dX9_stepAt_77 ?_
          refine zi_ist8 dX9_stepAt_78 (Nat.le_of_ble_eq_true rfl) rfl ?_
          refine zi_ild1 dX9_stepAt_80 ?_
          refine zi_iconst (nI 2) dX9_stepAt_81 (by decide) ?_
          refine zi_irem dX9_stepAt_82 (by decide) ?_
          rw [pk_rem (by omega) (by decide) (by decide), hk]
          refine zi_if_ne 96 dX9_stepAt_83 (by decide) (fun c83 => ?_) (fun c83 => ?_)
          · refine zi_ild7 dX9_stepAt_96 ?_
            refine zi_iconst (nI 1) dX9_stepAt_98 (by decide) ?_
            refine zi_iadd dX9_stepAt_99 ?_
            refine zi_ist9 dX9_stepAt_100 (Nat.le_of_ble_eq_true rfl) rfl ?_
            refine zi_ild1 dX9_stepAt_102 ?_
            refine zi_iconst (nI 2) dX9_stepAt_103 (by decide) ?_
            refine zi_irem dX9_stepAt_104 (by decide) ?_
            rw [pk_rem (by omega) (by decide) (by decide), hk]
            refine zi_if_ne 113 dX9_stepAt_105 (by decide) (fun c105 => ?_) (fun c105 => ?_)
            · refine zi_ald0 dX9_stepAt_113 ?_
              refine zi_ild7 dX9_stepAt_114 ?_
              refine zi_iconst (nI 1) dX9_stepAt_116 (by decide) ?_
              refine zi_iadd dX9_stepAt_117 ?_
              rw [nI_add, nI_add, show k / 2 + 1 + zt_a w k + 1 = k / 2 + 2 + zt_a w k by omega]
              refine zi_cV1i vmX9_behind lkX9_68 dX9_stepAt_118 (by first | assumption | decide) (Nat.le_of_ble_eq_true rfl) (c9_behind hW (show k / 2 + 2 + zt_a w k ≤ w.length by omega) p6) ?_
              rintro _ _ ⟨rfl, rfl⟩
              rw [p7]
              refine zi_ist10 dX9_stepAt_121 (Nat.le_of_ble_eq_true rfl) rfl ?_
              refine zi_ild1 dX9_stepAt_123 ?_
              refine zi_iconst (nI 2) dX9_stepAt_124 (by decide) ?_
              refine zi_irem dX9_stepAt_125 (by decide) ?_
              rw [pk_rem (by omega) (by decide) (by decide), hk]
              refine zi_if_ne 134 dX9_stepAt_126 (by decide) (fun c126 => ?_) (fun c126 => ?_)
              · refine zi_ild7 dX9_stepAt_134 ?_
                refine zi_ist11 dX9_stepAt_136 (Nat.le_of_ble_eq_true rfl) rfl ?_
                exact l9_step138 hW hf4 hg (show k / 2 ≤ w.length by omega) (by omega) (by omega) p8 p9 p10 (zy_rb p11.symm rfl) hrw.2.2 hrw.2.1
              · exact absurd c126 (by decide)
            · exact absurd c105 (by decide)
          · exact absurd c83 (by decide)
        · exact absurd c66 (by decide)
      · rw [zn_eq (by omega) (by omega)] at c27; exact absurd c27 hf1
end Z33
