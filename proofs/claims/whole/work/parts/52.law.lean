/-! THE LAW'S LOOP -/
theorem zl_lt {N i : Nat} (hN : N ≤ 2048) (hi : i ≤ 4096) (h : ¬ nI N - nI 4 < nI i) : i + 4 ≤ N := by
  by_cases q : 4 ≤ N
  · have e : nI N - nI 4 = nI (N - 4) := by
      have : nI N = nI (N - 4) + nI 4 := by rw [nI_add]; exact congrArg nI (by omega)
      rw [this, Int32.add_sub_cancel]
    rw [e, zn_lt (by omega) (by omega)] at h
    omega
  · refine absurd ?_ h
    have h0 : nI N - nI 4 < nI 0 := by
      match N, q with
      | 0, _ => decide
      | 1, _ => decide
      | 2, _ => decide
      | 3, _ => decide
      | n + 4, q => exact absurd (by omega) q
    exact Int32.lt_of_lt_of_le h0 (by rw [zn_le (by omega) (by omega)]; omega)
theorem zl_and (x : Int32) : ∃ k : Nat, k < 32 ∧ x &&& nI 31 = nI k := by
  refine ⟨(x &&& nI 31).toBitVec.toNat, ?_, ?_⟩
  · have e : (x &&& nI 31).toBitVec.toNat = x.toBitVec.toNat &&& 31 := by
      rw [Int32.toBitVec_and, BitVec.toNat_and]; rfl
    rw [e]
    exact Nat.lt_of_le_of_lt Nat.and_le_right (by decide)
  · exact (Int32.toBitVec_inj.mp (by simp [nI]))
theorem zl_cmp (x : Int64) : lg_cmp x x = 0 := by simp [lg_cmp]
section Z52
variable {l : Launch} {G : zw_G} {d i : Nat} {σ : zw_S} {A : zx_T} {P : Option Value → zw_S → Prop}
theorem lb_feed (hE : zj_G G) (hN : (G.2.2.2 184).1 < 2 ^ 31) (hi : i + 4 ≤ (G.2.2.2 184).1) (hV : zx_V σ A) (hY : zy_V σ A) (kk : ∀ σ2 A2, zx_V σ2 A2 → zy_V σ2 A2 → zw_W l G (d + 10) mL_law 738 [some (.ref 184), some (.ref 0), some (.ref 168), some (.int (nI i))] [] σ2 P) : zw_W l G (d + 10) mL_law 144 [some (.ref 184), some (.ref 0), some (.ref 168), some (.int (nI i))] [] σ P := by
  refine zi_ald1 dL_law_144 ?_
  refine zi_ald0 dL_law_145 ?_
  refine zi_ild3 dL_law_146 ?_
  refine zi_iconst (nI 1) dL_law_147 (by decide) ?_
  refine zi_iadd dL_law_148 ?_
  refine zi_xald (i + 1) dL_law_149 (by decide) (nI_add i 1) (by omega) hN ?_
  refine zi_cV1i vmX8_feed lkL_13 dL_law_150 (by first | assumption | decide) (Nat.le_of_ble_eq_true rfl) (c8_feed (d := d + 8) hV) ?_
  rintro x1 σ1 ⟨e1, hV1, hF1⟩
  refine zi_ald2 dL_law_153 ?_
  refine zi_ald0 dL_law_154 ?_
  refine zi_ild3 dL_law_155 ?_
  refine zi_iconst (nI 1) dL_law_156 (by decide) ?_
  refine zi_iadd dL_law_157 ?_
  refine zi_xald (i + 1) dL_law_158 (by decide) (nI_add i 1) (by omega) hN ?_
  refine zi_cV1i vmX9_feed lkL_17 dL_law_159 (by first | assumption | decide) (Nat.le_of_ble_eq_true rfl) (c9_feed (d := d + 7) (hY.cg hF1)) ?_
  rintro x2 σ2 ⟨e2, hV2, hF2⟩
  refine zi_icmp_eq 738 dL_law_162 (by decide) (fun c162 => ?_) (fun c162 => ?_)
  · exact kk σ2 _ (hV1.cy hF2) hV2
  · exact absurd (e1.trans e2.symm) c162
theorem lb_tell (hE : zj_G G) (hN : (G.2.2.2 184).1 < 2 ^ 31) (hi : i + 4 ≤ (G.2.2.2 184).1) (hV : zx_V σ A) (hY : zy_V σ A) (kk : ∀ σ2 A2, zx_V σ2 A2 → zy_V σ2 A2 → zw_W l G (d + 10) mL_law 738 [some (.ref 184), some (.ref 0), some (.ref 168), some (.int (nI i))] [] σ2 P) : zw_W l G (d + 10) mL_law 167 [some (.ref 184), some (.ref 0), some (.ref 168), some (.int (nI i))] [] σ P := by
  refine zi_ald1 dL_law_167 ?_
  refine zi_cV0i vmX8_tell lkL_18 dL_law_168 (by first | assumption | decide) (Nat.le_of_ble_eq_true rfl) (c8_tell (d := d + 4) hV) ?_
  rintro x1 σ1 ⟨e1, hV1, hF1⟩
  refine zi_ald2 dL_law_171 ?_
  refine zi_cV0i vmX9_tell lkL_22 dL_law_172 (by first | assumption | decide) (Nat.le_of_ble_eq_true rfl) (c9_tell (d := d + 5) (hY.cg hF1)) ?_
  rintro x2 σ2 ⟨e2, hV2, hF2⟩
  refine zi_icmp_eq 738 dL_law_175 (by decide) (fun c175 => ?_) (fun c175 => ?_)
  · exact kk σ2 _ (hV1.cy hF2) hV2
  · exact absurd (e1.trans e2.symm) c175
theorem lb_fault (hE : zj_G G) (hN : (G.2.2.2 184).1 < 2 ^ 31) (hi : i + 4 ≤ (G.2.2.2 184).1) (hV : zx_V σ A) (hY : zy_V σ A) (kk : ∀ σ2 A2, zx_V σ2 A2 → zy_V σ2 A2 → zw_W l G (d + 10) mL_law 738 [some (.ref 184), some (.ref 0), some (.ref 168), some (.int (nI i))] [] σ2 P) : zw_W l G (d + 10) mL_law 180 [some (.ref 184), some (.ref 0), some (.ref 168), some (.int (nI i))] [] σ P := by
  refine zi_ald1 dL_law_180 ?_
  refine zi_cV0i vmX8_fault lkL_23 dL_law_181 (by first | assumption | decide) (Nat.le_of_ble_eq_true rfl) (c8_fault (d := d + 8) hV) ?_
  rintro x1 σ1 ⟨rfl, e1⟩
  refine zi_ald2 dL_law_184 ?_
  refine zi_cV0i vmX9_fault lkL_26 dL_law_185 (by first | assumption | decide) (Nat.le_of_ble_eq_true rfl) (c9_fault (d := d + 8) hY) ?_
  rintro x2 σ2 ⟨rfl, e2⟩
  refine zi_icmp_eq 738 dL_law_188 (by decide) (fun c188 => ?_) (fun c188 => ?_)
  · exact kk _ _ hV hY
  · exact absurd (e1.trans e2.symm) c188
theorem lb_told (hE : zj_G G) (hN : (G.2.2.2 184).1 < 2 ^ 31) (hi : i + 4 ≤ (G.2.2.2 184).1) (hV : zx_V σ A) (hY : zy_V σ A) (kk : ∀ σ2 A2, zx_V σ2 A2 → zy_V σ2 A2 → zw_W l G (d + 10) mL_law 738 [some (.ref 184), some (.ref 0), some (.ref 168), some (.int (nI i))] [] σ2 P) : zw_W l G (d + 10) mL_law 193 [some (.ref 184), some (.ref 0), some (.ref 168), some (.int (nI i))] [] σ P := by
  refine zi_ald1 dL_law_193 ?_
  refine zi_ald0 dL_law_194 ?_
  refine zi_ild3 dL_law_195 ?_
  refine zi_iconst (nI 1) dL_law_196 (by decide) ?_
  refine zi_iadd dL_law_197 ?_
  refine zi_xald (i + 1) dL_law_198 (by decide) (nI_add i 1) (by omega) hN ?_
  refine zi_cV1i vmX8_told lkL_27 dL_law_199 (by first | assumption | decide) (Nat.le_of_ble_eq_true rfl) (c8_told (d := d + 2) hE hV) ?_
  rintro x1 σ1 ⟨e1, hV1, hF1⟩
  refine zi_ald2 dL_law_202 ?_
  refine zi_ald0 dL_law_203 ?_
  refine zi_ild3 dL_law_204 ?_
  refine zi_iconst (nI 1) dL_law_205 (by decide) ?_
  refine zi_iadd dL_law_206 ?_
  refine zi_xald (i + 1) dL_law_207 (by decide) (nI_add i 1) (by omega) hN ?_
  refine zi_cV1i vmX9_told lkL_30 dL_law_208 (by first | assumption | decide) (Nat.le_of_ble_eq_true rfl) (c9_told (d := d) (hY.cg hF1)) ?_
  rintro x2 σ2 ⟨e2, hV2, hF2⟩
  refine zi_icmp_eq 738 dL_law_211 (by decide) (fun c211 => ?_) (fun c211 => ?_)
  · exact kk σ2 _ (hV1.cy hF2) hV2
  · exact absurd (e1.trans e2.symm) c211
theorem lb_tree (hE : zj_G G) (hN : (G.2.2.2 184).1 < 2 ^ 31) (hi : i + 4 ≤ (G.2.2.2 184).1) (hV : zx_V σ A) (hY : zy_V σ A) (kk : ∀ σ2 A2, zx_V σ2 A2 → zy_V σ2 A2 → zw_W l G (d + 10) mL_law 738 [some (.ref 184), some (.ref 0), some (.ref 168), some (.int (nI i))] [] σ2 P) : zw_W l G (d + 10) mL_law 216 [some (.ref 184), some (.ref 0), some (.ref 168), some (.int (nI i))] [] σ P := by
  refine zi_ald1 dL_law_216 ?_
  refine zi_ald0 dL_law_217 ?_
  refine zi_ild3 dL_law_218 ?_
  refine zi_iconst (nI 1) dL_law_219 (by decide) ?_
  refine zi_iadd dL_law_220 ?_
  refine zi_xald (i + 1) dL_law_221 (by decide) (nI_add i 1) (by omega) hN ?_
  refine zi_ald0 dL_law_222 ?_
  refine zi_ild3 dL_law_223 ?_
  refine zi_iconst (nI 2) dL_law_224 (by decide) ?_
  refine zi_iadd dL_law_225 ?_
  refine zi_xald (i + 2) dL_law_226 (by decide) (nI_add i 2) (by omega) hN ?_
  refine zi_cV2i vmX8_tree lkL_31 dL_law_227 (by first | assumption | decide) (Nat.le_of_ble_eq_true rfl) (c8_tree (d := d + 3) hV) ?_
  rintro x1 σ1 ⟨e1, hV1, hF1⟩
  refine zi_ald2 dL_law_230 ?_
  refine zi_ald0 dL_law_231 ?_
  refine zi_ild3 dL_law_232 ?_
  refine zi_iconst (nI 1) dL_law_233 (by decide) ?_
  refine zi_iadd dL_law_234 ?_
  refine zi_xald (i + 1) dL_law_235 (by decide) (nI_add i 1) (by omega) hN ?_
  refine zi_ald0 dL_law_236 ?_
  refine zi_ild3 dL_law_237 ?_
  refine zi_iconst (nI 2) dL_law_238 (by decide) ?_
  refine zi_iadd dL_law_239 ?_
  refine zi_xald (i + 2) dL_law_240 (by decide) (nI_add i 2) (by omega) hN ?_
  refine zi_cV2i vmX9_tree lkL_35 dL_law_241 (by first | assumption | decide) (Nat.le_of_ble_eq_true rfl) (c9_tree (d := d + 1) (hY.cg hF1)) ?_
  rintro x2 σ2 ⟨e2, hV2, hF2⟩
  refine zi_icmp_eq 738 dL_law_244 (by decide) (fun c244 => ?_) (fun c244 => ?_)
  · exact kk σ2 _ (hV1.cy hF2) hV2
  · exact absurd (e1.trans e2.symm) c244
theorem lb_pattern (hE : zj_G G) (hN : (G.2.2.2 184).1 < 2 ^ 31) (hi : i + 4 ≤ (G.2.2.2 184).1) (hV : zx_V σ A) (hY : zy_V σ A) (kk : ∀ σ2 A2, zx_V σ2 A2 → zy_V σ2 A2 → zw_W l G (d + 10) mL_law 738 [some (.ref 184), some (.ref 0), some (.ref 168), some (.int (nI i))] [] σ2 P) : zw_W l G (d + 10) mL_law 249 [some (.ref 184), some (.ref 0), some (.ref 168), some (.int (nI i))] [] σ P := by
  refine zi_ald1 dL_law_249 ?_
  refine zi_ald0 dL_law_250 ?_
  refine zi_ild3 dL_law_251 ?_
  refine zi_iconst (nI 1) dL_law_252 (by decide) ?_
  refine zi_iadd dL_law_253 ?_
  refine zi_xald (i + 1) dL_law_254 (by decide) (nI_add i 1) (by omega) hN ?_
  refine zi_ald0 dL_law_255 ?_
  refine zi_ild3 dL_law_256 ?_
  refine zi_iconst (nI 2) dL_law_257 (by decide) ?_
  refine zi_iadd dL_law_258 ?_
  refine zi_xald (i + 2) dL_law_259 (by decide) (nI_add i 2) (by omega) hN ?_
  refine zi_cV2i vmX8_pattern lkL_36 dL_law_260 (by first | assumption | decide) (Nat.le_of_ble_eq_true rfl) (c8_pattern (d := d + 6) hV) ?_
  rintro x1 σ1 ⟨e1, hV1, hF1⟩
  refine zi_ald2 dL_law_263 ?_
  refine zi_ald0 dL_law_264 ?_
  refine zi_ild3 dL_law_265 ?_
  refine zi_iconst (nI 1) dL_law_266 (by decide) ?_
  refine zi_iadd dL_law_267 ?_
  refine zi_xald (i + 1) dL_law_268 (by decide) (nI_add i 1) (by omega) hN ?_
  refine zi_ald0 dL_law_269 ?_
  refine zi_ild3 dL_law_270 ?_
  refine zi_iconst (nI 2) dL_law_271 (by decide) ?_
  refine zi_iadd dL_law_272 ?_
  refine zi_xald (i + 2) dL_law_273 (by decide) (nI_add i 2) (by omega) hN ?_
  refine zi_cV2i vmX9_pattern lkL_39 dL_law_274 (by first | assumption | decide) (Nat.le_of_ble_eq_true rfl) (c9_pattern (d := d + 6) (hY.cg hF1)) ?_
  rintro x2 σ2 ⟨e2, hV2, hF2⟩
  refine zi_icmp_eq 738 dL_law_277 (by decide) (fun c277 => ?_) (fun c277 => ?_)
  · exact kk σ2 _ (hV1.cy hF2) hV2
  · exact absurd (e1.trans e2.symm) c277
theorem lb_same (hE : zj_G G) (hN : (G.2.2.2 184).1 < 2 ^ 31) (hi : i + 4 ≤ (G.2.2.2 184).1) (hV : zx_V σ A) (hY : zy_V σ A) (kk : ∀ σ2 A2, zx_V σ2 A2 → zy_V σ2 A2 → zw_W l G (d + 10) mL_law 738 [some (.ref 184), some (.ref 0), some (.ref 168), some (.int (nI i))] [] σ2 P) : zw_W l G (d + 10) mL_law 282 [some (.ref 184), some (.ref 0), some (.ref 168), some (.int (nI i))] [] σ P := by
  refine zi_ald1 dL_law_282 ?_
  refine zi_ald0 dL_law_283 ?_
  refine zi_ild3 dL_law_284 ?_
  refine zi_iconst (nI 1) dL_law_285 (by decide) ?_
  refine zi_iadd dL_law_286 ?_
  refine zi_xald (i + 1) dL_law_287 (by decide) (nI_add i 1) (by omega) hN ?_
  refine zi_ald0 dL_law_288 ?_
  refine zi_ild3 dL_law_289 ?_
  refine zi_iconst (nI 2) dL_law_290 (by decide) ?_
  refine zi_iadd dL_law_291 ?_
  refine zi_xald (i + 2) dL_law_292 (by decide) (nI_add i 2) (by omega) hN ?_
  refine zi_cV2i vmX8_same lkL_40 dL_law_293 (by first | assumption | decide) (Nat.le_of_ble_eq_true rfl) (c8_same (d := d + 4) hV) ?_
  rintro x1 σ1 ⟨e1, hV1, hF1⟩
  refine zi_ald2 dL_law_296 ?_
  refine zi_ald0 dL_law_297 ?_
  refine zi_ild3 dL_law_298 ?_
  refine zi_iconst (nI 1) dL_law_299 (by decide) ?_
  refine zi_iadd dL_law_300 ?_
  refine zi_xald (i + 1) dL_law_301 (by decide) (nI_add i 1) (by omega) hN ?_
  refine zi_ald0 dL_law_302 ?_
  refine zi_ild3 dL_law_303 ?_
  refine zi_iconst (nI 2) dL_law_304 (by decide) ?_
  refine zi_iadd dL_law_305 ?_
  refine zi_xald (i + 2) dL_law_306 (by decide) (nI_add i 2) (by omega) hN ?_
  refine zi_cV2i vmX9_same lkL_43 dL_law_307 (by first | assumption | decide) (Nat.le_of_ble_eq_true rfl) (c9_same (d := d + 2) (hY.cg hF1)) ?_
  rintro x2 σ2 ⟨e2, hV2, hF2⟩
  refine zi_icmp_eq 738 dL_law_310 (by decide) (fun c310 => ?_) (fun c310 => ?_)
  · exact kk σ2 _ (hV1.cy hF2) hV2
  · exact absurd (e1.trans e2.symm) c310
theorem lb_count (hE : zj_G G) (hN : (G.2.2.2 184).1 < 2 ^ 31) (hi : i + 4 ≤ (G.2.2.2 184).1) (hV : zx_V σ A) (hY : zy_V σ A) (kk : ∀ σ2 A2, zx_V σ2 A2 → zy_V σ2 A2 → zw_W l G (d + 10) mL_law 738 [some (.ref 184), some (.ref 0), some (.ref 168), some (.int (nI i))] [] σ2 P) : zw_W l G (d + 10) mL_law 315 [some (.ref 184), some (.ref 0), some (.ref 168), some (.int (nI i))] [] σ P := by
  refine zi_ald1 dL_law_315 ?_
  refine zi_ald0 dL_law_316 ?_
  refine zi_ild3 dL_law_317 ?_
  refine zi_iconst (nI 1) dL_law_318 (by decide) ?_
  refine zi_iadd dL_law_319 ?_
  refine zi_xald (i + 1) dL_law_320 (by decide) (nI_add i 1) (by omega) hN ?_
  refine zi_cV1l vmX8_count lkL_44 dL_law_321 (by first | assumption | decide) (Nat.le_of_ble_eq_true rfl) (c8_count (d := d + 3) hV) ?_
  rintro x1 σ1 ⟨e1, hV1, hF1⟩
  refine zi_ald2 dL_law_324 ?_
  refine zi_ald0 dL_law_325 ?_
  refine zi_ild3 dL_law_326 ?_
  refine zi_iconst (nI 1) dL_law_327 (by decide) ?_
  refine zi_iadd dL_law_328 ?_
  refine zi_xald (i + 1) dL_law_329 (by decide) (nI_add i 1) (by omega) hN ?_
  refine zi_cV1l vmX9_count lkL_48 dL_law_330 (by first | assumption | decide) (Nat.le_of_ble_eq_true rfl) (c9_count (d := d + 6) (hY.cg hF1)) ?_
  rintro x2 σ2 ⟨e2, hV2, hF2⟩
  refine zi_lcmp dL_law_333 ?_
  refine zi_if_eq 738 dL_law_334 (by decide) (fun c334 => ?_) (fun c334 => ?_)
  · exact kk σ2 _ (hV1.cy hF2) hV2
  · exact absurd (by rw [e1, e2]; exact zl_cmp _) c334
theorem lb_undoneBy (hE : zj_G G) (hN : (G.2.2.2 184).1 < 2 ^ 31) (hi : i + 4 ≤ (G.2.2.2 184).1) (hV : zx_V σ A) (hY : zy_V σ A) (kk : ∀ σ2 A2, zx_V σ2 A2 → zy_V σ2 A2 → zw_W l G (d + 10) mL_law 738 [some (.ref 184), some (.ref 0), some (.ref 168), some (.int (nI i))] [] σ2 P) : zw_W l G (d + 10) mL_law 339 [some (.ref 184), some (.ref 0), some (.ref 168), some (.int (nI i))] [] σ P := by
  refine zi_ald1 dL_law_339 ?_
  refine zi_ald0 dL_law_340 ?_
  refine zi_ild3 dL_law_341 ?_
  refine zi_iconst (nI 1) dL_law_342 (by decide) ?_
  refine zi_iadd dL_law_343 ?_
  refine zi_xald (i + 1) dL_law_344 (by decide) (nI_add i 1) (by omega) hN ?_
  refine zi_cV1l vmX8_undoneBy lkL_49 dL_law_345 (by first | assumption | decide) (Nat.le_of_ble_eq_true rfl) (c8_undoneBy (d := d + 3) hV) ?_
  rintro x1 σ1 ⟨e1, hV1, hF1⟩
  refine zi_ald2 dL_law_348 ?_
  refine zi_ald0 dL_law_349 ?_
  refine zi_ild3 dL_law_350 ?_
  refine zi_iconst (nI 1) dL_law_351 (by decide) ?_
  refine zi_iadd dL_law_352 ?_
  refine zi_xald (i + 1) dL_law_353 (by decide) (nI_add i 1) (by omega) hN ?_
  refine zi_cV1l vmX9_undoneBy lkL_52 dL_law_354 (by first | assumption | decide) (Nat.le_of_ble_eq_true rfl) (c9_undoneBy (d := d + 5) (hY.cg hF1)) ?_
  rintro x2 σ2 ⟨e2, hV2, hF2⟩
  refine zi_lcmp dL_law_357 ?_
  refine zi_if_eq 738 dL_law_358 (by decide) (fun c358 => ?_) (fun c358 => ?_)
  · exact kk σ2 _ (hV1.cy hF2) hV2
  · exact absurd (by rw [e1, e2]; exact zl_cmp _) c358
theorem lb_graft (hE : zj_G G) (hN : (G.2.2.2 184).1 < 2 ^ 31) (hi : i + 4 ≤ (G.2.2.2 184).1) (hV : zx_V σ A) (hY : zy_V σ A) (kk : ∀ σ2 A2, zx_V σ2 A2 → zy_V σ2 A2 → zw_W l G (d + 10) mL_law 738 [some (.ref 184), some (.ref 0), some (.ref 168), some (.int (nI i))] [] σ2 P) : zw_W l G (d + 10) mL_law 363 [some (.ref 184), some (.ref 0), some (.ref 168), some (.int (nI i))] [] σ P := by
  refine zi_ald1 dL_law_363 ?_
  refine zi_ald0 dL_law_364 ?_
  refine zi_ild3 dL_law_365 ?_
  refine zi_iconst (nI 1) dL_law_366 (by decide) ?_
  refine zi_iadd dL_law_367 ?_
  refine zi_xald (i + 1) dL_law_368 (by decide) (nI_add i 1) (by omega) hN ?_
  refine zi_ald0 dL_law_369 ?_
  refine zi_ild3 dL_law_370 ?_
  refine zi_iconst (nI 2) dL_law_371 (by decide) ?_
  refine zi_iadd dL_law_372 ?_
  refine zi_xald (i + 2) dL_law_373 (by decide) (nI_add i 2) (by omega) hN ?_
  refine zi_ald0 dL_law_374 ?_
  refine zi_ild3 dL_law_375 ?_
  refine zi_iconst (nI 3) dL_law_376 (by decide) ?_
  refine zi_iadd dL_law_377 ?_
  refine zi_xald (i + 3) dL_law_378 (by decide) (nI_add i 3) (by omega) hN ?_
  refine zi_cV3i vmX8_graft lkL_53 dL_law_379 (by first | assumption | decide) (Nat.le_of_ble_eq_true rfl) (c8_graft (d := d + 4) hV) ?_
  rintro x1 σ1 ⟨e1, hV1, hF1⟩
  refine zi_ald2 dL_law_382 ?_
  refine zi_ald0 dL_law_383 ?_
  refine zi_ild3 dL_law_384 ?_
  refine zi_iconst (nI 1) dL_law_385 (by decide) ?_
  refine zi_iadd dL_law_386 ?_
  refine zi_xald (i + 1) dL_law_387 (by decide) (nI_add i 1) (by omega) hN ?_
  refine zi_ald0 dL_law_388 ?_
  refine zi_ild3 dL_law_389 ?_
  refine zi_iconst (nI 2) dL_law_390 (by decide) ?_
  refine zi_iadd dL_law_391 ?_
  refine zi_xald (i + 2) dL_law_392 (by decide) (nI_add i 2) (by omega) hN ?_
  refine zi_ald0 dL_law_393 ?_
  refine zi_ild3 dL_law_394 ?_
  refine zi_iconst (nI 3) dL_law_395 (by decide) ?_
  refine zi_iadd dL_law_396 ?_
  refine zi_xald (i + 3) dL_law_397 (by decide) (nI_add i 3) (by omega) hN ?_
  refine zi_cV3i vmX9_graft lkL_57 dL_law_398 (by first | assumption | decide) (Nat.le_of_ble_eq_true rfl) (c9_graft (d := d + 5) (hY.cg hF1)) ?_
  rintro x2 σ2 ⟨e2, hV2, hF2⟩
  refine zi_icmp_eq 738 dL_law_401 (by decide) (fun c401 => ?_) (fun c401 => ?_)
  · exact kk σ2 _ (hV1.cy hF2) hV2
  · exact absurd (e1.trans e2.symm) c401
theorem lb_step (hE : zj_G G) (hN : (G.2.2.2 184).1 < 2 ^ 31) (hi : i + 4 ≤ (G.2.2.2 184).1) (hV : zx_V σ A) (hY : zy_V σ A) (kk : ∀ σ2 A2, zx_V σ2 A2 → zy_V σ2 A2 → zw_W l G (d + 10) mL_law 738 [some (.ref 184), some (.ref 0), some (.ref 168), some (.int (nI i))] [] σ2 P) : zw_W l G (d + 10) mL_law 406 [some (.ref 184), some (.ref 0), some (.ref 168), some (.int (nI i))] [] σ P := by
  refine zi_ald1 dL_law_406 ?_
  refine zi_ald0 dL_law_407 ?_
  refine zi_ild3 dL_law_408 ?_
  refine zi_iconst (nI 1) dL_law_409 (by decide) ?_
  refine zi_iadd dL_law_410 ?_
  refine zi_xald (i + 1) dL_law_411 (by decide) (nI_add i 1) (by omega) hN ?_
  refine zi_ald0 dL_law_412 ?_
  refine zi_ild3 dL_law_413 ?_
  refine zi_iconst (nI 2) dL_law_414 (by decide) ?_
  refine zi_iadd dL_law_415 ?_
  refine zi_xald (i + 2) dL_law_416 (by decide) (nI_add i 2) (by omega) hN ?_
  refine zi_cV2i vmX8_step lkL_58 dL_law_417 (by first | assumption | decide) (Nat.le_of_ble_eq_true rfl) (c8_step (d := d + 5) hV) ?_
  rintro x1 σ1 ⟨e1, hV1, hF1⟩
  refine zi_ald2 dL_law_420 ?_
  refine zi_ald0 dL_law_421 ?_
  refine zi_ild3 dL_law_422 ?_
  refine zi_iconst (nI 1) dL_law_423 (by decide) ?_
  refine zi_iadd dL_law_424 ?_
  refine zi_xald (i + 1) dL_law_425 (by decide) (nI_add i 1) (by omega) hN ?_
  refine zi_ald0 dL_law_426 ?_
  refine zi_ild3 dL_law_427 ?_
  refine zi_iconst (nI 2) dL_law_428 (by decide) ?_
  refine zi_iadd dL_law_429 ?_
  refine zi_xald (i + 2) dL_law_430 (by decide) (nI_add i 2) (by omega) hN ?_
  refine zi_cV2i vmX9_step lkL_61 dL_law_431 (by first | assumption | decide) (Nat.le_of_ble_eq_true rfl) (c9_step (d := d + 3) (hY.cg hF1)) ?_
  rintro x2 σ2 ⟨e2, hV2, hF2⟩
  refine zi_icmp_eq 738 dL_law_434 (by decide) (fun c434 => ?_) (fun c434 => ?_)
  · exact kk σ2 _ (hV1.cy hF2) hV2
  · exact absurd (e1.trans e2.symm) c434
theorem lb_plain (hE : zj_G G) (hN : (G.2.2.2 184).1 < 2 ^ 31) (hi : i + 4 ≤ (G.2.2.2 184).1) (hV : zx_V σ A) (hY : zy_V σ A) (kk : ∀ σ2 A2, zx_V σ2 A2 → zy_V σ2 A2 → zw_W l G (d + 10) mL_law 738 [some (.ref 184), some (.ref 0), some (.ref 168), some (.int (nI i))] [] σ2 P) : zw_W l G (d + 10) mL_law 439 [some (.ref 184), some (.ref 0), some (.ref 168), some (.int (nI i))] [] σ P := by
  refine zi_ald1 dL_law_439 ?_
  refine zi_ald0 dL_law_440 ?_
  refine zi_ild3 dL_law_441 ?_
  refine zi_iconst (nI 1) dL_law_442 (by decide) ?_
  refine zi_iadd dL_law_443 ?_
  refine zi_xald (i + 1) dL_law_444 (by decide) (nI_add i 1) (by omega) hN ?_
  refine zi_cV1i vmX8_plain lkL_62 dL_law_445 (by first | assumption | decide) (Nat.le_of_ble_eq_true rfl) (c8_plain (d := d + 4) hV) ?_
  rintro x1 σ1 ⟨e1, hV1, hF1⟩
  refine zi_ald2 dL_law_448 ?_
  refine zi_ald0 dL_law_449 ?_
  refine zi_ild3 dL_law_450 ?_
  refine zi_iconst (nI 1) dL_law_451 (by decide) ?_
  refine zi_iadd dL_law_452 ?_
  refine zi_xald (i + 1) dL_law_453 (by decide) (nI_add i 1) (by omega) hN ?_
  refine zi_cV1i vmX9_plain lkL_65 dL_law_454 (by first | assumption | decide) (Nat.le_of_ble_eq_true rfl) (c9_plain (d := d + 2) (hY.cg hF1)) ?_
  rintro x2 σ2 ⟨e2, hV2, hF2⟩
  refine zi_icmp_eq 738 dL_law_457 (by decide) (fun c457 => ?_) (fun c457 => ?_)
  · exact kk σ2 _ (hV1.cy hF2) hV2
  · exact absurd (e1.trans e2.symm) c457
theorem lb_mirror (hE : zj_G G) (hN : (G.2.2.2 184).1 < 2 ^ 31) (hi : i + 4 ≤ (G.2.2.2 184).1) (hV : zx_V σ A) (hY : zy_V σ A) (kk : ∀ σ2 A2, zx_V σ2 A2 → zy_V σ2 A2 → zw_W l G (d + 10) mL_law 738 [some (.ref 184), some (.ref 0), some (.ref 168), some (.int (nI i))] [] σ2 P) : zw_W l G (d + 10) mL_law 462 [some (.ref 184), some (.ref 0), some (.ref 168), some (.int (nI i))] [] σ P := by
  refine zi_ald1 dL_law_462 ?_
  refine zi_ald0 dL_law_463 ?_
  refine zi_ild3 dL_law_464 ?_
  refine zi_iconst (nI 1) dL_law_465 (by decide) ?_
  refine zi_iadd dL_law_466 ?_
  refine zi_xald (i + 1) dL_law_467 (by decide) (nI_add i 1) (by omega) hN ?_
  refine zi_cV1i vmX8_mirror lkL_66 dL_law_468 (by first | assumption | decide) (Nat.le_of_ble_eq_true rfl) (c8_mirror (d := d + 5) hV) ?_
  rintro x1 σ1 ⟨e1, hV1, hF1⟩
  refine zi_ald2 dL_law_471 ?_
  refine zi_ald0 dL_law_472 ?_
  refine zi_ild3 dL_law_473 ?_
  refine zi_iconst (nI 1) dL_law_474 (by decide) ?_
  refine zi_iadd dL_law_475 ?_
  refine zi_xald (i + 1) dL_law_476 (by decide) (nI_add i 1) (by omega) hN ?_
  refine zi_cV1i vmX9_mirror lkL_69 dL_law_477 (by first | assumption | decide) (Nat.le_of_ble_eq_true rfl) (c9_mirror (d := d + 6) (hY.cg hF1)) ?_
  rintro x2 σ2 ⟨e2, hV2, hF2⟩
  refine zi_icmp_eq 738 dL_law_480 (by decide) (fun c480 => ?_) (fun c480 => ?_)
  · exact kk σ2 _ (hV1.cy hF2) hV2
  · exact absurd (e1.trans e2.symm) c480
theorem lb_take (hE : zj_G G) (hN : (G.2.2.2 184).1 < 2 ^ 31) (hi : i + 4 ≤ (G.2.2.2 184).1) (hV : zx_V σ A) (hY : zy_V σ A) (kk : ∀ σ2 A2, zx_V σ2 A2 → zy_V σ2 A2 → zw_W l G (d + 10) mL_law 738 [some (.ref 184), some (.ref 0), some (.ref 168), some (.int (nI i))] [] σ2 P) : zw_W l G (d + 10) mL_law 485 [some (.ref 184), some (.ref 0), some (.ref 168), some (.int (nI i))] [] σ P := by
  refine zi_ald1 dL_law_485 ?_
  refine zi_ald0 dL_law_486 ?_
  refine zi_ild3 dL_law_487 ?_
  refine zi_iconst (nI 1) dL_law_488 (by decide) ?_
  refine zi_iadd dL_law_489 ?_
  refine zi_xald (i + 1) dL_law_490 (by decide) (nI_add i 1) (by omega) hN ?_
  refine zi_cV1i vmX8_take lkL_70 dL_law_491 (by first | assumption | decide) (Nat.le_of_ble_eq_true rfl) (c8_take (d := d + 5) hV) ?_
  rintro x1 σ1 ⟨e1, hV1, hF1⟩
  refine zi_ald2 dL_law_494 ?_
  refine zi_ald0 dL_law_495 ?_
  refine zi_ild3 dL_law_496 ?_
  refine zi_iconst (nI 1) dL_law_497 (by decide) ?_
  refine zi_iadd dL_law_498 ?_
  refine zi_xald (i + 1) dL_law_499 (by decide) (nI_add i 1) (by omega) hN ?_
  refine zi_cV1i vmX9_take lkL_73 dL_law_500 (by first | assumption | decide) (Nat.le_of_ble_eq_true rfl) (c9_take (d := d + 6) (hY.cg hF1)) ?_
  rintro x2 σ2 ⟨e2, hV2, hF2⟩
  refine zi_icmp_eq 738 dL_law_503 (by decide) (fun c503 => ?_) (fun c503 => ?_)
  · exact kk σ2 _ (hV1.cy hF2) hV2
  · exact absurd (e1.trans e2.symm) c503
theorem lb_fate (hE : zj_G G) (hN : (G.2.2.2 184).1 < 2 ^ 31) (hi : i + 4 ≤ (G.2.2.2 184).1) (hV : zx_V σ A) (hY : zy_V σ A) (kk : ∀ σ2 A2, zx_V σ2 A2 → zy_V σ2 A2 → zw_W l G (d + 10) mL_law 738 [some (.ref 184), some (.ref 0), some (.ref 168), some (.int (nI i))] [] σ2 P) : zw_W l G (d + 10) mL_law 508 [some (.ref 184), some (.ref 0), some (.ref 168), some (.int (nI i))] [] σ P := by
  refine zi_ald1 dL_law_508 ?_
  refine zi_ald0 dL_law_509 ?_
  refine zi_ild3 dL_law_510 ?_
  refine zi_iconst (nI 1) dL_law_511 (by decide) ?_
  refine zi_iadd dL_law_512 ?_
  refine zi_xald (i + 1) dL_law_513 (by decide) (nI_add i 1) (by omega) hN ?_
  refine zi_ald0 dL_law_514 ?_
  refine zi_ild3 dL_law_515 ?_
  refine zi_iconst (nI 2) dL_law_516 (by decide) ?_
  refine zi_iadd dL_law_517 ?_
  refine zi_xald (i + 2) dL_law_518 (by decide) (nI_add i 2) (by omega) hN ?_
  refine zi_ald0 dL_law_519 ?_
  refine zi_ild3 dL_law_520 ?_
  refine zi_iconst (nI 3) dL_law_521 (by decide) ?_
  refine zi_iadd dL_law_522 ?_
  refine zi_xald (i + 3) dL_law_523 (by decide) (nI_add i 3) (by omega) hN ?_
  refine zi_cV3i vmX8_fate lkL_74 dL_law_524 (by first | assumption | decide) (Nat.le_of_ble_eq_true rfl) (c8_fate (d := d + 5) hV) ?_
  rintro x1 σ1 ⟨e1, hV1, hF1⟩
  refine zi_ald2 dL_law_527 ?_
  refine zi_ald0 dL_law_528 ?_
  refine zi_ild3 dL_law_529 ?_
  refine zi_iconst (nI 1) dL_law_530 (by decide) ?_
  refine zi_iadd dL_law_531 ?_
  refine zi_xald (i + 1) dL_law_532 (by decide) (nI_add i 1) (by omega) hN ?_
  refine zi_ald0 dL_law_533 ?_
  refine zi_ild3 dL_law_534 ?_
  refine zi_iconst (nI 2) dL_law_535 (by decide) ?_
  refine zi_iadd dL_law_536 ?_
  refine zi_xald (i + 2) dL_law_537 (by decide) (nI_add i 2) (by omega) hN ?_
  refine zi_ald0 dL_law_538 ?_
  refine zi_ild3 dL_law_539 ?_
  refine zi_iconst (nI 3) dL_law_540 (by decide) ?_
  refine zi_iadd dL_law_541 ?_
  refine zi_xald (i + 3) dL_law_542 (by decide) (nI_add i 3) (by omega) hN ?_
  refine zi_cV3i vmX9_fate lkL_77 dL_law_543 (by first | assumption | decide) (Nat.le_of_ble_eq_true rfl) (c9_fate (d := d + 6) (hY.cg hF1)) ?_
  rintro x2 σ2 ⟨e2, hV2, hF2⟩
  refine zi_icmp_eq 738 dL_law_546 (by decide) (fun c546 => ?_) (fun c546 => ?_)
  · exact kk σ2 _ (hV1.cy hF2) hV2
  · exact absurd (e1.trans e2.symm) c546
theorem lb_dual (hE : zj_G G) (hN : (G.2.2.2 184).1 < 2 ^ 31) (hi : i + 4 ≤ (G.2.2.2 184).1) (hV : zx_V σ A) (hY : zy_V σ A) (kk : ∀ σ2 A2, zx_V σ2 A2 → zy_V σ2 A2 → zw_W l G (d + 10) mL_law 738 [some (.ref 184), some (.ref 0), some (.ref 168), some (.int (nI i))] [] σ2 P) : zw_W l G (d + 10) mL_law 551 [some (.ref 184), some (.ref 0), some (.ref 168), some (.int (nI i))] [] σ P := by
  refine zi_ald1 dL_law_551 ?_
  refine zi_cV0i vmX8_dual lkL_78 dL_law_552 (by first | assumption | decide) (Nat.le_of_ble_eq_true rfl) (c8_dual (d := d + 2) hE hV) ?_
  rintro x1 σ1 ⟨e1, hV1, hF1⟩
  refine zi_ald2 dL_law_555 ?_
  refine zi_cV0i vmX9_dual lkL_81 dL_law_556 (by first | assumption | decide) (Nat.le_of_ble_eq_true rfl) (c9_dual (d := d) (hY.cg hF1)) ?_
  rintro x2 σ2 ⟨e2, hV2, hF2⟩
  refine zi_icmp_eq 738 dL_law_559 (by decide) (fun c559 => ?_) (fun c559 => ?_)
  · exact kk σ2 _ (hV1.cy hF2) hV2
  · exact absurd (e1.trans e2.symm) c559
theorem lb_clear (hE : zj_G G) (hN : (G.2.2.2 184).1 < 2 ^ 31) (hi : i + 4 ≤ (G.2.2.2 184).1) (hV : zx_V σ A) (hY : zy_V σ A) (kk : ∀ σ2 A2, zx_V σ2 A2 → zy_V σ2 A2 → zw_W l G (d + 10) mL_law 738 [some (.ref 184), some (.ref 0), some (.ref 168), some (.int (nI i))] [] σ2 P) : zw_W l G (d + 10) mL_law 564 [some (.ref 184), some (.ref 0), some (.ref 168), some (.int (nI i))] [] σ P := by
  refine zi_ald1 dL_law_564 ?_
  refine zi_cV0i vmX8_clear lkL_82 dL_law_565 (by first | assumption | decide) (Nat.le_of_ble_eq_true rfl) (c8_clear (d := d + 5) hV) ?_
  rintro x1 σ1 ⟨e1, hV1, hF1⟩
  refine zi_ald2 dL_law_568 ?_
  refine zi_cV0i vmX9_clear lkL_85 dL_law_569 (by first | assumption | decide) (Nat.le_of_ble_eq_true rfl) (c9_clear (d := d + 6) (hY.cg hF1)) ?_
  rintro x2 σ2 ⟨e2, hV2, hF2⟩
  refine zi_icmp_eq 738 dL_law_572 (by decide) (fun c572 => ?_) (fun c572 => ?_)
  · exact kk σ2 _ (hV1.cy hF2) hV2
  · exact absurd (e1.trans e2.symm) c572
theorem lb_drift (hE : zj_G G) (hN : (G.2.2.2 184).1 < 2 ^ 31) (hi : i + 4 ≤ (G.2.2.2 184).1) (hV : zx_V σ A) (hY : zy_V σ A) (kk : ∀ σ2 A2, zx_V σ2 A2 → zy_V σ2 A2 → zw_W l G (d + 10) mL_law 738 [some (.ref 184), some (.ref 0), some (.ref 168), some (.int (nI i))] [] σ2 P) : zw_W l G (d + 10) mL_law 577 [some (.ref 184), some (.ref 0), some (.ref 168), some (.int (nI i))] [] σ P := by
  refine zi_ald1 dL_law_577 ?_
  refine zi_ald0 dL_law_578 ?_
  refine zi_ild3 dL_law_579 ?_
  refine zi_iconst (nI 1) dL_law_580 (by decide) ?_
  refine zi_iadd dL_law_581 ?_
  refine zi_xald (i + 1) dL_law_582 (by decide) (nI_add i 1) (by omega) hN ?_
  refine zi_cV1i vmX8_drift lkL_86 dL_law_583 (by first | assumption | decide) (Nat.le_of_ble_eq_true rfl) (c8_drift (d := d + 4) hV) ?_
  rintro x1 σ1 ⟨e1, hV1, hF1⟩
  refine zi_ald2 dL_law_586 ?_
  refine zi_ald0 dL_law_587 ?_
  refine zi_ild3 dL_law_588 ?_
  refine zi_iconst (nI 1) dL_law_589 (by decide) ?_
  refine zi_iadd dL_law_590 ?_
  refine zi_xald (i + 1) dL_law_591 (by decide) (nI_add i 1) (by omega) hN ?_
  refine zi_cV1i vmX9_drift lkL_89 dL_law_592 (by first | assumption | decide) (Nat.le_of_ble_eq_true rfl) (c9_drift (d := d + 4) (hY.cg hF1)) ?_
  rintro x2 σ2 ⟨e2, hV2, hF2⟩
  refine zi_icmp_eq 738 dL_law_595 (by decide) (fun c595 => ?_) (fun c595 => ?_)
  · exact kk σ2 _ (hV1.cy hF2) hV2
  · exact absurd (e1.trans e2.symm) c595
theorem lb_undo (hE : zj_G G) (hN : (G.2.2.2 184).1 < 2 ^ 31) (hi : i + 4 ≤ (G.2.2.2 184).1) (hV : zx_V σ A) (hY : zy_V σ A) (kk : ∀ σ2 A2, zx_V σ2 A2 → zy_V σ2 A2 → zw_W l G (d + 10) mL_law 738 [some (.ref 184), some (.ref 0), some (.ref 168), some (.int (nI i))] [] σ2 P) : zw_W l G (d + 10) mL_law 600 [some (.ref 184), some (.ref 0), some (.ref 168), some (.int (nI i))] [] σ P := by
  refine zi_ald1 dL_law_600 ?_
  refine zi_ald0 dL_law_601 ?_
  refine zi_ild3 dL_law_602 ?_
  refine zi_iconst (nI 1) dL_law_603 (by decide) ?_
  refine zi_iadd dL_law_604 ?_
  refine zi_xald (i + 1) dL_law_605 (by decide) (nI_add i 1) (by omega) hN ?_
  refine zi_cV1i vmX8_undo lkL_90 dL_law_606 (by first | assumption | decide) (Nat.le_of_ble_eq_true rfl) (c8_undo (d := d + 5) hV) ?_
  rintro x1 σ1 ⟨e1, hV1, hF1⟩
  refine zi_ald2 dL_law_609 ?_
  refine zi_ald0 dL_law_610 ?_
  refine zi_ild3 dL_law_611 ?_
  refine zi_iconst (nI 1) dL_law_612 (by decide) ?_
  refine zi_iadd dL_law_613 ?_
  refine zi_xald (i + 1) dL_law_614 (by decide) (nI_add i 1) (by omega) hN ?_
  refine zi_cV1i vmX9_undo lkL_93 dL_law_615 (by first | assumption | decide) (Nat.le_of_ble_eq_true rfl) (c9_undo (d := d + 7) (hY.cg hF1)) ?_
  rintro x2 σ2 ⟨e2, hV2, hF2⟩
  refine zi_icmp_eq 738 dL_law_618 (by decide) (fun c618 => ?_) (fun c618 => ?_)
  · exact kk σ2 _ (hV1.cy hF2) hV2
  · exact absurd (e1.trans e2.symm) c618
theorem lb_write (hE : zj_G G) (hN : (G.2.2.2 184).1 < 2 ^ 31) (hi : i + 4 ≤ (G.2.2.2 184).1) (hV : zx_V σ A) (hY : zy_V σ A) (kk : ∀ σ2 A2, zx_V σ2 A2 → zy_V σ2 A2 → zw_W l G (d + 10) mL_law 738 [some (.ref 184), some (.ref 0), some (.ref 168), some (.int (nI i))] [] σ2 P) : zw_W l G (d + 10) mL_law 623 [some (.ref 184), some (.ref 0), some (.ref 168), some (.int (nI i))] [] σ P := by
  refine zi_ald1 dL_law_623 ?_
  refine zi_ald0 dL_law_624 ?_
  refine zi_ild3 dL_law_625 ?_
  refine zi_iconst (nI 1) dL_law_626 (by decide) ?_
  refine zi_iadd dL_law_627 ?_
  refine zi_xald (i + 1) dL_law_628 (by decide) (nI_add i 1) (by omega) hN ?_
  refine zi_ald0 dL_law_629 ?_
  refine zi_ild3 dL_law_630 ?_
  refine zi_iconst (nI 2) dL_law_631 (by decide) ?_
  refine zi_iadd dL_law_632 ?_
  refine zi_xald (i + 2) dL_law_633 (by decide) (nI_add i 2) (by omega) hN ?_
  refine zi_cV2i vmX8_write lkL_94 dL_law_634 (by first | assumption | decide) (Nat.le_of_ble_eq_true rfl) (c8_write (d := d + 6) hV) ?_
  rintro x1 σ1 ⟨e1, hV1, hF1⟩
  refine zi_ald2 dL_law_637 ?_
  refine zi_ald0 dL_law_638 ?_
  refine zi_ild3 dL_law_639 ?_
  refine zi_iconst (nI 1) dL_law_640 (by decide) ?_
  refine zi_iadd dL_law_641 ?_
  refine zi_xald (i + 1) dL_law_642 (by decide) (nI_add i 1) (by omega) hN ?_
  refine zi_ald0 dL_law_643 ?_
  refine zi_ild3 dL_law_644 ?_
  refine zi_iconst (nI 2) dL_law_645 (by decide) ?_
  refine zi_iadd dL_law_646 ?_
  refine zi_xald (i + 2) dL_law_647 (by decide) (nI_add i 2) (by omega) hN ?_
  refine zi_cV2i vmX9_write lkL_97 dL_law_648 (by first | assumption | decide) (Nat.le_of_ble_eq_true rfl) (c9_write (d := d + 6) (hY.cg hF1)) ?_
  rintro x2 σ2 ⟨e2, hV2, hF2⟩
  refine zi_icmp_eq 738 dL_law_651 (by decide) (fun c651 => ?_) (fun c651 => ?_)
  · exact kk σ2 _ (hV1.cy hF2) hV2
  · exact absurd (e1.trans e2.symm) c651
theorem lb_tear (hE : zj_G G) (hN : (G.2.2.2 184).1 < 2 ^ 31) (hi : i + 4 ≤ (G.2.2.2 184).1) (hV : zx_V σ A) (hY : zy_V σ A) (kk : ∀ σ2 A2, zx_V σ2 A2 → zy_V σ2 A2 → zw_W l G (d + 10) mL_law 738 [some (.ref 184), some (.ref 0), some (.ref 168), some (.int (nI i))] [] σ2 P) : zw_W l G (d + 10) mL_law 656 [some (.ref 184), some (.ref 0), some (.ref 168), some (.int (nI i))] [] σ P := by
  refine zi_ald1 dL_law_656 ?_
  refine zi_cV0i vmX8_tear lkL_98 dL_law_657 (by first | assumption | decide) (Nat.le_of_ble_eq_true rfl) (c8_tear (d := d + 8) hV) ?_
  rintro x1 σ1 ⟨e1, hV1, hF1⟩
  refine zi_ald2 dL_law_660 ?_
  refine zi_cV0i vmX9_tear lkL_101 dL_law_661 (by first | assumption | decide) (Nat.le_of_ble_eq_true rfl) (c9_tear (d := d + 8) (hY.cg hF1)) ?_
  rintro x2 σ2 ⟨e2, hV2, hF2⟩
  refine zi_icmp_eq 738 dL_law_664 (by decide) (fun c664 => ?_) (fun c664 => ?_)
  · exact kk σ2 _ (hV1.cy hF2) hV2
  · exact absurd (e1.trans e2.symm) c664
theorem lb_seed (hE : zj_G G) (hN : (G.2.2.2 184).1 < 2 ^ 31) (hi : i + 4 ≤ (G.2.2.2 184).1) (hV : zx_V σ A) (hY : zy_V σ A) (kk : ∀ σ2 A2, zx_V σ2 A2 → zy_V σ2 A2 → zw_W l G (d + 10) mL_law 738 [some (.ref 184), some (.ref 0), some (.ref 168), some (.int (nI i))] [] σ2 P) : zw_W l G (d + 10) mL_law 669 [some (.ref 184), some (.ref 0), some (.ref 168), some (.int (nI i))] [] σ P := by
  refine zi_ald1 dL_law_669 ?_
  refine zi_ald0 dL_law_670 ?_
  refine zi_ild3 dL_law_671 ?_
  refine zi_iconst (nI 1) dL_law_672 (by decide) ?_
  refine zi_iadd dL_law_673 ?_
  refine zi_xald (i + 1) dL_law_674 (by decide) (nI_add i 1) (by omega) hN ?_
  refine zi_cV1i vmX8_seed lkL_102 dL_law_675 (by first | assumption | decide) (Nat.le_of_ble_eq_true rfl) (c8_seed (d := d + 8) hV) ?_
  rintro x1 σ1 ⟨e1, hV1, hF1⟩
  refine zi_ald2 dL_law_678 ?_
  refine zi_ald0 dL_law_679 ?_
  refine zi_ild3 dL_law_680 ?_
  refine zi_iconst (nI 1) dL_law_681 (by decide) ?_
  refine zi_iadd dL_law_682 ?_
  refine zi_xald (i + 1) dL_law_683 (by decide) (nI_add i 1) (by omega) hN ?_
  refine zi_cV1i vmX9_seed lkL_105 dL_law_684 (by first | assumption | decide) (Nat.le_of_ble_eq_true rfl) (c9_seed (d := d + 8) (hY.cg hF1)) ?_
  rintro x2 σ2 ⟨e2, hV2, hF2⟩
  refine zi_icmp_eq 738 dL_law_687 (by decide) (fun c687 => ?_) (fun c687 => ?_)
  · exact kk σ2 _ (hV1.cy hF2) hV2
  · exact absurd (e1.trans e2.symm) c687
theorem lb_keep (hE : zj_G G) (hN : (G.2.2.2 184).1 < 2 ^ 31) (hi : i + 4 ≤ (G.2.2.2 184).1) (hV : zx_V σ A) (hY : zy_V σ A) (kk : ∀ σ2 A2, zx_V σ2 A2 → zy_V σ2 A2 → zw_W l G (d + 10) mL_law 738 [some (.ref 184), some (.ref 0), some (.ref 168), some (.int (nI i))] [] σ2 P) : zw_W l G (d + 10) mL_law 692 [some (.ref 184), some (.ref 0), some (.ref 168), some (.int (nI i))] [] σ P := by
  refine zi_ald1 dL_law_692 ?_
  refine zi_ald0 dL_law_693 ?_
  refine zi_ild3 dL_law_694 ?_
  refine zi_iconst (nI 1) dL_law_695 (by decide) ?_
  refine zi_iadd dL_law_696 ?_
  refine zi_xald (i + 1) dL_law_697 (by decide) (nI_add i 1) (by omega) hN ?_
  refine zi_cV1i vmX8_keep lkL_106 dL_law_698 (by first | assumption | decide) (Nat.le_of_ble_eq_true rfl) (c8_keep (d := d + 6) hV) ?_
  rintro x1 σ1 ⟨e1, hV1, hF1⟩
  refine zi_ald2 dL_law_701 ?_
  refine zi_ald0 dL_law_702 ?_
  refine zi_ild3 dL_law_703 ?_
  refine zi_iconst (nI 1) dL_law_704 (by decide) ?_
  refine zi_iadd dL_law_705 ?_
  refine zi_xald (i + 1) dL_law_706 (by decide) (nI_add i 1) (by omega) hN ?_
  refine zi_cV1i vmX9_keep lkL_109 dL_law_707 (by first | assumption | decide) (Nat.le_of_ble_eq_true rfl) (c9_keep (d := d + 7) (hY.cg hF1)) ?_
  rintro x2 σ2 ⟨e2, hV2, hF2⟩
  refine zi_icmp_eq 738 dL_law_710 (by decide) (fun c710 => ?_) (fun c710 => ?_)
  · exact kk σ2 _ (hV1.cy hF2) hV2
  · exact absurd (e1.trans e2.symm) c710
theorem lb_goBack (hE : zj_G G) (hN : (G.2.2.2 184).1 < 2 ^ 31) (hi : i + 4 ≤ (G.2.2.2 184).1) (hV : zx_V σ A) (hY : zy_V σ A) (kk : ∀ σ2 A2, zx_V σ2 A2 → zy_V σ2 A2 → zw_W l G (d + 10) mL_law 738 [some (.ref 184), some (.ref 0), some (.ref 168), some (.int (nI i))] [] σ2 P) : zw_W l G (d + 10) mL_law 715 [some (.ref 184), some (.ref 0), some (.ref 168), some (.int (nI i))] [] σ P := by
  refine zi_ald1 dL_law_715 ?_
  refine zi_ald0 dL_law_716 ?_
  refine zi_ild3 dL_law_717 ?_
  refine zi_iconst (nI 1) dL_law_718 (by decide) ?_
  refine zi_iadd dL_law_719 ?_
  refine zi_xald (i + 1) dL_law_720 (by decide) (nI_add i 1) (by omega) hN ?_
  refine zi_cV1i vmX8_goBack lkL_110 dL_law_721 (by first | assumption | decide) (Nat.le_of_ble_eq_true rfl) (c8_goBack (d := d + 6) hV) ?_
  rintro x1 σ1 ⟨e1, hV1, hF1⟩
  refine zi_ald2 dL_law_724 ?_
  refine zi_ald0 dL_law_725 ?_
  refine zi_ild3 dL_law_726 ?_
  refine zi_iconst (nI 1) dL_law_727 (by decide) ?_
  refine zi_iadd dL_law_728 ?_
  refine zi_xald (i + 1) dL_law_729 (by decide) (nI_add i 1) (by omega) hN ?_
  refine zi_cV1i vmX9_goBack lkL_113 dL_law_730 (by first | assumption | decide) (Nat.le_of_ble_eq_true rfl) (c9_goBack (d := d + 7) (hY.cg hF1)) ?_
  rintro x2 σ2 ⟨e2, hV2, hF2⟩
  refine zi_icmp_eq 738 dL_law_733 (by decide) (fun c733 => ?_) (fun c733 => ?_)
  · exact kk σ2 _ (hV1.cy hF2) hV2
  · exact absurd (e1.trans e2.symm) c733
theorem law_loop (hE : zj_G G) (hN : (G.2.2.2 184).1 ≤ 2048) : ∀ (n i : Nat) (σ : zw_S) (A : zx_T), (G.2.2.2 184).1 ≤ i + n → i ≤ 2048 → zx_V σ A → zy_V σ A → zw_W l G (d + 10) mL_law 18 [some (.ref 184), some (.ref 0), some (.ref 168), some (.int (nI i))] [] σ (fun r _ => r = some (.int (nI 1))) := by
  intro n
  induction n with
  | zero =>
    intro i σ A h1 h2 hV hY
    refine zi_ild3 dL_law_18 ?_
    refine zi_ald0 dL_law_19 ?_
    refine zi_xlen (nI (G.2.2.2 184).1) dL_law_20 (by decide) rfl ?_
    refine zi_iconst (nI 4) dL_law_21 (by decide) ?_
    refine zi_isub dL_law_22 ?_
    refine zi_icmp_gt 744 dL_law_23 (by decide) (fun c23 => ?_) (fun c23 => ?_)
    · refine zi_iconst (nI 1) dL_law_744 (by decide) ?_
      refine zi_zret dL_law_745 rfl (by decide) ?_
      rfl
    · exact absurd (zl_lt hN (by omega) c23) (by omega)
  | succ n ih =>
    intro i σ A h1 h2 hV hY
    refine zi_ild3 dL_law_18 ?_
    refine zi_ald0 dL_law_19 ?_
    refine zi_xlen (nI (G.2.2.2 184).1) dL_law_20 (by decide) rfl ?_
    refine zi_iconst (nI 4) dL_law_21 (by decide) ?_
    refine zi_isub dL_law_22 ?_
    refine zi_icmp_gt 744 dL_law_23 (by decide) (fun c23 => ?_) (fun c23 => ?_)
    · refine zi_iconst (nI 1) dL_law_744 (by decide) ?_
      refine zi_zret dL_law_745 rfl (Or.inr rfl) ?_
      rfl
    · have c4 := zl_lt hN (by omega) c23
      refine zi_ald0 dL_law_26 ?_
      refine zi_ild3 dL_law_27 ?_
      refine zi_xald i dL_law_28 (by decide) rfl (by omega) (by omega) ?_
      refine zi_bipush (nI 31) dL_law_29 (by decide) ?_
      refine zi_iand dL_law_31 ?_
      obtain ⟨k, hk, e⟩ := zl_and ((G.2.2.2 184).2 i)
      rw [e]
      have kk : ∀ σ2 A2, zx_V σ2 A2 → zy_V σ2 A2 → zw_W l G (d + 10) mL_law 738 [some (.ref 184), some (.ref 0), some (.ref 168), some (.int (nI i))] [] σ2 (fun r _ => r = some (.int (nI 1))) := by
        intro σ2 A2 hV2 hY2
        refine zi_inc3 (nI 4) dL_law_738 (by decide) (by decide) rfl ?_
        rw [nI_add i 4]
        refine zi_goto 18 dL_law_741 (by decide) ?_
        exact ih (i + 4) σ2 A2 (by omega) (by omega) hV2 hY2
      match k, hk with
      | 0, _ => exact zi_tableIn (off := 112) 144 dL_law_32 (by decide) (by decide) (by decide) (by decide) (lb_feed hE (by omega) c4 hV hY kk)
      | 1, _ => exact zi_tableIn (off := 135) 167 dL_law_32 (by decide) (by decide) (by decide) (by decide) (lb_tell hE (by omega) c4 hV hY kk)
      | 2, _ => exact zi_tableIn (off := 148) 180 dL_law_32 (by decide) (by decide) (by decide) (by decide) (lb_fault hE (by omega) c4 hV hY kk)
      | 3, _ => exact zi_tableIn (off := 161) 193 dL_law_32 (by decide) (by decide) (by decide) (by decide) (lb_told hE (by omega) c4 hV hY kk)
      | 4, _ => exact zi_tableIn (off := 184) 216 dL_law_32 (by decide) (by decide) (by decide) (by decide) (lb_tree hE (by omega) c4 hV hY kk)
      | 5, _ => exact zi_tableIn (off := 217) 249 dL_law_32 (by decide) (by decide) (by decide) (by decide) (lb_pattern hE (by omega) c4 hV hY kk)
      | 6, _ => exact zi_tableIn (off := 250) 282 dL_law_32 (by decide) (by decide) (by decide) (by decide) (lb_same hE (by omega) c4 hV hY kk)
      | 7, _ => exact zi_tableIn (off := 283) 315 dL_law_32 (by decide) (by decide) (by decide) (by decide) (lb_count hE (by omega) c4 hV hY kk)
      | 8, _ => exact zi_tableIn (off := 307) 339 dL_law_32 (by decide) (by decide) (by decide) (by decide) (lb_undoneBy hE (by omega) c4 hV hY kk)
      | 9, _ => exact zi_tableIn (off := 331) 363 dL_law_32 (by decide) (by decide) (by decide) (by decide) (lb_graft hE (by omega) c4 hV hY kk)
      | 10, _ => exact zi_tableIn (off := 374) 406 dL_law_32 (by decide) (by decide) (by decide) (by decide) (lb_step hE (by omega) c4 hV hY kk)
      | 11, _ => exact zi_tableIn (off := 407) 439 dL_law_32 (by decide) (by decide) (by decide) (by decide) (lb_plain hE (by omega) c4 hV hY kk)
      | 12, _ => exact zi_tableIn (off := 430) 462 dL_law_32 (by decide) (by decide) (by decide) (by decide) (lb_mirror hE (by omega) c4 hV hY kk)
      | 13, _ => exact zi_tableIn (off := 453) 485 dL_law_32 (by decide) (by decide) (by decide) (by decide) (lb_take hE (by omega) c4 hV hY kk)
      | 14, _ => exact zi_tableIn (off := 476) 508 dL_law_32 (by decide) (by decide) (by decide) (by decide) (lb_fate hE (by omega) c4 hV hY kk)
      | 15, _ => exact zi_tableIn (off := 519) 551 dL_law_32 (by decide) (by decide) (by decide) (by decide) (lb_dual hE (by omega) c4 hV hY kk)
      | 16, _ => exact zi_tableIn (off := 532) 564 dL_law_32 (by decide) (by decide) (by decide) (by decide) (lb_clear hE (by omega) c4 hV hY kk)
      | 17, _ => exact zi_tableIn (off := 545) 577 dL_law_32 (by decide) (by decide) (by decide) (by decide) (lb_drift hE (by omega) c4 hV hY kk)
      | 18, _ => exact zi_tableIn (off := 568) 600 dL_law_32 (by decide) (by decide) (by decide) (by decide) (lb_undo hE (by omega) c4 hV hY kk)
      | 19, _ => exact zi_tableIn (off := 591) 623 dL_law_32 (by decide) (by decide) (by decide) (by decide) (lb_write hE (by omega) c4 hV hY kk)
      | 20, _ => exact zi_tableIn (off := 624) 656 dL_law_32 (by decide) (by decide) (by decide) (by decide) (lb_tear hE (by omega) c4 hV hY kk)
      | 21, _ => exact zi_tableIn (off := 637) 669 dL_law_32 (by decide) (by decide) (by decide) (by decide) (lb_seed hE (by omega) c4 hV hY kk)
      | 22, _ => exact zi_tableIn (off := 660) 692 dL_law_32 (by decide) (by decide) (by decide) (by decide) (lb_keep hE (by omega) c4 hV hY kk)
      | 23, _ => exact zi_tableIn (off := 683) 715 dL_law_32 (by decide) (by decide) (by decide) (by decide) (lb_goBack hE (by omega) c4 hV hY kk)
      | 24, _ => exact zi_tableOut 738 dL_law_32 (by decide) (by decide) (kk _ _ hV hY)
      | 25, _ => exact zi_tableOut 738 dL_law_32 (by decide) (by decide) (kk _ _ hV hY)
      | 26, _ => exact zi_tableOut 738 dL_law_32 (by decide) (by decide) (kk _ _ hV hY)
      | 27, _ => exact zi_tableOut 738 dL_law_32 (by decide) (by decide) (kk _ _ hV hY)
      | 28, _ => exact zi_tableOut 738 dL_law_32 (by decide) (by decide) (kk _ _ hV hY)
      | 29, _ => exact zi_tableOut 738 dL_law_32 (by decide) (by decide) (kk _ _ hV hY)
      | 30, _ => exact zi_tableOut 738 dL_law_32 (by decide) (by decide) (kk _ _ hV hY)
      | 31, _ => exact zi_tableOut 738 dL_law_32 (by decide) (by decide) (kk _ _ hV hY)
      | k + 32, h => exact absurd h (by omega)
end Z52
