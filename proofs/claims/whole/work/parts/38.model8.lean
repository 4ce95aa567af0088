/-! the model: remember, read, tell, told -/
/-- only what is remembered is another -/
def zy_M (σ τ : zw_S) : Prop := τ.2 = σ.2 ∧ (∀ o, o ≠ 168 → o ≠ 169 → τ.1 o = σ.1 o) ∧ (∀ j, j ≠ 1 → τ.1 168 j = σ.1 168 j) ∧ ∀ j, j < 34 → τ.1 (168 + 1) j = σ.1 (168 + 1) j
theorem zy_M.f {σ τ : zw_S} (h : zy_M σ τ) : zy_F σ τ := fun o ho => ⟨h.2.1 o (by omega) (by omega), by rw [h.1]⟩
theorem zy_M.w {σ τ : zw_S} (h : zy_M σ τ) {w : List Nat} {s : Int32} (hW : zy_w σ w s) : zy_w τ w s := hW.ar (h.2.2.1 12 (by decide)) (h.2.2.1 13 (by decide)) (h.2.1 _ (by decide) (by decide))
theorem zy_M.r {σ τ : zw_S} (h : zy_M σ τ) {X : zg_X} (hR : zy_R σ 0 X) : zy_R τ 0 X := hR.mv (fun k hk => h.2.2.2 _ (by omega))
theorem zy_V.m {σ τ : zw_S} {A : zx_T} {H : List zg_X} (h : zy_V σ A) (hM : zy_M σ τ) (hI : ∀ j, 714 ≤ j → τ.1 (168 + 1) j = σ.1 (168 + 1) j) (hH : zy_H τ H) : zy_V τ (A.1, H, A.2.2) := by
  obtain ⟨h1, h2, h3, h4, h5, h6, h7, h8, h9⟩ := h
  obtain ⟨q1, q2, q3, q4⟩ := id hM
  exact ⟨hM.r h1, hH, fun i hi => (h3 i hi).mv (by rw [q2 (168 + 2) (by decide) (by decide)]) (fun k hk => hI _ (by omega)), by rw [q3 2 (by decide)]; exact h4, h5.cg (q3 6 (by decide)) (q2 _ (by decide) (by decide)), by rw [q3 7 (by decide)]; exact h6, h7.cg (q3 10 (by decide)) (q2 _ (by decide) (by decide)) (q2 _ (by decide) (by decide)), h8, by rw [q3 3 (by decide)]; exact h9⟩
theorem zy_H.push {υ : zw_S} {H : List zg_X} {X : zg_X} (hl : H.length < 20) (h1 : υ.1 168 1 = nI (H.length + 1)) (hX : zy_R υ (34 * (H.length + 1)) X) (hH : ∀ j, j < H.length → zy_R υ (34 * (H.length - j)) (H.getD j zy_dX)) : zy_H υ (X :: H) := by
  refine ⟨by rw [List.length_cons]; omega, by rw [List.length_cons]; exact h1, fun j hj => ?_⟩
  rw [List.length_cons] at hj ⊢
  cases j with
  | zero => exact hX
  | succ j =>
    rw [List.getD_cons_succ, show H.length + 1 - (j + 1) = H.length - j by omega]
    exact hH j (by omega)
section Z38
variable {l : Launch} {G : zw_G} {d : Nat} {σ : zw_S} {A : zx_T} {w : List Nat} {s : Int32} {fa go : Nat → Nat}
theorem l9_rem47 {n : Nat} {x1 : Option Value} {τ : zw_S} (hn : n < 20) (h1 : τ.1 168 1 = nI n) : zw_W l G (d + 2) mX9_remember 47 [some (.ref 168), x1] [] τ (fun r υ => r = none ∧ υ.1 168 1 = nI (n + 1) ∧ (∀ k, k < 34 → υ.1 (168 + 1) (34 * (n + 1) + k) = τ.1 (168 + 1) k) ∧ (∀ j, (j < 34 * (n + 1) ∨ 34 * (n + 1) + 34 ≤ j) → υ.1 (168 + 1) j = τ.1 (168 + 1) j) ∧ zy_M τ υ) := by
  refine zi_ald0 dX9_remember_47 ?_
  refine zi_iconst (nI 0) dX9_remember_48 (by decide) ?_
  refine zi_bipush (nI 34) dX9_remember_49 (by decide) ?_
  refine zi_ald0 dX9_remember_51 ?_
  refine zi_getI dX9_remember_52 flX9_183 rfl (by first | assumption | decide) ?_
  refine zi_iconst (nI 1) dX9_remember_55 (by decide) ?_
  refine zi_iadd dX9_remember_56 ?_
  rw [h1, nI_add]
  refine zi_imul dX9_remember_57 ?_
  rw [pk_mul]
  refine zi_cV2v vmX9_copyRow lkX9_208 dX9_remember_58 (by first | assumption | decide) (Nat.le_of_ble_eq_true rfl) (c9_copyRow (x := 0) (y := 34 * (n + 1)) (by omega) (by omega) (by omega)) ?_
  rintro τ1 ⟨q1, q2, hF1⟩
  have e1 : τ1.1 168 1 = nI n := by rw [hF1.2 168 (by decide)]; exact h1
  refine zi_ald0 dX9_remember_61 ?_
  refine zi_dupr dX9_remember_62 ?_
  refine zi_getI dX9_remember_63 flX9_183 rfl (by first | assumption | decide) ?_
  refine zi_iconst (nI 1) dX9_remember_66 (by decide) ?_
  refine zi_iadd dX9_remember_67 ?_
  rw [e1, nI_add]
  refine zi_putI dX9_remember_68 flX9_183 fp_9_1 rfl (by first | assumption | decide) ?_
  refine zi_ret dX9_remember_71 rfl ?_
  refine ⟨rfl, zs_same _ _ _ _, fun k hk => ?_, fun j hj => ?_, ?_⟩
  · rw [zs_obj (by decide), q1 k hk, Nat.zero_add]
  · rw [zs_obj (by decide), q2 j hj]
  · refine ⟨hF1.1, fun o a b => ?_, fun j hj => ?_, fun j hj => ?_⟩
    · rw [zs_obj a]; exact hF1.2 o b
    · rw [zs_slot hj, hF1.2 168 (by decide)]
    · rw [zs_obj (by decide), q2 j (by omega)]
theorem l9_rem11 {P : Option Value → zw_S → Prop} (hk : ∀ τ x1, zw_F (fun o => o = 168 + 1) σ τ → (∀ r, 1 ≤ r → r < 20 → ∀ m, m < 34 → τ.1 (168 + 1) (34 * r + m) = σ.1 (168 + 1) (34 * (r + 1) + m)) → (∀ j, (j < 34 ∨ 680 ≤ j) → τ.1 (168 + 1) j = σ.1 (168 + 1) j) → zw_W l G (d + 2) mX9_remember 37 [some (.ref 168), some (.int x1)] [] τ P) : ∀ n i τ, i + n = 20 → 1 ≤ i → zw_F (fun o => o = 168 + 1) σ τ → (∀ r, 1 ≤ r → r < i → ∀ m, m < 34 → τ.1 (168 + 1) (34 * r + m) = σ.1 (168 + 1) (34 * (r + 1) + m)) → (∀ j, (j < 34 ∨ 34 * i ≤ j) → τ.1 (168 + 1) j = σ.1 (168 + 1) j) → zw_W l G (d + 2) mX9_remember 11 [some (.ref 168), some (.int (nI i))] [] τ P := by
  intro n
  induction n with
  | zero =>
    intro i τ hi h1 hF hr hj
    obtain rfl : i = 20 := by omega
    refine zi_ild1 dX9_remember_11 ?_
    refine zi_bipush (nI 20) dX9_remember_12 (by decide) ?_
    refine zi_icmp_ge 37 dX9_remember_14 (by decide) (fun c14 => ?_) (fun c14 => ?_)
    · exact hk τ _ hF hr hj
    · exact absurd (by decide) c14
  | succ n ih =>
    intro i τ hi h1 hF hr hj
    refine zi_ild1 dX9_remember_11 ?_
    refine zi_bipush (nI 20) dX9_remember_12 (by decide) ?_
    refine zi_icmp_ge 37 dX9_remember_14 (by decide) (fun c14 => ?_) (fun c14 => ?_)
    · rw [zn_le (by omega) (by omega)] at c14; omega
    · refine zi_ald0 dX9_remember_17 ?_
      refine zi_bipush (nI 34) dX9_remember_18 (by decide) ?_
      refine zi_ild1 dX9_remember_20 ?_
      refine zi_iconst (nI 1) dX9_remember_21 (by decide) ?_
      refine zi_iadd dX9_remember_22 ?_
      refine zi_imul dX9_remember_23 ?_
      refine zi_bipush (nI 34) dX9_remember_24 (by decide) ?_
      refine zi_ild1 dX9_remember_26 ?_
      refine zi_imul dX9_remember_27 ?_
      rw [nI_add, pk_mul, pk_mul]
      refine zi_cV2v vmX9_copyRow lkX9_208 dX9_remember_28 (by first | assumption | decide) (Nat.le_of_ble_eq_true rfl) (c9_copyRow (x := 34 * (i + 1)) (y := 34 * i) (by omega) (by omega) (by omega)) ?_
      rintro τ1 ⟨q1, q2, hF1⟩
      refine zi_inc1 (nI 1) dX9_remember_31 (by decide) (Nat.le_of_ble_eq_true rfl) rfl ?_
      refine zi_goto 11 dX9_remember_34 (by decide) ?_
      rw [nI_add]
      refine ih (i + 1) τ1 (by omega) (by omega) (hF.tr hF1 (fun _ q => q) (fun _ q => q)) (fun r a b m hm => ?_) (fun j q => ?_)
      · by_cases e : r = i
        · subst e
          rw [q1 m hm, hj _ (by omega)]
        · rw [q2 _ (by omega), hr r a (by omega) m hm]
      · rw [q2 j (by omega), hj j (by omega)]
theorem c9_remember (hV : zy_V σ A) : zw_Tv l G (d + 2) mX9_remember [.ref 168] σ (fun υ => zy_V υ (zx_dd A A.1) ∧ zy_M σ υ) := by
  obtain ⟨v1, ⟨v2, v3, v4⟩, -⟩ := id hV
  by_cases h20 : A.2.1.length = 20
  · refine zw_enter2 (L := [some _, none]) (by decide) (Nat.le_of_ble_eq_true rfl) rfl ?_
    refine zi_ald0 dX9_remember_0 ?_
    refine zi_getI dX9_remember_1 flX9_183 rfl (by first | assumption | decide) ?_
    refine zi_bipush (nI 20) dX9_remember_4 (by decide) ?_
    rw [v3, h20]
    refine zi_icmp_ne 47 dX9_remember_6 (by decide) (fun c6 => ?_) (fun c6 => ?_)
    · exact absurd rfl c6
    · refine zi_iconst (nI 1) dX9_remember_9 (by decide) ?_
      refine zi_ist1 dX9_remember_10 (Nat.le_of_ble_eq_true rfl) rfl ?_
      refine l9_rem11 (σ := σ) ?_ 19 1 σ rfl (Nat.le_refl 1) zw_F.rf (fun r a b => by omega) (fun j _ => rfl)
      intro τ1 y1 hF1 hr1 hj1
      have e1 : τ1.1 168 1 = nI 20 := by rw [hF1.2 168 (by decide), v3, h20]
      refine zi_ald0 dX9_remember_37 ?_
      refine zi_dupr dX9_remember_38 ?_
      refine zi_getI dX9_remember_39 flX9_183 rfl (by first | assumption | decide) ?_
      refine zi_iconst (nI 1) dX9_remember_42 (by decide) ?_
      refine zi_isub dX9_remember_43 ?_
      rw [e1, pk_sub (a := 20) (b := 1) (by decide)]
      refine zi_putI dX9_remember_44 flX9_183 fp_9_1 rfl (by first | assumption | decide) ?_
      refine zw_W.mono (l9_rem47 (n := 19) (by decide) (zs_same _ _ _ _)) ?_
      rintro r υ ⟨e, k1, k2, k3, k4⟩
      have hM : zy_M σ υ := by
        refine ⟨k4.1.trans hF1.1, fun o a b => ?_, fun j hj => ?_, fun j hj => ?_⟩
        · rw [k4.2.1 o a b, zs_obj a]; exact hF1.2 o b
        · rw [k4.2.2.1 j hj, zs_slot hj, hF1.2 168 (by decide)]
        · rw [k4.2.2.2 j hj, zs_obj (by decide)]; exact hj1 j (by omega)
      refine ⟨e, ?_, hM⟩
      have hl : (A.2.1.take 19).length = 19 := by rw [List.length_take]; omega
      refine hV.m hM (fun j hj => ?_) (H := A.1 :: A.2.1.take 19) (zy_H.push (by rw [hl]; decide) (by rw [hl]; exact k1) ?_ (fun j hj => ?_))
      · rw [k3 j (by omega), zs_obj (by decide)]; exact hj1 j (by omega)
      · rw [hl]
        refine v1.mv (fun k hk => ?_)
        rw [k2 k hk, zs_obj (by decide), Nat.zero_add]; exact hj1 k (by omega)
      · rw [hl] at hj ⊢
        have := v4 j (by omega)
        rw [show (A.2.1.take 19).getD j zy_dX = A.2.1.getD j zy_dX by rw [List.getD_eq_getElem?_getD, List.getElem?_take, if_pos hj, List.getD_eq_getElem?_getD]]
        refine this.mv (fun k hk => ?_)
        rw [k3 _ (by omega), zs_obj (by decide), hr1 (19 - j) (by omega) (by omega) k hk, h20, show 19 - j + 1 = 20 - j by omega]
  · have hl : A.2.1.length < 20 := by omega
    refine zw_enter2 (L := [some _, none]) (by decide) (Nat.le_of_ble_eq_true rfl) rfl ?_
    refine zi_ald0 dX9_remember_0 ?_
    refine zi_getI dX9_remember_1 flX9_183 rfl (by first | assumption | decide) ?_
    refine zi_bipush (nI 20) dX9_remember_4 (by decide) ?_
    rw [v3]
    refine zi_icmp_ne 47 dX9_remember_6 (by decide) (fun c6 => ?_) (fun c6 => ?_)
    · refine zw_W.mono (l9_rem47 (n := A.2.1.length) hl v3) ?_
      rintro r υ ⟨e, k1, k2, k3, hM⟩
      refine ⟨e, ?_, hM⟩
      have et : (A.1 :: A.2.1).take 20 = A.1 :: A.2.1 := List.take_of_length_le (by rw [List.length_cons]; omega)
      unfold zx_dd
      rw [et]
      refine hV.m hM (fun j hj => ?_) (zy_H.push hl k1 ?_ (fun j hj => ?_))
      · exact k3 j (by omega)
      · refine v1.mv (fun k hk => ?_)
        rw [k2 k hk, Nat.zero_add]
      · exact (v4 j hj).mv (fun k hk => k3 _ (by omega))
    · rw [zn_eq (by omega) (by omega)] at c6; omega
theorem c9_feed (hV : zy_V σ A) {c : Int32} : zw_Ti l G (d + 2) mX9_feed [.ref 168, .int c] σ (fun x υ => x = (zx_feed A c).1 ∧ zy_V υ (zx_feed A c).2 ∧ zy_F σ υ) := by
  obtain ⟨h1, h2, h3, h4, h5, h6, h7, h8, h9⟩ := id hV
  obtain ⟨t1, t2, t3, t4⟩ := id h5
  rcases zn_case c (n := 256) (by decide) with ho | ⟨k, hk, rfl⟩
  · have e : zx_feed A c = (zx_OU, A) := by unfold zx_feed; rw [zx_ix_out (by decide) ho]
    rw [e]
    refine zw_enter2 (L := [some _, some _]) (by decide) (Nat.le_of_ble_eq_true rfl) rfl ?_
    refine zi_ild1 dX9_feed_0 ?_
    refine zi_iconst (nI 0) dX9_feed_1 (by decide) ?_
    refine zi_sipush (nI 255) dX9_feed_2 (by decide) ?_
    refine zi_cS3i smX9_in lkX9_54 dX9_feed_5 (Nat.le_of_ble_eq_true rfl) (c9_in_n (m := 255) (by decide)) ?_
    rintro _ _ ⟨rfl, rfl⟩
    rw [zx_ix_out (by decide) ho]
    refine zi_if_ne 14 dX9_feed_8 (by decide) (fun c8 => ?_) (fun c8 => ?_)
    · exact absurd rfl c8
    · refine zi_ldc dX9_feed_11 kcX9_148 ?_
      refine zi_iret dX9_feed_13 rfl ?_
      exact ⟨_, rfl, rfl, hV, zy_F.rf⟩
  · have e : zx_feed A (nI k) = if A.2.2.2.1.length = 30 then (zx_FU, A) else (nI (A.2.2.2.1.length + 1), A.1, A.2.1, A.2.2.1, A.2.2.2.1 ++ [k], A.2.2.2.2) := by unfold zx_feed; rw [zx_ix_in (by decide) hk]
    rw [e]
    refine zw_enter2 (L := [some _, some _]) (by decide) (Nat.le_of_ble_eq_true rfl) rfl ?_
    refine zi_ild1 dX9_feed_0 ?_
    refine zi_iconst (nI 0) dX9_feed_1 (by decide) ?_
    refine zi_sipush (nI 255) dX9_feed_2 (by decide) ?_
    refine zi_cS3i smX9_in lkX9_54 dX9_feed_5 (Nat.le_of_ble_eq_true rfl) (c9_in_n (m := 255) (by decide)) ?_
    rintro _ _ ⟨rfl, rfl⟩
    rw [zx_ix_in (by decide) hk, if_pos (by rfl)]
    refine zi_if_ne 14 dX9_feed_8 (by decide) (fun c8 => ?_) (fun c8 => ?_)
    · refine zi_ald0 dX9_feed_14 ?_
      refine zi_getI dX9_feed_15 flX9_149 rfl (by first | assumption | decide) ?_
      refine zi_bipush (nI 30) dX9_feed_18 (by decide) ?_
      refine zi_icmp_ne 26 dX9_feed_20 (by decide) (fun c20 => ?_) (fun c20 => ?_)
      · rw [t3, zn_eq (by omega) (by omega)] at c20
        refine zi_ald0 dX9_feed_26 ?_
        refine zi_getR dX9_feed_27 flX9_16 rfl (by first | assumption | decide) ?_
        refine zi_ald0 dX9_feed_30 ?_
        refine zi_getI dX9_feed_31 flX9_149 rfl (by first | assumption | decide) ?_
        refine zi_ild1 dX9_feed_34 ?_
        refine zi_iastN A.2.2.2.1.length dX9_feed_35 (by first | assumption | decide) t3 (zy_d3 (by omega)) (by decide) ?_
        refine zi_ald0 dX9_feed_36 ?_
        refine zi_dupr dX9_feed_37 ?_
        refine zi_getI dX9_feed_38 flX9_149 rfl (by first | assumption | decide) ?_
        refine zi_iconst (nI 1) dX9_feed_41 (by decide) ?_
        refine zi_iadd dX9_feed_42 ?_
        rw [zs_obj (by decide), t3, nI_add]
        refine zi_putI dX9_feed_43 flX9_149 fp_9_6 rfl (by first | assumption | decide) ?_
        refine zi_ald0 dX9_feed_46 ?_
        refine zi_getI dX9_feed_47 flX9_149 rfl (by first | assumption | decide) ?_
        refine zi_iret dX9_feed_50 rfl ?_
        rw [if_neg c20, zs_same]
        refine ⟨_, rfl, rfl, ⟨?_, ⟨h2.1, ?_, ?_⟩, ?_, ?_, ⟨?_, ?_, ?_, fun j hj => ?_⟩, ?_, ?_, h8, ?_⟩, (zy_F.rf.pI (by decide)).pI (by decide)⟩
        · exact h1.cg (by rw [zs_obj (by decide), zs_obj (by decide)])
        · rw [zs_slot (by decide), zs_obj (by decide)]; exact h2.2.1
        · exact fun j hj => (h2.2.2 j hj).cg (by rw [zs_obj (by decide), zs_obj (by decide)])
        · exact fun i hi => (h3 i hi).mv (by rw [zs_obj (by decide), zs_obj (by decide)]) (fun m hm => by rw [zs_obj (by decide), zs_obj (by decide)])
        · rw [zs_slot (by decide), zs_obj (by decide)]; exact h4
        · show (A.2.2.2.1 ++ [k]).length ≤ 30
          rw [List.length_append, List.length_singleton]; omega
        · intro x hx
          rcases List.mem_append.mp hx with r | r
          · exact t2 x r
          · rw [List.mem_singleton.mp r]; exact hk
        · rw [zs_same]
          show _ = nI (A.2.2.2.1 ++ [k]).length
          rw [List.length_append, List.length_singleton]
        · replace hj : j < (A.2.2.2.1 ++ [k]).length := hj
          rw [List.length_append, List.length_singleton] at hj
          rw [zs_obj (by decide)]
          show _ = nI ((A.2.2.2.1 ++ [k]).getD j 0)
          by_cases e : j = A.2.2.2.1.length
          · subst e
            rw [zs_same, zl_app_hi (Nat.le_refl _), Nat.sub_self]; rfl
          · rw [zs_slot e, zl_app_lo (by omega)]
            exact t4 j (by omega)
        · rw [zs_slot (by decide), zs_obj (by decide)]; exact h6
        · exact h7.cg (by rw [zs_slot (by decide), zs_obj (by decide)]) (by rw [zs_obj (by decide), zs_obj (by decide)]) (by rw [zs_obj (by decide), zs_obj (by decide)])
        · rw [zs_slot (by decide), zs_obj (by decide)]; exact h9
      · refine zi_ldc dX9_feed_23 kcX9_152 ?_
        refine zi_iret dX9_feed_25 rfl ?_
        rw [t3, zn_eq (by omega) (by omega)] at c20
        rw [if_pos c20]
        exact ⟨_, rfl, rfl, hV, zy_F.rf⟩
    · exact absurd c8 (by decide)
/-- only the word and the fault's place are others -/
def zy_Z (σ τ : zw_S) : Prop := τ.2 = σ.2 ∧ (∀ o, o ≠ 168 → o ≠ 174 → τ.1 o = σ.1 o) ∧ ∀ j, j ≠ 7 → j ≠ 12 → τ.1 168 j = σ.1 168 j
theorem zy_Z.rf : zy_Z σ σ := ⟨rfl, fun _ _ _ => rfl, fun _ _ _ => rfl⟩
theorem zy_Z.fld {τ : zw_S} {j : Nat} {v : Int32} (h : zy_Z σ τ) (hj : j = 7 ∨ j = 12) : zy_Z σ (zw_pI τ 168 j v) := ⟨h.1, fun o a b => by rw [zs_obj a]; exact h.2.1 o a b, fun i a b => by rw [zs_slot (by omega)]; exact h.2.2 i a b⟩
theorem zy_Z.arr {τ : zw_S} {j : Nat} {v : Int32} (h : zy_Z σ τ) : zy_Z σ (zw_pI τ (168 + 6) j v) := ⟨h.1, fun o a b => by rw [zs_obj (by omega)]; exact h.2.1 o a b, fun i a b => by rw [zs_obj (by decide)]; exact h.2.2 i a b⟩
theorem zy_w.app {τ : zw_S} {x : Nat} (hW : zy_w τ w s) (hl : w.length < 13) (hx : x < 3) : zy_w (zw_pI (zw_pI τ (168 + 6) w.length (nI x)) 168 12 (nI (w.length + 1))) (w ++ [x]) s := by
  refine ⟨by rw [List.length_append, List.length_singleton]; omega, fun y hy => ?_, ?_, ?_, fun i hi => ?_⟩
  · rcases List.mem_append.mp hy with r | r
    · exact hW.2.1 y r
    · rw [List.mem_singleton.mp r]; exact hx
  · rw [zs_same, List.length_append, List.length_singleton]
  · rw [zs_slot (by decide), zs_obj (by decide)]; exact hW.2.2.2.1
  · rw [List.length_append, List.length_singleton] at hi
    rw [zs_obj (by decide)]
    by_cases e : i = w.length
    · rw [e, zs_same, zl_app_hi (Nat.le_refl _), Nat.sub_self]; rfl
    · rw [zs_slot e, zl_app_lo (by omega)]; exact hW.2.2.2.2 i (by omega)
theorem l9_read59a {m n i : Nat} {τ : zw_S} {P : Option Value → zw_S → Prop} (hl : w.length < 13) (hm : m < 100) (hn : n ≤ 6) (hi : i ≤ 30) (hW : τ.1 168 12 = nI w.length) (hk : zw_W l G (d + 1) mX9_read 11 [some (.ref 168), some (.int (nI m)), some (.int (nI n)), some (.int (nI (i + 1))), some (.int (nI 46))] [] (zw_pI (zw_pI τ (168 + 6) w.length (nI 0)) 168 12 (nI (w.length + 1))) P) : zw_W l G (d + 1) mX9_read 59 [some (.ref 168), some (.int (nI (m + 1))), some (.int (nI n)), some (.int (nI i)), some (.int (nI 46))] [] τ P := by
  refine zi_ild4 dX9_read_59 ?_
  refine zi_bipush (nI 46) dX9_read_61 (by decide) ?_
  refine zi_icmp_eq 74 dX9_read_63 (by decide) (fun c63 => ?_) (fun c63 => ?_)
  · refine zi_ild2 dX9_read_74 ?_
    refine zi_ild4 dX9_read_75 ?_
    refine zi_bipush (nI 46) dX9_read_77 (by decide) ?_
    refine zi_icmp_ne 86 dX9_read_79 (by decide) (fun c79 => ?_) (fun c79 => ?_)
    · exact absurd rfl c79
    · refine zi_iconst (nI 0) dX9_read_82 (by decide) ?_
      refine zi_goto 87 dX9_read_83 (by decide) ?_
      refine zi_iadd dX9_read_87 ?_
      refine zi_ist2 dX9_read_88 (Nat.le_of_ble_eq_true rfl) rfl ?_
      refine zi_ild1 dX9_read_89 ?_
      refine zi_ild4 dX9_read_90 ?_
      refine zi_bipush (nI 46) dX9_read_92 (by decide) ?_
      refine zi_icmp_ne 101 dX9_read_94 (by decide) (fun c94 => ?_) (fun c94 => ?_)
      · exact absurd rfl c94
      · refine zi_iconst (-1) dX9_read_97 (by decide) ?_
        refine zi_goto 102 dX9_read_98 (by decide) ?_
        refine zi_iadd dX9_read_102 ?_
        refine zi_ist1 dX9_read_103 (Nat.le_of_ble_eq_true rfl) rfl ?_
        refine zi_ald0 dX9_read_104 ?_
        refine zi_getR dX9_read_105 flX9_29 rfl (by first | assumption | decide) ?_
        refine zi_ald0 dX9_read_108 ?_
        refine zi_getI dX9_read_109 flX9_58 rfl (by first | assumption | decide) ?_
        rw [hW]
        refine zi_ild4 dX9_read_112 ?_
        refine zi_bipush (nI 46) dX9_read_114 (by decide) ?_
        refine zi_icmp_ne 123 dX9_read_116 (by decide) (fun c116 => ?_) (fun c116 => ?_)
        · exact absurd rfl c116
        · refine zi_iconst (nI 0) dX9_read_119 (by decide) ?_
          refine zi_goto 130 dX9_read_120 (by decide) ?_
          refine zi_iastN w.length dX9_read_130 (by first | assumption | decide) rfl (zy_b6 (by omega)) (by decide) ?_
          refine zi_ald0 dX9_read_131 ?_
          refine zi_dupr dX9_read_132 ?_
          refine zi_getI dX9_read_133 flX9_58 rfl (by first | assumption | decide) ?_
          refine zi_iconst (nI 1) dX9_read_136 (by decide) ?_
          refine zi_iadd dX9_read_137 ?_
          rw [zs_obj (by decide), hW, nI_add w.length 1]
          refine zi_putI dX9_read_138 flX9_58 fp_9_12 rfl (by first | assumption | decide) ?_
          refine zi_inc3 (nI 1) dX9_read_141 (by decide) (Nat.le_of_ble_eq_true rfl) rfl ?_
          refine zi_goto 11 dX9_read_144 (by decide) ?_
          rw [nI_add n 0, nI_add i 1, pk_m1]
          exact hk
  · exact absurd rfl c63
theorem l9_read59b {m n i x : Nat} {τ : zw_S} {P : Option Value → zw_S → Prop} (hl : w.length < 13) (hx : x = 1 ∨ x = 2) (hm : m < 100) (hn : n ≤ 6) (hi : i ≤ 30) (hW : τ.1 168 12 = nI w.length) (h6 : n = 6 → P (some (.int (nI 2))) τ) (hk : n ≠ 6 → zw_W l G (d + 1) mX9_read 11 [some (.ref 168), some (.int (nI (m + 1))), some (.int (nI (n + 1))), some (.int (nI (i + 1))), some (.int (nI (96 + x)))] [] (zw_pI (zw_pI τ (168 + 6) w.length (nI x)) 168 12 (nI (w.length + 1))) P) : zw_W l G (d + 1) mX9_read 59 [some (.ref 168), some (.int (nI m)), some (.int (nI n)), some (.int (nI i)), some (.int (nI (96 + x)))] [] τ P := by
  refine zi_ild4 dX9_read_59 ?_
  refine zi_bipush (nI 46) dX9_read_61 (by decide) ?_
  refine zi_icmp_eq 74 dX9_read_63 (by decide) (fun c63 => ?_) (fun c63 => ?_)
  · rw [zn_eq (by omega) (by omega)] at c63; omega
  · refine zi_ild2 dX9_read_66 ?_
    refine zi_bipush (nI 6) dX9_read_67 (by decide) ?_
    refine zi_icmp_ne 74 dX9_read_69 (by decide) (fun c69 => ?_) (fun c69 => ?_)
    · rw [zn_eq (by omega) (by omega)] at c69
      refine zi_ild2 dX9_read_74 ?_
      refine zi_ild4 dX9_read_75 ?_
      refine zi_bipush (nI 46) dX9_read_77 (by decide) ?_
      refine zi_icmp_ne 86 dX9_read_79 (by decide) (fun c79 => ?_) (fun c79 => ?_)
      · refine zi_iconst (nI 1) dX9_read_86 (by decide) ?_
        refine zi_iadd dX9_read_87 ?_
        refine zi_ist2 dX9_read_88 (Nat.le_of_ble_eq_true rfl) rfl ?_
        refine zi_ild1 dX9_read_89 ?_
        refine zi_ild4 dX9_read_90 ?_
        refine zi_bipush (nI 46) dX9_read_92 (by decide) ?_
        refine zi_icmp_ne 101 dX9_read_94 (by decide) (fun c94 => ?_) (fun c94 => ?_)
        · refine zi_iconst (nI 1) dX9_read_101 (by decide) ?_
          refine zi_iadd dX9_read_102 ?_
          refine zi_ist1 dX9_read_103 (Nat.le_of_ble_eq_true rfl) rfl ?_
          refine zi_ald0 dX9_read_104 ?_
          refine zi_getR dX9_read_105 flX9_29 rfl (by first | assumption | decide) ?_
          refine zi_ald0 dX9_read_108 ?_
          refine zi_getI dX9_read_109 flX9_58 rfl (by first | assumption | decide) ?_
          rw [hW]
          refine zi_ild4 dX9_read_112 ?_
          refine zi_bipush (nI 46) dX9_read_114 (by decide) ?_
          refine zi_icmp_ne 123 dX9_read_116 (by decide) (fun c116 => ?_) (fun c116 => ?_)
          · refine zi_ild4 dX9_read_123 ?_
            refine zi_bipush (nI 97) dX9_read_125 (by decide) ?_
            refine zi_isub dX9_read_127 ?_
            refine zi_iconst (nI 1) dX9_read_128 (by decide) ?_
            refine zi_iadd dX9_read_129 ?_
            rw [pk_sub (by omega), nI_add (96 + x - 97) 1, show 96 + x - 97 + 1 = x by omega]
            refine zi_iastN w.length dX9_read_130 (by first | assumption | decide) rfl (zy_b6 (by omega)) (by decide) ?_
            refine zi_ald0 dX9_read_131 ?_
            refine zi_dupr dX9_read_132 ?_
            refine zi_getI dX9_read_133 flX9_58 rfl (by first | assumption | decide) ?_
            refine zi_iconst (nI 1) dX9_read_136 (by decide) ?_
            refine zi_iadd dX9_read_137 ?_
            rw [zs_obj (by decide), hW, nI_add w.length 1]
            refine zi_putI dX9_read_138 flX9_58 fp_9_12 rfl (by first | assumption | decide) ?_
            refine zi_inc3 (nI 1) dX9_read_141 (by decide) (Nat.le_of_ble_eq_true rfl) rfl ?_
            refine zi_goto 11 dX9_read_144 (by decide) ?_
            rw [nI_add m 1, nI_add n 1, nI_add i 1]
            exact hk c69
          · rw [zn_eq (by omega) (by omega)] at c116; omega
        · rw [zn_eq (by omega) (by omega)] at c94; omega
      · rw [zn_eq (by omega) (by omega)] at c79; omega
    · refine zi_iconst (nI 2) dX9_read_72 (by decide) ?_
      refine zi_iret dX9_read_73 rfl ?_
      rw [zn_eq (by omega) (by omega)] at c69
      exact h6 c69
theorem l9_read {T : List Nat} (hT : zy_Tx σ T) : ∀ k i m n w τ x4, i + k = T.length → w.length + m = 2 * n + 1 → n ≤ 6 → zy_w τ w s → zy_Z σ τ → zw_W l G (d + 1) mX9_read 11 [some (.ref 168), some (.int (nI m)), some (.int (nI n)), some (.int (nI i)), x4] [] τ (fun x υ => ∃ y, x = some (.int y) ∧ y = nI (zx_rd (T.drop i) i m n w).1 ∧ υ.1 168 7 = zp_oI (zx_rd (T.drop i) i m n w).2.1 ∧ ((zx_rd (T.drop i) i m n w).1 = 0 → zy_w υ (zx_rd (T.drop i) i m n w).2.2 s) ∧ zy_Z σ υ) := by
  obtain ⟨t1, t2, t3, t4⟩ := id hT
  intro k
  induction k with
  | zero =>
    intro i m n w τ x4 hi hw hn hV hZ
    rw [List.drop_of_length_le (by omega)]
    have ei : T.length = i := by omega
    have h9 : τ.1 168 6 = nI T.length := by rw [hZ.2.2 6 (by decide) (by decide)]; exact t3
    refine zi_ild3 dX9_read_11 ?_
    refine zi_ald0 dX9_read_12 ?_
    refine zi_getI dX9_read_13 flX9_149 rfl (by first | assumption | decide) ?_
    refine zi_icmp_ge 147 dX9_read_16 (by decide) (fun c16 => ?_) (fun c16 => ?_)
    · refine zi_ald0 dX9_read_147 ?_
      refine zi_ild1 dX9_read_148 ?_
      refine zi_if_ne 156 dX9_read_149 (by decide) (fun c149 => ?_) (fun c149 => ?_)
      · rw [zn_0, zn_eq (by omega) (by omega)] at c149
        refine zi_ald0 dX9_read_156 ?_
        refine zi_getI dX9_read_157 flX9_149 rfl (by first | assumption | decide) ?_
        refine zi_putI dX9_read_160 flX9_19 fp_9_7 rfl (by first | assumption | decide) ?_
        refine zi_ild1 dX9_read_163 ?_
        refine zi_if_ne 171 dX9_read_164 (by decide) (fun c164 => ?_) (fun c164 => ?_)
        · rw [zn_0, zn_eq (by omega) (by omega)] at c164
          refine zi_iconst (nI 1) dX9_read_171 (by decide) ?_
          refine zi_iret dX9_read_172 rfl ?_
          unfold zx_rd
          first
          | (exfalso; omega)
          | (rw [if_pos c149]
             exact ⟨_, rfl, rfl, zs_same _ _ _ _, fun _ => hV.ar (zs_slot (by decide)) (zs_slot (by decide)) (zs_obj (by decide)), hZ.fld (Or.inl rfl)⟩)
          | (rw [if_neg c149]
             refine ⟨_, rfl, rfl, ?_, fun e => Nat.noConfusion e, hZ.fld (Or.inl rfl)⟩
             rw [zs_same, h9, ei]; rfl)
        · rw [zn_0, zn_eq (by omega) (by omega)] at c164
          refine zi_iconst (nI 0) dX9_read_167 (by decide) ?_
          refine zi_goto 172 dX9_read_168 (by decide) ?_
          refine zi_iret dX9_read_172 rfl ?_
          unfold zx_rd
          first
          | (exfalso; omega)
          | (rw [if_pos c149]
             exact ⟨_, rfl, rfl, zs_same _ _ _ _, fun _ => hV.ar (zs_slot (by decide)) (zs_slot (by decide)) (zs_obj (by decide)), hZ.fld (Or.inl rfl)⟩)
          | (rw [if_neg c149]
             refine ⟨_, rfl, rfl, ?_, fun e => Nat.noConfusion e, hZ.fld (Or.inl rfl)⟩
             rw [zs_same, h9, ei]; rfl)
      · rw [zn_0, zn_eq (by omega) (by omega)] at c149
        refine zi_iconst (-1) dX9_read_152 (by decide) ?_
        refine zi_goto 160 dX9_read_153 (by decide) ?_
        refine zi_putI dX9_read_160 flX9_19 fp_9_7 rfl (by first | assumption | decide) ?_
        refine zi_ild1 dX9_read_163 ?_
        refine zi_if_ne 171 dX9_read_164 (by decide) (fun c164 => ?_) (fun c164 => ?_)
        · rw [zn_0, zn_eq (by omega) (by omega)] at c164
          refine zi_iconst (nI 1) dX9_read_171 (by decide) ?_
          refine zi_iret dX9_read_172 rfl ?_
          unfold zx_rd
          first
          | (exfalso; omega)
          | (rw [if_pos c149]
             exact ⟨_, rfl, rfl, zs_same _ _ _ _, fun _ => hV.ar (zs_slot (by decide)) (zs_slot (by decide)) (zs_obj (by decide)), hZ.fld (Or.inl rfl)⟩)
          | (rw [if_neg c149]
             refine ⟨_, rfl, rfl, ?_, fun e => Nat.noConfusion e, hZ.fld (Or.inl rfl)⟩
             rw [zs_same, h9, ei]; rfl)
        · rw [zn_0, zn_eq (by omega) (by omega)] at c164
          refine zi_iconst (nI 0) dX9_read_167 (by decide) ?_
          refine zi_goto 172 dX9_read_168 (by decide) ?_
          refine zi_iret dX9_read_172 rfl ?_
          unfold zx_rd
          first
          | (exfalso; omega)
          | (rw [if_pos c149]
             exact ⟨_, rfl, rfl, zs_same _ _ _ _, fun _ => hV.ar (zs_slot (by decide)) (zs_slot (by decide)) (zs_obj (by decide)), hZ.fld (Or.inl rfl)⟩)
          | (rw [if_neg c149]
             refine ⟨_, rfl, rfl, ?_, fun e => Nat.noConfusion e, hZ.fld (Or.inl rfl)⟩
             rw [zs_same, h9, ei]; rfl)
    · rw [h9, zn_le (by omega) (by omega)] at c16; omega
  | succ k ih =>
    intro i m n w τ x4 hi hw hn hV hZ
    have hil : i < T.length := by omega
    have hc : T.getD i 0 < 256 := by rw [zl_getD hil]; exact t2 _ (List.getElem_mem hil)
    have ht4 : τ.1 (168 + 3) i = nI (T.getD i 0) := by
      rw [hZ.2.1 (168 + 3) (by decide) (by decide)]; exact t4 i hil
    have h9 : τ.1 168 6 = nI T.length := by rw [hZ.2.2 6 (by decide) (by decide)]; exact t3
    have ed := zl_drop hil
    have hV2 : zy_w (zw_pI τ 168 7 (nI i)) w s := hV.ar (zs_slot (by decide)) (zs_slot (by decide)) (zs_obj (by decide))
    have hZ2 : zy_Z σ (zw_pI τ 168 7 (nI i)) := hZ.fld (Or.inl rfl)
    rw [ed]
    refine zi_ild3 dX9_read_11 ?_
    refine zi_ald0 dX9_read_12 ?_
    refine zi_getI dX9_read_13 flX9_149 rfl (by first | assumption | decide) ?_
    refine zi_icmp_ge 147 dX9_read_16 (by decide) (fun c16 => ?_) (fun c16 => ?_)
    · rw [h9, zn_le (by omega) (by omega)] at c16; omega
    · refine zi_ald0 dX9_read_19 ?_
      refine zi_getR dX9_read_20 flX9_16 rfl (by first | assumption | decide) ?_
      refine zi_ild3 dX9_read_23 ?_
      refine zi_ialdN i dX9_read_24 (by first | assumption | decide) rfl (zy_d3 (by omega)) (by decide) ?_
      rw [ht4]
      refine zi_ist4 dX9_read_25 (Nat.le_of_ble_eq_true rfl) rfl ?_
      refine zi_ald0 dX9_read_27 ?_
      refine zi_ild3 dX9_read_28 ?_
      refine zi_putI dX9_read_29 flX9_19 fp_9_7 rfl (by first | assumption | decide) ?_
      refine zi_ild1 dX9_read_32 ?_
      refine zi_if_eq 57 dX9_read_33 (by decide) (fun c33 => ?_) (fun c33 => ?_)
      · refine zi_iconst (nI 1) dX9_read_57 (by decide) ?_
        refine zi_iret dX9_read_58 rfl ?_
        have e : zx_rd (T.getD i 0 :: T.drop (i + 1)) i m n w = (1, some i, w) := by
          unfold zx_rd
          first
          | (rw [zn_eq (by omega) (by omega)] at c40 c47 c54
             rw [show zx_fg (T.getD i 0) = none by unfold zx_fg; rw [if_neg c40, if_neg c47, if_neg c54]])
          | (rw [zn_0, zn_eq (by omega) (by omega)] at c33
             cases zx_fg (T.getD i 0) with
             | none => rfl
             | some x => simp only; rw [if_pos c33])
        rw [e]
        exact ⟨_, rfl, rfl, zs_same _ _ _ _, fun e => Nat.noConfusion e, hZ2⟩
      · rw [zn_0, zn_eq (by omega) (by omega)] at c33
        refine zi_ild4 dX9_read_36 ?_
        refine zi_bipush (nI 46) dX9_read_38 (by decide) ?_
        refine zi_icmp_eq 59 dX9_read_40 (by decide) (fun c40 => ?_) (fun c40 => ?_)
        · first
          | (rw [zn_eq (by omega) (by omega)] at c54
             have hx : zx_fg (T.getD i 0) = some 2 := by rw [c54]; rfl
             have e1 : n = 6 → zx_rd (T.getD i 0 :: T.drop (i + 1)) i m n w = (2, some i, w) := fun q => by
               rw [zx_rd, hx]; simp only; rw [if_neg c33, if_neg (by decide), if_pos q]
             have e2 : n ≠ 6 → zx_rd (T.getD i 0 :: T.drop (i + 1)) i m n w = zx_rd (T.drop (i + 1)) (i + 1) (m + 1) (n + 1) (w ++ [2]) := fun q => by
               rw [zx_rd, hx]; simp only; rw [if_neg c33, if_neg (by decide), if_neg q]
             rw [show nI (T.getD i 0) = nI (96 + 2) by rw [c54]]
             refine l9_read59b (w := w) (by omega) (Or.inr rfl) (by omega) hn (by omega) hV2.2.2.1 (fun q => ?_) (fun q => ?_)
             · rw [e1 q]
               exact ⟨_, rfl, rfl, zs_same _ _ _ _, fun e => Nat.noConfusion e, hZ2⟩
             · rw [e2 q]
               exact ih (i + 1) (m + 1) (n + 1) (w ++ [2]) _ _ (by omega) (by rw [List.length_append, List.length_singleton]; omega) (by omega) (hV2.app (by omega) (by decide)) (hZ2.arr.fld (Or.inr rfl)))
          | (rw [zn_eq (by omega) (by omega)] at c47
             have hx : zx_fg (T.getD i 0) = some 1 := by rw [c47]; rfl
             have e1 : n = 6 → zx_rd (T.getD i 0 :: T.drop (i + 1)) i m n w = (2, some i, w) := fun q => by
               rw [zx_rd, hx]; simp only; rw [if_neg c33, if_neg (by decide), if_pos q]
             have e2 : n ≠ 6 → zx_rd (T.getD i 0 :: T.drop (i + 1)) i m n w = zx_rd (T.drop (i + 1)) (i + 1) (m + 1) (n + 1) (w ++ [1]) := fun q => by
               rw [zx_rd, hx]; simp only; rw [if_neg c33, if_neg (by decide), if_neg q]
             rw [show nI (T.getD i 0) = nI (96 + 1) by rw [c47]]
             refine l9_read59b (w := w) (by omega) (Or.inl rfl) (by omega) hn (by omega) hV2.2.2.1 (fun q => ?_) (fun q => ?_)
             · rw [e1 q]
               exact ⟨_, rfl, rfl, zs_same _ _ _ _, fun e => Nat.noConfusion e, hZ2⟩
             · rw [e2 q]
               exact ih (i + 1) (m + 1) (n + 1) (w ++ [1]) _ _ (by omega) (by rw [List.length_append, List.length_singleton]; omega) (by omega) (hV2.app (by omega) (by decide)) (hZ2.arr.fld (Or.inr rfl)))
          | (rw [zn_eq (by omega) (by omega)] at c40
             have hx : zx_fg (T.getD i 0) = some 0 := by rw [c40]; rfl
             obtain ⟨m', rfl⟩ : ∃ m', m = m' + 1 := ⟨m - 1, by omega⟩
             have e : zx_rd (T.getD i 0 :: T.drop (i + 1)) i (m' + 1) n w = zx_rd (T.drop (i + 1)) (i + 1) m' n (w ++ [0]) := by
               rw [zx_rd, hx]; simp only; rw [if_neg c33, if_pos trivial, Nat.add_sub_cancel]
             rw [e, show nI (T.getD i 0) = nI 46 by rw [c40]]
             refine l9_read59a (w := w) (by omega) (by omega) hn (by omega) hV2.2.2.1 ?_
             exact ih (i + 1) m' n (w ++ [0]) _ _ (by omega) (by rw [List.length_append, List.length_singleton]; omega) hn (hV2.app (by omega) (by decide)) (hZ2.arr.fld (Or.inr rfl)))
        · refine zi_ild4 dX9_read_43 ?_
          refine zi_bipush (nI 97) dX9_read_45 (by decide) ?_
          refine zi_icmp_eq 59 dX9_read_47 (by decide) (fun c47 => ?_) (fun c47 => ?_)
          · first
            | (rw [zn_eq (by omega) (by omega)] at c54
               have hx : zx_fg (T.getD i 0) = some 2 := by rw [c54]; rfl
               have e1 : n = 6 → zx_rd (T.getD i 0 :: T.drop (i + 1)) i m n w = (2, some i, w) := fun q => by
                 rw [zx_rd, hx]; simp only; rw [if_neg c33, if_neg (by decide), if_pos q]
               have e2 : n ≠ 6 → zx_rd (T.getD i 0 :: T.drop (i + 1)) i m n w = zx_rd (T.drop (i + 1)) (i + 1) (m + 1) (n + 1) (w ++ [2]) := fun q => by
                 rw [zx_rd, hx]; simp only; rw [if_neg c33, if_neg (by decide), if_neg q]
               rw [show nI (T.getD i 0) = nI (96 + 2) by rw [c54]]
               refine l9_read59b (w := w) (by omega) (Or.inr rfl) (by omega) hn (by omega) hV2.2.2.1 (fun q => ?_) (fun q => ?_)
               · rw [e1 q]
                 exact ⟨_, rfl, rfl, zs_same _ _ _ _, fun e => Nat.noConfusion e, hZ2⟩
               · rw [e2 q]
                 exact ih (i + 1) (m + 1) (n + 1) (w ++ [2]) _ _ (by omega) (by rw [List.length_append, List.length_singleton]; omega) (by omega) (hV2.app (by omega) (by decide)) (hZ2.arr.fld (Or.inr rfl)))
            | (rw [zn_eq (by omega) (by omega)] at c47
               have hx : zx_fg (T.getD i 0) = some 1 := by rw [c47]; rfl
               have e1 : n = 6 → zx_rd (T.getD i 0 :: T.drop (i + 1)) i m n w = (2, some i, w) := fun q => by
                 rw [zx_rd, hx]; simp only; rw [if_neg c33, if_neg (by decide), if_pos q]
               have e2 : n ≠ 6 → zx_rd (T.getD i 0 :: T.drop (i + 1)) i m n w = zx_rd (T.drop (i + 1)) (i + 1) (m + 1) (n + 1) (w ++ [1]) := fun q => by
                 rw [zx_rd, hx]; simp only; rw [if_neg c33, if_neg (by decide), if_neg q]
               rw [show nI (T.getD i 0) = nI (96 + 1) by rw [c47]]
               refine l9_read59b (w := w) (by omega) (Or.inl rfl) (by omega) hn (by omega) hV2.2.2.1 (fun q => ?_) (fun q => ?_)
               · rw [e1 q]
                 exact ⟨_, rfl, rfl, zs_same _ _ _ _, fun e => Nat.noConfusion e, hZ2⟩
               · rw [e2 q]
                 exact ih (i + 1) (m + 1) (n + 1) (w ++ [1]) _ _ (by omega) (by rw [List.length_append, List.length_singleton]; omega) (by omega) (hV2.app (by omega) (by decide)) (hZ2.arr.fld (Or.inr rfl)))
            | (rw [zn_eq (by omega) (by omega)] at c40
               have hx : zx_fg (T.getD i 0) = some 0 := by rw [c40]; rfl
               obtain ⟨m', rfl⟩ : ∃ m', m = m' + 1 := ⟨m - 1, by omega⟩
               have e : zx_rd (T.getD i 0 :: T.drop (i + 1)) i (m' + 1) n w = zx_rd (T.drop (i + 1)) (i + 1) m' n (w ++ [0]) := by
                 rw [zx_rd, hx]; simp only; rw [if_neg c33, if_pos trivial, Nat.add_sub_cancel]
               rw [e, show nI (T.getD i 0) = nI 46 by rw [c40]]
               refine l9_read59a (w := w) (by omega) (by omega) hn (by omega) hV2.2.2.1 ?_
               exact ih (i + 1) m' n (w ++ [0]) _ _ (by omega) (by rw [List.length_append, List.length_singleton]; omega) hn (hV2.app (by omega) (by decide)) (hZ2.arr.fld (Or.inr rfl)))
          · refine zi_ild4 dX9_read_50 ?_
            refine zi_bipush (nI 98) dX9_read_52 (by decide) ?_
            refine zi_icmp_eq 59 dX9_read_54 (by decide) (fun c54 => ?_) (fun c54 => ?_)
            · first
              | (rw [zn_eq (by omega) (by omega)] at c54
                 have hx : zx_fg (T.getD i 0) = some 2 := by rw [c54]; rfl
                 have e1 : n = 6 → zx_rd (T.getD i 0 :: T.drop (i + 1)) i m n w = (2, some i, w) := fun q => by
                   rw [zx_rd, hx]; simp only; rw [if_neg c33, if_neg (by decide), if_pos q]
                 have e2 : n ≠ 6 → zx_rd (T.getD i 0 :: T.drop (i + 1)) i m n w = zx_rd (T.drop (i + 1)) (i + 1) (m + 1) (n + 1) (w ++ [2]) := fun q => by
                   rw [zx_rd, hx]; simp only; rw [if_neg c33, if_neg (by decide), if_neg q]
                 rw [show nI (T.getD i 0) = nI (96 + 2) by rw [c54]]
                 refine l9_read59b (w := w) (by omega) (Or.inr rfl) (by omega) hn (by omega) hV2.2.2.1 (fun q => ?_) (fun q => ?_)
                 · rw [e1 q]
                   exact ⟨_, rfl, rfl, zs_same _ _ _ _, fun e => Nat.noConfusion e, hZ2⟩
                 · rw [e2 q]
                   exact ih (i + 1) (m + 1) (n + 1) (w ++ [2]) _ _ (by omega) (by rw [List.length_append, List.length_singleton]; omega) (by omega) (hV2.app (by omega) (by decide)) (hZ2.arr.fld (Or.inr rfl)))
              | (rw [zn_eq (by omega) (by omega)] at c47
                 have hx : zx_fg (T.getD i 0) = some 1 := by rw [c47]; rfl
                 have e1 : n = 6 → zx_rd (T.getD i 0 :: T.drop (i + 1)) i m n w = (2, some i, w) := fun q => by
                   rw [zx_rd, hx]; simp only; rw [if_neg c33, if_neg (by decide), if_pos q]
                 have e2 : n ≠ 6 → zx_rd (T.getD i 0 :: T.drop (i + 1)) i m n w = zx_rd (T.drop (i + 1)) (i + 1) (m + 1) (n + 1) (w ++ [1]) := fun q => by
                   rw [zx_rd, hx]; simp only; rw [if_neg c33, if_neg (by decide), if_neg q]
                 rw [show nI (T.getD i 0) = nI (96 + 1) by rw [c47]]
                 refine l9_read59b (w := w) (by omega) (Or.inl rfl) (by omega) hn (by omega) hV2.2.2.1 (fun q => ?_) (fun q => ?_)
                 · rw [e1 q]
                   exact ⟨_, rfl, rfl, zs_same _ _ _ _, fun e => Nat.noConfusion e, hZ2⟩
                 · rw [e2 q]
                   exact ih (i + 1) (m + 1) (n + 1) (w ++ [1]) _ _ (by omega) (by rw [List.length_append, List.length_singleton]; omega) (by omega) (hV2.app (by omega) (by decide)) (hZ2.arr.fld (Or.inr rfl)))
              | (rw [zn_eq (by omega) (by omega)] at c40
                 have hx : zx_fg (T.getD i 0) = some 0 := by rw [c40]; rfl
                 obtain ⟨m', rfl⟩ : ∃ m', m = m' + 1 := ⟨m - 1, by omega⟩
                 have e : zx_rd (T.getD i 0 :: T.drop (i + 1)) i (m' + 1) n w = zx_rd (T.drop (i + 1)) (i + 1) m' n (w ++ [0]) := by
                   rw [zx_rd, hx]; simp only; rw [if_neg c33, if_pos trivial, Nat.add_sub_cancel]
                 rw [e, show nI (T.getD i 0) = nI 46 by rw [c40]]
                 refine l9_read59a (w := w) (by omega) (by omega) hn (by omega) hV2.2.2.1 ?_
                 exact ih (i + 1) m' n (w ++ [0]) _ _ (by omega) (by rw [List.length_append, List.length_singleton]; omega) hn (hV2.app (by omega) (by decide)) (hZ2.arr.fld (Or.inr rfl)))
            · refine zi_iconst (nI 1) dX9_read_57 (by decide) ?_
              refine zi_iret dX9_read_58 rfl ?_
              have e : zx_rd (T.getD i 0 :: T.drop (i + 1)) i m n w = (1, some i, w) := by
                unfold zx_rd
                first
                | (rw [zn_eq (by omega) (by omega)] at c40 c47 c54
                   rw [show zx_fg (T.getD i 0) = none by unfold zx_fg; rw [if_neg c40, if_neg c47, if_neg c54]])
                | (rw [zn_0, zn_eq (by omega) (by omega)] at c33
                   cases zx_fg (T.getD i 0) with
                   | none => rfl
                   | some x => simp only; rw [if_pos c33])
              rw [e]
              exact ⟨_, rfl, rfl, zs_same _ _ _ _, fun e => Nat.noConfusion e, hZ2⟩
theorem c9_read {T : List Nat} (hT : zy_Tx σ T) : zw_Ti l G (d + 1) mX9_read [.ref 168] σ (fun y υ => y = nI (zx_rd T 0 1 0 []).1 ∧ υ.1 168 7 = zp_oI (zx_rd T 0 1 0 []).2.1 ∧ ((zx_rd T 0 1 0 []).1 = 0 → zy_w υ (zx_rd T 0 1 0 []).2.2 (σ.1 168 13)) ∧ zy_Z σ υ) := by
  refine zw_enter2 (L := [some _, none, none, none, none]) (by decide) (Nat.le_of_ble_eq_true rfl) rfl ?_
  refine zi_iconst (nI 1) dX9_read_0 (by decide) ?_
  refine zi_ist1 dX9_read_1 (Nat.le_of_ble_eq_true rfl) rfl ?_
  refine zi_iconst (nI 0) dX9_read_2 (by decide) ?_
  refine zi_ist2 dX9_read_3 (Nat.le_of_ble_eq_true rfl) rfl ?_
  refine zi_ald0 dX9_read_4 ?_
  refine zi_iconst (nI 0) dX9_read_5 (by decide) ?_
  refine zi_putI dX9_read_6 flX9_58 fp_9_12 rfl (by first | assumption | decide) ?_
  refine zi_iconst (nI 0) dX9_read_9 (by decide) ?_
  refine zi_ist3 dX9_read_10 (Nat.le_of_ble_eq_true rfl) rfl ?_
  exact l9_read hT T.length 0 1 0 [] _ _ (by omega) rfl (by decide) ⟨by decide, fun x hx => absurd hx List.not_mem_nil, zs_same _ _ _ _, zs_slot (by decide), fun i hi => absurd hi (Nat.not_lt_zero _)⟩ (zy_Z.rf.fld (Or.inr rfl))
theorem c9_tell (hV : zy_V σ A) : zw_Ti l G (d + 4) mX9_tell [.ref 168] σ (fun x υ => x = (zx_tell A).1 ∧ zy_V υ (zx_tell A).2 ∧ zy_F σ υ) := by
  obtain ⟨h1, h2, h3, h4, h5, h6, h7, h8, h9⟩ := id hV
  have hl8 := h1.1
  obtain ⟨r1, r2, r3⟩ := zx_rd0 A.2.2.2.1
  refine zw_enter2 (L := [some _, none]) (by decide) (Nat.le_of_ble_eq_true rfl) rfl ?_
  refine zi_ald0 dX9_tell_0 ?_
  refine zi_getR dX9_tell_1 flX9_7 rfl (by first | assumption | decide) ?_
  refine zi_iconst (nI 0) dX9_tell_4 (by decide) ?_
  refine zi_ialdN 0 dX9_tell_5 (by first | assumption | decide) rfl (zy_b1 (by omega)) (by decide) ?_
  rw [h1.2.2.1]
  refine zi_bipush (nI 8) dX9_tell_6 (by decide) ?_
  refine zi_icmp_ne 14 dX9_tell_8 (by decide) (fun c8 => ?_) (fun c8 => ?_)
  · rw [zn_eq (by omega) (by omega)] at c8
    refine zi_ald0 dX9_tell_14 ?_
    refine zi_cV0i vmX9_read lkX9_153 dX9_tell_15 (by first | assumption | decide) (Nat.le_of_ble_eq_true rfl) (c9_read h5) ?_
    rintro _ τ1 ⟨rfl, f7, fw, hZ1⟩
    have hV2 : zy_V (zw_pI τ1 168 6 (nI 0)) (A.1, A.2.1, A.2.2.1, [], (zx_rd A.2.2.2.1 0 1 0 []).2.1, A.2.2.2.2.2) := by
      have o1 : ∀ o, o ≠ 168 → o ≠ 174 → (zw_pI τ1 168 6 (nI 0)).1 o = σ.1 o := fun o a b => by rw [zs_obj a]; exact hZ1.2.1 o a b
      have o2 : ∀ j, j ≠ 6 → j ≠ 7 → j ≠ 12 → (zw_pI τ1 168 6 (nI 0)).1 168 j = σ.1 168 j := fun j a b c => by rw [zs_slot a]; exact hZ1.2.2 j b c
      exact ⟨h1.cg (o1 _ (by decide) (by decide)), ⟨h2.1, by rw [o2 1 (by decide) (by decide) (by decide)]; exact h2.2.1, fun j hj => (h2.2.2 j hj).cg (o1 _ (by decide) (by decide))⟩, fun i hi => (h3 i hi).mv (by rw [o1 _ (by decide) (by decide)]) (fun m hm => by rw [o1 _ (by decide) (by decide)]), by rw [o2 2 (by decide) (by decide) (by decide)]; exact h4, ⟨by simp, by simp, zs_same _ _ _ _, fun j hj => by simp at hj⟩, by rw [zs_slot (by decide)]; exact f7, h7.cg (o2 10 (by decide) (by decide) (by decide)) (o1 _ (by decide) (by decide)) (o1 _ (by decide) (by decide)), h8, by rw [o2 3 (by decide) (by decide) (by decide)]; exact h9⟩
    have hF2 : zy_F σ (zw_pI τ1 168 6 (nI 0)) := zy_F.pI (fun o ho => ⟨hZ1.2.1 o (by omega) (by omega), by rw [hZ1.1]⟩) (by decide)
    refine zi_ist1 dX9_tell_18 (Nat.le_of_ble_eq_true rfl) rfl ?_
    refine zi_ald0 dX9_tell_19 ?_
    refine zi_iconst (nI 0) dX9_tell_20 (by decide) ?_
    refine zi_putI dX9_tell_21 flX9_149 fp_9_6 rfl (by first | assumption | decide) ?_
    refine zi_ild1 dX9_tell_24 ?_
    refine zi_if_eq 33 dX9_tell_25 (by decide) (fun c25 => ?_) (fun c25 => ?_)
    · rw [zn_0, zn_eq (by omega) (by omega)] at c25
      have e : zx_tell A = (nI A.1.1.length, zx_dd (A.1, A.2.1, A.2.2.1, [], (zx_rd A.2.2.2.1 0 1 0 []).2.1, A.2.2.2.2.2) (A.1.1 ++ [((zx_rd A.2.2.2.1 0 1 0 []).2.2, nI 1)], A.1.2)) := by unfold zx_tell; rw [if_neg c8, if_pos c25]
      rw [e]
      have hw := fw c25
      have hV3 := hV2.s (zy_S.rf.fld (i := 13) (v := nI 1) (by omega))
      have hw3 : zy_w (zw_pI (zw_pI τ1 168 6 (nI 0)) 168 13 (nI 1)) (zx_rd A.2.2.2.1 0 1 0 []).2.2 (nI 1) := ⟨hw.1, hw.2.1, by rw [zs_slot (by decide), zs_slot (by decide)]; exact hw.2.2.1, zs_same _ _ _ _, fun i hi => by rw [zs_obj (by decide), zs_obj (by decide)]; exact hw.2.2.2.2 i hi⟩
      refine zi_ald0 dX9_tell_33 ?_
      refine zi_iconst (nI 1) dX9_tell_34 (by decide) ?_
      refine zi_putI dX9_tell_35 flX9_61 fp_9_13 rfl (by first | assumption | decide) ?_
      refine zi_ald0 dX9_tell_38 ?_
      refine zi_cV0v vmX9_remember lkX9_156 dX9_tell_39 (by first | assumption | decide) (Nat.le_of_ble_eq_true rfl) (c9_remember hV3) ?_
      rintro τ4 ⟨hV4, hM4⟩
      refine zi_ald0 dX9_tell_42 ?_
      refine zi_cV0i vmX9_shelve lkX9_159 dX9_tell_43 (by first | assumption | decide) (Nat.le_of_ble_eq_true rfl) (c9_shelve hV4.1 (show A.1.1.length < 8 by omega) (hM4.w hw3) (r3 c25) (Or.inl rfl)) ?_
      rintro _ τ5 ⟨rfl, hR5, hQ5⟩
      refine zi_iret dX9_tell_46 rfl ?_
      exact ⟨_, rfl, rfl, hV4.q hQ5 hR5, ((hF2.pI (by decide)).tr hM4.f).tr hQ5.f⟩
    · rw [zn_0, zn_eq (by omega) (by omega)] at c25
      refine zi_bipush (-10) dX9_tell_28 (by decide) ?_
      refine zi_ild1 dX9_tell_30 ?_
      refine zi_isub dX9_tell_31 ?_
      refine zi_iret dX9_tell_32 rfl ?_
      have e : zx_tell A = (-10 - nI (zx_rd A.2.2.2.1 0 1 0 []).1, A.1, A.2.1, A.2.2.1, [], (zx_rd A.2.2.2.1 0 1 0 []).2.1, A.2.2.2.2.2) := by unfold zx_tell; rw [if_neg c8, if_neg c25]
      rw [e]
      exact ⟨_, rfl, rfl, hV2, hF2⟩
  · refine zi_ldc dX9_tell_11 kcX9_152 ?_
    refine zi_iret dX9_tell_13 rfl ?_
    rw [zn_eq (by omega) (by omega)] at c8
    have e : zx_tell A = (zx_FU, A) := by unfold zx_tell; rw [if_pos c8]
    rw [e]
    exact ⟨_, rfl, rfl, hV, zy_F.rf⟩
theorem c9_fault (hV : zy_V σ A) : zw_Ti l G (d + 1) mX9_fault [.ref 168] σ (fun x υ => σ = υ ∧ x = zp_oI A.2.2.2.2.1) := by
  refine zw_enter2 (L := [some _]) (by decide) (Nat.le_of_ble_eq_true rfl) rfl ?_
  refine zi_ald0 dX9_fault_0 ?_
  refine zi_getI dX9_fault_1 flX9_19 rfl (by first | assumption | decide) ?_
  refine zi_iret dX9_fault_4 rfl ?_
  exact ⟨_, rfl, rfl, hV.2.2.2.2.2.1⟩
end Z38
