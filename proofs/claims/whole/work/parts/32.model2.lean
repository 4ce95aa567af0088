/-! the model: places and steps -/
/-- the word that is built -/
def zy_o (σ : zw_S) (v : List Nat) : Prop := v.length ≤ 16 ∧ σ.1 168 15 = nI v.length ∧ ∀ i, i < v.length → σ.1 (168 + 7) i = nI (v.getD i 0)
theorem zy_w.ar {σ τ : zw_S} {w : List Nat} {s : Int32} (h : zy_w σ w s) (h1 : τ.1 168 12 = σ.1 168 12) (h2 : τ.1 168 13 = σ.1 168 13) (h3 : τ.1 (168 + 6) = σ.1 (168 + 6)) : zy_w τ w s := ⟨h.1, h.2.1, by rw [h1]; exact h.2.2.1, by rw [h2]; exact h.2.2.2.1, fun i hi => by rw [h3]; exact h.2.2.2.2 i hi⟩
section Z32
variable {l : Launch} {G : zw_G} {d : Nat} {σ : zw_S} {w : List Nat} {s : Int32} {fa go : Nat → Nat}
theorem c9_branchOf (hW : zy_w σ w s) {n sd m : Nat} (hsd : sd < 2) (hn : n < w.length) (hr : zt_rd (1 + m) (w.drop (n + 1))) : zw_Ti l G (d + 2) mX9_branchOf [.ref 168, .int (nI n), .int (nI sd)] σ (fun x τ => σ = τ ∧ x = nI (zt_br w n sd)) := by
  refine zw_enter2 (L := [some _, some _, some _]) (by decide) (Nat.le_of_ble_eq_true rfl) rfl ?_
  refine zi_ild2 dX9_branchOf_0 ?_
  refine zi_if_ne 10 dX9_branchOf_1 (by decide) (fun c1 => ?_) (fun c1 => ?_)
  · rw [zn_0, zn_eq (by omega) (by omega)] at c1
    refine zi_ald0 dX9_branchOf_10 ?_
    refine zi_ild1 dX9_branchOf_11 ?_
    refine zi_iconst (nI 1) dX9_branchOf_12 (by decide) ?_
    refine zi_iadd dX9_branchOf_13 ?_
    rw [nI_add]
    refine zi_cV1i vmX9_behind lkX9_68 dX9_branchOf_14 (by first | assumption | decide) (Nat.le_of_ble_eq_true rfl) (c9_behind hW (show n + 1 ≤ w.length by omega) hr) ?_
    rintro _ _ ⟨rfl, rfl⟩
    refine zi_iret dX9_branchOf_17 rfl ?_
    refine ⟨_, rfl, rfl, ?_⟩
    unfold zt_br
    first
    | (rw [if_pos c1, nI_add]; done)
    | (rw [if_neg c1]; done)
  · rw [zn_0, zn_eq (by omega) (by omega)] at c1
    refine zi_ild1 dX9_branchOf_4 ?_
    refine zi_iconst (nI 1) dX9_branchOf_5 (by decide) ?_
    refine zi_iadd dX9_branchOf_6 ?_
    refine zi_goto 17 dX9_branchOf_7 (by decide) ?_
    refine zi_iret dX9_branchOf_17 rfl ?_
    refine ⟨_, rfl, rfl, ?_⟩
    unfold zt_br
    first
    | (rw [if_pos c1, nI_add]; done)
    | (rw [if_neg c1]; done)
theorem zt_node_rd {n m : Nat} (hr : zt_rd m (w.drop n)) (hn : n < w.length) (h0 : w.getD n 0 ≠ 0) : ∃ k, zt_rd (2 + k) (w.drop (n + 1)) ∧ m = k + 1 := by
  rw [zl_drop hn] at hr
  obtain ⟨x, hx⟩ : ∃ x, w.getD n 0 = x + 1 := ⟨w.getD n 0 - 1, by omega⟩
  rw [hx] at hr
  cases m with
  | zero => exact hr.elim
  | succ k => exact ⟨k, by rw [Nat.add_comm]; exact hr, rfl⟩
theorem c9_patternAt (hW : zy_w σ w s) (hw : zt_rd 1 w) {k : Nat} (hk : k / 2 < w.length) : zw_Ti l G (d + 3) mX9_patternAt [.ref 168, .int (nI (k / 2)), .int (nI (k % 2))] σ (fun x τ => σ = τ ∧ x = zp_gI (zt_pat w k)) := by
  have h13 := hW.1
  have hx := zl_getD_lt hW.2.1 (k / 2)
  obtain ⟨j, hj⟩ := zt_wd_drop hw (show k / 2 ≤ w.length by omega)
  refine zw_enter2 (L := [some _, some _, some _, none]) (by decide) (Nat.le_of_ble_eq_true rfl) rfl ?_
  refine zi_ald0 dX9_patternAt_0 ?_
  refine zi_getR dX9_patternAt_1 flX9_29 rfl (by first | assumption | decide) ?_
  refine zi_ild1 dX9_patternAt_4 ?_
  refine zi_ialdN (k / 2) dX9_patternAt_5 (by first | assumption | decide) rfl (zy_b6 (by omega)) (by decide) ?_
  rw [hW.2.2.2.2 _ hk]
  refine zi_if_ne 11 dX9_patternAt_6 (by decide) (fun c6 => ?_) (fun c6 => ?_)
  · rw [zn_0, zn_eq (by omega) (by omega)] at c6
    obtain ⟨m, hm, -⟩ := zt_node_rd hj hk c6
    have hb : zt_br w (k / 2) (k % 2) < w.length := by
      have hl1 := zt_rd_ne (show zt_rd (1 + m + 1) (w.drop (k / 2 + 1)) by rw [show 1 + m + 1 = 2 + m by omega]; exact hm)
      rw [List.length_drop] at hl1
      unfold zt_br
      split
      · omega
      · have := (zt_rd_split (w.drop (k / 2 + 1)) 1 (m + 1) (by rw [show 1 + (m + 1) = 2 + m by omega]; exact hm)).2
        have := zt_rd_ne this
        rw [List.length_drop, List.length_drop] at this
        omega
    have hy := zl_getD_lt hW.2.1 (zt_br w (k / 2) (k % 2))
    refine zi_ald0 dX9_patternAt_11 ?_
    refine zi_getR dX9_patternAt_12 flX9_29 rfl (by first | assumption | decide) ?_
    refine zi_ald0 dX9_patternAt_15 ?_
    refine zi_ild1 dX9_patternAt_16 ?_
    refine zi_ild2 dX9_patternAt_17 ?_
    refine zi_cV2i vmX9_branchOf lkX9_72 dX9_patternAt_18 (by first | assumption | decide) (Nat.le_of_ble_eq_true rfl) (c9_branchOf hW (show k % 2 < 2 by omega) hk (show zt_rd (1 + (m + 1)) (w.drop (k / 2 + 1)) by rw [show 1 + (m + 1) = 2 + m by omega]; exact hm)) ?_
    rintro _ _ ⟨rfl, rfl⟩
    refine zi_ialdN (zt_br w (k / 2) (k % 2)) dX9_patternAt_21 (by first | assumption | decide) rfl (zy_b6 (by omega)) (by decide) ?_
    rw [hW.2.2.2.2 _ hb]
    refine zi_ist3 dX9_patternAt_22 (Nat.le_of_ble_eq_true rfl) rfl ?_
    refine zi_ild3 dX9_patternAt_23 ?_
    refine zi_if_ne 31 dX9_patternAt_24 (by decide) (fun c24 => ?_) (fun c24 => ?_)
    · rw [zn_0, zn_eq (by omega) (by omega)] at c24
      refine zi_iconst (nI 4) dX9_patternAt_31 (by decide) ?_
      refine zi_ald0 dX9_patternAt_32 ?_
      refine zi_getR dX9_patternAt_33 flX9_29 rfl (by first | assumption | decide) ?_
      refine zi_ild1 dX9_patternAt_36 ?_
      refine zi_ialdN (k / 2) dX9_patternAt_37 (by first | assumption | decide) rfl (zy_b6 (by omega)) (by decide) ?_
      rw [hW.2.2.2.2 _ hk]
      refine zi_iconst (nI 1) dX9_patternAt_38 (by decide) ?_
      refine zi_isub dX9_patternAt_39 ?_
      refine zi_imul dX9_patternAt_40 ?_
      refine zi_iconst (nI 2) dX9_patternAt_41 (by decide) ?_
      refine zi_ild3 dX9_patternAt_42 ?_
      refine zi_iconst (nI 1) dX9_patternAt_43 (by decide) ?_
      refine zi_isub dX9_patternAt_44 ?_
      refine zi_imul dX9_patternAt_45 ?_
      refine zi_iadd dX9_patternAt_46 ?_
      refine zi_ild2 dX9_patternAt_47 ?_
      refine zi_iadd dX9_patternAt_48 ?_
      refine zi_iret dX9_patternAt_49 rfl ?_
      refine ⟨_, rfl, rfl, ?_⟩
      unfold zt_pat
      rw [if_neg c6]
      first
      | (rw [if_pos c24]; rfl)
      | (rw [if_neg c24, zp_gI_lt (by omega), pk_sub (by omega), pk_sub (by omega), pk_mul, pk_mul, nI_add, nI_add])
    · rw [zn_0, zn_eq (by omega) (by omega)] at c24
      refine zi_iconst (-1) dX9_patternAt_27 (by decide) ?_
      refine zi_goto 49 dX9_patternAt_28 (by decide) ?_
      refine zi_iret dX9_patternAt_49 rfl ?_
      refine ⟨_, rfl, rfl, ?_⟩
      unfold zt_pat
      rw [if_neg c6]
      first
      | (rw [if_pos c24]; rfl)
      | (rw [if_neg c24, zp_gI_lt (by omega), pk_sub (by omega), pk_sub (by omega), pk_mul, pk_mul, nI_add, nI_add])
  · rw [zn_0, zn_eq (by omega) (by omega)] at c6
    refine zi_iconst (-1) dX9_patternAt_9 (by decide) ?_
    refine zi_iret dX9_patternAt_10 rfl ?_
    refine ⟨_, rfl, rfl, ?_⟩
    unfold zt_pat
    rw [if_pos c6]; rfl
theorem c9_isPlace (hW : zy_w σ w s) (hw : zt_rd 1 w) (hR : zy_r σ 0 fa go) {k : Nat} (hk : k / 2 < w.length) : zw_Ti l G (d + 4) mX9_isPlace [.ref 168, .int (nI (k / 2)), .int (nI (k % 2))] σ (fun x τ => σ = τ ∧ x = if zt_bi fa w k then nI 1 else nI 0) := by
  refine zw_enter2 (L := [some _, some _, some _, none]) (by decide) (Nat.le_of_ble_eq_true rfl) rfl ?_
  refine zi_ald0 dX9_isPlace_0 ?_
  refine zi_ild1 dX9_isPlace_1 ?_
  refine zi_ild2 dX9_isPlace_2 ?_
  refine zi_cV2i vmX9_patternAt lkX9_76 dX9_isPlace_3 (by first | assumption | decide) (Nat.le_of_ble_eq_true rfl) (c9_patternAt hW hw hk) ?_
  rintro _ _ ⟨rfl, rfl⟩
  refine zi_ist3 dX9_isPlace_6 (Nat.le_of_ble_eq_true rfl) rfl ?_
  refine zi_ild3 dX9_isPlace_7 ?_
  refine zi_iconst (-1) dX9_isPlace_8 (by decide) ?_
  refine zi_icmp_eq 28 dX9_isPlace_9 (by decide) (fun c9 => ?_) (fun c9 => ?_)
  · refine zi_iconst (nI 0) dX9_isPlace_28 (by decide) ?_
    refine zi_zret dX9_isPlace_29 rfl (by decide) ?_
    refine ⟨_, rfl, rfl, ?_⟩
    first
    | (rw [zp_gI_m1] at c9
       rw [if_neg (fun q => by have := (zt_bi_lt q).1; omega)]; done)
    | (rw [zn_0, zn_eq (by omega) (by omega)] at c21
       rw [if_neg (fun q => (zt_bi_lt q).2 c21)]; done)
    | (rw [zn_0, zn_eq (by omega) (by omega)] at c21
       rw [if_pos (zt_bi_iff.mpr (by rw [if_pos hp]; exact c21))]; done)
  · rw [zp_gI_m1] at c9
    have hp : zt_pat w k < 8 := by omega
    have hf := (hR _ hp).1
    rw [zp_gI_lt hp]
    refine zi_ald0 dX9_isPlace_12 ?_
    refine zi_getR dX9_isPlace_13 flX9_7 rfl (by first | assumption | decide) ?_
    refine zi_bipush (nI 17) dX9_isPlace_16 (by decide) ?_
    refine zi_ild3 dX9_isPlace_18 ?_
    refine zi_iadd dX9_isPlace_19 ?_
    refine zi_ialdN (17 + zt_pat w k) dX9_isPlace_20 (by first | assumption | decide) (nI_add _ _) (zy_b1 (by omega)) (by decide) ?_
    rw [hR.f0 hp]
    refine zi_if_eq 28 dX9_isPlace_21 (by decide) (fun c21 => ?_) (fun c21 => ?_)
    · refine zi_iconst (nI 0) dX9_isPlace_28 (by decide) ?_
      refine zi_zret dX9_isPlace_29 rfl (by decide) ?_
      refine ⟨_, rfl, rfl, ?_⟩
      first
      | (rw [zp_gI_m1] at c9
         rw [if_neg (fun q => by have := (zt_bi_lt q).1; omega)]; done)
      | (rw [zn_0, zn_eq (by omega) (by omega)] at c21
         rw [if_neg (fun q => (zt_bi_lt q).2 c21)]; done)
      | (rw [zn_0, zn_eq (by omega) (by omega)] at c21
         rw [if_pos (zt_bi_iff.mpr (by rw [if_pos hp]; exact c21))]; done)
    · refine zi_iconst (nI 1) dX9_isPlace_24 (by decide) ?_
      refine zi_goto 29 dX9_isPlace_25 (by decide) ?_
      refine zi_zret dX9_isPlace_29 rfl (by decide) ?_
      refine ⟨_, rfl, rfl, ?_⟩
      first
      | (rw [zp_gI_m1] at c9
         rw [if_neg (fun q => by have := (zt_bi_lt q).1; omega)]; done)
      | (rw [zn_0, zn_eq (by omega) (by omega)] at c21
         rw [if_neg (fun q => (zt_bi_lt q).2 c21)]; done)
      | (rw [zn_0, zn_eq (by omega) (by omega)] at c21
         rw [if_pos (zt_bi_iff.mpr (by rw [if_pos hp]; exact c21))]; done)
theorem l9_places (hW : zy_w σ w s) (hw : zt_rd 1 w) (hR : zy_r σ 0 fa go) : ∀ n i, i + n = 2 * w.length → zw_W l G (d + 5) mX9_places 4 [some (.ref 168), some (.int (nI ((List.range i).filter (zt_bi fa w)).length)), some (.int (nI i))] [] σ (fun x τ => ∃ y, x = some (.int y) ∧ σ = τ ∧ y = nI (zt_sp fa w).length) := by
  have h13 := hW.1
  intro n
  induction n with
  | zero =>
    intro i hi
    obtain rfl : i = 2 * w.length := by omega
    refine zi_ild2 dX9_places_4 ?_
    refine zi_iconst (nI 2) dX9_places_5 (by decide) ?_
    refine zi_ald0 dX9_places_6 ?_
    refine zi_getI dX9_places_7 flX9_58 rfl (by first | assumption | decide) ?_
    refine zi_imul dX9_places_10 ?_
    refine zi_icmp_ge 41 dX9_places_11 (by decide) (fun c11 => ?_) (fun c11 => ?_)
    · refine zi_ild1 dX9_places_41 ?_
      refine zi_iret dX9_places_42 rfl ?_
      exact ⟨_, rfl, rfl, rfl⟩
    · rw [hW.2.2.1, pk_mul, zn_le (by omega) (by omega)] at c11; omega
  | succ n ih =>
    intro i hi
    refine zi_ild2 dX9_places_4 ?_
    refine zi_iconst (nI 2) dX9_places_5 (by decide) ?_
    refine zi_ald0 dX9_places_6 ?_
    refine zi_getI dX9_places_7 flX9_58 rfl (by first | assumption | decide) ?_
    refine zi_imul dX9_places_10 ?_
    refine zi_icmp_ge 41 dX9_places_11 (by decide) (fun c11 => ?_) (fun c11 => ?_)
    · rw [hW.2.2.1, pk_mul, zn_le (by omega) (by omega)] at c11; omega
    · refine zi_ild1 dX9_places_14 ?_
      refine zi_ald0 dX9_places_15 ?_
      refine zi_ild2 dX9_places_16 ?_
      refine zi_iconst (nI 2) dX9_places_17 (by decide) ?_
      refine zi_idiv dX9_places_18 (by decide) ?_
      refine zi_ild2 dX9_places_19 ?_
      refine zi_iconst (nI 2) dX9_places_20 (by decide) ?_
      refine zi_irem dX9_places_21 (by decide) ?_
      rw [pk_rem (by omega) (by decide) (by decide), pk_div (by omega) (by decide) (by decide)]
      refine zi_cV2i vmX9_isPlace lkX9_79 dX9_places_22 (by first | assumption | decide) (Nat.le_of_ble_eq_true rfl) (c9_isPlace hW hw hR (show i / 2 < w.length by omega)) ?_
      rintro _ _ ⟨rfl, rfl⟩
      refine zi_if_eq 32 dX9_places_25 (by decide) (fun c25 => ?_) (fun c25 => ?_)
      · refine zi_iconst (nI 0) dX9_places_32 (by decide) ?_
        refine zi_iadd dX9_places_33 ?_
        refine zi_ist1 dX9_places_34 (Nat.le_of_ble_eq_true rfl) rfl ?_
        refine zi_inc2 (nI 1) dX9_places_35 (by decide) (Nat.le_of_ble_eq_true rfl) rfl ?_
        refine zi_goto 4 dX9_places_38 (by decide) ?_
        have := ih (i + 1) (by omega)
        by_cases q : zt_bi fa w i = true
        · rw [zl_fs q] at this
          rw [if_pos q] at c25
          first
          | (exfalso; exact absurd c25 (by decide))
          | (rw [nI_add, nI_add]; exact this)
        · rw [zl_fn (by simpa using q)] at this
          rw [if_neg q] at c25
          first
          | (exfalso; exact absurd rfl c25)
          | (rw [nI_add, nI_add]; exact this)
      · refine zi_iconst (nI 1) dX9_places_28 (by decide) ?_
        refine zi_goto 33 dX9_places_29 (by decide) ?_
        refine zi_iadd dX9_places_33 ?_
        refine zi_ist1 dX9_places_34 (Nat.le_of_ble_eq_true rfl) rfl ?_
        refine zi_inc2 (nI 1) dX9_places_35 (by decide) (Nat.le_of_ble_eq_true rfl) rfl ?_
        refine zi_goto 4 dX9_places_38 (by decide) ?_
        have := ih (i + 1) (by omega)
        by_cases q : zt_bi fa w i = true
        · rw [zl_fs q] at this
          rw [if_pos q] at c25
          first
          | (exfalso; exact absurd c25 (by decide))
          | (rw [nI_add, nI_add]; exact this)
        · rw [zl_fn (by simpa using q)] at this
          rw [if_neg q] at c25
          first
          | (exfalso; exact absurd rfl c25)
          | (rw [nI_add, nI_add]; exact this)
theorem c9_places (hW : zy_w σ w s) (hw : zt_rd 1 w) (hR : zy_r σ 0 fa go) : zw_Ti l G (d + 5) mX9_places [.ref 168] σ (fun x τ => σ = τ ∧ x = nI (zt_sp fa w).length) := by
  refine zw_enter2 (L := [some _, none, none]) (by decide) (Nat.le_of_ble_eq_true rfl) rfl ?_
  refine zi_iconst (nI 0) dX9_places_0 (by decide) ?_
  refine zi_ist1 dX9_places_1 (Nat.le_of_ble_eq_true rfl) rfl ?_
  refine zi_iconst (nI 0) dX9_places_2 (by decide) ?_
  refine zi_ist2 dX9_places_3 (Nat.le_of_ble_eq_true rfl) rfl ?_
  exact l9_places hW hw hR (2 * w.length) 0 (by omega)
theorem l9_placeAt {k : Int32} (hW : zy_w σ w s) (hw : zt_rd 1 w) (hR : zy_r σ 0 fa go) : ∀ n i, i + n = 2 * w.length → (∀ j, j < ((List.range i).filter (zt_bi fa w)).length → k ≠ nI j) → zw_W l G (d + 5) mX9_placeAt 4 [some (.ref 168), some (.int k), some (.int (nI ((List.range i).filter (zt_bi fa w)).length)), some (.int (nI i))] [] σ (fun x τ => ∃ y, x = some (.int y) ∧ σ = τ ∧ y = zp_oI (zp_at (zt_sp fa w) k)) := by
  have h13 := hW.1
  intro n
  induction n with
  | zero =>
    intro i hi hI
    obtain rfl : i = 2 * w.length := by omega
    have hle := zl_fle (s := 2 * w.length) (b := zt_bi fa w)
    refine zi_ild3 dX9_placeAt_4 ?_
    refine zi_iconst (nI 2) dX9_placeAt_5 (by decide) ?_
    refine zi_ald0 dX9_placeAt_6 ?_
    refine zi_getI dX9_placeAt_7 flX9_58 rfl (by first | assumption | decide) ?_
    refine zi_imul dX9_placeAt_10 ?_
    refine zi_icmp_ge 43 dX9_placeAt_11 (by decide) (fun c11 => ?_) (fun c11 => ?_)
    · refine zi_iconst (-1) dX9_placeAt_43 (by decide) ?_
      refine zi_iret dX9_placeAt_44 rfl ?_
      refine ⟨_, rfl, rfl, ?_⟩
      rw [zp_at_no (l := zt_sp fa w) (by show (List.filter _ _).length < _; omega) hI]; rfl
    · rw [hW.2.2.1, pk_mul, zn_le (by omega) (by omega)] at c11; omega
  | succ n ih =>
    intro i hi hI
    have hle := zl_fle (s := i) (b := zt_bi fa w)
    refine zi_ild3 dX9_placeAt_4 ?_
    refine zi_iconst (nI 2) dX9_placeAt_5 (by decide) ?_
    refine zi_ald0 dX9_placeAt_6 ?_
    refine zi_getI dX9_placeAt_7 flX9_58 rfl (by first | assumption | decide) ?_
    refine zi_imul dX9_placeAt_10 ?_
    refine zi_icmp_ge 43 dX9_placeAt_11 (by decide) (fun c11 => ?_) (fun c11 => ?_)
    · rw [hW.2.2.1, pk_mul, zn_le (by omega) (by omega)] at c11; omega
    · refine zi_ald0 dX9_placeAt_14 ?_
      refine zi_ild3 dX9_placeAt_15 ?_
      refine zi_iconst (nI 2) dX9_placeAt_16 (by decide) ?_
      refine zi_idiv dX9_placeAt_17 (by decide) ?_
      refine zi_ild3 dX9_placeAt_18 ?_
      refine zi_iconst (nI 2) dX9_placeAt_19 (by decide) ?_
      refine zi_irem dX9_placeAt_20 (by decide) ?_
      rw [pk_rem (by omega) (by decide) (by decide), pk_div (by omega) (by decide) (by decide)]
      refine zi_cV2i vmX9_isPlace lkX9_79 dX9_placeAt_21 (by first | assumption | decide) (Nat.le_of_ble_eq_true rfl) (c9_isPlace hW hw hR (show i / 2 < w.length by omega)) ?_
      rintro _ _ ⟨rfl, rfl⟩
      refine zi_if_eq 37 dX9_placeAt_24 (by decide) (fun c24 => ?_) (fun c24 => ?_)
      · refine zi_inc3 (nI 1) dX9_placeAt_37 (by decide) (Nat.le_of_ble_eq_true rfl) rfl ?_
        refine zi_goto 4 dX9_placeAt_40 (by decide) ?_
        first
        | (have hfs := zl_fs q
           have := ih (i + 1) (by omega) (fun j hj => by
             rw [hfs] at hj
             by_cases e : j = ((List.range i).filter (zt_bi fa w)).length
             · rw [e]; exact fun q => c29 q.symm
             · exact hI j (by omega))
           rw [hfs] at this
           rw [nI_add, nI_add]
           exact this)
        | (have q : zt_bi fa w i = false := by
             cases q : zt_bi fa w i with
             | false => rfl
             | true => rw [if_pos q] at c24; exact absurd c24 (by decide)
           have hfs := zl_fn (s := i) (b := zt_bi fa w) q
           have := ih (i + 1) (by omega) (fun j hj => by rw [hfs] at hj; exact hI j hj)
           rw [hfs] at this
           rw [nI_add]
           exact this)
      · have q : zt_bi fa w i = true := by
          by_cases q : zt_bi fa w i = true
          · exact q
          · rw [if_neg q] at c24; exact absurd rfl c24
        refine zi_ild2 dX9_placeAt_27 ?_
        refine zi_ild1 dX9_placeAt_28 ?_
        refine zi_icmp_ne 34 dX9_placeAt_29 (by decide) (fun c29 => ?_) (fun c29 => ?_)
        · refine zi_inc2 (nI 1) dX9_placeAt_34 (by decide) (Nat.le_of_ble_eq_true rfl) rfl ?_
          refine zi_inc3 (nI 1) dX9_placeAt_37 (by decide) (Nat.le_of_ble_eq_true rfl) rfl ?_
          refine zi_goto 4 dX9_placeAt_40 (by decide) ?_
          first
          | (have hfs := zl_fs q
             have := ih (i + 1) (by omega) (fun j hj => by
               rw [hfs] at hj
               by_cases e : j = ((List.range i).filter (zt_bi fa w)).length
               · rw [e]; exact fun q => c29 q.symm
               · exact hI j (by omega))
             rw [hfs] at this
             rw [nI_add, nI_add]
             exact this)
          | (have q : zt_bi fa w i = false := by
               cases q : zt_bi fa w i with
               | false => rfl
               | true => rw [if_pos q] at c24; exact absurd c24 (by decide)
             have hfs := zl_fn (s := i) (b := zt_bi fa w) q
             have := ih (i + 1) (by omega) (fun j hj => by rw [hfs] at hj; exact hI j hj)
             rw [hfs] at this
             rw [nI_add]
             exact this)
        · refine zi_ild3 dX9_placeAt_32 ?_
          refine zi_iret dX9_placeAt_33 rfl ?_
          refine ⟨_, rfl, rfl, ?_⟩
          rw [← c29, zp_at_n (by omega)]
          unfold zt_sp
          rw [zl_kth (show i < 2 * w.length by omega) q]; rfl
theorem c9_placeAt {k : Int32} (hW : zy_w σ w s) (hw : zt_rd 1 w) (hR : zy_r σ 0 fa go) : zw_Ti l G (d + 5) mX9_placeAt [.ref 168, .int k] σ (fun x τ => σ = τ ∧ x = zp_oI (zp_at (zt_sp fa w) k)) := by
  refine zw_enter2 (L := [some _, some _, none, none]) (by decide) (Nat.le_of_ble_eq_true rfl) rfl ?_
  refine zi_iconst (nI 0) dX9_placeAt_0 (by decide) ?_
  refine zi_ist2 dX9_placeAt_1 (Nat.le_of_ble_eq_true rfl) rfl ?_
  refine zi_iconst (nI 0) dX9_placeAt_2 (by decide) ?_
  refine zi_ist3 dX9_placeAt_3 (Nat.le_of_ble_eq_true rfl) rfl ?_
  exact l9_placeAt hW hw hR (2 * w.length) 0 (by omega) (fun j hj => by simp at hj)
theorem l9_leafAt (hW : zy_w σ w s) {k : Int32} : ∀ n i, i + n = w.length → (∀ j, j < ((List.range i).filter (fun i => w.getD i 0 == 0)).length → k ≠ nI j) → zw_W l G (d + 1) mX9_leafAt 4 [some (.ref 168), some (.int k), some (.int (nI ((List.range i).filter (fun i => w.getD i 0 == 0)).length)), some (.int (nI i))] [] σ (fun x τ => ∃ y, x = some (.int y) ∧ σ = τ ∧ y = zp_oI (zp_at (zt_lv w) k)) := by
  have h13 := hW.1
  intro n
  induction n with
  | zero =>
    intro i hi hI
    obtain rfl : i = w.length := by omega
    have hle := zl_fle (s := w.length) (b := fun i => w.getD i 0 == 0)
    refine zi_ild3 dX9_leafAt_4 ?_
    refine zi_ald0 dX9_leafAt_5 ?_
    refine zi_getI dX9_leafAt_6 flX9_58 rfl (by first | assumption | decide) ?_
    refine zi_icmp_ge 37 dX9_leafAt_9 (by decide) (fun c9 => ?_) (fun c9 => ?_)
    · refine zi_iconst (-1) dX9_leafAt_37 (by decide) ?_
      refine zi_iret dX9_leafAt_38 rfl ?_
      refine ⟨_, rfl, rfl, ?_⟩
      rw [zp_at_no (l := zt_lv w) (by show (List.filter _ _).length < _; omega) hI]; rfl
    · rw [hW.2.2.1, zn_le (by omega) (by omega)] at c9; omega
  | succ n ih =>
    intro i hi hI
    have hle := zl_fle (s := i) (b := fun i => w.getD i 0 == 0)
    have hx := zl_getD_lt hW.2.1 i
    refine zi_ild3 dX9_leafAt_4 ?_
    refine zi_ald0 dX9_leafAt_5 ?_
    refine zi_getI dX9_leafAt_6 flX9_58 rfl (by first | assumption | decide) ?_
    refine zi_icmp_ge 37 dX9_leafAt_9 (by decide) (fun c9 => ?_) (fun c9 => ?_)
    · rw [hW.2.2.1, zn_le (by omega) (by omega)] at c9; omega
    · refine zi_ald0 dX9_leafAt_12 ?_
      refine zi_getR dX9_leafAt_13 flX9_29 rfl (by first | assumption | decide) ?_
      refine zi_ild3 dX9_leafAt_16 ?_
      refine zi_ialdN i dX9_leafAt_17 (by first | assumption | decide) rfl (zy_b6 (by omega)) (by decide) ?_
      rw [hW.2.2.2.2 i (by omega)]
      refine zi_if_ne 31 dX9_leafAt_18 (by decide) (fun c18 => ?_) (fun c18 => ?_)
      · refine zi_inc3 (nI 1) dX9_leafAt_31 (by decide) (Nat.le_of_ble_eq_true rfl) rfl ?_
        refine zi_goto 4 dX9_leafAt_34 (by decide) ?_
        first
        | (have hf := zl_fs (s := i) (b := fun i => w.getD i 0 == 0) (by simpa using c18)
           have := ih (i + 1) (by omega) (fun j hj => by
             rw [hf] at hj
             by_cases e : j = ((List.range i).filter (fun i => w.getD i 0 == 0)).length
             · rw [e]; exact fun q => c23 q.symm
             · exact hI j (by omega))
           rw [hf] at this
           rw [nI_add, nI_add]
           exact this)
        | (rw [zn_0, zn_eq (by omega) (by omega)] at c18
           have hf := zl_fn (s := i) (b := fun i => w.getD i 0 == 0) (by simpa using c18)
           have := ih (i + 1) (by omega) (fun j hj => by rw [hf] at hj; exact hI j hj)
           rw [hf] at this
           rw [nI_add]
           exact this)
      · rw [zn_0, zn_eq (by omega) (by omega)] at c18
        refine zi_ild2 dX9_leafAt_21 ?_
        refine zi_ild1 dX9_leafAt_22 ?_
        refine zi_icmp_ne 28 dX9_leafAt_23 (by decide) (fun c23 => ?_) (fun c23 => ?_)
        · refine zi_inc2 (nI 1) dX9_leafAt_28 (by decide) (Nat.le_of_ble_eq_true rfl) rfl ?_
          refine zi_inc3 (nI 1) dX9_leafAt_31 (by decide) (Nat.le_of_ble_eq_true rfl) rfl ?_
          refine zi_goto 4 dX9_leafAt_34 (by decide) ?_
          first
          | (have hf := zl_fs (s := i) (b := fun i => w.getD i 0 == 0) (by simpa using c18)
             have := ih (i + 1) (by omega) (fun j hj => by
               rw [hf] at hj
               by_cases e : j = ((List.range i).filter (fun i => w.getD i 0 == 0)).length
               · rw [e]; exact fun q => c23 q.symm
               · exact hI j (by omega))
             rw [hf] at this
             rw [nI_add, nI_add]
             exact this)
          | (rw [zn_0, zn_eq (by omega) (by omega)] at c18
             have hf := zl_fn (s := i) (b := fun i => w.getD i 0 == 0) (by simpa using c18)
             have := ih (i + 1) (by omega) (fun j hj => by rw [hf] at hj; exact hI j hj)
             rw [hf] at this
             rw [nI_add]
             exact this)
        · refine zi_ild3 dX9_leafAt_26 ?_
          refine zi_iret dX9_leafAt_27 rfl ?_
          refine ⟨_, rfl, rfl, ?_⟩
          rw [← c23, zp_at_n (by omega)]
          unfold zt_lv
          rw [zl_kth (show i < w.length by omega) (by simpa using c18)]; rfl
theorem c9_leafAt (hW : zy_w σ w s) {k : Int32} : zw_Ti l G (d + 1) mX9_leafAt [.ref 168, .int k] σ (fun x τ => σ = τ ∧ x = zp_oI (zp_at (zt_lv w) k)) := by
  refine zw_enter2 (L := [some _, some _, none, none]) (by decide) (Nat.le_of_ble_eq_true rfl) rfl ?_
  refine zi_iconst (nI 0) dX9_leafAt_0 (by decide) ?_
  refine zi_ist2 dX9_leafAt_1 (Nat.le_of_ble_eq_true rfl) rfl ?_
  refine zi_iconst (nI 0) dX9_leafAt_2 (by decide) ?_
  refine zi_ist3 dX9_leafAt_3 (Nat.le_of_ble_eq_true rfl) rfl ?_
  exact l9_leafAt hW w.length 0 (by omega) (fun j hj => by simp at hj)
theorem c9_addOther {v : List Nat} {x : Nat} (hW : zy_w σ w s) (hO : zy_o σ v) (hv : v.length < 16) : zw_Tv l G (d + 1) mX9_addOther [.ref 168, .int (nI x)] σ (fun υ => zy_w υ w s ∧ zy_o υ (v ++ [x]) ∧ zy_S σ υ ∧ υ.1 (168 + 8) = σ.1 (168 + 8)) := by
  refine zw_enter2 (L := [some _, some _]) (by decide) (Nat.le_of_ble_eq_true rfl) rfl ?_
  refine zi_ald0 dX9_addOther_0 ?_
  refine zi_getR dX9_addOther_1 flX9_32 rfl (by first | assumption | decide) ?_
  refine zi_ald0 dX9_addOther_4 ?_
  refine zi_getI dX9_addOther_5 flX9_83 rfl (by first | assumption | decide) ?_
  rw [hO.2.1]
  refine zi_ild1 dX9_addOther_8 ?_
  refine zi_iastN v.length dX9_addOther_9 (by first | assumption | decide) rfl (zy_b7 (by omega)) (by decide) ?_
  refine zi_ald0 dX9_addOther_10 ?_
  refine zi_dupr dX9_addOther_11 ?_
  refine zi_getI dX9_addOther_12 flX9_83 rfl (by first | assumption | decide) ?_
  rw [zs_obj (show 168 ≠ 168 + 7 by decide), hO.2.1]
  refine zi_iconst (nI 1) dX9_addOther_15 (by decide) ?_
  refine zi_iadd dX9_addOther_16 ?_
  refine zi_putI dX9_addOther_17 flX9_83 fp_9_15 rfl (by first | assumption | decide) ?_
  refine zi_ret dX9_addOther_20 rfl ?_
  refine ⟨rfl, hW.ar ?_ ?_ ?_, ⟨?_, ?_, fun i hi => ?_⟩, (zy_S.rf.arr (by omega)).fld (by omega), ?_⟩
  · rw [zs_slot (by decide), zs_obj (by decide)]
  · rw [zs_slot (by decide), zs_obj (by decide)]
  · rw [zs_obj (by decide), zs_obj (by decide)]
  · rw [List.length_append, List.length_singleton]; omega
  · rw [zs_same, nI_add, List.length_append]; rfl
  · rw [zs_obj (by decide)]
    rw [List.length_append, List.length_singleton] at hi
    by_cases e : i = v.length
    · rw [e, zs_same, zl_app_hi (Nat.le_refl _), Nat.sub_self]; rfl
    · rw [zs_slot e, hO.2.2 i (by omega), zl_app_lo (by omega)]
  · rw [zs_obj (by decide), zs_obj (by decide)]
theorem l9_copyOther {a : Nat} {x1 : Int32} {b : Nat} (hb : b ≤ w.length) : ∀ n i τ v, i + n = max i b → i ≤ 100 → zy_w τ w s → zy_o τ v → v.length + (b - i) ≤ 16 → zy_S σ τ → zw_W l G (d + 1) mX9_copyOther 2 [some (.ref 168), some (.int x1), some (.int (nI b)), some (.int (nI i))] [] τ (fun r υ => r = none ∧ zy_w υ w s ∧ zy_o υ (v ++ (w.drop i).take (b - i)) ∧ zy_S σ υ) := by
  intro n
  induction n with
  | zero =>
    intro i τ v hi h100 hW hO hl hS
    have h13 := hW.1
    refine zi_ild3 dX9_copyOther_2 ?_
    refine zi_ild2 dX9_copyOther_3 ?_
    refine zi_icmp_ge 38 dX9_copyOther_4 (by decide) (fun c4 => ?_) (fun c4 => ?_)
    · refine zi_ret dX9_copyOther_38 rfl ?_
      refine ⟨rfl, hW, ?_, hS⟩
      rw [show b - i = 0 by omega, List.take_zero, List.append_nil]; exact hO
    · rw [zn_le (by omega) (by omega)] at c4; omega
  | succ n ih =>
    intro i τ v hi h100 hW hO hl hS
    have h13 := hW.1
    refine zi_ild3 dX9_copyOther_2 ?_
    refine zi_ild2 dX9_copyOther_3 ?_
    refine zi_icmp_ge 38 dX9_copyOther_4 (by decide) (fun c4 => ?_) (fun c4 => ?_)
    · rw [zn_le (by omega) (by omega)] at c4; omega
    · refine zi_ald0 dX9_copyOther_7 ?_
      refine zi_getR dX9_copyOther_8 flX9_32 rfl (by first | assumption | decide) ?_
      refine zi_ald0 dX9_copyOther_11 ?_
      refine zi_getI dX9_copyOther_12 flX9_83 rfl (by first | assumption | decide) ?_
      rw [hO.2.1]
      refine zi_ald0 dX9_copyOther_15 ?_
      refine zi_getR dX9_copyOther_16 flX9_29 rfl (by first | assumption | decide) ?_
      refine zi_ild3 dX9_copyOther_19 ?_
      refine zi_ialdN i dX9_copyOther_20 (by first | assumption | decide) rfl (zy_b6 (by omega)) (by decide) ?_
      rw [hW.2.2.2.2 i (by omega)]
      refine zi_iastN v.length dX9_copyOther_21 (by first | assumption | decide) rfl (zy_b7 (by omega)) (by decide) ?_
      refine zi_ald0 dX9_copyOther_22 ?_
      refine zi_dupr dX9_copyOther_23 ?_
      refine zi_getI dX9_copyOther_24 flX9_83 rfl (by first | assumption | decide) ?_
      rw [zs_obj (show 168 ≠ 168 + 7 by decide), hO.2.1]
      refine zi_iconst (nI 1) dX9_copyOther_27 (by decide) ?_
      refine zi_iadd dX9_copyOther_28 ?_
      refine zi_putI dX9_copyOther_29 flX9_83 fp_9_15 rfl (by first | assumption | decide) ?_
      refine zi_inc3 (nI 1) dX9_copyOther_32 (by decide) (Nat.le_of_ble_eq_true rfl) rfl ?_
      refine zi_goto 2 dX9_copyOther_35 (by decide) ?_
      rw [nI_add, nI_add]
      have e : v ++ (w.drop i).take (b - i) = (v ++ [w.getD i 0]) ++ (w.drop (i + 1)).take (b - (i + 1)) := by
        rw [zl_drop (show i < w.length by omega), show b - i = (b - (i + 1)) + 1 by omega, List.take_succ_cons, List.append_assoc]; rfl
      rw [e]
      refine ih (i + 1) _ (v ++ [w.getD i 0]) (by omega) (by omega) (hW.ar ?_ ?_ ?_) ⟨?_, ?_, fun j hj => ?_⟩ ?_ ((hS.arr (by omega)).fld (by omega))
      · rw [zs_slot (by decide), zs_obj (by decide)]
      · rw [zs_slot (by decide), zs_obj (by decide)]
      · rw [zs_obj (by decide), zs_obj (by decide)]
      · rw [List.length_append, List.length_singleton]; omega
      · rw [zs_same, List.length_append]; rfl
      · rw [zs_obj (by decide)]
        rw [List.length_append, List.length_singleton] at hj
        by_cases e : j = v.length
        · rw [e, zs_same, zl_app_hi (Nat.le_refl _), Nat.sub_self]; rfl
        · rw [zs_slot e, hO.2.2 j (by omega), zl_app_lo (by omega)]
      · rw [List.length_append, List.length_singleton]; omega
theorem c9_copyOther {a b : Nat} {v : List Nat} (ha : a ≤ 100) (hb : b ≤ w.length) (hW : zy_w σ w s) (hO : zy_o σ v) (hl : v.length + (b - a) ≤ 16) : zw_Tv l G (d + 1) mX9_copyOther [.ref 168, .int (nI a), .int (nI b)] σ (fun υ => zy_w υ w s ∧ zy_o υ (v ++ (w.drop a).take (b - a)) ∧ zy_S σ υ) := by
  refine zw_enter2 (L := [some _, some _, some _, none]) (by decide) (Nat.le_of_ble_eq_true rfl) rfl ?_
  refine zi_ild1 dX9_copyOther_0 ?_
  refine zi_ist3 dX9_copyOther_1 (Nat.le_of_ble_eq_true rfl) rfl ?_
  exact l9_copyOther (a := a) hb (max a b - a) a σ v (by omega) ha hW hO hl zy_S.rf
theorem l9_takeOther {v : List Nat} (hv : v.length ≤ 13) : ∀ n i τ, i + n = v.length → (∀ j, j < i → τ.1 (168 + 6) j = nI (v.getD j 0)) → τ.1 168 12 = nI v.length → τ.1 168 13 = s → zy_o τ v → zy_S σ τ → zw_W l G (d + 1) mX9_takeOther 10 [some (.ref 168), some (.int (nI i))] [] τ (fun r υ => r = none ∧ (∀ j, j < v.length → υ.1 (168 + 6) j = nI (v.getD j 0)) ∧ υ.1 168 12 = nI v.length ∧ υ.1 168 13 = s ∧ zy_S σ υ) := by
  intro n
  induction n with
  | zero =>
    intro i τ hi h1 h2 h3 hO hS
    refine zi_ild1 dX9_takeOther_10 ?_
    refine zi_ald0 dX9_takeOther_11 ?_
    refine zi_getI dX9_takeOther_12 flX9_83 rfl (by first | assumption | decide) ?_
    refine zi_icmp_ge 36 dX9_takeOther_15 (by decide) (fun c15 => ?_) (fun c15 => ?_)
    · refine zi_ret dX9_takeOther_36 rfl ?_
      exact ⟨rfl, fun j hj => h1 j (by omega), h2, h3, hS⟩
    · rw [hO.2.1, zn_le (by omega) (by omega)] at c15; omega
  | succ n ih =>
    intro i τ hi h1 h2 h3 hO hS
    refine zi_ild1 dX9_takeOther_10 ?_
    refine zi_ald0 dX9_takeOther_11 ?_
    refine zi_getI dX9_takeOther_12 flX9_83 rfl (by first | assumption | decide) ?_
    refine zi_icmp_ge 36 dX9_takeOther_15 (by decide) (fun c15 => ?_) (fun c15 => ?_)
    · rw [hO.2.1, zn_le (by omega) (by omega)] at c15; omega
    · refine zi_ald0 dX9_takeOther_18 ?_
      refine zi_getR dX9_takeOther_19 flX9_29 rfl (by first | assumption | decide) ?_
      refine zi_ild1 dX9_takeOther_22 ?_
      refine zi_ald0 dX9_takeOther_23 ?_
      refine zi_getR dX9_takeOther_24 flX9_32 rfl (by first | assumption | decide) ?_
      refine zi_ild1 dX9_takeOther_27 ?_
      refine zi_ialdN i dX9_takeOther_28 (by first | assumption | decide) rfl (zy_b7 (by omega)) (by decide) ?_
      refine zi_iastN i dX9_takeOther_29 (by first | assumption | decide) rfl (zy_b6 (by omega)) (by decide) ?_
      refine zi_inc1 (nI 1) dX9_takeOther_30 (by decide) (Nat.le_of_ble_eq_true rfl) rfl ?_
      refine zi_goto 10 dX9_takeOther_33 (by decide) ?_
      rw [nI_add, hO.2.2 i (by omega)]
      refine ih (i + 1) _ (by omega) (fun j hj => ?_) ?_ ?_ ⟨hO.1, ?_, fun j hj => ?_⟩ (hS.arr (by omega))
      · by_cases e : j = i
        · rw [e, zs_same]
        · rw [zs_slot e]; exact h1 j (by omega)
      · rw [zs_obj (by decide)]; exact h2
      · rw [zs_obj (by decide)]; exact h3
      · rw [zs_obj (by decide)]; exact hO.2.1
      · rw [zs_obj (by decide)]; exact hO.2.2 j hj
theorem c9_takeOther {v : List Nat} (hv : v.length ≤ 13) (hx : ∀ x ∈ v, x < 3) (hs : σ.1 168 13 = s) (hO : zy_o σ v) : zw_Tv l G (d + 1) mX9_takeOther [.ref 168] σ (fun υ => zy_w υ v s ∧ zy_S σ υ) := by
  refine zw_enter2 (L := [some _, none]) (by decide) (Nat.le_of_ble_eq_true rfl) rfl ?_
  refine zi_ald0 dX9_takeOther_0 ?_
  refine zi_ald0 dX9_takeOther_1 ?_
  refine zi_getI dX9_takeOther_2 flX9_83 rfl (by first | assumption | decide) ?_
  rw [hO.2.1]
  refine zi_putI dX9_takeOther_5 flX9_58 fp_9_12 rfl (by first | assumption | decide) ?_
  refine zi_iconst (nI 0) dX9_takeOther_8 (by decide) ?_
  refine zi_ist1 dX9_takeOther_9 (Nat.le_of_ble_eq_true rfl) rfl ?_
  refine (l9_takeOther (σ := σ) (s := s) hv v.length 0 _ (by omega) (fun j hj => by omega) (zs_same _ _ _ _) (by rw [zs_slot (by decide)]; exact hs) ⟨hO.1, by rw [zs_slot (by decide)]; exact hO.2.1, fun j hj => by rw [zs_obj (by decide)]; exact hO.2.2 j hj⟩ (zy_S.rf.fld (by omega))).mono ?_
  rintro r υ ⟨h1, h2, h3, h4, h5⟩
  exact ⟨h1, ⟨hv, hx, h3, h4, h2⟩, h5⟩
end Z32
