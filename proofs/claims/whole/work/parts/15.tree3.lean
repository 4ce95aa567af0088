section Z15
variable {l : Launch} {G : zw_G} {d : Nat} {σ : zw_S} {h r : Nat} {w : List Nat} {s : Int32} {fa go : Nat → Nat}
theorem c4_fateOf_g (ho : zr_ok r) (hR : zr_V σ r fa go) {p : Nat} : zw_Ti l G (d + 2) mX4_fateOf [.ref r, .int (zp_gI p)] σ (fun x s => σ = s ∧ x = nI (if p < 8 then fa p else 0)) := by
  by_cases hp : p < 8
  · rw [zp_gI_lt hp, if_pos hp]
    exact c4_fateOf ho hR hp
  · rw [zp_gI_no hp, if_neg hp]
    exact c4_fateOf_out ho (zn_out_m1 8)
theorem zt_bi_iff {fa : Nat → Nat} {w : List Nat} {k : Nat} : zt_bi fa w k = true ↔ (if zt_pat w k < 8 then fa (zt_pat w k) else 0) ≠ 0 := by
  unfold zt_bi
  by_cases hp : zt_pat w k < 8
  · simp [hp]
  · simp [hp]
theorem c7_patternAt (ho : zt_ok h) (hV : zt_V σ h w s) {k : Nat} (hk : k < 1000) : zw_Ti l G (d + 2) mX7_patternAt [.ref h, .int (nI k)] σ (fun x τ => σ = τ ∧ x = zp_gI (zt_pat w k)) := by
  have k0 := ho.1
  have h13 := hV.1
  have hx := zl_getD_lt hV.2.1 (k / 2)
  refine zw_enter2 (L := [some _, some _, none, none, none, none]) (by decide) (Nat.le_of_ble_eq_true rfl) rfl ?_
  refine zi_ild1 dX7_patternAt_0 ?_
  refine zi_iconst (nI 2) dX7_patternAt_1 (by decide) ?_
  refine zi_idiv dX7_patternAt_2 (by decide) ?_
  rw [pk_div (by omega) (by decide) (by decide)]
  refine zi_ist2 dX7_patternAt_3 (Nat.le_of_ble_eq_true rfl) rfl ?_
  refine zi_ild1 dX7_patternAt_4 ?_
  refine zi_iconst (nI 1) dX7_patternAt_5 (by decide) ?_
  refine zi_iand dX7_patternAt_6 ?_
  rw [pk_andN (by omega) (m := nI 1) 1 rfl]
  try change zw_W l G _ _ _ _ (Value.int (nI (k % 2)) :: _) _ _
  refine zi_ist3 dX7_patternAt_7 (Nat.le_of_ble_eq_true rfl) rfl ?_
  refine zi_ald0 dX7_patternAt_8 ?_
  refine zi_ild2 dX7_patternAt_9 ?_
  refine zi_cV1i vmX7_figureAt lkX7_32 dX7_patternAt_10 (by first | assumption | decide) (Nat.le_of_ble_eq_true rfl) (c7_figureAt ho hV (show k / 2 < 2147483648 by omega)) ?_
  rintro _ _ ⟨rfl, rfl⟩
  refine zi_ist4 dX7_patternAt_13 (Nat.le_of_ble_eq_true rfl) rfl ?_
  refine zi_ild1 dX7_patternAt_15 ?_
  refine zi_if_lt 24 dX7_patternAt_16 (by decide) (fun c16 => ?_) (fun c16 => ?_)
  · rw [zn_0, zn_neg k (by omega)] at c16; exact c16.elim
  · refine zi_ild4 dX7_patternAt_19 ?_
    refine zi_if_ne 26 dX7_patternAt_21 (by decide) (fun c21 => ?_) (fun c21 => ?_)
    · rw [zn_0, zn_eq (by omega) (by omega)] at c21
      have hn : k / 2 < w.length := by
        rcases Nat.lt_or_ge (k / 2) w.length with q | q
        · exact q
        · exact absurd (zl_getD_no q) c21
      have hle := zt_cn_le (w.drop (k / 2 + 1)) 1
      rw [List.length_drop] at hle
      refine zi_ald0 dX7_patternAt_26 ?_
      refine zi_ild3 dX7_patternAt_27 ?_
      refine zi_if_ne 37 dX7_patternAt_28 (by decide) (fun c28 => ?_) (fun c28 => ?_)
      · rw [zn_0, zn_eq (by omega) (by omega)] at c28
        have eb : zt_br w (k / 2) (k % 2) = k / 2 + 1 + zt_cn 1 (w.drop (k / 2 + 1)) := by unfold zt_br; rw [if_neg c28]
        refine zi_ald0 dX7_patternAt_37 ?_
        refine zi_ild2 dX7_patternAt_38 ?_
        refine zi_iconst (nI 1) dX7_patternAt_39 (by decide) ?_
        refine zi_iadd dX7_patternAt_40 ?_
        rw [nI_add]
        refine zi_cV1i vmX7_endOf lkX7_51 dX7_patternAt_41 (by first | assumption | decide) (Nat.le_of_ble_eq_true rfl) (c7_endOf ho hV (show k / 2 + 1 ≤ w.length by omega)) ?_
        rintro _ _ ⟨rfl, rfl⟩
        rw [← eb]
        refine zi_cV1i vmX7_figureAt lkX7_32 dX7_patternAt_44 (by first | assumption | decide) (Nat.le_of_ble_eq_true rfl) (c7_figureAt ho hV (show zt_br w (k / 2) (k % 2) < 2147483648 by omega)) ?_
        rintro _ _ ⟨rfl, rfl⟩
        have hy := zl_getD_lt hV.2.1 (zt_br w (k / 2) (k % 2))
        refine zi_ist5 dX7_patternAt_47 (Nat.le_of_ble_eq_true rfl) rfl ?_
        refine zi_ild5 dX7_patternAt_49 ?_
        refine zi_if_ne 56 dX7_patternAt_51 (by decide) (fun c51 => ?_) (fun c51 => ?_)
        · rw [zn_0, zn_eq (by omega) (by omega)] at c51
          refine zi_iconst (nI 4) dX7_patternAt_56 (by decide) ?_
          refine zi_ild4 dX7_patternAt_57 ?_
          refine zi_iconst (nI 1) dX7_patternAt_59 (by decide) ?_
          refine zi_isub dX7_patternAt_60 ?_
          refine zi_imul dX7_patternAt_61 ?_
          refine zi_iconst (nI 2) dX7_patternAt_62 (by decide) ?_
          refine zi_ild5 dX7_patternAt_63 ?_
          refine zi_iconst (nI 1) dX7_patternAt_65 (by decide) ?_
          refine zi_isub dX7_patternAt_66 ?_
          refine zi_imul dX7_patternAt_67 ?_
          refine zi_iadd dX7_patternAt_68 ?_
          refine zi_ild3 dX7_patternAt_69 ?_
          refine zi_iadd dX7_patternAt_70 ?_
          refine zi_iret dX7_patternAt_71 rfl ?_
          refine ⟨_, rfl, rfl, ?_⟩
          unfold zt_pat
          rw [if_neg c21, if_neg c51, zp_gI_lt (by omega), pk_sub (by omega), pk_sub (by omega), pk_mul, pk_mul, nI_add, nI_add]
        · rw [zn_0, zn_eq (by omega) (by omega)] at c51
          refine zi_iconst (-1) dX7_patternAt_54 (by decide) ?_
          refine zi_iret dX7_patternAt_55 rfl ?_
          refine ⟨_, rfl, rfl, ?_⟩
          unfold zt_pat
          rw [if_neg c21, if_pos c51]; rfl
      · rw [zn_0, zn_eq (by omega) (by omega)] at c28
        have eb : zt_br w (k / 2) (k % 2) = k / 2 + 1 := by unfold zt_br; rw [if_pos c28]
        refine zi_ild2 dX7_patternAt_31 ?_
        refine zi_iconst (nI 1) dX7_patternAt_32 (by decide) ?_
        refine zi_iadd dX7_patternAt_33 ?_
        rw [nI_add, ← eb]
        refine zi_goto 44 dX7_patternAt_34 (by decide) ?_
        refine zi_cV1i vmX7_figureAt lkX7_32 dX7_patternAt_44 (by first | assumption | decide) (Nat.le_of_ble_eq_true rfl) (c7_figureAt ho hV (show zt_br w (k / 2) (k % 2) < 2147483648 by omega)) ?_
        rintro _ _ ⟨rfl, rfl⟩
        have hy := zl_getD_lt hV.2.1 (zt_br w (k / 2) (k % 2))
        refine zi_ist5 dX7_patternAt_47 (Nat.le_of_ble_eq_true rfl) rfl ?_
        refine zi_ild5 dX7_patternAt_49 ?_
        refine zi_if_ne 56 dX7_patternAt_51 (by decide) (fun c51 => ?_) (fun c51 => ?_)
        · rw [zn_0, zn_eq (by omega) (by omega)] at c51
          refine zi_iconst (nI 4) dX7_patternAt_56 (by decide) ?_
          refine zi_ild4 dX7_patternAt_57 ?_
          refine zi_iconst (nI 1) dX7_patternAt_59 (by decide) ?_
          refine zi_isub dX7_patternAt_60 ?_
          refine zi_imul dX7_patternAt_61 ?_
          refine zi_iconst (nI 2) dX7_patternAt_62 (by decide) ?_
          refine zi_ild5 dX7_patternAt_63 ?_
          refine zi_iconst (nI 1) dX7_patternAt_65 (by decide) ?_
          refine zi_isub dX7_patternAt_66 ?_
          refine zi_imul dX7_patternAt_67 ?_
          refine zi_iadd dX7_patternAt_68 ?_
          refine zi_ild3 dX7_patternAt_69 ?_
          refine zi_iadd dX7_patternAt_70 ?_
          refine zi_iret dX7_patternAt_71 rfl ?_
          refine ⟨_, rfl, rfl, ?_⟩
          unfold zt_pat
          rw [if_neg c21, if_neg c51, zp_gI_lt (by omega), pk_sub (by omega), pk_sub (by omega), pk_mul, pk_mul, nI_add, nI_add]
        · rw [zn_0, zn_eq (by omega) (by omega)] at c51
          refine zi_iconst (-1) dX7_patternAt_54 (by decide) ?_
          refine zi_iret dX7_patternAt_55 rfl ?_
          refine ⟨_, rfl, rfl, ?_⟩
          unfold zt_pat
          rw [if_neg c21, if_pos c51]; rfl
    · rw [zn_0, zn_eq (by omega) (by omega)] at c21
      refine zi_iconst (-1) dX7_patternAt_24 (by decide) ?_
      refine zi_iret dX7_patternAt_25 rfl ?_
      refine ⟨_, rfl, rfl, ?_⟩
      unfold zt_pat
      rw [if_pos c21]; rfl
theorem l7_places (ho : zt_ok h) (hr : zr_ok r) (hV : zt_V σ h w s) (hR : zr_V σ r fa go) : ∀ n i, i + n = 2 * w.length → zw_W l G (d + 3) mX7_places 4 [some (.ref h), some (.ref r), some (.int (nI ((List.range i).filter (zt_bi fa w)).length)), some (.int (nI i))] [] σ (fun x τ => ∃ y, x = some (.int y) ∧ σ = τ ∧ y = nI (zt_sp fa w).length) := by
  have k0 := ho.1
  have j0 := hr.1
  have h13 := hV.1
  intro n
  induction n with
  | zero =>
    intro i hi
    obtain rfl : i = 2 * w.length := by omega
    refine zi_ild3 dX7_places_4 ?_
    refine zi_iconst (nI 2) dX7_places_5 (by decide) ?_
    refine zi_ald0 dX7_places_6 ?_
    refine zi_getI dX7_places_7 flX7_18 rfl (by first | assumption | decide) ?_
    refine zi_imul dX7_places_10 ?_
    refine zi_icmp_ge 35 dX7_places_11 (by decide) (fun c11 => ?_) (fun c11 => ?_)
    · refine zi_ild2 dX7_places_35 ?_
      refine zi_iret dX7_places_36 rfl ?_
      exact ⟨_, rfl, rfl, rfl⟩
    · rw [hV.2.2.1, pk_mul, zn_le (by omega) (by omega)] at c11; omega
  | succ n ih =>
    intro i hi
    have hf : (if zt_pat w i < 8 then fa (zt_pat w i) else 0) < 2147483648 := by
      split
      · next q => have := (hR _ q).1; omega
      · omega
    refine zi_ild3 dX7_places_4 ?_
    refine zi_iconst (nI 2) dX7_places_5 (by decide) ?_
    refine zi_ald0 dX7_places_6 ?_
    refine zi_getI dX7_places_7 flX7_18 rfl (by first | assumption | decide) ?_
    refine zi_imul dX7_places_10 ?_
    refine zi_icmp_ge 35 dX7_places_11 (by decide) (fun c11 => ?_) (fun c11 => ?_)
    · rw [hV.2.2.1, pk_mul, zn_le (by omega) (by omega)] at c11; omega
    · refine zi_ald1 dX7_places_14 ?_
      refine zi_ald0 dX7_places_15 ?_
      refine zi_ild3 dX7_places_16 ?_
      refine zi_cV1i vmX7_patternAt lkX7_54 dX7_places_17 (by first | assumption | decide) (Nat.le_of_ble_eq_true rfl) (c7_patternAt ho hV (show i < 1000 by omega)) ?_
      rintro _ _ ⟨rfl, rfl⟩
      refine zi_cV1i vmX4_fateOf lkX7_57 dX7_places_20 (by first | assumption | decide) (Nat.le_of_ble_eq_true rfl) (c4_fateOf_g hr hR) ?_
      rintro _ _ ⟨rfl, rfl⟩
      refine zi_if_eq 29 dX7_places_23 (by decide) (fun c23 => ?_) (fun c23 => ?_)
      · refine zi_inc3 (nI 1) dX7_places_29 (by decide) (Nat.le_of_ble_eq_true rfl) rfl ?_
        refine zi_goto 4 dX7_places_32 (by decide) ?_
        first
        | (rw [nI_add, nI_add]
           have := ih (i + 1) (by omega)
           rw [zl_fs (zt_bi_iff.mpr c23)] at this
           exact this)
        | (rw [zn_0, zn_eq hf (by omega)] at c23
           rw [nI_add]
           have := ih (i + 1) (by omega)
           rw [zl_fn (by rw [← Bool.not_eq_true, zt_bi_iff]; exact fun q => q c23)] at this
           exact this)
      · rw [zn_0, zn_eq hf (by omega)] at c23
        refine zi_inc2 (nI 1) dX7_places_26 (by decide) (Nat.le_of_ble_eq_true rfl) rfl ?_
        refine zi_inc3 (nI 1) dX7_places_29 (by decide) (Nat.le_of_ble_eq_true rfl) rfl ?_
        refine zi_goto 4 dX7_places_32 (by decide) ?_
        first
        | (rw [nI_add, nI_add]
           have := ih (i + 1) (by omega)
           rw [zl_fs (zt_bi_iff.mpr c23)] at this
           exact this)
        | (rw [zn_0, zn_eq hf (by omega)] at c23
           rw [nI_add]
           have := ih (i + 1) (by omega)
           rw [zl_fn (by rw [← Bool.not_eq_true, zt_bi_iff]; exact fun q => q c23)] at this
           exact this)
theorem c7_places (ho : zt_ok h) (hr : zr_ok r) (hV : zt_V σ h w s) (hR : zr_V σ r fa go) : zw_Ti l G (d + 3) mX7_places [.ref h, .ref r] σ (fun x τ => σ = τ ∧ x = nI (zt_sp fa w).length) := by
  refine zw_enter2 (L := [some _, some _, none, none]) (by decide) (Nat.le_of_ble_eq_true rfl) rfl ?_
  refine zi_iconst (nI 0) dX7_places_0 (by decide) ?_
  refine zi_ist2 dX7_places_1 (Nat.le_of_ble_eq_true rfl) rfl ?_
  refine zi_iconst (nI 0) dX7_places_2 (by decide) ?_
  refine zi_ist3 dX7_places_3 (Nat.le_of_ble_eq_true rfl) rfl ?_
  exact l7_places ho hr hV hR (2 * w.length) 0 (by omega)
theorem l7_spotOf {k : Int32} (ho : zt_ok h) (hr : zr_ok r) (hV : zt_V σ h w s) (hR : zr_V σ r fa go) : ∀ n i, i + n = 2 * w.length → (∀ j, j < ((List.range i).filter (zt_bi fa w)).length → k ≠ nI j) → zw_W l G (d + 3) mX7_spotOf 5 [some (.ref h), some (.int k), some (.ref r), some (.int (nI ((List.range i).filter (zt_bi fa w)).length)), some (.int (nI i))] [] σ (fun x τ => ∃ y, x = some (.int y) ∧ σ = τ ∧ y = zp_oI (zp_at (zt_sp fa w) k)) := by
  have k0 := ho.1
  have j0 := hr.1
  have h13 := hV.1
  intro n
  induction n with
  | zero =>
    intro i hi hI
    obtain rfl : i = 2 * w.length := by omega
    have hle := zl_fle (s := 2 * w.length) (b := zt_bi fa w)
    refine zi_ild4 dX7_spotOf_5 ?_
    refine zi_iconst (nI 2) dX7_spotOf_7 (by decide) ?_
    refine zi_ald0 dX7_spotOf_8 ?_
    refine zi_getI dX7_spotOf_9 flX7_18 rfl (by first | assumption | decide) ?_
    refine zi_imul dX7_spotOf_12 ?_
    refine zi_icmp_ge 46 dX7_spotOf_13 (by decide) (fun c13 => ?_) (fun c13 => ?_)
    · refine zi_iconst (-1) dX7_spotOf_46 (by decide) ?_
      refine zi_iret dX7_spotOf_47 rfl ?_
      refine ⟨_, rfl, rfl, ?_⟩
      rw [zp_at_no (l := zt_sp fa w) (by show (List.filter _ _).length < _; omega) hI]; rfl
    · rw [hV.2.2.1, pk_mul, zn_le (by omega) (by omega)] at c13; omega
  | succ n ih =>
    intro i hi hI
    have hle := zl_fle (s := i) (b := zt_bi fa w)
    have hf : (if zt_pat w i < 8 then fa (zt_pat w i) else 0) < 2147483648 := by
      split
      · next q => have := (hR _ q).1; omega
      · omega
    refine zi_ild4 dX7_spotOf_5 ?_
    refine zi_iconst (nI 2) dX7_spotOf_7 (by decide) ?_
    refine zi_ald0 dX7_spotOf_8 ?_
    refine zi_getI dX7_spotOf_9 flX7_18 rfl (by first | assumption | decide) ?_
    refine zi_imul dX7_spotOf_12 ?_
    refine zi_icmp_ge 46 dX7_spotOf_13 (by decide) (fun c13 => ?_) (fun c13 => ?_)
    · rw [hV.2.2.1, pk_mul, zn_le (by omega) (by omega)] at c13; omega
    · refine zi_ald2 dX7_spotOf_16 ?_
      refine zi_ald0 dX7_spotOf_17 ?_
      refine zi_ild4 dX7_spotOf_18 ?_
      refine zi_cV1i vmX7_patternAt lkX7_54 dX7_spotOf_20 (by first | assumption | decide) (Nat.le_of_ble_eq_true rfl) (c7_patternAt ho hV (show i < 1000 by omega)) ?_
      rintro _ _ ⟨rfl, rfl⟩
      refine zi_cV1i vmX4_fateOf lkX7_57 dX7_spotOf_23 (by first | assumption | decide) (Nat.le_of_ble_eq_true rfl) (c4_fateOf_g hr hR) ?_
      rintro _ _ ⟨rfl, rfl⟩
      refine zi_if_eq 40 dX7_spotOf_26 (by decide) (fun c26 => ?_) (fun c26 => ?_)
      · refine zi_inc4 (nI 1) dX7_spotOf_40 (by decide) (Nat.le_of_ble_eq_true rfl) rfl ?_
        refine zi_goto 5 dX7_spotOf_43 (by decide) ?_
        first
        | (have hfs := zl_fs (zt_bi_iff.mpr c26)
           have := ih (i + 1) (by omega) (fun j hj => by
             rw [hfs] at hj
             by_cases e : j = ((List.range i).filter (zt_bi fa w)).length
             · rw [e]; exact fun q => c31 q.symm
             · exact hI j (by omega))
           rw [hfs] at this
           rw [nI_add, nI_add]
           exact this)
        | (rw [zn_0, zn_eq hf (by omega)] at c26
           have hfs := zl_fn (s := i) (b := zt_bi fa w) (by rw [← Bool.not_eq_true, zt_bi_iff]; exact fun q => q c26)
           have := ih (i + 1) (by omega) (fun j hj => by rw [hfs] at hj; exact hI j hj)
           rw [hfs] at this
           rw [nI_add]
           exact this)
      · rw [zn_0, zn_eq hf (by omega)] at c26
        refine zi_ild3 dX7_spotOf_29 ?_
        refine zi_ild1 dX7_spotOf_30 ?_
        refine zi_icmp_ne 37 dX7_spotOf_31 (by decide) (fun c31 => ?_) (fun c31 => ?_)
        · refine zi_inc3 (nI 1) dX7_spotOf_37 (by decide) (Nat.le_of_ble_eq_true rfl) rfl ?_
          refine zi_inc4 (nI 1) dX7_spotOf_40 (by decide) (Nat.le_of_ble_eq_true rfl) rfl ?_
          refine zi_goto 5 dX7_spotOf_43 (by decide) ?_
          first
          | (have hfs := zl_fs (zt_bi_iff.mpr c26)
             have := ih (i + 1) (by omega) (fun j hj => by
               rw [hfs] at hj
               by_cases e : j = ((List.range i).filter (zt_bi fa w)).length
               · rw [e]; exact fun q => c31 q.symm
               · exact hI j (by omega))
             rw [hfs] at this
             rw [nI_add, nI_add]
             exact this)
          | (rw [zn_0, zn_eq hf (by omega)] at c26
             have hfs := zl_fn (s := i) (b := zt_bi fa w) (by rw [← Bool.not_eq_true, zt_bi_iff]; exact fun q => q c26)
             have := ih (i + 1) (by omega) (fun j hj => by rw [hfs] at hj; exact hI j hj)
             rw [hfs] at this
             rw [nI_add]
             exact this)
        · refine zi_ild4 dX7_spotOf_34 ?_
          refine zi_iret dX7_spotOf_36 rfl ?_
          refine ⟨_, rfl, rfl, ?_⟩
          rw [← c31, zp_at_n (by omega)]
          unfold zt_sp
          rw [zl_kth (show i < 2 * w.length by omega) (zt_bi_iff.mpr c26)]; rfl
theorem c7_spotOf {k : Int32} (ho : zt_ok h) (hr : zr_ok r) (hV : zt_V σ h w s) (hR : zr_V σ r fa go) : zw_Ti l G (d + 3) mX7_spotOf [.ref h, .int k, .ref r] σ (fun x τ => σ = τ ∧ x = zp_oI (zp_at (zt_sp fa w) k)) := by
  refine zw_enter2 (L := [some _, some _, some _, none, none]) (by decide) (Nat.le_of_ble_eq_true rfl) rfl ?_
  refine zi_iconst (nI 0) dX7_spotOf_0 (by decide) ?_
  refine zi_ist3 dX7_spotOf_1 (Nat.le_of_ble_eq_true rfl) rfl ?_
  refine zi_iconst (nI 0) dX7_spotOf_2 (by decide) ?_
  refine zi_ist4 dX7_spotOf_3 (Nat.le_of_ble_eq_true rfl) rfl ?_
  exact l7_spotOf ho hr hV hR (2 * w.length) 0 (by omega) (fun j hj => by simp at hj)
theorem l7_rb1 {f t : Nat} {x1 x2 x3 x4 x5 : Int32} (ho : zt_ok h) (h13 : w.length ≤ 13) (ht : t < w.length) {P : Option Value → zw_S → Prop} (hk : ∀ τ v a, zw_F (zt_A h) σ τ → zt_V τ h v s → v.length = w.length → (∀ i, v.getD i 0 = if f ≤ i ∧ i < t then w.getD (i + 1) 0 else w.getD i 0) → zw_W l G (d + 2) mX7_rebuild 111 [some (.ref h), some (.int x1), some (.int x2), some (.int x3), some (.int x4), some (.int x5), some (.int (nI f)), some (.int (nI t)), some (.int a)] [] τ P) : ∀ n a τ v, a + n = max f t → f ≤ a → a < 100 → zw_F (zt_A h) σ τ → zt_V τ h v s → v.length = w.length → (∀ i, v.getD i 0 = if f ≤ i ∧ i < a then w.getD (i + 1) 0 else w.getD i 0) → zw_W l G (d + 2) mX7_rebuild 84 [some (.ref h), some (.int x1), some (.int x2), some (.int x3), some (.int x4), some (.int x5), some (.int (nI f)), some (.int (nI t)), some (.int (nI a))] [] τ P := by
  have k0 := ho.1
  intro n
  induction n with
  | zero =>
    intro a τ v hn hfa ha hF hT hl hI
    refine zi_ild8 dX7_rebuild_84 ?_
    refine zi_ild7 dX7_rebuild_86 ?_
    refine zi_icmp_ge 111 dX7_rebuild_88 (by decide) (fun c88 => ?_) (fun c88 => ?_)
    · refine hk τ v _ hF hT hl (fun i => ?_)
      rw [hI i]
      by_cases q : f ≤ i ∧ i < t
      · rw [if_pos q, if_pos ⟨q.1, by omega⟩]
      · rw [if_neg q, if_neg (by omega)]
    · rw [zn_le (by omega) (by omega)] at c88; omega
  | succ n ih =>
    intro a τ v hn hfa ha hF hT hl hI
    have hx := zl_getD_lt hT.2.1 (a + 1)
    refine zi_ild8 dX7_rebuild_84 ?_
    refine zi_ild7 dX7_rebuild_86 ?_
    refine zi_icmp_ge 111 dX7_rebuild_88 (by decide) (fun c88 => ?_) (fun c88 => ?_)
    · rw [zn_le (by omega) (by omega)] at c88; omega
    · refine zi_ald0 dX7_rebuild_91 ?_
      refine zi_ild8 dX7_rebuild_92 ?_
      refine zi_ald0 dX7_rebuild_94 ?_
      refine zi_ild8 dX7_rebuild_95 ?_
      refine zi_iconst (nI 1) dX7_rebuild_97 (by decide) ?_
      refine zi_iadd dX7_rebuild_98 ?_
      rw [nI_add]
      refine zi_cV1i vmX7_figureAt lkX7_32 dX7_rebuild_99 (by first | assumption | decide) (Nat.le_of_ble_eq_true rfl) (c7_figureAt ho hT (show a + 1 < 2147483648 by omega)) ?_
      rintro _ _ ⟨rfl, rfl⟩
      refine zi_cV2v vmX7_putFigure lkX7_47 dX7_rebuild_102 (by first | assumption | decide) (Nat.le_of_ble_eq_true rfl) (c7_putFigure ho hT (show a < v.length by omega) hx) ?_
      rintro τ2 ⟨hT2, hF2⟩
      refine zi_inc8 (nI 1) dX7_rebuild_105 (by decide) (Nat.le_of_ble_eq_true rfl) rfl ?_
      refine zi_goto 84 dX7_rebuild_108 (by decide) ?_
      rw [nI_add]
      refine ih (a + 1) τ2 _ (by omega) (by omega) (by omega) (hF.tr hF2 (fun _ q => q) (fun o q => by unfold zt_A; omega)) hT2 (by rw [List.length_set]; exact hl) (fun i => ?_)
      rw [zl_set (by omega)]
      by_cases e : i = a
      · rw [if_pos e, if_pos (by omega), hI, if_neg (by omega), e]
      · rw [if_neg e, hI i]
        by_cases q : f ≤ i ∧ i < a
        · rw [if_pos q, if_pos (by omega)]
        · rw [if_neg q, if_neg (by omega)]
theorem l7_rb2 {f t : Nat} {x1 x2 x3 x4 x5 : Int32} {v0 : List Nat} (ho : zt_ok h) (h13 : v0.length ≤ 13) (hf : f < v0.length) {P : Option Value → zw_S → Prop} (hk : ∀ τ v a, zw_F (zt_A h) σ τ → zt_V τ h v s → v.length = v0.length → (∀ i, v.getD i 0 = if t < i ∧ i ≤ f then v0.getD (i - 1) 0 else v0.getD i 0) → zw_W l G (d + 2) mX7_rebuild 142 [some (.ref h), some (.int x1), some (.int x2), some (.int x3), some (.int x4), some (.int x5), some (.int (nI f)), some (.int (nI t)), some (.int a)] [] τ P) : ∀ n a τ v, a = min f t + n → a ≤ f → zw_F (zt_A h) σ τ → zt_V τ h v s → v.length = v0.length → (∀ i, v.getD i 0 = if a < i ∧ i ≤ f then v0.getD (i - 1) 0 else v0.getD i 0) → t < 100 → zw_W l G (d + 2) mX7_rebuild 115 [some (.ref h), some (.int x1), some (.int x2), some (.int x3), some (.int x4), some (.int x5), some (.int (nI f)), some (.int (nI t)), some (.int (nI a))] [] τ P := by
  have k0 := ho.1
  intro n
  induction n with
  | zero =>
    intro a τ v hn hfa hF hT hl hI ht
    refine zi_ild8 dX7_rebuild_115 ?_
    refine zi_ild7 dX7_rebuild_117 ?_
    refine zi_icmp_le 142 dX7_rebuild_119 (by decide) (fun c119 => ?_) (fun c119 => ?_)
    · refine hk τ v _ hF hT hl (fun i => ?_)
      rw [hI i]
      by_cases q : t < i ∧ i ≤ f
      · rw [if_pos q, if_pos ⟨by omega, q.2⟩]
      · rw [if_neg q, if_neg (by omega)]
    · rw [zn_le (by omega) (by omega)] at c119; omega
  | succ n ih =>
    intro a τ v hn hfa hF hT hl hI ht
    have hx := zl_getD_lt hT.2.1 (a - 1)
    refine zi_ild8 dX7_rebuild_115 ?_
    refine zi_ild7 dX7_rebuild_117 ?_
    refine zi_icmp_le 142 dX7_rebuild_119 (by decide) (fun c119 => ?_) (fun c119 => ?_)
    · rw [zn_le (by omega) (by omega)] at c119; omega
    · refine zi_ald0 dX7_rebuild_122 ?_
      refine zi_ild8 dX7_rebuild_123 ?_
      refine zi_ald0 dX7_rebuild_125 ?_
      refine zi_ild8 dX7_rebuild_126 ?_
      refine zi_iconst (nI 1) dX7_rebuild_128 (by decide) ?_
      refine zi_isub dX7_rebuild_129 ?_
      rw [pk_sub (by omega)]
      refine zi_cV1i vmX7_figureAt lkX7_32 dX7_rebuild_130 (by first | assumption | decide) (Nat.le_of_ble_eq_true rfl) (c7_figureAt ho hT (show a - 1 < 2147483648 by omega)) ?_
      rintro _ _ ⟨rfl, rfl⟩
      refine zi_cV2v vmX7_putFigure lkX7_47 dX7_rebuild_133 (by first | assumption | decide) (Nat.le_of_ble_eq_true rfl) (c7_putFigure ho hT (show a < v.length by omega) hx) ?_
      rintro τ2 ⟨hT2, hF2⟩
      refine zi_inc8 (-1) dX7_rebuild_136 (by decide) (Nat.le_of_ble_eq_true rfl) rfl ?_
      refine zi_goto 115 dX7_rebuild_139 (by decide) ?_
      obtain ⟨b, rfl⟩ : ∃ b, a = b + 1 := ⟨a - 1, by omega⟩
      rw [pk_m1]
      refine ih b τ2 _ (by omega) (by omega) (hF.tr hF2 (fun _ q => q) (fun o q => by unfold zt_A; omega)) hT2 (by rw [List.length_set]; exact hl) (fun i => ?_) ht
      rw [zl_set (by omega)]
      by_cases e : i = b + 1
      · rw [if_pos e, if_pos (by omega), hI, if_neg (by omega), e]
      · rw [if_neg e, hI i]
        by_cases q : b + 1 < i ∧ i ≤ f
        · rw [if_pos q, if_pos (by omega)]
        · rw [if_neg q, if_neg (by omega)]
theorem l7_rb80 {f t n g : Nat} {x1 x4 x5 : Int32} {x8 : Option Value} {z : List Nat} (ho : zt_ok h) (hV : zt_V σ h w s) (hf : f < w.length) (ht : t < w.length) (hn : n < w.length) (hg : g < 8) (hzl : z.length = w.length) (hz : ∀ i, i < w.length → z.getD i 0 = if i = t then g / 2 % 2 + 1 else if i = n then g / 4 + 1 else if f ≤ i ∧ i < t then w.getD (i + 1) 0 else if t < i ∧ i ≤ f then w.getD (i - 1) 0 else w.getD i 0) : zw_W l G (d + 2) mX7_rebuild 80 [some (.ref h), some (.int x1), some (.int (nI g)), some (.int (nI n)), some (.int x4), some (.int x5), some (.int (nI f)), some (.int (nI t)), x8] [] σ (fun x υ => x = none ∧ zt_V υ h z s ∧ zw_F (zt_A h) σ υ) := by
  have k0 := ho.1
  have h13 := hV.1
  refine zi_ild6 dX7_rebuild_80 ?_
  refine zi_ist8 dX7_rebuild_82 (Nat.le_of_ble_eq_true rfl) rfl ?_
  refine l7_rb1 (w := w) (f := f) (t := t) ho h13 ht ?_ (max f t - f) f σ w (by omega) (Nat.le_refl f) (by omega) zw_F.rf hV rfl (fun i => by rw [if_neg (by omega)])
  intro τ1 v1 a1 hF1 hT1 hl1 hI1
  refine zi_ild6 dX7_rebuild_111 ?_
  refine zi_ist8 dX7_rebuild_113 (Nat.le_of_ble_eq_true rfl) rfl ?_
  refine l7_rb2 (v0 := v1) (f := f) (t := t) (σ := σ) ho (by omega) (by omega) ?_ (f - min f t) f τ1 v1 (by omega) (Nat.le_refl f) hF1 hT1 rfl (fun i => by rw [if_neg (by omega)]) (by omega)
  intro τ2 v2 a2 hF2 hT2 hl2 hI2
  refine zi_ald0 dX7_rebuild_142 ?_
  refine zi_ild3 dX7_rebuild_143 ?_
  refine zi_ild2 dX7_rebuild_144 ?_
  refine zi_iconst (nI 2) dX7_rebuild_145 (by decide) ?_
  refine zi_ishr dX7_rebuild_146 ?_
  refine zi_iconst (nI 1) dX7_rebuild_147 (by decide) ?_
  refine zi_iand dX7_rebuild_148 ?_
  refine zi_iconst (nI 1) dX7_rebuild_149 (by decide) ?_
  refine zi_iadd dX7_rebuild_150 ?_
  rw [pk_shrN (by omega) _ 2 rfl, pk_andN (by omega) (m := nI 1) 1 rfl, nI_add]
  refine zi_cV2v vmX7_putFigure lkX7_47 dX7_rebuild_151 (by first | assumption | decide) (Nat.le_of_ble_eq_true rfl) (c7_putFigure (x := g / 2 ^ 2 % 2 ^ 1 + 1) ho hT2 (show n < v2.length by omega) (by omega)) ?_
  rintro τ3 ⟨hT3, hF3⟩
  refine zi_ald0 dX7_rebuild_154 ?_
  refine zi_ild7 dX7_rebuild_155 ?_
  refine zi_ild2 dX7_rebuild_157 ?_
  refine zi_iconst (nI 1) dX7_rebuild_158 (by decide) ?_
  refine zi_ishr dX7_rebuild_159 ?_
  refine zi_iconst (nI 1) dX7_rebuild_160 (by decide) ?_
  refine zi_iand dX7_rebuild_161 ?_
  refine zi_iconst (nI 1) dX7_rebuild_162 (by decide) ?_
  refine zi_iadd dX7_rebuild_163 ?_
  rw [pk_shrN (by omega) _ 1 rfl, pk_andN (by omega) (m := nI 1) 1 rfl, nI_add]
  refine zi_cV2v vmX7_putFigure lkX7_47 dX7_rebuild_164 (by first | assumption | decide) (Nat.le_of_ble_eq_true rfl) (c7_putFigure (x := g / 2 ^ 1 % 2 ^ 1 + 1) ho hT3 (show t < (v2.set n _).length by rw [List.length_set]; omega) (by omega)) ?_
  rintro τ4 ⟨hT4, hF4⟩
  refine zi_ret dX7_rebuild_167 rfl ?_
  refine ⟨rfl, ?_, (hF2.tr hF3 (fun _ q => q) (fun o q => by unfold zt_A; omega)).tr hF4 (fun _ q => q) (fun o q => by unfold zt_A; omega)⟩
  have e : (v2.set n (g / 2 ^ 2 % 2 ^ 1 + 1)).set t (g / 2 ^ 1 % 2 ^ 1 + 1) = z := by
    refine zl_ext (by rw [List.length_set, List.length_set]; omega) (fun i hi => ?_)
    rw [List.length_set, List.length_set] at hi
    rw [zl_set (by rw [List.length_set]; omega), zl_set (by omega), hz i (by omega), hI2 i, hI1 i, hI1 (i - 1)]
    by_cases e1 : i = t
    · rw [if_pos e1, if_pos e1]
    · rw [if_neg e1, if_neg e1]
      by_cases e2 : i = n
      · rw [if_pos e2, if_pos e2]
        have : g / 4 < 2 := by omega
        omega
      · rw [if_neg e2, if_neg e2]
        by_cases e3 : t < i ∧ i ≤ f
        · rw [if_pos e3, if_neg (by omega), if_neg (by omega), if_pos e3]
        · rw [if_neg e3]
          by_cases e4 : f ≤ i ∧ i < t
          · rw [if_pos e4, if_pos e4]
          · rw [if_neg e4, if_neg e4, if_neg e3]
  rw [e] at hT4
  exact hT4
end Z15
