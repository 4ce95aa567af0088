/-! the model: fate, dual, clear -/
section Z41
variable {l : Launch} {G : zw_G} {d : Nat} {σ : zw_S} {A : zx_T} {X : zg_X} {fa go : Nat → Nat}
theorem c9_mayBecome (hR : zy_r σ 0 fa go) {p q : Nat} (hp : p < 8) (hq : q < 8) : zw_Ti l G (d + 2) mX9_mayBecome [.ref 168, .int (nI p), .int (nI q)] σ (fun x τ => σ = τ ∧ x = if q ≠ p ∧ fa q = 0 ∧ (zr_mk go q 8 = 8 ∨ zr_mk go q 8 = p) then nI 1 else nI 0) := by
  have m1 := zr_mk_le go q 8
  have hf := (hR q hq).1
  refine zw_enter2 (L := [some _, some _, some _]) (by decide) (Nat.le_of_ble_eq_true rfl) rfl ?_
  refine zi_ild2 dX9_mayBecome_0 ?_
  refine zi_ild1 dX9_mayBecome_1 ?_
  refine zi_icmp_eq 39 dX9_mayBecome_2 (by decide) (fun c2 => ?_) (fun c2 => ?_)
  · refine zi_iconst (nI 0) dX9_mayBecome_39 (by decide) ?_
    refine zi_zret dX9_mayBecome_40 rfl (by decide) ?_
    refine ⟨_, rfl, rfl, ?_⟩
    simp only [zn_0, zn_eq (show q < 2147483648 by omega) (show p < 2147483648 by omega), zn_eq (show fa q < 2147483648 by omega) (show 0 < 2147483648 by omega), zp_gI_m1, zp_gI_eq hp] at *
    first
    | (rw [if_pos ⟨c2, c14, Or.inl (by omega)⟩]; done)
    | (rw [if_pos ⟨c2, c14, Or.inr c32⟩]; done)
    | (rw [if_neg (fun h => by have := h.2.2; omega)]; done)
    | (rw [if_neg (fun h => c14 h.2.1)]; done)
    | (rw [if_neg (fun h => h.1 c2)]; done)
  · refine zi_ald0 dX9_mayBecome_5 ?_
    refine zi_getR dX9_mayBecome_6 flX9_7 rfl (by first | assumption | decide) ?_
    refine zi_bipush (nI 17) dX9_mayBecome_9 (by decide) ?_
    refine zi_ild2 dX9_mayBecome_11 ?_
    refine zi_iadd dX9_mayBecome_12 ?_
    refine zi_ialdN (17 + q) dX9_mayBecome_13 (by first | assumption | decide) (nI_add _ _) (zy_b1 (by omega)) (by decide) ?_
    rw [hR.f0 hq]
    refine zi_if_ne 39 dX9_mayBecome_14 (by decide) (fun c14 => ?_) (fun c14 => ?_)
    · refine zi_iconst (nI 0) dX9_mayBecome_39 (by decide) ?_
      refine zi_zret dX9_mayBecome_40 rfl (by decide) ?_
      refine ⟨_, rfl, rfl, ?_⟩
      simp only [zn_0, zn_eq (show q < 2147483648 by omega) (show p < 2147483648 by omega), zn_eq (show fa q < 2147483648 by omega) (show 0 < 2147483648 by omega), zp_gI_m1, zp_gI_eq hp] at *
      first
      | (rw [if_pos ⟨c2, c14, Or.inl (by omega)⟩]; done)
      | (rw [if_pos ⟨c2, c14, Or.inr c32⟩]; done)
      | (rw [if_neg (fun h => by have := h.2.2; omega)]; done)
      | (rw [if_neg (fun h => c14 h.2.1)]; done)
      | (rw [if_neg (fun h => h.1 c2)]; done)
    · refine zi_ald0 dX9_mayBecome_17 ?_
      refine zi_ild2 dX9_mayBecome_18 ?_
      refine zi_cV1i vmX9_comesFrom lkX9_142 dX9_mayBecome_19 (by first | assumption | decide) (Nat.le_of_ble_eq_true rfl) (c9_comesFrom hR hq) ?_
      rintro _ _ ⟨rfl, rfl⟩
      refine zi_iconst (-1) dX9_mayBecome_22 (by decide) ?_
      refine zi_icmp_eq 35 dX9_mayBecome_23 (by decide) (fun c23 => ?_) (fun c23 => ?_)
      · refine zi_iconst (nI 1) dX9_mayBecome_35 (by decide) ?_
        refine zi_goto 40 dX9_mayBecome_36 (by decide) ?_
        refine zi_zret dX9_mayBecome_40 rfl (by decide) ?_
        refine ⟨_, rfl, rfl, ?_⟩
        simp only [zn_0, zn_eq (show q < 2147483648 by omega) (show p < 2147483648 by omega), zn_eq (show fa q < 2147483648 by omega) (show 0 < 2147483648 by omega), zp_gI_m1, zp_gI_eq hp] at *
        first
        | (rw [if_pos ⟨c2, c14, Or.inl (by omega)⟩]; done)
        | (rw [if_pos ⟨c2, c14, Or.inr c32⟩]; done)
        | (rw [if_neg (fun h => by have := h.2.2; omega)]; done)
        | (rw [if_neg (fun h => c14 h.2.1)]; done)
        | (rw [if_neg (fun h => h.1 c2)]; done)
      · refine zi_ald0 dX9_mayBecome_26 ?_
        refine zi_ild2 dX9_mayBecome_27 ?_
        refine zi_cV1i vmX9_comesFrom lkX9_142 dX9_mayBecome_28 (by first | assumption | decide) (Nat.le_of_ble_eq_true rfl) (c9_comesFrom hR hq) ?_
        rintro _ _ ⟨rfl, rfl⟩
        refine zi_ild1 dX9_mayBecome_31 ?_
        refine zi_icmp_ne 39 dX9_mayBecome_32 (by decide) (fun c32 => ?_) (fun c32 => ?_)
        · refine zi_iconst (nI 0) dX9_mayBecome_39 (by decide) ?_
          refine zi_zret dX9_mayBecome_40 rfl (by decide) ?_
          refine ⟨_, rfl, rfl, ?_⟩
          simp only [zn_0, zn_eq (show q < 2147483648 by omega) (show p < 2147483648 by omega), zn_eq (show fa q < 2147483648 by omega) (show 0 < 2147483648 by omega), zp_gI_m1, zp_gI_eq hp] at *
          first
          | (rw [if_pos ⟨c2, c14, Or.inl (by omega)⟩]; done)
          | (rw [if_pos ⟨c2, c14, Or.inr c32⟩]; done)
          | (rw [if_neg (fun h => by have := h.2.2; omega)]; done)
          | (rw [if_neg (fun h => c14 h.2.1)]; done)
          | (rw [if_neg (fun h => h.1 c2)]; done)
        · refine zi_iconst (nI 1) dX9_mayBecome_35 (by decide) ?_
          refine zi_goto 40 dX9_mayBecome_36 (by decide) ?_
          refine zi_zret dX9_mayBecome_40 rfl (by decide) ?_
          refine ⟨_, rfl, rfl, ?_⟩
          simp only [zn_0, zn_eq (show q < 2147483648 by omega) (show p < 2147483648 by omega), zn_eq (show fa q < 2147483648 by omega) (show 0 < 2147483648 by omega), zp_gI_m1, zp_gI_eq hp] at *
          first
          | (rw [if_pos ⟨c2, c14, Or.inl (by omega)⟩]; done)
          | (rw [if_pos ⟨c2, c14, Or.inr c32⟩]; done)
          | (rw [if_neg (fun h => by have := h.2.2; omega)]; done)
          | (rw [if_neg (fun h => c14 h.2.1)]; done)
          | (rw [if_neg (fun h => h.1 c2)]; done)
theorem zy_R.fate (h : zy_R σ 0 X) {a k b : Nat} {y : Int32} (ha : a < 8) (hk : k < 4) (hb : b < 8) (hy : y = if 2 ≤ k then nI b else -1) : zy_R (zw_pI (zw_pI σ (168 + 1) (17 + a) (nI k)) (168 + 1) (25 + a) y) 0 (X.1, zr_up X.2.1 a k, zr_up X.2.2 a (if 2 ≤ k then b else 8)) := by
  obtain ⟨v1, v2, v3, v4, v5⟩ := h
  refine ⟨v1, v2, ?_, fun i hi => ?_, fun p hp => ?_⟩
  · rw [zs_slot (by omega), zs_slot (by omega)]; exact v3
  · have hi : i < X.1.length := hi
    rw [zs_slot (by omega), zs_slot (by omega), zs_slot (by omega), zs_slot (by omega)]; exact v4 i hi
  · obtain ⟨w1, w2, w3, w4, w5⟩ := v5 p hp
    show zr_up X.2.1 a k p < 4 ∧ zr_up X.2.2 a (if 2 ≤ k then b else 8) p ≤ 8 ∧ (2 ≤ zr_up X.2.1 a k p ↔ zr_up X.2.2 a (if 2 ≤ k then b else 8) p < 8) ∧ (zw_pI (zw_pI σ (168 + 1) (17 + a) (nI k)) (168 + 1) (25 + a) y).1 (168 + 1) (0 + (17 + p)) = nI (zr_up X.2.1 a k p) ∧ (zw_pI (zw_pI σ (168 + 1) (17 + a) (nI k)) (168 + 1) (25 + a) y).1 (168 + 1) (0 + (25 + p)) = zp_gI (zr_up X.2.2 a (if 2 ≤ k then b else 8) p)
    unfold zr_up
    by_cases e : p = a
    · subst e
      rw [if_pos rfl, if_pos rfl, Nat.zero_add, Nat.zero_add, zs_slot (by omega), zs_same, zs_same, hy]
      by_cases q : 2 ≤ k
      · rw [if_pos q, if_pos q]
        exact ⟨hk, by omega, by omega, rfl, (zp_gI_lt hb).symm⟩
      · rw [if_neg q, if_neg q]
        exact ⟨hk, by omega, by omega, rfl, rfl⟩
    · rw [if_neg e, if_neg e, Nat.zero_add, Nat.zero_add, zs_slot (by omega), zs_slot (by omega), zs_slot (by omega), zs_slot (by omega)]
      rw [Nat.zero_add] at w4 w5
      exact ⟨w1, w2, w3, w4, w5⟩
theorem l9_fate70 (hV : zy_V σ A) {a k b : Nat} {q : Int32} (ha : a < 8) (hk : k < 4) (hb : b < 8) (hy : 2 ≤ k → q = nI b) : zw_W l G (d + 3) mX9_fate 70 [some (.ref 168), some (.int (nI a)), some (.int (nI k)), some (.int q), none] [] σ (fun r υ => ∃ x, r = some (.int x) ∧ x = nI (A.1.2.1 a) ∧ zy_V υ (zx_dd A (A.1.1, zr_up A.1.2.1 a k, zr_up A.1.2.2 a (if 2 ≤ k then b else 8))) ∧ zy_F σ υ) := by
  refine zi_ald0 dX9_fate_70 ?_
  refine zi_cV0v vmX9_remember lkX9_156 dX9_fate_71 (by first | assumption | decide) (Nat.le_of_ble_eq_true rfl) (c9_remember hV) ?_
  rintro τ1 ⟨hV1, hM1⟩
  have hR1 : zy_r τ1 0 A.1.2.1 A.1.2.2 := hV1.1.2.2.2.2
  refine zi_ald0 dX9_fate_74 ?_
  refine zi_getR dX9_fate_75 flX9_7 rfl (by first | assumption | decide) ?_
  refine zi_bipush (nI 17) dX9_fate_78 (by decide) ?_
  refine zi_ild1 dX9_fate_80 ?_
  refine zi_iadd dX9_fate_81 ?_
  refine zi_ialdN (17 + a) dX9_fate_82 (by first | assumption | decide) (nI_add _ _) (zy_b1 (by omega)) (by decide) ?_
  rw [hR1.f0 ha]
  refine zi_ist4 dX9_fate_83 (Nat.le_of_ble_eq_true rfl) rfl ?_
  refine zi_ald0 dX9_fate_85 ?_
  refine zi_getR dX9_fate_86 flX9_7 rfl (by first | assumption | decide) ?_
  refine zi_bipush (nI 17) dX9_fate_89 (by decide) ?_
  refine zi_ild1 dX9_fate_91 ?_
  refine zi_iadd dX9_fate_92 ?_
  refine zi_ild2 dX9_fate_93 ?_
  refine zi_iastN (17 + a) dX9_fate_94 (by first | assumption | decide) (nI_add _ _) (zy_b1 (by omega)) (by decide) ?_
  refine zi_ald0 dX9_fate_95 ?_
  refine zi_getR dX9_fate_96 flX9_7 rfl (by first | assumption | decide) ?_
  refine zi_bipush (nI 25) dX9_fate_99 (by decide) ?_
  refine zi_ild1 dX9_fate_101 ?_
  refine zi_iadd dX9_fate_102 ?_
  refine zi_ild2 dX9_fate_103 ?_
  refine zi_iconst (nI 2) dX9_fate_104 (by decide) ?_
  refine zi_icmp_lt 112 dX9_fate_105 (by decide) (fun c105 => ?_) (fun c105 => ?_)
  · refine zi_iconst (-1) dX9_fate_112 (by decide) ?_
    refine zi_iastN (25 + a) dX9_fate_113 (by first | assumption | decide) (nI_add _ _) (zy_b1 (by omega)) (by decide) ?_
    refine zi_ild4 dX9_fate_114 ?_
    refine zi_iret dX9_fate_116 rfl ?_
    rw [zn_lt (by omega) (by omega)] at c105
    refine ⟨_, rfl, rfl, hV1.q (X := (A.1.1, zr_up A.1.2.1 a k, zr_up A.1.2.2 a (if 2 ≤ k then b else 8))) ((zy_Q.rf.row (by omega)).row (by omega)) (zy_R.fate hV1.1 ha hk hb ?_), hM1.f.tr ((zy_F.rf.pI (by decide)).pI (by decide))⟩
    first
    | (rw [if_neg (by omega)]; done)
    | (rw [if_pos (by omega)]; exact hy (by omega))
  · refine zi_ild3 dX9_fate_108 ?_
    refine zi_goto 113 dX9_fate_109 (by decide) ?_
    refine zi_iastN (25 + a) dX9_fate_113 (by first | assumption | decide) (nI_add _ _) (zy_b1 (by omega)) (by decide) ?_
    refine zi_ild4 dX9_fate_114 ?_
    refine zi_iret dX9_fate_116 rfl ?_
    rw [zn_lt (by omega) (by omega)] at c105
    refine ⟨_, rfl, rfl, hV1.q (X := (A.1.1, zr_up A.1.2.1 a k, zr_up A.1.2.2 a (if 2 ≤ k then b else 8))) ((zy_Q.rf.row (by omega)).row (by omega)) (zy_R.fate hV1.1 ha hk hb ?_), hM1.f.tr ((zy_F.rf.pI (by decide)).pI (by decide))⟩
    first
    | (rw [if_neg (by omega)]; done)
    | (rw [if_pos (by omega)]; exact hy (by omega))
theorem l9_fate40 (hV : zy_V σ A) {a k b : Nat} {q : Int32} (ha : a < 8) (hk : k < 4) (hb : b < 8) (hy : 2 ≤ k → q = nI b) : zw_W l G (d + 3) mX9_fate 40 [some (.ref 168), some (.int (nI a)), some (.int (nI k)), some (.int q), none] [] σ (fun r υ => ∃ x, r = some (.int x) ∧ x = (if zr_al A.1.2.1 A.1.2.2 a k b then (nI (A.1.2.1 a), zx_dd A (A.1.1, zr_up A.1.2.1 a k, zr_up A.1.2.2 a (if 2 ≤ k then b else 8))) else (zx_NO, A)).1 ∧ zy_V υ (if zr_al A.1.2.1 A.1.2.2 a k b then (nI (A.1.2.1 a), zx_dd A (A.1.1, zr_up A.1.2.1 a k, zr_up A.1.2.2 a (if 2 ≤ k then b else 8))) else (zx_NO, A)).2 ∧ zy_F σ υ) := by
  have hR := hV.1.2.2.2.2
  have m1 := zr_mk_le A.1.2.2 a 8
  have no : zr_al A.1.2.1 A.1.2.2 a k b = false → ∃ x, (some (Value.int (-1000000003)) : Option Value) = some (.int x) ∧ x = (if zr_al A.1.2.1 A.1.2.2 a k b then (nI (A.1.2.1 a), zx_dd A (A.1.1, zr_up A.1.2.1 a k, zr_up A.1.2.2 a (if 2 ≤ k then b else 8))) else (zx_NO, A)).1 ∧ zy_V σ (if zr_al A.1.2.1 A.1.2.2 a k b then (nI (A.1.2.1 a), zx_dd A (A.1.1, zr_up A.1.2.1 a k, zr_up A.1.2.2 a (if 2 ≤ k then b else 8))) else (zx_NO, A)).2 ∧ zy_F σ σ := fun h => by
    rw [h, if_neg (by decide)]
    exact ⟨_, rfl, rfl, hV, zy_F.rf⟩
  have yes : zr_al A.1.2.1 A.1.2.2 a k b = true → zw_W l G (d + 3) mX9_fate 70 [some (.ref 168), some (.int (nI a)), some (.int (nI k)), some (.int q), none] [] σ (fun r υ => ∃ x, r = some (.int x) ∧ x = (if zr_al A.1.2.1 A.1.2.2 a k b then (nI (A.1.2.1 a), zx_dd A (A.1.1, zr_up A.1.2.1 a k, zr_up A.1.2.2 a (if 2 ≤ k then b else 8))) else (zx_NO, A)).1 ∧ zy_V υ (if zr_al A.1.2.1 A.1.2.2 a k b then (nI (A.1.2.1 a), zx_dd A (A.1.1, zr_up A.1.2.1 a k, zr_up A.1.2.2 a (if 2 ≤ k then b else 8))) else (zx_NO, A)).2 ∧ zy_F σ υ) := fun h => by
    rw [h, if_pos rfl]
    exact l9_fate70 hV ha hk hb hy
  by_cases h2 : 2 ≤ k
  · obtain rfl := hy h2
    have ek : (k == 0) = false := by simp; omega
    have ek1 : (k == 1) = false := by simp; omega
    refine zi_ild2 dX9_fate_40 ?_
    refine zi_iconst (nI 2) dX9_fate_41 (by decide) ?_
    refine zi_icmp_lt 54 dX9_fate_42 (by decide) (fun c42 => ?_) (fun c42 => ?_)
    · rw [zn_lt (by omega) (by omega)] at c42; omega
    · refine zi_ald0 dX9_fate_45 ?_
      refine zi_ild1 dX9_fate_46 ?_
      refine zi_ild3 dX9_fate_47 ?_
      refine zi_cV2i vmX9_mayBecome lkX9_218 dX9_fate_48 (by first | assumption | decide) (Nat.le_of_ble_eq_true rfl) (c9_mayBecome hR ha hb) ?_
      rintro _ _ ⟨rfl, rfl⟩
      refine zi_if_eq 67 dX9_fate_51 (by decide) (fun c51 => ?_) (fun c51 => ?_)
      · refine zi_ldc dX9_fate_67 kcX9_217 ?_
        refine zi_iret dX9_fate_69 rfl ?_
        refine no ?_
        first
        | (rw [zp_gI_m1] at c64
           have e : (zr_mk A.1.2.2 a 8 == 8) = false := by simp; omega
           unfold zr_al; rw [ek, e]; rfl)
        | (by_cases h : b ≠ a ∧ A.1.2.1 b = 0 ∧ (zr_mk A.1.2.2 b 8 = 8 ∨ zr_mk A.1.2.2 b 8 = a)
           · rw [if_pos h] at c51; exact absurd c51 (by decide)
           · have e : (b != a && (A.1.2.1 b == 0 && (zr_mk A.1.2.2 b 8 == 8 || zr_mk A.1.2.2 b 8 == a))) = false := by
               rw [← Bool.not_eq_true]
               simp only [Bool.and_eq_true, Bool.or_eq_true, bne_iff_ne, beq_iff_eq]
               exact h
             unfold zr_al; rw [ek, ek1, e]; simp)
      · have hm : b ≠ a ∧ A.1.2.1 b = 0 ∧ (zr_mk A.1.2.2 b 8 = 8 ∨ zr_mk A.1.2.2 b 8 = a) := by
          by_cases h : b ≠ a ∧ A.1.2.1 b = 0 ∧ (zr_mk A.1.2.2 b 8 = 8 ∨ zr_mk A.1.2.2 b 8 = a)
          · exact h
          · rw [if_neg h] at c51; exact absurd rfl c51
        refine zi_ild2 dX9_fate_54 ?_
        refine zi_if_eq 70 dX9_fate_55 (by decide) (fun c55 => ?_) (fun c55 => ?_)
        · rw [zn_0, zn_eq (by omega) (by omega)] at c55; omega
        · refine zi_ald0 dX9_fate_58 ?_
          refine zi_ild1 dX9_fate_59 ?_
          refine zi_cV1i vmX9_comesFrom lkX9_142 dX9_fate_60 (by first | assumption | decide) (Nat.le_of_ble_eq_true rfl) (c9_comesFrom hR ha) ?_
          rintro _ _ ⟨rfl, rfl⟩
          refine zi_iconst (-1) dX9_fate_63 (by decide) ?_
          refine zi_icmp_eq 70 dX9_fate_64 (by decide) (fun c64 => ?_) (fun c64 => ?_)
          · rw [zp_gI_m1] at c64
            refine yes ?_
            have e1 : (zr_mk A.1.2.2 a 8 == 8) = true := by simp; omega
            have e : (b != a && (A.1.2.1 b == 0 && (zr_mk A.1.2.2 b 8 == 8 || zr_mk A.1.2.2 b 8 == a))) = true := by
              simp only [Bool.and_eq_true, Bool.or_eq_true, bne_iff_ne, beq_iff_eq]
              exact hm
            unfold zr_al; rw [ek, e1, e]; simp
          · refine zi_ldc dX9_fate_67 kcX9_217 ?_
            refine zi_iret dX9_fate_69 rfl ?_
            refine no ?_
            first
            | (rw [zp_gI_m1] at c64
               have e : (zr_mk A.1.2.2 a 8 == 8) = false := by simp; omega
               unfold zr_al; rw [ek, e]; rfl)
            | (by_cases h : b ≠ a ∧ A.1.2.1 b = 0 ∧ (zr_mk A.1.2.2 b 8 = 8 ∨ zr_mk A.1.2.2 b 8 = a)
               · rw [if_pos h] at c51; exact absurd c51 (by decide)
               · have e : (b != a && (A.1.2.1 b == 0 && (zr_mk A.1.2.2 b 8 == 8 || zr_mk A.1.2.2 b 8 == a))) = false := by
                   rw [← Bool.not_eq_true]
                   simp only [Bool.and_eq_true, Bool.or_eq_true, bne_iff_ne, beq_iff_eq]
                   exact h
                 unfold zr_al; rw [ek, ek1, e]; simp)
  · refine zi_ild2 dX9_fate_40 ?_
    refine zi_iconst (nI 2) dX9_fate_41 (by decide) ?_
    refine zi_icmp_lt 54 dX9_fate_42 (by decide) (fun c42 => ?_) (fun c42 => ?_)
    · refine zi_ild2 dX9_fate_54 ?_
      refine zi_if_eq 70 dX9_fate_55 (by decide) (fun c55 => ?_) (fun c55 => ?_)
      · refine yes ?_
        rw [zn_0, zn_eq (by omega) (by omega)] at c55
        first
        | (rw [zp_gI_m1] at c64
           have e : (zr_mk A.1.2.2 a 8 == 8) = true := by simp; omega
           have ek : (k == 1) = true := by simp; omega
           unfold zr_al; rw [e, ek]; simp)
        | (have ek : (k == 0) = true := by simp; omega
           unfold zr_al; rw [ek]; rfl)
      · refine zi_ald0 dX9_fate_58 ?_
        refine zi_ild1 dX9_fate_59 ?_
        refine zi_cV1i vmX9_comesFrom lkX9_142 dX9_fate_60 (by first | assumption | decide) (Nat.le_of_ble_eq_true rfl) (c9_comesFrom hR ha) ?_
        rintro _ _ ⟨rfl, rfl⟩
        refine zi_iconst (-1) dX9_fate_63 (by decide) ?_
        refine zi_icmp_eq 70 dX9_fate_64 (by decide) (fun c64 => ?_) (fun c64 => ?_)
        · refine yes ?_
          rw [zn_0, zn_eq (by omega) (by omega)] at c55
          first
          | (rw [zp_gI_m1] at c64
             have e : (zr_mk A.1.2.2 a 8 == 8) = true := by simp; omega
             have ek : (k == 1) = true := by simp; omega
             unfold zr_al; rw [e, ek]; simp)
          | (have ek : (k == 0) = true := by simp; omega
             unfold zr_al; rw [ek]; rfl)
        · refine zi_ldc dX9_fate_67 kcX9_217 ?_
          refine zi_iret dX9_fate_69 rfl ?_
          refine no ?_
          rw [zn_0, zn_eq (by omega) (by omega)] at c55
          rw [zp_gI_m1] at c64
          have ek : (k == 0) = false := by simp; omega
          have e : (zr_mk A.1.2.2 a 8 == 8) = false := by simp; omega
          unfold zr_al; rw [ek, e]; rfl
    · rw [zn_lt (by omega) (by omega)] at c42; omega
theorem c9_fate (hV : zy_V σ A) {p v q : Int32} : zw_Ti l G (d + 3) mX9_fate [.ref 168, .int p, .int v, .int q] σ (fun x υ => x = (zx_fate A p v q).1 ∧ zy_V υ (zx_fate A p v q).2 ∧ zy_F σ υ) := by
  rcases zn_case p (n := 8) (by omega) with ho | ⟨a, ha, rfl⟩
  · have e : zx_fate A p v q = (zx_UN, A) := by unfold zx_fate; rw [zx_ix_out (by omega) ho]
    rw [e]
    refine zw_enter2 (L := [some _, some _, some _, some _, none]) (by decide) (Nat.le_of_ble_eq_true rfl) rfl ?_
    refine zi_ald0 dX9_fate_0 ?_
    refine zi_ild1 dX9_fate_1 ?_
    refine zi_cV1i vmX9_isPattern lkX9_205 dX9_fate_2 (by first | assumption | decide) (Nat.le_of_ble_eq_true rfl) (c9_isPattern_out ho) ?_
    rintro _ _ ⟨rfl, rfl⟩
    refine zi_if_eq 25 dX9_fate_5 (by decide) (fun c5 => ?_) (fun c5 => ?_)
    · refine zi_ldc dX9_fate_25 kcX9_189 ?_
      refine zi_iret dX9_fate_27 rfl ?_
      exact ⟨_, rfl, rfl, hV, zy_F.rf⟩
    · exact absurd rfl c5
  · rcases zn_case v (n := 4) (by omega) with ho | ⟨k, hk, rfl⟩
    · have e : zx_fate A (nI a) v q = (zx_OU, A) := by unfold zx_fate; rw [zx_ix_in (by omega) ha, zx_ix_out (by omega) ho]
      rw [e]
      have o2 : v < nI 2 ∨ nI 3 < v := by
        rcases ho with o1 | o1
        · exact Or.inl (Int32.lt_trans o1 (by decide))
        · exact Or.inr (Int32.lt_of_lt_of_le (by decide) o1)
      have o3 : v < nI 0 ∨ nI 3 < v := by
        rcases ho with o1 | o1
        · exact Or.inl o1
        · exact Or.inr (Int32.lt_of_lt_of_le (by decide) o1)
      refine zw_enter2 (L := [some _, some _, some _, some _, none]) (by decide) (Nat.le_of_ble_eq_true rfl) rfl ?_
      refine zi_ald0 dX9_fate_0 ?_
      refine zi_ild1 dX9_fate_1 ?_
      refine zi_cV1i vmX9_isPattern lkX9_205 dX9_fate_2 (by first | assumption | decide) (Nat.le_of_ble_eq_true rfl) (c9_isPattern_in ha) ?_
      rintro _ _ ⟨rfl, rfl⟩
      refine zi_if_eq 25 dX9_fate_5 (by decide) (fun c5 => ?_) (fun c5 => ?_)
      · exact absurd c5 (by decide)
      · refine zi_ild2 dX9_fate_8 ?_
        refine zi_iconst (nI 2) dX9_fate_9 (by decide) ?_
        refine zi_iconst (nI 3) dX9_fate_10 (by decide) ?_
        refine zi_cS3i smX9_in lkX9_54 dX9_fate_11 (Nat.le_of_ble_eq_true rfl) (c9_in_out o2) ?_
        rintro _ _ ⟨rfl, rfl⟩
        refine zi_if_eq 28 dX9_fate_14 (by decide) (fun c14 => ?_) (fun c14 => ?_)
        · refine zi_ild2 dX9_fate_28 ?_
          refine zi_iconst (nI 0) dX9_fate_29 (by decide) ?_
          refine zi_iconst (nI 3) dX9_fate_30 (by decide) ?_
          refine zi_cS3i smX9_in lkX9_54 dX9_fate_31 (Nat.le_of_ble_eq_true rfl) (c9_in_out o3) ?_
          rintro _ _ ⟨rfl, rfl⟩
          refine zi_if_ne 40 dX9_fate_34 (by decide) (fun c34 => ?_) (fun c34 => ?_)
          · exact absurd rfl c34
          · refine zi_ldc dX9_fate_37 kcX9_148 ?_
            refine zi_iret dX9_fate_39 rfl ?_
            exact ⟨_, rfl, rfl, hV, zy_F.rf⟩
        · exact absurd rfl c14
    · rcases zn_case q (n := 8) (by omega) with ho | ⟨b, hb, rfl⟩
      · by_cases c : 2 ≤ k
        · have e : zx_fate A (nI a) (nI k) q = (zx_UN, A) := by unfold zx_fate; rw [zx_ix_in (by omega) ha, zx_ix_in (by omega) hk, zx_ix_out (by omega) ho]; exact if_pos c
          rw [e]
          refine zw_enter2 (L := [some _, some _, some _, some _, none]) (by decide) (Nat.le_of_ble_eq_true rfl) rfl ?_
          refine zi_ald0 dX9_fate_0 ?_
          refine zi_ild1 dX9_fate_1 ?_
          refine zi_cV1i vmX9_isPattern lkX9_205 dX9_fate_2 (by first | assumption | decide) (Nat.le_of_ble_eq_true rfl) (c9_isPattern_in ha) ?_
          rintro _ _ ⟨rfl, rfl⟩
          refine zi_if_eq 25 dX9_fate_5 (by decide) (fun c5 => ?_) (fun c5 => ?_)
          · exact absurd c5 (by decide)
          · refine zi_ild2 dX9_fate_8 ?_
            refine zi_iconst (nI 2) dX9_fate_9 (by decide) ?_
            refine zi_iconst (nI 3) dX9_fate_10 (by decide) ?_
            refine zi_cS3i smX9_in lkX9_54 dX9_fate_11 (Nat.le_of_ble_eq_true rfl) (c9_in_in c (show k ≤ 3 by omega) (by decide)) ?_
            rintro _ _ ⟨rfl, rfl⟩
            refine zi_if_eq 28 dX9_fate_14 (by decide) (fun c14 => ?_) (fun c14 => ?_)
            · exact absurd c14 (by decide)
            · refine zi_ald0 dX9_fate_17 ?_
              refine zi_ild3 dX9_fate_18 ?_
              refine zi_cV1i vmX9_isPattern lkX9_205 dX9_fate_19 (by first | assumption | decide) (Nat.le_of_ble_eq_true rfl) (c9_isPattern_out ho) ?_
              rintro _ _ ⟨rfl, rfl⟩
              refine zi_if_ne 28 dX9_fate_22 (by decide) (fun c22 => ?_) (fun c22 => ?_)
              · exact absurd rfl c22
              · refine zi_ldc dX9_fate_25 kcX9_189 ?_
                refine zi_iret dX9_fate_27 rfl ?_
                exact ⟨_, rfl, rfl, hV, zy_F.rf⟩
        · have e : zx_fate A (nI a) (nI k) q = if zr_al A.1.2.1 A.1.2.2 a k 0 then (nI (A.1.2.1 a), zx_dd A (A.1.1, zr_up A.1.2.1 a k, zr_up A.1.2.2 a (if 2 ≤ k then 0 else 8))) else (zx_NO, A) := by
            unfold zx_fate; rw [zx_ix_in (by omega) ha, zx_ix_in (by omega) hk, zx_ix_out (by omega) ho, if_neg c]; exact if_neg c
          rw [e]
          refine zw_enter2 (L := [some _, some _, some _, some _, none]) (by decide) (Nat.le_of_ble_eq_true rfl) rfl ?_
          refine zi_ald0 dX9_fate_0 ?_
          refine zi_ild1 dX9_fate_1 ?_
          refine zi_cV1i vmX9_isPattern lkX9_205 dX9_fate_2 (by first | assumption | decide) (Nat.le_of_ble_eq_true rfl) (c9_isPattern_in ha) ?_
          rintro _ _ ⟨rfl, rfl⟩
          refine zi_if_eq 25 dX9_fate_5 (by decide) (fun c5 => ?_) (fun c5 => ?_)
          · exact absurd c5 (by decide)
          · refine zi_ild2 dX9_fate_8 ?_
            refine zi_iconst (nI 2) dX9_fate_9 (by decide) ?_
            refine zi_iconst (nI 3) dX9_fate_10 (by decide) ?_
            refine zi_cS3i smX9_in lkX9_54 dX9_fate_11 (Nat.le_of_ble_eq_true rfl) (c9_in_out (Or.inl (by rw [zn_lt (by omega) (by omega)]; omega))) ?_
            rintro _ _ ⟨rfl, rfl⟩
            refine zi_if_eq 28 dX9_fate_14 (by decide) (fun c14 => ?_) (fun c14 => ?_)
            · refine zi_ild2 dX9_fate_28 ?_
              refine zi_iconst (nI 0) dX9_fate_29 (by decide) ?_
              refine zi_iconst (nI 3) dX9_fate_30 (by decide) ?_
              refine zi_cS3i smX9_in lkX9_54 dX9_fate_31 (Nat.le_of_ble_eq_true rfl) (c9_in_in (Nat.zero_le k) (show k ≤ 3 by omega) (by decide)) ?_
              rintro _ _ ⟨rfl, rfl⟩
              refine zi_if_ne 40 dX9_fate_34 (by decide) (fun c34 => ?_) (fun c34 => ?_)
              · exact l9_fate40 hV ha hk (by decide) (fun h => absurd h c)
              · exact absurd c34 (by decide)
            · exact absurd rfl c14
      · have e : zx_fate A (nI a) (nI k) (nI b) = if zr_al A.1.2.1 A.1.2.2 a k b then (nI (A.1.2.1 a), zx_dd A (A.1.1, zr_up A.1.2.1 a k, zr_up A.1.2.2 a (if 2 ≤ k then b else 8))) else (zx_NO, A) := by
          unfold zx_fate; rw [zx_ix_in (by omega) ha, zx_ix_in (by omega) hk, zx_ix_in (by omega) hb]
        rw [e]
        by_cases c : 2 ≤ k
        · refine zw_enter2 (L := [some _, some _, some _, some _, none]) (by decide) (Nat.le_of_ble_eq_true rfl) rfl ?_
          refine zi_ald0 dX9_fate_0 ?_
          refine zi_ild1 dX9_fate_1 ?_
          refine zi_cV1i vmX9_isPattern lkX9_205 dX9_fate_2 (by first | assumption | decide) (Nat.le_of_ble_eq_true rfl) (c9_isPattern_in ha) ?_
          rintro _ _ ⟨rfl, rfl⟩
          refine zi_if_eq 25 dX9_fate_5 (by decide) (fun c5 => ?_) (fun c5 => ?_)
          · exact absurd c5 (by decide)
          · refine zi_ild2 dX9_fate_8 ?_
            refine zi_iconst (nI 2) dX9_fate_9 (by decide) ?_
            refine zi_iconst (nI 3) dX9_fate_10 (by decide) ?_
            refine zi_cS3i smX9_in lkX9_54 dX9_fate_11 (Nat.le_of_ble_eq_true rfl) (c9_in_in c (show k ≤ 3 by omega) (by decide)) ?_
            rintro _ _ ⟨rfl, rfl⟩
            refine zi_if_eq 28 dX9_fate_14 (by decide) (fun c14 => ?_) (fun c14 => ?_)
            · exact absurd c14 (by decide)
            · refine zi_ald0 dX9_fate_17 ?_
              refine zi_ild3 dX9_fate_18 ?_
              refine zi_cV1i vmX9_isPattern lkX9_205 dX9_fate_19 (by first | assumption | decide) (Nat.le_of_ble_eq_true rfl) (c9_isPattern_in hb) ?_
              rintro _ _ ⟨rfl, rfl⟩
              refine zi_if_ne 28 dX9_fate_22 (by decide) (fun c22 => ?_) (fun c22 => ?_)
              · refine zi_ild2 dX9_fate_28 ?_
                refine zi_iconst (nI 0) dX9_fate_29 (by decide) ?_
                refine zi_iconst (nI 3) dX9_fate_30 (by decide) ?_
                refine zi_cS3i smX9_in lkX9_54 dX9_fate_31 (Nat.le_of_ble_eq_true rfl) (c9_in_in (Nat.zero_le k) (show k ≤ 3 by omega) (by decide)) ?_
                rintro _ _ ⟨rfl, rfl⟩
                refine zi_if_ne 40 dX9_fate_34 (by decide) (fun c34 => ?_) (fun c34 => ?_)
                · exact l9_fate40 hV ha hk hb (fun _ => rfl)
                · exact absurd c34 (by decide)
              · exact absurd c22 (by decide)
        · refine zw_enter2 (L := [some _, some _, some _, some _, none]) (by decide) (Nat.le_of_ble_eq_true rfl) rfl ?_
          refine zi_ald0 dX9_fate_0 ?_
          refine zi_ild1 dX9_fate_1 ?_
          refine zi_cV1i vmX9_isPattern lkX9_205 dX9_fate_2 (by first | assumption | decide) (Nat.le_of_ble_eq_true rfl) (c9_isPattern_in ha) ?_
          rintro _ _ ⟨rfl, rfl⟩
          refine zi_if_eq 25 dX9_fate_5 (by decide) (fun c5 => ?_) (fun c5 => ?_)
          · exact absurd c5 (by decide)
          · refine zi_ild2 dX9_fate_8 ?_
            refine zi_iconst (nI 2) dX9_fate_9 (by decide) ?_
            refine zi_iconst (nI 3) dX9_fate_10 (by decide) ?_
            refine zi_cS3i smX9_in lkX9_54 dX9_fate_11 (Nat.le_of_ble_eq_true rfl) (c9_in_out (Or.inl (by rw [zn_lt (by omega) (by omega)]; omega))) ?_
            rintro _ _ ⟨rfl, rfl⟩
            refine zi_if_eq 28 dX9_fate_14 (by decide) (fun c14 => ?_) (fun c14 => ?_)
            · refine zi_ild2 dX9_fate_28 ?_
              refine zi_iconst (nI 0) dX9_fate_29 (by decide) ?_
              refine zi_iconst (nI 3) dX9_fate_30 (by decide) ?_
              refine zi_cS3i smX9_in lkX9_54 dX9_fate_31 (Nat.le_of_ble_eq_true rfl) (c9_in_in (Nat.zero_le k) (show k ≤ 3 by omega) (by decide)) ?_
              rintro _ _ ⟨rfl, rfl⟩
              refine zi_if_ne 40 dX9_fate_34 (by decide) (fun c34 => ?_) (fun c34 => ?_)
              · exact l9_fate40 hV ha hk hb (fun _ => rfl)
              · exact absurd c34 (by decide)
            · exact absurd rfl c14
theorem l9_dual6 (hR : zy_r σ 0 fa go) {P : Option Value → zw_S → Prop} (hk : ∀ τ x1, zw_F (fun o => o = 168 + 13) σ τ → (∀ p, p < 8 → τ.1 (168 + 13) p = nI (zr_df fa go p)) → zw_W l G (d + 9) mX9_dual 29 [some (.ref 168), some (.int x1)] [] τ P) : ∀ n i τ, i + n = 8 → zw_F (fun o => o = 168 + 13) σ τ → (∀ p, p < i → τ.1 (168 + 13) p = nI (zr_df fa go p)) → zw_W l G (d + 9) mX9_dual 6 [some (.ref 168), some (.int (nI i))] [] τ P := by
  intro n
  induction n with
  | zero =>
    intro i τ hi hF hI
    obtain rfl : i = 8 := by omega
    refine zi_ild1 dX9_dual_6 ?_
    refine zi_bipush (nI 8) dX9_dual_7 (by decide) ?_
    refine zi_icmp_ge 29 dX9_dual_9 (by decide) (fun c9 => ?_) (fun c9 => ?_)
    · exact hk τ _ hF hI
    · exact absurd (by decide) c9
  | succ n ih =>
    intro i τ hi hF hI
    refine zi_ild1 dX9_dual_6 ?_
    refine zi_bipush (nI 8) dX9_dual_7 (by decide) ?_
    refine zi_icmp_ge 29 dX9_dual_9 (by decide) (fun c9 => ?_) (fun c9 => ?_)
    · rw [zn_le (by omega) (by omega)] at c9; omega
    · refine zi_ald0 dX9_dual_12 ?_
      refine zi_getR dX9_dual_13 flX9_51 rfl (by first | assumption | decide) ?_
      refine zi_ild1 dX9_dual_16 ?_
      refine zi_ald0 dX9_dual_17 ?_
      refine zi_ild1 dX9_dual_18 ?_
      refine zi_cV1i vmX9_dualOf lkX9_145 dX9_dual_19 (by first | assumption | decide) (Nat.le_of_ble_eq_true rfl) (c9_dualOf (hR.cg (hF.2 _ (by decide))) (show i < 8 by omega)) ?_
      rintro _ _ ⟨rfl, rfl⟩
      refine zi_iastN i dX9_dual_22 (by first | assumption | decide) rfl (zy_d13 (by omega)) (by decide) ?_
      refine zi_inc1 (nI 1) dX9_dual_23 (by decide) (Nat.le_of_ble_eq_true rfl) rfl ?_
      refine zi_goto 6 dX9_dual_26 (by decide) ?_
      rw [nI_add]
      refine ih (i + 1) _ (by omega) (hF.pI rfl) (fun p hp => ?_)
      by_cases e : p = i
      · subst e; rw [zs_same]
      · rw [zs_slot e]; exact hI p (by omega)
theorem l9_dual31 {f : Nat → Nat} (hH : ∀ p, p < 8 → σ.1 (168 + 13) p = nI (f p)) {P : Option Value → zw_S → Prop} (hk : ∀ τ x1, zy_Q σ τ → (∀ p, p < 8 → τ.1 (168 + 1) (17 + p) = nI (f p)) → (∀ j, (j < 17 ∨ 25 ≤ j) → τ.1 (168 + 1) j = σ.1 (168 + 1) j) → zw_W l G (d + 9) mX9_dual 58 [some (.ref 168), some (.int x1)] [] τ P) : ∀ n i τ, i + n = 8 → zy_Q σ τ → τ.1 (168 + 13) = σ.1 (168 + 13) → (∀ p, p < i → τ.1 (168 + 1) (17 + p) = nI (f p)) → (∀ j, (j < 17 ∨ 25 ≤ j) → τ.1 (168 + 1) j = σ.1 (168 + 1) j) → zw_W l G (d + 9) mX9_dual 31 [some (.ref 168), some (.int (nI i))] [] τ P := by
  intro n
  induction n with
  | zero =>
    intro i τ hi hQ hh hI hj
    obtain rfl : i = 8 := by omega
    refine zi_ild1 dX9_dual_31 ?_
    refine zi_bipush (nI 8) dX9_dual_32 (by decide) ?_
    refine zi_icmp_ge 58 dX9_dual_34 (by decide) (fun c34 => ?_) (fun c34 => ?_)
    · exact hk τ _ hQ hI hj
    · exact absurd (by decide) c34
  | succ n ih =>
    intro i τ hi hQ hh hI hj
    refine zi_ild1 dX9_dual_31 ?_
    refine zi_bipush (nI 8) dX9_dual_32 (by decide) ?_
    refine zi_icmp_ge 58 dX9_dual_34 (by decide) (fun c34 => ?_) (fun c34 => ?_)
    · rw [zn_le (by omega) (by omega)] at c34; omega
    · refine zi_ald0 dX9_dual_37 ?_
      refine zi_getR dX9_dual_38 flX9_7 rfl (by first | assumption | decide) ?_
      refine zi_bipush (nI 17) dX9_dual_41 (by decide) ?_
      refine zi_ild1 dX9_dual_43 ?_
      refine zi_iadd dX9_dual_44 ?_
      refine zi_ald0 dX9_dual_45 ?_
      refine zi_getR dX9_dual_46 flX9_51 rfl (by first | assumption | decide) ?_
      refine zi_ild1 dX9_dual_49 ?_
      refine zi_ialdN i dX9_dual_50 (by first | assumption | decide) rfl (zy_d13 (by omega)) (by decide) ?_
      rw [hh, hH i (by omega)]
      refine zi_iastN (17 + i) dX9_dual_51 (by first | assumption | decide) (nI_add _ _) (zy_b1 (by omega)) (by decide) ?_
      refine zi_inc1 (nI 1) dX9_dual_52 (by decide) (Nat.le_of_ble_eq_true rfl) rfl ?_
      refine zi_goto 31 dX9_dual_55 (by decide) ?_
      rw [nI_add]
      refine ih (i + 1) _ (by omega) (hQ.row (by omega)) (by rw [zs_obj (by decide)]; exact hh) (fun p hp => ?_) (fun j q => ?_)
      · by_cases e : p = i
        · subst e; rw [zs_same]
        · rw [zs_slot (by omega)]; exact hI p (by omega)
      · rw [zs_slot (by omega)]; exact hj j q
theorem zy_R.rules {τ : zw_S} {f g : Nat → Nat} (h : zy_R σ 0 X) (hj : ∀ j, j < 17 → τ.1 (168 + 1) j = σ.1 (168 + 1) j) (hr : zy_r τ 0 f g) : zy_R τ 0 (X.1, f, g) := by
  obtain ⟨v1, v2, v3, v4, v5⟩ := h
  refine ⟨v1, v2, by rw [hj 0 (by decide)]; exact v3, fun i hi => ?_, hr⟩
  have hi : i < X.1.length := hi
  rw [hj _ (by omega), hj _ (by omega)]; exact v4 i hi
theorem c9_dual (hV : zy_V σ A) : zw_Ti l G (d + 9) mX9_dual [.ref 168] σ (fun x υ => x = (zx_dual A).1 ∧ zy_V υ (zx_dual A).2 ∧ zy_F σ υ) := by
  refine zw_enter2 (L := [some _, none]) (by decide) (Nat.le_of_ble_eq_true rfl) rfl ?_
  refine zi_ald0 dX9_dual_0 ?_
  refine zi_cV0v vmX9_remember lkX9_156 dX9_dual_1 (by first | assumption | decide) (Nat.le_of_ble_eq_true rfl) (c9_remember hV) ?_
  rintro τ1 ⟨hV1, hM1⟩
  have hR1 : zy_r τ1 0 A.1.2.1 A.1.2.2 := hV1.1.2.2.2.2
  refine zi_iconst (nI 0) dX9_dual_4 (by decide) ?_
  refine zi_ist1 dX9_dual_5 (Nat.le_of_ble_eq_true rfl) rfl ?_
  refine l9_dual6 (σ := τ1) hR1 ?_ 8 0 τ1 rfl zw_F.rf (fun p hp => by omega)
  intro τ2 y1 hF2 hI2
  have hQ2 : zy_Q τ1 τ2 := ⟨fun o _ => by rw [hF2.1], fun o _ _ a _ => hF2.2 o a, fun j _ _ _ => by rw [hF2.2 168 (by decide)], fun j _ => by rw [hF2.2 _ (by decide)]⟩
  refine zi_iconst (nI 0) dX9_dual_29 (by decide) ?_
  refine zi_ist1 dX9_dual_30 (Nat.le_of_ble_eq_true rfl) rfl ?_
  refine l9_dual31 (σ := τ2) (f := zr_df A.1.2.1 A.1.2.2) hI2 ?_ 8 0 τ2 rfl zy_Q.rf rfl (fun p hp => by omega) (fun j _ => rfl)
  intro τ3 y2 hQ3 hI3 hj3
  have hr3 : zy_r τ3 0 (zr_df A.1.2.1 A.1.2.2) A.1.2.2 := fun p hp => by
    obtain ⟨w1, w2, w3, w4, w5⟩ := hR1 p hp
    obtain ⟨g1, g2⟩ := zr_df_ok w1 w3
    refine ⟨g1, w2, g2, ?_, ?_⟩
    · rw [Nat.zero_add]; exact hI3 p hp
    · rw [hj3 _ (by omega), hF2.2 _ (by decide)]; exact w5
  have hR3 := zy_R.rules (τ := τ3) hV1.1 (fun j hj => by rw [hj3 j (by omega), hF2.2 _ (by decide)]) hr3
  have hV3 := hV1.q (hQ2.tr hQ3) hR3
  refine zi_ald0 dX9_dual_58 ?_
  refine zi_cV0i vmX9_bads lkX9_171 dX9_dual_59 (by first | assumption | decide) (Nat.le_of_ble_eq_true rfl) (c9_bads hr3) ?_
  rintro _ τ4 ⟨rfl, hS4⟩
  refine zi_iret dX9_dual_62 rfl ?_
  exact ⟨_, rfl, rfl, hV3.s hS4, (hM1.f.tr (hQ2.tr hQ3).f).tr hS4.q.f⟩
theorem l9_clear (hR : zy_r σ 0 fa go) : ∀ n i τ, i + n = 8 → zy_Q σ τ → (∀ p, p < i → τ.1 (168 + 1) (17 + p) = nI 0 ∧ τ.1 (168 + 1) (25 + p) = -1) → (∀ p, i ≤ p → p < 8 → τ.1 (168 + 1) (17 + p) = nI (fa p)) → (∀ j, j < 17 → τ.1 (168 + 1) j = σ.1 (168 + 1) j) → zw_W l G (d + 3) mX9_clear 8 [some (.ref 168), some (.int (nI (zr_bd fa i))), some (.int (nI i))] [] τ (fun x υ => ∃ y, x = some (.int y) ∧ y = nI (zr_bd fa 8) ∧ zy_Q σ υ ∧ zy_r υ 0 (fun _ => 0) (fun _ => 8) ∧ ∀ j, j < 17 → υ.1 (168 + 1) j = σ.1 (168 + 1) j) := by
  intro n
  induction n with
  | zero =>
    intro i τ hi hQ hI hI2 hj
    obtain rfl : i = 8 := by omega
    refine zi_ild2 dX9_clear_8 ?_
    refine zi_bipush (nI 8) dX9_clear_9 (by decide) ?_
    refine zi_icmp_ge 60 dX9_clear_11 (by decide) (fun c11 => ?_) (fun c11 => ?_)
    · refine zi_ild1 dX9_clear_60 ?_
      refine zi_iret dX9_clear_61 rfl ?_
      refine ⟨_, rfl, rfl, hQ, fun p hp => ⟨by show 0 < 4; decide, by show 8 ≤ 8; decide, by show 2 ≤ 0 ↔ 8 < 8; decide, ?_, ?_⟩, hj⟩
      · rw [Nat.zero_add]; exact (hI p hp).1
      · rw [Nat.zero_add]; exact (hI p hp).2
    · exact absurd (by decide) c11
  | succ n ih =>
    intro i τ hi hQ hI hI2 hj
    have hf := (hR i (by omega)).1
    refine zi_ild2 dX9_clear_8 ?_
    refine zi_bipush (nI 8) dX9_clear_9 (by decide) ?_
    refine zi_icmp_ge 60 dX9_clear_11 (by decide) (fun c11 => ?_) (fun c11 => ?_)
    · rw [zn_le (by omega) (by omega)] at c11; omega
    · refine zi_ild1 dX9_clear_14 ?_
      refine zi_ald0 dX9_clear_15 ?_
      refine zi_getR dX9_clear_16 flX9_7 rfl (by first | assumption | decide) ?_
      refine zi_bipush (nI 17) dX9_clear_19 (by decide) ?_
      refine zi_ild2 dX9_clear_21 ?_
      refine zi_iadd dX9_clear_22 ?_
      refine zi_ialdN (17 + i) dX9_clear_23 (by first | assumption | decide) (nI_add _ _) (zy_b1 (by omega)) (by decide) ?_
      rw [hI2 i (Nat.le_refl i) (by omega)]
      refine zi_if_eq 31 dX9_clear_24 (by decide) (fun c24 => ?_) (fun c24 => ?_)
      · refine zi_iconst (nI 0) dX9_clear_31 (by decide) ?_
        refine zi_iadd dX9_clear_32 ?_
        refine zi_ist1 dX9_clear_33 (Nat.le_of_ble_eq_true rfl) rfl ?_
        refine zi_ald0 dX9_clear_34 ?_
        refine zi_getR dX9_clear_35 flX9_7 rfl (by first | assumption | decide) ?_
        refine zi_bipush (nI 17) dX9_clear_38 (by decide) ?_
        refine zi_ild2 dX9_clear_40 ?_
        refine zi_iadd dX9_clear_41 ?_
        refine zi_iconst (nI 0) dX9_clear_42 (by decide) ?_
        refine zi_iastN (17 + i) dX9_clear_43 (by first | assumption | decide) (nI_add _ _) (zy_b1 (by omega)) (by decide) ?_
        refine zi_ald0 dX9_clear_44 ?_
        refine zi_getR dX9_clear_45 flX9_7 rfl (by first | assumption | decide) ?_
        refine zi_bipush (nI 25) dX9_clear_48 (by decide) ?_
        refine zi_ild2 dX9_clear_50 ?_
        refine zi_iadd dX9_clear_51 ?_
        refine zi_iconst (-1) dX9_clear_52 (by decide) ?_
        refine zi_iastN (25 + i) dX9_clear_53 (by first | assumption | decide) (nI_add _ _) (zy_b1 (by omega)) (by decide) ?_
        refine zi_inc2 (nI 1) dX9_clear_54 (by decide) (Nat.le_of_ble_eq_true rfl) rfl ?_
        refine zi_goto 8 dX9_clear_57 (by decide) ?_
        rw [zn_0, zn_eq (by omega) (by omega)] at c24
        have := ih (i + 1) (zw_pI (zw_pI τ (168 + 1) (17 + i) (nI 0)) (168 + 1) (25 + i) (-1)) (by omega) ((hQ.row (by omega)).row (by omega)) (fun p hp => by
          by_cases e : p = i
          · subst e
            rw [zs_slot (by omega), zs_same, zs_same]; exact ⟨rfl, rfl⟩
          · rw [zs_slot (by omega), zs_slot (by omega), zs_slot (by omega), zs_slot (by omega)]; exact hI p (by omega)) (fun p h1 h2 => by
          rw [zs_slot (by omega), zs_slot (by omega)]; exact hI2 p (by omega) h2) (fun j h1 => by
          rw [zs_slot (by omega), zs_slot (by omega)]; exact hj j h1)
        rw [show zr_bd fa (i + 1) = zr_bd fa i + (if fa i = 0 then 0 else 1) from rfl] at this
        rw [nI_add (zr_bd fa i), nI_add i 1]
        first
        | (rw [if_pos c24] at this; exact this)
        | (rw [if_neg c24] at this; exact this)
      · refine zi_iconst (nI 1) dX9_clear_27 (by decide) ?_
        refine zi_goto 32 dX9_clear_28 (by decide) ?_
        refine zi_iadd dX9_clear_32 ?_
        refine zi_ist1 dX9_clear_33 (Nat.le_of_ble_eq_true rfl) rfl ?_
        refine zi_ald0 dX9_clear_34 ?_
        refine zi_getR dX9_clear_35 flX9_7 rfl (by first | assumption | decide) ?_
        refine zi_bipush (nI 17) dX9_clear_38 (by decide) ?_
        refine zi_ild2 dX9_clear_40 ?_
        refine zi_iadd dX9_clear_41 ?_
        refine zi_iconst (nI 0) dX9_clear_42 (by decide) ?_
        refine zi_iastN (17 + i) dX9_clear_43 (by first | assumption | decide) (nI_add _ _) (zy_b1 (by omega)) (by decide) ?_
        refine zi_ald0 dX9_clear_44 ?_
        refine zi_getR dX9_clear_45 flX9_7 rfl (by first | assumption | decide) ?_
        refine zi_bipush (nI 25) dX9_clear_48 (by decide) ?_
        refine zi_ild2 dX9_clear_50 ?_
        refine zi_iadd dX9_clear_51 ?_
        refine zi_iconst (-1) dX9_clear_52 (by decide) ?_
        refine zi_iastN (25 + i) dX9_clear_53 (by first | assumption | decide) (nI_add _ _) (zy_b1 (by omega)) (by decide) ?_
        refine zi_inc2 (nI 1) dX9_clear_54 (by decide) (Nat.le_of_ble_eq_true rfl) rfl ?_
        refine zi_goto 8 dX9_clear_57 (by decide) ?_
        rw [zn_0, zn_eq (by omega) (by omega)] at c24
        have := ih (i + 1) (zw_pI (zw_pI τ (168 + 1) (17 + i) (nI 0)) (168 + 1) (25 + i) (-1)) (by omega) ((hQ.row (by omega)).row (by omega)) (fun p hp => by
          by_cases e : p = i
          · subst e
            rw [zs_slot (by omega), zs_same, zs_same]; exact ⟨rfl, rfl⟩
          · rw [zs_slot (by omega), zs_slot (by omega), zs_slot (by omega), zs_slot (by omega)]; exact hI p (by omega)) (fun p h1 h2 => by
          rw [zs_slot (by omega), zs_slot (by omega)]; exact hI2 p (by omega) h2) (fun j h1 => by
          rw [zs_slot (by omega), zs_slot (by omega)]; exact hj j h1)
        rw [show zr_bd fa (i + 1) = zr_bd fa i + (if fa i = 0 then 0 else 1) from rfl] at this
        rw [nI_add (zr_bd fa i), nI_add i 1]
        first
        | (rw [if_pos c24] at this; exact this)
        | (rw [if_neg c24] at this; exact this)
theorem c9_clear (hV : zy_V σ A) : zw_Ti l G (d + 3) mX9_clear [.ref 168] σ (fun x υ => x = (zx_clear A).1 ∧ zy_V υ (zx_clear A).2 ∧ zy_F σ υ) := by
  refine zw_enter2 (L := [some _, none, none]) (by decide) (Nat.le_of_ble_eq_true rfl) rfl ?_
  refine zi_ald0 dX9_clear_0 ?_
  refine zi_cV0v vmX9_remember lkX9_156 dX9_clear_1 (by first | assumption | decide) (Nat.le_of_ble_eq_true rfl) (c9_remember hV) ?_
  rintro τ1 ⟨hV1, hM1⟩
  have hR1 : zy_r τ1 0 A.1.2.1 A.1.2.2 := hV1.1.2.2.2.2
  refine zi_iconst (nI 0) dX9_clear_4 (by decide) ?_
  refine zi_ist1 dX9_clear_5 (Nat.le_of_ble_eq_true rfl) rfl ?_
  refine zi_iconst (nI 0) dX9_clear_6 (by decide) ?_
  refine zi_ist2 dX9_clear_7 (Nat.le_of_ble_eq_true rfl) rfl ?_
  refine zw_W.mono (l9_clear (σ := τ1) hR1 8 0 τ1 rfl zy_Q.rf (fun p hp => by omega) (fun p _ hp => hR1.f0 hp) (fun j _ => rfl)) ?_
  rintro x υ ⟨y, e1, e2, e3, e4, e5⟩
  exact ⟨y, e1, e2, hV1.q e3 (zy_R.rules (X := A.1) hV1.1 e5 e4), hM1.f.tr e3.f⟩
end Z41
