theorem zk_nfw {d : Nat} : ((([] : List Value).map fun v => v.category).sum) + (nativeFrameWords "java/lang/System" "arraycopy" 5 + 11) ≤ 36 * (d + 1) := by
  have h : nativeFrameWords "java/lang/System" "arraycopy" 5 ≤ 20 := by decide +kernel
  simp only [List.map_nil, List.sum_nil]
  omega
theorem zL_fobj {σ : zw_S} {o k : Nat} {f : Nat → Int64} (h : k ≠ o) : (zw_pLf σ o f).2 k = σ.2 k := by simp [zw_pLf, h]
section Z23
variable {l : Launch} {G : zw_G} {d : Nat} {σ : zw_S}
theorem lJ_fill {o : Nat} {v : Int64} (ho : zw_kd o = 11) (hl : zw_ln o = 8) : ∀ k i τ, i + k = 8 → zL_F (fun q => q = o) σ τ → (∀ j, j < i → τ.2 o j = v) → zw_W l G (d + 1) mJ7_fill_d0a16 6 [some (.ref o), some (.long v), none, some (.int (nI i)), some (.int (nI 8))] [] τ (fun x υ => x = none ∧ (∀ j, j < 8 → υ.2 o j = v) ∧ zL_F (fun q => q = o) σ υ) := by
  intro k
  induction k with
  | zero =>
    intro i τ hi hF hI
    obtain rfl : i = 8 := by omega
    refine zi_ild3 dJ7_fill_d0a16_6 ?_
    refine zi_ild4 dJ7_fill_d0a16_7 ?_
    refine zi_icmp_ge 22 dJ7_fill_d0a16_9 (by decide) (fun c9 => ?_) (fun c9 => ?_)
    · refine zi_ret dJ7_fill_d0a16_22 rfl ?_
      exact ⟨rfl, hI, hF⟩
    · exact absurd (by decide) c9
  | succ k ih =>
    intro i τ hi hF hI
    refine zi_ild3 dJ7_fill_d0a16_6 ?_
    refine zi_ild4 dJ7_fill_d0a16_7 ?_
    refine zi_icmp_ge 22 dJ7_fill_d0a16_9 (by decide) (fun c9 => ?_) (fun c9 => ?_)
    · rw [zn_le (by omega) (by omega)] at c9; omega
    · refine zi_ald0 dJ7_fill_d0a16_12 ?_
      refine zi_ild3 dJ7_fill_d0a16_13 ?_
      refine zi_lld1 dJ7_fill_d0a16_14 ?_
      refine zi_lastN _ dJ7_fill_d0a16_15 (by first | assumption | decide) rfl (by omega) (by omega) ?_
      refine zi_inc3 (nI 1) dJ7_fill_d0a16_16 (by decide) (Nat.le_of_ble_eq_true rfl) rfl ?_
      refine zi_goto 6 dJ7_fill_d0a16_19 (by decide) ?_
      rw [nI_add]
      refine ih (i + 1) _ (by omega) (hF.pL rfl) (fun j hj => ?_)
      by_cases e : j = i
      · subst e; rw [zL_same]
      · rw [zL_slot e]; exact hI j (by omega)
theorem cJ_fill {o : Nat} {v : Int64} (ho : zw_kd o = 11) (hl : zw_ln o = 8) : zw_Tv l G (d + 1) mJ7_fill_d0a16 [.ref o, .long v] σ (fun υ => (∀ j, j < 8 → υ.2 o j = v) ∧ zL_F (fun q => q = o) σ υ) := by
  refine zw_enter2 (L := [some _, some _, none, none, none]) (by decide +kernel) (Nat.le_of_ble_eq_true rfl) rfl ?_
  refine zi_iconst (nI 0) dJ7_fill_d0a16_0 (by decide) ?_
  refine zi_ist3 dJ7_fill_d0a16_1 (Nat.le_of_ble_eq_true rfl) rfl ?_
  refine zi_ald0 dJ7_fill_d0a16_2 ?_
  refine zi_alen (nI 8) dJ7_fill_d0a16_3 (by omega) (by rw [hl]; rfl) ?_
  refine zi_ist4 dJ7_fill_d0a16_4 (Nat.le_of_ble_eq_true rfl) rfl ?_
  exact lJ_fill ho hl 8 0 σ rfl zL_F.rf (fun j hj => by omega)
theorem l5_rpInner {u p : Nat → Int64} {n : Nat} (hn : n < 8) (hu : ∀ i, i < 8 → σ.2 145 i = u i) (hp : ∀ i, i < n → σ.2 146 i = p i) {P : Option Value → zw_S → Prop} (hk : ∀ x4, zw_W l G (d + 1) mX5_raisePower 44 [some (.ref 140), some (.int (nI n)), some (.long (zk_rp u p n)), none, some (.int x4)] [] σ P) : ∀ k i, i + k = n → zw_W l G (d + 1) mX5_raisePower 12 [some (.ref 140), some (.int (nI n)), some (.long (zk_sum (fun i => u (i + 1) * p (n - (i + 1))) i)), none, some (.int (nI (i + 1)))] [] σ P := by
  have l145 : zw_ln (140 + 5) = 8 := by decide
  have l146 : zw_ln (140 + 6) = 8 := by decide
  intro k
  induction k with
  | zero =>
    intro i hi
    obtain rfl : i = n := by omega
    refine zi_ild4 dX5_raisePower_12 ?_
    refine zi_ild1 dX5_raisePower_14 ?_
    refine zi_icmp_gt 44 dX5_raisePower_15 (by decide) (fun c15 => ?_) (fun c15 => ?_)
    · exact hk _
    · rw [zn_lt (by omega) (by omega)] at c15; omega
  | succ k ih =>
    intro i hi
    refine zi_ild4 dX5_raisePower_12 ?_
    refine zi_ild1 dX5_raisePower_14 ?_
    refine zi_icmp_gt 44 dX5_raisePower_15 (by decide) (fun c15 => ?_) (fun c15 => ?_)
    · rw [zn_lt (by omega) (by omega)] at c15; omega
    · refine zi_lld2 dX5_raisePower_18 ?_
      refine zi_ald0 dX5_raisePower_19 ?_
      refine zi_getR dX5_raisePower_20 flX5_20 rfl (by first | assumption | decide) ?_
      refine zi_ild4 dX5_raisePower_23 ?_
      refine zi_laldN _ dX5_raisePower_25 (by first | assumption | decide) rfl (by omega) (by omega) ?_
      refine zi_ald0 dX5_raisePower_26 ?_
      refine zi_getR dX5_raisePower_27 flX5_23 rfl (by first | assumption | decide) ?_
      refine zi_ild1 dX5_raisePower_30 ?_
      refine zi_ild4 dX5_raisePower_31 ?_
      refine zi_isub dX5_raisePower_33 ?_
      refine zi_laldN (n - (i + 1)) dX5_raisePower_34 (by first | assumption | decide) (pk_sub (by omega)) (by omega) (by omega) ?_
      refine zi_lmul dX5_raisePower_35 ?_
      refine zi_ladd dX5_raisePower_36 ?_
      refine zi_lst2 dX5_raisePower_37 (Nat.le_of_ble_eq_true rfl) rfl ?_
      refine zi_inc4 (nI 1) dX5_raisePower_38 (by decide) (Nat.le_of_ble_eq_true rfl) rfl ?_
      refine zi_goto 12 dX5_raisePower_41 (by decide) ?_
      rw [nI_add, show σ.2 (140 + 5) (i + 1) = u (i + 1) from hu _ (by omega), show σ.2 (140 + 6) (n - (i + 1)) = p (n - (i + 1)) from hp _ (by omega)]
      exact ih (i + 1) (by omega)
theorem l5_rpEnd {x2 x3 x4 : Option Value} {P : Option Value → zw_S → Prop} (h : P none σ) : zw_W l G (d + 1) mX5_raisePower 3 [some (.ref 140), some (.int (-1)), x2, x3, x4] [] σ P := by
  refine zi_ild1 dX5_raisePower_3 ?_
  refine zi_if_lt 57 dX5_raisePower_4 (by decide) (fun c4 => ?_) (fun c4 => ?_)
  · refine zi_ret dX5_raisePower_57 rfl ?_
    exact h
  · exact absurd (by decide) c4
theorem l5_rpOuter {u p : Nat → Int64} (hu : ∀ i, i < 8 → σ.2 145 i = u i) : ∀ n τ x2 x3 x4, n < 8 → zL_F (fun q => q = 146) σ τ → (∀ i, i < 8 → τ.2 146 i = if i ≤ n then p i else zk_rp u p i) → zw_W l G (d + 1) mX5_raisePower 3 [some (.ref 140), some (.int (nI n)), x2, x3, x4] [] τ (fun x υ => x = none ∧ (∀ i, i < 8 → υ.2 146 i = zk_rp u p i) ∧ zL_F (fun q => q = 146) σ υ) := by
  have l146 : zw_ln (140 + 6) = 8 := by decide
  intro n
  induction n with
  | zero =>
    intro τ x2 x3 x4 hn hF hI
    refine zi_ild1 dX5_raisePower_3 ?_
    refine zi_if_lt 57 dX5_raisePower_4 (by decide) (fun c4 => ?_) (fun c4 => ?_)
    · exact absurd c4 (by decide)
    · refine zi_lconst 0 dX5_raisePower_7 (by decide) ?_
      refine zi_lst2 dX5_raisePower_8 (Nat.le_of_ble_eq_true rfl) rfl ?_
      refine zi_iconst (nI 1) dX5_raisePower_9 (by decide) ?_
      refine zi_ist4 dX5_raisePower_10 (Nat.le_of_ble_eq_true rfl) rfl ?_
      refine l5_rpInner (σ := τ) (u := u) (p := p) (n := 0) hn (fun i hi => by rw [hF.2 145 (by omega)]; exact hu i hi) (fun i hi => by omega) ?_ 0 0 rfl
      intro y4
      refine zi_ald0 dX5_raisePower_44 ?_
      refine zi_getR dX5_raisePower_45 flX5_23 rfl (by first | assumption | decide) ?_
      refine zi_ild1 dX5_raisePower_48 ?_
      refine zi_lld2 dX5_raisePower_49 ?_
      refine zi_lastN _ dX5_raisePower_50 (by first | assumption | decide) rfl (by omega) (by omega) ?_
      refine zi_inc1 (-1) dX5_raisePower_51 (by decide) (Nat.le_of_ble_eq_true rfl) rfl ?_
      refine zi_goto 3 dX5_raisePower_54 (by decide) ?_
      rw [show nI 0 + (-1) = -1 by decide]
      refine l5_rpEnd ⟨rfl, fun i hi => ?_, hF.pL rfl⟩
      by_cases e : i = 0
      · subst e
        show (zw_pL τ 146 0 _).2 146 0 = _
        rw [zL_same]
      · show (zw_pL τ 146 0 _).2 146 i = _
        rw [zL_slot e, hI i hi, if_neg (by omega)]
  | succ n ih =>
    intro τ x2 x3 x4 hn hF hI
    refine zi_ild1 dX5_raisePower_3 ?_
    refine zi_if_lt 57 dX5_raisePower_4 (by decide) (fun c4 => ?_) (fun c4 => ?_)
    · rw [zn_0, zn_neg _ (by omega)] at c4; exact c4.elim
    · refine zi_lconst 0 dX5_raisePower_7 (by decide) ?_
      refine zi_lst2 dX5_raisePower_8 (Nat.le_of_ble_eq_true rfl) rfl ?_
      refine zi_iconst (nI 1) dX5_raisePower_9 (by decide) ?_
      refine zi_ist4 dX5_raisePower_10 (Nat.le_of_ble_eq_true rfl) rfl ?_
      refine l5_rpInner (σ := τ) (u := u) (p := p) (n := n + 1) hn (fun i hi => by rw [hF.2 145 (by omega)]; exact hu i hi) (fun i hi => by rw [hI i (by omega), if_pos (by omega)]) ?_ (n + 1) 0 (by omega)
      intro y4
      refine zi_ald0 dX5_raisePower_44 ?_
      refine zi_getR dX5_raisePower_45 flX5_23 rfl (by first | assumption | decide) ?_
      refine zi_ild1 dX5_raisePower_48 ?_
      refine zi_lld2 dX5_raisePower_49 ?_
      refine zi_lastN _ dX5_raisePower_50 (by first | assumption | decide) rfl (by omega) (by omega) ?_
      refine zi_inc1 (-1) dX5_raisePower_51 (by decide) (Nat.le_of_ble_eq_true rfl) rfl ?_
      refine zi_goto 3 dX5_raisePower_54 (by decide) ?_
      rw [pk_m1]
      refine ih _ _ _ _ (by omega) (hF.pL rfl) (fun i hi => ?_)
      show (zw_pL τ 146 (n + 1) _).2 146 i = _
      by_cases e : i = n + 1
      · subst e
        rw [zL_same, if_neg (by omega)]
      · rw [zL_slot e, hI i hi]
        by_cases q : i ≤ n
        · rw [if_pos q, if_pos (by omega)]
        · rw [if_neg q, if_neg (by omega)]
theorem c5_raisePower {u p : Nat → Int64} (hu : ∀ i, i < 8 → σ.2 145 i = u i) (hp : ∀ i, i < 8 → σ.2 146 i = p i) : zw_Tv l G (d + 1) mX5_raisePower [.ref 140] σ (fun υ => (∀ i, i < 8 → υ.2 146 i = zk_rp u p i) ∧ zL_F (fun q => q = 146) σ υ) := by
  refine zw_enter2 (L := [some _, none, none, none, none]) (by decide) (Nat.le_of_ble_eq_true rfl) rfl ?_
  refine zi_bipush (nI 7) dX5_raisePower_0 (by decide) ?_
  refine zi_ist1 dX5_raisePower_2 (Nat.le_of_ble_eq_true rfl) rfl ?_
  exact l5_rpOuter hu 7 σ _ _ _ (by decide) zL_F.rf (fun i hi => by rw [if_pos (by omega)]; exact hp i hi)
def zk_A2 : Nat → Prop := fun o => o = 145 ∨ o = 146
theorem l5_utInner {P u : Nat → Int64} {n : Nat} (hn : n < 8) (hP : ∀ i, 1 ≤ i → i < 8 → σ.2 141 i = P i) (hu : ∀ i, i < 8 → σ.2 145 i = u i) {Q : Option Value → zw_S → Prop} (hk : ∀ τ x4, zL_F (fun q => q = 146) σ τ → zw_W l G (d + 2) mX5_undoTrees 79 [some (.ref 140), some (.int (nI n)), some (.long (zk_sum (fun k => P (k + 2) * zk_pw u (k + 1) n) (n - 1))), none, some (.int x4)] [] τ Q) : ∀ k j τ, j + k + 1 = n → zL_F (fun q => q = 146) σ τ → (∀ i, i < 8 → τ.2 146 i = zk_pw u j i) → zw_W l G (d + 2) mX5_undoTrees 46 [some (.ref 140), some (.int (nI n)), some (.long (zk_sum (fun k => P (k + 2) * zk_pw u (k + 1) n) j)), none, some (.int (nI (j + 2)))] [] τ Q := by
  have l141 : zw_ln (140 + 1) = 8 := by decide
  have l146 : zw_ln (140 + 6) = 8 := by decide
  intro k
  induction k with
  | zero =>
    intro j τ hj hF hI
    refine zi_ild4 dX5_undoTrees_46 ?_
    refine zi_ild1 dX5_undoTrees_48 ?_
    refine zi_icmp_gt 79 dX5_undoTrees_49 (by decide) (fun c49 => ?_) (fun c49 => ?_)
    · have := hk τ (nI (j + 2)) hF
      rw [show n - 1 = j by omega] at this
      exact this
    · rw [zn_lt (by omega) (by omega)] at c49; omega
  | succ k ih =>
    intro j τ hj hF hI
    refine zi_ild4 dX5_undoTrees_46 ?_
    refine zi_ild1 dX5_undoTrees_48 ?_
    refine zi_icmp_gt 79 dX5_undoTrees_49 (by decide) (fun c49 => ?_) (fun c49 => ?_)
    · rw [zn_lt (by omega) (by omega)] at c49; omega
    · refine zi_ald0 dX5_undoTrees_52 ?_
      refine zi_cV0v vmX5_raisePower lkX5_52 dX5_undoTrees_53 (by first | assumption | decide) (Nat.le_of_ble_eq_true rfl) (c5_raisePower (u := u) (p := zk_pw u j) (fun i hi => by rw [hF.2 145 (by omega)]; exact hu i hi) hI) ?_
      rintro τ2 ⟨hI2, hF2⟩
      refine zi_lld2 dX5_undoTrees_56 ?_
      refine zi_ald0 dX5_undoTrees_57 ?_
      refine zi_getR dX5_undoTrees_58 flX5_9 rfl (by first | assumption | decide) ?_
      refine zi_ild4 dX5_undoTrees_61 ?_
      refine zi_laldN _ dX5_undoTrees_63 (by first | assumption | decide) rfl (by omega) (by omega) ?_
      refine zi_ald0 dX5_undoTrees_64 ?_
      refine zi_getR dX5_undoTrees_65 flX5_23 rfl (by first | assumption | decide) ?_
      refine zi_ild1 dX5_undoTrees_68 ?_
      refine zi_laldN _ dX5_undoTrees_69 (by first | assumption | decide) rfl (by omega) (by omega) ?_
      refine zi_lmul dX5_undoTrees_70 ?_
      refine zi_ladd dX5_undoTrees_71 ?_
      refine zi_lst2 dX5_undoTrees_72 (Nat.le_of_ble_eq_true rfl) rfl ?_
      refine zi_inc4 (nI 1) dX5_undoTrees_73 (by decide) (Nat.le_of_ble_eq_true rfl) rfl ?_
      refine zi_goto 46 dX5_undoTrees_76 (by decide) ?_
      rw [nI_add, show τ2.2 (140 + 1) (j + 2) = P (j + 2) from by rw [hF2.2 141 (by omega), hF.2 141 (by omega)]; exact hP _ (by omega) (by omega), show τ2.2 (140 + 6) n = zk_pw u (j + 1) n from hI2 n hn]
      exact ih (j + 1) τ2 (by omega) (hF.tr hF2 (fun _ q => q) (fun _ q => q)) hI2
theorem l5_utOuter {P : Nat → Int64} (hP : ∀ i, 1 ≤ i → i < 8 → σ.2 141 i = P i) : ∀ k m τ x2 x3 x4, m + k = 6 → zL_F zk_A2 σ τ → (∀ i, i < 8 → τ.2 145 i = zk_un P m i) → zw_W l G (d + 2) mX5_undoTrees 17 [some (.ref 140), some (.int (nI (m + 2))), x2, x3, x4] [] τ (fun x υ => x = none ∧ (∀ i, i < 8 → υ.2 145 i = zk_un P 6 i) ∧ zL_F zk_A2 σ υ) := by
  have l145 : zw_ln (140 + 5) = 8 := by decide
  have l146 : zw_ln (140 + 6) = 8 := by decide
  intro k
  induction k with
  | zero =>
    intro m τ x2 x3 x4 hm hF hI
    obtain rfl : m = 6 := by omega
    refine zi_ild1 dX5_undoTrees_17 ?_
    refine zi_bipush (nI 7) dX5_undoTrees_18 (by decide) ?_
    refine zi_icmp_gt 93 dX5_undoTrees_20 (by decide) (fun c20 => ?_) (fun c20 => ?_)
    · refine zi_ret dX5_undoTrees_93 rfl ?_
      exact ⟨rfl, hI, hF⟩
    · exact absurd (by decide) c20
  | succ k ih =>
    intro m τ x2 x3 x4 hm hF hI
    refine zi_ild1 dX5_undoTrees_17 ?_
    refine zi_bipush (nI 7) dX5_undoTrees_18 (by decide) ?_
    refine zi_icmp_gt 93 dX5_undoTrees_20 (by decide) (fun c20 => ?_) (fun c20 => ?_)
    · rw [zn_lt (by omega) (by omega)] at c20; omega
    · refine zi_ald0 dX5_undoTrees_23 ?_
      refine zi_getR dX5_undoTrees_24 flX5_20 rfl (by first | assumption | decide) ?_
      refine zi_iconst (nI 0) dX5_undoTrees_27 (by decide) ?_
      refine zi_ald0 dX5_undoTrees_28 ?_
      refine zi_getR dX5_undoTrees_29 flX5_23 rfl (by first | assumption | decide) ?_
      refine zi_iconst (nI 0) dX5_undoTrees_32 (by decide) ?_
      refine zi_ald0 dX5_undoTrees_33 ?_
      refine zi_getR dX5_undoTrees_34 flX5_23 rfl (by first | assumption | decide) ?_
      refine zi_alen (nI 8) dX5_undoTrees_37 (by decide) (by decide) ?_
      refine zi_acopyl lkX5_46 kw_arraycopy_nat kw_arraycopy_st kw_sys dX5_undoTrees_38 (by decide) (by decide) (by decide) (by decide) (by decide) (by decide) (by decide) zk_nfw ?_
      refine zi_lconst 0 dX5_undoTrees_41 (by decide) ?_
      refine zi_lst2 dX5_undoTrees_42 (Nat.le_of_ble_eq_true rfl) rfl ?_
      refine zi_iconst (nI 2) dX5_undoTrees_43 (by decide) ?_
      refine zi_ist4 dX5_undoTrees_44 (Nat.le_of_ble_eq_true rfl) rfl ?_
      refine l5_utInner (σ := zw_pLf τ (140 + 6) (va_cpy (τ.2 (140 + 5)) (τ.2 (140 + 6)) (nI 0).toNatClampNeg (nI 0).toNatClampNeg (nI 8).toNatClampNeg)) (P := P) (u := zk_un P m) (n := m + 2) (by omega) (fun i a b => ?_) (fun i hi => ?_) ?_ (m + 1) 0 _ (by omega) zL_F.rf (fun i hi => ?_)
      rotate_right
      · show (if 146 = 146 then va_cpy (τ.2 145) (τ.2 146) 0 0 8 else τ.2 146) i = _
        rw [if_pos rfl, pk_cpy_in (by show 0 ≤ i; omega) (by show i < 0 + 8; omega)]
        show τ.2 145 (0 + (i - 0)) = _
        rw [show 0 + (i - 0) = i by omega]
        exact hI i hi
      · rw [zL_fobj (by omega), hF.2 141 (by unfold zk_A2; omega)]
        exact hP i a b
      · rw [zL_fobj (by omega)]
        exact hI i hi
      intro τ2 y4 hF2
      refine zi_ald0 dX5_undoTrees_79 ?_
      refine zi_getR dX5_undoTrees_80 flX5_20 rfl (by first | assumption | decide) ?_
      refine zi_ild1 dX5_undoTrees_83 ?_
      refine zi_lld2 dX5_undoTrees_84 ?_
      refine zi_lneg dX5_undoTrees_85 ?_
      refine zi_lastN _ dX5_undoTrees_86 (by first | assumption | decide) rfl (by omega) (by omega) ?_
      refine zi_inc1 (nI 1) dX5_undoTrees_87 (by decide) (Nat.le_of_ble_eq_true rfl) rfl ?_
      refine zi_goto 17 dX5_undoTrees_90 (by decide) ?_
      rw [nI_add]
      refine ih (m + 1) _ _ _ _ (by omega) ?_ (fun i hi => ?_)
      · refine zL_F.pL ?_ (Or.inl rfl)
        exact (hF.pLf (o := 146) (f := va_cpy (τ.2 (140 + 5)) (τ.2 (140 + 6)) (nI 0).toNatClampNeg (nI 0).toNatClampNeg (nI 8).toNatClampNeg) (Or.inr rfl)).tr hF2 (fun _ q => q) (fun o q => Or.inr q)
      · show (zw_pL τ2 145 (m + 2) _).2 145 i = _
        have h145 : τ2.2 145 = τ.2 145 := by
          rw [hF2.2 145 (by omega), zL_fobj (by omega)]
        by_cases e : i = m + 2
        · subst e
          rw [zL_same, zk_un]
          simp only
          rw [if_pos trivial]
          rfl
        · rw [zL_slot e, h145, hI i hi, zk_un]
          simp only
          rw [if_neg e]
theorem c5_undoTrees {P : Nat → Int64} (hP : ∀ i, 1 ≤ i → i < 8 → σ.2 141 i = P i) : zw_Tv l G (d + 2) mX5_undoTrees [.ref 140] σ (fun υ => (∀ i, i < 8 → υ.2 145 i = zk_un P 6 i) ∧ zL_F zk_A2 σ υ) := by
  have l145 : zw_ln (140 + 5) = 8 := by decide
  refine zw_enter2 (L := [some _, none, none, none, none]) (by decide) (Nat.le_of_ble_eq_true rfl) rfl ?_
  refine zi_ald0 dX5_undoTrees_0 ?_
  refine zi_getR dX5_undoTrees_1 flX5_20 rfl (by first | assumption | decide) ?_
  refine zi_lconst 0 dX5_undoTrees_4 (by decide) ?_
  refine zi_cS2v smJ7_fill_d0a16 lkX5_40 dX5_undoTrees_5 (Nat.le_of_ble_eq_true rfl) (cJ_fill (o := 145) (by decide) (by decide)) ?_
  rintro τ1 ⟨hI1, hF1⟩
  refine zi_ald0 dX5_undoTrees_8 ?_
  refine zi_getR dX5_undoTrees_9 flX5_20 rfl (by first | assumption | decide) ?_
  refine zi_iconst (nI 1) dX5_undoTrees_12 (by decide) ?_
  refine zi_lconst 1 dX5_undoTrees_13 (by decide) ?_
  refine zi_lastN _ dX5_undoTrees_14 (by first | assumption | decide) rfl (by omega) (by omega) ?_
  refine zi_iconst (nI 2) dX5_undoTrees_15 (by decide) ?_
  refine zi_ist1 dX5_undoTrees_16 (Nat.le_of_ble_eq_true rfl) rfl ?_
  refine zw_W.mono (l5_utOuter (σ := σ) hP 6 0 _ _ _ _ rfl ((hF1.mono (fun o q => Or.inl q)).pL (Or.inl rfl)) (fun i hi => ?_)) (fun x υ hx => hx)
  show (zw_pL τ1 145 1 1).2 145 i = _
  by_cases e : i = 1
  · subst e; rw [zL_same]; rfl
  · rw [zL_slot e, hI1 i hi, zk_un]
    simp only
    rw [if_neg e]
end Z23
