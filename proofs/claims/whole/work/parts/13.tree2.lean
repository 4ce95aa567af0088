/-- three to the n -/
theorem zp_p3 {n : Nat} (h : n ≤ 13) : 3 ^ n ≤ 1594323 := by
  have : 3 ^ n ≤ 3 ^ 13 := Nat.pow_le_pow_right (by decide) h
  have e : 3 ^ 13 = 1594323 := by decide
  omega
theorem zp_p3pos (n : Nat) : 1 ≤ 3 ^ n := Nat.pow_pos (by decide)
section Z13
variable {l : Launch} {G : zw_G} {d : Nat} {σ : zw_S} {h : Nat} {w : List Nat} {s : Int32}
theorem l7_readCode1 (ho : zt_ok h) (hx : ∀ x ∈ w, x < 3) (hn : zt_nm w) (h13 : w.length ≤ 13) {P : Option Value → zw_S → Prop} (hk : zw_W l G (d + 2) mX7_readCode 33 [some (.ref h), some (.int (nI (zt_code w))), some (.int s), some (.int (nI (3 ^ (w.length - 1)))), some (.int (nI w.length))] [] σ P) : ∀ n i, i + n = w.length → 1 ≤ i → zw_W l G (d + 2) mX7_readCode 9 [some (.ref h), some (.int (nI (zt_code w))), some (.int s), some (.int (nI (3 ^ (i - 1)))), some (.int (nI i))] [] σ P := by
  have hc := zt_code_small hx h13
  have hlt := zt_code_lt w hx
  intro n
  induction n with
  | zero =>
    intro i hi h1
    have hp := zp_p3 (show i - 1 ≤ 13 by omega)
    obtain rfl : i = w.length := by omega
    refine zi_ild4 dX7_readCode_9 ?_
    refine zi_bipush (nI 13) dX7_readCode_11 (by decide) ?_
    refine zi_icmp_ge 33 dX7_readCode_13 (by decide) (fun c13 => ?_) (fun c13 => ?_)
    · exact hk
    · refine zi_ild3 dX7_readCode_16 ?_
      refine zi_ild1 dX7_readCode_17 ?_
      refine zi_iconst (nI 3) dX7_readCode_18 (by decide) ?_
      refine zi_idiv dX7_readCode_19 (by decide) ?_
      refine zi_icmp_gt 33 dX7_readCode_20 (by decide) (fun c20 => ?_) (fun c20 => ?_)
      · exact hk
      · rw [pk_div (by omega) (by decide) (by decide), zn_lt (by omega) (by omega)] at c20
        exfalso
        have e : 3 ^ w.length = 3 ^ (w.length - 1) * 3 := by rw [← Nat.pow_succ]; congr 1; omega
        omega
  | succ n ih =>
    intro i hi h1
    have hp := zp_p3 (show i - 1 ≤ 13 by omega)
    have hge := zt_code_ge hn (by omega)
    have h3 : 3 ^ (i - 1) * 3 = 3 ^ i := by rw [← Nat.pow_succ]; congr 1; omega
    have h4 : 3 ^ i ≤ 3 ^ (w.length - 1) := Nat.pow_le_pow_right (by decide) (by omega)
    refine zi_ild4 dX7_readCode_9 ?_
    refine zi_bipush (nI 13) dX7_readCode_11 (by decide) ?_
    refine zi_icmp_ge 33 dX7_readCode_13 (by decide) (fun c13 => ?_) (fun c13 => ?_)
    · rw [zn_le (by omega) (by omega)] at c13; omega
    · refine zi_ild3 dX7_readCode_16 ?_
      refine zi_ild1 dX7_readCode_17 ?_
      refine zi_iconst (nI 3) dX7_readCode_18 (by decide) ?_
      refine zi_idiv dX7_readCode_19 (by decide) ?_
      refine zi_icmp_gt 33 dX7_readCode_20 (by decide) (fun c20 => ?_) (fun c20 => ?_)
      · rw [pk_div (by omega) (by decide) (by decide), zn_lt (by omega) (by omega)] at c20
        exfalso
        omega
      · refine zi_ild3 dX7_readCode_23 ?_
        refine zi_iconst (nI 3) dX7_readCode_24 (by decide) ?_
        refine zi_imul dX7_readCode_25 ?_
        refine zi_ist3 dX7_readCode_26 (Nat.le_of_ble_eq_true rfl) rfl ?_
        refine zi_inc4 (nI 1) dX7_readCode_27 (by decide) (Nat.le_of_ble_eq_true rfl) rfl ?_
        refine zi_goto 9 dX7_readCode_30 (by decide) ?_
        rw [pk_mul, h3, nI_add]
        exact ih (i + 1) (by omega) (by omega)
theorem l7_readCode2 (ho : zt_ok h) (hx : ∀ x ∈ w, x < 3) (h1 : 1 ≤ w.length) (h13 : w.length ≤ 13) : ∀ n i τ, i + n = w.length → zt_V τ h (w.take i) (nI 1) → zw_F (zt_A h) σ τ → zw_W l G (d + 2) mX7_readCode 36 [some (.ref h), some (.int (nI (zt_code w))), some (.int s), some (.int (nI (if i < w.length then 3 ^ (w.length - 1 - i) else 0))), some (.int (nI i))] [] τ (fun x υ => x = none ∧ zt_V υ h w s ∧ zw_F (zt_A h) σ υ) := by
  have k0 := ho.1
  have hc := zt_code_small hx h13
  intro n
  induction n with
  | zero =>
    intro i τ hi hT hF
    rw [if_neg (by omega)]
    rw [List.take_of_length_le (by omega)] at hT
    refine zi_ild4 dX7_readCode_36 ?_
    refine zi_bipush (nI 13) dX7_readCode_38 (by decide) ?_
    refine zi_icmp_ge 66 dX7_readCode_40 (by decide) (fun c40 => ?_) (fun c40 => ?_)
    · refine zi_ald0 dX7_readCode_66 ?_
      refine zi_ild2 dX7_readCode_67 ?_
      refine zi_putI dX7_readCode_68 flX7_22 fp_7_3 rfl (by first | assumption | decide) ?_
      refine zi_ret dX7_readCode_71 rfl ?_
      obtain ⟨v1, v2, v3, v4, v5⟩ := hT
      refine ⟨rfl, ⟨v1, v2, ?_, zs_same _ _ _ _, fun i hi => ?_⟩, hF.pI ?_⟩
      · rw [zs_slot (by decide)]; exact v3
      · rw [zs_obj (by omega)]; exact v5 i hi
      · exact ⟨by omega, by omega⟩
    · refine zi_ild3 dX7_readCode_43 ?_
      refine zi_if_le 66 dX7_readCode_44 (by decide) (fun c44 => ?_) (fun c44 => ?_)
      · refine zi_ald0 dX7_readCode_66 ?_
        refine zi_ild2 dX7_readCode_67 ?_
        refine zi_putI dX7_readCode_68 flX7_22 fp_7_3 rfl (by first | assumption | decide) ?_
        refine zi_ret dX7_readCode_71 rfl ?_
        obtain ⟨v1, v2, v3, v4, v5⟩ := hT
        refine ⟨rfl, ⟨v1, v2, ?_, zs_same _ _ _ _, fun i hi => ?_⟩, hF.pI ?_⟩
        · rw [zs_slot (by decide)]; exact v3
        · rw [zs_obj (by omega)]; exact v5 i hi
        · exact ⟨by omega, by omega⟩
      · exact absurd (by decide) c44
  | succ n ih =>
    intro i τ hi hT hF
    have hp := zp_p3 (show w.length - 1 - i ≤ 13 by omega)
    have hp1 := zp_p3pos (w.length - 1 - i)
    rw [if_pos (by omega)]
    have hdg := zt_digit hx (show i < w.length by omega)
    have hdl := zl_getD_lt hx i
    refine zi_ild4 dX7_readCode_36 ?_
    refine zi_bipush (nI 13) dX7_readCode_38 (by decide) ?_
    refine zi_icmp_ge 66 dX7_readCode_40 (by decide) (fun c40 => ?_) (fun c40 => ?_)
    · rw [zn_le (by omega) (by omega)] at c40; omega
    · refine zi_ild3 dX7_readCode_43 ?_
      refine zi_if_le 66 dX7_readCode_44 (by decide) (fun c44 => ?_) (fun c44 => ?_)
      · rw [zn_0, zn_le (by omega) (by omega)] at c44; omega
      · refine zi_ald0 dX7_readCode_47 ?_
        refine zi_ild1 dX7_readCode_48 ?_
        refine zi_ild3 dX7_readCode_49 ?_
        refine zi_idiv dX7_readCode_50 (by rw [zn_0, zn_eq (by omega) (by omega)]; omega) ?_
        refine zi_iconst (nI 3) dX7_readCode_51 (by decide) ?_
        refine zi_irem dX7_readCode_52 (by decide) ?_
        rw [pk_div (by omega) (by omega) (by omega), pk_rem (by have := Nat.div_le_self (zt_code w) (3 ^ (w.length - 1 - i)); omega) (by decide) (by decide), hdg]
        refine zi_cV1v vmX7_append lkX7_28 dX7_readCode_53 (by first | assumption | decide) (Nat.le_of_ble_eq_true rfl) (c7_append ho hT (by rw [List.length_take]; omega) hdl) ?_
        rintro τ2 ⟨hT2, hF2⟩
        refine zi_ild3 dX7_readCode_56 ?_
        refine zi_iconst (nI 3) dX7_readCode_57 (by decide) ?_
        refine zi_idiv dX7_readCode_58 (by decide) ?_
        refine zi_ist3 dX7_readCode_59 (Nat.le_of_ble_eq_true rfl) rfl ?_
        refine zi_inc4 (nI 1) dX7_readCode_60 (by decide) (Nat.le_of_ble_eq_true rfl) rfl ?_
        refine zi_goto 36 dX7_readCode_63 (by decide) ?_
        rw [nI_add, pk_div (by omega) (by decide) (by decide)]
        rw [← zl_take_succ (by omega)] at hT2
        have e : 3 ^ (w.length - 1 - i) / 3 = if i + 1 < w.length then 3 ^ (w.length - 1 - (i + 1)) else 0 := by
          by_cases q : i + 1 < w.length
          · rw [if_pos q, show w.length - 1 - i = (w.length - 1 - (i + 1)) + 1 by omega, Nat.pow_succ, Nat.mul_div_cancel _ (by decide)]
          · rw [if_neg q, show w.length - 1 - i = 0 by omega]
        rw [e]
        exact ih (i + 1) τ2 (by omega) hT2 (hF.tr hF2 (fun _ q => q) (fun _ q => q))
theorem c7_readCode (ho : zt_ok h) (hx : ∀ x ∈ w, x < 3) (hn : zt_nm w) (h13 : w.length ≤ 13) : zw_Tv l G (d + 2) mX7_readCode [.ref h, .int (nI (zt_code w)), .int s] σ (fun υ => zt_V υ h w s ∧ zw_F (zt_A h) σ υ) := by
  have k0 := ho.1
  have hl := hn.1
  refine zw_enter2 (L := [some _, some _, some _, none, none]) (by decide) (Nat.le_of_ble_eq_true rfl) rfl ?_
  refine zi_ald0 dX7_readCode_0 ?_
  refine zi_cV0v vmX7_open lkX7_25 dX7_readCode_1 (by first | assumption | decide) (Nat.le_of_ble_eq_true rfl) (c7_open ho) ?_
  rintro τ1 ⟨hV1, hF1⟩
  refine zi_iconst (nI 1) dX7_readCode_4 (by decide) ?_
  refine zi_ist3 dX7_readCode_5 (Nat.le_of_ble_eq_true rfl) rfl ?_
  refine zi_iconst (nI 1) dX7_readCode_6 (by decide) ?_
  refine zi_ist4 dX7_readCode_7 (Nat.le_of_ble_eq_true rfl) rfl ?_
  refine l7_readCode1 ho hx hn h13 ?_ (w.length - 1) 1 (by omega) (by omega)
  refine zi_iconst (nI 0) dX7_readCode_33 (by decide) ?_
  refine zi_ist4 dX7_readCode_34 (Nat.le_of_ble_eq_true rfl) rfl ?_
  have := l7_readCode2 (l := l) (G := G) (d := d) (s := s) ho hx hl h13 w.length 0 τ1 (by omega) hV1 hF1
  rw [if_pos (by omega)] at this
  exact this
theorem l7_endOf (ho : zt_ok h) (hV : zt_V σ h w s) {a : Int32} : ∀ n i m, i + n = w.length → m ≤ i → zw_W l G (d + 1) mX7_endOf 13 [some (.ref h), some (.int a), some (.int (nI (m + 1))), some (.int (nI i))] [] σ (fun x τ => ∃ y, x = some (.int y) ∧ σ = τ ∧ y = nI (i + zt_cn (m + 1) (w.drop i))) := by
  obtain ⟨k0, k1, k2, l1, l2⟩ := id ho
  have h13 := hV.1
  intro n
  induction n with
  | zero =>
    intro i m hi hm
    refine zi_ild3 dX7_endOf_13 ?_
    refine zi_ald0 dX7_endOf_14 ?_
    refine zi_getI dX7_endOf_15 flX7_18 rfl (by first | assumption | decide) ?_
    refine zi_icmp_ge 58 dX7_endOf_18 (by decide) (fun c18 => ?_) (fun c18 => ?_)
    · refine zi_ald0 dX7_endOf_58 ?_
      refine zi_getI dX7_endOf_59 flX7_18 rfl (by first | assumption | decide) ?_
      refine zi_iret dX7_endOf_62 rfl ?_
      refine ⟨_, rfl, rfl, ?_⟩
      rw [List.drop_of_length_le (by omega), hV.2.2.1]
      simp [zt_cn]
      rw [← hi]; rfl
    · rw [hV.2.2.1, zn_le (by omega) (by omega)] at c18; omega
  | succ n ih =>
    intro i m hi hm
    have hx := zl_getD_lt hV.2.1 i
    have hd := zl_drop (show i < w.length by omega)
    refine zi_ild3 dX7_endOf_13 ?_
    refine zi_ald0 dX7_endOf_14 ?_
    refine zi_getI dX7_endOf_15 flX7_18 rfl (by first | assumption | decide) ?_
    refine zi_icmp_ge 58 dX7_endOf_18 (by decide) (fun c18 => ?_) (fun c18 => ?_)
    · rw [hV.2.2.1, zn_le (by omega) (by omega)] at c18; omega
    · refine zi_ild3 dX7_endOf_21 ?_
      refine zi_bipush (nI 13) dX7_endOf_22 (by decide) ?_
      refine zi_icmp_ge 58 dX7_endOf_24 (by decide) (fun c24 => ?_) (fun c24 => ?_)
      · rw [zn_le (by omega) (by omega)] at c24; omega
      · refine zi_ild2 dX7_endOf_27 ?_
        refine zi_ald0 dX7_endOf_28 ?_
        refine zi_getR dX7_endOf_29 flX7_9 rfl (by first | assumption | decide) ?_
        refine zi_ild3 dX7_endOf_32 ?_
        refine zi_ialdN _ dX7_endOf_33 (by first | assumption | decide) rfl (by omega) (by omega) ?_
        rw [hV.2.2.2.2 i (by omega)]
        refine zi_if_ne 41 dX7_endOf_34 (by decide) (fun c34 => ?_) (fun c34 => ?_)
        · rw [zn_0, zn_eq (by omega) (by omega)] at c34
          obtain ⟨x, hxx⟩ : ∃ x, w.getD i 0 = x + 1 := ⟨w.getD i 0 - 1, by omega⟩
          rw [hxx] at hd
          refine zi_iconst (nI 1) dX7_endOf_41 (by decide) ?_
          refine zi_iadd dX7_endOf_42 ?_
          first | rw [pk_m1] | rw [nI_add]
          refine zi_ist2 dX7_endOf_43 (Nat.le_of_ble_eq_true rfl) rfl ?_
          refine zi_ild2 dX7_endOf_44 ?_
          refine zi_if_ne 52 dX7_endOf_45 (by decide) (fun c45 => ?_) (fun c45 => ?_)
          · rw [zn_0, zn_eq (by omega) (by omega)] at c45
            refine zi_inc3 (nI 1) dX7_endOf_52 (by decide) (Nat.le_of_ble_eq_true rfl) rfl ?_
            refine zi_goto 13 dX7_endOf_55 (by decide) ?_
            rw [nI_add]
            first
            | (obtain ⟨m', rfl⟩ : ∃ m', m = m' + 1 := ⟨m - 1, by omega⟩
               have := ih (i + 1) m' (by omega) (by omega)
               rw [hd]
               simp only [zt_cn]
               rw [← Nat.add_assoc]
               exact this)
            | (have := ih (i + 1) (m + 1) (by omega) (by omega)
               rw [hd]
               simp only [zt_cn]
               rw [← Nat.add_assoc]
               exact this)
          · rw [zn_0, zn_eq (by omega) (by omega)] at c45
            refine zi_ild3 dX7_endOf_48 ?_
            refine zi_iconst (nI 1) dX7_endOf_49 (by decide) ?_
            refine zi_iadd dX7_endOf_50 ?_
            refine zi_iret dX7_endOf_51 rfl ?_
            refine ⟨_, rfl, rfl, ?_⟩
            first
            | (subst c45; rw [hd, nI_add]; simp [zt_cn]; done)
            | (exfalso; omega)
        · rw [zn_0, zn_eq (by omega) (by omega)] at c34
          rw [c34] at hd
          refine zi_iconst (-1) dX7_endOf_37 (by decide) ?_
          refine zi_goto 42 dX7_endOf_38 (by decide) ?_
          refine zi_iadd dX7_endOf_42 ?_
          first | rw [pk_m1] | rw [nI_add]
          refine zi_ist2 dX7_endOf_43 (Nat.le_of_ble_eq_true rfl) rfl ?_
          refine zi_ild2 dX7_endOf_44 ?_
          refine zi_if_ne 52 dX7_endOf_45 (by decide) (fun c45 => ?_) (fun c45 => ?_)
          · rw [zn_0, zn_eq (by omega) (by omega)] at c45
            refine zi_inc3 (nI 1) dX7_endOf_52 (by decide) (Nat.le_of_ble_eq_true rfl) rfl ?_
            refine zi_goto 13 dX7_endOf_55 (by decide) ?_
            rw [nI_add]
            first
            | (obtain ⟨m', rfl⟩ : ∃ m', m = m' + 1 := ⟨m - 1, by omega⟩
               have := ih (i + 1) m' (by omega) (by omega)
               rw [hd]
               simp only [zt_cn]
               rw [← Nat.add_assoc]
               exact this)
            | (have := ih (i + 1) (m + 1) (by omega) (by omega)
               rw [hd]
               simp only [zt_cn]
               rw [← Nat.add_assoc]
               exact this)
          · rw [zn_0, zn_eq (by omega) (by omega)] at c45
            refine zi_ild3 dX7_endOf_48 ?_
            refine zi_iconst (nI 1) dX7_endOf_49 (by decide) ?_
            refine zi_iadd dX7_endOf_50 ?_
            refine zi_iret dX7_endOf_51 rfl ?_
            refine ⟨_, rfl, rfl, ?_⟩
            first
            | (subst c45; rw [hd, nI_add]; simp [zt_cn]; done)
            | (exfalso; omega)
theorem c7_endOf (ho : zt_ok h) (hV : zt_V σ h w s) {i : Nat} (hi : i ≤ w.length) : zw_Ti l G (d + 1) mX7_endOf [.ref h, .int (nI i)] σ (fun x τ => σ = τ ∧ x = nI (i + zt_cn 1 (w.drop i))) := by
  have k0 := ho.1
  have h13 := hV.1
  refine zw_enter2 (L := [some _, some _, none, none]) (by decide) (Nat.le_of_ble_eq_true rfl) rfl ?_
  refine zi_ild1 dX7_endOf_0 ?_
  refine zi_if_ge 9 dX7_endOf_1 (by decide) (fun c1 => ?_) (fun c1 => ?_)
  · refine zi_iconst (nI 1) dX7_endOf_9 (by decide) ?_
    refine zi_ist2 dX7_endOf_10 (Nat.le_of_ble_eq_true rfl) rfl ?_
    refine zi_ild1 dX7_endOf_11 ?_
    refine zi_ist3 dX7_endOf_12 (Nat.le_of_ble_eq_true rfl) rfl ?_
    exact l7_endOf ho hV (w.length - i) i 0 (by omega) (by omega)
  · exact absurd (by rw [zn_0, zn_le (by omega) (by omega)]; omega) c1
theorem l7_leafAt (ho : zt_ok h) (hV : zt_V σ h w s) {k : Int32} : ∀ n i, i + n = w.length → (∀ j, j < ((List.range i).filter (fun i => w.getD i 0 == 0)).length → k ≠ nI j) → zw_W l G (d + 3) mX7_leafAt 4 [some (.ref h), some (.int k), some (.int (nI ((List.range i).filter (fun i => w.getD i 0 == 0)).length)), some (.int (nI i))] [] σ (fun x τ => ∃ y, x = some (.int y) ∧ σ = τ ∧ y = zp_oI (zp_at (zt_lv w) k)) := by
  obtain ⟨k0, k1, k2, l1, l2⟩ := id ho
  have h13 := hV.1
  intro n
  induction n with
  | zero =>
    intro i hi hI
    obtain rfl : i = w.length := by omega
    have hle := zl_fle (s := w.length) (b := fun i => w.getD i 0 == 0)
    refine zi_ild3 dX7_leafAt_4 ?_
    refine zi_ald0 dX7_leafAt_5 ?_
    refine zi_getI dX7_leafAt_6 flX7_18 rfl (by first | assumption | decide) ?_
    refine zi_icmp_ge 36 dX7_leafAt_9 (by decide) (fun c9 => ?_) (fun c9 => ?_)
    · refine zi_iconst (-1) dX7_leafAt_36 (by decide) ?_
      refine zi_iret dX7_leafAt_37 rfl ?_
      refine ⟨_, rfl, rfl, ?_⟩
      rw [zp_at_no (l := zt_lv w) (by show (List.filter _ _).length < _; omega) hI]; rfl
    · rw [hV.2.2.1, zn_le (by omega) (by omega)] at c9; omega
  | succ n ih =>
    intro i hi hI
    have hle := zl_fle (s := i) (b := fun i => w.getD i 0 == 0)
    have hx := zl_getD_lt hV.2.1 i
    refine zi_ild3 dX7_leafAt_4 ?_
    refine zi_ald0 dX7_leafAt_5 ?_
    refine zi_getI dX7_leafAt_6 flX7_18 rfl (by first | assumption | decide) ?_
    refine zi_icmp_ge 36 dX7_leafAt_9 (by decide) (fun c9 => ?_) (fun c9 => ?_)
    · rw [hV.2.2.1, zn_le (by omega) (by omega)] at c9; omega
    · refine zi_ald0 dX7_leafAt_12 ?_
      refine zi_ild3 dX7_leafAt_13 ?_
      refine zi_cV1i vmX7_isNode lkX7_43 dX7_leafAt_14 (by first | assumption | decide) (Nat.le_of_ble_eq_true rfl) (c7_isNode ho hV (show i < 2147483648 by omega)) ?_
      rintro _ _ ⟨rfl, rfl⟩
      refine zi_if_ne 30 dX7_leafAt_17 (by decide) (fun c17 => ?_) (fun c17 => ?_)
      · refine zi_inc3 (nI 1) dX7_leafAt_30 (by decide) (Nat.le_of_ble_eq_true rfl) rfl ?_
        refine zi_goto 4 dX7_leafAt_33 (by decide) ?_
        first
        | (have hf := zl_fs (s := i) (b := fun i => w.getD i 0 == 0) (by simpa using h0)
           have := ih (i + 1) (by omega) (fun j hj => by
             rw [hf] at hj
             by_cases e : j = ((List.range i).filter (fun i => w.getD i 0 == 0)).length
             · rw [e]; exact fun q => c22 q.symm
             · exact hI j (by omega))
           rw [hf] at this
           rw [nI_add, nI_add]
           exact this)
        | (have h0 : ¬ w.getD i 0 = 0 := by
             intro q; rw [if_pos q] at c17; exact absurd rfl c17
           have hf := zl_fn (s := i) (b := fun i => w.getD i 0 == 0) (by simpa using h0)
           have := ih (i + 1) (by omega) (fun j hj => by rw [hf] at hj; exact hI j hj)
           rw [hf] at this
           rw [nI_add]
           exact this)
      · have h0 : w.getD i 0 = 0 := by
          by_cases q : w.getD i 0 = 0
          · exact q
          · rw [if_neg q] at c17; exact absurd c17 (by decide)
        refine zi_ild2 dX7_leafAt_20 ?_
        refine zi_ild1 dX7_leafAt_21 ?_
        refine zi_icmp_ne 27 dX7_leafAt_22 (by decide) (fun c22 => ?_) (fun c22 => ?_)
        · refine zi_inc2 (nI 1) dX7_leafAt_27 (by decide) (Nat.le_of_ble_eq_true rfl) rfl ?_
          refine zi_inc3 (nI 1) dX7_leafAt_30 (by decide) (Nat.le_of_ble_eq_true rfl) rfl ?_
          refine zi_goto 4 dX7_leafAt_33 (by decide) ?_
          first
          | (have hf := zl_fs (s := i) (b := fun i => w.getD i 0 == 0) (by simpa using h0)
             have := ih (i + 1) (by omega) (fun j hj => by
               rw [hf] at hj
               by_cases e : j = ((List.range i).filter (fun i => w.getD i 0 == 0)).length
               · rw [e]; exact fun q => c22 q.symm
               · exact hI j (by omega))
             rw [hf] at this
             rw [nI_add, nI_add]
             exact this)
          | (have h0 : ¬ w.getD i 0 = 0 := by
               intro q; rw [if_pos q] at c17; exact absurd rfl c17
             have hf := zl_fn (s := i) (b := fun i => w.getD i 0 == 0) (by simpa using h0)
             have := ih (i + 1) (by omega) (fun j hj => by rw [hf] at hj; exact hI j hj)
             rw [hf] at this
             rw [nI_add]
             exact this)
        · refine zi_ild3 dX7_leafAt_25 ?_
          refine zi_iret dX7_leafAt_26 rfl ?_
          refine ⟨_, rfl, rfl, ?_⟩
          rw [← c22, zp_at_n (by omega)]
          unfold zt_lv
          rw [zl_kth (show i < w.length by omega) (by simpa using h0)]; rfl
theorem c7_leafAt (ho : zt_ok h) (hV : zt_V σ h w s) {k : Int32} : zw_Ti l G (d + 3) mX7_leafAt [.ref h, .int k] σ (fun x τ => σ = τ ∧ x = zp_oI (zp_at (zt_lv w) k)) := by
  refine zw_enter2 (L := [some _, some _, none, none]) (by decide) (Nat.le_of_ble_eq_true rfl) rfl ?_
  refine zi_iconst (nI 0) dX7_leafAt_0 (by decide) ?_
  refine zi_ist2 dX7_leafAt_1 (Nat.le_of_ble_eq_true rfl) rfl ?_
  refine zi_iconst (nI 0) dX7_leafAt_2 (by decide) ?_
  refine zi_ist3 dX7_leafAt_3 (Nat.le_of_ble_eq_true rfl) rfl ?_
  exact l7_leafAt ho hV w.length 0 (by omega) (fun j hj => by simp at hj)
theorem c7_hasRoomFor {q : Nat} {v : List Nat} {t : Int32} (ho : zt_ok h) (hq : zt_ok q) (hV : zt_V σ h w s) (hQ : zt_V σ q v t) (h1 : 1 ≤ w.length) (h2 : 1 ≤ v.length) : zw_Ti l G (d + 2) mX7_hasRoomFor [.ref h, .ref q] σ (fun x τ => σ = τ ∧ x = if (w.length - 1) / 2 + (v.length - 1) / 2 ≤ 6 then nI 1 else nI 0) := by
  have k0 := ho.1
  have j0 := hq.1
  have e1 := hV.1
  have e2 := hQ.1
  refine zw_enter2 (L := [some _, some _]) (by decide) (Nat.le_of_ble_eq_true rfl) rfl ?_
  refine zi_ald0 dX7_hasRoomFor_0 ?_
  refine zi_cV0i vmX7_nodes lkX7_36 dX7_hasRoomFor_1 (by first | assumption | decide) (Nat.le_of_ble_eq_true rfl) (c7_nodes ho hV h1) ?_
  rintro _ _ ⟨rfl, rfl⟩
  refine zi_ald1 dX7_hasRoomFor_4 ?_
  refine zi_cV0i vmX7_nodes lkX7_36 dX7_hasRoomFor_5 (by first | assumption | decide) (Nat.le_of_ble_eq_true rfl) (c7_nodes hq hQ h2) ?_
  rintro _ _ ⟨rfl, rfl⟩
  refine zi_iadd dX7_hasRoomFor_8 ?_
  refine zi_bipush (nI 6) dX7_hasRoomFor_9 (by decide) ?_
  refine zi_icmp_gt 18 dX7_hasRoomFor_11 (by decide) (fun c11 => ?_) (fun c11 => ?_)
  · refine zi_iconst (nI 0) dX7_hasRoomFor_18 (by decide) ?_
    refine zi_zret dX7_hasRoomFor_19 rfl (by decide) ?_
    refine ⟨_, rfl, rfl, ?_⟩
    rw [nI_add, zn_lt (by omega) (by omega)] at c11
    first | rw [if_pos (by omega)] | rw [if_neg (by omega)]
  · refine zi_iconst (nI 1) dX7_hasRoomFor_14 (by decide) ?_
    refine zi_goto 19 dX7_hasRoomFor_15 (by decide) ?_
    refine zi_zret dX7_hasRoomFor_19 rfl (by decide) ?_
    refine ⟨_, rfl, rfl, ?_⟩
    rw [nI_add, zn_lt (by omega) (by omega)] at c11
    first | rw [if_pos (by omega)] | rw [if_neg (by omega)]
theorem l7_graft1 {q j n m a0 : Nat} {b0 b1 : Int32} (ho : zt_ok h) (hV : ∀ i, i < n → σ.1 (h + 1) i = nI (w.getD i 0)) (hn : σ.1 h 2 = nI (n + m)) (h13 : n + m ≤ 13) (hj : j < n) {P : Option Value → zw_S → Prop} (hk : ∀ τ, zw_F (fun o => o = h + 1) σ τ → (∀ i, i ≤ j → τ.1 (h + 1) i = nI (w.getD i 0)) → (∀ i, j < i → i < n → τ.1 (h + 1) (i + m) = nI (w.getD i 0)) → zw_W l G (d + 2) mX7_graftAt 79 [some (.ref h), some (.int (nI j)), some (.ref q), some (.int (nI m)), some (.int b0), some (.int (nI j))] [] τ P) : ∀ x a τ, a = j + x → a < n → zw_F (fun o => o = h + 1) σ τ → (∀ i, i ≤ a → τ.1 (h + 1) i = nI (w.getD i 0)) → (∀ i, a < i → i < n → τ.1 (h + 1) (i + m) = nI (w.getD i 0)) → zw_W l G (d + 2) mX7_graftAt 53 [some (.ref h), some (.int (nI j)), some (.ref q), some (.int (nI m)), some (.int b0), some (.int (nI a))] [] τ P := by
  obtain ⟨k0, k1, k2, l1, l2⟩ := id ho
  intro x
  induction x with
  | zero =>
    intro a τ ha han hF hI hJ
    obtain rfl : a = j := by omega
    refine zi_ild5 dX7_graftAt_53 ?_
    refine zi_ild1 dX7_graftAt_55 ?_
    refine zi_icmp_le 79 dX7_graftAt_56 (by decide) (fun c56 => ?_) (fun c56 => ?_)
    · exact hk τ hF hI hJ
    · exact absurd (by rw [zn_le (by omega) (by omega)]; omega) c56
  | succ x ih =>
    intro a τ ha han hF hI hJ
    have hn2 : τ.1 h 2 = nI (n + m) := by rw [hF.2 h (by omega)]; exact hn
    refine zi_ild5 dX7_graftAt_53 ?_
    refine zi_ild1 dX7_graftAt_55 ?_
    refine zi_icmp_le 79 dX7_graftAt_56 (by decide) (fun c56 => ?_) (fun c56 => ?_)
    · rw [zn_le (by omega) (by omega)] at c56; omega
    · refine zi_ald0 dX7_graftAt_59 ?_
      refine zi_ild5 dX7_graftAt_60 ?_
      refine zi_ild3 dX7_graftAt_62 ?_
      refine zi_iadd dX7_graftAt_63 ?_
      refine zi_ald0 dX7_graftAt_64 ?_
      refine zi_ild5 dX7_graftAt_65 ?_
      rw [nI_add]
      refine zi_cV1i vmX7_figureAt lkX7_32 dX7_graftAt_67 (by first | assumption | decide) (Nat.le_of_ble_eq_true rfl) (c7_figureAt_raw ho hn2 h13 (show a < n + m by omega)) ?_
      rintro _ _ ⟨rfl, rfl⟩
      rw [hI a (Nat.le_refl a)]
      refine zi_cV2v vmX7_putFigure lkX7_47 dX7_graftAt_70 (by first | assumption | decide) (Nat.le_of_ble_eq_true rfl) (c7_putFigure_raw ho hn2 h13 (show a + m < n + m by omega)) ?_
      rintro _ rfl
      refine zi_inc5 (-1) dX7_graftAt_73 (by decide) (Nat.le_of_ble_eq_true rfl) rfl ?_
      refine zi_goto 53 dX7_graftAt_76 (by decide) ?_
      obtain ⟨b, rfl⟩ : ∃ b, a = b + 1 := ⟨a - 1, by omega⟩
      rw [pk_m1]
      refine ih b _ (by omega) (by omega) (hF.pI rfl) (fun i hi => ?_) (fun i hi1 hi2 => ?_)
      · rw [zs_slot (by omega)]
        exact hI i (by omega)
      · by_cases e : i = b + 1
        · subst e
          rw [zs_same]
        · rw [zs_slot (by omega)]
          exact hJ i (by omega) hi2
theorem l7_graft2 {q j m : Nat} {b0 : Int32} {u z : List Nat} {t : Int32} (ho : zt_ok h) (hq : zt_ok q) (ha : h + 3 ≤ q ∨ q + 3 ≤ h) (hQ : zt_V σ q u t) (hz : z.length = j + u.length + m) (h13 : z.length ≤ 13) (hs : σ.1 h 3 = s) (hn : σ.1 h 2 = nI z.length) (hz3 : ∀ x ∈ z, x < 3) (hzu : ∀ i, i < u.length → z.getD (j + i) 0 = u.getD i 0) {b3 : Int32} : ∀ x i τ, i + x = u.length → zw_F (fun o => o = h + 1) σ τ → (∀ k, k < z.length → (k < j + i ∨ j + u.length ≤ k) → τ.1 (h + 1) k = nI (z.getD k 0)) → zw_W l G (d + 2) mX7_graftAt 82 [some (.ref h), some (.int (nI j)), some (.ref q), some (.int b3), some (.int b0), some (.int (nI i))] [] τ (fun r υ => r = none ∧ zt_V υ h z s ∧ zw_F (fun o => o = h + 1) σ υ) := by
  have k0 := ho.1
  have j0 := hq.1
  intro x
  induction x with
  | zero =>
    intro i τ hi hF hI
    have hQ2 : zt_V τ q u t := hQ.fr hF (by omega) (by omega)
    refine zi_ild5 dX7_graftAt_82 ?_
    refine zi_ald2 dX7_graftAt_84 ?_
    refine zi_getI dX7_graftAt_85 flX7_18 rfl (by first | assumption | decide) ?_
    refine zi_icmp_ge 111 dX7_graftAt_88 (by decide) (fun c88 => ?_) (fun c88 => ?_)
    · refine zi_ret dX7_graftAt_111 rfl ?_
      refine ⟨rfl, ⟨h13, hz3, ?_, ?_, fun k hk => hI k hk (by omega)⟩, hF⟩
      · rw [hF.2 h (by omega)]; exact hn
      · rw [hF.2 h (by omega)]; exact hs
    · rw [hQ2.2.2.1, zn_le (by omega) (by omega)] at c88; omega
  | succ x ih =>
    intro i τ hi hF hI
    have hQ2 : zt_V τ q u t := hQ.fr hF (by omega) (by omega)
    have hn2 : τ.1 h 2 = nI z.length := by rw [hF.2 h (by omega)]; exact hn
    refine zi_ild5 dX7_graftAt_82 ?_
    refine zi_ald2 dX7_graftAt_84 ?_
    refine zi_getI dX7_graftAt_85 flX7_18 rfl (by first | assumption | decide) ?_
    refine zi_icmp_ge 111 dX7_graftAt_88 (by decide) (fun c88 => ?_) (fun c88 => ?_)
    · rw [hQ2.2.2.1, zn_le (by omega) (by omega)] at c88; omega
    · refine zi_ald0 dX7_graftAt_91 ?_
      refine zi_ild1 dX7_graftAt_92 ?_
      refine zi_ild5 dX7_graftAt_93 ?_
      refine zi_iadd dX7_graftAt_95 ?_
      refine zi_ald2 dX7_graftAt_96 ?_
      refine zi_ild5 dX7_graftAt_97 ?_
      rw [nI_add]
      refine zi_cV1i vmX7_figureAt lkX7_32 dX7_graftAt_99 (by first | assumption | decide) (Nat.le_of_ble_eq_true rfl) (c7_figureAt hq hQ2 (show i < 2147483648 by omega)) ?_
      rintro _ _ ⟨rfl, rfl⟩
      refine zi_cV2v vmX7_putFigure lkX7_47 dX7_graftAt_102 (by first | assumption | decide) (Nat.le_of_ble_eq_true rfl) (c7_putFigure_raw ho hn2 h13 (show j + i < z.length by omega)) ?_
      rintro _ rfl
      refine zi_inc5 (nI 1) dX7_graftAt_105 (by decide) (Nat.le_of_ble_eq_true rfl) rfl ?_
      refine zi_goto 82 dX7_graftAt_108 (by decide) ?_
      rw [nI_add]
      refine ih (i + 1) _ (by omega) (hF.pI rfl) (fun k hk hk2 => ?_)
      by_cases e : k = j + i
      · subst e
        rw [zs_same, hzu i (by omega)]
      · rw [zs_slot e]
        exact hI k hk (by omega)
theorem c7_graftAt {q j : Nat} {u : List Nat} {t : Int32} (ho : zt_ok h) (hq : zt_ok q) (ha : h + 3 ≤ q ∨ q + 3 ≤ h) (hV : zt_V σ h w s) (hQ : zt_V σ q u t) (hj : j < w.length) (hu : 1 ≤ u.length) (h13 : w.length + u.length - 1 ≤ 13) : zw_Tv l G (d + 2) mX7_graftAt [.ref h, .int (nI j), .ref q] σ (fun υ => zt_V υ h (w.take j ++ u ++ w.drop (j + 1)) s ∧ zw_F (zt_A h) σ υ) := by
  have k0 := ho.1
  have j0 := hq.1
  obtain ⟨v1, v2, v3, v4, v5⟩ := hV
  have q3 := hQ.2.2.1
  have hu13 := hQ.1
  have hzl : (w.take j ++ u ++ w.drop (j + 1)).length = j + u.length + (w.length - (j + 1)) := by
    rw [List.length_append, List.length_append, List.length_take, List.length_drop]; omega
  refine zw_enter2 (L := [some _, some _, some _, none, none, none]) (by decide) (Nat.le_of_ble_eq_true rfl) rfl ?_
  refine zi_ald2 dX7_graftAt_0 ?_
  refine zi_getI dX7_graftAt_1 flX7_18 rfl (by first | assumption | decide) ?_
  refine zi_iconst (nI 1) dX7_graftAt_4 (by decide) ?_
  refine zi_isub dX7_graftAt_5 ?_
  rw [q3, pk_sub hu]
  refine zi_ist3 dX7_graftAt_6 (Nat.le_of_ble_eq_true rfl) rfl ?_
  refine zi_ild1 dX7_graftAt_7 ?_
  refine zi_if_lt 30 dX7_graftAt_8 (by decide) (fun c8 => ?_) (fun c8 => ?_)
  · rw [zn_0, zn_neg j (by omega)] at c8; exact c8.elim
  · refine zi_ild1 dX7_graftAt_11 ?_
    refine zi_ald0 dX7_graftAt_12 ?_
    refine zi_getI dX7_graftAt_13 flX7_18 rfl (by first | assumption | decide) ?_
    refine zi_icmp_ge 30 dX7_graftAt_16 (by decide) (fun c16 => ?_) (fun c16 => ?_)
    · rw [v3, zn_le (by omega) (by omega)] at c16; omega
    · refine zi_ald0 dX7_graftAt_19 ?_
      refine zi_getI dX7_graftAt_20 flX7_18 rfl (by first | assumption | decide) ?_
      refine zi_ild3 dX7_graftAt_23 ?_
      refine zi_iadd dX7_graftAt_24 ?_
      refine zi_bipush (nI 13) dX7_graftAt_25 (by decide) ?_
      refine zi_icmp_le 31 dX7_graftAt_27 (by decide) (fun c27 => ?_) (fun c27 => ?_)
      · refine zi_ald0 dX7_graftAt_31 ?_
        refine zi_getI dX7_graftAt_32 flX7_18 rfl (by first | assumption | decide) ?_
        refine zi_ist4 dX7_graftAt_35 (Nat.le_of_ble_eq_true rfl) rfl ?_
        refine zi_ald0 dX7_graftAt_37 ?_
        refine zi_dupr dX7_graftAt_38 ?_
        refine zi_getI dX7_graftAt_39 flX7_18 rfl (by first | assumption | decide) ?_
        refine zi_ild3 dX7_graftAt_42 ?_
        refine zi_iadd dX7_graftAt_43 ?_
        refine zi_putI dX7_graftAt_44 flX7_18 fp_7_2 rfl (by first | assumption | decide) ?_
        refine zi_ild4 dX7_graftAt_47 ?_
        refine zi_iconst (nI 1) dX7_graftAt_49 (by decide) ?_
        refine zi_isub dX7_graftAt_50 ?_
        rw [v3, pk_sub (by omega), nI_add]
        refine zi_ist5 dX7_graftAt_51 (Nat.le_of_ble_eq_true rfl) rfl ?_
        refine l7_graft1 (σ := zw_pI σ h 2 (nI (w.length + (u.length - 1)))) (w := w) (n := w.length) ho (fun i hi => by rw [zs_obj (by omega)]; exact v5 i hi) (zs_same _ _ _ _) (by omega) hj (a0 := 0) (b1 := 0) ?_ (w.length - 1 - j) (w.length - 1) _ (by omega) (by omega) zw_F.rf (fun i hi => by rw [zs_obj (by omega)]; exact v5 i (by omega)) (fun i hi1 hi2 => by omega)
        intro τ hF hI hJ
        refine zi_iconst (nI 0) dX7_graftAt_79 (by decide) ?_
        refine zi_ist5 dX7_graftAt_80 (Nat.le_of_ble_eq_true rfl) rfl ?_
        have hQ1 : zt_V τ q u t := (hQ.cg (τ := zw_pI σ h 2 (nI (w.length + (u.length - 1)))) (zs_obj (by omega)) (zs_obj (by omega))).fr hF (by omega) (by omega)
        have hz : (w.take j ++ u ++ w.drop (j + 1)).length = j + u.length + (w.length - (j + 1)) := hzl
        have := l7_graft2 (l := l) (G := G) (d := d) (σ := τ) (s := s) (q := q) (j := j) (b0 := nI w.length) (b3 := nI (u.length - 1)) (z := w.take j ++ u ++ w.drop (j + 1)) ho hq ha hQ1 hz (by omega) (by rw [hF.2 h (by omega), zs_slot (by decide)]; exact v4) (by rw [hF.2 h (by omega), zs_same]; congr 1; omega) (by
          intro x hx
          rcases List.mem_append.mp hx with hx | hx
          · rcases List.mem_append.mp hx with hx | hx
            · exact v2 x (List.mem_of_mem_take hx)
            · exact hQ.2.1 x hx
          · exact v2 x (List.mem_of_mem_drop hx)) (fun i hi => by
          rw [zl_app_lo (by rw [List.length_append, List.length_take]; omega), zl_app_hi (by rw [List.length_take]; omega), List.length_take]
          congr 1; omega) u.length 0 τ (by omega) zw_F.rf (fun k hk hk2 => by
          rcases hk2 with q | q
          · rw [hI k (by omega), zl_app_lo (by rw [List.length_append, List.length_take]; omega), zl_app_lo (by rw [List.length_take]; omega), zl_takeD (by omega)]
          · have := hJ (k - (u.length - 1)) (by omega) (by omega)
            rw [show k - (u.length - 1) + (u.length - 1) = k by omega] at this
            rw [this, zl_app_hi (by rw [List.length_append, List.length_take]; omega), List.length_append, List.length_take, zl_dropD]
            congr 2; omega)
        refine zw_W.mono this (fun r υ hr => ⟨hr.1, hr.2.1, ?_⟩)
        refine ((zw_F.rf (A := zt_A h)).pI (o := h) ⟨by omega, by omega⟩).tr (hF.tr hr.2.2 (fun _ q => q) (fun _ q => q)) (fun _ q => q) (fun o q => ?_)
        exact ⟨by omega, by omega⟩
      · rw [v3, nI_add, zn_le (by omega) (by omega)] at c27; omega
end Z13
