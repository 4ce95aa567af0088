/-! the class's own methods: fate, the book, images -/
theorem zr_V.put {σ : zw_S} {r : Nat} {fa go : Nat → Nat} {p v b : Nat} {y : Int32} (h : zr_V σ r fa go) (hv : v < 4) (hb : b < 8) (hy : 2 ≤ v → y = nI b) : zr_V (zw_pI (zw_pI σ (r + 1) p (nI v)) (r + 2) p (if v < 2 then -1 else y)) r (zr_up fa p v) (zr_up go p (if 2 ≤ v then b else 8)) := by
  intro q hq
  obtain ⟨a1, a2, a3, a4, a5⟩ := h q hq
  by_cases e : q = p
  · subst e
    have e1 : zr_up fa q v q = v := if_pos rfl
    have e2 : zr_up go q (if 2 ≤ v then b else 8) q = if 2 ≤ v then b else 8 := if_pos rfl
    rw [e1, e2, zs_obj (show r + 1 ≠ r + 2 by omega), zs_same, zs_same]
    by_cases c : 2 ≤ v
    · rw [if_pos c, if_neg (show ¬ v < 2 by omega), zp_gI_lt hb]
      exact ⟨hv, by omega, ⟨fun _ => hb, fun _ => c⟩, rfl, hy c⟩
    · rw [if_neg c, if_pos (show v < 2 by omega)]
      exact ⟨hv, by omega, by omega, rfl, rfl⟩
  · have e1 : zr_up fa p v q = fa q := if_neg e
    have e2 : zr_up go p (if 2 ≤ v then b else 8) q = go q := if_neg e
    rw [e1, e2, zs_obj (show r + 1 ≠ r + 2 by omega), zs_slot e, zs_slot e, zs_obj (show r + 2 ≠ r + 1 by omega)]
    exact ⟨a1, a2, a3, a4, a5⟩
section Z30
variable {l : Launch} {G : zw_G} {d : Nat} {σ : zw_S} {A : zx_T}
theorem c8_fate39 (hV : zx_V σ A) {a k b : Nat} {q f : Int32} (ha : a < 8) (hk : k < 4) (hb : b < 8) (hy : 2 ≤ k → q = nI b) : zw_W l G (d + 4) mX8_fate 39 [some (.ref 0), some (.int (nI a)), some (.int (nI k)), some (.int q), some (.int f), none] [] σ (fun r υ => ∃ x, r = some (.int x) ∧ x = (if zr_al A.1.2.1 A.1.2.2 a k b then (nI (A.1.2.1 a), zx_dd A (A.1.1, zr_up A.1.2.1 a k, zr_up A.1.2.2 a (if 2 ≤ k then b else 8))) else (zx_NO, A)).1 ∧ zx_V υ (if zr_al A.1.2.1 A.1.2.2 a k b then (nI (A.1.2.1 a), zx_dd A (A.1.1, zr_up A.1.2.1 a k, zr_up A.1.2.2 a (if 2 ≤ k then b else 8))) else (zx_NO, A)).2 ∧ zx_F σ υ) := by
  obtain ⟨h1, ⟨nx, h2⟩, -⟩ := id hV
  have hR := h1.2.2.2.2
  refine zi_ild2 dX8_fate_39 ?_
  refine zi_if_lt 48 dX8_fate_40 (by decide) (fun c40 => ?_) (fun c40 => ?_)
  · rw [zn_0, zn_neg k (by omega)] at c40; exact c40.elim
  · refine zi_ild2 dX8_fate_43 ?_
    refine zi_iconst (nI 3) dX8_fate_44 (by decide) ?_
    refine zi_icmp_le 51 dX8_fate_45 (by decide) (fun c45 => ?_) (fun c45 => ?_)
    · refine zi_ald0 dX8_fate_51 ?_
      refine zi_getR dX8_fate_52 flX8_12 rfl (by first | assumption | decide) ?_
      refine zi_getR dX8_fate_55 flX8_104 rfl (by first | assumption | decide) ?_
      refine zi_ild1 dX8_fate_58 ?_
      refine zi_ild2 dX8_fate_59 ?_
      refine zi_ild3 dX8_fate_60 ?_
      refine zi_cV3i vmX4_allows lkX8_231 dX8_fate_61 (by first | assumption | decide) (Nat.le_of_ble_eq_true rfl) (c4_allows zg_rul1 hR ha hk hb hy) ?_
      rintro _ _ ⟨rfl, rfl⟩
      refine zi_if_ne 70 dX8_fate_64 (by decide) (fun c64 => ?_) (fun c64 => ?_)
      · have e : zr_al A.1.2.1 A.1.2.2 a k b = true := by
          cases h : zr_al A.1.2.1 A.1.2.2 a k b with
          | true => rfl
          | false => rw [if_neg (by rw [h]; decide)] at c64; exact absurd rfl c64
        rw [if_pos e]
        refine zi_ald0 dX8_fate_70 ?_
        refine zi_getR dX8_fate_71 flX8_12 rfl (by first | assumption | decide) ?_
        refine zi_getR dX8_fate_74 flX8_104 rfl (by first | assumption | decide) ?_
        refine zi_ild1 dX8_fate_77 ?_
        refine zi_cV1i vmX4_fateOf lkX8_173 dX8_fate_78 (by first | assumption | decide) (Nat.le_of_ble_eq_true rfl) (c4_fateOf zg_rul1 hR ha) ?_
        rintro _ _ ⟨rfl, rfl⟩
        refine zi_ist5 dX8_fate_81 (Nat.le_of_ble_eq_true rfl) rfl ?_
        refine zi_ald0 dX8_fate_83 ?_
        refine zi_getR dX8_fate_84 flX8_19 rfl (by first | assumption | decide) ?_
        refine zi_ald0 dX8_fate_87 ?_
        refine zi_getR dX8_fate_88 flX8_12 rfl (by first | assumption | decide) ?_
        refine zi_cV1v vmX1_record lkX8_85 dX8_fate_91 (by first | assumption | decide) (Nat.le_of_ble_eq_true rfl) (c1_record h2 h1) ?_
        rintro τ3 ⟨hq3, hF3⟩
        have g3 : zg_V τ3 1 A.1 := h1.fr hF3 (fun o a b => by unfold zq_A; omega)
        refine zi_ald0 dX8_fate_94 ?_
        refine zi_getR dX8_fate_95 flX8_12 rfl (by first | assumption | decide) ?_
        refine zi_getR dX8_fate_98 flX8_104 rfl (by first | assumption | decide) ?_
        refine zi_ild1 dX8_fate_101 ?_
        refine zi_ild2 dX8_fate_102 ?_
        refine zi_ild3 dX8_fate_103 ?_
        refine zi_cV3v vmX4_put lkX8_235 dX8_fate_104 (by first | assumption | decide) (Nat.le_of_ble_eq_true rfl) (c4_put zg_rul1 ha hk) ?_
        rintro τ4 e4
        have hR4 := g3.2.2.2.2.put (p := a) hk hb hy
        have hF4 : zw_F (fun o => o = 3 ∨ o = 4) τ3 τ4 := by
          rw [e4]
          exact (zw_F.rf.pI (Or.inl rfl)).pI (Or.inr rfl)
        have hX4 : zg_V τ4 1 (A.1.1, zr_up A.1.2.1 a k, zr_up A.1.2.2 a (if 2 ≤ k then b else 8)) := by
          obtain ⟨v1, v2, v3, v4, v5⟩ := g3
          refine ⟨v1, v2, by rw [hF4.2 1 (by omega)]; exact v3, fun i hi => ?_, by rw [e4]; exact hR4⟩
          rw [hF4.2 (1 + 4) (by omega), hF4.2 (1 + 5) (by omega)]
          exact v4 i hi
        refine zi_ild5 dX8_fate_107 ?_
        refine zi_iret dX8_fate_109 rfl ?_
        exact ⟨_, rfl, rfl, zx_deed (υ := τ4) hV (fun o a b c => hF3.2 o b) hq3 hX4 (fun o a b c => hF4.2 o (fun q => b (by unfold zg_A; omega))), (zx_Fq hF3).tr (zx_F.of hF4 (fun o q => by omega))⟩
      · refine zi_ldc dX8_fate_67 kcX8_210 ?_
        refine zi_iret dX8_fate_69 rfl ?_
        have e : zr_al A.1.2.1 A.1.2.2 a k b = false := by
          cases h : zr_al A.1.2.1 A.1.2.2 a k b with
          | false => rfl
          | true => rw [if_pos h] at c64; exact absurd c64 (by decide)
        rw [if_neg (by rw [e]; decide)]
        exact ⟨_, rfl, rfl, hV, zx_F.rf⟩
    · rw [zn_le (by omega) (by omega)] at c45; omega
theorem c8_fate (hV : zx_V σ A) {p v q : Int32} : zw_Ti l G (d + 4) mX8_fate [.ref 0, .int p, .int v, .int q] σ (fun x υ => x = (zx_fate A p v q).1 ∧ zx_V υ (zx_fate A p v q).2 ∧ zx_F σ υ) := by
  rcases zn_case p (n := 8) (by omega) with ho | ⟨a, ha, rfl⟩
  · have e : zx_fate A p v q = (zx_UN, A) := by unfold zx_fate; rw [zx_ix_out (by omega) ho]
    rw [e]
    refine zw_enter2 (L := [some _, some _, some _, some _, none, none]) (by decide) (Nat.le_of_ble_eq_true rfl) rfl ?_
    refine zi_ild2 dX8_fate_0 ?_
    refine zi_iconst (nI 2) dX8_fate_1 (by decide) ?_
    refine zi_icmp_eq 10 dX8_fate_2 (by decide) (fun c2 => ?_) (fun c2 => ?_)
    · refine zi_iconst (nI 1) dX8_fate_10 (by decide) ?_
      refine zi_goto 15 dX8_fate_11 (by decide) ?_
      refine zi_ist4 dX8_fate_15 (Nat.le_of_ble_eq_true rfl) rfl ?_
      refine zi_ild1 dX8_fate_17 ?_
      refine zi_cS1i smX4_isPattern lkX8_170 dX8_fate_18 (Nat.le_of_ble_eq_true rfl) (c4_isPattern_out ho) ?_
      rintro _ _ ⟨rfl, rfl⟩
      refine zi_if_eq 36 dX8_fate_21 (by decide) (fun c21 => ?_) (fun c21 => ?_)
      · refine zi_ldc dX8_fate_36 kcX8_139 ?_
        refine zi_iret dX8_fate_38 rfl ?_
        exact ⟨_, rfl, rfl, hV, zx_F.rf⟩
      · exact absurd rfl c21
    · refine zi_ild2 dX8_fate_5 ?_
      refine zi_iconst (nI 3) dX8_fate_6 (by decide) ?_
      refine zi_icmp_ne 14 dX8_fate_7 (by decide) (fun c7 => ?_) (fun c7 => ?_)
      · refine zi_iconst (nI 0) dX8_fate_14 (by decide) ?_
        refine zi_ist4 dX8_fate_15 (Nat.le_of_ble_eq_true rfl) rfl ?_
        refine zi_ild1 dX8_fate_17 ?_
        refine zi_cS1i smX4_isPattern lkX8_170 dX8_fate_18 (Nat.le_of_ble_eq_true rfl) (c4_isPattern_out ho) ?_
        rintro _ _ ⟨rfl, rfl⟩
        refine zi_if_eq 36 dX8_fate_21 (by decide) (fun c21 => ?_) (fun c21 => ?_)
        · refine zi_ldc dX8_fate_36 kcX8_139 ?_
          refine zi_iret dX8_fate_38 rfl ?_
          exact ⟨_, rfl, rfl, hV, zx_F.rf⟩
        · exact absurd rfl c21
      · refine zi_iconst (nI 1) dX8_fate_10 (by decide) ?_
        refine zi_goto 15 dX8_fate_11 (by decide) ?_
        refine zi_ist4 dX8_fate_15 (Nat.le_of_ble_eq_true rfl) rfl ?_
        refine zi_ild1 dX8_fate_17 ?_
        refine zi_cS1i smX4_isPattern lkX8_170 dX8_fate_18 (Nat.le_of_ble_eq_true rfl) (c4_isPattern_out ho) ?_
        rintro _ _ ⟨rfl, rfl⟩
        refine zi_if_eq 36 dX8_fate_21 (by decide) (fun c21 => ?_) (fun c21 => ?_)
        · refine zi_ldc dX8_fate_36 kcX8_139 ?_
          refine zi_iret dX8_fate_38 rfl ?_
          exact ⟨_, rfl, rfl, hV, zx_F.rf⟩
        · exact absurd rfl c21
  · rcases zn_case v (n := 4) (by omega) with ho | ⟨k, hk, rfl⟩
    · have e : zx_fate A (nI a) v q = (zx_OU, A) := by unfold zx_fate; rw [zx_ix_in (by omega) ha, zx_ix_out (by omega) ho]
      rw [e]
      refine zw_enter2 (L := [some _, some _, some _, some _, none, none]) (by decide) (Nat.le_of_ble_eq_true rfl) rfl ?_
      refine zi_ild2 dX8_fate_0 ?_
      refine zi_iconst (nI 2) dX8_fate_1 (by decide) ?_
      refine zi_icmp_eq 10 dX8_fate_2 (by decide) (fun c2 => ?_) (fun c2 => ?_)
      · exfalso; rw [c2] at ho; exact absurd ho (by unfold zn_out; decide)
      · refine zi_ild2 dX8_fate_5 ?_
        refine zi_iconst (nI 3) dX8_fate_6 (by decide) ?_
        refine zi_icmp_ne 14 dX8_fate_7 (by decide) (fun c7 => ?_) (fun c7 => ?_)
        · refine zi_iconst (nI 0) dX8_fate_14 (by decide) ?_
          refine zi_ist4 dX8_fate_15 (Nat.le_of_ble_eq_true rfl) rfl ?_
          refine zi_ild1 dX8_fate_17 ?_
          refine zi_cS1i smX4_isPattern lkX8_170 dX8_fate_18 (Nat.le_of_ble_eq_true rfl) (c4_isPattern_in ha) ?_
          rintro _ _ ⟨rfl, rfl⟩
          refine zi_if_eq 36 dX8_fate_21 (by decide) (fun c21 => ?_) (fun c21 => ?_)
          · exact absurd c21 (by decide)
          · refine zi_ild4 dX8_fate_24 ?_
            refine zi_if_eq 39 dX8_fate_26 (by decide) (fun c26 => ?_) (fun c26 => ?_)
            · refine zi_ild2 dX8_fate_39 ?_
              refine zi_if_lt 48 dX8_fate_40 (by decide) (fun c40 => ?_) (fun c40 => ?_)
              · refine zi_ldc dX8_fate_48 kcX8_75 ?_
                refine zi_iret dX8_fate_50 rfl ?_
                exact ⟨_, rfl, rfl, hV, zx_F.rf⟩
              · refine zi_ild2 dX8_fate_43 ?_
                refine zi_iconst (nI 3) dX8_fate_44 (by decide) ?_
                refine zi_icmp_le 51 dX8_fate_45 (by decide) (fun c45 => ?_) (fun c45 => ?_)
                · exfalso; rcases ho with o1 | o1; exact c40 o1; exact absurd (Int32.le_trans o1 c45) (by decide)
                · refine zi_ldc dX8_fate_48 kcX8_75 ?_
                  refine zi_iret dX8_fate_50 rfl ?_
                  exact ⟨_, rfl, rfl, hV, zx_F.rf⟩
            · exact absurd rfl c26
        · exfalso; rw [c7] at ho; exact absurd ho (by unfold zn_out; decide)
    · rcases zn_case q (n := 8) (by omega) with ho | ⟨b, hb, rfl⟩
      · by_cases c : 2 ≤ k
        · have e : zx_fate A (nI a) (nI k) q = (zx_UN, A) := by unfold zx_fate; rw [zx_ix_in (by omega) ha, zx_ix_in (by omega) hk, zx_ix_out (by omega) ho]; exact if_pos c
          rw [e]
          refine zw_enter2 (L := [some _, some _, some _, some _, none, none]) (by decide) (Nat.le_of_ble_eq_true rfl) rfl ?_
          refine zi_ild2 dX8_fate_0 ?_
          refine zi_iconst (nI 2) dX8_fate_1 (by decide) ?_
          refine zi_icmp_eq 10 dX8_fate_2 (by decide) (fun c2 => ?_) (fun c2 => ?_)
          · refine zi_iconst (nI 1) dX8_fate_10 (by decide) ?_
            refine zi_goto 15 dX8_fate_11 (by decide) ?_
            refine zi_ist4 dX8_fate_15 (Nat.le_of_ble_eq_true rfl) rfl ?_
            refine zi_ild1 dX8_fate_17 ?_
            refine zi_cS1i smX4_isPattern lkX8_170 dX8_fate_18 (Nat.le_of_ble_eq_true rfl) (c4_isPattern_in ha) ?_
            rintro _ _ ⟨rfl, rfl⟩
            refine zi_if_eq 36 dX8_fate_21 (by decide) (fun c21 => ?_) (fun c21 => ?_)
            · exact absurd c21 (by decide)
            · refine zi_ild4 dX8_fate_24 ?_
              refine zi_if_eq 39 dX8_fate_26 (by decide) (fun c26 => ?_) (fun c26 => ?_)
              · exact absurd c26 (by decide)
              · refine zi_ild3 dX8_fate_29 ?_
                refine zi_cS1i smX4_isPattern lkX8_170 dX8_fate_30 (Nat.le_of_ble_eq_true rfl) (c4_isPattern_out ho) ?_
                rintro _ _ ⟨rfl, rfl⟩
                refine zi_if_ne 39 dX8_fate_33 (by decide) (fun c33 => ?_) (fun c33 => ?_)
                · exact absurd rfl c33
                · refine zi_ldc dX8_fate_36 kcX8_139 ?_
                  refine zi_iret dX8_fate_38 rfl ?_
                  exact ⟨_, rfl, rfl, hV, zx_F.rf⟩
          · refine zi_ild2 dX8_fate_5 ?_
            refine zi_iconst (nI 3) dX8_fate_6 (by decide) ?_
            refine zi_icmp_ne 14 dX8_fate_7 (by decide) (fun c7 => ?_) (fun c7 => ?_)
            · exfalso; rw [zn_eq (by omega) (by omega)] at c2 c7; omega
            · refine zi_iconst (nI 1) dX8_fate_10 (by decide) ?_
              refine zi_goto 15 dX8_fate_11 (by decide) ?_
              refine zi_ist4 dX8_fate_15 (Nat.le_of_ble_eq_true rfl) rfl ?_
              refine zi_ild1 dX8_fate_17 ?_
              refine zi_cS1i smX4_isPattern lkX8_170 dX8_fate_18 (Nat.le_of_ble_eq_true rfl) (c4_isPattern_in ha) ?_
              rintro _ _ ⟨rfl, rfl⟩
              refine zi_if_eq 36 dX8_fate_21 (by decide) (fun c21 => ?_) (fun c21 => ?_)
              · exact absurd c21 (by decide)
              · refine zi_ild4 dX8_fate_24 ?_
                refine zi_if_eq 39 dX8_fate_26 (by decide) (fun c26 => ?_) (fun c26 => ?_)
                · exact absurd c26 (by decide)
                · refine zi_ild3 dX8_fate_29 ?_
                  refine zi_cS1i smX4_isPattern lkX8_170 dX8_fate_30 (Nat.le_of_ble_eq_true rfl) (c4_isPattern_out ho) ?_
                  rintro _ _ ⟨rfl, rfl⟩
                  refine zi_if_ne 39 dX8_fate_33 (by decide) (fun c33 => ?_) (fun c33 => ?_)
                  · exact absurd rfl c33
                  · refine zi_ldc dX8_fate_36 kcX8_139 ?_
                    refine zi_iret dX8_fate_38 rfl ?_
                    exact ⟨_, rfl, rfl, hV, zx_F.rf⟩
        · have e : zx_fate A (nI a) (nI k) q = if zr_al A.1.2.1 A.1.2.2 a k 0 then (nI (A.1.2.1 a), zx_dd A (A.1.1, zr_up A.1.2.1 a k, zr_up A.1.2.2 a (if 2 ≤ k then 0 else 8))) else (zx_NO, A) := by
            unfold zx_fate; rw [zx_ix_in (by omega) ha, zx_ix_in (by omega) hk, zx_ix_out (by omega) ho, if_neg c]; exact if_neg c
          rw [e]
          refine zw_enter2 (L := [some _, some _, some _, some _, none, none]) (by decide) (Nat.le_of_ble_eq_true rfl) rfl ?_
          refine zi_ild2 dX8_fate_0 ?_
          refine zi_iconst (nI 2) dX8_fate_1 (by decide) ?_
          refine zi_icmp_eq 10 dX8_fate_2 (by decide) (fun c2 => ?_) (fun c2 => ?_)
          · rw [zn_eq (by omega) (by omega)] at c2; omega
          · refine zi_ild2 dX8_fate_5 ?_
            refine zi_iconst (nI 3) dX8_fate_6 (by decide) ?_
            refine zi_icmp_ne 14 dX8_fate_7 (by decide) (fun c7 => ?_) (fun c7 => ?_)
            · refine zi_iconst (nI 0) dX8_fate_14 (by decide) ?_
              refine zi_ist4 dX8_fate_15 (Nat.le_of_ble_eq_true rfl) rfl ?_
              refine zi_ild1 dX8_fate_17 ?_
              refine zi_cS1i smX4_isPattern lkX8_170 dX8_fate_18 (Nat.le_of_ble_eq_true rfl) (c4_isPattern_in ha) ?_
              rintro _ _ ⟨rfl, rfl⟩
              refine zi_if_eq 36 dX8_fate_21 (by decide) (fun c21 => ?_) (fun c21 => ?_)
              · exact absurd c21 (by decide)
              · refine zi_ild4 dX8_fate_24 ?_
                refine zi_if_eq 39 dX8_fate_26 (by decide) (fun c26 => ?_) (fun c26 => ?_)
                · exact c8_fate39 hV ha hk (by decide) (fun h => absurd h c)
                · exact absurd rfl c26
            · rw [zn_eq (by omega) (by omega)] at c7; omega
      · have e : zx_fate A (nI a) (nI k) (nI b) = if zr_al A.1.2.1 A.1.2.2 a k b then (nI (A.1.2.1 a), zx_dd A (A.1.1, zr_up A.1.2.1 a k, zr_up A.1.2.2 a (if 2 ≤ k then b else 8))) else (zx_NO, A) := by
          unfold zx_fate; rw [zx_ix_in (by omega) ha, zx_ix_in (by omega) hk, zx_ix_in (by omega) hb]
        rw [e]
        refine zw_enter2 (L := [some _, some _, some _, some _, none, none]) (by decide) (Nat.le_of_ble_eq_true rfl) rfl ?_
        refine zi_ild2 dX8_fate_0 ?_
        refine zi_iconst (nI 2) dX8_fate_1 (by decide) ?_
        refine zi_icmp_eq 10 dX8_fate_2 (by decide) (fun c2 => ?_) (fun c2 => ?_)
        · refine zi_iconst (nI 1) dX8_fate_10 (by decide) ?_
          refine zi_goto 15 dX8_fate_11 (by decide) ?_
          refine zi_ist4 dX8_fate_15 (Nat.le_of_ble_eq_true rfl) rfl ?_
          refine zi_ild1 dX8_fate_17 ?_
          refine zi_cS1i smX4_isPattern lkX8_170 dX8_fate_18 (Nat.le_of_ble_eq_true rfl) (c4_isPattern_in ha) ?_
          rintro _ _ ⟨rfl, rfl⟩
          refine zi_if_eq 36 dX8_fate_21 (by decide) (fun c21 => ?_) (fun c21 => ?_)
          · exact absurd c21 (by decide)
          · refine zi_ild4 dX8_fate_24 ?_
            refine zi_if_eq 39 dX8_fate_26 (by decide) (fun c26 => ?_) (fun c26 => ?_)
            · exact c8_fate39 hV ha hk hb (fun _ => rfl)
            · refine zi_ild3 dX8_fate_29 ?_
              refine zi_cS1i smX4_isPattern lkX8_170 dX8_fate_30 (Nat.le_of_ble_eq_true rfl) (c4_isPattern_in hb) ?_
              rintro _ _ ⟨rfl, rfl⟩
              refine zi_if_ne 39 dX8_fate_33 (by decide) (fun c33 => ?_) (fun c33 => ?_)
              · exact c8_fate39 hV ha hk hb (fun _ => rfl)
              · exact absurd c33 (by decide)
        · refine zi_ild2 dX8_fate_5 ?_
          refine zi_iconst (nI 3) dX8_fate_6 (by decide) ?_
          refine zi_icmp_ne 14 dX8_fate_7 (by decide) (fun c7 => ?_) (fun c7 => ?_)
          · refine zi_iconst (nI 0) dX8_fate_14 (by decide) ?_
            refine zi_ist4 dX8_fate_15 (Nat.le_of_ble_eq_true rfl) rfl ?_
            refine zi_ild1 dX8_fate_17 ?_
            refine zi_cS1i smX4_isPattern lkX8_170 dX8_fate_18 (Nat.le_of_ble_eq_true rfl) (c4_isPattern_in ha) ?_
            rintro _ _ ⟨rfl, rfl⟩
            refine zi_if_eq 36 dX8_fate_21 (by decide) (fun c21 => ?_) (fun c21 => ?_)
            · exact absurd c21 (by decide)
            · refine zi_ild4 dX8_fate_24 ?_
              refine zi_if_eq 39 dX8_fate_26 (by decide) (fun c26 => ?_) (fun c26 => ?_)
              · exact c8_fate39 hV ha hk hb (fun _ => rfl)
              · refine zi_ild3 dX8_fate_29 ?_
                refine zi_cS1i smX4_isPattern lkX8_170 dX8_fate_30 (Nat.le_of_ble_eq_true rfl) (c4_isPattern_in hb) ?_
                rintro _ _ ⟨rfl, rfl⟩
                refine zi_if_ne 39 dX8_fate_33 (by decide) (fun c33 => ?_) (fun c33 => ?_)
                · exact c8_fate39 hV ha hk hb (fun _ => rfl)
                · exact absurd c33 (by decide)
          · refine zi_iconst (nI 1) dX8_fate_10 (by decide) ?_
            refine zi_goto 15 dX8_fate_11 (by decide) ?_
            refine zi_ist4 dX8_fate_15 (Nat.le_of_ble_eq_true rfl) rfl ?_
            refine zi_ild1 dX8_fate_17 ?_
            refine zi_cS1i smX4_isPattern lkX8_170 dX8_fate_18 (Nat.le_of_ble_eq_true rfl) (c4_isPattern_in ha) ?_
            rintro _ _ ⟨rfl, rfl⟩
            refine zi_if_eq 36 dX8_fate_21 (by decide) (fun c21 => ?_) (fun c21 => ?_)
            · exact absurd c21 (by decide)
            · refine zi_ild4 dX8_fate_24 ?_
              refine zi_if_eq 39 dX8_fate_26 (by decide) (fun c26 => ?_) (fun c26 => ?_)
              · exact c8_fate39 hV ha hk hb (fun _ => rfl)
              · refine zi_ild3 dX8_fate_29 ?_
                refine zi_cS1i smX4_isPattern lkX8_170 dX8_fate_30 (Nat.le_of_ble_eq_true rfl) (c4_isPattern_in hb) ?_
                rintro _ _ ⟨rfl, rfl⟩
                refine zi_if_ne 39 dX8_fate_33 (by decide) (fun c33 => ?_) (fun c33 => ?_)
                · exact c8_fate39 hV ha hk hb (fun _ => rfl)
                · exact absurd c33 (by decide)
theorem c8_write (hV : zx_V σ A) {t c : Int32} : zw_Ti l G (d + 3) mX8_write [.ref 0, .int t, .int c] σ (fun x υ => x = (zx_write A t c).1 ∧ zx_V υ (zx_write A t c).2 ∧ zx_F σ υ) := by
  obtain ⟨h1, ⟨nx, h2⟩, h3, h4, h5, h6, h7, h8⟩ := id hV
  have hl8 := h1.1
  have hb20 := h6.1
  rcases zn_case t (n := A.1.1.length) (by omega) with ho | ⟨a, ha, rfl⟩
  · have e : zx_write A t c = (zx_UN, A) := by unfold zx_write; rw [zx_ix_out (by omega) ho]
    rw [e]
    refine zw_enter2 (L := [some _, some _, some _]) (by decide) (Nat.le_of_ble_eq_true rfl) rfl ?_
    refine zi_ald0 dX8_write_0 ?_
    refine zi_getR dX8_write_1 flX8_12 rfl (by first | assumption | decide) ?_
    refine zi_ild1 dX8_write_4 ?_
    refine zi_cV1i vmX6_has lkX8_135 dX8_write_5 (by first | assumption | decide) (Nat.le_of_ble_eq_true rfl) (c6_has_out zg_ok1 h1 ho) ?_
    rintro _ _ ⟨rfl, rfl⟩
    refine zi_if_ne 14 dX8_write_8 (by decide) (fun c8 => ?_) (fun c8 => ?_)
    · exact absurd rfl c8
    · refine zi_ldc dX8_write_11 kcX8_139 ?_
      refine zi_iret dX8_write_13 rfl ?_
      exact ⟨_, rfl, rfl, hV, zx_F.rf⟩
  · have e : zx_write A (nI a) c = if A.2.2.2.2.2.1.length = 20 then (zx_FU, A) else (nI (A.2.2.2.2.2.1.length + 1), A.1, A.2.1, A.2.2.1, A.2.2.2.1, A.2.2.2.2.1, A.2.2.2.2.2.1 ++ [(a, c)], A.2.2.2.2.2.2) := by unfold zx_write; rw [zx_ix_in (by omega) ha]
    rw [e]
    refine zw_enter2 (L := [some _, some _, some _]) (by decide) (Nat.le_of_ble_eq_true rfl) rfl ?_
    refine zi_ald0 dX8_write_0 ?_
    refine zi_getR dX8_write_1 flX8_12 rfl (by first | assumption | decide) ?_
    refine zi_ild1 dX8_write_4 ?_
    refine zi_cV1i vmX6_has lkX8_135 dX8_write_5 (by first | assumption | decide) (Nat.le_of_ble_eq_true rfl) (c6_has zg_ok1 h1 ha) ?_
    rintro _ _ ⟨rfl, rfl⟩
    refine zi_if_ne 14 dX8_write_8 (by decide) (fun c8 => ?_) (fun c8 => ?_)
    · refine zi_ald0 dX8_write_14 ?_
      refine zi_getR dX8_write_15 flX8_32 rfl (by first | assumption | decide) ?_
      refine zi_cV0i vmX0_isFull lkX8_269 dX8_write_18 (by first | assumption | decide) (Nat.le_of_ble_eq_true rfl) (c0_isFull h6) ?_
      rintro _ _ ⟨rfl, rfl⟩
      refine zi_if_eq 27 dX8_write_21 (by decide) (fun c21 => ?_) (fun c21 => ?_)
      · have e8 : A.2.2.2.2.2.1.length < 20 := by
          by_cases q : 20 ≤ A.2.2.2.2.2.1.length
          · rw [if_pos q] at c21; exact absurd c21 (by decide)
          · omega
        rw [if_neg (show ¬ A.2.2.2.2.2.1.length = 20 by omega)]
        refine zi_ald0 dX8_write_27 ?_
        refine zi_getR dX8_write_28 flX8_32 rfl (by first | assumption | decide) ?_
        refine zi_ild1 dX8_write_31 ?_
        refine zi_ild2 dX8_write_32 ?_
        refine zi_cV2v vmX0_add lkX8_270 dX8_write_33 (by first | assumption | decide) (Nat.le_of_ble_eq_true rfl) (c0_add h6 e8 (by omega)) ?_
        rintro τ1 ⟨hB1, hF1⟩
        refine zi_ald0 dX8_write_36 ?_
        refine zi_getR dX8_write_37 flX8_32 rfl (by first | assumption | decide) ?_
        refine zi_getI dX8_write_40 flX8_129 rfl (by first | assumption | decide) ?_
        refine zi_iret dX8_write_43 rfl ?_
        have e0 := hF1.2 0 (by omega)
        refine ⟨_, rfl, by rw [show τ1.1 (0 + 130) 2 = _ from hB1.2.1, List.length_append]; rfl, ⟨h1.cg (fun o a b => hF1.2 o (by omega)), ⟨nx, ?_⟩, fun i hi => (h3 i hi).cg (fun k a b => hF1.2 k (by omega)), h4.cg (by rw [e0]) (hF1.2 _ (by omega)), by rw [e0]; exact h5, hB1, h7, by rw [e0]; exact h8⟩, zx_F.of hF1 (fun o q => by omega)⟩
        obtain ⟨a1, a2, a3, a4, a5⟩ := h2
        refine ⟨a1, a2, by rw [hF1.2 7 (by omega)]; exact a3, by rw [hF1.2 7 (by omega)]; exact a4, fun j hj => (a5 j hj).cg (fun o p q => hF1.2 o (by unfold zq_sl at p q; omega))⟩
      · refine zi_ldc dX8_write_24 kcX8_76 ?_
        refine zi_iret dX8_write_26 rfl ?_
        have e8 : A.2.2.2.2.2.1.length = 20 := by
          by_cases q : 20 ≤ A.2.2.2.2.2.1.length
          · omega
          · rw [if_neg q] at c21; exact absurd rfl c21
        rw [if_pos e8]
        exact ⟨_, rfl, rfl, hV, zx_F.rf⟩
    · exact absurd c8 (by decide)
theorem c8_tear (hV : zx_V σ A) : zw_Ti l G (d + 1) mX8_tear [.ref 0] σ (fun x υ => x = (zx_tear A).1 ∧ zx_V υ (zx_tear A).2 ∧ zx_F σ υ) := by
  obtain ⟨h1, ⟨nx, h2⟩, h3, h4, h5, h6, h7, h8⟩ := id hV
  refine zw_enter2 (L := [some _, none]) (by decide) (Nat.le_of_ble_eq_true rfl) rfl ?_
  refine zi_ald0 dX8_tear_0 ?_
  refine zi_getR dX8_tear_1 flX8_32 rfl (by first | assumption | decide) ?_
  refine zi_getI dX8_tear_4 flX8_129 rfl (by first | assumption | decide) ?_
  refine zi_ist1 dX8_tear_7 (Nat.le_of_ble_eq_true rfl) rfl ?_
  refine zi_ald0 dX8_tear_8 ?_
  refine zi_getR dX8_tear_9 flX8_32 rfl (by first | assumption | decide) ?_
  refine zi_iconst (nI 0) dX8_tear_12 (by decide) ?_
  refine zi_putI dX8_tear_13 flX8_129 fp_0_2 rfl (by first | assumption | decide) ?_
  refine zi_ild1 dX8_tear_16 ?_
  refine zi_iret dX8_tear_17 rfl ?_
  have hF1 : zw_F (fun o => o = 130) σ (zw_pI σ 130 2 (nI 0)) := zw_F.rf.pI rfl
  have e0 := hF1.2 0 (by omega)
  refine ⟨_, rfl, h6.2.1, ⟨h1.cg (fun o a b => hF1.2 o (by omega)), ⟨nx, ?_⟩, fun i hi => (h3 i hi).cg (fun k a b => hF1.2 k (by omega)), h4.cg (by rw [e0]) (hF1.2 _ (by omega)), by rw [e0]; exact h5, ⟨Nat.zero_le _, zs_same _ _ _ _, fun i hi => absurd hi (Nat.not_lt_zero _)⟩, h7, by rw [e0]; exact h8⟩, zx_F.of hF1 (fun o q => by omega)⟩
  obtain ⟨a1, a2, a3, a4, a5⟩ := h2
  refine ⟨a1, a2, by rw [hF1.2 7 (by omega)]; exact a3, by rw [hF1.2 7 (by omega)]; exact a4, fun j hj => (a5 j hj).cg (fun o p q => hF1.2 o (by unfold zq_sl at p q; omega))⟩
theorem c8_seed (hV : zx_V σ A) {v : Int32} : zw_Ti l G (d + 1) mX8_seed [.ref 0, .int v] σ (fun x υ => x = (zx_seed A v).1 ∧ zx_V υ (zx_seed A v).2 ∧ zx_F σ υ) := by
  refine zw_enter2 (L := [some _, some _, none]) (by decide) (Nat.le_of_ble_eq_true rfl) rfl ?_
  refine zi_ild1 dX8_seed_0 ?_
  refine zi_if_ge 7 dX8_seed_1 (by decide) (fun c1 => ?_) (fun c1 => ?_)
  · refine zi_ald0 dX8_seed_7 ?_
    refine zi_getI dX8_seed_8 flX8_71 rfl (by first | assumption | decide) ?_
    refine zi_ist2 dX8_seed_11 (Nat.le_of_ble_eq_true rfl) rfl ?_
    refine zi_ald0 dX8_seed_12 ?_
    refine zi_ild1 dX8_seed_13 ?_
    refine zi_putI dX8_seed_14 flX8_71 fp_8_11 rfl (by first | assumption | decide) ?_
    refine zi_ild2 dX8_seed_17 ?_
    refine zi_iret dX8_seed_18 rfl ?_
    have c1' : ¬ v < nI 0 := Int32.not_lt.mpr c1
    rw [show zx_seed A v = (nI A.2.2.2.2.2.2, zx_sA A v.toNatClampNeg) from if_neg c1']
    obtain ⟨j, hj, rfl⟩ := nI_of c1'
    rw [nI_clamp hj]
    exact ⟨_, rfl, hV.2.2.2.2.2.2.2, hV.seed hj, zx_pIF⟩
  · refine zi_ldc dX8_seed_4 kcX8_75 ?_
    refine zi_iret dX8_seed_6 rfl ?_
    rw [show zx_seed A v = (zx_OU, A) from if_pos (Int32.not_le.mp c1)]
    exact ⟨_, rfl, rfl, hV, zx_F.rf⟩
theorem c8_imageAt_in {k : Nat} (hk : k < 2) : zw_Tr l G (d + 1) mX8_imageAt [.ref 0, .int (nI k)] σ (fun x τ => σ = τ ∧ x = .ref (154 + 7 * k)) := by
  have l8 : zw_ln 129 = 2 := by decide
  have e8 : zw_er 129 k = 154 + 7 * k := by unfold zw_er; rw [if_neg (by decide), if_pos rfl]
  refine zw_enter2 (L := [some _, some _]) (by decide) (Nat.le_of_ble_eq_true rfl) rfl ?_
  refine zi_ild1 dX8_imageAt_0 ?_
  refine zi_if_lt 22 dX8_imageAt_1 (by decide) (fun c1 => ?_) (fun c1 => ?_)
  · rw [zn_0, zn_neg k (by omega)] at c1; exact c1.elim
  · refine zi_ild1 dX8_imageAt_4 ?_
    refine zi_ald0 dX8_imageAt_5 ?_
    refine zi_getR dX8_imageAt_6 flX8_25 rfl (by first | assumption | decide) ?_
    refine zi_alen (nI 2) dX8_imageAt_9 (by decide) (by decide) ?_
    refine zi_icmp_ge 22 dX8_imageAt_10 (by decide) (fun c10 => ?_) (fun c10 => ?_)
    · rw [zn_le (by omega) (by omega)] at c10; omega
    · refine zi_ald0 dX8_imageAt_13 ?_
      refine zi_getR dX8_imageAt_14 flX8_25 rfl (by first | assumption | decide) ?_
      refine zi_ild1 dX8_imageAt_17 ?_
      refine zi_aaldN 0 k dX8_imageAt_18 (by first | assumption | decide) (by decide) rfl (by show k < zw_ln 129; omega) (by decide) ?_
      rw [show zw_er (0 + 129) k = 154 + 7 * k from e8]
      refine zi_goto 23 dX8_imageAt_19 (by decide) ?_
      refine zi_aret dX8_imageAt_23 rfl (Or.inr ⟨_, rfl⟩) ?_
      exact ⟨_, rfl, rfl, rfl⟩
theorem c8_imageAt_out {x : Int32} (h : zn_out x 2) : zw_Tr l G (d + 1) mX8_imageAt [.ref 0, .int x] σ (fun y τ => σ = τ ∧ y = .null) := by
  refine zw_enter2 (L := [some _, some _]) (by decide) (Nat.le_of_ble_eq_true rfl) rfl ?_
  refine zi_ild1 dX8_imageAt_0 ?_
  refine zi_if_lt 22 dX8_imageAt_1 (by decide) (fun c1 => ?_) (fun c1 => ?_)
  · refine zi_null dX8_imageAt_22 ?_
    refine zi_aret dX8_imageAt_23 rfl (Or.inl rfl) ?_
    exact ⟨_, rfl, rfl, rfl⟩
  · refine zi_ild1 dX8_imageAt_4 ?_
    refine zi_ald0 dX8_imageAt_5 ?_
    refine zi_getR dX8_imageAt_6 flX8_25 rfl (by first | assumption | decide) ?_
    refine zi_alen (nI 2) dX8_imageAt_9 (by decide) (by decide) ?_
    refine zi_icmp_ge 22 dX8_imageAt_10 (by decide) (fun c10 => ?_) (fun c10 => ?_)
    · refine zi_null dX8_imageAt_22 ?_
      refine zi_aret dX8_imageAt_23 rfl (Or.inl rfl) ?_
      exact ⟨_, rfl, rfl, rfl⟩
    · exfalso; rcases h with h | h; exact c1 h; exact c10 h
theorem zx_im {k : Nat} (hk : k < 2) : zw_kd (154 + 7 * k) = 2 ∧ zg_ok (155 + 7 * k) := by
  rcases Nat.lt_or_ge k 1 with q | q
  · rw [show k = 0 by omega]
    refine ⟨?_, ?_, ⟨?_, ?_, ?_, ?_, ?_⟩, ?_, ?_, ?_, ?_⟩ <;> decide
  · rw [show k = 1 by omega]
    refine ⟨?_, ?_, ⟨?_, ?_, ?_, ?_, ?_⟩, ?_, ?_, ?_, ?_⟩ <;> decide
theorem c8_keep (hV : zx_V σ A) {x : Int32} : zw_Ti l G (d + 3) mX8_keep [.ref 0, .int x] σ (fun y υ => y = (zx_keep A x).1 ∧ zx_V υ (zx_keep A x).2 ∧ zx_F σ υ) := by
  rcases zn_case x (n := 2) (by omega) with ho | ⟨k, hk, rfl⟩
  · have e : zx_keep A x = (zx_UN, A) := by unfold zx_keep; rw [zx_ix_out (by omega) ho]
    rw [e]
    refine zw_enter2 (L := [some _, some _, none]) (by decide) (Nat.le_of_ble_eq_true rfl) rfl ?_
    refine zi_ald0 dX8_keep_0 ?_
    refine zi_ild1 dX8_keep_1 ?_
    refine zi_cV1r vmX8_imageAt lkX8_273 dX8_keep_2 (by first | assumption | decide) (Nat.le_of_ble_eq_true rfl) (c8_imageAt_out ho) ?_
    rintro _ _ ⟨rfl, rfl⟩
    refine zi_ast2N dX8_keep_5 (Nat.le_of_ble_eq_true rfl) rfl ?_
    refine zi_ald2N dX8_keep_6 ?_
    refine zi_nonnullN dX8_keep_7 ?_
    refine zi_ldc dX8_keep_10 kcX8_139 ?_
    refine zi_iret dX8_keep_12 rfl ?_
    exact ⟨_, rfl, rfl, hV, zx_F.rf⟩
  · have e : zx_keep A (nI k) = (nI 1, A.1, [], (fun j => if j = k then some (A.1, A.2.2.2.2.2.2) else A.2.2.1 j), A.2.2.2) := by unfold zx_keep; rw [zx_ix_in (by omega) hk]
    rw [e]
    obtain ⟨h1, ⟨nx, h2⟩, h3, h4, h5, h6, h7, h8⟩ := id hV
    obtain ⟨k2, ok2⟩ := zx_im hk
    have k6 := ok2.1
    refine zw_enter2 (L := [some _, some _, none]) (by decide) (Nat.le_of_ble_eq_true rfl) rfl ?_
    refine zi_ald0 dX8_keep_0 ?_
    refine zi_ild1 dX8_keep_1 ?_
    refine zi_cV1r vmX8_imageAt lkX8_273 dX8_keep_2 (by first | assumption | decide) (Nat.le_of_ble_eq_true rfl) (c8_imageAt_in hk) ?_
    rintro _ _ ⟨rfl, rfl⟩
    refine zi_ast2 dX8_keep_5 (Nat.le_of_ble_eq_true rfl) rfl ?_
    refine zi_ald2 dX8_keep_6 ?_
    refine zi_nonnull 13 dX8_keep_7 (by decide) ?_
    refine zi_ald2 dX8_keep_13 ?_
    refine zi_getR dX8_keep_14 flX8_277 rfl (by first | assumption | decide) ?_
    refine zi_ald0 dX8_keep_17 ?_
    refine zi_getR dX8_keep_18 flX8_12 rfl (by first | assumption | decide) ?_
    rw [show 154 + 7 * k + 1 = 155 + 7 * k by omega]
    refine zi_cV1v vmX6_copyFrom lkX8_280 dX8_keep_21 (by first | assumption | decide) (Nat.le_of_ble_eq_true rfl) (c6_copyFrom ok2 zg_ok1 (by omega) h1) ?_
    rintro τ1 ⟨hX1, hF1⟩
    have hF3 : zw_F (fun o => 154 + 7 * k ≤ o ∧ o < 161 + 7 * k) σ (zw_pI (zw_pI τ1 (154 + 7 * k) 1 (τ1.1 0 11)) (154 + 7 * k) 2 (nI 1)) := ((hF1.mono (fun o q => by unfold zg_A at q; omega)).pI (by omega)).pI (by omega)
    have q3 : zq_V (zw_pI (zw_pI τ1 (154 + 7 * k) 1 (τ1.1 0 11)) (154 + 7 * k) 2 (nI 1)) nx A.2.1 := by
      obtain ⟨a1, a2, a3, a4, a5⟩ := h2
      refine ⟨a1, a2, by rw [hF3.2 7 (by omega)]; exact a3, by rw [hF3.2 7 (by omega)]; exact a4, fun j hj => (a5 j hj).cg (fun o p q => hF3.2 o (by unfold zq_sl at p q; omega))⟩
    refine zi_ald2 dX8_keep_24 ?_
    refine zi_ald0 dX8_keep_25 ?_
    refine zi_getI dX8_keep_26 flX8_71 rfl (by first | assumption | decide) ?_
    refine zi_putI dX8_keep_29 flX8_283 fp_2_1 rfl (by first | assumption | decide) ?_
    refine zi_ald2 dX8_keep_32 ?_
    refine zi_iconst (nI 1) dX8_keep_33 (by decide) ?_
    refine zi_putZ dX8_keep_34 flX8_286 fp_2_2 (by decide) rfl (by first | assumption | decide) ?_
    refine zi_ald0 dX8_keep_37 ?_
    refine zi_getR dX8_keep_38 flX8_19 rfl (by first | assumption | decide) ?_
    refine zi_cV0v vmX1_forget lkX8_290 dX8_keep_41 (by first | assumption | decide) (Nat.le_of_ble_eq_true rfl) (c1_forget q3) ?_
    rintro τ4 ⟨hq4, hF4⟩
    have hF : ∀ o, o ≠ 7 → ¬ (154 + 7 * k ≤ o ∧ o < 161 + 7 * k) → τ4.1 o = σ.1 o := fun o a b => (hF4.2 o a).trans (hF3.2 o b)
    refine zi_iconst (nI 1) dX8_keep_44 (by decide) ?_
    refine zi_iret dX8_keep_45 rfl ?_
    have e0 := hF 0 (by omega) (by omega)
    refine ⟨_, rfl, rfl, ⟨h1.cg (fun o a b => hF o (by omega) (by omega)), ⟨_, hq4⟩, fun i hi => ?_, h4.cg (by rw [e0]) (hF _ (by omega) (by omega)), by rw [e0]; exact h5, ?_, h7, by rw [e0]; exact h8⟩, (zx_F.of hF3 (fun o q => by omega)).tr (zx_F.of hF4 (fun o q => by omega))⟩
    · by_cases c : i = k
      · subst c
        show zx_I τ4 i (if i = i then some (A.1, A.2.2.2.2.2.2) else A.2.2.1 i)
        rw [if_pos rfl]
        refine ⟨?_, ?_, ?_, h7⟩
        · rw [hF4.2 _ (by omega)]; exact zs_same _ _ _ _
        · rw [hF4.2 _ (by omega), zs_slot (by decide), zs_same, hF1.2 0 (by unfold zg_A; omega)]; exact h8
        · exact hX1.cg (fun o a b => by rw [hF4.2 _ (by omega), zs_obj (by omega), zs_obj (by omega)])
      · show zx_I τ4 i (if i = k then some (A.1, A.2.2.2.2.2.2) else A.2.2.1 i)
        rw [if_neg c]
        exact (h3 i hi).cg (fun o a b => hF o (by omega) (by omega))
    · obtain ⟨a1, a2, a3⟩ := h6
      refine ⟨a1, by rw [hF 130 (by omega) (by omega)]; exact a2, fun i hi => ?_⟩
      rw [hF 131 (by omega) (by omega), hF 132 (by omega) (by omega)]
      exact a3 i hi
theorem c8_goBack (hV : zx_V σ A) {x : Int32} : zw_Ti l G (d + 3) mX8_goBack [.ref 0, .int x] σ (fun y υ => y = (zx_goBack A x).1 ∧ zx_V υ (zx_goBack A x).2 ∧ zx_F σ υ) := by
  rcases zn_case x (n := 2) (by omega) with ho | ⟨k, hk, rfl⟩
  · have e : zx_goBack A x = (zx_UN, A) := by unfold zx_goBack; rw [zx_ix_out (by omega) ho]
    rw [e]
    refine zw_enter2 (L := [some _, some _, none]) (by decide) (Nat.le_of_ble_eq_true rfl) rfl ?_
    refine zi_ald0 dX8_goBack_0 ?_
    refine zi_ild1 dX8_goBack_1 ?_
    refine zi_cV1r vmX8_imageAt lkX8_273 dX8_goBack_2 (by first | assumption | decide) (Nat.le_of_ble_eq_true rfl) (c8_imageAt_out ho) ?_
    rintro _ _ ⟨rfl, rfl⟩
    refine zi_ast2N dX8_goBack_5 (Nat.le_of_ble_eq_true rfl) rfl ?_
    refine zi_ald2N dX8_goBack_6 ?_
    refine zi_nonnullN dX8_goBack_7 ?_
    refine zi_ldc dX8_goBack_10 kcX8_139 ?_
    refine zi_iret dX8_goBack_12 rfl ?_
    exact ⟨_, rfl, rfl, hV, zx_F.rf⟩
  · obtain ⟨h1, ⟨nx, h2⟩, h3, h4, h5, h6, h7, h8⟩ := id hV
    obtain ⟨k2, ok2⟩ := zx_im hk
    have k6 := ok2.1
    have hI := h3 k hk
    cases hi : A.2.2.1 k with
    | none =>
      have e : zx_goBack A (nI k) = (zx_NO, A) := by unfold zx_goBack; rw [zx_ix_in (by omega) hk]; simp only; rw [hi]
      rw [e]
      rw [hi] at hI
      have hI : σ.1 (154 + 7 * k) 2 = nI 0 := hI
      refine zw_enter2 (L := [some _, some _, none]) (by decide) (Nat.le_of_ble_eq_true rfl) rfl ?_
      refine zi_ald0 dX8_goBack_0 ?_
      refine zi_ild1 dX8_goBack_1 ?_
      refine zi_cV1r vmX8_imageAt lkX8_273 dX8_goBack_2 (by first | assumption | decide) (Nat.le_of_ble_eq_true rfl) (c8_imageAt_in hk) ?_
      rintro _ _ ⟨rfl, rfl⟩
      refine zi_ast2 dX8_goBack_5 (Nat.le_of_ble_eq_true rfl) rfl ?_
      refine zi_ald2 dX8_goBack_6 ?_
      refine zi_nonnull 13 dX8_goBack_7 (by decide) ?_
      refine zi_ald2 dX8_goBack_13 ?_
      refine zi_getI dX8_goBack_14 flX8_286 rfl (by first | assumption | decide) ?_
      rw [hI]
      refine zi_if_ne 23 dX8_goBack_17 (by decide) (fun c17 => ?_) (fun c17 => ?_)
      · exact absurd rfl c17
      · refine zi_ldc dX8_goBack_20 kcX8_210 ?_
        refine zi_iret dX8_goBack_22 rfl ?_
        exact ⟨_, rfl, rfl, hV, zx_F.rf⟩
    | some X =>
      have e : zx_goBack A (nI k) = (nI 1, X.1, [], A.2.2.1, A.2.2.2.1, A.2.2.2.2.1, A.2.2.2.2.2.1, X.2) := by unfold zx_goBack; rw [zx_ix_in (by omega) hk]; simp only; rw [hi]
      rw [e]
      rw [hi] at hI
      obtain ⟨i1, i2, i3, i4⟩ := hI
      refine zw_enter2 (L := [some _, some _, none]) (by decide) (Nat.le_of_ble_eq_true rfl) rfl ?_
      refine zi_ald0 dX8_goBack_0 ?_
      refine zi_ild1 dX8_goBack_1 ?_
      refine zi_cV1r vmX8_imageAt lkX8_273 dX8_goBack_2 (by first | assumption | decide) (Nat.le_of_ble_eq_true rfl) (c8_imageAt_in hk) ?_
      rintro _ _ ⟨rfl, rfl⟩
      refine zi_ast2 dX8_goBack_5 (Nat.le_of_ble_eq_true rfl) rfl ?_
      refine zi_ald2 dX8_goBack_6 ?_
      refine zi_nonnull 13 dX8_goBack_7 (by decide) ?_
      refine zi_ald2 dX8_goBack_13 ?_
      refine zi_getI dX8_goBack_14 flX8_286 rfl (by first | assumption | decide) ?_
      rw [i1]
      refine zi_if_ne 23 dX8_goBack_17 (by decide) (fun c17 => ?_) (fun c17 => ?_)
      · refine zi_ald0 dX8_goBack_23 ?_
        refine zi_getR dX8_goBack_24 flX8_12 rfl (by first | assumption | decide) ?_
        refine zi_ald2 dX8_goBack_27 ?_
        refine zi_getR dX8_goBack_28 flX8_277 rfl (by first | assumption | decide) ?_
        rw [show 154 + 7 * k + 1 = 155 + 7 * k by omega]
        refine zi_cV1v vmX6_copyFrom lkX8_280 dX8_goBack_31 (by first | assumption | decide) (Nat.le_of_ble_eq_true rfl) (c6_copyFrom zg_ok1 ok2 (by omega) i3) ?_
        rintro τ1 ⟨hX1, hF1⟩
        have hF3 : zw_F (fun o => o < 7) σ (zw_pI τ1 0 11 (τ1.1 (154 + 7 * k) 1)) := (hF1.mono (fun o q => by unfold zg_A at q; omega)).pI (by omega)
        have q3 : zq_V (zw_pI τ1 0 11 (τ1.1 (154 + 7 * k) 1)) nx A.2.1 := by
          obtain ⟨a1, a2, a3, a4, a5⟩ := h2
          refine ⟨a1, a2, by rw [hF3.2 7 (by omega)]; exact a3, by rw [hF3.2 7 (by omega)]; exact a4, fun j hj => (a5 j hj).cg (fun o p q => hF3.2 o (by unfold zq_sl at p q; omega))⟩
        refine zi_ald0 dX8_goBack_34 ?_
        refine zi_ald2 dX8_goBack_35 ?_
        refine zi_getI dX8_goBack_36 flX8_283 rfl (by first | assumption | decide) ?_
        refine zi_putI dX8_goBack_39 flX8_71 fp_8_11 rfl (by first | assumption | decide) ?_
        refine zi_ald0 dX8_goBack_42 ?_
        refine zi_getR dX8_goBack_43 flX8_19 rfl (by first | assumption | decide) ?_
        refine zi_cV0v vmX1_forget lkX8_290 dX8_goBack_46 (by first | assumption | decide) (Nat.le_of_ble_eq_true rfl) (c1_forget q3) ?_
        rintro τ4 ⟨hq4, hF4⟩
        have hF : ∀ o, 8 ≤ o → τ4.1 o = σ.1 o := fun o a => (hF4.2 o (by omega)).trans (hF3.2 o (by omega))
        have e0 : ∀ j, j ≠ 11 → τ4.1 0 j = σ.1 0 j := fun j hj => by rw [hF4.2 0 (by omega), zs_slot hj, hF1.2 0 (by unfold zg_A; omega)]
        refine zi_iconst (nI 1) dX8_goBack_49 (by decide) ?_
        refine zi_iret dX8_goBack_50 rfl ?_
        refine ⟨_, rfl, rfl, ⟨hX1.cg (fun o a b => by rw [hF4.2 o (by omega), zs_obj (by omega)]), ⟨_, hq4⟩, fun i hi => (h3 i hi).cg (fun o a b => hF o (by omega)), h4.cg (e0 _ (by decide)) (hF _ (by omega)), by rw [e0 _ (by decide)]; exact h5, ?_, i4, ?_⟩, (zx_F.of hF3 (fun o q => by omega)).tr (zx_F.of hF4 (fun o q => by omega))⟩
        · obtain ⟨a1, a2, a3⟩ := h6
          refine ⟨a1, by rw [hF 130 (by omega)]; exact a2, fun i hi => ?_⟩
          rw [hF 131 (by omega), hF 132 (by omega)]
          exact a3 i hi
        · rw [hF4.2 0 (by omega), zs_same, hF1.2 _ (by unfold zg_A; omega)]; exact i2
      · exact absurd c17 (by decide)
end Z30
