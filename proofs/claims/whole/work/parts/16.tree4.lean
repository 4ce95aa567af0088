section Z16
variable {l : Launch} {G : zw_G} {d : Nat} {σ : zw_S} {h r : Nat} {w : List Nat} {s : Int32} {fa go : Nat → Nat}
theorem c7_rebuild {k g : Nat} (ho : zt_ok h) (hV : zt_V σ h w s) (hw : zt_rd 1 w) (hp : zt_pat w k < 8) (hg : g < 8) : zw_Tv l G (d + 2) mX7_rebuild [.ref h, .int (nI k), .int (nI g)] σ (fun υ => zt_V υ h (zt_rb w k g) s ∧ zw_F (zt_A h) σ υ) := by
  have k0 := ho.1
  have h13 := hV.1
  have hn := zt_pat_lt hp
  obtain ⟨j0, hj0⟩ := zt_wd_drop hw (Nat.le_of_lt hn)
  obtain ⟨-, -, -, -, hlen, hx, hy⟩ := zt_core hp hj0
  have hzl := zt_rb_len (g := g) hlen
  have hle1 := zt_cn_le (w.drop (k / 2 + 1)) 1
  have hle2 := zt_cn_le (w.drop (k / 2 + 2)) 1
  rw [List.length_drop] at hle1 hle2
  have a0 : k % 2 = 0 → zt_a w k = zt_cn 1 (w.drop (k / 2 + 2)) ∧ zt_b k = k / 2 + 2 := fun e => by
    unfold zt_a zt_b; rw [if_pos e, if_pos e]; exact ⟨rfl, rfl⟩
  have a1 : ¬ k % 2 = 0 → zt_a w k = zt_cn 1 (w.drop (k / 2 + 1)) ∧ zt_b k = k / 2 + 1 := fun e => by
    unfold zt_a zt_b; rw [if_neg e, if_neg e]; exact ⟨rfl, rfl⟩
  refine zw_enter2 (L := [some _, some _, some _, none, none, none, none, none, none]) (by decide) (Nat.le_of_ble_eq_true rfl) rfl ?_
  refine zi_ild1 dX7_rebuild_0 ?_
  refine zi_iconst (nI 2) dX7_rebuild_1 (by decide) ?_
  refine zi_idiv dX7_rebuild_2 (by decide) ?_
  rw [pk_div (by omega) (by decide) (by decide)]
  refine zi_ist3 dX7_rebuild_3 (Nat.le_of_ble_eq_true rfl) rfl ?_
  refine zi_ild1 dX7_rebuild_4 ?_
  refine zi_iconst (nI 1) dX7_rebuild_5 (by decide) ?_
  refine zi_iand dX7_rebuild_6 ?_
  rw [pk_andN (by omega) (m := nI 1) 1 rfl]
  try change zw_W l G _ _ _ _ (Value.int (nI (k % 2)) :: _) _ _
  refine zi_ist4 dX7_rebuild_7 (Nat.le_of_ble_eq_true rfl) rfl ?_
  refine zi_ild2 dX7_rebuild_9 ?_
  refine zi_cS1i smX4_sideOf lkX7_71 dX7_rebuild_10 (Nat.le_of_ble_eq_true rfl) (c4_sideOf hg) ?_
  rintro _ _ ⟨rfl, rfl⟩
  refine zi_ist5 dX7_rebuild_13 (Nat.le_of_ble_eq_true rfl) rfl ?_
  refine zi_ild4 dX7_rebuild_15 ?_
  refine zi_if_ne 26 dX7_rebuild_17 (by decide) (fun c17 => ?_) (fun c17 => ?_)
  · rw [zn_0, zn_eq (by omega) (by omega)] at c17
    obtain ⟨ea, eb⟩ := a1 c17
    refine zi_ald0 dX7_rebuild_26 ?_
    refine zi_ild3 dX7_rebuild_27 ?_
    refine zi_iconst (nI 1) dX7_rebuild_28 (by decide) ?_
    refine zi_iadd dX7_rebuild_29 ?_
    rw [nI_add]
    refine zi_cV1i vmX7_endOf lkX7_51 dX7_rebuild_30 (by first | assumption | decide) (Nat.le_of_ble_eq_true rfl) (c7_endOf ho hV (show k / 2 + 1 ≤ w.length by omega)) ?_
    rintro _ _ ⟨rfl, rfl⟩
    rw [← ea]
    refine zi_ist6 dX7_rebuild_33 (Nat.le_of_ble_eq_true rfl) rfl ?_
    refine zi_ild6 dX7_rebuild_35 ?_
    refine zi_ist7 dX7_rebuild_37 (Nat.le_of_ble_eq_true rfl) rfl ?_
    refine zi_ild4 dX7_rebuild_39 ?_
    refine zi_if_ne 64 dX7_rebuild_41 (by decide) (fun c41 => ?_) (fun c41 => ?_)
    · refine zi_ild4 dX7_rebuild_64 ?_
      refine zi_iconst (nI 1) dX7_rebuild_66 (by decide) ?_
      refine zi_icmp_ne 80 dX7_rebuild_67 (by decide) (fun c67 => ?_) (fun c67 => ?_)
      · simp only [zn_0, zn_eq (show k % 2 < 2147483648 by omega) (show 0 < 2147483648 by omega), zn_eq (show k % 2 < 2147483648 by omega) (show 1 < 2147483648 by omega), zn_eq (show g % 2 < 2147483648 by omega) (show 0 < 2147483648 by omega), zn_eq (show g % 2 < 2147483648 by omega) (show 1 < 2147483648 by omega)] at *
        first
        | (exfalso; omega)
        | (refine l7_rb80 (w := w) ho hV (by omega) (by omega) (by omega) hg hzl (fun i hi => ?_)
           rw [zt_rb_at hlen i]
           by_cases g2 : g % 2 = 0
           · rw [if_pos g2]
             (repeat' split) <;> first | omega | rfl | (congr 1; omega)
           · rw [if_neg g2]
             (repeat' split) <;> first | omega | rfl | (congr 1; omega))
      · refine zi_ild5 dX7_rebuild_70 ?_
        refine zi_if_ne 80 dX7_rebuild_72 (by decide) (fun c72 => ?_) (fun c72 => ?_)
        · simp only [zn_0, zn_eq (show k % 2 < 2147483648 by omega) (show 0 < 2147483648 by omega), zn_eq (show k % 2 < 2147483648 by omega) (show 1 < 2147483648 by omega), zn_eq (show g % 2 < 2147483648 by omega) (show 0 < 2147483648 by omega), zn_eq (show g % 2 < 2147483648 by omega) (show 1 < 2147483648 by omega)] at *
          first
          | (exfalso; omega)
          | (refine l7_rb80 (w := w) ho hV (by omega) (by omega) (by omega) hg hzl (fun i hi => ?_)
             rw [zt_rb_at hlen i]
             by_cases g2 : g % 2 = 0
             · rw [if_pos g2]
               (repeat' split) <;> first | omega | rfl | (congr 1; omega)
             · rw [if_neg g2]
               (repeat' split) <;> first | omega | rfl | (congr 1; omega))
        · refine zi_ild3 dX7_rebuild_75 ?_
          refine zi_iconst (nI 1) dX7_rebuild_76 (by decide) ?_
          refine zi_iadd dX7_rebuild_77 ?_
          rw [nI_add]
          refine zi_ist7 dX7_rebuild_78 (Nat.le_of_ble_eq_true rfl) rfl ?_
          simp only [zn_0, zn_eq (show k % 2 < 2147483648 by omega) (show 0 < 2147483648 by omega), zn_eq (show k % 2 < 2147483648 by omega) (show 1 < 2147483648 by omega), zn_eq (show g % 2 < 2147483648 by omega) (show 0 < 2147483648 by omega), zn_eq (show g % 2 < 2147483648 by omega) (show 1 < 2147483648 by omega)] at *
          first
          | (exfalso; omega)
          | (refine l7_rb80 (w := w) ho hV (by omega) (by omega) (by omega) hg hzl (fun i hi => ?_)
             rw [zt_rb_at hlen i]
             by_cases g2 : g % 2 = 0
             · rw [if_pos g2]
               (repeat' split) <;> first | omega | rfl | (congr 1; omega)
             · rw [if_neg g2]
               (repeat' split) <;> first | omega | rfl | (congr 1; omega))
    · rw [zn_0, zn_eq (by omega) (by omega)] at c41
      refine zi_ild5 dX7_rebuild_44 ?_
      refine zi_iconst (nI 1) dX7_rebuild_46 (by decide) ?_
      refine zi_icmp_ne 64 dX7_rebuild_47 (by decide) (fun c47 => ?_) (fun c47 => ?_)
      · refine zi_ild4 dX7_rebuild_64 ?_
        refine zi_iconst (nI 1) dX7_rebuild_66 (by decide) ?_
        refine zi_icmp_ne 80 dX7_rebuild_67 (by decide) (fun c67 => ?_) (fun c67 => ?_)
        · simp only [zn_0, zn_eq (show k % 2 < 2147483648 by omega) (show 0 < 2147483648 by omega), zn_eq (show k % 2 < 2147483648 by omega) (show 1 < 2147483648 by omega), zn_eq (show g % 2 < 2147483648 by omega) (show 0 < 2147483648 by omega), zn_eq (show g % 2 < 2147483648 by omega) (show 1 < 2147483648 by omega)] at *
          first
          | (exfalso; omega)
          | (refine l7_rb80 (w := w) ho hV (by omega) (by omega) (by omega) hg hzl (fun i hi => ?_)
             rw [zt_rb_at hlen i]
             by_cases g2 : g % 2 = 0
             · rw [if_pos g2]
               (repeat' split) <;> first | omega | rfl | (congr 1; omega)
             · rw [if_neg g2]
               (repeat' split) <;> first | omega | rfl | (congr 1; omega))
        · refine zi_ild5 dX7_rebuild_70 ?_
          refine zi_if_ne 80 dX7_rebuild_72 (by decide) (fun c72 => ?_) (fun c72 => ?_)
          · simp only [zn_0, zn_eq (show k % 2 < 2147483648 by omega) (show 0 < 2147483648 by omega), zn_eq (show k % 2 < 2147483648 by omega) (show 1 < 2147483648 by omega), zn_eq (show g % 2 < 2147483648 by omega) (show 0 < 2147483648 by omega), zn_eq (show g % 2 < 2147483648 by omega) (show 1 < 2147483648 by omega)] at *
            first
            | (exfalso; omega)
            | (refine l7_rb80 (w := w) ho hV (by omega) (by omega) (by omega) hg hzl (fun i hi => ?_)
               rw [zt_rb_at hlen i]
               by_cases g2 : g % 2 = 0
               · rw [if_pos g2]
                 (repeat' split) <;> first | omega | rfl | (congr 1; omega)
               · rw [if_neg g2]
                 (repeat' split) <;> first | omega | rfl | (congr 1; omega))
          · refine zi_ild3 dX7_rebuild_75 ?_
            refine zi_iconst (nI 1) dX7_rebuild_76 (by decide) ?_
            refine zi_iadd dX7_rebuild_77 ?_
            rw [nI_add]
            refine zi_ist7 dX7_rebuild_78 (Nat.le_of_ble_eq_true rfl) rfl ?_
            simp only [zn_0, zn_eq (show k % 2 < 2147483648 by omega) (show 0 < 2147483648 by omega), zn_eq (show k % 2 < 2147483648 by omega) (show 1 < 2147483648 by omega), zn_eq (show g % 2 < 2147483648 by omega) (show 0 < 2147483648 by omega), zn_eq (show g % 2 < 2147483648 by omega) (show 1 < 2147483648 by omega)] at *
            first
            | (exfalso; omega)
            | (refine l7_rb80 (w := w) ho hV (by omega) (by omega) (by omega) hg hzl (fun i hi => ?_)
               rw [zt_rb_at hlen i]
               by_cases g2 : g % 2 = 0
               · rw [if_pos g2]
                 (repeat' split) <;> first | omega | rfl | (congr 1; omega)
               · rw [if_neg g2]
                 (repeat' split) <;> first | omega | rfl | (congr 1; omega))
      · rw [zn_eq (by omega) (by omega)] at c47
        refine zi_ald0 dX7_rebuild_50 ?_
        refine zi_ild3 dX7_rebuild_51 ?_
        refine zi_iconst (nI 2) dX7_rebuild_52 (by decide) ?_
        refine zi_iadd dX7_rebuild_53 ?_
        rw [nI_add]
        refine zi_cV1i vmX7_endOf lkX7_51 dX7_rebuild_54 (by first | assumption | decide) (Nat.le_of_ble_eq_true rfl) (c7_endOf ho hV (show k / 2 + 2 ≤ w.length by omega)) ?_
        rintro _ _ ⟨rfl, rfl⟩
        try rw [← ea]
        refine zi_iconst (nI 1) dX7_rebuild_57 (by decide) ?_
        refine zi_isub dX7_rebuild_58 ?_
        rw [pk_sub (by omega)]
        refine zi_ist7 dX7_rebuild_59 (Nat.le_of_ble_eq_true rfl) rfl ?_
        refine zi_goto 80 dX7_rebuild_61 (by decide) ?_
        simp only [zn_0, zn_eq (show k % 2 < 2147483648 by omega) (show 0 < 2147483648 by omega), zn_eq (show k % 2 < 2147483648 by omega) (show 1 < 2147483648 by omega), zn_eq (show g % 2 < 2147483648 by omega) (show 0 < 2147483648 by omega), zn_eq (show g % 2 < 2147483648 by omega) (show 1 < 2147483648 by omega)] at *
        first
        | (exfalso; omega)
        | (refine l7_rb80 (w := w) ho hV (by omega) (by omega) (by omega) hg hzl (fun i hi => ?_)
           rw [zt_rb_at hlen i]
           by_cases g2 : g % 2 = 0
           · rw [if_pos g2]
             (repeat' split) <;> first | omega | rfl | (congr 1; omega)
           · rw [if_neg g2]
             (repeat' split) <;> first | omega | rfl | (congr 1; omega))
  · rw [zn_0, zn_eq (by omega) (by omega)] at c17
    obtain ⟨ea, eb⟩ := a0 c17
    refine zi_ild3 dX7_rebuild_20 ?_
    refine zi_iconst (nI 1) dX7_rebuild_21 (by decide) ?_
    refine zi_iadd dX7_rebuild_22 ?_
    rw [nI_add]
    refine zi_goto 33 dX7_rebuild_23 (by decide) ?_
    refine zi_ist6 dX7_rebuild_33 (Nat.le_of_ble_eq_true rfl) rfl ?_
    refine zi_ild6 dX7_rebuild_35 ?_
    refine zi_ist7 dX7_rebuild_37 (Nat.le_of_ble_eq_true rfl) rfl ?_
    refine zi_ild4 dX7_rebuild_39 ?_
    refine zi_if_ne 64 dX7_rebuild_41 (by decide) (fun c41 => ?_) (fun c41 => ?_)
    · refine zi_ild4 dX7_rebuild_64 ?_
      refine zi_iconst (nI 1) dX7_rebuild_66 (by decide) ?_
      refine zi_icmp_ne 80 dX7_rebuild_67 (by decide) (fun c67 => ?_) (fun c67 => ?_)
      · simp only [zn_0, zn_eq (show k % 2 < 2147483648 by omega) (show 0 < 2147483648 by omega), zn_eq (show k % 2 < 2147483648 by omega) (show 1 < 2147483648 by omega), zn_eq (show g % 2 < 2147483648 by omega) (show 0 < 2147483648 by omega), zn_eq (show g % 2 < 2147483648 by omega) (show 1 < 2147483648 by omega)] at *
        first
        | (exfalso; omega)
        | (refine l7_rb80 (w := w) ho hV (by omega) (by omega) (by omega) hg hzl (fun i hi => ?_)
           rw [zt_rb_at hlen i]
           by_cases g2 : g % 2 = 0
           · rw [if_pos g2]
             (repeat' split) <;> first | omega | rfl | (congr 1; omega)
           · rw [if_neg g2]
             (repeat' split) <;> first | omega | rfl | (congr 1; omega))
      · refine zi_ild5 dX7_rebuild_70 ?_
        refine zi_if_ne 80 dX7_rebuild_72 (by decide) (fun c72 => ?_) (fun c72 => ?_)
        · simp only [zn_0, zn_eq (show k % 2 < 2147483648 by omega) (show 0 < 2147483648 by omega), zn_eq (show k % 2 < 2147483648 by omega) (show 1 < 2147483648 by omega), zn_eq (show g % 2 < 2147483648 by omega) (show 0 < 2147483648 by omega), zn_eq (show g % 2 < 2147483648 by omega) (show 1 < 2147483648 by omega)] at *
          first
          | (exfalso; omega)
          | (refine l7_rb80 (w := w) ho hV (by omega) (by omega) (by omega) hg hzl (fun i hi => ?_)
             rw [zt_rb_at hlen i]
             by_cases g2 : g % 2 = 0
             · rw [if_pos g2]
               (repeat' split) <;> first | omega | rfl | (congr 1; omega)
             · rw [if_neg g2]
               (repeat' split) <;> first | omega | rfl | (congr 1; omega))
        · refine zi_ild3 dX7_rebuild_75 ?_
          refine zi_iconst (nI 1) dX7_rebuild_76 (by decide) ?_
          refine zi_iadd dX7_rebuild_77 ?_
          rw [nI_add]
          refine zi_ist7 dX7_rebuild_78 (Nat.le_of_ble_eq_true rfl) rfl ?_
          simp only [zn_0, zn_eq (show k % 2 < 2147483648 by omega) (show 0 < 2147483648 by omega), zn_eq (show k % 2 < 2147483648 by omega) (show 1 < 2147483648 by omega), zn_eq (show g % 2 < 2147483648 by omega) (show 0 < 2147483648 by omega), zn_eq (show g % 2 < 2147483648 by omega) (show 1 < 2147483648 by omega)] at *
          first
          | (exfalso; omega)
          | (refine l7_rb80 (w := w) ho hV (by omega) (by omega) (by omega) hg hzl (fun i hi => ?_)
             rw [zt_rb_at hlen i]
             by_cases g2 : g % 2 = 0
             · rw [if_pos g2]
               (repeat' split) <;> first | omega | rfl | (congr 1; omega)
             · rw [if_neg g2]
               (repeat' split) <;> first | omega | rfl | (congr 1; omega))
    · rw [zn_0, zn_eq (by omega) (by omega)] at c41
      refine zi_ild5 dX7_rebuild_44 ?_
      refine zi_iconst (nI 1) dX7_rebuild_46 (by decide) ?_
      refine zi_icmp_ne 64 dX7_rebuild_47 (by decide) (fun c47 => ?_) (fun c47 => ?_)
      · refine zi_ild4 dX7_rebuild_64 ?_
        refine zi_iconst (nI 1) dX7_rebuild_66 (by decide) ?_
        refine zi_icmp_ne 80 dX7_rebuild_67 (by decide) (fun c67 => ?_) (fun c67 => ?_)
        · simp only [zn_0, zn_eq (show k % 2 < 2147483648 by omega) (show 0 < 2147483648 by omega), zn_eq (show k % 2 < 2147483648 by omega) (show 1 < 2147483648 by omega), zn_eq (show g % 2 < 2147483648 by omega) (show 0 < 2147483648 by omega), zn_eq (show g % 2 < 2147483648 by omega) (show 1 < 2147483648 by omega)] at *
          first
          | (exfalso; omega)
          | (refine l7_rb80 (w := w) ho hV (by omega) (by omega) (by omega) hg hzl (fun i hi => ?_)
             rw [zt_rb_at hlen i]
             by_cases g2 : g % 2 = 0
             · rw [if_pos g2]
               (repeat' split) <;> first | omega | rfl | (congr 1; omega)
             · rw [if_neg g2]
               (repeat' split) <;> first | omega | rfl | (congr 1; omega))
        · refine zi_ild5 dX7_rebuild_70 ?_
          refine zi_if_ne 80 dX7_rebuild_72 (by decide) (fun c72 => ?_) (fun c72 => ?_)
          · simp only [zn_0, zn_eq (show k % 2 < 2147483648 by omega) (show 0 < 2147483648 by omega), zn_eq (show k % 2 < 2147483648 by omega) (show 1 < 2147483648 by omega), zn_eq (show g % 2 < 2147483648 by omega) (show 0 < 2147483648 by omega), zn_eq (show g % 2 < 2147483648 by omega) (show 1 < 2147483648 by omega)] at *
            first
            | (exfalso; omega)
            | (refine l7_rb80 (w := w) ho hV (by omega) (by omega) (by omega) hg hzl (fun i hi => ?_)
               rw [zt_rb_at hlen i]
               by_cases g2 : g % 2 = 0
               · rw [if_pos g2]
                 (repeat' split) <;> first | omega | rfl | (congr 1; omega)
               · rw [if_neg g2]
                 (repeat' split) <;> first | omega | rfl | (congr 1; omega))
          · refine zi_ild3 dX7_rebuild_75 ?_
            refine zi_iconst (nI 1) dX7_rebuild_76 (by decide) ?_
            refine zi_iadd dX7_rebuild_77 ?_
            rw [nI_add]
            refine zi_ist7 dX7_rebuild_78 (Nat.le_of_ble_eq_true rfl) rfl ?_
            simp only [zn_0, zn_eq (show k % 2 < 2147483648 by omega) (show 0 < 2147483648 by omega), zn_eq (show k % 2 < 2147483648 by omega) (show 1 < 2147483648 by omega), zn_eq (show g % 2 < 2147483648 by omega) (show 0 < 2147483648 by omega), zn_eq (show g % 2 < 2147483648 by omega) (show 1 < 2147483648 by omega)] at *
            first
            | (exfalso; omega)
            | (refine l7_rb80 (w := w) ho hV (by omega) (by omega) (by omega) hg hzl (fun i hi => ?_)
               rw [zt_rb_at hlen i]
               by_cases g2 : g % 2 = 0
               · rw [if_pos g2]
                 (repeat' split) <;> first | omega | rfl | (congr 1; omega)
               · rw [if_neg g2]
                 (repeat' split) <;> first | omega | rfl | (congr 1; omega))
      · rw [zn_eq (by omega) (by omega)] at c47
        refine zi_ald0 dX7_rebuild_50 ?_
        refine zi_ild3 dX7_rebuild_51 ?_
        refine zi_iconst (nI 2) dX7_rebuild_52 (by decide) ?_
        refine zi_iadd dX7_rebuild_53 ?_
        rw [nI_add]
        refine zi_cV1i vmX7_endOf lkX7_51 dX7_rebuild_54 (by first | assumption | decide) (Nat.le_of_ble_eq_true rfl) (c7_endOf ho hV (show k / 2 + 2 ≤ w.length by omega)) ?_
        rintro _ _ ⟨rfl, rfl⟩
        try rw [← ea]
        refine zi_iconst (nI 1) dX7_rebuild_57 (by decide) ?_
        refine zi_isub dX7_rebuild_58 ?_
        rw [pk_sub (by omega)]
        refine zi_ist7 dX7_rebuild_59 (Nat.le_of_ble_eq_true rfl) rfl ?_
        refine zi_goto 80 dX7_rebuild_61 (by decide) ?_
        simp only [zn_0, zn_eq (show k % 2 < 2147483648 by omega) (show 0 < 2147483648 by omega), zn_eq (show k % 2 < 2147483648 by omega) (show 1 < 2147483648 by omega), zn_eq (show g % 2 < 2147483648 by omega) (show 0 < 2147483648 by omega), zn_eq (show g % 2 < 2147483648 by omega) (show 1 < 2147483648 by omega)] at *
        first
        | (exfalso; omega)
        | (refine l7_rb80 (w := w) ho hV (by omega) (by omega) (by omega) hg hzl (fun i hi => ?_)
           rw [zt_rb_at hlen i]
           by_cases g2 : g % 2 = 0
           · rw [if_pos g2]
             (repeat' split) <;> first | omega | rfl | (congr 1; omega)
           · rw [if_neg g2]
             (repeat' split) <;> first | omega | rfl | (congr 1; omega))
theorem c7_stepAt {k : Nat} (ho : zt_ok h) (hr : zr_ok r) (ha : r + 3 ≤ h ∨ h + 3 ≤ r) (hV : zt_V σ h w s) (hR : zr_V σ r fa go) (hw : zt_rd 1 w) (hp : zt_bi fa w k = true) : zw_Tv l G (d + 3) mX7_stepAt [.ref h, .int (nI k), .ref r] σ (fun υ => zt_V υ h (zt_st fa go w s k).1 (zt_st fa go w s k).2 ∧ zw_F (zt_A h) σ υ) := by
  have k0 := ho.1
  have j0 := hr.1
  have h13 := hV.1
  have hp8 : zt_pat w k < 8 ∧ fa (zt_pat w k) ≠ 0 := by
    unfold zt_bi at hp
    simpa using hp
  have hn := zt_pat_lt hp8.1
  obtain ⟨r1, r2, r3, r4, r5⟩ := hR _ hp8.1
  refine zw_enter2 (L := [some _, some _, some _, none, none]) (by decide) (Nat.le_of_ble_eq_true rfl) rfl ?_
  refine zi_ald0 dX7_stepAt_0 ?_
  refine zi_ild1 dX7_stepAt_1 ?_
  refine zi_cV1i vmX7_patternAt lkX7_54 dX7_stepAt_2 (by first | assumption | decide) (Nat.le_of_ble_eq_true rfl) (c7_patternAt ho hV (show k < 1000 by omega)) ?_
  rintro _ _ ⟨rfl, rfl⟩
  rw [zp_gI_lt hp8.1]
  refine zi_ist3 dX7_stepAt_5 (Nat.le_of_ble_eq_true rfl) rfl ?_
  refine zi_ald2 dX7_stepAt_6 ?_
  refine zi_ild3 dX7_stepAt_7 ?_
  refine zi_cV1i vmX4_fateOf lkX7_57 dX7_stepAt_8 (by first | assumption | decide) (Nat.le_of_ble_eq_true rfl) (c4_fateOf hr hR hp8.1) ?_
  rintro _ _ ⟨rfl, rfl⟩
  refine zi_ist4 dX7_stepAt_11 (Nat.le_of_ble_eq_true rfl) rfl ?_
  refine zi_ild4 dX7_stepAt_13 ?_
  refine zi_iconst (nI 1) dX7_stepAt_15 (by decide) ?_
  refine zi_icmp_ne 27 dX7_stepAt_16 (by decide) (fun c16 => ?_) (fun c16 => ?_)
  · rw [zn_eq (by omega) (by omega)] at c16
    have hg : go (zt_pat w k) < 8 := r3.mp (by omega)
    refine zi_ild4 dX7_stepAt_27 ?_
    refine zi_if_eq 64 dX7_stepAt_29 (by decide) (fun c29 => ?_) (fun c29 => ?_)
    · rw [zn_0, zn_eq (by omega) (by omega)] at c29; exact absurd c29 hp8.2
    · refine zi_ald0 dX7_stepAt_32 ?_
      refine zi_ild1 dX7_stepAt_33 ?_
      refine zi_ald2 dX7_stepAt_34 ?_
      refine zi_ild3 dX7_stepAt_35 ?_
      refine zi_cV1i vmX4_goalOf lkX7_65 dX7_stepAt_36 (by first | assumption | decide) (Nat.le_of_ble_eq_true rfl) (c4_goalOf hr hR hp8.1) ?_
      rintro _ _ ⟨rfl, rfl⟩
      rw [zp_gI_lt hg]
      refine zi_cV2v vmX7_rebuild lkX7_68 dX7_stepAt_39 (by first | assumption | decide) (Nat.le_of_ble_eq_true rfl) (c7_rebuild ho hV hw hp8.1 hg) ?_
      rintro τ1 ⟨hT1, hF1⟩
      refine zi_ald0 dX7_stepAt_42 ?_
      refine zi_ild4 dX7_stepAt_43 ?_
      refine zi_iconst (nI 3) dX7_stepAt_45 (by decide) ?_
      refine zi_icmp_ne 57 dX7_stepAt_46 (by decide) (fun c46 => ?_) (fun c46 => ?_)
      · rw [zn_eq (by omega) (by omega)] at c46
        refine zi_ald0 dX7_stepAt_57 ?_
        refine zi_getI dX7_stepAt_58 flX7_22 rfl (by first | assumption | decide) ?_
        refine zi_putI dX7_stepAt_61 flX7_22 fp_7_3 rfl (by first | assumption | decide) ?_
        refine zi_ret dX7_stepAt_64 rfl ?_
        unfold zt_st
        first
        | (rw [if_pos c16]; exact ⟨rfl, hT1, hF1⟩)
        | (rw [if_neg c16]
           obtain ⟨v1, v2, v3, v4, v5⟩ := hT1
           refine ⟨rfl, ⟨v1, v2, ?_, ?_, fun i hi => ?_⟩, hF1.pI ⟨by omega, by omega⟩⟩
           · rw [zs_slot (by decide)]; exact v3
           · rw [zs_same, v4]
             first | (show _ = if _ then _ else _; rw [if_pos c46]; done) | (show _ = if _ then _ else _; rw [if_neg c46]; done)
           · rw [zs_obj (by omega)]; exact v5 i hi)
      · rw [zn_eq (by omega) (by omega)] at c46
        refine zi_ald0 dX7_stepAt_49 ?_
        refine zi_getI dX7_stepAt_50 flX7_22 rfl (by first | assumption | decide) ?_
        refine zi_ineg dX7_stepAt_53 ?_
        refine zi_goto 61 dX7_stepAt_54 (by decide) ?_
        refine zi_putI dX7_stepAt_61 flX7_22 fp_7_3 rfl (by first | assumption | decide) ?_
        refine zi_ret dX7_stepAt_64 rfl ?_
        unfold zt_st
        first
        | (rw [if_pos c16]; exact ⟨rfl, hT1, hF1⟩)
        | (rw [if_neg c16]
           obtain ⟨v1, v2, v3, v4, v5⟩ := hT1
           refine ⟨rfl, ⟨v1, v2, ?_, ?_, fun i hi => ?_⟩, hF1.pI ⟨by omega, by omega⟩⟩
           · rw [zs_slot (by decide)]; exact v3
           · rw [zs_same, v4]
             first | (show _ = if _ then _ else _; rw [if_pos c46]; done) | (show _ = if _ then _ else _; rw [if_neg c46]; done)
           · rw [zs_obj (by omega)]; exact v5 i hi)
  · rw [zn_eq (by omega) (by omega)] at c16
    refine zi_ald0 dX7_stepAt_19 ?_
    refine zi_iconst (nI 0) dX7_stepAt_20 (by decide) ?_
    refine zi_cV1v vmX7_becomeLeaf lkX7_62 dX7_stepAt_21 (by first | assumption | decide) (Nat.le_of_ble_eq_true rfl) (c7_becomeLeaf (s := nI 0) ho) ?_
    rintro τ1 ⟨hT1, hF1⟩
    refine zi_goto 64 dX7_stepAt_24 (by decide) ?_
    refine zi_ret dX7_stepAt_64 rfl ?_
    unfold zt_st
    first
    | (rw [if_pos c16]; exact ⟨rfl, hT1, hF1⟩)
    | (rw [if_neg c16]
       obtain ⟨v1, v2, v3, v4, v5⟩ := hT1
       refine ⟨rfl, ⟨v1, v2, ?_, ?_, fun i hi => ?_⟩, hF1.pI ⟨by omega, by omega⟩⟩
       · rw [zs_slot (by decide)]; exact v3
       · rw [zs_same, v4]
         first | (show _ = if _ then _ else _; rw [if_pos c46]; done) | (show _ = if _ then _ else _; rw [if_neg c46]; done)
       · rw [zs_obj (by omega)]; exact v5 i hi)
theorem zt_sp_head {fa : Nat → Nat} {w : List Nat} {k : Nat} (h : (zt_sp fa w)[0]? = some k) : zt_bi fa w k = true := by
  have := List.mem_of_getElem? h
  exact (List.mem_filter.mp this).2
theorem zt_bi_lt {fa : Nat → Nat} {w : List Nat} {k : Nat} (h : zt_bi fa w k = true) : zt_pat w k < 8 ∧ fa (zt_pat w k) ≠ 0 := by
  unfold zt_bi at h
  simpa using h
theorem zt_sp_len {fa : Nat → Nat} {w : List Nat} : (zt_sp fa w).length ≤ 2 * w.length := zl_fle
theorem zp_oI_some (k : Nat) : zp_oI (some k) = nI k := rfl
theorem zp_oI_m1 {o : Option Nat} (h : ∀ k, o = some k → k < 2147483648) : (zp_oI o = -1) = (o = none) := by
  cases o with
  | none => exact propext ⟨fun _ => rfl, fun _ => rfl⟩
  | some k =>
    show (nI k = -1) = _
    rw [zn_m1 k (h k rfl)]
    simp
theorem zt_sp_lt {fa : Nat → Nat} {w : List Nat} {i k : Nat} (h : (zt_sp fa w)[i]? = some k) : k < 2 * w.length := by
  have := (List.mem_filter.mp (List.mem_of_getElem? h)).1
  exact List.mem_range.mp this
theorem zt_pl_nil {fa go : Nat → Nat} {f n : Nat} {w : List Nat} {s : Int32} (h : (zt_sp fa w)[0]? = none) : zt_pl fa go f n w s = some (n, w, s) := by
  have e : zt_sp fa w = [] := by
    cases hh : zt_sp fa w with
    | nil => rfl
    | cons k t => rw [hh] at h; simp at h
  cases f <;> simp [zt_pl, e]
theorem zt_pl_0 {fa go : Nat → Nat} {n k : Nat} {w : List Nat} {s : Int32} (h : (zt_sp fa w)[0]? = some k) : zt_pl fa go 0 n w s = none := by
  cases hh : zt_sp fa w with
  | nil => rw [hh] at h; simp at h
  | cons k t => simp [zt_pl, hh]
theorem zt_pl_s {fa go : Nat → Nat} {f n k : Nat} {w : List Nat} {s : Int32} (h : (zt_sp fa w)[0]? = some k) : zt_pl fa go (f + 1) n w s = zt_pl fa go f (n + 1) (zt_st fa go w s k).1 (zt_st fa go w s k).2 := by
  cases hh : zt_sp fa w with
  | nil => rw [hh] at h; simp at h
  | cons k' t =>
    rw [hh] at h
    simp at h
    subst h
    simp [zt_pl, hh]
theorem l7_mp61 {x3 : Option Value} {τ : zw_S} (hF : zw_F (zt_A h) σ τ) : zw_W l G (d + 4) mX7_makePlain 2 [some (.ref h), some (.ref r), some (.int (nI 61)), x3] [] τ (fun x υ => ∃ y, x = some (.int y) ∧ y = -1 ∧ zw_F (zt_A h) σ υ) := by
  refine zi_ild2 dX7_makePlain_2 ?_
  refine zi_bipush (nI 60) dX7_makePlain_3 (by decide) ?_
  refine zi_icmp_gt 34 dX7_makePlain_5 (by decide) (fun c5 => ?_) (fun c5 => ?_)
  · refine zi_iconst (-1) dX7_makePlain_34 (by decide) ?_
    refine zi_iret dX7_makePlain_35 rfl ?_
    exact ⟨_, rfl, rfl, hF⟩
  · exact absurd (by decide) c5
/-- made plain: the answer, and the tree where there is an end -/
theorem l7_makePlain (ho : zt_ok h) (hr : zr_ok r) (ha : r + 3 ≤ h ∨ h + 3 ≤ r) (hR : zr_V σ r fa go) : ∀ f n τ w s x3, n + f = 60 → zt_V τ h w s → zt_wd w → zw_F (zt_A h) σ τ → zw_W l G (d + 4) mX7_makePlain 2 [some (.ref h), some (.ref r), some (.int (nI n)), x3] [] τ (fun x υ => ∃ y, x = some (.int y) ∧ zw_F (zt_A h) σ υ ∧ ((y = -1 ∧ zt_pl fa go f n w s = none) ∨ ∃ n' w' s', zt_pl fa go f n w s = some (n', w', s') ∧ n' ≤ 60 ∧ y = nI n' ∧ zt_V υ h w' s' ∧ zt_wd w')) := by
  have k0 := ho.1
  intro f
  induction f with
  | zero =>
    intro n τ w s x3 hn hV hw hF
    have hR2 : zr_V τ r fa go := hR.cg (hF.2 _ (by unfold zt_A; omega)) (hF.2 _ (by unfold zt_A; omega))
    have h13 := hV.1
    refine zi_ild2 dX7_makePlain_2 ?_
    refine zi_bipush (nI 60) dX7_makePlain_3 (by decide) ?_
    refine zi_icmp_gt 34 dX7_makePlain_5 (by decide) (fun c5 => ?_) (fun c5 => ?_)
    · rw [zn_lt (by omega) (by omega)] at c5; omega
    · refine zi_ald0 dX7_makePlain_8 ?_
      refine zi_iconst (nI 0) dX7_makePlain_9 (by decide) ?_
      refine zi_ald1 dX7_makePlain_10 ?_
      refine zi_cV2i vmX7_spotOf lkX7_74 dX7_makePlain_11 (by first | assumption | decide) (Nat.le_of_ble_eq_true rfl) (c7_spotOf ho hr hV hR2) ?_
      rintro _ _ ⟨rfl, rfl⟩
      rw [zp_at_n (by decide)]
      refine zi_ist3 dX7_makePlain_14 (Nat.le_of_ble_eq_true rfl) rfl ?_
      refine zi_ild3 dX7_makePlain_15 ?_
      refine zi_iconst (-1) dX7_makePlain_16 (by decide) ?_
      refine zi_icmp_ne 22 dX7_makePlain_17 (by decide) (fun c17 => ?_) (fun c17 => ?_)
      · rw [zp_oI_m1 (fun k hk => by have := zt_sp_lt hk; omega)] at c17
        obtain ⟨k, hk⟩ : ∃ k, (zt_sp fa w)[0]? = some k := Option.ne_none_iff_exists'.mp c17
        rw [hk, zp_oI_some]
        refine zi_ald0 dX7_makePlain_22 ?_
        refine zi_ild3 dX7_makePlain_23 ?_
        refine zi_ald1 dX7_makePlain_24 ?_
        refine zi_cV2v vmX7_stepAt lkX7_78 dX7_makePlain_25 (by first | assumption | decide) (Nat.le_of_ble_eq_true rfl) (c7_stepAt ho hr ha hV hR2 hw.1 (zt_sp_head hk)) ?_
        rintro τ1 ⟨hT1, hF1⟩
        refine zi_inc2 (nI 1) dX7_makePlain_28 (by decide) (Nat.le_of_ble_eq_true rfl) rfl ?_
        refine zi_goto 2 dX7_makePlain_31 (by decide) ?_
        rw [nI_add, show n + 1 = 61 by omega]
        refine zw_W.mono (l7_mp61 (hF.tr hF1 (fun _ q => q) (fun _ q => q))) (fun x υ ⟨y, e1, e2, e3⟩ => ⟨y, e1, e3, Or.inl ⟨e2, zt_pl_0 hk⟩⟩)
      · rw [zp_oI_m1 (fun k hk => by have := zt_sp_lt hk; omega)] at c17
        refine zi_ild2 dX7_makePlain_20 ?_
        refine zi_iret dX7_makePlain_21 rfl ?_
        exact ⟨_, rfl, hF, Or.inr ⟨n, w, s, zt_pl_nil c17, by omega, rfl, hV, hw⟩⟩
  | succ f ih =>
    intro n τ w s x3 hn hV hw hF
    have hR2 : zr_V τ r fa go := hR.cg (hF.2 _ (by unfold zt_A; omega)) (hF.2 _ (by unfold zt_A; omega))
    have h13 := hV.1
    refine zi_ild2 dX7_makePlain_2 ?_
    refine zi_bipush (nI 60) dX7_makePlain_3 (by decide) ?_
    refine zi_icmp_gt 34 dX7_makePlain_5 (by decide) (fun c5 => ?_) (fun c5 => ?_)
    · rw [zn_lt (by omega) (by omega)] at c5; omega
    · refine zi_ald0 dX7_makePlain_8 ?_
      refine zi_iconst (nI 0) dX7_makePlain_9 (by decide) ?_
      refine zi_ald1 dX7_makePlain_10 ?_
      refine zi_cV2i vmX7_spotOf lkX7_74 dX7_makePlain_11 (by first | assumption | decide) (Nat.le_of_ble_eq_true rfl) (c7_spotOf ho hr hV hR2) ?_
      rintro _ _ ⟨rfl, rfl⟩
      rw [zp_at_n (by decide)]
      refine zi_ist3 dX7_makePlain_14 (Nat.le_of_ble_eq_true rfl) rfl ?_
      refine zi_ild3 dX7_makePlain_15 ?_
      refine zi_iconst (-1) dX7_makePlain_16 (by decide) ?_
      refine zi_icmp_ne 22 dX7_makePlain_17 (by decide) (fun c17 => ?_) (fun c17 => ?_)
      · rw [zp_oI_m1 (fun k hk => by have := zt_sp_lt hk; omega)] at c17
        obtain ⟨k, hk⟩ : ∃ k, (zt_sp fa w)[0]? = some k := Option.ne_none_iff_exists'.mp c17
        rw [hk, zp_oI_some]
        refine zi_ald0 dX7_makePlain_22 ?_
        refine zi_ild3 dX7_makePlain_23 ?_
        refine zi_ald1 dX7_makePlain_24 ?_
        refine zi_cV2v vmX7_stepAt lkX7_78 dX7_makePlain_25 (by first | assumption | decide) (Nat.le_of_ble_eq_true rfl) (c7_stepAt ho hr ha hV hR2 hw.1 (zt_sp_head hk)) ?_
        rintro τ1 ⟨hT1, hF1⟩
        refine zi_inc2 (nI 1) dX7_makePlain_28 (by decide) (Nat.le_of_ble_eq_true rfl) rfl ?_
        refine zi_goto 2 dX7_makePlain_31 (by decide) ?_
        rw [nI_add, zt_pl_s hk]
        have hb := zt_bi_lt (zt_sp_head hk)
        have hr3 := (hR _ hb.1).2.2.1
        exact ih (n + 1) τ1 _ _ _ (by omega) hT1 (zt_st_wd hw hb.1 (fun q => hr3.mp (by have := hb.2; omega))) (hF.tr hF1 (fun _ q => q) (fun _ q => q))
      · rw [zp_oI_m1 (fun k hk => by have := zt_sp_lt hk; omega)] at c17
        refine zi_ild2 dX7_makePlain_20 ?_
        refine zi_iret dX7_makePlain_21 rfl ?_
        exact ⟨_, rfl, hF, Or.inr ⟨n, w, s, zt_pl_nil c17, by omega, rfl, hV, hw⟩⟩
theorem c7_makePlain (ho : zt_ok h) (hr : zr_ok r) (ha : r + 3 ≤ h ∨ h + 3 ≤ r) (hV : zt_V σ h w s) (hR : zr_V σ r fa go) (hw : zt_wd w) : zw_Ti l G (d + 4) mX7_makePlain [.ref h, .ref r] σ (fun y υ => zw_F (zt_A h) σ υ ∧ ((y = -1 ∧ zt_pl fa go 60 0 w s = none) ∨ ∃ n' w' s', zt_pl fa go 60 0 w s = some (n', w', s') ∧ n' ≤ 60 ∧ y = nI n' ∧ zt_V υ h w' s' ∧ zt_wd w')) := by
  refine zw_enter2 (L := [some _, some _, none, none]) (by decide) (Nat.le_of_ble_eq_true rfl) rfl ?_
  refine zi_iconst (nI 0) dX7_makePlain_0 (by decide) ?_
  refine zi_ist2 dX7_makePlain_1 (Nat.le_of_ble_eq_true rfl) rfl ?_
  exact l7_makePlain ho hr ha hR 60 0 σ w s none rfl hV hw zw_F.rf
end Z16
