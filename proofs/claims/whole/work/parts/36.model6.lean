/-! the model: how many plain trees, and the series that undoes theirs -/
theorem zy_c9 {n : Nat} (h : n < 24) : n < zw_ln (168 + 9) := by rw [show zw_ln (168 + 9) = 24 by decide]; exact h
theorem zy_c10 {n : Nat} (h : n < 8) : n < zw_ln (168 + 10) := by rw [show zw_ln (168 + 10) = 8 by decide]; exact h
theorem zy_c11 {n : Nat} (h : n < 8) : n < zw_ln (168 + 11) := by rw [show zw_ln (168 + 11) = 8 by decide]; exact h
theorem zy_c12 {n : Nat} (h : n < 8) : n < zw_ln (168 + 12) := by rw [show zw_ln (168 + 12) = 8 by decide]; exact h
theorem zk_sum_0 (f : Nat → Int64) : zk_sum f 0 = 0 := rfl
theorem zk_sum_shift (f : Nat → Int64) : ∀ n, zk_sum f (n + 1) = f 0 + zk_sum (fun i => f (i + 1)) n
  | 0 => by show (0 : Int64) + f 0 = f 0 + 0; rw [Int64.zero_add, Int64.add_zero]
  | n + 1 => by
    show zk_sum f (n + 1) + f (n + 1) = f 0 + (zk_sum (fun i => f (i + 1)) n + f (n + 1))
    rw [zk_sum_shift f n, Int64.add_assoc]
theorem zk_sum_rev (f : Nat → Int64) : ∀ n, zk_sum f (n + 1) = zk_sum (fun i => f (n - i)) (n + 1)
  | 0 => rfl
  | n + 1 => by
    rw [zk_sum_shift (fun i => f (n + 1 - i)) (n + 1)]
    show zk_sum f (n + 1) + f (n + 1) = f (n + 1 - 0) + zk_sum (fun i => f (n + 1 - (i + 1))) (n + 1)
    rw [zk_sum_rev f n, Int64.add_comm, Nat.sub_zero]
    congr 1
    exact zk_sum_cg (fun i hi => by show f (n - i) = f (n + 1 - (i + 1)); rw [Nat.add_sub_add_right])
theorem zy_rp {u p : Nat → Int64} (h0 : u 0 = 0) (n : Nat) : zk_sum (fun i => p i * u (n - i)) (n + 1) = zk_rp u p n := by
  rw [zk_sum_rev, zk_sum_shift]
  show p (n - 0) * u (n - (n - 0)) + zk_sum (fun i => p (n - (i + 1)) * u (n - (n - (i + 1)))) n = zk_sum (fun i => u (i + 1) * p (n - (i + 1))) n
  rw [Nat.sub_zero, Nat.sub_self, h0, Int64.mul_zero, Int64.zero_add]
  refine zk_sum_cg (fun i hi => ?_)
  show p (n - (i + 1)) * u (n - (n - (i + 1))) = u (i + 1) * p (n - (i + 1))
  rw [show n - (n - (i + 1)) = i + 1 by omega, Int64.mul_comm]
theorem zk_un_0 (P : Nat → Int64) : ∀ m, zk_un P m 0 = 0
  | 0 => rfl
  | m + 1 => by
    rw [zk_un]
    simp only
    rw [if_neg (by omega)]
    exact zk_un_0 P m
theorem zk_R_1 (fa : Nat → Nat) (b : Nat) : zk_R fa 7 b 1 = 0 := by
  rw [zk_R_eq fa (by decide) (by decide)]
  rfl
/-- the table up to n leaves -/
def zy_pl (σ : zw_S) (fa : Nat → Nat) (n : Nat) : Prop := ∀ m, 1 ≤ m → m ≤ n → σ.2 (168 + 9) (3 * m) = (if m = 1 then 1 else 0) ∧ ∀ b, b < 2 → σ.2 (168 + 9) (3 * m + 1 + b) = zk_R fa 7 b m
def zy_LA : Nat → Prop := fun o => 177 ≤ o ∧ o < 181
section Z36
variable {l : Launch} {G : zw_G} {d : Nat} {σ : zw_S} {fa go : Nat → Nat}
theorem l9_mayStand (hR : zy_r σ 0 fa go) {R : Nat → Nat → Int64} {c side m : Nat} (hc : c < 2) (hs : side < 2) (h1 : 1 ≤ m) (h7 : m ≤ 7) (hP : ∀ b, b < 2 → σ.2 (168 + 9) (3 * m + 1 + b) = R b m) {p : Int64} : ∀ k b, b + k = 2 → zw_W l G (d + 1) mX9_mayStand 13 [some (.ref 168), some (.int (nI c)), some (.int (nI side)), some (.int (nI m)), some (.long (p + zk_sum (fun b => if fa (4 * c + 2 * b + side) = 0 then R b m else 0) b)), none, some (.int (nI b))] [] σ (fun x τ => ∃ y, x = some (.long y) ∧ σ = τ ∧ y = p + zk_sum (fun b => if fa (4 * c + 2 * b + side) = 0 then R b m else 0) 2) := by
  intro k
  induction k with
  | zero =>
    intro b hb
    obtain rfl : b = 2 := by omega
    refine zi_ild6 dX9_mayStand_13 ?_
    refine zi_iconst (nI 2) dX9_mayStand_15 (by decide) ?_
    refine zi_icmp_ge 68 dX9_mayStand_16 (by decide) (fun c16 => ?_) (fun c16 => ?_)
    · refine zi_lld4 dX9_mayStand_68 ?_
      refine zi_lret dX9_mayStand_70 rfl ?_
      exact ⟨_, rfl, rfl, rfl⟩
    · exact absurd (by decide) c16
  | succ k ih =>
    intro b hb
    have hp8 : 4 * c + 2 * b + side < 8 := by omega
    have hf := (hR _ hp8).1
    refine zi_ild6 dX9_mayStand_13 ?_
    refine zi_iconst (nI 2) dX9_mayStand_15 (by decide) ?_
    refine zi_icmp_ge 68 dX9_mayStand_16 (by decide) (fun c16 => ?_) (fun c16 => ?_)
    · rw [zn_le (by omega) (by omega)] at c16; omega
    · refine zi_lld4 dX9_mayStand_19 ?_
      refine zi_ald0 dX9_mayStand_21 ?_
      refine zi_getR dX9_mayStand_22 flX9_7 rfl (by first | assumption | decide) ?_
      refine zi_bipush (nI 17) dX9_mayStand_25 (by decide) ?_
      refine zi_iconst (nI 4) dX9_mayStand_27 (by decide) ?_
      refine zi_ild1 dX9_mayStand_28 ?_
      refine zi_imul dX9_mayStand_29 ?_
      refine zi_iadd dX9_mayStand_30 ?_
      refine zi_iconst (nI 2) dX9_mayStand_31 (by decide) ?_
      refine zi_ild6 dX9_mayStand_32 ?_
      refine zi_imul dX9_mayStand_34 ?_
      refine zi_iadd dX9_mayStand_35 ?_
      refine zi_ild2 dX9_mayStand_36 ?_
      refine zi_iadd dX9_mayStand_37 ?_
      refine zi_ialdN (17 + (4 * c + 2 * b + side)) dX9_mayStand_38 (by first | assumption | decide) (by rw [pk_mul, pk_mul, nI_add, nI_add, nI_add, show 17 + 4 * c + 2 * b + side = 17 + (4 * c + 2 * b + side) by omega]) (zy_b1 (by omega)) (by decide) ?_
      rw [hR.f0 hp8]
      refine zi_if_ne 58 dX9_mayStand_39 (by decide) (fun c39 => ?_) (fun c39 => ?_)
      · refine zi_lconst 0 dX9_mayStand_58 (by decide) ?_
        refine zi_ladd dX9_mayStand_59 ?_
        refine zi_lst4 dX9_mayStand_60 (Nat.le_of_ble_eq_true rfl) rfl ?_
        refine zi_inc6 (nI 1) dX9_mayStand_62 (by decide) (Nat.le_of_ble_eq_true rfl) rfl ?_
        refine zi_goto 13 dX9_mayStand_65 (by decide) ?_
        rw [nI_add]
        have := ih (b + 1) (by omega)
        rw [show zk_sum (fun b => if fa (4 * c + 2 * b + side) = 0 then R b m else 0) (b + 1) = zk_sum (fun b => if fa (4 * c + 2 * b + side) = 0 then R b m else 0) b + (if fa (4 * c + 2 * b + side) = 0 then R b m else 0) from rfl, ← Int64.add_assoc p] at this
        first
        | (rw [if_pos c39] at this; exact this)
        | (rw [zn_0, zn_eq (by omega) (by omega)] at c39
           rw [if_neg c39] at this; exact this)
      · rw [zn_0, zn_eq (by omega) (by omega)] at c39
        refine zi_ald0 dX9_mayStand_42 ?_
        refine zi_getR dX9_mayStand_43 flX9_38 rfl (by first | assumption | decide) ?_
        refine zi_iconst (nI 3) dX9_mayStand_46 (by decide) ?_
        refine zi_ild3 dX9_mayStand_47 ?_
        refine zi_imul dX9_mayStand_48 ?_
        refine zi_iconst (nI 1) dX9_mayStand_49 (by decide) ?_
        refine zi_iadd dX9_mayStand_50 ?_
        refine zi_ild6 dX9_mayStand_51 ?_
        refine zi_iadd dX9_mayStand_53 ?_
        refine zi_laldN (3 * m + 1 + b) dX9_mayStand_54 (by first | assumption | decide) (by rw [pk_mul, nI_add, nI_add]) (zy_c9 (by omega)) (by decide) ?_
        rw [hP b (by omega)]
        refine zi_goto 59 dX9_mayStand_55 (by decide) ?_
        refine zi_ladd dX9_mayStand_59 ?_
        refine zi_lst4 dX9_mayStand_60 (Nat.le_of_ble_eq_true rfl) rfl ?_
        refine zi_inc6 (nI 1) dX9_mayStand_62 (by decide) (Nat.le_of_ble_eq_true rfl) rfl ?_
        refine zi_goto 13 dX9_mayStand_65 (by decide) ?_
        rw [nI_add]
        have := ih (b + 1) (by omega)
        rw [show zk_sum (fun b => if fa (4 * c + 2 * b + side) = 0 then R b m else 0) (b + 1) = zk_sum (fun b => if fa (4 * c + 2 * b + side) = 0 then R b m else 0) b + (if fa (4 * c + 2 * b + side) = 0 then R b m else 0) from rfl, ← Int64.add_assoc p] at this
        first
        | (rw [if_pos c39] at this; exact this)
        | (rw [zn_0, zn_eq (by omega) (by omega)] at c39
           rw [if_neg c39] at this; exact this)
theorem c9_mayStand (hR : zy_r σ 0 fa go) {c side m : Nat} (hc : c < 2) (hs : side < 2) (h1 : 1 ≤ m) (h7 : m ≤ 7) (hP : σ.2 (168 + 9) (3 * m) = (if m = 1 then 1 else 0) ∧ ∀ b, b < 2 → σ.2 (168 + 9) (3 * m + 1 + b) = zk_R fa 7 b m) : zw_Tl l G (d + 1) mX9_mayStand [.ref 168, .int (nI c), .int (nI side), .int (nI m)] σ (fun x τ => σ = τ ∧ x = zk_B fa (zk_R fa 7) c side m) := by
  refine zw_enter2 (L := [some _, some _, some _, some _, none, none, none]) (by decide) (Nat.le_of_ble_eq_true rfl) rfl ?_
  refine zi_ald0 dX9_mayStand_0 ?_
  refine zi_getR dX9_mayStand_1 flX9_38 rfl (by first | assumption | decide) ?_
  refine zi_iconst (nI 3) dX9_mayStand_4 (by decide) ?_
  refine zi_ild3 dX9_mayStand_5 ?_
  refine zi_imul dX9_mayStand_6 ?_
  refine zi_laldN (3 * m) dX9_mayStand_7 (by first | assumption | decide) (pk_mul _ _) (zy_c9 (by omega)) (by decide) ?_
  refine zi_lst4 dX9_mayStand_8 (Nat.le_of_ble_eq_true rfl) rfl ?_
  refine zi_iconst (nI 0) dX9_mayStand_10 (by decide) ?_
  refine zi_ist6 dX9_mayStand_11 (Nat.le_of_ble_eq_true rfl) rfl ?_
  have e := l9_mayStand (l := l) (G := G) (d := d) (p := σ.2 (168 + 9) (3 * m)) hR hc hs h1 h7 hP.2 2 0 rfl
  rw [zk_sum_0, Int64.add_zero] at e
  refine zw_W.mono e (fun x τ ⟨y, e1, e2, e3⟩ => ⟨y, e1, e2, e3.trans ?_⟩)
  rw [hP.1]
  unfold zk_B
  by_cases q : m = 1
  · subst q
    have hz : ∀ b, (if fa (4 * c + 2 * b + side) = 0 then zk_R fa 7 b 1 else 0) = 0 := fun b => by rw [zk_R_1]; split <;> rfl
    rw [if_pos rfl, if_pos (by decide)]
    show (1 : Int64) + ((0 + (if fa (4 * c + 2 * 0 + side) = 0 then zk_R fa 7 0 1 else 0)) + (if fa (4 * c + 2 * 1 + side) = 0 then zk_R fa 7 1 1 else 0)) = 1
    rw [hz, hz]
    decide
  · rw [if_neg q, if_neg (by omega), Int64.zero_add]
theorem l9_cpIn (hR : zy_r σ 0 fa go) {c n : Nat} (hc : c < 2) (h7 : n ≤ 7) (h1 : 1 ≤ n) (hP : zy_pl σ fa (n - 1)) {P : Option Value → zw_S → Prop} (hk : zw_W l G (d + 2) mX9_countPlains 72 [some (.ref 168), some (.int (nI n)), some (.int (nI c)), some (.long (zk_R fa 7 c n)), none, some (.int (nI n))] [] σ P) : ∀ k i, i + 1 + k = n → zw_W l G (d + 2) mX9_countPlains 38 [some (.ref 168), some (.int (nI n)), some (.int (nI c)), some (.long (zk_sum (fun i => zk_B fa (zk_R fa 7) c 0 (i + 1) * zk_B fa (zk_R fa 7) c 1 (n - (i + 1))) i)), none, some (.int (nI (i + 1)))] [] σ P := by
  intro k
  induction k with
  | zero =>
    intro i hi
    have hk2 := hk
    rw [zk_R_eq fa h1 h7] at hk2
    unfold zk_r at hk2
    rw [show n - 1 = i by omega] at hk2
    refine zi_ild5 dX9_countPlains_38 ?_
    refine zi_ild1 dX9_countPlains_40 ?_
    refine zi_icmp_ge 72 dX9_countPlains_41 (by decide) (fun c41 => ?_) (fun c41 => ?_)
    · rw [show i + 1 = n by omega]; exact hk2
    · rw [zn_le (by omega) (by omega)] at c41; omega
  | succ k ih =>
    intro i hi
    refine zi_ild5 dX9_countPlains_38 ?_
    refine zi_ild1 dX9_countPlains_40 ?_
    refine zi_icmp_ge 72 dX9_countPlains_41 (by decide) (fun c41 => ?_) (fun c41 => ?_)
    · rw [zn_le (by omega) (by omega)] at c41; omega
    · refine zi_lld3 dX9_countPlains_44 ?_
      refine zi_ald0 dX9_countPlains_45 ?_
      refine zi_ild2 dX9_countPlains_46 ?_
      refine zi_iconst (nI 0) dX9_countPlains_47 (by decide) ?_
      refine zi_ild5 dX9_countPlains_48 ?_
      refine zi_cV3l vmX9_mayStand lkX9_123 dX9_countPlains_50 (by first | assumption | decide) (Nat.le_of_ble_eq_true rfl) (c9_mayStand (side := 0) (m := i + 1) hR hc (by decide) (by omega) (by omega) (hP (i + 1) (by omega) (by omega))) ?_
      rintro _ _ ⟨rfl, rfl⟩
      refine zi_ald0 dX9_countPlains_53 ?_
      refine zi_ild2 dX9_countPlains_54 ?_
      refine zi_iconst (nI 1) dX9_countPlains_55 (by decide) ?_
      refine zi_ild1 dX9_countPlains_56 ?_
      refine zi_ild5 dX9_countPlains_57 ?_
      refine zi_isub dX9_countPlains_59 ?_
      rw [pk_sub (by omega)]
      refine zi_cV3l vmX9_mayStand lkX9_123 dX9_countPlains_60 (by first | assumption | decide) (Nat.le_of_ble_eq_true rfl) (c9_mayStand (side := 1) (m := n - (i + 1)) hR hc (by decide) (by omega) (by omega) (hP (n - (i + 1)) (by omega) (by omega))) ?_
      rintro _ _ ⟨rfl, rfl⟩
      refine zi_lmul dX9_countPlains_63 ?_
      refine zi_ladd dX9_countPlains_64 ?_
      refine zi_lst3 dX9_countPlains_65 (Nat.le_of_ble_eq_true rfl) rfl ?_
      refine zi_inc5 (nI 1) dX9_countPlains_66 (by decide) (Nat.le_of_ble_eq_true rfl) rfl ?_
      refine zi_goto 38 dX9_countPlains_69 (by decide) ?_
      rw [nI_add]
      exact ih (i + 1) (by omega)
theorem l9_cpMid (hR : zy_r σ 0 fa go) {n : Nat} (h7 : n ≤ 7) (h1 : 1 ≤ n) {P : Option Value → zw_S → Prop} (hk : ∀ τ x2 x3 x4 x5, zL_F zy_LA σ τ → zy_pl τ fa n → zw_W l G (d + 2) mX9_countPlains 91 [some (.ref 168), some (.int (nI n)), x2, x3, x4, x5] [] τ P) : ∀ k c τ x3 x4 x5, c + k = 2 → zL_F zy_LA σ τ → zy_pl τ fa (n - 1) → τ.2 (168 + 9) (3 * n) = (if n = 1 then 1 else 0) → (∀ b, b < c → τ.2 (168 + 9) (3 * n + 1 + b) = zk_R fa 7 b n) → zw_W l G (d + 2) mX9_countPlains 28 [some (.ref 168), some (.int (nI n)), some (.int (nI c)), x3, x4, x5] [] τ P := by
  intro k
  induction k with
  | zero =>
    intro c τ x3 x4 x5 hc hF hP h0 hT
    obtain rfl : c = 2 := by omega
    refine zi_ild2 dX9_countPlains_28 ?_
    refine zi_iconst (nI 2) dX9_countPlains_29 (by decide) ?_
    refine zi_icmp_ge 91 dX9_countPlains_30 (by decide) (fun c30 => ?_) (fun c30 => ?_)
    · refine hk τ _ _ _ _ hF (fun m a b => ?_)
      by_cases e : m = n
      · subst e; exact ⟨h0, hT⟩
      · exact hP m a (by omega)
    · exact absurd (by decide) c30
  | succ k ih =>
    intro c τ x3 x4 x5 hc hF hP h0 hT
    refine zi_ild2 dX9_countPlains_28 ?_
    refine zi_iconst (nI 2) dX9_countPlains_29 (by decide) ?_
    refine zi_icmp_ge 91 dX9_countPlains_30 (by decide) (fun c30 => ?_) (fun c30 => ?_)
    · rw [zn_le (by omega) (by omega)] at c30; omega
    · refine zi_lconst 0 dX9_countPlains_33 (by decide) ?_
      refine zi_lst3 dX9_countPlains_34 (Nat.le_of_ble_eq_true rfl) rfl ?_
      refine zi_iconst (nI 1) dX9_countPlains_35 (by decide) ?_
      refine zi_ist5 dX9_countPlains_36 (Nat.le_of_ble_eq_true rfl) rfl ?_
      refine l9_cpIn (σ := τ) (fa := fa) (go := go) (hR.cg (by rw [hF.1])) (show c < 2 by omega) h7 h1 hP ?_ (n - 1) 0 (by omega)
      refine zi_ald0 dX9_countPlains_72 ?_
      refine zi_getR dX9_countPlains_73 flX9_38 rfl (by first | assumption | decide) ?_
      refine zi_iconst (nI 3) dX9_countPlains_76 (by decide) ?_
      refine zi_ild1 dX9_countPlains_77 ?_
      refine zi_imul dX9_countPlains_78 ?_
      refine zi_iconst (nI 1) dX9_countPlains_79 (by decide) ?_
      refine zi_iadd dX9_countPlains_80 ?_
      refine zi_ild2 dX9_countPlains_81 ?_
      refine zi_iadd dX9_countPlains_82 ?_
      refine zi_lld3 dX9_countPlains_83 ?_
      refine zi_lastN (3 * n + 1 + c) dX9_countPlains_84 (by first | assumption | decide) (by rw [pk_mul, nI_add, nI_add]) (zy_c9 (by omega)) (by decide) ?_
      refine zi_inc2 (nI 1) dX9_countPlains_85 (by decide) (Nat.le_of_ble_eq_true rfl) rfl ?_
      refine zi_goto 28 dX9_countPlains_88 (by decide) ?_
      rw [nI_add]
      refine ih (c + 1) _ _ _ _ (by omega) (hF.pL (by unfold zy_LA; omega)) (fun m a b => ?_) ?_ (fun b hb => ?_)
      · refine ⟨?_, fun q hq => ?_⟩
        · rw [zL_slot (by omega)]; exact (hP m a b).1
        · rw [zL_slot (by omega)]; exact (hP m a b).2 q hq
      · rw [zL_slot (by omega)]; exact h0
      · by_cases e : b = c
        · subst e; rw [zL_same]
        · rw [zL_slot (by omega)]; exact hT b (by omega)
theorem l9_cpOut (hR : zy_r σ 0 fa go) : ∀ k n τ x2 x3 x4 x5, n + k = 8 → 1 ≤ n → zL_F zy_LA σ τ → zy_pl τ fa (n - 1) → zw_W l G (d + 2) mX9_countPlains 2 [some (.ref 168), some (.int (nI n)), x2, x3, x4, x5] [] τ (fun x υ => x = none ∧ zy_pl υ fa 7 ∧ zL_F zy_LA σ υ) := by
  intro k
  induction k with
  | zero =>
    intro n τ x2 x3 x4 x5 hn h1 hF hP
    obtain rfl : n = 8 := by omega
    refine zi_ild1 dX9_countPlains_2 ?_
    refine zi_bipush (nI 7) dX9_countPlains_3 (by decide) ?_
    refine zi_icmp_gt 97 dX9_countPlains_5 (by decide) (fun c5 => ?_) (fun c5 => ?_)
    · refine zi_ret dX9_countPlains_97 rfl ?_
      exact ⟨rfl, hP, hF⟩
    · exact absurd (by decide) c5
  | succ k ih =>
    intro n τ x2 x3 x4 x5 hn h1 hF hP
    refine zi_ild1 dX9_countPlains_2 ?_
    refine zi_bipush (nI 7) dX9_countPlains_3 (by decide) ?_
    refine zi_icmp_gt 97 dX9_countPlains_5 (by decide) (fun c5 => ?_) (fun c5 => ?_)
    · rw [zn_lt (by omega) (by omega)] at c5; omega
    · refine zi_ald0 dX9_countPlains_8 ?_
      refine zi_getR dX9_countPlains_9 flX9_38 rfl (by first | assumption | decide) ?_
      refine zi_iconst (nI 3) dX9_countPlains_12 (by decide) ?_
      refine zi_ild1 dX9_countPlains_13 ?_
      refine zi_imul dX9_countPlains_14 ?_
      refine zi_ild1 dX9_countPlains_15 ?_
      refine zi_iconst (nI 1) dX9_countPlains_16 (by decide) ?_
      refine zi_icmp_ne 24 dX9_countPlains_17 (by decide) (fun c17 => ?_) (fun c17 => ?_)
      · rw [zn_eq (by omega) (by omega)] at c17
        refine zi_lconst 0 dX9_countPlains_24 (by decide) ?_
        refine zi_lastN (3 * n) dX9_countPlains_25 (by first | assumption | decide) (pk_mul _ _) (zy_c9 (by omega)) (by decide) ?_
        refine zi_iconst (nI 0) dX9_countPlains_26 (by decide) ?_
        refine zi_ist2 dX9_countPlains_27 (Nat.le_of_ble_eq_true rfl) rfl ?_
        refine l9_cpMid (σ := σ) hR (show n ≤ 7 by omega) h1 ?_ 2 0 _ _ _ _ rfl (hF.pL (by unfold zy_LA; omega)) (fun m a b => ?_) ?_ (fun b hb => by omega)
        rotate_left
        · refine ⟨?_, fun q hq => ?_⟩
          · rw [zL_slot (by omega)]; exact (hP m a b).1
          · rw [zL_slot (by omega)]; exact (hP m a b).2 q hq
        · rw [zL_same]
          first
          | (rw [if_pos c17])
          | (rw [if_neg c17])
        intro τ2 y2 y3 y4 y5 hF2 hP2
        refine zi_inc1 (nI 1) dX9_countPlains_91 (by decide) (Nat.le_of_ble_eq_true rfl) rfl ?_
        refine zi_goto 2 dX9_countPlains_94 (by decide) ?_
        rw [nI_add]
        exact ih (n + 1) τ2 _ _ _ _ (by omega) (by omega) hF2 hP2
      · rw [zn_eq (by omega) (by omega)] at c17
        refine zi_lconst 1 dX9_countPlains_20 (by decide) ?_
        refine zi_goto 25 dX9_countPlains_21 (by decide) ?_
        refine zi_lastN (3 * n) dX9_countPlains_25 (by first | assumption | decide) (pk_mul _ _) (zy_c9 (by omega)) (by decide) ?_
        refine zi_iconst (nI 0) dX9_countPlains_26 (by decide) ?_
        refine zi_ist2 dX9_countPlains_27 (Nat.le_of_ble_eq_true rfl) rfl ?_
        refine l9_cpMid (σ := σ) hR (show n ≤ 7 by omega) h1 ?_ 2 0 _ _ _ _ rfl (hF.pL (by unfold zy_LA; omega)) (fun m a b => ?_) ?_ (fun b hb => by omega)
        rotate_left
        · refine ⟨?_, fun q hq => ?_⟩
          · rw [zL_slot (by omega)]; exact (hP m a b).1
          · rw [zL_slot (by omega)]; exact (hP m a b).2 q hq
        · rw [zL_same]
          first
          | (rw [if_pos c17])
          | (rw [if_neg c17])
        intro τ2 y2 y3 y4 y5 hF2 hP2
        refine zi_inc1 (nI 1) dX9_countPlains_91 (by decide) (Nat.le_of_ble_eq_true rfl) rfl ?_
        refine zi_goto 2 dX9_countPlains_94 (by decide) ?_
        rw [nI_add]
        exact ih (n + 1) τ2 _ _ _ _ (by omega) (by omega) hF2 hP2
theorem c9_countPlains (hR : zy_r σ 0 fa go) : zw_Tv l G (d + 2) mX9_countPlains [.ref 168] σ (fun υ => zy_pl υ fa 7 ∧ zL_F zy_LA σ υ) := by
  refine zw_enter2 (L := [some _, none, none, none, none, none]) (by decide) (Nat.le_of_ble_eq_true rfl) rfl ?_
  refine zi_iconst (nI 1) dX9_countPlains_0 (by decide) ?_
  refine zi_ist1 dX9_countPlains_1 (Nat.le_of_ble_eq_true rfl) rfl ?_
  exact l9_cpOut hR 7 1 σ _ _ _ _ rfl (Nat.le_refl 1) zL_F.rf (fun m a b => by omega)
theorem c9_plainOf {m : Nat} (hP : zy_pl σ fa 7) (h1 : 1 ≤ m) (h7 : m ≤ 7) : zw_Tl l G (d + 1) mX9_plainOf [.ref 168, .int (nI m)] σ (fun x τ => σ = τ ∧ x = zk_P fa m) := by
  obtain ⟨p0, p1⟩ := hP m h1 h7
  have q0 := p1 0 (by decide)
  have q1 := p1 1 (by decide)
  refine zw_enter2 (L := [some _, some _]) (by decide) (Nat.le_of_ble_eq_true rfl) rfl ?_
  refine zi_ald0 dX9_plainOf_0 ?_
  refine zi_getR dX9_plainOf_1 flX9_38 rfl (by first | assumption | decide) ?_
  refine zi_iconst (nI 3) dX9_plainOf_4 (by decide) ?_
  refine zi_ild1 dX9_plainOf_5 ?_
  refine zi_imul dX9_plainOf_6 ?_
  refine zi_laldN (3 * m) dX9_plainOf_7 (by first | assumption | decide) (pk_mul _ _) (zy_c9 (by omega)) (by decide) ?_
  refine zi_ald0 dX9_plainOf_8 ?_
  refine zi_getR dX9_plainOf_9 flX9_38 rfl (by first | assumption | decide) ?_
  refine zi_iconst (nI 3) dX9_plainOf_12 (by decide) ?_
  refine zi_ild1 dX9_plainOf_13 ?_
  refine zi_imul dX9_plainOf_14 ?_
  refine zi_iconst (nI 1) dX9_plainOf_15 (by decide) ?_
  refine zi_iadd dX9_plainOf_16 ?_
  refine zi_laldN (3 * m + 1 + 0) dX9_plainOf_17 (by first | assumption | decide) (by rw [pk_mul, nI_add]) (zy_c9 (by omega)) (by decide) ?_
  refine zi_ladd dX9_plainOf_18 ?_
  refine zi_ald0 dX9_plainOf_19 ?_
  refine zi_getR dX9_plainOf_20 flX9_38 rfl (by first | assumption | decide) ?_
  refine zi_iconst (nI 3) dX9_plainOf_23 (by decide) ?_
  refine zi_ild1 dX9_plainOf_24 ?_
  refine zi_imul dX9_plainOf_25 ?_
  refine zi_iconst (nI 2) dX9_plainOf_26 (by decide) ?_
  refine zi_iadd dX9_plainOf_27 ?_
  refine zi_laldN (3 * m + 1 + 1) dX9_plainOf_28 (by first | assumption | decide) (by rw [pk_mul, nI_add]) (zy_c9 (by omega)) (by decide) ?_
  refine zi_ladd dX9_plainOf_29 ?_
  refine zi_lret dX9_plainOf_30 rfl ?_
  refine ⟨_, rfl, rfl, ?_⟩
  rw [p0, q0, q1]
  unfold zk_P
  by_cases e : m = 1
  · subst e
    rw [if_pos rfl, if_pos rfl, zk_R_1, zk_R_1]
    decide
  · rw [if_neg e, if_neg e]; rfl
theorem l9_puIn {u p : Nat → Int64} {n : Nat} (hn : n < 8) (h0 : u 0 = 0) (hu : ∀ i, i < 8 → σ.2 (168 + 10) i = u i) (hp : ∀ i, i < 8 → σ.2 (168 + 11) i = p i) {P : Option Value → zw_S → Prop} (hk : ∀ τ x2, zL_F (fun q => q = 180) σ τ → (∀ j, j ≤ n → τ.2 (168 + 12) j = zk_rp u p j) → zw_W l G (d + 1) mX9_powerUp 52 [some (.ref 168), some (.int (nI n)), x2] [] τ P) : ∀ k i τ, i + k = n + 1 → zL_F (fun q => q = 180) σ τ → (∀ j, j < n → τ.2 (168 + 12) j = zk_rp u p j) → τ.2 (168 + 12) n = zk_sum (fun i => p i * u (n - i)) i → zw_W l G (d + 1) mX9_powerUp 17 [some (.ref 168), some (.int (nI n)), some (.int (nI i))] [] τ P := by
  intro k
  induction k with
  | zero =>
    intro i τ hi hF hI hN
    rw [show i = n + 1 by omega, zy_rp h0] at hN
    refine zi_ild2 dX9_powerUp_17 ?_
    refine zi_ild1 dX9_powerUp_18 ?_
    refine zi_icmp_gt 52 dX9_powerUp_19 (by decide) (fun c19 => ?_) (fun c19 => ?_)
    · refine hk τ _ hF (fun j hj => ?_)
      by_cases e : j = n
      · subst e; exact hN
      · exact hI j (by omega)
    · rw [zn_lt (by omega) (by omega)] at c19; omega
  | succ k ih =>
    intro i τ hi hF hI hN
    have ep : τ.2 (168 + 11) i = p i := by rw [hF.2 (168 + 11) (by omega)]; exact hp i (by omega)
    have eu : τ.2 (168 + 10) (n - i) = u (n - i) := by rw [hF.2 (168 + 10) (by omega)]; exact hu _ (by omega)
    refine zi_ild2 dX9_powerUp_17 ?_
    refine zi_ild1 dX9_powerUp_18 ?_
    refine zi_icmp_gt 52 dX9_powerUp_19 (by decide) (fun c19 => ?_) (fun c19 => ?_)
    · rw [zn_lt (by omega) (by omega)] at c19; omega
    · refine zi_ald0 dX9_powerUp_22 ?_
      refine zi_getR dX9_powerUp_23 flX9_48 rfl (by first | assumption | decide) ?_
      refine zi_ild1 dX9_powerUp_26 ?_
      refine zi_dup2ri dX9_powerUp_27 ?_
      refine zi_laldN n dX9_powerUp_28 (by first | assumption | decide) rfl (zy_c12 (by omega)) (by decide) ?_
      refine zi_ald0 dX9_powerUp_29 ?_
      refine zi_getR dX9_powerUp_30 flX9_45 rfl (by first | assumption | decide) ?_
      refine zi_ild2 dX9_powerUp_33 ?_
      refine zi_laldN i dX9_powerUp_34 (by first | assumption | decide) rfl (zy_c11 (by omega)) (by decide) ?_
      refine zi_ald0 dX9_powerUp_35 ?_
      refine zi_getR dX9_powerUp_36 flX9_42 rfl (by first | assumption | decide) ?_
      refine zi_ild1 dX9_powerUp_39 ?_
      refine zi_ild2 dX9_powerUp_40 ?_
      refine zi_isub dX9_powerUp_41 ?_
      refine zi_laldN (n - i) dX9_powerUp_42 (by first | assumption | decide) (pk_sub (by omega)) (zy_c10 (by omega)) (by decide) ?_
      rw [hN, ep, eu]
      refine zi_lmul dX9_powerUp_43 ?_
      refine zi_ladd dX9_powerUp_44 ?_
      refine zi_lastN n dX9_powerUp_45 (by first | assumption | decide) rfl (zy_c12 (by omega)) (by decide) ?_
      refine zi_inc2 (nI 1) dX9_powerUp_46 (by decide) (Nat.le_of_ble_eq_true rfl) rfl ?_
      refine zi_goto 17 dX9_powerUp_49 (by decide) ?_
      rw [nI_add]
      refine ih (i + 1) _ (by omega) (hF.pL rfl) (fun j hj => ?_) ?_
      · rw [zL_slot (by omega)]; exact hI j hj
      · rw [zL_same]; rfl
theorem l9_puOut {u p : Nat → Int64} (h0 : u 0 = 0) (hu : ∀ i, i < 8 → σ.2 (168 + 10) i = u i) (hp : ∀ i, i < 8 → σ.2 (168 + 11) i = p i) {P : Option Value → zw_S → Prop} (hk : ∀ τ x1 x2, zL_F (fun q => q = 180) σ τ → (∀ j, j < 8 → τ.2 (168 + 12) j = zk_rp u p j) → zw_W l G (d + 1) mX9_powerUp 58 [some (.ref 168), some (.int x1), x2] [] τ P) : ∀ k n τ x2, n + k = 8 → zL_F (fun q => q = 180) σ τ → (∀ j, j < n → τ.2 (168 + 12) j = zk_rp u p j) → zw_W l G (d + 1) mX9_powerUp 2 [some (.ref 168), some (.int (nI n)), x2] [] τ P := by
  intro k
  induction k with
  | zero =>
    intro n τ x2 hn hF hI
    obtain rfl : n = 8 := by omega
    refine zi_ild1 dX9_powerUp_2 ?_
    refine zi_bipush (nI 7) dX9_powerUp_3 (by decide) ?_
    refine zi_icmp_gt 58 dX9_powerUp_5 (by decide) (fun c5 => ?_) (fun c5 => ?_)
    · exact hk τ _ _ hF hI
    · exact absurd (by decide) c5
  | succ k ih =>
    intro n τ x2 hn hF hI
    refine zi_ild1 dX9_powerUp_2 ?_
    refine zi_bipush (nI 7) dX9_powerUp_3 (by decide) ?_
    refine zi_icmp_gt 58 dX9_powerUp_5 (by decide) (fun c5 => ?_) (fun c5 => ?_)
    · rw [zn_lt (by omega) (by omega)] at c5; omega
    · refine zi_ald0 dX9_powerUp_8 ?_
      refine zi_getR dX9_powerUp_9 flX9_48 rfl (by first | assumption | decide) ?_
      refine zi_ild1 dX9_powerUp_12 ?_
      refine zi_lconst 0 dX9_powerUp_13 (by decide) ?_
      refine zi_lastN n dX9_powerUp_14 (by first | assumption | decide) rfl (zy_c12 (by omega)) (by decide) ?_
      refine zi_iconst (nI 0) dX9_powerUp_15 (by decide) ?_
      refine zi_ist2 dX9_powerUp_16 (Nat.le_of_ble_eq_true rfl) rfl ?_
      refine l9_puIn (σ := σ) (u := u) (p := p) (show n < 8 by omega) h0 hu hp ?_ (n + 1) 0 _ (by omega) (hF.pL rfl) (fun j hj => ?_) ?_
      rotate_left
      · rw [zL_slot (by omega)]; exact hI j hj
      · rw [zL_same]; rfl
      intro τ2 y2 hF2 hI2
      refine zi_inc1 (nI 1) dX9_powerUp_52 (by decide) (Nat.le_of_ble_eq_true rfl) rfl ?_
      refine zi_goto 2 dX9_powerUp_55 (by decide) ?_
      rw [nI_add]
      exact ih (n + 1) τ2 _ (by omega) hF2 (fun j hj => hI2 j (by omega))
theorem l9_puCp {f : Nat → Int64} {x2 : Option Value} : ∀ k i τ, i + k = 8 → zL_F (fun q => q = 179) σ τ → (∀ j, j < 8 → τ.2 (168 + 12) j = f j) → (∀ j, j < i → τ.2 (168 + 11) j = f j) → zw_W l G (d + 1) mX9_powerUp 60 [some (.ref 168), some (.int (nI i)), x2] [] τ (fun x υ => x = none ∧ (∀ j, j < 8 → υ.2 (168 + 11) j = f j) ∧ zL_F (fun q => q = 179) σ υ) := by
  intro k
  induction k with
  | zero =>
    intro i τ hi hF hS hI
    obtain rfl : i = 8 := by omega
    refine zi_ild1 dX9_powerUp_60 ?_
    refine zi_bipush (nI 7) dX9_powerUp_61 (by decide) ?_
    refine zi_icmp_gt 84 dX9_powerUp_63 (by decide) (fun c63 => ?_) (fun c63 => ?_)
    · refine zi_ret dX9_powerUp_84 rfl ?_
      exact ⟨rfl, hI, hF⟩
    · exact absurd (by decide) c63
  | succ k ih =>
    intro i τ hi hF hS hI
    refine zi_ild1 dX9_powerUp_60 ?_
    refine zi_bipush (nI 7) dX9_powerUp_61 (by decide) ?_
    refine zi_icmp_gt 84 dX9_powerUp_63 (by decide) (fun c63 => ?_) (fun c63 => ?_)
    · rw [zn_lt (by omega) (by omega)] at c63; omega
    · refine zi_ald0 dX9_powerUp_66 ?_
      refine zi_getR dX9_powerUp_67 flX9_45 rfl (by first | assumption | decide) ?_
      refine zi_ild1 dX9_powerUp_70 ?_
      refine zi_ald0 dX9_powerUp_71 ?_
      refine zi_getR dX9_powerUp_72 flX9_48 rfl (by first | assumption | decide) ?_
      refine zi_ild1 dX9_powerUp_75 ?_
      refine zi_laldN i dX9_powerUp_76 (by first | assumption | decide) rfl (zy_c12 (by omega)) (by decide) ?_
      refine zi_lastN i dX9_powerUp_77 (by first | assumption | decide) rfl (zy_c11 (by omega)) (by decide) ?_
      refine zi_inc1 (nI 1) dX9_powerUp_78 (by decide) (Nat.le_of_ble_eq_true rfl) rfl ?_
      refine zi_goto 60 dX9_powerUp_81 (by decide) ?_
      rw [nI_add]
      refine ih (i + 1) _ (by omega) (hF.pL rfl) (fun j hj => ?_) (fun j hj => ?_)
      · rw [zL_obj (by decide)]; exact hS j hj
      · by_cases e : j = i
        · subst e; rw [zL_same]; exact hS j (by omega)
        · rw [zL_slot e]; exact hI j (by omega)
theorem c9_powerUp {u p : Nat → Int64} (h0 : u 0 = 0) (hu : ∀ i, i < 8 → σ.2 (168 + 10) i = u i) (hp : ∀ i, i < 8 → σ.2 (168 + 11) i = p i) : zw_Tv l G (d + 1) mX9_powerUp [.ref 168] σ (fun υ => (∀ j, j < 8 → υ.2 (168 + 11) j = zk_rp u p j) ∧ zL_F (fun q => q = 179 ∨ q = 180) σ υ) := by
  refine zw_enter2 (L := [some _, none, none]) (by decide) (Nat.le_of_ble_eq_true rfl) rfl ?_
  refine zi_iconst (nI 0) dX9_powerUp_0 (by decide) ?_
  refine zi_ist1 dX9_powerUp_1 (Nat.le_of_ble_eq_true rfl) rfl ?_
  refine l9_puOut (σ := σ) (u := u) (p := p) h0 hu hp ?_ 8 0 σ _ rfl zL_F.rf (fun j hj => by omega)
  intro τ1 y1 y2 hF1 hI1
  refine zi_iconst (nI 0) dX9_powerUp_58 (by decide) ?_
  refine zi_ist1 dX9_powerUp_59 (Nat.le_of_ble_eq_true rfl) rfl ?_
  refine zw_W.mono (l9_puCp (σ := τ1) (f := zk_rp u p) 8 0 τ1 rfl zL_F.rf hI1 (fun j hj => by omega)) ?_
  rintro x υ ⟨e1, e2, e3⟩
  exact ⟨e1, e2, hF1.tr e3 (fun o q => Or.inr q) (fun o q => Or.inl q)⟩
theorem l9_us1 {P : Option Value → zw_S → Prop} {x2 x3 x4 : Option Value} (hk : ∀ τ x1, zL_F (fun q => q = 178) σ τ → (∀ j, j < 8 → τ.2 (168 + 10) j = if j = 1 then 1 else 0) → zw_W l G (d + 3) mX9_undoSeries 34 [some (.ref 168), some (.int x1), x2, x3, x4] [] τ P) : ∀ k i τ, i + k = 8 → zL_F (fun q => q = 178) σ τ → (∀ j, j < i → τ.2 (168 + 10) j = if j = 1 then 1 else 0) → zw_W l G (d + 3) mX9_undoSeries 6 [some (.ref 168), some (.int (nI i)), x2, x3, x4] [] τ P := by
  intro k
  induction k with
  | zero =>
    intro i τ hi hF hI
    obtain rfl : i = 8 := by omega
    refine zi_ild1 dX9_undoSeries_6 ?_
    refine zi_bipush (nI 7) dX9_undoSeries_7 (by decide) ?_
    refine zi_icmp_gt 34 dX9_undoSeries_9 (by decide) (fun c9 => ?_) (fun c9 => ?_)
    · exact hk τ _ hF hI
    · exact absurd (by decide) c9
  | succ k ih =>
    intro i τ hi hF hI
    refine zi_ild1 dX9_undoSeries_6 ?_
    refine zi_bipush (nI 7) dX9_undoSeries_7 (by decide) ?_
    refine zi_icmp_gt 34 dX9_undoSeries_9 (by decide) (fun c9 => ?_) (fun c9 => ?_)
    · rw [zn_lt (by omega) (by omega)] at c9; omega
    · refine zi_ald0 dX9_undoSeries_12 ?_
      refine zi_getR dX9_undoSeries_13 flX9_42 rfl (by first | assumption | decide) ?_
      refine zi_ild1 dX9_undoSeries_16 ?_
      refine zi_ild1 dX9_undoSeries_17 ?_
      refine zi_iconst (nI 1) dX9_undoSeries_18 (by decide) ?_
      refine zi_icmp_ne 26 dX9_undoSeries_19 (by decide) (fun c19 => ?_) (fun c19 => ?_)
      · rw [zn_eq (by omega) (by omega)] at c19
        refine zi_lconst 0 dX9_undoSeries_26 (by decide) ?_
        refine zi_lastN i dX9_undoSeries_27 (by first | assumption | decide) rfl (zy_c10 (by omega)) (by decide) ?_
        refine zi_inc1 (nI 1) dX9_undoSeries_28 (by decide) (Nat.le_of_ble_eq_true rfl) rfl ?_
        refine zi_goto 6 dX9_undoSeries_31 (by decide) ?_
        rw [nI_add]
        refine ih (i + 1) _ (by omega) (hF.pL rfl) (fun j hj => ?_)
        by_cases e : j = i
        · subst e; rw [zL_same]
          first
          | (rw [if_pos c19])
          | (rw [if_neg c19])
        · rw [zL_slot e]; exact hI j (by omega)
      · rw [zn_eq (by omega) (by omega)] at c19
        refine zi_lconst 1 dX9_undoSeries_22 (by decide) ?_
        refine zi_goto 27 dX9_undoSeries_23 (by decide) ?_
        refine zi_lastN i dX9_undoSeries_27 (by first | assumption | decide) rfl (zy_c10 (by omega)) (by decide) ?_
        refine zi_inc1 (nI 1) dX9_undoSeries_28 (by decide) (Nat.le_of_ble_eq_true rfl) rfl ?_
        refine zi_goto 6 dX9_undoSeries_31 (by decide) ?_
        rw [nI_add]
        refine ih (i + 1) _ (by omega) (hF.pL rfl) (fun j hj => ?_)
        by_cases e : j = i
        · subst e; rw [zL_same]
          first
          | (rw [if_pos c19])
          | (rw [if_neg c19])
        · rw [zL_slot e]; exact hI j (by omega)
theorem l9_us2 {u : Nat → Int64} {n : Nat} {P : Option Value → zw_S → Prop} {x3 x4 : Option Value} (hu : ∀ i, i < 8 → σ.2 (168 + 10) i = u i) (hk : ∀ τ x2, zL_F (fun q => q = 179) σ τ → (∀ j, j < 8 → τ.2 (168 + 11) j = u j) → zw_W l G (d + 3) mX9_undoSeries 68 [some (.ref 168), some (.int (nI n)), x2, x3, x4] [] τ P) : ∀ k i τ, i + k = 8 → zL_F (fun q => q = 179) σ τ → (∀ j, j < i → τ.2 (168 + 11) j = u j) → zw_W l G (d + 3) mX9_undoSeries 44 [some (.ref 168), some (.int (nI n)), some (.int (nI i)), x3, x4] [] τ P := by
  intro k
  induction k with
  | zero =>
    intro i τ hi hF hI
    obtain rfl : i = 8 := by omega
    refine zi_ild2 dX9_undoSeries_44 ?_
    refine zi_bipush (nI 7) dX9_undoSeries_45 (by decide) ?_
    refine zi_icmp_gt 68 dX9_undoSeries_47 (by decide) (fun c47 => ?_) (fun c47 => ?_)
    · exact hk τ _ hF hI
    · exact absurd (by decide) c47
  | succ k ih =>
    intro i τ hi hF hI
    refine zi_ild2 dX9_undoSeries_44 ?_
    refine zi_bipush (nI 7) dX9_undoSeries_45 (by decide) ?_
    refine zi_icmp_gt 68 dX9_undoSeries_47 (by decide) (fun c47 => ?_) (fun c47 => ?_)
    · rw [zn_lt (by omega) (by omega)] at c47; omega
    · refine zi_ald0 dX9_undoSeries_50 ?_
      refine zi_getR dX9_undoSeries_51 flX9_45 rfl (by first | assumption | decide) ?_
      refine zi_ild2 dX9_undoSeries_54 ?_
      refine zi_ald0 dX9_undoSeries_55 ?_
      refine zi_getR dX9_undoSeries_56 flX9_42 rfl (by first | assumption | decide) ?_
      refine zi_ild2 dX9_undoSeries_59 ?_
      refine zi_laldN i dX9_undoSeries_60 (by first | assumption | decide) rfl (zy_c10 (by omega)) (by decide) ?_
      refine zi_lastN i dX9_undoSeries_61 (by first | assumption | decide) rfl (zy_c11 (by omega)) (by decide) ?_
      refine zi_inc2 (nI 1) dX9_undoSeries_62 (by decide) (Nat.le_of_ble_eq_true rfl) rfl ?_
      refine zi_goto 44 dX9_undoSeries_65 (by decide) ?_
      rw [nI_add]
      refine ih (i + 1) _ (by omega) (hF.pL rfl) (fun j hj => ?_)
      by_cases e : j = i
      · subst e; rw [zL_same, hF.2 (168 + 10) (by omega)]; exact hu j (by omega)
      · rw [zL_slot e]; exact hI j (by omega)
theorem zy_pl.cg {τ : zw_S} {n : Nat} (h : zy_pl σ fa n) (e : τ.2 (168 + 9) = σ.2 (168 + 9)) : zy_pl τ fa n := fun m a b => by rw [e]; exact h m a b
theorem l9_us3 {u : Nat → Int64} {n : Nat} (hn : n < 8) (h0 : u 0 = 0) (hP : zy_pl σ fa 7) (hu : ∀ i, i < 8 → σ.2 (168 + 10) i = u i) {Q : Option Value → zw_S → Prop} (hk : ∀ τ x4, zL_F (fun q => q = 179 ∨ q = 180) σ τ → zw_W l G (d + 3) mX9_undoSeries 105 [some (.ref 168), some (.int (nI n)), some (.long (zk_sum (fun k => zk_P fa (k + 2) * zk_pw u (k + 1) n) (n - 1))), none, some (.int x4)] [] τ Q) : ∀ k j τ, j + k + 1 = n → zL_F (fun q => q = 179 ∨ q = 180) σ τ → (∀ i, i < 8 → τ.2 (168 + 11) i = zk_pw u j i) → zw_W l G (d + 3) mX9_undoSeries 73 [some (.ref 168), some (.int (nI n)), some (.long (zk_sum (fun k => zk_P fa (k + 2) * zk_pw u (k + 1) n) j)), none, some (.int (nI (j + 2)))] [] τ Q := by
  intro k
  induction k with
  | zero =>
    intro j τ hj hF hI
    refine zi_ild4 dX9_undoSeries_73 ?_
    refine zi_ild1 dX9_undoSeries_75 ?_
    refine zi_icmp_gt 105 dX9_undoSeries_76 (by decide) (fun c76 => ?_) (fun c76 => ?_)
    · have := hk τ (nI (j + 2)) hF
      rw [show n - 1 = j by omega] at this
      exact this
    · rw [zn_lt (by omega) (by omega)] at c76; omega
  | succ k ih =>
    intro j τ hj hF hI
    refine zi_ild4 dX9_undoSeries_73 ?_
    refine zi_ild1 dX9_undoSeries_75 ?_
    refine zi_icmp_gt 105 dX9_undoSeries_76 (by decide) (fun c76 => ?_) (fun c76 => ?_)
    · rw [zn_lt (by omega) (by omega)] at c76; omega
    · refine zi_ald0 dX9_undoSeries_79 ?_
      refine zi_cV0v vmX9_powerUp lkX9_130 dX9_undoSeries_80 (by first | assumption | decide) (Nat.le_of_ble_eq_true rfl) (c9_powerUp (u := u) (p := zk_pw u j) h0 (fun i hi => by rw [hF.2 (168 + 10) (by omega)]; exact hu i hi) hI) ?_
      rintro τ2 ⟨hI2, hF2⟩
      replace hF2 := hF.tr (C := fun q => q = 179 ∨ q = 180) hF2 (fun _ q => q) (fun _ q => q)
      refine zi_lld2 dX9_undoSeries_83 ?_
      refine zi_ald0 dX9_undoSeries_84 ?_
      refine zi_ild4 dX9_undoSeries_85 ?_
      refine zi_cV1l vmX9_plainOf lkX9_133 dX9_undoSeries_87 (by first | assumption | decide) (Nat.le_of_ble_eq_true rfl) (c9_plainOf (m := j + 2) (hP.cg (hF2.2 (168 + 9) (by omega))) (by omega) (by omega)) ?_
      rintro _ _ ⟨rfl, rfl⟩
      refine zi_ald0 dX9_undoSeries_90 ?_
      refine zi_getR dX9_undoSeries_91 flX9_45 rfl (by first | assumption | decide) ?_
      refine zi_ild1 dX9_undoSeries_94 ?_
      refine zi_laldN n dX9_undoSeries_95 (by first | assumption | decide) rfl (zy_c11 (by omega)) (by decide) ?_
      refine zi_lmul dX9_undoSeries_96 ?_
      refine zi_ladd dX9_undoSeries_97 ?_
      refine zi_lst2 dX9_undoSeries_98 (Nat.le_of_ble_eq_true rfl) rfl ?_
      refine zi_inc4 (nI 1) dX9_undoSeries_99 (by decide) (Nat.le_of_ble_eq_true rfl) rfl ?_
      refine zi_goto 73 dX9_undoSeries_102 (by decide) ?_
      rw [nI_add, hI2 n hn]
      exact ih (j + 1) τ2 (by omega) hF2 hI2
theorem l9_us4 (hP : zy_pl σ fa 7) : ∀ k m τ x2 x3 x4, m + k = 6 → zL_F (fun q => 178 ≤ q ∧ q < 181) σ τ → (∀ i, i < 8 → τ.2 (168 + 10) i = zk_un (zk_P fa) m i) → zw_W l G (d + 3) mX9_undoSeries 36 [some (.ref 168), some (.int (nI (m + 2))), x2, x3, x4] [] τ (fun x υ => x = none ∧ (∀ i, i < 8 → υ.2 (168 + 10) i = zk_un (zk_P fa) 6 i) ∧ zL_F (fun q => 178 ≤ q ∧ q < 181) σ υ) := by
  intro k
  induction k with
  | zero =>
    intro m τ x2 x3 x4 hm hF hI
    obtain rfl : m = 6 := by omega
    refine zi_ild1 dX9_undoSeries_36 ?_
    refine zi_bipush (nI 7) dX9_undoSeries_37 (by decide) ?_
    refine zi_icmp_gt 119 dX9_undoSeries_39 (by decide) (fun c39 => ?_) (fun c39 => ?_)
    · refine zi_ret dX9_undoSeries_119 rfl ?_
      exact ⟨rfl, hI, hF⟩
    · exact absurd (by decide) c39
  | succ k ih =>
    intro m τ x2 x3 x4 hm hF hI
    refine zi_ild1 dX9_undoSeries_36 ?_
    refine zi_bipush (nI 7) dX9_undoSeries_37 (by decide) ?_
    refine zi_icmp_gt 119 dX9_undoSeries_39 (by decide) (fun c39 => ?_) (fun c39 => ?_)
    · rw [zn_lt (by omega) (by omega)] at c39; omega
    · refine zi_iconst (nI 0) dX9_undoSeries_42 (by decide) ?_
      refine zi_ist2 dX9_undoSeries_43 (Nat.le_of_ble_eq_true rfl) rfl ?_
      refine l9_us2 (σ := τ) (u := zk_un (zk_P fa) m) (n := m + 2) hI ?_ 8 0 τ rfl zL_F.rf (fun j hj => by omega)
      intro τ1 y2 hF1 hI1
      have hF1' : zL_F (fun q => 178 ≤ q ∧ q < 181) σ τ1 := hF.tr hF1 (fun _ q => q) (fun o q => by omega)
      refine zi_lconst 0 dX9_undoSeries_68 (by decide) ?_
      refine zi_lst2 dX9_undoSeries_69 (Nat.le_of_ble_eq_true rfl) rfl ?_
      refine zi_iconst (nI 2) dX9_undoSeries_70 (by decide) ?_
      refine zi_ist4 dX9_undoSeries_71 (Nat.le_of_ble_eq_true rfl) rfl ?_
      refine l9_us3 (σ := τ1) (u := zk_un (zk_P fa) m) (n := m + 2) (by omega) (zk_un_0 _ m) (hP.cg (hF1'.2 (168 + 9) (by omega))) (fun i hi => by rw [hF1.2 (168 + 10) (by omega)]; exact hI i hi) ?_ (m + 1) 0 τ1 (by omega) zL_F.rf hI1
      intro τ2 y4 hF2
      have hF2' : zL_F (fun q => 178 ≤ q ∧ q < 181) σ τ2 := hF1'.tr hF2 (fun _ q => q) (fun o q => by omega)
      refine zi_ald0 dX9_undoSeries_105 ?_
      refine zi_getR dX9_undoSeries_106 flX9_42 rfl (by first | assumption | decide) ?_
      refine zi_ild1 dX9_undoSeries_109 ?_
      refine zi_lld2 dX9_undoSeries_110 ?_
      refine zi_lneg dX9_undoSeries_111 ?_
      refine zi_lastN (m + 2) dX9_undoSeries_112 (by first | assumption | decide) rfl (zy_c10 (by omega)) (by decide) ?_
      refine zi_inc1 (nI 1) dX9_undoSeries_113 (by decide) (Nat.le_of_ble_eq_true rfl) rfl ?_
      refine zi_goto 36 dX9_undoSeries_116 (by decide) ?_
      rw [nI_add]
      refine ih (m + 1) _ _ _ _ (by omega) (hF2'.pL (by omega)) (fun i hi => ?_)
      by_cases e : i = m + 2
      · subst e
        rw [zL_same, zk_un]
        simp only
        rw [if_pos trivial]
        rfl
      · rw [zL_slot e, hF2.2 (168 + 10) (by omega), hF1.2 (168 + 10) (by omega), hI i hi, zk_un]
        simp only
        rw [if_neg e]
theorem c9_undoSeries (hR : zy_r σ 0 fa go) : zw_Tv l G (d + 3) mX9_undoSeries [.ref 168] σ (fun υ => (∀ i, i < 8 → υ.2 (168 + 10) i = zk_un (zk_P fa) 6 i) ∧ zL_F zy_LA σ υ) := by
  refine zw_enter2 (L := [some _, none, none, none, none]) (by decide) (Nat.le_of_ble_eq_true rfl) rfl ?_
  refine zi_ald0 dX9_undoSeries_0 ?_
  refine zi_cV0v vmX9_countPlains lkX9_127 dX9_undoSeries_1 (by first | assumption | decide) (Nat.le_of_ble_eq_true rfl) (c9_countPlains hR) ?_
  rintro τ1 ⟨hP1, hF1⟩
  refine zi_iconst (nI 0) dX9_undoSeries_4 (by decide) ?_
  refine zi_ist1 dX9_undoSeries_5 (Nat.le_of_ble_eq_true rfl) rfl ?_
  refine l9_us1 (σ := τ1) ?_ 8 0 τ1 rfl zL_F.rf (fun j hj => by omega)
  intro τ2 y1 hF2 hI2
  refine zi_iconst (nI 2) dX9_undoSeries_34 (by decide) ?_
  refine zi_ist1 dX9_undoSeries_35 (Nat.le_of_ble_eq_true rfl) rfl ?_
  refine zw_W.mono (l9_us4 (σ := τ1) hP1 6 0 τ2 _ _ _ rfl (hF2.mono (fun o q => by omega)) hI2) ?_
  rintro x υ ⟨e1, e2, e3⟩
  exact ⟨e1, e2, hF1.tr e3 (fun _ q => q) (fun o q => by unfold zy_LA; omega)⟩
theorem c9_in_out {v a b : Int32} (h : v < a ∨ b < v) : zw_Ti l G (d + 1) mX9_in [.int v, .int a, .int b] σ (fun x τ => σ = τ ∧ x = nI 0) := by
  refine c9_in.mono ?_
  rintro r τ ⟨x, e, h1, h2⟩
  refine ⟨x, e, h1, ?_⟩
  rw [h2, if_neg]
  rintro ⟨q1, q2⟩
  rcases h with h | h
  · exact absurd q1 (Int32.not_le.mpr h)
  · exact absurd q2 (Int32.not_le.mpr h)
theorem c9_in_in {n a b : Nat} (h1 : a ≤ n) (h2 : n ≤ b) (hb : b < 2147483648) : zw_Ti l G (d + 1) mX9_in [.int (nI n), .int (nI a), .int (nI b)] σ (fun x τ => σ = τ ∧ x = nI 1) := by
  refine c9_in.mono ?_
  rintro r τ ⟨x, e, h3, h4⟩
  refine ⟨x, e, h3, ?_⟩
  rw [h4, if_pos ⟨by rw [zn_le (by omega) (by omega)]; exact h1, by rw [zn_le (by omega) (by omega)]; exact h2⟩]
end Z36
