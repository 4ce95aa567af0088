/-! the class's Rules: an object r, its fates r + 1, its goals r + 2 -/
/-- the shape of a Rules object -/
def zr_ok (r : Nat) : Prop := zw_kd r = 4 ∧ zw_kd (r + 1) = 10 ∧ zw_kd (r + 2) = 10 ∧ zw_ln (r + 1) = 8 ∧ zw_ln (r + 2) = 8
/-- it holds fates fa and goals go (8: none) -/
def zr_V (σ : zw_S) (r : Nat) (fa go : Nat → Nat) : Prop := ∀ p, p < 8 → fa p < 4 ∧ go p ≤ 8 ∧ (2 ≤ fa p ↔ go p < 8) ∧ σ.1 (r + 1) p = nI (fa p) ∧ σ.1 (r + 2) p = zp_gI (go p)
/-- who becomes q, looked for from 8 - n on: 8, none -/
def zr_mk (go : Nat → Nat) (q : Nat) : Nat → Nat
  | 0 => 8
  | n + 1 => if go (7 - n) = q then 7 - n else zr_mk go q n
theorem zr_mk_le (go : Nat → Nat) (q : Nat) : ∀ n, zr_mk go q n ≤ 8
  | 0 => Nat.le_refl 8
  | n + 1 => by
    unfold zr_mk
    split
    · omega
    · exact zr_mk_le go q n
/-- may pattern p have fate v, and become q -/
def zr_al (fa go : Nat → Nat) (p v q : Nat) : Bool := v == 0 || (zr_mk go p 8 == 8 && (v == 1 || (q != p && (fa q == 0 && (zr_mk go q 8 == 8 || zr_mk go q 8 == p)))))
/-- the dual's fate of p -/
def zr_df (fa go : Nat → Nat) (p : Nat) : Nat := if fa p = 0 then (if zr_mk go p 8 = 8 then 1 else 0) else if fa p = 1 then 0 else if p % 2 = go p % 2 then 5 - fa p else fa p
def zr_bd (fa : Nat → Nat) : Nat → Nat
  | 0 => 0
  | n + 1 => zr_bd fa n + (if fa n = 0 then 0 else 1)
theorem zr_bd_le (fa : Nat → Nat) : ∀ n, zr_bd fa n ≤ n
  | 0 => Nat.le_refl 0
  | n + 1 => by
    have := zr_bd_le fa n
    unfold zr_bd
    split <;> omega
def zr_up (f : Nat → Nat) (k v : Nat) : Nat → Nat := fun j => if j = k then v else f j
section Z10
variable {l : Launch} {G : zw_G} {d : Nat} {σ : zw_S} {r : Nat} {fa go : Nat → Nat}
theorem zr_V.f (h : zr_V σ r fa go) {p : Nat} (hp : p < 8) : σ.1 (r + 1) p = nI (fa p) := (h p hp).2.2.2.1
theorem zr_V.g (h : zr_V σ r fa go) {p : Nat} (hp : p < 8) : σ.1 (r + 2) p = zp_gI (go p) := (h p hp).2.2.2.2
theorem zr_V.cg {τ : zw_S} (h : zr_V σ r fa go) (h1 : τ.1 (r + 1) = σ.1 (r + 1)) (h2 : τ.1 (r + 2) = σ.1 (r + 2)) : zr_V τ r fa go := fun p hp => by rw [h1, h2]; exact h p hp
theorem c4_isPattern_in {p : Nat} (hp : p < 8) : zw_Ti l G (d + 1) mX4_isPattern [.int (nI p)] σ (fun r s => σ = s ∧ r = nI 1) := by
  refine zw_enter2 (L := [some _]) (by decide) (Nat.le_of_ble_eq_true rfl) rfl ?_
  refine zi_ild0 dX4_isPattern_0 ?_
  refine zi_if_lt 14 dX4_isPattern_1 (by decide) (fun c1 => ?_) (fun c1 => ?_)
  · rw [zn_0, zn_neg p (by omega)] at c1; exact c1.elim
  · refine zi_ild0 dX4_isPattern_4 ?_
    refine zi_bipush (nI 8) dX4_isPattern_5 (by decide) ?_
    refine zi_icmp_ge 14 dX4_isPattern_7 (by decide) (fun c7 => ?_) (fun c7 => ?_)
    · rw [zn_le (by omega) (by omega)] at c7; omega
    · refine zi_iconst (nI 1) dX4_isPattern_10 (by decide) ?_
      refine zi_goto 15 dX4_isPattern_11 (by decide) ?_
      refine zi_zret dX4_isPattern_15 rfl (by decide) ?_
      exact ⟨_, rfl, rfl, rfl⟩
theorem c4_isPattern_out {p : Int32} (hp : zn_out p 8) : zw_Ti l G (d + 1) mX4_isPattern [.int p] σ (fun r s => σ = s ∧ r = nI 0) := by
  refine zw_enter2 (L := [some _]) (by decide) (Nat.le_of_ble_eq_true rfl) rfl ?_
  refine zi_ild0 dX4_isPattern_0 ?_
  refine zi_if_lt 14 dX4_isPattern_1 (by decide) (fun c1 => ?_) (fun c1 => ?_)
  · refine zi_iconst (nI 0) dX4_isPattern_14 (by decide) ?_
    refine zi_zret dX4_isPattern_15 rfl (by decide) ?_
    exact ⟨_, rfl, rfl, rfl⟩
  · refine zi_ild0 dX4_isPattern_4 ?_
    refine zi_bipush (nI 8) dX4_isPattern_5 (by decide) ?_
    refine zi_icmp_ge 14 dX4_isPattern_7 (by decide) (fun c7 => ?_) (fun c7 => ?_)
    · refine zi_iconst (nI 0) dX4_isPattern_14 (by decide) ?_
      refine zi_zret dX4_isPattern_15 rfl (by decide) ?_
      exact ⟨_, rfl, rfl, rfl⟩
    · rcases hp with h | h
      · exact absurd h c1
      · exact absurd h c7
theorem c4_sideOf {p : Nat} (hp : p < 8) : zw_Ti l G (d + 1) mX4_sideOf [.int (nI p)] σ (fun r s => σ = s ∧ r = nI (p % 2)) := by
  refine zw_enter2 (L := [some _]) (by decide) (Nat.le_of_ble_eq_true rfl) rfl ?_
  refine zi_ild0 dX4_sideOf_0 ?_
  refine zi_iconst (nI 1) dX4_sideOf_1 (by decide) ?_
  refine zi_iand dX4_sideOf_2 ?_
  refine zi_iret dX4_sideOf_3 rfl ?_
  refine ⟨_, rfl, rfl, ?_⟩
  exact pk_andN (by omega) (m := nI 1) 1 rfl
theorem c4_fateOf (ho : zr_ok r) (h : zr_V σ r fa go) {p : Nat} (hp : p < 8) : zw_Ti l G (d + 2) mX4_fateOf [.ref r, .int (nI p)] σ (fun x s => σ = s ∧ x = nI (fa p)) := by
  obtain ⟨k0, k1, k2, l1, l2⟩ := ho
  refine zw_enter2 (L := [some _, some _]) (by decide) (Nat.le_of_ble_eq_true rfl) rfl ?_
  refine zi_ild1 dX4_fateOf_0 ?_
  refine zi_cS1i smX4_isPattern lkX4_24 dX4_fateOf_1 (Nat.le_of_ble_eq_true rfl) (c4_isPattern_in hp) ?_
  rintro _ _ ⟨rfl, rfl⟩
  refine zi_if_eq 16 dX4_fateOf_4 (by decide) (fun c4 => ?_) (fun c4 => ?_)
  · exact absurd c4 (by decide)
  · refine zi_ald0 dX4_fateOf_7 ?_
    refine zi_getR dX4_fateOf_8 flX4_9 rfl (by first | assumption | decide) ?_
    refine zi_ild1 dX4_fateOf_11 ?_
    refine zi_ialdN _ dX4_fateOf_12 (by first | assumption | decide) rfl (by omega) (by omega) ?_
    refine zi_goto 17 dX4_fateOf_13 (by decide) ?_
    refine zi_iret dX4_fateOf_17 rfl ?_
    exact ⟨_, rfl, rfl, h.f hp⟩
theorem c4_fateOf_out (ho : zr_ok r) {p : Int32} (hp : zn_out p 8) : zw_Ti l G (d + 2) mX4_fateOf [.ref r, .int p] σ (fun x s => σ = s ∧ x = nI 0) := by
  obtain ⟨k0, k1, k2, l1, l2⟩ := ho
  refine zw_enter2 (L := [some _, some _]) (by decide) (Nat.le_of_ble_eq_true rfl) rfl ?_
  refine zi_ild1 dX4_fateOf_0 ?_
  refine zi_cS1i smX4_isPattern lkX4_24 dX4_fateOf_1 (Nat.le_of_ble_eq_true rfl) (c4_isPattern_out hp) ?_
  rintro _ _ ⟨rfl, rfl⟩
  refine zi_if_eq 16 dX4_fateOf_4 (by decide) (fun c4 => ?_) (fun c4 => ?_)
  · refine zi_iconst (nI 0) dX4_fateOf_16 (by decide) ?_
    refine zi_iret dX4_fateOf_17 rfl ?_
    exact ⟨_, rfl, rfl, rfl⟩
  · exact absurd rfl c4
theorem c4_goalOf (ho : zr_ok r) (h : zr_V σ r fa go) {p : Nat} (hp : p < 8) : zw_Ti l G (d + 2) mX4_goalOf [.ref r, .int (nI p)] σ (fun x s => σ = s ∧ x = zp_gI (go p)) := by
  obtain ⟨k0, k1, k2, l1, l2⟩ := ho
  refine zw_enter2 (L := [some _, some _]) (by decide) (Nat.le_of_ble_eq_true rfl) rfl ?_
  refine zi_ild1 dX4_goalOf_0 ?_
  refine zi_cS1i smX4_isPattern lkX4_24 dX4_goalOf_1 (Nat.le_of_ble_eq_true rfl) (c4_isPattern_in hp) ?_
  rintro _ _ ⟨rfl, rfl⟩
  refine zi_if_eq 16 dX4_goalOf_4 (by decide) (fun c4 => ?_) (fun c4 => ?_)
  · exact absurd c4 (by decide)
  · refine zi_ald0 dX4_goalOf_7 ?_
    refine zi_getR dX4_goalOf_8 flX4_15 rfl (by first | assumption | decide) ?_
    refine zi_ild1 dX4_goalOf_11 ?_
    refine zi_ialdN _ dX4_goalOf_12 (by first | assumption | decide) rfl (by omega) (by omega) ?_
    refine zi_goto 17 dX4_goalOf_13 (by decide) ?_
    refine zi_iret dX4_goalOf_17 rfl ?_
    exact ⟨_, rfl, rfl, h.g hp⟩
theorem l4_makerOf (ho : zr_ok r) (h : zr_V σ r fa go) {q : Nat} (hq : q < 8) : ∀ n i, i + n = 8 → zw_W l G (d + 2) mX4_makerOf 2 [some (.ref r), some (.int (nI q)), some (.int (nI i))] [] σ (fun x s => ∃ y, x = some (.int y) ∧ σ = s ∧ y = zp_gI (zr_mk go q n)) := by
  obtain ⟨k0, k1, k2, l1, l2⟩ := ho
  intro n
  induction n with
  | zero =>
    intro i hi
    refine zi_ild2 dX4_makerOf_2 ?_
    refine zi_bipush (nI 8) dX4_makerOf_3 (by decide) ?_
    refine zi_icmp_ge 33 dX4_makerOf_5 (by decide) (fun c5 => ?_) (fun c5 => ?_)
    · refine zi_iconst (-1) dX4_makerOf_33 (by decide) ?_
      refine zi_iret dX4_makerOf_34 rfl ?_
      exact ⟨_, rfl, rfl, rfl⟩
    · rw [zn_le (by omega) (by omega)] at c5; omega
  | succ n ih =>
    intro i hi
    have hi7 : i = 7 - n := by omega
    refine zi_ild2 dX4_makerOf_2 ?_
    refine zi_bipush (nI 8) dX4_makerOf_3 (by decide) ?_
    refine zi_icmp_ge 33 dX4_makerOf_5 (by decide) (fun c5 => ?_) (fun c5 => ?_)
    · rw [zn_le (by omega) (by omega)] at c5; omega
    · refine zi_ild1 dX4_makerOf_8 ?_
      refine zi_cS1i smX4_isPattern lkX4_24 dX4_makerOf_9 (Nat.le_of_ble_eq_true rfl) (c4_isPattern_in hq) ?_
      rintro _ _ ⟨rfl, rfl⟩
      refine zi_if_eq 27 dX4_makerOf_12 (by decide) (fun c12 => ?_) (fun c12 => ?_)
      · exact absurd c12 (by decide)
      · refine zi_ald0 dX4_makerOf_15 ?_
        refine zi_getR dX4_makerOf_16 flX4_15 rfl (by first | assumption | decide) ?_
        refine zi_ild2 dX4_makerOf_19 ?_
        refine zi_ialdN _ dX4_makerOf_20 (by first | assumption | decide) rfl (by omega) (by omega) ?_
        rw [h.g (show i < 8 by omega)]
        refine zi_ild1 dX4_makerOf_21 ?_
        refine zi_icmp_ne 27 dX4_makerOf_22 (by decide) (fun c22 => ?_) (fun c22 => ?_)
        · rw [zp_gI_eq hq] at c22
          refine zi_inc2 (nI 1) dX4_makerOf_27 (by decide) (Nat.le_of_ble_eq_true rfl) rfl ?_
          refine zi_goto 2 dX4_makerOf_30 (by decide) ?_
          have := ih (i + 1) (by omega)
          unfold zr_mk
          rw [← hi7, if_neg c22, nI_add]
          exact this
        · rw [zp_gI_eq hq] at c22
          refine zi_ild2 dX4_makerOf_25 ?_
          refine zi_iret dX4_makerOf_26 rfl ?_
          refine ⟨_, rfl, rfl, ?_⟩
          unfold zr_mk
          rw [← hi7, if_pos c22, zp_gI_lt (by omega)]
theorem c4_makerOf (ho : zr_ok r) (h : zr_V σ r fa go) {q : Nat} (hq : q < 8) : zw_Ti l G (d + 2) mX4_makerOf [.ref r, .int (nI q)] σ (fun x s => σ = s ∧ x = zp_gI (zr_mk go q 8)) := by
  refine zw_enter2 (L := [some _, some _, none]) (by decide) (Nat.le_of_ble_eq_true rfl) rfl ?_
  refine zi_iconst (nI 0) dX4_makerOf_0 (by decide) ?_
  refine zi_ist2 dX4_makerOf_1 (Nat.le_of_ble_eq_true rfl) rfl ?_
  exact l4_makerOf ho h hq 8 0 rfl
theorem c4_put (ho : zr_ok r) {p v : Nat} {y : Int32} (hp : p < 8) (hv : v < 4) : zw_Tv l G (d + 2) mX4_put [.ref r, .int (nI p), .int (nI v), .int y] σ (fun s => s = zw_pI (zw_pI σ (r + 1) p (nI v)) (r + 2) p (if v < 2 then -1 else y)) := by
  obtain ⟨k0, k1, k2, l1, l2⟩ := ho
  refine zw_enter2 (L := [some _, some _, some _, some _]) (by decide) (Nat.le_of_ble_eq_true rfl) rfl ?_
  refine zi_ild1 dX4_put_0 ?_
  refine zi_cS1i smX4_isPattern lkX4_24 dX4_put_1 (Nat.le_of_ble_eq_true rfl) (c4_isPattern_in hp) ?_
  rintro _ _ ⟨rfl, rfl⟩
  refine zi_if_eq 30 dX4_put_4 (by decide) (fun c4 => ?_) (fun c4 => ?_)
  · exact absurd c4 (by decide)
  · refine zi_ald0 dX4_put_7 ?_
    refine zi_getR dX4_put_8 flX4_9 rfl (by first | assumption | decide) ?_
    refine zi_ild1 dX4_put_11 ?_
    refine zi_ild2 dX4_put_12 ?_
    refine zi_iastN _ dX4_put_13 (by first | assumption | decide) rfl (by omega) (by omega) ?_
    refine zi_ald0 dX4_put_14 ?_
    refine zi_getR dX4_put_15 flX4_15 rfl (by first | assumption | decide) ?_
    refine zi_ild1 dX4_put_18 ?_
    refine zi_ild2 dX4_put_19 ?_
    refine zi_iconst (nI 2) dX4_put_20 (by decide) ?_
    refine zi_icmp_lt 28 dX4_put_21 (by decide) (fun c21 => ?_) (fun c21 => ?_)
    · rw [zn_lt (by omega) (by omega)] at c21
      refine zi_iconst (-1) dX4_put_28 (by decide) ?_
      refine zi_iastN _ dX4_put_29 (by first | assumption | decide) rfl (by omega) (by omega) ?_
      refine zi_ret dX4_put_30 rfl ?_
      exact ⟨rfl, by first | rw [if_pos c21] | rw [if_neg c21]⟩
    · rw [zn_lt (by omega) (by omega)] at c21
      refine zi_ild3 dX4_put_24 ?_
      refine zi_goto 29 dX4_put_25 (by decide) ?_
      refine zi_iastN _ dX4_put_29 (by first | assumption | decide) rfl (by omega) (by omega) ?_
      refine zi_ret dX4_put_30 rfl ?_
      exact ⟨rfl, by first | rw [if_pos c21] | rw [if_neg c21]⟩
theorem c4_allows (ho : zr_ok r) (h : zr_V σ r fa go) {p v q : Nat} {y : Int32} (hp : p < 8) (hv : v < 4) (hq : q < 8) (hy : 2 ≤ v → y = nI q) : zw_Ti l G (d + 3) mX4_allows [.ref r, .int (nI p), .int (nI v), .int y] σ (fun x s => σ = s ∧ x = if zr_al fa go p v q then nI 1 else nI 0) := by
  have k0 := ho.1
  have m1 := zr_mk_le go p 8
  have m2 := zr_mk_le go q 8
  refine zw_enter2 (L := [some _, some _, some _, some _, none]) (by decide) (Nat.le_of_ble_eq_true rfl) rfl ?_
  refine zi_ild2 dX4_allows_0 ?_
  refine zi_if_ne 6 dX4_allows_1 (by decide) (fun c1 => ?_) (fun c1 => ?_)
  · rw [zn_0, zn_eq (by omega) (by omega)] at c1
    refine zi_ald0 dX4_allows_6 ?_
    refine zi_ild1 dX4_allows_7 ?_
    refine zi_cV1i vmX4_makerOf lkX4_28 dX4_allows_8 (by first | assumption | decide) (Nat.le_of_ble_eq_true rfl) (c4_makerOf ho h hp) ?_
    rintro _ _ ⟨rfl, rfl⟩
    refine zi_iconst (-1) dX4_allows_11 (by decide) ?_
    refine zi_icmp_eq 17 dX4_allows_12 (by decide) (fun c12 => ?_) (fun c12 => ?_)
    · rw [zp_gI_m1] at c12
      refine zi_ild2 dX4_allows_17 ?_
      refine zi_iconst (nI 1) dX4_allows_18 (by decide) ?_
      refine zi_icmp_ne 24 dX4_allows_19 (by decide) (fun c19 => ?_) (fun c19 => ?_)
      · rw [zn_eq (by omega) (by omega)] at c19
        obtain rfl := hy (by omega)
        have e0 : zr_mk go p 8 = 8 := by omega
        refine zi_ald0 dX4_allows_24 ?_
        refine zi_ild3 dX4_allows_25 ?_
        refine zi_cV1i vmX4_makerOf lkX4_28 dX4_allows_26 (by first | assumption | decide) (Nat.le_of_ble_eq_true rfl) (c4_makerOf ho h hq) ?_
        rintro _ _ ⟨rfl, rfl⟩
        refine zi_ist4 dX4_allows_29 (Nat.le_of_ble_eq_true rfl) rfl ?_
        refine zi_ild3 dX4_allows_31 ?_
        refine zi_ild1 dX4_allows_32 ?_
        refine zi_icmp_eq 60 dX4_allows_33 (by decide) (fun c33 => ?_) (fun c33 => ?_)
        · refine zi_iconst (nI 0) dX4_allows_60 (by decide) ?_
          refine zi_zret dX4_allows_61 rfl (by decide) ?_
          refine ⟨_, rfl, rfl, ?_⟩
          have hf := (h q hq).1
          simp only [zn_0, zp_gI_m1, zn_eq (show q < 2147483648 by omega) (show p < 2147483648 by omega), zn_eq (show fa q < 2147483648 by omega) (show 0 < 2147483648 by omega), zp_gI_eq hp] at *
          have e1 : ¬ v = 0 := c1
          have e2 : ¬ v = 1 := c19
          simp only [zr_al, e1, e2, e0]
          simp_all
          try omega
        · refine zi_ald0 dX4_allows_36 ?_
          refine zi_ild3 dX4_allows_37 ?_
          refine zi_cV1i vmX4_fateOf lkX4_32 dX4_allows_38 (by first | assumption | decide) (Nat.le_of_ble_eq_true rfl) (c4_fateOf ho h hq) ?_
          rintro _ _ ⟨rfl, rfl⟩
          refine zi_if_ne 60 dX4_allows_41 (by decide) (fun c41 => ?_) (fun c41 => ?_)
          · refine zi_iconst (nI 0) dX4_allows_60 (by decide) ?_
            refine zi_zret dX4_allows_61 rfl (by decide) ?_
            refine ⟨_, rfl, rfl, ?_⟩
            have hf := (h q hq).1
            simp only [zn_0, zp_gI_m1, zn_eq (show q < 2147483648 by omega) (show p < 2147483648 by omega), zn_eq (show fa q < 2147483648 by omega) (show 0 < 2147483648 by omega), zp_gI_eq hp] at *
            have e1 : ¬ v = 0 := c1
            have e2 : ¬ v = 1 := c19
            simp only [zr_al, e1, e2, e0]
            simp_all
            try omega
          · refine zi_ild4 dX4_allows_44 ?_
            refine zi_iconst (-1) dX4_allows_46 (by decide) ?_
            refine zi_icmp_eq 56 dX4_allows_47 (by decide) (fun c47 => ?_) (fun c47 => ?_)
            · refine zi_iconst (nI 1) dX4_allows_56 (by decide) ?_
              refine zi_goto 61 dX4_allows_57 (by decide) ?_
              refine zi_zret dX4_allows_61 rfl (by decide) ?_
              refine ⟨_, rfl, rfl, ?_⟩
              have hf := (h q hq).1
              simp only [zn_0, zp_gI_m1, zn_eq (show q < 2147483648 by omega) (show p < 2147483648 by omega), zn_eq (show fa q < 2147483648 by omega) (show 0 < 2147483648 by omega), zp_gI_eq hp] at *
              have e1 : ¬ v = 0 := c1
              have e2 : ¬ v = 1 := c19
              simp only [zr_al, e1, e2, e0]
              simp_all
              try omega
            · refine zi_ild4 dX4_allows_50 ?_
              refine zi_ild1 dX4_allows_52 ?_
              refine zi_icmp_ne 60 dX4_allows_53 (by decide) (fun c53 => ?_) (fun c53 => ?_)
              · refine zi_iconst (nI 0) dX4_allows_60 (by decide) ?_
                refine zi_zret dX4_allows_61 rfl (by decide) ?_
                refine ⟨_, rfl, rfl, ?_⟩
                have hf := (h q hq).1
                simp only [zn_0, zp_gI_m1, zn_eq (show q < 2147483648 by omega) (show p < 2147483648 by omega), zn_eq (show fa q < 2147483648 by omega) (show 0 < 2147483648 by omega), zp_gI_eq hp] at *
                have e1 : ¬ v = 0 := c1
                have e2 : ¬ v = 1 := c19
                simp only [zr_al, e1, e2, e0]
                simp_all
                try omega
              · refine zi_iconst (nI 1) dX4_allows_56 (by decide) ?_
                refine zi_goto 61 dX4_allows_57 (by decide) ?_
                refine zi_zret dX4_allows_61 rfl (by decide) ?_
                refine ⟨_, rfl, rfl, ?_⟩
                have hf := (h q hq).1
                simp only [zn_0, zp_gI_m1, zn_eq (show q < 2147483648 by omega) (show p < 2147483648 by omega), zn_eq (show fa q < 2147483648 by omega) (show 0 < 2147483648 by omega), zp_gI_eq hp] at *
                have e1 : ¬ v = 0 := c1
                have e2 : ¬ v = 1 := c19
                simp only [zr_al, e1, e2, e0]
                simp_all
                try omega
      · rw [zn_eq (by omega) (by omega)] at c19
        refine zi_iconst (nI 1) dX4_allows_22 (by decide) ?_
        refine zi_zret dX4_allows_23 rfl (by decide) ?_
        refine ⟨_, rfl, rfl, ?_⟩
        have e : zr_mk go p 8 = 8 := by omega
        simp [zr_al, c19, e]
    · rw [zp_gI_m1] at c12
      refine zi_iconst (nI 0) dX4_allows_15 (by decide) ?_
      refine zi_zret dX4_allows_16 rfl (by decide) ?_
      refine ⟨_, rfl, rfl, ?_⟩
      have e : zr_mk go p 8 ≠ 8 := by omega
      simp [zr_al, c1, e]
  · rw [zn_0, zn_eq (by omega) (by omega)] at c1
    refine zi_iconst (nI 1) dX4_allows_4 (by decide) ?_
    refine zi_zret dX4_allows_5 rfl (by decide) ?_
    refine ⟨_, rfl, rfl, ?_⟩
    simp [zr_al, c1]
theorem l4_bound (ho : zr_ok r) (h : zr_V σ r fa go) : ∀ n i, i + n = 8 → zw_W l G (d + 1) mX4_bound 4 [some (.ref r), some (.int (nI (zr_bd fa i))), some (.int (nI i))] [] σ (fun x s => ∃ y, x = some (.int y) ∧ σ = s ∧ y = nI (zr_bd fa 8)) := by
  obtain ⟨k0, k1, k2, l1, l2⟩ := ho
  intro n
  induction n with
  | zero =>
    intro i hi
    obtain rfl : i = 8 := by omega
    refine zi_ild2 dX4_bound_4 ?_
    refine zi_bipush (nI 8) dX4_bound_5 (by decide) ?_
    refine zi_icmp_ge 28 dX4_bound_7 (by decide) (fun c7 => ?_) (fun c7 => ?_)
    · refine zi_ild1 dX4_bound_28 ?_
      refine zi_iret dX4_bound_29 rfl ?_
      exact ⟨_, rfl, rfl, rfl⟩
    · exact absurd (by decide) c7
  | succ n ih =>
    intro i hi
    have hf := (h i (by omega)).1
    refine zi_ild2 dX4_bound_4 ?_
    refine zi_bipush (nI 8) dX4_bound_5 (by decide) ?_
    refine zi_icmp_ge 28 dX4_bound_7 (by decide) (fun c7 => ?_) (fun c7 => ?_)
    · rw [zn_le (by omega) (by omega)] at c7; omega
    · refine zi_ald0 dX4_bound_10 ?_
      refine zi_getR dX4_bound_11 flX4_9 rfl (by first | assumption | decide) ?_
      refine zi_ild2 dX4_bound_14 ?_
      refine zi_ialdN _ dX4_bound_15 (by first | assumption | decide) rfl (by omega) (by omega) ?_
      rw [h.f (show i < 8 by omega)]
      refine zi_if_eq 22 dX4_bound_16 (by decide) (fun c16 => ?_) (fun c16 => ?_)
      · refine zi_inc2 (nI 1) dX4_bound_22 (by decide) (Nat.le_of_ble_eq_true rfl) rfl ?_
        refine zi_goto 4 dX4_bound_25 (by decide) ?_
        have e : zr_bd fa (i + 1) = zr_bd fa i + (if fa i = 0 then 0 else 1) := rfl
        have := ih (i + 1) (by omega)
        rw [e] at this
        rw [nI_add]
        first | (rw [if_neg c16] at this; rw [nI_add]; exact this) | (rw [zn_0, zn_eq (by omega) (by omega)] at c16; rw [if_pos c16] at this; exact this)
      · rw [zn_0, zn_eq (by omega) (by omega)] at c16
        refine zi_inc1 (nI 1) dX4_bound_19 (by decide) (Nat.le_of_ble_eq_true rfl) rfl ?_
        refine zi_inc2 (nI 1) dX4_bound_22 (by decide) (Nat.le_of_ble_eq_true rfl) rfl ?_
        refine zi_goto 4 dX4_bound_25 (by decide) ?_
        have e : zr_bd fa (i + 1) = zr_bd fa i + (if fa i = 0 then 0 else 1) := rfl
        have := ih (i + 1) (by omega)
        rw [e] at this
        rw [nI_add]
        first | (rw [if_neg c16] at this; rw [nI_add]; exact this) | (rw [zn_0, zn_eq (by omega) (by omega)] at c16; rw [if_pos c16] at this; exact this)
theorem c4_bound (ho : zr_ok r) (h : zr_V σ r fa go) : zw_Ti l G (d + 1) mX4_bound [.ref r] σ (fun x s => σ = s ∧ x = nI (zr_bd fa 8)) := by
  refine zw_enter2 (L := [some _, none, none]) (by decide) (Nat.le_of_ble_eq_true rfl) rfl ?_
  refine zi_iconst (nI 0) dX4_bound_0 (by decide) ?_
  refine zi_ist1 dX4_bound_1 (Nat.le_of_ble_eq_true rfl) rfl ?_
  refine zi_iconst (nI 0) dX4_bound_2 (by decide) ?_
  refine zi_ist2 dX4_bound_3 (Nat.le_of_ble_eq_true rfl) rfl ?_
  exact l4_bound ho h 8 0 rfl
theorem l4_release (ho : zr_ok r) : ∀ n i τ, i + n = 8 → zw_F (fun o => o = r + 1 ∨ o = r + 2) σ τ → (∀ p, p < i → τ.1 (r + 1) p = nI 0 ∧ τ.1 (r + 2) p = -1) → zw_W l G (d + 3) mX4_release 2 [some (.ref r), some (.int (nI i))] [] τ (fun x s => x = none ∧ zr_V s r (fun _ => 0) (fun _ => 8) ∧ zw_F (fun o => o = r + 1 ∨ o = r + 2) σ s) := by
  have k0 := ho.1
  intro n
  induction n with
  | zero =>
    intro i τ hi hF hI
    obtain rfl : i = 8 := by omega
    refine zi_ild1 dX4_release_2 ?_
    refine zi_bipush (nI 8) dX4_release_3 (by decide) ?_
    refine zi_icmp_ge 21 dX4_release_5 (by decide) (fun c5 => ?_) (fun c5 => ?_)
    · refine zi_ret dX4_release_21 rfl ?_
      exact ⟨rfl, fun p hp => ⟨by show 0 < 4; decide, by show 8 ≤ 8; decide, by show 2 ≤ 0 ↔ 8 < 8; decide, (hI p hp).1, (hI p hp).2⟩, hF⟩
    · exact absurd (by decide) c5
  | succ n ih =>
    intro i τ hi hF hI
    refine zi_ild1 dX4_release_2 ?_
    refine zi_bipush (nI 8) dX4_release_3 (by decide) ?_
    refine zi_icmp_ge 21 dX4_release_5 (by decide) (fun c5 => ?_) (fun c5 => ?_)
    · rw [zn_le (by omega) (by omega)] at c5; omega
    · refine zi_ald0 dX4_release_8 ?_
      refine zi_ild1 dX4_release_9 ?_
      refine zi_iconst (nI 0) dX4_release_10 (by decide) ?_
      refine zi_iconst (-1) dX4_release_11 (by decide) ?_
      refine zi_cV3v vmX4_put lkX4_35 dX4_release_12 (by first | assumption | decide) (Nat.le_of_ble_eq_true rfl) (c4_put (v := 0) ho (show i < 8 by omega) (by decide)) ?_
      rintro _ rfl
      refine zi_inc1 (nI 1) dX4_release_15 (by decide) (Nat.le_of_ble_eq_true rfl) rfl ?_
      refine zi_goto 2 dX4_release_18 (by decide) ?_
      rw [nI_add]
      refine ih (i + 1) _ (by omega) ((hF.pI (Or.inl rfl)).pI (Or.inr rfl)) (fun p hp => ?_)
      rw [zs_obj (show r + 1 ≠ r + 2 by omega)]
      by_cases e : p = i
      · subst e
        exact ⟨zs_same _ _ _ _, zs_same _ _ _ _⟩
      · rw [zs_slot e, zs_slot e, zs_obj (show r + 2 ≠ r + 1 by omega)]
        exact hI p (by omega)
theorem c4_release (ho : zr_ok r) : zw_Tv l G (d + 3) mX4_release [.ref r] σ (fun s => zr_V s r (fun _ => 0) (fun _ => 8) ∧ zw_F (fun o => o = r + 1 ∨ o = r + 2) σ s) := by
  refine zw_enter2 (L := [some _, none]) (by decide) (Nat.le_of_ble_eq_true rfl) rfl ?_
  refine zi_iconst (nI 0) dX4_release_0 (by decide) ?_
  refine zi_ist1 dX4_release_1 (Nat.le_of_ble_eq_true rfl) rfl ?_
  exact l4_release ho 8 0 σ rfl zw_F.rf (fun p hp => by omega)
theorem c4_dualFate (ho : zr_ok r) (h : zr_V σ r fa go) {p : Nat} (hp : p < 8) : zw_Ti l G (d + 3) mX4_dualFate [.ref r, .int (nI p)] σ (fun x s => σ = s ∧ x = nI (zr_df fa go p)) := by
  have k0 := ho.1
  have m1 := zr_mk_le go p 8
  obtain ⟨h1, h2, h3, -, -⟩ := h p hp
  refine zw_enter2 (L := [some _, some _, none]) (by decide) (Nat.le_of_ble_eq_true rfl) rfl ?_
  refine zi_ald0 dX4_dualFate_0 ?_
  refine zi_ild1 dX4_dualFate_1 ?_
  refine zi_cV1i vmX4_fateOf lkX4_32 dX4_dualFate_2 (by first | assumption | decide) (Nat.le_of_ble_eq_true rfl) (c4_fateOf ho h hp) ?_
  rintro _ _ ⟨rfl, rfl⟩
  refine zi_ist2 dX4_dualFate_5 (Nat.le_of_ble_eq_true rfl) rfl ?_
  refine zi_ild2 dX4_dualFate_6 ?_
  refine zi_if_ne 25 dX4_dualFate_7 (by decide) (fun c7 => ?_) (fun c7 => ?_)
  · rw [zn_0, zn_eq (by omega) (by omega)] at c7
    refine zi_ild2 dX4_dualFate_25 ?_
    refine zi_iconst (nI 1) dX4_dualFate_26 (by decide) ?_
    refine zi_icmp_ne 32 dX4_dualFate_27 (by decide) (fun c27 => ?_) (fun c27 => ?_)
    · rw [zn_eq (by omega) (by omega)] at c27
      refine zi_ild1 dX4_dualFate_32 ?_
      refine zi_cS1i smX4_sideOf lkX4_39 dX4_dualFate_33 (Nat.le_of_ble_eq_true rfl) (c4_sideOf hp) ?_
      rintro _ _ ⟨rfl, rfl⟩
      refine zi_ald0 dX4_dualFate_36 ?_
      refine zi_ild1 dX4_dualFate_37 ?_
      refine zi_cV1i vmX4_goalOf lkX4_42 dX4_dualFate_38 (by first | assumption | decide) (Nat.le_of_ble_eq_true rfl) (c4_goalOf ho h hp) ?_
      rintro _ _ ⟨rfl, rfl⟩
      have hg : go p < 8 := h3.mp (by omega)
      rw [zp_gI_lt hg]
      refine zi_cS1i smX4_sideOf lkX4_39 dX4_dualFate_41 (Nat.le_of_ble_eq_true rfl) (c4_sideOf hg) ?_
      rintro _ _ ⟨rfl, rfl⟩
      refine zi_icmp_eq 49 dX4_dualFate_44 (by decide) (fun c44 => ?_) (fun c44 => ?_)
      · rw [zn_eq (by omega) (by omega)] at c44
        refine zi_ild2 dX4_dualFate_49 ?_
        refine zi_iconst (nI 2) dX4_dualFate_50 (by decide) ?_
        refine zi_icmp_ne 58 dX4_dualFate_51 (by decide) (fun c51 => ?_) (fun c51 => ?_)
        · rw [zn_eq (by omega) (by omega)] at c51
          refine zi_iconst (nI 2) dX4_dualFate_58 (by decide) ?_
          refine zi_iret dX4_dualFate_59 rfl ?_
          refine ⟨_, rfl, rfl, ?_⟩
          unfold zr_df
          rw [if_neg c7, if_neg c27, if_pos c44]
          first | rw [show 5 - fa p = 3 by omega] | rw [show 5 - fa p = 2 by omega]
        · rw [zn_eq (by omega) (by omega)] at c51
          refine zi_iconst (nI 3) dX4_dualFate_54 (by decide) ?_
          refine zi_goto 59 dX4_dualFate_55 (by decide) ?_
          refine zi_iret dX4_dualFate_59 rfl ?_
          refine ⟨_, rfl, rfl, ?_⟩
          unfold zr_df
          rw [if_neg c7, if_neg c27, if_pos c44]
          first | rw [show 5 - fa p = 3 by omega] | rw [show 5 - fa p = 2 by omega]
      · rw [zn_eq (by omega) (by omega)] at c44
        refine zi_ild2 dX4_dualFate_47 ?_
        refine zi_iret dX4_dualFate_48 rfl ?_
        refine ⟨_, rfl, rfl, ?_⟩
        unfold zr_df
        rw [if_neg c7, if_neg c27, if_neg c44]
    · rw [zn_eq (by omega) (by omega)] at c27
      refine zi_iconst (nI 0) dX4_dualFate_30 (by decide) ?_
      refine zi_iret dX4_dualFate_31 rfl ?_
      refine ⟨_, rfl, rfl, ?_⟩
      unfold zr_df
      rw [if_neg c7, if_pos c27]
  · rw [zn_0, zn_eq (by omega) (by omega)] at c7
    refine zi_ald0 dX4_dualFate_10 ?_
    refine zi_ild1 dX4_dualFate_11 ?_
    refine zi_cV1i vmX4_makerOf lkX4_28 dX4_dualFate_12 (by first | assumption | decide) (Nat.le_of_ble_eq_true rfl) (c4_makerOf ho h hp) ?_
    rintro _ _ ⟨rfl, rfl⟩
    refine zi_iconst (-1) dX4_dualFate_15 (by decide) ?_
    refine zi_icmp_ne 23 dX4_dualFate_16 (by decide) (fun c16 => ?_) (fun c16 => ?_)
    · rw [zp_gI_m1] at c16
      refine zi_iconst (nI 0) dX4_dualFate_23 (by decide) ?_
      refine zi_iret dX4_dualFate_24 rfl ?_
      refine ⟨_, rfl, rfl, ?_⟩
      unfold zr_df
      first | rw [if_pos c7, if_pos (show zr_mk go p 8 = 8 by omega)] | rw [if_pos c7, if_neg (show ¬ zr_mk go p 8 = 8 by omega)]
    · rw [zp_gI_m1] at c16
      refine zi_iconst (nI 1) dX4_dualFate_19 (by decide) ?_
      refine zi_goto 24 dX4_dualFate_20 (by decide) ?_
      refine zi_iret dX4_dualFate_24 rfl ?_
      refine ⟨_, rfl, rfl, ?_⟩
      unfold zr_df
      first | rw [if_pos c7, if_pos (show zr_mk go p 8 = 8 by omega)] | rw [if_pos c7, if_neg (show ¬ zr_mk go p 8 = 8 by omega)]
theorem l4_isOwnDual (ho : zr_ok r) (h : zr_V σ r fa go) : ∀ n i, i + n = 8 → (∀ p, p < i → zr_df fa go p = fa p) → zw_W l G (d + 4) mX4_isOwnDual 2 [some (.ref r), some (.int (nI i))] [] σ (fun x s => ∃ y, x = some (.int y) ∧ σ = s ∧ ((y = nI 1 ∧ ∀ p, p < 8 → zr_df fa go p = fa p) ∨ (y = nI 0 ∧ ∃ p, p < 8 ∧ zr_df fa go p ≠ fa p))) := by
  obtain ⟨k0, k1, k2, l1, l2⟩ := id ho
  intro n
  induction n with
  | zero =>
    intro i hi hI
    obtain rfl : i = 8 := by omega
    refine zi_ild1 dX4_isOwnDual_2 ?_
    refine zi_bipush (nI 8) dX4_isOwnDual_3 (by decide) ?_
    refine zi_icmp_ge 30 dX4_isOwnDual_5 (by decide) (fun c5 => ?_) (fun c5 => ?_)
    · refine zi_iconst (nI 1) dX4_isOwnDual_30 (by decide) ?_
      refine zi_zret dX4_isOwnDual_31 rfl (by decide) ?_
      exact ⟨_, rfl, rfl, Or.inl ⟨rfl, hI⟩⟩
    · exact absurd (by decide) c5
  | succ n ih =>
    intro i hi hI
    have hf := (h i (by omega)).1
    have hd : zr_df fa go i < 4 := by
      unfold zr_df
      (repeat' split) <;> omega
    refine zi_ild1 dX4_isOwnDual_2 ?_
    refine zi_bipush (nI 8) dX4_isOwnDual_3 (by decide) ?_
    refine zi_icmp_ge 30 dX4_isOwnDual_5 (by decide) (fun c5 => ?_) (fun c5 => ?_)
    · rw [zn_le (by omega) (by omega)] at c5; omega
    · refine zi_ald0 dX4_isOwnDual_8 ?_
      refine zi_ild1 dX4_isOwnDual_9 ?_
      refine zi_cV1i vmX4_dualFate lkX4_45 dX4_isOwnDual_10 (by first | assumption | decide) (Nat.le_of_ble_eq_true rfl) (c4_dualFate ho h (show i < 8 by omega)) ?_
      rintro _ _ ⟨rfl, rfl⟩
      refine zi_ald0 dX4_isOwnDual_13 ?_
      refine zi_getR dX4_isOwnDual_14 flX4_9 rfl (by first | assumption | decide) ?_
      refine zi_ild1 dX4_isOwnDual_17 ?_
      refine zi_ialdN _ dX4_isOwnDual_18 (by first | assumption | decide) rfl (by omega) (by omega) ?_
      rw [h.f (show i < 8 by omega)]
      refine zi_icmp_eq 24 dX4_isOwnDual_19 (by decide) (fun c19 => ?_) (fun c19 => ?_)
      · rw [zn_eq (by omega) (by omega)] at c19
        refine zi_inc1 (nI 1) dX4_isOwnDual_24 (by decide) (Nat.le_of_ble_eq_true rfl) rfl ?_
        refine zi_goto 2 dX4_isOwnDual_27 (by decide) ?_
        rw [nI_add]
        refine ih (i + 1) (by omega) (fun p hp => ?_)
        by_cases e : p = i
        · subst e
          exact c19
        · exact hI p (by omega)
      · rw [zn_eq (by omega) (by omega)] at c19
        refine zi_iconst (nI 0) dX4_isOwnDual_22 (by decide) ?_
        refine zi_zret dX4_isOwnDual_23 rfl (by decide) ?_
        exact ⟨_, rfl, rfl, Or.inr ⟨rfl, i, by omega, c19⟩⟩
theorem c4_isOwnDual (ho : zr_ok r) (h : zr_V σ r fa go) : zw_Ti l G (d + 4) mX4_isOwnDual [.ref r] σ (fun y s => σ = s ∧ ((y = nI 1 ∧ ∀ p, p < 8 → zr_df fa go p = fa p) ∨ (y = nI 0 ∧ ∃ p, p < 8 ∧ zr_df fa go p ≠ fa p))) := by
  refine zw_enter2 (L := [some _, none]) (by decide) (Nat.le_of_ble_eq_true rfl) rfl ?_
  refine zi_iconst (nI 0) dX4_isOwnDual_0 (by decide) ?_
  refine zi_ist1 dX4_isOwnDual_1 (Nat.le_of_ble_eq_true rfl) rfl ?_
  exact l4_isOwnDual ho h 8 0 rfl (fun p hp => by omega)
theorem zr_df_ok {fa go : Nat → Nat} {p : Nat} (h1 : fa p < 4) (h2 : 2 ≤ fa p ↔ go p < 8) : zr_df fa go p < 4 ∧ (2 ≤ zr_df fa go p ↔ go p < 8) := by
  unfold zr_df
  (repeat' split) <;> omega
theorem l4_turnDual (ho : zr_ok r) (h : zr_V σ r fa go) : ∀ n i τ, i + n = 8 → zw_F (fun o => o = r + 1) σ τ → (∀ p, p < 8 → τ.1 (r + 1) p = nI (if p < i then zr_df fa go p else fa p)) → zw_W l G (d + 4) mX4_turnDual 2 [some (.ref r), some (.int (nI i))] [] τ (fun x s => x = none ∧ zr_V s r (zr_df fa go) go ∧ zw_F (fun o => o = r + 1) σ s) := by
  obtain ⟨k0, k1, k2, l1, l2⟩ := id ho
  intro n
  induction n with
  | zero =>
    intro i τ hi hF hI
    obtain rfl : i = 8 := by omega
    refine zi_ild1 dX4_turnDual_2 ?_
    refine zi_bipush (nI 8) dX4_turnDual_3 (by decide) ?_
    refine zi_icmp_ge 25 dX4_turnDual_5 (by decide) (fun c5 => ?_) (fun c5 => ?_)
    · refine zi_ret dX4_turnDual_25 rfl ?_
      refine ⟨rfl, fun p hp => ?_, hF⟩
      obtain ⟨h1, h2, h3, h4, h5⟩ := h p hp
      obtain ⟨g1, g2⟩ := zr_df_ok h1 h3
      refine ⟨g1, h2, g2, ?_, ?_⟩
      · rw [hI p hp, if_pos hp]
      · rw [hF.2 _ (by omega)]
        exact h5
    · exact absurd (by decide) c5
  | succ n ih =>
    intro i τ hi hF hI
    have hV : zr_V τ r (fun p => if p < i then zr_df fa go p else fa p) go := fun p hp => by
      obtain ⟨h1, h2, h3, h4, h5⟩ := h p hp
      obtain ⟨g1, g2⟩ := zr_df_ok h1 h3
      refine ⟨?_, h2, ?_, hI p hp, ?_⟩
      · show (if p < i then _ else _) < 4
        split
        · exact g1
        · exact h1
      · show 2 ≤ (if p < i then _ else _) ↔ _
        split
        · exact g2
        · exact h3
      · rw [hF.2 _ (by omega)]
        exact h5
    have hd : zr_df (fun p => if p < i then zr_df fa go p else fa p) go i = zr_df fa go i := by
      unfold zr_df
      simp
    refine zi_ild1 dX4_turnDual_2 ?_
    refine zi_bipush (nI 8) dX4_turnDual_3 (by decide) ?_
    refine zi_icmp_ge 25 dX4_turnDual_5 (by decide) (fun c5 => ?_) (fun c5 => ?_)
    · rw [zn_le (by omega) (by omega)] at c5; omega
    · refine zi_ald0 dX4_turnDual_8 ?_
      refine zi_getR dX4_turnDual_9 flX4_9 rfl (by first | assumption | decide) ?_
      refine zi_ild1 dX4_turnDual_12 ?_
      refine zi_ald0 dX4_turnDual_13 ?_
      refine zi_ild1 dX4_turnDual_14 ?_
      refine zi_cV1i vmX4_dualFate lkX4_45 dX4_turnDual_15 (by first | assumption | decide) (Nat.le_of_ble_eq_true rfl) (c4_dualFate ho hV (show i < 8 by omega)) ?_
      rintro _ _ ⟨rfl, rfl⟩
      rw [hd]
      refine zi_iastN _ dX4_turnDual_18 (by first | assumption | decide) rfl (by omega) (by omega) ?_
      refine zi_inc1 (nI 1) dX4_turnDual_19 (by decide) (Nat.le_of_ble_eq_true rfl) rfl ?_
      refine zi_goto 2 dX4_turnDual_22 (by decide) ?_
      rw [nI_add]
      refine ih (i + 1) _ (by omega) (hF.pI rfl) (fun p hp => ?_)
      by_cases e : p = i
      · subst e
        rw [zs_same, if_pos (by omega)]
      · rw [zs_slot e, hI p hp]
        by_cases q : p < i
        · rw [if_pos q, if_pos (by omega)]
        · rw [if_neg q, if_neg (by omega)]
theorem c4_turnDual (ho : zr_ok r) (h : zr_V σ r fa go) : zw_Tv l G (d + 4) mX4_turnDual [.ref r] σ (fun s => zr_V s r (zr_df fa go) go ∧ zw_F (fun o => o = r + 1) σ s) := by
  refine zw_enter2 (L := [some _, none]) (by decide) (Nat.le_of_ble_eq_true rfl) rfl ?_
  refine zi_iconst (nI 0) dX4_turnDual_0 (by decide) ?_
  refine zi_ist1 dX4_turnDual_1 (Nat.le_of_ble_eq_true rfl) rfl ?_
  exact l4_turnDual ho h 8 0 σ rfl zw_F.rf (fun p hp => by rw [if_neg (by omega)]; exact h.f hp)
theorem l4_copyFrom {q : Nat} (ho : zr_ok r) (hq : zr_ok q) (ha : r + 3 ≤ q ∨ q + 3 ≤ r) : ∀ n i τ, i + n = 8 → zw_F (fun o => o = r + 1 ∨ o = r + 2) σ τ → (∀ p, p < i → τ.1 (r + 1) p = σ.1 (q + 1) p ∧ τ.1 (r + 2) p = σ.1 (q + 2) p) → zw_W l G (d + 1) mX4_copyFrom 2 [some (.ref r), some (.ref q), some (.int (nI i))] [] τ (fun x s => x = none ∧ (∀ p, p < 8 → s.1 (r + 1) p = σ.1 (q + 1) p ∧ s.1 (r + 2) p = σ.1 (q + 2) p) ∧ zw_F (fun o => o = r + 1 ∨ o = r + 2) σ s) := by
  obtain ⟨k0, k1, k2, l1, l2⟩ := ho
  obtain ⟨j0, j1, j2, m1, m2⟩ := hq
  intro n
  induction n with
  | zero =>
    intro i τ hi hF hI
    obtain rfl : i = 8 := by omega
    refine zi_ild2 dX4_copyFrom_2 ?_
    refine zi_bipush (nI 8) dX4_copyFrom_3 (by decide) ?_
    refine zi_icmp_ge 38 dX4_copyFrom_5 (by decide) (fun c5 => ?_) (fun c5 => ?_)
    · refine zi_ret dX4_copyFrom_38 rfl ?_
      exact ⟨rfl, hI, hF⟩
    · exact absurd (by decide) c5
  | succ n ih =>
    intro i τ hi hF hI
    refine zi_ild2 dX4_copyFrom_2 ?_
    refine zi_bipush (nI 8) dX4_copyFrom_3 (by decide) ?_
    refine zi_icmp_ge 38 dX4_copyFrom_5 (by decide) (fun c5 => ?_) (fun c5 => ?_)
    · rw [zn_le (by omega) (by omega)] at c5; omega
    · refine zi_ald0 dX4_copyFrom_8 ?_
      refine zi_getR dX4_copyFrom_9 flX4_9 rfl (by first | assumption | decide) ?_
      refine zi_ild2 dX4_copyFrom_12 ?_
      refine zi_ald1 dX4_copyFrom_13 ?_
      refine zi_getR dX4_copyFrom_14 flX4_9 rfl (by first | assumption | decide) ?_
      refine zi_ild2 dX4_copyFrom_17 ?_
      refine zi_ialdN _ dX4_copyFrom_18 (by first | assumption | decide) rfl (by omega) (by omega) ?_
      refine zi_iastN _ dX4_copyFrom_19 (by first | assumption | decide) rfl (by omega) (by omega) ?_
      refine zi_ald0 dX4_copyFrom_20 ?_
      refine zi_getR dX4_copyFrom_21 flX4_15 rfl (by first | assumption | decide) ?_
      refine zi_ild2 dX4_copyFrom_24 ?_
      refine zi_ald1 dX4_copyFrom_25 ?_
      refine zi_getR dX4_copyFrom_26 flX4_15 rfl (by first | assumption | decide) ?_
      refine zi_ild2 dX4_copyFrom_29 ?_
      refine zi_ialdN _ dX4_copyFrom_30 (by first | assumption | decide) rfl (by omega) (by omega) ?_
      refine zi_iastN _ dX4_copyFrom_31 (by first | assumption | decide) rfl (by omega) (by omega) ?_
      refine zi_inc2 (nI 1) dX4_copyFrom_32 (by decide) (Nat.le_of_ble_eq_true rfl) rfl ?_
      refine zi_goto 2 dX4_copyFrom_35 (by decide) ?_
      rw [nI_add]
      refine ih (i + 1) _ (by omega) ((hF.pI (Or.inl rfl)).pI (Or.inr rfl)) (fun p hp => ?_)
      rw [zs_obj (show r + 1 ≠ r + 2 by omega)]
      by_cases e : p = i
      · subst e
        rw [zs_same, zs_same, hF.2 (q + 1) (by omega), zs_obj (show q + 2 ≠ r + 1 by omega), hF.2 (q + 2) (by omega)]
        exact ⟨rfl, rfl⟩
      · rw [zs_slot e, zs_slot e, zs_obj (show r + 2 ≠ r + 1 by omega)]
        exact hI p (by omega)
theorem c4_copyFrom {q : Nat} (ho : zr_ok r) (hq : zr_ok q) (ha : r + 3 ≤ q ∨ q + 3 ≤ r) (h : zr_V σ q fa go) : zw_Tv l G (d + 1) mX4_copyFrom [.ref r, .ref q] σ (fun s => zr_V s r fa go ∧ zw_F (fun o => o = r + 1 ∨ o = r + 2) σ s) := by
  refine zw_enter2 (L := [some _, some _, none]) (by decide) (Nat.le_of_ble_eq_true rfl) rfl ?_
  refine zi_iconst (nI 0) dX4_copyFrom_0 (by decide) ?_
  refine zi_ist2 dX4_copyFrom_1 (Nat.le_of_ble_eq_true rfl) rfl ?_
  have := l4_copyFrom (l := l) (G := G) (d := d) (σ := σ) ho hq ha 8 0 σ rfl zw_F.rf (fun p hp => by omega)
  refine zw_W.mono this (fun x s hx => ⟨hx.1, fun p hp => ?_, hx.2.2⟩)
  rw [(hx.2.1 p hp).1, (hx.2.1 p hp).2]
  exact h p hp
end Z10
