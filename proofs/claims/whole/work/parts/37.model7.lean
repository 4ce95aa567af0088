/-! the model: all that it holds -/
def zy_dX : zg_X := ([], fun _ => 0, fun _ => 8)
/-- the states ahead of the latest deeds, the newest first -/
def zy_H (σ : zw_S) (H : List zg_X) : Prop := H.length ≤ 20 ∧ σ.1 168 1 = nI H.length ∧ ∀ j, j < H.length → zy_R σ (34 * (H.length - j)) (H.getD j zy_dX)
def zy_k (o : Option (zg_X × Nat)) : Nat := match o with
  | none => 0
  | some _ => 1
def zy_I (σ : zw_S) (i : Nat) (o : Option (zg_X × Nat)) : Prop := ∀ x, o = some x → σ.1 (168 + 2) i = nI x.2 ∧ zy_R σ (714 + 34 * i) x.1 ∧ x.2 < 2147483648
def zy_Tx (σ : zw_S) (T : List Nat) : Prop := T.length ≤ 30 ∧ (∀ c ∈ T, c < 256) ∧ σ.1 168 6 = nI T.length ∧ ∀ j, j < T.length → σ.1 (168 + 3) j = nI (T.getD j 0)
def zy_B (σ : zw_S) (bk : List (Nat × Int32)) : Prop := bk.length ≤ 20 ∧ σ.1 168 10 = nI bk.length ∧ ∀ i, i < bk.length → (bk.getD i (0, 0)).1 < 8 ∧ σ.1 (168 + 4) i = nI (bk.getD i (0, 0)).1 ∧ σ.1 (168 + 5) i = (bk.getD i (0, 0)).2
def zy_V (σ : zw_S) (A : zx_T) : Prop := zy_R σ 0 A.1 ∧ zy_H σ A.2.1 ∧ (∀ i, i < 2 → zy_I σ i (A.2.2.1 i)) ∧ σ.1 168 2 = nI (zy_k (A.2.2.1 0) + 2 * zy_k (A.2.2.1 1)) ∧ zy_Tx σ A.2.2.2.1 ∧ σ.1 168 7 = zp_oI A.2.2.2.2.1 ∧ zy_B σ A.2.2.2.2.2.1 ∧ A.2.2.2.2.2.2 < 2147483648 ∧ σ.1 168 3 = nI A.2.2.2.2.2.2
/-- the class's cells stay -/
def zy_F (σ τ : zw_S) : Prop := ∀ o, o < 168 → τ.1 o = σ.1 o ∧ τ.2 o = σ.2 o
theorem zy_F.rf {σ : zw_S} : zy_F σ σ := fun _ _ => ⟨rfl, rfl⟩
theorem zy_F.tr {σ τ υ : zw_S} (h1 : zy_F σ τ) (h2 : zy_F τ υ) : zy_F σ υ := fun o ho => ⟨(h2 o ho).1.trans (h1 o ho).1, (h2 o ho).2.trans (h1 o ho).2⟩
theorem zy_F.pI {σ τ : zw_S} {o j : Nat} {v : Int32} (h : zy_F σ τ) (ho : 168 ≤ o) : zy_F σ (zw_pI τ o j v) := fun k hk => ⟨by rw [zs_obj (show k ≠ o by omega)]; exact (h k hk).1, (h k hk).2⟩
/-- only what is worked on, and the first row -/
def zy_Q (σ τ : zw_S) : Prop := (∀ o, ¬ zy_LA o → τ.2 o = σ.2 o) ∧ (∀ o, o ≠ 168 → o ≠ 169 → o ≠ 181 → ¬ (174 ≤ o ∧ o < 177) → τ.1 o = σ.1 o) ∧ (∀ j, j ≠ 12 → j ≠ 13 → j ≠ 15 → τ.1 168 j = σ.1 168 j) ∧ ∀ j, 34 ≤ j → τ.1 (168 + 1) j = σ.1 (168 + 1) j
theorem zy_Q.rf {σ : zw_S} : zy_Q σ σ := ⟨fun _ _ => rfl, fun _ _ _ _ _ => rfl, fun _ _ _ _ => rfl, fun _ _ => rfl⟩
theorem zy_Q.tr {σ τ υ : zw_S} (h1 : zy_Q σ τ) (h2 : zy_Q τ υ) : zy_Q σ υ := ⟨fun o a => (h2.1 o a).trans (h1.1 o a), fun o a b c e => (h2.2.1 o a b c e).trans (h1.2.1 o a b c e), fun j a b c => (h2.2.2.1 j a b c).trans (h1.2.2.1 j a b c), fun j a => (h2.2.2.2 j a).trans (h1.2.2.2 j a)⟩
theorem zy_Q.row {σ τ : zw_S} {j : Nat} {v : Int32} (h : zy_Q σ τ) (hj : j < 34) : zy_Q σ (zw_pI τ (168 + 1) j v) := ⟨h.1, fun o a b c e => by rw [zs_obj (show o ≠ 168 + 1 by omega)]; exact h.2.1 o a b c e, fun k a b c => by rw [zs_obj (show 168 ≠ 168 + 1 by decide)]; exact h.2.2.1 k a b c, fun k a => by rw [zs_slot (show k ≠ j by omega)]; exact h.2.2.2 k a⟩
theorem zy_Q.hand {σ τ : zw_S} {j : Nat} {v : Int32} (h : zy_Q σ τ) : zy_Q σ (zw_pI τ (168 + 13) j v) := ⟨h.1, fun o a b c e => by rw [zs_obj (show o ≠ 168 + 13 by omega)]; exact h.2.1 o a b c e, fun k a b c => by rw [zs_obj (show 168 ≠ 168 + 13 by decide)]; exact h.2.2.1 k a b c, fun k a => by rw [zs_obj (show 168 + 1 ≠ 168 + 13 by decide)]; exact h.2.2.2 k a⟩
theorem zy_Q.fld {σ τ : zw_S} {i : Nat} {v : Int32} (h : zy_Q σ τ) (hi : i = 12 ∨ i = 13 ∨ i = 15) : zy_Q σ (zw_pI τ 168 i v) := ⟨h.1, fun o a b c e => by rw [zs_obj a]; exact h.2.1 o a b c e, fun j a b c => by rw [zs_slot (by omega)]; exact h.2.2.1 j a b c, fun k a => by rw [zs_obj (by decide)]; exact h.2.2.2 k a⟩
theorem zy_S.q {σ τ : zw_S} (h : zy_S σ τ) : zy_Q σ τ := ⟨fun o _ => by rw [h.1], fun o a _ _ e => h.2.1 o a e, h.2.2, fun j _ => by rw [h.w]⟩
theorem zy_ql {σ τ : zw_S} (h : zL_F zy_LA σ τ) : zy_Q σ τ := ⟨h.2, fun o _ _ _ _ => by rw [h.1], fun j _ _ _ => by rw [h.1], fun j _ => by rw [h.1]⟩
theorem zy_Q.f {σ τ : zw_S} (h : zy_Q σ τ) : zy_F σ τ := fun o ho => ⟨h.2.1 o (by omega) (by omega) (by omega) (by omega), h.1 o (by unfold zy_LA; omega)⟩
theorem zy_R.mv {σ τ : zw_S} {x y : Nat} {X : zg_X} (h : zy_R σ x X) (hF : ∀ k, k < 34 → τ.1 (168 + 1) (y + k) = σ.1 (168 + 1) (x + k)) : zy_R τ y X := by
  obtain ⟨h1, h2, h3, h4, h5⟩ := h
  refine ⟨h1, h2, ?_, fun i hi => ?_, fun p hp => ?_⟩
  · exact (hF 0 (by decide)).trans h3
  · rw [hF (1 + i) (by omega), hF (9 + i) (by omega)]; exact h4 i hi
  · rw [hF (17 + p) (by omega), hF (25 + p) (by omega)]; exact h5 p hp
theorem zy_I.mv {σ τ : zw_S} {i : Nat} {o : Option (zg_X × Nat)} (h : zy_I σ i o) (h1 : τ.1 (168 + 2) i = σ.1 (168 + 2) i) (hF : ∀ k, k < 34 → τ.1 (168 + 1) (714 + 34 * i + k) = σ.1 (168 + 1) (714 + 34 * i + k)) : zy_I τ i o := fun x hx => ⟨by rw [h1]; exact (h x hx).1, (h x hx).2.1.mv hF, (h x hx).2.2⟩
theorem zy_Tx.cg {σ τ : zw_S} {T : List Nat} (h : zy_Tx σ T) (h1 : τ.1 168 6 = σ.1 168 6) (h2 : τ.1 (168 + 3) = σ.1 (168 + 3)) : zy_Tx τ T := ⟨h.1, h.2.1, by rw [h1]; exact h.2.2.1, fun j hj => by rw [h2]; exact h.2.2.2 j hj⟩
theorem zy_B.cg {σ τ : zw_S} {bk : List (Nat × Int32)} (h : zy_B σ bk) (h1 : τ.1 168 10 = σ.1 168 10) (h2 : τ.1 (168 + 4) = σ.1 (168 + 4)) (h3 : τ.1 (168 + 5) = σ.1 (168 + 5)) : zy_B τ bk := ⟨h.1, by rw [h1]; exact h.2.1, fun i hi => by rw [h2, h3]; exact h.2.2 i hi⟩
/-- another first row, the rest as it was -/
theorem zy_V.q {σ τ : zw_S} {A : zx_T} {X : zg_X} (h : zy_V σ A) (hQ : zy_Q σ τ) (hR : zy_R τ 0 X) : zy_V τ (X, A.2) := by
  obtain ⟨h1, h2, h3, h4, h5, h6, h7, h8, h9⟩ := h
  obtain ⟨q1, q2, q3, q4⟩ := hQ
  refine ⟨hR, ⟨h2.1, by rw [q3 1 (by decide) (by decide) (by decide)]; exact h2.2.1, fun j hj => (h2.2.2 j hj).mv (fun k hk => q4 _ (by omega))⟩, fun i hi => (h3 i hi).mv (by rw [q2 (168 + 2) (by decide) (by decide) (by decide) (by decide)]) (fun k hk => q4 _ (by omega)), by rw [q3 2 (by decide) (by decide) (by decide)]; exact h4, h5.cg (q3 6 (by decide) (by decide) (by decide)) (q2 _ (by decide) (by decide) (by decide) (by decide)), by rw [q3 7 (by decide) (by decide) (by decide)]; exact h6, h7.cg (q3 10 (by decide) (by decide) (by decide)) (q2 _ (by decide) (by decide) (by decide) (by decide)) (q2 _ (by decide) (by decide) (by decide) (by decide)), h8, by rw [q3 3 (by decide) (by decide) (by decide)]; exact h9⟩
theorem zy_V.s {σ τ : zw_S} {A : zx_T} (h : zy_V σ A) (hS : zy_S σ τ) : zy_V τ A := h.q hS.q (h.1.cg hS.w)
theorem zy_V.l {σ τ : zw_S} {A : zx_T} (h : zy_V σ A) (hS : zL_F zy_LA σ τ) : zy_V τ A := h.q (zy_ql hS) (h.1.cg (by rw [hS.1]))
/-- the class's part is another, the model's is the same -/
theorem zy_V.cg {σ τ : zw_S} {A : zx_T} (h : zy_V σ A) (hF : zx_F σ τ) : zy_V τ A := by
  obtain ⟨h1, h2, h3, h4, h5, h6, h7, h8, h9⟩ := h
  have e0 := (hF 168 (by decide)).1
  have e1 := (hF (168 + 1) (by decide)).1
  exact ⟨h1.cg e1, ⟨h2.1, by rw [e0]; exact h2.2.1, fun j hj => (h2.2.2 j hj).cg e1⟩, fun i hi => (h3 i hi).mv (by rw [(hF (168 + 2) (by decide)).1]) (fun k hk => by rw [e1]), by rw [e0]; exact h4, h5.cg (by rw [e0]) (hF (168 + 3) (by decide)).1, by rw [e0]; exact h6, h7.cg (by rw [e0]) (hF (168 + 4) (by decide)).1 (hF (168 + 5) (by decide)).1, h8, by rw [e0]; exact h9⟩
theorem zx_V.cy {σ τ : zw_S} {A : zx_T} (h : zx_V σ A) (hF : zy_F σ τ) : zx_V τ A := h.cg (fun o _ ho => (hF o ho).1)
section Z37
variable {l : Launch} {G : zw_G} {d : Nat} {σ : zw_S} {A : zx_T} {w : List Nat} {s : Int32} {fa go : Nat → Nat}
theorem c9_in_n {v : Int32} {m : Nat} (hm : m + 1 < 2147483648) : zw_Ti l G (d + 1) mX9_in [.int v, .int (nI 0), .int (nI m)] σ (fun x τ => σ = τ ∧ x = if (zx_ix v (m + 1)).isSome then nI 1 else nI 0) := by
  have := c9_in_ix (l := l) (G := G) (d := d) (σ := σ) (v := v) (n := m + 1) hm
  rwa [pk_sub (by omega), Nat.add_sub_cancel] at this
theorem c9_isPattern {p : Int32} : zw_Ti l G (d + 2) mX9_isPattern [.ref 168, .int p] σ (fun x τ => σ = τ ∧ x = if (zx_ix p 8).isSome then nI 1 else nI 0) := by
  refine zw_enter2 (L := [some _, some _]) (by decide) (Nat.le_of_ble_eq_true rfl) rfl ?_
  refine zi_ild1 dX9_isPattern_0 ?_
  refine zi_iconst (nI 0) dX9_isPattern_1 (by decide) ?_
  refine zi_bipush (nI 7) dX9_isPattern_2 (by decide) ?_
  refine zi_cS3i smX9_in lkX9_54 dX9_isPattern_4 (Nat.le_of_ble_eq_true rfl) (c9_in_n (m := 7) (by decide)) ?_
  rintro _ _ ⟨rfl, rfl⟩
  refine zi_zret dX9_isPattern_7 rfl (by split <;> decide) ?_
  exact ⟨_, rfl, rfl, rfl⟩
theorem l9_comesFrom (hR : zy_r σ 0 fa go) {q : Nat} (hq : q < 8) : ∀ n i, i + n = 8 → zw_W l G (d + 1) mX9_comesFrom 2 [some (.ref 168), some (.int (nI q)), some (.int (nI i))] [] σ (fun x τ => ∃ y, x = some (.int y) ∧ σ = τ ∧ y = zp_gI (zr_mk go q n)) := by
  intro n
  induction n with
  | zero =>
    intro i hi
    refine zi_ild2 dX9_comesFrom_2 ?_
    refine zi_bipush (nI 8) dX9_comesFrom_3 (by decide) ?_
    refine zi_icmp_ge 29 dX9_comesFrom_5 (by decide) (fun c5 => ?_) (fun c5 => ?_)
    · refine zi_iconst (-1) dX9_comesFrom_29 (by decide) ?_
      refine zi_iret dX9_comesFrom_30 rfl ?_
      exact ⟨_, rfl, rfl, rfl⟩
    · rw [zn_le (by omega) (by omega)] at c5; omega
  | succ n ih =>
    intro i hi
    have hi7 : i = 7 - n := by omega
    refine zi_ild2 dX9_comesFrom_2 ?_
    refine zi_bipush (nI 8) dX9_comesFrom_3 (by decide) ?_
    refine zi_icmp_ge 29 dX9_comesFrom_5 (by decide) (fun c5 => ?_) (fun c5 => ?_)
    · rw [zn_le (by omega) (by omega)] at c5; omega
    · refine zi_ald0 dX9_comesFrom_8 ?_
      refine zi_getR dX9_comesFrom_9 flX9_7 rfl (by first | assumption | decide) ?_
      refine zi_bipush (nI 25) dX9_comesFrom_12 (by decide) ?_
      refine zi_ild2 dX9_comesFrom_14 ?_
      refine zi_iadd dX9_comesFrom_15 ?_
      refine zi_ialdN (25 + i) dX9_comesFrom_16 (by first | assumption | decide) (nI_add _ _) (zy_b1 (by omega)) (by decide) ?_
      rw [hR.g0 (show i < 8 by omega)]
      refine zi_ild1 dX9_comesFrom_17 ?_
      refine zi_icmp_ne 23 dX9_comesFrom_18 (by decide) (fun c18 => ?_) (fun c18 => ?_)
      · rw [zp_gI_eq hq] at c18
        refine zi_inc2 (nI 1) dX9_comesFrom_23 (by decide) (Nat.le_of_ble_eq_true rfl) rfl ?_
        refine zi_goto 2 dX9_comesFrom_26 (by decide) ?_
        have := ih (i + 1) (by omega)
        unfold zr_mk
        rw [← hi7, if_neg c18, nI_add]
        exact this
      · rw [zp_gI_eq hq] at c18
        refine zi_ild2 dX9_comesFrom_21 ?_
        refine zi_iret dX9_comesFrom_22 rfl ?_
        refine ⟨_, rfl, rfl, ?_⟩
        unfold zr_mk
        rw [← hi7, if_pos c18, zp_gI_lt (by omega)]
theorem c9_comesFrom (hR : zy_r σ 0 fa go) {q : Nat} (hq : q < 8) : zw_Ti l G (d + 1) mX9_comesFrom [.ref 168, .int (nI q)] σ (fun x τ => σ = τ ∧ x = zp_gI (zr_mk go q 8)) := by
  refine zw_enter2 (L := [some _, some _, none]) (by decide) (Nat.le_of_ble_eq_true rfl) rfl ?_
  refine zi_iconst (nI 0) dX9_comesFrom_0 (by decide) ?_
  refine zi_ist2 dX9_comesFrom_1 (Nat.le_of_ble_eq_true rfl) rfl ?_
  exact l9_comesFrom hR hq 8 0 rfl
theorem c9_dualOf (hR : zy_r σ 0 fa go) {p : Nat} (hp : p < 8) : zw_Ti l G (d + 2) mX9_dualOf [.ref 168, .int (nI p)] σ (fun x τ => σ = τ ∧ x = nI (zr_df fa go p)) := by
  have m1 := zr_mk_le go p 8
  obtain ⟨h1, h2, h3, -, -⟩ := hR p hp
  refine zw_enter2 (L := [some _, some _, none, none]) (by decide) (Nat.le_of_ble_eq_true rfl) rfl ?_
  refine zi_ald0 dX9_dualOf_0 ?_
  refine zi_getR dX9_dualOf_1 flX9_7 rfl (by first | assumption | decide) ?_
  refine zi_bipush (nI 17) dX9_dualOf_4 (by decide) ?_
  refine zi_ild1 dX9_dualOf_6 ?_
  refine zi_iadd dX9_dualOf_7 ?_
  refine zi_ialdN (17 + p) dX9_dualOf_8 (by first | assumption | decide) (nI_add _ _) (zy_b1 (by omega)) (by decide) ?_
  rw [hR.f0 hp]
  refine zi_ist2 dX9_dualOf_9 (Nat.le_of_ble_eq_true rfl) rfl ?_
  refine zi_ild2 dX9_dualOf_10 ?_
  refine zi_if_ne 29 dX9_dualOf_11 (by decide) (fun c11 => ?_) (fun c11 => ?_)
  · rw [zn_0, zn_eq (by omega) (by omega)] at c11
    refine zi_ild2 dX9_dualOf_29 ?_
    refine zi_iconst (nI 1) dX9_dualOf_30 (by decide) ?_
    refine zi_icmp_ne 36 dX9_dualOf_31 (by decide) (fun c31 => ?_) (fun c31 => ?_)
    · rw [zn_eq (by omega) (by omega)] at c31
      have hg : go p < 8 := h3.mp (by omega)
      refine zi_ild1 dX9_dualOf_36 ?_
      refine zi_iconst (nI 2) dX9_dualOf_37 (by decide) ?_
      refine zi_irem dX9_dualOf_38 (by decide) ?_
      rw [pk_rem (by omega) (by decide) (by decide)]
      refine zi_ald0 dX9_dualOf_39 ?_
      refine zi_getR dX9_dualOf_40 flX9_7 rfl (by first | assumption | decide) ?_
      refine zi_bipush (nI 25) dX9_dualOf_43 (by decide) ?_
      refine zi_ild1 dX9_dualOf_45 ?_
      refine zi_iadd dX9_dualOf_46 ?_
      refine zi_ialdN (25 + p) dX9_dualOf_47 (by first | assumption | decide) (nI_add _ _) (zy_b1 (by omega)) (by decide) ?_
      rw [hR.g0 hp, zp_gI_lt hg]
      refine zi_iconst (nI 2) dX9_dualOf_48 (by decide) ?_
      refine zi_irem dX9_dualOf_49 (by decide) ?_
      rw [pk_rem (by omega) (by decide) (by decide)]
      refine zi_icmp_ne 57 dX9_dualOf_50 (by decide) (fun c50 => ?_) (fun c50 => ?_)
      · rw [zn_eq (by omega) (by omega)] at c50
        refine zi_iconst (nI 0) dX9_dualOf_57 (by decide) ?_
        refine zi_ist3 dX9_dualOf_58 (Nat.le_of_ble_eq_true rfl) rfl ?_
        refine zi_ild3 dX9_dualOf_59 ?_
        refine zi_if_eq 69 dX9_dualOf_60 (by decide) (fun c60 => ?_) (fun c60 => ?_)
        · refine zi_ild2 dX9_dualOf_69 ?_
          refine zi_iret dX9_dualOf_70 rfl ?_
          refine ⟨_, rfl, rfl, ?_⟩
          unfold zr_df
          first
          | (exact absurd c60 (by decide))
          | (exact absurd rfl c60)
          | (rw [if_neg c11, if_neg c31, if_pos c50, pk_sub (by omega)]; done)
          | (rw [if_neg c11, if_neg c31, if_neg c50]; done)
        · refine zi_iconst (nI 5) dX9_dualOf_63 (by decide) ?_
          refine zi_ild2 dX9_dualOf_64 ?_
          refine zi_isub dX9_dualOf_65 ?_
          refine zi_goto 70 dX9_dualOf_66 (by decide) ?_
          refine zi_iret dX9_dualOf_70 rfl ?_
          refine ⟨_, rfl, rfl, ?_⟩
          unfold zr_df
          first
          | (exact absurd c60 (by decide))
          | (exact absurd rfl c60)
          | (rw [if_neg c11, if_neg c31, if_pos c50, pk_sub (by omega)]; done)
          | (rw [if_neg c11, if_neg c31, if_neg c50]; done)
      · rw [zn_eq (by omega) (by omega)] at c50
        refine zi_iconst (nI 1) dX9_dualOf_53 (by decide) ?_
        refine zi_goto 58 dX9_dualOf_54 (by decide) ?_
        refine zi_ist3 dX9_dualOf_58 (Nat.le_of_ble_eq_true rfl) rfl ?_
        refine zi_ild3 dX9_dualOf_59 ?_
        refine zi_if_eq 69 dX9_dualOf_60 (by decide) (fun c60 => ?_) (fun c60 => ?_)
        · refine zi_ild2 dX9_dualOf_69 ?_
          refine zi_iret dX9_dualOf_70 rfl ?_
          refine ⟨_, rfl, rfl, ?_⟩
          unfold zr_df
          first
          | (exact absurd c60 (by decide))
          | (exact absurd rfl c60)
          | (rw [if_neg c11, if_neg c31, if_pos c50, pk_sub (by omega)]; done)
          | (rw [if_neg c11, if_neg c31, if_neg c50]; done)
        · refine zi_iconst (nI 5) dX9_dualOf_63 (by decide) ?_
          refine zi_ild2 dX9_dualOf_64 ?_
          refine zi_isub dX9_dualOf_65 ?_
          refine zi_goto 70 dX9_dualOf_66 (by decide) ?_
          refine zi_iret dX9_dualOf_70 rfl ?_
          refine ⟨_, rfl, rfl, ?_⟩
          unfold zr_df
          first
          | (exact absurd c60 (by decide))
          | (exact absurd rfl c60)
          | (rw [if_neg c11, if_neg c31, if_pos c50, pk_sub (by omega)]; done)
          | (rw [if_neg c11, if_neg c31, if_neg c50]; done)
    · rw [zn_eq (by omega) (by omega)] at c31
      refine zi_iconst (nI 0) dX9_dualOf_34 (by decide) ?_
      refine zi_iret dX9_dualOf_35 rfl ?_
      refine ⟨_, rfl, rfl, ?_⟩
      unfold zr_df
      rw [if_neg c11, if_pos c31]
  · rw [zn_0, zn_eq (by omega) (by omega)] at c11
    refine zi_ald0 dX9_dualOf_14 ?_
    refine zi_ild1 dX9_dualOf_15 ?_
    refine zi_cV1i vmX9_comesFrom lkX9_142 dX9_dualOf_16 (by first | assumption | decide) (Nat.le_of_ble_eq_true rfl) (c9_comesFrom hR hp) ?_
    rintro _ _ ⟨rfl, rfl⟩
    refine zi_iconst (-1) dX9_dualOf_19 (by decide) ?_
    refine zi_icmp_ne 27 dX9_dualOf_20 (by decide) (fun c20 => ?_) (fun c20 => ?_)
    · rw [zp_gI_m1] at c20
      refine zi_iconst (nI 0) dX9_dualOf_27 (by decide) ?_
      refine zi_iret dX9_dualOf_28 rfl ?_
      refine ⟨_, rfl, rfl, ?_⟩
      unfold zr_df
      first | rw [if_pos c11, if_pos (show zr_mk go p 8 = 8 by omega)] | rw [if_pos c11, if_neg (show ¬ zr_mk go p 8 = 8 by omega)]
    · rw [zp_gI_m1] at c20
      refine zi_iconst (nI 1) dX9_dualOf_23 (by decide) ?_
      refine zi_goto 28 dX9_dualOf_24 (by decide) ?_
      refine zi_iret dX9_dualOf_28 rfl ?_
      refine ⟨_, rfl, rfl, ?_⟩
      unfold zr_df
      first | rw [if_pos c11, if_pos (show zr_mk go p 8 = 8 by omega)] | rw [if_pos c11, if_neg (show ¬ zr_mk go p 8 = 8 by omega)]
theorem l9_isOwnDual {X : zg_X} (hR : zy_r σ 0 X.2.1 X.2.2) : ∀ n i, i + n = 8 → zw_W l G (d + 3) mX9_isOwnDual 4 [some (.ref 168), some (.int (if (List.range i).all (fun p => zr_df X.2.1 X.2.2 p == X.2.1 p) then nI 1 else nI 0)), some (.int (nI i))] [] σ (fun x τ => ∃ y, x = some (.int y) ∧ σ = τ ∧ y = if zx_own X then nI 1 else nI 0) := by
  intro n
  induction n with
  | zero =>
    intro i hi
    obtain rfl : i = 8 := by omega
    refine zi_ild2 dX9_isOwnDual_4 ?_
    refine zi_bipush (nI 8) dX9_isOwnDual_5 (by decide) ?_
    refine zi_icmp_ge 43 dX9_isOwnDual_7 (by decide) (fun c7 => ?_) (fun c7 => ?_)
    · refine zi_ild1 dX9_isOwnDual_43 ?_
      refine zi_zret dX9_isOwnDual_44 rfl (by split <;> decide) ?_
      exact ⟨_, rfl, rfl, rfl⟩
    · exact absurd (by decide) c7
  | succ n ih =>
    intro i hi
    obtain ⟨h1, h2, h3, -, -⟩ := hR i (by omega)
    have hd := (zr_df_ok h1 h3).1
    have e : (List.range (i + 1)).all (fun p => zr_df X.2.1 X.2.2 p == X.2.1 p) = ((List.range i).all (fun p => zr_df X.2.1 X.2.2 p == X.2.1 p) && (zr_df X.2.1 X.2.2 i == X.2.1 i)) := by
      rw [List.range_succ, List.all_append]
      simp
    have := ih (i + 1) (by omega)
    rw [e] at this
    generalize (List.range i).all (fun p => zr_df X.2.1 X.2.2 p == X.2.1 p) = b at this ⊢
    refine zi_ild2 dX9_isOwnDual_4 ?_
    refine zi_bipush (nI 8) dX9_isOwnDual_5 (by decide) ?_
    refine zi_icmp_ge 43 dX9_isOwnDual_7 (by decide) (fun c7 => ?_) (fun c7 => ?_)
    · rw [zn_le (by omega) (by omega)] at c7; omega
    · refine zi_ild1 dX9_isOwnDual_10 ?_
      refine zi_if_eq 35 dX9_isOwnDual_11 (by decide) (fun c11 => ?_) (fun c11 => ?_)
      · refine zi_iconst (nI 0) dX9_isOwnDual_35 (by decide) ?_
        refine zi_ist1 dX9_isOwnDual_36 (Nat.le_of_ble_eq_true rfl) rfl ?_
        refine zi_inc2 (nI 1) dX9_isOwnDual_37 (by decide) (Nat.le_of_ble_eq_true rfl) rfl ?_
        refine zi_goto 4 dX9_isOwnDual_40 (by decide) ?_
        rw [nI_add]
        cases b with
        | false => first | exact this | exact absurd rfl c11
        | true =>
          first
          | exact absurd c11 (by decide)
          | (rw [zn_eq (by omega) (by omega)] at c28
             rw [show (true && (zr_df X.2.1 X.2.2 i == X.2.1 i)) = true by simpa using c28] at this
             exact this)
          | (rw [zn_eq (by omega) (by omega)] at c28
             rw [show (true && (zr_df X.2.1 X.2.2 i == X.2.1 i)) = false by simpa using c28] at this
             exact this)
      · refine zi_ald0 dX9_isOwnDual_14 ?_
        refine zi_ild2 dX9_isOwnDual_15 ?_
        refine zi_cV1i vmX9_dualOf lkX9_145 dX9_isOwnDual_16 (by first | assumption | decide) (Nat.le_of_ble_eq_true rfl) (c9_dualOf hR (show i < 8 by omega)) ?_
        rintro _ _ ⟨rfl, rfl⟩
        refine zi_ald0 dX9_isOwnDual_19 ?_
        refine zi_getR dX9_isOwnDual_20 flX9_7 rfl (by first | assumption | decide) ?_
        refine zi_bipush (nI 17) dX9_isOwnDual_23 (by decide) ?_
        refine zi_ild2 dX9_isOwnDual_25 ?_
        refine zi_iadd dX9_isOwnDual_26 ?_
        refine zi_ialdN (17 + i) dX9_isOwnDual_27 (by first | assumption | decide) (nI_add _ _) (zy_b1 (by omega)) (by decide) ?_
        rw [hR.f0 (show i < 8 by omega)]
        refine zi_icmp_ne 35 dX9_isOwnDual_28 (by decide) (fun c28 => ?_) (fun c28 => ?_)
        · refine zi_iconst (nI 0) dX9_isOwnDual_35 (by decide) ?_
          refine zi_ist1 dX9_isOwnDual_36 (Nat.le_of_ble_eq_true rfl) rfl ?_
          refine zi_inc2 (nI 1) dX9_isOwnDual_37 (by decide) (Nat.le_of_ble_eq_true rfl) rfl ?_
          refine zi_goto 4 dX9_isOwnDual_40 (by decide) ?_
          rw [nI_add]
          cases b with
          | false => first | exact this | exact absurd rfl c11
          | true =>
            first
            | exact absurd c11 (by decide)
            | (rw [zn_eq (by omega) (by omega)] at c28
               rw [show (true && (zr_df X.2.1 X.2.2 i == X.2.1 i)) = true by simpa using c28] at this
               exact this)
            | (rw [zn_eq (by omega) (by omega)] at c28
               rw [show (true && (zr_df X.2.1 X.2.2 i == X.2.1 i)) = false by simpa using c28] at this
               exact this)
        · refine zi_iconst (nI 1) dX9_isOwnDual_31 (by decide) ?_
          refine zi_goto 36 dX9_isOwnDual_32 (by decide) ?_
          refine zi_ist1 dX9_isOwnDual_36 (Nat.le_of_ble_eq_true rfl) rfl ?_
          refine zi_inc2 (nI 1) dX9_isOwnDual_37 (by decide) (Nat.le_of_ble_eq_true rfl) rfl ?_
          refine zi_goto 4 dX9_isOwnDual_40 (by decide) ?_
          rw [nI_add]
          cases b with
          | false => first | exact this | exact absurd rfl c11
          | true =>
            first
            | exact absurd c11 (by decide)
            | (rw [zn_eq (by omega) (by omega)] at c28
               rw [show (true && (zr_df X.2.1 X.2.2 i == X.2.1 i)) = true by simpa using c28] at this
               exact this)
            | (rw [zn_eq (by omega) (by omega)] at c28
               rw [show (true && (zr_df X.2.1 X.2.2 i == X.2.1 i)) = false by simpa using c28] at this
               exact this)
theorem c9_isOwnDual {X : zg_X} (hR : zy_r σ 0 X.2.1 X.2.2) : zw_Ti l G (d + 3) mX9_isOwnDual [.ref 168] σ (fun x τ => σ = τ ∧ x = if zx_own X then nI 1 else nI 0) := by
  refine zw_enter2 (L := [some _, none, none]) (by decide) (Nat.le_of_ble_eq_true rfl) rfl ?_
  refine zi_iconst (nI 1) dX9_isOwnDual_0 (by decide) ?_
  refine zi_ist1 dX9_isOwnDual_1 (Nat.le_of_ble_eq_true rfl) rfl ?_
  refine zi_iconst (nI 0) dX9_isOwnDual_2 (by decide) ?_
  refine zi_ist2 dX9_isOwnDual_3 (Nat.le_of_ble_eq_true rfl) rfl ?_
  exact l9_isOwnDual hR 8 0 rfl
theorem zy_d4 {n : Nat} (h : n < 20) : n < zw_ln (168 + 4) := by rw [show zw_ln (168 + 4) = 20 by decide]; exact h
theorem zy_d5 {n : Nat} (h : n < 20) : n < zw_ln (168 + 5) := by rw [show zw_ln (168 + 5) = 20 by decide]; exact h
theorem zy_d3 {n : Nat} (h : n < 30) : n < zw_ln (168 + 3) := by rw [show zw_ln (168 + 3) = 30 by decide]; exact h
theorem zy_d2 {n : Nat} (h : n < 2) : n < zw_ln (168 + 2) := by rw [show zw_ln (168 + 2) = 2 by decide]; exact h
theorem zy_d13 {n : Nat} (h : n < 8) : n < zw_ln (168 + 13) := by rw [show zw_ln (168 + 13) = 8 by decide]; exact h
theorem l9_wrongEntry {X : zg_X} {bk : List (Nat × Int32)} (hB : zy_B σ bk) (hV : zy_R σ 0 X) : ∀ n i, i + n = bk.length → (∀ j, j < i → zb_r X.1 (bk.getD j (0, 0)) = true) → zw_W l G (d + 3) mX9_wrongEntry 2 [some (.ref 168), some (.int (nI i))] [] σ (fun x τ => ∃ y, x = some (.int y) ∧ σ = τ ∧ y = zp_oI (zb_w X.1 bk)) := by
  obtain ⟨v1, v2, v3⟩ := id hB
  have h8 := hV.1
  intro n
  induction n with
  | zero =>
    intro i hi hI
    refine zi_ild1 dX9_wrongEntry_2 ?_
    refine zi_ald0 dX9_wrongEntry_3 ?_
    refine zi_getI dX9_wrongEntry_4 flX9_162 rfl (by first | assumption | decide) ?_
    refine zi_icmp_ge 53 dX9_wrongEntry_7 (by decide) (fun c7 => ?_) (fun c7 => ?_)
    · refine zi_iconst (-1) dX9_wrongEntry_53 (by decide) ?_
      refine zi_iret dX9_wrongEntry_54 rfl ?_
      refine ⟨_, rfl, rfl, ?_⟩
      rw [zb_w_none (fun j hj => hI j (by omega))]; rfl
    · rw [v2, zn_le (by omega) (by omega)] at c7; omega
  | succ n ih =>
    intro i hi hI
    obtain ⟨b1, b2, b3⟩ := v3 i (by omega)
    refine zi_ild1 dX9_wrongEntry_2 ?_
    refine zi_ald0 dX9_wrongEntry_3 ?_
    refine zi_getI dX9_wrongEntry_4 flX9_162 rfl (by first | assumption | decide) ?_
    refine zi_icmp_ge 53 dX9_wrongEntry_7 (by decide) (fun c7 => ?_) (fun c7 => ?_)
    · rw [v2, zn_le (by omega) (by omega)] at c7; omega
    · refine zi_ald0 dX9_wrongEntry_10 ?_
      refine zi_ald0 dX9_wrongEntry_11 ?_
      refine zi_getR dX9_wrongEntry_12 flX9_23 rfl (by first | assumption | decide) ?_
      refine zi_ild1 dX9_wrongEntry_15 ?_
      refine zi_ialdN i dX9_wrongEntry_16 (by first | assumption | decide) rfl (zy_d4 (by omega)) (by decide) ?_
      rw [b2]
      refine zi_cV1i vmX9_isTree lkX9_165 dX9_wrongEntry_17 (by first | assumption | decide) (Nat.le_of_ble_eq_true rfl) (c9_isTree hV) ?_
      rintro _ _ ⟨rfl, rfl⟩
      refine zi_if_eq 45 dX9_wrongEntry_20 (by decide) (fun c20 => ?_) (fun c20 => ?_)
      · refine zi_ild1 dX9_wrongEntry_45 ?_
        refine zi_iret dX9_wrongEntry_46 rfl ?_
        refine ⟨_, rfl, rfl, ?_⟩
        rw [zb_w_some (i := i) (by omega) hI]
        · rfl
        · first
          | (simp only [zb_r, decide_eq_true hlt, Bool.true_and, beq_eq_false_iff_ne, ne_eq]; exact c42)
          | (have q : ¬ (bk.getD i (0, 0)).1 < X.1.length := by
               intro q
               rw [zx_ix_in (by omega) q, if_pos (by rfl)] at c20; exact absurd c20 (by decide)
             simp only [zb_r, decide_eq_false q, Bool.false_and])
      · have hlt : (bk.getD i (0, 0)).1 < X.1.length := by
          by_cases q : (bk.getD i (0, 0)).1 < X.1.length
          · exact q
          · rw [zx_ix_out (by omega) (Or.inr (by rw [zn_le (by omega) (by omega)]; omega)), if_neg (by decide)] at c20; exact absurd rfl c20
        refine zi_ald0 dX9_wrongEntry_23 ?_
        refine zi_getR dX9_wrongEntry_24 flX9_7 rfl (by first | assumption | decide) ?_
        refine zi_iconst (nI 1) dX9_wrongEntry_27 (by decide) ?_
        refine zi_ald0 dX9_wrongEntry_28 ?_
        refine zi_getR dX9_wrongEntry_29 flX9_23 rfl (by first | assumption | decide) ?_
        refine zi_ild1 dX9_wrongEntry_32 ?_
        refine zi_ialdN i dX9_wrongEntry_33 (by first | assumption | decide) rfl (zy_d4 (by omega)) (by decide) ?_
        rw [b2]
        refine zi_iadd dX9_wrongEntry_34 ?_
        refine zi_ialdN (1 + (bk.getD i (0, 0)).1) dX9_wrongEntry_35 (by first | assumption | decide) (nI_add _ _) (zy_b1 (by omega)) (by decide) ?_
        rw [hV.c0 hlt]
        refine zi_ald0 dX9_wrongEntry_36 ?_
        refine zi_getR dX9_wrongEntry_37 flX9_26 rfl (by first | assumption | decide) ?_
        refine zi_ild1 dX9_wrongEntry_40 ?_
        refine zi_ialdN i dX9_wrongEntry_41 (by first | assumption | decide) rfl (zy_d5 (by omega)) (by decide) ?_
        rw [b3]
        refine zi_icmp_eq 47 dX9_wrongEntry_42 (by decide) (fun c42 => ?_) (fun c42 => ?_)
        · refine zi_inc1 (nI 1) dX9_wrongEntry_47 (by decide) (Nat.le_of_ble_eq_true rfl) rfl ?_
          refine zi_goto 2 dX9_wrongEntry_50 (by decide) ?_
          rw [nI_add]
          refine ih (i + 1) (by omega) (fun j hj => ?_)
          by_cases e : j = i
          · subst e
            simp only [zb_r, decide_eq_true hlt, Bool.true_and, beq_iff_eq]; exact c42
          · exact hI j (by omega)
        · refine zi_ild1 dX9_wrongEntry_45 ?_
          refine zi_iret dX9_wrongEntry_46 rfl ?_
          refine ⟨_, rfl, rfl, ?_⟩
          rw [zb_w_some (i := i) (by omega) hI]
          · rfl
          · first
            | (simp only [zb_r, decide_eq_true hlt, Bool.true_and, beq_eq_false_iff_ne, ne_eq]; exact c42)
            | (have q : ¬ (bk.getD i (0, 0)).1 < X.1.length := by
                 intro q
                 rw [zx_ix_in (by omega) q, if_pos (by rfl)] at c20; exact absurd c20 (by decide)
               simp only [zb_r, decide_eq_false q, Bool.false_and])
theorem c9_wrongEntry {X : zg_X} {bk : List (Nat × Int32)} (hB : zy_B σ bk) (hV : zy_R σ 0 X) : zw_Ti l G (d + 3) mX9_wrongEntry [.ref 168] σ (fun x τ => σ = τ ∧ x = zp_oI (zb_w X.1 bk)) := by
  refine zw_enter2 (L := [some _, none]) (by decide) (Nat.le_of_ble_eq_true rfl) rfl ?_
  refine zi_iconst (nI 0) dX9_wrongEntry_0 (by decide) ?_
  refine zi_ist1 dX9_wrongEntry_1 (Nat.le_of_ble_eq_true rfl) rfl ?_
  exact l9_wrongEntry hB hV bk.length 0 (by omega) (fun j hj => by omega)
theorem c9_lay (hW : zy_w σ w s) {t : Nat} (ht : t < 8) : zw_Tv l G (d + 2) mX9_lay [.ref 168, .int (nI t)] σ (fun υ => υ = zw_pI (zw_pI σ (168 + 1) (1 + t) (nI (zt_code w))) (168 + 1) (9 + t) s) := by
  refine zw_enter2 (L := [some _, some _]) (by decide) (Nat.le_of_ble_eq_true rfl) rfl ?_
  refine zi_ald0 dX9_lay_0 ?_
  refine zi_getR dX9_lay_1 flX9_7 rfl (by first | assumption | decide) ?_
  refine zi_iconst (nI 1) dX9_lay_4 (by decide) ?_
  refine zi_ild1 dX9_lay_5 ?_
  refine zi_iadd dX9_lay_6 ?_
  refine zi_ald0 dX9_lay_7 ?_
  refine zi_cV0i vmX9_code lkX9_117 dX9_lay_8 (by first | assumption | decide) (Nat.le_of_ble_eq_true rfl) (c9_code hW) ?_
  rintro _ _ ⟨rfl, rfl⟩
  refine zi_iastN (1 + t) dX9_lay_11 (by first | assumption | decide) (nI_add _ _) (zy_b1 (by omega)) (by decide) ?_
  refine zi_ald0 dX9_lay_12 ?_
  refine zi_getR dX9_lay_13 flX9_7 rfl (by first | assumption | decide) ?_
  refine zi_bipush (nI 9) dX9_lay_16 (by decide) ?_
  refine zi_ild1 dX9_lay_18 ?_
  refine zi_iadd dX9_lay_19 ?_
  refine zi_ald0 dX9_lay_20 ?_
  refine zi_getI dX9_lay_21 flX9_61 rfl (by first | assumption | decide) ?_
  rw [zs_obj (by decide), hW.2.2.2.1]
  refine zi_iastN (9 + t) dX9_lay_24 (by first | assumption | decide) (nI_add _ _) (zy_b1 (by omega)) (by decide) ?_
  refine zi_ret dX9_lay_25 rfl ?_
  exact ⟨rfl, rfl⟩
theorem zy_R.put {X : zg_X} (hV : zy_R σ 0 X) {t : Nat} (ht : t < X.1.length) (hw : zt_wd w) (hg : zg_s (w, s)) : zy_R (zw_pI (zw_pI σ (168 + 1) (1 + t) (nI (zt_code w))) (168 + 1) (9 + t) s) 0 (X.1.set t (w, s), X.2) := by
  obtain ⟨v1, v2, v3, v4, v5⟩ := hV
  refine ⟨by rw [List.length_set]; exact v1, ?_, ?_, fun i hi => ?_, fun p hp => ?_⟩
  · intro x hx
    rcases List.mem_or_eq_of_mem_set hx with q | q
    · exact v2 x q
    · rw [q]; exact ⟨hw, hg⟩
  · rw [zs_slot (by omega), zs_slot (by omega), List.length_set]; exact v3
  · rw [List.length_set] at hi
    rw [Nat.zero_add, Nat.zero_add, zd_set ht]
    have := v4 i hi
    rw [Nat.zero_add, Nat.zero_add] at this
    by_cases e : i = t
    · subst e
      rw [zs_slot (by omega), zs_same, zs_same, if_pos rfl]; exact ⟨rfl, rfl⟩
    · rw [zs_slot (by omega), zs_slot (by omega), zs_slot (by omega), zs_slot (by omega), if_neg e]
      exact this
  · rw [zs_slot (by omega), zs_slot (by omega), zs_slot (by omega), zs_slot (by omega)]
    exact v5 p hp
theorem c9_layT {X : zg_X} (hR : zy_R σ 0 X) (hW : zy_w σ w s) {t : Nat} (ht : t < X.1.length) (hw : zt_wd w) (hg : zg_s (w, s)) : zw_Tv l G (d + 2) mX9_lay [.ref 168, .int (nI t)] σ (fun υ => zy_R υ 0 (X.1.set t (w, s), X.2) ∧ zy_Q σ υ ∧ zy_w υ w s ∧ υ.1 (168 + 1) (1 + t) = nI (zt_code w)) := by
  have h8 := hR.1
  refine (c9_lay hW (show t < 8 by omega)).mono ?_
  rintro r υ ⟨e, rfl⟩
  exact ⟨e, hR.put ht hw hg, (zy_Q.rf.row (by omega)).row (by omega), hW.ar (by rw [zs_obj (by decide), zs_obj (by decide)]) (by rw [zs_obj (by decide), zs_obj (by decide)]) (by rw [zs_obj (by decide), zs_obj (by decide)]), by rw [zs_slot (by omega), zs_same]⟩
theorem c9_shelve {X : zg_X} (hR : zy_R σ 0 X) (h8 : X.1.length < 8) (hW : zy_w σ w s) (hw : zt_wd w) (hg : zg_s (w, s)) : zw_Ti l G (d + 3) mX9_shelve [.ref 168] σ (fun x υ => x = nI X.1.length ∧ zy_R υ 0 (X.1 ++ [(w, s)], X.2) ∧ zy_Q σ υ) := by
  obtain ⟨v1, v2, v3, v4, v5⟩ := id hR
  refine zw_enter2 (L := [some _, none]) (by decide) (Nat.le_of_ble_eq_true rfl) rfl ?_
  refine zi_ald0 dX9_shelve_0 ?_
  refine zi_getR dX9_shelve_1 flX9_7 rfl (by first | assumption | decide) ?_
  refine zi_iconst (nI 0) dX9_shelve_4 (by decide) ?_
  refine zi_ialdN 0 dX9_shelve_5 (by first | assumption | decide) rfl (zy_b1 (by omega)) (by decide) ?_
  rw [v3]
  refine zi_ist1 dX9_shelve_6 (Nat.le_of_ble_eq_true rfl) rfl ?_
  refine zi_ald0 dX9_shelve_7 ?_
  refine zi_getR dX9_shelve_8 flX9_7 rfl (by first | assumption | decide) ?_
  refine zi_iconst (nI 0) dX9_shelve_11 (by decide) ?_
  refine zi_dup2ri dX9_shelve_12 ?_
  refine zi_ialdN 0 dX9_shelve_13 (by first | assumption | decide) rfl (zy_b1 (by omega)) (by decide) ?_
  rw [v3]
  refine zi_iconst (nI 1) dX9_shelve_14 (by decide) ?_
  refine zi_iadd dX9_shelve_15 ?_
  rw [nI_add]
  refine zi_iastN 0 dX9_shelve_16 (by first | assumption | decide) rfl (zy_b1 (by omega)) (by decide) ?_
  refine zi_ald0 dX9_shelve_17 ?_
  refine zi_ild1 dX9_shelve_18 ?_
  refine zi_cV1v vmX9_lay lkX9_211 dX9_shelve_19 (by first | assumption | decide) (Nat.le_of_ble_eq_true rfl) (c9_lay (hW.ar (τ := zw_pI σ (168 + 1) 0 (nI (X.1.length + 1))) (by rw [zs_obj (by decide)]) (by rw [zs_obj (by decide)]) (by rw [zs_obj (by decide)])) h8) ?_
  rintro _ rfl
  refine zi_ild1 dX9_shelve_22 ?_
  refine zi_iret dX9_shelve_23 rfl ?_
  refine ⟨_, rfl, rfl, ⟨by simp; omega, ?_, ?_, fun i hi => ?_, fun p hp => ?_⟩, ((zy_Q.rf.row (by omega)).row (by omega)).row (by omega)⟩
  · intro x hx
    rcases List.mem_append.mp hx with q | q
    · exact v2 x q
    · rw [List.mem_singleton.mp q]; exact ⟨hw, hg⟩
  · rw [zs_slot (by omega), zs_slot (by omega), zs_same, List.length_append]; rfl
  · rw [List.length_append, List.length_singleton] at hi
    rw [Nat.zero_add, Nat.zero_add]
    by_cases e : i = X.1.length
    · subst e
      rw [zs_slot (by omega), zs_same, zs_same, zd_hi (Nat.le_refl _), Nat.sub_self]; exact ⟨rfl, rfl⟩
    · have := v4 i (by omega)
      rw [Nat.zero_add, Nat.zero_add] at this
      rw [zs_slot (by omega), zs_slot (by omega), zs_slot (by omega), zs_slot (by omega), zs_slot (by omega), zs_slot (by omega), zd_lo (by omega)]
      exact this
  · rw [zs_slot (by omega), zs_slot (by omega), zs_slot (by omega), zs_slot (by omega), zs_slot (by omega), zs_slot (by omega)]
    exact v5 p hp
end Z37
