/-! THE MODEL: what it holds, and words -/
theorem zy_b1 {n : Nat} (h : n < 782) : n < zw_ln (168 + 1) := by rw [show zw_ln (168 + 1) = 782 by decide]; exact h
theorem zy_b6 {n : Nat} (h : n < 16) : n < zw_ln (168 + 6) := by rw [show zw_ln (168 + 6) = 16 by decide]; exact h
theorem zy_b7 {n : Nat} (h : n < 16) : n < zw_ln (168 + 7) := by rw [show zw_ln (168 + 7) = 16 by decide]; exact h
theorem zy_b8 {n : Nat} (h : n < 16) : n < zw_ln (168 + 8) := by rw [show zw_ln (168 + 8) = 16 by decide]; exact h
/-- the rules of the row that begins at b -/
def zy_r (σ : zw_S) (b : Nat) (fa go : Nat → Nat) : Prop := ∀ p, p < 8 → fa p < 4 ∧ go p ≤ 8 ∧ (2 ≤ fa p ↔ go p < 8) ∧ σ.1 (168 + 1) (b + (17 + p)) = nI (fa p) ∧ σ.1 (168 + 1) (b + (25 + p)) = zp_gI (go p)
/-- the state of the row that begins at b -/
def zy_R (σ : zw_S) (b : Nat) (X : zg_X) : Prop := X.1.length ≤ 8 ∧ (∀ x ∈ X.1, zt_wd x.1 ∧ zg_s x) ∧ σ.1 (168 + 1) b = nI X.1.length ∧ (∀ i, i < X.1.length → σ.1 (168 + 1) (b + (1 + i)) = nI (zt_code (X.1.getD i zg_d).1) ∧ σ.1 (168 + 1) (b + (9 + i)) = (X.1.getD i zg_d).2) ∧ zy_r σ b X.2.1 X.2.2
/-- the word that is worked on -/
def zy_w (σ : zw_S) (w : List Nat) (s : Int32) : Prop := w.length ≤ 13 ∧ (∀ x ∈ w, x < 3) ∧ σ.1 168 12 = nI w.length ∧ σ.1 168 13 = s ∧ ∀ i, i < w.length → σ.1 (168 + 6) i = nI (w.getD i 0)
/-- only what is worked on is another -/
def zy_S (σ τ : zw_S) : Prop := τ.2 = σ.2 ∧ (∀ o, o ≠ 168 → ¬ (174 ≤ o ∧ o < 177) → τ.1 o = σ.1 o) ∧ ∀ j, j ≠ 12 → j ≠ 13 → j ≠ 15 → τ.1 168 j = σ.1 168 j
theorem zy_S.rf {σ : zw_S} : zy_S σ σ := ⟨rfl, fun _ _ _ => rfl, fun _ _ _ _ => rfl⟩
theorem zy_S.tr {σ τ υ : zw_S} (h1 : zy_S σ τ) (h2 : zy_S τ υ) : zy_S σ υ := ⟨h2.1.trans h1.1, fun o a b => (h2.2.1 o a b).trans (h1.2.1 o a b), fun j a b c => (h2.2.2 j a b c).trans (h1.2.2 j a b c)⟩
theorem zy_S.arr {σ τ : zw_S} {o i : Nat} {v : Int32} (h : zy_S σ τ) (ho : 174 ≤ o ∧ o < 177) : zy_S σ (zw_pI τ o i v) := ⟨h.1, fun k a b => by rw [zs_obj (show k ≠ o by omega)]; exact h.2.1 k a b, fun j a b c => by rw [zs_obj (by omega)]; exact h.2.2 j a b c⟩
theorem zy_S.fld {σ τ : zw_S} {i : Nat} {v : Int32} (h : zy_S σ τ) (hi : i = 12 ∨ i = 13 ∨ i = 15) : zy_S σ (zw_pI τ 168 i v) := ⟨h.1, fun k a b => by rw [zs_obj a]; exact h.2.1 k a b, fun j a b c => by rw [zs_slot (by omega)]; exact h.2.2 j a b c⟩
theorem zy_r.cg {σ τ : zw_S} {b : Nat} {fa go : Nat → Nat} (h : zy_r σ b fa go) (hF : τ.1 (168 + 1) = σ.1 (168 + 1)) : zy_r τ b fa go := fun p hp => by rw [hF]; exact h p hp
theorem zy_R.cg {σ τ : zw_S} {b : Nat} {X : zg_X} (h : zy_R σ b X) (hF : τ.1 (168 + 1) = σ.1 (168 + 1)) : zy_R τ b X := ⟨h.1, h.2.1, by rw [hF]; exact h.2.2.1, fun i hi => by rw [hF]; exact h.2.2.2.1 i hi, h.2.2.2.2.cg hF⟩
theorem zy_S.w {σ τ : zw_S} (h : zy_S σ τ) : τ.1 (168 + 1) = σ.1 (168 + 1) := h.2.1 _ (by omega) (by omega)
theorem zy_r.f0 {σ : zw_S} {fa go : Nat → Nat} (h : zy_r σ 0 fa go) {p : Nat} (hp : p < 8) : σ.1 (168 + 1) (17 + p) = nI (fa p) := by
  have := (h p hp).2.2.2.1
  rwa [Nat.zero_add] at this
theorem zy_r.g0 {σ : zw_S} {fa go : Nat → Nat} (h : zy_r σ 0 fa go) {p : Nat} (hp : p < 8) : σ.1 (168 + 1) (25 + p) = zp_gI (go p) := by
  have := (h p hp).2.2.2.2
  rwa [Nat.zero_add] at this
theorem zy_R.c0 {σ : zw_S} {X : zg_X} (h : zy_R σ 0 X) {i : Nat} (hi : i < X.1.length) : σ.1 (168 + 1) (1 + i) = nI (zt_code (X.1.getD i zg_d).1) := by
  have := (h.2.2.2.1 i hi).1
  rwa [Nat.zero_add] at this
theorem zy_R.s0 {σ : zw_S} {X : zg_X} (h : zy_R σ 0 X) {i : Nat} (hi : i < X.1.length) : σ.1 (168 + 1) (9 + i) = (X.1.getD i zg_d).2 := by
  have := (h.2.2.2.1 i hi).2
  rwa [Nat.zero_add] at this
theorem zy_R.item {σ : zw_S} {b : Nat} {X : zg_X} (h : zy_R σ b X) {i : Nat} (hi : i < X.1.length) : zt_wd (X.1.getD i zg_d).1 ∧ zg_s (X.1.getD i zg_d) := by
  rw [List.getD_eq_getElem?_getD, List.getElem?_eq_getElem hi]
  exact h.2.1 _ (List.getElem_mem hi)
section Z31
variable {l : Launch} {G : zw_G} {d : Nat} {σ : zw_S} {w : List Nat} {s : Int32} {fa go : Nat → Nat}
theorem c9_in {v a b : Int32} : zw_Ti l G (d + 1) mX9_in [.int v, .int a, .int b] σ (fun x τ => σ = τ ∧ x = if a ≤ v ∧ v ≤ b then nI 1 else nI 0) := by
  refine zw_enter2 (L := [some _, some _, some _]) (by decide) (Nat.le_of_ble_eq_true rfl) rfl ?_
  refine zi_ild0 dX9_in_0 ?_
  refine zi_ild1 dX9_in_1 ?_
  refine zi_icmp_lt 14 dX9_in_2 (by decide) (fun c2 => ?_) (fun c2 => ?_)
  · refine zi_iconst (nI 0) dX9_in_14 (by decide) ?_
    refine zi_zret dX9_in_15 rfl (by decide) ?_
    refine ⟨_, rfl, rfl, ?_⟩
    first
    | (rw [if_pos ⟨Int32.not_lt.mp c2, Int32.not_lt.mp c7⟩]; done)
    | (rw [if_neg (fun q => absurd q.2 (Int32.not_le.mpr c7))]; done)
    | (rw [if_neg (fun q => absurd q.1 (Int32.not_le.mpr c2))]; done)
  · refine zi_ild0 dX9_in_5 ?_
    refine zi_ild2 dX9_in_6 ?_
    refine zi_icmp_gt 14 dX9_in_7 (by decide) (fun c7 => ?_) (fun c7 => ?_)
    · refine zi_iconst (nI 0) dX9_in_14 (by decide) ?_
      refine zi_zret dX9_in_15 rfl (by decide) ?_
      refine ⟨_, rfl, rfl, ?_⟩
      first
      | (rw [if_pos ⟨Int32.not_lt.mp c2, Int32.not_lt.mp c7⟩]; done)
      | (rw [if_neg (fun q => absurd q.2 (Int32.not_le.mpr c7))]; done)
      | (rw [if_neg (fun q => absurd q.1 (Int32.not_le.mpr c2))]; done)
    · refine zi_iconst (nI 1) dX9_in_10 (by decide) ?_
      refine zi_goto 15 dX9_in_11 (by decide) ?_
      refine zi_zret dX9_in_15 rfl (by decide) ?_
      refine ⟨_, rfl, rfl, ?_⟩
      first
      | (rw [if_pos ⟨Int32.not_lt.mp c2, Int32.not_lt.mp c7⟩]; done)
      | (rw [if_neg (fun q => absurd q.2 (Int32.not_le.mpr c7))]; done)
      | (rw [if_neg (fun q => absurd q.1 (Int32.not_le.mpr c2))]; done)
theorem c9_in_ix {v : Int32} {n : Nat} (hn : n < 2147483648) : zw_Ti l G (d + 1) mX9_in [.int v, .int (nI 0), .int (nI n - nI 1)] σ (fun x τ => σ = τ ∧ x = if (zx_ix v n).isSome then nI 1 else nI 0) := by
  refine c9_in.mono ?_
  rintro r τ ⟨x, e, h1, h2⟩
  refine ⟨x, e, h1, ?_⟩
  rw [h2]
  rcases zn_case v hn with ho | ⟨j, hj, rfl⟩
  · rw [zx_ix_out hn ho, if_neg, if_neg (by decide)]
    rintro ⟨q1, q2⟩
    rcases ho with o | o
    · exact absurd q1 (Int32.not_le.mpr o)
    · have := Int32.le_trans o q2
      cases n with
      | zero => exact absurd this (by decide)
      | succ n =>
        rw [pk_sub (by omega), zn_le (by omega) (by omega)] at this
        omega
  · rw [zx_ix_in hn hj, if_pos, if_pos (show (some j).isSome = true from rfl)]
    refine ⟨?_, ?_⟩
    · rw [zn_le (by omega) (by omega)]; omega
    · rw [pk_sub (by omega), zn_le (by omega) (by omega)]; omega
theorem l9_copyRow {x y : Nat} (hx : x + 34 ≤ 782) (hy : y + 34 ≤ 782) (ha : x + 34 ≤ y ∨ y + 34 ≤ x) : ∀ n i τ, i + n = 34 → (∀ k, k < i → τ.1 (168 + 1) (y + k) = σ.1 (168 + 1) (x + k)) → (∀ j, (j < y ∨ y + i ≤ j) → τ.1 (168 + 1) j = σ.1 (168 + 1) j) → zw_F (fun o => o = 168 + 1) σ τ → zw_W l G (d + 1) mX9_copyRow 2 [some (.ref 168), some (.int (nI x)), some (.int (nI y)), some (.int (nI i))] [] τ (fun r υ => r = none ∧ (∀ k, k < 34 → υ.1 (168 + 1) (y + k) = σ.1 (168 + 1) (x + k)) ∧ (∀ j, (j < y ∨ y + 34 ≤ j) → υ.1 (168 + 1) j = σ.1 (168 + 1) j) ∧ zw_F (fun o => o = 168 + 1) σ υ) := by
  intro n
  induction n with
  | zero =>
    intro i τ hi h1 h2 h3
    obtain rfl : i = 34 := by omega
    refine zi_ild3 dX9_copyRow_2 ?_
    refine zi_bipush (nI 34) dX9_copyRow_3 (by decide) ?_
    refine zi_icmp_ge 30 dX9_copyRow_5 (by decide) (fun c5 => ?_) (fun c5 => ?_)
    · refine zi_ret dX9_copyRow_30 rfl ?_
      exact ⟨rfl, h1, h2, h3⟩
    · exact absurd (by decide) c5
  | succ n ih =>
    intro i τ hi h1 h2 h3
    refine zi_ild3 dX9_copyRow_2 ?_
    refine zi_bipush (nI 34) dX9_copyRow_3 (by decide) ?_
    refine zi_icmp_ge 30 dX9_copyRow_5 (by decide) (fun c5 => ?_) (fun c5 => ?_)
    · rw [zn_le (by omega) (by omega)] at c5; omega
    · refine zi_ald0 dX9_copyRow_8 ?_
      refine zi_getR dX9_copyRow_9 flX9_7 rfl (by first | assumption | decide) ?_
      refine zi_ild2 dX9_copyRow_12 ?_
      refine zi_ild3 dX9_copyRow_13 ?_
      refine zi_iadd dX9_copyRow_14 ?_
      refine zi_ald0 dX9_copyRow_15 ?_
      refine zi_getR dX9_copyRow_16 flX9_7 rfl (by first | assumption | decide) ?_
      refine zi_ild1 dX9_copyRow_19 ?_
      refine zi_ild3 dX9_copyRow_20 ?_
      refine zi_iadd dX9_copyRow_21 ?_
      refine zi_ialdN (x + i) dX9_copyRow_22 (by first | assumption | decide) (nI_add _ _) (zy_b1 (by omega)) (by decide) ?_
      refine zi_iastN (y + i) dX9_copyRow_23 (by first | assumption | decide) (nI_add _ _) (zy_b1 (by omega)) (by decide) ?_
      refine zi_inc3 (nI 1) dX9_copyRow_24 (by decide) (Nat.le_of_ble_eq_true rfl) rfl ?_
      refine zi_goto 2 dX9_copyRow_27 (by decide) ?_
      rw [nI_add]
      refine ih (i + 1) _ (by omega) (fun k hk => ?_) (fun j hj => ?_) (h3.pI rfl)
      · by_cases e : k = i
        · rw [e, zs_same, h2 (x + i) (by omega)]
        · rw [zs_slot (by omega), h1 k (by omega)]
      · rw [zs_slot (by omega), h2 j (by omega)]
theorem c9_copyRow {x y : Nat} (hx : x + 34 ≤ 782) (hy : y + 34 ≤ 782) (ha : x + 34 ≤ y ∨ y + 34 ≤ x) : zw_Tv l G (d + 1) mX9_copyRow [.ref 168, .int (nI x), .int (nI y)] σ (fun υ => (∀ k, k < 34 → υ.1 (168 + 1) (y + k) = σ.1 (168 + 1) (x + k)) ∧ (∀ j, (j < y ∨ y + 34 ≤ j) → υ.1 (168 + 1) j = σ.1 (168 + 1) j) ∧ zw_F (fun o => o = 168 + 1) σ υ) := by
  refine zw_enter2 (L := [some _, some _, some _, none]) (by decide) (Nat.le_of_ble_eq_true rfl) rfl ?_
  refine zi_iconst (nI 0) dX9_copyRow_0 (by decide) ?_
  refine zi_ist3 dX9_copyRow_1 (Nat.le_of_ble_eq_true rfl) rfl ?_
  exact l9_copyRow hx hy ha 34 0 σ rfl (fun k hk => by omega) (fun j hj => rfl) zw_F.rf
theorem c9_isTree {X : zg_X} (hR : zy_R σ 0 X) {t : Int32} : zw_Ti l G (d + 2) mX9_isTree [.ref 168, .int t] σ (fun x τ => σ = τ ∧ x = if (zx_ix t X.1.length).isSome then nI 1 else nI 0) := by
  have h8 := hR.1
  refine zw_enter2 (L := [some _, some _]) (by decide) (Nat.le_of_ble_eq_true rfl) rfl ?_
  refine zi_ild1 dX9_isTree_0 ?_
  refine zi_iconst (nI 0) dX9_isTree_1 (by decide) ?_
  refine zi_ald0 dX9_isTree_2 ?_
  refine zi_getR dX9_isTree_3 flX9_7 rfl (by first | assumption | decide) ?_
  refine zi_iconst (nI 0) dX9_isTree_6 (by decide) ?_
  refine zi_ialdN 0 dX9_isTree_7 (by first | assumption | decide) rfl (zy_b1 (by omega)) (by decide) ?_
  rw [hR.2.2.1]
  refine zi_iconst (nI 1) dX9_isTree_8 (by decide) ?_
  refine zi_isub dX9_isTree_9 ?_
  refine zi_cS3i smX9_in lkX9_54 dX9_isTree_10 (Nat.le_of_ble_eq_true rfl) (c9_in_ix (show X.1.length < 2147483648 by omega)) ?_
  rintro _ _ ⟨rfl, rfl⟩
  refine zi_zret dX9_isTree_13 rfl (by split <;> decide) ?_
  exact ⟨_, rfl, rfl, rfl⟩
theorem l9_open1 (hx : ∀ x ∈ w, x < 3) (hn : zt_nm w) (h13 : w.length ≤ 13) {P : Option Value → zw_S → Prop} {x5 : Option Value} (hk : zw_W l G (d + 1) mX9_open 23 [some (.ref 168), some (.int (nI (zt_code w))), some (.int s), some (.int (nI w.length)), some (.int (nI (zt_code w / 3 ^ (w.length - 1)))), x5] [] σ P) : ∀ n i, i + n = w.length → 1 ≤ i → zw_W l G (d + 1) mX9_open 5 [some (.ref 168), some (.int (nI (zt_code w))), some (.int s), some (.int (nI i)), some (.int (nI (zt_code w / 3 ^ (i - 1)))), x5] [] σ P := by
  have hc := zt_code_small hx h13
  have hlt := zt_code_lt w hx
  intro n
  induction n with
  | zero =>
    intro i hi h1
    obtain rfl : i = w.length := by omega
    have hd := Nat.div_le_self (zt_code w) (3 ^ (w.length - 1))
    refine zi_ild4 dX9_open_5 ?_
    refine zi_iconst (nI 3) dX9_open_7 (by decide) ?_
    refine zi_icmp_lt 23 dX9_open_8 (by decide) (fun c8 => ?_) (fun c8 => ?_)
    · exact hk
    · exfalso
      rw [zn_lt (by omega) (by omega)] at c8
      have e : 3 ^ w.length = 3 ^ (w.length - 1) * 3 := by rw [← Nat.pow_succ]; congr 1; omega
      have := Nat.div_lt_of_lt_mul (show zt_code w < 3 ^ (w.length - 1) * 3 by omega)
      omega
  | succ n ih =>
    intro i hi h1
    have hge := zt_code_ge hn (by omega)
    have hd := Nat.div_le_self (zt_code w) (3 ^ (i - 1))
    have h3 : 3 ^ (i - 1) * 3 = 3 ^ i := by rw [← Nat.pow_succ]; congr 1; omega
    have h4 : 3 ^ i ≤ 3 ^ (w.length - 1) := Nat.pow_le_pow_right (by decide) (by omega)
    have h5 : 3 ≤ zt_code w / 3 ^ (i - 1) := (Nat.le_div_iff_mul_le (Nat.pow_pos (by decide))).mpr (by omega)
    refine zi_ild4 dX9_open_5 ?_
    refine zi_iconst (nI 3) dX9_open_7 (by decide) ?_
    refine zi_icmp_lt 23 dX9_open_8 (by decide) (fun c8 => ?_) (fun c8 => ?_)
    · rw [zn_lt (by omega) (by omega)] at c8; omega
    · refine zi_ild4 dX9_open_11 ?_
      refine zi_iconst (nI 3) dX9_open_13 (by decide) ?_
      refine zi_idiv dX9_open_14 (by decide) ?_
      refine zi_ist4 dX9_open_15 (Nat.le_of_ble_eq_true rfl) rfl ?_
      refine zi_inc3 (nI 1) dX9_open_17 (by decide) (Nat.le_of_ble_eq_true rfl) rfl ?_
      refine zi_goto 5 dX9_open_20 (by decide) ?_
      rw [pk_div (by omega) (by decide) (by decide), Nat.div_div_eq_div_mul, h3, nI_add]
      have := ih (i + 1) (by omega) (by omega)
      rw [Nat.add_sub_cancel] at this
      exact this
theorem l9_open2 (hx : ∀ x ∈ w, x < 3) (h13 : w.length ≤ 13) {x1 : Int32} : ∀ j τ, j ≤ w.length → (∀ i, j ≤ i → i < w.length → τ.1 (168 + 6) i = nI (w.getD i 0)) → τ.1 168 12 = nI w.length → τ.1 168 13 = s → zy_S σ τ → zw_W l G (d + 1) mX9_open 41 [some (.ref 168), some (.int x1), some (.int s), some (.int (nI w.length)), some (.int (nI (zt_code w / 3 ^ (w.length - j)))), some (.int (nI j + (-1)))] [] τ (fun r υ => r = none ∧ zy_w υ w s ∧ zy_S σ υ) := by
  have hc := zt_code_small hx h13
  intro j
  induction j with
  | zero =>
    intro τ hj h1 h2 h3 h4
    refine zi_ild5 dX9_open_41 ?_
    refine zi_if_lt 69 dX9_open_43 (by decide) (fun c43 => ?_) (fun c43 => ?_)
    · refine zi_ret dX9_open_69 rfl ?_
      exact ⟨rfl, ⟨h13, hx, h2, h3, fun i hi => h1 i (by omega) hi⟩, h4⟩
    · exact absurd (by decide) c43
  | succ j ih =>
    intro τ hj h1 h2 h3 h4
    rw [pk_m1]
    have hd := Nat.div_le_self (zt_code w) (3 ^ (w.length - (j + 1)))
    have hdg := zt_digit hx (show j < w.length by omega)
    rw [show w.length - 1 - j = w.length - (j + 1) by omega] at hdg
    refine zi_ild5 dX9_open_41 ?_
    refine zi_if_lt 69 dX9_open_43 (by decide) (fun c43 => ?_) (fun c43 => ?_)
    · rw [zn_0, zn_neg j (by omega)] at c43; exact c43.elim
    · refine zi_ald0 dX9_open_46 ?_
      refine zi_getR dX9_open_47 flX9_29 rfl (by first | assumption | decide) ?_
      refine zi_ild5 dX9_open_50 ?_
      refine zi_ild4 dX9_open_52 ?_
      refine zi_iconst (nI 3) dX9_open_54 (by decide) ?_
      refine zi_irem dX9_open_55 (by decide) ?_
      refine zi_iastN j dX9_open_56 (by first | assumption | decide) rfl (zy_b6 (by omega)) (by decide) ?_
      refine zi_ild4 dX9_open_57 ?_
      refine zi_iconst (nI 3) dX9_open_59 (by decide) ?_
      refine zi_idiv dX9_open_60 (by decide) ?_
      refine zi_ist4 dX9_open_61 (Nat.le_of_ble_eq_true rfl) rfl ?_
      refine zi_inc5 (-1) dX9_open_63 (by decide) (Nat.le_of_ble_eq_true rfl) rfl ?_
      refine zi_goto 41 dX9_open_66 (by decide) ?_
      rw [pk_rem (by omega) (by decide) (by decide), hdg, pk_div (by omega) (by decide) (by decide), Nat.div_div_eq_div_mul, ← Nat.pow_succ, show (w.length - (j + 1)).succ = w.length - j by omega]
      refine ih _ (by omega) (fun i hi1 hi2 => ?_) ?_ ?_ (h4.arr (by omega))
      · by_cases e : i = j
        · rw [e, zs_same]
        · rw [zs_slot e]; exact h1 i (by omega) hi2
      · rw [zs_obj (by decide)]; exact h2
      · rw [zs_obj (by decide)]; exact h3
theorem c9_open (hx : ∀ x ∈ w, x < 3) (hn : zt_nm w) (h13 : w.length ≤ 13) : zw_Tv l G (d + 1) mX9_open [.ref 168, .int (nI (zt_code w)), .int s] σ (fun υ => zy_w υ w s ∧ zy_S σ υ) := by
  have hl := hn.1
  refine zw_enter2 (L := [some _, some _, some _, none, none, none]) (by decide) (Nat.le_of_ble_eq_true rfl) rfl ?_
  refine zi_iconst (nI 1) dX9_open_0 (by decide) ?_
  refine zi_ist3 dX9_open_1 (Nat.le_of_ble_eq_true rfl) rfl ?_
  refine zi_ild1 dX9_open_2 ?_
  refine zi_ist4 dX9_open_3 (Nat.le_of_ble_eq_true rfl) rfl ?_
  have e := l9_open1 (l := l) (G := G) (d := d) (σ := σ) (s := s) (x5 := none) (P := fun r υ => r = none ∧ zy_w υ w s ∧ zy_S σ υ) hx hn h13 ?_ (w.length - 1) 1 (by omega) (by omega)
  · rw [Nat.sub_self, Nat.pow_zero, Nat.div_one] at e
    exact e
  refine zi_ald0 dX9_open_23 ?_
  refine zi_ild3 dX9_open_24 ?_
  refine zi_putI dX9_open_25 flX9_58 fp_9_12 rfl (by first | assumption | decide) ?_
  refine zi_ald0 dX9_open_28 ?_
  refine zi_ild2 dX9_open_29 ?_
  refine zi_putI dX9_open_30 flX9_61 fp_9_13 rfl (by first | assumption | decide) ?_
  refine zi_ild1 dX9_open_33 ?_
  refine zi_ist4 dX9_open_34 (Nat.le_of_ble_eq_true rfl) rfl ?_
  refine zi_ild3 dX9_open_36 ?_
  refine zi_iconst (nI 1) dX9_open_37 (by decide) ?_
  refine zi_isub dX9_open_38 ?_
  refine zi_ist5 dX9_open_39 (Nat.le_of_ble_eq_true rfl) rfl ?_
  have := l9_open2 (l := l) (G := G) (d := d) (σ := σ) (s := s) (x1 := nI (zt_code w)) hx h13 w.length (zw_pI (zw_pI σ 168 12 (nI w.length)) 168 13 s) (Nat.le_refl _) (fun i h1 h2 => by omega) (by rw [zs_slot (by decide), zs_same]) (zs_same _ _ _ _) ((zy_S.rf.fld (by omega)).fld (by omega))
  rw [Nat.sub_self, Nat.pow_zero, Nat.div_one] at this
  obtain ⟨m, hm⟩ : ∃ m, w.length = m + 1 := ⟨w.length - 1, by omega⟩
  rw [pk_sub (by omega)]
  rw [show nI w.length + (-1) = nI (w.length - 1) by rw [hm, pk_m1, Nat.add_sub_cancel]] at this
  exact this
theorem c9_openTree {X : zg_X} (hR : zy_R σ 0 X) {t : Nat} (ht : t < X.1.length) : zw_Tv l G (d + 2) mX9_openTree [.ref 168, .int (nI t)] σ (fun υ => zy_w υ (X.1.getD t zg_d).1 (X.1.getD t zg_d).2 ∧ zy_S σ υ) := by
  have h8 := hR.1
  obtain ⟨hw, hs⟩ := hR.item ht
  refine zw_enter2 (L := [some _, some _]) (by decide) (Nat.le_of_ble_eq_true rfl) rfl ?_
  refine zi_ald0 dX9_openTree_0 ?_
  refine zi_ald0 dX9_openTree_1 ?_
  refine zi_getR dX9_openTree_2 flX9_7 rfl (by first | assumption | decide) ?_
  refine zi_iconst (nI 1) dX9_openTree_5 (by decide) ?_
  refine zi_ild1 dX9_openTree_6 ?_
  refine zi_iadd dX9_openTree_7 ?_
  refine zi_ialdN (1 + t) dX9_openTree_8 (by first | assumption | decide) (nI_add _ _) (zy_b1 (by omega)) (by decide) ?_
  refine zi_ald0 dX9_openTree_9 ?_
  refine zi_getR dX9_openTree_10 flX9_7 rfl (by first | assumption | decide) ?_
  refine zi_bipush (nI 9) dX9_openTree_13 (by decide) ?_
  refine zi_ild1 dX9_openTree_15 ?_
  refine zi_iadd dX9_openTree_16 ?_
  refine zi_ialdN (9 + t) dX9_openTree_17 (by first | assumption | decide) (nI_add _ _) (zy_b1 (by omega)) (by decide) ?_
  rw [hR.c0 ht, hR.s0 ht]
  refine zi_cV2v vmX9_open lkX9_64 dX9_openTree_18 (by first | assumption | decide) (Nat.le_of_ble_eq_true rfl) (c9_open hw.2.1 hw.nm hw.2.2) ?_
  rintro τ1 ⟨hW1, hS1⟩
  refine zi_ret dX9_openTree_21 rfl ?_
  exact ⟨rfl, hW1, hS1⟩
theorem l9_code (hW : zy_w σ w s) : ∀ n i, i + n = w.length → zw_W l G (d + 1) mX9_code 4 [some (.ref 168), some (.int (nI (zt_code (w.take i)))), some (.int (nI i))] [] σ (fun x τ => ∃ y, x = some (.int y) ∧ σ = τ ∧ y = nI (zt_code w)) := by
  have h13 := hW.1
  intro n
  induction n with
  | zero =>
    intro i hi
    refine zi_ild2 dX9_code_4 ?_
    refine zi_ald0 dX9_code_5 ?_
    refine zi_getI dX9_code_6 flX9_58 rfl (by first | assumption | decide) ?_
    refine zi_icmp_ge 29 dX9_code_9 (by decide) (fun c9 => ?_) (fun c9 => ?_)
    · refine zi_ild1 dX9_code_29 ?_
      refine zi_iret dX9_code_30 rfl ?_
      exact ⟨_, rfl, rfl, by rw [List.take_of_length_le (by omega)]⟩
    · rw [hW.2.2.1, zn_le (by omega) (by omega)] at c9; omega
  | succ n ih =>
    intro i hi
    refine zi_ild2 dX9_code_4 ?_
    refine zi_ald0 dX9_code_5 ?_
    refine zi_getI dX9_code_6 flX9_58 rfl (by first | assumption | decide) ?_
    refine zi_icmp_ge 29 dX9_code_9 (by decide) (fun c9 => ?_) (fun c9 => ?_)
    · rw [hW.2.2.1, zn_le (by omega) (by omega)] at c9; omega
    · refine zi_iconst (nI 3) dX9_code_12 (by decide) ?_
      refine zi_ild1 dX9_code_13 ?_
      refine zi_imul dX9_code_14 ?_
      refine zi_ald0 dX9_code_15 ?_
      refine zi_getR dX9_code_16 flX9_29 rfl (by first | assumption | decide) ?_
      refine zi_ild2 dX9_code_19 ?_
      refine zi_ialdN i dX9_code_20 (by first | assumption | decide) rfl (zy_b6 (by omega)) (by decide) ?_
      refine zi_iadd dX9_code_21 ?_
      refine zi_ist1 dX9_code_22 (Nat.le_of_ble_eq_true rfl) rfl ?_
      refine zi_inc2 (nI 1) dX9_code_23 (by decide) (Nat.le_of_ble_eq_true rfl) rfl ?_
      refine zi_goto 4 dX9_code_26 (by decide) ?_
      rw [hW.2.2.2.2 i (by omega), pk_mul, nI_add, nI_add, ← zt_code_snoc, ← zl_take_succ (by omega)]
      exact ih (i + 1) (by omega)
theorem c9_code (hW : zy_w σ w s) : zw_Ti l G (d + 1) mX9_code [.ref 168] σ (fun x τ => σ = τ ∧ x = nI (zt_code w)) := by
  refine zw_enter2 (L := [some _, none, none]) (by decide) (Nat.le_of_ble_eq_true rfl) rfl ?_
  refine zi_iconst (nI 0) dX9_code_0 (by decide) ?_
  refine zi_ist1 dX9_code_1 (Nat.le_of_ble_eq_true rfl) rfl ?_
  refine zi_iconst (nI 0) dX9_code_2 (by decide) ?_
  refine zi_ist2 dX9_code_3 (Nat.le_of_ble_eq_true rfl) rfl ?_
  exact l9_code hW w.length 0 (by omega)
theorem c9_nodes (hW : zy_w σ w s) (hw : zt_wd w) : zw_Ti l G (d + 1) mX9_nodes [.ref 168] σ (fun x τ => σ = τ ∧ x = nI ((w.length - 1) / 2)) := by
  obtain ⟨n, hn, -⟩ := hw.odd
  have h13 := hW.1
  refine zw_enter2 (L := [some _]) (by decide) (Nat.le_of_ble_eq_true rfl) rfl ?_
  refine zi_ald0 dX9_nodes_0 ?_
  refine zi_getI dX9_nodes_1 flX9_58 rfl (by first | assumption | decide) ?_
  refine zi_iconst (nI 2) dX9_nodes_4 (by decide) ?_
  refine zi_idiv dX9_nodes_5 (by decide) ?_
  refine zi_iret dX9_nodes_6 rfl ?_
  refine ⟨_, rfl, rfl, ?_⟩
  rw [hW.2.2.1, pk_div (by omega) (by decide) (by decide), show w.length / 2 = (w.length - 1) / 2 by omega]
theorem l9_behind (hW : zy_w σ w s) {m : Nat} {x1 : Int32} : ∀ n i q, i + n = w.length → zt_rd (q + m) (w.drop i) → zw_W l G (d + 1) mX9_behind 4 [some (.ref 168), some (.int x1), some (.int (nI q)), some (.int (nI i))] [] σ (fun x τ => ∃ y, x = some (.int y) ∧ σ = τ ∧ y = nI (i + zt_cn q (w.drop i))) := by
  have h13 := hW.1
  intro n
  induction n with
  | zero =>
    intro i q hi hr
    rw [List.drop_of_length_le (by omega)] at hr ⊢
    obtain rfl : q = 0 := by
      cases q with
      | zero => rfl
      | succ q => rw [show q + 1 + m = (q + m) + 1 by omega] at hr; exact hr.elim
    refine zi_ild2 dX9_behind_4 ?_
    refine zi_if_le 31 dX9_behind_5 (by decide) (fun c5 => ?_) (fun c5 => ?_)
    · refine zi_ild3 dX9_behind_31 ?_
      refine zi_iret dX9_behind_32 rfl ?_
      exact ⟨_, rfl, rfl, rfl⟩
    · exact absurd (by decide) c5
  | succ n ih =>
    intro i q hi hr
    cases q with
    | zero =>
      refine zi_ild2 dX9_behind_4 ?_
      refine zi_if_le 31 dX9_behind_5 (by decide) (fun c5 => ?_) (fun c5 => ?_)
      · refine zi_ild3 dX9_behind_31 ?_
        refine zi_iret dX9_behind_32 rfl ?_
        exact ⟨_, rfl, rfl, by simp [zt_cn]⟩
      · exact absurd (by decide) c5
    | succ q =>
      have hx := zl_getD_lt hW.2.1 i
      have hd := zl_drop (show i < w.length by omega)
      obtain ⟨n2, hn2⟩ := zt_rd_len _ _ hr
      rw [List.length_drop] at hn2
      rw [hd] at hr
      refine zi_ild2 dX9_behind_4 ?_
      refine zi_if_le 31 dX9_behind_5 (by decide) (fun c5 => ?_) (fun c5 => ?_)
      · rw [zn_0, zn_le (by omega) (by omega)] at c5; omega
      · refine zi_ild2 dX9_behind_8 ?_
        refine zi_ald0 dX9_behind_9 ?_
        refine zi_getR dX9_behind_10 flX9_29 rfl (by first | assumption | decide) ?_
        refine zi_ild3 dX9_behind_13 ?_
        refine zi_ialdN i dX9_behind_14 (by first | assumption | decide) rfl (zy_b6 (by omega)) (by decide) ?_
        rw [hW.2.2.2.2 i (by omega)]
        refine zi_if_ne 22 dX9_behind_15 (by decide) (fun c15 => ?_) (fun c15 => ?_)
        · rw [zn_0, zn_eq (by omega) (by omega)] at c15
          obtain ⟨x, hxx⟩ : ∃ x, w.getD i 0 = x + 1 := ⟨w.getD i 0 - 1, by omega⟩
          rw [hxx] at hd hr
          refine zi_iconst (nI 1) dX9_behind_22 (by decide) ?_
          refine zi_iadd dX9_behind_23 ?_
          first | rw [pk_m1] | rw [nI_add]
          refine zi_ist2 dX9_behind_24 (Nat.le_of_ble_eq_true rfl) rfl ?_
          refine zi_inc3 (nI 1) dX9_behind_25 (by decide) (Nat.le_of_ble_eq_true rfl) rfl ?_
          refine zi_goto 4 dX9_behind_28 (by decide) ?_
          rw [nI_add]
          first
          | (have hr : zt_rd (q + m) (w.drop (i + 1)) := by
               rw [show q + 1 + m = (q + m) + 1 by omega] at hr; exact hr
             have := ih (i + 1) q (by omega) hr
             rw [hd]
             simp only [zt_cn]
             rw [← Nat.add_assoc]
             exact this)
          | (have hr : zt_rd (q + 2 + m) (w.drop (i + 1)) := by
               rw [show q + 1 + m = (q + m) + 1 by omega] at hr
               rw [show q + 2 + m = (q + m) + 2 by omega]; exact hr
             have := ih (i + 1) (q + 2) (by omega) hr
             rw [hd]
             simp only [zt_cn]
             rw [← Nat.add_assoc]
             exact this)
        · rw [zn_0, zn_eq (by omega) (by omega)] at c15
          rw [c15] at hd hr
          refine zi_iconst (-1) dX9_behind_18 (by decide) ?_
          refine zi_goto 23 dX9_behind_19 (by decide) ?_
          refine zi_iadd dX9_behind_23 ?_
          first | rw [pk_m1] | rw [nI_add]
          refine zi_ist2 dX9_behind_24 (Nat.le_of_ble_eq_true rfl) rfl ?_
          refine zi_inc3 (nI 1) dX9_behind_25 (by decide) (Nat.le_of_ble_eq_true rfl) rfl ?_
          refine zi_goto 4 dX9_behind_28 (by decide) ?_
          rw [nI_add]
          first
          | (have hr : zt_rd (q + m) (w.drop (i + 1)) := by
               rw [show q + 1 + m = (q + m) + 1 by omega] at hr; exact hr
             have := ih (i + 1) q (by omega) hr
             rw [hd]
             simp only [zt_cn]
             rw [← Nat.add_assoc]
             exact this)
          | (have hr : zt_rd (q + 2 + m) (w.drop (i + 1)) := by
               rw [show q + 1 + m = (q + m) + 1 by omega] at hr
               rw [show q + 2 + m = (q + m) + 2 by omega]; exact hr
             have := ih (i + 1) (q + 2) (by omega) hr
             rw [hd]
             simp only [zt_cn]
             rw [← Nat.add_assoc]
             exact this)
theorem c9_behind (hW : zy_w σ w s) {i m : Nat} (hi : i ≤ w.length) (hr : zt_rd (1 + m) (w.drop i)) : zw_Ti l G (d + 1) mX9_behind [.ref 168, .int (nI i)] σ (fun x τ => σ = τ ∧ x = nI (i + zt_cn 1 (w.drop i))) := by
  refine zw_enter2 (L := [some _, some _, none, none]) (by decide) (Nat.le_of_ble_eq_true rfl) rfl ?_
  refine zi_iconst (nI 1) dX9_behind_0 (by decide) ?_
  refine zi_ist2 dX9_behind_1 (Nat.le_of_ble_eq_true rfl) rfl ?_
  refine zi_ild1 dX9_behind_2 ?_
  refine zi_ist3 dX9_behind_3 (Nat.le_of_ble_eq_true rfl) rfl ?_
  exact l9_behind hW (w.length - i) i 1 (by omega) hr
end Z31
