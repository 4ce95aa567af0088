/-! how many plain trees, and the series that undoes theirs -/
def zk_sum (f : Nat → Int64) : Nat → Int64
  | 0 => 0
  | n + 1 => zk_sum f n + f n
/-- branches of n leaves that may stand there, R the rooted ones -/
def zk_B (fa : Nat → Nat) (R : Nat → Nat → Int64) (c side n : Nat) : Int64 := if n ≤ 1 then 1 else zk_sum (fun b => if fa (4 * c + 2 * b + side) = 0 then R b n else 0) 2
/-- plain trees of n leaves whose first letter is c -/
def zk_r (fa : Nat → Nat) (R : Nat → Nat → Int64) (c n : Nat) : Int64 := zk_sum (fun i => zk_B fa R c 0 (i + 1) * zk_B fa R c 1 (n - (i + 1))) (n - 1)
/-- the table of those up to n leaves -/
def zk_R (fa : Nat → Nat) : Nat → Nat → Nat → Int64
  | 0 => fun _ _ => 0
  | n + 1 => fun c m => if m = n + 1 then zk_r fa (zk_R fa n) c m else zk_R fa n c m
/-- the counts -/
def zk_P (fa : Nat → Nat) (n : Nat) : Int64 := if n = 1 then 1 else zk_sum (fun c => zk_R fa 7 c n) 2
/-- one power more -/
def zk_rp (u p : Nat → Int64) (n : Nat) : Int64 := zk_sum (fun i => u (i + 1) * p (n - (i + 1))) n
def zk_pw (u : Nat → Int64) : Nat → Nat → Int64
  | 0 => u
  | k + 1 => zk_rp u (zk_pw u k)
def zk_un (P : Nat → Int64) : Nat → Nat → Int64
  | 0 => fun i => if i = 1 then 1 else 0
  | n + 1 => fun i => if i = n + 2 then -zk_sum (fun k => P (k + 2) * zk_pw (zk_un P n) (k + 1) (n + 2)) (n + 1) else zk_un P n i
theorem zk_sum_cg {f g : Nat → Int64} : ∀ {n : Nat}, (∀ i, i < n → f i = g i) → zk_sum f n = zk_sum g n
  | 0, _ => rfl
  | n + 1, h => by rw [zk_sum, zk_sum, zk_sum_cg (fun i hi => h i (by omega)), h n (by omega)]
theorem zk_R_stay (fa : Nat → Nat) : ∀ (n k c m : Nat), m ≤ n → zk_R fa (n + k) c m = zk_R fa n c m
  | n, 0, c, m, _ => rfl
  | n, k + 1, c, m, h => by
    rw [show n + (k + 1) = (n + k) + 1 by omega, zk_R]
    simp only
    rw [if_neg (by omega), zk_R_stay fa n k c m h]
theorem zk_B_cg {fa : Nat → Nat} {R R' : Nat → Nat → Int64} {c side n : Nat} (h : 2 ≤ n → ∀ b, b < 2 → R b n = R' b n) : zk_B fa R c side n = zk_B fa R' c side n := by
  unfold zk_B
  by_cases q : n ≤ 1
  · rw [if_pos q, if_pos q]
  · rw [if_neg q, if_neg q]
    exact zk_sum_cg (fun b hb => by rw [h (by omega) b hb])
theorem zk_r_cg {fa : Nat → Nat} {R R' : Nat → Nat → Int64} {c n : Nat} (h : ∀ m, 2 ≤ m → m < n → ∀ b, b < 2 → R b m = R' b m) : zk_r fa R c n = zk_r fa R' c n := by
  unfold zk_r
  refine zk_sum_cg (fun i hi => ?_)
  rw [zk_B_cg (fun q b hb => h (i + 1) q (by omega) b hb), zk_B_cg (fun q b hb => h (n - (i + 1)) q (by omega) b hb)]
theorem zk_R_eq (fa : Nat → Nat) {n c : Nat} (hn : 1 ≤ n) (h7 : n ≤ 7) : zk_R fa 7 c n = zk_r fa (zk_R fa 7) c n := by
  have e1 : zk_R fa 7 c n = zk_R fa n c n := by
    have := zk_R_stay fa n (7 - n) c n (Nat.le_refl n)
    rw [show n + (7 - n) = 7 by omega] at this
    exact this
  obtain ⟨m, rfl⟩ : ∃ m, n = m + 1 := ⟨n - 1, by omega⟩
  rw [e1, zk_R]
  simp only
  rw [if_pos trivial]
  refine zk_r_cg (fun k _ hk b _ => ?_)
  have := zk_R_stay fa m (7 - m) b k (by omega)
  rw [show m + (7 - m) = 7 by omega] at this
  exact this.symm
/-- nothing changed but long rows that A names -/
def zL_F (A : Nat → Prop) (σ τ : zw_S) : Prop := τ.1 = σ.1 ∧ ∀ o, ¬ A o → τ.2 o = σ.2 o
theorem zL_F.rf {A : Nat → Prop} {σ : zw_S} : zL_F A σ σ := ⟨rfl, fun _ _ => rfl⟩
theorem zL_F.tr {A B C : Nat → Prop} {σ τ υ : zw_S} (h1 : zL_F A σ τ) (h2 : zL_F B τ υ) (ha : ∀ o, A o → C o) (hb : ∀ o, B o → C o) : zL_F C σ υ :=
  ⟨h2.1.trans h1.1, fun o h => (h2.2 o (fun q => h (hb o q))).trans (h1.2 o (fun q => h (ha o q)))⟩
theorem zL_F.mono {A B : Nat → Prop} {σ τ : zw_S} (h : zL_F A σ τ) (hb : ∀ o, A o → B o) : zL_F B σ τ := ⟨h.1, fun o q => h.2 o (fun z => q (hb o z))⟩
theorem zL_F.pL {A : Nat → Prop} {σ τ : zw_S} {o j : Nat} {v : Int64} (h : zL_F A σ τ) (ho : A o) : zL_F A σ (zw_pL τ o j v) :=
  ⟨h.1, fun k hk => by
    have : k ≠ o := fun e => hk (e ▸ ho)
    show (if k = o then _ else _) = _
    rw [if_neg this]
    exact h.2 k hk⟩
theorem zL_F.pLf {A : Nat → Prop} {σ τ : zw_S} {o : Nat} {f : Nat → Int64} (h : zL_F A σ τ) (ho : A o) : zL_F A σ (zw_pLf τ o f) :=
  ⟨h.1, fun k hk => by
    have : k ≠ o := fun e => hk (e ▸ ho)
    show (if k = o then _ else _) = _
    rw [if_neg this]
    exact h.2 k hk⟩
theorem zL_same (σ : zw_S) (o j : Nat) (v : Int64) : (zw_pL σ o j v).2 o j = v := by simp [zw_pL, vp_updL]
theorem zL_slot {σ : zw_S} {o j i : Nat} {v : Int64} (h : i ≠ j) : (zw_pL σ o j v).2 o i = σ.2 o i := by simp [zw_pL, vp_updL, h]
theorem zL_obj {σ : zw_S} {o j k : Nat} {v : Int64} (h : k ≠ o) : (zw_pL σ o j v).2 k = σ.2 k := by simp [zw_pL, h]
theorem zL_fst {σ : zw_S} {o j : Nat} {v : Int64} : (zw_pL σ o j v).1 = σ.1 := rfl
theorem zr_V.fl {σ τ : zw_S} {r : Nat} {fa go : Nat → Nat} (h : zr_V σ r fa go) (e : τ.1 = σ.1) : zr_V τ r fa go := h.cg (by rw [e]) (by rw [e])
section Z22
variable {l : Launch} {G : zw_G} {d : Nat} {σ : zw_S} {fa go : Nat → Nat} {r : Nat}
theorem c5_covers_in {n : Nat} (h1 : 1 ≤ n) (h7 : n ≤ 7) : zw_Ti l G (d + 1) mX5_covers [.int (nI n)] σ (fun x τ => σ = τ ∧ x = nI 1) := by
  refine zw_enter2 (L := [some _]) (by decide) (Nat.le_of_ble_eq_true rfl) rfl ?_
  refine zi_ild0 dX5_covers_0 ?_
  refine zi_iconst (nI 1) dX5_covers_1 (by decide) ?_
  refine zi_icmp_lt 15 dX5_covers_2 (by decide) (fun c2 => ?_) (fun c2 => ?_)
  · rw [zn_lt (by omega) (by omega)] at c2; omega
  · refine zi_ild0 dX5_covers_5 ?_
    refine zi_bipush (nI 7) dX5_covers_6 (by decide) ?_
    refine zi_icmp_gt 15 dX5_covers_8 (by decide) (fun c8 => ?_) (fun c8 => ?_)
    · rw [zn_lt (by omega) (by omega)] at c8; omega
    · refine zi_iconst (nI 1) dX5_covers_11 (by decide) ?_
      refine zi_goto 16 dX5_covers_12 (by decide) ?_
      refine zi_zret dX5_covers_16 rfl (by decide) ?_
      exact ⟨_, rfl, rfl, rfl⟩
theorem c5_covers_out {n : Int32} (h : n < nI 1 ∨ nI 7 < n) : zw_Ti l G (d + 1) mX5_covers [.int n] σ (fun x τ => σ = τ ∧ x = nI 0) := by
  refine zw_enter2 (L := [some _]) (by decide) (Nat.le_of_ble_eq_true rfl) rfl ?_
  refine zi_ild0 dX5_covers_0 ?_
  refine zi_iconst (nI 1) dX5_covers_1 (by decide) ?_
  refine zi_icmp_lt 15 dX5_covers_2 (by decide) (fun c2 => ?_) (fun c2 => ?_)
  · refine zi_iconst (nI 0) dX5_covers_15 (by decide) ?_
    refine zi_zret dX5_covers_16 rfl (by decide) ?_
    exact ⟨_, rfl, rfl, rfl⟩
  · refine zi_ild0 dX5_covers_5 ?_
    refine zi_bipush (nI 7) dX5_covers_6 (by decide) ?_
    refine zi_icmp_gt 15 dX5_covers_8 (by decide) (fun c8 => ?_) (fun c8 => ?_)
    · refine zi_iconst (nI 0) dX5_covers_15 (by decide) ?_
      refine zi_zret dX5_covers_16 rfl (by decide) ?_
      exact ⟨_, rfl, rfl, rfl⟩
    · rcases h with q | q
      · exact absurd q c2
      · exact absurd q c8
theorem l5_branches {R : Nat → Nat → Int64} {c side n : Nat} {x7 : Option Value} (hr : zr_ok r) (hR : zr_V σ r fa go) (hc : c < 2) (hs : side < 2) (h2 : 2 ≤ n) (h7 : n ≤ 7) (hT : ∀ b, b < 2 → σ.2 (143 + b) n = R b n) : ∀ k b, b + k = 2 → zw_W l G (d + 3) mX5_countBranches 19 [some (.ref 140), some (.int (nI c)), some (.int (nI side)), some (.int (nI n)), some (.ref r), some (.long (zk_sum (fun b => if fa (4 * c + 2 * b + side) = 0 then R b n else 0) b)), none, some (.int (nI b))] [] σ (fun x τ => ∃ y, x = some (.long y) ∧ σ = τ ∧ y = zk_sum (fun b => if fa (4 * c + 2 * b + side) = 0 then R b n else 0) 2) := by
  have r0 := hr.1
  have l142 : zw_ln (140 + 2) = 2 := by decide
  intro k
  induction k with
  | zero =>
    intro b hb
    obtain rfl : b = 2 := by omega
    refine zi_ild7 dX5_countBranches_19 ?_
    refine zi_iconst (nI 2) dX5_countBranches_21 (by decide) ?_
    refine zi_icmp_ge 63 dX5_countBranches_22 (by decide) (fun c22 => ?_) (fun c22 => ?_)
    · refine zi_lld5 dX5_countBranches_63 ?_
      refine zi_lret dX5_countBranches_65 rfl ?_
      exact ⟨_, rfl, rfl, rfl⟩
    · exact absurd (by decide) c22
  | succ k ih =>
    intro b hb
    have hf := (hR (4 * c + 2 * b + side) (by omega)).1
    have e3 : zw_er (140 + 2) b = 143 + b := by unfold zw_er; rw [if_neg (by omega), if_neg (by omega)]
    have k3 : zw_kd (143 + b) = 11 := by
      rcases (show b = 0 ∨ b = 1 by omega) with rfl | rfl <;> decide
    have l3 : zw_ln (143 + b) = 8 := by
      rcases (show b = 0 ∨ b = 1 by omega) with rfl | rfl <;> decide
    refine zi_ild7 dX5_countBranches_19 ?_
    refine zi_iconst (nI 2) dX5_countBranches_21 (by decide) ?_
    refine zi_icmp_ge 63 dX5_countBranches_22 (by decide) (fun c22 => ?_) (fun c22 => ?_)
    · rw [zn_le (by omega) (by omega)] at c22; omega
    · refine zi_ald4 dX5_countBranches_25 ?_
      refine zi_iconst (nI 4) dX5_countBranches_27 (by decide) ?_
      refine zi_ild1 dX5_countBranches_28 ?_
      refine zi_imul dX5_countBranches_29 ?_
      refine zi_iconst (nI 2) dX5_countBranches_30 (by decide) ?_
      refine zi_ild7 dX5_countBranches_31 ?_
      refine zi_imul dX5_countBranches_33 ?_
      refine zi_iadd dX5_countBranches_34 ?_
      refine zi_ild2 dX5_countBranches_35 ?_
      refine zi_iadd dX5_countBranches_36 ?_
      rw [pk_mul, pk_mul, nI_add, nI_add]
      refine zi_cV1i vmX4_fateOf lkX5_34 dX5_countBranches_37 (by first | assumption | decide) (Nat.le_of_ble_eq_true rfl) (c4_fateOf hr hR (show 4 * c + 2 * b + side < 8 by omega)) ?_
      rintro _ _ ⟨rfl, rfl⟩
      refine zi_if_ne 57 dX5_countBranches_40 (by decide) (fun c40 => ?_) (fun c40 => ?_)
      · refine zi_inc7 (nI 1) dX5_countBranches_57 (by decide) (Nat.le_of_ble_eq_true rfl) rfl ?_
        refine zi_goto 19 dX5_countBranches_60 (by decide) ?_
        rw [nI_add]
        have e : zk_sum (fun b => if fa (4 * c + 2 * b + side) = 0 then R b n else 0) (b + 1) = zk_sum (fun b => if fa (4 * c + 2 * b + side) = 0 then R b n else 0) b + (if fa (4 * c + 2 * b + side) = 0 then R b n else 0) := rfl
        have := ih (b + 1) (by omega)
        rw [e] at this
        first
        | (rw [if_pos c40] at this; exact this)
        | (rw [zn_0, zn_eq (by omega) (by omega)] at c40
           rw [if_neg c40, Int64.add_zero] at this
           exact this)
      · rw [zn_0, zn_eq (by omega) (by omega)] at c40
        refine zi_lld5 dX5_countBranches_43 ?_
        refine zi_ald0 dX5_countBranches_45 ?_
        refine zi_getR dX5_countBranches_46 flX5_17 rfl (by first | assumption | decide) ?_
        refine zi_ild7 dX5_countBranches_49 ?_
        refine zi_aaldN 2 b dX5_countBranches_51 (by first | assumption | decide) (by decide) rfl (by omega) (by omega) ?_
        rw [e3]
        refine zi_ild3 dX5_countBranches_52 ?_
        refine zi_laldN _ dX5_countBranches_53 (by first | assumption | decide) rfl (by omega) (by omega) ?_
        rw [hT b (by omega)]
        refine zi_ladd dX5_countBranches_54 ?_
        refine zi_lst5 dX5_countBranches_55 (Nat.le_of_ble_eq_true rfl) rfl ?_
        refine zi_inc7 (nI 1) dX5_countBranches_57 (by decide) (Nat.le_of_ble_eq_true rfl) rfl ?_
        refine zi_goto 19 dX5_countBranches_60 (by decide) ?_
        rw [nI_add]
        have e : zk_sum (fun b => if fa (4 * c + 2 * b + side) = 0 then R b n else 0) (b + 1) = zk_sum (fun b => if fa (4 * c + 2 * b + side) = 0 then R b n else 0) b + (if fa (4 * c + 2 * b + side) = 0 then R b n else 0) := rfl
        have := ih (b + 1) (by omega)
        rw [e] at this
        first
        | (rw [if_pos c40] at this; exact this)
        | (rw [zn_0, zn_eq (by omega) (by omega)] at c40
           rw [if_neg c40, Int64.add_zero] at this
           exact this)
theorem c5_countBranches {R : Nat → Nat → Int64} {c side n : Nat} (hr : zr_ok r) (hR : zr_V σ r fa go) (hc : c < 2) (hs : side < 2) (h7 : n ≤ 7) (hT : ∀ m, 2 ≤ m → m ≤ n → ∀ b, b < 2 → σ.2 (143 + b) m = R b m) : zw_Tl l G (d + 3) mX5_countBranches [.ref 140, .int (nI c), .int (nI side), .int (nI n), .ref r] σ (fun x τ => σ = τ ∧ x = zk_B fa R c side n) := by
  refine zw_enter2 (L := [some _, some _, some _, some _, some _, none, none, none]) (by decide) (Nat.le_of_ble_eq_true rfl) rfl ?_
  refine zi_ild3 dX5_countBranches_0 ?_
  refine zi_iconst (nI 1) dX5_countBranches_1 (by decide) ?_
  refine zi_icmp_le 11 dX5_countBranches_2 (by decide) (fun c2 => ?_) (fun c2 => ?_)
  · refine zi_lconst 1 dX5_countBranches_11 (by decide) ?_
    refine zi_lret dX5_countBranches_12 rfl ?_
    refine ⟨_, rfl, rfl, ?_⟩
    unfold zk_B
    first
    | (rw [zn_le (by omega) (by omega)] at c2; rw [if_pos c2]; done)
    | (exfalso; exact c8 (by rw [zn_le (by omega) (by omega)]; exact h7))
  · refine zi_ild3 dX5_countBranches_5 ?_
    refine zi_bipush (nI 7) dX5_countBranches_6 (by decide) ?_
    refine zi_icmp_le 13 dX5_countBranches_8 (by decide) (fun c8 => ?_) (fun c8 => ?_)
    · rw [zn_le (by omega) (by omega)] at c2
      refine zi_lconst 0 dX5_countBranches_13 (by decide) ?_
      refine zi_lst5 dX5_countBranches_14 (Nat.le_of_ble_eq_true rfl) rfl ?_
      refine zi_iconst (nI 0) dX5_countBranches_16 (by decide) ?_
      refine zi_ist7 dX5_countBranches_17 (Nat.le_of_ble_eq_true rfl) rfl ?_
      have := l5_branches (l := l) (G := G) (d := d) (R := R) (c := c) (side := side) (n := n) (x7 := none) hr hR hc hs (by omega) h7 (fun b hb => hT n (by omega) (Nat.le_refl n) b hb) 2 0 rfl
      refine zw_W.mono this (fun x τ ⟨y, e1, e2, e3⟩ => ⟨y, e1, e2, ?_⟩)
      unfold zk_B
      rw [if_neg c2]
      exact e3
    · refine zi_lconst 1 dX5_countBranches_11 (by decide) ?_
      refine zi_lret dX5_countBranches_12 rfl ?_
      refine ⟨_, rfl, rfl, ?_⟩
      unfold zk_B
      first
      | (rw [zn_le (by omega) (by omega)] at c2; rw [if_pos c2]; done)
      | (exfalso; exact c8 (by rw [zn_le (by omega) (by omega)]; exact h7))
theorem l5_rooted {R : Nat → Nat → Int64} {c n : Nat} (hr : zr_ok r) (hR : zr_V σ r fa go) (hc : c < 2) (h7 : n ≤ 7) (h2 : 2 ≤ n) (hT : ∀ m, 2 ≤ m → m < n → ∀ b, b < 2 → σ.2 (143 + b) m = R b m) : ∀ k i, i + 1 + k = n → zw_W l G (d + 4) mX5_countRooted 6 [some (.ref 140), some (.int (nI c)), some (.int (nI n)), some (.ref r), some (.long (zk_sum (fun i => zk_B fa R c 0 (i + 1) * zk_B fa R c 1 (n - (i + 1))) i)), none, some (.int (nI (i + 1)))] [] σ (fun x τ => ∃ y, x = some (.long y) ∧ σ = τ ∧ y = zk_r fa R c n) := by
  have r0 := hr.1
  intro k
  induction k with
  | zero =>
    intro i hi
    refine zi_ild6 dX5_countRooted_6 ?_
    refine zi_ild2 dX5_countRooted_8 ?_
    refine zi_icmp_ge 44 dX5_countRooted_9 (by decide) (fun c9 => ?_) (fun c9 => ?_)
    · refine zi_lld4 dX5_countRooted_44 ?_
      refine zi_lret dX5_countRooted_46 rfl ?_
      exact ⟨_, rfl, rfl, by unfold zk_r; rw [show n - 1 = i by omega]⟩
    · rw [zn_le (by omega) (by omega)] at c9; omega
  | succ k ih =>
    intro i hi
    refine zi_ild6 dX5_countRooted_6 ?_
    refine zi_ild2 dX5_countRooted_8 ?_
    refine zi_icmp_ge 44 dX5_countRooted_9 (by decide) (fun c9 => ?_) (fun c9 => ?_)
    · rw [zn_le (by omega) (by omega)] at c9; omega
    · refine zi_lld4 dX5_countRooted_12 ?_
      refine zi_ald0 dX5_countRooted_14 ?_
      refine zi_ild1 dX5_countRooted_15 ?_
      refine zi_iconst (nI 0) dX5_countRooted_16 (by decide) ?_
      refine zi_ild6 dX5_countRooted_17 ?_
      refine zi_ald3 dX5_countRooted_19 ?_
      refine zi_cV4l vmX5_countBranches lkX5_30 dX5_countRooted_20 (by first | assumption | decide) (Nat.le_of_ble_eq_true rfl) (c5_countBranches (side := 0) hr hR hc (by decide) (show i + 1 ≤ 7 by omega) (fun m a b => hT m a (by omega))) ?_
      rintro _ _ ⟨rfl, rfl⟩
      refine zi_ald0 dX5_countRooted_23 ?_
      refine zi_ild1 dX5_countRooted_24 ?_
      refine zi_iconst (nI 1) dX5_countRooted_25 (by decide) ?_
      refine zi_ild2 dX5_countRooted_26 ?_
      refine zi_ild6 dX5_countRooted_27 ?_
      refine zi_isub dX5_countRooted_29 ?_
      refine zi_ald3 dX5_countRooted_30 ?_
      rw [pk_sub (by omega)]
      refine zi_cV4l vmX5_countBranches lkX5_30 dX5_countRooted_31 (by first | assumption | decide) (Nat.le_of_ble_eq_true rfl) (c5_countBranches (side := 1) hr hR hc (by decide) (show n - (i + 1) ≤ 7 by omega) (fun m a b => hT m a (by omega))) ?_
      rintro _ _ ⟨rfl, rfl⟩
      refine zi_lmul dX5_countRooted_34 ?_
      refine zi_ladd dX5_countRooted_35 ?_
      refine zi_lst4 dX5_countRooted_36 (Nat.le_of_ble_eq_true rfl) rfl ?_
      refine zi_inc6 (nI 1) dX5_countRooted_38 (by decide) (Nat.le_of_ble_eq_true rfl) rfl ?_
      refine zi_goto 6 dX5_countRooted_41 (by decide) ?_
      rw [nI_add]
      exact ih (i + 1) (by omega)
theorem c5_countRooted {R : Nat → Nat → Int64} {c n : Nat} (hr : zr_ok r) (hR : zr_V σ r fa go) (hc : c < 2) (h7 : n ≤ 7) (h2 : 2 ≤ n) (hT : ∀ m, 2 ≤ m → m < n → ∀ b, b < 2 → σ.2 (143 + b) m = R b m) : zw_Tl l G (d + 4) mX5_countRooted [.ref 140, .int (nI c), .int (nI n), .ref r] σ (fun x τ => σ = τ ∧ x = zk_r fa R c n) := by
  refine zw_enter2 (L := [some _, some _, some _, some _, none, none, none]) (by decide) (Nat.le_of_ble_eq_true rfl) rfl ?_
  refine zi_lconst 0 dX5_countRooted_0 (by decide) ?_
  refine zi_lst4 dX5_countRooted_1 (Nat.le_of_ble_eq_true rfl) rfl ?_
  refine zi_iconst (nI 1) dX5_countRooted_3 (by decide) ?_
  refine zi_ist6 dX5_countRooted_4 (Nat.le_of_ble_eq_true rfl) rfl ?_
  exact l5_rooted hr hR hc h7 h2 hT (n - 1) 0 (by omega)
def zk_A : Nat → Prop := fun o => 140 ≤ o ∧ o < 147
theorem l5_ctInner {n : Nat} (hr : zr_ok r) (hr2 : r + 3 ≤ 140) (hR : zr_V σ r fa go) (h2 : 2 ≤ n) (h7 : n ≤ 7) {P : Option Value → zw_S → Prop} (hk : ∀ τ x3, zL_F zk_A σ τ → (∀ m, 1 ≤ m → m ≤ n → τ.2 141 m = zk_P fa m) → (∀ m, 2 ≤ m → m ≤ n → ∀ b, b < 2 → τ.2 (143 + b) m = zk_R fa 7 b m) → zw_W l G (d + 5) mX5_countTrees 67 [some (.ref 140), some (.ref r), some (.int (nI n)), x3] [] τ P) : ∀ k c τ, c + k = 2 → zL_F zk_A σ τ → (∀ m, 1 ≤ m → m < n → τ.2 141 m = zk_P fa m) → τ.2 141 n = zk_sum (fun c => zk_R fa 7 c n) c → (∀ m, 2 ≤ m → m < n → ∀ b, b < 2 → τ.2 (143 + b) m = zk_R fa 7 b m) → (∀ b, b < c → τ.2 (143 + b) n = zk_R fa 7 b n) → zw_W l G (d + 5) mX5_countTrees 24 [some (.ref 140), some (.ref r), some (.int (nI n)), some (.int (nI c))] [] τ P := by
  have r0 := hr.1
  have l142 : zw_ln (140 + 2) = 2 := by decide
  have l141 : zw_ln (140 + 1) = 8 := by decide
  intro k
  induction k with
  | zero =>
    intro c τ hc hF hP hPn hT hTn
    obtain rfl : c = 2 := by omega
    refine zi_ild3 dX5_countTrees_24 ?_
    refine zi_iconst (nI 2) dX5_countTrees_25 (by decide) ?_
    refine zi_icmp_ge 67 dX5_countTrees_26 (by decide) (fun c26 => ?_) (fun c26 => ?_)
    · refine hk τ _ hF (fun m a b => ?_) (fun m a b q hq => ?_)
      · by_cases e : m = n
        · subst e
          rw [hPn]; unfold zk_P; rw [if_neg (by omega)]
        · exact hP m a (by omega)
      · by_cases e : m = n
        · subst e; exact hTn q hq
        · exact hT m a (by omega) q hq
    · exact absurd (by decide) c26
  | succ k ih =>
    intro c τ hc hF hP hPn hT hTn
    have e3 : zw_er (140 + 2) c = 143 + c := by unfold zw_er; rw [if_neg (by omega), if_neg (by omega)]
    have k3 : zw_kd (143 + c) = 11 := by
      rcases (show c = 0 ∨ c = 1 by omega) with rfl | rfl <;> decide
    have l3 : zw_ln (143 + c) = 8 := by
      rcases (show c = 0 ∨ c = 1 by omega) with rfl | rfl <;> decide
    refine zi_ild3 dX5_countTrees_24 ?_
    refine zi_iconst (nI 2) dX5_countTrees_25 (by decide) ?_
    refine zi_icmp_ge 67 dX5_countTrees_26 (by decide) (fun c26 => ?_) (fun c26 => ?_)
    · rw [zn_le (by omega) (by omega)] at c26; omega
    · refine zi_ald0 dX5_countTrees_29 ?_
      refine zi_getR dX5_countTrees_30 flX5_17 rfl (by first | assumption | decide) ?_
      refine zi_ild3 dX5_countTrees_33 ?_
      refine zi_aaldN 2 c dX5_countTrees_34 (by first | assumption | decide) (by decide) rfl (by omega) (by omega) ?_
      rw [e3]
      refine zi_ild2 dX5_countTrees_35 ?_
      refine zi_ald0 dX5_countTrees_36 ?_
      refine zi_ild3 dX5_countTrees_37 ?_
      refine zi_ild2 dX5_countTrees_38 ?_
      refine zi_ald1 dX5_countTrees_39 ?_
      refine zi_cV3l vmX5_countRooted lkX5_26 dX5_countTrees_40 (by first | assumption | decide) (Nat.le_of_ble_eq_true rfl) (c5_countRooted (R := zk_R fa 7) hr (hR.fl hF.1) (show c < 2 by omega) h7 h2 hT) ?_
      rintro _ _ ⟨rfl, rfl⟩
      rw [← zk_R_eq fa (by omega) h7]
      refine zi_lastN _ dX5_countTrees_43 (by first | assumption | decide) rfl (by omega) (by omega) ?_
      refine zi_ald0 dX5_countTrees_44 ?_
      refine zi_getR dX5_countTrees_45 flX5_9 rfl (by first | assumption | decide) ?_
      refine zi_ild2 dX5_countTrees_48 ?_
      refine zi_dup2ri dX5_countTrees_49 ?_
      refine zi_laldN _ dX5_countTrees_50 (by first | assumption | decide) rfl (by omega) (by omega) ?_
      refine zi_ald0 dX5_countTrees_51 ?_
      refine zi_getR dX5_countTrees_52 flX5_17 rfl (by first | assumption | decide) ?_
      refine zi_ild3 dX5_countTrees_55 ?_
      refine zi_aaldN 2 c dX5_countTrees_56 (by first | assumption | decide) (by decide) rfl (by omega) (by omega) ?_
      rw [e3]
      refine zi_ild2 dX5_countTrees_57 ?_
      refine zi_laldN _ dX5_countTrees_58 (by first | assumption | decide) rfl (by omega) (by omega) ?_
      rw [zL_same, zL_obj (show 140 + 1 ≠ 143 + c by omega), show τ.2 (140 + 1) n = zk_sum (fun c => zk_R fa 7 c n) c from hPn]
      refine zi_ladd dX5_countTrees_59 ?_
      refine zi_lastN _ dX5_countTrees_60 (by first | assumption | decide) rfl (by omega) (by omega) ?_
      refine zi_inc3 (nI 1) dX5_countTrees_61 (by decide) (Nat.le_of_ble_eq_true rfl) rfl ?_
      refine zi_goto 24 dX5_countTrees_64 (by decide) ?_
      rw [nI_add]
      refine ih (c + 1) _ (by omega) ((hF.pL (by unfold zk_A; omega)).pL (by unfold zk_A; omega)) (fun m a b => ?_) ?_ (fun m a b q hq => ?_) (fun b hb => ?_)
      · show (zw_pL _ 141 n _).2 141 m = _
        rw [zL_slot (by omega), zL_obj (by omega)]
        exact hP m a b
      · show (zw_pL _ 141 n _).2 141 n = _
        rw [zL_same]; rfl
      · rw [zL_obj (by omega)]
        by_cases e : q = c
        · subst e
          rw [zL_slot (by omega)]; exact hT m a b q hq
        · rw [zL_obj (by omega)]; exact hT m a b q hq
      · rw [zL_obj (by omega)]
        by_cases e : b = c
        · subst e
          rw [zL_same]
        · rw [zL_obj (by omega)]; exact hTn b (by omega)
theorem l5_ctOuter (hr : zr_ok r) (hr2 : r + 3 ≤ 140) (hR : zr_V σ r fa go) : ∀ k n τ x3, n + k = 8 → 2 ≤ n → zL_F zk_A σ τ → (∀ m, 1 ≤ m → m < n → τ.2 141 m = zk_P fa m) → (∀ m, 2 ≤ m → m < n → ∀ b, b < 2 → τ.2 (143 + b) m = zk_R fa 7 b m) → zw_W l G (d + 5) mX5_countTrees 9 [some (.ref 140), some (.ref r), some (.int (nI n)), x3] [] τ (fun x υ => x = none ∧ (∀ m, 1 ≤ m → m < 8 → υ.2 141 m = zk_P fa m) ∧ zL_F zk_A σ υ) := by
  have l141 : zw_ln (140 + 1) = 8 := by decide
  intro k
  induction k with
  | zero =>
    intro n τ x3 hn h2 hF hP hT
    obtain rfl : n = 8 := by omega
    refine zi_ild2 dX5_countTrees_9 ?_
    refine zi_bipush (nI 7) dX5_countTrees_10 (by decide) ?_
    refine zi_icmp_gt 73 dX5_countTrees_12 (by decide) (fun c12 => ?_) (fun c12 => ?_)
    · refine zi_ret dX5_countTrees_73 rfl ?_
      exact ⟨rfl, hP, hF⟩
    · exact absurd (by decide) c12
  | succ k ih =>
    intro n τ x3 hn h2 hF hP hT
    refine zi_ild2 dX5_countTrees_9 ?_
    refine zi_bipush (nI 7) dX5_countTrees_10 (by decide) ?_
    refine zi_icmp_gt 73 dX5_countTrees_12 (by decide) (fun c12 => ?_) (fun c12 => ?_)
    · rw [zn_lt (by omega) (by omega)] at c12; omega
    · refine zi_ald0 dX5_countTrees_15 ?_
      refine zi_getR dX5_countTrees_16 flX5_9 rfl (by first | assumption | decide) ?_
      refine zi_ild2 dX5_countTrees_19 ?_
      refine zi_lconst 0 dX5_countTrees_20 (by decide) ?_
      refine zi_lastN _ dX5_countTrees_21 (by first | assumption | decide) rfl (by omega) (by omega) ?_
      refine zi_iconst (nI 0) dX5_countTrees_22 (by decide) ?_
      refine zi_ist3 dX5_countTrees_23 (Nat.le_of_ble_eq_true rfl) rfl ?_
      refine l5_ctInner (σ := σ) hr hr2 hR h2 (by omega) ?_ 2 0 _ rfl (hF.pL (by unfold zk_A; omega)) (fun m a b => ?_) ?_ (fun m a b q hq => ?_) (fun b hb => by omega)
      rotate_left
      · show (zw_pL _ 141 n _).2 141 m = _
        rw [zL_slot (by omega)]; exact hP m a b
      · show (zw_pL _ 141 n _).2 141 n = _
        rw [zL_same]; rfl
      · rw [zL_obj (by omega)]; exact hT m a b q hq
      intro τ2 y3 hF2 hP2 hT2
      refine zi_inc2 (nI 1) dX5_countTrees_67 (by decide) (Nat.le_of_ble_eq_true rfl) rfl ?_
      refine zi_goto 9 dX5_countTrees_70 (by decide) ?_
      rw [nI_add]
      exact ih (n + 1) τ2 _ (by omega) (by omega) hF2 (fun m a b => hP2 m a (by omega)) (fun m a b => hT2 m a (by omega))
theorem c5_countTrees (hr : zr_ok r) (hr2 : r + 3 ≤ 140) (hR : zr_V σ r fa go) : zw_Tv l G (d + 5) mX5_countTrees [.ref 140, .ref r] σ (fun υ => (∀ m, 1 ≤ m → m < 8 → υ.2 141 m = zk_P fa m) ∧ zL_F zk_A σ υ) := by
  have l141 : zw_ln (140 + 1) = 8 := by decide
  refine zw_enter2 (L := [some _, some _, none, none]) (by decide) (Nat.le_of_ble_eq_true rfl) rfl ?_
  refine zi_ald0 dX5_countTrees_0 ?_
  refine zi_getR dX5_countTrees_1 flX5_9 rfl (by first | assumption | decide) ?_
  refine zi_iconst (nI 1) dX5_countTrees_4 (by decide) ?_
  refine zi_lconst 1 dX5_countTrees_5 (by decide) ?_
  refine zi_lastN _ dX5_countTrees_6 (by first | assumption | decide) rfl (by omega) (by omega) ?_
  refine zi_iconst (nI 2) dX5_countTrees_7 (by decide) ?_
  refine zi_ist2 dX5_countTrees_8 (Nat.le_of_ble_eq_true rfl) rfl ?_
  refine l5_ctOuter hr hr2 hR 6 2 _ _ rfl (Nat.le_refl 2) (zL_F.rf.pL (by unfold zk_A; omega)) (fun m a b => ?_) (fun m a b => by omega)
  obtain rfl : m = 1 := by omega
  show (zw_pL _ 141 1 _).2 141 1 = _
  rw [zL_same]; rfl
end Z22
