/-! the first wrong entry of the book; the class's Judge: object 133, its trees 134 and 137 -/
def zj_W : List (List Nat) := [[1, 1, 1, 0, 0, 0, 0], [1, 1, 2, 0, 0, 0, 0], [1, 2, 1, 0, 0, 0, 0], [1, 2, 2, 0, 0, 0, 0], [2, 1, 1, 0, 0, 0, 0], [2, 1, 2, 0, 0, 0, 0], [2, 2, 1, 0, 0, 0, 0], [2, 2, 2, 0, 0, 0, 0], [1, 1, 0, 1, 0, 0, 0], [1, 1, 0, 2, 0, 0, 0], [1, 2, 0, 1, 0, 0, 0], [1, 2, 0, 2, 0, 0, 0], [2, 1, 0, 1, 0, 0, 0], [2, 1, 0, 2, 0, 0, 0], [2, 2, 0, 1, 0, 0, 0], [2, 2, 0, 2, 0, 0, 0], [1, 1, 0, 0, 1, 0, 0], [1, 1, 0, 0, 2, 0, 0], [1, 2, 0, 0, 1, 0, 0], [1, 2, 0, 0, 2, 0, 0], [2, 1, 0, 0, 1, 0, 0], [2, 1, 0, 0, 2, 0, 0], [2, 2, 0, 0, 1, 0, 0], [2, 2, 0, 0, 2, 0, 0], [1, 0, 1, 1, 0, 0, 0], [1, 0, 1, 2, 0, 0, 0], [1, 0, 2, 1, 0, 0, 0], [1, 0, 2, 2, 0, 0, 0], [2, 0, 1, 1, 0, 0, 0], [2, 0, 1, 2, 0, 0, 0], [2, 0, 2, 1, 0, 0, 0], [2, 0, 2, 2, 0, 0, 0], [1, 0, 1, 0, 1, 0, 0], [1, 0, 1, 0, 2, 0, 0], [1, 0, 2, 0, 1, 0, 0], [1, 0, 2, 0, 2, 0, 0], [2, 0, 1, 0, 1, 0, 0], [2, 0, 1, 0, 2, 0, 0], [2, 0, 2, 0, 1, 0, 0], [2, 0, 2, 0, 2, 0, 0]]
def zj_c (fa : Nat → Nat) (w : List Nat) : Bool := (zt_sp fa w).length == 2
def zj_e (fa go : Nat → Nat) (w : List Nat) (k : Nat) : Option (Nat × List Nat × Int32) := zt_pl fa go 60 0 (zt_st fa go w (nI 1) k).1 (zt_st fa go w (nI 1) k).2
/-- two ends are not the same -/
def zj_d (a b : Option (Nat × List Nat × Int32)) : Bool := match a, b with
  | some x, some y => !(decide (x.2.2 = y.2.2) && decide (zt_code x.2.1 = zt_code y.2.1))
  | _, _ => true
def zj_b (fa go : Nat → Nat) (w : List Nat) : Bool := zj_c fa w && zj_d (zj_e fa go w ((zt_sp fa w).getD 0 0)) (zj_e fa go w ((zt_sp fa w).getD 1 0))
abbrev zj_X : Type := Nat × Nat × Option Nat
def zj_n (x : Option Nat) (c : Nat) : Nat := match x with
  | none => c
  | some e => min e c
def zj_s (fa go : Nat → Nat) (x : zj_X) (w : List Nat) : zj_X := (x.1 + (if zj_c fa w then 1 else 0), x.2.1 + (if zj_b fa go w then 1 else 0), if zj_b fa go w then some (zj_n x.2.2 (zt_code w)) else x.2.2)
def zj_f (fa go : Nat → Nat) (ws : List (List Nat)) : zj_X := ws.foldl (zj_s fa go) (0, 0, none)
/-- what the judge's fields hold -/
def zj_V (σ : zw_S) (x : zj_X) : Prop := σ.1 133 2 = nI x.1 ∧ σ.1 133 3 = nI x.2.1 ∧ σ.1 133 4 = zp_oI x.2.2
def zj_A : Nat → Prop := fun o => 133 ≤ o ∧ o < 140
def zj_G (G : zw_G) : Prop := (G.2.2.2 182).1 = 5 ∧ (G.2.2.2 183).1 = 5 ∧ ∀ j, j < 5 → (G.2.2.2 182).2 j = nI (([243, 243, 243, 81, 81] : List Nat).getD j 0) ∧ (G.2.2.2 183).2 j = nI (([81, 27, 9, 27, 9] : List Nat).getD j 0)
def zt_rdb : Nat → List Nat → Bool
  | 0, [] => true
  | 0, _ :: _ => false
  | _ + 1, [] => false
  | m + 1, 0 :: l => zt_rdb m l
  | m + 1, (_ + 1) :: l => zt_rdb (m + 2) l
theorem zt_rdb_iff : ∀ (l : List Nat) (m : Nat), zt_rdb m l = true ↔ zt_rd m l
  | [], 0 => by simp [zt_rdb, zt_rd]
  | x :: l, 0 => by simp [zt_rdb, zt_rd]
  | [], m + 1 => by simp [zt_rdb, zt_rd]
  | 0 :: l, m + 1 => by simp only [zt_rdb, zt_rd]; exact zt_rdb_iff l m
  | (x + 1) :: l, m + 1 => by simp only [zt_rdb, zt_rd]; exact zt_rdb_iff l (m + 2)
theorem zj_W_wd : ∀ w ∈ zj_W, zt_wd w := by
  have h : zj_W.all (fun w => zt_rdb 1 w && w.all (fun x => decide (x < 3)) && decide (w.length ≤ 13)) = true := by decide +kernel
  intro w hw
  have := List.all_eq_true.mp h w hw
  simp only [Bool.and_eq_true, List.all_eq_true, decide_eq_true_eq] at this
  exact ⟨(zt_rdb_iff w 1).mp this.1.1, this.1.2, this.2⟩
theorem zj_W_code : ∀ a, a < 5 → ∀ b, b < 8 → zt_code (zj_W.getD (8 * a + b) []) = (b / 4 % 2 + 1) * 729 + (b / 2 % 2 + 1) * ([243, 243, 243, 81, 81] : List Nat).getD a 0 + (b % 2 + 1) * ([81, 27, 9, 27, 9] : List Nat).getD a 0 := by decide +kernel
theorem zj_W_len : zj_W.length = 40 := rfl
section Z21
variable {l : Launch} {G : zw_G} {d : Nat} {σ : zw_S} {X : zg_X} {bk : List (Nat × Int32)} {fa go : Nat → Nat} {r : Nat}
theorem c6_has_n {s t : Nat} (ho : zg_ok s) (hV : zg_V σ s X) (ht : t < 2147483648) : zw_Ti l G (d + 1) mX6_has [.ref s, .int (nI t)] σ (fun x τ => σ = τ ∧ x = if t < X.1.length then nI 1 else nI 0) := by
  by_cases q : t < X.1.length
  · rw [if_pos q]; exact c6_has ho hV q
  · rw [if_neg q]
    refine c6_has_out ho hV (Or.inr ?_)
    have := hV.1
    rw [zn_le (by omega) ht]; omega
theorem zb_w_some {sh : List zg_T} {i : Nat} (hi : i < bk.length) (h1 : ∀ j, j < i → zb_r sh (bk.getD j (0, 0)) = true) (h2 : zb_r sh (bk.getD i (0, 0)) = false) : zb_w sh bk = some i := by
  have e : bk.findIdx (fun b => !zb_r sh b) = i := by
    rw [List.findIdx_eq hi]
    rw [zd_get hi] at h2
    refine ⟨by simp [h2], fun j hj => ?_⟩
    have := h1 j hj
    rw [zd_get (by omega)] at this
    simp [this]
  unfold zb_w
  rw [e, if_pos hi]
theorem zb_w_none {sh : List zg_T} (h1 : ∀ j, j < bk.length → zb_r sh (bk.getD j (0, 0)) = true) : zb_w sh bk = none := by
  unfold zb_w
  rw [if_neg]
  intro h
  have := List.findIdx_getElem (w := h)
  have h2 := h1 _ h
  rw [zd_get h] at h2
  simp [h2] at this
theorem l0_firstWrong (hB : zb_V σ bk) (hV : zg_V σ 1 X) : ∀ n i, i + n = bk.length → (∀ j, j < i → zb_r X.1 (bk.getD j (0, 0)) = true) → zw_W l G (d + 3) mX0_firstWrong 2 [some (.ref 130), some (.ref 1), some (.int (nI i))] [] σ (fun x τ => ∃ y, x = some (.int y) ∧ σ = τ ∧ y = zp_oI (zb_w X.1 bk)) := by
  obtain ⟨v1, v2, v3⟩ := id hB
  have l1 : zw_ln (130 + 1) = 20 := by decide
  have l2 : zw_ln (130 + 2) = 20 := by decide
  have k1 : zw_kd 1 = 6 := by decide
  intro n
  induction n with
  | zero =>
    intro i hi hI
    refine zi_ild2 dX0_firstWrong_2 ?_
    refine zi_ald0 dX0_firstWrong_3 ?_
    refine zi_getI dX0_firstWrong_4 flX0_18 rfl (by first | assumption | decide) ?_
    refine zi_icmp_ge 56 dX0_firstWrong_7 (by decide) (fun c7 => ?_) (fun c7 => ?_)
    · refine zi_iconst (-1) dX0_firstWrong_56 (by decide) ?_
      refine zi_iret dX0_firstWrong_57 rfl ?_
      refine ⟨_, rfl, rfl, ?_⟩
      rw [zb_w_none (fun j hj => hI j (by omega))]; rfl
    · rw [v2, zn_le (by omega) (by omega)] at c7; omega
  | succ n ih =>
    intro i hi hI
    obtain ⟨b1, b2, b3⟩ := v3 i (by omega)
    have b2' : σ.1 (130 + 1) i = nI (bk.getD i (0, 0)).1 := b2
    have b3' : σ.1 (130 + 2) i = (bk.getD i (0, 0)).2 := b3
    refine zi_ild2 dX0_firstWrong_2 ?_
    refine zi_ald0 dX0_firstWrong_3 ?_
    refine zi_getI dX0_firstWrong_4 flX0_18 rfl (by first | assumption | decide) ?_
    refine zi_icmp_ge 56 dX0_firstWrong_7 (by decide) (fun c7 => ?_) (fun c7 => ?_)
    · rw [v2, zn_le (by omega) (by omega)] at c7; omega
    · refine zi_ild2 dX0_firstWrong_10 ?_
      refine zi_bipush (nI 20) dX0_firstWrong_11 (by decide) ?_
      refine zi_icmp_ge 56 dX0_firstWrong_13 (by decide) (fun c13 => ?_) (fun c13 => ?_)
      · rw [zn_le (by omega) (by omega)] at c13; omega
      · refine zi_ald1 dX0_firstWrong_16 ?_
        refine zi_ald0 dX0_firstWrong_17 ?_
        refine zi_getR dX0_firstWrong_18 flX0_9 rfl (by first | assumption | decide) ?_
        refine zi_ild2 dX0_firstWrong_21 ?_
        refine zi_ialdN _ dX0_firstWrong_22 (by first | assumption | decide) rfl (by omega) (by omega) ?_
        rw [b2']
        refine zi_cV1i vmX6_has lkX0_22 dX0_firstWrong_23 (by first | assumption | decide) (Nat.le_of_ble_eq_true rfl) (c6_has_n zg_ok1 hV (show (bk.getD i (0, 0)).1 < 2147483648 by omega)) ?_
        rintro _ _ ⟨rfl, rfl⟩
        refine zi_if_eq 48 dX0_firstWrong_26 (by decide) (fun c26 => ?_) (fun c26 => ?_)
        · refine zi_ild2 dX0_firstWrong_48 ?_
          refine zi_iret dX0_firstWrong_49 rfl ?_
          refine ⟨_, rfl, rfl, ?_⟩
          rw [zb_w_some (i := i) (by omega) hI]
          · rfl
          · first
            | (have q : ¬ (bk.getD i (0, 0)).1 < X.1.length := by
                 intro q; rw [if_pos q] at c26; exact absurd c26 (by decide)
               simp only [zb_r, decide_eq_false q, Bool.false_and])
            | (simp only [zb_r, decide_eq_true hlt, Bool.true_and, beq_eq_false_iff_ne, ne_eq]; exact c45)
        · have hlt : (bk.getD i (0, 0)).1 < X.1.length := by
            by_cases q : (bk.getD i (0, 0)).1 < X.1.length
            · exact q
            · rw [if_neg q] at c26; exact absurd rfl c26
          refine zi_ald1 dX0_firstWrong_29 ?_
          refine zi_ald0 dX0_firstWrong_30 ?_
          refine zi_getR dX0_firstWrong_31 flX0_9 rfl (by first | assumption | decide) ?_
          refine zi_ild2 dX0_firstWrong_34 ?_
          refine zi_ialdN _ dX0_firstWrong_35 (by first | assumption | decide) rfl (by omega) (by omega) ?_
          rw [b2']
          refine zi_cV1i vmX6_codeOf lkX0_28 dX0_firstWrong_36 (by first | assumption | decide) (Nat.le_of_ble_eq_true rfl) (c6_codeOf zg_ok1 hV hlt) ?_
          rintro _ _ ⟨rfl, rfl⟩
          refine zi_ald0 dX0_firstWrong_39 ?_
          refine zi_getR dX0_firstWrong_40 flX0_15 rfl (by first | assumption | decide) ?_
          refine zi_ild2 dX0_firstWrong_43 ?_
          refine zi_ialdN _ dX0_firstWrong_44 (by first | assumption | decide) rfl (by omega) (by omega) ?_
          rw [b3']
          refine zi_icmp_eq 50 dX0_firstWrong_45 (by decide) (fun c45 => ?_) (fun c45 => ?_)
          · refine zi_inc2 (nI 1) dX0_firstWrong_50 (by decide) (Nat.le_of_ble_eq_true rfl) rfl ?_
            refine zi_goto 2 dX0_firstWrong_53 (by decide) ?_
            rw [nI_add]
            refine ih (i + 1) (by omega) (fun j hj => ?_)
            by_cases e : j = i
            · subst e
              simp only [zb_r, decide_eq_true hlt, Bool.true_and, beq_iff_eq]; exact c45
            · exact hI j (by omega)
          · refine zi_ild2 dX0_firstWrong_48 ?_
            refine zi_iret dX0_firstWrong_49 rfl ?_
            refine ⟨_, rfl, rfl, ?_⟩
            rw [zb_w_some (i := i) (by omega) hI]
            · rfl
            · first
              | (have q : ¬ (bk.getD i (0, 0)).1 < X.1.length := by
                   intro q; rw [if_pos q] at c26; exact absurd c26 (by decide)
                 simp only [zb_r, decide_eq_false q, Bool.false_and])
              | (simp only [zb_r, decide_eq_true hlt, Bool.true_and, beq_eq_false_iff_ne, ne_eq]; exact c45)
theorem c0_firstWrong (hB : zb_V σ bk) (hV : zg_V σ 1 X) : zw_Ti l G (d + 3) mX0_firstWrong [.ref 130, .ref 1] σ (fun x τ => σ = τ ∧ x = zp_oI (zb_w X.1 bk)) := by
  refine zw_enter2 (L := [some _, some _, none]) (by decide) (Nat.le_of_ble_eq_true rfl) rfl ?_
  refine zi_iconst (nI 0) dX0_firstWrong_0 (by decide) ?_
  refine zi_ist2 dX0_firstWrong_1 (Nat.le_of_ble_eq_true rfl) rfl ?_
  exact l0_firstWrong hB hV bk.length 0 (by omega) (fun j hj => by omega)
theorem zt_ok134 : zt_ok 134 := by refine ⟨?_, ?_, ?_, ?_, ?_⟩ <;> decide
theorem zt_ok137 : zt_ok 137 := by refine ⟨?_, ?_, ?_, ?_, ?_⟩ <;> decide
theorem l3_bad {c x1 x2 : Nat} {x3 : Option Nat} {y3 : Option Value} {τ : zw_S} (hx2 : x2 < 1000) (hx3 : ∀ c, x3 = some c → c < 2147483648) (hc : c < 2147483648) (hJ1 : τ.1 133 2 = nI x1) (hJ2 : τ.1 133 3 = nI x2) (hJ3 : τ.1 133 4 = zp_oI x3) (hF : zw_F zj_A σ τ) : zw_W l G (d + 5) mX3_judgeOne 125 [some (.ref 133), some (.int (nI c)), some (.ref r), y3] [] τ (fun x υ => x = none ∧ zj_V υ (x1, x2 + 1, some (zj_n x3 c)) ∧ zw_F zj_A σ υ) := by
  have k133 : zw_kd 133 = 3 := by decide
  refine zi_ald0 dX3_judgeOne_125 ?_
  refine zi_dupr dX3_judgeOne_126 ?_
  refine zi_getI dX3_judgeOne_127 flX3_25 rfl (by first | assumption | decide) ?_
  refine zi_iconst (nI 1) dX3_judgeOne_130 (by decide) ?_
  refine zi_iadd dX3_judgeOne_131 ?_
  rw [hJ2, nI_add]
  refine zi_putI dX3_judgeOne_132 flX3_25 fp_3_3 rfl (by first | assumption | decide) ?_
  refine zi_ald0 dX3_judgeOne_135 ?_
  refine zi_ald0 dX3_judgeOne_136 ?_
  refine zi_getI dX3_judgeOne_137 flX3_28 rfl (by first | assumption | decide) ?_
  rw [zs_slot (by decide), hJ3]
  refine zi_iconst (-1) dX3_judgeOne_140 (by decide) ?_
  refine zi_icmp_ne 148 dX3_judgeOne_141 (by decide) (fun c141 => ?_) (fun c141 => ?_)
  · rw [zp_oI_m1 hx3] at c141
    obtain ⟨e, rfl⟩ := Option.ne_none_iff_exists'.mp c141
    refine zi_ald0 dX3_judgeOne_148 ?_
    refine zi_getI dX3_judgeOne_149 flX3_28 rfl (by first | assumption | decide) ?_
    rw [zs_slot (by decide), hJ3, zp_oI_some]
    refine zi_ild1 dX3_judgeOne_152 ?_
    refine zi_cS2i smJ9_min_7cf53 lkX3_68 dX3_judgeOne_153 (Nat.le_of_ble_eq_true rfl) (cJ_min (hx3 e rfl) hc) ?_
    rintro _ _ ⟨rfl, rfl⟩
    refine zi_putI dX3_judgeOne_156 flX3_28 fp_3_4 rfl (by first | assumption | decide) ?_
    refine zi_ret dX3_judgeOne_159 rfl ?_
    refine ⟨rfl, ⟨?_, ?_, ?_⟩, (hF.pI (by unfold zj_A; omega)).pI (by unfold zj_A; omega)⟩
    · rw [zs_slot (by decide), zs_slot (by decide)]; exact hJ1
    · rw [zs_slot (by decide), zs_same]
    · rw [zs_same]; rfl
  · rw [zp_oI_m1 hx3] at c141
    subst c141
    refine zi_ild1 dX3_judgeOne_144 ?_
    refine zi_goto 156 dX3_judgeOne_145 (by decide) ?_
    refine zi_putI dX3_judgeOne_156 flX3_28 fp_3_4 rfl (by first | assumption | decide) ?_
    refine zi_ret dX3_judgeOne_159 rfl ?_
    refine ⟨rfl, ⟨?_, ?_, ?_⟩, (hF.pI (by unfold zj_A; omega)).pI (by unfold zj_A; omega)⟩
    · rw [zs_slot (by decide), zs_slot (by decide)]; exact hJ1
    · rw [zs_slot (by decide), zs_same]
    · rw [zs_same]; rfl
theorem l3_107n {c x1 x2 : Nat} {x3 : Option Nat} {τ : zw_S} (hx2 : x2 < 1000) (hx3 : ∀ c, x3 = some c → c < 2147483648) (hc : c < 2147483648) (hJ1 : τ.1 133 2 = nI x1) (hJ2 : τ.1 133 3 = nI x2) (hJ3 : τ.1 133 4 = zp_oI x3) (hF : zw_F zj_A σ τ) : zw_W l G (d + 5) mX3_judgeOne 107 [some (.ref 133), some (.int (nI c)), some (.ref r), some (.int (nI 0))] [] τ (fun x υ => x = none ∧ zj_V υ (x1, x2 + 1, some (zj_n x3 c)) ∧ zw_F zj_A σ υ) := by
  refine zi_ild3 dX3_judgeOne_107 ?_
  refine zi_if_eq 125 dX3_judgeOne_108 (by decide) (fun c108 => ?_) (fun c108 => ?_)
  · exact l3_bad hx2 hx3 hc hJ1 hJ2 hJ3 hF
  · exact absurd rfl c108
theorem l3_107y {c x1 x2 : Nat} {x3 : Option Nat} {τ : zw_S} {u v : List Nat} {s t : Int32} (hx2 : x2 < 1000) (hx3 : ∀ c, x3 = some c → c < 2147483648) (hc : c < 2147483648) (hJ1 : τ.1 133 2 = nI x1) (hJ2 : τ.1 133 3 = nI x2) (hJ3 : τ.1 133 4 = zp_oI x3) (hF : zw_F zj_A σ τ) (hU : zt_V τ 134 u s) (hV : zt_V τ 137 v t) : zw_W l G (d + 5) mX3_judgeOne 107 [some (.ref 133), some (.int (nI c)), some (.ref r), some (.int (nI 1))] [] τ (fun x υ => x = none ∧ zj_V υ (if s = t ∧ zt_code u = zt_code v then (x1, x2, x3) else (x1, x2 + 1, some (zj_n x3 c))) ∧ zw_F zj_A σ υ) := by
  have k133 : zw_kd 133 = 3 := by decide
  have k134 : zw_kd (133 + 1) = 7 := by decide
  refine zi_ild3 dX3_judgeOne_107 ?_
  refine zi_if_eq 125 dX3_judgeOne_108 (by decide) (fun c108 => ?_) (fun c108 => ?_)
  · exact absurd c108 (by decide)
  · refine zi_ald0 dX3_judgeOne_111 ?_
    refine zi_getR dX3_judgeOne_112 flX3_12 rfl (by first | assumption | decide) ?_
    refine zi_ald0 dX3_judgeOne_115 ?_
    refine zi_getR dX3_judgeOne_116 flX3_18 rfl (by first | assumption | decide) ?_
    refine zi_cV1i vmX7_equalTo lkX3_64 dX3_judgeOne_119 (by first | assumption | decide) (Nat.le_of_ble_eq_true rfl) (c7_equalTo zt_ok134 zt_ok137 hU hV) ?_
    rintro _ _ ⟨rfl, rfl⟩
    refine zi_if_ne 159 dX3_judgeOne_122 (by decide) (fun c122 => ?_) (fun c122 => ?_)
    · refine zi_ret dX3_judgeOne_159 rfl ?_
      by_cases q : s = t ∧ zt_code u = zt_code v
      · rw [if_pos q]
        exact ⟨rfl, ⟨hJ1, hJ2, hJ3⟩, hF⟩
      · rw [if_neg q] at c122; exact absurd rfl c122
    · by_cases q : s = t ∧ zt_code u = zt_code v
      · rw [if_pos q] at c122; exact absurd c122 (by decide)
      · rw [if_neg q]
        exact l3_bad hx2 hx3 hc hJ1 hJ2 hJ3 hF
theorem c3_judgeOne {w : List Nat} {x : zj_X} (hr : zr_ok r) (hr2 : r + 3 ≤ 133) (hR : zr_V σ r fa go) (hw : zt_wd w) (hJ : zj_V σ x) (hx1 : x.1 < 1000 ∧ x.2.1 < 1000) (hx2 : ∀ c, x.2.2 = some c → c < 2147483648) : zw_Tv l G (d + 5) mX3_judgeOne [.ref 133, .int (nI (zt_code w)), .ref r] σ (fun υ => zj_V υ (zj_s fa go x w) ∧ zw_F zj_A σ υ) := by
  have hcs := zt_code_small hw.2.1 hw.2.2
  have k133 : zw_kd 133 = 3 := by decide
  have r0 := hr.1
  have o1 := zt_ok134
  have o2 := zt_ok137
  have k134 : zw_kd (133 + 1) = 7 := by decide
  have k137 : zw_kd (133 + 4) = 7 := by decide
  have fA : ∀ o, zt_A 134 o → zj_A o := fun o q => by unfold zt_A at q; unfold zj_A; omega
  have fB : ∀ o, zt_A 137 o → zj_A o := fun o q => by unfold zt_A at q; unfold zj_A; omega
  obtain ⟨x1, x2, x3⟩ := x
  obtain ⟨hJ1, hJ2, hJ3⟩ := hJ
  simp only at hJ1 hJ2 hJ3 hx1 hx2
  have rF : ∀ {τ : zw_S}, zw_F zj_A σ τ → zr_V τ r fa go := fun hF => hR.cg (hF.2 _ (by unfold zj_A; omega)) (hF.2 _ (by unfold zj_A; omega))
  refine zw_enter2 (L := [some _, some _, some _, none]) (by decide) (Nat.le_of_ble_eq_true rfl) rfl ?_
  refine zi_ald0 dX3_judgeOne_0 ?_
  refine zi_getR dX3_judgeOne_1 flX3_12 rfl (by first | assumption | decide) ?_
  refine zi_ild1 dX3_judgeOne_4 ?_
  refine zi_iconst (nI 1) dX3_judgeOne_5 (by decide) ?_
  refine zi_cV2v vmX7_readCode lkX3_42 dX3_judgeOne_6 (by first | assumption | decide) (Nat.le_of_ble_eq_true rfl) (c7_readCode (h := 134) (w := w) o1 hw.2.1 hw.nm hw.2.2) ?_
  rintro τ1 ⟨hT1, hF1⟩
  have g1 : zw_F zj_A σ τ1 := hF1.mono fA
  have j1 : τ1.1 133 = σ.1 133 := hF1.2 133 (by unfold zt_A; omega)
  have hsl := zt_sp_len (fa := fa) (w := w)
  have hwl := hw.2.2
  refine zi_ald0 dX3_judgeOne_9 ?_
  refine zi_getR dX3_judgeOne_10 flX3_12 rfl (by first | assumption | decide) ?_
  refine zi_ald2 dX3_judgeOne_13 ?_
  refine zi_cV1i vmX7_places lkX3_46 dX3_judgeOne_14 (by first | assumption | decide) (Nat.le_of_ble_eq_true rfl) (c7_places (h := 134) o1 hr hT1 (rF g1)) ?_
  rintro _ _ ⟨rfl, rfl⟩
  refine zi_iconst (nI 2) dX3_judgeOne_17 (by decide) ?_
  refine zi_icmp_eq 22 dX3_judgeOne_18 (by decide) (fun c18 => ?_) (fun c18 => ?_)
  · rw [zn_eq (by omega) (by omega)] at c18
    have hc : zj_c fa w = true := by unfold zj_c; simpa using c18
    obtain ⟨k0, k1, hsp⟩ : ∃ a b, zt_sp fa w = [a, b] := by
      match hm : zt_sp fa w, c18 with
      | [a, b], _ => exact ⟨a, b, rfl⟩
    have s0 : (zt_sp fa w)[0]? = some k0 := by rw [hsp]; rfl
    have s1 : (zt_sp fa w)[1]? = some k1 := by rw [hsp]; rfl
    have b0 : zt_bi fa w k0 = true := (List.mem_filter.mp (List.mem_of_getElem? s0)).2
    have b1 : zt_bi fa w k1 = true := (List.mem_filter.mp (List.mem_of_getElem? s1)).2
    have hbd : zj_b fa go w = zj_d (zj_e fa go w k0) (zj_e fa go w k1) := by unfold zj_b; rw [hc, hsp]; rfl
    have wd0 : zt_wd (zt_st fa go w (nI 1) k0).1 := zt_st_wd hw (zt_bi_lt b0).1 (fun q => (hR _ (zt_bi_lt b0).1).2.2.1.mp (by have := (zt_bi_lt b0).2; omega))
    have wd1 : zt_wd (zt_st fa go w (nI 1) k1).1 := zt_st_wd hw (zt_bi_lt b1).1 (fun q => (hR _ (zt_bi_lt b1).1).2.2.1.mp (by have := (zt_bi_lt b1).2; omega))
    refine zi_ald0 dX3_judgeOne_22 ?_
    refine zi_dupr dX3_judgeOne_23 ?_
    refine zi_getI dX3_judgeOne_24 flX3_21 rfl (by first | assumption | decide) ?_
    refine zi_iconst (nI 1) dX3_judgeOne_27 (by decide) ?_
    refine zi_iadd dX3_judgeOne_28 ?_
    rw [j1, hJ1, nI_add]
    refine zi_putI dX3_judgeOne_29 flX3_21 fp_3_2 rfl (by first | assumption | decide) ?_
    refine zi_ald0 dX3_judgeOne_32 ?_
    refine zi_getR dX3_judgeOne_33 flX3_18 rfl (by first | assumption | decide) ?_
    refine zi_ald0 dX3_judgeOne_36 ?_
    refine zi_getR dX3_judgeOne_37 flX3_12 rfl (by first | assumption | decide) ?_
    refine zi_cV1v vmX7_copyFrom lkX3_50 dX3_judgeOne_40 (by first | assumption | decide) (Nat.le_of_ble_eq_true rfl) (c7_copyFrom (h := 137) (q := 134) o2 o1 (by omega) (hT1.cg (τ := zw_pI τ1 133 2 (nI (x1 + 1))) (zs_obj (by omega)) (zs_obj (by omega)))) ?_
    rintro τ2 ⟨hT2, hF2⟩
    have g2 : zw_F zj_A σ τ2 := (g1.pI (by unfold zj_A; omega)).tr hF2 (fun _ q => q) fB
    have j2 : τ2.1 133 = (zw_pI τ1 133 2 (nI (x1 + 1))).1 133 := hF2.2 133 (by unfold zt_A; omega)
    have hO2 : zt_V τ2 134 w (nI 1) := (hT1.cg (τ := zw_pI τ1 133 2 (nI (x1 + 1))) (zs_obj (by omega)) (zs_obj (by omega))).fr hF2 (by unfold zt_A; omega) (by unfold zt_A; omega)
    refine zi_ald0 dX3_judgeOne_43 ?_
    refine zi_getR dX3_judgeOne_44 flX3_12 rfl (by first | assumption | decide) ?_
    refine zi_ald0 dX3_judgeOne_47 ?_
    refine zi_getR dX3_judgeOne_48 flX3_12 rfl (by first | assumption | decide) ?_
    refine zi_iconst (nI 0) dX3_judgeOne_51 (by decide) ?_
    refine zi_ald2 dX3_judgeOne_52 ?_
    refine zi_cV2i vmX7_spotOf lkX3_54 dX3_judgeOne_53 (by first | assumption | decide) (Nat.le_of_ble_eq_true rfl) (c7_spotOf (h := 134) (k := nI 0) o1 hr hO2 (rF g2)) ?_
    rintro _ _ ⟨rfl, rfl⟩
    rw [zp_at_n (by decide), s0, zp_oI_some]
    refine zi_ald2 dX3_judgeOne_56 ?_
    refine zi_cV2v vmX7_stepAt lkX3_58 dX3_judgeOne_57 (by first | assumption | decide) (Nat.le_of_ble_eq_true rfl) (c7_stepAt (h := 134) o1 hr (by omega) hO2 (rF g2) hw.1 b0) ?_
    rintro τ3 ⟨hT3, hF3⟩
    have g3 : zw_F zj_A σ τ3 := g2.tr hF3 (fun _ q => q) fA
    have j3 : τ3.1 133 = τ2.1 133 := hF3.2 133 (by unfold zt_A; omega)
    have hP3 : zt_V τ3 137 w (nI 1) := hT2.fr hF3 (by unfold zt_A; omega) (by unfold zt_A; omega)
    refine zi_ald0 dX3_judgeOne_60 ?_
    refine zi_getR dX3_judgeOne_61 flX3_18 rfl (by first | assumption | decide) ?_
    refine zi_ald0 dX3_judgeOne_64 ?_
    refine zi_getR dX3_judgeOne_65 flX3_18 rfl (by first | assumption | decide) ?_
    refine zi_iconst (nI 1) dX3_judgeOne_68 (by decide) ?_
    refine zi_ald2 dX3_judgeOne_69 ?_
    refine zi_cV2i vmX7_spotOf lkX3_54 dX3_judgeOne_70 (by first | assumption | decide) (Nat.le_of_ble_eq_true rfl) (c7_spotOf (h := 137) (k := nI 1) o2 hr hP3 (rF g3)) ?_
    rintro _ _ ⟨rfl, rfl⟩
    rw [zp_at_n (by decide), s1, zp_oI_some]
    refine zi_ald2 dX3_judgeOne_73 ?_
    refine zi_cV2v vmX7_stepAt lkX3_58 dX3_judgeOne_74 (by first | assumption | decide) (Nat.le_of_ble_eq_true rfl) (c7_stepAt (h := 137) o2 hr (by omega) hP3 (rF g3) hw.1 b1) ?_
    rintro τ4 ⟨hT4, hF4⟩
    have g4 : zw_F zj_A σ τ4 := g3.tr hF4 (fun _ q => q) fB
    have j4 : τ4.1 133 = τ3.1 133 := hF4.2 133 (by unfold zt_A; omega)
    have hO4 : zt_V τ4 134 _ _ := hT3.fr hF4 (by unfold zt_A; omega) (by unfold zt_A; omega)
    refine zi_ald0 dX3_judgeOne_77 ?_
    refine zi_getR dX3_judgeOne_78 flX3_12 rfl (by first | assumption | decide) ?_
    refine zi_ald2 dX3_judgeOne_81 ?_
    refine zi_cV1i vmX7_makePlain lkX3_61 dX3_judgeOne_82 (by first | assumption | decide) (Nat.le_of_ble_eq_true rfl) (c7_makePlain (h := 134) o1 hr (by omega) hO4 (rF g4) wd0) ?_
    rintro y5 τ5 ⟨hF5, hE5⟩
    have g5 : zw_F zj_A σ τ5 := g4.tr hF5 (fun _ q => q) fA
    have j5 : τ5.1 133 = τ4.1 133 := hF5.2 133 (by unfold zt_A; omega)
    have hP5 : zt_V τ5 137 _ _ := hT4.fr hF5 (by unfold zt_A; omega) (by unfold zt_A; omega)
    have q5 : τ5.1 133 = (zw_pI τ1 133 2 (nI (x1 + 1))).1 133 := by rw [j5, j4, j3, j2]
    refine zi_iconst (-1) dX3_judgeOne_85 (by decide) ?_
    refine zi_icmp_eq 105 dX3_judgeOne_86 (by decide) (fun c86 => ?_) (fun c86 => ?_)
    · refine zi_iconst (nI 0) dX3_judgeOne_105 (by decide) ?_
      refine zi_ist3 dX3_judgeOne_106 (Nat.le_of_ble_eq_true rfl) rfl ?_
      first
      | (have hd : zj_b fa go w = true := by
           rw [hbd]
           unfold zj_e
           first
           | (rcases hE6 with ⟨e6, n6⟩ | ⟨n6, w6, t6, p6, h60, e6, v6, d6⟩
              · rw [n6]; cases zt_pl fa go 60 0 (zt_st fa go w (nI 1) k0).1 (zt_st fa go w (nI 1) k0).2 <;> rfl
              · rw [e6, zn_m1 n6 (by omega)] at c98; exact absurd c98 id)
           | (rcases hE5 with ⟨e5, n5⟩ | ⟨n5, w5, t5, p5, h50, e5, v5, d5⟩
              · rw [n5]; rfl
              · rw [e5, zn_m1 n5 (by omega)] at c86; exact absurd c86 id)
         have e : zj_s fa go (x1, x2, x3) w = (x1 + 1, x2 + 1, some (zj_n x3 (zt_code w))) := by simp [zj_s, hc, hd]
         rw [e]
         first
         | exact l3_107n (c := zt_code w) (x1 := x1 + 1) (x2 := x2) (x3 := x3) hx1.2 hx2 (by omega) (by rw [q6, zs_same]) (by rw [q6, zs_slot (by decide), j1]; exact hJ2) (by rw [q6, zs_slot (by decide), j1]; exact hJ3) g6
         | exact l3_107n (c := zt_code w) (x1 := x1 + 1) (x2 := x2) (x3 := x3) hx1.2 hx2 (by omega) (by rw [q5, zs_same]) (by rw [q5, zs_slot (by decide), j1]; exact hJ2) (by rw [q5, zs_slot (by decide), j1]; exact hJ3) g5)
      | (rcases hE6 with ⟨e6, n6⟩ | ⟨n6, w6, t6, p6, -, e6, v6, d6⟩
         · exact absurd e6 c98
         · rcases hE5 with ⟨e5, n5⟩ | ⟨n5, w5, t5, p5, -, e5, v5, d5⟩
           · exact absurd e5 c86
           · have hO6 : zt_V τ6 134 w5 t5 := v5.fr hF6 (by unfold zt_A; omega) (by unfold zt_A; omega)
             have := l3_107y (l := l) (G := G) (d := d) (σ := σ) (r := r) (c := zt_code w) (x1 := x1 + 1) (x2 := x2) (x3 := x3) hx1.2 hx2 (by omega) (by rw [q6, zs_same]) (by rw [q6, zs_slot (by decide), j1]; exact hJ2) (by rw [q6, zs_slot (by decide), j1]; exact hJ3) g6 hO6 v6
             refine zw_W.mono this (fun x υ hx => ⟨hx.1, ?_, hx.2.2⟩)
             have hd : zj_b fa go w = !(decide (t5 = t6) && decide (zt_code w5 = zt_code w6)) := by
               rw [hbd]; unfold zj_e; rw [p5, p6]; rfl
             have e : zj_s fa go (x1, x2, x3) w = if t5 = t6 ∧ zt_code w5 = zt_code w6 then (x1 + 1, x2, x3) else (x1 + 1, x2 + 1, some (zj_n x3 (zt_code w))) := by
               by_cases q : t5 = t6 ∧ zt_code w5 = zt_code w6
               · rw [if_pos q]; simp [zj_s, hc, hd, q]
               · have hd2 : zj_b fa go w = true := by rw [hd, ← Bool.decide_and, decide_eq_false q]; rfl
                 rw [if_neg q]; simp [zj_s, hc, hd2]
             rw [e]; exact hx.2.1)
    · refine zi_ald0 dX3_judgeOne_89 ?_
      refine zi_getR dX3_judgeOne_90 flX3_18 rfl (by first | assumption | decide) ?_
      refine zi_ald2 dX3_judgeOne_93 ?_
      refine zi_cV1i vmX7_makePlain lkX3_61 dX3_judgeOne_94 (by first | assumption | decide) (Nat.le_of_ble_eq_true rfl) (c7_makePlain (h := 137) o2 hr (by omega) hP5 (rF g5) wd1) ?_
      rintro y6 τ6 ⟨hF6, hE6⟩
      have g6 : zw_F zj_A σ τ6 := g5.tr hF6 (fun _ q => q) fB
      have j6 : τ6.1 133 = τ5.1 133 := hF6.2 133 (by unfold zt_A; omega)
      have q6 : τ6.1 133 = (zw_pI τ1 133 2 (nI (x1 + 1))).1 133 := by rw [j6, q5]
      refine zi_iconst (-1) dX3_judgeOne_97 (by decide) ?_
      refine zi_icmp_eq 105 dX3_judgeOne_98 (by decide) (fun c98 => ?_) (fun c98 => ?_)
      · refine zi_iconst (nI 0) dX3_judgeOne_105 (by decide) ?_
        refine zi_ist3 dX3_judgeOne_106 (Nat.le_of_ble_eq_true rfl) rfl ?_
        first
        | (have hd : zj_b fa go w = true := by
             rw [hbd]
             unfold zj_e
             first
             | (rcases hE6 with ⟨e6, n6⟩ | ⟨n6, w6, t6, p6, h60, e6, v6, d6⟩
                · rw [n6]; cases zt_pl fa go 60 0 (zt_st fa go w (nI 1) k0).1 (zt_st fa go w (nI 1) k0).2 <;> rfl
                · rw [e6, zn_m1 n6 (by omega)] at c98; exact absurd c98 id)
             | (rcases hE5 with ⟨e5, n5⟩ | ⟨n5, w5, t5, p5, h50, e5, v5, d5⟩
                · rw [n5]; rfl
                · rw [e5, zn_m1 n5 (by omega)] at c86; exact absurd c86 id)
           have e : zj_s fa go (x1, x2, x3) w = (x1 + 1, x2 + 1, some (zj_n x3 (zt_code w))) := by simp [zj_s, hc, hd]
           rw [e]
           first
           | exact l3_107n (c := zt_code w) (x1 := x1 + 1) (x2 := x2) (x3 := x3) hx1.2 hx2 (by omega) (by rw [q6, zs_same]) (by rw [q6, zs_slot (by decide), j1]; exact hJ2) (by rw [q6, zs_slot (by decide), j1]; exact hJ3) g6
           | exact l3_107n (c := zt_code w) (x1 := x1 + 1) (x2 := x2) (x3 := x3) hx1.2 hx2 (by omega) (by rw [q5, zs_same]) (by rw [q5, zs_slot (by decide), j1]; exact hJ2) (by rw [q5, zs_slot (by decide), j1]; exact hJ3) g5)
        | (rcases hE6 with ⟨e6, n6⟩ | ⟨n6, w6, t6, p6, -, e6, v6, d6⟩
           · exact absurd e6 c98
           · rcases hE5 with ⟨e5, n5⟩ | ⟨n5, w5, t5, p5, -, e5, v5, d5⟩
             · exact absurd e5 c86
             · have hO6 : zt_V τ6 134 w5 t5 := v5.fr hF6 (by unfold zt_A; omega) (by unfold zt_A; omega)
               have := l3_107y (l := l) (G := G) (d := d) (σ := σ) (r := r) (c := zt_code w) (x1 := x1 + 1) (x2 := x2) (x3 := x3) hx1.2 hx2 (by omega) (by rw [q6, zs_same]) (by rw [q6, zs_slot (by decide), j1]; exact hJ2) (by rw [q6, zs_slot (by decide), j1]; exact hJ3) g6 hO6 v6
               refine zw_W.mono this (fun x υ hx => ⟨hx.1, ?_, hx.2.2⟩)
               have hd : zj_b fa go w = !(decide (t5 = t6) && decide (zt_code w5 = zt_code w6)) := by
                 rw [hbd]; unfold zj_e; rw [p5, p6]; rfl
               have e : zj_s fa go (x1, x2, x3) w = if t5 = t6 ∧ zt_code w5 = zt_code w6 then (x1 + 1, x2, x3) else (x1 + 1, x2 + 1, some (zj_n x3 (zt_code w))) := by
                 by_cases q : t5 = t6 ∧ zt_code w5 = zt_code w6
                 · rw [if_pos q]; simp [zj_s, hc, hd, q]
                 · have hd2 : zj_b fa go w = true := by rw [hd, ← Bool.decide_and, decide_eq_false q]; rfl
                   rw [if_neg q]; simp [zj_s, hc, hd2]
               rw [e]; exact hx.2.1)
      · refine zi_iconst (nI 1) dX3_judgeOne_101 (by decide) ?_
        refine zi_goto 106 dX3_judgeOne_102 (by decide) ?_
        refine zi_ist3 dX3_judgeOne_106 (Nat.le_of_ble_eq_true rfl) rfl ?_
        first
        | (have hd : zj_b fa go w = true := by
             rw [hbd]
             unfold zj_e
             first
             | (rcases hE6 with ⟨e6, n6⟩ | ⟨n6, w6, t6, p6, h60, e6, v6, d6⟩
                · rw [n6]; cases zt_pl fa go 60 0 (zt_st fa go w (nI 1) k0).1 (zt_st fa go w (nI 1) k0).2 <;> rfl
                · rw [e6, zn_m1 n6 (by omega)] at c98; exact absurd c98 id)
             | (rcases hE5 with ⟨e5, n5⟩ | ⟨n5, w5, t5, p5, h50, e5, v5, d5⟩
                · rw [n5]; rfl
                · rw [e5, zn_m1 n5 (by omega)] at c86; exact absurd c86 id)
           have e : zj_s fa go (x1, x2, x3) w = (x1 + 1, x2 + 1, some (zj_n x3 (zt_code w))) := by simp [zj_s, hc, hd]
           rw [e]
           first
           | exact l3_107n (c := zt_code w) (x1 := x1 + 1) (x2 := x2) (x3 := x3) hx1.2 hx2 (by omega) (by rw [q6, zs_same]) (by rw [q6, zs_slot (by decide), j1]; exact hJ2) (by rw [q6, zs_slot (by decide), j1]; exact hJ3) g6
           | exact l3_107n (c := zt_code w) (x1 := x1 + 1) (x2 := x2) (x3 := x3) hx1.2 hx2 (by omega) (by rw [q5, zs_same]) (by rw [q5, zs_slot (by decide), j1]; exact hJ2) (by rw [q5, zs_slot (by decide), j1]; exact hJ3) g5)
        | (rcases hE6 with ⟨e6, n6⟩ | ⟨n6, w6, t6, p6, -, e6, v6, d6⟩
           · exact absurd e6 c98
           · rcases hE5 with ⟨e5, n5⟩ | ⟨n5, w5, t5, p5, -, e5, v5, d5⟩
             · exact absurd e5 c86
             · have hO6 : zt_V τ6 134 w5 t5 := v5.fr hF6 (by unfold zt_A; omega) (by unfold zt_A; omega)
               have := l3_107y (l := l) (G := G) (d := d) (σ := σ) (r := r) (c := zt_code w) (x1 := x1 + 1) (x2 := x2) (x3 := x3) hx1.2 hx2 (by omega) (by rw [q6, zs_same]) (by rw [q6, zs_slot (by decide), j1]; exact hJ2) (by rw [q6, zs_slot (by decide), j1]; exact hJ3) g6 hO6 v6
               refine zw_W.mono this (fun x υ hx => ⟨hx.1, ?_, hx.2.2⟩)
               have hd : zj_b fa go w = !(decide (t5 = t6) && decide (zt_code w5 = zt_code w6)) := by
                 rw [hbd]; unfold zj_e; rw [p5, p6]; rfl
               have e : zj_s fa go (x1, x2, x3) w = if t5 = t6 ∧ zt_code w5 = zt_code w6 then (x1 + 1, x2, x3) else (x1 + 1, x2 + 1, some (zj_n x3 (zt_code w))) := by
                 by_cases q : t5 = t6 ∧ zt_code w5 = zt_code w6
                 · rw [if_pos q]; simp [zj_s, hc, hd, q]
                 · have hd2 : zj_b fa go w = true := by rw [hd, ← Bool.decide_and, decide_eq_false q]; rfl
                   rw [if_neg q]; simp [zj_s, hc, hd2]
               rw [e]; exact hx.2.1)
  · rw [zn_eq (by omega) (by omega)] at c18
    refine zi_ret dX3_judgeOne_21 rfl ?_
    refine ⟨rfl, ?_, g1⟩
    have hc : zj_c fa w = false := by unfold zj_c; simpa using c18
    have hb : zj_b fa go w = false := by unfold zj_b; rw [hc]; rfl
    refine ⟨?_, ?_, ?_⟩
    · rw [j1, hJ1]; simp [zj_s, hc]
    · rw [j1, hJ2]; simp [zj_s, hb]
    · rw [j1, hJ3]; simp [zj_s, hb]
theorem zj_f_le (fa go : Nat → Nat) (ws : List (List Nat)) : (zj_f fa go ws).1 ≤ ws.length ∧ (zj_f fa go ws).2.1 ≤ ws.length := by
  have key : ∀ (ws : List (List Nat)) (x : zj_X), (ws.foldl (zj_s fa go) x).1 ≤ x.1 + ws.length ∧ (ws.foldl (zj_s fa go) x).2.1 ≤ x.2.1 + ws.length := by
    intro ws
    induction ws with
    | nil => intro x; simp
    | cons w ws ih =>
      intro x
      have := ih (zj_s fa go x w)
      have h1 : (zj_s fa go x w).1 ≤ x.1 + 1 := by
        show x.1 + (if zj_c fa w then 1 else 0) ≤ _
        split <;> omega
      have h2 : (zj_s fa go x w).2.1 ≤ x.2.1 + 1 := by
        show x.2.1 + (if zj_b fa go w then 1 else 0) ≤ _
        split <;> omega
      simp only [List.foldl_cons, List.length_cons]
      omega
  have := key ws (0, 0, none)
  simpa [zj_f] using this
theorem zj_f_fb (fa go : Nat → Nat) (ws : List (List Nat)) (hw : ∀ w ∈ ws, zt_wd w) : ∀ c, (zj_f fa go ws).2.2 = some c → c < 1594323 := by
  have key : ∀ (ws : List (List Nat)) (x : zj_X), (∀ w ∈ ws, zt_wd w) → (∀ c, x.2.2 = some c → c < 1594323) → ∀ c, (ws.foldl (zj_s fa go) x).2.2 = some c → c < 1594323 := by
    intro ws
    induction ws with
    | nil => intro x _ h; exact h
    | cons w ws ih =>
      intro x hw h
      refine ih _ (fun v hv => hw v (List.mem_cons_of_mem _ hv)) (fun c hc => ?_)
      have hww := hw w List.mem_cons_self
      have hcs := zt_code_small hww.2.1 hww.2.2
      have hc : (if zj_b fa go w then some (zj_n x.2.2 (zt_code w)) else x.2.2) = some c := hc
      split at hc
      · cases hx : x.2.2 with
        | none => rw [hx] at hc; simp [zj_n] at hc; omega
        | some e =>
          have := h e hx
          rw [hx] at hc
          simp [zj_n] at hc
          omega
      · exact h c hc
  exact key ws (0, 0, none) hw (fun c hc => by simp at hc)
theorem zj_f_snoc (fa go : Nat → Nat) {n : Nat} (hn : n < 40) : zj_f fa go (zj_W.take (n + 1)) = zj_s fa go (zj_f fa go (zj_W.take n)) (zj_W.getD n []) := by
  have : zj_W.take (n + 1) = zj_W.take n ++ [zj_W.getD n []] := by
    rw [List.take_succ, List.getElem?_eq_getElem (show n < zj_W.length from hn), zd_get (show n < zj_W.length from hn)]; rfl
  rw [this]
  unfold zj_f
  rw [List.foldl_append]; rfl
theorem l3_inner (hG : zj_G G) (hr : zr_ok r) (hr2 : r + 3 ≤ 133) (hR : zr_V σ r fa go) {a : Nat} (ha : a < 5) {P : Option Value → zw_S → Prop} (hk : ∀ τ x3 x4 x5 x6, zw_F zj_A σ τ → zj_V τ (zj_f fa go (zj_W.take (8 * a + 8))) → zw_W l G (d + 6) mX3_judgeAll 101 [some (.ref 133), some (.ref r), some (.int (nI a)), x3, x4, x5, x6] [] τ P) : ∀ n b τ x4 x5 x6, b + n = 8 → zw_F zj_A σ τ → zj_V τ (zj_f fa go (zj_W.take (8 * a + b))) → zw_W l G (d + 6) mX3_judgeAll 35 [some (.ref 133), some (.ref r), some (.int (nI a)), some (.int (nI b)), x4, x5, x6] [] τ P := by
  have r0 := hr.1
  have k133 : zw_kd 133 = 3 := by decide
  obtain ⟨hG1, hG2, hG3⟩ := hG
  intro n
  induction n with
  | zero =>
    intro b τ x4 x5 x6 hb hF hJ
    obtain rfl : b = 8 := by omega
    refine zi_ild3 dX3_judgeAll_35 ?_
    refine zi_bipush (nI 8) dX3_judgeAll_36 (by decide) ?_
    refine zi_icmp_ge 101 dX3_judgeAll_38 (by decide) (fun c38 => ?_) (fun c38 => ?_)
    · exact hk τ _ _ _ _ hF hJ
    · exact absurd (by decide) c38
  | succ n ih =>
    intro b τ x4 x5 x6 hb hF hJ
    obtain ⟨g1, g2⟩ := hG3 a ha
    have hcd := zj_W_code a ha b (by omega)
    have hmem : zj_W.getD (8 * a + b) [] ∈ zj_W := zd_mem (show 8 * a + b < zj_W.length by rw [zj_W_len]; omega)
    have hwd := zj_W_wd _ hmem
    have hle := zj_f_le fa go (zj_W.take (8 * a + b))
    rw [List.length_take, zj_W_len] at hle
    have hfb := zj_f_fb fa go (zj_W.take (8 * a + b)) (fun w hw => zj_W_wd w (List.mem_of_mem_take hw))
    refine zi_ild3 dX3_judgeAll_35 ?_
    refine zi_bipush (nI 8) dX3_judgeAll_36 (by decide) ?_
    refine zi_icmp_ge 101 dX3_judgeAll_38 (by decide) (fun c38 => ?_) (fun c38 => ?_)
    · rw [zn_le (by omega) (by omega)] at c38; omega
    · refine zi_ild3 dX3_judgeAll_41 ?_
      refine zi_iconst (nI 2) dX3_judgeAll_42 (by decide) ?_
      refine zi_ishr dX3_judgeAll_43 ?_
      refine zi_iconst (nI 1) dX3_judgeAll_44 (by decide) ?_
      refine zi_iand dX3_judgeAll_45 ?_
      refine zi_iconst (nI 1) dX3_judgeAll_46 (by decide) ?_
      refine zi_iadd dX3_judgeAll_47 ?_
      rw [pk_shrN (by omega) _ 2 rfl, pk_andN (by omega) (m := nI 1) 1 rfl, nI_add]
      refine zi_ist4 dX3_judgeAll_48 (Nat.le_of_ble_eq_true rfl) rfl ?_
      refine zi_ild3 dX3_judgeAll_50 ?_
      refine zi_iconst (nI 1) dX3_judgeAll_51 (by decide) ?_
      refine zi_ishr dX3_judgeAll_52 ?_
      refine zi_iconst (nI 1) dX3_judgeAll_53 (by decide) ?_
      refine zi_iand dX3_judgeAll_54 ?_
      refine zi_iconst (nI 1) dX3_judgeAll_55 (by decide) ?_
      refine zi_iadd dX3_judgeAll_56 ?_
      rw [pk_shrN (by omega) _ 1 rfl, pk_andN (by omega) (m := nI 1) 1 rfl, nI_add]
      refine zi_ist5 dX3_judgeAll_57 (Nat.le_of_ble_eq_true rfl) rfl ?_
      refine zi_ild3 dX3_judgeAll_59 ?_
      refine zi_iconst (nI 1) dX3_judgeAll_60 (by decide) ?_
      refine zi_iand dX3_judgeAll_61 ?_
      refine zi_iconst (nI 1) dX3_judgeAll_62 (by decide) ?_
      refine zi_iadd dX3_judgeAll_63 ?_
      rw [pk_andN (by omega) (m := nI 1) 1 rfl, nI_add]
      refine zi_ist6 dX3_judgeAll_64 (Nat.le_of_ble_eq_true rfl) rfl ?_
      refine zi_ald0 dX3_judgeAll_66 ?_
      refine zi_ild4 dX3_judgeAll_67 ?_
      refine zi_sipush (nI 729) dX3_judgeAll_69 (by decide) ?_
      refine zi_imul dX3_judgeAll_72 ?_
      refine zi_ild5 dX3_judgeAll_73 ?_
      refine zi_gets2 dX3_judgeAll_75 gsX3_31 ?_
      refine zi_ild2 dX3_judgeAll_78 ?_
      refine zi_xald a dX3_judgeAll_79 (by decide) rfl (by rw [hG1]; exact ha) (by rw [hG1]; decide) ?_
      rw [g1]
      refine zi_imul dX3_judgeAll_80 ?_
      refine zi_iadd dX3_judgeAll_81 ?_
      refine zi_ild6 dX3_judgeAll_82 ?_
      refine zi_gets3 dX3_judgeAll_84 gsX3_35 ?_
      refine zi_ild2 dX3_judgeAll_87 ?_
      refine zi_xald a dX3_judgeAll_88 (by decide) rfl (by rw [hG2]; exact ha) (by rw [hG2]; decide) ?_
      rw [g2]
      refine zi_imul dX3_judgeAll_89 ?_
      refine zi_iadd dX3_judgeAll_90 ?_
      rw [pk_mul, pk_mul, pk_mul, nI_add, nI_add, show (b / 2 ^ 2 % 2 ^ 1 + 1) * 729 + (b / 2 ^ 1 % 2 ^ 1 + 1) * ([243, 243, 243, 81, 81] : List Nat).getD a 0 + (b % 2 ^ 1 + 1) * ([81, 27, 9, 27, 9] : List Nat).getD a 0 = zt_code (zj_W.getD (8 * a + b) []) from hcd.symm]
      refine zi_ald1 dX3_judgeAll_91 ?_
      refine zi_cV2v vmX3_judgeOne lkX3_38 dX3_judgeAll_92 (by first | assumption | decide) (Nat.le_of_ble_eq_true rfl) (c3_judgeOne hr hr2 (hR.cg (hF.2 _ (by unfold zj_A; omega)) (hF.2 _ (by unfold zj_A; omega))) hwd hJ (by omega) (fun c hc => by have := hfb c hc; omega)) ?_
      rintro τ2 ⟨hJ2, hF2⟩
      refine zi_inc3 (nI 1) dX3_judgeAll_95 (by decide) (Nat.le_of_ble_eq_true rfl) rfl ?_
      refine zi_goto 35 dX3_judgeAll_98 (by decide) ?_
      rw [nI_add]
      rw [← zj_f_snoc fa go (by omega)] at hJ2
      exact ih (b + 1) τ2 _ _ _ (by omega) (hF.tr hF2 (fun _ q => q) (fun _ q => q)) hJ2
theorem l3_outer (hG : zj_G G) (hr : zr_ok r) (hr2 : r + 3 ≤ 133) (hR : zr_V σ r fa go) : ∀ n a τ x3 x4 x5 x6, a + n = 5 → zw_F zj_A σ τ → zj_V τ (zj_f fa go (zj_W.take (8 * a))) → zw_W l G (d + 6) mX3_judgeAll 17 [some (.ref 133), some (.ref r), some (.int (nI a)), x3, x4, x5, x6] [] τ (fun x υ => x = none ∧ zj_V υ (zj_f fa go zj_W) ∧ zw_F zj_A σ υ) := by
  obtain ⟨hG1, hG2, hG3⟩ := id hG
  intro n
  induction n with
  | zero =>
    intro a τ x3 x4 x5 x6 ha hF hJ
    obtain rfl : a = 5 := by omega
    refine zi_ild2 dX3_judgeAll_17 ?_
    refine zi_gets2 dX3_judgeAll_18 gsX3_31 ?_
    refine zi_xlen (nI 5) dX3_judgeAll_21 (by decide) (by rw [hG1]; rfl) ?_
    refine zi_icmp_ge 107 dX3_judgeAll_22 (by decide) (fun c22 => ?_) (fun c22 => ?_)
    · refine zi_ret dX3_judgeAll_107 rfl ?_
      exact ⟨rfl, hJ, hF⟩
    · exact absurd (by decide) c22
  | succ n ih =>
    intro a τ x3 x4 x5 x6 ha hF hJ
    refine zi_ild2 dX3_judgeAll_17 ?_
    refine zi_gets2 dX3_judgeAll_18 gsX3_31 ?_
    refine zi_xlen (nI 5) dX3_judgeAll_21 (by decide) (by rw [hG1]; rfl) ?_
    refine zi_icmp_ge 107 dX3_judgeAll_22 (by decide) (fun c22 => ?_) (fun c22 => ?_)
    · rw [zn_le (by omega) (by omega)] at c22; omega
    · refine zi_ild2 dX3_judgeAll_25 ?_
      refine zi_gets3 dX3_judgeAll_26 gsX3_35 ?_
      refine zi_xlen (nI 5) dX3_judgeAll_29 (by decide) (by rw [hG2]; rfl) ?_
      refine zi_icmp_ge 107 dX3_judgeAll_30 (by decide) (fun c30 => ?_) (fun c30 => ?_)
      · rw [zn_le (by omega) (by omega)] at c30; omega
      · refine zi_iconst (nI 0) dX3_judgeAll_33 (by decide) ?_
        refine zi_ist3 dX3_judgeAll_34 (Nat.le_of_ble_eq_true rfl) rfl ?_
        refine l3_inner hG hr hr2 hR (show a < 5 by omega) ?_ 8 0 τ _ _ _ rfl hF hJ
        intro τ2 y3 y4 y5 y6 hF2 hJ2
        refine zi_inc2 (nI 1) dX3_judgeAll_101 (by decide) (Nat.le_of_ble_eq_true rfl) rfl ?_
        refine zi_goto 17 dX3_judgeAll_104 (by decide) ?_
        rw [nI_add]
        exact ih (a + 1) τ2 _ _ _ _ (by omega) hF2 hJ2
theorem c3_judgeAll (hG : zj_G G) (hr : zr_ok r) (hr2 : r + 3 ≤ 133) (hR : zr_V σ r fa go) : zw_Tv l G (d + 6) mX3_judgeAll [.ref 133, .ref r] σ (fun υ => zj_V υ (zj_f fa go zj_W) ∧ zw_F zj_A σ υ) := by
  have k133 : zw_kd 133 = 3 := by decide
  have hA : zj_A 133 := by unfold zj_A; omega
  refine zw_enter2 (L := [some _, some _, none, none, none, none, none]) (by decide) (Nat.le_of_ble_eq_true rfl) rfl ?_
  refine zi_ald0 dX3_judgeAll_0 ?_
  refine zi_iconst (nI 0) dX3_judgeAll_1 (by decide) ?_
  refine zi_putI dX3_judgeAll_2 flX3_21 fp_3_2 rfl (by first | assumption | decide) ?_
  refine zi_ald0 dX3_judgeAll_5 ?_
  refine zi_iconst (nI 0) dX3_judgeAll_6 (by decide) ?_
  refine zi_putI dX3_judgeAll_7 flX3_25 fp_3_3 rfl (by first | assumption | decide) ?_
  refine zi_ald0 dX3_judgeAll_10 ?_
  refine zi_iconst (-1) dX3_judgeAll_11 (by decide) ?_
  refine zi_putI dX3_judgeAll_12 flX3_28 fp_3_4 rfl (by first | assumption | decide) ?_
  refine zi_iconst (nI 0) dX3_judgeAll_15 (by decide) ?_
  refine zi_ist2 dX3_judgeAll_16 (Nat.le_of_ble_eq_true rfl) rfl ?_
  have hF := ((zw_F.rf (A := zj_A) (σ := σ)).pI (o := 133) (j := 2) (v := nI 0) hA).pI (o := 133) (j := 3) (v := nI 0) hA
  have hF := hF.pI (o := 133) (j := 4) (v := -1) hA
  refine zw_W.mono (l3_outer (σ := zw_pI (zw_pI (zw_pI σ 133 2 (nI 0)) 133 3 (nI 0)) 133 4 (-1)) hG hr hr2 (hR.cg (hF.2 _ (by unfold zj_A; omega)) (hF.2 _ (by unfold zj_A; omega))) 5 0 _ _ _ _ _ rfl zw_F.rf ?_) (fun x υ hx => ⟨hx.1, hx.2.1, hF.tr hx.2.2 (fun _ q => q) (fun _ q => q)⟩)
  refine ⟨?_, ?_, ?_⟩
  · rw [zs_slot (by decide), zs_slot (by decide), zs_same]; rfl
  · rw [zs_slot (by decide), zs_same]; rfl
  · rw [zs_same]; rfl
end Z21
