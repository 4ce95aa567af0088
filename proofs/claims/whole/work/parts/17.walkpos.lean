/-! where the trees that are still to be read begin, and what a walk hands down to them -/
def zh_p (w : List Nat) (a q : Nat) : Nat := a + zt_cn q (w.drop a)
theorem zh_p0 (w : List Nat) (a : Nat) : zh_p w a 0 = a := by unfold zh_p; simp [zt_cn]
theorem zh_leaf {w : List Nat} {a : Nat} (ha : a < w.length) (h0 : w.getD a 0 = 0) (q : Nat) : zh_p w (a + 1) q = zh_p w a (q + 1) := by
  unfold zh_p
  rw [zl_drop ha, h0]
  simp only [zt_cn]
  omega
theorem zh_node {w : List Nat} {a : Nat} (ha : a < w.length) (h0 : w.getD a 0 ≠ 0) (q : Nat) : zh_p w (a + 1) (q + 2) = zh_p w a (q + 1) := by
  unfold zh_p
  obtain ⟨x, ex⟩ : ∃ x, w.getD a 0 = x + 1 := ⟨w.getD a 0 - 1, by omega⟩
  rw [zl_drop ha, ex]
  simp only [zt_cn]
  omega
theorem zh_next {w : List Nat} {a m q : Nat} (h : zt_rd m (w.drop a)) (hq : q + 1 ≤ m) : zh_p w a q + zt_cn 1 (w.drop (zh_p w a q)) = zh_p w a (q + 1) := by
  unfold zh_p
  have e := zt_cn_add (w.drop a) q 1 (Or.inr ⟨m - (q + 1), by rw [show q + 1 + (m - (q + 1)) = m by omega]; exact h⟩)
  rw [e, List.drop_drop]
  omega
theorem zt_cn_pos : ∀ {l : List Nat} {m : Nat}, 0 < l.length → 1 ≤ m → 1 ≤ zt_cn m l
  | [], m, h, _ => by simp at h
  | 0 :: l, m + 1, _, _ => by simp [zt_cn]
  | (x + 1) :: l, m + 1, _, _ => by simp [zt_cn]
theorem zh_lt {w : List Nat} {a m q : Nat} (h : zt_rd m (w.drop a)) (ha : a ≤ w.length) (hq : q < m) : zh_p w a q < w.length ∧ zh_p w a q < zh_p w a (q + 1) := by
  have h2 : zt_rd (q + (m - q)) (w.drop a) := by rw [show q + (m - q) = m by omega]; exact h
  obtain ⟨-, s2⟩ := zt_rd_split (w.drop a) q (m - q) h2
  rw [List.drop_drop] at s2
  rw [show m - q = (m - q - 1) + 1 by omega] at s2
  have hne := zt_rd_ne s2
  rw [List.length_drop] at hne
  have hn := zh_next h (show q + 1 ≤ m by omega)
  have h1 : 1 ≤ zt_cn 1 (w.drop (zh_p w a q)) := zt_cn_pos (by rw [List.length_drop]; unfold zh_p; omega) (by decide)
  exact ⟨by unfold zh_p; omega, by omega⟩
theorem zh_mono {w : List Nat} {a m : Nat} (h : zt_rd m (w.drop a)) (ha : a ≤ w.length) : ∀ (n q : Nat), q + n + 1 ≤ m → zh_p w a q < zh_p w a (q + n + 1)
  | 0, q, hq => (zh_lt h ha (by omega)).2
  | n + 1, q, hq => Nat.lt_trans (zh_mono h ha n q (by omega)) (zh_lt h ha (show q + n + 1 < m by omega)).2
theorem zh_ne {w : List Nat} {a m p q : Nat} (h : zt_rd m (w.drop a)) (ha : a ≤ w.length) (hp : p ≤ m) (hq : q ≤ m) (hpq : p ≠ q) : zh_p w a p ≠ zh_p w a q := by
  rcases Nat.lt_or_gt_of_ne hpq with c | c
  · have := zh_mono h ha (q - p - 1) p (by omega)
    rw [show p + (q - p - 1) + 1 = q by omega] at this
    omega
  · have := zh_mono h ha (p - q - 1) q (by omega)
    rw [show q + (p - q - 1) + 1 = p by omega] at this
    omega
/-- how many trees are still to be read at place a -/
def zh_c : Nat → List Nat → Nat
  | m, [] => m
  | 0, _ :: _ => 0
  | m + 1, 0 :: l => zh_c m l
  | m + 1, (_ + 1) :: l => zh_c (m + 2) l
/-- the depths handed down: of the trees still to be read at place a -/
def zh_S (w : List Nat) : Nat → List Nat
  | 0 => [1]
  | a + 1 => match zh_S w a with
    | [] => []
    | D :: t => if w.getD a 0 = 0 then t else (D + 1) :: (D + 1) :: t
/-- the deepest node ahead of place a -/
def zh_m (w : List Nat) : Nat → Nat
  | 0 => 0
  | a + 1 => if w.getD a 0 = 0 then zh_m w a else max (zh_m w a) ((zh_S w a).getD 0 0)
theorem zh_S_rd {w : List Nat} (hw : zt_rd 1 w) : ∀ a, a ≤ w.length → zt_rd (zh_S w a).length (w.drop a)
  | 0, _ => hw
  | a + 1, ha => by
    have ih := zh_S_rd hw a (by omega)
    rw [zl_drop (by omega)] at ih
    rw [zh_S]
    cases hS : zh_S w a with
    | nil => rw [hS] at ih; exact ih.elim
    | cons D t =>
      rw [hS] at ih
      simp only
      by_cases h0 : w.getD a 0 = 0
      · rw [if_pos h0]
        rw [h0] at ih
        exact ih
      · rw [if_neg h0]
        obtain ⟨x, ex⟩ : ∃ x, w.getD a 0 = x + 1 := ⟨w.getD a 0 - 1, by omega⟩
        rw [ex] at ih
        exact ih
theorem zh_S_pos {w : List Nat} (hw : zt_rd 1 w) {a : Nat} (ha : a < w.length) : 0 < (zh_S w a).length := zt_rd_pos (zh_S_rd hw a (Nat.le_of_lt ha)) (by rw [List.length_drop]; omega)
/-- depths stay small -/
theorem zh_S_le (w : List Nat) : ∀ a, (∀ x ∈ zh_S w a, x ≤ a + 1)
  | 0 => by simp [zh_S]
  | a + 1 => by
    intro x hx
    have ih := zh_S_le w a
    rw [zh_S] at hx
    cases hS : zh_S w a with
    | nil => rw [hS] at hx; simp at hx
    | cons D t =>
      rw [hS] at hx ih
      simp only at hx
      have hD := ih D List.mem_cons_self
      split at hx
      · have := ih x (List.mem_cons_of_mem _ hx); omega
      · rcases List.mem_cons.mp hx with hx | hx
        · omega
        · rcases List.mem_cons.mp hx with hx | hx
          · omega
          · have := ih x (List.mem_cons_of_mem _ hx); omega
theorem zl_getD_le {l : List Nat} {b : Nat} (h : ∀ x ∈ l, x ≤ b) (i : Nat) : l.getD i 0 ≤ b := by
  rcases Nat.lt_or_ge i l.length with q | q
  · rw [zl_getD q]; exact h _ (List.getElem_mem q)
  · rw [zl_getD_no q]; omega
theorem zh_m_le (w : List Nat) : ∀ a, zh_m w a ≤ a
  | 0 => Nat.le_refl 0
  | a + 1 => by
    have ih := zh_m_le w a
    have hS := zl_getD_le (zh_S_le w a) 0
    rw [zh_m]
    split <;> omega
section Z17
variable {l : Launch} {G : zw_G} {d : Nat} {σ : zw_S} {h : Nat} {w : List Nat} {s : Int32}
theorem c7_handDown (ho : zt_ok h) {i : Nat} {v : Int32} (hi : i < 13) : zw_Tv l G (d + 1) mX7_handDown [.ref h, .int (nI i), .int v] σ (fun τ => τ = zw_pI σ (h + 2) i v) := by
  obtain ⟨k0, k1, k2, l1, l2⟩ := ho
  refine zw_enter2 (L := [some _, some _, some _]) (by decide) (Nat.le_of_ble_eq_true rfl) rfl ?_
  refine zi_ild1 dX7_handDown_0 ?_
  refine zi_if_lt 17 dX7_handDown_1 (by decide) (fun c1 => ?_) (fun c1 => ?_)
  · rw [zn_0, zn_neg i (by omega)] at c1; exact c1.elim
  · refine zi_ild1 dX7_handDown_4 ?_
    refine zi_bipush (nI 13) dX7_handDown_5 (by decide) ?_
    refine zi_icmp_ge 17 dX7_handDown_7 (by decide) (fun c7 => ?_) (fun c7 => ?_)
    · rw [zn_le (by omega) (by omega)] at c7; omega
    · refine zi_ald0 dX7_handDown_10 ?_
      refine zi_getR dX7_handDown_11 flX7_15 rfl (by first | assumption | decide) ?_
      refine zi_ild1 dX7_handDown_14 ?_
      refine zi_ild2 dX7_handDown_15 ?_
      refine zi_iastN _ dX7_handDown_16 (by first | assumption | decide) rfl (by omega) (by omega) ?_
      refine zi_ret dX7_handDown_17 rfl ?_
      exact ⟨rfl, rfl⟩
theorem cJ_max {a b : Nat} (ha : a < 2147483648) (hb : b < 2147483648) : zw_Ti l G (d + 1) mJ9_max_7cf53 [.int (nI a), .int (nI b)] σ (fun x τ => σ = τ ∧ x = nI (max a b)) := by
  refine zw_enter2 (L := [some _, some _]) (by decide +kernel) (Nat.le_of_ble_eq_true rfl) rfl ?_
  refine zi_ild0 dJ9_max_7cf53_0 ?_
  refine zi_ild1 dJ9_max_7cf53_1 ?_
  refine zi_icmp_lt 9 dJ9_max_7cf53_2 (by decide) (fun c2 => ?_) (fun c2 => ?_)
  · refine zi_ild1 dJ9_max_7cf53_9 ?_
    refine zi_iret dJ9_max_7cf53_10 rfl ?_
    refine ⟨_, rfl, rfl, ?_⟩
    rw [zn_lt (by omega) (by omega)] at c2
    congr 1; omega
  · refine zi_ild0 dJ9_max_7cf53_5 ?_
    refine zi_goto 10 dJ9_max_7cf53_6 (by decide) ?_
    refine zi_iret dJ9_max_7cf53_10 rfl ?_
    refine ⟨_, rfl, rfl, ?_⟩
    rw [zn_lt (by omega) (by omega)] at c2
    congr 1; omega
theorem l7_height (ho : zt_ok h) (hV : zt_V σ h w s) (hw : zt_rd 1 w) : ∀ n a τ x3, a + n = w.length → zw_F (zt_A h) σ τ → zt_V τ h w s → (∀ q, q < (zh_S w a).length → τ.1 (h + 2) (zh_p w a q) = nI ((zh_S w a).getD q 0)) → zw_W l G (d + 3) mX7_height 10 [some (.ref h), some (.int (nI (zh_m w a))), some (.int (nI a)), x3] [] τ (fun x υ => ∃ y, x = some (.int y) ∧ y = nI (zh_m w w.length) ∧ zw_F (zt_A h) σ υ) := by
  obtain ⟨k0, k1, k2, l1, l2⟩ := id ho
  have h13 := hV.1
  intro n
  induction n with
  | zero =>
    intro a τ x3 hn hF hT hI
    obtain rfl : a = w.length := by omega
    refine zi_ild2 dX7_height_10 ?_
    refine zi_ald0 dX7_height_11 ?_
    refine zi_getI dX7_height_12 flX7_18 rfl (by first | assumption | decide) ?_
    refine zi_icmp_ge 75 dX7_height_15 (by decide) (fun c15 => ?_) (fun c15 => ?_)
    · refine zi_ild1 dX7_height_75 ?_
      refine zi_iret dX7_height_76 rfl ?_
      exact ⟨_, rfl, rfl, hF⟩
    · rw [hT.2.2.1, zn_le (by omega) (by omega)] at c15; omega
  | succ n ih =>
    intro a τ x3 hn hF hT hI
    have hal : a < w.length := by omega
    have hpos := zh_S_pos hw hal
    have hrd := zh_S_rd hw a (by omega)
    have hrd2 := zh_S_rd hw (a + 1) (by omega)
    have hSl := zl_getD_le (zh_S_le w a) 0
    have hml := zh_m_le w a
    obtain ⟨D, t, hS⟩ : ∃ D t, zh_S w a = D :: t := by
      cases hh : zh_S w a with
      | nil => rw [hh] at hpos; simp at hpos
      | cons D t => exact ⟨D, t, rfl⟩
    have hD : (zh_S w a).getD 0 0 = D := by rw [hS]; rfl
    have hIa : τ.1 (h + 2) a = nI D := by
      have := hI 0 hpos
      rw [zh_p0, hD] at this
      exact this
    refine zi_ild2 dX7_height_10 ?_
    refine zi_ald0 dX7_height_11 ?_
    refine zi_getI dX7_height_12 flX7_18 rfl (by first | assumption | decide) ?_
    refine zi_icmp_ge 75 dX7_height_15 (by decide) (fun c15 => ?_) (fun c15 => ?_)
    · rw [hT.2.2.1, zn_le (by omega) (by omega)] at c15; omega
    · refine zi_ild2 dX7_height_18 ?_
      refine zi_bipush (nI 13) dX7_height_19 (by decide) ?_
      refine zi_icmp_ge 75 dX7_height_21 (by decide) (fun c21 => ?_) (fun c21 => ?_)
      · rw [zn_le (by omega) (by omega)] at c21; omega
      · refine zi_ald0 dX7_height_24 ?_
        refine zi_ild2 dX7_height_25 ?_
        refine zi_cV1i vmX7_isNode lkX7_43 dX7_height_26 (by first | assumption | decide) (Nat.le_of_ble_eq_true rfl) (c7_isNode ho hT (show a < 2147483648 by omega)) ?_
        rintro _ _ ⟨rfl, rfl⟩
        refine zi_if_eq 69 dX7_height_29 (by decide) (fun c29 => ?_) (fun c29 => ?_)
        · refine zi_inc2 (nI 1) dX7_height_69 (by decide) (Nat.le_of_ble_eq_true rfl) rfl ?_
          refine zi_goto 10 dX7_height_72 (by decide) ?_
          rw [nI_add]
          first
          | (have h0 : w.getD a 0 = 0 := by
               by_cases q : w.getD a 0 = 0
               · exact q
               · rw [if_neg q] at c29; exact absurd c29 (by decide)
             have e1 : zh_S w (a + 1) = t := by rw [zh_S, hS]; simp only; rw [if_pos h0]
             have em : zh_m w (a + 1) = zh_m w a := by rw [zh_m, if_pos h0]
             rw [← em]
             refine ih (a + 1) _ _ (by omega) hF hT (fun q hq => ?_)
             rw [e1] at hq ⊢
             rw [zh_leaf hal h0]
             have := hI (q + 1) (by rw [hS]; simp; omega)
             rw [this, hS]; rfl)
          | (refine ih (a + 1) _ _ (by omega) ((hF.pI ⟨by omega, by omega⟩).pI ⟨by omega, by omega⟩) ((hT.cg (τ := zw_pI τ (h + 2) (a + 1) (nI (D + 1))) (zs_obj (by omega)) (zs_obj (by omega))).cg (zs_obj (by omega)) (zs_obj (by omega))) (fun q hq => ?_)
             rw [e1] at hq ⊢
             have p1 : zh_p w (a + 1) 0 = a + 1 := zh_p0 _ _
             have p2 : zh_p w (a + 1) 1 = a + 1 + zt_cn 1 (w.drop (a + 1)) := rfl
             match q, hq with
             | 0, _ =>
               have := zh_ne hrd2 (show a + 1 ≤ w.length by omega) (show 0 ≤ _ by simp) (show 1 ≤ ((D + 1) :: (D + 1) :: t).length by simp) (by decide)
               rw [zs_slot (by rw [← p2]; exact this), p1, zs_same]; rfl
             | 1, _ => rw [p2, zs_same]; rfl
             | q + 2, hq =>
               have n1 := zh_ne hrd2 (show a + 1 ≤ w.length by omega) (show q + 2 ≤ _ by omega) (show 1 ≤ ((D + 1) :: (D + 1) :: t).length by simp) (show q + 2 ≠ 1 by omega)
               have n0 := zh_ne hrd2 (show a + 1 ≤ w.length by omega) (show q + 2 ≤ _ by omega) (show 0 ≤ ((D + 1) :: (D + 1) :: t).length by simp) (show q + 2 ≠ 0 by omega)
               rw [p2] at n1
               rw [p1] at n0
               rw [zs_slot n1, zs_slot n0, zh_node hal h0]
               have := hI (q + 1) (by rw [hS]; simp at hq ⊢; omega)
               rw [this, hS]; rfl)
        · have h0 : ¬ w.getD a 0 = 0 := by
            intro q; rw [if_pos q] at c29; exact absurd rfl c29
          have e1 : zh_S w (a + 1) = (D + 1) :: (D + 1) :: t := by rw [zh_S, hS]; simp only; rw [if_neg h0]
          have em : zh_m w (a + 1) = max (zh_m w a) D := by rw [zh_m, if_neg h0, hD]
          rw [e1] at hrd2
          have hle := zt_cn_le (w.drop (a + 1)) 1
          rw [List.length_drop] at hle
          refine zi_ald0 dX7_height_32 ?_
          refine zi_getR dX7_height_33 flX7_15 rfl (by first | assumption | decide) ?_
          refine zi_ild2 dX7_height_36 ?_
          refine zi_ialdN _ dX7_height_37 (by first | assumption | decide) rfl (by omega) (by omega) ?_
          rw [hIa]
          refine zi_ist3 dX7_height_38 (Nat.le_of_ble_eq_true rfl) rfl ?_
          refine zi_ild1 dX7_height_39 ?_
          refine zi_ild3 dX7_height_40 ?_
          refine zi_cS2i smJ9_max_7cf53 lkX7_85 dX7_height_41 (Nat.le_of_ble_eq_true rfl) (cJ_max (show zh_m w a < 2147483648 by omega) (show D < 2147483648 by omega)) ?_
          rintro _ _ ⟨rfl, rfl⟩
          rw [← em]
          refine zi_ist1 dX7_height_44 (Nat.le_of_ble_eq_true rfl) rfl ?_
          refine zi_ald0 dX7_height_45 ?_
          refine zi_ild2 dX7_height_46 ?_
          refine zi_iconst (nI 1) dX7_height_47 (by decide) ?_
          refine zi_iadd dX7_height_48 ?_
          refine zi_ild3 dX7_height_49 ?_
          refine zi_iconst (nI 1) dX7_height_50 (by decide) ?_
          refine zi_iadd dX7_height_51 ?_
          rw [nI_add, nI_add]
          refine zi_cV2v vmX7_handDown lkX7_82 dX7_height_52 (by first | assumption | decide) (Nat.le_of_ble_eq_true rfl) (c7_handDown ho (show a + 1 < 13 by have := (zh_lt hrd2 (show a + 1 ≤ w.length by omega) (show 0 < ((D + 1) :: (D + 1) :: t).length by simp)).1; rw [zh_p0] at this; omega)) ?_
          rintro _ rfl
          refine zi_ald0 dX7_height_55 ?_
          refine zi_ald0 dX7_height_56 ?_
          refine zi_ild2 dX7_height_57 ?_
          refine zi_iconst (nI 1) dX7_height_58 (by decide) ?_
          refine zi_iadd dX7_height_59 ?_
          rw [nI_add]
          refine zi_cV1i vmX7_endOf lkX7_51 dX7_height_60 (by first | assumption | decide) (Nat.le_of_ble_eq_true rfl) (c7_endOf ho (hT.cg (τ := zw_pI τ (h + 2) (a + 1) (nI (D + 1))) (zs_obj (by omega)) (zs_obj (by omega))) (show a + 1 ≤ w.length by omega)) ?_
          rintro _ _ ⟨rfl, rfl⟩
          refine zi_ild3 dX7_height_63 ?_
          refine zi_iconst (nI 1) dX7_height_64 (by decide) ?_
          refine zi_iadd dX7_height_65 ?_
          rw [nI_add]
          refine zi_cV2v vmX7_handDown lkX7_82 dX7_height_66 (by first | assumption | decide) (Nat.le_of_ble_eq_true rfl) (c7_handDown ho (show a + 1 + zt_cn 1 (w.drop (a + 1)) < 13 by have := (zh_lt hrd2 (show a + 1 ≤ w.length by omega) (show 1 < ((D + 1) :: (D + 1) :: t).length by simp)).1; unfold zh_p at this; omega)) ?_
          rintro _ rfl
          refine zi_inc2 (nI 1) dX7_height_69 (by decide) (Nat.le_of_ble_eq_true rfl) rfl ?_
          refine zi_goto 10 dX7_height_72 (by decide) ?_
          rw [nI_add]
          first
          | (have h0 : w.getD a 0 = 0 := by
               by_cases q : w.getD a 0 = 0
               · exact q
               · rw [if_neg q] at c29; exact absurd c29 (by decide)
             have e1 : zh_S w (a + 1) = t := by rw [zh_S, hS]; simp only; rw [if_pos h0]
             have em : zh_m w (a + 1) = zh_m w a := by rw [zh_m, if_pos h0]
             rw [← em]
             refine ih (a + 1) _ _ (by omega) hF hT (fun q hq => ?_)
             rw [e1] at hq ⊢
             rw [zh_leaf hal h0]
             have := hI (q + 1) (by rw [hS]; simp; omega)
             rw [this, hS]; rfl)
          | (refine ih (a + 1) _ _ (by omega) ((hF.pI ⟨by omega, by omega⟩).pI ⟨by omega, by omega⟩) ((hT.cg (τ := zw_pI τ (h + 2) (a + 1) (nI (D + 1))) (zs_obj (by omega)) (zs_obj (by omega))).cg (zs_obj (by omega)) (zs_obj (by omega))) (fun q hq => ?_)
             rw [e1] at hq ⊢
             have p1 : zh_p w (a + 1) 0 = a + 1 := zh_p0 _ _
             have p2 : zh_p w (a + 1) 1 = a + 1 + zt_cn 1 (w.drop (a + 1)) := rfl
             match q, hq with
             | 0, _ =>
               have := zh_ne hrd2 (show a + 1 ≤ w.length by omega) (show 0 ≤ _ by simp) (show 1 ≤ ((D + 1) :: (D + 1) :: t).length by simp) (by decide)
               rw [zs_slot (by rw [← p2]; exact this), p1, zs_same]; rfl
             | 1, _ => rw [p2, zs_same]; rfl
             | q + 2, hq =>
               have n1 := zh_ne hrd2 (show a + 1 ≤ w.length by omega) (show q + 2 ≤ _ by omega) (show 1 ≤ ((D + 1) :: (D + 1) :: t).length by simp) (show q + 2 ≠ 1 by omega)
               have n0 := zh_ne hrd2 (show a + 1 ≤ w.length by omega) (show q + 2 ≤ _ by omega) (show 0 ≤ ((D + 1) :: (D + 1) :: t).length by simp) (show q + 2 ≠ 0 by omega)
               rw [p2] at n1
               rw [p1] at n0
               rw [zs_slot n1, zs_slot n0, zh_node hal h0]
               have := hI (q + 1) (by rw [hS]; simp at hq ⊢; omega)
               rw [this, hS]; rfl)
theorem c7_height (ho : zt_ok h) (hV : zt_V σ h w s) (hw : zt_rd 1 w) : zw_Ti l G (d + 3) mX7_height [.ref h] σ (fun y υ => y = nI (zh_m w w.length) ∧ zw_F (zt_A h) σ υ) := by
  have k0 := ho.1
  refine zw_enter2 (L := [some _, none, none, none]) (by decide) (Nat.le_of_ble_eq_true rfl) rfl ?_
  refine zi_iconst (nI 0) dX7_height_0 (by decide) ?_
  refine zi_ist1 dX7_height_1 (Nat.le_of_ble_eq_true rfl) rfl ?_
  refine zi_ald0 dX7_height_2 ?_
  refine zi_iconst (nI 0) dX7_height_3 (by decide) ?_
  refine zi_iconst (nI 1) dX7_height_4 (by decide) ?_
  refine zi_cV2v vmX7_handDown lkX7_82 dX7_height_5 (by first | assumption | decide) (Nat.le_of_ble_eq_true rfl) (c7_handDown ho (show 0 < 13 by decide)) ?_
  rintro _ rfl
  refine zi_iconst (nI 0) dX7_height_8 (by decide) ?_
  refine zi_ist2 dX7_height_9 (Nat.le_of_ble_eq_true rfl) rfl ?_
  refine l7_height ho hV hw w.length 0 _ _ (by omega) ((zw_F.rf).pI ⟨by omega, by omega⟩) (hV.cg (zs_obj (by omega)) (zs_obj (by omega))) (fun q hq => ?_)
  obtain rfl : q = 0 := by have : (zh_S w 0).length = 1 := rfl; omega
  rw [zh_p0, zs_same]; rfl
end Z17
