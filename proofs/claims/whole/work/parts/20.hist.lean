/-! the class's History: object 7, its ring 8 of the states 9 + 6 j; its Book: object 130 -/
theorem zi_ixor {l : Launch} {G : zw_G} {d : Nat} {M : zw_M} {pc : Nat} {L : List (Option Value)} {st : List Value} {σ : zw_S} {P : Option Value → zw_S → Prop} {x y : Int32} (hd : decode M.2.1 pc = .ok (.ixor, 1)) (k : zw_W l G d M (pc + 1) L (.int (x ^^^ y) :: st) σ P) : zw_W l G d M pc L (.int y :: .int x :: st) σ P := zi_lift (fun _ _ _ _ _ _ _ _ _ _ _ _ _ _ _ hx hb => lv_ixor hx hb hd) k
def zq_sl (nx j : Nat) : Nat := 9 + 6 * ((nx + 19 - j) % 20)
/-- the ring: where the next one goes; the latest states, the newest first -/
def zq_V (σ : zw_S) (nx : Nat) (H : List zg_X) : Prop := nx < 20 ∧ H.length ≤ 20 ∧ σ.1 7 1 = nI nx ∧ σ.1 7 2 = nI H.length ∧ ∀ j, j < H.length → zg_V σ (zq_sl nx j) (H.getD j ([], fun _ => 0, fun _ => 8))
def zq_A : Nat → Prop := fun o => 7 ≤ o ∧ o < 129
theorem zq_ok : ∀ j, j < 20 → zg_ok (9 + 6 * j) := by
  have h : (List.range 20).all (fun j => decide (zw_kd (9 + 6 * j) = 6 ∧ (zw_kd (9 + 6 * j + 1) = 4 ∧ zw_kd (9 + 6 * j + 1 + 1) = 10 ∧ zw_kd (9 + 6 * j + 1 + 2) = 10 ∧ zw_ln (9 + 6 * j + 1 + 1) = 8 ∧ zw_ln (9 + 6 * j + 1 + 2) = 8) ∧ zw_kd (9 + 6 * j + 4) = 10 ∧ zw_kd (9 + 6 * j + 5) = 10 ∧ zw_ln (9 + 6 * j + 4) = 8 ∧ zw_ln (9 + 6 * j + 5) = 8)) = true := by decide +kernel
  intro j hj
  have := List.all_eq_true.mp h j (List.mem_range.mpr hj)
  have h2 := of_decide_eq_true this
  exact h2
theorem zg_ok1 : zg_ok 1 := by
  refine ⟨?_, ⟨?_, ?_, ?_, ?_, ?_⟩, ?_, ?_, ?_, ?_⟩ <;> decide
section Z20
variable {l : Launch} {G : zw_G} {d : Nat} {σ : zw_S} {X : zg_X} {H : List zg_X} {nx : Nat}
theorem zq_V.fr {τ : zw_S} {A : Nat → Prop} (hV : zq_V σ nx H) (hF : zw_F A σ τ) (h1 : ∀ o, zq_A o → ¬ A o) : zq_V τ nx H := by
  obtain ⟨v1, v2, v3, v4, v5⟩ := hV
  refine ⟨v1, v2, by rw [hF.2 7 (h1 7 (by unfold zq_A; omega))]; exact v3, by rw [hF.2 7 (h1 7 (by unfold zq_A; omega))]; exact v4, fun j hj => (v5 j hj).fr hF (fun o a b => h1 o ?_)⟩
  unfold zq_sl at a b
  unfold zq_A
  omega
theorem cJ_min {a b : Nat} (ha : a < 2147483648) (hb : b < 2147483648) : zw_Ti l G (d + 1) mJ9_min_7cf53 [.int (nI a), .int (nI b)] σ (fun x τ => σ = τ ∧ x = nI (min a b)) := by
  refine zw_enter2 (L := [some _, some _]) (by decide +kernel) (Nat.le_of_ble_eq_true rfl) rfl ?_
  refine zi_ild0 dJ9_min_7cf53_0 ?_
  refine zi_ild1 dJ9_min_7cf53_1 ?_
  refine zi_icmp_gt 9 dJ9_min_7cf53_2 (by decide) (fun c2 => ?_) (fun c2 => ?_)
  · refine zi_ild1 dJ9_min_7cf53_9 ?_
    refine zi_iret dJ9_min_7cf53_10 rfl ?_
    refine ⟨_, rfl, rfl, ?_⟩
    rw [zn_lt (by omega) (by omega)] at c2
    congr 1; omega
  · refine zi_ild0 dJ9_min_7cf53_5 ?_
    refine zi_goto 10 dJ9_min_7cf53_6 (by decide) ?_
    refine zi_iret dJ9_min_7cf53_10 rfl ?_
    refine ⟨_, rfl, rfl, ?_⟩
    rw [zn_lt (by omega) (by omega)] at c2
    congr 1; omega
theorem zq_fm : ∀ a, a < 20 → ∀ b, b < 21 → 1 ≤ b → (let x := nI a - nI b; let r := x - x / nI 20 * nI 20; (if (0 : Int32) ≤ x ^^^ nI 20 then r else if r = 0 then r else r + nI 20) = nI ((a + 20 - b) % 20)) := by decide +kernel
theorem cJ_floorMod {a b : Nat} (ha : a < 20) (hb : b < 21) (hb1 : 1 ≤ b) : zw_Ti l G (d + 1) mJ9_floorMod_7cf53 [.int (nI a - nI b), .int (nI 20)] σ (fun x τ => σ = τ ∧ x = nI ((a + 20 - b) % 20)) := by
  have h := zq_fm a ha b hb hb1
  simp only at h
  refine zw_enter2 (L := [some _, some _, none]) (by decide +kernel) (Nat.le_of_ble_eq_true rfl) rfl ?_
  refine zi_ild0 dJ9_floorMod_7cf53_0 ?_
  refine zi_ild1 dJ9_floorMod_7cf53_1 ?_
  refine zi_irem dJ9_floorMod_7cf53_2 (by decide) ?_
  refine zi_ist2 dJ9_floorMod_7cf53_3 (Nat.le_of_ble_eq_true rfl) rfl ?_
  refine zi_ild0 dJ9_floorMod_7cf53_4 ?_
  refine zi_ild1 dJ9_floorMod_7cf53_5 ?_
  refine zi_ixor dJ9_floorMod_7cf53_6 ?_
  refine zi_if_ge 18 dJ9_floorMod_7cf53_7 (by decide) (fun c7 => ?_) (fun c7 => ?_)
  · refine zi_ild2 dJ9_floorMod_7cf53_18 ?_
    refine zi_iret dJ9_floorMod_7cf53_19 rfl ?_
    refine ⟨_, rfl, rfl, ?_⟩
    first
    | (rw [if_pos c7] at h; exact h)
    | (rw [if_neg c7, if_pos c11] at h; exact h)
  · refine zi_ild2 dJ9_floorMod_7cf53_10 ?_
    refine zi_if_eq 18 dJ9_floorMod_7cf53_11 (by decide) (fun c11 => ?_) (fun c11 => ?_)
    · refine zi_ild2 dJ9_floorMod_7cf53_18 ?_
      refine zi_iret dJ9_floorMod_7cf53_19 rfl ?_
      refine ⟨_, rfl, rfl, ?_⟩
      first
      | (rw [if_pos c7] at h; exact h)
      | (rw [if_neg c7, if_pos c11] at h; exact h)
    · refine zi_ild2 dJ9_floorMod_7cf53_14 ?_
      refine zi_ild1 dJ9_floorMod_7cf53_15 ?_
      refine zi_iadd dJ9_floorMod_7cf53_16 ?_
      refine zi_iret dJ9_floorMod_7cf53_17 rfl ?_
      refine ⟨_, rfl, rfl, ?_⟩
      rw [if_neg c7, if_neg c11] at h
      exact h
theorem c1_slotAt {i : Nat} (hi : i < 20) : zw_Tr l G (d + 1) mX1_slotAt [.ref 7, .int (nI i)] σ (fun x τ => σ = τ ∧ x = .ref (9 + 6 * i)) := by
  have l8 : zw_ln 8 = 20 := by decide
  have e8 : zw_er 8 i = 9 + 6 * i := by unfold zw_er; rw [if_pos rfl]
  refine zw_enter2 (L := [some _, some _]) (by decide) (Nat.le_of_ble_eq_true rfl) rfl ?_
  refine zi_ild1 dX1_slotAt_0 ?_
  refine zi_if_lt 22 dX1_slotAt_1 (by decide) (fun c1 => ?_) (fun c1 => ?_)
  · rw [zn_0, zn_neg i (by omega)] at c1; exact c1.elim
  · refine zi_ild1 dX1_slotAt_4 ?_
    refine zi_ald0 dX1_slotAt_5 ?_
    refine zi_getR dX1_slotAt_6 flX1_11 rfl (by first | assumption | decide) ?_
    refine zi_alen (nI 20) dX1_slotAt_9 (by decide) (by decide) ?_
    refine zi_icmp_ge 22 dX1_slotAt_10 (by decide) (fun c10 => ?_) (fun c10 => ?_)
    · rw [zn_le (by omega) (by omega)] at c10; omega
    · refine zi_ald0 dX1_slotAt_13 ?_
      refine zi_getR dX1_slotAt_14 flX1_11 rfl (by first | assumption | decide) ?_
      refine zi_ild1 dX1_slotAt_17 ?_
      refine zi_aaldN 1 i dX1_slotAt_18 (by first | assumption | decide) (by decide) rfl (by show i < zw_ln 8; omega) (by decide) ?_
      rw [show zw_er (7 + 1) i = 9 + 6 * i from e8]
      refine zi_goto 23 dX1_slotAt_19 (by decide) ?_
      refine zi_aret dX1_slotAt_23 rfl (Or.inr ⟨_, rfl⟩) ?_
      exact ⟨_, rfl, rfl, rfl⟩
theorem c1_forget (hV : zq_V σ nx H) : zw_Tv l G (d + 1) mX1_forget [.ref 7] σ (fun υ => zq_V υ nx [] ∧ zw_F (fun o => o = 7) σ υ) := by
  refine zw_enter2 (L := [some _]) (by decide) (Nat.le_of_ble_eq_true rfl) rfl ?_
  refine zi_ald0 dX1_forget_0 ?_
  refine zi_iconst (nI 0) dX1_forget_1 (by decide) ?_
  refine zi_putI dX1_forget_2 flX1_21 fp_1_2 rfl (by first | assumption | decide) ?_
  refine zi_ret dX1_forget_5 rfl ?_
  refine ⟨rfl, ⟨hV.1, by simp, ?_, zs_same _ _ _ _, fun j hj => by simp at hj⟩, zw_F.rf.pI rfl⟩
  rw [zs_slot (by decide)]; exact hV.2.2.1
theorem c1_record (hV : zq_V σ nx H) (hX : zg_V σ 1 X) : zw_Tv l G (d + 3) mX1_record [.ref 7, .ref 1] σ (fun υ => zq_V υ ((nx + 1) % 20) ((X :: H).take 20) ∧ zw_F zq_A σ υ) := by
  obtain ⟨v1, v2, v3, v4, v5⟩ := id hV
  have kn := (zq_ok nx v1).1
  refine zw_enter2 (L := [some _, some _, none]) (by decide) (Nat.le_of_ble_eq_true rfl) rfl ?_
  refine zi_ald0 dX1_record_0 ?_
  refine zi_ald0 dX1_record_1 ?_
  refine zi_getI dX1_record_2 flX1_17 rfl (by first | assumption | decide) ?_
  rw [v3]
  refine zi_cV1r vmX1_slotAt lkX1_25 dX1_record_5 (by first | assumption | decide) (Nat.le_of_ble_eq_true rfl) (c1_slotAt v1) ?_
  rintro _ _ ⟨rfl, rfl⟩
  refine zi_ast2 dX1_record_8 (Nat.le_of_ble_eq_true rfl) rfl ?_
  refine zi_ald2 dX1_record_9 ?_
  refine zi_ifnull dX1_record_10 ?_
  refine zi_ald2 dX1_record_13 ?_
  refine zi_ald1 dX1_record_14 ?_
  refine zi_cV1v vmX6_copyFrom lkX1_29 dX1_record_15 (by first | assumption | decide) (Nat.le_of_ble_eq_true rfl) (c6_copyFrom (zq_ok nx v1) zg_ok1 (by omega) hX) ?_
  rintro τ1 ⟨hT1, hF1⟩
  have w3 : τ1.1 7 1 = nI nx := by rw [hF1.2 7 (by unfold zg_A; omega)]; exact v3
  have w4 : τ1.1 7 2 = nI H.length := by rw [hF1.2 7 (by unfold zg_A; omega)]; exact v4
  refine zi_ald0 dX1_record_18 ?_
  refine zi_ald0 dX1_record_19 ?_
  refine zi_getI dX1_record_20 flX1_17 rfl (by first | assumption | decide) ?_
  refine zi_iconst (nI 1) dX1_record_23 (by decide) ?_
  refine zi_iadd dX1_record_24 ?_
  refine zi_bipush (nI 20) dX1_record_25 (by decide) ?_
  refine zi_irem dX1_record_27 (by decide) ?_
  rw [w3, nI_add, pk_rem (by omega) (by decide) (by decide)]
  refine zi_putI dX1_record_28 flX1_17 fp_1_1 rfl (by first | assumption | decide) ?_
  refine zi_ald0 dX1_record_31 ?_
  refine zi_ald0 dX1_record_32 ?_
  refine zi_getI dX1_record_33 flX1_21 rfl (by first | assumption | decide) ?_
  refine zi_iconst (nI 1) dX1_record_36 (by decide) ?_
  refine zi_iadd dX1_record_37 ?_
  refine zi_bipush (nI 20) dX1_record_38 (by decide) ?_
  rw [zs_slot (by decide), w4, nI_add]
  refine zi_cS2i smJ9_min_7cf53 lkX1_33 dX1_record_40 (Nat.le_of_ble_eq_true rfl) (cJ_min (show H.length + 1 < 2147483648 by omega) (show 20 < 2147483648 by decide)) ?_
  rintro _ _ ⟨rfl, rfl⟩
  refine zi_putI dX1_record_43 flX1_21 fp_1_2 rfl (by first | assumption | decide) ?_
  refine zi_ret dX1_record_46 rfl ?_
  have hF2 : zw_F zq_A σ (zw_pI (zw_pI τ1 7 1 (nI ((nx + 1) % 20))) 7 2 (nI (min (H.length + 1) 20))) := ((hF1.mono (fun o q => by unfold zg_A at q; unfold zq_A; omega)).pI (by unfold zq_A; omega)).pI (by unfold zq_A; omega)
  refine ⟨rfl, ⟨by omega, by rw [List.length_take]; omega, ?_, ?_, fun j hj => ?_⟩, hF2⟩
  · rw [zs_slot (by decide), zs_same]
  · rw [zs_same, List.length_take, List.length_cons]; congr 1; omega
  · rw [List.length_take, List.length_cons] at hj
    rw [List.getD_eq_getElem?_getD, List.getElem?_take, if_pos (by omega)]
    cases j with
    | zero =>
      have e : zq_sl ((nx + 1) % 20) 0 = 9 + 6 * nx := by unfold zq_sl; omega
      rw [e]
      exact hT1.cg (fun o a b => by rw [zs_obj (by omega), zs_obj (by omega)])
    | succ j =>
      have e : zq_sl ((nx + 1) % 20) (j + 1) = zq_sl nx j := by unfold zq_sl; omega
      have e2 : zq_sl nx j + 6 ≤ 9 + 6 * nx ∨ 9 + 6 * nx + 6 ≤ zq_sl nx j := by unfold zq_sl; omega
      have e3 : 9 ≤ zq_sl nx j := by unfold zq_sl; omega
      rw [e]
      have := v5 j (by omega)
      rw [List.getD_eq_getElem?_getD] at this
      refine this.cg (fun o a b => ?_)
      rw [zs_obj (by omega), zs_obj (by omega), hF1.2 o (by unfold zg_A; omega)]
theorem c1_rewind (hV : zq_V σ nx H) {n : Nat} (h1 : 1 ≤ n) (hn : n ≤ H.length) : zw_Tv l G (d + 3) mX1_rewind [.ref 7, .int (nI n), .ref 1] σ (fun υ => zq_V υ ((nx + 20 - n) % 20) (H.drop n) ∧ zg_V υ 1 (H.getD (n - 1) ([], fun _ => 0, fun _ => 8)) ∧ zw_F (fun o => o = 7 ∨ (1 ≤ o ∧ o < 7)) σ υ) := by
  obtain ⟨v1, v2, v3, v4, v5⟩ := id hV
  have hsl : zq_sl nx (n - 1) = 9 + 6 * ((nx + 20 - n) % 20) := by unfold zq_sl; congr 2; omega
  have hS := v5 (n - 1) (by omega)
  rw [hsl] at hS
  refine zw_enter2 (L := [some _, some _, some _, none]) (by decide) (Nat.le_of_ble_eq_true rfl) rfl ?_
  refine zi_ald0 dX1_rewind_0 ?_
  refine zi_ald0 dX1_rewind_1 ?_
  refine zi_getI dX1_rewind_2 flX1_17 rfl (by first | assumption | decide) ?_
  refine zi_ild1 dX1_rewind_5 ?_
  rw [v3]
  refine zi_isub dX1_rewind_6 ?_
  refine zi_bipush (nI 20) dX1_rewind_7 (by decide) ?_
  refine zi_cS2i smJ9_floorMod_7cf53 lkX1_39 dX1_rewind_9 (Nat.le_of_ble_eq_true rfl) (cJ_floorMod v1 (show n < 21 by omega) h1) ?_
  rintro _ _ ⟨rfl, rfl⟩
  refine zi_putI dX1_rewind_12 flX1_17 fp_1_1 rfl (by first | assumption | decide) ?_
  refine zi_ald0 dX1_rewind_15 ?_
  refine zi_ald0 dX1_rewind_16 ?_
  refine zi_getI dX1_rewind_17 flX1_21 rfl (by first | assumption | decide) ?_
  refine zi_ild1 dX1_rewind_20 ?_
  refine zi_isub dX1_rewind_21 ?_
  rw [zs_slot (by decide), v4, pk_sub hn]
  refine zi_iconst (nI 0) dX1_rewind_22 (by decide) ?_
  refine zi_cS2i smJ9_max_7cf53 lkX1_42 dX1_rewind_23 (Nat.le_of_ble_eq_true rfl) (cJ_max (show H.length - n < 2147483648 by omega) (show 0 < 2147483648 by decide)) ?_
  rintro _ _ ⟨rfl, rfl⟩
  rw [show max (H.length - n) 0 = H.length - n by omega]
  refine zi_putI dX1_rewind_26 flX1_21 fp_1_2 rfl (by first | assumption | decide) ?_
  refine zi_ald0 dX1_rewind_29 ?_
  refine zi_ald0 dX1_rewind_30 ?_
  refine zi_getI dX1_rewind_31 flX1_17 rfl (by first | assumption | decide) ?_
  rw [zs_slot (by decide), zs_same]
  refine zi_cV1r vmX1_slotAt lkX1_25 dX1_rewind_34 (by first | assumption | decide) (Nat.le_of_ble_eq_true rfl) (c1_slotAt (show (nx + 20 - n) % 20 < 20 by omega)) ?_
  rintro _ _ ⟨rfl, rfl⟩
  refine zi_ast3 dX1_rewind_37 (Nat.le_of_ble_eq_true rfl) rfl ?_
  refine zi_ald3 dX1_rewind_38 ?_
  refine zi_ifnull dX1_rewind_39 ?_
  refine zi_ald2 dX1_rewind_42 ?_
  refine zi_ald3 dX1_rewind_43 ?_
  refine zi_cV1v vmX6_copyFrom lkX1_29 dX1_rewind_44 (by first | assumption | decide) (Nat.le_of_ble_eq_true rfl) (c6_copyFrom zg_ok1 (zq_ok _ (show (nx + 20 - n) % 20 < 20 by omega)) (by omega) (hS.cg (τ := zw_pI (zw_pI σ 7 1 (nI ((nx + 20 - n) % 20))) 7 2 (nI (H.length - n))) (fun o a b => by rw [zs_obj (by omega), zs_obj (by omega)]))) ?_
  rintro τ1 ⟨hT1, hF1⟩
  refine zi_ret dX1_rewind_47 rfl ?_
  refine ⟨rfl, ⟨by omega, by rw [List.length_drop]; omega, ?_, ?_, fun j hj => ?_⟩, hT1, ((zw_F.rf.pI (Or.inl rfl)).pI (Or.inl rfl)).tr hF1 (fun _ q => q) (fun o q => by unfold zg_A at q; omega)⟩
  · rw [hF1.2 7 (by unfold zg_A; omega), zs_slot (by decide), zs_same]
  · rw [hF1.2 7 (by unfold zg_A; omega), zs_same, List.length_drop]
  · rw [List.length_drop] at hj
    have e : zq_sl ((nx + 20 - n) % 20) j = zq_sl nx (n + j) := by unfold zq_sl; omega
    have e3 : 9 ≤ zq_sl nx (n + j) := by unfold zq_sl; omega
    rw [e]
    have := v5 (n + j) (by omega)
    rw [List.getD_eq_getElem?_getD, List.getElem?_drop]
    rw [List.getD_eq_getElem?_getD] at this
    refine this.cg (fun o a b => ?_)
    rw [hF1.2 o (by unfold zg_A; omega), zs_obj (by omega), zs_obj (by omega)]
/-! the book -/
def zb_V (σ : zw_S) (bk : List (Nat × Int32)) : Prop := bk.length ≤ 20 ∧ σ.1 130 2 = nI bk.length ∧ ∀ i, i < bk.length → (bk.getD i (0, 0)).1 < 8 ∧ σ.1 131 i = nI (bk.getD i (0, 0)).1 ∧ σ.1 132 i = (bk.getD i (0, 0)).2
/-- an entry is right now -/
def zb_r (sh : List zg_T) (b : Nat × Int32) : Bool := decide (b.1 < sh.length) && (nI (zt_code (sh.getD b.1 zg_d).1) == b.2)
def zb_w (sh : List zg_T) (bk : List (Nat × Int32)) : Option Nat := if bk.findIdx (fun b => !zb_r sh b) < bk.length then some (bk.findIdx (fun b => !zb_r sh b)) else none
theorem zb_V.fr {bk : List (Nat × Int32)} {τ : zw_S} {A : Nat → Prop} (hV : zb_V σ bk) (hF : zw_F A σ τ) (h1 : ∀ o, 130 ≤ o → o < 133 → ¬ A o) : zb_V τ bk := by
  obtain ⟨v1, v2, v3⟩ := hV
  refine ⟨v1, by rw [hF.2 130 (h1 _ (by omega) (by omega))]; exact v2, fun i hi => ?_⟩
  rw [hF.2 131 (h1 _ (by omega) (by omega)), hF.2 132 (h1 _ (by omega) (by omega))]
  exact v3 i hi
theorem c0_isFull {bk : List (Nat × Int32)} (hV : zb_V σ bk) : zw_Ti l G (d + 1) mX0_isFull [.ref 130] σ (fun x τ => σ = τ ∧ x = if 20 ≤ bk.length then nI 1 else nI 0) := by
  have h8 := hV.1
  refine zw_enter2 (L := [some _]) (by decide) (Nat.le_of_ble_eq_true rfl) rfl ?_
  refine zi_ald0 dX0_isFull_0 ?_
  refine zi_getI dX0_isFull_1 flX0_18 rfl (by first | assumption | decide) ?_
  refine zi_bipush (nI 20) dX0_isFull_4 (by decide) ?_
  refine zi_icmp_lt 13 dX0_isFull_6 (by decide) (fun c6 => ?_) (fun c6 => ?_)
  · refine zi_iconst (nI 0) dX0_isFull_13 (by decide) ?_
    refine zi_zret dX0_isFull_14 rfl (by decide) ?_
    refine ⟨_, rfl, rfl, ?_⟩
    rw [hV.2.1, zn_lt (by omega) (by omega)] at c6
    first | rw [if_pos (by omega)] | rw [if_neg (by omega)]
  · refine zi_iconst (nI 1) dX0_isFull_9 (by decide) ?_
    refine zi_goto 14 dX0_isFull_10 (by decide) ?_
    refine zi_zret dX0_isFull_14 rfl (by decide) ?_
    refine ⟨_, rfl, rfl, ?_⟩
    rw [hV.2.1, zn_lt (by omega) (by omega)] at c6
    first | rw [if_pos (by omega)] | rw [if_neg (by omega)]
theorem c0_add {bk : List (Nat × Int32)} {t : Nat} {c : Int32} (hV : zb_V σ bk) (h20 : bk.length < 20) (ht : t < 8) : zw_Tv l G (d + 1) mX0_add [.ref 130, .int (nI t), .int c] σ (fun υ => zb_V υ (bk ++ [(t, c)]) ∧ zw_F (fun o => 130 ≤ o ∧ o < 133) σ υ) := by
  obtain ⟨v1, v2, v3⟩ := id hV
  have l1 : zw_ln (130 + 1) = 20 := by decide
  have l2 : zw_ln (130 + 2) = 20 := by decide
  refine zw_enter2 (L := [some _, some _, some _]) (by decide) (Nat.le_of_ble_eq_true rfl) rfl ?_
  refine zi_ald0 dX0_add_0 ?_
  refine zi_getI dX0_add_1 flX0_18 rfl (by first | assumption | decide) ?_
  refine zi_if_lt 46 dX0_add_4 (by decide) (fun c4 => ?_) (fun c4 => ?_)
  · rw [v2, zn_0, zn_neg _ (by omega)] at c4; exact c4.elim
  · refine zi_ald0 dX0_add_7 ?_
    refine zi_getI dX0_add_8 flX0_18 rfl (by first | assumption | decide) ?_
    refine zi_bipush (nI 20) dX0_add_11 (by decide) ?_
    refine zi_icmp_ge 46 dX0_add_13 (by decide) (fun c13 => ?_) (fun c13 => ?_)
    · rw [v2, zn_le (by omega) (by omega)] at c13; omega
    · refine zi_ald0 dX0_add_16 ?_
      refine zi_getR dX0_add_17 flX0_9 rfl (by first | assumption | decide) ?_
      refine zi_ald0 dX0_add_20 ?_
      refine zi_getI dX0_add_21 flX0_18 rfl (by first | assumption | decide) ?_
      refine zi_ild1 dX0_add_24 ?_
      refine zi_iastN bk.length dX0_add_25 (by first | assumption | decide) v2 (by omega) (by omega) ?_
      refine zi_ald0 dX0_add_26 ?_
      refine zi_getR dX0_add_27 flX0_15 rfl (by first | assumption | decide) ?_
      refine zi_ald0 dX0_add_30 ?_
      refine zi_getI dX0_add_31 flX0_18 rfl (by first | assumption | decide) ?_
      refine zi_ild2 dX0_add_34 ?_
      refine zi_iastN bk.length dX0_add_35 (by first | assumption | decide) (by rw [zs_obj (by omega)]; exact v2) (by omega) (by omega) ?_
      refine zi_ald0 dX0_add_36 ?_
      refine zi_dupr dX0_add_37 ?_
      refine zi_getI dX0_add_38 flX0_18 rfl (by first | assumption | decide) ?_
      refine zi_iconst (nI 1) dX0_add_41 (by decide) ?_
      refine zi_iadd dX0_add_42 ?_
      refine zi_putI dX0_add_43 flX0_18 fp_0_2 rfl (by first | assumption | decide) ?_
      refine zi_ret dX0_add_46 rfl ?_
      refine ⟨rfl, ⟨by simp; omega, ?_, fun i hi => ?_⟩, ((zw_F.rf.pI ⟨by omega, by omega⟩).pI ⟨by omega, by omega⟩).pI ⟨by omega, by omega⟩⟩
      · rw [zs_same, zs_obj (by omega), zs_obj (by omega), v2, nI_add, List.length_append]; rfl
      · rw [List.length_append, List.length_singleton] at hi
        rw [zs_obj (show 131 ≠ 130 by omega), zs_obj (show 132 ≠ 130 by omega), zs_obj (show 131 ≠ 130 + 2 by omega)]
        by_cases e : i = bk.length
        · subst e
          rw [zd_hi (Nat.le_refl _), Nat.sub_self]
          exact ⟨ht, zs_same _ _ _ _, zs_same _ _ _ _⟩
        · rw [zd_lo (by omega)]
          obtain ⟨a, b, c⟩ := v3 i (by omega)
          refine ⟨a, ?_, ?_⟩
          · show (zw_pI σ 131 bk.length (nI t)).1 131 i = _
            rw [zs_slot e]; exact b
          · show (zw_pI (zw_pI σ 131 bk.length (nI t)) 132 bk.length _).1 132 i = _
            rw [zs_slot e, zs_obj (by omega)]; exact c
end Z20
