/-! the class's State: shelf and rules; an object s, its rules s + 1, codes s + 4, signs s + 5 -/
abbrev zg_T : Type := List Nat × Int32
def zg_ok (s : Nat) : Prop := zw_kd s = 6 ∧ zr_ok (s + 1) ∧ zw_kd (s + 4) = 10 ∧ zw_kd (s + 5) = 10 ∧ zw_ln (s + 4) = 8 ∧ zw_ln (s + 5) = 8
def zg_d : zg_T := ([0], nI 1)
/-- the sign fits the tree -/
def zg_s (x : zg_T) : Prop := x.2 = nI 1 ∨ x.2 = -1 ∨ (x.2 = nI 0 ∧ x.1 = [0])
/-- a state: the shelf, fates, goals -/
abbrev zg_X : Type := List zg_T × (Nat → Nat) × (Nat → Nat)
def zg_V (σ : zw_S) (s : Nat) (X : zg_X) : Prop := X.1.length ≤ 8 ∧ (∀ x ∈ X.1, zt_wd x.1 ∧ zg_s x) ∧ σ.1 s 3 = nI X.1.length ∧ (∀ i, i < X.1.length → σ.1 (s + 4) i = nI (zt_code (X.1.getD i zg_d).1) ∧ σ.1 (s + 5) i = (X.1.getD i zg_d).2) ∧ zr_V σ (s + 1) X.2.1 X.2.2
def zg_A (s : Nat) : Nat → Prop := fun o => s ≤ o ∧ o < s + 6
theorem zd_get {α : Type} {l : List α} {x : α} {i : Nat} (hi : i < l.length) : l.getD i x = l[i] := by
  rw [List.getD_eq_getElem?_getD, List.getElem?_eq_getElem hi]; rfl
theorem zd_mem {α : Type} {l : List α} {x : α} {i : Nat} (hi : i < l.length) : l.getD i x ∈ l := by
  rw [zd_get hi]; exact List.getElem_mem hi
theorem zd_lo {α : Type} {u v : List α} {x : α} {i : Nat} (h : i < u.length) : (u ++ v).getD i x = u.getD i x := by
  rw [List.getD_eq_getElem?_getD, List.getElem?_append_left h, List.getD_eq_getElem?_getD]
theorem zd_hi {α : Type} {u v : List α} {x : α} {i : Nat} (h : u.length ≤ i) : (u ++ v).getD i x = v.getD (i - u.length) x := by
  rw [List.getD_eq_getElem?_getD, List.getElem?_append_right h, List.getD_eq_getElem?_getD]
theorem zd_set {α : Type} {l : List α} {x y : α} {i : Nat} (hi : i < l.length) (j : Nat) : (l.set i y).getD j x = if j = i then y else l.getD j x := by
  rw [List.getD_eq_getElem?_getD, List.getElem?_set, List.getD_eq_getElem?_getD]
  by_cases e : j = i
  · subst e
    simp [hi]
  · rw [if_neg (fun q => e q.symm), if_neg e]
theorem zd_erase {α : Type} {l : List α} {x : α} {i : Nat} (j : Nat) : (l.eraseIdx i).getD j x = if j < i then l.getD j x else l.getD (j + 1) x := by
  rw [List.getD_eq_getElem?_getD, List.getElem?_eraseIdx]
  split
  · rw [List.getD_eq_getElem?_getD]
  · rw [List.getD_eq_getElem?_getD]
section Z19
variable {l : Launch} {G : zw_G} {d : Nat} {σ : zw_S} {s h : Nat} {X : zg_X} {w : List Nat} {g : Int32}
theorem zg_V.cg {τ : zw_S} (hV : zg_V σ s X) (hF : ∀ o, s ≤ o → o < s + 6 → τ.1 o = σ.1 o) : zg_V τ s X := by
  obtain ⟨v1, v2, v3, v4, v5⟩ := hV
  refine ⟨v1, v2, by rw [hF s (by omega) (by omega)]; exact v3, fun i hi => ?_, v5.cg (hF _ (by omega) (by omega)) (hF _ (by omega) (by omega))⟩
  rw [hF (s + 4) (by omega) (by omega), hF (s + 5) (by omega) (by omega)]
  exact v4 i hi
theorem zg_V.fr {τ : zw_S} {A : Nat → Prop} (hV : zg_V σ s X) (hF : zw_F A σ τ) (h1 : ∀ o, s ≤ o → o < s + 6 → ¬ A o) : zg_V τ s X := hV.cg (fun o a b => hF.2 o (h1 o a b))
theorem zg_V.item (hV : zg_V σ s X) {i : Nat} (hi : i < X.1.length) : zt_wd (X.1.getD i zg_d).1 ∧ zg_s (X.1.getD i zg_d) := hV.2.1 _ (zd_mem hi)
theorem c6_has_raw (ho : zg_ok s) {n t : Nat} (hn : σ.1 s 3 = nI n) (h8 : n ≤ 8) (ht : t < n) : zw_Ti l G (d + 1) mX6_has [.ref s, .int (nI t)] σ (fun x τ => σ = τ ∧ x = nI 1) := by
  have k0 := ho.1
  refine zw_enter2 (L := [some _, some _]) (by decide) (Nat.le_of_ble_eq_true rfl) rfl ?_
  refine zi_ild1 dX6_has_0 ?_
  refine zi_if_lt 22 dX6_has_1 (by decide) (fun c1 => ?_) (fun c1 => ?_)
  · rw [zn_0, zn_neg t (by omega)] at c1; exact c1.elim
  · refine zi_ild1 dX6_has_4 ?_
    refine zi_ald0 dX6_has_5 ?_
    refine zi_getI dX6_has_6 flX6_25 rfl (by first | assumption | decide) ?_
    refine zi_icmp_ge 22 dX6_has_9 (by decide) (fun c9 => ?_) (fun c9 => ?_)
    · rw [hn, zn_le (by omega) (by omega)] at c9; omega
    · refine zi_ild1 dX6_has_12 ?_
      refine zi_bipush (nI 8) dX6_has_13 (by decide) ?_
      refine zi_icmp_ge 22 dX6_has_15 (by decide) (fun c15 => ?_) (fun c15 => ?_)
      · rw [zn_le (by omega) (by omega)] at c15; omega
      · refine zi_iconst (nI 1) dX6_has_18 (by decide) ?_
        refine zi_goto 23 dX6_has_19 (by decide) ?_
        refine zi_zret dX6_has_23 rfl (by decide) ?_
        exact ⟨_, rfl, rfl, rfl⟩
theorem c6_has_out (ho : zg_ok s) (hV : zg_V σ s X) {t : Int32} (ht : zn_out t X.1.length) : zw_Ti l G (d + 1) mX6_has [.ref s, .int t] σ (fun x τ => σ = τ ∧ x = nI 0) := by
  have k0 := ho.1
  refine zw_enter2 (L := [some _, some _]) (by decide) (Nat.le_of_ble_eq_true rfl) rfl ?_
  refine zi_ild1 dX6_has_0 ?_
  refine zi_if_lt 22 dX6_has_1 (by decide) (fun c1 => ?_) (fun c1 => ?_)
  · refine zi_iconst (nI 0) dX6_has_22 (by decide) ?_
    refine zi_zret dX6_has_23 rfl (by decide) ?_
    exact ⟨_, rfl, rfl, rfl⟩
  · refine zi_ild1 dX6_has_4 ?_
    refine zi_ald0 dX6_has_5 ?_
    refine zi_getI dX6_has_6 flX6_25 rfl (by first | assumption | decide) ?_
    refine zi_icmp_ge 22 dX6_has_9 (by decide) (fun c9 => ?_) (fun c9 => ?_)
    · refine zi_iconst (nI 0) dX6_has_22 (by decide) ?_
      refine zi_zret dX6_has_23 rfl (by decide) ?_
      exact ⟨_, rfl, rfl, rfl⟩
    · rw [hV.2.2.1] at c9
      rcases ht with q | q
      · exact absurd q c1
      · exact absurd q c9
theorem c6_has (ho : zg_ok s) (hV : zg_V σ s X) {t : Nat} (ht : t < X.1.length) : zw_Ti l G (d + 1) mX6_has [.ref s, .int (nI t)] σ (fun x τ => σ = τ ∧ x = nI 1) := c6_has_raw ho hV.2.2.1 hV.1 ht
theorem c6_isFull (ho : zg_ok s) (hV : zg_V σ s X) : zw_Ti l G (d + 1) mX6_isFull [.ref s] σ (fun x τ => σ = τ ∧ x = if 8 ≤ X.1.length then nI 1 else nI 0) := by
  have k0 := ho.1
  have h8 := hV.1
  refine zw_enter2 (L := [some _]) (by decide) (Nat.le_of_ble_eq_true rfl) rfl ?_
  refine zi_ald0 dX6_isFull_0 ?_
  refine zi_getI dX6_isFull_1 flX6_25 rfl (by first | assumption | decide) ?_
  refine zi_bipush (nI 8) dX6_isFull_4 (by decide) ?_
  refine zi_icmp_lt 13 dX6_isFull_6 (by decide) (fun c6 => ?_) (fun c6 => ?_)
  · refine zi_iconst (nI 0) dX6_isFull_13 (by decide) ?_
    refine zi_zret dX6_isFull_14 rfl (by decide) ?_
    refine ⟨_, rfl, rfl, ?_⟩
    rw [hV.2.2.1, zn_lt (by omega) (by omega)] at c6
    first | rw [if_pos (by omega)] | rw [if_neg (by omega)]
  · refine zi_iconst (nI 1) dX6_isFull_9 (by decide) ?_
    refine zi_goto 14 dX6_isFull_10 (by decide) ?_
    refine zi_zret dX6_isFull_14 rfl (by decide) ?_
    refine ⟨_, rfl, rfl, ?_⟩
    rw [hV.2.2.1, zn_lt (by omega) (by omega)] at c6
    first | rw [if_pos (by omega)] | rw [if_neg (by omega)]
theorem c6_codeOf (ho : zg_ok s) (hV : zg_V σ s X) {t : Nat} (ht : t < X.1.length) : zw_Ti l G (d + 2) mX6_codeOf [.ref s, .int (nI t)] σ (fun x τ => σ = τ ∧ x = nI (zt_code (X.1.getD t zg_d).1)) := by
  obtain ⟨k0, -, k4, k5, l4, l5⟩ := id ho
  have h8 := hV.1
  refine zw_enter2 (L := [some _, some _]) (by decide) (Nat.le_of_ble_eq_true rfl) rfl ?_
  refine zi_ald0 dX6_codeOf_0 ?_
  refine zi_ild1 dX6_codeOf_1 ?_
  refine zi_cV1i vmX6_has lkX6_29 dX6_codeOf_2 (by first | assumption | decide) (Nat.le_of_ble_eq_true rfl) (c6_has ho hV ht) ?_
  rintro _ _ ⟨rfl, rfl⟩
  refine zi_if_eq 17 dX6_codeOf_5 (by decide) (fun c5 => ?_) (fun c5 => ?_)
  · exact absurd c5 (by decide)
  · refine zi_ald0 dX6_codeOf_8 ?_
    refine zi_getR dX6_codeOf_9 flX6_18 rfl (by first | assumption | decide) ?_
    refine zi_ild1 dX6_codeOf_12 ?_
    refine zi_ialdN _ dX6_codeOf_13 (by first | assumption | decide) rfl (by omega) (by omega) ?_
    refine zi_goto 18 dX6_codeOf_14 (by decide) ?_
    refine zi_iret dX6_codeOf_18 rfl ?_
    exact ⟨_, rfl, rfl, (hV.2.2.2.1 t ht).1⟩
theorem c6_signOf (ho : zg_ok s) (hV : zg_V σ s X) {t : Nat} (ht : t < X.1.length) : zw_Ti l G (d + 2) mX6_signOf [.ref s, .int (nI t)] σ (fun x τ => σ = τ ∧ x = (X.1.getD t zg_d).2) := by
  obtain ⟨k0, -, k4, k5, l4, l5⟩ := id ho
  have h8 := hV.1
  refine zw_enter2 (L := [some _, some _]) (by decide) (Nat.le_of_ble_eq_true rfl) rfl ?_
  refine zi_ald0 dX6_signOf_0 ?_
  refine zi_ild1 dX6_signOf_1 ?_
  refine zi_cV1i vmX6_has lkX6_29 dX6_signOf_2 (by first | assumption | decide) (Nat.le_of_ble_eq_true rfl) (c6_has ho hV ht) ?_
  rintro _ _ ⟨rfl, rfl⟩
  refine zi_if_eq 17 dX6_signOf_5 (by decide) (fun c5 => ?_) (fun c5 => ?_)
  · exact absurd c5 (by decide)
  · refine zi_ald0 dX6_signOf_8 ?_
    refine zi_getR dX6_signOf_9 flX6_22 rfl (by first | assumption | decide) ?_
    refine zi_ild1 dX6_signOf_12 ?_
    refine zi_ialdN _ dX6_signOf_13 (by first | assumption | decide) rfl (by omega) (by omega) ?_
    refine zi_goto 18 dX6_signOf_14 (by decide) ?_
    refine zi_iret dX6_signOf_18 rfl ?_
    exact ⟨_, rfl, rfl, (hV.2.2.2.1 t ht).2⟩
theorem c6_lend (ho : zg_ok s) (hh : zt_ok h) (hV : zg_V σ s X) {t : Nat} (ht : t < X.1.length) : zw_Tv l G (d + 3) mX6_lend [.ref s, .int (nI t), .ref h] σ (fun υ => zt_V υ h (X.1.getD t zg_d).1 (X.1.getD t zg_d).2 ∧ zw_F (zt_A h) σ υ) := by
  have k0 := ho.1
  have j0 := hh.1
  obtain ⟨hw, -⟩ := hV.item ht
  refine zw_enter2 (L := [some _, some _, some _]) (by decide) (Nat.le_of_ble_eq_true rfl) rfl ?_
  refine zi_ald2 dX6_lend_0 ?_
  refine zi_ald0 dX6_lend_1 ?_
  refine zi_ild1 dX6_lend_2 ?_
  refine zi_cV1i vmX6_codeOf lkX6_33 dX6_lend_3 (by first | assumption | decide) (Nat.le_of_ble_eq_true rfl) (c6_codeOf ho hV ht) ?_
  rintro _ _ ⟨rfl, rfl⟩
  refine zi_ald0 dX6_lend_6 ?_
  refine zi_ild1 dX6_lend_7 ?_
  refine zi_cV1i vmX6_signOf lkX6_37 dX6_lend_8 (by first | assumption | decide) (Nat.le_of_ble_eq_true rfl) (c6_signOf ho hV ht) ?_
  rintro _ _ ⟨rfl, rfl⟩
  refine zi_cV2v vmX7_readCode lkX6_40 dX6_lend_11 (by first | assumption | decide) (Nat.le_of_ble_eq_true rfl) (c7_readCode hh hw.2.1 hw.nm hw.2.2) ?_
  rintro τ hτ
  refine zi_ret dX6_lend_14 rfl ?_
  exact ⟨rfl, hτ⟩
theorem c6_put_raw (ho : zg_ok s) (hh : zt_ok h) (ha : s + 6 ≤ h ∨ h + 3 ≤ s) {n t : Nat} (hn : σ.1 s 3 = nI n) (h8 : n ≤ 8) (ht : t < n) (hT : zt_V σ h w g) : zw_Tv l G (d + 3) mX6_put [.ref s, .int (nI t), .ref h] σ (fun υ => υ = zw_pI (zw_pI σ (s + 4) t (nI (zt_code w))) (s + 5) t g) := by
  obtain ⟨k0, -, k4, k5, l4, l5⟩ := id ho
  have j0 := hh.1
  refine zw_enter2 (L := [some _, some _, some _]) (by decide) (Nat.le_of_ble_eq_true rfl) rfl ?_
  refine zi_ald0 dX6_put_0 ?_
  refine zi_ild1 dX6_put_1 ?_
  refine zi_cV1i vmX6_has lkX6_29 dX6_put_2 (by first | assumption | decide) (Nat.le_of_ble_eq_true rfl) (c6_has_raw ho hn h8 ht) ?_
  rintro _ _ ⟨rfl, rfl⟩
  refine zi_if_eq 28 dX6_put_5 (by decide) (fun c5 => ?_) (fun c5 => ?_)
  · exact absurd c5 (by decide)
  · refine zi_ald0 dX6_put_8 ?_
    refine zi_getR dX6_put_9 flX6_18 rfl (by first | assumption | decide) ?_
    refine zi_ild1 dX6_put_12 ?_
    refine zi_ald2 dX6_put_13 ?_
    refine zi_cV0i vmX7_codeNow lkX6_46 dX6_put_14 (by first | assumption | decide) (Nat.le_of_ble_eq_true rfl) (c7_codeNow hh hT) ?_
    rintro _ _ ⟨rfl, rfl⟩
    refine zi_iastN _ dX6_put_17 (by first | assumption | decide) rfl (by omega) (by omega) ?_
    refine zi_ald0 dX6_put_18 ?_
    refine zi_getR dX6_put_19 flX6_22 rfl (by first | assumption | decide) ?_
    refine zi_ild1 dX6_put_22 ?_
    refine zi_ald2 dX6_put_23 ?_
    refine zi_getI dX6_put_24 flX6_50 rfl (by first | assumption | decide) ?_
    rw [zs_obj (show h ≠ s + 4 by omega), hT.2.2.2.1]
    refine zi_iastN _ dX6_put_27 (by first | assumption | decide) rfl (by omega) (by omega) ?_
    refine zi_ret dX6_put_28 rfl ?_
    exact ⟨rfl, rfl⟩
theorem zg_V.put (hV : zg_V σ s X) {t : Nat} (ht : t < X.1.length) (hw : zt_wd w) (hg : zg_s (w, g)) : zg_V (zw_pI (zw_pI σ (s + 4) t (nI (zt_code w))) (s + 5) t g) s (X.1.set t (w, g), X.2) := by
  obtain ⟨v1, v2, v3, v4, v5⟩ := hV
  refine ⟨by rw [List.length_set]; exact v1, ?_, ?_, fun i hi => ?_, ?_⟩
  · intro x hx
    rcases List.mem_or_eq_of_mem_set hx with q | q
    · exact v2 x q
    · rw [q]; exact ⟨hw, hg⟩
  · rw [zs_obj (by omega), zs_obj (by omega), List.length_set]; exact v3
  · rw [List.length_set] at hi
    rw [zs_obj (show s + 4 ≠ s + 5 by omega), zd_set ht]
    by_cases e : i = t
    · subst e
      rw [zs_same, zs_same, if_pos rfl]; exact ⟨rfl, rfl⟩
    · rw [zs_slot e, zs_slot e, zs_obj (show s + 5 ≠ s + 4 by omega), if_neg e]
      exact v4 i hi
  · exact v5.cg (by rw [zs_obj (by omega), zs_obj (by omega)]) (by rw [zs_obj (by omega), zs_obj (by omega)])
theorem c6_put (ho : zg_ok s) (hh : zt_ok h) (ha : s + 6 ≤ h ∨ h + 3 ≤ s) (hV : zg_V σ s X) {t : Nat} (ht : t < X.1.length) (hT : zt_V σ h w g) (hw : zt_wd w) (hg : zg_s (w, g)) : zw_Tv l G (d + 3) mX6_put [.ref s, .int (nI t), .ref h] σ (fun υ => zg_V υ s (X.1.set t (w, g), X.2) ∧ zw_F (zg_A s) σ υ) :=
  (c6_put_raw ho hh ha hV.2.2.1 hV.1 ht hT).mono (fun r υ ⟨e1, e2⟩ => ⟨e1, by rw [e2]; exact hV.put ht hw hg, by rw [e2]; exact ((zw_F.rf (A := zg_A s)).pI ⟨by omega, by omega⟩).pI ⟨by omega, by omega⟩⟩)
theorem c6_add (ho : zg_ok s) (hh : zt_ok h) (ha : s + 6 ≤ h ∨ h + 3 ≤ s) (hV : zg_V σ s X) (h8 : X.1.length < 8) (hT : zt_V σ h w g) (hw : zt_wd w) (hg : zg_s (w, g)) : zw_Ti l G (d + 4) mX6_add [.ref s, .ref h] σ (fun x υ => x = nI X.1.length ∧ zg_V υ s (X.1 ++ [(w, g)], X.2) ∧ zw_F (zg_A s) σ υ) := by
  have k0 := ho.1
  obtain ⟨v1, v2, v3, v4, v5⟩ := id hV
  refine zw_enter2 (L := [some _, some _]) (by decide) (Nat.le_of_ble_eq_true rfl) rfl ?_
  refine zi_ald0 dX6_add_0 ?_
  refine zi_cV0i vmX6_isFull lkX6_53 dX6_add_1 (by first | assumption | decide) (Nat.le_of_ble_eq_true rfl) (c6_isFull ho hV) ?_
  rintro _ _ ⟨rfl, rfl⟩
  rw [if_neg (by omega)]
  refine zi_if_eq 10 dX6_add_4 (by decide) (fun c4 => ?_) (fun c4 => ?_)
  · refine zi_ald0 dX6_add_10 ?_
    refine zi_dupr dX6_add_11 ?_
    refine zi_getI dX6_add_12 flX6_25 rfl (by first | assumption | decide) ?_
    refine zi_iconst (nI 1) dX6_add_15 (by decide) ?_
    refine zi_iadd dX6_add_16 ?_
    rw [v3, nI_add]
    refine zi_putI dX6_add_17 flX6_25 fp_6_3 rfl (by first | assumption | decide) ?_
    refine zi_ald0 dX6_add_20 ?_
    refine zi_ald0 dX6_add_21 ?_
    refine zi_getI dX6_add_22 flX6_25 rfl (by first | assumption | decide) ?_
    refine zi_iconst (nI 1) dX6_add_25 (by decide) ?_
    refine zi_isub dX6_add_26 ?_
    rw [zs_same, pk_sub (by omega), Nat.add_sub_cancel]
    refine zi_ald1 dX6_add_27 ?_
    refine zi_cV2v vmX6_put lkX6_58 dX6_add_28 (by first | assumption | decide) (Nat.le_of_ble_eq_true rfl) (c6_put_raw ho hh ha (zs_same σ s 3 _) (show X.1.length + 1 ≤ 8 by omega) (show X.1.length < X.1.length + 1 by omega) (hT.cg (τ := zw_pI σ s 3 (nI (X.1.length + 1))) (zs_obj (by omega)) (zs_obj (by omega)))) ?_
    rintro _ rfl
    refine zi_ald0 dX6_add_31 ?_
    refine zi_getI dX6_add_32 flX6_25 rfl (by first | assumption | decide) ?_
    refine zi_iconst (nI 1) dX6_add_35 (by decide) ?_
    refine zi_isub dX6_add_36 ?_
    refine zi_iret dX6_add_37 rfl ?_
    rw [zs_obj (show s ≠ s + 5 by omega), zs_obj (show s ≠ s + 4 by omega), zs_same, pk_sub (by omega), Nat.add_sub_cancel]
    refine ⟨_, rfl, rfl, ⟨by simp; omega, ?_, ?_, fun i hi => ?_, ?_⟩, (((zw_F.rf (A := zg_A s)).pI ⟨by omega, by omega⟩).pI ⟨by omega, by omega⟩).pI ⟨by omega, by omega⟩⟩
    · intro x hx
      rcases List.mem_append.mp hx with q | q
      · exact v2 x q
      · rw [List.mem_singleton.mp q]; exact ⟨hw, hg⟩
    · rw [zs_obj (by omega), zs_obj (by omega), zs_same, List.length_append]; rfl
    · rw [List.length_append, List.length_singleton] at hi
      rw [zs_obj (show s + 4 ≠ s + 5 by omega)]
      by_cases e : i = X.1.length
      · subst e
        rw [zs_same, zs_same, zd_hi (Nat.le_refl _), Nat.sub_self]; exact ⟨rfl, rfl⟩
      · rw [zs_slot e, zs_slot e, zs_obj (show s + 5 ≠ s + 4 by omega), zs_obj (by omega), zs_obj (by omega), zd_lo (by omega)]
        exact v4 i (by omega)
    · exact v5.cg (by rw [zs_obj (by omega), zs_obj (by omega), zs_obj (by omega)]) (by rw [zs_obj (by omega), zs_obj (by omega), zs_obj (by omega)])
  · exact absurd rfl c4
theorem l6_remove (ho : zg_ok s) (hV : zg_V σ s X) {t : Nat} (ht : t < X.1.length) : ∀ n i τ, i + n + 1 = X.1.length → t ≤ i → zw_F (zg_A s) σ τ → τ.1 s 3 = nI X.1.length → τ.1 (s + 2) = σ.1 (s + 2) → τ.1 (s + 3) = σ.1 (s + 3) → (∀ j, j < X.1.length → τ.1 (s + 4) j = σ.1 (s + 4) (if t ≤ j ∧ j < i then j + 1 else j) ∧ τ.1 (s + 5) j = σ.1 (s + 5) (if t ≤ j ∧ j < i then j + 1 else j)) → zw_W l G (d + 2) mX6_remove 11 [some (.ref s), some (.int (nI t)), some (.int (nI i))] [] τ (fun x υ => x = none ∧ zg_V υ s (X.1.eraseIdx t, X.2) ∧ zw_F (zg_A s) σ υ) := by
  obtain ⟨k0, -, k4, k5, l4, l5⟩ := id ho
  obtain ⟨v1, v2, v3, v4, v5⟩ := id hV
  intro n
  induction n with
  | zero =>
    intro i τ hi hti hF h3 hr1 hr2 hI
    refine zi_ild2 dX6_remove_11 ?_
    refine zi_iconst (nI 1) dX6_remove_12 (by decide) ?_
    refine zi_iadd dX6_remove_13 ?_
    refine zi_ald0 dX6_remove_14 ?_
    refine zi_getI dX6_remove_15 flX6_25 rfl (by first | assumption | decide) ?_
    refine zi_icmp_ge 63 dX6_remove_18 (by decide) (fun c18 => ?_) (fun c18 => ?_)
    · refine zi_ald0 dX6_remove_63 ?_
      refine zi_dupr dX6_remove_64 ?_
      refine zi_getI dX6_remove_65 flX6_25 rfl (by first | assumption | decide) ?_
      refine zi_iconst (nI 1) dX6_remove_68 (by decide) ?_
      refine zi_isub dX6_remove_69 ?_
      refine zi_putI dX6_remove_70 flX6_25 fp_6_3 rfl (by first | assumption | decide) ?_
      refine zi_ret dX6_remove_73 rfl ?_
      refine ⟨rfl, ⟨by rw [List.length_eraseIdx]; split <;> omega, fun x hx => v2 x (List.mem_of_mem_eraseIdx hx), ?_, fun j hj => ?_, ?_⟩, hF.pI ⟨by omega, by omega⟩⟩
      · rw [zs_same, h3, pk_sub (by omega), List.length_eraseIdx, if_pos ht]
      · rw [List.length_eraseIdx, if_pos ht] at hj
        rw [zs_obj (by omega), zs_obj (by omega), (hI j (by omega)).1, (hI j (by omega)).2, zd_erase]
        by_cases q : j < t
        · rw [if_neg (by omega), if_pos q]
          exact v4 j (by omega)
        · rw [if_pos (by omega), if_neg q]
          exact v4 (j + 1) (by omega)
      · exact v5.cg (by rw [zs_obj (by omega)]; exact hr1) (by rw [zs_obj (by omega)]; exact hr2)
    · rw [h3, nI_add, zn_le (by omega) (by omega)] at c18; omega
  | succ n ih =>
    intro i τ hi hti hF h3 hr1 hr2 hI
    refine zi_ild2 dX6_remove_11 ?_
    refine zi_iconst (nI 1) dX6_remove_12 (by decide) ?_
    refine zi_iadd dX6_remove_13 ?_
    refine zi_ald0 dX6_remove_14 ?_
    refine zi_getI dX6_remove_15 flX6_25 rfl (by first | assumption | decide) ?_
    refine zi_icmp_ge 63 dX6_remove_18 (by decide) (fun c18 => ?_) (fun c18 => ?_)
    · rw [h3, nI_add, zn_le (by omega) (by omega)] at c18; omega
    · refine zi_ild2 dX6_remove_21 ?_
      refine zi_iconst (nI 1) dX6_remove_22 (by decide) ?_
      refine zi_iadd dX6_remove_23 ?_
      refine zi_bipush (nI 8) dX6_remove_24 (by decide) ?_
      refine zi_icmp_ge 63 dX6_remove_26 (by decide) (fun c26 => ?_) (fun c26 => ?_)
      · rw [nI_add, zn_le (by omega) (by omega)] at c26; omega
      · refine zi_ald0 dX6_remove_29 ?_
        refine zi_getR dX6_remove_30 flX6_18 rfl (by first | assumption | decide) ?_
        refine zi_ild2 dX6_remove_33 ?_
        refine zi_ald0 dX6_remove_34 ?_
        refine zi_getR dX6_remove_35 flX6_18 rfl (by first | assumption | decide) ?_
        refine zi_ild2 dX6_remove_38 ?_
        refine zi_iconst (nI 1) dX6_remove_39 (by decide) ?_
        refine zi_iadd dX6_remove_40 ?_
        refine zi_ialdN (i + 1) dX6_remove_41 (by first | assumption | decide) (nI_add i 1) (by omega) (by omega) ?_
        refine zi_iastN _ dX6_remove_42 (by first | assumption | decide) rfl (by omega) (by omega) ?_
        refine zi_ald0 dX6_remove_43 ?_
        refine zi_getR dX6_remove_44 flX6_22 rfl (by first | assumption | decide) ?_
        refine zi_ild2 dX6_remove_47 ?_
        refine zi_ald0 dX6_remove_48 ?_
        refine zi_getR dX6_remove_49 flX6_22 rfl (by first | assumption | decide) ?_
        refine zi_ild2 dX6_remove_52 ?_
        refine zi_iconst (nI 1) dX6_remove_53 (by decide) ?_
        refine zi_iadd dX6_remove_54 ?_
        refine zi_ialdN (i + 1) dX6_remove_55 (by first | assumption | decide) (nI_add i 1) (by omega) (by omega) ?_
        refine zi_iastN _ dX6_remove_56 (by first | assumption | decide) rfl (by omega) (by omega) ?_
        refine zi_inc2 (nI 1) dX6_remove_57 (by decide) (Nat.le_of_ble_eq_true rfl) rfl ?_
        refine zi_goto 11 dX6_remove_60 (by decide) ?_
        rw [nI_add]
        refine ih (i + 1) _ (by omega) (by omega) ((hF.pI ⟨by omega, by omega⟩).pI ⟨by omega, by omega⟩) (by rw [zs_obj (by omega), zs_obj (by omega)]; exact h3) (by rw [zs_obj (by omega), zs_obj (by omega)]; exact hr1) (by rw [zs_obj (by omega), zs_obj (by omega)]; exact hr2) (fun j hj => ?_)
        rw [zs_obj (show s + 4 ≠ s + 5 by omega)]
        by_cases e : j = i
        · subst e
          rw [zs_same, zs_same, zs_obj (show s + 5 ≠ s + 4 by omega), (hI (j + 1) (by omega)).1, (hI (j + 1) (by omega)).2, if_neg (by omega), if_pos (by omega)]
          exact ⟨rfl, rfl⟩
        · rw [zs_slot e, zs_slot e, zs_obj (show s + 5 ≠ s + 4 by omega), (hI j hj).1, (hI j hj).2]
          by_cases q : t ≤ j ∧ j < i
          · rw [if_pos q, if_pos (by omega)]; exact ⟨rfl, rfl⟩
          · rw [if_neg q, if_neg (by omega)]; exact ⟨rfl, rfl⟩
theorem c6_remove (ho : zg_ok s) (hV : zg_V σ s X) {t : Nat} (ht : t < X.1.length) : zw_Tv l G (d + 2) mX6_remove [.ref s, .int (nI t)] σ (fun υ => zg_V υ s (X.1.eraseIdx t, X.2) ∧ zw_F (zg_A s) σ υ) := by
  have k0 := ho.1
  refine zw_enter2 (L := [some _, some _, none]) (by decide) (Nat.le_of_ble_eq_true rfl) rfl ?_
  refine zi_ald0 dX6_remove_0 ?_
  refine zi_ild1 dX6_remove_1 ?_
  refine zi_cV1i vmX6_has lkX6_29 dX6_remove_2 (by first | assumption | decide) (Nat.le_of_ble_eq_true rfl) (c6_has ho hV ht) ?_
  rintro _ _ ⟨rfl, rfl⟩
  refine zi_if_ne 9 dX6_remove_5 (by decide) (fun c5 => ?_) (fun c5 => ?_)
  · refine zi_ild1 dX6_remove_9 ?_
    refine zi_ist2 dX6_remove_10 (Nat.le_of_ble_eq_true rfl) rfl ?_
    exact l6_remove ho hV ht (X.1.length - 1 - t) t σ (by omega) (Nat.le_refl t) zw_F.rf hV.2.2.1 rfl rfl (fun j hj => by rw [if_neg (by omega)]; exact ⟨rfl, rfl⟩)
  · exact absurd c5 (by decide)
theorem l6_copyFrom {q : Nat} (ho : zg_ok s) (hq : zg_ok q) (ha : s + 6 ≤ q ∨ q + 6 ≤ s) (hV : zg_V σ q X) : ∀ n i τ, i + n = 8 → zw_F (zg_A s) σ τ → (∀ j, j < i → τ.1 (s + 4) j = σ.1 (q + 4) j ∧ τ.1 (s + 5) j = σ.1 (q + 5) j) → zw_W l G (d + 2) mX6_copyFrom 2 [some (.ref s), some (.ref q), some (.int (nI i))] [] τ (fun x υ => x = none ∧ zg_V υ s X ∧ zw_F (zg_A s) σ υ) := by
  obtain ⟨k0, hr, k4, k5, l4, l5⟩ := id ho
  obtain ⟨j0, jr, j4, j5, m4, m5⟩ := id hq
  obtain ⟨v1, v2, v3, v4, v5⟩ := id hV
  have r0 := hr.1
  intro n
  induction n with
  | zero =>
    intro i τ hi hF hI
    obtain rfl : i = 8 := by omega
    have hF2 : zw_F (zg_A s) σ (zw_pI τ s 3 (τ.1 q 3)) := hF.pI ⟨by omega, by omega⟩
    have hR : zr_V (zw_pI τ s 3 (τ.1 q 3)) (q + 1) X.2.1 X.2.2 := v5.cg (hF2.2 _ (by unfold zg_A; omega)) (hF2.2 _ (by unfold zg_A; omega))
    refine zi_ild2 dX6_copyFrom_2 ?_
    refine zi_bipush (nI 8) dX6_copyFrom_3 (by decide) ?_
    refine zi_icmp_ge 38 dX6_copyFrom_5 (by decide) (fun c5 => ?_) (fun c5 => ?_)
    · refine zi_ald0 dX6_copyFrom_38 ?_
      refine zi_ald1 dX6_copyFrom_39 ?_
      refine zi_getI dX6_copyFrom_40 flX6_25 rfl (by first | assumption | decide) ?_
      refine zi_putI dX6_copyFrom_43 flX6_25 fp_6_3 rfl (by first | assumption | decide) ?_
      refine zi_ald0 dX6_copyFrom_46 ?_
      refine zi_getR dX6_copyFrom_47 flX6_12 rfl (by first | assumption | decide) ?_
      refine zi_ald1 dX6_copyFrom_50 ?_
      refine zi_getR dX6_copyFrom_51 flX6_12 rfl (by first | assumption | decide) ?_
      refine zi_cV1v vmX4_copyFrom lkX6_62 dX6_copyFrom_54 (by first | assumption | decide) (Nat.le_of_ble_eq_true rfl) (c4_copyFrom hr jr (by omega) hR) ?_
      rintro τ2 ⟨hR2, hF3⟩
      refine zi_ret dX6_copyFrom_57 rfl ?_
      refine ⟨rfl, ⟨v1, v2, ?_, fun j hj => ?_, hR2⟩, hF2.tr hF3 (fun _ q => q) (fun o q => by unfold zg_A; omega)⟩
      · rw [hF3.2 s (by omega), zs_same, hF.2 q (by unfold zg_A; omega)]; exact v3
      · rw [hF3.2 (s + 4) (by omega), hF3.2 (s + 5) (by omega), zs_obj (by omega), zs_obj (by omega), (hI j (by omega)).1, (hI j (by omega)).2]
        exact v4 j hj
    · exact absurd (by decide) c5
  | succ n ih =>
    intro i τ hi hF hI
    refine zi_ild2 dX6_copyFrom_2 ?_
    refine zi_bipush (nI 8) dX6_copyFrom_3 (by decide) ?_
    refine zi_icmp_ge 38 dX6_copyFrom_5 (by decide) (fun c5 => ?_) (fun c5 => ?_)
    · rw [zn_le (by omega) (by omega)] at c5; omega
    · refine zi_ald0 dX6_copyFrom_8 ?_
      refine zi_getR dX6_copyFrom_9 flX6_18 rfl (by first | assumption | decide) ?_
      refine zi_ild2 dX6_copyFrom_12 ?_
      refine zi_ald1 dX6_copyFrom_13 ?_
      refine zi_getR dX6_copyFrom_14 flX6_18 rfl (by first | assumption | decide) ?_
      refine zi_ild2 dX6_copyFrom_17 ?_
      refine zi_ialdN _ dX6_copyFrom_18 (by first | assumption | decide) rfl (by omega) (by omega) ?_
      refine zi_iastN _ dX6_copyFrom_19 (by first | assumption | decide) rfl (by omega) (by omega) ?_
      refine zi_ald0 dX6_copyFrom_20 ?_
      refine zi_getR dX6_copyFrom_21 flX6_22 rfl (by first | assumption | decide) ?_
      refine zi_ild2 dX6_copyFrom_24 ?_
      refine zi_ald1 dX6_copyFrom_25 ?_
      refine zi_getR dX6_copyFrom_26 flX6_22 rfl (by first | assumption | decide) ?_
      refine zi_ild2 dX6_copyFrom_29 ?_
      refine zi_ialdN _ dX6_copyFrom_30 (by first | assumption | decide) rfl (by omega) (by omega) ?_
      refine zi_iastN _ dX6_copyFrom_31 (by first | assumption | decide) rfl (by omega) (by omega) ?_
      refine zi_inc2 (nI 1) dX6_copyFrom_32 (by decide) (Nat.le_of_ble_eq_true rfl) rfl ?_
      refine zi_goto 2 dX6_copyFrom_35 (by decide) ?_
      rw [nI_add]
      refine ih (i + 1) _ (by omega) ((hF.pI ⟨by omega, by omega⟩).pI ⟨by omega, by omega⟩) (fun j hj => ?_)
      rw [zs_obj (show s + 4 ≠ s + 5 by omega)]
      by_cases e : j = i
      · subst e
        rw [zs_same, zs_same, hF.2 (q + 4) (by unfold zg_A; omega), zs_obj (show q + 5 ≠ s + 4 by omega), hF.2 (q + 5) (by unfold zg_A; omega)]
        exact ⟨rfl, rfl⟩
      · rw [zs_slot e, zs_slot e, zs_obj (show s + 5 ≠ s + 4 by omega)]
        exact hI j (by omega)
theorem c6_copyFrom {q : Nat} (ho : zg_ok s) (hq : zg_ok q) (ha : s + 6 ≤ q ∨ q + 6 ≤ s) (hV : zg_V σ q X) : zw_Tv l G (d + 2) mX6_copyFrom [.ref s, .ref q] σ (fun υ => zg_V υ s X ∧ zw_F (zg_A s) σ υ) := by
  refine zw_enter2 (L := [some _, some _, none]) (by decide) (Nat.le_of_ble_eq_true rfl) rfl ?_
  refine zi_iconst (nI 0) dX6_copyFrom_0 (by decide) ?_
  refine zi_ist2 dX6_copyFrom_1 (Nat.le_of_ble_eq_true rfl) rfl ?_
  exact l6_copyFrom ho hq ha hV 8 0 σ rfl zw_F.rf (fun j hj => by omega)
end Z19
