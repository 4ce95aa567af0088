/-! left for right -/
def zm_i : Nat → List Nat → List Nat
  | 0, l => l
  | _ + 1, [] => []
  | _ + 1, 0 :: _ => [0]
  | f + 1, (x + 1) :: l => (x + 1) :: (zm_i f (l.drop (zt_cn 1 l)) ++ zm_i f (l.take (zt_cn 1 l)))
def zm_r (l : List Nat) : List Nat := zm_i l.length l
theorem zm_i_fuel : ∀ (f g : Nat) (l : List Nat), l.length ≤ f → l.length ≤ g → zm_i f l = zm_i g l
  | 0, 0, l, _, _ => rfl
  | 0, g + 1, [], _, _ => rfl
  | 0, g + 1, x :: l, h, _ => by simp at h
  | f + 1, 0, [], _, _ => rfl
  | f + 1, 0, x :: l, _, h => by simp at h
  | f + 1, g + 1, [], _, _ => rfl
  | f + 1, g + 1, 0 :: l, _, _ => rfl
  | f + 1, g + 1, (x + 1) :: l, h1, h2 => by
    have a1 : (l.drop (zt_cn 1 l)).length ≤ l.length := by rw [List.length_drop]; omega
    have a2 : (l.take (zt_cn 1 l)).length ≤ l.length := by rw [List.length_take]; omega
    simp only [List.length_cons] at h1 h2
    simp only [zm_i]
    rw [zm_i_fuel f g _ (by omega) (by omega), zm_i_fuel f g (l.take _) (by omega) (by omega)]
theorem zm_r_leaf (l : List Nat) : zm_r (0 :: l) = [0] := rfl
theorem zm_r_node (x : Nat) (l : List Nat) : zm_r ((x + 1) :: l) = (x + 1) :: (zm_r (l.drop (zt_cn 1 l)) ++ zm_r (l.take (zt_cn 1 l))) := by
  have a1 : (l.drop (zt_cn 1 l)).length ≤ l.length := by rw [List.length_drop]; omega
  have a2 : (l.take (zt_cn 1 l)).length ≤ l.length := by rw [List.length_take]; omega
  unfold zm_r
  rw [List.length_cons]
  simp only [zm_i]
  rw [zm_i_fuel l.length (l.drop (zt_cn 1 l)).length _ (by omega) (by omega), zm_i_fuel l.length (l.take (zt_cn 1 l)).length _ (by omega) (by omega)]
theorem zm_r_ok : ∀ (n : Nat) (l : List Nat), l.length ≤ n → zt_rd 1 l → (zm_r l).length = l.length ∧ zt_rd 1 (zm_r l) ∧ ∀ b, (∀ x ∈ l, x < b) → ∀ x ∈ zm_r l, x < b
  | 0, [], _, h => h.elim
  | 0, x :: l, h, _ => by simp at h
  | n + 1, [], _, h => h.elim
  | n + 1, 0 :: l, _, h => by
    rw [zm_r_leaf]
    have : l = [] := by
      cases l with
      | nil => rfl
      | cons y l => exact h.elim
    subst this
    exact ⟨rfl, trivial, fun b hb => hb⟩
  | n + 1, (x + 1) :: l, hn, h => by
    have h2 : zt_rd (1 + 1) l := h
    obtain ⟨s1, s2⟩ := zt_rd_split l 1 1 h2
    simp only [List.length_cons] at hn
    have hle := zt_cn_le l 1
    have a1 : (l.drop (zt_cn 1 l)).length ≤ n := by rw [List.length_drop]; omega
    have a2 : (l.take (zt_cn 1 l)).length ≤ n := by rw [List.length_take]; omega
    obtain ⟨l1, r1, b1⟩ := zm_r_ok n _ a2 s1
    obtain ⟨l2, r2, b2⟩ := zm_r_ok n _ a1 s2
    rw [zm_r_node]
    refine ⟨?_, ?_, ?_⟩
    · rw [List.length_cons, List.length_append, l1, l2, List.length_drop, List.length_take, List.length_cons]
      omega
    · exact zt_rd_app _ _ 1 1 r2 r1
    · intro b hb y hy
      rcases List.mem_cons.mp hy with hy | hy
      · rw [hy]; exact hb _ List.mem_cons_self
      · rcases List.mem_append.mp hy with hy | hy
        · exact b2 b (fun z hz => hb z (List.mem_cons_of_mem _ (List.mem_of_mem_drop hz))) y hy
        · exact b1 b (fun z hz => hb z (List.mem_cons_of_mem _ (List.mem_of_mem_take hz))) y hy
theorem zm_r_wd {w : List Nat} (h : zt_wd w) : zt_wd (zm_r w) := by
  obtain ⟨a, b, c⟩ := zm_r_ok w.length w (Nat.le_refl _) h.1
  exact ⟨b, c 3 h.2.1, by rw [a]; exact h.2.2⟩
theorem zt_cn_take : ∀ (l : List Nat) (m k : Nat), zt_cn m l ≤ k → zt_cn m (l.take k) = zt_cn m l
  | l, 0, k, _ => by simp [zt_cn]
  | [], m + 1, k, _ => by simp [zt_cn]
  | 0 :: l, m + 1, k, h => by
    simp only [zt_cn] at h ⊢
    cases k with
    | zero => omega
    | succ k =>
      rw [List.take_succ_cons]
      simp only [zt_cn]
      rw [zt_cn_take l m k (by omega)]
  | (x + 1) :: l, m + 1, k, h => by
    simp only [zt_cn] at h ⊢
    cases k with
    | zero => omega
    | succ k =>
      rw [List.take_succ_cons]
      simp only [zt_cn]
      rw [zt_cn_take l (m + 2) k (by omega)]
/-- the tree that begins at place p -/
def zm_t (w : List Nat) (p : Nat) : List Nat := (w.drop p).take (zt_cn 1 (w.drop p))
theorem zm_t_len (w : List Nat) (p : Nat) : (zm_t w p).length = zt_cn 1 (w.drop p) := by
  unfold zm_t
  rw [List.length_take]
  have := zt_cn_le (w.drop p) 1
  omega
theorem zm_t_rd {w : List Nat} {p m : Nat} (h : zt_rd (m + 1) (w.drop p)) : zt_rd 1 (zm_t w p) := (zt_rd_split (w.drop p) 1 m (by rw [Nat.add_comm]; exact h)).1
theorem zm_t_leaf {w : List Nat} {p : Nat} (hp : p < w.length) (h0 : w.getD p 0 = 0) : zm_t w p = [0] := by
  unfold zm_t
  rw [zl_drop hp, h0]
  simp [zt_cn]
/-- a node's tree: its letter, its left and its right one -/
theorem zm_t_node {w : List Nat} {p m : Nat} (hp : p < w.length) (h0 : w.getD p 0 ≠ 0) (h : zt_rd (m + 2) (w.drop (p + 1))) : zm_r (zm_t w p) = w.getD p 0 :: (zm_r (zm_t w (zh_p w (p + 1) 1)) ++ zm_r (zm_t w (p + 1))) ∧ (zm_t w p).length = 1 + (zm_t w (p + 1)).length + (zm_t w (zh_p w (p + 1) 1)).length := by
  obtain ⟨x, ex⟩ : ∃ x, w.getD p 0 = x + 1 := ⟨w.getD p 0 - 1, by omega⟩
  have e2 := zt_cn_add (w.drop (p + 1)) 1 1 (Or.inr ⟨m, by rw [show 1 + 1 + m = m + 2 by omega]; exact h⟩)
  have e1 : zm_t w p = (x + 1) :: (w.drop (p + 1)).take (zt_cn 2 (w.drop (p + 1))) := by
    unfold zm_t
    rw [zl_drop hp, ex]
    simp only [zt_cn]
    rw [show 1 + zt_cn (0 + 2) (w.drop (p + 1)) = zt_cn 2 (w.drop (p + 1)) + 1 from Nat.add_comm _ _, List.take_succ_cons]
  have e3 : zt_cn 2 (w.drop (p + 1)) = zt_cn 1 (w.drop (p + 1)) + zt_cn 1 ((w.drop (p + 1)).drop (zt_cn 1 (w.drop (p + 1)))) := e2
  have e4 := zt_cn_take (w.drop (p + 1)) 1 (zt_cn 2 (w.drop (p + 1))) (by omega)
  have e5 : ((w.drop (p + 1)).take (zt_cn 2 (w.drop (p + 1)))).take (zt_cn 1 (w.drop (p + 1))) = zm_t w (p + 1) := by
    unfold zm_t
    rw [List.take_take]
    congr 1; omega
  have e6 : ((w.drop (p + 1)).take (zt_cn 2 (w.drop (p + 1)))).drop (zt_cn 1 (w.drop (p + 1))) = zm_t w (zh_p w (p + 1) 1) := by
    unfold zm_t zh_p
    rw [List.drop_take, List.drop_drop]
    rw [List.drop_drop] at e3
    congr 1; omega
  refine ⟨?_, ?_⟩
  · rw [e1, zm_r_node, e4, e5, e6, ex]
  · rw [e1, List.length_cons, List.length_take, zm_t_len, zm_t_len]
    have := zt_cn_le (w.drop (p + 1)) 2
    unfold zh_p
    rw [List.drop_drop] at e3
    omega
theorem zm_t_all {w : List Nat} (h : zt_rd 1 w) : zm_t w 0 = w := by
  unfold zm_t
  rw [List.drop_zero]
  have := zt_cn_app w [] 1 h
  rw [List.append_nil] at this
  rw [this, List.take_length]
/-- a piece of z at t is the word v -/
def zm_at (z : List Nat) (t : Nat) (v : List Nat) : Prop := t + v.length ≤ z.length ∧ ∀ i, i < v.length → z.getD (t + i) 0 = v.getD i 0
theorem zm_at_cons {z v : List Nat} {t x : Nat} (h : zm_at z t (x :: v)) : z.getD t 0 = x ∧ zm_at z (t + 1) v := by
  obtain ⟨h1, h2⟩ := h
  simp only [List.length_cons] at h1 h2
  refine ⟨?_, by omega, fun i hi => ?_⟩
  · have := h2 0 (by omega)
    simpa using this
  · have := h2 (i + 1) (by omega)
    rw [show t + 1 + i = t + (i + 1) by omega, this]
    rfl
theorem zm_at_app {z u v : List Nat} {t : Nat} (h : zm_at z t (u ++ v)) : zm_at z t u ∧ zm_at z (t + u.length) v := by
  obtain ⟨h1, h2⟩ := h
  simp only [List.length_append] at h1 h2
  refine ⟨⟨by omega, fun i hi => ?_⟩, by omega, fun i hi => ?_⟩
  · rw [h2 i (by omega), zl_app_lo hi]
  · rw [show t + u.length + i = t + (u.length + i) by omega, h2 _ (by omega), zl_app_hi (by omega)]
    congr 1; omega
section Z18
variable {l : Launch} {G : zw_G} {d : Nat} {σ : zw_S} {h q : Nat} {w : List Nat} {s : Int32}
theorem l7_mirrorOf (ho : zt_ok h) (hq : zt_ok q) (ha : h + 3 ≤ q ∨ q + 3 ≤ h) (hQ : zt_V σ q w s) (hw : zt_wd w) : ∀ (n a : Nat) (τ : zw_S) (T : List Nat) (x3 x4 x5 : Option Value), a + n = w.length → zw_F (zt_A h) σ τ → τ.1 h 2 = nI w.length → τ.1 h 3 = s → zt_rd T.length (w.drop a) →
    (∀ k, k < T.length → τ.1 (h + 2) (zh_p w a k) = nI (T.getD k 0)) → (∀ k, k < T.length → zm_at (zm_r w) (T.getD k 0) (zm_r (zm_t w (zh_p w a k)))) →
    (∀ i, i < w.length → τ.1 (h + 1) i = nI ((zm_r w).getD i 0) ∨ ∃ k, k < T.length ∧ T.getD k 0 ≤ i ∧ i < T.getD k 0 + (zm_t w (zh_p w a k)).length) →
    zw_W l G (d + 3) mX7_mirrorOf 13 [some (.ref h), some (.ref q), some (.int (nI a)), x3, x4, x5] [] τ (fun x υ => x = none ∧ zt_V υ h (zm_r w) s ∧ zw_F (zt_A h) σ υ) := by
  obtain ⟨k0, k1, k2, l1, l2⟩ := id ho
  have j0 := hq.1
  have h13 := hQ.1
  obtain ⟨z1, z2, z3⟩ := zm_r_ok w.length w (Nat.le_refl _) hw.1
  have z3 := z3 3 hw.2.1
  intro n
  induction n with
  | zero =>
    intro a τ T x3 x4 x5 hn hF hn2 hs2 hrd hH hZ hI
    have hQ2 : zt_V τ q w s := hQ.fr hF (by unfold zt_A; omega) (by unfold zt_A; omega)
    have hT : T.length = 0 := by
      rw [List.drop_of_length_le (by omega)] at hrd
      cases hT : T.length with
      | zero => rfl
      | succ k => rw [hT] at hrd; exact hrd.elim
    refine zi_ild2 dX7_mirrorOf_13 ?_
    refine zi_ald1 dX7_mirrorOf_14 ?_
    refine zi_getI dX7_mirrorOf_15 flX7_18 rfl (by first | assumption | decide) ?_
    refine zi_icmp_ge 100 dX7_mirrorOf_18 (by decide) (fun c18 => ?_) (fun c18 => ?_)
    · refine zi_ret dX7_mirrorOf_100 rfl ?_
      refine ⟨rfl, ⟨by omega, z3, by rw [z1]; exact hn2, hs2, fun i hi => ?_⟩, hF⟩
      rcases hI i (by omega) with q | ⟨k, q, -⟩
      · exact q
      · omega
    · rw [hQ2.2.2.1, zn_le (by omega) (by omega)] at c18; omega
  | succ n ih =>
    intro a τ T x3 x4 x5 hn hF hn2 hs2 hrd hH hZ hI
    have hQ2 : zt_V τ q w s := hQ.fr hF (by unfold zt_A; omega) (by unfold zt_A; omega)
    have hal : a < w.length := by omega
    have hx := zl_getD_lt hQ.2.1 a
    have hpos := zt_rd_pos hrd (by rw [List.length_drop]; omega)
    obtain ⟨t0, T', hT⟩ : ∃ t0 T', T = t0 :: T' := by
      cases T with
      | nil => simp at hpos
      | cons t0 T' => exact ⟨t0, T', rfl⟩
    subst hT
    have hp0 : zh_p w a 0 = a := zh_p0 w a
    have hH0 : τ.1 (h + 2) a = nI t0 := by have := hH 0 hpos; rw [hp0] at this; exact this
    have hZ0 : zm_at (zm_r w) t0 (zm_r (zm_t w a)) := by have := hZ 0 hpos; rw [hp0] at this; exact this
    have hta : zt_rd 1 (zm_t w a) := zm_t_rd (m := T'.length) hrd
    have hlt0 : (zm_r (zm_t w a)).length = (zm_t w a).length := (zm_r_ok _ _ (Nat.le_refl _) hta).1
    have hta1 := zt_rd_ne hta
    have hb0 := hZ0.1
    refine zi_ild2 dX7_mirrorOf_13 ?_
    refine zi_ald1 dX7_mirrorOf_14 ?_
    refine zi_getI dX7_mirrorOf_15 flX7_18 rfl (by first | assumption | decide) ?_
    refine zi_icmp_ge 100 dX7_mirrorOf_18 (by decide) (fun c18 => ?_) (fun c18 => ?_)
    · rw [hQ2.2.2.1, zn_le (by omega) (by omega)] at c18; omega
    · refine zi_ild2 dX7_mirrorOf_21 ?_
      refine zi_bipush (nI 13) dX7_mirrorOf_22 (by decide) ?_
      refine zi_icmp_ge 100 dX7_mirrorOf_24 (by decide) (fun c24 => ?_) (fun c24 => ?_)
      · rw [zn_le (by omega) (by omega)] at c24; omega
      · refine zi_ald0 dX7_mirrorOf_27 ?_
        refine zi_getR dX7_mirrorOf_28 flX7_15 rfl (by first | assumption | decide) ?_
        refine zi_ild2 dX7_mirrorOf_31 ?_
        refine zi_ialdN _ dX7_mirrorOf_32 (by first | assumption | decide) rfl (by omega) (by omega) ?_
        rw [hH0]
        refine zi_ist3 dX7_mirrorOf_33 (Nat.le_of_ble_eq_true rfl) rfl ?_
        refine zi_ald0 dX7_mirrorOf_34 ?_
        refine zi_ild3 dX7_mirrorOf_35 ?_
        refine zi_ald1 dX7_mirrorOf_36 ?_
        refine zi_ild2 dX7_mirrorOf_37 ?_
        refine zi_cV1i vmX7_figureAt lkX7_32 dX7_mirrorOf_38 (by first | assumption | decide) (Nat.le_of_ble_eq_true rfl) (c7_figureAt hq hQ2 (show a < 2147483648 by omega)) ?_
        rintro _ _ ⟨rfl, rfl⟩
        refine zi_cV2v vmX7_putFigure lkX7_47 dX7_mirrorOf_41 (by first | assumption | decide) (Nat.le_of_ble_eq_true rfl) (c7_putFigure_raw ho hn2 h13 (show t0 < w.length by omega)) ?_
        rintro τ2 e2
        have hF2 : zw_F (zt_A h) σ τ2 := by rw [e2]; exact hF.pI ⟨by omega, by omega⟩
        have hQ3 : zt_V τ2 q w s := hQ.fr hF2 (by unfold zt_A; omega) (by unfold zt_A; omega)
        have hn3 : τ2.1 h 2 = nI w.length := by rw [e2, zs_obj (by omega)]; exact hn2
        have hs3 : τ2.1 h 3 = s := by rw [e2, zs_obj (by omega)]; exact hs2
        have hH3 : τ2.1 (h + 2) = τ.1 (h + 2) := by rw [e2, zs_obj (by omega)]
        have hI3 : ∀ i, τ2.1 (h + 1) i = if i = t0 then nI (w.getD a 0) else τ.1 (h + 1) i := fun i => by
          rw [e2]
          by_cases e : i = t0
          · rw [if_pos e, e, zs_same]
          · rw [if_neg e, zs_slot e]
        clear e2
        refine zi_ald1 dX7_mirrorOf_44 ?_
        refine zi_ild2 dX7_mirrorOf_45 ?_
        refine zi_cV1i vmX7_isNode lkX7_43 dX7_mirrorOf_46 (by first | assumption | decide) (Nat.le_of_ble_eq_true rfl) (c7_isNode hq hQ3 (show a < 2147483648 by omega)) ?_
        rintro _ _ ⟨rfl, rfl⟩
        refine zi_if_eq 94 dX7_mirrorOf_49 (by decide) (fun c49 => ?_) (fun c49 => ?_)
        · refine zi_inc2 (nI 1) dX7_mirrorOf_94 (by decide) (Nat.le_of_ble_eq_true rfl) rfl ?_
          refine zi_goto 13 dX7_mirrorOf_97 (by decide) ?_
          rw [nI_add]
          first
          | (have h0 : w.getD a 0 = 0 := by
               by_cases q : w.getD a 0 = 0
               · exact q
               · rw [if_neg q] at c49; exact absurd c49 (by decide)
             have hrd1 : zt_rd T'.length (w.drop (a + 1)) := by
               rw [zl_drop hal, h0] at hrd
               exact hrd
             have hz0 : (zm_r w).getD t0 0 = 0 := by
               rw [zm_t_leaf hal h0] at hZ0
               exact (zm_at_cons hZ0).1
             have hl1 : (zm_t w a).length = 1 := by rw [zm_t_leaf hal h0]; rfl
             refine ih (a + 1) τ2 T' _ _ _ (by omega) hF2 hn3 hs3 hrd1 (fun k hk => ?_) (fun k hk => ?_) (fun i hi => ?_)
             · rw [zh_leaf hal h0, hH3]
               exact hH (k + 1) (by simp; omega)
             · rw [zh_leaf hal h0]
               exact hZ (k + 1) (by simp; omega)
             · rw [hI3 i]
               by_cases e : i = t0
               · left
                 rw [if_pos e, h0, e, hz0]
               · rw [if_neg e]
                 rcases hI i hi with q | ⟨k, q1, q2, q3⟩
                 · exact Or.inl q
                 · right
                   cases k with
                   | zero =>
                     rw [hp0] at q3
                     have q2 : t0 ≤ i := q2
                     have q3 : i < t0 + (zm_t w a).length := q3
                     omega
                   | succ k =>
                     refine ⟨k, by simp at q1; omega, q2, ?_⟩
                     rw [zh_leaf hal h0]
                     exact q3)
          | (rw [hm] at hZ0
             obtain ⟨hz0, hz1⟩ := zm_at_cons hZ0
             obtain ⟨hzR, hzL⟩ := zm_at_app hz1
             have hrR : zt_rd 1 (zm_t w (zh_p w (a + 1) 1)) := by
               have h2 : zt_rd (1 + (T'.length + 1)) (w.drop (a + 1)) := by rw [show 1 + (T'.length + 1) = T'.length + 2 by omega]; exact hrd1
               have := (zt_rd_split _ 1 (T'.length + 1) h2).2
               rw [List.drop_drop] at this
               exact zm_t_rd this
             rw [(zm_r_ok _ _ (Nat.le_refl _) hrR).1] at hzL
             refine ih (a + 1) _ ((t0 + 1 + (zm_t w (zh_p w (a + 1) 1)).length) :: (t0 + 1) :: T') _ _ _ (by omega) ((hF2.pI ⟨by omega, by omega⟩).pI ⟨by omega, by omega⟩) (by rw [zs_obj (by omega), zs_obj (by omega)]; exact hn3) (by rw [zs_obj (by omega), zs_obj (by omega)]; exact hs3) hrd1 (fun k hk => ?_) (fun k hk => ?_) (fun i hi => ?_)
             · match k, hk with
               | 0, _ => rw [p1, zs_same]; rfl
               | 1, _ =>
                 have := zh_ne hrd1 (show a + 1 ≤ w.length by omega) (show 1 ≤ T'.length + 2 by omega) (show 0 ≤ T'.length + 2 by omega) (by decide)
                 rw [p1] at this
                 rw [zs_slot this, zs_same]; rfl
               | k + 2, hk =>
                 have hk2 : k + 2 ≤ T'.length + 2 := by simp at hk; omega
                 have n0 := zh_ne hrd1 (show a + 1 ≤ w.length by omega) hk2 (show 0 ≤ T'.length + 2 by omega) (show k + 2 ≠ 0 by omega)
                 have n1 := zh_ne hrd1 (show a + 1 ≤ w.length by omega) hk2 (show 1 ≤ T'.length + 2 by omega) (show k + 2 ≠ 1 by omega)
                 rw [p1] at n0
                 rw [zs_slot n0, zs_slot n1, hH3, zh_node hal h0]
                 have := hH (k + 1) (by simp at hk ⊢; omega)
                 rw [this]; rfl
             · match k, hk with
               | 0, _ => rw [p1]; exact hzL
               | 1, _ => exact hzR
               | k + 2, hk =>
                 rw [zh_node hal h0]
                 exact hZ (k + 1) (by simp at hk ⊢; omega)
             · rw [zs_obj (by omega), zs_obj (by omega), hI3 i]
               by_cases e : i = t0
               · left
                 rw [if_pos e, e, hz0]
               · rw [if_neg e]
                 rcases hI i hi with q | ⟨k, q1, q2, q3⟩
                 · exact Or.inl q
                 · right
                   cases k with
                   | zero =>
                     rw [hp0] at q3
                     have q2 : t0 ≤ i := q2
                     have q3 : i < t0 + (zm_t w a).length := q3
                     by_cases c : i < t0 + 1 + (zm_t w (zh_p w (a + 1) 1)).length
                     · exact ⟨1, by simp, by show t0 + 1 ≤ i; omega, c⟩
                     · refine ⟨0, by simp, by show t0 + 1 + _ ≤ i; omega, ?_⟩
                       rw [p1]
                       show i < t0 + 1 + _ + _
                       omega
                   | succ k =>
                     refine ⟨k + 2, by simp at q1 ⊢; omega, q2, ?_⟩
                     rw [zh_node hal h0]
                     exact q3)
        · have h0 : ¬ w.getD a 0 = 0 := by
            intro q; rw [if_pos q] at c49; exact absurd rfl c49
          have hrd1 : zt_rd (T'.length + 2) (w.drop (a + 1)) := by
            rw [zl_drop hal] at hrd
            obtain ⟨x, ex⟩ : ∃ x, w.getD a 0 = x + 1 := ⟨w.getD a 0 - 1, by omega⟩
            rw [ex] at hrd
            exact hrd
          obtain ⟨hm, hml⟩ := zm_t_node hal h0 hrd1
          have p1 : zh_p w (a + 1) 0 = a + 1 := zh_p0 _ _
          have b1 := (zh_lt hrd1 (by omega) (show 1 < T'.length + 2 by omega)).1
          have b0 := (zh_lt hrd1 (by omega) (show 0 < T'.length + 2 by omega)).1
          have nx := zh_next hrd1 (show 1 + 1 ≤ T'.length + 2 by omega)
          have ml1 := zm_t_len w (zh_p w (a + 1) 1)
          have nx2 : zh_p w (a + 1) 2 ≤ w.length := by
            have := zt_cn_le (w.drop (a + 1)) 2
            rw [List.length_drop] at this
            unfold zh_p; omega
          refine zi_ald1 dX7_mirrorOf_52 ?_
          refine zi_ild2 dX7_mirrorOf_53 ?_
          refine zi_iconst (nI 1) dX7_mirrorOf_54 (by decide) ?_
          refine zi_iadd dX7_mirrorOf_55 ?_
          rw [nI_add]
          refine zi_cV1i vmX7_endOf lkX7_51 dX7_mirrorOf_56 (by first | assumption | decide) (Nat.le_of_ble_eq_true rfl) (c7_endOf hq hQ3 (show a + 1 ≤ w.length by omega)) ?_
          rintro _ _ ⟨rfl, rfl⟩
          rw [show a + 1 + zt_cn 1 (w.drop (a + 1)) = zh_p w (a + 1) 1 from rfl]
          refine zi_ist4 dX7_mirrorOf_59 (Nat.le_of_ble_eq_true rfl) rfl ?_
          refine zi_ald1 dX7_mirrorOf_61 ?_
          refine zi_ild4 dX7_mirrorOf_62 ?_
          refine zi_cV1i vmX7_endOf lkX7_51 dX7_mirrorOf_64 (by first | assumption | decide) (Nat.le_of_ble_eq_true rfl) (c7_endOf hq hQ3 (show zh_p w (a + 1) 1 ≤ w.length by omega)) ?_
          rintro _ _ ⟨rfl, rfl⟩
          refine zi_ild4 dX7_mirrorOf_67 ?_
          refine zi_isub dX7_mirrorOf_69 ?_
          rw [pk_sub (by omega), Nat.add_sub_cancel_left, ← ml1]
          refine zi_ist5 dX7_mirrorOf_70 (Nat.le_of_ble_eq_true rfl) rfl ?_
          refine zi_ald0 dX7_mirrorOf_72 ?_
          refine zi_ild4 dX7_mirrorOf_73 ?_
          refine zi_ild3 dX7_mirrorOf_75 ?_
          refine zi_iconst (nI 1) dX7_mirrorOf_76 (by decide) ?_
          refine zi_iadd dX7_mirrorOf_77 ?_
          rw [nI_add]
          refine zi_cV2v vmX7_handDown lkX7_82 dX7_mirrorOf_78 (by first | assumption | decide) (Nat.le_of_ble_eq_true rfl) (c7_handDown ho (show zh_p w (a + 1) 1 < 13 by omega)) ?_
          rintro _ rfl
          refine zi_ald0 dX7_mirrorOf_81 ?_
          refine zi_ild2 dX7_mirrorOf_82 ?_
          refine zi_iconst (nI 1) dX7_mirrorOf_83 (by decide) ?_
          refine zi_iadd dX7_mirrorOf_84 ?_
          refine zi_ild3 dX7_mirrorOf_85 ?_
          refine zi_iconst (nI 1) dX7_mirrorOf_86 (by decide) ?_
          refine zi_iadd dX7_mirrorOf_87 ?_
          refine zi_ild5 dX7_mirrorOf_88 ?_
          refine zi_iadd dX7_mirrorOf_90 ?_
          rw [nI_add, nI_add, nI_add]
          refine zi_cV2v vmX7_handDown lkX7_82 dX7_mirrorOf_91 (by first | assumption | decide) (Nat.le_of_ble_eq_true rfl) (c7_handDown ho (show a + 1 < 13 by omega)) ?_
          rintro _ rfl
          refine zi_inc2 (nI 1) dX7_mirrorOf_94 (by decide) (Nat.le_of_ble_eq_true rfl) rfl ?_
          refine zi_goto 13 dX7_mirrorOf_97 (by decide) ?_
          rw [nI_add]
          first
          | (have h0 : w.getD a 0 = 0 := by
               by_cases q : w.getD a 0 = 0
               · exact q
               · rw [if_neg q] at c49; exact absurd c49 (by decide)
             have hrd1 : zt_rd T'.length (w.drop (a + 1)) := by
               rw [zl_drop hal, h0] at hrd
               exact hrd
             have hz0 : (zm_r w).getD t0 0 = 0 := by
               rw [zm_t_leaf hal h0] at hZ0
               exact (zm_at_cons hZ0).1
             have hl1 : (zm_t w a).length = 1 := by rw [zm_t_leaf hal h0]; rfl
             refine ih (a + 1) τ2 T' _ _ _ (by omega) hF2 hn3 hs3 hrd1 (fun k hk => ?_) (fun k hk => ?_) (fun i hi => ?_)
             · rw [zh_leaf hal h0, hH3]
               exact hH (k + 1) (by simp; omega)
             · rw [zh_leaf hal h0]
               exact hZ (k + 1) (by simp; omega)
             · rw [hI3 i]
               by_cases e : i = t0
               · left
                 rw [if_pos e, h0, e, hz0]
               · rw [if_neg e]
                 rcases hI i hi with q | ⟨k, q1, q2, q3⟩
                 · exact Or.inl q
                 · right
                   cases k with
                   | zero =>
                     rw [hp0] at q3
                     have q2 : t0 ≤ i := q2
                     have q3 : i < t0 + (zm_t w a).length := q3
                     omega
                   | succ k =>
                     refine ⟨k, by simp at q1; omega, q2, ?_⟩
                     rw [zh_leaf hal h0]
                     exact q3)
          | (rw [hm] at hZ0
             obtain ⟨hz0, hz1⟩ := zm_at_cons hZ0
             obtain ⟨hzR, hzL⟩ := zm_at_app hz1
             have hrR : zt_rd 1 (zm_t w (zh_p w (a + 1) 1)) := by
               have h2 : zt_rd (1 + (T'.length + 1)) (w.drop (a + 1)) := by rw [show 1 + (T'.length + 1) = T'.length + 2 by omega]; exact hrd1
               have := (zt_rd_split _ 1 (T'.length + 1) h2).2
               rw [List.drop_drop] at this
               exact zm_t_rd this
             rw [(zm_r_ok _ _ (Nat.le_refl _) hrR).1] at hzL
             refine ih (a + 1) _ ((t0 + 1 + (zm_t w (zh_p w (a + 1) 1)).length) :: (t0 + 1) :: T') _ _ _ (by omega) ((hF2.pI ⟨by omega, by omega⟩).pI ⟨by omega, by omega⟩) (by rw [zs_obj (by omega), zs_obj (by omega)]; exact hn3) (by rw [zs_obj (by omega), zs_obj (by omega)]; exact hs3) hrd1 (fun k hk => ?_) (fun k hk => ?_) (fun i hi => ?_)
             · match k, hk with
               | 0, _ => rw [p1, zs_same]; rfl
               | 1, _ =>
                 have := zh_ne hrd1 (show a + 1 ≤ w.length by omega) (show 1 ≤ T'.length + 2 by omega) (show 0 ≤ T'.length + 2 by omega) (by decide)
                 rw [p1] at this
                 rw [zs_slot this, zs_same]; rfl
               | k + 2, hk =>
                 have hk2 : k + 2 ≤ T'.length + 2 := by simp at hk; omega
                 have n0 := zh_ne hrd1 (show a + 1 ≤ w.length by omega) hk2 (show 0 ≤ T'.length + 2 by omega) (show k + 2 ≠ 0 by omega)
                 have n1 := zh_ne hrd1 (show a + 1 ≤ w.length by omega) hk2 (show 1 ≤ T'.length + 2 by omega) (show k + 2 ≠ 1 by omega)
                 rw [p1] at n0
                 rw [zs_slot n0, zs_slot n1, hH3, zh_node hal h0]
                 have := hH (k + 1) (by simp at hk ⊢; omega)
                 rw [this]; rfl
             · match k, hk with
               | 0, _ => rw [p1]; exact hzL
               | 1, _ => exact hzR
               | k + 2, hk =>
                 rw [zh_node hal h0]
                 exact hZ (k + 1) (by simp at hk ⊢; omega)
             · rw [zs_obj (by omega), zs_obj (by omega), hI3 i]
               by_cases e : i = t0
               · left
                 rw [if_pos e, e, hz0]
               · rw [if_neg e]
                 rcases hI i hi with q | ⟨k, q1, q2, q3⟩
                 · exact Or.inl q
                 · right
                   cases k with
                   | zero =>
                     rw [hp0] at q3
                     have q2 : t0 ≤ i := q2
                     have q3 : i < t0 + (zm_t w a).length := q3
                     by_cases c : i < t0 + 1 + (zm_t w (zh_p w (a + 1) 1)).length
                     · exact ⟨1, by simp, by show t0 + 1 ≤ i; omega, c⟩
                     · refine ⟨0, by simp, by show t0 + 1 + _ ≤ i; omega, ?_⟩
                       rw [p1]
                       show i < t0 + 1 + _ + _
                       omega
                   | succ k =>
                     refine ⟨k + 2, by simp at q1 ⊢; omega, q2, ?_⟩
                     rw [zh_node hal h0]
                     exact q3)
theorem c7_mirrorOf (ho : zt_ok h) (hq : zt_ok q) (ha : h + 3 ≤ q ∨ q + 3 ≤ h) (hQ : zt_V σ q w s) (hw : zt_wd w) : zw_Tv l G (d + 3) mX7_mirrorOf [.ref h, .ref q] σ (fun υ => zt_V υ h (zm_r w) s ∧ zw_F (zt_A h) σ υ) := by
  have k0 := ho.1
  refine zw_enter2 (L := [some _, some _, none, none, none, none]) (by decide) (Nat.le_of_ble_eq_true rfl) rfl ?_
  refine zi_ald0 dX7_mirrorOf_0 ?_
  refine zi_ald1 dX7_mirrorOf_1 ?_
  refine zi_cV1v vmX7_copyFrom lkX7_91 dX7_mirrorOf_2 (by first | assumption | decide) (Nat.le_of_ble_eq_true rfl) (c7_copyFrom ho hq ha hQ) ?_
  rintro τ1 ⟨hV1, hF1⟩
  refine zi_ald0 dX7_mirrorOf_5 ?_
  refine zi_iconst (nI 0) dX7_mirrorOf_6 (by decide) ?_
  refine zi_iconst (nI 0) dX7_mirrorOf_7 (by decide) ?_
  refine zi_cV2v vmX7_handDown lkX7_82 dX7_mirrorOf_8 (by first | assumption | decide) (Nat.le_of_ble_eq_true rfl) (c7_handDown ho (show 0 < 13 by decide)) ?_
  rintro _ rfl
  refine zi_iconst (nI 0) dX7_mirrorOf_11 (by decide) ?_
  refine zi_ist2 dX7_mirrorOf_12 (Nat.le_of_ble_eq_true rfl) rfl ?_
  refine l7_mirrorOf ho hq ha hQ hw w.length 0 _ [0] _ _ _ (by omega) (hF1.pI ⟨by omega, by omega⟩) (by rw [zs_obj (by omega)]; exact hV1.2.2.1) (by rw [zs_obj (by omega)]; exact hV1.2.2.2.1) hw.1 (fun k hk => ?_) (fun k hk => ?_) (fun i hi => ?_)
  · obtain rfl : k = 0 := by simp at hk; exact hk
    rw [zh_p0, zs_same]; rfl
  · obtain rfl : k = 0 := by simp at hk; exact hk
    rw [zh_p0, zm_t_all hw.1]
    exact ⟨by simp, fun i hi => by simp⟩
  · right
    refine ⟨0, by simp, by simp, ?_⟩
    rw [zh_p0, zm_t_all hw.1]
    simpa using hi
end Z18
