/-! the class's own methods, first part -/
theorem zx_rd_ok : ∀ (t : List Nat) (i m n : Nat) (w : List Nat), (∀ v, zt_rd m v → zt_rd 1 (w ++ v)) → w.length + m = 2 * n + 1 → n ≤ 6 → (∀ x ∈ w, x < 3) → (zx_rd t i m n w).1 ≤ 2 ∧ (∀ p, (zx_rd t i m n w).2.1 = some p → p ≤ i + t.length) ∧ ((zx_rd t i m n w).1 = 0 → zt_wd (zx_rd t i m n w).2.2)
  | [], i, m, n, w, h1, h2, h3, h4 => by
    unfold zx_rd
    by_cases q : m = 0
    · rw [if_pos q]
      subst q
      refine ⟨by show 0 ≤ 2; decide, fun p hp => by simp at hp, fun _ => ⟨?_, h4, by show w.length ≤ 13; omega⟩⟩
      have := h1 [] trivial
      rwa [List.append_nil] at this
    · rw [if_neg q]
      refine ⟨by show 1 ≤ 2; decide, fun p hp => ?_, fun e => by simp at e⟩
      simp at hp; simp; omega
  | c :: t, i, m, n, w, h1, h2, h3, h4 => by
    unfold zx_rd
    have base : ∀ k, 1 ≤ k → k ≤ 2 → (k, some i, w).1 ≤ 2 ∧ (∀ p, ((k, some i, w) : Nat × Option Nat × List Nat).2.1 = some p → p ≤ i + (c :: t).length) ∧ (((k, some i, w) : Nat × Option Nat × List Nat).1 = 0 → zt_wd w) := fun k a b => ⟨b, fun p hp => by simp at hp; simp; omega, fun e => by simp at e; omega⟩
    cases hf : zx_fg c with
    | none => exact base 1 (by decide) (by decide)
    | some x =>
      simp only
      have hx : x < 3 := by
        unfold zx_fg at hf
        (repeat' split at hf) <;> simp at hf <;> omega
      by_cases q : m = 0
      · rw [if_pos q]; exact base 1 (by decide) (by decide)
      · rw [if_neg q]
        by_cases q0 : x = 0
        · rw [if_pos q0]
          have := zx_rd_ok t (i + 1) (m - 1) n (w ++ [0]) (fun v hv => by
            rw [List.append_assoc]
            refine h1 _ ?_
            rw [show m = (m - 1) + 1 by omega]
            exact hv) (by rw [List.length_append, List.length_singleton]; omega) h3 (fun y hy => by
            rcases List.mem_append.mp hy with r | r
            · exact h4 y r
            · rw [List.mem_singleton.mp r]; decide)
          refine ⟨this.1, fun p hp => ?_, this.2.2⟩
          have := this.2.1 p hp
          simp; omega
        · rw [if_neg q0]
          by_cases q6 : n = 6
          · rw [if_pos q6]; exact base 2 (by decide) (by decide)
          · rw [if_neg q6]
            have := zx_rd_ok t (i + 1) (m + 1) (n + 1) (w ++ [x]) (fun v hv => by
              rw [List.append_assoc]
              refine h1 _ ?_
              rw [show m = (m - 1) + 1 by omega]
              obtain ⟨y, rfl⟩ : ∃ y, x = y + 1 := ⟨x - 1, by omega⟩
              show zt_rd (m - 1 + 2) v
              rw [show m - 1 + 2 = m + 1 by omega]; exact hv) (by rw [List.length_append, List.length_singleton]; omega) (by omega) (fun y hy => by
              rcases List.mem_append.mp hy with r | r
              · exact h4 y r
              · rw [List.mem_singleton.mp r]; exact hx)
            refine ⟨this.1, fun p hp => ?_, this.2.2⟩
            have := this.2.1 p hp
            simp; omega
theorem zx_rd0 (T : List Nat) : (zx_rd T 0 1 0 []).1 ≤ 2 ∧ (∀ p, (zx_rd T 0 1 0 []).2.1 = some p → p ≤ T.length) ∧ ((zx_rd T 0 1 0 []).1 = 0 → zt_wd (zx_rd T 0 1 0 []).2.2) := by
  have := zx_rd_ok T 0 1 0 [] (fun v hv => hv) rfl (by decide) (by simp)
  rwa [Nat.zero_add] at this
theorem zt_ok147 : zt_ok 147 := by refine ⟨?_, ?_, ?_, ?_, ?_⟩ <;> decide
theorem zt_ok150 : zt_ok 150 := by refine ⟨?_, ?_, ?_, ?_, ?_⟩ <;> decide
section Z25
variable {l : Launch} {G : zw_G} {d : Nat} {σ : zw_S} {A : zx_T}
theorem c8_feed (hV : zx_V σ A) {c : Int32} : zw_Ti l G (d + 1) mX8_feed [.ref 0, .int c] σ (fun x υ => x = (zx_feed A c).1 ∧ zx_V υ (zx_feed A c).2 ∧ zx_F σ υ) := by
  obtain ⟨h1, h2, h3, h4, h5, h6, h7, h8⟩ := id hV
  obtain ⟨t1, t2, t3, t4⟩ := id h4
  have l153 : zw_ln (0 + 153) = 30 := by decide
  rcases zn_case c (n := 256) (by decide) with ho | ⟨k, hk, rfl⟩
  · have e : zx_feed A c = (zx_OU, A) := by unfold zx_feed; rw [zx_ix_out (by decide) ho]
    rw [e]
    refine zw_enter2 (L := [some _, some _]) (by decide) (Nat.le_of_ble_eq_true rfl) rfl ?_
    refine zi_ild1 dX8_feed_0 ?_
    refine zi_if_lt 11 dX8_feed_1 (by decide) (fun c1 => ?_) (fun c1 => ?_)
    · refine zi_ldc dX8_feed_11 kcX8_75 ?_
      refine zi_iret dX8_feed_13 rfl ?_
      exact ⟨_, rfl, rfl, hV, zx_F.rf⟩
    · refine zi_ild1 dX8_feed_4 ?_
      refine zi_sipush (nI 255) dX8_feed_5 (by decide) ?_
      refine zi_icmp_le 14 dX8_feed_8 (by decide) (fun c8 => ?_) (fun c8 => ?_)
      · exfalso
        rcases ho with q | q
        · exact c1 q
        · have := Int32.le_trans q c8
          exact absurd this (by decide)
      · refine zi_ldc dX8_feed_11 kcX8_75 ?_
        refine zi_iret dX8_feed_13 rfl ?_
        exact ⟨_, rfl, rfl, hV, zx_F.rf⟩
  · have e : zx_feed A (nI k) = if A.2.2.2.1.length = 30 then (zx_FU, A) else (nI (A.2.2.2.1.length + 1), A.1, A.2.1, A.2.2.1, A.2.2.2.1 ++ [k], A.2.2.2.2) := by unfold zx_feed; rw [zx_ix_in (by decide) hk]
    rw [e]
    refine zw_enter2 (L := [some _, some _]) (by decide) (Nat.le_of_ble_eq_true rfl) rfl ?_
    refine zi_ild1 dX8_feed_0 ?_
    refine zi_if_lt 11 dX8_feed_1 (by decide) (fun c1 => ?_) (fun c1 => ?_)
    · rw [zn_0, zn_neg k (by omega)] at c1; exact c1.elim
    · refine zi_ild1 dX8_feed_4 ?_
      refine zi_sipush (nI 255) dX8_feed_5 (by decide) ?_
      refine zi_icmp_le 14 dX8_feed_8 (by decide) (fun c8 => ?_) (fun c8 => ?_)
      · refine zi_ald0 dX8_feed_14 ?_
        refine zi_getI dX8_feed_15 flX8_64 rfl (by first | assumption | decide) ?_
        refine zi_if_lt 30 dX8_feed_18 (by decide) (fun c18 => ?_) (fun c18 => ?_)
        · rw [t3, zn_0, zn_neg _ (by omega)] at c18; exact c18.elim
        · refine zi_ald0 dX8_feed_21 ?_
          refine zi_getI dX8_feed_22 flX8_64 rfl (by first | assumption | decide) ?_
          refine zi_bipush (nI 30) dX8_feed_25 (by decide) ?_
          refine zi_icmp_lt 33 dX8_feed_27 (by decide) (fun c27 => ?_) (fun c27 => ?_)
          · rw [t3, zn_lt (by omega) (by omega)] at c27
            refine zi_ald0 dX8_feed_33 ?_
            refine zi_getR dX8_feed_34 flX8_60 rfl (by first | assumption | decide) ?_
            refine zi_ald0 dX8_feed_37 ?_
            refine zi_getI dX8_feed_38 flX8_64 rfl (by first | assumption | decide) ?_
            refine zi_ild1 dX8_feed_41 ?_
            refine zi_iastN A.2.2.2.1.length dX8_feed_42 (by first | assumption | decide) t3 (by omega) (by omega) ?_
            refine zi_ald0 dX8_feed_43 ?_
            refine zi_dupr dX8_feed_44 ?_
            refine zi_getI dX8_feed_45 flX8_64 rfl (by first | assumption | decide) ?_
            refine zi_iconst (nI 1) dX8_feed_48 (by decide) ?_
            refine zi_iadd dX8_feed_49 ?_
            refine zi_putI dX8_feed_50 flX8_64 fp_8_9 rfl (by first | assumption | decide) ?_
            refine zi_ald0 dX8_feed_53 ?_
            refine zi_getI dX8_feed_54 flX8_64 rfl (by first | assumption | decide) ?_
            refine zi_iret dX8_feed_57 rfl ?_
            rw [if_neg (by omega), zs_same, zs_obj (by omega), t3, nI_add]
            refine ⟨_, rfl, rfl, ⟨?_, ?_, ?_, ?_, ?_, ?_, h7, ?_⟩, fun o ho => ⟨by rw [zs_obj (by omega), zs_obj (by omega)], rfl⟩⟩
            · exact h1.cg (fun o a b => by rw [zs_obj (by omega), zs_obj (by omega)])
            · obtain ⟨nx, h2⟩ := h2
              exact ⟨nx, h2.fr (A := fun o => o = 0 ∨ o = 0 + 153) ((zw_F.rf.pI (Or.inr rfl)).pI (Or.inl rfl)) (fun o q => by unfold zq_A at q; omega)⟩
            · exact fun i hi => (h3 i hi).cg (fun o a b => by rw [zs_obj (by omega), zs_obj (by omega)])
            · refine ⟨by rw [List.length_append, List.length_singleton]; omega, ?_, ?_, fun j hj => ?_⟩
              · intro x hx
                rcases List.mem_append.mp hx with r | r
                · exact t2 x r
                · rw [List.mem_singleton.mp r]; exact hk
              · rw [zs_same, List.length_append, List.length_singleton]
              · rw [List.length_append, List.length_singleton] at hj
                rw [zs_obj (by omega)]
                show (zw_pI σ 153 A.2.2.2.1.length (nI k)).1 153 j = _
                by_cases e : j = A.2.2.2.1.length
                · subst e
                  rw [zs_same, zl_app_hi (Nat.le_refl _), Nat.sub_self]; rfl
                · rw [zs_slot e, zl_app_lo (by omega)]
                  exact t4 j (by omega)
            · rw [zs_slot (by decide), zs_obj (by omega)]; exact h5
            · exact h6.fr (A := fun o => o = 0 ∨ o = 0 + 153) ((zw_F.rf.pI (Or.inr rfl)).pI (Or.inl rfl)) (fun o a b => by omega)
            · rw [zs_slot (by decide), zs_obj (by omega)]; exact h8
          · refine zi_ldc dX8_feed_30 kcX8_76 ?_
            refine zi_iret dX8_feed_32 rfl ?_
            rw [t3, zn_lt (by omega) (by omega)] at c27
            rw [if_pos (by omega)]
            exact ⟨_, rfl, rfl, hV, zx_F.rf⟩
      · rw [zn_le (by omega) (by omega)] at c8; omega
theorem c8_figureOf {c : Nat} (hc : c < 256) : zw_Ti l G (d + 1) mX8_figureOf [.int (nI c)] σ (fun x τ => σ = τ ∧ x = zp_oI (zx_fg c)) := by
  have hi : (nI c).toInt = c := nI_toInt (by omega)
  refine zw_enter2 (L := [some _]) (by decide) (Nat.le_of_ble_eq_true rfl) rfl ?_
  refine zi_ild0 dX8_figureOf_0 ?_
  by_cases e1 : c = 46
  · subst e1
    refine zi_lookup 36 dX8_figureOf_1 (by decide) rfl (by decide) ?_
    refine zi_iconst (nI 0) dX8_figureOf_36 (by decide) ?_
    refine zi_iret dX8_figureOf_37 rfl ?_
    exact ⟨_, rfl, rfl, rfl⟩
  · by_cases e2 : c = 97
    · subst e2
      refine zi_lookup 38 dX8_figureOf_1 (by decide) rfl (by decide) ?_
      refine zi_iconst (nI 1) dX8_figureOf_38 (by decide) ?_
      refine zi_iret dX8_figureOf_39 rfl ?_
      exact ⟨_, rfl, rfl, rfl⟩
    · by_cases e3 : c = 98
      · subst e3
        refine zi_lookup 40 dX8_figureOf_1 (by decide) rfl (by decide) ?_
        refine zi_iconst (nI 2) dX8_figureOf_40 (by decide) ?_
        refine zi_iret dX8_figureOf_41 rfl ?_
        exact ⟨_, rfl, rfl, rfl⟩
      · refine zi_lookup (off := 41) 42 dX8_figureOf_1 (by decide) ?_ (by decide) ?_
        · rw [hi]
          have a1 : ¬ (46 : Int) = (c : Int) := by omega
          have a2 : ¬ (97 : Int) = (c : Int) := by omega
          have a3 : ¬ (98 : Int) = (c : Int) := by omega
          have b1 : ¬ (c : Int) = 46 := by omega
          have b2 : ¬ (c : Int) = 97 := by omega
          have b3 : ¬ (c : Int) = 98 := by omega
          simp [Op.lookupswitch.offset, a1, a2, a3, b1, b2, b3]
        · refine zi_iconst (-1) dX8_figureOf_42 (by decide) ?_
          refine zi_iret dX8_figureOf_43 rfl ?_
          refine ⟨_, rfl, rfl, ?_⟩
          unfold zx_fg
          rw [if_neg e1, if_neg e2, if_neg e3]; rfl
theorem l8_readText {T : List Nat} (hT : zx_Tx σ T) : ∀ k i m n w τ x4, i + k = T.length → w.length + m = 2 * n + 1 → n ≤ 6 → zt_V τ 147 w (nI 1) → zw_F (fun o => o = 0 ∨ zt_A 147 o) σ τ → τ.1 0 9 = σ.1 0 9 → τ.1 0 11 = σ.1 0 11 → zw_W l G (d + 2) mX8_readText 13 [some (.ref 0), some (.int (nI m)), some (.int (nI n)), some (.int (nI i)), x4] [] τ (fun x υ => ∃ y, x = some (.int y) ∧ y = nI (zx_rd (T.drop i) i m n w).1 ∧ υ.1 0 10 = zp_oI (zx_rd (T.drop i) i m n w).2.1 ∧ ((zx_rd (T.drop i) i m n w).1 = 0 → zt_V υ 147 (zx_rd (T.drop i) i m n w).2.2 (nI 1)) ∧ υ.1 0 9 = σ.1 0 9 ∧ υ.1 0 11 = σ.1 0 11 ∧ zw_F (fun o => o = 0 ∨ zt_A 147 o) σ υ) := by
  obtain ⟨t1, t2, t3, t4⟩ := id hT
  have l153 : zw_ln (0 + 153) = 30 := by decide
  intro k
  induction k with
  | zero =>
    intro i m n w τ x4 hi hw hn hV hF h9 h11
    rw [List.drop_of_length_le (by omega)]
    have ei : T.length = i := by omega
    refine zi_ild3 dX8_readText_13 ?_
    refine zi_ald0 dX8_readText_14 ?_
    refine zi_getI dX8_readText_15 flX8_64 rfl (by first | assumption | decide) ?_
    refine zi_icmp_ge 95 dX8_readText_18 (by decide) (fun c18 => ?_) (fun c18 => ?_)
    · refine zi_ald0 dX8_readText_95 ?_
      refine zi_ild1 dX8_readText_96 ?_
      refine zi_if_le 107 dX8_readText_97 (by decide) (fun c97 => ?_) (fun c97 => ?_)
      · rw [zn_0, zn_le (by omega) (by omega)] at c97
        refine zi_iconst (-1) dX8_readText_107 (by decide) ?_
        refine zi_putI dX8_readText_108 flX8_68 fp_8_10 rfl (by first | assumption | decide) ?_
        refine zi_ild1 dX8_readText_111 ?_
        refine zi_if_le 119 dX8_readText_112 (by decide) (fun c112 => ?_) (fun c112 => ?_)
        · rw [zn_0, zn_le (by omega) (by omega)] at c112
          refine zi_iconst (nI 0) dX8_readText_119 (by decide) ?_
          refine zi_iret dX8_readText_120 rfl ?_
          unfold zx_rd
          first
          | (exfalso; omega)
          | (rw [if_pos (show m = 0 by omega)]
             exact ⟨_, rfl, rfl, zs_same _ _ _ _, fun _ => hV.cg (zs_obj (by omega)) (zs_obj (by omega)), by rw [zs_slot (by decide)]; exact h9, by rw [zs_slot (by decide)]; exact h11, hF.pI (Or.inl rfl)⟩)
          | (rw [if_neg (show ¬ m = 0 by omega)]
             refine ⟨_, rfl, rfl, ?_, fun e => Nat.noConfusion e, by rw [zs_slot (by decide)]; exact h9, by rw [zs_slot (by decide)]; exact h11, hF.pI (Or.inl rfl)⟩
             rw [zs_same, h9, t3, ei]; rfl)
        · rw [zn_0, zn_le (by omega) (by omega)] at c112
          refine zi_iconst (nI 1) dX8_readText_115 (by decide) ?_
          refine zi_goto 120 dX8_readText_116 (by decide) ?_
          refine zi_iret dX8_readText_120 rfl ?_
          unfold zx_rd
          first
          | (exfalso; omega)
          | (rw [if_pos (show m = 0 by omega)]
             exact ⟨_, rfl, rfl, zs_same _ _ _ _, fun _ => hV.cg (zs_obj (by omega)) (zs_obj (by omega)), by rw [zs_slot (by decide)]; exact h9, by rw [zs_slot (by decide)]; exact h11, hF.pI (Or.inl rfl)⟩)
          | (rw [if_neg (show ¬ m = 0 by omega)]
             refine ⟨_, rfl, rfl, ?_, fun e => Nat.noConfusion e, by rw [zs_slot (by decide)]; exact h9, by rw [zs_slot (by decide)]; exact h11, hF.pI (Or.inl rfl)⟩
             rw [zs_same, h9, t3, ei]; rfl)
      · rw [zn_0, zn_le (by omega) (by omega)] at c97
        refine zi_ald0 dX8_readText_100 ?_
        refine zi_getI dX8_readText_101 flX8_64 rfl (by first | assumption | decide) ?_
        refine zi_goto 108 dX8_readText_104 (by decide) ?_
        refine zi_putI dX8_readText_108 flX8_68 fp_8_10 rfl (by first | assumption | decide) ?_
        refine zi_ild1 dX8_readText_111 ?_
        refine zi_if_le 119 dX8_readText_112 (by decide) (fun c112 => ?_) (fun c112 => ?_)
        · rw [zn_0, zn_le (by omega) (by omega)] at c112
          refine zi_iconst (nI 0) dX8_readText_119 (by decide) ?_
          refine zi_iret dX8_readText_120 rfl ?_
          unfold zx_rd
          first
          | (exfalso; omega)
          | (rw [if_pos (show m = 0 by omega)]
             exact ⟨_, rfl, rfl, zs_same _ _ _ _, fun _ => hV.cg (zs_obj (by omega)) (zs_obj (by omega)), by rw [zs_slot (by decide)]; exact h9, by rw [zs_slot (by decide)]; exact h11, hF.pI (Or.inl rfl)⟩)
          | (rw [if_neg (show ¬ m = 0 by omega)]
             refine ⟨_, rfl, rfl, ?_, fun e => Nat.noConfusion e, by rw [zs_slot (by decide)]; exact h9, by rw [zs_slot (by decide)]; exact h11, hF.pI (Or.inl rfl)⟩
             rw [zs_same, h9, t3, ei]; rfl)
        · rw [zn_0, zn_le (by omega) (by omega)] at c112
          refine zi_iconst (nI 1) dX8_readText_115 (by decide) ?_
          refine zi_goto 120 dX8_readText_116 (by decide) ?_
          refine zi_iret dX8_readText_120 rfl ?_
          unfold zx_rd
          first
          | (exfalso; omega)
          | (rw [if_pos (show m = 0 by omega)]
             exact ⟨_, rfl, rfl, zs_same _ _ _ _, fun _ => hV.cg (zs_obj (by omega)) (zs_obj (by omega)), by rw [zs_slot (by decide)]; exact h9, by rw [zs_slot (by decide)]; exact h11, hF.pI (Or.inl rfl)⟩)
          | (rw [if_neg (show ¬ m = 0 by omega)]
             refine ⟨_, rfl, rfl, ?_, fun e => Nat.noConfusion e, by rw [zs_slot (by decide)]; exact h9, by rw [zs_slot (by decide)]; exact h11, hF.pI (Or.inl rfl)⟩
             rw [zs_same, h9, t3, ei]; rfl)
    · rw [h9, t3, zn_le (by omega) (by omega)] at c18; omega
  | succ k ih =>
    intro i m n w τ x4 hi hw hn hV hF h9 h11
    have hil : i < T.length := by omega
    have hc : T.getD i 0 < 256 := by rw [zl_getD hil]; exact t2 _ (List.getElem_mem hil)
    have ht4 : τ.1 (0 + 153) i = nI (T.getD i 0) := by
      rw [hF.2 (0 + 153) (by unfold zt_A; omega)]; exact t4 i hil
    have ed := zl_drop hil
    have hV2 : zt_V (zw_pI τ 0 10 (nI i)) 147 w (nI 1) := hV.cg (zs_obj (by omega)) (zs_obj (by omega))
    have hF2 : zw_F (fun o => o = 0 ∨ zt_A 147 o) σ (zw_pI τ 0 10 (nI i)) := hF.pI (Or.inl rfl)
    have g9 : (zw_pI τ 0 10 (nI i)).1 0 9 = σ.1 0 9 := by rw [zs_slot (by decide)]; exact h9
    have g11 : (zw_pI τ 0 10 (nI i)).1 0 11 = σ.1 0 11 := by rw [zs_slot (by decide)]; exact h11
    have hfg : ∀ k, zx_fg (T.getD i 0) = some k → k < 3 := fun k hk => by
      unfold zx_fg at hk
      (repeat' split at hk) <;> simp at hk <;> omega
    rw [ed]
    refine zi_ild3 dX8_readText_13 ?_
    refine zi_ald0 dX8_readText_14 ?_
    refine zi_getI dX8_readText_15 flX8_64 rfl (by first | assumption | decide) ?_
    refine zi_icmp_ge 95 dX8_readText_18 (by decide) (fun c18 => ?_) (fun c18 => ?_)
    · rw [h9, t3, zn_le (by omega) (by omega)] at c18; omega
    · refine zi_ild3 dX8_readText_21 ?_
      refine zi_bipush (nI 30) dX8_readText_22 (by decide) ?_
      refine zi_icmp_ge 95 dX8_readText_24 (by decide) (fun c24 => ?_) (fun c24 => ?_)
      · rw [zn_le (by omega) (by omega)] at c24; omega
      · refine zi_ald0 dX8_readText_27 ?_
        refine zi_getR dX8_readText_28 flX8_60 rfl (by first | assumption | decide) ?_
        refine zi_ild3 dX8_readText_31 ?_
        refine zi_ialdN _ dX8_readText_32 (by first | assumption | decide) rfl (by omega) (by omega) ?_
        rw [ht4]
        refine zi_cS1i smX8_figureOf lkX8_96 dX8_readText_33 (Nat.le_of_ble_eq_true rfl) (c8_figureOf hc) ?_
        rintro _ _ ⟨rfl, rfl⟩
        refine zi_ist4 dX8_readText_36 (Nat.le_of_ble_eq_true rfl) rfl ?_
        refine zi_ald0 dX8_readText_38 ?_
        refine zi_ild3 dX8_readText_39 ?_
        refine zi_putI dX8_readText_40 flX8_68 fp_8_10 rfl (by first | assumption | decide) ?_
        refine zi_ild1 dX8_readText_43 ?_
        refine zi_if_eq 53 dX8_readText_44 (by decide) (fun c44 => ?_) (fun c44 => ?_)
        · refine zi_iconst (nI 1) dX8_readText_53 (by decide) ?_
          refine zi_iret dX8_readText_54 rfl ?_
          have e : zx_rd (T.getD i 0 :: T.drop (i + 1)) i m n w = (1, some i, w) := by
            unfold zx_rd
            first
            | (rw [zp_oI_m1 (fun k hk => by have := hfg k hk; omega)] at c50
               rw [c50])
            | (rw [zn_0, zn_eq (by omega) (by omega)] at c44
               cases zx_fg (T.getD i 0) with
               | none => rfl
               | some x => simp only; rw [if_pos c44])
          rw [e]
          exact ⟨_, rfl, rfl, zs_same _ _ _ _, fun e => Nat.noConfusion e, g9, g11, hF2⟩
        · rw [zn_0, zn_eq (by omega) (by omega)] at c44
          refine zi_ild4 dX8_readText_47 ?_
          refine zi_iconst (-1) dX8_readText_49 (by decide) ?_
          refine zi_icmp_ne 55 dX8_readText_50 (by decide) (fun c50 => ?_) (fun c50 => ?_)
          · rw [zp_oI_m1 (fun k hk => by have := hfg k hk; omega)] at c50
            obtain ⟨x, hx⟩ := Option.ne_none_iff_exists'.mp c50
            have hx3 := hfg x hx
            rw [hx, zp_oI_some]
            refine zi_ild4 dX8_readText_55 ?_
            refine zi_if_ne 66 dX8_readText_57 (by decide) (fun c57 => ?_) (fun c57 => ?_)
            · rw [zn_0, zn_eq (by omega) (by omega)] at c57
              refine zi_ild2 dX8_readText_66 ?_
              refine zi_bipush (nI 6) dX8_readText_67 (by decide) ?_
              refine zi_icmp_ne 74 dX8_readText_69 (by decide) (fun c69 => ?_) (fun c69 => ?_)
              · rw [zn_eq (by omega) (by omega)] at c69
                have e : zx_rd (T.getD i 0 :: T.drop (i + 1)) i m n w = zx_rd (T.drop (i + 1)) (i + 1) (m + 1) (n + 1) (w ++ [x]) := by
                  rw [zx_rd, hx]; simp only; rw [if_neg c44, if_neg c57, if_neg c69]
                refine zi_inc2 (nI 1) dX8_readText_74 (by decide) (Nat.le_of_ble_eq_true rfl) rfl ?_
                refine zi_inc1 (nI 1) dX8_readText_77 (by decide) (Nat.le_of_ble_eq_true rfl) rfl ?_
                refine zi_ald0 dX8_readText_80 ?_
                refine zi_getR dX8_readText_81 flX8_53 rfl (by first | assumption | decide) ?_
                refine zi_ild4 dX8_readText_84 ?_
                refine zi_cV1v vmX7_append lkX8_100 dX8_readText_86 (by first | assumption | decide) (Nat.le_of_ble_eq_true rfl) (c7_append zt_ok147 hV2 (by omega) (by omega)) ?_
                rintro τ2 ⟨hV3, hF3⟩
                have hF4 : zw_F (fun o => o = 0 ∨ zt_A 147 o) σ τ2 := hF2.tr hF3 (fun _ q => q) (fun o q => Or.inr q)
                have z9 : τ2.1 0 9 = σ.1 0 9 := by rw [hF3.2 0 (by unfold zt_A; omega)]; exact g9
                have z11 : τ2.1 0 11 = σ.1 0 11 := by rw [hF3.2 0 (by unfold zt_A; omega)]; exact g11
                refine zi_inc3 (nI 1) dX8_readText_89 (by decide) (Nat.le_of_ble_eq_true rfl) rfl ?_
                refine zi_goto 13 dX8_readText_92 (by decide) ?_
                rw [e]
                first
                | (rw [nI_add]
                   exact ih (i + 1) m' n (w ++ [0]) τ2 _ (by omega) (by rw [List.length_append, List.length_singleton]; omega) hn hV3 hF4 z9 z11)
                | (rw [nI_add, nI_add, nI_add]
                   exact ih (i + 1) (m + 1) (n + 1) (w ++ [x]) τ2 _ (by omega) (by rw [List.length_append, List.length_singleton]; omega) (by omega) hV3 hF4 z9 z11)
              · refine zi_iconst (nI 2) dX8_readText_72 (by decide) ?_
                refine zi_iret dX8_readText_73 rfl ?_
                rw [zn_eq (by omega) (by omega)] at c69
                have e : zx_rd (T.getD i 0 :: T.drop (i + 1)) i m n w = (2, some i, w) := by
                  rw [zx_rd, hx]; simp only; rw [if_neg c44, if_neg c57, if_pos c69]
                rw [e]
                exact ⟨_, rfl, rfl, zs_same _ _ _ _, fun e => Nat.noConfusion e, g9, g11, hF2⟩
            · rw [zn_0, zn_eq (by omega) (by omega)] at c57
              have e : zx_rd (T.getD i 0 :: T.drop (i + 1)) i m n w = zx_rd (T.drop (i + 1)) (i + 1) (m - 1) n (w ++ [0]) := by
                rw [zx_rd, hx]; simp only; rw [if_neg c44, if_pos c57]
              obtain ⟨m', rfl⟩ : ∃ m', m = m' + 1 := ⟨m - 1, by omega⟩
              refine zi_inc1 (-1) dX8_readText_60 (by decide) (Nat.le_of_ble_eq_true rfl) rfl ?_
              rw [pk_m1, c57]
              refine zi_goto 80 dX8_readText_63 (by decide) ?_
              refine zi_ald0 dX8_readText_80 ?_
              refine zi_getR dX8_readText_81 flX8_53 rfl (by first | assumption | decide) ?_
              refine zi_ild4 dX8_readText_84 ?_
              refine zi_cV1v vmX7_append lkX8_100 dX8_readText_86 (by first | assumption | decide) (Nat.le_of_ble_eq_true rfl) (c7_append zt_ok147 hV2 (by omega) (by omega)) ?_
              rintro τ2 ⟨hV3, hF3⟩
              have hF4 : zw_F (fun o => o = 0 ∨ zt_A 147 o) σ τ2 := hF2.tr hF3 (fun _ q => q) (fun o q => Or.inr q)
              have z9 : τ2.1 0 9 = σ.1 0 9 := by rw [hF3.2 0 (by unfold zt_A; omega)]; exact g9
              have z11 : τ2.1 0 11 = σ.1 0 11 := by rw [hF3.2 0 (by unfold zt_A; omega)]; exact g11
              refine zi_inc3 (nI 1) dX8_readText_89 (by decide) (Nat.le_of_ble_eq_true rfl) rfl ?_
              refine zi_goto 13 dX8_readText_92 (by decide) ?_
              rw [e]
              first
              | (rw [nI_add]
                 exact ih (i + 1) m' n (w ++ [0]) τ2 _ (by omega) (by rw [List.length_append, List.length_singleton]; omega) hn hV3 hF4 z9 z11)
              | (rw [nI_add, nI_add, nI_add]
                 exact ih (i + 1) (m + 1) (n + 1) (w ++ [x]) τ2 _ (by omega) (by rw [List.length_append, List.length_singleton]; omega) (by omega) hV3 hF4 z9 z11)
          · refine zi_iconst (nI 1) dX8_readText_53 (by decide) ?_
            refine zi_iret dX8_readText_54 rfl ?_
            have e : zx_rd (T.getD i 0 :: T.drop (i + 1)) i m n w = (1, some i, w) := by
              unfold zx_rd
              first
              | (rw [zp_oI_m1 (fun k hk => by have := hfg k hk; omega)] at c50
                 rw [c50])
              | (rw [zn_0, zn_eq (by omega) (by omega)] at c44
                 cases zx_fg (T.getD i 0) with
                 | none => rfl
                 | some x => simp only; rw [if_pos c44])
            rw [e]
            exact ⟨_, rfl, rfl, zs_same _ _ _ _, fun e => Nat.noConfusion e, g9, g11, hF2⟩
theorem c8_readText {T : List Nat} (hT : zx_Tx σ T) : zw_Ti l G (d + 2) mX8_readText [.ref 0] σ (fun y υ => y = nI (zx_rd T 0 1 0 []).1 ∧ υ.1 0 10 = zp_oI (zx_rd T 0 1 0 []).2.1 ∧ ((zx_rd T 0 1 0 []).1 = 0 → zt_V υ 147 (zx_rd T 0 1 0 []).2.2 (nI 1)) ∧ υ.1 0 9 = σ.1 0 9 ∧ υ.1 0 11 = σ.1 0 11 ∧ zw_F (fun o => o = 0 ∨ zt_A 147 o) σ υ) := by
  refine zw_enter2 (L := [some _, none, none, none, none]) (by decide) (Nat.le_of_ble_eq_true rfl) rfl ?_
  refine zi_ald0 dX8_readText_0 ?_
  refine zi_getR dX8_readText_1 flX8_53 rfl (by first | assumption | decide) ?_
  refine zi_cV0v vmX7_open lkX8_93 dX8_readText_4 (by first | assumption | decide) (Nat.le_of_ble_eq_true rfl) (c7_open zt_ok147) ?_
  rintro τ1 ⟨hV1, hF1⟩
  refine zi_iconst (nI 1) dX8_readText_7 (by decide) ?_
  refine zi_ist1 dX8_readText_8 (Nat.le_of_ble_eq_true rfl) rfl ?_
  refine zi_iconst (nI 0) dX8_readText_9 (by decide) ?_
  refine zi_ist2 dX8_readText_10 (Nat.le_of_ble_eq_true rfl) rfl ?_
  refine zi_iconst (nI 0) dX8_readText_11 (by decide) ?_
  refine zi_ist3 dX8_readText_12 (Nat.le_of_ble_eq_true rfl) rfl ?_
  exact l8_readText hT T.length 0 1 0 [] τ1 _ (by omega) rfl (by decide) hV1 (hF1.mono (fun o q => Or.inr q)) (by rw [hF1.2 0 (by unfold zt_A; omega)]) (by rw [hF1.2 0 (by unfold zt_A; omega)])
/-- a deed: the state ahead of it is kept, then the shelf or the rules change -/
theorem zx_deed {σ τ υ : zw_S} {X : zg_X} {nx : Nat} (hV : zx_V σ A) (hF1 : ∀ o, ¬ zx_sc o → ¬ zq_A o → o < 168 → τ.1 o = σ.1 o) (hq : zq_V τ nx ((A.1 :: A.2.1).take 20)) (hX : zg_V υ 1 X) (hF2 : ∀ o, ¬ zx_sc o → ¬ zg_A 1 o → o < 168 → υ.1 o = τ.1 o) : zx_V υ (zx_dd A X) := by
  obtain ⟨h1, h2, h3, h4, h5, h6, h7, h8⟩ := hV
  have hF : ∀ o, ¬ zx_sc o → ¬ zq_A o → ¬ zg_A 1 o → o < 168 → υ.1 o = σ.1 o := fun o a b c e => (hF2 o a c e).trans (hF1 o a b e)
  have e0 := hF 0 (by unfold zx_sc; omega) (by unfold zq_A; omega) (by unfold zg_A; omega) (by omega)
  refine ⟨hX, ⟨nx, ?_⟩, fun i hi => (h3 i hi).cg (fun k a b => hF k (by unfold zx_sc; omega) (by unfold zq_A; omega) (by unfold zg_A; omega) (by omega)), h4.cg (by rw [e0]) (hF _ (by unfold zx_sc; omega) (by unfold zq_A; omega) (by unfold zg_A; omega) (by omega)), by rw [e0]; exact h5, ?_, h7, by rw [e0]; exact h8⟩
  · obtain ⟨a1, a2, a3, a4, a5⟩ := hq
    have e7 := hF2 7 (by unfold zx_sc; omega) (by unfold zg_A; omega) (by omega)
    refine ⟨a1, a2, by rw [e7]; exact a3, by rw [e7]; exact a4, fun j hj => (a5 j hj).cg (fun o p q => ?_)⟩
    unfold zq_sl at p q
    exact hF2 o (by unfold zx_sc; omega) (by unfold zg_A; omega) (by omega)
  · obtain ⟨a1, a2, a3⟩ := h6
    refine ⟨a1, by rw [hF 130 (by unfold zx_sc; omega) (by unfold zq_A; omega) (by unfold zg_A; omega) (by omega)]; exact a2, fun i hi => ?_⟩
    rw [hF 131 (by unfold zx_sc; omega) (by unfold zq_A; omega) (by unfold zg_A; omega) (by omega), hF 132 (by unfold zx_sc; omega) (by unfold zq_A; omega) (by unfold zg_A; omega) (by omega)]
    exact a3 i hi
theorem c8_tell (hV : zx_V σ A) : zw_Ti l G (d + 5) mX8_tell [.ref 0] σ (fun x υ => x = (zx_tell A).1 ∧ zx_V υ (zx_tell A).2 ∧ zx_F σ υ) := by
  obtain ⟨h1, ⟨nx, h2⟩, h3, h4, h5, h6, h7, h8⟩ := id hV
  have hl8 := h1.1
  obtain ⟨r1, r2, r3⟩ := zx_rd0 A.2.2.2.1
  refine zw_enter2 (L := [some _, none]) (by decide) (Nat.le_of_ble_eq_true rfl) rfl ?_
  refine zi_ald0 dX8_tell_0 ?_
  refine zi_getR dX8_tell_1 flX8_12 rfl (by first | assumption | decide) ?_
  refine zi_cV0i vmX6_isFull lkX8_77 dX8_tell_4 (by first | assumption | decide) (Nat.le_of_ble_eq_true rfl) (c6_isFull zg_ok1 h1) ?_
  rintro _ _ ⟨rfl, rfl⟩
  refine zi_if_eq 13 dX8_tell_7 (by decide) (fun c7 => ?_) (fun c7 => ?_)
  · have e8 : A.1.1.length < 8 := by
      by_cases q : 8 ≤ A.1.1.length
      · rw [if_pos q] at c7; exact absurd c7 (by decide)
      · omega
    refine zi_ald0 dX8_tell_13 ?_
    refine zi_cV0i vmX8_readText lkX8_81 dX8_tell_14 (by first | assumption | decide) (Nat.le_of_ble_eq_true rfl) (c8_readText h4) ?_
    rintro _ τ1 ⟨rfl, f10, fw, f9, f11, hF1⟩
    have hV2 : zx_V (zw_pI τ1 0 9 (nI 0)) (A.1, A.2.1, A.2.2.1, [], (zx_rd A.2.2.2.1 0 1 0 []).2.1, A.2.2.2.2.2) := by
      have hF2 : zw_F (fun o => o = 0 ∨ zt_A 147 o) σ (zw_pI τ1 0 9 (nI 0)) := hF1.pI (Or.inl rfl)
      refine ⟨h1.fr hF2 (fun o a b => by unfold zt_A; omega), ⟨nx, h2.fr hF2 (fun o q => by unfold zq_A at q; unfold zt_A; omega)⟩, fun i hi => (h3 i hi).cg (fun o a b => hF2.2 o (by unfold zt_A; omega)), ⟨by simp, by simp, zs_same _ _ _ _, fun j hj => by simp at hj⟩, by rw [zs_slot (by decide)]; exact f10, h6.fr hF2 (fun o a b => by unfold zt_A; omega), h7, by rw [zs_slot (by decide), f11]; exact h8⟩
    have hx2 : zx_F σ (zw_pI τ1 0 9 (nI 0)) := zx_F.of (hF1.pI (Or.inl rfl)) (fun o q => by unfold zt_A at q; omega)
    refine zi_ist1 dX8_tell_17 (Nat.le_of_ble_eq_true rfl) rfl ?_
    refine zi_ald0 dX8_tell_18 ?_
    refine zi_iconst (nI 0) dX8_tell_19 (by decide) ?_
    refine zi_putI dX8_tell_20 flX8_64 fp_8_9 rfl (by first | assumption | decide) ?_
    refine zi_ild1 dX8_tell_23 ?_
    refine zi_if_eq 32 dX8_tell_24 (by decide) (fun c24 => ?_) (fun c24 => ?_)
    · rw [zn_0, zn_eq (by omega) (by omega)] at c24
      have hw := fw c24
      have e : zx_tell A = (nI A.1.1.length, zx_dd (A.1, A.2.1, A.2.2.1, [], (zx_rd A.2.2.2.1 0 1 0 []).2.1, A.2.2.2.2.2) (A.1.1 ++ [((zx_rd A.2.2.2.1 0 1 0 []).2.2, nI 1)], A.1.2)) := by unfold zx_tell; rw [if_neg (by omega), if_pos c24]
      rw [e]
      obtain ⟨g1, ⟨ny, g2⟩, -⟩ := id hV2
      refine zi_ald0 dX8_tell_32 ?_
      refine zi_getR dX8_tell_33 flX8_19 rfl (by first | assumption | decide) ?_
      refine zi_ald0 dX8_tell_36 ?_
      refine zi_getR dX8_tell_37 flX8_12 rfl (by first | assumption | decide) ?_
      refine zi_cV1v vmX1_record lkX8_85 dX8_tell_40 (by first | assumption | decide) (Nat.le_of_ble_eq_true rfl) (c1_record g2 g1) ?_
      rintro τ3 ⟨hq3, hF3⟩
      have g13 : zg_V τ3 1 A.1 := g1.fr hF3 (fun o a b => by unfold zq_A; omega)
      have hw3 : zt_V τ3 147 (zx_rd A.2.2.2.1 0 1 0 []).2.2 (nI 1) := (hw.cg (τ := zw_pI τ1 0 9 (nI 0)) (zs_obj (by omega)) (zs_obj (by omega))).fr hF3 (by unfold zq_A; omega) (by unfold zq_A; omega)
      refine zi_ald0 dX8_tell_43 ?_
      refine zi_getR dX8_tell_44 flX8_12 rfl (by first | assumption | decide) ?_
      refine zi_ald0 dX8_tell_47 ?_
      refine zi_getR dX8_tell_48 flX8_53 rfl (by first | assumption | decide) ?_
      refine zi_cV1i vmX6_add lkX8_89 dX8_tell_51 (by first | assumption | decide) (Nat.le_of_ble_eq_true rfl) (c6_add zg_ok1 zt_ok147 (by omega) g13 e8 hw3 (r3 c24) (Or.inl rfl)) ?_
      rintro _ τ4 ⟨rfl, hX4, hF4⟩
      refine zi_iret dX8_tell_54 rfl ?_
      refine ⟨_, rfl, rfl, zx_deed hV2 (fun o a b c => hF3.2 o b) hq3 hX4 (fun o a b c => hF4.2 o b), (hx2.tr (zx_F.of hF3 (fun o q => by unfold zq_A at q; omega))).tr (zx_F.of hF4 (fun o q => by unfold zg_A at q; omega))⟩
    · rw [zn_0, zn_eq (by omega) (by omega)] at c24
      refine zi_bipush (-10) dX8_tell_27 (by decide) ?_
      refine zi_ild1 dX8_tell_29 ?_
      refine zi_isub dX8_tell_30 ?_
      refine zi_iret dX8_tell_31 rfl ?_
      have e : zx_tell A = (-10 - nI (zx_rd A.2.2.2.1 0 1 0 []).1, A.1, A.2.1, A.2.2.1, [], (zx_rd A.2.2.2.1 0 1 0 []).2.1, A.2.2.2.2.2) := by unfold zx_tell; rw [if_neg (by omega), if_neg c24]
      rw [e]
      exact ⟨_, rfl, rfl, hV2, hx2⟩
  · refine zi_ldc dX8_tell_10 kcX8_76 ?_
    refine zi_iret dX8_tell_12 rfl ?_
    have e8 : A.1.1.length = 8 := by
      by_cases q : 8 ≤ A.1.1.length
      · omega
      · rw [if_neg q] at c7; exact absurd rfl c7
    have e : zx_tell A = (zx_FU, A) := by unfold zx_tell; rw [if_pos e8]
    rw [e]
    exact ⟨_, rfl, rfl, hV, zx_F.rf⟩
theorem c8_fault (hV : zx_V σ A) : zw_Ti l G (d + 1) mX8_fault [.ref 0] σ (fun x υ => σ = υ ∧ x = zp_oI A.2.2.2.2.1) := by
  refine zw_enter2 (L := [some _]) (by decide) (Nat.le_of_ble_eq_true rfl) rfl ?_
  refine zi_ald0 dX8_fault_0 ?_
  refine zi_getI dX8_fault_1 flX8_68 rfl (by first | assumption | decide) ?_
  refine zi_iret dX8_fault_4 rfl ?_
  exact ⟨_, rfl, rfl, hV.2.2.2.2.1⟩
end Z25
