/-! the model: made plain, turned, height -/
/-- an open branch ends behind those in it -/
theorem zt_cn_pre {L : List Nat} {t m : Nat} (h : zt_rd (1 + m) (L.take t)) : zt_cn 1 L ≤ t := by
  have s := (zt_rd_split (L.take t) 1 m h).1
  have e : L = (L.take t).take (zt_cn 1 (L.take t)) ++ ((L.take t).drop (zt_cn 1 (L.take t)) ++ L.drop t) := by
    rw [← List.append_assoc, List.take_append_drop, List.take_append_drop]
  have c := zt_cn_app _ ((L.take t).drop (zt_cn 1 (L.take t)) ++ L.drop t) 1 s
  rw [← e] at c
  rw [c, List.length_take, List.length_take]
  omega
theorem zh_nest {w : List Nat} {j a : Nat} (hw : zt_rd 1 w) (hja : j < a) (ha : a < j + zt_cn 1 (w.drop j)) (hl : a < w.length) : a + zt_cn 1 (w.drop a) ≤ j + zt_cn 1 (w.drop j) := by
  obtain ⟨m, hm⟩ := zt_rd_pos1 hw (show j < w.length by omega)
  have s := (zt_rd_split (w.drop j) 1 m hm).1
  have hle := zt_cn_le (w.drop j) 1
  rw [List.length_drop] at hle
  obtain ⟨q, hq⟩ := zt_rd_drop _ _ (a - j) s (by rw [List.length_take, List.length_drop]; omega)
  have hpos := zt_rd_pos hq (by rw [List.length_drop, List.length_take, List.length_drop]; omega)
  rw [List.drop_take, List.drop_drop, show j + (a - j) = a by omega] at hq
  have := zt_cn_pre (L := w.drop a) (m := q - 1) (by rw [show 1 + (q - 1) = q by omega]; exact hq)
  omega
/-- the nodes ahead of place i whose stretch place k is in -/
def zy_hb (w : List Nat) (k j : Nat) : Bool := w.getD j 0 != 0 && decide (k < j + zt_cn 1 (w.drop j))
def zy_h (w : List Nat) (k i : Nat) : Nat := ((List.range i).filter (zy_hb w k)).length
theorem zy_h_cg {w : List Nat} {k k' i : Nat} (h : ∀ j, j < i → zy_hb w k j = zy_hb w k' j) : zy_h w k i = zy_h w k' i := by
  unfold zy_h
  congr 1
  exact List.filter_congr (fun j hj => h j (List.mem_range.mp hj))
theorem zy_hS {w : List Nat} (hw : zt_rd 1 w) : ∀ a, a ≤ w.length → ∀ q, q < (zh_S w a).length → (zh_S w a).getD q 0 = 1 + zy_h w (zh_p w a q) a
  | 0, _, q, hq => by
    have hq : q < 1 := hq
    obtain rfl : q = 0 := by omega
    rfl
  | a + 1, ha, q, hq => by
    have ih := zy_hS hw a (by omega)
    have hrd := zh_S_rd hw a (by omega)
    have hrd1 := zh_S_rd hw (a + 1) ha
    rw [zh_S] at hq hrd1 ⊢
    cases hS : zh_S w a with
    | nil => rw [hS] at hq; exact absurd hq (Nat.not_lt_zero _)
    | cons D t =>
      rw [hS] at hq ih hrd hrd1
      simp only at hq hrd1 ⊢
      by_cases h0 : w.getD a 0 = 0
      · rw [if_pos h0] at hq ⊢
        have := ih (q + 1) (by rw [List.length_cons]; omega)
        rw [List.getD_cons_succ] at this
        rw [this, zh_leaf (by omega) h0]
        unfold zy_h
        rw [zl_fn (by unfold zy_hb; rw [h0]; rfl)]
      · rw [if_neg h0] at hq hrd1 ⊢
        have hend : a + zt_cn 1 (w.drop a) = zh_p w a 1 := rfl
        have e2 := zh_node (w := w) (a := a) (by omega) h0 0
        have l1 := (zh_lt hrd1 ha (q := 0) (by rw [List.length_cons]; omega)).2
        have l2 := (zh_lt hrd1 ha (q := 1) (by rw [List.length_cons, List.length_cons]; omega)).2
        rw [zh_p0] at l1
        simp only [Nat.zero_add] at e2 l1 l2
        rw [show 1 + 1 = 2 from rfl] at l2
        have top : ∀ x, a + 1 ≤ x → x < zh_p w a 1 → 1 + zy_h w x (a + 1) = D + 1 := by
          intro x hx1 hx2
          have h1 := ih 0 (by rw [List.length_cons]; omega)
          rw [List.getD_cons_zero, zh_p0] at h1
          have hcg : zy_h w x a = zy_h w a a := zy_h_cg (fun j hj => by
            unfold zy_hb
            by_cases c : w.getD j 0 = 0
            · rw [c]; rfl
            · have nb : decide (x < j + zt_cn 1 (w.drop j)) = decide (a < j + zt_cn 1 (w.drop j)) := by
                rw [decide_eq_decide]
                constructor
                · omega
                · intro q; have := zh_nest hw hj q (by omega); omega
              rw [nb])
          have hs : zy_h w x (a + 1) = zy_h w x a + 1 := by
            unfold zy_h
            rw [zl_fs (by unfold zy_hb; simp only [Bool.and_eq_true, bne_iff_ne, decide_eq_true_eq]; exact ⟨h0, by omega⟩)]
          omega
        match q, hq with
        | 0, _ =>
          rw [List.getD_cons_zero, zh_p0]
          exact (top (a + 1) (Nat.le_refl _) (by omega)).symm
        | 1, _ =>
          rw [List.getD_cons_succ, List.getD_cons_zero]
          exact (top _ (by omega) (by omega)).symm
        | q + 2, hq =>
          rw [List.getD_cons_succ, List.getD_cons_succ]
          have := ih (q + 1) (by simp only [List.length_cons] at hq ⊢; omega)
          rw [List.getD_cons_succ] at this
          rw [this, zh_node (by omega) h0]
          have hmon : zh_p w a 1 ≤ zh_p w a (q + 1) := by
            cases q with
            | zero => exact Nat.le_refl _
            | succ q =>
              have := zh_mono hrd (by omega) q 1 (by simp only [List.length_cons] at hq ⊢; omega)
              rw [show 1 + q + 1 = q + 1 + 1 by omega] at this
              omega
          unfold zy_h
          rw [zl_fn (by unfold zy_hb; rw [Bool.and_eq_false_iff]; right; simp only [decide_eq_false_iff_not]; omega)]
theorem zy_h_S {w : List Nat} (hw : zt_rd 1 w) {k : Nat} (hk : k < w.length) (h0 : w.getD k 0 ≠ 0) : zy_h w k (k + 1) = (zh_S w k).getD 0 0 := by
  have := zy_hS hw k (by omega) 0 (zh_S_pos hw hk)
  rw [zh_p0] at this
  rw [this]
  have hc := zt_cn_pos (l := w.drop k) (m := 1) (by rw [List.length_drop]; omega) (by decide)
  unfold zy_h
  rw [zl_fs (by unfold zy_hb; simp only [Bool.and_eq_true, bne_iff_ne, decide_eq_true_eq]; exact ⟨h0, by omega⟩)]
  omega
section Z34
variable {l : Launch} {G : zw_G} {d : Nat} {σ : zw_S} {w : List Nat} {s : Int32} {fa go : Nat → Nat}
theorem l9_mp61 {x2 : Option Value} {τ : zw_S} (hF : zy_S σ τ) : zw_W l G (d + 6) mX9_makePlain 2 [some (.ref 168), some (.int (nI 61)), x2] [] τ (fun x υ => ∃ y, x = some (.int y) ∧ y = -1 ∧ zy_S σ υ) := by
  refine zi_ild1 dX9_makePlain_2 ?_
  refine zi_bipush (nI 60) dX9_makePlain_3 (by decide) ?_
  refine zi_icmp_gt 38 dX9_makePlain_5 (by decide) (fun c5 => ?_) (fun c5 => ?_)
  · refine zi_iconst (-1) dX9_makePlain_38 (by decide) ?_
    refine zi_iret dX9_makePlain_39 rfl ?_
    exact ⟨_, rfl, rfl, hF⟩
  · exact absurd (by decide) c5
theorem l9_makePlain (hR : zy_r σ 0 fa go) : ∀ f n τ w s x2, n + f = 60 → zy_w τ w s → zt_wd w → zy_S σ τ → zw_W l G (d + 6) mX9_makePlain 2 [some (.ref 168), some (.int (nI n)), x2] [] τ (fun x υ => ∃ y, x = some (.int y) ∧ zy_S σ υ ∧ ((y = -1 ∧ zt_pl fa go f n w s = none) ∨ ∃ n' w' s', zt_pl fa go f n w s = some (n', w', s') ∧ n' ≤ 60 ∧ y = nI n' ∧ zy_w υ w' s' ∧ zt_wd w')) := by
  intro f
  induction f with
  | zero =>
    intro n τ w s x2 hn hW hw hS
    have hR2 : zy_r τ 0 fa go := hR.cg hS.w
    have h13 := hW.1
    refine zi_ild1 dX9_makePlain_2 ?_
    refine zi_bipush (nI 60) dX9_makePlain_3 (by decide) ?_
    refine zi_icmp_gt 38 dX9_makePlain_5 (by decide) (fun c5 => ?_) (fun c5 => ?_)
    · rw [zn_lt (by omega) (by omega)] at c5; omega
    · refine zi_ald0 dX9_makePlain_8 ?_
      refine zi_iconst (nI 0) dX9_makePlain_9 (by decide) ?_
      refine zi_cV1i vmX9_placeAt lkX9_96 dX9_makePlain_10 (by first | assumption | decide) (Nat.le_of_ble_eq_true rfl) (c9_placeAt hW hw.1 hR2) ?_
      rintro _ _ ⟨rfl, rfl⟩
      rw [zp_at_n (by decide)]
      refine zi_ist2 dX9_makePlain_13 (Nat.le_of_ble_eq_true rfl) rfl ?_
      refine zi_ild2 dX9_makePlain_14 ?_
      refine zi_iconst (-1) dX9_makePlain_15 (by decide) ?_
      refine zi_icmp_ne 21 dX9_makePlain_16 (by decide) (fun c16 => ?_) (fun c16 => ?_)
      · rw [zp_oI_m1 (fun k hk => by have := zt_sp_lt hk; omega)] at c16
        obtain ⟨k, hk⟩ : ∃ k, (zt_sp fa w)[0]? = some k := Option.ne_none_iff_exists'.mp c16
        rw [hk, zp_oI_some]
        refine zi_ild1 dX9_makePlain_21 ?_
        refine zi_bipush (nI 60) dX9_makePlain_22 (by decide) ?_
        refine zi_icmp_ge 32 dX9_makePlain_24 (by decide) (fun c24 => ?_) (fun c24 => ?_)
        · refine zi_inc1 (nI 1) dX9_makePlain_32 (by decide) (Nat.le_of_ble_eq_true rfl) rfl ?_
          refine zi_goto 2 dX9_makePlain_35 (by decide) ?_
          rw [nI_add, show n + 1 = 61 by omega]
          refine zw_W.mono (l9_mp61 hS) (fun x υ ⟨y, e1, e2, e3⟩ => ⟨y, e1, e3, Or.inl ⟨e2, zt_pl_0 hk⟩⟩)
        · rw [zn_le (by omega) (by omega)] at c24; omega
      · rw [zp_oI_m1 (fun k hk => by have := zt_sp_lt hk; omega)] at c16
        refine zi_ild1 dX9_makePlain_19 ?_
        refine zi_iret dX9_makePlain_20 rfl ?_
        exact ⟨_, rfl, hS, Or.inr ⟨n, w, s, zt_pl_nil c16, by omega, rfl, hW, hw⟩⟩
  | succ f ih =>
    intro n τ w s x2 hn hW hw hS
    have hR2 : zy_r τ 0 fa go := hR.cg hS.w
    have h13 := hW.1
    refine zi_ild1 dX9_makePlain_2 ?_
    refine zi_bipush (nI 60) dX9_makePlain_3 (by decide) ?_
    refine zi_icmp_gt 38 dX9_makePlain_5 (by decide) (fun c5 => ?_) (fun c5 => ?_)
    · rw [zn_lt (by omega) (by omega)] at c5; omega
    · refine zi_ald0 dX9_makePlain_8 ?_
      refine zi_iconst (nI 0) dX9_makePlain_9 (by decide) ?_
      refine zi_cV1i vmX9_placeAt lkX9_96 dX9_makePlain_10 (by first | assumption | decide) (Nat.le_of_ble_eq_true rfl) (c9_placeAt hW hw.1 hR2) ?_
      rintro _ _ ⟨rfl, rfl⟩
      rw [zp_at_n (by decide)]
      refine zi_ist2 dX9_makePlain_13 (Nat.le_of_ble_eq_true rfl) rfl ?_
      refine zi_ild2 dX9_makePlain_14 ?_
      refine zi_iconst (-1) dX9_makePlain_15 (by decide) ?_
      refine zi_icmp_ne 21 dX9_makePlain_16 (by decide) (fun c16 => ?_) (fun c16 => ?_)
      · rw [zp_oI_m1 (fun k hk => by have := zt_sp_lt hk; omega)] at c16
        obtain ⟨k, hk⟩ : ∃ k, (zt_sp fa w)[0]? = some k := Option.ne_none_iff_exists'.mp c16
        rw [hk, zp_oI_some]
        refine zi_ild1 dX9_makePlain_21 ?_
        refine zi_bipush (nI 60) dX9_makePlain_22 (by decide) ?_
        refine zi_icmp_ge 32 dX9_makePlain_24 (by decide) (fun c24 => ?_) (fun c24 => ?_)
        · rw [zn_le (by omega) (by omega)] at c24; omega
        · refine zi_ald0 dX9_makePlain_27 ?_
          refine zi_ild2 dX9_makePlain_28 ?_
          refine zi_cV1v vmX9_stepAt lkX9_99 dX9_makePlain_29 (by first | assumption | decide) (Nat.le_of_ble_eq_true rfl) (c9_stepAt hW hw hR2 (zt_sp_head hk)) ?_
          rintro τ1 ⟨hT1, hS1⟩
          refine zi_inc1 (nI 1) dX9_makePlain_32 (by decide) (Nat.le_of_ble_eq_true rfl) rfl ?_
          refine zi_goto 2 dX9_makePlain_35 (by decide) ?_
          rw [nI_add, zt_pl_s hk]
          have hb := zt_bi_lt (zt_sp_head hk)
          have hr3 := (hR _ hb.1).2.2.1
          exact ih (n + 1) τ1 _ _ _ (by omega) hT1 (zt_st_wd hw hb.1 (fun q => hr3.mp (by have := hb.2; omega))) (hS.tr hS1)
      · rw [zp_oI_m1 (fun k hk => by have := zt_sp_lt hk; omega)] at c16
        refine zi_ild1 dX9_makePlain_19 ?_
        refine zi_iret dX9_makePlain_20 rfl ?_
        exact ⟨_, rfl, hS, Or.inr ⟨n, w, s, zt_pl_nil c16, by omega, rfl, hW, hw⟩⟩
theorem c9_makePlain (hW : zy_w σ w s) (hR : zy_r σ 0 fa go) (hw : zt_wd w) : zw_Ti l G (d + 6) mX9_makePlain [.ref 168] σ (fun y υ => zy_S σ υ ∧ ((y = -1 ∧ zt_pl fa go 60 0 w s = none) ∨ ∃ n' w' s', zt_pl fa go 60 0 w s = some (n', w', s') ∧ n' ≤ 60 ∧ y = nI n' ∧ zy_w υ w' s' ∧ zt_wd w')) := by
  refine zw_enter2 (L := [some _, none, none]) (by decide) (Nat.le_of_ble_eq_true rfl) rfl ?_
  refine zi_iconst (nI 0) dX9_makePlain_0 (by decide) ?_
  refine zi_ist1 dX9_makePlain_1 (Nat.le_of_ble_eq_true rfl) rfl ?_
  exact l9_makePlain hR 60 0 σ w s none rfl hW hw zy_S.rf
/-- the trees of a stack, turned -/
def zy_ts (w : List Nat) (S : List Nat) : List Nat := (S.map (fun p => zm_r (zm_t w p))).flatten
def zy_tl (w : List Nat) (S : List Nat) : Nat := (S.map (fun p => (zm_t w p).length)).sum
theorem zy_tl_le {w : List Nat} (hw : zt_rd 1 w) : ∀ S : List Nat, (∀ p ∈ S, p < w.length) → S.length ≤ zy_tl w S
  | [], _ => Nat.le_refl _
  | p :: S, h => by
    have ih := zy_tl_le hw S (fun q hq => h q (List.mem_cons_of_mem _ hq))
    have hp := h p List.mem_cons_self
    have h1 : 1 ≤ (zm_t w p).length := by
      rw [zm_t_len]
      exact zt_cn_pos (by rw [List.length_drop]; omega) (by decide)
    unfold zy_tl at ih ⊢
    rw [List.map_cons, List.sum_cons, List.length_cons]
    omega
theorem zl_get_cons {p : Nat} {S : List Nat} {j : Nat} (hj : j < S.length) : (p :: S).getD (S.length - j) 0 = S.getD (S.length - 1 - j) 0 := by
  rw [show S.length - j = (S.length - 1 - j) + 1 by omega, List.getD_cons_succ]
theorem l9_turn (hw : zt_wd w) : ∀ f S τ v x2, zy_tl w S ≤ f → (∀ p ∈ S, p < w.length) → (∀ j, j < S.length → τ.1 (168 + 8) j = nI (S.getD (S.length - 1 - j) 0)) → v.length + zy_tl w S = w.length → v ++ zy_ts w S = zm_r w → zy_w τ w s → zy_o τ v → zy_S σ τ → zw_W l G (d + 2) mX9_turn 14 [some (.ref 168), some (.int (nI S.length)), x2] [] τ (fun r υ => r = none ∧ zy_w υ (zm_r w) s ∧ zy_S σ υ) := by
  intro f
  induction f with
  | zero =>
    intro S τ v x2 hf hp hst hl hv hW hO hS
    have hS0 := zy_tl_le hw.1 S hp
    obtain rfl : S = [] := List.length_eq_zero_iff.mp (by omega)
    have hv : v = zm_r w := by rw [← hv]; exact (List.append_nil v).symm
    subst hv
    have hr := zm_r_wd hw
    refine zi_ild1 dX9_turn_14 ?_
    refine zi_if_le 77 dX9_turn_15 (by decide) (fun c15 => ?_) (fun c15 => ?_)
    · refine zi_ald0 dX9_turn_77 ?_
      refine zi_cV0v vmX9_takeOther lkX9_93 dX9_turn_78 (by first | assumption | decide) (Nat.le_of_ble_eq_true rfl) (c9_takeOther hr.2.2 hr.2.1 hW.2.2.2.1 hO) ?_
      rintro τ1 ⟨hW1, hS1⟩
      refine zi_ret dX9_turn_81 rfl ?_
      exact ⟨rfl, hW1, hS.tr hS1⟩
    · exact absurd (by decide) c15
  | succ f ih =>
    intro S τ v x2 hf hp hst hl hv hW hO hS
    cases S with
    | nil =>
      have hv : v = zm_r w := by rw [← hv]; exact (List.append_nil v).symm
      subst hv
      have hr := zm_r_wd hw
      refine zi_ild1 dX9_turn_14 ?_
      refine zi_if_le 77 dX9_turn_15 (by decide) (fun c15 => ?_) (fun c15 => ?_)
      · refine zi_ald0 dX9_turn_77 ?_
        refine zi_cV0v vmX9_takeOther lkX9_93 dX9_turn_78 (by first | assumption | decide) (Nat.le_of_ble_eq_true rfl) (c9_takeOther hr.2.2 hr.2.1 hW.2.2.2.1 hO) ?_
        rintro τ1 ⟨hW1, hS1⟩
        refine zi_ret dX9_turn_81 rfl ?_
        exact ⟨rfl, hW1, hS.tr hS1⟩
      · exact absurd (by decide) c15
    | cons p S =>
      have h13 := hw.2.2
      have hS0 := zy_tl_le hw.1 (p :: S) hp
      have hpl := hp p List.mem_cons_self
      have hpS : ∀ q ∈ S, q < w.length := fun q hq => hp q (List.mem_cons_of_mem _ hq)
      have htop : τ.1 (168 + 8) S.length = nI p := by
        have := hst S.length (by rw [List.length_cons]; omega)
        rw [this, List.length_cons, show S.length + 1 - 1 - S.length = 0 by omega]; rfl
      have hst' : ∀ j, j < S.length → τ.1 (168 + 8) j = nI (S.getD (S.length - 1 - j) 0) := fun j hj => by
        rw [hst j (by rw [List.length_cons]; omega), List.length_cons, show S.length + 1 - 1 - j = S.length - j by omega, zl_get_cons hj]
      have etl : zy_tl w (p :: S) = (zm_t w p).length + zy_tl w S := by unfold zy_tl; rw [List.map_cons, List.sum_cons]
      have ets : zy_ts w (p :: S) = zm_r (zm_t w p) ++ zy_ts w S := by unfold zy_ts; rw [List.map_cons, List.flatten_cons]
      rw [List.length_cons] at hS0
      have hx := zl_getD_lt hW.2.1 p
      refine zi_ild1 dX9_turn_14 ?_
      refine zi_if_le 77 dX9_turn_15 (by decide) (fun c15 => ?_) (fun c15 => ?_)
      · rw [zn_0, zn_le (by rw [List.length_cons]; omega) (by omega), List.length_cons] at c15; omega
      · refine zi_inc1 (-1) dX9_turn_18 (by decide) (Nat.le_of_ble_eq_true rfl) rfl ?_
        rw [List.length_cons, pk_m1]
        refine zi_ald0 dX9_turn_21 ?_
        refine zi_getR dX9_turn_22 flX9_35 rfl (by first | assumption | decide) ?_
        refine zi_ild1 dX9_turn_25 ?_
        refine zi_ialdN S.length dX9_turn_26 (by first | assumption | decide) rfl (zy_b8 (by omega)) (by decide) ?_
        rw [htop]
        refine zi_ist2 dX9_turn_27 (Nat.le_of_ble_eq_true rfl) rfl ?_
        refine zi_ald0 dX9_turn_28 ?_
        refine zi_ald0 dX9_turn_29 ?_
        refine zi_getR dX9_turn_30 flX9_29 rfl (by first | assumption | decide) ?_
        refine zi_ild2 dX9_turn_33 ?_
        refine zi_ialdN p dX9_turn_34 (by first | assumption | decide) rfl (zy_b6 (by omega)) (by decide) ?_
        rw [hW.2.2.2.2 p hpl]
        refine zi_cV1v vmX9_addOther lkX9_89 dX9_turn_35 (by first | assumption | decide) (Nat.le_of_ble_eq_true rfl) (c9_addOther hW hO (by omega)) ?_
        rintro τ1 ⟨hW1, hO1, hS1, hK1⟩
        have lv : (v ++ [w.getD p 0]).length = v.length + 1 := by rw [List.length_append]; rfl
        replace hS1 := hS.tr hS1
        refine zi_ald0 dX9_turn_38 ?_
        refine zi_getR dX9_turn_39 flX9_29 rfl (by first | assumption | decide) ?_
        refine zi_ild2 dX9_turn_42 ?_
        refine zi_ialdN p dX9_turn_43 (by first | assumption | decide) rfl (zy_b6 (by omega)) (by decide) ?_
        rw [hW1.2.2.2.2 p hpl]
        refine zi_if_eq 74 dX9_turn_44 (by decide) (fun c44 => ?_) (fun c44 => ?_)
        · refine zi_goto 14 dX9_turn_74 (by decide) ?_
          first
          | (rw [zn_0, zn_eq (by omega) (by omega)] at c44
             have et := zm_t_leaf hpl c44
             rw [et] at etl ets
             refine ih S τ1 (v ++ [w.getD p 0]) _ ?_ hpS (fun j hj => by rw [hK1]; exact hst' j hj) ?_ ?_ hW1 hO1 hS1
             · rw [etl] at hf; simp only [List.length_cons, List.length_nil] at hf; omega
             · rw [etl] at hl; simp only [List.length_cons, List.length_nil] at hl; rw [lv]; omega
             · rw [← hv, ets, c44, List.append_assoc]; rfl)
          | (rw [nI_add]
             refine ih (zh_p w (p + 1) 1 :: (p + 1) :: S) _ (v ++ [w.getD p 0]) _ ?_ ?_ (fun j hj => ?_) ?_ ?_ (hW2.ar (by rw [zs_obj (by decide)]) (by rw [zs_obj (by decide)]) (zs_obj (by decide))) ⟨hO1.1, by rw [zs_obj (by decide), zs_obj (by decide)]; exact hO1.2.1, fun j hj => by rw [zs_obj (by decide), zs_obj (by decide)]; exact hO1.2.2 j hj⟩ ((hS1.arr (by omega)).arr (by omega))
             · rw [etl] at hf
               unfold zy_tl at hf ⊢
               rw [List.map_cons, List.map_cons, List.sum_cons, List.sum_cons]
               omega
             · intro q hq
               rcases List.mem_cons.mp hq with rfl | hq
               · exact hr1
               · rcases List.mem_cons.mp hq with rfl | hq
                 · omega
                 · exact hpS q hq
             · simp only [List.length_cons] at hj ⊢
               by_cases e1 : j = S.length + 1
               · rw [e1, zs_same, show S.length + 1 + 1 - 1 - (S.length + 1) = 0 by omega]; rfl
               · rw [zs_slot e1]
                 by_cases e2 : j = S.length
                 · rw [e2, zs_same, show S.length + 1 + 1 - 1 - S.length = 1 by omega]; rfl
                 · rw [zs_slot e2, hK1, hst' j (by omega), show S.length + 1 + 1 - 1 - j = (S.length - 1 - j) + 1 + 1 by omega, List.getD_cons_succ, List.getD_cons_succ]
             · rw [etl] at hl
               unfold zy_tl at hl ⊢
               rw [List.map_cons, List.map_cons, List.sum_cons, List.sum_cons, lv]
               omega
             · rw [← hv, ets, en]
               unfold zy_ts
               simp only [List.map_cons, List.flatten_cons, List.append_assoc, List.cons_append, List.nil_append])
        · rw [zn_0, zn_eq (by omega) (by omega)] at c44
          obtain ⟨m0, hm0⟩ := zt_rd_pos1 hw.1 hpl
          obtain ⟨m, hm, -⟩ := zt_node_rd hm0 hpl c44
          obtain ⟨en, eln⟩ := zm_t_node hpl c44 (show zt_rd (m + 2) (w.drop (p + 1)) by rw [Nat.add_comm]; exact hm)
          have hl1 := zt_rd_ne (show zt_rd (1 + m + 1) (w.drop (p + 1)) by rw [show 1 + m + 1 = 2 + m by omega]; exact hm)
          rw [List.length_drop] at hl1
          have hr1 := (zh_lt hm (show p + 1 ≤ w.length by omega) (q := 1) (by omega)).1
          refine zi_ald0 dX9_turn_47 ?_
          refine zi_getR dX9_turn_48 flX9_35 rfl (by first | assumption | decide) ?_
          refine zi_ild1 dX9_turn_51 ?_
          refine zi_ild2 dX9_turn_52 ?_
          refine zi_iconst (nI 1) dX9_turn_53 (by decide) ?_
          refine zi_iadd dX9_turn_54 ?_
          rw [nI_add]
          refine zi_iastN S.length dX9_turn_55 (by first | assumption | decide) rfl (zy_b8 (by omega)) (by decide) ?_
          refine zi_ald0 dX9_turn_56 ?_
          refine zi_getR dX9_turn_57 flX9_35 rfl (by first | assumption | decide) ?_
          refine zi_ild1 dX9_turn_60 ?_
          refine zi_iconst (nI 1) dX9_turn_61 (by decide) ?_
          refine zi_iadd dX9_turn_62 ?_
          refine zi_ald0 dX9_turn_63 ?_
          refine zi_ild2 dX9_turn_64 ?_
          refine zi_iconst (nI 1) dX9_turn_65 (by decide) ?_
          refine zi_iadd dX9_turn_66 ?_
          rw [nI_add, nI_add]
          have hW2 : zy_w (zw_pI τ1 (168 + 8) S.length (nI (p + 1))) w s := hW1.ar (by rw [zs_obj (by decide)]) (by rw [zs_obj (by decide)]) (zs_obj (by decide))
          refine zi_cV1i vmX9_behind lkX9_68 dX9_turn_67 (by first | assumption | decide) (Nat.le_of_ble_eq_true rfl) (c9_behind hW2 (show p + 1 ≤ w.length by omega) (show zt_rd (1 + (m + 1)) (w.drop (p + 1)) by rw [show 1 + (m + 1) = 2 + m by omega]; exact hm)) ?_
          rintro _ _ ⟨rfl, rfl⟩
          rw [show p + 1 + zt_cn 1 (w.drop (p + 1)) = zh_p w (p + 1) 1 from rfl]
          refine zi_iastN (S.length + 1) dX9_turn_70 (by first | assumption | decide) rfl (zy_b8 (by omega)) (by decide) ?_
          refine zi_inc1 (nI 2) dX9_turn_71 (by decide) (Nat.le_of_ble_eq_true rfl) rfl ?_
          refine zi_goto 14 dX9_turn_74 (by decide) ?_
          first
          | (rw [zn_0, zn_eq (by omega) (by omega)] at c44
             have et := zm_t_leaf hpl c44
             rw [et] at etl ets
             refine ih S τ1 (v ++ [w.getD p 0]) _ ?_ hpS (fun j hj => by rw [hK1]; exact hst' j hj) ?_ ?_ hW1 hO1 hS1
             · rw [etl] at hf; simp only [List.length_cons, List.length_nil] at hf; omega
             · rw [etl] at hl; simp only [List.length_cons, List.length_nil] at hl; rw [lv]; omega
             · rw [← hv, ets, c44, List.append_assoc]; rfl)
          | (rw [nI_add]
             refine ih (zh_p w (p + 1) 1 :: (p + 1) :: S) _ (v ++ [w.getD p 0]) _ ?_ ?_ (fun j hj => ?_) ?_ ?_ (hW2.ar (by rw [zs_obj (by decide)]) (by rw [zs_obj (by decide)]) (zs_obj (by decide))) ⟨hO1.1, by rw [zs_obj (by decide), zs_obj (by decide)]; exact hO1.2.1, fun j hj => by rw [zs_obj (by decide), zs_obj (by decide)]; exact hO1.2.2 j hj⟩ ((hS1.arr (by omega)).arr (by omega))
             · rw [etl] at hf
               unfold zy_tl at hf ⊢
               rw [List.map_cons, List.map_cons, List.sum_cons, List.sum_cons]
               omega
             · intro q hq
               rcases List.mem_cons.mp hq with rfl | hq
               · exact hr1
               · rcases List.mem_cons.mp hq with rfl | hq
                 · omega
                 · exact hpS q hq
             · simp only [List.length_cons] at hj ⊢
               by_cases e1 : j = S.length + 1
               · rw [e1, zs_same, show S.length + 1 + 1 - 1 - (S.length + 1) = 0 by omega]; rfl
               · rw [zs_slot e1]
                 by_cases e2 : j = S.length
                 · rw [e2, zs_same, show S.length + 1 + 1 - 1 - S.length = 1 by omega]; rfl
                 · rw [zs_slot e2, hK1, hst' j (by omega), show S.length + 1 + 1 - 1 - j = (S.length - 1 - j) + 1 + 1 by omega, List.getD_cons_succ, List.getD_cons_succ]
             · rw [etl] at hl
               unfold zy_tl at hl ⊢
               rw [List.map_cons, List.map_cons, List.sum_cons, List.sum_cons, lv]
               omega
             · rw [← hv, ets, en]
               unfold zy_ts
               simp only [List.map_cons, List.flatten_cons, List.append_assoc, List.cons_append, List.nil_append])
theorem c9_turn (hW : zy_w σ w s) (hw : zt_wd w) : zw_Tv l G (d + 2) mX9_turn [.ref 168] σ (fun υ => zy_w υ (zm_r w) s ∧ zy_S σ υ) := by
  have hpos := hw.pos
  refine zw_enter2 (L := [some _, none, none]) (by decide) (Nat.le_of_ble_eq_true rfl) rfl ?_
  refine zi_iconst (nI 1) dX9_turn_0 (by decide) ?_
  refine zi_ist1 dX9_turn_1 (Nat.le_of_ble_eq_true rfl) rfl ?_
  refine zi_ald0 dX9_turn_2 ?_
  refine zi_getR dX9_turn_3 flX9_35 rfl (by first | assumption | decide) ?_
  refine zi_iconst (nI 0) dX9_turn_6 (by decide) ?_
  refine zi_iconst (nI 0) dX9_turn_7 (by decide) ?_
  refine zi_iastN 0 dX9_turn_8 (by first | assumption | decide) rfl (zy_b8 (by decide)) (by decide) ?_
  refine zi_ald0 dX9_turn_9 ?_
  refine zi_iconst (nI 0) dX9_turn_10 (by decide) ?_
  refine zi_putI dX9_turn_11 flX9_83 fp_9_15 rfl (by first | assumption | decide) ?_
  refine l9_turn hw w.length [0] _ [] none ?_ ?_ (fun j hj => ?_) ?_ ?_ (hW.ar (by rw [zs_slot (by decide), zs_obj (by decide)]) (by rw [zs_slot (by decide), zs_obj (by decide)]) (by rw [zs_obj (by decide), zs_obj (by decide)])) ⟨by decide, zs_same _ _ _ _, fun i hi => absurd hi (Nat.not_lt_zero _)⟩ ((zy_S.rf.arr (by omega)).fld (by omega))
  · unfold zy_tl; rw [List.map_cons, List.map_nil, List.sum_cons, List.sum_nil, zm_t_all hw.1]; omega
  · intro p hp; rw [List.mem_singleton.mp hp]; omega
  · have hj : j < 1 := hj
    obtain rfl : j = 0 := by omega
    rw [zs_obj (by decide), zs_same]; rfl
  · unfold zy_tl; rw [List.map_cons, List.map_nil, List.sum_cons, List.sum_nil, zm_t_all hw.1]; simp
  · unfold zy_ts; rw [List.map_cons, List.map_nil, List.flatten_cons, List.flatten_nil, zm_t_all hw.1]; simp
theorem l9_height_in (hW : zy_w σ w s) (hw : zt_rd 1 w) {k : Nat} (hk : k < w.length) (h0 : w.getD k 0 ≠ 0) {m : Int32} {P : Option Value → zw_S → Prop} (hK : zw_W l G (d + 2) mX9_height 66 [some (.ref 168), some (.int m), some (.int (nI k)), some (.int (nI (zy_h w k (k + 1)))), some (.int (nI (k + 1)))] [] σ P) : ∀ n i, i + n = k + 1 → zw_W l G (d + 2) mX9_height 17 [some (.ref 168), some (.int m), some (.int (nI k)), some (.int (nI (zy_h w k i))), some (.int (nI i))] [] σ P := by
  have h13 := hW.1
  intro n
  induction n with
  | zero =>
    intro i hi
    obtain rfl : i = k + 1 := by omega
    refine zi_ild4 dX9_height_17 ?_
    refine zi_ild2 dX9_height_19 ?_
    refine zi_icmp_gt 66 dX9_height_20 (by decide) (fun c20 => ?_) (fun c20 => ?_)
    · exact hK
    · rw [zn_lt (by omega) (by omega)] at c20; omega
  | succ n ih =>
    intro i hi
    have hx := zl_getD_lt hW.2.1 k
    have hxi := zl_getD_lt hW.2.1 i
    obtain ⟨m1, hm1⟩ := zt_rd_pos1 hw (show i < w.length by omega)
    have hle := zt_cn_le (w.drop i) 1
    rw [List.length_drop] at hle
    refine zi_ild4 dX9_height_17 ?_
    refine zi_ild2 dX9_height_19 ?_
    refine zi_icmp_gt 66 dX9_height_20 (by decide) (fun c20 => ?_) (fun c20 => ?_)
    · rw [zn_lt (by omega) (by omega)] at c20; omega
    · refine zi_ald0 dX9_height_23 ?_
      refine zi_getR dX9_height_24 flX9_29 rfl (by first | assumption | decide) ?_
      refine zi_ild2 dX9_height_27 ?_
      refine zi_ialdN k dX9_height_28 (by first | assumption | decide) rfl (zy_b6 (by omega)) (by decide) ?_
      rw [hW.2.2.2.2 k hk]
      refine zi_if_eq 66 dX9_height_29 (by decide) (fun c29 => ?_) (fun c29 => ?_)
      · rw [zn_0, zn_eq (by omega) (by omega)] at c29; exact absurd c29 h0
      · refine zi_ild3 dX9_height_32 ?_
        refine zi_ald0 dX9_height_33 ?_
        refine zi_getR dX9_height_34 flX9_29 rfl (by first | assumption | decide) ?_
        refine zi_ild4 dX9_height_37 ?_
        refine zi_ialdN i dX9_height_39 (by first | assumption | decide) rfl (zy_b6 (by omega)) (by decide) ?_
        rw [hW.2.2.2.2 i (by omega)]
        refine zi_if_eq 57 dX9_height_40 (by decide) (fun c40 => ?_) (fun c40 => ?_)
        · have hb : zy_hb w k i = false := by
            unfold zy_hb
            first
            | (rw [zn_le (by omega) (by omega)] at c50
               rw [Bool.and_eq_false_iff]; right; simp only [decide_eq_false_iff_not]; omega)
            | (rw [zn_0, zn_eq (by omega) (by omega)] at c40
               rw [c40]; rfl)
          refine zi_iconst (nI 0) dX9_height_57 (by decide) ?_
          refine zi_iadd dX9_height_58 ?_
          refine zi_ist3 dX9_height_59 (Nat.le_of_ble_eq_true rfl) rfl ?_
          refine zi_inc4 (nI 1) dX9_height_60 (by decide) (Nat.le_of_ble_eq_true rfl) rfl ?_
          refine zi_goto 17 dX9_height_63 (by decide) ?_
          rw [nI_add, nI_add]
          have := ih (i + 1) (by omega)
          first
          | (rw [show zy_h w k (i + 1) = zy_h w k i + 1 from zl_fs hb] at this; exact this)
          | (rw [show zy_h w k (i + 1) = zy_h w k i from zl_fn hb] at this; exact this)
        · rw [zn_0, zn_eq (by omega) (by omega)] at c40
          refine zi_ald0 dX9_height_43 ?_
          refine zi_ild4 dX9_height_44 ?_
          refine zi_cV1i vmX9_behind lkX9_68 dX9_height_46 (by first | assumption | decide) (Nat.le_of_ble_eq_true rfl) (c9_behind hW (show i ≤ w.length by omega) hm1) ?_
          rintro _ _ ⟨rfl, rfl⟩
          refine zi_ild2 dX9_height_49 ?_
          refine zi_icmp_le 57 dX9_height_50 (by decide) (fun c50 => ?_) (fun c50 => ?_)
          · have hb : zy_hb w k i = false := by
              unfold zy_hb
              first
              | (rw [zn_le (by omega) (by omega)] at c50
                 rw [Bool.and_eq_false_iff]; right; simp only [decide_eq_false_iff_not]; omega)
              | (rw [zn_0, zn_eq (by omega) (by omega)] at c40
                 rw [c40]; rfl)
            refine zi_iconst (nI 0) dX9_height_57 (by decide) ?_
            refine zi_iadd dX9_height_58 ?_
            refine zi_ist3 dX9_height_59 (Nat.le_of_ble_eq_true rfl) rfl ?_
            refine zi_inc4 (nI 1) dX9_height_60 (by decide) (Nat.le_of_ble_eq_true rfl) rfl ?_
            refine zi_goto 17 dX9_height_63 (by decide) ?_
            rw [nI_add, nI_add]
            have := ih (i + 1) (by omega)
            first
            | (rw [show zy_h w k (i + 1) = zy_h w k i + 1 from zl_fs hb] at this; exact this)
            | (rw [show zy_h w k (i + 1) = zy_h w k i from zl_fn hb] at this; exact this)
          · rw [zn_le (by omega) (by omega)] at c50
            have hb : zy_hb w k i = true := by unfold zy_hb; simp only [Bool.and_eq_true, bne_iff_ne, decide_eq_true_eq]; exact ⟨c40, by omega⟩
            refine zi_iconst (nI 1) dX9_height_53 (by decide) ?_
            refine zi_goto 58 dX9_height_54 (by decide) ?_
            refine zi_iadd dX9_height_58 ?_
            refine zi_ist3 dX9_height_59 (Nat.le_of_ble_eq_true rfl) rfl ?_
            refine zi_inc4 (nI 1) dX9_height_60 (by decide) (Nat.le_of_ble_eq_true rfl) rfl ?_
            refine zi_goto 17 dX9_height_63 (by decide) ?_
            rw [nI_add, nI_add]
            have := ih (i + 1) (by omega)
            first
            | (rw [show zy_h w k (i + 1) = zy_h w k i + 1 from zl_fs hb] at this; exact this)
            | (rw [show zy_h w k (i + 1) = zy_h w k i from zl_fn hb] at this; exact this)
theorem l9_height (hW : zy_w σ w s) (hw : zt_rd 1 w) : ∀ n k x3 x4, k + n = w.length → zw_n2 x3 = true → zw_n2 x4 = true → zw_W l G (d + 2) mX9_height 4 [some (.ref 168), some (.int (nI (zh_m w k))), some (.int (nI k)), x3, x4] [] σ (fun x τ => ∃ y, x = some (.int y) ∧ σ = τ ∧ y = nI (zh_m w w.length)) := by
  have h13 := hW.1
  intro n
  induction n with
  | zero =>
    intro k x3 x4 hk n3 n4
    obtain rfl : k = w.length := by omega
    refine zi_ild2 dX9_height_4 ?_
    refine zi_ald0 dX9_height_5 ?_
    refine zi_getI dX9_height_6 flX9_58 rfl (by first | assumption | decide) ?_
    refine zi_icmp_ge 83 dX9_height_9 (by decide) (fun c9 => ?_) (fun c9 => ?_)
    · refine zi_ild1 dX9_height_83 ?_
      refine zi_iret dX9_height_84 rfl ?_
      exact ⟨_, rfl, rfl, rfl⟩
    · rw [hW.2.2.1, zn_le (by omega) (by omega)] at c9; omega
  | succ n ih =>
    intro k x3 x4 hk n3 n4
    have hx := zl_getD_lt hW.2.1 k
    have hm := zh_m_le w k
    by_cases h0 : w.getD k 0 = 0
    · have e : zh_m w (k + 1) = zh_m w k := by rw [zh_m, if_pos h0]
      refine zi_ild2 dX9_height_4 ?_
      refine zi_ald0 dX9_height_5 ?_
      refine zi_getI dX9_height_6 flX9_58 rfl (by first | assumption | decide) ?_
      refine zi_icmp_ge 83 dX9_height_9 (by decide) (fun c9 => ?_) (fun c9 => ?_)
      · rw [hW.2.2.1, zn_le (by omega) (by omega)] at c9; omega
      · refine zi_iconst (nI 0) dX9_height_12 (by decide) ?_
        refine zi_ist3 dX9_height_13 (Nat.le_of_ble_eq_true rfl) rfl ?_
        refine zi_iconst (nI 0) dX9_height_14 (by decide) ?_
        refine zi_ist4 dX9_height_15 (Nat.le_of_ble_eq_true rfl) rfl ?_
        refine zi_ild4 dX9_height_17 ?_
        refine zi_ild2 dX9_height_19 ?_
        refine zi_icmp_gt 66 dX9_height_20 (by decide) (fun c20 => ?_) (fun c20 => ?_)
        · rw [zn_lt (by omega) (by omega)] at c20; omega
        · refine zi_ald0 dX9_height_23 ?_
          refine zi_getR dX9_height_24 flX9_29 rfl (by first | assumption | decide) ?_
          refine zi_ild2 dX9_height_27 ?_
          refine zi_ialdN k dX9_height_28 (by first | assumption | decide) rfl (zy_b6 (by omega)) (by decide) ?_
          rw [hW.2.2.2.2 k (by omega), h0]
          refine zi_if_eq 66 dX9_height_29 (by decide) (fun c29 => ?_) (fun c29 => ?_)
          · refine zi_ild3 dX9_height_66 ?_
            refine zi_ild1 dX9_height_67 ?_
            refine zi_icmp_le 75 dX9_height_68 (by decide) (fun c68 => ?_) (fun c68 => ?_)
            · refine zi_ild1 dX9_height_75 ?_
              refine zi_ist1 dX9_height_76 (Nat.le_of_ble_eq_true rfl) rfl ?_
              refine zi_inc2 (nI 1) dX9_height_77 (by decide) (Nat.le_of_ble_eq_true rfl) rfl ?_
              refine zi_goto 4 dX9_height_80 (by decide) ?_
              rw [nI_add, ← e]
              exact ih (k + 1) _ _ (by omega) rfl rfl
            · rw [zn_le (by omega) (by omega)] at c68; omega
          · exact absurd rfl c29
    · have e : zh_m w (k + 1) = max (zh_m w k) (zy_h w k (k + 1)) := by rw [zh_m, if_neg h0, zy_h_S hw (by omega) h0]
      have hh : zy_h w k (k + 1) ≤ k + 1 := zl_fle
      refine zi_ild2 dX9_height_4 ?_
      refine zi_ald0 dX9_height_5 ?_
      refine zi_getI dX9_height_6 flX9_58 rfl (by first | assumption | decide) ?_
      refine zi_icmp_ge 83 dX9_height_9 (by decide) (fun c9 => ?_) (fun c9 => ?_)
      · rw [hW.2.2.1, zn_le (by omega) (by omega)] at c9; omega
      · refine zi_iconst (nI 0) dX9_height_12 (by decide) ?_
        refine zi_ist3 dX9_height_13 (Nat.le_of_ble_eq_true rfl) rfl ?_
        refine zi_iconst (nI 0) dX9_height_14 (by decide) ?_
        refine zi_ist4 dX9_height_15 (Nat.le_of_ble_eq_true rfl) rfl ?_
        refine l9_height_in hW hw (show k < w.length by omega) h0 ?_ (k + 1) 0 (by omega)
        refine zi_ild3 dX9_height_66 ?_
        refine zi_ild1 dX9_height_67 ?_
        refine zi_icmp_le 75 dX9_height_68 (by decide) (fun c68 => ?_) (fun c68 => ?_)
        · rw [zn_le (by omega) (by omega)] at c68
          refine zi_ild1 dX9_height_75 ?_
          refine zi_ist1 dX9_height_76 (Nat.le_of_ble_eq_true rfl) rfl ?_
          refine zi_inc2 (nI 1) dX9_height_77 (by decide) (Nat.le_of_ble_eq_true rfl) rfl ?_
          refine zi_goto 4 dX9_height_80 (by decide) ?_
          have := ih (k + 1) (some (.int (nI (zy_h w k (k + 1))))) (some (.int (nI (k + 1)))) (by omega) rfl rfl
          rw [nI_add]
          first
          | (rw [e, show max (zh_m w k) (zy_h w k (k + 1)) = zh_m w k by omega] at this; exact this)
          | (rw [e, show max (zh_m w k) (zy_h w k (k + 1)) = zy_h w k (k + 1) by omega] at this; exact this)
        · rw [zn_le (by omega) (by omega)] at c68
          refine zi_ild3 dX9_height_71 ?_
          refine zi_goto 76 dX9_height_72 (by decide) ?_
          refine zi_ist1 dX9_height_76 (Nat.le_of_ble_eq_true rfl) rfl ?_
          refine zi_inc2 (nI 1) dX9_height_77 (by decide) (Nat.le_of_ble_eq_true rfl) rfl ?_
          refine zi_goto 4 dX9_height_80 (by decide) ?_
          have := ih (k + 1) (some (.int (nI (zy_h w k (k + 1))))) (some (.int (nI (k + 1)))) (by omega) rfl rfl
          rw [nI_add]
          first
          | (rw [e, show max (zh_m w k) (zy_h w k (k + 1)) = zh_m w k by omega] at this; exact this)
          | (rw [e, show max (zh_m w k) (zy_h w k (k + 1)) = zy_h w k (k + 1) by omega] at this; exact this)
theorem c9_height (hW : zy_w σ w s) (hw : zt_rd 1 w) : zw_Ti l G (d + 2) mX9_height [.ref 168] σ (fun x τ => σ = τ ∧ x = nI (zh_m w w.length)) := by
  refine zw_enter2 (L := [some _, none, none, none, none]) (by decide) (Nat.le_of_ble_eq_true rfl) rfl ?_
  refine zi_iconst (nI 0) dX9_height_0 (by decide) ?_
  refine zi_ist1 dX9_height_1 (Nat.le_of_ble_eq_true rfl) rfl ?_
  refine zi_iconst (nI 0) dX9_height_2 (by decide) ?_
  refine zi_ist2 dX9_height_3 (Nat.le_of_ble_eq_true rfl) rfl ?_
  exact l9_height hW hw w.length 0 none none (by omega) rfl rfl
theorem l9_isTreeWord (hW : zy_w σ w s) : ∀ n i q, i + n = w.length → q ≤ i + 1 → zw_W l G (d + 1) mX9_isTreeWord 4 [some (.ref 168), some (.int (nI q)), some (.int (nI i))] [] σ (fun x τ => ∃ y, x = some (.int y) ∧ σ = τ ∧ y = if zt_rdb q (w.drop i) then nI 1 else nI 0) := by
  have h13 := hW.1
  intro n
  induction n with
  | zero =>
    intro i q hi hq
    rw [List.drop_of_length_le (by omega)]
    refine zi_ild2 dX9_isTreeWord_4 ?_
    refine zi_ald0 dX9_isTreeWord_5 ?_
    refine zi_getI dX9_isTreeWord_6 flX9_58 rfl (by first | assumption | decide) ?_
    refine zi_icmp_ge 41 dX9_isTreeWord_9 (by decide) (fun c9 => ?_) (fun c9 => ?_)
    · refine zi_ild1 dX9_isTreeWord_41 ?_
      refine zi_if_ne 49 dX9_isTreeWord_42 (by decide) (fun c42 => ?_) (fun c42 => ?_)
      · rw [zn_0, zn_eq (by omega) (by omega)] at c42
        refine zi_iconst (nI 0) dX9_isTreeWord_49 (by decide) ?_
        refine zi_zret dX9_isTreeWord_50 rfl (by decide) ?_
        refine ⟨_, rfl, rfl, ?_⟩
        first
        | (rw [c42]; rfl)
        | (obtain ⟨r, rfl⟩ : ∃ r, q = r + 1 := ⟨q - 1, by omega⟩
           rfl)
      · rw [zn_0, zn_eq (by omega) (by omega)] at c42
        refine zi_iconst (nI 1) dX9_isTreeWord_45 (by decide) ?_
        refine zi_goto 50 dX9_isTreeWord_46 (by decide) ?_
        refine zi_zret dX9_isTreeWord_50 rfl (by decide) ?_
        refine ⟨_, rfl, rfl, ?_⟩
        first
        | (rw [c42]; rfl)
        | (obtain ⟨r, rfl⟩ : ∃ r, q = r + 1 := ⟨q - 1, by omega⟩
           rfl)
    · rw [hW.2.2.1, zn_le (by omega) (by omega)] at c9; omega
  | succ n ih =>
    intro i q hi hq
    have hx := zl_getD_lt hW.2.1 i
    have hd := zl_drop (show i < w.length by omega)
    refine zi_ild2 dX9_isTreeWord_4 ?_
    refine zi_ald0 dX9_isTreeWord_5 ?_
    refine zi_getI dX9_isTreeWord_6 flX9_58 rfl (by first | assumption | decide) ?_
    refine zi_icmp_ge 41 dX9_isTreeWord_9 (by decide) (fun c9 => ?_) (fun c9 => ?_)
    · rw [hW.2.2.1, zn_le (by omega) (by omega)] at c9; omega
    · refine zi_ild1 dX9_isTreeWord_12 ?_
      refine zi_if_ne 18 dX9_isTreeWord_13 (by decide) (fun c13 => ?_) (fun c13 => ?_)
      · rw [zn_0, zn_eq (by omega) (by omega)] at c13
        obtain ⟨r, rfl⟩ : ∃ r, q = r + 1 := ⟨q - 1, by omega⟩
        refine zi_ild1 dX9_isTreeWord_18 ?_
        refine zi_ald0 dX9_isTreeWord_19 ?_
        refine zi_getR dX9_isTreeWord_20 flX9_29 rfl (by first | assumption | decide) ?_
        refine zi_ild2 dX9_isTreeWord_23 ?_
        refine zi_ialdN i dX9_isTreeWord_24 (by first | assumption | decide) rfl (zy_b6 (by omega)) (by decide) ?_
        rw [hW.2.2.2.2 i (by omega)]
        refine zi_if_ne 32 dX9_isTreeWord_25 (by decide) (fun c25 => ?_) (fun c25 => ?_)
        · rw [zn_0, zn_eq (by omega) (by omega)] at c25
          obtain ⟨x, hxx⟩ : ∃ x, w.getD i 0 = x + 1 := ⟨w.getD i 0 - 1, by omega⟩
          rw [hxx] at hd
          refine zi_iconst (nI 1) dX9_isTreeWord_32 (by decide) ?_
          refine zi_iadd dX9_isTreeWord_33 ?_
          first | rw [pk_m1] | rw [nI_add]
          refine zi_ist1 dX9_isTreeWord_34 (Nat.le_of_ble_eq_true rfl) rfl ?_
          refine zi_inc2 (nI 1) dX9_isTreeWord_35 (by decide) (Nat.le_of_ble_eq_true rfl) rfl ?_
          refine zi_goto 4 dX9_isTreeWord_38 (by decide) ?_
          rw [nI_add, hd]
          first
          | exact ih (i + 1) r (by omega) (by omega)
          | exact ih (i + 1) (r + 2) (by omega) (by omega)
        · rw [zn_0, zn_eq (by omega) (by omega)] at c25
          rw [c25] at hd
          refine zi_iconst (-1) dX9_isTreeWord_28 (by decide) ?_
          refine zi_goto 33 dX9_isTreeWord_29 (by decide) ?_
          refine zi_iadd dX9_isTreeWord_33 ?_
          first | rw [pk_m1] | rw [nI_add]
          refine zi_ist1 dX9_isTreeWord_34 (Nat.le_of_ble_eq_true rfl) rfl ?_
          refine zi_inc2 (nI 1) dX9_isTreeWord_35 (by decide) (Nat.le_of_ble_eq_true rfl) rfl ?_
          refine zi_goto 4 dX9_isTreeWord_38 (by decide) ?_
          rw [nI_add, hd]
          first
          | exact ih (i + 1) r (by omega) (by omega)
          | exact ih (i + 1) (r + 2) (by omega) (by omega)
      · refine zi_iconst (nI 0) dX9_isTreeWord_16 (by decide) ?_
        refine zi_zret dX9_isTreeWord_17 rfl (by decide) ?_
        rw [zn_0, zn_eq (by omega) (by omega)] at c13
        refine ⟨_, rfl, rfl, ?_⟩
        rw [c13, hd]; rfl
theorem c9_isTreeWord (hW : zy_w σ w s) : zw_Ti l G (d + 1) mX9_isTreeWord [.ref 168] σ (fun x τ => σ = τ ∧ x = if zt_rdb 1 w then nI 1 else nI 0) := by
  refine zw_enter2 (L := [some _, none, none]) (by decide) (Nat.le_of_ble_eq_true rfl) rfl ?_
  refine zi_iconst (nI 1) dX9_isTreeWord_0 (by decide) ?_
  refine zi_ist1 dX9_isTreeWord_1 (Nat.le_of_ble_eq_true rfl) rfl ?_
  refine zi_iconst (nI 0) dX9_isTreeWord_2 (by decide) ?_
  refine zi_ist2 dX9_isTreeWord_3 (Nat.le_of_ble_eq_true rfl) rfl ?_
  have := l9_isTreeWord (l := l) (G := G) (d := d) hW w.length 0 1 (by omega) (by omega)
  rw [List.drop_zero] at this
  exact this
end Z34
