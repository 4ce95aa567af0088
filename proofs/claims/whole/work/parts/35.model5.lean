/-! the model: critical and bad trees -/
/-- the seven figures of a number below 2187 -/
def zy_u (c : Nat) : List Nat := [c / 729 % 3, c / 243 % 3, c / 81 % 3, c / 27 % 3, c / 9 % 3, c / 3 % 3, c % 3]
theorem zy_u_code {c : Nat} (h : c < 2187) : zt_code (zy_u c) = c := by
  simp only [zt_code, zy_u, List.foldl]
  omega
theorem zy_u_lt {c : Nat} : ∀ x ∈ zy_u c, x < 3 := by
  intro x hx
  simp only [zy_u, List.mem_cons, List.not_mem_nil, or_false] at hx
  omega
theorem zy_u_len {c : Nat} : (zy_u c).length = 7 := rfl
theorem zy_u_nm {c : Nat} (h : 729 ≤ c) (h2 : c < 2187) : zt_nm (zy_u c) := ⟨by rw [zy_u_len]; decide, Or.inr (by show c / 729 % 3 ≠ 0; omega)⟩
theorem zy_u_wd {c : Nat} (h : zt_rdb 1 (zy_u c) = true) : zt_wd (zy_u c) := ⟨(zt_rdb_iff _ _).mp h, zy_u_lt, by rw [zy_u_len]; decide⟩
theorem zy_u_perm : (((List.range 1458).map (fun i => zy_u (729 + i))).filter (zt_rdb 1)).Perm zj_W := by
  have : (((List.range 1458).map (fun i => zy_u (729 + i))).filter (zt_rdb 1)).isPerm zj_W = true := by decide +kernel
  exact List.isPerm_iff.mp this
def zy_cr (fa : Nat → Nat) (i : Nat) : Bool := zt_rdb 1 (zy_u (729 + i)) && zj_c fa (zy_u (729 + i))
def zy_bd (fa go : Nat → Nat) (i : Nat) : Bool := zt_rdb 1 (zy_u (729 + i)) && zj_b fa go (zy_u (729 + i))
theorem zy_cnt (p : List Nat → Bool) : ((List.range 1458).filter (fun i => zt_rdb 1 (zy_u (729 + i)) && p (zy_u (729 + i)))).length = zj_W.countP p := by
  have key : ∀ L : List Nat, (L.filter (fun i => zt_rdb 1 (zy_u (729 + i)) && p (zy_u (729 + i)))).length = ((L.map (fun i => zy_u (729 + i))).filter (zt_rdb 1)).countP p := by
    intro L
    rw [List.countP_filter, List.countP_map, List.countP_eq_length_filter]
    congr 1
    refine List.filter_congr (fun i _ => ?_)
    simp only [Function.comp]
    exact Bool.and_comm _ _
  rw [key, zy_u_perm.countP_eq]
theorem zj_f_gen (fa go : Nat → Nat) : ∀ (ws : List (List Nat)) (x : zj_X), (ws.foldl (zj_s fa go) x).1 = x.1 + ws.countP (zj_c fa) ∧ (ws.foldl (zj_s fa go) x).2.1 = x.2.1 + ws.countP (zj_b fa go)
  | [], x => ⟨rfl, rfl⟩
  | w :: ws, x => by
    obtain ⟨h1, h2⟩ := zj_f_gen fa go ws (zj_s fa go x w)
    rw [List.foldl_cons, h1, h2, List.countP_cons, List.countP_cons]
    refine ⟨?_, ?_⟩
    · show x.1 + (if zj_c fa w then 1 else 0) + _ = _; omega
    · show x.2.1 + (if zj_b fa go w then 1 else 0) + _ = _; omega
/-- the least code of a bad one -/
theorem zj_f_min (fa go : Nat → Nat) : ∀ (ws : List (List Nat)) (x : zj_X), match (ws.foldl (zj_s fa go) x).2.2 with
    | none => x.2.2 = none ∧ ∀ w ∈ ws, zj_b fa go w = false
    | some c => (x.2.2 = some c ∨ ∃ w ∈ ws, zj_b fa go w = true ∧ zt_code w = c) ∧ (∀ e, x.2.2 = some e → c ≤ e) ∧ ∀ w ∈ ws, zj_b fa go w = true → c ≤ zt_code w
  | [], x => by
    rw [List.foldl_nil]
    cases h : x.2.2 with
    | none => exact ⟨rfl, fun w hw => absurd hw List.not_mem_nil⟩
    | some c => exact ⟨Or.inl rfl, fun e he => by cases he; exact Nat.le_refl _, fun w hw => absurd hw List.not_mem_nil⟩
  | w :: ws, x => by
    have ih := zj_f_min fa go ws (zj_s fa go x w)
    rw [List.foldl_cons]
    have e2 : (zj_s fa go x w).2.2 = if zj_b fa go w then some (zj_n x.2.2 (zt_code w)) else x.2.2 := rfl
    cases h : (ws.foldl (zj_s fa go) (zj_s fa go x w)).2.2 with
    | none =>
      rw [h] at ih
      obtain ⟨i1, i2⟩ := ih
      rw [e2] at i1
      cases hb : zj_b fa go w with
      | true => rw [hb] at i1; cases i1
      | false =>
        rw [hb] at i1
        refine ⟨i1, fun v hv => ?_⟩
        rcases List.mem_cons.mp hv with rfl | hv
        · exact hb
        · exact i2 v hv
    | some c =>
      rw [h] at ih
      obtain ⟨i1, i2, i3⟩ := ih
      rw [e2] at i1 i2
      cases hb : zj_b fa go w with
      | false =>
        rw [hb] at i1 i2
        refine ⟨?_, i2, fun v hv hv2 => ?_⟩
        · rcases i1 with i1 | ⟨v, a, b, c⟩
          · exact Or.inl i1
          · exact Or.inr ⟨v, List.mem_cons_of_mem _ a, b, c⟩
        · rcases List.mem_cons.mp hv with rfl | hv
          · rw [hb] at hv2; cases hv2
          · exact i3 v hv hv2
      | true =>
        rw [hb] at i1 i2
        have i2' := i2 _ rfl
        have hn : zj_n x.2.2 (zt_code w) ≤ zt_code w := by
          unfold zj_n; split
          · exact Nat.le_refl _
          · exact Nat.min_le_right _ _
        refine ⟨?_, fun e he => ?_, fun v hv hv2 => ?_⟩
        · rcases i1 with i1 | ⟨v, a, b, c⟩
          · have i1 : zj_n x.2.2 (zt_code w) = c := Option.some.inj i1
            unfold zj_n at i1
            cases hx : x.2.2 with
            | none =>
              rw [hx] at i1
              exact Or.inr ⟨w, List.mem_cons_self, hb, i1⟩
            | some e =>
              rw [hx] at i1
              have i1 : min e (zt_code w) = c := i1
              rcases Nat.le_total e (zt_code w) with q | q
              · rw [Nat.min_eq_left q] at i1; exact Or.inl (by rw [i1])
              · rw [Nat.min_eq_right q] at i1; exact Or.inr ⟨w, List.mem_cons_self, hb, i1⟩
          · exact Or.inr ⟨v, List.mem_cons_of_mem _ a, b, c⟩
        · have : zj_n x.2.2 (zt_code w) ≤ e := by
            unfold zj_n; rw [he]; exact Nat.min_le_left _ _
          omega
        · rcases List.mem_cons.mp hv with rfl | hv
          · omega
          · exact i3 v hv hv2
theorem zy_u_W {w : List Nat} (hw : w ∈ zj_W) : ∃ i, i < 1458 ∧ zy_u (729 + i) = w ∧ zt_rdb 1 w = true := by
  have := zy_u_perm.mem_iff.mpr hw
  obtain ⟨a, b⟩ := List.mem_filter.mp this
  obtain ⟨i, hi, rfl⟩ := List.mem_map.mp a
  exact ⟨i, List.mem_range.mp hi, rfl, b⟩
theorem zy_W_u {i : Nat} (hi : i < 1458) (h : zt_rdb 1 (zy_u (729 + i)) = true) : zy_u (729 + i) ∈ zj_W := zy_u_perm.mem_iff.mp (List.mem_filter.mpr ⟨List.mem_map.mpr ⟨i, List.mem_range.mpr hi, rfl⟩, h⟩)
theorem zy_fb_none {fa go : Nat → Nat} (h : ∀ i, i < 1458 → zy_bd fa go i = false) : (zj_f fa go zj_W).2.2 = none := by
  have := zj_f_min fa go zj_W (0, 0, none)
  show (zj_W.foldl (zj_s fa go) (0, 0, none)).2.2 = none
  cases hc : (zj_W.foldl (zj_s fa go) (0, 0, none)).2.2 with
  | none => rfl
  | some c =>
    rw [hc] at this
    rcases this.1 with q | ⟨w, hw, hb, -⟩
    · cases q
    · obtain ⟨i, hi, rfl, hr⟩ := zy_u_W hw
      have := h i hi
      unfold zy_bd at this
      rw [hr, hb] at this
      cases this
theorem zy_fb_some {fa go : Nat → Nat} {i : Nat} (hi : i < 1458) (h : zy_bd fa go i = true) (h2 : ∀ j, j < i → zy_bd fa go j = false) : (zj_f fa go zj_W).2.2 = some (729 + i) := by
  have := zj_f_min fa go zj_W (0, 0, none)
  unfold zy_bd at h
  rw [Bool.and_eq_true] at h
  have hW := zy_W_u hi h.1
  show (zj_W.foldl (zj_s fa go) (0, 0, none)).2.2 = _
  cases hc : (zj_W.foldl (zj_s fa go) (0, 0, none)).2.2 with
  | none =>
    rw [hc] at this
    have := this.2 _ hW
    rw [h.2] at this; cases this
  | some c =>
    rw [hc] at this
    obtain ⟨t1, -, t3⟩ := this
    have h3 := t3 _ hW h.2
    rw [zy_u_code (by omega)] at h3
    rcases t1 with q | ⟨w, hw, hb, hcw⟩
    · cases q
    · obtain ⟨j, hj, rfl, hr⟩ := zy_u_W hw
      rw [zy_u_code (by omega)] at hcw
      have : ¬ j < i := fun q => by
        have := h2 j q
        unfold zy_bd at this
        rw [hr, hb] at this; cases this
      rw [show c = 729 + i by omega]
/-- what is compared of a tree made plain -/
def zy_e (o : Option (Nat × List Nat × Int32)) : Int32 := match o with
  | none => -1
  | some x => nI 3 * nI (zt_code x.2.1) + x.2.2 + nI 1
def zy_g (s : Int32) : Nat := if s = nI 1 then 2 else if s = -1 then 0 else 1
theorem zy_g_eq {w : List Nat} {s : Int32} (h : zg_s (w, s)) : nI 3 * nI (zt_code w) + s + nI 1 = nI (3 * zt_code w + zy_g s) := by
  rcases h with h | h | ⟨h, -⟩
  · have h : s = nI 1 := h
    subst h
    rw [pk_mul, nI_add, nI_add]; rfl
  · have h : s = -1 := h
    subst h
    rw [pk_mul, show nI (3 * zt_code w) + (-1) + nI 1 = nI (3 * zt_code w) by
      rw [Int32.add_assoc, show (-1 : Int32) + nI 1 = 0 by decide, Int32.add_zero]]
    rfl
  · have h : s = nI 0 := h
    subst h
    rw [pk_mul, nI_add, nI_add]; rfl
theorem zy_g_inj {w v : List Nat} {s t : Int32} (h1 : zg_s (w, s)) (h2 : zg_s (v, t)) (h : zy_g s = zy_g t) : s = t := by
  rcases h1 with a | a | ⟨a, -⟩ <;> rcases h2 with b | b | ⟨b, -⟩ <;> (replace a : s = _ := a; replace b : t = _ := b; subst a b; first | rfl | exact absurd h (by decide))
theorem zy_g_lt (s : Int32) : zy_g s < 3 := by
  unfold zy_g
  split
  · omega
  · split <;> omega
theorem zy_e_ne {x : Nat × List Nat × Int32} (h : zg_s x.2) (hw : zt_wd x.2.1) : zy_e (some x) ≠ -1 := by
  have hc := zt_code_small hw.2.1 hw.2.2
  have hl := zy_g_lt x.2.2
  show nI 3 * nI (zt_code x.2.1) + x.2.2 + nI 1 ≠ -1
  rw [zy_g_eq (w := x.2.1) (s := x.2.2) h]
  intro q
  rw [zn_m1 _ (by omega)] at q
  exact q
theorem zy_e_eq {x y : Nat × List Nat × Int32} (hx : zg_s x.2) (hxw : zt_wd x.2.1) (hy : zg_s y.2) (hyw : zt_wd y.2.1) : (zy_e (some x) = zy_e (some y)) ↔ (x.2.2 = y.2.2 ∧ zt_code x.2.1 = zt_code y.2.1) := by
  have hc := zt_code_small hxw.2.1 hxw.2.2
  have hl := zy_g_lt x.2.2
  have hc2 := zt_code_small hyw.2.1 hyw.2.2
  have hl2 := zy_g_lt y.2.2
  constructor
  · intro h
    have h : nI 3 * nI (zt_code x.2.1) + x.2.2 + nI 1 = nI 3 * nI (zt_code y.2.1) + y.2.2 + nI 1 := h
    rw [zy_g_eq (w := x.2.1) (s := x.2.2) hx, zy_g_eq (w := y.2.1) (s := y.2.2) hy, zn_eq (by omega) (by omega)] at h
    exact ⟨zy_g_inj hx hy (by omega), by omega⟩
  · rintro ⟨h1, h2⟩
    show nI 3 * nI (zt_code x.2.1) + x.2.2 + nI 1 = nI 3 * nI (zt_code y.2.1) + y.2.2 + nI 1
    rw [h1, h2]
/-- an end that is one -/
def zy_ok (o : Option (Nat × List Nat × Int32)) : Prop := ∀ x, o = some x → zg_s x.2 ∧ zt_wd x.2.1
section Z35
variable {l : Launch} {G : zw_G} {d : Nat} {σ : zw_S} {w : List Nat} {s : Int32} {fa go : Nat → Nat}
theorem c9_openU {i : Nat} (hi : i < 1458) : zw_Tv l G (d + 1) mX9_open [.ref 168, .int (nI (729 + i)), .int s] σ (fun υ => zy_w υ (zy_u (729 + i)) s ∧ zy_S σ υ) := by
  have := c9_open (l := l) (G := G) (d := d) (σ := σ) (s := s) (w := zy_u (729 + i)) zy_u_lt (zy_u_nm (by omega) (by omega)) (by rw [zy_u_len]; decide)
  rwa [zy_u_code (by omega)] at this
theorem c9_isCritical (hR : zy_r σ 0 fa go) {i : Nat} (hi : i < 1458) : zw_Ti l G (d + 6) mX9_isCritical [.ref 168, .int (nI (729 + i))] σ (fun x υ => x = (if zy_cr fa i then nI 1 else nI 0) ∧ zy_w υ (zy_u (729 + i)) (nI 1) ∧ zy_S σ υ) := by
  refine zw_enter2 (L := [some _, some _]) (by decide) (Nat.le_of_ble_eq_true rfl) rfl ?_
  refine zi_ald0 dX9_isCritical_0 ?_
  refine zi_ild1 dX9_isCritical_1 ?_
  refine zi_iconst (nI 1) dX9_isCritical_2 (by decide) ?_
  refine zi_cV2v vmX9_open lkX9_64 dX9_isCritical_3 (by first | assumption | decide) (Nat.le_of_ble_eq_true rfl) (c9_openU hi) ?_
  rintro τ1 ⟨hW1, hS1⟩
  refine zi_ald0 dX9_isCritical_6 ?_
  refine zi_getI dX9_isCritical_7 flX9_58 rfl (by first | assumption | decide) ?_
  rw [hW1.2.2.1, zy_u_len]
  refine zi_bipush (nI 7) dX9_isCritical_10 (by decide) ?_
  refine zi_icmp_ne 34 dX9_isCritical_12 (by decide) (fun c12 => ?_) (fun c12 => ?_)
  · exact absurd rfl c12
  · refine zi_ald0 dX9_isCritical_15 ?_
    refine zi_cV0i vmX9_isTreeWord lkX9_102 dX9_isCritical_16 (by first | assumption | decide) (Nat.le_of_ble_eq_true rfl) (c9_isTreeWord hW1) ?_
    rintro _ _ ⟨rfl, rfl⟩
    refine zi_if_eq 34 dX9_isCritical_19 (by decide) (fun c19 => ?_) (fun c19 => ?_)
    · refine zi_iconst (nI 0) dX9_isCritical_34 (by decide) ?_
      refine zi_zret dX9_isCritical_35 rfl (by decide) ?_
      refine ⟨_, rfl, ?_, hW1, hS1⟩
      unfold zy_cr zj_c
      first
      | (rw [zn_eq (by omega) (by omega)] at c27
         rw [ht, if_pos (by rw [c27]; rfl)]; done)
      | (rw [zn_eq (by omega) (by omega)] at c27
         rw [ht, if_neg (by simpa using c27)]; done)
      | (cases q : zt_rdb 1 (zy_u (729 + i)) with
         | false => rfl
         | true => rw [if_pos q] at c19; exact absurd c19 (by decide))
    · have ht : zt_rdb 1 (zy_u (729 + i)) = true := by
        cases q : zt_rdb 1 (zy_u (729 + i)) with
        | true => rfl
        | false => rw [if_neg (by rw [q]; decide)] at c19; exact absurd rfl c19
      have hl := zt_sp_len (fa := fa) (w := zy_u (729 + i))
      rw [zy_u_len] at hl
      refine zi_ald0 dX9_isCritical_22 ?_
      refine zi_cV0i vmX9_places lkX9_106 dX9_isCritical_23 (by first | assumption | decide) (Nat.le_of_ble_eq_true rfl) (c9_places hW1 (zy_u_wd ht).1 (hR.cg hS1.w)) ?_
      rintro _ _ ⟨rfl, rfl⟩
      refine zi_iconst (nI 2) dX9_isCritical_26 (by decide) ?_
      refine zi_icmp_ne 34 dX9_isCritical_27 (by decide) (fun c27 => ?_) (fun c27 => ?_)
      · refine zi_iconst (nI 0) dX9_isCritical_34 (by decide) ?_
        refine zi_zret dX9_isCritical_35 rfl (by decide) ?_
        refine ⟨_, rfl, ?_, hW1, hS1⟩
        unfold zy_cr zj_c
        first
        | (rw [zn_eq (by omega) (by omega)] at c27
           rw [ht, if_pos (by rw [c27]; rfl)]; done)
        | (rw [zn_eq (by omega) (by omega)] at c27
           rw [ht, if_neg (by simpa using c27)]; done)
        | (cases q : zt_rdb 1 (zy_u (729 + i)) with
           | false => rfl
           | true => rw [if_pos q] at c19; exact absurd c19 (by decide))
      · refine zi_iconst (nI 1) dX9_isCritical_30 (by decide) ?_
        refine zi_goto 35 dX9_isCritical_31 (by decide) ?_
        refine zi_zret dX9_isCritical_35 rfl (by decide) ?_
        refine ⟨_, rfl, ?_, hW1, hS1⟩
        unfold zy_cr zj_c
        first
        | (rw [zn_eq (by omega) (by omega)] at c27
           rw [ht, if_pos (by rw [c27]; rfl)]; done)
        | (rw [zn_eq (by omega) (by omega)] at c27
           rw [ht, if_neg (by simpa using c27)]; done)
        | (cases q : zt_rdb 1 (zy_u (729 + i)) with
           | false => rfl
           | true => rw [if_pos q] at c19; exact absurd c19 (by decide))
theorem l9_bad86 {x1 : Int32} {A B : Option (Nat × List Nat × Int32)} (hA : zy_ok A) (hB : zy_ok B) : zw_W l G (d + 7) mX9_isBad 86 [some (.ref 168), some (.int x1), some (.int (zy_e A)), some (.int (zy_e B))] [] σ (fun x τ => ∃ y, x = some (.int y) ∧ σ = τ ∧ y = if zj_d A B then nI 1 else nI 0) := by
  refine zi_ild2 dX9_isBad_86 ?_
  refine zi_iconst (-1) dX9_isBad_87 (by decide) ?_
  refine zi_icmp_eq 96 dX9_isBad_88 (by decide) (fun c88 => ?_) (fun c88 => ?_)
  · refine zi_iconst (nI 1) dX9_isBad_96 (by decide) ?_
    refine zi_goto 101 dX9_isBad_97 (by decide) ?_
    refine zi_zret dX9_isBad_101 rfl (by decide) ?_
    refine ⟨_, rfl, rfl, ?_⟩
    cases A with
    | none => first | rfl | exact absurd rfl c88
    | some x =>
      have hx := hA x rfl
      first
      | exact absurd c88 (zy_e_ne hx.1 hx.2)
      | (cases B with
         | none => first | rfl | exact absurd c93 (zy_e_ne hx.1 hx.2)
         | some y =>
           have hy := hB y rfl
           rw [zy_e_eq hx.1 hx.2 hy.1 hy.2] at c93
           unfold zj_d
           first
           | (rw [if_neg (by simp [c93.1, c93.2])]; done)
           | (rw [if_pos (by
                by_cases a : x.2.2 = y.2.2
                · have b : ¬ zt_code x.2.1 = zt_code y.2.1 := fun b => c93 ⟨a, b⟩
                  simp [a, b]
                · simp [a])]; done))
  · refine zi_ild2 dX9_isBad_91 ?_
    refine zi_ild3 dX9_isBad_92 ?_
    refine zi_icmp_eq 100 dX9_isBad_93 (by decide) (fun c93 => ?_) (fun c93 => ?_)
    · refine zi_iconst (nI 0) dX9_isBad_100 (by decide) ?_
      refine zi_zret dX9_isBad_101 rfl (by decide) ?_
      refine ⟨_, rfl, rfl, ?_⟩
      cases A with
      | none => first | rfl | exact absurd rfl c88
      | some x =>
        have hx := hA x rfl
        first
        | exact absurd c88 (zy_e_ne hx.1 hx.2)
        | (cases B with
           | none => first | rfl | exact absurd c93 (zy_e_ne hx.1 hx.2)
           | some y =>
             have hy := hB y rfl
             rw [zy_e_eq hx.1 hx.2 hy.1 hy.2] at c93
             unfold zj_d
             first
             | (rw [if_neg (by simp [c93.1, c93.2])]; done)
             | (rw [if_pos (by
                  by_cases a : x.2.2 = y.2.2
                  · have b : ¬ zt_code x.2.1 = zt_code y.2.1 := fun b => c93 ⟨a, b⟩
                    simp [a, b]
                  · simp [a])]; done))
    · refine zi_iconst (nI 1) dX9_isBad_96 (by decide) ?_
      refine zi_goto 101 dX9_isBad_97 (by decide) ?_
      refine zi_zret dX9_isBad_101 rfl (by decide) ?_
      refine ⟨_, rfl, rfl, ?_⟩
      cases A with
      | none => first | rfl | exact absurd rfl c88
      | some x =>
        have hx := hA x rfl
        first
        | exact absurd c88 (zy_e_ne hx.1 hx.2)
        | (cases B with
           | none => first | rfl | exact absurd c93 (zy_e_ne hx.1 hx.2)
           | some y =>
             have hy := hB y rfl
             rw [zy_e_eq hx.1 hx.2 hy.1 hy.2] at c93
             unfold zj_d
             first
             | (rw [if_neg (by simp [c93.1, c93.2])]; done)
             | (rw [if_pos (by
                  by_cases a : x.2.2 = y.2.2
                  · have b : ¬ zt_code x.2.1 = zt_code y.2.1 := fun b => c93 ⟨a, b⟩
                    simp [a, b]
                  · simp [a])]; done))
theorem zj_e_ok {k : Nat} {y : Int32} {υ : zw_S} (hb : zt_bi fa w k = true) (h : (y = -1 ∧ zj_e fa go w k = none) ∨ ∃ n' w' s', zj_e fa go w k = some (n', w', s') ∧ n' ≤ 60 ∧ y = nI n' ∧ zy_w υ w' s' ∧ zt_wd w') : zy_ok (zj_e fa go w k) := by
  intro x hx
  rcases h with ⟨-, h⟩ | ⟨n', w', s', h, -, -, -, h5⟩
  · rw [h] at hx; cases hx
  · have h2 := hx
    rw [h] at hx; cases hx
    exact ⟨zg_s_pl 60 0 _ _ (zg_s_st (Or.inl rfl) hb) _ h2, h5⟩
theorem l9_bad45 (hR : zy_r σ 0 fa go) {i : Nat} (hi : i < 1458) (hc : zy_cr fa i = true) {A : Option (Nat × List Nat × Int32)} (hA : zy_ok A) {x3 : Option Value} : zw_W l G (d + 7) mX9_isBad 45 [some (.ref 168), some (.int (nI (729 + i))), some (.int (zy_e A)), x3] [] σ (fun x υ => ∃ y, x = some (.int y) ∧ y = (if zj_d A (zj_e fa go (zy_u (729 + i)) ((zt_sp fa (zy_u (729 + i))).getD 1 0)) then nI 1 else nI 0) ∧ zy_S σ υ) := by
  unfold zy_cr zj_c at hc
  rw [Bool.and_eq_true, beq_iff_eq] at hc
  have hw := zy_u_wd hc.1
  have h1 : 1 < (zt_sp fa (zy_u (729 + i))).length := by omega
  have h1e : (zt_sp fa (zy_u (729 + i)))[1]? = some ((zt_sp fa (zy_u (729 + i))).getD 1 0) := by rw [List.getD_eq_getElem?_getD, List.getElem?_eq_getElem h1]; rfl
  have hb : zt_bi fa (zy_u (729 + i)) ((zt_sp fa (zy_u (729 + i))).getD 1 0) = true := (List.mem_filter.mp (List.mem_of_getElem? h1e)).2
  generalize (zt_sp fa (zy_u (729 + i))).getD 1 0 = k at h1e hb ⊢
  have hbl := zt_bi_lt hb
  have hr3 := (hR _ hbl.1).2.2.1
  refine zi_ald0 dX9_isBad_45 ?_
  refine zi_ild1 dX9_isBad_46 ?_
  refine zi_iconst (nI 1) dX9_isBad_47 (by decide) ?_
  refine zi_cV2v vmX9_open lkX9_64 dX9_isBad_48 (by first | assumption | decide) (Nat.le_of_ble_eq_true rfl) (c9_openU hi) ?_
  rintro τ1 ⟨hW1, hS1⟩
  refine zi_ald0 dX9_isBad_51 ?_
  refine zi_ald0 dX9_isBad_52 ?_
  refine zi_iconst (nI 1) dX9_isBad_53 (by decide) ?_
  refine zi_cV1i vmX9_placeAt lkX9_96 dX9_isBad_54 (by first | assumption | decide) (Nat.le_of_ble_eq_true rfl) (c9_placeAt hW1 hw.1 (hR.cg hS1.w)) ?_
  rintro _ _ ⟨rfl, rfl⟩
  rw [zp_at_n (by decide), h1e, zp_oI_some]
  refine zi_cV1v vmX9_stepAt lkX9_99 dX9_isBad_57 (by first | assumption | decide) (Nat.le_of_ble_eq_true rfl) (c9_stepAt hW1 hw (hR.cg hS1.w) hb) ?_
  rintro τ2 ⟨hW2, hS2⟩
  replace hS2 := hS1.tr hS2
  refine zi_ald0 dX9_isBad_60 ?_
  refine zi_cV0i vmX9_makePlain lkX9_114 dX9_isBad_61 (by first | assumption | decide) (Nat.le_of_ble_eq_true rfl) (c9_makePlain hW2 (hR.cg hS2.w) (zt_st_wd hw hbl.1 (fun q => hr3.mp (by have := hbl.2; omega)))) ?_
  rintro y3 τ3 ⟨hS3, hE3⟩
  replace hS3 := hS2.tr hS3
  have hB := zj_e_ok (go := go) hb hE3
  refine zi_iconst (-1) dX9_isBad_64 (by decide) ?_
  refine zi_icmp_ne 72 dX9_isBad_65 (by decide) (fun c65 => ?_) (fun c65 => ?_)
  · obtain ⟨n', w', s', eB, -, -, hW3, -⟩ : ∃ n' w' s', zj_e fa go (zy_u (729 + i)) k = some (n', w', s') ∧ n' ≤ 60 ∧ y3 = nI n' ∧ zy_w τ3 w' s' ∧ zt_wd w' := by
      rcases hE3 with ⟨h, -⟩ | h
      · exact absurd h c65
      · exact h
    refine zi_iconst (nI 3) dX9_isBad_72 (by decide) ?_
    refine zi_ald0 dX9_isBad_73 ?_
    refine zi_cV0i vmX9_code lkX9_117 dX9_isBad_74 (by first | assumption | decide) (Nat.le_of_ble_eq_true rfl) (c9_code hW3) ?_
    rintro _ _ ⟨rfl, rfl⟩
    refine zi_imul dX9_isBad_77 ?_
    refine zi_ald0 dX9_isBad_78 ?_
    refine zi_getI dX9_isBad_79 flX9_61 rfl (by first | assumption | decide) ?_
    rw [hW3.2.2.2.1]
    refine zi_iadd dX9_isBad_82 ?_
    refine zi_iconst (nI 1) dX9_isBad_83 (by decide) ?_
    refine zi_iadd dX9_isBad_84 ?_
    refine zi_ist3 dX9_isBad_85 (Nat.le_of_ble_eq_true rfl) rfl ?_
    rw [eB] at hB ⊢
    refine zw_W.mono (l9_bad86 (σ := τ3) hA hB) ?_
    · rintro x υ ⟨y, e1, rfl, e2⟩
      exact ⟨y, e1, e2, hS3⟩
  · have eB : zj_e fa go (zy_u (729 + i)) k = none := by
      rcases hE3 with ⟨-, h⟩ | ⟨n', w', s', h, h1, h2, -, h5⟩
      · exact h
      · rw [h2, zn_m1 n' (by omega)] at c65; exact absurd c65 id
    refine zi_iconst (-1) dX9_isBad_68 (by decide) ?_
    refine zi_goto 85 dX9_isBad_69 (by decide) ?_
    refine zi_ist3 dX9_isBad_85 (Nat.le_of_ble_eq_true rfl) rfl ?_
    rw [eB] at hB ⊢
    refine zw_W.mono (l9_bad86 (σ := τ3) hA hB) ?_
    · rintro x υ ⟨y, e1, rfl, e2⟩
      exact ⟨y, e1, e2, hS3⟩
theorem zy_bd_cr {i : Nat} (h : zy_cr fa i = true) : zy_bd fa go i = zj_d (zj_e fa go (zy_u (729 + i)) ((zt_sp fa (zy_u (729 + i))).getD 0 0)) (zj_e fa go (zy_u (729 + i)) ((zt_sp fa (zy_u (729 + i))).getD 1 0)) := by
  unfold zy_cr at h
  rw [Bool.and_eq_true] at h
  unfold zy_bd zj_b
  rw [h.1, h.2, Bool.true_and, Bool.true_and]
theorem zy_bd_no {i : Nat} (h : zy_cr fa i = false) : zy_bd fa go i = false := by
  unfold zy_cr at h
  unfold zy_bd zj_b
  rw [Bool.and_eq_false_iff] at h
  rcases h with h | h
  · rw [h, Bool.false_and]
  · rw [h, Bool.false_and, Bool.and_false]
theorem c9_isBad (hR : zy_r σ 0 fa go) {i : Nat} (hi : i < 1458) : zw_Ti l G (d + 7) mX9_isBad [.ref 168, .int (nI (729 + i))] σ (fun x υ => x = (if zy_bd fa go i then nI 1 else nI 0) ∧ zy_S σ υ) := by
  refine zw_enter2 (L := [some _, some _, none, none]) (by decide) (Nat.le_of_ble_eq_true rfl) rfl ?_
  refine zi_ald0 dX9_isBad_0 ?_
  refine zi_ild1 dX9_isBad_1 ?_
  refine zi_cV1i vmX9_isCritical lkX9_110 dX9_isBad_2 (by first | assumption | decide) (Nat.le_of_ble_eq_true rfl) (c9_isCritical hR hi) ?_
  rintro _ τ1 ⟨rfl, hW1, hS1⟩
  refine zi_if_ne 10 dX9_isBad_5 (by decide) (fun c5 => ?_) (fun c5 => ?_)
  · have hc : zy_cr fa i = true := by
      cases q : zy_cr fa i with
      | true => rfl
      | false => rw [if_neg (by rw [q]; decide)] at c5; exact absurd rfl c5
    rw [zy_bd_cr hc]
    have hc2 := hc
    unfold zy_cr zj_c at hc2
    rw [Bool.and_eq_true, beq_iff_eq] at hc2
    have hw := zy_u_wd hc2.1
    have h1 : 0 < (zt_sp fa (zy_u (729 + i))).length := by omega
    have h1e : (zt_sp fa (zy_u (729 + i)))[0]? = some ((zt_sp fa (zy_u (729 + i))).getD 0 0) := by rw [List.getD_eq_getElem?_getD, List.getElem?_eq_getElem h1]; rfl
    have hb : zt_bi fa (zy_u (729 + i)) ((zt_sp fa (zy_u (729 + i))).getD 0 0) = true := (List.mem_filter.mp (List.mem_of_getElem? h1e)).2
    generalize (zt_sp fa (zy_u (729 + i))).getD 0 0 = k at h1e hb ⊢
    have hbl := zt_bi_lt hb
    have hr3 := (hR _ hbl.1).2.2.1
    refine zi_ald0 dX9_isBad_10 ?_
    refine zi_ald0 dX9_isBad_11 ?_
    refine zi_iconst (nI 0) dX9_isBad_12 (by decide) ?_
    refine zi_cV1i vmX9_placeAt lkX9_96 dX9_isBad_13 (by first | assumption | decide) (Nat.le_of_ble_eq_true rfl) (c9_placeAt hW1 hw.1 (hR.cg hS1.w)) ?_
    rintro _ _ ⟨rfl, rfl⟩
    rw [zp_at_n (by decide), h1e, zp_oI_some]
    refine zi_cV1v vmX9_stepAt lkX9_99 dX9_isBad_16 (by first | assumption | decide) (Nat.le_of_ble_eq_true rfl) (c9_stepAt hW1 hw (hR.cg hS1.w) hb) ?_
    rintro τ2 ⟨hW2, hS2⟩
    replace hS2 := hS1.tr hS2
    refine zi_ald0 dX9_isBad_19 ?_
    refine zi_cV0i vmX9_makePlain lkX9_114 dX9_isBad_20 (by first | assumption | decide) (Nat.le_of_ble_eq_true rfl) (c9_makePlain hW2 (hR.cg hS2.w) (zt_st_wd hw hbl.1 (fun q => hr3.mp (by have := hbl.2; omega)))) ?_
    rintro y3 τ3 ⟨hS3, hE3⟩
    replace hS3 := hS2.tr hS3
    have hA := zj_e_ok (go := go) hb hE3
    refine zi_iconst (-1) dX9_isBad_23 (by decide) ?_
    refine zi_icmp_ne 31 dX9_isBad_24 (by decide) (fun c24 => ?_) (fun c24 => ?_)
    · obtain ⟨n', w', s', eA, -, -, hW3, -⟩ : ∃ n' w' s', zj_e fa go (zy_u (729 + i)) k = some (n', w', s') ∧ n' ≤ 60 ∧ y3 = nI n' ∧ zy_w τ3 w' s' ∧ zt_wd w' := by
        rcases hE3 with ⟨h, -⟩ | h
        · exact absurd h c24
        · exact h
      refine zi_iconst (nI 3) dX9_isBad_31 (by decide) ?_
      refine zi_ald0 dX9_isBad_32 ?_
      refine zi_cV0i vmX9_code lkX9_117 dX9_isBad_33 (by first | assumption | decide) (Nat.le_of_ble_eq_true rfl) (c9_code hW3) ?_
      rintro _ _ ⟨rfl, rfl⟩
      refine zi_imul dX9_isBad_36 ?_
      refine zi_ald0 dX9_isBad_37 ?_
      refine zi_getI dX9_isBad_38 flX9_61 rfl (by first | assumption | decide) ?_
      rw [hW3.2.2.2.1]
      refine zi_iadd dX9_isBad_41 ?_
      refine zi_iconst (nI 1) dX9_isBad_42 (by decide) ?_
      refine zi_iadd dX9_isBad_43 ?_
      refine zi_ist2 dX9_isBad_44 (Nat.le_of_ble_eq_true rfl) rfl ?_
      have := l9_bad45 (l := l) (G := G) (d := d) (x3 := none) (hR.cg hS3.w) hi hc hA
      rw [eA] at this ⊢
      refine zw_W.mono this ?_
      rintro x υ ⟨y, e1, e2, e3⟩
      exact ⟨y, e1, e2, hS3.tr e3⟩
    · have eA : zj_e fa go (zy_u (729 + i)) k = none := by
        rcases hE3 with ⟨-, h⟩ | ⟨n', w', s', h, h1, h2, -, h5⟩
        · exact h
        · rw [h2, zn_m1 n' (by omega)] at c24; exact absurd c24 id
      refine zi_iconst (-1) dX9_isBad_27 (by decide) ?_
      refine zi_goto 44 dX9_isBad_28 (by decide) ?_
      refine zi_ist2 dX9_isBad_44 (Nat.le_of_ble_eq_true rfl) rfl ?_
      have := l9_bad45 (l := l) (G := G) (d := d) (x3 := none) (hR.cg hS3.w) hi hc hA
      rw [eA] at this ⊢
      refine zw_W.mono this ?_
      rintro x υ ⟨y, e1, e2, e3⟩
      exact ⟨y, e1, e2, hS3.tr e3⟩
  · refine zi_iconst (nI 0) dX9_isBad_8 (by decide) ?_
    refine zi_zret dX9_isBad_9 rfl (by decide) ?_
    have hc : zy_cr fa i = false := by
      cases q : zy_cr fa i with
      | false => rfl
      | true => rw [if_pos q] at c5; exact absurd c5 (by decide)
    rw [zy_bd_no hc]
    exact ⟨_, rfl, rfl, hS1⟩
theorem l9_criticals (hR : zy_r σ 0 fa go) : ∀ n i τ, i + n = 1458 → zy_S σ τ → zw_W l G (d + 7) mX9_criticals 6 [some (.ref 168), some (.int (nI ((List.range i).filter (zy_cr fa)).length)), some (.int (nI (729 + i)))] [] τ (fun x υ => ∃ y, x = some (.int y) ∧ y = nI ((List.range 1458).filter (zy_cr fa)).length ∧ zy_S σ υ) := by
  intro n
  induction n with
  | zero =>
    intro i τ hi hS
    refine zi_ild2 dX9_criticals_6 ?_
    refine zi_sipush (nI 2187) dX9_criticals_7 (by decide) ?_
    refine zi_icmp_ge 35 dX9_criticals_10 (by decide) (fun c10 => ?_) (fun c10 => ?_)
    · refine zi_ild1 dX9_criticals_35 ?_
      refine zi_iret dX9_criticals_36 rfl ?_
      exact ⟨_, rfl, by rw [show i = 1458 by omega], hS⟩
    · rw [zn_le (by omega) (by omega)] at c10; omega
  | succ n ih =>
    intro i τ hi hS
    refine zi_ild2 dX9_criticals_6 ?_
    refine zi_sipush (nI 2187) dX9_criticals_7 (by decide) ?_
    refine zi_icmp_ge 35 dX9_criticals_10 (by decide) (fun c10 => ?_) (fun c10 => ?_)
    · rw [zn_le (by omega) (by omega)] at c10; omega
    · refine zi_ild1 dX9_criticals_13 ?_
      refine zi_ald0 dX9_criticals_14 ?_
      refine zi_ild2 dX9_criticals_15 ?_
      refine zi_cV1i vmX9_isCritical lkX9_110 dX9_criticals_16 (by first | assumption | decide) (Nat.le_of_ble_eq_true rfl) (c9_isCritical (hR.cg hS.w) (show i < 1458 by omega)) ?_
      rintro _ τ1 ⟨rfl, hW1, hS1⟩
      refine zi_if_eq 26 dX9_criticals_19 (by decide) (fun c19 => ?_) (fun c19 => ?_)
      · refine zi_iconst (nI 0) dX9_criticals_26 (by decide) ?_
        refine zi_iadd dX9_criticals_27 ?_
        refine zi_ist1 dX9_criticals_28 (Nat.le_of_ble_eq_true rfl) rfl ?_
        refine zi_inc2 (nI 1) dX9_criticals_29 (by decide) (Nat.le_of_ble_eq_true rfl) rfl ?_
        refine zi_goto 6 dX9_criticals_32 (by decide) ?_
        have := ih (i + 1) τ1 (by omega) (hS.tr hS1)
        rw [show 729 + (i + 1) = 729 + i + 1 by omega] at this
        by_cases q : zy_cr fa i = true
        · rw [zl_fs q] at this
          rw [if_pos q] at c19
          first
          | (exfalso; exact absurd c19 (by decide))
          | (rw [nI_add, nI_add]; exact this)
        · rw [zl_fn (by simpa using q)] at this
          rw [if_neg q] at c19
          first
          | (exfalso; exact absurd rfl c19)
          | (rw [nI_add, nI_add]; exact this)
      · refine zi_iconst (nI 1) dX9_criticals_22 (by decide) ?_
        refine zi_goto 27 dX9_criticals_23 (by decide) ?_
        refine zi_iadd dX9_criticals_27 ?_
        refine zi_ist1 dX9_criticals_28 (Nat.le_of_ble_eq_true rfl) rfl ?_
        refine zi_inc2 (nI 1) dX9_criticals_29 (by decide) (Nat.le_of_ble_eq_true rfl) rfl ?_
        refine zi_goto 6 dX9_criticals_32 (by decide) ?_
        have := ih (i + 1) τ1 (by omega) (hS.tr hS1)
        rw [show 729 + (i + 1) = 729 + i + 1 by omega] at this
        by_cases q : zy_cr fa i = true
        · rw [zl_fs q] at this
          rw [if_pos q] at c19
          first
          | (exfalso; exact absurd c19 (by decide))
          | (rw [nI_add, nI_add]; exact this)
        · rw [zl_fn (by simpa using q)] at this
          rw [if_neg q] at c19
          first
          | (exfalso; exact absurd rfl c19)
          | (rw [nI_add, nI_add]; exact this)
theorem zy_cr_n : ((List.range 1458).filter (zy_cr fa)).length = (zj_f fa go zj_W).1 := by
  have h1 := zy_cnt (zj_c fa)
  have h2 := (zj_f_gen fa go zj_W (0, 0, none)).1
  have e : zy_cr fa = fun i => zt_rdb 1 (zy_u (729 + i)) && zj_c fa (zy_u (729 + i)) := rfl
  rw [e, h1]
  exact (h2.trans (Nat.zero_add _)).symm
theorem zy_bd_n : ((List.range 1458).filter (zy_bd fa go)).length = (zj_f fa go zj_W).2.1 := by
  have h1 := zy_cnt (zj_b fa go)
  have h2 := (zj_f_gen fa go zj_W (0, 0, none)).2
  have e : zy_bd fa go = fun i => zt_rdb 1 (zy_u (729 + i)) && zj_b fa go (zy_u (729 + i)) := rfl
  rw [e, h1]
  exact (h2.trans (Nat.zero_add _)).symm
theorem c9_criticals (hR : zy_r σ 0 fa go) : zw_Ti l G (d + 7) mX9_criticals [.ref 168] σ (fun x υ => x = nI (zj_f fa go zj_W).1 ∧ zy_S σ υ) := by
  refine zw_enter2 (L := [some _, none, none]) (by decide) (Nat.le_of_ble_eq_true rfl) rfl ?_
  refine zi_iconst (nI 0) dX9_criticals_0 (by decide) ?_
  refine zi_ist1 dX9_criticals_1 (Nat.le_of_ble_eq_true rfl) rfl ?_
  refine zi_sipush (nI 729) dX9_criticals_2 (by decide) ?_
  refine zi_ist2 dX9_criticals_5 (Nat.le_of_ble_eq_true rfl) rfl ?_
  refine zw_W.mono (l9_criticals hR 1458 0 σ (by omega) zy_S.rf) ?_
  rintro x υ ⟨y, e1, e2, e3⟩
  exact ⟨y, e1, by rw [e2, zy_cr_n (go := go)], e3⟩
theorem l9_bads (hR : zy_r σ 0 fa go) : ∀ n i τ, i + n = 1458 → zy_S σ τ → zw_W l G (d + 8) mX9_bads 6 [some (.ref 168), some (.int (nI ((List.range i).filter (zy_bd fa go)).length)), some (.int (nI (729 + i)))] [] τ (fun x υ => ∃ y, x = some (.int y) ∧ y = nI ((List.range 1458).filter (zy_bd fa go)).length ∧ zy_S σ υ) := by
  intro n
  induction n with
  | zero =>
    intro i τ hi hS
    refine zi_ild2 dX9_bads_6 ?_
    refine zi_sipush (nI 2187) dX9_bads_7 (by decide) ?_
    refine zi_icmp_ge 35 dX9_bads_10 (by decide) (fun c10 => ?_) (fun c10 => ?_)
    · refine zi_ild1 dX9_bads_35 ?_
      refine zi_iret dX9_bads_36 rfl ?_
      exact ⟨_, rfl, by rw [show i = 1458 by omega], hS⟩
    · rw [zn_le (by omega) (by omega)] at c10; omega
  | succ n ih =>
    intro i τ hi hS
    refine zi_ild2 dX9_bads_6 ?_
    refine zi_sipush (nI 2187) dX9_bads_7 (by decide) ?_
    refine zi_icmp_ge 35 dX9_bads_10 (by decide) (fun c10 => ?_) (fun c10 => ?_)
    · rw [zn_le (by omega) (by omega)] at c10; omega
    · refine zi_ild1 dX9_bads_13 ?_
      refine zi_ald0 dX9_bads_14 ?_
      refine zi_ild2 dX9_bads_15 ?_
      refine zi_cV1i vmX9_isBad lkX9_120 dX9_bads_16 (by first | assumption | decide) (Nat.le_of_ble_eq_true rfl) (c9_isBad (hR.cg hS.w) (show i < 1458 by omega)) ?_
      rintro _ τ1 ⟨rfl, hS1⟩
      refine zi_if_eq 26 dX9_bads_19 (by decide) (fun c19 => ?_) (fun c19 => ?_)
      · refine zi_iconst (nI 0) dX9_bads_26 (by decide) ?_
        refine zi_iadd dX9_bads_27 ?_
        refine zi_ist1 dX9_bads_28 (Nat.le_of_ble_eq_true rfl) rfl ?_
        refine zi_inc2 (nI 1) dX9_bads_29 (by decide) (Nat.le_of_ble_eq_true rfl) rfl ?_
        refine zi_goto 6 dX9_bads_32 (by decide) ?_
        have := ih (i + 1) τ1 (by omega) (hS.tr hS1)
        rw [show 729 + (i + 1) = 729 + i + 1 by omega] at this
        by_cases q : zy_bd fa go i = true
        · rw [zl_fs q] at this
          rw [if_pos q] at c19
          first
          | (exfalso; exact absurd c19 (by decide))
          | (rw [nI_add, nI_add]; exact this)
        · rw [zl_fn (by simpa using q)] at this
          rw [if_neg q] at c19
          first
          | (exfalso; exact absurd rfl c19)
          | (rw [nI_add, nI_add]; exact this)
      · refine zi_iconst (nI 1) dX9_bads_22 (by decide) ?_
        refine zi_goto 27 dX9_bads_23 (by decide) ?_
        refine zi_iadd dX9_bads_27 ?_
        refine zi_ist1 dX9_bads_28 (Nat.le_of_ble_eq_true rfl) rfl ?_
        refine zi_inc2 (nI 1) dX9_bads_29 (by decide) (Nat.le_of_ble_eq_true rfl) rfl ?_
        refine zi_goto 6 dX9_bads_32 (by decide) ?_
        have := ih (i + 1) τ1 (by omega) (hS.tr hS1)
        rw [show 729 + (i + 1) = 729 + i + 1 by omega] at this
        by_cases q : zy_bd fa go i = true
        · rw [zl_fs q] at this
          rw [if_pos q] at c19
          first
          | (exfalso; exact absurd c19 (by decide))
          | (rw [nI_add, nI_add]; exact this)
        · rw [zl_fn (by simpa using q)] at this
          rw [if_neg q] at c19
          first
          | (exfalso; exact absurd rfl c19)
          | (rw [nI_add, nI_add]; exact this)
theorem c9_bads (hR : zy_r σ 0 fa go) : zw_Ti l G (d + 8) mX9_bads [.ref 168] σ (fun x υ => x = nI (zj_f fa go zj_W).2.1 ∧ zy_S σ υ) := by
  refine zw_enter2 (L := [some _, none, none]) (by decide) (Nat.le_of_ble_eq_true rfl) rfl ?_
  refine zi_iconst (nI 0) dX9_bads_0 (by decide) ?_
  refine zi_ist1 dX9_bads_1 (Nat.le_of_ble_eq_true rfl) rfl ?_
  refine zi_sipush (nI 729) dX9_bads_2 (by decide) ?_
  refine zi_ist2 dX9_bads_5 (Nat.le_of_ble_eq_true rfl) rfl ?_
  refine zw_W.mono (l9_bads hR 1458 0 σ (by omega) zy_S.rf) ?_
  rintro x υ ⟨y, e1, e2, e3⟩
  exact ⟨y, e1, by rw [e2, zy_bd_n], e3⟩
theorem l9_firstBad (hR : zy_r σ 0 fa go) : ∀ n i τ, i + n = 1458 → (∀ j, j < i → zy_bd fa go j = false) → zy_S σ τ → zw_W l G (d + 8) mX9_firstBad 4 [some (.ref 168), some (.int (nI (729 + i)))] [] τ (fun x υ => ∃ y, x = some (.int y) ∧ y = zp_oI (zj_f fa go zj_W).2.2 ∧ zy_S σ υ) := by
  intro n
  induction n with
  | zero =>
    intro i τ hi hI hS
    refine zi_ild1 dX9_firstBad_4 ?_
    refine zi_sipush (nI 2187) dX9_firstBad_5 (by decide) ?_
    refine zi_icmp_ge 27 dX9_firstBad_8 (by decide) (fun c8 => ?_) (fun c8 => ?_)
    · refine zi_iconst (-1) dX9_firstBad_27 (by decide) ?_
      refine zi_iret dX9_firstBad_28 rfl ?_
      rw [zy_fb_none (fun j hj => hI j (by omega))]; exact ⟨_, rfl, rfl, hS⟩
    · rw [zn_le (by omega) (by omega)] at c8; omega
  | succ n ih =>
    intro i τ hi hI hS
    refine zi_ild1 dX9_firstBad_4 ?_
    refine zi_sipush (nI 2187) dX9_firstBad_5 (by decide) ?_
    refine zi_icmp_ge 27 dX9_firstBad_8 (by decide) (fun c8 => ?_) (fun c8 => ?_)
    · rw [zn_le (by omega) (by omega)] at c8; omega
    · refine zi_ald0 dX9_firstBad_11 ?_
      refine zi_ild1 dX9_firstBad_12 ?_
      refine zi_cV1i vmX9_isBad lkX9_120 dX9_firstBad_13 (by first | assumption | decide) (Nat.le_of_ble_eq_true rfl) (c9_isBad (hR.cg hS.w) (show i < 1458 by omega)) ?_
      rintro _ τ1 ⟨rfl, hS1⟩
      refine zi_if_eq 21 dX9_firstBad_16 (by decide) (fun c16 => ?_) (fun c16 => ?_)
      · refine zi_inc1 (nI 1) dX9_firstBad_21 (by decide) (Nat.le_of_ble_eq_true rfl) rfl ?_
        refine zi_goto 4 dX9_firstBad_24 (by decide) ?_
        have q : zy_bd fa go i = false := by
          cases q : zy_bd fa go i with
          | false => rfl
          | true => rw [if_pos q] at c16; exact absurd c16 (by decide)
        have := ih (i + 1) τ1 (by omega) (fun j hj => by
          by_cases e : j = i
          · rw [e]; exact q
          · exact hI j (by omega)) (hS.tr hS1)
        rw [nI_add]
        exact this
      · refine zi_ild1 dX9_firstBad_19 ?_
        refine zi_iret dX9_firstBad_20 rfl ?_
        have q : zy_bd fa go i = true := by
          cases q : zy_bd fa go i with
          | true => rfl
          | false => rw [if_neg (by rw [q]; decide)] at c16; exact absurd rfl c16
        rw [zy_fb_some (by omega) q hI]
        exact ⟨_, rfl, rfl, hS.tr hS1⟩
theorem c9_firstBad (hR : zy_r σ 0 fa go) : zw_Ti l G (d + 8) mX9_firstBad [.ref 168] σ (fun x υ => x = zp_oI (zj_f fa go zj_W).2.2 ∧ zy_S σ υ) := by
  refine zw_enter2 (L := [some _, none]) (by decide) (Nat.le_of_ble_eq_true rfl) rfl ?_
  refine zi_sipush (nI 729) dX9_firstBad_0 (by decide) ?_
  refine zi_ist1 dX9_firstBad_3 (Nat.le_of_ble_eq_true rfl) rfl ?_
  exact l9_firstBad hR 1458 0 σ (by omega) (fun j hj => by omega) zy_S.rf
end Z35
