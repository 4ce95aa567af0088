/-! WHAT BOTH SIDES DO: shelf and rules; states ahead of the latest deeds, the newest first; images; text; fault; book; seed -/
abbrev zx_T : Type := zg_X × List zg_X × (Nat → Option (zg_X × Nat)) × List Nat × Option Nat × List (Nat × Int32) × Nat
def zx_UN : Int32 := -1000000001
def zx_OU : Int32 := -1000000002
def zx_NO : Int32 := -1000000003
def zx_FU : Int32 := -1000000004
def zx_ix (t : Int32) (n : Nat) : Option Nat := if t < nI 0 then none else if t.toNatClampNeg < n then some t.toNatClampNeg else none
theorem zx_ix_out {t : Int32} {n : Nat} (hn : n < 2147483648) (h : zn_out t n) : zx_ix t n = none := by
  unfold zx_ix
  rcases h with h | h
  · rw [if_pos h]
  · split
    · rfl
    · next q =>
      obtain ⟨j, hj, rfl⟩ := nI_of q
      rw [zn_le hn hj] at h
      rw [nI_clamp hj, if_neg (by omega)]
theorem zx_ix_in {j n : Nat} (hn : n < 2147483648) (h : j < n) : zx_ix (nI j) n = some j := by
  unfold zx_ix
  rw [if_neg (by rw [zn_neg j (by omega)]; exact id), nI_clamp (by omega), if_pos h]
/-- a deed: what was so is kept -/
def zx_dd (A : zx_T) (X : zg_X) : zx_T := (X, (A.1 :: A.2.1).take 20, A.2.2)
def zx_fg (c : Nat) : Option Nat := if c = 46 then some 0 else if c = 97 then some 1 else if c = 98 then some 2 else none
/-- the text read from place i on: m trees are missing, n nodes are there, w is the word so far: fault, its place, the word -/
def zx_rd : List Nat → Nat → Nat → Nat → List Nat → Nat × Option Nat × List Nat
  | [], i, m, _, w => if m = 0 then (0, none, w) else (1, some i, w)
  | c :: t, i, m, n, w => match zx_fg c with
    | none => (1, some i, w)
    | some x => if m = 0 then (1, some i, w) else if x = 0 then zx_rd t (i + 1) (m - 1) n (w ++ [0]) else if n = 6 then (2, some i, w) else zx_rd t (i + 1) (m + 1) (n + 1) (w ++ [x])
def zx_feed (A : zx_T) (c : Int32) : Int32 × zx_T := match zx_ix c 256 with
  | none => (zx_OU, A)
  | some k => if A.2.2.2.1.length = 30 then (zx_FU, A) else (nI (A.2.2.2.1.length + 1), A.1, A.2.1, A.2.2.1, A.2.2.2.1 ++ [k], A.2.2.2.2)
def zx_tell (A : zx_T) : Int32 × zx_T :=
  if A.1.1.length = 8 then (zx_FU, A) else
  if (zx_rd A.2.2.2.1 0 1 0 []).1 = 0 then (nI A.1.1.length, zx_dd (A.1, A.2.1, A.2.2.1, [], (zx_rd A.2.2.2.1 0 1 0 []).2.1, A.2.2.2.2.2) (A.1.1 ++ [((zx_rd A.2.2.2.1 0 1 0 []).2.2, nI 1)], A.1.2))
  else (-10 - nI (zx_rd A.2.2.2.1 0 1 0 []).1, A.1, A.2.1, A.2.2.1, [], (zx_rd A.2.2.2.1 0 1 0 []).2.1, A.2.2.2.2.2)
def zx_own (X : zg_X) : Bool := (List.range 8).all (fun p => zr_df X.2.1 X.2.2 p == X.2.1 p)
def zx_told (A : zx_T) (k : Int32) : Int32 := match zx_ix k 10 with
  | none => zx_OU
  | some 0 => nI A.1.1.length
  | some 1 => nI A.2.2.2.1.length
  | some 2 => nI (zj_f A.1.2.1 A.1.2.2 zj_W).1
  | some 3 => nI (zj_f A.1.2.1 A.1.2.2 zj_W).2.1
  | some 4 => zp_oI (zj_f A.1.2.1 A.1.2.2 zj_W).2.2
  | some 5 => if (zj_f A.1.2.1 A.1.2.2 zj_W).2.1 = 0 then nI 1 else nI 0
  | some 6 => if zx_own A.1 then nI 1 else nI 0
  | some 7 => nI A.2.2.2.2.2.1.length
  | some 8 => zp_oI (zb_w A.1.1 A.2.2.2.2.2.1)
  | some _ => nI A.2.1.length
/-- of a tree made plain: steps, code, sign and one -/
def zx_mp (X : zg_X) (x : zg_T) (k : Nat) : Int32 := match zt_pl X.2.1 X.2.2 60 0 x.1 x.2 with
  | none => -1
  | some (n, w, s) => if k = 4 then nI n else if k = 5 then nI (zt_code w) else s + nI 1
def zx_tree (A : zx_T) (t k : Int32) : Int32 := match zx_ix t A.1.1.length with
  | none => zx_UN
  | some j => match zx_ix k 9 with
    | none => zx_OU
    | some 0 => nI (zt_code (A.1.1.getD j zg_d).1)
    | some 1 => (A.1.1.getD j zg_d).2 + nI 1
    | some 2 => nI (((A.1.1.getD j zg_d).1.length - 1) / 2)
    | some 3 => nI (zt_sp A.1.2.1 (A.1.1.getD j zg_d).1).length
    | some 4 => zx_mp A.1 (A.1.1.getD j zg_d) 4
    | some 5 => zx_mp A.1 (A.1.1.getD j zg_d) 5
    | some 6 => zx_mp A.1 (A.1.1.getD j zg_d) 6
    | some 7 => nI (zt_code (zm_r (A.1.1.getD j zg_d).1))
    | some _ => nI (zh_m (A.1.1.getD j zg_d).1 (A.1.1.getD j zg_d).1.length)
def zx_pattern (A : zx_T) (p k : Int32) : Int32 := match zx_ix p 8 with
  | none => zx_UN
  | some j => match zx_ix k 3 with
    | none => zx_OU
    | some 0 => nI (A.1.2.1 j)
    | some 1 => zp_gI (A.1.2.2 j)
    | some _ => zp_gI (zr_mk A.1.2.2 j 8)
def zx_same (A : zx_T) (t u : Int32) : Int32 := match zx_ix t A.1.1.length, zx_ix u A.1.1.length with
  | some i, some j => match zt_pl A.1.2.1 A.1.2.2 60 0 (A.1.1.getD i zg_d).1 (A.1.1.getD i zg_d).2, zt_pl A.1.2.1 A.1.2.2 60 0 (A.1.1.getD j zg_d).1 (A.1.1.getD j zg_d).2 with
    | some x, some y => if x.2.2 = y.2.2 ∧ zt_code x.2.1 = zt_code y.2.1 then nI 1 else nI 0
    | _, _ => -1
  | _, _ => zx_UN
def zx_count (A : zx_T) (n : Int32) : Int64 := match zx_ix n 8 with
  | none => -1000000002
  | some 0 => -1000000002
  | some k => zk_P A.1.2.1 k
def zx_undone (A : zx_T) (n : Int32) : Int64 := match zx_ix n 8 with
  | none => -1000000002
  | some 0 => -1000000002
  | some k => zk_un (zk_P A.1.2.1) 6 k
def zx_graft (A : zx_T) (t i u : Int32) : Int32 × zx_T := match zx_ix t A.1.1.length, zx_ix u A.1.1.length with
  | some a, some b => match zp_at (zt_lv (A.1.1.getD a zg_d).1) i with
    | none => (zx_UN, A)
    | some j => if A.1.1.length = 8 then (zx_FU, A) else
      if ((A.1.1.getD a zg_d).1.length - 1) / 2 + ((A.1.1.getD b zg_d).1.length - 1) / 2 ≤ 6 ∧ (A.1.1.getD a zg_d).2 ≠ nI 0 ∧ (A.1.1.getD b zg_d).2 ≠ nI 0 then
        (nI A.1.1.length, zx_dd A (A.1.1 ++ [((A.1.1.getD a zg_d).1.take j ++ (A.1.1.getD b zg_d).1 ++ (A.1.1.getD a zg_d).1.drop (j + 1), (A.1.1.getD a zg_d).2 * (A.1.1.getD b zg_d).2)], A.1.2))
      else (zx_NO, A)
  | _, _ => (zx_UN, A)
def zx_step (A : zx_T) (t k : Int32) : Int32 × zx_T := match zx_ix t A.1.1.length with
  | none => (zx_UN, A)
  | some a => match zp_at (zt_sp A.1.2.1 (A.1.1.getD a zg_d).1) k with
    | none => (zx_OU, A)
    | some j => (nI (zt_sp A.1.2.1 (zt_st A.1.2.1 A.1.2.2 (A.1.1.getD a zg_d).1 (A.1.1.getD a zg_d).2 j).1).length, zx_dd A (A.1.1.set a (zt_st A.1.2.1 A.1.2.2 (A.1.1.getD a zg_d).1 (A.1.1.getD a zg_d).2 j), A.1.2))
def zx_plain (A : zx_T) (t : Int32) : Int32 × zx_T := match zx_ix t A.1.1.length with
  | none => (zx_UN, A)
  | some a => match zt_pl A.1.2.1 A.1.2.2 60 0 (A.1.1.getD a zg_d).1 (A.1.1.getD a zg_d).2 with
    | none => (zx_NO, A)
    | some x => (nI x.1, zx_dd A (A.1.1.set a x.2, A.1.2))
def zx_mirror (A : zx_T) (t : Int32) : Int32 × zx_T := match zx_ix t A.1.1.length with
  | none => (zx_UN, A)
  | some a => (nI (zt_code (zm_r (A.1.1.getD a zg_d).1)), zx_dd A (A.1.1.set a (zm_r (A.1.1.getD a zg_d).1, (A.1.1.getD a zg_d).2), A.1.2))
def zx_take (A : zx_T) (t : Int32) : Int32 × zx_T := match zx_ix t A.1.1.length with
  | none => (zx_UN, A)
  | some a => (nI (A.1.1.length - 1), zx_dd A (A.1.1.eraseIdx a, A.1.2))
def zx_fate (A : zx_T) (p v q : Int32) : Int32 × zx_T := match zx_ix p 8 with
  | none => (zx_UN, A)
  | some a => match zx_ix v 4 with
    | none => (zx_OU, A)
    | some k => match zx_ix q 8 with
      | none => if 2 ≤ k then (zx_UN, A) else if zr_al A.1.2.1 A.1.2.2 a k 0 then (nI (A.1.2.1 a), zx_dd A (A.1.1, zr_up A.1.2.1 a k, zr_up A.1.2.2 a 8)) else (zx_NO, A)
      | some b => if zr_al A.1.2.1 A.1.2.2 a k b then (nI (A.1.2.1 a), zx_dd A (A.1.1, zr_up A.1.2.1 a k, zr_up A.1.2.2 a (if 2 ≤ k then b else 8))) else (zx_NO, A)
def zx_dual (A : zx_T) : Int32 × zx_T := (nI (zj_f (zr_df A.1.2.1 A.1.2.2) A.1.2.2 zj_W).2.1, zx_dd A (A.1.1, zr_df A.1.2.1 A.1.2.2, A.1.2.2))
def zx_clear (A : zx_T) : Int32 × zx_T := (nI (zr_bd A.1.2.1 8), zx_dd A (A.1.1, fun _ => 0, fun _ => 8))
def zx_sd (s : Nat) : Nat := (s * 1103515245 + 12345) % 2147483648
def zx_dr (s n : Nat) : Nat := zx_sd s / 65536 % n
/-- nodes put on leaves by draws: the word, the seed -/
def zx_gG (sd : Nat → Nat) (dr : Nat → Nat → Nat) : Nat → List Nat → Nat → List Nat × Nat
  | 0, w, s => (w, s)
  | k + 1, w, s => zx_gG sd dr k (w.take ((zt_lv w).getD (dr s ((w.length - 1) / 2 + 1)) 0) ++ [dr (sd s) 2 + 1, 0, 0] ++ w.drop ((zt_lv w).getD (dr s ((w.length - 1) / 2 + 1)) 0 + 1)) (sd (sd s))
def zx_gr (k : Nat) (w : List Nat) (s : Nat) : List Nat × Nat := zx_gG zx_sd zx_dr k w s
def zx_ch (A : zx_T) : zx_T := zx_dd (A.1, A.2.1, A.2.2.1, A.2.2.2.1, A.2.2.2.2.1, A.2.2.2.2.2.1, (zx_gr (zx_dr A.2.2.2.2.2.2 5) [zx_dr (zx_sd A.2.2.2.2.2.2) 2 + 1, 0, 0] (zx_sd (zx_sd A.2.2.2.2.2.2))).2) (A.1.1 ++ [((zx_gr (zx_dr A.2.2.2.2.2.2 5) [zx_dr (zx_sd A.2.2.2.2.2.2) 2 + 1, 0, 0] (zx_sd (zx_sd A.2.2.2.2.2.2))).1, nI 1)], A.1.2)
def zx_dn : Nat → zx_T → zx_T
  | 0, A => A
  | n + 1, A => if A.1.1.length = 8 then A else zx_dn n (zx_ch A)
def zx_drift (A : zx_T) (n : Int32) : Int32 × zx_T := match zx_ix n 9 with
  | none => (zx_OU, A)
  | some 0 => (zx_OU, A)
  | some k => (nI (zx_dn k A).1.1.length, zx_dn k A)
def zx_undo (A : zx_T) (n : Int32) : Int32 × zx_T := match zx_ix n 21 with
  | none => (zx_OU, A)
  | some 0 => (zx_OU, A)
  | some (k + 1) => match A.2.1[k]? with
    | none => (zx_NO, A)
    | some X => (nI X.1.length, X, A.2.1.drop (k + 1), A.2.2)
def zx_write (A : zx_T) (t c : Int32) : Int32 × zx_T := match zx_ix t A.1.1.length with
  | none => (zx_UN, A)
  | some a => if A.2.2.2.2.2.1.length = 20 then (zx_FU, A) else (nI (A.2.2.2.2.2.1.length + 1), A.1, A.2.1, A.2.2.1, A.2.2.2.1, A.2.2.2.2.1, A.2.2.2.2.2.1 ++ [(a, c)], A.2.2.2.2.2.2)
def zx_tear (A : zx_T) : Int32 × zx_T := (nI A.2.2.2.2.2.1.length, A.1, A.2.1, A.2.2.1, A.2.2.2.1, A.2.2.2.2.1, [], A.2.2.2.2.2.2)
def zx_seed (A : zx_T) (v : Int32) : Int32 × zx_T := if v < nI 0 then (zx_OU, A) else (nI A.2.2.2.2.2.2, A.1, A.2.1, A.2.2.1, A.2.2.2.1, A.2.2.2.2.1, A.2.2.2.2.2.1, v.toNatClampNeg)
def zx_keep (A : zx_T) (i : Int32) : Int32 × zx_T := match zx_ix i 2 with
  | none => (zx_UN, A)
  | some k => (nI 1, A.1, [], (fun j => if j = k then some (A.1, A.2.2.2.2.2.2) else A.2.2.1 j), A.2.2.2)
def zx_goBack (A : zx_T) (i : Int32) : Int32 × zx_T := match zx_ix i 2 with
  | none => (zx_UN, A)
  | some k => match A.2.2.1 k with
    | none => (zx_NO, A)
    | some x => (nI 1, x.1, [], A.2.2.1, A.2.2.2.1, A.2.2.2.2.1, A.2.2.2.2.2.1, x.2)
/-! the class holds it -/
def zx_I (σ : zw_S) (i : Nat) (o : Option (zg_X × Nat)) : Prop := match o with
  | none => σ.1 (154 + 7 * i) 2 = nI 0
  | some x => σ.1 (154 + 7 * i) 2 = nI 1 ∧ σ.1 (154 + 7 * i) 1 = nI x.2 ∧ zg_V σ (155 + 7 * i) x.1 ∧ x.2 < 2147483648
def zx_Tx (σ : zw_S) (T : List Nat) : Prop := T.length ≤ 30 ∧ (∀ c ∈ T, c < 256) ∧ σ.1 0 9 = nI T.length ∧ ∀ j, j < T.length → σ.1 153 j = nI (T.getD j 0)
def zx_V (σ : zw_S) (A : zx_T) : Prop := zg_V σ 1 A.1 ∧ (∃ nx, zq_V σ nx A.2.1) ∧ (∀ i, i < 2 → zx_I σ i (A.2.2.1 i)) ∧ zx_Tx σ A.2.2.2.1 ∧ σ.1 0 10 = zp_oI A.2.2.2.2.1 ∧ zb_V σ A.2.2.2.2.2.1 ∧ A.2.2.2.2.2.2 < 2147483648 ∧ σ.1 0 11 = nI A.2.2.2.2.2.2
/-- the model's cells stay -/
def zx_F (σ τ : zw_S) : Prop := ∀ o, 168 ≤ o → τ.1 o = σ.1 o ∧ τ.2 o = σ.2 o
theorem zx_F.rf {σ : zw_S} : zx_F σ σ := fun _ _ => ⟨rfl, rfl⟩
theorem zx_F.tr {σ τ υ : zw_S} (h1 : zx_F σ τ) (h2 : zx_F τ υ) : zx_F σ υ := fun o ho => ⟨(h2 o ho).1.trans (h1 o ho).1, (h2 o ho).2.trans (h1 o ho).2⟩
theorem zx_F.of {A : Nat → Prop} {σ τ : zw_S} (h : zw_F A σ τ) (ha : ∀ o, A o → o < 168) : zx_F σ τ := fun o ho => ⟨h.2 o (fun q => by have := ha o q; omega), by rw [h.1]⟩
theorem zx_F.ofL {A : Nat → Prop} {σ τ : zw_S} (h : zL_F A σ τ) (ha : ∀ o, A o → o < 168) : zx_F σ τ := fun o ho => ⟨by rw [h.1], h.2 o (fun q => by have := ha o q; omega)⟩
/-- the cells that hold nothing that lasts -/
def zx_sc : Nat → Prop := fun o => (133 ≤ o ∧ o < 153)
theorem zx_I.cg {σ τ : zw_S} {i : Nat} {o : Option (zg_X × Nat)} (h : zx_I σ i o) (hF : ∀ k, 154 + 7 * i ≤ k → k < 161 + 7 * i → τ.1 k = σ.1 k) : zx_I τ i o := by
  cases o with
  | none => show τ.1 _ 2 = _; rw [hF _ (by omega) (by omega)]; exact h
  | some x =>
    obtain ⟨h1, h2, h3, h4⟩ := h
    exact ⟨by rw [hF _ (by omega) (by omega)]; exact h1, by rw [hF _ (by omega) (by omega)]; exact h2, h3.cg (fun k a b => hF k (by omega) (by omega)), h4⟩
theorem zx_Tx.cg {σ τ : zw_S} {T : List Nat} (h : zx_Tx σ T) (h1 : τ.1 0 9 = σ.1 0 9) (h2 : τ.1 153 = σ.1 153) : zx_Tx τ T := ⟨h.1, h.2.1, by rw [h1]; exact h.2.2.1, fun j hj => by rw [h2]; exact h.2.2.2 j hj⟩
theorem zx_V.cg {σ τ : zw_S} {A : zx_T} (h : zx_V σ A) (hF : ∀ o, ¬ zx_sc o → o < 168 → τ.1 o = σ.1 o) : zx_V τ A := by
  obtain ⟨h1, ⟨nx, h2⟩, h3, h4, h5, h6, h7, h8⟩ := h
  have e0 := hF 0 (by unfold zx_sc; omega) (by omega)
  refine ⟨h1.cg (fun o a b => hF o (by unfold zx_sc; omega) (by omega)), ⟨nx, ?_⟩, fun i hi => (h3 i hi).cg (fun k a b => hF k (by unfold zx_sc; omega) (by omega)), h4.cg (by rw [e0]) (hF _ (by unfold zx_sc; omega) (by omega)), by rw [e0]; exact h5, ?_, h7, by rw [e0]; exact h8⟩
  · obtain ⟨a1, a2, a3, a4, a5⟩ := h2
    refine ⟨a1, a2, by rw [hF 7 (by unfold zx_sc; omega) (by omega)]; exact a3, by rw [hF 7 (by unfold zx_sc; omega) (by omega)]; exact a4, fun j hj => (a5 j hj).cg (fun o p q => ?_)⟩
    unfold zq_sl at p q
    exact hF o (by unfold zx_sc; omega) (by omega)
  · obtain ⟨a1, a2, a3⟩ := h6
    refine ⟨a1, by rw [hF 130 (by unfold zx_sc; omega) (by omega)]; exact a2, fun i hi => ?_⟩
    rw [hF 131 (by unfold zx_sc; omega) (by omega), hF 132 (by unfold zx_sc; omega) (by omega)]
    exact a3 i hi
