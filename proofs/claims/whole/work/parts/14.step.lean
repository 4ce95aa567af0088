/-! places, steps, made plain: the words of both sides -/
def zt_br (w : List Nat) (n side : Nat) : Nat := if side = 0 then n + 1 else n + 1 + zt_cn 1 (w.drop (n + 1))
/-- the pattern at spot k (twice the node, and the side): 8, none -/
def zt_pat (w : List Nat) (k : Nat) : Nat := if w.getD (k / 2) 0 = 0 then 8 else if w.getD (zt_br w (k / 2) (k % 2)) 0 = 0 then 8 else 4 * (w.getD (k / 2) 0 - 1) + 2 * (w.getD (zt_br w (k / 2) (k % 2)) 0 - 1) + k % 2
def zt_bi (fa : Nat → Nat) (w : List Nat) (k : Nat) : Bool := decide (zt_pat w k < 8) && fa (zt_pat w k) != 0
/-- the places, by spots -/
def zt_sp (fa : Nat → Nat) (w : List Nat) : List Nat := (List.range (2 * w.length)).filter (zt_bi fa w)
/-- how long the first of the three branches is, and where it begins -/
def zt_a (w : List Nat) (k : Nat) : Nat := if k % 2 = 0 then zt_cn 1 (w.drop (k / 2 + 2)) else zt_cn 1 (w.drop (k / 2 + 1))
def zt_b (k : Nat) : Nat := if k % 2 = 0 then k / 2 + 2 else k / 2 + 1
/-- the pattern at spot k becomes g -/
def zt_rb (w : List Nat) (k g : Nat) : List Nat := w.take (k / 2) ++ ((g / 4 + 1) :: (if g % 2 = 0 then (g / 2 % 2 + 1) :: (w.drop (zt_b k)).take (zt_a w k) else (w.drop (zt_b k)).take (zt_a w k) ++ [g / 2 % 2 + 1])) ++ w.drop (k / 2 + 2 + zt_a w k)
/-- a step at spot k -/
def zt_st (fa go : Nat → Nat) (w : List Nat) (s : Int32) (k : Nat) : List Nat × Int32 := if fa (zt_pat w k) = 1 then ([0], nI 0) else (zt_rb w k (go (zt_pat w k)), if fa (zt_pat w k) = 3 then -s else s)
/-- made plain, with at most f steps more: steps, word, sign -/
def zt_pl (fa go : Nat → Nat) : Nat → Nat → List Nat → Int32 → Option (Nat × List Nat × Int32)
  | 0, n, w, s => match zt_sp fa w with
    | [] => some (n, w, s)
    | _ :: _ => none
  | f + 1, n, w, s => match zt_sp fa w with
    | [] => some (n, w, s)
    | k :: _ => zt_pl fa go f (n + 1) (zt_st fa go w s k).1 (zt_st fa go w s k).2
/-- a word that is one tree of six nodes at most -/
def zt_wd (w : List Nat) : Prop := zt_rd 1 w ∧ (∀ x ∈ w, x < 3) ∧ w.length ≤ 13
theorem zt_wd.nm {w : List Nat} (h : zt_wd w) : zt_nm w := by
  obtain ⟨h1, h2, h3⟩ := h
  cases w with
  | nil => exact h1.elim
  | cons x w =>
    refine ⟨by simp, ?_⟩
    cases x with
    | zero =>
      left
      cases w with
      | nil => rfl
      | cons y w => exact h1.elim
    | succ x => right; simp
theorem zt_wd.pos {w : List Nat} (h : zt_wd w) : 1 ≤ w.length := zt_rd_ne h.1
theorem zt_wd.odd {w : List Nat} (h : zt_wd w) : ∃ n, w.length = 2 * n + 1 ∧ n ≤ 6 := by
  obtain ⟨n, hn⟩ := zt_rd_len w 1 h.1
  exact ⟨n, hn, by have := h.2.2; omega⟩
theorem zt_leaf_wd : zt_wd [0] := ⟨trivial, by decide, by decide⟩
theorem zt_pat_le {w : List Nat} (h : ∀ x ∈ w, x < 3) (k : Nat) : zt_pat w k ≤ 8 := by
  have h1 := zl_getD_lt h (k / 2)
  have h2 := zl_getD_lt h (zt_br w (k / 2) (k % 2))
  unfold zt_pat
  split
  · omega
  · split <;> omega
/-- where a pattern stands: two nodes, three branches -/
theorem zt_core {w : List Nat} {k j : Nat} (hp : zt_pat w k < 8) (hj : zt_rd j (w.drop (k / 2))) : ∃ j', j = j' + 1 ∧ zt_rd 1 ((w.drop (zt_b k)).take (zt_a w k)) ∧ zt_rd (j' + 2) (w.drop (k / 2 + 2 + zt_a w k)) ∧ k / 2 + 2 + zt_a w k ≤ w.length ∧ w.getD (k / 2) 0 ≠ 0 ∧ w.getD (zt_br w (k / 2) (k % 2)) 0 ≠ 0 := by
  have hx : w.getD (k / 2) 0 ≠ 0 := by
    intro q; unfold zt_pat at hp; rw [if_pos q] at hp; omega
  have hy : w.getD (zt_br w (k / 2) (k % 2)) 0 ≠ 0 := by
    intro q; unfold zt_pat at hp; rw [if_neg hx, if_pos q] at hp; omega
  have hn : k / 2 < w.length := by
    rcases Nat.lt_or_ge (k / 2) w.length with q | q
    · exact q
    · exact absurd (zl_getD_no q) hx
  have hm : zt_br w (k / 2) (k % 2) < w.length := by
    rcases Nat.lt_or_ge (zt_br w (k / 2) (k % 2)) w.length with q | q
    · exact q
    · exact absurd (zl_getD_no q) hy
  rw [zl_drop hn] at hj
  obtain ⟨x, ex⟩ : ∃ x, w.getD (k / 2) 0 = x + 1 := ⟨w.getD (k / 2) 0 - 1, by omega⟩
  rw [ex] at hj
  cases j with
  | zero => exact hj.elim
  | succ j =>
    have hj : zt_rd (j + 2) (w.drop (k / 2 + 1)) := hj
    refine ⟨j, rfl, ?_⟩
    by_cases e : k % 2 = 0
    · have eb : zt_br w (k / 2) (k % 2) = k / 2 + 1 := by unfold zt_br; rw [if_pos e]
      have ea : zt_a w k = zt_cn 1 (w.drop (k / 2 + 2)) := by unfold zt_a; rw [if_pos e]
      have e2 : zt_b k = k / 2 + 2 := by unfold zt_b; rw [if_pos e]
      rw [eb] at hy hm ⊢
      rw [zl_drop hm] at hj
      obtain ⟨y, ey⟩ : ∃ y, w.getD (k / 2 + 1) 0 = y + 1 := ⟨w.getD (k / 2 + 1) 0 - 1, by omega⟩
      rw [ey] at hj
      have hj : zt_rd (1 + (j + 2)) (w.drop (k / 2 + 2)) := by
        rw [show 1 + (j + 2) = j + 1 + 2 by omega]; exact hj
      obtain ⟨s1, s2⟩ := zt_rd_split _ 1 (j + 2) hj
      have hle := zt_cn_le (w.drop (k / 2 + 2)) 1
      rw [List.length_drop] at hle
      rw [List.drop_drop] at s2
      rw [ea, e2]
      exact ⟨s1, s2, by omega, hx, hy⟩
    · have eb : zt_br w (k / 2) (k % 2) = k / 2 + 1 + zt_cn 1 (w.drop (k / 2 + 1)) := by unfold zt_br; rw [if_neg e]
      have ea : zt_a w k = zt_cn 1 (w.drop (k / 2 + 1)) := by unfold zt_a; rw [if_neg e]
      have e2 : zt_b k = k / 2 + 1 := by unfold zt_b; rw [if_neg e]
      rw [eb] at hy hm ⊢
      have hj : zt_rd (1 + (j + 1)) (w.drop (k / 2 + 1)) := by
        rw [show 1 + (j + 1) = j + 2 by omega]; exact hj
      obtain ⟨s1, s2⟩ := zt_rd_split _ 1 (j + 1) hj
      rw [List.drop_drop, zl_drop hm] at s2
      obtain ⟨y, ey⟩ : ∃ y, w.getD (k / 2 + 1 + zt_cn 1 (w.drop (k / 2 + 1))) 0 = y + 1 := ⟨w.getD (k / 2 + 1 + zt_cn 1 (w.drop (k / 2 + 1))) 0 - 1, by omega⟩
      rw [ey] at s2
      have s2 : zt_rd (j + 2) (w.drop (k / 2 + 1 + zt_cn 1 (w.drop (k / 2 + 1)) + 1)) := s2
      rw [ea, e2, show k / 2 + 2 + zt_cn 1 (w.drop (k / 2 + 1)) = k / 2 + 1 + zt_cn 1 (w.drop (k / 2 + 1)) + 1 by omega]
      exact ⟨s1, s2, by omega, hx, hy⟩
theorem zt_rd_repl : ∀ (u v v' : List Nat) (m : Nat), zt_rd m (u ++ v) → (∀ j, zt_rd j v → zt_rd j v') → zt_rd m (u ++ v')
  | [], v, v', m, h, hj => hj m h
  | x :: u, v, v', 0, h, hj => h.elim
  | 0 :: u, v, v', m + 1, h, hj => zt_rd_repl u v v' m h hj
  | (x + 1) :: u, v, v', m + 1, h, hj => zt_rd_repl u v v' (m + 2) h hj
theorem zt_wd_drop {w : List Nat} (h : zt_rd 1 w) {i : Nat} (hi : i ≤ w.length) : ∃ j, zt_rd j (w.drop i) := zt_rd_drop w 1 i h hi
theorem zt_pat_lt {w : List Nat} {k : Nat} (hp : zt_pat w k < 8) : k / 2 < w.length := by
  rcases Nat.lt_or_ge (k / 2) w.length with q | q
  · exact q
  · unfold zt_pat at hp; rw [if_pos (zl_getD_no q)] at hp; omega
theorem zt_rb_len {w : List Nat} {k g : Nat} (h : k / 2 + 2 + zt_a w k ≤ w.length) : (zt_rb w k g).length = w.length := by
  have hb : ((w.drop (zt_b k)).take (zt_a w k)).length = zt_a w k := by
    rw [List.length_take, List.length_drop]
    unfold zt_b
    split <;> omega
  unfold zt_rb
  rw [List.length_append, List.length_append, List.length_take, List.length_drop, List.length_cons]
  split
  · rw [List.length_cons, hb]; omega
  · rw [List.length_append, List.length_singleton, hb]; omega
theorem zt_rb_wd {w : List Nat} {k g : Nat} (h : zt_wd w) (hp : zt_pat w k < 8) (hg : g < 8) : zt_wd (zt_rb w k g) := by
  obtain ⟨h1, h2, h3⟩ := h
  have hn := zt_pat_lt hp
  obtain ⟨j0, hj0⟩ := zt_wd_drop h1 (Nat.le_of_lt hn)
  obtain ⟨-, -, -, -, hlen, hx, hy⟩ := zt_core hp hj0
  refine ⟨?_, ?_, by rw [zt_rb_len hlen]; exact h3⟩
  · have e : w = w.take (k / 2) ++ w.drop (k / 2) := (List.take_append_drop _ _).symm
    unfold zt_rb
    rw [List.append_assoc]
    refine zt_rd_repl (w.take (k / 2)) (w.drop (k / 2)) _ 1 (by rw [← e]; exact h1) (fun j hj => ?_)
    obtain ⟨j', rfl, s1, s2, -, -, -⟩ := zt_core hp hj
    show zt_rd (j' + 2) ((if g % 2 = 0 then (g / 2 % 2 + 1) :: (w.drop (zt_b k)).take (zt_a w k) else (w.drop (zt_b k)).take (zt_a w k) ++ [g / 2 % 2 + 1]) ++ w.drop (k / 2 + 2 + zt_a w k))
    split
    · show zt_rd (j' + 1 + 2) ((w.drop (zt_b k)).take (zt_a w k) ++ w.drop (k / 2 + 2 + zt_a w k))
      have := zt_rd_app _ _ _ _ s1 s2
      rw [show 1 + (j' + 2) = j' + 1 + 2 by omega] at this
      exact this
    · rw [List.append_assoc]
      have s3 : zt_rd (j' + 1) ([g / 2 % 2 + 1] ++ w.drop (k / 2 + 2 + zt_a w k)) := s2
      have := zt_rd_app _ _ _ _ s1 s3
      rw [show 1 + (j' + 1) = j' + 2 by omega] at this
      exact this
  · have hA : ∀ x ∈ (w.drop (zt_b k)).take (zt_a w k), x < 3 := fun x hx => h2 x (List.mem_of_mem_drop (List.mem_of_mem_take hx))
    intro x hx
    unfold zt_rb at hx
    rcases List.mem_append.mp hx with hx | hx
    · rcases List.mem_append.mp hx with hx | hx
      · exact h2 x (List.mem_of_mem_take hx)
      · rcases List.mem_cons.mp hx with hx | hx
        · omega
        · split at hx
          · rcases List.mem_cons.mp hx with hx | hx
            · omega
            · exact hA x hx
          · rcases List.mem_append.mp hx with hx | hx
            · exact hA x hx
            · rw [List.mem_singleton] at hx
              omega
    · exact h2 x (List.mem_of_mem_drop hx)
theorem zt_st_wd {fa go : Nat → Nat} {w : List Nat} {s : Int32} {k : Nat} (h : zt_wd w) (hp : zt_pat w k < 8) (hg : fa (zt_pat w k) ≠ 1 → go (zt_pat w k) < 8) : zt_wd (zt_st fa go w s k).1 := by
  unfold zt_st
  split
  · exact zt_leaf_wd
  · next q => exact zt_rb_wd h hp (hg q)
/-- the rebuilt word, place by place -/
theorem zt_rb_at {w : List Nat} {k g : Nat} (h : k / 2 + 2 + zt_a w k ≤ w.length) (i : Nat) : (zt_rb w k g).getD i 0 =
    if i = k / 2 then g / 4 + 1 else if g % 2 = 0 then (if i = k / 2 + 1 then g / 2 % 2 + 1 else if k / 2 + 1 < i ∧ i < k / 2 + 2 + zt_a w k then w.getD (zt_b k + (i - (k / 2 + 2))) 0 else w.getD i 0)
    else (if i = k / 2 + 1 + zt_a w k then g / 2 % 2 + 1 else if k / 2 < i ∧ i < k / 2 + 1 + zt_a w k then w.getD (zt_b k + (i - (k / 2 + 1))) 0 else w.getD i 0) := by
  have hbl : zt_b k + zt_a w k ≤ w.length := by unfold zt_b; split <;> omega
  have hb : ((w.drop (zt_b k)).take (zt_a w k)).length = zt_a w k := by
    rw [List.length_take, List.length_drop]; omega
  have hA : ∀ j, j < zt_a w k → ((w.drop (zt_b k)).take (zt_a w k)).getD j 0 = w.getD (zt_b k + j) 0 := fun j hj => by
    rw [zl_takeD hj, zl_dropD]
  have hT : (w.take (k / 2)).length = k / 2 := by rw [List.length_take]; omega
  generalize hAA : (w.drop (zt_b k)).take (zt_a w k) = A at hb hA
  unfold zt_rb
  rw [hAA]
  rw [List.append_assoc]
  rcases Nat.lt_or_ge i (k / 2) with q | q
  · rw [zl_app_lo (by rw [hT]; exact q), zl_takeD q, if_neg (by omega)]
    by_cases g2 : g % 2 = 0
    · rw [if_pos g2, if_neg (by omega), if_neg (by omega)]
    · rw [if_neg g2, if_neg (by omega), if_neg (by omega)]
  · rw [zl_app_hi (by rw [hT]; exact q), hT]
    by_cases e : i = k / 2
    · rw [if_pos e, e, Nat.sub_self]; rfl
    · rw [if_neg e]
      obtain ⟨j, rfl⟩ : ∃ j, i = k / 2 + 1 + j := ⟨i - (k / 2 + 1), by omega⟩
      rw [show k / 2 + 1 + j - k / 2 = j + 1 by omega, List.cons_append, List.getD_cons_succ]
      by_cases g2 : g % 2 = 0
      · rw [if_pos g2, if_pos g2]
        cases j with
        | zero => rw [if_pos (by omega)]; rfl
        | succ j =>
          rw [List.cons_append, List.getD_cons_succ, if_neg (by omega)]
          rcases Nat.lt_or_ge j (zt_a w k) with r | r
          · rw [zl_app_lo (by omega), hA j r, if_pos (by omega)]
            congr 1; omega
          · rw [zl_app_hi (by omega), hb, zl_dropD, if_neg (by omega)]
            congr 1; omega
      · rw [if_neg g2, if_neg g2]
        rw [List.append_assoc]
        rcases Nat.lt_or_ge j (zt_a w k) with r | r
        · rw [zl_app_lo (by omega), hA j r, if_neg (by omega), if_pos (by omega)]
          congr 1; omega
        · rw [zl_app_hi (by omega), hb]
          by_cases r2 : j = zt_a w k
          · rw [r2, Nat.sub_self, if_pos rfl]; rfl
          · rw [show j - zt_a w k = (j - zt_a w k - 1) + 1 by omega, List.cons_append, List.getD_cons_succ, List.nil_append, zl_dropD, if_neg (by omega), if_neg (by omega)]
            congr 1; omega
