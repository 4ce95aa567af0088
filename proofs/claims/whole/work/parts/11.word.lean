/-! words: a tree as it is typed, '.' 0, a 1, b 2 -/
/-- the word is just m trees -/
def zt_rd : Nat → List Nat → Prop
  | 0, [] => True
  | 0, _ :: _ => False
  | _ + 1, [] => False
  | m + 1, 0 :: l => zt_rd m l
  | m + 1, (_ + 1) :: l => zt_rd (m + 2) l
/-- how many letters the first m trees take -/
def zt_cn : Nat → List Nat → Nat
  | 0, _ => 0
  | _ + 1, [] => 0
  | m + 1, 0 :: l => 1 + zt_cn m l
  | m + 1, (_ + 1) :: l => 1 + zt_cn (m + 2) l
def zt_code (w : List Nat) : Nat := w.foldl (fun c x => 3 * c + x) 0
theorem zt_cn_le : ∀ (l : List Nat) (m : Nat), zt_cn m l ≤ l.length
  | [], m => by cases m <;> simp [zt_cn]
  | x :: l, 0 => by simp [zt_cn]
  | 0 :: l, m + 1 => by
    have := zt_cn_le l m
    simp [zt_cn]; omega
  | (x + 1) :: l, m + 1 => by
    have := zt_cn_le l (m + 2)
    simp [zt_cn]; omega
theorem zt_rd_split : ∀ (l : List Nat) (a b : Nat), zt_rd (a + b) l → zt_rd a (l.take (zt_cn a l)) ∧ zt_rd b (l.drop (zt_cn a l))
  | l, 0, b, h => by
    rw [Nat.zero_add] at h
    simpa [zt_cn, zt_rd] using h
  | [], a + 1, b, h => by
    rw [show a + 1 + b = (a + b) + 1 by omega] at h
    exact h.elim
  | 0 :: l, a + 1, b, h => by
    rw [show a + 1 + b = (a + b) + 1 by omega] at h
    have := zt_rd_split l a b h
    simpa [zt_cn, zt_rd, Nat.add_comm 1] using this
  | (x + 1) :: l, a + 1, b, h => by
    rw [show a + 1 + b = (a + b) + 1 by omega] at h
    have h2 : zt_rd (a + 2 + b) l := by
      rw [show a + 2 + b = a + b + 2 by omega]; exact h
    have := zt_rd_split l (a + 2) b h2
    simpa [zt_cn, zt_rd, Nat.add_comm 1] using this
theorem zt_rd_app : ∀ (l k : List Nat) (a b : Nat), zt_rd a l → zt_rd b k → zt_rd (a + b) (l ++ k)
  | [], k, 0, b, _, h2 => by rw [Nat.zero_add]; exact h2
  | [], k, a + 1, b, h1, _ => h1.elim
  | x :: l, k, 0, b, h1, _ => h1.elim
  | 0 :: l, k, a + 1, b, h1, h2 => by
    rw [show a + 1 + b = (a + b) + 1 by omega]
    exact zt_rd_app l k a b h1 h2
  | (x + 1) :: l, k, a + 1, b, h1, h2 => by
    rw [show a + 1 + b = (a + b) + 1 by omega]
    have := zt_rd_app l k (a + 2) b h1 h2
    rw [show a + 2 + b = a + b + 2 by omega] at this
    exact this
theorem zt_cn_app : ∀ (l k : List Nat) (a : Nat), zt_rd a l → zt_cn a (l ++ k) = l.length
  | [], k, 0, _ => by simp [zt_cn]
  | [], k, a + 1, h1 => h1.elim
  | x :: l, k, 0, h1 => h1.elim
  | 0 :: l, k, a + 1, h1 => by
    have := zt_cn_app l k a h1
    simp [zt_cn, this]; omega
  | (x + 1) :: l, k, a + 1, h1 => by
    have := zt_cn_app l k (a + 2) h1
    simp [zt_cn, this]; omega
theorem zt_cn_add : ∀ (l : List Nat) (a b : Nat), zt_rd (a + b) l ∨ (∃ c, zt_rd (a + b + c) l) → zt_cn (a + b) l = zt_cn a l + zt_cn b (l.drop (zt_cn a l))
  | l, 0, b, _ => by simp [zt_cn]
  | [], a + 1, b, h => by
    rw [show a + 1 + b = (a + b) + 1 by omega]
    simp only [zt_cn, List.drop_nil]
    cases b <;> simp [zt_cn]
  | 0 :: l, a + 1, b, h => by
    have e := zt_cn_add l a b (by
      rcases h with h | ⟨c, h⟩
      · left; rw [show a + 1 + b = (a + b) + 1 by omega] at h; exact h
      · right; refine ⟨c, ?_⟩; rw [show a + 1 + b + c = (a + b + c) + 1 by omega] at h; exact h)
    rw [show a + 1 + b = (a + b) + 1 by omega]
    simp only [zt_cn]
    rw [e, show 1 + zt_cn a l = zt_cn a l + 1 by omega, List.drop_succ_cons]
    omega
  | (x + 1) :: l, a + 1, b, h => by
    have e := zt_cn_add l (a + 2) b (by
      rcases h with h | ⟨c, h⟩
      · left; rw [show a + 1 + b = (a + b) + 1 by omega] at h; rw [show a + 2 + b = a + b + 2 by omega]; exact h
      · right; refine ⟨c, ?_⟩; rw [show a + 1 + b + c = (a + b + c) + 1 by omega] at h; rw [show a + 2 + b + c = a + b + c + 2 by omega]; exact h)
    rw [show a + 1 + b = (a + b) + 1 by omega]
    simp only [zt_cn]
    rw [show a + b + 2 = a + 2 + b by omega, e, show 1 + zt_cn (a + 2) l = zt_cn (a + 2) l + 1 by omega, List.drop_succ_cons]
    omega
/-- behind any place of a word of trees stand trees -/
theorem zt_rd_drop : ∀ (l : List Nat) (m i : Nat), zt_rd m l → i ≤ l.length → ∃ k, zt_rd k (l.drop i)
  | l, m, 0, h, _ => ⟨m, h⟩
  | [], m, i + 1, h, hi => by simp at hi
  | x :: l, 0, i + 1, h, hi => h.elim
  | 0 :: l, m + 1, i + 1, h, hi => by
    rw [List.drop_succ_cons]
    exact zt_rd_drop l m i h (by simpa using hi)
  | (x + 1) :: l, m + 1, i + 1, h, hi => by
    rw [List.drop_succ_cons]
    exact zt_rd_drop l (m + 2) i h (by simpa using hi)
theorem zt_rd_pos {m : Nat} {l : List Nat} (h : zt_rd m l) (hl : 0 < l.length) : 0 < m := by
  cases m with
  | zero =>
    cases l with
    | nil => simp at hl
    | cons x l => exact h.elim
  | succ m => exact Nat.succ_pos m
theorem zt_rd_ne {m : Nat} {l : List Nat} (h : zt_rd (m + 1) l) : 0 < l.length := by
  cases l with
  | nil => exact h.elim
  | cons x l => simp
/-- the letters of m trees are an even number more than m -/
theorem zt_rd_len : ∀ (l : List Nat) (m : Nat), zt_rd m l → ∃ n, l.length = 2 * n + m
  | [], 0, _ => ⟨0, rfl⟩
  | [], m + 1, h => h.elim
  | x :: l, 0, h => h.elim
  | 0 :: l, m + 1, h => by
    obtain ⟨n, hn⟩ := zt_rd_len l m h
    exact ⟨n, by rw [List.length_cons, hn]; omega⟩
  | (x + 1) :: l, m + 1, h => by
    obtain ⟨n, hn⟩ := zt_rd_len l (m + 2) h
    exact ⟨n + 1, by rw [List.length_cons, hn]; omega⟩
/-! codes -/
theorem zt_fold (w : List Nat) (c : Nat) : w.foldl (fun c x => 3 * c + x) c = c * 3 ^ w.length + zt_code w := by
  unfold zt_code
  induction w generalizing c with
  | nil => simp
  | cons x w ih =>
    rw [List.foldl_cons, List.foldl_cons, ih, ih (3 * 0 + x), List.length_cons, Nat.pow_succ, Nat.add_mul]
    rw [show 3 * c * 3 ^ w.length = c * (3 ^ w.length * 3) by rw [Nat.mul_comm 3 c, Nat.mul_assoc, Nat.mul_comm 3]]
    simp [Nat.add_assoc]
theorem zt_code_app (a b : List Nat) : zt_code (a ++ b) = zt_code a * 3 ^ b.length + zt_code b := by
  unfold zt_code
  rw [List.foldl_append]
  exact zt_fold b _
theorem zt_code_snoc (a : List Nat) (x : Nat) : zt_code (a ++ [x]) = 3 * zt_code a + x := by
  unfold zt_code
  rw [List.foldl_append]
  rfl
theorem zt_code_lt : ∀ (w : List Nat), (∀ x ∈ w, x < 3) → zt_code w < 3 ^ w.length
  | [], _ => by simp [zt_code]
  | x :: w, h => by
    have h1 := zt_code_lt w (fun y hy => h y (List.mem_cons_of_mem _ hy))
    have h2 : x < 3 := h x List.mem_cons_self
    have e : zt_code (x :: w) = x * 3 ^ w.length + zt_code w := by
      rw [show x :: w = [x] ++ w from rfl, zt_code_app]
      simp [zt_code]
    rw [e, List.length_cons, Nat.pow_succ]
    have h3 : x * 3 ^ w.length ≤ 2 * 3 ^ w.length := Nat.mul_le_mul_right _ (by omega)
    omega
theorem zt_code_small {w : List Nat} (h : ∀ x ∈ w, x < 3) (hl : w.length ≤ 13) : zt_code w < 1594323 := by
  have h1 := zt_code_lt w h
  have h2 : 3 ^ w.length ≤ 3 ^ 13 := Nat.pow_le_pow_right (by decide) hl
  have h3 : 3 ^ 13 = 1594323 := by decide
  omega
/-- the word has no letter 0 at its head, or is the leaf -/
def zt_nm (w : List Nat) : Prop := 0 < w.length ∧ (w.length = 1 ∨ w.getD 0 0 ≠ 0)
theorem zt_code_ge {w : List Nat} (h : zt_nm w) (hl : 2 ≤ w.length) : 3 ^ (w.length - 1) ≤ zt_code w := by
  cases w with
  | nil => simp at hl
  | cons x w =>
    rw [show x :: w = [x] ++ w from rfl, zt_code_app]
    have hx : x ≠ 0 := by
      rcases h.2 with q | q
      · omega
      · simpa using q
    have : zt_code [x] = x := by simp [zt_code]
    rw [this]
    simp only [List.length_append, List.length_cons, List.length_nil, Nat.zero_add, Nat.add_sub_cancel_left]
    have : 1 * 3 ^ w.length ≤ x * 3 ^ w.length := Nat.mul_le_mul_right _ (by omega)
    omega
/-- a digit by division -/
theorem zt_digit {w : List Nat} (h : ∀ x ∈ w, x < 3) {i : Nat} (hi : i < w.length) : zt_code w / 3 ^ (w.length - 1 - i) % 3 = w.getD i 0 := by
  have e : w = (w.take i ++ [w.getD i 0]) ++ w.drop (i + 1) := by
    rw [List.append_assoc]
    have : w.getD i 0 :: w.drop (i + 1) = w.drop i := by
      rw [List.drop_eq_getElem_cons hi, List.getD_eq_getElem?_getD, List.getElem?_eq_getElem hi]
      rfl
    rw [show [w.getD i 0] ++ w.drop (i + 1) = w.getD i 0 :: w.drop (i + 1) from rfl, this, List.take_append_drop]
  have hd : (w.drop (i + 1)).length = w.length - 1 - i := by rw [List.length_drop]; omega
  have hlt : zt_code (w.drop (i + 1)) < 3 ^ (w.length - 1 - i) := by
    rw [← hd]
    exact zt_code_lt _ (fun x hx => h x (List.mem_of_mem_drop hx))
  have hx : w.getD i 0 < 3 := by
    rw [List.getD_eq_getElem?_getD, List.getElem?_eq_getElem hi]
    exact h _ (List.getElem_mem hi)
  have e2 : zt_code w = (3 * zt_code (w.take i) + w.getD i 0) * 3 ^ (w.length - 1 - i) + zt_code (w.drop (i + 1)) := by
    have := congrArg zt_code e
    rw [zt_code_app, zt_code_snoc, hd] at this
    exact this
  rw [e2, Nat.mul_comm, Nat.mul_add_div (Nat.pow_pos (by decide)), Nat.div_eq_of_lt hlt]
  omega
theorem zl_getD {w : List Nat} {i : Nat} (hi : i < w.length) : w.getD i 0 = w[i] := by
  rw [List.getD_eq_getElem?_getD, List.getElem?_eq_getElem hi]; rfl
theorem zl_getD_no {w : List Nat} {i : Nat} (hi : w.length ≤ i) : w.getD i 0 = 0 := by
  rw [List.getD_eq_getElem?_getD, List.getElem?_eq_none hi]; rfl
theorem zl_getD_lt {w : List Nat} (h : ∀ x ∈ w, x < 3) (i : Nat) : w.getD i 0 < 3 := by
  rcases Nat.lt_or_ge i w.length with q | q
  · rw [zl_getD q]; exact h _ (List.getElem_mem q)
  · rw [zl_getD_no q]; omega
theorem zl_take_succ {w : List Nat} {i : Nat} (hi : i < w.length) : w.take (i + 1) = w.take i ++ [w.getD i 0] := by
  rw [List.take_succ, List.getElem?_eq_getElem hi, zl_getD hi]; rfl
theorem zl_drop {w : List Nat} {i : Nat} (hi : i < w.length) : w.drop i = w.getD i 0 :: w.drop (i + 1) := by
  rw [List.drop_eq_getElem_cons hi, zl_getD hi]
theorem zl_ext {v w : List Nat} (hl : v.length = w.length) (h : ∀ i, i < v.length → v.getD i 0 = w.getD i 0) : v = w := by
  apply List.ext_getElem hl
  intro i h1 h2
  have := h i h1
  rwa [zl_getD h1, zl_getD h2] at this
theorem zl_set {w : List Nat} {i x : Nat} (hi : i < w.length) (j : Nat) : (w.set i x).getD j 0 = if j = i then x else w.getD j 0 := by
  rw [List.getD_eq_getElem?_getD, List.getElem?_set, List.getD_eq_getElem?_getD]
  by_cases e : j = i
  · subst e
    simp [hi]
  · rw [if_neg (fun q => e q.symm), if_neg e]
theorem zl_app_lo {v w : List Nat} {i : Nat} (h : i < v.length) : (v ++ w).getD i 0 = v.getD i 0 := by
  rw [List.getD_eq_getElem?_getD, List.getElem?_append_left h, List.getD_eq_getElem?_getD]
theorem zl_app_hi {v w : List Nat} {i : Nat} (h : v.length ≤ i) : (v ++ w).getD i 0 = w.getD (i - v.length) 0 := by
  rw [List.getD_eq_getElem?_getD, List.getElem?_append_right h, List.getD_eq_getElem?_getD]
theorem zl_dropD (w : List Nat) (i j : Nat) : (w.drop i).getD j 0 = w.getD (i + j) 0 := by
  rw [List.getD_eq_getElem?_getD, List.getElem?_drop, List.getD_eq_getElem?_getD]
theorem zl_takeD {w : List Nat} {i j : Nat} (h : j < i) : (w.take i).getD j 0 = w.getD j 0 := by
  rw [List.getD_eq_getElem?_getD, List.getElem?_take, if_pos h, List.getD_eq_getElem?_getD]
