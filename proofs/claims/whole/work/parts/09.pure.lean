theorem zw_enter2 {l : Launch} {G : zw_G} {d : Nat} {M : zw_M} {as : List Value} {σ : zw_S} {P : Option Value → zw_S → Prop} {L : List (Option Value)} (hy : plainFor M.1 = true) (hl : (zw_eL as).length ≤ M.2.2.1) (hL : zw_eL as ++ List.replicate (M.2.2.1 - (zw_eL as).length) none = L) (k : zw_W l G d M 0 L [] σ P) : zw_T l G d M as σ P := by
  refine zw_enter hy hl (fun j v h => ?_) k
  rw [← hL] at h
  rcases Nat.lt_or_ge j (zw_eL as).length with q | q
  · rwa [List.getElem?_append_left q] at h
  · rw [List.getElem?_append_right q, List.getElem?_replicate] at h
    split at h <;> simp at h
/-! numbers -/
theorem zn_lt {a b : Nat} (ha : a < 2147483648) (hb : b < 2147483648) : (nI a < nI b) = (a < b) := propext (nI_ltI ha hb)
theorem zn_le {a b : Nat} (ha : a < 2147483648) (hb : b < 2147483648) : (nI a ≤ nI b) = (a ≤ b) := propext (nI_leI ha hb)
theorem zn_eq {a b : Nat} (ha : a < 2147483648) (hb : b < 2147483648) : (nI a = nI b) = (a = b) := propext (nI_eq ha hb)
theorem zn_0 : (0 : Int32) = nI 0 := rfl
theorem zn_1 : (1 : Int32) = nI 1 := rfl
theorem zn_m1 (a : Nat) (ha : a < 2147483648) : (nI a = -1) = False := by
  have : (nI a).toInt = a := nI_toInt ha
  refine eq_false (fun h => ?_)
  rw [h] at this
  have h2 : ((-1 : Int32)).toInt = -1 := rfl
  omega
theorem zn_m1' (a : Nat) (ha : a < 2147483648) : ((-1 : Int32) = nI a) = False := by
  exact eq_false (fun h => by have := zn_m1 a ha; rw [← this]; exact h.symm)
theorem zn_neg (a : Nat) (ha : a < 2147483648) : (nI a < nI 0) = False := by rw [zn_lt ha (by decide)]; exact eq_false (by omega)
theorem zn_m1lt : ((-1 : Int32) < nI 0) = True := by decide
/-- an int that is no index below n -/
def zn_out (x : Int32) (n : Nat) : Prop := x < nI 0 ∨ nI n ≤ x
theorem zn_case (x : Int32) {n : Nat} (hn : n < 2147483648) : zn_out x n ∨ ∃ j : Nat, j < n ∧ x = nI j := by
  rcases pk_ix x hn with h | h | h
  · exact Or.inl (Or.inl h)
  · exact Or.inl (Or.inr h)
  · exact Or.inr h
theorem zn_out_m1 (n : Nat) : zn_out (-1) n := Or.inl (by decide)
/-- a pattern, or none: 8 -/
def zp_gI (g : Nat) : Int32 := if g < 8 then nI g else -1
theorem zp_gI_lt {g : Nat} (h : g < 8) : zp_gI g = nI g := if_pos h
theorem zp_gI_no {g : Nat} (h : ¬ g < 8) : zp_gI g = -1 := if_neg h
theorem zp_gI_eq {g k : Nat} (hk : k < 8) : (zp_gI g = nI k) = (g = k) := by
  unfold zp_gI
  split
  · rw [zn_eq (by omega) (by omega)]
  · rw [zn_m1' k (by omega)]
    exact (eq_false (by omega)).symm
theorem zp_gI_m1 {g : Nat} : (zp_gI g = -1) = (8 ≤ g) := by
  unfold zp_gI
  split
  · rw [zn_m1 g (by omega)]
    exact (eq_false (by omega)).symm
  · exact propext ⟨fun _ => by omega, fun _ => rfl⟩
/-- nothing changed in the store but what A names -/
def zw_F (A : Nat → Prop) (σ τ : zw_S) : Prop := τ.2 = σ.2 ∧ ∀ o, ¬ A o → τ.1 o = σ.1 o
theorem zw_F.rf {A : Nat → Prop} {σ : zw_S} : zw_F A σ σ := ⟨rfl, fun _ _ => rfl⟩
theorem zw_F.tr {A B C : Nat → Prop} {σ τ υ : zw_S} (h1 : zw_F A σ τ) (h2 : zw_F B τ υ) (ha : ∀ o, A o → C o) (hb : ∀ o, B o → C o) : zw_F C σ υ :=
  ⟨h2.1.trans h1.1, fun o h => (h2.2 o (fun q => h (hb o q))).trans (h1.2 o (fun q => h (ha o q)))⟩
theorem zw_F.mono {A B : Nat → Prop} {σ τ : zw_S} (h : zw_F A σ τ) (hb : ∀ o, A o → B o) : zw_F B σ τ := ⟨h.1, fun o q => h.2 o (fun z => q (hb o z))⟩
theorem zw_F.pI {A : Nat → Prop} {σ τ : zw_S} {o j : Nat} {v : Int32} (h : zw_F A σ τ) (ho : A o) : zw_F A σ (zw_pI τ o j v) :=
  ⟨h.1, fun k hk => by
    have : k ≠ o := fun e => hk (e ▸ ho)
    show (if k = o then _ else _) = _
    rw [if_neg this]
    exact h.2 k hk⟩
theorem zs_same (σ : zw_S) (o j : Nat) (v : Int32) : (zw_pI σ o j v).1 o j = v := by simp [zw_pI, upd]
theorem zs_slot {σ : zw_S} {o j i : Nat} {v : Int32} (h : i ≠ j) : (zw_pI σ o j v).1 o i = σ.1 o i := by simp [zw_pI, upd, h]
theorem zs_obj {σ : zw_S} {o j k : Nat} {v : Int32} (h : k ≠ o) : (zw_pI σ o j v).1 k = σ.1 k := by simp [zw_pI, h]
theorem zs_snd {σ : zw_S} {o j : Nat} {v : Int32} : (zw_pI σ o j v).2 = σ.2 := rfl
/-! lists by their places -/
theorem zl_kth {N s : Nat} {b : Nat → Bool} (hs : s < N) (hb : b s = true) : ((List.range N).filter b)[((List.range s).filter b).length]? = some s := by
  obtain ⟨m, rfl⟩ : ∃ m, N = s + 1 + m := ⟨N - (s + 1), by omega⟩
  have e : List.range (s + 1 + m) = List.range s ++ (s :: (List.range m).map (fun i => s + 1 + i)) := by
    rw [List.range_add, List.range_succ, List.append_assoc]
    rfl
  rw [e, List.filter_append, List.filter_cons, if_pos hb, List.getElem?_append_right (Nat.le_refl _), Nat.sub_self]
  rfl
theorem zl_fs {s : Nat} {b : Nat → Bool} (hb : b s = true) : ((List.range (s + 1)).filter b).length = ((List.range s).filter b).length + 1 := by
  rw [List.range_succ, List.filter_append, List.length_append]
  simp [hb]
theorem zl_fn {s : Nat} {b : Nat → Bool} (hb : b s = false) : ((List.range (s + 1)).filter b).length = ((List.range s).filter b).length := by
  rw [List.range_succ, List.filter_append, List.length_append]
  simp [hb]
theorem zl_fle {s : Nat} {b : Nat → Bool} : ((List.range s).filter b).length ≤ s := by
  have := List.length_filter_le b (List.range s)
  rwa [List.length_range] at this
/-- the k-th of a list, k any int -/
def zp_at (l : List Nat) (k : Int32) : Option Nat := if k < nI 0 then none else l[k.toNatClampNeg]?
theorem zp_at_n {l : List Nat} {k : Nat} (hk : k < 2147483648) : zp_at l (nI k) = l[k]? := by
  unfold zp_at
  rw [if_neg (by rw [zn_neg k hk]; exact id), nI_clamp hk]
theorem zp_at_no {l : List Nat} {k : Int32} (hl : l.length < 2147483648) (h : ∀ j, j < l.length → k ≠ nI j) : zp_at l k = none := by
  rcases zn_case k hl with h1 | ⟨j, hj, rfl⟩
  · unfold zp_at
    rcases h1 with h1 | h1
    · rw [if_pos h1]
    · split
      · rfl
      · next h2 =>
        obtain ⟨j, hj, rfl⟩ := nI_of h2
        rw [zn_le hl hj] at h1
        rw [nI_clamp hj]
        exact List.getElem?_eq_none h1
  · exact absurd rfl (h j hj)
theorem zw_W.mono {l : Launch} {G : zw_G} {d : Nat} {M : zw_M} {pc : Nat} {L : List (Option Value)} {st : List Value} {σ : zw_S} {P P' : Option Value → zw_S → Prop} (h : zw_W l G d M pc L st σ P) (hi : ∀ r s, P r s → P' r s) : zw_W l G d M pc L st σ P' :=
  fun p e R s m args below meth c H locs cells slots Q ls hC hP hS hL hR => h p e R s m args below meth c H locs cells slots Q ls hC hP hS hL (fun r σ' H' locs' pc' ls' hr => hR r σ' H' locs' pc' ls' (hi r σ' hr))
