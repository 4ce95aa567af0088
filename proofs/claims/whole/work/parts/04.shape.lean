/-- the store: what int and long places hold, by cell and place; references never change once all is made -/
abbrev zw_S : Type := (Nat → Nat → Int32) × (Nat → Nat → Int64)
/-- the geometry: the classes' numbers and slots, the array classes, the addresses of the cells, the outer arrays (182, 183 the class's tables, 184 the script) -/
abbrev zw_G : Type := va_G × (Nat → ClassId) × (Nat → Nat) × (Nat → Nat × (Nat → Int32))
abbrev zw_M : Type := MethodName × ByteArray × Nat × Option FieldType
def zw_kdT : List Nat := [8, 6, 4, 10, 10, 10, 10, 1, 13, 6, 4, 10, 10, 10, 10, 6, 4, 10, 10, 10, 10, 6, 4, 10, 10, 10, 10, 6, 4, 10, 10, 10, 10, 6, 4, 10, 10, 10, 10, 6, 4, 10, 10, 10, 10, 6, 4, 10, 10, 10, 10, 6, 4, 10, 10, 10, 10, 6, 4, 10, 10, 10, 10, 6, 4, 10, 10, 10, 10, 6, 4, 10, 10, 10, 10, 6, 4, 10, 10, 10, 10, 6, 4, 10, 10, 10, 10, 6, 4, 10, 10, 10, 10, 6, 4, 10, 10, 10, 10, 6, 4, 10, 10, 10, 10, 6, 4, 10, 10, 10, 10, 6, 4, 10, 10, 10, 10, 6, 4, 10, 10, 10, 10, 6, 4, 10, 10, 10, 10, 12, 0, 10, 10, 3, 7, 10, 10, 7, 10, 10, 5, 11, 14, 11, 11, 11, 11, 7, 10, 10, 7, 10, 10, 10, 2, 6, 4, 10, 10, 10, 10, 2, 6, 4, 10, 10, 10, 10, 9, 10, 10, 10, 10, 10, 10, 10, 10, 11, 11, 11, 11, 10]
def zw_lnT : List Nat := [0, 0, 0, 8, 8, 8, 8, 0, 20, 0, 0, 8, 8, 8, 8, 0, 0, 8, 8, 8, 8, 0, 0, 8, 8, 8, 8, 0, 0, 8, 8, 8, 8, 0, 0, 8, 8, 8, 8, 0, 0, 8, 8, 8, 8, 0, 0, 8, 8, 8, 8, 0, 0, 8, 8, 8, 8, 0, 0, 8, 8, 8, 8, 0, 0, 8, 8, 8, 8, 0, 0, 8, 8, 8, 8, 0, 0, 8, 8, 8, 8, 0, 0, 8, 8, 8, 8, 0, 0, 8, 8, 8, 8, 0, 0, 8, 8, 8, 8, 0, 0, 8, 8, 8, 8, 0, 0, 8, 8, 8, 8, 0, 0, 8, 8, 8, 8, 0, 0, 8, 8, 8, 8, 0, 0, 8, 8, 8, 8, 2, 0, 20, 20, 0, 0, 13, 13, 0, 13, 13, 0, 8, 2, 8, 8, 8, 8, 0, 13, 13, 0, 13, 13, 30, 0, 0, 0, 8, 8, 8, 8, 0, 0, 0, 8, 8, 8, 8, 0, 782, 2, 30, 20, 20, 16, 16, 16, 24, 8, 8, 8, 8]
def zw_foT : List (List (Option Nat)) := [[some 1, some 2, none], [some 1, none, none], [some 1, none, none], [some 1, some 4, none, none, none], [some 1, some 2], [some 1, some 2, some 5, some 6], [some 1, some 4, some 5, none], [some 1, some 2, none, none], [some 1, some 7, some 129, some 130, some 133, some 140, some 147, some 150, some 153, none, none, none], [some 1, none, none, none, some 2, some 3, none, none, some 4, some 5, none, some 6, none, none, some 7, none, some 8, some 9, some 10, some 11, some 12, some 13]]
/-- a cell's kind: 0 to 9 an object of vwCl's class, 10 int[], 11 long[], 12 Image[], 13 State[], 14 long[][] -/
def zw_kd (k : Nat) : Nat := zw_kdT.getD k 99
def zw_ln (k : Nat) : Nat := zw_lnT.getD k 0
def zw_fo (k : Nat) : List (Option Nat) := zw_foT.getD (zw_kd k) []
/-- what an array of references holds -/
def zw_er (k j : Nat) : Nat := if k = 8 then 9 + 6 * j else if k = 129 then 154 + 7 * j else 143 + j
def zw_fv (G : zw_G) (σ : zw_S) (k j : Nat) (o : Option Nat) : Value := match o with
  | none => .int (σ.1 k j)
  | some d => .ref (G.2.2.1 (k + d))
def zw_fs (G : zw_G) (σ : zw_S) (k : Nat) : List Value := (zw_fo k).mapIdx (fun j o => zw_fv G σ k j o)
def zw_el (G : zw_G) (k j : Nat) : Option Nat := if j < zw_ln k then some (G.2.2.1 (zw_er k j)) else none
def zw_cell (G : zw_G) (σ : zw_S) (k : Nat) : va_E :=
  if zw_kd k < 10 then .inr (zw_kd k, zw_fs G σ k)
  else if zw_kd k = 10 then .inl (G.2.1 0, zw_ln k, .inl (σ.1 k))
  else if zw_kd k = 11 then .inl (G.2.1 1, zw_ln k, .inr (.inl (σ.2 k)))
  else .inl (G.2.1 (zw_kd k - 10), zw_ln k, .inr (.inr (.inr (.inr (zw_el G k)))))
def zw_ws (G : zw_G) (σ : zw_S) : va_W := (List.range 182).map (fun k => (G.2.2.1 k, zw_cell G σ k))
def zw_A (G : zw_G) : Nat → Prop := fun q => ∃ k, k < 182 ∧ q = G.2.2.1 k
def zw_tys (G : zw_G) : List (ClassId × FieldType) := [(G.2.1 0, .int), (G.2.1 1, .long), (G.2.1 2, .object "GraftRules$Image"), (G.2.1 3, .object "GraftRules$State"), (G.2.1 4, .array .long)]
def zw_pI (σ : zw_S) (o j : Nat) (v : Int32) : zw_S := (fun k => if k = o then upd (σ.1 o) j v else σ.1 k, σ.2)
def zw_pL (σ : zw_S) (o j : Nat) (v : Int64) : zw_S := (σ.1, fun k => if k = o then vp_updL (σ.2 o) j v else σ.2 k)
def zw_pLf (σ : zw_S) (o : Nat) (f : Nat → Int64) : zw_S := (σ.1, fun k => if k = o then f else σ.2 k)
def zw_v (G : zw_G) (v : Value) : Value := match v with
  | .ref k => .ref (G.2.2.1 k)
  | v => v
theorem zw_kd_lt {k : Nat} (h : zw_kd k ≠ 99) : k < 182 := by
  rcases Nat.lt_or_ge k 182 with q | q
  · exact q
  · exact absurd (by unfold zw_kd; rw [List.getD_eq_getElem?_getD, List.getElem?_eq_none (by show 182 ≤ k; exact q)]; rfl) h
theorem zw_ws_get {G : zw_G} {σ : zw_S} {k : Nat} (h : k < 182) : (zw_ws G σ)[k]? = some (G.2.2.1 k, zw_cell G σ k) := by
  unfold zw_ws
  rw [List.getElem?_map, List.getElem?_range h]
  rfl
theorem zw_ws_len {G : zw_G} {σ : zw_S} : (zw_ws G σ).length = 182 := by simp [zw_ws]
theorem zw_ws_set {G : zw_G} {σ σ' : zw_S} {o : Nat} (ho : o < 182) {x : va_E} (hx : x = zw_cell G σ' o) (h : ∀ j, j ≠ o → zw_cell G σ' j = zw_cell G σ j) : (zw_ws G σ).set o (G.2.2.1 o, x) = zw_ws G σ' := by
  subst hx
  apply List.ext_getElem?
  intro i
  rcases Nat.lt_or_ge i 182 with hi | hi
  · rw [zw_ws_get hi]
    by_cases e : i = o
    · subst e
      rw [List.getElem?_set_self (by rw [zw_ws_len]; exact hi)]
    · rw [List.getElem?_set_ne (fun q => e q.symm), zw_ws_get hi, h i e]
  · rw [List.getElem?_eq_none (by rw [List.length_set, zw_ws_len]; exact hi), List.getElem?_eq_none (by rw [zw_ws_len]; exact hi)]
theorem zw_inD {G : zw_G} {σ : zw_S} (hi : ∀ i j, i < 182 → j < 182 → G.2.2.1 i = G.2.2.1 j → i = j) : va_D (zw_A G) (zw_ws G σ) := by
  have key : ∀ (k : Nat) (q : Nat × va_E), (zw_ws G σ)[k]? = some q → k < 182 ∧ q.1 = G.2.2.1 k := by
    intro k q h
    have hk : k < 182 := by
      have := (List.getElem?_eq_some_iff.mp h).1
      rwa [zw_ws_len] at this
    rw [zw_ws_get hk] at h
    cases h
    exact ⟨hk, rfl⟩
  refine ⟨fun i j p q h1 h2 e => ?_, fun k q h => ?_⟩
  · obtain ⟨a1, a2⟩ := key i p h1
    obtain ⟨b1, b2⟩ := key j q h2
    exact hi i j a1 b1 (by rw [← a2, ← b2]; exact e)
  · obtain ⟨a1, a2⟩ := key k q h
    exact ⟨k, a1, a2⟩
theorem zw_cell_o {G : zw_G} {σ : zw_S} {k ci : Nat} (h : zw_kd k = ci) (hc : ci < 10) : zw_cell G σ k = .inr (ci, zw_fs G σ k) := by
  unfold zw_cell
  rw [h, if_pos hc]
theorem zw_cell_i {G : zw_G} {σ : zw_S} {k : Nat} (h : zw_kd k = 10) : zw_cell G σ k = .inl (G.2.1 0, zw_ln k, .inl (σ.1 k)) := by
  unfold zw_cell
  rw [h]
  rfl
theorem zw_cell_l {G : zw_G} {σ : zw_S} {k : Nat} (h : zw_kd k = 11) : zw_cell G σ k = .inl (G.2.1 1, zw_ln k, .inr (.inl (σ.2 k))) := by
  unfold zw_cell
  rw [h]
  rfl
theorem zw_cell_q {G : zw_G} {σ : zw_S} {k c : Nat} (h : zw_kd k = 12 + c) : zw_cell G σ k = .inl (G.2.1 (2 + c), zw_ln k, .inr (.inr (.inr (.inr (zw_el G k))))) := by
  unfold zw_cell
  rw [h, if_neg (by omega), if_neg (by omega), if_neg (by omega), show 12 + c - 10 = 2 + c by omega]
theorem zw_cell_cong {G : zw_G} {σ σ' : zw_S} {k : Nat} (h1 : σ'.1 k = σ.1 k) (h2 : σ'.2 k = σ.2 k) : zw_cell G σ' k = zw_cell G σ k := by
  have : zw_fs G σ' k = zw_fs G σ k := by
    unfold zw_fs
    congr 1
    funext j o
    cases o with
    | none => show Value.int (σ'.1 k j) = Value.int (σ.1 k j); rw [h1]
    | some d => rfl
  unfold zw_cell
  rw [h1, h2, this]
theorem zw_fs_get {G : zw_G} {σ : zw_S} {k j : Nat} {o : Option Nat} (h : (zw_fo k)[j]? = some o) : (zw_fs G σ k)[j]? = some (zw_fv G σ k j o) := by
  unfold zw_fs
  rw [List.getElem?_mapIdx, h]
  rfl
theorem zw_ws_pI {G : zw_G} {σ : zw_S} {o ci j : Nat} {v : Int32} (h : zw_kd o = ci) (hc : ci < 10) (hj : (zw_fo o)[j]? = some none) : (zw_ws G σ).set o (G.2.2.1 o, .inr (ci, (zw_fs G σ o).set j (.int v))) = zw_ws G (zw_pI σ o j v) := by
  have ho : o < 182 := zw_kd_lt (by rw [h]; omega)
  refine zw_ws_set ho ?_ (fun k hk => zw_cell_cong (by simp [zw_pI, hk]) rfl)
  rw [zw_cell_o h hc]
  congr 2
  apply List.ext_getElem?
  intro i
  have hlen : j < (zw_fs G σ o).length := by
    have := (List.getElem?_eq_some_iff.mp (zw_fs_get (G := G) (σ := σ) hj)).1
    exact this
  by_cases e : i = j
  · subst e
    rw [List.getElem?_set_self hlen, zw_fs_get hj]
    simp [zw_fv, zw_pI, upd]
  · rw [List.getElem?_set_ne (fun q => e q.symm)]
    unfold zw_fs
    rw [List.getElem?_mapIdx, List.getElem?_mapIdx]
    cases (zw_fo o)[i]? with
    | none => rfl
    | some x =>
      cases x with
      | none => simp [zw_fv, zw_pI, upd, e]
      | some d => rfl
theorem zw_ws_ai {G : zw_G} {σ : zw_S} {o i : Nat} {v : Int32} (h : zw_kd o = 10) : (zw_ws G σ).set o (G.2.2.1 o, .inl (G.2.1 0, zw_ln o, .inl (upd (σ.1 o) i v))) = zw_ws G (zw_pI σ o i v) := by
  have ho : o < 182 := zw_kd_lt (by rw [h]; omega)
  refine zw_ws_set ho ?_ (fun k hk => zw_cell_cong (by simp [zw_pI, hk]) rfl)
  rw [zw_cell_i h]
  simp [zw_pI]
theorem zw_ws_al {G : zw_G} {σ : zw_S} {o i : Nat} {v : Int64} (h : zw_kd o = 11) : (zw_ws G σ).set o (G.2.2.1 o, .inl (G.2.1 1, zw_ln o, .inr (.inl (vp_updL (σ.2 o) i v)))) = zw_ws G (zw_pL σ o i v) := by
  have ho : o < 182 := zw_kd_lt (by rw [h]; omega)
  refine zw_ws_set ho ?_ (fun k hk => zw_cell_cong rfl (by simp [zw_pL, hk]))
  rw [zw_cell_l h]
  simp [zw_pL]
theorem zw_ws_alf {G : zw_G} {σ : zw_S} {o : Nat} {f : Nat → Int64} (h : zw_kd o = 11) : (zw_ws G σ).set o (G.2.2.1 o, .inl (G.2.1 1, zw_ln o, .inr (.inl f))) = zw_ws G (zw_pLf σ o f) := by
  have ho : o < 182 := zw_kd_lt (by rw [h]; omega)
  refine zw_ws_set ho ?_ (fun k hk => zw_cell_cong rfl (by simp [zw_pLf, hk]))
  rw [zw_cell_l h]
  simp [zw_pLf]
