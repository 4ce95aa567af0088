theorem zl_ws {G : zw_G} {σ : zw_S} {Z : Nat → va_E} {H : Heap} (h : va_P G.1 vwCl (zc_ws G 0 182 Z) H) (hZ : ∀ i, i < 182 → Z i = zw_cell G σ i) : va_P G.1 vwCl (zw_ws G σ) H := by
  rw [zc_PI] at h
  intro k q hq
  have hk : k < 182 := by
    have := (List.getElem?_eq_some_iff.mp hq).1
    simpa [zw_ws] using this
  rw [zw_ws_get hk] at hq
  cases hq
  rw [← hZ k hk]
  exact h k (Nat.zero_le k) hk
theorem whole_start {p : Program} {e : Env} {s : State} {m : MethodId} {below : List Frame} {meth : Method} {c : Code} (l : Launch) (hflags : l.flags = flags0) {b L : Nat} {xs : Nat → Int32} (hL : L ≤ 2048) (C0 : lw_At p s m meth c b L xs) : W p l e room_1 s m #[Value.ref b] below meth c s.heap [] 0 0 (lw_Z below #[Value.ref b] s) (entryFrame m ([Value.ref b] : List Value).toArray 4) := by
  obtain ⟨G, hcK, hcL, hG0, hwK, hE, h184, hN⟩ := zl_G C0
  obtain ⟨hx, hb, hr, hml, hown, hts, hX, hbl, hlocks, hgv⟩ := C0
  have htb : ∀ w ∈ zw_tb, w.before #[Value.ref b] s = true := fun w hw => hts w (List.mem_filter.mp hw).1
  have hl := lv_entry ([.ref b]) (n := 4) (Nat.le_of_ble_eq_true rfl)
  rw [lg_entry_eq]
  generalize (lg_sl ([.ref b]) ++ List.replicate (4 - (lg_sl ([.ref b])).length) Slot.unset).toArray = ls at hl ⊢
  have hl : lv_has ls 4 [(0, .ref b)] := hl
  have hC : zc_C G (10 + 1) mL_law 0 182 p room_1 s m #[Value.ref b] meth c := ⟨hx, hb, hml, hown, htb, hcK, hcL, Nat.le_of_ble_eq_true rfl, Nat.le_of_ble_eq_true rfl, by rw [hG0]; exact Nat.add_le_add_left (Nat.le_of_ble_eq_true rfl) _, by omega, Nat.le_refl _⟩
  have hS : zc_S G room_1 s 0 182 0 (fun _ => .inr (0, [])) ((0 + (22 + 958)) + (12 + 1149)) s.heap [] 0 0 := ⟨by omega, Nat.le_of_ble_eq_true rfl, Nat.le_refl _, by omega, fun k q h => by simp [zc_ws] at h, va_S.rf⟩
  refine zk_make (N := mX8_init) (nf := 12) (mm := 167) (y' := 1149) hC hS hl.1 (Nat.le_of_ble_eq_true rfl) dL_law_0 dL_law_3 dL_law_4 clL_7 ikL_9 imX8 (iX8 (d := 6) hcL) (by omega) (fun H1 locs1 cells1 slots1 hS => ?_)
  rw [show 0 + (167 + 1) = 168 by omega] at hS
  refine lv_astore_n (lv' := [(1, .ref (G.2.2.1 0)), (0, .ref b)]) hx hb dL_law_7 rfl hl (by decide) rfl (fun ls hl => ?_)
  refine zk_make (N := mX9_init) (nf := 22) (mm := 13) (y' := 958) hC hS hl.1 (Nat.le_of_ble_eq_true rfl) dL_law_8 dL_law_11 dL_law_12 clL_10 ikL_12 imX9 (iX9 (d := 9) hcL rfl) (by omega) (fun H1 locs1 cells1 slots1 hS => ?_)
  rw [show 168 + (13 + 1) = 182 by omega] at hS
  refine lv_astore_n (lv' := [(2, .ref (G.2.2.1 168)), (1, .ref (G.2.2.1 0)), (0, .ref b)]) hx hb dL_law_15 rfl hl (by decide) rfl (fun ls hl => ?_)
  refine lv_iconst (v := nI 0) hx hb dL_law_16 (by decide) ?_
  refine lv_istore_n (lv' := [(3, .int (nI 0)), (2, .ref (G.2.2.1 168)), (1, .ref (G.2.2.1 0)), (0, .ref b)]) hx hb dL_law_17 rfl hl (by decide) rfl (fun ls hl => ?_)
  obtain ⟨s1, s2, s3, s4, hP, hV⟩ := hS
  have hP : va_P G.1 vwCl (zw_ws G zc_0) H1 := zl_ws hP (fun i hi => by
    by_cases q : i < 168
    · rw [if_pos q]; exact if_neg (Nat.not_lt_zero i)
    · rw [if_neg q])
  refine va_forget (fun q hq => by have := hV.2.2 q hq; have : G.2.2.1 0 + 0 ≤ q.base := this; omega) ?_
  have hV2 : va_S (zw_A G) s.heap H1 [] := ⟨hV.1, fun q h1 _ => hV.2.1 q h1 (fun z => by have z : G.2.2.1 0 + 0 ≤ q := z; omega), fun q h => absurd h List.not_mem_nil⟩
  have hLs : zw_L G 4 [some (.ref 184), some (.ref 0), some (.ref 168), some (.int (nI 0))] ls := by
    show lv_has ls 4 [(0, .ref (G.2.2.1 184)), (1, .ref (G.2.2.1 0)), (2, .ref (G.2.2.1 168)), (3, .int (nI 0))]
    rw [h184]
    exact lv_sub hl [3, 2, 1, 0] rfl
  have hsl : slots1 ≤ room_1.slots := by omega
  have hce : cells1 ≤ room_1.cells := by
    have : (182 : Nat) ≤ room_1.cells := Nat.le_of_ble_eq_true rfl
    omega
  have hCw : zw_C G (0 + 10) mL_law p room_1 s m #[Value.ref b] meth c cells1 slots1 := ⟨hx, hb, hml, hr, hlocks, hown, htb, hwK, Nat.le_of_ble_eq_true rfl, Nat.le_of_ble_eq_true rfl, hce, hsl⟩
  refine law_loop (l := l) (d := 0) hE (by omega) L 0 zc_0 zl_A (by omega) (by omega) zl_x zl_y p e room_1 s m _ below meth c H1 [] cells1 slots1 _ ls hCw hP hV2 hLs ?_
  intro r σ2 H2 locs2 pc2 ls2 hr2 hP2 hS2 hrd
  subst hr2
  have hdg : decode code pc2 = .ok (.ireturn, 1) := by
    rcases hrd with ⟨h, _⟩ | ⟨v, ty, _, _, _, h⟩ | ⟨v, h, _⟩ | ⟨v, n, _, _, h, _⟩
    · cases h
    · exact h
    · cases h
    · cases h
  refine va_forget (fun q hq => by obtain ⟨k, hk, h⟩ := hS2.2.2 q hq; rw [h, hcL k hk]; omega) ?_
  exact W.widen (k := 600000) (n := 7302250) hce hsl (lw_ret hx hb hr hlocks hdg)
