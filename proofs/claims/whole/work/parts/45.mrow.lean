/-! MAKING, one object: its fields fs, one cell o that is not yet as it will be (none: o = k), all others as at the start of all -/
def zc_X (G : zw_G) (R : Room) (s : State) (k E n ci : Nat) (fs : List Value) (o : Nat) (X : va_E) (y : Nat) (H : Heap) (locs : List Loc) (cells slots : Nat) : Prop :=
  ∃ Z : Nat → va_E, zc_S G R s k E n Z y H locs cells slots ∧ k < n ∧ Z k = .inr (ci, fs) ∧ (o ≠ k → Z o = X ∧ k < o ∧ o < n) ∧ ∀ i, k < i → i < n → i ≠ o → Z i = zw_cell G zc_0 i
section Z45
variable {p : Program} {l : Launch} {e : Env} {R : Room} {s : State} {m : MethodId} {args : Array Value} {below : List Frame} {meth : Method} {c : Code} {H : Heap} {locs : List Loc} {cells slots : Nat} {Q : State → Prop} {pc : Nat} {ls : Array Slot} {st : List Value}
variable {G : zw_G} {d k E n y ci o : Nat} {M : zw_M} {fs : List Value} {X : va_E}
theorem zv_newi {N : Nat} {v : Int32} (hC : zc_C G d M k E p R s m args meth c) (hV : zc_X G R s k E n ci fs o X (y + N) H locs cells slots) (hd : decode M.2.1 pc = .ok (.newarray .int, 2)) (hn : n < E) (h0 : ¬ v < 0) (hN : v.toNatClampNeg = N) (hby : N * 4 ≤ 536870912) (hk : zw_kd n = 10) (hl : zw_ln n = N) (hz : ∀ j, zc_0.1 n j = 0) (kk : ∀ H1, zc_X G R s k E (n + 1) ci fs o X y H1 locs (cells + 1) (slots + N) → W p l e R s m args below meth c H1 locs (cells + 1) (slots + N) Q (F0 m (pc + 2) ls (.ref (G.2.2.1 n) :: st))) : W p l e R s m args below meth c H locs cells slots Q (F0 m pc ls (.int v :: st)) := by
  obtain ⟨Z, hS, h1, h2, h3, h4⟩ := hV
  refine zk_newi hC hS hd hn h0 hN hby (fun H1 hS1 => kk H1 ⟨_, hS1, by omega, by rw [zc_un (by omega)]; exact h2, fun q => ?_, fun i a b q => ?_⟩)
  · obtain ⟨a, b, c⟩ := h3 q
    exact ⟨by rw [zc_un (by omega)]; exact a, b, by omega⟩
  · by_cases e : i = n
    · rw [e, zc_us, zw_cell_i hk, hl, show zc_0.1 n = fun _ => 0 from funext hz]
    · rw [zc_un e]; exact h4 i a (by omega) q
theorem zv_newiX {N : Nat} {v : Int32} (hC : zc_C G d M k E p R s m args meth c) (hV : zc_X G R s k E n ci fs k X (y + N) H locs cells slots) (hd : decode M.2.1 pc = .ok (.newarray .int, 2)) (hn : n < E) (h0 : ¬ v < 0) (hN : v.toNatClampNeg = N) (hby : N * 4 ≤ 536870912) (kk : ∀ H1, zc_X G R s k E (n + 1) ci fs n (.inl (G.2.1 0, N, .inl fun _ => 0)) y H1 locs (cells + 1) (slots + N) → W p l e R s m args below meth c H1 locs (cells + 1) (slots + N) Q (F0 m (pc + 2) ls (.ref (G.2.2.1 n) :: st))) : W p l e R s m args below meth c H locs cells slots Q (F0 m pc ls (.int v :: st)) := by
  obtain ⟨Z, hS, h1, h2, h3, h4⟩ := hV
  refine zk_newi hC hS hd hn h0 hN hby (fun H1 hS1 => kk H1 ⟨_, hS1, by omega, by rw [zc_un (by omega)]; exact h2, fun q => ⟨zc_us _ _ _, h1, by omega⟩, fun i a b q => ?_⟩)
  rw [zc_un q]; exact h4 i a (by omega) (by omega)
theorem zv_newl {N : Nat} {v : Int32} (hC : zc_C G d M k E p R s m args meth c) (hV : zc_X G R s k E n ci fs o X (y + N) H locs cells slots) (hd : decode M.2.1 pc = .ok (.newarray .long, 2)) (hn : n < E) (h0 : ¬ v < 0) (hN : v.toNatClampNeg = N) (hby : N * 8 ≤ 536870912) (hk : zw_kd n = 11) (hl : zw_ln n = N) (kk : ∀ H1, zc_X G R s k E (n + 1) ci fs o X y H1 locs (cells + 1) (slots + N) → W p l e R s m args below meth c H1 locs (cells + 1) (slots + N) Q (F0 m (pc + 2) ls (.ref (G.2.2.1 n) :: st))) : W p l e R s m args below meth c H locs cells slots Q (F0 m pc ls (.int v :: st)) := by
  obtain ⟨Z, hS, h1, h2, h3, h4⟩ := hV
  refine zk_newl hC hS hd hn h0 hN hby (fun H1 hS1 => kk H1 ⟨_, hS1, by omega, by rw [zc_un (by omega)]; exact h2, fun q => ?_, fun i a b q => ?_⟩)
  · obtain ⟨a, b, c⟩ := h3 q
    exact ⟨by rw [zc_un (by omega)]; exact a, b, by omega⟩
  · by_cases e : i = n
    · rw [e, zc_us, zw_cell_l hk, hl]; rfl
    · rw [zc_un e]; exact h4 i a (by omega) q
theorem zv_anewX {N idx t : Nat} {C : String} {v : Int32} (hC : zc_C G d M k E p R s m args meth c) (hV : zc_X G R s k E n ci fs k X (y + N) H locs cells slots) (hd : decode M.2.1 pc = .ok (.anewarray idx, 3)) (hlk : Cond.classLink M.1.cls idx C ∈ zw_tb) (hao : va_AO C s) (ht : (zw_tys G)[t]? = some (G.2.1 t, .object C)) (hn : n < E) (h0 : ¬ v < 0) (hN : v.toNatClampNeg = N) (hby : N * 4 ≤ 536870912) (kk : ∀ H1, zc_X G R s k E (n + 1) ci fs n (.inl (G.2.1 t, N, .inr (.inr (.inr (.inr fun _ => none))))) y H1 locs (cells + 1) (slots + N) → W p l e R s m args below meth c H1 locs (cells + 1) (slots + N) Q (F0 m (pc + 3) ls (.ref (G.2.2.1 n) :: st))) : W p l e R s m args below meth c H locs cells slots Q (F0 m pc ls (.int v :: st)) := by
  obtain ⟨Z, hS, h1, h2, h3, h4⟩ := hV
  refine zk_anew hC hS hd hlk hao ht hn h0 hN hby (fun H1 hS1 => kk H1 ⟨_, hS1, by omega, by rw [zc_un (by omega)]; exact h2, fun q => ⟨zc_us _ _ _, h1, by omega⟩, fun i a b q => ?_⟩)
  rw [zc_un q]; exact h4 i a (by omega) (by omega)
theorem zv_putR {j idx a : Nat} (hC : zc_C G d M k E p R s m args meth c) (hin : meth.name = "<init>") (hV : zc_X G R s k E n ci fs o X y H locs cells slots) (hd : decode M.2.1 pc = .ok (.putfield idx, 3)) (hf : zc_FF M.1.cls idx ci j) (hl : j < fs.length) (kk : ∀ H1 locs1, zc_X G R s k E n ci (fs.set j (.ref a)) o X y H1 locs1 cells slots → W p l e R s m args below meth c H1 locs1 cells slots Q (F0 m (pc + 3) ls st)) : W p l e R s m args below meth c H locs cells slots Q (F0 m pc ls (.ref a :: .ref (G.2.2.1 k) :: st)) := by
  obtain ⟨Z, hS, h1, h2, h3, h4⟩ := hV
  refine zk_putR hC hin hS h2 h1 hd hf hl (fun H1 locs1 hS1 => kk H1 locs1 ⟨_, hS1, h1, zc_us _ _ _, fun q => ?_, fun i a b q => ?_⟩)
  · obtain ⟨a, b, c⟩ := h3 q
    exact ⟨by rw [zc_un (by omega)]; exact a, b, c⟩
  · rw [zc_un (by omega)]; exact h4 i a b q
theorem zv_putI {j idx : Nat} {v : Int32} (hC : zc_C G d M k E p R s m args meth c) (hV : zc_X G R s k E n ci fs o X y H locs cells slots) (hd : decode M.2.1 pc = .ok (.putfield idx, 3)) (hf : zc_FI M.1.cls idx ci j v) (hl : j < fs.length) (kk : ∀ H1 locs1, zc_X G R s k E n ci (fs.set j (.int v)) o X y H1 locs1 cells slots → W p l e R s m args below meth c H1 locs1 cells slots Q (F0 m (pc + 3) ls st)) : W p l e R s m args below meth c H locs cells slots Q (F0 m pc ls (.int v :: .ref (G.2.2.1 k) :: st)) := by
  obtain ⟨Z, hS, h1, h2, h3, h4⟩ := hV
  refine zk_putI hC hS h2 h1 hd hf hl (fun H1 locs1 hS1 => kk H1 locs1 ⟨_, hS1, h1, zc_us _ _ _, fun q => ?_, fun i a b q => ?_⟩)
  · obtain ⟨a, b, c⟩ := h3 q
    exact ⟨by rw [zc_un (by omega)]; exact a, b, c⟩
  · rw [zc_un (by omega)]; exact h4 i a b q
theorem zv_get {j idx a : Nat} (hC : zc_C G d M k E p R s m args meth c) (hV : zc_X G R s k E n ci fs o X y H locs cells slots) (hd : decode M.2.1 pc = .ok (.getfield idx, 3)) (hf : zc_FF M.1.cls idx ci j) (hv : fs[j]? = some (.ref a)) (kk : W p l e R s m args below meth c H locs cells slots Q (F0 m (pc + 3) ls (.ref a :: st))) : W p l e R s m args below meth c H locs cells slots Q (F0 m pc ls (.ref (G.2.2.1 k) :: st)) := by
  obtain ⟨Z, hS, h1, h2, h3, h4⟩ := hV
  exact zk_get hC hS h2 h1 hd hf hv kk
theorem zv_iast {N j : Nat} {x : Int32} {f : Nat → Int32} (hC : zc_C G d M k E p R s m args meth c) (hV : zc_X G R s k E n ci fs o (.inl (G.2.1 0, N, .inl f)) y H locs cells slots) (ho : o ≠ k) (hd : decode M.2.1 pc = .ok (.iastore, 1)) (hj : j < N) (hN : N < 2 ^ 31) (kk : ∀ H1 locs1, zc_X G R s k E n ci fs o (.inl (G.2.1 0, N, .inl (upd f j x))) y H1 locs1 cells slots → W p l e R s m args below meth c H1 locs1 cells slots Q (F0 m (pc + 1) ls st)) : W p l e R s m args below meth c H locs cells slots Q (F0 m pc ls (.int x :: .int (nI j) :: .ref (G.2.2.1 o) :: st)) := by
  obtain ⟨Z, hS, h1, h2, h3, h4⟩ := hV
  obtain ⟨a, b, c⟩ := h3 ho
  refine zk_iast hC hS a (by omega) c hd hj hN (fun H1 locs1 hS1 => kk H1 locs1 ⟨_, hS1, h1, by rw [zc_un (by omega)]; exact h2, fun q => ⟨zc_us _ _ _, b, c⟩, fun i a b q => ?_⟩)
  rw [zc_un q]; exact h4 i a b q
theorem zv_aast {v cv N j t : Nat} {r : vw_C} {f : Nat → Option Nat} (hC : zc_C G d M k E p R s m args meth c) (hV : zc_X G R s k E n ci fs o (.inl (G.2.1 t, N, .inr (.inr (.inr (.inr f))))) y H locs cells slots) (ho : o ≠ k) (ht : (zw_tys G)[t]? = some (G.2.1 t, .object r.1)) (hkv : zw_kd v = cv) (hcv : cv < 10) (hc : vwCl[cv]? = some r) (hk2 : k < v) (hn2 : v < n) (hov : v ≠ o) (hd : decode M.2.1 pc = .ok (.aastore, 1)) (hj : j < N) (hN : N < 2 ^ 31) (kk : ∀ H1 locs1, zc_X G R s k E n ci fs o (.inl (G.2.1 t, N, .inr (.inr (.inr (.inr (va_up f j (some (G.2.2.1 v)))))))) y H1 locs1 cells slots → W p l e R s m args below meth c H1 locs1 cells slots Q (F0 m (pc + 1) ls st)) : W p l e R s m args below meth c H locs cells slots Q (F0 m pc ls (.ref (G.2.2.1 v) :: .int (nI j) :: .ref (G.2.2.1 o) :: st)) := by
  obtain ⟨Z, hS, h1, h2, h3, h4⟩ := hV
  obtain ⟨a, b, c⟩ := h3 ho
  refine zk_aast hC hS a ht (by omega) c ((h4 v hk2 hn2 hov).trans (zw_cell_o hkv hcv)) hc (by omega) hn2 hd hj hN (fun H1 locs1 hS1 => kk H1 locs1 ⟨_, hS1, h1, by rw [zc_un (by omega)]; exact h2, fun q => ⟨zc_us _ _ _, b, c⟩, fun i a b q => ?_⟩)
  rw [zc_un q]; exact h4 i a b q
theorem zv_make {N : zw_M} {i0 i1 cj nf mm y' : Nat} (hC : zc_C G (d + 1) M k E p R s m args meth c) (hV : zc_X G R s k E n ci fs o X (y + (nf + y')) H locs cells slots) (hl : ls.size = M.2.2.1) (hcat : (st.map fun v => v.category).sum + 1 ≤ 8) (hd0 : decode M.2.1 pc = .ok (.new i0, 3)) (hd1 : decode M.2.1 (pc + 3) = .ok (.dup, 1)) (hd2 : decode M.2.1 (pc + 3 + 1) = .ok (.invokespecial i1, 3)) (hcl : zc_CL M.1.cls i0 cj nf) (hik : zc_IK M.1.cls i1 N.1) (him : zc_IM N) (hM : zc_T l G d N n mm cj y') (hn : n + (mm + 1) ≤ E) (kk : ∀ H1 locs1 cells1 slots1, zc_X G R s k E (n + (mm + 1)) ci fs o X y H1 locs1 cells1 slots1 → W p l e R s m args below meth c H1 locs1 cells1 slots1 Q (F0 m (pc + 3 + 1 + 3) ls (.ref (G.2.2.1 n) :: st))) : W p l e R s m args below meth c H locs cells slots Q (F0 m pc ls st) := by
  obtain ⟨Z, hS, h1, h2, h3, h4⟩ := hV
  refine zk_make hC hS hl hcat hd0 hd1 hd2 hcl hik him hM hn (fun H1 locs1 cells1 slots1 hS1 => kk H1 locs1 cells1 slots1 ⟨_, hS1, by omega, by show (if k < n then _ else _) = _; rw [if_pos h1]; exact h2, fun q => ?_, fun i a b q => ?_⟩)
  · obtain ⟨a, b, c⟩ := h3 q
    exact ⟨by show (if o < n then _ else _) = _; rw [if_pos c]; exact a, b, by omega⟩
  · show (if i < n then _ else _) = _
    by_cases r : i < n
    · rw [if_pos r]; exact h4 i a r q
    · rw [if_neg r]
/-- the odd cell is as it will be -/
theorem zc_X.close (hV : zc_X G R s k E n ci fs o X y H locs cells slots) (hX : ∀ (a : Nat) (H : Heap), va_at G.1 vwCl (a, X) H → va_at G.1 vwCl (a, zw_cell G zc_0 o) H) : zc_X G R s k E n ci fs k X y H locs cells slots := by
  obtain ⟨Z, ⟨s1, s2, s3, s4, s5, s6⟩, h1, h2, h3, h4⟩ := hV
  by_cases ho : o = k
  · subst ho
    exact ⟨Z, ⟨s1, s2, s3, s4, s5, s6⟩, h1, h2, h3, h4⟩
  · obtain ⟨a, b, c⟩ := h3 ho
    refine ⟨zc_u Z o (zw_cell G zc_0 o), ⟨s1, s2, s3, s4, ?_, s6⟩, h1, by rw [zc_un (by omega)]; exact h2, fun q => absurd rfl q, fun i x1 x2 x3 => ?_⟩
    · rw [zc_PI] at s5 ⊢
      intro i y1 y2
      have := s5 i y1 y2
      by_cases e : i = o
      · subst e
        rw [zc_us]
        rw [a] at this
        exact hX _ _ this
      · rw [zc_un e]; exact this
    · by_cases e : i = o
      · rw [e, zc_us]
      · rw [zc_un e]; exact h4 i x1 x2 e
theorem zc_X.start (hS : zc_S G R s k E (k + 1) (fun _ => .inr (ci, zc_df ci)) y H locs cells slots) : zc_X G R s k E (k + 1) ci (zc_df ci) k (.inr (0, [])) y H locs cells slots :=
  ⟨_, hS, by omega, rfl, fun q => absurd rfl q, fun i a b _ => by omega⟩
theorem zc_X.done (hV : zc_X G R s k E n ci fs k X y H locs cells slots) (hk : zw_kd k = ci) (hci : ci < 10) (hfs : fs = zw_fs G zc_0 k) : ∃ Z, zc_S G R s k E n Z y H locs cells slots ∧ ∀ i, k ≤ i → i < n → Z i = zw_cell G zc_0 i := by
  obtain ⟨Z, hS, h1, h2, h3, h4⟩ := hV
  refine ⟨Z, hS, fun i a b => ?_⟩
  by_cases e : i = k
  · rw [e, h2, zw_cell_o hk hci, hfs]
  · exact h4 i (by omega) b e
theorem zc_arr {cA : ClassId} {N : Nat} {f g : Nat → Value} (h : ∀ j, j < N → f j = g j) : arrV cA N f = arrV cA N g := by
  unfold arrV
  have : (fun j : Fin N => f j.val) = fun j : Fin N => g j.val := funext fun j => h j.val j.isLt
  rw [this]
end Z45
