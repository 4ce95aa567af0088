/-! THE VIEWS OF THE START -/
def zl_A : zx_T := (([], fun _ => 0, fun _ => 8), [], fun _ => none, [], none, [], 0)
theorem zl_169 {k : Nat} (e : k = 169) (j : Nat) : zc_0.1 k j = if 25 ≤ j ∧ j < 33 then -1 else 0 := by
  rw [e]
  simp [zc_0, show zw_kd 169 = 10 by decide, show zw_kd 167 ≠ 4 by decide]
theorem zl_x : zx_V zc_0 zl_A := by
  refine ⟨⟨by decide, fun x h => absurd h List.not_mem_nil, by decide, fun i h => absurd h (Nat.not_lt_zero i), fun p hp => ⟨show 0 < 4 by decide, show 8 ≤ 8 by decide, show 2 ≤ 0 ↔ 8 < 8 by decide, ?_, ?_⟩⟩, ⟨0, by decide, by decide, by decide, by decide, fun j h => absurd h (Nat.not_lt_zero j)⟩, fun i hi => ?_, ⟨by decide, fun x h => absurd h List.not_mem_nil, by decide, fun i h => absurd h (Nat.not_lt_zero i)⟩, by decide, ⟨by decide, by decide, fun i h => absurd h (Nat.not_lt_zero i)⟩, by decide, by decide⟩
  · exact zc_z (by decide) (by decide) (by decide) p
  · exact zc_g (by decide) (by decide) p
  · match i, hi with
    | 0, _ => show zc_0.1 154 2 = nI 0; decide
    | 1, _ => show zc_0.1 161 2 = nI 0; decide
    | i + 2, h => exact absurd h (by omega)
theorem zl_y : zy_V zc_0 zl_A := by
  refine ⟨⟨by decide, fun x h => absurd h List.not_mem_nil, ?_, fun i h => absurd h (Nat.not_lt_zero i), fun p hp => ⟨show 0 < 4 by decide, show 8 ≤ 8 by decide, show 2 ≤ 0 ↔ 8 < 8 by decide, ?_, ?_⟩⟩, ⟨by decide, by decide, fun j h => absurd h (Nat.not_lt_zero j)⟩, (fun i hi x h => absurd (show (none : Option (zg_X × Nat)) = some x from h) (by intro q; cases q)), by decide, ⟨by decide, fun x h => absurd h List.not_mem_nil, by decide, fun i h => absurd h (Nat.not_lt_zero i)⟩, by decide, ⟨by decide, by decide, fun i h => absurd h (Nat.not_lt_zero i)⟩, by decide, by decide⟩
  · rw [zl_169 rfl]; rfl
  · rw [zl_169 rfl, if_neg (by omega)]; rfl
  · rw [zl_169 rfl, if_pos (by omega)]; rfl
