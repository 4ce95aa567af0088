abbrev mX8_init : zw_M := (yX8_init, cX8_init, 2, none)
theorem imX8 : zc_IM mX8_init := ⟨zw_tb_of (List.mem_of_getElem? (i := 75) (by decide +kernel)) rfl, zw_tb_of (List.mem_of_getElem? (i := 59) (by decide +kernel)) rfl, zw_tb_of (List.mem_of_getElem? (i := 76) (by decide +kernel)) rfl, ⟨by decide +kernel, by decide +kernel, by decide +kernel⟩, Nat.le_of_ble_eq_true rfl, rfl, rfl, by decide⟩
abbrev mX6_init : zw_M := (yX6_init, cX6_init, 1, none)
theorem imX6 : zc_IM mX6_init := ⟨zw_tb_of (List.mem_of_getElem? (i := 83) (by decide +kernel)) rfl, zw_tb_of (List.mem_of_getElem? (i := 60) (by decide +kernel)) rfl, zw_tb_of (List.mem_of_getElem? (i := 84) (by decide +kernel)) rfl, ⟨by decide +kernel, by decide +kernel, by decide +kernel⟩, Nat.le_of_ble_eq_true rfl, rfl, rfl, by decide⟩
abbrev mX4_init : zw_M := (yX4_init, cX4_init, 1, none)
theorem imX4 : zc_IM mX4_init := ⟨zw_tb_of (List.mem_of_getElem? (i := 89) (by decide +kernel)) rfl, zw_tb_of (List.mem_of_getElem? (i := 61) (by decide +kernel)) rfl, zw_tb_of (List.mem_of_getElem? (i := 90) (by decide +kernel)) rfl, ⟨by decide +kernel, by decide +kernel, by decide +kernel⟩, Nat.le_of_ble_eq_true rfl, rfl, rfl, by decide⟩
abbrev mX1_init : zw_M := (yX1_init, cX1_init, 2, none)
theorem imX1 : zc_IM mX1_init := ⟨zw_tb_of (List.mem_of_getElem? (i := 121) (by decide +kernel)) rfl, zw_tb_of (List.mem_of_getElem? (i := 63) (by decide +kernel)) rfl, zw_tb_of (List.mem_of_getElem? (i := 122) (by decide +kernel)) rfl, ⟨by decide +kernel, by decide +kernel, by decide +kernel⟩, Nat.le_of_ble_eq_true rfl, rfl, rfl, by decide⟩
abbrev mX0_init : zw_M := (yX0_init, cX0_init, 1, none)
theorem imX0 : zc_IM mX0_init := ⟨zw_tb_of (List.mem_of_getElem? (i := 143) (by decide +kernel)) rfl, zw_tb_of (List.mem_of_getElem? (i := 64) (by decide +kernel)) rfl, zw_tb_of (List.mem_of_getElem? (i := 144) (by decide +kernel)) rfl, ⟨by decide +kernel, by decide +kernel, by decide +kernel⟩, Nat.le_of_ble_eq_true rfl, rfl, rfl, by decide⟩
abbrev mX3_init : zw_M := (yX3_init, cX3_init, 1, none)
theorem imX3 : zc_IM mX3_init := ⟨zw_tb_of (List.mem_of_getElem? (i := 160) (by decide +kernel)) rfl, zw_tb_of (List.mem_of_getElem? (i := 65) (by decide +kernel)) rfl, zw_tb_of (List.mem_of_getElem? (i := 161) (by decide +kernel)) rfl, ⟨by decide +kernel, by decide +kernel, by decide +kernel⟩, Nat.le_of_ble_eq_true rfl, rfl, rfl, by decide⟩
abbrev mX7_init : zw_M := (yX7_init, cX7_init, 1, none)
theorem imX7 : zc_IM mX7_init := ⟨zw_tb_of (List.mem_of_getElem? (i := 166) (by decide +kernel)) rfl, zw_tb_of (List.mem_of_getElem? (i := 66) (by decide +kernel)) rfl, zw_tb_of (List.mem_of_getElem? (i := 167) (by decide +kernel)) rfl, ⟨by decide +kernel, by decide +kernel, by decide +kernel⟩, Nat.le_of_ble_eq_true rfl, rfl, rfl, by decide⟩
abbrev mX5_init : zw_M := (yX5_init, cX5_init, 1, none)
theorem imX5 : zc_IM mX5_init := ⟨zw_tb_of (List.mem_of_getElem? (i := 206) (by decide +kernel)) rfl, zw_tb_of (List.mem_of_getElem? (i := 67) (by decide +kernel)) rfl, zw_tb_of (List.mem_of_getElem? (i := 207) (by decide +kernel)) rfl, ⟨by decide +kernel, by decide +kernel, by decide +kernel⟩, Nat.le_of_ble_eq_true rfl, rfl, rfl, by decide⟩
abbrev mX2_init : zw_M := (yX2_init, cX2_init, 1, none)
theorem imX2 : zc_IM mX2_init := ⟨zw_tb_of (List.mem_of_getElem? (i := 231) (by decide +kernel)) rfl, zw_tb_of (List.mem_of_getElem? (i := 68) (by decide +kernel)) rfl, zw_tb_of (List.mem_of_getElem? (i := 232) (by decide +kernel)) rfl, ⟨by decide +kernel, by decide +kernel, by decide +kernel⟩, Nat.le_of_ble_eq_true rfl, rfl, rfl, by decide⟩
abbrev mX9_init : zw_M := (yX9_init, cX9_init, 2, none)
theorem imX9 : zc_IM mX9_init := ⟨zw_tb_of (List.mem_of_getElem? (i := 717) (by decide +kernel)) rfl, zw_tb_of (List.mem_of_getElem? (i := 69) (by decide +kernel)) rfl, zw_tb_of (List.mem_of_getElem? (i := 718) (by decide +kernel)) rfl, ⟨by decide +kernel, by decide +kernel, by decide +kernel⟩, Nat.le_of_ble_eq_true rfl, rfl, rfl, by decide⟩
theorem cnL_7 : Cond.classLink RL 7 "GraftRules" ∈ zw_tb := zw_tb_of (List.mem_of_getElem? (i := 72) (by decide +kernel)) rfl
theorem clL_7 : zc_CL RL 7 8 12 := ⟨RX8, TX8, tyX8, rfl, iw8, tyX8_ok, zw_tb_of (List.mem_of_getElem? (i := 72) (by decide +kernel)) rfl, zw_tb_of (List.mem_of_getElem? (i := 73) (by decide +kernel)) rfl, zw_tb_of (List.mem_of_getElem? (i := 59) (by decide +kernel)) rfl, fun j hj => by
  rcases (show j = 0 ∨ j = 1 ∨ j = 2 ∨ j = 3 ∨ j = 4 ∨ j = 5 ∨ j = 6 ∨ j = 7 ∨ j = 8 ∨ j = 9 ∨ j = 10 ∨ j = 11 by omega) with rfl | rfl | rfl | rfl | rfl | rfl | rfl | rfl | rfl | rfl | rfl | rfl <;> rfl⟩
theorem ikL_9 : zc_IK RL 9 yX8_init := Or.inl (zw_tb_of (List.mem_of_getElem? (i := 74) (by decide +kernel)) rfl)
theorem oiX8 : Cond.methodLink RX8 3 objectInit ∈ zw_tb := zw_tb_of (List.mem_of_getElem? (i := 77) (by decide +kernel)) rfl
theorem cnX8_9 : Cond.classLink RX8 9 "GraftRules$State" ∈ zw_tb := zw_tb_of (List.mem_of_getElem? (i := 80) (by decide +kernel)) rfl
theorem clX8_9 : zc_CL RX8 9 6 4 := ⟨RX6, TX6, tyX6, rfl, iw6, tyX6_ok, zw_tb_of (List.mem_of_getElem? (i := 80) (by decide +kernel)) rfl, zw_tb_of (List.mem_of_getElem? (i := 81) (by decide +kernel)) rfl, zw_tb_of (List.mem_of_getElem? (i := 60) (by decide +kernel)) rfl, fun j hj => by
  rcases (show j = 0 ∨ j = 1 ∨ j = 2 ∨ j = 3 by omega) with rfl | rfl | rfl | rfl <;> rfl⟩
theorem ikX8_11 : zc_IK RX8 11 yX6_init := Or.inr ⟨"GraftRules", List.mem_of_getElem? (i := 82) (by decide +kernel)⟩
theorem oiX6 : Cond.methodLink RX6 3 objectInit ∈ zw_tb := zw_tb_of (List.mem_of_getElem? (i := 85) (by decide +kernel)) rfl
theorem cnX6_9 : Cond.classLink RX6 9 "GraftRules$Rules" ∈ zw_tb := zw_tb_of (List.mem_of_getElem? (i := 86) (by decide +kernel)) rfl
theorem clX6_9 : zc_CL RX6 9 4 2 := ⟨RX4, TX4, tyX4, rfl, iw4, tyX4_ok, zw_tb_of (List.mem_of_getElem? (i := 86) (by decide +kernel)) rfl, zw_tb_of (List.mem_of_getElem? (i := 87) (by decide +kernel)) rfl, zw_tb_of (List.mem_of_getElem? (i := 61) (by decide +kernel)) rfl, fun j hj => by
  rcases (show j = 0 ∨ j = 1 by omega) with rfl | rfl <;> rfl⟩
theorem ikX6_11 : zc_IK RX6 11 yX4_init := Or.inl (zw_tb_of (List.mem_of_getElem? (i := 88) (by decide +kernel)) rfl)
theorem oiX4 : Cond.methodLink RX4 3 objectInit ∈ zw_tb := zw_tb_of (List.mem_of_getElem? (i := 91) (by decide +kernel)) rfl
theorem cnX8_16 : Cond.classLink RX8 16 "GraftRules$History" ∈ zw_tb := zw_tb_of (List.mem_of_getElem? (i := 118) (by decide +kernel)) rfl
theorem clX8_16 : zc_CL RX8 16 1 3 := ⟨RX1, TX1, tyX1, rfl, iw1, tyX1_ok, zw_tb_of (List.mem_of_getElem? (i := 118) (by decide +kernel)) rfl, zw_tb_of (List.mem_of_getElem? (i := 119) (by decide +kernel)) rfl, zw_tb_of (List.mem_of_getElem? (i := 63) (by decide +kernel)) rfl, fun j hj => by
  rcases (show j = 0 ∨ j = 1 ∨ j = 2 by omega) with rfl | rfl | rfl <;> rfl⟩
theorem ikX8_18 : zc_IK RX8 18 yX1_init := Or.inl (zw_tb_of (List.mem_of_getElem? (i := 120) (by decide +kernel)) rfl)
theorem oiX1 : Cond.methodLink RX1 3 objectInit ∈ zw_tb := zw_tb_of (List.mem_of_getElem? (i := 123) (by decide +kernel)) rfl
theorem cnX1_9 : Cond.classLink RX1 9 "GraftRules$State" ∈ zw_tb := zw_tb_of (List.mem_of_getElem? (i := 124) (by decide +kernel)) rfl
theorem clX1_9 : zc_CL RX1 9 6 4 := ⟨RX6, TX6, tyX6, rfl, iw6, tyX6_ok, zw_tb_of (List.mem_of_getElem? (i := 124) (by decide +kernel)) rfl, zw_tb_of (List.mem_of_getElem? (i := 81) (by decide +kernel)) rfl, zw_tb_of (List.mem_of_getElem? (i := 60) (by decide +kernel)) rfl, fun j hj => by
  rcases (show j = 0 ∨ j = 1 ∨ j = 2 ∨ j = 3 by omega) with rfl | rfl | rfl | rfl <;> rfl⟩
theorem ikX1_24 : zc_IK RX1 24 yX6_init := Or.inr ⟨"GraftRules", List.mem_of_getElem? (i := 126) (by decide +kernel)⟩
theorem cnX8_23 : Cond.classLink RX8 23 "GraftRules$Image" ∈ zw_tb := zw_tb_of (List.mem_of_getElem? (i := 138) (by decide +kernel)) rfl
theorem clX8_23 : zc_CL RX8 23 2 3 := ⟨RX2, TX2, tyX2, rfl, iw2, tyX2_ok, zw_tb_of (List.mem_of_getElem? (i := 138) (by decide +kernel)) rfl, zw_tb_of (List.mem_of_getElem? (i := 229) (by decide +kernel)) rfl, zw_tb_of (List.mem_of_getElem? (i := 68) (by decide +kernel)) rfl, fun j hj => by
  rcases (show j = 0 ∨ j = 1 ∨ j = 2 by omega) with rfl | rfl | rfl <;> rfl⟩
theorem cnX8_29 : Cond.classLink RX8 29 "GraftRules$Book" ∈ zw_tb := zw_tb_of (List.mem_of_getElem? (i := 140) (by decide +kernel)) rfl
theorem clX8_29 : zc_CL RX8 29 0 3 := ⟨RX0, TX0, tyX0, rfl, iw0, tyX0_ok, zw_tb_of (List.mem_of_getElem? (i := 140) (by decide +kernel)) rfl, zw_tb_of (List.mem_of_getElem? (i := 141) (by decide +kernel)) rfl, zw_tb_of (List.mem_of_getElem? (i := 64) (by decide +kernel)) rfl, fun j hj => by
  rcases (show j = 0 ∨ j = 1 ∨ j = 2 by omega) with rfl | rfl | rfl <;> rfl⟩
theorem ikX8_31 : zc_IK RX8 31 yX0_init := Or.inr ⟨"GraftRules", List.mem_of_getElem? (i := 142) (by decide +kernel)⟩
theorem oiX0 : Cond.methodLink RX0 3 objectInit ∈ zw_tb := zw_tb_of (List.mem_of_getElem? (i := 145) (by decide +kernel)) rfl
theorem cnX8_36 : Cond.classLink RX8 36 "GraftRules$Judge" ∈ zw_tb := zw_tb_of (List.mem_of_getElem? (i := 157) (by decide +kernel)) rfl
theorem clX8_36 : zc_CL RX8 36 3 5 := ⟨RX3, TX3, tyX3, rfl, iw3, tyX3_ok, zw_tb_of (List.mem_of_getElem? (i := 157) (by decide +kernel)) rfl, zw_tb_of (List.mem_of_getElem? (i := 158) (by decide +kernel)) rfl, zw_tb_of (List.mem_of_getElem? (i := 65) (by decide +kernel)) rfl, fun j hj => by
  rcases (show j = 0 ∨ j = 1 ∨ j = 2 ∨ j = 3 ∨ j = 4 by omega) with rfl | rfl | rfl | rfl | rfl <;> rfl⟩
theorem ikX8_38 : zc_IK RX8 38 yX3_init := Or.inr ⟨"GraftRules", List.mem_of_getElem? (i := 159) (by decide +kernel)⟩
theorem oiX3 : Cond.methodLink RX3 3 objectInit ∈ zw_tb := zw_tb_of (List.mem_of_getElem? (i := 162) (by decide +kernel)) rfl
theorem cnX3_9 : Cond.classLink RX3 9 "GraftRules$Tree" ∈ zw_tb := zw_tb_of (List.mem_of_getElem? (i := 163) (by decide +kernel)) rfl
theorem clX3_9 : zc_CL RX3 9 7 4 := ⟨RX7, TX7, tyX7, rfl, iw7, tyX7_ok, zw_tb_of (List.mem_of_getElem? (i := 163) (by decide +kernel)) rfl, zw_tb_of (List.mem_of_getElem? (i := 164) (by decide +kernel)) rfl, zw_tb_of (List.mem_of_getElem? (i := 66) (by decide +kernel)) rfl, fun j hj => by
  rcases (show j = 0 ∨ j = 1 ∨ j = 2 ∨ j = 3 by omega) with rfl | rfl | rfl | rfl <;> rfl⟩
theorem ikX3_11 : zc_IK RX3 11 yX7_init := Or.inr ⟨"GraftRules", List.mem_of_getElem? (i := 165) (by decide +kernel)⟩
theorem oiX7 : Cond.methodLink RX7 3 objectInit ∈ zw_tb := zw_tb_of (List.mem_of_getElem? (i := 168) (by decide +kernel)) rfl
theorem cnX8_43 : Cond.classLink RX8 43 "GraftRules$Series" ∈ zw_tb := zw_tb_of (List.mem_of_getElem? (i := 203) (by decide +kernel)) rfl
theorem clX8_43 : zc_CL RX8 43 5 4 := ⟨RX5, TX5, tyX5, rfl, iw5, tyX5_ok, zw_tb_of (List.mem_of_getElem? (i := 203) (by decide +kernel)) rfl, zw_tb_of (List.mem_of_getElem? (i := 204) (by decide +kernel)) rfl, zw_tb_of (List.mem_of_getElem? (i := 67) (by decide +kernel)) rfl, fun j hj => by
  rcases (show j = 0 ∨ j = 1 ∨ j = 2 ∨ j = 3 by omega) with rfl | rfl | rfl | rfl <;> rfl⟩
theorem ikX8_45 : zc_IK RX8 45 yX5_init := Or.inr ⟨"GraftRules", List.mem_of_getElem? (i := 205) (by decide +kernel)⟩
theorem oiX5 : Cond.methodLink RX5 3 objectInit ∈ zw_tb := zw_tb_of (List.mem_of_getElem? (i := 208) (by decide +kernel)) rfl
theorem cnX5_15 : Cond.classLink RX5 15 "[[J" ∈ zw_tb := zw_tb_of (List.mem_of_getElem? (i := 209) (by decide +kernel)) rfl
theorem cnX8_50 : Cond.classLink RX8 50 "GraftRules$Tree" ∈ zw_tb := zw_tb_of (List.mem_of_getElem? (i := 227) (by decide +kernel)) rfl
theorem clX8_50 : zc_CL RX8 50 7 4 := ⟨RX7, TX7, tyX7, rfl, iw7, tyX7_ok, zw_tb_of (List.mem_of_getElem? (i := 227) (by decide +kernel)) rfl, zw_tb_of (List.mem_of_getElem? (i := 164) (by decide +kernel)) rfl, zw_tb_of (List.mem_of_getElem? (i := 66) (by decide +kernel)) rfl, fun j hj => by
  rcases (show j = 0 ∨ j = 1 ∨ j = 2 ∨ j = 3 by omega) with rfl | rfl | rfl | rfl <;> rfl⟩
theorem ikX8_52 : zc_IK RX8 52 yX7_init := Or.inr ⟨"GraftRules", List.mem_of_getElem? (i := 228) (by decide +kernel)⟩
theorem ikX8_74 : zc_IK RX8 74 yX2_init := Or.inr ⟨"GraftRules", List.mem_of_getElem? (i := 230) (by decide +kernel)⟩
theorem oiX2 : Cond.methodLink RX2 1 objectInit ∈ zw_tb := zw_tb_of (List.mem_of_getElem? (i := 233) (by decide +kernel)) rfl
theorem cnX2_7 : Cond.classLink RX2 7 "GraftRules$State" ∈ zw_tb := zw_tb_of (List.mem_of_getElem? (i := 234) (by decide +kernel)) rfl
theorem clX2_7 : zc_CL RX2 7 6 4 := ⟨RX6, TX6, tyX6, rfl, iw6, tyX6_ok, zw_tb_of (List.mem_of_getElem? (i := 234) (by decide +kernel)) rfl, zw_tb_of (List.mem_of_getElem? (i := 81) (by decide +kernel)) rfl, zw_tb_of (List.mem_of_getElem? (i := 60) (by decide +kernel)) rfl, fun j hj => by
  rcases (show j = 0 ∨ j = 1 ∨ j = 2 ∨ j = 3 by omega) with rfl | rfl | rfl | rfl <;> rfl⟩
theorem ikX2_9 : zc_IK RX2 9 yX6_init := Or.inr ⟨"GraftRules", List.mem_of_getElem? (i := 235) (by decide +kernel)⟩
theorem cnL_10 : Cond.classLink RL 10 "GraftRulesModel" ∈ zw_tb := zw_tb_of (List.mem_of_getElem? (i := 714) (by decide +kernel)) rfl
theorem clL_10 : zc_CL RL 10 9 22 := ⟨RX9, TX9, tyX9, rfl, iw9, tyX9_ok, zw_tb_of (List.mem_of_getElem? (i := 714) (by decide +kernel)) rfl, zw_tb_of (List.mem_of_getElem? (i := 715) (by decide +kernel)) rfl, zw_tb_of (List.mem_of_getElem? (i := 69) (by decide +kernel)) rfl, fun j hj => by
  rcases (show j = 0 ∨ j = 1 ∨ j = 2 ∨ j = 3 ∨ j = 4 ∨ j = 5 ∨ j = 6 ∨ j = 7 ∨ j = 8 ∨ j = 9 ∨ j = 10 ∨ j = 11 ∨ j = 12 ∨ j = 13 ∨ j = 14 ∨ j = 15 ∨ j = 16 ∨ j = 17 ∨ j = 18 ∨ j = 19 ∨ j = 20 ∨ j = 21 by omega) with rfl | rfl | rfl | rfl | rfl | rfl | rfl | rfl | rfl | rfl | rfl | rfl | rfl | rfl | rfl | rfl | rfl | rfl | rfl | rfl | rfl | rfl <;> rfl⟩
theorem ikL_12 : zc_IK RL 12 yX9_init := Or.inl (zw_tb_of (List.mem_of_getElem? (i := 716) (by decide +kernel)) rfl)
theorem oiX9 : Cond.methodLink RX9 1 objectInit ∈ zw_tb := zw_tb_of (List.mem_of_getElem? (i := 719) (by decide +kernel)) rfl
theorem ffX4_9 : zc_FF RX4 9 4 0 := ⟨RX4, TX4, 2, tyX4, tyX4 0, rfl, iw4, tyX4_ok, nmX4, by decide, zw_tb_of (List.mem_of_getElem? (i := 95) (by decide +kernel)) rfl, rfl, rfl, tyX4_ok 0 (by decide), fun _ => rfl, fun _ => rfl⟩
theorem ffX4_15 : zc_FF RX4 15 4 1 := ⟨RX4, TX4, 2, tyX4, tyX4 1, rfl, iw4, tyX4_ok, nmX4, by decide, zw_tb_of (List.mem_of_getElem? (i := 96) (by decide +kernel)) rfl, rfl, rfl, tyX4_ok 1 (by decide), fun _ => rfl, fun _ => rfl⟩
theorem ffX6_12 : zc_FF RX6 12 6 0 := ⟨RX6, TX6, 4, tyX6, tyX6 0, rfl, iw6, tyX6_ok, nmX6, by decide, zw_tb_of (List.mem_of_getElem? (i := 103) (by decide +kernel)) rfl, rfl, rfl, tyX6_ok 0 (by decide), fun _ => rfl, fun _ => rfl⟩
theorem ffX6_18 : zc_FF RX6 18 6 1 := ⟨RX6, TX6, 4, tyX6, tyX6 1, rfl, iw6, tyX6_ok, nmX6, by decide, zw_tb_of (List.mem_of_getElem? (i := 105) (by decide +kernel)) rfl, rfl, rfl, tyX6_ok 1 (by decide), fun _ => rfl, fun _ => rfl⟩
theorem ffX6_22 : zc_FF RX6 22 6 2 := ⟨RX6, TX6, 4, tyX6, tyX6 2, rfl, iw6, tyX6_ok, nmX6, by decide, zw_tb_of (List.mem_of_getElem? (i := 106) (by decide +kernel)) rfl, rfl, rfl, tyX6_ok 2 (by decide), fun _ => rfl, fun _ => rfl⟩
theorem fiX6_25 (v : Int32) : zc_FI RX6 25 6 3 v := ⟨RX6, TX6, 4, tyX6, tyX6 3, rfl, iw6, tyX6_ok, nmX6, by decide, zw_tb_of (List.mem_of_getElem? (i := 107) (by decide +kernel)) rfl, rfl, tyX6_ok 3 (by decide), rfl, rfl⟩
theorem ffX1_11 : zc_FF RX1 11 1 0 := ⟨RX1, TX1, 3, tyX1, tyX1 0, rfl, iw1, tyX1_ok, nmX1, by decide, zw_tb_of (List.mem_of_getElem? (i := 127) (by decide +kernel)) rfl, rfl, rfl, tyX1_ok 0 (by decide), fun _ => rfl, fun _ => rfl⟩
theorem fiX1_17 (v : Int32) : zc_FI RX1 17 1 1 v := ⟨RX1, TX1, 3, tyX1, tyX1 1, rfl, iw1, tyX1_ok, nmX1, by decide, zw_tb_of (List.mem_of_getElem? (i := 128) (by decide +kernel)) rfl, rfl, tyX1_ok 1 (by decide), rfl, rfl⟩
theorem fiX1_21 (v : Int32) : zc_FI RX1 21 1 2 v := ⟨RX1, TX1, 3, tyX1, tyX1 2, rfl, iw1, tyX1_ok, nmX1, by decide, zw_tb_of (List.mem_of_getElem? (i := 129) (by decide +kernel)) rfl, rfl, tyX1_ok 2 (by decide), rfl, rfl⟩
theorem ffX0_9 : zc_FF RX0 9 0 0 := ⟨RX0, TX0, 3, tyX0, tyX0 0, rfl, iw0, tyX0_ok, nmX0, by decide, zw_tb_of (List.mem_of_getElem? (i := 146) (by decide +kernel)) rfl, rfl, rfl, tyX0_ok 0 (by decide), fun _ => rfl, fun _ => rfl⟩
theorem ffX0_15 : zc_FF RX0 15 0 1 := ⟨RX0, TX0, 3, tyX0, tyX0 1, rfl, iw0, tyX0_ok, nmX0, by decide, zw_tb_of (List.mem_of_getElem? (i := 147) (by decide +kernel)) rfl, rfl, rfl, tyX0_ok 1 (by decide), fun _ => rfl, fun _ => rfl⟩
theorem fiX0_18 (v : Int32) : zc_FI RX0 18 0 2 v := ⟨RX0, TX0, 3, tyX0, tyX0 2, rfl, iw0, tyX0_ok, nmX0, by decide, zw_tb_of (List.mem_of_getElem? (i := 148) (by decide +kernel)) rfl, rfl, tyX0_ok 2 (by decide), rfl, rfl⟩
theorem ffX7_9 : zc_FF RX7 9 7 0 := ⟨RX7, TX7, 4, tyX7, tyX7 0, rfl, iw7, tyX7_ok, nmX7, by decide, zw_tb_of (List.mem_of_getElem? (i := 169) (by decide +kernel)) rfl, rfl, rfl, tyX7_ok 0 (by decide), fun _ => rfl, fun _ => rfl⟩
theorem ffX7_15 : zc_FF RX7 15 7 1 := ⟨RX7, TX7, 4, tyX7, tyX7 1, rfl, iw7, tyX7_ok, nmX7, by decide, zw_tb_of (List.mem_of_getElem? (i := 170) (by decide +kernel)) rfl, rfl, rfl, tyX7_ok 1 (by decide), fun _ => rfl, fun _ => rfl⟩
theorem fiX7_18 (v : Int32) : zc_FI RX7 18 7 2 v := ⟨RX7, TX7, 4, tyX7, tyX7 2, rfl, iw7, tyX7_ok, nmX7, by decide, zw_tb_of (List.mem_of_getElem? (i := 171) (by decide +kernel)) rfl, rfl, tyX7_ok 2 (by decide), rfl, rfl⟩
theorem fiX7_22 (v : Int32) : zc_FI RX7 22 7 3 v := ⟨RX7, TX7, 4, tyX7, tyX7 3, rfl, iw7, tyX7_ok, nmX7, by decide, zw_tb_of (List.mem_of_getElem? (i := 172) (by decide +kernel)) rfl, rfl, tyX7_ok 3 (by decide), rfl, rfl⟩
theorem ffX3_12 : zc_FF RX3 12 3 0 := ⟨RX3, TX3, 5, tyX3, tyX3 0, rfl, iw3, tyX3_ok, nmX3, by decide, zw_tb_of (List.mem_of_getElem? (i := 184) (by decide +kernel)) rfl, rfl, rfl, tyX3_ok 0 (by decide), fun _ => rfl, fun _ => rfl⟩
theorem ffX3_18 : zc_FF RX3 18 3 1 := ⟨RX3, TX3, 5, tyX3, tyX3 1, rfl, iw3, tyX3_ok, nmX3, by decide, zw_tb_of (List.mem_of_getElem? (i := 185) (by decide +kernel)) rfl, rfl, rfl, tyX3_ok 1 (by decide), fun _ => rfl, fun _ => rfl⟩
theorem fiX3_21 (v : Int32) : zc_FI RX3 21 3 2 v := ⟨RX3, TX3, 5, tyX3, tyX3 2, rfl, iw3, tyX3_ok, nmX3, by decide, zw_tb_of (List.mem_of_getElem? (i := 186) (by decide +kernel)) rfl, rfl, tyX3_ok 2 (by decide), rfl, rfl⟩
theorem fiX3_25 (v : Int32) : zc_FI RX3 25 3 3 v := ⟨RX3, TX3, 5, tyX3, tyX3 3, rfl, iw3, tyX3_ok, nmX3, by decide, zw_tb_of (List.mem_of_getElem? (i := 188) (by decide +kernel)) rfl, rfl, tyX3_ok 3 (by decide), rfl, rfl⟩
theorem fiX3_28 (v : Int32) : zc_FI RX3 28 3 4 v := ⟨RX3, TX3, 5, tyX3, tyX3 4, rfl, iw3, tyX3_ok, nmX3, by decide, zw_tb_of (List.mem_of_getElem? (i := 190) (by decide +kernel)) rfl, rfl, tyX3_ok 4 (by decide), rfl, rfl⟩
theorem ffX5_9 : zc_FF RX5 9 5 0 := ⟨RX5, TX5, 4, tyX5, tyX5 0, rfl, iw5, tyX5_ok, nmX5, by decide, zw_tb_of (List.mem_of_getElem? (i := 211) (by decide +kernel)) rfl, rfl, rfl, tyX5_ok 0 (by decide), fun _ => rfl, fun _ => rfl⟩
theorem ffX5_17 : zc_FF RX5 17 5 1 := ⟨RX5, TX5, 4, tyX5, tyX5 1, rfl, iw5, tyX5_ok, nmX5, by decide, zw_tb_of (List.mem_of_getElem? (i := 213) (by decide +kernel)) rfl, rfl, rfl, tyX5_ok 1 (by decide), fun _ => rfl, fun _ => rfl⟩
theorem ffX5_20 : zc_FF RX5 20 5 2 := ⟨RX5, TX5, 4, tyX5, tyX5 2, rfl, iw5, tyX5_ok, nmX5, by decide, zw_tb_of (List.mem_of_getElem? (i := 214) (by decide +kernel)) rfl, rfl, rfl, tyX5_ok 2 (by decide), fun _ => rfl, fun _ => rfl⟩
theorem ffX5_23 : zc_FF RX5 23 5 3 := ⟨RX5, TX5, 4, tyX5, tyX5 3, rfl, iw5, tyX5_ok, nmX5, by decide, zw_tb_of (List.mem_of_getElem? (i := 216) (by decide +kernel)) rfl, rfl, rfl, tyX5_ok 3 (by decide), fun _ => rfl, fun _ => rfl⟩
theorem ffX2_10 : zc_FF RX2 10 2 0 := ⟨RX2, TX2, 3, tyX2, tyX2 0, rfl, iw2, tyX2_ok, nmX2, by decide, zw_tb_of (List.mem_of_getElem? (i := 236) (by decide +kernel)) rfl, rfl, rfl, tyX2_ok 0 (by decide), fun _ => rfl, fun _ => rfl⟩
theorem fiX2_16 (v : Int32) : zc_FI RX2 16 2 1 v := ⟨RX2, TX2, 3, tyX2, tyX2 1, rfl, iw2, tyX2_ok, nmX2, by decide, zw_tb_of (List.mem_of_getElem? (i := 238) (by decide +kernel)) rfl, rfl, tyX2_ok 1 (by decide), rfl, rfl⟩
theorem fiX2_20 : zc_FI RX2 20 2 2 0 := ⟨RX2, TX2, 3, tyX2, tyX2 2, rfl, iw2, tyX2_ok, nmX2, by decide, zw_tb_of (List.mem_of_getElem? (i := 240) (by decide +kernel)) rfl, rfl, tyX2_ok 2 (by decide), rfl, rfl⟩
theorem ffX8_12 : zc_FF RX8 12 8 0 := ⟨RX8, TX8, 12, tyX8, tyX8 0, rfl, iw8, tyX8_ok, nmX8, by decide, zw_tb_of (List.mem_of_getElem? (i := 249) (by decide +kernel)) rfl, rfl, rfl, tyX8_ok 0 (by decide), fun _ => rfl, fun _ => rfl⟩
theorem ffX8_19 : zc_FF RX8 19 8 1 := ⟨RX8, TX8, 12, tyX8, tyX8 1, rfl, iw8, tyX8_ok, nmX8, by decide, zw_tb_of (List.mem_of_getElem? (i := 250) (by decide +kernel)) rfl, rfl, rfl, tyX8_ok 1 (by decide), fun _ => rfl, fun _ => rfl⟩
theorem ffX8_25 : zc_FF RX8 25 8 2 := ⟨RX8, TX8, 12, tyX8, tyX8 2, rfl, iw8, tyX8_ok, nmX8, by decide, zw_tb_of (List.mem_of_getElem? (i := 251) (by decide +kernel)) rfl, rfl, rfl, tyX8_ok 2 (by decide), fun _ => rfl, fun _ => rfl⟩
theorem ffX8_32 : zc_FF RX8 32 8 3 := ⟨RX8, TX8, 12, tyX8, tyX8 3, rfl, iw8, tyX8_ok, nmX8, by decide, zw_tb_of (List.mem_of_getElem? (i := 252) (by decide +kernel)) rfl, rfl, rfl, tyX8_ok 3 (by decide), fun _ => rfl, fun _ => rfl⟩
theorem ffX8_39 : zc_FF RX8 39 8 4 := ⟨RX8, TX8, 12, tyX8, tyX8 4, rfl, iw8, tyX8_ok, nmX8, by decide, zw_tb_of (List.mem_of_getElem? (i := 253) (by decide +kernel)) rfl, rfl, rfl, tyX8_ok 4 (by decide), fun _ => rfl, fun _ => rfl⟩
theorem ffX8_46 : zc_FF RX8 46 8 5 := ⟨RX8, TX8, 12, tyX8, tyX8 5, rfl, iw8, tyX8_ok, nmX8, by decide, zw_tb_of (List.mem_of_getElem? (i := 254) (by decide +kernel)) rfl, rfl, rfl, tyX8_ok 5 (by decide), fun _ => rfl, fun _ => rfl⟩
theorem ffX8_53 : zc_FF RX8 53 8 6 := ⟨RX8, TX8, 12, tyX8, tyX8 6, rfl, iw8, tyX8_ok, nmX8, by decide, zw_tb_of (List.mem_of_getElem? (i := 255) (by decide +kernel)) rfl, rfl, rfl, tyX8_ok 6 (by decide), fun _ => rfl, fun _ => rfl⟩
theorem ffX8_57 : zc_FF RX8 57 8 7 := ⟨RX8, TX8, 12, tyX8, tyX8 7, rfl, iw8, tyX8_ok, nmX8, by decide, zw_tb_of (List.mem_of_getElem? (i := 256) (by decide +kernel)) rfl, rfl, rfl, tyX8_ok 7 (by decide), fun _ => rfl, fun _ => rfl⟩
theorem ffX8_60 : zc_FF RX8 60 8 8 := ⟨RX8, TX8, 12, tyX8, tyX8 8, rfl, iw8, tyX8_ok, nmX8, by decide, zw_tb_of (List.mem_of_getElem? (i := 257) (by decide +kernel)) rfl, rfl, rfl, tyX8_ok 8 (by decide), fun _ => rfl, fun _ => rfl⟩
theorem fiX8_64 (v : Int32) : zc_FI RX8 64 8 9 v := ⟨RX8, TX8, 12, tyX8, tyX8 9, rfl, iw8, tyX8_ok, nmX8, by decide, zw_tb_of (List.mem_of_getElem? (i := 258) (by decide +kernel)) rfl, rfl, tyX8_ok 9 (by decide), rfl, rfl⟩
theorem fiX8_68 (v : Int32) : zc_FI RX8 68 8 10 v := ⟨RX8, TX8, 12, tyX8, tyX8 10, rfl, iw8, tyX8_ok, nmX8, by decide, zw_tb_of (List.mem_of_getElem? (i := 259) (by decide +kernel)) rfl, rfl, tyX8_ok 10 (by decide), rfl, rfl⟩
theorem fiX8_71 (v : Int32) : zc_FI RX8 71 8 11 v := ⟨RX8, TX8, 12, tyX8, tyX8 11, rfl, iw8, tyX8_ok, nmX8, by decide, zw_tb_of (List.mem_of_getElem? (i := 260) (by decide +kernel)) rfl, rfl, tyX8_ok 11 (by decide), rfl, rfl⟩
theorem ffX9_7 : zc_FF RX9 7 9 0 := ⟨RX9, TX9, 22, tyX9, tyX9 0, rfl, iw9, tyX9_ok, nmX9, by decide, zw_tb_of (List.mem_of_getElem? (i := 720) (by decide +kernel)) rfl, rfl, rfl, tyX9_ok 0 (by decide), fun _ => rfl, fun _ => rfl⟩
theorem fiX9_183 (v : Int32) : zc_FI RX9 183 9 1 v := ⟨RX9, TX9, 22, tyX9, tyX9 1, rfl, iw9, tyX9_ok, nmX9, by decide, zw_tb_of (List.mem_of_getElem? (i := 721) (by decide +kernel)) rfl, rfl, tyX9_ok 1 (by decide), rfl, rfl⟩
theorem fiX9_240 (v : Int32) : zc_FI RX9 240 9 2 v := ⟨RX9, TX9, 22, tyX9, tyX9 2, rfl, iw9, tyX9_ok, nmX9, by decide, zw_tb_of (List.mem_of_getElem? (i := 722) (by decide +kernel)) rfl, rfl, tyX9_ok 2 (by decide), rfl, rfl⟩
theorem fiX9_221 (v : Int32) : zc_FI RX9 221 9 3 v := ⟨RX9, TX9, 22, tyX9, tyX9 3, rfl, iw9, tyX9_ok, nmX9, by decide, zw_tb_of (List.mem_of_getElem? (i := 723) (by decide +kernel)) rfl, rfl, tyX9_ok 3 (by decide), rfl, rfl⟩
theorem ffX9_13 : zc_FF RX9 13 9 4 := ⟨RX9, TX9, 22, tyX9, tyX9 4, rfl, iw9, tyX9_ok, nmX9, by decide, zw_tb_of (List.mem_of_getElem? (i := 724) (by decide +kernel)) rfl, rfl, rfl, tyX9_ok 4 (by decide), fun _ => rfl, fun _ => rfl⟩
theorem ffX9_16 : zc_FF RX9 16 9 5 := ⟨RX9, TX9, 22, tyX9, tyX9 5, rfl, iw9, tyX9_ok, nmX9, by decide, zw_tb_of (List.mem_of_getElem? (i := 725) (by decide +kernel)) rfl, rfl, rfl, tyX9_ok 5 (by decide), fun _ => rfl, fun _ => rfl⟩
theorem fiX9_149 (v : Int32) : zc_FI RX9 149 9 6 v := ⟨RX9, TX9, 22, tyX9, tyX9 6, rfl, iw9, tyX9_ok, nmX9, by decide, zw_tb_of (List.mem_of_getElem? (i := 726) (by decide +kernel)) rfl, rfl, tyX9_ok 6 (by decide), rfl, rfl⟩
theorem fiX9_19 (v : Int32) : zc_FI RX9 19 9 7 v := ⟨RX9, TX9, 22, tyX9, tyX9 7, rfl, iw9, tyX9_ok, nmX9, by decide, zw_tb_of (List.mem_of_getElem? (i := 727) (by decide +kernel)) rfl, rfl, tyX9_ok 7 (by decide), rfl, rfl⟩
theorem ffX9_23 : zc_FF RX9 23 9 8 := ⟨RX9, TX9, 22, tyX9, tyX9 8, rfl, iw9, tyX9_ok, nmX9, by decide, zw_tb_of (List.mem_of_getElem? (i := 728) (by decide +kernel)) rfl, rfl, rfl, tyX9_ok 8 (by decide), fun _ => rfl, fun _ => rfl⟩
theorem ffX9_26 : zc_FF RX9 26 9 9 := ⟨RX9, TX9, 22, tyX9, tyX9 9, rfl, iw9, tyX9_ok, nmX9, by decide, zw_tb_of (List.mem_of_getElem? (i := 729) (by decide +kernel)) rfl, rfl, rfl, tyX9_ok 9 (by decide), fun _ => rfl, fun _ => rfl⟩
theorem fiX9_162 (v : Int32) : zc_FI RX9 162 9 10 v := ⟨RX9, TX9, 22, tyX9, tyX9 10, rfl, iw9, tyX9_ok, nmX9, by decide, zw_tb_of (List.mem_of_getElem? (i := 730) (by decide +kernel)) rfl, rfl, tyX9_ok 10 (by decide), rfl, rfl⟩
theorem ffX9_29 : zc_FF RX9 29 9 11 := ⟨RX9, TX9, 22, tyX9, tyX9 11, rfl, iw9, tyX9_ok, nmX9, by decide, zw_tb_of (List.mem_of_getElem? (i := 731) (by decide +kernel)) rfl, rfl, rfl, tyX9_ok 11 (by decide), fun _ => rfl, fun _ => rfl⟩
theorem fiX9_58 (v : Int32) : zc_FI RX9 58 9 12 v := ⟨RX9, TX9, 22, tyX9, tyX9 12, rfl, iw9, tyX9_ok, nmX9, by decide, zw_tb_of (List.mem_of_getElem? (i := 732) (by decide +kernel)) rfl, rfl, tyX9_ok 12 (by decide), rfl, rfl⟩
theorem fiX9_61 (v : Int32) : zc_FI RX9 61 9 13 v := ⟨RX9, TX9, 22, tyX9, tyX9 13, rfl, iw9, tyX9_ok, nmX9, by decide, zw_tb_of (List.mem_of_getElem? (i := 733) (by decide +kernel)) rfl, rfl, tyX9_ok 13 (by decide), rfl, rfl⟩
theorem ffX9_32 : zc_FF RX9 32 9 14 := ⟨RX9, TX9, 22, tyX9, tyX9 14, rfl, iw9, tyX9_ok, nmX9, by decide, zw_tb_of (List.mem_of_getElem? (i := 734) (by decide +kernel)) rfl, rfl, rfl, tyX9_ok 14 (by decide), fun _ => rfl, fun _ => rfl⟩
theorem fiX9_83 (v : Int32) : zc_FI RX9 83 9 15 v := ⟨RX9, TX9, 22, tyX9, tyX9 15, rfl, iw9, tyX9_ok, nmX9, by decide, zw_tb_of (List.mem_of_getElem? (i := 735) (by decide +kernel)) rfl, rfl, tyX9_ok 15 (by decide), rfl, rfl⟩
theorem ffX9_35 : zc_FF RX9 35 9 16 := ⟨RX9, TX9, 22, tyX9, tyX9 16, rfl, iw9, tyX9_ok, nmX9, by decide, zw_tb_of (List.mem_of_getElem? (i := 736) (by decide +kernel)) rfl, rfl, rfl, tyX9_ok 16 (by decide), fun _ => rfl, fun _ => rfl⟩
theorem ffX9_38 : zc_FF RX9 38 9 17 := ⟨RX9, TX9, 22, tyX9, tyX9 17, rfl, iw9, tyX9_ok, nmX9, by decide, zw_tb_of (List.mem_of_getElem? (i := 737) (by decide +kernel)) rfl, rfl, rfl, tyX9_ok 17 (by decide), fun _ => rfl, fun _ => rfl⟩
theorem ffX9_42 : zc_FF RX9 42 9 18 := ⟨RX9, TX9, 22, tyX9, tyX9 18, rfl, iw9, tyX9_ok, nmX9, by decide, zw_tb_of (List.mem_of_getElem? (i := 738) (by decide +kernel)) rfl, rfl, rfl, tyX9_ok 18 (by decide), fun _ => rfl, fun _ => rfl⟩
theorem ffX9_45 : zc_FF RX9 45 9 19 := ⟨RX9, TX9, 22, tyX9, tyX9 19, rfl, iw9, tyX9_ok, nmX9, by decide, zw_tb_of (List.mem_of_getElem? (i := 739) (by decide +kernel)) rfl, rfl, rfl, tyX9_ok 19 (by decide), fun _ => rfl, fun _ => rfl⟩
theorem ffX9_48 : zc_FF RX9 48 9 20 := ⟨RX9, TX9, 22, tyX9, tyX9 20, rfl, iw9, tyX9_ok, nmX9, by decide, zw_tb_of (List.mem_of_getElem? (i := 740) (by decide +kernel)) rfl, rfl, rfl, tyX9_ok 20 (by decide), fun _ => rfl, fun _ => rfl⟩
theorem ffX9_51 : zc_FF RX9 51 9 21 := ⟨RX9, TX9, 22, tyX9, tyX9 21, rfl, iw9, tyX9_ok, nmX9, by decide, zw_tb_of (List.mem_of_getElem? (i := 741) (by decide +kernel)) rfl, rfl, rfl, tyX9_ok 21 (by decide), fun _ => rfl, fun _ => rfl⟩
