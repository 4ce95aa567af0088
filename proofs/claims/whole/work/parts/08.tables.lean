abbrev mX0_isFull : zw_M := (yX0_isFull, cX0_isFull, 1, some .boolean)
theorem vmX0_isFull : zw_VM mX0_isFull 0 0 := ⟨zw_tb_of (List.mem_of_getElem? (i := 682) (by decide +kernel)) rfl, zw_tb_of (List.mem_of_getElem? (i := 683) (by decide +kernel)) rfl, zw_tb_of (List.mem_of_getElem? (i := 64) (by decide +kernel)) rfl, zw_tb_of (List.mem_of_getElem? (i := 684) (by decide +kernel)) rfl, ⟨by decide +kernel, by decide +kernel, by decide +kernel⟩, Nat.le_of_ble_eq_true rfl, ⟨_, rfl, rfl⟩, by decide⟩
abbrev mX0_add : zw_M := (yX0_add, cX0_add, 3, none)
theorem vmX0_add : zw_VM mX0_add 2 0 := ⟨zw_tb_of (List.mem_of_getElem? (i := 686) (by decide +kernel)) rfl, zw_tb_of (List.mem_of_getElem? (i := 687) (by decide +kernel)) rfl, zw_tb_of (List.mem_of_getElem? (i := 64) (by decide +kernel)) rfl, zw_tb_of (List.mem_of_getElem? (i := 688) (by decide +kernel)) rfl, ⟨by decide +kernel, by decide +kernel, by decide +kernel⟩, Nat.le_of_ble_eq_true rfl, ⟨_, rfl, rfl⟩, by decide⟩
abbrev mX0_firstWrong : zw_M := (yX0_firstWrong, cX0_firstWrong, 3, some .int)
theorem vmX0_firstWrong : zw_VM mX0_firstWrong 1 0 := ⟨zw_tb_of (List.mem_of_getElem? (i := 460) (by decide +kernel)) rfl, zw_tb_of (List.mem_of_getElem? (i := 461) (by decide +kernel)) rfl, zw_tb_of (List.mem_of_getElem? (i := 64) (by decide +kernel)) rfl, zw_tb_of (List.mem_of_getElem? (i := 462) (by decide +kernel)) rfl, ⟨by decide +kernel, by decide +kernel, by decide +kernel⟩, Nat.le_of_ble_eq_true rfl, ⟨_, rfl, rfl⟩, by decide⟩
abbrev mX1_forget : zw_M := (yX1_forget, cX1_forget, 1, none)
theorem vmX1_forget : zw_VM mX1_forget 0 1 := ⟨zw_tb_of (List.mem_of_getElem? (i := 707) (by decide +kernel)) rfl, zw_tb_of (List.mem_of_getElem? (i := 708) (by decide +kernel)) rfl, zw_tb_of (List.mem_of_getElem? (i := 63) (by decide +kernel)) rfl, zw_tb_of (List.mem_of_getElem? (i := 709) (by decide +kernel)) rfl, ⟨by decide +kernel, by decide +kernel, by decide +kernel⟩, Nat.le_of_ble_eq_true rfl, ⟨_, rfl, rfl⟩, by decide⟩
abbrev mX1_record : zw_M := (yX1_record, cX1_record, 3, none)
theorem vmX1_record : zw_VM mX1_record 1 1 := ⟨zw_tb_of (List.mem_of_getElem? (i := 316) (by decide +kernel)) rfl, zw_tb_of (List.mem_of_getElem? (i := 317) (by decide +kernel)) rfl, zw_tb_of (List.mem_of_getElem? (i := 63) (by decide +kernel)) rfl, zw_tb_of (List.mem_of_getElem? (i := 318) (by decide +kernel)) rfl, ⟨by decide +kernel, by decide +kernel, by decide +kernel⟩, Nat.le_of_ble_eq_true rfl, ⟨_, rfl, rfl⟩, by decide⟩
abbrev mX1_rewind : zw_M := (yX1_rewind, cX1_rewind, 4, none)
theorem vmX1_rewind : zw_VM mX1_rewind 2 1 := ⟨zw_tb_of (List.mem_of_getElem? (i := 670) (by decide +kernel)) rfl, zw_tb_of (List.mem_of_getElem? (i := 671) (by decide +kernel)) rfl, zw_tb_of (List.mem_of_getElem? (i := 63) (by decide +kernel)) rfl, zw_tb_of (List.mem_of_getElem? (i := 672) (by decide +kernel)) rfl, ⟨by decide +kernel, by decide +kernel, by decide +kernel⟩, Nat.le_of_ble_eq_true rfl, ⟨_, rfl, rfl⟩, by decide⟩
abbrev mX1_slotAt : zw_M := (yX1_slotAt, cX1_slotAt, 2, some (.object "GraftRules$State"))
theorem vmX1_slotAt : zw_VM mX1_slotAt 1 1 := ⟨zw_tb_of (List.mem_of_getElem? (i := 321) (by decide +kernel)) rfl, zw_tb_of (List.mem_of_getElem? (i := 1) (by decide +kernel)) rfl, zw_tb_of (List.mem_of_getElem? (i := 63) (by decide +kernel)) rfl, zw_tb_of (List.mem_of_getElem? (i := 322) (by decide +kernel)) rfl, ⟨by decide +kernel, by decide +kernel, by decide +kernel⟩, Nat.le_of_ble_eq_true rfl, ⟨_, rfl, rfl⟩, by decide⟩
abbrev mX3_judgeAll : zw_M := (yX3_judgeAll, cX3_judgeAll, 7, none)
theorem vmX3_judgeAll : zw_VM mX3_judgeAll 1 3 := ⟨zw_tb_of (List.mem_of_getElem? (i := 365) (by decide +kernel)) rfl, zw_tb_of (List.mem_of_getElem? (i := 366) (by decide +kernel)) rfl, zw_tb_of (List.mem_of_getElem? (i := 65) (by decide +kernel)) rfl, zw_tb_of (List.mem_of_getElem? (i := 367) (by decide +kernel)) rfl, ⟨by decide +kernel, by decide +kernel, by decide +kernel⟩, Nat.le_of_ble_eq_true rfl, ⟨_, rfl, rfl⟩, by decide⟩
abbrev mX3_judgeOne : zw_M := (yX3_judgeOne, cX3_judgeOne, 4, none)
theorem vmX3_judgeOne : zw_VM mX3_judgeOne 2 3 := ⟨zw_tb_of (List.mem_of_getElem? (i := 374) (by decide +kernel)) rfl, zw_tb_of (List.mem_of_getElem? (i := 2) (by decide +kernel)) rfl, zw_tb_of (List.mem_of_getElem? (i := 65) (by decide +kernel)) rfl, zw_tb_of (List.mem_of_getElem? (i := 375) (by decide +kernel)) rfl, ⟨by decide +kernel, by decide +kernel, by decide +kernel⟩, Nat.le_of_ble_eq_true rfl, ⟨_, rfl, rfl⟩, by decide⟩
abbrev mX4_isPattern : zw_M := (yX4_isPattern, cX4_isPattern, 1, some .boolean)
theorem smX4_isPattern : zw_SM mX4_isPattern 1 := ⟨zw_tb_of (List.mem_of_getElem? (i := 399) (by decide +kernel)) rfl, zw_tb_of (List.mem_of_getElem? (i := 61) (by decide +kernel)) rfl, zw_tb_of (List.mem_of_getElem? (i := 400) (by decide +kernel)) rfl, ⟨by decide +kernel, by decide +kernel, by decide +kernel⟩, Nat.le_of_ble_eq_true rfl⟩
abbrev mX4_sideOf : zw_M := (yX4_sideOf, cX4_sideOf, 1, some .int)
theorem smX4_sideOf : zw_SM mX4_sideOf 1 := ⟨zw_tb_of (List.mem_of_getElem? (i := 426) (by decide +kernel)) rfl, zw_tb_of (List.mem_of_getElem? (i := 61) (by decide +kernel)) rfl, zw_tb_of (List.mem_of_getElem? (i := 427) (by decide +kernel)) rfl, ⟨by decide +kernel, by decide +kernel, by decide +kernel⟩, Nat.le_of_ble_eq_true rfl⟩
abbrev mX4_fateOf : zw_M := (yX4_fateOf, cX4_fateOf, 2, some .int)
theorem vmX4_fateOf : zw_VM mX4_fateOf 1 4 := ⟨zw_tb_of (List.mem_of_getElem? (i := 395) (by decide +kernel)) rfl, zw_tb_of (List.mem_of_getElem? (i := 396) (by decide +kernel)) rfl, zw_tb_of (List.mem_of_getElem? (i := 61) (by decide +kernel)) rfl, zw_tb_of (List.mem_of_getElem? (i := 397) (by decide +kernel)) rfl, ⟨by decide +kernel, by decide +kernel, by decide +kernel⟩, Nat.le_of_ble_eq_true rfl, ⟨_, rfl, rfl⟩, by decide⟩
abbrev mX4_goalOf : zw_M := (yX4_goalOf, cX4_goalOf, 2, some .int)
theorem vmX4_goalOf : zw_VM mX4_goalOf 1 4 := ⟨zw_tb_of (List.mem_of_getElem? (i := 418) (by decide +kernel)) rfl, zw_tb_of (List.mem_of_getElem? (i := 419) (by decide +kernel)) rfl, zw_tb_of (List.mem_of_getElem? (i := 61) (by decide +kernel)) rfl, zw_tb_of (List.mem_of_getElem? (i := 420) (by decide +kernel)) rfl, ⟨by decide +kernel, by decide +kernel, by decide +kernel⟩, Nat.le_of_ble_eq_true rfl, ⟨_, rfl, rfl⟩, by decide⟩
abbrev mX4_makerOf : zw_M := (yX4_makerOf, cX4_makerOf, 3, some .int)
theorem vmX4_makerOf : zw_VM mX4_makerOf 1 4 := ⟨zw_tb_of (List.mem_of_getElem? (i := 454) (by decide +kernel)) rfl, zw_tb_of (List.mem_of_getElem? (i := 455) (by decide +kernel)) rfl, zw_tb_of (List.mem_of_getElem? (i := 61) (by decide +kernel)) rfl, zw_tb_of (List.mem_of_getElem? (i := 456) (by decide +kernel)) rfl, ⟨by decide +kernel, by decide +kernel, by decide +kernel⟩, Nat.le_of_ble_eq_true rfl, ⟨_, rfl, rfl⟩, by decide⟩
abbrev mX4_put : zw_M := (yX4_put, cX4_put, 4, none)
theorem vmX4_put : zw_VM mX4_put 3 4 := ⟨zw_tb_of (List.mem_of_getElem? (i := 618) (by decide +kernel)) rfl, zw_tb_of (List.mem_of_getElem? (i := 619) (by decide +kernel)) rfl, zw_tb_of (List.mem_of_getElem? (i := 61) (by decide +kernel)) rfl, zw_tb_of (List.mem_of_getElem? (i := 620) (by decide +kernel)) rfl, ⟨by decide +kernel, by decide +kernel, by decide +kernel⟩, Nat.le_of_ble_eq_true rfl, ⟨_, rfl, rfl⟩, by decide⟩
abbrev mX4_allows : zw_M := (yX4_allows, cX4_allows, 5, some .boolean)
theorem vmX4_allows : zw_VM mX4_allows 3 4 := ⟨zw_tb_of (List.mem_of_getElem? (i := 614) (by decide +kernel)) rfl, zw_tb_of (List.mem_of_getElem? (i := 615) (by decide +kernel)) rfl, zw_tb_of (List.mem_of_getElem? (i := 61) (by decide +kernel)) rfl, zw_tb_of (List.mem_of_getElem? (i := 616) (by decide +kernel)) rfl, ⟨by decide +kernel, by decide +kernel, by decide +kernel⟩, Nat.le_of_ble_eq_true rfl, ⟨_, rfl, rfl⟩, by decide⟩
abbrev mX4_bound : zw_M := (yX4_bound, cX4_bound, 3, some .int)
theorem vmX4_bound : zw_VM mX4_bound 0 4 := ⟨zw_tb_of (List.mem_of_getElem? (i := 634) (by decide +kernel)) rfl, zw_tb_of (List.mem_of_getElem? (i := 635) (by decide +kernel)) rfl, zw_tb_of (List.mem_of_getElem? (i := 61) (by decide +kernel)) rfl, zw_tb_of (List.mem_of_getElem? (i := 636) (by decide +kernel)) rfl, ⟨by decide +kernel, by decide +kernel, by decide +kernel⟩, Nat.le_of_ble_eq_true rfl, ⟨_, rfl, rfl⟩, by decide⟩
abbrev mX4_release : zw_M := (yX4_release, cX4_release, 2, none)
theorem vmX4_release : zw_VM mX4_release 0 4 := ⟨zw_tb_of (List.mem_of_getElem? (i := 638) (by decide +kernel)) rfl, zw_tb_of (List.mem_of_getElem? (i := 639) (by decide +kernel)) rfl, zw_tb_of (List.mem_of_getElem? (i := 61) (by decide +kernel)) rfl, zw_tb_of (List.mem_of_getElem? (i := 640) (by decide +kernel)) rfl, ⟨by decide +kernel, by decide +kernel, by decide +kernel⟩, Nat.le_of_ble_eq_true rfl, ⟨_, rfl, rfl⟩, by decide⟩
abbrev mX4_dualFate : zw_M := (yX4_dualFate, cX4_dualFate, 3, some .int)
theorem vmX4_dualFate : zw_VM mX4_dualFate 1 4 := ⟨zw_tb_of (List.mem_of_getElem? (i := 449) (by decide +kernel)) rfl, zw_tb_of (List.mem_of_getElem? (i := 450) (by decide +kernel)) rfl, zw_tb_of (List.mem_of_getElem? (i := 61) (by decide +kernel)) rfl, zw_tb_of (List.mem_of_getElem? (i := 451) (by decide +kernel)) rfl, ⟨by decide +kernel, by decide +kernel, by decide +kernel⟩, Nat.le_of_ble_eq_true rfl, ⟨_, rfl, rfl⟩, by decide⟩
abbrev mX4_isOwnDual : zw_M := (yX4_isOwnDual, cX4_isOwnDual, 2, some .boolean)
theorem vmX4_isOwnDual : zw_VM mX4_isOwnDual 0 4 := ⟨zw_tb_of (List.mem_of_getElem? (i := 445) (by decide +kernel)) rfl, zw_tb_of (List.mem_of_getElem? (i := 446) (by decide +kernel)) rfl, zw_tb_of (List.mem_of_getElem? (i := 61) (by decide +kernel)) rfl, zw_tb_of (List.mem_of_getElem? (i := 447) (by decide +kernel)) rfl, ⟨by decide +kernel, by decide +kernel, by decide +kernel⟩, Nat.le_of_ble_eq_true rfl, ⟨_, rfl, rfl⟩, by decide⟩
abbrev mX4_turnDual : zw_M := (yX4_turnDual, cX4_turnDual, 2, none)
theorem vmX4_turnDual : zw_VM mX4_turnDual 0 4 := ⟨zw_tb_of (List.mem_of_getElem? (i := 626) (by decide +kernel)) rfl, zw_tb_of (List.mem_of_getElem? (i := 627) (by decide +kernel)) rfl, zw_tb_of (List.mem_of_getElem? (i := 61) (by decide +kernel)) rfl, zw_tb_of (List.mem_of_getElem? (i := 628) (by decide +kernel)) rfl, ⟨by decide +kernel, by decide +kernel, by decide +kernel⟩, Nat.le_of_ble_eq_true rfl, ⟨_, rfl, rfl⟩, by decide⟩
abbrev mX4_copyFrom : zw_M := (yX4_copyFrom, cX4_copyFrom, 3, none)
theorem vmX4_copyFrom : zw_VM mX4_copyFrom 1 4 := ⟨zw_tb_of (List.mem_of_getElem? (i := 328) (by decide +kernel)) rfl, zw_tb_of (List.mem_of_getElem? (i := 329) (by decide +kernel)) rfl, zw_tb_of (List.mem_of_getElem? (i := 61) (by decide +kernel)) rfl, zw_tb_of (List.mem_of_getElem? (i := 330) (by decide +kernel)) rfl, ⟨by decide +kernel, by decide +kernel, by decide +kernel⟩, Nat.le_of_ble_eq_true rfl, ⟨_, rfl, rfl⟩, by decide⟩
abbrev mX5_covers : zw_M := (yX5_covers, cX5_covers, 1, some .boolean)
theorem smX5_covers : zw_SM mX5_covers 1 := ⟨zw_tb_of (List.mem_of_getElem? (i := 533) (by decide +kernel)) rfl, zw_tb_of (List.mem_of_getElem? (i := 67) (by decide +kernel)) rfl, zw_tb_of (List.mem_of_getElem? (i := 534) (by decide +kernel)) rfl, ⟨by decide +kernel, by decide +kernel, by decide +kernel⟩, Nat.le_of_ble_eq_true rfl⟩
abbrev mX5_countTrees : zw_M := (yX5_countTrees, cX5_countTrees, 4, none)
theorem vmX5_countTrees : zw_VM mX5_countTrees 1 5 := ⟨zw_tb_of (List.mem_of_getElem? (i := 537) (by decide +kernel)) rfl, zw_tb_of (List.mem_of_getElem? (i := 538) (by decide +kernel)) rfl, zw_tb_of (List.mem_of_getElem? (i := 67) (by decide +kernel)) rfl, zw_tb_of (List.mem_of_getElem? (i := 539) (by decide +kernel)) rfl, ⟨by decide +kernel, by decide +kernel, by decide +kernel⟩, Nat.le_of_ble_eq_true rfl, ⟨_, rfl, rfl⟩, by decide⟩
abbrev mX5_countRooted : zw_M := (yX5_countRooted, cX5_countRooted, 7, some .long)
theorem vmX5_countRooted : zw_VM mX5_countRooted 3 5 := ⟨zw_tb_of (List.mem_of_getElem? (i := 542) (by decide +kernel)) rfl, zw_tb_of (List.mem_of_getElem? (i := 6) (by decide +kernel)) rfl, zw_tb_of (List.mem_of_getElem? (i := 67) (by decide +kernel)) rfl, zw_tb_of (List.mem_of_getElem? (i := 543) (by decide +kernel)) rfl, ⟨by decide +kernel, by decide +kernel, by decide +kernel⟩, Nat.le_of_ble_eq_true rfl, ⟨_, rfl, rfl⟩, by decide⟩
abbrev mX5_countBranches : zw_M := (yX5_countBranches, cX5_countBranches, 8, some .long)
theorem vmX5_countBranches : zw_VM mX5_countBranches 4 5 := ⟨zw_tb_of (List.mem_of_getElem? (i := 546) (by decide +kernel)) rfl, zw_tb_of (List.mem_of_getElem? (i := 7) (by decide +kernel)) rfl, zw_tb_of (List.mem_of_getElem? (i := 67) (by decide +kernel)) rfl, zw_tb_of (List.mem_of_getElem? (i := 547) (by decide +kernel)) rfl, ⟨by decide +kernel, by decide +kernel, by decide +kernel⟩, Nat.le_of_ble_eq_true rfl, ⟨_, rfl, rfl⟩, by decide⟩
abbrev mX5_undoTrees : zw_M := (yX5_undoTrees, cX5_undoTrees, 5, none)
theorem vmX5_undoTrees : zw_VM mX5_undoTrees 0 5 := ⟨zw_tb_of (List.mem_of_getElem? (i := 554) (by decide +kernel)) rfl, zw_tb_of (List.mem_of_getElem? (i := 555) (by decide +kernel)) rfl, zw_tb_of (List.mem_of_getElem? (i := 67) (by decide +kernel)) rfl, zw_tb_of (List.mem_of_getElem? (i := 556) (by decide +kernel)) rfl, ⟨by decide +kernel, by decide +kernel, by decide +kernel⟩, Nat.le_of_ble_eq_true rfl, ⟨_, rfl, rfl⟩, by decide⟩
abbrev mX5_raisePower : zw_M := (yX5_raisePower, cX5_raisePower, 5, none)
theorem vmX5_raisePower : zw_VM mX5_raisePower 0 5 := ⟨zw_tb_of (List.mem_of_getElem? (i := 565) (by decide +kernel)) rfl, zw_tb_of (List.mem_of_getElem? (i := 8) (by decide +kernel)) rfl, zw_tb_of (List.mem_of_getElem? (i := 67) (by decide +kernel)) rfl, zw_tb_of (List.mem_of_getElem? (i := 566) (by decide +kernel)) rfl, ⟨by decide +kernel, by decide +kernel, by decide +kernel⟩, Nat.le_of_ble_eq_true rfl, ⟨_, rfl, rfl⟩, by decide⟩
abbrev mX6_has : zw_M := (yX6_has, cX6_has, 2, some .boolean)
theorem vmX6_has : zw_VM mX6_has 1 6 := ⟨zw_tb_of (List.mem_of_getElem? (i := 345) (by decide +kernel)) rfl, zw_tb_of (List.mem_of_getElem? (i := 346) (by decide +kernel)) rfl, zw_tb_of (List.mem_of_getElem? (i := 60) (by decide +kernel)) rfl, zw_tb_of (List.mem_of_getElem? (i := 347) (by decide +kernel)) rfl, ⟨by decide +kernel, by decide +kernel, by decide +kernel⟩, Nat.le_of_ble_eq_true rfl, ⟨_, rfl, rfl⟩, by decide⟩
abbrev mX6_isFull : zw_M := (yX6_isFull, cX6_isFull, 1, some .boolean)
theorem vmX6_isFull : zw_VM mX6_isFull 0 6 := ⟨zw_tb_of (List.mem_of_getElem? (i := 297) (by decide +kernel)) rfl, zw_tb_of (List.mem_of_getElem? (i := 298) (by decide +kernel)) rfl, zw_tb_of (List.mem_of_getElem? (i := 60) (by decide +kernel)) rfl, zw_tb_of (List.mem_of_getElem? (i := 299) (by decide +kernel)) rfl, ⟨by decide +kernel, by decide +kernel, by decide +kernel⟩, Nat.le_of_ble_eq_true rfl, ⟨_, rfl, rfl⟩, by decide⟩
abbrev mX6_codeOf : zw_M := (yX6_codeOf, cX6_codeOf, 2, some .int)
theorem vmX6_codeOf : zw_VM mX6_codeOf 1 6 := ⟨zw_tb_of (List.mem_of_getElem? (i := 465) (by decide +kernel)) rfl, zw_tb_of (List.mem_of_getElem? (i := 466) (by decide +kernel)) rfl, zw_tb_of (List.mem_of_getElem? (i := 60) (by decide +kernel)) rfl, zw_tb_of (List.mem_of_getElem? (i := 467) (by decide +kernel)) rfl, ⟨by decide +kernel, by decide +kernel, by decide +kernel⟩, Nat.le_of_ble_eq_true rfl, ⟨_, rfl, rfl⟩, by decide⟩
abbrev mX6_signOf : zw_M := (yX6_signOf, cX6_signOf, 2, some .int)
theorem vmX6_signOf : zw_VM mX6_signOf 1 6 := ⟨zw_tb_of (List.mem_of_getElem? (i := 480) (by decide +kernel)) rfl, zw_tb_of (List.mem_of_getElem? (i := 481) (by decide +kernel)) rfl, zw_tb_of (List.mem_of_getElem? (i := 60) (by decide +kernel)) rfl, zw_tb_of (List.mem_of_getElem? (i := 482) (by decide +kernel)) rfl, ⟨by decide +kernel, by decide +kernel, by decide +kernel⟩, Nat.le_of_ble_eq_true rfl, ⟨_, rfl, rfl⟩, by decide⟩
abbrev mX6_lend : zw_M := (yX6_lend, cX6_lend, 3, none)
theorem vmX6_lend : zw_VM mX6_lend 2 6 := ⟨zw_tb_of (List.mem_of_getElem? (i := 475) (by decide +kernel)) rfl, zw_tb_of (List.mem_of_getElem? (i := 476) (by decide +kernel)) rfl, zw_tb_of (List.mem_of_getElem? (i := 60) (by decide +kernel)) rfl, zw_tb_of (List.mem_of_getElem? (i := 477) (by decide +kernel)) rfl, ⟨by decide +kernel, by decide +kernel, by decide +kernel⟩, Nat.le_of_ble_eq_true rfl, ⟨_, rfl, rfl⟩, by decide⟩
abbrev mX6_put : zw_M := (yX6_put, cX6_put, 3, none)
theorem vmX6_put : zw_VM mX6_put 2 6 := ⟨zw_tb_of (List.mem_of_getElem? (i := 341) (by decide +kernel)) rfl, zw_tb_of (List.mem_of_getElem? (i := 342) (by decide +kernel)) rfl, zw_tb_of (List.mem_of_getElem? (i := 60) (by decide +kernel)) rfl, zw_tb_of (List.mem_of_getElem? (i := 343) (by decide +kernel)) rfl, ⟨by decide +kernel, by decide +kernel, by decide +kernel⟩, Nat.le_of_ble_eq_true rfl, ⟨_, rfl, rfl⟩, by decide⟩
abbrev mX6_add : zw_M := (yX6_add, cX6_add, 2, some .int)
theorem vmX6_add : zw_VM mX6_add 1 6 := ⟨zw_tb_of (List.mem_of_getElem? (i := 335) (by decide +kernel)) rfl, zw_tb_of (List.mem_of_getElem? (i := 336) (by decide +kernel)) rfl, zw_tb_of (List.mem_of_getElem? (i := 60) (by decide +kernel)) rfl, zw_tb_of (List.mem_of_getElem? (i := 337) (by decide +kernel)) rfl, ⟨by decide +kernel, by decide +kernel, by decide +kernel⟩, Nat.le_of_ble_eq_true rfl, ⟨_, rfl, rfl⟩, by decide⟩
abbrev mX6_remove : zw_M := (yX6_remove, cX6_remove, 3, none)
theorem vmX6_remove : zw_VM mX6_remove 1 6 := ⟨zw_tb_of (List.mem_of_getElem? (i := 606) (by decide +kernel)) rfl, zw_tb_of (List.mem_of_getElem? (i := 607) (by decide +kernel)) rfl, zw_tb_of (List.mem_of_getElem? (i := 60) (by decide +kernel)) rfl, zw_tb_of (List.mem_of_getElem? (i := 608) (by decide +kernel)) rfl, ⟨by decide +kernel, by decide +kernel, by decide +kernel⟩, Nat.le_of_ble_eq_true rfl, ⟨_, rfl, rfl⟩, by decide⟩
abbrev mX6_copyFrom : zw_M := (yX6_copyFrom, cX6_copyFrom, 3, none)
theorem vmX6_copyFrom : zw_VM mX6_copyFrom 1 6 := ⟨zw_tb_of (List.mem_of_getElem? (i := 324) (by decide +kernel)) rfl, zw_tb_of (List.mem_of_getElem? (i := 325) (by decide +kernel)) rfl, zw_tb_of (List.mem_of_getElem? (i := 60) (by decide +kernel)) rfl, zw_tb_of (List.mem_of_getElem? (i := 326) (by decide +kernel)) rfl, ⟨by decide +kernel, by decide +kernel, by decide +kernel⟩, Nat.le_of_ble_eq_true rfl, ⟨_, rfl, rfl⟩, by decide⟩
abbrev mX7_open : zw_M := (yX7_open, cX7_open, 1, none)
theorem vmX7_open : zw_VM mX7_open 0 7 := ⟨zw_tb_of (List.mem_of_getElem? (i := 305) (by decide +kernel)) rfl, zw_tb_of (List.mem_of_getElem? (i := 306) (by decide +kernel)) rfl, zw_tb_of (List.mem_of_getElem? (i := 66) (by decide +kernel)) rfl, zw_tb_of (List.mem_of_getElem? (i := 307) (by decide +kernel)) rfl, ⟨by decide +kernel, by decide +kernel, by decide +kernel⟩, Nat.le_of_ble_eq_true rfl, ⟨_, rfl, rfl⟩, by decide⟩
abbrev mX7_append : zw_M := (yX7_append, cX7_append, 2, none)
theorem vmX7_append : zw_VM mX7_append 1 7 := ⟨zw_tb_of (List.mem_of_getElem? (i := 312) (by decide +kernel)) rfl, zw_tb_of (List.mem_of_getElem? (i := 313) (by decide +kernel)) rfl, zw_tb_of (List.mem_of_getElem? (i := 66) (by decide +kernel)) rfl, zw_tb_of (List.mem_of_getElem? (i := 314) (by decide +kernel)) rfl, ⟨by decide +kernel, by decide +kernel, by decide +kernel⟩, Nat.le_of_ble_eq_true rfl, ⟨_, rfl, rfl⟩, by decide⟩
abbrev mX7_becomeLeaf : zw_M := (yX7_becomeLeaf, cX7_becomeLeaf, 2, none)
theorem vmX7_becomeLeaf : zw_VM mX7_becomeLeaf 1 7 := ⟨zw_tb_of (List.mem_of_getElem? (i := 414) (by decide +kernel)) rfl, zw_tb_of (List.mem_of_getElem? (i := 415) (by decide +kernel)) rfl, zw_tb_of (List.mem_of_getElem? (i := 66) (by decide +kernel)) rfl, zw_tb_of (List.mem_of_getElem? (i := 416) (by decide +kernel)) rfl, ⟨by decide +kernel, by decide +kernel, by decide +kernel⟩, Nat.le_of_ble_eq_true rfl, ⟨_, rfl, rfl⟩, by decide⟩
abbrev mX7_becomeNode : zw_M := (yX7_becomeNode, cX7_becomeNode, 2, none)
theorem vmX7_becomeNode : zw_VM mX7_becomeNode 1 7 := ⟨zw_tb_of (List.mem_of_getElem? (i := 658) (by decide +kernel)) rfl, zw_tb_of (List.mem_of_getElem? (i := 659) (by decide +kernel)) rfl, zw_tb_of (List.mem_of_getElem? (i := 66) (by decide +kernel)) rfl, zw_tb_of (List.mem_of_getElem? (i := 660) (by decide +kernel)) rfl, ⟨by decide +kernel, by decide +kernel, by decide +kernel⟩, Nat.le_of_ble_eq_true rfl, ⟨_, rfl, rfl⟩, by decide⟩
abbrev mX7_copyFrom : zw_M := (yX7_copyFrom, cX7_copyFrom, 3, none)
theorem vmX7_copyFrom : zw_VM mX7_copyFrom 1 7 := ⟨zw_tb_of (List.mem_of_getElem? (i := 402) (by decide +kernel)) rfl, zw_tb_of (List.mem_of_getElem? (i := 403) (by decide +kernel)) rfl, zw_tb_of (List.mem_of_getElem? (i := 66) (by decide +kernel)) rfl, zw_tb_of (List.mem_of_getElem? (i := 404) (by decide +kernel)) rfl, ⟨by decide +kernel, by decide +kernel, by decide +kernel⟩, Nat.le_of_ble_eq_true rfl, ⟨_, rfl, rfl⟩, by decide⟩
abbrev mX7_readCode : zw_M := (yX7_readCode, cX7_readCode, 5, none)
theorem vmX7_readCode : zw_VM mX7_readCode 2 7 := ⟨zw_tb_of (List.mem_of_getElem? (i := 377) (by decide +kernel)) rfl, zw_tb_of (List.mem_of_getElem? (i := 378) (by decide +kernel)) rfl, zw_tb_of (List.mem_of_getElem? (i := 66) (by decide +kernel)) rfl, zw_tb_of (List.mem_of_getElem? (i := 379) (by decide +kernel)) rfl, ⟨by decide +kernel, by decide +kernel, by decide +kernel⟩, Nat.le_of_ble_eq_true rfl, ⟨_, rfl, rfl⟩, by decide⟩
abbrev mX7_codeNow : zw_M := (yX7_codeNow, cX7_codeNow, 3, some .int)
theorem vmX7_codeNow : zw_VM mX7_codeNow 0 7 := ⟨zw_tb_of (List.mem_of_getElem? (i := 349) (by decide +kernel)) rfl, zw_tb_of (List.mem_of_getElem? (i := 350) (by decide +kernel)) rfl, zw_tb_of (List.mem_of_getElem? (i := 66) (by decide +kernel)) rfl, zw_tb_of (List.mem_of_getElem? (i := 351) (by decide +kernel)) rfl, ⟨by decide +kernel, by decide +kernel, by decide +kernel⟩, Nat.le_of_ble_eq_true rfl, ⟨_, rfl, rfl⟩, by decide⟩
abbrev mX7_figureAt : zw_M := (yX7_figureAt, cX7_figureAt, 2, some .int)
theorem vmX7_figureAt : zw_VM mX7_figureAt 1 7 := ⟨zw_tb_of (List.mem_of_getElem? (i := 353) (by decide +kernel)) rfl, zw_tb_of (List.mem_of_getElem? (i := 354) (by decide +kernel)) rfl, zw_tb_of (List.mem_of_getElem? (i := 66) (by decide +kernel)) rfl, zw_tb_of (List.mem_of_getElem? (i := 355) (by decide +kernel)) rfl, ⟨by decide +kernel, by decide +kernel, by decide +kernel⟩, Nat.le_of_ble_eq_true rfl, ⟨_, rfl, rfl⟩, by decide⟩
abbrev mX7_putFigure : zw_M := (yX7_putFigure, cX7_putFigure, 3, none)
theorem vmX7_putFigure : zw_VM mX7_putFigure 2 7 := ⟨zw_tb_of (List.mem_of_getElem? (i := 429) (by decide +kernel)) rfl, zw_tb_of (List.mem_of_getElem? (i := 430) (by decide +kernel)) rfl, zw_tb_of (List.mem_of_getElem? (i := 66) (by decide +kernel)) rfl, zw_tb_of (List.mem_of_getElem? (i := 431) (by decide +kernel)) rfl, ⟨by decide +kernel, by decide +kernel, by decide +kernel⟩, Nat.le_of_ble_eq_true rfl, ⟨_, rfl, rfl⟩, by decide⟩
abbrev mX7_isNode : zw_M := (yX7_isNode, cX7_isNode, 2, some .boolean)
theorem vmX7_isNode : zw_VM mX7_isNode 1 7 := ⟨zw_tb_of (List.mem_of_getElem? (i := 505) (by decide +kernel)) rfl, zw_tb_of (List.mem_of_getElem? (i := 506) (by decide +kernel)) rfl, zw_tb_of (List.mem_of_getElem? (i := 66) (by decide +kernel)) rfl, zw_tb_of (List.mem_of_getElem? (i := 507) (by decide +kernel)) rfl, ⟨by decide +kernel, by decide +kernel, by decide +kernel⟩, Nat.le_of_ble_eq_true rfl, ⟨_, rfl, rfl⟩, by decide⟩
abbrev mX7_nodes : zw_M := (yX7_nodes, cX7_nodes, 1, some .int)
theorem vmX7_nodes : zw_VM mX7_nodes 0 7 := ⟨zw_tb_of (List.mem_of_getElem? (i := 486) (by decide +kernel)) rfl, zw_tb_of (List.mem_of_getElem? (i := 487) (by decide +kernel)) rfl, zw_tb_of (List.mem_of_getElem? (i := 66) (by decide +kernel)) rfl, zw_tb_of (List.mem_of_getElem? (i := 488) (by decide +kernel)) rfl, ⟨by decide +kernel, by decide +kernel, by decide +kernel⟩, Nat.le_of_ble_eq_true rfl, ⟨_, rfl, rfl⟩, by decide⟩
abbrev mX7_leaves : zw_M := (yX7_leaves, cX7_leaves, 1, some .int)
theorem vmX7_leaves : zw_VM mX7_leaves 0 7 := ⟨zw_tb_of (List.mem_of_getElem? (i := 662) (by decide +kernel)) rfl, zw_tb_of (List.mem_of_getElem? (i := 663) (by decide +kernel)) rfl, zw_tb_of (List.mem_of_getElem? (i := 66) (by decide +kernel)) rfl, zw_tb_of (List.mem_of_getElem? (i := 664) (by decide +kernel)) rfl, ⟨by decide +kernel, by decide +kernel, by decide +kernel⟩, Nat.le_of_ble_eq_true rfl, ⟨_, rfl, rfl⟩, by decide⟩
abbrev mX7_equalTo : zw_M := (yX7_equalTo, cX7_equalTo, 2, some .boolean)
theorem vmX7_equalTo : zw_VM mX7_equalTo 1 7 := ⟨zw_tb_of (List.mem_of_getElem? (i := 439) (by decide +kernel)) rfl, zw_tb_of (List.mem_of_getElem? (i := 440) (by decide +kernel)) rfl, zw_tb_of (List.mem_of_getElem? (i := 66) (by decide +kernel)) rfl, zw_tb_of (List.mem_of_getElem? (i := 441) (by decide +kernel)) rfl, ⟨by decide +kernel, by decide +kernel, by decide +kernel⟩, Nat.le_of_ble_eq_true rfl, ⟨_, rfl, rfl⟩, by decide⟩
abbrev mX7_endOf : zw_M := (yX7_endOf, cX7_endOf, 4, some .int)
theorem vmX7_endOf : zw_VM mX7_endOf 1 7 := ⟨zw_tb_of (List.mem_of_getElem? (i := 391) (by decide +kernel)) rfl, zw_tb_of (List.mem_of_getElem? (i := 392) (by decide +kernel)) rfl, zw_tb_of (List.mem_of_getElem? (i := 66) (by decide +kernel)) rfl, zw_tb_of (List.mem_of_getElem? (i := 393) (by decide +kernel)) rfl, ⟨by decide +kernel, by decide +kernel, by decide +kernel⟩, Nat.le_of_ble_eq_true rfl, ⟨_, rfl, rfl⟩, by decide⟩
abbrev mX7_leafAt : zw_M := (yX7_leafAt, cX7_leafAt, 4, some .int)
theorem vmX7_leafAt : zw_VM mX7_leafAt 1 7 := ⟨zw_tb_of (List.mem_of_getElem? (i := 572) (by decide +kernel)) rfl, zw_tb_of (List.mem_of_getElem? (i := 573) (by decide +kernel)) rfl, zw_tb_of (List.mem_of_getElem? (i := 66) (by decide +kernel)) rfl, zw_tb_of (List.mem_of_getElem? (i := 574) (by decide +kernel)) rfl, ⟨by decide +kernel, by decide +kernel, by decide +kernel⟩, Nat.le_of_ble_eq_true rfl, ⟨_, rfl, rfl⟩, by decide⟩
abbrev mX7_hasRoomFor : zw_M := (yX7_hasRoomFor, cX7_hasRoomFor, 2, some .boolean)
theorem vmX7_hasRoomFor : zw_VM mX7_hasRoomFor 1 7 := ⟨zw_tb_of (List.mem_of_getElem? (i := 576) (by decide +kernel)) rfl, zw_tb_of (List.mem_of_getElem? (i := 577) (by decide +kernel)) rfl, zw_tb_of (List.mem_of_getElem? (i := 66) (by decide +kernel)) rfl, zw_tb_of (List.mem_of_getElem? (i := 578) (by decide +kernel)) rfl, ⟨by decide +kernel, by decide +kernel, by decide +kernel⟩, Nat.le_of_ble_eq_true rfl, ⟨_, rfl, rfl⟩, by decide⟩
abbrev mX7_graftAt : zw_M := (yX7_graftAt, cX7_graftAt, 6, none)
theorem vmX7_graftAt : zw_VM mX7_graftAt 2 7 := ⟨zw_tb_of (List.mem_of_getElem? (i := 582) (by decide +kernel)) rfl, zw_tb_of (List.mem_of_getElem? (i := 583) (by decide +kernel)) rfl, zw_tb_of (List.mem_of_getElem? (i := 66) (by decide +kernel)) rfl, zw_tb_of (List.mem_of_getElem? (i := 584) (by decide +kernel)) rfl, ⟨by decide +kernel, by decide +kernel, by decide +kernel⟩, Nat.le_of_ble_eq_true rfl, ⟨_, rfl, rfl⟩, by decide⟩
abbrev mX7_patternAt : zw_M := (yX7_patternAt, cX7_patternAt, 6, some .int)
theorem vmX7_patternAt : zw_VM mX7_patternAt 1 7 := ⟨zw_tb_of (List.mem_of_getElem? (i := 387) (by decide +kernel)) rfl, zw_tb_of (List.mem_of_getElem? (i := 388) (by decide +kernel)) rfl, zw_tb_of (List.mem_of_getElem? (i := 66) (by decide +kernel)) rfl, zw_tb_of (List.mem_of_getElem? (i := 389) (by decide +kernel)) rfl, ⟨by decide +kernel, by decide +kernel, by decide +kernel⟩, Nat.le_of_ble_eq_true rfl, ⟨_, rfl, rfl⟩, by decide⟩
abbrev mX7_spotOf : zw_M := (yX7_spotOf, cX7_spotOf, 5, some .int)
theorem vmX7_spotOf : zw_VM mX7_spotOf 2 7 := ⟨zw_tb_of (List.mem_of_getElem? (i := 406) (by decide +kernel)) rfl, zw_tb_of (List.mem_of_getElem? (i := 407) (by decide +kernel)) rfl, zw_tb_of (List.mem_of_getElem? (i := 66) (by decide +kernel)) rfl, zw_tb_of (List.mem_of_getElem? (i := 408) (by decide +kernel)) rfl, ⟨by decide +kernel, by decide +kernel, by decide +kernel⟩, Nat.le_of_ble_eq_true rfl, ⟨_, rfl, rfl⟩, by decide⟩
abbrev mX7_places : zw_M := (yX7_places, cX7_places, 4, some .int)
theorem vmX7_places : zw_VM mX7_places 1 7 := ⟨zw_tb_of (List.mem_of_getElem? (i := 383) (by decide +kernel)) rfl, zw_tb_of (List.mem_of_getElem? (i := 384) (by decide +kernel)) rfl, zw_tb_of (List.mem_of_getElem? (i := 66) (by decide +kernel)) rfl, zw_tb_of (List.mem_of_getElem? (i := 385) (by decide +kernel)) rfl, ⟨by decide +kernel, by decide +kernel, by decide +kernel⟩, Nat.le_of_ble_eq_true rfl, ⟨_, rfl, rfl⟩, by decide⟩
abbrev mX7_stepAt : zw_M := (yX7_stepAt, cX7_stepAt, 5, none)
theorem vmX7_stepAt : zw_VM mX7_stepAt 2 7 := ⟨zw_tb_of (List.mem_of_getElem? (i := 410) (by decide +kernel)) rfl, zw_tb_of (List.mem_of_getElem? (i := 411) (by decide +kernel)) rfl, zw_tb_of (List.mem_of_getElem? (i := 66) (by decide +kernel)) rfl, zw_tb_of (List.mem_of_getElem? (i := 412) (by decide +kernel)) rfl, ⟨by decide +kernel, by decide +kernel, by decide +kernel⟩, Nat.le_of_ble_eq_true rfl, ⟨_, rfl, rfl⟩, by decide⟩
abbrev mX7_rebuild : zw_M := (yX7_rebuild, cX7_rebuild, 9, none)
theorem vmX7_rebuild : zw_VM mX7_rebuild 2 7 := ⟨zw_tb_of (List.mem_of_getElem? (i := 423) (by decide +kernel)) rfl, zw_tb_of (List.mem_of_getElem? (i := 3) (by decide +kernel)) rfl, zw_tb_of (List.mem_of_getElem? (i := 66) (by decide +kernel)) rfl, zw_tb_of (List.mem_of_getElem? (i := 424) (by decide +kernel)) rfl, ⟨by decide +kernel, by decide +kernel, by decide +kernel⟩, Nat.le_of_ble_eq_true rfl, ⟨_, rfl, rfl⟩, by decide⟩
abbrev mX7_makePlain : zw_M := (yX7_makePlain, cX7_makePlain, 4, some .int)
theorem vmX7_makePlain : zw_VM mX7_makePlain 1 7 := ⟨zw_tb_of (List.mem_of_getElem? (i := 433) (by decide +kernel)) rfl, zw_tb_of (List.mem_of_getElem? (i := 434) (by decide +kernel)) rfl, zw_tb_of (List.mem_of_getElem? (i := 66) (by decide +kernel)) rfl, zw_tb_of (List.mem_of_getElem? (i := 435) (by decide +kernel)) rfl, ⟨by decide +kernel, by decide +kernel, by decide +kernel⟩, Nat.le_of_ble_eq_true rfl, ⟨_, rfl, rfl⟩, by decide⟩
abbrev mX7_handDown : zw_M := (yX7_handDown, cX7_handDown, 3, none)
theorem vmX7_handDown : zw_VM mX7_handDown 2 7 := ⟨zw_tb_of (List.mem_of_getElem? (i := 502) (by decide +kernel)) rfl, zw_tb_of (List.mem_of_getElem? (i := 5) (by decide +kernel)) rfl, zw_tb_of (List.mem_of_getElem? (i := 66) (by decide +kernel)) rfl, zw_tb_of (List.mem_of_getElem? (i := 503) (by decide +kernel)) rfl, ⟨by decide +kernel, by decide +kernel, by decide +kernel⟩, Nat.le_of_ble_eq_true rfl, ⟨_, rfl, rfl⟩, by decide⟩
abbrev mX7_height : zw_M := (yX7_height, cX7_height, 4, some .int)
theorem vmX7_height : zw_VM mX7_height 0 7 := ⟨zw_tb_of (List.mem_of_getElem? (i := 509) (by decide +kernel)) rfl, zw_tb_of (List.mem_of_getElem? (i := 510) (by decide +kernel)) rfl, zw_tb_of (List.mem_of_getElem? (i := 66) (by decide +kernel)) rfl, zw_tb_of (List.mem_of_getElem? (i := 511) (by decide +kernel)) rfl, ⟨by decide +kernel, by decide +kernel, by decide +kernel⟩, Nat.le_of_ble_eq_true rfl, ⟨_, rfl, rfl⟩, by decide⟩
abbrev mX7_mirrorOf : zw_M := (yX7_mirrorOf, cX7_mirrorOf, 6, none)
theorem vmX7_mirrorOf : zw_VM mX7_mirrorOf 1 7 := ⟨zw_tb_of (List.mem_of_getElem? (i := 496) (by decide +kernel)) rfl, zw_tb_of (List.mem_of_getElem? (i := 497) (by decide +kernel)) rfl, zw_tb_of (List.mem_of_getElem? (i := 66) (by decide +kernel)) rfl, zw_tb_of (List.mem_of_getElem? (i := 498) (by decide +kernel)) rfl, ⟨by decide +kernel, by decide +kernel, by decide +kernel⟩, Nat.le_of_ble_eq_true rfl, ⟨_, rfl, rfl⟩, by decide⟩
abbrev mX8_feed : zw_M := (yX8_feed, cX8_feed, 2, some .int)
theorem vmX8_feed : zw_VM mX8_feed 1 8 := ⟨zw_tb_of (List.mem_of_getElem? (i := 287) (by decide +kernel)) rfl, zw_tb_of (List.mem_of_getElem? (i := 288) (by decide +kernel)) rfl, zw_tb_of (List.mem_of_getElem? (i := 59) (by decide +kernel)) rfl, zw_tb_of (List.mem_of_getElem? (i := 289) (by decide +kernel)) rfl, ⟨by decide +kernel, by decide +kernel, by decide +kernel⟩, Nat.le_of_ble_eq_true rfl, ⟨_, rfl, rfl⟩, by decide⟩
abbrev mX8_tell : zw_M := (yX8_tell, cX8_tell, 2, some .int)
theorem vmX8_tell : zw_VM mX8_tell 0 8 := ⟨zw_tb_of (List.mem_of_getElem? (i := 293) (by decide +kernel)) rfl, zw_tb_of (List.mem_of_getElem? (i := 294) (by decide +kernel)) rfl, zw_tb_of (List.mem_of_getElem? (i := 59) (by decide +kernel)) rfl, zw_tb_of (List.mem_of_getElem? (i := 295) (by decide +kernel)) rfl, ⟨by decide +kernel, by decide +kernel, by decide +kernel⟩, Nat.le_of_ble_eq_true rfl, ⟨_, rfl, rfl⟩, by decide⟩
abbrev mX8_readText : zw_M := (yX8_readText, cX8_readText, 5, some .int)
theorem vmX8_readText : zw_VM mX8_readText 0 8 := ⟨zw_tb_of (List.mem_of_getElem? (i := 302) (by decide +kernel)) rfl, zw_tb_of (List.mem_of_getElem? (i := 0) (by decide +kernel)) rfl, zw_tb_of (List.mem_of_getElem? (i := 59) (by decide +kernel)) rfl, zw_tb_of (List.mem_of_getElem? (i := 303) (by decide +kernel)) rfl, ⟨by decide +kernel, by decide +kernel, by decide +kernel⟩, Nat.le_of_ble_eq_true rfl, ⟨_, rfl, rfl⟩, by decide⟩
abbrev mX8_figureOf : zw_M := (yX8_figureOf, cX8_figureOf, 1, some .int)
theorem smX8_figureOf : zw_SM mX8_figureOf 1 := ⟨zw_tb_of (List.mem_of_getElem? (i := 309) (by decide +kernel)) rfl, zw_tb_of (List.mem_of_getElem? (i := 59) (by decide +kernel)) rfl, zw_tb_of (List.mem_of_getElem? (i := 310) (by decide +kernel)) rfl, ⟨by decide +kernel, by decide +kernel, by decide +kernel⟩, Nat.le_of_ble_eq_true rfl⟩
abbrev mX8_fault : zw_M := (yX8_fault, cX8_fault, 1, some .int)
theorem vmX8_fault : zw_VM mX8_fault 0 8 := ⟨zw_tb_of (List.mem_of_getElem? (i := 357) (by decide +kernel)) rfl, zw_tb_of (List.mem_of_getElem? (i := 358) (by decide +kernel)) rfl, zw_tb_of (List.mem_of_getElem? (i := 59) (by decide +kernel)) rfl, zw_tb_of (List.mem_of_getElem? (i := 359) (by decide +kernel)) rfl, ⟨by decide +kernel, by decide +kernel, by decide +kernel⟩, Nat.le_of_ble_eq_true rfl, ⟨_, rfl, rfl⟩, by decide⟩
abbrev mX8_told : zw_M := (yX8_told, cX8_told, 2, some .int)
theorem vmX8_told : zw_VM mX8_told 1 8 := ⟨zw_tb_of (List.mem_of_getElem? (i := 361) (by decide +kernel)) rfl, zw_tb_of (List.mem_of_getElem? (i := 362) (by decide +kernel)) rfl, zw_tb_of (List.mem_of_getElem? (i := 59) (by decide +kernel)) rfl, zw_tb_of (List.mem_of_getElem? (i := 363) (by decide +kernel)) rfl, ⟨by decide +kernel, by decide +kernel, by decide +kernel⟩, Nat.le_of_ble_eq_true rfl, ⟨_, rfl, rfl⟩, by decide⟩
abbrev mX8_tree : zw_M := (yX8_tree, cX8_tree, 3, some .int)
theorem vmX8_tree : zw_VM mX8_tree 2 8 := ⟨zw_tb_of (List.mem_of_getElem? (i := 469) (by decide +kernel)) rfl, zw_tb_of (List.mem_of_getElem? (i := 470) (by decide +kernel)) rfl, zw_tb_of (List.mem_of_getElem? (i := 59) (by decide +kernel)) rfl, zw_tb_of (List.mem_of_getElem? (i := 471) (by decide +kernel)) rfl, ⟨by decide +kernel, by decide +kernel, by decide +kernel⟩, Nat.le_of_ble_eq_true rfl, ⟨_, rfl, rfl⟩, by decide⟩
abbrev mX8_madePlain : zw_M := (yX8_madePlain, cX8_madePlain, 3, some .int)
theorem vmX8_madePlain : zw_VM mX8_madePlain 1 8 := ⟨zw_tb_of (List.mem_of_getElem? (i := 492) (by decide +kernel)) rfl, zw_tb_of (List.mem_of_getElem? (i := 4) (by decide +kernel)) rfl, zw_tb_of (List.mem_of_getElem? (i := 59) (by decide +kernel)) rfl, zw_tb_of (List.mem_of_getElem? (i := 493) (by decide +kernel)) rfl, ⟨by decide +kernel, by decide +kernel, by decide +kernel⟩, Nat.le_of_ble_eq_true rfl, ⟨_, rfl, rfl⟩, by decide⟩
abbrev mX8_pattern : zw_M := (yX8_pattern, cX8_pattern, 3, some .int)
theorem vmX8_pattern : zw_VM mX8_pattern 2 8 := ⟨zw_tb_of (List.mem_of_getElem? (i := 516) (by decide +kernel)) rfl, zw_tb_of (List.mem_of_getElem? (i := 517) (by decide +kernel)) rfl, zw_tb_of (List.mem_of_getElem? (i := 59) (by decide +kernel)) rfl, zw_tb_of (List.mem_of_getElem? (i := 518) (by decide +kernel)) rfl, ⟨by decide +kernel, by decide +kernel, by decide +kernel⟩, Nat.le_of_ble_eq_true rfl, ⟨_, rfl, rfl⟩, by decide⟩
abbrev mX8_same : zw_M := (yX8_same, cX8_same, 3, some .int)
theorem vmX8_same : zw_VM mX8_same 2 8 := ⟨zw_tb_of (List.mem_of_getElem? (i := 524) (by decide +kernel)) rfl, zw_tb_of (List.mem_of_getElem? (i := 525) (by decide +kernel)) rfl, zw_tb_of (List.mem_of_getElem? (i := 59) (by decide +kernel)) rfl, zw_tb_of (List.mem_of_getElem? (i := 526) (by decide +kernel)) rfl, ⟨by decide +kernel, by decide +kernel, by decide +kernel⟩, Nat.le_of_ble_eq_true rfl, ⟨_, rfl, rfl⟩, by decide⟩
abbrev mX8_count : zw_M := (yX8_count, cX8_count, 2, some .long)
theorem vmX8_count : zw_VM mX8_count 1 8 := ⟨zw_tb_of (List.mem_of_getElem? (i := 529) (by decide +kernel)) rfl, zw_tb_of (List.mem_of_getElem? (i := 530) (by decide +kernel)) rfl, zw_tb_of (List.mem_of_getElem? (i := 59) (by decide +kernel)) rfl, zw_tb_of (List.mem_of_getElem? (i := 531) (by decide +kernel)) rfl, ⟨by decide +kernel, by decide +kernel, by decide +kernel⟩, Nat.le_of_ble_eq_true rfl, ⟨_, rfl, rfl⟩, by decide⟩
abbrev mX8_undoneBy : zw_M := (yX8_undoneBy, cX8_undoneBy, 2, some .long)
theorem vmX8_undoneBy : zw_VM mX8_undoneBy 1 8 := ⟨zw_tb_of (List.mem_of_getElem? (i := 550) (by decide +kernel)) rfl, zw_tb_of (List.mem_of_getElem? (i := 551) (by decide +kernel)) rfl, zw_tb_of (List.mem_of_getElem? (i := 59) (by decide +kernel)) rfl, zw_tb_of (List.mem_of_getElem? (i := 552) (by decide +kernel)) rfl, ⟨by decide +kernel, by decide +kernel, by decide +kernel⟩, Nat.le_of_ble_eq_true rfl, ⟨_, rfl, rfl⟩, by decide⟩
abbrev mX8_graft : zw_M := (yX8_graft, cX8_graft, 5, some .int)
theorem vmX8_graft : zw_VM mX8_graft 3 8 := ⟨zw_tb_of (List.mem_of_getElem? (i := 568) (by decide +kernel)) rfl, zw_tb_of (List.mem_of_getElem? (i := 569) (by decide +kernel)) rfl, zw_tb_of (List.mem_of_getElem? (i := 59) (by decide +kernel)) rfl, zw_tb_of (List.mem_of_getElem? (i := 570) (by decide +kernel)) rfl, ⟨by decide +kernel, by decide +kernel, by decide +kernel⟩, Nat.le_of_ble_eq_true rfl, ⟨_, rfl, rfl⟩, by decide⟩
abbrev mX8_step : zw_M := (yX8_step, cX8_step, 4, some .int)
theorem vmX8_step : zw_VM mX8_step 2 8 := ⟨zw_tb_of (List.mem_of_getElem? (i := 586) (by decide +kernel)) rfl, zw_tb_of (List.mem_of_getElem? (i := 587) (by decide +kernel)) rfl, zw_tb_of (List.mem_of_getElem? (i := 59) (by decide +kernel)) rfl, zw_tb_of (List.mem_of_getElem? (i := 588) (by decide +kernel)) rfl, ⟨by decide +kernel, by decide +kernel, by decide +kernel⟩, Nat.le_of_ble_eq_true rfl, ⟨_, rfl, rfl⟩, by decide⟩
abbrev mX8_plain : zw_M := (yX8_plain, cX8_plain, 3, some .int)
theorem vmX8_plain : zw_VM mX8_plain 1 8 := ⟨zw_tb_of (List.mem_of_getElem? (i := 593) (by decide +kernel)) rfl, zw_tb_of (List.mem_of_getElem? (i := 594) (by decide +kernel)) rfl, zw_tb_of (List.mem_of_getElem? (i := 59) (by decide +kernel)) rfl, zw_tb_of (List.mem_of_getElem? (i := 595) (by decide +kernel)) rfl, ⟨by decide +kernel, by decide +kernel, by decide +kernel⟩, Nat.le_of_ble_eq_true rfl, ⟨_, rfl, rfl⟩, by decide⟩
abbrev mX8_mirror : zw_M := (yX8_mirror, cX8_mirror, 2, some .int)
theorem vmX8_mirror : zw_VM mX8_mirror 1 8 := ⟨zw_tb_of (List.mem_of_getElem? (i := 597) (by decide +kernel)) rfl, zw_tb_of (List.mem_of_getElem? (i := 598) (by decide +kernel)) rfl, zw_tb_of (List.mem_of_getElem? (i := 59) (by decide +kernel)) rfl, zw_tb_of (List.mem_of_getElem? (i := 599) (by decide +kernel)) rfl, ⟨by decide +kernel, by decide +kernel, by decide +kernel⟩, Nat.le_of_ble_eq_true rfl, ⟨_, rfl, rfl⟩, by decide⟩
abbrev mX8_take : zw_M := (yX8_take, cX8_take, 2, some .int)
theorem vmX8_take : zw_VM mX8_take 1 8 := ⟨zw_tb_of (List.mem_of_getElem? (i := 602) (by decide +kernel)) rfl, zw_tb_of (List.mem_of_getElem? (i := 603) (by decide +kernel)) rfl, zw_tb_of (List.mem_of_getElem? (i := 59) (by decide +kernel)) rfl, zw_tb_of (List.mem_of_getElem? (i := 604) (by decide +kernel)) rfl, ⟨by decide +kernel, by decide +kernel, by decide +kernel⟩, Nat.le_of_ble_eq_true rfl, ⟨_, rfl, rfl⟩, by decide⟩
abbrev mX8_fate : zw_M := (yX8_fate, cX8_fate, 6, some .int)
theorem vmX8_fate : zw_VM mX8_fate 3 8 := ⟨zw_tb_of (List.mem_of_getElem? (i := 610) (by decide +kernel)) rfl, zw_tb_of (List.mem_of_getElem? (i := 611) (by decide +kernel)) rfl, zw_tb_of (List.mem_of_getElem? (i := 59) (by decide +kernel)) rfl, zw_tb_of (List.mem_of_getElem? (i := 612) (by decide +kernel)) rfl, ⟨by decide +kernel, by decide +kernel, by decide +kernel⟩, Nat.le_of_ble_eq_true rfl, ⟨_, rfl, rfl⟩, by decide⟩
abbrev mX8_dual : zw_M := (yX8_dual, cX8_dual, 1, some .int)
theorem vmX8_dual : zw_VM mX8_dual 0 8 := ⟨zw_tb_of (List.mem_of_getElem? (i := 622) (by decide +kernel)) rfl, zw_tb_of (List.mem_of_getElem? (i := 623) (by decide +kernel)) rfl, zw_tb_of (List.mem_of_getElem? (i := 59) (by decide +kernel)) rfl, zw_tb_of (List.mem_of_getElem? (i := 624) (by decide +kernel)) rfl, ⟨by decide +kernel, by decide +kernel, by decide +kernel⟩, Nat.le_of_ble_eq_true rfl, ⟨_, rfl, rfl⟩, by decide⟩
abbrev mX8_clear : zw_M := (yX8_clear, cX8_clear, 2, some .int)
theorem vmX8_clear : zw_VM mX8_clear 0 8 := ⟨zw_tb_of (List.mem_of_getElem? (i := 630) (by decide +kernel)) rfl, zw_tb_of (List.mem_of_getElem? (i := 631) (by decide +kernel)) rfl, zw_tb_of (List.mem_of_getElem? (i := 59) (by decide +kernel)) rfl, zw_tb_of (List.mem_of_getElem? (i := 632) (by decide +kernel)) rfl, ⟨by decide +kernel, by decide +kernel, by decide +kernel⟩, Nat.le_of_ble_eq_true rfl, ⟨_, rfl, rfl⟩, by decide⟩
abbrev mX8_drift : zw_M := (yX8_drift, cX8_drift, 3, some .int)
theorem vmX8_drift : zw_VM mX8_drift 1 8 := ⟨zw_tb_of (List.mem_of_getElem? (i := 643) (by decide +kernel)) rfl, zw_tb_of (List.mem_of_getElem? (i := 644) (by decide +kernel)) rfl, zw_tb_of (List.mem_of_getElem? (i := 59) (by decide +kernel)) rfl, zw_tb_of (List.mem_of_getElem? (i := 645) (by decide +kernel)) rfl, ⟨by decide +kernel, by decide +kernel, by decide +kernel⟩, Nat.le_of_ble_eq_true rfl, ⟨_, rfl, rfl⟩, by decide⟩
abbrev mX8_drawTree : zw_M := (yX8_drawTree, cX8_drawTree, 4, none)
theorem vmX8_drawTree : zw_VM mX8_drawTree 0 8 := ⟨zw_tb_of (List.mem_of_getElem? (i := 648) (by decide +kernel)) rfl, zw_tb_of (List.mem_of_getElem? (i := 9) (by decide +kernel)) rfl, zw_tb_of (List.mem_of_getElem? (i := 59) (by decide +kernel)) rfl, zw_tb_of (List.mem_of_getElem? (i := 649) (by decide +kernel)) rfl, ⟨by decide +kernel, by decide +kernel, by decide +kernel⟩, Nat.le_of_ble_eq_true rfl, ⟨_, rfl, rfl⟩, by decide⟩
abbrev mX8_draw : zw_M := (yX8_draw, cX8_draw, 2, some .int)
theorem vmX8_draw : zw_VM mX8_draw 1 8 := ⟨zw_tb_of (List.mem_of_getElem? (i := 652) (by decide +kernel)) rfl, zw_tb_of (List.mem_of_getElem? (i := 10) (by decide +kernel)) rfl, zw_tb_of (List.mem_of_getElem? (i := 59) (by decide +kernel)) rfl, zw_tb_of (List.mem_of_getElem? (i := 653) (by decide +kernel)) rfl, ⟨by decide +kernel, by decide +kernel, by decide +kernel⟩, Nat.le_of_ble_eq_true rfl, ⟨_, rfl, rfl⟩, by decide⟩
abbrev mX8_undo : zw_M := (yX8_undo, cX8_undo, 2, some .int)
theorem vmX8_undo : zw_VM mX8_undo 1 8 := ⟨zw_tb_of (List.mem_of_getElem? (i := 666) (by decide +kernel)) rfl, zw_tb_of (List.mem_of_getElem? (i := 667) (by decide +kernel)) rfl, zw_tb_of (List.mem_of_getElem? (i := 59) (by decide +kernel)) rfl, zw_tb_of (List.mem_of_getElem? (i := 668) (by decide +kernel)) rfl, ⟨by decide +kernel, by decide +kernel, by decide +kernel⟩, Nat.le_of_ble_eq_true rfl, ⟨_, rfl, rfl⟩, by decide⟩
abbrev mX8_write : zw_M := (yX8_write, cX8_write, 3, some .int)
theorem vmX8_write : zw_VM mX8_write 2 8 := ⟨zw_tb_of (List.mem_of_getElem? (i := 678) (by decide +kernel)) rfl, zw_tb_of (List.mem_of_getElem? (i := 679) (by decide +kernel)) rfl, zw_tb_of (List.mem_of_getElem? (i := 59) (by decide +kernel)) rfl, zw_tb_of (List.mem_of_getElem? (i := 680) (by decide +kernel)) rfl, ⟨by decide +kernel, by decide +kernel, by decide +kernel⟩, Nat.le_of_ble_eq_true rfl, ⟨_, rfl, rfl⟩, by decide⟩
abbrev mX8_tear : zw_M := (yX8_tear, cX8_tear, 2, some .int)
theorem vmX8_tear : zw_VM mX8_tear 0 8 := ⟨zw_tb_of (List.mem_of_getElem? (i := 690) (by decide +kernel)) rfl, zw_tb_of (List.mem_of_getElem? (i := 691) (by decide +kernel)) rfl, zw_tb_of (List.mem_of_getElem? (i := 59) (by decide +kernel)) rfl, zw_tb_of (List.mem_of_getElem? (i := 692) (by decide +kernel)) rfl, ⟨by decide +kernel, by decide +kernel, by decide +kernel⟩, Nat.le_of_ble_eq_true rfl, ⟨_, rfl, rfl⟩, by decide⟩
abbrev mX8_seed : zw_M := (yX8_seed, cX8_seed, 3, some .int)
theorem vmX8_seed : zw_VM mX8_seed 1 8 := ⟨zw_tb_of (List.mem_of_getElem? (i := 694) (by decide +kernel)) rfl, zw_tb_of (List.mem_of_getElem? (i := 695) (by decide +kernel)) rfl, zw_tb_of (List.mem_of_getElem? (i := 59) (by decide +kernel)) rfl, zw_tb_of (List.mem_of_getElem? (i := 696) (by decide +kernel)) rfl, ⟨by decide +kernel, by decide +kernel, by decide +kernel⟩, Nat.le_of_ble_eq_true rfl, ⟨_, rfl, rfl⟩, by decide⟩
abbrev mX8_imageAt : zw_M := (yX8_imageAt, cX8_imageAt, 2, some (.object "GraftRules$Image"))
theorem vmX8_imageAt : zw_VM mX8_imageAt 1 8 := ⟨zw_tb_of (List.mem_of_getElem? (i := 703) (by decide +kernel)) rfl, zw_tb_of (List.mem_of_getElem? (i := 11) (by decide +kernel)) rfl, zw_tb_of (List.mem_of_getElem? (i := 59) (by decide +kernel)) rfl, zw_tb_of (List.mem_of_getElem? (i := 704) (by decide +kernel)) rfl, ⟨by decide +kernel, by decide +kernel, by decide +kernel⟩, Nat.le_of_ble_eq_true rfl, ⟨_, rfl, rfl⟩, by decide⟩
abbrev mX8_keep : zw_M := (yX8_keep, cX8_keep, 3, some .int)
theorem vmX8_keep : zw_VM mX8_keep 1 8 := ⟨zw_tb_of (List.mem_of_getElem? (i := 698) (by decide +kernel)) rfl, zw_tb_of (List.mem_of_getElem? (i := 699) (by decide +kernel)) rfl, zw_tb_of (List.mem_of_getElem? (i := 59) (by decide +kernel)) rfl, zw_tb_of (List.mem_of_getElem? (i := 700) (by decide +kernel)) rfl, ⟨by decide +kernel, by decide +kernel, by decide +kernel⟩, Nat.le_of_ble_eq_true rfl, ⟨_, rfl, rfl⟩, by decide⟩
abbrev mX8_goBack : zw_M := (yX8_goBack, cX8_goBack, 3, some .int)
theorem vmX8_goBack : zw_VM mX8_goBack 1 8 := ⟨zw_tb_of (List.mem_of_getElem? (i := 711) (by decide +kernel)) rfl, zw_tb_of (List.mem_of_getElem? (i := 712) (by decide +kernel)) rfl, zw_tb_of (List.mem_of_getElem? (i := 59) (by decide +kernel)) rfl, zw_tb_of (List.mem_of_getElem? (i := 713) (by decide +kernel)) rfl, ⟨by decide +kernel, by decide +kernel, by decide +kernel⟩, Nat.le_of_ble_eq_true rfl, ⟨_, rfl, rfl⟩, by decide⟩
abbrev mX9_in : zw_M := (yX9_in, cX9_in, 3, some .boolean)
theorem smX9_in : zw_SM mX9_in 3 := ⟨zw_tb_of (List.mem_of_getElem? (i := 792) (by decide +kernel)) rfl, zw_tb_of (List.mem_of_getElem? (i := 69) (by decide +kernel)) rfl, zw_tb_of (List.mem_of_getElem? (i := 793) (by decide +kernel)) rfl, ⟨by decide +kernel, by decide +kernel, by decide +kernel⟩, Nat.le_of_ble_eq_true rfl⟩
abbrev mX9_copyRow : zw_M := (yX9_copyRow, cX9_copyRow, 4, none)
theorem vmX9_copyRow : zw_VM mX9_copyRow 2 9 := ⟨zw_tb_of (List.mem_of_getElem? (i := 839) (by decide +kernel)) rfl, zw_tb_of (List.mem_of_getElem? (i := 19) (by decide +kernel)) rfl, zw_tb_of (List.mem_of_getElem? (i := 69) (by decide +kernel)) rfl, zw_tb_of (List.mem_of_getElem? (i := 840) (by decide +kernel)) rfl, ⟨by decide +kernel, by decide +kernel, by decide +kernel⟩, Nat.le_of_ble_eq_true rfl, ⟨_, rfl, rfl⟩, by decide⟩
abbrev mX9_isTree : zw_M := (yX9_isTree, cX9_isTree, 2, some .boolean)
theorem vmX9_isTree : zw_VM mX9_isTree 1 9 := ⟨zw_tb_of (List.mem_of_getElem? (i := 951) (by decide +kernel)) rfl, zw_tb_of (List.mem_of_getElem? (i := 45) (by decide +kernel)) rfl, zw_tb_of (List.mem_of_getElem? (i := 69) (by decide +kernel)) rfl, zw_tb_of (List.mem_of_getElem? (i := 952) (by decide +kernel)) rfl, ⟨by decide +kernel, by decide +kernel, by decide +kernel⟩, Nat.le_of_ble_eq_true rfl, ⟨_, rfl, rfl⟩, by decide⟩
abbrev mX9_open : zw_M := (yX9_open, cX9_open, 6, none)
theorem vmX9_open : zw_VM mX9_open 2 9 := ⟨zw_tb_of (List.mem_of_getElem? (i := 871) (by decide +kernel)) rfl, zw_tb_of (List.mem_of_getElem? (i := 25) (by decide +kernel)) rfl, zw_tb_of (List.mem_of_getElem? (i := 69) (by decide +kernel)) rfl, zw_tb_of (List.mem_of_getElem? (i := 872) (by decide +kernel)) rfl, ⟨by decide +kernel, by decide +kernel, by decide +kernel⟩, Nat.le_of_ble_eq_true rfl, ⟨_, rfl, rfl⟩, by decide⟩
abbrev mX9_openTree : zw_M := (yX9_openTree, cX9_openTree, 2, none)
theorem vmX9_openTree : zw_VM mX9_openTree 1 9 := ⟨zw_tb_of (List.mem_of_getElem? (i := 960) (by decide +kernel)) rfl, zw_tb_of (List.mem_of_getElem? (i := 46) (by decide +kernel)) rfl, zw_tb_of (List.mem_of_getElem? (i := 69) (by decide +kernel)) rfl, zw_tb_of (List.mem_of_getElem? (i := 961) (by decide +kernel)) rfl, ⟨by decide +kernel, by decide +kernel, by decide +kernel⟩, Nat.le_of_ble_eq_true rfl, ⟨_, rfl, rfl⟩, by decide⟩
abbrev mX9_code : zw_M := (yX9_code, cX9_code, 3, some .int)
theorem vmX9_code : zw_VM mX9_code 0 9 := ⟨zw_tb_of (List.mem_of_getElem? (i := 851) (by decide +kernel)) rfl, zw_tb_of (List.mem_of_getElem? (i := 22) (by decide +kernel)) rfl, zw_tb_of (List.mem_of_getElem? (i := 69) (by decide +kernel)) rfl, zw_tb_of (List.mem_of_getElem? (i := 852) (by decide +kernel)) rfl, ⟨by decide +kernel, by decide +kernel, by decide +kernel⟩, Nat.le_of_ble_eq_true rfl, ⟨_, rfl, rfl⟩, by decide⟩
abbrev mX9_nodes : zw_M := (yX9_nodes, cX9_nodes, 1, some .int)
theorem vmX9_nodes : zw_VM mX9_nodes 0 9 := ⟨zw_tb_of (List.mem_of_getElem? (i := 964) (by decide +kernel)) rfl, zw_tb_of (List.mem_of_getElem? (i := 47) (by decide +kernel)) rfl, zw_tb_of (List.mem_of_getElem? (i := 69) (by decide +kernel)) rfl, zw_tb_of (List.mem_of_getElem? (i := 965) (by decide +kernel)) rfl, ⟨by decide +kernel, by decide +kernel, by decide +kernel⟩, Nat.le_of_ble_eq_true rfl, ⟨_, rfl, rfl⟩, by decide⟩
abbrev mX9_behind : zw_M := (yX9_behind, cX9_behind, 4, some .int)
theorem vmX9_behind : zw_VM mX9_behind 1 9 := ⟨zw_tb_of (List.mem_of_getElem? (i := 895) (by decide +kernel)) rfl, zw_tb_of (List.mem_of_getElem? (i := 31) (by decide +kernel)) rfl, zw_tb_of (List.mem_of_getElem? (i := 69) (by decide +kernel)) rfl, zw_tb_of (List.mem_of_getElem? (i := 896) (by decide +kernel)) rfl, ⟨by decide +kernel, by decide +kernel, by decide +kernel⟩, Nat.le_of_ble_eq_true rfl, ⟨_, rfl, rfl⟩, by decide⟩
abbrev mX9_branchOf : zw_M := (yX9_branchOf, cX9_branchOf, 3, some .int)
theorem vmX9_branchOf : zw_VM mX9_branchOf 2 9 := ⟨zw_tb_of (List.mem_of_getElem? (i := 891) (by decide +kernel)) rfl, zw_tb_of (List.mem_of_getElem? (i := 30) (by decide +kernel)) rfl, zw_tb_of (List.mem_of_getElem? (i := 69) (by decide +kernel)) rfl, zw_tb_of (List.mem_of_getElem? (i := 892) (by decide +kernel)) rfl, ⟨by decide +kernel, by decide +kernel, by decide +kernel⟩, Nat.le_of_ble_eq_true rfl, ⟨_, rfl, rfl⟩, by decide⟩
abbrev mX9_patternAt : zw_M := (yX9_patternAt, cX9_patternAt, 4, some .int)
theorem vmX9_patternAt : zw_VM mX9_patternAt 2 9 := ⟨zw_tb_of (List.mem_of_getElem? (i := 887) (by decide +kernel)) rfl, zw_tb_of (List.mem_of_getElem? (i := 29) (by decide +kernel)) rfl, zw_tb_of (List.mem_of_getElem? (i := 69) (by decide +kernel)) rfl, zw_tb_of (List.mem_of_getElem? (i := 888) (by decide +kernel)) rfl, ⟨by decide +kernel, by decide +kernel, by decide +kernel⟩, Nat.le_of_ble_eq_true rfl, ⟨_, rfl, rfl⟩, by decide⟩
abbrev mX9_isPlace : zw_M := (yX9_isPlace, cX9_isPlace, 4, some .boolean)
theorem vmX9_isPlace : zw_VM mX9_isPlace 2 9 := ⟨zw_tb_of (List.mem_of_getElem? (i := 883) (by decide +kernel)) rfl, zw_tb_of (List.mem_of_getElem? (i := 28) (by decide +kernel)) rfl, zw_tb_of (List.mem_of_getElem? (i := 69) (by decide +kernel)) rfl, zw_tb_of (List.mem_of_getElem? (i := 884) (by decide +kernel)) rfl, ⟨by decide +kernel, by decide +kernel, by decide +kernel⟩, Nat.le_of_ble_eq_true rfl, ⟨_, rfl, rfl⟩, by decide⟩
abbrev mX9_places : zw_M := (yX9_places, cX9_places, 3, some .int)
theorem vmX9_places : zw_VM mX9_places 0 9 := ⟨zw_tb_of (List.mem_of_getElem? (i := 879) (by decide +kernel)) rfl, zw_tb_of (List.mem_of_getElem? (i := 27) (by decide +kernel)) rfl, zw_tb_of (List.mem_of_getElem? (i := 69) (by decide +kernel)) rfl, zw_tb_of (List.mem_of_getElem? (i := 880) (by decide +kernel)) rfl, ⟨by decide +kernel, by decide +kernel, by decide +kernel⟩, Nat.le_of_ble_eq_true rfl, ⟨_, rfl, rfl⟩, by decide⟩
abbrev mX9_placeAt : zw_M := (yX9_placeAt, cX9_placeAt, 4, some .int)
theorem vmX9_placeAt : zw_VM mX9_placeAt 1 9 := ⟨zw_tb_of (List.mem_of_getElem? (i := 907) (by decide +kernel)) rfl, zw_tb_of (List.mem_of_getElem? (i := 34) (by decide +kernel)) rfl, zw_tb_of (List.mem_of_getElem? (i := 69) (by decide +kernel)) rfl, zw_tb_of (List.mem_of_getElem? (i := 908) (by decide +kernel)) rfl, ⟨by decide +kernel, by decide +kernel, by decide +kernel⟩, Nat.le_of_ble_eq_true rfl, ⟨_, rfl, rfl⟩, by decide⟩
abbrev mX9_copyOther : zw_M := (yX9_copyOther, cX9_copyOther, 4, none)
theorem vmX9_copyOther : zw_VM mX9_copyOther 2 9 := ⟨zw_tb_of (List.mem_of_getElem? (i := 915) (by decide +kernel)) rfl, zw_tb_of (List.mem_of_getElem? (i := 36) (by decide +kernel)) rfl, zw_tb_of (List.mem_of_getElem? (i := 69) (by decide +kernel)) rfl, zw_tb_of (List.mem_of_getElem? (i := 916) (by decide +kernel)) rfl, ⟨by decide +kernel, by decide +kernel, by decide +kernel⟩, Nat.le_of_ble_eq_true rfl, ⟨_, rfl, rfl⟩, by decide⟩
abbrev mX9_addOther : zw_M := (yX9_addOther, cX9_addOther, 2, none)
theorem vmX9_addOther : zw_VM mX9_addOther 1 9 := ⟨zw_tb_of (List.mem_of_getElem? (i := 919) (by decide +kernel)) rfl, zw_tb_of (List.mem_of_getElem? (i := 37) (by decide +kernel)) rfl, zw_tb_of (List.mem_of_getElem? (i := 69) (by decide +kernel)) rfl, zw_tb_of (List.mem_of_getElem? (i := 920) (by decide +kernel)) rfl, ⟨by decide +kernel, by decide +kernel, by decide +kernel⟩, Nat.le_of_ble_eq_true rfl, ⟨_, rfl, rfl⟩, by decide⟩
abbrev mX9_takeOther : zw_M := (yX9_takeOther, cX9_takeOther, 2, none)
theorem vmX9_takeOther : zw_VM mX9_takeOther 0 9 := ⟨zw_tb_of (List.mem_of_getElem? (i := 923) (by decide +kernel)) rfl, zw_tb_of (List.mem_of_getElem? (i := 38) (by decide +kernel)) rfl, zw_tb_of (List.mem_of_getElem? (i := 69) (by decide +kernel)) rfl, zw_tb_of (List.mem_of_getElem? (i := 924) (by decide +kernel)) rfl, ⟨by decide +kernel, by decide +kernel, by decide +kernel⟩, Nat.le_of_ble_eq_true rfl, ⟨_, rfl, rfl⟩, by decide⟩
abbrev mX9_stepAt : zw_M := (yX9_stepAt, cX9_stepAt, 12, none)
theorem vmX9_stepAt : zw_VM mX9_stepAt 1 9 := ⟨zw_tb_of (List.mem_of_getElem? (i := 911) (by decide +kernel)) rfl, zw_tb_of (List.mem_of_getElem? (i := 35) (by decide +kernel)) rfl, zw_tb_of (List.mem_of_getElem? (i := 69) (by decide +kernel)) rfl, zw_tb_of (List.mem_of_getElem? (i := 912) (by decide +kernel)) rfl, ⟨by decide +kernel, by decide +kernel, by decide +kernel⟩, Nat.le_of_ble_eq_true rfl, ⟨_, rfl, rfl⟩, by decide⟩
abbrev mX9_makePlain : zw_M := (yX9_makePlain, cX9_makePlain, 3, some .int)
theorem vmX9_makePlain : zw_VM mX9_makePlain 0 9 := ⟨zw_tb_of (List.mem_of_getElem? (i := 927) (by decide +kernel)) rfl, zw_tb_of (List.mem_of_getElem? (i := 39) (by decide +kernel)) rfl, zw_tb_of (List.mem_of_getElem? (i := 69) (by decide +kernel)) rfl, zw_tb_of (List.mem_of_getElem? (i := 928) (by decide +kernel)) rfl, ⟨by decide +kernel, by decide +kernel, by decide +kernel⟩, Nat.le_of_ble_eq_true rfl, ⟨_, rfl, rfl⟩, by decide⟩
abbrev mX9_turn : zw_M := (yX9_turn, cX9_turn, 3, none)
theorem vmX9_turn : zw_VM mX9_turn 0 9 := ⟨zw_tb_of (List.mem_of_getElem? (i := 976) (by decide +kernel)) rfl, zw_tb_of (List.mem_of_getElem? (i := 50) (by decide +kernel)) rfl, zw_tb_of (List.mem_of_getElem? (i := 69) (by decide +kernel)) rfl, zw_tb_of (List.mem_of_getElem? (i := 977) (by decide +kernel)) rfl, ⟨by decide +kernel, by decide +kernel, by decide +kernel⟩, Nat.le_of_ble_eq_true rfl, ⟨_, rfl, rfl⟩, by decide⟩
abbrev mX9_height : zw_M := (yX9_height, cX9_height, 5, some .int)
theorem vmX9_height : zw_VM mX9_height 0 9 := ⟨zw_tb_of (List.mem_of_getElem? (i := 980) (by decide +kernel)) rfl, zw_tb_of (List.mem_of_getElem? (i := 51) (by decide +kernel)) rfl, zw_tb_of (List.mem_of_getElem? (i := 69) (by decide +kernel)) rfl, zw_tb_of (List.mem_of_getElem? (i := 981) (by decide +kernel)) rfl, ⟨by decide +kernel, by decide +kernel, by decide +kernel⟩, Nat.le_of_ble_eq_true rfl, ⟨_, rfl, rfl⟩, by decide⟩
abbrev mX9_leafAt : zw_M := (yX9_leafAt, cX9_leafAt, 4, some .int)
theorem vmX9_leafAt : zw_VM mX9_leafAt 1 9 := ⟨zw_tb_of (List.mem_of_getElem? (i := 1000) (by decide +kernel)) rfl, zw_tb_of (List.mem_of_getElem? (i := 53) (by decide +kernel)) rfl, zw_tb_of (List.mem_of_getElem? (i := 69) (by decide +kernel)) rfl, zw_tb_of (List.mem_of_getElem? (i := 1001) (by decide +kernel)) rfl, ⟨by decide +kernel, by decide +kernel, by decide +kernel⟩, Nat.le_of_ble_eq_true rfl, ⟨_, rfl, rfl⟩, by decide⟩
abbrev mX9_isTreeWord : zw_M := (yX9_isTreeWord, cX9_isTreeWord, 3, some .boolean)
theorem vmX9_isTreeWord : zw_VM mX9_isTreeWord 0 9 := ⟨zw_tb_of (List.mem_of_getElem? (i := 875) (by decide +kernel)) rfl, zw_tb_of (List.mem_of_getElem? (i := 26) (by decide +kernel)) rfl, zw_tb_of (List.mem_of_getElem? (i := 69) (by decide +kernel)) rfl, zw_tb_of (List.mem_of_getElem? (i := 876) (by decide +kernel)) rfl, ⟨by decide +kernel, by decide +kernel, by decide +kernel⟩, Nat.le_of_ble_eq_true rfl, ⟨_, rfl, rfl⟩, by decide⟩
abbrev mX9_isCritical : zw_M := (yX9_isCritical, cX9_isCritical, 2, some .boolean)
theorem vmX9_isCritical : zw_VM mX9_isCritical 1 9 := ⟨zw_tb_of (List.mem_of_getElem? (i := 867) (by decide +kernel)) rfl, zw_tb_of (List.mem_of_getElem? (i := 24) (by decide +kernel)) rfl, zw_tb_of (List.mem_of_getElem? (i := 69) (by decide +kernel)) rfl, zw_tb_of (List.mem_of_getElem? (i := 868) (by decide +kernel)) rfl, ⟨by decide +kernel, by decide +kernel, by decide +kernel⟩, Nat.le_of_ble_eq_true rfl, ⟨_, rfl, rfl⟩, by decide⟩
abbrev mX9_isBad : zw_M := (yX9_isBad, cX9_isBad, 4, some .boolean)
theorem vmX9_isBad : zw_VM mX9_isBad 1 9 := ⟨zw_tb_of (List.mem_of_getElem? (i := 903) (by decide +kernel)) rfl, zw_tb_of (List.mem_of_getElem? (i := 33) (by decide +kernel)) rfl, zw_tb_of (List.mem_of_getElem? (i := 69) (by decide +kernel)) rfl, zw_tb_of (List.mem_of_getElem? (i := 904) (by decide +kernel)) rfl, ⟨by decide +kernel, by decide +kernel, by decide +kernel⟩, Nat.le_of_ble_eq_true rfl, ⟨_, rfl, rfl⟩, by decide⟩
abbrev mX9_criticals : zw_M := (yX9_criticals, cX9_criticals, 3, some .int)
theorem vmX9_criticals : zw_VM mX9_criticals 0 9 := ⟨zw_tb_of (List.mem_of_getElem? (i := 863) (by decide +kernel)) rfl, zw_tb_of (List.mem_of_getElem? (i := 23) (by decide +kernel)) rfl, zw_tb_of (List.mem_of_getElem? (i := 69) (by decide +kernel)) rfl, zw_tb_of (List.mem_of_getElem? (i := 864) (by decide +kernel)) rfl, ⟨by decide +kernel, by decide +kernel, by decide +kernel⟩, Nat.le_of_ble_eq_true rfl, ⟨_, rfl, rfl⟩, by decide⟩
abbrev mX9_bads : zw_M := (yX9_bads, cX9_bads, 3, some .int)
theorem vmX9_bads : zw_VM mX9_bads 0 9 := ⟨zw_tb_of (List.mem_of_getElem? (i := 899) (by decide +kernel)) rfl, zw_tb_of (List.mem_of_getElem? (i := 32) (by decide +kernel)) rfl, zw_tb_of (List.mem_of_getElem? (i := 69) (by decide +kernel)) rfl, zw_tb_of (List.mem_of_getElem? (i := 900) (by decide +kernel)) rfl, ⟨by decide +kernel, by decide +kernel, by decide +kernel⟩, Nat.le_of_ble_eq_true rfl, ⟨_, rfl, rfl⟩, by decide⟩
abbrev mX9_firstBad : zw_M := (yX9_firstBad, cX9_firstBad, 2, some .int)
theorem vmX9_firstBad : zw_VM mX9_firstBad 0 9 := ⟨zw_tb_of (List.mem_of_getElem? (i := 931) (by decide +kernel)) rfl, zw_tb_of (List.mem_of_getElem? (i := 40) (by decide +kernel)) rfl, zw_tb_of (List.mem_of_getElem? (i := 69) (by decide +kernel)) rfl, zw_tb_of (List.mem_of_getElem? (i := 932) (by decide +kernel)) rfl, ⟨by decide +kernel, by decide +kernel, by decide +kernel⟩, Nat.le_of_ble_eq_true rfl, ⟨_, rfl, rfl⟩, by decide⟩
abbrev mX9_mayStand : zw_M := (yX9_mayStand, cX9_mayStand, 7, some .long)
theorem vmX9_mayStand : zw_VM mX9_mayStand 3 9 := ⟨zw_tb_of (List.mem_of_getElem? (i := 801) (by decide +kernel)) rfl, zw_tb_of (List.mem_of_getElem? (i := 13) (by decide +kernel)) rfl, zw_tb_of (List.mem_of_getElem? (i := 69) (by decide +kernel)) rfl, zw_tb_of (List.mem_of_getElem? (i := 802) (by decide +kernel)) rfl, ⟨by decide +kernel, by decide +kernel, by decide +kernel⟩, Nat.le_of_ble_eq_true rfl, ⟨_, rfl, rfl⟩, by decide⟩
abbrev mX9_countPlains : zw_M := (yX9_countPlains, cX9_countPlains, 6, none)
theorem vmX9_countPlains : zw_VM mX9_countPlains 0 9 := ⟨zw_tb_of (List.mem_of_getElem? (i := 797) (by decide +kernel)) rfl, zw_tb_of (List.mem_of_getElem? (i := 12) (by decide +kernel)) rfl, zw_tb_of (List.mem_of_getElem? (i := 69) (by decide +kernel)) rfl, zw_tb_of (List.mem_of_getElem? (i := 798) (by decide +kernel)) rfl, ⟨by decide +kernel, by decide +kernel, by decide +kernel⟩, Nat.le_of_ble_eq_true rfl, ⟨_, rfl, rfl⟩, by decide⟩
abbrev mX9_plainOf : zw_M := (yX9_plainOf, cX9_plainOf, 2, some .long)
theorem vmX9_plainOf : zw_VM mX9_plainOf 1 9 := ⟨zw_tb_of (List.mem_of_getElem? (i := 805) (by decide +kernel)) rfl, zw_tb_of (List.mem_of_getElem? (i := 14) (by decide +kernel)) rfl, zw_tb_of (List.mem_of_getElem? (i := 69) (by decide +kernel)) rfl, zw_tb_of (List.mem_of_getElem? (i := 806) (by decide +kernel)) rfl, ⟨by decide +kernel, by decide +kernel, by decide +kernel⟩, Nat.le_of_ble_eq_true rfl, ⟨_, rfl, rfl⟩, by decide⟩
abbrev mX9_powerUp : zw_M := (yX9_powerUp, cX9_powerUp, 3, none)
theorem vmX9_powerUp : zw_VM mX9_powerUp 0 9 := ⟨zw_tb_of (List.mem_of_getElem? (i := 817) (by decide +kernel)) rfl, zw_tb_of (List.mem_of_getElem? (i := 16) (by decide +kernel)) rfl, zw_tb_of (List.mem_of_getElem? (i := 69) (by decide +kernel)) rfl, zw_tb_of (List.mem_of_getElem? (i := 818) (by decide +kernel)) rfl, ⟨by decide +kernel, by decide +kernel, by decide +kernel⟩, Nat.le_of_ble_eq_true rfl, ⟨_, rfl, rfl⟩, by decide⟩
abbrev mX9_undoSeries : zw_M := (yX9_undoSeries, cX9_undoSeries, 5, none)
theorem vmX9_undoSeries : zw_VM mX9_undoSeries 0 9 := ⟨zw_tb_of (List.mem_of_getElem? (i := 813) (by decide +kernel)) rfl, zw_tb_of (List.mem_of_getElem? (i := 15) (by decide +kernel)) rfl, zw_tb_of (List.mem_of_getElem? (i := 69) (by decide +kernel)) rfl, zw_tb_of (List.mem_of_getElem? (i := 814) (by decide +kernel)) rfl, ⟨by decide +kernel, by decide +kernel, by decide +kernel⟩, Nat.le_of_ble_eq_true rfl, ⟨_, rfl, rfl⟩, by decide⟩
abbrev mX9_count : zw_M := (yX9_count, cX9_count, 2, some .long)
theorem vmX9_count : zw_VM mX9_count 1 9 := ⟨zw_tb_of (List.mem_of_getElem? (i := 788) (by decide +kernel)) rfl, zw_tb_of (List.mem_of_getElem? (i := 789) (by decide +kernel)) rfl, zw_tb_of (List.mem_of_getElem? (i := 69) (by decide +kernel)) rfl, zw_tb_of (List.mem_of_getElem? (i := 790) (by decide +kernel)) rfl, ⟨by decide +kernel, by decide +kernel, by decide +kernel⟩, Nat.le_of_ble_eq_true rfl, ⟨_, rfl, rfl⟩, by decide⟩
abbrev mX9_undoneBy : zw_M := (yX9_undoneBy, cX9_undoneBy, 2, some .long)
theorem vmX9_undoneBy : zw_VM mX9_undoneBy 1 9 := ⟨zw_tb_of (List.mem_of_getElem? (i := 808) (by decide +kernel)) rfl, zw_tb_of (List.mem_of_getElem? (i := 809) (by decide +kernel)) rfl, zw_tb_of (List.mem_of_getElem? (i := 69) (by decide +kernel)) rfl, zw_tb_of (List.mem_of_getElem? (i := 810) (by decide +kernel)) rfl, ⟨by decide +kernel, by decide +kernel, by decide +kernel⟩, Nat.le_of_ble_eq_true rfl, ⟨_, rfl, rfl⟩, by decide⟩
abbrev mX9_isPattern : zw_M := (yX9_isPattern, cX9_isPattern, 2, some .boolean)
theorem vmX9_isPattern : zw_VM mX9_isPattern 1 9 := ⟨zw_tb_of (List.mem_of_getElem? (i := 988) (by decide +kernel)) rfl, zw_tb_of (List.mem_of_getElem? (i := 52) (by decide +kernel)) rfl, zw_tb_of (List.mem_of_getElem? (i := 69) (by decide +kernel)) rfl, zw_tb_of (List.mem_of_getElem? (i := 989) (by decide +kernel)) rfl, ⟨by decide +kernel, by decide +kernel, by decide +kernel⟩, Nat.le_of_ble_eq_true rfl, ⟨_, rfl, rfl⟩, by decide⟩
abbrev mX9_comesFrom : zw_M := (yX9_comesFrom, cX9_comesFrom, 3, some .int)
theorem vmX9_comesFrom : zw_VM mX9_comesFrom 1 9 := ⟨zw_tb_of (List.mem_of_getElem? (i := 943) (by decide +kernel)) rfl, zw_tb_of (List.mem_of_getElem? (i := 43) (by decide +kernel)) rfl, zw_tb_of (List.mem_of_getElem? (i := 69) (by decide +kernel)) rfl, zw_tb_of (List.mem_of_getElem? (i := 944) (by decide +kernel)) rfl, ⟨by decide +kernel, by decide +kernel, by decide +kernel⟩, Nat.le_of_ble_eq_true rfl, ⟨_, rfl, rfl⟩, by decide⟩
abbrev mX9_dualOf : zw_M := (yX9_dualOf, cX9_dualOf, 4, some .int)
theorem vmX9_dualOf : zw_VM mX9_dualOf 1 9 := ⟨zw_tb_of (List.mem_of_getElem? (i := 939) (by decide +kernel)) rfl, zw_tb_of (List.mem_of_getElem? (i := 42) (by decide +kernel)) rfl, zw_tb_of (List.mem_of_getElem? (i := 69) (by decide +kernel)) rfl, zw_tb_of (List.mem_of_getElem? (i := 940) (by decide +kernel)) rfl, ⟨by decide +kernel, by decide +kernel, by decide +kernel⟩, Nat.le_of_ble_eq_true rfl, ⟨_, rfl, rfl⟩, by decide⟩
abbrev mX9_isOwnDual : zw_M := (yX9_isOwnDual, cX9_isOwnDual, 3, some .boolean)
theorem vmX9_isOwnDual : zw_VM mX9_isOwnDual 0 9 := ⟨zw_tb_of (List.mem_of_getElem? (i := 935) (by decide +kernel)) rfl, zw_tb_of (List.mem_of_getElem? (i := 41) (by decide +kernel)) rfl, zw_tb_of (List.mem_of_getElem? (i := 69) (by decide +kernel)) rfl, zw_tb_of (List.mem_of_getElem? (i := 936) (by decide +kernel)) rfl, ⟨by decide +kernel, by decide +kernel, by decide +kernel⟩, Nat.le_of_ble_eq_true rfl, ⟨_, rfl, rfl⟩, by decide⟩
abbrev mX9_feed : zw_M := (yX9_feed, cX9_feed, 2, some .int)
theorem vmX9_feed : zw_VM mX9_feed 1 9 := ⟨zw_tb_of (List.mem_of_getElem? (i := 820) (by decide +kernel)) rfl, zw_tb_of (List.mem_of_getElem? (i := 821) (by decide +kernel)) rfl, zw_tb_of (List.mem_of_getElem? (i := 69) (by decide +kernel)) rfl, zw_tb_of (List.mem_of_getElem? (i := 822) (by decide +kernel)) rfl, ⟨by decide +kernel, by decide +kernel, by decide +kernel⟩, Nat.le_of_ble_eq_true rfl, ⟨_, rfl, rfl⟩, by decide⟩
abbrev mX9_read : zw_M := (yX9_read, cX9_read, 5, some .int)
theorem vmX9_read : zw_VM mX9_read 0 9 := ⟨zw_tb_of (List.mem_of_getElem? (i := 831) (by decide +kernel)) rfl, zw_tb_of (List.mem_of_getElem? (i := 17) (by decide +kernel)) rfl, zw_tb_of (List.mem_of_getElem? (i := 69) (by decide +kernel)) rfl, zw_tb_of (List.mem_of_getElem? (i := 832) (by decide +kernel)) rfl, ⟨by decide +kernel, by decide +kernel, by decide +kernel⟩, Nat.le_of_ble_eq_true rfl, ⟨_, rfl, rfl⟩, by decide⟩
abbrev mX9_tell : zw_M := (yX9_tell, cX9_tell, 2, some .int)
theorem vmX9_tell : zw_VM mX9_tell 0 9 := ⟨zw_tb_of (List.mem_of_getElem? (i := 826) (by decide +kernel)) rfl, zw_tb_of (List.mem_of_getElem? (i := 827) (by decide +kernel)) rfl, zw_tb_of (List.mem_of_getElem? (i := 69) (by decide +kernel)) rfl, zw_tb_of (List.mem_of_getElem? (i := 828) (by decide +kernel)) rfl, ⟨by decide +kernel, by decide +kernel, by decide +kernel⟩, Nat.le_of_ble_eq_true rfl, ⟨_, rfl, rfl⟩, by decide⟩
abbrev mX9_fault : zw_M := (yX9_fault, cX9_fault, 1, some .int)
theorem vmX9_fault : zw_VM mX9_fault 0 9 := ⟨zw_tb_of (List.mem_of_getElem? (i := 854) (by decide +kernel)) rfl, zw_tb_of (List.mem_of_getElem? (i := 855) (by decide +kernel)) rfl, zw_tb_of (List.mem_of_getElem? (i := 69) (by decide +kernel)) rfl, zw_tb_of (List.mem_of_getElem? (i := 856) (by decide +kernel)) rfl, ⟨by decide +kernel, by decide +kernel, by decide +kernel⟩, Nat.le_of_ble_eq_true rfl, ⟨_, rfl, rfl⟩, by decide⟩
abbrev mX9_wrongEntry : zw_M := (yX9_wrongEntry, cX9_wrongEntry, 2, some .int)
theorem vmX9_wrongEntry : zw_VM mX9_wrongEntry 0 9 := ⟨zw_tb_of (List.mem_of_getElem? (i := 947) (by decide +kernel)) rfl, zw_tb_of (List.mem_of_getElem? (i := 44) (by decide +kernel)) rfl, zw_tb_of (List.mem_of_getElem? (i := 69) (by decide +kernel)) rfl, zw_tb_of (List.mem_of_getElem? (i := 948) (by decide +kernel)) rfl, ⟨by decide +kernel, by decide +kernel, by decide +kernel⟩, Nat.le_of_ble_eq_true rfl, ⟨_, rfl, rfl⟩, by decide⟩
abbrev mX9_told : zw_M := (yX9_told, cX9_told, 2, some .int)
theorem vmX9_told : zw_VM mX9_told 1 9 := ⟨zw_tb_of (List.mem_of_getElem? (i := 858) (by decide +kernel)) rfl, zw_tb_of (List.mem_of_getElem? (i := 859) (by decide +kernel)) rfl, zw_tb_of (List.mem_of_getElem? (i := 69) (by decide +kernel)) rfl, zw_tb_of (List.mem_of_getElem? (i := 860) (by decide +kernel)) rfl, ⟨by decide +kernel, by decide +kernel, by decide +kernel⟩, Nat.le_of_ble_eq_true rfl, ⟨_, rfl, rfl⟩, by decide⟩
abbrev mX9_turnedCode : zw_M := (yX9_turnedCode, cX9_turnedCode, 1, some .int)
theorem vmX9_turnedCode : zw_VM mX9_turnedCode 0 9 := ⟨zw_tb_of (List.mem_of_getElem? (i := 972) (by decide +kernel)) rfl, zw_tb_of (List.mem_of_getElem? (i := 49) (by decide +kernel)) rfl, zw_tb_of (List.mem_of_getElem? (i := 69) (by decide +kernel)) rfl, zw_tb_of (List.mem_of_getElem? (i := 973) (by decide +kernel)) rfl, ⟨by decide +kernel, by decide +kernel, by decide +kernel⟩, Nat.le_of_ble_eq_true rfl, ⟨_, rfl, rfl⟩, by decide⟩
abbrev mX9_ofPlain : zw_M := (yX9_ofPlain, cX9_ofPlain, 3, some .int)
theorem vmX9_ofPlain : zw_VM mX9_ofPlain 1 9 := ⟨zw_tb_of (List.mem_of_getElem? (i := 968) (by decide +kernel)) rfl, zw_tb_of (List.mem_of_getElem? (i := 48) (by decide +kernel)) rfl, zw_tb_of (List.mem_of_getElem? (i := 69) (by decide +kernel)) rfl, zw_tb_of (List.mem_of_getElem? (i := 969) (by decide +kernel)) rfl, ⟨by decide +kernel, by decide +kernel, by decide +kernel⟩, Nat.le_of_ble_eq_true rfl, ⟨_, rfl, rfl⟩, by decide⟩
abbrev mX9_tree : zw_M := (yX9_tree, cX9_tree, 3, some .int)
theorem vmX9_tree : zw_VM mX9_tree 2 9 := ⟨zw_tb_of (List.mem_of_getElem? (i := 954) (by decide +kernel)) rfl, zw_tb_of (List.mem_of_getElem? (i := 955) (by decide +kernel)) rfl, zw_tb_of (List.mem_of_getElem? (i := 69) (by decide +kernel)) rfl, zw_tb_of (List.mem_of_getElem? (i := 956) (by decide +kernel)) rfl, ⟨by decide +kernel, by decide +kernel, by decide +kernel⟩, Nat.le_of_ble_eq_true rfl, ⟨_, rfl, rfl⟩, by decide⟩
abbrev mX9_pattern : zw_M := (yX9_pattern, cX9_pattern, 3, some .int)
theorem vmX9_pattern : zw_VM mX9_pattern 2 9 := ⟨zw_tb_of (List.mem_of_getElem? (i := 983) (by decide +kernel)) rfl, zw_tb_of (List.mem_of_getElem? (i := 984) (by decide +kernel)) rfl, zw_tb_of (List.mem_of_getElem? (i := 69) (by decide +kernel)) rfl, zw_tb_of (List.mem_of_getElem? (i := 985) (by decide +kernel)) rfl, ⟨by decide +kernel, by decide +kernel, by decide +kernel⟩, Nat.le_of_ble_eq_true rfl, ⟨_, rfl, rfl⟩, by decide⟩
abbrev mX9_same : zw_M := (yX9_same, cX9_same, 5, some .int)
theorem vmX9_same : zw_VM mX9_same 2 9 := ⟨zw_tb_of (List.mem_of_getElem? (i := 991) (by decide +kernel)) rfl, zw_tb_of (List.mem_of_getElem? (i := 992) (by decide +kernel)) rfl, zw_tb_of (List.mem_of_getElem? (i := 69) (by decide +kernel)) rfl, zw_tb_of (List.mem_of_getElem? (i := 993) (by decide +kernel)) rfl, ⟨by decide +kernel, by decide +kernel, by decide +kernel⟩, Nat.le_of_ble_eq_true rfl, ⟨_, rfl, rfl⟩, by decide⟩
abbrev mX9_remember : zw_M := (yX9_remember, cX9_remember, 2, none)
theorem vmX9_remember : zw_VM mX9_remember 0 9 := ⟨zw_tb_of (List.mem_of_getElem? (i := 835) (by decide +kernel)) rfl, zw_tb_of (List.mem_of_getElem? (i := 18) (by decide +kernel)) rfl, zw_tb_of (List.mem_of_getElem? (i := 69) (by decide +kernel)) rfl, zw_tb_of (List.mem_of_getElem? (i := 836) (by decide +kernel)) rfl, ⟨by decide +kernel, by decide +kernel, by decide +kernel⟩, Nat.le_of_ble_eq_true rfl, ⟨_, rfl, rfl⟩, by decide⟩
abbrev mX9_shelve : zw_M := (yX9_shelve, cX9_shelve, 2, some .int)
theorem vmX9_shelve : zw_VM mX9_shelve 0 9 := ⟨zw_tb_of (List.mem_of_getElem? (i := 843) (by decide +kernel)) rfl, zw_tb_of (List.mem_of_getElem? (i := 20) (by decide +kernel)) rfl, zw_tb_of (List.mem_of_getElem? (i := 69) (by decide +kernel)) rfl, zw_tb_of (List.mem_of_getElem? (i := 844) (by decide +kernel)) rfl, ⟨by decide +kernel, by decide +kernel, by decide +kernel⟩, Nat.le_of_ble_eq_true rfl, ⟨_, rfl, rfl⟩, by decide⟩
abbrev mX9_lay : zw_M := (yX9_lay, cX9_lay, 2, none)
theorem vmX9_lay : zw_VM mX9_lay 1 9 := ⟨zw_tb_of (List.mem_of_getElem? (i := 847) (by decide +kernel)) rfl, zw_tb_of (List.mem_of_getElem? (i := 21) (by decide +kernel)) rfl, zw_tb_of (List.mem_of_getElem? (i := 69) (by decide +kernel)) rfl, zw_tb_of (List.mem_of_getElem? (i := 848) (by decide +kernel)) rfl, ⟨by decide +kernel, by decide +kernel, by decide +kernel⟩, Nat.le_of_ble_eq_true rfl, ⟨_, rfl, rfl⟩, by decide⟩
abbrev mX9_graft : zw_M := (yX9_graft, cX9_graft, 10, some .int)
theorem vmX9_graft : zw_VM mX9_graft 3 9 := ⟨zw_tb_of (List.mem_of_getElem? (i := 995) (by decide +kernel)) rfl, zw_tb_of (List.mem_of_getElem? (i := 996) (by decide +kernel)) rfl, zw_tb_of (List.mem_of_getElem? (i := 69) (by decide +kernel)) rfl, zw_tb_of (List.mem_of_getElem? (i := 997) (by decide +kernel)) rfl, ⟨by decide +kernel, by decide +kernel, by decide +kernel⟩, Nat.le_of_ble_eq_true rfl, ⟨_, rfl, rfl⟩, by decide⟩
abbrev mX9_step : zw_M := (yX9_step, cX9_step, 4, some .int)
theorem vmX9_step : zw_VM mX9_step 2 9 := ⟨zw_tb_of (List.mem_of_getElem? (i := 1004) (by decide +kernel)) rfl, zw_tb_of (List.mem_of_getElem? (i := 1005) (by decide +kernel)) rfl, zw_tb_of (List.mem_of_getElem? (i := 69) (by decide +kernel)) rfl, zw_tb_of (List.mem_of_getElem? (i := 1006) (by decide +kernel)) rfl, ⟨by decide +kernel, by decide +kernel, by decide +kernel⟩, Nat.le_of_ble_eq_true rfl, ⟨_, rfl, rfl⟩, by decide⟩
abbrev mX9_plain : zw_M := (yX9_plain, cX9_plain, 3, some .int)
theorem vmX9_plain : zw_VM mX9_plain 1 9 := ⟨zw_tb_of (List.mem_of_getElem? (i := 1008) (by decide +kernel)) rfl, zw_tb_of (List.mem_of_getElem? (i := 1009) (by decide +kernel)) rfl, zw_tb_of (List.mem_of_getElem? (i := 69) (by decide +kernel)) rfl, zw_tb_of (List.mem_of_getElem? (i := 1010) (by decide +kernel)) rfl, ⟨by decide +kernel, by decide +kernel, by decide +kernel⟩, Nat.le_of_ble_eq_true rfl, ⟨_, rfl, rfl⟩, by decide⟩
abbrev mX9_mirror : zw_M := (yX9_mirror, cX9_mirror, 2, some .int)
theorem vmX9_mirror : zw_VM mX9_mirror 1 9 := ⟨zw_tb_of (List.mem_of_getElem? (i := 1012) (by decide +kernel)) rfl, zw_tb_of (List.mem_of_getElem? (i := 1013) (by decide +kernel)) rfl, zw_tb_of (List.mem_of_getElem? (i := 69) (by decide +kernel)) rfl, zw_tb_of (List.mem_of_getElem? (i := 1014) (by decide +kernel)) rfl, ⟨by decide +kernel, by decide +kernel, by decide +kernel⟩, Nat.le_of_ble_eq_true rfl, ⟨_, rfl, rfl⟩, by decide⟩
abbrev mX9_take : zw_M := (yX9_take, cX9_take, 3, some .int)
theorem vmX9_take : zw_VM mX9_take 1 9 := ⟨zw_tb_of (List.mem_of_getElem? (i := 1016) (by decide +kernel)) rfl, zw_tb_of (List.mem_of_getElem? (i := 1017) (by decide +kernel)) rfl, zw_tb_of (List.mem_of_getElem? (i := 69) (by decide +kernel)) rfl, zw_tb_of (List.mem_of_getElem? (i := 1018) (by decide +kernel)) rfl, ⟨by decide +kernel, by decide +kernel, by decide +kernel⟩, Nat.le_of_ble_eq_true rfl, ⟨_, rfl, rfl⟩, by decide⟩
abbrev mX9_mayBecome : zw_M := (yX9_mayBecome, cX9_mayBecome, 3, some .boolean)
theorem vmX9_mayBecome : zw_VM mX9_mayBecome 2 9 := ⟨zw_tb_of (List.mem_of_getElem? (i := 1025) (by decide +kernel)) rfl, zw_tb_of (List.mem_of_getElem? (i := 54) (by decide +kernel)) rfl, zw_tb_of (List.mem_of_getElem? (i := 69) (by decide +kernel)) rfl, zw_tb_of (List.mem_of_getElem? (i := 1026) (by decide +kernel)) rfl, ⟨by decide +kernel, by decide +kernel, by decide +kernel⟩, Nat.le_of_ble_eq_true rfl, ⟨_, rfl, rfl⟩, by decide⟩
abbrev mX9_fate : zw_M := (yX9_fate, cX9_fate, 5, some .int)
theorem vmX9_fate : zw_VM mX9_fate 3 9 := ⟨zw_tb_of (List.mem_of_getElem? (i := 1020) (by decide +kernel)) rfl, zw_tb_of (List.mem_of_getElem? (i := 1021) (by decide +kernel)) rfl, zw_tb_of (List.mem_of_getElem? (i := 69) (by decide +kernel)) rfl, zw_tb_of (List.mem_of_getElem? (i := 1022) (by decide +kernel)) rfl, ⟨by decide +kernel, by decide +kernel, by decide +kernel⟩, Nat.le_of_ble_eq_true rfl, ⟨_, rfl, rfl⟩, by decide⟩
abbrev mX9_dual : zw_M := (yX9_dual, cX9_dual, 2, some .int)
theorem vmX9_dual : zw_VM mX9_dual 0 9 := ⟨zw_tb_of (List.mem_of_getElem? (i := 1028) (by decide +kernel)) rfl, zw_tb_of (List.mem_of_getElem? (i := 1029) (by decide +kernel)) rfl, zw_tb_of (List.mem_of_getElem? (i := 69) (by decide +kernel)) rfl, zw_tb_of (List.mem_of_getElem? (i := 1030) (by decide +kernel)) rfl, ⟨by decide +kernel, by decide +kernel, by decide +kernel⟩, Nat.le_of_ble_eq_true rfl, ⟨_, rfl, rfl⟩, by decide⟩
abbrev mX9_clear : zw_M := (yX9_clear, cX9_clear, 3, some .int)
theorem vmX9_clear : zw_VM mX9_clear 0 9 := ⟨zw_tb_of (List.mem_of_getElem? (i := 1032) (by decide +kernel)) rfl, zw_tb_of (List.mem_of_getElem? (i := 1033) (by decide +kernel)) rfl, zw_tb_of (List.mem_of_getElem? (i := 69) (by decide +kernel)) rfl, zw_tb_of (List.mem_of_getElem? (i := 1034) (by decide +kernel)) rfl, ⟨by decide +kernel, by decide +kernel, by decide +kernel⟩, Nat.le_of_ble_eq_true rfl, ⟨_, rfl, rfl⟩, by decide⟩
abbrev mX9_draw : zw_M := (yX9_draw, cX9_draw, 4, some .int)
theorem vmX9_draw : zw_VM mX9_draw 1 9 := ⟨zw_tb_of (List.mem_of_getElem? (i := 1045) (by decide +kernel)) rfl, zw_tb_of (List.mem_of_getElem? (i := 56) (by decide +kernel)) rfl, zw_tb_of (List.mem_of_getElem? (i := 69) (by decide +kernel)) rfl, zw_tb_of (List.mem_of_getElem? (i := 1046) (by decide +kernel)) rfl, ⟨by decide +kernel, by decide +kernel, by decide +kernel⟩, Nat.le_of_ble_eq_true rfl, ⟨_, rfl, rfl⟩, by decide⟩
abbrev mX9_put : zw_M := (yX9_put, cX9_put, 4, none)
theorem vmX9_put : zw_VM mX9_put 2 9 := ⟨zw_tb_of (List.mem_of_getElem? (i := 1053) (by decide +kernel)) rfl, zw_tb_of (List.mem_of_getElem? (i := 57) (by decide +kernel)) rfl, zw_tb_of (List.mem_of_getElem? (i := 69) (by decide +kernel)) rfl, zw_tb_of (List.mem_of_getElem? (i := 1054) (by decide +kernel)) rfl, ⟨by decide +kernel, by decide +kernel, by decide +kernel⟩, Nat.le_of_ble_eq_true rfl, ⟨_, rfl, rfl⟩, by decide⟩
abbrev mX9_chance : zw_M := (yX9_chance, cX9_chance, 4, none)
theorem vmX9_chance : zw_VM mX9_chance 0 9 := ⟨zw_tb_of (List.mem_of_getElem? (i := 1041) (by decide +kernel)) rfl, zw_tb_of (List.mem_of_getElem? (i := 55) (by decide +kernel)) rfl, zw_tb_of (List.mem_of_getElem? (i := 69) (by decide +kernel)) rfl, zw_tb_of (List.mem_of_getElem? (i := 1042) (by decide +kernel)) rfl, ⟨by decide +kernel, by decide +kernel, by decide +kernel⟩, Nat.le_of_ble_eq_true rfl, ⟨_, rfl, rfl⟩, by decide⟩
abbrev mX9_drift : zw_M := (yX9_drift, cX9_drift, 3, some .int)
theorem vmX9_drift : zw_VM mX9_drift 1 9 := ⟨zw_tb_of (List.mem_of_getElem? (i := 1036) (by decide +kernel)) rfl, zw_tb_of (List.mem_of_getElem? (i := 1037) (by decide +kernel)) rfl, zw_tb_of (List.mem_of_getElem? (i := 69) (by decide +kernel)) rfl, zw_tb_of (List.mem_of_getElem? (i := 1038) (by decide +kernel)) rfl, ⟨by decide +kernel, by decide +kernel, by decide +kernel⟩, Nat.le_of_ble_eq_true rfl, ⟨_, rfl, rfl⟩, by decide⟩
abbrev mX9_undo : zw_M := (yX9_undo, cX9_undo, 2, some .int)
theorem vmX9_undo : zw_VM mX9_undo 1 9 := ⟨zw_tb_of (List.mem_of_getElem? (i := 1056) (by decide +kernel)) rfl, zw_tb_of (List.mem_of_getElem? (i := 1057) (by decide +kernel)) rfl, zw_tb_of (List.mem_of_getElem? (i := 69) (by decide +kernel)) rfl, zw_tb_of (List.mem_of_getElem? (i := 1058) (by decide +kernel)) rfl, ⟨by decide +kernel, by decide +kernel, by decide +kernel⟩, Nat.le_of_ble_eq_true rfl, ⟨_, rfl, rfl⟩, by decide⟩
abbrev mX9_write : zw_M := (yX9_write, cX9_write, 3, some .int)
theorem vmX9_write : zw_VM mX9_write 2 9 := ⟨zw_tb_of (List.mem_of_getElem? (i := 1060) (by decide +kernel)) rfl, zw_tb_of (List.mem_of_getElem? (i := 1061) (by decide +kernel)) rfl, zw_tb_of (List.mem_of_getElem? (i := 69) (by decide +kernel)) rfl, zw_tb_of (List.mem_of_getElem? (i := 1062) (by decide +kernel)) rfl, ⟨by decide +kernel, by decide +kernel, by decide +kernel⟩, Nat.le_of_ble_eq_true rfl, ⟨_, rfl, rfl⟩, by decide⟩
abbrev mX9_tear : zw_M := (yX9_tear, cX9_tear, 2, some .int)
theorem vmX9_tear : zw_VM mX9_tear 0 9 := ⟨zw_tb_of (List.mem_of_getElem? (i := 1064) (by decide +kernel)) rfl, zw_tb_of (List.mem_of_getElem? (i := 1065) (by decide +kernel)) rfl, zw_tb_of (List.mem_of_getElem? (i := 69) (by decide +kernel)) rfl, zw_tb_of (List.mem_of_getElem? (i := 1066) (by decide +kernel)) rfl, ⟨by decide +kernel, by decide +kernel, by decide +kernel⟩, Nat.le_of_ble_eq_true rfl, ⟨_, rfl, rfl⟩, by decide⟩
abbrev mX9_seed : zw_M := (yX9_seed, cX9_seed, 3, some .int)
theorem vmX9_seed : zw_VM mX9_seed 1 9 := ⟨zw_tb_of (List.mem_of_getElem? (i := 1068) (by decide +kernel)) rfl, zw_tb_of (List.mem_of_getElem? (i := 1069) (by decide +kernel)) rfl, zw_tb_of (List.mem_of_getElem? (i := 69) (by decide +kernel)) rfl, zw_tb_of (List.mem_of_getElem? (i := 1070) (by decide +kernel)) rfl, ⟨by decide +kernel, by decide +kernel, by decide +kernel⟩, Nat.le_of_ble_eq_true rfl, ⟨_, rfl, rfl⟩, by decide⟩
abbrev mX9_keep : zw_M := (yX9_keep, cX9_keep, 2, some .int)
theorem vmX9_keep : zw_VM mX9_keep 1 9 := ⟨zw_tb_of (List.mem_of_getElem? (i := 1072) (by decide +kernel)) rfl, zw_tb_of (List.mem_of_getElem? (i := 1073) (by decide +kernel)) rfl, zw_tb_of (List.mem_of_getElem? (i := 69) (by decide +kernel)) rfl, zw_tb_of (List.mem_of_getElem? (i := 1074) (by decide +kernel)) rfl, ⟨by decide +kernel, by decide +kernel, by decide +kernel⟩, Nat.le_of_ble_eq_true rfl, ⟨_, rfl, rfl⟩, by decide⟩
abbrev mX9_goBack : zw_M := (yX9_goBack, cX9_goBack, 2, some .int)
theorem vmX9_goBack : zw_VM mX9_goBack 1 9 := ⟨zw_tb_of (List.mem_of_getElem? (i := 1076) (by decide +kernel)) rfl, zw_tb_of (List.mem_of_getElem? (i := 1077) (by decide +kernel)) rfl, zw_tb_of (List.mem_of_getElem? (i := 69) (by decide +kernel)) rfl, zw_tb_of (List.mem_of_getElem? (i := 1078) (by decide +kernel)) rfl, ⟨by decide +kernel, by decide +kernel, by decide +kernel⟩, Nat.le_of_ble_eq_true rfl, ⟨_, rfl, rfl⟩, by decide⟩
abbrev mJ9_floorMod_7cf53 : zw_M := (yJ9_floorMod_7cf53, cJ9_floorMod_7cf53, 3, some .int)
theorem smJ9_floorMod_7cf53 : zw_SM mJ9_floorMod_7cf53 2 := ⟨zw_tb_of (List.mem_of_getElem? (i := 674) (by decide +kernel)) rfl, zw_tb_of (List.mem_of_getElem? (i := 70) (by decide +kernel)) rfl, zw_tb_of (List.mem_of_getElem? (i := 675) (by decide +kernel)) rfl, ⟨by decide +kernel, by decide +kernel, by decide +kernel⟩, Nat.le_of_ble_eq_true rfl⟩
abbrev mJ9_max_7cf53 : zw_M := (yJ9_max_7cf53, cJ9_max_7cf53, 2, some .int)
theorem smJ9_max_7cf53 : zw_SM mJ9_max_7cf53 2 := ⟨zw_tb_of (List.mem_of_getElem? (i := 513) (by decide +kernel)) rfl, zw_tb_of (List.mem_of_getElem? (i := 70) (by decide +kernel)) rfl, zw_tb_of (List.mem_of_getElem? (i := 514) (by decide +kernel)) rfl, ⟨by decide +kernel, by decide +kernel, by decide +kernel⟩, Nat.le_of_ble_eq_true rfl⟩
abbrev mJ9_min_7cf53 : zw_M := (yJ9_min_7cf53, cJ9_min_7cf53, 2, some .int)
theorem smJ9_min_7cf53 : zw_SM mJ9_min_7cf53 2 := ⟨zw_tb_of (List.mem_of_getElem? (i := 332) (by decide +kernel)) rfl, zw_tb_of (List.mem_of_getElem? (i := 70) (by decide +kernel)) rfl, zw_tb_of (List.mem_of_getElem? (i := 333) (by decide +kernel)) rfl, ⟨by decide +kernel, by decide +kernel, by decide +kernel⟩, Nat.le_of_ble_eq_true rfl⟩
abbrev mJ7_fill_d0a16 : zw_M := (yJ7_fill_d0a16, cJ7_fill_d0a16, 5, none)
theorem smJ7_fill_d0a16 : zw_SM mJ7_fill_d0a16 2 := ⟨zw_tb_of (List.mem_of_getElem? (i := 558) (by decide +kernel)) rfl, zw_tb_of (List.mem_of_getElem? (i := 62) (by decide +kernel)) rfl, zw_tb_of (List.mem_of_getElem? (i := 559) (by decide +kernel)) rfl, ⟨by decide +kernel, by decide +kernel, by decide +kernel⟩, Nat.le_of_ble_eq_true rfl⟩
abbrev mJ7_fill_53178 : zw_M := (yJ7_fill_53178, cJ7_fill_53178, 4, none)
theorem smJ7_fill_53178 : zw_SM mJ7_fill_53178 2 := ⟨zw_tb_of (List.mem_of_getElem? (i := 93) (by decide +kernel)) rfl, zw_tb_of (List.mem_of_getElem? (i := 62) (by decide +kernel)) rfl, zw_tb_of (List.mem_of_getElem? (i := 94) (by decide +kernel)) rfl, ⟨by decide +kernel, by decide +kernel, by decide +kernel⟩, Nat.le_of_ble_eq_true rfl⟩
abbrev mL_law : zw_M := (yL_law, cL_law, 4, some .boolean)
theorem lkX4_18 : Cond.methodLink RX4 18 yJ7_fill_53178 ∈ zw_tb := zw_tb_of (List.mem_of_getElem? (i := 92) (by decide +kernel)) rfl
theorem lkL_13 : Cond.methodLink RL 13 yX8_feed ∈ zw_tb := zw_tb_of (List.mem_of_getElem? (i := 286) (by decide +kernel)) rfl
theorem kcX8_75 : Cond.constant RX8 75 (-1000000002) ∈ zw_tb := zw_tb_of (List.mem_of_getElem? (i := 290) (by decide +kernel)) rfl
theorem kcX8_76 : Cond.constant RX8 76 (-1000000004) ∈ zw_tb := zw_tb_of (List.mem_of_getElem? (i := 291) (by decide +kernel)) rfl
theorem lkL_18 : Cond.methodLink RL 18 yX8_tell ∈ zw_tb := zw_tb_of (List.mem_of_getElem? (i := 292) (by decide +kernel)) rfl
theorem lkX8_77 : Cond.methodLink RX8 77 yX6_isFull ∈ zw_tb := zw_tb_of (List.mem_of_getElem? (i := 296) (by decide +kernel)) rfl
theorem lkX8_81 : Cond.methodLink RX8 81 yX8_readText ∈ zw_tb := zw_tb_of (List.mem_of_getElem? (i := 300) (by decide +kernel)) rfl
theorem lkX8_93 : Cond.methodLink RX8 93 yX7_open ∈ zw_tb := zw_tb_of (List.mem_of_getElem? (i := 304) (by decide +kernel)) rfl
theorem lkX8_96 : Cond.methodLink RX8 96 yX8_figureOf ∈ zw_tb := zw_tb_of (List.mem_of_getElem? (i := 308) (by decide +kernel)) rfl
theorem lkX8_100 : Cond.methodLink RX8 100 yX7_append ∈ zw_tb := zw_tb_of (List.mem_of_getElem? (i := 311) (by decide +kernel)) rfl
theorem lkX8_85 : Cond.methodLink RX8 85 yX1_record ∈ zw_tb := zw_tb_of (List.mem_of_getElem? (i := 315) (by decide +kernel)) rfl
theorem lkX1_25 : Cond.methodLink RX1 25 yX1_slotAt ∈ zw_tb := zw_tb_of (List.mem_of_getElem? (i := 319) (by decide +kernel)) rfl
theorem lkX1_29 : Cond.methodLink RX1 29 yX6_copyFrom ∈ zw_tb := zw_tb_of (List.mem_of_getElem? (i := 323) (by decide +kernel)) rfl
theorem lkX6_62 : Cond.methodLink RX6 62 yX4_copyFrom ∈ zw_tb := zw_tb_of (List.mem_of_getElem? (i := 327) (by decide +kernel)) rfl
theorem lkX1_33 : Cond.methodLink RX1 33 yJ9_min_7cf53 ∈ zw_tb := zw_tb_of (List.mem_of_getElem? (i := 331) (by decide +kernel)) rfl
theorem lkX8_89 : Cond.methodLink RX8 89 yX6_add ∈ zw_tb := zw_tb_of (List.mem_of_getElem? (i := 334) (by decide +kernel)) rfl
theorem lkX6_53 : Cond.methodLink RX6 53 yX6_isFull ∈ zw_tb := zw_tb_of (List.mem_of_getElem? (i := 338) (by decide +kernel)) rfl
theorem kcX6_57 : Cond.constant RX6 57 (-1000000004) ∈ zw_tb := zw_tb_of (List.mem_of_getElem? (i := 339) (by decide +kernel)) rfl
theorem lkX6_58 : Cond.methodLink RX6 58 yX6_put ∈ zw_tb := zw_tb_of (List.mem_of_getElem? (i := 340) (by decide +kernel)) rfl
theorem lkX6_29 : Cond.methodLink RX6 29 yX6_has ∈ zw_tb := zw_tb_of (List.mem_of_getElem? (i := 344) (by decide +kernel)) rfl
theorem lkX6_46 : Cond.methodLink RX6 46 yX7_codeNow ∈ zw_tb := zw_tb_of (List.mem_of_getElem? (i := 348) (by decide +kernel)) rfl
theorem lkX7_32 : Cond.methodLink RX7 32 yX7_figureAt ∈ zw_tb := zw_tb_of (List.mem_of_getElem? (i := 352) (by decide +kernel)) rfl
theorem lkL_23 : Cond.methodLink RL 23 yX8_fault ∈ zw_tb := zw_tb_of (List.mem_of_getElem? (i := 356) (by decide +kernel)) rfl
theorem lkL_27 : Cond.methodLink RL 27 yX8_told ∈ zw_tb := zw_tb_of (List.mem_of_getElem? (i := 360) (by decide +kernel)) rfl
theorem lkX8_108 : Cond.methodLink RX8 108 yX3_judgeAll ∈ zw_tb := zw_tb_of (List.mem_of_getElem? (i := 364) (by decide +kernel)) rfl
theorem lkX3_38 : Cond.methodLink RX3 38 yX3_judgeOne ∈ zw_tb := zw_tb_of (List.mem_of_getElem? (i := 372) (by decide +kernel)) rfl
theorem lkX3_42 : Cond.methodLink RX3 42 yX7_readCode ∈ zw_tb := zw_tb_of (List.mem_of_getElem? (i := 376) (by decide +kernel)) rfl
theorem lkX7_25 : Cond.methodLink RX7 25 yX7_open ∈ zw_tb := zw_tb_of (List.mem_of_getElem? (i := 380) (by decide +kernel)) rfl
theorem lkX7_28 : Cond.methodLink RX7 28 yX7_append ∈ zw_tb := zw_tb_of (List.mem_of_getElem? (i := 381) (by decide +kernel)) rfl
theorem lkX3_46 : Cond.methodLink RX3 46 yX7_places ∈ zw_tb := zw_tb_of (List.mem_of_getElem? (i := 382) (by decide +kernel)) rfl
theorem lkX7_54 : Cond.methodLink RX7 54 yX7_patternAt ∈ zw_tb := zw_tb_of (List.mem_of_getElem? (i := 386) (by decide +kernel)) rfl
theorem lkX7_51 : Cond.methodLink RX7 51 yX7_endOf ∈ zw_tb := zw_tb_of (List.mem_of_getElem? (i := 390) (by decide +kernel)) rfl
theorem lkX7_57 : Cond.methodLink RX7 57 yX4_fateOf ∈ zw_tb := zw_tb_of (List.mem_of_getElem? (i := 394) (by decide +kernel)) rfl
theorem lkX4_24 : Cond.methodLink RX4 24 yX4_isPattern ∈ zw_tb := zw_tb_of (List.mem_of_getElem? (i := 398) (by decide +kernel)) rfl
theorem lkX3_50 : Cond.methodLink RX3 50 yX7_copyFrom ∈ zw_tb := zw_tb_of (List.mem_of_getElem? (i := 401) (by decide +kernel)) rfl
theorem lkX3_54 : Cond.methodLink RX3 54 yX7_spotOf ∈ zw_tb := zw_tb_of (List.mem_of_getElem? (i := 405) (by decide +kernel)) rfl
theorem lkX3_58 : Cond.methodLink RX3 58 yX7_stepAt ∈ zw_tb := zw_tb_of (List.mem_of_getElem? (i := 409) (by decide +kernel)) rfl
theorem lkX7_62 : Cond.methodLink RX7 62 yX7_becomeLeaf ∈ zw_tb := zw_tb_of (List.mem_of_getElem? (i := 413) (by decide +kernel)) rfl
theorem lkX7_65 : Cond.methodLink RX7 65 yX4_goalOf ∈ zw_tb := zw_tb_of (List.mem_of_getElem? (i := 417) (by decide +kernel)) rfl
theorem lkX7_68 : Cond.methodLink RX7 68 yX7_rebuild ∈ zw_tb := zw_tb_of (List.mem_of_getElem? (i := 421) (by decide +kernel)) rfl
theorem lkX7_71 : Cond.methodLink RX7 71 yX4_sideOf ∈ zw_tb := zw_tb_of (List.mem_of_getElem? (i := 425) (by decide +kernel)) rfl
theorem lkX7_47 : Cond.methodLink RX7 47 yX7_putFigure ∈ zw_tb := zw_tb_of (List.mem_of_getElem? (i := 428) (by decide +kernel)) rfl
theorem lkX3_61 : Cond.methodLink RX3 61 yX7_makePlain ∈ zw_tb := zw_tb_of (List.mem_of_getElem? (i := 432) (by decide +kernel)) rfl
theorem lkX7_74 : Cond.methodLink RX7 74 yX7_spotOf ∈ zw_tb := zw_tb_of (List.mem_of_getElem? (i := 436) (by decide +kernel)) rfl
theorem lkX7_78 : Cond.methodLink RX7 78 yX7_stepAt ∈ zw_tb := zw_tb_of (List.mem_of_getElem? (i := 437) (by decide +kernel)) rfl
theorem lkX3_64 : Cond.methodLink RX3 64 yX7_equalTo ∈ zw_tb := zw_tb_of (List.mem_of_getElem? (i := 438) (by decide +kernel)) rfl
theorem lkX7_40 : Cond.methodLink RX7 40 yX7_codeNow ∈ zw_tb := zw_tb_of (List.mem_of_getElem? (i := 442) (by decide +kernel)) rfl
theorem lkX3_68 : Cond.methodLink RX3 68 yJ9_min_7cf53 ∈ zw_tb := zw_tb_of (List.mem_of_getElem? (i := 443) (by decide +kernel)) rfl
theorem lkX8_124 : Cond.methodLink RX8 124 yX4_isOwnDual ∈ zw_tb := zw_tb_of (List.mem_of_getElem? (i := 444) (by decide +kernel)) rfl
theorem lkX4_45 : Cond.methodLink RX4 45 yX4_dualFate ∈ zw_tb := zw_tb_of (List.mem_of_getElem? (i := 448) (by decide +kernel)) rfl
theorem lkX4_32 : Cond.methodLink RX4 32 yX4_fateOf ∈ zw_tb := zw_tb_of (List.mem_of_getElem? (i := 452) (by decide +kernel)) rfl
theorem lkX4_28 : Cond.methodLink RX4 28 yX4_makerOf ∈ zw_tb := zw_tb_of (List.mem_of_getElem? (i := 453) (by decide +kernel)) rfl
theorem lkX4_39 : Cond.methodLink RX4 39 yX4_sideOf ∈ zw_tb := zw_tb_of (List.mem_of_getElem? (i := 457) (by decide +kernel)) rfl
theorem lkX4_42 : Cond.methodLink RX4 42 yX4_goalOf ∈ zw_tb := zw_tb_of (List.mem_of_getElem? (i := 458) (by decide +kernel)) rfl
theorem lkX8_130 : Cond.methodLink RX8 130 yX0_firstWrong ∈ zw_tb := zw_tb_of (List.mem_of_getElem? (i := 459) (by decide +kernel)) rfl
theorem lkX0_22 : Cond.methodLink RX0 22 yX6_has ∈ zw_tb := zw_tb_of (List.mem_of_getElem? (i := 463) (by decide +kernel)) rfl
theorem lkX0_28 : Cond.methodLink RX0 28 yX6_codeOf ∈ zw_tb := zw_tb_of (List.mem_of_getElem? (i := 464) (by decide +kernel)) rfl
theorem lkL_31 : Cond.methodLink RL 31 yX8_tree ∈ zw_tb := zw_tb_of (List.mem_of_getElem? (i := 468) (by decide +kernel)) rfl
theorem lkX8_135 : Cond.methodLink RX8 135 yX6_has ∈ zw_tb := zw_tb_of (List.mem_of_getElem? (i := 472) (by decide +kernel)) rfl
theorem kcX8_139 : Cond.constant RX8 139 (-1000000001) ∈ zw_tb := zw_tb_of (List.mem_of_getElem? (i := 473) (by decide +kernel)) rfl
theorem lkX8_140 : Cond.methodLink RX8 140 yX6_lend ∈ zw_tb := zw_tb_of (List.mem_of_getElem? (i := 474) (by decide +kernel)) rfl
theorem lkX6_33 : Cond.methodLink RX6 33 yX6_codeOf ∈ zw_tb := zw_tb_of (List.mem_of_getElem? (i := 478) (by decide +kernel)) rfl
theorem lkX6_37 : Cond.methodLink RX6 37 yX6_signOf ∈ zw_tb := zw_tb_of (List.mem_of_getElem? (i := 479) (by decide +kernel)) rfl
theorem lkX6_40 : Cond.methodLink RX6 40 yX7_readCode ∈ zw_tb := zw_tb_of (List.mem_of_getElem? (i := 483) (by decide +kernel)) rfl
theorem lkX8_144 : Cond.methodLink RX8 144 yX7_codeNow ∈ zw_tb := zw_tb_of (List.mem_of_getElem? (i := 484) (by decide +kernel)) rfl
theorem lkX8_150 : Cond.methodLink RX8 150 yX7_nodes ∈ zw_tb := zw_tb_of (List.mem_of_getElem? (i := 485) (by decide +kernel)) rfl
theorem lkX8_153 : Cond.methodLink RX8 153 yX7_places ∈ zw_tb := zw_tb_of (List.mem_of_getElem? (i := 489) (by decide +kernel)) rfl
theorem lkX8_157 : Cond.methodLink RX8 157 yX8_madePlain ∈ zw_tb := zw_tb_of (List.mem_of_getElem? (i := 490) (by decide +kernel)) rfl
theorem lkX8_167 : Cond.methodLink RX8 167 yX7_makePlain ∈ zw_tb := zw_tb_of (List.mem_of_getElem? (i := 494) (by decide +kernel)) rfl
theorem lkX8_160 : Cond.methodLink RX8 160 yX7_mirrorOf ∈ zw_tb := zw_tb_of (List.mem_of_getElem? (i := 495) (by decide +kernel)) rfl
theorem lkX7_91 : Cond.methodLink RX7 91 yX7_copyFrom ∈ zw_tb := zw_tb_of (List.mem_of_getElem? (i := 499) (by decide +kernel)) rfl
theorem lkX7_82 : Cond.methodLink RX7 82 yX7_handDown ∈ zw_tb := zw_tb_of (List.mem_of_getElem? (i := 500) (by decide +kernel)) rfl
theorem lkX7_43 : Cond.methodLink RX7 43 yX7_isNode ∈ zw_tb := zw_tb_of (List.mem_of_getElem? (i := 504) (by decide +kernel)) rfl
theorem lkX8_164 : Cond.methodLink RX8 164 yX7_height ∈ zw_tb := zw_tb_of (List.mem_of_getElem? (i := 508) (by decide +kernel)) rfl
theorem lkX7_85 : Cond.methodLink RX7 85 yJ9_max_7cf53 ∈ zw_tb := zw_tb_of (List.mem_of_getElem? (i := 512) (by decide +kernel)) rfl
theorem lkL_36 : Cond.methodLink RL 36 yX8_pattern ∈ zw_tb := zw_tb_of (List.mem_of_getElem? (i := 515) (by decide +kernel)) rfl
theorem lkX8_170 : Cond.methodLink RX8 170 yX4_isPattern ∈ zw_tb := zw_tb_of (List.mem_of_getElem? (i := 519) (by decide +kernel)) rfl
theorem lkX8_173 : Cond.methodLink RX8 173 yX4_fateOf ∈ zw_tb := zw_tb_of (List.mem_of_getElem? (i := 520) (by decide +kernel)) rfl
theorem lkX8_176 : Cond.methodLink RX8 176 yX4_goalOf ∈ zw_tb := zw_tb_of (List.mem_of_getElem? (i := 521) (by decide +kernel)) rfl
theorem lkX8_179 : Cond.methodLink RX8 179 yX4_makerOf ∈ zw_tb := zw_tb_of (List.mem_of_getElem? (i := 522) (by decide +kernel)) rfl
theorem lkL_40 : Cond.methodLink RL 40 yX8_same ∈ zw_tb := zw_tb_of (List.mem_of_getElem? (i := 523) (by decide +kernel)) rfl
theorem lkX8_182 : Cond.methodLink RX8 182 yX7_equalTo ∈ zw_tb := zw_tb_of (List.mem_of_getElem? (i := 527) (by decide +kernel)) rfl
theorem lkL_44 : Cond.methodLink RL 44 yX8_count ∈ zw_tb := zw_tb_of (List.mem_of_getElem? (i := 528) (by decide +kernel)) rfl
theorem lkX8_186 : Cond.methodLink RX8 186 yX5_covers ∈ zw_tb := zw_tb_of (List.mem_of_getElem? (i := 532) (by decide +kernel)) rfl
theorem kcX8_189 : Cond.constantLong RX8 189 (-1000000002) ∈ zw_tb := zw_tb_of (List.mem_of_getElem? (i := 535) (by decide +kernel)) rfl
theorem lkX8_191 : Cond.methodLink RX8 191 yX5_countTrees ∈ zw_tb := zw_tb_of (List.mem_of_getElem? (i := 536) (by decide +kernel)) rfl
theorem lkX5_26 : Cond.methodLink RX5 26 yX5_countRooted ∈ zw_tb := zw_tb_of (List.mem_of_getElem? (i := 540) (by decide +kernel)) rfl
theorem lkX5_30 : Cond.methodLink RX5 30 yX5_countBranches ∈ zw_tb := zw_tb_of (List.mem_of_getElem? (i := 544) (by decide +kernel)) rfl
theorem lkX5_34 : Cond.methodLink RX5 34 yX4_fateOf ∈ zw_tb := zw_tb_of (List.mem_of_getElem? (i := 548) (by decide +kernel)) rfl
theorem lkL_49 : Cond.methodLink RL 49 yX8_undoneBy ∈ zw_tb := zw_tb_of (List.mem_of_getElem? (i := 549) (by decide +kernel)) rfl
theorem lkX8_198 : Cond.methodLink RX8 198 yX5_undoTrees ∈ zw_tb := zw_tb_of (List.mem_of_getElem? (i := 553) (by decide +kernel)) rfl
theorem lkX5_40 : Cond.methodLink RX5 40 yJ7_fill_d0a16 ∈ zw_tb := zw_tb_of (List.mem_of_getElem? (i := 557) (by decide +kernel)) rfl
theorem lkX5_46 : Cond.methodLink RX5 46 arraycopyName ∈ zw_tb := zw_tb_of (List.mem_of_getElem? (i := 560) (by decide +kernel)) rfl
theorem lkX5_52 : Cond.methodLink RX5 52 yX5_raisePower ∈ zw_tb := zw_tb_of (List.mem_of_getElem? (i := 563) (by decide +kernel)) rfl
theorem lkL_53 : Cond.methodLink RL 53 yX8_graft ∈ zw_tb := zw_tb_of (List.mem_of_getElem? (i := 567) (by decide +kernel)) rfl
theorem lkX8_204 : Cond.methodLink RX8 204 yX7_leafAt ∈ zw_tb := zw_tb_of (List.mem_of_getElem? (i := 571) (by decide +kernel)) rfl
theorem lkX8_207 : Cond.methodLink RX8 207 yX7_hasRoomFor ∈ zw_tb := zw_tb_of (List.mem_of_getElem? (i := 575) (by decide +kernel)) rfl
theorem lkX7_36 : Cond.methodLink RX7 36 yX7_nodes ∈ zw_tb := zw_tb_of (List.mem_of_getElem? (i := 579) (by decide +kernel)) rfl
theorem kcX8_210 : Cond.constant RX8 210 (-1000000003) ∈ zw_tb := zw_tb_of (List.mem_of_getElem? (i := 580) (by decide +kernel)) rfl
theorem lkX8_211 : Cond.methodLink RX8 211 yX7_graftAt ∈ zw_tb := zw_tb_of (List.mem_of_getElem? (i := 581) (by decide +kernel)) rfl
theorem lkL_58 : Cond.methodLink RL 58 yX8_step ∈ zw_tb := zw_tb_of (List.mem_of_getElem? (i := 585) (by decide +kernel)) rfl
theorem lkX8_214 : Cond.methodLink RX8 214 yX7_spotOf ∈ zw_tb := zw_tb_of (List.mem_of_getElem? (i := 589) (by decide +kernel)) rfl
theorem lkX8_218 : Cond.methodLink RX8 218 yX7_stepAt ∈ zw_tb := zw_tb_of (List.mem_of_getElem? (i := 590) (by decide +kernel)) rfl
theorem lkX8_222 : Cond.methodLink RX8 222 yX6_put ∈ zw_tb := zw_tb_of (List.mem_of_getElem? (i := 591) (by decide +kernel)) rfl
theorem lkL_62 : Cond.methodLink RL 62 yX8_plain ∈ zw_tb := zw_tb_of (List.mem_of_getElem? (i := 592) (by decide +kernel)) rfl
theorem lkL_66 : Cond.methodLink RL 66 yX8_mirror ∈ zw_tb := zw_tb_of (List.mem_of_getElem? (i := 596) (by decide +kernel)) rfl
theorem lkX8_225 : Cond.methodLink RX8 225 yX6_codeOf ∈ zw_tb := zw_tb_of (List.mem_of_getElem? (i := 600) (by decide +kernel)) rfl
theorem lkL_70 : Cond.methodLink RL 70 yX8_take ∈ zw_tb := zw_tb_of (List.mem_of_getElem? (i := 601) (by decide +kernel)) rfl
theorem lkX8_228 : Cond.methodLink RX8 228 yX6_remove ∈ zw_tb := zw_tb_of (List.mem_of_getElem? (i := 605) (by decide +kernel)) rfl
theorem lkL_74 : Cond.methodLink RL 74 yX8_fate ∈ zw_tb := zw_tb_of (List.mem_of_getElem? (i := 609) (by decide +kernel)) rfl
theorem lkX8_231 : Cond.methodLink RX8 231 yX4_allows ∈ zw_tb := zw_tb_of (List.mem_of_getElem? (i := 613) (by decide +kernel)) rfl
theorem lkX8_235 : Cond.methodLink RX8 235 yX4_put ∈ zw_tb := zw_tb_of (List.mem_of_getElem? (i := 617) (by decide +kernel)) rfl
theorem lkL_78 : Cond.methodLink RL 78 yX8_dual ∈ zw_tb := zw_tb_of (List.mem_of_getElem? (i := 621) (by decide +kernel)) rfl
theorem lkX8_238 : Cond.methodLink RX8 238 yX4_turnDual ∈ zw_tb := zw_tb_of (List.mem_of_getElem? (i := 625) (by decide +kernel)) rfl
theorem lkL_82 : Cond.methodLink RL 82 yX8_clear ∈ zw_tb := zw_tb_of (List.mem_of_getElem? (i := 629) (by decide +kernel)) rfl
theorem lkX8_241 : Cond.methodLink RX8 241 yX4_bound ∈ zw_tb := zw_tb_of (List.mem_of_getElem? (i := 633) (by decide +kernel)) rfl
theorem lkX8_244 : Cond.methodLink RX8 244 yX4_release ∈ zw_tb := zw_tb_of (List.mem_of_getElem? (i := 637) (by decide +kernel)) rfl
theorem lkX4_35 : Cond.methodLink RX4 35 yX4_put ∈ zw_tb := zw_tb_of (List.mem_of_getElem? (i := 641) (by decide +kernel)) rfl
theorem lkL_86 : Cond.methodLink RL 86 yX8_drift ∈ zw_tb := zw_tb_of (List.mem_of_getElem? (i := 642) (by decide +kernel)) rfl
theorem lkX8_247 : Cond.methodLink RX8 247 yX8_drawTree ∈ zw_tb := zw_tb_of (List.mem_of_getElem? (i := 646) (by decide +kernel)) rfl
theorem lkX8_250 : Cond.methodLink RX8 250 yX8_draw ∈ zw_tb := zw_tb_of (List.mem_of_getElem? (i := 650) (by decide +kernel)) rfl
theorem kcX8_259 : Cond.constantLong RX8 259 (1103515245) ∈ zw_tb := zw_tb_of (List.mem_of_getElem? (i := 654) (by decide +kernel)) rfl
theorem kcX8_261 : Cond.constantLong RX8 261 (12345) ∈ zw_tb := zw_tb_of (List.mem_of_getElem? (i := 655) (by decide +kernel)) rfl
theorem kcX8_263 : Cond.constantLong RX8 263 (2147483647) ∈ zw_tb := zw_tb_of (List.mem_of_getElem? (i := 656) (by decide +kernel)) rfl
theorem lkX8_253 : Cond.methodLink RX8 253 yX7_becomeNode ∈ zw_tb := zw_tb_of (List.mem_of_getElem? (i := 657) (by decide +kernel)) rfl
theorem lkX8_256 : Cond.methodLink RX8 256 yX7_leaves ∈ zw_tb := zw_tb_of (List.mem_of_getElem? (i := 661) (by decide +kernel)) rfl
theorem lkL_90 : Cond.methodLink RL 90 yX8_undo ∈ zw_tb := zw_tb_of (List.mem_of_getElem? (i := 665) (by decide +kernel)) rfl
theorem lkX8_265 : Cond.methodLink RX8 265 yX1_rewind ∈ zw_tb := zw_tb_of (List.mem_of_getElem? (i := 669) (by decide +kernel)) rfl
theorem lkX1_39 : Cond.methodLink RX1 39 yJ9_floorMod_7cf53 ∈ zw_tb := zw_tb_of (List.mem_of_getElem? (i := 673) (by decide +kernel)) rfl
theorem lkX1_42 : Cond.methodLink RX1 42 yJ9_max_7cf53 ∈ zw_tb := zw_tb_of (List.mem_of_getElem? (i := 676) (by decide +kernel)) rfl
theorem lkL_94 : Cond.methodLink RL 94 yX8_write ∈ zw_tb := zw_tb_of (List.mem_of_getElem? (i := 677) (by decide +kernel)) rfl
theorem lkX8_269 : Cond.methodLink RX8 269 yX0_isFull ∈ zw_tb := zw_tb_of (List.mem_of_getElem? (i := 681) (by decide +kernel)) rfl
theorem lkX8_270 : Cond.methodLink RX8 270 yX0_add ∈ zw_tb := zw_tb_of (List.mem_of_getElem? (i := 685) (by decide +kernel)) rfl
theorem lkL_98 : Cond.methodLink RL 98 yX8_tear ∈ zw_tb := zw_tb_of (List.mem_of_getElem? (i := 689) (by decide +kernel)) rfl
theorem lkL_102 : Cond.methodLink RL 102 yX8_seed ∈ zw_tb := zw_tb_of (List.mem_of_getElem? (i := 693) (by decide +kernel)) rfl
theorem lkL_106 : Cond.methodLink RL 106 yX8_keep ∈ zw_tb := zw_tb_of (List.mem_of_getElem? (i := 697) (by decide +kernel)) rfl
theorem lkX8_273 : Cond.methodLink RX8 273 yX8_imageAt ∈ zw_tb := zw_tb_of (List.mem_of_getElem? (i := 701) (by decide +kernel)) rfl
theorem lkX8_280 : Cond.methodLink RX8 280 yX6_copyFrom ∈ zw_tb := zw_tb_of (List.mem_of_getElem? (i := 705) (by decide +kernel)) rfl
theorem lkX8_290 : Cond.methodLink RX8 290 yX1_forget ∈ zw_tb := zw_tb_of (List.mem_of_getElem? (i := 706) (by decide +kernel)) rfl
theorem lkL_110 : Cond.methodLink RL 110 yX8_goBack ∈ zw_tb := zw_tb_of (List.mem_of_getElem? (i := 710) (by decide +kernel)) rfl
theorem lkL_48 : Cond.methodLink RL 48 yX9_count ∈ zw_tb := zw_tb_of (List.mem_of_getElem? (i := 787) (by decide +kernel)) rfl
theorem lkX9_54 : Cond.methodLink RX9 54 yX9_in ∈ zw_tb := zw_tb_of (List.mem_of_getElem? (i := 791) (by decide +kernel)) rfl
theorem kcX9_137 : Cond.constantLong RX9 137 (-1000000002) ∈ zw_tb := zw_tb_of (List.mem_of_getElem? (i := 794) (by decide +kernel)) rfl
theorem lkX9_127 : Cond.methodLink RX9 127 yX9_countPlains ∈ zw_tb := zw_tb_of (List.mem_of_getElem? (i := 795) (by decide +kernel)) rfl
theorem lkX9_123 : Cond.methodLink RX9 123 yX9_mayStand ∈ zw_tb := zw_tb_of (List.mem_of_getElem? (i := 799) (by decide +kernel)) rfl
theorem lkX9_133 : Cond.methodLink RX9 133 yX9_plainOf ∈ zw_tb := zw_tb_of (List.mem_of_getElem? (i := 803) (by decide +kernel)) rfl
theorem lkL_52 : Cond.methodLink RL 52 yX9_undoneBy ∈ zw_tb := zw_tb_of (List.mem_of_getElem? (i := 807) (by decide +kernel)) rfl
theorem lkX9_139 : Cond.methodLink RX9 139 yX9_undoSeries ∈ zw_tb := zw_tb_of (List.mem_of_getElem? (i := 811) (by decide +kernel)) rfl
theorem lkX9_130 : Cond.methodLink RX9 130 yX9_powerUp ∈ zw_tb := zw_tb_of (List.mem_of_getElem? (i := 815) (by decide +kernel)) rfl
theorem lkL_17 : Cond.methodLink RL 17 yX9_feed ∈ zw_tb := zw_tb_of (List.mem_of_getElem? (i := 819) (by decide +kernel)) rfl
theorem kcX9_148 : Cond.constant RX9 148 (-1000000002) ∈ zw_tb := zw_tb_of (List.mem_of_getElem? (i := 823) (by decide +kernel)) rfl
theorem kcX9_152 : Cond.constant RX9 152 (-1000000004) ∈ zw_tb := zw_tb_of (List.mem_of_getElem? (i := 824) (by decide +kernel)) rfl
theorem lkL_22 : Cond.methodLink RL 22 yX9_tell ∈ zw_tb := zw_tb_of (List.mem_of_getElem? (i := 825) (by decide +kernel)) rfl
theorem lkX9_153 : Cond.methodLink RX9 153 yX9_read ∈ zw_tb := zw_tb_of (List.mem_of_getElem? (i := 829) (by decide +kernel)) rfl
theorem lkX9_156 : Cond.methodLink RX9 156 yX9_remember ∈ zw_tb := zw_tb_of (List.mem_of_getElem? (i := 833) (by decide +kernel)) rfl
theorem lkX9_208 : Cond.methodLink RX9 208 yX9_copyRow ∈ zw_tb := zw_tb_of (List.mem_of_getElem? (i := 837) (by decide +kernel)) rfl
theorem lkX9_159 : Cond.methodLink RX9 159 yX9_shelve ∈ zw_tb := zw_tb_of (List.mem_of_getElem? (i := 841) (by decide +kernel)) rfl
theorem lkX9_211 : Cond.methodLink RX9 211 yX9_lay ∈ zw_tb := zw_tb_of (List.mem_of_getElem? (i := 845) (by decide +kernel)) rfl
theorem lkX9_117 : Cond.methodLink RX9 117 yX9_code ∈ zw_tb := zw_tb_of (List.mem_of_getElem? (i := 849) (by decide +kernel)) rfl
theorem lkL_26 : Cond.methodLink RL 26 yX9_fault ∈ zw_tb := zw_tb_of (List.mem_of_getElem? (i := 853) (by decide +kernel)) rfl
theorem lkL_30 : Cond.methodLink RL 30 yX9_told ∈ zw_tb := zw_tb_of (List.mem_of_getElem? (i := 857) (by decide +kernel)) rfl
theorem lkX9_168 : Cond.methodLink RX9 168 yX9_criticals ∈ zw_tb := zw_tb_of (List.mem_of_getElem? (i := 861) (by decide +kernel)) rfl
theorem lkX9_110 : Cond.methodLink RX9 110 yX9_isCritical ∈ zw_tb := zw_tb_of (List.mem_of_getElem? (i := 865) (by decide +kernel)) rfl
theorem lkX9_64 : Cond.methodLink RX9 64 yX9_open ∈ zw_tb := zw_tb_of (List.mem_of_getElem? (i := 869) (by decide +kernel)) rfl
theorem lkX9_102 : Cond.methodLink RX9 102 yX9_isTreeWord ∈ zw_tb := zw_tb_of (List.mem_of_getElem? (i := 873) (by decide +kernel)) rfl
theorem lkX9_106 : Cond.methodLink RX9 106 yX9_places ∈ zw_tb := zw_tb_of (List.mem_of_getElem? (i := 877) (by decide +kernel)) rfl
theorem lkX9_79 : Cond.methodLink RX9 79 yX9_isPlace ∈ zw_tb := zw_tb_of (List.mem_of_getElem? (i := 881) (by decide +kernel)) rfl
theorem lkX9_76 : Cond.methodLink RX9 76 yX9_patternAt ∈ zw_tb := zw_tb_of (List.mem_of_getElem? (i := 885) (by decide +kernel)) rfl
theorem lkX9_72 : Cond.methodLink RX9 72 yX9_branchOf ∈ zw_tb := zw_tb_of (List.mem_of_getElem? (i := 889) (by decide +kernel)) rfl
theorem lkX9_68 : Cond.methodLink RX9 68 yX9_behind ∈ zw_tb := zw_tb_of (List.mem_of_getElem? (i := 893) (by decide +kernel)) rfl
theorem lkX9_171 : Cond.methodLink RX9 171 yX9_bads ∈ zw_tb := zw_tb_of (List.mem_of_getElem? (i := 897) (by decide +kernel)) rfl
theorem lkX9_120 : Cond.methodLink RX9 120 yX9_isBad ∈ zw_tb := zw_tb_of (List.mem_of_getElem? (i := 901) (by decide +kernel)) rfl
theorem lkX9_96 : Cond.methodLink RX9 96 yX9_placeAt ∈ zw_tb := zw_tb_of (List.mem_of_getElem? (i := 905) (by decide +kernel)) rfl
theorem lkX9_99 : Cond.methodLink RX9 99 yX9_stepAt ∈ zw_tb := zw_tb_of (List.mem_of_getElem? (i := 909) (by decide +kernel)) rfl
theorem lkX9_86 : Cond.methodLink RX9 86 yX9_copyOther ∈ zw_tb := zw_tb_of (List.mem_of_getElem? (i := 913) (by decide +kernel)) rfl
theorem lkX9_89 : Cond.methodLink RX9 89 yX9_addOther ∈ zw_tb := zw_tb_of (List.mem_of_getElem? (i := 917) (by decide +kernel)) rfl
theorem lkX9_93 : Cond.methodLink RX9 93 yX9_takeOther ∈ zw_tb := zw_tb_of (List.mem_of_getElem? (i := 921) (by decide +kernel)) rfl
theorem lkX9_114 : Cond.methodLink RX9 114 yX9_makePlain ∈ zw_tb := zw_tb_of (List.mem_of_getElem? (i := 925) (by decide +kernel)) rfl
theorem lkX9_174 : Cond.methodLink RX9 174 yX9_firstBad ∈ zw_tb := zw_tb_of (List.mem_of_getElem? (i := 929) (by decide +kernel)) rfl
theorem lkX9_177 : Cond.methodLink RX9 177 yX9_isOwnDual ∈ zw_tb := zw_tb_of (List.mem_of_getElem? (i := 933) (by decide +kernel)) rfl
theorem lkX9_145 : Cond.methodLink RX9 145 yX9_dualOf ∈ zw_tb := zw_tb_of (List.mem_of_getElem? (i := 937) (by decide +kernel)) rfl
theorem lkX9_142 : Cond.methodLink RX9 142 yX9_comesFrom ∈ zw_tb := zw_tb_of (List.mem_of_getElem? (i := 941) (by decide +kernel)) rfl
theorem lkX9_180 : Cond.methodLink RX9 180 yX9_wrongEntry ∈ zw_tb := zw_tb_of (List.mem_of_getElem? (i := 945) (by decide +kernel)) rfl
theorem lkX9_165 : Cond.methodLink RX9 165 yX9_isTree ∈ zw_tb := zw_tb_of (List.mem_of_getElem? (i := 949) (by decide +kernel)) rfl
theorem lkL_35 : Cond.methodLink RL 35 yX9_tree ∈ zw_tb := zw_tb_of (List.mem_of_getElem? (i := 953) (by decide +kernel)) rfl
theorem kcX9_189 : Cond.constant RX9 189 (-1000000001) ∈ zw_tb := zw_tb_of (List.mem_of_getElem? (i := 957) (by decide +kernel)) rfl
theorem lkX9_190 : Cond.methodLink RX9 190 yX9_openTree ∈ zw_tb := zw_tb_of (List.mem_of_getElem? (i := 958) (by decide +kernel)) rfl
theorem lkX9_193 : Cond.methodLink RX9 193 yX9_nodes ∈ zw_tb := zw_tb_of (List.mem_of_getElem? (i := 962) (by decide +kernel)) rfl
theorem lkX9_196 : Cond.methodLink RX9 196 yX9_ofPlain ∈ zw_tb := zw_tb_of (List.mem_of_getElem? (i := 966) (by decide +kernel)) rfl
theorem lkX9_199 : Cond.methodLink RX9 199 yX9_turnedCode ∈ zw_tb := zw_tb_of (List.mem_of_getElem? (i := 970) (by decide +kernel)) rfl
theorem lkX9_186 : Cond.methodLink RX9 186 yX9_turn ∈ zw_tb := zw_tb_of (List.mem_of_getElem? (i := 974) (by decide +kernel)) rfl
theorem lkX9_202 : Cond.methodLink RX9 202 yX9_height ∈ zw_tb := zw_tb_of (List.mem_of_getElem? (i := 978) (by decide +kernel)) rfl
theorem lkL_39 : Cond.methodLink RL 39 yX9_pattern ∈ zw_tb := zw_tb_of (List.mem_of_getElem? (i := 982) (by decide +kernel)) rfl
theorem lkX9_205 : Cond.methodLink RX9 205 yX9_isPattern ∈ zw_tb := zw_tb_of (List.mem_of_getElem? (i := 986) (by decide +kernel)) rfl
theorem lkL_43 : Cond.methodLink RL 43 yX9_same ∈ zw_tb := zw_tb_of (List.mem_of_getElem? (i := 990) (by decide +kernel)) rfl
theorem lkL_57 : Cond.methodLink RL 57 yX9_graft ∈ zw_tb := zw_tb_of (List.mem_of_getElem? (i := 994) (by decide +kernel)) rfl
theorem lkX9_214 : Cond.methodLink RX9 214 yX9_leafAt ∈ zw_tb := zw_tb_of (List.mem_of_getElem? (i := 998) (by decide +kernel)) rfl
theorem kcX9_217 : Cond.constant RX9 217 (-1000000003) ∈ zw_tb := zw_tb_of (List.mem_of_getElem? (i := 1002) (by decide +kernel)) rfl
theorem lkL_61 : Cond.methodLink RL 61 yX9_step ∈ zw_tb := zw_tb_of (List.mem_of_getElem? (i := 1003) (by decide +kernel)) rfl
theorem lkL_65 : Cond.methodLink RL 65 yX9_plain ∈ zw_tb := zw_tb_of (List.mem_of_getElem? (i := 1007) (by decide +kernel)) rfl
theorem lkL_69 : Cond.methodLink RL 69 yX9_mirror ∈ zw_tb := zw_tb_of (List.mem_of_getElem? (i := 1011) (by decide +kernel)) rfl
theorem lkL_73 : Cond.methodLink RL 73 yX9_take ∈ zw_tb := zw_tb_of (List.mem_of_getElem? (i := 1015) (by decide +kernel)) rfl
theorem lkL_77 : Cond.methodLink RL 77 yX9_fate ∈ zw_tb := zw_tb_of (List.mem_of_getElem? (i := 1019) (by decide +kernel)) rfl
theorem lkX9_218 : Cond.methodLink RX9 218 yX9_mayBecome ∈ zw_tb := zw_tb_of (List.mem_of_getElem? (i := 1023) (by decide +kernel)) rfl
theorem lkL_81 : Cond.methodLink RL 81 yX9_dual ∈ zw_tb := zw_tb_of (List.mem_of_getElem? (i := 1027) (by decide +kernel)) rfl
theorem lkL_85 : Cond.methodLink RL 85 yX9_clear ∈ zw_tb := zw_tb_of (List.mem_of_getElem? (i := 1031) (by decide +kernel)) rfl
theorem lkL_89 : Cond.methodLink RL 89 yX9_drift ∈ zw_tb := zw_tb_of (List.mem_of_getElem? (i := 1035) (by decide +kernel)) rfl
theorem lkX9_237 : Cond.methodLink RX9 237 yX9_chance ∈ zw_tb := zw_tb_of (List.mem_of_getElem? (i := 1039) (by decide +kernel)) rfl
theorem lkX9_231 : Cond.methodLink RX9 231 yX9_draw ∈ zw_tb := zw_tb_of (List.mem_of_getElem? (i := 1043) (by decide +kernel)) rfl
theorem kcX9_224 : Cond.constantLong RX9 224 (1103515245) ∈ zw_tb := zw_tb_of (List.mem_of_getElem? (i := 1047) (by decide +kernel)) rfl
theorem kcX9_226 : Cond.constantLong RX9 226 (12345) ∈ zw_tb := zw_tb_of (List.mem_of_getElem? (i := 1048) (by decide +kernel)) rfl
theorem kcX9_228 : Cond.constantLong RX9 228 (2147483648) ∈ zw_tb := zw_tb_of (List.mem_of_getElem? (i := 1049) (by decide +kernel)) rfl
theorem kcX9_230 : Cond.constant RX9 230 (65536) ∈ zw_tb := zw_tb_of (List.mem_of_getElem? (i := 1050) (by decide +kernel)) rfl
theorem lkX9_234 : Cond.methodLink RX9 234 yX9_put ∈ zw_tb := zw_tb_of (List.mem_of_getElem? (i := 1051) (by decide +kernel)) rfl
theorem lkL_93 : Cond.methodLink RL 93 yX9_undo ∈ zw_tb := zw_tb_of (List.mem_of_getElem? (i := 1055) (by decide +kernel)) rfl
theorem lkL_97 : Cond.methodLink RL 97 yX9_write ∈ zw_tb := zw_tb_of (List.mem_of_getElem? (i := 1059) (by decide +kernel)) rfl
theorem lkL_101 : Cond.methodLink RL 101 yX9_tear ∈ zw_tb := zw_tb_of (List.mem_of_getElem? (i := 1063) (by decide +kernel)) rfl
theorem lkL_105 : Cond.methodLink RL 105 yX9_seed ∈ zw_tb := zw_tb_of (List.mem_of_getElem? (i := 1067) (by decide +kernel)) rfl
theorem lkL_109 : Cond.methodLink RL 109 yX9_keep ∈ zw_tb := zw_tb_of (List.mem_of_getElem? (i := 1071) (by decide +kernel)) rfl
theorem lkL_113 : Cond.methodLink RL 113 yX9_goBack ∈ zw_tb := zw_tb_of (List.mem_of_getElem? (i := 1075) (by decide +kernel)) rfl
theorem iw0 : ∀ w ∈ u_ws RX0 TX0 3, w ∈ zw_tb := by
  have e : u_ws RX0 TX0 3 = ([150, 152, 154] : List Nat).filterMap (fun i => lw_tbl[i]?) := by decide +kernel
  have g : (u_ws RX0 TX0 3).all goodWord = true := by decide +kernel
  intro w hw
  refine zw_tb_of ?_ (List.all_eq_true.mp g w hw)
  rw [e] at hw
  obtain ⟨i, -, hi⟩ := List.mem_filterMap.mp hw
  exact List.mem_of_getElem? hi
theorem iw1 : ∀ w ∈ u_ws RX1 TX1 3, w ∈ zw_tb := by
  have e : u_ws RX1 TX1 3 = ([131, 133, 135] : List Nat).filterMap (fun i => lw_tbl[i]?) := by decide +kernel
  have g : (u_ws RX1 TX1 3).all goodWord = true := by decide +kernel
  intro w hw
  refine zw_tb_of ?_ (List.all_eq_true.mp g w hw)
  rw [e] at hw
  obtain ⟨i, -, hi⟩ := List.mem_filterMap.mp hw
  exact List.mem_of_getElem? hi
theorem iw2 : ∀ w ∈ u_ws RX2 TX2 3, w ∈ zw_tb := by
  have e : u_ws RX2 TX2 3 = ([242, 244, 246] : List Nat).filterMap (fun i => lw_tbl[i]?) := by decide +kernel
  have g : (u_ws RX2 TX2 3).all goodWord = true := by decide +kernel
  intro w hw
  refine zw_tb_of ?_ (List.all_eq_true.mp g w hw)
  rw [e] at hw
  obtain ⟨i, -, hi⟩ := List.mem_filterMap.mp hw
  exact List.mem_of_getElem? hi
theorem iw3 : ∀ w ∈ u_ws RX3 TX3 5, w ∈ zw_tb := by
  have e : u_ws RX3 TX3 5 = ([192, 194, 196, 198, 200] : List Nat).filterMap (fun i => lw_tbl[i]?) := by decide +kernel
  have g : (u_ws RX3 TX3 5).all goodWord = true := by decide +kernel
  intro w hw
  refine zw_tb_of ?_ (List.all_eq_true.mp g w hw)
  rw [e] at hw
  obtain ⟨i, -, hi⟩ := List.mem_filterMap.mp hw
  exact List.mem_of_getElem? hi
theorem iw4 : ∀ w ∈ u_ws RX4 TX4 2, w ∈ zw_tb := by
  have e : u_ws RX4 TX4 2 = ([97, 99] : List Nat).filterMap (fun i => lw_tbl[i]?) := by decide +kernel
  have g : (u_ws RX4 TX4 2).all goodWord = true := by decide +kernel
  intro w hw
  refine zw_tb_of ?_ (List.all_eq_true.mp g w hw)
  rw [e] at hw
  obtain ⟨i, -, hi⟩ := List.mem_filterMap.mp hw
  exact List.mem_of_getElem? hi
theorem iw5 : ∀ w ∈ u_ws RX5 TX5 4, w ∈ zw_tb := by
  have e : u_ws RX5 TX5 4 = ([217, 219, 221, 223] : List Nat).filterMap (fun i => lw_tbl[i]?) := by decide +kernel
  have g : (u_ws RX5 TX5 4).all goodWord = true := by decide +kernel
  intro w hw
  refine zw_tb_of ?_ (List.all_eq_true.mp g w hw)
  rw [e] at hw
  obtain ⟨i, -, hi⟩ := List.mem_filterMap.mp hw
  exact List.mem_of_getElem? hi
theorem iw6 : ∀ w ∈ u_ws RX6 TX6 4, w ∈ zw_tb := by
  have e : u_ws RX6 TX6 4 = ([109, 111, 113, 115] : List Nat).filterMap (fun i => lw_tbl[i]?) := by decide +kernel
  have g : (u_ws RX6 TX6 4).all goodWord = true := by decide +kernel
  intro w hw
  refine zw_tb_of ?_ (List.all_eq_true.mp g w hw)
  rw [e] at hw
  obtain ⟨i, -, hi⟩ := List.mem_filterMap.mp hw
  exact List.mem_of_getElem? hi
theorem iw7 : ∀ w ∈ u_ws RX7 TX7 4, w ∈ zw_tb := by
  have e : u_ws RX7 TX7 4 = ([175, 177, 179, 181] : List Nat).filterMap (fun i => lw_tbl[i]?) := by decide +kernel
  have g : (u_ws RX7 TX7 4).all goodWord = true := by decide +kernel
  intro w hw
  refine zw_tb_of ?_ (List.all_eq_true.mp g w hw)
  rw [e] at hw
  obtain ⟨i, -, hi⟩ := List.mem_filterMap.mp hw
  exact List.mem_of_getElem? hi
theorem iw8 : ∀ w ∈ u_ws RX8 TX8 12, w ∈ zw_tb := by
  have e : u_ws RX8 TX8 12 = ([261, 263, 265, 267, 269, 271, 273, 275, 277, 279, 281, 283] : List Nat).filterMap (fun i => lw_tbl[i]?) := by decide +kernel
  have g : (u_ws RX8 TX8 12).all goodWord = true := by decide +kernel
  intro w hw
  refine zw_tb_of ?_ (List.all_eq_true.mp g w hw)
  rw [e] at hw
  obtain ⟨i, -, hi⟩ := List.mem_filterMap.mp hw
  exact List.mem_of_getElem? hi
theorem iw9 : ∀ w ∈ u_ws RX9 TX9 22, w ∈ zw_tb := by
  have e : u_ws RX9 TX9 22 = ([742, 744, 746, 748, 750, 752, 754, 756, 758, 760, 762, 764, 766, 768, 770, 772, 774, 776, 778, 780, 782, 784] : List Nat).filterMap (fun i => lw_tbl[i]?) := by decide +kernel
  have g : (u_ws RX9 TX9 22).all goodWord = true := by decide +kernel
  intro w hw
  refine zw_tb_of ?_ (List.all_eq_true.mp g w hw)
  rw [e] at hw
  obtain ⟨i, -, hi⟩ := List.mem_filterMap.mp hw
  exact List.mem_of_getElem? hi
theorem flX4_9 : zw_FL RX4 9 4 0 := ⟨RX4, TX4, 2, rfl, iw4, by decide, by decide, Or.inl (zw_tb_of (List.mem_of_getElem? (i := 95) (by decide +kernel)) rfl)⟩
theorem flX4_15 : zw_FL RX4 15 4 1 := ⟨RX4, TX4, 2, rfl, iw4, by decide, by decide, Or.inl (zw_tb_of (List.mem_of_getElem? (i := 96) (by decide +kernel)) rfl)⟩
theorem flX6_12 : zw_FL RX6 12 6 0 := ⟨RX6, TX6, 4, rfl, iw6, by decide, by decide, Or.inl (zw_tb_of (List.mem_of_getElem? (i := 103) (by decide +kernel)) rfl)⟩
theorem flX8_104 : zw_FL RX8 104 6 0 := ⟨RX6, TX6, 4, rfl, iw6, by decide, by decide, Or.inr ⟨"GraftRules", List.mem_of_getElem? (i := 104) (by decide +kernel)⟩⟩
theorem flX6_18 : zw_FL RX6 18 6 1 := ⟨RX6, TX6, 4, rfl, iw6, by decide, by decide, Or.inl (zw_tb_of (List.mem_of_getElem? (i := 105) (by decide +kernel)) rfl)⟩
theorem flX6_22 : zw_FL RX6 22 6 2 := ⟨RX6, TX6, 4, rfl, iw6, by decide, by decide, Or.inl (zw_tb_of (List.mem_of_getElem? (i := 106) (by decide +kernel)) rfl)⟩
theorem flX6_25 : zw_FL RX6 25 6 3 := ⟨RX6, TX6, 4, rfl, iw6, by decide, by decide, Or.inl (zw_tb_of (List.mem_of_getElem? (i := 107) (by decide +kernel)) rfl)⟩
theorem flX8_112 : zw_FL RX8 112 6 3 := ⟨RX6, TX6, 4, rfl, iw6, by decide, by decide, Or.inr ⟨"GraftRules", List.mem_of_getElem? (i := 108) (by decide +kernel)⟩⟩
theorem flX1_11 : zw_FL RX1 11 1 0 := ⟨RX1, TX1, 3, rfl, iw1, by decide, by decide, Or.inl (zw_tb_of (List.mem_of_getElem? (i := 127) (by decide +kernel)) rfl)⟩
theorem flX1_17 : zw_FL RX1 17 1 1 := ⟨RX1, TX1, 3, rfl, iw1, by decide, by decide, Or.inl (zw_tb_of (List.mem_of_getElem? (i := 128) (by decide +kernel)) rfl)⟩
theorem flX1_21 : zw_FL RX1 21 1 2 := ⟨RX1, TX1, 3, rfl, iw1, by decide, by decide, Or.inl (zw_tb_of (List.mem_of_getElem? (i := 129) (by decide +kernel)) rfl)⟩
theorem flX8_134 : zw_FL RX8 134 1 2 := ⟨RX1, TX1, 3, rfl, iw1, by decide, by decide, Or.inr ⟨"GraftRules", List.mem_of_getElem? (i := 130) (by decide +kernel)⟩⟩
theorem flX0_9 : zw_FL RX0 9 0 0 := ⟨RX0, TX0, 3, rfl, iw0, by decide, by decide, Or.inl (zw_tb_of (List.mem_of_getElem? (i := 146) (by decide +kernel)) rfl)⟩
theorem flX0_15 : zw_FL RX0 15 0 1 := ⟨RX0, TX0, 3, rfl, iw0, by decide, by decide, Or.inl (zw_tb_of (List.mem_of_getElem? (i := 147) (by decide +kernel)) rfl)⟩
theorem flX0_18 : zw_FL RX0 18 0 2 := ⟨RX0, TX0, 3, rfl, iw0, by decide, by decide, Or.inl (zw_tb_of (List.mem_of_getElem? (i := 148) (by decide +kernel)) rfl)⟩
theorem flX8_129 : zw_FL RX8 129 0 2 := ⟨RX0, TX0, 3, rfl, iw0, by decide, by decide, Or.inr ⟨"GraftRules", List.mem_of_getElem? (i := 149) (by decide +kernel)⟩⟩
theorem flX7_9 : zw_FL RX7 9 7 0 := ⟨RX7, TX7, 4, rfl, iw7, by decide, by decide, Or.inl (zw_tb_of (List.mem_of_getElem? (i := 169) (by decide +kernel)) rfl)⟩
theorem flX7_15 : zw_FL RX7 15 7 1 := ⟨RX7, TX7, 4, rfl, iw7, by decide, by decide, Or.inl (zw_tb_of (List.mem_of_getElem? (i := 170) (by decide +kernel)) rfl)⟩
theorem flX7_18 : zw_FL RX7 18 7 2 := ⟨RX7, TX7, 4, rfl, iw7, by decide, by decide, Or.inl (zw_tb_of (List.mem_of_getElem? (i := 171) (by decide +kernel)) rfl)⟩
theorem flX7_22 : zw_FL RX7 22 7 3 := ⟨RX7, TX7, 4, rfl, iw7, by decide, by decide, Or.inl (zw_tb_of (List.mem_of_getElem? (i := 172) (by decide +kernel)) rfl)⟩
theorem flX6_50 : zw_FL RX6 50 7 3 := ⟨RX7, TX7, 4, rfl, iw7, by decide, by decide, Or.inr ⟨"GraftRules", List.mem_of_getElem? (i := 173) (by decide +kernel)⟩⟩
theorem flX8_147 : zw_FL RX8 147 7 3 := ⟨RX7, TX7, 4, rfl, iw7, by decide, by decide, Or.inr ⟨"GraftRules", List.mem_of_getElem? (i := 174) (by decide +kernel)⟩⟩
theorem flX3_12 : zw_FL RX3 12 3 0 := ⟨RX3, TX3, 5, rfl, iw3, by decide, by decide, Or.inl (zw_tb_of (List.mem_of_getElem? (i := 184) (by decide +kernel)) rfl)⟩
theorem flX3_18 : zw_FL RX3 18 3 1 := ⟨RX3, TX3, 5, rfl, iw3, by decide, by decide, Or.inl (zw_tb_of (List.mem_of_getElem? (i := 185) (by decide +kernel)) rfl)⟩
theorem flX3_21 : zw_FL RX3 21 3 2 := ⟨RX3, TX3, 5, rfl, iw3, by decide, by decide, Or.inl (zw_tb_of (List.mem_of_getElem? (i := 186) (by decide +kernel)) rfl)⟩
theorem flX8_115 : zw_FL RX8 115 3 2 := ⟨RX3, TX3, 5, rfl, iw3, by decide, by decide, Or.inr ⟨"GraftRules", List.mem_of_getElem? (i := 187) (by decide +kernel)⟩⟩
theorem flX3_25 : zw_FL RX3 25 3 3 := ⟨RX3, TX3, 5, rfl, iw3, by decide, by decide, Or.inl (zw_tb_of (List.mem_of_getElem? (i := 188) (by decide +kernel)) rfl)⟩
theorem flX8_118 : zw_FL RX8 118 3 3 := ⟨RX3, TX3, 5, rfl, iw3, by decide, by decide, Or.inr ⟨"GraftRules", List.mem_of_getElem? (i := 189) (by decide +kernel)⟩⟩
theorem flX3_28 : zw_FL RX3 28 3 4 := ⟨RX3, TX3, 5, rfl, iw3, by decide, by decide, Or.inl (zw_tb_of (List.mem_of_getElem? (i := 190) (by decide +kernel)) rfl)⟩
theorem flX8_121 : zw_FL RX8 121 3 4 := ⟨RX3, TX3, 5, rfl, iw3, by decide, by decide, Or.inr ⟨"GraftRules", List.mem_of_getElem? (i := 191) (by decide +kernel)⟩⟩
theorem flX5_9 : zw_FL RX5 9 5 0 := ⟨RX5, TX5, 4, rfl, iw5, by decide, by decide, Or.inl (zw_tb_of (List.mem_of_getElem? (i := 211) (by decide +kernel)) rfl)⟩
theorem flX8_194 : zw_FL RX8 194 5 0 := ⟨RX5, TX5, 4, rfl, iw5, by decide, by decide, Or.inr ⟨"GraftRules", List.mem_of_getElem? (i := 212) (by decide +kernel)⟩⟩
theorem flX5_17 : zw_FL RX5 17 5 1 := ⟨RX5, TX5, 4, rfl, iw5, by decide, by decide, Or.inl (zw_tb_of (List.mem_of_getElem? (i := 213) (by decide +kernel)) rfl)⟩
theorem flX5_20 : zw_FL RX5 20 5 2 := ⟨RX5, TX5, 4, rfl, iw5, by decide, by decide, Or.inl (zw_tb_of (List.mem_of_getElem? (i := 214) (by decide +kernel)) rfl)⟩
theorem flX8_201 : zw_FL RX8 201 5 2 := ⟨RX5, TX5, 4, rfl, iw5, by decide, by decide, Or.inr ⟨"GraftRules", List.mem_of_getElem? (i := 215) (by decide +kernel)⟩⟩
theorem flX5_23 : zw_FL RX5 23 5 3 := ⟨RX5, TX5, 4, rfl, iw5, by decide, by decide, Or.inl (zw_tb_of (List.mem_of_getElem? (i := 216) (by decide +kernel)) rfl)⟩
theorem flX2_10 : zw_FL RX2 10 2 0 := ⟨RX2, TX2, 3, rfl, iw2, by decide, by decide, Or.inl (zw_tb_of (List.mem_of_getElem? (i := 236) (by decide +kernel)) rfl)⟩
theorem flX8_277 : zw_FL RX8 277 2 0 := ⟨RX2, TX2, 3, rfl, iw2, by decide, by decide, Or.inr ⟨"GraftRules", List.mem_of_getElem? (i := 237) (by decide +kernel)⟩⟩
theorem flX2_16 : zw_FL RX2 16 2 1 := ⟨RX2, TX2, 3, rfl, iw2, by decide, by decide, Or.inl (zw_tb_of (List.mem_of_getElem? (i := 238) (by decide +kernel)) rfl)⟩
theorem flX8_283 : zw_FL RX8 283 2 1 := ⟨RX2, TX2, 3, rfl, iw2, by decide, by decide, Or.inr ⟨"GraftRules", List.mem_of_getElem? (i := 239) (by decide +kernel)⟩⟩
theorem flX2_20 : zw_FL RX2 20 2 2 := ⟨RX2, TX2, 3, rfl, iw2, by decide, by decide, Or.inl (zw_tb_of (List.mem_of_getElem? (i := 240) (by decide +kernel)) rfl)⟩
theorem flX8_286 : zw_FL RX8 286 2 2 := ⟨RX2, TX2, 3, rfl, iw2, by decide, by decide, Or.inr ⟨"GraftRules", List.mem_of_getElem? (i := 241) (by decide +kernel)⟩⟩
theorem flX8_12 : zw_FL RX8 12 8 0 := ⟨RX8, TX8, 12, rfl, iw8, by decide, by decide, Or.inl (zw_tb_of (List.mem_of_getElem? (i := 249) (by decide +kernel)) rfl)⟩
theorem flX8_19 : zw_FL RX8 19 8 1 := ⟨RX8, TX8, 12, rfl, iw8, by decide, by decide, Or.inl (zw_tb_of (List.mem_of_getElem? (i := 250) (by decide +kernel)) rfl)⟩
theorem flX8_25 : zw_FL RX8 25 8 2 := ⟨RX8, TX8, 12, rfl, iw8, by decide, by decide, Or.inl (zw_tb_of (List.mem_of_getElem? (i := 251) (by decide +kernel)) rfl)⟩
theorem flX8_32 : zw_FL RX8 32 8 3 := ⟨RX8, TX8, 12, rfl, iw8, by decide, by decide, Or.inl (zw_tb_of (List.mem_of_getElem? (i := 252) (by decide +kernel)) rfl)⟩
theorem flX8_39 : zw_FL RX8 39 8 4 := ⟨RX8, TX8, 12, rfl, iw8, by decide, by decide, Or.inl (zw_tb_of (List.mem_of_getElem? (i := 253) (by decide +kernel)) rfl)⟩
theorem flX8_46 : zw_FL RX8 46 8 5 := ⟨RX8, TX8, 12, rfl, iw8, by decide, by decide, Or.inl (zw_tb_of (List.mem_of_getElem? (i := 254) (by decide +kernel)) rfl)⟩
theorem flX8_53 : zw_FL RX8 53 8 6 := ⟨RX8, TX8, 12, rfl, iw8, by decide, by decide, Or.inl (zw_tb_of (List.mem_of_getElem? (i := 255) (by decide +kernel)) rfl)⟩
theorem flX8_57 : zw_FL RX8 57 8 7 := ⟨RX8, TX8, 12, rfl, iw8, by decide, by decide, Or.inl (zw_tb_of (List.mem_of_getElem? (i := 256) (by decide +kernel)) rfl)⟩
theorem flX8_60 : zw_FL RX8 60 8 8 := ⟨RX8, TX8, 12, rfl, iw8, by decide, by decide, Or.inl (zw_tb_of (List.mem_of_getElem? (i := 257) (by decide +kernel)) rfl)⟩
theorem flX8_64 : zw_FL RX8 64 8 9 := ⟨RX8, TX8, 12, rfl, iw8, by decide, by decide, Or.inl (zw_tb_of (List.mem_of_getElem? (i := 258) (by decide +kernel)) rfl)⟩
theorem flX8_68 : zw_FL RX8 68 8 10 := ⟨RX8, TX8, 12, rfl, iw8, by decide, by decide, Or.inl (zw_tb_of (List.mem_of_getElem? (i := 259) (by decide +kernel)) rfl)⟩
theorem flX8_71 : zw_FL RX8 71 8 11 := ⟨RX8, TX8, 12, rfl, iw8, by decide, by decide, Or.inl (zw_tb_of (List.mem_of_getElem? (i := 260) (by decide +kernel)) rfl)⟩
theorem gsX3_31 : Cond.fieldLinkNest RX3 31 "GraftRules" "SECOND_WEIGHT" "[I" "GraftRules" ∈ lw_tbl := List.mem_of_getElem? (i := 368) (by decide +kernel)
theorem gsX3_35 : Cond.fieldLinkNest RX3 35 "GraftRules" "THIRD_WEIGHT" "[I" "GraftRules" ∈ lw_tbl := List.mem_of_getElem? (i := 370) (by decide +kernel)
theorem flX9_7 : zw_FL RX9 7 9 0 := ⟨RX9, TX9, 22, rfl, iw9, by decide, by decide, Or.inl (zw_tb_of (List.mem_of_getElem? (i := 720) (by decide +kernel)) rfl)⟩
theorem flX9_183 : zw_FL RX9 183 9 1 := ⟨RX9, TX9, 22, rfl, iw9, by decide, by decide, Or.inl (zw_tb_of (List.mem_of_getElem? (i := 721) (by decide +kernel)) rfl)⟩
theorem flX9_240 : zw_FL RX9 240 9 2 := ⟨RX9, TX9, 22, rfl, iw9, by decide, by decide, Or.inl (zw_tb_of (List.mem_of_getElem? (i := 722) (by decide +kernel)) rfl)⟩
theorem flX9_221 : zw_FL RX9 221 9 3 := ⟨RX9, TX9, 22, rfl, iw9, by decide, by decide, Or.inl (zw_tb_of (List.mem_of_getElem? (i := 723) (by decide +kernel)) rfl)⟩
theorem flX9_13 : zw_FL RX9 13 9 4 := ⟨RX9, TX9, 22, rfl, iw9, by decide, by decide, Or.inl (zw_tb_of (List.mem_of_getElem? (i := 724) (by decide +kernel)) rfl)⟩
theorem flX9_16 : zw_FL RX9 16 9 5 := ⟨RX9, TX9, 22, rfl, iw9, by decide, by decide, Or.inl (zw_tb_of (List.mem_of_getElem? (i := 725) (by decide +kernel)) rfl)⟩
theorem flX9_149 : zw_FL RX9 149 9 6 := ⟨RX9, TX9, 22, rfl, iw9, by decide, by decide, Or.inl (zw_tb_of (List.mem_of_getElem? (i := 726) (by decide +kernel)) rfl)⟩
theorem flX9_19 : zw_FL RX9 19 9 7 := ⟨RX9, TX9, 22, rfl, iw9, by decide, by decide, Or.inl (zw_tb_of (List.mem_of_getElem? (i := 727) (by decide +kernel)) rfl)⟩
theorem flX9_23 : zw_FL RX9 23 9 8 := ⟨RX9, TX9, 22, rfl, iw9, by decide, by decide, Or.inl (zw_tb_of (List.mem_of_getElem? (i := 728) (by decide +kernel)) rfl)⟩
theorem flX9_26 : zw_FL RX9 26 9 9 := ⟨RX9, TX9, 22, rfl, iw9, by decide, by decide, Or.inl (zw_tb_of (List.mem_of_getElem? (i := 729) (by decide +kernel)) rfl)⟩
theorem flX9_162 : zw_FL RX9 162 9 10 := ⟨RX9, TX9, 22, rfl, iw9, by decide, by decide, Or.inl (zw_tb_of (List.mem_of_getElem? (i := 730) (by decide +kernel)) rfl)⟩
theorem flX9_29 : zw_FL RX9 29 9 11 := ⟨RX9, TX9, 22, rfl, iw9, by decide, by decide, Or.inl (zw_tb_of (List.mem_of_getElem? (i := 731) (by decide +kernel)) rfl)⟩
theorem flX9_58 : zw_FL RX9 58 9 12 := ⟨RX9, TX9, 22, rfl, iw9, by decide, by decide, Or.inl (zw_tb_of (List.mem_of_getElem? (i := 732) (by decide +kernel)) rfl)⟩
theorem flX9_61 : zw_FL RX9 61 9 13 := ⟨RX9, TX9, 22, rfl, iw9, by decide, by decide, Or.inl (zw_tb_of (List.mem_of_getElem? (i := 733) (by decide +kernel)) rfl)⟩
theorem flX9_32 : zw_FL RX9 32 9 14 := ⟨RX9, TX9, 22, rfl, iw9, by decide, by decide, Or.inl (zw_tb_of (List.mem_of_getElem? (i := 734) (by decide +kernel)) rfl)⟩
theorem flX9_83 : zw_FL RX9 83 9 15 := ⟨RX9, TX9, 22, rfl, iw9, by decide, by decide, Or.inl (zw_tb_of (List.mem_of_getElem? (i := 735) (by decide +kernel)) rfl)⟩
theorem flX9_35 : zw_FL RX9 35 9 16 := ⟨RX9, TX9, 22, rfl, iw9, by decide, by decide, Or.inl (zw_tb_of (List.mem_of_getElem? (i := 736) (by decide +kernel)) rfl)⟩
theorem flX9_38 : zw_FL RX9 38 9 17 := ⟨RX9, TX9, 22, rfl, iw9, by decide, by decide, Or.inl (zw_tb_of (List.mem_of_getElem? (i := 737) (by decide +kernel)) rfl)⟩
theorem flX9_42 : zw_FL RX9 42 9 18 := ⟨RX9, TX9, 22, rfl, iw9, by decide, by decide, Or.inl (zw_tb_of (List.mem_of_getElem? (i := 738) (by decide +kernel)) rfl)⟩
theorem flX9_45 : zw_FL RX9 45 9 19 := ⟨RX9, TX9, 22, rfl, iw9, by decide, by decide, Or.inl (zw_tb_of (List.mem_of_getElem? (i := 739) (by decide +kernel)) rfl)⟩
theorem flX9_48 : zw_FL RX9 48 9 20 := ⟨RX9, TX9, 22, rfl, iw9, by decide, by decide, Or.inl (zw_tb_of (List.mem_of_getElem? (i := 740) (by decide +kernel)) rfl)⟩
theorem flX9_51 : zw_FL RX9 51 9 21 := ⟨RX9, TX9, 22, rfl, iw9, by decide, by decide, Or.inl (zw_tb_of (List.mem_of_getElem? (i := 741) (by decide +kernel)) rfl)⟩
theorem fp_0_2 : zw_FP 0 2 .int := ⟨RX0, TX0, 3, tyX0, rfl, tyX0_ok, nmX0, rfl, by decide +kernel⟩
theorem fp_1_1 : zw_FP 1 1 .int := ⟨RX1, TX1, 3, tyX1, rfl, tyX1_ok, nmX1, rfl, by decide +kernel⟩
theorem fp_1_2 : zw_FP 1 2 .int := ⟨RX1, TX1, 3, tyX1, rfl, tyX1_ok, nmX1, rfl, by decide +kernel⟩
theorem fp_2_1 : zw_FP 2 1 .int := ⟨RX2, TX2, 3, tyX2, rfl, tyX2_ok, nmX2, rfl, by decide +kernel⟩
theorem fp_2_2 : zw_FP 2 2 .boolean := ⟨RX2, TX2, 3, tyX2, rfl, tyX2_ok, nmX2, rfl, by decide +kernel⟩
theorem fp_3_2 : zw_FP 3 2 .int := ⟨RX3, TX3, 5, tyX3, rfl, tyX3_ok, nmX3, rfl, by decide +kernel⟩
theorem fp_3_3 : zw_FP 3 3 .int := ⟨RX3, TX3, 5, tyX3, rfl, tyX3_ok, nmX3, rfl, by decide +kernel⟩
theorem fp_3_4 : zw_FP 3 4 .int := ⟨RX3, TX3, 5, tyX3, rfl, tyX3_ok, nmX3, rfl, by decide +kernel⟩
theorem fp_6_3 : zw_FP 6 3 .int := ⟨RX6, TX6, 4, tyX6, rfl, tyX6_ok, nmX6, rfl, by decide +kernel⟩
theorem fp_7_2 : zw_FP 7 2 .int := ⟨RX7, TX7, 4, tyX7, rfl, tyX7_ok, nmX7, rfl, by decide +kernel⟩
theorem fp_7_3 : zw_FP 7 3 .int := ⟨RX7, TX7, 4, tyX7, rfl, tyX7_ok, nmX7, rfl, by decide +kernel⟩
theorem fp_8_9 : zw_FP 8 9 .int := ⟨RX8, TX8, 12, tyX8, rfl, tyX8_ok, nmX8, rfl, by decide +kernel⟩
theorem fp_8_10 : zw_FP 8 10 .int := ⟨RX8, TX8, 12, tyX8, rfl, tyX8_ok, nmX8, rfl, by decide +kernel⟩
theorem fp_8_11 : zw_FP 8 11 .int := ⟨RX8, TX8, 12, tyX8, rfl, tyX8_ok, nmX8, rfl, by decide +kernel⟩
theorem fp_9_1 : zw_FP 9 1 .int := ⟨RX9, TX9, 22, tyX9, rfl, tyX9_ok, nmX9, rfl, by decide +kernel⟩
theorem fp_9_2 : zw_FP 9 2 .int := ⟨RX9, TX9, 22, tyX9, rfl, tyX9_ok, nmX9, rfl, by decide +kernel⟩
theorem fp_9_3 : zw_FP 9 3 .int := ⟨RX9, TX9, 22, tyX9, rfl, tyX9_ok, nmX9, rfl, by decide +kernel⟩
theorem fp_9_6 : zw_FP 9 6 .int := ⟨RX9, TX9, 22, tyX9, rfl, tyX9_ok, nmX9, rfl, by decide +kernel⟩
theorem fp_9_7 : zw_FP 9 7 .int := ⟨RX9, TX9, 22, tyX9, rfl, tyX9_ok, nmX9, rfl, by decide +kernel⟩
theorem fp_9_10 : zw_FP 9 10 .int := ⟨RX9, TX9, 22, tyX9, rfl, tyX9_ok, nmX9, rfl, by decide +kernel⟩
theorem fp_9_12 : zw_FP 9 12 .int := ⟨RX9, TX9, 22, tyX9, rfl, tyX9_ok, nmX9, rfl, by decide +kernel⟩
theorem fp_9_13 : zw_FP 9 13 .int := ⟨RX9, TX9, 22, tyX9, rfl, tyX9_ok, nmX9, rfl, by decide +kernel⟩
theorem fp_9_15 : zw_FP 9 15 .int := ⟨RX9, TX9, 22, tyX9, rfl, tyX9_ok, nmX9, rfl, by decide +kernel⟩
theorem kw_arraycopy_nat : Cond.native arraycopyName ∈ zw_tb := zw_tb_of (List.mem_of_getElem? (i := 562) (by decide +kernel)) rfl
theorem kw_arraycopy_st : Cond.static arraycopyName ∈ zw_tb := zw_tb_of (List.mem_of_getElem? (i := 561) (by decide +kernel)) rfl
theorem kw_sys : Cond.initialized "java/lang/System" ∈ zw_tb := zw_tb_of (List.mem_of_getElem? (i := 71) (by decide +kernel)) rfl
