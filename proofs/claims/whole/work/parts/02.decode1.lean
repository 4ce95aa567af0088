theorem dX4_init_0 : decode cX4_init 0 = .ok (.aload_n 0, 1) := by decide +kernel
theorem dX4_init_1 : decode cX4_init 1 = .ok (.invokespecial 3, 3) := by decide +kernel
theorem dX4_init_4 : decode cX4_init 4 = .ok (.aload_n 0, 1) := by decide +kernel
theorem dX4_init_5 : decode cX4_init 5 = .ok (.bipush 8, 2) := by decide +kernel
theorem dX4_init_7 : decode cX4_init 7 = .ok (.newarray .int, 2) := by decide +kernel
theorem dX4_init_9 : decode cX4_init 9 = .ok (.putfield 9, 3) := by decide +kernel
theorem dX4_init_12 : decode cX4_init 12 = .ok (.aload_n 0, 1) := by decide +kernel
theorem dX4_init_13 : decode cX4_init 13 = .ok (.bipush 8, 2) := by decide +kernel
theorem dX4_init_15 : decode cX4_init 15 = .ok (.newarray .int, 2) := by decide +kernel
theorem dX4_init_17 : decode cX4_init 17 = .ok (.putfield 15, 3) := by decide +kernel
theorem dX4_init_20 : decode cX4_init 20 = .ok (.aload_n 0, 1) := by decide +kernel
theorem dX4_init_21 : decode cX4_init 21 = .ok (.getfield 15, 3) := by decide +kernel
theorem dX4_init_24 : decode cX4_init 24 = .ok (.iconst (-1), 1) := by decide +kernel
theorem dX4_init_25 : decode cX4_init 25 = .ok (.invokestatic 18, 3) := by decide +kernel
theorem dX4_init_28 : decode cX4_init 28 = .ok (.return_, 1) := by decide +kernel
theorem dX4_isPattern_0 : decode cX4_isPattern 0 = .ok (.iload_n 0, 1) := by decide +kernel
theorem dX4_isPattern_1 : decode cX4_isPattern 1 = .ok (.ifCond .lt 13, 3) := by decide +kernel
theorem dX4_isPattern_4 : decode cX4_isPattern 4 = .ok (.iload_n 0, 1) := by decide +kernel
theorem dX4_isPattern_5 : decode cX4_isPattern 5 = .ok (.bipush 8, 2) := by decide +kernel
theorem dX4_isPattern_7 : decode cX4_isPattern 7 = .ok (.if_icmp .ge 7, 3) := by decide +kernel
theorem dX4_isPattern_10 : decode cX4_isPattern 10 = .ok (.iconst 1, 1) := by decide +kernel
theorem dX4_isPattern_11 : decode cX4_isPattern 11 = .ok (.goto 4, 3) := by decide +kernel
theorem dX4_isPattern_14 : decode cX4_isPattern 14 = .ok (.iconst 0, 1) := by decide +kernel
theorem dX4_isPattern_15 : decode cX4_isPattern 15 = .ok (.ireturn, 1) := by decide +kernel
theorem dX4_sideOf_0 : decode cX4_sideOf 0 = .ok (.iload_n 0, 1) := by decide +kernel
theorem dX4_sideOf_1 : decode cX4_sideOf 1 = .ok (.iconst 1, 1) := by decide +kernel
theorem dX4_sideOf_2 : decode cX4_sideOf 2 = .ok (.iand, 1) := by decide +kernel
theorem dX4_sideOf_3 : decode cX4_sideOf 3 = .ok (.ireturn, 1) := by decide +kernel
theorem dX4_fateOf_0 : decode cX4_fateOf 0 = .ok (.iload_n 1, 1) := by decide +kernel
theorem dX4_fateOf_1 : decode cX4_fateOf 1 = .ok (.invokestatic 24, 3) := by decide +kernel
theorem dX4_fateOf_4 : decode cX4_fateOf 4 = .ok (.ifCond .eq 12, 3) := by decide +kernel
theorem dX4_fateOf_7 : decode cX4_fateOf 7 = .ok (.aload_n 0, 1) := by decide +kernel
theorem dX4_fateOf_8 : decode cX4_fateOf 8 = .ok (.getfield 9, 3) := by decide +kernel
theorem dX4_fateOf_11 : decode cX4_fateOf 11 = .ok (.iload_n 1, 1) := by decide +kernel
theorem dX4_fateOf_12 : decode cX4_fateOf 12 = .ok (.iaload, 1) := by decide +kernel
theorem dX4_fateOf_13 : decode cX4_fateOf 13 = .ok (.goto 4, 3) := by decide +kernel
theorem dX4_fateOf_16 : decode cX4_fateOf 16 = .ok (.iconst 0, 1) := by decide +kernel
theorem dX4_fateOf_17 : decode cX4_fateOf 17 = .ok (.ireturn, 1) := by decide +kernel
theorem dX4_goalOf_0 : decode cX4_goalOf 0 = .ok (.iload_n 1, 1) := by decide +kernel
theorem dX4_goalOf_1 : decode cX4_goalOf 1 = .ok (.invokestatic 24, 3) := by decide +kernel
theorem dX4_goalOf_4 : decode cX4_goalOf 4 = .ok (.ifCond .eq 12, 3) := by decide +kernel
theorem dX4_goalOf_7 : decode cX4_goalOf 7 = .ok (.aload_n 0, 1) := by decide +kernel
theorem dX4_goalOf_8 : decode cX4_goalOf 8 = .ok (.getfield 15, 3) := by decide +kernel
theorem dX4_goalOf_11 : decode cX4_goalOf 11 = .ok (.iload_n 1, 1) := by decide +kernel
theorem dX4_goalOf_12 : decode cX4_goalOf 12 = .ok (.iaload, 1) := by decide +kernel
theorem dX4_goalOf_13 : decode cX4_goalOf 13 = .ok (.goto 4, 3) := by decide +kernel
theorem dX4_goalOf_16 : decode cX4_goalOf 16 = .ok (.iconst (-1), 1) := by decide +kernel
theorem dX4_goalOf_17 : decode cX4_goalOf 17 = .ok (.ireturn, 1) := by decide +kernel
theorem dX4_makerOf_0 : decode cX4_makerOf 0 = .ok (.iconst 0, 1) := by decide +kernel
theorem dX4_makerOf_1 : decode cX4_makerOf 1 = .ok (.istore_n 2, 1) := by decide +kernel
theorem dX4_makerOf_2 : decode cX4_makerOf 2 = .ok (.iload_n 2, 1) := by decide +kernel
theorem dX4_makerOf_3 : decode cX4_makerOf 3 = .ok (.bipush 8, 2) := by decide +kernel
theorem dX4_makerOf_5 : decode cX4_makerOf 5 = .ok (.if_icmp .ge 28, 3) := by decide +kernel
theorem dX4_makerOf_8 : decode cX4_makerOf 8 = .ok (.iload_n 1, 1) := by decide +kernel
theorem dX4_makerOf_9 : decode cX4_makerOf 9 = .ok (.invokestatic 24, 3) := by decide +kernel
theorem dX4_makerOf_12 : decode cX4_makerOf 12 = .ok (.ifCond .eq 15, 3) := by decide +kernel
theorem dX4_makerOf_15 : decode cX4_makerOf 15 = .ok (.aload_n 0, 1) := by decide +kernel
theorem dX4_makerOf_16 : decode cX4_makerOf 16 = .ok (.getfield 15, 3) := by decide +kernel
theorem dX4_makerOf_19 : decode cX4_makerOf 19 = .ok (.iload_n 2, 1) := by decide +kernel
theorem dX4_makerOf_20 : decode cX4_makerOf 20 = .ok (.iaload, 1) := by decide +kernel
theorem dX4_makerOf_21 : decode cX4_makerOf 21 = .ok (.iload_n 1, 1) := by decide +kernel
theorem dX4_makerOf_22 : decode cX4_makerOf 22 = .ok (.if_icmp .ne 5, 3) := by decide +kernel
theorem dX4_makerOf_25 : decode cX4_makerOf 25 = .ok (.iload_n 2, 1) := by decide +kernel
theorem dX4_makerOf_26 : decode cX4_makerOf 26 = .ok (.ireturn, 1) := by decide +kernel
theorem dX4_makerOf_27 : decode cX4_makerOf 27 = .ok (.iinc 2 1, 3) := by decide +kernel
theorem dX4_makerOf_30 : decode cX4_makerOf 30 = .ok (.goto (-28), 3) := by decide +kernel
theorem dX4_makerOf_33 : decode cX4_makerOf 33 = .ok (.iconst (-1), 1) := by decide +kernel
theorem dX4_makerOf_34 : decode cX4_makerOf 34 = .ok (.ireturn, 1) := by decide +kernel
theorem dX4_put_0 : decode cX4_put 0 = .ok (.iload_n 1, 1) := by decide +kernel
theorem dX4_put_1 : decode cX4_put 1 = .ok (.invokestatic 24, 3) := by decide +kernel
theorem dX4_put_4 : decode cX4_put 4 = .ok (.ifCond .eq 26, 3) := by decide +kernel
theorem dX4_put_7 : decode cX4_put 7 = .ok (.aload_n 0, 1) := by decide +kernel
theorem dX4_put_8 : decode cX4_put 8 = .ok (.getfield 9, 3) := by decide +kernel
theorem dX4_put_11 : decode cX4_put 11 = .ok (.iload_n 1, 1) := by decide +kernel
theorem dX4_put_12 : decode cX4_put 12 = .ok (.iload_n 2, 1) := by decide +kernel
theorem dX4_put_13 : decode cX4_put 13 = .ok (.iastore, 1) := by decide +kernel
theorem dX4_put_14 : decode cX4_put 14 = .ok (.aload_n 0, 1) := by decide +kernel
theorem dX4_put_15 : decode cX4_put 15 = .ok (.getfield 15, 3) := by decide +kernel
theorem dX4_put_18 : decode cX4_put 18 = .ok (.iload_n 1, 1) := by decide +kernel
theorem dX4_put_19 : decode cX4_put 19 = .ok (.iload_n 2, 1) := by decide +kernel
theorem dX4_put_20 : decode cX4_put 20 = .ok (.iconst 2, 1) := by decide +kernel
theorem dX4_put_21 : decode cX4_put 21 = .ok (.if_icmp .lt 7, 3) := by decide +kernel
theorem dX4_put_24 : decode cX4_put 24 = .ok (.iload_n 3, 1) := by decide +kernel
theorem dX4_put_25 : decode cX4_put 25 = .ok (.goto 4, 3) := by decide +kernel
theorem dX4_put_28 : decode cX4_put 28 = .ok (.iconst (-1), 1) := by decide +kernel
theorem dX4_put_29 : decode cX4_put 29 = .ok (.iastore, 1) := by decide +kernel
theorem dX4_put_30 : decode cX4_put 30 = .ok (.return_, 1) := by decide +kernel
theorem dX4_allows_0 : decode cX4_allows 0 = .ok (.iload_n 2, 1) := by decide +kernel
theorem dX4_allows_1 : decode cX4_allows 1 = .ok (.ifCond .ne 5, 3) := by decide +kernel
theorem dX4_allows_4 : decode cX4_allows 4 = .ok (.iconst 1, 1) := by decide +kernel
theorem dX4_allows_5 : decode cX4_allows 5 = .ok (.ireturn, 1) := by decide +kernel
theorem dX4_allows_6 : decode cX4_allows 6 = .ok (.aload_n 0, 1) := by decide +kernel
theorem dX4_allows_7 : decode cX4_allows 7 = .ok (.iload_n 1, 1) := by decide +kernel
theorem dX4_allows_8 : decode cX4_allows 8 = .ok (.invokevirtual 28, 3) := by decide +kernel
theorem dX4_allows_11 : decode cX4_allows 11 = .ok (.iconst (-1), 1) := by decide +kernel
theorem dX4_allows_12 : decode cX4_allows 12 = .ok (.if_icmp .eq 5, 3) := by decide +kernel
theorem dX4_allows_15 : decode cX4_allows 15 = .ok (.iconst 0, 1) := by decide +kernel
theorem dX4_allows_16 : decode cX4_allows 16 = .ok (.ireturn, 1) := by decide +kernel
theorem dX4_allows_17 : decode cX4_allows 17 = .ok (.iload_n 2, 1) := by decide +kernel
theorem dX4_allows_18 : decode cX4_allows 18 = .ok (.iconst 1, 1) := by decide +kernel
theorem dX4_allows_19 : decode cX4_allows 19 = .ok (.if_icmp .ne 5, 3) := by decide +kernel
theorem dX4_allows_22 : decode cX4_allows 22 = .ok (.iconst 1, 1) := by decide +kernel
theorem dX4_allows_23 : decode cX4_allows 23 = .ok (.ireturn, 1) := by decide +kernel
theorem dX4_allows_24 : decode cX4_allows 24 = .ok (.aload_n 0, 1) := by decide +kernel
theorem dX4_allows_25 : decode cX4_allows 25 = .ok (.iload_n 3, 1) := by decide +kernel
theorem dX4_allows_26 : decode cX4_allows 26 = .ok (.invokevirtual 28, 3) := by decide +kernel
theorem dX4_allows_29 : decode cX4_allows 29 = .ok (.istore 4, 2) := by decide +kernel
theorem dX4_allows_31 : decode cX4_allows 31 = .ok (.iload_n 3, 1) := by decide +kernel
theorem dX4_allows_32 : decode cX4_allows 32 = .ok (.iload_n 1, 1) := by decide +kernel
theorem dX4_allows_33 : decode cX4_allows 33 = .ok (.if_icmp .eq 27, 3) := by decide +kernel
theorem dX4_allows_36 : decode cX4_allows 36 = .ok (.aload_n 0, 1) := by decide +kernel
theorem dX4_allows_37 : decode cX4_allows 37 = .ok (.iload_n 3, 1) := by decide +kernel
theorem dX4_allows_38 : decode cX4_allows 38 = .ok (.invokevirtual 32, 3) := by decide +kernel
theorem dX4_allows_41 : decode cX4_allows 41 = .ok (.ifCond .ne 19, 3) := by decide +kernel
theorem dX4_allows_44 : decode cX4_allows 44 = .ok (.iload 4, 2) := by decide +kernel
theorem dX4_allows_46 : decode cX4_allows 46 = .ok (.iconst (-1), 1) := by decide +kernel
theorem dX4_allows_47 : decode cX4_allows 47 = .ok (.if_icmp .eq 9, 3) := by decide +kernel
theorem dX4_allows_50 : decode cX4_allows 50 = .ok (.iload 4, 2) := by decide +kernel
theorem dX4_allows_52 : decode cX4_allows 52 = .ok (.iload_n 1, 1) := by decide +kernel
theorem dX4_allows_53 : decode cX4_allows 53 = .ok (.if_icmp .ne 7, 3) := by decide +kernel
theorem dX4_allows_56 : decode cX4_allows 56 = .ok (.iconst 1, 1) := by decide +kernel
theorem dX4_allows_57 : decode cX4_allows 57 = .ok (.goto 4, 3) := by decide +kernel
theorem dX4_allows_60 : decode cX4_allows 60 = .ok (.iconst 0, 1) := by decide +kernel
theorem dX4_allows_61 : decode cX4_allows 61 = .ok (.ireturn, 1) := by decide +kernel
theorem dX4_bound_0 : decode cX4_bound 0 = .ok (.iconst 0, 1) := by decide +kernel
theorem dX4_bound_1 : decode cX4_bound 1 = .ok (.istore_n 1, 1) := by decide +kernel
theorem dX4_bound_2 : decode cX4_bound 2 = .ok (.iconst 0, 1) := by decide +kernel
theorem dX4_bound_3 : decode cX4_bound 3 = .ok (.istore_n 2, 1) := by decide +kernel
theorem dX4_bound_4 : decode cX4_bound 4 = .ok (.iload_n 2, 1) := by decide +kernel
theorem dX4_bound_5 : decode cX4_bound 5 = .ok (.bipush 8, 2) := by decide +kernel
theorem dX4_bound_7 : decode cX4_bound 7 = .ok (.if_icmp .ge 21, 3) := by decide +kernel
theorem dX4_bound_10 : decode cX4_bound 10 = .ok (.aload_n 0, 1) := by decide +kernel
theorem dX4_bound_11 : decode cX4_bound 11 = .ok (.getfield 9, 3) := by decide +kernel
theorem dX4_bound_14 : decode cX4_bound 14 = .ok (.iload_n 2, 1) := by decide +kernel
theorem dX4_bound_15 : decode cX4_bound 15 = .ok (.iaload, 1) := by decide +kernel
theorem dX4_bound_16 : decode cX4_bound 16 = .ok (.ifCond .eq 6, 3) := by decide +kernel
theorem dX4_bound_19 : decode cX4_bound 19 = .ok (.iinc 1 1, 3) := by decide +kernel
theorem dX4_bound_22 : decode cX4_bound 22 = .ok (.iinc 2 1, 3) := by decide +kernel
theorem dX4_bound_25 : decode cX4_bound 25 = .ok (.goto (-21), 3) := by decide +kernel
theorem dX4_bound_28 : decode cX4_bound 28 = .ok (.iload_n 1, 1) := by decide +kernel
theorem dX4_bound_29 : decode cX4_bound 29 = .ok (.ireturn, 1) := by decide +kernel
theorem dX4_release_0 : decode cX4_release 0 = .ok (.iconst 0, 1) := by decide +kernel
theorem dX4_release_1 : decode cX4_release 1 = .ok (.istore_n 1, 1) := by decide +kernel
theorem dX4_release_2 : decode cX4_release 2 = .ok (.iload_n 1, 1) := by decide +kernel
theorem dX4_release_3 : decode cX4_release 3 = .ok (.bipush 8, 2) := by decide +kernel
theorem dX4_release_5 : decode cX4_release 5 = .ok (.if_icmp .ge 16, 3) := by decide +kernel
theorem dX4_release_8 : decode cX4_release 8 = .ok (.aload_n 0, 1) := by decide +kernel
theorem dX4_release_9 : decode cX4_release 9 = .ok (.iload_n 1, 1) := by decide +kernel
theorem dX4_release_10 : decode cX4_release 10 = .ok (.iconst 0, 1) := by decide +kernel
theorem dX4_release_11 : decode cX4_release 11 = .ok (.iconst (-1), 1) := by decide +kernel
theorem dX4_release_12 : decode cX4_release 12 = .ok (.invokevirtual 35, 3) := by decide +kernel
theorem dX4_release_15 : decode cX4_release 15 = .ok (.iinc 1 1, 3) := by decide +kernel
theorem dX4_release_18 : decode cX4_release 18 = .ok (.goto (-16), 3) := by decide +kernel
theorem dX4_release_21 : decode cX4_release 21 = .ok (.return_, 1) := by decide +kernel
theorem dX4_dualFate_0 : decode cX4_dualFate 0 = .ok (.aload_n 0, 1) := by decide +kernel
theorem dX4_dualFate_1 : decode cX4_dualFate 1 = .ok (.iload_n 1, 1) := by decide +kernel
theorem dX4_dualFate_2 : decode cX4_dualFate 2 = .ok (.invokevirtual 32, 3) := by decide +kernel
theorem dX4_dualFate_5 : decode cX4_dualFate 5 = .ok (.istore_n 2, 1) := by decide +kernel
theorem dX4_dualFate_6 : decode cX4_dualFate 6 = .ok (.iload_n 2, 1) := by decide +kernel
theorem dX4_dualFate_7 : decode cX4_dualFate 7 = .ok (.ifCond .ne 18, 3) := by decide +kernel
theorem dX4_dualFate_10 : decode cX4_dualFate 10 = .ok (.aload_n 0, 1) := by decide +kernel
theorem dX4_dualFate_11 : decode cX4_dualFate 11 = .ok (.iload_n 1, 1) := by decide +kernel
theorem dX4_dualFate_12 : decode cX4_dualFate 12 = .ok (.invokevirtual 28, 3) := by decide +kernel
theorem dX4_dualFate_15 : decode cX4_dualFate 15 = .ok (.iconst (-1), 1) := by decide +kernel
theorem dX4_dualFate_16 : decode cX4_dualFate 16 = .ok (.if_icmp .ne 7, 3) := by decide +kernel
theorem dX4_dualFate_19 : decode cX4_dualFate 19 = .ok (.iconst 1, 1) := by decide +kernel
theorem dX4_dualFate_20 : decode cX4_dualFate 20 = .ok (.goto 4, 3) := by decide +kernel
theorem dX4_dualFate_23 : decode cX4_dualFate 23 = .ok (.iconst 0, 1) := by decide +kernel
theorem dX4_dualFate_24 : decode cX4_dualFate 24 = .ok (.ireturn, 1) := by decide +kernel
theorem dX4_dualFate_25 : decode cX4_dualFate 25 = .ok (.iload_n 2, 1) := by decide +kernel
theorem dX4_dualFate_26 : decode cX4_dualFate 26 = .ok (.iconst 1, 1) := by decide +kernel
theorem dX4_dualFate_27 : decode cX4_dualFate 27 = .ok (.if_icmp .ne 5, 3) := by decide +kernel
theorem dX4_dualFate_30 : decode cX4_dualFate 30 = .ok (.iconst 0, 1) := by decide +kernel
theorem dX4_dualFate_31 : decode cX4_dualFate 31 = .ok (.ireturn, 1) := by decide +kernel
theorem dX4_dualFate_32 : decode cX4_dualFate 32 = .ok (.iload_n 1, 1) := by decide +kernel
theorem dX4_dualFate_33 : decode cX4_dualFate 33 = .ok (.invokestatic 39, 3) := by decide +kernel
theorem dX4_dualFate_36 : decode cX4_dualFate 36 = .ok (.aload_n 0, 1) := by decide +kernel
theorem dX4_dualFate_37 : decode cX4_dualFate 37 = .ok (.iload_n 1, 1) := by decide +kernel
theorem dX4_dualFate_38 : decode cX4_dualFate 38 = .ok (.invokevirtual 42, 3) := by decide +kernel
theorem dX4_dualFate_41 : decode cX4_dualFate 41 = .ok (.invokestatic 39, 3) := by decide +kernel
theorem dX4_dualFate_44 : decode cX4_dualFate 44 = .ok (.if_icmp .eq 5, 3) := by decide +kernel
theorem dX4_dualFate_47 : decode cX4_dualFate 47 = .ok (.iload_n 2, 1) := by decide +kernel
theorem dX4_dualFate_48 : decode cX4_dualFate 48 = .ok (.ireturn, 1) := by decide +kernel
theorem dX4_dualFate_49 : decode cX4_dualFate 49 = .ok (.iload_n 2, 1) := by decide +kernel
theorem dX4_dualFate_50 : decode cX4_dualFate 50 = .ok (.iconst 2, 1) := by decide +kernel
theorem dX4_dualFate_51 : decode cX4_dualFate 51 = .ok (.if_icmp .ne 7, 3) := by decide +kernel
theorem dX4_dualFate_54 : decode cX4_dualFate 54 = .ok (.iconst 3, 1) := by decide +kernel
theorem dX4_dualFate_55 : decode cX4_dualFate 55 = .ok (.goto 4, 3) := by decide +kernel
theorem dX4_dualFate_58 : decode cX4_dualFate 58 = .ok (.iconst 2, 1) := by decide +kernel
theorem dX4_dualFate_59 : decode cX4_dualFate 59 = .ok (.ireturn, 1) := by decide +kernel
theorem dX4_isOwnDual_0 : decode cX4_isOwnDual 0 = .ok (.iconst 0, 1) := by decide +kernel
theorem dX4_isOwnDual_1 : decode cX4_isOwnDual 1 = .ok (.istore_n 1, 1) := by decide +kernel
theorem dX4_isOwnDual_2 : decode cX4_isOwnDual 2 = .ok (.iload_n 1, 1) := by decide +kernel
theorem dX4_isOwnDual_3 : decode cX4_isOwnDual 3 = .ok (.bipush 8, 2) := by decide +kernel
theorem dX4_isOwnDual_5 : decode cX4_isOwnDual 5 = .ok (.if_icmp .ge 25, 3) := by decide +kernel
theorem dX4_isOwnDual_8 : decode cX4_isOwnDual 8 = .ok (.aload_n 0, 1) := by decide +kernel
theorem dX4_isOwnDual_9 : decode cX4_isOwnDual 9 = .ok (.iload_n 1, 1) := by decide +kernel
theorem dX4_isOwnDual_10 : decode cX4_isOwnDual 10 = .ok (.invokevirtual 45, 3) := by decide +kernel
theorem dX4_isOwnDual_13 : decode cX4_isOwnDual 13 = .ok (.aload_n 0, 1) := by decide +kernel
theorem dX4_isOwnDual_14 : decode cX4_isOwnDual 14 = .ok (.getfield 9, 3) := by decide +kernel
theorem dX4_isOwnDual_17 : decode cX4_isOwnDual 17 = .ok (.iload_n 1, 1) := by decide +kernel
theorem dX4_isOwnDual_18 : decode cX4_isOwnDual 18 = .ok (.iaload, 1) := by decide +kernel
theorem dX4_isOwnDual_19 : decode cX4_isOwnDual 19 = .ok (.if_icmp .eq 5, 3) := by decide +kernel
theorem dX4_isOwnDual_22 : decode cX4_isOwnDual 22 = .ok (.iconst 0, 1) := by decide +kernel
theorem dX4_isOwnDual_23 : decode cX4_isOwnDual 23 = .ok (.ireturn, 1) := by decide +kernel
theorem dX4_isOwnDual_24 : decode cX4_isOwnDual 24 = .ok (.iinc 1 1, 3) := by decide +kernel
theorem dX4_isOwnDual_27 : decode cX4_isOwnDual 27 = .ok (.goto (-25), 3) := by decide +kernel
theorem dX4_isOwnDual_30 : decode cX4_isOwnDual 30 = .ok (.iconst 1, 1) := by decide +kernel
theorem dX4_isOwnDual_31 : decode cX4_isOwnDual 31 = .ok (.ireturn, 1) := by decide +kernel
theorem dX4_turnDual_0 : decode cX4_turnDual 0 = .ok (.iconst 0, 1) := by decide +kernel
theorem dX4_turnDual_1 : decode cX4_turnDual 1 = .ok (.istore_n 1, 1) := by decide +kernel
theorem dX4_turnDual_2 : decode cX4_turnDual 2 = .ok (.iload_n 1, 1) := by decide +kernel
theorem dX4_turnDual_3 : decode cX4_turnDual 3 = .ok (.bipush 8, 2) := by decide +kernel
theorem dX4_turnDual_5 : decode cX4_turnDual 5 = .ok (.if_icmp .ge 20, 3) := by decide +kernel
theorem dX4_turnDual_8 : decode cX4_turnDual 8 = .ok (.aload_n 0, 1) := by decide +kernel
theorem dX4_turnDual_9 : decode cX4_turnDual 9 = .ok (.getfield 9, 3) := by decide +kernel
theorem dX4_turnDual_12 : decode cX4_turnDual 12 = .ok (.iload_n 1, 1) := by decide +kernel
theorem dX4_turnDual_13 : decode cX4_turnDual 13 = .ok (.aload_n 0, 1) := by decide +kernel
theorem dX4_turnDual_14 : decode cX4_turnDual 14 = .ok (.iload_n 1, 1) := by decide +kernel
theorem dX4_turnDual_15 : decode cX4_turnDual 15 = .ok (.invokevirtual 45, 3) := by decide +kernel
theorem dX4_turnDual_18 : decode cX4_turnDual 18 = .ok (.iastore, 1) := by decide +kernel
theorem dX4_turnDual_19 : decode cX4_turnDual 19 = .ok (.iinc 1 1, 3) := by decide +kernel
theorem dX4_turnDual_22 : decode cX4_turnDual 22 = .ok (.goto (-20), 3) := by decide +kernel
theorem dX4_turnDual_25 : decode cX4_turnDual 25 = .ok (.return_, 1) := by decide +kernel
theorem dX4_copyFrom_0 : decode cX4_copyFrom 0 = .ok (.iconst 0, 1) := by decide +kernel
theorem dX4_copyFrom_1 : decode cX4_copyFrom 1 = .ok (.istore_n 2, 1) := by decide +kernel
theorem dX4_copyFrom_2 : decode cX4_copyFrom 2 = .ok (.iload_n 2, 1) := by decide +kernel
theorem dX4_copyFrom_3 : decode cX4_copyFrom 3 = .ok (.bipush 8, 2) := by decide +kernel
theorem dX4_copyFrom_5 : decode cX4_copyFrom 5 = .ok (.if_icmp .ge 33, 3) := by decide +kernel
theorem dX4_copyFrom_8 : decode cX4_copyFrom 8 = .ok (.aload_n 0, 1) := by decide +kernel
theorem dX4_copyFrom_9 : decode cX4_copyFrom 9 = .ok (.getfield 9, 3) := by decide +kernel
theorem dX4_copyFrom_12 : decode cX4_copyFrom 12 = .ok (.iload_n 2, 1) := by decide +kernel
theorem dX4_copyFrom_13 : decode cX4_copyFrom 13 = .ok (.aload_n 1, 1) := by decide +kernel
theorem dX4_copyFrom_14 : decode cX4_copyFrom 14 = .ok (.getfield 9, 3) := by decide +kernel
theorem dX4_copyFrom_17 : decode cX4_copyFrom 17 = .ok (.iload_n 2, 1) := by decide +kernel
theorem dX4_copyFrom_18 : decode cX4_copyFrom 18 = .ok (.iaload, 1) := by decide +kernel
theorem dX4_copyFrom_19 : decode cX4_copyFrom 19 = .ok (.iastore, 1) := by decide +kernel
theorem dX4_copyFrom_20 : decode cX4_copyFrom 20 = .ok (.aload_n 0, 1) := by decide +kernel
theorem dX4_copyFrom_21 : decode cX4_copyFrom 21 = .ok (.getfield 15, 3) := by decide +kernel
theorem dX4_copyFrom_24 : decode cX4_copyFrom 24 = .ok (.iload_n 2, 1) := by decide +kernel
theorem dX4_copyFrom_25 : decode cX4_copyFrom 25 = .ok (.aload_n 1, 1) := by decide +kernel
theorem dX4_copyFrom_26 : decode cX4_copyFrom 26 = .ok (.getfield 15, 3) := by decide +kernel
theorem dX4_copyFrom_29 : decode cX4_copyFrom 29 = .ok (.iload_n 2, 1) := by decide +kernel
theorem dX4_copyFrom_30 : decode cX4_copyFrom 30 = .ok (.iaload, 1) := by decide +kernel
theorem dX4_copyFrom_31 : decode cX4_copyFrom 31 = .ok (.iastore, 1) := by decide +kernel
theorem dX4_copyFrom_32 : decode cX4_copyFrom 32 = .ok (.iinc 2 1, 3) := by decide +kernel
theorem dX4_copyFrom_35 : decode cX4_copyFrom 35 = .ok (.goto (-33), 3) := by decide +kernel
theorem dX4_copyFrom_38 : decode cX4_copyFrom 38 = .ok (.return_, 1) := by decide +kernel
theorem dX7_init_0 : decode cX7_init 0 = .ok (.aload_n 0, 1) := by decide +kernel
theorem dX7_init_1 : decode cX7_init 1 = .ok (.invokespecial 3, 3) := by decide +kernel
theorem dX7_init_4 : decode cX7_init 4 = .ok (.aload_n 0, 1) := by decide +kernel
theorem dX7_init_5 : decode cX7_init 5 = .ok (.bipush 13, 2) := by decide +kernel
theorem dX7_init_7 : decode cX7_init 7 = .ok (.newarray .int, 2) := by decide +kernel
theorem dX7_init_9 : decode cX7_init 9 = .ok (.putfield 9, 3) := by decide +kernel
theorem dX7_init_12 : decode cX7_init 12 = .ok (.aload_n 0, 1) := by decide +kernel
theorem dX7_init_13 : decode cX7_init 13 = .ok (.bipush 13, 2) := by decide +kernel
theorem dX7_init_15 : decode cX7_init 15 = .ok (.newarray .int, 2) := by decide +kernel
theorem dX7_init_17 : decode cX7_init 17 = .ok (.putfield 15, 3) := by decide +kernel
theorem dX7_init_20 : decode cX7_init 20 = .ok (.aload_n 0, 1) := by decide +kernel
theorem dX7_init_21 : decode cX7_init 21 = .ok (.iconst 1, 1) := by decide +kernel
theorem dX7_init_22 : decode cX7_init 22 = .ok (.putfield 18, 3) := by decide +kernel
theorem dX7_init_25 : decode cX7_init 25 = .ok (.aload_n 0, 1) := by decide +kernel
theorem dX7_init_26 : decode cX7_init 26 = .ok (.iconst 1, 1) := by decide +kernel
theorem dX7_init_27 : decode cX7_init 27 = .ok (.putfield 22, 3) := by decide +kernel
theorem dX7_init_30 : decode cX7_init 30 = .ok (.return_, 1) := by decide +kernel
theorem dX7_open_0 : decode cX7_open 0 = .ok (.aload_n 0, 1) := by decide +kernel
theorem dX7_open_1 : decode cX7_open 1 = .ok (.iconst 0, 1) := by decide +kernel
theorem dX7_open_2 : decode cX7_open 2 = .ok (.putfield 18, 3) := by decide +kernel
theorem dX7_open_5 : decode cX7_open 5 = .ok (.aload_n 0, 1) := by decide +kernel
theorem dX7_open_6 : decode cX7_open 6 = .ok (.iconst 1, 1) := by decide +kernel
theorem dX7_open_7 : decode cX7_open 7 = .ok (.putfield 22, 3) := by decide +kernel
theorem dX7_open_10 : decode cX7_open 10 = .ok (.return_, 1) := by decide +kernel
theorem dX7_append_0 : decode cX7_append 0 = .ok (.aload_n 0, 1) := by decide +kernel
theorem dX7_append_1 : decode cX7_append 1 = .ok (.getfield 18, 3) := by decide +kernel
theorem dX7_append_4 : decode cX7_append 4 = .ok (.ifCond .lt 32, 3) := by decide +kernel
theorem dX7_append_7 : decode cX7_append 7 = .ok (.aload_n 0, 1) := by decide +kernel
theorem dX7_append_8 : decode cX7_append 8 = .ok (.getfield 18, 3) := by decide +kernel
theorem dX7_append_11 : decode cX7_append 11 = .ok (.bipush 13, 2) := by decide +kernel
theorem dX7_append_13 : decode cX7_append 13 = .ok (.if_icmp .ge 23, 3) := by decide +kernel
theorem dX7_append_16 : decode cX7_append 16 = .ok (.aload_n 0, 1) := by decide +kernel
theorem dX7_append_17 : decode cX7_append 17 = .ok (.getfield 9, 3) := by decide +kernel
theorem dX7_append_20 : decode cX7_append 20 = .ok (.aload_n 0, 1) := by decide +kernel
theorem dX7_append_21 : decode cX7_append 21 = .ok (.getfield 18, 3) := by decide +kernel
theorem dX7_append_24 : decode cX7_append 24 = .ok (.iload_n 1, 1) := by decide +kernel
theorem dX7_append_25 : decode cX7_append 25 = .ok (.iastore, 1) := by decide +kernel
theorem dX7_append_26 : decode cX7_append 26 = .ok (.aload_n 0, 1) := by decide +kernel
theorem dX7_append_27 : decode cX7_append 27 = .ok (.dup, 1) := by decide +kernel
theorem dX7_append_28 : decode cX7_append 28 = .ok (.getfield 18, 3) := by decide +kernel
theorem dX7_append_31 : decode cX7_append 31 = .ok (.iconst 1, 1) := by decide +kernel
theorem dX7_append_32 : decode cX7_append 32 = .ok (.iadd, 1) := by decide +kernel
theorem dX7_append_33 : decode cX7_append 33 = .ok (.putfield 18, 3) := by decide +kernel
theorem dX7_append_36 : decode cX7_append 36 = .ok (.return_, 1) := by decide +kernel
theorem dX7_becomeLeaf_0 : decode cX7_becomeLeaf 0 = .ok (.aload_n 0, 1) := by decide +kernel
theorem dX7_becomeLeaf_1 : decode cX7_becomeLeaf 1 = .ok (.invokevirtual 25, 3) := by decide +kernel
theorem dX7_becomeLeaf_4 : decode cX7_becomeLeaf 4 = .ok (.aload_n 0, 1) := by decide +kernel
theorem dX7_becomeLeaf_5 : decode cX7_becomeLeaf 5 = .ok (.iconst 0, 1) := by decide +kernel
theorem dX7_becomeLeaf_6 : decode cX7_becomeLeaf 6 = .ok (.invokevirtual 28, 3) := by decide +kernel
theorem dX7_becomeLeaf_9 : decode cX7_becomeLeaf 9 = .ok (.aload_n 0, 1) := by decide +kernel
theorem dX7_becomeLeaf_10 : decode cX7_becomeLeaf 10 = .ok (.iload_n 1, 1) := by decide +kernel
theorem dX7_becomeLeaf_11 : decode cX7_becomeLeaf 11 = .ok (.putfield 22, 3) := by decide +kernel
theorem dX7_becomeLeaf_14 : decode cX7_becomeLeaf 14 = .ok (.return_, 1) := by decide +kernel
theorem dX7_becomeNode_0 : decode cX7_becomeNode 0 = .ok (.aload_n 0, 1) := by decide +kernel
theorem dX7_becomeNode_1 : decode cX7_becomeNode 1 = .ok (.invokevirtual 25, 3) := by decide +kernel
theorem dX7_becomeNode_4 : decode cX7_becomeNode 4 = .ok (.aload_n 0, 1) := by decide +kernel
theorem dX7_becomeNode_5 : decode cX7_becomeNode 5 = .ok (.iload_n 1, 1) := by decide +kernel
theorem dX7_becomeNode_6 : decode cX7_becomeNode 6 = .ok (.iconst 1, 1) := by decide +kernel
theorem dX7_becomeNode_7 : decode cX7_becomeNode 7 = .ok (.iadd, 1) := by decide +kernel
theorem dX7_becomeNode_8 : decode cX7_becomeNode 8 = .ok (.invokevirtual 28, 3) := by decide +kernel
theorem dX7_becomeNode_11 : decode cX7_becomeNode 11 = .ok (.aload_n 0, 1) := by decide +kernel
theorem dX7_becomeNode_12 : decode cX7_becomeNode 12 = .ok (.iconst 0, 1) := by decide +kernel
theorem dX7_becomeNode_13 : decode cX7_becomeNode 13 = .ok (.invokevirtual 28, 3) := by decide +kernel
theorem dX7_becomeNode_16 : decode cX7_becomeNode 16 = .ok (.aload_n 0, 1) := by decide +kernel
theorem dX7_becomeNode_17 : decode cX7_becomeNode 17 = .ok (.iconst 0, 1) := by decide +kernel
theorem dX7_becomeNode_18 : decode cX7_becomeNode 18 = .ok (.invokevirtual 28, 3) := by decide +kernel
theorem dX7_becomeNode_21 : decode cX7_becomeNode 21 = .ok (.return_, 1) := by decide +kernel
theorem dX7_copyFrom_0 : decode cX7_copyFrom 0 = .ok (.aload_n 0, 1) := by decide +kernel
theorem dX7_copyFrom_1 : decode cX7_copyFrom 1 = .ok (.invokevirtual 25, 3) := by decide +kernel
theorem dX7_copyFrom_4 : decode cX7_copyFrom 4 = .ok (.iconst 0, 1) := by decide +kernel
theorem dX7_copyFrom_5 : decode cX7_copyFrom 5 = .ok (.istore_n 2, 1) := by decide +kernel
theorem dX7_copyFrom_6 : decode cX7_copyFrom 6 = .ok (.iload_n 2, 1) := by decide +kernel
theorem dX7_copyFrom_7 : decode cX7_copyFrom 7 = .ok (.aload_n 1, 1) := by decide +kernel
theorem dX7_copyFrom_8 : decode cX7_copyFrom 8 = .ok (.getfield 18, 3) := by decide +kernel
theorem dX7_copyFrom_11 : decode cX7_copyFrom 11 = .ok (.if_icmp .ge 18, 3) := by decide +kernel
theorem dX7_copyFrom_14 : decode cX7_copyFrom 14 = .ok (.aload_n 0, 1) := by decide +kernel
theorem dX7_copyFrom_15 : decode cX7_copyFrom 15 = .ok (.aload_n 1, 1) := by decide +kernel
theorem dX7_copyFrom_16 : decode cX7_copyFrom 16 = .ok (.iload_n 2, 1) := by decide +kernel
theorem dX7_copyFrom_17 : decode cX7_copyFrom 17 = .ok (.invokevirtual 32, 3) := by decide +kernel
theorem dX7_copyFrom_20 : decode cX7_copyFrom 20 = .ok (.invokevirtual 28, 3) := by decide +kernel
theorem dX7_copyFrom_23 : decode cX7_copyFrom 23 = .ok (.iinc 2 1, 3) := by decide +kernel
theorem dX7_copyFrom_26 : decode cX7_copyFrom 26 = .ok (.goto (-20), 3) := by decide +kernel
theorem dX7_copyFrom_29 : decode cX7_copyFrom 29 = .ok (.aload_n 0, 1) := by decide +kernel
theorem dX7_copyFrom_30 : decode cX7_copyFrom 30 = .ok (.aload_n 1, 1) := by decide +kernel
theorem dX7_copyFrom_31 : decode cX7_copyFrom 31 = .ok (.getfield 22, 3) := by decide +kernel
theorem dX7_copyFrom_34 : decode cX7_copyFrom 34 = .ok (.putfield 22, 3) := by decide +kernel
theorem dX7_copyFrom_37 : decode cX7_copyFrom 37 = .ok (.return_, 1) := by decide +kernel
theorem dX7_readCode_0 : decode cX7_readCode 0 = .ok (.aload_n 0, 1) := by decide +kernel
theorem dX7_readCode_1 : decode cX7_readCode 1 = .ok (.invokevirtual 25, 3) := by decide +kernel
theorem dX7_readCode_4 : decode cX7_readCode 4 = .ok (.iconst 1, 1) := by decide +kernel
theorem dX7_readCode_5 : decode cX7_readCode 5 = .ok (.istore_n 3, 1) := by decide +kernel
theorem dX7_readCode_6 : decode cX7_readCode 6 = .ok (.iconst 1, 1) := by decide +kernel
theorem dX7_readCode_7 : decode cX7_readCode 7 = .ok (.istore 4, 2) := by decide +kernel
theorem dX7_readCode_9 : decode cX7_readCode 9 = .ok (.iload 4, 2) := by decide +kernel
theorem dX7_readCode_11 : decode cX7_readCode 11 = .ok (.bipush 13, 2) := by decide +kernel
theorem dX7_readCode_13 : decode cX7_readCode 13 = .ok (.if_icmp .ge 20, 3) := by decide +kernel
theorem dX7_readCode_16 : decode cX7_readCode 16 = .ok (.iload_n 3, 1) := by decide +kernel
theorem dX7_readCode_17 : decode cX7_readCode 17 = .ok (.iload_n 1, 1) := by decide +kernel
theorem dX7_readCode_18 : decode cX7_readCode 18 = .ok (.iconst 3, 1) := by decide +kernel
theorem dX7_readCode_19 : decode cX7_readCode 19 = .ok (.idiv, 1) := by decide +kernel
theorem dX7_readCode_20 : decode cX7_readCode 20 = .ok (.if_icmp .gt 13, 3) := by decide +kernel
theorem dX7_readCode_23 : decode cX7_readCode 23 = .ok (.iload_n 3, 1) := by decide +kernel
theorem dX7_readCode_24 : decode cX7_readCode 24 = .ok (.iconst 3, 1) := by decide +kernel
theorem dX7_readCode_25 : decode cX7_readCode 25 = .ok (.imul, 1) := by decide +kernel
theorem dX7_readCode_26 : decode cX7_readCode 26 = .ok (.istore_n 3, 1) := by decide +kernel
theorem dX7_readCode_27 : decode cX7_readCode 27 = .ok (.iinc 4 1, 3) := by decide +kernel
theorem dX7_readCode_30 : decode cX7_readCode 30 = .ok (.goto (-21), 3) := by decide +kernel
theorem dX7_readCode_33 : decode cX7_readCode 33 = .ok (.iconst 0, 1) := by decide +kernel
theorem dX7_readCode_34 : decode cX7_readCode 34 = .ok (.istore 4, 2) := by decide +kernel
theorem dX7_readCode_36 : decode cX7_readCode 36 = .ok (.iload 4, 2) := by decide +kernel
theorem dX7_readCode_38 : decode cX7_readCode 38 = .ok (.bipush 13, 2) := by decide +kernel
theorem dX7_readCode_40 : decode cX7_readCode 40 = .ok (.if_icmp .ge 26, 3) := by decide +kernel
theorem dX7_readCode_43 : decode cX7_readCode 43 = .ok (.iload_n 3, 1) := by decide +kernel
theorem dX7_readCode_44 : decode cX7_readCode 44 = .ok (.ifCond .le 22, 3) := by decide +kernel
theorem dX7_readCode_47 : decode cX7_readCode 47 = .ok (.aload_n 0, 1) := by decide +kernel
theorem dX7_readCode_48 : decode cX7_readCode 48 = .ok (.iload_n 1, 1) := by decide +kernel
theorem dX7_readCode_49 : decode cX7_readCode 49 = .ok (.iload_n 3, 1) := by decide +kernel
theorem dX7_readCode_50 : decode cX7_readCode 50 = .ok (.idiv, 1) := by decide +kernel
theorem dX7_readCode_51 : decode cX7_readCode 51 = .ok (.iconst 3, 1) := by decide +kernel
theorem dX7_readCode_52 : decode cX7_readCode 52 = .ok (.irem, 1) := by decide +kernel
theorem dX7_readCode_53 : decode cX7_readCode 53 = .ok (.invokevirtual 28, 3) := by decide +kernel
theorem dX7_readCode_56 : decode cX7_readCode 56 = .ok (.iload_n 3, 1) := by decide +kernel
theorem dX7_readCode_57 : decode cX7_readCode 57 = .ok (.iconst 3, 1) := by decide +kernel
theorem dX7_readCode_58 : decode cX7_readCode 58 = .ok (.idiv, 1) := by decide +kernel
theorem dX7_readCode_59 : decode cX7_readCode 59 = .ok (.istore_n 3, 1) := by decide +kernel
theorem dX7_readCode_60 : decode cX7_readCode 60 = .ok (.iinc 4 1, 3) := by decide +kernel
theorem dX7_readCode_63 : decode cX7_readCode 63 = .ok (.goto (-27), 3) := by decide +kernel
theorem dX7_readCode_66 : decode cX7_readCode 66 = .ok (.aload_n 0, 1) := by decide +kernel
theorem dX7_readCode_67 : decode cX7_readCode 67 = .ok (.iload_n 2, 1) := by decide +kernel
theorem dX7_readCode_68 : decode cX7_readCode 68 = .ok (.putfield 22, 3) := by decide +kernel
theorem dX7_readCode_71 : decode cX7_readCode 71 = .ok (.return_, 1) := by decide +kernel
theorem dX7_codeNow_0 : decode cX7_codeNow 0 = .ok (.iconst 0, 1) := by decide +kernel
theorem dX7_codeNow_1 : decode cX7_codeNow 1 = .ok (.istore_n 1, 1) := by decide +kernel
theorem dX7_codeNow_2 : decode cX7_codeNow 2 = .ok (.iconst 0, 1) := by decide +kernel
theorem dX7_codeNow_3 : decode cX7_codeNow 3 = .ok (.istore_n 2, 1) := by decide +kernel
theorem dX7_codeNow_4 : decode cX7_codeNow 4 = .ok (.iload_n 2, 1) := by decide +kernel
theorem dX7_codeNow_5 : decode cX7_codeNow 5 = .ok (.aload_n 0, 1) := by decide +kernel
theorem dX7_codeNow_6 : decode cX7_codeNow 6 = .ok (.getfield 18, 3) := by decide +kernel
theorem dX7_codeNow_9 : decode cX7_codeNow 9 = .ok (.if_icmp .ge 19, 3) := by decide +kernel
theorem dX7_codeNow_12 : decode cX7_codeNow 12 = .ok (.iconst 3, 1) := by decide +kernel
theorem dX7_codeNow_13 : decode cX7_codeNow 13 = .ok (.iload_n 1, 1) := by decide +kernel
theorem dX7_codeNow_14 : decode cX7_codeNow 14 = .ok (.imul, 1) := by decide +kernel
theorem dX7_codeNow_15 : decode cX7_codeNow 15 = .ok (.aload_n 0, 1) := by decide +kernel
theorem dX7_codeNow_16 : decode cX7_codeNow 16 = .ok (.iload_n 2, 1) := by decide +kernel
theorem dX7_codeNow_17 : decode cX7_codeNow 17 = .ok (.invokevirtual 32, 3) := by decide +kernel
theorem dX7_codeNow_20 : decode cX7_codeNow 20 = .ok (.iadd, 1) := by decide +kernel
theorem dX7_codeNow_21 : decode cX7_codeNow 21 = .ok (.istore_n 1, 1) := by decide +kernel
theorem dX7_codeNow_22 : decode cX7_codeNow 22 = .ok (.iinc 2 1, 3) := by decide +kernel
theorem dX7_codeNow_25 : decode cX7_codeNow 25 = .ok (.goto (-21), 3) := by decide +kernel
theorem dX7_codeNow_28 : decode cX7_codeNow 28 = .ok (.iload_n 1, 1) := by decide +kernel
theorem dX7_codeNow_29 : decode cX7_codeNow 29 = .ok (.ireturn, 1) := by decide +kernel
theorem dX7_figureAt_0 : decode cX7_figureAt 0 = .ok (.iload_n 1, 1) := by decide +kernel
theorem dX7_figureAt_1 : decode cX7_figureAt 1 = .ok (.ifCond .lt 26, 3) := by decide +kernel
theorem dX7_figureAt_4 : decode cX7_figureAt 4 = .ok (.iload_n 1, 1) := by decide +kernel
theorem dX7_figureAt_5 : decode cX7_figureAt 5 = .ok (.aload_n 0, 1) := by decide +kernel
theorem dX7_figureAt_6 : decode cX7_figureAt 6 = .ok (.getfield 18, 3) := by decide +kernel
theorem dX7_figureAt_9 : decode cX7_figureAt 9 = .ok (.if_icmp .ge 18, 3) := by decide +kernel
theorem dX7_figureAt_12 : decode cX7_figureAt 12 = .ok (.iload_n 1, 1) := by decide +kernel
theorem dX7_figureAt_13 : decode cX7_figureAt 13 = .ok (.bipush 13, 2) := by decide +kernel
theorem dX7_figureAt_15 : decode cX7_figureAt 15 = .ok (.if_icmp .ge 12, 3) := by decide +kernel
theorem dX7_figureAt_18 : decode cX7_figureAt 18 = .ok (.aload_n 0, 1) := by decide +kernel
theorem dX7_figureAt_19 : decode cX7_figureAt 19 = .ok (.getfield 9, 3) := by decide +kernel
theorem dX7_figureAt_22 : decode cX7_figureAt 22 = .ok (.iload_n 1, 1) := by decide +kernel
theorem dX7_figureAt_23 : decode cX7_figureAt 23 = .ok (.iaload, 1) := by decide +kernel
theorem dX7_figureAt_24 : decode cX7_figureAt 24 = .ok (.goto 4, 3) := by decide +kernel
theorem dX7_figureAt_27 : decode cX7_figureAt 27 = .ok (.iconst 0, 1) := by decide +kernel
theorem dX7_figureAt_28 : decode cX7_figureAt 28 = .ok (.ireturn, 1) := by decide +kernel
theorem dX7_putFigure_0 : decode cX7_putFigure 0 = .ok (.iload_n 1, 1) := by decide +kernel
theorem dX7_putFigure_1 : decode cX7_putFigure 1 = .ok (.ifCond .lt 24, 3) := by decide +kernel
theorem dX7_putFigure_4 : decode cX7_putFigure 4 = .ok (.iload_n 1, 1) := by decide +kernel
theorem dX7_putFigure_5 : decode cX7_putFigure 5 = .ok (.aload_n 0, 1) := by decide +kernel
theorem dX7_putFigure_6 : decode cX7_putFigure 6 = .ok (.getfield 18, 3) := by decide +kernel
theorem dX7_putFigure_9 : decode cX7_putFigure 9 = .ok (.if_icmp .ge 16, 3) := by decide +kernel
theorem dX7_putFigure_12 : decode cX7_putFigure 12 = .ok (.iload_n 1, 1) := by decide +kernel
theorem dX7_putFigure_13 : decode cX7_putFigure 13 = .ok (.bipush 13, 2) := by decide +kernel
theorem dX7_putFigure_15 : decode cX7_putFigure 15 = .ok (.if_icmp .ge 10, 3) := by decide +kernel
theorem dX7_putFigure_18 : decode cX7_putFigure 18 = .ok (.aload_n 0, 1) := by decide +kernel
theorem dX7_putFigure_19 : decode cX7_putFigure 19 = .ok (.getfield 9, 3) := by decide +kernel
theorem dX7_putFigure_22 : decode cX7_putFigure 22 = .ok (.iload_n 1, 1) := by decide +kernel
theorem dX7_putFigure_23 : decode cX7_putFigure 23 = .ok (.iload_n 2, 1) := by decide +kernel
theorem dX7_putFigure_24 : decode cX7_putFigure 24 = .ok (.iastore, 1) := by decide +kernel
theorem dX7_putFigure_25 : decode cX7_putFigure 25 = .ok (.return_, 1) := by decide +kernel
theorem dX7_isNode_0 : decode cX7_isNode 0 = .ok (.aload_n 0, 1) := by decide +kernel
theorem dX7_isNode_1 : decode cX7_isNode 1 = .ok (.iload_n 1, 1) := by decide +kernel
theorem dX7_isNode_2 : decode cX7_isNode 2 = .ok (.invokevirtual 32, 3) := by decide +kernel
theorem dX7_isNode_5 : decode cX7_isNode 5 = .ok (.ifCond .eq 7, 3) := by decide +kernel
theorem dX7_isNode_8 : decode cX7_isNode 8 = .ok (.iconst 1, 1) := by decide +kernel
theorem dX7_isNode_9 : decode cX7_isNode 9 = .ok (.goto 4, 3) := by decide +kernel
theorem dX7_isNode_12 : decode cX7_isNode 12 = .ok (.iconst 0, 1) := by decide +kernel
theorem dX7_isNode_13 : decode cX7_isNode 13 = .ok (.ireturn, 1) := by decide +kernel
theorem dX7_nodes_0 : decode cX7_nodes 0 = .ok (.aload_n 0, 1) := by decide +kernel
theorem dX7_nodes_1 : decode cX7_nodes 1 = .ok (.getfield 18, 3) := by decide +kernel
theorem dX7_nodes_4 : decode cX7_nodes 4 = .ok (.iconst 1, 1) := by decide +kernel
theorem dX7_nodes_5 : decode cX7_nodes 5 = .ok (.isub, 1) := by decide +kernel
theorem dX7_nodes_6 : decode cX7_nodes 6 = .ok (.iconst 2, 1) := by decide +kernel
theorem dX7_nodes_7 : decode cX7_nodes 7 = .ok (.idiv, 1) := by decide +kernel
theorem dX7_nodes_8 : decode cX7_nodes 8 = .ok (.ireturn, 1) := by decide +kernel
theorem dX7_leaves_0 : decode cX7_leaves 0 = .ok (.aload_n 0, 1) := by decide +kernel
theorem dX7_leaves_1 : decode cX7_leaves 1 = .ok (.invokevirtual 36, 3) := by decide +kernel
theorem dX7_leaves_4 : decode cX7_leaves 4 = .ok (.iconst 1, 1) := by decide +kernel
theorem dX7_leaves_5 : decode cX7_leaves 5 = .ok (.iadd, 1) := by decide +kernel
theorem dX7_leaves_6 : decode cX7_leaves 6 = .ok (.ireturn, 1) := by decide +kernel
theorem dX7_equalTo_0 : decode cX7_equalTo 0 = .ok (.aload_n 0, 1) := by decide +kernel
theorem dX7_equalTo_1 : decode cX7_equalTo 1 = .ok (.getfield 22, 3) := by decide +kernel
theorem dX7_equalTo_4 : decode cX7_equalTo 4 = .ok (.aload_n 1, 1) := by decide +kernel
theorem dX7_equalTo_5 : decode cX7_equalTo 5 = .ok (.getfield 22, 3) := by decide +kernel
theorem dX7_equalTo_8 : decode cX7_equalTo 8 = .ok (.if_icmp .ne 18, 3) := by decide +kernel
theorem dX7_equalTo_11 : decode cX7_equalTo 11 = .ok (.aload_n 0, 1) := by decide +kernel
theorem dX7_equalTo_12 : decode cX7_equalTo 12 = .ok (.invokevirtual 40, 3) := by decide +kernel
theorem dX7_equalTo_15 : decode cX7_equalTo 15 = .ok (.aload_n 1, 1) := by decide +kernel
theorem dX7_equalTo_16 : decode cX7_equalTo 16 = .ok (.invokevirtual 40, 3) := by decide +kernel
theorem dX7_equalTo_19 : decode cX7_equalTo 19 = .ok (.if_icmp .ne 7, 3) := by decide +kernel
theorem dX7_equalTo_22 : decode cX7_equalTo 22 = .ok (.iconst 1, 1) := by decide +kernel
theorem dX7_equalTo_23 : decode cX7_equalTo 23 = .ok (.goto 4, 3) := by decide +kernel
theorem dX7_equalTo_26 : decode cX7_equalTo 26 = .ok (.iconst 0, 1) := by decide +kernel
theorem dX7_equalTo_27 : decode cX7_equalTo 27 = .ok (.ireturn, 1) := by decide +kernel
theorem dX7_endOf_0 : decode cX7_endOf 0 = .ok (.iload_n 1, 1) := by decide +kernel
theorem dX7_endOf_1 : decode cX7_endOf 1 = .ok (.ifCond .ge 8, 3) := by decide +kernel
theorem dX7_endOf_4 : decode cX7_endOf 4 = .ok (.aload_n 0, 1) := by decide +kernel
theorem dX7_endOf_5 : decode cX7_endOf 5 = .ok (.getfield 18, 3) := by decide +kernel
theorem dX7_endOf_8 : decode cX7_endOf 8 = .ok (.ireturn, 1) := by decide +kernel
theorem dX7_endOf_9 : decode cX7_endOf 9 = .ok (.iconst 1, 1) := by decide +kernel
theorem dX7_endOf_10 : decode cX7_endOf 10 = .ok (.istore_n 2, 1) := by decide +kernel
theorem dX7_endOf_11 : decode cX7_endOf 11 = .ok (.iload_n 1, 1) := by decide +kernel
theorem dX7_endOf_12 : decode cX7_endOf 12 = .ok (.istore_n 3, 1) := by decide +kernel
theorem dX7_endOf_13 : decode cX7_endOf 13 = .ok (.iload_n 3, 1) := by decide +kernel
theorem dX7_endOf_14 : decode cX7_endOf 14 = .ok (.aload_n 0, 1) := by decide +kernel
theorem dX7_endOf_15 : decode cX7_endOf 15 = .ok (.getfield 18, 3) := by decide +kernel
theorem dX7_endOf_18 : decode cX7_endOf 18 = .ok (.if_icmp .ge 40, 3) := by decide +kernel
theorem dX7_endOf_21 : decode cX7_endOf 21 = .ok (.iload_n 3, 1) := by decide +kernel
theorem dX7_endOf_22 : decode cX7_endOf 22 = .ok (.bipush 13, 2) := by decide +kernel
theorem dX7_endOf_24 : decode cX7_endOf 24 = .ok (.if_icmp .ge 34, 3) := by decide +kernel
theorem dX7_endOf_27 : decode cX7_endOf 27 = .ok (.iload_n 2, 1) := by decide +kernel
theorem dX7_endOf_28 : decode cX7_endOf 28 = .ok (.aload_n 0, 1) := by decide +kernel
theorem dX7_endOf_29 : decode cX7_endOf 29 = .ok (.getfield 9, 3) := by decide +kernel
theorem dX7_endOf_32 : decode cX7_endOf 32 = .ok (.iload_n 3, 1) := by decide +kernel
theorem dX7_endOf_33 : decode cX7_endOf 33 = .ok (.iaload, 1) := by decide +kernel
theorem dX7_endOf_34 : decode cX7_endOf 34 = .ok (.ifCond .ne 7, 3) := by decide +kernel
theorem dX7_endOf_37 : decode cX7_endOf 37 = .ok (.iconst (-1), 1) := by decide +kernel
theorem dX7_endOf_38 : decode cX7_endOf 38 = .ok (.goto 4, 3) := by decide +kernel
theorem dX7_endOf_41 : decode cX7_endOf 41 = .ok (.iconst 1, 1) := by decide +kernel
theorem dX7_endOf_42 : decode cX7_endOf 42 = .ok (.iadd, 1) := by decide +kernel
theorem dX7_endOf_43 : decode cX7_endOf 43 = .ok (.istore_n 2, 1) := by decide +kernel
theorem dX7_endOf_44 : decode cX7_endOf 44 = .ok (.iload_n 2, 1) := by decide +kernel
theorem dX7_endOf_45 : decode cX7_endOf 45 = .ok (.ifCond .ne 7, 3) := by decide +kernel
theorem dX7_endOf_48 : decode cX7_endOf 48 = .ok (.iload_n 3, 1) := by decide +kernel
theorem dX7_endOf_49 : decode cX7_endOf 49 = .ok (.iconst 1, 1) := by decide +kernel
theorem dX7_endOf_50 : decode cX7_endOf 50 = .ok (.iadd, 1) := by decide +kernel
theorem dX7_endOf_51 : decode cX7_endOf 51 = .ok (.ireturn, 1) := by decide +kernel
theorem dX7_endOf_52 : decode cX7_endOf 52 = .ok (.iinc 3 1, 3) := by decide +kernel
theorem dX7_endOf_55 : decode cX7_endOf 55 = .ok (.goto (-42), 3) := by decide +kernel
theorem dX7_endOf_58 : decode cX7_endOf 58 = .ok (.aload_n 0, 1) := by decide +kernel
theorem dX7_endOf_59 : decode cX7_endOf 59 = .ok (.getfield 18, 3) := by decide +kernel
theorem dX7_endOf_62 : decode cX7_endOf 62 = .ok (.ireturn, 1) := by decide +kernel
theorem dX7_leafAt_0 : decode cX7_leafAt 0 = .ok (.iconst 0, 1) := by decide +kernel
theorem dX7_leafAt_1 : decode cX7_leafAt 1 = .ok (.istore_n 2, 1) := by decide +kernel
theorem dX7_leafAt_2 : decode cX7_leafAt 2 = .ok (.iconst 0, 1) := by decide +kernel
theorem dX7_leafAt_3 : decode cX7_leafAt 3 = .ok (.istore_n 3, 1) := by decide +kernel
theorem dX7_leafAt_4 : decode cX7_leafAt 4 = .ok (.iload_n 3, 1) := by decide +kernel
theorem dX7_leafAt_5 : decode cX7_leafAt 5 = .ok (.aload_n 0, 1) := by decide +kernel
theorem dX7_leafAt_6 : decode cX7_leafAt 6 = .ok (.getfield 18, 3) := by decide +kernel
theorem dX7_leafAt_9 : decode cX7_leafAt 9 = .ok (.if_icmp .ge 27, 3) := by decide +kernel
theorem dX7_leafAt_12 : decode cX7_leafAt 12 = .ok (.aload_n 0, 1) := by decide +kernel
theorem dX7_leafAt_13 : decode cX7_leafAt 13 = .ok (.iload_n 3, 1) := by decide +kernel
theorem dX7_leafAt_14 : decode cX7_leafAt 14 = .ok (.invokevirtual 43, 3) := by decide +kernel
theorem dX7_leafAt_17 : decode cX7_leafAt 17 = .ok (.ifCond .ne 13, 3) := by decide +kernel
theorem dX7_leafAt_20 : decode cX7_leafAt 20 = .ok (.iload_n 2, 1) := by decide +kernel
theorem dX7_leafAt_21 : decode cX7_leafAt 21 = .ok (.iload_n 1, 1) := by decide +kernel
theorem dX7_leafAt_22 : decode cX7_leafAt 22 = .ok (.if_icmp .ne 5, 3) := by decide +kernel
theorem dX7_leafAt_25 : decode cX7_leafAt 25 = .ok (.iload_n 3, 1) := by decide +kernel
theorem dX7_leafAt_26 : decode cX7_leafAt 26 = .ok (.ireturn, 1) := by decide +kernel
theorem dX7_leafAt_27 : decode cX7_leafAt 27 = .ok (.iinc 2 1, 3) := by decide +kernel
theorem dX7_leafAt_30 : decode cX7_leafAt 30 = .ok (.iinc 3 1, 3) := by decide +kernel
theorem dX7_leafAt_33 : decode cX7_leafAt 33 = .ok (.goto (-29), 3) := by decide +kernel
theorem dX7_leafAt_36 : decode cX7_leafAt 36 = .ok (.iconst (-1), 1) := by decide +kernel
theorem dX7_leafAt_37 : decode cX7_leafAt 37 = .ok (.ireturn, 1) := by decide +kernel
theorem dX7_hasRoomFor_0 : decode cX7_hasRoomFor 0 = .ok (.aload_n 0, 1) := by decide +kernel
theorem dX7_hasRoomFor_1 : decode cX7_hasRoomFor 1 = .ok (.invokevirtual 36, 3) := by decide +kernel
theorem dX7_hasRoomFor_4 : decode cX7_hasRoomFor 4 = .ok (.aload_n 1, 1) := by decide +kernel
theorem dX7_hasRoomFor_5 : decode cX7_hasRoomFor 5 = .ok (.invokevirtual 36, 3) := by decide +kernel
theorem dX7_hasRoomFor_8 : decode cX7_hasRoomFor 8 = .ok (.iadd, 1) := by decide +kernel
theorem dX7_hasRoomFor_9 : decode cX7_hasRoomFor 9 = .ok (.bipush 6, 2) := by decide +kernel
theorem dX7_hasRoomFor_11 : decode cX7_hasRoomFor 11 = .ok (.if_icmp .gt 7, 3) := by decide +kernel
theorem dX7_hasRoomFor_14 : decode cX7_hasRoomFor 14 = .ok (.iconst 1, 1) := by decide +kernel
theorem dX7_hasRoomFor_15 : decode cX7_hasRoomFor 15 = .ok (.goto 4, 3) := by decide +kernel
theorem dX7_hasRoomFor_18 : decode cX7_hasRoomFor 18 = .ok (.iconst 0, 1) := by decide +kernel
theorem dX7_hasRoomFor_19 : decode cX7_hasRoomFor 19 = .ok (.ireturn, 1) := by decide +kernel
theorem dX7_graftAt_0 : decode cX7_graftAt 0 = .ok (.aload_n 2, 1) := by decide +kernel
theorem dX7_graftAt_1 : decode cX7_graftAt 1 = .ok (.getfield 18, 3) := by decide +kernel
theorem dX7_graftAt_4 : decode cX7_graftAt 4 = .ok (.iconst 1, 1) := by decide +kernel
theorem dX7_graftAt_5 : decode cX7_graftAt 5 = .ok (.isub, 1) := by decide +kernel
theorem dX7_graftAt_6 : decode cX7_graftAt 6 = .ok (.istore_n 3, 1) := by decide +kernel
theorem dX7_graftAt_7 : decode cX7_graftAt 7 = .ok (.iload_n 1, 1) := by decide +kernel
theorem dX7_graftAt_8 : decode cX7_graftAt 8 = .ok (.ifCond .lt 22, 3) := by decide +kernel
theorem dX7_graftAt_11 : decode cX7_graftAt 11 = .ok (.iload_n 1, 1) := by decide +kernel
theorem dX7_graftAt_12 : decode cX7_graftAt 12 = .ok (.aload_n 0, 1) := by decide +kernel
theorem dX7_graftAt_13 : decode cX7_graftAt 13 = .ok (.getfield 18, 3) := by decide +kernel
theorem dX7_graftAt_16 : decode cX7_graftAt 16 = .ok (.if_icmp .ge 14, 3) := by decide +kernel
theorem dX7_graftAt_19 : decode cX7_graftAt 19 = .ok (.aload_n 0, 1) := by decide +kernel
theorem dX7_graftAt_20 : decode cX7_graftAt 20 = .ok (.getfield 18, 3) := by decide +kernel
theorem dX7_graftAt_23 : decode cX7_graftAt 23 = .ok (.iload_n 3, 1) := by decide +kernel
theorem dX7_graftAt_24 : decode cX7_graftAt 24 = .ok (.iadd, 1) := by decide +kernel
theorem dX7_graftAt_25 : decode cX7_graftAt 25 = .ok (.bipush 13, 2) := by decide +kernel
theorem dX7_graftAt_27 : decode cX7_graftAt 27 = .ok (.if_icmp .le 4, 3) := by decide +kernel
theorem dX7_graftAt_30 : decode cX7_graftAt 30 = .ok (.return_, 1) := by decide +kernel
theorem dX7_graftAt_31 : decode cX7_graftAt 31 = .ok (.aload_n 0, 1) := by decide +kernel
theorem dX7_graftAt_32 : decode cX7_graftAt 32 = .ok (.getfield 18, 3) := by decide +kernel
theorem dX7_graftAt_35 : decode cX7_graftAt 35 = .ok (.istore 4, 2) := by decide +kernel
theorem dX7_graftAt_37 : decode cX7_graftAt 37 = .ok (.aload_n 0, 1) := by decide +kernel
theorem dX7_graftAt_38 : decode cX7_graftAt 38 = .ok (.dup, 1) := by decide +kernel
theorem dX7_graftAt_39 : decode cX7_graftAt 39 = .ok (.getfield 18, 3) := by decide +kernel
theorem dX7_graftAt_42 : decode cX7_graftAt 42 = .ok (.iload_n 3, 1) := by decide +kernel
theorem dX7_graftAt_43 : decode cX7_graftAt 43 = .ok (.iadd, 1) := by decide +kernel
theorem dX7_graftAt_44 : decode cX7_graftAt 44 = .ok (.putfield 18, 3) := by decide +kernel
theorem dX7_graftAt_47 : decode cX7_graftAt 47 = .ok (.iload 4, 2) := by decide +kernel
theorem dX7_graftAt_49 : decode cX7_graftAt 49 = .ok (.iconst 1, 1) := by decide +kernel
theorem dX7_graftAt_50 : decode cX7_graftAt 50 = .ok (.isub, 1) := by decide +kernel
theorem dX7_graftAt_51 : decode cX7_graftAt 51 = .ok (.istore 5, 2) := by decide +kernel
theorem dX7_graftAt_53 : decode cX7_graftAt 53 = .ok (.iload 5, 2) := by decide +kernel
theorem dX7_graftAt_55 : decode cX7_graftAt 55 = .ok (.iload_n 1, 1) := by decide +kernel
theorem dX7_graftAt_56 : decode cX7_graftAt 56 = .ok (.if_icmp .le 23, 3) := by decide +kernel
theorem dX7_graftAt_59 : decode cX7_graftAt 59 = .ok (.aload_n 0, 1) := by decide +kernel
theorem dX7_graftAt_60 : decode cX7_graftAt 60 = .ok (.iload 5, 2) := by decide +kernel
theorem dX7_graftAt_62 : decode cX7_graftAt 62 = .ok (.iload_n 3, 1) := by decide +kernel
theorem dX7_graftAt_63 : decode cX7_graftAt 63 = .ok (.iadd, 1) := by decide +kernel
theorem dX7_graftAt_64 : decode cX7_graftAt 64 = .ok (.aload_n 0, 1) := by decide +kernel
theorem dX7_graftAt_65 : decode cX7_graftAt 65 = .ok (.iload 5, 2) := by decide +kernel
theorem dX7_graftAt_67 : decode cX7_graftAt 67 = .ok (.invokevirtual 32, 3) := by decide +kernel
theorem dX7_graftAt_70 : decode cX7_graftAt 70 = .ok (.invokevirtual 47, 3) := by decide +kernel
theorem dX7_graftAt_73 : decode cX7_graftAt 73 = .ok (.iinc 5 (-1), 3) := by decide +kernel
theorem dX7_graftAt_76 : decode cX7_graftAt 76 = .ok (.goto (-23), 3) := by decide +kernel
theorem dX7_graftAt_79 : decode cX7_graftAt 79 = .ok (.iconst 0, 1) := by decide +kernel
theorem dX7_graftAt_80 : decode cX7_graftAt 80 = .ok (.istore 5, 2) := by decide +kernel
theorem dX7_graftAt_82 : decode cX7_graftAt 82 = .ok (.iload 5, 2) := by decide +kernel
theorem dX7_graftAt_84 : decode cX7_graftAt 84 = .ok (.aload_n 2, 1) := by decide +kernel
theorem dX7_graftAt_85 : decode cX7_graftAt 85 = .ok (.getfield 18, 3) := by decide +kernel
theorem dX7_graftAt_88 : decode cX7_graftAt 88 = .ok (.if_icmp .ge 23, 3) := by decide +kernel
theorem dX7_graftAt_91 : decode cX7_graftAt 91 = .ok (.aload_n 0, 1) := by decide +kernel
theorem dX7_graftAt_92 : decode cX7_graftAt 92 = .ok (.iload_n 1, 1) := by decide +kernel
theorem dX7_graftAt_93 : decode cX7_graftAt 93 = .ok (.iload 5, 2) := by decide +kernel
theorem dX7_graftAt_95 : decode cX7_graftAt 95 = .ok (.iadd, 1) := by decide +kernel
theorem dX7_graftAt_96 : decode cX7_graftAt 96 = .ok (.aload_n 2, 1) := by decide +kernel
theorem dX7_graftAt_97 : decode cX7_graftAt 97 = .ok (.iload 5, 2) := by decide +kernel
theorem dX7_graftAt_99 : decode cX7_graftAt 99 = .ok (.invokevirtual 32, 3) := by decide +kernel
theorem dX7_graftAt_102 : decode cX7_graftAt 102 = .ok (.invokevirtual 47, 3) := by decide +kernel
theorem dX7_graftAt_105 : decode cX7_graftAt 105 = .ok (.iinc 5 1, 3) := by decide +kernel
theorem dX7_graftAt_108 : decode cX7_graftAt 108 = .ok (.goto (-26), 3) := by decide +kernel
theorem dX7_graftAt_111 : decode cX7_graftAt 111 = .ok (.return_, 1) := by decide +kernel
theorem dX7_patternAt_0 : decode cX7_patternAt 0 = .ok (.iload_n 1, 1) := by decide +kernel
theorem dX7_patternAt_1 : decode cX7_patternAt 1 = .ok (.iconst 2, 1) := by decide +kernel
theorem dX7_patternAt_2 : decode cX7_patternAt 2 = .ok (.idiv, 1) := by decide +kernel
theorem dX7_patternAt_3 : decode cX7_patternAt 3 = .ok (.istore_n 2, 1) := by decide +kernel
theorem dX7_patternAt_4 : decode cX7_patternAt 4 = .ok (.iload_n 1, 1) := by decide +kernel
theorem dX7_patternAt_5 : decode cX7_patternAt 5 = .ok (.iconst 1, 1) := by decide +kernel
theorem dX7_patternAt_6 : decode cX7_patternAt 6 = .ok (.iand, 1) := by decide +kernel
theorem dX7_patternAt_7 : decode cX7_patternAt 7 = .ok (.istore_n 3, 1) := by decide +kernel
theorem dX7_patternAt_8 : decode cX7_patternAt 8 = .ok (.aload_n 0, 1) := by decide +kernel
theorem dX7_patternAt_9 : decode cX7_patternAt 9 = .ok (.iload_n 2, 1) := by decide +kernel
theorem dX7_patternAt_10 : decode cX7_patternAt 10 = .ok (.invokevirtual 32, 3) := by decide +kernel
theorem dX7_patternAt_13 : decode cX7_patternAt 13 = .ok (.istore 4, 2) := by decide +kernel
theorem dX7_patternAt_15 : decode cX7_patternAt 15 = .ok (.iload_n 1, 1) := by decide +kernel
theorem dX7_patternAt_16 : decode cX7_patternAt 16 = .ok (.ifCond .lt 8, 3) := by decide +kernel
theorem dX7_patternAt_19 : decode cX7_patternAt 19 = .ok (.iload 4, 2) := by decide +kernel
theorem dX7_patternAt_21 : decode cX7_patternAt 21 = .ok (.ifCond .ne 5, 3) := by decide +kernel
theorem dX7_patternAt_24 : decode cX7_patternAt 24 = .ok (.iconst (-1), 1) := by decide +kernel
theorem dX7_patternAt_25 : decode cX7_patternAt 25 = .ok (.ireturn, 1) := by decide +kernel
theorem dX7_patternAt_26 : decode cX7_patternAt 26 = .ok (.aload_n 0, 1) := by decide +kernel
theorem dX7_patternAt_27 : decode cX7_patternAt 27 = .ok (.iload_n 3, 1) := by decide +kernel
theorem dX7_patternAt_28 : decode cX7_patternAt 28 = .ok (.ifCond .ne 9, 3) := by decide +kernel
theorem dX7_patternAt_31 : decode cX7_patternAt 31 = .ok (.iload_n 2, 1) := by decide +kernel
theorem dX7_patternAt_32 : decode cX7_patternAt 32 = .ok (.iconst 1, 1) := by decide +kernel
theorem dX7_patternAt_33 : decode cX7_patternAt 33 = .ok (.iadd, 1) := by decide +kernel
theorem dX7_patternAt_34 : decode cX7_patternAt 34 = .ok (.goto 10, 3) := by decide +kernel
theorem dX7_patternAt_37 : decode cX7_patternAt 37 = .ok (.aload_n 0, 1) := by decide +kernel
theorem dX7_patternAt_38 : decode cX7_patternAt 38 = .ok (.iload_n 2, 1) := by decide +kernel
theorem dX7_patternAt_39 : decode cX7_patternAt 39 = .ok (.iconst 1, 1) := by decide +kernel
theorem dX7_patternAt_40 : decode cX7_patternAt 40 = .ok (.iadd, 1) := by decide +kernel
theorem dX7_patternAt_41 : decode cX7_patternAt 41 = .ok (.invokevirtual 51, 3) := by decide +kernel
theorem dX7_patternAt_44 : decode cX7_patternAt 44 = .ok (.invokevirtual 32, 3) := by decide +kernel
theorem dX7_patternAt_47 : decode cX7_patternAt 47 = .ok (.istore 5, 2) := by decide +kernel
theorem dX7_patternAt_49 : decode cX7_patternAt 49 = .ok (.iload 5, 2) := by decide +kernel
theorem dX7_patternAt_51 : decode cX7_patternAt 51 = .ok (.ifCond .ne 5, 3) := by decide +kernel
theorem dX7_patternAt_54 : decode cX7_patternAt 54 = .ok (.iconst (-1), 1) := by decide +kernel
theorem dX7_patternAt_55 : decode cX7_patternAt 55 = .ok (.ireturn, 1) := by decide +kernel
theorem dX7_patternAt_56 : decode cX7_patternAt 56 = .ok (.iconst 4, 1) := by decide +kernel
theorem dX7_patternAt_57 : decode cX7_patternAt 57 = .ok (.iload 4, 2) := by decide +kernel
theorem dX7_patternAt_59 : decode cX7_patternAt 59 = .ok (.iconst 1, 1) := by decide +kernel
theorem dX7_patternAt_60 : decode cX7_patternAt 60 = .ok (.isub, 1) := by decide +kernel
theorem dX7_patternAt_61 : decode cX7_patternAt 61 = .ok (.imul, 1) := by decide +kernel
theorem dX7_patternAt_62 : decode cX7_patternAt 62 = .ok (.iconst 2, 1) := by decide +kernel
theorem dX7_patternAt_63 : decode cX7_patternAt 63 = .ok (.iload 5, 2) := by decide +kernel
theorem dX7_patternAt_65 : decode cX7_patternAt 65 = .ok (.iconst 1, 1) := by decide +kernel
theorem dX7_patternAt_66 : decode cX7_patternAt 66 = .ok (.isub, 1) := by decide +kernel
theorem dX7_patternAt_67 : decode cX7_patternAt 67 = .ok (.imul, 1) := by decide +kernel
theorem dX7_patternAt_68 : decode cX7_patternAt 68 = .ok (.iadd, 1) := by decide +kernel
theorem dX7_patternAt_69 : decode cX7_patternAt 69 = .ok (.iload_n 3, 1) := by decide +kernel
theorem dX7_patternAt_70 : decode cX7_patternAt 70 = .ok (.iadd, 1) := by decide +kernel
theorem dX7_patternAt_71 : decode cX7_patternAt 71 = .ok (.ireturn, 1) := by decide +kernel
theorem dX7_spotOf_0 : decode cX7_spotOf 0 = .ok (.iconst 0, 1) := by decide +kernel
theorem dX7_spotOf_1 : decode cX7_spotOf 1 = .ok (.istore_n 3, 1) := by decide +kernel
theorem dX7_spotOf_2 : decode cX7_spotOf 2 = .ok (.iconst 0, 1) := by decide +kernel
theorem dX7_spotOf_3 : decode cX7_spotOf 3 = .ok (.istore 4, 2) := by decide +kernel
theorem dX7_spotOf_5 : decode cX7_spotOf 5 = .ok (.iload 4, 2) := by decide +kernel
theorem dX7_spotOf_7 : decode cX7_spotOf 7 = .ok (.iconst 2, 1) := by decide +kernel
theorem dX7_spotOf_8 : decode cX7_spotOf 8 = .ok (.aload_n 0, 1) := by decide +kernel
theorem dX7_spotOf_9 : decode cX7_spotOf 9 = .ok (.getfield 18, 3) := by decide +kernel
theorem dX7_spotOf_12 : decode cX7_spotOf 12 = .ok (.imul, 1) := by decide +kernel
theorem dX7_spotOf_13 : decode cX7_spotOf 13 = .ok (.if_icmp .ge 33, 3) := by decide +kernel
theorem dX7_spotOf_16 : decode cX7_spotOf 16 = .ok (.aload_n 2, 1) := by decide +kernel
theorem dX7_spotOf_17 : decode cX7_spotOf 17 = .ok (.aload_n 0, 1) := by decide +kernel
theorem dX7_spotOf_18 : decode cX7_spotOf 18 = .ok (.iload 4, 2) := by decide +kernel
theorem dX7_spotOf_20 : decode cX7_spotOf 20 = .ok (.invokevirtual 54, 3) := by decide +kernel
theorem dX7_spotOf_23 : decode cX7_spotOf 23 = .ok (.invokevirtual 57, 3) := by decide +kernel
theorem dX7_spotOf_26 : decode cX7_spotOf 26 = .ok (.ifCond .eq 14, 3) := by decide +kernel
theorem dX7_spotOf_29 : decode cX7_spotOf 29 = .ok (.iload_n 3, 1) := by decide +kernel
theorem dX7_spotOf_30 : decode cX7_spotOf 30 = .ok (.iload_n 1, 1) := by decide +kernel
theorem dX7_spotOf_31 : decode cX7_spotOf 31 = .ok (.if_icmp .ne 6, 3) := by decide +kernel
theorem dX7_spotOf_34 : decode cX7_spotOf 34 = .ok (.iload 4, 2) := by decide +kernel
theorem dX7_spotOf_36 : decode cX7_spotOf 36 = .ok (.ireturn, 1) := by decide +kernel
theorem dX7_spotOf_37 : decode cX7_spotOf 37 = .ok (.iinc 3 1, 3) := by decide +kernel
theorem dX7_spotOf_40 : decode cX7_spotOf 40 = .ok (.iinc 4 1, 3) := by decide +kernel
theorem dX7_spotOf_43 : decode cX7_spotOf 43 = .ok (.goto (-38), 3) := by decide +kernel
theorem dX7_spotOf_46 : decode cX7_spotOf 46 = .ok (.iconst (-1), 1) := by decide +kernel
theorem dX7_spotOf_47 : decode cX7_spotOf 47 = .ok (.ireturn, 1) := by decide +kernel
theorem dX7_places_0 : decode cX7_places 0 = .ok (.iconst 0, 1) := by decide +kernel
theorem dX7_places_1 : decode cX7_places 1 = .ok (.istore_n 2, 1) := by decide +kernel
theorem dX7_places_2 : decode cX7_places 2 = .ok (.iconst 0, 1) := by decide +kernel
theorem dX7_places_3 : decode cX7_places 3 = .ok (.istore_n 3, 1) := by decide +kernel
theorem dX7_places_4 : decode cX7_places 4 = .ok (.iload_n 3, 1) := by decide +kernel
theorem dX7_places_5 : decode cX7_places 5 = .ok (.iconst 2, 1) := by decide +kernel
theorem dX7_places_6 : decode cX7_places 6 = .ok (.aload_n 0, 1) := by decide +kernel
theorem dX7_places_7 : decode cX7_places 7 = .ok (.getfield 18, 3) := by decide +kernel
theorem dX7_places_10 : decode cX7_places 10 = .ok (.imul, 1) := by decide +kernel
theorem dX7_places_11 : decode cX7_places 11 = .ok (.if_icmp .ge 24, 3) := by decide +kernel
theorem dX7_places_14 : decode cX7_places 14 = .ok (.aload_n 1, 1) := by decide +kernel
theorem dX7_places_15 : decode cX7_places 15 = .ok (.aload_n 0, 1) := by decide +kernel
theorem dX7_places_16 : decode cX7_places 16 = .ok (.iload_n 3, 1) := by decide +kernel
theorem dX7_places_17 : decode cX7_places 17 = .ok (.invokevirtual 54, 3) := by decide +kernel
theorem dX7_places_20 : decode cX7_places 20 = .ok (.invokevirtual 57, 3) := by decide +kernel
theorem dX7_places_23 : decode cX7_places 23 = .ok (.ifCond .eq 6, 3) := by decide +kernel
theorem dX7_places_26 : decode cX7_places 26 = .ok (.iinc 2 1, 3) := by decide +kernel
theorem dX7_places_29 : decode cX7_places 29 = .ok (.iinc 3 1, 3) := by decide +kernel
theorem dX7_places_32 : decode cX7_places 32 = .ok (.goto (-28), 3) := by decide +kernel
theorem dX7_places_35 : decode cX7_places 35 = .ok (.iload_n 2, 1) := by decide +kernel
theorem dX7_places_36 : decode cX7_places 36 = .ok (.ireturn, 1) := by decide +kernel
theorem dX7_stepAt_0 : decode cX7_stepAt 0 = .ok (.aload_n 0, 1) := by decide +kernel
theorem dX7_stepAt_1 : decode cX7_stepAt 1 = .ok (.iload_n 1, 1) := by decide +kernel
theorem dX7_stepAt_2 : decode cX7_stepAt 2 = .ok (.invokevirtual 54, 3) := by decide +kernel
theorem dX7_stepAt_5 : decode cX7_stepAt 5 = .ok (.istore_n 3, 1) := by decide +kernel
theorem dX7_stepAt_6 : decode cX7_stepAt 6 = .ok (.aload_n 2, 1) := by decide +kernel
theorem dX7_stepAt_7 : decode cX7_stepAt 7 = .ok (.iload_n 3, 1) := by decide +kernel
theorem dX7_stepAt_8 : decode cX7_stepAt 8 = .ok (.invokevirtual 57, 3) := by decide +kernel
theorem dX7_stepAt_11 : decode cX7_stepAt 11 = .ok (.istore 4, 2) := by decide +kernel
theorem dX7_stepAt_13 : decode cX7_stepAt 13 = .ok (.iload 4, 2) := by decide +kernel
theorem dX7_stepAt_15 : decode cX7_stepAt 15 = .ok (.iconst 1, 1) := by decide +kernel
theorem dX7_stepAt_16 : decode cX7_stepAt 16 = .ok (.if_icmp .ne 11, 3) := by decide +kernel
theorem dX7_stepAt_19 : decode cX7_stepAt 19 = .ok (.aload_n 0, 1) := by decide +kernel
theorem dX7_stepAt_20 : decode cX7_stepAt 20 = .ok (.iconst 0, 1) := by decide +kernel
theorem dX7_stepAt_21 : decode cX7_stepAt 21 = .ok (.invokevirtual 62, 3) := by decide +kernel
theorem dX7_stepAt_24 : decode cX7_stepAt 24 = .ok (.goto 40, 3) := by decide +kernel
theorem dX7_stepAt_27 : decode cX7_stepAt 27 = .ok (.iload 4, 2) := by decide +kernel
theorem dX7_stepAt_29 : decode cX7_stepAt 29 = .ok (.ifCond .eq 35, 3) := by decide +kernel
theorem dX7_stepAt_32 : decode cX7_stepAt 32 = .ok (.aload_n 0, 1) := by decide +kernel
theorem dX7_stepAt_33 : decode cX7_stepAt 33 = .ok (.iload_n 1, 1) := by decide +kernel
theorem dX7_stepAt_34 : decode cX7_stepAt 34 = .ok (.aload_n 2, 1) := by decide +kernel
theorem dX7_stepAt_35 : decode cX7_stepAt 35 = .ok (.iload_n 3, 1) := by decide +kernel
theorem dX7_stepAt_36 : decode cX7_stepAt 36 = .ok (.invokevirtual 65, 3) := by decide +kernel
theorem dX7_stepAt_39 : decode cX7_stepAt 39 = .ok (.invokevirtual 68, 3) := by decide +kernel
theorem dX7_stepAt_42 : decode cX7_stepAt 42 = .ok (.aload_n 0, 1) := by decide +kernel
theorem dX7_stepAt_43 : decode cX7_stepAt 43 = .ok (.iload 4, 2) := by decide +kernel
theorem dX7_stepAt_45 : decode cX7_stepAt 45 = .ok (.iconst 3, 1) := by decide +kernel
theorem dX7_stepAt_46 : decode cX7_stepAt 46 = .ok (.if_icmp .ne 11, 3) := by decide +kernel
theorem dX7_stepAt_49 : decode cX7_stepAt 49 = .ok (.aload_n 0, 1) := by decide +kernel
theorem dX7_stepAt_50 : decode cX7_stepAt 50 = .ok (.getfield 22, 3) := by decide +kernel
theorem dX7_stepAt_53 : decode cX7_stepAt 53 = .ok (.ineg, 1) := by decide +kernel
theorem dX7_stepAt_54 : decode cX7_stepAt 54 = .ok (.goto 7, 3) := by decide +kernel
theorem dX7_stepAt_57 : decode cX7_stepAt 57 = .ok (.aload_n 0, 1) := by decide +kernel
theorem dX7_stepAt_58 : decode cX7_stepAt 58 = .ok (.getfield 22, 3) := by decide +kernel
theorem dX7_stepAt_61 : decode cX7_stepAt 61 = .ok (.putfield 22, 3) := by decide +kernel
theorem dX7_stepAt_64 : decode cX7_stepAt 64 = .ok (.return_, 1) := by decide +kernel
theorem dX7_rebuild_0 : decode cX7_rebuild 0 = .ok (.iload_n 1, 1) := by decide +kernel
theorem dX7_rebuild_1 : decode cX7_rebuild 1 = .ok (.iconst 2, 1) := by decide +kernel
theorem dX7_rebuild_2 : decode cX7_rebuild 2 = .ok (.idiv, 1) := by decide +kernel
theorem dX7_rebuild_3 : decode cX7_rebuild 3 = .ok (.istore_n 3, 1) := by decide +kernel
theorem dX7_rebuild_4 : decode cX7_rebuild 4 = .ok (.iload_n 1, 1) := by decide +kernel
theorem dX7_rebuild_5 : decode cX7_rebuild 5 = .ok (.iconst 1, 1) := by decide +kernel
theorem dX7_rebuild_6 : decode cX7_rebuild 6 = .ok (.iand, 1) := by decide +kernel
theorem dX7_rebuild_7 : decode cX7_rebuild 7 = .ok (.istore 4, 2) := by decide +kernel
theorem dX7_rebuild_9 : decode cX7_rebuild 9 = .ok (.iload_n 2, 1) := by decide +kernel
theorem dX7_rebuild_10 : decode cX7_rebuild 10 = .ok (.invokestatic 71, 3) := by decide +kernel
theorem dX7_rebuild_13 : decode cX7_rebuild 13 = .ok (.istore 5, 2) := by decide +kernel
theorem dX7_rebuild_15 : decode cX7_rebuild 15 = .ok (.iload 4, 2) := by decide +kernel
theorem dX7_rebuild_17 : decode cX7_rebuild 17 = .ok (.ifCond .ne 9, 3) := by decide +kernel
theorem dX7_rebuild_20 : decode cX7_rebuild 20 = .ok (.iload_n 3, 1) := by decide +kernel
theorem dX7_rebuild_21 : decode cX7_rebuild 21 = .ok (.iconst 1, 1) := by decide +kernel
theorem dX7_rebuild_22 : decode cX7_rebuild 22 = .ok (.iadd, 1) := by decide +kernel
theorem dX7_rebuild_23 : decode cX7_rebuild 23 = .ok (.goto 10, 3) := by decide +kernel
theorem dX7_rebuild_26 : decode cX7_rebuild 26 = .ok (.aload_n 0, 1) := by decide +kernel
theorem dX7_rebuild_27 : decode cX7_rebuild 27 = .ok (.iload_n 3, 1) := by decide +kernel
theorem dX7_rebuild_28 : decode cX7_rebuild 28 = .ok (.iconst 1, 1) := by decide +kernel
theorem dX7_rebuild_29 : decode cX7_rebuild 29 = .ok (.iadd, 1) := by decide +kernel
theorem dX7_rebuild_30 : decode cX7_rebuild 30 = .ok (.invokevirtual 51, 3) := by decide +kernel
theorem dX7_rebuild_33 : decode cX7_rebuild 33 = .ok (.istore 6, 2) := by decide +kernel
theorem dX7_rebuild_35 : decode cX7_rebuild 35 = .ok (.iload 6, 2) := by decide +kernel
theorem dX7_rebuild_37 : decode cX7_rebuild 37 = .ok (.istore 7, 2) := by decide +kernel
theorem dX7_rebuild_39 : decode cX7_rebuild 39 = .ok (.iload 4, 2) := by decide +kernel
theorem dX7_rebuild_41 : decode cX7_rebuild 41 = .ok (.ifCond .ne 23, 3) := by decide +kernel
theorem dX7_rebuild_44 : decode cX7_rebuild 44 = .ok (.iload 5, 2) := by decide +kernel
theorem dX7_rebuild_46 : decode cX7_rebuild 46 = .ok (.iconst 1, 1) := by decide +kernel
theorem dX7_rebuild_47 : decode cX7_rebuild 47 = .ok (.if_icmp .ne 17, 3) := by decide +kernel
theorem dX7_rebuild_50 : decode cX7_rebuild 50 = .ok (.aload_n 0, 1) := by decide +kernel
theorem dX7_rebuild_51 : decode cX7_rebuild 51 = .ok (.iload_n 3, 1) := by decide +kernel
theorem dX7_rebuild_52 : decode cX7_rebuild 52 = .ok (.iconst 2, 1) := by decide +kernel
theorem dX7_rebuild_53 : decode cX7_rebuild 53 = .ok (.iadd, 1) := by decide +kernel
theorem dX7_rebuild_54 : decode cX7_rebuild 54 = .ok (.invokevirtual 51, 3) := by decide +kernel
theorem dX7_rebuild_57 : decode cX7_rebuild 57 = .ok (.iconst 1, 1) := by decide +kernel
theorem dX7_rebuild_58 : decode cX7_rebuild 58 = .ok (.isub, 1) := by decide +kernel
theorem dX7_rebuild_59 : decode cX7_rebuild 59 = .ok (.istore 7, 2) := by decide +kernel
theorem dX7_rebuild_61 : decode cX7_rebuild 61 = .ok (.goto 19, 3) := by decide +kernel
theorem dX7_rebuild_64 : decode cX7_rebuild 64 = .ok (.iload 4, 2) := by decide +kernel
theorem dX7_rebuild_66 : decode cX7_rebuild 66 = .ok (.iconst 1, 1) := by decide +kernel
theorem dX7_rebuild_67 : decode cX7_rebuild 67 = .ok (.if_icmp .ne 13, 3) := by decide +kernel
theorem dX7_rebuild_70 : decode cX7_rebuild 70 = .ok (.iload 5, 2) := by decide +kernel
theorem dX7_rebuild_72 : decode cX7_rebuild 72 = .ok (.ifCond .ne 8, 3) := by decide +kernel
theorem dX7_rebuild_75 : decode cX7_rebuild 75 = .ok (.iload_n 3, 1) := by decide +kernel
theorem dX7_rebuild_76 : decode cX7_rebuild 76 = .ok (.iconst 1, 1) := by decide +kernel
theorem dX7_rebuild_77 : decode cX7_rebuild 77 = .ok (.iadd, 1) := by decide +kernel
theorem dX7_rebuild_78 : decode cX7_rebuild 78 = .ok (.istore 7, 2) := by decide +kernel
theorem dX7_rebuild_80 : decode cX7_rebuild 80 = .ok (.iload 6, 2) := by decide +kernel
theorem dX7_rebuild_82 : decode cX7_rebuild 82 = .ok (.istore 8, 2) := by decide +kernel
theorem dX7_rebuild_84 : decode cX7_rebuild 84 = .ok (.iload 8, 2) := by decide +kernel
theorem dX7_rebuild_86 : decode cX7_rebuild 86 = .ok (.iload 7, 2) := by decide +kernel
theorem dX7_rebuild_88 : decode cX7_rebuild 88 = .ok (.if_icmp .ge 23, 3) := by decide +kernel
theorem dX7_rebuild_91 : decode cX7_rebuild 91 = .ok (.aload_n 0, 1) := by decide +kernel
theorem dX7_rebuild_92 : decode cX7_rebuild 92 = .ok (.iload 8, 2) := by decide +kernel
theorem dX7_rebuild_94 : decode cX7_rebuild 94 = .ok (.aload_n 0, 1) := by decide +kernel
theorem dX7_rebuild_95 : decode cX7_rebuild 95 = .ok (.iload 8, 2) := by decide +kernel
theorem dX7_rebuild_97 : decode cX7_rebuild 97 = .ok (.iconst 1, 1) := by decide +kernel
theorem dX7_rebuild_98 : decode cX7_rebuild 98 = .ok (.iadd, 1) := by decide +kernel
theorem dX7_rebuild_99 : decode cX7_rebuild 99 = .ok (.invokevirtual 32, 3) := by decide +kernel
theorem dX7_rebuild_102 : decode cX7_rebuild 102 = .ok (.invokevirtual 47, 3) := by decide +kernel
theorem dX7_rebuild_105 : decode cX7_rebuild 105 = .ok (.iinc 8 1, 3) := by decide +kernel
theorem dX7_rebuild_108 : decode cX7_rebuild 108 = .ok (.goto (-24), 3) := by decide +kernel
theorem dX7_rebuild_111 : decode cX7_rebuild 111 = .ok (.iload 6, 2) := by decide +kernel
theorem dX7_rebuild_113 : decode cX7_rebuild 113 = .ok (.istore 8, 2) := by decide +kernel
theorem dX7_rebuild_115 : decode cX7_rebuild 115 = .ok (.iload 8, 2) := by decide +kernel
theorem dX7_rebuild_117 : decode cX7_rebuild 117 = .ok (.iload 7, 2) := by decide +kernel
theorem dX7_rebuild_119 : decode cX7_rebuild 119 = .ok (.if_icmp .le 23, 3) := by decide +kernel
theorem dX7_rebuild_122 : decode cX7_rebuild 122 = .ok (.aload_n 0, 1) := by decide +kernel
theorem dX7_rebuild_123 : decode cX7_rebuild 123 = .ok (.iload 8, 2) := by decide +kernel
theorem dX7_rebuild_125 : decode cX7_rebuild 125 = .ok (.aload_n 0, 1) := by decide +kernel
theorem dX7_rebuild_126 : decode cX7_rebuild 126 = .ok (.iload 8, 2) := by decide +kernel
theorem dX7_rebuild_128 : decode cX7_rebuild 128 = .ok (.iconst 1, 1) := by decide +kernel
theorem dX7_rebuild_129 : decode cX7_rebuild 129 = .ok (.isub, 1) := by decide +kernel
theorem dX7_rebuild_130 : decode cX7_rebuild 130 = .ok (.invokevirtual 32, 3) := by decide +kernel
theorem dX7_rebuild_133 : decode cX7_rebuild 133 = .ok (.invokevirtual 47, 3) := by decide +kernel
theorem dX7_rebuild_136 : decode cX7_rebuild 136 = .ok (.iinc 8 (-1), 3) := by decide +kernel
theorem dX7_rebuild_139 : decode cX7_rebuild 139 = .ok (.goto (-24), 3) := by decide +kernel
theorem dX7_rebuild_142 : decode cX7_rebuild 142 = .ok (.aload_n 0, 1) := by decide +kernel
theorem dX7_rebuild_143 : decode cX7_rebuild 143 = .ok (.iload_n 3, 1) := by decide +kernel
theorem dX7_rebuild_144 : decode cX7_rebuild 144 = .ok (.iload_n 2, 1) := by decide +kernel
theorem dX7_rebuild_145 : decode cX7_rebuild 145 = .ok (.iconst 2, 1) := by decide +kernel
theorem dX7_rebuild_146 : decode cX7_rebuild 146 = .ok (.ishr, 1) := by decide +kernel
theorem dX7_rebuild_147 : decode cX7_rebuild 147 = .ok (.iconst 1, 1) := by decide +kernel
theorem dX7_rebuild_148 : decode cX7_rebuild 148 = .ok (.iand, 1) := by decide +kernel
theorem dX7_rebuild_149 : decode cX7_rebuild 149 = .ok (.iconst 1, 1) := by decide +kernel
theorem dX7_rebuild_150 : decode cX7_rebuild 150 = .ok (.iadd, 1) := by decide +kernel
theorem dX7_rebuild_151 : decode cX7_rebuild 151 = .ok (.invokevirtual 47, 3) := by decide +kernel
theorem dX7_rebuild_154 : decode cX7_rebuild 154 = .ok (.aload_n 0, 1) := by decide +kernel
theorem dX7_rebuild_155 : decode cX7_rebuild 155 = .ok (.iload 7, 2) := by decide +kernel
theorem dX7_rebuild_157 : decode cX7_rebuild 157 = .ok (.iload_n 2, 1) := by decide +kernel
theorem dX7_rebuild_158 : decode cX7_rebuild 158 = .ok (.iconst 1, 1) := by decide +kernel
theorem dX7_rebuild_159 : decode cX7_rebuild 159 = .ok (.ishr, 1) := by decide +kernel
theorem dX7_rebuild_160 : decode cX7_rebuild 160 = .ok (.iconst 1, 1) := by decide +kernel
theorem dX7_rebuild_161 : decode cX7_rebuild 161 = .ok (.iand, 1) := by decide +kernel
theorem dX7_rebuild_162 : decode cX7_rebuild 162 = .ok (.iconst 1, 1) := by decide +kernel
theorem dX7_rebuild_163 : decode cX7_rebuild 163 = .ok (.iadd, 1) := by decide +kernel
theorem dX7_rebuild_164 : decode cX7_rebuild 164 = .ok (.invokevirtual 47, 3) := by decide +kernel
theorem dX7_rebuild_167 : decode cX7_rebuild 167 = .ok (.return_, 1) := by decide +kernel
theorem dX7_makePlain_0 : decode cX7_makePlain 0 = .ok (.iconst 0, 1) := by decide +kernel
theorem dX7_makePlain_1 : decode cX7_makePlain 1 = .ok (.istore_n 2, 1) := by decide +kernel
theorem dX7_makePlain_2 : decode cX7_makePlain 2 = .ok (.iload_n 2, 1) := by decide +kernel
theorem dX7_makePlain_3 : decode cX7_makePlain 3 = .ok (.bipush 60, 2) := by decide +kernel
theorem dX7_makePlain_5 : decode cX7_makePlain 5 = .ok (.if_icmp .gt 29, 3) := by decide +kernel
theorem dX7_makePlain_8 : decode cX7_makePlain 8 = .ok (.aload_n 0, 1) := by decide +kernel
theorem dX7_makePlain_9 : decode cX7_makePlain 9 = .ok (.iconst 0, 1) := by decide +kernel
theorem dX7_makePlain_10 : decode cX7_makePlain 10 = .ok (.aload_n 1, 1) := by decide +kernel
theorem dX7_makePlain_11 : decode cX7_makePlain 11 = .ok (.invokevirtual 74, 3) := by decide +kernel
theorem dX7_makePlain_14 : decode cX7_makePlain 14 = .ok (.istore_n 3, 1) := by decide +kernel
theorem dX7_makePlain_15 : decode cX7_makePlain 15 = .ok (.iload_n 3, 1) := by decide +kernel
theorem dX7_makePlain_16 : decode cX7_makePlain 16 = .ok (.iconst (-1), 1) := by decide +kernel
theorem dX7_makePlain_17 : decode cX7_makePlain 17 = .ok (.if_icmp .ne 5, 3) := by decide +kernel
theorem dX7_makePlain_20 : decode cX7_makePlain 20 = .ok (.iload_n 2, 1) := by decide +kernel
theorem dX7_makePlain_21 : decode cX7_makePlain 21 = .ok (.ireturn, 1) := by decide +kernel
theorem dX7_makePlain_22 : decode cX7_makePlain 22 = .ok (.aload_n 0, 1) := by decide +kernel
theorem dX7_makePlain_23 : decode cX7_makePlain 23 = .ok (.iload_n 3, 1) := by decide +kernel
theorem dX7_makePlain_24 : decode cX7_makePlain 24 = .ok (.aload_n 1, 1) := by decide +kernel
theorem dX7_makePlain_25 : decode cX7_makePlain 25 = .ok (.invokevirtual 78, 3) := by decide +kernel
theorem dX7_makePlain_28 : decode cX7_makePlain 28 = .ok (.iinc 2 1, 3) := by decide +kernel
theorem dX7_makePlain_31 : decode cX7_makePlain 31 = .ok (.goto (-29), 3) := by decide +kernel
theorem dX7_makePlain_34 : decode cX7_makePlain 34 = .ok (.iconst (-1), 1) := by decide +kernel
theorem dX7_makePlain_35 : decode cX7_makePlain 35 = .ok (.ireturn, 1) := by decide +kernel
theorem dX7_handDown_0 : decode cX7_handDown 0 = .ok (.iload_n 1, 1) := by decide +kernel
theorem dX7_handDown_1 : decode cX7_handDown 1 = .ok (.ifCond .lt 16, 3) := by decide +kernel
theorem dX7_handDown_4 : decode cX7_handDown 4 = .ok (.iload_n 1, 1) := by decide +kernel
theorem dX7_handDown_5 : decode cX7_handDown 5 = .ok (.bipush 13, 2) := by decide +kernel
theorem dX7_handDown_7 : decode cX7_handDown 7 = .ok (.if_icmp .ge 10, 3) := by decide +kernel
theorem dX7_handDown_10 : decode cX7_handDown 10 = .ok (.aload_n 0, 1) := by decide +kernel
theorem dX7_handDown_11 : decode cX7_handDown 11 = .ok (.getfield 15, 3) := by decide +kernel
theorem dX7_handDown_14 : decode cX7_handDown 14 = .ok (.iload_n 1, 1) := by decide +kernel
theorem dX7_handDown_15 : decode cX7_handDown 15 = .ok (.iload_n 2, 1) := by decide +kernel
theorem dX7_handDown_16 : decode cX7_handDown 16 = .ok (.iastore, 1) := by decide +kernel
theorem dX7_handDown_17 : decode cX7_handDown 17 = .ok (.return_, 1) := by decide +kernel
theorem dX7_height_0 : decode cX7_height 0 = .ok (.iconst 0, 1) := by decide +kernel
theorem dX7_height_1 : decode cX7_height 1 = .ok (.istore_n 1, 1) := by decide +kernel
theorem dX7_height_2 : decode cX7_height 2 = .ok (.aload_n 0, 1) := by decide +kernel
theorem dX7_height_3 : decode cX7_height 3 = .ok (.iconst 0, 1) := by decide +kernel
theorem dX7_height_4 : decode cX7_height 4 = .ok (.iconst 1, 1) := by decide +kernel
theorem dX7_height_5 : decode cX7_height 5 = .ok (.invokevirtual 82, 3) := by decide +kernel
theorem dX7_height_8 : decode cX7_height 8 = .ok (.iconst 0, 1) := by decide +kernel
theorem dX7_height_9 : decode cX7_height 9 = .ok (.istore_n 2, 1) := by decide +kernel
theorem dX7_height_10 : decode cX7_height 10 = .ok (.iload_n 2, 1) := by decide +kernel
theorem dX7_height_11 : decode cX7_height 11 = .ok (.aload_n 0, 1) := by decide +kernel
theorem dX7_height_12 : decode cX7_height 12 = .ok (.getfield 18, 3) := by decide +kernel
theorem dX7_height_15 : decode cX7_height 15 = .ok (.if_icmp .ge 60, 3) := by decide +kernel
theorem dX7_height_18 : decode cX7_height 18 = .ok (.iload_n 2, 1) := by decide +kernel
theorem dX7_height_19 : decode cX7_height 19 = .ok (.bipush 13, 2) := by decide +kernel
theorem dX7_height_21 : decode cX7_height 21 = .ok (.if_icmp .ge 54, 3) := by decide +kernel
theorem dX7_height_24 : decode cX7_height 24 = .ok (.aload_n 0, 1) := by decide +kernel
theorem dX7_height_25 : decode cX7_height 25 = .ok (.iload_n 2, 1) := by decide +kernel
theorem dX7_height_26 : decode cX7_height 26 = .ok (.invokevirtual 43, 3) := by decide +kernel
theorem dX7_height_29 : decode cX7_height 29 = .ok (.ifCond .eq 40, 3) := by decide +kernel
theorem dX7_height_32 : decode cX7_height 32 = .ok (.aload_n 0, 1) := by decide +kernel
theorem dX7_height_33 : decode cX7_height 33 = .ok (.getfield 15, 3) := by decide +kernel
theorem dX7_height_36 : decode cX7_height 36 = .ok (.iload_n 2, 1) := by decide +kernel
theorem dX7_height_37 : decode cX7_height 37 = .ok (.iaload, 1) := by decide +kernel
theorem dX7_height_38 : decode cX7_height 38 = .ok (.istore_n 3, 1) := by decide +kernel
theorem dX7_height_39 : decode cX7_height 39 = .ok (.iload_n 1, 1) := by decide +kernel
theorem dX7_height_40 : decode cX7_height 40 = .ok (.iload_n 3, 1) := by decide +kernel
theorem dX7_height_41 : decode cX7_height 41 = .ok (.invokestatic 85, 3) := by decide +kernel
theorem dX7_height_44 : decode cX7_height 44 = .ok (.istore_n 1, 1) := by decide +kernel
theorem dX7_height_45 : decode cX7_height 45 = .ok (.aload_n 0, 1) := by decide +kernel
theorem dX7_height_46 : decode cX7_height 46 = .ok (.iload_n 2, 1) := by decide +kernel
theorem dX7_height_47 : decode cX7_height 47 = .ok (.iconst 1, 1) := by decide +kernel
theorem dX7_height_48 : decode cX7_height 48 = .ok (.iadd, 1) := by decide +kernel
theorem dX7_height_49 : decode cX7_height 49 = .ok (.iload_n 3, 1) := by decide +kernel
theorem dX7_height_50 : decode cX7_height 50 = .ok (.iconst 1, 1) := by decide +kernel
theorem dX7_height_51 : decode cX7_height 51 = .ok (.iadd, 1) := by decide +kernel
theorem dX7_height_52 : decode cX7_height 52 = .ok (.invokevirtual 82, 3) := by decide +kernel
theorem dX7_height_55 : decode cX7_height 55 = .ok (.aload_n 0, 1) := by decide +kernel
theorem dX7_height_56 : decode cX7_height 56 = .ok (.aload_n 0, 1) := by decide +kernel
theorem dX7_height_57 : decode cX7_height 57 = .ok (.iload_n 2, 1) := by decide +kernel
theorem dX7_height_58 : decode cX7_height 58 = .ok (.iconst 1, 1) := by decide +kernel
theorem dX7_height_59 : decode cX7_height 59 = .ok (.iadd, 1) := by decide +kernel
theorem dX7_height_60 : decode cX7_height 60 = .ok (.invokevirtual 51, 3) := by decide +kernel
theorem dX7_height_63 : decode cX7_height 63 = .ok (.iload_n 3, 1) := by decide +kernel
theorem dX7_height_64 : decode cX7_height 64 = .ok (.iconst 1, 1) := by decide +kernel
theorem dX7_height_65 : decode cX7_height 65 = .ok (.iadd, 1) := by decide +kernel
theorem dX7_height_66 : decode cX7_height 66 = .ok (.invokevirtual 82, 3) := by decide +kernel
theorem dX7_height_69 : decode cX7_height 69 = .ok (.iinc 2 1, 3) := by decide +kernel
theorem dX7_height_72 : decode cX7_height 72 = .ok (.goto (-62), 3) := by decide +kernel
theorem dX7_height_75 : decode cX7_height 75 = .ok (.iload_n 1, 1) := by decide +kernel
theorem dX7_height_76 : decode cX7_height 76 = .ok (.ireturn, 1) := by decide +kernel
theorem dX7_mirrorOf_0 : decode cX7_mirrorOf 0 = .ok (.aload_n 0, 1) := by decide +kernel
theorem dX7_mirrorOf_1 : decode cX7_mirrorOf 1 = .ok (.aload_n 1, 1) := by decide +kernel
theorem dX7_mirrorOf_2 : decode cX7_mirrorOf 2 = .ok (.invokevirtual 91, 3) := by decide +kernel
theorem dX7_mirrorOf_5 : decode cX7_mirrorOf 5 = .ok (.aload_n 0, 1) := by decide +kernel
theorem dX7_mirrorOf_6 : decode cX7_mirrorOf 6 = .ok (.iconst 0, 1) := by decide +kernel
theorem dX7_mirrorOf_7 : decode cX7_mirrorOf 7 = .ok (.iconst 0, 1) := by decide +kernel
theorem dX7_mirrorOf_8 : decode cX7_mirrorOf 8 = .ok (.invokevirtual 82, 3) := by decide +kernel
theorem dX7_mirrorOf_11 : decode cX7_mirrorOf 11 = .ok (.iconst 0, 1) := by decide +kernel
theorem dX7_mirrorOf_12 : decode cX7_mirrorOf 12 = .ok (.istore_n 2, 1) := by decide +kernel
theorem dX7_mirrorOf_13 : decode cX7_mirrorOf 13 = .ok (.iload_n 2, 1) := by decide +kernel
theorem dX7_mirrorOf_14 : decode cX7_mirrorOf 14 = .ok (.aload_n 1, 1) := by decide +kernel
theorem dX7_mirrorOf_15 : decode cX7_mirrorOf 15 = .ok (.getfield 18, 3) := by decide +kernel
theorem dX7_mirrorOf_18 : decode cX7_mirrorOf 18 = .ok (.if_icmp .ge 82, 3) := by decide +kernel
theorem dX7_mirrorOf_21 : decode cX7_mirrorOf 21 = .ok (.iload_n 2, 1) := by decide +kernel
theorem dX7_mirrorOf_22 : decode cX7_mirrorOf 22 = .ok (.bipush 13, 2) := by decide +kernel
theorem dX7_mirrorOf_24 : decode cX7_mirrorOf 24 = .ok (.if_icmp .ge 76, 3) := by decide +kernel
theorem dX7_mirrorOf_27 : decode cX7_mirrorOf 27 = .ok (.aload_n 0, 1) := by decide +kernel
theorem dX7_mirrorOf_28 : decode cX7_mirrorOf 28 = .ok (.getfield 15, 3) := by decide +kernel
theorem dX7_mirrorOf_31 : decode cX7_mirrorOf 31 = .ok (.iload_n 2, 1) := by decide +kernel
theorem dX7_mirrorOf_32 : decode cX7_mirrorOf 32 = .ok (.iaload, 1) := by decide +kernel
theorem dX7_mirrorOf_33 : decode cX7_mirrorOf 33 = .ok (.istore_n 3, 1) := by decide +kernel
theorem dX7_mirrorOf_34 : decode cX7_mirrorOf 34 = .ok (.aload_n 0, 1) := by decide +kernel
theorem dX7_mirrorOf_35 : decode cX7_mirrorOf 35 = .ok (.iload_n 3, 1) := by decide +kernel
theorem dX7_mirrorOf_36 : decode cX7_mirrorOf 36 = .ok (.aload_n 1, 1) := by decide +kernel
theorem dX7_mirrorOf_37 : decode cX7_mirrorOf 37 = .ok (.iload_n 2, 1) := by decide +kernel
theorem dX7_mirrorOf_38 : decode cX7_mirrorOf 38 = .ok (.invokevirtual 32, 3) := by decide +kernel
theorem dX7_mirrorOf_41 : decode cX7_mirrorOf 41 = .ok (.invokevirtual 47, 3) := by decide +kernel
theorem dX7_mirrorOf_44 : decode cX7_mirrorOf 44 = .ok (.aload_n 1, 1) := by decide +kernel
theorem dX7_mirrorOf_45 : decode cX7_mirrorOf 45 = .ok (.iload_n 2, 1) := by decide +kernel
theorem dX7_mirrorOf_46 : decode cX7_mirrorOf 46 = .ok (.invokevirtual 43, 3) := by decide +kernel
theorem dX7_mirrorOf_49 : decode cX7_mirrorOf 49 = .ok (.ifCond .eq 45, 3) := by decide +kernel
theorem dX7_mirrorOf_52 : decode cX7_mirrorOf 52 = .ok (.aload_n 1, 1) := by decide +kernel
theorem dX7_mirrorOf_53 : decode cX7_mirrorOf 53 = .ok (.iload_n 2, 1) := by decide +kernel
theorem dX7_mirrorOf_54 : decode cX7_mirrorOf 54 = .ok (.iconst 1, 1) := by decide +kernel
theorem dX7_mirrorOf_55 : decode cX7_mirrorOf 55 = .ok (.iadd, 1) := by decide +kernel
theorem dX7_mirrorOf_56 : decode cX7_mirrorOf 56 = .ok (.invokevirtual 51, 3) := by decide +kernel
theorem dX7_mirrorOf_59 : decode cX7_mirrorOf 59 = .ok (.istore 4, 2) := by decide +kernel
theorem dX7_mirrorOf_61 : decode cX7_mirrorOf 61 = .ok (.aload_n 1, 1) := by decide +kernel
theorem dX7_mirrorOf_62 : decode cX7_mirrorOf 62 = .ok (.iload 4, 2) := by decide +kernel
theorem dX7_mirrorOf_64 : decode cX7_mirrorOf 64 = .ok (.invokevirtual 51, 3) := by decide +kernel
theorem dX7_mirrorOf_67 : decode cX7_mirrorOf 67 = .ok (.iload 4, 2) := by decide +kernel
theorem dX7_mirrorOf_69 : decode cX7_mirrorOf 69 = .ok (.isub, 1) := by decide +kernel
theorem dX7_mirrorOf_70 : decode cX7_mirrorOf 70 = .ok (.istore 5, 2) := by decide +kernel
theorem dX7_mirrorOf_72 : decode cX7_mirrorOf 72 = .ok (.aload_n 0, 1) := by decide +kernel
theorem dX7_mirrorOf_73 : decode cX7_mirrorOf 73 = .ok (.iload 4, 2) := by decide +kernel
theorem dX7_mirrorOf_75 : decode cX7_mirrorOf 75 = .ok (.iload_n 3, 1) := by decide +kernel
theorem dX7_mirrorOf_76 : decode cX7_mirrorOf 76 = .ok (.iconst 1, 1) := by decide +kernel
theorem dX7_mirrorOf_77 : decode cX7_mirrorOf 77 = .ok (.iadd, 1) := by decide +kernel
theorem dX7_mirrorOf_78 : decode cX7_mirrorOf 78 = .ok (.invokevirtual 82, 3) := by decide +kernel
theorem dX7_mirrorOf_81 : decode cX7_mirrorOf 81 = .ok (.aload_n 0, 1) := by decide +kernel
theorem dX7_mirrorOf_82 : decode cX7_mirrorOf 82 = .ok (.iload_n 2, 1) := by decide +kernel
theorem dX7_mirrorOf_83 : decode cX7_mirrorOf 83 = .ok (.iconst 1, 1) := by decide +kernel
theorem dX7_mirrorOf_84 : decode cX7_mirrorOf 84 = .ok (.iadd, 1) := by decide +kernel
theorem dX7_mirrorOf_85 : decode cX7_mirrorOf 85 = .ok (.iload_n 3, 1) := by decide +kernel
theorem dX7_mirrorOf_86 : decode cX7_mirrorOf 86 = .ok (.iconst 1, 1) := by decide +kernel
theorem dX7_mirrorOf_87 : decode cX7_mirrorOf 87 = .ok (.iadd, 1) := by decide +kernel
theorem dX7_mirrorOf_88 : decode cX7_mirrorOf 88 = .ok (.iload 5, 2) := by decide +kernel
theorem dX7_mirrorOf_90 : decode cX7_mirrorOf 90 = .ok (.iadd, 1) := by decide +kernel
theorem dX7_mirrorOf_91 : decode cX7_mirrorOf 91 = .ok (.invokevirtual 82, 3) := by decide +kernel
theorem dX7_mirrorOf_94 : decode cX7_mirrorOf 94 = .ok (.iinc 2 1, 3) := by decide +kernel
theorem dX7_mirrorOf_97 : decode cX7_mirrorOf 97 = .ok (.goto (-84), 3) := by decide +kernel
theorem dX7_mirrorOf_100 : decode cX7_mirrorOf 100 = .ok (.return_, 1) := by decide +kernel
theorem dX6_init_0 : decode cX6_init 0 = .ok (.aload_n 0, 1) := by decide +kernel
theorem dX6_init_1 : decode cX6_init 1 = .ok (.invokespecial 3, 3) := by decide +kernel
theorem dX6_init_4 : decode cX6_init 4 = .ok (.aload_n 0, 1) := by decide +kernel
theorem dX6_init_5 : decode cX6_init 5 = .ok (.new 9, 3) := by decide +kernel
theorem dX6_init_8 : decode cX6_init 8 = .ok (.dup, 1) := by decide +kernel
theorem dX6_init_9 : decode cX6_init 9 = .ok (.invokespecial 11, 3) := by decide +kernel
theorem dX6_init_12 : decode cX6_init 12 = .ok (.putfield 12, 3) := by decide +kernel
theorem dX6_init_15 : decode cX6_init 15 = .ok (.aload_n 0, 1) := by decide +kernel
theorem dX6_init_16 : decode cX6_init 16 = .ok (.bipush 8, 2) := by decide +kernel
theorem dX6_init_18 : decode cX6_init 18 = .ok (.newarray .int, 2) := by decide +kernel
theorem dX6_init_20 : decode cX6_init 20 = .ok (.putfield 18, 3) := by decide +kernel
theorem dX6_init_23 : decode cX6_init 23 = .ok (.aload_n 0, 1) := by decide +kernel
theorem dX6_init_24 : decode cX6_init 24 = .ok (.bipush 8, 2) := by decide +kernel
theorem dX6_init_26 : decode cX6_init 26 = .ok (.newarray .int, 2) := by decide +kernel
theorem dX6_init_28 : decode cX6_init 28 = .ok (.putfield 22, 3) := by decide +kernel
theorem dX6_init_31 : decode cX6_init 31 = .ok (.aload_n 0, 1) := by decide +kernel
theorem dX6_init_32 : decode cX6_init 32 = .ok (.iconst 0, 1) := by decide +kernel
theorem dX6_init_33 : decode cX6_init 33 = .ok (.putfield 25, 3) := by decide +kernel
theorem dX6_init_36 : decode cX6_init 36 = .ok (.return_, 1) := by decide +kernel
theorem dX6_has_0 : decode cX6_has 0 = .ok (.iload_n 1, 1) := by decide +kernel
theorem dX6_has_1 : decode cX6_has 1 = .ok (.ifCond .lt 21, 3) := by decide +kernel
theorem dX6_has_4 : decode cX6_has 4 = .ok (.iload_n 1, 1) := by decide +kernel
theorem dX6_has_5 : decode cX6_has 5 = .ok (.aload_n 0, 1) := by decide +kernel
theorem dX6_has_6 : decode cX6_has 6 = .ok (.getfield 25, 3) := by decide +kernel
theorem dX6_has_9 : decode cX6_has 9 = .ok (.if_icmp .ge 13, 3) := by decide +kernel
theorem dX6_has_12 : decode cX6_has 12 = .ok (.iload_n 1, 1) := by decide +kernel
theorem dX6_has_13 : decode cX6_has 13 = .ok (.bipush 8, 2) := by decide +kernel
theorem dX6_has_15 : decode cX6_has 15 = .ok (.if_icmp .ge 7, 3) := by decide +kernel
theorem dX6_has_18 : decode cX6_has 18 = .ok (.iconst 1, 1) := by decide +kernel
theorem dX6_has_19 : decode cX6_has 19 = .ok (.goto 4, 3) := by decide +kernel
theorem dX6_has_22 : decode cX6_has 22 = .ok (.iconst 0, 1) := by decide +kernel
theorem dX6_has_23 : decode cX6_has 23 = .ok (.ireturn, 1) := by decide +kernel
theorem dX6_isFull_0 : decode cX6_isFull 0 = .ok (.aload_n 0, 1) := by decide +kernel
theorem dX6_isFull_1 : decode cX6_isFull 1 = .ok (.getfield 25, 3) := by decide +kernel
theorem dX6_isFull_4 : decode cX6_isFull 4 = .ok (.bipush 8, 2) := by decide +kernel
theorem dX6_isFull_6 : decode cX6_isFull 6 = .ok (.if_icmp .lt 7, 3) := by decide +kernel
theorem dX6_isFull_9 : decode cX6_isFull 9 = .ok (.iconst 1, 1) := by decide +kernel
theorem dX6_isFull_10 : decode cX6_isFull 10 = .ok (.goto 4, 3) := by decide +kernel
theorem dX6_isFull_13 : decode cX6_isFull 13 = .ok (.iconst 0, 1) := by decide +kernel
theorem dX6_isFull_14 : decode cX6_isFull 14 = .ok (.ireturn, 1) := by decide +kernel
theorem dX6_codeOf_0 : decode cX6_codeOf 0 = .ok (.aload_n 0, 1) := by decide +kernel
theorem dX6_codeOf_1 : decode cX6_codeOf 1 = .ok (.iload_n 1, 1) := by decide +kernel
theorem dX6_codeOf_2 : decode cX6_codeOf 2 = .ok (.invokevirtual 29, 3) := by decide +kernel
theorem dX6_codeOf_5 : decode cX6_codeOf 5 = .ok (.ifCond .eq 12, 3) := by decide +kernel
theorem dX6_codeOf_8 : decode cX6_codeOf 8 = .ok (.aload_n 0, 1) := by decide +kernel
theorem dX6_codeOf_9 : decode cX6_codeOf 9 = .ok (.getfield 18, 3) := by decide +kernel
theorem dX6_codeOf_12 : decode cX6_codeOf 12 = .ok (.iload_n 1, 1) := by decide +kernel
theorem dX6_codeOf_13 : decode cX6_codeOf 13 = .ok (.iaload, 1) := by decide +kernel
theorem dX6_codeOf_14 : decode cX6_codeOf 14 = .ok (.goto 4, 3) := by decide +kernel
theorem dX6_codeOf_17 : decode cX6_codeOf 17 = .ok (.iconst 0, 1) := by decide +kernel
theorem dX6_codeOf_18 : decode cX6_codeOf 18 = .ok (.ireturn, 1) := by decide +kernel
theorem dX6_signOf_0 : decode cX6_signOf 0 = .ok (.aload_n 0, 1) := by decide +kernel
theorem dX6_signOf_1 : decode cX6_signOf 1 = .ok (.iload_n 1, 1) := by decide +kernel
theorem dX6_signOf_2 : decode cX6_signOf 2 = .ok (.invokevirtual 29, 3) := by decide +kernel
theorem dX6_signOf_5 : decode cX6_signOf 5 = .ok (.ifCond .eq 12, 3) := by decide +kernel
theorem dX6_signOf_8 : decode cX6_signOf 8 = .ok (.aload_n 0, 1) := by decide +kernel
theorem dX6_signOf_9 : decode cX6_signOf 9 = .ok (.getfield 22, 3) := by decide +kernel
theorem dX6_signOf_12 : decode cX6_signOf 12 = .ok (.iload_n 1, 1) := by decide +kernel
theorem dX6_signOf_13 : decode cX6_signOf 13 = .ok (.iaload, 1) := by decide +kernel
theorem dX6_signOf_14 : decode cX6_signOf 14 = .ok (.goto 4, 3) := by decide +kernel
theorem dX6_signOf_17 : decode cX6_signOf 17 = .ok (.iconst 0, 1) := by decide +kernel
theorem dX6_signOf_18 : decode cX6_signOf 18 = .ok (.ireturn, 1) := by decide +kernel
theorem dX6_lend_0 : decode cX6_lend 0 = .ok (.aload_n 2, 1) := by decide +kernel
theorem dX6_lend_1 : decode cX6_lend 1 = .ok (.aload_n 0, 1) := by decide +kernel
theorem dX6_lend_2 : decode cX6_lend 2 = .ok (.iload_n 1, 1) := by decide +kernel
theorem dX6_lend_3 : decode cX6_lend 3 = .ok (.invokevirtual 33, 3) := by decide +kernel
theorem dX6_lend_6 : decode cX6_lend 6 = .ok (.aload_n 0, 1) := by decide +kernel
theorem dX6_lend_7 : decode cX6_lend 7 = .ok (.iload_n 1, 1) := by decide +kernel
theorem dX6_lend_8 : decode cX6_lend 8 = .ok (.invokevirtual 37, 3) := by decide +kernel
theorem dX6_lend_11 : decode cX6_lend 11 = .ok (.invokevirtual 40, 3) := by decide +kernel
theorem dX6_lend_14 : decode cX6_lend 14 = .ok (.return_, 1) := by decide +kernel
theorem dX6_put_0 : decode cX6_put 0 = .ok (.aload_n 0, 1) := by decide +kernel
theorem dX6_put_1 : decode cX6_put 1 = .ok (.iload_n 1, 1) := by decide +kernel
theorem dX6_put_2 : decode cX6_put 2 = .ok (.invokevirtual 29, 3) := by decide +kernel
theorem dX6_put_5 : decode cX6_put 5 = .ok (.ifCond .eq 23, 3) := by decide +kernel
theorem dX6_put_8 : decode cX6_put 8 = .ok (.aload_n 0, 1) := by decide +kernel
theorem dX6_put_9 : decode cX6_put 9 = .ok (.getfield 18, 3) := by decide +kernel
theorem dX6_put_12 : decode cX6_put 12 = .ok (.iload_n 1, 1) := by decide +kernel
theorem dX6_put_13 : decode cX6_put 13 = .ok (.aload_n 2, 1) := by decide +kernel
theorem dX6_put_14 : decode cX6_put 14 = .ok (.invokevirtual 46, 3) := by decide +kernel
theorem dX6_put_17 : decode cX6_put 17 = .ok (.iastore, 1) := by decide +kernel
theorem dX6_put_18 : decode cX6_put 18 = .ok (.aload_n 0, 1) := by decide +kernel
theorem dX6_put_19 : decode cX6_put 19 = .ok (.getfield 22, 3) := by decide +kernel
theorem dX6_put_22 : decode cX6_put 22 = .ok (.iload_n 1, 1) := by decide +kernel
theorem dX6_put_23 : decode cX6_put 23 = .ok (.aload_n 2, 1) := by decide +kernel
theorem dX6_put_24 : decode cX6_put 24 = .ok (.getfield 50, 3) := by decide +kernel
theorem dX6_put_27 : decode cX6_put 27 = .ok (.iastore, 1) := by decide +kernel
theorem dX6_put_28 : decode cX6_put 28 = .ok (.return_, 1) := by decide +kernel
theorem dX6_add_0 : decode cX6_add 0 = .ok (.aload_n 0, 1) := by decide +kernel
theorem dX6_add_1 : decode cX6_add 1 = .ok (.invokevirtual 53, 3) := by decide +kernel
theorem dX6_add_4 : decode cX6_add 4 = .ok (.ifCond .eq 6, 3) := by decide +kernel
theorem dX6_add_7 : decode cX6_add 7 = .ok (.ldc 57, 2) := by decide +kernel
theorem dX6_add_9 : decode cX6_add 9 = .ok (.ireturn, 1) := by decide +kernel
theorem dX6_add_10 : decode cX6_add 10 = .ok (.aload_n 0, 1) := by decide +kernel
theorem dX6_add_11 : decode cX6_add 11 = .ok (.dup, 1) := by decide +kernel
theorem dX6_add_12 : decode cX6_add 12 = .ok (.getfield 25, 3) := by decide +kernel
theorem dX6_add_15 : decode cX6_add 15 = .ok (.iconst 1, 1) := by decide +kernel
theorem dX6_add_16 : decode cX6_add 16 = .ok (.iadd, 1) := by decide +kernel
theorem dX6_add_17 : decode cX6_add 17 = .ok (.putfield 25, 3) := by decide +kernel
theorem dX6_add_20 : decode cX6_add 20 = .ok (.aload_n 0, 1) := by decide +kernel
theorem dX6_add_21 : decode cX6_add 21 = .ok (.aload_n 0, 1) := by decide +kernel
theorem dX6_add_22 : decode cX6_add 22 = .ok (.getfield 25, 3) := by decide +kernel
theorem dX6_add_25 : decode cX6_add 25 = .ok (.iconst 1, 1) := by decide +kernel
theorem dX6_add_26 : decode cX6_add 26 = .ok (.isub, 1) := by decide +kernel
theorem dX6_add_27 : decode cX6_add 27 = .ok (.aload_n 1, 1) := by decide +kernel
theorem dX6_add_28 : decode cX6_add 28 = .ok (.invokevirtual 58, 3) := by decide +kernel
theorem dX6_add_31 : decode cX6_add 31 = .ok (.aload_n 0, 1) := by decide +kernel
theorem dX6_add_32 : decode cX6_add 32 = .ok (.getfield 25, 3) := by decide +kernel
theorem dX6_add_35 : decode cX6_add 35 = .ok (.iconst 1, 1) := by decide +kernel
theorem dX6_add_36 : decode cX6_add 36 = .ok (.isub, 1) := by decide +kernel
theorem dX6_add_37 : decode cX6_add 37 = .ok (.ireturn, 1) := by decide +kernel
theorem dX6_remove_0 : decode cX6_remove 0 = .ok (.aload_n 0, 1) := by decide +kernel
theorem dX6_remove_1 : decode cX6_remove 1 = .ok (.iload_n 1, 1) := by decide +kernel
theorem dX6_remove_2 : decode cX6_remove 2 = .ok (.invokevirtual 29, 3) := by decide +kernel
theorem dX6_remove_5 : decode cX6_remove 5 = .ok (.ifCond .ne 4, 3) := by decide +kernel
theorem dX6_remove_8 : decode cX6_remove 8 = .ok (.return_, 1) := by decide +kernel
theorem dX6_remove_9 : decode cX6_remove 9 = .ok (.iload_n 1, 1) := by decide +kernel
theorem dX6_remove_10 : decode cX6_remove 10 = .ok (.istore_n 2, 1) := by decide +kernel
theorem dX6_remove_11 : decode cX6_remove 11 = .ok (.iload_n 2, 1) := by decide +kernel
theorem dX6_remove_12 : decode cX6_remove 12 = .ok (.iconst 1, 1) := by decide +kernel
theorem dX6_remove_13 : decode cX6_remove 13 = .ok (.iadd, 1) := by decide +kernel
theorem dX6_remove_14 : decode cX6_remove 14 = .ok (.aload_n 0, 1) := by decide +kernel
theorem dX6_remove_15 : decode cX6_remove 15 = .ok (.getfield 25, 3) := by decide +kernel
theorem dX6_remove_18 : decode cX6_remove 18 = .ok (.if_icmp .ge 45, 3) := by decide +kernel
theorem dX6_remove_21 : decode cX6_remove 21 = .ok (.iload_n 2, 1) := by decide +kernel
theorem dX6_remove_22 : decode cX6_remove 22 = .ok (.iconst 1, 1) := by decide +kernel
theorem dX6_remove_23 : decode cX6_remove 23 = .ok (.iadd, 1) := by decide +kernel
theorem dX6_remove_24 : decode cX6_remove 24 = .ok (.bipush 8, 2) := by decide +kernel
theorem dX6_remove_26 : decode cX6_remove 26 = .ok (.if_icmp .ge 37, 3) := by decide +kernel
theorem dX6_remove_29 : decode cX6_remove 29 = .ok (.aload_n 0, 1) := by decide +kernel
theorem dX6_remove_30 : decode cX6_remove 30 = .ok (.getfield 18, 3) := by decide +kernel
theorem dX6_remove_33 : decode cX6_remove 33 = .ok (.iload_n 2, 1) := by decide +kernel
theorem dX6_remove_34 : decode cX6_remove 34 = .ok (.aload_n 0, 1) := by decide +kernel
theorem dX6_remove_35 : decode cX6_remove 35 = .ok (.getfield 18, 3) := by decide +kernel
theorem dX6_remove_38 : decode cX6_remove 38 = .ok (.iload_n 2, 1) := by decide +kernel
theorem dX6_remove_39 : decode cX6_remove 39 = .ok (.iconst 1, 1) := by decide +kernel
theorem dX6_remove_40 : decode cX6_remove 40 = .ok (.iadd, 1) := by decide +kernel
theorem dX6_remove_41 : decode cX6_remove 41 = .ok (.iaload, 1) := by decide +kernel
theorem dX6_remove_42 : decode cX6_remove 42 = .ok (.iastore, 1) := by decide +kernel
theorem dX6_remove_43 : decode cX6_remove 43 = .ok (.aload_n 0, 1) := by decide +kernel
theorem dX6_remove_44 : decode cX6_remove 44 = .ok (.getfield 22, 3) := by decide +kernel
theorem dX6_remove_47 : decode cX6_remove 47 = .ok (.iload_n 2, 1) := by decide +kernel
theorem dX6_remove_48 : decode cX6_remove 48 = .ok (.aload_n 0, 1) := by decide +kernel
theorem dX6_remove_49 : decode cX6_remove 49 = .ok (.getfield 22, 3) := by decide +kernel
theorem dX6_remove_52 : decode cX6_remove 52 = .ok (.iload_n 2, 1) := by decide +kernel
theorem dX6_remove_53 : decode cX6_remove 53 = .ok (.iconst 1, 1) := by decide +kernel
theorem dX6_remove_54 : decode cX6_remove 54 = .ok (.iadd, 1) := by decide +kernel
theorem dX6_remove_55 : decode cX6_remove 55 = .ok (.iaload, 1) := by decide +kernel
theorem dX6_remove_56 : decode cX6_remove 56 = .ok (.iastore, 1) := by decide +kernel
theorem dX6_remove_57 : decode cX6_remove 57 = .ok (.iinc 2 1, 3) := by decide +kernel
theorem dX6_remove_60 : decode cX6_remove 60 = .ok (.goto (-49), 3) := by decide +kernel
theorem dX6_remove_63 : decode cX6_remove 63 = .ok (.aload_n 0, 1) := by decide +kernel
theorem dX6_remove_64 : decode cX6_remove 64 = .ok (.dup, 1) := by decide +kernel
theorem dX6_remove_65 : decode cX6_remove 65 = .ok (.getfield 25, 3) := by decide +kernel
theorem dX6_remove_68 : decode cX6_remove 68 = .ok (.iconst 1, 1) := by decide +kernel
theorem dX6_remove_69 : decode cX6_remove 69 = .ok (.isub, 1) := by decide +kernel
theorem dX6_remove_70 : decode cX6_remove 70 = .ok (.putfield 25, 3) := by decide +kernel
theorem dX6_remove_73 : decode cX6_remove 73 = .ok (.return_, 1) := by decide +kernel
theorem dX6_copyFrom_0 : decode cX6_copyFrom 0 = .ok (.iconst 0, 1) := by decide +kernel
theorem dX6_copyFrom_1 : decode cX6_copyFrom 1 = .ok (.istore_n 2, 1) := by decide +kernel
theorem dX6_copyFrom_2 : decode cX6_copyFrom 2 = .ok (.iload_n 2, 1) := by decide +kernel
theorem dX6_copyFrom_3 : decode cX6_copyFrom 3 = .ok (.bipush 8, 2) := by decide +kernel
theorem dX6_copyFrom_5 : decode cX6_copyFrom 5 = .ok (.if_icmp .ge 33, 3) := by decide +kernel
theorem dX6_copyFrom_8 : decode cX6_copyFrom 8 = .ok (.aload_n 0, 1) := by decide +kernel
theorem dX6_copyFrom_9 : decode cX6_copyFrom 9 = .ok (.getfield 18, 3) := by decide +kernel
theorem dX6_copyFrom_12 : decode cX6_copyFrom 12 = .ok (.iload_n 2, 1) := by decide +kernel
theorem dX6_copyFrom_13 : decode cX6_copyFrom 13 = .ok (.aload_n 1, 1) := by decide +kernel
theorem dX6_copyFrom_14 : decode cX6_copyFrom 14 = .ok (.getfield 18, 3) := by decide +kernel
theorem dX6_copyFrom_17 : decode cX6_copyFrom 17 = .ok (.iload_n 2, 1) := by decide +kernel
theorem dX6_copyFrom_18 : decode cX6_copyFrom 18 = .ok (.iaload, 1) := by decide +kernel
theorem dX6_copyFrom_19 : decode cX6_copyFrom 19 = .ok (.iastore, 1) := by decide +kernel
theorem dX6_copyFrom_20 : decode cX6_copyFrom 20 = .ok (.aload_n 0, 1) := by decide +kernel
theorem dX6_copyFrom_21 : decode cX6_copyFrom 21 = .ok (.getfield 22, 3) := by decide +kernel
theorem dX6_copyFrom_24 : decode cX6_copyFrom 24 = .ok (.iload_n 2, 1) := by decide +kernel
theorem dX6_copyFrom_25 : decode cX6_copyFrom 25 = .ok (.aload_n 1, 1) := by decide +kernel
theorem dX6_copyFrom_26 : decode cX6_copyFrom 26 = .ok (.getfield 22, 3) := by decide +kernel
theorem dX6_copyFrom_29 : decode cX6_copyFrom 29 = .ok (.iload_n 2, 1) := by decide +kernel
theorem dX6_copyFrom_30 : decode cX6_copyFrom 30 = .ok (.iaload, 1) := by decide +kernel
theorem dX6_copyFrom_31 : decode cX6_copyFrom 31 = .ok (.iastore, 1) := by decide +kernel
theorem dX6_copyFrom_32 : decode cX6_copyFrom 32 = .ok (.iinc 2 1, 3) := by decide +kernel
theorem dX6_copyFrom_35 : decode cX6_copyFrom 35 = .ok (.goto (-33), 3) := by decide +kernel
theorem dX6_copyFrom_38 : decode cX6_copyFrom 38 = .ok (.aload_n 0, 1) := by decide +kernel
theorem dX6_copyFrom_39 : decode cX6_copyFrom 39 = .ok (.aload_n 1, 1) := by decide +kernel
theorem dX6_copyFrom_40 : decode cX6_copyFrom 40 = .ok (.getfield 25, 3) := by decide +kernel
theorem dX6_copyFrom_43 : decode cX6_copyFrom 43 = .ok (.putfield 25, 3) := by decide +kernel
theorem dX6_copyFrom_46 : decode cX6_copyFrom 46 = .ok (.aload_n 0, 1) := by decide +kernel
theorem dX6_copyFrom_47 : decode cX6_copyFrom 47 = .ok (.getfield 12, 3) := by decide +kernel
theorem dX6_copyFrom_50 : decode cX6_copyFrom 50 = .ok (.aload_n 1, 1) := by decide +kernel
theorem dX6_copyFrom_51 : decode cX6_copyFrom 51 = .ok (.getfield 12, 3) := by decide +kernel
theorem dX6_copyFrom_54 : decode cX6_copyFrom 54 = .ok (.invokevirtual 62, 3) := by decide +kernel
theorem dX6_copyFrom_57 : decode cX6_copyFrom 57 = .ok (.return_, 1) := by decide +kernel
theorem dX0_init_0 : decode cX0_init 0 = .ok (.aload_n 0, 1) := by decide +kernel
theorem dX0_init_1 : decode cX0_init 1 = .ok (.invokespecial 3, 3) := by decide +kernel
theorem dX0_init_4 : decode cX0_init 4 = .ok (.aload_n 0, 1) := by decide +kernel
theorem dX0_init_5 : decode cX0_init 5 = .ok (.bipush 20, 2) := by decide +kernel
theorem dX0_init_7 : decode cX0_init 7 = .ok (.newarray .int, 2) := by decide +kernel
theorem dX0_init_9 : decode cX0_init 9 = .ok (.putfield 9, 3) := by decide +kernel
theorem dX0_init_12 : decode cX0_init 12 = .ok (.aload_n 0, 1) := by decide +kernel
theorem dX0_init_13 : decode cX0_init 13 = .ok (.bipush 20, 2) := by decide +kernel
theorem dX0_init_15 : decode cX0_init 15 = .ok (.newarray .int, 2) := by decide +kernel
theorem dX0_init_17 : decode cX0_init 17 = .ok (.putfield 15, 3) := by decide +kernel
theorem dX0_init_20 : decode cX0_init 20 = .ok (.aload_n 0, 1) := by decide +kernel
theorem dX0_init_21 : decode cX0_init 21 = .ok (.iconst 0, 1) := by decide +kernel
theorem dX0_init_22 : decode cX0_init 22 = .ok (.putfield 18, 3) := by decide +kernel
theorem dX0_init_25 : decode cX0_init 25 = .ok (.return_, 1) := by decide +kernel
theorem dX0_isFull_0 : decode cX0_isFull 0 = .ok (.aload_n 0, 1) := by decide +kernel
theorem dX0_isFull_1 : decode cX0_isFull 1 = .ok (.getfield 18, 3) := by decide +kernel
theorem dX0_isFull_4 : decode cX0_isFull 4 = .ok (.bipush 20, 2) := by decide +kernel
theorem dX0_isFull_6 : decode cX0_isFull 6 = .ok (.if_icmp .lt 7, 3) := by decide +kernel
theorem dX0_isFull_9 : decode cX0_isFull 9 = .ok (.iconst 1, 1) := by decide +kernel
theorem dX0_isFull_10 : decode cX0_isFull 10 = .ok (.goto 4, 3) := by decide +kernel
theorem dX0_isFull_13 : decode cX0_isFull 13 = .ok (.iconst 0, 1) := by decide +kernel
theorem dX0_isFull_14 : decode cX0_isFull 14 = .ok (.ireturn, 1) := by decide +kernel
theorem dX0_add_0 : decode cX0_add 0 = .ok (.aload_n 0, 1) := by decide +kernel
theorem dX0_add_1 : decode cX0_add 1 = .ok (.getfield 18, 3) := by decide +kernel
theorem dX0_add_4 : decode cX0_add 4 = .ok (.ifCond .lt 42, 3) := by decide +kernel
theorem dX0_add_7 : decode cX0_add 7 = .ok (.aload_n 0, 1) := by decide +kernel
theorem dX0_add_8 : decode cX0_add 8 = .ok (.getfield 18, 3) := by decide +kernel
theorem dX0_add_11 : decode cX0_add 11 = .ok (.bipush 20, 2) := by decide +kernel
theorem dX0_add_13 : decode cX0_add 13 = .ok (.if_icmp .ge 33, 3) := by decide +kernel
theorem dX0_add_16 : decode cX0_add 16 = .ok (.aload_n 0, 1) := by decide +kernel
theorem dX0_add_17 : decode cX0_add 17 = .ok (.getfield 9, 3) := by decide +kernel
theorem dX0_add_20 : decode cX0_add 20 = .ok (.aload_n 0, 1) := by decide +kernel
theorem dX0_add_21 : decode cX0_add 21 = .ok (.getfield 18, 3) := by decide +kernel
theorem dX0_add_24 : decode cX0_add 24 = .ok (.iload_n 1, 1) := by decide +kernel
theorem dX0_add_25 : decode cX0_add 25 = .ok (.iastore, 1) := by decide +kernel
theorem dX0_add_26 : decode cX0_add 26 = .ok (.aload_n 0, 1) := by decide +kernel
theorem dX0_add_27 : decode cX0_add 27 = .ok (.getfield 15, 3) := by decide +kernel
theorem dX0_add_30 : decode cX0_add 30 = .ok (.aload_n 0, 1) := by decide +kernel
theorem dX0_add_31 : decode cX0_add 31 = .ok (.getfield 18, 3) := by decide +kernel
theorem dX0_add_34 : decode cX0_add 34 = .ok (.iload_n 2, 1) := by decide +kernel
theorem dX0_add_35 : decode cX0_add 35 = .ok (.iastore, 1) := by decide +kernel
theorem dX0_add_36 : decode cX0_add 36 = .ok (.aload_n 0, 1) := by decide +kernel
theorem dX0_add_37 : decode cX0_add 37 = .ok (.dup, 1) := by decide +kernel
theorem dX0_add_38 : decode cX0_add 38 = .ok (.getfield 18, 3) := by decide +kernel
theorem dX0_add_41 : decode cX0_add 41 = .ok (.iconst 1, 1) := by decide +kernel
theorem dX0_add_42 : decode cX0_add 42 = .ok (.iadd, 1) := by decide +kernel
theorem dX0_add_43 : decode cX0_add 43 = .ok (.putfield 18, 3) := by decide +kernel
theorem dX0_add_46 : decode cX0_add 46 = .ok (.return_, 1) := by decide +kernel
theorem dX0_firstWrong_0 : decode cX0_firstWrong 0 = .ok (.iconst 0, 1) := by decide +kernel
theorem dX0_firstWrong_1 : decode cX0_firstWrong 1 = .ok (.istore_n 2, 1) := by decide +kernel
theorem dX0_firstWrong_2 : decode cX0_firstWrong 2 = .ok (.iload_n 2, 1) := by decide +kernel
theorem dX0_firstWrong_3 : decode cX0_firstWrong 3 = .ok (.aload_n 0, 1) := by decide +kernel
theorem dX0_firstWrong_4 : decode cX0_firstWrong 4 = .ok (.getfield 18, 3) := by decide +kernel
theorem dX0_firstWrong_7 : decode cX0_firstWrong 7 = .ok (.if_icmp .ge 49, 3) := by decide +kernel
theorem dX0_firstWrong_10 : decode cX0_firstWrong 10 = .ok (.iload_n 2, 1) := by decide +kernel
theorem dX0_firstWrong_11 : decode cX0_firstWrong 11 = .ok (.bipush 20, 2) := by decide +kernel
theorem dX0_firstWrong_13 : decode cX0_firstWrong 13 = .ok (.if_icmp .ge 43, 3) := by decide +kernel
theorem dX0_firstWrong_16 : decode cX0_firstWrong 16 = .ok (.aload_n 1, 1) := by decide +kernel
theorem dX0_firstWrong_17 : decode cX0_firstWrong 17 = .ok (.aload_n 0, 1) := by decide +kernel
theorem dX0_firstWrong_18 : decode cX0_firstWrong 18 = .ok (.getfield 9, 3) := by decide +kernel
theorem dX0_firstWrong_21 : decode cX0_firstWrong 21 = .ok (.iload_n 2, 1) := by decide +kernel
theorem dX0_firstWrong_22 : decode cX0_firstWrong 22 = .ok (.iaload, 1) := by decide +kernel
theorem dX0_firstWrong_23 : decode cX0_firstWrong 23 = .ok (.invokevirtual 22, 3) := by decide +kernel
theorem dX0_firstWrong_26 : decode cX0_firstWrong 26 = .ok (.ifCond .eq 22, 3) := by decide +kernel
theorem dX0_firstWrong_29 : decode cX0_firstWrong 29 = .ok (.aload_n 1, 1) := by decide +kernel
theorem dX0_firstWrong_30 : decode cX0_firstWrong 30 = .ok (.aload_n 0, 1) := by decide +kernel
theorem dX0_firstWrong_31 : decode cX0_firstWrong 31 = .ok (.getfield 9, 3) := by decide +kernel
theorem dX0_firstWrong_34 : decode cX0_firstWrong 34 = .ok (.iload_n 2, 1) := by decide +kernel
theorem dX0_firstWrong_35 : decode cX0_firstWrong 35 = .ok (.iaload, 1) := by decide +kernel
theorem dX0_firstWrong_36 : decode cX0_firstWrong 36 = .ok (.invokevirtual 28, 3) := by decide +kernel
theorem dX0_firstWrong_39 : decode cX0_firstWrong 39 = .ok (.aload_n 0, 1) := by decide +kernel
theorem dX0_firstWrong_40 : decode cX0_firstWrong 40 = .ok (.getfield 15, 3) := by decide +kernel
theorem dX0_firstWrong_43 : decode cX0_firstWrong 43 = .ok (.iload_n 2, 1) := by decide +kernel
theorem dX0_firstWrong_44 : decode cX0_firstWrong 44 = .ok (.iaload, 1) := by decide +kernel
theorem dX0_firstWrong_45 : decode cX0_firstWrong 45 = .ok (.if_icmp .eq 5, 3) := by decide +kernel
theorem dX0_firstWrong_48 : decode cX0_firstWrong 48 = .ok (.iload_n 2, 1) := by decide +kernel
theorem dX0_firstWrong_49 : decode cX0_firstWrong 49 = .ok (.ireturn, 1) := by decide +kernel
theorem dX0_firstWrong_50 : decode cX0_firstWrong 50 = .ok (.iinc 2 1, 3) := by decide +kernel
theorem dX0_firstWrong_53 : decode cX0_firstWrong 53 = .ok (.goto (-51), 3) := by decide +kernel
theorem dX0_firstWrong_56 : decode cX0_firstWrong 56 = .ok (.iconst (-1), 1) := by decide +kernel
theorem dX0_firstWrong_57 : decode cX0_firstWrong 57 = .ok (.ireturn, 1) := by decide +kernel
theorem dX1_init_0 : decode cX1_init 0 = .ok (.aload_n 0, 1) := by decide +kernel
theorem dX1_init_1 : decode cX1_init 1 = .ok (.invokespecial 3, 3) := by decide +kernel
theorem dX1_init_4 : decode cX1_init 4 = .ok (.aload_n 0, 1) := by decide +kernel
theorem dX1_init_5 : decode cX1_init 5 = .ok (.bipush 20, 2) := by decide +kernel
theorem dX1_init_7 : decode cX1_init 7 = .ok (.anewarray 9, 3) := by decide +kernel
theorem dX1_init_10 : decode cX1_init 10 = .ok (.putfield 11, 3) := by decide +kernel
theorem dX1_init_13 : decode cX1_init 13 = .ok (.aload_n 0, 1) := by decide +kernel
theorem dX1_init_14 : decode cX1_init 14 = .ok (.iconst 0, 1) := by decide +kernel
theorem dX1_init_15 : decode cX1_init 15 = .ok (.putfield 17, 3) := by decide +kernel
theorem dX1_init_18 : decode cX1_init 18 = .ok (.aload_n 0, 1) := by decide +kernel
theorem dX1_init_19 : decode cX1_init 19 = .ok (.iconst 0, 1) := by decide +kernel
theorem dX1_init_20 : decode cX1_init 20 = .ok (.putfield 21, 3) := by decide +kernel
theorem dX1_init_23 : decode cX1_init 23 = .ok (.iconst 0, 1) := by decide +kernel
theorem dX1_init_24 : decode cX1_init 24 = .ok (.istore_n 1, 1) := by decide +kernel
theorem dX1_init_25 : decode cX1_init 25 = .ok (.iload_n 1, 1) := by decide +kernel
theorem dX1_init_26 : decode cX1_init 26 = .ok (.bipush 20, 2) := by decide +kernel
theorem dX1_init_28 : decode cX1_init 28 = .ok (.if_icmp .ge 22, 3) := by decide +kernel
theorem dX1_init_31 : decode cX1_init 31 = .ok (.aload_n 0, 1) := by decide +kernel
theorem dX1_init_32 : decode cX1_init 32 = .ok (.getfield 11, 3) := by decide +kernel
theorem dX1_init_35 : decode cX1_init 35 = .ok (.iload_n 1, 1) := by decide +kernel
theorem dX1_init_36 : decode cX1_init 36 = .ok (.new 9, 3) := by decide +kernel
theorem dX1_init_39 : decode cX1_init 39 = .ok (.dup, 1) := by decide +kernel
theorem dX1_init_40 : decode cX1_init 40 = .ok (.invokespecial 24, 3) := by decide +kernel
theorem dX1_init_43 : decode cX1_init 43 = .ok (.aastore, 1) := by decide +kernel
theorem dX1_init_44 : decode cX1_init 44 = .ok (.iinc 1 1, 3) := by decide +kernel
theorem dX1_init_47 : decode cX1_init 47 = .ok (.goto (-22), 3) := by decide +kernel
theorem dX1_init_50 : decode cX1_init 50 = .ok (.return_, 1) := by decide +kernel
theorem dX1_forget_0 : decode cX1_forget 0 = .ok (.aload_n 0, 1) := by decide +kernel
theorem dX1_forget_1 : decode cX1_forget 1 = .ok (.iconst 0, 1) := by decide +kernel
theorem dX1_forget_2 : decode cX1_forget 2 = .ok (.putfield 21, 3) := by decide +kernel
theorem dX1_forget_5 : decode cX1_forget 5 = .ok (.return_, 1) := by decide +kernel
theorem dX1_record_0 : decode cX1_record 0 = .ok (.aload_n 0, 1) := by decide +kernel
theorem dX1_record_1 : decode cX1_record 1 = .ok (.aload_n 0, 1) := by decide +kernel
theorem dX1_record_2 : decode cX1_record 2 = .ok (.getfield 17, 3) := by decide +kernel
theorem dX1_record_5 : decode cX1_record 5 = .ok (.invokevirtual 25, 3) := by decide +kernel
theorem dX1_record_8 : decode cX1_record 8 = .ok (.astore_n 2, 1) := by decide +kernel
theorem dX1_record_9 : decode cX1_record 9 = .ok (.aload_n 2, 1) := by decide +kernel
theorem dX1_record_10 : decode cX1_record 10 = .ok (.ifnull 8, 3) := by decide +kernel
theorem dX1_record_13 : decode cX1_record 13 = .ok (.aload_n 2, 1) := by decide +kernel
theorem dX1_record_14 : decode cX1_record 14 = .ok (.aload_n 1, 1) := by decide +kernel
theorem dX1_record_15 : decode cX1_record 15 = .ok (.invokevirtual 29, 3) := by decide +kernel
theorem dX1_record_18 : decode cX1_record 18 = .ok (.aload_n 0, 1) := by decide +kernel
theorem dX1_record_19 : decode cX1_record 19 = .ok (.aload_n 0, 1) := by decide +kernel
theorem dX1_record_20 : decode cX1_record 20 = .ok (.getfield 17, 3) := by decide +kernel
theorem dX1_record_23 : decode cX1_record 23 = .ok (.iconst 1, 1) := by decide +kernel
theorem dX1_record_24 : decode cX1_record 24 = .ok (.iadd, 1) := by decide +kernel
theorem dX1_record_25 : decode cX1_record 25 = .ok (.bipush 20, 2) := by decide +kernel
theorem dX1_record_27 : decode cX1_record 27 = .ok (.irem, 1) := by decide +kernel
theorem dX1_record_28 : decode cX1_record 28 = .ok (.putfield 17, 3) := by decide +kernel
theorem dX1_record_31 : decode cX1_record 31 = .ok (.aload_n 0, 1) := by decide +kernel
theorem dX1_record_32 : decode cX1_record 32 = .ok (.aload_n 0, 1) := by decide +kernel
theorem dX1_record_33 : decode cX1_record 33 = .ok (.getfield 21, 3) := by decide +kernel
theorem dX1_record_36 : decode cX1_record 36 = .ok (.iconst 1, 1) := by decide +kernel
theorem dX1_record_37 : decode cX1_record 37 = .ok (.iadd, 1) := by decide +kernel
theorem dX1_record_38 : decode cX1_record 38 = .ok (.bipush 20, 2) := by decide +kernel
theorem dX1_record_40 : decode cX1_record 40 = .ok (.invokestatic 33, 3) := by decide +kernel
theorem dX1_record_43 : decode cX1_record 43 = .ok (.putfield 21, 3) := by decide +kernel
theorem dX1_record_46 : decode cX1_record 46 = .ok (.return_, 1) := by decide +kernel
theorem dX1_rewind_0 : decode cX1_rewind 0 = .ok (.aload_n 0, 1) := by decide +kernel
theorem dX1_rewind_1 : decode cX1_rewind 1 = .ok (.aload_n 0, 1) := by decide +kernel
theorem dX1_rewind_2 : decode cX1_rewind 2 = .ok (.getfield 17, 3) := by decide +kernel
theorem dX1_rewind_5 : decode cX1_rewind 5 = .ok (.iload_n 1, 1) := by decide +kernel
theorem dX1_rewind_6 : decode cX1_rewind 6 = .ok (.isub, 1) := by decide +kernel
theorem dX1_rewind_7 : decode cX1_rewind 7 = .ok (.bipush 20, 2) := by decide +kernel
theorem dX1_rewind_9 : decode cX1_rewind 9 = .ok (.invokestatic 39, 3) := by decide +kernel
theorem dX1_rewind_12 : decode cX1_rewind 12 = .ok (.putfield 17, 3) := by decide +kernel
theorem dX1_rewind_15 : decode cX1_rewind 15 = .ok (.aload_n 0, 1) := by decide +kernel
theorem dX1_rewind_16 : decode cX1_rewind 16 = .ok (.aload_n 0, 1) := by decide +kernel
theorem dX1_rewind_17 : decode cX1_rewind 17 = .ok (.getfield 21, 3) := by decide +kernel
theorem dX1_rewind_20 : decode cX1_rewind 20 = .ok (.iload_n 1, 1) := by decide +kernel
theorem dX1_rewind_21 : decode cX1_rewind 21 = .ok (.isub, 1) := by decide +kernel
theorem dX1_rewind_22 : decode cX1_rewind 22 = .ok (.iconst 0, 1) := by decide +kernel
theorem dX1_rewind_23 : decode cX1_rewind 23 = .ok (.invokestatic 42, 3) := by decide +kernel
theorem dX1_rewind_26 : decode cX1_rewind 26 = .ok (.putfield 21, 3) := by decide +kernel
theorem dX1_rewind_29 : decode cX1_rewind 29 = .ok (.aload_n 0, 1) := by decide +kernel
theorem dX1_rewind_30 : decode cX1_rewind 30 = .ok (.aload_n 0, 1) := by decide +kernel
theorem dX1_rewind_31 : decode cX1_rewind 31 = .ok (.getfield 17, 3) := by decide +kernel
theorem dX1_rewind_34 : decode cX1_rewind 34 = .ok (.invokevirtual 25, 3) := by decide +kernel
theorem dX1_rewind_37 : decode cX1_rewind 37 = .ok (.astore_n 3, 1) := by decide +kernel
theorem dX1_rewind_38 : decode cX1_rewind 38 = .ok (.aload_n 3, 1) := by decide +kernel
theorem dX1_rewind_39 : decode cX1_rewind 39 = .ok (.ifnull 8, 3) := by decide +kernel
theorem dX1_rewind_42 : decode cX1_rewind 42 = .ok (.aload_n 2, 1) := by decide +kernel
theorem dX1_rewind_43 : decode cX1_rewind 43 = .ok (.aload_n 3, 1) := by decide +kernel
theorem dX1_rewind_44 : decode cX1_rewind 44 = .ok (.invokevirtual 29, 3) := by decide +kernel
theorem dX1_rewind_47 : decode cX1_rewind 47 = .ok (.return_, 1) := by decide +kernel
theorem dX1_slotAt_0 : decode cX1_slotAt 0 = .ok (.iload_n 1, 1) := by decide +kernel
theorem dX1_slotAt_1 : decode cX1_slotAt 1 = .ok (.ifCond .lt 21, 3) := by decide +kernel
theorem dX1_slotAt_4 : decode cX1_slotAt 4 = .ok (.iload_n 1, 1) := by decide +kernel
theorem dX1_slotAt_5 : decode cX1_slotAt 5 = .ok (.aload_n 0, 1) := by decide +kernel
theorem dX1_slotAt_6 : decode cX1_slotAt 6 = .ok (.getfield 11, 3) := by decide +kernel
theorem dX1_slotAt_9 : decode cX1_slotAt 9 = .ok (.arraylength, 1) := by decide +kernel
theorem dX1_slotAt_10 : decode cX1_slotAt 10 = .ok (.if_icmp .ge 12, 3) := by decide +kernel
theorem dX1_slotAt_13 : decode cX1_slotAt 13 = .ok (.aload_n 0, 1) := by decide +kernel
theorem dX1_slotAt_14 : decode cX1_slotAt 14 = .ok (.getfield 11, 3) := by decide +kernel
theorem dX1_slotAt_17 : decode cX1_slotAt 17 = .ok (.iload_n 1, 1) := by decide +kernel
theorem dX1_slotAt_18 : decode cX1_slotAt 18 = .ok (.aaload, 1) := by decide +kernel
theorem dX1_slotAt_19 : decode cX1_slotAt 19 = .ok (.goto 4, 3) := by decide +kernel
theorem dX1_slotAt_22 : decode cX1_slotAt 22 = .ok (.aconst_null, 1) := by decide +kernel
theorem dX1_slotAt_23 : decode cX1_slotAt 23 = .ok (.areturn, 1) := by decide +kernel
theorem dX2_init_0 : decode cX2_init 0 = .ok (.aload_n 0, 1) := by decide +kernel
theorem dX2_init_1 : decode cX2_init 1 = .ok (.invokespecial 1, 3) := by decide +kernel
theorem dX2_init_4 : decode cX2_init 4 = .ok (.aload_n 0, 1) := by decide +kernel
theorem dX2_init_5 : decode cX2_init 5 = .ok (.new 7, 3) := by decide +kernel
theorem dX2_init_8 : decode cX2_init 8 = .ok (.dup, 1) := by decide +kernel
theorem dX2_init_9 : decode cX2_init 9 = .ok (.invokespecial 9, 3) := by decide +kernel
theorem dX2_init_12 : decode cX2_init 12 = .ok (.putfield 10, 3) := by decide +kernel
theorem dX2_init_15 : decode cX2_init 15 = .ok (.aload_n 0, 1) := by decide +kernel
theorem dX2_init_16 : decode cX2_init 16 = .ok (.iconst 0, 1) := by decide +kernel
theorem dX2_init_17 : decode cX2_init 17 = .ok (.putfield 16, 3) := by decide +kernel
theorem dX2_init_20 : decode cX2_init 20 = .ok (.aload_n 0, 1) := by decide +kernel
theorem dX2_init_21 : decode cX2_init 21 = .ok (.iconst 0, 1) := by decide +kernel
theorem dX2_init_22 : decode cX2_init 22 = .ok (.putfield 20, 3) := by decide +kernel
theorem dX2_init_25 : decode cX2_init 25 = .ok (.return_, 1) := by decide +kernel
theorem dX3_init_0 : decode cX3_init 0 = .ok (.aload_n 0, 1) := by decide +kernel
theorem dX3_init_1 : decode cX3_init 1 = .ok (.invokespecial 3, 3) := by decide +kernel
theorem dX3_init_4 : decode cX3_init 4 = .ok (.aload_n 0, 1) := by decide +kernel
theorem dX3_init_5 : decode cX3_init 5 = .ok (.new 9, 3) := by decide +kernel
theorem dX3_init_8 : decode cX3_init 8 = .ok (.dup, 1) := by decide +kernel
theorem dX3_init_9 : decode cX3_init 9 = .ok (.invokespecial 11, 3) := by decide +kernel
theorem dX3_init_12 : decode cX3_init 12 = .ok (.putfield 12, 3) := by decide +kernel
theorem dX3_init_15 : decode cX3_init 15 = .ok (.aload_n 0, 1) := by decide +kernel
theorem dX3_init_16 : decode cX3_init 16 = .ok (.new 9, 3) := by decide +kernel
theorem dX3_init_19 : decode cX3_init 19 = .ok (.dup, 1) := by decide +kernel
theorem dX3_init_20 : decode cX3_init 20 = .ok (.invokespecial 11, 3) := by decide +kernel
theorem dX3_init_23 : decode cX3_init 23 = .ok (.putfield 18, 3) := by decide +kernel
theorem dX3_init_26 : decode cX3_init 26 = .ok (.aload_n 0, 1) := by decide +kernel
theorem dX3_init_27 : decode cX3_init 27 = .ok (.iconst 0, 1) := by decide +kernel
theorem dX3_init_28 : decode cX3_init 28 = .ok (.putfield 21, 3) := by decide +kernel
theorem dX3_init_31 : decode cX3_init 31 = .ok (.aload_n 0, 1) := by decide +kernel
theorem dX3_init_32 : decode cX3_init 32 = .ok (.iconst 0, 1) := by decide +kernel
theorem dX3_init_33 : decode cX3_init 33 = .ok (.putfield 25, 3) := by decide +kernel
theorem dX3_init_36 : decode cX3_init 36 = .ok (.aload_n 0, 1) := by decide +kernel
theorem dX3_init_37 : decode cX3_init 37 = .ok (.iconst (-1), 1) := by decide +kernel
theorem dX3_init_38 : decode cX3_init 38 = .ok (.putfield 28, 3) := by decide +kernel
theorem dX3_init_41 : decode cX3_init 41 = .ok (.return_, 1) := by decide +kernel
theorem dX3_judgeAll_0 : decode cX3_judgeAll 0 = .ok (.aload_n 0, 1) := by decide +kernel
theorem dX3_judgeAll_1 : decode cX3_judgeAll 1 = .ok (.iconst 0, 1) := by decide +kernel
theorem dX3_judgeAll_2 : decode cX3_judgeAll 2 = .ok (.putfield 21, 3) := by decide +kernel
theorem dX3_judgeAll_5 : decode cX3_judgeAll 5 = .ok (.aload_n 0, 1) := by decide +kernel
theorem dX3_judgeAll_6 : decode cX3_judgeAll 6 = .ok (.iconst 0, 1) := by decide +kernel
theorem dX3_judgeAll_7 : decode cX3_judgeAll 7 = .ok (.putfield 25, 3) := by decide +kernel
theorem dX3_judgeAll_10 : decode cX3_judgeAll 10 = .ok (.aload_n 0, 1) := by decide +kernel
theorem dX3_judgeAll_11 : decode cX3_judgeAll 11 = .ok (.iconst (-1), 1) := by decide +kernel
theorem dX3_judgeAll_12 : decode cX3_judgeAll 12 = .ok (.putfield 28, 3) := by decide +kernel
theorem dX3_judgeAll_15 : decode cX3_judgeAll 15 = .ok (.iconst 0, 1) := by decide +kernel
theorem dX3_judgeAll_16 : decode cX3_judgeAll 16 = .ok (.istore_n 2, 1) := by decide +kernel
theorem dX3_judgeAll_17 : decode cX3_judgeAll 17 = .ok (.iload_n 2, 1) := by decide +kernel
theorem dX3_judgeAll_18 : decode cX3_judgeAll 18 = .ok (.getstatic 31, 3) := by decide +kernel
theorem dX3_judgeAll_21 : decode cX3_judgeAll 21 = .ok (.arraylength, 1) := by decide +kernel
theorem dX3_judgeAll_22 : decode cX3_judgeAll 22 = .ok (.if_icmp .ge 85, 3) := by decide +kernel
theorem dX3_judgeAll_25 : decode cX3_judgeAll 25 = .ok (.iload_n 2, 1) := by decide +kernel
theorem dX3_judgeAll_26 : decode cX3_judgeAll 26 = .ok (.getstatic 35, 3) := by decide +kernel
theorem dX3_judgeAll_29 : decode cX3_judgeAll 29 = .ok (.arraylength, 1) := by decide +kernel
theorem dX3_judgeAll_30 : decode cX3_judgeAll 30 = .ok (.if_icmp .ge 77, 3) := by decide +kernel
theorem dX3_judgeAll_33 : decode cX3_judgeAll 33 = .ok (.iconst 0, 1) := by decide +kernel
theorem dX3_judgeAll_34 : decode cX3_judgeAll 34 = .ok (.istore_n 3, 1) := by decide +kernel
theorem dX3_judgeAll_35 : decode cX3_judgeAll 35 = .ok (.iload_n 3, 1) := by decide +kernel
theorem dX3_judgeAll_36 : decode cX3_judgeAll 36 = .ok (.bipush 8, 2) := by decide +kernel
theorem dX3_judgeAll_38 : decode cX3_judgeAll 38 = .ok (.if_icmp .ge 63, 3) := by decide +kernel
theorem dX3_judgeAll_41 : decode cX3_judgeAll 41 = .ok (.iload_n 3, 1) := by decide +kernel
theorem dX3_judgeAll_42 : decode cX3_judgeAll 42 = .ok (.iconst 2, 1) := by decide +kernel
theorem dX3_judgeAll_43 : decode cX3_judgeAll 43 = .ok (.ishr, 1) := by decide +kernel
theorem dX3_judgeAll_44 : decode cX3_judgeAll 44 = .ok (.iconst 1, 1) := by decide +kernel
theorem dX3_judgeAll_45 : decode cX3_judgeAll 45 = .ok (.iand, 1) := by decide +kernel
theorem dX3_judgeAll_46 : decode cX3_judgeAll 46 = .ok (.iconst 1, 1) := by decide +kernel
theorem dX3_judgeAll_47 : decode cX3_judgeAll 47 = .ok (.iadd, 1) := by decide +kernel
theorem dX3_judgeAll_48 : decode cX3_judgeAll 48 = .ok (.istore 4, 2) := by decide +kernel
theorem dX3_judgeAll_50 : decode cX3_judgeAll 50 = .ok (.iload_n 3, 1) := by decide +kernel
theorem dX3_judgeAll_51 : decode cX3_judgeAll 51 = .ok (.iconst 1, 1) := by decide +kernel
theorem dX3_judgeAll_52 : decode cX3_judgeAll 52 = .ok (.ishr, 1) := by decide +kernel
theorem dX3_judgeAll_53 : decode cX3_judgeAll 53 = .ok (.iconst 1, 1) := by decide +kernel
theorem dX3_judgeAll_54 : decode cX3_judgeAll 54 = .ok (.iand, 1) := by decide +kernel
theorem dX3_judgeAll_55 : decode cX3_judgeAll 55 = .ok (.iconst 1, 1) := by decide +kernel
theorem dX3_judgeAll_56 : decode cX3_judgeAll 56 = .ok (.iadd, 1) := by decide +kernel
theorem dX3_judgeAll_57 : decode cX3_judgeAll 57 = .ok (.istore 5, 2) := by decide +kernel
theorem dX3_judgeAll_59 : decode cX3_judgeAll 59 = .ok (.iload_n 3, 1) := by decide +kernel
theorem dX3_judgeAll_60 : decode cX3_judgeAll 60 = .ok (.iconst 1, 1) := by decide +kernel
theorem dX3_judgeAll_61 : decode cX3_judgeAll 61 = .ok (.iand, 1) := by decide +kernel
theorem dX3_judgeAll_62 : decode cX3_judgeAll 62 = .ok (.iconst 1, 1) := by decide +kernel
theorem dX3_judgeAll_63 : decode cX3_judgeAll 63 = .ok (.iadd, 1) := by decide +kernel
theorem dX3_judgeAll_64 : decode cX3_judgeAll 64 = .ok (.istore 6, 2) := by decide +kernel
theorem dX3_judgeAll_66 : decode cX3_judgeAll 66 = .ok (.aload_n 0, 1) := by decide +kernel
theorem dX3_judgeAll_67 : decode cX3_judgeAll 67 = .ok (.iload 4, 2) := by decide +kernel
theorem dX3_judgeAll_69 : decode cX3_judgeAll 69 = .ok (.sipush 729, 3) := by decide +kernel
theorem dX3_judgeAll_72 : decode cX3_judgeAll 72 = .ok (.imul, 1) := by decide +kernel
theorem dX3_judgeAll_73 : decode cX3_judgeAll 73 = .ok (.iload 5, 2) := by decide +kernel
theorem dX3_judgeAll_75 : decode cX3_judgeAll 75 = .ok (.getstatic 31, 3) := by decide +kernel
theorem dX3_judgeAll_78 : decode cX3_judgeAll 78 = .ok (.iload_n 2, 1) := by decide +kernel
theorem dX3_judgeAll_79 : decode cX3_judgeAll 79 = .ok (.iaload, 1) := by decide +kernel
theorem dX3_judgeAll_80 : decode cX3_judgeAll 80 = .ok (.imul, 1) := by decide +kernel
theorem dX3_judgeAll_81 : decode cX3_judgeAll 81 = .ok (.iadd, 1) := by decide +kernel
theorem dX3_judgeAll_82 : decode cX3_judgeAll 82 = .ok (.iload 6, 2) := by decide +kernel
theorem dX3_judgeAll_84 : decode cX3_judgeAll 84 = .ok (.getstatic 35, 3) := by decide +kernel
theorem dX3_judgeAll_87 : decode cX3_judgeAll 87 = .ok (.iload_n 2, 1) := by decide +kernel
theorem dX3_judgeAll_88 : decode cX3_judgeAll 88 = .ok (.iaload, 1) := by decide +kernel
theorem dX3_judgeAll_89 : decode cX3_judgeAll 89 = .ok (.imul, 1) := by decide +kernel
theorem dX3_judgeAll_90 : decode cX3_judgeAll 90 = .ok (.iadd, 1) := by decide +kernel
theorem dX3_judgeAll_91 : decode cX3_judgeAll 91 = .ok (.aload_n 1, 1) := by decide +kernel
theorem dX3_judgeAll_92 : decode cX3_judgeAll 92 = .ok (.invokevirtual 38, 3) := by decide +kernel
theorem dX3_judgeAll_95 : decode cX3_judgeAll 95 = .ok (.iinc 3 1, 3) := by decide +kernel
theorem dX3_judgeAll_98 : decode cX3_judgeAll 98 = .ok (.goto (-63), 3) := by decide +kernel
theorem dX3_judgeAll_101 : decode cX3_judgeAll 101 = .ok (.iinc 2 1, 3) := by decide +kernel
theorem dX3_judgeAll_104 : decode cX3_judgeAll 104 = .ok (.goto (-87), 3) := by decide +kernel
theorem dX3_judgeAll_107 : decode cX3_judgeAll 107 = .ok (.return_, 1) := by decide +kernel
theorem dX3_judgeOne_0 : decode cX3_judgeOne 0 = .ok (.aload_n 0, 1) := by decide +kernel
theorem dX3_judgeOne_1 : decode cX3_judgeOne 1 = .ok (.getfield 12, 3) := by decide +kernel
theorem dX3_judgeOne_4 : decode cX3_judgeOne 4 = .ok (.iload_n 1, 1) := by decide +kernel
theorem dX3_judgeOne_5 : decode cX3_judgeOne 5 = .ok (.iconst 1, 1) := by decide +kernel
theorem dX3_judgeOne_6 : decode cX3_judgeOne 6 = .ok (.invokevirtual 42, 3) := by decide +kernel
theorem dX3_judgeOne_9 : decode cX3_judgeOne 9 = .ok (.aload_n 0, 1) := by decide +kernel
theorem dX3_judgeOne_10 : decode cX3_judgeOne 10 = .ok (.getfield 12, 3) := by decide +kernel
theorem dX3_judgeOne_13 : decode cX3_judgeOne 13 = .ok (.aload_n 2, 1) := by decide +kernel
theorem dX3_judgeOne_14 : decode cX3_judgeOne 14 = .ok (.invokevirtual 46, 3) := by decide +kernel
theorem dX3_judgeOne_17 : decode cX3_judgeOne 17 = .ok (.iconst 2, 1) := by decide +kernel
theorem dX3_judgeOne_18 : decode cX3_judgeOne 18 = .ok (.if_icmp .eq 4, 3) := by decide +kernel
theorem dX3_judgeOne_21 : decode cX3_judgeOne 21 = .ok (.return_, 1) := by decide +kernel
theorem dX3_judgeOne_22 : decode cX3_judgeOne 22 = .ok (.aload_n 0, 1) := by decide +kernel
theorem dX3_judgeOne_23 : decode cX3_judgeOne 23 = .ok (.dup, 1) := by decide +kernel
theorem dX3_judgeOne_24 : decode cX3_judgeOne 24 = .ok (.getfield 21, 3) := by decide +kernel
theorem dX3_judgeOne_27 : decode cX3_judgeOne 27 = .ok (.iconst 1, 1) := by decide +kernel
theorem dX3_judgeOne_28 : decode cX3_judgeOne 28 = .ok (.iadd, 1) := by decide +kernel
theorem dX3_judgeOne_29 : decode cX3_judgeOne 29 = .ok (.putfield 21, 3) := by decide +kernel
theorem dX3_judgeOne_32 : decode cX3_judgeOne 32 = .ok (.aload_n 0, 1) := by decide +kernel
theorem dX3_judgeOne_33 : decode cX3_judgeOne 33 = .ok (.getfield 18, 3) := by decide +kernel
theorem dX3_judgeOne_36 : decode cX3_judgeOne 36 = .ok (.aload_n 0, 1) := by decide +kernel
theorem dX3_judgeOne_37 : decode cX3_judgeOne 37 = .ok (.getfield 12, 3) := by decide +kernel
theorem dX3_judgeOne_40 : decode cX3_judgeOne 40 = .ok (.invokevirtual 50, 3) := by decide +kernel
theorem dX3_judgeOne_43 : decode cX3_judgeOne 43 = .ok (.aload_n 0, 1) := by decide +kernel
theorem dX3_judgeOne_44 : decode cX3_judgeOne 44 = .ok (.getfield 12, 3) := by decide +kernel
theorem dX3_judgeOne_47 : decode cX3_judgeOne 47 = .ok (.aload_n 0, 1) := by decide +kernel
theorem dX3_judgeOne_48 : decode cX3_judgeOne 48 = .ok (.getfield 12, 3) := by decide +kernel
theorem dX3_judgeOne_51 : decode cX3_judgeOne 51 = .ok (.iconst 0, 1) := by decide +kernel
theorem dX3_judgeOne_52 : decode cX3_judgeOne 52 = .ok (.aload_n 2, 1) := by decide +kernel
theorem dX3_judgeOne_53 : decode cX3_judgeOne 53 = .ok (.invokevirtual 54, 3) := by decide +kernel
theorem dX3_judgeOne_56 : decode cX3_judgeOne 56 = .ok (.aload_n 2, 1) := by decide +kernel
theorem dX3_judgeOne_57 : decode cX3_judgeOne 57 = .ok (.invokevirtual 58, 3) := by decide +kernel
theorem dX3_judgeOne_60 : decode cX3_judgeOne 60 = .ok (.aload_n 0, 1) := by decide +kernel
theorem dX3_judgeOne_61 : decode cX3_judgeOne 61 = .ok (.getfield 18, 3) := by decide +kernel
theorem dX3_judgeOne_64 : decode cX3_judgeOne 64 = .ok (.aload_n 0, 1) := by decide +kernel
theorem dX3_judgeOne_65 : decode cX3_judgeOne 65 = .ok (.getfield 18, 3) := by decide +kernel
theorem dX3_judgeOne_68 : decode cX3_judgeOne 68 = .ok (.iconst 1, 1) := by decide +kernel
theorem dX3_judgeOne_69 : decode cX3_judgeOne 69 = .ok (.aload_n 2, 1) := by decide +kernel
theorem dX3_judgeOne_70 : decode cX3_judgeOne 70 = .ok (.invokevirtual 54, 3) := by decide +kernel
theorem dX3_judgeOne_73 : decode cX3_judgeOne 73 = .ok (.aload_n 2, 1) := by decide +kernel
theorem dX3_judgeOne_74 : decode cX3_judgeOne 74 = .ok (.invokevirtual 58, 3) := by decide +kernel
theorem dX3_judgeOne_77 : decode cX3_judgeOne 77 = .ok (.aload_n 0, 1) := by decide +kernel
theorem dX3_judgeOne_78 : decode cX3_judgeOne 78 = .ok (.getfield 12, 3) := by decide +kernel
theorem dX3_judgeOne_81 : decode cX3_judgeOne 81 = .ok (.aload_n 2, 1) := by decide +kernel
theorem dX3_judgeOne_82 : decode cX3_judgeOne 82 = .ok (.invokevirtual 61, 3) := by decide +kernel
theorem dX3_judgeOne_85 : decode cX3_judgeOne 85 = .ok (.iconst (-1), 1) := by decide +kernel
theorem dX3_judgeOne_86 : decode cX3_judgeOne 86 = .ok (.if_icmp .eq 19, 3) := by decide +kernel
theorem dX3_judgeOne_89 : decode cX3_judgeOne 89 = .ok (.aload_n 0, 1) := by decide +kernel
theorem dX3_judgeOne_90 : decode cX3_judgeOne 90 = .ok (.getfield 18, 3) := by decide +kernel
theorem dX3_judgeOne_93 : decode cX3_judgeOne 93 = .ok (.aload_n 2, 1) := by decide +kernel
theorem dX3_judgeOne_94 : decode cX3_judgeOne 94 = .ok (.invokevirtual 61, 3) := by decide +kernel
theorem dX3_judgeOne_97 : decode cX3_judgeOne 97 = .ok (.iconst (-1), 1) := by decide +kernel
theorem dX3_judgeOne_98 : decode cX3_judgeOne 98 = .ok (.if_icmp .eq 7, 3) := by decide +kernel
theorem dX3_judgeOne_101 : decode cX3_judgeOne 101 = .ok (.iconst 1, 1) := by decide +kernel
theorem dX3_judgeOne_102 : decode cX3_judgeOne 102 = .ok (.goto 4, 3) := by decide +kernel
theorem dX3_judgeOne_105 : decode cX3_judgeOne 105 = .ok (.iconst 0, 1) := by decide +kernel
theorem dX3_judgeOne_106 : decode cX3_judgeOne 106 = .ok (.istore_n 3, 1) := by decide +kernel
theorem dX3_judgeOne_107 : decode cX3_judgeOne 107 = .ok (.iload_n 3, 1) := by decide +kernel
theorem dX3_judgeOne_108 : decode cX3_judgeOne 108 = .ok (.ifCond .eq 17, 3) := by decide +kernel
theorem dX3_judgeOne_111 : decode cX3_judgeOne 111 = .ok (.aload_n 0, 1) := by decide +kernel
theorem dX3_judgeOne_112 : decode cX3_judgeOne 112 = .ok (.getfield 12, 3) := by decide +kernel
theorem dX3_judgeOne_115 : decode cX3_judgeOne 115 = .ok (.aload_n 0, 1) := by decide +kernel
theorem dX3_judgeOne_116 : decode cX3_judgeOne 116 = .ok (.getfield 18, 3) := by decide +kernel
theorem dX3_judgeOne_119 : decode cX3_judgeOne 119 = .ok (.invokevirtual 64, 3) := by decide +kernel
theorem dX3_judgeOne_122 : decode cX3_judgeOne 122 = .ok (.ifCond .ne 37, 3) := by decide +kernel
theorem dX3_judgeOne_125 : decode cX3_judgeOne 125 = .ok (.aload_n 0, 1) := by decide +kernel
theorem dX3_judgeOne_126 : decode cX3_judgeOne 126 = .ok (.dup, 1) := by decide +kernel
theorem dX3_judgeOne_127 : decode cX3_judgeOne 127 = .ok (.getfield 25, 3) := by decide +kernel
theorem dX3_judgeOne_130 : decode cX3_judgeOne 130 = .ok (.iconst 1, 1) := by decide +kernel
theorem dX3_judgeOne_131 : decode cX3_judgeOne 131 = .ok (.iadd, 1) := by decide +kernel
theorem dX3_judgeOne_132 : decode cX3_judgeOne 132 = .ok (.putfield 25, 3) := by decide +kernel
theorem dX3_judgeOne_135 : decode cX3_judgeOne 135 = .ok (.aload_n 0, 1) := by decide +kernel
theorem dX3_judgeOne_136 : decode cX3_judgeOne 136 = .ok (.aload_n 0, 1) := by decide +kernel
theorem dX3_judgeOne_137 : decode cX3_judgeOne 137 = .ok (.getfield 28, 3) := by decide +kernel
theorem dX3_judgeOne_140 : decode cX3_judgeOne 140 = .ok (.iconst (-1), 1) := by decide +kernel
theorem dX3_judgeOne_141 : decode cX3_judgeOne 141 = .ok (.if_icmp .ne 7, 3) := by decide +kernel
theorem dX3_judgeOne_144 : decode cX3_judgeOne 144 = .ok (.iload_n 1, 1) := by decide +kernel
theorem dX3_judgeOne_145 : decode cX3_judgeOne 145 = .ok (.goto 11, 3) := by decide +kernel
theorem dX3_judgeOne_148 : decode cX3_judgeOne 148 = .ok (.aload_n 0, 1) := by decide +kernel
theorem dX3_judgeOne_149 : decode cX3_judgeOne 149 = .ok (.getfield 28, 3) := by decide +kernel
theorem dX3_judgeOne_152 : decode cX3_judgeOne 152 = .ok (.iload_n 1, 1) := by decide +kernel
theorem dX3_judgeOne_153 : decode cX3_judgeOne 153 = .ok (.invokestatic 68, 3) := by decide +kernel
theorem dX3_judgeOne_156 : decode cX3_judgeOne 156 = .ok (.putfield 28, 3) := by decide +kernel
theorem dX3_judgeOne_159 : decode cX3_judgeOne 159 = .ok (.return_, 1) := by decide +kernel
theorem dX5_init_0 : decode cX5_init 0 = .ok (.aload_n 0, 1) := by decide +kernel
theorem dX5_init_1 : decode cX5_init 1 = .ok (.invokespecial 3, 3) := by decide +kernel
theorem dX5_init_4 : decode cX5_init 4 = .ok (.aload_n 0, 1) := by decide +kernel
theorem dX5_init_5 : decode cX5_init 5 = .ok (.bipush 8, 2) := by decide +kernel
theorem dX5_init_7 : decode cX5_init 7 = .ok (.newarray .long, 2) := by decide +kernel
theorem dX5_init_9 : decode cX5_init 9 = .ok (.putfield 9, 3) := by decide +kernel
theorem dX5_init_12 : decode cX5_init 12 = .ok (.aload_n 0, 1) := by decide +kernel
theorem dX5_init_13 : decode cX5_init 13 = .ok (.iconst 2, 1) := by decide +kernel
theorem dX5_init_14 : decode cX5_init 14 = .ok (.bipush 8, 2) := by decide +kernel
theorem dX5_init_16 : decode cX5_init 16 = .ok (.multianewarray 15 2, 4) := by decide +kernel
theorem dX5_init_20 : decode cX5_init 20 = .ok (.putfield 17, 3) := by decide +kernel
theorem dX5_init_23 : decode cX5_init 23 = .ok (.aload_n 0, 1) := by decide +kernel
theorem dX5_init_24 : decode cX5_init 24 = .ok (.bipush 8, 2) := by decide +kernel
theorem dX5_init_26 : decode cX5_init 26 = .ok (.newarray .long, 2) := by decide +kernel
theorem dX5_init_28 : decode cX5_init 28 = .ok (.putfield 20, 3) := by decide +kernel
theorem dX5_init_31 : decode cX5_init 31 = .ok (.aload_n 0, 1) := by decide +kernel
theorem dX5_init_32 : decode cX5_init 32 = .ok (.bipush 8, 2) := by decide +kernel
theorem dX5_init_34 : decode cX5_init 34 = .ok (.newarray .long, 2) := by decide +kernel
theorem dX5_init_36 : decode cX5_init 36 = .ok (.putfield 23, 3) := by decide +kernel
theorem dX5_init_39 : decode cX5_init 39 = .ok (.return_, 1) := by decide +kernel
theorem dX5_covers_0 : decode cX5_covers 0 = .ok (.iload_n 0, 1) := by decide +kernel
theorem dX5_covers_1 : decode cX5_covers 1 = .ok (.iconst 1, 1) := by decide +kernel
theorem dX5_covers_2 : decode cX5_covers 2 = .ok (.if_icmp .lt 13, 3) := by decide +kernel
theorem dX5_covers_5 : decode cX5_covers 5 = .ok (.iload_n 0, 1) := by decide +kernel
theorem dX5_covers_6 : decode cX5_covers 6 = .ok (.bipush 7, 2) := by decide +kernel
theorem dX5_covers_8 : decode cX5_covers 8 = .ok (.if_icmp .gt 7, 3) := by decide +kernel
theorem dX5_covers_11 : decode cX5_covers 11 = .ok (.iconst 1, 1) := by decide +kernel
theorem dX5_covers_12 : decode cX5_covers 12 = .ok (.goto 4, 3) := by decide +kernel
theorem dX5_covers_15 : decode cX5_covers 15 = .ok (.iconst 0, 1) := by decide +kernel
theorem dX5_covers_16 : decode cX5_covers 16 = .ok (.ireturn, 1) := by decide +kernel
theorem dX5_countTrees_0 : decode cX5_countTrees 0 = .ok (.aload_n 0, 1) := by decide +kernel
theorem dX5_countTrees_1 : decode cX5_countTrees 1 = .ok (.getfield 9, 3) := by decide +kernel
theorem dX5_countTrees_4 : decode cX5_countTrees 4 = .ok (.iconst 1, 1) := by decide +kernel
theorem dX5_countTrees_5 : decode cX5_countTrees 5 = .ok (.lconst 1, 1) := by decide +kernel
theorem dX5_countTrees_6 : decode cX5_countTrees 6 = .ok (.lastore, 1) := by decide +kernel
theorem dX5_countTrees_7 : decode cX5_countTrees 7 = .ok (.iconst 2, 1) := by decide +kernel
theorem dX5_countTrees_8 : decode cX5_countTrees 8 = .ok (.istore_n 2, 1) := by decide +kernel
theorem dX5_countTrees_9 : decode cX5_countTrees 9 = .ok (.iload_n 2, 1) := by decide +kernel
theorem dX5_countTrees_10 : decode cX5_countTrees 10 = .ok (.bipush 7, 2) := by decide +kernel
theorem dX5_countTrees_12 : decode cX5_countTrees 12 = .ok (.if_icmp .gt 61, 3) := by decide +kernel
theorem dX5_countTrees_15 : decode cX5_countTrees 15 = .ok (.aload_n 0, 1) := by decide +kernel
theorem dX5_countTrees_16 : decode cX5_countTrees 16 = .ok (.getfield 9, 3) := by decide +kernel
theorem dX5_countTrees_19 : decode cX5_countTrees 19 = .ok (.iload_n 2, 1) := by decide +kernel
theorem dX5_countTrees_20 : decode cX5_countTrees 20 = .ok (.lconst 0, 1) := by decide +kernel
theorem dX5_countTrees_21 : decode cX5_countTrees 21 = .ok (.lastore, 1) := by decide +kernel
theorem dX5_countTrees_22 : decode cX5_countTrees 22 = .ok (.iconst 0, 1) := by decide +kernel
theorem dX5_countTrees_23 : decode cX5_countTrees 23 = .ok (.istore_n 3, 1) := by decide +kernel
theorem dX5_countTrees_24 : decode cX5_countTrees 24 = .ok (.iload_n 3, 1) := by decide +kernel
theorem dX5_countTrees_25 : decode cX5_countTrees 25 = .ok (.iconst 2, 1) := by decide +kernel
theorem dX5_countTrees_26 : decode cX5_countTrees 26 = .ok (.if_icmp .ge 41, 3) := by decide +kernel
theorem dX5_countTrees_29 : decode cX5_countTrees 29 = .ok (.aload_n 0, 1) := by decide +kernel
theorem dX5_countTrees_30 : decode cX5_countTrees 30 = .ok (.getfield 17, 3) := by decide +kernel
theorem dX5_countTrees_33 : decode cX5_countTrees 33 = .ok (.iload_n 3, 1) := by decide +kernel
theorem dX5_countTrees_34 : decode cX5_countTrees 34 = .ok (.aaload, 1) := by decide +kernel
theorem dX5_countTrees_35 : decode cX5_countTrees 35 = .ok (.iload_n 2, 1) := by decide +kernel
theorem dX5_countTrees_36 : decode cX5_countTrees 36 = .ok (.aload_n 0, 1) := by decide +kernel
theorem dX5_countTrees_37 : decode cX5_countTrees 37 = .ok (.iload_n 3, 1) := by decide +kernel
theorem dX5_countTrees_38 : decode cX5_countTrees 38 = .ok (.iload_n 2, 1) := by decide +kernel
theorem dX5_countTrees_39 : decode cX5_countTrees 39 = .ok (.aload_n 1, 1) := by decide +kernel
theorem dX5_countTrees_40 : decode cX5_countTrees 40 = .ok (.invokevirtual 26, 3) := by decide +kernel
theorem dX5_countTrees_43 : decode cX5_countTrees 43 = .ok (.lastore, 1) := by decide +kernel
theorem dX5_countTrees_44 : decode cX5_countTrees 44 = .ok (.aload_n 0, 1) := by decide +kernel
theorem dX5_countTrees_45 : decode cX5_countTrees 45 = .ok (.getfield 9, 3) := by decide +kernel
theorem dX5_countTrees_48 : decode cX5_countTrees 48 = .ok (.iload_n 2, 1) := by decide +kernel
theorem dX5_countTrees_49 : decode cX5_countTrees 49 = .ok (.dup2, 1) := by decide +kernel
theorem dX5_countTrees_50 : decode cX5_countTrees 50 = .ok (.laload, 1) := by decide +kernel
theorem dX5_countTrees_51 : decode cX5_countTrees 51 = .ok (.aload_n 0, 1) := by decide +kernel
theorem dX5_countTrees_52 : decode cX5_countTrees 52 = .ok (.getfield 17, 3) := by decide +kernel
theorem dX5_countTrees_55 : decode cX5_countTrees 55 = .ok (.iload_n 3, 1) := by decide +kernel
theorem dX5_countTrees_56 : decode cX5_countTrees 56 = .ok (.aaload, 1) := by decide +kernel
theorem dX5_countTrees_57 : decode cX5_countTrees 57 = .ok (.iload_n 2, 1) := by decide +kernel
theorem dX5_countTrees_58 : decode cX5_countTrees 58 = .ok (.laload, 1) := by decide +kernel
theorem dX5_countTrees_59 : decode cX5_countTrees 59 = .ok (.ladd, 1) := by decide +kernel
theorem dX5_countTrees_60 : decode cX5_countTrees 60 = .ok (.lastore, 1) := by decide +kernel
theorem dX5_countTrees_61 : decode cX5_countTrees 61 = .ok (.iinc 3 1, 3) := by decide +kernel
theorem dX5_countTrees_64 : decode cX5_countTrees 64 = .ok (.goto (-40), 3) := by decide +kernel
theorem dX5_countTrees_67 : decode cX5_countTrees 67 = .ok (.iinc 2 1, 3) := by decide +kernel
theorem dX5_countTrees_70 : decode cX5_countTrees 70 = .ok (.goto (-61), 3) := by decide +kernel
theorem dX5_countTrees_73 : decode cX5_countTrees 73 = .ok (.return_, 1) := by decide +kernel
theorem dX5_countRooted_0 : decode cX5_countRooted 0 = .ok (.lconst 0, 1) := by decide +kernel
theorem dX5_countRooted_1 : decode cX5_countRooted 1 = .ok (.lstore 4, 2) := by decide +kernel
theorem dX5_countRooted_3 : decode cX5_countRooted 3 = .ok (.iconst 1, 1) := by decide +kernel
theorem dX5_countRooted_4 : decode cX5_countRooted 4 = .ok (.istore 6, 2) := by decide +kernel
theorem dX5_countRooted_6 : decode cX5_countRooted 6 = .ok (.iload 6, 2) := by decide +kernel
theorem dX5_countRooted_8 : decode cX5_countRooted 8 = .ok (.iload_n 2, 1) := by decide +kernel
theorem dX5_countRooted_9 : decode cX5_countRooted 9 = .ok (.if_icmp .ge 35, 3) := by decide +kernel
theorem dX5_countRooted_12 : decode cX5_countRooted 12 = .ok (.lload 4, 2) := by decide +kernel
theorem dX5_countRooted_14 : decode cX5_countRooted 14 = .ok (.aload_n 0, 1) := by decide +kernel
theorem dX5_countRooted_15 : decode cX5_countRooted 15 = .ok (.iload_n 1, 1) := by decide +kernel
theorem dX5_countRooted_16 : decode cX5_countRooted 16 = .ok (.iconst 0, 1) := by decide +kernel
theorem dX5_countRooted_17 : decode cX5_countRooted 17 = .ok (.iload 6, 2) := by decide +kernel
theorem dX5_countRooted_19 : decode cX5_countRooted 19 = .ok (.aload_n 3, 1) := by decide +kernel
theorem dX5_countRooted_20 : decode cX5_countRooted 20 = .ok (.invokevirtual 30, 3) := by decide +kernel
theorem dX5_countRooted_23 : decode cX5_countRooted 23 = .ok (.aload_n 0, 1) := by decide +kernel
theorem dX5_countRooted_24 : decode cX5_countRooted 24 = .ok (.iload_n 1, 1) := by decide +kernel
theorem dX5_countRooted_25 : decode cX5_countRooted 25 = .ok (.iconst 1, 1) := by decide +kernel
theorem dX5_countRooted_26 : decode cX5_countRooted 26 = .ok (.iload_n 2, 1) := by decide +kernel
theorem dX5_countRooted_27 : decode cX5_countRooted 27 = .ok (.iload 6, 2) := by decide +kernel
theorem dX5_countRooted_29 : decode cX5_countRooted 29 = .ok (.isub, 1) := by decide +kernel
theorem dX5_countRooted_30 : decode cX5_countRooted 30 = .ok (.aload_n 3, 1) := by decide +kernel
theorem dX5_countRooted_31 : decode cX5_countRooted 31 = .ok (.invokevirtual 30, 3) := by decide +kernel
theorem dX5_countRooted_34 : decode cX5_countRooted 34 = .ok (.lmul, 1) := by decide +kernel
theorem dX5_countRooted_35 : decode cX5_countRooted 35 = .ok (.ladd, 1) := by decide +kernel
theorem dX5_countRooted_36 : decode cX5_countRooted 36 = .ok (.lstore 4, 2) := by decide +kernel
theorem dX5_countRooted_38 : decode cX5_countRooted 38 = .ok (.iinc 6 1, 3) := by decide +kernel
theorem dX5_countRooted_41 : decode cX5_countRooted 41 = .ok (.goto (-35), 3) := by decide +kernel
theorem dX5_countRooted_44 : decode cX5_countRooted 44 = .ok (.lload 4, 2) := by decide +kernel
theorem dX5_countRooted_46 : decode cX5_countRooted 46 = .ok (.lreturn, 1) := by decide +kernel
theorem dX5_countBranches_0 : decode cX5_countBranches 0 = .ok (.iload_n 3, 1) := by decide +kernel
theorem dX5_countBranches_1 : decode cX5_countBranches 1 = .ok (.iconst 1, 1) := by decide +kernel
theorem dX5_countBranches_2 : decode cX5_countBranches 2 = .ok (.if_icmp .le 9, 3) := by decide +kernel
theorem dX5_countBranches_5 : decode cX5_countBranches 5 = .ok (.iload_n 3, 1) := by decide +kernel
theorem dX5_countBranches_6 : decode cX5_countBranches 6 = .ok (.bipush 7, 2) := by decide +kernel
theorem dX5_countBranches_8 : decode cX5_countBranches 8 = .ok (.if_icmp .le 5, 3) := by decide +kernel
theorem dX5_countBranches_11 : decode cX5_countBranches 11 = .ok (.lconst 1, 1) := by decide +kernel
theorem dX5_countBranches_12 : decode cX5_countBranches 12 = .ok (.lreturn, 1) := by decide +kernel
theorem dX5_countBranches_13 : decode cX5_countBranches 13 = .ok (.lconst 0, 1) := by decide +kernel
theorem dX5_countBranches_14 : decode cX5_countBranches 14 = .ok (.lstore 5, 2) := by decide +kernel
theorem dX5_countBranches_16 : decode cX5_countBranches 16 = .ok (.iconst 0, 1) := by decide +kernel
theorem dX5_countBranches_17 : decode cX5_countBranches 17 = .ok (.istore 7, 2) := by decide +kernel
theorem dX5_countBranches_19 : decode cX5_countBranches 19 = .ok (.iload 7, 2) := by decide +kernel
theorem dX5_countBranches_21 : decode cX5_countBranches 21 = .ok (.iconst 2, 1) := by decide +kernel
theorem dX5_countBranches_22 : decode cX5_countBranches 22 = .ok (.if_icmp .ge 41, 3) := by decide +kernel
theorem dX5_countBranches_25 : decode cX5_countBranches 25 = .ok (.aload 4, 2) := by decide +kernel
theorem dX5_countBranches_27 : decode cX5_countBranches 27 = .ok (.iconst 4, 1) := by decide +kernel
theorem dX5_countBranches_28 : decode cX5_countBranches 28 = .ok (.iload_n 1, 1) := by decide +kernel
theorem dX5_countBranches_29 : decode cX5_countBranches 29 = .ok (.imul, 1) := by decide +kernel
theorem dX5_countBranches_30 : decode cX5_countBranches 30 = .ok (.iconst 2, 1) := by decide +kernel
theorem dX5_countBranches_31 : decode cX5_countBranches 31 = .ok (.iload 7, 2) := by decide +kernel
theorem dX5_countBranches_33 : decode cX5_countBranches 33 = .ok (.imul, 1) := by decide +kernel
theorem dX5_countBranches_34 : decode cX5_countBranches 34 = .ok (.iadd, 1) := by decide +kernel
theorem dX5_countBranches_35 : decode cX5_countBranches 35 = .ok (.iload_n 2, 1) := by decide +kernel
theorem dX5_countBranches_36 : decode cX5_countBranches 36 = .ok (.iadd, 1) := by decide +kernel
theorem dX5_countBranches_37 : decode cX5_countBranches 37 = .ok (.invokevirtual 34, 3) := by decide +kernel
theorem dX5_countBranches_40 : decode cX5_countBranches 40 = .ok (.ifCond .ne 17, 3) := by decide +kernel
theorem dX5_countBranches_43 : decode cX5_countBranches 43 = .ok (.lload 5, 2) := by decide +kernel
theorem dX5_countBranches_45 : decode cX5_countBranches 45 = .ok (.aload_n 0, 1) := by decide +kernel
theorem dX5_countBranches_46 : decode cX5_countBranches 46 = .ok (.getfield 17, 3) := by decide +kernel
theorem dX5_countBranches_49 : decode cX5_countBranches 49 = .ok (.iload 7, 2) := by decide +kernel
theorem dX5_countBranches_51 : decode cX5_countBranches 51 = .ok (.aaload, 1) := by decide +kernel
theorem dX5_countBranches_52 : decode cX5_countBranches 52 = .ok (.iload_n 3, 1) := by decide +kernel
theorem dX5_countBranches_53 : decode cX5_countBranches 53 = .ok (.laload, 1) := by decide +kernel
theorem dX5_countBranches_54 : decode cX5_countBranches 54 = .ok (.ladd, 1) := by decide +kernel
theorem dX5_countBranches_55 : decode cX5_countBranches 55 = .ok (.lstore 5, 2) := by decide +kernel
theorem dX5_countBranches_57 : decode cX5_countBranches 57 = .ok (.iinc 7 1, 3) := by decide +kernel
theorem dX5_countBranches_60 : decode cX5_countBranches 60 = .ok (.goto (-41), 3) := by decide +kernel
theorem dX5_countBranches_63 : decode cX5_countBranches 63 = .ok (.lload 5, 2) := by decide +kernel
theorem dX5_countBranches_65 : decode cX5_countBranches 65 = .ok (.lreturn, 1) := by decide +kernel
theorem dX5_undoTrees_0 : decode cX5_undoTrees 0 = .ok (.aload_n 0, 1) := by decide +kernel
theorem dX5_undoTrees_1 : decode cX5_undoTrees 1 = .ok (.getfield 20, 3) := by decide +kernel
theorem dX5_undoTrees_4 : decode cX5_undoTrees 4 = .ok (.lconst 0, 1) := by decide +kernel
theorem dX5_undoTrees_5 : decode cX5_undoTrees 5 = .ok (.invokestatic 40, 3) := by decide +kernel
theorem dX5_undoTrees_8 : decode cX5_undoTrees 8 = .ok (.aload_n 0, 1) := by decide +kernel
theorem dX5_undoTrees_9 : decode cX5_undoTrees 9 = .ok (.getfield 20, 3) := by decide +kernel
theorem dX5_undoTrees_12 : decode cX5_undoTrees 12 = .ok (.iconst 1, 1) := by decide +kernel
theorem dX5_undoTrees_13 : decode cX5_undoTrees 13 = .ok (.lconst 1, 1) := by decide +kernel
theorem dX5_undoTrees_14 : decode cX5_undoTrees 14 = .ok (.lastore, 1) := by decide +kernel
theorem dX5_undoTrees_15 : decode cX5_undoTrees 15 = .ok (.iconst 2, 1) := by decide +kernel
theorem dX5_undoTrees_16 : decode cX5_undoTrees 16 = .ok (.istore_n 1, 1) := by decide +kernel
theorem dX5_undoTrees_17 : decode cX5_undoTrees 17 = .ok (.iload_n 1, 1) := by decide +kernel
theorem dX5_undoTrees_18 : decode cX5_undoTrees 18 = .ok (.bipush 7, 2) := by decide +kernel
theorem dX5_undoTrees_20 : decode cX5_undoTrees 20 = .ok (.if_icmp .gt 73, 3) := by decide +kernel
theorem dX5_undoTrees_23 : decode cX5_undoTrees 23 = .ok (.aload_n 0, 1) := by decide +kernel
theorem dX5_undoTrees_24 : decode cX5_undoTrees 24 = .ok (.getfield 20, 3) := by decide +kernel
theorem dX5_undoTrees_27 : decode cX5_undoTrees 27 = .ok (.iconst 0, 1) := by decide +kernel
theorem dX5_undoTrees_28 : decode cX5_undoTrees 28 = .ok (.aload_n 0, 1) := by decide +kernel
theorem dX5_undoTrees_29 : decode cX5_undoTrees 29 = .ok (.getfield 23, 3) := by decide +kernel
theorem dX5_undoTrees_32 : decode cX5_undoTrees 32 = .ok (.iconst 0, 1) := by decide +kernel
theorem dX5_undoTrees_33 : decode cX5_undoTrees 33 = .ok (.aload_n 0, 1) := by decide +kernel
theorem dX5_undoTrees_34 : decode cX5_undoTrees 34 = .ok (.getfield 23, 3) := by decide +kernel
theorem dX5_undoTrees_37 : decode cX5_undoTrees 37 = .ok (.arraylength, 1) := by decide +kernel
theorem dX5_undoTrees_38 : decode cX5_undoTrees 38 = .ok (.invokestatic 46, 3) := by decide +kernel
theorem dX5_undoTrees_41 : decode cX5_undoTrees 41 = .ok (.lconst 0, 1) := by decide +kernel
theorem dX5_undoTrees_42 : decode cX5_undoTrees 42 = .ok (.lstore_n 2, 1) := by decide +kernel
theorem dX5_undoTrees_43 : decode cX5_undoTrees 43 = .ok (.iconst 2, 1) := by decide +kernel
theorem dX5_undoTrees_44 : decode cX5_undoTrees 44 = .ok (.istore 4, 2) := by decide +kernel
theorem dX5_undoTrees_46 : decode cX5_undoTrees 46 = .ok (.iload 4, 2) := by decide +kernel
theorem dX5_undoTrees_48 : decode cX5_undoTrees 48 = .ok (.iload_n 1, 1) := by decide +kernel
theorem dX5_undoTrees_49 : decode cX5_undoTrees 49 = .ok (.if_icmp .gt 30, 3) := by decide +kernel
theorem dX5_undoTrees_52 : decode cX5_undoTrees 52 = .ok (.aload_n 0, 1) := by decide +kernel
theorem dX5_undoTrees_53 : decode cX5_undoTrees 53 = .ok (.invokevirtual 52, 3) := by decide +kernel
theorem dX5_undoTrees_56 : decode cX5_undoTrees 56 = .ok (.lload_n 2, 1) := by decide +kernel
theorem dX5_undoTrees_57 : decode cX5_undoTrees 57 = .ok (.aload_n 0, 1) := by decide +kernel
theorem dX5_undoTrees_58 : decode cX5_undoTrees 58 = .ok (.getfield 9, 3) := by decide +kernel
theorem dX5_undoTrees_61 : decode cX5_undoTrees 61 = .ok (.iload 4, 2) := by decide +kernel
theorem dX5_undoTrees_63 : decode cX5_undoTrees 63 = .ok (.laload, 1) := by decide +kernel
theorem dX5_undoTrees_64 : decode cX5_undoTrees 64 = .ok (.aload_n 0, 1) := by decide +kernel
theorem dX5_undoTrees_65 : decode cX5_undoTrees 65 = .ok (.getfield 23, 3) := by decide +kernel
theorem dX5_undoTrees_68 : decode cX5_undoTrees 68 = .ok (.iload_n 1, 1) := by decide +kernel
theorem dX5_undoTrees_69 : decode cX5_undoTrees 69 = .ok (.laload, 1) := by decide +kernel
theorem dX5_undoTrees_70 : decode cX5_undoTrees 70 = .ok (.lmul, 1) := by decide +kernel
theorem dX5_undoTrees_71 : decode cX5_undoTrees 71 = .ok (.ladd, 1) := by decide +kernel
theorem dX5_undoTrees_72 : decode cX5_undoTrees 72 = .ok (.lstore_n 2, 1) := by decide +kernel
theorem dX5_undoTrees_73 : decode cX5_undoTrees 73 = .ok (.iinc 4 1, 3) := by decide +kernel
theorem dX5_undoTrees_76 : decode cX5_undoTrees 76 = .ok (.goto (-30), 3) := by decide +kernel
theorem dX5_undoTrees_79 : decode cX5_undoTrees 79 = .ok (.aload_n 0, 1) := by decide +kernel
theorem dX5_undoTrees_80 : decode cX5_undoTrees 80 = .ok (.getfield 20, 3) := by decide +kernel
theorem dX5_undoTrees_83 : decode cX5_undoTrees 83 = .ok (.iload_n 1, 1) := by decide +kernel
theorem dX5_undoTrees_84 : decode cX5_undoTrees 84 = .ok (.lload_n 2, 1) := by decide +kernel
theorem dX5_undoTrees_85 : decode cX5_undoTrees 85 = .ok (.lneg, 1) := by decide +kernel
theorem dX5_undoTrees_86 : decode cX5_undoTrees 86 = .ok (.lastore, 1) := by decide +kernel
theorem dX5_undoTrees_87 : decode cX5_undoTrees 87 = .ok (.iinc 1 1, 3) := by decide +kernel
theorem dX5_undoTrees_90 : decode cX5_undoTrees 90 = .ok (.goto (-73), 3) := by decide +kernel
theorem dX5_undoTrees_93 : decode cX5_undoTrees 93 = .ok (.return_, 1) := by decide +kernel
theorem dX5_raisePower_0 : decode cX5_raisePower 0 = .ok (.bipush 7, 2) := by decide +kernel
theorem dX5_raisePower_2 : decode cX5_raisePower 2 = .ok (.istore_n 1, 1) := by decide +kernel
theorem dX5_raisePower_3 : decode cX5_raisePower 3 = .ok (.iload_n 1, 1) := by decide +kernel
theorem dX5_raisePower_4 : decode cX5_raisePower 4 = .ok (.ifCond .lt 53, 3) := by decide +kernel
theorem dX5_raisePower_7 : decode cX5_raisePower 7 = .ok (.lconst 0, 1) := by decide +kernel
theorem dX5_raisePower_8 : decode cX5_raisePower 8 = .ok (.lstore_n 2, 1) := by decide +kernel
theorem dX5_raisePower_9 : decode cX5_raisePower 9 = .ok (.iconst 1, 1) := by decide +kernel
theorem dX5_raisePower_10 : decode cX5_raisePower 10 = .ok (.istore 4, 2) := by decide +kernel
theorem dX5_raisePower_12 : decode cX5_raisePower 12 = .ok (.iload 4, 2) := by decide +kernel
theorem dX5_raisePower_14 : decode cX5_raisePower 14 = .ok (.iload_n 1, 1) := by decide +kernel
theorem dX5_raisePower_15 : decode cX5_raisePower 15 = .ok (.if_icmp .gt 29, 3) := by decide +kernel
theorem dX5_raisePower_18 : decode cX5_raisePower 18 = .ok (.lload_n 2, 1) := by decide +kernel
theorem dX5_raisePower_19 : decode cX5_raisePower 19 = .ok (.aload_n 0, 1) := by decide +kernel
theorem dX5_raisePower_20 : decode cX5_raisePower 20 = .ok (.getfield 20, 3) := by decide +kernel
theorem dX5_raisePower_23 : decode cX5_raisePower 23 = .ok (.iload 4, 2) := by decide +kernel
theorem dX5_raisePower_25 : decode cX5_raisePower 25 = .ok (.laload, 1) := by decide +kernel
theorem dX5_raisePower_26 : decode cX5_raisePower 26 = .ok (.aload_n 0, 1) := by decide +kernel
theorem dX5_raisePower_27 : decode cX5_raisePower 27 = .ok (.getfield 23, 3) := by decide +kernel
theorem dX5_raisePower_30 : decode cX5_raisePower 30 = .ok (.iload_n 1, 1) := by decide +kernel
theorem dX5_raisePower_31 : decode cX5_raisePower 31 = .ok (.iload 4, 2) := by decide +kernel
theorem dX5_raisePower_33 : decode cX5_raisePower 33 = .ok (.isub, 1) := by decide +kernel
theorem dX5_raisePower_34 : decode cX5_raisePower 34 = .ok (.laload, 1) := by decide +kernel
theorem dX5_raisePower_35 : decode cX5_raisePower 35 = .ok (.lmul, 1) := by decide +kernel
theorem dX5_raisePower_36 : decode cX5_raisePower 36 = .ok (.ladd, 1) := by decide +kernel
theorem dX5_raisePower_37 : decode cX5_raisePower 37 = .ok (.lstore_n 2, 1) := by decide +kernel
theorem dX5_raisePower_38 : decode cX5_raisePower 38 = .ok (.iinc 4 1, 3) := by decide +kernel
theorem dX5_raisePower_41 : decode cX5_raisePower 41 = .ok (.goto (-29), 3) := by decide +kernel
theorem dX5_raisePower_44 : decode cX5_raisePower 44 = .ok (.aload_n 0, 1) := by decide +kernel
theorem dX5_raisePower_45 : decode cX5_raisePower 45 = .ok (.getfield 23, 3) := by decide +kernel
theorem dX5_raisePower_48 : decode cX5_raisePower 48 = .ok (.iload_n 1, 1) := by decide +kernel
theorem dX5_raisePower_49 : decode cX5_raisePower 49 = .ok (.lload_n 2, 1) := by decide +kernel
theorem dX5_raisePower_50 : decode cX5_raisePower 50 = .ok (.lastore, 1) := by decide +kernel
theorem dX5_raisePower_51 : decode cX5_raisePower 51 = .ok (.iinc 1 (-1), 3) := by decide +kernel
theorem dX5_raisePower_54 : decode cX5_raisePower 54 = .ok (.goto (-51), 3) := by decide +kernel
theorem dX5_raisePower_57 : decode cX5_raisePower 57 = .ok (.return_, 1) := by decide +kernel
theorem dJ7_fill_d0a16_0 : decode cJ7_fill_d0a16 0 = .ok (.iconst 0, 1) := by decide +kernel
theorem dJ7_fill_d0a16_1 : decode cJ7_fill_d0a16 1 = .ok (.istore_n 3, 1) := by decide +kernel
theorem dJ7_fill_d0a16_2 : decode cJ7_fill_d0a16 2 = .ok (.aload_n 0, 1) := by decide +kernel
theorem dJ7_fill_d0a16_3 : decode cJ7_fill_d0a16 3 = .ok (.arraylength, 1) := by decide +kernel
theorem dJ7_fill_d0a16_4 : decode cJ7_fill_d0a16 4 = .ok (.istore 4, 2) := by decide +kernel
theorem dJ7_fill_d0a16_6 : decode cJ7_fill_d0a16 6 = .ok (.iload_n 3, 1) := by decide +kernel
theorem dJ7_fill_d0a16_7 : decode cJ7_fill_d0a16 7 = .ok (.iload 4, 2) := by decide +kernel
theorem dJ7_fill_d0a16_9 : decode cJ7_fill_d0a16 9 = .ok (.if_icmp .ge 13, 3) := by decide +kernel
theorem dJ7_fill_d0a16_12 : decode cJ7_fill_d0a16 12 = .ok (.aload_n 0, 1) := by decide +kernel
theorem dJ7_fill_d0a16_13 : decode cJ7_fill_d0a16 13 = .ok (.iload_n 3, 1) := by decide +kernel
theorem dJ7_fill_d0a16_14 : decode cJ7_fill_d0a16 14 = .ok (.lload_n 1, 1) := by decide +kernel
theorem dJ7_fill_d0a16_15 : decode cJ7_fill_d0a16 15 = .ok (.lastore, 1) := by decide +kernel
theorem dJ7_fill_d0a16_16 : decode cJ7_fill_d0a16 16 = .ok (.iinc 3 1, 3) := by decide +kernel
theorem dJ7_fill_d0a16_19 : decode cJ7_fill_d0a16 19 = .ok (.goto (-13), 3) := by decide +kernel
theorem dJ7_fill_d0a16_22 : decode cJ7_fill_d0a16 22 = .ok (.return_, 1) := by decide +kernel
theorem dJ7_fill_53178_0 : decode cJ7_fill_53178 0 = .ok (.iconst 0, 1) := by decide +kernel
theorem dJ7_fill_53178_1 : decode cJ7_fill_53178 1 = .ok (.istore_n 2, 1) := by decide +kernel
theorem dJ7_fill_53178_2 : decode cJ7_fill_53178 2 = .ok (.aload_n 0, 1) := by decide +kernel
theorem dJ7_fill_53178_3 : decode cJ7_fill_53178 3 = .ok (.arraylength, 1) := by decide +kernel
theorem dJ7_fill_53178_4 : decode cJ7_fill_53178 4 = .ok (.istore_n 3, 1) := by decide +kernel
theorem dJ7_fill_53178_5 : decode cJ7_fill_53178 5 = .ok (.iload_n 2, 1) := by decide +kernel
theorem dJ7_fill_53178_6 : decode cJ7_fill_53178 6 = .ok (.iload_n 3, 1) := by decide +kernel
theorem dJ7_fill_53178_7 : decode cJ7_fill_53178 7 = .ok (.if_icmp .ge 13, 3) := by decide +kernel
theorem dJ7_fill_53178_10 : decode cJ7_fill_53178 10 = .ok (.aload_n 0, 1) := by decide +kernel
theorem dJ7_fill_53178_11 : decode cJ7_fill_53178 11 = .ok (.iload_n 2, 1) := by decide +kernel
theorem dJ7_fill_53178_12 : decode cJ7_fill_53178 12 = .ok (.iload_n 1, 1) := by decide +kernel
theorem dJ7_fill_53178_13 : decode cJ7_fill_53178 13 = .ok (.iastore, 1) := by decide +kernel
theorem dJ7_fill_53178_14 : decode cJ7_fill_53178 14 = .ok (.iinc 2 1, 3) := by decide +kernel
theorem dJ7_fill_53178_17 : decode cJ7_fill_53178 17 = .ok (.goto (-12), 3) := by decide +kernel
theorem dJ7_fill_53178_20 : decode cJ7_fill_53178 20 = .ok (.return_, 1) := by decide +kernel
theorem dJ9_floorMod_7cf53_0 : decode cJ9_floorMod_7cf53 0 = .ok (.iload_n 0, 1) := by decide +kernel
theorem dJ9_floorMod_7cf53_1 : decode cJ9_floorMod_7cf53 1 = .ok (.iload_n 1, 1) := by decide +kernel
theorem dJ9_floorMod_7cf53_2 : decode cJ9_floorMod_7cf53 2 = .ok (.irem, 1) := by decide +kernel
theorem dJ9_floorMod_7cf53_3 : decode cJ9_floorMod_7cf53 3 = .ok (.istore_n 2, 1) := by decide +kernel
theorem dJ9_floorMod_7cf53_4 : decode cJ9_floorMod_7cf53 4 = .ok (.iload_n 0, 1) := by decide +kernel
theorem dJ9_floorMod_7cf53_5 : decode cJ9_floorMod_7cf53 5 = .ok (.iload_n 1, 1) := by decide +kernel
theorem dJ9_floorMod_7cf53_6 : decode cJ9_floorMod_7cf53 6 = .ok (.ixor, 1) := by decide +kernel
theorem dJ9_floorMod_7cf53_7 : decode cJ9_floorMod_7cf53 7 = .ok (.ifCond .ge 11, 3) := by decide +kernel
theorem dJ9_floorMod_7cf53_10 : decode cJ9_floorMod_7cf53 10 = .ok (.iload_n 2, 1) := by decide +kernel
theorem dJ9_floorMod_7cf53_11 : decode cJ9_floorMod_7cf53 11 = .ok (.ifCond .eq 7, 3) := by decide +kernel
theorem dJ9_floorMod_7cf53_14 : decode cJ9_floorMod_7cf53 14 = .ok (.iload_n 2, 1) := by decide +kernel
theorem dJ9_floorMod_7cf53_15 : decode cJ9_floorMod_7cf53 15 = .ok (.iload_n 1, 1) := by decide +kernel
theorem dJ9_floorMod_7cf53_16 : decode cJ9_floorMod_7cf53 16 = .ok (.iadd, 1) := by decide +kernel
theorem dJ9_floorMod_7cf53_17 : decode cJ9_floorMod_7cf53 17 = .ok (.ireturn, 1) := by decide +kernel
theorem dJ9_floorMod_7cf53_18 : decode cJ9_floorMod_7cf53 18 = .ok (.iload_n 2, 1) := by decide +kernel
theorem dJ9_floorMod_7cf53_19 : decode cJ9_floorMod_7cf53 19 = .ok (.ireturn, 1) := by decide +kernel
theorem dJ9_max_7cf53_0 : decode cJ9_max_7cf53 0 = .ok (.iload_n 0, 1) := by decide +kernel
theorem dJ9_max_7cf53_1 : decode cJ9_max_7cf53 1 = .ok (.iload_n 1, 1) := by decide +kernel
theorem dJ9_max_7cf53_2 : decode cJ9_max_7cf53 2 = .ok (.if_icmp .lt 7, 3) := by decide +kernel
theorem dJ9_max_7cf53_5 : decode cJ9_max_7cf53 5 = .ok (.iload_n 0, 1) := by decide +kernel
theorem dJ9_max_7cf53_6 : decode cJ9_max_7cf53 6 = .ok (.goto 4, 3) := by decide +kernel
theorem dJ9_max_7cf53_9 : decode cJ9_max_7cf53 9 = .ok (.iload_n 1, 1) := by decide +kernel
theorem dJ9_max_7cf53_10 : decode cJ9_max_7cf53 10 = .ok (.ireturn, 1) := by decide +kernel
theorem dJ9_min_7cf53_0 : decode cJ9_min_7cf53 0 = .ok (.iload_n 0, 1) := by decide +kernel
theorem dJ9_min_7cf53_1 : decode cJ9_min_7cf53 1 = .ok (.iload_n 1, 1) := by decide +kernel
theorem dJ9_min_7cf53_2 : decode cJ9_min_7cf53 2 = .ok (.if_icmp .gt 7, 3) := by decide +kernel
theorem dJ9_min_7cf53_5 : decode cJ9_min_7cf53 5 = .ok (.iload_n 0, 1) := by decide +kernel
theorem dJ9_min_7cf53_6 : decode cJ9_min_7cf53 6 = .ok (.goto 4, 3) := by decide +kernel
theorem dJ9_min_7cf53_9 : decode cJ9_min_7cf53 9 = .ok (.iload_n 1, 1) := by decide +kernel
theorem dJ9_min_7cf53_10 : decode cJ9_min_7cf53 10 = .ok (.ireturn, 1) := by decide +kernel
theorem dX8_init_0 : decode cX8_init 0 = .ok (.aload_n 0, 1) := by decide +kernel
theorem dX8_init_1 : decode cX8_init 1 = .ok (.invokespecial 3, 3) := by decide +kernel
theorem dX8_init_4 : decode cX8_init 4 = .ok (.aload_n 0, 1) := by decide +kernel
theorem dX8_init_5 : decode cX8_init 5 = .ok (.new 9, 3) := by decide +kernel
theorem dX8_init_8 : decode cX8_init 8 = .ok (.dup, 1) := by decide +kernel
theorem dX8_init_9 : decode cX8_init 9 = .ok (.invokespecial 11, 3) := by decide +kernel
theorem dX8_init_12 : decode cX8_init 12 = .ok (.putfield 12, 3) := by decide +kernel
theorem dX8_init_15 : decode cX8_init 15 = .ok (.aload_n 0, 1) := by decide +kernel
theorem dX8_init_16 : decode cX8_init 16 = .ok (.new 16, 3) := by decide +kernel
theorem dX8_init_19 : decode cX8_init 19 = .ok (.dup, 1) := by decide +kernel
theorem dX8_init_20 : decode cX8_init 20 = .ok (.invokespecial 18, 3) := by decide +kernel
theorem dX8_init_23 : decode cX8_init 23 = .ok (.putfield 19, 3) := by decide +kernel
theorem dX8_init_26 : decode cX8_init 26 = .ok (.aload_n 0, 1) := by decide +kernel
theorem dX8_init_27 : decode cX8_init 27 = .ok (.iconst 2, 1) := by decide +kernel
theorem dX8_init_28 : decode cX8_init 28 = .ok (.anewarray 23, 3) := by decide +kernel
theorem dX8_init_31 : decode cX8_init 31 = .ok (.putfield 25, 3) := by decide +kernel
theorem dX8_init_34 : decode cX8_init 34 = .ok (.aload_n 0, 1) := by decide +kernel
theorem dX8_init_35 : decode cX8_init 35 = .ok (.new 29, 3) := by decide +kernel
theorem dX8_init_38 : decode cX8_init 38 = .ok (.dup, 1) := by decide +kernel
theorem dX8_init_39 : decode cX8_init 39 = .ok (.invokespecial 31, 3) := by decide +kernel
theorem dX8_init_42 : decode cX8_init 42 = .ok (.putfield 32, 3) := by decide +kernel
theorem dX8_init_45 : decode cX8_init 45 = .ok (.aload_n 0, 1) := by decide +kernel
theorem dX8_init_46 : decode cX8_init 46 = .ok (.new 36, 3) := by decide +kernel
theorem dX8_init_49 : decode cX8_init 49 = .ok (.dup, 1) := by decide +kernel
theorem dX8_init_50 : decode cX8_init 50 = .ok (.invokespecial 38, 3) := by decide +kernel
theorem dX8_init_53 : decode cX8_init 53 = .ok (.putfield 39, 3) := by decide +kernel
theorem dX8_init_56 : decode cX8_init 56 = .ok (.aload_n 0, 1) := by decide +kernel
theorem dX8_init_57 : decode cX8_init 57 = .ok (.new 43, 3) := by decide +kernel
theorem dX8_init_60 : decode cX8_init 60 = .ok (.dup, 1) := by decide +kernel
theorem dX8_init_61 : decode cX8_init 61 = .ok (.invokespecial 45, 3) := by decide +kernel
theorem dX8_init_64 : decode cX8_init 64 = .ok (.putfield 46, 3) := by decide +kernel
theorem dX8_init_67 : decode cX8_init 67 = .ok (.aload_n 0, 1) := by decide +kernel
theorem dX8_init_68 : decode cX8_init 68 = .ok (.new 50, 3) := by decide +kernel
theorem dX8_init_71 : decode cX8_init 71 = .ok (.dup, 1) := by decide +kernel
theorem dX8_init_72 : decode cX8_init 72 = .ok (.invokespecial 52, 3) := by decide +kernel
theorem dX8_init_75 : decode cX8_init 75 = .ok (.putfield 53, 3) := by decide +kernel
theorem dX8_init_78 : decode cX8_init 78 = .ok (.aload_n 0, 1) := by decide +kernel
theorem dX8_init_79 : decode cX8_init 79 = .ok (.new 50, 3) := by decide +kernel
theorem dX8_init_82 : decode cX8_init 82 = .ok (.dup, 1) := by decide +kernel
theorem dX8_init_83 : decode cX8_init 83 = .ok (.invokespecial 52, 3) := by decide +kernel
theorem dX8_init_86 : decode cX8_init 86 = .ok (.putfield 57, 3) := by decide +kernel
theorem dX8_init_89 : decode cX8_init 89 = .ok (.aload_n 0, 1) := by decide +kernel
theorem dX8_init_90 : decode cX8_init 90 = .ok (.bipush 30, 2) := by decide +kernel
theorem dX8_init_92 : decode cX8_init 92 = .ok (.newarray .int, 2) := by decide +kernel
theorem dX8_init_94 : decode cX8_init 94 = .ok (.putfield 60, 3) := by decide +kernel
theorem dX8_init_97 : decode cX8_init 97 = .ok (.aload_n 0, 1) := by decide +kernel
theorem dX8_init_98 : decode cX8_init 98 = .ok (.iconst 0, 1) := by decide +kernel
theorem dX8_init_99 : decode cX8_init 99 = .ok (.putfield 64, 3) := by decide +kernel
theorem dX8_init_102 : decode cX8_init 102 = .ok (.aload_n 0, 1) := by decide +kernel
theorem dX8_init_103 : decode cX8_init 103 = .ok (.iconst (-1), 1) := by decide +kernel
theorem dX8_init_104 : decode cX8_init 104 = .ok (.putfield 68, 3) := by decide +kernel
theorem dX8_init_107 : decode cX8_init 107 = .ok (.aload_n 0, 1) := by decide +kernel
theorem dX8_init_108 : decode cX8_init 108 = .ok (.iconst 0, 1) := by decide +kernel
theorem dX8_init_109 : decode cX8_init 109 = .ok (.putfield 71, 3) := by decide +kernel
theorem dX8_init_112 : decode cX8_init 112 = .ok (.iconst 0, 1) := by decide +kernel
theorem dX8_init_113 : decode cX8_init 113 = .ok (.istore_n 1, 1) := by decide +kernel
theorem dX8_init_114 : decode cX8_init 114 = .ok (.iload_n 1, 1) := by decide +kernel
theorem dX8_init_115 : decode cX8_init 115 = .ok (.iconst 2, 1) := by decide +kernel
theorem dX8_init_116 : decode cX8_init 116 = .ok (.if_icmp .ge 22, 3) := by decide +kernel
theorem dX8_init_119 : decode cX8_init 119 = .ok (.aload_n 0, 1) := by decide +kernel
theorem dX8_init_120 : decode cX8_init 120 = .ok (.getfield 25, 3) := by decide +kernel
theorem dX8_init_123 : decode cX8_init 123 = .ok (.iload_n 1, 1) := by decide +kernel
theorem dX8_init_124 : decode cX8_init 124 = .ok (.new 23, 3) := by decide +kernel
theorem dX8_init_127 : decode cX8_init 127 = .ok (.dup, 1) := by decide +kernel
theorem dX8_init_128 : decode cX8_init 128 = .ok (.invokespecial 74, 3) := by decide +kernel
theorem dX8_init_131 : decode cX8_init 131 = .ok (.aastore, 1) := by decide +kernel
theorem dX8_init_132 : decode cX8_init 132 = .ok (.iinc 1 1, 3) := by decide +kernel
theorem dX8_init_135 : decode cX8_init 135 = .ok (.goto (-21), 3) := by decide +kernel
theorem dX8_init_138 : decode cX8_init 138 = .ok (.return_, 1) := by decide +kernel
theorem dX8_feed_0 : decode cX8_feed 0 = .ok (.iload_n 1, 1) := by decide +kernel
theorem dX8_feed_1 : decode cX8_feed 1 = .ok (.ifCond .lt 10, 3) := by decide +kernel
theorem dX8_feed_4 : decode cX8_feed 4 = .ok (.iload_n 1, 1) := by decide +kernel
theorem dX8_feed_5 : decode cX8_feed 5 = .ok (.sipush 255, 3) := by decide +kernel
theorem dX8_feed_8 : decode cX8_feed 8 = .ok (.if_icmp .le 6, 3) := by decide +kernel
theorem dX8_feed_11 : decode cX8_feed 11 = .ok (.ldc 75, 2) := by decide +kernel
theorem dX8_feed_13 : decode cX8_feed 13 = .ok (.ireturn, 1) := by decide +kernel
theorem dX8_feed_14 : decode cX8_feed 14 = .ok (.aload_n 0, 1) := by decide +kernel
theorem dX8_feed_15 : decode cX8_feed 15 = .ok (.getfield 64, 3) := by decide +kernel
theorem dX8_feed_18 : decode cX8_feed 18 = .ok (.ifCond .lt 12, 3) := by decide +kernel
theorem dX8_feed_21 : decode cX8_feed 21 = .ok (.aload_n 0, 1) := by decide +kernel
theorem dX8_feed_22 : decode cX8_feed 22 = .ok (.getfield 64, 3) := by decide +kernel
theorem dX8_feed_25 : decode cX8_feed 25 = .ok (.bipush 30, 2) := by decide +kernel
theorem dX8_feed_27 : decode cX8_feed 27 = .ok (.if_icmp .lt 6, 3) := by decide +kernel
theorem dX8_feed_30 : decode cX8_feed 30 = .ok (.ldc 76, 2) := by decide +kernel
theorem dX8_feed_32 : decode cX8_feed 32 = .ok (.ireturn, 1) := by decide +kernel
theorem dX8_feed_33 : decode cX8_feed 33 = .ok (.aload_n 0, 1) := by decide +kernel
theorem dX8_feed_34 : decode cX8_feed 34 = .ok (.getfield 60, 3) := by decide +kernel
theorem dX8_feed_37 : decode cX8_feed 37 = .ok (.aload_n 0, 1) := by decide +kernel
theorem dX8_feed_38 : decode cX8_feed 38 = .ok (.getfield 64, 3) := by decide +kernel
theorem dX8_feed_41 : decode cX8_feed 41 = .ok (.iload_n 1, 1) := by decide +kernel
theorem dX8_feed_42 : decode cX8_feed 42 = .ok (.iastore, 1) := by decide +kernel
theorem dX8_feed_43 : decode cX8_feed 43 = .ok (.aload_n 0, 1) := by decide +kernel
theorem dX8_feed_44 : decode cX8_feed 44 = .ok (.dup, 1) := by decide +kernel
theorem dX8_feed_45 : decode cX8_feed 45 = .ok (.getfield 64, 3) := by decide +kernel
theorem dX8_feed_48 : decode cX8_feed 48 = .ok (.iconst 1, 1) := by decide +kernel
theorem dX8_feed_49 : decode cX8_feed 49 = .ok (.iadd, 1) := by decide +kernel
theorem dX8_feed_50 : decode cX8_feed 50 = .ok (.putfield 64, 3) := by decide +kernel
theorem dX8_feed_53 : decode cX8_feed 53 = .ok (.aload_n 0, 1) := by decide +kernel
theorem dX8_feed_54 : decode cX8_feed 54 = .ok (.getfield 64, 3) := by decide +kernel
theorem dX8_feed_57 : decode cX8_feed 57 = .ok (.ireturn, 1) := by decide +kernel
theorem dX8_tell_0 : decode cX8_tell 0 = .ok (.aload_n 0, 1) := by decide +kernel
theorem dX8_tell_1 : decode cX8_tell 1 = .ok (.getfield 12, 3) := by decide +kernel
theorem dX8_tell_4 : decode cX8_tell 4 = .ok (.invokevirtual 77, 3) := by decide +kernel
theorem dX8_tell_7 : decode cX8_tell 7 = .ok (.ifCond .eq 6, 3) := by decide +kernel
theorem dX8_tell_10 : decode cX8_tell 10 = .ok (.ldc 76, 2) := by decide +kernel
theorem dX8_tell_12 : decode cX8_tell 12 = .ok (.ireturn, 1) := by decide +kernel
theorem dX8_tell_13 : decode cX8_tell 13 = .ok (.aload_n 0, 1) := by decide +kernel
theorem dX8_tell_14 : decode cX8_tell 14 = .ok (.invokevirtual 81, 3) := by decide +kernel
theorem dX8_tell_17 : decode cX8_tell 17 = .ok (.istore_n 1, 1) := by decide +kernel
theorem dX8_tell_18 : decode cX8_tell 18 = .ok (.aload_n 0, 1) := by decide +kernel
theorem dX8_tell_19 : decode cX8_tell 19 = .ok (.iconst 0, 1) := by decide +kernel
theorem dX8_tell_20 : decode cX8_tell 20 = .ok (.putfield 64, 3) := by decide +kernel
theorem dX8_tell_23 : decode cX8_tell 23 = .ok (.iload_n 1, 1) := by decide +kernel
theorem dX8_tell_24 : decode cX8_tell 24 = .ok (.ifCond .eq 8, 3) := by decide +kernel
theorem dX8_tell_27 : decode cX8_tell 27 = .ok (.bipush (-10), 2) := by decide +kernel
theorem dX8_tell_29 : decode cX8_tell 29 = .ok (.iload_n 1, 1) := by decide +kernel
theorem dX8_tell_30 : decode cX8_tell 30 = .ok (.isub, 1) := by decide +kernel
theorem dX8_tell_31 : decode cX8_tell 31 = .ok (.ireturn, 1) := by decide +kernel
theorem dX8_tell_32 : decode cX8_tell 32 = .ok (.aload_n 0, 1) := by decide +kernel
theorem dX8_tell_33 : decode cX8_tell 33 = .ok (.getfield 19, 3) := by decide +kernel
theorem dX8_tell_36 : decode cX8_tell 36 = .ok (.aload_n 0, 1) := by decide +kernel
theorem dX8_tell_37 : decode cX8_tell 37 = .ok (.getfield 12, 3) := by decide +kernel
theorem dX8_tell_40 : decode cX8_tell 40 = .ok (.invokevirtual 85, 3) := by decide +kernel
theorem dX8_tell_43 : decode cX8_tell 43 = .ok (.aload_n 0, 1) := by decide +kernel
theorem dX8_tell_44 : decode cX8_tell 44 = .ok (.getfield 12, 3) := by decide +kernel
theorem dX8_tell_47 : decode cX8_tell 47 = .ok (.aload_n 0, 1) := by decide +kernel
theorem dX8_tell_48 : decode cX8_tell 48 = .ok (.getfield 53, 3) := by decide +kernel
theorem dX8_tell_51 : decode cX8_tell 51 = .ok (.invokevirtual 89, 3) := by decide +kernel
theorem dX8_tell_54 : decode cX8_tell 54 = .ok (.ireturn, 1) := by decide +kernel
theorem dX8_readText_0 : decode cX8_readText 0 = .ok (.aload_n 0, 1) := by decide +kernel
theorem dX8_readText_1 : decode cX8_readText 1 = .ok (.getfield 53, 3) := by decide +kernel
theorem dX8_readText_4 : decode cX8_readText 4 = .ok (.invokevirtual 93, 3) := by decide +kernel
theorem dX8_readText_7 : decode cX8_readText 7 = .ok (.iconst 1, 1) := by decide +kernel
theorem dX8_readText_8 : decode cX8_readText 8 = .ok (.istore_n 1, 1) := by decide +kernel
theorem dX8_readText_9 : decode cX8_readText 9 = .ok (.iconst 0, 1) := by decide +kernel
theorem dX8_readText_10 : decode cX8_readText 10 = .ok (.istore_n 2, 1) := by decide +kernel
theorem dX8_readText_11 : decode cX8_readText 11 = .ok (.iconst 0, 1) := by decide +kernel
theorem dX8_readText_12 : decode cX8_readText 12 = .ok (.istore_n 3, 1) := by decide +kernel
theorem dX8_readText_13 : decode cX8_readText 13 = .ok (.iload_n 3, 1) := by decide +kernel
theorem dX8_readText_14 : decode cX8_readText 14 = .ok (.aload_n 0, 1) := by decide +kernel
theorem dX8_readText_15 : decode cX8_readText 15 = .ok (.getfield 64, 3) := by decide +kernel
theorem dX8_readText_18 : decode cX8_readText 18 = .ok (.if_icmp .ge 77, 3) := by decide +kernel
theorem dX8_readText_21 : decode cX8_readText 21 = .ok (.iload_n 3, 1) := by decide +kernel
theorem dX8_readText_22 : decode cX8_readText 22 = .ok (.bipush 30, 2) := by decide +kernel
theorem dX8_readText_24 : decode cX8_readText 24 = .ok (.if_icmp .ge 71, 3) := by decide +kernel
theorem dX8_readText_27 : decode cX8_readText 27 = .ok (.aload_n 0, 1) := by decide +kernel
theorem dX8_readText_28 : decode cX8_readText 28 = .ok (.getfield 60, 3) := by decide +kernel
theorem dX8_readText_31 : decode cX8_readText 31 = .ok (.iload_n 3, 1) := by decide +kernel
theorem dX8_readText_32 : decode cX8_readText 32 = .ok (.iaload, 1) := by decide +kernel
theorem dX8_readText_33 : decode cX8_readText 33 = .ok (.invokestatic 96, 3) := by decide +kernel
theorem dX8_readText_36 : decode cX8_readText 36 = .ok (.istore 4, 2) := by decide +kernel
theorem dX8_readText_38 : decode cX8_readText 38 = .ok (.aload_n 0, 1) := by decide +kernel
theorem dX8_readText_39 : decode cX8_readText 39 = .ok (.iload_n 3, 1) := by decide +kernel
theorem dX8_readText_40 : decode cX8_readText 40 = .ok (.putfield 68, 3) := by decide +kernel
theorem dX8_readText_43 : decode cX8_readText 43 = .ok (.iload_n 1, 1) := by decide +kernel
theorem dX8_readText_44 : decode cX8_readText 44 = .ok (.ifCond .eq 9, 3) := by decide +kernel
theorem dX8_readText_47 : decode cX8_readText 47 = .ok (.iload 4, 2) := by decide +kernel
theorem dX8_readText_49 : decode cX8_readText 49 = .ok (.iconst (-1), 1) := by decide +kernel
theorem dX8_readText_50 : decode cX8_readText 50 = .ok (.if_icmp .ne 5, 3) := by decide +kernel
theorem dX8_readText_53 : decode cX8_readText 53 = .ok (.iconst 1, 1) := by decide +kernel
theorem dX8_readText_54 : decode cX8_readText 54 = .ok (.ireturn, 1) := by decide +kernel
theorem dX8_readText_55 : decode cX8_readText 55 = .ok (.iload 4, 2) := by decide +kernel
theorem dX8_readText_57 : decode cX8_readText 57 = .ok (.ifCond .ne 9, 3) := by decide +kernel
theorem dX8_readText_60 : decode cX8_readText 60 = .ok (.iinc 1 (-1), 3) := by decide +kernel
theorem dX8_readText_63 : decode cX8_readText 63 = .ok (.goto 17, 3) := by decide +kernel
theorem dX8_readText_66 : decode cX8_readText 66 = .ok (.iload_n 2, 1) := by decide +kernel
theorem dX8_readText_67 : decode cX8_readText 67 = .ok (.bipush 6, 2) := by decide +kernel
theorem dX8_readText_69 : decode cX8_readText 69 = .ok (.if_icmp .ne 5, 3) := by decide +kernel
theorem dX8_readText_72 : decode cX8_readText 72 = .ok (.iconst 2, 1) := by decide +kernel
theorem dX8_readText_73 : decode cX8_readText 73 = .ok (.ireturn, 1) := by decide +kernel
theorem dX8_readText_74 : decode cX8_readText 74 = .ok (.iinc 2 1, 3) := by decide +kernel
theorem dX8_readText_77 : decode cX8_readText 77 = .ok (.iinc 1 1, 3) := by decide +kernel
theorem dX8_readText_80 : decode cX8_readText 80 = .ok (.aload_n 0, 1) := by decide +kernel
theorem dX8_readText_81 : decode cX8_readText 81 = .ok (.getfield 53, 3) := by decide +kernel
theorem dX8_readText_84 : decode cX8_readText 84 = .ok (.iload 4, 2) := by decide +kernel
theorem dX8_readText_86 : decode cX8_readText 86 = .ok (.invokevirtual 100, 3) := by decide +kernel
theorem dX8_readText_89 : decode cX8_readText 89 = .ok (.iinc 3 1, 3) := by decide +kernel
theorem dX8_readText_92 : decode cX8_readText 92 = .ok (.goto (-79), 3) := by decide +kernel
theorem dX8_readText_95 : decode cX8_readText 95 = .ok (.aload_n 0, 1) := by decide +kernel
theorem dX8_readText_96 : decode cX8_readText 96 = .ok (.iload_n 1, 1) := by decide +kernel
theorem dX8_readText_97 : decode cX8_readText 97 = .ok (.ifCond .le 10, 3) := by decide +kernel
theorem dX8_readText_100 : decode cX8_readText 100 = .ok (.aload_n 0, 1) := by decide +kernel
theorem dX8_readText_101 : decode cX8_readText 101 = .ok (.getfield 64, 3) := by decide +kernel
theorem dX8_readText_104 : decode cX8_readText 104 = .ok (.goto 4, 3) := by decide +kernel
theorem dX8_readText_107 : decode cX8_readText 107 = .ok (.iconst (-1), 1) := by decide +kernel
theorem dX8_readText_108 : decode cX8_readText 108 = .ok (.putfield 68, 3) := by decide +kernel
theorem dX8_readText_111 : decode cX8_readText 111 = .ok (.iload_n 1, 1) := by decide +kernel
theorem dX8_readText_112 : decode cX8_readText 112 = .ok (.ifCond .le 7, 3) := by decide +kernel
theorem dX8_readText_115 : decode cX8_readText 115 = .ok (.iconst 1, 1) := by decide +kernel
theorem dX8_readText_116 : decode cX8_readText 116 = .ok (.goto 4, 3) := by decide +kernel
theorem dX8_readText_119 : decode cX8_readText 119 = .ok (.iconst 0, 1) := by decide +kernel
theorem dX8_readText_120 : decode cX8_readText 120 = .ok (.ireturn, 1) := by decide +kernel
theorem dX8_figureOf_0 : decode cX8_figureOf 0 = .ok (.iload_n 0, 1) := by decide +kernel
theorem dX8_figureOf_1 : decode cX8_figureOf 1 = .ok (.lookupswitch 41 #[(46, 35), (97, 37), (98, 39)], 35) := by decide +kernel
theorem dX8_figureOf_36 : decode cX8_figureOf 36 = .ok (.iconst 0, 1) := by decide +kernel
theorem dX8_figureOf_37 : decode cX8_figureOf 37 = .ok (.ireturn, 1) := by decide +kernel
theorem dX8_figureOf_38 : decode cX8_figureOf 38 = .ok (.iconst 1, 1) := by decide +kernel
theorem dX8_figureOf_39 : decode cX8_figureOf 39 = .ok (.ireturn, 1) := by decide +kernel
theorem dX8_figureOf_40 : decode cX8_figureOf 40 = .ok (.iconst 2, 1) := by decide +kernel
theorem dX8_figureOf_41 : decode cX8_figureOf 41 = .ok (.ireturn, 1) := by decide +kernel
theorem dX8_figureOf_42 : decode cX8_figureOf 42 = .ok (.iconst (-1), 1) := by decide +kernel
theorem dX8_figureOf_43 : decode cX8_figureOf 43 = .ok (.ireturn, 1) := by decide +kernel
theorem dX8_fault_0 : decode cX8_fault 0 = .ok (.aload_n 0, 1) := by decide +kernel
theorem dX8_fault_1 : decode cX8_fault 1 = .ok (.getfield 68, 3) := by decide +kernel
theorem dX8_fault_4 : decode cX8_fault 4 = .ok (.ireturn, 1) := by decide +kernel
theorem dX8_told_0 : decode cX8_told 0 = .ok (.iload_n 1, 1) := by decide +kernel
theorem dX8_told_1 : decode cX8_told 1 = .ok (.iconst 2, 1) := by decide +kernel
theorem dX8_told_2 : decode cX8_told 2 = .ok (.if_icmp .lt 22, 3) := by decide +kernel
theorem dX8_told_5 : decode cX8_told 5 = .ok (.iload_n 1, 1) := by decide +kernel
theorem dX8_told_6 : decode cX8_told 6 = .ok (.iconst 5, 1) := by decide +kernel
theorem dX8_told_7 : decode cX8_told 7 = .ok (.if_icmp .gt 17, 3) := by decide +kernel
theorem dX8_told_10 : decode cX8_told 10 = .ok (.aload_n 0, 1) := by decide +kernel
theorem dX8_told_11 : decode cX8_told 11 = .ok (.getfield 39, 3) := by decide +kernel
theorem dX8_told_14 : decode cX8_told 14 = .ok (.aload_n 0, 1) := by decide +kernel
theorem dX8_told_15 : decode cX8_told 15 = .ok (.getfield 12, 3) := by decide +kernel
theorem dX8_told_18 : decode cX8_told 18 = .ok (.getfield 104, 3) := by decide +kernel
theorem dX8_told_21 : decode cX8_told 21 = .ok (.invokevirtual 108, 3) := by decide +kernel
theorem dX8_told_24 : decode cX8_told 24 = .ok (.iload_n 1, 1) := by decide +kernel
theorem dX8_told_25 : decode cX8_told 25 = .ok (.tableswitch 155 0 9 #[55, 63, 68, 76, 84, 92, 108, 127, 135, 147], 55) := by decide +kernel
theorem dX8_told_80 : decode cX8_told 80 = .ok (.aload_n 0, 1) := by decide +kernel
theorem dX8_told_81 : decode cX8_told 81 = .ok (.getfield 12, 3) := by decide +kernel
theorem dX8_told_84 : decode cX8_told 84 = .ok (.getfield 112, 3) := by decide +kernel
theorem dX8_told_87 : decode cX8_told 87 = .ok (.ireturn, 1) := by decide +kernel
theorem dX8_told_88 : decode cX8_told 88 = .ok (.aload_n 0, 1) := by decide +kernel
theorem dX8_told_89 : decode cX8_told 89 = .ok (.getfield 64, 3) := by decide +kernel
theorem dX8_told_92 : decode cX8_told 92 = .ok (.ireturn, 1) := by decide +kernel
theorem dX8_told_93 : decode cX8_told 93 = .ok (.aload_n 0, 1) := by decide +kernel
theorem dX8_told_94 : decode cX8_told 94 = .ok (.getfield 39, 3) := by decide +kernel
theorem dX8_told_97 : decode cX8_told 97 = .ok (.getfield 115, 3) := by decide +kernel
theorem dX8_told_100 : decode cX8_told 100 = .ok (.ireturn, 1) := by decide +kernel
theorem dX8_told_101 : decode cX8_told 101 = .ok (.aload_n 0, 1) := by decide +kernel
theorem dX8_told_102 : decode cX8_told 102 = .ok (.getfield 39, 3) := by decide +kernel
theorem dX8_told_105 : decode cX8_told 105 = .ok (.getfield 118, 3) := by decide +kernel
theorem dX8_told_108 : decode cX8_told 108 = .ok (.ireturn, 1) := by decide +kernel
theorem dX8_told_109 : decode cX8_told 109 = .ok (.aload_n 0, 1) := by decide +kernel
theorem dX8_told_110 : decode cX8_told 110 = .ok (.getfield 39, 3) := by decide +kernel
theorem dX8_told_113 : decode cX8_told 113 = .ok (.getfield 121, 3) := by decide +kernel
theorem dX8_told_116 : decode cX8_told 116 = .ok (.ireturn, 1) := by decide +kernel
theorem dX8_told_117 : decode cX8_told 117 = .ok (.aload_n 0, 1) := by decide +kernel
theorem dX8_told_118 : decode cX8_told 118 = .ok (.getfield 39, 3) := by decide +kernel
theorem dX8_told_121 : decode cX8_told 121 = .ok (.getfield 118, 3) := by decide +kernel
theorem dX8_told_124 : decode cX8_told 124 = .ok (.ifCond .ne 7, 3) := by decide +kernel
theorem dX8_told_127 : decode cX8_told 127 = .ok (.iconst 1, 1) := by decide +kernel
theorem dX8_told_128 : decode cX8_told 128 = .ok (.goto 4, 3) := by decide +kernel
theorem dX8_told_131 : decode cX8_told 131 = .ok (.iconst 0, 1) := by decide +kernel
theorem dX8_told_132 : decode cX8_told 132 = .ok (.ireturn, 1) := by decide +kernel
theorem dX8_told_133 : decode cX8_told 133 = .ok (.aload_n 0, 1) := by decide +kernel
theorem dX8_told_134 : decode cX8_told 134 = .ok (.getfield 12, 3) := by decide +kernel
theorem dX8_told_137 : decode cX8_told 137 = .ok (.getfield 104, 3) := by decide +kernel
theorem dX8_told_140 : decode cX8_told 140 = .ok (.invokevirtual 124, 3) := by decide +kernel
theorem dX8_told_143 : decode cX8_told 143 = .ok (.ifCond .eq 7, 3) := by decide +kernel
theorem dX8_told_146 : decode cX8_told 146 = .ok (.iconst 1, 1) := by decide +kernel
theorem dX8_told_147 : decode cX8_told 147 = .ok (.goto 4, 3) := by decide +kernel
theorem dX8_told_150 : decode cX8_told 150 = .ok (.iconst 0, 1) := by decide +kernel
theorem dX8_told_151 : decode cX8_told 151 = .ok (.ireturn, 1) := by decide +kernel
theorem dX8_told_152 : decode cX8_told 152 = .ok (.aload_n 0, 1) := by decide +kernel
theorem dX8_told_153 : decode cX8_told 153 = .ok (.getfield 32, 3) := by decide +kernel
theorem dX8_told_156 : decode cX8_told 156 = .ok (.getfield 129, 3) := by decide +kernel
theorem dX8_told_159 : decode cX8_told 159 = .ok (.ireturn, 1) := by decide +kernel
theorem dX8_told_160 : decode cX8_told 160 = .ok (.aload_n 0, 1) := by decide +kernel
theorem dX8_told_161 : decode cX8_told 161 = .ok (.getfield 32, 3) := by decide +kernel
theorem dX8_told_164 : decode cX8_told 164 = .ok (.aload_n 0, 1) := by decide +kernel
theorem dX8_told_165 : decode cX8_told 165 = .ok (.getfield 12, 3) := by decide +kernel
theorem dX8_told_168 : decode cX8_told 168 = .ok (.invokevirtual 130, 3) := by decide +kernel
theorem dX8_told_171 : decode cX8_told 171 = .ok (.ireturn, 1) := by decide +kernel
theorem dX8_told_172 : decode cX8_told 172 = .ok (.aload_n 0, 1) := by decide +kernel
theorem dX8_told_173 : decode cX8_told 173 = .ok (.getfield 19, 3) := by decide +kernel
theorem dX8_told_176 : decode cX8_told 176 = .ok (.getfield 134, 3) := by decide +kernel
theorem dX8_told_179 : decode cX8_told 179 = .ok (.ireturn, 1) := by decide +kernel
theorem dX8_told_180 : decode cX8_told 180 = .ok (.ldc 75, 2) := by decide +kernel
theorem dX8_told_182 : decode cX8_told 182 = .ok (.ireturn, 1) := by decide +kernel
theorem dX8_tree_0 : decode cX8_tree 0 = .ok (.aload_n 0, 1) := by decide +kernel
theorem dX8_tree_1 : decode cX8_tree 1 = .ok (.getfield 12, 3) := by decide +kernel
theorem dX8_tree_4 : decode cX8_tree 4 = .ok (.iload_n 1, 1) := by decide +kernel
theorem dX8_tree_5 : decode cX8_tree 5 = .ok (.invokevirtual 135, 3) := by decide +kernel
theorem dX8_tree_8 : decode cX8_tree 8 = .ok (.ifCond .ne 6, 3) := by decide +kernel
theorem dX8_tree_11 : decode cX8_tree 11 = .ok (.ldc 139, 2) := by decide +kernel
theorem dX8_tree_13 : decode cX8_tree 13 = .ok (.ireturn, 1) := by decide +kernel
theorem dX8_tree_14 : decode cX8_tree 14 = .ok (.aload_n 0, 1) := by decide +kernel
theorem dX8_tree_15 : decode cX8_tree 15 = .ok (.getfield 12, 3) := by decide +kernel
theorem dX8_tree_18 : decode cX8_tree 18 = .ok (.iload_n 1, 1) := by decide +kernel
theorem dX8_tree_19 : decode cX8_tree 19 = .ok (.aload_n 0, 1) := by decide +kernel
theorem dX8_tree_20 : decode cX8_tree 20 = .ok (.getfield 53, 3) := by decide +kernel
theorem dX8_tree_23 : decode cX8_tree 23 = .ok (.invokevirtual 140, 3) := by decide +kernel
theorem dX8_tree_26 : decode cX8_tree 26 = .ok (.iload_n 2, 1) := by decide +kernel
theorem dX8_tree_27 : decode cX8_tree 27 = .ok (.tableswitch 123 0 8 #[49, 57, 67, 75, 90, 90, 90, 96, 115], 49) := by decide +kernel
theorem dX8_tree_76 : decode cX8_tree 76 = .ok (.aload_n 0, 1) := by decide +kernel
theorem dX8_tree_77 : decode cX8_tree 77 = .ok (.getfield 53, 3) := by decide +kernel
theorem dX8_tree_80 : decode cX8_tree 80 = .ok (.invokevirtual 144, 3) := by decide +kernel
theorem dX8_tree_83 : decode cX8_tree 83 = .ok (.ireturn, 1) := by decide +kernel
theorem dX8_tree_84 : decode cX8_tree 84 = .ok (.aload_n 0, 1) := by decide +kernel
theorem dX8_tree_85 : decode cX8_tree 85 = .ok (.getfield 53, 3) := by decide +kernel
theorem dX8_tree_88 : decode cX8_tree 88 = .ok (.getfield 147, 3) := by decide +kernel
theorem dX8_tree_91 : decode cX8_tree 91 = .ok (.iconst 1, 1) := by decide +kernel
theorem dX8_tree_92 : decode cX8_tree 92 = .ok (.iadd, 1) := by decide +kernel
theorem dX8_tree_93 : decode cX8_tree 93 = .ok (.ireturn, 1) := by decide +kernel
theorem dX8_tree_94 : decode cX8_tree 94 = .ok (.aload_n 0, 1) := by decide +kernel
theorem dX8_tree_95 : decode cX8_tree 95 = .ok (.getfield 53, 3) := by decide +kernel
theorem dX8_tree_98 : decode cX8_tree 98 = .ok (.invokevirtual 150, 3) := by decide +kernel
theorem dX8_tree_101 : decode cX8_tree 101 = .ok (.ireturn, 1) := by decide +kernel
theorem dX8_tree_102 : decode cX8_tree 102 = .ok (.aload_n 0, 1) := by decide +kernel
theorem dX8_tree_103 : decode cX8_tree 103 = .ok (.getfield 53, 3) := by decide +kernel
theorem dX8_tree_106 : decode cX8_tree 106 = .ok (.aload_n 0, 1) := by decide +kernel
theorem dX8_tree_107 : decode cX8_tree 107 = .ok (.getfield 12, 3) := by decide +kernel
theorem dX8_tree_110 : decode cX8_tree 110 = .ok (.getfield 104, 3) := by decide +kernel
theorem dX8_tree_113 : decode cX8_tree 113 = .ok (.invokevirtual 153, 3) := by decide +kernel
theorem dX8_tree_116 : decode cX8_tree 116 = .ok (.ireturn, 1) := by decide +kernel
theorem dX8_tree_117 : decode cX8_tree 117 = .ok (.aload_n 0, 1) := by decide +kernel
theorem dX8_tree_118 : decode cX8_tree 118 = .ok (.iload_n 2, 1) := by decide +kernel
theorem dX8_tree_119 : decode cX8_tree 119 = .ok (.invokevirtual 157, 3) := by decide +kernel
theorem dX8_tree_122 : decode cX8_tree 122 = .ok (.ireturn, 1) := by decide +kernel
theorem dX8_tree_123 : decode cX8_tree 123 = .ok (.aload_n 0, 1) := by decide +kernel
theorem dX8_tree_124 : decode cX8_tree 124 = .ok (.getfield 57, 3) := by decide +kernel
theorem dX8_tree_127 : decode cX8_tree 127 = .ok (.aload_n 0, 1) := by decide +kernel
theorem dX8_tree_128 : decode cX8_tree 128 = .ok (.getfield 53, 3) := by decide +kernel
theorem dX8_tree_131 : decode cX8_tree 131 = .ok (.invokevirtual 160, 3) := by decide +kernel
theorem dX8_tree_134 : decode cX8_tree 134 = .ok (.aload_n 0, 1) := by decide +kernel
theorem dX8_tree_135 : decode cX8_tree 135 = .ok (.getfield 57, 3) := by decide +kernel
theorem dX8_tree_138 : decode cX8_tree 138 = .ok (.invokevirtual 144, 3) := by decide +kernel
theorem dX8_tree_141 : decode cX8_tree 141 = .ok (.ireturn, 1) := by decide +kernel
theorem dX8_tree_142 : decode cX8_tree 142 = .ok (.aload_n 0, 1) := by decide +kernel
theorem dX8_tree_143 : decode cX8_tree 143 = .ok (.getfield 53, 3) := by decide +kernel
theorem dX8_tree_146 : decode cX8_tree 146 = .ok (.invokevirtual 164, 3) := by decide +kernel
theorem dX8_tree_149 : decode cX8_tree 149 = .ok (.ireturn, 1) := by decide +kernel
theorem dX8_tree_150 : decode cX8_tree 150 = .ok (.ldc 75, 2) := by decide +kernel
theorem dX8_tree_152 : decode cX8_tree 152 = .ok (.ireturn, 1) := by decide +kernel
theorem dX8_madePlain_0 : decode cX8_madePlain 0 = .ok (.aload_n 0, 1) := by decide +kernel
theorem dX8_madePlain_1 : decode cX8_madePlain 1 = .ok (.getfield 53, 3) := by decide +kernel
theorem dX8_madePlain_4 : decode cX8_madePlain 4 = .ok (.aload_n 0, 1) := by decide +kernel
theorem dX8_madePlain_5 : decode cX8_madePlain 5 = .ok (.getfield 12, 3) := by decide +kernel
theorem dX8_madePlain_8 : decode cX8_madePlain 8 = .ok (.getfield 104, 3) := by decide +kernel
theorem dX8_madePlain_11 : decode cX8_madePlain 11 = .ok (.invokevirtual 167, 3) := by decide +kernel
theorem dX8_madePlain_14 : decode cX8_madePlain 14 = .ok (.istore_n 2, 1) := by decide +kernel
theorem dX8_madePlain_15 : decode cX8_madePlain 15 = .ok (.iload_n 2, 1) := by decide +kernel
theorem dX8_madePlain_16 : decode cX8_madePlain 16 = .ok (.iconst (-1), 1) := by decide +kernel
theorem dX8_madePlain_17 : decode cX8_madePlain 17 = .ok (.if_icmp .ne 5, 3) := by decide +kernel
theorem dX8_madePlain_20 : decode cX8_madePlain 20 = .ok (.iconst (-1), 1) := by decide +kernel
theorem dX8_madePlain_21 : decode cX8_madePlain 21 = .ok (.ireturn, 1) := by decide +kernel
theorem dX8_madePlain_22 : decode cX8_madePlain 22 = .ok (.iload_n 1, 1) := by decide +kernel
theorem dX8_madePlain_23 : decode cX8_madePlain 23 = .ok (.lookupswitch 35 #[(4, 25), (5, 27)], 25) := by decide +kernel
theorem dX8_madePlain_48 : decode cX8_madePlain 48 = .ok (.iload_n 2, 1) := by decide +kernel
theorem dX8_madePlain_49 : decode cX8_madePlain 49 = .ok (.ireturn, 1) := by decide +kernel
theorem dX8_madePlain_50 : decode cX8_madePlain 50 = .ok (.aload_n 0, 1) := by decide +kernel
theorem dX8_madePlain_51 : decode cX8_madePlain 51 = .ok (.getfield 53, 3) := by decide +kernel
theorem dX8_madePlain_54 : decode cX8_madePlain 54 = .ok (.invokevirtual 144, 3) := by decide +kernel
theorem dX8_madePlain_57 : decode cX8_madePlain 57 = .ok (.ireturn, 1) := by decide +kernel
theorem dX8_madePlain_58 : decode cX8_madePlain 58 = .ok (.aload_n 0, 1) := by decide +kernel
theorem dX8_madePlain_59 : decode cX8_madePlain 59 = .ok (.getfield 53, 3) := by decide +kernel
theorem dX8_madePlain_62 : decode cX8_madePlain 62 = .ok (.getfield 147, 3) := by decide +kernel
theorem dX8_madePlain_65 : decode cX8_madePlain 65 = .ok (.iconst 1, 1) := by decide +kernel
theorem dX8_madePlain_66 : decode cX8_madePlain 66 = .ok (.iadd, 1) := by decide +kernel
theorem dX8_madePlain_67 : decode cX8_madePlain 67 = .ok (.ireturn, 1) := by decide +kernel
theorem dX8_pattern_0 : decode cX8_pattern 0 = .ok (.iload_n 1, 1) := by decide +kernel
theorem dX8_pattern_1 : decode cX8_pattern 1 = .ok (.invokestatic 170, 3) := by decide +kernel
theorem dX8_pattern_4 : decode cX8_pattern 4 = .ok (.ifCond .ne 6, 3) := by decide +kernel
theorem dX8_pattern_7 : decode cX8_pattern 7 = .ok (.ldc 139, 2) := by decide +kernel
theorem dX8_pattern_9 : decode cX8_pattern 9 = .ok (.ireturn, 1) := by decide +kernel
theorem dX8_pattern_10 : decode cX8_pattern 10 = .ok (.iload_n 2, 1) := by decide +kernel
theorem dX8_pattern_11 : decode cX8_pattern 11 = .ok (.tableswitch 61 0 2 #[25, 37, 49], 25) := by decide +kernel
theorem dX8_pattern_36 : decode cX8_pattern 36 = .ok (.aload_n 0, 1) := by decide +kernel
theorem dX8_pattern_37 : decode cX8_pattern 37 = .ok (.getfield 12, 3) := by decide +kernel
theorem dX8_pattern_40 : decode cX8_pattern 40 = .ok (.getfield 104, 3) := by decide +kernel
theorem dX8_pattern_43 : decode cX8_pattern 43 = .ok (.iload_n 1, 1) := by decide +kernel
theorem dX8_pattern_44 : decode cX8_pattern 44 = .ok (.invokevirtual 173, 3) := by decide +kernel
theorem dX8_pattern_47 : decode cX8_pattern 47 = .ok (.ireturn, 1) := by decide +kernel
theorem dX8_pattern_48 : decode cX8_pattern 48 = .ok (.aload_n 0, 1) := by decide +kernel
theorem dX8_pattern_49 : decode cX8_pattern 49 = .ok (.getfield 12, 3) := by decide +kernel
theorem dX8_pattern_52 : decode cX8_pattern 52 = .ok (.getfield 104, 3) := by decide +kernel
theorem dX8_pattern_55 : decode cX8_pattern 55 = .ok (.iload_n 1, 1) := by decide +kernel
theorem dX8_pattern_56 : decode cX8_pattern 56 = .ok (.invokevirtual 176, 3) := by decide +kernel
theorem dX8_pattern_59 : decode cX8_pattern 59 = .ok (.ireturn, 1) := by decide +kernel
theorem dX8_pattern_60 : decode cX8_pattern 60 = .ok (.aload_n 0, 1) := by decide +kernel
theorem dX8_pattern_61 : decode cX8_pattern 61 = .ok (.getfield 12, 3) := by decide +kernel
theorem dX8_pattern_64 : decode cX8_pattern 64 = .ok (.getfield 104, 3) := by decide +kernel
theorem dX8_pattern_67 : decode cX8_pattern 67 = .ok (.iload_n 1, 1) := by decide +kernel
theorem dX8_pattern_68 : decode cX8_pattern 68 = .ok (.invokevirtual 179, 3) := by decide +kernel
theorem dX8_pattern_71 : decode cX8_pattern 71 = .ok (.ireturn, 1) := by decide +kernel
theorem dX8_pattern_72 : decode cX8_pattern 72 = .ok (.ldc 75, 2) := by decide +kernel
theorem dX8_pattern_74 : decode cX8_pattern 74 = .ok (.ireturn, 1) := by decide +kernel
theorem dX8_same_0 : decode cX8_same 0 = .ok (.aload_n 0, 1) := by decide +kernel
theorem dX8_same_1 : decode cX8_same 1 = .ok (.getfield 12, 3) := by decide +kernel
theorem dX8_same_4 : decode cX8_same 4 = .ok (.iload_n 1, 1) := by decide +kernel
theorem dX8_same_5 : decode cX8_same 5 = .ok (.invokevirtual 135, 3) := by decide +kernel
theorem dX8_same_8 : decode cX8_same 8 = .ok (.ifCond .eq 14, 3) := by decide +kernel
theorem dX8_same_11 : decode cX8_same 11 = .ok (.aload_n 0, 1) := by decide +kernel
theorem dX8_same_12 : decode cX8_same 12 = .ok (.getfield 12, 3) := by decide +kernel
theorem dX8_same_15 : decode cX8_same 15 = .ok (.iload_n 2, 1) := by decide +kernel
theorem dX8_same_16 : decode cX8_same 16 = .ok (.invokevirtual 135, 3) := by decide +kernel
theorem dX8_same_19 : decode cX8_same 19 = .ok (.ifCond .ne 6, 3) := by decide +kernel
theorem dX8_same_22 : decode cX8_same 22 = .ok (.ldc 139, 2) := by decide +kernel
theorem dX8_same_24 : decode cX8_same 24 = .ok (.ireturn, 1) := by decide +kernel
theorem dX8_same_25 : decode cX8_same 25 = .ok (.aload_n 0, 1) := by decide +kernel
theorem dX8_same_26 : decode cX8_same 26 = .ok (.getfield 12, 3) := by decide +kernel
theorem dX8_same_29 : decode cX8_same 29 = .ok (.iload_n 1, 1) := by decide +kernel
theorem dX8_same_30 : decode cX8_same 30 = .ok (.aload_n 0, 1) := by decide +kernel
theorem dX8_same_31 : decode cX8_same 31 = .ok (.getfield 53, 3) := by decide +kernel
theorem dX8_same_34 : decode cX8_same 34 = .ok (.invokevirtual 140, 3) := by decide +kernel
theorem dX8_same_37 : decode cX8_same 37 = .ok (.aload_n 0, 1) := by decide +kernel
theorem dX8_same_38 : decode cX8_same 38 = .ok (.getfield 12, 3) := by decide +kernel
theorem dX8_same_41 : decode cX8_same 41 = .ok (.iload_n 2, 1) := by decide +kernel
theorem dX8_same_42 : decode cX8_same 42 = .ok (.aload_n 0, 1) := by decide +kernel
theorem dX8_same_43 : decode cX8_same 43 = .ok (.getfield 57, 3) := by decide +kernel
theorem dX8_same_46 : decode cX8_same 46 = .ok (.invokevirtual 140, 3) := by decide +kernel
theorem dX8_same_49 : decode cX8_same 49 = .ok (.aload_n 0, 1) := by decide +kernel
theorem dX8_same_50 : decode cX8_same 50 = .ok (.getfield 53, 3) := by decide +kernel
theorem dX8_same_53 : decode cX8_same 53 = .ok (.aload_n 0, 1) := by decide +kernel
theorem dX8_same_54 : decode cX8_same 54 = .ok (.getfield 12, 3) := by decide +kernel
theorem dX8_same_57 : decode cX8_same 57 = .ok (.getfield 104, 3) := by decide +kernel
theorem dX8_same_60 : decode cX8_same 60 = .ok (.invokevirtual 167, 3) := by decide +kernel
theorem dX8_same_63 : decode cX8_same 63 = .ok (.iconst (-1), 1) := by decide +kernel
theorem dX8_same_64 : decode cX8_same 64 = .ok (.if_icmp .eq 21, 3) := by decide +kernel
theorem dX8_same_67 : decode cX8_same 67 = .ok (.aload_n 0, 1) := by decide +kernel
theorem dX8_same_68 : decode cX8_same 68 = .ok (.getfield 57, 3) := by decide +kernel
theorem dX8_same_71 : decode cX8_same 71 = .ok (.aload_n 0, 1) := by decide +kernel
theorem dX8_same_72 : decode cX8_same 72 = .ok (.getfield 12, 3) := by decide +kernel
theorem dX8_same_75 : decode cX8_same 75 = .ok (.getfield 104, 3) := by decide +kernel
theorem dX8_same_78 : decode cX8_same 78 = .ok (.invokevirtual 167, 3) := by decide +kernel
theorem dX8_same_81 : decode cX8_same 81 = .ok (.iconst (-1), 1) := by decide +kernel
theorem dX8_same_82 : decode cX8_same 82 = .ok (.if_icmp .ne 5, 3) := by decide +kernel
theorem dX8_same_85 : decode cX8_same 85 = .ok (.iconst (-1), 1) := by decide +kernel
theorem dX8_same_86 : decode cX8_same 86 = .ok (.ireturn, 1) := by decide +kernel
theorem dX8_same_87 : decode cX8_same 87 = .ok (.aload_n 0, 1) := by decide +kernel
theorem dX8_same_88 : decode cX8_same 88 = .ok (.getfield 53, 3) := by decide +kernel
theorem dX8_same_91 : decode cX8_same 91 = .ok (.aload_n 0, 1) := by decide +kernel
theorem dX8_same_92 : decode cX8_same 92 = .ok (.getfield 57, 3) := by decide +kernel
theorem dX8_same_95 : decode cX8_same 95 = .ok (.invokevirtual 182, 3) := by decide +kernel
theorem dX8_same_98 : decode cX8_same 98 = .ok (.ifCond .eq 7, 3) := by decide +kernel
theorem dX8_same_101 : decode cX8_same 101 = .ok (.iconst 1, 1) := by decide +kernel
theorem dX8_same_102 : decode cX8_same 102 = .ok (.goto 4, 3) := by decide +kernel
theorem dX8_same_105 : decode cX8_same 105 = .ok (.iconst 0, 1) := by decide +kernel
theorem dX8_same_106 : decode cX8_same 106 = .ok (.ireturn, 1) := by decide +kernel
theorem dX8_count_0 : decode cX8_count 0 = .ok (.iload_n 1, 1) := by decide +kernel
theorem dX8_count_1 : decode cX8_count 1 = .ok (.invokestatic 186, 3) := by decide +kernel
theorem dX8_count_4 : decode cX8_count 4 = .ok (.ifCond .ne 7, 3) := by decide +kernel
theorem dX8_count_7 : decode cX8_count 7 = .ok (.ldc2_w 189, 3) := by decide +kernel
theorem dX8_count_10 : decode cX8_count 10 = .ok (.lreturn, 1) := by decide +kernel
theorem dX8_count_11 : decode cX8_count 11 = .ok (.aload_n 0, 1) := by decide +kernel
theorem dX8_count_12 : decode cX8_count 12 = .ok (.getfield 46, 3) := by decide +kernel
theorem dX8_count_15 : decode cX8_count 15 = .ok (.aload_n 0, 1) := by decide +kernel
theorem dX8_count_16 : decode cX8_count 16 = .ok (.getfield 12, 3) := by decide +kernel
theorem dX8_count_19 : decode cX8_count 19 = .ok (.getfield 104, 3) := by decide +kernel
theorem dX8_count_22 : decode cX8_count 22 = .ok (.invokevirtual 191, 3) := by decide +kernel
theorem dX8_count_25 : decode cX8_count 25 = .ok (.aload_n 0, 1) := by decide +kernel
theorem dX8_count_26 : decode cX8_count 26 = .ok (.getfield 46, 3) := by decide +kernel
theorem dX8_count_29 : decode cX8_count 29 = .ok (.getfield 194, 3) := by decide +kernel
theorem dX8_count_32 : decode cX8_count 32 = .ok (.iload_n 1, 1) := by decide +kernel
theorem dX8_count_33 : decode cX8_count 33 = .ok (.laload, 1) := by decide +kernel
theorem dX8_count_34 : decode cX8_count 34 = .ok (.lreturn, 1) := by decide +kernel
theorem dX8_undoneBy_0 : decode cX8_undoneBy 0 = .ok (.iload_n 1, 1) := by decide +kernel
theorem dX8_undoneBy_1 : decode cX8_undoneBy 1 = .ok (.invokestatic 186, 3) := by decide +kernel
theorem dX8_undoneBy_4 : decode cX8_undoneBy 4 = .ok (.ifCond .ne 7, 3) := by decide +kernel
theorem dX8_undoneBy_7 : decode cX8_undoneBy 7 = .ok (.ldc2_w 189, 3) := by decide +kernel
theorem dX8_undoneBy_10 : decode cX8_undoneBy 10 = .ok (.lreturn, 1) := by decide +kernel
theorem dX8_undoneBy_11 : decode cX8_undoneBy 11 = .ok (.aload_n 0, 1) := by decide +kernel
theorem dX8_undoneBy_12 : decode cX8_undoneBy 12 = .ok (.getfield 46, 3) := by decide +kernel
theorem dX8_undoneBy_15 : decode cX8_undoneBy 15 = .ok (.aload_n 0, 1) := by decide +kernel
theorem dX8_undoneBy_16 : decode cX8_undoneBy 16 = .ok (.getfield 12, 3) := by decide +kernel
theorem dX8_undoneBy_19 : decode cX8_undoneBy 19 = .ok (.getfield 104, 3) := by decide +kernel
theorem dX8_undoneBy_22 : decode cX8_undoneBy 22 = .ok (.invokevirtual 191, 3) := by decide +kernel
theorem dX8_undoneBy_25 : decode cX8_undoneBy 25 = .ok (.aload_n 0, 1) := by decide +kernel
theorem dX8_undoneBy_26 : decode cX8_undoneBy 26 = .ok (.getfield 46, 3) := by decide +kernel
theorem dX8_undoneBy_29 : decode cX8_undoneBy 29 = .ok (.invokevirtual 198, 3) := by decide +kernel
theorem dX8_undoneBy_32 : decode cX8_undoneBy 32 = .ok (.aload_n 0, 1) := by decide +kernel
theorem dX8_undoneBy_33 : decode cX8_undoneBy 33 = .ok (.getfield 46, 3) := by decide +kernel
theorem dX8_undoneBy_36 : decode cX8_undoneBy 36 = .ok (.getfield 201, 3) := by decide +kernel
theorem dX8_undoneBy_39 : decode cX8_undoneBy 39 = .ok (.iload_n 1, 1) := by decide +kernel
theorem dX8_undoneBy_40 : decode cX8_undoneBy 40 = .ok (.laload, 1) := by decide +kernel
theorem dX8_undoneBy_41 : decode cX8_undoneBy 41 = .ok (.lreturn, 1) := by decide +kernel
theorem dX8_graft_0 : decode cX8_graft 0 = .ok (.aload_n 0, 1) := by decide +kernel
theorem dX8_graft_1 : decode cX8_graft 1 = .ok (.getfield 12, 3) := by decide +kernel
theorem dX8_graft_4 : decode cX8_graft 4 = .ok (.iload_n 1, 1) := by decide +kernel
theorem dX8_graft_5 : decode cX8_graft 5 = .ok (.invokevirtual 135, 3) := by decide +kernel
theorem dX8_graft_8 : decode cX8_graft 8 = .ok (.ifCond .eq 14, 3) := by decide +kernel
theorem dX8_graft_11 : decode cX8_graft 11 = .ok (.aload_n 0, 1) := by decide +kernel
theorem dX8_graft_12 : decode cX8_graft 12 = .ok (.getfield 12, 3) := by decide +kernel
theorem dX8_graft_15 : decode cX8_graft 15 = .ok (.iload_n 3, 1) := by decide +kernel
theorem dX8_graft_16 : decode cX8_graft 16 = .ok (.invokevirtual 135, 3) := by decide +kernel
theorem dX8_graft_19 : decode cX8_graft 19 = .ok (.ifCond .ne 6, 3) := by decide +kernel
theorem dX8_graft_22 : decode cX8_graft 22 = .ok (.ldc 139, 2) := by decide +kernel
theorem dX8_graft_24 : decode cX8_graft 24 = .ok (.ireturn, 1) := by decide +kernel
theorem dX8_graft_25 : decode cX8_graft 25 = .ok (.aload_n 0, 1) := by decide +kernel
theorem dX8_graft_26 : decode cX8_graft 26 = .ok (.getfield 12, 3) := by decide +kernel
theorem dX8_graft_29 : decode cX8_graft 29 = .ok (.iload_n 1, 1) := by decide +kernel
theorem dX8_graft_30 : decode cX8_graft 30 = .ok (.aload_n 0, 1) := by decide +kernel
theorem dX8_graft_31 : decode cX8_graft 31 = .ok (.getfield 53, 3) := by decide +kernel
theorem dX8_graft_34 : decode cX8_graft 34 = .ok (.invokevirtual 140, 3) := by decide +kernel
theorem dX8_graft_37 : decode cX8_graft 37 = .ok (.aload_n 0, 1) := by decide +kernel
theorem dX8_graft_38 : decode cX8_graft 38 = .ok (.getfield 12, 3) := by decide +kernel
theorem dX8_graft_41 : decode cX8_graft 41 = .ok (.iload_n 3, 1) := by decide +kernel
theorem dX8_graft_42 : decode cX8_graft 42 = .ok (.aload_n 0, 1) := by decide +kernel
theorem dX8_graft_43 : decode cX8_graft 43 = .ok (.getfield 57, 3) := by decide +kernel
theorem dX8_graft_46 : decode cX8_graft 46 = .ok (.invokevirtual 140, 3) := by decide +kernel
theorem dX8_graft_49 : decode cX8_graft 49 = .ok (.aload_n 0, 1) := by decide +kernel
theorem dX8_graft_50 : decode cX8_graft 50 = .ok (.getfield 53, 3) := by decide +kernel
theorem dX8_graft_53 : decode cX8_graft 53 = .ok (.iload_n 2, 1) := by decide +kernel
theorem dX8_graft_54 : decode cX8_graft 54 = .ok (.invokevirtual 204, 3) := by decide +kernel
theorem dX8_graft_57 : decode cX8_graft 57 = .ok (.istore 4, 2) := by decide +kernel
theorem dX8_graft_59 : decode cX8_graft 59 = .ok (.iload 4, 2) := by decide +kernel
theorem dX8_graft_61 : decode cX8_graft 61 = .ok (.iconst (-1), 1) := by decide +kernel
theorem dX8_graft_62 : decode cX8_graft 62 = .ok (.if_icmp .ne 6, 3) := by decide +kernel
theorem dX8_graft_65 : decode cX8_graft 65 = .ok (.ldc 139, 2) := by decide +kernel
theorem dX8_graft_67 : decode cX8_graft 67 = .ok (.ireturn, 1) := by decide +kernel
theorem dX8_graft_68 : decode cX8_graft 68 = .ok (.aload_n 0, 1) := by decide +kernel
theorem dX8_graft_69 : decode cX8_graft 69 = .ok (.getfield 12, 3) := by decide +kernel
theorem dX8_graft_72 : decode cX8_graft 72 = .ok (.invokevirtual 77, 3) := by decide +kernel
theorem dX8_graft_75 : decode cX8_graft 75 = .ok (.ifCond .eq 6, 3) := by decide +kernel
theorem dX8_graft_78 : decode cX8_graft 78 = .ok (.ldc 76, 2) := by decide +kernel
theorem dX8_graft_80 : decode cX8_graft 80 = .ok (.ireturn, 1) := by decide +kernel
theorem dX8_graft_81 : decode cX8_graft 81 = .ok (.aload_n 0, 1) := by decide +kernel
theorem dX8_graft_82 : decode cX8_graft 82 = .ok (.getfield 53, 3) := by decide +kernel
theorem dX8_graft_85 : decode cX8_graft 85 = .ok (.aload_n 0, 1) := by decide +kernel
theorem dX8_graft_86 : decode cX8_graft 86 = .ok (.getfield 57, 3) := by decide +kernel
theorem dX8_graft_89 : decode cX8_graft 89 = .ok (.invokevirtual 207, 3) := by decide +kernel
theorem dX8_graft_92 : decode cX8_graft 92 = .ok (.ifCond .eq 23, 3) := by decide +kernel
theorem dX8_graft_95 : decode cX8_graft 95 = .ok (.aload_n 0, 1) := by decide +kernel
theorem dX8_graft_96 : decode cX8_graft 96 = .ok (.getfield 53, 3) := by decide +kernel
theorem dX8_graft_99 : decode cX8_graft 99 = .ok (.getfield 147, 3) := by decide +kernel
theorem dX8_graft_102 : decode cX8_graft 102 = .ok (.ifCond .eq 13, 3) := by decide +kernel
theorem dX8_graft_105 : decode cX8_graft 105 = .ok (.aload_n 0, 1) := by decide +kernel
theorem dX8_graft_106 : decode cX8_graft 106 = .ok (.getfield 57, 3) := by decide +kernel
theorem dX8_graft_109 : decode cX8_graft 109 = .ok (.getfield 147, 3) := by decide +kernel
theorem dX8_graft_112 : decode cX8_graft 112 = .ok (.ifCond .ne 6, 3) := by decide +kernel
theorem dX8_graft_115 : decode cX8_graft 115 = .ok (.ldc 210, 2) := by decide +kernel
theorem dX8_graft_117 : decode cX8_graft 117 = .ok (.ireturn, 1) := by decide +kernel
theorem dX8_graft_118 : decode cX8_graft 118 = .ok (.aload_n 0, 1) := by decide +kernel
theorem dX8_graft_119 : decode cX8_graft 119 = .ok (.getfield 53, 3) := by decide +kernel
theorem dX8_graft_122 : decode cX8_graft 122 = .ok (.iload 4, 2) := by decide +kernel
theorem dX8_graft_124 : decode cX8_graft 124 = .ok (.aload_n 0, 1) := by decide +kernel
theorem dX8_graft_125 : decode cX8_graft 125 = .ok (.getfield 57, 3) := by decide +kernel
theorem dX8_graft_128 : decode cX8_graft 128 = .ok (.invokevirtual 211, 3) := by decide +kernel
theorem dX8_graft_131 : decode cX8_graft 131 = .ok (.aload_n 0, 1) := by decide +kernel
theorem dX8_graft_132 : decode cX8_graft 132 = .ok (.getfield 53, 3) := by decide +kernel
theorem dX8_graft_135 : decode cX8_graft 135 = .ok (.dup, 1) := by decide +kernel
theorem dX8_graft_136 : decode cX8_graft 136 = .ok (.getfield 147, 3) := by decide +kernel
theorem dX8_graft_139 : decode cX8_graft 139 = .ok (.aload_n 0, 1) := by decide +kernel
theorem dX8_graft_140 : decode cX8_graft 140 = .ok (.getfield 57, 3) := by decide +kernel
theorem dX8_graft_143 : decode cX8_graft 143 = .ok (.getfield 147, 3) := by decide +kernel
theorem dX8_graft_146 : decode cX8_graft 146 = .ok (.imul, 1) := by decide +kernel
theorem dX8_graft_147 : decode cX8_graft 147 = .ok (.putfield 147, 3) := by decide +kernel
theorem dX8_graft_150 : decode cX8_graft 150 = .ok (.aload_n 0, 1) := by decide +kernel
theorem dX8_graft_151 : decode cX8_graft 151 = .ok (.getfield 19, 3) := by decide +kernel
theorem dX8_graft_154 : decode cX8_graft 154 = .ok (.aload_n 0, 1) := by decide +kernel
theorem dX8_graft_155 : decode cX8_graft 155 = .ok (.getfield 12, 3) := by decide +kernel
theorem dX8_graft_158 : decode cX8_graft 158 = .ok (.invokevirtual 85, 3) := by decide +kernel
theorem dX8_graft_161 : decode cX8_graft 161 = .ok (.aload_n 0, 1) := by decide +kernel
theorem dX8_graft_162 : decode cX8_graft 162 = .ok (.getfield 12, 3) := by decide +kernel
theorem dX8_graft_165 : decode cX8_graft 165 = .ok (.aload_n 0, 1) := by decide +kernel
theorem dX8_graft_166 : decode cX8_graft 166 = .ok (.getfield 53, 3) := by decide +kernel
theorem dX8_graft_169 : decode cX8_graft 169 = .ok (.invokevirtual 89, 3) := by decide +kernel
theorem dX8_graft_172 : decode cX8_graft 172 = .ok (.ireturn, 1) := by decide +kernel
theorem dX8_step_0 : decode cX8_step 0 = .ok (.aload_n 0, 1) := by decide +kernel
theorem dX8_step_1 : decode cX8_step 1 = .ok (.getfield 12, 3) := by decide +kernel
theorem dX8_step_4 : decode cX8_step 4 = .ok (.iload_n 1, 1) := by decide +kernel
theorem dX8_step_5 : decode cX8_step 5 = .ok (.invokevirtual 135, 3) := by decide +kernel
theorem dX8_step_8 : decode cX8_step 8 = .ok (.ifCond .ne 6, 3) := by decide +kernel
theorem dX8_step_11 : decode cX8_step 11 = .ok (.ldc 139, 2) := by decide +kernel
theorem dX8_step_13 : decode cX8_step 13 = .ok (.ireturn, 1) := by decide +kernel
theorem dX8_step_14 : decode cX8_step 14 = .ok (.aload_n 0, 1) := by decide +kernel
theorem dX8_step_15 : decode cX8_step 15 = .ok (.getfield 12, 3) := by decide +kernel
theorem dX8_step_18 : decode cX8_step 18 = .ok (.iload_n 1, 1) := by decide +kernel
theorem dX8_step_19 : decode cX8_step 19 = .ok (.aload_n 0, 1) := by decide +kernel
theorem dX8_step_20 : decode cX8_step 20 = .ok (.getfield 53, 3) := by decide +kernel
theorem dX8_step_23 : decode cX8_step 23 = .ok (.invokevirtual 140, 3) := by decide +kernel
theorem dX8_step_26 : decode cX8_step 26 = .ok (.aload_n 0, 1) := by decide +kernel
theorem dX8_step_27 : decode cX8_step 27 = .ok (.getfield 53, 3) := by decide +kernel
theorem dX8_step_30 : decode cX8_step 30 = .ok (.iload_n 2, 1) := by decide +kernel
theorem dX8_step_31 : decode cX8_step 31 = .ok (.aload_n 0, 1) := by decide +kernel
theorem dX8_step_32 : decode cX8_step 32 = .ok (.getfield 12, 3) := by decide +kernel
theorem dX8_step_35 : decode cX8_step 35 = .ok (.getfield 104, 3) := by decide +kernel
theorem dX8_step_38 : decode cX8_step 38 = .ok (.invokevirtual 214, 3) := by decide +kernel
theorem dX8_step_41 : decode cX8_step 41 = .ok (.istore_n 3, 1) := by decide +kernel
theorem dX8_step_42 : decode cX8_step 42 = .ok (.iload_n 3, 1) := by decide +kernel
theorem dX8_step_43 : decode cX8_step 43 = .ok (.iconst (-1), 1) := by decide +kernel
theorem dX8_step_44 : decode cX8_step 44 = .ok (.if_icmp .ne 6, 3) := by decide +kernel
theorem dX8_step_47 : decode cX8_step 47 = .ok (.ldc 75, 2) := by decide +kernel
theorem dX8_step_49 : decode cX8_step 49 = .ok (.ireturn, 1) := by decide +kernel
theorem dX8_step_50 : decode cX8_step 50 = .ok (.aload_n 0, 1) := by decide +kernel
theorem dX8_step_51 : decode cX8_step 51 = .ok (.getfield 53, 3) := by decide +kernel
theorem dX8_step_54 : decode cX8_step 54 = .ok (.iload_n 3, 1) := by decide +kernel
theorem dX8_step_55 : decode cX8_step 55 = .ok (.aload_n 0, 1) := by decide +kernel
theorem dX8_step_56 : decode cX8_step 56 = .ok (.getfield 12, 3) := by decide +kernel
theorem dX8_step_59 : decode cX8_step 59 = .ok (.getfield 104, 3) := by decide +kernel
theorem dX8_step_62 : decode cX8_step 62 = .ok (.invokevirtual 218, 3) := by decide +kernel
theorem dX8_step_65 : decode cX8_step 65 = .ok (.aload_n 0, 1) := by decide +kernel
theorem dX8_step_66 : decode cX8_step 66 = .ok (.getfield 19, 3) := by decide +kernel
theorem dX8_step_69 : decode cX8_step 69 = .ok (.aload_n 0, 1) := by decide +kernel
theorem dX8_step_70 : decode cX8_step 70 = .ok (.getfield 12, 3) := by decide +kernel
theorem dX8_step_73 : decode cX8_step 73 = .ok (.invokevirtual 85, 3) := by decide +kernel
theorem dX8_step_76 : decode cX8_step 76 = .ok (.aload_n 0, 1) := by decide +kernel
theorem dX8_step_77 : decode cX8_step 77 = .ok (.getfield 12, 3) := by decide +kernel
theorem dX8_step_80 : decode cX8_step 80 = .ok (.iload_n 1, 1) := by decide +kernel
theorem dX8_step_81 : decode cX8_step 81 = .ok (.aload_n 0, 1) := by decide +kernel
theorem dX8_step_82 : decode cX8_step 82 = .ok (.getfield 53, 3) := by decide +kernel
theorem dX8_step_85 : decode cX8_step 85 = .ok (.invokevirtual 222, 3) := by decide +kernel
theorem dX8_step_88 : decode cX8_step 88 = .ok (.aload_n 0, 1) := by decide +kernel
theorem dX8_step_89 : decode cX8_step 89 = .ok (.getfield 53, 3) := by decide +kernel
theorem dX8_step_92 : decode cX8_step 92 = .ok (.aload_n 0, 1) := by decide +kernel
theorem dX8_step_93 : decode cX8_step 93 = .ok (.getfield 12, 3) := by decide +kernel
theorem dX8_step_96 : decode cX8_step 96 = .ok (.getfield 104, 3) := by decide +kernel
theorem dX8_step_99 : decode cX8_step 99 = .ok (.invokevirtual 153, 3) := by decide +kernel
theorem dX8_step_102 : decode cX8_step 102 = .ok (.ireturn, 1) := by decide +kernel
theorem dX8_plain_0 : decode cX8_plain 0 = .ok (.aload_n 0, 1) := by decide +kernel
theorem dX8_plain_1 : decode cX8_plain 1 = .ok (.getfield 12, 3) := by decide +kernel
theorem dX8_plain_4 : decode cX8_plain 4 = .ok (.iload_n 1, 1) := by decide +kernel
theorem dX8_plain_5 : decode cX8_plain 5 = .ok (.invokevirtual 135, 3) := by decide +kernel
theorem dX8_plain_8 : decode cX8_plain 8 = .ok (.ifCond .ne 6, 3) := by decide +kernel
theorem dX8_plain_11 : decode cX8_plain 11 = .ok (.ldc 139, 2) := by decide +kernel
theorem dX8_plain_13 : decode cX8_plain 13 = .ok (.ireturn, 1) := by decide +kernel
theorem dX8_plain_14 : decode cX8_plain 14 = .ok (.aload_n 0, 1) := by decide +kernel
theorem dX8_plain_15 : decode cX8_plain 15 = .ok (.getfield 12, 3) := by decide +kernel
theorem dX8_plain_18 : decode cX8_plain 18 = .ok (.iload_n 1, 1) := by decide +kernel
theorem dX8_plain_19 : decode cX8_plain 19 = .ok (.aload_n 0, 1) := by decide +kernel
theorem dX8_plain_20 : decode cX8_plain 20 = .ok (.getfield 53, 3) := by decide +kernel
theorem dX8_plain_23 : decode cX8_plain 23 = .ok (.invokevirtual 140, 3) := by decide +kernel
theorem dX8_plain_26 : decode cX8_plain 26 = .ok (.aload_n 0, 1) := by decide +kernel
theorem dX8_plain_27 : decode cX8_plain 27 = .ok (.getfield 53, 3) := by decide +kernel
theorem dX8_plain_30 : decode cX8_plain 30 = .ok (.aload_n 0, 1) := by decide +kernel
theorem dX8_plain_31 : decode cX8_plain 31 = .ok (.getfield 12, 3) := by decide +kernel
theorem dX8_plain_34 : decode cX8_plain 34 = .ok (.getfield 104, 3) := by decide +kernel
theorem dX8_plain_37 : decode cX8_plain 37 = .ok (.invokevirtual 167, 3) := by decide +kernel
theorem dX8_plain_40 : decode cX8_plain 40 = .ok (.istore_n 2, 1) := by decide +kernel
theorem dX8_plain_41 : decode cX8_plain 41 = .ok (.iload_n 2, 1) := by decide +kernel
theorem dX8_plain_42 : decode cX8_plain 42 = .ok (.iconst (-1), 1) := by decide +kernel
theorem dX8_plain_43 : decode cX8_plain 43 = .ok (.if_icmp .ne 6, 3) := by decide +kernel
theorem dX8_plain_46 : decode cX8_plain 46 = .ok (.ldc 210, 2) := by decide +kernel
theorem dX8_plain_48 : decode cX8_plain 48 = .ok (.ireturn, 1) := by decide +kernel
theorem dX8_plain_49 : decode cX8_plain 49 = .ok (.aload_n 0, 1) := by decide +kernel
theorem dX8_plain_50 : decode cX8_plain 50 = .ok (.getfield 19, 3) := by decide +kernel
theorem dX8_plain_53 : decode cX8_plain 53 = .ok (.aload_n 0, 1) := by decide +kernel
theorem dX8_plain_54 : decode cX8_plain 54 = .ok (.getfield 12, 3) := by decide +kernel
theorem dX8_plain_57 : decode cX8_plain 57 = .ok (.invokevirtual 85, 3) := by decide +kernel
theorem dX8_plain_60 : decode cX8_plain 60 = .ok (.aload_n 0, 1) := by decide +kernel
theorem dX8_plain_61 : decode cX8_plain 61 = .ok (.getfield 12, 3) := by decide +kernel
theorem dX8_plain_64 : decode cX8_plain 64 = .ok (.iload_n 1, 1) := by decide +kernel
theorem dX8_plain_65 : decode cX8_plain 65 = .ok (.aload_n 0, 1) := by decide +kernel
theorem dX8_plain_66 : decode cX8_plain 66 = .ok (.getfield 53, 3) := by decide +kernel
theorem dX8_plain_69 : decode cX8_plain 69 = .ok (.invokevirtual 222, 3) := by decide +kernel
theorem dX8_plain_72 : decode cX8_plain 72 = .ok (.iload_n 2, 1) := by decide +kernel
theorem dX8_plain_73 : decode cX8_plain 73 = .ok (.ireturn, 1) := by decide +kernel
theorem dX8_mirror_0 : decode cX8_mirror 0 = .ok (.aload_n 0, 1) := by decide +kernel
theorem dX8_mirror_1 : decode cX8_mirror 1 = .ok (.getfield 12, 3) := by decide +kernel
theorem dX8_mirror_4 : decode cX8_mirror 4 = .ok (.iload_n 1, 1) := by decide +kernel
theorem dX8_mirror_5 : decode cX8_mirror 5 = .ok (.invokevirtual 135, 3) := by decide +kernel
theorem dX8_mirror_8 : decode cX8_mirror 8 = .ok (.ifCond .ne 6, 3) := by decide +kernel
theorem dX8_mirror_11 : decode cX8_mirror 11 = .ok (.ldc 139, 2) := by decide +kernel
theorem dX8_mirror_13 : decode cX8_mirror 13 = .ok (.ireturn, 1) := by decide +kernel
theorem dX8_mirror_14 : decode cX8_mirror 14 = .ok (.aload_n 0, 1) := by decide +kernel
theorem dX8_mirror_15 : decode cX8_mirror 15 = .ok (.getfield 12, 3) := by decide +kernel
theorem dX8_mirror_18 : decode cX8_mirror 18 = .ok (.iload_n 1, 1) := by decide +kernel
theorem dX8_mirror_19 : decode cX8_mirror 19 = .ok (.aload_n 0, 1) := by decide +kernel
theorem dX8_mirror_20 : decode cX8_mirror 20 = .ok (.getfield 53, 3) := by decide +kernel
theorem dX8_mirror_23 : decode cX8_mirror 23 = .ok (.invokevirtual 140, 3) := by decide +kernel
theorem dX8_mirror_26 : decode cX8_mirror 26 = .ok (.aload_n 0, 1) := by decide +kernel
theorem dX8_mirror_27 : decode cX8_mirror 27 = .ok (.getfield 57, 3) := by decide +kernel
theorem dX8_mirror_30 : decode cX8_mirror 30 = .ok (.aload_n 0, 1) := by decide +kernel
theorem dX8_mirror_31 : decode cX8_mirror 31 = .ok (.getfield 53, 3) := by decide +kernel
theorem dX8_mirror_34 : decode cX8_mirror 34 = .ok (.invokevirtual 160, 3) := by decide +kernel
theorem dX8_mirror_37 : decode cX8_mirror 37 = .ok (.aload_n 0, 1) := by decide +kernel
theorem dX8_mirror_38 : decode cX8_mirror 38 = .ok (.getfield 19, 3) := by decide +kernel
theorem dX8_mirror_41 : decode cX8_mirror 41 = .ok (.aload_n 0, 1) := by decide +kernel
theorem dX8_mirror_42 : decode cX8_mirror 42 = .ok (.getfield 12, 3) := by decide +kernel
theorem dX8_mirror_45 : decode cX8_mirror 45 = .ok (.invokevirtual 85, 3) := by decide +kernel
theorem dX8_mirror_48 : decode cX8_mirror 48 = .ok (.aload_n 0, 1) := by decide +kernel
theorem dX8_mirror_49 : decode cX8_mirror 49 = .ok (.getfield 12, 3) := by decide +kernel
theorem dX8_mirror_52 : decode cX8_mirror 52 = .ok (.iload_n 1, 1) := by decide +kernel
theorem dX8_mirror_53 : decode cX8_mirror 53 = .ok (.aload_n 0, 1) := by decide +kernel
theorem dX8_mirror_54 : decode cX8_mirror 54 = .ok (.getfield 57, 3) := by decide +kernel
theorem dX8_mirror_57 : decode cX8_mirror 57 = .ok (.invokevirtual 222, 3) := by decide +kernel
theorem dX8_mirror_60 : decode cX8_mirror 60 = .ok (.aload_n 0, 1) := by decide +kernel
theorem dX8_mirror_61 : decode cX8_mirror 61 = .ok (.getfield 12, 3) := by decide +kernel
theorem dX8_mirror_64 : decode cX8_mirror 64 = .ok (.iload_n 1, 1) := by decide +kernel
theorem dX8_mirror_65 : decode cX8_mirror 65 = .ok (.invokevirtual 225, 3) := by decide +kernel
theorem dX8_mirror_68 : decode cX8_mirror 68 = .ok (.ireturn, 1) := by decide +kernel
theorem dX8_take_0 : decode cX8_take 0 = .ok (.aload_n 0, 1) := by decide +kernel
theorem dX8_take_1 : decode cX8_take 1 = .ok (.getfield 12, 3) := by decide +kernel
theorem dX8_take_4 : decode cX8_take 4 = .ok (.iload_n 1, 1) := by decide +kernel
theorem dX8_take_5 : decode cX8_take 5 = .ok (.invokevirtual 135, 3) := by decide +kernel
theorem dX8_take_8 : decode cX8_take 8 = .ok (.ifCond .ne 6, 3) := by decide +kernel
theorem dX8_take_11 : decode cX8_take 11 = .ok (.ldc 139, 2) := by decide +kernel
theorem dX8_take_13 : decode cX8_take 13 = .ok (.ireturn, 1) := by decide +kernel
theorem dX8_take_14 : decode cX8_take 14 = .ok (.aload_n 0, 1) := by decide +kernel
theorem dX8_take_15 : decode cX8_take 15 = .ok (.getfield 19, 3) := by decide +kernel
theorem dX8_take_18 : decode cX8_take 18 = .ok (.aload_n 0, 1) := by decide +kernel
theorem dX8_take_19 : decode cX8_take 19 = .ok (.getfield 12, 3) := by decide +kernel
theorem dX8_take_22 : decode cX8_take 22 = .ok (.invokevirtual 85, 3) := by decide +kernel
theorem dX8_take_25 : decode cX8_take 25 = .ok (.aload_n 0, 1) := by decide +kernel
theorem dX8_take_26 : decode cX8_take 26 = .ok (.getfield 12, 3) := by decide +kernel
theorem dX8_take_29 : decode cX8_take 29 = .ok (.iload_n 1, 1) := by decide +kernel
theorem dX8_take_30 : decode cX8_take 30 = .ok (.invokevirtual 228, 3) := by decide +kernel
theorem dX8_take_33 : decode cX8_take 33 = .ok (.aload_n 0, 1) := by decide +kernel
theorem dX8_take_34 : decode cX8_take 34 = .ok (.getfield 12, 3) := by decide +kernel
theorem dX8_take_37 : decode cX8_take 37 = .ok (.getfield 112, 3) := by decide +kernel
theorem dX8_take_40 : decode cX8_take 40 = .ok (.ireturn, 1) := by decide +kernel
theorem dX8_fate_0 : decode cX8_fate 0 = .ok (.iload_n 2, 1) := by decide +kernel
theorem dX8_fate_1 : decode cX8_fate 1 = .ok (.iconst 2, 1) := by decide +kernel
theorem dX8_fate_2 : decode cX8_fate 2 = .ok (.if_icmp .eq 8, 3) := by decide +kernel
theorem dX8_fate_5 : decode cX8_fate 5 = .ok (.iload_n 2, 1) := by decide +kernel
theorem dX8_fate_6 : decode cX8_fate 6 = .ok (.iconst 3, 1) := by decide +kernel
theorem dX8_fate_7 : decode cX8_fate 7 = .ok (.if_icmp .ne 7, 3) := by decide +kernel
theorem dX8_fate_10 : decode cX8_fate 10 = .ok (.iconst 1, 1) := by decide +kernel
theorem dX8_fate_11 : decode cX8_fate 11 = .ok (.goto 4, 3) := by decide +kernel
theorem dX8_fate_14 : decode cX8_fate 14 = .ok (.iconst 0, 1) := by decide +kernel
theorem dX8_fate_15 : decode cX8_fate 15 = .ok (.istore 4, 2) := by decide +kernel
theorem dX8_fate_17 : decode cX8_fate 17 = .ok (.iload_n 1, 1) := by decide +kernel
theorem dX8_fate_18 : decode cX8_fate 18 = .ok (.invokestatic 170, 3) := by decide +kernel
theorem dX8_fate_21 : decode cX8_fate 21 = .ok (.ifCond .eq 15, 3) := by decide +kernel
theorem dX8_fate_24 : decode cX8_fate 24 = .ok (.iload 4, 2) := by decide +kernel
theorem dX8_fate_26 : decode cX8_fate 26 = .ok (.ifCond .eq 13, 3) := by decide +kernel
theorem dX8_fate_29 : decode cX8_fate 29 = .ok (.iload_n 3, 1) := by decide +kernel
theorem dX8_fate_30 : decode cX8_fate 30 = .ok (.invokestatic 170, 3) := by decide +kernel
theorem dX8_fate_33 : decode cX8_fate 33 = .ok (.ifCond .ne 6, 3) := by decide +kernel
theorem dX8_fate_36 : decode cX8_fate 36 = .ok (.ldc 139, 2) := by decide +kernel
theorem dX8_fate_38 : decode cX8_fate 38 = .ok (.ireturn, 1) := by decide +kernel
theorem dX8_fate_39 : decode cX8_fate 39 = .ok (.iload_n 2, 1) := by decide +kernel
theorem dX8_fate_40 : decode cX8_fate 40 = .ok (.ifCond .lt 8, 3) := by decide +kernel
theorem dX8_fate_43 : decode cX8_fate 43 = .ok (.iload_n 2, 1) := by decide +kernel
theorem dX8_fate_44 : decode cX8_fate 44 = .ok (.iconst 3, 1) := by decide +kernel
theorem dX8_fate_45 : decode cX8_fate 45 = .ok (.if_icmp .le 6, 3) := by decide +kernel
theorem dX8_fate_48 : decode cX8_fate 48 = .ok (.ldc 75, 2) := by decide +kernel
theorem dX8_fate_50 : decode cX8_fate 50 = .ok (.ireturn, 1) := by decide +kernel
theorem dX8_fate_51 : decode cX8_fate 51 = .ok (.aload_n 0, 1) := by decide +kernel
theorem dX8_fate_52 : decode cX8_fate 52 = .ok (.getfield 12, 3) := by decide +kernel
theorem dX8_fate_55 : decode cX8_fate 55 = .ok (.getfield 104, 3) := by decide +kernel
theorem dX8_fate_58 : decode cX8_fate 58 = .ok (.iload_n 1, 1) := by decide +kernel
theorem dX8_fate_59 : decode cX8_fate 59 = .ok (.iload_n 2, 1) := by decide +kernel
theorem dX8_fate_60 : decode cX8_fate 60 = .ok (.iload_n 3, 1) := by decide +kernel
theorem dX8_fate_61 : decode cX8_fate 61 = .ok (.invokevirtual 231, 3) := by decide +kernel
theorem dX8_fate_64 : decode cX8_fate 64 = .ok (.ifCond .ne 6, 3) := by decide +kernel
theorem dX8_fate_67 : decode cX8_fate 67 = .ok (.ldc 210, 2) := by decide +kernel
theorem dX8_fate_69 : decode cX8_fate 69 = .ok (.ireturn, 1) := by decide +kernel
theorem dX8_fate_70 : decode cX8_fate 70 = .ok (.aload_n 0, 1) := by decide +kernel
theorem dX8_fate_71 : decode cX8_fate 71 = .ok (.getfield 12, 3) := by decide +kernel
theorem dX8_fate_74 : decode cX8_fate 74 = .ok (.getfield 104, 3) := by decide +kernel
theorem dX8_fate_77 : decode cX8_fate 77 = .ok (.iload_n 1, 1) := by decide +kernel
theorem dX8_fate_78 : decode cX8_fate 78 = .ok (.invokevirtual 173, 3) := by decide +kernel
theorem dX8_fate_81 : decode cX8_fate 81 = .ok (.istore 5, 2) := by decide +kernel
theorem dX8_fate_83 : decode cX8_fate 83 = .ok (.aload_n 0, 1) := by decide +kernel
theorem dX8_fate_84 : decode cX8_fate 84 = .ok (.getfield 19, 3) := by decide +kernel
theorem dX8_fate_87 : decode cX8_fate 87 = .ok (.aload_n 0, 1) := by decide +kernel
theorem dX8_fate_88 : decode cX8_fate 88 = .ok (.getfield 12, 3) := by decide +kernel
theorem dX8_fate_91 : decode cX8_fate 91 = .ok (.invokevirtual 85, 3) := by decide +kernel
theorem dX8_fate_94 : decode cX8_fate 94 = .ok (.aload_n 0, 1) := by decide +kernel
theorem dX8_fate_95 : decode cX8_fate 95 = .ok (.getfield 12, 3) := by decide +kernel
theorem dX8_fate_98 : decode cX8_fate 98 = .ok (.getfield 104, 3) := by decide +kernel
theorem dX8_fate_101 : decode cX8_fate 101 = .ok (.iload_n 1, 1) := by decide +kernel
theorem dX8_fate_102 : decode cX8_fate 102 = .ok (.iload_n 2, 1) := by decide +kernel
theorem dX8_fate_103 : decode cX8_fate 103 = .ok (.iload_n 3, 1) := by decide +kernel
theorem dX8_fate_104 : decode cX8_fate 104 = .ok (.invokevirtual 235, 3) := by decide +kernel
theorem dX8_fate_107 : decode cX8_fate 107 = .ok (.iload 5, 2) := by decide +kernel
theorem dX8_fate_109 : decode cX8_fate 109 = .ok (.ireturn, 1) := by decide +kernel
theorem dX8_dual_0 : decode cX8_dual 0 = .ok (.aload_n 0, 1) := by decide +kernel
theorem dX8_dual_1 : decode cX8_dual 1 = .ok (.getfield 19, 3) := by decide +kernel
theorem dX8_dual_4 : decode cX8_dual 4 = .ok (.aload_n 0, 1) := by decide +kernel
theorem dX8_dual_5 : decode cX8_dual 5 = .ok (.getfield 12, 3) := by decide +kernel
theorem dX8_dual_8 : decode cX8_dual 8 = .ok (.invokevirtual 85, 3) := by decide +kernel
theorem dX8_dual_11 : decode cX8_dual 11 = .ok (.aload_n 0, 1) := by decide +kernel
theorem dX8_dual_12 : decode cX8_dual 12 = .ok (.getfield 12, 3) := by decide +kernel
theorem dX8_dual_15 : decode cX8_dual 15 = .ok (.getfield 104, 3) := by decide +kernel
theorem dX8_dual_18 : decode cX8_dual 18 = .ok (.invokevirtual 238, 3) := by decide +kernel
theorem dX8_dual_21 : decode cX8_dual 21 = .ok (.aload_n 0, 1) := by decide +kernel
theorem dX8_dual_22 : decode cX8_dual 22 = .ok (.getfield 39, 3) := by decide +kernel
theorem dX8_dual_25 : decode cX8_dual 25 = .ok (.aload_n 0, 1) := by decide +kernel
theorem dX8_dual_26 : decode cX8_dual 26 = .ok (.getfield 12, 3) := by decide +kernel
theorem dX8_dual_29 : decode cX8_dual 29 = .ok (.getfield 104, 3) := by decide +kernel
theorem dX8_dual_32 : decode cX8_dual 32 = .ok (.invokevirtual 108, 3) := by decide +kernel
theorem dX8_dual_35 : decode cX8_dual 35 = .ok (.aload_n 0, 1) := by decide +kernel
theorem dX8_dual_36 : decode cX8_dual 36 = .ok (.getfield 39, 3) := by decide +kernel
theorem dX8_dual_39 : decode cX8_dual 39 = .ok (.getfield 118, 3) := by decide +kernel
theorem dX8_dual_42 : decode cX8_dual 42 = .ok (.ireturn, 1) := by decide +kernel
theorem dX8_clear_0 : decode cX8_clear 0 = .ok (.aload_n 0, 1) := by decide +kernel
theorem dX8_clear_1 : decode cX8_clear 1 = .ok (.getfield 12, 3) := by decide +kernel
theorem dX8_clear_4 : decode cX8_clear 4 = .ok (.getfield 104, 3) := by decide +kernel
theorem dX8_clear_7 : decode cX8_clear 7 = .ok (.invokevirtual 241, 3) := by decide +kernel
theorem dX8_clear_10 : decode cX8_clear 10 = .ok (.istore_n 1, 1) := by decide +kernel
theorem dX8_clear_11 : decode cX8_clear 11 = .ok (.aload_n 0, 1) := by decide +kernel
theorem dX8_clear_12 : decode cX8_clear 12 = .ok (.getfield 19, 3) := by decide +kernel
theorem dX8_clear_15 : decode cX8_clear 15 = .ok (.aload_n 0, 1) := by decide +kernel
theorem dX8_clear_16 : decode cX8_clear 16 = .ok (.getfield 12, 3) := by decide +kernel
theorem dX8_clear_19 : decode cX8_clear 19 = .ok (.invokevirtual 85, 3) := by decide +kernel
theorem dX8_clear_22 : decode cX8_clear 22 = .ok (.aload_n 0, 1) := by decide +kernel
theorem dX8_clear_23 : decode cX8_clear 23 = .ok (.getfield 12, 3) := by decide +kernel
theorem dX8_clear_26 : decode cX8_clear 26 = .ok (.getfield 104, 3) := by decide +kernel
theorem dX8_clear_29 : decode cX8_clear 29 = .ok (.invokevirtual 244, 3) := by decide +kernel
theorem dX8_clear_32 : decode cX8_clear 32 = .ok (.iload_n 1, 1) := by decide +kernel
theorem dX8_clear_33 : decode cX8_clear 33 = .ok (.ireturn, 1) := by decide +kernel
theorem dX8_drift_0 : decode cX8_drift 0 = .ok (.iload_n 1, 1) := by decide +kernel
theorem dX8_drift_1 : decode cX8_drift 1 = .ok (.iconst 1, 1) := by decide +kernel
theorem dX8_drift_2 : decode cX8_drift 2 = .ok (.if_icmp .lt 9, 3) := by decide +kernel
theorem dX8_drift_5 : decode cX8_drift 5 = .ok (.iload_n 1, 1) := by decide +kernel
theorem dX8_drift_6 : decode cX8_drift 6 = .ok (.bipush 8, 2) := by decide +kernel
theorem dX8_drift_8 : decode cX8_drift 8 = .ok (.if_icmp .le 6, 3) := by decide +kernel
theorem dX8_drift_11 : decode cX8_drift 11 = .ok (.ldc 75, 2) := by decide +kernel
theorem dX8_drift_13 : decode cX8_drift 13 = .ok (.ireturn, 1) := by decide +kernel
theorem dX8_drift_14 : decode cX8_drift 14 = .ok (.iconst 0, 1) := by decide +kernel
theorem dX8_drift_15 : decode cX8_drift 15 = .ok (.istore_n 2, 1) := by decide +kernel
theorem dX8_drift_16 : decode cX8_drift 16 = .ok (.iload_n 2, 1) := by decide +kernel
theorem dX8_drift_17 : decode cX8_drift 17 = .ok (.iload_n 1, 1) := by decide +kernel
theorem dX8_drift_18 : decode cX8_drift 18 = .ok (.if_icmp .ge 46, 3) := by decide +kernel
theorem dX8_drift_21 : decode cX8_drift 21 = .ok (.aload_n 0, 1) := by decide +kernel
theorem dX8_drift_22 : decode cX8_drift 22 = .ok (.getfield 12, 3) := by decide +kernel
theorem dX8_drift_25 : decode cX8_drift 25 = .ok (.invokevirtual 77, 3) := by decide +kernel
theorem dX8_drift_28 : decode cX8_drift 28 = .ok (.ifCond .ne 36, 3) := by decide +kernel
theorem dX8_drift_31 : decode cX8_drift 31 = .ok (.aload_n 0, 1) := by decide +kernel
theorem dX8_drift_32 : decode cX8_drift 32 = .ok (.invokevirtual 247, 3) := by decide +kernel
theorem dX8_drift_35 : decode cX8_drift 35 = .ok (.aload_n 0, 1) := by decide +kernel
theorem dX8_drift_36 : decode cX8_drift 36 = .ok (.getfield 19, 3) := by decide +kernel
theorem dX8_drift_39 : decode cX8_drift 39 = .ok (.aload_n 0, 1) := by decide +kernel
theorem dX8_drift_40 : decode cX8_drift 40 = .ok (.getfield 12, 3) := by decide +kernel
theorem dX8_drift_43 : decode cX8_drift 43 = .ok (.invokevirtual 85, 3) := by decide +kernel
theorem dX8_drift_46 : decode cX8_drift 46 = .ok (.aload_n 0, 1) := by decide +kernel
theorem dX8_drift_47 : decode cX8_drift 47 = .ok (.getfield 12, 3) := by decide +kernel
theorem dX8_drift_50 : decode cX8_drift 50 = .ok (.aload_n 0, 1) := by decide +kernel
theorem dX8_drift_51 : decode cX8_drift 51 = .ok (.getfield 53, 3) := by decide +kernel
theorem dX8_drift_54 : decode cX8_drift 54 = .ok (.invokevirtual 89, 3) := by decide +kernel
theorem dX8_drift_57 : decode cX8_drift 57 = .ok (.pop, 1) := by decide +kernel
theorem dX8_drift_58 : decode cX8_drift 58 = .ok (.iinc 2 1, 3) := by decide +kernel
theorem dX8_drift_61 : decode cX8_drift 61 = .ok (.goto (-45), 3) := by decide +kernel
theorem dX8_drift_64 : decode cX8_drift 64 = .ok (.aload_n 0, 1) := by decide +kernel
theorem dX8_drift_65 : decode cX8_drift 65 = .ok (.getfield 12, 3) := by decide +kernel
theorem dX8_drift_68 : decode cX8_drift 68 = .ok (.getfield 112, 3) := by decide +kernel
theorem dX8_drift_71 : decode cX8_drift 71 = .ok (.ireturn, 1) := by decide +kernel
theorem dX8_drawTree_0 : decode cX8_drawTree 0 = .ok (.aload_n 0, 1) := by decide +kernel
theorem dX8_drawTree_1 : decode cX8_drawTree 1 = .ok (.iconst 5, 1) := by decide +kernel
theorem dX8_drawTree_2 : decode cX8_drawTree 2 = .ok (.invokevirtual 250, 3) := by decide +kernel
theorem dX8_drawTree_5 : decode cX8_drawTree 5 = .ok (.iconst 1, 1) := by decide +kernel
theorem dX8_drawTree_6 : decode cX8_drawTree 6 = .ok (.iadd, 1) := by decide +kernel
theorem dX8_drawTree_7 : decode cX8_drawTree 7 = .ok (.istore_n 1, 1) := by decide +kernel
theorem dX8_drawTree_8 : decode cX8_drawTree 8 = .ok (.aload_n 0, 1) := by decide +kernel
theorem dX8_drawTree_9 : decode cX8_drawTree 9 = .ok (.getfield 53, 3) := by decide +kernel
theorem dX8_drawTree_12 : decode cX8_drawTree 12 = .ok (.aload_n 0, 1) := by decide +kernel
theorem dX8_drawTree_13 : decode cX8_drawTree 13 = .ok (.iconst 2, 1) := by decide +kernel
theorem dX8_drawTree_14 : decode cX8_drawTree 14 = .ok (.invokevirtual 250, 3) := by decide +kernel
theorem dX8_drawTree_17 : decode cX8_drawTree 17 = .ok (.invokevirtual 253, 3) := by decide +kernel
theorem dX8_drawTree_20 : decode cX8_drawTree 20 = .ok (.iconst 1, 1) := by decide +kernel
theorem dX8_drawTree_21 : decode cX8_drawTree 21 = .ok (.istore_n 2, 1) := by decide +kernel
theorem dX8_drawTree_22 : decode cX8_drawTree 22 = .ok (.iload_n 2, 1) := by decide +kernel
theorem dX8_drawTree_23 : decode cX8_drawTree 23 = .ok (.iload_n 1, 1) := by decide +kernel
theorem dX8_drawTree_24 : decode cX8_drawTree 24 = .ok (.if_icmp .ge 57, 3) := by decide +kernel
theorem dX8_drawTree_27 : decode cX8_drawTree 27 = .ok (.iload_n 2, 1) := by decide +kernel
theorem dX8_drawTree_28 : decode cX8_drawTree 28 = .ok (.iconst 5, 1) := by decide +kernel
theorem dX8_drawTree_29 : decode cX8_drawTree 29 = .ok (.if_icmp .ge 52, 3) := by decide +kernel
theorem dX8_drawTree_32 : decode cX8_drawTree 32 = .ok (.aload_n 0, 1) := by decide +kernel
theorem dX8_drawTree_33 : decode cX8_drawTree 33 = .ok (.getfield 53, 3) := by decide +kernel
theorem dX8_drawTree_36 : decode cX8_drawTree 36 = .ok (.aload_n 0, 1) := by decide +kernel
theorem dX8_drawTree_37 : decode cX8_drawTree 37 = .ok (.aload_n 0, 1) := by decide +kernel
theorem dX8_drawTree_38 : decode cX8_drawTree 38 = .ok (.getfield 53, 3) := by decide +kernel
theorem dX8_drawTree_41 : decode cX8_drawTree 41 = .ok (.invokevirtual 256, 3) := by decide +kernel
theorem dX8_drawTree_44 : decode cX8_drawTree 44 = .ok (.invokevirtual 250, 3) := by decide +kernel
theorem dX8_drawTree_47 : decode cX8_drawTree 47 = .ok (.invokevirtual 204, 3) := by decide +kernel
theorem dX8_drawTree_50 : decode cX8_drawTree 50 = .ok (.istore_n 3, 1) := by decide +kernel
theorem dX8_drawTree_51 : decode cX8_drawTree 51 = .ok (.aload_n 0, 1) := by decide +kernel
theorem dX8_drawTree_52 : decode cX8_drawTree 52 = .ok (.getfield 57, 3) := by decide +kernel
theorem dX8_drawTree_55 : decode cX8_drawTree 55 = .ok (.aload_n 0, 1) := by decide +kernel
theorem dX8_drawTree_56 : decode cX8_drawTree 56 = .ok (.iconst 2, 1) := by decide +kernel
theorem dX8_drawTree_57 : decode cX8_drawTree 57 = .ok (.invokevirtual 250, 3) := by decide +kernel
theorem dX8_drawTree_60 : decode cX8_drawTree 60 = .ok (.invokevirtual 253, 3) := by decide +kernel
theorem dX8_drawTree_63 : decode cX8_drawTree 63 = .ok (.aload_n 0, 1) := by decide +kernel
theorem dX8_drawTree_64 : decode cX8_drawTree 64 = .ok (.getfield 53, 3) := by decide +kernel
theorem dX8_drawTree_67 : decode cX8_drawTree 67 = .ok (.iload_n 3, 1) := by decide +kernel
theorem dX8_drawTree_68 : decode cX8_drawTree 68 = .ok (.aload_n 0, 1) := by decide +kernel
theorem dX8_drawTree_69 : decode cX8_drawTree 69 = .ok (.getfield 57, 3) := by decide +kernel
theorem dX8_drawTree_72 : decode cX8_drawTree 72 = .ok (.invokevirtual 211, 3) := by decide +kernel
theorem dX8_drawTree_75 : decode cX8_drawTree 75 = .ok (.iinc 2 1, 3) := by decide +kernel
theorem dX8_drawTree_78 : decode cX8_drawTree 78 = .ok (.goto (-56), 3) := by decide +kernel
theorem dX8_drawTree_81 : decode cX8_drawTree 81 = .ok (.return_, 1) := by decide +kernel
theorem dX8_draw_0 : decode cX8_draw 0 = .ok (.aload_n 0, 1) := by decide +kernel
theorem dX8_draw_1 : decode cX8_draw 1 = .ok (.aload_n 0, 1) := by decide +kernel
theorem dX8_draw_2 : decode cX8_draw 2 = .ok (.getfield 71, 3) := by decide +kernel
theorem dX8_draw_5 : decode cX8_draw 5 = .ok (.i2l, 1) := by decide +kernel
theorem dX8_draw_6 : decode cX8_draw 6 = .ok (.ldc2_w 259, 3) := by decide +kernel
theorem dX8_draw_9 : decode cX8_draw 9 = .ok (.lmul, 1) := by decide +kernel
theorem dX8_draw_10 : decode cX8_draw 10 = .ok (.ldc2_w 261, 3) := by decide +kernel
theorem dX8_draw_13 : decode cX8_draw 13 = .ok (.ladd, 1) := by decide +kernel
theorem dX8_draw_14 : decode cX8_draw 14 = .ok (.ldc2_w 263, 3) := by decide +kernel
theorem dX8_draw_17 : decode cX8_draw 17 = .ok (.land, 1) := by decide +kernel
theorem dX8_draw_18 : decode cX8_draw 18 = .ok (.l2i, 1) := by decide +kernel
theorem dX8_draw_19 : decode cX8_draw 19 = .ok (.putfield 71, 3) := by decide +kernel
theorem dX8_draw_22 : decode cX8_draw 22 = .ok (.iload_n 1, 1) := by decide +kernel
theorem dX8_draw_23 : decode cX8_draw 23 = .ok (.iconst 1, 1) := by decide +kernel
theorem dX8_draw_24 : decode cX8_draw 24 = .ok (.if_icmp .ge 7, 3) := by decide +kernel
theorem dX8_draw_27 : decode cX8_draw 27 = .ok (.iconst 0, 1) := by decide +kernel
theorem dX8_draw_28 : decode cX8_draw 28 = .ok (.goto 12, 3) := by decide +kernel
theorem dX8_draw_31 : decode cX8_draw 31 = .ok (.aload_n 0, 1) := by decide +kernel
theorem dX8_draw_32 : decode cX8_draw 32 = .ok (.getfield 71, 3) := by decide +kernel
theorem dX8_draw_35 : decode cX8_draw 35 = .ok (.bipush 16, 2) := by decide +kernel
theorem dX8_draw_37 : decode cX8_draw 37 = .ok (.ishr, 1) := by decide +kernel
theorem dX8_draw_38 : decode cX8_draw 38 = .ok (.iload_n 1, 1) := by decide +kernel
theorem dX8_draw_39 : decode cX8_draw 39 = .ok (.irem, 1) := by decide +kernel
theorem dX8_draw_40 : decode cX8_draw 40 = .ok (.ireturn, 1) := by decide +kernel
theorem dX8_undo_0 : decode cX8_undo 0 = .ok (.iload_n 1, 1) := by decide +kernel
theorem dX8_undo_1 : decode cX8_undo 1 = .ok (.iconst 1, 1) := by decide +kernel
theorem dX8_undo_2 : decode cX8_undo 2 = .ok (.if_icmp .lt 9, 3) := by decide +kernel
theorem dX8_undo_5 : decode cX8_undo 5 = .ok (.iload_n 1, 1) := by decide +kernel
theorem dX8_undo_6 : decode cX8_undo 6 = .ok (.bipush 20, 2) := by decide +kernel
theorem dX8_undo_8 : decode cX8_undo 8 = .ok (.if_icmp .le 6, 3) := by decide +kernel
theorem dX8_undo_11 : decode cX8_undo 11 = .ok (.ldc 75, 2) := by decide +kernel
theorem dX8_undo_13 : decode cX8_undo 13 = .ok (.ireturn, 1) := by decide +kernel
theorem dX8_undo_14 : decode cX8_undo 14 = .ok (.iload_n 1, 1) := by decide +kernel
theorem dX8_undo_15 : decode cX8_undo 15 = .ok (.aload_n 0, 1) := by decide +kernel
theorem dX8_undo_16 : decode cX8_undo 16 = .ok (.getfield 19, 3) := by decide +kernel
theorem dX8_undo_19 : decode cX8_undo 19 = .ok (.getfield 134, 3) := by decide +kernel
theorem dX8_undo_22 : decode cX8_undo 22 = .ok (.if_icmp .le 6, 3) := by decide +kernel
theorem dX8_undo_25 : decode cX8_undo 25 = .ok (.ldc 210, 2) := by decide +kernel
theorem dX8_undo_27 : decode cX8_undo 27 = .ok (.ireturn, 1) := by decide +kernel
theorem dX8_undo_28 : decode cX8_undo 28 = .ok (.aload_n 0, 1) := by decide +kernel
theorem dX8_undo_29 : decode cX8_undo 29 = .ok (.getfield 19, 3) := by decide +kernel
theorem dX8_undo_32 : decode cX8_undo 32 = .ok (.iload_n 1, 1) := by decide +kernel
theorem dX8_undo_33 : decode cX8_undo 33 = .ok (.aload_n 0, 1) := by decide +kernel
theorem dX8_undo_34 : decode cX8_undo 34 = .ok (.getfield 12, 3) := by decide +kernel
theorem dX8_undo_37 : decode cX8_undo 37 = .ok (.invokevirtual 265, 3) := by decide +kernel
theorem dX8_undo_40 : decode cX8_undo 40 = .ok (.aload_n 0, 1) := by decide +kernel
theorem dX8_undo_41 : decode cX8_undo 41 = .ok (.getfield 12, 3) := by decide +kernel
theorem dX8_undo_44 : decode cX8_undo 44 = .ok (.getfield 112, 3) := by decide +kernel
theorem dX8_undo_47 : decode cX8_undo 47 = .ok (.ireturn, 1) := by decide +kernel
theorem dX8_write_0 : decode cX8_write 0 = .ok (.aload_n 0, 1) := by decide +kernel
theorem dX8_write_1 : decode cX8_write 1 = .ok (.getfield 12, 3) := by decide +kernel
theorem dX8_write_4 : decode cX8_write 4 = .ok (.iload_n 1, 1) := by decide +kernel
theorem dX8_write_5 : decode cX8_write 5 = .ok (.invokevirtual 135, 3) := by decide +kernel
theorem dX8_write_8 : decode cX8_write 8 = .ok (.ifCond .ne 6, 3) := by decide +kernel
theorem dX8_write_11 : decode cX8_write 11 = .ok (.ldc 139, 2) := by decide +kernel
theorem dX8_write_13 : decode cX8_write 13 = .ok (.ireturn, 1) := by decide +kernel
theorem dX8_write_14 : decode cX8_write 14 = .ok (.aload_n 0, 1) := by decide +kernel
theorem dX8_write_15 : decode cX8_write 15 = .ok (.getfield 32, 3) := by decide +kernel
theorem dX8_write_18 : decode cX8_write 18 = .ok (.invokevirtual 269, 3) := by decide +kernel
theorem dX8_write_21 : decode cX8_write 21 = .ok (.ifCond .eq 6, 3) := by decide +kernel
theorem dX8_write_24 : decode cX8_write 24 = .ok (.ldc 76, 2) := by decide +kernel
theorem dX8_write_26 : decode cX8_write 26 = .ok (.ireturn, 1) := by decide +kernel
theorem dX8_write_27 : decode cX8_write 27 = .ok (.aload_n 0, 1) := by decide +kernel
theorem dX8_write_28 : decode cX8_write 28 = .ok (.getfield 32, 3) := by decide +kernel
theorem dX8_write_31 : decode cX8_write 31 = .ok (.iload_n 1, 1) := by decide +kernel
theorem dX8_write_32 : decode cX8_write 32 = .ok (.iload_n 2, 1) := by decide +kernel
theorem dX8_write_33 : decode cX8_write 33 = .ok (.invokevirtual 270, 3) := by decide +kernel
theorem dX8_write_36 : decode cX8_write 36 = .ok (.aload_n 0, 1) := by decide +kernel
theorem dX8_write_37 : decode cX8_write 37 = .ok (.getfield 32, 3) := by decide +kernel
theorem dX8_write_40 : decode cX8_write 40 = .ok (.getfield 129, 3) := by decide +kernel
theorem dX8_write_43 : decode cX8_write 43 = .ok (.ireturn, 1) := by decide +kernel
theorem dX8_tear_0 : decode cX8_tear 0 = .ok (.aload_n 0, 1) := by decide +kernel
theorem dX8_tear_1 : decode cX8_tear 1 = .ok (.getfield 32, 3) := by decide +kernel
theorem dX8_tear_4 : decode cX8_tear 4 = .ok (.getfield 129, 3) := by decide +kernel
theorem dX8_tear_7 : decode cX8_tear 7 = .ok (.istore_n 1, 1) := by decide +kernel
theorem dX8_tear_8 : decode cX8_tear 8 = .ok (.aload_n 0, 1) := by decide +kernel
theorem dX8_tear_9 : decode cX8_tear 9 = .ok (.getfield 32, 3) := by decide +kernel
theorem dX8_tear_12 : decode cX8_tear 12 = .ok (.iconst 0, 1) := by decide +kernel
theorem dX8_tear_13 : decode cX8_tear 13 = .ok (.putfield 129, 3) := by decide +kernel
theorem dX8_tear_16 : decode cX8_tear 16 = .ok (.iload_n 1, 1) := by decide +kernel
theorem dX8_tear_17 : decode cX8_tear 17 = .ok (.ireturn, 1) := by decide +kernel
theorem dX8_seed_0 : decode cX8_seed 0 = .ok (.iload_n 1, 1) := by decide +kernel
theorem dX8_seed_1 : decode cX8_seed 1 = .ok (.ifCond .ge 6, 3) := by decide +kernel
theorem dX8_seed_4 : decode cX8_seed 4 = .ok (.ldc 75, 2) := by decide +kernel
theorem dX8_seed_6 : decode cX8_seed 6 = .ok (.ireturn, 1) := by decide +kernel
theorem dX8_seed_7 : decode cX8_seed 7 = .ok (.aload_n 0, 1) := by decide +kernel
theorem dX8_seed_8 : decode cX8_seed 8 = .ok (.getfield 71, 3) := by decide +kernel
theorem dX8_seed_11 : decode cX8_seed 11 = .ok (.istore_n 2, 1) := by decide +kernel
theorem dX8_seed_12 : decode cX8_seed 12 = .ok (.aload_n 0, 1) := by decide +kernel
theorem dX8_seed_13 : decode cX8_seed 13 = .ok (.iload_n 1, 1) := by decide +kernel
theorem dX8_seed_14 : decode cX8_seed 14 = .ok (.putfield 71, 3) := by decide +kernel
theorem dX8_seed_17 : decode cX8_seed 17 = .ok (.iload_n 2, 1) := by decide +kernel
theorem dX8_seed_18 : decode cX8_seed 18 = .ok (.ireturn, 1) := by decide +kernel
theorem dX8_imageAt_0 : decode cX8_imageAt 0 = .ok (.iload_n 1, 1) := by decide +kernel
theorem dX8_imageAt_1 : decode cX8_imageAt 1 = .ok (.ifCond .lt 21, 3) := by decide +kernel
theorem dX8_imageAt_4 : decode cX8_imageAt 4 = .ok (.iload_n 1, 1) := by decide +kernel
theorem dX8_imageAt_5 : decode cX8_imageAt 5 = .ok (.aload_n 0, 1) := by decide +kernel
theorem dX8_imageAt_6 : decode cX8_imageAt 6 = .ok (.getfield 25, 3) := by decide +kernel
theorem dX8_imageAt_9 : decode cX8_imageAt 9 = .ok (.arraylength, 1) := by decide +kernel
theorem dX8_imageAt_10 : decode cX8_imageAt 10 = .ok (.if_icmp .ge 12, 3) := by decide +kernel
theorem dX8_imageAt_13 : decode cX8_imageAt 13 = .ok (.aload_n 0, 1) := by decide +kernel
theorem dX8_imageAt_14 : decode cX8_imageAt 14 = .ok (.getfield 25, 3) := by decide +kernel
theorem dX8_imageAt_17 : decode cX8_imageAt 17 = .ok (.iload_n 1, 1) := by decide +kernel
theorem dX8_imageAt_18 : decode cX8_imageAt 18 = .ok (.aaload, 1) := by decide +kernel
theorem dX8_imageAt_19 : decode cX8_imageAt 19 = .ok (.goto 4, 3) := by decide +kernel
theorem dX8_imageAt_22 : decode cX8_imageAt 22 = .ok (.aconst_null, 1) := by decide +kernel
theorem dX8_imageAt_23 : decode cX8_imageAt 23 = .ok (.areturn, 1) := by decide +kernel
theorem dX8_keep_0 : decode cX8_keep 0 = .ok (.aload_n 0, 1) := by decide +kernel
theorem dX8_keep_1 : decode cX8_keep 1 = .ok (.iload_n 1, 1) := by decide +kernel
theorem dX8_keep_2 : decode cX8_keep 2 = .ok (.invokevirtual 273, 3) := by decide +kernel
theorem dX8_keep_5 : decode cX8_keep 5 = .ok (.astore_n 2, 1) := by decide +kernel
theorem dX8_keep_6 : decode cX8_keep 6 = .ok (.aload_n 2, 1) := by decide +kernel
theorem dX8_keep_7 : decode cX8_keep 7 = .ok (.ifnonnull 6, 3) := by decide +kernel
theorem dX8_keep_10 : decode cX8_keep 10 = .ok (.ldc 139, 2) := by decide +kernel
theorem dX8_keep_12 : decode cX8_keep 12 = .ok (.ireturn, 1) := by decide +kernel
theorem dX8_keep_13 : decode cX8_keep 13 = .ok (.aload_n 2, 1) := by decide +kernel
theorem dX8_keep_14 : decode cX8_keep 14 = .ok (.getfield 277, 3) := by decide +kernel
theorem dX8_keep_17 : decode cX8_keep 17 = .ok (.aload_n 0, 1) := by decide +kernel
theorem dX8_keep_18 : decode cX8_keep 18 = .ok (.getfield 12, 3) := by decide +kernel
theorem dX8_keep_21 : decode cX8_keep 21 = .ok (.invokevirtual 280, 3) := by decide +kernel
theorem dX8_keep_24 : decode cX8_keep 24 = .ok (.aload_n 2, 1) := by decide +kernel
theorem dX8_keep_25 : decode cX8_keep 25 = .ok (.aload_n 0, 1) := by decide +kernel
theorem dX8_keep_26 : decode cX8_keep 26 = .ok (.getfield 71, 3) := by decide +kernel
theorem dX8_keep_29 : decode cX8_keep 29 = .ok (.putfield 283, 3) := by decide +kernel
theorem dX8_keep_32 : decode cX8_keep 32 = .ok (.aload_n 2, 1) := by decide +kernel
theorem dX8_keep_33 : decode cX8_keep 33 = .ok (.iconst 1, 1) := by decide +kernel
theorem dX8_keep_34 : decode cX8_keep 34 = .ok (.putfield 286, 3) := by decide +kernel
theorem dX8_keep_37 : decode cX8_keep 37 = .ok (.aload_n 0, 1) := by decide +kernel
theorem dX8_keep_38 : decode cX8_keep 38 = .ok (.getfield 19, 3) := by decide +kernel
theorem dX8_keep_41 : decode cX8_keep 41 = .ok (.invokevirtual 290, 3) := by decide +kernel
theorem dX8_keep_44 : decode cX8_keep 44 = .ok (.iconst 1, 1) := by decide +kernel
theorem dX8_keep_45 : decode cX8_keep 45 = .ok (.ireturn, 1) := by decide +kernel
theorem dX8_goBack_0 : decode cX8_goBack 0 = .ok (.aload_n 0, 1) := by decide +kernel
theorem dX8_goBack_1 : decode cX8_goBack 1 = .ok (.iload_n 1, 1) := by decide +kernel
theorem dX8_goBack_2 : decode cX8_goBack 2 = .ok (.invokevirtual 273, 3) := by decide +kernel
theorem dX8_goBack_5 : decode cX8_goBack 5 = .ok (.astore_n 2, 1) := by decide +kernel
theorem dX8_goBack_6 : decode cX8_goBack 6 = .ok (.aload_n 2, 1) := by decide +kernel
theorem dX8_goBack_7 : decode cX8_goBack 7 = .ok (.ifnonnull 6, 3) := by decide +kernel
theorem dX8_goBack_10 : decode cX8_goBack 10 = .ok (.ldc 139, 2) := by decide +kernel
theorem dX8_goBack_12 : decode cX8_goBack 12 = .ok (.ireturn, 1) := by decide +kernel
theorem dX8_goBack_13 : decode cX8_goBack 13 = .ok (.aload_n 2, 1) := by decide +kernel
theorem dX8_goBack_14 : decode cX8_goBack 14 = .ok (.getfield 286, 3) := by decide +kernel
theorem dX8_goBack_17 : decode cX8_goBack 17 = .ok (.ifCond .ne 6, 3) := by decide +kernel
theorem dX8_goBack_20 : decode cX8_goBack 20 = .ok (.ldc 210, 2) := by decide +kernel
theorem dX8_goBack_22 : decode cX8_goBack 22 = .ok (.ireturn, 1) := by decide +kernel
theorem dX8_goBack_23 : decode cX8_goBack 23 = .ok (.aload_n 0, 1) := by decide +kernel
theorem dX8_goBack_24 : decode cX8_goBack 24 = .ok (.getfield 12, 3) := by decide +kernel
theorem dX8_goBack_27 : decode cX8_goBack 27 = .ok (.aload_n 2, 1) := by decide +kernel
theorem dX8_goBack_28 : decode cX8_goBack 28 = .ok (.getfield 277, 3) := by decide +kernel
theorem dX8_goBack_31 : decode cX8_goBack 31 = .ok (.invokevirtual 280, 3) := by decide +kernel
theorem dX8_goBack_34 : decode cX8_goBack 34 = .ok (.aload_n 0, 1) := by decide +kernel
theorem dX8_goBack_35 : decode cX8_goBack 35 = .ok (.aload_n 2, 1) := by decide +kernel
theorem dX8_goBack_36 : decode cX8_goBack 36 = .ok (.getfield 283, 3) := by decide +kernel
theorem dX8_goBack_39 : decode cX8_goBack 39 = .ok (.putfield 71, 3) := by decide +kernel
theorem dX8_goBack_42 : decode cX8_goBack 42 = .ok (.aload_n 0, 1) := by decide +kernel
theorem dX8_goBack_43 : decode cX8_goBack 43 = .ok (.getfield 19, 3) := by decide +kernel
theorem dX8_goBack_46 : decode cX8_goBack 46 = .ok (.invokevirtual 290, 3) := by decide +kernel
theorem dX8_goBack_49 : decode cX8_goBack 49 = .ok (.iconst 1, 1) := by decide +kernel
theorem dX8_goBack_50 : decode cX8_goBack 50 = .ok (.ireturn, 1) := by decide +kernel
