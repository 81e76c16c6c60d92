theorem dX0_init_0 : decode cX0_init 0 = .ok (.aload_n 0, 1) := by decide +kernel
theorem dX0_init_1 : decode cX0_init 1 = .ok (.invokespecial 3, 3) := by decide +kernel
theorem dX0_init_4 : decode cX0_init 4 = .ok (.aload_n 0, 1) := by decide +kernel
theorem dX0_init_5 : decode cX0_init 5 = .ok (.new 9, 3) := by decide +kernel
theorem dX0_init_8 : decode cX0_init 8 = .ok (.dup, 1) := by decide +kernel
theorem dX0_init_9 : decode cX0_init 9 = .ok (.invokespecial 11, 3) := by decide +kernel
theorem dX0_init_12 : decode cX0_init 12 = .ok (.putfield 12, 3) := by decide +kernel
theorem dX0_init_15 : decode cX0_init 15 = .ok (.aload_n 0, 1) := by decide +kernel
theorem dX0_init_16 : decode cX0_init 16 = .ok (.new 18, 3) := by decide +kernel
theorem dX0_init_19 : decode cX0_init 19 = .ok (.dup, 1) := by decide +kernel
theorem dX0_init_20 : decode cX0_init 20 = .ok (.invokespecial 20, 3) := by decide +kernel
theorem dX0_init_23 : decode cX0_init 23 = .ok (.putfield 21, 3) := by decide +kernel
theorem dX0_init_26 : decode cX0_init 26 = .ok (.aload_n 0, 1) := by decide +kernel
theorem dX0_init_27 : decode cX0_init 27 = .ok (.bipush 16, 2) := by decide +kernel
theorem dX0_init_29 : decode cX0_init 29 = .ok (.anewarray 25, 3) := by decide +kernel
theorem dX0_init_32 : decode cX0_init 32 = .ok (.putfield 27, 3) := by decide +kernel
theorem dX0_init_35 : decode cX0_init 35 = .ok (.iconst 0, 1) := by decide +kernel
theorem dX0_init_36 : decode cX0_init 36 = .ok (.istore_n 1, 1) := by decide +kernel
theorem dX0_init_37 : decode cX0_init 37 = .ok (.iload_n 1, 1) := by decide +kernel
theorem dX0_init_38 : decode cX0_init 38 = .ok (.bipush 16, 2) := by decide +kernel
theorem dX0_init_40 : decode cX0_init 40 = .ok (.if_icmp .ge 22, 3) := by decide +kernel
theorem dX0_init_43 : decode cX0_init 43 = .ok (.aload_n 0, 1) := by decide +kernel
theorem dX0_init_44 : decode cX0_init 44 = .ok (.getfield 27, 3) := by decide +kernel
theorem dX0_init_47 : decode cX0_init 47 = .ok (.iload_n 1, 1) := by decide +kernel
theorem dX0_init_48 : decode cX0_init 48 = .ok (.new 25, 3) := by decide +kernel
theorem dX0_init_51 : decode cX0_init 51 = .ok (.dup, 1) := by decide +kernel
theorem dX0_init_52 : decode cX0_init 52 = .ok (.invokespecial 31, 3) := by decide +kernel
theorem dX0_init_55 : decode cX0_init 55 = .ok (.aastore, 1) := by decide +kernel
theorem dX0_init_56 : decode cX0_init 56 = .ok (.iinc 1 1, 3) := by decide +kernel
theorem dX0_init_59 : decode cX0_init 59 = .ok (.goto (-22), 3) := by decide +kernel
theorem dX0_init_62 : decode cX0_init 62 = .ok (.return_, 1) := by decide +kernel
theorem dX0_copyFrom_0 : decode cX0_copyFrom 0 = .ok (.aload_n 0, 1) := by decide +kernel
theorem dX0_copyFrom_1 : decode cX0_copyFrom 1 = .ok (.getfield 12, 3) := by decide +kernel
theorem dX0_copyFrom_4 : decode cX0_copyFrom 4 = .ok (.aload_n 1, 1) := by decide +kernel
theorem dX0_copyFrom_5 : decode cX0_copyFrom 5 = .ok (.getfield 12, 3) := by decide +kernel
theorem dX0_copyFrom_8 : decode cX0_copyFrom 8 = .ok (.invokevirtual 32, 3) := by decide +kernel
theorem dX0_copyFrom_11 : decode cX0_copyFrom 11 = .ok (.aload_n 0, 1) := by decide +kernel
theorem dX0_copyFrom_12 : decode cX0_copyFrom 12 = .ok (.getfield 21, 3) := by decide +kernel
theorem dX0_copyFrom_15 : decode cX0_copyFrom 15 = .ok (.aload_n 1, 1) := by decide +kernel
theorem dX0_copyFrom_16 : decode cX0_copyFrom 16 = .ok (.getfield 21, 3) := by decide +kernel
theorem dX0_copyFrom_19 : decode cX0_copyFrom 19 = .ok (.invokevirtual 36, 3) := by decide +kernel
theorem dX0_copyFrom_22 : decode cX0_copyFrom 22 = .ok (.aload_n 0, 1) := by decide +kernel
theorem dX0_copyFrom_23 : decode cX0_copyFrom 23 = .ok (.aload_n 1, 1) := by decide +kernel
theorem dX0_copyFrom_24 : decode cX0_copyFrom 24 = .ok (.getfield 39, 3) := by decide +kernel
theorem dX0_copyFrom_27 : decode cX0_copyFrom 27 = .ok (.putfield 39, 3) := by decide +kernel
theorem dX0_copyFrom_30 : decode cX0_copyFrom 30 = .ok (.aload_n 0, 1) := by decide +kernel
theorem dX0_copyFrom_31 : decode cX0_copyFrom 31 = .ok (.aload_n 1, 1) := by decide +kernel
theorem dX0_copyFrom_32 : decode cX0_copyFrom 32 = .ok (.getfield 43, 3) := by decide +kernel
theorem dX0_copyFrom_35 : decode cX0_copyFrom 35 = .ok (.putfield 43, 3) := by decide +kernel
theorem dX0_copyFrom_38 : decode cX0_copyFrom 38 = .ok (.aload_n 0, 1) := by decide +kernel
theorem dX0_copyFrom_39 : decode cX0_copyFrom 39 = .ok (.aload_n 1, 1) := by decide +kernel
theorem dX0_copyFrom_40 : decode cX0_copyFrom 40 = .ok (.getfield 46, 3) := by decide +kernel
theorem dX0_copyFrom_43 : decode cX0_copyFrom 43 = .ok (.putfield 46, 3) := by decide +kernel
theorem dX0_copyFrom_46 : decode cX0_copyFrom 46 = .ok (.aload_n 0, 1) := by decide +kernel
theorem dX0_copyFrom_47 : decode cX0_copyFrom 47 = .ok (.aload_n 1, 1) := by decide +kernel
theorem dX0_copyFrom_48 : decode cX0_copyFrom 48 = .ok (.getfield 49, 3) := by decide +kernel
theorem dX0_copyFrom_51 : decode cX0_copyFrom 51 = .ok (.putfield 49, 3) := by decide +kernel
theorem dX0_copyFrom_54 : decode cX0_copyFrom 54 = .ok (.aload_n 0, 1) := by decide +kernel
theorem dX0_copyFrom_55 : decode cX0_copyFrom 55 = .ok (.aload_n 1, 1) := by decide +kernel
theorem dX0_copyFrom_56 : decode cX0_copyFrom 56 = .ok (.getfield 53, 3) := by decide +kernel
theorem dX0_copyFrom_59 : decode cX0_copyFrom 59 = .ok (.putfield 53, 3) := by decide +kernel
theorem dX0_copyFrom_62 : decode cX0_copyFrom 62 = .ok (.iconst 0, 1) := by decide +kernel
theorem dX0_copyFrom_63 : decode cX0_copyFrom 63 = .ok (.istore_n 2, 1) := by decide +kernel
theorem dX0_copyFrom_64 : decode cX0_copyFrom 64 = .ok (.iload_n 2, 1) := by decide +kernel
theorem dX0_copyFrom_65 : decode cX0_copyFrom 65 = .ok (.aload_n 0, 1) := by decide +kernel
theorem dX0_copyFrom_66 : decode cX0_copyFrom 66 = .ok (.getfield 39, 3) := by decide +kernel
theorem dX0_copyFrom_69 : decode cX0_copyFrom 69 = .ok (.if_icmp .ge 24, 3) := by decide +kernel
theorem dX0_copyFrom_72 : decode cX0_copyFrom 72 = .ok (.aload_n 0, 1) := by decide +kernel
theorem dX0_copyFrom_73 : decode cX0_copyFrom 73 = .ok (.getfield 27, 3) := by decide +kernel
theorem dX0_copyFrom_76 : decode cX0_copyFrom 76 = .ok (.iload_n 2, 1) := by decide +kernel
theorem dX0_copyFrom_77 : decode cX0_copyFrom 77 = .ok (.aaload, 1) := by decide +kernel
theorem dX0_copyFrom_78 : decode cX0_copyFrom 78 = .ok (.aload_n 1, 1) := by decide +kernel
theorem dX0_copyFrom_79 : decode cX0_copyFrom 79 = .ok (.getfield 27, 3) := by decide +kernel
theorem dX0_copyFrom_82 : decode cX0_copyFrom 82 = .ok (.iload_n 2, 1) := by decide +kernel
theorem dX0_copyFrom_83 : decode cX0_copyFrom 83 = .ok (.aaload, 1) := by decide +kernel
theorem dX0_copyFrom_84 : decode cX0_copyFrom 84 = .ok (.invokevirtual 56, 3) := by decide +kernel
theorem dX0_copyFrom_87 : decode cX0_copyFrom 87 = .ok (.iinc 2 1, 3) := by decide +kernel
theorem dX0_copyFrom_90 : decode cX0_copyFrom 90 = .ok (.goto (-26), 3) := by decide +kernel
theorem dX0_copyFrom_93 : decode cX0_copyFrom 93 = .ok (.return_, 1) := by decide +kernel
theorem dX0_beginWith_0 : decode cX0_beginWith 0 = .ok (.aload_n 0, 1) := by decide +kernel
theorem dX0_beginWith_1 : decode cX0_beginWith 1 = .ok (.getfield 12, 3) := by decide +kernel
theorem dX0_beginWith_4 : decode cX0_beginWith 4 = .ok (.aload_n 1, 1) := by decide +kernel
theorem dX0_beginWith_5 : decode cX0_beginWith 5 = .ok (.invokevirtual 32, 3) := by decide +kernel
theorem dX0_beginWith_8 : decode cX0_beginWith 8 = .ok (.aload_n 0, 1) := by decide +kernel
theorem dX0_beginWith_9 : decode cX0_beginWith 9 = .ok (.getfield 21, 3) := by decide +kernel
theorem dX0_beginWith_12 : decode cX0_beginWith 12 = .ok (.invokevirtual 59, 3) := by decide +kernel
theorem dX0_beginWith_15 : decode cX0_beginWith 15 = .ok (.aload_n 0, 1) := by decide +kernel
theorem dX0_beginWith_16 : decode cX0_beginWith 16 = .ok (.iconst 0, 1) := by decide +kernel
theorem dX0_beginWith_17 : decode cX0_beginWith 17 = .ok (.putfield 39, 3) := by decide +kernel
theorem dX0_beginWith_20 : decode cX0_beginWith 20 = .ok (.aload_n 0, 1) := by decide +kernel
theorem dX0_beginWith_21 : decode cX0_beginWith 21 = .ok (.iconst 0, 1) := by decide +kernel
theorem dX0_beginWith_22 : decode cX0_beginWith 22 = .ok (.putfield 43, 3) := by decide +kernel
theorem dX0_beginWith_25 : decode cX0_beginWith 25 = .ok (.aload_n 0, 1) := by decide +kernel
theorem dX0_beginWith_26 : decode cX0_beginWith 26 = .ok (.iconst 0, 1) := by decide +kernel
theorem dX0_beginWith_27 : decode cX0_beginWith 27 = .ok (.putfield 46, 3) := by decide +kernel
theorem dX0_beginWith_30 : decode cX0_beginWith 30 = .ok (.aload_n 0, 1) := by decide +kernel
theorem dX0_beginWith_31 : decode cX0_beginWith 31 = .ok (.lconst 0, 1) := by decide +kernel
theorem dX0_beginWith_32 : decode cX0_beginWith 32 = .ok (.putfield 49, 3) := by decide +kernel
theorem dX0_beginWith_35 : decode cX0_beginWith 35 = .ok (.aload_n 0, 1) := by decide +kernel
theorem dX0_beginWith_36 : decode cX0_beginWith 36 = .ok (.lconst 0, 1) := by decide +kernel
theorem dX0_beginWith_37 : decode cX0_beginWith 37 = .ok (.putfield 53, 3) := by decide +kernel
theorem dX0_beginWith_40 : decode cX0_beginWith 40 = .ok (.return_, 1) := by decide +kernel
theorem dX0_enrol_0 : decode cX0_enrol 0 = .ok (.aload_n 0, 1) := by decide +kernel
theorem dX0_enrol_1 : decode cX0_enrol 1 = .ok (.getfield 39, 3) := by decide +kernel
theorem dX0_enrol_4 : decode cX0_enrol 4 = .ok (.istore 4, 2) := by decide +kernel
theorem dX0_enrol_6 : decode cX0_enrol 6 = .ok (.iload 4, 2) := by decide +kernel
theorem dX0_enrol_8 : decode cX0_enrol 8 = .ok (.bipush 16, 2) := by decide +kernel
theorem dX0_enrol_10 : decode cX0_enrol 10 = .ok (.if_icmp .ge 30, 3) := by decide +kernel
theorem dX0_enrol_13 : decode cX0_enrol 13 = .ok (.aload_n 0, 1) := by decide +kernel
theorem dX0_enrol_14 : decode cX0_enrol 14 = .ok (.getfield 27, 3) := by decide +kernel
theorem dX0_enrol_17 : decode cX0_enrol 17 = .ok (.iload 4, 2) := by decide +kernel
theorem dX0_enrol_19 : decode cX0_enrol 19 = .ok (.aaload, 1) := by decide +kernel
theorem dX0_enrol_20 : decode cX0_enrol 20 = .ok (.iload_n 1, 1) := by decide +kernel
theorem dX0_enrol_21 : decode cX0_enrol 21 = .ok (.iload_n 2, 1) := by decide +kernel
theorem dX0_enrol_22 : decode cX0_enrol 22 = .ok (.iload_n 3, 1) := by decide +kernel
theorem dX0_enrol_23 : decode cX0_enrol 23 = .ok (.invokevirtual 62, 3) := by decide +kernel
theorem dX0_enrol_26 : decode cX0_enrol 26 = .ok (.aload_n 0, 1) := by decide +kernel
theorem dX0_enrol_27 : decode cX0_enrol 27 = .ok (.dup, 1) := by decide +kernel
theorem dX0_enrol_28 : decode cX0_enrol 28 = .ok (.getfield 39, 3) := by decide +kernel
theorem dX0_enrol_31 : decode cX0_enrol 31 = .ok (.iconst 1, 1) := by decide +kernel
theorem dX0_enrol_32 : decode cX0_enrol 32 = .ok (.iadd, 1) := by decide +kernel
theorem dX0_enrol_33 : decode cX0_enrol 33 = .ok (.putfield 39, 3) := by decide +kernel
theorem dX0_enrol_36 : decode cX0_enrol 36 = .ok (.aload_n 0, 1) := by decide +kernel
theorem dX0_enrol_37 : decode cX0_enrol 37 = .ok (.invokevirtual 66, 3) := by decide +kernel
theorem dX0_enrol_40 : decode cX0_enrol 40 = .ok (.iload 4, 2) := by decide +kernel
theorem dX0_enrol_42 : decode cX0_enrol 42 = .ok (.ireturn, 1) := by decide +kernel
theorem dX0_heldShares_0 : decode cX0_heldShares 0 = .ok (.iconst 0, 1) := by decide +kernel
theorem dX0_heldShares_1 : decode cX0_heldShares 1 = .ok (.istore_n 1, 1) := by decide +kernel
theorem dX0_heldShares_2 : decode cX0_heldShares 2 = .ok (.iconst 0, 1) := by decide +kernel
theorem dX0_heldShares_3 : decode cX0_heldShares 3 = .ok (.istore_n 2, 1) := by decide +kernel
theorem dX0_heldShares_4 : decode cX0_heldShares 4 = .ok (.iload_n 2, 1) := by decide +kernel
theorem dX0_heldShares_5 : decode cX0_heldShares 5 = .ok (.aload_n 0, 1) := by decide +kernel
theorem dX0_heldShares_6 : decode cX0_heldShares 6 = .ok (.getfield 39, 3) := by decide +kernel
theorem dX0_heldShares_9 : decode cX0_heldShares 9 = .ok (.if_icmp .ge 21, 3) := by decide +kernel
theorem dX0_heldShares_12 : decode cX0_heldShares 12 = .ok (.iload_n 1, 1) := by decide +kernel
theorem dX0_heldShares_13 : decode cX0_heldShares 13 = .ok (.aload_n 0, 1) := by decide +kernel
theorem dX0_heldShares_14 : decode cX0_heldShares 14 = .ok (.getfield 27, 3) := by decide +kernel
theorem dX0_heldShares_17 : decode cX0_heldShares 17 = .ok (.iload_n 2, 1) := by decide +kernel
theorem dX0_heldShares_18 : decode cX0_heldShares 18 = .ok (.aaload, 1) := by decide +kernel
theorem dX0_heldShares_19 : decode cX0_heldShares 19 = .ok (.getfield 69, 3) := by decide +kernel
theorem dX0_heldShares_22 : decode cX0_heldShares 22 = .ok (.iadd, 1) := by decide +kernel
theorem dX0_heldShares_23 : decode cX0_heldShares 23 = .ok (.istore_n 1, 1) := by decide +kernel
theorem dX0_heldShares_24 : decode cX0_heldShares 24 = .ok (.iinc 2 1, 3) := by decide +kernel
theorem dX0_heldShares_27 : decode cX0_heldShares 27 = .ok (.goto (-23), 3) := by decide +kernel
theorem dX0_heldShares_30 : decode cX0_heldShares 30 = .ok (.iload_n 1, 1) := by decide +kernel
theorem dX0_heldShares_31 : decode cX0_heldShares 31 = .ok (.ireturn, 1) := by decide +kernel
theorem dX0_unheldShares_0 : decode cX0_unheldShares 0 = .ok (.aload_n 0, 1) := by decide +kernel
theorem dX0_unheldShares_1 : decode cX0_unheldShares 1 = .ok (.getfield 12, 3) := by decide +kernel
theorem dX0_unheldShares_4 : decode cX0_unheldShares 4 = .ok (.getfield 72, 3) := by decide +kernel
theorem dX0_unheldShares_7 : decode cX0_unheldShares 7 = .ok (.aload_n 0, 1) := by decide +kernel
theorem dX0_unheldShares_8 : decode cX0_unheldShares 8 = .ok (.invokevirtual 75, 3) := by decide +kernel
theorem dX0_unheldShares_11 : decode cX0_unheldShares 11 = .ok (.isub, 1) := by decide +kernel
theorem dX0_unheldShares_12 : decode cX0_unheldShares 12 = .ok (.ireturn, 1) := by decide +kernel
theorem dX0_goThroughWaitingList_0 : decode cX0_goThroughWaitingList 0 = .ok (.bipush 9, 2) := by decide +kernel
theorem dX0_goThroughWaitingList_2 : decode cX0_goThroughWaitingList 2 = .ok (.istore_n 1, 1) := by decide +kernel
theorem dX0_goThroughWaitingList_3 : decode cX0_goThroughWaitingList 3 = .ok (.iload_n 1, 1) := by decide +kernel
theorem dX0_goThroughWaitingList_4 : decode cX0_goThroughWaitingList 4 = .ok (.ifCond .lt 52, 3) := by decide +kernel
theorem dX0_goThroughWaitingList_7 : decode cX0_goThroughWaitingList 7 = .ok (.iconst 0, 1) := by decide +kernel
theorem dX0_goThroughWaitingList_8 : decode cX0_goThroughWaitingList 8 = .ok (.istore_n 2, 1) := by decide +kernel
theorem dX0_goThroughWaitingList_9 : decode cX0_goThroughWaitingList 9 = .ok (.iload_n 2, 1) := by decide +kernel
theorem dX0_goThroughWaitingList_10 : decode cX0_goThroughWaitingList 10 = .ok (.aload_n 0, 1) := by decide +kernel
theorem dX0_goThroughWaitingList_11 : decode cX0_goThroughWaitingList 11 = .ok (.getfield 39, 3) := by decide +kernel
theorem dX0_goThroughWaitingList_14 : decode cX0_goThroughWaitingList 14 = .ok (.if_icmp .ge 36, 3) := by decide +kernel
theorem dX0_goThroughWaitingList_17 : decode cX0_goThroughWaitingList 17 = .ok (.aload_n 0, 1) := by decide +kernel
theorem dX0_goThroughWaitingList_18 : decode cX0_goThroughWaitingList 18 = .ok (.getfield 27, 3) := by decide +kernel
theorem dX0_goThroughWaitingList_21 : decode cX0_goThroughWaitingList 21 = .ok (.iload_n 2, 1) := by decide +kernel
theorem dX0_goThroughWaitingList_22 : decode cX0_goThroughWaitingList 22 = .ok (.aaload, 1) := by decide +kernel
theorem dX0_goThroughWaitingList_23 : decode cX0_goThroughWaitingList 23 = .ok (.astore_n 3, 1) := by decide +kernel
theorem dX0_goThroughWaitingList_24 : decode cX0_goThroughWaitingList 24 = .ok (.aload_n 3, 1) := by decide +kernel
theorem dX0_goThroughWaitingList_25 : decode cX0_goThroughWaitingList 25 = .ok (.getfield 79, 3) := by decide +kernel
theorem dX0_goThroughWaitingList_28 : decode cX0_goThroughWaitingList 28 = .ok (.ifCond .ne 16, 3) := by decide +kernel
theorem dX0_goThroughWaitingList_31 : decode cX0_goThroughWaitingList 31 = .ok (.aload_n 3, 1) := by decide +kernel
theorem dX0_goThroughWaitingList_32 : decode cX0_goThroughWaitingList 32 = .ok (.getfield 82, 3) := by decide +kernel
theorem dX0_goThroughWaitingList_35 : decode cX0_goThroughWaitingList 35 = .ok (.iload_n 1, 1) := by decide +kernel
theorem dX0_goThroughWaitingList_36 : decode cX0_goThroughWaitingList 36 = .ok (.if_icmp .ne 8, 3) := by decide +kernel
theorem dX0_goThroughWaitingList_39 : decode cX0_goThroughWaitingList 39 = .ok (.aload_n 0, 1) := by decide +kernel
theorem dX0_goThroughWaitingList_40 : decode cX0_goThroughWaitingList 40 = .ok (.aload_n 3, 1) := by decide +kernel
theorem dX0_goThroughWaitingList_41 : decode cX0_goThroughWaitingList 41 = .ok (.invokevirtual 85, 3) := by decide +kernel
theorem dX0_goThroughWaitingList_44 : decode cX0_goThroughWaitingList 44 = .ok (.iinc 2 1, 3) := by decide +kernel
theorem dX0_goThroughWaitingList_47 : decode cX0_goThroughWaitingList 47 = .ok (.goto (-38), 3) := by decide +kernel
theorem dX0_goThroughWaitingList_50 : decode cX0_goThroughWaitingList 50 = .ok (.iinc 1 (-1), 3) := by decide +kernel
theorem dX0_goThroughWaitingList_53 : decode cX0_goThroughWaitingList 53 = .ok (.goto (-50), 3) := by decide +kernel
theorem dX0_goThroughWaitingList_56 : decode cX0_goThroughWaitingList 56 = .ok (.return_, 1) := by decide +kernel
theorem dX0_offerShares_0 : decode cX0_offerShares 0 = .ok (.aload_n 0, 1) := by decide +kernel
theorem dX0_offerShares_1 : decode cX0_offerShares 1 = .ok (.invokevirtual 88, 3) := by decide +kernel
theorem dX0_offerShares_4 : decode cX0_offerShares 4 = .ok (.aload_n 0, 1) := by decide +kernel
theorem dX0_offerShares_5 : decode cX0_offerShares 5 = .ok (.getfield 12, 3) := by decide +kernel
theorem dX0_offerShares_8 : decode cX0_offerShares 8 = .ok (.invokevirtual 91, 3) := by decide +kernel
theorem dX0_offerShares_11 : decode cX0_offerShares 11 = .ok (.invokestatic 94, 3) := by decide +kernel
theorem dX0_offerShares_14 : decode cX0_offerShares 14 = .ok (.istore_n 2, 1) := by decide +kernel
theorem dX0_offerShares_15 : decode cX0_offerShares 15 = .ok (.iload_n 2, 1) := by decide +kernel
theorem dX0_offerShares_16 : decode cX0_offerShares 16 = .ok (.aload_n 1, 1) := by decide +kernel
theorem dX0_offerShares_17 : decode cX0_offerShares 17 = .ok (.getfield 100, 3) := by decide +kernel
theorem dX0_offerShares_20 : decode cX0_offerShares 20 = .ok (.invokestatic 94, 3) := by decide +kernel
theorem dX0_offerShares_23 : decode cX0_offerShares 23 = .ok (.istore_n 2, 1) := by decide +kernel
theorem dX0_offerShares_24 : decode cX0_offerShares 24 = .ok (.iload_n 2, 1) := by decide +kernel
theorem dX0_offerShares_25 : decode cX0_offerShares 25 = .ok (.aload_n 1, 1) := by decide +kernel
theorem dX0_offerShares_26 : decode cX0_offerShares 26 = .ok (.getfield 103, 3) := by decide +kernel
theorem dX0_offerShares_29 : decode cX0_offerShares 29 = .ok (.if_icmp .lt 13, 3) := by decide +kernel
theorem dX0_offerShares_32 : decode cX0_offerShares 32 = .ok (.aload_n 1, 1) := by decide +kernel
theorem dX0_offerShares_33 : decode cX0_offerShares 33 = .ok (.iconst 1, 1) := by decide +kernel
theorem dX0_offerShares_34 : decode cX0_offerShares 34 = .ok (.putfield 79, 3) := by decide +kernel
theorem dX0_offerShares_37 : decode cX0_offerShares 37 = .ok (.aload_n 1, 1) := by decide +kernel
theorem dX0_offerShares_38 : decode cX0_offerShares 38 = .ok (.iload_n 2, 1) := by decide +kernel
theorem dX0_offerShares_39 : decode cX0_offerShares 39 = .ok (.putfield 69, 3) := by decide +kernel
theorem dX0_offerShares_42 : decode cX0_offerShares 42 = .ok (.return_, 1) := by decide +kernel
theorem dX0_placeOnWaitingList_0 : decode cX0_placeOnWaitingList 0 = .ok (.aload_n 0, 1) := by decide +kernel
theorem dX0_placeOnWaitingList_1 : decode cX0_placeOnWaitingList 1 = .ok (.getfield 27, 3) := by decide +kernel
theorem dX0_placeOnWaitingList_4 : decode cX0_placeOnWaitingList 4 = .ok (.iload_n 1, 1) := by decide +kernel
theorem dX0_placeOnWaitingList_5 : decode cX0_placeOnWaitingList 5 = .ok (.aaload, 1) := by decide +kernel
theorem dX0_placeOnWaitingList_6 : decode cX0_placeOnWaitingList 6 = .ok (.astore_n 2, 1) := by decide +kernel
theorem dX0_placeOnWaitingList_7 : decode cX0_placeOnWaitingList 7 = .ok (.aload_n 2, 1) := by decide +kernel
theorem dX0_placeOnWaitingList_8 : decode cX0_placeOnWaitingList 8 = .ok (.getfield 79, 3) := by decide +kernel
theorem dX0_placeOnWaitingList_11 : decode cX0_placeOnWaitingList 11 = .ok (.ifCond .eq 5, 3) := by decide +kernel
theorem dX0_placeOnWaitingList_14 : decode cX0_placeOnWaitingList 14 = .ok (.iconst (-1), 1) := by decide +kernel
theorem dX0_placeOnWaitingList_15 : decode cX0_placeOnWaitingList 15 = .ok (.ireturn, 1) := by decide +kernel
theorem dX0_placeOnWaitingList_16 : decode cX0_placeOnWaitingList 16 = .ok (.iconst 0, 1) := by decide +kernel
theorem dX0_placeOnWaitingList_17 : decode cX0_placeOnWaitingList 17 = .ok (.istore_n 3, 1) := by decide +kernel
theorem dX0_placeOnWaitingList_18 : decode cX0_placeOnWaitingList 18 = .ok (.iconst 0, 1) := by decide +kernel
theorem dX0_placeOnWaitingList_19 : decode cX0_placeOnWaitingList 19 = .ok (.istore 4, 2) := by decide +kernel
theorem dX0_placeOnWaitingList_21 : decode cX0_placeOnWaitingList 21 = .ok (.iload 4, 2) := by decide +kernel
theorem dX0_placeOnWaitingList_23 : decode cX0_placeOnWaitingList 23 = .ok (.aload_n 0, 1) := by decide +kernel
theorem dX0_placeOnWaitingList_24 : decode cX0_placeOnWaitingList 24 = .ok (.getfield 39, 3) := by decide +kernel
theorem dX0_placeOnWaitingList_27 : decode cX0_placeOnWaitingList 27 = .ok (.if_icmp .ge 62, 3) := by decide +kernel
theorem dX0_placeOnWaitingList_30 : decode cX0_placeOnWaitingList 30 = .ok (.aload_n 0, 1) := by decide +kernel
theorem dX0_placeOnWaitingList_31 : decode cX0_placeOnWaitingList 31 = .ok (.getfield 27, 3) := by decide +kernel
theorem dX0_placeOnWaitingList_34 : decode cX0_placeOnWaitingList 34 = .ok (.iload 4, 2) := by decide +kernel
theorem dX0_placeOnWaitingList_36 : decode cX0_placeOnWaitingList 36 = .ok (.aaload, 1) := by decide +kernel
theorem dX0_placeOnWaitingList_37 : decode cX0_placeOnWaitingList 37 = .ok (.astore 5, 2) := by decide +kernel
theorem dX0_placeOnWaitingList_39 : decode cX0_placeOnWaitingList 39 = .ok (.iload 4, 2) := by decide +kernel
theorem dX0_placeOnWaitingList_41 : decode cX0_placeOnWaitingList 41 = .ok (.iload_n 1, 1) := by decide +kernel
theorem dX0_placeOnWaitingList_42 : decode cX0_placeOnWaitingList 42 = .ok (.if_icmp .eq 41, 3) := by decide +kernel
theorem dX0_placeOnWaitingList_45 : decode cX0_placeOnWaitingList 45 = .ok (.aload 5, 2) := by decide +kernel
theorem dX0_placeOnWaitingList_47 : decode cX0_placeOnWaitingList 47 = .ok (.getfield 79, 3) := by decide +kernel
theorem dX0_placeOnWaitingList_50 : decode cX0_placeOnWaitingList 50 = .ok (.ifCond .ne 33, 3) := by decide +kernel
theorem dX0_placeOnWaitingList_53 : decode cX0_placeOnWaitingList 53 = .ok (.iload 4, 2) := by decide +kernel
theorem dX0_placeOnWaitingList_55 : decode cX0_placeOnWaitingList 55 = .ok (.iload_n 1, 1) := by decide +kernel
theorem dX0_placeOnWaitingList_56 : decode cX0_placeOnWaitingList 56 = .ok (.if_icmp .ge 15, 3) := by decide +kernel
theorem dX0_placeOnWaitingList_59 : decode cX0_placeOnWaitingList 59 = .ok (.aload 5, 2) := by decide +kernel
theorem dX0_placeOnWaitingList_61 : decode cX0_placeOnWaitingList 61 = .ok (.aload_n 2, 1) := by decide +kernel
theorem dX0_placeOnWaitingList_62 : decode cX0_placeOnWaitingList 62 = .ok (.invokevirtual 106, 3) := by decide +kernel
theorem dX0_placeOnWaitingList_65 : decode cX0_placeOnWaitingList 65 = .ok (.ifCond .eq 18, 3) := by decide +kernel
theorem dX0_placeOnWaitingList_68 : decode cX0_placeOnWaitingList 68 = .ok (.goto 12, 3) := by decide +kernel
theorem dX0_placeOnWaitingList_71 : decode cX0_placeOnWaitingList 71 = .ok (.aload_n 2, 1) := by decide +kernel
theorem dX0_placeOnWaitingList_72 : decode cX0_placeOnWaitingList 72 = .ok (.aload 5, 2) := by decide +kernel
theorem dX0_placeOnWaitingList_74 : decode cX0_placeOnWaitingList 74 = .ok (.invokevirtual 106, 3) := by decide +kernel
theorem dX0_placeOnWaitingList_77 : decode cX0_placeOnWaitingList 77 = .ok (.ifCond .ne 6, 3) := by decide +kernel
theorem dX0_placeOnWaitingList_80 : decode cX0_placeOnWaitingList 80 = .ok (.iinc 3 1, 3) := by decide +kernel
theorem dX0_placeOnWaitingList_83 : decode cX0_placeOnWaitingList 83 = .ok (.iinc 4 1, 3) := by decide +kernel
theorem dX0_placeOnWaitingList_86 : decode cX0_placeOnWaitingList 86 = .ok (.goto (-65), 3) := by decide +kernel
theorem dX0_placeOnWaitingList_89 : decode cX0_placeOnWaitingList 89 = .ok (.iload_n 3, 1) := by decide +kernel
theorem dX0_placeOnWaitingList_90 : decode cX0_placeOnWaitingList 90 = .ok (.ireturn, 1) := by decide +kernel
theorem dX0_passesOnTo_0 : decode cX0_passesOnTo 0 = .ok (.iload_n 1, 1) := by decide +kernel
theorem dX0_passesOnTo_1 : decode cX0_passesOnTo 1 = .ok (.istore_n 3, 1) := by decide +kernel
theorem dX0_passesOnTo_2 : decode cX0_passesOnTo 2 = .ok (.iconst 0, 1) := by decide +kernel
theorem dX0_passesOnTo_3 : decode cX0_passesOnTo 3 = .ok (.istore 4, 2) := by decide +kernel
theorem dX0_passesOnTo_5 : decode cX0_passesOnTo 5 = .ok (.iload 4, 2) := by decide +kernel
theorem dX0_passesOnTo_7 : decode cX0_passesOnTo 7 = .ok (.bipush 16, 2) := by decide +kernel
theorem dX0_passesOnTo_9 : decode cX0_passesOnTo 9 = .ok (.if_icmp .ge 38, 3) := by decide +kernel
theorem dX0_passesOnTo_12 : decode cX0_passesOnTo 12 = .ok (.iload_n 3, 1) := by decide +kernel
theorem dX0_passesOnTo_13 : decode cX0_passesOnTo 13 = .ok (.ifCond .lt 34, 3) := by decide +kernel
theorem dX0_passesOnTo_16 : decode cX0_passesOnTo 16 = .ok (.iload_n 3, 1) := by decide +kernel
theorem dX0_passesOnTo_17 : decode cX0_passesOnTo 17 = .ok (.aload_n 0, 1) := by decide +kernel
theorem dX0_passesOnTo_18 : decode cX0_passesOnTo 18 = .ok (.getfield 39, 3) := by decide +kernel
theorem dX0_passesOnTo_21 : decode cX0_passesOnTo 21 = .ok (.if_icmp .ge 26, 3) := by decide +kernel
theorem dX0_passesOnTo_24 : decode cX0_passesOnTo 24 = .ok (.iload_n 3, 1) := by decide +kernel
theorem dX0_passesOnTo_25 : decode cX0_passesOnTo 25 = .ok (.iload_n 2, 1) := by decide +kernel
theorem dX0_passesOnTo_26 : decode cX0_passesOnTo 26 = .ok (.if_icmp .ne 5, 3) := by decide +kernel
theorem dX0_passesOnTo_29 : decode cX0_passesOnTo 29 = .ok (.iconst 1, 1) := by decide +kernel
theorem dX0_passesOnTo_30 : decode cX0_passesOnTo 30 = .ok (.ireturn, 1) := by decide +kernel
theorem dX0_passesOnTo_31 : decode cX0_passesOnTo 31 = .ok (.aload_n 0, 1) := by decide +kernel
theorem dX0_passesOnTo_32 : decode cX0_passesOnTo 32 = .ok (.getfield 27, 3) := by decide +kernel
theorem dX0_passesOnTo_35 : decode cX0_passesOnTo 35 = .ok (.iload_n 3, 1) := by decide +kernel
theorem dX0_passesOnTo_36 : decode cX0_passesOnTo 36 = .ok (.aaload, 1) := by decide +kernel
theorem dX0_passesOnTo_37 : decode cX0_passesOnTo 37 = .ok (.getfield 110, 3) := by decide +kernel
theorem dX0_passesOnTo_40 : decode cX0_passesOnTo 40 = .ok (.istore_n 3, 1) := by decide +kernel
theorem dX0_passesOnTo_41 : decode cX0_passesOnTo 41 = .ok (.iinc 4 1, 3) := by decide +kernel
theorem dX0_passesOnTo_44 : decode cX0_passesOnTo 44 = .ok (.goto (-39), 3) := by decide +kernel
theorem dX0_passesOnTo_47 : decode cX0_passesOnTo 47 = .ok (.iconst 0, 1) := by decide +kernel
theorem dX0_passesOnTo_48 : decode cX0_passesOnTo 48 = .ok (.ireturn, 1) := by decide +kernel
theorem dX0_letGo_0 : decode cX0_letGo 0 = .ok (.aload_n 0, 1) := by decide +kernel
theorem dX0_letGo_1 : decode cX0_letGo 1 = .ok (.getfield 27, 3) := by decide +kernel
theorem dX0_letGo_4 : decode cX0_letGo 4 = .ok (.iload_n 1, 1) := by decide +kernel
theorem dX0_letGo_5 : decode cX0_letGo 5 = .ok (.aaload, 1) := by decide +kernel
theorem dX0_letGo_6 : decode cX0_letGo 6 = .ok (.astore_n 2, 1) := by decide +kernel
theorem dX0_letGo_7 : decode cX0_letGo 7 = .ok (.aload_n 2, 1) := by decide +kernel
theorem dX0_letGo_8 : decode cX0_letGo 8 = .ok (.invokevirtual 113, 3) := by decide +kernel
theorem dX0_letGo_11 : decode cX0_letGo 11 = .ok (.istore_n 3, 1) := by decide +kernel
theorem dX0_letGo_12 : decode cX0_letGo 12 = .ok (.aload_n 2, 1) := by decide +kernel
theorem dX0_letGo_13 : decode cX0_letGo 13 = .ok (.iconst 2, 1) := by decide +kernel
theorem dX0_letGo_14 : decode cX0_letGo 14 = .ok (.putfield 79, 3) := by decide +kernel
theorem dX0_letGo_17 : decode cX0_letGo 17 = .ok (.iload_n 3, 1) := by decide +kernel
theorem dX0_letGo_18 : decode cX0_letGo 18 = .ok (.ifCond .eq 37, 3) := by decide +kernel
theorem dX0_letGo_21 : decode cX0_letGo 21 = .ok (.aload_n 0, 1) := by decide +kernel
theorem dX0_letGo_22 : decode cX0_letGo 22 = .ok (.dup, 1) := by decide +kernel
theorem dX0_letGo_23 : decode cX0_letGo 23 = .ok (.getfield 49, 3) := by decide +kernel
theorem dX0_letGo_26 : decode cX0_letGo 26 = .ok (.aload_n 2, 1) := by decide +kernel
theorem dX0_letGo_27 : decode cX0_letGo 27 = .ok (.aload_n 0, 1) := by decide +kernel
theorem dX0_letGo_28 : decode cX0_letGo 28 = .ok (.getfield 12, 3) := by decide +kernel
theorem dX0_letGo_31 : decode cX0_letGo 31 = .ok (.getfield 117, 3) := by decide +kernel
theorem dX0_letGo_34 : decode cX0_letGo 34 = .ok (.invokevirtual 120, 3) := by decide +kernel
theorem dX0_letGo_37 : decode cX0_letGo 37 = .ok (.ladd, 1) := by decide +kernel
theorem dX0_letGo_38 : decode cX0_letGo 38 = .ok (.putfield 49, 3) := by decide +kernel
theorem dX0_letGo_41 : decode cX0_letGo 41 = .ok (.aload_n 2, 1) := by decide +kernel
theorem dX0_letGo_42 : decode cX0_letGo 42 = .ok (.iconst 0, 1) := by decide +kernel
theorem dX0_letGo_43 : decode cX0_letGo 43 = .ok (.putfield 69, 3) := by decide +kernel
theorem dX0_letGo_46 : decode cX0_letGo 46 = .ok (.aload_n 0, 1) := by decide +kernel
theorem dX0_letGo_47 : decode cX0_letGo 47 = .ok (.iload_n 1, 1) := by decide +kernel
theorem dX0_letGo_48 : decode cX0_letGo 48 = .ok (.invokevirtual 124, 3) := by decide +kernel
theorem dX0_letGo_51 : decode cX0_letGo 51 = .ok (.aload_n 0, 1) := by decide +kernel
theorem dX0_letGo_52 : decode cX0_letGo 52 = .ok (.invokevirtual 66, 3) := by decide +kernel
theorem dX0_letGo_55 : decode cX0_letGo 55 = .ok (.return_, 1) := by decide +kernel
theorem dX0_endAssignments_0 : decode cX0_endAssignments 0 = .ok (.aload_n 0, 1) := by decide +kernel
theorem dX0_endAssignments_1 : decode cX0_endAssignments 1 = .ok (.getfield 27, 3) := by decide +kernel
theorem dX0_endAssignments_4 : decode cX0_endAssignments 4 = .ok (.iload_n 1, 1) := by decide +kernel
theorem dX0_endAssignments_5 : decode cX0_endAssignments 5 = .ok (.aaload, 1) := by decide +kernel
theorem dX0_endAssignments_6 : decode cX0_endAssignments 6 = .ok (.iconst (-1), 1) := by decide +kernel
theorem dX0_endAssignments_7 : decode cX0_endAssignments 7 = .ok (.iconst 0, 1) := by decide +kernel
theorem dX0_endAssignments_8 : decode cX0_endAssignments 8 = .ok (.invokevirtual 128, 3) := by decide +kernel
theorem dX0_endAssignments_11 : decode cX0_endAssignments 11 = .ok (.iconst 0, 1) := by decide +kernel
theorem dX0_endAssignments_12 : decode cX0_endAssignments 12 = .ok (.istore_n 2, 1) := by decide +kernel
theorem dX0_endAssignments_13 : decode cX0_endAssignments 13 = .ok (.iload_n 2, 1) := by decide +kernel
theorem dX0_endAssignments_14 : decode cX0_endAssignments 14 = .ok (.aload_n 0, 1) := by decide +kernel
theorem dX0_endAssignments_15 : decode cX0_endAssignments 15 = .ok (.getfield 39, 3) := by decide +kernel
theorem dX0_endAssignments_18 : decode cX0_endAssignments 18 = .ok (.if_icmp .ge 33, 3) := by decide +kernel
theorem dX0_endAssignments_21 : decode cX0_endAssignments 21 = .ok (.aload_n 0, 1) := by decide +kernel
theorem dX0_endAssignments_22 : decode cX0_endAssignments 22 = .ok (.getfield 27, 3) := by decide +kernel
theorem dX0_endAssignments_25 : decode cX0_endAssignments 25 = .ok (.iload_n 2, 1) := by decide +kernel
theorem dX0_endAssignments_26 : decode cX0_endAssignments 26 = .ok (.aaload, 1) := by decide +kernel
theorem dX0_endAssignments_27 : decode cX0_endAssignments 27 = .ok (.getfield 110, 3) := by decide +kernel
theorem dX0_endAssignments_30 : decode cX0_endAssignments 30 = .ok (.iload_n 1, 1) := by decide +kernel
theorem dX0_endAssignments_31 : decode cX0_endAssignments 31 = .ok (.if_icmp .ne 14, 3) := by decide +kernel
theorem dX0_endAssignments_34 : decode cX0_endAssignments 34 = .ok (.aload_n 0, 1) := by decide +kernel
theorem dX0_endAssignments_35 : decode cX0_endAssignments 35 = .ok (.getfield 27, 3) := by decide +kernel
theorem dX0_endAssignments_38 : decode cX0_endAssignments 38 = .ok (.iload_n 2, 1) := by decide +kernel
theorem dX0_endAssignments_39 : decode cX0_endAssignments 39 = .ok (.aaload, 1) := by decide +kernel
theorem dX0_endAssignments_40 : decode cX0_endAssignments 40 = .ok (.iconst (-1), 1) := by decide +kernel
theorem dX0_endAssignments_41 : decode cX0_endAssignments 41 = .ok (.iconst 0, 1) := by decide +kernel
theorem dX0_endAssignments_42 : decode cX0_endAssignments 42 = .ok (.invokevirtual 128, 3) := by decide +kernel
theorem dX0_endAssignments_45 : decode cX0_endAssignments 45 = .ok (.iinc 2 1, 3) := by decide +kernel
theorem dX0_endAssignments_48 : decode cX0_endAssignments 48 = .ok (.goto (-35), 3) := by decide +kernel
theorem dX0_endAssignments_51 : decode cX0_endAssignments 51 = .ok (.return_, 1) := by decide +kernel
theorem dX0_addDays_0 : decode cX0_addDays 0 = .ok (.aload_n 0, 1) := by decide +kernel
theorem dX0_addDays_1 : decode cX0_addDays 1 = .ok (.dup, 1) := by decide +kernel
theorem dX0_addDays_2 : decode cX0_addDays 2 = .ok (.getfield 46, 3) := by decide +kernel
theorem dX0_addDays_5 : decode cX0_addDays 5 = .ok (.iload_n 1, 1) := by decide +kernel
theorem dX0_addDays_6 : decode cX0_addDays 6 = .ok (.iadd, 1) := by decide +kernel
theorem dX0_addDays_7 : decode cX0_addDays 7 = .ok (.putfield 46, 3) := by decide +kernel
theorem dX0_addDays_10 : decode cX0_addDays 10 = .ok (.iconst 0, 1) := by decide +kernel
theorem dX0_addDays_11 : decode cX0_addDays 11 = .ok (.istore_n 2, 1) := by decide +kernel
theorem dX0_addDays_12 : decode cX0_addDays 12 = .ok (.iload_n 2, 1) := by decide +kernel
theorem dX0_addDays_13 : decode cX0_addDays 13 = .ok (.aload_n 0, 1) := by decide +kernel
theorem dX0_addDays_14 : decode cX0_addDays 14 = .ok (.getfield 39, 3) := by decide +kernel
theorem dX0_addDays_17 : decode cX0_addDays 17 = .ok (.if_icmp .ge 37, 3) := by decide +kernel
theorem dX0_addDays_20 : decode cX0_addDays 20 = .ok (.aload_n 0, 1) := by decide +kernel
theorem dX0_addDays_21 : decode cX0_addDays 21 = .ok (.getfield 27, 3) := by decide +kernel
theorem dX0_addDays_24 : decode cX0_addDays 24 = .ok (.iload_n 2, 1) := by decide +kernel
theorem dX0_addDays_25 : decode cX0_addDays 25 = .ok (.aaload, 1) := by decide +kernel
theorem dX0_addDays_26 : decode cX0_addDays 26 = .ok (.getfield 132, 3) := by decide +kernel
theorem dX0_addDays_29 : decode cX0_addDays 29 = .ok (.aload_n 0, 1) := by decide +kernel
theorem dX0_addDays_30 : decode cX0_addDays 30 = .ok (.getfield 43, 3) := by decide +kernel
theorem dX0_addDays_33 : decode cX0_addDays 33 = .ok (.dup2, 1) := by decide +kernel
theorem dX0_addDays_34 : decode cX0_addDays 34 = .ok (.iaload, 1) := by decide +kernel
theorem dX0_addDays_35 : decode cX0_addDays 35 = .ok (.aload_n 0, 1) := by decide +kernel
theorem dX0_addDays_36 : decode cX0_addDays 36 = .ok (.getfield 27, 3) := by decide +kernel
theorem dX0_addDays_39 : decode cX0_addDays 39 = .ok (.iload_n 2, 1) := by decide +kernel
theorem dX0_addDays_40 : decode cX0_addDays 40 = .ok (.aaload, 1) := by decide +kernel
theorem dX0_addDays_41 : decode cX0_addDays 41 = .ok (.getfield 69, 3) := by decide +kernel
theorem dX0_addDays_44 : decode cX0_addDays 44 = .ok (.iload_n 1, 1) := by decide +kernel
theorem dX0_addDays_45 : decode cX0_addDays 45 = .ok (.imul, 1) := by decide +kernel
theorem dX0_addDays_46 : decode cX0_addDays 46 = .ok (.iadd, 1) := by decide +kernel
theorem dX0_addDays_47 : decode cX0_addDays 47 = .ok (.iastore, 1) := by decide +kernel
theorem dX0_addDays_48 : decode cX0_addDays 48 = .ok (.iinc 2 1, 3) := by decide +kernel
theorem dX0_addDays_51 : decode cX0_addDays 51 = .ok (.goto (-39), 3) := by decide +kernel
theorem dX0_addDays_54 : decode cX0_addDays 54 = .ok (.return_, 1) := by decide +kernel
theorem dX0_operatorShareDays_0 : decode cX0_operatorShareDays 0 = .ok (.iload_n 1, 1) := by decide +kernel
theorem dX0_operatorShareDays_1 : decode cX0_operatorShareDays 1 = .ok (.aload_n 0, 1) := by decide +kernel
theorem dX0_operatorShareDays_2 : decode cX0_operatorShareDays 2 = .ok (.getfield 43, 3) := by decide +kernel
theorem dX0_operatorShareDays_5 : decode cX0_operatorShareDays 5 = .ok (.if_icmp .ne 10, 3) := by decide +kernel
theorem dX0_operatorShareDays_8 : decode cX0_operatorShareDays 8 = .ok (.aload_n 0, 1) := by decide +kernel
theorem dX0_operatorShareDays_9 : decode cX0_operatorShareDays 9 = .ok (.getfield 46, 3) := by decide +kernel
theorem dX0_operatorShareDays_12 : decode cX0_operatorShareDays 12 = .ok (.goto 5, 3) := by decide +kernel
theorem dX0_operatorShareDays_15 : decode cX0_operatorShareDays 15 = .ok (.bipush 30, 2) := by decide +kernel
theorem dX0_operatorShareDays_17 : decode cX0_operatorShareDays 17 = .ok (.istore_n 2, 1) := by decide +kernel
theorem dX0_operatorShareDays_18 : decode cX0_operatorShareDays 18 = .ok (.iload_n 2, 1) := by decide +kernel
theorem dX0_operatorShareDays_19 : decode cX0_operatorShareDays 19 = .ok (.aload_n 0, 1) := by decide +kernel
theorem dX0_operatorShareDays_20 : decode cX0_operatorShareDays 20 = .ok (.getfield 12, 3) := by decide +kernel
theorem dX0_operatorShareDays_23 : decode cX0_operatorShareDays 23 = .ok (.getfield 72, 3) := by decide +kernel
theorem dX0_operatorShareDays_26 : decode cX0_operatorShareDays 26 = .ok (.imul, 1) := by decide +kernel
theorem dX0_operatorShareDays_27 : decode cX0_operatorShareDays 27 = .ok (.istore_n 3, 1) := by decide +kernel
theorem dX0_operatorShareDays_28 : decode cX0_operatorShareDays 28 = .ok (.iconst 0, 1) := by decide +kernel
theorem dX0_operatorShareDays_29 : decode cX0_operatorShareDays 29 = .ok (.istore 4, 2) := by decide +kernel
theorem dX0_operatorShareDays_31 : decode cX0_operatorShareDays 31 = .ok (.iload 4, 2) := by decide +kernel
theorem dX0_operatorShareDays_33 : decode cX0_operatorShareDays 33 = .ok (.aload_n 0, 1) := by decide +kernel
theorem dX0_operatorShareDays_34 : decode cX0_operatorShareDays 34 = .ok (.getfield 39, 3) := by decide +kernel
theorem dX0_operatorShareDays_37 : decode cX0_operatorShareDays 37 = .ok (.if_icmp .ge 24, 3) := by decide +kernel
theorem dX0_operatorShareDays_40 : decode cX0_operatorShareDays 40 = .ok (.iload_n 3, 1) := by decide +kernel
theorem dX0_operatorShareDays_41 : decode cX0_operatorShareDays 41 = .ok (.aload_n 0, 1) := by decide +kernel
theorem dX0_operatorShareDays_42 : decode cX0_operatorShareDays 42 = .ok (.getfield 27, 3) := by decide +kernel
theorem dX0_operatorShareDays_45 : decode cX0_operatorShareDays 45 = .ok (.iload 4, 2) := by decide +kernel
theorem dX0_operatorShareDays_47 : decode cX0_operatorShareDays 47 = .ok (.aaload, 1) := by decide +kernel
theorem dX0_operatorShareDays_48 : decode cX0_operatorShareDays 48 = .ok (.getfield 132, 3) := by decide +kernel
theorem dX0_operatorShareDays_51 : decode cX0_operatorShareDays 51 = .ok (.iload_n 1, 1) := by decide +kernel
theorem dX0_operatorShareDays_52 : decode cX0_operatorShareDays 52 = .ok (.iaload, 1) := by decide +kernel
theorem dX0_operatorShareDays_53 : decode cX0_operatorShareDays 53 = .ok (.isub, 1) := by decide +kernel
theorem dX0_operatorShareDays_54 : decode cX0_operatorShareDays 54 = .ok (.istore_n 3, 1) := by decide +kernel
theorem dX0_operatorShareDays_55 : decode cX0_operatorShareDays 55 = .ok (.iinc 4 1, 3) := by decide +kernel
theorem dX0_operatorShareDays_58 : decode cX0_operatorShareDays 58 = .ok (.goto (-27), 3) := by decide +kernel
theorem dX0_operatorShareDays_61 : decode cX0_operatorShareDays 61 = .ok (.iload_n 3, 1) := by decide +kernel
theorem dX0_operatorShareDays_62 : decode cX0_operatorShareDays 62 = .ok (.ireturn, 1) := by decide +kernel
theorem dX0_valueOfMonth_0 : decode cX0_valueOfMonth 0 = .ok (.aload_n 0, 1) := by decide +kernel
theorem dX0_valueOfMonth_1 : decode cX0_valueOfMonth 1 = .ok (.getfield 21, 3) := by decide +kernel
theorem dX0_valueOfMonth_4 : decode cX0_valueOfMonth 4 = .ok (.iload_n 1, 1) := by decide +kernel
theorem dX0_valueOfMonth_5 : decode cX0_valueOfMonth 5 = .ok (.aload_n 0, 1) := by decide +kernel
theorem dX0_valueOfMonth_6 : decode cX0_valueOfMonth 6 = .ok (.getfield 12, 3) := by decide +kernel
theorem dX0_valueOfMonth_9 : decode cX0_valueOfMonth 9 = .ok (.invokevirtual 136, 3) := by decide +kernel
theorem dX0_valueOfMonth_12 : decode cX0_valueOfMonth 12 = .ok (.lreturn, 1) := by decide +kernel
theorem dX0_closeMonth_0 : decode cX0_closeMonth 0 = .ok (.aload_n 0, 1) := by decide +kernel
theorem dX0_closeMonth_1 : decode cX0_closeMonth 1 = .ok (.dup, 1) := by decide +kernel
theorem dX0_closeMonth_2 : decode cX0_closeMonth 2 = .ok (.getfield 53, 3) := by decide +kernel
theorem dX0_closeMonth_5 : decode cX0_closeMonth 5 = .ok (.aload_n 1, 1) := by decide +kernel
theorem dX0_closeMonth_6 : decode cX0_closeMonth 6 = .ok (.bipush 16, 2) := by decide +kernel
theorem dX0_closeMonth_8 : decode cX0_closeMonth 8 = .ok (.laload, 1) := by decide +kernel
theorem dX0_closeMonth_9 : decode cX0_closeMonth 9 = .ok (.ladd, 1) := by decide +kernel
theorem dX0_closeMonth_10 : decode cX0_closeMonth 10 = .ok (.putfield 53, 3) := by decide +kernel
theorem dX0_closeMonth_13 : decode cX0_closeMonth 13 = .ok (.iconst 0, 1) := by decide +kernel
theorem dX0_closeMonth_14 : decode cX0_closeMonth 14 = .ok (.istore_n 3, 1) := by decide +kernel
theorem dX0_closeMonth_15 : decode cX0_closeMonth 15 = .ok (.iload_n 3, 1) := by decide +kernel
theorem dX0_closeMonth_16 : decode cX0_closeMonth 16 = .ok (.aload_n 0, 1) := by decide +kernel
theorem dX0_closeMonth_17 : decode cX0_closeMonth 17 = .ok (.getfield 39, 3) := by decide +kernel
theorem dX0_closeMonth_20 : decode cX0_closeMonth 20 = .ok (.if_icmp .ge 68, 3) := by decide +kernel
theorem dX0_closeMonth_23 : decode cX0_closeMonth 23 = .ok (.aload_n 0, 1) := by decide +kernel
theorem dX0_closeMonth_24 : decode cX0_closeMonth 24 = .ok (.getfield 27, 3) := by decide +kernel
theorem dX0_closeMonth_27 : decode cX0_closeMonth 27 = .ok (.iload_n 3, 1) := by decide +kernel
theorem dX0_closeMonth_28 : decode cX0_closeMonth 28 = .ok (.aaload, 1) := by decide +kernel
theorem dX0_closeMonth_29 : decode cX0_closeMonth 29 = .ok (.astore 4, 2) := by decide +kernel
theorem dX0_closeMonth_31 : decode cX0_closeMonth 31 = .ok (.aload 4, 2) := by decide +kernel
theorem dX0_closeMonth_33 : decode cX0_closeMonth 33 = .ok (.invokevirtual 113, 3) := by decide +kernel
theorem dX0_closeMonth_36 : decode cX0_closeMonth 36 = .ok (.ifCond .eq 34, 3) := by decide +kernel
theorem dX0_closeMonth_39 : decode cX0_closeMonth 39 = .ok (.aload_n 0, 1) := by decide +kernel
theorem dX0_closeMonth_40 : decode cX0_closeMonth 40 = .ok (.dup, 1) := by decide +kernel
theorem dX0_closeMonth_41 : decode cX0_closeMonth 41 = .ok (.getfield 49, 3) := by decide +kernel
theorem dX0_closeMonth_44 : decode cX0_closeMonth 44 = .ok (.aload 4, 2) := by decide +kernel
theorem dX0_closeMonth_46 : decode cX0_closeMonth 46 = .ok (.aload_n 2, 1) := by decide +kernel
theorem dX0_closeMonth_47 : decode cX0_closeMonth 47 = .ok (.iload_n 3, 1) := by decide +kernel
theorem dX0_closeMonth_48 : decode cX0_closeMonth 48 = .ok (.laload, 1) := by decide +kernel
theorem dX0_closeMonth_49 : decode cX0_closeMonth 49 = .ok (.aload_n 0, 1) := by decide +kernel
theorem dX0_closeMonth_50 : decode cX0_closeMonth 50 = .ok (.getfield 43, 3) := by decide +kernel
theorem dX0_closeMonth_53 : decode cX0_closeMonth 53 = .ok (.aload_n 0, 1) := by decide +kernel
theorem dX0_closeMonth_54 : decode cX0_closeMonth 54 = .ok (.getfield 12, 3) := by decide +kernel
theorem dX0_closeMonth_57 : decode cX0_closeMonth 57 = .ok (.getfield 140, 3) := by decide +kernel
theorem dX0_closeMonth_60 : decode cX0_closeMonth 60 = .ok (.invokevirtual 143, 3) := by decide +kernel
theorem dX0_closeMonth_63 : decode cX0_closeMonth 63 = .ok (.ladd, 1) := by decide +kernel
theorem dX0_closeMonth_64 : decode cX0_closeMonth 64 = .ok (.putfield 49, 3) := by decide +kernel
theorem dX0_closeMonth_67 : decode cX0_closeMonth 67 = .ok (.goto 15, 3) := by decide +kernel
theorem dX0_closeMonth_70 : decode cX0_closeMonth 70 = .ok (.aload_n 0, 1) := by decide +kernel
theorem dX0_closeMonth_71 : decode cX0_closeMonth 71 = .ok (.dup, 1) := by decide +kernel
theorem dX0_closeMonth_72 : decode cX0_closeMonth 72 = .ok (.getfield 49, 3) := by decide +kernel
theorem dX0_closeMonth_75 : decode cX0_closeMonth 75 = .ok (.aload_n 1, 1) := by decide +kernel
theorem dX0_closeMonth_76 : decode cX0_closeMonth 76 = .ok (.iload_n 3, 1) := by decide +kernel
theorem dX0_closeMonth_77 : decode cX0_closeMonth 77 = .ok (.laload, 1) := by decide +kernel
theorem dX0_closeMonth_78 : decode cX0_closeMonth 78 = .ok (.ladd, 1) := by decide +kernel
theorem dX0_closeMonth_79 : decode cX0_closeMonth 79 = .ok (.putfield 49, 3) := by decide +kernel
theorem dX0_closeMonth_82 : decode cX0_closeMonth 82 = .ok (.iinc 3 1, 3) := by decide +kernel
theorem dX0_closeMonth_85 : decode cX0_closeMonth 85 = .ok (.goto (-70), 3) := by decide +kernel
theorem dX0_closeMonth_88 : decode cX0_closeMonth 88 = .ok (.aload_n 0, 1) := by decide +kernel
theorem dX0_closeMonth_89 : decode cX0_closeMonth 89 = .ok (.dup, 1) := by decide +kernel
theorem dX0_closeMonth_90 : decode cX0_closeMonth 90 = .ok (.getfield 43, 3) := by decide +kernel
theorem dX0_closeMonth_93 : decode cX0_closeMonth 93 = .ok (.iconst 1, 1) := by decide +kernel
theorem dX0_closeMonth_94 : decode cX0_closeMonth 94 = .ok (.iadd, 1) := by decide +kernel
theorem dX0_closeMonth_95 : decode cX0_closeMonth 95 = .ok (.putfield 43, 3) := by decide +kernel
theorem dX0_closeMonth_98 : decode cX0_closeMonth 98 = .ok (.aload_n 0, 1) := by decide +kernel
theorem dX0_closeMonth_99 : decode cX0_closeMonth 99 = .ok (.iconst 0, 1) := by decide +kernel
theorem dX0_closeMonth_100 : decode cX0_closeMonth 100 = .ok (.putfield 46, 3) := by decide +kernel
theorem dX0_closeMonth_103 : decode cX0_closeMonth 103 = .ok (.return_, 1) := by decide +kernel
theorem dX0_settleTrueUp_0 : decode cX0_settleTrueUp 0 = .ok (.iload_n 2, 1) := by decide +kernel
theorem dX0_settleTrueUp_1 : decode cX0_settleTrueUp 1 = .ok (.ifCond .eq 9, 3) := by decide +kernel
theorem dX0_settleTrueUp_4 : decode cX0_settleTrueUp 4 = .ok (.aload_n 0, 1) := by decide +kernel
theorem dX0_settleTrueUp_5 : decode cX0_settleTrueUp 5 = .ok (.aload_n 1, 1) := by decide +kernel
theorem dX0_settleTrueUp_6 : decode cX0_settleTrueUp 6 = .ok (.invokevirtual 147, 3) := by decide +kernel
theorem dX0_settleTrueUp_9 : decode cX0_settleTrueUp 9 = .ok (.return_, 1) := by decide +kernel
theorem dX0_settleTrueUp_10 : decode cX0_settleTrueUp 10 = .ok (.aload_n 0, 1) := by decide +kernel
theorem dX0_settleTrueUp_11 : decode cX0_settleTrueUp 11 = .ok (.dup, 1) := by decide +kernel
theorem dX0_settleTrueUp_12 : decode cX0_settleTrueUp 12 = .ok (.getfield 53, 3) := by decide +kernel
theorem dX0_settleTrueUp_15 : decode cX0_settleTrueUp 15 = .ok (.aload_n 1, 1) := by decide +kernel
theorem dX0_settleTrueUp_16 : decode cX0_settleTrueUp 16 = .ok (.bipush 16, 2) := by decide +kernel
theorem dX0_settleTrueUp_18 : decode cX0_settleTrueUp 18 = .ok (.laload, 1) := by decide +kernel
theorem dX0_settleTrueUp_19 : decode cX0_settleTrueUp 19 = .ok (.lsub, 1) := by decide +kernel
theorem dX0_settleTrueUp_20 : decode cX0_settleTrueUp 20 = .ok (.putfield 53, 3) := by decide +kernel
theorem dX0_settleTrueUp_23 : decode cX0_settleTrueUp 23 = .ok (.iconst 0, 1) := by decide +kernel
theorem dX0_settleTrueUp_24 : decode cX0_settleTrueUp 24 = .ok (.istore_n 3, 1) := by decide +kernel
theorem dX0_settleTrueUp_25 : decode cX0_settleTrueUp 25 = .ok (.iload_n 3, 1) := by decide +kernel
theorem dX0_settleTrueUp_26 : decode cX0_settleTrueUp 26 = .ok (.aload_n 0, 1) := by decide +kernel
theorem dX0_settleTrueUp_27 : decode cX0_settleTrueUp 27 = .ok (.getfield 39, 3) := by decide +kernel
theorem dX0_settleTrueUp_30 : decode cX0_settleTrueUp 30 = .ok (.if_icmp .ge 48, 3) := by decide +kernel
theorem dX0_settleTrueUp_33 : decode cX0_settleTrueUp 33 = .ok (.aload_n 0, 1) := by decide +kernel
theorem dX0_settleTrueUp_34 : decode cX0_settleTrueUp 34 = .ok (.getfield 27, 3) := by decide +kernel
theorem dX0_settleTrueUp_37 : decode cX0_settleTrueUp 37 = .ok (.iload_n 3, 1) := by decide +kernel
theorem dX0_settleTrueUp_38 : decode cX0_settleTrueUp 38 = .ok (.aaload, 1) := by decide +kernel
theorem dX0_settleTrueUp_39 : decode cX0_settleTrueUp 39 = .ok (.invokevirtual 113, 3) := by decide +kernel
theorem dX0_settleTrueUp_42 : decode cX0_settleTrueUp 42 = .ok (.ifCond .eq 18, 3) := by decide +kernel
theorem dX0_settleTrueUp_45 : decode cX0_settleTrueUp 45 = .ok (.aload_n 0, 1) := by decide +kernel
theorem dX0_settleTrueUp_46 : decode cX0_settleTrueUp 46 = .ok (.getfield 27, 3) := by decide +kernel
theorem dX0_settleTrueUp_49 : decode cX0_settleTrueUp 49 = .ok (.iload_n 3, 1) := by decide +kernel
theorem dX0_settleTrueUp_50 : decode cX0_settleTrueUp 50 = .ok (.aaload, 1) := by decide +kernel
theorem dX0_settleTrueUp_51 : decode cX0_settleTrueUp 51 = .ok (.aload_n 1, 1) := by decide +kernel
theorem dX0_settleTrueUp_52 : decode cX0_settleTrueUp 52 = .ok (.iload_n 3, 1) := by decide +kernel
theorem dX0_settleTrueUp_53 : decode cX0_settleTrueUp 53 = .ok (.laload, 1) := by decide +kernel
theorem dX0_settleTrueUp_54 : decode cX0_settleTrueUp 54 = .ok (.invokevirtual 151, 3) := by decide +kernel
theorem dX0_settleTrueUp_57 : decode cX0_settleTrueUp 57 = .ok (.goto 15, 3) := by decide +kernel
theorem dX0_settleTrueUp_60 : decode cX0_settleTrueUp 60 = .ok (.aload_n 0, 1) := by decide +kernel
theorem dX0_settleTrueUp_61 : decode cX0_settleTrueUp 61 = .ok (.dup, 1) := by decide +kernel
theorem dX0_settleTrueUp_62 : decode cX0_settleTrueUp 62 = .ok (.getfield 49, 3) := by decide +kernel
theorem dX0_settleTrueUp_65 : decode cX0_settleTrueUp 65 = .ok (.aload_n 1, 1) := by decide +kernel
theorem dX0_settleTrueUp_66 : decode cX0_settleTrueUp 66 = .ok (.iload_n 3, 1) := by decide +kernel
theorem dX0_settleTrueUp_67 : decode cX0_settleTrueUp 67 = .ok (.laload, 1) := by decide +kernel
theorem dX0_settleTrueUp_68 : decode cX0_settleTrueUp 68 = .ok (.lsub, 1) := by decide +kernel
theorem dX0_settleTrueUp_69 : decode cX0_settleTrueUp 69 = .ok (.putfield 49, 3) := by decide +kernel
theorem dX0_settleTrueUp_72 : decode cX0_settleTrueUp 72 = .ok (.iinc 3 1, 3) := by decide +kernel
theorem dX0_settleTrueUp_75 : decode cX0_settleTrueUp 75 = .ok (.goto (-50), 3) := by decide +kernel
theorem dX0_settleTrueUp_78 : decode cX0_settleTrueUp 78 = .ok (.return_, 1) := by decide +kernel
theorem dX0_creditParts_0 : decode cX0_creditParts 0 = .ok (.aload_n 0, 1) := by decide +kernel
theorem dX0_creditParts_1 : decode cX0_creditParts 1 = .ok (.dup, 1) := by decide +kernel
theorem dX0_creditParts_2 : decode cX0_creditParts 2 = .ok (.getfield 53, 3) := by decide +kernel
theorem dX0_creditParts_5 : decode cX0_creditParts 5 = .ok (.aload_n 1, 1) := by decide +kernel
theorem dX0_creditParts_6 : decode cX0_creditParts 6 = .ok (.bipush 16, 2) := by decide +kernel
theorem dX0_creditParts_8 : decode cX0_creditParts 8 = .ok (.laload, 1) := by decide +kernel
theorem dX0_creditParts_9 : decode cX0_creditParts 9 = .ok (.ladd, 1) := by decide +kernel
theorem dX0_creditParts_10 : decode cX0_creditParts 10 = .ok (.putfield 53, 3) := by decide +kernel
theorem dX0_creditParts_13 : decode cX0_creditParts 13 = .ok (.iconst 0, 1) := by decide +kernel
theorem dX0_creditParts_14 : decode cX0_creditParts 14 = .ok (.istore_n 2, 1) := by decide +kernel
theorem dX0_creditParts_15 : decode cX0_creditParts 15 = .ok (.iload_n 2, 1) := by decide +kernel
theorem dX0_creditParts_16 : decode cX0_creditParts 16 = .ok (.aload_n 0, 1) := by decide +kernel
theorem dX0_creditParts_17 : decode cX0_creditParts 17 = .ok (.getfield 39, 3) := by decide +kernel
theorem dX0_creditParts_20 : decode cX0_creditParts 20 = .ok (.if_icmp .ge 52, 3) := by decide +kernel
theorem dX0_creditParts_23 : decode cX0_creditParts 23 = .ok (.aload_n 0, 1) := by decide +kernel
theorem dX0_creditParts_24 : decode cX0_creditParts 24 = .ok (.getfield 27, 3) := by decide +kernel
theorem dX0_creditParts_27 : decode cX0_creditParts 27 = .ok (.iload_n 2, 1) := by decide +kernel
theorem dX0_creditParts_28 : decode cX0_creditParts 28 = .ok (.aaload, 1) := by decide +kernel
theorem dX0_creditParts_29 : decode cX0_creditParts 29 = .ok (.invokevirtual 113, 3) := by decide +kernel
theorem dX0_creditParts_32 : decode cX0_creditParts 32 = .ok (.ifCond .eq 22, 3) := by decide +kernel
theorem dX0_creditParts_35 : decode cX0_creditParts 35 = .ok (.aload_n 0, 1) := by decide +kernel
theorem dX0_creditParts_36 : decode cX0_creditParts 36 = .ok (.getfield 27, 3) := by decide +kernel
theorem dX0_creditParts_39 : decode cX0_creditParts 39 = .ok (.iload_n 2, 1) := by decide +kernel
theorem dX0_creditParts_40 : decode cX0_creditParts 40 = .ok (.aaload, 1) := by decide +kernel
theorem dX0_creditParts_41 : decode cX0_creditParts 41 = .ok (.aload_n 1, 1) := by decide +kernel
theorem dX0_creditParts_42 : decode cX0_creditParts 42 = .ok (.iload_n 2, 1) := by decide +kernel
theorem dX0_creditParts_43 : decode cX0_creditParts 43 = .ok (.laload, 1) := by decide +kernel
theorem dX0_creditParts_44 : decode cX0_creditParts 44 = .ok (.aload_n 0, 1) := by decide +kernel
theorem dX0_creditParts_45 : decode cX0_creditParts 45 = .ok (.getfield 43, 3) := by decide +kernel
theorem dX0_creditParts_48 : decode cX0_creditParts 48 = .ok (.invokevirtual 155, 3) := by decide +kernel
theorem dX0_creditParts_51 : decode cX0_creditParts 51 = .ok (.goto 15, 3) := by decide +kernel
theorem dX0_creditParts_54 : decode cX0_creditParts 54 = .ok (.aload_n 0, 1) := by decide +kernel
theorem dX0_creditParts_55 : decode cX0_creditParts 55 = .ok (.dup, 1) := by decide +kernel
theorem dX0_creditParts_56 : decode cX0_creditParts 56 = .ok (.getfield 49, 3) := by decide +kernel
theorem dX0_creditParts_59 : decode cX0_creditParts 59 = .ok (.aload_n 1, 1) := by decide +kernel
theorem dX0_creditParts_60 : decode cX0_creditParts 60 = .ok (.iload_n 2, 1) := by decide +kernel
theorem dX0_creditParts_61 : decode cX0_creditParts 61 = .ok (.laload, 1) := by decide +kernel
theorem dX0_creditParts_62 : decode cX0_creditParts 62 = .ok (.ladd, 1) := by decide +kernel
theorem dX0_creditParts_63 : decode cX0_creditParts 63 = .ok (.putfield 49, 3) := by decide +kernel
theorem dX0_creditParts_66 : decode cX0_creditParts 66 = .ok (.iinc 2 1, 3) := by decide +kernel
theorem dX0_creditParts_69 : decode cX0_creditParts 69 = .ok (.goto (-54), 3) := by decide +kernel
theorem dX0_creditParts_72 : decode cX0_creditParts 72 = .ok (.return_, 1) := by decide +kernel
theorem dX1_init_0 : decode cX1_init 0 = .ok (.aload_n 0, 1) := by decide +kernel
theorem dX1_init_1 : decode cX1_init 1 = .ok (.invokespecial 3, 3) := by decide +kernel
theorem dX1_init_4 : decode cX1_init 4 = .ok (.aload_n 0, 1) := by decide +kernel
theorem dX1_init_5 : decode cX1_init 5 = .ok (.bipush 16, 2) := by decide +kernel
theorem dX1_init_7 : decode cX1_init 7 = .ok (.newarray .int, 2) := by decide +kernel
theorem dX1_init_9 : decode cX1_init 9 = .ok (.putfield 9, 3) := by decide +kernel
theorem dX1_init_12 : decode cX1_init 12 = .ok (.aload_n 0, 1) := by decide +kernel
theorem dX1_init_13 : decode cX1_init 13 = .ok (.bipush 16, 2) := by decide +kernel
theorem dX1_init_15 : decode cX1_init 15 = .ok (.newarray .long, 2) := by decide +kernel
theorem dX1_init_17 : decode cX1_init 17 = .ok (.putfield 15, 3) := by decide +kernel
theorem dX1_init_20 : decode cX1_init 20 = .ok (.return_, 1) := by decide +kernel
theorem dX1_passOn_0 : decode cX1_passOn 0 = .ok (.aload_n 0, 1) := by decide +kernel
theorem dX1_passOn_1 : decode cX1_passOn 1 = .ok (.getfield 9, 3) := by decide +kernel
theorem dX1_passOn_4 : decode cX1_passOn 4 = .ok (.iconst 0, 1) := by decide +kernel
theorem dX1_passOn_5 : decode cX1_passOn 5 = .ok (.invokestatic 19, 3) := by decide +kernel
theorem dX1_passOn_8 : decode cX1_passOn 8 = .ok (.iconst 0, 1) := by decide +kernel
theorem dX1_passOn_9 : decode cX1_passOn 9 = .ok (.istore_n 3, 1) := by decide +kernel
theorem dX1_passOn_10 : decode cX1_passOn 10 = .ok (.iload_n 3, 1) := by decide +kernel
theorem dX1_passOn_11 : decode cX1_passOn 11 = .ok (.aload_n 1, 1) := by decide +kernel
theorem dX1_passOn_12 : decode cX1_passOn 12 = .ok (.getfield 25, 3) := by decide +kernel
theorem dX1_passOn_15 : decode cX1_passOn 15 = .ok (.if_icmp .ge 61, 3) := by decide +kernel
theorem dX1_passOn_18 : decode cX1_passOn 18 = .ok (.aload_n 1, 1) := by decide +kernel
theorem dX1_passOn_19 : decode cX1_passOn 19 = .ok (.getfield 31, 3) := by decide +kernel
theorem dX1_passOn_22 : decode cX1_passOn 22 = .ok (.iload_n 3, 1) := by decide +kernel
theorem dX1_passOn_23 : decode cX1_passOn 23 = .ok (.aaload, 1) := by decide +kernel
theorem dX1_passOn_24 : decode cX1_passOn 24 = .ok (.astore 4, 2) := by decide +kernel
theorem dX1_passOn_26 : decode cX1_passOn 26 = .ok (.aload_n 0, 1) := by decide +kernel
theorem dX1_passOn_27 : decode cX1_passOn 27 = .ok (.getfield 15, 3) := by decide +kernel
theorem dX1_passOn_30 : decode cX1_passOn 30 = .ok (.iload_n 3, 1) := by decide +kernel
theorem dX1_passOn_31 : decode cX1_passOn 31 = .ok (.aload 4, 2) := by decide +kernel
theorem dX1_passOn_33 : decode cX1_passOn 33 = .ok (.invokevirtual 35, 3) := by decide +kernel
theorem dX1_passOn_36 : decode cX1_passOn 36 = .ok (.ifCond .eq 9, 3) := by decide +kernel
theorem dX1_passOn_39 : decode cX1_passOn 39 = .ok (.aload_n 2, 1) := by decide +kernel
theorem dX1_passOn_40 : decode cX1_passOn 40 = .ok (.iload_n 3, 1) := by decide +kernel
theorem dX1_passOn_41 : decode cX1_passOn 41 = .ok (.laload, 1) := by decide +kernel
theorem dX1_passOn_42 : decode cX1_passOn 42 = .ok (.goto 4, 3) := by decide +kernel
theorem dX1_passOn_45 : decode cX1_passOn 45 = .ok (.lconst 0, 1) := by decide +kernel
theorem dX1_passOn_46 : decode cX1_passOn 46 = .ok (.lastore, 1) := by decide +kernel
theorem dX1_passOn_47 : decode cX1_passOn 47 = .ok (.aload_n 1, 1) := by decide +kernel
theorem dX1_passOn_48 : decode cX1_passOn 48 = .ok (.aload 4, 2) := by decide +kernel
theorem dX1_passOn_50 : decode cX1_passOn 50 = .ok (.invokestatic 41, 3) := by decide +kernel
theorem dX1_passOn_53 : decode cX1_passOn 53 = .ok (.ifCond .eq 17, 3) := by decide +kernel
theorem dX1_passOn_56 : decode cX1_passOn 56 = .ok (.aload_n 0, 1) := by decide +kernel
theorem dX1_passOn_57 : decode cX1_passOn 57 = .ok (.getfield 9, 3) := by decide +kernel
theorem dX1_passOn_60 : decode cX1_passOn 60 = .ok (.aload 4, 2) := by decide +kernel
theorem dX1_passOn_62 : decode cX1_passOn 62 = .ok (.getfield 45, 3) := by decide +kernel
theorem dX1_passOn_65 : decode cX1_passOn 65 = .ok (.dup2, 1) := by decide +kernel
theorem dX1_passOn_66 : decode cX1_passOn 66 = .ok (.iaload, 1) := by decide +kernel
theorem dX1_passOn_67 : decode cX1_passOn 67 = .ok (.iconst 1, 1) := by decide +kernel
theorem dX1_passOn_68 : decode cX1_passOn 68 = .ok (.iadd, 1) := by decide +kernel
theorem dX1_passOn_69 : decode cX1_passOn 69 = .ok (.iastore, 1) := by decide +kernel
theorem dX1_passOn_70 : decode cX1_passOn 70 = .ok (.iinc 3 1, 3) := by decide +kernel
theorem dX1_passOn_73 : decode cX1_passOn 73 = .ok (.goto (-63), 3) := by decide +kernel
theorem dX1_passOn_76 : decode cX1_passOn 76 = .ok (.iconst 0, 1) := by decide +kernel
theorem dX1_passOn_77 : decode cX1_passOn 77 = .ok (.istore_n 3, 1) := by decide +kernel
theorem dX1_passOn_78 : decode cX1_passOn 78 = .ok (.iload_n 3, 1) := by decide +kernel
theorem dX1_passOn_79 : decode cX1_passOn 79 = .ok (.aload_n 1, 1) := by decide +kernel
theorem dX1_passOn_80 : decode cX1_passOn 80 = .ok (.getfield 25, 3) := by decide +kernel
theorem dX1_passOn_83 : decode cX1_passOn 83 = .ok (.if_icmp .ge 14, 3) := by decide +kernel
theorem dX1_passOn_86 : decode cX1_passOn 86 = .ok (.aload_n 0, 1) := by decide +kernel
theorem dX1_passOn_87 : decode cX1_passOn 87 = .ok (.aload_n 1, 1) := by decide +kernel
theorem dX1_passOn_88 : decode cX1_passOn 88 = .ok (.invokevirtual 48, 3) := by decide +kernel
theorem dX1_passOn_91 : decode cX1_passOn 91 = .ok (.iinc 3 1, 3) := by decide +kernel
theorem dX1_passOn_94 : decode cX1_passOn 94 = .ok (.goto (-16), 3) := by decide +kernel
theorem dX1_passOn_97 : decode cX1_passOn 97 = .ok (.return_, 1) := by decide +kernel
theorem dX1_passOnSettled_0 : decode cX1_passOnSettled 0 = .ok (.iconst 0, 1) := by decide +kernel
theorem dX1_passOnSettled_1 : decode cX1_passOnSettled 1 = .ok (.istore_n 2, 1) := by decide +kernel
theorem dX1_passOnSettled_2 : decode cX1_passOnSettled 2 = .ok (.iload_n 2, 1) := by decide +kernel
theorem dX1_passOnSettled_3 : decode cX1_passOnSettled 3 = .ok (.aload_n 1, 1) := by decide +kernel
theorem dX1_passOnSettled_4 : decode cX1_passOnSettled 4 = .ok (.getfield 25, 3) := by decide +kernel
theorem dX1_passOnSettled_7 : decode cX1_passOnSettled 7 = .ok (.if_icmp .ge 31, 3) := by decide +kernel
theorem dX1_passOnSettled_10 : decode cX1_passOnSettled 10 = .ok (.aload_n 0, 1) := by decide +kernel
theorem dX1_passOnSettled_11 : decode cX1_passOnSettled 11 = .ok (.getfield 9, 3) := by decide +kernel
theorem dX1_passOnSettled_14 : decode cX1_passOnSettled 14 = .ok (.iload_n 2, 1) := by decide +kernel
theorem dX1_passOnSettled_15 : decode cX1_passOnSettled 15 = .ok (.iaload, 1) := by decide +kernel
theorem dX1_passOnSettled_16 : decode cX1_passOnSettled 16 = .ok (.ifCond .ne 16, 3) := by decide +kernel
theorem dX1_passOnSettled_19 : decode cX1_passOnSettled 19 = .ok (.aload_n 0, 1) := by decide +kernel
theorem dX1_passOnSettled_20 : decode cX1_passOnSettled 20 = .ok (.getfield 9, 3) := by decide +kernel
theorem dX1_passOnSettled_23 : decode cX1_passOnSettled 23 = .ok (.iload_n 2, 1) := by decide +kernel
theorem dX1_passOnSettled_24 : decode cX1_passOnSettled 24 = .ok (.iconst (-1), 1) := by decide +kernel
theorem dX1_passOnSettled_25 : decode cX1_passOnSettled 25 = .ok (.iastore, 1) := by decide +kernel
theorem dX1_passOnSettled_26 : decode cX1_passOnSettled 26 = .ok (.aload_n 0, 1) := by decide +kernel
theorem dX1_passOnSettled_27 : decode cX1_passOnSettled 27 = .ok (.aload_n 1, 1) := by decide +kernel
theorem dX1_passOnSettled_28 : decode cX1_passOnSettled 28 = .ok (.iload_n 2, 1) := by decide +kernel
theorem dX1_passOnSettled_29 : decode cX1_passOnSettled 29 = .ok (.invokevirtual 52, 3) := by decide +kernel
theorem dX1_passOnSettled_32 : decode cX1_passOnSettled 32 = .ok (.iinc 2 1, 3) := by decide +kernel
theorem dX1_passOnSettled_35 : decode cX1_passOnSettled 35 = .ok (.goto (-33), 3) := by decide +kernel
theorem dX1_passOnSettled_38 : decode cX1_passOnSettled 38 = .ok (.return_, 1) := by decide +kernel
theorem dX1_passOnFrom_0 : decode cX1_passOnFrom 0 = .ok (.aload_n 1, 1) := by decide +kernel
theorem dX1_passOnFrom_1 : decode cX1_passOnFrom 1 = .ok (.getfield 31, 3) := by decide +kernel
theorem dX1_passOnFrom_4 : decode cX1_passOnFrom 4 = .ok (.iload_n 2, 1) := by decide +kernel
theorem dX1_passOnFrom_5 : decode cX1_passOnFrom 5 = .ok (.aaload, 1) := by decide +kernel
theorem dX1_passOnFrom_6 : decode cX1_passOnFrom 6 = .ok (.astore_n 3, 1) := by decide +kernel
theorem dX1_passOnFrom_7 : decode cX1_passOnFrom 7 = .ok (.aload_n 1, 1) := by decide +kernel
theorem dX1_passOnFrom_8 : decode cX1_passOnFrom 8 = .ok (.aload_n 3, 1) := by decide +kernel
theorem dX1_passOnFrom_9 : decode cX1_passOnFrom 9 = .ok (.invokestatic 41, 3) := by decide +kernel
theorem dX1_passOnFrom_12 : decode cX1_passOnFrom 12 = .ok (.ifCond .eq 59, 3) := by decide +kernel
theorem dX1_passOnFrom_15 : decode cX1_passOnFrom 15 = .ok (.aload_n 0, 1) := by decide +kernel
theorem dX1_passOnFrom_16 : decode cX1_passOnFrom 16 = .ok (.getfield 15, 3) := by decide +kernel
theorem dX1_passOnFrom_19 : decode cX1_passOnFrom 19 = .ok (.iload_n 2, 1) := by decide +kernel
theorem dX1_passOnFrom_20 : decode cX1_passOnFrom 20 = .ok (.laload, 1) := by decide +kernel
theorem dX1_passOnFrom_21 : decode cX1_passOnFrom 21 = .ok (.aload_n 3, 1) := by decide +kernel
theorem dX1_passOnFrom_22 : decode cX1_passOnFrom 22 = .ok (.getfield 56, 3) := by decide +kernel
theorem dX1_passOnFrom_25 : decode cX1_passOnFrom 25 = .ok (.i2l, 1) := by decide +kernel
theorem dX1_passOnFrom_26 : decode cX1_passOnFrom 26 = .ok (.lmul, 1) := by decide +kernel
theorem dX1_passOnFrom_27 : decode cX1_passOnFrom 27 = .ok (.ldc2_w 59, 3) := by decide +kernel
theorem dX1_passOnFrom_30 : decode cX1_passOnFrom 30 = .ok (.ldiv, 1) := by decide +kernel
theorem dX1_passOnFrom_31 : decode cX1_passOnFrom 31 = .ok (.lstore 4, 2) := by decide +kernel
theorem dX1_passOnFrom_33 : decode cX1_passOnFrom 33 = .ok (.aload_n 0, 1) := by decide +kernel
theorem dX1_passOnFrom_34 : decode cX1_passOnFrom 34 = .ok (.getfield 15, 3) := by decide +kernel
theorem dX1_passOnFrom_37 : decode cX1_passOnFrom 37 = .ok (.iload_n 2, 1) := by decide +kernel
theorem dX1_passOnFrom_38 : decode cX1_passOnFrom 38 = .ok (.dup2, 1) := by decide +kernel
theorem dX1_passOnFrom_39 : decode cX1_passOnFrom 39 = .ok (.laload, 1) := by decide +kernel
theorem dX1_passOnFrom_40 : decode cX1_passOnFrom 40 = .ok (.lload 4, 2) := by decide +kernel
theorem dX1_passOnFrom_42 : decode cX1_passOnFrom 42 = .ok (.lsub, 1) := by decide +kernel
theorem dX1_passOnFrom_43 : decode cX1_passOnFrom 43 = .ok (.lastore, 1) := by decide +kernel
theorem dX1_passOnFrom_44 : decode cX1_passOnFrom 44 = .ok (.aload_n 0, 1) := by decide +kernel
theorem dX1_passOnFrom_45 : decode cX1_passOnFrom 45 = .ok (.getfield 15, 3) := by decide +kernel
theorem dX1_passOnFrom_48 : decode cX1_passOnFrom 48 = .ok (.aload_n 3, 1) := by decide +kernel
theorem dX1_passOnFrom_49 : decode cX1_passOnFrom 49 = .ok (.getfield 45, 3) := by decide +kernel
theorem dX1_passOnFrom_52 : decode cX1_passOnFrom 52 = .ok (.dup2, 1) := by decide +kernel
theorem dX1_passOnFrom_53 : decode cX1_passOnFrom 53 = .ok (.laload, 1) := by decide +kernel
theorem dX1_passOnFrom_54 : decode cX1_passOnFrom 54 = .ok (.lload 4, 2) := by decide +kernel
theorem dX1_passOnFrom_56 : decode cX1_passOnFrom 56 = .ok (.ladd, 1) := by decide +kernel
theorem dX1_passOnFrom_57 : decode cX1_passOnFrom 57 = .ok (.lastore, 1) := by decide +kernel
theorem dX1_passOnFrom_58 : decode cX1_passOnFrom 58 = .ok (.aload_n 0, 1) := by decide +kernel
theorem dX1_passOnFrom_59 : decode cX1_passOnFrom 59 = .ok (.getfield 9, 3) := by decide +kernel
theorem dX1_passOnFrom_62 : decode cX1_passOnFrom 62 = .ok (.aload_n 3, 1) := by decide +kernel
theorem dX1_passOnFrom_63 : decode cX1_passOnFrom 63 = .ok (.getfield 45, 3) := by decide +kernel
theorem dX1_passOnFrom_66 : decode cX1_passOnFrom 66 = .ok (.dup2, 1) := by decide +kernel
theorem dX1_passOnFrom_67 : decode cX1_passOnFrom 67 = .ok (.iaload, 1) := by decide +kernel
theorem dX1_passOnFrom_68 : decode cX1_passOnFrom 68 = .ok (.iconst 1, 1) := by decide +kernel
theorem dX1_passOnFrom_69 : decode cX1_passOnFrom 69 = .ok (.isub, 1) := by decide +kernel
theorem dX1_passOnFrom_70 : decode cX1_passOnFrom 70 = .ok (.iastore, 1) := by decide +kernel
theorem dX1_passOnFrom_71 : decode cX1_passOnFrom 71 = .ok (.return_, 1) := by decide +kernel
theorem dX1_hasAssignee_0 : decode cX1_hasAssignee 0 = .ok (.aload_n 1, 1) := by decide +kernel
theorem dX1_hasAssignee_1 : decode cX1_hasAssignee 1 = .ok (.getfield 45, 3) := by decide +kernel
theorem dX1_hasAssignee_4 : decode cX1_hasAssignee 4 = .ok (.ifCond .lt 18, 3) := by decide +kernel
theorem dX1_hasAssignee_7 : decode cX1_hasAssignee 7 = .ok (.aload_n 1, 1) := by decide +kernel
theorem dX1_hasAssignee_8 : decode cX1_hasAssignee 8 = .ok (.getfield 45, 3) := by decide +kernel
theorem dX1_hasAssignee_11 : decode cX1_hasAssignee 11 = .ok (.aload_n 0, 1) := by decide +kernel
theorem dX1_hasAssignee_12 : decode cX1_hasAssignee 12 = .ok (.getfield 25, 3) := by decide +kernel
theorem dX1_hasAssignee_15 : decode cX1_hasAssignee 15 = .ok (.if_icmp .ge 7, 3) := by decide +kernel
theorem dX1_hasAssignee_18 : decode cX1_hasAssignee 18 = .ok (.iconst 1, 1) := by decide +kernel
theorem dX1_hasAssignee_19 : decode cX1_hasAssignee 19 = .ok (.goto 4, 3) := by decide +kernel
theorem dX1_hasAssignee_22 : decode cX1_hasAssignee 22 = .ok (.iconst 0, 1) := by decide +kernel
theorem dX1_hasAssignee_23 : decode cX1_hasAssignee 23 = .ok (.ireturn, 1) := by decide +kernel
theorem dX2_init_0 : decode cX2_init 0 = .ok (.aload_n 0, 1) := by decide +kernel
theorem dX2_init_1 : decode cX2_init 1 = .ok (.invokespecial 3, 3) := by decide +kernel
theorem dX2_init_4 : decode cX2_init 4 = .ok (.aload_n 0, 1) := by decide +kernel
theorem dX2_init_5 : decode cX2_init 5 = .ok (.bipush 80, 2) := by decide +kernel
theorem dX2_init_7 : decode cX2_init 7 = .ok (.newarray .byte, 2) := by decide +kernel
theorem dX2_init_9 : decode cX2_init 9 = .ok (.putfield 9, 3) := by decide +kernel
theorem dX2_init_12 : decode cX2_init 12 = .ok (.return_, 1) := by decide +kernel
theorem dX2_write_0 : decode cX2_write 0 = .ok (.aload_n 1, 1) := by decide +kernel
theorem dX2_write_1 : decode cX2_write 1 = .ok (.getfield 15, 3) := by decide +kernel
theorem dX2_write_4 : decode cX2_write 4 = .ok (.iload_n 2, 1) := by decide +kernel
theorem dX2_write_5 : decode cX2_write 5 = .ok (.aaload, 1) := by decide +kernel
theorem dX2_write_6 : decode cX2_write 6 = .ok (.astore_n 3, 1) := by decide +kernel
theorem dX2_write_7 : decode cX2_write 7 = .ok (.aload_n 0, 1) := by decide +kernel
theorem dX2_write_8 : decode cX2_write 8 = .ok (.iconst 0, 1) := by decide +kernel
theorem dX2_write_9 : decode cX2_write 9 = .ok (.putfield 21, 3) := by decide +kernel
theorem dX2_write_12 : decode cX2_write 12 = .ok (.aload_n 0, 1) := by decide +kernel
theorem dX2_write_13 : decode cX2_write 13 = .ok (.iload_n 2, 1) := by decide +kernel
theorem dX2_write_14 : decode cX2_write 14 = .ok (.i2l, 1) := by decide +kernel
theorem dX2_write_15 : decode cX2_write 15 = .ok (.invokevirtual 25, 3) := by decide +kernel
theorem dX2_write_18 : decode cX2_write 18 = .ok (.aload_n 0, 1) := by decide +kernel
theorem dX2_write_19 : decode cX2_write 19 = .ok (.ldc 29, 2) := by decide +kernel
theorem dX2_write_21 : decode cX2_write 21 = .ok (.invokevirtual 31, 3) := by decide +kernel
theorem dX2_write_24 : decode cX2_write 24 = .ok (.aload_n 3, 1) := by decide +kernel
theorem dX2_write_25 : decode cX2_write 25 = .ok (.getfield 35, 3) := by decide +kernel
theorem dX2_write_28 : decode cX2_write 28 = .ok (.ifCond .ne 37, 3) := by decide +kernel
theorem dX2_write_31 : decode cX2_write 31 = .ok (.aload_n 0, 1) := by decide +kernel
theorem dX2_write_32 : decode cX2_write 32 = .ok (.ldc 40, 2) := by decide +kernel
theorem dX2_write_34 : decode cX2_write 34 = .ok (.invokevirtual 31, 3) := by decide +kernel
theorem dX2_write_37 : decode cX2_write 37 = .ok (.aload_n 0, 1) := by decide +kernel
theorem dX2_write_38 : decode cX2_write 38 = .ok (.aload_n 1, 1) := by decide +kernel
theorem dX2_write_39 : decode cX2_write 39 = .ok (.iload_n 2, 1) := by decide +kernel
theorem dX2_write_40 : decode cX2_write 40 = .ok (.invokevirtual 42, 3) := by decide +kernel
theorem dX2_write_43 : decode cX2_write 43 = .ok (.i2l, 1) := by decide +kernel
theorem dX2_write_44 : decode cX2_write 44 = .ok (.invokevirtual 25, 3) := by decide +kernel
theorem dX2_write_47 : decode cX2_write 47 = .ok (.aload_n 0, 1) := by decide +kernel
theorem dX2_write_48 : decode cX2_write 48 = .ok (.ldc 46, 2) := by decide +kernel
theorem dX2_write_50 : decode cX2_write 50 = .ok (.invokevirtual 31, 3) := by decide +kernel
theorem dX2_write_53 : decode cX2_write 53 = .ok (.aload_n 0, 1) := by decide +kernel
theorem dX2_write_54 : decode cX2_write 54 = .ok (.aload_n 3, 1) := by decide +kernel
theorem dX2_write_55 : decode cX2_write 55 = .ok (.getfield 48, 3) := by decide +kernel
theorem dX2_write_58 : decode cX2_write 58 = .ok (.i2l, 1) := by decide +kernel
theorem dX2_write_59 : decode cX2_write 59 = .ok (.invokevirtual 25, 3) := by decide +kernel
theorem dX2_write_62 : decode cX2_write 62 = .ok (.goto 64, 3) := by decide +kernel
theorem dX2_write_65 : decode cX2_write 65 = .ok (.aload_n 3, 1) := by decide +kernel
theorem dX2_write_66 : decode cX2_write 66 = .ok (.getfield 35, 3) := by decide +kernel
theorem dX2_write_69 : decode cX2_write 69 = .ok (.iconst 1, 1) := by decide +kernel
theorem dX2_write_70 : decode cX2_write 70 = .ok (.if_icmp .ne 40, 3) := by decide +kernel
theorem dX2_write_73 : decode cX2_write 73 = .ok (.aload_n 0, 1) := by decide +kernel
theorem dX2_write_74 : decode cX2_write 74 = .ok (.ldc 51, 2) := by decide +kernel
theorem dX2_write_76 : decode cX2_write 76 = .ok (.invokevirtual 31, 3) := by decide +kernel
theorem dX2_write_79 : decode cX2_write 79 = .ok (.aload_n 0, 1) := by decide +kernel
theorem dX2_write_80 : decode cX2_write 80 = .ok (.aload_n 3, 1) := by decide +kernel
theorem dX2_write_81 : decode cX2_write 81 = .ok (.getfield 53, 3) := by decide +kernel
theorem dX2_write_84 : decode cX2_write 84 = .ok (.i2l, 1) := by decide +kernel
theorem dX2_write_85 : decode cX2_write 85 = .ok (.invokevirtual 25, 3) := by decide +kernel
theorem dX2_write_88 : decode cX2_write 88 = .ok (.aload_n 0, 1) := by decide +kernel
theorem dX2_write_89 : decode cX2_write 89 = .ok (.ldc 46, 2) := by decide +kernel
theorem dX2_write_91 : decode cX2_write 91 = .ok (.invokevirtual 31, 3) := by decide +kernel
theorem dX2_write_94 : decode cX2_write 94 = .ok (.aload_n 0, 1) := by decide +kernel
theorem dX2_write_95 : decode cX2_write 95 = .ok (.aload_n 3, 1) := by decide +kernel
theorem dX2_write_96 : decode cX2_write 96 = .ok (.invokevirtual 56, 3) := by decide +kernel
theorem dX2_write_99 : decode cX2_write 99 = .ok (.invokevirtual 60, 3) := by decide +kernel
theorem dX2_write_102 : decode cX2_write 102 = .ok (.aload_n 0, 1) := by decide +kernel
theorem dX2_write_103 : decode cX2_write 103 = .ok (.aload_n 3, 1) := by decide +kernel
theorem dX2_write_104 : decode cX2_write 104 = .ok (.invokevirtual 63, 3) := by decide +kernel
theorem dX2_write_107 : decode cX2_write 107 = .ok (.goto 19, 3) := by decide +kernel
theorem dX2_write_110 : decode cX2_write 110 = .ok (.aload_n 0, 1) := by decide +kernel
theorem dX2_write_111 : decode cX2_write 111 = .ok (.ldc 67, 2) := by decide +kernel
theorem dX2_write_113 : decode cX2_write 113 = .ok (.invokevirtual 31, 3) := by decide +kernel
theorem dX2_write_116 : decode cX2_write 116 = .ok (.aload_n 0, 1) := by decide +kernel
theorem dX2_write_117 : decode cX2_write 117 = .ok (.aload_n 3, 1) := by decide +kernel
theorem dX2_write_118 : decode cX2_write 118 = .ok (.getfield 69, 3) := by decide +kernel
theorem dX2_write_121 : decode cX2_write 121 = .ok (.iconst 3, 1) := by decide +kernel
theorem dX2_write_122 : decode cX2_write 122 = .ok (.laload, 1) := by decide +kernel
theorem dX2_write_123 : decode cX2_write 123 = .ok (.invokevirtual 60, 3) := by decide +kernel
theorem dX2_write_126 : decode cX2_write 126 = .ok (.return_, 1) := by decide +kernel
theorem dX2_putAssignment_0 : decode cX2_putAssignment 0 = .ok (.aload_n 1, 1) := by decide +kernel
theorem dX2_putAssignment_1 : decode cX2_putAssignment 1 = .ok (.getfield 73, 3) := by decide +kernel
theorem dX2_putAssignment_4 : decode cX2_putAssignment 4 = .ok (.iconst (-1), 1) := by decide +kernel
theorem dX2_putAssignment_5 : decode cX2_putAssignment 5 = .ok (.if_icmp .eq 39, 3) := by decide +kernel
theorem dX2_putAssignment_8 : decode cX2_putAssignment 8 = .ok (.aload_n 0, 1) := by decide +kernel
theorem dX2_putAssignment_9 : decode cX2_putAssignment 9 = .ok (.ldc 76, 2) := by decide +kernel
theorem dX2_putAssignment_11 : decode cX2_putAssignment 11 = .ok (.invokevirtual 31, 3) := by decide +kernel
theorem dX2_putAssignment_14 : decode cX2_putAssignment 14 = .ok (.aload_n 0, 1) := by decide +kernel
theorem dX2_putAssignment_15 : decode cX2_putAssignment 15 = .ok (.aload_n 1, 1) := by decide +kernel
theorem dX2_putAssignment_16 : decode cX2_putAssignment 16 = .ok (.getfield 73, 3) := by decide +kernel
theorem dX2_putAssignment_19 : decode cX2_putAssignment 19 = .ok (.i2l, 1) := by decide +kernel
theorem dX2_putAssignment_20 : decode cX2_putAssignment 20 = .ok (.invokevirtual 25, 3) := by decide +kernel
theorem dX2_putAssignment_23 : decode cX2_putAssignment 23 = .ok (.aload_n 0, 1) := by decide +kernel
theorem dX2_putAssignment_24 : decode cX2_putAssignment 24 = .ok (.ldc 29, 2) := by decide +kernel
theorem dX2_putAssignment_26 : decode cX2_putAssignment 26 = .ok (.invokevirtual 31, 3) := by decide +kernel
theorem dX2_putAssignment_29 : decode cX2_putAssignment 29 = .ok (.aload_n 0, 1) := by decide +kernel
theorem dX2_putAssignment_30 : decode cX2_putAssignment 30 = .ok (.aload_n 1, 1) := by decide +kernel
theorem dX2_putAssignment_31 : decode cX2_putAssignment 31 = .ok (.getfield 78, 3) := by decide +kernel
theorem dX2_putAssignment_34 : decode cX2_putAssignment 34 = .ok (.i2l, 1) := by decide +kernel
theorem dX2_putAssignment_35 : decode cX2_putAssignment 35 = .ok (.invokevirtual 25, 3) := by decide +kernel
theorem dX2_putAssignment_38 : decode cX2_putAssignment 38 = .ok (.aload_n 0, 1) := by decide +kernel
theorem dX2_putAssignment_39 : decode cX2_putAssignment 39 = .ok (.ldc 81, 2) := by decide +kernel
theorem dX2_putAssignment_41 : decode cX2_putAssignment 41 = .ok (.invokevirtual 31, 3) := by decide +kernel
theorem dX2_putAssignment_44 : decode cX2_putAssignment 44 = .ok (.return_, 1) := by decide +kernel
theorem dX2_putText_0 : decode cX2_putText 0 = .ok (.iconst 0, 1) := by decide +kernel
theorem dX2_putText_1 : decode cX2_putText 1 = .ok (.istore_n 2, 1) := by decide +kernel
theorem dX2_putText_2 : decode cX2_putText 2 = .ok (.iload_n 2, 1) := by decide +kernel
theorem dX2_putText_3 : decode cX2_putText 3 = .ok (.aload_n 1, 1) := by decide +kernel
theorem dX2_putText_4 : decode cX2_putText 4 = .ok (.invokevirtual 83, 3) := by decide +kernel
theorem dX2_putText_7 : decode cX2_putText 7 = .ok (.if_icmp .ge 18, 3) := by decide +kernel
theorem dX2_putText_10 : decode cX2_putText 10 = .ok (.aload_n 0, 1) := by decide +kernel
theorem dX2_putText_11 : decode cX2_putText 11 = .ok (.aload_n 1, 1) := by decide +kernel
theorem dX2_putText_12 : decode cX2_putText 12 = .ok (.iload_n 2, 1) := by decide +kernel
theorem dX2_putText_13 : decode cX2_putText 13 = .ok (.invokevirtual 88, 3) := by decide +kernel
theorem dX2_putText_16 : decode cX2_putText 16 = .ok (.invokevirtual 92, 3) := by decide +kernel
theorem dX2_putText_19 : decode cX2_putText 19 = .ok (.iinc 2 1, 3) := by decide +kernel
theorem dX2_putText_22 : decode cX2_putText 22 = .ok (.goto (-20), 3) := by decide +kernel
theorem dX2_putText_25 : decode cX2_putText 25 = .ok (.return_, 1) := by decide +kernel
theorem dX2_putMoney_0 : decode cX2_putMoney 0 = .ok (.aload_n 0, 1) := by decide +kernel
theorem dX2_putMoney_1 : decode cX2_putMoney 1 = .ok (.lload_n 1, 1) := by decide +kernel
theorem dX2_putMoney_2 : decode cX2_putMoney 2 = .ok (.ldc2_w 96, 3) := by decide +kernel
theorem dX2_putMoney_5 : decode cX2_putMoney 5 = .ok (.ldiv, 1) := by decide +kernel
theorem dX2_putMoney_6 : decode cX2_putMoney 6 = .ok (.invokevirtual 25, 3) := by decide +kernel
theorem dX2_putMoney_9 : decode cX2_putMoney 9 = .ok (.aload_n 0, 1) := by decide +kernel
theorem dX2_putMoney_10 : decode cX2_putMoney 10 = .ok (.ldc 98, 2) := by decide +kernel
theorem dX2_putMoney_12 : decode cX2_putMoney 12 = .ok (.invokevirtual 31, 3) := by decide +kernel
theorem dX2_putMoney_15 : decode cX2_putMoney 15 = .ok (.aload_n 0, 1) := by decide +kernel
theorem dX2_putMoney_16 : decode cX2_putMoney 16 = .ok (.bipush 48, 2) := by decide +kernel
theorem dX2_putMoney_18 : decode cX2_putMoney 18 = .ok (.lload_n 1, 1) := by decide +kernel
theorem dX2_putMoney_19 : decode cX2_putMoney 19 = .ok (.ldc2_w 100, 3) := by decide +kernel
theorem dX2_putMoney_22 : decode cX2_putMoney 22 = .ok (.ldiv, 1) := by decide +kernel
theorem dX2_putMoney_23 : decode cX2_putMoney 23 = .ok (.ldc2_w 102, 3) := by decide +kernel
theorem dX2_putMoney_26 : decode cX2_putMoney 26 = .ok (.lrem, 1) := by decide +kernel
theorem dX2_putMoney_27 : decode cX2_putMoney 27 = .ok (.l2i, 1) := by decide +kernel
theorem dX2_putMoney_28 : decode cX2_putMoney 28 = .ok (.iadd, 1) := by decide +kernel
theorem dX2_putMoney_29 : decode cX2_putMoney 29 = .ok (.invokevirtual 92, 3) := by decide +kernel
theorem dX2_putMoney_32 : decode cX2_putMoney 32 = .ok (.aload_n 0, 1) := by decide +kernel
theorem dX2_putMoney_33 : decode cX2_putMoney 33 = .ok (.bipush 48, 2) := by decide +kernel
theorem dX2_putMoney_35 : decode cX2_putMoney 35 = .ok (.lload_n 1, 1) := by decide +kernel
theorem dX2_putMoney_36 : decode cX2_putMoney 36 = .ok (.ldc2_w 102, 3) := by decide +kernel
theorem dX2_putMoney_39 : decode cX2_putMoney 39 = .ok (.ldiv, 1) := by decide +kernel
theorem dX2_putMoney_40 : decode cX2_putMoney 40 = .ok (.ldc2_w 102, 3) := by decide +kernel
theorem dX2_putMoney_43 : decode cX2_putMoney 43 = .ok (.lrem, 1) := by decide +kernel
theorem dX2_putMoney_44 : decode cX2_putMoney 44 = .ok (.l2i, 1) := by decide +kernel
theorem dX2_putMoney_45 : decode cX2_putMoney 45 = .ok (.iadd, 1) := by decide +kernel
theorem dX2_putMoney_46 : decode cX2_putMoney 46 = .ok (.invokevirtual 92, 3) := by decide +kernel
theorem dX2_putMoney_49 : decode cX2_putMoney 49 = .ok (.aload_n 0, 1) := by decide +kernel
theorem dX2_putMoney_50 : decode cX2_putMoney 50 = .ok (.bipush 48, 2) := by decide +kernel
theorem dX2_putMoney_52 : decode cX2_putMoney 52 = .ok (.lload_n 1, 1) := by decide +kernel
theorem dX2_putMoney_53 : decode cX2_putMoney 53 = .ok (.ldc2_w 102, 3) := by decide +kernel
theorem dX2_putMoney_56 : decode cX2_putMoney 56 = .ok (.lrem, 1) := by decide +kernel
theorem dX2_putMoney_57 : decode cX2_putMoney 57 = .ok (.l2i, 1) := by decide +kernel
theorem dX2_putMoney_58 : decode cX2_putMoney 58 = .ok (.iadd, 1) := by decide +kernel
theorem dX2_putMoney_59 : decode cX2_putMoney 59 = .ok (.invokevirtual 92, 3) := by decide +kernel
theorem dX2_putMoney_62 : decode cX2_putMoney 62 = .ok (.return_, 1) := by decide +kernel
theorem dX2_putNumber_0 : decode cX2_putNumber 0 = .ok (.lconst 1, 1) := by decide +kernel
theorem dX2_putNumber_1 : decode cX2_putNumber 1 = .ok (.lstore_n 3, 1) := by decide +kernel
theorem dX2_putNumber_2 : decode cX2_putNumber 2 = .ok (.iconst 1, 1) := by decide +kernel
theorem dX2_putNumber_3 : decode cX2_putNumber 3 = .ok (.istore 5, 2) := by decide +kernel
theorem dX2_putNumber_5 : decode cX2_putNumber 5 = .ok (.iload 5, 2) := by decide +kernel
theorem dX2_putNumber_7 : decode cX2_putNumber 7 = .ok (.bipush 19, 2) := by decide +kernel
theorem dX2_putNumber_9 : decode cX2_putNumber 9 = .ok (.if_icmp .ge 25, 3) := by decide +kernel
theorem dX2_putNumber_12 : decode cX2_putNumber 12 = .ok (.lload_n 1, 1) := by decide +kernel
theorem dX2_putNumber_13 : decode cX2_putNumber 13 = .ok (.lload_n 3, 1) := by decide +kernel
theorem dX2_putNumber_14 : decode cX2_putNumber 14 = .ok (.ldiv, 1) := by decide +kernel
theorem dX2_putNumber_15 : decode cX2_putNumber 15 = .ok (.ldc2_w 102, 3) := by decide +kernel
theorem dX2_putNumber_18 : decode cX2_putNumber 18 = .ok (.lcmp, 1) := by decide +kernel
theorem dX2_putNumber_19 : decode cX2_putNumber 19 = .ok (.ifCond .lt 15, 3) := by decide +kernel
theorem dX2_putNumber_22 : decode cX2_putNumber 22 = .ok (.lload_n 3, 1) := by decide +kernel
theorem dX2_putNumber_23 : decode cX2_putNumber 23 = .ok (.ldc2_w 102, 3) := by decide +kernel
theorem dX2_putNumber_26 : decode cX2_putNumber 26 = .ok (.lmul, 1) := by decide +kernel
theorem dX2_putNumber_27 : decode cX2_putNumber 27 = .ok (.lstore_n 3, 1) := by decide +kernel
theorem dX2_putNumber_28 : decode cX2_putNumber 28 = .ok (.iinc 5 1, 3) := by decide +kernel
theorem dX2_putNumber_31 : decode cX2_putNumber 31 = .ok (.goto (-26), 3) := by decide +kernel
theorem dX2_putNumber_34 : decode cX2_putNumber 34 = .ok (.lload_n 3, 1) := by decide +kernel
theorem dX2_putNumber_35 : decode cX2_putNumber 35 = .ok (.lconst 0, 1) := by decide +kernel
theorem dX2_putNumber_36 : decode cX2_putNumber 36 = .ok (.lcmp, 1) := by decide +kernel
theorem dX2_putNumber_37 : decode cX2_putNumber 37 = .ok (.ifCond .le 27, 3) := by decide +kernel
theorem dX2_putNumber_40 : decode cX2_putNumber 40 = .ok (.aload_n 0, 1) := by decide +kernel
theorem dX2_putNumber_41 : decode cX2_putNumber 41 = .ok (.bipush 48, 2) := by decide +kernel
theorem dX2_putNumber_43 : decode cX2_putNumber 43 = .ok (.lload_n 1, 1) := by decide +kernel
theorem dX2_putNumber_44 : decode cX2_putNumber 44 = .ok (.lload_n 3, 1) := by decide +kernel
theorem dX2_putNumber_45 : decode cX2_putNumber 45 = .ok (.ldiv, 1) := by decide +kernel
theorem dX2_putNumber_46 : decode cX2_putNumber 46 = .ok (.ldc2_w 102, 3) := by decide +kernel
theorem dX2_putNumber_49 : decode cX2_putNumber 49 = .ok (.lrem, 1) := by decide +kernel
theorem dX2_putNumber_50 : decode cX2_putNumber 50 = .ok (.l2i, 1) := by decide +kernel
theorem dX2_putNumber_51 : decode cX2_putNumber 51 = .ok (.iadd, 1) := by decide +kernel
theorem dX2_putNumber_52 : decode cX2_putNumber 52 = .ok (.invokevirtual 92, 3) := by decide +kernel
theorem dX2_putNumber_55 : decode cX2_putNumber 55 = .ok (.lload_n 3, 1) := by decide +kernel
theorem dX2_putNumber_56 : decode cX2_putNumber 56 = .ok (.ldc2_w 102, 3) := by decide +kernel
theorem dX2_putNumber_59 : decode cX2_putNumber 59 = .ok (.ldiv, 1) := by decide +kernel
theorem dX2_putNumber_60 : decode cX2_putNumber 60 = .ok (.lstore_n 3, 1) := by decide +kernel
theorem dX2_putNumber_61 : decode cX2_putNumber 61 = .ok (.goto (-27), 3) := by decide +kernel
theorem dX2_putNumber_64 : decode cX2_putNumber 64 = .ok (.return_, 1) := by decide +kernel
theorem dX2_putByte_0 : decode cX2_putByte 0 = .ok (.aload_n 0, 1) := by decide +kernel
theorem dX2_putByte_1 : decode cX2_putByte 1 = .ok (.getfield 21, 3) := by decide +kernel
theorem dX2_putByte_4 : decode cX2_putByte 4 = .ok (.aload_n 0, 1) := by decide +kernel
theorem dX2_putByte_5 : decode cX2_putByte 5 = .ok (.getfield 9, 3) := by decide +kernel
theorem dX2_putByte_8 : decode cX2_putByte 8 = .ok (.arraylength, 1) := by decide +kernel
theorem dX2_putByte_9 : decode cX2_putByte 9 = .ok (.if_icmp .ge 24, 3) := by decide +kernel
theorem dX2_putByte_12 : decode cX2_putByte 12 = .ok (.aload_n 0, 1) := by decide +kernel
theorem dX2_putByte_13 : decode cX2_putByte 13 = .ok (.getfield 9, 3) := by decide +kernel
theorem dX2_putByte_16 : decode cX2_putByte 16 = .ok (.aload_n 0, 1) := by decide +kernel
theorem dX2_putByte_17 : decode cX2_putByte 17 = .ok (.getfield 21, 3) := by decide +kernel
theorem dX2_putByte_20 : decode cX2_putByte 20 = .ok (.iload_n 1, 1) := by decide +kernel
theorem dX2_putByte_21 : decode cX2_putByte 21 = .ok (.i2b, 1) := by decide +kernel
theorem dX2_putByte_22 : decode cX2_putByte 22 = .ok (.bastore, 1) := by decide +kernel
theorem dX2_putByte_23 : decode cX2_putByte 23 = .ok (.aload_n 0, 1) := by decide +kernel
theorem dX2_putByte_24 : decode cX2_putByte 24 = .ok (.dup, 1) := by decide +kernel
theorem dX2_putByte_25 : decode cX2_putByte 25 = .ok (.getfield 21, 3) := by decide +kernel
theorem dX2_putByte_28 : decode cX2_putByte 28 = .ok (.iconst 1, 1) := by decide +kernel
theorem dX2_putByte_29 : decode cX2_putByte 29 = .ok (.iadd, 1) := by decide +kernel
theorem dX2_putByte_30 : decode cX2_putByte 30 = .ok (.putfield 21, 3) := by decide +kernel
theorem dX2_putByte_33 : decode cX2_putByte 33 = .ok (.return_, 1) := by decide +kernel
theorem dX3_init_0 : decode cX3_init 0 = .ok (.aload_n 0, 1) := by decide +kernel
theorem dX3_init_1 : decode cX3_init 1 = .ok (.invokespecial 3, 3) := by decide +kernel
theorem dX3_init_4 : decode cX3_init 4 = .ok (.aload_n 0, 1) := by decide +kernel
theorem dX3_init_5 : decode cX3_init 5 = .ok (.bipush 17, 2) := by decide +kernel
theorem dX3_init_7 : decode cX3_init 7 = .ok (.newarray .long, 2) := by decide +kernel
theorem dX3_init_9 : decode cX3_init 9 = .ok (.putfield 9, 3) := by decide +kernel
theorem dX3_init_12 : decode cX3_init 12 = .ok (.aload_n 0, 1) := by decide +kernel
theorem dX3_init_13 : decode cX3_init 13 = .ok (.bipush 17, 2) := by decide +kernel
theorem dX3_init_15 : decode cX3_init 15 = .ok (.newarray .long, 2) := by decide +kernel
theorem dX3_init_17 : decode cX3_init 17 = .ok (.putfield 15, 3) := by decide +kernel
theorem dX3_init_20 : decode cX3_init 20 = .ok (.aload_n 0, 1) := by decide +kernel
theorem dX3_init_21 : decode cX3_init 21 = .ok (.bipush 17, 2) := by decide +kernel
theorem dX3_init_23 : decode cX3_init 23 = .ok (.newarray .long, 2) := by decide +kernel
theorem dX3_init_25 : decode cX3_init 25 = .ok (.putfield 18, 3) := by decide +kernel
theorem dX3_init_28 : decode cX3_init 28 = .ok (.return_, 1) := by decide +kernel
theorem dX3_weighShareDays_0 : decode cX3_weighShareDays 0 = .ok (.aload_n 0, 1) := by decide +kernel
theorem dX3_weighShareDays_1 : decode cX3_weighShareDays 1 = .ok (.aload_n 1, 1) := by decide +kernel
theorem dX3_weighShareDays_2 : decode cX3_weighShareDays 2 = .ok (.iload_n 2, 1) := by decide +kernel
theorem dX3_weighShareDays_3 : decode cX3_weighShareDays 3 = .ok (.iload_n 3, 1) := by decide +kernel
theorem dX3_weighShareDays_4 : decode cX3_weighShareDays 4 = .ok (.invokevirtual 21, 3) := by decide +kernel
theorem dX3_weighShareDays_7 : decode cX3_weighShareDays 7 = .ok (.lstore 4, 2) := by decide +kernel
theorem dX3_weighShareDays_9 : decode cX3_weighShareDays 9 = .ok (.aload_n 0, 1) := by decide +kernel
theorem dX3_weighShareDays_10 : decode cX3_weighShareDays 10 = .ok (.aload_n 1, 1) := by decide +kernel
theorem dX3_weighShareDays_11 : decode cX3_weighShareDays 11 = .ok (.getfield 25, 3) := by decide +kernel
theorem dX3_weighShareDays_14 : decode cX3_weighShareDays 14 = .ok (.invokevirtual 31, 3) := by decide +kernel
theorem dX3_weighShareDays_17 : decode cX3_weighShareDays 17 = .ok (.i2l, 1) := by decide +kernel
theorem dX3_weighShareDays_18 : decode cX3_weighShareDays 18 = .ok (.putfield 37, 3) := by decide +kernel
theorem dX3_weighShareDays_21 : decode cX3_weighShareDays 21 = .ok (.aload_n 0, 1) := by decide +kernel
theorem dX3_weighShareDays_22 : decode cX3_weighShareDays 22 = .ok (.getfield 9, 3) := by decide +kernel
theorem dX3_weighShareDays_25 : decode cX3_weighShareDays 25 = .ok (.bipush 16, 2) := by decide +kernel
theorem dX3_weighShareDays_27 : decode cX3_weighShareDays 27 = .ok (.aload_n 0, 1) := by decide +kernel
theorem dX3_weighShareDays_28 : decode cX3_weighShareDays 28 = .ok (.getfield 37, 3) := by decide +kernel
theorem dX3_weighShareDays_31 : decode cX3_weighShareDays 31 = .ok (.lload 4, 2) := by decide +kernel
theorem dX3_weighShareDays_33 : decode cX3_weighShareDays 33 = .ok (.lsub, 1) := by decide +kernel
theorem dX3_weighShareDays_34 : decode cX3_weighShareDays 34 = .ok (.lastore, 1) := by decide +kernel
theorem dX3_weighShareDays_35 : decode cX3_weighShareDays 35 = .ok (.return_, 1) := by decide +kernel
theorem dX3_weighHeldShares_0 : decode cX3_weighHeldShares 0 = .ok (.aload_n 0, 1) := by decide +kernel
theorem dX3_weighHeldShares_1 : decode cX3_weighHeldShares 1 = .ok (.aload_n 0, 1) := by decide +kernel
theorem dX3_weighHeldShares_2 : decode cX3_weighHeldShares 2 = .ok (.aload_n 1, 1) := by decide +kernel
theorem dX3_weighHeldShares_3 : decode cX3_weighHeldShares 3 = .ok (.iconst (-1), 1) := by decide +kernel
theorem dX3_weighHeldShares_4 : decode cX3_weighHeldShares 4 = .ok (.iconst 1, 1) := by decide +kernel
theorem dX3_weighHeldShares_5 : decode cX3_weighHeldShares 5 = .ok (.invokevirtual 21, 3) := by decide +kernel
theorem dX3_weighHeldShares_8 : decode cX3_weighHeldShares 8 = .ok (.putfield 37, 3) := by decide +kernel
theorem dX3_weighHeldShares_11 : decode cX3_weighHeldShares 11 = .ok (.return_, 1) := by decide +kernel
theorem dX3_weighSubscribers_0 : decode cX3_weighSubscribers 0 = .ok (.lconst 0, 1) := by decide +kernel
theorem dX3_weighSubscribers_1 : decode cX3_weighSubscribers 1 = .ok (.lstore 4, 2) := by decide +kernel
theorem dX3_weighSubscribers_3 : decode cX3_weighSubscribers 3 = .ok (.aload_n 0, 1) := by decide +kernel
theorem dX3_weighSubscribers_4 : decode cX3_weighSubscribers 4 = .ok (.getfield 9, 3) := by decide +kernel
theorem dX3_weighSubscribers_7 : decode cX3_weighSubscribers 7 = .ok (.lconst 0, 1) := by decide +kernel
theorem dX3_weighSubscribers_8 : decode cX3_weighSubscribers 8 = .ok (.invokestatic 41, 3) := by decide +kernel
theorem dX3_weighSubscribers_11 : decode cX3_weighSubscribers 11 = .ok (.iconst 0, 1) := by decide +kernel
theorem dX3_weighSubscribers_12 : decode cX3_weighSubscribers 12 = .ok (.istore 6, 2) := by decide +kernel
theorem dX3_weighSubscribers_14 : decode cX3_weighSubscribers 14 = .ok (.iload 6, 2) := by decide +kernel
theorem dX3_weighSubscribers_16 : decode cX3_weighSubscribers 16 = .ok (.aload_n 1, 1) := by decide +kernel
theorem dX3_weighSubscribers_17 : decode cX3_weighSubscribers 17 = .ok (.getfield 47, 3) := by decide +kernel
theorem dX3_weighSubscribers_20 : decode cX3_weighSubscribers 20 = .ok (.if_icmp .ge 68, 3) := by decide +kernel
theorem dX3_weighSubscribers_23 : decode cX3_weighSubscribers 23 = .ok (.aload_n 1, 1) := by decide +kernel
theorem dX3_weighSubscribers_24 : decode cX3_weighSubscribers 24 = .ok (.getfield 51, 3) := by decide +kernel
theorem dX3_weighSubscribers_27 : decode cX3_weighSubscribers 27 = .ok (.iload 6, 2) := by decide +kernel
theorem dX3_weighSubscribers_29 : decode cX3_weighSubscribers 29 = .ok (.aaload, 1) := by decide +kernel
theorem dX3_weighSubscribers_30 : decode cX3_weighSubscribers 30 = .ok (.astore 7, 2) := by decide +kernel
theorem dX3_weighSubscribers_32 : decode cX3_weighSubscribers 32 = .ok (.aload 7, 2) := by decide +kernel
theorem dX3_weighSubscribers_34 : decode cX3_weighSubscribers 34 = .ok (.getfield 55, 3) := by decide +kernel
theorem dX3_weighSubscribers_37 : decode cX3_weighSubscribers 37 = .ok (.i2l, 1) := by decide +kernel
theorem dX3_weighSubscribers_38 : decode cX3_weighSubscribers 38 = .ok (.iload_n 3, 1) := by decide +kernel
theorem dX3_weighSubscribers_39 : decode cX3_weighSubscribers 39 = .ok (.i2l, 1) := by decide +kernel
theorem dX3_weighSubscribers_40 : decode cX3_weighSubscribers 40 = .ok (.lmul, 1) := by decide +kernel
theorem dX3_weighSubscribers_41 : decode cX3_weighSubscribers 41 = .ok (.lstore 8, 2) := by decide +kernel
theorem dX3_weighSubscribers_43 : decode cX3_weighSubscribers 43 = .ok (.iload_n 2, 1) := by decide +kernel
theorem dX3_weighSubscribers_44 : decode cX3_weighSubscribers 44 = .ok (.ifCond .lt 22, 3) := by decide +kernel
theorem dX3_weighSubscribers_47 : decode cX3_weighSubscribers 47 = .ok (.iload_n 2, 1) := by decide +kernel
theorem dX3_weighSubscribers_48 : decode cX3_weighSubscribers 48 = .ok (.bipush 60, 2) := by decide +kernel
theorem dX3_weighSubscribers_50 : decode cX3_weighSubscribers 50 = .ok (.if_icmp .ge 16, 3) := by decide +kernel
theorem dX3_weighSubscribers_53 : decode cX3_weighSubscribers 53 = .ok (.lload 8, 2) := by decide +kernel
theorem dX3_weighSubscribers_55 : decode cX3_weighSubscribers 55 = .ok (.aload 7, 2) := by decide +kernel
theorem dX3_weighSubscribers_57 : decode cX3_weighSubscribers 57 = .ok (.getfield 60, 3) := by decide +kernel
theorem dX3_weighSubscribers_60 : decode cX3_weighSubscribers 60 = .ok (.iload_n 2, 1) := by decide +kernel
theorem dX3_weighSubscribers_61 : decode cX3_weighSubscribers 61 = .ok (.iaload, 1) := by decide +kernel
theorem dX3_weighSubscribers_62 : decode cX3_weighSubscribers 62 = .ok (.i2l, 1) := by decide +kernel
theorem dX3_weighSubscribers_63 : decode cX3_weighSubscribers 63 = .ok (.ladd, 1) := by decide +kernel
theorem dX3_weighSubscribers_64 : decode cX3_weighSubscribers 64 = .ok (.lstore 8, 2) := by decide +kernel
theorem dX3_weighSubscribers_66 : decode cX3_weighSubscribers 66 = .ok (.aload_n 0, 1) := by decide +kernel
theorem dX3_weighSubscribers_67 : decode cX3_weighSubscribers 67 = .ok (.getfield 9, 3) := by decide +kernel
theorem dX3_weighSubscribers_70 : decode cX3_weighSubscribers 70 = .ok (.iload 6, 2) := by decide +kernel
theorem dX3_weighSubscribers_72 : decode cX3_weighSubscribers 72 = .ok (.lload 8, 2) := by decide +kernel
theorem dX3_weighSubscribers_74 : decode cX3_weighSubscribers 74 = .ok (.lastore, 1) := by decide +kernel
theorem dX3_weighSubscribers_75 : decode cX3_weighSubscribers 75 = .ok (.lload 4, 2) := by decide +kernel
theorem dX3_weighSubscribers_77 : decode cX3_weighSubscribers 77 = .ok (.lload 8, 2) := by decide +kernel
theorem dX3_weighSubscribers_79 : decode cX3_weighSubscribers 79 = .ok (.ladd, 1) := by decide +kernel
theorem dX3_weighSubscribers_80 : decode cX3_weighSubscribers 80 = .ok (.lstore 4, 2) := by decide +kernel
theorem dX3_weighSubscribers_82 : decode cX3_weighSubscribers 82 = .ok (.iinc 6 1, 3) := by decide +kernel
theorem dX3_weighSubscribers_85 : decode cX3_weighSubscribers 85 = .ok (.goto (-71), 3) := by decide +kernel
theorem dX3_weighSubscribers_88 : decode cX3_weighSubscribers 88 = .ok (.lload 4, 2) := by decide +kernel
theorem dX3_weighSubscribers_90 : decode cX3_weighSubscribers 90 = .ok (.lreturn, 1) := by decide +kernel
theorem dX3_divide_0 : decode cX3_divide 0 = .ok (.aload_n 0, 1) := by decide +kernel
theorem dX3_divide_1 : decode cX3_divide 1 = .ok (.getfield 37, 3) := by decide +kernel
theorem dX3_divide_4 : decode cX3_divide 4 = .ok (.lconst 1, 1) := by decide +kernel
theorem dX3_divide_5 : decode cX3_divide 5 = .ok (.lcmp, 1) := by decide +kernel
theorem dX3_divide_6 : decode cX3_divide 6 = .ok (.ifCond .ge 12, 3) := by decide +kernel
theorem dX3_divide_9 : decode cX3_divide 9 = .ok (.aload_n 0, 1) := by decide +kernel
theorem dX3_divide_10 : decode cX3_divide 10 = .ok (.getfield 18, 3) := by decide +kernel
theorem dX3_divide_13 : decode cX3_divide 13 = .ok (.lconst 0, 1) := by decide +kernel
theorem dX3_divide_14 : decode cX3_divide 14 = .ok (.invokestatic 41, 3) := by decide +kernel
theorem dX3_divide_17 : decode cX3_divide 17 = .ok (.return_, 1) := by decide +kernel
theorem dX3_divide_18 : decode cX3_divide 18 = .ok (.lload_n 1, 1) := by decide +kernel
theorem dX3_divide_19 : decode cX3_divide 19 = .ok (.lstore_n 3, 1) := by decide +kernel
theorem dX3_divide_20 : decode cX3_divide 20 = .ok (.iconst 0, 1) := by decide +kernel
theorem dX3_divide_21 : decode cX3_divide 21 = .ok (.istore 5, 2) := by decide +kernel
theorem dX3_divide_23 : decode cX3_divide 23 = .ok (.iload 5, 2) := by decide +kernel
theorem dX3_divide_25 : decode cX3_divide 25 = .ok (.bipush 17, 2) := by decide +kernel
theorem dX3_divide_27 : decode cX3_divide 27 = .ok (.if_icmp .ge 58, 3) := by decide +kernel
theorem dX3_divide_30 : decode cX3_divide 30 = .ok (.lload_n 1, 1) := by decide +kernel
theorem dX3_divide_31 : decode cX3_divide 31 = .ok (.aload_n 0, 1) := by decide +kernel
theorem dX3_divide_32 : decode cX3_divide 32 = .ok (.getfield 9, 3) := by decide +kernel
theorem dX3_divide_35 : decode cX3_divide 35 = .ok (.iload 5, 2) := by decide +kernel
theorem dX3_divide_37 : decode cX3_divide 37 = .ok (.laload, 1) := by decide +kernel
theorem dX3_divide_38 : decode cX3_divide 38 = .ok (.lmul, 1) := by decide +kernel
theorem dX3_divide_39 : decode cX3_divide 39 = .ok (.lstore 6, 2) := by decide +kernel
theorem dX3_divide_41 : decode cX3_divide 41 = .ok (.aload_n 0, 1) := by decide +kernel
theorem dX3_divide_42 : decode cX3_divide 42 = .ok (.getfield 18, 3) := by decide +kernel
theorem dX3_divide_45 : decode cX3_divide 45 = .ok (.iload 5, 2) := by decide +kernel
theorem dX3_divide_47 : decode cX3_divide 47 = .ok (.lload 6, 2) := by decide +kernel
theorem dX3_divide_49 : decode cX3_divide 49 = .ok (.aload_n 0, 1) := by decide +kernel
theorem dX3_divide_50 : decode cX3_divide 50 = .ok (.getfield 37, 3) := by decide +kernel
theorem dX3_divide_53 : decode cX3_divide 53 = .ok (.ldiv, 1) := by decide +kernel
theorem dX3_divide_54 : decode cX3_divide 54 = .ok (.lastore, 1) := by decide +kernel
theorem dX3_divide_55 : decode cX3_divide 55 = .ok (.aload_n 0, 1) := by decide +kernel
theorem dX3_divide_56 : decode cX3_divide 56 = .ok (.getfield 15, 3) := by decide +kernel
theorem dX3_divide_59 : decode cX3_divide 59 = .ok (.iload 5, 2) := by decide +kernel
theorem dX3_divide_61 : decode cX3_divide 61 = .ok (.lload 6, 2) := by decide +kernel
theorem dX3_divide_63 : decode cX3_divide 63 = .ok (.aload_n 0, 1) := by decide +kernel
theorem dX3_divide_64 : decode cX3_divide 64 = .ok (.getfield 37, 3) := by decide +kernel
theorem dX3_divide_67 : decode cX3_divide 67 = .ok (.lrem, 1) := by decide +kernel
theorem dX3_divide_68 : decode cX3_divide 68 = .ok (.lastore, 1) := by decide +kernel
theorem dX3_divide_69 : decode cX3_divide 69 = .ok (.lload_n 3, 1) := by decide +kernel
theorem dX3_divide_70 : decode cX3_divide 70 = .ok (.aload_n 0, 1) := by decide +kernel
theorem dX3_divide_71 : decode cX3_divide 71 = .ok (.getfield 18, 3) := by decide +kernel
theorem dX3_divide_74 : decode cX3_divide 74 = .ok (.iload 5, 2) := by decide +kernel
theorem dX3_divide_76 : decode cX3_divide 76 = .ok (.laload, 1) := by decide +kernel
theorem dX3_divide_77 : decode cX3_divide 77 = .ok (.lsub, 1) := by decide +kernel
theorem dX3_divide_78 : decode cX3_divide 78 = .ok (.lstore_n 3, 1) := by decide +kernel
theorem dX3_divide_79 : decode cX3_divide 79 = .ok (.iinc 5 1, 3) := by decide +kernel
theorem dX3_divide_82 : decode cX3_divide 82 = .ok (.goto (-59), 3) := by decide +kernel
theorem dX3_divide_85 : decode cX3_divide 85 = .ok (.iconst 0, 1) := by decide +kernel
theorem dX3_divide_86 : decode cX3_divide 86 = .ok (.istore 5, 2) := by decide +kernel
theorem dX3_divide_88 : decode cX3_divide 88 = .ok (.iload 5, 2) := by decide +kernel
theorem dX3_divide_90 : decode cX3_divide 90 = .ok (.bipush 17, 2) := by decide +kernel
theorem dX3_divide_92 : decode cX3_divide 92 = .ok (.if_icmp .ge 23, 3) := by decide +kernel
theorem dX3_divide_95 : decode cX3_divide 95 = .ok (.lload_n 3, 1) := by decide +kernel
theorem dX3_divide_96 : decode cX3_divide 96 = .ok (.lconst 0, 1) := by decide +kernel
theorem dX3_divide_97 : decode cX3_divide 97 = .ok (.lcmp, 1) := by decide +kernel
theorem dX3_divide_98 : decode cX3_divide 98 = .ok (.ifCond .le 17, 3) := by decide +kernel
theorem dX3_divide_101 : decode cX3_divide 101 = .ok (.aload_n 0, 1) := by decide +kernel
theorem dX3_divide_102 : decode cX3_divide 102 = .ok (.invokevirtual 64, 3) := by decide +kernel
theorem dX3_divide_105 : decode cX3_divide 105 = .ok (.lload_n 3, 1) := by decide +kernel
theorem dX3_divide_106 : decode cX3_divide 106 = .ok (.lconst 1, 1) := by decide +kernel
theorem dX3_divide_107 : decode cX3_divide 107 = .ok (.lsub, 1) := by decide +kernel
theorem dX3_divide_108 : decode cX3_divide 108 = .ok (.lstore_n 3, 1) := by decide +kernel
theorem dX3_divide_109 : decode cX3_divide 109 = .ok (.iinc 5 1, 3) := by decide +kernel
theorem dX3_divide_112 : decode cX3_divide 112 = .ok (.goto (-24), 3) := by decide +kernel
theorem dX3_divide_115 : decode cX3_divide 115 = .ok (.return_, 1) := by decide +kernel
theorem dX3_giveToGreatestRemainder_0 : decode cX3_giveToGreatestRemainder 0 = .ok (.iconst 0, 1) := by decide +kernel
theorem dX3_giveToGreatestRemainder_1 : decode cX3_giveToGreatestRemainder 1 = .ok (.istore_n 1, 1) := by decide +kernel
theorem dX3_giveToGreatestRemainder_2 : decode cX3_giveToGreatestRemainder 2 = .ok (.iconst 1, 1) := by decide +kernel
theorem dX3_giveToGreatestRemainder_3 : decode cX3_giveToGreatestRemainder 3 = .ok (.istore_n 2, 1) := by decide +kernel
theorem dX3_giveToGreatestRemainder_4 : decode cX3_giveToGreatestRemainder 4 = .ok (.iload_n 2, 1) := by decide +kernel
theorem dX3_giveToGreatestRemainder_5 : decode cX3_giveToGreatestRemainder 5 = .ok (.bipush 17, 2) := by decide +kernel
theorem dX3_giveToGreatestRemainder_7 : decode cX3_giveToGreatestRemainder 7 = .ok (.if_icmp .ge 27, 3) := by decide +kernel
theorem dX3_giveToGreatestRemainder_10 : decode cX3_giveToGreatestRemainder 10 = .ok (.aload_n 0, 1) := by decide +kernel
theorem dX3_giveToGreatestRemainder_11 : decode cX3_giveToGreatestRemainder 11 = .ok (.getfield 15, 3) := by decide +kernel
theorem dX3_giveToGreatestRemainder_14 : decode cX3_giveToGreatestRemainder 14 = .ok (.iload_n 2, 1) := by decide +kernel
theorem dX3_giveToGreatestRemainder_15 : decode cX3_giveToGreatestRemainder 15 = .ok (.laload, 1) := by decide +kernel
theorem dX3_giveToGreatestRemainder_16 : decode cX3_giveToGreatestRemainder 16 = .ok (.aload_n 0, 1) := by decide +kernel
theorem dX3_giveToGreatestRemainder_17 : decode cX3_giveToGreatestRemainder 17 = .ok (.getfield 15, 3) := by decide +kernel
theorem dX3_giveToGreatestRemainder_20 : decode cX3_giveToGreatestRemainder 20 = .ok (.iload_n 1, 1) := by decide +kernel
theorem dX3_giveToGreatestRemainder_21 : decode cX3_giveToGreatestRemainder 21 = .ok (.laload, 1) := by decide +kernel
theorem dX3_giveToGreatestRemainder_22 : decode cX3_giveToGreatestRemainder 22 = .ok (.lcmp, 1) := by decide +kernel
theorem dX3_giveToGreatestRemainder_23 : decode cX3_giveToGreatestRemainder 23 = .ok (.ifCond .le 5, 3) := by decide +kernel
theorem dX3_giveToGreatestRemainder_26 : decode cX3_giveToGreatestRemainder 26 = .ok (.iload_n 2, 1) := by decide +kernel
theorem dX3_giveToGreatestRemainder_27 : decode cX3_giveToGreatestRemainder 27 = .ok (.istore_n 1, 1) := by decide +kernel
theorem dX3_giveToGreatestRemainder_28 : decode cX3_giveToGreatestRemainder 28 = .ok (.iinc 2 1, 3) := by decide +kernel
theorem dX3_giveToGreatestRemainder_31 : decode cX3_giveToGreatestRemainder 31 = .ok (.goto (-27), 3) := by decide +kernel
theorem dX3_giveToGreatestRemainder_34 : decode cX3_giveToGreatestRemainder 34 = .ok (.aload_n 0, 1) := by decide +kernel
theorem dX3_giveToGreatestRemainder_35 : decode cX3_giveToGreatestRemainder 35 = .ok (.getfield 18, 3) := by decide +kernel
theorem dX3_giveToGreatestRemainder_38 : decode cX3_giveToGreatestRemainder 38 = .ok (.iload_n 1, 1) := by decide +kernel
theorem dX3_giveToGreatestRemainder_39 : decode cX3_giveToGreatestRemainder 39 = .ok (.dup2, 1) := by decide +kernel
theorem dX3_giveToGreatestRemainder_40 : decode cX3_giveToGreatestRemainder 40 = .ok (.laload, 1) := by decide +kernel
theorem dX3_giveToGreatestRemainder_41 : decode cX3_giveToGreatestRemainder 41 = .ok (.lconst 1, 1) := by decide +kernel
theorem dX3_giveToGreatestRemainder_42 : decode cX3_giveToGreatestRemainder 42 = .ok (.ladd, 1) := by decide +kernel
theorem dX3_giveToGreatestRemainder_43 : decode cX3_giveToGreatestRemainder 43 = .ok (.lastore, 1) := by decide +kernel
theorem dX3_giveToGreatestRemainder_44 : decode cX3_giveToGreatestRemainder 44 = .ok (.aload_n 0, 1) := by decide +kernel
theorem dX3_giveToGreatestRemainder_45 : decode cX3_giveToGreatestRemainder 45 = .ok (.getfield 15, 3) := by decide +kernel
theorem dX3_giveToGreatestRemainder_48 : decode cX3_giveToGreatestRemainder 48 = .ok (.iload_n 1, 1) := by decide +kernel
theorem dX3_giveToGreatestRemainder_49 : decode cX3_giveToGreatestRemainder 49 = .ok (.ldc2_w 67, 3) := by decide +kernel
theorem dX3_giveToGreatestRemainder_52 : decode cX3_giveToGreatestRemainder 52 = .ok (.lastore, 1) := by decide +kernel
theorem dX3_giveToGreatestRemainder_53 : decode cX3_giveToGreatestRemainder 53 = .ok (.return_, 1) := by decide +kernel
theorem dX4_init_0 : decode cX4_init 0 = .ok (.aload_n 0, 1) := by decide +kernel
theorem dX4_init_1 : decode cX4_init 1 = .ok (.invokespecial 3, 3) := by decide +kernel
theorem dX4_init_4 : decode cX4_init 4 = .ok (.aload_n 0, 1) := by decide +kernel
theorem dX4_init_5 : decode cX4_init 5 = .ok (.sipush 1000, 3) := by decide +kernel
theorem dX4_init_8 : decode cX4_init 8 = .ok (.putfield 9, 3) := by decide +kernel
theorem dX4_init_11 : decode cX4_init 11 = .ok (.aload_n 0, 1) := by decide +kernel
theorem dX4_init_12 : decode cX4_init 12 = .ok (.bipush 12, 2) := by decide +kernel
theorem dX4_init_14 : decode cX4_init 14 = .ok (.putfield 15, 3) := by decide +kernel
theorem dX4_init_17 : decode cX4_init 17 = .ok (.aload_n 0, 1) := by decide +kernel
theorem dX4_init_18 : decode cX4_init 18 = .ok (.bipush 50, 2) := by decide +kernel
theorem dX4_init_20 : decode cX4_init 20 = .ok (.putfield 18, 3) := by decide +kernel
theorem dX4_init_23 : decode cX4_init 23 = .ok (.aload_n 0, 1) := by decide +kernel
theorem dX4_init_24 : decode cX4_init 24 = .ok (.bipush 100, 2) := by decide +kernel
theorem dX4_init_26 : decode cX4_init 26 = .ok (.putfield 21, 3) := by decide +kernel
theorem dX4_init_29 : decode cX4_init 29 = .ok (.aload_n 0, 1) := by decide +kernel
theorem dX4_init_30 : decode cX4_init 30 = .ok (.iconst 1, 1) := by decide +kernel
theorem dX4_init_31 : decode cX4_init 31 = .ok (.putfield 24, 3) := by decide +kernel
theorem dX4_init_34 : decode cX4_init 34 = .ok (.aload_n 0, 1) := by decide +kernel
theorem dX4_init_35 : decode cX4_init 35 = .ok (.iconst 4, 1) := by decide +kernel
theorem dX4_init_36 : decode cX4_init 36 = .ok (.newarray .int, 2) := by decide +kernel
theorem dX4_init_38 : decode cX4_init 38 = .ok (.dup, 1) := by decide +kernel
theorem dX4_init_39 : decode cX4_init 39 = .ok (.iconst 0, 1) := by decide +kernel
theorem dX4_init_40 : decode cX4_init 40 = .ok (.bipush 10, 2) := by decide +kernel
theorem dX4_init_42 : decode cX4_init 42 = .ok (.iastore, 1) := by decide +kernel
theorem dX4_init_43 : decode cX4_init 43 = .ok (.dup, 1) := by decide +kernel
theorem dX4_init_44 : decode cX4_init 44 = .ok (.iconst 1, 1) := by decide +kernel
theorem dX4_init_45 : decode cX4_init 45 = .ok (.iconst 0, 1) := by decide +kernel
theorem dX4_init_46 : decode cX4_init 46 = .ok (.iastore, 1) := by decide +kernel
theorem dX4_init_47 : decode cX4_init 47 = .ok (.dup, 1) := by decide +kernel
theorem dX4_init_48 : decode cX4_init 48 = .ok (.iconst 2, 1) := by decide +kernel
theorem dX4_init_49 : decode cX4_init 49 = .ok (.iconst 0, 1) := by decide +kernel
theorem dX4_init_50 : decode cX4_init 50 = .ok (.iastore, 1) := by decide +kernel
theorem dX4_init_51 : decode cX4_init 51 = .ok (.dup, 1) := by decide +kernel
theorem dX4_init_52 : decode cX4_init 52 = .ok (.iconst 3, 1) := by decide +kernel
theorem dX4_init_53 : decode cX4_init 53 = .ok (.iconst 0, 1) := by decide +kernel
theorem dX4_init_54 : decode cX4_init 54 = .ok (.iastore, 1) := by decide +kernel
theorem dX4_init_55 : decode cX4_init 55 = .ok (.putfield 27, 3) := by decide +kernel
theorem dX4_init_58 : decode cX4_init 58 = .ok (.aload_n 0, 1) := by decide +kernel
theorem dX4_init_59 : decode cX4_init 59 = .ok (.bipush 24, 2) := by decide +kernel
theorem dX4_init_61 : decode cX4_init 61 = .ok (.newarray .int, 2) := by decide +kernel
theorem dX4_init_63 : decode cX4_init 63 = .ok (.putfield 31, 3) := by decide +kernel
theorem dX4_init_66 : decode cX4_init 66 = .ok (.return_, 1) := by decide +kernel
theorem dX4_copyFrom_0 : decode cX4_copyFrom 0 = .ok (.aload_n 0, 1) := by decide +kernel
theorem dX4_copyFrom_1 : decode cX4_copyFrom 1 = .ok (.aload_n 1, 1) := by decide +kernel
theorem dX4_copyFrom_2 : decode cX4_copyFrom 2 = .ok (.getfield 9, 3) := by decide +kernel
theorem dX4_copyFrom_5 : decode cX4_copyFrom 5 = .ok (.putfield 9, 3) := by decide +kernel
theorem dX4_copyFrom_8 : decode cX4_copyFrom 8 = .ok (.aload_n 0, 1) := by decide +kernel
theorem dX4_copyFrom_9 : decode cX4_copyFrom 9 = .ok (.aload_n 1, 1) := by decide +kernel
theorem dX4_copyFrom_10 : decode cX4_copyFrom 10 = .ok (.getfield 15, 3) := by decide +kernel
theorem dX4_copyFrom_13 : decode cX4_copyFrom 13 = .ok (.putfield 15, 3) := by decide +kernel
theorem dX4_copyFrom_16 : decode cX4_copyFrom 16 = .ok (.aload_n 0, 1) := by decide +kernel
theorem dX4_copyFrom_17 : decode cX4_copyFrom 17 = .ok (.aload_n 1, 1) := by decide +kernel
theorem dX4_copyFrom_18 : decode cX4_copyFrom 18 = .ok (.getfield 18, 3) := by decide +kernel
theorem dX4_copyFrom_21 : decode cX4_copyFrom 21 = .ok (.putfield 18, 3) := by decide +kernel
theorem dX4_copyFrom_24 : decode cX4_copyFrom 24 = .ok (.aload_n 0, 1) := by decide +kernel
theorem dX4_copyFrom_25 : decode cX4_copyFrom 25 = .ok (.aload_n 1, 1) := by decide +kernel
theorem dX4_copyFrom_26 : decode cX4_copyFrom 26 = .ok (.getfield 21, 3) := by decide +kernel
theorem dX4_copyFrom_29 : decode cX4_copyFrom 29 = .ok (.putfield 21, 3) := by decide +kernel
theorem dX4_copyFrom_32 : decode cX4_copyFrom 32 = .ok (.aload_n 0, 1) := by decide +kernel
theorem dX4_copyFrom_33 : decode cX4_copyFrom 33 = .ok (.aload_n 1, 1) := by decide +kernel
theorem dX4_copyFrom_34 : decode cX4_copyFrom 34 = .ok (.getfield 24, 3) := by decide +kernel
theorem dX4_copyFrom_37 : decode cX4_copyFrom 37 = .ok (.putfield 24, 3) := by decide +kernel
theorem dX4_copyFrom_40 : decode cX4_copyFrom 40 = .ok (.aload_n 1, 1) := by decide +kernel
theorem dX4_copyFrom_41 : decode cX4_copyFrom 41 = .ok (.getfield 27, 3) := by decide +kernel
theorem dX4_copyFrom_44 : decode cX4_copyFrom 44 = .ok (.iconst 0, 1) := by decide +kernel
theorem dX4_copyFrom_45 : decode cX4_copyFrom 45 = .ok (.aload_n 0, 1) := by decide +kernel
theorem dX4_copyFrom_46 : decode cX4_copyFrom 46 = .ok (.getfield 27, 3) := by decide +kernel
theorem dX4_copyFrom_49 : decode cX4_copyFrom 49 = .ok (.iconst 0, 1) := by decide +kernel
theorem dX4_copyFrom_50 : decode cX4_copyFrom 50 = .ok (.iconst 4, 1) := by decide +kernel
theorem dX4_copyFrom_51 : decode cX4_copyFrom 51 = .ok (.invokestatic 34, 3) := by decide +kernel
theorem dX4_copyFrom_54 : decode cX4_copyFrom 54 = .ok (.aload_n 1, 1) := by decide +kernel
theorem dX4_copyFrom_55 : decode cX4_copyFrom 55 = .ok (.getfield 31, 3) := by decide +kernel
theorem dX4_copyFrom_58 : decode cX4_copyFrom 58 = .ok (.iconst 0, 1) := by decide +kernel
theorem dX4_copyFrom_59 : decode cX4_copyFrom 59 = .ok (.aload_n 0, 1) := by decide +kernel
theorem dX4_copyFrom_60 : decode cX4_copyFrom 60 = .ok (.getfield 31, 3) := by decide +kernel
theorem dX4_copyFrom_63 : decode cX4_copyFrom 63 = .ok (.iconst 0, 1) := by decide +kernel
theorem dX4_copyFrom_64 : decode cX4_copyFrom 64 = .ok (.bipush 24, 2) := by decide +kernel
theorem dX4_copyFrom_66 : decode cX4_copyFrom 66 = .ok (.invokestatic 34, 3) := by decide +kernel
theorem dX4_copyFrom_69 : decode cX4_copyFrom 69 = .ok (.return_, 1) := by decide +kernel
theorem dX4_clearPeriods_0 : decode cX4_clearPeriods 0 = .ok (.aload_n 0, 1) := by decide +kernel
theorem dX4_clearPeriods_1 : decode cX4_clearPeriods 1 = .ok (.iconst 0, 1) := by decide +kernel
theorem dX4_clearPeriods_2 : decode cX4_clearPeriods 2 = .ok (.putfield 24, 3) := by decide +kernel
theorem dX4_clearPeriods_5 : decode cX4_clearPeriods 5 = .ok (.aload_n 0, 1) := by decide +kernel
theorem dX4_clearPeriods_6 : decode cX4_clearPeriods 6 = .ok (.getfield 31, 3) := by decide +kernel
theorem dX4_clearPeriods_9 : decode cX4_clearPeriods 9 = .ok (.iconst 0, 1) := by decide +kernel
theorem dX4_clearPeriods_10 : decode cX4_clearPeriods 10 = .ok (.invokestatic 40, 3) := by decide +kernel
theorem dX4_clearPeriods_13 : decode cX4_clearPeriods 13 = .ok (.return_, 1) := by decide +kernel
theorem dX4_addPeriod_0 : decode cX4_addPeriod 0 = .ok (.aload_n 0, 1) := by decide +kernel
theorem dX4_addPeriod_1 : decode cX4_addPeriod 1 = .ok (.getfield 24, 3) := by decide +kernel
theorem dX4_addPeriod_4 : decode cX4_addPeriod 4 = .ok (.iconst 4, 1) := by decide +kernel
theorem dX4_addPeriod_5 : decode cX4_addPeriod 5 = .ok (.if_icmp .ge 23, 3) := by decide +kernel
theorem dX4_addPeriod_8 : decode cX4_addPeriod 8 = .ok (.aload_n 0, 1) := by decide +kernel
theorem dX4_addPeriod_9 : decode cX4_addPeriod 9 = .ok (.getfield 27, 3) := by decide +kernel
theorem dX4_addPeriod_12 : decode cX4_addPeriod 12 = .ok (.aload_n 0, 1) := by decide +kernel
theorem dX4_addPeriod_13 : decode cX4_addPeriod 13 = .ok (.getfield 24, 3) := by decide +kernel
theorem dX4_addPeriod_16 : decode cX4_addPeriod 16 = .ok (.iload_n 1, 1) := by decide +kernel
theorem dX4_addPeriod_17 : decode cX4_addPeriod 17 = .ok (.iastore, 1) := by decide +kernel
theorem dX4_addPeriod_18 : decode cX4_addPeriod 18 = .ok (.aload_n 0, 1) := by decide +kernel
theorem dX4_addPeriod_19 : decode cX4_addPeriod 19 = .ok (.dup, 1) := by decide +kernel
theorem dX4_addPeriod_20 : decode cX4_addPeriod 20 = .ok (.getfield 24, 3) := by decide +kernel
theorem dX4_addPeriod_23 : decode cX4_addPeriod 23 = .ok (.iconst 1, 1) := by decide +kernel
theorem dX4_addPeriod_24 : decode cX4_addPeriod 24 = .ok (.iadd, 1) := by decide +kernel
theorem dX4_addPeriod_25 : decode cX4_addPeriod 25 = .ok (.putfield 24, 3) := by decide +kernel
theorem dX4_addPeriod_28 : decode cX4_addPeriod 28 = .ok (.return_, 1) := by decide +kernel
theorem dX4_setHours_0 : decode cX4_setHours 0 = .ok (.iload_n 1, 1) := by decide +kernel
theorem dX4_setHours_1 : decode cX4_setHours 1 = .ok (.iconst 0, 1) := by decide +kernel
theorem dX4_setHours_2 : decode cX4_setHours 2 = .ok (.invokestatic 46, 3) := by decide +kernel
theorem dX4_setHours_5 : decode cX4_setHours 5 = .ok (.istore 4, 2) := by decide +kernel
theorem dX4_setHours_7 : decode cX4_setHours 7 = .ok (.iload 4, 2) := by decide +kernel
theorem dX4_setHours_9 : decode cX4_setHours 9 = .ok (.iload_n 2, 1) := by decide +kernel
theorem dX4_setHours_10 : decode cX4_setHours 10 = .ok (.if_icmp .ge 24, 3) := by decide +kernel
theorem dX4_setHours_13 : decode cX4_setHours 13 = .ok (.iload 4, 2) := by decide +kernel
theorem dX4_setHours_15 : decode cX4_setHours 15 = .ok (.bipush 24, 2) := by decide +kernel
theorem dX4_setHours_17 : decode cX4_setHours 17 = .ok (.if_icmp .ge 17, 3) := by decide +kernel
theorem dX4_setHours_20 : decode cX4_setHours 20 = .ok (.aload_n 0, 1) := by decide +kernel
theorem dX4_setHours_21 : decode cX4_setHours 21 = .ok (.getfield 31, 3) := by decide +kernel
theorem dX4_setHours_24 : decode cX4_setHours 24 = .ok (.iload 4, 2) := by decide +kernel
theorem dX4_setHours_26 : decode cX4_setHours 26 = .ok (.iload_n 3, 1) := by decide +kernel
theorem dX4_setHours_27 : decode cX4_setHours 27 = .ok (.iastore, 1) := by decide +kernel
theorem dX4_setHours_28 : decode cX4_setHours 28 = .ok (.iinc 4 1, 3) := by decide +kernel
theorem dX4_setHours_31 : decode cX4_setHours 31 = .ok (.goto (-24), 3) := by decide +kernel
theorem dX4_setHours_34 : decode cX4_setHours 34 = .ok (.return_, 1) := by decide +kernel
theorem dX4_greatestHolding_0 : decode cX4_greatestHolding 0 = .ok (.iconst 1, 1) := by decide +kernel
theorem dX4_greatestHolding_1 : decode cX4_greatestHolding 1 = .ok (.aload_n 0, 1) := by decide +kernel
theorem dX4_greatestHolding_2 : decode cX4_greatestHolding 2 = .ok (.getfield 9, 3) := by decide +kernel
theorem dX4_greatestHolding_5 : decode cX4_greatestHolding 5 = .ok (.aload_n 0, 1) := by decide +kernel
theorem dX4_greatestHolding_6 : decode cX4_greatestHolding 6 = .ok (.getfield 21, 3) := by decide +kernel
theorem dX4_greatestHolding_9 : decode cX4_greatestHolding 9 = .ok (.imul, 1) := by decide +kernel
theorem dX4_greatestHolding_10 : decode cX4_greatestHolding 10 = .ok (.bipush 100, 2) := by decide +kernel
theorem dX4_greatestHolding_12 : decode cX4_greatestHolding 12 = .ok (.idiv, 1) := by decide +kernel
theorem dX4_greatestHolding_13 : decode cX4_greatestHolding 13 = .ok (.invokestatic 46, 3) := by decide +kernel
theorem dX4_greatestHolding_16 : decode cX4_greatestHolding 16 = .ok (.ireturn, 1) := by decide +kernel
theorem dX4_monthShareDays_0 : decode cX4_monthShareDays 0 = .ok (.bipush 30, 2) := by decide +kernel
theorem dX4_monthShareDays_2 : decode cX4_monthShareDays 2 = .ok (.aload_n 0, 1) := by decide +kernel
theorem dX4_monthShareDays_3 : decode cX4_monthShareDays 3 = .ok (.getfield 9, 3) := by decide +kernel
theorem dX4_monthShareDays_6 : decode cX4_monthShareDays 6 = .ok (.imul, 1) := by decide +kernel
theorem dX4_monthShareDays_7 : decode cX4_monthShareDays 7 = .ok (.ireturn, 1) := by decide +kernel
theorem dX5_init_0 : decode cX5_init 0 = .ok (.aload_n 0, 1) := by decide +kernel
theorem dX5_init_1 : decode cX5_init 1 = .ok (.invokespecial 3, 3) := by decide +kernel
theorem dX5_init_4 : decode cX5_init 4 = .ok (.aload_n 0, 1) := by decide +kernel
theorem dX5_init_5 : decode cX5_init 5 = .ok (.sipush 300, 3) := by decide +kernel
theorem dX5_init_8 : decode cX5_init 8 = .ok (.newarray .byte, 2) := by decide +kernel
theorem dX5_init_10 : decode cX5_init 10 = .ok (.putfield 9, 3) := by decide +kernel
theorem dX5_init_13 : decode cX5_init 13 = .ok (.aload_n 0, 1) := by decide +kernel
theorem dX5_init_14 : decode cX5_init 14 = .ok (.new 15, 3) := by decide +kernel
theorem dX5_init_17 : decode cX5_init 17 = .ok (.dup, 1) := by decide +kernel
theorem dX5_init_18 : decode cX5_init 18 = .ok (.invokespecial 17, 3) := by decide +kernel
theorem dX5_init_21 : decode cX5_init 21 = .ok (.putfield 18, 3) := by decide +kernel
theorem dX5_init_24 : decode cX5_init 24 = .ok (.return_, 1) := by decide +kernel
theorem dX5_hasRoomFor_0 : decode cX5_hasRoomFor 0 = .ok (.iload_n 1, 1) := by decide +kernel
theorem dX5_hasRoomFor_1 : decode cX5_hasRoomFor 1 = .ok (.sipush 300, 3) := by decide +kernel
theorem dX5_hasRoomFor_4 : decode cX5_hasRoomFor 4 = .ok (.aload_n 0, 1) := by decide +kernel
theorem dX5_hasRoomFor_5 : decode cX5_hasRoomFor 5 = .ok (.getfield 22, 3) := by decide +kernel
theorem dX5_hasRoomFor_8 : decode cX5_hasRoomFor 8 = .ok (.isub, 1) := by decide +kernel
theorem dX5_hasRoomFor_9 : decode cX5_hasRoomFor 9 = .ok (.if_icmp .gt 7, 3) := by decide +kernel
theorem dX5_hasRoomFor_12 : decode cX5_hasRoomFor 12 = .ok (.iconst 1, 1) := by decide +kernel
theorem dX5_hasRoomFor_13 : decode cX5_hasRoomFor 13 = .ok (.goto 4, 3) := by decide +kernel
theorem dX5_hasRoomFor_16 : decode cX5_hasRoomFor 16 = .ok (.iconst 0, 1) := by decide +kernel
theorem dX5_hasRoomFor_17 : decode cX5_hasRoomFor 17 = .ok (.ireturn, 1) := by decide +kernel
theorem dX5_addWord_0 : decode cX5_addWord 0 = .ok (.bipush 24, 2) := by decide +kernel
theorem dX5_addWord_2 : decode cX5_addWord 2 = .ok (.istore_n 2, 1) := by decide +kernel
theorem dX5_addWord_3 : decode cX5_addWord 3 = .ok (.iload_n 2, 1) := by decide +kernel
theorem dX5_addWord_4 : decode cX5_addWord 4 = .ok (.ifCond .lt 42, 3) := by decide +kernel
theorem dX5_addWord_7 : decode cX5_addWord 7 = .ok (.aload_n 0, 1) := by decide +kernel
theorem dX5_addWord_8 : decode cX5_addWord 8 = .ok (.getfield 22, 3) := by decide +kernel
theorem dX5_addWord_11 : decode cX5_addWord 11 = .ok (.sipush 300, 3) := by decide +kernel
theorem dX5_addWord_14 : decode cX5_addWord 14 = .ok (.if_icmp .ge 26, 3) := by decide +kernel
theorem dX5_addWord_17 : decode cX5_addWord 17 = .ok (.aload_n 0, 1) := by decide +kernel
theorem dX5_addWord_18 : decode cX5_addWord 18 = .ok (.getfield 9, 3) := by decide +kernel
theorem dX5_addWord_21 : decode cX5_addWord 21 = .ok (.aload_n 0, 1) := by decide +kernel
theorem dX5_addWord_22 : decode cX5_addWord 22 = .ok (.getfield 22, 3) := by decide +kernel
theorem dX5_addWord_25 : decode cX5_addWord 25 = .ok (.iload_n 1, 1) := by decide +kernel
theorem dX5_addWord_26 : decode cX5_addWord 26 = .ok (.iload_n 2, 1) := by decide +kernel
theorem dX5_addWord_27 : decode cX5_addWord 27 = .ok (.iushr, 1) := by decide +kernel
theorem dX5_addWord_28 : decode cX5_addWord 28 = .ok (.i2b, 1) := by decide +kernel
theorem dX5_addWord_29 : decode cX5_addWord 29 = .ok (.bastore, 1) := by decide +kernel
theorem dX5_addWord_30 : decode cX5_addWord 30 = .ok (.aload_n 0, 1) := by decide +kernel
theorem dX5_addWord_31 : decode cX5_addWord 31 = .ok (.dup, 1) := by decide +kernel
theorem dX5_addWord_32 : decode cX5_addWord 32 = .ok (.getfield 22, 3) := by decide +kernel
theorem dX5_addWord_35 : decode cX5_addWord 35 = .ok (.iconst 1, 1) := by decide +kernel
theorem dX5_addWord_36 : decode cX5_addWord 36 = .ok (.iadd, 1) := by decide +kernel
theorem dX5_addWord_37 : decode cX5_addWord 37 = .ok (.putfield 22, 3) := by decide +kernel
theorem dX5_addWord_40 : decode cX5_addWord 40 = .ok (.iinc 2 (-8), 3) := by decide +kernel
theorem dX5_addWord_43 : decode cX5_addWord 43 = .ok (.goto (-40), 3) := by decide +kernel
theorem dX5_addWord_46 : decode cX5_addWord 46 = .ok (.return_, 1) := by decide +kernel
theorem dX5_read_0 : decode cX5_read 0 = .ok (.aload_n 0, 1) := by decide +kernel
theorem dX5_read_1 : decode cX5_read 1 = .ok (.iload_n 1, 1) := by decide +kernel
theorem dX5_read_2 : decode cX5_read 2 = .ok (.sipush 300, 3) := by decide +kernel
theorem dX5_read_5 : decode cX5_read 5 = .ok (.invokestatic 26, 3) := by decide +kernel
theorem dX5_read_8 : decode cX5_read 8 = .ok (.putfield 32, 3) := by decide +kernel
theorem dX5_read_11 : decode cX5_read 11 = .ok (.aload_n 0, 1) := by decide +kernel
theorem dX5_read_12 : decode cX5_read 12 = .ok (.iconst 0, 1) := by decide +kernel
theorem dX5_read_13 : decode cX5_read 13 = .ok (.putfield 35, 3) := by decide +kernel
theorem dX5_read_16 : decode cX5_read 16 = .ok (.aload_n 0, 1) := by decide +kernel
theorem dX5_read_17 : decode cX5_read 17 = .ok (.iconst 0, 1) := by decide +kernel
theorem dX5_read_18 : decode cX5_read 18 = .ok (.putfield 38, 3) := by decide +kernel
theorem dX5_read_21 : decode cX5_read 21 = .ok (.aload_n 0, 1) := by decide +kernel
theorem dX5_read_22 : decode cX5_read 22 = .ok (.iconst 0, 1) := by decide +kernel
theorem dX5_read_23 : decode cX5_read 23 = .ok (.putfield 22, 3) := by decide +kernel
theorem dX5_read_26 : decode cX5_read 26 = .ok (.aload_n 0, 1) := by decide +kernel
theorem dX5_read_27 : decode cX5_read 27 = .ok (.getfield 18, 3) := by decide +kernel
theorem dX5_read_30 : decode cX5_read 30 = .ok (.invokevirtual 41, 3) := by decide +kernel
theorem dX5_read_33 : decode cX5_read 33 = .ok (.aload_n 0, 1) := by decide +kernel
theorem dX5_read_34 : decode cX5_read 34 = .ok (.invokevirtual 44, 3) := by decide +kernel
theorem dX5_read_37 : decode cX5_read 37 = .ok (.aload_n 0, 1) := by decide +kernel
theorem dX5_read_38 : decode cX5_read 38 = .ok (.invokevirtual 47, 3) := by decide +kernel
theorem dX5_read_41 : decode cX5_read 41 = .ok (.aload_n 0, 1) := by decide +kernel
theorem dX5_read_42 : decode cX5_read 42 = .ok (.invokevirtual 50, 3) := by decide +kernel
theorem dX5_read_45 : decode cX5_read 45 = .ok (.aload_n 0, 1) := by decide +kernel
theorem dX5_read_46 : decode cX5_read 46 = .ok (.getfield 38, 3) := by decide +kernel
theorem dX5_read_49 : decode cX5_read 49 = .ok (.ireturn, 1) := by decide +kernel
theorem dX5_readGardenStatement_0 : decode cX5_readGardenStatement 0 = .ok (.aload_n 0, 1) := by decide +kernel
theorem dX5_readGardenStatement_1 : decode cX5_readGardenStatement 1 = .ok (.ldc 53, 2) := by decide +kernel
theorem dX5_readGardenStatement_3 : decode cX5_readGardenStatement 3 = .ok (.invokevirtual 54, 3) := by decide +kernel
theorem dX5_readGardenStatement_6 : decode cX5_readGardenStatement 6 = .ok (.aload_n 0, 1) := by decide +kernel
theorem dX5_readGardenStatement_7 : decode cX5_readGardenStatement 7 = .ok (.getfield 18, 3) := by decide +kernel
theorem dX5_readGardenStatement_10 : decode cX5_readGardenStatement 10 = .ok (.aload_n 0, 1) := by decide +kernel
theorem dX5_readGardenStatement_11 : decode cX5_readGardenStatement 11 = .ok (.iconst 1, 1) := by decide +kernel
theorem dX5_readGardenStatement_12 : decode cX5_readGardenStatement 12 = .ok (.ldc 58, 2) := by decide +kernel
theorem dX5_readGardenStatement_14 : decode cX5_readGardenStatement 14 = .ok (.invokevirtual 59, 3) := by decide +kernel
theorem dX5_readGardenStatement_17 : decode cX5_readGardenStatement 17 = .ok (.putfield 62, 3) := by decide +kernel
theorem dX5_readGardenStatement_20 : decode cX5_readGardenStatement 20 = .ok (.aload_n 0, 1) := by decide +kernel
theorem dX5_readGardenStatement_21 : decode cX5_readGardenStatement 21 = .ok (.getfield 18, 3) := by decide +kernel
theorem dX5_readGardenStatement_24 : decode cX5_readGardenStatement 24 = .ok (.aload_n 0, 1) := by decide +kernel
theorem dX5_readGardenStatement_25 : decode cX5_readGardenStatement 25 = .ok (.iconst 1, 1) := by decide +kernel
theorem dX5_readGardenStatement_26 : decode cX5_readGardenStatement 26 = .ok (.bipush 24, 2) := by decide +kernel
theorem dX5_readGardenStatement_28 : decode cX5_readGardenStatement 28 = .ok (.invokevirtual 59, 3) := by decide +kernel
theorem dX5_readGardenStatement_31 : decode cX5_readGardenStatement 31 = .ok (.putfield 65, 3) := by decide +kernel
theorem dX5_readGardenStatement_34 : decode cX5_readGardenStatement 34 = .ok (.aload_n 0, 1) := by decide +kernel
theorem dX5_readGardenStatement_35 : decode cX5_readGardenStatement 35 = .ok (.getfield 18, 3) := by decide +kernel
theorem dX5_readGardenStatement_38 : decode cX5_readGardenStatement 38 = .ok (.aload_n 0, 1) := by decide +kernel
theorem dX5_readGardenStatement_39 : decode cX5_readGardenStatement 39 = .ok (.iconst 0, 1) := by decide +kernel
theorem dX5_readGardenStatement_40 : decode cX5_readGardenStatement 40 = .ok (.bipush 100, 2) := by decide +kernel
theorem dX5_readGardenStatement_42 : decode cX5_readGardenStatement 42 = .ok (.invokevirtual 59, 3) := by decide +kernel
theorem dX5_readGardenStatement_45 : decode cX5_readGardenStatement 45 = .ok (.putfield 68, 3) := by decide +kernel
theorem dX5_readGardenStatement_48 : decode cX5_readGardenStatement 48 = .ok (.aload_n 0, 1) := by decide +kernel
theorem dX5_readGardenStatement_49 : decode cX5_readGardenStatement 49 = .ok (.getfield 18, 3) := by decide +kernel
theorem dX5_readGardenStatement_52 : decode cX5_readGardenStatement 52 = .ok (.aload_n 0, 1) := by decide +kernel
theorem dX5_readGardenStatement_53 : decode cX5_readGardenStatement 53 = .ok (.iconst 1, 1) := by decide +kernel
theorem dX5_readGardenStatement_54 : decode cX5_readGardenStatement 54 = .ok (.bipush 100, 2) := by decide +kernel
theorem dX5_readGardenStatement_56 : decode cX5_readGardenStatement 56 = .ok (.invokevirtual 59, 3) := by decide +kernel
theorem dX5_readGardenStatement_59 : decode cX5_readGardenStatement 59 = .ok (.putfield 71, 3) := by decide +kernel
theorem dX5_readGardenStatement_62 : decode cX5_readGardenStatement 62 = .ok (.aload_n 0, 1) := by decide +kernel
theorem dX5_readGardenStatement_63 : decode cX5_readGardenStatement 63 = .ok (.invokevirtual 74, 3) := by decide +kernel
theorem dX5_readGardenStatement_66 : decode cX5_readGardenStatement 66 = .ok (.return_, 1) := by decide +kernel
theorem dX5_readPeriodStatement_0 : decode cX5_readPeriodStatement 0 = .ok (.aload_n 0, 1) := by decide +kernel
theorem dX5_readPeriodStatement_1 : decode cX5_readPeriodStatement 1 = .ok (.ldc 77, 2) := by decide +kernel
theorem dX5_readPeriodStatement_3 : decode cX5_readPeriodStatement 3 = .ok (.invokevirtual 54, 3) := by decide +kernel
theorem dX5_readPeriodStatement_6 : decode cX5_readPeriodStatement 6 = .ok (.aload_n 0, 1) := by decide +kernel
theorem dX5_readPeriodStatement_7 : decode cX5_readPeriodStatement 7 = .ok (.getfield 18, 3) := by decide +kernel
theorem dX5_readPeriodStatement_10 : decode cX5_readPeriodStatement 10 = .ok (.aload_n 0, 1) := by decide +kernel
theorem dX5_readPeriodStatement_11 : decode cX5_readPeriodStatement 11 = .ok (.iconst 0, 1) := by decide +kernel
theorem dX5_readPeriodStatement_12 : decode cX5_readPeriodStatement 12 = .ok (.sipush 200, 3) := by decide +kernel
theorem dX5_readPeriodStatement_15 : decode cX5_readPeriodStatement 15 = .ok (.invokevirtual 59, 3) := by decide +kernel
theorem dX5_readPeriodStatement_18 : decode cX5_readPeriodStatement 18 = .ok (.invokevirtual 79, 3) := by decide +kernel
theorem dX5_readPeriodStatement_21 : decode cX5_readPeriodStatement 21 = .ok (.aload_n 0, 1) := by decide +kernel
theorem dX5_readPeriodStatement_22 : decode cX5_readPeriodStatement 22 = .ok (.invokevirtual 74, 3) := by decide +kernel
theorem dX5_readPeriodStatement_25 : decode cX5_readPeriodStatement 25 = .ok (.return_, 1) := by decide +kernel
theorem dX5_readHoursStatement_0 : decode cX5_readHoursStatement 0 = .ok (.aload_n 0, 1) := by decide +kernel
theorem dX5_readHoursStatement_1 : decode cX5_readHoursStatement 1 = .ok (.ldc 83, 2) := by decide +kernel
theorem dX5_readHoursStatement_3 : decode cX5_readHoursStatement 3 = .ok (.invokevirtual 54, 3) := by decide +kernel
theorem dX5_readHoursStatement_6 : decode cX5_readHoursStatement 6 = .ok (.aload_n 0, 1) := by decide +kernel
theorem dX5_readHoursStatement_7 : decode cX5_readHoursStatement 7 = .ok (.iconst 0, 1) := by decide +kernel
theorem dX5_readHoursStatement_8 : decode cX5_readHoursStatement 8 = .ok (.bipush 23, 2) := by decide +kernel
theorem dX5_readHoursStatement_10 : decode cX5_readHoursStatement 10 = .ok (.invokevirtual 59, 3) := by decide +kernel
theorem dX5_readHoursStatement_13 : decode cX5_readHoursStatement 13 = .ok (.istore_n 1, 1) := by decide +kernel
theorem dX5_readHoursStatement_14 : decode cX5_readHoursStatement 14 = .ok (.aload_n 0, 1) := by decide +kernel
theorem dX5_readHoursStatement_15 : decode cX5_readHoursStatement 15 = .ok (.iload_n 1, 1) := by decide +kernel
theorem dX5_readHoursStatement_16 : decode cX5_readHoursStatement 16 = .ok (.iconst 1, 1) := by decide +kernel
theorem dX5_readHoursStatement_17 : decode cX5_readHoursStatement 17 = .ok (.iadd, 1) := by decide +kernel
theorem dX5_readHoursStatement_18 : decode cX5_readHoursStatement 18 = .ok (.bipush 24, 2) := by decide +kernel
theorem dX5_readHoursStatement_20 : decode cX5_readHoursStatement 20 = .ok (.invokevirtual 59, 3) := by decide +kernel
theorem dX5_readHoursStatement_23 : decode cX5_readHoursStatement 23 = .ok (.istore_n 2, 1) := by decide +kernel
theorem dX5_readHoursStatement_24 : decode cX5_readHoursStatement 24 = .ok (.aload_n 0, 1) := by decide +kernel
theorem dX5_readHoursStatement_25 : decode cX5_readHoursStatement 25 = .ok (.iconst 0, 1) := by decide +kernel
theorem dX5_readHoursStatement_26 : decode cX5_readHoursStatement 26 = .ok (.aload_n 0, 1) := by decide +kernel
theorem dX5_readHoursStatement_27 : decode cX5_readHoursStatement 27 = .ok (.getfield 18, 3) := by decide +kernel
theorem dX5_readHoursStatement_30 : decode cX5_readHoursStatement 30 = .ok (.getfield 85, 3) := by decide +kernel
theorem dX5_readHoursStatement_33 : decode cX5_readHoursStatement 33 = .ok (.iconst 1, 1) := by decide +kernel
theorem dX5_readHoursStatement_34 : decode cX5_readHoursStatement 34 = .ok (.isub, 1) := by decide +kernel
theorem dX5_readHoursStatement_35 : decode cX5_readHoursStatement 35 = .ok (.invokevirtual 59, 3) := by decide +kernel
theorem dX5_readHoursStatement_38 : decode cX5_readHoursStatement 38 = .ok (.istore_n 3, 1) := by decide +kernel
theorem dX5_readHoursStatement_39 : decode cX5_readHoursStatement 39 = .ok (.aload_n 0, 1) := by decide +kernel
theorem dX5_readHoursStatement_40 : decode cX5_readHoursStatement 40 = .ok (.invokevirtual 74, 3) := by decide +kernel
theorem dX5_readHoursStatement_43 : decode cX5_readHoursStatement 43 = .ok (.aload_n 0, 1) := by decide +kernel
theorem dX5_readHoursStatement_44 : decode cX5_readHoursStatement 44 = .ok (.getfield 38, 3) := by decide +kernel
theorem dX5_readHoursStatement_47 : decode cX5_readHoursStatement 47 = .ok (.ifCond .ne 13, 3) := by decide +kernel
theorem dX5_readHoursStatement_50 : decode cX5_readHoursStatement 50 = .ok (.aload_n 0, 1) := by decide +kernel
theorem dX5_readHoursStatement_51 : decode cX5_readHoursStatement 51 = .ok (.getfield 18, 3) := by decide +kernel
theorem dX5_readHoursStatement_54 : decode cX5_readHoursStatement 54 = .ok (.iload_n 1, 1) := by decide +kernel
theorem dX5_readHoursStatement_55 : decode cX5_readHoursStatement 55 = .ok (.iload_n 2, 1) := by decide +kernel
theorem dX5_readHoursStatement_56 : decode cX5_readHoursStatement 56 = .ok (.iload_n 3, 1) := by decide +kernel
theorem dX5_readHoursStatement_57 : decode cX5_readHoursStatement 57 = .ok (.invokevirtual 88, 3) := by decide +kernel
theorem dX5_readHoursStatement_60 : decode cX5_readHoursStatement 60 = .ok (.return_, 1) := by decide +kernel
theorem dX5_readFurtherStatements_0 : decode cX5_readFurtherStatements 0 = .ok (.iconst 0, 1) := by decide +kernel
theorem dX5_readFurtherStatements_1 : decode cX5_readFurtherStatements 1 = .ok (.istore_n 1, 1) := by decide +kernel
theorem dX5_readFurtherStatements_2 : decode cX5_readFurtherStatements 2 = .ok (.iconst 0, 1) := by decide +kernel
theorem dX5_readFurtherStatements_3 : decode cX5_readFurtherStatements 3 = .ok (.istore_n 2, 1) := by decide +kernel
theorem dX5_readFurtherStatements_4 : decode cX5_readFurtherStatements 4 = .ok (.iload_n 2, 1) := by decide +kernel
theorem dX5_readFurtherStatements_5 : decode cX5_readFurtherStatements 5 = .ok (.sipush 300, 3) := by decide +kernel
theorem dX5_readFurtherStatements_8 : decode cX5_readFurtherStatements 8 = .ok (.if_icmp .ge 96, 3) := by decide +kernel
theorem dX5_readFurtherStatements_11 : decode cX5_readFurtherStatements 11 = .ok (.aload_n 0, 1) := by decide +kernel
theorem dX5_readFurtherStatements_12 : decode cX5_readFurtherStatements 12 = .ok (.getfield 38, 3) := by decide +kernel
theorem dX5_readFurtherStatements_15 : decode cX5_readFurtherStatements 15 = .ok (.ifCond .ne 89, 3) := by decide +kernel
theorem dX5_readFurtherStatements_18 : decode cX5_readFurtherStatements 18 = .ok (.aload_n 0, 1) := by decide +kernel
theorem dX5_readFurtherStatements_19 : decode cX5_readFurtherStatements 19 = .ok (.invokevirtual 92, 3) := by decide +kernel
theorem dX5_readFurtherStatements_22 : decode cX5_readFurtherStatements 22 = .ok (.aload_n 0, 1) := by decide +kernel
theorem dX5_readFurtherStatements_23 : decode cX5_readFurtherStatements 23 = .ok (.getfield 35, 3) := by decide +kernel
theorem dX5_readFurtherStatements_26 : decode cX5_readFurtherStatements 26 = .ok (.aload_n 0, 1) := by decide +kernel
theorem dX5_readFurtherStatements_27 : decode cX5_readFurtherStatements 27 = .ok (.getfield 32, 3) := by decide +kernel
theorem dX5_readFurtherStatements_30 : decode cX5_readFurtherStatements 30 = .ok (.if_icmp .lt 4, 3) := by decide +kernel
theorem dX5_readFurtherStatements_33 : decode cX5_readFurtherStatements 33 = .ok (.return_, 1) := by decide +kernel
theorem dX5_readFurtherStatements_34 : decode cX5_readFurtherStatements 34 = .ok (.aload_n 0, 1) := by decide +kernel
theorem dX5_readFurtherStatements_35 : decode cX5_readFurtherStatements 35 = .ok (.ldc 83, 2) := by decide +kernel
theorem dX5_readFurtherStatements_37 : decode cX5_readFurtherStatements 37 = .ok (.invokevirtual 95, 3) := by decide +kernel
theorem dX5_readFurtherStatements_40 : decode cX5_readFurtherStatements 40 = .ok (.ifCond .eq 12, 3) := by decide +kernel
theorem dX5_readFurtherStatements_43 : decode cX5_readFurtherStatements 43 = .ok (.iconst 1, 1) := by decide +kernel
theorem dX5_readFurtherStatements_44 : decode cX5_readFurtherStatements 44 = .ok (.istore_n 1, 1) := by decide +kernel
theorem dX5_readFurtherStatements_45 : decode cX5_readFurtherStatements 45 = .ok (.aload_n 0, 1) := by decide +kernel
theorem dX5_readFurtherStatements_46 : decode cX5_readFurtherStatements 46 = .ok (.invokevirtual 99, 3) := by decide +kernel
theorem dX5_readFurtherStatements_49 : decode cX5_readFurtherStatements 49 = .ok (.goto 49, 3) := by decide +kernel
theorem dX5_readFurtherStatements_52 : decode cX5_readFurtherStatements 52 = .ok (.iload_n 1, 1) := by decide +kernel
theorem dX5_readFurtherStatements_53 : decode cX5_readFurtherStatements 53 = .ok (.ifCond .ne 39, 3) := by decide +kernel
theorem dX5_readFurtherStatements_56 : decode cX5_readFurtherStatements 56 = .ok (.aload_n 0, 1) := by decide +kernel
theorem dX5_readFurtherStatements_57 : decode cX5_readFurtherStatements 57 = .ok (.ldc 77, 2) := by decide +kernel
theorem dX5_readFurtherStatements_59 : decode cX5_readFurtherStatements 59 = .ok (.invokevirtual 95, 3) := by decide +kernel
theorem dX5_readFurtherStatements_62 : decode cX5_readFurtherStatements 62 = .ok (.ifCond .eq 30, 3) := by decide +kernel
theorem dX5_readFurtherStatements_65 : decode cX5_readFurtherStatements 65 = .ok (.aload_n 0, 1) := by decide +kernel
theorem dX5_readFurtherStatements_66 : decode cX5_readFurtherStatements 66 = .ok (.getfield 18, 3) := by decide +kernel
theorem dX5_readFurtherStatements_69 : decode cX5_readFurtherStatements 69 = .ok (.getfield 85, 3) := by decide +kernel
theorem dX5_readFurtherStatements_72 : decode cX5_readFurtherStatements 72 = .ok (.iconst 4, 1) := by decide +kernel
theorem dX5_readFurtherStatements_73 : decode cX5_readFurtherStatements 73 = .ok (.if_icmp .lt 12, 3) := by decide +kernel
theorem dX5_readFurtherStatements_76 : decode cX5_readFurtherStatements 76 = .ok (.aload_n 0, 1) := by decide +kernel
theorem dX5_readFurtherStatements_77 : decode cX5_readFurtherStatements 77 = .ok (.bipush (-4), 2) := by decide +kernel
theorem dX5_readFurtherStatements_79 : decode cX5_readFurtherStatements 79 = .ok (.putfield 38, 3) := by decide +kernel
theorem dX5_readFurtherStatements_82 : decode cX5_readFurtherStatements 82 = .ok (.goto 16, 3) := by decide +kernel
theorem dX5_readFurtherStatements_85 : decode cX5_readFurtherStatements 85 = .ok (.aload_n 0, 1) := by decide +kernel
theorem dX5_readFurtherStatements_86 : decode cX5_readFurtherStatements 86 = .ok (.invokevirtual 47, 3) := by decide +kernel
theorem dX5_readFurtherStatements_89 : decode cX5_readFurtherStatements 89 = .ok (.goto 9, 3) := by decide +kernel
theorem dX5_readFurtherStatements_92 : decode cX5_readFurtherStatements 92 = .ok (.aload_n 0, 1) := by decide +kernel
theorem dX5_readFurtherStatements_93 : decode cX5_readFurtherStatements 93 = .ok (.bipush (-2), 2) := by decide +kernel
theorem dX5_readFurtherStatements_95 : decode cX5_readFurtherStatements 95 = .ok (.putfield 38, 3) := by decide +kernel
theorem dX5_readFurtherStatements_98 : decode cX5_readFurtherStatements 98 = .ok (.iinc 2 1, 3) := by decide +kernel
theorem dX5_readFurtherStatements_101 : decode cX5_readFurtherStatements 101 = .ok (.goto (-97), 3) := by decide +kernel
theorem dX5_readFurtherStatements_104 : decode cX5_readFurtherStatements 104 = .ok (.return_, 1) := by decide +kernel
theorem dX5_expectWord_0 : decode cX5_expectWord 0 = .ok (.aload_n 0, 1) := by decide +kernel
theorem dX5_expectWord_1 : decode cX5_expectWord 1 = .ok (.invokevirtual 92, 3) := by decide +kernel
theorem dX5_expectWord_4 : decode cX5_expectWord 4 = .ok (.aload_n 0, 1) := by decide +kernel
theorem dX5_expectWord_5 : decode cX5_expectWord 5 = .ok (.getfield 38, 3) := by decide +kernel
theorem dX5_expectWord_8 : decode cX5_expectWord 8 = .ok (.ifCond .eq 4, 3) := by decide +kernel
theorem dX5_expectWord_11 : decode cX5_expectWord 11 = .ok (.return_, 1) := by decide +kernel
theorem dX5_expectWord_12 : decode cX5_expectWord 12 = .ok (.aload_n 0, 1) := by decide +kernel
theorem dX5_expectWord_13 : decode cX5_expectWord 13 = .ok (.aload_n 1, 1) := by decide +kernel
theorem dX5_expectWord_14 : decode cX5_expectWord 14 = .ok (.invokevirtual 95, 3) := by decide +kernel
theorem dX5_expectWord_17 : decode cX5_expectWord 17 = .ok (.ifCond .eq 19, 3) := by decide +kernel
theorem dX5_expectWord_20 : decode cX5_expectWord 20 = .ok (.aload_n 0, 1) := by decide +kernel
theorem dX5_expectWord_21 : decode cX5_expectWord 21 = .ok (.dup, 1) := by decide +kernel
theorem dX5_expectWord_22 : decode cX5_expectWord 22 = .ok (.getfield 35, 3) := by decide +kernel
theorem dX5_expectWord_25 : decode cX5_expectWord 25 = .ok (.aload_n 1, 1) := by decide +kernel
theorem dX5_expectWord_26 : decode cX5_expectWord 26 = .ok (.invokevirtual 102, 3) := by decide +kernel
theorem dX5_expectWord_29 : decode cX5_expectWord 29 = .ok (.iadd, 1) := by decide +kernel
theorem dX5_expectWord_30 : decode cX5_expectWord 30 = .ok (.putfield 35, 3) := by decide +kernel
theorem dX5_expectWord_33 : decode cX5_expectWord 33 = .ok (.goto 9, 3) := by decide +kernel
theorem dX5_expectWord_36 : decode cX5_expectWord 36 = .ok (.aload_n 0, 1) := by decide +kernel
theorem dX5_expectWord_37 : decode cX5_expectWord 37 = .ok (.bipush (-2), 2) := by decide +kernel
theorem dX5_expectWord_39 : decode cX5_expectWord 39 = .ok (.putfield 38, 3) := by decide +kernel
theorem dX5_expectWord_42 : decode cX5_expectWord 42 = .ok (.return_, 1) := by decide +kernel
theorem dX5_expectNumber_0 : decode cX5_expectNumber 0 = .ok (.aload_n 0, 1) := by decide +kernel
theorem dX5_expectNumber_1 : decode cX5_expectNumber 1 = .ok (.invokevirtual 92, 3) := by decide +kernel
theorem dX5_expectNumber_4 : decode cX5_expectNumber 4 = .ok (.aload_n 0, 1) := by decide +kernel
theorem dX5_expectNumber_5 : decode cX5_expectNumber 5 = .ok (.getfield 38, 3) := by decide +kernel
theorem dX5_expectNumber_8 : decode cX5_expectNumber 8 = .ok (.ifCond .eq 5, 3) := by decide +kernel
theorem dX5_expectNumber_11 : decode cX5_expectNumber 11 = .ok (.iconst 0, 1) := by decide +kernel
theorem dX5_expectNumber_12 : decode cX5_expectNumber 12 = .ok (.ireturn, 1) := by decide +kernel
theorem dX5_expectNumber_13 : decode cX5_expectNumber 13 = .ok (.aload_n 0, 1) := by decide +kernel
theorem dX5_expectNumber_14 : decode cX5_expectNumber 14 = .ok (.getfield 35, 3) := by decide +kernel
theorem dX5_expectNumber_17 : decode cX5_expectNumber 17 = .ok (.istore_n 3, 1) := by decide +kernel
theorem dX5_expectNumber_18 : decode cX5_expectNumber 18 = .ok (.iconst 0, 1) := by decide +kernel
theorem dX5_expectNumber_19 : decode cX5_expectNumber 19 = .ok (.istore 4, 2) := by decide +kernel
theorem dX5_expectNumber_21 : decode cX5_expectNumber 21 = .ok (.aload_n 0, 1) := by decide +kernel
theorem dX5_expectNumber_22 : decode cX5_expectNumber 22 = .ok (.getfield 35, 3) := by decide +kernel
theorem dX5_expectNumber_25 : decode cX5_expectNumber 25 = .ok (.aload_n 0, 1) := by decide +kernel
theorem dX5_expectNumber_26 : decode cX5_expectNumber 26 = .ok (.getfield 32, 3) := by decide +kernel
theorem dX5_expectNumber_29 : decode cX5_expectNumber 29 = .ok (.if_icmp .ge 52, 3) := by decide +kernel
theorem dX5_expectNumber_32 : decode cX5_expectNumber 32 = .ok (.aload_n 0, 1) := by decide +kernel
theorem dX5_expectNumber_33 : decode cX5_expectNumber 33 = .ok (.aload_n 0, 1) := by decide +kernel
theorem dX5_expectNumber_34 : decode cX5_expectNumber 34 = .ok (.getfield 35, 3) := by decide +kernel
theorem dX5_expectNumber_37 : decode cX5_expectNumber 37 = .ok (.invokevirtual 107, 3) := by decide +kernel
theorem dX5_expectNumber_40 : decode cX5_expectNumber 40 = .ok (.ifCond .eq 41, 3) := by decide +kernel
theorem dX5_expectNumber_43 : decode cX5_expectNumber 43 = .ok (.ldc 111, 2) := by decide +kernel
theorem dX5_expectNumber_45 : decode cX5_expectNumber 45 = .ok (.iload 4, 2) := by decide +kernel
theorem dX5_expectNumber_47 : decode cX5_expectNumber 47 = .ok (.bipush 10, 2) := by decide +kernel
theorem dX5_expectNumber_49 : decode cX5_expectNumber 49 = .ok (.imul, 1) := by decide +kernel
theorem dX5_expectNumber_50 : decode cX5_expectNumber 50 = .ok (.aload_n 0, 1) := by decide +kernel
theorem dX5_expectNumber_51 : decode cX5_expectNumber 51 = .ok (.getfield 9, 3) := by decide +kernel
theorem dX5_expectNumber_54 : decode cX5_expectNumber 54 = .ok (.aload_n 0, 1) := by decide +kernel
theorem dX5_expectNumber_55 : decode cX5_expectNumber 55 = .ok (.getfield 35, 3) := by decide +kernel
theorem dX5_expectNumber_58 : decode cX5_expectNumber 58 = .ok (.baload, 1) := by decide +kernel
theorem dX5_expectNumber_59 : decode cX5_expectNumber 59 = .ok (.iadd, 1) := by decide +kernel
theorem dX5_expectNumber_60 : decode cX5_expectNumber 60 = .ok (.bipush 48, 2) := by decide +kernel
theorem dX5_expectNumber_62 : decode cX5_expectNumber 62 = .ok (.isub, 1) := by decide +kernel
theorem dX5_expectNumber_63 : decode cX5_expectNumber 63 = .ok (.invokestatic 26, 3) := by decide +kernel
theorem dX5_expectNumber_66 : decode cX5_expectNumber 66 = .ok (.istore 4, 2) := by decide +kernel
theorem dX5_expectNumber_68 : decode cX5_expectNumber 68 = .ok (.aload_n 0, 1) := by decide +kernel
theorem dX5_expectNumber_69 : decode cX5_expectNumber 69 = .ok (.dup, 1) := by decide +kernel
theorem dX5_expectNumber_70 : decode cX5_expectNumber 70 = .ok (.getfield 35, 3) := by decide +kernel
theorem dX5_expectNumber_73 : decode cX5_expectNumber 73 = .ok (.iconst 1, 1) := by decide +kernel
theorem dX5_expectNumber_74 : decode cX5_expectNumber 74 = .ok (.iadd, 1) := by decide +kernel
theorem dX5_expectNumber_75 : decode cX5_expectNumber 75 = .ok (.putfield 35, 3) := by decide +kernel
theorem dX5_expectNumber_78 : decode cX5_expectNumber 78 = .ok (.goto (-57), 3) := by decide +kernel
theorem dX5_expectNumber_81 : decode cX5_expectNumber 81 = .ok (.aload_n 0, 1) := by decide +kernel
theorem dX5_expectNumber_82 : decode cX5_expectNumber 82 = .ok (.getfield 35, 3) := by decide +kernel
theorem dX5_expectNumber_85 : decode cX5_expectNumber 85 = .ok (.iload_n 3, 1) := by decide +kernel
theorem dX5_expectNumber_86 : decode cX5_expectNumber 86 = .ok (.if_icmp .ne 12, 3) := by decide +kernel
theorem dX5_expectNumber_89 : decode cX5_expectNumber 89 = .ok (.aload_n 0, 1) := by decide +kernel
theorem dX5_expectNumber_90 : decode cX5_expectNumber 90 = .ok (.bipush (-2), 2) := by decide +kernel
theorem dX5_expectNumber_92 : decode cX5_expectNumber 92 = .ok (.putfield 38, 3) := by decide +kernel
theorem dX5_expectNumber_95 : decode cX5_expectNumber 95 = .ok (.goto 26, 3) := by decide +kernel
theorem dX5_expectNumber_98 : decode cX5_expectNumber 98 = .ok (.iload 4, 2) := by decide +kernel
theorem dX5_expectNumber_100 : decode cX5_expectNumber 100 = .ok (.iload_n 1, 1) := by decide +kernel
theorem dX5_expectNumber_101 : decode cX5_expectNumber 101 = .ok (.if_icmp .lt 9, 3) := by decide +kernel
theorem dX5_expectNumber_104 : decode cX5_expectNumber 104 = .ok (.iload 4, 2) := by decide +kernel
theorem dX5_expectNumber_106 : decode cX5_expectNumber 106 = .ok (.iload_n 2, 1) := by decide +kernel
theorem dX5_expectNumber_107 : decode cX5_expectNumber 107 = .ok (.if_icmp .le 14, 3) := by decide +kernel
theorem dX5_expectNumber_110 : decode cX5_expectNumber 110 = .ok (.aload_n 0, 1) := by decide +kernel
theorem dX5_expectNumber_111 : decode cX5_expectNumber 111 = .ok (.bipush (-3), 2) := by decide +kernel
theorem dX5_expectNumber_113 : decode cX5_expectNumber 113 = .ok (.putfield 38, 3) := by decide +kernel
theorem dX5_expectNumber_116 : decode cX5_expectNumber 116 = .ok (.aload_n 0, 1) := by decide +kernel
theorem dX5_expectNumber_117 : decode cX5_expectNumber 117 = .ok (.iload_n 3, 1) := by decide +kernel
theorem dX5_expectNumber_118 : decode cX5_expectNumber 118 = .ok (.putfield 35, 3) := by decide +kernel
theorem dX5_expectNumber_121 : decode cX5_expectNumber 121 = .ok (.iload 4, 2) := by decide +kernel
theorem dX5_expectNumber_123 : decode cX5_expectNumber 123 = .ok (.ireturn, 1) := by decide +kernel
theorem dX5_expectSemicolon_0 : decode cX5_expectSemicolon 0 = .ok (.aload_n 0, 1) := by decide +kernel
theorem dX5_expectSemicolon_1 : decode cX5_expectSemicolon 1 = .ok (.invokevirtual 92, 3) := by decide +kernel
theorem dX5_expectSemicolon_4 : decode cX5_expectSemicolon 4 = .ok (.aload_n 0, 1) := by decide +kernel
theorem dX5_expectSemicolon_5 : decode cX5_expectSemicolon 5 = .ok (.getfield 38, 3) := by decide +kernel
theorem dX5_expectSemicolon_8 : decode cX5_expectSemicolon 8 = .ok (.ifCond .eq 4, 3) := by decide +kernel
theorem dX5_expectSemicolon_11 : decode cX5_expectSemicolon 11 = .ok (.return_, 1) := by decide +kernel
theorem dX5_expectSemicolon_12 : decode cX5_expectSemicolon 12 = .ok (.aload_n 0, 1) := by decide +kernel
theorem dX5_expectSemicolon_13 : decode cX5_expectSemicolon 13 = .ok (.getfield 35, 3) := by decide +kernel
theorem dX5_expectSemicolon_16 : decode cX5_expectSemicolon 16 = .ok (.aload_n 0, 1) := by decide +kernel
theorem dX5_expectSemicolon_17 : decode cX5_expectSemicolon 17 = .ok (.getfield 32, 3) := by decide +kernel
theorem dX5_expectSemicolon_20 : decode cX5_expectSemicolon 20 = .ok (.if_icmp .ge 30, 3) := by decide +kernel
theorem dX5_expectSemicolon_23 : decode cX5_expectSemicolon 23 = .ok (.aload_n 0, 1) := by decide +kernel
theorem dX5_expectSemicolon_24 : decode cX5_expectSemicolon 24 = .ok (.getfield 9, 3) := by decide +kernel
theorem dX5_expectSemicolon_27 : decode cX5_expectSemicolon 27 = .ok (.aload_n 0, 1) := by decide +kernel
theorem dX5_expectSemicolon_28 : decode cX5_expectSemicolon 28 = .ok (.getfield 35, 3) := by decide +kernel
theorem dX5_expectSemicolon_31 : decode cX5_expectSemicolon 31 = .ok (.baload, 1) := by decide +kernel
theorem dX5_expectSemicolon_32 : decode cX5_expectSemicolon 32 = .ok (.bipush 59, 2) := by decide +kernel
theorem dX5_expectSemicolon_34 : decode cX5_expectSemicolon 34 = .ok (.if_icmp .ne 16, 3) := by decide +kernel
theorem dX5_expectSemicolon_37 : decode cX5_expectSemicolon 37 = .ok (.aload_n 0, 1) := by decide +kernel
theorem dX5_expectSemicolon_38 : decode cX5_expectSemicolon 38 = .ok (.dup, 1) := by decide +kernel
theorem dX5_expectSemicolon_39 : decode cX5_expectSemicolon 39 = .ok (.getfield 35, 3) := by decide +kernel
theorem dX5_expectSemicolon_42 : decode cX5_expectSemicolon 42 = .ok (.iconst 1, 1) := by decide +kernel
theorem dX5_expectSemicolon_43 : decode cX5_expectSemicolon 43 = .ok (.iadd, 1) := by decide +kernel
theorem dX5_expectSemicolon_44 : decode cX5_expectSemicolon 44 = .ok (.putfield 35, 3) := by decide +kernel
theorem dX5_expectSemicolon_47 : decode cX5_expectSemicolon 47 = .ok (.goto 9, 3) := by decide +kernel
theorem dX5_expectSemicolon_50 : decode cX5_expectSemicolon 50 = .ok (.aload_n 0, 1) := by decide +kernel
theorem dX5_expectSemicolon_51 : decode cX5_expectSemicolon 51 = .ok (.bipush (-2), 2) := by decide +kernel
theorem dX5_expectSemicolon_53 : decode cX5_expectSemicolon 53 = .ok (.putfield 38, 3) := by decide +kernel
theorem dX5_expectSemicolon_56 : decode cX5_expectSemicolon 56 = .ok (.return_, 1) := by decide +kernel
theorem dX5_skipSpaces_0 : decode cX5_skipSpaces 0 = .ok (.aload_n 0, 1) := by decide +kernel
theorem dX5_skipSpaces_1 : decode cX5_skipSpaces 1 = .ok (.getfield 38, 3) := by decide +kernel
theorem dX5_skipSpaces_4 : decode cX5_skipSpaces 4 = .ok (.ifCond .ne 41, 3) := by decide +kernel
theorem dX5_skipSpaces_7 : decode cX5_skipSpaces 7 = .ok (.aload_n 0, 1) := by decide +kernel
theorem dX5_skipSpaces_8 : decode cX5_skipSpaces 8 = .ok (.getfield 35, 3) := by decide +kernel
theorem dX5_skipSpaces_11 : decode cX5_skipSpaces 11 = .ok (.aload_n 0, 1) := by decide +kernel
theorem dX5_skipSpaces_12 : decode cX5_skipSpaces 12 = .ok (.getfield 32, 3) := by decide +kernel
theorem dX5_skipSpaces_15 : decode cX5_skipSpaces 15 = .ok (.if_icmp .ge 30, 3) := by decide +kernel
theorem dX5_skipSpaces_18 : decode cX5_skipSpaces 18 = .ok (.aload_n 0, 1) := by decide +kernel
theorem dX5_skipSpaces_19 : decode cX5_skipSpaces 19 = .ok (.getfield 9, 3) := by decide +kernel
theorem dX5_skipSpaces_22 : decode cX5_skipSpaces 22 = .ok (.aload_n 0, 1) := by decide +kernel
theorem dX5_skipSpaces_23 : decode cX5_skipSpaces 23 = .ok (.getfield 35, 3) := by decide +kernel
theorem dX5_skipSpaces_26 : decode cX5_skipSpaces 26 = .ok (.baload, 1) := by decide +kernel
theorem dX5_skipSpaces_27 : decode cX5_skipSpaces 27 = .ok (.bipush 32, 2) := by decide +kernel
theorem dX5_skipSpaces_29 : decode cX5_skipSpaces 29 = .ok (.if_icmp .ne 16, 3) := by decide +kernel
theorem dX5_skipSpaces_32 : decode cX5_skipSpaces 32 = .ok (.aload_n 0, 1) := by decide +kernel
theorem dX5_skipSpaces_33 : decode cX5_skipSpaces 33 = .ok (.dup, 1) := by decide +kernel
theorem dX5_skipSpaces_34 : decode cX5_skipSpaces 34 = .ok (.getfield 35, 3) := by decide +kernel
theorem dX5_skipSpaces_37 : decode cX5_skipSpaces 37 = .ok (.iconst 1, 1) := by decide +kernel
theorem dX5_skipSpaces_38 : decode cX5_skipSpaces 38 = .ok (.iadd, 1) := by decide +kernel
theorem dX5_skipSpaces_39 : decode cX5_skipSpaces 39 = .ok (.putfield 35, 3) := by decide +kernel
theorem dX5_skipSpaces_42 : decode cX5_skipSpaces 42 = .ok (.goto (-42), 3) := by decide +kernel
theorem dX5_skipSpaces_45 : decode cX5_skipSpaces 45 = .ok (.return_, 1) := by decide +kernel
theorem dX5_standsHere_0 : decode cX5_standsHere 0 = .ok (.aload_n 0, 1) := by decide +kernel
theorem dX5_standsHere_1 : decode cX5_standsHere 1 = .ok (.getfield 35, 3) := by decide +kernel
theorem dX5_standsHere_4 : decode cX5_standsHere 4 = .ok (.aload_n 1, 1) := by decide +kernel
theorem dX5_standsHere_5 : decode cX5_standsHere 5 = .ok (.invokevirtual 102, 3) := by decide +kernel
theorem dX5_standsHere_8 : decode cX5_standsHere 8 = .ok (.iadd, 1) := by decide +kernel
theorem dX5_standsHere_9 : decode cX5_standsHere 9 = .ok (.istore_n 2, 1) := by decide +kernel
theorem dX5_standsHere_10 : decode cX5_standsHere 10 = .ok (.iload_n 2, 1) := by decide +kernel
theorem dX5_standsHere_11 : decode cX5_standsHere 11 = .ok (.aload_n 0, 1) := by decide +kernel
theorem dX5_standsHere_12 : decode cX5_standsHere 12 = .ok (.getfield 32, 3) := by decide +kernel
theorem dX5_standsHere_15 : decode cX5_standsHere 15 = .ok (.if_icmp .le 5, 3) := by decide +kernel
theorem dX5_standsHere_18 : decode cX5_standsHere 18 = .ok (.iconst 0, 1) := by decide +kernel
theorem dX5_standsHere_19 : decode cX5_standsHere 19 = .ok (.ireturn, 1) := by decide +kernel
theorem dX5_standsHere_20 : decode cX5_standsHere 20 = .ok (.iconst 0, 1) := by decide +kernel
theorem dX5_standsHere_21 : decode cX5_standsHere 21 = .ok (.istore_n 3, 1) := by decide +kernel
theorem dX5_standsHere_22 : decode cX5_standsHere 22 = .ok (.iload_n 3, 1) := by decide +kernel
theorem dX5_standsHere_23 : decode cX5_standsHere 23 = .ok (.aload_n 1, 1) := by decide +kernel
theorem dX5_standsHere_24 : decode cX5_standsHere 24 = .ok (.invokevirtual 102, 3) := by decide +kernel
theorem dX5_standsHere_27 : decode cX5_standsHere 27 = .ok (.if_icmp .ge 30, 3) := by decide +kernel
theorem dX5_standsHere_30 : decode cX5_standsHere 30 = .ok (.aload_n 0, 1) := by decide +kernel
theorem dX5_standsHere_31 : decode cX5_standsHere 31 = .ok (.getfield 9, 3) := by decide +kernel
theorem dX5_standsHere_34 : decode cX5_standsHere 34 = .ok (.aload_n 0, 1) := by decide +kernel
theorem dX5_standsHere_35 : decode cX5_standsHere 35 = .ok (.getfield 35, 3) := by decide +kernel
theorem dX5_standsHere_38 : decode cX5_standsHere 38 = .ok (.iload_n 3, 1) := by decide +kernel
theorem dX5_standsHere_39 : decode cX5_standsHere 39 = .ok (.iadd, 1) := by decide +kernel
theorem dX5_standsHere_40 : decode cX5_standsHere 40 = .ok (.baload, 1) := by decide +kernel
theorem dX5_standsHere_41 : decode cX5_standsHere 41 = .ok (.aload_n 1, 1) := by decide +kernel
theorem dX5_standsHere_42 : decode cX5_standsHere 42 = .ok (.iload_n 3, 1) := by decide +kernel
theorem dX5_standsHere_43 : decode cX5_standsHere 43 = .ok (.invokevirtual 112, 3) := by decide +kernel
theorem dX5_standsHere_46 : decode cX5_standsHere 46 = .ok (.if_icmp .eq 5, 3) := by decide +kernel
theorem dX5_standsHere_49 : decode cX5_standsHere 49 = .ok (.iconst 0, 1) := by decide +kernel
theorem dX5_standsHere_50 : decode cX5_standsHere 50 = .ok (.ireturn, 1) := by decide +kernel
theorem dX5_standsHere_51 : decode cX5_standsHere 51 = .ok (.iinc 3 1, 3) := by decide +kernel
theorem dX5_standsHere_54 : decode cX5_standsHere 54 = .ok (.goto (-32), 3) := by decide +kernel
theorem dX5_standsHere_57 : decode cX5_standsHere 57 = .ok (.iload_n 2, 1) := by decide +kernel
theorem dX5_standsHere_58 : decode cX5_standsHere 58 = .ok (.aload_n 0, 1) := by decide +kernel
theorem dX5_standsHere_59 : decode cX5_standsHere 59 = .ok (.getfield 32, 3) := by decide +kernel
theorem dX5_standsHere_62 : decode cX5_standsHere 62 = .ok (.if_icmp .eq 11, 3) := by decide +kernel
theorem dX5_standsHere_65 : decode cX5_standsHere 65 = .ok (.aload_n 0, 1) := by decide +kernel
theorem dX5_standsHere_66 : decode cX5_standsHere 66 = .ok (.iload_n 2, 1) := by decide +kernel
theorem dX5_standsHere_67 : decode cX5_standsHere 67 = .ok (.invokevirtual 116, 3) := by decide +kernel
theorem dX5_standsHere_70 : decode cX5_standsHere 70 = .ok (.ifCond .ne 7, 3) := by decide +kernel
theorem dX5_standsHere_73 : decode cX5_standsHere 73 = .ok (.iconst 1, 1) := by decide +kernel
theorem dX5_standsHere_74 : decode cX5_standsHere 74 = .ok (.goto 4, 3) := by decide +kernel
theorem dX5_standsHere_77 : decode cX5_standsHere 77 = .ok (.iconst 0, 1) := by decide +kernel
theorem dX5_standsHere_78 : decode cX5_standsHere 78 = .ok (.ireturn, 1) := by decide +kernel
theorem dX5_isLetter_0 : decode cX5_isLetter 0 = .ok (.aload_n 0, 1) := by decide +kernel
theorem dX5_isLetter_1 : decode cX5_isLetter 1 = .ok (.getfield 9, 3) := by decide +kernel
theorem dX5_isLetter_4 : decode cX5_isLetter 4 = .ok (.iload_n 1, 1) := by decide +kernel
theorem dX5_isLetter_5 : decode cX5_isLetter 5 = .ok (.baload, 1) := by decide +kernel
theorem dX5_isLetter_6 : decode cX5_isLetter 6 = .ok (.bipush 97, 2) := by decide +kernel
theorem dX5_isLetter_8 : decode cX5_isLetter 8 = .ok (.if_icmp .lt 18, 3) := by decide +kernel
theorem dX5_isLetter_11 : decode cX5_isLetter 11 = .ok (.aload_n 0, 1) := by decide +kernel
theorem dX5_isLetter_12 : decode cX5_isLetter 12 = .ok (.getfield 9, 3) := by decide +kernel
theorem dX5_isLetter_15 : decode cX5_isLetter 15 = .ok (.iload_n 1, 1) := by decide +kernel
theorem dX5_isLetter_16 : decode cX5_isLetter 16 = .ok (.baload, 1) := by decide +kernel
theorem dX5_isLetter_17 : decode cX5_isLetter 17 = .ok (.bipush 122, 2) := by decide +kernel
theorem dX5_isLetter_19 : decode cX5_isLetter 19 = .ok (.if_icmp .gt 7, 3) := by decide +kernel
theorem dX5_isLetter_22 : decode cX5_isLetter 22 = .ok (.iconst 1, 1) := by decide +kernel
theorem dX5_isLetter_23 : decode cX5_isLetter 23 = .ok (.goto 4, 3) := by decide +kernel
theorem dX5_isLetter_26 : decode cX5_isLetter 26 = .ok (.iconst 0, 1) := by decide +kernel
theorem dX5_isLetter_27 : decode cX5_isLetter 27 = .ok (.ireturn, 1) := by decide +kernel
theorem dX5_isDigit_0 : decode cX5_isDigit 0 = .ok (.aload_n 0, 1) := by decide +kernel
theorem dX5_isDigit_1 : decode cX5_isDigit 1 = .ok (.getfield 9, 3) := by decide +kernel
theorem dX5_isDigit_4 : decode cX5_isDigit 4 = .ok (.iload_n 1, 1) := by decide +kernel
theorem dX5_isDigit_5 : decode cX5_isDigit 5 = .ok (.baload, 1) := by decide +kernel
theorem dX5_isDigit_6 : decode cX5_isDigit 6 = .ok (.bipush 48, 2) := by decide +kernel
theorem dX5_isDigit_8 : decode cX5_isDigit 8 = .ok (.if_icmp .lt 18, 3) := by decide +kernel
theorem dX5_isDigit_11 : decode cX5_isDigit 11 = .ok (.aload_n 0, 1) := by decide +kernel
theorem dX5_isDigit_12 : decode cX5_isDigit 12 = .ok (.getfield 9, 3) := by decide +kernel
theorem dX5_isDigit_15 : decode cX5_isDigit 15 = .ok (.iload_n 1, 1) := by decide +kernel
theorem dX5_isDigit_16 : decode cX5_isDigit 16 = .ok (.baload, 1) := by decide +kernel
theorem dX5_isDigit_17 : decode cX5_isDigit 17 = .ok (.bipush 57, 2) := by decide +kernel
theorem dX5_isDigit_19 : decode cX5_isDigit 19 = .ok (.if_icmp .gt 7, 3) := by decide +kernel
theorem dX5_isDigit_22 : decode cX5_isDigit 22 = .ok (.iconst 1, 1) := by decide +kernel
theorem dX5_isDigit_23 : decode cX5_isDigit 23 = .ok (.goto 4, 3) := by decide +kernel
theorem dX5_isDigit_26 : decode cX5_isDigit 26 = .ok (.iconst 0, 1) := by decide +kernel
theorem dX5_isDigit_27 : decode cX5_isDigit 27 = .ok (.ireturn, 1) := by decide +kernel
theorem dX6_init_0 : decode cX6_init 0 = .ok (.aload_n 0, 1) := by decide +kernel
theorem dX6_init_1 : decode cX6_init 1 = .ok (.invokespecial 3, 3) := by decide +kernel
theorem dX6_init_4 : decode cX6_init 4 = .ok (.aload_n 0, 1) := by decide +kernel
theorem dX6_init_5 : decode cX6_init 5 = .ok (.bipush 6, 2) := by decide +kernel
theorem dX6_init_7 : decode cX6_init 7 = .ok (.anewarray 9, 3) := by decide +kernel
theorem dX6_init_10 : decode cX6_init 10 = .ok (.putfield 11, 3) := by decide +kernel
theorem dX6_init_13 : decode cX6_init 13 = .ok (.return_, 1) := by decide +kernel
theorem dX6_keep_0 : decode cX6_keep 0 = .ok (.aload_n 0, 1) := by decide +kernel
theorem dX6_keep_1 : decode cX6_keep 1 = .ok (.getfield 11, 3) := by decide +kernel
theorem dX6_keep_4 : decode cX6_keep 4 = .ok (.aload_n 0, 1) := by decide +kernel
theorem dX6_keep_5 : decode cX6_keep 5 = .ok (.getfield 17, 3) := by decide +kernel
theorem dX6_keep_8 : decode cX6_keep 8 = .ok (.aaload, 1) := by decide +kernel
theorem dX6_keep_9 : decode cX6_keep 9 = .ok (.astore_n 2, 1) := by decide +kernel
theorem dX6_keep_10 : decode cX6_keep 10 = .ok (.aload_n 2, 1) := by decide +kernel
theorem dX6_keep_11 : decode cX6_keep 11 = .ok (.ifnonnull 21, 3) := by decide +kernel
theorem dX6_keep_14 : decode cX6_keep 14 = .ok (.new 9, 3) := by decide +kernel
theorem dX6_keep_17 : decode cX6_keep 17 = .ok (.dup, 1) := by decide +kernel
theorem dX6_keep_18 : decode cX6_keep 18 = .ok (.invokespecial 21, 3) := by decide +kernel
theorem dX6_keep_21 : decode cX6_keep 21 = .ok (.astore_n 2, 1) := by decide +kernel
theorem dX6_keep_22 : decode cX6_keep 22 = .ok (.aload_n 0, 1) := by decide +kernel
theorem dX6_keep_23 : decode cX6_keep 23 = .ok (.getfield 11, 3) := by decide +kernel
theorem dX6_keep_26 : decode cX6_keep 26 = .ok (.aload_n 0, 1) := by decide +kernel
theorem dX6_keep_27 : decode cX6_keep 27 = .ok (.getfield 17, 3) := by decide +kernel
theorem dX6_keep_30 : decode cX6_keep 30 = .ok (.aload_n 2, 1) := by decide +kernel
theorem dX6_keep_31 : decode cX6_keep 31 = .ok (.aastore, 1) := by decide +kernel
theorem dX6_keep_32 : decode cX6_keep 32 = .ok (.aload_n 2, 1) := by decide +kernel
theorem dX6_keep_33 : decode cX6_keep 33 = .ok (.aload_n 1, 1) := by decide +kernel
theorem dX6_keep_34 : decode cX6_keep 34 = .ok (.invokevirtual 22, 3) := by decide +kernel
theorem dX6_keep_37 : decode cX6_keep 37 = .ok (.aload_n 0, 1) := by decide +kernel
theorem dX6_keep_38 : decode cX6_keep 38 = .ok (.aload_n 0, 1) := by decide +kernel
theorem dX6_keep_39 : decode cX6_keep 39 = .ok (.getfield 17, 3) := by decide +kernel
theorem dX6_keep_42 : decode cX6_keep 42 = .ok (.iconst 1, 1) := by decide +kernel
theorem dX6_keep_43 : decode cX6_keep 43 = .ok (.iadd, 1) := by decide +kernel
theorem dX6_keep_44 : decode cX6_keep 44 = .ok (.bipush 6, 2) := by decide +kernel
theorem dX6_keep_46 : decode cX6_keep 46 = .ok (.irem, 1) := by decide +kernel
theorem dX6_keep_47 : decode cX6_keep 47 = .ok (.putfield 17, 3) := by decide +kernel
theorem dX6_keep_50 : decode cX6_keep 50 = .ok (.aload_n 0, 1) := by decide +kernel
theorem dX6_keep_51 : decode cX6_keep 51 = .ok (.aload_n 0, 1) := by decide +kernel
theorem dX6_keep_52 : decode cX6_keep 52 = .ok (.getfield 26, 3) := by decide +kernel
theorem dX6_keep_55 : decode cX6_keep 55 = .ok (.iconst 1, 1) := by decide +kernel
theorem dX6_keep_56 : decode cX6_keep 56 = .ok (.iadd, 1) := by decide +kernel
theorem dX6_keep_57 : decode cX6_keep 57 = .ok (.bipush 6, 2) := by decide +kernel
theorem dX6_keep_59 : decode cX6_keep 59 = .ok (.invokestatic 29, 3) := by decide +kernel
theorem dX6_keep_62 : decode cX6_keep 62 = .ok (.putfield 26, 3) := by decide +kernel
theorem dX6_keep_65 : decode cX6_keep 65 = .ok (.return_, 1) := by decide +kernel
theorem dX6_restore_0 : decode cX6_restore 0 = .ok (.aload_n 0, 1) := by decide +kernel
theorem dX6_restore_1 : decode cX6_restore 1 = .ok (.aload_n 0, 1) := by decide +kernel
theorem dX6_restore_2 : decode cX6_restore 2 = .ok (.getfield 17, 3) := by decide +kernel
theorem dX6_restore_5 : decode cX6_restore 5 = .ok (.bipush 6, 2) := by decide +kernel
theorem dX6_restore_7 : decode cX6_restore 7 = .ok (.iadd, 1) := by decide +kernel
theorem dX6_restore_8 : decode cX6_restore 8 = .ok (.iconst 1, 1) := by decide +kernel
theorem dX6_restore_9 : decode cX6_restore 9 = .ok (.isub, 1) := by decide +kernel
theorem dX6_restore_10 : decode cX6_restore 10 = .ok (.bipush 6, 2) := by decide +kernel
theorem dX6_restore_12 : decode cX6_restore 12 = .ok (.irem, 1) := by decide +kernel
theorem dX6_restore_13 : decode cX6_restore 13 = .ok (.putfield 17, 3) := by decide +kernel
theorem dX6_restore_16 : decode cX6_restore 16 = .ok (.aload_n 0, 1) := by decide +kernel
theorem dX6_restore_17 : decode cX6_restore 17 = .ok (.aload_n 0, 1) := by decide +kernel
theorem dX6_restore_18 : decode cX6_restore 18 = .ok (.getfield 26, 3) := by decide +kernel
theorem dX6_restore_21 : decode cX6_restore 21 = .ok (.iconst 1, 1) := by decide +kernel
theorem dX6_restore_22 : decode cX6_restore 22 = .ok (.isub, 1) := by decide +kernel
theorem dX6_restore_23 : decode cX6_restore 23 = .ok (.iconst 0, 1) := by decide +kernel
theorem dX6_restore_24 : decode cX6_restore 24 = .ok (.invokestatic 35, 3) := by decide +kernel
theorem dX6_restore_27 : decode cX6_restore 27 = .ok (.putfield 26, 3) := by decide +kernel
theorem dX6_restore_30 : decode cX6_restore 30 = .ok (.aload_n 0, 1) := by decide +kernel
theorem dX6_restore_31 : decode cX6_restore 31 = .ok (.getfield 11, 3) := by decide +kernel
theorem dX6_restore_34 : decode cX6_restore 34 = .ok (.aload_n 0, 1) := by decide +kernel
theorem dX6_restore_35 : decode cX6_restore 35 = .ok (.getfield 17, 3) := by decide +kernel
theorem dX6_restore_38 : decode cX6_restore 38 = .ok (.aaload, 1) := by decide +kernel
theorem dX6_restore_39 : decode cX6_restore 39 = .ok (.astore_n 2, 1) := by decide +kernel
theorem dX6_restore_40 : decode cX6_restore 40 = .ok (.aload_n 2, 1) := by decide +kernel
theorem dX6_restore_41 : decode cX6_restore 41 = .ok (.ifnull 8, 3) := by decide +kernel
theorem dX6_restore_44 : decode cX6_restore 44 = .ok (.aload_n 1, 1) := by decide +kernel
theorem dX6_restore_45 : decode cX6_restore 45 = .ok (.aload_n 2, 1) := by decide +kernel
theorem dX6_restore_46 : decode cX6_restore 46 = .ok (.invokevirtual 22, 3) := by decide +kernel
theorem dX6_restore_49 : decode cX6_restore 49 = .ok (.return_, 1) := by decide +kernel
theorem dX7_init_0 : decode cX7_init 0 = .ok (.aload_n 0, 1) := by decide +kernel
theorem dX7_init_1 : decode cX7_init 1 = .ok (.invokespecial 3, 3) := by decide +kernel
theorem dX7_init_4 : decode cX7_init 4 = .ok (.aload_n 0, 1) := by decide +kernel
theorem dX7_init_5 : decode cX7_init 5 = .ok (.sipush 240, 3) := by decide +kernel
theorem dX7_init_8 : decode cX7_init 8 = .ok (.newarray .int, 2) := by decide +kernel
theorem dX7_init_10 : decode cX7_init 10 = .ok (.putfield 9, 3) := by decide +kernel
theorem dX7_init_13 : decode cX7_init 13 = .ok (.aload_n 0, 1) := by decide +kernel
theorem dX7_init_14 : decode cX7_init 14 = .ok (.sipush 240, 3) := by decide +kernel
theorem dX7_init_17 : decode cX7_init 17 = .ok (.newarray .int, 2) := by decide +kernel
theorem dX7_init_19 : decode cX7_init 19 = .ok (.putfield 15, 3) := by decide +kernel
theorem dX7_init_22 : decode cX7_init 22 = .ok (.return_, 1) := by decide +kernel
theorem dX7_cell_0 : decode cX7_cell 0 = .ok (.iload_n 0, 1) := by decide +kernel
theorem dX7_cell_1 : decode cX7_cell 1 = .ok (.iconst 4, 1) := by decide +kernel
theorem dX7_cell_2 : decode cX7_cell 2 = .ok (.imul, 1) := by decide +kernel
theorem dX7_cell_3 : decode cX7_cell 3 = .ok (.iload_n 1, 1) := by decide +kernel
theorem dX7_cell_4 : decode cX7_cell 4 = .ok (.iadd, 1) := by decide +kernel
theorem dX7_cell_5 : decode cX7_cell 5 = .ok (.ireturn, 1) := by decide +kernel
theorem dX7_clear_0 : decode cX7_clear 0 = .ok (.aload_n 0, 1) := by decide +kernel
theorem dX7_clear_1 : decode cX7_clear 1 = .ok (.getfield 9, 3) := by decide +kernel
theorem dX7_clear_4 : decode cX7_clear 4 = .ok (.iconst 0, 1) := by decide +kernel
theorem dX7_clear_5 : decode cX7_clear 5 = .ok (.invokestatic 18, 3) := by decide +kernel
theorem dX7_clear_8 : decode cX7_clear 8 = .ok (.aload_n 0, 1) := by decide +kernel
theorem dX7_clear_9 : decode cX7_clear 9 = .ok (.getfield 15, 3) := by decide +kernel
theorem dX7_clear_12 : decode cX7_clear 12 = .ok (.iconst 0, 1) := by decide +kernel
theorem dX7_clear_13 : decode cX7_clear 13 = .ok (.invokestatic 18, 3) := by decide +kernel
theorem dX7_clear_16 : decode cX7_clear 16 = .ok (.return_, 1) := by decide +kernel
theorem dX7_copyFrom_0 : decode cX7_copyFrom 0 = .ok (.aload_n 1, 1) := by decide +kernel
theorem dX7_copyFrom_1 : decode cX7_copyFrom 1 = .ok (.getfield 9, 3) := by decide +kernel
theorem dX7_copyFrom_4 : decode cX7_copyFrom 4 = .ok (.iconst 0, 1) := by decide +kernel
theorem dX7_copyFrom_5 : decode cX7_copyFrom 5 = .ok (.aload_n 0, 1) := by decide +kernel
theorem dX7_copyFrom_6 : decode cX7_copyFrom 6 = .ok (.getfield 9, 3) := by decide +kernel
theorem dX7_copyFrom_9 : decode cX7_copyFrom 9 = .ok (.iconst 0, 1) := by decide +kernel
theorem dX7_copyFrom_10 : decode cX7_copyFrom 10 = .ok (.aload_n 0, 1) := by decide +kernel
theorem dX7_copyFrom_11 : decode cX7_copyFrom 11 = .ok (.getfield 9, 3) := by decide +kernel
theorem dX7_copyFrom_14 : decode cX7_copyFrom 14 = .ok (.arraylength, 1) := by decide +kernel
theorem dX7_copyFrom_15 : decode cX7_copyFrom 15 = .ok (.invokestatic 24, 3) := by decide +kernel
theorem dX7_copyFrom_18 : decode cX7_copyFrom 18 = .ok (.aload_n 1, 1) := by decide +kernel
theorem dX7_copyFrom_19 : decode cX7_copyFrom 19 = .ok (.getfield 15, 3) := by decide +kernel
theorem dX7_copyFrom_22 : decode cX7_copyFrom 22 = .ok (.iconst 0, 1) := by decide +kernel
theorem dX7_copyFrom_23 : decode cX7_copyFrom 23 = .ok (.aload_n 0, 1) := by decide +kernel
theorem dX7_copyFrom_24 : decode cX7_copyFrom 24 = .ok (.getfield 15, 3) := by decide +kernel
theorem dX7_copyFrom_27 : decode cX7_copyFrom 27 = .ok (.iconst 0, 1) := by decide +kernel
theorem dX7_copyFrom_28 : decode cX7_copyFrom 28 = .ok (.aload_n 0, 1) := by decide +kernel
theorem dX7_copyFrom_29 : decode cX7_copyFrom 29 = .ok (.getfield 15, 3) := by decide +kernel
theorem dX7_copyFrom_32 : decode cX7_copyFrom 32 = .ok (.arraylength, 1) := by decide +kernel
theorem dX7_copyFrom_33 : decode cX7_copyFrom 33 = .ok (.invokestatic 24, 3) := by decide +kernel
theorem dX7_copyFrom_36 : decode cX7_copyFrom 36 = .ok (.return_, 1) := by decide +kernel
theorem dX7_countedValue_0 : decode cX7_countedValue 0 = .ok (.aload_n 0, 1) := by decide +kernel
theorem dX7_countedValue_1 : decode cX7_countedValue 1 = .ok (.getfield 9, 3) := by decide +kernel
theorem dX7_countedValue_4 : decode cX7_countedValue 4 = .ok (.iload_n 1, 1) := by decide +kernel
theorem dX7_countedValue_5 : decode cX7_countedValue 5 = .ok (.aload_n 2, 1) := by decide +kernel
theorem dX7_countedValue_6 : decode cX7_countedValue 6 = .ok (.invokestatic 30, 3) := by decide +kernel
theorem dX7_countedValue_9 : decode cX7_countedValue 9 = .ok (.lreturn, 1) := by decide +kernel
theorem dX7_correctionValue_0 : decode cX7_correctionValue 0 = .ok (.aload_n 0, 1) := by decide +kernel
theorem dX7_correctionValue_1 : decode cX7_correctionValue 1 = .ok (.getfield 15, 3) := by decide +kernel
theorem dX7_correctionValue_4 : decode cX7_correctionValue 4 = .ok (.iload_n 1, 1) := by decide +kernel
theorem dX7_correctionValue_5 : decode cX7_correctionValue 5 = .ok (.aload_n 2, 1) := by decide +kernel
theorem dX7_correctionValue_6 : decode cX7_correctionValue 6 = .ok (.invokestatic 30, 3) := by decide +kernel
theorem dX7_correctionValue_9 : decode cX7_correctionValue 9 = .ok (.lreturn, 1) := by decide +kernel
theorem dX7_value_0 : decode cX7_value 0 = .ok (.lconst 0, 1) := by decide +kernel
theorem dX7_value_1 : decode cX7_value 1 = .ok (.lstore_n 3, 1) := by decide +kernel
theorem dX7_value_2 : decode cX7_value 2 = .ok (.iconst 0, 1) := by decide +kernel
theorem dX7_value_3 : decode cX7_value 3 = .ok (.istore 5, 2) := by decide +kernel
theorem dX7_value_5 : decode cX7_value 5 = .ok (.iload 5, 2) := by decide +kernel
theorem dX7_value_7 : decode cX7_value 7 = .ok (.aload_n 2, 1) := by decide +kernel
theorem dX7_value_8 : decode cX7_value 8 = .ok (.getfield 34, 3) := by decide +kernel
theorem dX7_value_11 : decode cX7_value 11 = .ok (.if_icmp .ge 30, 3) := by decide +kernel
theorem dX7_value_14 : decode cX7_value 14 = .ok (.lload_n 3, 1) := by decide +kernel
theorem dX7_value_15 : decode cX7_value 15 = .ok (.aload_n 0, 1) := by decide +kernel
theorem dX7_value_16 : decode cX7_value 16 = .ok (.iload_n 1, 1) := by decide +kernel
theorem dX7_value_17 : decode cX7_value 17 = .ok (.iload 5, 2) := by decide +kernel
theorem dX7_value_19 : decode cX7_value 19 = .ok (.invokestatic 40, 3) := by decide +kernel
theorem dX7_value_22 : decode cX7_value 22 = .ok (.iaload, 1) := by decide +kernel
theorem dX7_value_23 : decode cX7_value 23 = .ok (.i2l, 1) := by decide +kernel
theorem dX7_value_24 : decode cX7_value 24 = .ok (.aload_n 2, 1) := by decide +kernel
theorem dX7_value_25 : decode cX7_value 25 = .ok (.getfield 44, 3) := by decide +kernel
theorem dX7_value_28 : decode cX7_value 28 = .ok (.iload 5, 2) := by decide +kernel
theorem dX7_value_30 : decode cX7_value 30 = .ok (.iaload, 1) := by decide +kernel
theorem dX7_value_31 : decode cX7_value 31 = .ok (.i2l, 1) := by decide +kernel
theorem dX7_value_32 : decode cX7_value 32 = .ok (.lmul, 1) := by decide +kernel
theorem dX7_value_33 : decode cX7_value 33 = .ok (.ladd, 1) := by decide +kernel
theorem dX7_value_34 : decode cX7_value 34 = .ok (.lstore_n 3, 1) := by decide +kernel
theorem dX7_value_35 : decode cX7_value 35 = .ok (.iinc 5 1, 3) := by decide +kernel
theorem dX7_value_38 : decode cX7_value 38 = .ok (.goto (-33), 3) := by decide +kernel
theorem dX7_value_41 : decode cX7_value 41 = .ok (.lload_n 3, 1) := by decide +kernel
theorem dX7_value_42 : decode cX7_value 42 = .ok (.lreturn, 1) := by decide +kernel
theorem dX7_countCorrections_0 : decode cX7_countCorrections 0 = .ok (.iconst 0, 1) := by decide +kernel
theorem dX7_countCorrections_1 : decode cX7_countCorrections 1 = .ok (.istore_n 2, 1) := by decide +kernel
theorem dX7_countCorrections_2 : decode cX7_countCorrections 2 = .ok (.iload_n 2, 1) := by decide +kernel
theorem dX7_countCorrections_3 : decode cX7_countCorrections 3 = .ok (.iconst 4, 1) := by decide +kernel
theorem dX7_countCorrections_4 : decode cX7_countCorrections 4 = .ok (.if_icmp .ge 37, 3) := by decide +kernel
theorem dX7_countCorrections_7 : decode cX7_countCorrections 7 = .ok (.iload_n 1, 1) := by decide +kernel
theorem dX7_countCorrections_8 : decode cX7_countCorrections 8 = .ok (.iload_n 2, 1) := by decide +kernel
theorem dX7_countCorrections_9 : decode cX7_countCorrections 9 = .ok (.invokestatic 40, 3) := by decide +kernel
theorem dX7_countCorrections_12 : decode cX7_countCorrections 12 = .ok (.istore_n 3, 1) := by decide +kernel
theorem dX7_countCorrections_13 : decode cX7_countCorrections 13 = .ok (.aload_n 0, 1) := by decide +kernel
theorem dX7_countCorrections_14 : decode cX7_countCorrections 14 = .ok (.getfield 9, 3) := by decide +kernel
theorem dX7_countCorrections_17 : decode cX7_countCorrections 17 = .ok (.iload_n 3, 1) := by decide +kernel
theorem dX7_countCorrections_18 : decode cX7_countCorrections 18 = .ok (.dup2, 1) := by decide +kernel
theorem dX7_countCorrections_19 : decode cX7_countCorrections 19 = .ok (.iaload, 1) := by decide +kernel
theorem dX7_countCorrections_20 : decode cX7_countCorrections 20 = .ok (.aload_n 0, 1) := by decide +kernel
theorem dX7_countCorrections_21 : decode cX7_countCorrections 21 = .ok (.getfield 15, 3) := by decide +kernel
theorem dX7_countCorrections_24 : decode cX7_countCorrections 24 = .ok (.iload_n 3, 1) := by decide +kernel
theorem dX7_countCorrections_25 : decode cX7_countCorrections 25 = .ok (.iaload, 1) := by decide +kernel
theorem dX7_countCorrections_26 : decode cX7_countCorrections 26 = .ok (.iadd, 1) := by decide +kernel
theorem dX7_countCorrections_27 : decode cX7_countCorrections 27 = .ok (.iastore, 1) := by decide +kernel
theorem dX7_countCorrections_28 : decode cX7_countCorrections 28 = .ok (.aload_n 0, 1) := by decide +kernel
theorem dX7_countCorrections_29 : decode cX7_countCorrections 29 = .ok (.getfield 15, 3) := by decide +kernel
theorem dX7_countCorrections_32 : decode cX7_countCorrections 32 = .ok (.iload_n 3, 1) := by decide +kernel
theorem dX7_countCorrections_33 : decode cX7_countCorrections 33 = .ok (.iconst 0, 1) := by decide +kernel
theorem dX7_countCorrections_34 : decode cX7_countCorrections 34 = .ok (.iastore, 1) := by decide +kernel
theorem dX7_countCorrections_35 : decode cX7_countCorrections 35 = .ok (.iinc 2 1, 3) := by decide +kernel
theorem dX7_countCorrections_38 : decode cX7_countCorrections 38 = .ok (.goto (-36), 3) := by decide +kernel
theorem dX7_countCorrections_41 : decode cX7_countCorrections 41 = .ok (.return_, 1) := by decide +kernel
theorem dX8_init_0 : decode cX8_init 0 = .ok (.aload_n 0, 1) := by decide +kernel
theorem dX8_init_1 : decode cX8_init 1 = .ok (.invokespecial 3, 3) := by decide +kernel
theorem dX8_init_4 : decode cX8_init 4 = .ok (.aload_n 0, 1) := by decide +kernel
theorem dX8_init_5 : decode cX8_init 5 = .ok (.iconst (-1), 1) := by decide +kernel
theorem dX8_init_6 : decode cX8_init 6 = .ok (.putfield 9, 3) := by decide +kernel
theorem dX8_init_9 : decode cX8_init 9 = .ok (.aload_n 0, 1) := by decide +kernel
theorem dX8_init_10 : decode cX8_init 10 = .ok (.bipush 60, 2) := by decide +kernel
theorem dX8_init_12 : decode cX8_init 12 = .ok (.newarray .int, 2) := by decide +kernel
theorem dX8_init_14 : decode cX8_init 14 = .ok (.putfield 15, 3) := by decide +kernel
theorem dX8_init_17 : decode cX8_init 17 = .ok (.aload_n 0, 1) := by decide +kernel
theorem dX8_init_18 : decode cX8_init 18 = .ok (.bipush 72, 2) := by decide +kernel
theorem dX8_init_20 : decode cX8_init 20 = .ok (.newarray .long, 2) := by decide +kernel
theorem dX8_init_22 : decode cX8_init 22 = .ok (.putfield 19, 3) := by decide +kernel
theorem dX8_init_25 : decode cX8_init 25 = .ok (.aload_n 0, 1) := by decide +kernel
theorem dX8_init_26 : decode cX8_init 26 = .ok (.bipush 6, 2) := by decide +kernel
theorem dX8_init_28 : decode cX8_init 28 = .ok (.newarray .long, 2) := by decide +kernel
theorem dX8_init_30 : decode cX8_init 30 = .ok (.putfield 23, 3) := by decide +kernel
theorem dX8_init_33 : decode cX8_init 33 = .ok (.return_, 1) := by decide +kernel
theorem dX8_begin_0 : decode cX8_begin 0 = .ok (.aload_n 0, 1) := by decide +kernel
theorem dX8_begin_1 : decode cX8_begin 1 = .ok (.iconst 0, 1) := by decide +kernel
theorem dX8_begin_2 : decode cX8_begin 2 = .ok (.putfield 26, 3) := by decide +kernel
theorem dX8_begin_5 : decode cX8_begin 5 = .ok (.aload_n 0, 1) := by decide +kernel
theorem dX8_begin_6 : decode cX8_begin 6 = .ok (.iload_n 1, 1) := by decide +kernel
theorem dX8_begin_7 : decode cX8_begin 7 = .ok (.putfield 29, 3) := by decide +kernel
theorem dX8_begin_10 : decode cX8_begin 10 = .ok (.aload_n 0, 1) := by decide +kernel
theorem dX8_begin_11 : decode cX8_begin 11 = .ok (.iload_n 2, 1) := by decide +kernel
theorem dX8_begin_12 : decode cX8_begin 12 = .ok (.putfield 32, 3) := by decide +kernel
theorem dX8_begin_15 : decode cX8_begin 15 = .ok (.aload_n 0, 1) := by decide +kernel
theorem dX8_begin_16 : decode cX8_begin 16 = .ok (.iload_n 3, 1) := by decide +kernel
theorem dX8_begin_17 : decode cX8_begin 17 = .ok (.putfield 35, 3) := by decide +kernel
theorem dX8_begin_20 : decode cX8_begin 20 = .ok (.aload_n 0, 1) := by decide +kernel
theorem dX8_begin_21 : decode cX8_begin 21 = .ok (.iconst 0, 1) := by decide +kernel
theorem dX8_begin_22 : decode cX8_begin 22 = .ok (.putfield 38, 3) := by decide +kernel
theorem dX8_begin_25 : decode cX8_begin 25 = .ok (.aload_n 0, 1) := by decide +kernel
theorem dX8_begin_26 : decode cX8_begin 26 = .ok (.iconst (-1), 1) := by decide +kernel
theorem dX8_begin_27 : decode cX8_begin 27 = .ok (.iconst 0, 1) := by decide +kernel
theorem dX8_begin_28 : decode cX8_begin 28 = .ok (.invokevirtual 41, 3) := by decide +kernel
theorem dX8_begin_31 : decode cX8_begin 31 = .ok (.aload_n 0, 1) := by decide +kernel
theorem dX8_begin_32 : decode cX8_begin 32 = .ok (.getfield 15, 3) := by decide +kernel
theorem dX8_begin_35 : decode cX8_begin 35 = .ok (.iconst 0, 1) := by decide +kernel
theorem dX8_begin_36 : decode cX8_begin 36 = .ok (.invokestatic 45, 3) := by decide +kernel
theorem dX8_begin_39 : decode cX8_begin 39 = .ok (.aload_n 0, 1) := by decide +kernel
theorem dX8_begin_40 : decode cX8_begin 40 = .ok (.getfield 19, 3) := by decide +kernel
theorem dX8_begin_43 : decode cX8_begin 43 = .ok (.lconst 0, 1) := by decide +kernel
theorem dX8_begin_44 : decode cX8_begin 44 = .ok (.invokestatic 51, 3) := by decide +kernel
theorem dX8_begin_47 : decode cX8_begin 47 = .ok (.aload_n 0, 1) := by decide +kernel
theorem dX8_begin_48 : decode cX8_begin 48 = .ok (.getfield 23, 3) := by decide +kernel
theorem dX8_begin_51 : decode cX8_begin 51 = .ok (.lconst 0, 1) := by decide +kernel
theorem dX8_begin_52 : decode cX8_begin 52 = .ok (.invokestatic 51, 3) := by decide +kernel
theorem dX8_begin_55 : decode cX8_begin 55 = .ok (.return_, 1) := by decide +kernel
theorem dX8_copyFrom_0 : decode cX8_copyFrom 0 = .ok (.aload_n 0, 1) := by decide +kernel
theorem dX8_copyFrom_1 : decode cX8_copyFrom 1 = .ok (.aload_n 1, 1) := by decide +kernel
theorem dX8_copyFrom_2 : decode cX8_copyFrom 2 = .ok (.getfield 26, 3) := by decide +kernel
theorem dX8_copyFrom_5 : decode cX8_copyFrom 5 = .ok (.putfield 26, 3) := by decide +kernel
theorem dX8_copyFrom_8 : decode cX8_copyFrom 8 = .ok (.aload_n 0, 1) := by decide +kernel
theorem dX8_copyFrom_9 : decode cX8_copyFrom 9 = .ok (.aload_n 1, 1) := by decide +kernel
theorem dX8_copyFrom_10 : decode cX8_copyFrom 10 = .ok (.getfield 29, 3) := by decide +kernel
theorem dX8_copyFrom_13 : decode cX8_copyFrom 13 = .ok (.putfield 29, 3) := by decide +kernel
theorem dX8_copyFrom_16 : decode cX8_copyFrom 16 = .ok (.aload_n 0, 1) := by decide +kernel
theorem dX8_copyFrom_17 : decode cX8_copyFrom 17 = .ok (.aload_n 1, 1) := by decide +kernel
theorem dX8_copyFrom_18 : decode cX8_copyFrom 18 = .ok (.getfield 32, 3) := by decide +kernel
theorem dX8_copyFrom_21 : decode cX8_copyFrom 21 = .ok (.putfield 32, 3) := by decide +kernel
theorem dX8_copyFrom_24 : decode cX8_copyFrom 24 = .ok (.aload_n 0, 1) := by decide +kernel
theorem dX8_copyFrom_25 : decode cX8_copyFrom 25 = .ok (.aload_n 1, 1) := by decide +kernel
theorem dX8_copyFrom_26 : decode cX8_copyFrom 26 = .ok (.getfield 35, 3) := by decide +kernel
theorem dX8_copyFrom_29 : decode cX8_copyFrom 29 = .ok (.putfield 35, 3) := by decide +kernel
theorem dX8_copyFrom_32 : decode cX8_copyFrom 32 = .ok (.aload_n 0, 1) := by decide +kernel
theorem dX8_copyFrom_33 : decode cX8_copyFrom 33 = .ok (.aload_n 1, 1) := by decide +kernel
theorem dX8_copyFrom_34 : decode cX8_copyFrom 34 = .ok (.getfield 38, 3) := by decide +kernel
theorem dX8_copyFrom_37 : decode cX8_copyFrom 37 = .ok (.putfield 38, 3) := by decide +kernel
theorem dX8_copyFrom_40 : decode cX8_copyFrom 40 = .ok (.aload_n 0, 1) := by decide +kernel
theorem dX8_copyFrom_41 : decode cX8_copyFrom 41 = .ok (.aload_n 1, 1) := by decide +kernel
theorem dX8_copyFrom_42 : decode cX8_copyFrom 42 = .ok (.getfield 9, 3) := by decide +kernel
theorem dX8_copyFrom_45 : decode cX8_copyFrom 45 = .ok (.putfield 9, 3) := by decide +kernel
theorem dX8_copyFrom_48 : decode cX8_copyFrom 48 = .ok (.aload_n 0, 1) := by decide +kernel
theorem dX8_copyFrom_49 : decode cX8_copyFrom 49 = .ok (.aload_n 1, 1) := by decide +kernel
theorem dX8_copyFrom_50 : decode cX8_copyFrom 50 = .ok (.getfield 54, 3) := by decide +kernel
theorem dX8_copyFrom_53 : decode cX8_copyFrom 53 = .ok (.putfield 54, 3) := by decide +kernel
theorem dX8_copyFrom_56 : decode cX8_copyFrom 56 = .ok (.aload_n 1, 1) := by decide +kernel
theorem dX8_copyFrom_57 : decode cX8_copyFrom 57 = .ok (.getfield 15, 3) := by decide +kernel
theorem dX8_copyFrom_60 : decode cX8_copyFrom 60 = .ok (.iconst 0, 1) := by decide +kernel
theorem dX8_copyFrom_61 : decode cX8_copyFrom 61 = .ok (.aload_n 0, 1) := by decide +kernel
theorem dX8_copyFrom_62 : decode cX8_copyFrom 62 = .ok (.getfield 15, 3) := by decide +kernel
theorem dX8_copyFrom_65 : decode cX8_copyFrom 65 = .ok (.iconst 0, 1) := by decide +kernel
theorem dX8_copyFrom_66 : decode cX8_copyFrom 66 = .ok (.aload_n 0, 1) := by decide +kernel
theorem dX8_copyFrom_67 : decode cX8_copyFrom 67 = .ok (.getfield 15, 3) := by decide +kernel
theorem dX8_copyFrom_70 : decode cX8_copyFrom 70 = .ok (.arraylength, 1) := by decide +kernel
theorem dX8_copyFrom_71 : decode cX8_copyFrom 71 = .ok (.invokestatic 57, 3) := by decide +kernel
theorem dX8_copyFrom_74 : decode cX8_copyFrom 74 = .ok (.aload_n 1, 1) := by decide +kernel
theorem dX8_copyFrom_75 : decode cX8_copyFrom 75 = .ok (.getfield 19, 3) := by decide +kernel
theorem dX8_copyFrom_78 : decode cX8_copyFrom 78 = .ok (.iconst 0, 1) := by decide +kernel
theorem dX8_copyFrom_79 : decode cX8_copyFrom 79 = .ok (.aload_n 0, 1) := by decide +kernel
theorem dX8_copyFrom_80 : decode cX8_copyFrom 80 = .ok (.getfield 19, 3) := by decide +kernel
theorem dX8_copyFrom_83 : decode cX8_copyFrom 83 = .ok (.iconst 0, 1) := by decide +kernel
theorem dX8_copyFrom_84 : decode cX8_copyFrom 84 = .ok (.aload_n 0, 1) := by decide +kernel
theorem dX8_copyFrom_85 : decode cX8_copyFrom 85 = .ok (.getfield 19, 3) := by decide +kernel
theorem dX8_copyFrom_88 : decode cX8_copyFrom 88 = .ok (.arraylength, 1) := by decide +kernel
theorem dX8_copyFrom_89 : decode cX8_copyFrom 89 = .ok (.invokestatic 57, 3) := by decide +kernel
theorem dX8_copyFrom_92 : decode cX8_copyFrom 92 = .ok (.aload_n 1, 1) := by decide +kernel
theorem dX8_copyFrom_93 : decode cX8_copyFrom 93 = .ok (.getfield 23, 3) := by decide +kernel
theorem dX8_copyFrom_96 : decode cX8_copyFrom 96 = .ok (.iconst 0, 1) := by decide +kernel
theorem dX8_copyFrom_97 : decode cX8_copyFrom 97 = .ok (.aload_n 0, 1) := by decide +kernel
theorem dX8_copyFrom_98 : decode cX8_copyFrom 98 = .ok (.getfield 23, 3) := by decide +kernel
theorem dX8_copyFrom_101 : decode cX8_copyFrom 101 = .ok (.iconst 0, 1) := by decide +kernel
theorem dX8_copyFrom_102 : decode cX8_copyFrom 102 = .ok (.aload_n 0, 1) := by decide +kernel
theorem dX8_copyFrom_103 : decode cX8_copyFrom 103 = .ok (.getfield 23, 3) := by decide +kernel
theorem dX8_copyFrom_106 : decode cX8_copyFrom 106 = .ok (.arraylength, 1) := by decide +kernel
theorem dX8_copyFrom_107 : decode cX8_copyFrom 107 = .ok (.invokestatic 57, 3) := by decide +kernel
theorem dX8_copyFrom_110 : decode cX8_copyFrom 110 = .ok (.return_, 1) := by decide +kernel
theorem dX8_isActive_0 : decode cX8_isActive 0 = .ok (.aload_n 0, 1) := by decide +kernel
theorem dX8_isActive_1 : decode cX8_isActive 1 = .ok (.getfield 26, 3) := by decide +kernel
theorem dX8_isActive_4 : decode cX8_isActive 4 = .ok (.iconst 1, 1) := by decide +kernel
theorem dX8_isActive_5 : decode cX8_isActive 5 = .ok (.if_icmp .ne 7, 3) := by decide +kernel
theorem dX8_isActive_8 : decode cX8_isActive 8 = .ok (.iconst 1, 1) := by decide +kernel
theorem dX8_isActive_9 : decode cX8_isActive 9 = .ok (.goto 4, 3) := by decide +kernel
theorem dX8_isActive_12 : decode cX8_isActive 12 = .ok (.iconst 0, 1) := by decide +kernel
theorem dX8_isActive_13 : decode cX8_isActive 13 = .ok (.ireturn, 1) := by decide +kernel
theorem dX8_setAssignment_0 : decode cX8_setAssignment 0 = .ok (.aload_n 0, 1) := by decide +kernel
theorem dX8_setAssignment_1 : decode cX8_setAssignment 1 = .ok (.iload_n 2, 1) := by decide +kernel
theorem dX8_setAssignment_2 : decode cX8_setAssignment 2 = .ok (.ifCond .le 7, 3) := by decide +kernel
theorem dX8_setAssignment_5 : decode cX8_setAssignment 5 = .ok (.iload_n 1, 1) := by decide +kernel
theorem dX8_setAssignment_6 : decode cX8_setAssignment 6 = .ok (.goto 4, 3) := by decide +kernel
theorem dX8_setAssignment_9 : decode cX8_setAssignment 9 = .ok (.iconst (-1), 1) := by decide +kernel
theorem dX8_setAssignment_10 : decode cX8_setAssignment 10 = .ok (.putfield 9, 3) := by decide +kernel
theorem dX8_setAssignment_13 : decode cX8_setAssignment 13 = .ok (.aload_n 0, 1) := by decide +kernel
theorem dX8_setAssignment_14 : decode cX8_setAssignment 14 = .ok (.iload_n 2, 1) := by decide +kernel
theorem dX8_setAssignment_15 : decode cX8_setAssignment 15 = .ok (.putfield 54, 3) := by decide +kernel
theorem dX8_setAssignment_18 : decode cX8_setAssignment 18 = .ok (.return_, 1) := by decide +kernel
theorem dX8_isAheadOf_0 : decode cX8_isAheadOf 0 = .ok (.aload_n 0, 1) := by decide +kernel
theorem dX8_isAheadOf_1 : decode cX8_isAheadOf 1 = .ok (.getfield 35, 3) := by decide +kernel
theorem dX8_isAheadOf_4 : decode cX8_isAheadOf 4 = .ok (.aload_n 1, 1) := by decide +kernel
theorem dX8_isAheadOf_5 : decode cX8_isAheadOf 5 = .ok (.getfield 35, 3) := by decide +kernel
theorem dX8_isAheadOf_8 : decode cX8_isAheadOf 8 = .ok (.if_icmp .lt 7, 3) := by decide +kernel
theorem dX8_isAheadOf_11 : decode cX8_isAheadOf 11 = .ok (.iconst 1, 1) := by decide +kernel
theorem dX8_isAheadOf_12 : decode cX8_isAheadOf 12 = .ok (.goto 4, 3) := by decide +kernel
theorem dX8_isAheadOf_15 : decode cX8_isAheadOf 15 = .ok (.iconst 0, 1) := by decide +kernel
theorem dX8_isAheadOf_16 : decode cX8_isAheadOf 16 = .ok (.ireturn, 1) := by decide +kernel
theorem dX8_lotSum_0 : decode cX8_lotSum 0 = .ok (.lconst 0, 1) := by decide +kernel
theorem dX8_lotSum_1 : decode cX8_lotSum 1 = .ok (.lstore_n 1, 1) := by decide +kernel
theorem dX8_lotSum_2 : decode cX8_lotSum 2 = .ok (.iconst 0, 1) := by decide +kernel
theorem dX8_lotSum_3 : decode cX8_lotSum 3 = .ok (.istore_n 3, 1) := by decide +kernel
theorem dX8_lotSum_4 : decode cX8_lotSum 4 = .ok (.iload_n 3, 1) := by decide +kernel
theorem dX8_lotSum_5 : decode cX8_lotSum 5 = .ok (.aload_n 0, 1) := by decide +kernel
theorem dX8_lotSum_6 : decode cX8_lotSum 6 = .ok (.getfield 19, 3) := by decide +kernel
theorem dX8_lotSum_9 : decode cX8_lotSum 9 = .ok (.arraylength, 1) := by decide +kernel
theorem dX8_lotSum_10 : decode cX8_lotSum 10 = .ok (.if_icmp .ge 18, 3) := by decide +kernel
theorem dX8_lotSum_13 : decode cX8_lotSum 13 = .ok (.lload_n 1, 1) := by decide +kernel
theorem dX8_lotSum_14 : decode cX8_lotSum 14 = .ok (.aload_n 0, 1) := by decide +kernel
theorem dX8_lotSum_15 : decode cX8_lotSum 15 = .ok (.getfield 19, 3) := by decide +kernel
theorem dX8_lotSum_18 : decode cX8_lotSum 18 = .ok (.iload_n 3, 1) := by decide +kernel
theorem dX8_lotSum_19 : decode cX8_lotSum 19 = .ok (.laload, 1) := by decide +kernel
theorem dX8_lotSum_20 : decode cX8_lotSum 20 = .ok (.ladd, 1) := by decide +kernel
theorem dX8_lotSum_21 : decode cX8_lotSum 21 = .ok (.lstore_n 1, 1) := by decide +kernel
theorem dX8_lotSum_22 : decode cX8_lotSum 22 = .ok (.iinc 3 1, 3) := by decide +kernel
theorem dX8_lotSum_25 : decode cX8_lotSum 25 = .ok (.goto (-21), 3) := by decide +kernel
theorem dX8_lotSum_28 : decode cX8_lotSum 28 = .ok (.lload_n 1, 1) := by decide +kernel
theorem dX8_lotSum_29 : decode cX8_lotSum 29 = .ok (.lreturn, 1) := by decide +kernel
theorem dX8_takeCredit_0 : decode cX8_takeCredit 0 = .ok (.lload_n 1, 1) := by decide +kernel
theorem dX8_takeCredit_1 : decode cX8_takeCredit 1 = .ok (.aload_n 0, 1) := by decide +kernel
theorem dX8_takeCredit_2 : decode cX8_takeCredit 2 = .ok (.getfield 23, 3) := by decide +kernel
theorem dX8_takeCredit_5 : decode cX8_takeCredit 5 = .ok (.iconst 0, 1) := by decide +kernel
theorem dX8_takeCredit_6 : decode cX8_takeCredit 6 = .ok (.laload, 1) := by decide +kernel
theorem dX8_takeCredit_7 : decode cX8_takeCredit 7 = .ok (.invokestatic 63, 3) := by decide +kernel
theorem dX8_takeCredit_10 : decode cX8_takeCredit 10 = .ok (.lstore 4, 2) := by decide +kernel
theorem dX8_takeCredit_12 : decode cX8_takeCredit 12 = .ok (.aload_n 0, 1) := by decide +kernel
theorem dX8_takeCredit_13 : decode cX8_takeCredit 13 = .ok (.getfield 23, 3) := by decide +kernel
theorem dX8_takeCredit_16 : decode cX8_takeCredit 16 = .ok (.iconst 0, 1) := by decide +kernel
theorem dX8_takeCredit_17 : decode cX8_takeCredit 17 = .ok (.dup2, 1) := by decide +kernel
theorem dX8_takeCredit_18 : decode cX8_takeCredit 18 = .ok (.laload, 1) := by decide +kernel
theorem dX8_takeCredit_19 : decode cX8_takeCredit 19 = .ok (.lload 4, 2) := by decide +kernel
theorem dX8_takeCredit_21 : decode cX8_takeCredit 21 = .ok (.lsub, 1) := by decide +kernel
theorem dX8_takeCredit_22 : decode cX8_takeCredit 22 = .ok (.lastore, 1) := by decide +kernel
theorem dX8_takeCredit_23 : decode cX8_takeCredit 23 = .ok (.iload_n 3, 1) := by decide +kernel
theorem dX8_takeCredit_24 : decode cX8_takeCredit 24 = .ok (.ifCond .lt 25, 3) := by decide +kernel
theorem dX8_takeCredit_27 : decode cX8_takeCredit 27 = .ok (.iload_n 3, 1) := by decide +kernel
theorem dX8_takeCredit_28 : decode cX8_takeCredit 28 = .ok (.aload_n 0, 1) := by decide +kernel
theorem dX8_takeCredit_29 : decode cX8_takeCredit 29 = .ok (.getfield 19, 3) := by decide +kernel
theorem dX8_takeCredit_32 : decode cX8_takeCredit 32 = .ok (.arraylength, 1) := by decide +kernel
theorem dX8_takeCredit_33 : decode cX8_takeCredit 33 = .ok (.if_icmp .ge 16, 3) := by decide +kernel
theorem dX8_takeCredit_36 : decode cX8_takeCredit 36 = .ok (.aload_n 0, 1) := by decide +kernel
theorem dX8_takeCredit_37 : decode cX8_takeCredit 37 = .ok (.getfield 19, 3) := by decide +kernel
theorem dX8_takeCredit_40 : decode cX8_takeCredit 40 = .ok (.iload_n 3, 1) := by decide +kernel
theorem dX8_takeCredit_41 : decode cX8_takeCredit 41 = .ok (.dup2, 1) := by decide +kernel
theorem dX8_takeCredit_42 : decode cX8_takeCredit 42 = .ok (.laload, 1) := by decide +kernel
theorem dX8_takeCredit_43 : decode cX8_takeCredit 43 = .ok (.lload_n 1, 1) := by decide +kernel
theorem dX8_takeCredit_44 : decode cX8_takeCredit 44 = .ok (.lload 4, 2) := by decide +kernel
theorem dX8_takeCredit_46 : decode cX8_takeCredit 46 = .ok (.lsub, 1) := by decide +kernel
theorem dX8_takeCredit_47 : decode cX8_takeCredit 47 = .ok (.ladd, 1) := by decide +kernel
theorem dX8_takeCredit_48 : decode cX8_takeCredit 48 = .ok (.lastore, 1) := by decide +kernel
theorem dX8_takeCredit_49 : decode cX8_takeCredit 49 = .ok (.return_, 1) := by decide +kernel
theorem dX8_loseCredit_0 : decode cX8_loseCredit 0 = .ok (.lload_n 1, 1) := by decide +kernel
theorem dX8_loseCredit_1 : decode cX8_loseCredit 1 = .ok (.lstore_n 3, 1) := by decide +kernel
theorem dX8_loseCredit_2 : decode cX8_loseCredit 2 = .ok (.aload_n 0, 1) := by decide +kernel
theorem dX8_loseCredit_3 : decode cX8_loseCredit 3 = .ok (.getfield 19, 3) := by decide +kernel
theorem dX8_loseCredit_6 : decode cX8_loseCredit 6 = .ok (.arraylength, 1) := by decide +kernel
theorem dX8_loseCredit_7 : decode cX8_loseCredit 7 = .ok (.iconst 1, 1) := by decide +kernel
theorem dX8_loseCredit_8 : decode cX8_loseCredit 8 = .ok (.isub, 1) := by decide +kernel
theorem dX8_loseCredit_9 : decode cX8_loseCredit 9 = .ok (.istore 5, 2) := by decide +kernel
theorem dX8_loseCredit_11 : decode cX8_loseCredit 11 = .ok (.iload 5, 2) := by decide +kernel
theorem dX8_loseCredit_13 : decode cX8_loseCredit 13 = .ok (.ifCond .lt 45, 3) := by decide +kernel
theorem dX8_loseCredit_16 : decode cX8_loseCredit 16 = .ok (.lload_n 3, 1) := by decide +kernel
theorem dX8_loseCredit_17 : decode cX8_loseCredit 17 = .ok (.lconst 0, 1) := by decide +kernel
theorem dX8_loseCredit_18 : decode cX8_loseCredit 18 = .ok (.lcmp, 1) := by decide +kernel
theorem dX8_loseCredit_19 : decode cX8_loseCredit 19 = .ok (.ifCond .le 39, 3) := by decide +kernel
theorem dX8_loseCredit_22 : decode cX8_loseCredit 22 = .ok (.lload_n 3, 1) := by decide +kernel
theorem dX8_loseCredit_23 : decode cX8_loseCredit 23 = .ok (.aload_n 0, 1) := by decide +kernel
theorem dX8_loseCredit_24 : decode cX8_loseCredit 24 = .ok (.getfield 19, 3) := by decide +kernel
theorem dX8_loseCredit_27 : decode cX8_loseCredit 27 = .ok (.iload 5, 2) := by decide +kernel
theorem dX8_loseCredit_29 : decode cX8_loseCredit 29 = .ok (.laload, 1) := by decide +kernel
theorem dX8_loseCredit_30 : decode cX8_loseCredit 30 = .ok (.invokestatic 63, 3) := by decide +kernel
theorem dX8_loseCredit_33 : decode cX8_loseCredit 33 = .ok (.lstore 6, 2) := by decide +kernel
theorem dX8_loseCredit_35 : decode cX8_loseCredit 35 = .ok (.aload_n 0, 1) := by decide +kernel
theorem dX8_loseCredit_36 : decode cX8_loseCredit 36 = .ok (.getfield 19, 3) := by decide +kernel
theorem dX8_loseCredit_39 : decode cX8_loseCredit 39 = .ok (.iload 5, 2) := by decide +kernel
theorem dX8_loseCredit_41 : decode cX8_loseCredit 41 = .ok (.dup2, 1) := by decide +kernel
theorem dX8_loseCredit_42 : decode cX8_loseCredit 42 = .ok (.laload, 1) := by decide +kernel
theorem dX8_loseCredit_43 : decode cX8_loseCredit 43 = .ok (.lload 6, 2) := by decide +kernel
theorem dX8_loseCredit_45 : decode cX8_loseCredit 45 = .ok (.lsub, 1) := by decide +kernel
theorem dX8_loseCredit_46 : decode cX8_loseCredit 46 = .ok (.lastore, 1) := by decide +kernel
theorem dX8_loseCredit_47 : decode cX8_loseCredit 47 = .ok (.lload_n 3, 1) := by decide +kernel
theorem dX8_loseCredit_48 : decode cX8_loseCredit 48 = .ok (.lload 6, 2) := by decide +kernel
theorem dX8_loseCredit_50 : decode cX8_loseCredit 50 = .ok (.lsub, 1) := by decide +kernel
theorem dX8_loseCredit_51 : decode cX8_loseCredit 51 = .ok (.lstore_n 3, 1) := by decide +kernel
theorem dX8_loseCredit_52 : decode cX8_loseCredit 52 = .ok (.iinc 5 (-1), 3) := by decide +kernel
theorem dX8_loseCredit_55 : decode cX8_loseCredit 55 = .ok (.goto (-44), 3) := by decide +kernel
theorem dX8_loseCredit_58 : decode cX8_loseCredit 58 = .ok (.aload_n 0, 1) := by decide +kernel
theorem dX8_loseCredit_59 : decode cX8_loseCredit 59 = .ok (.getfield 23, 3) := by decide +kernel
theorem dX8_loseCredit_62 : decode cX8_loseCredit 62 = .ok (.iconst 0, 1) := by decide +kernel
theorem dX8_loseCredit_63 : decode cX8_loseCredit 63 = .ok (.dup2, 1) := by decide +kernel
theorem dX8_loseCredit_64 : decode cX8_loseCredit 64 = .ok (.laload, 1) := by decide +kernel
theorem dX8_loseCredit_65 : decode cX8_loseCredit 65 = .ok (.lload_n 3, 1) := by decide +kernel
theorem dX8_loseCredit_66 : decode cX8_loseCredit 66 = .ok (.ladd, 1) := by decide +kernel
theorem dX8_loseCredit_67 : decode cX8_loseCredit 67 = .ok (.lastore, 1) := by decide +kernel
theorem dX8_loseCredit_68 : decode cX8_loseCredit 68 = .ok (.return_, 1) := by decide +kernel
theorem dX8_payFromLots_0 : decode cX8_payFromLots 0 = .ok (.lload_n 1, 1) := by decide +kernel
theorem dX8_payFromLots_1 : decode cX8_payFromLots 1 = .ok (.lstore_n 3, 1) := by decide +kernel
theorem dX8_payFromLots_2 : decode cX8_payFromLots 2 = .ok (.iconst 0, 1) := by decide +kernel
theorem dX8_payFromLots_3 : decode cX8_payFromLots 3 = .ok (.istore 5, 2) := by decide +kernel
theorem dX8_payFromLots_5 : decode cX8_payFromLots 5 = .ok (.iload 5, 2) := by decide +kernel
theorem dX8_payFromLots_7 : decode cX8_payFromLots 7 = .ok (.aload_n 0, 1) := by decide +kernel
theorem dX8_payFromLots_8 : decode cX8_payFromLots 8 = .ok (.getfield 19, 3) := by decide +kernel
theorem dX8_payFromLots_11 : decode cX8_payFromLots 11 = .ok (.arraylength, 1) := by decide +kernel
theorem dX8_payFromLots_12 : decode cX8_payFromLots 12 = .ok (.if_icmp .ge 45, 3) := by decide +kernel
theorem dX8_payFromLots_15 : decode cX8_payFromLots 15 = .ok (.lload_n 3, 1) := by decide +kernel
theorem dX8_payFromLots_16 : decode cX8_payFromLots 16 = .ok (.lconst 0, 1) := by decide +kernel
theorem dX8_payFromLots_17 : decode cX8_payFromLots 17 = .ok (.lcmp, 1) := by decide +kernel
theorem dX8_payFromLots_18 : decode cX8_payFromLots 18 = .ok (.ifCond .le 39, 3) := by decide +kernel
theorem dX8_payFromLots_21 : decode cX8_payFromLots 21 = .ok (.lload_n 3, 1) := by decide +kernel
theorem dX8_payFromLots_22 : decode cX8_payFromLots 22 = .ok (.aload_n 0, 1) := by decide +kernel
theorem dX8_payFromLots_23 : decode cX8_payFromLots 23 = .ok (.getfield 19, 3) := by decide +kernel
theorem dX8_payFromLots_26 : decode cX8_payFromLots 26 = .ok (.iload 5, 2) := by decide +kernel
theorem dX8_payFromLots_28 : decode cX8_payFromLots 28 = .ok (.laload, 1) := by decide +kernel
theorem dX8_payFromLots_29 : decode cX8_payFromLots 29 = .ok (.invokestatic 63, 3) := by decide +kernel
theorem dX8_payFromLots_32 : decode cX8_payFromLots 32 = .ok (.lstore 6, 2) := by decide +kernel
theorem dX8_payFromLots_34 : decode cX8_payFromLots 34 = .ok (.aload_n 0, 1) := by decide +kernel
theorem dX8_payFromLots_35 : decode cX8_payFromLots 35 = .ok (.getfield 19, 3) := by decide +kernel
theorem dX8_payFromLots_38 : decode cX8_payFromLots 38 = .ok (.iload 5, 2) := by decide +kernel
theorem dX8_payFromLots_40 : decode cX8_payFromLots 40 = .ok (.dup2, 1) := by decide +kernel
theorem dX8_payFromLots_41 : decode cX8_payFromLots 41 = .ok (.laload, 1) := by decide +kernel
theorem dX8_payFromLots_42 : decode cX8_payFromLots 42 = .ok (.lload 6, 2) := by decide +kernel
theorem dX8_payFromLots_44 : decode cX8_payFromLots 44 = .ok (.lsub, 1) := by decide +kernel
theorem dX8_payFromLots_45 : decode cX8_payFromLots 45 = .ok (.lastore, 1) := by decide +kernel
theorem dX8_payFromLots_46 : decode cX8_payFromLots 46 = .ok (.lload_n 3, 1) := by decide +kernel
theorem dX8_payFromLots_47 : decode cX8_payFromLots 47 = .ok (.lload 6, 2) := by decide +kernel
theorem dX8_payFromLots_49 : decode cX8_payFromLots 49 = .ok (.lsub, 1) := by decide +kernel
theorem dX8_payFromLots_50 : decode cX8_payFromLots 50 = .ok (.lstore_n 3, 1) := by decide +kernel
theorem dX8_payFromLots_51 : decode cX8_payFromLots 51 = .ok (.iinc 5 1, 3) := by decide +kernel
theorem dX8_payFromLots_54 : decode cX8_payFromLots 54 = .ok (.goto (-49), 3) := by decide +kernel
theorem dX8_payFromLots_57 : decode cX8_payFromLots 57 = .ok (.lload_n 3, 1) := by decide +kernel
theorem dX8_payFromLots_58 : decode cX8_payFromLots 58 = .ok (.lreturn, 1) := by decide +kernel
theorem dX8_payBill_0 : decode cX8_payBill 0 = .ok (.aload_n 0, 1) := by decide +kernel
theorem dX8_payBill_1 : decode cX8_payBill 1 = .ok (.getfield 23, 3) := by decide +kernel
theorem dX8_payBill_4 : decode cX8_payBill 4 = .ok (.iconst 1, 1) := by decide +kernel
theorem dX8_payBill_5 : decode cX8_payBill 5 = .ok (.laload, 1) := by decide +kernel
theorem dX8_payBill_6 : decode cX8_payBill 6 = .ok (.lstore_n 1, 1) := by decide +kernel
theorem dX8_payBill_7 : decode cX8_payBill 7 = .ok (.aload_n 0, 1) := by decide +kernel
theorem dX8_payBill_8 : decode cX8_payBill 8 = .ok (.lload_n 1, 1) := by decide +kernel
theorem dX8_payBill_9 : decode cX8_payBill 9 = .ok (.invokevirtual 69, 3) := by decide +kernel
theorem dX8_payBill_12 : decode cX8_payBill 12 = .ok (.lstore_n 3, 1) := by decide +kernel
theorem dX8_payBill_13 : decode cX8_payBill 13 = .ok (.aload_n 0, 1) := by decide +kernel
theorem dX8_payBill_14 : decode cX8_payBill 14 = .ok (.getfield 23, 3) := by decide +kernel
theorem dX8_payBill_17 : decode cX8_payBill 17 = .ok (.iconst 4, 1) := by decide +kernel
theorem dX8_payBill_18 : decode cX8_payBill 18 = .ok (.dup2, 1) := by decide +kernel
theorem dX8_payBill_19 : decode cX8_payBill 19 = .ok (.laload, 1) := by decide +kernel
theorem dX8_payBill_20 : decode cX8_payBill 20 = .ok (.lload_n 1, 1) := by decide +kernel
theorem dX8_payBill_21 : decode cX8_payBill 21 = .ok (.lload_n 3, 1) := by decide +kernel
theorem dX8_payBill_22 : decode cX8_payBill 22 = .ok (.lsub, 1) := by decide +kernel
theorem dX8_payBill_23 : decode cX8_payBill 23 = .ok (.ladd, 1) := by decide +kernel
theorem dX8_payBill_24 : decode cX8_payBill 24 = .ok (.lastore, 1) := by decide +kernel
theorem dX8_payBill_25 : decode cX8_payBill 25 = .ok (.aload_n 0, 1) := by decide +kernel
theorem dX8_payBill_26 : decode cX8_payBill 26 = .ok (.getfield 23, 3) := by decide +kernel
theorem dX8_payBill_29 : decode cX8_payBill 29 = .ok (.iconst 2, 1) := by decide +kernel
theorem dX8_payBill_30 : decode cX8_payBill 30 = .ok (.dup2, 1) := by decide +kernel
theorem dX8_payBill_31 : decode cX8_payBill 31 = .ok (.laload, 1) := by decide +kernel
theorem dX8_payBill_32 : decode cX8_payBill 32 = .ok (.lload_n 3, 1) := by decide +kernel
theorem dX8_payBill_33 : decode cX8_payBill 33 = .ok (.ladd, 1) := by decide +kernel
theorem dX8_payBill_34 : decode cX8_payBill 34 = .ok (.lastore, 1) := by decide +kernel
theorem dX8_payBill_35 : decode cX8_payBill 35 = .ok (.aload_n 0, 1) := by decide +kernel
theorem dX8_payBill_36 : decode cX8_payBill 36 = .ok (.getfield 23, 3) := by decide +kernel
theorem dX8_payBill_39 : decode cX8_payBill 39 = .ok (.iconst 1, 1) := by decide +kernel
theorem dX8_payBill_40 : decode cX8_payBill 40 = .ok (.lconst 0, 1) := by decide +kernel
theorem dX8_payBill_41 : decode cX8_payBill 41 = .ok (.lastore, 1) := by decide +kernel
theorem dX8_payBill_42 : decode cX8_payBill 42 = .ok (.return_, 1) := by decide +kernel
theorem dX8_takeExpiredLot_0 : decode cX8_takeExpiredLot 0 = .ok (.iload_n 1, 1) := by decide +kernel
theorem dX8_takeExpiredLot_1 : decode cX8_takeExpiredLot 1 = .ok (.ifCond .lt 12, 3) := by decide +kernel
theorem dX8_takeExpiredLot_4 : decode cX8_takeExpiredLot 4 = .ok (.iload_n 1, 1) := by decide +kernel
theorem dX8_takeExpiredLot_5 : decode cX8_takeExpiredLot 5 = .ok (.aload_n 0, 1) := by decide +kernel
theorem dX8_takeExpiredLot_6 : decode cX8_takeExpiredLot 6 = .ok (.getfield 19, 3) := by decide +kernel
theorem dX8_takeExpiredLot_9 : decode cX8_takeExpiredLot 9 = .ok (.arraylength, 1) := by decide +kernel
theorem dX8_takeExpiredLot_10 : decode cX8_takeExpiredLot 10 = .ok (.if_icmp .lt 5, 3) := by decide +kernel
theorem dX8_takeExpiredLot_13 : decode cX8_takeExpiredLot 13 = .ok (.lconst 0, 1) := by decide +kernel
theorem dX8_takeExpiredLot_14 : decode cX8_takeExpiredLot 14 = .ok (.lreturn, 1) := by decide +kernel
theorem dX8_takeExpiredLot_15 : decode cX8_takeExpiredLot 15 = .ok (.aload_n 0, 1) := by decide +kernel
theorem dX8_takeExpiredLot_16 : decode cX8_takeExpiredLot 16 = .ok (.getfield 19, 3) := by decide +kernel
theorem dX8_takeExpiredLot_19 : decode cX8_takeExpiredLot 19 = .ok (.iload_n 1, 1) := by decide +kernel
theorem dX8_takeExpiredLot_20 : decode cX8_takeExpiredLot 20 = .ok (.laload, 1) := by decide +kernel
theorem dX8_takeExpiredLot_21 : decode cX8_takeExpiredLot 21 = .ok (.lstore_n 2, 1) := by decide +kernel
theorem dX8_takeExpiredLot_22 : decode cX8_takeExpiredLot 22 = .ok (.aload_n 0, 1) := by decide +kernel
theorem dX8_takeExpiredLot_23 : decode cX8_takeExpiredLot 23 = .ok (.getfield 19, 3) := by decide +kernel
theorem dX8_takeExpiredLot_26 : decode cX8_takeExpiredLot 26 = .ok (.iload_n 1, 1) := by decide +kernel
theorem dX8_takeExpiredLot_27 : decode cX8_takeExpiredLot 27 = .ok (.lconst 0, 1) := by decide +kernel
theorem dX8_takeExpiredLot_28 : decode cX8_takeExpiredLot 28 = .ok (.lastore, 1) := by decide +kernel
theorem dX8_takeExpiredLot_29 : decode cX8_takeExpiredLot 29 = .ok (.aload_n 0, 1) := by decide +kernel
theorem dX8_takeExpiredLot_30 : decode cX8_takeExpiredLot 30 = .ok (.getfield 23, 3) := by decide +kernel
theorem dX8_takeExpiredLot_33 : decode cX8_takeExpiredLot 33 = .ok (.iconst 5, 1) := by decide +kernel
theorem dX8_takeExpiredLot_34 : decode cX8_takeExpiredLot 34 = .ok (.dup2, 1) := by decide +kernel
theorem dX8_takeExpiredLot_35 : decode cX8_takeExpiredLot 35 = .ok (.laload, 1) := by decide +kernel
theorem dX8_takeExpiredLot_36 : decode cX8_takeExpiredLot 36 = .ok (.lload_n 2, 1) := by decide +kernel
theorem dX8_takeExpiredLot_37 : decode cX8_takeExpiredLot 37 = .ok (.ladd, 1) := by decide +kernel
theorem dX8_takeExpiredLot_38 : decode cX8_takeExpiredLot 38 = .ok (.lastore, 1) := by decide +kernel
theorem dX8_takeExpiredLot_39 : decode cX8_takeExpiredLot 39 = .ok (.lload_n 2, 1) := by decide +kernel
theorem dX8_takeExpiredLot_40 : decode cX8_takeExpiredLot 40 = .ok (.lreturn, 1) := by decide +kernel
theorem dX8_finishMonth_0 : decode cX8_finishMonth 0 = .ok (.aload_n 0, 1) := by decide +kernel
theorem dX8_finishMonth_1 : decode cX8_finishMonth 1 = .ok (.lload_n 1, 1) := by decide +kernel
theorem dX8_finishMonth_2 : decode cX8_finishMonth 2 = .ok (.iload_n 3, 1) := by decide +kernel
theorem dX8_finishMonth_3 : decode cX8_finishMonth 3 = .ok (.invokevirtual 73, 3) := by decide +kernel
theorem dX8_finishMonth_6 : decode cX8_finishMonth 6 = .ok (.aload_n 0, 1) := by decide +kernel
theorem dX8_finishMonth_7 : decode cX8_finishMonth 7 = .ok (.invokevirtual 77, 3) := by decide +kernel
theorem dX8_finishMonth_10 : decode cX8_finishMonth 10 = .ok (.aload_n 0, 1) := by decide +kernel
theorem dX8_finishMonth_11 : decode cX8_finishMonth 11 = .ok (.iload_n 3, 1) := by decide +kernel
theorem dX8_finishMonth_12 : decode cX8_finishMonth 12 = .ok (.iload 4, 2) := by decide +kernel
theorem dX8_finishMonth_14 : decode cX8_finishMonth 14 = .ok (.isub, 1) := by decide +kernel
theorem dX8_finishMonth_15 : decode cX8_finishMonth 15 = .ok (.invokevirtual 80, 3) := by decide +kernel
theorem dX8_finishMonth_18 : decode cX8_finishMonth 18 = .ok (.lreturn, 1) := by decide +kernel
theorem dX8_closeAccounts_0 : decode cX8_closeAccounts 0 = .ok (.aload_n 0, 1) := by decide +kernel
theorem dX8_closeAccounts_1 : decode cX8_closeAccounts 1 = .ok (.invokevirtual 84, 3) := by decide +kernel
theorem dX8_closeAccounts_4 : decode cX8_closeAccounts 4 = .ok (.lstore_n 2, 1) := by decide +kernel
theorem dX8_closeAccounts_5 : decode cX8_closeAccounts 5 = .ok (.lload_n 2, 1) := by decide +kernel
theorem dX8_closeAccounts_6 : decode cX8_closeAccounts 6 = .ok (.aload_n 0, 1) := by decide +kernel
theorem dX8_closeAccounts_7 : decode cX8_closeAccounts 7 = .ok (.getfield 23, 3) := by decide +kernel
theorem dX8_closeAccounts_10 : decode cX8_closeAccounts 10 = .ok (.iconst 0, 1) := by decide +kernel
theorem dX8_closeAccounts_11 : decode cX8_closeAccounts 11 = .ok (.laload, 1) := by decide +kernel
theorem dX8_closeAccounts_12 : decode cX8_closeAccounts 12 = .ok (.invokestatic 63, 3) := by decide +kernel
theorem dX8_closeAccounts_15 : decode cX8_closeAccounts 15 = .ok (.lstore 4, 2) := by decide +kernel
theorem dX8_closeAccounts_17 : decode cX8_closeAccounts 17 = .ok (.aload_n 0, 1) := by decide +kernel
theorem dX8_closeAccounts_18 : decode cX8_closeAccounts 18 = .ok (.getfield 23, 3) := by decide +kernel
theorem dX8_closeAccounts_21 : decode cX8_closeAccounts 21 = .ok (.iconst 0, 1) := by decide +kernel
theorem dX8_closeAccounts_22 : decode cX8_closeAccounts 22 = .ok (.laload, 1) := by decide +kernel
theorem dX8_closeAccounts_23 : decode cX8_closeAccounts 23 = .ok (.lload 4, 2) := by decide +kernel
theorem dX8_closeAccounts_25 : decode cX8_closeAccounts 25 = .ok (.lsub, 1) := by decide +kernel
theorem dX8_closeAccounts_26 : decode cX8_closeAccounts 26 = .ok (.lstore 6, 2) := by decide +kernel
theorem dX8_closeAccounts_28 : decode cX8_closeAccounts 28 = .ok (.lload_n 2, 1) := by decide +kernel
theorem dX8_closeAccounts_29 : decode cX8_closeAccounts 29 = .ok (.lload 4, 2) := by decide +kernel
theorem dX8_closeAccounts_31 : decode cX8_closeAccounts 31 = .ok (.lsub, 1) := by decide +kernel
theorem dX8_closeAccounts_32 : decode cX8_closeAccounts 32 = .ok (.lstore 8, 2) := by decide +kernel
theorem dX8_closeAccounts_34 : decode cX8_closeAccounts 34 = .ok (.lload 8, 2) := by decide +kernel
theorem dX8_closeAccounts_36 : decode cX8_closeAccounts 36 = .ok (.iload_n 1, 1) := by decide +kernel
theorem dX8_closeAccounts_37 : decode cX8_closeAccounts 37 = .ok (.i2l, 1) := by decide +kernel
theorem dX8_closeAccounts_38 : decode cX8_closeAccounts 38 = .ok (.lmul, 1) := by decide +kernel
theorem dX8_closeAccounts_39 : decode cX8_closeAccounts 39 = .ok (.ldc2_w 88, 3) := by decide +kernel
theorem dX8_closeAccounts_42 : decode cX8_closeAccounts 42 = .ok (.ldiv, 1) := by decide +kernel
theorem dX8_closeAccounts_43 : decode cX8_closeAccounts 43 = .ok (.lstore 10, 2) := by decide +kernel
theorem dX8_closeAccounts_45 : decode cX8_closeAccounts 45 = .ok (.aload_n 0, 1) := by decide +kernel
theorem dX8_closeAccounts_46 : decode cX8_closeAccounts 46 = .ok (.getfield 19, 3) := by decide +kernel
theorem dX8_closeAccounts_49 : decode cX8_closeAccounts 49 = .ok (.lconst 0, 1) := by decide +kernel
theorem dX8_closeAccounts_50 : decode cX8_closeAccounts 50 = .ok (.invokestatic 51, 3) := by decide +kernel
theorem dX8_closeAccounts_53 : decode cX8_closeAccounts 53 = .ok (.aload_n 0, 1) := by decide +kernel
theorem dX8_closeAccounts_54 : decode cX8_closeAccounts 54 = .ok (.getfield 23, 3) := by decide +kernel
theorem dX8_closeAccounts_57 : decode cX8_closeAccounts 57 = .ok (.iconst 0, 1) := by decide +kernel
theorem dX8_closeAccounts_58 : decode cX8_closeAccounts 58 = .ok (.lconst 0, 1) := by decide +kernel
theorem dX8_closeAccounts_59 : decode cX8_closeAccounts 59 = .ok (.lastore, 1) := by decide +kernel
theorem dX8_closeAccounts_60 : decode cX8_closeAccounts 60 = .ok (.aload_n 0, 1) := by decide +kernel
theorem dX8_closeAccounts_61 : decode cX8_closeAccounts 61 = .ok (.getfield 23, 3) := by decide +kernel
theorem dX8_closeAccounts_64 : decode cX8_closeAccounts 64 = .ok (.iconst 2, 1) := by decide +kernel
theorem dX8_closeAccounts_65 : decode cX8_closeAccounts 65 = .ok (.dup2, 1) := by decide +kernel
theorem dX8_closeAccounts_66 : decode cX8_closeAccounts 66 = .ok (.laload, 1) := by decide +kernel
theorem dX8_closeAccounts_67 : decode cX8_closeAccounts 67 = .ok (.aload_n 0, 1) := by decide +kernel
theorem dX8_closeAccounts_68 : decode cX8_closeAccounts 68 = .ok (.getfield 23, 3) := by decide +kernel
theorem dX8_closeAccounts_71 : decode cX8_closeAccounts 71 = .ok (.iconst 1, 1) := by decide +kernel
theorem dX8_closeAccounts_72 : decode cX8_closeAccounts 72 = .ok (.laload, 1) := by decide +kernel
theorem dX8_closeAccounts_73 : decode cX8_closeAccounts 73 = .ok (.ladd, 1) := by decide +kernel
theorem dX8_closeAccounts_74 : decode cX8_closeAccounts 74 = .ok (.lastore, 1) := by decide +kernel
theorem dX8_closeAccounts_75 : decode cX8_closeAccounts 75 = .ok (.aload_n 0, 1) := by decide +kernel
theorem dX8_closeAccounts_76 : decode cX8_closeAccounts 76 = .ok (.getfield 23, 3) := by decide +kernel
theorem dX8_closeAccounts_79 : decode cX8_closeAccounts 79 = .ok (.iconst 1, 1) := by decide +kernel
theorem dX8_closeAccounts_80 : decode cX8_closeAccounts 80 = .ok (.lconst 0, 1) := by decide +kernel
theorem dX8_closeAccounts_81 : decode cX8_closeAccounts 81 = .ok (.lastore, 1) := by decide +kernel
theorem dX8_closeAccounts_82 : decode cX8_closeAccounts 82 = .ok (.aload_n 0, 1) := by decide +kernel
theorem dX8_closeAccounts_83 : decode cX8_closeAccounts 83 = .ok (.getfield 23, 3) := by decide +kernel
theorem dX8_closeAccounts_86 : decode cX8_closeAccounts 86 = .ok (.iconst 3, 1) := by decide +kernel
theorem dX8_closeAccounts_87 : decode cX8_closeAccounts 87 = .ok (.lload 10, 2) := by decide +kernel
theorem dX8_closeAccounts_89 : decode cX8_closeAccounts 89 = .ok (.lastore, 1) := by decide +kernel
theorem dX8_closeAccounts_90 : decode cX8_closeAccounts 90 = .ok (.lload 8, 2) := by decide +kernel
theorem dX8_closeAccounts_92 : decode cX8_closeAccounts 92 = .ok (.lload 10, 2) := by decide +kernel
theorem dX8_closeAccounts_94 : decode cX8_closeAccounts 94 = .ok (.lsub, 1) := by decide +kernel
theorem dX8_closeAccounts_95 : decode cX8_closeAccounts 95 = .ok (.lload 6, 2) := by decide +kernel
theorem dX8_closeAccounts_97 : decode cX8_closeAccounts 97 = .ok (.lsub, 1) := by decide +kernel
theorem dX8_closeAccounts_98 : decode cX8_closeAccounts 98 = .ok (.lreturn, 1) := by decide +kernel
theorem dJ9_abs_067f4_0 : decode cJ9_abs_067f4 0 = .ok (.lload_n 0, 1) := by decide +kernel
theorem dJ9_abs_067f4_1 : decode cJ9_abs_067f4 1 = .ok (.lconst 0, 1) := by decide +kernel
theorem dJ9_abs_067f4_2 : decode cJ9_abs_067f4 2 = .ok (.lcmp, 1) := by decide +kernel
theorem dJ9_abs_067f4_3 : decode cJ9_abs_067f4 3 = .ok (.ifCond .ge 8, 3) := by decide +kernel
theorem dJ9_abs_067f4_6 : decode cJ9_abs_067f4 6 = .ok (.lload_n 0, 1) := by decide +kernel
theorem dJ9_abs_067f4_7 : decode cJ9_abs_067f4 7 = .ok (.lneg, 1) := by decide +kernel
theorem dJ9_abs_067f4_8 : decode cJ9_abs_067f4 8 = .ok (.goto 4, 3) := by decide +kernel
theorem dJ9_abs_067f4_11 : decode cJ9_abs_067f4 11 = .ok (.lload_n 0, 1) := by decide +kernel
theorem dJ9_abs_067f4_12 : decode cJ9_abs_067f4 12 = .ok (.lreturn, 1) := by decide +kernel
theorem dJ9_max_7cf53_0 : decode cJ9_max_7cf53 0 = .ok (.iload_n 0, 1) := by decide +kernel
theorem dJ9_max_7cf53_1 : decode cJ9_max_7cf53 1 = .ok (.iload_n 1, 1) := by decide +kernel
theorem dJ9_max_7cf53_2 : decode cJ9_max_7cf53 2 = .ok (.if_icmp .lt 7, 3) := by decide +kernel
theorem dJ9_max_7cf53_5 : decode cJ9_max_7cf53 5 = .ok (.iload_n 0, 1) := by decide +kernel
theorem dJ9_max_7cf53_6 : decode cJ9_max_7cf53 6 = .ok (.goto 4, 3) := by decide +kernel
theorem dJ9_max_7cf53_9 : decode cJ9_max_7cf53 9 = .ok (.iload_n 1, 1) := by decide +kernel
theorem dJ9_max_7cf53_10 : decode cJ9_max_7cf53 10 = .ok (.ireturn, 1) := by decide +kernel
theorem dJ9_max_f86c9_0 : decode cJ9_max_f86c9 0 = .ok (.lload_n 0, 1) := by decide +kernel
theorem dJ9_max_f86c9_1 : decode cJ9_max_f86c9 1 = .ok (.lload_n 2, 1) := by decide +kernel
theorem dJ9_max_f86c9_2 : decode cJ9_max_f86c9 2 = .ok (.lcmp, 1) := by decide +kernel
theorem dJ9_max_f86c9_3 : decode cJ9_max_f86c9 3 = .ok (.ifCond .lt 7, 3) := by decide +kernel
theorem dJ9_max_f86c9_6 : decode cJ9_max_f86c9 6 = .ok (.lload_n 0, 1) := by decide +kernel
theorem dJ9_max_f86c9_7 : decode cJ9_max_f86c9 7 = .ok (.goto 4, 3) := by decide +kernel
theorem dJ9_max_f86c9_10 : decode cJ9_max_f86c9 10 = .ok (.lload_n 2, 1) := by decide +kernel
theorem dJ9_max_f86c9_11 : decode cJ9_max_f86c9 11 = .ok (.lreturn, 1) := by decide +kernel
theorem dJ9_min_7cf53_0 : decode cJ9_min_7cf53 0 = .ok (.iload_n 0, 1) := by decide +kernel
theorem dJ9_min_7cf53_1 : decode cJ9_min_7cf53 1 = .ok (.iload_n 1, 1) := by decide +kernel
theorem dJ9_min_7cf53_2 : decode cJ9_min_7cf53 2 = .ok (.if_icmp .gt 7, 3) := by decide +kernel
theorem dJ9_min_7cf53_5 : decode cJ9_min_7cf53 5 = .ok (.iload_n 0, 1) := by decide +kernel
theorem dJ9_min_7cf53_6 : decode cJ9_min_7cf53 6 = .ok (.goto 4, 3) := by decide +kernel
theorem dJ9_min_7cf53_9 : decode cJ9_min_7cf53 9 = .ok (.iload_n 1, 1) := by decide +kernel
theorem dJ9_min_7cf53_10 : decode cJ9_min_7cf53 10 = .ok (.ireturn, 1) := by decide +kernel
theorem dJ9_min_f86c9_0 : decode cJ9_min_f86c9 0 = .ok (.lload_n 0, 1) := by decide +kernel
theorem dJ9_min_f86c9_1 : decode cJ9_min_f86c9 1 = .ok (.lload_n 2, 1) := by decide +kernel
theorem dJ9_min_f86c9_2 : decode cJ9_min_f86c9 2 = .ok (.lcmp, 1) := by decide +kernel
theorem dJ9_min_f86c9_3 : decode cJ9_min_f86c9 3 = .ok (.ifCond .gt 7, 3) := by decide +kernel
theorem dJ9_min_f86c9_6 : decode cJ9_min_f86c9 6 = .ok (.lload_n 0, 1) := by decide +kernel
theorem dJ9_min_f86c9_7 : decode cJ9_min_f86c9 7 = .ok (.goto 4, 3) := by decide +kernel
theorem dJ9_min_f86c9_10 : decode cJ9_min_f86c9 10 = .ok (.lload_n 2, 1) := by decide +kernel
theorem dJ9_min_f86c9_11 : decode cJ9_min_f86c9 11 = .ok (.lreturn, 1) := by decide +kernel
theorem dJ0_length_8abf5_0 : decode cJ0_length_8abf5 0 = .ok (.aload_n 0, 1) := by decide +kernel
theorem dJ0_length_8abf5_1 : decode cJ0_length_8abf5 1 = .ok (.getfield 9, 3) := by decide +kernel
theorem dJ0_length_8abf5_4 : decode cJ0_length_8abf5 4 = .ok (.arraylength, 1) := by decide +kernel
theorem dJ0_length_8abf5_5 : decode cJ0_length_8abf5 5 = .ok (.aload_n 0, 1) := by decide +kernel
theorem dJ0_length_8abf5_6 : decode cJ0_length_8abf5 6 = .ok (.invokevirtual 335, 3) := by decide +kernel
theorem dJ0_length_8abf5_9 : decode cJ0_length_8abf5 9 = .ok (.ishr, 1) := by decide +kernel
theorem dJ0_length_8abf5_10 : decode cJ0_length_8abf5 10 = .ok (.ireturn, 1) := by decide +kernel
theorem dJ0_charAt_5068e_0 : decode cJ0_charAt_5068e 0 = .ok (.aload_n 0, 1) := by decide +kernel
theorem dJ0_charAt_5068e_1 : decode cJ0_charAt_5068e 1 = .ok (.invokevirtual 492, 3) := by decide +kernel
theorem dJ0_charAt_5068e_4 : decode cJ0_charAt_5068e 4 = .ok (.ifCond .eq 12, 3) := by decide +kernel
theorem dJ0_charAt_5068e_7 : decode cJ0_charAt_5068e 7 = .ok (.aload_n 0, 1) := by decide +kernel
theorem dJ0_charAt_5068e_8 : decode cJ0_charAt_5068e 8 = .ok (.getfield 9, 3) := by decide +kernel
theorem dJ0_charAt_5068e_11 : decode cJ0_charAt_5068e 11 = .ok (.iload_n 1, 1) := by decide +kernel
theorem dJ0_charAt_5068e_12 : decode cJ0_charAt_5068e 12 = .ok (.invokestatic 495, 3) := by decide +kernel
theorem dJ0_charAt_5068e_15 : decode cJ0_charAt_5068e 15 = .ok (.ireturn, 1) := by decide +kernel
theorem dJ0_charAt_5068e_16 : decode cJ0_charAt_5068e 16 = .ok (.aload_n 0, 1) := by decide +kernel
theorem dJ0_charAt_5068e_17 : decode cJ0_charAt_5068e 17 = .ok (.getfield 9, 3) := by decide +kernel
theorem dJ0_charAt_5068e_20 : decode cJ0_charAt_5068e 20 = .ok (.iload_n 1, 1) := by decide +kernel
theorem dJ0_charAt_5068e_21 : decode cJ0_charAt_5068e 21 = .ok (.invokestatic 498, 3) := by decide +kernel
theorem dJ0_charAt_5068e_24 : decode cJ0_charAt_5068e 24 = .ok (.ireturn, 1) := by decide +kernel
theorem dJ0_coder_7d493_0 : decode cJ0_coder_7d493 0 = .ok (.getstatic 38, 3) := by decide +kernel
theorem dJ0_coder_7d493_3 : decode cJ0_coder_7d493 3 = .ok (.ifCond .eq 10, 3) := by decide +kernel
theorem dJ0_coder_7d493_6 : decode cJ0_coder_7d493 6 = .ok (.aload_n 0, 1) := by decide +kernel
theorem dJ0_coder_7d493_7 : decode cJ0_coder_7d493 7 = .ok (.getfield 15, 3) := by decide +kernel
theorem dJ0_coder_7d493_10 : decode cJ0_coder_7d493 10 = .ok (.goto 4, 3) := by decide +kernel
theorem dJ0_coder_7d493_13 : decode cJ0_coder_7d493 13 = .ok (.iconst 1, 1) := by decide +kernel
theorem dJ0_coder_7d493_14 : decode cJ0_coder_7d493 14 = .ok (.ireturn, 1) := by decide +kernel
theorem dJ0_isLatin1_aae02_0 : decode cJ0_isLatin1_aae02 0 = .ok (.getstatic 38, 3) := by decide +kernel
theorem dJ0_isLatin1_aae02_3 : decode cJ0_isLatin1_aae02 3 = .ok (.ifCond .eq 14, 3) := by decide +kernel
theorem dJ0_isLatin1_aae02_6 : decode cJ0_isLatin1_aae02 6 = .ok (.aload_n 0, 1) := by decide +kernel
theorem dJ0_isLatin1_aae02_7 : decode cJ0_isLatin1_aae02 7 = .ok (.getfield 15, 3) := by decide +kernel
theorem dJ0_isLatin1_aae02_10 : decode cJ0_isLatin1_aae02 10 = .ok (.ifCond .ne 7, 3) := by decide +kernel
theorem dJ0_isLatin1_aae02_13 : decode cJ0_isLatin1_aae02 13 = .ok (.iconst 1, 1) := by decide +kernel
theorem dJ0_isLatin1_aae02_14 : decode cJ0_isLatin1_aae02 14 = .ok (.goto 4, 3) := by decide +kernel
theorem dJ0_isLatin1_aae02_17 : decode cJ0_isLatin1_aae02 17 = .ok (.iconst 0, 1) := by decide +kernel
theorem dJ0_isLatin1_aae02_18 : decode cJ0_isLatin1_aae02 18 = .ok (.ireturn, 1) := by decide +kernel
theorem dJ0_checkIndex_df160_0 : decode cJ0_checkIndex_df160 0 = .ok (.iload_n 0, 1) := by decide +kernel
theorem dJ0_checkIndex_df160_1 : decode cJ0_checkIndex_df160 1 = .ok (.iload_n 1, 1) := by decide +kernel
theorem dJ0_checkIndex_df160_2 : decode cJ0_checkIndex_df160 2 = .ok (.getstatic 1053, 3) := by decide +kernel
theorem dJ0_checkIndex_df160_5 : decode cJ0_checkIndex_df160 5 = .ok (.invokestatic 1059, 3) := by decide +kernel
theorem dJ0_checkIndex_df160_8 : decode cJ0_checkIndex_df160 8 = .ok (.pop, 1) := by decide +kernel
theorem dJ0_checkIndex_df160_9 : decode cJ0_checkIndex_df160 9 = .ok (.return_, 1) := by decide +kernel
theorem dJ1_charAt_3b067_0 : decode cJ1_charAt_3b067 0 = .ok (.iload_n 1, 1) := by decide +kernel
theorem dJ1_charAt_3b067_1 : decode cJ1_charAt_3b067 1 = .ok (.aload_n 0, 1) := by decide +kernel
theorem dJ1_charAt_3b067_2 : decode cJ1_charAt_3b067 2 = .ok (.arraylength, 1) := by decide +kernel
theorem dJ1_charAt_3b067_3 : decode cJ1_charAt_3b067 3 = .ok (.invokestatic 9, 3) := by decide +kernel
theorem dJ1_charAt_3b067_6 : decode cJ1_charAt_3b067 6 = .ok (.aload_n 0, 1) := by decide +kernel
theorem dJ1_charAt_3b067_7 : decode cJ1_charAt_3b067 7 = .ok (.iload_n 1, 1) := by decide +kernel
theorem dJ1_charAt_3b067_8 : decode cJ1_charAt_3b067 8 = .ok (.baload, 1) := by decide +kernel
theorem dJ1_charAt_3b067_9 : decode cJ1_charAt_3b067 9 = .ok (.sipush 255, 3) := by decide +kernel
theorem dJ1_charAt_3b067_12 : decode cJ1_charAt_3b067 12 = .ok (.iand, 1) := by decide +kernel
theorem dJ1_charAt_3b067_13 : decode cJ1_charAt_3b067 13 = .ok (.i2c, 1) := by decide +kernel
theorem dJ1_charAt_3b067_14 : decode cJ1_charAt_3b067 14 = .ok (.ireturn, 1) := by decide +kernel
theorem dJ2_getChar_3b067_0 : decode cJ2_getChar_3b067 0 = .ok (.getstatic 44, 3) := by decide +kernel
theorem dJ2_getChar_3b067_3 : decode cJ2_getChar_3b067 3 = .ok (.ifCond .ne 25, 3) := by decide +kernel
theorem dJ2_getChar_3b067_6 : decode cJ2_getChar_3b067 6 = .ok (.iload_n 1, 1) := by decide +kernel
theorem dJ2_getChar_3b067_7 : decode cJ2_getChar_3b067 7 = .ok (.ifCond .lt 11, 3) := by decide +kernel
theorem dJ2_getChar_3b067_10 : decode cJ2_getChar_3b067 10 = .ok (.iload_n 1, 1) := by decide +kernel
theorem dJ2_getChar_3b067_11 : decode cJ2_getChar_3b067 11 = .ok (.aload_n 0, 1) := by decide +kernel
theorem dJ2_getChar_3b067_12 : decode cJ2_getChar_3b067 12 = .ok (.invokestatic 48, 3) := by decide +kernel
theorem dJ2_getChar_3b067_15 : decode cJ2_getChar_3b067 15 = .ok (.if_icmp .lt 13, 3) := by decide +kernel
theorem dJ2_getChar_3b067_18 : decode cJ2_getChar_3b067 18 = .ok (.new 52, 3) := by decide +kernel
theorem dJ2_getChar_3b067_21 : decode cJ2_getChar_3b067 21 = .ok (.dup, 1) := by decide +kernel
theorem dJ2_getChar_3b067_22 : decode cJ2_getChar_3b067 22 = .ok (.ldc 54, 2) := by decide +kernel
theorem dJ2_getChar_3b067_24 : decode cJ2_getChar_3b067 24 = .ok (.invokespecial 56, 3) := by decide +kernel
theorem dJ2_getChar_3b067_27 : decode cJ2_getChar_3b067 27 = .ok (.athrow, 1) := by decide +kernel
theorem dJ2_getChar_3b067_28 : decode cJ2_getChar_3b067 28 = .ok (.iload_n 1, 1) := by decide +kernel
theorem dJ2_getChar_3b067_29 : decode cJ2_getChar_3b067 29 = .ok (.iconst 1, 1) := by decide +kernel
theorem dJ2_getChar_3b067_30 : decode cJ2_getChar_3b067 30 = .ok (.ishl, 1) := by decide +kernel
theorem dJ2_getChar_3b067_31 : decode cJ2_getChar_3b067 31 = .ok (.istore_n 1, 1) := by decide +kernel
theorem dJ2_getChar_3b067_32 : decode cJ2_getChar_3b067 32 = .ok (.aload_n 0, 1) := by decide +kernel
theorem dJ2_getChar_3b067_33 : decode cJ2_getChar_3b067 33 = .ok (.iload_n 1, 1) := by decide +kernel
theorem dJ2_getChar_3b067_34 : decode cJ2_getChar_3b067 34 = .ok (.iinc 1 1, 3) := by decide +kernel
theorem dJ2_getChar_3b067_37 : decode cJ2_getChar_3b067 37 = .ok (.baload, 1) := by decide +kernel
theorem dJ2_getChar_3b067_38 : decode cJ2_getChar_3b067 38 = .ok (.sipush 255, 3) := by decide +kernel
theorem dJ2_getChar_3b067_41 : decode cJ2_getChar_3b067 41 = .ok (.iand, 1) := by decide +kernel
theorem dJ2_getChar_3b067_42 : decode cJ2_getChar_3b067 42 = .ok (.getstatic 59, 3) := by decide +kernel
theorem dJ2_getChar_3b067_45 : decode cJ2_getChar_3b067 45 = .ok (.ishl, 1) := by decide +kernel
theorem dJ2_getChar_3b067_46 : decode cJ2_getChar_3b067 46 = .ok (.aload_n 0, 1) := by decide +kernel
theorem dJ2_getChar_3b067_47 : decode cJ2_getChar_3b067 47 = .ok (.iload_n 1, 1) := by decide +kernel
theorem dJ2_getChar_3b067_48 : decode cJ2_getChar_3b067 48 = .ok (.baload, 1) := by decide +kernel
theorem dJ2_getChar_3b067_49 : decode cJ2_getChar_3b067 49 = .ok (.sipush 255, 3) := by decide +kernel
theorem dJ2_getChar_3b067_52 : decode cJ2_getChar_3b067 52 = .ok (.iand, 1) := by decide +kernel
theorem dJ2_getChar_3b067_53 : decode cJ2_getChar_3b067 53 = .ok (.getstatic 63, 3) := by decide +kernel
theorem dJ2_getChar_3b067_56 : decode cJ2_getChar_3b067 56 = .ok (.ishl, 1) := by decide +kernel
theorem dJ2_getChar_3b067_57 : decode cJ2_getChar_3b067 57 = .ok (.ior, 1) := by decide +kernel
theorem dJ2_getChar_3b067_58 : decode cJ2_getChar_3b067 58 = .ok (.i2c, 1) := by decide +kernel
theorem dJ2_getChar_3b067_59 : decode cJ2_getChar_3b067 59 = .ok (.ireturn, 1) := by decide +kernel
theorem dJ2_length_9d52b_0 : decode cJ2_length_9d52b 0 = .ok (.aload_n 0, 1) := by decide +kernel
theorem dJ2_length_9d52b_1 : decode cJ2_length_9d52b 1 = .ok (.arraylength, 1) := by decide +kernel
theorem dJ2_length_9d52b_2 : decode cJ2_length_9d52b 2 = .ok (.iconst 1, 1) := by decide +kernel
theorem dJ2_length_9d52b_3 : decode cJ2_length_9d52b 3 = .ok (.ishr, 1) := by decide +kernel
theorem dJ2_length_9d52b_4 : decode cJ2_length_9d52b 4 = .ok (.ireturn, 1) := by decide +kernel
theorem dJ2_charAt_3b067_0 : decode cJ2_charAt_3b067 0 = .ok (.iload_n 1, 1) := by decide +kernel
theorem dJ2_charAt_3b067_1 : decode cJ2_charAt_3b067 1 = .ok (.aload_n 0, 1) := by decide +kernel
theorem dJ2_charAt_3b067_2 : decode cJ2_charAt_3b067 2 = .ok (.invokestatic 67, 3) := by decide +kernel
theorem dJ2_charAt_3b067_5 : decode cJ2_charAt_3b067 5 = .ok (.aload_n 0, 1) := by decide +kernel
theorem dJ2_charAt_3b067_6 : decode cJ2_charAt_3b067 6 = .ok (.iload_n 1, 1) := by decide +kernel
theorem dJ2_charAt_3b067_7 : decode cJ2_charAt_3b067 7 = .ok (.invokestatic 71, 3) := by decide +kernel
theorem dJ2_charAt_3b067_10 : decode cJ2_charAt_3b067 10 = .ok (.ireturn, 1) := by decide +kernel
theorem dJ2_checkIndex_2214a_0 : decode cJ2_checkIndex_2214a 0 = .ok (.iload_n 0, 1) := by decide +kernel
theorem dJ2_checkIndex_2214a_1 : decode cJ2_checkIndex_2214a 1 = .ok (.aload_n 1, 1) := by decide +kernel
theorem dJ2_checkIndex_2214a_2 : decode cJ2_checkIndex_2214a 2 = .ok (.invokestatic 48, 3) := by decide +kernel
theorem dJ2_checkIndex_2214a_5 : decode cJ2_checkIndex_2214a 5 = .ok (.invokestatic 414, 3) := by decide +kernel
theorem dJ2_checkIndex_2214a_8 : decode cJ2_checkIndex_2214a 8 = .ok (.return_, 1) := by decide +kernel
theorem dJ7_fill_d0a16_0 : decode cJ7_fill_d0a16 0 = .ok (.iconst 0, 1) := by decide +kernel
theorem dJ7_fill_d0a16_1 : decode cJ7_fill_d0a16 1 = .ok (.istore_n 3, 1) := by decide +kernel
theorem dJ7_fill_d0a16_2 : decode cJ7_fill_d0a16 2 = .ok (.aload_n 0, 1) := by decide +kernel
theorem dJ7_fill_d0a16_3 : decode cJ7_fill_d0a16 3 = .ok (.arraylength, 1) := by decide +kernel
theorem dJ7_fill_d0a16_4 : decode cJ7_fill_d0a16 4 = .ok (.istore 4, 2) := by decide +kernel
theorem dJ7_fill_d0a16_6 : decode cJ7_fill_d0a16 6 = .ok (.iload_n 3, 1) := by decide +kernel
theorem dJ7_fill_d0a16_7 : decode cJ7_fill_d0a16 7 = .ok (.iload 4, 2) := by decide +kernel
theorem dJ7_fill_d0a16_9 : decode cJ7_fill_d0a16 9 = .ok (.if_icmp .ge 13, 3) := by decide +kernel
theorem dJ7_fill_d0a16_12 : decode cJ7_fill_d0a16 12 = .ok (.aload_n 0, 1) := by decide +kernel
theorem dJ7_fill_d0a16_13 : decode cJ7_fill_d0a16 13 = .ok (.iload_n 3, 1) := by decide +kernel
theorem dJ7_fill_d0a16_14 : decode cJ7_fill_d0a16 14 = .ok (.lload_n 1, 1) := by decide +kernel
theorem dJ7_fill_d0a16_15 : decode cJ7_fill_d0a16 15 = .ok (.lastore, 1) := by decide +kernel
theorem dJ7_fill_d0a16_16 : decode cJ7_fill_d0a16 16 = .ok (.iinc 3 1, 3) := by decide +kernel
theorem dJ7_fill_d0a16_19 : decode cJ7_fill_d0a16 19 = .ok (.goto (-13), 3) := by decide +kernel
theorem dJ7_fill_d0a16_22 : decode cJ7_fill_d0a16 22 = .ok (.return_, 1) := by decide +kernel
theorem dJ7_fill_53178_0 : decode cJ7_fill_53178 0 = .ok (.iconst 0, 1) := by decide +kernel
theorem dJ7_fill_53178_1 : decode cJ7_fill_53178 1 = .ok (.istore_n 2, 1) := by decide +kernel
theorem dJ7_fill_53178_2 : decode cJ7_fill_53178 2 = .ok (.aload_n 0, 1) := by decide +kernel
theorem dJ7_fill_53178_3 : decode cJ7_fill_53178 3 = .ok (.arraylength, 1) := by decide +kernel
theorem dJ7_fill_53178_4 : decode cJ7_fill_53178 4 = .ok (.istore_n 3, 1) := by decide +kernel
theorem dJ7_fill_53178_5 : decode cJ7_fill_53178 5 = .ok (.iload_n 2, 1) := by decide +kernel
theorem dJ7_fill_53178_6 : decode cJ7_fill_53178 6 = .ok (.iload_n 3, 1) := by decide +kernel
theorem dJ7_fill_53178_7 : decode cJ7_fill_53178 7 = .ok (.if_icmp .ge 13, 3) := by decide +kernel
theorem dJ7_fill_53178_10 : decode cJ7_fill_53178 10 = .ok (.aload_n 0, 1) := by decide +kernel
theorem dJ7_fill_53178_11 : decode cJ7_fill_53178 11 = .ok (.iload_n 2, 1) := by decide +kernel
theorem dJ7_fill_53178_12 : decode cJ7_fill_53178 12 = .ok (.iload_n 1, 1) := by decide +kernel
theorem dJ7_fill_53178_13 : decode cJ7_fill_53178 13 = .ok (.iastore, 1) := by decide +kernel
theorem dJ7_fill_53178_14 : decode cJ7_fill_53178 14 = .ok (.iinc 2 1, 3) := by decide +kernel
theorem dJ7_fill_53178_17 : decode cJ7_fill_53178 17 = .ok (.goto (-12), 3) := by decide +kernel
theorem dJ7_fill_53178_20 : decode cJ7_fill_53178 20 = .ok (.return_, 1) := by decide +kernel
theorem dJ3_checkIndex_8e157_0 : decode cJ3_checkIndex_8e157 0 = .ok (.iload_n 0, 1) := by decide +kernel
theorem dJ3_checkIndex_8e157_1 : decode cJ3_checkIndex_8e157 1 = .ok (.ifCond .lt 8, 3) := by decide +kernel
theorem dJ3_checkIndex_8e157_4 : decode cJ3_checkIndex_8e157 4 = .ok (.iload_n 0, 1) := by decide +kernel
theorem dJ3_checkIndex_8e157_5 : decode cJ3_checkIndex_8e157 5 = .ok (.iload_n 1, 1) := by decide +kernel
theorem dJ3_checkIndex_8e157_6 : decode cJ3_checkIndex_8e157 6 = .ok (.if_icmp .lt 10, 3) := by decide +kernel
theorem dJ3_checkIndex_8e157_9 : decode cJ3_checkIndex_8e157 9 = .ok (.aload_n 2, 1) := by decide +kernel
theorem dJ3_checkIndex_8e157_10 : decode cJ3_checkIndex_8e157 10 = .ok (.iload_n 0, 1) := by decide +kernel
theorem dJ3_checkIndex_8e157_11 : decode cJ3_checkIndex_8e157 11 = .ok (.iload_n 1, 1) := by decide +kernel
theorem dJ3_checkIndex_8e157_12 : decode cJ3_checkIndex_8e157 12 = .ok (.invokestatic 95, 3) := by decide +kernel
theorem dJ3_checkIndex_8e157_15 : decode cJ3_checkIndex_8e157 15 = .ok (.athrow, 1) := by decide +kernel
theorem dJ3_checkIndex_8e157_16 : decode cJ3_checkIndex_8e157 16 = .ok (.iload_n 0, 1) := by decide +kernel
theorem dJ3_checkIndex_8e157_17 : decode cJ3_checkIndex_8e157 17 = .ok (.ireturn, 1) := by decide +kernel
