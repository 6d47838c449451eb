theorem dX5_init_0 : decode cX5_init 0 = .ok (.aload_n 0, 1) := by decide +kernel
theorem dX5_init_1 : decode cX5_init 1 = .ok (.invokespecial 1, 3) := by decide +kernel
theorem dX5_init_4 : decode cX5_init 4 = .ok (.aload_n 0, 1) := by decide +kernel
theorem dX5_init_5 : decode cX5_init 5 = .ok (.sipush 1548, 3) := by decide +kernel
theorem dX5_init_8 : decode cX5_init 8 = .ok (.newarray .int, 2) := by decide +kernel
theorem dX5_init_10 : decode cX5_init 10 = .ok (.putfield 9, 3) := by decide +kernel
theorem dX5_init_13 : decode cX5_init 13 = .ok (.aload_n 0, 1) := by decide +kernel
theorem dX5_init_14 : decode cX5_init 14 = .ok (.bipush 40, 2) := by decide +kernel
theorem dX5_init_16 : decode cX5_init 16 = .ok (.newarray .char, 2) := by decide +kernel
theorem dX5_init_18 : decode cX5_init 18 = .ok (.putfield 13, 3) := by decide +kernel
theorem dX5_init_21 : decode cX5_init 21 = .ok (.aload_n 0, 1) := by decide +kernel
theorem dX5_init_22 : decode cX5_init 22 = .ok (.bipush 60, 2) := by decide +kernel
theorem dX5_init_24 : decode cX5_init 24 = .ok (.newarray .char, 2) := by decide +kernel
theorem dX5_init_26 : decode cX5_init 26 = .ok (.putfield 17, 3) := by decide +kernel
theorem dX5_init_29 : decode cX5_init 29 = .ok (.aload_n 0, 1) := by decide +kernel
theorem dX5_init_30 : decode cX5_init 30 = .ok (.iconst (-1), 1) := by decide +kernel
theorem dX5_init_31 : decode cX5_init 31 = .ok (.putfield 20, 3) := by decide +kernel
theorem dX5_init_34 : decode cX5_init 34 = .ok (.aload_n 0, 1) := by decide +kernel
theorem dX5_init_35 : decode cX5_init 35 = .ok (.sipush 244, 3) := by decide +kernel
theorem dX5_init_38 : decode cX5_init 38 = .ok (.newarray .int, 2) := by decide +kernel
theorem dX5_init_40 : decode cX5_init 40 = .ok (.putfield 24, 3) := by decide +kernel
theorem dX5_init_43 : decode cX5_init 43 = .ok (.aload_n 0, 1) := by decide +kernel
theorem dX5_init_44 : decode cX5_init 44 = .ok (.getfield 9, 3) := by decide +kernel
theorem dX5_init_47 : decode cX5_init 47 = .ok (.iconst 3, 1) := by decide +kernel
theorem dX5_init_48 : decode cX5_init 48 = .ok (.sipush 999, 3) := by decide +kernel
theorem dX5_init_51 : decode cX5_init 51 = .ok (.iastore, 1) := by decide +kernel
theorem dX5_init_52 : decode cX5_init 52 = .ok (.return_, 1) := by decide +kernel
theorem dX5_thrown_0 : decode cX5_thrown 0 = .ok (.aload_n 0, 1) := by decide +kernel
theorem dX5_thrown_1 : decode cX5_thrown 1 = .ok (.getfield 27, 3) := by decide +kernel
theorem dX5_thrown_4 : decode cX5_thrown 4 = .ok (.ireturn, 1) := by decide +kernel
theorem dX5_in_0 : decode cX5_in 0 = .ok (.iload_n 0, 1) := by decide +kernel
theorem dX5_in_1 : decode cX5_in 1 = .ok (.iload_n 1, 1) := by decide +kernel
theorem dX5_in_2 : decode cX5_in 2 = .ok (.if_icmp .lt 12, 3) := by decide +kernel
theorem dX5_in_5 : decode cX5_in 5 = .ok (.iload_n 0, 1) := by decide +kernel
theorem dX5_in_6 : decode cX5_in 6 = .ok (.iload_n 2, 1) := by decide +kernel
theorem dX5_in_7 : decode cX5_in 7 = .ok (.if_icmp .gt 7, 3) := by decide +kernel
theorem dX5_in_10 : decode cX5_in 10 = .ok (.iconst 1, 1) := by decide +kernel
theorem dX5_in_11 : decode cX5_in 11 = .ok (.goto 4, 3) := by decide +kernel
theorem dX5_in_14 : decode cX5_in 14 = .ok (.iconst 0, 1) := by decide +kernel
theorem dX5_in_15 : decode cX5_in 15 = .ok (.ireturn, 1) := by decide +kernel
theorem dX5_copies_0 : decode cX5_copies 0 = .ok (.iconst 0, 1) := by decide +kernel
theorem dX5_copies_1 : decode cX5_copies 1 = .ok (.istore_n 3, 1) := by decide +kernel
theorem dX5_copies_2 : decode cX5_copies 2 = .ok (.iload_n 3, 1) := by decide +kernel
theorem dX5_copies_3 : decode cX5_copies 3 = .ok (.sipush 129, 3) := by decide +kernel
theorem dX5_copies_6 : decode cX5_copies 6 = .ok (.if_icmp .ge 33, 3) := by decide +kernel
theorem dX5_copies_9 : decode cX5_copies 9 = .ok (.aload_n 0, 1) := by decide +kernel
theorem dX5_copies_10 : decode cX5_copies 10 = .ok (.getfield 9, 3) := by decide +kernel
theorem dX5_copies_13 : decode cX5_copies 13 = .ok (.sipush 129, 3) := by decide +kernel
theorem dX5_copies_16 : decode cX5_copies 16 = .ok (.iload_n 2, 1) := by decide +kernel
theorem dX5_copies_17 : decode cX5_copies 17 = .ok (.imul, 1) := by decide +kernel
theorem dX5_copies_18 : decode cX5_copies 18 = .ok (.iload_n 3, 1) := by decide +kernel
theorem dX5_copies_19 : decode cX5_copies 19 = .ok (.iadd, 1) := by decide +kernel
theorem dX5_copies_20 : decode cX5_copies 20 = .ok (.aload_n 0, 1) := by decide +kernel
theorem dX5_copies_21 : decode cX5_copies 21 = .ok (.getfield 9, 3) := by decide +kernel
theorem dX5_copies_24 : decode cX5_copies 24 = .ok (.sipush 129, 3) := by decide +kernel
theorem dX5_copies_27 : decode cX5_copies 27 = .ok (.iload_n 1, 1) := by decide +kernel
theorem dX5_copies_28 : decode cX5_copies 28 = .ok (.imul, 1) := by decide +kernel
theorem dX5_copies_29 : decode cX5_copies 29 = .ok (.iload_n 3, 1) := by decide +kernel
theorem dX5_copies_30 : decode cX5_copies 30 = .ok (.iadd, 1) := by decide +kernel
theorem dX5_copies_31 : decode cX5_copies 31 = .ok (.iaload, 1) := by decide +kernel
theorem dX5_copies_32 : decode cX5_copies 32 = .ok (.iastore, 1) := by decide +kernel
theorem dX5_copies_33 : decode cX5_copies 33 = .ok (.iinc 3 1, 3) := by decide +kernel
theorem dX5_copies_36 : decode cX5_copies 36 = .ok (.goto (-34), 3) := by decide +kernel
theorem dX5_copies_39 : decode cX5_copies 39 = .ok (.return_, 1) := by decide +kernel
theorem dX5_begins_0 : decode cX5_begins 0 = .ok (.aload_n 0, 1) := by decide +kernel
theorem dX5_begins_1 : decode cX5_begins 1 = .ok (.iconst 0, 1) := by decide +kernel
theorem dX5_begins_2 : decode cX5_begins 2 = .ok (.bipush 10, 2) := by decide +kernel
theorem dX5_begins_4 : decode cX5_begins 4 = .ok (.invokevirtual 30, 3) := by decide +kernel
theorem dX5_begins_7 : decode cX5_begins 7 = .ok (.return_, 1) := by decide +kernel
theorem dX5_ends_0 : decode cX5_ends 0 = .ok (.aload_n 0, 1) := by decide +kernel
theorem dX5_ends_1 : decode cX5_ends 1 = .ok (.iload_n 1, 1) := by decide +kernel
theorem dX5_ends_2 : decode cX5_ends 2 = .ok (.iconst 1, 1) := by decide +kernel
theorem dX5_ends_3 : decode cX5_ends 3 = .ok (.if_icmp .ne 7, 3) := by decide +kernel
theorem dX5_ends_6 : decode cX5_ends 6 = .ok (.iload_n 2, 1) := by decide +kernel
theorem dX5_ends_7 : decode cX5_ends 7 = .ok (.goto 23, 3) := by decide +kernel
theorem dX5_ends_10 : decode cX5_ends 10 = .ok (.iload_n 1, 1) := by decide +kernel
theorem dX5_ends_11 : decode cX5_ends 11 = .ok (.iconst 2, 1) := by decide +kernel
theorem dX5_ends_12 : decode cX5_ends 12 = .ok (.if_icmp .ne 7, 3) := by decide +kernel
theorem dX5_ends_15 : decode cX5_ends 15 = .ok (.iload_n 3, 1) := by decide +kernel
theorem dX5_ends_16 : decode cX5_ends 16 = .ok (.goto 14, 3) := by decide +kernel
theorem dX5_ends_19 : decode cX5_ends 19 = .ok (.iload_n 1, 1) := by decide +kernel
theorem dX5_ends_20 : decode cX5_ends 20 = .ok (.iconst 3, 1) := by decide +kernel
theorem dX5_ends_21 : decode cX5_ends 21 = .ok (.if_icmp .ne 8, 3) := by decide +kernel
theorem dX5_ends_24 : decode cX5_ends 24 = .ok (.iload 4, 2) := by decide +kernel
theorem dX5_ends_26 : decode cX5_ends 26 = .ok (.goto 4, 3) := by decide +kernel
theorem dX5_ends_29 : decode cX5_ends 29 = .ok (.iconst 0, 1) := by decide +kernel
theorem dX5_ends_30 : decode cX5_ends 30 = .ok (.putfield 27, 3) := by decide +kernel
theorem dX5_ends_33 : decode cX5_ends 33 = .ok (.aload_n 0, 1) := by decide +kernel
theorem dX5_ends_34 : decode cX5_ends 34 = .ok (.getfield 27, 3) := by decide +kernel
theorem dX5_ends_37 : decode cX5_ends 37 = .ok (.ifCond .eq 12, 3) := by decide +kernel
theorem dX5_ends_40 : decode cX5_ends 40 = .ok (.aload_n 0, 1) := by decide +kernel
theorem dX5_ends_41 : decode cX5_ends 41 = .ok (.bipush 10, 2) := by decide +kernel
theorem dX5_ends_43 : decode cX5_ends 43 = .ok (.iconst 0, 1) := by decide +kernel
theorem dX5_ends_44 : decode cX5_ends 44 = .ok (.invokevirtual 30, 3) := by decide +kernel
theorem dX5_ends_47 : decode cX5_ends 47 = .ok (.iconst 0, 1) := by decide +kernel
theorem dX5_ends_48 : decode cX5_ends 48 = .ok (.ireturn, 1) := by decide +kernel
theorem dX5_ends_49 : decode cX5_ends 49 = .ok (.aload_n 0, 1) := by decide +kernel
theorem dX5_ends_50 : decode cX5_ends 50 = .ok (.getfield 34, 3) := by decide +kernel
theorem dX5_ends_53 : decode cX5_ends 53 = .ok (.bipush 8, 2) := by decide +kernel
theorem dX5_ends_55 : decode cX5_ends 55 = .ok (.if_icmp .ne 39, 3) := by decide +kernel
theorem dX5_ends_58 : decode cX5_ends 58 = .ok (.iconst 1, 1) := by decide +kernel
theorem dX5_ends_59 : decode cX5_ends 59 = .ok (.istore 5, 2) := by decide +kernel
theorem dX5_ends_61 : decode cX5_ends 61 = .ok (.iload 5, 2) := by decide +kernel
theorem dX5_ends_63 : decode cX5_ends 63 = .ok (.bipush 8, 2) := by decide +kernel
theorem dX5_ends_65 : decode cX5_ends 65 = .ok (.if_icmp .ge 19, 3) := by decide +kernel
theorem dX5_ends_68 : decode cX5_ends 68 = .ok (.aload_n 0, 1) := by decide +kernel
theorem dX5_ends_69 : decode cX5_ends 69 = .ok (.iload 5, 2) := by decide +kernel
theorem dX5_ends_71 : decode cX5_ends 71 = .ok (.iconst 1, 1) := by decide +kernel
theorem dX5_ends_72 : decode cX5_ends 72 = .ok (.iadd, 1) := by decide +kernel
theorem dX5_ends_73 : decode cX5_ends 73 = .ok (.iload 5, 2) := by decide +kernel
theorem dX5_ends_75 : decode cX5_ends 75 = .ok (.invokevirtual 30, 3) := by decide +kernel
theorem dX5_ends_78 : decode cX5_ends 78 = .ok (.iinc 5 1, 3) := by decide +kernel
theorem dX5_ends_81 : decode cX5_ends 81 = .ok (.goto (-20), 3) := by decide +kernel
theorem dX5_ends_84 : decode cX5_ends 84 = .ok (.aload_n 0, 1) := by decide +kernel
theorem dX5_ends_85 : decode cX5_ends 85 = .ok (.dup, 1) := by decide +kernel
theorem dX5_ends_86 : decode cX5_ends 86 = .ok (.getfield 34, 3) := by decide +kernel
theorem dX5_ends_89 : decode cX5_ends 89 = .ok (.iconst 1, 1) := by decide +kernel
theorem dX5_ends_90 : decode cX5_ends 90 = .ok (.isub, 1) := by decide +kernel
theorem dX5_ends_91 : decode cX5_ends 91 = .ok (.putfield 34, 3) := by decide +kernel
theorem dX5_ends_94 : decode cX5_ends 94 = .ok (.aload_n 0, 1) := by decide +kernel
theorem dX5_ends_95 : decode cX5_ends 95 = .ok (.dup, 1) := by decide +kernel
theorem dX5_ends_96 : decode cX5_ends 96 = .ok (.getfield 34, 3) := by decide +kernel
theorem dX5_ends_99 : decode cX5_ends 99 = .ok (.iconst 1, 1) := by decide +kernel
theorem dX5_ends_100 : decode cX5_ends 100 = .ok (.iadd, 1) := by decide +kernel
theorem dX5_ends_101 : decode cX5_ends 101 = .ok (.putfield 34, 3) := by decide +kernel
theorem dX5_ends_104 : decode cX5_ends 104 = .ok (.aload_n 0, 1) := by decide +kernel
theorem dX5_ends_105 : decode cX5_ends 105 = .ok (.bipush 10, 2) := by decide +kernel
theorem dX5_ends_107 : decode cX5_ends 107 = .ok (.aload_n 0, 1) := by decide +kernel
theorem dX5_ends_108 : decode cX5_ends 108 = .ok (.getfield 34, 3) := by decide +kernel
theorem dX5_ends_111 : decode cX5_ends 111 = .ok (.invokevirtual 30, 3) := by decide +kernel
theorem dX5_ends_114 : decode cX5_ends 114 = .ok (.aload_n 0, 1) := by decide +kernel
theorem dX5_ends_115 : decode cX5_ends 115 = .ok (.getfield 37, 3) := by decide +kernel
theorem dX5_ends_118 : decode cX5_ends 118 = .ok (.ireturn, 1) := by decide +kernel
theorem dX5_isFine_0 : decode cX5_isFine 0 = .ok (.aload_n 0, 1) := by decide +kernel
theorem dX5_isFine_1 : decode cX5_isFine 1 = .ok (.iload_n 1, 1) := by decide +kernel
theorem dX5_isFine_2 : decode cX5_isFine 2 = .ok (.ifCond .eq 7, 3) := by decide +kernel
theorem dX5_isFine_5 : decode cX5_isFine 5 = .ok (.iconst 0, 1) := by decide +kernel
theorem dX5_isFine_6 : decode cX5_isFine 6 = .ok (.goto 4, 3) := by decide +kernel
theorem dX5_isFine_9 : decode cX5_isFine 9 = .ok (.iconst 1, 1) := by decide +kernel
theorem dX5_isFine_10 : decode cX5_isFine 10 = .ok (.putfield 27, 3) := by decide +kernel
theorem dX5_isFine_13 : decode cX5_isFine 13 = .ok (.iload_n 1, 1) := by decide +kernel
theorem dX5_isFine_14 : decode cX5_isFine 14 = .ok (.ireturn, 1) := by decide +kernel
theorem dX5_rejects_0 : decode cX5_rejects 0 = .ok (.iload_n 1, 1) := by decide +kernel
theorem dX5_rejects_1 : decode cX5_rejects 1 = .ok (.ifCond .eq 18, 3) := by decide +kernel
theorem dX5_rejects_4 : decode cX5_rejects 4 = .ok (.aload_n 0, 1) := by decide +kernel
theorem dX5_rejects_5 : decode cX5_rejects 5 = .ok (.iload_n 2, 1) := by decide +kernel
theorem dX5_rejects_6 : decode cX5_rejects 6 = .ok (.putfield 40, 3) := by decide +kernel
theorem dX5_rejects_9 : decode cX5_rejects 9 = .ok (.aload_n 0, 1) := by decide +kernel
theorem dX5_rejects_10 : decode cX5_rejects 10 = .ok (.iload_n 3, 1) := by decide +kernel
theorem dX5_rejects_11 : decode cX5_rejects 11 = .ok (.putfield 43, 3) := by decide +kernel
theorem dX5_rejects_14 : decode cX5_rejects 14 = .ok (.aload_n 0, 1) := by decide +kernel
theorem dX5_rejects_15 : decode cX5_rejects 15 = .ok (.iconst 0, 1) := by decide +kernel
theorem dX5_rejects_16 : decode cX5_rejects 16 = .ok (.putfield 46, 3) := by decide +kernel
theorem dX5_rejects_19 : decode cX5_rejects 19 = .ok (.iload_n 1, 1) := by decide +kernel
theorem dX5_rejects_20 : decode cX5_rejects 20 = .ok (.ireturn, 1) := by decide +kernel
theorem dX5_rejectionReason_0 : decode cX5_rejectionReason 0 = .ok (.aload_n 0, 1) := by decide +kernel
theorem dX5_rejectionReason_1 : decode cX5_rejectionReason 1 = .ok (.aload_n 0, 1) := by decide +kernel
theorem dX5_rejectionReason_2 : decode cX5_rejectionReason 2 = .ok (.getfield 40, 3) := by decide +kernel
theorem dX5_rejectionReason_5 : decode cX5_rejectionReason 5 = .ok (.ifCond .eq 7, 3) := by decide +kernel
theorem dX5_rejectionReason_8 : decode cX5_rejectionReason 8 = .ok (.iconst 1, 1) := by decide +kernel
theorem dX5_rejectionReason_9 : decode cX5_rejectionReason 9 = .ok (.goto 4, 3) := by decide +kernel
theorem dX5_rejectionReason_12 : decode cX5_rejectionReason 12 = .ok (.iconst 0, 1) := by decide +kernel
theorem dX5_rejectionReason_13 : decode cX5_rejectionReason 13 = .ok (.invokevirtual 49, 3) := by decide +kernel
theorem dX5_rejectionReason_16 : decode cX5_rejectionReason 16 = .ok (.ifCond .eq 10, 3) := by decide +kernel
theorem dX5_rejectionReason_19 : decode cX5_rejectionReason 19 = .ok (.aload_n 0, 1) := by decide +kernel
theorem dX5_rejectionReason_20 : decode cX5_rejectionReason 20 = .ok (.getfield 40, 3) := by decide +kernel
theorem dX5_rejectionReason_23 : decode cX5_rejectionReason 23 = .ok (.goto 4, 3) := by decide +kernel
theorem dX5_rejectionReason_26 : decode cX5_rejectionReason 26 = .ok (.iconst 0, 1) := by decide +kernel
theorem dX5_rejectionReason_27 : decode cX5_rejectionReason 27 = .ok (.ireturn, 1) := by decide +kernel
theorem dX5_rejectionDetail_0 : decode cX5_rejectionDetail 0 = .ok (.aload_n 0, 1) := by decide +kernel
theorem dX5_rejectionDetail_1 : decode cX5_rejectionDetail 1 = .ok (.aload_n 0, 1) := by decide +kernel
theorem dX5_rejectionDetail_2 : decode cX5_rejectionDetail 2 = .ok (.getfield 40, 3) := by decide +kernel
theorem dX5_rejectionDetail_5 : decode cX5_rejectionDetail 5 = .ok (.ifCond .eq 7, 3) := by decide +kernel
theorem dX5_rejectionDetail_8 : decode cX5_rejectionDetail 8 = .ok (.iconst 1, 1) := by decide +kernel
theorem dX5_rejectionDetail_9 : decode cX5_rejectionDetail 9 = .ok (.goto 4, 3) := by decide +kernel
theorem dX5_rejectionDetail_12 : decode cX5_rejectionDetail 12 = .ok (.iconst 0, 1) := by decide +kernel
theorem dX5_rejectionDetail_13 : decode cX5_rejectionDetail 13 = .ok (.invokevirtual 49, 3) := by decide +kernel
theorem dX5_rejectionDetail_16 : decode cX5_rejectionDetail 16 = .ok (.ifCond .eq 10, 3) := by decide +kernel
theorem dX5_rejectionDetail_19 : decode cX5_rejectionDetail 19 = .ok (.aload_n 0, 1) := by decide +kernel
theorem dX5_rejectionDetail_20 : decode cX5_rejectionDetail 20 = .ok (.getfield 43, 3) := by decide +kernel
theorem dX5_rejectionDetail_23 : decode cX5_rejectionDetail 23 = .ok (.goto 4, 3) := by decide +kernel
theorem dX5_rejectionDetail_26 : decode cX5_rejectionDetail 26 = .ok (.iconst 0, 1) := by decide +kernel
theorem dX5_rejectionDetail_27 : decode cX5_rejectionDetail 27 = .ok (.ireturn, 1) := by decide +kernel
theorem dX5_causeReason_0 : decode cX5_causeReason 0 = .ok (.aload_n 0, 1) := by decide +kernel
theorem dX5_causeReason_1 : decode cX5_causeReason 1 = .ok (.aload_n 0, 1) := by decide +kernel
theorem dX5_causeReason_2 : decode cX5_causeReason 2 = .ok (.getfield 46, 3) := by decide +kernel
theorem dX5_causeReason_5 : decode cX5_causeReason 5 = .ok (.ifCond .eq 7, 3) := by decide +kernel
theorem dX5_causeReason_8 : decode cX5_causeReason 8 = .ok (.iconst 1, 1) := by decide +kernel
theorem dX5_causeReason_9 : decode cX5_causeReason 9 = .ok (.goto 4, 3) := by decide +kernel
theorem dX5_causeReason_12 : decode cX5_causeReason 12 = .ok (.iconst 0, 1) := by decide +kernel
theorem dX5_causeReason_13 : decode cX5_causeReason 13 = .ok (.invokevirtual 49, 3) := by decide +kernel
theorem dX5_causeReason_16 : decode cX5_causeReason 16 = .ok (.ifCond .eq 10, 3) := by decide +kernel
theorem dX5_causeReason_19 : decode cX5_causeReason 19 = .ok (.aload_n 0, 1) := by decide +kernel
theorem dX5_causeReason_20 : decode cX5_causeReason 20 = .ok (.getfield 46, 3) := by decide +kernel
theorem dX5_causeReason_23 : decode cX5_causeReason 23 = .ok (.goto 4, 3) := by decide +kernel
theorem dX5_causeReason_26 : decode cX5_causeReason 26 = .ok (.iconst 0, 1) := by decide +kernel
theorem dX5_causeReason_27 : decode cX5_causeReason 27 = .ok (.ireturn, 1) := by decide +kernel
theorem dX5_t_0 : decode cX5_t 0 = .ok (.aload_n 0, 1) := by decide +kernel
theorem dX5_t_1 : decode cX5_t 1 = .ok (.getfield 9, 3) := by decide +kernel
theorem dX5_t_4 : decode cX5_t 4 = .ok (.bipush 57, 2) := by decide +kernel
theorem dX5_t_6 : decode cX5_t 6 = .ok (.bipush 6, 2) := by decide +kernel
theorem dX5_t_8 : decode cX5_t 8 = .ok (.iload_n 1, 1) := by decide +kernel
theorem dX5_t_9 : decode cX5_t 9 = .ok (.imul, 1) := by decide +kernel
theorem dX5_t_10 : decode cX5_t 10 = .ok (.iadd, 1) := by decide +kernel
theorem dX5_t_11 : decode cX5_t 11 = .ok (.iload_n 2, 1) := by decide +kernel
theorem dX5_t_12 : decode cX5_t 12 = .ok (.iadd, 1) := by decide +kernel
theorem dX5_t_13 : decode cX5_t 13 = .ok (.iaload, 1) := by decide +kernel
theorem dX5_t_14 : decode cX5_t 14 = .ok (.ireturn, 1) := by decide +kernel
theorem dX5_set_0 : decode cX5_set 0 = .ok (.aload_n 0, 1) := by decide +kernel
theorem dX5_set_1 : decode cX5_set 1 = .ok (.getfield 9, 3) := by decide +kernel
theorem dX5_set_4 : decode cX5_set 4 = .ok (.bipush 57, 2) := by decide +kernel
theorem dX5_set_6 : decode cX5_set 6 = .ok (.bipush 6, 2) := by decide +kernel
theorem dX5_set_8 : decode cX5_set 8 = .ok (.iload_n 1, 1) := by decide +kernel
theorem dX5_set_9 : decode cX5_set 9 = .ok (.imul, 1) := by decide +kernel
theorem dX5_set_10 : decode cX5_set 10 = .ok (.iadd, 1) := by decide +kernel
theorem dX5_set_11 : decode cX5_set 11 = .ok (.iload_n 2, 1) := by decide +kernel
theorem dX5_set_12 : decode cX5_set 12 = .ok (.iadd, 1) := by decide +kernel
theorem dX5_set_13 : decode cX5_set 13 = .ok (.iload_n 3, 1) := by decide +kernel
theorem dX5_set_14 : decode cX5_set 14 = .ok (.iastore, 1) := by decide +kernel
theorem dX5_set_15 : decode cX5_set 15 = .ok (.return_, 1) := by decide +kernel
theorem dX5_isTurbine_0 : decode cX5_isTurbine 0 = .ok (.iload_n 1, 1) := by decide +kernel
theorem dX5_isTurbine_1 : decode cX5_isTurbine 1 = .ok (.iconst 0, 1) := by decide +kernel
theorem dX5_isTurbine_2 : decode cX5_isTurbine 2 = .ok (.aload_n 0, 1) := by decide +kernel
theorem dX5_isTurbine_3 : decode cX5_isTurbine 3 = .ok (.getfield 9, 3) := by decide +kernel
theorem dX5_isTurbine_6 : decode cX5_isTurbine 6 = .ok (.iconst 0, 1) := by decide +kernel
theorem dX5_isTurbine_7 : decode cX5_isTurbine 7 = .ok (.iaload, 1) := by decide +kernel
theorem dX5_isTurbine_8 : decode cX5_isTurbine 8 = .ok (.iconst 1, 1) := by decide +kernel
theorem dX5_isTurbine_9 : decode cX5_isTurbine 9 = .ok (.isub, 1) := by decide +kernel
theorem dX5_isTurbine_10 : decode cX5_isTurbine 10 = .ok (.invokestatic 53, 3) := by decide +kernel
theorem dX5_isTurbine_13 : decode cX5_isTurbine 13 = .ok (.ireturn, 1) := by decide +kernel
theorem dX5_isCell_0 : decode cX5_isCell 0 = .ok (.iload_n 0, 1) := by decide +kernel
theorem dX5_isCell_1 : decode cX5_isCell 1 = .ok (.iconst 0, 1) := by decide +kernel
theorem dX5_isCell_2 : decode cX5_isCell 2 = .ok (.iconst 4, 1) := by decide +kernel
theorem dX5_isCell_3 : decode cX5_isCell 3 = .ok (.invokestatic 53, 3) := by decide +kernel
theorem dX5_isCell_6 : decode cX5_isCell 6 = .ok (.ifCond .eq 16, 3) := by decide +kernel
theorem dX5_isCell_9 : decode cX5_isCell 9 = .ok (.iload_n 1, 1) := by decide +kernel
theorem dX5_isCell_10 : decode cX5_isCell 10 = .ok (.iconst 0, 1) := by decide +kernel
theorem dX5_isCell_11 : decode cX5_isCell 11 = .ok (.iconst 5, 1) := by decide +kernel
theorem dX5_isCell_12 : decode cX5_isCell 12 = .ok (.invokestatic 53, 3) := by decide +kernel
theorem dX5_isCell_15 : decode cX5_isCell 15 = .ok (.ifCond .eq 7, 3) := by decide +kernel
theorem dX5_isCell_18 : decode cX5_isCell 18 = .ok (.iconst 1, 1) := by decide +kernel
theorem dX5_isCell_19 : decode cX5_isCell 19 = .ok (.goto 4, 3) := by decide +kernel
theorem dX5_isCell_22 : decode cX5_isCell 22 = .ok (.iconst 0, 1) := by decide +kernel
theorem dX5_isCell_23 : decode cX5_isCell 23 = .ok (.ireturn, 1) := by decide +kernel
theorem dX5_inCell_0 : decode cX5_inCell 0 = .ok (.iconst 0, 1) := by decide +kernel
theorem dX5_inCell_1 : decode cX5_inCell 1 = .ok (.istore_n 3, 1) := by decide +kernel
theorem dX5_inCell_2 : decode cX5_inCell 2 = .ok (.iload_n 3, 1) := by decide +kernel
theorem dX5_inCell_3 : decode cX5_inCell 3 = .ok (.aload_n 0, 1) := by decide +kernel
theorem dX5_inCell_4 : decode cX5_inCell 4 = .ok (.getfield 9, 3) := by decide +kernel
theorem dX5_inCell_7 : decode cX5_inCell 7 = .ok (.iconst 0, 1) := by decide +kernel
theorem dX5_inCell_8 : decode cX5_inCell 8 = .ok (.iaload, 1) := by decide +kernel
theorem dX5_inCell_9 : decode cX5_inCell 9 = .ok (.if_icmp .ge 31, 3) := by decide +kernel
theorem dX5_inCell_12 : decode cX5_inCell 12 = .ok (.aload_n 0, 1) := by decide +kernel
theorem dX5_inCell_13 : decode cX5_inCell 13 = .ok (.iload_n 3, 1) := by decide +kernel
theorem dX5_inCell_14 : decode cX5_inCell 14 = .ok (.iconst 0, 1) := by decide +kernel
theorem dX5_inCell_15 : decode cX5_inCell 15 = .ok (.invokevirtual 57, 3) := by decide +kernel
theorem dX5_inCell_18 : decode cX5_inCell 18 = .ok (.iload_n 1, 1) := by decide +kernel
theorem dX5_inCell_19 : decode cX5_inCell 19 = .ok (.if_icmp .ne 15, 3) := by decide +kernel
theorem dX5_inCell_22 : decode cX5_inCell 22 = .ok (.aload_n 0, 1) := by decide +kernel
theorem dX5_inCell_23 : decode cX5_inCell 23 = .ok (.iload_n 3, 1) := by decide +kernel
theorem dX5_inCell_24 : decode cX5_inCell 24 = .ok (.iconst 1, 1) := by decide +kernel
theorem dX5_inCell_25 : decode cX5_inCell 25 = .ok (.invokevirtual 57, 3) := by decide +kernel
theorem dX5_inCell_28 : decode cX5_inCell 28 = .ok (.iload_n 2, 1) := by decide +kernel
theorem dX5_inCell_29 : decode cX5_inCell 29 = .ok (.if_icmp .ne 5, 3) := by decide +kernel
theorem dX5_inCell_32 : decode cX5_inCell 32 = .ok (.iload_n 3, 1) := by decide +kernel
theorem dX5_inCell_33 : decode cX5_inCell 33 = .ok (.ireturn, 1) := by decide +kernel
theorem dX5_inCell_34 : decode cX5_inCell 34 = .ok (.iinc 3 1, 3) := by decide +kernel
theorem dX5_inCell_37 : decode cX5_inCell 37 = .ok (.goto (-35), 3) := by decide +kernel
theorem dX5_inCell_40 : decode cX5_inCell 40 = .ok (.iconst (-1), 1) := by decide +kernel
theorem dX5_inCell_41 : decode cX5_inCell 41 = .ok (.ireturn, 1) := by decide +kernel
theorem dX5_factorOf_0 : decode cX5_factorOf 0 = .ok (.iload_n 0, 1) := by decide +kernel
theorem dX5_factorOf_1 : decode cX5_factorOf 1 = .ok (.iconst 3, 1) := by decide +kernel
theorem dX5_factorOf_2 : decode cX5_factorOf 2 = .ok (.if_icmp .lt 9, 3) := by decide +kernel
theorem dX5_factorOf_5 : decode cX5_factorOf 5 = .ok (.iload_n 0, 1) := by decide +kernel
theorem dX5_factorOf_6 : decode cX5_factorOf 6 = .ok (.bipush 22, 2) := by decide +kernel
theorem dX5_factorOf_8 : decode cX5_factorOf 8 = .ok (.if_icmp .le 5, 3) := by decide +kernel
theorem dX5_factorOf_11 : decode cX5_factorOf 11 = .ok (.iconst 0, 1) := by decide +kernel
theorem dX5_factorOf_12 : decode cX5_factorOf 12 = .ok (.ireturn, 1) := by decide +kernel
theorem dX5_factorOf_13 : decode cX5_factorOf 13 = .ok (.iload_n 0, 1) := by decide +kernel
theorem dX5_factorOf_14 : decode cX5_factorOf 14 = .ok (.iconst 5, 1) := by decide +kernel
theorem dX5_factorOf_15 : decode cX5_factorOf 15 = .ok (.if_icmp .ge 7, 3) := by decide +kernel
theorem dX5_factorOf_18 : decode cX5_factorOf 18 = .ok (.iconst 2, 1) := by decide +kernel
theorem dX5_factorOf_19 : decode cX5_factorOf 19 = .ok (.goto 26, 3) := by decide +kernel
theorem dX5_factorOf_22 : decode cX5_factorOf 22 = .ok (.iload_n 0, 1) := by decide +kernel
theorem dX5_factorOf_23 : decode cX5_factorOf 23 = .ok (.bipush 8, 2) := by decide +kernel
theorem dX5_factorOf_25 : decode cX5_factorOf 25 = .ok (.if_icmp .ge 7, 3) := by decide +kernel
theorem dX5_factorOf_28 : decode cX5_factorOf 28 = .ok (.iconst 5, 1) := by decide +kernel
theorem dX5_factorOf_29 : decode cX5_factorOf 29 = .ok (.goto 16, 3) := by decide +kernel
theorem dX5_factorOf_32 : decode cX5_factorOf 32 = .ok (.iload_n 0, 1) := by decide +kernel
theorem dX5_factorOf_33 : decode cX5_factorOf 33 = .ok (.bipush 12, 2) := by decide +kernel
theorem dX5_factorOf_35 : decode cX5_factorOf 35 = .ok (.if_icmp .ge 8, 3) := by decide +kernel
theorem dX5_factorOf_38 : decode cX5_factorOf 38 = .ok (.bipush 8, 2) := by decide +kernel
theorem dX5_factorOf_40 : decode cX5_factorOf 40 = .ok (.goto 5, 3) := by decide +kernel
theorem dX5_factorOf_43 : decode cX5_factorOf 43 = .ok (.bipush 10, 2) := by decide +kernel
theorem dX5_factorOf_45 : decode cX5_factorOf 45 = .ok (.ireturn, 1) := by decide +kernel
theorem dX5_wakeOf_0 : decode cX5_wakeOf 0 = .ok (.aload_n 0, 1) := by decide +kernel
theorem dX5_wakeOf_1 : decode cX5_wakeOf 1 = .ok (.getfield 9, 3) := by decide +kernel
theorem dX5_wakeOf_4 : decode cX5_wakeOf 4 = .ok (.iconst 1, 1) := by decide +kernel
theorem dX5_wakeOf_5 : decode cX5_wakeOf 5 = .ok (.iaload, 1) := by decide +kernel
theorem dX5_wakeOf_6 : decode cX5_wakeOf 6 = .ok (.ifCond .ne 8, 3) := by decide +kernel
theorem dX5_wakeOf_9 : decode cX5_wakeOf 9 = .ok (.iload_n 2, 1) := by decide +kernel
theorem dX5_wakeOf_10 : decode cX5_wakeOf 10 = .ok (.ineg, 1) := by decide +kernel
theorem dX5_wakeOf_11 : decode cX5_wakeOf 11 = .ok (.goto 18, 3) := by decide +kernel
theorem dX5_wakeOf_14 : decode cX5_wakeOf 14 = .ok (.aload_n 0, 1) := by decide +kernel
theorem dX5_wakeOf_15 : decode cX5_wakeOf 15 = .ok (.getfield 9, 3) := by decide +kernel
theorem dX5_wakeOf_18 : decode cX5_wakeOf 18 = .ok (.iconst 1, 1) := by decide +kernel
theorem dX5_wakeOf_19 : decode cX5_wakeOf 19 = .ok (.iaload, 1) := by decide +kernel
theorem dX5_wakeOf_20 : decode cX5_wakeOf 20 = .ok (.iconst 2, 1) := by decide +kernel
theorem dX5_wakeOf_21 : decode cX5_wakeOf 21 = .ok (.if_icmp .ne 7, 3) := by decide +kernel
theorem dX5_wakeOf_24 : decode cX5_wakeOf 24 = .ok (.iload_n 2, 1) := by decide +kernel
theorem dX5_wakeOf_25 : decode cX5_wakeOf 25 = .ok (.goto 4, 3) := by decide +kernel
theorem dX5_wakeOf_28 : decode cX5_wakeOf 28 = .ok (.iconst 0, 1) := by decide +kernel
theorem dX5_wakeOf_29 : decode cX5_wakeOf 29 = .ok (.istore_n 3, 1) := by decide +kernel
theorem dX5_wakeOf_30 : decode cX5_wakeOf 30 = .ok (.aload_n 0, 1) := by decide +kernel
theorem dX5_wakeOf_31 : decode cX5_wakeOf 31 = .ok (.getfield 9, 3) := by decide +kernel
theorem dX5_wakeOf_34 : decode cX5_wakeOf 34 = .ok (.iconst 1, 1) := by decide +kernel
theorem dX5_wakeOf_35 : decode cX5_wakeOf 35 = .ok (.iaload, 1) := by decide +kernel
theorem dX5_wakeOf_36 : decode cX5_wakeOf 36 = .ok (.iconst 1, 1) := by decide +kernel
theorem dX5_wakeOf_37 : decode cX5_wakeOf 37 = .ok (.if_icmp .ne 7, 3) := by decide +kernel
theorem dX5_wakeOf_40 : decode cX5_wakeOf 40 = .ok (.iload_n 2, 1) := by decide +kernel
theorem dX5_wakeOf_41 : decode cX5_wakeOf 41 = .ok (.goto 19, 3) := by decide +kernel
theorem dX5_wakeOf_44 : decode cX5_wakeOf 44 = .ok (.aload_n 0, 1) := by decide +kernel
theorem dX5_wakeOf_45 : decode cX5_wakeOf 45 = .ok (.getfield 9, 3) := by decide +kernel
theorem dX5_wakeOf_48 : decode cX5_wakeOf 48 = .ok (.iconst 1, 1) := by decide +kernel
theorem dX5_wakeOf_49 : decode cX5_wakeOf 49 = .ok (.iaload, 1) := by decide +kernel
theorem dX5_wakeOf_50 : decode cX5_wakeOf 50 = .ok (.iconst 3, 1) := by decide +kernel
theorem dX5_wakeOf_51 : decode cX5_wakeOf 51 = .ok (.if_icmp .ne 8, 3) := by decide +kernel
theorem dX5_wakeOf_54 : decode cX5_wakeOf 54 = .ok (.iload_n 2, 1) := by decide +kernel
theorem dX5_wakeOf_55 : decode cX5_wakeOf 55 = .ok (.ineg, 1) := by decide +kernel
theorem dX5_wakeOf_56 : decode cX5_wakeOf 56 = .ok (.goto 4, 3) := by decide +kernel
theorem dX5_wakeOf_59 : decode cX5_wakeOf 59 = .ok (.iconst 0, 1) := by decide +kernel
theorem dX5_wakeOf_60 : decode cX5_wakeOf 60 = .ok (.istore 4, 2) := by decide +kernel
theorem dX5_wakeOf_62 : decode cX5_wakeOf 62 = .ok (.aload_n 0, 1) := by decide +kernel
theorem dX5_wakeOf_63 : decode cX5_wakeOf 63 = .ok (.aload_n 0, 1) := by decide +kernel
theorem dX5_wakeOf_64 : decode cX5_wakeOf 64 = .ok (.iload_n 1, 1) := by decide +kernel
theorem dX5_wakeOf_65 : decode cX5_wakeOf 65 = .ok (.iconst 0, 1) := by decide +kernel
theorem dX5_wakeOf_66 : decode cX5_wakeOf 66 = .ok (.invokevirtual 57, 3) := by decide +kernel
theorem dX5_wakeOf_69 : decode cX5_wakeOf 69 = .ok (.iload_n 3, 1) := by decide +kernel
theorem dX5_wakeOf_70 : decode cX5_wakeOf 70 = .ok (.iadd, 1) := by decide +kernel
theorem dX5_wakeOf_71 : decode cX5_wakeOf 71 = .ok (.aload_n 0, 1) := by decide +kernel
theorem dX5_wakeOf_72 : decode cX5_wakeOf 72 = .ok (.iload_n 1, 1) := by decide +kernel
theorem dX5_wakeOf_73 : decode cX5_wakeOf 73 = .ok (.iconst 1, 1) := by decide +kernel
theorem dX5_wakeOf_74 : decode cX5_wakeOf 74 = .ok (.invokevirtual 57, 3) := by decide +kernel
theorem dX5_wakeOf_77 : decode cX5_wakeOf 77 = .ok (.iload 4, 2) := by decide +kernel
theorem dX5_wakeOf_79 : decode cX5_wakeOf 79 = .ok (.iadd, 1) := by decide +kernel
theorem dX5_wakeOf_80 : decode cX5_wakeOf 80 = .ok (.invokevirtual 61, 3) := by decide +kernel
theorem dX5_wakeOf_83 : decode cX5_wakeOf 83 = .ok (.istore 5, 2) := by decide +kernel
theorem dX5_wakeOf_85 : decode cX5_wakeOf 85 = .ok (.iload 5, 2) := by decide +kernel
theorem dX5_wakeOf_87 : decode cX5_wakeOf 87 = .ok (.ifCond .lt 17, 3) := by decide +kernel
theorem dX5_wakeOf_90 : decode cX5_wakeOf 90 = .ok (.aload_n 0, 1) := by decide +kernel
theorem dX5_wakeOf_91 : decode cX5_wakeOf 91 = .ok (.iload 5, 2) := by decide +kernel
theorem dX5_wakeOf_93 : decode cX5_wakeOf 93 = .ok (.iconst 3, 1) := by decide +kernel
theorem dX5_wakeOf_94 : decode cX5_wakeOf 94 = .ok (.invokevirtual 57, 3) := by decide +kernel
theorem dX5_wakeOf_97 : decode cX5_wakeOf 97 = .ok (.ifCond .ne 7, 3) := by decide +kernel
theorem dX5_wakeOf_100 : decode cX5_wakeOf 100 = .ok (.iconst 1, 1) := by decide +kernel
theorem dX5_wakeOf_101 : decode cX5_wakeOf 101 = .ok (.goto 4, 3) := by decide +kernel
theorem dX5_wakeOf_104 : decode cX5_wakeOf 104 = .ok (.iconst 0, 1) := by decide +kernel
theorem dX5_wakeOf_105 : decode cX5_wakeOf 105 = .ok (.ireturn, 1) := by decide +kernel
theorem dX5_lossOf_0 : decode cX5_lossOf 0 = .ok (.iconst 3, 1) := by decide +kernel
theorem dX5_lossOf_1 : decode cX5_lossOf 1 = .ok (.aload_n 0, 1) := by decide +kernel
theorem dX5_lossOf_2 : decode cX5_lossOf 2 = .ok (.iload_n 1, 1) := by decide +kernel
theorem dX5_lossOf_3 : decode cX5_lossOf 3 = .ok (.iconst 1, 1) := by decide +kernel
theorem dX5_lossOf_4 : decode cX5_lossOf 4 = .ok (.invokevirtual 64, 3) := by decide +kernel
theorem dX5_lossOf_7 : decode cX5_lossOf 7 = .ok (.imul, 1) := by decide +kernel
theorem dX5_lossOf_8 : decode cX5_lossOf 8 = .ok (.aload_n 0, 1) := by decide +kernel
theorem dX5_lossOf_9 : decode cX5_lossOf 9 = .ok (.iload_n 1, 1) := by decide +kernel
theorem dX5_lossOf_10 : decode cX5_lossOf 10 = .ok (.iconst 2, 1) := by decide +kernel
theorem dX5_lossOf_11 : decode cX5_lossOf 11 = .ok (.invokevirtual 64, 3) := by decide +kernel
theorem dX5_lossOf_14 : decode cX5_lossOf 14 = .ok (.iadd, 1) := by decide +kernel
theorem dX5_lossOf_15 : decode cX5_lossOf 15 = .ok (.ireturn, 1) := by decide +kernel
theorem dX5_available_0 : decode cX5_available 0 = .ok (.aload_n 0, 1) := by decide +kernel
theorem dX5_available_1 : decode cX5_available 1 = .ok (.getfield 9, 3) := by decide +kernel
theorem dX5_available_4 : decode cX5_available 4 = .ok (.iconst 2, 1) := by decide +kernel
theorem dX5_available_5 : decode cX5_available 5 = .ok (.iaload, 1) := by decide +kernel
theorem dX5_available_6 : decode cX5_available 6 = .ok (.invokestatic 67, 3) := by decide +kernel
theorem dX5_available_9 : decode cX5_available 9 = .ok (.aload_n 0, 1) := by decide +kernel
theorem dX5_available_10 : decode cX5_available 10 = .ok (.iload_n 1, 1) := by decide +kernel
theorem dX5_available_11 : decode cX5_available 11 = .ok (.invokevirtual 71, 3) := by decide +kernel
theorem dX5_available_14 : decode cX5_available 14 = .ok (.isub, 1) := by decide +kernel
theorem dX5_available_15 : decode cX5_available 15 = .ok (.istore_n 2, 1) := by decide +kernel
theorem dX5_available_16 : decode cX5_available 16 = .ok (.aload_n 0, 1) := by decide +kernel
theorem dX5_available_17 : decode cX5_available 17 = .ok (.iload_n 1, 1) := by decide +kernel
theorem dX5_available_18 : decode cX5_available 18 = .ok (.iconst 3, 1) := by decide +kernel
theorem dX5_available_19 : decode cX5_available 19 = .ok (.invokevirtual 57, 3) := by decide +kernel
theorem dX5_available_22 : decode cX5_available 22 = .ok (.ifCond .ne 7, 3) := by decide +kernel
theorem dX5_available_25 : decode cX5_available 25 = .ok (.iload_n 2, 1) := by decide +kernel
theorem dX5_available_26 : decode cX5_available 26 = .ok (.ifCond .ge 7, 3) := by decide +kernel
theorem dX5_available_29 : decode cX5_available 29 = .ok (.iconst 0, 1) := by decide +kernel
theorem dX5_available_30 : decode cX5_available 30 = .ok (.goto 11, 3) := by decide +kernel
theorem dX5_available_33 : decode cX5_available 33 = .ok (.aload_n 0, 1) := by decide +kernel
theorem dX5_available_34 : decode cX5_available 34 = .ok (.iload_n 1, 1) := by decide +kernel
theorem dX5_available_35 : decode cX5_available 35 = .ok (.iconst 2, 1) := by decide +kernel
theorem dX5_available_36 : decode cX5_available 36 = .ok (.invokevirtual 57, 3) := by decide +kernel
theorem dX5_available_39 : decode cX5_available 39 = .ok (.iload_n 2, 1) := by decide +kernel
theorem dX5_available_40 : decode cX5_available 40 = .ok (.imul, 1) := by decide +kernel
theorem dX5_available_41 : decode cX5_available 41 = .ok (.ireturn, 1) := by decide +kernel
theorem dX5_output_0 : decode cX5_output 0 = .ok (.aload_n 0, 1) := by decide +kernel
theorem dX5_output_1 : decode cX5_output 1 = .ok (.iload_n 1, 1) := by decide +kernel
theorem dX5_output_2 : decode cX5_output 2 = .ok (.invokevirtual 74, 3) := by decide +kernel
theorem dX5_output_5 : decode cX5_output 5 = .ok (.istore_n 2, 1) := by decide +kernel
theorem dX5_output_6 : decode cX5_output 6 = .ok (.aload_n 0, 1) := by decide +kernel
theorem dX5_output_7 : decode cX5_output 7 = .ok (.iload_n 1, 1) := by decide +kernel
theorem dX5_output_8 : decode cX5_output 8 = .ok (.iconst 5, 1) := by decide +kernel
theorem dX5_output_9 : decode cX5_output 9 = .ok (.invokevirtual 57, 3) := by decide +kernel
theorem dX5_output_12 : decode cX5_output 12 = .ok (.iconst 1, 1) := by decide +kernel
theorem dX5_output_13 : decode cX5_output 13 = .ok (.isub, 1) := by decide +kernel
theorem dX5_output_14 : decode cX5_output 14 = .ok (.istore_n 3, 1) := by decide +kernel
theorem dX5_output_15 : decode cX5_output 15 = .ok (.iload_n 3, 1) := by decide +kernel
theorem dX5_output_16 : decode cX5_output 16 = .ok (.ifCond .lt 12, 3) := by decide +kernel
theorem dX5_output_19 : decode cX5_output 19 = .ok (.iload_n 3, 1) := by decide +kernel
theorem dX5_output_20 : decode cX5_output 20 = .ok (.iload_n 2, 1) := by decide +kernel
theorem dX5_output_21 : decode cX5_output 21 = .ok (.if_icmp .ge 7, 3) := by decide +kernel
theorem dX5_output_24 : decode cX5_output 24 = .ok (.iload_n 3, 1) := by decide +kernel
theorem dX5_output_25 : decode cX5_output 25 = .ok (.goto 4, 3) := by decide +kernel
theorem dX5_output_28 : decode cX5_output 28 = .ok (.iload_n 2, 1) := by decide +kernel
theorem dX5_output_29 : decode cX5_output 29 = .ok (.ireturn, 1) := by decide +kernel
theorem dX5_total_0 : decode cX5_total 0 = .ok (.iconst 0, 1) := by decide +kernel
theorem dX5_total_1 : decode cX5_total 1 = .ok (.istore_n 1, 1) := by decide +kernel
theorem dX5_total_2 : decode cX5_total 2 = .ok (.iconst 0, 1) := by decide +kernel
theorem dX5_total_3 : decode cX5_total 3 = .ok (.istore_n 2, 1) := by decide +kernel
theorem dX5_total_4 : decode cX5_total 4 = .ok (.iload_n 2, 1) := by decide +kernel
theorem dX5_total_5 : decode cX5_total 5 = .ok (.aload_n 0, 1) := by decide +kernel
theorem dX5_total_6 : decode cX5_total 6 = .ok (.getfield 9, 3) := by decide +kernel
theorem dX5_total_9 : decode cX5_total 9 = .ok (.iconst 0, 1) := by decide +kernel
theorem dX5_total_10 : decode cX5_total 10 = .ok (.iaload, 1) := by decide +kernel
theorem dX5_total_11 : decode cX5_total 11 = .ok (.if_icmp .ge 17, 3) := by decide +kernel
theorem dX5_total_14 : decode cX5_total 14 = .ok (.iload_n 1, 1) := by decide +kernel
theorem dX5_total_15 : decode cX5_total 15 = .ok (.aload_n 0, 1) := by decide +kernel
theorem dX5_total_16 : decode cX5_total 16 = .ok (.iload_n 2, 1) := by decide +kernel
theorem dX5_total_17 : decode cX5_total 17 = .ok (.invokevirtual 77, 3) := by decide +kernel
theorem dX5_total_20 : decode cX5_total 20 = .ok (.iadd, 1) := by decide +kernel
theorem dX5_total_21 : decode cX5_total 21 = .ok (.istore_n 1, 1) := by decide +kernel
theorem dX5_total_22 : decode cX5_total 22 = .ok (.iinc 2 1, 3) := by decide +kernel
theorem dX5_total_25 : decode cX5_total 25 = .ok (.goto (-21), 3) := by decide +kernel
theorem dX5_total_28 : decode cX5_total 28 = .ok (.iload_n 1, 1) := by decide +kernel
theorem dX5_total_29 : decode cX5_total 29 = .ok (.ireturn, 1) := by decide +kernel
theorem dX5_inState_0 : decode cX5_inState 0 = .ok (.iconst 0, 1) := by decide +kernel
theorem dX5_inState_1 : decode cX5_inState 1 = .ok (.istore_n 2, 1) := by decide +kernel
theorem dX5_inState_2 : decode cX5_inState 2 = .ok (.iconst 0, 1) := by decide +kernel
theorem dX5_inState_3 : decode cX5_inState 3 = .ok (.istore_n 3, 1) := by decide +kernel
theorem dX5_inState_4 : decode cX5_inState 4 = .ok (.iload_n 3, 1) := by decide +kernel
theorem dX5_inState_5 : decode cX5_inState 5 = .ok (.aload_n 0, 1) := by decide +kernel
theorem dX5_inState_6 : decode cX5_inState 6 = .ok (.getfield 9, 3) := by decide +kernel
theorem dX5_inState_9 : decode cX5_inState 9 = .ok (.iconst 0, 1) := by decide +kernel
theorem dX5_inState_10 : decode cX5_inState 10 = .ok (.iaload, 1) := by decide +kernel
theorem dX5_inState_11 : decode cX5_inState 11 = .ok (.if_icmp .ge 27, 3) := by decide +kernel
theorem dX5_inState_14 : decode cX5_inState 14 = .ok (.iload_n 2, 1) := by decide +kernel
theorem dX5_inState_15 : decode cX5_inState 15 = .ok (.aload_n 0, 1) := by decide +kernel
theorem dX5_inState_16 : decode cX5_inState 16 = .ok (.iload_n 3, 1) := by decide +kernel
theorem dX5_inState_17 : decode cX5_inState 17 = .ok (.iconst 3, 1) := by decide +kernel
theorem dX5_inState_18 : decode cX5_inState 18 = .ok (.invokevirtual 57, 3) := by decide +kernel
theorem dX5_inState_21 : decode cX5_inState 21 = .ok (.iload_n 1, 1) := by decide +kernel
theorem dX5_inState_22 : decode cX5_inState 22 = .ok (.if_icmp .ne 7, 3) := by decide +kernel
theorem dX5_inState_25 : decode cX5_inState 25 = .ok (.iconst 1, 1) := by decide +kernel
theorem dX5_inState_26 : decode cX5_inState 26 = .ok (.goto 4, 3) := by decide +kernel
theorem dX5_inState_29 : decode cX5_inState 29 = .ok (.iconst 0, 1) := by decide +kernel
theorem dX5_inState_30 : decode cX5_inState 30 = .ok (.iadd, 1) := by decide +kernel
theorem dX5_inState_31 : decode cX5_inState 31 = .ok (.istore_n 2, 1) := by decide +kernel
theorem dX5_inState_32 : decode cX5_inState 32 = .ok (.iinc 3 1, 3) := by decide +kernel
theorem dX5_inState_35 : decode cX5_inState 35 = .ok (.goto (-31), 3) := by decide +kernel
theorem dX5_inState_38 : decode cX5_inState 38 = .ok (.iload_n 2, 1) := by decide +kernel
theorem dX5_inState_39 : decode cX5_inState 39 = .ok (.ireturn, 1) := by decide +kernel
theorem dX5_firstInService_0 : decode cX5_firstInService 0 = .ok (.iconst 0, 1) := by decide +kernel
theorem dX5_firstInService_1 : decode cX5_firstInService 1 = .ok (.istore_n 1, 1) := by decide +kernel
theorem dX5_firstInService_2 : decode cX5_firstInService 2 = .ok (.iload_n 1, 1) := by decide +kernel
theorem dX5_firstInService_3 : decode cX5_firstInService 3 = .ok (.aload_n 0, 1) := by decide +kernel
theorem dX5_firstInService_4 : decode cX5_firstInService 4 = .ok (.getfield 9, 3) := by decide +kernel
theorem dX5_firstInService_7 : decode cX5_firstInService 7 = .ok (.iconst 0, 1) := by decide +kernel
theorem dX5_firstInService_8 : decode cX5_firstInService 8 = .ok (.iaload, 1) := by decide +kernel
theorem dX5_firstInService_9 : decode cX5_firstInService 9 = .ok (.if_icmp .ge 21, 3) := by decide +kernel
theorem dX5_firstInService_12 : decode cX5_firstInService 12 = .ok (.aload_n 0, 1) := by decide +kernel
theorem dX5_firstInService_13 : decode cX5_firstInService 13 = .ok (.iload_n 1, 1) := by decide +kernel
theorem dX5_firstInService_14 : decode cX5_firstInService 14 = .ok (.iconst 3, 1) := by decide +kernel
theorem dX5_firstInService_15 : decode cX5_firstInService 15 = .ok (.invokevirtual 57, 3) := by decide +kernel
theorem dX5_firstInService_18 : decode cX5_firstInService 18 = .ok (.iconst 2, 1) := by decide +kernel
theorem dX5_firstInService_19 : decode cX5_firstInService 19 = .ok (.if_icmp .ne 5, 3) := by decide +kernel
theorem dX5_firstInService_22 : decode cX5_firstInService 22 = .ok (.iload_n 1, 1) := by decide +kernel
theorem dX5_firstInService_23 : decode cX5_firstInService 23 = .ok (.ireturn, 1) := by decide +kernel
theorem dX5_firstInService_24 : decode cX5_firstInService 24 = .ok (.iinc 1 1, 3) := by decide +kernel
theorem dX5_firstInService_27 : decode cX5_firstInService 27 = .ok (.goto (-25), 3) := by decide +kernel
theorem dX5_firstInService_30 : decode cX5_firstInService 30 = .ok (.iconst 0, 1) := by decide +kernel
theorem dX5_firstInService_31 : decode cX5_firstInService 31 = .ok (.ireturn, 1) := by decide +kernel
theorem dX5_wayOf_0 : decode cX5_wayOf 0 = .ok (.iload_n 0, 1) := by decide +kernel
theorem dX5_wayOf_1 : decode cX5_wayOf 1 = .ok (.bipush 78, 2) := by decide +kernel
theorem dX5_wayOf_3 : decode cX5_wayOf 3 = .ok (.if_icmp .ne 7, 3) := by decide +kernel
theorem dX5_wayOf_6 : decode cX5_wayOf 6 = .ok (.iconst 0, 1) := by decide +kernel
theorem dX5_wayOf_7 : decode cX5_wayOf 7 = .ok (.goto 34, 3) := by decide +kernel
theorem dX5_wayOf_10 : decode cX5_wayOf 10 = .ok (.iload_n 0, 1) := by decide +kernel
theorem dX5_wayOf_11 : decode cX5_wayOf 11 = .ok (.bipush 69, 2) := by decide +kernel
theorem dX5_wayOf_13 : decode cX5_wayOf 13 = .ok (.if_icmp .ne 7, 3) := by decide +kernel
theorem dX5_wayOf_16 : decode cX5_wayOf 16 = .ok (.iconst 1, 1) := by decide +kernel
theorem dX5_wayOf_17 : decode cX5_wayOf 17 = .ok (.goto 24, 3) := by decide +kernel
theorem dX5_wayOf_20 : decode cX5_wayOf 20 = .ok (.iload_n 0, 1) := by decide +kernel
theorem dX5_wayOf_21 : decode cX5_wayOf 21 = .ok (.bipush 83, 2) := by decide +kernel
theorem dX5_wayOf_23 : decode cX5_wayOf 23 = .ok (.if_icmp .ne 7, 3) := by decide +kernel
theorem dX5_wayOf_26 : decode cX5_wayOf 26 = .ok (.iconst 2, 1) := by decide +kernel
theorem dX5_wayOf_27 : decode cX5_wayOf 27 = .ok (.goto 14, 3) := by decide +kernel
theorem dX5_wayOf_30 : decode cX5_wayOf 30 = .ok (.iload_n 0, 1) := by decide +kernel
theorem dX5_wayOf_31 : decode cX5_wayOf 31 = .ok (.bipush 87, 2) := by decide +kernel
theorem dX5_wayOf_33 : decode cX5_wayOf 33 = .ok (.if_icmp .ne 7, 3) := by decide +kernel
theorem dX5_wayOf_36 : decode cX5_wayOf 36 = .ok (.iconst 3, 1) := by decide +kernel
theorem dX5_wayOf_37 : decode cX5_wayOf 37 = .ok (.goto 4, 3) := by decide +kernel
theorem dX5_wayOf_40 : decode cX5_wayOf 40 = .ok (.iconst (-1), 1) := by decide +kernel
theorem dX5_wayOf_41 : decode cX5_wayOf 41 = .ok (.ireturn, 1) := by decide +kernel
theorem dX5_signOf_0 : decode cX5_signOf 0 = .ok (.iload_n 0, 1) := by decide +kernel
theorem dX5_signOf_1 : decode cX5_signOf 1 = .ok (.ifCond .ne 8, 3) := by decide +kernel
theorem dX5_signOf_4 : decode cX5_signOf 4 = .ok (.bipush 78, 2) := by decide +kernel
theorem dX5_signOf_6 : decode cX5_signOf 6 = .ok (.goto 25, 3) := by decide +kernel
theorem dX5_signOf_9 : decode cX5_signOf 9 = .ok (.iload_n 0, 1) := by decide +kernel
theorem dX5_signOf_10 : decode cX5_signOf 10 = .ok (.iconst 1, 1) := by decide +kernel
theorem dX5_signOf_11 : decode cX5_signOf 11 = .ok (.if_icmp .ne 8, 3) := by decide +kernel
theorem dX5_signOf_14 : decode cX5_signOf 14 = .ok (.bipush 69, 2) := by decide +kernel
theorem dX5_signOf_16 : decode cX5_signOf 16 = .ok (.goto 15, 3) := by decide +kernel
theorem dX5_signOf_19 : decode cX5_signOf 19 = .ok (.iload_n 0, 1) := by decide +kernel
theorem dX5_signOf_20 : decode cX5_signOf 20 = .ok (.iconst 2, 1) := by decide +kernel
theorem dX5_signOf_21 : decode cX5_signOf 21 = .ok (.if_icmp .ne 8, 3) := by decide +kernel
theorem dX5_signOf_24 : decode cX5_signOf 24 = .ok (.bipush 83, 2) := by decide +kernel
theorem dX5_signOf_26 : decode cX5_signOf 26 = .ok (.goto 5, 3) := by decide +kernel
theorem dX5_signOf_29 : decode cX5_signOf 29 = .ok (.bipush 87, 2) := by decide +kernel
theorem dX5_signOf_31 : decode cX5_signOf 31 = .ok (.ireturn, 1) := by decide +kernel
theorem dX5_adds_0 : decode cX5_adds 0 = .ok (.iload_n 1, 1) := by decide +kernel
theorem dX5_adds_1 : decode cX5_adds 1 = .ok (.iload_n 2, 1) := by decide +kernel
theorem dX5_adds_2 : decode cX5_adds 2 = .ok (.invokestatic 80, 3) := by decide +kernel
theorem dX5_adds_5 : decode cX5_adds 5 = .ok (.ifCond .ne 5, 3) := by decide +kernel
theorem dX5_adds_8 : decode cX5_adds 8 = .ok (.iconst 1, 1) := by decide +kernel
theorem dX5_adds_9 : decode cX5_adds 9 = .ok (.ireturn, 1) := by decide +kernel
theorem dX5_adds_10 : decode cX5_adds 10 = .ok (.iload_n 3, 1) := by decide +kernel
theorem dX5_adds_11 : decode cX5_adds 11 = .ok (.iconst 1, 1) := by decide +kernel
theorem dX5_adds_12 : decode cX5_adds 12 = .ok (.bipush 9, 2) := by decide +kernel
theorem dX5_adds_14 : decode cX5_adds 14 = .ok (.invokestatic 53, 3) := by decide +kernel
theorem dX5_adds_17 : decode cX5_adds 17 = .ok (.ifCond .ne 5, 3) := by decide +kernel
theorem dX5_adds_20 : decode cX5_adds 20 = .ok (.iconst 2, 1) := by decide +kernel
theorem dX5_adds_21 : decode cX5_adds 21 = .ok (.ireturn, 1) := by decide +kernel
theorem dX5_adds_22 : decode cX5_adds 22 = .ok (.aload_n 0, 1) := by decide +kernel
theorem dX5_adds_23 : decode cX5_adds 23 = .ok (.getfield 9, 3) := by decide +kernel
theorem dX5_adds_26 : decode cX5_adds 26 = .ok (.iconst 0, 1) := by decide +kernel
theorem dX5_adds_27 : decode cX5_adds 27 = .ok (.iaload, 1) := by decide +kernel
theorem dX5_adds_28 : decode cX5_adds 28 = .ok (.istore 4, 2) := by decide +kernel
theorem dX5_adds_30 : decode cX5_adds 30 = .ok (.aload_n 0, 1) := by decide +kernel
theorem dX5_adds_31 : decode cX5_adds 31 = .ok (.iload_n 1, 1) := by decide +kernel
theorem dX5_adds_32 : decode cX5_adds 32 = .ok (.iload_n 2, 1) := by decide +kernel
theorem dX5_adds_33 : decode cX5_adds 33 = .ok (.invokevirtual 61, 3) := by decide +kernel
theorem dX5_adds_36 : decode cX5_adds 36 = .ok (.istore 5, 2) := by decide +kernel
theorem dX5_adds_38 : decode cX5_adds 38 = .ok (.aload_n 0, 1) := by decide +kernel
theorem dX5_adds_39 : decode cX5_adds 39 = .ok (.iload 4, 2) := by decide +kernel
theorem dX5_adds_41 : decode cX5_adds 41 = .ok (.bipush 12, 2) := by decide +kernel
theorem dX5_adds_43 : decode cX5_adds 43 = .ok (.if_icmp .ne 7, 3) := by decide +kernel
theorem dX5_adds_46 : decode cX5_adds 46 = .ok (.iconst 1, 1) := by decide +kernel
theorem dX5_adds_47 : decode cX5_adds 47 = .ok (.goto 4, 3) := by decide +kernel
theorem dX5_adds_50 : decode cX5_adds 50 = .ok (.iconst 0, 1) := by decide +kernel
theorem dX5_adds_51 : decode cX5_adds 51 = .ok (.iconst 1, 1) := by decide +kernel
theorem dX5_adds_52 : decode cX5_adds 52 = .ok (.bipush 12, 2) := by decide +kernel
theorem dX5_adds_54 : decode cX5_adds 54 = .ok (.invokevirtual 84, 3) := by decide +kernel
theorem dX5_adds_57 : decode cX5_adds 57 = .ok (.ifCond .ne 23, 3) := by decide +kernel
theorem dX5_adds_60 : decode cX5_adds 60 = .ok (.aload_n 0, 1) := by decide +kernel
theorem dX5_adds_61 : decode cX5_adds 61 = .ok (.iload 5, 2) := by decide +kernel
theorem dX5_adds_63 : decode cX5_adds 63 = .ok (.ifCond .lt 7, 3) := by decide +kernel
theorem dX5_adds_66 : decode cX5_adds 66 = .ok (.iconst 1, 1) := by decide +kernel
theorem dX5_adds_67 : decode cX5_adds 67 = .ok (.goto 4, 3) := by decide +kernel
theorem dX5_adds_70 : decode cX5_adds 70 = .ok (.iconst 0, 1) := by decide +kernel
theorem dX5_adds_71 : decode cX5_adds 71 = .ok (.iconst 2, 1) := by decide +kernel
theorem dX5_adds_72 : decode cX5_adds 72 = .ok (.iload 5, 2) := by decide +kernel
theorem dX5_adds_74 : decode cX5_adds 74 = .ok (.invokevirtual 84, 3) := by decide +kernel
theorem dX5_adds_77 : decode cX5_adds 77 = .ok (.ifCond .eq 5, 3) := by decide +kernel
theorem dX5_adds_80 : decode cX5_adds 80 = .ok (.iconst 3, 1) := by decide +kernel
theorem dX5_adds_81 : decode cX5_adds 81 = .ok (.ireturn, 1) := by decide +kernel
theorem dX5_adds_82 : decode cX5_adds 82 = .ok (.aload_n 0, 1) := by decide +kernel
theorem dX5_adds_83 : decode cX5_adds 83 = .ok (.getfield 9, 3) := by decide +kernel
theorem dX5_adds_86 : decode cX5_adds 86 = .ok (.iconst 0, 1) := by decide +kernel
theorem dX5_adds_87 : decode cX5_adds 87 = .ok (.dup2, 1) := by decide +kernel
theorem dX5_adds_88 : decode cX5_adds 88 = .ok (.iaload, 1) := by decide +kernel
theorem dX5_adds_89 : decode cX5_adds 89 = .ok (.iconst 1, 1) := by decide +kernel
theorem dX5_adds_90 : decode cX5_adds 90 = .ok (.iadd, 1) := by decide +kernel
theorem dX5_adds_91 : decode cX5_adds 91 = .ok (.iastore, 1) := by decide +kernel
theorem dX5_adds_92 : decode cX5_adds 92 = .ok (.iconst 0, 1) := by decide +kernel
theorem dX5_adds_93 : decode cX5_adds 93 = .ok (.istore 6, 2) := by decide +kernel
theorem dX5_adds_95 : decode cX5_adds 95 = .ok (.iload 6, 2) := by decide +kernel
theorem dX5_adds_97 : decode cX5_adds 97 = .ok (.bipush 6, 2) := by decide +kernel
theorem dX5_adds_99 : decode cX5_adds 99 = .ok (.if_icmp .ge 18, 3) := by decide +kernel
theorem dX5_adds_102 : decode cX5_adds 102 = .ok (.aload_n 0, 1) := by decide +kernel
theorem dX5_adds_103 : decode cX5_adds 103 = .ok (.iload 4, 2) := by decide +kernel
theorem dX5_adds_105 : decode cX5_adds 105 = .ok (.iload 6, 2) := by decide +kernel
theorem dX5_adds_107 : decode cX5_adds 107 = .ok (.iconst 0, 1) := by decide +kernel
theorem dX5_adds_108 : decode cX5_adds 108 = .ok (.invokevirtual 88, 3) := by decide +kernel
theorem dX5_adds_111 : decode cX5_adds 111 = .ok (.iinc 6 1, 3) := by decide +kernel
theorem dX5_adds_114 : decode cX5_adds 114 = .ok (.goto (-19), 3) := by decide +kernel
theorem dX5_adds_117 : decode cX5_adds 117 = .ok (.aload_n 0, 1) := by decide +kernel
theorem dX5_adds_118 : decode cX5_adds 118 = .ok (.iload 4, 2) := by decide +kernel
theorem dX5_adds_120 : decode cX5_adds 120 = .ok (.iconst 0, 1) := by decide +kernel
theorem dX5_adds_121 : decode cX5_adds 121 = .ok (.iload_n 1, 1) := by decide +kernel
theorem dX5_adds_122 : decode cX5_adds 122 = .ok (.invokevirtual 88, 3) := by decide +kernel
theorem dX5_adds_125 : decode cX5_adds 125 = .ok (.aload_n 0, 1) := by decide +kernel
theorem dX5_adds_126 : decode cX5_adds 126 = .ok (.iload 4, 2) := by decide +kernel
theorem dX5_adds_128 : decode cX5_adds 128 = .ok (.iconst 1, 1) := by decide +kernel
theorem dX5_adds_129 : decode cX5_adds 129 = .ok (.iload_n 2, 1) := by decide +kernel
theorem dX5_adds_130 : decode cX5_adds 130 = .ok (.invokevirtual 88, 3) := by decide +kernel
theorem dX5_adds_133 : decode cX5_adds 133 = .ok (.aload_n 0, 1) := by decide +kernel
theorem dX5_adds_134 : decode cX5_adds 134 = .ok (.iload 4, 2) := by decide +kernel
theorem dX5_adds_136 : decode cX5_adds 136 = .ok (.iconst 2, 1) := by decide +kernel
theorem dX5_adds_137 : decode cX5_adds 137 = .ok (.iload_n 3, 1) := by decide +kernel
theorem dX5_adds_138 : decode cX5_adds 138 = .ok (.invokevirtual 88, 3) := by decide +kernel
theorem dX5_adds_141 : decode cX5_adds 141 = .ok (.aload_n 0, 1) := by decide +kernel
theorem dX5_adds_142 : decode cX5_adds 142 = .ok (.iload 4, 2) := by decide +kernel
theorem dX5_adds_144 : decode cX5_adds 144 = .ok (.putfield 37, 3) := by decide +kernel
theorem dX5_adds_147 : decode cX5_adds 147 = .ok (.iconst 0, 1) := by decide +kernel
theorem dX5_adds_148 : decode cX5_adds 148 = .ok (.ireturn, 1) := by decide +kernel
theorem dX5_addTurbine_0 : decode cX5_addTurbine 0 = .ok (.aload_n 0, 1) := by decide +kernel
theorem dX5_addTurbine_1 : decode cX5_addTurbine 1 = .ok (.invokevirtual 92, 3) := by decide +kernel
theorem dX5_addTurbine_4 : decode cX5_addTurbine 4 = .ok (.aload_n 0, 1) := by decide +kernel
theorem dX5_addTurbine_5 : decode cX5_addTurbine 5 = .ok (.aload_n 0, 1) := by decide +kernel
theorem dX5_addTurbine_6 : decode cX5_addTurbine 6 = .ok (.iload_n 1, 1) := by decide +kernel
theorem dX5_addTurbine_7 : decode cX5_addTurbine 7 = .ok (.iload_n 2, 1) := by decide +kernel
theorem dX5_addTurbine_8 : decode cX5_addTurbine 8 = .ok (.iload_n 3, 1) := by decide +kernel
theorem dX5_addTurbine_9 : decode cX5_addTurbine 9 = .ok (.invokevirtual 95, 3) := by decide +kernel
theorem dX5_addTurbine_12 : decode cX5_addTurbine 12 = .ok (.iconst 1, 1) := by decide +kernel
theorem dX5_addTurbine_13 : decode cX5_addTurbine 13 = .ok (.iconst 2, 1) := by decide +kernel
theorem dX5_addTurbine_14 : decode cX5_addTurbine 14 = .ok (.iconst 3, 1) := by decide +kernel
theorem dX5_addTurbine_15 : decode cX5_addTurbine 15 = .ok (.invokevirtual 99, 3) := by decide +kernel
theorem dX5_addTurbine_18 : decode cX5_addTurbine 18 = .ok (.ireturn, 1) := by decide +kernel
theorem dX5_fails_0 : decode cX5_fails 0 = .ok (.aload_n 0, 1) := by decide +kernel
theorem dX5_fails_1 : decode cX5_fails 1 = .ok (.iload_n 1, 1) := by decide +kernel
theorem dX5_fails_2 : decode cX5_fails 2 = .ok (.invokevirtual 103, 3) := by decide +kernel
theorem dX5_fails_5 : decode cX5_fails 5 = .ok (.ifCond .ne 5, 3) := by decide +kernel
theorem dX5_fails_8 : decode cX5_fails 8 = .ok (.iconst 1, 1) := by decide +kernel
theorem dX5_fails_9 : decode cX5_fails 9 = .ok (.ireturn, 1) := by decide +kernel
theorem dX5_fails_10 : decode cX5_fails 10 = .ok (.aload_n 0, 1) := by decide +kernel
theorem dX5_fails_11 : decode cX5_fails 11 = .ok (.aload_n 0, 1) := by decide +kernel
theorem dX5_fails_12 : decode cX5_fails 12 = .ok (.iload_n 1, 1) := by decide +kernel
theorem dX5_fails_13 : decode cX5_fails 13 = .ok (.iconst 3, 1) := by decide +kernel
theorem dX5_fails_14 : decode cX5_fails 14 = .ok (.invokevirtual 57, 3) := by decide +kernel
theorem dX5_fails_17 : decode cX5_fails 17 = .ok (.ifCond .eq 7, 3) := by decide +kernel
theorem dX5_fails_20 : decode cX5_fails 20 = .ok (.iconst 1, 1) := by decide +kernel
theorem dX5_fails_21 : decode cX5_fails 21 = .ok (.goto 4, 3) := by decide +kernel
theorem dX5_fails_24 : decode cX5_fails 24 = .ok (.iconst 0, 1) := by decide +kernel
theorem dX5_fails_25 : decode cX5_fails 25 = .ok (.iconst 3, 1) := by decide +kernel
theorem dX5_fails_26 : decode cX5_fails 26 = .ok (.aload_n 0, 1) := by decide +kernel
theorem dX5_fails_27 : decode cX5_fails 27 = .ok (.iload_n 1, 1) := by decide +kernel
theorem dX5_fails_28 : decode cX5_fails 28 = .ok (.iconst 4, 1) := by decide +kernel
theorem dX5_fails_29 : decode cX5_fails 29 = .ok (.invokevirtual 57, 3) := by decide +kernel
theorem dX5_fails_32 : decode cX5_fails 32 = .ok (.invokevirtual 84, 3) := by decide +kernel
theorem dX5_fails_35 : decode cX5_fails 35 = .ok (.ifCond .eq 5, 3) := by decide +kernel
theorem dX5_fails_38 : decode cX5_fails 38 = .ok (.iconst 3, 1) := by decide +kernel
theorem dX5_fails_39 : decode cX5_fails 39 = .ok (.ireturn, 1) := by decide +kernel
theorem dX5_fails_40 : decode cX5_fails 40 = .ok (.aload_n 0, 1) := by decide +kernel
theorem dX5_fails_41 : decode cX5_fails 41 = .ok (.iload_n 1, 1) := by decide +kernel
theorem dX5_fails_42 : decode cX5_fails 42 = .ok (.iconst 3, 1) := by decide +kernel
theorem dX5_fails_43 : decode cX5_fails 43 = .ok (.iconst 1, 1) := by decide +kernel
theorem dX5_fails_44 : decode cX5_fails 44 = .ok (.invokevirtual 88, 3) := by decide +kernel
theorem dX5_fails_47 : decode cX5_fails 47 = .ok (.aload_n 0, 1) := by decide +kernel
theorem dX5_fails_48 : decode cX5_fails 48 = .ok (.iload_n 1, 1) := by decide +kernel
theorem dX5_fails_49 : decode cX5_fails 49 = .ok (.iconst 5, 1) := by decide +kernel
theorem dX5_fails_50 : decode cX5_fails 50 = .ok (.iconst 0, 1) := by decide +kernel
theorem dX5_fails_51 : decode cX5_fails 51 = .ok (.invokevirtual 88, 3) := by decide +kernel
theorem dX5_fails_54 : decode cX5_fails 54 = .ok (.aload_n 0, 1) := by decide +kernel
theorem dX5_fails_55 : decode cX5_fails 55 = .ok (.aload_n 0, 1) := by decide +kernel
theorem dX5_fails_56 : decode cX5_fails 56 = .ok (.iconst 1, 1) := by decide +kernel
theorem dX5_fails_57 : decode cX5_fails 57 = .ok (.invokevirtual 107, 3) := by decide +kernel
theorem dX5_fails_60 : decode cX5_fails 60 = .ok (.aload_n 0, 1) := by decide +kernel
theorem dX5_fails_61 : decode cX5_fails 61 = .ok (.iconst 2, 1) := by decide +kernel
theorem dX5_fails_62 : decode cX5_fails 62 = .ok (.invokevirtual 107, 3) := by decide +kernel
theorem dX5_fails_65 : decode cX5_fails 65 = .ok (.iadd, 1) := by decide +kernel
theorem dX5_fails_66 : decode cX5_fails 66 = .ok (.putfield 37, 3) := by decide +kernel
theorem dX5_fails_69 : decode cX5_fails 69 = .ok (.iconst 0, 1) := by decide +kernel
theorem dX5_fails_70 : decode cX5_fails 70 = .ok (.ireturn, 1) := by decide +kernel
theorem dX5_fail_0 : decode cX5_fail 0 = .ok (.aload_n 0, 1) := by decide +kernel
theorem dX5_fail_1 : decode cX5_fail 1 = .ok (.invokevirtual 92, 3) := by decide +kernel
theorem dX5_fail_4 : decode cX5_fail 4 = .ok (.aload_n 0, 1) := by decide +kernel
theorem dX5_fail_5 : decode cX5_fail 5 = .ok (.aload_n 0, 1) := by decide +kernel
theorem dX5_fail_6 : decode cX5_fail 6 = .ok (.iload_n 1, 1) := by decide +kernel
theorem dX5_fail_7 : decode cX5_fail 7 = .ok (.invokevirtual 110, 3) := by decide +kernel
theorem dX5_fail_10 : decode cX5_fail 10 = .ok (.iconst 1, 1) := by decide +kernel
theorem dX5_fail_11 : decode cX5_fail 11 = .ok (.iconst 0, 1) := by decide +kernel
theorem dX5_fail_12 : decode cX5_fail 12 = .ok (.iconst 2, 1) := by decide +kernel
theorem dX5_fail_13 : decode cX5_fail 13 = .ok (.invokevirtual 99, 3) := by decide +kernel
theorem dX5_fail_16 : decode cX5_fail 16 = .ok (.ireturn, 1) := by decide +kernel
theorem dX5_sends_0 : decode cX5_sends 0 = .ok (.aload_n 0, 1) := by decide +kernel
theorem dX5_sends_1 : decode cX5_sends 1 = .ok (.iload_n 1, 1) := by decide +kernel
theorem dX5_sends_2 : decode cX5_sends 2 = .ok (.invokevirtual 103, 3) := by decide +kernel
theorem dX5_sends_5 : decode cX5_sends 5 = .ok (.ifCond .ne 5, 3) := by decide +kernel
theorem dX5_sends_8 : decode cX5_sends 8 = .ok (.iconst 1, 1) := by decide +kernel
theorem dX5_sends_9 : decode cX5_sends 9 = .ok (.ireturn, 1) := by decide +kernel
theorem dX5_sends_10 : decode cX5_sends 10 = .ok (.iload_n 2, 1) := by decide +kernel
theorem dX5_sends_11 : decode cX5_sends 11 = .ok (.iconst 1, 1) := by decide +kernel
theorem dX5_sends_12 : decode cX5_sends 12 = .ok (.bipush 12, 2) := by decide +kernel
theorem dX5_sends_14 : decode cX5_sends 14 = .ok (.invokestatic 53, 3) := by decide +kernel
theorem dX5_sends_17 : decode cX5_sends 17 = .ok (.ifCond .ne 5, 3) := by decide +kernel
theorem dX5_sends_20 : decode cX5_sends 20 = .ok (.iconst 2, 1) := by decide +kernel
theorem dX5_sends_21 : decode cX5_sends 21 = .ok (.ireturn, 1) := by decide +kernel
theorem dX5_sends_22 : decode cX5_sends 22 = .ok (.aload_n 0, 1) := by decide +kernel
theorem dX5_sends_23 : decode cX5_sends 23 = .ok (.aload_n 0, 1) := by decide +kernel
theorem dX5_sends_24 : decode cX5_sends 24 = .ok (.iload_n 1, 1) := by decide +kernel
theorem dX5_sends_25 : decode cX5_sends 25 = .ok (.iconst 3, 1) := by decide +kernel
theorem dX5_sends_26 : decode cX5_sends 26 = .ok (.invokevirtual 57, 3) := by decide +kernel
theorem dX5_sends_29 : decode cX5_sends 29 = .ok (.iconst 1, 1) := by decide +kernel
theorem dX5_sends_30 : decode cX5_sends 30 = .ok (.if_icmp .eq 7, 3) := by decide +kernel
theorem dX5_sends_33 : decode cX5_sends 33 = .ok (.iconst 1, 1) := by decide +kernel
theorem dX5_sends_34 : decode cX5_sends 34 = .ok (.goto 4, 3) := by decide +kernel
theorem dX5_sends_37 : decode cX5_sends 37 = .ok (.iconst 0, 1) := by decide +kernel
theorem dX5_sends_38 : decode cX5_sends 38 = .ok (.iconst 4, 1) := by decide +kernel
theorem dX5_sends_39 : decode cX5_sends 39 = .ok (.aload_n 0, 1) := by decide +kernel
theorem dX5_sends_40 : decode cX5_sends 40 = .ok (.iload_n 1, 1) := by decide +kernel
theorem dX5_sends_41 : decode cX5_sends 41 = .ok (.invokevirtual 77, 3) := by decide +kernel
theorem dX5_sends_44 : decode cX5_sends 44 = .ok (.invokevirtual 84, 3) := by decide +kernel
theorem dX5_sends_47 : decode cX5_sends 47 = .ok (.ifCond .ne 29, 3) := by decide +kernel
theorem dX5_sends_50 : decode cX5_sends 50 = .ok (.aload_n 0, 1) := by decide +kernel
theorem dX5_sends_51 : decode cX5_sends 51 = .ok (.aload_n 0, 1) := by decide +kernel
theorem dX5_sends_52 : decode cX5_sends 52 = .ok (.iconst 2, 1) := by decide +kernel
theorem dX5_sends_53 : decode cX5_sends 53 = .ok (.invokevirtual 107, 3) := by decide +kernel
theorem dX5_sends_56 : decode cX5_sends 56 = .ok (.iconst 2, 1) := by decide +kernel
theorem dX5_sends_57 : decode cX5_sends 57 = .ok (.if_icmp .ne 7, 3) := by decide +kernel
theorem dX5_sends_60 : decode cX5_sends 60 = .ok (.iconst 1, 1) := by decide +kernel
theorem dX5_sends_61 : decode cX5_sends 61 = .ok (.goto 4, 3) := by decide +kernel
theorem dX5_sends_64 : decode cX5_sends 64 = .ok (.iconst 0, 1) := by decide +kernel
theorem dX5_sends_65 : decode cX5_sends 65 = .ok (.iconst 5, 1) := by decide +kernel
theorem dX5_sends_66 : decode cX5_sends 66 = .ok (.aload_n 0, 1) := by decide +kernel
theorem dX5_sends_67 : decode cX5_sends 67 = .ok (.invokevirtual 113, 3) := by decide +kernel
theorem dX5_sends_70 : decode cX5_sends 70 = .ok (.invokevirtual 84, 3) := by decide +kernel
theorem dX5_sends_73 : decode cX5_sends 73 = .ok (.ifCond .eq 5, 3) := by decide +kernel
theorem dX5_sends_76 : decode cX5_sends 76 = .ok (.iconst 3, 1) := by decide +kernel
theorem dX5_sends_77 : decode cX5_sends 77 = .ok (.ireturn, 1) := by decide +kernel
theorem dX5_sends_78 : decode cX5_sends 78 = .ok (.aload_n 0, 1) := by decide +kernel
theorem dX5_sends_79 : decode cX5_sends 79 = .ok (.iload_n 1, 1) := by decide +kernel
theorem dX5_sends_80 : decode cX5_sends 80 = .ok (.iconst 3, 1) := by decide +kernel
theorem dX5_sends_81 : decode cX5_sends 81 = .ok (.iconst 2, 1) := by decide +kernel
theorem dX5_sends_82 : decode cX5_sends 82 = .ok (.invokevirtual 88, 3) := by decide +kernel
theorem dX5_sends_85 : decode cX5_sends 85 = .ok (.aload_n 0, 1) := by decide +kernel
theorem dX5_sends_86 : decode cX5_sends 86 = .ok (.iload_n 1, 1) := by decide +kernel
theorem dX5_sends_87 : decode cX5_sends 87 = .ok (.iconst 4, 1) := by decide +kernel
theorem dX5_sends_88 : decode cX5_sends 88 = .ok (.iload_n 2, 1) := by decide +kernel
theorem dX5_sends_89 : decode cX5_sends 89 = .ok (.invokevirtual 88, 3) := by decide +kernel
theorem dX5_sends_92 : decode cX5_sends 92 = .ok (.aload_n 0, 1) := by decide +kernel
theorem dX5_sends_93 : decode cX5_sends 93 = .ok (.iconst 2, 1) := by decide +kernel
theorem dX5_sends_94 : decode cX5_sends 94 = .ok (.aload_n 0, 1) := by decide +kernel
theorem dX5_sends_95 : decode cX5_sends 95 = .ok (.iconst 2, 1) := by decide +kernel
theorem dX5_sends_96 : decode cX5_sends 96 = .ok (.invokevirtual 107, 3) := by decide +kernel
theorem dX5_sends_99 : decode cX5_sends 99 = .ok (.isub, 1) := by decide +kernel
theorem dX5_sends_100 : decode cX5_sends 100 = .ok (.putfield 37, 3) := by decide +kernel
theorem dX5_sends_103 : decode cX5_sends 103 = .ok (.iconst 0, 1) := by decide +kernel
theorem dX5_sends_104 : decode cX5_sends 104 = .ok (.ireturn, 1) := by decide +kernel
theorem dX5_sendCrew_0 : decode cX5_sendCrew 0 = .ok (.aload_n 0, 1) := by decide +kernel
theorem dX5_sendCrew_1 : decode cX5_sendCrew 1 = .ok (.invokevirtual 92, 3) := by decide +kernel
theorem dX5_sendCrew_4 : decode cX5_sendCrew 4 = .ok (.aload_n 0, 1) := by decide +kernel
theorem dX5_sendCrew_5 : decode cX5_sendCrew 5 = .ok (.aload_n 0, 1) := by decide +kernel
theorem dX5_sendCrew_6 : decode cX5_sendCrew 6 = .ok (.iload_n 1, 1) := by decide +kernel
theorem dX5_sendCrew_7 : decode cX5_sendCrew 7 = .ok (.iload_n 2, 1) := by decide +kernel
theorem dX5_sendCrew_8 : decode cX5_sendCrew 8 = .ok (.invokevirtual 117, 3) := by decide +kernel
theorem dX5_sendCrew_11 : decode cX5_sendCrew 11 = .ok (.iconst 1, 1) := by decide +kernel
theorem dX5_sendCrew_12 : decode cX5_sendCrew 12 = .ok (.iconst 2, 1) := by decide +kernel
theorem dX5_sendCrew_13 : decode cX5_sendCrew 13 = .ok (.iconst 3, 1) := by decide +kernel
theorem dX5_sendCrew_14 : decode cX5_sendCrew 14 = .ok (.invokevirtual 99, 3) := by decide +kernel
theorem dX5_sendCrew_17 : decode cX5_sendCrew 17 = .ok (.ireturn, 1) := by decide +kernel
theorem dX5_recalls_0 : decode cX5_recalls 0 = .ok (.aload_n 0, 1) := by decide +kernel
theorem dX5_recalls_1 : decode cX5_recalls 1 = .ok (.iload_n 1, 1) := by decide +kernel
theorem dX5_recalls_2 : decode cX5_recalls 2 = .ok (.invokevirtual 103, 3) := by decide +kernel
theorem dX5_recalls_5 : decode cX5_recalls 5 = .ok (.ifCond .ne 5, 3) := by decide +kernel
theorem dX5_recalls_8 : decode cX5_recalls 8 = .ok (.iconst 1, 1) := by decide +kernel
theorem dX5_recalls_9 : decode cX5_recalls 9 = .ok (.ireturn, 1) := by decide +kernel
theorem dX5_recalls_10 : decode cX5_recalls 10 = .ok (.aload_n 0, 1) := by decide +kernel
theorem dX5_recalls_11 : decode cX5_recalls 11 = .ok (.aload_n 0, 1) := by decide +kernel
theorem dX5_recalls_12 : decode cX5_recalls 12 = .ok (.iload_n 1, 1) := by decide +kernel
theorem dX5_recalls_13 : decode cX5_recalls 13 = .ok (.iconst 3, 1) := by decide +kernel
theorem dX5_recalls_14 : decode cX5_recalls 14 = .ok (.invokevirtual 57, 3) := by decide +kernel
theorem dX5_recalls_17 : decode cX5_recalls 17 = .ok (.iconst 2, 1) := by decide +kernel
theorem dX5_recalls_18 : decode cX5_recalls 18 = .ok (.if_icmp .eq 7, 3) := by decide +kernel
theorem dX5_recalls_21 : decode cX5_recalls 21 = .ok (.iconst 1, 1) := by decide +kernel
theorem dX5_recalls_22 : decode cX5_recalls 22 = .ok (.goto 4, 3) := by decide +kernel
theorem dX5_recalls_25 : decode cX5_recalls 25 = .ok (.iconst 0, 1) := by decide +kernel
theorem dX5_recalls_26 : decode cX5_recalls 26 = .ok (.bipush 6, 2) := by decide +kernel
theorem dX5_recalls_28 : decode cX5_recalls 28 = .ok (.aload_n 0, 1) := by decide +kernel
theorem dX5_recalls_29 : decode cX5_recalls 29 = .ok (.iload_n 1, 1) := by decide +kernel
theorem dX5_recalls_30 : decode cX5_recalls 30 = .ok (.invokevirtual 77, 3) := by decide +kernel
theorem dX5_recalls_33 : decode cX5_recalls 33 = .ok (.invokevirtual 84, 3) := by decide +kernel
theorem dX5_recalls_36 : decode cX5_recalls 36 = .ok (.ifCond .eq 5, 3) := by decide +kernel
theorem dX5_recalls_39 : decode cX5_recalls 39 = .ok (.iconst 3, 1) := by decide +kernel
theorem dX5_recalls_40 : decode cX5_recalls 40 = .ok (.ireturn, 1) := by decide +kernel
theorem dX5_recalls_41 : decode cX5_recalls 41 = .ok (.aload_n 0, 1) := by decide +kernel
theorem dX5_recalls_42 : decode cX5_recalls 42 = .ok (.aload_n 0, 1) := by decide +kernel
theorem dX5_recalls_43 : decode cX5_recalls 43 = .ok (.iload_n 1, 1) := by decide +kernel
theorem dX5_recalls_44 : decode cX5_recalls 44 = .ok (.iconst 4, 1) := by decide +kernel
theorem dX5_recalls_45 : decode cX5_recalls 45 = .ok (.invokevirtual 57, 3) := by decide +kernel
theorem dX5_recalls_48 : decode cX5_recalls 48 = .ok (.putfield 37, 3) := by decide +kernel
theorem dX5_recalls_51 : decode cX5_recalls 51 = .ok (.aload_n 0, 1) := by decide +kernel
theorem dX5_recalls_52 : decode cX5_recalls 52 = .ok (.iload_n 1, 1) := by decide +kernel
theorem dX5_recalls_53 : decode cX5_recalls 53 = .ok (.iconst 3, 1) := by decide +kernel
theorem dX5_recalls_54 : decode cX5_recalls 54 = .ok (.iconst 1, 1) := by decide +kernel
theorem dX5_recalls_55 : decode cX5_recalls 55 = .ok (.invokevirtual 88, 3) := by decide +kernel
theorem dX5_recalls_58 : decode cX5_recalls 58 = .ok (.aload_n 0, 1) := by decide +kernel
theorem dX5_recalls_59 : decode cX5_recalls 59 = .ok (.iload_n 1, 1) := by decide +kernel
theorem dX5_recalls_60 : decode cX5_recalls 60 = .ok (.iconst 4, 1) := by decide +kernel
theorem dX5_recalls_61 : decode cX5_recalls 61 = .ok (.iconst 0, 1) := by decide +kernel
theorem dX5_recalls_62 : decode cX5_recalls 62 = .ok (.invokevirtual 88, 3) := by decide +kernel
theorem dX5_recalls_65 : decode cX5_recalls 65 = .ok (.iconst 0, 1) := by decide +kernel
theorem dX5_recalls_66 : decode cX5_recalls 66 = .ok (.ireturn, 1) := by decide +kernel
theorem dX5_recallCrew_0 : decode cX5_recallCrew 0 = .ok (.aload_n 0, 1) := by decide +kernel
theorem dX5_recallCrew_1 : decode cX5_recallCrew 1 = .ok (.invokevirtual 92, 3) := by decide +kernel
theorem dX5_recallCrew_4 : decode cX5_recallCrew 4 = .ok (.aload_n 0, 1) := by decide +kernel
theorem dX5_recallCrew_5 : decode cX5_recallCrew 5 = .ok (.aload_n 0, 1) := by decide +kernel
theorem dX5_recallCrew_6 : decode cX5_recallCrew 6 = .ok (.iload_n 1, 1) := by decide +kernel
theorem dX5_recallCrew_7 : decode cX5_recallCrew 7 = .ok (.invokevirtual 120, 3) := by decide +kernel
theorem dX5_recallCrew_10 : decode cX5_recallCrew 10 = .ok (.iconst 1, 1) := by decide +kernel
theorem dX5_recallCrew_11 : decode cX5_recallCrew 11 = .ok (.iconst 0, 1) := by decide +kernel
theorem dX5_recallCrew_12 : decode cX5_recallCrew 12 = .ok (.iconst 2, 1) := by decide +kernel
theorem dX5_recallCrew_13 : decode cX5_recallCrew 13 = .ok (.invokevirtual 99, 3) := by decide +kernel
theorem dX5_recallCrew_16 : decode cX5_recallCrew 16 = .ok (.ireturn, 1) := by decide +kernel
theorem dX5_curtails_0 : decode cX5_curtails 0 = .ok (.aload_n 0, 1) := by decide +kernel
theorem dX5_curtails_1 : decode cX5_curtails 1 = .ok (.iload_n 1, 1) := by decide +kernel
theorem dX5_curtails_2 : decode cX5_curtails 2 = .ok (.invokevirtual 103, 3) := by decide +kernel
theorem dX5_curtails_5 : decode cX5_curtails 5 = .ok (.ifCond .ne 5, 3) := by decide +kernel
theorem dX5_curtails_8 : decode cX5_curtails 8 = .ok (.iconst 1, 1) := by decide +kernel
theorem dX5_curtails_9 : decode cX5_curtails 9 = .ok (.ireturn, 1) := by decide +kernel
theorem dX5_curtails_10 : decode cX5_curtails 10 = .ok (.iload_n 2, 1) := by decide +kernel
theorem dX5_curtails_11 : decode cX5_curtails 11 = .ok (.iconst 0, 1) := by decide +kernel
theorem dX5_curtails_12 : decode cX5_curtails 12 = .ok (.bipush 90, 2) := by decide +kernel
theorem dX5_curtails_14 : decode cX5_curtails 14 = .ok (.invokestatic 53, 3) := by decide +kernel
theorem dX5_curtails_17 : decode cX5_curtails 17 = .ok (.ifCond .ne 5, 3) := by decide +kernel
theorem dX5_curtails_20 : decode cX5_curtails 20 = .ok (.iconst 2, 1) := by decide +kernel
theorem dX5_curtails_21 : decode cX5_curtails 21 = .ok (.ireturn, 1) := by decide +kernel
theorem dX5_curtails_22 : decode cX5_curtails 22 = .ok (.aload_n 0, 1) := by decide +kernel
theorem dX5_curtails_23 : decode cX5_curtails 23 = .ok (.aload_n 0, 1) := by decide +kernel
theorem dX5_curtails_24 : decode cX5_curtails 24 = .ok (.iload_n 1, 1) := by decide +kernel
theorem dX5_curtails_25 : decode cX5_curtails 25 = .ok (.iconst 3, 1) := by decide +kernel
theorem dX5_curtails_26 : decode cX5_curtails 26 = .ok (.invokevirtual 57, 3) := by decide +kernel
theorem dX5_curtails_29 : decode cX5_curtails 29 = .ok (.ifCond .eq 7, 3) := by decide +kernel
theorem dX5_curtails_32 : decode cX5_curtails 32 = .ok (.iconst 1, 1) := by decide +kernel
theorem dX5_curtails_33 : decode cX5_curtails 33 = .ok (.goto 4, 3) := by decide +kernel
theorem dX5_curtails_36 : decode cX5_curtails 36 = .ok (.iconst 0, 1) := by decide +kernel
theorem dX5_curtails_37 : decode cX5_curtails 37 = .ok (.iconst 3, 1) := by decide +kernel
theorem dX5_curtails_38 : decode cX5_curtails 38 = .ok (.aload_n 0, 1) := by decide +kernel
theorem dX5_curtails_39 : decode cX5_curtails 39 = .ok (.iload_n 1, 1) := by decide +kernel
theorem dX5_curtails_40 : decode cX5_curtails 40 = .ok (.iconst 4, 1) := by decide +kernel
theorem dX5_curtails_41 : decode cX5_curtails 41 = .ok (.invokevirtual 57, 3) := by decide +kernel
theorem dX5_curtails_44 : decode cX5_curtails 44 = .ok (.invokevirtual 84, 3) := by decide +kernel
theorem dX5_curtails_47 : decode cX5_curtails 47 = .ok (.ifCond .eq 5, 3) := by decide +kernel
theorem dX5_curtails_50 : decode cX5_curtails 50 = .ok (.iconst 3, 1) := by decide +kernel
theorem dX5_curtails_51 : decode cX5_curtails 51 = .ok (.ireturn, 1) := by decide +kernel
theorem dX5_curtails_52 : decode cX5_curtails 52 = .ok (.aload_n 0, 1) := by decide +kernel
theorem dX5_curtails_53 : decode cX5_curtails 53 = .ok (.iload_n 1, 1) := by decide +kernel
theorem dX5_curtails_54 : decode cX5_curtails 54 = .ok (.iconst 5, 1) := by decide +kernel
theorem dX5_curtails_55 : decode cX5_curtails 55 = .ok (.iload_n 2, 1) := by decide +kernel
theorem dX5_curtails_56 : decode cX5_curtails 56 = .ok (.iconst 1, 1) := by decide +kernel
theorem dX5_curtails_57 : decode cX5_curtails 57 = .ok (.iadd, 1) := by decide +kernel
theorem dX5_curtails_58 : decode cX5_curtails 58 = .ok (.invokevirtual 88, 3) := by decide +kernel
theorem dX5_curtails_61 : decode cX5_curtails 61 = .ok (.aload_n 0, 1) := by decide +kernel
theorem dX5_curtails_62 : decode cX5_curtails 62 = .ok (.aload_n 0, 1) := by decide +kernel
theorem dX5_curtails_63 : decode cX5_curtails 63 = .ok (.iload_n 1, 1) := by decide +kernel
theorem dX5_curtails_64 : decode cX5_curtails 64 = .ok (.invokevirtual 77, 3) := by decide +kernel
theorem dX5_curtails_67 : decode cX5_curtails 67 = .ok (.putfield 37, 3) := by decide +kernel
theorem dX5_curtails_70 : decode cX5_curtails 70 = .ok (.iconst 0, 1) := by decide +kernel
theorem dX5_curtails_71 : decode cX5_curtails 71 = .ok (.ireturn, 1) := by decide +kernel
theorem dX5_curtail_0 : decode cX5_curtail 0 = .ok (.aload_n 0, 1) := by decide +kernel
theorem dX5_curtail_1 : decode cX5_curtail 1 = .ok (.invokevirtual 92, 3) := by decide +kernel
theorem dX5_curtail_4 : decode cX5_curtail 4 = .ok (.aload_n 0, 1) := by decide +kernel
theorem dX5_curtail_5 : decode cX5_curtail 5 = .ok (.aload_n 0, 1) := by decide +kernel
theorem dX5_curtail_6 : decode cX5_curtail 6 = .ok (.iload_n 1, 1) := by decide +kernel
theorem dX5_curtail_7 : decode cX5_curtail 7 = .ok (.iload_n 2, 1) := by decide +kernel
theorem dX5_curtail_8 : decode cX5_curtail 8 = .ok (.invokevirtual 123, 3) := by decide +kernel
theorem dX5_curtail_11 : decode cX5_curtail 11 = .ok (.iconst 1, 1) := by decide +kernel
theorem dX5_curtail_12 : decode cX5_curtail 12 = .ok (.iconst 2, 1) := by decide +kernel
theorem dX5_curtail_13 : decode cX5_curtail 13 = .ok (.iconst 3, 1) := by decide +kernel
theorem dX5_curtail_14 : decode cX5_curtail 14 = .ok (.invokevirtual 99, 3) := by decide +kernel
theorem dX5_curtail_17 : decode cX5_curtail 17 = .ok (.ireturn, 1) := by decide +kernel
theorem dX5_releases_0 : decode cX5_releases 0 = .ok (.aload_n 0, 1) := by decide +kernel
theorem dX5_releases_1 : decode cX5_releases 1 = .ok (.iload_n 1, 1) := by decide +kernel
theorem dX5_releases_2 : decode cX5_releases 2 = .ok (.invokevirtual 103, 3) := by decide +kernel
theorem dX5_releases_5 : decode cX5_releases 5 = .ok (.ifCond .ne 5, 3) := by decide +kernel
theorem dX5_releases_8 : decode cX5_releases 8 = .ok (.iconst 1, 1) := by decide +kernel
theorem dX5_releases_9 : decode cX5_releases 9 = .ok (.ireturn, 1) := by decide +kernel
theorem dX5_releases_10 : decode cX5_releases 10 = .ok (.aload_n 0, 1) := by decide +kernel
theorem dX5_releases_11 : decode cX5_releases 11 = .ok (.aload_n 0, 1) := by decide +kernel
theorem dX5_releases_12 : decode cX5_releases 12 = .ok (.iload_n 1, 1) := by decide +kernel
theorem dX5_releases_13 : decode cX5_releases 13 = .ok (.iconst 3, 1) := by decide +kernel
theorem dX5_releases_14 : decode cX5_releases 14 = .ok (.invokevirtual 57, 3) := by decide +kernel
theorem dX5_releases_17 : decode cX5_releases 17 = .ok (.ifCond .eq 7, 3) := by decide +kernel
theorem dX5_releases_20 : decode cX5_releases 20 = .ok (.iconst 1, 1) := by decide +kernel
theorem dX5_releases_21 : decode cX5_releases 21 = .ok (.goto 4, 3) := by decide +kernel
theorem dX5_releases_24 : decode cX5_releases 24 = .ok (.iconst 0, 1) := by decide +kernel
theorem dX5_releases_25 : decode cX5_releases 25 = .ok (.iconst 3, 1) := by decide +kernel
theorem dX5_releases_26 : decode cX5_releases 26 = .ok (.aload_n 0, 1) := by decide +kernel
theorem dX5_releases_27 : decode cX5_releases 27 = .ok (.iload_n 1, 1) := by decide +kernel
theorem dX5_releases_28 : decode cX5_releases 28 = .ok (.iconst 4, 1) := by decide +kernel
theorem dX5_releases_29 : decode cX5_releases 29 = .ok (.invokevirtual 57, 3) := by decide +kernel
theorem dX5_releases_32 : decode cX5_releases 32 = .ok (.invokevirtual 84, 3) := by decide +kernel
theorem dX5_releases_35 : decode cX5_releases 35 = .ok (.ifCond .ne 31, 3) := by decide +kernel
theorem dX5_releases_38 : decode cX5_releases 38 = .ok (.aload_n 0, 1) := by decide +kernel
theorem dX5_releases_39 : decode cX5_releases 39 = .ok (.aload_n 0, 1) := by decide +kernel
theorem dX5_releases_40 : decode cX5_releases 40 = .ok (.iload_n 1, 1) := by decide +kernel
theorem dX5_releases_41 : decode cX5_releases 41 = .ok (.iconst 5, 1) := by decide +kernel
theorem dX5_releases_42 : decode cX5_releases 42 = .ok (.invokevirtual 57, 3) := by decide +kernel
theorem dX5_releases_45 : decode cX5_releases 45 = .ok (.ifCond .ne 7, 3) := by decide +kernel
theorem dX5_releases_48 : decode cX5_releases 48 = .ok (.iconst 1, 1) := by decide +kernel
theorem dX5_releases_49 : decode cX5_releases 49 = .ok (.goto 4, 3) := by decide +kernel
theorem dX5_releases_52 : decode cX5_releases 52 = .ok (.iconst 0, 1) := by decide +kernel
theorem dX5_releases_53 : decode cX5_releases 53 = .ok (.bipush 7, 2) := by decide +kernel
theorem dX5_releases_55 : decode cX5_releases 55 = .ok (.aload_n 0, 1) := by decide +kernel
theorem dX5_releases_56 : decode cX5_releases 56 = .ok (.iload_n 1, 1) := by decide +kernel
theorem dX5_releases_57 : decode cX5_releases 57 = .ok (.invokevirtual 77, 3) := by decide +kernel
theorem dX5_releases_60 : decode cX5_releases 60 = .ok (.invokevirtual 84, 3) := by decide +kernel
theorem dX5_releases_63 : decode cX5_releases 63 = .ok (.ifCond .eq 5, 3) := by decide +kernel
theorem dX5_releases_66 : decode cX5_releases 66 = .ok (.iconst 3, 1) := by decide +kernel
theorem dX5_releases_67 : decode cX5_releases 67 = .ok (.ireturn, 1) := by decide +kernel
theorem dX5_releases_68 : decode cX5_releases 68 = .ok (.aload_n 0, 1) := by decide +kernel
theorem dX5_releases_69 : decode cX5_releases 69 = .ok (.iload_n 1, 1) := by decide +kernel
theorem dX5_releases_70 : decode cX5_releases 70 = .ok (.iconst 5, 1) := by decide +kernel
theorem dX5_releases_71 : decode cX5_releases 71 = .ok (.iconst 0, 1) := by decide +kernel
theorem dX5_releases_72 : decode cX5_releases 72 = .ok (.invokevirtual 88, 3) := by decide +kernel
theorem dX5_releases_75 : decode cX5_releases 75 = .ok (.aload_n 0, 1) := by decide +kernel
theorem dX5_releases_76 : decode cX5_releases 76 = .ok (.aload_n 0, 1) := by decide +kernel
theorem dX5_releases_77 : decode cX5_releases 77 = .ok (.iload_n 1, 1) := by decide +kernel
theorem dX5_releases_78 : decode cX5_releases 78 = .ok (.invokevirtual 77, 3) := by decide +kernel
theorem dX5_releases_81 : decode cX5_releases 81 = .ok (.putfield 37, 3) := by decide +kernel
theorem dX5_releases_84 : decode cX5_releases 84 = .ok (.iconst 0, 1) := by decide +kernel
theorem dX5_releases_85 : decode cX5_releases 85 = .ok (.ireturn, 1) := by decide +kernel
theorem dX5_release_0 : decode cX5_release 0 = .ok (.aload_n 0, 1) := by decide +kernel
theorem dX5_release_1 : decode cX5_release 1 = .ok (.invokevirtual 92, 3) := by decide +kernel
theorem dX5_release_4 : decode cX5_release 4 = .ok (.aload_n 0, 1) := by decide +kernel
theorem dX5_release_5 : decode cX5_release 5 = .ok (.aload_n 0, 1) := by decide +kernel
theorem dX5_release_6 : decode cX5_release 6 = .ok (.iload_n 1, 1) := by decide +kernel
theorem dX5_release_7 : decode cX5_release 7 = .ok (.invokevirtual 126, 3) := by decide +kernel
theorem dX5_release_10 : decode cX5_release 10 = .ok (.iconst 1, 1) := by decide +kernel
theorem dX5_release_11 : decode cX5_release 11 = .ok (.iconst 0, 1) := by decide +kernel
theorem dX5_release_12 : decode cX5_release 12 = .ok (.iconst 2, 1) := by decide +kernel
theorem dX5_release_13 : decode cX5_release 13 = .ok (.invokevirtual 99, 3) := by decide +kernel
theorem dX5_release_16 : decode cX5_release 16 = .ok (.ireturn, 1) := by decide +kernel
theorem dX5_blows_0 : decode cX5_blows 0 = .ok (.iload_n 1, 1) := by decide +kernel
theorem dX5_blows_1 : decode cX5_blows 1 = .ok (.ifCond .lt 13, 3) := by decide +kernel
theorem dX5_blows_4 : decode cX5_blows 4 = .ok (.iload_n 2, 1) := by decide +kernel
theorem dX5_blows_5 : decode cX5_blows 5 = .ok (.iconst 0, 1) := by decide +kernel
theorem dX5_blows_6 : decode cX5_blows 6 = .ok (.bipush 30, 2) := by decide +kernel
theorem dX5_blows_8 : decode cX5_blows 8 = .ok (.invokestatic 53, 3) := by decide +kernel
theorem dX5_blows_11 : decode cX5_blows 11 = .ok (.ifCond .ne 5, 3) := by decide +kernel
theorem dX5_blows_14 : decode cX5_blows 14 = .ok (.iconst 2, 1) := by decide +kernel
theorem dX5_blows_15 : decode cX5_blows 15 = .ok (.ireturn, 1) := by decide +kernel
theorem dX5_blows_16 : decode cX5_blows 16 = .ok (.aload_n 0, 1) := by decide +kernel
theorem dX5_blows_17 : decode cX5_blows 17 = .ok (.getfield 9, 3) := by decide +kernel
theorem dX5_blows_20 : decode cX5_blows 20 = .ok (.iconst 1, 1) := by decide +kernel
theorem dX5_blows_21 : decode cX5_blows 21 = .ok (.iload_n 1, 1) := by decide +kernel
theorem dX5_blows_22 : decode cX5_blows 22 = .ok (.iastore, 1) := by decide +kernel
theorem dX5_blows_23 : decode cX5_blows 23 = .ok (.aload_n 0, 1) := by decide +kernel
theorem dX5_blows_24 : decode cX5_blows 24 = .ok (.getfield 9, 3) := by decide +kernel
theorem dX5_blows_27 : decode cX5_blows 27 = .ok (.iconst 2, 1) := by decide +kernel
theorem dX5_blows_28 : decode cX5_blows 28 = .ok (.iload_n 2, 1) := by decide +kernel
theorem dX5_blows_29 : decode cX5_blows 29 = .ok (.iastore, 1) := by decide +kernel
theorem dX5_blows_30 : decode cX5_blows 30 = .ok (.aload_n 0, 1) := by decide +kernel
theorem dX5_blows_31 : decode cX5_blows 31 = .ok (.aload_n 0, 1) := by decide +kernel
theorem dX5_blows_32 : decode cX5_blows 32 = .ok (.invokevirtual 129, 3) := by decide +kernel
theorem dX5_blows_35 : decode cX5_blows 35 = .ok (.putfield 37, 3) := by decide +kernel
theorem dX5_blows_38 : decode cX5_blows 38 = .ok (.iconst 0, 1) := by decide +kernel
theorem dX5_blows_39 : decode cX5_blows 39 = .ok (.ireturn, 1) := by decide +kernel
theorem dX5_setWind_0 : decode cX5_setWind 0 = .ok (.aload_n 0, 1) := by decide +kernel
theorem dX5_setWind_1 : decode cX5_setWind 1 = .ok (.invokevirtual 92, 3) := by decide +kernel
theorem dX5_setWind_4 : decode cX5_setWind 4 = .ok (.aload_n 0, 1) := by decide +kernel
theorem dX5_setWind_5 : decode cX5_setWind 5 = .ok (.aload_n 0, 1) := by decide +kernel
theorem dX5_setWind_6 : decode cX5_setWind 6 = .ok (.iload_n 1, 1) := by decide +kernel
theorem dX5_setWind_7 : decode cX5_setWind 7 = .ok (.invokestatic 132, 3) := by decide +kernel
theorem dX5_setWind_10 : decode cX5_setWind 10 = .ok (.iload_n 2, 1) := by decide +kernel
theorem dX5_setWind_11 : decode cX5_setWind 11 = .ok (.invokevirtual 135, 3) := by decide +kernel
theorem dX5_setWind_14 : decode cX5_setWind 14 = .ok (.iconst 0, 1) := by decide +kernel
theorem dX5_setWind_15 : decode cX5_setWind 15 = .ok (.iconst 1, 1) := by decide +kernel
theorem dX5_setWind_16 : decode cX5_setWind 16 = .ok (.iconst 0, 1) := by decide +kernel
theorem dX5_setWind_17 : decode cX5_setWind 17 = .ok (.invokevirtual 99, 3) := by decide +kernel
theorem dX5_setWind_20 : decode cX5_setWind 20 = .ok (.ireturn, 1) := by decide +kernel
theorem dX5_limits_0 : decode cX5_limits 0 = .ok (.iload_n 1, 1) := by decide +kernel
theorem dX5_limits_1 : decode cX5_limits 1 = .ok (.iconst 0, 1) := by decide +kernel
theorem dX5_limits_2 : decode cX5_limits 2 = .ok (.sipush 999, 3) := by decide +kernel
theorem dX5_limits_5 : decode cX5_limits 5 = .ok (.invokestatic 53, 3) := by decide +kernel
theorem dX5_limits_8 : decode cX5_limits 8 = .ok (.ifCond .ne 5, 3) := by decide +kernel
theorem dX5_limits_11 : decode cX5_limits 11 = .ok (.iconst 2, 1) := by decide +kernel
theorem dX5_limits_12 : decode cX5_limits 12 = .ok (.ireturn, 1) := by decide +kernel
theorem dX5_limits_13 : decode cX5_limits 13 = .ok (.aload_n 0, 1) := by decide +kernel
theorem dX5_limits_14 : decode cX5_limits 14 = .ok (.aload_n 0, 1) := by decide +kernel
theorem dX5_limits_15 : decode cX5_limits 15 = .ok (.getfield 9, 3) := by decide +kernel
theorem dX5_limits_18 : decode cX5_limits 18 = .ok (.iconst 3, 1) := by decide +kernel
theorem dX5_limits_19 : decode cX5_limits 19 = .ok (.iaload, 1) := by decide +kernel
theorem dX5_limits_20 : decode cX5_limits 20 = .ok (.putfield 37, 3) := by decide +kernel
theorem dX5_limits_23 : decode cX5_limits 23 = .ok (.aload_n 0, 1) := by decide +kernel
theorem dX5_limits_24 : decode cX5_limits 24 = .ok (.getfield 9, 3) := by decide +kernel
theorem dX5_limits_27 : decode cX5_limits 27 = .ok (.iconst 3, 1) := by decide +kernel
theorem dX5_limits_28 : decode cX5_limits 28 = .ok (.iload_n 1, 1) := by decide +kernel
theorem dX5_limits_29 : decode cX5_limits 29 = .ok (.iastore, 1) := by decide +kernel
theorem dX5_limits_30 : decode cX5_limits 30 = .ok (.iconst 0, 1) := by decide +kernel
theorem dX5_limits_31 : decode cX5_limits 31 = .ok (.ireturn, 1) := by decide +kernel
theorem dX5_setGridLimit_0 : decode cX5_setGridLimit 0 = .ok (.aload_n 0, 1) := by decide +kernel
theorem dX5_setGridLimit_1 : decode cX5_setGridLimit 1 = .ok (.invokevirtual 92, 3) := by decide +kernel
theorem dX5_setGridLimit_4 : decode cX5_setGridLimit 4 = .ok (.aload_n 0, 1) := by decide +kernel
theorem dX5_setGridLimit_5 : decode cX5_setGridLimit 5 = .ok (.aload_n 0, 1) := by decide +kernel
theorem dX5_setGridLimit_6 : decode cX5_setGridLimit 6 = .ok (.iload_n 1, 1) := by decide +kernel
theorem dX5_setGridLimit_7 : decode cX5_setGridLimit 7 = .ok (.invokevirtual 138, 3) := by decide +kernel
theorem dX5_setGridLimit_10 : decode cX5_setGridLimit 10 = .ok (.iconst 0, 1) := by decide +kernel
theorem dX5_setGridLimit_11 : decode cX5_setGridLimit 11 = .ok (.iconst 1, 1) := by decide +kernel
theorem dX5_setGridLimit_12 : decode cX5_setGridLimit 12 = .ok (.iconst 0, 1) := by decide +kernel
theorem dX5_setGridLimit_13 : decode cX5_setGridLimit 13 = .ok (.invokevirtual 99, 3) := by decide +kernel
theorem dX5_setGridLimit_16 : decode cX5_setGridLimit 16 = .ok (.ireturn, 1) := by decide +kernel
theorem dX5_dispatches_0 : decode cX5_dispatches 0 = .ok (.aload_n 0, 1) := by decide +kernel
theorem dX5_dispatches_1 : decode cX5_dispatches 1 = .ok (.iconst 0, 1) := by decide +kernel
theorem dX5_dispatches_2 : decode cX5_dispatches 2 = .ok (.putfield 37, 3) := by decide +kernel
theorem dX5_dispatches_5 : decode cX5_dispatches 5 = .ok (.aload_n 0, 1) := by decide +kernel
theorem dX5_dispatches_6 : decode cX5_dispatches 6 = .ok (.invokevirtual 129, 3) := by decide +kernel
theorem dX5_dispatches_9 : decode cX5_dispatches 9 = .ok (.aload_n 0, 1) := by decide +kernel
theorem dX5_dispatches_10 : decode cX5_dispatches 10 = .ok (.getfield 9, 3) := by decide +kernel
theorem dX5_dispatches_13 : decode cX5_dispatches 13 = .ok (.iconst 3, 1) := by decide +kernel
theorem dX5_dispatches_14 : decode cX5_dispatches 14 = .ok (.iaload, 1) := by decide +kernel
theorem dX5_dispatches_15 : decode cX5_dispatches 15 = .ok (.isub, 1) := by decide +kernel
theorem dX5_dispatches_16 : decode cX5_dispatches 16 = .ok (.istore_n 1, 1) := by decide +kernel
theorem dX5_dispatches_17 : decode cX5_dispatches 17 = .ok (.iload_n 1, 1) := by decide +kernel
theorem dX5_dispatches_18 : decode cX5_dispatches 18 = .ok (.ifCond .le 92, 3) := by decide +kernel
theorem dX5_dispatches_21 : decode cX5_dispatches 21 = .ok (.iconst 0, 1) := by decide +kernel
theorem dX5_dispatches_22 : decode cX5_dispatches 22 = .ok (.istore_n 2, 1) := by decide +kernel
theorem dX5_dispatches_23 : decode cX5_dispatches 23 = .ok (.iconst 1, 1) := by decide +kernel
theorem dX5_dispatches_24 : decode cX5_dispatches 24 = .ok (.istore_n 3, 1) := by decide +kernel
theorem dX5_dispatches_25 : decode cX5_dispatches 25 = .ok (.iload_n 3, 1) := by decide +kernel
theorem dX5_dispatches_26 : decode cX5_dispatches 26 = .ok (.aload_n 0, 1) := by decide +kernel
theorem dX5_dispatches_27 : decode cX5_dispatches 27 = .ok (.getfield 9, 3) := by decide +kernel
theorem dX5_dispatches_30 : decode cX5_dispatches 30 = .ok (.iconst 0, 1) := by decide +kernel
theorem dX5_dispatches_31 : decode cX5_dispatches 31 = .ok (.iaload, 1) := by decide +kernel
theorem dX5_dispatches_32 : decode cX5_dispatches 32 = .ok (.if_icmp .ge 28, 3) := by decide +kernel
theorem dX5_dispatches_35 : decode cX5_dispatches 35 = .ok (.aload_n 0, 1) := by decide +kernel
theorem dX5_dispatches_36 : decode cX5_dispatches 36 = .ok (.iload_n 3, 1) := by decide +kernel
theorem dX5_dispatches_37 : decode cX5_dispatches 37 = .ok (.invokevirtual 77, 3) := by decide +kernel
theorem dX5_dispatches_40 : decode cX5_dispatches 40 = .ok (.aload_n 0, 1) := by decide +kernel
theorem dX5_dispatches_41 : decode cX5_dispatches 41 = .ok (.iload_n 2, 1) := by decide +kernel
theorem dX5_dispatches_42 : decode cX5_dispatches 42 = .ok (.invokevirtual 77, 3) := by decide +kernel
theorem dX5_dispatches_45 : decode cX5_dispatches 45 = .ok (.if_icmp .le 7, 3) := by decide +kernel
theorem dX5_dispatches_48 : decode cX5_dispatches 48 = .ok (.iload_n 3, 1) := by decide +kernel
theorem dX5_dispatches_49 : decode cX5_dispatches 49 = .ok (.goto 4, 3) := by decide +kernel
theorem dX5_dispatches_52 : decode cX5_dispatches 52 = .ok (.iload_n 2, 1) := by decide +kernel
theorem dX5_dispatches_53 : decode cX5_dispatches 53 = .ok (.istore_n 2, 1) := by decide +kernel
theorem dX5_dispatches_54 : decode cX5_dispatches 54 = .ok (.iinc 3 1, 3) := by decide +kernel
theorem dX5_dispatches_57 : decode cX5_dispatches 57 = .ok (.goto (-32), 3) := by decide +kernel
theorem dX5_dispatches_60 : decode cX5_dispatches 60 = .ok (.aload_n 0, 1) := by decide +kernel
theorem dX5_dispatches_61 : decode cX5_dispatches 61 = .ok (.iload_n 2, 1) := by decide +kernel
theorem dX5_dispatches_62 : decode cX5_dispatches 62 = .ok (.invokevirtual 77, 3) := by decide +kernel
theorem dX5_dispatches_65 : decode cX5_dispatches 65 = .ok (.iload_n 1, 1) := by decide +kernel
theorem dX5_dispatches_66 : decode cX5_dispatches 66 = .ok (.isub, 1) := by decide +kernel
theorem dX5_dispatches_67 : decode cX5_dispatches 67 = .ok (.istore_n 3, 1) := by decide +kernel
theorem dX5_dispatches_68 : decode cX5_dispatches 68 = .ok (.aload_n 0, 1) := by decide +kernel
theorem dX5_dispatches_69 : decode cX5_dispatches 69 = .ok (.iload_n 2, 1) := by decide +kernel
theorem dX5_dispatches_70 : decode cX5_dispatches 70 = .ok (.iconst 5, 1) := by decide +kernel
theorem dX5_dispatches_71 : decode cX5_dispatches 71 = .ok (.iload_n 3, 1) := by decide +kernel
theorem dX5_dispatches_72 : decode cX5_dispatches 72 = .ok (.ifCond .ge 7, 3) := by decide +kernel
theorem dX5_dispatches_75 : decode cX5_dispatches 75 = .ok (.iconst 1, 1) := by decide +kernel
theorem dX5_dispatches_76 : decode cX5_dispatches 76 = .ok (.goto 6, 3) := by decide +kernel
theorem dX5_dispatches_79 : decode cX5_dispatches 79 = .ok (.iload_n 3, 1) := by decide +kernel
theorem dX5_dispatches_80 : decode cX5_dispatches 80 = .ok (.iconst 1, 1) := by decide +kernel
theorem dX5_dispatches_81 : decode cX5_dispatches 81 = .ok (.iadd, 1) := by decide +kernel
theorem dX5_dispatches_82 : decode cX5_dispatches 82 = .ok (.invokevirtual 88, 3) := by decide +kernel
theorem dX5_dispatches_85 : decode cX5_dispatches 85 = .ok (.aload_n 0, 1) := by decide +kernel
theorem dX5_dispatches_86 : decode cX5_dispatches 86 = .ok (.dup, 1) := by decide +kernel
theorem dX5_dispatches_87 : decode cX5_dispatches 87 = .ok (.getfield 37, 3) := by decide +kernel
theorem dX5_dispatches_90 : decode cX5_dispatches 90 = .ok (.iconst 1, 1) := by decide +kernel
theorem dX5_dispatches_91 : decode cX5_dispatches 91 = .ok (.iadd, 1) := by decide +kernel
theorem dX5_dispatches_92 : decode cX5_dispatches 92 = .ok (.putfield 37, 3) := by decide +kernel
theorem dX5_dispatches_95 : decode cX5_dispatches 95 = .ok (.aload_n 0, 1) := by decide +kernel
theorem dX5_dispatches_96 : decode cX5_dispatches 96 = .ok (.invokevirtual 129, 3) := by decide +kernel
theorem dX5_dispatches_99 : decode cX5_dispatches 99 = .ok (.aload_n 0, 1) := by decide +kernel
theorem dX5_dispatches_100 : decode cX5_dispatches 100 = .ok (.getfield 9, 3) := by decide +kernel
theorem dX5_dispatches_103 : decode cX5_dispatches 103 = .ok (.iconst 3, 1) := by decide +kernel
theorem dX5_dispatches_104 : decode cX5_dispatches 104 = .ok (.iaload, 1) := by decide +kernel
theorem dX5_dispatches_105 : decode cX5_dispatches 105 = .ok (.isub, 1) := by decide +kernel
theorem dX5_dispatches_106 : decode cX5_dispatches 106 = .ok (.istore_n 1, 1) := by decide +kernel
theorem dX5_dispatches_107 : decode cX5_dispatches 107 = .ok (.goto (-90), 3) := by decide +kernel
theorem dX5_dispatches_110 : decode cX5_dispatches 110 = .ok (.iconst 0, 1) := by decide +kernel
theorem dX5_dispatches_111 : decode cX5_dispatches 111 = .ok (.ireturn, 1) := by decide +kernel
theorem dX5_dispatch_0 : decode cX5_dispatch 0 = .ok (.aload_n 0, 1) := by decide +kernel
theorem dX5_dispatch_1 : decode cX5_dispatch 1 = .ok (.invokevirtual 92, 3) := by decide +kernel
theorem dX5_dispatch_4 : decode cX5_dispatch 4 = .ok (.aload_n 0, 1) := by decide +kernel
theorem dX5_dispatch_5 : decode cX5_dispatch 5 = .ok (.aload_n 0, 1) := by decide +kernel
theorem dX5_dispatch_6 : decode cX5_dispatch 6 = .ok (.invokevirtual 141, 3) := by decide +kernel
theorem dX5_dispatch_9 : decode cX5_dispatch 9 = .ok (.iconst 0, 1) := by decide +kernel
theorem dX5_dispatch_10 : decode cX5_dispatch 10 = .ok (.iconst 0, 1) := by decide +kernel
theorem dX5_dispatch_11 : decode cX5_dispatch 11 = .ok (.iconst 0, 1) := by decide +kernel
theorem dX5_dispatch_12 : decode cX5_dispatch 12 = .ok (.invokevirtual 99, 3) := by decide +kernel
theorem dX5_dispatch_15 : decode cX5_dispatch 15 = .ok (.ireturn, 1) := by decide +kernel
theorem dX5_releasesAll_0 : decode cX5_releasesAll 0 = .ok (.aload_n 0, 1) := by decide +kernel
theorem dX5_releasesAll_1 : decode cX5_releasesAll 1 = .ok (.iconst 0, 1) := by decide +kernel
theorem dX5_releasesAll_2 : decode cX5_releasesAll 2 = .ok (.putfield 37, 3) := by decide +kernel
theorem dX5_releasesAll_5 : decode cX5_releasesAll 5 = .ok (.iconst 0, 1) := by decide +kernel
theorem dX5_releasesAll_6 : decode cX5_releasesAll 6 = .ok (.istore_n 1, 1) := by decide +kernel
theorem dX5_releasesAll_7 : decode cX5_releasesAll 7 = .ok (.iload_n 1, 1) := by decide +kernel
theorem dX5_releasesAll_8 : decode cX5_releasesAll 8 = .ok (.aload_n 0, 1) := by decide +kernel
theorem dX5_releasesAll_9 : decode cX5_releasesAll 9 = .ok (.getfield 9, 3) := by decide +kernel
theorem dX5_releasesAll_12 : decode cX5_releasesAll 12 = .ok (.iconst 0, 1) := by decide +kernel
theorem dX5_releasesAll_13 : decode cX5_releasesAll 13 = .ok (.iaload, 1) := by decide +kernel
theorem dX5_releasesAll_14 : decode cX5_releasesAll 14 = .ok (.if_icmp .ge 39, 3) := by decide +kernel
theorem dX5_releasesAll_17 : decode cX5_releasesAll 17 = .ok (.aload_n 0, 1) := by decide +kernel
theorem dX5_releasesAll_18 : decode cX5_releasesAll 18 = .ok (.dup, 1) := by decide +kernel
theorem dX5_releasesAll_19 : decode cX5_releasesAll 19 = .ok (.getfield 37, 3) := by decide +kernel
theorem dX5_releasesAll_22 : decode cX5_releasesAll 22 = .ok (.aload_n 0, 1) := by decide +kernel
theorem dX5_releasesAll_23 : decode cX5_releasesAll 23 = .ok (.iload_n 1, 1) := by decide +kernel
theorem dX5_releasesAll_24 : decode cX5_releasesAll 24 = .ok (.iconst 5, 1) := by decide +kernel
theorem dX5_releasesAll_25 : decode cX5_releasesAll 25 = .ok (.invokevirtual 57, 3) := by decide +kernel
theorem dX5_releasesAll_28 : decode cX5_releasesAll 28 = .ok (.ifCond .le 7, 3) := by decide +kernel
theorem dX5_releasesAll_31 : decode cX5_releasesAll 31 = .ok (.iconst 1, 1) := by decide +kernel
theorem dX5_releasesAll_32 : decode cX5_releasesAll 32 = .ok (.goto 4, 3) := by decide +kernel
theorem dX5_releasesAll_35 : decode cX5_releasesAll 35 = .ok (.iconst 0, 1) := by decide +kernel
theorem dX5_releasesAll_36 : decode cX5_releasesAll 36 = .ok (.iadd, 1) := by decide +kernel
theorem dX5_releasesAll_37 : decode cX5_releasesAll 37 = .ok (.putfield 37, 3) := by decide +kernel
theorem dX5_releasesAll_40 : decode cX5_releasesAll 40 = .ok (.aload_n 0, 1) := by decide +kernel
theorem dX5_releasesAll_41 : decode cX5_releasesAll 41 = .ok (.iload_n 1, 1) := by decide +kernel
theorem dX5_releasesAll_42 : decode cX5_releasesAll 42 = .ok (.iconst 5, 1) := by decide +kernel
theorem dX5_releasesAll_43 : decode cX5_releasesAll 43 = .ok (.iconst 0, 1) := by decide +kernel
theorem dX5_releasesAll_44 : decode cX5_releasesAll 44 = .ok (.invokevirtual 88, 3) := by decide +kernel
theorem dX5_releasesAll_47 : decode cX5_releasesAll 47 = .ok (.iinc 1 1, 3) := by decide +kernel
theorem dX5_releasesAll_50 : decode cX5_releasesAll 50 = .ok (.goto (-43), 3) := by decide +kernel
theorem dX5_releasesAll_53 : decode cX5_releasesAll 53 = .ok (.iconst 0, 1) := by decide +kernel
theorem dX5_releasesAll_54 : decode cX5_releasesAll 54 = .ok (.ireturn, 1) := by decide +kernel
theorem dX5_releaseAll_0 : decode cX5_releaseAll 0 = .ok (.aload_n 0, 1) := by decide +kernel
theorem dX5_releaseAll_1 : decode cX5_releaseAll 1 = .ok (.invokevirtual 92, 3) := by decide +kernel
theorem dX5_releaseAll_4 : decode cX5_releaseAll 4 = .ok (.aload_n 0, 1) := by decide +kernel
theorem dX5_releaseAll_5 : decode cX5_releaseAll 5 = .ok (.aload_n 0, 1) := by decide +kernel
theorem dX5_releaseAll_6 : decode cX5_releaseAll 6 = .ok (.invokevirtual 144, 3) := by decide +kernel
theorem dX5_releaseAll_9 : decode cX5_releaseAll 9 = .ok (.iconst 0, 1) := by decide +kernel
theorem dX5_releaseAll_10 : decode cX5_releaseAll 10 = .ok (.iconst 0, 1) := by decide +kernel
theorem dX5_releaseAll_11 : decode cX5_releaseAll 11 = .ok (.iconst 0, 1) := by decide +kernel
theorem dX5_releaseAll_12 : decode cX5_releaseAll 12 = .ok (.invokevirtual 99, 3) := by decide +kernel
theorem dX5_releaseAll_15 : decode cX5_releaseAll 15 = .ok (.ireturn, 1) := by decide +kernel
theorem dX5_isHour_0 : decode cX5_isHour 0 = .ok (.iload_n 0, 1) := by decide +kernel
theorem dX5_isHour_1 : decode cX5_isHour 1 = .ok (.iconst 0, 1) := by decide +kernel
theorem dX5_isHour_2 : decode cX5_isHour 2 = .ok (.bipush 23, 2) := by decide +kernel
theorem dX5_isHour_4 : decode cX5_isHour 4 = .ok (.invokestatic 53, 3) := by decide +kernel
theorem dX5_isHour_7 : decode cX5_isHour 7 = .ok (.ireturn, 1) := by decide +kernel
theorem dX5_price_0 : decode cX5_price 0 = .ok (.aload_n 0, 1) := by decide +kernel
theorem dX5_price_1 : decode cX5_price 1 = .ok (.getfield 9, 3) := by decide +kernel
theorem dX5_price_4 : decode cX5_price 4 = .ok (.bipush 9, 2) := by decide +kernel
theorem dX5_price_6 : decode cX5_price 6 = .ok (.iconst 2, 1) := by decide +kernel
theorem dX5_price_7 : decode cX5_price 7 = .ok (.iload_n 1, 1) := by decide +kernel
theorem dX5_price_8 : decode cX5_price 8 = .ok (.imul, 1) := by decide +kernel
theorem dX5_price_9 : decode cX5_price 9 = .ok (.iadd, 1) := by decide +kernel
theorem dX5_price_10 : decode cX5_price 10 = .ok (.iaload, 1) := by decide +kernel
theorem dX5_price_11 : decode cX5_price 11 = .ok (.ireturn, 1) := by decide +kernel
theorem dX5_quantity_0 : decode cX5_quantity 0 = .ok (.aload_n 0, 1) := by decide +kernel
theorem dX5_quantity_1 : decode cX5_quantity 1 = .ok (.getfield 9, 3) := by decide +kernel
theorem dX5_quantity_4 : decode cX5_quantity 4 = .ok (.bipush 9, 2) := by decide +kernel
theorem dX5_quantity_6 : decode cX5_quantity 6 = .ok (.iconst 2, 1) := by decide +kernel
theorem dX5_quantity_7 : decode cX5_quantity 7 = .ok (.iload_n 1, 1) := by decide +kernel
theorem dX5_quantity_8 : decode cX5_quantity 8 = .ok (.imul, 1) := by decide +kernel
theorem dX5_quantity_9 : decode cX5_quantity 9 = .ok (.iadd, 1) := by decide +kernel
theorem dX5_quantity_10 : decode cX5_quantity 10 = .ok (.iconst 1, 1) := by decide +kernel
theorem dX5_quantity_11 : decode cX5_quantity 11 = .ok (.iadd, 1) := by decide +kernel
theorem dX5_quantity_12 : decode cX5_quantity 12 = .ok (.iaload, 1) := by decide +kernel
theorem dX5_quantity_13 : decode cX5_quantity 13 = .ok (.ireturn, 1) := by decide +kernel
theorem dX5_bids_0 : decode cX5_bids 0 = .ok (.iconst 0, 1) := by decide +kernel
theorem dX5_bids_1 : decode cX5_bids 1 = .ok (.istore_n 1, 1) := by decide +kernel
theorem dX5_bids_2 : decode cX5_bids 2 = .ok (.iconst 0, 1) := by decide +kernel
theorem dX5_bids_3 : decode cX5_bids 3 = .ok (.istore_n 2, 1) := by decide +kernel
theorem dX5_bids_4 : decode cX5_bids 4 = .ok (.iload_n 2, 1) := by decide +kernel
theorem dX5_bids_5 : decode cX5_bids 5 = .ok (.bipush 24, 2) := by decide +kernel
theorem dX5_bids_7 : decode cX5_bids 7 = .ok (.if_icmp .ge 25, 3) := by decide +kernel
theorem dX5_bids_10 : decode cX5_bids 10 = .ok (.iload_n 1, 1) := by decide +kernel
theorem dX5_bids_11 : decode cX5_bids 11 = .ok (.aload_n 0, 1) := by decide +kernel
theorem dX5_bids_12 : decode cX5_bids 12 = .ok (.iload_n 2, 1) := by decide +kernel
theorem dX5_bids_13 : decode cX5_bids 13 = .ok (.invokevirtual 147, 3) := by decide +kernel
theorem dX5_bids_16 : decode cX5_bids 16 = .ok (.ifCond .le 7, 3) := by decide +kernel
theorem dX5_bids_19 : decode cX5_bids 19 = .ok (.iconst 1, 1) := by decide +kernel
theorem dX5_bids_20 : decode cX5_bids 20 = .ok (.goto 4, 3) := by decide +kernel
theorem dX5_bids_23 : decode cX5_bids 23 = .ok (.iconst 0, 1) := by decide +kernel
theorem dX5_bids_24 : decode cX5_bids 24 = .ok (.iadd, 1) := by decide +kernel
theorem dX5_bids_25 : decode cX5_bids 25 = .ok (.istore_n 1, 1) := by decide +kernel
theorem dX5_bids_26 : decode cX5_bids 26 = .ok (.iinc 2 1, 3) := by decide +kernel
theorem dX5_bids_29 : decode cX5_bids 29 = .ok (.goto (-25), 3) := by decide +kernel
theorem dX5_bids_32 : decode cX5_bids 32 = .ok (.iload_n 1, 1) := by decide +kernel
theorem dX5_bids_33 : decode cX5_bids 33 = .ok (.ireturn, 1) := by decide +kernel
theorem dX5_places_0 : decode cX5_places 0 = .ok (.iload_n 1, 1) := by decide +kernel
theorem dX5_places_1 : decode cX5_places 1 = .ok (.invokestatic 150, 3) := by decide +kernel
theorem dX5_places_4 : decode cX5_places 4 = .ok (.ifCond .ne 5, 3) := by decide +kernel
theorem dX5_places_7 : decode cX5_places 7 = .ok (.iconst 1, 1) := by decide +kernel
theorem dX5_places_8 : decode cX5_places 8 = .ok (.ireturn, 1) := by decide +kernel
theorem dX5_places_9 : decode cX5_places 9 = .ok (.iload_n 2, 1) := by decide +kernel
theorem dX5_places_10 : decode cX5_places 10 = .ok (.iconst 1, 1) := by decide +kernel
theorem dX5_places_11 : decode cX5_places 11 = .ok (.bipush 50, 2) := by decide +kernel
theorem dX5_places_13 : decode cX5_places 13 = .ok (.invokestatic 53, 3) := by decide +kernel
theorem dX5_places_16 : decode cX5_places 16 = .ok (.ifCond .eq 14, 3) := by decide +kernel
theorem dX5_places_19 : decode cX5_places 19 = .ok (.iload_n 3, 1) := by decide +kernel
theorem dX5_places_20 : decode cX5_places 20 = .ok (.iconst 1, 1) := by decide +kernel
theorem dX5_places_21 : decode cX5_places 21 = .ok (.sipush 500, 3) := by decide +kernel
theorem dX5_places_24 : decode cX5_places 24 = .ok (.invokestatic 53, 3) := by decide +kernel
theorem dX5_places_27 : decode cX5_places 27 = .ok (.ifCond .ne 5, 3) := by decide +kernel
theorem dX5_places_30 : decode cX5_places 30 = .ok (.iconst 2, 1) := by decide +kernel
theorem dX5_places_31 : decode cX5_places 31 = .ok (.ireturn, 1) := by decide +kernel
theorem dX5_places_32 : decode cX5_places 32 = .ok (.aload_n 0, 1) := by decide +kernel
theorem dX5_places_33 : decode cX5_places 33 = .ok (.aload_n 0, 1) := by decide +kernel
theorem dX5_places_34 : decode cX5_places 34 = .ok (.iload_n 1, 1) := by decide +kernel
theorem dX5_places_35 : decode cX5_places 35 = .ok (.invokevirtual 147, 3) := by decide +kernel
theorem dX5_places_38 : decode cX5_places 38 = .ok (.ifCond .le 7, 3) := by decide +kernel
theorem dX5_places_41 : decode cX5_places 41 = .ok (.iconst 1, 1) := by decide +kernel
theorem dX5_places_42 : decode cX5_places 42 = .ok (.goto 4, 3) := by decide +kernel
theorem dX5_places_45 : decode cX5_places 45 = .ok (.iconst 0, 1) := by decide +kernel
theorem dX5_places_46 : decode cX5_places 46 = .ok (.bipush 8, 2) := by decide +kernel
theorem dX5_places_48 : decode cX5_places 48 = .ok (.aload_n 0, 1) := by decide +kernel
theorem dX5_places_49 : decode cX5_places 49 = .ok (.iload_n 1, 1) := by decide +kernel
theorem dX5_places_50 : decode cX5_places 50 = .ok (.invokevirtual 147, 3) := by decide +kernel
theorem dX5_places_53 : decode cX5_places 53 = .ok (.invokevirtual 84, 3) := by decide +kernel
theorem dX5_places_56 : decode cX5_places 56 = .ok (.ifCond .eq 5, 3) := by decide +kernel
theorem dX5_places_59 : decode cX5_places 59 = .ok (.iconst 3, 1) := by decide +kernel
theorem dX5_places_60 : decode cX5_places 60 = .ok (.ireturn, 1) := by decide +kernel
theorem dX5_places_61 : decode cX5_places 61 = .ok (.aload_n 0, 1) := by decide +kernel
theorem dX5_places_62 : decode cX5_places 62 = .ok (.getfield 9, 3) := by decide +kernel
theorem dX5_places_65 : decode cX5_places 65 = .ok (.bipush 9, 2) := by decide +kernel
theorem dX5_places_67 : decode cX5_places 67 = .ok (.iconst 2, 1) := by decide +kernel
theorem dX5_places_68 : decode cX5_places 68 = .ok (.iload_n 1, 1) := by decide +kernel
theorem dX5_places_69 : decode cX5_places 69 = .ok (.imul, 1) := by decide +kernel
theorem dX5_places_70 : decode cX5_places 70 = .ok (.iadd, 1) := by decide +kernel
theorem dX5_places_71 : decode cX5_places 71 = .ok (.iload_n 2, 1) := by decide +kernel
theorem dX5_places_72 : decode cX5_places 72 = .ok (.iastore, 1) := by decide +kernel
theorem dX5_places_73 : decode cX5_places 73 = .ok (.aload_n 0, 1) := by decide +kernel
theorem dX5_places_74 : decode cX5_places 74 = .ok (.getfield 9, 3) := by decide +kernel
theorem dX5_places_77 : decode cX5_places 77 = .ok (.bipush 9, 2) := by decide +kernel
theorem dX5_places_79 : decode cX5_places 79 = .ok (.iconst 2, 1) := by decide +kernel
theorem dX5_places_80 : decode cX5_places 80 = .ok (.iload_n 1, 1) := by decide +kernel
theorem dX5_places_81 : decode cX5_places 81 = .ok (.imul, 1) := by decide +kernel
theorem dX5_places_82 : decode cX5_places 82 = .ok (.iadd, 1) := by decide +kernel
theorem dX5_places_83 : decode cX5_places 83 = .ok (.iconst 1, 1) := by decide +kernel
theorem dX5_places_84 : decode cX5_places 84 = .ok (.iadd, 1) := by decide +kernel
theorem dX5_places_85 : decode cX5_places 85 = .ok (.iload_n 3, 1) := by decide +kernel
theorem dX5_places_86 : decode cX5_places 86 = .ok (.iastore, 1) := by decide +kernel
theorem dX5_places_87 : decode cX5_places 87 = .ok (.aload_n 0, 1) := by decide +kernel
theorem dX5_places_88 : decode cX5_places 88 = .ok (.aload_n 0, 1) := by decide +kernel
theorem dX5_places_89 : decode cX5_places 89 = .ok (.invokevirtual 153, 3) := by decide +kernel
theorem dX5_places_92 : decode cX5_places 92 = .ok (.putfield 37, 3) := by decide +kernel
theorem dX5_places_95 : decode cX5_places 95 = .ok (.iconst 0, 1) := by decide +kernel
theorem dX5_places_96 : decode cX5_places 96 = .ok (.ireturn, 1) := by decide +kernel
theorem dX5_placeBid_0 : decode cX5_placeBid 0 = .ok (.aload_n 0, 1) := by decide +kernel
theorem dX5_placeBid_1 : decode cX5_placeBid 1 = .ok (.invokevirtual 92, 3) := by decide +kernel
theorem dX5_placeBid_4 : decode cX5_placeBid 4 = .ok (.aload_n 0, 1) := by decide +kernel
theorem dX5_placeBid_5 : decode cX5_placeBid 5 = .ok (.aload_n 0, 1) := by decide +kernel
theorem dX5_placeBid_6 : decode cX5_placeBid 6 = .ok (.iload_n 1, 1) := by decide +kernel
theorem dX5_placeBid_7 : decode cX5_placeBid 7 = .ok (.iload_n 2, 1) := by decide +kernel
theorem dX5_placeBid_8 : decode cX5_placeBid 8 = .ok (.iload_n 3, 1) := by decide +kernel
theorem dX5_placeBid_9 : decode cX5_placeBid 9 = .ok (.invokevirtual 156, 3) := by decide +kernel
theorem dX5_placeBid_12 : decode cX5_placeBid 12 = .ok (.iconst 1, 1) := by decide +kernel
theorem dX5_placeBid_13 : decode cX5_placeBid 13 = .ok (.iconst 2, 1) := by decide +kernel
theorem dX5_placeBid_14 : decode cX5_placeBid 14 = .ok (.iconst 3, 1) := by decide +kernel
theorem dX5_placeBid_15 : decode cX5_placeBid 15 = .ok (.invokevirtual 99, 3) := by decide +kernel
theorem dX5_placeBid_18 : decode cX5_placeBid 18 = .ok (.ireturn, 1) := by decide +kernel
theorem dX5_withdraws_0 : decode cX5_withdraws 0 = .ok (.iload_n 1, 1) := by decide +kernel
theorem dX5_withdraws_1 : decode cX5_withdraws 1 = .ok (.invokestatic 150, 3) := by decide +kernel
theorem dX5_withdraws_4 : decode cX5_withdraws 4 = .ok (.ifCond .ne 5, 3) := by decide +kernel
theorem dX5_withdraws_7 : decode cX5_withdraws 7 = .ok (.iconst 1, 1) := by decide +kernel
theorem dX5_withdraws_8 : decode cX5_withdraws 8 = .ok (.ireturn, 1) := by decide +kernel
theorem dX5_withdraws_9 : decode cX5_withdraws 9 = .ok (.aload_n 0, 1) := by decide +kernel
theorem dX5_withdraws_10 : decode cX5_withdraws 10 = .ok (.aload_n 0, 1) := by decide +kernel
theorem dX5_withdraws_11 : decode cX5_withdraws 11 = .ok (.iload_n 1, 1) := by decide +kernel
theorem dX5_withdraws_12 : decode cX5_withdraws 12 = .ok (.invokevirtual 147, 3) := by decide +kernel
theorem dX5_withdraws_15 : decode cX5_withdraws 15 = .ok (.ifCond .ne 7, 3) := by decide +kernel
theorem dX5_withdraws_18 : decode cX5_withdraws 18 = .ok (.iconst 1, 1) := by decide +kernel
theorem dX5_withdraws_19 : decode cX5_withdraws 19 = .ok (.goto 4, 3) := by decide +kernel
theorem dX5_withdraws_22 : decode cX5_withdraws 22 = .ok (.iconst 0, 1) := by decide +kernel
theorem dX5_withdraws_23 : decode cX5_withdraws 23 = .ok (.bipush 9, 2) := by decide +kernel
theorem dX5_withdraws_25 : decode cX5_withdraws 25 = .ok (.aload_n 0, 1) := by decide +kernel
theorem dX5_withdraws_26 : decode cX5_withdraws 26 = .ok (.invokevirtual 153, 3) := by decide +kernel
theorem dX5_withdraws_29 : decode cX5_withdraws 29 = .ok (.invokevirtual 84, 3) := by decide +kernel
theorem dX5_withdraws_32 : decode cX5_withdraws 32 = .ok (.ifCond .eq 5, 3) := by decide +kernel
theorem dX5_withdraws_35 : decode cX5_withdraws 35 = .ok (.iconst 3, 1) := by decide +kernel
theorem dX5_withdraws_36 : decode cX5_withdraws 36 = .ok (.ireturn, 1) := by decide +kernel
theorem dX5_withdraws_37 : decode cX5_withdraws 37 = .ok (.aload_n 0, 1) := by decide +kernel
theorem dX5_withdraws_38 : decode cX5_withdraws 38 = .ok (.aload_n 0, 1) := by decide +kernel
theorem dX5_withdraws_39 : decode cX5_withdraws 39 = .ok (.iload_n 1, 1) := by decide +kernel
theorem dX5_withdraws_40 : decode cX5_withdraws 40 = .ok (.invokevirtual 159, 3) := by decide +kernel
theorem dX5_withdraws_43 : decode cX5_withdraws 43 = .ok (.putfield 37, 3) := by decide +kernel
theorem dX5_withdraws_46 : decode cX5_withdraws 46 = .ok (.aload_n 0, 1) := by decide +kernel
theorem dX5_withdraws_47 : decode cX5_withdraws 47 = .ok (.getfield 9, 3) := by decide +kernel
theorem dX5_withdraws_50 : decode cX5_withdraws 50 = .ok (.bipush 9, 2) := by decide +kernel
theorem dX5_withdraws_52 : decode cX5_withdraws 52 = .ok (.iconst 2, 1) := by decide +kernel
theorem dX5_withdraws_53 : decode cX5_withdraws 53 = .ok (.iload_n 1, 1) := by decide +kernel
theorem dX5_withdraws_54 : decode cX5_withdraws 54 = .ok (.imul, 1) := by decide +kernel
theorem dX5_withdraws_55 : decode cX5_withdraws 55 = .ok (.iadd, 1) := by decide +kernel
theorem dX5_withdraws_56 : decode cX5_withdraws 56 = .ok (.iconst 0, 1) := by decide +kernel
theorem dX5_withdraws_57 : decode cX5_withdraws 57 = .ok (.iastore, 1) := by decide +kernel
theorem dX5_withdraws_58 : decode cX5_withdraws 58 = .ok (.aload_n 0, 1) := by decide +kernel
theorem dX5_withdraws_59 : decode cX5_withdraws 59 = .ok (.getfield 9, 3) := by decide +kernel
theorem dX5_withdraws_62 : decode cX5_withdraws 62 = .ok (.bipush 9, 2) := by decide +kernel
theorem dX5_withdraws_64 : decode cX5_withdraws 64 = .ok (.iconst 2, 1) := by decide +kernel
theorem dX5_withdraws_65 : decode cX5_withdraws 65 = .ok (.iload_n 1, 1) := by decide +kernel
theorem dX5_withdraws_66 : decode cX5_withdraws 66 = .ok (.imul, 1) := by decide +kernel
theorem dX5_withdraws_67 : decode cX5_withdraws 67 = .ok (.iadd, 1) := by decide +kernel
theorem dX5_withdraws_68 : decode cX5_withdraws 68 = .ok (.iconst 1, 1) := by decide +kernel
theorem dX5_withdraws_69 : decode cX5_withdraws 69 = .ok (.iadd, 1) := by decide +kernel
theorem dX5_withdraws_70 : decode cX5_withdraws 70 = .ok (.iconst 0, 1) := by decide +kernel
theorem dX5_withdraws_71 : decode cX5_withdraws 71 = .ok (.iastore, 1) := by decide +kernel
theorem dX5_withdraws_72 : decode cX5_withdraws 72 = .ok (.iconst 0, 1) := by decide +kernel
theorem dX5_withdraws_73 : decode cX5_withdraws 73 = .ok (.ireturn, 1) := by decide +kernel
theorem dX5_withdrawBid_0 : decode cX5_withdrawBid 0 = .ok (.aload_n 0, 1) := by decide +kernel
theorem dX5_withdrawBid_1 : decode cX5_withdrawBid 1 = .ok (.invokevirtual 92, 3) := by decide +kernel
theorem dX5_withdrawBid_4 : decode cX5_withdrawBid 4 = .ok (.aload_n 0, 1) := by decide +kernel
theorem dX5_withdrawBid_5 : decode cX5_withdrawBid 5 = .ok (.aload_n 0, 1) := by decide +kernel
theorem dX5_withdrawBid_6 : decode cX5_withdrawBid 6 = .ok (.iload_n 1, 1) := by decide +kernel
theorem dX5_withdrawBid_7 : decode cX5_withdrawBid 7 = .ok (.invokevirtual 162, 3) := by decide +kernel
theorem dX5_withdrawBid_10 : decode cX5_withdrawBid 10 = .ok (.iconst 1, 1) := by decide +kernel
theorem dX5_withdrawBid_11 : decode cX5_withdrawBid 11 = .ok (.iconst 0, 1) := by decide +kernel
theorem dX5_withdrawBid_12 : decode cX5_withdrawBid 12 = .ok (.iconst 2, 1) := by decide +kernel
theorem dX5_withdrawBid_13 : decode cX5_withdrawBid 13 = .ok (.invokevirtual 99, 3) := by decide +kernel
theorem dX5_withdrawBid_16 : decode cX5_withdrawBid 16 = .ok (.ireturn, 1) := by decide +kernel
theorem dX5_passes_0 : decode cX5_passes 0 = .ok (.aload_n 0, 1) := by decide +kernel
theorem dX5_passes_1 : decode cX5_passes 1 = .ok (.getfield 9, 3) := by decide +kernel
theorem dX5_passes_4 : decode cX5_passes 4 = .ok (.iconst 4, 1) := by decide +kernel
theorem dX5_passes_5 : decode cX5_passes 5 = .ok (.iaload, 1) := by decide +kernel
theorem dX5_passes_6 : decode cX5_passes 6 = .ok (.bipush 24, 2) := by decide +kernel
theorem dX5_passes_8 : decode cX5_passes 8 = .ok (.irem, 1) := by decide +kernel
theorem dX5_passes_9 : decode cX5_passes 9 = .ok (.istore_n 1, 1) := by decide +kernel
theorem dX5_passes_10 : decode cX5_passes 10 = .ok (.aload_n 0, 1) := by decide +kernel
theorem dX5_passes_11 : decode cX5_passes 11 = .ok (.invokevirtual 129, 3) := by decide +kernel
theorem dX5_passes_14 : decode cX5_passes 14 = .ok (.istore_n 2, 1) := by decide +kernel
theorem dX5_passes_15 : decode cX5_passes 15 = .ok (.iload_n 2, 1) := by decide +kernel
theorem dX5_passes_16 : decode cX5_passes 16 = .ok (.bipush 20, 2) := by decide +kernel
theorem dX5_passes_18 : decode cX5_passes 18 = .ok (.idiv, 1) := by decide +kernel
theorem dX5_passes_19 : decode cX5_passes 19 = .ok (.istore_n 3, 1) := by decide +kernel
theorem dX5_passes_20 : decode cX5_passes 20 = .ok (.iload_n 2, 1) := by decide +kernel
theorem dX5_passes_21 : decode cX5_passes 21 = .ok (.iload_n 3, 1) := by decide +kernel
theorem dX5_passes_22 : decode cX5_passes 22 = .ok (.isub, 1) := by decide +kernel
theorem dX5_passes_23 : decode cX5_passes 23 = .ok (.istore 4, 2) := by decide +kernel
theorem dX5_passes_25 : decode cX5_passes 25 = .ok (.aload_n 0, 1) := by decide +kernel
theorem dX5_passes_26 : decode cX5_passes 26 = .ok (.iload_n 1, 1) := by decide +kernel
theorem dX5_passes_27 : decode cX5_passes 27 = .ok (.invokevirtual 159, 3) := by decide +kernel
theorem dX5_passes_30 : decode cX5_passes 30 = .ok (.istore 5, 2) := by decide +kernel
theorem dX5_passes_32 : decode cX5_passes 32 = .ok (.iload 4, 2) := by decide +kernel
theorem dX5_passes_34 : decode cX5_passes 34 = .ok (.iload 5, 2) := by decide +kernel
theorem dX5_passes_36 : decode cX5_passes 36 = .ok (.if_icmp .ge 8, 3) := by decide +kernel
theorem dX5_passes_39 : decode cX5_passes 39 = .ok (.iload 4, 2) := by decide +kernel
theorem dX5_passes_41 : decode cX5_passes 41 = .ok (.goto 5, 3) := by decide +kernel
theorem dX5_passes_44 : decode cX5_passes 44 = .ok (.iload 5, 2) := by decide +kernel
theorem dX5_passes_46 : decode cX5_passes 46 = .ok (.istore 6, 2) := by decide +kernel
theorem dX5_passes_48 : decode cX5_passes 48 = .ok (.aload_n 0, 1) := by decide +kernel
theorem dX5_passes_49 : decode cX5_passes 49 = .ok (.getfield 9, 3) := by decide +kernel
theorem dX5_passes_52 : decode cX5_passes 52 = .ok (.iconst 5, 1) := by decide +kernel
theorem dX5_passes_53 : decode cX5_passes 53 = .ok (.dup2, 1) := by decide +kernel
theorem dX5_passes_54 : decode cX5_passes 54 = .ok (.iaload, 1) := by decide +kernel
theorem dX5_passes_55 : decode cX5_passes 55 = .ok (.iload_n 2, 1) := by decide +kernel
theorem dX5_passes_56 : decode cX5_passes 56 = .ok (.iadd, 1) := by decide +kernel
theorem dX5_passes_57 : decode cX5_passes 57 = .ok (.iastore, 1) := by decide +kernel
theorem dX5_passes_58 : decode cX5_passes 58 = .ok (.aload_n 0, 1) := by decide +kernel
theorem dX5_passes_59 : decode cX5_passes 59 = .ok (.getfield 9, 3) := by decide +kernel
theorem dX5_passes_62 : decode cX5_passes 62 = .ok (.bipush 6, 2) := by decide +kernel
theorem dX5_passes_64 : decode cX5_passes 64 = .ok (.dup2, 1) := by decide +kernel
theorem dX5_passes_65 : decode cX5_passes 65 = .ok (.iaload, 1) := by decide +kernel
theorem dX5_passes_66 : decode cX5_passes 66 = .ok (.iload_n 3, 1) := by decide +kernel
theorem dX5_passes_67 : decode cX5_passes 67 = .ok (.iadd, 1) := by decide +kernel
theorem dX5_passes_68 : decode cX5_passes 68 = .ok (.iastore, 1) := by decide +kernel
theorem dX5_passes_69 : decode cX5_passes 69 = .ok (.aload_n 0, 1) := by decide +kernel
theorem dX5_passes_70 : decode cX5_passes 70 = .ok (.getfield 9, 3) := by decide +kernel
theorem dX5_passes_73 : decode cX5_passes 73 = .ok (.bipush 7, 2) := by decide +kernel
theorem dX5_passes_75 : decode cX5_passes 75 = .ok (.dup2, 1) := by decide +kernel
theorem dX5_passes_76 : decode cX5_passes 76 = .ok (.iaload, 1) := by decide +kernel
theorem dX5_passes_77 : decode cX5_passes 77 = .ok (.iload 6, 2) := by decide +kernel
theorem dX5_passes_79 : decode cX5_passes 79 = .ok (.iadd, 1) := by decide +kernel
theorem dX5_passes_80 : decode cX5_passes 80 = .ok (.iastore, 1) := by decide +kernel
theorem dX5_passes_81 : decode cX5_passes 81 = .ok (.aload_n 0, 1) := by decide +kernel
theorem dX5_passes_82 : decode cX5_passes 82 = .ok (.getfield 9, 3) := by decide +kernel
theorem dX5_passes_85 : decode cX5_passes 85 = .ok (.bipush 8, 2) := by decide +kernel
theorem dX5_passes_87 : decode cX5_passes 87 = .ok (.dup2, 1) := by decide +kernel
theorem dX5_passes_88 : decode cX5_passes 88 = .ok (.iaload, 1) := by decide +kernel
theorem dX5_passes_89 : decode cX5_passes 89 = .ok (.iload 6, 2) := by decide +kernel
theorem dX5_passes_91 : decode cX5_passes 91 = .ok (.aload_n 0, 1) := by decide +kernel
theorem dX5_passes_92 : decode cX5_passes 92 = .ok (.iload_n 1, 1) := by decide +kernel
theorem dX5_passes_93 : decode cX5_passes 93 = .ok (.invokevirtual 147, 3) := by decide +kernel
theorem dX5_passes_96 : decode cX5_passes 96 = .ok (.imul, 1) := by decide +kernel
theorem dX5_passes_97 : decode cX5_passes 97 = .ok (.iload 5, 2) := by decide +kernel
theorem dX5_passes_99 : decode cX5_passes 99 = .ok (.iload 6, 2) := by decide +kernel
theorem dX5_passes_101 : decode cX5_passes 101 = .ok (.isub, 1) := by decide +kernel
theorem dX5_passes_102 : decode cX5_passes 102 = .ok (.aload_n 0, 1) := by decide +kernel
theorem dX5_passes_103 : decode cX5_passes 103 = .ok (.iload_n 1, 1) := by decide +kernel
theorem dX5_passes_104 : decode cX5_passes 104 = .ok (.invokevirtual 147, 3) := by decide +kernel
theorem dX5_passes_107 : decode cX5_passes 107 = .ok (.imul, 1) := by decide +kernel
theorem dX5_passes_108 : decode cX5_passes 108 = .ok (.isub, 1) := by decide +kernel
theorem dX5_passes_109 : decode cX5_passes 109 = .ok (.iadd, 1) := by decide +kernel
theorem dX5_passes_110 : decode cX5_passes 110 = .ok (.iastore, 1) := by decide +kernel
theorem dX5_passes_111 : decode cX5_passes 111 = .ok (.iconst 0, 1) := by decide +kernel
theorem dX5_passes_112 : decode cX5_passes 112 = .ok (.istore 7, 2) := by decide +kernel
theorem dX5_passes_114 : decode cX5_passes 114 = .ok (.iload 7, 2) := by decide +kernel
theorem dX5_passes_116 : decode cX5_passes 116 = .ok (.aload_n 0, 1) := by decide +kernel
theorem dX5_passes_117 : decode cX5_passes 117 = .ok (.getfield 9, 3) := by decide +kernel
theorem dX5_passes_120 : decode cX5_passes 120 = .ok (.iconst 0, 1) := by decide +kernel
theorem dX5_passes_121 : decode cX5_passes 121 = .ok (.iaload, 1) := by decide +kernel
theorem dX5_passes_122 : decode cX5_passes 122 = .ok (.if_icmp .ge 61, 3) := by decide +kernel
theorem dX5_passes_125 : decode cX5_passes 125 = .ok (.aload_n 0, 1) := by decide +kernel
theorem dX5_passes_126 : decode cX5_passes 126 = .ok (.iload 7, 2) := by decide +kernel
theorem dX5_passes_128 : decode cX5_passes 128 = .ok (.iconst 3, 1) := by decide +kernel
theorem dX5_passes_129 : decode cX5_passes 129 = .ok (.invokevirtual 57, 3) := by decide +kernel
theorem dX5_passes_132 : decode cX5_passes 132 = .ok (.iconst 2, 1) := by decide +kernel
theorem dX5_passes_133 : decode cX5_passes 133 = .ok (.if_icmp .eq 6, 3) := by decide +kernel
theorem dX5_passes_136 : decode cX5_passes 136 = .ok (.goto 41, 3) := by decide +kernel
theorem dX5_passes_139 : decode cX5_passes 139 = .ok (.aload_n 0, 1) := by decide +kernel
theorem dX5_passes_140 : decode cX5_passes 140 = .ok (.iload 7, 2) := by decide +kernel
theorem dX5_passes_142 : decode cX5_passes 142 = .ok (.iconst 4, 1) := by decide +kernel
theorem dX5_passes_143 : decode cX5_passes 143 = .ok (.aload_n 0, 1) := by decide +kernel
theorem dX5_passes_144 : decode cX5_passes 144 = .ok (.iload 7, 2) := by decide +kernel
theorem dX5_passes_146 : decode cX5_passes 146 = .ok (.iconst 4, 1) := by decide +kernel
theorem dX5_passes_147 : decode cX5_passes 147 = .ok (.invokevirtual 57, 3) := by decide +kernel
theorem dX5_passes_150 : decode cX5_passes 150 = .ok (.iconst 1, 1) := by decide +kernel
theorem dX5_passes_151 : decode cX5_passes 151 = .ok (.isub, 1) := by decide +kernel
theorem dX5_passes_152 : decode cX5_passes 152 = .ok (.invokevirtual 88, 3) := by decide +kernel
theorem dX5_passes_155 : decode cX5_passes 155 = .ok (.aload_n 0, 1) := by decide +kernel
theorem dX5_passes_156 : decode cX5_passes 156 = .ok (.iload 7, 2) := by decide +kernel
theorem dX5_passes_158 : decode cX5_passes 158 = .ok (.iconst 3, 1) := by decide +kernel
theorem dX5_passes_159 : decode cX5_passes 159 = .ok (.aload_n 0, 1) := by decide +kernel
theorem dX5_passes_160 : decode cX5_passes 160 = .ok (.iload 7, 2) := by decide +kernel
theorem dX5_passes_162 : decode cX5_passes 162 = .ok (.iconst 4, 1) := by decide +kernel
theorem dX5_passes_163 : decode cX5_passes 163 = .ok (.invokevirtual 57, 3) := by decide +kernel
theorem dX5_passes_166 : decode cX5_passes 166 = .ok (.ifCond .ne 7, 3) := by decide +kernel
theorem dX5_passes_169 : decode cX5_passes 169 = .ok (.iconst 0, 1) := by decide +kernel
theorem dX5_passes_170 : decode cX5_passes 170 = .ok (.goto 4, 3) := by decide +kernel
theorem dX5_passes_173 : decode cX5_passes 173 = .ok (.iconst 2, 1) := by decide +kernel
theorem dX5_passes_174 : decode cX5_passes 174 = .ok (.invokevirtual 88, 3) := by decide +kernel
theorem dX5_passes_177 : decode cX5_passes 177 = .ok (.iinc 7 1, 3) := by decide +kernel
theorem dX5_passes_180 : decode cX5_passes 180 = .ok (.goto (-66), 3) := by decide +kernel
theorem dX5_passes_183 : decode cX5_passes 183 = .ok (.aload_n 0, 1) := by decide +kernel
theorem dX5_passes_184 : decode cX5_passes 184 = .ok (.getfield 9, 3) := by decide +kernel
theorem dX5_passes_187 : decode cX5_passes 187 = .ok (.iconst 4, 1) := by decide +kernel
theorem dX5_passes_188 : decode cX5_passes 188 = .ok (.dup2, 1) := by decide +kernel
theorem dX5_passes_189 : decode cX5_passes 189 = .ok (.iaload, 1) := by decide +kernel
theorem dX5_passes_190 : decode cX5_passes 190 = .ok (.iconst 1, 1) := by decide +kernel
theorem dX5_passes_191 : decode cX5_passes 191 = .ok (.iadd, 1) := by decide +kernel
theorem dX5_passes_192 : decode cX5_passes 192 = .ok (.iastore, 1) := by decide +kernel
theorem dX5_passes_193 : decode cX5_passes 193 = .ok (.return_, 1) := by decide +kernel
theorem dX5_passesHours_0 : decode cX5_passesHours 0 = .ok (.iload_n 1, 1) := by decide +kernel
theorem dX5_passesHours_1 : decode cX5_passesHours 1 = .ok (.iconst 1, 1) := by decide +kernel
theorem dX5_passesHours_2 : decode cX5_passesHours 2 = .ok (.bipush 48, 2) := by decide +kernel
theorem dX5_passesHours_4 : decode cX5_passesHours 4 = .ok (.invokestatic 53, 3) := by decide +kernel
theorem dX5_passesHours_7 : decode cX5_passesHours 7 = .ok (.ifCond .ne 5, 3) := by decide +kernel
theorem dX5_passesHours_10 : decode cX5_passesHours 10 = .ok (.iconst 2, 1) := by decide +kernel
theorem dX5_passesHours_11 : decode cX5_passesHours 11 = .ok (.ireturn, 1) := by decide +kernel
theorem dX5_passesHours_12 : decode cX5_passesHours 12 = .ok (.aload_n 0, 1) := by decide +kernel
theorem dX5_passesHours_13 : decode cX5_passesHours 13 = .ok (.getfield 9, 3) := by decide +kernel
theorem dX5_passesHours_16 : decode cX5_passesHours 16 = .ok (.bipush 7, 2) := by decide +kernel
theorem dX5_passesHours_18 : decode cX5_passesHours 18 = .ok (.iaload, 1) := by decide +kernel
theorem dX5_passesHours_19 : decode cX5_passesHours 19 = .ok (.istore_n 2, 1) := by decide +kernel
theorem dX5_passesHours_20 : decode cX5_passesHours 20 = .ok (.iconst 0, 1) := by decide +kernel
theorem dX5_passesHours_21 : decode cX5_passesHours 21 = .ok (.istore_n 3, 1) := by decide +kernel
theorem dX5_passesHours_22 : decode cX5_passesHours 22 = .ok (.iload_n 3, 1) := by decide +kernel
theorem dX5_passesHours_23 : decode cX5_passesHours 23 = .ok (.iload_n 1, 1) := by decide +kernel
theorem dX5_passesHours_24 : decode cX5_passesHours 24 = .ok (.if_icmp .ge 13, 3) := by decide +kernel
theorem dX5_passesHours_27 : decode cX5_passesHours 27 = .ok (.aload_n 0, 1) := by decide +kernel
theorem dX5_passesHours_28 : decode cX5_passesHours 28 = .ok (.invokevirtual 165, 3) := by decide +kernel
theorem dX5_passesHours_31 : decode cX5_passesHours 31 = .ok (.iinc 3 1, 3) := by decide +kernel
theorem dX5_passesHours_34 : decode cX5_passesHours 34 = .ok (.goto (-12), 3) := by decide +kernel
theorem dX5_passesHours_37 : decode cX5_passesHours 37 = .ok (.aload_n 0, 1) := by decide +kernel
theorem dX5_passesHours_38 : decode cX5_passesHours 38 = .ok (.aload_n 0, 1) := by decide +kernel
theorem dX5_passesHours_39 : decode cX5_passesHours 39 = .ok (.getfield 9, 3) := by decide +kernel
theorem dX5_passesHours_42 : decode cX5_passesHours 42 = .ok (.bipush 7, 2) := by decide +kernel
theorem dX5_passesHours_44 : decode cX5_passesHours 44 = .ok (.iaload, 1) := by decide +kernel
theorem dX5_passesHours_45 : decode cX5_passesHours 45 = .ok (.iload_n 2, 1) := by decide +kernel
theorem dX5_passesHours_46 : decode cX5_passesHours 46 = .ok (.isub, 1) := by decide +kernel
theorem dX5_passesHours_47 : decode cX5_passesHours 47 = .ok (.putfield 37, 3) := by decide +kernel
theorem dX5_passesHours_50 : decode cX5_passesHours 50 = .ok (.iconst 0, 1) := by decide +kernel
theorem dX5_passesHours_51 : decode cX5_passesHours 51 = .ok (.ireturn, 1) := by decide +kernel
theorem dX5_passHours_0 : decode cX5_passHours 0 = .ok (.aload_n 0, 1) := by decide +kernel
theorem dX5_passHours_1 : decode cX5_passHours 1 = .ok (.invokevirtual 92, 3) := by decide +kernel
theorem dX5_passHours_4 : decode cX5_passHours 4 = .ok (.aload_n 0, 1) := by decide +kernel
theorem dX5_passHours_5 : decode cX5_passHours 5 = .ok (.aload_n 0, 1) := by decide +kernel
theorem dX5_passHours_6 : decode cX5_passHours 6 = .ok (.iload_n 1, 1) := by decide +kernel
theorem dX5_passHours_7 : decode cX5_passHours 7 = .ok (.invokevirtual 168, 3) := by decide +kernel
theorem dX5_passHours_10 : decode cX5_passHours 10 = .ok (.iconst 0, 1) := by decide +kernel
theorem dX5_passHours_11 : decode cX5_passHours 11 = .ok (.iconst 1, 1) := by decide +kernel
theorem dX5_passHours_12 : decode cX5_passHours 12 = .ok (.iconst 0, 1) := by decide +kernel
theorem dX5_passHours_13 : decode cX5_passHours 13 = .ok (.invokevirtual 99, 3) := by decide +kernel
theorem dX5_passHours_16 : decode cX5_passHours 16 = .ok (.ireturn, 1) := by decide +kernel
theorem dX5_turbineCount_0 : decode cX5_turbineCount 0 = .ok (.aload_n 0, 1) := by decide +kernel
theorem dX5_turbineCount_1 : decode cX5_turbineCount 1 = .ok (.iconst 0, 1) := by decide +kernel
theorem dX5_turbineCount_2 : decode cX5_turbineCount 2 = .ok (.putfield 27, 3) := by decide +kernel
theorem dX5_turbineCount_5 : decode cX5_turbineCount 5 = .ok (.aload_n 0, 1) := by decide +kernel
theorem dX5_turbineCount_6 : decode cX5_turbineCount 6 = .ok (.getfield 9, 3) := by decide +kernel
theorem dX5_turbineCount_9 : decode cX5_turbineCount 9 = .ok (.iconst 0, 1) := by decide +kernel
theorem dX5_turbineCount_10 : decode cX5_turbineCount 10 = .ok (.iaload, 1) := by decide +kernel
theorem dX5_turbineCount_11 : decode cX5_turbineCount 11 = .ok (.ireturn, 1) := by decide +kernel
theorem dX5_turbineAt_0 : decode cX5_turbineAt 0 = .ok (.aload_n 0, 1) := by decide +kernel
theorem dX5_turbineAt_1 : decode cX5_turbineAt 1 = .ok (.iload_n 1, 1) := by decide +kernel
theorem dX5_turbineAt_2 : decode cX5_turbineAt 2 = .ok (.iload_n 2, 1) := by decide +kernel
theorem dX5_turbineAt_3 : decode cX5_turbineAt 3 = .ok (.invokevirtual 61, 3) := by decide +kernel
theorem dX5_turbineAt_6 : decode cX5_turbineAt 6 = .ok (.istore_n 3, 1) := by decide +kernel
theorem dX5_turbineAt_7 : decode cX5_turbineAt 7 = .ok (.aload_n 0, 1) := by decide +kernel
theorem dX5_turbineAt_8 : decode cX5_turbineAt 8 = .ok (.iload_n 1, 1) := by decide +kernel
theorem dX5_turbineAt_9 : decode cX5_turbineAt 9 = .ok (.iload_n 2, 1) := by decide +kernel
theorem dX5_turbineAt_10 : decode cX5_turbineAt 10 = .ok (.invokestatic 80, 3) := by decide +kernel
theorem dX5_turbineAt_13 : decode cX5_turbineAt 13 = .ok (.ifCond .ne 7, 3) := by decide +kernel
theorem dX5_turbineAt_16 : decode cX5_turbineAt 16 = .ok (.iconst 1, 1) := by decide +kernel
theorem dX5_turbineAt_17 : decode cX5_turbineAt 17 = .ok (.goto 12, 3) := by decide +kernel
theorem dX5_turbineAt_20 : decode cX5_turbineAt 20 = .ok (.iload_n 3, 1) := by decide +kernel
theorem dX5_turbineAt_21 : decode cX5_turbineAt 21 = .ok (.ifCond .ge 7, 3) := by decide +kernel
theorem dX5_turbineAt_24 : decode cX5_turbineAt 24 = .ok (.iconst 2, 1) := by decide +kernel
theorem dX5_turbineAt_25 : decode cX5_turbineAt 25 = .ok (.goto 4, 3) := by decide +kernel
theorem dX5_turbineAt_28 : decode cX5_turbineAt 28 = .ok (.iconst 0, 1) := by decide +kernel
theorem dX5_turbineAt_29 : decode cX5_turbineAt 29 = .ok (.putfield 27, 3) := by decide +kernel
theorem dX5_turbineAt_32 : decode cX5_turbineAt 32 = .ok (.aload_n 0, 1) := by decide +kernel
theorem dX5_turbineAt_33 : decode cX5_turbineAt 33 = .ok (.getfield 27, 3) := by decide +kernel
theorem dX5_turbineAt_36 : decode cX5_turbineAt 36 = .ok (.ifCond .ne 7, 3) := by decide +kernel
theorem dX5_turbineAt_39 : decode cX5_turbineAt 39 = .ok (.iload_n 3, 1) := by decide +kernel
theorem dX5_turbineAt_40 : decode cX5_turbineAt 40 = .ok (.goto 4, 3) := by decide +kernel
theorem dX5_turbineAt_43 : decode cX5_turbineAt 43 = .ok (.iconst 0, 1) := by decide +kernel
theorem dX5_turbineAt_44 : decode cX5_turbineAt 44 = .ok (.ireturn, 1) := by decide +kernel
theorem dX5_ofTurbine_0 : decode cX5_ofTurbine 0 = .ok (.aload_n 0, 1) := by decide +kernel
theorem dX5_ofTurbine_1 : decode cX5_ofTurbine 1 = .ok (.aload_n 0, 1) := by decide +kernel
theorem dX5_ofTurbine_2 : decode cX5_ofTurbine 2 = .ok (.iload_n 1, 1) := by decide +kernel
theorem dX5_ofTurbine_3 : decode cX5_ofTurbine 3 = .ok (.invokevirtual 103, 3) := by decide +kernel
theorem dX5_ofTurbine_6 : decode cX5_ofTurbine 6 = .ok (.invokevirtual 49, 3) := by decide +kernel
theorem dX5_ofTurbine_9 : decode cX5_ofTurbine 9 = .ok (.ifCond .eq 12, 3) := by decide +kernel
theorem dX5_ofTurbine_12 : decode cX5_ofTurbine 12 = .ok (.aload_n 0, 1) := by decide +kernel
theorem dX5_ofTurbine_13 : decode cX5_ofTurbine 13 = .ok (.iload_n 1, 1) := by decide +kernel
theorem dX5_ofTurbine_14 : decode cX5_ofTurbine 14 = .ok (.iload_n 2, 1) := by decide +kernel
theorem dX5_ofTurbine_15 : decode cX5_ofTurbine 15 = .ok (.invokevirtual 57, 3) := by decide +kernel
theorem dX5_ofTurbine_18 : decode cX5_ofTurbine 18 = .ok (.goto 4, 3) := by decide +kernel
theorem dX5_ofTurbine_21 : decode cX5_ofTurbine 21 = .ok (.iconst 0, 1) := by decide +kernel
theorem dX5_ofTurbine_22 : decode cX5_ofTurbine 22 = .ok (.ireturn, 1) := by decide +kernel
theorem dX5_rowOf_0 : decode cX5_rowOf 0 = .ok (.aload_n 0, 1) := by decide +kernel
theorem dX5_rowOf_1 : decode cX5_rowOf 1 = .ok (.iload_n 1, 1) := by decide +kernel
theorem dX5_rowOf_2 : decode cX5_rowOf 2 = .ok (.iconst 0, 1) := by decide +kernel
theorem dX5_rowOf_3 : decode cX5_rowOf 3 = .ok (.invokevirtual 171, 3) := by decide +kernel
theorem dX5_rowOf_6 : decode cX5_rowOf 6 = .ok (.ireturn, 1) := by decide +kernel
theorem dX5_columnOf_0 : decode cX5_columnOf 0 = .ok (.aload_n 0, 1) := by decide +kernel
theorem dX5_columnOf_1 : decode cX5_columnOf 1 = .ok (.iload_n 1, 1) := by decide +kernel
theorem dX5_columnOf_2 : decode cX5_columnOf 2 = .ok (.iconst 1, 1) := by decide +kernel
theorem dX5_columnOf_3 : decode cX5_columnOf 3 = .ok (.invokevirtual 171, 3) := by decide +kernel
theorem dX5_columnOf_6 : decode cX5_columnOf 6 = .ok (.ireturn, 1) := by decide +kernel
theorem dX5_ratedPower_0 : decode cX5_ratedPower 0 = .ok (.aload_n 0, 1) := by decide +kernel
theorem dX5_ratedPower_1 : decode cX5_ratedPower 1 = .ok (.iload_n 1, 1) := by decide +kernel
theorem dX5_ratedPower_2 : decode cX5_ratedPower 2 = .ok (.iconst 2, 1) := by decide +kernel
theorem dX5_ratedPower_3 : decode cX5_ratedPower 3 = .ok (.invokevirtual 171, 3) := by decide +kernel
theorem dX5_ratedPower_6 : decode cX5_ratedPower 6 = .ok (.ireturn, 1) := by decide +kernel
theorem dX5_isRunning_0 : decode cX5_isRunning 0 = .ok (.aload_n 0, 1) := by decide +kernel
theorem dX5_isRunning_1 : decode cX5_isRunning 1 = .ok (.aload_n 0, 1) := by decide +kernel
theorem dX5_isRunning_2 : decode cX5_isRunning 2 = .ok (.iload_n 1, 1) := by decide +kernel
theorem dX5_isRunning_3 : decode cX5_isRunning 3 = .ok (.invokevirtual 103, 3) := by decide +kernel
theorem dX5_isRunning_6 : decode cX5_isRunning 6 = .ok (.invokevirtual 49, 3) := by decide +kernel
theorem dX5_isRunning_9 : decode cX5_isRunning 9 = .ok (.ifCond .eq 16, 3) := by decide +kernel
theorem dX5_isRunning_12 : decode cX5_isRunning 12 = .ok (.aload_n 0, 1) := by decide +kernel
theorem dX5_isRunning_13 : decode cX5_isRunning 13 = .ok (.iload_n 1, 1) := by decide +kernel
theorem dX5_isRunning_14 : decode cX5_isRunning 14 = .ok (.iconst 3, 1) := by decide +kernel
theorem dX5_isRunning_15 : decode cX5_isRunning 15 = .ok (.invokevirtual 57, 3) := by decide +kernel
theorem dX5_isRunning_18 : decode cX5_isRunning 18 = .ok (.ifCond .ne 7, 3) := by decide +kernel
theorem dX5_isRunning_21 : decode cX5_isRunning 21 = .ok (.iconst 1, 1) := by decide +kernel
theorem dX5_isRunning_22 : decode cX5_isRunning 22 = .ok (.goto 4, 3) := by decide +kernel
theorem dX5_isRunning_25 : decode cX5_isRunning 25 = .ok (.iconst 0, 1) := by decide +kernel
theorem dX5_isRunning_26 : decode cX5_isRunning 26 = .ok (.ireturn, 1) := by decide +kernel
theorem dX5_isFailed_0 : decode cX5_isFailed 0 = .ok (.aload_n 0, 1) := by decide +kernel
theorem dX5_isFailed_1 : decode cX5_isFailed 1 = .ok (.iload_n 1, 1) := by decide +kernel
theorem dX5_isFailed_2 : decode cX5_isFailed 2 = .ok (.iconst 3, 1) := by decide +kernel
theorem dX5_isFailed_3 : decode cX5_isFailed 3 = .ok (.invokevirtual 171, 3) := by decide +kernel
theorem dX5_isFailed_6 : decode cX5_isFailed 6 = .ok (.iconst 1, 1) := by decide +kernel
theorem dX5_isFailed_7 : decode cX5_isFailed 7 = .ok (.if_icmp .ne 7, 3) := by decide +kernel
theorem dX5_isFailed_10 : decode cX5_isFailed 10 = .ok (.iconst 1, 1) := by decide +kernel
theorem dX5_isFailed_11 : decode cX5_isFailed 11 = .ok (.goto 4, 3) := by decide +kernel
theorem dX5_isFailed_14 : decode cX5_isFailed 14 = .ok (.iconst 0, 1) := by decide +kernel
theorem dX5_isFailed_15 : decode cX5_isFailed 15 = .ok (.ireturn, 1) := by decide +kernel
theorem dX5_isInService_0 : decode cX5_isInService 0 = .ok (.aload_n 0, 1) := by decide +kernel
theorem dX5_isInService_1 : decode cX5_isInService 1 = .ok (.iload_n 1, 1) := by decide +kernel
theorem dX5_isInService_2 : decode cX5_isInService 2 = .ok (.iconst 3, 1) := by decide +kernel
theorem dX5_isInService_3 : decode cX5_isInService 3 = .ok (.invokevirtual 171, 3) := by decide +kernel
theorem dX5_isInService_6 : decode cX5_isInService 6 = .ok (.iconst 2, 1) := by decide +kernel
theorem dX5_isInService_7 : decode cX5_isInService 7 = .ok (.if_icmp .ne 7, 3) := by decide +kernel
theorem dX5_isInService_10 : decode cX5_isInService 10 = .ok (.iconst 1, 1) := by decide +kernel
theorem dX5_isInService_11 : decode cX5_isInService 11 = .ok (.goto 4, 3) := by decide +kernel
theorem dX5_isInService_14 : decode cX5_isInService 14 = .ok (.iconst 0, 1) := by decide +kernel
theorem dX5_isInService_15 : decode cX5_isInService 15 = .ok (.ireturn, 1) := by decide +kernel
theorem dX5_limitOf_0 : decode cX5_limitOf 0 = .ok (.aload_n 0, 1) := by decide +kernel
theorem dX5_limitOf_1 : decode cX5_limitOf 1 = .ok (.aload_n 0, 1) := by decide +kernel
theorem dX5_limitOf_2 : decode cX5_limitOf 2 = .ok (.iload_n 1, 1) := by decide +kernel
theorem dX5_limitOf_3 : decode cX5_limitOf 3 = .ok (.invokevirtual 103, 3) := by decide +kernel
theorem dX5_limitOf_6 : decode cX5_limitOf 6 = .ok (.ifCond .ne 7, 3) := by decide +kernel
theorem dX5_limitOf_9 : decode cX5_limitOf 9 = .ok (.iconst 1, 1) := by decide +kernel
theorem dX5_limitOf_10 : decode cX5_limitOf 10 = .ok (.goto 17, 3) := by decide +kernel
theorem dX5_limitOf_13 : decode cX5_limitOf 13 = .ok (.aload_n 0, 1) := by decide +kernel
theorem dX5_limitOf_14 : decode cX5_limitOf 14 = .ok (.iload_n 1, 1) := by decide +kernel
theorem dX5_limitOf_15 : decode cX5_limitOf 15 = .ok (.iconst 5, 1) := by decide +kernel
theorem dX5_limitOf_16 : decode cX5_limitOf 16 = .ok (.invokevirtual 57, 3) := by decide +kernel
theorem dX5_limitOf_19 : decode cX5_limitOf 19 = .ok (.ifCond .ne 7, 3) := by decide +kernel
theorem dX5_limitOf_22 : decode cX5_limitOf 22 = .ok (.iconst 2, 1) := by decide +kernel
theorem dX5_limitOf_23 : decode cX5_limitOf 23 = .ok (.goto 4, 3) := by decide +kernel
theorem dX5_limitOf_26 : decode cX5_limitOf 26 = .ok (.iconst 0, 1) := by decide +kernel
theorem dX5_limitOf_27 : decode cX5_limitOf 27 = .ok (.putfield 27, 3) := by decide +kernel
theorem dX5_limitOf_30 : decode cX5_limitOf 30 = .ok (.aload_n 0, 1) := by decide +kernel
theorem dX5_limitOf_31 : decode cX5_limitOf 31 = .ok (.getfield 27, 3) := by decide +kernel
theorem dX5_limitOf_34 : decode cX5_limitOf 34 = .ok (.ifCond .ne 14, 3) := by decide +kernel
theorem dX5_limitOf_37 : decode cX5_limitOf 37 = .ok (.aload_n 0, 1) := by decide +kernel
theorem dX5_limitOf_38 : decode cX5_limitOf 38 = .ok (.iload_n 1, 1) := by decide +kernel
theorem dX5_limitOf_39 : decode cX5_limitOf 39 = .ok (.iconst 5, 1) := by decide +kernel
theorem dX5_limitOf_40 : decode cX5_limitOf 40 = .ok (.invokevirtual 57, 3) := by decide +kernel
theorem dX5_limitOf_43 : decode cX5_limitOf 43 = .ok (.iconst 1, 1) := by decide +kernel
theorem dX5_limitOf_44 : decode cX5_limitOf 44 = .ok (.isub, 1) := by decide +kernel
theorem dX5_limitOf_45 : decode cX5_limitOf 45 = .ok (.goto 4, 3) := by decide +kernel
theorem dX5_limitOf_48 : decode cX5_limitOf 48 = .ok (.iconst 0, 1) := by decide +kernel
theorem dX5_limitOf_49 : decode cX5_limitOf 49 = .ok (.ireturn, 1) := by decide +kernel
theorem dX5_serviceHoursLeft_0 : decode cX5_serviceHoursLeft 0 = .ok (.aload_n 0, 1) := by decide +kernel
theorem dX5_serviceHoursLeft_1 : decode cX5_serviceHoursLeft 1 = .ok (.aload_n 0, 1) := by decide +kernel
theorem dX5_serviceHoursLeft_2 : decode cX5_serviceHoursLeft 2 = .ok (.iload_n 1, 1) := by decide +kernel
theorem dX5_serviceHoursLeft_3 : decode cX5_serviceHoursLeft 3 = .ok (.invokevirtual 103, 3) := by decide +kernel
theorem dX5_serviceHoursLeft_6 : decode cX5_serviceHoursLeft 6 = .ok (.ifCond .ne 7, 3) := by decide +kernel
theorem dX5_serviceHoursLeft_9 : decode cX5_serviceHoursLeft 9 = .ok (.iconst 1, 1) := by decide +kernel
theorem dX5_serviceHoursLeft_10 : decode cX5_serviceHoursLeft 10 = .ok (.goto 18, 3) := by decide +kernel
theorem dX5_serviceHoursLeft_13 : decode cX5_serviceHoursLeft 13 = .ok (.aload_n 0, 1) := by decide +kernel
theorem dX5_serviceHoursLeft_14 : decode cX5_serviceHoursLeft 14 = .ok (.iload_n 1, 1) := by decide +kernel
theorem dX5_serviceHoursLeft_15 : decode cX5_serviceHoursLeft 15 = .ok (.iconst 3, 1) := by decide +kernel
theorem dX5_serviceHoursLeft_16 : decode cX5_serviceHoursLeft 16 = .ok (.invokevirtual 57, 3) := by decide +kernel
theorem dX5_serviceHoursLeft_19 : decode cX5_serviceHoursLeft 19 = .ok (.iconst 2, 1) := by decide +kernel
theorem dX5_serviceHoursLeft_20 : decode cX5_serviceHoursLeft 20 = .ok (.if_icmp .eq 7, 3) := by decide +kernel
theorem dX5_serviceHoursLeft_23 : decode cX5_serviceHoursLeft 23 = .ok (.iconst 2, 1) := by decide +kernel
theorem dX5_serviceHoursLeft_24 : decode cX5_serviceHoursLeft 24 = .ok (.goto 4, 3) := by decide +kernel
theorem dX5_serviceHoursLeft_27 : decode cX5_serviceHoursLeft 27 = .ok (.iconst 0, 1) := by decide +kernel
theorem dX5_serviceHoursLeft_28 : decode cX5_serviceHoursLeft 28 = .ok (.putfield 27, 3) := by decide +kernel
theorem dX5_serviceHoursLeft_31 : decode cX5_serviceHoursLeft 31 = .ok (.aload_n 0, 1) := by decide +kernel
theorem dX5_serviceHoursLeft_32 : decode cX5_serviceHoursLeft 32 = .ok (.getfield 27, 3) := by decide +kernel
theorem dX5_serviceHoursLeft_35 : decode cX5_serviceHoursLeft 35 = .ok (.ifCond .ne 12, 3) := by decide +kernel
theorem dX5_serviceHoursLeft_38 : decode cX5_serviceHoursLeft 38 = .ok (.aload_n 0, 1) := by decide +kernel
theorem dX5_serviceHoursLeft_39 : decode cX5_serviceHoursLeft 39 = .ok (.iload_n 1, 1) := by decide +kernel
theorem dX5_serviceHoursLeft_40 : decode cX5_serviceHoursLeft 40 = .ok (.iconst 4, 1) := by decide +kernel
theorem dX5_serviceHoursLeft_41 : decode cX5_serviceHoursLeft 41 = .ok (.invokevirtual 57, 3) := by decide +kernel
theorem dX5_serviceHoursLeft_44 : decode cX5_serviceHoursLeft 44 = .ok (.goto 4, 3) := by decide +kernel
theorem dX5_serviceHoursLeft_47 : decode cX5_serviceHoursLeft 47 = .ok (.iconst 0, 1) := by decide +kernel
theorem dX5_serviceHoursLeft_48 : decode cX5_serviceHoursLeft 48 = .ok (.ireturn, 1) := by decide +kernel
theorem dX5_freeCrews_0 : decode cX5_freeCrews 0 = .ok (.aload_n 0, 1) := by decide +kernel
theorem dX5_freeCrews_1 : decode cX5_freeCrews 1 = .ok (.iconst 0, 1) := by decide +kernel
theorem dX5_freeCrews_2 : decode cX5_freeCrews 2 = .ok (.putfield 27, 3) := by decide +kernel
theorem dX5_freeCrews_5 : decode cX5_freeCrews 5 = .ok (.iconst 2, 1) := by decide +kernel
theorem dX5_freeCrews_6 : decode cX5_freeCrews 6 = .ok (.aload_n 0, 1) := by decide +kernel
theorem dX5_freeCrews_7 : decode cX5_freeCrews 7 = .ok (.iconst 2, 1) := by decide +kernel
theorem dX5_freeCrews_8 : decode cX5_freeCrews 8 = .ok (.invokevirtual 107, 3) := by decide +kernel
theorem dX5_freeCrews_11 : decode cX5_freeCrews 11 = .ok (.isub, 1) := by decide +kernel
theorem dX5_freeCrews_12 : decode cX5_freeCrews 12 = .ok (.ireturn, 1) := by decide +kernel
theorem dX5_windDirection_0 : decode cX5_windDirection 0 = .ok (.aload_n 0, 1) := by decide +kernel
theorem dX5_windDirection_1 : decode cX5_windDirection 1 = .ok (.iconst 0, 1) := by decide +kernel
theorem dX5_windDirection_2 : decode cX5_windDirection 2 = .ok (.putfield 27, 3) := by decide +kernel
theorem dX5_windDirection_5 : decode cX5_windDirection 5 = .ok (.aload_n 0, 1) := by decide +kernel
theorem dX5_windDirection_6 : decode cX5_windDirection 6 = .ok (.getfield 9, 3) := by decide +kernel
theorem dX5_windDirection_9 : decode cX5_windDirection 9 = .ok (.iconst 1, 1) := by decide +kernel
theorem dX5_windDirection_10 : decode cX5_windDirection 10 = .ok (.iaload, 1) := by decide +kernel
theorem dX5_windDirection_11 : decode cX5_windDirection 11 = .ok (.invokestatic 174, 3) := by decide +kernel
theorem dX5_windDirection_14 : decode cX5_windDirection 14 = .ok (.ireturn, 1) := by decide +kernel
theorem dX5_windSpeed_0 : decode cX5_windSpeed 0 = .ok (.aload_n 0, 1) := by decide +kernel
theorem dX5_windSpeed_1 : decode cX5_windSpeed 1 = .ok (.iconst 0, 1) := by decide +kernel
theorem dX5_windSpeed_2 : decode cX5_windSpeed 2 = .ok (.putfield 27, 3) := by decide +kernel
theorem dX5_windSpeed_5 : decode cX5_windSpeed 5 = .ok (.aload_n 0, 1) := by decide +kernel
theorem dX5_windSpeed_6 : decode cX5_windSpeed 6 = .ok (.getfield 9, 3) := by decide +kernel
theorem dX5_windSpeed_9 : decode cX5_windSpeed 9 = .ok (.iconst 2, 1) := by decide +kernel
theorem dX5_windSpeed_10 : decode cX5_windSpeed 10 = .ok (.iaload, 1) := by decide +kernel
theorem dX5_windSpeed_11 : decode cX5_windSpeed 11 = .ok (.ireturn, 1) := by decide +kernel
theorem dX5_powerFactor_0 : decode cX5_powerFactor 0 = .ok (.aload_n 0, 1) := by decide +kernel
theorem dX5_powerFactor_1 : decode cX5_powerFactor 1 = .ok (.iconst 0, 1) := by decide +kernel
theorem dX5_powerFactor_2 : decode cX5_powerFactor 2 = .ok (.putfield 27, 3) := by decide +kernel
theorem dX5_powerFactor_5 : decode cX5_powerFactor 5 = .ok (.aload_n 0, 1) := by decide +kernel
theorem dX5_powerFactor_6 : decode cX5_powerFactor 6 = .ok (.getfield 9, 3) := by decide +kernel
theorem dX5_powerFactor_9 : decode cX5_powerFactor 9 = .ok (.iconst 2, 1) := by decide +kernel
theorem dX5_powerFactor_10 : decode cX5_powerFactor 10 = .ok (.iaload, 1) := by decide +kernel
theorem dX5_powerFactor_11 : decode cX5_powerFactor 11 = .ok (.invokestatic 67, 3) := by decide +kernel
theorem dX5_powerFactor_14 : decode cX5_powerFactor 14 = .ok (.ireturn, 1) := by decide +kernel
theorem dX5_wakeLoss_0 : decode cX5_wakeLoss 0 = .ok (.aload_n 0, 1) := by decide +kernel
theorem dX5_wakeLoss_1 : decode cX5_wakeLoss 1 = .ok (.aload_n 0, 1) := by decide +kernel
theorem dX5_wakeLoss_2 : decode cX5_wakeLoss 2 = .ok (.iload_n 1, 1) := by decide +kernel
theorem dX5_wakeLoss_3 : decode cX5_wakeLoss 3 = .ok (.invokevirtual 103, 3) := by decide +kernel
theorem dX5_wakeLoss_6 : decode cX5_wakeLoss 6 = .ok (.invokevirtual 49, 3) := by decide +kernel
theorem dX5_wakeLoss_9 : decode cX5_wakeLoss 9 = .ok (.ifCond .eq 11, 3) := by decide +kernel
theorem dX5_wakeLoss_12 : decode cX5_wakeLoss 12 = .ok (.aload_n 0, 1) := by decide +kernel
theorem dX5_wakeLoss_13 : decode cX5_wakeLoss 13 = .ok (.iload_n 1, 1) := by decide +kernel
theorem dX5_wakeLoss_14 : decode cX5_wakeLoss 14 = .ok (.invokevirtual 71, 3) := by decide +kernel
theorem dX5_wakeLoss_17 : decode cX5_wakeLoss 17 = .ok (.goto 4, 3) := by decide +kernel
theorem dX5_wakeLoss_20 : decode cX5_wakeLoss 20 = .ok (.iconst 0, 1) := by decide +kernel
theorem dX5_wakeLoss_21 : decode cX5_wakeLoss 21 = .ok (.ireturn, 1) := by decide +kernel
theorem dX5_availablePower_0 : decode cX5_availablePower 0 = .ok (.aload_n 0, 1) := by decide +kernel
theorem dX5_availablePower_1 : decode cX5_availablePower 1 = .ok (.aload_n 0, 1) := by decide +kernel
theorem dX5_availablePower_2 : decode cX5_availablePower 2 = .ok (.iload_n 1, 1) := by decide +kernel
theorem dX5_availablePower_3 : decode cX5_availablePower 3 = .ok (.invokevirtual 103, 3) := by decide +kernel
theorem dX5_availablePower_6 : decode cX5_availablePower 6 = .ok (.invokevirtual 49, 3) := by decide +kernel
theorem dX5_availablePower_9 : decode cX5_availablePower 9 = .ok (.ifCond .eq 11, 3) := by decide +kernel
theorem dX5_availablePower_12 : decode cX5_availablePower 12 = .ok (.aload_n 0, 1) := by decide +kernel
theorem dX5_availablePower_13 : decode cX5_availablePower 13 = .ok (.iload_n 1, 1) := by decide +kernel
theorem dX5_availablePower_14 : decode cX5_availablePower 14 = .ok (.invokevirtual 74, 3) := by decide +kernel
theorem dX5_availablePower_17 : decode cX5_availablePower 17 = .ok (.goto 4, 3) := by decide +kernel
theorem dX5_availablePower_20 : decode cX5_availablePower 20 = .ok (.iconst 0, 1) := by decide +kernel
theorem dX5_availablePower_21 : decode cX5_availablePower 21 = .ok (.ireturn, 1) := by decide +kernel
theorem dX5_outputOf_0 : decode cX5_outputOf 0 = .ok (.aload_n 0, 1) := by decide +kernel
theorem dX5_outputOf_1 : decode cX5_outputOf 1 = .ok (.aload_n 0, 1) := by decide +kernel
theorem dX5_outputOf_2 : decode cX5_outputOf 2 = .ok (.iload_n 1, 1) := by decide +kernel
theorem dX5_outputOf_3 : decode cX5_outputOf 3 = .ok (.invokevirtual 103, 3) := by decide +kernel
theorem dX5_outputOf_6 : decode cX5_outputOf 6 = .ok (.invokevirtual 49, 3) := by decide +kernel
theorem dX5_outputOf_9 : decode cX5_outputOf 9 = .ok (.ifCond .eq 11, 3) := by decide +kernel
theorem dX5_outputOf_12 : decode cX5_outputOf 12 = .ok (.aload_n 0, 1) := by decide +kernel
theorem dX5_outputOf_13 : decode cX5_outputOf 13 = .ok (.iload_n 1, 1) := by decide +kernel
theorem dX5_outputOf_14 : decode cX5_outputOf 14 = .ok (.invokevirtual 77, 3) := by decide +kernel
theorem dX5_outputOf_17 : decode cX5_outputOf 17 = .ok (.goto 4, 3) := by decide +kernel
theorem dX5_outputOf_20 : decode cX5_outputOf 20 = .ok (.iconst 0, 1) := by decide +kernel
theorem dX5_outputOf_21 : decode cX5_outputOf 21 = .ok (.ireturn, 1) := by decide +kernel
theorem dX5_totalOutput_0 : decode cX5_totalOutput 0 = .ok (.aload_n 0, 1) := by decide +kernel
theorem dX5_totalOutput_1 : decode cX5_totalOutput 1 = .ok (.iconst 0, 1) := by decide +kernel
theorem dX5_totalOutput_2 : decode cX5_totalOutput 2 = .ok (.putfield 27, 3) := by decide +kernel
theorem dX5_totalOutput_5 : decode cX5_totalOutput 5 = .ok (.aload_n 0, 1) := by decide +kernel
theorem dX5_totalOutput_6 : decode cX5_totalOutput 6 = .ok (.invokevirtual 129, 3) := by decide +kernel
theorem dX5_totalOutput_9 : decode cX5_totalOutput 9 = .ok (.ireturn, 1) := by decide +kernel
theorem dX5_totalOutputByLines_0 : decode cX5_totalOutputByLines 0 = .ok (.aload_n 0, 1) := by decide +kernel
theorem dX5_totalOutputByLines_1 : decode cX5_totalOutputByLines 1 = .ok (.invokevirtual 178, 3) := by decide +kernel
theorem dX5_totalOutputByLines_4 : decode cX5_totalOutputByLines 4 = .ok (.ireturn, 1) := by decide +kernel
theorem dX5_totalWith_0 : decode cX5_totalWith 0 = .ok (.aload_n 0, 1) := by decide +kernel
theorem dX5_totalWith_1 : decode cX5_totalWith 1 = .ok (.getfield 9, 3) := by decide +kernel
theorem dX5_totalWith_4 : decode cX5_totalWith 4 = .ok (.iconst 1, 1) := by decide +kernel
theorem dX5_totalWith_5 : decode cX5_totalWith 5 = .ok (.iaload, 1) := by decide +kernel
theorem dX5_totalWith_6 : decode cX5_totalWith 6 = .ok (.istore_n 3, 1) := by decide +kernel
theorem dX5_totalWith_7 : decode cX5_totalWith 7 = .ok (.aload_n 0, 1) := by decide +kernel
theorem dX5_totalWith_8 : decode cX5_totalWith 8 = .ok (.getfield 9, 3) := by decide +kernel
theorem dX5_totalWith_11 : decode cX5_totalWith 11 = .ok (.iconst 2, 1) := by decide +kernel
theorem dX5_totalWith_12 : decode cX5_totalWith 12 = .ok (.iaload, 1) := by decide +kernel
theorem dX5_totalWith_13 : decode cX5_totalWith 13 = .ok (.istore 4, 2) := by decide +kernel
theorem dX5_totalWith_15 : decode cX5_totalWith 15 = .ok (.aload_n 0, 1) := by decide +kernel
theorem dX5_totalWith_16 : decode cX5_totalWith 16 = .ok (.getfield 9, 3) := by decide +kernel
theorem dX5_totalWith_19 : decode cX5_totalWith 19 = .ok (.iconst 1, 1) := by decide +kernel
theorem dX5_totalWith_20 : decode cX5_totalWith 20 = .ok (.iload_n 1, 1) := by decide +kernel
theorem dX5_totalWith_21 : decode cX5_totalWith 21 = .ok (.iastore, 1) := by decide +kernel
theorem dX5_totalWith_22 : decode cX5_totalWith 22 = .ok (.aload_n 0, 1) := by decide +kernel
theorem dX5_totalWith_23 : decode cX5_totalWith 23 = .ok (.getfield 9, 3) := by decide +kernel
theorem dX5_totalWith_26 : decode cX5_totalWith 26 = .ok (.iconst 2, 1) := by decide +kernel
theorem dX5_totalWith_27 : decode cX5_totalWith 27 = .ok (.iload_n 2, 1) := by decide +kernel
theorem dX5_totalWith_28 : decode cX5_totalWith 28 = .ok (.iastore, 1) := by decide +kernel
theorem dX5_totalWith_29 : decode cX5_totalWith 29 = .ok (.aload_n 0, 1) := by decide +kernel
theorem dX5_totalWith_30 : decode cX5_totalWith 30 = .ok (.invokevirtual 129, 3) := by decide +kernel
theorem dX5_totalWith_33 : decode cX5_totalWith 33 = .ok (.istore 5, 2) := by decide +kernel
theorem dX5_totalWith_35 : decode cX5_totalWith 35 = .ok (.aload_n 0, 1) := by decide +kernel
theorem dX5_totalWith_36 : decode cX5_totalWith 36 = .ok (.getfield 9, 3) := by decide +kernel
theorem dX5_totalWith_39 : decode cX5_totalWith 39 = .ok (.iconst 1, 1) := by decide +kernel
theorem dX5_totalWith_40 : decode cX5_totalWith 40 = .ok (.iload_n 3, 1) := by decide +kernel
theorem dX5_totalWith_41 : decode cX5_totalWith 41 = .ok (.iastore, 1) := by decide +kernel
theorem dX5_totalWith_42 : decode cX5_totalWith 42 = .ok (.aload_n 0, 1) := by decide +kernel
theorem dX5_totalWith_43 : decode cX5_totalWith 43 = .ok (.getfield 9, 3) := by decide +kernel
theorem dX5_totalWith_46 : decode cX5_totalWith 46 = .ok (.iconst 2, 1) := by decide +kernel
theorem dX5_totalWith_47 : decode cX5_totalWith 47 = .ok (.iload 4, 2) := by decide +kernel
theorem dX5_totalWith_49 : decode cX5_totalWith 49 = .ok (.iastore, 1) := by decide +kernel
theorem dX5_totalWith_50 : decode cX5_totalWith 50 = .ok (.iload 5, 2) := by decide +kernel
theorem dX5_totalWith_52 : decode cX5_totalWith 52 = .ok (.ireturn, 1) := by decide +kernel
theorem dX5_outputWith_0 : decode cX5_outputWith 0 = .ok (.aload_n 0, 1) := by decide +kernel
theorem dX5_outputWith_1 : decode cX5_outputWith 1 = .ok (.iload_n 1, 1) := by decide +kernel
theorem dX5_outputWith_2 : decode cX5_outputWith 2 = .ok (.invokestatic 132, 3) := by decide +kernel
theorem dX5_outputWith_5 : decode cX5_outputWith 5 = .ok (.ifCond .lt 17, 3) := by decide +kernel
theorem dX5_outputWith_8 : decode cX5_outputWith 8 = .ok (.iload_n 2, 1) := by decide +kernel
theorem dX5_outputWith_9 : decode cX5_outputWith 9 = .ok (.iconst 0, 1) := by decide +kernel
theorem dX5_outputWith_10 : decode cX5_outputWith 10 = .ok (.bipush 30, 2) := by decide +kernel
theorem dX5_outputWith_12 : decode cX5_outputWith 12 = .ok (.invokestatic 53, 3) := by decide +kernel
theorem dX5_outputWith_15 : decode cX5_outputWith 15 = .ok (.ifCond .eq 7, 3) := by decide +kernel
theorem dX5_outputWith_18 : decode cX5_outputWith 18 = .ok (.iconst 1, 1) := by decide +kernel
theorem dX5_outputWith_19 : decode cX5_outputWith 19 = .ok (.goto 4, 3) := by decide +kernel
theorem dX5_outputWith_22 : decode cX5_outputWith 22 = .ok (.iconst 0, 1) := by decide +kernel
theorem dX5_outputWith_23 : decode cX5_outputWith 23 = .ok (.invokevirtual 49, 3) := by decide +kernel
theorem dX5_outputWith_26 : decode cX5_outputWith 26 = .ok (.ifCond .eq 15, 3) := by decide +kernel
theorem dX5_outputWith_29 : decode cX5_outputWith 29 = .ok (.aload_n 0, 1) := by decide +kernel
theorem dX5_outputWith_30 : decode cX5_outputWith 30 = .ok (.iload_n 1, 1) := by decide +kernel
theorem dX5_outputWith_31 : decode cX5_outputWith 31 = .ok (.invokestatic 132, 3) := by decide +kernel
theorem dX5_outputWith_34 : decode cX5_outputWith 34 = .ok (.iload_n 2, 1) := by decide +kernel
theorem dX5_outputWith_35 : decode cX5_outputWith 35 = .ok (.invokevirtual 181, 3) := by decide +kernel
theorem dX5_outputWith_38 : decode cX5_outputWith 38 = .ok (.goto 4, 3) := by decide +kernel
theorem dX5_outputWith_41 : decode cX5_outputWith 41 = .ok (.iconst 0, 1) := by decide +kernel
theorem dX5_outputWith_42 : decode cX5_outputWith 42 = .ok (.ireturn, 1) := by decide +kernel
theorem dX5_bestDirection_0 : decode cX5_bestDirection 0 = .ok (.aload_n 0, 1) := by decide +kernel
theorem dX5_bestDirection_1 : decode cX5_bestDirection 1 = .ok (.iconst 0, 1) := by decide +kernel
theorem dX5_bestDirection_2 : decode cX5_bestDirection 2 = .ok (.putfield 27, 3) := by decide +kernel
theorem dX5_bestDirection_5 : decode cX5_bestDirection 5 = .ok (.iconst 0, 1) := by decide +kernel
theorem dX5_bestDirection_6 : decode cX5_bestDirection 6 = .ok (.istore_n 1, 1) := by decide +kernel
theorem dX5_bestDirection_7 : decode cX5_bestDirection 7 = .ok (.iconst 1, 1) := by decide +kernel
theorem dX5_bestDirection_8 : decode cX5_bestDirection 8 = .ok (.istore_n 2, 1) := by decide +kernel
theorem dX5_bestDirection_9 : decode cX5_bestDirection 9 = .ok (.iload_n 2, 1) := by decide +kernel
theorem dX5_bestDirection_10 : decode cX5_bestDirection 10 = .ok (.iconst 4, 1) := by decide +kernel
theorem dX5_bestDirection_11 : decode cX5_bestDirection 11 = .ok (.if_icmp .ge 40, 3) := by decide +kernel
theorem dX5_bestDirection_14 : decode cX5_bestDirection 14 = .ok (.aload_n 0, 1) := by decide +kernel
theorem dX5_bestDirection_15 : decode cX5_bestDirection 15 = .ok (.iload_n 2, 1) := by decide +kernel
theorem dX5_bestDirection_16 : decode cX5_bestDirection 16 = .ok (.aload_n 0, 1) := by decide +kernel
theorem dX5_bestDirection_17 : decode cX5_bestDirection 17 = .ok (.getfield 9, 3) := by decide +kernel
theorem dX5_bestDirection_20 : decode cX5_bestDirection 20 = .ok (.iconst 2, 1) := by decide +kernel
theorem dX5_bestDirection_21 : decode cX5_bestDirection 21 = .ok (.iaload, 1) := by decide +kernel
theorem dX5_bestDirection_22 : decode cX5_bestDirection 22 = .ok (.invokevirtual 181, 3) := by decide +kernel
theorem dX5_bestDirection_25 : decode cX5_bestDirection 25 = .ok (.aload_n 0, 1) := by decide +kernel
theorem dX5_bestDirection_26 : decode cX5_bestDirection 26 = .ok (.iload_n 1, 1) := by decide +kernel
theorem dX5_bestDirection_27 : decode cX5_bestDirection 27 = .ok (.aload_n 0, 1) := by decide +kernel
theorem dX5_bestDirection_28 : decode cX5_bestDirection 28 = .ok (.getfield 9, 3) := by decide +kernel
theorem dX5_bestDirection_31 : decode cX5_bestDirection 31 = .ok (.iconst 2, 1) := by decide +kernel
theorem dX5_bestDirection_32 : decode cX5_bestDirection 32 = .ok (.iaload, 1) := by decide +kernel
theorem dX5_bestDirection_33 : decode cX5_bestDirection 33 = .ok (.invokevirtual 181, 3) := by decide +kernel
theorem dX5_bestDirection_36 : decode cX5_bestDirection 36 = .ok (.if_icmp .le 7, 3) := by decide +kernel
theorem dX5_bestDirection_39 : decode cX5_bestDirection 39 = .ok (.iload_n 2, 1) := by decide +kernel
theorem dX5_bestDirection_40 : decode cX5_bestDirection 40 = .ok (.goto 4, 3) := by decide +kernel
theorem dX5_bestDirection_43 : decode cX5_bestDirection 43 = .ok (.iload_n 1, 1) := by decide +kernel
theorem dX5_bestDirection_44 : decode cX5_bestDirection 44 = .ok (.istore_n 1, 1) := by decide +kernel
theorem dX5_bestDirection_45 : decode cX5_bestDirection 45 = .ok (.iinc 2 1, 3) := by decide +kernel
theorem dX5_bestDirection_48 : decode cX5_bestDirection 48 = .ok (.goto (-39), 3) := by decide +kernel
theorem dX5_bestDirection_51 : decode cX5_bestDirection 51 = .ok (.iload_n 1, 1) := by decide +kernel
theorem dX5_bestDirection_52 : decode cX5_bestDirection 52 = .ok (.invokestatic 174, 3) := by decide +kernel
theorem dX5_bestDirection_55 : decode cX5_bestDirection 55 = .ok (.ireturn, 1) := by decide +kernel
theorem dX5_gridLimit_0 : decode cX5_gridLimit 0 = .ok (.aload_n 0, 1) := by decide +kernel
theorem dX5_gridLimit_1 : decode cX5_gridLimit 1 = .ok (.iconst 0, 1) := by decide +kernel
theorem dX5_gridLimit_2 : decode cX5_gridLimit 2 = .ok (.putfield 27, 3) := by decide +kernel
theorem dX5_gridLimit_5 : decode cX5_gridLimit 5 = .ok (.aload_n 0, 1) := by decide +kernel
theorem dX5_gridLimit_6 : decode cX5_gridLimit 6 = .ok (.getfield 9, 3) := by decide +kernel
theorem dX5_gridLimit_9 : decode cX5_gridLimit 9 = .ok (.iconst 3, 1) := by decide +kernel
theorem dX5_gridLimit_10 : decode cX5_gridLimit 10 = .ok (.iaload, 1) := by decide +kernel
theorem dX5_gridLimit_11 : decode cX5_gridLimit 11 = .ok (.ireturn, 1) := by decide +kernel
theorem dX5_hasBid_0 : decode cX5_hasBid 0 = .ok (.aload_n 0, 1) := by decide +kernel
theorem dX5_hasBid_1 : decode cX5_hasBid 1 = .ok (.iload_n 1, 1) := by decide +kernel
theorem dX5_hasBid_2 : decode cX5_hasBid 2 = .ok (.invokestatic 150, 3) := by decide +kernel
theorem dX5_hasBid_5 : decode cX5_hasBid 5 = .ok (.invokevirtual 49, 3) := by decide +kernel
theorem dX5_hasBid_8 : decode cX5_hasBid 8 = .ok (.ifCond .eq 15, 3) := by decide +kernel
theorem dX5_hasBid_11 : decode cX5_hasBid 11 = .ok (.aload_n 0, 1) := by decide +kernel
theorem dX5_hasBid_12 : decode cX5_hasBid 12 = .ok (.iload_n 1, 1) := by decide +kernel
theorem dX5_hasBid_13 : decode cX5_hasBid 13 = .ok (.invokevirtual 147, 3) := by decide +kernel
theorem dX5_hasBid_16 : decode cX5_hasBid 16 = .ok (.ifCond .le 7, 3) := by decide +kernel
theorem dX5_hasBid_19 : decode cX5_hasBid 19 = .ok (.iconst 1, 1) := by decide +kernel
theorem dX5_hasBid_20 : decode cX5_hasBid 20 = .ok (.goto 4, 3) := by decide +kernel
theorem dX5_hasBid_23 : decode cX5_hasBid 23 = .ok (.iconst 0, 1) := by decide +kernel
theorem dX5_hasBid_24 : decode cX5_hasBid 24 = .ok (.ireturn, 1) := by decide +kernel
theorem dX5_isBid_0 : decode cX5_isBid 0 = .ok (.aload_n 0, 1) := by decide +kernel
theorem dX5_isBid_1 : decode cX5_isBid 1 = .ok (.iload_n 1, 1) := by decide +kernel
theorem dX5_isBid_2 : decode cX5_isBid 2 = .ok (.invokestatic 150, 3) := by decide +kernel
theorem dX5_isBid_5 : decode cX5_isBid 5 = .ok (.ifCond .ne 7, 3) := by decide +kernel
theorem dX5_isBid_8 : decode cX5_isBid 8 = .ok (.iconst 1, 1) := by decide +kernel
theorem dX5_isBid_9 : decode cX5_isBid 9 = .ok (.goto 16, 3) := by decide +kernel
theorem dX5_isBid_12 : decode cX5_isBid 12 = .ok (.aload_n 0, 1) := by decide +kernel
theorem dX5_isBid_13 : decode cX5_isBid 13 = .ok (.iload_n 1, 1) := by decide +kernel
theorem dX5_isBid_14 : decode cX5_isBid 14 = .ok (.invokevirtual 147, 3) := by decide +kernel
theorem dX5_isBid_17 : decode cX5_isBid 17 = .ok (.ifCond .ne 7, 3) := by decide +kernel
theorem dX5_isBid_20 : decode cX5_isBid 20 = .ok (.iconst 2, 1) := by decide +kernel
theorem dX5_isBid_21 : decode cX5_isBid 21 = .ok (.goto 4, 3) := by decide +kernel
theorem dX5_isBid_24 : decode cX5_isBid 24 = .ok (.iconst 0, 1) := by decide +kernel
theorem dX5_isBid_25 : decode cX5_isBid 25 = .ok (.putfield 27, 3) := by decide +kernel
theorem dX5_isBid_28 : decode cX5_isBid 28 = .ok (.aload_n 0, 1) := by decide +kernel
theorem dX5_isBid_29 : decode cX5_isBid 29 = .ok (.getfield 27, 3) := by decide +kernel
theorem dX5_isBid_32 : decode cX5_isBid 32 = .ok (.ifCond .ne 7, 3) := by decide +kernel
theorem dX5_isBid_35 : decode cX5_isBid 35 = .ok (.iconst 1, 1) := by decide +kernel
theorem dX5_isBid_36 : decode cX5_isBid 36 = .ok (.goto 4, 3) := by decide +kernel
theorem dX5_isBid_39 : decode cX5_isBid 39 = .ok (.iconst 0, 1) := by decide +kernel
theorem dX5_isBid_40 : decode cX5_isBid 40 = .ok (.ireturn, 1) := by decide +kernel
theorem dX5_bidPrice_0 : decode cX5_bidPrice 0 = .ok (.aload_n 0, 1) := by decide +kernel
theorem dX5_bidPrice_1 : decode cX5_bidPrice 1 = .ok (.iload_n 1, 1) := by decide +kernel
theorem dX5_bidPrice_2 : decode cX5_bidPrice 2 = .ok (.invokevirtual 184, 3) := by decide +kernel
theorem dX5_bidPrice_5 : decode cX5_bidPrice 5 = .ok (.ifCond .eq 11, 3) := by decide +kernel
theorem dX5_bidPrice_8 : decode cX5_bidPrice 8 = .ok (.aload_n 0, 1) := by decide +kernel
theorem dX5_bidPrice_9 : decode cX5_bidPrice 9 = .ok (.iload_n 1, 1) := by decide +kernel
theorem dX5_bidPrice_10 : decode cX5_bidPrice 10 = .ok (.invokevirtual 147, 3) := by decide +kernel
theorem dX5_bidPrice_13 : decode cX5_bidPrice 13 = .ok (.goto 4, 3) := by decide +kernel
theorem dX5_bidPrice_16 : decode cX5_bidPrice 16 = .ok (.iconst 0, 1) := by decide +kernel
theorem dX5_bidPrice_17 : decode cX5_bidPrice 17 = .ok (.ireturn, 1) := by decide +kernel
theorem dX5_bidQuantity_0 : decode cX5_bidQuantity 0 = .ok (.aload_n 0, 1) := by decide +kernel
theorem dX5_bidQuantity_1 : decode cX5_bidQuantity 1 = .ok (.iload_n 1, 1) := by decide +kernel
theorem dX5_bidQuantity_2 : decode cX5_bidQuantity 2 = .ok (.invokevirtual 184, 3) := by decide +kernel
theorem dX5_bidQuantity_5 : decode cX5_bidQuantity 5 = .ok (.ifCond .eq 11, 3) := by decide +kernel
theorem dX5_bidQuantity_8 : decode cX5_bidQuantity 8 = .ok (.aload_n 0, 1) := by decide +kernel
theorem dX5_bidQuantity_9 : decode cX5_bidQuantity 9 = .ok (.iload_n 1, 1) := by decide +kernel
theorem dX5_bidQuantity_10 : decode cX5_bidQuantity 10 = .ok (.invokevirtual 159, 3) := by decide +kernel
theorem dX5_bidQuantity_13 : decode cX5_bidQuantity 13 = .ok (.goto 4, 3) := by decide +kernel
theorem dX5_bidQuantity_16 : decode cX5_bidQuantity 16 = .ok (.iconst 0, 1) := by decide +kernel
theorem dX5_bidQuantity_17 : decode cX5_bidQuantity 17 = .ok (.ireturn, 1) := by decide +kernel
theorem dX5_bidByPrice_0 : decode cX5_bidByPrice 0 = .ok (.iconst 0, 1) := by decide +kernel
theorem dX5_bidByPrice_1 : decode cX5_bidByPrice 1 = .ok (.istore_n 2, 1) := by decide +kernel
theorem dX5_bidByPrice_2 : decode cX5_bidByPrice 2 = .ok (.iload_n 2, 1) := by decide +kernel
theorem dX5_bidByPrice_3 : decode cX5_bidByPrice 3 = .ok (.bipush 24, 2) := by decide +kernel
theorem dX5_bidByPrice_5 : decode cX5_bidByPrice 5 = .ok (.if_icmp .ge 128, 3) := by decide +kernel
theorem dX5_bidByPrice_8 : decode cX5_bidByPrice 8 = .ok (.iconst 0, 1) := by decide +kernel
theorem dX5_bidByPrice_9 : decode cX5_bidByPrice 9 = .ok (.istore_n 3, 1) := by decide +kernel
theorem dX5_bidByPrice_10 : decode cX5_bidByPrice 10 = .ok (.aload_n 0, 1) := by decide +kernel
theorem dX5_bidByPrice_11 : decode cX5_bidByPrice 11 = .ok (.iload_n 2, 1) := by decide +kernel
theorem dX5_bidByPrice_12 : decode cX5_bidByPrice 12 = .ok (.invokevirtual 147, 3) := by decide +kernel
theorem dX5_bidByPrice_15 : decode cX5_bidByPrice 15 = .ok (.ifCond .ne 6, 3) := by decide +kernel
theorem dX5_bidByPrice_18 : decode cX5_bidByPrice 18 = .ok (.goto 109, 3) := by decide +kernel
theorem dX5_bidByPrice_21 : decode cX5_bidByPrice 21 = .ok (.iconst 0, 1) := by decide +kernel
theorem dX5_bidByPrice_22 : decode cX5_bidByPrice 22 = .ok (.istore 4, 2) := by decide +kernel
theorem dX5_bidByPrice_24 : decode cX5_bidByPrice 24 = .ok (.iload 4, 2) := by decide +kernel
theorem dX5_bidByPrice_26 : decode cX5_bidByPrice 26 = .ok (.bipush 24, 2) := by decide +kernel
theorem dX5_bidByPrice_28 : decode cX5_bidByPrice 28 = .ok (.if_icmp .ge 80, 3) := by decide +kernel
theorem dX5_bidByPrice_31 : decode cX5_bidByPrice 31 = .ok (.aload_n 0, 1) := by decide +kernel
theorem dX5_bidByPrice_32 : decode cX5_bidByPrice 32 = .ok (.iload 4, 2) := by decide +kernel
theorem dX5_bidByPrice_34 : decode cX5_bidByPrice 34 = .ok (.invokevirtual 147, 3) := by decide +kernel
theorem dX5_bidByPrice_37 : decode cX5_bidByPrice 37 = .ok (.aload_n 0, 1) := by decide +kernel
theorem dX5_bidByPrice_38 : decode cX5_bidByPrice 38 = .ok (.iload_n 2, 1) := by decide +kernel
theorem dX5_bidByPrice_39 : decode cX5_bidByPrice 39 = .ok (.invokevirtual 147, 3) := by decide +kernel
theorem dX5_bidByPrice_42 : decode cX5_bidByPrice 42 = .ok (.isub, 1) := by decide +kernel
theorem dX5_bidByPrice_43 : decode cX5_bidByPrice 43 = .ok (.istore 5, 2) := by decide +kernel
theorem dX5_bidByPrice_45 : decode cX5_bidByPrice 45 = .ok (.aload_n 0, 1) := by decide +kernel
theorem dX5_bidByPrice_46 : decode cX5_bidByPrice 46 = .ok (.iload 4, 2) := by decide +kernel
theorem dX5_bidByPrice_48 : decode cX5_bidByPrice 48 = .ok (.invokevirtual 159, 3) := by decide +kernel
theorem dX5_bidByPrice_51 : decode cX5_bidByPrice 51 = .ok (.aload_n 0, 1) := by decide +kernel
theorem dX5_bidByPrice_52 : decode cX5_bidByPrice 52 = .ok (.iload_n 2, 1) := by decide +kernel
theorem dX5_bidByPrice_53 : decode cX5_bidByPrice 53 = .ok (.invokevirtual 159, 3) := by decide +kernel
theorem dX5_bidByPrice_56 : decode cX5_bidByPrice 56 = .ok (.isub, 1) := by decide +kernel
theorem dX5_bidByPrice_57 : decode cX5_bidByPrice 57 = .ok (.istore 6, 2) := by decide +kernel
theorem dX5_bidByPrice_59 : decode cX5_bidByPrice 59 = .ok (.iload_n 3, 1) := by decide +kernel
theorem dX5_bidByPrice_60 : decode cX5_bidByPrice 60 = .ok (.aload_n 0, 1) := by decide +kernel
theorem dX5_bidByPrice_61 : decode cX5_bidByPrice 61 = .ok (.iload 4, 2) := by decide +kernel
theorem dX5_bidByPrice_63 : decode cX5_bidByPrice 63 = .ok (.invokevirtual 147, 3) := by decide +kernel
theorem dX5_bidByPrice_66 : decode cX5_bidByPrice 66 = .ok (.ifCond .le 33, 3) := by decide +kernel
theorem dX5_bidByPrice_69 : decode cX5_bidByPrice 69 = .ok (.iload 5, 2) := by decide +kernel
theorem dX5_bidByPrice_71 : decode cX5_bidByPrice 71 = .ok (.ifCond .gt 24, 3) := by decide +kernel
theorem dX5_bidByPrice_74 : decode cX5_bidByPrice 74 = .ok (.iload 5, 2) := by decide +kernel
theorem dX5_bidByPrice_76 : decode cX5_bidByPrice 76 = .ok (.ifCond .ne 23, 3) := by decide +kernel
theorem dX5_bidByPrice_79 : decode cX5_bidByPrice 79 = .ok (.iload 6, 2) := by decide +kernel
theorem dX5_bidByPrice_81 : decode cX5_bidByPrice 81 = .ok (.ifCond .gt 14, 3) := by decide +kernel
theorem dX5_bidByPrice_84 : decode cX5_bidByPrice 84 = .ok (.iload 6, 2) := by decide +kernel
theorem dX5_bidByPrice_86 : decode cX5_bidByPrice 86 = .ok (.ifCond .ne 13, 3) := by decide +kernel
theorem dX5_bidByPrice_89 : decode cX5_bidByPrice 89 = .ok (.iload 4, 2) := by decide +kernel
theorem dX5_bidByPrice_91 : decode cX5_bidByPrice 91 = .ok (.iload_n 2, 1) := by decide +kernel
theorem dX5_bidByPrice_92 : decode cX5_bidByPrice 92 = .ok (.if_icmp .ge 7, 3) := by decide +kernel
theorem dX5_bidByPrice_95 : decode cX5_bidByPrice 95 = .ok (.iconst 1, 1) := by decide +kernel
theorem dX5_bidByPrice_96 : decode cX5_bidByPrice 96 = .ok (.goto 4, 3) := by decide +kernel
theorem dX5_bidByPrice_99 : decode cX5_bidByPrice 99 = .ok (.iconst 0, 1) := by decide +kernel
theorem dX5_bidByPrice_100 : decode cX5_bidByPrice 100 = .ok (.iadd, 1) := by decide +kernel
theorem dX5_bidByPrice_101 : decode cX5_bidByPrice 101 = .ok (.istore_n 3, 1) := by decide +kernel
theorem dX5_bidByPrice_102 : decode cX5_bidByPrice 102 = .ok (.iinc 4 1, 3) := by decide +kernel
theorem dX5_bidByPrice_105 : decode cX5_bidByPrice 105 = .ok (.goto (-81), 3) := by decide +kernel
theorem dX5_bidByPrice_108 : decode cX5_bidByPrice 108 = .ok (.aload_n 0, 1) := by decide +kernel
theorem dX5_bidByPrice_109 : decode cX5_bidByPrice 109 = .ok (.iload_n 3, 1) := by decide +kernel
theorem dX5_bidByPrice_110 : decode cX5_bidByPrice 110 = .ok (.iload_n 1, 1) := by decide +kernel
theorem dX5_bidByPrice_111 : decode cX5_bidByPrice 111 = .ok (.if_icmp .ne 7, 3) := by decide +kernel
theorem dX5_bidByPrice_114 : decode cX5_bidByPrice 114 = .ok (.iconst 1, 1) := by decide +kernel
theorem dX5_bidByPrice_115 : decode cX5_bidByPrice 115 = .ok (.goto 4, 3) := by decide +kernel
theorem dX5_bidByPrice_118 : decode cX5_bidByPrice 118 = .ok (.iconst 0, 1) := by decide +kernel
theorem dX5_bidByPrice_119 : decode cX5_bidByPrice 119 = .ok (.invokevirtual 49, 3) := by decide +kernel
theorem dX5_bidByPrice_122 : decode cX5_bidByPrice 122 = .ok (.ifCond .eq 5, 3) := by decide +kernel
theorem dX5_bidByPrice_125 : decode cX5_bidByPrice 125 = .ok (.iload_n 2, 1) := by decide +kernel
theorem dX5_bidByPrice_126 : decode cX5_bidByPrice 126 = .ok (.ireturn, 1) := by decide +kernel
theorem dX5_bidByPrice_127 : decode cX5_bidByPrice 127 = .ok (.iinc 2 1, 3) := by decide +kernel
theorem dX5_bidByPrice_130 : decode cX5_bidByPrice 130 = .ok (.goto (-128), 3) := by decide +kernel
theorem dX5_bidByPrice_133 : decode cX5_bidByPrice 133 = .ok (.aload_n 0, 1) := by decide +kernel
theorem dX5_bidByPrice_134 : decode cX5_bidByPrice 134 = .ok (.iconst 1, 1) := by decide +kernel
theorem dX5_bidByPrice_135 : decode cX5_bidByPrice 135 = .ok (.putfield 27, 3) := by decide +kernel
theorem dX5_bidByPrice_138 : decode cX5_bidByPrice 138 = .ok (.iconst 0, 1) := by decide +kernel
theorem dX5_bidByPrice_139 : decode cX5_bidByPrice 139 = .ok (.ireturn, 1) := by decide +kernel
theorem dX5_time_0 : decode cX5_time 0 = .ok (.aload_n 0, 1) := by decide +kernel
theorem dX5_time_1 : decode cX5_time 1 = .ok (.iconst 0, 1) := by decide +kernel
theorem dX5_time_2 : decode cX5_time 2 = .ok (.putfield 27, 3) := by decide +kernel
theorem dX5_time_5 : decode cX5_time 5 = .ok (.aload_n 0, 1) := by decide +kernel
theorem dX5_time_6 : decode cX5_time 6 = .ok (.getfield 9, 3) := by decide +kernel
theorem dX5_time_9 : decode cX5_time 9 = .ok (.iconst 4, 1) := by decide +kernel
theorem dX5_time_10 : decode cX5_time 10 = .ok (.iaload, 1) := by decide +kernel
theorem dX5_time_11 : decode cX5_time 11 = .ok (.ireturn, 1) := by decide +kernel
theorem dX5_incomeWithin_0 : decode cX5_incomeWithin 0 = .ok (.aload_n 0, 1) := by decide +kernel
theorem dX5_incomeWithin_1 : decode cX5_incomeWithin 1 = .ok (.iload_n 1, 1) := by decide +kernel
theorem dX5_incomeWithin_2 : decode cX5_incomeWithin 2 = .ok (.iconst 1, 1) := by decide +kernel
theorem dX5_incomeWithin_3 : decode cX5_incomeWithin 3 = .ok (.bipush 48, 2) := by decide +kernel
theorem dX5_incomeWithin_5 : decode cX5_incomeWithin 5 = .ok (.invokestatic 53, 3) := by decide +kernel
theorem dX5_incomeWithin_8 : decode cX5_incomeWithin 8 = .ok (.invokevirtual 49, 3) := by decide +kernel
theorem dX5_incomeWithin_11 : decode cX5_incomeWithin 11 = .ok (.ifCond .ne 5, 3) := by decide +kernel
theorem dX5_incomeWithin_14 : decode cX5_incomeWithin 14 = .ok (.iconst 0, 1) := by decide +kernel
theorem dX5_incomeWithin_15 : decode cX5_incomeWithin 15 = .ok (.ireturn, 1) := by decide +kernel
theorem dX5_incomeWithin_16 : decode cX5_incomeWithin 16 = .ok (.aload_n 0, 1) := by decide +kernel
theorem dX5_incomeWithin_17 : decode cX5_incomeWithin 17 = .ok (.iconst 0, 1) := by decide +kernel
theorem dX5_incomeWithin_18 : decode cX5_incomeWithin 18 = .ok (.bipush 11, 2) := by decide +kernel
theorem dX5_incomeWithin_20 : decode cX5_incomeWithin 20 = .ok (.invokevirtual 30, 3) := by decide +kernel
theorem dX5_incomeWithin_23 : decode cX5_incomeWithin 23 = .ok (.iconst 0, 1) := by decide +kernel
theorem dX5_incomeWithin_24 : decode cX5_incomeWithin 24 = .ok (.istore_n 2, 1) := by decide +kernel
theorem dX5_incomeWithin_25 : decode cX5_incomeWithin 25 = .ok (.iload_n 2, 1) := by decide +kernel
theorem dX5_incomeWithin_26 : decode cX5_incomeWithin 26 = .ok (.iload_n 1, 1) := by decide +kernel
theorem dX5_incomeWithin_27 : decode cX5_incomeWithin 27 = .ok (.if_icmp .ge 13, 3) := by decide +kernel
theorem dX5_incomeWithin_30 : decode cX5_incomeWithin 30 = .ok (.aload_n 0, 1) := by decide +kernel
theorem dX5_incomeWithin_31 : decode cX5_incomeWithin 31 = .ok (.invokevirtual 165, 3) := by decide +kernel
theorem dX5_incomeWithin_34 : decode cX5_incomeWithin 34 = .ok (.iinc 2 1, 3) := by decide +kernel
theorem dX5_incomeWithin_37 : decode cX5_incomeWithin 37 = .ok (.goto (-12), 3) := by decide +kernel
theorem dX5_incomeWithin_40 : decode cX5_incomeWithin 40 = .ok (.aload_n 0, 1) := by decide +kernel
theorem dX5_incomeWithin_41 : decode cX5_incomeWithin 41 = .ok (.getfield 9, 3) := by decide +kernel
theorem dX5_incomeWithin_44 : decode cX5_incomeWithin 44 = .ok (.bipush 8, 2) := by decide +kernel
theorem dX5_incomeWithin_46 : decode cX5_incomeWithin 46 = .ok (.iaload, 1) := by decide +kernel
theorem dX5_incomeWithin_47 : decode cX5_incomeWithin 47 = .ok (.aload_n 0, 1) := by decide +kernel
theorem dX5_incomeWithin_48 : decode cX5_incomeWithin 48 = .ok (.getfield 9, 3) := by decide +kernel
theorem dX5_incomeWithin_51 : decode cX5_incomeWithin 51 = .ok (.sipush 1427, 3) := by decide +kernel
theorem dX5_incomeWithin_54 : decode cX5_incomeWithin 54 = .ok (.iaload, 1) := by decide +kernel
theorem dX5_incomeWithin_55 : decode cX5_incomeWithin 55 = .ok (.isub, 1) := by decide +kernel
theorem dX5_incomeWithin_56 : decode cX5_incomeWithin 56 = .ok (.istore_n 2, 1) := by decide +kernel
theorem dX5_incomeWithin_57 : decode cX5_incomeWithin 57 = .ok (.aload_n 0, 1) := by decide +kernel
theorem dX5_incomeWithin_58 : decode cX5_incomeWithin 58 = .ok (.bipush 11, 2) := by decide +kernel
theorem dX5_incomeWithin_60 : decode cX5_incomeWithin 60 = .ok (.iconst 0, 1) := by decide +kernel
theorem dX5_incomeWithin_61 : decode cX5_incomeWithin 61 = .ok (.invokevirtual 30, 3) := by decide +kernel
theorem dX5_incomeWithin_64 : decode cX5_incomeWithin 64 = .ok (.iload_n 2, 1) := by decide +kernel
theorem dX5_incomeWithin_65 : decode cX5_incomeWithin 65 = .ok (.ireturn, 1) := by decide +kernel
theorem dX5_hoursToBid_0 : decode cX5_hoursToBid 0 = .ok (.iconst 0, 1) := by decide +kernel
theorem dX5_hoursToBid_1 : decode cX5_hoursToBid 1 = .ok (.istore_n 1, 1) := by decide +kernel
theorem dX5_hoursToBid_2 : decode cX5_hoursToBid 2 = .ok (.iload_n 1, 1) := by decide +kernel
theorem dX5_hoursToBid_3 : decode cX5_hoursToBid 3 = .ok (.bipush 24, 2) := by decide +kernel
theorem dX5_hoursToBid_5 : decode cX5_hoursToBid 5 = .ok (.if_icmp .ge 41, 3) := by decide +kernel
theorem dX5_hoursToBid_8 : decode cX5_hoursToBid 8 = .ok (.aload_n 0, 1) := by decide +kernel
theorem dX5_hoursToBid_9 : decode cX5_hoursToBid 9 = .ok (.aload_n 0, 1) := by decide +kernel
theorem dX5_hoursToBid_10 : decode cX5_hoursToBid 10 = .ok (.aload_n 0, 1) := by decide +kernel
theorem dX5_hoursToBid_11 : decode cX5_hoursToBid 11 = .ok (.getfield 9, 3) := by decide +kernel
theorem dX5_hoursToBid_14 : decode cX5_hoursToBid 14 = .ok (.iconst 4, 1) := by decide +kernel
theorem dX5_hoursToBid_15 : decode cX5_hoursToBid 15 = .ok (.iaload, 1) := by decide +kernel
theorem dX5_hoursToBid_16 : decode cX5_hoursToBid 16 = .ok (.iload_n 1, 1) := by decide +kernel
theorem dX5_hoursToBid_17 : decode cX5_hoursToBid 17 = .ok (.iadd, 1) := by decide +kernel
theorem dX5_hoursToBid_18 : decode cX5_hoursToBid 18 = .ok (.bipush 24, 2) := by decide +kernel
theorem dX5_hoursToBid_20 : decode cX5_hoursToBid 20 = .ok (.irem, 1) := by decide +kernel
theorem dX5_hoursToBid_21 : decode cX5_hoursToBid 21 = .ok (.invokevirtual 147, 3) := by decide +kernel
theorem dX5_hoursToBid_24 : decode cX5_hoursToBid 24 = .ok (.ifCond .le 7, 3) := by decide +kernel
theorem dX5_hoursToBid_27 : decode cX5_hoursToBid 27 = .ok (.iconst 1, 1) := by decide +kernel
theorem dX5_hoursToBid_28 : decode cX5_hoursToBid 28 = .ok (.goto 4, 3) := by decide +kernel
theorem dX5_hoursToBid_31 : decode cX5_hoursToBid 31 = .ok (.iconst 0, 1) := by decide +kernel
theorem dX5_hoursToBid_32 : decode cX5_hoursToBid 32 = .ok (.invokevirtual 49, 3) := by decide +kernel
theorem dX5_hoursToBid_35 : decode cX5_hoursToBid 35 = .ok (.ifCond .eq 5, 3) := by decide +kernel
theorem dX5_hoursToBid_38 : decode cX5_hoursToBid 38 = .ok (.iload_n 1, 1) := by decide +kernel
theorem dX5_hoursToBid_39 : decode cX5_hoursToBid 39 = .ok (.ireturn, 1) := by decide +kernel
theorem dX5_hoursToBid_40 : decode cX5_hoursToBid 40 = .ok (.iinc 1 1, 3) := by decide +kernel
theorem dX5_hoursToBid_43 : decode cX5_hoursToBid 43 = .ok (.goto (-41), 3) := by decide +kernel
theorem dX5_hoursToBid_46 : decode cX5_hoursToBid 46 = .ok (.aload_n 0, 1) := by decide +kernel
theorem dX5_hoursToBid_47 : decode cX5_hoursToBid 47 = .ok (.iconst 1, 1) := by decide +kernel
theorem dX5_hoursToBid_48 : decode cX5_hoursToBid 48 = .ok (.putfield 27, 3) := by decide +kernel
theorem dX5_hoursToBid_51 : decode cX5_hoursToBid 51 = .ok (.iconst 0, 1) := by decide +kernel
theorem dX5_hoursToBid_52 : decode cX5_hoursToBid 52 = .ok (.ireturn, 1) := by decide +kernel
theorem dX5_energyMade_0 : decode cX5_energyMade 0 = .ok (.aload_n 0, 1) := by decide +kernel
theorem dX5_energyMade_1 : decode cX5_energyMade 1 = .ok (.iconst 0, 1) := by decide +kernel
theorem dX5_energyMade_2 : decode cX5_energyMade 2 = .ok (.putfield 27, 3) := by decide +kernel
theorem dX5_energyMade_5 : decode cX5_energyMade 5 = .ok (.aload_n 0, 1) := by decide +kernel
theorem dX5_energyMade_6 : decode cX5_energyMade 6 = .ok (.getfield 9, 3) := by decide +kernel
theorem dX5_energyMade_9 : decode cX5_energyMade 9 = .ok (.iconst 5, 1) := by decide +kernel
theorem dX5_energyMade_10 : decode cX5_energyMade 10 = .ok (.iaload, 1) := by decide +kernel
theorem dX5_energyMade_11 : decode cX5_energyMade 11 = .ok (.i2l, 1) := by decide +kernel
theorem dX5_energyMade_12 : decode cX5_energyMade 12 = .ok (.lreturn, 1) := by decide +kernel
theorem dX5_energyLost_0 : decode cX5_energyLost 0 = .ok (.aload_n 0, 1) := by decide +kernel
theorem dX5_energyLost_1 : decode cX5_energyLost 1 = .ok (.iconst 0, 1) := by decide +kernel
theorem dX5_energyLost_2 : decode cX5_energyLost 2 = .ok (.putfield 27, 3) := by decide +kernel
theorem dX5_energyLost_5 : decode cX5_energyLost 5 = .ok (.aload_n 0, 1) := by decide +kernel
theorem dX5_energyLost_6 : decode cX5_energyLost 6 = .ok (.getfield 9, 3) := by decide +kernel
theorem dX5_energyLost_9 : decode cX5_energyLost 9 = .ok (.bipush 6, 2) := by decide +kernel
theorem dX5_energyLost_11 : decode cX5_energyLost 11 = .ok (.iaload, 1) := by decide +kernel
theorem dX5_energyLost_12 : decode cX5_energyLost 12 = .ok (.i2l, 1) := by decide +kernel
theorem dX5_energyLost_13 : decode cX5_energyLost 13 = .ok (.lreturn, 1) := by decide +kernel
theorem dX5_energySold_0 : decode cX5_energySold 0 = .ok (.aload_n 0, 1) := by decide +kernel
theorem dX5_energySold_1 : decode cX5_energySold 1 = .ok (.iconst 0, 1) := by decide +kernel
theorem dX5_energySold_2 : decode cX5_energySold 2 = .ok (.putfield 27, 3) := by decide +kernel
theorem dX5_energySold_5 : decode cX5_energySold 5 = .ok (.aload_n 0, 1) := by decide +kernel
theorem dX5_energySold_6 : decode cX5_energySold 6 = .ok (.getfield 9, 3) := by decide +kernel
theorem dX5_energySold_9 : decode cX5_energySold 9 = .ok (.bipush 7, 2) := by decide +kernel
theorem dX5_energySold_11 : decode cX5_energySold 11 = .ok (.iaload, 1) := by decide +kernel
theorem dX5_energySold_12 : decode cX5_energySold 12 = .ok (.i2l, 1) := by decide +kernel
theorem dX5_energySold_13 : decode cX5_energySold 13 = .ok (.lreturn, 1) := by decide +kernel
theorem dX5_energySpilled_0 : decode cX5_energySpilled 0 = .ok (.aload_n 0, 1) := by decide +kernel
theorem dX5_energySpilled_1 : decode cX5_energySpilled 1 = .ok (.iconst 0, 1) := by decide +kernel
theorem dX5_energySpilled_2 : decode cX5_energySpilled 2 = .ok (.putfield 27, 3) := by decide +kernel
theorem dX5_energySpilled_5 : decode cX5_energySpilled 5 = .ok (.aload_n 0, 1) := by decide +kernel
theorem dX5_energySpilled_6 : decode cX5_energySpilled 6 = .ok (.getfield 9, 3) := by decide +kernel
theorem dX5_energySpilled_9 : decode cX5_energySpilled 9 = .ok (.iconst 5, 1) := by decide +kernel
theorem dX5_energySpilled_10 : decode cX5_energySpilled 10 = .ok (.iaload, 1) := by decide +kernel
theorem dX5_energySpilled_11 : decode cX5_energySpilled 11 = .ok (.aload_n 0, 1) := by decide +kernel
theorem dX5_energySpilled_12 : decode cX5_energySpilled 12 = .ok (.getfield 9, 3) := by decide +kernel
theorem dX5_energySpilled_15 : decode cX5_energySpilled 15 = .ok (.bipush 6, 2) := by decide +kernel
theorem dX5_energySpilled_17 : decode cX5_energySpilled 17 = .ok (.iaload, 1) := by decide +kernel
theorem dX5_energySpilled_18 : decode cX5_energySpilled 18 = .ok (.isub, 1) := by decide +kernel
theorem dX5_energySpilled_19 : decode cX5_energySpilled 19 = .ok (.aload_n 0, 1) := by decide +kernel
theorem dX5_energySpilled_20 : decode cX5_energySpilled 20 = .ok (.getfield 9, 3) := by decide +kernel
theorem dX5_energySpilled_23 : decode cX5_energySpilled 23 = .ok (.bipush 7, 2) := by decide +kernel
theorem dX5_energySpilled_25 : decode cX5_energySpilled 25 = .ok (.iaload, 1) := by decide +kernel
theorem dX5_energySpilled_26 : decode cX5_energySpilled 26 = .ok (.isub, 1) := by decide +kernel
theorem dX5_energySpilled_27 : decode cX5_energySpilled 27 = .ok (.i2l, 1) := by decide +kernel
theorem dX5_energySpilled_28 : decode cX5_energySpilled 28 = .ok (.lreturn, 1) := by decide +kernel
theorem dX5_coins_0 : decode cX5_coins 0 = .ok (.aload_n 0, 1) := by decide +kernel
theorem dX5_coins_1 : decode cX5_coins 1 = .ok (.iconst 0, 1) := by decide +kernel
theorem dX5_coins_2 : decode cX5_coins 2 = .ok (.putfield 27, 3) := by decide +kernel
theorem dX5_coins_5 : decode cX5_coins 5 = .ok (.aload_n 0, 1) := by decide +kernel
theorem dX5_coins_6 : decode cX5_coins 6 = .ok (.getfield 9, 3) := by decide +kernel
theorem dX5_coins_9 : decode cX5_coins 9 = .ok (.bipush 8, 2) := by decide +kernel
theorem dX5_coins_11 : decode cX5_coins 11 = .ok (.iaload, 1) := by decide +kernel
theorem dX5_coins_12 : decode cX5_coins 12 = .ok (.i2l, 1) := by decide +kernel
theorem dX5_coins_13 : decode cX5_coins 13 = .ok (.lreturn, 1) := by decide +kernel
theorem dX5_turbineByOutput_0 : decode cX5_turbineByOutput 0 = .ok (.iconst 0, 1) := by decide +kernel
theorem dX5_turbineByOutput_1 : decode cX5_turbineByOutput 1 = .ok (.istore_n 2, 1) := by decide +kernel
theorem dX5_turbineByOutput_2 : decode cX5_turbineByOutput 2 = .ok (.iload_n 2, 1) := by decide +kernel
theorem dX5_turbineByOutput_3 : decode cX5_turbineByOutput 3 = .ok (.aload_n 0, 1) := by decide +kernel
theorem dX5_turbineByOutput_4 : decode cX5_turbineByOutput 4 = .ok (.getfield 9, 3) := by decide +kernel
theorem dX5_turbineByOutput_7 : decode cX5_turbineByOutput 7 = .ok (.iconst 0, 1) := by decide +kernel
theorem dX5_turbineByOutput_8 : decode cX5_turbineByOutput 8 = .ok (.iaload, 1) := by decide +kernel
theorem dX5_turbineByOutput_9 : decode cX5_turbineByOutput 9 = .ok (.if_icmp .ge 114, 3) := by decide +kernel
theorem dX5_turbineByOutput_12 : decode cX5_turbineByOutput 12 = .ok (.iconst 0, 1) := by decide +kernel
theorem dX5_turbineByOutput_13 : decode cX5_turbineByOutput 13 = .ok (.istore_n 3, 1) := by decide +kernel
theorem dX5_turbineByOutput_14 : decode cX5_turbineByOutput 14 = .ok (.iconst 0, 1) := by decide +kernel
theorem dX5_turbineByOutput_15 : decode cX5_turbineByOutput 15 = .ok (.istore 4, 2) := by decide +kernel
theorem dX5_turbineByOutput_17 : decode cX5_turbineByOutput 17 = .ok (.iload 4, 2) := by decide +kernel
theorem dX5_turbineByOutput_19 : decode cX5_turbineByOutput 19 = .ok (.aload_n 0, 1) := by decide +kernel
theorem dX5_turbineByOutput_20 : decode cX5_turbineByOutput 20 = .ok (.getfield 9, 3) := by decide +kernel
theorem dX5_turbineByOutput_23 : decode cX5_turbineByOutput 23 = .ok (.iconst 0, 1) := by decide +kernel
theorem dX5_turbineByOutput_24 : decode cX5_turbineByOutput 24 = .ok (.iaload, 1) := by decide +kernel
theorem dX5_turbineByOutput_25 : decode cX5_turbineByOutput 25 = .ok (.if_icmp .ge 73, 3) := by decide +kernel
theorem dX5_turbineByOutput_28 : decode cX5_turbineByOutput 28 = .ok (.aload_n 0, 1) := by decide +kernel
theorem dX5_turbineByOutput_29 : decode cX5_turbineByOutput 29 = .ok (.iload 4, 2) := by decide +kernel
theorem dX5_turbineByOutput_31 : decode cX5_turbineByOutput 31 = .ok (.invokevirtual 77, 3) := by decide +kernel
theorem dX5_turbineByOutput_34 : decode cX5_turbineByOutput 34 = .ok (.aload_n 0, 1) := by decide +kernel
theorem dX5_turbineByOutput_35 : decode cX5_turbineByOutput 35 = .ok (.iload_n 2, 1) := by decide +kernel
theorem dX5_turbineByOutput_36 : decode cX5_turbineByOutput 36 = .ok (.invokevirtual 77, 3) := by decide +kernel
theorem dX5_turbineByOutput_39 : decode cX5_turbineByOutput 39 = .ok (.isub, 1) := by decide +kernel
theorem dX5_turbineByOutput_40 : decode cX5_turbineByOutput 40 = .ok (.istore 5, 2) := by decide +kernel
theorem dX5_turbineByOutput_42 : decode cX5_turbineByOutput 42 = .ok (.aload_n 0, 1) := by decide +kernel
theorem dX5_turbineByOutput_43 : decode cX5_turbineByOutput 43 = .ok (.iload 4, 2) := by decide +kernel
theorem dX5_turbineByOutput_45 : decode cX5_turbineByOutput 45 = .ok (.iconst 2, 1) := by decide +kernel
theorem dX5_turbineByOutput_46 : decode cX5_turbineByOutput 46 = .ok (.invokevirtual 57, 3) := by decide +kernel
theorem dX5_turbineByOutput_49 : decode cX5_turbineByOutput 49 = .ok (.aload_n 0, 1) := by decide +kernel
theorem dX5_turbineByOutput_50 : decode cX5_turbineByOutput 50 = .ok (.iload_n 2, 1) := by decide +kernel
theorem dX5_turbineByOutput_51 : decode cX5_turbineByOutput 51 = .ok (.iconst 2, 1) := by decide +kernel
theorem dX5_turbineByOutput_52 : decode cX5_turbineByOutput 52 = .ok (.invokevirtual 57, 3) := by decide +kernel
theorem dX5_turbineByOutput_55 : decode cX5_turbineByOutput 55 = .ok (.isub, 1) := by decide +kernel
theorem dX5_turbineByOutput_56 : decode cX5_turbineByOutput 56 = .ok (.istore 6, 2) := by decide +kernel
theorem dX5_turbineByOutput_58 : decode cX5_turbineByOutput 58 = .ok (.iload_n 3, 1) := by decide +kernel
theorem dX5_turbineByOutput_59 : decode cX5_turbineByOutput 59 = .ok (.iload 5, 2) := by decide +kernel
theorem dX5_turbineByOutput_61 : decode cX5_turbineByOutput 61 = .ok (.ifCond .gt 24, 3) := by decide +kernel
theorem dX5_turbineByOutput_64 : decode cX5_turbineByOutput 64 = .ok (.iload 5, 2) := by decide +kernel
theorem dX5_turbineByOutput_66 : decode cX5_turbineByOutput 66 = .ok (.ifCond .ne 23, 3) := by decide +kernel
theorem dX5_turbineByOutput_69 : decode cX5_turbineByOutput 69 = .ok (.iload 6, 2) := by decide +kernel
theorem dX5_turbineByOutput_71 : decode cX5_turbineByOutput 71 = .ok (.ifCond .gt 14, 3) := by decide +kernel
theorem dX5_turbineByOutput_74 : decode cX5_turbineByOutput 74 = .ok (.iload 6, 2) := by decide +kernel
theorem dX5_turbineByOutput_76 : decode cX5_turbineByOutput 76 = .ok (.ifCond .ne 13, 3) := by decide +kernel
theorem dX5_turbineByOutput_79 : decode cX5_turbineByOutput 79 = .ok (.iload 4, 2) := by decide +kernel
theorem dX5_turbineByOutput_81 : decode cX5_turbineByOutput 81 = .ok (.iload_n 2, 1) := by decide +kernel
theorem dX5_turbineByOutput_82 : decode cX5_turbineByOutput 82 = .ok (.if_icmp .ge 7, 3) := by decide +kernel
theorem dX5_turbineByOutput_85 : decode cX5_turbineByOutput 85 = .ok (.iconst 1, 1) := by decide +kernel
theorem dX5_turbineByOutput_86 : decode cX5_turbineByOutput 86 = .ok (.goto 4, 3) := by decide +kernel
theorem dX5_turbineByOutput_89 : decode cX5_turbineByOutput 89 = .ok (.iconst 0, 1) := by decide +kernel
theorem dX5_turbineByOutput_90 : decode cX5_turbineByOutput 90 = .ok (.iadd, 1) := by decide +kernel
theorem dX5_turbineByOutput_91 : decode cX5_turbineByOutput 91 = .ok (.istore_n 3, 1) := by decide +kernel
theorem dX5_turbineByOutput_92 : decode cX5_turbineByOutput 92 = .ok (.iinc 4 1, 3) := by decide +kernel
theorem dX5_turbineByOutput_95 : decode cX5_turbineByOutput 95 = .ok (.goto (-78), 3) := by decide +kernel
theorem dX5_turbineByOutput_98 : decode cX5_turbineByOutput 98 = .ok (.aload_n 0, 1) := by decide +kernel
theorem dX5_turbineByOutput_99 : decode cX5_turbineByOutput 99 = .ok (.iload_n 3, 1) := by decide +kernel
theorem dX5_turbineByOutput_100 : decode cX5_turbineByOutput 100 = .ok (.iload_n 1, 1) := by decide +kernel
theorem dX5_turbineByOutput_101 : decode cX5_turbineByOutput 101 = .ok (.if_icmp .ne 7, 3) := by decide +kernel
theorem dX5_turbineByOutput_104 : decode cX5_turbineByOutput 104 = .ok (.iconst 1, 1) := by decide +kernel
theorem dX5_turbineByOutput_105 : decode cX5_turbineByOutput 105 = .ok (.goto 4, 3) := by decide +kernel
theorem dX5_turbineByOutput_108 : decode cX5_turbineByOutput 108 = .ok (.iconst 0, 1) := by decide +kernel
theorem dX5_turbineByOutput_109 : decode cX5_turbineByOutput 109 = .ok (.invokevirtual 49, 3) := by decide +kernel
theorem dX5_turbineByOutput_112 : decode cX5_turbineByOutput 112 = .ok (.ifCond .eq 5, 3) := by decide +kernel
theorem dX5_turbineByOutput_115 : decode cX5_turbineByOutput 115 = .ok (.iload_n 2, 1) := by decide +kernel
theorem dX5_turbineByOutput_116 : decode cX5_turbineByOutput 116 = .ok (.ireturn, 1) := by decide +kernel
theorem dX5_turbineByOutput_117 : decode cX5_turbineByOutput 117 = .ok (.iinc 2 1, 3) := by decide +kernel
theorem dX5_turbineByOutput_120 : decode cX5_turbineByOutput 120 = .ok (.goto (-118), 3) := by decide +kernel
theorem dX5_turbineByOutput_123 : decode cX5_turbineByOutput 123 = .ok (.aload_n 0, 1) := by decide +kernel
theorem dX5_turbineByOutput_124 : decode cX5_turbineByOutput 124 = .ok (.iconst 1, 1) := by decide +kernel
theorem dX5_turbineByOutput_125 : decode cX5_turbineByOutput 125 = .ok (.putfield 27, 3) := by decide +kernel
theorem dX5_turbineByOutput_128 : decode cX5_turbineByOutput 128 = .ok (.iconst 0, 1) := by decide +kernel
theorem dX5_turbineByOutput_129 : decode cX5_turbineByOutput 129 = .ok (.ireturn, 1) := by decide +kernel
theorem dX5_meanOutput_0 : decode cX5_meanOutput 0 = .ok (.aload_n 0, 1) := by decide +kernel
theorem dX5_meanOutput_1 : decode cX5_meanOutput 1 = .ok (.aload_n 0, 1) := by decide +kernel
theorem dX5_meanOutput_2 : decode cX5_meanOutput 2 = .ok (.getfield 9, 3) := by decide +kernel
theorem dX5_meanOutput_5 : decode cX5_meanOutput 5 = .ok (.iconst 0, 1) := by decide +kernel
theorem dX5_meanOutput_6 : decode cX5_meanOutput 6 = .ok (.iaload, 1) := by decide +kernel
theorem dX5_meanOutput_7 : decode cX5_meanOutput 7 = .ok (.ifCond .le 7, 3) := by decide +kernel
theorem dX5_meanOutput_10 : decode cX5_meanOutput 10 = .ok (.iconst 1, 1) := by decide +kernel
theorem dX5_meanOutput_11 : decode cX5_meanOutput 11 = .ok (.goto 4, 3) := by decide +kernel
theorem dX5_meanOutput_14 : decode cX5_meanOutput 14 = .ok (.iconst 0, 1) := by decide +kernel
theorem dX5_meanOutput_15 : decode cX5_meanOutput 15 = .ok (.invokevirtual 49, 3) := by decide +kernel
theorem dX5_meanOutput_18 : decode cX5_meanOutput 18 = .ok (.ifCond .eq 19, 3) := by decide +kernel
theorem dX5_meanOutput_21 : decode cX5_meanOutput 21 = .ok (.aload_n 0, 1) := by decide +kernel
theorem dX5_meanOutput_22 : decode cX5_meanOutput 22 = .ok (.invokevirtual 129, 3) := by decide +kernel
theorem dX5_meanOutput_25 : decode cX5_meanOutput 25 = .ok (.i2d, 1) := by decide +kernel
theorem dX5_meanOutput_26 : decode cX5_meanOutput 26 = .ok (.aload_n 0, 1) := by decide +kernel
theorem dX5_meanOutput_27 : decode cX5_meanOutput 27 = .ok (.getfield 9, 3) := by decide +kernel
theorem dX5_meanOutput_30 : decode cX5_meanOutput 30 = .ok (.iconst 0, 1) := by decide +kernel
theorem dX5_meanOutput_31 : decode cX5_meanOutput 31 = .ok (.iaload, 1) := by decide +kernel
theorem dX5_meanOutput_32 : decode cX5_meanOutput 32 = .ok (.i2d, 1) := by decide +kernel
theorem dX5_meanOutput_33 : decode cX5_meanOutput 33 = .ok (.ddiv, 1) := by decide +kernel
theorem dX5_meanOutput_34 : decode cX5_meanOutput 34 = .ok (.goto 4, 3) := by decide +kernel
theorem dX5_meanOutput_37 : decode cX5_meanOutput 37 = .ok (.dconst 0, 1) := by decide +kernel
theorem dX5_meanOutput_38 : decode cX5_meanOutput 38 = .ok (.dreturn, 1) := by decide +kernel
theorem dX5_runningShare_0 : decode cX5_runningShare 0 = .ok (.aload_n 0, 1) := by decide +kernel
theorem dX5_runningShare_1 : decode cX5_runningShare 1 = .ok (.aload_n 0, 1) := by decide +kernel
theorem dX5_runningShare_2 : decode cX5_runningShare 2 = .ok (.getfield 9, 3) := by decide +kernel
theorem dX5_runningShare_5 : decode cX5_runningShare 5 = .ok (.iconst 0, 1) := by decide +kernel
theorem dX5_runningShare_6 : decode cX5_runningShare 6 = .ok (.iaload, 1) := by decide +kernel
theorem dX5_runningShare_7 : decode cX5_runningShare 7 = .ok (.ifCond .le 7, 3) := by decide +kernel
theorem dX5_runningShare_10 : decode cX5_runningShare 10 = .ok (.iconst 1, 1) := by decide +kernel
theorem dX5_runningShare_11 : decode cX5_runningShare 11 = .ok (.goto 4, 3) := by decide +kernel
theorem dX5_runningShare_14 : decode cX5_runningShare 14 = .ok (.iconst 0, 1) := by decide +kernel
theorem dX5_runningShare_15 : decode cX5_runningShare 15 = .ok (.invokevirtual 49, 3) := by decide +kernel
theorem dX5_runningShare_18 : decode cX5_runningShare 18 = .ok (.ifCond .eq 20, 3) := by decide +kernel
theorem dX5_runningShare_21 : decode cX5_runningShare 21 = .ok (.aload_n 0, 1) := by decide +kernel
theorem dX5_runningShare_22 : decode cX5_runningShare 22 = .ok (.iconst 0, 1) := by decide +kernel
theorem dX5_runningShare_23 : decode cX5_runningShare 23 = .ok (.invokevirtual 107, 3) := by decide +kernel
theorem dX5_runningShare_26 : decode cX5_runningShare 26 = .ok (.i2f, 1) := by decide +kernel
theorem dX5_runningShare_27 : decode cX5_runningShare 27 = .ok (.aload_n 0, 1) := by decide +kernel
theorem dX5_runningShare_28 : decode cX5_runningShare 28 = .ok (.getfield 9, 3) := by decide +kernel
theorem dX5_runningShare_31 : decode cX5_runningShare 31 = .ok (.iconst 0, 1) := by decide +kernel
theorem dX5_runningShare_32 : decode cX5_runningShare 32 = .ok (.iaload, 1) := by decide +kernel
theorem dX5_runningShare_33 : decode cX5_runningShare 33 = .ok (.i2f, 1) := by decide +kernel
theorem dX5_runningShare_34 : decode cX5_runningShare 34 = .ok (.fdiv, 1) := by decide +kernel
theorem dX5_runningShare_35 : decode cX5_runningShare 35 = .ok (.goto 4, 3) := by decide +kernel
theorem dX5_runningShare_38 : decode cX5_runningShare 38 = .ok (.fconst 0, 1) := by decide +kernel
theorem dX5_runningShare_39 : decode cX5_runningShare 39 = .ok (.freturn, 1) := by decide +kernel
theorem dX5_isConsistent_0 : decode cX5_isConsistent 0 = .ok (.aload_n 0, 1) := by decide +kernel
theorem dX5_isConsistent_1 : decode cX5_isConsistent 1 = .ok (.iconst 0, 1) := by decide +kernel
theorem dX5_isConsistent_2 : decode cX5_isConsistent 2 = .ok (.putfield 27, 3) := by decide +kernel
theorem dX5_isConsistent_5 : decode cX5_isConsistent 5 = .ok (.iconst 1, 1) := by decide +kernel
theorem dX5_isConsistent_6 : decode cX5_isConsistent 6 = .ok (.ireturn, 1) := by decide +kernel
theorem dX5_writes_0 : decode cX5_writes 0 = .ok (.aload_n 0, 1) := by decide +kernel
theorem dX5_writes_1 : decode cX5_writes 1 = .ok (.getfield 13, 3) := by decide +kernel
theorem dX5_writes_4 : decode cX5_writes 4 = .ok (.aload_n 0, 1) := by decide +kernel
theorem dX5_writes_5 : decode cX5_writes 5 = .ok (.getfield 187, 3) := by decide +kernel
theorem dX5_writes_8 : decode cX5_writes 8 = .ok (.iload_n 1, 1) := by decide +kernel
theorem dX5_writes_9 : decode cX5_writes 9 = .ok (.i2c, 1) := by decide +kernel
theorem dX5_writes_10 : decode cX5_writes 10 = .ok (.castore, 1) := by decide +kernel
theorem dX5_writes_11 : decode cX5_writes 11 = .ok (.aload_n 0, 1) := by decide +kernel
theorem dX5_writes_12 : decode cX5_writes 12 = .ok (.dup, 1) := by decide +kernel
theorem dX5_writes_13 : decode cX5_writes 13 = .ok (.getfield 187, 3) := by decide +kernel
theorem dX5_writes_16 : decode cX5_writes 16 = .ok (.iconst 1, 1) := by decide +kernel
theorem dX5_writes_17 : decode cX5_writes 17 = .ok (.iadd, 1) := by decide +kernel
theorem dX5_writes_18 : decode cX5_writes 18 = .ok (.putfield 187, 3) := by decide +kernel
theorem dX5_writes_21 : decode cX5_writes 21 = .ok (.return_, 1) := by decide +kernel
theorem dX5_writesNumber_0 : decode cX5_writesNumber 0 = .ok (.iload_n 1, 1) := by decide +kernel
theorem dX5_writesNumber_1 : decode cX5_writesNumber 1 = .ok (.bipush 9, 2) := by decide +kernel
theorem dX5_writesNumber_3 : decode cX5_writesNumber 3 = .ok (.if_icmp .le 11, 3) := by decide +kernel
theorem dX5_writesNumber_6 : decode cX5_writesNumber 6 = .ok (.aload_n 0, 1) := by decide +kernel
theorem dX5_writesNumber_7 : decode cX5_writesNumber 7 = .ok (.iload_n 1, 1) := by decide +kernel
theorem dX5_writesNumber_8 : decode cX5_writesNumber 8 = .ok (.bipush 10, 2) := by decide +kernel
theorem dX5_writesNumber_10 : decode cX5_writesNumber 10 = .ok (.idiv, 1) := by decide +kernel
theorem dX5_writesNumber_11 : decode cX5_writesNumber 11 = .ok (.invokevirtual 190, 3) := by decide +kernel
theorem dX5_writesNumber_14 : decode cX5_writesNumber 14 = .ok (.aload_n 0, 1) := by decide +kernel
theorem dX5_writesNumber_15 : decode cX5_writesNumber 15 = .ok (.bipush 48, 2) := by decide +kernel
theorem dX5_writesNumber_17 : decode cX5_writesNumber 17 = .ok (.iload_n 1, 1) := by decide +kernel
theorem dX5_writesNumber_18 : decode cX5_writesNumber 18 = .ok (.bipush 10, 2) := by decide +kernel
theorem dX5_writesNumber_20 : decode cX5_writesNumber 20 = .ok (.irem, 1) := by decide +kernel
theorem dX5_writesNumber_21 : decode cX5_writesNumber 21 = .ok (.iadd, 1) := by decide +kernel
theorem dX5_writesNumber_22 : decode cX5_writesNumber 22 = .ok (.invokevirtual 194, 3) := by decide +kernel
theorem dX5_writesNumber_25 : decode cX5_writesNumber 25 = .ok (.return_, 1) := by decide +kernel
theorem dX5_writesBehind_0 : decode cX5_writesBehind 0 = .ok (.aload_n 0, 1) := by decide +kernel
theorem dX5_writesBehind_1 : decode cX5_writesBehind 1 = .ok (.iload_n 1, 1) := by decide +kernel
theorem dX5_writesBehind_2 : decode cX5_writesBehind 2 = .ok (.invokevirtual 194, 3) := by decide +kernel
theorem dX5_writesBehind_5 : decode cX5_writesBehind 5 = .ok (.aload_n 0, 1) := by decide +kernel
theorem dX5_writesBehind_6 : decode cX5_writesBehind 6 = .ok (.iload_n 2, 1) := by decide +kernel
theorem dX5_writesBehind_7 : decode cX5_writesBehind 7 = .ok (.invokevirtual 190, 3) := by decide +kernel
theorem dX5_writesBehind_10 : decode cX5_writesBehind 10 = .ok (.return_, 1) := by decide +kernel
theorem dX5_writeTurbine_0 : decode cX5_writeTurbine 0 = .ok (.aload_n 0, 1) := by decide +kernel
theorem dX5_writeTurbine_1 : decode cX5_writeTurbine 1 = .ok (.aload_n 0, 1) := by decide +kernel
theorem dX5_writeTurbine_2 : decode cX5_writeTurbine 2 = .ok (.iload_n 1, 1) := by decide +kernel
theorem dX5_writeTurbine_3 : decode cX5_writeTurbine 3 = .ok (.invokevirtual 103, 3) := by decide +kernel
theorem dX5_writeTurbine_6 : decode cX5_writeTurbine 6 = .ok (.invokevirtual 49, 3) := by decide +kernel
theorem dX5_writeTurbine_9 : decode cX5_writeTurbine 9 = .ok (.ifCond .ne 5, 3) := by decide +kernel
theorem dX5_writeTurbine_12 : decode cX5_writeTurbine 12 = .ok (.iconst 0, 1) := by decide +kernel
theorem dX5_writeTurbine_13 : decode cX5_writeTurbine 13 = .ok (.ireturn, 1) := by decide +kernel
theorem dX5_writeTurbine_14 : decode cX5_writeTurbine 14 = .ok (.aload_n 0, 1) := by decide +kernel
theorem dX5_writeTurbine_15 : decode cX5_writeTurbine 15 = .ok (.iconst 0, 1) := by decide +kernel
theorem dX5_writeTurbine_16 : decode cX5_writeTurbine 16 = .ok (.putfield 187, 3) := by decide +kernel
theorem dX5_writeTurbine_19 : decode cX5_writeTurbine 19 = .ok (.aload_n 0, 1) := by decide +kernel
theorem dX5_writeTurbine_20 : decode cX5_writeTurbine 20 = .ok (.iload_n 1, 1) := by decide +kernel
theorem dX5_writeTurbine_21 : decode cX5_writeTurbine 21 = .ok (.invokevirtual 190, 3) := by decide +kernel
theorem dX5_writeTurbine_24 : decode cX5_writeTurbine 24 = .ok (.aload_n 0, 1) := by decide +kernel
theorem dX5_writeTurbine_25 : decode cX5_writeTurbine 25 = .ok (.bipush 64, 2) := by decide +kernel
theorem dX5_writeTurbine_27 : decode cX5_writeTurbine 27 = .ok (.aload_n 0, 1) := by decide +kernel
theorem dX5_writeTurbine_28 : decode cX5_writeTurbine 28 = .ok (.iload_n 1, 1) := by decide +kernel
theorem dX5_writeTurbine_29 : decode cX5_writeTurbine 29 = .ok (.iconst 0, 1) := by decide +kernel
theorem dX5_writeTurbine_30 : decode cX5_writeTurbine 30 = .ok (.invokevirtual 57, 3) := by decide +kernel
theorem dX5_writeTurbine_33 : decode cX5_writeTurbine 33 = .ok (.invokevirtual 197, 3) := by decide +kernel
theorem dX5_writeTurbine_36 : decode cX5_writeTurbine 36 = .ok (.aload_n 0, 1) := by decide +kernel
theorem dX5_writeTurbine_37 : decode cX5_writeTurbine 37 = .ok (.bipush 44, 2) := by decide +kernel
theorem dX5_writeTurbine_39 : decode cX5_writeTurbine 39 = .ok (.aload_n 0, 1) := by decide +kernel
theorem dX5_writeTurbine_40 : decode cX5_writeTurbine 40 = .ok (.iload_n 1, 1) := by decide +kernel
theorem dX5_writeTurbine_41 : decode cX5_writeTurbine 41 = .ok (.iconst 1, 1) := by decide +kernel
theorem dX5_writeTurbine_42 : decode cX5_writeTurbine 42 = .ok (.invokevirtual 57, 3) := by decide +kernel
theorem dX5_writeTurbine_45 : decode cX5_writeTurbine 45 = .ok (.invokevirtual 197, 3) := by decide +kernel
theorem dX5_writeTurbine_48 : decode cX5_writeTurbine 48 = .ok (.aload_n 0, 1) := by decide +kernel
theorem dX5_writeTurbine_49 : decode cX5_writeTurbine 49 = .ok (.bipush 112, 2) := by decide +kernel
theorem dX5_writeTurbine_51 : decode cX5_writeTurbine 51 = .ok (.aload_n 0, 1) := by decide +kernel
theorem dX5_writeTurbine_52 : decode cX5_writeTurbine 52 = .ok (.iload_n 1, 1) := by decide +kernel
theorem dX5_writeTurbine_53 : decode cX5_writeTurbine 53 = .ok (.iconst 2, 1) := by decide +kernel
theorem dX5_writeTurbine_54 : decode cX5_writeTurbine 54 = .ok (.invokevirtual 57, 3) := by decide +kernel
theorem dX5_writeTurbine_57 : decode cX5_writeTurbine 57 = .ok (.invokevirtual 197, 3) := by decide +kernel
theorem dX5_writeTurbine_60 : decode cX5_writeTurbine 60 = .ok (.aload_n 0, 1) := by decide +kernel
theorem dX5_writeTurbine_61 : decode cX5_writeTurbine 61 = .ok (.bipush 61, 2) := by decide +kernel
theorem dX5_writeTurbine_63 : decode cX5_writeTurbine 63 = .ok (.aload_n 0, 1) := by decide +kernel
theorem dX5_writeTurbine_64 : decode cX5_writeTurbine 64 = .ok (.iload_n 1, 1) := by decide +kernel
theorem dX5_writeTurbine_65 : decode cX5_writeTurbine 65 = .ok (.invokevirtual 77, 3) := by decide +kernel
theorem dX5_writeTurbine_68 : decode cX5_writeTurbine 68 = .ok (.invokevirtual 197, 3) := by decide +kernel
theorem dX5_writeTurbine_71 : decode cX5_writeTurbine 71 = .ok (.aload_n 0, 1) := by decide +kernel
theorem dX5_writeTurbine_72 : decode cX5_writeTurbine 72 = .ok (.iload_n 1, 1) := by decide +kernel
theorem dX5_writeTurbine_73 : decode cX5_writeTurbine 73 = .ok (.iconst 5, 1) := by decide +kernel
theorem dX5_writeTurbine_74 : decode cX5_writeTurbine 74 = .ok (.invokevirtual 57, 3) := by decide +kernel
theorem dX5_writeTurbine_77 : decode cX5_writeTurbine 77 = .ok (.ifCond .le 17, 3) := by decide +kernel
theorem dX5_writeTurbine_80 : decode cX5_writeTurbine 80 = .ok (.aload_n 0, 1) := by decide +kernel
theorem dX5_writeTurbine_81 : decode cX5_writeTurbine 81 = .ok (.bipush 60, 2) := by decide +kernel
theorem dX5_writeTurbine_83 : decode cX5_writeTurbine 83 = .ok (.aload_n 0, 1) := by decide +kernel
theorem dX5_writeTurbine_84 : decode cX5_writeTurbine 84 = .ok (.iload_n 1, 1) := by decide +kernel
theorem dX5_writeTurbine_85 : decode cX5_writeTurbine 85 = .ok (.iconst 5, 1) := by decide +kernel
theorem dX5_writeTurbine_86 : decode cX5_writeTurbine 86 = .ok (.invokevirtual 57, 3) := by decide +kernel
theorem dX5_writeTurbine_89 : decode cX5_writeTurbine 89 = .ok (.iconst 1, 1) := by decide +kernel
theorem dX5_writeTurbine_90 : decode cX5_writeTurbine 90 = .ok (.isub, 1) := by decide +kernel
theorem dX5_writeTurbine_91 : decode cX5_writeTurbine 91 = .ok (.invokevirtual 197, 3) := by decide +kernel
theorem dX5_writeTurbine_94 : decode cX5_writeTurbine 94 = .ok (.aload_n 0, 1) := by decide +kernel
theorem dX5_writeTurbine_95 : decode cX5_writeTurbine 95 = .ok (.iload_n 1, 1) := by decide +kernel
theorem dX5_writeTurbine_96 : decode cX5_writeTurbine 96 = .ok (.iconst 3, 1) := by decide +kernel
theorem dX5_writeTurbine_97 : decode cX5_writeTurbine 97 = .ok (.invokevirtual 57, 3) := by decide +kernel
theorem dX5_writeTurbine_100 : decode cX5_writeTurbine 100 = .ok (.iconst 1, 1) := by decide +kernel
theorem dX5_writeTurbine_101 : decode cX5_writeTurbine 101 = .ok (.if_icmp .ne 9, 3) := by decide +kernel
theorem dX5_writeTurbine_104 : decode cX5_writeTurbine 104 = .ok (.aload_n 0, 1) := by decide +kernel
theorem dX5_writeTurbine_105 : decode cX5_writeTurbine 105 = .ok (.bipush 120, 2) := by decide +kernel
theorem dX5_writeTurbine_107 : decode cX5_writeTurbine 107 = .ok (.invokevirtual 194, 3) := by decide +kernel
theorem dX5_writeTurbine_110 : decode cX5_writeTurbine 110 = .ok (.aload_n 0, 1) := by decide +kernel
theorem dX5_writeTurbine_111 : decode cX5_writeTurbine 111 = .ok (.iload_n 1, 1) := by decide +kernel
theorem dX5_writeTurbine_112 : decode cX5_writeTurbine 112 = .ok (.iconst 3, 1) := by decide +kernel
theorem dX5_writeTurbine_113 : decode cX5_writeTurbine 113 = .ok (.invokevirtual 57, 3) := by decide +kernel
theorem dX5_writeTurbine_116 : decode cX5_writeTurbine 116 = .ok (.iconst 2, 1) := by decide +kernel
theorem dX5_writeTurbine_117 : decode cX5_writeTurbine 117 = .ok (.if_icmp .ne 15, 3) := by decide +kernel
theorem dX5_writeTurbine_120 : decode cX5_writeTurbine 120 = .ok (.aload_n 0, 1) := by decide +kernel
theorem dX5_writeTurbine_121 : decode cX5_writeTurbine 121 = .ok (.bipush 115, 2) := by decide +kernel
theorem dX5_writeTurbine_123 : decode cX5_writeTurbine 123 = .ok (.aload_n 0, 1) := by decide +kernel
theorem dX5_writeTurbine_124 : decode cX5_writeTurbine 124 = .ok (.iload_n 1, 1) := by decide +kernel
theorem dX5_writeTurbine_125 : decode cX5_writeTurbine 125 = .ok (.iconst 4, 1) := by decide +kernel
theorem dX5_writeTurbine_126 : decode cX5_writeTurbine 126 = .ok (.invokevirtual 57, 3) := by decide +kernel
theorem dX5_writeTurbine_129 : decode cX5_writeTurbine 129 = .ok (.invokevirtual 197, 3) := by decide +kernel
theorem dX5_writeTurbine_132 : decode cX5_writeTurbine 132 = .ok (.aload_n 0, 1) := by decide +kernel
theorem dX5_writeTurbine_133 : decode cX5_writeTurbine 133 = .ok (.getfield 187, 3) := by decide +kernel
theorem dX5_writeTurbine_136 : decode cX5_writeTurbine 136 = .ok (.ireturn, 1) := by decide +kernel
theorem dX5_outputAt_0 : decode cX5_outputAt 0 = .ok (.aload_n 0, 1) := by decide +kernel
theorem dX5_outputAt_1 : decode cX5_outputAt 1 = .ok (.iload_n 1, 1) := by decide +kernel
theorem dX5_outputAt_2 : decode cX5_outputAt 2 = .ok (.iconst 0, 1) := by decide +kernel
theorem dX5_outputAt_3 : decode cX5_outputAt 3 = .ok (.aload_n 0, 1) := by decide +kernel
theorem dX5_outputAt_4 : decode cX5_outputAt 4 = .ok (.getfield 187, 3) := by decide +kernel
theorem dX5_outputAt_7 : decode cX5_outputAt 7 = .ok (.iconst 1, 1) := by decide +kernel
theorem dX5_outputAt_8 : decode cX5_outputAt 8 = .ok (.isub, 1) := by decide +kernel
theorem dX5_outputAt_9 : decode cX5_outputAt 9 = .ok (.invokestatic 53, 3) := by decide +kernel
theorem dX5_outputAt_12 : decode cX5_outputAt 12 = .ok (.invokevirtual 49, 3) := by decide +kernel
theorem dX5_outputAt_15 : decode cX5_outputAt 15 = .ok (.ifCond .eq 12, 3) := by decide +kernel
theorem dX5_outputAt_18 : decode cX5_outputAt 18 = .ok (.aload_n 0, 1) := by decide +kernel
theorem dX5_outputAt_19 : decode cX5_outputAt 19 = .ok (.getfield 13, 3) := by decide +kernel
theorem dX5_outputAt_22 : decode cX5_outputAt 22 = .ok (.iload_n 1, 1) := by decide +kernel
theorem dX5_outputAt_23 : decode cX5_outputAt 23 = .ok (.caload, 1) := by decide +kernel
theorem dX5_outputAt_24 : decode cX5_outputAt 24 = .ok (.goto 4, 3) := by decide +kernel
theorem dX5_outputAt_27 : decode cX5_outputAt 27 = .ok (.iconst 0, 1) := by decide +kernel
theorem dX5_outputAt_28 : decode cX5_outputAt 28 = .ok (.ireturn, 1) := by decide +kernel
theorem dX5_appendInput_0 : decode cX5_appendInput 0 = .ok (.aload_n 0, 1) := by decide +kernel
theorem dX5_appendInput_1 : decode cX5_appendInput 1 = .ok (.iload_n 1, 1) := by decide +kernel
theorem dX5_appendInput_2 : decode cX5_appendInput 2 = .ok (.bipush 32, 2) := by decide +kernel
theorem dX5_appendInput_4 : decode cX5_appendInput 4 = .ok (.bipush 126, 2) := by decide +kernel
theorem dX5_appendInput_6 : decode cX5_appendInput 6 = .ok (.invokestatic 53, 3) := by decide +kernel
theorem dX5_appendInput_9 : decode cX5_appendInput 9 = .ok (.ifCond .ne 7, 3) := by decide +kernel
theorem dX5_appendInput_12 : decode cX5_appendInput 12 = .ok (.iconst 1, 1) := by decide +kernel
theorem dX5_appendInput_13 : decode cX5_appendInput 13 = .ok (.goto 17, 3) := by decide +kernel
theorem dX5_appendInput_16 : decode cX5_appendInput 16 = .ok (.aload_n 0, 1) := by decide +kernel
theorem dX5_appendInput_17 : decode cX5_appendInput 17 = .ok (.getfield 200, 3) := by decide +kernel
theorem dX5_appendInput_20 : decode cX5_appendInput 20 = .ok (.bipush 60, 2) := by decide +kernel
theorem dX5_appendInput_22 : decode cX5_appendInput 22 = .ok (.if_icmp .ne 7, 3) := by decide +kernel
theorem dX5_appendInput_25 : decode cX5_appendInput 25 = .ok (.iconst 2, 1) := by decide +kernel
theorem dX5_appendInput_26 : decode cX5_appendInput 26 = .ok (.goto 4, 3) := by decide +kernel
theorem dX5_appendInput_29 : decode cX5_appendInput 29 = .ok (.iconst 0, 1) := by decide +kernel
theorem dX5_appendInput_30 : decode cX5_appendInput 30 = .ok (.putfield 27, 3) := by decide +kernel
theorem dX5_appendInput_33 : decode cX5_appendInput 33 = .ok (.aload_n 0, 1) := by decide +kernel
theorem dX5_appendInput_34 : decode cX5_appendInput 34 = .ok (.getfield 27, 3) := by decide +kernel
theorem dX5_appendInput_37 : decode cX5_appendInput 37 = .ok (.ifCond .eq 5, 3) := by decide +kernel
theorem dX5_appendInput_40 : decode cX5_appendInput 40 = .ok (.iconst 0, 1) := by decide +kernel
theorem dX5_appendInput_41 : decode cX5_appendInput 41 = .ok (.ireturn, 1) := by decide +kernel
theorem dX5_appendInput_42 : decode cX5_appendInput 42 = .ok (.aload_n 0, 1) := by decide +kernel
theorem dX5_appendInput_43 : decode cX5_appendInput 43 = .ok (.getfield 17, 3) := by decide +kernel
theorem dX5_appendInput_46 : decode cX5_appendInput 46 = .ok (.aload_n 0, 1) := by decide +kernel
theorem dX5_appendInput_47 : decode cX5_appendInput 47 = .ok (.getfield 200, 3) := by decide +kernel
theorem dX5_appendInput_50 : decode cX5_appendInput 50 = .ok (.iload_n 1, 1) := by decide +kernel
theorem dX5_appendInput_51 : decode cX5_appendInput 51 = .ok (.castore, 1) := by decide +kernel
theorem dX5_appendInput_52 : decode cX5_appendInput 52 = .ok (.aload_n 0, 1) := by decide +kernel
theorem dX5_appendInput_53 : decode cX5_appendInput 53 = .ok (.dup, 1) := by decide +kernel
theorem dX5_appendInput_54 : decode cX5_appendInput 54 = .ok (.getfield 200, 3) := by decide +kernel
theorem dX5_appendInput_57 : decode cX5_appendInput 57 = .ok (.iconst 1, 1) := by decide +kernel
theorem dX5_appendInput_58 : decode cX5_appendInput 58 = .ok (.iadd, 1) := by decide +kernel
theorem dX5_appendInput_59 : decode cX5_appendInput 59 = .ok (.putfield 200, 3) := by decide +kernel
theorem dX5_appendInput_62 : decode cX5_appendInput 62 = .ok (.aload_n 0, 1) := by decide +kernel
theorem dX5_appendInput_63 : decode cX5_appendInput 63 = .ok (.getfield 200, 3) := by decide +kernel
theorem dX5_appendInput_66 : decode cX5_appendInput 66 = .ok (.ireturn, 1) := by decide +kernel
theorem dX5_sign_0 : decode cX5_sign 0 = .ok (.aload_n 0, 1) := by decide +kernel
theorem dX5_sign_1 : decode cX5_sign 1 = .ok (.getfield 203, 3) := by decide +kernel
theorem dX5_sign_4 : decode cX5_sign 4 = .ok (.aload_n 0, 1) := by decide +kernel
theorem dX5_sign_5 : decode cX5_sign 5 = .ok (.getfield 200, 3) := by decide +kernel
theorem dX5_sign_8 : decode cX5_sign 8 = .ok (.if_icmp .ge 15, 3) := by decide +kernel
theorem dX5_sign_11 : decode cX5_sign 11 = .ok (.aload_n 0, 1) := by decide +kernel
theorem dX5_sign_12 : decode cX5_sign 12 = .ok (.getfield 17, 3) := by decide +kernel
theorem dX5_sign_15 : decode cX5_sign 15 = .ok (.aload_n 0, 1) := by decide +kernel
theorem dX5_sign_16 : decode cX5_sign 16 = .ok (.getfield 203, 3) := by decide +kernel
theorem dX5_sign_19 : decode cX5_sign 19 = .ok (.caload, 1) := by decide +kernel
theorem dX5_sign_20 : decode cX5_sign 20 = .ok (.goto 4, 3) := by decide +kernel
theorem dX5_sign_23 : decode cX5_sign 23 = .ok (.iconst (-1), 1) := by decide +kernel
theorem dX5_sign_24 : decode cX5_sign 24 = .ok (.ireturn, 1) := by decide +kernel
theorem dX5_needs_0 : decode cX5_needs 0 = .ok (.aload_n 0, 1) := by decide +kernel
theorem dX5_needs_1 : decode cX5_needs 1 = .ok (.getfield 206, 3) := by decide +kernel
theorem dX5_needs_4 : decode cX5_needs 4 = .ok (.ifCond .lt 4, 3) := by decide +kernel
theorem dX5_needs_7 : decode cX5_needs 7 = .ok (.return_, 1) := by decide +kernel
theorem dX5_needs_8 : decode cX5_needs 8 = .ok (.aload_n 0, 1) := by decide +kernel
theorem dX5_needs_9 : decode cX5_needs 9 = .ok (.invokevirtual 209, 3) := by decide +kernel
theorem dX5_needs_12 : decode cX5_needs 12 = .ok (.iload_n 1, 1) := by decide +kernel
theorem dX5_needs_13 : decode cX5_needs 13 = .ok (.if_icmp .eq 12, 3) := by decide +kernel
theorem dX5_needs_16 : decode cX5_needs 16 = .ok (.aload_n 0, 1) := by decide +kernel
theorem dX5_needs_17 : decode cX5_needs 17 = .ok (.aload_n 0, 1) := by decide +kernel
theorem dX5_needs_18 : decode cX5_needs 18 = .ok (.getfield 203, 3) := by decide +kernel
theorem dX5_needs_21 : decode cX5_needs 21 = .ok (.putfield 206, 3) := by decide +kernel
theorem dX5_needs_24 : decode cX5_needs 24 = .ok (.return_, 1) := by decide +kernel
theorem dX5_needs_25 : decode cX5_needs 25 = .ok (.aload_n 0, 1) := by decide +kernel
theorem dX5_needs_26 : decode cX5_needs 26 = .ok (.dup, 1) := by decide +kernel
theorem dX5_needs_27 : decode cX5_needs 27 = .ok (.getfield 203, 3) := by decide +kernel
theorem dX5_needs_30 : decode cX5_needs 30 = .ok (.iconst 1, 1) := by decide +kernel
theorem dX5_needs_31 : decode cX5_needs 31 = .ok (.iadd, 1) := by decide +kernel
theorem dX5_needs_32 : decode cX5_needs 32 = .ok (.putfield 203, 3) := by decide +kernel
theorem dX5_needs_35 : decode cX5_needs 35 = .ok (.return_, 1) := by decide +kernel
theorem dX5_number_0 : decode cX5_number 0 = .ok (.aload_n 0, 1) := by decide +kernel
theorem dX5_number_1 : decode cX5_number 1 = .ok (.getfield 206, 3) := by decide +kernel
theorem dX5_number_4 : decode cX5_number 4 = .ok (.ifCond .lt 5, 3) := by decide +kernel
theorem dX5_number_7 : decode cX5_number 7 = .ok (.iconst 0, 1) := by decide +kernel
theorem dX5_number_8 : decode cX5_number 8 = .ok (.ireturn, 1) := by decide +kernel
theorem dX5_number_9 : decode cX5_number 9 = .ok (.aload_n 0, 1) := by decide +kernel
theorem dX5_number_10 : decode cX5_number 10 = .ok (.invokevirtual 209, 3) := by decide +kernel
theorem dX5_number_13 : decode cX5_number 13 = .ok (.bipush 48, 2) := by decide +kernel
theorem dX5_number_15 : decode cX5_number 15 = .ok (.bipush 57, 2) := by decide +kernel
theorem dX5_number_17 : decode cX5_number 17 = .ok (.invokestatic 53, 3) := by decide +kernel
theorem dX5_number_20 : decode cX5_number 20 = .ok (.ifCond .ne 13, 3) := by decide +kernel
theorem dX5_number_23 : decode cX5_number 23 = .ok (.aload_n 0, 1) := by decide +kernel
theorem dX5_number_24 : decode cX5_number 24 = .ok (.aload_n 0, 1) := by decide +kernel
theorem dX5_number_25 : decode cX5_number 25 = .ok (.getfield 203, 3) := by decide +kernel
theorem dX5_number_28 : decode cX5_number 28 = .ok (.putfield 206, 3) := by decide +kernel
theorem dX5_number_31 : decode cX5_number 31 = .ok (.iconst 0, 1) := by decide +kernel
theorem dX5_number_32 : decode cX5_number 32 = .ok (.ireturn, 1) := by decide +kernel
theorem dX5_number_33 : decode cX5_number 33 = .ok (.iconst 0, 1) := by decide +kernel
theorem dX5_number_34 : decode cX5_number 34 = .ok (.istore_n 2, 1) := by decide +kernel
theorem dX5_number_35 : decode cX5_number 35 = .ok (.iconst 0, 1) := by decide +kernel
theorem dX5_number_36 : decode cX5_number 36 = .ok (.istore_n 3, 1) := by decide +kernel
theorem dX5_number_37 : decode cX5_number 37 = .ok (.iload_n 3, 1) := by decide +kernel
theorem dX5_number_38 : decode cX5_number 38 = .ok (.iload_n 1, 1) := by decide +kernel
theorem dX5_number_39 : decode cX5_number 39 = .ok (.if_icmp .ge 46, 3) := by decide +kernel
theorem dX5_number_42 : decode cX5_number 42 = .ok (.aload_n 0, 1) := by decide +kernel
theorem dX5_number_43 : decode cX5_number 43 = .ok (.invokevirtual 209, 3) := by decide +kernel
theorem dX5_number_46 : decode cX5_number 46 = .ok (.bipush 48, 2) := by decide +kernel
theorem dX5_number_48 : decode cX5_number 48 = .ok (.bipush 57, 2) := by decide +kernel
theorem dX5_number_50 : decode cX5_number 50 = .ok (.invokestatic 53, 3) := by decide +kernel
theorem dX5_number_53 : decode cX5_number 53 = .ok (.ifCond .eq 32, 3) := by decide +kernel
theorem dX5_number_56 : decode cX5_number 56 = .ok (.bipush 10, 2) := by decide +kernel
theorem dX5_number_58 : decode cX5_number 58 = .ok (.iload_n 2, 1) := by decide +kernel
theorem dX5_number_59 : decode cX5_number 59 = .ok (.imul, 1) := by decide +kernel
theorem dX5_number_60 : decode cX5_number 60 = .ok (.aload_n 0, 1) := by decide +kernel
theorem dX5_number_61 : decode cX5_number 61 = .ok (.invokevirtual 209, 3) := by decide +kernel
theorem dX5_number_64 : decode cX5_number 64 = .ok (.iadd, 1) := by decide +kernel
theorem dX5_number_65 : decode cX5_number 65 = .ok (.bipush 48, 2) := by decide +kernel
theorem dX5_number_67 : decode cX5_number 67 = .ok (.isub, 1) := by decide +kernel
theorem dX5_number_68 : decode cX5_number 68 = .ok (.istore_n 2, 1) := by decide +kernel
theorem dX5_number_69 : decode cX5_number 69 = .ok (.aload_n 0, 1) := by decide +kernel
theorem dX5_number_70 : decode cX5_number 70 = .ok (.dup, 1) := by decide +kernel
theorem dX5_number_71 : decode cX5_number 71 = .ok (.getfield 203, 3) := by decide +kernel
theorem dX5_number_74 : decode cX5_number 74 = .ok (.iconst 1, 1) := by decide +kernel
theorem dX5_number_75 : decode cX5_number 75 = .ok (.iadd, 1) := by decide +kernel
theorem dX5_number_76 : decode cX5_number 76 = .ok (.putfield 203, 3) := by decide +kernel
theorem dX5_number_79 : decode cX5_number 79 = .ok (.iinc 3 1, 3) := by decide +kernel
theorem dX5_number_82 : decode cX5_number 82 = .ok (.goto (-45), 3) := by decide +kernel
theorem dX5_number_85 : decode cX5_number 85 = .ok (.iload_n 2, 1) := by decide +kernel
theorem dX5_number_86 : decode cX5_number 86 = .ok (.ireturn, 1) := by decide +kernel
theorem dX5_behind_0 : decode cX5_behind 0 = .ok (.aload_n 0, 1) := by decide +kernel
theorem dX5_behind_1 : decode cX5_behind 1 = .ok (.iload_n 1, 1) := by decide +kernel
theorem dX5_behind_2 : decode cX5_behind 2 = .ok (.invokevirtual 212, 3) := by decide +kernel
theorem dX5_behind_5 : decode cX5_behind 5 = .ok (.aload_n 0, 1) := by decide +kernel
theorem dX5_behind_6 : decode cX5_behind 6 = .ok (.iconst 3, 1) := by decide +kernel
theorem dX5_behind_7 : decode cX5_behind 7 = .ok (.invokevirtual 215, 3) := by decide +kernel
theorem dX5_behind_10 : decode cX5_behind 10 = .ok (.ireturn, 1) := by decide +kernel
theorem dX5_way_0 : decode cX5_way 0 = .ok (.aload_n 0, 1) := by decide +kernel
theorem dX5_way_1 : decode cX5_way 1 = .ok (.invokevirtual 209, 3) := by decide +kernel
theorem dX5_way_4 : decode cX5_way 4 = .ok (.invokestatic 132, 3) := by decide +kernel
theorem dX5_way_7 : decode cX5_way 7 = .ok (.istore_n 1, 1) := by decide +kernel
theorem dX5_way_8 : decode cX5_way 8 = .ok (.iload_n 1, 1) := by decide +kernel
theorem dX5_way_9 : decode cX5_way 9 = .ok (.ifCond .ge 13, 3) := by decide +kernel
theorem dX5_way_12 : decode cX5_way 12 = .ok (.aload_n 0, 1) := by decide +kernel
theorem dX5_way_13 : decode cX5_way 13 = .ok (.aload_n 0, 1) := by decide +kernel
theorem dX5_way_14 : decode cX5_way 14 = .ok (.getfield 203, 3) := by decide +kernel
theorem dX5_way_17 : decode cX5_way 17 = .ok (.putfield 206, 3) := by decide +kernel
theorem dX5_way_20 : decode cX5_way 20 = .ok (.iconst 0, 1) := by decide +kernel
theorem dX5_way_21 : decode cX5_way 21 = .ok (.ireturn, 1) := by decide +kernel
theorem dX5_way_22 : decode cX5_way 22 = .ok (.aload_n 0, 1) := by decide +kernel
theorem dX5_way_23 : decode cX5_way 23 = .ok (.dup, 1) := by decide +kernel
theorem dX5_way_24 : decode cX5_way 24 = .ok (.getfield 203, 3) := by decide +kernel
theorem dX5_way_27 : decode cX5_way 27 = .ok (.iconst 1, 1) := by decide +kernel
theorem dX5_way_28 : decode cX5_way 28 = .ok (.iadd, 1) := by decide +kernel
theorem dX5_way_29 : decode cX5_way 29 = .ok (.putfield 203, 3) := by decide +kernel
theorem dX5_way_32 : decode cX5_way 32 = .ok (.iload_n 1, 1) := by decide +kernel
theorem dX5_way_33 : decode cX5_way 33 = .ok (.ireturn, 1) := by decide +kernel
theorem dX5_isLetter_0 : decode cX5_isLetter 0 = .ok (.iload_n 0, 1) := by decide +kernel
theorem dX5_isLetter_1 : decode cX5_isLetter 1 = .ok (.bipush 97, 2) := by decide +kernel
theorem dX5_isLetter_3 : decode cX5_isLetter 3 = .ok (.if_icmp .eq 75, 3) := by decide +kernel
theorem dX5_isLetter_6 : decode cX5_isLetter 6 = .ok (.iload_n 0, 1) := by decide +kernel
theorem dX5_isLetter_7 : decode cX5_isLetter 7 = .ok (.bipush 102, 2) := by decide +kernel
theorem dX5_isLetter_9 : decode cX5_isLetter 9 = .ok (.if_icmp .eq 69, 3) := by decide +kernel
theorem dX5_isLetter_12 : decode cX5_isLetter 12 = .ok (.iload_n 0, 1) := by decide +kernel
theorem dX5_isLetter_13 : decode cX5_isLetter 13 = .ok (.bipush 115, 2) := by decide +kernel
theorem dX5_isLetter_15 : decode cX5_isLetter 15 = .ok (.if_icmp .eq 63, 3) := by decide +kernel
theorem dX5_isLetter_18 : decode cX5_isLetter 18 = .ok (.iload_n 0, 1) := by decide +kernel
theorem dX5_isLetter_19 : decode cX5_isLetter 19 = .ok (.bipush 114, 2) := by decide +kernel
theorem dX5_isLetter_21 : decode cX5_isLetter 21 = .ok (.if_icmp .eq 57, 3) := by decide +kernel
theorem dX5_isLetter_24 : decode cX5_isLetter 24 = .ok (.iload_n 0, 1) := by decide +kernel
theorem dX5_isLetter_25 : decode cX5_isLetter 25 = .ok (.bipush 99, 2) := by decide +kernel
theorem dX5_isLetter_27 : decode cX5_isLetter 27 = .ok (.if_icmp .eq 51, 3) := by decide +kernel
theorem dX5_isLetter_30 : decode cX5_isLetter 30 = .ok (.iload_n 0, 1) := by decide +kernel
theorem dX5_isLetter_31 : decode cX5_isLetter 31 = .ok (.bipush 117, 2) := by decide +kernel
theorem dX5_isLetter_33 : decode cX5_isLetter 33 = .ok (.if_icmp .eq 45, 3) := by decide +kernel
theorem dX5_isLetter_36 : decode cX5_isLetter 36 = .ok (.iload_n 0, 1) := by decide +kernel
theorem dX5_isLetter_37 : decode cX5_isLetter 37 = .ok (.bipush 119, 2) := by decide +kernel
theorem dX5_isLetter_39 : decode cX5_isLetter 39 = .ok (.if_icmp .eq 39, 3) := by decide +kernel
theorem dX5_isLetter_42 : decode cX5_isLetter 42 = .ok (.iload_n 0, 1) := by decide +kernel
theorem dX5_isLetter_43 : decode cX5_isLetter 43 = .ok (.bipush 103, 2) := by decide +kernel
theorem dX5_isLetter_45 : decode cX5_isLetter 45 = .ok (.if_icmp .eq 33, 3) := by decide +kernel
theorem dX5_isLetter_48 : decode cX5_isLetter 48 = .ok (.iload_n 0, 1) := by decide +kernel
theorem dX5_isLetter_49 : decode cX5_isLetter 49 = .ok (.bipush 100, 2) := by decide +kernel
theorem dX5_isLetter_51 : decode cX5_isLetter 51 = .ok (.if_icmp .eq 27, 3) := by decide +kernel
theorem dX5_isLetter_54 : decode cX5_isLetter 54 = .ok (.iload_n 0, 1) := by decide +kernel
theorem dX5_isLetter_55 : decode cX5_isLetter 55 = .ok (.bipush 118, 2) := by decide +kernel
theorem dX5_isLetter_57 : decode cX5_isLetter 57 = .ok (.if_icmp .eq 21, 3) := by decide +kernel
theorem dX5_isLetter_60 : decode cX5_isLetter 60 = .ok (.iload_n 0, 1) := by decide +kernel
theorem dX5_isLetter_61 : decode cX5_isLetter 61 = .ok (.bipush 98, 2) := by decide +kernel
theorem dX5_isLetter_63 : decode cX5_isLetter 63 = .ok (.if_icmp .eq 15, 3) := by decide +kernel
theorem dX5_isLetter_66 : decode cX5_isLetter 66 = .ok (.iload_n 0, 1) := by decide +kernel
theorem dX5_isLetter_67 : decode cX5_isLetter 67 = .ok (.bipush 113, 2) := by decide +kernel
theorem dX5_isLetter_69 : decode cX5_isLetter 69 = .ok (.if_icmp .eq 9, 3) := by decide +kernel
theorem dX5_isLetter_72 : decode cX5_isLetter 72 = .ok (.iload_n 0, 1) := by decide +kernel
theorem dX5_isLetter_73 : decode cX5_isLetter 73 = .ok (.bipush 116, 2) := by decide +kernel
theorem dX5_isLetter_75 : decode cX5_isLetter 75 = .ok (.if_icmp .ne 7, 3) := by decide +kernel
theorem dX5_isLetter_78 : decode cX5_isLetter 78 = .ok (.iconst 1, 1) := by decide +kernel
theorem dX5_isLetter_79 : decode cX5_isLetter 79 = .ok (.goto 4, 3) := by decide +kernel
theorem dX5_isLetter_82 : decode cX5_isLetter 82 = .ok (.iconst 0, 1) := by decide +kernel
theorem dX5_isLetter_83 : decode cX5_isLetter 83 = .ok (.ireturn, 1) := by decide +kernel
theorem dX5_command_0 : decode cX5_command 0 = .ok (.iconst 4, 1) := by decide +kernel
theorem dX5_command_1 : decode cX5_command 1 = .ok (.aload_n 0, 1) := by decide +kernel
theorem dX5_command_2 : decode cX5_command 2 = .ok (.getfield 218, 3) := by decide +kernel
theorem dX5_command_5 : decode cX5_command 5 = .ok (.imul, 1) := by decide +kernel
theorem dX5_command_6 : decode cX5_command 6 = .ok (.istore_n 1, 1) := by decide +kernel
theorem dX5_command_7 : decode cX5_command 7 = .ok (.aload_n 0, 1) := by decide +kernel
theorem dX5_command_8 : decode cX5_command 8 = .ok (.dup, 1) := by decide +kernel
theorem dX5_command_9 : decode cX5_command 9 = .ok (.getfield 218, 3) := by decide +kernel
theorem dX5_command_12 : decode cX5_command 12 = .ok (.iconst 1, 1) := by decide +kernel
theorem dX5_command_13 : decode cX5_command 13 = .ok (.iadd, 1) := by decide +kernel
theorem dX5_command_14 : decode cX5_command 14 = .ok (.putfield 218, 3) := by decide +kernel
theorem dX5_command_17 : decode cX5_command 17 = .ok (.aload_n 0, 1) := by decide +kernel
theorem dX5_command_18 : decode cX5_command 18 = .ok (.invokevirtual 209, 3) := by decide +kernel
theorem dX5_command_21 : decode cX5_command 21 = .ok (.istore_n 2, 1) := by decide +kernel
theorem dX5_command_22 : decode cX5_command 22 = .ok (.iconst 0, 1) := by decide +kernel
theorem dX5_command_23 : decode cX5_command 23 = .ok (.istore_n 3, 1) := by decide +kernel
theorem dX5_command_24 : decode cX5_command 24 = .ok (.iload_n 3, 1) := by decide +kernel
theorem dX5_command_25 : decode cX5_command 25 = .ok (.iconst 4, 1) := by decide +kernel
theorem dX5_command_26 : decode cX5_command 26 = .ok (.if_icmp .ge 18, 3) := by decide +kernel
theorem dX5_command_29 : decode cX5_command 29 = .ok (.aload_n 0, 1) := by decide +kernel
theorem dX5_command_30 : decode cX5_command 30 = .ok (.getfield 24, 3) := by decide +kernel
theorem dX5_command_33 : decode cX5_command 33 = .ok (.iload_n 1, 1) := by decide +kernel
theorem dX5_command_34 : decode cX5_command 34 = .ok (.iload_n 3, 1) := by decide +kernel
theorem dX5_command_35 : decode cX5_command 35 = .ok (.iadd, 1) := by decide +kernel
theorem dX5_command_36 : decode cX5_command 36 = .ok (.iconst 0, 1) := by decide +kernel
theorem dX5_command_37 : decode cX5_command 37 = .ok (.iastore, 1) := by decide +kernel
theorem dX5_command_38 : decode cX5_command 38 = .ok (.iinc 3 1, 3) := by decide +kernel
theorem dX5_command_41 : decode cX5_command 41 = .ok (.goto (-17), 3) := by decide +kernel
theorem dX5_command_44 : decode cX5_command 44 = .ok (.iload_n 2, 1) := by decide +kernel
theorem dX5_command_45 : decode cX5_command 45 = .ok (.invokestatic 221, 3) := by decide +kernel
theorem dX5_command_48 : decode cX5_command 48 = .ok (.ifCond .ne 12, 3) := by decide +kernel
theorem dX5_command_51 : decode cX5_command 51 = .ok (.aload_n 0, 1) := by decide +kernel
theorem dX5_command_52 : decode cX5_command 52 = .ok (.aload_n 0, 1) := by decide +kernel
theorem dX5_command_53 : decode cX5_command 53 = .ok (.getfield 203, 3) := by decide +kernel
theorem dX5_command_56 : decode cX5_command 56 = .ok (.putfield 206, 3) := by decide +kernel
theorem dX5_command_59 : decode cX5_command 59 = .ok (.return_, 1) := by decide +kernel
theorem dX5_command_60 : decode cX5_command 60 = .ok (.aload_n 0, 1) := by decide +kernel
theorem dX5_command_61 : decode cX5_command 61 = .ok (.dup, 1) := by decide +kernel
theorem dX5_command_62 : decode cX5_command 62 = .ok (.getfield 203, 3) := by decide +kernel
theorem dX5_command_65 : decode cX5_command 65 = .ok (.iconst 1, 1) := by decide +kernel
theorem dX5_command_66 : decode cX5_command 66 = .ok (.iadd, 1) := by decide +kernel
theorem dX5_command_67 : decode cX5_command 67 = .ok (.putfield 203, 3) := by decide +kernel
theorem dX5_command_70 : decode cX5_command 70 = .ok (.aload_n 0, 1) := by decide +kernel
theorem dX5_command_71 : decode cX5_command 71 = .ok (.getfield 24, 3) := by decide +kernel
theorem dX5_command_74 : decode cX5_command 74 = .ok (.iload_n 1, 1) := by decide +kernel
theorem dX5_command_75 : decode cX5_command 75 = .ok (.iload_n 2, 1) := by decide +kernel
theorem dX5_command_76 : decode cX5_command 76 = .ok (.iastore, 1) := by decide +kernel
theorem dX5_command_77 : decode cX5_command 77 = .ok (.iload_n 2, 1) := by decide +kernel
theorem dX5_command_78 : decode cX5_command 78 = .ok (.tableswitch 240 97 119 #[109, 196, 166, 106, 240, 240, 240, 240, 240, 240, 240, 240, 240, 240, 240, 240, 240, 240, 166, 240, 240, 106, 138], 106) := by decide +kernel
theorem dX5_command_184 : decode cX5_command 184 = .ok (.goto 147, 3) := by decide +kernel
theorem dX5_command_187 : decode cX5_command 187 = .ok (.iconst 1, 1) := by decide +kernel
theorem dX5_command_188 : decode cX5_command 188 = .ok (.istore_n 3, 1) := by decide +kernel
theorem dX5_command_189 : decode cX5_command 189 = .ok (.iload_n 3, 1) := by decide +kernel
theorem dX5_command_190 : decode cX5_command 190 = .ok (.iconst 4, 1) := by decide +kernel
theorem dX5_command_191 : decode cX5_command 191 = .ok (.if_icmp .ge 22, 3) := by decide +kernel
theorem dX5_command_194 : decode cX5_command 194 = .ok (.aload_n 0, 1) := by decide +kernel
theorem dX5_command_195 : decode cX5_command 195 = .ok (.getfield 24, 3) := by decide +kernel
theorem dX5_command_198 : decode cX5_command 198 = .ok (.iload_n 1, 1) := by decide +kernel
theorem dX5_command_199 : decode cX5_command 199 = .ok (.iload_n 3, 1) := by decide +kernel
theorem dX5_command_200 : decode cX5_command 200 = .ok (.iadd, 1) := by decide +kernel
theorem dX5_command_201 : decode cX5_command 201 = .ok (.aload_n 0, 1) := by decide +kernel
theorem dX5_command_202 : decode cX5_command 202 = .ok (.iconst 1, 1) := by decide +kernel
theorem dX5_command_203 : decode cX5_command 203 = .ok (.invokevirtual 215, 3) := by decide +kernel
theorem dX5_command_206 : decode cX5_command 206 = .ok (.iastore, 1) := by decide +kernel
theorem dX5_command_207 : decode cX5_command 207 = .ok (.iinc 3 1, 3) := by decide +kernel
theorem dX5_command_210 : decode cX5_command 210 = .ok (.goto (-21), 3) := by decide +kernel
theorem dX5_command_213 : decode cX5_command 213 = .ok (.goto 118, 3) := by decide +kernel
theorem dX5_command_216 : decode cX5_command 216 = .ok (.aload_n 0, 1) := by decide +kernel
theorem dX5_command_217 : decode cX5_command 217 = .ok (.getfield 24, 3) := by decide +kernel
theorem dX5_command_220 : decode cX5_command 220 = .ok (.iload_n 1, 1) := by decide +kernel
theorem dX5_command_221 : decode cX5_command 221 = .ok (.iconst 1, 1) := by decide +kernel
theorem dX5_command_222 : decode cX5_command 222 = .ok (.iadd, 1) := by decide +kernel
theorem dX5_command_223 : decode cX5_command 223 = .ok (.aload_n 0, 1) := by decide +kernel
theorem dX5_command_224 : decode cX5_command 224 = .ok (.invokevirtual 224, 3) := by decide +kernel
theorem dX5_command_227 : decode cX5_command 227 = .ok (.iastore, 1) := by decide +kernel
theorem dX5_command_228 : decode cX5_command 228 = .ok (.aload_n 0, 1) := by decide +kernel
theorem dX5_command_229 : decode cX5_command 229 = .ok (.getfield 24, 3) := by decide +kernel
theorem dX5_command_232 : decode cX5_command 232 = .ok (.iload_n 1, 1) := by decide +kernel
theorem dX5_command_233 : decode cX5_command 233 = .ok (.iconst 2, 1) := by decide +kernel
theorem dX5_command_234 : decode cX5_command 234 = .ok (.iadd, 1) := by decide +kernel
theorem dX5_command_235 : decode cX5_command 235 = .ok (.aload_n 0, 1) := by decide +kernel
theorem dX5_command_236 : decode cX5_command 236 = .ok (.iconst 3, 1) := by decide +kernel
theorem dX5_command_237 : decode cX5_command 237 = .ok (.invokevirtual 215, 3) := by decide +kernel
theorem dX5_command_240 : decode cX5_command 240 = .ok (.iastore, 1) := by decide +kernel
theorem dX5_command_241 : decode cX5_command 241 = .ok (.goto 90, 3) := by decide +kernel
theorem dX5_command_244 : decode cX5_command 244 = .ok (.aload_n 0, 1) := by decide +kernel
theorem dX5_command_245 : decode cX5_command 245 = .ok (.getfield 24, 3) := by decide +kernel
theorem dX5_command_248 : decode cX5_command 248 = .ok (.iload_n 1, 1) := by decide +kernel
theorem dX5_command_249 : decode cX5_command 249 = .ok (.iconst 1, 1) := by decide +kernel
theorem dX5_command_250 : decode cX5_command 250 = .ok (.iadd, 1) := by decide +kernel
theorem dX5_command_251 : decode cX5_command 251 = .ok (.aload_n 0, 1) := by decide +kernel
theorem dX5_command_252 : decode cX5_command 252 = .ok (.iconst 3, 1) := by decide +kernel
theorem dX5_command_253 : decode cX5_command 253 = .ok (.invokevirtual 215, 3) := by decide +kernel
theorem dX5_command_256 : decode cX5_command 256 = .ok (.iastore, 1) := by decide +kernel
theorem dX5_command_257 : decode cX5_command 257 = .ok (.aload_n 0, 1) := by decide +kernel
theorem dX5_command_258 : decode cX5_command 258 = .ok (.getfield 24, 3) := by decide +kernel
theorem dX5_command_261 : decode cX5_command 261 = .ok (.iload_n 1, 1) := by decide +kernel
theorem dX5_command_262 : decode cX5_command 262 = .ok (.iconst 2, 1) := by decide +kernel
theorem dX5_command_263 : decode cX5_command 263 = .ok (.iadd, 1) := by decide +kernel
theorem dX5_command_264 : decode cX5_command 264 = .ok (.aload_n 0, 1) := by decide +kernel
theorem dX5_command_265 : decode cX5_command 265 = .ok (.bipush 58, 2) := by decide +kernel
theorem dX5_command_267 : decode cX5_command 267 = .ok (.invokevirtual 227, 3) := by decide +kernel
theorem dX5_command_270 : decode cX5_command 270 = .ok (.iastore, 1) := by decide +kernel
theorem dX5_command_271 : decode cX5_command 271 = .ok (.goto 60, 3) := by decide +kernel
theorem dX5_command_274 : decode cX5_command 274 = .ok (.aload_n 0, 1) := by decide +kernel
theorem dX5_command_275 : decode cX5_command 275 = .ok (.getfield 24, 3) := by decide +kernel
theorem dX5_command_278 : decode cX5_command 278 = .ok (.iload_n 1, 1) := by decide +kernel
theorem dX5_command_279 : decode cX5_command 279 = .ok (.iconst 1, 1) := by decide +kernel
theorem dX5_command_280 : decode cX5_command 280 = .ok (.iadd, 1) := by decide +kernel
theorem dX5_command_281 : decode cX5_command 281 = .ok (.aload_n 0, 1) := by decide +kernel
theorem dX5_command_282 : decode cX5_command 282 = .ok (.iconst 3, 1) := by decide +kernel
theorem dX5_command_283 : decode cX5_command 283 = .ok (.invokevirtual 215, 3) := by decide +kernel
theorem dX5_command_286 : decode cX5_command 286 = .ok (.iastore, 1) := by decide +kernel
theorem dX5_command_287 : decode cX5_command 287 = .ok (.aload_n 0, 1) := by decide +kernel
theorem dX5_command_288 : decode cX5_command 288 = .ok (.getfield 24, 3) := by decide +kernel
theorem dX5_command_291 : decode cX5_command 291 = .ok (.iload_n 1, 1) := by decide +kernel
theorem dX5_command_292 : decode cX5_command 292 = .ok (.iconst 2, 1) := by decide +kernel
theorem dX5_command_293 : decode cX5_command 293 = .ok (.iadd, 1) := by decide +kernel
theorem dX5_command_294 : decode cX5_command 294 = .ok (.aload_n 0, 1) := by decide +kernel
theorem dX5_command_295 : decode cX5_command 295 = .ok (.bipush 58, 2) := by decide +kernel
theorem dX5_command_297 : decode cX5_command 297 = .ok (.invokevirtual 227, 3) := by decide +kernel
theorem dX5_command_300 : decode cX5_command 300 = .ok (.iastore, 1) := by decide +kernel
theorem dX5_command_301 : decode cX5_command 301 = .ok (.aload_n 0, 1) := by decide +kernel
theorem dX5_command_302 : decode cX5_command 302 = .ok (.getfield 24, 3) := by decide +kernel
theorem dX5_command_305 : decode cX5_command 305 = .ok (.iload_n 1, 1) := by decide +kernel
theorem dX5_command_306 : decode cX5_command 306 = .ok (.iconst 3, 1) := by decide +kernel
theorem dX5_command_307 : decode cX5_command 307 = .ok (.iadd, 1) := by decide +kernel
theorem dX5_command_308 : decode cX5_command 308 = .ok (.aload_n 0, 1) := by decide +kernel
theorem dX5_command_309 : decode cX5_command 309 = .ok (.bipush 42, 2) := by decide +kernel
theorem dX5_command_311 : decode cX5_command 311 = .ok (.invokevirtual 227, 3) := by decide +kernel
theorem dX5_command_314 : decode cX5_command 314 = .ok (.iastore, 1) := by decide +kernel
theorem dX5_command_315 : decode cX5_command 315 = .ok (.goto 16, 3) := by decide +kernel
theorem dX5_command_318 : decode cX5_command 318 = .ok (.aload_n 0, 1) := by decide +kernel
theorem dX5_command_319 : decode cX5_command 319 = .ok (.getfield 24, 3) := by decide +kernel
theorem dX5_command_322 : decode cX5_command 322 = .ok (.iload_n 1, 1) := by decide +kernel
theorem dX5_command_323 : decode cX5_command 323 = .ok (.iconst 1, 1) := by decide +kernel
theorem dX5_command_324 : decode cX5_command 324 = .ok (.iadd, 1) := by decide +kernel
theorem dX5_command_325 : decode cX5_command 325 = .ok (.aload_n 0, 1) := by decide +kernel
theorem dX5_command_326 : decode cX5_command 326 = .ok (.iconst 3, 1) := by decide +kernel
theorem dX5_command_327 : decode cX5_command 327 = .ok (.invokevirtual 215, 3) := by decide +kernel
theorem dX5_command_330 : decode cX5_command 330 = .ok (.iastore, 1) := by decide +kernel
theorem dX5_command_331 : decode cX5_command 331 = .ok (.return_, 1) := by decide +kernel
theorem dX5_parse_0 : decode cX5_parse 0 = .ok (.aload_n 0, 1) := by decide +kernel
theorem dX5_parse_1 : decode cX5_parse 1 = .ok (.iconst 0, 1) := by decide +kernel
theorem dX5_parse_2 : decode cX5_parse 2 = .ok (.putfield 203, 3) := by decide +kernel
theorem dX5_parse_5 : decode cX5_parse 5 = .ok (.aload_n 0, 1) := by decide +kernel
theorem dX5_parse_6 : decode cX5_parse 6 = .ok (.iconst (-1), 1) := by decide +kernel
theorem dX5_parse_7 : decode cX5_parse 7 = .ok (.putfield 206, 3) := by decide +kernel
theorem dX5_parse_10 : decode cX5_parse 10 = .ok (.aload_n 0, 1) := by decide +kernel
theorem dX5_parse_11 : decode cX5_parse 11 = .ok (.iconst 0, 1) := by decide +kernel
theorem dX5_parse_12 : decode cX5_parse 12 = .ok (.putfield 218, 3) := by decide +kernel
theorem dX5_parse_15 : decode cX5_parse 15 = .ok (.aload_n 0, 1) := by decide +kernel
theorem dX5_parse_16 : decode cX5_parse 16 = .ok (.invokevirtual 230, 3) := by decide +kernel
theorem dX5_parse_19 : decode cX5_parse 19 = .ok (.aload_n 0, 1) := by decide +kernel
theorem dX5_parse_20 : decode cX5_parse 20 = .ok (.getfield 206, 3) := by decide +kernel
theorem dX5_parse_23 : decode cX5_parse 23 = .ok (.ifCond .ge 29, 3) := by decide +kernel
theorem dX5_parse_26 : decode cX5_parse 26 = .ok (.aload_n 0, 1) := by decide +kernel
theorem dX5_parse_27 : decode cX5_parse 27 = .ok (.invokevirtual 209, 3) := by decide +kernel
theorem dX5_parse_30 : decode cX5_parse 30 = .ok (.bipush 59, 2) := by decide +kernel
theorem dX5_parse_32 : decode cX5_parse 32 = .ok (.if_icmp .ne 20, 3) := by decide +kernel
theorem dX5_parse_35 : decode cX5_parse 35 = .ok (.aload_n 0, 1) := by decide +kernel
theorem dX5_parse_36 : decode cX5_parse 36 = .ok (.dup, 1) := by decide +kernel
theorem dX5_parse_37 : decode cX5_parse 37 = .ok (.getfield 203, 3) := by decide +kernel
theorem dX5_parse_40 : decode cX5_parse 40 = .ok (.iconst 1, 1) := by decide +kernel
theorem dX5_parse_41 : decode cX5_parse 41 = .ok (.iadd, 1) := by decide +kernel
theorem dX5_parse_42 : decode cX5_parse 42 = .ok (.putfield 203, 3) := by decide +kernel
theorem dX5_parse_45 : decode cX5_parse 45 = .ok (.aload_n 0, 1) := by decide +kernel
theorem dX5_parse_46 : decode cX5_parse 46 = .ok (.invokevirtual 230, 3) := by decide +kernel
theorem dX5_parse_49 : decode cX5_parse 49 = .ok (.goto (-30), 3) := by decide +kernel
theorem dX5_parse_52 : decode cX5_parse 52 = .ok (.aload_n 0, 1) := by decide +kernel
theorem dX5_parse_53 : decode cX5_parse 53 = .ok (.getfield 206, 3) := by decide +kernel
theorem dX5_parse_56 : decode cX5_parse 56 = .ok (.ifCond .ge 22, 3) := by decide +kernel
theorem dX5_parse_59 : decode cX5_parse 59 = .ok (.aload_n 0, 1) := by decide +kernel
theorem dX5_parse_60 : decode cX5_parse 60 = .ok (.getfield 203, 3) := by decide +kernel
theorem dX5_parse_63 : decode cX5_parse 63 = .ok (.aload_n 0, 1) := by decide +kernel
theorem dX5_parse_64 : decode cX5_parse 64 = .ok (.getfield 200, 3) := by decide +kernel
theorem dX5_parse_67 : decode cX5_parse 67 = .ok (.if_icmp .ge 11, 3) := by decide +kernel
theorem dX5_parse_70 : decode cX5_parse 70 = .ok (.aload_n 0, 1) := by decide +kernel
theorem dX5_parse_71 : decode cX5_parse 71 = .ok (.aload_n 0, 1) := by decide +kernel
theorem dX5_parse_72 : decode cX5_parse 72 = .ok (.getfield 203, 3) := by decide +kernel
theorem dX5_parse_75 : decode cX5_parse 75 = .ok (.putfield 206, 3) := by decide +kernel
theorem dX5_parse_78 : decode cX5_parse 78 = .ok (.return_, 1) := by decide +kernel
theorem dX5_does_0 : decode cX5_does 0 = .ok (.aload_n 0, 1) := by decide +kernel
theorem dX5_does_1 : decode cX5_does 1 = .ok (.getfield 24, 3) := by decide +kernel
theorem dX5_does_4 : decode cX5_does 4 = .ok (.iload_n 1, 1) := by decide +kernel
theorem dX5_does_5 : decode cX5_does 5 = .ok (.iconst 1, 1) := by decide +kernel
theorem dX5_does_6 : decode cX5_does 6 = .ok (.iadd, 1) := by decide +kernel
theorem dX5_does_7 : decode cX5_does 7 = .ok (.iaload, 1) := by decide +kernel
theorem dX5_does_8 : decode cX5_does 8 = .ok (.istore_n 2, 1) := by decide +kernel
theorem dX5_does_9 : decode cX5_does 9 = .ok (.aload_n 0, 1) := by decide +kernel
theorem dX5_does_10 : decode cX5_does 10 = .ok (.getfield 24, 3) := by decide +kernel
theorem dX5_does_13 : decode cX5_does 13 = .ok (.iload_n 1, 1) := by decide +kernel
theorem dX5_does_14 : decode cX5_does 14 = .ok (.iconst 2, 1) := by decide +kernel
theorem dX5_does_15 : decode cX5_does 15 = .ok (.iadd, 1) := by decide +kernel
theorem dX5_does_16 : decode cX5_does 16 = .ok (.iaload, 1) := by decide +kernel
theorem dX5_does_17 : decode cX5_does 17 = .ok (.istore_n 3, 1) := by decide +kernel
theorem dX5_does_18 : decode cX5_does 18 = .ok (.aload_n 0, 1) := by decide +kernel
theorem dX5_does_19 : decode cX5_does 19 = .ok (.getfield 24, 3) := by decide +kernel
theorem dX5_does_22 : decode cX5_does 22 = .ok (.iload_n 1, 1) := by decide +kernel
theorem dX5_does_23 : decode cX5_does 23 = .ok (.iconst 3, 1) := by decide +kernel
theorem dX5_does_24 : decode cX5_does 24 = .ok (.iadd, 1) := by decide +kernel
theorem dX5_does_25 : decode cX5_does 25 = .ok (.iaload, 1) := by decide +kernel
theorem dX5_does_26 : decode cX5_does 26 = .ok (.istore 4, 2) := by decide +kernel
theorem dX5_does_28 : decode cX5_does 28 = .ok (.aload_n 0, 1) := by decide +kernel
theorem dX5_does_29 : decode cX5_does 29 = .ok (.getfield 24, 3) := by decide +kernel
theorem dX5_does_32 : decode cX5_does 32 = .ok (.iload_n 1, 1) := by decide +kernel
theorem dX5_does_33 : decode cX5_does 33 = .ok (.iaload, 1) := by decide +kernel
theorem dX5_does_34 : decode cX5_does 34 = .ok (.tableswitch 185 97 119 #[106, 170, 134, 160, 185, 115, 154, 185, 185, 185, 185, 185, 185, 185, 185, 185, 179, 128, 121, 185, 141, 165, 147], 106) := by decide +kernel
theorem dX5_does_140 : decode cX5_does 140 = .ok (.aload_n 0, 1) := by decide +kernel
theorem dX5_does_141 : decode cX5_does 141 = .ok (.iload_n 2, 1) := by decide +kernel
theorem dX5_does_142 : decode cX5_does 142 = .ok (.iload_n 3, 1) := by decide +kernel
theorem dX5_does_143 : decode cX5_does 143 = .ok (.iload 4, 2) := by decide +kernel
theorem dX5_does_145 : decode cX5_does 145 = .ok (.invokevirtual 95, 3) := by decide +kernel
theorem dX5_does_148 : decode cX5_does 148 = .ok (.ireturn, 1) := by decide +kernel
theorem dX5_does_149 : decode cX5_does 149 = .ok (.aload_n 0, 1) := by decide +kernel
theorem dX5_does_150 : decode cX5_does 150 = .ok (.iload_n 2, 1) := by decide +kernel
theorem dX5_does_151 : decode cX5_does 151 = .ok (.invokevirtual 110, 3) := by decide +kernel
theorem dX5_does_154 : decode cX5_does 154 = .ok (.ireturn, 1) := by decide +kernel
theorem dX5_does_155 : decode cX5_does 155 = .ok (.aload_n 0, 1) := by decide +kernel
theorem dX5_does_156 : decode cX5_does 156 = .ok (.iload_n 2, 1) := by decide +kernel
theorem dX5_does_157 : decode cX5_does 157 = .ok (.iload_n 3, 1) := by decide +kernel
theorem dX5_does_158 : decode cX5_does 158 = .ok (.invokevirtual 117, 3) := by decide +kernel
theorem dX5_does_161 : decode cX5_does 161 = .ok (.ireturn, 1) := by decide +kernel
theorem dX5_does_162 : decode cX5_does 162 = .ok (.aload_n 0, 1) := by decide +kernel
theorem dX5_does_163 : decode cX5_does 163 = .ok (.iload_n 2, 1) := by decide +kernel
theorem dX5_does_164 : decode cX5_does 164 = .ok (.invokevirtual 120, 3) := by decide +kernel
theorem dX5_does_167 : decode cX5_does 167 = .ok (.ireturn, 1) := by decide +kernel
theorem dX5_does_168 : decode cX5_does 168 = .ok (.aload_n 0, 1) := by decide +kernel
theorem dX5_does_169 : decode cX5_does 169 = .ok (.iload_n 2, 1) := by decide +kernel
theorem dX5_does_170 : decode cX5_does 170 = .ok (.iload_n 3, 1) := by decide +kernel
theorem dX5_does_171 : decode cX5_does 171 = .ok (.invokevirtual 123, 3) := by decide +kernel
theorem dX5_does_174 : decode cX5_does 174 = .ok (.ireturn, 1) := by decide +kernel
theorem dX5_does_175 : decode cX5_does 175 = .ok (.aload_n 0, 1) := by decide +kernel
theorem dX5_does_176 : decode cX5_does 176 = .ok (.iload_n 2, 1) := by decide +kernel
theorem dX5_does_177 : decode cX5_does 177 = .ok (.invokevirtual 126, 3) := by decide +kernel
theorem dX5_does_180 : decode cX5_does 180 = .ok (.ireturn, 1) := by decide +kernel
theorem dX5_does_181 : decode cX5_does 181 = .ok (.aload_n 0, 1) := by decide +kernel
theorem dX5_does_182 : decode cX5_does 182 = .ok (.iload_n 2, 1) := by decide +kernel
theorem dX5_does_183 : decode cX5_does 183 = .ok (.iload_n 3, 1) := by decide +kernel
theorem dX5_does_184 : decode cX5_does 184 = .ok (.invokevirtual 135, 3) := by decide +kernel
theorem dX5_does_187 : decode cX5_does 187 = .ok (.ireturn, 1) := by decide +kernel
theorem dX5_does_188 : decode cX5_does 188 = .ok (.aload_n 0, 1) := by decide +kernel
theorem dX5_does_189 : decode cX5_does 189 = .ok (.iload_n 2, 1) := by decide +kernel
theorem dX5_does_190 : decode cX5_does 190 = .ok (.invokevirtual 138, 3) := by decide +kernel
theorem dX5_does_193 : decode cX5_does 193 = .ok (.ireturn, 1) := by decide +kernel
theorem dX5_does_194 : decode cX5_does 194 = .ok (.aload_n 0, 1) := by decide +kernel
theorem dX5_does_195 : decode cX5_does 195 = .ok (.invokevirtual 141, 3) := by decide +kernel
theorem dX5_does_198 : decode cX5_does 198 = .ok (.ireturn, 1) := by decide +kernel
theorem dX5_does_199 : decode cX5_does 199 = .ok (.aload_n 0, 1) := by decide +kernel
theorem dX5_does_200 : decode cX5_does 200 = .ok (.invokevirtual 144, 3) := by decide +kernel
theorem dX5_does_203 : decode cX5_does 203 = .ok (.ireturn, 1) := by decide +kernel
theorem dX5_does_204 : decode cX5_does 204 = .ok (.aload_n 0, 1) := by decide +kernel
theorem dX5_does_205 : decode cX5_does 205 = .ok (.iload_n 2, 1) := by decide +kernel
theorem dX5_does_206 : decode cX5_does 206 = .ok (.iload_n 3, 1) := by decide +kernel
theorem dX5_does_207 : decode cX5_does 207 = .ok (.iload 4, 2) := by decide +kernel
theorem dX5_does_209 : decode cX5_does 209 = .ok (.invokevirtual 156, 3) := by decide +kernel
theorem dX5_does_212 : decode cX5_does 212 = .ok (.ireturn, 1) := by decide +kernel
theorem dX5_does_213 : decode cX5_does 213 = .ok (.aload_n 0, 1) := by decide +kernel
theorem dX5_does_214 : decode cX5_does 214 = .ok (.iload_n 2, 1) := by decide +kernel
theorem dX5_does_215 : decode cX5_does 215 = .ok (.invokevirtual 162, 3) := by decide +kernel
theorem dX5_does_218 : decode cX5_does 218 = .ok (.ireturn, 1) := by decide +kernel
theorem dX5_does_219 : decode cX5_does 219 = .ok (.aload_n 0, 1) := by decide +kernel
theorem dX5_does_220 : decode cX5_does 220 = .ok (.iload_n 2, 1) := by decide +kernel
theorem dX5_does_221 : decode cX5_does 221 = .ok (.invokevirtual 168, 3) := by decide +kernel
theorem dX5_does_224 : decode cX5_does 224 = .ok (.ireturn, 1) := by decide +kernel
theorem dX5_execute_0 : decode cX5_execute 0 = .ok (.aload_n 0, 1) := by decide +kernel
theorem dX5_execute_1 : decode cX5_execute 1 = .ok (.invokevirtual 233, 3) := by decide +kernel
theorem dX5_execute_4 : decode cX5_execute 4 = .ok (.aload_n 0, 1) := by decide +kernel
theorem dX5_execute_5 : decode cX5_execute 5 = .ok (.iconst 0, 1) := by decide +kernel
theorem dX5_execute_6 : decode cX5_execute 6 = .ok (.putfield 200, 3) := by decide +kernel
theorem dX5_execute_9 : decode cX5_execute 9 = .ok (.aload_n 0, 1) := by decide +kernel
theorem dX5_execute_10 : decode cX5_execute 10 = .ok (.getfield 206, 3) := by decide +kernel
theorem dX5_execute_13 : decode cX5_execute 13 = .ok (.ifCond .lt 18, 3) := by decide +kernel
theorem dX5_execute_16 : decode cX5_execute 16 = .ok (.aload_n 0, 1) := by decide +kernel
theorem dX5_execute_17 : decode cX5_execute 17 = .ok (.aload_n 0, 1) := by decide +kernel
theorem dX5_execute_18 : decode cX5_execute 18 = .ok (.getfield 206, 3) := by decide +kernel
theorem dX5_execute_21 : decode cX5_execute 21 = .ok (.putfield 20, 3) := by decide +kernel
theorem dX5_execute_24 : decode cX5_execute 24 = .ok (.aload_n 0, 1) := by decide +kernel
theorem dX5_execute_25 : decode cX5_execute 25 = .ok (.iconst 1, 1) := by decide +kernel
theorem dX5_execute_26 : decode cX5_execute 26 = .ok (.putfield 27, 3) := by decide +kernel
theorem dX5_execute_29 : decode cX5_execute 29 = .ok (.iconst 0, 1) := by decide +kernel
theorem dX5_execute_30 : decode cX5_execute 30 = .ok (.ireturn, 1) := by decide +kernel
theorem dX5_execute_31 : decode cX5_execute 31 = .ok (.aload_n 0, 1) := by decide +kernel
theorem dX5_execute_32 : decode cX5_execute 32 = .ok (.invokevirtual 92, 3) := by decide +kernel
theorem dX5_execute_35 : decode cX5_execute 35 = .ok (.iconst 0, 1) := by decide +kernel
theorem dX5_execute_36 : decode cX5_execute 36 = .ok (.istore_n 1, 1) := by decide +kernel
theorem dX5_execute_37 : decode cX5_execute 37 = .ok (.iconst 0, 1) := by decide +kernel
theorem dX5_execute_38 : decode cX5_execute 38 = .ok (.istore_n 2, 1) := by decide +kernel
theorem dX5_execute_39 : decode cX5_execute 39 = .ok (.iload_n 2, 1) := by decide +kernel
theorem dX5_execute_40 : decode cX5_execute 40 = .ok (.aload_n 0, 1) := by decide +kernel
theorem dX5_execute_41 : decode cX5_execute 41 = .ok (.getfield 218, 3) := by decide +kernel
theorem dX5_execute_44 : decode cX5_execute 44 = .ok (.if_icmp .ge 21, 3) := by decide +kernel
theorem dX5_execute_47 : decode cX5_execute 47 = .ok (.iload_n 1, 1) := by decide +kernel
theorem dX5_execute_48 : decode cX5_execute 48 = .ok (.ifCond .ne 17, 3) := by decide +kernel
theorem dX5_execute_51 : decode cX5_execute 51 = .ok (.aload_n 0, 1) := by decide +kernel
theorem dX5_execute_52 : decode cX5_execute 52 = .ok (.iconst 4, 1) := by decide +kernel
theorem dX5_execute_53 : decode cX5_execute 53 = .ok (.iload_n 2, 1) := by decide +kernel
theorem dX5_execute_54 : decode cX5_execute 54 = .ok (.imul, 1) := by decide +kernel
theorem dX5_execute_55 : decode cX5_execute 55 = .ok (.invokevirtual 236, 3) := by decide +kernel
theorem dX5_execute_58 : decode cX5_execute 58 = .ok (.istore_n 1, 1) := by decide +kernel
theorem dX5_execute_59 : decode cX5_execute 59 = .ok (.iinc 2 1, 3) := by decide +kernel
theorem dX5_execute_62 : decode cX5_execute 62 = .ok (.goto (-23), 3) := by decide +kernel
theorem dX5_execute_65 : decode cX5_execute 65 = .ok (.iload_n 1, 1) := by decide +kernel
theorem dX5_execute_66 : decode cX5_execute 66 = .ok (.iconst 3, 1) := by decide +kernel
theorem dX5_execute_67 : decode cX5_execute 67 = .ok (.if_icmp .ne 24, 3) := by decide +kernel
theorem dX5_execute_70 : decode cX5_execute 70 = .ok (.aload_n 0, 1) := by decide +kernel
theorem dX5_execute_71 : decode cX5_execute 71 = .ok (.aload_n 0, 1) := by decide +kernel
theorem dX5_execute_72 : decode cX5_execute 72 = .ok (.getfield 40, 3) := by decide +kernel
theorem dX5_execute_75 : decode cX5_execute 75 = .ok (.putfield 46, 3) := by decide +kernel
theorem dX5_execute_78 : decode cX5_execute 78 = .ok (.aload_n 0, 1) := by decide +kernel
theorem dX5_execute_79 : decode cX5_execute 79 = .ok (.bipush 10, 2) := by decide +kernel
theorem dX5_execute_81 : decode cX5_execute 81 = .ok (.putfield 40, 3) := by decide +kernel
theorem dX5_execute_84 : decode cX5_execute 84 = .ok (.aload_n 0, 1) := by decide +kernel
theorem dX5_execute_85 : decode cX5_execute 85 = .ok (.iload_n 2, 1) := by decide +kernel
theorem dX5_execute_86 : decode cX5_execute 86 = .ok (.iconst 1, 1) := by decide +kernel
theorem dX5_execute_87 : decode cX5_execute 87 = .ok (.isub, 1) := by decide +kernel
theorem dX5_execute_88 : decode cX5_execute 88 = .ok (.putfield 43, 3) := by decide +kernel
theorem dX5_execute_91 : decode cX5_execute 91 = .ok (.aload_n 0, 1) := by decide +kernel
theorem dX5_execute_92 : decode cX5_execute 92 = .ok (.aload_n 0, 1) := by decide +kernel
theorem dX5_execute_93 : decode cX5_execute 93 = .ok (.getfield 218, 3) := by decide +kernel
theorem dX5_execute_96 : decode cX5_execute 96 = .ok (.putfield 37, 3) := by decide +kernel
theorem dX5_execute_99 : decode cX5_execute 99 = .ok (.aload_n 0, 1) := by decide +kernel
theorem dX5_execute_100 : decode cX5_execute 100 = .ok (.iload_n 1, 1) := by decide +kernel
theorem dX5_execute_101 : decode cX5_execute 101 = .ok (.iconst 2, 1) := by decide +kernel
theorem dX5_execute_102 : decode cX5_execute 102 = .ok (.iconst 2, 1) := by decide +kernel
theorem dX5_execute_103 : decode cX5_execute 103 = .ok (.iconst 3, 1) := by decide +kernel
theorem dX5_execute_104 : decode cX5_execute 104 = .ok (.invokevirtual 99, 3) := by decide +kernel
theorem dX5_execute_107 : decode cX5_execute 107 = .ok (.ireturn, 1) := by decide +kernel
theorem dX5_syntaxErrorOffset_0 : decode cX5_syntaxErrorOffset 0 = .ok (.aload_n 0, 1) := by decide +kernel
theorem dX5_syntaxErrorOffset_1 : decode cX5_syntaxErrorOffset 1 = .ok (.aload_n 0, 1) := by decide +kernel
theorem dX5_syntaxErrorOffset_2 : decode cX5_syntaxErrorOffset 2 = .ok (.getfield 20, 3) := by decide +kernel
theorem dX5_syntaxErrorOffset_5 : decode cX5_syntaxErrorOffset 5 = .ok (.iconst (-1), 1) := by decide +kernel
theorem dX5_syntaxErrorOffset_6 : decode cX5_syntaxErrorOffset 6 = .ok (.if_icmp .eq 7, 3) := by decide +kernel
theorem dX5_syntaxErrorOffset_9 : decode cX5_syntaxErrorOffset 9 = .ok (.iconst 1, 1) := by decide +kernel
theorem dX5_syntaxErrorOffset_10 : decode cX5_syntaxErrorOffset 10 = .ok (.goto 4, 3) := by decide +kernel
theorem dX5_syntaxErrorOffset_13 : decode cX5_syntaxErrorOffset 13 = .ok (.iconst 0, 1) := by decide +kernel
theorem dX5_syntaxErrorOffset_14 : decode cX5_syntaxErrorOffset 14 = .ok (.invokevirtual 49, 3) := by decide +kernel
theorem dX5_syntaxErrorOffset_17 : decode cX5_syntaxErrorOffset 17 = .ok (.ifCond .eq 10, 3) := by decide +kernel
theorem dX5_syntaxErrorOffset_20 : decode cX5_syntaxErrorOffset 20 = .ok (.aload_n 0, 1) := by decide +kernel
theorem dX5_syntaxErrorOffset_21 : decode cX5_syntaxErrorOffset 21 = .ok (.getfield 20, 3) := by decide +kernel
theorem dX5_syntaxErrorOffset_24 : decode cX5_syntaxErrorOffset 24 = .ok (.goto 4, 3) := by decide +kernel
theorem dX5_syntaxErrorOffset_27 : decode cX5_syntaxErrorOffset 27 = .ok (.iconst 0, 1) := by decide +kernel
theorem dX5_syntaxErrorOffset_28 : decode cX5_syntaxErrorOffset 28 = .ok (.ireturn, 1) := by decide +kernel
theorem dX5_undo_0 : decode cX5_undo 0 = .ok (.aload_n 0, 1) := by decide +kernel
theorem dX5_undo_1 : decode cX5_undo 1 = .ok (.aload_n 0, 1) := by decide +kernel
theorem dX5_undo_2 : decode cX5_undo 2 = .ok (.getfield 34, 3) := by decide +kernel
theorem dX5_undo_5 : decode cX5_undo 5 = .ok (.ifCond .le 7, 3) := by decide +kernel
theorem dX5_undo_8 : decode cX5_undo 8 = .ok (.iconst 1, 1) := by decide +kernel
theorem dX5_undo_9 : decode cX5_undo 9 = .ok (.goto 4, 3) := by decide +kernel
theorem dX5_undo_12 : decode cX5_undo 12 = .ok (.iconst 0, 1) := by decide +kernel
theorem dX5_undo_13 : decode cX5_undo 13 = .ok (.invokevirtual 49, 3) := by decide +kernel
theorem dX5_undo_16 : decode cX5_undo 16 = .ok (.ifCond .ne 5, 3) := by decide +kernel
theorem dX5_undo_19 : decode cX5_undo 19 = .ok (.iconst 0, 1) := by decide +kernel
theorem dX5_undo_20 : decode cX5_undo 20 = .ok (.ireturn, 1) := by decide +kernel
theorem dX5_undo_21 : decode cX5_undo 21 = .ok (.aload_n 0, 1) := by decide +kernel
theorem dX5_undo_22 : decode cX5_undo 22 = .ok (.aload_n 0, 1) := by decide +kernel
theorem dX5_undo_23 : decode cX5_undo 23 = .ok (.getfield 34, 3) := by decide +kernel
theorem dX5_undo_26 : decode cX5_undo 26 = .ok (.iconst 0, 1) := by decide +kernel
theorem dX5_undo_27 : decode cX5_undo 27 = .ok (.invokevirtual 30, 3) := by decide +kernel
theorem dX5_undo_30 : decode cX5_undo 30 = .ok (.aload_n 0, 1) := by decide +kernel
theorem dX5_undo_31 : decode cX5_undo 31 = .ok (.dup, 1) := by decide +kernel
theorem dX5_undo_32 : decode cX5_undo 32 = .ok (.getfield 34, 3) := by decide +kernel
theorem dX5_undo_35 : decode cX5_undo 35 = .ok (.iconst 1, 1) := by decide +kernel
theorem dX5_undo_36 : decode cX5_undo 36 = .ok (.isub, 1) := by decide +kernel
theorem dX5_undo_37 : decode cX5_undo 37 = .ok (.putfield 34, 3) := by decide +kernel
theorem dX5_undo_40 : decode cX5_undo 40 = .ok (.aload_n 0, 1) := by decide +kernel
theorem dX5_undo_41 : decode cX5_undo 41 = .ok (.getfield 34, 3) := by decide +kernel
theorem dX5_undo_44 : decode cX5_undo 44 = .ok (.ireturn, 1) := by decide +kernel
theorem dX5_saveSnapshot_0 : decode cX5_saveSnapshot 0 = .ok (.aload_n 0, 1) := by decide +kernel
theorem dX5_saveSnapshot_1 : decode cX5_saveSnapshot 1 = .ok (.iconst 0, 1) := by decide +kernel
theorem dX5_saveSnapshot_2 : decode cX5_saveSnapshot 2 = .ok (.putfield 27, 3) := by decide +kernel
theorem dX5_saveSnapshot_5 : decode cX5_saveSnapshot 5 = .ok (.aload_n 0, 1) := by decide +kernel
theorem dX5_saveSnapshot_6 : decode cX5_saveSnapshot 6 = .ok (.iconst 1, 1) := by decide +kernel
theorem dX5_saveSnapshot_7 : decode cX5_saveSnapshot 7 = .ok (.putfield 239, 3) := by decide +kernel
theorem dX5_saveSnapshot_10 : decode cX5_saveSnapshot 10 = .ok (.aload_n 0, 1) := by decide +kernel
theorem dX5_saveSnapshot_11 : decode cX5_saveSnapshot 11 = .ok (.iconst 0, 1) := by decide +kernel
theorem dX5_saveSnapshot_12 : decode cX5_saveSnapshot 12 = .ok (.bipush 9, 2) := by decide +kernel
theorem dX5_saveSnapshot_14 : decode cX5_saveSnapshot 14 = .ok (.invokevirtual 30, 3) := by decide +kernel
theorem dX5_saveSnapshot_17 : decode cX5_saveSnapshot 17 = .ok (.aload_n 0, 1) := by decide +kernel
theorem dX5_saveSnapshot_18 : decode cX5_saveSnapshot 18 = .ok (.getfield 9, 3) := by decide +kernel
theorem dX5_saveSnapshot_21 : decode cX5_saveSnapshot 21 = .ok (.iconst 0, 1) := by decide +kernel
theorem dX5_saveSnapshot_22 : decode cX5_saveSnapshot 22 = .ok (.iaload, 1) := by decide +kernel
theorem dX5_saveSnapshot_23 : decode cX5_saveSnapshot 23 = .ok (.ireturn, 1) := by decide +kernel
theorem dX5_restoreSnapshot_0 : decode cX5_restoreSnapshot 0 = .ok (.aload_n 0, 1) := by decide +kernel
theorem dX5_restoreSnapshot_1 : decode cX5_restoreSnapshot 1 = .ok (.aload_n 0, 1) := by decide +kernel
theorem dX5_restoreSnapshot_2 : decode cX5_restoreSnapshot 2 = .ok (.getfield 239, 3) := by decide +kernel
theorem dX5_restoreSnapshot_5 : decode cX5_restoreSnapshot 5 = .ok (.invokevirtual 49, 3) := by decide +kernel
theorem dX5_restoreSnapshot_8 : decode cX5_restoreSnapshot 8 = .ok (.ifCond .ne 5, 3) := by decide +kernel
theorem dX5_restoreSnapshot_11 : decode cX5_restoreSnapshot 11 = .ok (.iconst 0, 1) := by decide +kernel
theorem dX5_restoreSnapshot_12 : decode cX5_restoreSnapshot 12 = .ok (.ireturn, 1) := by decide +kernel
theorem dX5_restoreSnapshot_13 : decode cX5_restoreSnapshot 13 = .ok (.aload_n 0, 1) := by decide +kernel
theorem dX5_restoreSnapshot_14 : decode cX5_restoreSnapshot 14 = .ok (.bipush 9, 2) := by decide +kernel
theorem dX5_restoreSnapshot_16 : decode cX5_restoreSnapshot 16 = .ok (.iconst 0, 1) := by decide +kernel
theorem dX5_restoreSnapshot_17 : decode cX5_restoreSnapshot 17 = .ok (.invokevirtual 30, 3) := by decide +kernel
theorem dX5_restoreSnapshot_20 : decode cX5_restoreSnapshot 20 = .ok (.aload_n 0, 1) := by decide +kernel
theorem dX5_restoreSnapshot_21 : decode cX5_restoreSnapshot 21 = .ok (.iconst 0, 1) := by decide +kernel
theorem dX5_restoreSnapshot_22 : decode cX5_restoreSnapshot 22 = .ok (.putfield 34, 3) := by decide +kernel
theorem dX5_restoreSnapshot_25 : decode cX5_restoreSnapshot 25 = .ok (.aload_n 0, 1) := by decide +kernel
theorem dX5_restoreSnapshot_26 : decode cX5_restoreSnapshot 26 = .ok (.getfield 9, 3) := by decide +kernel
theorem dX5_restoreSnapshot_29 : decode cX5_restoreSnapshot 29 = .ok (.iconst 0, 1) := by decide +kernel
theorem dX5_restoreSnapshot_30 : decode cX5_restoreSnapshot 30 = .ok (.iaload, 1) := by decide +kernel
theorem dX5_restoreSnapshot_31 : decode cX5_restoreSnapshot 31 = .ok (.ireturn, 1) := by decide +kernel
