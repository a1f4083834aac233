/-! the reference: its public methods (the simple ones) -/

theorem d_M_article_0 : decode b_M_article 0 = .ok (.aload_n 0, 1) := by decide +kernel
theorem d_M_article_1 : decode b_M_article 1 = .ok (.iload_n 1, 1) := by decide +kernel
theorem d_M_article_2 : decode b_M_article 2 = .ok (.bipush 8, 2) := by decide +kernel
theorem d_M_article_4 : decode b_M_article 4 = .ok (.invokestatic 123, 3) := by decide +kernel
theorem d_M_article_7 : decode b_M_article 7 = .ok (.ifCond .ne 13, 3) := by decide +kernel
theorem d_M_article_10 : decode b_M_article 10 = .ok (.iload_n 2, 1) := by decide +kernel
theorem d_M_article_11 : decode b_M_article 11 = .ok (.ifCond .lt 9, 3) := by decide +kernel
theorem d_M_article_14 : decode b_M_article 14 = .ok (.iload_n 2, 1) := by decide +kernel
theorem d_M_article_15 : decode b_M_article 15 = .ok (.ldc 127, 2) := by decide +kernel
theorem d_M_article_17 : decode b_M_article 17 = .ok (.if_icmp .le 7, 3) := by decide +kernel
theorem d_M_article_20 : decode b_M_article 20 = .ok (.iconst 1, 1) := by decide +kernel
theorem d_M_article_21 : decode b_M_article 21 = .ok (.goto 4, 3) := by decide +kernel
theorem d_M_article_24 : decode b_M_article 24 = .ok (.iconst 0, 1) := by decide +kernel
theorem d_M_article_25 : decode b_M_article 25 = .ok (.putfield 7, 3) := by decide +kernel
theorem d_M_article_28 : decode b_M_article 28 = .ok (.aload_n 0, 1) := by decide +kernel
theorem d_M_article_29 : decode b_M_article 29 = .ok (.getfield 7, 3) := by decide +kernel
theorem d_M_article_32 : decode b_M_article 32 = .ok (.ifCond .ne 10, 3) := by decide +kernel
theorem d_M_article_35 : decode b_M_article 35 = .ok (.aload_n 0, 1) := by decide +kernel
theorem d_M_article_36 : decode b_M_article 36 = .ok (.getfield 16, 3) := by decide +kernel
theorem d_M_article_39 : decode b_M_article 39 = .ok (.iload_n 1, 1) := by decide +kernel
theorem d_M_article_40 : decode b_M_article 40 = .ok (.iload_n 2, 1) := by decide +kernel
theorem d_M_article_41 : decode b_M_article 41 = .ok (.iastore, 1) := by decide +kernel
theorem d_M_article_42 : decode b_M_article 42 = .ok (.return_, 1) := by decide +kernel

theorem d_M_bundle_0 : decode b_M_bundle 0 = .ok (.aload_n 0, 1) := by decide +kernel
theorem d_M_bundle_1 : decode b_M_bundle 1 = .ok (.iload_n 1, 1) := by decide +kernel
theorem d_M_bundle_2 : decode b_M_bundle 2 = .ok (.bipush 8, 2) := by decide +kernel
theorem d_M_bundle_4 : decode b_M_bundle 4 = .ok (.invokestatic 123, 3) := by decide +kernel
theorem d_M_bundle_7 : decode b_M_bundle 7 = .ok (.ifCond .ne 38, 3) := by decide +kernel
theorem d_M_bundle_10 : decode b_M_bundle 10 = .ok (.iload_n 2, 1) := by decide +kernel
theorem d_M_bundle_11 : decode b_M_bundle 11 = .ok (.iconst 2, 1) := by decide +kernel
theorem d_M_bundle_12 : decode b_M_bundle 12 = .ok (.invokestatic 123, 3) := by decide +kernel
theorem d_M_bundle_15 : decode b_M_bundle 15 = .ok (.ifCond .ne 30, 3) := by decide +kernel
theorem d_M_bundle_18 : decode b_M_bundle 18 = .ok (.iload_n 3, 1) := by decide +kernel
theorem d_M_bundle_19 : decode b_M_bundle 19 = .ok (.ifCond .eq 14, 3) := by decide +kernel
theorem d_M_bundle_22 : decode b_M_bundle 22 = .ok (.iload_n 3, 1) := by decide +kernel
theorem d_M_bundle_23 : decode b_M_bundle 23 = .ok (.iconst 2, 1) := by decide +kernel
theorem d_M_bundle_24 : decode b_M_bundle 24 = .ok (.if_icmp .lt 21, 3) := by decide +kernel
theorem d_M_bundle_27 : decode b_M_bundle 27 = .ok (.iload_n 3, 1) := by decide +kernel
theorem d_M_bundle_28 : decode b_M_bundle 28 = .ok (.bipush 12, 2) := by decide +kernel
theorem d_M_bundle_30 : decode b_M_bundle 30 = .ok (.if_icmp .gt 15, 3) := by decide +kernel
theorem d_M_bundle_33 : decode b_M_bundle 33 = .ok (.iload 4, 2) := by decide +kernel
theorem d_M_bundle_35 : decode b_M_bundle 35 = .ok (.ifCond .lt 10, 3) := by decide +kernel
theorem d_M_bundle_38 : decode b_M_bundle 38 = .ok (.iload 4, 2) := by decide +kernel
theorem d_M_bundle_40 : decode b_M_bundle 40 = .ok (.ldc 127, 2) := by decide +kernel
theorem d_M_bundle_42 : decode b_M_bundle 42 = .ok (.if_icmp .le 7, 3) := by decide +kernel
theorem d_M_bundle_45 : decode b_M_bundle 45 = .ok (.iconst 1, 1) := by decide +kernel
theorem d_M_bundle_46 : decode b_M_bundle 46 = .ok (.goto 4, 3) := by decide +kernel
theorem d_M_bundle_49 : decode b_M_bundle 49 = .ok (.iconst 0, 1) := by decide +kernel
theorem d_M_bundle_50 : decode b_M_bundle 50 = .ok (.putfield 7, 3) := by decide +kernel
theorem d_M_bundle_53 : decode b_M_bundle 53 = .ok (.aload_n 0, 1) := by decide +kernel
theorem d_M_bundle_54 : decode b_M_bundle 54 = .ok (.getfield 7, 3) := by decide +kernel
theorem d_M_bundle_57 : decode b_M_bundle 57 = .ok (.ifCond .eq 4, 3) := by decide +kernel
theorem d_M_bundle_60 : decode b_M_bundle 60 = .ok (.return_, 1) := by decide +kernel
theorem d_M_bundle_61 : decode b_M_bundle 61 = .ok (.aload_n 0, 1) := by decide +kernel
theorem d_M_bundle_62 : decode b_M_bundle 62 = .ok (.getfield 20, 3) := by decide +kernel
theorem d_M_bundle_65 : decode b_M_bundle 65 = .ok (.iconst 2, 1) := by decide +kernel
theorem d_M_bundle_66 : decode b_M_bundle 66 = .ok (.iload_n 1, 1) := by decide +kernel
theorem d_M_bundle_67 : decode b_M_bundle 67 = .ok (.imul, 1) := by decide +kernel
theorem d_M_bundle_68 : decode b_M_bundle 68 = .ok (.iload_n 2, 1) := by decide +kernel
theorem d_M_bundle_69 : decode b_M_bundle 69 = .ok (.iadd, 1) := by decide +kernel
theorem d_M_bundle_70 : decode b_M_bundle 70 = .ok (.iload_n 3, 1) := by decide +kernel
theorem d_M_bundle_71 : decode b_M_bundle 71 = .ok (.iastore, 1) := by decide +kernel
theorem d_M_bundle_72 : decode b_M_bundle 72 = .ok (.aload_n 0, 1) := by decide +kernel
theorem d_M_bundle_73 : decode b_M_bundle 73 = .ok (.getfield 23, 3) := by decide +kernel
theorem d_M_bundle_76 : decode b_M_bundle 76 = .ok (.iconst 2, 1) := by decide +kernel
theorem d_M_bundle_77 : decode b_M_bundle 77 = .ok (.iload_n 1, 1) := by decide +kernel
theorem d_M_bundle_78 : decode b_M_bundle 78 = .ok (.imul, 1) := by decide +kernel
theorem d_M_bundle_79 : decode b_M_bundle 79 = .ok (.iload_n 2, 1) := by decide +kernel
theorem d_M_bundle_80 : decode b_M_bundle 80 = .ok (.iadd, 1) := by decide +kernel
theorem d_M_bundle_81 : decode b_M_bundle 81 = .ok (.iload 4, 2) := by decide +kernel
theorem d_M_bundle_83 : decode b_M_bundle 83 = .ok (.iastore, 1) := by decide +kernel
theorem d_M_bundle_84 : decode b_M_bundle 84 = .ok (.return_, 1) := by decide +kernel

theorem d_M_activate_0 : decode b_M_activate 0 = .ok (.aload_n 0, 1) := by decide +kernel
theorem d_M_activate_1 : decode b_M_activate 1 = .ok (.iload_n 1, 1) := by decide +kernel
theorem d_M_activate_2 : decode b_M_activate 2 = .ok (.iconst 1, 1) := by decide +kernel
theorem d_M_activate_3 : decode b_M_activate 3 = .ok (.if_icmp .lt 11, 3) := by decide +kernel
theorem d_M_activate_6 : decode b_M_activate 6 = .ok (.iload_n 1, 1) := by decide +kernel
theorem d_M_activate_7 : decode b_M_activate 7 = .ok (.aload_n 0, 1) := by decide +kernel
theorem d_M_activate_8 : decode b_M_activate 8 = .ok (.getfield 13, 3) := by decide +kernel
theorem d_M_activate_11 : decode b_M_activate 11 = .ok (.if_icmp .le 7, 3) := by decide +kernel
theorem d_M_activate_14 : decode b_M_activate 14 = .ok (.iconst 1, 1) := by decide +kernel
theorem d_M_activate_15 : decode b_M_activate 15 = .ok (.goto 24, 3) := by decide +kernel
theorem d_M_activate_18 : decode b_M_activate 18 = .ok (.iload_n 1, 1) := by decide +kernel
theorem d_M_activate_19 : decode b_M_activate 19 = .ok (.aload_n 0, 1) := by decide +kernel
theorem d_M_activate_20 : decode b_M_activate 20 = .ok (.getfield 51, 3) := by decide +kernel
theorem d_M_activate_23 : decode b_M_activate 23 = .ok (.if_icmp .le 11, 3) := by decide +kernel
theorem d_M_activate_26 : decode b_M_activate 26 = .ok (.iload_n 1, 1) := by decide +kernel
theorem d_M_activate_27 : decode b_M_activate 27 = .ok (.aload_n 0, 1) := by decide +kernel
theorem d_M_activate_28 : decode b_M_activate 28 = .ok (.getfield 54, 3) := by decide +kernel
theorem d_M_activate_31 : decode b_M_activate 31 = .ok (.if_icmp .gt 7, 3) := by decide +kernel
theorem d_M_activate_34 : decode b_M_activate 34 = .ok (.iconst 2, 1) := by decide +kernel
theorem d_M_activate_35 : decode b_M_activate 35 = .ok (.goto 4, 3) := by decide +kernel
theorem d_M_activate_38 : decode b_M_activate 38 = .ok (.iconst 0, 1) := by decide +kernel
theorem d_M_activate_39 : decode b_M_activate 39 = .ok (.putfield 7, 3) := by decide +kernel
theorem d_M_activate_42 : decode b_M_activate 42 = .ok (.aload_n 0, 1) := by decide +kernel
theorem d_M_activate_43 : decode b_M_activate 43 = .ok (.getfield 7, 3) := by decide +kernel
theorem d_M_activate_46 : decode b_M_activate 46 = .ok (.ifCond .eq 4, 3) := by decide +kernel
theorem d_M_activate_49 : decode b_M_activate 49 = .ok (.return_, 1) := by decide +kernel
theorem d_M_activate_50 : decode b_M_activate 50 = .ok (.aload_n 0, 1) := by decide +kernel
theorem d_M_activate_51 : decode b_M_activate 51 = .ok (.iload_n 1, 1) := by decide +kernel
theorem d_M_activate_52 : decode b_M_activate 52 = .ok (.putfield 54, 3) := by decide +kernel
theorem d_M_activate_55 : decode b_M_activate 55 = .ok (.aload_n 0, 1) := by decide +kernel
theorem d_M_activate_56 : decode b_M_activate 56 = .ok (.invokevirtual 120, 3) := by decide +kernel
theorem d_M_activate_59 : decode b_M_activate 59 = .ok (.return_, 1) := by decide +kernel

theorem d_M_active_0 : decode b_M_active 0 = .ok (.aload_n 0, 1) := by decide +kernel
theorem d_M_active_1 : decode b_M_active 1 = .ok (.iconst 0, 1) := by decide +kernel
theorem d_M_active_2 : decode b_M_active 2 = .ok (.putfield 7, 3) := by decide +kernel
theorem d_M_active_5 : decode b_M_active 5 = .ok (.aload_n 0, 1) := by decide +kernel
theorem d_M_active_6 : decode b_M_active 6 = .ok (.getfield 51, 3) := by decide +kernel
theorem d_M_active_9 : decode b_M_active 9 = .ok (.ireturn, 1) := by decide +kernel

theorem d_M_rate_0 : decode b_M_rate 0 = .ok (.aload_n 0, 1) := by decide +kernel
theorem d_M_rate_1 : decode b_M_rate 1 = .ok (.iload_n 1, 1) := by decide +kernel
theorem d_M_rate_2 : decode b_M_rate 2 = .ok (.iconst 5, 1) := by decide +kernel
theorem d_M_rate_3 : decode b_M_rate 3 = .ok (.invokestatic 123, 3) := by decide +kernel
theorem d_M_rate_6 : decode b_M_rate 6 = .ok (.ifCond .ne 15, 3) := by decide +kernel
theorem d_M_rate_9 : decode b_M_rate 9 = .ok (.iload_n 2, 1) := by decide +kernel
theorem d_M_rate_10 : decode b_M_rate 10 = .ok (.bipush 99, 2) := by decide +kernel
theorem d_M_rate_12 : decode b_M_rate 12 = .ok (.if_icmp .lt 9, 3) := by decide +kernel
theorem d_M_rate_15 : decode b_M_rate 15 = .ok (.iload_n 2, 1) := by decide +kernel
theorem d_M_rate_16 : decode b_M_rate 16 = .ok (.bipush 101, 2) := by decide +kernel
theorem d_M_rate_18 : decode b_M_rate 18 = .ok (.if_icmp .le 7, 3) := by decide +kernel
theorem d_M_rate_21 : decode b_M_rate 21 = .ok (.iconst 1, 1) := by decide +kernel
theorem d_M_rate_22 : decode b_M_rate 22 = .ok (.goto 4, 3) := by decide +kernel
theorem d_M_rate_25 : decode b_M_rate 25 = .ok (.iconst 0, 1) := by decide +kernel
theorem d_M_rate_26 : decode b_M_rate 26 = .ok (.putfield 7, 3) := by decide +kernel
theorem d_M_rate_29 : decode b_M_rate 29 = .ok (.aload_n 0, 1) := by decide +kernel
theorem d_M_rate_30 : decode b_M_rate 30 = .ok (.getfield 7, 3) := by decide +kernel
theorem d_M_rate_33 : decode b_M_rate 33 = .ok (.ifCond .ne 10, 3) := by decide +kernel
theorem d_M_rate_36 : decode b_M_rate 36 = .ok (.aload_n 0, 1) := by decide +kernel
theorem d_M_rate_37 : decode b_M_rate 37 = .ok (.getfield 29, 3) := by decide +kernel
theorem d_M_rate_40 : decode b_M_rate 40 = .ok (.iload_n 1, 1) := by decide +kernel
theorem d_M_rate_41 : decode b_M_rate 41 = .ok (.iload_n 2, 1) := by decide +kernel
theorem d_M_rate_42 : decode b_M_rate 42 = .ok (.iastore, 1) := by decide +kernel
theorem d_M_rate_43 : decode b_M_rate 43 = .ok (.return_, 1) := by decide +kernel

theorem d_M_ready_0 : decode b_M_ready 0 = .ok (.aload_n 0, 1) := by decide +kernel
theorem d_M_ready_1 : decode b_M_ready 1 = .ok (.iload_n 1, 1) := by decide +kernel
theorem d_M_ready_2 : decode b_M_ready 2 = .ok (.iconst 4, 1) := by decide +kernel
theorem d_M_ready_3 : decode b_M_ready 3 = .ok (.invokestatic 123, 3) := by decide +kernel
theorem d_M_ready_6 : decode b_M_ready 6 = .ok (.ifCond .eq 7, 3) := by decide +kernel
theorem d_M_ready_9 : decode b_M_ready 9 = .ok (.iconst 1, 1) := by decide +kernel
theorem d_M_ready_10 : decode b_M_ready 10 = .ok (.goto 17, 3) := by decide +kernel
theorem d_M_ready_13 : decode b_M_ready 13 = .ok (.aload_n 0, 1) := by decide +kernel
theorem d_M_ready_14 : decode b_M_ready 14 = .ok (.getfield 32, 3) := by decide +kernel
theorem d_M_ready_17 : decode b_M_ready 17 = .ok (.iload_n 1, 1) := by decide +kernel
theorem d_M_ready_18 : decode b_M_ready 18 = .ok (.iaload, 1) := by decide +kernel
theorem d_M_ready_19 : decode b_M_ready 19 = .ok (.ifCond .ne 7, 3) := by decide +kernel
theorem d_M_ready_22 : decode b_M_ready 22 = .ok (.iconst 2, 1) := by decide +kernel
theorem d_M_ready_23 : decode b_M_ready 23 = .ok (.goto 4, 3) := by decide +kernel
theorem d_M_ready_26 : decode b_M_ready 26 = .ok (.iconst 0, 1) := by decide +kernel
theorem d_M_ready_27 : decode b_M_ready 27 = .ok (.putfield 7, 3) := by decide +kernel
theorem d_M_ready_30 : decode b_M_ready 30 = .ok (.aload_n 0, 1) := by decide +kernel
theorem d_M_ready_31 : decode b_M_ready 31 = .ok (.getfield 7, 3) := by decide +kernel
theorem d_M_ready_34 : decode b_M_ready 34 = .ok (.ifCond .eq 5, 3) := by decide +kernel
theorem d_M_ready_37 : decode b_M_ready 37 = .ok (.iconst 0, 1) := by decide +kernel
theorem d_M_ready_38 : decode b_M_ready 38 = .ok (.ireturn, 1) := by decide +kernel
theorem d_M_ready_39 : decode b_M_ready 39 = .ok (.aload_n 0, 1) := by decide +kernel
theorem d_M_ready_40 : decode b_M_ready 40 = .ok (.getfield 35, 3) := by decide +kernel
theorem d_M_ready_43 : decode b_M_ready 43 = .ok (.iload_n 1, 1) := by decide +kernel
theorem d_M_ready_44 : decode b_M_ready 44 = .ok (.aload_n 0, 1) := by decide +kernel
theorem d_M_ready_45 : decode b_M_ready 45 = .ok (.getfield 32, 3) := by decide +kernel
theorem d_M_ready_48 : decode b_M_ready 48 = .ok (.iload_n 1, 1) := by decide +kernel
theorem d_M_ready_49 : decode b_M_ready 49 = .ok (.iaload, 1) := by decide +kernel
theorem d_M_ready_50 : decode b_M_ready 50 = .ok (.iastore, 1) := by decide +kernel
theorem d_M_ready_51 : decode b_M_ready 51 = .ok (.aload_n 0, 1) := by decide +kernel
theorem d_M_ready_52 : decode b_M_ready 52 = .ok (.iconst 3, 1) := by decide +kernel
theorem d_M_ready_53 : decode b_M_ready 53 = .ok (.iload_n 1, 1) := by decide +kernel
theorem d_M_ready_54 : decode b_M_ready 54 = .ok (.aload_n 0, 1) := by decide +kernel
theorem d_M_ready_55 : decode b_M_ready 55 = .ok (.getfield 32, 3) := by decide +kernel
theorem d_M_ready_58 : decode b_M_ready 58 = .ok (.iload_n 1, 1) := by decide +kernel
theorem d_M_ready_59 : decode b_M_ready 59 = .ok (.iaload, 1) := by decide +kernel
theorem d_M_ready_60 : decode b_M_ready 60 = .ok (.iconst 0, 1) := by decide +kernel
theorem d_M_ready_61 : decode b_M_ready 61 = .ok (.invokevirtual 112, 3) := by decide +kernel
theorem d_M_ready_64 : decode b_M_ready 64 = .ok (.aload_n 0, 1) := by decide +kernel
theorem d_M_ready_65 : decode b_M_ready 65 = .ok (.getfield 32, 3) := by decide +kernel
theorem d_M_ready_68 : decode b_M_ready 68 = .ok (.iload_n 1, 1) := by decide +kernel
theorem d_M_ready_69 : decode b_M_ready 69 = .ok (.iaload, 1) := by decide +kernel
theorem d_M_ready_70 : decode b_M_ready 70 = .ok (.ireturn, 1) := by decide +kernel

theorem d_M_ask_0 : decode b_M_ask 0 = .ok (.aload_n 0, 1) := by decide +kernel
theorem d_M_ask_1 : decode b_M_ask 1 = .ok (.iload_n 1, 1) := by decide +kernel
theorem d_M_ask_2 : decode b_M_ask 2 = .ok (.iconst 4, 1) := by decide +kernel
theorem d_M_ask_3 : decode b_M_ask 3 = .ok (.invokestatic 123, 3) := by decide +kernel
theorem d_M_ask_6 : decode b_M_ask 6 = .ok (.ifCond .eq 7, 3) := by decide +kernel
theorem d_M_ask_9 : decode b_M_ask 9 = .ok (.iconst 1, 1) := by decide +kernel
theorem d_M_ask_10 : decode b_M_ask 10 = .ok (.goto 4, 3) := by decide +kernel
theorem d_M_ask_13 : decode b_M_ask 13 = .ok (.iconst 0, 1) := by decide +kernel
theorem d_M_ask_14 : decode b_M_ask 14 = .ok (.putfield 7, 3) := by decide +kernel
theorem d_M_ask_17 : decode b_M_ask 17 = .ok (.aload_n 0, 1) := by decide +kernel
theorem d_M_ask_18 : decode b_M_ask 18 = .ok (.getfield 7, 3) := by decide +kernel
theorem d_M_ask_21 : decode b_M_ask 21 = .ok (.ifCond .eq 5, 3) := by decide +kernel
theorem d_M_ask_24 : decode b_M_ask 24 = .ok (.iconst 0, 1) := by decide +kernel
theorem d_M_ask_25 : decode b_M_ask 25 = .ok (.ireturn, 1) := by decide +kernel
theorem d_M_ask_26 : decode b_M_ask 26 = .ok (.aload_n 0, 1) := by decide +kernel
theorem d_M_ask_27 : decode b_M_ask 27 = .ok (.getfield 38, 3) := by decide +kernel
theorem d_M_ask_30 : decode b_M_ask 30 = .ok (.iload_n 1, 1) := by decide +kernel
theorem d_M_ask_31 : decode b_M_ask 31 = .ok (.aload_n 0, 1) := by decide +kernel
theorem d_M_ask_32 : decode b_M_ask 32 = .ok (.getfield 38, 3) := by decide +kernel
theorem d_M_ask_35 : decode b_M_ask 35 = .ok (.iload_n 1, 1) := by decide +kernel
theorem d_M_ask_36 : decode b_M_ask 36 = .ok (.iaload, 1) := by decide +kernel
theorem d_M_ask_37 : decode b_M_ask 37 = .ok (.iconst 1, 1) := by decide +kernel
theorem d_M_ask_38 : decode b_M_ask 38 = .ok (.iadd, 1) := by decide +kernel
theorem d_M_ask_39 : decode b_M_ask 39 = .ok (.iastore, 1) := by decide +kernel
theorem d_M_ask_40 : decode b_M_ask 40 = .ok (.aload_n 0, 1) := by decide +kernel
theorem d_M_ask_41 : decode b_M_ask 41 = .ok (.getfield 41, 3) := by decide +kernel
theorem d_M_ask_44 : decode b_M_ask 44 = .ok (.iload_n 1, 1) := by decide +kernel
theorem d_M_ask_45 : decode b_M_ask 45 = .ok (.iconst 0, 1) := by decide +kernel
theorem d_M_ask_46 : decode b_M_ask 46 = .ok (.bastore, 1) := by decide +kernel
theorem d_M_ask_47 : decode b_M_ask 47 = .ok (.aload_n 0, 1) := by decide +kernel
theorem d_M_ask_48 : decode b_M_ask 48 = .ok (.getfield 48, 3) := by decide +kernel
theorem d_M_ask_51 : decode b_M_ask 51 = .ok (.iload_n 1, 1) := by decide +kernel
theorem d_M_ask_52 : decode b_M_ask 52 = .ok (.iconst 0, 1) := by decide +kernel
theorem d_M_ask_53 : decode b_M_ask 53 = .ok (.iastore, 1) := by decide +kernel
theorem d_M_ask_54 : decode b_M_ask 54 = .ok (.aload_n 0, 1) := by decide +kernel
theorem d_M_ask_55 : decode b_M_ask 55 = .ok (.getfield 45, 3) := by decide +kernel
theorem d_M_ask_58 : decode b_M_ask 58 = .ok (.iload_n 1, 1) := by decide +kernel
theorem d_M_ask_59 : decode b_M_ask 59 = .ok (.aload_n 0, 1) := by decide +kernel
theorem d_M_ask_60 : decode b_M_ask 60 = .ok (.iload_n 1, 1) := by decide +kernel
theorem d_M_ask_61 : decode b_M_ask 61 = .ok (.invokevirtual 104, 3) := by decide +kernel
theorem d_M_ask_64 : decode b_M_ask 64 = .ok (.iastore, 1) := by decide +kernel
theorem d_M_ask_65 : decode b_M_ask 65 = .ok (.aload_n 0, 1) := by decide +kernel
theorem d_M_ask_66 : decode b_M_ask 66 = .ok (.iconst 1, 1) := by decide +kernel
theorem d_M_ask_67 : decode b_M_ask 67 = .ok (.iload_n 1, 1) := by decide +kernel
theorem d_M_ask_68 : decode b_M_ask 68 = .ok (.iconst 0, 1) := by decide +kernel
theorem d_M_ask_69 : decode b_M_ask 69 = .ok (.aload_n 0, 1) := by decide +kernel
theorem d_M_ask_70 : decode b_M_ask 70 = .ok (.getfield 38, 3) := by decide +kernel
theorem d_M_ask_73 : decode b_M_ask 73 = .ok (.iload_n 1, 1) := by decide +kernel
theorem d_M_ask_74 : decode b_M_ask 74 = .ok (.iaload, 1) := by decide +kernel
theorem d_M_ask_75 : decode b_M_ask 75 = .ok (.invokevirtual 112, 3) := by decide +kernel
theorem d_M_ask_78 : decode b_M_ask 78 = .ok (.aload_n 0, 1) := by decide +kernel
theorem d_M_ask_79 : decode b_M_ask 79 = .ok (.getfield 38, 3) := by decide +kernel
theorem d_M_ask_82 : decode b_M_ask 82 = .ok (.iload_n 1, 1) := by decide +kernel
theorem d_M_ask_83 : decode b_M_ask 83 = .ok (.iaload, 1) := by decide +kernel
theorem d_M_ask_84 : decode b_M_ask 84 = .ok (.ireturn, 1) := by decide +kernel

theorem d_M_giveUp_0 : decode b_M_giveUp 0 = .ok (.aload_n 0, 1) := by decide +kernel
theorem d_M_giveUp_1 : decode b_M_giveUp 1 = .ok (.iload_n 1, 1) := by decide +kernel
theorem d_M_giveUp_2 : decode b_M_giveUp 2 = .ok (.iconst 4, 1) := by decide +kernel
theorem d_M_giveUp_3 : decode b_M_giveUp 3 = .ok (.invokestatic 123, 3) := by decide +kernel
theorem d_M_giveUp_6 : decode b_M_giveUp 6 = .ok (.ifCond .eq 7, 3) := by decide +kernel
theorem d_M_giveUp_9 : decode b_M_giveUp 9 = .ok (.iconst 1, 1) := by decide +kernel
theorem d_M_giveUp_10 : decode b_M_giveUp 10 = .ok (.goto 17, 3) := by decide +kernel
theorem d_M_giveUp_13 : decode b_M_giveUp 13 = .ok (.aload_n 0, 1) := by decide +kernel
theorem d_M_giveUp_14 : decode b_M_giveUp 14 = .ok (.getfield 41, 3) := by decide +kernel
theorem d_M_giveUp_17 : decode b_M_giveUp 17 = .ok (.iload_n 1, 1) := by decide +kernel
theorem d_M_giveUp_18 : decode b_M_giveUp 18 = .ok (.baload, 1) := by decide +kernel
theorem d_M_giveUp_19 : decode b_M_giveUp 19 = .ok (.ifCond .eq 7, 3) := by decide +kernel
theorem d_M_giveUp_22 : decode b_M_giveUp 22 = .ok (.iconst 2, 1) := by decide +kernel
theorem d_M_giveUp_23 : decode b_M_giveUp 23 = .ok (.goto 4, 3) := by decide +kernel
theorem d_M_giveUp_26 : decode b_M_giveUp 26 = .ok (.iconst 0, 1) := by decide +kernel
theorem d_M_giveUp_27 : decode b_M_giveUp 27 = .ok (.putfield 7, 3) := by decide +kernel
theorem d_M_giveUp_30 : decode b_M_giveUp 30 = .ok (.aload_n 0, 1) := by decide +kernel
theorem d_M_giveUp_31 : decode b_M_giveUp 31 = .ok (.getfield 7, 3) := by decide +kernel
theorem d_M_giveUp_34 : decode b_M_giveUp 34 = .ok (.ifCond .eq 4, 3) := by decide +kernel
theorem d_M_giveUp_37 : decode b_M_giveUp 37 = .ok (.return_, 1) := by decide +kernel
theorem d_M_giveUp_38 : decode b_M_giveUp 38 = .ok (.aload_n 0, 1) := by decide +kernel
theorem d_M_giveUp_39 : decode b_M_giveUp 39 = .ok (.getfield 41, 3) := by decide +kernel
theorem d_M_giveUp_42 : decode b_M_giveUp 42 = .ok (.iload_n 1, 1) := by decide +kernel
theorem d_M_giveUp_43 : decode b_M_giveUp 43 = .ok (.iconst 1, 1) := by decide +kernel
theorem d_M_giveUp_44 : decode b_M_giveUp 44 = .ok (.bastore, 1) := by decide +kernel
theorem d_M_giveUp_45 : decode b_M_giveUp 45 = .ok (.aload_n 0, 1) := by decide +kernel
theorem d_M_giveUp_46 : decode b_M_giveUp 46 = .ok (.getfield 48, 3) := by decide +kernel
theorem d_M_giveUp_49 : decode b_M_giveUp 49 = .ok (.iload_n 1, 1) := by decide +kernel
theorem d_M_giveUp_50 : decode b_M_giveUp 50 = .ok (.iconst 0, 1) := by decide +kernel
theorem d_M_giveUp_51 : decode b_M_giveUp 51 = .ok (.iastore, 1) := by decide +kernel
theorem d_M_giveUp_52 : decode b_M_giveUp 52 = .ok (.aload_n 0, 1) := by decide +kernel
theorem d_M_giveUp_53 : decode b_M_giveUp 53 = .ok (.iconst 4, 1) := by decide +kernel
theorem d_M_giveUp_54 : decode b_M_giveUp 54 = .ok (.iload_n 1, 1) := by decide +kernel
theorem d_M_giveUp_55 : decode b_M_giveUp 55 = .ok (.iconst 0, 1) := by decide +kernel
theorem d_M_giveUp_56 : decode b_M_giveUp 56 = .ok (.aload_n 0, 1) := by decide +kernel
theorem d_M_giveUp_57 : decode b_M_giveUp 57 = .ok (.getfield 38, 3) := by decide +kernel
theorem d_M_giveUp_60 : decode b_M_giveUp 60 = .ok (.iload_n 1, 1) := by decide +kernel
theorem d_M_giveUp_61 : decode b_M_giveUp 61 = .ok (.iaload, 1) := by decide +kernel
theorem d_M_giveUp_62 : decode b_M_giveUp 62 = .ok (.invokevirtual 112, 3) := by decide +kernel
theorem d_M_giveUp_65 : decode b_M_giveUp 65 = .ok (.return_, 1) := by decide +kernel

theorem d_M_lease_0 : decode b_M_lease 0 = .ok (.aload_n 0, 1) := by decide +kernel
theorem d_M_lease_1 : decode b_M_lease 1 = .ok (.iload_n 1, 1) := by decide +kernel
theorem d_M_lease_2 : decode b_M_lease 2 = .ok (.iconst 4, 1) := by decide +kernel
theorem d_M_lease_3 : decode b_M_lease 3 = .ok (.invokestatic 123, 3) := by decide +kernel
theorem d_M_lease_6 : decode b_M_lease 6 = .ok (.ifCond .eq 7, 3) := by decide +kernel
theorem d_M_lease_9 : decode b_M_lease 9 = .ok (.iconst 1, 1) := by decide +kernel
theorem d_M_lease_10 : decode b_M_lease 10 = .ok (.goto 4, 3) := by decide +kernel
theorem d_M_lease_13 : decode b_M_lease 13 = .ok (.iconst 0, 1) := by decide +kernel
theorem d_M_lease_14 : decode b_M_lease 14 = .ok (.putfield 7, 3) := by decide +kernel
theorem d_M_lease_17 : decode b_M_lease 17 = .ok (.aload_n 0, 1) := by decide +kernel
theorem d_M_lease_18 : decode b_M_lease 18 = .ok (.getfield 7, 3) := by decide +kernel
theorem d_M_lease_21 : decode b_M_lease 21 = .ok (.ifCond .eq 7, 3) := by decide +kernel
theorem d_M_lease_24 : decode b_M_lease 24 = .ok (.iconst 0, 1) := by decide +kernel
theorem d_M_lease_25 : decode b_M_lease 25 = .ok (.goto 8, 3) := by decide +kernel
theorem d_M_lease_28 : decode b_M_lease 28 = .ok (.aload_n 0, 1) := by decide +kernel
theorem d_M_lease_29 : decode b_M_lease 29 = .ok (.iload_n 1, 1) := by decide +kernel
theorem d_M_lease_30 : decode b_M_lease 30 = .ok (.invokevirtual 128, 3) := by decide +kernel
theorem d_M_lease_33 : decode b_M_lease 33 = .ok (.ireturn, 1) := by decide +kernel

theorem d_M_loaded_0 : decode b_M_loaded 0 = .ok (.aload_n 0, 1) := by decide +kernel
theorem d_M_loaded_1 : decode b_M_loaded 1 = .ok (.iload_n 1, 1) := by decide +kernel
theorem d_M_loaded_2 : decode b_M_loaded 2 = .ok (.iconst 4, 1) := by decide +kernel
theorem d_M_loaded_3 : decode b_M_loaded 3 = .ok (.invokestatic 123, 3) := by decide +kernel
theorem d_M_loaded_6 : decode b_M_loaded 6 = .ok (.ifCond .eq 7, 3) := by decide +kernel
theorem d_M_loaded_9 : decode b_M_loaded 9 = .ok (.iconst 1, 1) := by decide +kernel
theorem d_M_loaded_10 : decode b_M_loaded 10 = .ok (.goto 4, 3) := by decide +kernel
theorem d_M_loaded_13 : decode b_M_loaded 13 = .ok (.iconst 0, 1) := by decide +kernel
theorem d_M_loaded_14 : decode b_M_loaded 14 = .ok (.putfield 7, 3) := by decide +kernel
theorem d_M_loaded_17 : decode b_M_loaded 17 = .ok (.aload_n 0, 1) := by decide +kernel
theorem d_M_loaded_18 : decode b_M_loaded 18 = .ok (.getfield 7, 3) := by decide +kernel
theorem d_M_loaded_21 : decode b_M_loaded 21 = .ok (.ifCond .eq 7, 3) := by decide +kernel
theorem d_M_loaded_24 : decode b_M_loaded 24 = .ok (.iconst 0, 1) := by decide +kernel
theorem d_M_loaded_25 : decode b_M_loaded 25 = .ok (.goto 9, 3) := by decide +kernel
theorem d_M_loaded_28 : decode b_M_loaded 28 = .ok (.aload_n 0, 1) := by decide +kernel
theorem d_M_loaded_29 : decode b_M_loaded 29 = .ok (.getfield 32, 3) := by decide +kernel
theorem d_M_loaded_32 : decode b_M_loaded 32 = .ok (.iload_n 1, 1) := by decide +kernel
theorem d_M_loaded_33 : decode b_M_loaded 33 = .ok (.iaload, 1) := by decide +kernel
theorem d_M_loaded_34 : decode b_M_loaded 34 = .ok (.ireturn, 1) := by decide +kernel

theorem d_M_letters_0 : decode b_M_letters 0 = .ok (.aload_n 0, 1) := by decide +kernel
theorem d_M_letters_1 : decode b_M_letters 1 = .ok (.iconst 0, 1) := by decide +kernel
theorem d_M_letters_2 : decode b_M_letters 2 = .ok (.putfield 7, 3) := by decide +kernel
theorem d_M_letters_5 : decode b_M_letters 5 = .ok (.aload_n 0, 1) := by decide +kernel
theorem d_M_letters_6 : decode b_M_letters 6 = .ok (.getfield 79, 3) := by decide +kernel
theorem d_M_letters_9 : decode b_M_letters 9 = .ok (.ireturn, 1) := by decide +kernel

theorem d_M_lose_0 : decode b_M_lose 0 = .ok (.aload_n 0, 1) := by decide +kernel
theorem d_M_lose_1 : decode b_M_lose 1 = .ok (.iload_n 1, 1) := by decide +kernel
theorem d_M_lose_2 : decode b_M_lose 2 = .ok (.aload_n 0, 1) := by decide +kernel
theorem d_M_lose_3 : decode b_M_lose 3 = .ok (.getfield 79, 3) := by decide +kernel
theorem d_M_lose_6 : decode b_M_lose 6 = .ok (.invokestatic 123, 3) := by decide +kernel
theorem d_M_lose_9 : decode b_M_lose 9 = .ok (.ifCond .eq 7, 3) := by decide +kernel
theorem d_M_lose_12 : decode b_M_lose 12 = .ok (.iconst 1, 1) := by decide +kernel
theorem d_M_lose_13 : decode b_M_lose 13 = .ok (.goto 4, 3) := by decide +kernel
theorem d_M_lose_16 : decode b_M_lose 16 = .ok (.iconst 0, 1) := by decide +kernel
theorem d_M_lose_17 : decode b_M_lose 17 = .ok (.putfield 7, 3) := by decide +kernel
theorem d_M_lose_20 : decode b_M_lose 20 = .ok (.aload_n 0, 1) := by decide +kernel
theorem d_M_lose_21 : decode b_M_lose 21 = .ok (.getfield 7, 3) := by decide +kernel
theorem d_M_lose_24 : decode b_M_lose 24 = .ok (.ifCond .ne 8, 3) := by decide +kernel
theorem d_M_lose_27 : decode b_M_lose 27 = .ok (.aload_n 0, 1) := by decide +kernel
theorem d_M_lose_28 : decode b_M_lose 28 = .ok (.iload_n 1, 1) := by decide +kernel
theorem d_M_lose_29 : decode b_M_lose 29 = .ok (.invokevirtual 131, 3) := by decide +kernel
theorem d_M_lose_32 : decode b_M_lose 32 = .ok (.return_, 1) := by decide +kernel

theorem d_M_twin_0 : decode b_M_twin 0 = .ok (.aload_n 0, 1) := by decide +kernel
theorem d_M_twin_1 : decode b_M_twin 1 = .ok (.iload_n 1, 1) := by decide +kernel
theorem d_M_twin_2 : decode b_M_twin 2 = .ok (.aload_n 0, 1) := by decide +kernel
theorem d_M_twin_3 : decode b_M_twin 3 = .ok (.getfield 79, 3) := by decide +kernel
theorem d_M_twin_6 : decode b_M_twin 6 = .ok (.invokestatic 123, 3) := by decide +kernel
theorem d_M_twin_9 : decode b_M_twin 9 = .ok (.ifCond .eq 7, 3) := by decide +kernel
theorem d_M_twin_12 : decode b_M_twin 12 = .ok (.iconst 1, 1) := by decide +kernel
theorem d_M_twin_13 : decode b_M_twin 13 = .ok (.goto 17, 3) := by decide +kernel
theorem d_M_twin_16 : decode b_M_twin 16 = .ok (.aload_n 0, 1) := by decide +kernel
theorem d_M_twin_17 : decode b_M_twin 17 = .ok (.getfield 79, 3) := by decide +kernel
theorem d_M_twin_20 : decode b_M_twin 20 = .ok (.bipush 40, 2) := by decide +kernel
theorem d_M_twin_22 : decode b_M_twin 22 = .ok (.if_icmp .ne 7, 3) := by decide +kernel
theorem d_M_twin_25 : decode b_M_twin 25 = .ok (.iconst 2, 1) := by decide +kernel
theorem d_M_twin_26 : decode b_M_twin 26 = .ok (.goto 4, 3) := by decide +kernel
theorem d_M_twin_29 : decode b_M_twin 29 = .ok (.iconst 0, 1) := by decide +kernel
theorem d_M_twin_30 : decode b_M_twin 30 = .ok (.putfield 7, 3) := by decide +kernel
theorem d_M_twin_33 : decode b_M_twin 33 = .ok (.aload_n 0, 1) := by decide +kernel
theorem d_M_twin_34 : decode b_M_twin 34 = .ok (.getfield 7, 3) := by decide +kernel
theorem d_M_twin_37 : decode b_M_twin 37 = .ok (.ifCond .ne 45, 3) := by decide +kernel
theorem d_M_twin_40 : decode b_M_twin 40 = .ok (.aload_n 0, 1) := by decide +kernel
theorem d_M_twin_41 : decode b_M_twin 41 = .ok (.aload_n 0, 1) := by decide +kernel
theorem d_M_twin_42 : decode b_M_twin 42 = .ok (.getfield 82, 3) := by decide +kernel
theorem d_M_twin_45 : decode b_M_twin 45 = .ok (.iconst 4, 1) := by decide +kernel
theorem d_M_twin_46 : decode b_M_twin 46 = .ok (.iload_n 1, 1) := by decide +kernel
theorem d_M_twin_47 : decode b_M_twin 47 = .ok (.imul, 1) := by decide +kernel
theorem d_M_twin_48 : decode b_M_twin 48 = .ok (.iaload, 1) := by decide +kernel
theorem d_M_twin_49 : decode b_M_twin 49 = .ok (.aload_n 0, 1) := by decide +kernel
theorem d_M_twin_50 : decode b_M_twin 50 = .ok (.getfield 82, 3) := by decide +kernel
theorem d_M_twin_53 : decode b_M_twin 53 = .ok (.iconst 4, 1) := by decide +kernel
theorem d_M_twin_54 : decode b_M_twin 54 = .ok (.iload_n 1, 1) := by decide +kernel
theorem d_M_twin_55 : decode b_M_twin 55 = .ok (.imul, 1) := by decide +kernel
theorem d_M_twin_56 : decode b_M_twin 56 = .ok (.iconst 1, 1) := by decide +kernel
theorem d_M_twin_57 : decode b_M_twin 57 = .ok (.iadd, 1) := by decide +kernel
theorem d_M_twin_58 : decode b_M_twin 58 = .ok (.iaload, 1) := by decide +kernel
theorem d_M_twin_59 : decode b_M_twin 59 = .ok (.aload_n 0, 1) := by decide +kernel
theorem d_M_twin_60 : decode b_M_twin 60 = .ok (.getfield 82, 3) := by decide +kernel
theorem d_M_twin_63 : decode b_M_twin 63 = .ok (.iconst 4, 1) := by decide +kernel
theorem d_M_twin_64 : decode b_M_twin 64 = .ok (.iload_n 1, 1) := by decide +kernel
theorem d_M_twin_65 : decode b_M_twin 65 = .ok (.imul, 1) := by decide +kernel
theorem d_M_twin_66 : decode b_M_twin 66 = .ok (.iconst 2, 1) := by decide +kernel
theorem d_M_twin_67 : decode b_M_twin 67 = .ok (.iadd, 1) := by decide +kernel
theorem d_M_twin_68 : decode b_M_twin 68 = .ok (.iaload, 1) := by decide +kernel
theorem d_M_twin_69 : decode b_M_twin 69 = .ok (.aload_n 0, 1) := by decide +kernel
theorem d_M_twin_70 : decode b_M_twin 70 = .ok (.getfield 82, 3) := by decide +kernel
theorem d_M_twin_73 : decode b_M_twin 73 = .ok (.iconst 4, 1) := by decide +kernel
theorem d_M_twin_74 : decode b_M_twin 74 = .ok (.iload_n 1, 1) := by decide +kernel
theorem d_M_twin_75 : decode b_M_twin 75 = .ok (.imul, 1) := by decide +kernel
theorem d_M_twin_76 : decode b_M_twin 76 = .ok (.iconst 3, 1) := by decide +kernel
theorem d_M_twin_77 : decode b_M_twin 77 = .ok (.iadd, 1) := by decide +kernel
theorem d_M_twin_78 : decode b_M_twin 78 = .ok (.iaload, 1) := by decide +kernel
theorem d_M_twin_79 : decode b_M_twin 79 = .ok (.invokevirtual 112, 3) := by decide +kernel
theorem d_M_twin_82 : decode b_M_twin 82 = .ok (.return_, 1) := by decide +kernel

theorem d_M_letter_0 : decode b_M_letter 0 = .ok (.aload_n 0, 1) := by decide +kernel
theorem d_M_letter_1 : decode b_M_letter 1 = .ok (.iload_n 1, 1) := by decide +kernel
theorem d_M_letter_2 : decode b_M_letter 2 = .ok (.aload_n 0, 1) := by decide +kernel
theorem d_M_letter_3 : decode b_M_letter 3 = .ok (.getfield 79, 3) := by decide +kernel
theorem d_M_letter_6 : decode b_M_letter 6 = .ok (.invokestatic 123, 3) := by decide +kernel
theorem d_M_letter_9 : decode b_M_letter 9 = .ok (.ifCond .eq 7, 3) := by decide +kernel
theorem d_M_letter_12 : decode b_M_letter 12 = .ok (.iconst 1, 1) := by decide +kernel
theorem d_M_letter_13 : decode b_M_letter 13 = .ok (.goto 16, 3) := by decide +kernel
theorem d_M_letter_16 : decode b_M_letter 16 = .ok (.iload_n 2, 1) := by decide +kernel
theorem d_M_letter_17 : decode b_M_letter 17 = .ok (.iconst 4, 1) := by decide +kernel
theorem d_M_letter_18 : decode b_M_letter 18 = .ok (.invokestatic 123, 3) := by decide +kernel
theorem d_M_letter_21 : decode b_M_letter 21 = .ok (.ifCond .eq 7, 3) := by decide +kernel
theorem d_M_letter_24 : decode b_M_letter 24 = .ok (.iconst 2, 1) := by decide +kernel
theorem d_M_letter_25 : decode b_M_letter 25 = .ok (.goto 4, 3) := by decide +kernel
theorem d_M_letter_28 : decode b_M_letter 28 = .ok (.iconst 0, 1) := by decide +kernel
theorem d_M_letter_29 : decode b_M_letter 29 = .ok (.putfield 7, 3) := by decide +kernel
theorem d_M_letter_32 : decode b_M_letter 32 = .ok (.aload_n 0, 1) := by decide +kernel
theorem d_M_letter_33 : decode b_M_letter 33 = .ok (.getfield 7, 3) := by decide +kernel
theorem d_M_letter_36 : decode b_M_letter 36 = .ok (.ifCond .eq 7, 3) := by decide +kernel
theorem d_M_letter_39 : decode b_M_letter 39 = .ok (.iconst 0, 1) := by decide +kernel
theorem d_M_letter_40 : decode b_M_letter 40 = .ok (.goto 13, 3) := by decide +kernel
theorem d_M_letter_43 : decode b_M_letter 43 = .ok (.aload_n 0, 1) := by decide +kernel
theorem d_M_letter_44 : decode b_M_letter 44 = .ok (.getfield 82, 3) := by decide +kernel
theorem d_M_letter_47 : decode b_M_letter 47 = .ok (.iconst 4, 1) := by decide +kernel
theorem d_M_letter_48 : decode b_M_letter 48 = .ok (.iload_n 1, 1) := by decide +kernel
theorem d_M_letter_49 : decode b_M_letter 49 = .ok (.imul, 1) := by decide +kernel
theorem d_M_letter_50 : decode b_M_letter 50 = .ok (.iload_n 2, 1) := by decide +kernel
theorem d_M_letter_51 : decode b_M_letter 51 = .ok (.iadd, 1) := by decide +kernel
theorem d_M_letter_52 : decode b_M_letter 52 = .ok (.iaload, 1) := by decide +kernel
theorem d_M_letter_53 : decode b_M_letter 53 = .ok (.ireturn, 1) := by decide +kernel

theorem d_M_deliver_0 : decode b_M_deliver 0 = .ok (.aload_n 0, 1) := by decide +kernel
theorem d_M_deliver_1 : decode b_M_deliver 1 = .ok (.iload_n 1, 1) := by decide +kernel
theorem d_M_deliver_2 : decode b_M_deliver 2 = .ok (.aload_n 0, 1) := by decide +kernel
theorem d_M_deliver_3 : decode b_M_deliver 3 = .ok (.getfield 79, 3) := by decide +kernel
theorem d_M_deliver_6 : decode b_M_deliver 6 = .ok (.invokestatic 123, 3) := by decide +kernel
theorem d_M_deliver_9 : decode b_M_deliver 9 = .ok (.ifCond .eq 7, 3) := by decide +kernel
theorem d_M_deliver_12 : decode b_M_deliver 12 = .ok (.iconst 1, 1) := by decide +kernel
theorem d_M_deliver_13 : decode b_M_deliver 13 = .ok (.goto 4, 3) := by decide +kernel
theorem d_M_deliver_16 : decode b_M_deliver 16 = .ok (.iconst 0, 1) := by decide +kernel
theorem d_M_deliver_17 : decode b_M_deliver 17 = .ok (.putfield 7, 3) := by decide +kernel
theorem d_M_deliver_20 : decode b_M_deliver 20 = .ok (.aload_n 0, 1) := by decide +kernel
theorem d_M_deliver_21 : decode b_M_deliver 21 = .ok (.getfield 7, 3) := by decide +kernel
theorem d_M_deliver_24 : decode b_M_deliver 24 = .ok (.ifCond .eq 4, 3) := by decide +kernel
theorem d_M_deliver_27 : decode b_M_deliver 27 = .ok (.return_, 1) := by decide +kernel
theorem d_M_deliver_28 : decode b_M_deliver 28 = .ok (.aload_n 0, 1) := by decide +kernel
theorem d_M_deliver_29 : decode b_M_deliver 29 = .ok (.getfield 82, 3) := by decide +kernel
theorem d_M_deliver_32 : decode b_M_deliver 32 = .ok (.iconst 4, 1) := by decide +kernel
theorem d_M_deliver_33 : decode b_M_deliver 33 = .ok (.iload_n 1, 1) := by decide +kernel
theorem d_M_deliver_34 : decode b_M_deliver 34 = .ok (.imul, 1) := by decide +kernel
theorem d_M_deliver_35 : decode b_M_deliver 35 = .ok (.iaload, 1) := by decide +kernel
theorem d_M_deliver_36 : decode b_M_deliver 36 = .ok (.istore_n 2, 1) := by decide +kernel
theorem d_M_deliver_37 : decode b_M_deliver 37 = .ok (.aload_n 0, 1) := by decide +kernel
theorem d_M_deliver_38 : decode b_M_deliver 38 = .ok (.getfield 82, 3) := by decide +kernel
theorem d_M_deliver_41 : decode b_M_deliver 41 = .ok (.iconst 4, 1) := by decide +kernel
theorem d_M_deliver_42 : decode b_M_deliver 42 = .ok (.iload_n 1, 1) := by decide +kernel
theorem d_M_deliver_43 : decode b_M_deliver 43 = .ok (.imul, 1) := by decide +kernel
theorem d_M_deliver_44 : decode b_M_deliver 44 = .ok (.iconst 1, 1) := by decide +kernel
theorem d_M_deliver_45 : decode b_M_deliver 45 = .ok (.iadd, 1) := by decide +kernel
theorem d_M_deliver_46 : decode b_M_deliver 46 = .ok (.iaload, 1) := by decide +kernel
theorem d_M_deliver_47 : decode b_M_deliver 47 = .ok (.istore_n 3, 1) := by decide +kernel
theorem d_M_deliver_48 : decode b_M_deliver 48 = .ok (.aload_n 0, 1) := by decide +kernel
theorem d_M_deliver_49 : decode b_M_deliver 49 = .ok (.getfield 82, 3) := by decide +kernel
theorem d_M_deliver_52 : decode b_M_deliver 52 = .ok (.iconst 4, 1) := by decide +kernel
theorem d_M_deliver_53 : decode b_M_deliver 53 = .ok (.iload_n 1, 1) := by decide +kernel
theorem d_M_deliver_54 : decode b_M_deliver 54 = .ok (.imul, 1) := by decide +kernel
theorem d_M_deliver_55 : decode b_M_deliver 55 = .ok (.iconst 2, 1) := by decide +kernel
theorem d_M_deliver_56 : decode b_M_deliver 56 = .ok (.iadd, 1) := by decide +kernel
theorem d_M_deliver_57 : decode b_M_deliver 57 = .ok (.iaload, 1) := by decide +kernel
theorem d_M_deliver_58 : decode b_M_deliver 58 = .ok (.istore 4, 2) := by decide +kernel
theorem d_M_deliver_60 : decode b_M_deliver 60 = .ok (.aload_n 0, 1) := by decide +kernel
theorem d_M_deliver_61 : decode b_M_deliver 61 = .ok (.getfield 82, 3) := by decide +kernel
theorem d_M_deliver_64 : decode b_M_deliver 64 = .ok (.iconst 4, 1) := by decide +kernel
theorem d_M_deliver_65 : decode b_M_deliver 65 = .ok (.iload_n 1, 1) := by decide +kernel
theorem d_M_deliver_66 : decode b_M_deliver 66 = .ok (.imul, 1) := by decide +kernel
theorem d_M_deliver_67 : decode b_M_deliver 67 = .ok (.iconst 3, 1) := by decide +kernel
theorem d_M_deliver_68 : decode b_M_deliver 68 = .ok (.iadd, 1) := by decide +kernel
theorem d_M_deliver_69 : decode b_M_deliver 69 = .ok (.iaload, 1) := by decide +kernel
theorem d_M_deliver_70 : decode b_M_deliver 70 = .ok (.istore 5, 2) := by decide +kernel
theorem d_M_deliver_72 : decode b_M_deliver 72 = .ok (.aload_n 0, 1) := by decide +kernel
theorem d_M_deliver_73 : decode b_M_deliver 73 = .ok (.iload_n 1, 1) := by decide +kernel
theorem d_M_deliver_74 : decode b_M_deliver 74 = .ok (.invokevirtual 131, 3) := by decide +kernel
theorem d_M_deliver_77 : decode b_M_deliver 77 = .ok (.aload_n 0, 1) := by decide +kernel
theorem d_M_deliver_78 : decode b_M_deliver 78 = .ok (.iload_n 2, 1) := by decide +kernel
theorem d_M_deliver_79 : decode b_M_deliver 79 = .ok (.iload_n 3, 1) := by decide +kernel
theorem d_M_deliver_80 : decode b_M_deliver 80 = .ok (.iload 4, 2) := by decide +kernel
theorem d_M_deliver_82 : decode b_M_deliver 82 = .ok (.iload 5, 2) := by decide +kernel
theorem d_M_deliver_84 : decode b_M_deliver 84 = .ok (.invokevirtual 135, 3) := by decide +kernel
theorem d_M_deliver_87 : decode b_M_deliver 87 = .ok (.return_, 1) := by decide +kernel

theorem d_M_book_0 : decode b_M_book 0 = .ok (.aload_n 0, 1) := by decide +kernel
theorem d_M_book_1 : decode b_M_book 1 = .ok (.iload_n 1, 1) := by decide +kernel
theorem d_M_book_2 : decode b_M_book 2 = .ok (.aload_n 0, 1) := by decide +kernel
theorem d_M_book_3 : decode b_M_book 3 = .ok (.getfield 85, 3) := by decide +kernel
theorem d_M_book_6 : decode b_M_book 6 = .ok (.invokestatic 123, 3) := by decide +kernel
theorem d_M_book_9 : decode b_M_book 9 = .ok (.ifCond .eq 7, 3) := by decide +kernel
theorem d_M_book_12 : decode b_M_book 12 = .ok (.iconst 1, 1) := by decide +kernel
theorem d_M_book_13 : decode b_M_book 13 = .ok (.goto 4, 3) := by decide +kernel
theorem d_M_book_16 : decode b_M_book 16 = .ok (.iconst 0, 1) := by decide +kernel
theorem d_M_book_17 : decode b_M_book 17 = .ok (.putfield 7, 3) := by decide +kernel
theorem d_M_book_20 : decode b_M_book 20 = .ok (.aload_n 0, 1) := by decide +kernel
theorem d_M_book_21 : decode b_M_book 21 = .ok (.getfield 7, 3) := by decide +kernel
theorem d_M_book_24 : decode b_M_book 24 = .ok (.ifCond .eq 7, 3) := by decide +kernel
theorem d_M_book_27 : decode b_M_book 27 = .ok (.iconst 0, 1) := by decide +kernel
theorem d_M_book_28 : decode b_M_book 28 = .ok (.goto 9, 3) := by decide +kernel
theorem d_M_book_31 : decode b_M_book 31 = .ok (.aload_n 0, 1) := by decide +kernel
theorem d_M_book_32 : decode b_M_book 32 = .ok (.getfield 91, 3) := by decide +kernel
theorem d_M_book_35 : decode b_M_book 35 = .ok (.iload_n 1, 1) := by decide +kernel
theorem d_M_book_36 : decode b_M_book 36 = .ok (.iaload, 1) := by decide +kernel
theorem d_M_book_37 : decode b_M_book 37 = .ok (.ireturn, 1) := by decide +kernel

theorem d_M_price_0 : decode b_M_price 0 = .ok (.aload_n 0, 1) := by decide +kernel
theorem d_M_price_1 : decode b_M_price 1 = .ok (.iload_n 1, 1) := by decide +kernel
theorem d_M_price_2 : decode b_M_price 2 = .ok (.iconst 1, 1) := by decide +kernel
theorem d_M_price_3 : decode b_M_price 3 = .ok (.if_icmp .lt 20, 3) := by decide +kernel
theorem d_M_price_6 : decode b_M_price 6 = .ok (.iload_n 1, 1) := by decide +kernel
theorem d_M_price_7 : decode b_M_price 7 = .ok (.aload_n 0, 1) := by decide +kernel
theorem d_M_price_8 : decode b_M_price 8 = .ok (.getfield 13, 3) := by decide +kernel
theorem d_M_price_11 : decode b_M_price 11 = .ok (.if_icmp .gt 12, 3) := by decide +kernel
theorem d_M_price_14 : decode b_M_price 14 = .ok (.iload_n 2, 1) := by decide +kernel
theorem d_M_price_15 : decode b_M_price 15 = .ok (.bipush 8, 2) := by decide +kernel
theorem d_M_price_17 : decode b_M_price 17 = .ok (.invokestatic 123, 3) := by decide +kernel
theorem d_M_price_20 : decode b_M_price 20 = .ok (.ifCond .eq 7, 3) := by decide +kernel
theorem d_M_price_23 : decode b_M_price 23 = .ok (.iconst 1, 1) := by decide +kernel
theorem d_M_price_24 : decode b_M_price 24 = .ok (.goto 4, 3) := by decide +kernel
theorem d_M_price_27 : decode b_M_price 27 = .ok (.iconst 0, 1) := by decide +kernel
theorem d_M_price_28 : decode b_M_price 28 = .ok (.putfield 7, 3) := by decide +kernel
theorem d_M_price_31 : decode b_M_price 31 = .ok (.aload_n 0, 1) := by decide +kernel
theorem d_M_price_32 : decode b_M_price 32 = .ok (.getfield 7, 3) := by decide +kernel
theorem d_M_price_35 : decode b_M_price 35 = .ok (.ifCond .eq 7, 3) := by decide +kernel
theorem d_M_price_38 : decode b_M_price 38 = .ok (.iconst 0, 1) := by decide +kernel
theorem d_M_price_39 : decode b_M_price 39 = .ok (.goto 14, 3) := by decide +kernel
theorem d_M_price_42 : decode b_M_price 42 = .ok (.aload_n 0, 1) := by decide +kernel
theorem d_M_price_43 : decode b_M_price 43 = .ok (.getfield 16, 3) := by decide +kernel
theorem d_M_price_46 : decode b_M_price 46 = .ok (.bipush 8, 2) := by decide +kernel
theorem d_M_price_48 : decode b_M_price 48 = .ok (.iload_n 1, 1) := by decide +kernel
theorem d_M_price_49 : decode b_M_price 49 = .ok (.imul, 1) := by decide +kernel
theorem d_M_price_50 : decode b_M_price 50 = .ok (.iload_n 2, 1) := by decide +kernel
theorem d_M_price_51 : decode b_M_price 51 = .ok (.iadd, 1) := by decide +kernel
theorem d_M_price_52 : decode b_M_price 52 = .ok (.iaload, 1) := by decide +kernel
theorem d_M_price_53 : decode b_M_price 53 = .ok (.ireturn, 1) := by decide +kernel

theorem d_M_restart_0 : decode b_M_restart 0 = .ok (.aload_n 0, 1) := by decide +kernel
theorem d_M_restart_1 : decode b_M_restart 1 = .ok (.iload_n 1, 1) := by decide +kernel
theorem d_M_restart_2 : decode b_M_restart 2 = .ok (.iconst 5, 1) := by decide +kernel
theorem d_M_restart_3 : decode b_M_restart 3 = .ok (.invokestatic 123, 3) := by decide +kernel
theorem d_M_restart_6 : decode b_M_restart 6 = .ok (.ifCond .eq 7, 3) := by decide +kernel
theorem d_M_restart_9 : decode b_M_restart 9 = .ok (.iconst 1, 1) := by decide +kernel
theorem d_M_restart_10 : decode b_M_restart 10 = .ok (.goto 4, 3) := by decide +kernel
theorem d_M_restart_13 : decode b_M_restart 13 = .ok (.iconst 0, 1) := by decide +kernel
theorem d_M_restart_14 : decode b_M_restart 14 = .ok (.putfield 7, 3) := by decide +kernel
theorem d_M_restart_17 : decode b_M_restart 17 = .ok (.aload_n 0, 1) := by decide +kernel
theorem d_M_restart_18 : decode b_M_restart 18 = .ok (.getfield 7, 3) := by decide +kernel
theorem d_M_restart_21 : decode b_M_restart 21 = .ok (.ifCond .eq 4, 3) := by decide +kernel
theorem d_M_restart_24 : decode b_M_restart 24 = .ok (.return_, 1) := by decide +kernel
theorem d_M_restart_25 : decode b_M_restart 25 = .ok (.iload_n 1, 1) := by decide +kernel
theorem d_M_restart_26 : decode b_M_restart 26 = .ok (.iconst 4, 1) := by decide +kernel
theorem d_M_restart_27 : decode b_M_restart 27 = .ok (.if_icmp .ge 18, 3) := by decide +kernel
theorem d_M_restart_30 : decode b_M_restart 30 = .ok (.aload_n 0, 1) := by decide +kernel
theorem d_M_restart_31 : decode b_M_restart 31 = .ok (.getfield 41, 3) := by decide +kernel
theorem d_M_restart_34 : decode b_M_restart 34 = .ok (.iload_n 1, 1) := by decide +kernel
theorem d_M_restart_35 : decode b_M_restart 35 = .ok (.iconst 1, 1) := by decide +kernel
theorem d_M_restart_36 : decode b_M_restart 36 = .ok (.bastore, 1) := by decide +kernel
theorem d_M_restart_37 : decode b_M_restart 37 = .ok (.aload_n 0, 1) := by decide +kernel
theorem d_M_restart_38 : decode b_M_restart 38 = .ok (.getfield 48, 3) := by decide +kernel
theorem d_M_restart_41 : decode b_M_restart 41 = .ok (.iload_n 1, 1) := by decide +kernel
theorem d_M_restart_42 : decode b_M_restart 42 = .ok (.iconst 0, 1) := by decide +kernel
theorem d_M_restart_43 : decode b_M_restart 43 = .ok (.iastore, 1) := by decide +kernel
theorem d_M_restart_44 : decode b_M_restart 44 = .ok (.return_, 1) := by decide +kernel
theorem d_M_restart_45 : decode b_M_restart 45 = .ok (.iconst 0, 1) := by decide +kernel
theorem d_M_restart_46 : decode b_M_restart 46 = .ok (.istore_n 2, 1) := by decide +kernel
theorem d_M_restart_47 : decode b_M_restart 47 = .ok (.iload_n 2, 1) := by decide +kernel
theorem d_M_restart_48 : decode b_M_restart 48 = .ok (.iconst 4, 1) := by decide +kernel
theorem d_M_restart_49 : decode b_M_restart 49 = .ok (.if_icmp .ge 44, 3) := by decide +kernel
theorem d_M_restart_52 : decode b_M_restart 52 = .ok (.aload_n 0, 1) := by decide +kernel
theorem d_M_restart_53 : decode b_M_restart 53 = .ok (.getfield 64, 3) := by decide +kernel
theorem d_M_restart_56 : decode b_M_restart 56 = .ok (.iload_n 2, 1) := by decide +kernel
theorem d_M_restart_57 : decode b_M_restart 57 = .ok (.iconst 0, 1) := by decide +kernel
theorem d_M_restart_58 : decode b_M_restart 58 = .ok (.iastore, 1) := by decide +kernel
theorem d_M_restart_59 : decode b_M_restart 59 = .ok (.aload_n 0, 1) := by decide +kernel
theorem d_M_restart_60 : decode b_M_restart 60 = .ok (.getfield 67, 3) := by decide +kernel
theorem d_M_restart_63 : decode b_M_restart 63 = .ok (.iload_n 2, 1) := by decide +kernel
theorem d_M_restart_64 : decode b_M_restart 64 = .ok (.iconst 0, 1) := by decide +kernel
theorem d_M_restart_65 : decode b_M_restart 65 = .ok (.bastore, 1) := by decide +kernel
theorem d_M_restart_66 : decode b_M_restart 66 = .ok (.aload_n 0, 1) := by decide +kernel
theorem d_M_restart_67 : decode b_M_restart 67 = .ok (.getfield 70, 3) := by decide +kernel
theorem d_M_restart_70 : decode b_M_restart 70 = .ok (.iload_n 2, 1) := by decide +kernel
theorem d_M_restart_71 : decode b_M_restart 71 = .ok (.iconst 0, 1) := by decide +kernel
theorem d_M_restart_72 : decode b_M_restart 72 = .ok (.iastore, 1) := by decide +kernel
theorem d_M_restart_73 : decode b_M_restart 73 = .ok (.aload_n 0, 1) := by decide +kernel
theorem d_M_restart_74 : decode b_M_restart 74 = .ok (.getfield 73, 3) := by decide +kernel
theorem d_M_restart_77 : decode b_M_restart 77 = .ok (.iload_n 2, 1) := by decide +kernel
theorem d_M_restart_78 : decode b_M_restart 78 = .ok (.iconst 0, 1) := by decide +kernel
theorem d_M_restart_79 : decode b_M_restart 79 = .ok (.iastore, 1) := by decide +kernel
theorem d_M_restart_80 : decode b_M_restart 80 = .ok (.aload_n 0, 1) := by decide +kernel
theorem d_M_restart_81 : decode b_M_restart 81 = .ok (.getfield 76, 3) := by decide +kernel
theorem d_M_restart_84 : decode b_M_restart 84 = .ok (.iload_n 2, 1) := by decide +kernel
theorem d_M_restart_85 : decode b_M_restart 85 = .ok (.iconst 0, 1) := by decide +kernel
theorem d_M_restart_86 : decode b_M_restart 86 = .ok (.iastore, 1) := by decide +kernel
theorem d_M_restart_87 : decode b_M_restart 87 = .ok (.iinc 2 1, 3) := by decide +kernel
theorem d_M_restart_90 : decode b_M_restart 90 = .ok (.goto (-43), 3) := by decide +kernel
theorem d_M_restart_93 : decode b_M_restart 93 = .ok (.aload_n 0, 1) := by decide +kernel
theorem d_M_restart_94 : decode b_M_restart 94 = .ok (.iconst 1, 1) := by decide +kernel
theorem d_M_restart_95 : decode b_M_restart 95 = .ok (.putfield 57, 3) := by decide +kernel
theorem d_M_restart_98 : decode b_M_restart 98 = .ok (.aload_n 0, 1) := by decide +kernel
theorem d_M_restart_99 : decode b_M_restart 99 = .ok (.aload_n 0, 1) := by decide +kernel
theorem d_M_restart_100 : decode b_M_restart 100 = .ok (.iconst 4, 1) := by decide +kernel
theorem d_M_restart_101 : decode b_M_restart 101 = .ok (.invokevirtual 104, 3) := by decide +kernel
theorem d_M_restart_104 : decode b_M_restart 104 = .ok (.bipush 63, 2) := by decide +kernel
theorem d_M_restart_106 : decode b_M_restart 106 = .ok (.iadd, 1) := by decide +kernel
theorem d_M_restart_107 : decode b_M_restart 107 = .ok (.putfield 61, 3) := by decide +kernel
theorem d_M_restart_110 : decode b_M_restart 110 = .ok (.return_, 1) := by decide +kernel

theorem d_M_noOpen_0 : decode b_M_noOpen 0 = .ok (.iload_n 1, 1) := by decide +kernel
theorem d_M_noOpen_1 : decode b_M_noOpen 1 = .ok (.aload_n 0, 1) := by decide +kernel
theorem d_M_noOpen_2 : decode b_M_noOpen 2 = .ok (.getfield 85, 3) := by decide +kernel
theorem d_M_noOpen_5 : decode b_M_noOpen 5 = .ok (.invokestatic 123, 3) := by decide +kernel
theorem d_M_noOpen_8 : decode b_M_noOpen 8 = .ok (.ifCond .ne 12, 3) := by decide +kernel
theorem d_M_noOpen_11 : decode b_M_noOpen 11 = .ok (.aload_n 0, 1) := by decide +kernel
theorem d_M_noOpen_12 : decode b_M_noOpen 12 = .ok (.getfield 94, 3) := by decide +kernel
theorem d_M_noOpen_15 : decode b_M_noOpen 15 = .ok (.iload_n 1, 1) := by decide +kernel
theorem d_M_noOpen_16 : decode b_M_noOpen 16 = .ok (.baload, 1) := by decide +kernel
theorem d_M_noOpen_17 : decode b_M_noOpen 17 = .ok (.ifCond .ne 7, 3) := by decide +kernel
theorem d_M_noOpen_20 : decode b_M_noOpen 20 = .ok (.iconst 1, 1) := by decide +kernel
theorem d_M_noOpen_21 : decode b_M_noOpen 21 = .ok (.goto 4, 3) := by decide +kernel
theorem d_M_noOpen_24 : decode b_M_noOpen 24 = .ok (.iconst 0, 1) := by decide +kernel
theorem d_M_noOpen_25 : decode b_M_noOpen 25 = .ok (.ireturn, 1) := by decide +kernel

theorem d_M_scan_0 : decode b_M_scan 0 = .ok (.aload_n 0, 1) := by decide +kernel
theorem d_M_scan_1 : decode b_M_scan 1 = .ok (.aload_n 0, 1) := by decide +kernel
theorem d_M_scan_2 : decode b_M_scan 2 = .ok (.iload_n 1, 1) := by decide +kernel
theorem d_M_scan_3 : decode b_M_scan 3 = .ok (.invokevirtual 138, 3) := by decide +kernel
theorem d_M_scan_6 : decode b_M_scan 6 = .ok (.ifCond .eq 7, 3) := by decide +kernel
theorem d_M_scan_9 : decode b_M_scan 9 = .ok (.iconst 1, 1) := by decide +kernel
theorem d_M_scan_10 : decode b_M_scan 10 = .ok (.goto 27, 3) := by decide +kernel
theorem d_M_scan_13 : decode b_M_scan 13 = .ok (.iload_n 2, 1) := by decide +kernel
theorem d_M_scan_14 : decode b_M_scan 14 = .ok (.bipush 8, 2) := by decide +kernel
theorem d_M_scan_16 : decode b_M_scan 16 = .ok (.invokestatic 123, 3) := by decide +kernel
theorem d_M_scan_19 : decode b_M_scan 19 = .ok (.ifCond .ne 13, 3) := by decide +kernel
theorem d_M_scan_22 : decode b_M_scan 22 = .ok (.iload_n 3, 1) := by decide +kernel
theorem d_M_scan_23 : decode b_M_scan 23 = .ok (.iconst 1, 1) := by decide +kernel
theorem d_M_scan_24 : decode b_M_scan 24 = .ok (.if_icmp .eq 12, 3) := by decide +kernel
theorem d_M_scan_27 : decode b_M_scan 27 = .ok (.iload_n 3, 1) := by decide +kernel
theorem d_M_scan_28 : decode b_M_scan 28 = .ok (.iconst (-1), 1) := by decide +kernel
theorem d_M_scan_29 : decode b_M_scan 29 = .ok (.if_icmp .eq 7, 3) := by decide +kernel
theorem d_M_scan_32 : decode b_M_scan 32 = .ok (.iconst 2, 1) := by decide +kernel
theorem d_M_scan_33 : decode b_M_scan 33 = .ok (.goto 4, 3) := by decide +kernel
theorem d_M_scan_36 : decode b_M_scan 36 = .ok (.iconst 0, 1) := by decide +kernel
theorem d_M_scan_37 : decode b_M_scan 37 = .ok (.putfield 7, 3) := by decide +kernel
theorem d_M_scan_40 : decode b_M_scan 40 = .ok (.aload_n 0, 1) := by decide +kernel
theorem d_M_scan_41 : decode b_M_scan 41 = .ok (.getfield 7, 3) := by decide +kernel
theorem d_M_scan_44 : decode b_M_scan 44 = .ok (.ifCond .eq 5, 3) := by decide +kernel
theorem d_M_scan_47 : decode b_M_scan 47 = .ok (.iconst 0, 1) := by decide +kernel
theorem d_M_scan_48 : decode b_M_scan 48 = .ok (.ireturn, 1) := by decide +kernel
theorem d_M_scan_49 : decode b_M_scan 49 = .ok (.aload_n 0, 1) := by decide +kernel
theorem d_M_scan_50 : decode b_M_scan 50 = .ok (.getfield 97, 3) := by decide +kernel
theorem d_M_scan_53 : decode b_M_scan 53 = .ok (.bipush 8, 2) := by decide +kernel
theorem d_M_scan_55 : decode b_M_scan 55 = .ok (.iload_n 1, 1) := by decide +kernel
theorem d_M_scan_56 : decode b_M_scan 56 = .ok (.imul, 1) := by decide +kernel
theorem d_M_scan_57 : decode b_M_scan 57 = .ok (.iload_n 2, 1) := by decide +kernel
theorem d_M_scan_58 : decode b_M_scan 58 = .ok (.iadd, 1) := by decide +kernel
theorem d_M_scan_59 : decode b_M_scan 59 = .ok (.iaload, 1) := by decide +kernel
theorem d_M_scan_60 : decode b_M_scan 60 = .ok (.iload_n 3, 1) := by decide +kernel
theorem d_M_scan_61 : decode b_M_scan 61 = .ok (.iadd, 1) := by decide +kernel
theorem d_M_scan_62 : decode b_M_scan 62 = .ok (.istore 4, 2) := by decide +kernel
theorem d_M_scan_64 : decode b_M_scan 64 = .ok (.aload_n 0, 1) := by decide +kernel
theorem d_M_scan_65 : decode b_M_scan 65 = .ok (.aload_n 0, 1) := by decide +kernel
theorem d_M_scan_66 : decode b_M_scan 66 = .ok (.getfield 16, 3) := by decide +kernel
theorem d_M_scan_69 : decode b_M_scan 69 = .ok (.bipush 8, 2) := by decide +kernel
theorem d_M_scan_71 : decode b_M_scan 71 = .ok (.aload_n 0, 1) := by decide +kernel
theorem d_M_scan_72 : decode b_M_scan 72 = .ok (.getfield 91, 3) := by decide +kernel
theorem d_M_scan_75 : decode b_M_scan 75 = .ok (.iload_n 1, 1) := by decide +kernel
theorem d_M_scan_76 : decode b_M_scan 76 = .ok (.iaload, 1) := by decide +kernel
theorem d_M_scan_77 : decode b_M_scan 77 = .ok (.imul, 1) := by decide +kernel
theorem d_M_scan_78 : decode b_M_scan 78 = .ok (.iload_n 2, 1) := by decide +kernel
theorem d_M_scan_79 : decode b_M_scan 79 = .ok (.iadd, 1) := by decide +kernel
theorem d_M_scan_80 : decode b_M_scan 80 = .ok (.iaload, 1) := by decide +kernel
theorem d_M_scan_81 : decode b_M_scan 81 = .ok (.ifCond .ne 7, 3) := by decide +kernel
theorem d_M_scan_84 : decode b_M_scan 84 = .ok (.iconst 2, 1) := by decide +kernel
theorem d_M_scan_85 : decode b_M_scan 85 = .ok (.goto 21, 3) := by decide +kernel
theorem d_M_scan_88 : decode b_M_scan 88 = .ok (.iload 4, 2) := by decide +kernel
theorem d_M_scan_90 : decode b_M_scan 90 = .ok (.bipush 31, 2) := by decide +kernel
theorem d_M_scan_92 : decode b_M_scan 92 = .ok (.if_icmp .eq 9, 3) := by decide +kernel
theorem d_M_scan_95 : decode b_M_scan 95 = .ok (.iload 4, 2) := by decide +kernel
theorem d_M_scan_97 : decode b_M_scan 97 = .ok (.iconst (-1), 1) := by decide +kernel
theorem d_M_scan_98 : decode b_M_scan 98 = .ok (.if_icmp .ne 7, 3) := by decide +kernel
theorem d_M_scan_101 : decode b_M_scan 101 = .ok (.iconst 3, 1) := by decide +kernel
theorem d_M_scan_102 : decode b_M_scan 102 = .ok (.goto 4, 3) := by decide +kernel
theorem d_M_scan_105 : decode b_M_scan 105 = .ok (.iconst 0, 1) := by decide +kernel
theorem d_M_scan_106 : decode b_M_scan 106 = .ok (.putfield 7, 3) := by decide +kernel
theorem d_M_scan_109 : decode b_M_scan 109 = .ok (.aload_n 0, 1) := by decide +kernel
theorem d_M_scan_110 : decode b_M_scan 110 = .ok (.getfield 7, 3) := by decide +kernel
theorem d_M_scan_113 : decode b_M_scan 113 = .ok (.ifCond .eq 5, 3) := by decide +kernel
theorem d_M_scan_116 : decode b_M_scan 116 = .ok (.iconst 0, 1) := by decide +kernel
theorem d_M_scan_117 : decode b_M_scan 117 = .ok (.ireturn, 1) := by decide +kernel
theorem d_M_scan_118 : decode b_M_scan 118 = .ok (.aload_n 0, 1) := by decide +kernel
theorem d_M_scan_119 : decode b_M_scan 119 = .ok (.getfield 97, 3) := by decide +kernel
theorem d_M_scan_122 : decode b_M_scan 122 = .ok (.bipush 8, 2) := by decide +kernel
theorem d_M_scan_124 : decode b_M_scan 124 = .ok (.iload_n 1, 1) := by decide +kernel
theorem d_M_scan_125 : decode b_M_scan 125 = .ok (.imul, 1) := by decide +kernel
theorem d_M_scan_126 : decode b_M_scan 126 = .ok (.iload_n 2, 1) := by decide +kernel
theorem d_M_scan_127 : decode b_M_scan 127 = .ok (.iadd, 1) := by decide +kernel
theorem d_M_scan_128 : decode b_M_scan 128 = .ok (.iload 4, 2) := by decide +kernel
theorem d_M_scan_130 : decode b_M_scan 130 = .ok (.iastore, 1) := by decide +kernel
theorem d_M_scan_131 : decode b_M_scan 131 = .ok (.iload 4, 2) := by decide +kernel
theorem d_M_scan_133 : decode b_M_scan 133 = .ok (.ireturn, 1) := by decide +kernel

set_option maxHeartbeats 4000000 in
set_option maxRecDepth 100000 in
theorem c_M_article (l : Launch) (Z : qZ) (hZ : qok (pX Z)) (V : qV) (Y : qY) (n : Nat) (hn : n < 8) (w : Int32) (h1 : g_not (nI n) 8 = 0) (h2 : ¬ w < 0) (h3 : w ≤ 10000000) : CT l y_M_article { frames := 2, cells := 0, slots := 0, locals := 61 } (pX Z) (qA (pX Z)) [.ref (al Z 20 0), .int (nI n), .int w] V Y (.inl none) (qv (qv V 20 0 0 0) 21 0 n w) Y := by
  refine CT.of (cc := b_M_article) (maxL := 3) (ret := none) hZ (by decide) w_760 (Nat.le_of_ble_eq_true rfl) ?_
  intro p e s m below meth c C hr hex hlt
  refine gq_aload_n C d_M_article_0 rfl ?_
  refine gq_iload_n C d_M_article_1 rfl ?_
  refine gq_bipush C (v := 8) d_M_article_2 (by decide) ?_
  refine gq_callS C (st := [.ref (al Z 20 0)]) (fun _ h => h.elim) (c_M_not l Z hZ _ _ (nI n) 8) w_761 w_762 w_763 w_9 ⟨by decide, by decide, (by decide +kernel : (parseMethodDescriptor y_M_not.desc).map (fun d => d.parameters.length) = some 2)⟩ ⟨by decide, by decide⟩ ⟨by decide, by decide⟩ rfl (Nat.le_of_ble_eq_true rfl) d_M_article_4 ?_
  refine gq_if_ne C (tgt := 20) d_M_article_7 rfl (fun hb => by exact absurd h1 hb) (fun hb7 => ?_)
  refine gq_iload_n C d_M_article_10 rfl ?_
  refine gq_if_lt C (tgt := 20) d_M_article_11 rfl (fun hb => by exact absurd hb h2) (fun hb11 => ?_)
  refine gq_iload_n C d_M_article_14 rfl ?_
  refine gq_ldc C w_764 d_M_article_15 ?_
  refine gq_icmp_le C (tgt := 24) d_M_article_17 rfl (fun hb17 => ?_) (fun hb => by exact absurd h3 hb)
  refine gq_iconst C (v := 0) d_M_article_24 (by decide) ?_
  refine gq_put C (fun _ h => h) (g := 20) (j := 0) (ci := 8) (k := 0) ft_M k_M n_M (qm (by decide) (by decide)) rfl rfl in_M (by decide) w_661 rfl (k_M 0 (by decide)) rfl rfl (Nat.le_of_ble_eq_true rfl) rfl d_M_article_25 ?_
  refine gq_aload_n C d_M_article_28 rfl ?_
  refine gq_get C (g := 20) (j := 0) (ci := 8) (k := 0) (v := .int 0) (qm (by decide) (by decide)) rfl rfl in_M (by decide) w_661 rfl d_M_article_29 ?_
  refine gq_if_ne C (tgt := 42) d_M_article_32 rfl (fun hb => by exact absurd hb (by decide)) (fun hb32 => ?_)
  refine gq_aload_n C d_M_article_35 rfl ?_
  refine gq_get C (g := 20) (j := 0) (ci := 8) (k := 2) (v := .ref (al Z 21 0)) (qm (by decide) (by decide)) rfl rfl in_M (by decide) w_663 rfl d_M_article_36 ?_
  refine gq_iload_n C d_M_article_39 rfl ?_
  refine gq_iload_n C d_M_article_40 rfl ?_
  refine gq_iast C (fun _ h => h) (g := 21) (j := 0) (a := n) (t0 := 0) (qm (by decide) (by decide)) (fun _ => rfl) rfl rfl (Nat.lt_trans hn (by decide)) (by decide) d_M_article_41 ?_
  exact gq_vret C hr (by decide) (by decide) d_M_article_42

set_option maxHeartbeats 4000000 in
set_option maxRecDepth 100000 in
theorem c_M_article_x (l : Launch) (Z : qZ) (hZ : qok (pX Z)) (V : qV) (Y : qY) (a w : Int32) (h : ¬ g_not a 8 = 0 ∨ w < 0 ∨ ¬ w ≤ 10000000) : CT l y_M_article { frames := 2, cells := 0, slots := 0, locals := 61 } (pX Z) (qA (pX Z)) [.ref (al Z 20 0), .int a, .int w] V Y (.inl none) (qv V 20 0 0 1) Y := by
  refine CT.of (cc := b_M_article) (maxL := 3) (ret := none) hZ (by decide) w_760 (Nat.le_of_ble_eq_true rfl) ?_
  intro p e s m below meth c C hr hex hlt
  refine gq_aload_n C d_M_article_0 rfl ?_
  refine gq_iload_n C d_M_article_1 rfl ?_
  refine gq_bipush C (v := 8) d_M_article_2 (by decide) ?_
  refine gq_callS C (st := [.ref (al Z 20 0)]) (fun _ h => h.elim) (c_M_not l Z hZ _ _ a 8) w_761 w_762 w_763 w_9 ⟨by decide, by decide, (by decide +kernel : (parseMethodDescriptor y_M_not.desc).map (fun d => d.parameters.length) = some 2)⟩ ⟨by decide, by decide⟩ ⟨by decide, by decide⟩ rfl (Nat.le_of_ble_eq_true rfl) d_M_article_4 ?_
  refine gq_if_ne C (tgt := 20) d_M_article_7 rfl (fun hb7 => ?_) (fun hb7 => ?_)
  · skip
    refine gq_iconst C (v := 1) d_M_article_20 (by decide) ?_
    refine gq_goto C (tgt := 25) d_M_article_21 rfl ?_
    refine gq_put C (fun _ h => h) (g := 20) (j := 0) (ci := 8) (k := 0) ft_M k_M n_M (qm (by decide) (by decide)) rfl rfl in_M (by decide) w_661 rfl (k_M 0 (by decide)) rfl rfl (Nat.le_of_ble_eq_true rfl) rfl d_M_article_25 ?_
    refine gq_aload_n C d_M_article_28 rfl ?_
    refine gq_get C (g := 20) (j := 0) (ci := 8) (k := 0) (v := .int 1) (qm (by decide) (by decide)) rfl rfl in_M (by decide) w_661 rfl d_M_article_29 ?_
    refine gq_if_ne C (tgt := 42) d_M_article_32 rfl (fun hb32 => ?_) (fun hb => by exact absurd hb (by decide))
    exact gq_vretE C hr rfl rfl (by decide) (by decide) d_M_article_42
  · skip
    refine gq_iload_n C d_M_article_10 rfl ?_
    refine gq_if_lt C (tgt := 20) d_M_article_11 rfl (fun hb11 => ?_) (fun hb11 => ?_)
    · skip
      refine gq_iconst C (v := 1) d_M_article_20 (by decide) ?_
      refine gq_goto C (tgt := 25) d_M_article_21 rfl ?_
      refine gq_put C (fun _ h => h) (g := 20) (j := 0) (ci := 8) (k := 0) ft_M k_M n_M (qm (by decide) (by decide)) rfl rfl in_M (by decide) w_661 rfl (k_M 0 (by decide)) rfl rfl (Nat.le_of_ble_eq_true rfl) rfl d_M_article_25 ?_
      refine gq_aload_n C d_M_article_28 rfl ?_
      refine gq_get C (g := 20) (j := 0) (ci := 8) (k := 0) (v := .int 1) (qm (by decide) (by decide)) rfl rfl in_M (by decide) w_661 rfl d_M_article_29 ?_
      refine gq_if_ne C (tgt := 42) d_M_article_32 rfl (fun hb32 => ?_) (fun hb => by exact absurd hb (by decide))
      exact gq_vretE C hr rfl rfl (by decide) (by decide) d_M_article_42
    · skip
      refine gq_iload_n C d_M_article_14 rfl ?_
      refine gq_ldc C w_764 d_M_article_15 ?_
      refine gq_icmp_le C (tgt := 24) d_M_article_17 rfl (fun hb => by first | contradiction | (rcases h with h | h | h <;> contradiction)) (fun hb17 => ?_)
      refine gq_iconst C (v := 1) d_M_article_20 (by decide) ?_
      refine gq_goto C (tgt := 25) d_M_article_21 rfl ?_
      refine gq_put C (fun _ h => h) (g := 20) (j := 0) (ci := 8) (k := 0) ft_M k_M n_M (qm (by decide) (by decide)) rfl rfl in_M (by decide) w_661 rfl (k_M 0 (by decide)) rfl rfl (Nat.le_of_ble_eq_true rfl) rfl d_M_article_25 ?_
      refine gq_aload_n C d_M_article_28 rfl ?_
      refine gq_get C (g := 20) (j := 0) (ci := 8) (k := 0) (v := .int 1) (qm (by decide) (by decide)) rfl rfl in_M (by decide) w_661 rfl d_M_article_29 ?_
      refine gq_if_ne C (tgt := 42) d_M_article_32 rfl (fun hb32 => ?_) (fun hb => by exact absurd hb (by decide))
      exact gq_vretE C hr rfl rfl (by decide) (by decide) d_M_article_42

set_option maxHeartbeats 4000000 in
set_option maxRecDepth 100000 in
theorem c_M_bundle (l : Launch) (Z : qZ) (hZ : qok (pX Z)) (V : qV) (Y : qY) (n u : Nat) (hn : n < 8) (hu : u < 2) (z w : Int32) (h1 : g_not (nI n) 8 = 0) (h2 : g_not (nI u) 2 = 0) (h3 : z = 0 ∨ (¬ z < 2 ∧ ¬ 12 < z)) (h4 : ¬ w < 0) (h5 : w ≤ 10000000) : CT l y_M_bundle { frames := 2, cells := 0, slots := 0, locals := 61 } (pX Z) (qA (pX Z)) [.ref (al Z 20 0), .int (nI n), .int (nI u), .int z, .int w] V Y (.inl none) (qv (qv (qv V 20 0 0 0) 22 0 (2 * n + u) z) 23 0 (2 * n + u) w) Y := by
  refine CT.of (cc := b_M_bundle) (maxL := 5) (ret := none) hZ (by decide) w_768 (Nat.le_of_ble_eq_true rfl) ?_
  intro p e s m below meth c C hr hex hlt
  refine gq_aload_n C d_M_bundle_0 rfl ?_
  refine gq_iload_n C d_M_bundle_1 rfl ?_
  refine gq_bipush C (v := 8) d_M_bundle_2 (by decide) ?_
  refine gq_callS C (st := [.ref (al Z 20 0)]) (fun _ h => h.elim) (c_M_not l Z hZ _ _ (nI n) 8) w_761 w_762 w_763 w_9 ⟨by decide, by decide, (by decide +kernel : (parseMethodDescriptor y_M_not.desc).map (fun d => d.parameters.length) = some 2)⟩ ⟨by decide, by decide⟩ ⟨by decide, by decide⟩ rfl (Nat.le_of_ble_eq_true rfl) d_M_bundle_4 ?_
  refine gq_if_ne C (tgt := 45) d_M_bundle_7 rfl (fun hb => by exact absurd h1 hb) (fun hb7 => ?_)
  refine gq_iload_n C d_M_bundle_10 rfl ?_
  refine gq_iconst C (v := 2) d_M_bundle_11 (by decide) ?_
  refine gq_callS C (st := [.ref (al Z 20 0)]) (fun _ h => h.elim) (c_M_not l Z hZ _ _ (nI u) 2) w_761 w_762 w_763 w_9 ⟨by decide, by decide, (by decide +kernel : (parseMethodDescriptor y_M_not.desc).map (fun d => d.parameters.length) = some 2)⟩ ⟨by decide, by decide⟩ ⟨by decide, by decide⟩ rfl (Nat.le_of_ble_eq_true rfl) d_M_bundle_12 ?_
  refine gq_if_ne C (tgt := 45) d_M_bundle_15 rfl (fun hb => by exact absurd h2 hb) (fun hb15 => ?_)
  refine gq_iload_n C d_M_bundle_18 rfl ?_
  refine gq_if_eq C (tgt := 33) d_M_bundle_19 rfl (fun hb19 => ?_) (fun hb19 => ?_)
  · skip
    refine gq_iload C d_M_bundle_33 rfl ?_
    refine gq_if_lt C (tgt := 45) d_M_bundle_35 rfl (fun hb => by exact absurd hb h4) (fun hb35 => ?_)
    refine gq_iload C d_M_bundle_38 rfl ?_
    refine gq_ldc C w_764 d_M_bundle_40 ?_
    refine gq_icmp_le C (tgt := 49) d_M_bundle_42 rfl (fun hb42 => ?_) (fun hb => by exact absurd h5 hb)
    refine gq_iconst C (v := 0) d_M_bundle_49 (by decide) ?_
    refine gq_put C (fun _ h => h) (g := 20) (j := 0) (ci := 8) (k := 0) ft_M k_M n_M (qm (by decide) (by decide)) rfl rfl in_M (by decide) w_661 rfl (k_M 0 (by decide)) rfl rfl (Nat.le_of_ble_eq_true rfl) rfl d_M_bundle_50 ?_
    refine gq_aload_n C d_M_bundle_53 rfl ?_
    refine gq_get C (g := 20) (j := 0) (ci := 8) (k := 0) (v := .int 0) (qm (by decide) (by decide)) rfl rfl in_M (by decide) w_661 rfl d_M_bundle_54 ?_
    refine gq_if_eq C (tgt := 61) d_M_bundle_57 rfl (fun hb57 => ?_) (fun hb => by exact absurd hb (by decide))
    refine gq_aload_n C d_M_bundle_61 rfl ?_
    refine gq_get C (g := 20) (j := 0) (ci := 8) (k := 3) (v := .ref (al Z 22 0)) (qm (by decide) (by decide)) rfl rfl in_M (by decide) w_664 rfl d_M_bundle_62 ?_
    refine gq_iconst C (v := 2) d_M_bundle_65 (by decide) ?_
    refine gq_iload_n C d_M_bundle_66 rfl ?_
    refine gq_imul C d_M_bundle_67 ?_
    refine gq_iload_n C d_M_bundle_68 rfl ?_
    refine gq_iadd C d_M_bundle_69 ?_
    refine gq_iload_n C d_M_bundle_70 rfl ?_
    refine gq_iast C (fun _ h => h) (g := 22) (j := 0) (a := (2 * n + u)) (t0 := 0) (qm (by decide) (by decide)) (fun _ => rfl) rfl (by rw [show (2 : Int32) = nI 2 from rfl, pk_mul, nI_add]) (by omega) (by decide) d_M_bundle_71 ?_
    refine gq_aload_n C d_M_bundle_72 rfl ?_
    refine gq_get C (g := 20) (j := 0) (ci := 8) (k := 4) (v := .ref (al Z 23 0)) (qm (by decide) (by decide)) rfl rfl in_M (by decide) w_665 rfl d_M_bundle_73 ?_
    refine gq_iconst C (v := 2) d_M_bundle_76 (by decide) ?_
    refine gq_iload_n C d_M_bundle_77 rfl ?_
    refine gq_imul C d_M_bundle_78 ?_
    refine gq_iload_n C d_M_bundle_79 rfl ?_
    refine gq_iadd C d_M_bundle_80 ?_
    refine gq_iload C d_M_bundle_81 rfl ?_
    refine gq_iast C (fun _ h => h) (g := 23) (j := 0) (a := (2 * n + u)) (t0 := 0) (qm (by decide) (by decide)) (fun _ => rfl) rfl (by rw [show (2 : Int32) = nI 2 from rfl, pk_mul, nI_add]) (by omega) (by decide) d_M_bundle_83 ?_
    exact gq_vretE C hr rfl rfl (by decide) (by decide) d_M_bundle_84
  · skip
    refine gq_iload_n C d_M_bundle_22 rfl ?_
    refine gq_iconst C (v := 2) d_M_bundle_23 (by decide) ?_
    refine gq_icmp_lt C (tgt := 45) d_M_bundle_24 rfl (fun hb => by exact h3.elim (fun q => absurd q hb19) (fun q => absurd hb q.1)) (fun hb24 => ?_)
    refine gq_iload_n C d_M_bundle_27 rfl ?_
    refine gq_bipush C (v := 12) d_M_bundle_28 (by decide) ?_
    refine gq_icmp_gt C (tgt := 45) d_M_bundle_30 rfl (fun hb => by exact h3.elim (fun q => absurd q hb19) (fun q => absurd hb q.2)) (fun hb30 => ?_)
    refine gq_iload C d_M_bundle_33 rfl ?_
    refine gq_if_lt C (tgt := 45) d_M_bundle_35 rfl (fun hb => by exact absurd hb h4) (fun hb35 => ?_)
    refine gq_iload C d_M_bundle_38 rfl ?_
    refine gq_ldc C w_764 d_M_bundle_40 ?_
    refine gq_icmp_le C (tgt := 49) d_M_bundle_42 rfl (fun hb42 => ?_) (fun hb => by exact absurd h5 hb)
    refine gq_iconst C (v := 0) d_M_bundle_49 (by decide) ?_
    refine gq_put C (fun _ h => h) (g := 20) (j := 0) (ci := 8) (k := 0) ft_M k_M n_M (qm (by decide) (by decide)) rfl rfl in_M (by decide) w_661 rfl (k_M 0 (by decide)) rfl rfl (Nat.le_of_ble_eq_true rfl) rfl d_M_bundle_50 ?_
    refine gq_aload_n C d_M_bundle_53 rfl ?_
    refine gq_get C (g := 20) (j := 0) (ci := 8) (k := 0) (v := .int 0) (qm (by decide) (by decide)) rfl rfl in_M (by decide) w_661 rfl d_M_bundle_54 ?_
    refine gq_if_eq C (tgt := 61) d_M_bundle_57 rfl (fun hb57 => ?_) (fun hb => by exact absurd hb (by decide))
    refine gq_aload_n C d_M_bundle_61 rfl ?_
    refine gq_get C (g := 20) (j := 0) (ci := 8) (k := 3) (v := .ref (al Z 22 0)) (qm (by decide) (by decide)) rfl rfl in_M (by decide) w_664 rfl d_M_bundle_62 ?_
    refine gq_iconst C (v := 2) d_M_bundle_65 (by decide) ?_
    refine gq_iload_n C d_M_bundle_66 rfl ?_
    refine gq_imul C d_M_bundle_67 ?_
    refine gq_iload_n C d_M_bundle_68 rfl ?_
    refine gq_iadd C d_M_bundle_69 ?_
    refine gq_iload_n C d_M_bundle_70 rfl ?_
    refine gq_iast C (fun _ h => h) (g := 22) (j := 0) (a := (2 * n + u)) (t0 := 0) (qm (by decide) (by decide)) (fun _ => rfl) rfl (by rw [show (2 : Int32) = nI 2 from rfl, pk_mul, nI_add]) (by omega) (by decide) d_M_bundle_71 ?_
    refine gq_aload_n C d_M_bundle_72 rfl ?_
    refine gq_get C (g := 20) (j := 0) (ci := 8) (k := 4) (v := .ref (al Z 23 0)) (qm (by decide) (by decide)) rfl rfl in_M (by decide) w_665 rfl d_M_bundle_73 ?_
    refine gq_iconst C (v := 2) d_M_bundle_76 (by decide) ?_
    refine gq_iload_n C d_M_bundle_77 rfl ?_
    refine gq_imul C d_M_bundle_78 ?_
    refine gq_iload_n C d_M_bundle_79 rfl ?_
    refine gq_iadd C d_M_bundle_80 ?_
    refine gq_iload C d_M_bundle_81 rfl ?_
    refine gq_iast C (fun _ h => h) (g := 23) (j := 0) (a := (2 * n + u)) (t0 := 0) (qm (by decide) (by decide)) (fun _ => rfl) rfl (by rw [show (2 : Int32) = nI 2 from rfl, pk_mul, nI_add]) (by omega) (by decide) d_M_bundle_83 ?_
    exact gq_vretE C hr rfl rfl (by decide) (by decide) d_M_bundle_84

set_option maxHeartbeats 4000000 in
set_option maxRecDepth 100000 in
theorem c_M_bundle_x (l : Launch) (Z : qZ) (hZ : qok (pX Z)) (V : qV) (Y : qY) (a u z w : Int32) (h : ¬ g_not a 8 = 0 ∨ ¬ g_not u 2 = 0 ∨ (¬ z = 0 ∧ (z < 2 ∨ 12 < z)) ∨ w < 0 ∨ ¬ w ≤ 10000000) : CT l y_M_bundle { frames := 2, cells := 0, slots := 0, locals := 61 } (pX Z) (qA (pX Z)) [.ref (al Z 20 0), .int a, .int u, .int z, .int w] V Y (.inl none) (qv V 20 0 0 1) Y := by
  refine CT.of (cc := b_M_bundle) (maxL := 5) (ret := none) hZ (by decide) w_768 (Nat.le_of_ble_eq_true rfl) ?_
  intro p e s m below meth c C hr hex hlt
  refine gq_aload_n C d_M_bundle_0 rfl ?_
  refine gq_iload_n C d_M_bundle_1 rfl ?_
  refine gq_bipush C (v := 8) d_M_bundle_2 (by decide) ?_
  refine gq_callS C (st := [.ref (al Z 20 0)]) (fun _ h => h.elim) (c_M_not l Z hZ _ _ a 8) w_761 w_762 w_763 w_9 ⟨by decide, by decide, (by decide +kernel : (parseMethodDescriptor y_M_not.desc).map (fun d => d.parameters.length) = some 2)⟩ ⟨by decide, by decide⟩ ⟨by decide, by decide⟩ rfl (Nat.le_of_ble_eq_true rfl) d_M_bundle_4 ?_
  refine gq_if_ne C (tgt := 45) d_M_bundle_7 rfl (fun hb7 => ?_) (fun hb7 => ?_)
  · skip
    refine gq_iconst C (v := 1) d_M_bundle_45 (by decide) ?_
    refine gq_goto C (tgt := 50) d_M_bundle_46 rfl ?_
    refine gq_put C (fun _ h => h) (g := 20) (j := 0) (ci := 8) (k := 0) ft_M k_M n_M (qm (by decide) (by decide)) rfl rfl in_M (by decide) w_661 rfl (k_M 0 (by decide)) rfl rfl (Nat.le_of_ble_eq_true rfl) rfl d_M_bundle_50 ?_
    refine gq_aload_n C d_M_bundle_53 rfl ?_
    refine gq_get C (g := 20) (j := 0) (ci := 8) (k := 0) (v := .int 1) (qm (by decide) (by decide)) rfl rfl in_M (by decide) w_661 rfl d_M_bundle_54 ?_
    refine gq_if_eq C (tgt := 61) d_M_bundle_57 rfl (fun hb => by exact absurd hb (by decide)) (fun hb57 => ?_)
    exact gq_vretE C hr rfl rfl (by decide) (by decide) d_M_bundle_60
  · skip
    refine gq_iload_n C d_M_bundle_10 rfl ?_
    refine gq_iconst C (v := 2) d_M_bundle_11 (by decide) ?_
    refine gq_callS C (st := [.ref (al Z 20 0)]) (fun _ h => h.elim) (c_M_not l Z hZ _ _ u 2) w_761 w_762 w_763 w_9 ⟨by decide, by decide, (by decide +kernel : (parseMethodDescriptor y_M_not.desc).map (fun d => d.parameters.length) = some 2)⟩ ⟨by decide, by decide⟩ ⟨by decide, by decide⟩ rfl (Nat.le_of_ble_eq_true rfl) d_M_bundle_12 ?_
    refine gq_if_ne C (tgt := 45) d_M_bundle_15 rfl (fun hb15 => ?_) (fun hb15 => ?_)
    · skip
      refine gq_iconst C (v := 1) d_M_bundle_45 (by decide) ?_
      refine gq_goto C (tgt := 50) d_M_bundle_46 rfl ?_
      refine gq_put C (fun _ h => h) (g := 20) (j := 0) (ci := 8) (k := 0) ft_M k_M n_M (qm (by decide) (by decide)) rfl rfl in_M (by decide) w_661 rfl (k_M 0 (by decide)) rfl rfl (Nat.le_of_ble_eq_true rfl) rfl d_M_bundle_50 ?_
      refine gq_aload_n C d_M_bundle_53 rfl ?_
      refine gq_get C (g := 20) (j := 0) (ci := 8) (k := 0) (v := .int 1) (qm (by decide) (by decide)) rfl rfl in_M (by decide) w_661 rfl d_M_bundle_54 ?_
      refine gq_if_eq C (tgt := 61) d_M_bundle_57 rfl (fun hb => by exact absurd hb (by decide)) (fun hb57 => ?_)
      exact gq_vretE C hr rfl rfl (by decide) (by decide) d_M_bundle_60
    · skip
      refine gq_iload_n C d_M_bundle_18 rfl ?_
      refine gq_if_eq C (tgt := 33) d_M_bundle_19 rfl (fun hb19 => ?_) (fun hb19 => ?_)
      · skip
        refine gq_iload C d_M_bundle_33 rfl ?_
        refine gq_if_lt C (tgt := 45) d_M_bundle_35 rfl (fun hb35 => ?_) (fun hb35 => ?_)
        · skip
          refine gq_iconst C (v := 1) d_M_bundle_45 (by decide) ?_
          refine gq_goto C (tgt := 50) d_M_bundle_46 rfl ?_
          refine gq_put C (fun _ h => h) (g := 20) (j := 0) (ci := 8) (k := 0) ft_M k_M n_M (qm (by decide) (by decide)) rfl rfl in_M (by decide) w_661 rfl (k_M 0 (by decide)) rfl rfl (Nat.le_of_ble_eq_true rfl) rfl d_M_bundle_50 ?_
          refine gq_aload_n C d_M_bundle_53 rfl ?_
          refine gq_get C (g := 20) (j := 0) (ci := 8) (k := 0) (v := .int 1) (qm (by decide) (by decide)) rfl rfl in_M (by decide) w_661 rfl d_M_bundle_54 ?_
          refine gq_if_eq C (tgt := 61) d_M_bundle_57 rfl (fun hb => by exact absurd hb (by decide)) (fun hb57 => ?_)
          exact gq_vretE C hr rfl rfl (by decide) (by decide) d_M_bundle_60
        · skip
          refine gq_iload C d_M_bundle_38 rfl ?_
          refine gq_ldc C w_764 d_M_bundle_40 ?_
          refine gq_icmp_le C (tgt := 49) d_M_bundle_42 rfl (fun hb => by first | contradiction | (rcases h with h | h | h | h | h <;> first | contradiction | (exact absurd hb19 h.1) | (exact h.2.elim (fun q => absurd q hb24) (fun q => absurd q hb30)))) (fun hb42 => ?_)
          refine gq_iconst C (v := 1) d_M_bundle_45 (by decide) ?_
          refine gq_goto C (tgt := 50) d_M_bundle_46 rfl ?_
          refine gq_put C (fun _ h => h) (g := 20) (j := 0) (ci := 8) (k := 0) ft_M k_M n_M (qm (by decide) (by decide)) rfl rfl in_M (by decide) w_661 rfl (k_M 0 (by decide)) rfl rfl (Nat.le_of_ble_eq_true rfl) rfl d_M_bundle_50 ?_
          refine gq_aload_n C d_M_bundle_53 rfl ?_
          refine gq_get C (g := 20) (j := 0) (ci := 8) (k := 0) (v := .int 1) (qm (by decide) (by decide)) rfl rfl in_M (by decide) w_661 rfl d_M_bundle_54 ?_
          refine gq_if_eq C (tgt := 61) d_M_bundle_57 rfl (fun hb => by exact absurd hb (by decide)) (fun hb57 => ?_)
          exact gq_vretE C hr rfl rfl (by decide) (by decide) d_M_bundle_60
      · skip
        refine gq_iload_n C d_M_bundle_22 rfl ?_
        refine gq_iconst C (v := 2) d_M_bundle_23 (by decide) ?_
        refine gq_icmp_lt C (tgt := 45) d_M_bundle_24 rfl (fun hb24 => ?_) (fun hb24 => ?_)
        · skip
          refine gq_iconst C (v := 1) d_M_bundle_45 (by decide) ?_
          refine gq_goto C (tgt := 50) d_M_bundle_46 rfl ?_
          refine gq_put C (fun _ h => h) (g := 20) (j := 0) (ci := 8) (k := 0) ft_M k_M n_M (qm (by decide) (by decide)) rfl rfl in_M (by decide) w_661 rfl (k_M 0 (by decide)) rfl rfl (Nat.le_of_ble_eq_true rfl) rfl d_M_bundle_50 ?_
          refine gq_aload_n C d_M_bundle_53 rfl ?_
          refine gq_get C (g := 20) (j := 0) (ci := 8) (k := 0) (v := .int 1) (qm (by decide) (by decide)) rfl rfl in_M (by decide) w_661 rfl d_M_bundle_54 ?_
          refine gq_if_eq C (tgt := 61) d_M_bundle_57 rfl (fun hb => by exact absurd hb (by decide)) (fun hb57 => ?_)
          exact gq_vretE C hr rfl rfl (by decide) (by decide) d_M_bundle_60
        · skip
          refine gq_iload_n C d_M_bundle_27 rfl ?_
          refine gq_bipush C (v := 12) d_M_bundle_28 (by decide) ?_
          refine gq_icmp_gt C (tgt := 45) d_M_bundle_30 rfl (fun hb30 => ?_) (fun hb30 => ?_)
          · skip
            refine gq_iconst C (v := 1) d_M_bundle_45 (by decide) ?_
            refine gq_goto C (tgt := 50) d_M_bundle_46 rfl ?_
            refine gq_put C (fun _ h => h) (g := 20) (j := 0) (ci := 8) (k := 0) ft_M k_M n_M (qm (by decide) (by decide)) rfl rfl in_M (by decide) w_661 rfl (k_M 0 (by decide)) rfl rfl (Nat.le_of_ble_eq_true rfl) rfl d_M_bundle_50 ?_
            refine gq_aload_n C d_M_bundle_53 rfl ?_
            refine gq_get C (g := 20) (j := 0) (ci := 8) (k := 0) (v := .int 1) (qm (by decide) (by decide)) rfl rfl in_M (by decide) w_661 rfl d_M_bundle_54 ?_
            refine gq_if_eq C (tgt := 61) d_M_bundle_57 rfl (fun hb => by exact absurd hb (by decide)) (fun hb57 => ?_)
            exact gq_vretE C hr rfl rfl (by decide) (by decide) d_M_bundle_60
          · skip
            refine gq_iload C d_M_bundle_33 rfl ?_
            refine gq_if_lt C (tgt := 45) d_M_bundle_35 rfl (fun hb35 => ?_) (fun hb35 => ?_)
            · skip
              refine gq_iconst C (v := 1) d_M_bundle_45 (by decide) ?_
              refine gq_goto C (tgt := 50) d_M_bundle_46 rfl ?_
              refine gq_put C (fun _ h => h) (g := 20) (j := 0) (ci := 8) (k := 0) ft_M k_M n_M (qm (by decide) (by decide)) rfl rfl in_M (by decide) w_661 rfl (k_M 0 (by decide)) rfl rfl (Nat.le_of_ble_eq_true rfl) rfl d_M_bundle_50 ?_
              refine gq_aload_n C d_M_bundle_53 rfl ?_
              refine gq_get C (g := 20) (j := 0) (ci := 8) (k := 0) (v := .int 1) (qm (by decide) (by decide)) rfl rfl in_M (by decide) w_661 rfl d_M_bundle_54 ?_
              refine gq_if_eq C (tgt := 61) d_M_bundle_57 rfl (fun hb => by exact absurd hb (by decide)) (fun hb57 => ?_)
              exact gq_vretE C hr rfl rfl (by decide) (by decide) d_M_bundle_60
            · skip
              refine gq_iload C d_M_bundle_38 rfl ?_
              refine gq_ldc C w_764 d_M_bundle_40 ?_
              refine gq_icmp_le C (tgt := 49) d_M_bundle_42 rfl (fun hb => by first | contradiction | (rcases h with h | h | h | h | h <;> first | contradiction | (exact absurd hb19 h.1) | (exact h.2.elim (fun q => absurd q hb24) (fun q => absurd q hb30)))) (fun hb42 => ?_)
              refine gq_iconst C (v := 1) d_M_bundle_45 (by decide) ?_
              refine gq_goto C (tgt := 50) d_M_bundle_46 rfl ?_
              refine gq_put C (fun _ h => h) (g := 20) (j := 0) (ci := 8) (k := 0) ft_M k_M n_M (qm (by decide) (by decide)) rfl rfl in_M (by decide) w_661 rfl (k_M 0 (by decide)) rfl rfl (Nat.le_of_ble_eq_true rfl) rfl d_M_bundle_50 ?_
              refine gq_aload_n C d_M_bundle_53 rfl ?_
              refine gq_get C (g := 20) (j := 0) (ci := 8) (k := 0) (v := .int 1) (qm (by decide) (by decide)) rfl rfl in_M (by decide) w_661 rfl d_M_bundle_54 ?_
              refine gq_if_eq C (tgt := 61) d_M_bundle_57 rfl (fun hb => by exact absurd hb (by decide)) (fun hb57 => ?_)
              exact gq_vretE C hr rfl rfl (by decide) (by decide) d_M_bundle_60

set_option maxHeartbeats 4000000 in
set_option maxRecDepth 100000 in
theorem c_M_activate (l : Launch) (Z : qZ) (hZ : qok (pX Z)) (V : qV) (Y : qY) (b : Int32) (h1 : ¬ b < 1) (h2 : b ≤ V 20 0 1) (h3 : ¬ b ≤ V 20 0 13) (h4 : V 20 0 14 < b) : CT l y_M_activate { frames := 4, cells := 0, slots := 0, locals := 103 } (pX Z) (qA (pX Z)) [.ref (al Z 20 0), .int b] V Y (.inl none) (g_look (qv (qv V 20 0 0 0) 20 0 14 b)) Y := by
  refine CT.of (cc := b_M_activate) (maxL := 2) (ret := none) hZ (by decide) w_780 (Nat.le_of_ble_eq_true rfl) ?_
  intro p e s m below meth c C hr hex hlt
  refine gq_aload_n C d_M_activate_0 rfl ?_
  refine gq_iload_n C d_M_activate_1 rfl ?_
  refine gq_iconst C (v := 1) d_M_activate_2 (by decide) ?_
  refine gq_icmp_lt C (tgt := 14) d_M_activate_3 rfl (fun hb => by exact absurd hb h1) (fun hb3 => ?_)
  refine gq_iload_n C d_M_activate_6 rfl ?_
  refine gq_aload_n C d_M_activate_7 rfl ?_
  refine gq_get C (g := 20) (j := 0) (ci := 8) (k := 1) (v := .int (V 20 0 1)) (qm (by decide) (by decide)) rfl rfl in_M (by decide) w_662 rfl d_M_activate_8 ?_
  refine gq_icmp_le C (tgt := 18) d_M_activate_11 rfl (fun hb11 => ?_) (fun hb => by exact absurd h2 hb)
  refine gq_iload_n C d_M_activate_18 rfl ?_
  refine gq_aload_n C d_M_activate_19 rfl ?_
  refine gq_get C (g := 20) (j := 0) (ci := 8) (k := 13) (v := .int (V 20 0 13)) (qm (by decide) (by decide)) rfl rfl in_M (by decide) w_674 rfl d_M_activate_20 ?_
  refine gq_icmp_le C (tgt := 34) d_M_activate_23 rfl (fun hb => by exact absurd hb h3) (fun hb23 => ?_)
  refine gq_iload_n C d_M_activate_26 rfl ?_
  refine gq_aload_n C d_M_activate_27 rfl ?_
  refine gq_get C (g := 20) (j := 0) (ci := 8) (k := 14) (v := .int (V 20 0 14)) (qm (by decide) (by decide)) rfl rfl in_M (by decide) w_675 rfl d_M_activate_28 ?_
  refine gq_icmp_gt C (tgt := 38) d_M_activate_31 rfl (fun hb31 => ?_) (fun hb => by exact absurd h4 hb)
  refine gq_iconst C (v := 0) d_M_activate_38 (by decide) ?_
  refine gq_put C (fun _ h => h) (g := 20) (j := 0) (ci := 8) (k := 0) ft_M k_M n_M (qm (by decide) (by decide)) rfl rfl in_M (by decide) w_661 rfl (k_M 0 (by decide)) rfl rfl (Nat.le_of_ble_eq_true rfl) rfl d_M_activate_39 ?_
  refine gq_aload_n C d_M_activate_42 rfl ?_
  refine gq_get C (g := 20) (j := 0) (ci := 8) (k := 0) (v := .int 0) (qm (by decide) (by decide)) rfl rfl in_M (by decide) w_661 rfl d_M_activate_43 ?_
  refine gq_if_eq C (tgt := 50) d_M_activate_46 rfl (fun hb46 => ?_) (fun hb => by exact absurd hb (by decide))
  refine gq_aload_n C d_M_activate_50 rfl ?_
  refine gq_iload_n C d_M_activate_51 rfl ?_
  refine gq_put C (fun _ h => h) (g := 20) (j := 0) (ci := 8) (k := 14) ft_M k_M n_M (qm (by decide) (by decide)) rfl rfl in_M (by decide) w_675 rfl (k_M 14 (by decide)) rfl rfl (Nat.le_of_ble_eq_true rfl) rfl d_M_activate_52 ?_
  refine gq_aload_n C d_M_activate_55 rfl ?_
  refine gq_callV C (st := []) (fun _ h => h) (c_M_look l Z hZ _ _) (qm (by decide) (by decide)) rfl rfl w_781 w_783 ws_M_look w_784 w_9 ⟨by decide, by decide, (by decide +kernel : (parseMethodDescriptor y_M_look.desc).map (fun d => d.parameters.length) = some 0)⟩ ⟨by decide, by decide⟩ ⟨by decide, by decide⟩ rfl (Nat.le_of_ble_eq_true rfl) d_M_activate_56 ?_
  exact gq_vret C hr (by decide) (by decide) d_M_activate_59

set_option maxHeartbeats 4000000 in
set_option maxRecDepth 100000 in
theorem c_M_activate_x1 (l : Launch) (Z : qZ) (hZ : qok (pX Z)) (V : qV) (Y : qY) (b : Int32) (h : b < 1 ∨ ¬ b ≤ V 20 0 1) : CT l y_M_activate { frames := 4, cells := 0, slots := 0, locals := 103 } (pX Z) (qA (pX Z)) [.ref (al Z 20 0), .int b] V Y (.inl none) (qv V 20 0 0 1) Y := by
  refine CT.of (cc := b_M_activate) (maxL := 2) (ret := none) hZ (by decide) w_780 (Nat.le_of_ble_eq_true rfl) ?_
  intro p e s m below meth c C hr hex hlt
  refine gq_aload_n C d_M_activate_0 rfl ?_
  refine gq_iload_n C d_M_activate_1 rfl ?_
  refine gq_iconst C (v := 1) d_M_activate_2 (by decide) ?_
  refine gq_icmp_lt C (tgt := 14) d_M_activate_3 rfl (fun hb3 => ?_) (fun hb3 => ?_)
  · skip
    refine gq_iconst C (v := 1) d_M_activate_14 (by decide) ?_
    refine gq_goto C (tgt := 39) d_M_activate_15 rfl ?_
    refine gq_put C (fun _ h => h) (g := 20) (j := 0) (ci := 8) (k := 0) ft_M k_M n_M (qm (by decide) (by decide)) rfl rfl in_M (by decide) w_661 rfl (k_M 0 (by decide)) rfl rfl (Nat.le_of_ble_eq_true rfl) rfl d_M_activate_39 ?_
    refine gq_aload_n C d_M_activate_42 rfl ?_
    refine gq_get C (g := 20) (j := 0) (ci := 8) (k := 0) (v := .int 1) (qm (by decide) (by decide)) rfl rfl in_M (by decide) w_661 rfl d_M_activate_43 ?_
    refine gq_if_eq C (tgt := 50) d_M_activate_46 rfl (fun hb => by exact absurd hb (by decide)) (fun hb46 => ?_)
    exact gq_vretE C hr rfl rfl (by decide) (by decide) d_M_activate_49
  · skip
    refine gq_iload_n C d_M_activate_6 rfl ?_
    refine gq_aload_n C d_M_activate_7 rfl ?_
    refine gq_get C (g := 20) (j := 0) (ci := 8) (k := 1) (v := .int (V 20 0 1)) (qm (by decide) (by decide)) rfl rfl in_M (by decide) w_662 rfl d_M_activate_8 ?_
    refine gq_icmp_le C (tgt := 18) d_M_activate_11 rfl (fun hb => by first | contradiction | (rcases h with h | h <;> contradiction)) (fun hb11 => ?_)
    refine gq_iconst C (v := 1) d_M_activate_14 (by decide) ?_
    refine gq_goto C (tgt := 39) d_M_activate_15 rfl ?_
    refine gq_put C (fun _ h => h) (g := 20) (j := 0) (ci := 8) (k := 0) ft_M k_M n_M (qm (by decide) (by decide)) rfl rfl in_M (by decide) w_661 rfl (k_M 0 (by decide)) rfl rfl (Nat.le_of_ble_eq_true rfl) rfl d_M_activate_39 ?_
    refine gq_aload_n C d_M_activate_42 rfl ?_
    refine gq_get C (g := 20) (j := 0) (ci := 8) (k := 0) (v := .int 1) (qm (by decide) (by decide)) rfl rfl in_M (by decide) w_661 rfl d_M_activate_43 ?_
    refine gq_if_eq C (tgt := 50) d_M_activate_46 rfl (fun hb => by exact absurd hb (by decide)) (fun hb46 => ?_)
    exact gq_vretE C hr rfl rfl (by decide) (by decide) d_M_activate_49

set_option maxHeartbeats 4000000 in
set_option maxRecDepth 100000 in
theorem c_M_activate_x2 (l : Launch) (Z : qZ) (hZ : qok (pX Z)) (V : qV) (Y : qY) (b : Int32) (h1 : ¬ b < 1) (h2 : b ≤ V 20 0 1) (h : b ≤ V 20 0 13 ∨ ¬ V 20 0 14 < b) : CT l y_M_activate { frames := 4, cells := 0, slots := 0, locals := 103 } (pX Z) (qA (pX Z)) [.ref (al Z 20 0), .int b] V Y (.inl none) (qv V 20 0 0 2) Y := by
  refine CT.of (cc := b_M_activate) (maxL := 2) (ret := none) hZ (by decide) w_780 (Nat.le_of_ble_eq_true rfl) ?_
  intro p e s m below meth c C hr hex hlt
  refine gq_aload_n C d_M_activate_0 rfl ?_
  refine gq_iload_n C d_M_activate_1 rfl ?_
  refine gq_iconst C (v := 1) d_M_activate_2 (by decide) ?_
  refine gq_icmp_lt C (tgt := 14) d_M_activate_3 rfl (fun hb => by exact absurd hb h1) (fun hb3 => ?_)
  refine gq_iload_n C d_M_activate_6 rfl ?_
  refine gq_aload_n C d_M_activate_7 rfl ?_
  refine gq_get C (g := 20) (j := 0) (ci := 8) (k := 1) (v := .int (V 20 0 1)) (qm (by decide) (by decide)) rfl rfl in_M (by decide) w_662 rfl d_M_activate_8 ?_
  refine gq_icmp_le C (tgt := 18) d_M_activate_11 rfl (fun hb11 => ?_) (fun hb => by exact absurd h2 hb)
  refine gq_iload_n C d_M_activate_18 rfl ?_
  refine gq_aload_n C d_M_activate_19 rfl ?_
  refine gq_get C (g := 20) (j := 0) (ci := 8) (k := 13) (v := .int (V 20 0 13)) (qm (by decide) (by decide)) rfl rfl in_M (by decide) w_674 rfl d_M_activate_20 ?_
  refine gq_icmp_le C (tgt := 34) d_M_activate_23 rfl (fun hb23 => ?_) (fun hb23 => ?_)
  · skip
    refine gq_iconst C (v := 2) d_M_activate_34 (by decide) ?_
    refine gq_goto C (tgt := 39) d_M_activate_35 rfl ?_
    refine gq_put C (fun _ h => h) (g := 20) (j := 0) (ci := 8) (k := 0) ft_M k_M n_M (qm (by decide) (by decide)) rfl rfl in_M (by decide) w_661 rfl (k_M 0 (by decide)) rfl rfl (Nat.le_of_ble_eq_true rfl) rfl d_M_activate_39 ?_
    refine gq_aload_n C d_M_activate_42 rfl ?_
    refine gq_get C (g := 20) (j := 0) (ci := 8) (k := 0) (v := .int 2) (qm (by decide) (by decide)) rfl rfl in_M (by decide) w_661 rfl d_M_activate_43 ?_
    refine gq_if_eq C (tgt := 50) d_M_activate_46 rfl (fun hb => by exact absurd hb (by decide)) (fun hb46 => ?_)
    exact gq_vretE C hr rfl rfl (by decide) (by decide) d_M_activate_49
  · skip
    refine gq_iload_n C d_M_activate_26 rfl ?_
    refine gq_aload_n C d_M_activate_27 rfl ?_
    refine gq_get C (g := 20) (j := 0) (ci := 8) (k := 14) (v := .int (V 20 0 14)) (qm (by decide) (by decide)) rfl rfl in_M (by decide) w_675 rfl d_M_activate_28 ?_
    refine gq_icmp_gt C (tgt := 38) d_M_activate_31 rfl (fun hb => by first | contradiction | (rcases h with h | h <;> contradiction)) (fun hb31 => ?_)
    refine gq_iconst C (v := 2) d_M_activate_34 (by decide) ?_
    refine gq_goto C (tgt := 39) d_M_activate_35 rfl ?_
    refine gq_put C (fun _ h => h) (g := 20) (j := 0) (ci := 8) (k := 0) ft_M k_M n_M (qm (by decide) (by decide)) rfl rfl in_M (by decide) w_661 rfl (k_M 0 (by decide)) rfl rfl (Nat.le_of_ble_eq_true rfl) rfl d_M_activate_39 ?_
    refine gq_aload_n C d_M_activate_42 rfl ?_
    refine gq_get C (g := 20) (j := 0) (ci := 8) (k := 0) (v := .int 2) (qm (by decide) (by decide)) rfl rfl in_M (by decide) w_661 rfl d_M_activate_43 ?_
    refine gq_if_eq C (tgt := 50) d_M_activate_46 rfl (fun hb => by exact absurd hb (by decide)) (fun hb46 => ?_)
    exact gq_vretE C hr rfl rfl (by decide) (by decide) d_M_activate_49

set_option maxHeartbeats 4000000 in
set_option maxRecDepth 100000 in
theorem c_M_active (l : Launch) (Z : qZ) (hZ : qok (pX Z)) (V : qV) (Y : qY)  : CT l y_M_active { frames := 1, cells := 0, slots := 0, locals := 40 } (pX Z) (qA (pX Z)) [.ref (al Z 20 0)] V Y (.inl (some (.int (V 20 0 13)))) (qv V 20 0 0 0) Y := by
  refine CT.of (cc := b_M_active) (maxL := 1) (ret := (some .int)) hZ (by decide) w_796 (Nat.le_of_ble_eq_true rfl) ?_
  intro p e s m below meth c C hr hex hlt
  refine gq_aload_n C d_M_active_0 rfl ?_
  refine gq_iconst C (v := 0) d_M_active_1 (by decide) ?_
  refine gq_put C (fun _ h => h) (g := 20) (j := 0) (ci := 8) (k := 0) ft_M k_M n_M (qm (by decide) (by decide)) rfl rfl in_M (by decide) w_661 rfl (k_M 0 (by decide)) rfl rfl (Nat.le_of_ble_eq_true rfl) rfl d_M_active_2 ?_
  refine gq_aload_n C d_M_active_5 rfl ?_
  refine gq_get C (g := 20) (j := 0) (ci := 8) (k := 13) (v := .int (V 20 0 13)) (qm (by decide) (by decide)) rfl rfl in_M (by decide) w_674 rfl d_M_active_6 ?_
  exact gq_iret C hr (by decide) (by decide) d_M_active_9

set_option maxHeartbeats 4000000 in
set_option maxRecDepth 100000 in
theorem c_M_rate (l : Launch) (Z : qZ) (hZ : qok (pX Z)) (V : qV) (Y : qY) (n : Nat) (hn : n < 5) (q : Int32) (h1 : g_not (nI n) 5 = 0) (h2 : ¬ q < 99) (h3 : q ≤ 101) : CT l y_M_rate { frames := 2, cells := 0, slots := 0, locals := 61 } (pX Z) (qA (pX Z)) [.ref (al Z 20 0), .int (nI n), .int q] V Y (.inl none) (qv (qv V 20 0 0 0) 25 0 n q) Y := by
  refine CT.of (cc := b_M_rate) (maxL := 3) (ret := none) hZ (by decide) w_804 (Nat.le_of_ble_eq_true rfl) ?_
  intro p e s m below meth c C hr hex hlt
  refine gq_aload_n C d_M_rate_0 rfl ?_
  refine gq_iload_n C d_M_rate_1 rfl ?_
  refine gq_iconst C (v := 5) d_M_rate_2 (by decide) ?_
  refine gq_callS C (st := [.ref (al Z 20 0)]) (fun _ h => h.elim) (c_M_not l Z hZ _ _ (nI n) 5) w_761 w_762 w_763 w_9 ⟨by decide, by decide, (by decide +kernel : (parseMethodDescriptor y_M_not.desc).map (fun d => d.parameters.length) = some 2)⟩ ⟨by decide, by decide⟩ ⟨by decide, by decide⟩ rfl (Nat.le_of_ble_eq_true rfl) d_M_rate_3 ?_
  refine gq_if_ne C (tgt := 21) d_M_rate_6 rfl (fun hb => by exact absurd h1 hb) (fun hb6 => ?_)
  refine gq_iload_n C d_M_rate_9 rfl ?_
  refine gq_bipush C (v := 99) d_M_rate_10 (by decide) ?_
  refine gq_icmp_lt C (tgt := 21) d_M_rate_12 rfl (fun hb => by exact absurd hb h2) (fun hb12 => ?_)
  refine gq_iload_n C d_M_rate_15 rfl ?_
  refine gq_bipush C (v := 101) d_M_rate_16 (by decide) ?_
  refine gq_icmp_le C (tgt := 25) d_M_rate_18 rfl (fun hb18 => ?_) (fun hb => by exact absurd h3 hb)
  refine gq_iconst C (v := 0) d_M_rate_25 (by decide) ?_
  refine gq_put C (fun _ h => h) (g := 20) (j := 0) (ci := 8) (k := 0) ft_M k_M n_M (qm (by decide) (by decide)) rfl rfl in_M (by decide) w_661 rfl (k_M 0 (by decide)) rfl rfl (Nat.le_of_ble_eq_true rfl) rfl d_M_rate_26 ?_
  refine gq_aload_n C d_M_rate_29 rfl ?_
  refine gq_get C (g := 20) (j := 0) (ci := 8) (k := 0) (v := .int 0) (qm (by decide) (by decide)) rfl rfl in_M (by decide) w_661 rfl d_M_rate_30 ?_
  refine gq_if_ne C (tgt := 43) d_M_rate_33 rfl (fun hb => by exact absurd hb (by decide)) (fun hb33 => ?_)
  refine gq_aload_n C d_M_rate_36 rfl ?_
  refine gq_get C (g := 20) (j := 0) (ci := 8) (k := 6) (v := .ref (al Z 25 0)) (qm (by decide) (by decide)) rfl rfl in_M (by decide) w_667 rfl d_M_rate_37 ?_
  refine gq_iload_n C d_M_rate_40 rfl ?_
  refine gq_iload_n C d_M_rate_41 rfl ?_
  refine gq_iast C (fun _ h => h) (g := 25) (j := 0) (a := n) (t0 := 0) (qm (by decide) (by decide)) (fun _ => rfl) rfl rfl hn (by decide) d_M_rate_42 ?_
  exact gq_vret C hr (by decide) (by decide) d_M_rate_43

set_option maxHeartbeats 4000000 in
set_option maxRecDepth 100000 in
theorem c_M_rate_x (l : Launch) (Z : qZ) (hZ : qok (pX Z)) (V : qV) (Y : qY) (w q : Int32) (h : ¬ g_not w 5 = 0 ∨ q < 99 ∨ ¬ q ≤ 101) : CT l y_M_rate { frames := 2, cells := 0, slots := 0, locals := 61 } (pX Z) (qA (pX Z)) [.ref (al Z 20 0), .int w, .int q] V Y (.inl none) (qv V 20 0 0 1) Y := by
  refine CT.of (cc := b_M_rate) (maxL := 3) (ret := none) hZ (by decide) w_804 (Nat.le_of_ble_eq_true rfl) ?_
  intro p e s m below meth c C hr hex hlt
  refine gq_aload_n C d_M_rate_0 rfl ?_
  refine gq_iload_n C d_M_rate_1 rfl ?_
  refine gq_iconst C (v := 5) d_M_rate_2 (by decide) ?_
  refine gq_callS C (st := [.ref (al Z 20 0)]) (fun _ h => h.elim) (c_M_not l Z hZ _ _ w 5) w_761 w_762 w_763 w_9 ⟨by decide, by decide, (by decide +kernel : (parseMethodDescriptor y_M_not.desc).map (fun d => d.parameters.length) = some 2)⟩ ⟨by decide, by decide⟩ ⟨by decide, by decide⟩ rfl (Nat.le_of_ble_eq_true rfl) d_M_rate_3 ?_
  refine gq_if_ne C (tgt := 21) d_M_rate_6 rfl (fun hb6 => ?_) (fun hb6 => ?_)
  · skip
    refine gq_iconst C (v := 1) d_M_rate_21 (by decide) ?_
    refine gq_goto C (tgt := 26) d_M_rate_22 rfl ?_
    refine gq_put C (fun _ h => h) (g := 20) (j := 0) (ci := 8) (k := 0) ft_M k_M n_M (qm (by decide) (by decide)) rfl rfl in_M (by decide) w_661 rfl (k_M 0 (by decide)) rfl rfl (Nat.le_of_ble_eq_true rfl) rfl d_M_rate_26 ?_
    refine gq_aload_n C d_M_rate_29 rfl ?_
    refine gq_get C (g := 20) (j := 0) (ci := 8) (k := 0) (v := .int 1) (qm (by decide) (by decide)) rfl rfl in_M (by decide) w_661 rfl d_M_rate_30 ?_
    refine gq_if_ne C (tgt := 43) d_M_rate_33 rfl (fun hb33 => ?_) (fun hb => by exact absurd hb (by decide))
    exact gq_vretE C hr rfl rfl (by decide) (by decide) d_M_rate_43
  · skip
    refine gq_iload_n C d_M_rate_9 rfl ?_
    refine gq_bipush C (v := 99) d_M_rate_10 (by decide) ?_
    refine gq_icmp_lt C (tgt := 21) d_M_rate_12 rfl (fun hb12 => ?_) (fun hb12 => ?_)
    · skip
      refine gq_iconst C (v := 1) d_M_rate_21 (by decide) ?_
      refine gq_goto C (tgt := 26) d_M_rate_22 rfl ?_
      refine gq_put C (fun _ h => h) (g := 20) (j := 0) (ci := 8) (k := 0) ft_M k_M n_M (qm (by decide) (by decide)) rfl rfl in_M (by decide) w_661 rfl (k_M 0 (by decide)) rfl rfl (Nat.le_of_ble_eq_true rfl) rfl d_M_rate_26 ?_
      refine gq_aload_n C d_M_rate_29 rfl ?_
      refine gq_get C (g := 20) (j := 0) (ci := 8) (k := 0) (v := .int 1) (qm (by decide) (by decide)) rfl rfl in_M (by decide) w_661 rfl d_M_rate_30 ?_
      refine gq_if_ne C (tgt := 43) d_M_rate_33 rfl (fun hb33 => ?_) (fun hb => by exact absurd hb (by decide))
      exact gq_vretE C hr rfl rfl (by decide) (by decide) d_M_rate_43
    · skip
      refine gq_iload_n C d_M_rate_15 rfl ?_
      refine gq_bipush C (v := 101) d_M_rate_16 (by decide) ?_
      refine gq_icmp_le C (tgt := 25) d_M_rate_18 rfl (fun hb => by first | contradiction | (rcases h with h | h | h <;> contradiction)) (fun hb18 => ?_)
      refine gq_iconst C (v := 1) d_M_rate_21 (by decide) ?_
      refine gq_goto C (tgt := 26) d_M_rate_22 rfl ?_
      refine gq_put C (fun _ h => h) (g := 20) (j := 0) (ci := 8) (k := 0) ft_M k_M n_M (qm (by decide) (by decide)) rfl rfl in_M (by decide) w_661 rfl (k_M 0 (by decide)) rfl rfl (Nat.le_of_ble_eq_true rfl) rfl d_M_rate_26 ?_
      refine gq_aload_n C d_M_rate_29 rfl ?_
      refine gq_get C (g := 20) (j := 0) (ci := 8) (k := 0) (v := .int 1) (qm (by decide) (by decide)) rfl rfl in_M (by decide) w_661 rfl d_M_rate_30 ?_
      refine gq_if_ne C (tgt := 43) d_M_rate_33 rfl (fun hb33 => ?_) (fun hb => by exact absurd hb (by decide))
      exact gq_vretE C hr rfl rfl (by decide) (by decide) d_M_rate_43

theorem d_M_fetch_0 : decode b_M_fetch 0 = .ok (.aload_n 0, 1) := by decide +kernel
theorem d_M_fetch_1 : decode b_M_fetch 1 = .ok (.iload_n 1, 1) := by decide +kernel
theorem d_M_fetch_2 : decode b_M_fetch 2 = .ok (.iconst 4, 1) := by decide +kernel
theorem d_M_fetch_3 : decode b_M_fetch 3 = .ok (.invokestatic 123, 3) := by decide +kernel
theorem d_M_fetch_6 : decode b_M_fetch 6 = .ok (.ifCond .eq 7, 3) := by decide +kernel
theorem d_M_fetch_9 : decode b_M_fetch 9 = .ok (.iconst 1, 1) := by decide +kernel
theorem d_M_fetch_10 : decode b_M_fetch 10 = .ok (.goto 4, 3) := by decide +kernel
theorem d_M_fetch_13 : decode b_M_fetch 13 = .ok (.iconst 0, 1) := by decide +kernel
theorem d_M_fetch_14 : decode b_M_fetch 14 = .ok (.putfield 7, 3) := by decide +kernel
theorem d_M_fetch_17 : decode b_M_fetch 17 = .ok (.aload_n 0, 1) := by decide +kernel
theorem d_M_fetch_18 : decode b_M_fetch 18 = .ok (.getfield 7, 3) := by decide +kernel
theorem d_M_fetch_21 : decode b_M_fetch 21 = .ok (.ifCond .eq 5, 3) := by decide +kernel
theorem d_M_fetch_24 : decode b_M_fetch 24 = .ok (.iconst 0, 1) := by decide +kernel
theorem d_M_fetch_25 : decode b_M_fetch 25 = .ok (.ireturn, 1) := by decide +kernel
theorem d_M_fetch_26 : decode b_M_fetch 26 = .ok (.aload_n 0, 1) := by decide +kernel
theorem d_M_fetch_27 : decode b_M_fetch 27 = .ok (.getfield 32, 3) := by decide +kernel
theorem d_M_fetch_30 : decode b_M_fetch 30 = .ok (.iload_n 1, 1) := by decide +kernel
theorem d_M_fetch_31 : decode b_M_fetch 31 = .ok (.iaload, 1) := by decide +kernel
theorem d_M_fetch_32 : decode b_M_fetch 32 = .ok (.iconst 1, 1) := by decide +kernel
theorem d_M_fetch_33 : decode b_M_fetch 33 = .ok (.iadd, 1) := by decide +kernel
theorem d_M_fetch_34 : decode b_M_fetch 34 = .ok (.istore_n 2, 1) := by decide +kernel
theorem d_M_fetch_35 : decode b_M_fetch 35 = .ok (.iload_n 2, 1) := by decide +kernel
theorem d_M_fetch_36 : decode b_M_fetch 36 = .ok (.aload_n 0, 1) := by decide +kernel
theorem d_M_fetch_37 : decode b_M_fetch 37 = .ok (.getfield 13, 3) := by decide +kernel
theorem d_M_fetch_40 : decode b_M_fetch 40 = .ok (.if_icmp .gt 17, 3) := by decide +kernel
theorem d_M_fetch_43 : decode b_M_fetch 43 = .ok (.aload_n 0, 1) := by decide +kernel
theorem d_M_fetch_44 : decode b_M_fetch 44 = .ok (.iconst 0, 1) := by decide +kernel
theorem d_M_fetch_45 : decode b_M_fetch 45 = .ok (.iload_n 1, 1) := by decide +kernel
theorem d_M_fetch_46 : decode b_M_fetch 46 = .ok (.iload_n 2, 1) := by decide +kernel
theorem d_M_fetch_47 : decode b_M_fetch 47 = .ok (.iconst 0, 1) := by decide +kernel
theorem d_M_fetch_48 : decode b_M_fetch 48 = .ok (.invokevirtual 112, 3) := by decide +kernel
theorem d_M_fetch_51 : decode b_M_fetch 51 = .ok (.iinc 2 1, 3) := by decide +kernel
theorem d_M_fetch_54 : decode b_M_fetch 54 = .ok (.goto (-19), 3) := by decide +kernel
theorem d_M_fetch_57 : decode b_M_fetch 57 = .ok (.aload_n 0, 1) := by decide +kernel
theorem d_M_fetch_58 : decode b_M_fetch 58 = .ok (.getfield 13, 3) := by decide +kernel
theorem d_M_fetch_61 : decode b_M_fetch 61 = .ok (.aload_n 0, 1) := by decide +kernel
theorem d_M_fetch_62 : decode b_M_fetch 62 = .ok (.getfield 32, 3) := by decide +kernel
theorem d_M_fetch_65 : decode b_M_fetch 65 = .ok (.iload_n 1, 1) := by decide +kernel
theorem d_M_fetch_66 : decode b_M_fetch 66 = .ok (.iaload, 1) := by decide +kernel
theorem d_M_fetch_67 : decode b_M_fetch 67 = .ok (.isub, 1) := by decide +kernel
theorem d_M_fetch_68 : decode b_M_fetch 68 = .ok (.ireturn, 1) := by decide +kernel

theorem d_M_open_0 : decode b_M_open 0 = .ok (.aload_n 0, 1) := by decide +kernel
theorem d_M_open_1 : decode b_M_open 1 = .ok (.iload_n 1, 1) := by decide +kernel
theorem d_M_open_2 : decode b_M_open 2 = .ok (.iconst 4, 1) := by decide +kernel
theorem d_M_open_3 : decode b_M_open 3 = .ok (.invokestatic 123, 3) := by decide +kernel
theorem d_M_open_6 : decode b_M_open 6 = .ok (.ifCond .eq 7, 3) := by decide +kernel
theorem d_M_open_9 : decode b_M_open 9 = .ok (.iconst 1, 1) := by decide +kernel
theorem d_M_open_10 : decode b_M_open 10 = .ok (.goto 4, 3) := by decide +kernel
theorem d_M_open_13 : decode b_M_open 13 = .ok (.iconst 0, 1) := by decide +kernel
theorem d_M_open_14 : decode b_M_open 14 = .ok (.putfield 7, 3) := by decide +kernel
theorem d_M_open_17 : decode b_M_open 17 = .ok (.aload_n 0, 1) := by decide +kernel
theorem d_M_open_18 : decode b_M_open 18 = .ok (.getfield 7, 3) := by decide +kernel
theorem d_M_open_21 : decode b_M_open 21 = .ok (.ifCond .eq 5, 3) := by decide +kernel
theorem d_M_open_24 : decode b_M_open 24 = .ok (.iconst 0, 1) := by decide +kernel
theorem d_M_open_25 : decode b_M_open 25 = .ok (.ireturn, 1) := by decide +kernel
theorem d_M_open_26 : decode b_M_open 26 = .ok (.iconst 0, 1) := by decide +kernel
theorem d_M_open_27 : decode b_M_open 27 = .ok (.istore_n 2, 1) := by decide +kernel
theorem d_M_open_28 : decode b_M_open 28 = .ok (.iconst 0, 1) := by decide +kernel
theorem d_M_open_29 : decode b_M_open 29 = .ok (.istore_n 3, 1) := by decide +kernel
theorem d_M_open_30 : decode b_M_open 30 = .ok (.iload_n 3, 1) := by decide +kernel
theorem d_M_open_31 : decode b_M_open 31 = .ok (.aload_n 0, 1) := by decide +kernel
theorem d_M_open_32 : decode b_M_open 32 = .ok (.getfield 85, 3) := by decide +kernel
theorem d_M_open_35 : decode b_M_open 35 = .ok (.if_icmp .ge 36, 3) := by decide +kernel
theorem d_M_open_38 : decode b_M_open 38 = .ok (.iload_n 2, 1) := by decide +kernel
theorem d_M_open_39 : decode b_M_open 39 = .ok (.aload_n 0, 1) := by decide +kernel
theorem d_M_open_40 : decode b_M_open 40 = .ok (.getfield 94, 3) := by decide +kernel
theorem d_M_open_43 : decode b_M_open 43 = .ok (.iload_n 3, 1) := by decide +kernel
theorem d_M_open_44 : decode b_M_open 44 = .ok (.baload, 1) := by decide +kernel
theorem d_M_open_45 : decode b_M_open 45 = .ok (.ifCond .eq 17, 3) := by decide +kernel
theorem d_M_open_48 : decode b_M_open 48 = .ok (.aload_n 0, 1) := by decide +kernel
theorem d_M_open_49 : decode b_M_open 49 = .ok (.getfield 88, 3) := by decide +kernel
theorem d_M_open_52 : decode b_M_open 52 = .ok (.iload_n 3, 1) := by decide +kernel
theorem d_M_open_53 : decode b_M_open 53 = .ok (.iaload, 1) := by decide +kernel
theorem d_M_open_54 : decode b_M_open 54 = .ok (.iload_n 1, 1) := by decide +kernel
theorem d_M_open_55 : decode b_M_open 55 = .ok (.if_icmp .ne 7, 3) := by decide +kernel
theorem d_M_open_58 : decode b_M_open 58 = .ok (.iconst 1, 1) := by decide +kernel
theorem d_M_open_59 : decode b_M_open 59 = .ok (.goto 4, 3) := by decide +kernel
theorem d_M_open_62 : decode b_M_open 62 = .ok (.iconst 0, 1) := by decide +kernel
theorem d_M_open_63 : decode b_M_open 63 = .ok (.iadd, 1) := by decide +kernel
theorem d_M_open_64 : decode b_M_open 64 = .ok (.istore_n 2, 1) := by decide +kernel
theorem d_M_open_65 : decode b_M_open 65 = .ok (.iinc 3 1, 3) := by decide +kernel
theorem d_M_open_68 : decode b_M_open 68 = .ok (.goto (-38), 3) := by decide +kernel
theorem d_M_open_71 : decode b_M_open 71 = .ok (.aload_n 0, 1) := by decide +kernel
theorem d_M_open_72 : decode b_M_open 72 = .ok (.iload_n 1, 1) := by decide +kernel
theorem d_M_open_73 : decode b_M_open 73 = .ok (.invokevirtual 128, 3) := by decide +kernel
theorem d_M_open_76 : decode b_M_open 76 = .ok (.ifCond .eq 17, 3) := by decide +kernel
theorem d_M_open_79 : decode b_M_open 79 = .ok (.iload_n 2, 1) := by decide +kernel
theorem d_M_open_80 : decode b_M_open 80 = .ok (.iconst 3, 1) := by decide +kernel
theorem d_M_open_81 : decode b_M_open 81 = .ok (.if_icmp .eq 12, 3) := by decide +kernel
theorem d_M_open_84 : decode b_M_open 84 = .ok (.aload_n 0, 1) := by decide +kernel
theorem d_M_open_85 : decode b_M_open 85 = .ok (.getfield 85, 3) := by decide +kernel
theorem d_M_open_88 : decode b_M_open 88 = .ok (.bipush 40, 2) := by decide +kernel
theorem d_M_open_90 : decode b_M_open 90 = .ok (.if_icmp .ne 10, 3) := by decide +kernel
theorem d_M_open_93 : decode b_M_open 93 = .ok (.aload_n 0, 1) := by decide +kernel
theorem d_M_open_94 : decode b_M_open 94 = .ok (.iconst 2, 1) := by decide +kernel
theorem d_M_open_95 : decode b_M_open 95 = .ok (.putfield 7, 3) := by decide +kernel
theorem d_M_open_98 : decode b_M_open 98 = .ok (.iconst 0, 1) := by decide +kernel
theorem d_M_open_99 : decode b_M_open 99 = .ok (.ireturn, 1) := by decide +kernel
theorem d_M_open_100 : decode b_M_open 100 = .ok (.aload_n 0, 1) := by decide +kernel
theorem d_M_open_101 : decode b_M_open 101 = .ok (.getfield 88, 3) := by decide +kernel
theorem d_M_open_104 : decode b_M_open 104 = .ok (.aload_n 0, 1) := by decide +kernel
theorem d_M_open_105 : decode b_M_open 105 = .ok (.getfield 85, 3) := by decide +kernel
theorem d_M_open_108 : decode b_M_open 108 = .ok (.iload_n 1, 1) := by decide +kernel
theorem d_M_open_109 : decode b_M_open 109 = .ok (.iastore, 1) := by decide +kernel
theorem d_M_open_110 : decode b_M_open 110 = .ok (.aload_n 0, 1) := by decide +kernel
theorem d_M_open_111 : decode b_M_open 111 = .ok (.getfield 91, 3) := by decide +kernel
theorem d_M_open_114 : decode b_M_open 114 = .ok (.aload_n 0, 1) := by decide +kernel
theorem d_M_open_115 : decode b_M_open 115 = .ok (.getfield 85, 3) := by decide +kernel
theorem d_M_open_118 : decode b_M_open 118 = .ok (.aload_n 0, 1) := by decide +kernel
theorem d_M_open_119 : decode b_M_open 119 = .ok (.iload_n 1, 1) := by decide +kernel
theorem d_M_open_120 : decode b_M_open 120 = .ok (.invokevirtual 128, 3) := by decide +kernel
theorem d_M_open_123 : decode b_M_open 123 = .ok (.iastore, 1) := by decide +kernel
theorem d_M_open_124 : decode b_M_open 124 = .ok (.aload_n 0, 1) := by decide +kernel
theorem d_M_open_125 : decode b_M_open 125 = .ok (.getfield 94, 3) := by decide +kernel
theorem d_M_open_128 : decode b_M_open 128 = .ok (.aload_n 0, 1) := by decide +kernel
theorem d_M_open_129 : decode b_M_open 129 = .ok (.getfield 85, 3) := by decide +kernel
theorem d_M_open_132 : decode b_M_open 132 = .ok (.iconst 1, 1) := by decide +kernel
theorem d_M_open_133 : decode b_M_open 133 = .ok (.bastore, 1) := by decide +kernel
theorem d_M_open_134 : decode b_M_open 134 = .ok (.aload_n 0, 1) := by decide +kernel
theorem d_M_open_135 : decode b_M_open 135 = .ok (.dup, 1) := by decide +kernel
theorem d_M_open_136 : decode b_M_open 136 = .ok (.getfield 85, 3) := by decide +kernel
theorem d_M_open_139 : decode b_M_open 139 = .ok (.iconst 1, 1) := by decide +kernel
theorem d_M_open_140 : decode b_M_open 140 = .ok (.iadd, 1) := by decide +kernel
theorem d_M_open_141 : decode b_M_open 141 = .ok (.putfield 85, 3) := by decide +kernel
theorem d_M_open_144 : decode b_M_open 144 = .ok (.aload_n 0, 1) := by decide +kernel
theorem d_M_open_145 : decode b_M_open 145 = .ok (.getfield 85, 3) := by decide +kernel
theorem d_M_open_148 : decode b_M_open 148 = .ok (.iconst 1, 1) := by decide +kernel
theorem d_M_open_149 : decode b_M_open 149 = .ok (.isub, 1) := by decide +kernel
theorem d_M_open_150 : decode b_M_open 150 = .ok (.ireturn, 1) := by decide +kernel

set_option maxHeartbeats 4000000 in
set_option maxRecDepth 100000 in
theorem c_M_ready_x1 (l : Launch) (Z : qZ) (hZ : qok (pX Z)) (V : qV) (Y : qY) (t : Int32) (h : ¬ g_not t 4 = 0) : CT l y_M_ready { frames := 2, cells := 0, slots := 0, locals := 64 } (pX Z) (qA (pX Z)) [.ref (al Z 20 0), .int t] V Y (.inl (some (.int 0))) (qv V 20 0 0 1) Y := by
  refine CT.of (cc := b_M_ready) (maxL := 2) (ret := (some .int)) hZ (by decide) w_812 (Nat.le_of_ble_eq_true rfl) ?_
  intro p e s m below meth c C hr hex hlt
  refine gq_aload_n C d_M_ready_0 rfl ?_
  refine gq_iload_n C d_M_ready_1 rfl ?_
  refine gq_iconst C (v := 4) d_M_ready_2 (by decide) ?_
  refine gq_callS C (st := [.ref (al Z 20 0)]) (fun _ h => h.elim) (c_M_not l Z hZ _ _ t 4) w_761 w_762 w_763 w_9 ⟨by decide, by decide, (by decide +kernel : (parseMethodDescriptor y_M_not.desc).map (fun d => d.parameters.length) = some 2)⟩ ⟨by decide, by decide⟩ ⟨by decide, by decide⟩ rfl (Nat.le_of_ble_eq_true rfl) d_M_ready_3 ?_
  refine gq_if_eq C (tgt := 13) d_M_ready_6 rfl (fun hb => by first | contradiction | contradiction) (fun hb6 => ?_)
  refine gq_iconst C (v := 1) d_M_ready_9 (by decide) ?_
  refine gq_goto C (tgt := 27) d_M_ready_10 rfl ?_
  refine gq_put C (fun _ h => h) (g := 20) (j := 0) (ci := 8) (k := 0) ft_M k_M n_M (qm (by decide) (by decide)) rfl rfl in_M (by decide) w_661 rfl (k_M 0 (by decide)) rfl rfl (Nat.le_of_ble_eq_true rfl) rfl d_M_ready_27 ?_
  refine gq_aload_n C d_M_ready_30 rfl ?_
  refine gq_get C (g := 20) (j := 0) (ci := 8) (k := 0) (v := .int 1) (qm (by decide) (by decide)) rfl rfl in_M (by decide) w_661 rfl d_M_ready_31 ?_
  refine gq_if_eq C (tgt := 39) d_M_ready_34 rfl (fun hb => by exact absurd hb (by decide)) (fun hb34 => ?_)
  refine gq_iconst C (v := 0) d_M_ready_37 (by decide) ?_
  exact gq_iretE C hr rfl rfl rfl (by decide) (by decide) d_M_ready_38

set_option maxHeartbeats 4000000 in
set_option maxRecDepth 100000 in
theorem c_M_ask_x1 (l : Launch) (Z : qZ) (hZ : qok (pX Z)) (V : qV) (Y : qY) (t : Int32) (h : ¬ g_not t 4 = 0) : CT l y_M_ask { frames := 2, cells := 0, slots := 0, locals := 64 } (pX Z) (qA (pX Z)) [.ref (al Z 20 0), .int t] V Y (.inl (some (.int 0))) (qv V 20 0 0 1) Y := by
  refine CT.of (cc := b_M_ask) (maxL := 2) (ret := (some .int)) hZ (by decide) w_816 (Nat.le_of_ble_eq_true rfl) ?_
  intro p e s m below meth c C hr hex hlt
  refine gq_aload_n C d_M_ask_0 rfl ?_
  refine gq_iload_n C d_M_ask_1 rfl ?_
  refine gq_iconst C (v := 4) d_M_ask_2 (by decide) ?_
  refine gq_callS C (st := [.ref (al Z 20 0)]) (fun _ h => h.elim) (c_M_not l Z hZ _ _ t 4) w_761 w_762 w_763 w_9 ⟨by decide, by decide, (by decide +kernel : (parseMethodDescriptor y_M_not.desc).map (fun d => d.parameters.length) = some 2)⟩ ⟨by decide, by decide⟩ ⟨by decide, by decide⟩ rfl (Nat.le_of_ble_eq_true rfl) d_M_ask_3 ?_
  refine gq_if_eq C (tgt := 13) d_M_ask_6 rfl (fun hb => by first | contradiction | contradiction) (fun hb6 => ?_)
  refine gq_iconst C (v := 1) d_M_ask_9 (by decide) ?_
  refine gq_goto C (tgt := 14) d_M_ask_10 rfl ?_
  refine gq_put C (fun _ h => h) (g := 20) (j := 0) (ci := 8) (k := 0) ft_M k_M n_M (qm (by decide) (by decide)) rfl rfl in_M (by decide) w_661 rfl (k_M 0 (by decide)) rfl rfl (Nat.le_of_ble_eq_true rfl) rfl d_M_ask_14 ?_
  refine gq_aload_n C d_M_ask_17 rfl ?_
  refine gq_get C (g := 20) (j := 0) (ci := 8) (k := 0) (v := .int 1) (qm (by decide) (by decide)) rfl rfl in_M (by decide) w_661 rfl d_M_ask_18 ?_
  refine gq_if_eq C (tgt := 26) d_M_ask_21 rfl (fun hb => by exact absurd hb (by decide)) (fun hb21 => ?_)
  refine gq_iconst C (v := 0) d_M_ask_24 (by decide) ?_
  exact gq_iretE C hr rfl rfl rfl (by decide) (by decide) d_M_ask_25

set_option maxHeartbeats 4000000 in
set_option maxRecDepth 100000 in
theorem c_M_giveUp_x1 (l : Launch) (Z : qZ) (hZ : qok (pX Z)) (V : qV) (Y : qY) (t : Int32) (h : ¬ g_not t 4 = 0) : CT l y_M_giveUp { frames := 2, cells := 0, slots := 0, locals := 64 } (pX Z) (qA (pX Z)) [.ref (al Z 20 0), .int t] V Y (.inl none) (qv V 20 0 0 1) Y := by
  refine CT.of (cc := b_M_giveUp) (maxL := 2) (ret := none) hZ (by decide) w_820 (Nat.le_of_ble_eq_true rfl) ?_
  intro p e s m below meth c C hr hex hlt
  refine gq_aload_n C d_M_giveUp_0 rfl ?_
  refine gq_iload_n C d_M_giveUp_1 rfl ?_
  refine gq_iconst C (v := 4) d_M_giveUp_2 (by decide) ?_
  refine gq_callS C (st := [.ref (al Z 20 0)]) (fun _ h => h.elim) (c_M_not l Z hZ _ _ t 4) w_761 w_762 w_763 w_9 ⟨by decide, by decide, (by decide +kernel : (parseMethodDescriptor y_M_not.desc).map (fun d => d.parameters.length) = some 2)⟩ ⟨by decide, by decide⟩ ⟨by decide, by decide⟩ rfl (Nat.le_of_ble_eq_true rfl) d_M_giveUp_3 ?_
  refine gq_if_eq C (tgt := 13) d_M_giveUp_6 rfl (fun hb => by first | contradiction | contradiction) (fun hb6 => ?_)
  refine gq_iconst C (v := 1) d_M_giveUp_9 (by decide) ?_
  refine gq_goto C (tgt := 27) d_M_giveUp_10 rfl ?_
  refine gq_put C (fun _ h => h) (g := 20) (j := 0) (ci := 8) (k := 0) ft_M k_M n_M (qm (by decide) (by decide)) rfl rfl in_M (by decide) w_661 rfl (k_M 0 (by decide)) rfl rfl (Nat.le_of_ble_eq_true rfl) rfl d_M_giveUp_27 ?_
  refine gq_aload_n C d_M_giveUp_30 rfl ?_
  refine gq_get C (g := 20) (j := 0) (ci := 8) (k := 0) (v := .int 1) (qm (by decide) (by decide)) rfl rfl in_M (by decide) w_661 rfl d_M_giveUp_31 ?_
  refine gq_if_eq C (tgt := 38) d_M_giveUp_34 rfl (fun hb => by exact absurd hb (by decide)) (fun hb34 => ?_)
  exact gq_vretE C hr rfl rfl (by decide) (by decide) d_M_giveUp_37

set_option maxHeartbeats 4000000 in
set_option maxRecDepth 100000 in
theorem c_M_lease_x1 (l : Launch) (Z : qZ) (hZ : qok (pX Z)) (V : qV) (Y : qY) (t : Int32) (h : ¬ g_not t 4 = 0) : CT l y_M_lease { frames := 3, cells := 0, slots := 0, locals := 84 } (pX Z) (qA (pX Z)) [.ref (al Z 20 0), .int t] V Y (.inl (some (.int 0))) (qv V 20 0 0 1) Y := by
  refine CT.of (cc := b_M_lease) (maxL := 2) (ret := (some .int)) hZ (by decide) w_824 (Nat.le_of_ble_eq_true rfl) ?_
  intro p e s m below meth c C hr hex hlt
  refine gq_aload_n C d_M_lease_0 rfl ?_
  refine gq_iload_n C d_M_lease_1 rfl ?_
  refine gq_iconst C (v := 4) d_M_lease_2 (by decide) ?_
  refine gq_callS C (st := [.ref (al Z 20 0)]) (fun _ h => h.elim) (c_M_not l Z hZ _ _ t 4) w_761 w_762 w_763 w_9 ⟨by decide, by decide, (by decide +kernel : (parseMethodDescriptor y_M_not.desc).map (fun d => d.parameters.length) = some 2)⟩ ⟨by decide, by decide⟩ ⟨by decide, by decide⟩ rfl (Nat.le_of_ble_eq_true rfl) d_M_lease_3 ?_
  refine gq_if_eq C (tgt := 13) d_M_lease_6 rfl (fun hb => by first | contradiction | contradiction) (fun hb6 => ?_)
  refine gq_iconst C (v := 1) d_M_lease_9 (by decide) ?_
  refine gq_goto C (tgt := 14) d_M_lease_10 rfl ?_
  refine gq_put C (fun _ h => h) (g := 20) (j := 0) (ci := 8) (k := 0) ft_M k_M n_M (qm (by decide) (by decide)) rfl rfl in_M (by decide) w_661 rfl (k_M 0 (by decide)) rfl rfl (Nat.le_of_ble_eq_true rfl) rfl d_M_lease_14 ?_
  refine gq_aload_n C d_M_lease_17 rfl ?_
  refine gq_get C (g := 20) (j := 0) (ci := 8) (k := 0) (v := .int 1) (qm (by decide) (by decide)) rfl rfl in_M (by decide) w_661 rfl d_M_lease_18 ?_
  refine gq_if_eq C (tgt := 28) d_M_lease_21 rfl (fun hb => by exact absurd hb (by decide)) (fun hb21 => ?_)
  refine gq_iconst C (v := 0) d_M_lease_24 (by decide) ?_
  refine gq_goto C (tgt := 33) d_M_lease_25 rfl ?_
  exact gq_iretE C hr rfl rfl rfl (by decide) (by decide) d_M_lease_33

set_option maxHeartbeats 4000000 in
set_option maxRecDepth 100000 in
theorem c_M_loaded_x1 (l : Launch) (Z : qZ) (hZ : qok (pX Z)) (V : qV) (Y : qY) (t : Int32) (h : ¬ g_not t 4 = 0) : CT l y_M_loaded { frames := 2, cells := 0, slots := 0, locals := 61 } (pX Z) (qA (pX Z)) [.ref (al Z 20 0), .int t] V Y (.inl (some (.int 0))) (qv V 20 0 0 1) Y := by
  refine CT.of (cc := b_M_loaded) (maxL := 2) (ret := (some .int)) hZ (by decide) w_832 (Nat.le_of_ble_eq_true rfl) ?_
  intro p e s m below meth c C hr hex hlt
  refine gq_aload_n C d_M_loaded_0 rfl ?_
  refine gq_iload_n C d_M_loaded_1 rfl ?_
  refine gq_iconst C (v := 4) d_M_loaded_2 (by decide) ?_
  refine gq_callS C (st := [.ref (al Z 20 0)]) (fun _ h => h.elim) (c_M_not l Z hZ _ _ t 4) w_761 w_762 w_763 w_9 ⟨by decide, by decide, (by decide +kernel : (parseMethodDescriptor y_M_not.desc).map (fun d => d.parameters.length) = some 2)⟩ ⟨by decide, by decide⟩ ⟨by decide, by decide⟩ rfl (Nat.le_of_ble_eq_true rfl) d_M_loaded_3 ?_
  refine gq_if_eq C (tgt := 13) d_M_loaded_6 rfl (fun hb => by first | contradiction | contradiction) (fun hb6 => ?_)
  refine gq_iconst C (v := 1) d_M_loaded_9 (by decide) ?_
  refine gq_goto C (tgt := 14) d_M_loaded_10 rfl ?_
  refine gq_put C (fun _ h => h) (g := 20) (j := 0) (ci := 8) (k := 0) ft_M k_M n_M (qm (by decide) (by decide)) rfl rfl in_M (by decide) w_661 rfl (k_M 0 (by decide)) rfl rfl (Nat.le_of_ble_eq_true rfl) rfl d_M_loaded_14 ?_
  refine gq_aload_n C d_M_loaded_17 rfl ?_
  refine gq_get C (g := 20) (j := 0) (ci := 8) (k := 0) (v := .int 1) (qm (by decide) (by decide)) rfl rfl in_M (by decide) w_661 rfl d_M_loaded_18 ?_
  refine gq_if_eq C (tgt := 28) d_M_loaded_21 rfl (fun hb => by exact absurd hb (by decide)) (fun hb21 => ?_)
  refine gq_iconst C (v := 0) d_M_loaded_24 (by decide) ?_
  refine gq_goto C (tgt := 34) d_M_loaded_25 rfl ?_
  exact gq_iretE C hr rfl rfl rfl (by decide) (by decide) d_M_loaded_34

set_option maxHeartbeats 4000000 in
set_option maxRecDepth 100000 in
theorem c_M_fetch_x1 (l : Launch) (Z : qZ) (hZ : qok (pX Z)) (V : qV) (Y : qY) (t : Int32) (h : ¬ g_not t 4 = 0) : CT l y_M_fetch { frames := 2, cells := 0, slots := 0, locals := 64 } (pX Z) (qA (pX Z)) [.ref (al Z 20 0), .int t] V Y (.inl (some (.int 0))) (qv V 20 0 0 1) Y := by
  refine CT.of (cc := b_M_fetch) (maxL := 3) (ret := (some .int)) hZ (by decide) w_808 (Nat.le_of_ble_eq_true rfl) ?_
  intro p e s m below meth c C hr hex hlt
  refine gq_aload_n C d_M_fetch_0 rfl ?_
  refine gq_iload_n C d_M_fetch_1 rfl ?_
  refine gq_iconst C (v := 4) d_M_fetch_2 (by decide) ?_
  refine gq_callS C (st := [.ref (al Z 20 0)]) (fun _ h => h.elim) (c_M_not l Z hZ _ _ t 4) w_761 w_762 w_763 w_9 ⟨by decide, by decide, (by decide +kernel : (parseMethodDescriptor y_M_not.desc).map (fun d => d.parameters.length) = some 2)⟩ ⟨by decide, by decide⟩ ⟨by decide, by decide⟩ rfl (Nat.le_of_ble_eq_true rfl) d_M_fetch_3 ?_
  refine gq_if_eq C (tgt := 13) d_M_fetch_6 rfl (fun hb => by first | contradiction | contradiction) (fun hb6 => ?_)
  refine gq_iconst C (v := 1) d_M_fetch_9 (by decide) ?_
  refine gq_goto C (tgt := 14) d_M_fetch_10 rfl ?_
  refine gq_put C (fun _ h => h) (g := 20) (j := 0) (ci := 8) (k := 0) ft_M k_M n_M (qm (by decide) (by decide)) rfl rfl in_M (by decide) w_661 rfl (k_M 0 (by decide)) rfl rfl (Nat.le_of_ble_eq_true rfl) rfl d_M_fetch_14 ?_
  refine gq_aload_n C d_M_fetch_17 rfl ?_
  refine gq_get C (g := 20) (j := 0) (ci := 8) (k := 0) (v := .int 1) (qm (by decide) (by decide)) rfl rfl in_M (by decide) w_661 rfl d_M_fetch_18 ?_
  refine gq_if_eq C (tgt := 26) d_M_fetch_21 rfl (fun hb => by exact absurd hb (by decide)) (fun hb21 => ?_)
  refine gq_iconst C (v := 0) d_M_fetch_24 (by decide) ?_
  exact gq_iretE C hr rfl rfl rfl (by decide) (by decide) d_M_fetch_25

set_option maxHeartbeats 4000000 in
set_option maxRecDepth 100000 in
theorem c_M_open_x1 (l : Launch) (Z : qZ) (hZ : qok (pX Z)) (V : qV) (Y : qY) (t : Int32) (h : ¬ g_not t 4 = 0) : CT l y_M_open { frames := 3, cells := 0, slots := 0, locals := 84 } (pX Z) (qA (pX Z)) [.ref (al Z 20 0), .int t] V Y (.inl (some (.int 0))) (qv V 20 0 0 1) Y := by
  refine CT.of (cc := b_M_open) (maxL := 4) (ret := (some .int)) hZ (by decide) w_868 (Nat.le_of_ble_eq_true rfl) ?_
  intro p e s m below meth c C hr hex hlt
  refine gq_aload_n C d_M_open_0 rfl ?_
  refine gq_iload_n C d_M_open_1 rfl ?_
  refine gq_iconst C (v := 4) d_M_open_2 (by decide) ?_
  refine gq_callS C (st := [.ref (al Z 20 0)]) (fun _ h => h.elim) (c_M_not l Z hZ _ _ t 4) w_761 w_762 w_763 w_9 ⟨by decide, by decide, (by decide +kernel : (parseMethodDescriptor y_M_not.desc).map (fun d => d.parameters.length) = some 2)⟩ ⟨by decide, by decide⟩ ⟨by decide, by decide⟩ rfl (Nat.le_of_ble_eq_true rfl) d_M_open_3 ?_
  refine gq_if_eq C (tgt := 13) d_M_open_6 rfl (fun hb => by first | contradiction | contradiction) (fun hb6 => ?_)
  refine gq_iconst C (v := 1) d_M_open_9 (by decide) ?_
  refine gq_goto C (tgt := 14) d_M_open_10 rfl ?_
  refine gq_put C (fun _ h => h) (g := 20) (j := 0) (ci := 8) (k := 0) ft_M k_M n_M (qm (by decide) (by decide)) rfl rfl in_M (by decide) w_661 rfl (k_M 0 (by decide)) rfl rfl (Nat.le_of_ble_eq_true rfl) rfl d_M_open_14 ?_
  refine gq_aload_n C d_M_open_17 rfl ?_
  refine gq_get C (g := 20) (j := 0) (ci := 8) (k := 0) (v := .int 1) (qm (by decide) (by decide)) rfl rfl in_M (by decide) w_661 rfl d_M_open_18 ?_
  refine gq_if_eq C (tgt := 26) d_M_open_21 rfl (fun hb => by exact absurd hb (by decide)) (fun hb21 => ?_)
  refine gq_iconst C (v := 0) d_M_open_24 (by decide) ?_
  exact gq_iretE C hr rfl rfl rfl (by decide) (by decide) d_M_open_25

set_option maxHeartbeats 4000000 in
set_option maxRecDepth 100000 in
theorem c_M_ready (l : Launch) (Z : qZ) (hZ : qok (pX Z)) (V : qV) (Y : qY) (t : Nat) (ht : t < 4) (h1 : g_not (nI t) 4 = 0) (h2 : ¬ V 26 0 t = 0) (hc : ∃ q, q ≤ 40 ∧ V 20 0 22 = nI q) : CT l y_M_ready { frames := 2, cells := 0, slots := 0, locals := 64 } (pX Z) (qA (pX Z)) [.ref (al Z 20 0), .int (nI t)] V Y (.inl (some (.int (V 26 0 t)))) (g_put (qv (qv V 20 0 0 0) 27 0 t (V 26 0 t)) 3 (nI t) (V 26 0 t) 0) Y := by
  refine CT.of (cc := b_M_ready) (maxL := 2) (ret := (some .int)) hZ (by decide) w_812 (Nat.le_of_ble_eq_true rfl) ?_
  intro p e s m below meth c C hr hex hlt
  refine gq_aload_n C d_M_ready_0 rfl ?_
  refine gq_iload_n C d_M_ready_1 rfl ?_
  refine gq_iconst C (v := 4) d_M_ready_2 (by decide) ?_
  refine gq_callS C (st := [.ref (al Z 20 0)]) (fun _ h => h.elim) (c_M_not l Z hZ _ _ (nI t) 4) w_761 w_762 w_763 w_9 ⟨by decide, by decide, (by decide +kernel : (parseMethodDescriptor y_M_not.desc).map (fun d => d.parameters.length) = some 2)⟩ ⟨by decide, by decide⟩ ⟨by decide, by decide⟩ rfl (Nat.le_of_ble_eq_true rfl) d_M_ready_3 ?_
  refine gq_if_eq C (tgt := 13) d_M_ready_6 rfl (fun hb6 => ?_) (fun hb => by exact absurd h1 hb)
  refine gq_aload_n C d_M_ready_13 rfl ?_
  refine gq_get C (g := 20) (j := 0) (ci := 8) (k := 7) (v := .ref (al Z 26 0)) (qm (by decide) (by decide)) rfl rfl in_M (by decide) w_668 rfl d_M_ready_14 ?_
  refine gq_iload_n C d_M_ready_17 rfl ?_
  refine gq_iald C (g := 26) (j := 0) (a := t) (t0 := 0) (qm (by decide) (by decide)) rfl rfl rfl ht (by decide) d_M_ready_18 ?_
  refine gq_if_ne C (tgt := 26) d_M_ready_19 rfl (fun hb19 => ?_) (fun hb => by exact absurd hb h2)
  refine gq_iconst C (v := 0) d_M_ready_26 (by decide) ?_
  refine gq_put C (fun _ h => h) (g := 20) (j := 0) (ci := 8) (k := 0) ft_M k_M n_M (qm (by decide) (by decide)) rfl rfl in_M (by decide) w_661 rfl (k_M 0 (by decide)) rfl rfl (Nat.le_of_ble_eq_true rfl) rfl d_M_ready_27 ?_
  refine gq_aload_n C d_M_ready_30 rfl ?_
  refine gq_get C (g := 20) (j := 0) (ci := 8) (k := 0) (v := .int 0) (qm (by decide) (by decide)) rfl rfl in_M (by decide) w_661 rfl d_M_ready_31 ?_
  refine gq_if_eq C (tgt := 39) d_M_ready_34 rfl (fun hb34 => ?_) (fun hb => by exact absurd hb (by decide))
  refine gq_aload_n C d_M_ready_39 rfl ?_
  refine gq_get C (g := 20) (j := 0) (ci := 8) (k := 8) (v := .ref (al Z 27 0)) (qm (by decide) (by decide)) rfl rfl in_M (by decide) w_669 rfl d_M_ready_40 ?_
  refine gq_iload_n C d_M_ready_43 rfl ?_
  refine gq_aload_n C d_M_ready_44 rfl ?_
  refine gq_get C (g := 20) (j := 0) (ci := 8) (k := 7) (v := .ref (al Z 26 0)) (qm (by decide) (by decide)) rfl rfl in_M (by decide) w_668 rfl d_M_ready_45 ?_
  refine gq_iload_n C d_M_ready_48 rfl ?_
  refine gq_iald C (g := 26) (j := 0) (a := t) (t0 := 0) (qm (by decide) (by decide)) rfl rfl rfl ht (by decide) d_M_ready_49 ?_
  refine G.eqS (st' := [.int (V 26 0 t), .int (nI t), .ref (al Z 27 0)]) rfl ?_
  refine gq_iast C (fun _ h => h) (g := 27) (j := 0) (a := t) (t0 := 0) (qm (by decide) (by decide)) (fun _ => rfl) rfl rfl ht (by decide) d_M_ready_50 ?_
  refine gq_aload_n C d_M_ready_51 rfl ?_
  refine gq_iconst C (v := 3) d_M_ready_52 (by decide) ?_
  refine gq_iload_n C d_M_ready_53 rfl ?_
  refine gq_aload_n C d_M_ready_54 rfl ?_
  refine gq_get C (g := 20) (j := 0) (ci := 8) (k := 7) (v := .ref (al Z 26 0)) (qm (by decide) (by decide)) rfl rfl in_M (by decide) w_668 rfl d_M_ready_55 ?_
  refine gq_iload_n C d_M_ready_58 rfl ?_
  refine gq_iald C (g := 26) (j := 0) (a := t) (t0 := 0) (qm (by decide) (by decide)) rfl rfl rfl ht (by decide) d_M_ready_59 ?_
  refine G.eqS (st' := [.int (V 26 0 t), .int (nI t), .int 3, .ref (al Z 20 0)]) rfl ?_
  refine gq_iconst C (v := 0) d_M_ready_60 (by decide) ?_
  refine gq_callV C (st := []) (fun _ h => h) (c_M_put l Z hZ _ _ (g_cnt2 hc (by simp [qv_at])) 3 (nI t) (V 26 0 t) 0) (qm (by decide) (by decide)) rfl rfl w_773 w_775 ws_M_post w_776 w_9 ⟨by decide, by decide, (by decide +kernel : (parseMethodDescriptor y_M_post.desc).map (fun d => d.parameters.length) = some 4)⟩ ⟨by decide, by decide⟩ ⟨by decide, by decide⟩ rfl (Nat.le_of_ble_eq_true rfl) d_M_ready_61 ?_
  refine gq_aload_n C d_M_ready_64 rfl ?_
  refine gq_get C (g := 20) (j := 0) (ci := 8) (k := 7) (v := .ref (al Z 26 0)) (qm (by decide) (by decide)) rfl rfl in_M (by decide) w_668 rfl d_M_ready_65 ?_
  refine gq_iload_n C d_M_ready_68 rfl ?_
  refine gq_iald C (g := 26) (j := 0) (a := t) (t0 := 0) (qm (by decide) (by decide)) rfl rfl rfl ht (by decide) d_M_ready_69 ?_
  refine G.eqS (st' := [.int (V 26 0 t)]) (by simp [qv_at, g_put_20, g_put_fr]) ?_
  exact gq_iret C hr (by decide) (by decide) d_M_ready_70

set_option maxHeartbeats 4000000 in
set_option maxRecDepth 100000 in
theorem c_M_ready_x2 (l : Launch) (Z : qZ) (hZ : qok (pX Z)) (V : qV) (Y : qY) (t : Nat) (ht : t < 4) (h1 : g_not (nI t) 4 = 0) (h2 : V 26 0 t = 0) : CT l y_M_ready { frames := 2, cells := 0, slots := 0, locals := 64 } (pX Z) (qA (pX Z)) [.ref (al Z 20 0), .int (nI t)] V Y (.inl (some (.int 0))) (qv V 20 0 0 2) Y := by
  refine CT.of (cc := b_M_ready) (maxL := 2) (ret := (some .int)) hZ (by decide) w_812 (Nat.le_of_ble_eq_true rfl) ?_
  intro p e s m below meth c C hr hex hlt
  refine gq_aload_n C d_M_ready_0 rfl ?_
  refine gq_iload_n C d_M_ready_1 rfl ?_
  refine gq_iconst C (v := 4) d_M_ready_2 (by decide) ?_
  refine gq_callS C (st := [.ref (al Z 20 0)]) (fun _ h => h.elim) (c_M_not l Z hZ _ _ (nI t) 4) w_761 w_762 w_763 w_9 ⟨by decide, by decide, (by decide +kernel : (parseMethodDescriptor y_M_not.desc).map (fun d => d.parameters.length) = some 2)⟩ ⟨by decide, by decide⟩ ⟨by decide, by decide⟩ rfl (Nat.le_of_ble_eq_true rfl) d_M_ready_3 ?_
  refine gq_if_eq C (tgt := 13) d_M_ready_6 rfl (fun hb6 => ?_) (fun hb => by exact absurd h1 hb)
  refine gq_aload_n C d_M_ready_13 rfl ?_
  refine gq_get C (g := 20) (j := 0) (ci := 8) (k := 7) (v := .ref (al Z 26 0)) (qm (by decide) (by decide)) rfl rfl in_M (by decide) w_668 rfl d_M_ready_14 ?_
  refine gq_iload_n C d_M_ready_17 rfl ?_
  refine gq_iald C (g := 26) (j := 0) (a := t) (t0 := 0) (qm (by decide) (by decide)) rfl rfl rfl ht (by decide) d_M_ready_18 ?_
  refine gq_if_ne C (tgt := 26) d_M_ready_19 rfl (fun hb => by exact absurd h2 hb) (fun hb19 => ?_)
  refine gq_iconst C (v := 2) d_M_ready_22 (by decide) ?_
  refine gq_goto C (tgt := 27) d_M_ready_23 rfl ?_
  refine gq_put C (fun _ h => h) (g := 20) (j := 0) (ci := 8) (k := 0) ft_M k_M n_M (qm (by decide) (by decide)) rfl rfl in_M (by decide) w_661 rfl (k_M 0 (by decide)) rfl rfl (Nat.le_of_ble_eq_true rfl) rfl d_M_ready_27 ?_
  refine gq_aload_n C d_M_ready_30 rfl ?_
  refine gq_get C (g := 20) (j := 0) (ci := 8) (k := 0) (v := .int 2) (qm (by decide) (by decide)) rfl rfl in_M (by decide) w_661 rfl d_M_ready_31 ?_
  refine gq_if_eq C (tgt := 39) d_M_ready_34 rfl (fun hb => by exact absurd hb (by decide)) (fun hb34 => ?_)
  refine gq_iconst C (v := 0) d_M_ready_37 (by decide) ?_
  exact gq_iretE C hr rfl rfl rfl (by decide) (by decide) d_M_ready_38

set_option maxHeartbeats 4000000 in
set_option maxRecDepth 100000 in
theorem c_M_ask (l : Launch) (Z : qZ) (hZ : qok (pX Z)) (V : qV) (Y : qY) (t : Nat) (ht : t < 4) (h1 : g_not (nI t) 4 = 0) (hc : ∃ q, q ≤ 40 ∧ V 20 0 22 = nI q) : CT l y_M_ask { frames := 2, cells := 0, slots := 0, locals := 64 } (pX Z) (qA (pX Z)) [.ref (al Z 20 0), .int (nI t)] V Y (.inl (some (.int ((V 28 0 t) + 1)))) (g_put (qv (qv (qv (qv (qv V 20 0 0 0) 28 0 t ((V 28 0 t) + 1)) 29 0 t 0) 31 0 t 0) 30 0 t ((V 24 0 t) / 100)) 1 (nI t) 0 ((V 28 0 t) + 1)) Y := by
  refine CT.of (cc := b_M_ask) (maxL := 2) (ret := (some .int)) hZ (by decide) w_816 (Nat.le_of_ble_eq_true rfl) ?_
  intro p e s m below meth c C hr hex hlt
  refine gq_aload_n C d_M_ask_0 rfl ?_
  refine gq_iload_n C d_M_ask_1 rfl ?_
  refine gq_iconst C (v := 4) d_M_ask_2 (by decide) ?_
  refine gq_callS C (st := [.ref (al Z 20 0)]) (fun _ h => h.elim) (c_M_not l Z hZ _ _ (nI t) 4) w_761 w_762 w_763 w_9 ⟨by decide, by decide, (by decide +kernel : (parseMethodDescriptor y_M_not.desc).map (fun d => d.parameters.length) = some 2)⟩ ⟨by decide, by decide⟩ ⟨by decide, by decide⟩ rfl (Nat.le_of_ble_eq_true rfl) d_M_ask_3 ?_
  refine gq_if_eq C (tgt := 13) d_M_ask_6 rfl (fun hb6 => ?_) (fun hb => by exact absurd h1 hb)
  refine gq_iconst C (v := 0) d_M_ask_13 (by decide) ?_
  refine gq_put C (fun _ h => h) (g := 20) (j := 0) (ci := 8) (k := 0) ft_M k_M n_M (qm (by decide) (by decide)) rfl rfl in_M (by decide) w_661 rfl (k_M 0 (by decide)) rfl rfl (Nat.le_of_ble_eq_true rfl) rfl d_M_ask_14 ?_
  refine gq_aload_n C d_M_ask_17 rfl ?_
  refine gq_get C (g := 20) (j := 0) (ci := 8) (k := 0) (v := .int 0) (qm (by decide) (by decide)) rfl rfl in_M (by decide) w_661 rfl d_M_ask_18 ?_
  refine gq_if_eq C (tgt := 26) d_M_ask_21 rfl (fun hb21 => ?_) (fun hb => by exact absurd hb (by decide))
  refine gq_aload_n C d_M_ask_26 rfl ?_
  refine gq_get C (g := 20) (j := 0) (ci := 8) (k := 9) (v := .ref (al Z 28 0)) (qm (by decide) (by decide)) rfl rfl in_M (by decide) w_670 rfl d_M_ask_27 ?_
  refine gq_iload_n C d_M_ask_30 rfl ?_
  refine gq_aload_n C d_M_ask_31 rfl ?_
  refine gq_get C (g := 20) (j := 0) (ci := 8) (k := 9) (v := .ref (al Z 28 0)) (qm (by decide) (by decide)) rfl rfl in_M (by decide) w_670 rfl d_M_ask_32 ?_
  refine gq_iload_n C d_M_ask_35 rfl ?_
  refine gq_iald C (g := 28) (j := 0) (a := t) (t0 := 0) (qm (by decide) (by decide)) rfl rfl rfl ht (by decide) d_M_ask_36 ?_
  refine G.eqS (st' := [.int (V 28 0 t), .int (nI t), .ref (al Z 28 0)]) rfl ?_
  refine gq_iconst C (v := 1) d_M_ask_37 (by decide) ?_
  refine gq_iadd C d_M_ask_38 ?_
  refine gq_iast C (fun _ h => h) (g := 28) (j := 0) (a := t) (t0 := 0) (qm (by decide) (by decide)) (fun _ => rfl) rfl rfl ht (by decide) d_M_ask_39 ?_
  refine gq_aload_n C d_M_ask_40 rfl ?_
  refine gq_get C (g := 20) (j := 0) (ci := 8) (k := 10) (v := .ref (al Z 29 0)) (qm (by decide) (by decide)) rfl rfl in_M (by decide) w_671 rfl d_M_ask_41 ?_
  refine gq_iload_n C d_M_ask_44 rfl ?_
  refine gq_iconst C (v := 0) d_M_ask_45 (by decide) ?_
  refine gq_zast C (fun _ h => h) (g := 29) (j := 0) (a := t) (t0 := 2) (qm (by decide) (by decide)) (fun _ => rfl) rfl rfl ht (by decide) rfl d_M_ask_46 ?_
  refine gq_aload_n C d_M_ask_47 rfl ?_
  refine gq_get C (g := 20) (j := 0) (ci := 8) (k := 12) (v := .ref (al Z 31 0)) (qm (by decide) (by decide)) rfl rfl in_M (by decide) w_673 rfl d_M_ask_48 ?_
  refine gq_iload_n C d_M_ask_51 rfl ?_
  refine gq_iconst C (v := 0) d_M_ask_52 (by decide) ?_
  refine gq_iast C (fun _ h => h) (g := 31) (j := 0) (a := t) (t0 := 0) (qm (by decide) (by decide)) (fun _ => rfl) rfl rfl ht (by decide) d_M_ask_53 ?_
  refine gq_aload_n C d_M_ask_54 rfl ?_
  refine gq_get C (g := 20) (j := 0) (ci := 8) (k := 11) (v := .ref (al Z 30 0)) (qm (by decide) (by decide)) rfl rfl in_M (by decide) w_672 rfl d_M_ask_55 ?_
  refine gq_iload_n C d_M_ask_58 rfl ?_
  refine gq_aload_n C d_M_ask_59 rfl ?_
  refine gq_iload_n C d_M_ask_60 rfl ?_
  refine gq_callV C (st := [.int (nI t), .ref (al Z 30 0)]) (fun _ h => h.elim) (c_M_clock l Z hZ _ _ t (Nat.lt_trans ht (by decide))) (qm (by decide) (by decide)) rfl rfl w_785 w_787 ws_M_clock w_788 w_9 ⟨by decide, by decide, (by decide +kernel : (parseMethodDescriptor y_M_clock.desc).map (fun d => d.parameters.length) = some 1)⟩ ⟨by decide, by decide⟩ ⟨by decide, by decide⟩ rfl (Nat.le_of_ble_eq_true rfl) d_M_ask_61 ?_
  refine G.eqS (st' := [.int ((V 24 0 t) / 100), .int (nI t), .ref (al Z 30 0)]) rfl ?_
  refine gq_iast C (fun _ h => h) (g := 30) (j := 0) (a := t) (t0 := 0) (qm (by decide) (by decide)) (fun _ => rfl) rfl rfl ht (by decide) d_M_ask_64 ?_
  refine gq_aload_n C d_M_ask_65 rfl ?_
  refine gq_iconst C (v := 1) d_M_ask_66 (by decide) ?_
  refine gq_iload_n C d_M_ask_67 rfl ?_
  refine gq_iconst C (v := 0) d_M_ask_68 (by decide) ?_
  refine gq_aload_n C d_M_ask_69 rfl ?_
  refine gq_get C (g := 20) (j := 0) (ci := 8) (k := 9) (v := .ref (al Z 28 0)) (qm (by decide) (by decide)) rfl rfl in_M (by decide) w_670 rfl d_M_ask_70 ?_
  refine gq_iload_n C d_M_ask_73 rfl ?_
  refine gq_iald C (g := 28) (j := 0) (a := t) (t0 := 0) (qm (by decide) (by decide)) rfl rfl rfl ht (by decide) d_M_ask_74 ?_
  refine G.eqS (st' := [.int ((V 28 0 t) + 1), .int 0, .int (nI t), .int 1, .ref (al Z 20 0)]) (by simp [qv_at]) ?_
  refine gq_callV C (st := []) (fun _ h => h) (c_M_put l Z hZ _ _ (g_cnt2 hc (by simp [qv_at])) 1 (nI t) 0 ((V 28 0 t) + 1)) (qm (by decide) (by decide)) rfl rfl w_773 w_775 ws_M_post w_776 w_9 ⟨by decide, by decide, (by decide +kernel : (parseMethodDescriptor y_M_post.desc).map (fun d => d.parameters.length) = some 4)⟩ ⟨by decide, by decide⟩ ⟨by decide, by decide⟩ rfl (Nat.le_of_ble_eq_true rfl) d_M_ask_75 ?_
  refine gq_aload_n C d_M_ask_78 rfl ?_
  refine gq_get C (g := 20) (j := 0) (ci := 8) (k := 9) (v := .ref (al Z 28 0)) (qm (by decide) (by decide)) rfl rfl in_M (by decide) w_670 rfl d_M_ask_79 ?_
  refine gq_iload_n C d_M_ask_82 rfl ?_
  refine gq_iald C (g := 28) (j := 0) (a := t) (t0 := 0) (qm (by decide) (by decide)) rfl rfl rfl ht (by decide) d_M_ask_83 ?_
  refine G.eqS (st' := [.int ((V 28 0 t) + 1)]) (by simp [qv_at, g_put_20, g_put_fr]) ?_
  exact gq_iret C hr (by decide) (by decide) d_M_ask_84

set_option maxHeartbeats 4000000 in
set_option maxRecDepth 100000 in
theorem c_M_giveUp (l : Launch) (Z : qZ) (hZ : qok (pX Z)) (V : qV) (Y : qY) (t : Nat) (ht : t < 4) (h1 : g_not (nI t) 4 = 0) (h2 : V 29 0 t = 0) (hc : ∃ q, q ≤ 40 ∧ V 20 0 22 = nI q) : CT l y_M_giveUp { frames := 2, cells := 0, slots := 0, locals := 64 } (pX Z) (qA (pX Z)) [.ref (al Z 20 0), .int (nI t)] V Y (.inl none) (g_put (qv (qv (qv V 20 0 0 0) 29 0 t 1) 31 0 t 0) 4 (nI t) 0 (V 28 0 t)) Y := by
  refine CT.of (cc := b_M_giveUp) (maxL := 2) (ret := none) hZ (by decide) w_820 (Nat.le_of_ble_eq_true rfl) ?_
  intro p e s m below meth c C hr hex hlt
  refine gq_aload_n C d_M_giveUp_0 rfl ?_
  refine gq_iload_n C d_M_giveUp_1 rfl ?_
  refine gq_iconst C (v := 4) d_M_giveUp_2 (by decide) ?_
  refine gq_callS C (st := [.ref (al Z 20 0)]) (fun _ h => h.elim) (c_M_not l Z hZ _ _ (nI t) 4) w_761 w_762 w_763 w_9 ⟨by decide, by decide, (by decide +kernel : (parseMethodDescriptor y_M_not.desc).map (fun d => d.parameters.length) = some 2)⟩ ⟨by decide, by decide⟩ ⟨by decide, by decide⟩ rfl (Nat.le_of_ble_eq_true rfl) d_M_giveUp_3 ?_
  refine gq_if_eq C (tgt := 13) d_M_giveUp_6 rfl (fun hb6 => ?_) (fun hb => by exact absurd h1 hb)
  refine gq_aload_n C d_M_giveUp_13 rfl ?_
  refine gq_get C (g := 20) (j := 0) (ci := 8) (k := 10) (v := .ref (al Z 29 0)) (qm (by decide) (by decide)) rfl rfl in_M (by decide) w_671 rfl d_M_giveUp_14 ?_
  refine gq_iload_n C d_M_giveUp_17 rfl ?_
  refine gq_zald C (g := 29) (j := 0) (a := t) (t0 := 2) (qm (by decide) (by decide)) rfl rfl rfl ht (by decide) d_M_giveUp_18 ?_
  refine gq_if_eq C (tgt := 26) d_M_giveUp_19 rfl (fun hb19 => ?_) (fun hb => by exact absurd h2 hb)
  refine gq_iconst C (v := 0) d_M_giveUp_26 (by decide) ?_
  refine gq_put C (fun _ h => h) (g := 20) (j := 0) (ci := 8) (k := 0) ft_M k_M n_M (qm (by decide) (by decide)) rfl rfl in_M (by decide) w_661 rfl (k_M 0 (by decide)) rfl rfl (Nat.le_of_ble_eq_true rfl) rfl d_M_giveUp_27 ?_
  refine gq_aload_n C d_M_giveUp_30 rfl ?_
  refine gq_get C (g := 20) (j := 0) (ci := 8) (k := 0) (v := .int 0) (qm (by decide) (by decide)) rfl rfl in_M (by decide) w_661 rfl d_M_giveUp_31 ?_
  refine gq_if_eq C (tgt := 38) d_M_giveUp_34 rfl (fun hb34 => ?_) (fun hb => by exact absurd hb (by decide))
  refine gq_aload_n C d_M_giveUp_38 rfl ?_
  refine gq_get C (g := 20) (j := 0) (ci := 8) (k := 10) (v := .ref (al Z 29 0)) (qm (by decide) (by decide)) rfl rfl in_M (by decide) w_671 rfl d_M_giveUp_39 ?_
  refine gq_iload_n C d_M_giveUp_42 rfl ?_
  refine gq_iconst C (v := 1) d_M_giveUp_43 (by decide) ?_
  refine gq_zast C (fun _ h => h) (g := 29) (j := 0) (a := t) (t0 := 2) (qm (by decide) (by decide)) (fun _ => rfl) rfl rfl ht (by decide) rfl d_M_giveUp_44 ?_
  refine gq_aload_n C d_M_giveUp_45 rfl ?_
  refine gq_get C (g := 20) (j := 0) (ci := 8) (k := 12) (v := .ref (al Z 31 0)) (qm (by decide) (by decide)) rfl rfl in_M (by decide) w_673 rfl d_M_giveUp_46 ?_
  refine gq_iload_n C d_M_giveUp_49 rfl ?_
  refine gq_iconst C (v := 0) d_M_giveUp_50 (by decide) ?_
  refine gq_iast C (fun _ h => h) (g := 31) (j := 0) (a := t) (t0 := 0) (qm (by decide) (by decide)) (fun _ => rfl) rfl rfl ht (by decide) d_M_giveUp_51 ?_
  refine gq_aload_n C d_M_giveUp_52 rfl ?_
  refine gq_iconst C (v := 4) d_M_giveUp_53 (by decide) ?_
  refine gq_iload_n C d_M_giveUp_54 rfl ?_
  refine gq_iconst C (v := 0) d_M_giveUp_55 (by decide) ?_
  refine gq_aload_n C d_M_giveUp_56 rfl ?_
  refine gq_get C (g := 20) (j := 0) (ci := 8) (k := 9) (v := .ref (al Z 28 0)) (qm (by decide) (by decide)) rfl rfl in_M (by decide) w_670 rfl d_M_giveUp_57 ?_
  refine gq_iload_n C d_M_giveUp_60 rfl ?_
  refine gq_iald C (g := 28) (j := 0) (a := t) (t0 := 0) (qm (by decide) (by decide)) rfl rfl rfl ht (by decide) d_M_giveUp_61 ?_
  refine G.eqS (st' := [.int (V 28 0 t), .int 0, .int (nI t), .int 4, .ref (al Z 20 0)]) rfl ?_
  refine gq_callV C (st := []) (fun _ h => h) (c_M_put l Z hZ _ _ (g_cnt2 hc (by simp [qv_at])) 4 (nI t) 0 (V 28 0 t)) (qm (by decide) (by decide)) rfl rfl w_773 w_775 ws_M_post w_776 w_9 ⟨by decide, by decide, (by decide +kernel : (parseMethodDescriptor y_M_post.desc).map (fun d => d.parameters.length) = some 4)⟩ ⟨by decide, by decide⟩ ⟨by decide, by decide⟩ rfl (Nat.le_of_ble_eq_true rfl) d_M_giveUp_62 ?_
  exact gq_vret C hr (by decide) (by decide) d_M_giveUp_65

set_option maxHeartbeats 4000000 in
set_option maxRecDepth 100000 in
theorem c_M_giveUp_x2 (l : Launch) (Z : qZ) (hZ : qok (pX Z)) (V : qV) (Y : qY) (t : Nat) (ht : t < 4) (h1 : g_not (nI t) 4 = 0) (h2 : ¬ V 29 0 t = 0) : CT l y_M_giveUp { frames := 2, cells := 0, slots := 0, locals := 64 } (pX Z) (qA (pX Z)) [.ref (al Z 20 0), .int (nI t)] V Y (.inl none) (qv V 20 0 0 2) Y := by
  refine CT.of (cc := b_M_giveUp) (maxL := 2) (ret := none) hZ (by decide) w_820 (Nat.le_of_ble_eq_true rfl) ?_
  intro p e s m below meth c C hr hex hlt
  refine gq_aload_n C d_M_giveUp_0 rfl ?_
  refine gq_iload_n C d_M_giveUp_1 rfl ?_
  refine gq_iconst C (v := 4) d_M_giveUp_2 (by decide) ?_
  refine gq_callS C (st := [.ref (al Z 20 0)]) (fun _ h => h.elim) (c_M_not l Z hZ _ _ (nI t) 4) w_761 w_762 w_763 w_9 ⟨by decide, by decide, (by decide +kernel : (parseMethodDescriptor y_M_not.desc).map (fun d => d.parameters.length) = some 2)⟩ ⟨by decide, by decide⟩ ⟨by decide, by decide⟩ rfl (Nat.le_of_ble_eq_true rfl) d_M_giveUp_3 ?_
  refine gq_if_eq C (tgt := 13) d_M_giveUp_6 rfl (fun hb6 => ?_) (fun hb => by exact absurd h1 hb)
  refine gq_aload_n C d_M_giveUp_13 rfl ?_
  refine gq_get C (g := 20) (j := 0) (ci := 8) (k := 10) (v := .ref (al Z 29 0)) (qm (by decide) (by decide)) rfl rfl in_M (by decide) w_671 rfl d_M_giveUp_14 ?_
  refine gq_iload_n C d_M_giveUp_17 rfl ?_
  refine gq_zald C (g := 29) (j := 0) (a := t) (t0 := 2) (qm (by decide) (by decide)) rfl rfl rfl ht (by decide) d_M_giveUp_18 ?_
  refine gq_if_eq C (tgt := 26) d_M_giveUp_19 rfl (fun hb => by exact absurd hb h2) (fun hb19 => ?_)
  refine gq_iconst C (v := 2) d_M_giveUp_22 (by decide) ?_
  refine gq_goto C (tgt := 27) d_M_giveUp_23 rfl ?_
  refine gq_put C (fun _ h => h) (g := 20) (j := 0) (ci := 8) (k := 0) ft_M k_M n_M (qm (by decide) (by decide)) rfl rfl in_M (by decide) w_661 rfl (k_M 0 (by decide)) rfl rfl (Nat.le_of_ble_eq_true rfl) rfl d_M_giveUp_27 ?_
  refine gq_aload_n C d_M_giveUp_30 rfl ?_
  refine gq_get C (g := 20) (j := 0) (ci := 8) (k := 0) (v := .int 2) (qm (by decide) (by decide)) rfl rfl in_M (by decide) w_661 rfl d_M_giveUp_31 ?_
  refine gq_if_eq C (tgt := 38) d_M_giveUp_34 rfl (fun hb => by exact absurd hb (by decide)) (fun hb34 => ?_)
  exact gq_vretE C hr rfl rfl (by decide) (by decide) d_M_giveUp_37

set_option maxHeartbeats 4000000 in
set_option maxRecDepth 100000 in
theorem c_M_lease (l : Launch) (Z : qZ) (hZ : qok (pX Z)) (V : qV) (Y : qY) (t : Nat) (ht : t < 4) (h1 : g_not (nI t) 4 = 0) : CT l y_M_lease { frames := 3, cells := 0, slots := 0, locals := 84 } (pX Z) (qA (pX Z)) [.ref (al Z 20 0), .int (nI t)] V Y (.inl (some (.int (g_lease (qv V 20 0 0 0) t)))) (qv V 20 0 0 0) Y := by
  refine CT.of (cc := b_M_lease) (maxL := 2) (ret := (some .int)) hZ (by decide) w_824 (Nat.le_of_ble_eq_true rfl) ?_
  intro p e s m below meth c C hr hex hlt
  refine gq_aload_n C d_M_lease_0 rfl ?_
  refine gq_iload_n C d_M_lease_1 rfl ?_
  refine gq_iconst C (v := 4) d_M_lease_2 (by decide) ?_
  refine gq_callS C (st := [.ref (al Z 20 0)]) (fun _ h => h.elim) (c_M_not l Z hZ _ _ (nI t) 4) w_761 w_762 w_763 w_9 ⟨by decide, by decide, (by decide +kernel : (parseMethodDescriptor y_M_not.desc).map (fun d => d.parameters.length) = some 2)⟩ ⟨by decide, by decide⟩ ⟨by decide, by decide⟩ rfl (Nat.le_of_ble_eq_true rfl) d_M_lease_3 ?_
  refine gq_if_eq C (tgt := 13) d_M_lease_6 rfl (fun hb6 => ?_) (fun hb => by exact absurd h1 hb)
  refine gq_iconst C (v := 0) d_M_lease_13 (by decide) ?_
  refine gq_put C (fun _ h => h) (g := 20) (j := 0) (ci := 8) (k := 0) ft_M k_M n_M (qm (by decide) (by decide)) rfl rfl in_M (by decide) w_661 rfl (k_M 0 (by decide)) rfl rfl (Nat.le_of_ble_eq_true rfl) rfl d_M_lease_14 ?_
  refine gq_aload_n C d_M_lease_17 rfl ?_
  refine gq_get C (g := 20) (j := 0) (ci := 8) (k := 0) (v := .int 0) (qm (by decide) (by decide)) rfl rfl in_M (by decide) w_661 rfl d_M_lease_18 ?_
  refine gq_if_eq C (tgt := 28) d_M_lease_21 rfl (fun hb21 => ?_) (fun hb => by exact absurd hb (by decide))
  refine gq_aload_n C d_M_lease_28 rfl ?_
  refine gq_iload_n C d_M_lease_29 rfl ?_
  refine gq_callV C (st := []) (fun _ h => h.elim) (c_M_validLease l Z hZ _ _ t ht) (qm (by decide) (by decide)) rfl rfl w_825 w_827 ws_M_validLease w_828 w_9 ⟨by decide, by decide, (by decide +kernel : (parseMethodDescriptor y_M_validLease.desc).map (fun d => d.parameters.length) = some 1)⟩ ⟨by decide, by decide⟩ ⟨by decide, by decide⟩ rfl (Nat.le_of_ble_eq_true rfl) d_M_lease_30 ?_
  exact gq_iret C hr (by decide) (by decide) d_M_lease_33

set_option maxHeartbeats 4000000 in
set_option maxRecDepth 100000 in
theorem c_M_loaded (l : Launch) (Z : qZ) (hZ : qok (pX Z)) (V : qV) (Y : qY) (t : Nat) (ht : t < 4) (h1 : g_not (nI t) 4 = 0) : CT l y_M_loaded { frames := 2, cells := 0, slots := 0, locals := 61 } (pX Z) (qA (pX Z)) [.ref (al Z 20 0), .int (nI t)] V Y (.inl (some (.int (V 26 0 t)))) (qv V 20 0 0 0) Y := by
  refine CT.of (cc := b_M_loaded) (maxL := 2) (ret := (some .int)) hZ (by decide) w_832 (Nat.le_of_ble_eq_true rfl) ?_
  intro p e s m below meth c C hr hex hlt
  refine gq_aload_n C d_M_loaded_0 rfl ?_
  refine gq_iload_n C d_M_loaded_1 rfl ?_
  refine gq_iconst C (v := 4) d_M_loaded_2 (by decide) ?_
  refine gq_callS C (st := [.ref (al Z 20 0)]) (fun _ h => h.elim) (c_M_not l Z hZ _ _ (nI t) 4) w_761 w_762 w_763 w_9 ⟨by decide, by decide, (by decide +kernel : (parseMethodDescriptor y_M_not.desc).map (fun d => d.parameters.length) = some 2)⟩ ⟨by decide, by decide⟩ ⟨by decide, by decide⟩ rfl (Nat.le_of_ble_eq_true rfl) d_M_loaded_3 ?_
  refine gq_if_eq C (tgt := 13) d_M_loaded_6 rfl (fun hb6 => ?_) (fun hb => by exact absurd h1 hb)
  refine gq_iconst C (v := 0) d_M_loaded_13 (by decide) ?_
  refine gq_put C (fun _ h => h) (g := 20) (j := 0) (ci := 8) (k := 0) ft_M k_M n_M (qm (by decide) (by decide)) rfl rfl in_M (by decide) w_661 rfl (k_M 0 (by decide)) rfl rfl (Nat.le_of_ble_eq_true rfl) rfl d_M_loaded_14 ?_
  refine gq_aload_n C d_M_loaded_17 rfl ?_
  refine gq_get C (g := 20) (j := 0) (ci := 8) (k := 0) (v := .int 0) (qm (by decide) (by decide)) rfl rfl in_M (by decide) w_661 rfl d_M_loaded_18 ?_
  refine gq_if_eq C (tgt := 28) d_M_loaded_21 rfl (fun hb21 => ?_) (fun hb => by exact absurd hb (by decide))
  refine gq_aload_n C d_M_loaded_28 rfl ?_
  refine gq_get C (g := 20) (j := 0) (ci := 8) (k := 7) (v := .ref (al Z 26 0)) (qm (by decide) (by decide)) rfl rfl in_M (by decide) w_668 rfl d_M_loaded_29 ?_
  refine gq_iload_n C d_M_loaded_32 rfl ?_
  refine gq_iald C (g := 26) (j := 0) (a := t) (t0 := 0) (qm (by decide) (by decide)) rfl rfl rfl ht (by decide) d_M_loaded_33 ?_
  refine G.eqS (st' := [.int (V 26 0 t)]) rfl ?_
  exact gq_iret C hr (by decide) (by decide) d_M_loaded_34

set_option maxHeartbeats 4000000 in
set_option maxRecDepth 100000 in
theorem c_M_letters (l : Launch) (Z : qZ) (hZ : qok (pX Z)) (V : qV) (Y : qY)  : CT l y_M_letters { frames := 1, cells := 0, slots := 0, locals := 40 } (pX Z) (qA (pX Z)) [.ref (al Z 20 0)] V Y (.inl (some (.int (V 20 0 22)))) (qv V 20 0 0 0) Y := by
  refine CT.of (cc := b_M_letters) (maxL := 1) (ret := (some .int)) hZ (by decide) w_864 (Nat.le_of_ble_eq_true rfl) ?_
  intro p e s m below meth c C hr hex hlt
  refine gq_aload_n C d_M_letters_0 rfl ?_
  refine gq_iconst C (v := 0) d_M_letters_1 (by decide) ?_
  refine gq_put C (fun _ h => h) (g := 20) (j := 0) (ci := 8) (k := 0) ft_M k_M n_M (qm (by decide) (by decide)) rfl rfl in_M (by decide) w_661 rfl (k_M 0 (by decide)) rfl rfl (Nat.le_of_ble_eq_true rfl) rfl d_M_letters_2 ?_
  refine gq_aload_n C d_M_letters_5 rfl ?_
  refine gq_get C (g := 20) (j := 0) (ci := 8) (k := 22) (v := .int (V 20 0 22)) (qm (by decide) (by decide)) rfl rfl in_M (by decide) w_683 rfl d_M_letters_6 ?_
  exact gq_iret C hr (by decide) (by decide) d_M_letters_9

set_option maxHeartbeats 4000000 in
set_option maxRecDepth 100000 in
theorem c_M_deliver_x1 (l : Launch) (Z : qZ) (hZ : qok (pX Z)) (V : qV) (Y : qY) (i : Int32) (h : ¬ g_not i (V 20 0 22) = 0) : CT l y_M_deliver { frames := 5, cells := 0, slots := 0, locals := 127 } (pX Z) (qA (pX Z)) [.ref (al Z 20 0), .int i] V Y (.inl none) (qv V 20 0 0 1) Y := by
  refine CT.of (cc := b_M_deliver) (maxL := 6) (ret := none) hZ (by decide) w_836 (Nat.le_of_ble_eq_true rfl) ?_
  intro p e s m below meth c C hr hex hlt
  refine gq_aload_n C d_M_deliver_0 rfl ?_
  refine gq_iload_n C d_M_deliver_1 rfl ?_
  refine gq_aload_n C d_M_deliver_2 rfl ?_
  refine gq_get C (g := 20) (j := 0) (ci := 8) (k := 22) (v := .int (V 20 0 22)) (qm (by decide) (by decide)) rfl rfl in_M (by decide) w_683 rfl d_M_deliver_3 ?_
  refine gq_callS C (st := [.ref (al Z 20 0)]) (fun _ h => h.elim) (c_M_not l Z hZ _ _ i (V 20 0 22)) w_761 w_762 w_763 w_9 ⟨by decide, by decide, (by decide +kernel : (parseMethodDescriptor y_M_not.desc).map (fun d => d.parameters.length) = some 2)⟩ ⟨by decide, by decide⟩ ⟨by decide, by decide⟩ rfl (Nat.le_of_ble_eq_true rfl) d_M_deliver_6 ?_
  refine gq_if_eq C (tgt := 16) d_M_deliver_9 rfl (fun hb => by first | contradiction | contradiction) (fun hb9 => ?_)
  refine gq_iconst C (v := 1) d_M_deliver_12 (by decide) ?_
  refine gq_goto C (tgt := 17) d_M_deliver_13 rfl ?_
  refine gq_put C (fun _ h => h) (g := 20) (j := 0) (ci := 8) (k := 0) ft_M k_M n_M (qm (by decide) (by decide)) rfl rfl in_M (by decide) w_661 rfl (k_M 0 (by decide)) rfl rfl (Nat.le_of_ble_eq_true rfl) rfl d_M_deliver_17 ?_
  refine gq_aload_n C d_M_deliver_20 rfl ?_
  refine gq_get C (g := 20) (j := 0) (ci := 8) (k := 0) (v := .int 1) (qm (by decide) (by decide)) rfl rfl in_M (by decide) w_661 rfl d_M_deliver_21 ?_
  refine gq_if_eq C (tgt := 28) d_M_deliver_24 rfl (fun hb => by exact absurd hb (by decide)) (fun hb24 => ?_)
  exact gq_vretE C hr rfl rfl (by decide) (by decide) d_M_deliver_27

set_option maxHeartbeats 4000000 in
set_option maxRecDepth 100000 in
theorem c_M_lose_x1 (l : Launch) (Z : qZ) (hZ : qok (pX Z)) (V : qV) (Y : qY) (i : Int32) (h : ¬ g_not i (V 20 0 22) = 0) : CT l y_M_lose { frames := 2, cells := 0, slots := 0, locals := 62 } (pX Z) (qA (pX Z)) [.ref (al Z 20 0), .int i] V Y (.inl none) (qv V 20 0 0 1) Y := by
  refine CT.of (cc := b_M_lose) (maxL := 2) (ret := none) hZ (by decide) w_852 (Nat.le_of_ble_eq_true rfl) ?_
  intro p e s m below meth c C hr hex hlt
  refine gq_aload_n C d_M_lose_0 rfl ?_
  refine gq_iload_n C d_M_lose_1 rfl ?_
  refine gq_aload_n C d_M_lose_2 rfl ?_
  refine gq_get C (g := 20) (j := 0) (ci := 8) (k := 22) (v := .int (V 20 0 22)) (qm (by decide) (by decide)) rfl rfl in_M (by decide) w_683 rfl d_M_lose_3 ?_
  refine gq_callS C (st := [.ref (al Z 20 0)]) (fun _ h => h.elim) (c_M_not l Z hZ _ _ i (V 20 0 22)) w_761 w_762 w_763 w_9 ⟨by decide, by decide, (by decide +kernel : (parseMethodDescriptor y_M_not.desc).map (fun d => d.parameters.length) = some 2)⟩ ⟨by decide, by decide⟩ ⟨by decide, by decide⟩ rfl (Nat.le_of_ble_eq_true rfl) d_M_lose_6 ?_
  refine gq_if_eq C (tgt := 16) d_M_lose_9 rfl (fun hb => by first | contradiction | contradiction) (fun hb9 => ?_)
  refine gq_iconst C (v := 1) d_M_lose_12 (by decide) ?_
  refine gq_goto C (tgt := 17) d_M_lose_13 rfl ?_
  refine gq_put C (fun _ h => h) (g := 20) (j := 0) (ci := 8) (k := 0) ft_M k_M n_M (qm (by decide) (by decide)) rfl rfl in_M (by decide) w_661 rfl (k_M 0 (by decide)) rfl rfl (Nat.le_of_ble_eq_true rfl) rfl d_M_lose_17 ?_
  refine gq_aload_n C d_M_lose_20 rfl ?_
  refine gq_get C (g := 20) (j := 0) (ci := 8) (k := 0) (v := .int 1) (qm (by decide) (by decide)) rfl rfl in_M (by decide) w_661 rfl d_M_lose_21 ?_
  refine gq_if_ne C (tgt := 32) d_M_lose_24 rfl (fun hb24 => ?_) (fun hb => by exact absurd hb (by decide))
  exact gq_vretE C hr rfl rfl (by decide) (by decide) d_M_lose_32

set_option maxHeartbeats 4000000 in
set_option maxRecDepth 100000 in
theorem c_M_twin_x1 (l : Launch) (Z : qZ) (hZ : qok (pX Z)) (V : qV) (Y : qY) (i : Int32) (h : ¬ g_not i (V 20 0 22) = 0) : CT l y_M_twin { frames := 2, cells := 0, slots := 0, locals := 64 } (pX Z) (qA (pX Z)) [.ref (al Z 20 0), .int i] V Y (.inl none) (qv V 20 0 0 1) Y := by
  refine CT.of (cc := b_M_twin) (maxL := 2) (ret := none) hZ (by decide) w_856 (Nat.le_of_ble_eq_true rfl) ?_
  intro p e s m below meth c C hr hex hlt
  refine gq_aload_n C d_M_twin_0 rfl ?_
  refine gq_iload_n C d_M_twin_1 rfl ?_
  refine gq_aload_n C d_M_twin_2 rfl ?_
  refine gq_get C (g := 20) (j := 0) (ci := 8) (k := 22) (v := .int (V 20 0 22)) (qm (by decide) (by decide)) rfl rfl in_M (by decide) w_683 rfl d_M_twin_3 ?_
  refine gq_callS C (st := [.ref (al Z 20 0)]) (fun _ h => h.elim) (c_M_not l Z hZ _ _ i (V 20 0 22)) w_761 w_762 w_763 w_9 ⟨by decide, by decide, (by decide +kernel : (parseMethodDescriptor y_M_not.desc).map (fun d => d.parameters.length) = some 2)⟩ ⟨by decide, by decide⟩ ⟨by decide, by decide⟩ rfl (Nat.le_of_ble_eq_true rfl) d_M_twin_6 ?_
  refine gq_if_eq C (tgt := 16) d_M_twin_9 rfl (fun hb => by first | contradiction | contradiction) (fun hb9 => ?_)
  refine gq_iconst C (v := 1) d_M_twin_12 (by decide) ?_
  refine gq_goto C (tgt := 30) d_M_twin_13 rfl ?_
  refine gq_put C (fun _ h => h) (g := 20) (j := 0) (ci := 8) (k := 0) ft_M k_M n_M (qm (by decide) (by decide)) rfl rfl in_M (by decide) w_661 rfl (k_M 0 (by decide)) rfl rfl (Nat.le_of_ble_eq_true rfl) rfl d_M_twin_30 ?_
  refine gq_aload_n C d_M_twin_33 rfl ?_
  refine gq_get C (g := 20) (j := 0) (ci := 8) (k := 0) (v := .int 1) (qm (by decide) (by decide)) rfl rfl in_M (by decide) w_661 rfl d_M_twin_34 ?_
  refine gq_if_ne C (tgt := 82) d_M_twin_37 rfl (fun hb37 => ?_) (fun hb => by exact absurd hb (by decide))
  exact gq_vretE C hr rfl rfl (by decide) (by decide) d_M_twin_82

set_option maxHeartbeats 4000000 in
set_option maxRecDepth 100000 in
theorem c_M_letter_x1 (l : Launch) (Z : qZ) (hZ : qok (pX Z)) (V : qV) (Y : qY) (i : Int32) (w : Int32) (h : ¬ g_not i (V 20 0 22) = 0) : CT l y_M_letter { frames := 2, cells := 0, slots := 0, locals := 61 } (pX Z) (qA (pX Z)) [.ref (al Z 20 0), .int i, .int w] V Y (.inl (some (.int 0))) (qv V 20 0 0 1) Y := by
  refine CT.of (cc := b_M_letter) (maxL := 3) (ret := (some .int)) hZ (by decide) w_860 (Nat.le_of_ble_eq_true rfl) ?_
  intro p e s m below meth c C hr hex hlt
  refine gq_aload_n C d_M_letter_0 rfl ?_
  refine gq_iload_n C d_M_letter_1 rfl ?_
  refine gq_aload_n C d_M_letter_2 rfl ?_
  refine gq_get C (g := 20) (j := 0) (ci := 8) (k := 22) (v := .int (V 20 0 22)) (qm (by decide) (by decide)) rfl rfl in_M (by decide) w_683 rfl d_M_letter_3 ?_
  refine gq_callS C (st := [.ref (al Z 20 0)]) (fun _ h => h.elim) (c_M_not l Z hZ _ _ i (V 20 0 22)) w_761 w_762 w_763 w_9 ⟨by decide, by decide, (by decide +kernel : (parseMethodDescriptor y_M_not.desc).map (fun d => d.parameters.length) = some 2)⟩ ⟨by decide, by decide⟩ ⟨by decide, by decide⟩ rfl (Nat.le_of_ble_eq_true rfl) d_M_letter_6 ?_
  refine gq_if_eq C (tgt := 16) d_M_letter_9 rfl (fun hb => by first | contradiction | contradiction) (fun hb9 => ?_)
  refine gq_iconst C (v := 1) d_M_letter_12 (by decide) ?_
  refine gq_goto C (tgt := 29) d_M_letter_13 rfl ?_
  refine gq_put C (fun _ h => h) (g := 20) (j := 0) (ci := 8) (k := 0) ft_M k_M n_M (qm (by decide) (by decide)) rfl rfl in_M (by decide) w_661 rfl (k_M 0 (by decide)) rfl rfl (Nat.le_of_ble_eq_true rfl) rfl d_M_letter_29 ?_
  refine gq_aload_n C d_M_letter_32 rfl ?_
  refine gq_get C (g := 20) (j := 0) (ci := 8) (k := 0) (v := .int 1) (qm (by decide) (by decide)) rfl rfl in_M (by decide) w_661 rfl d_M_letter_33 ?_
  refine gq_if_eq C (tgt := 43) d_M_letter_36 rfl (fun hb => by exact absurd hb (by decide)) (fun hb36 => ?_)
  refine gq_iconst C (v := 0) d_M_letter_39 (by decide) ?_
  refine gq_goto C (tgt := 53) d_M_letter_40 rfl ?_
  exact gq_iretE C hr rfl rfl rfl (by decide) (by decide) d_M_letter_53

set_option maxHeartbeats 4000000 in
set_option maxRecDepth 100000 in
theorem c_M_lose (l : Launch) (Z : qZ) (hZ : qok (pX Z)) (V : qV) (Y : qY) (i n : Nat) (hi : i < n) (hn : n ≤ 40) (h22 : V 20 0 22 = nI n) (h1 : g_not (nI i) (V 20 0 22) = 0) : CT l y_M_lose { frames := 2, cells := 0, slots := 0, locals := 62 } (pX Z) (qA (pX Z)) [.ref (al Z 20 0), .int (nI i)] V Y (.inl none) (g_remove (qv V 20 0 0 0) i n) Y := by
  refine CT.of (cc := b_M_lose) (maxL := 2) (ret := none) hZ (by decide) w_852 (Nat.le_of_ble_eq_true rfl) ?_
  intro p e s m below meth c C hr hex hlt
  refine gq_aload_n C d_M_lose_0 rfl ?_
  refine gq_iload_n C d_M_lose_1 rfl ?_
  refine gq_aload_n C d_M_lose_2 rfl ?_
  refine gq_get C (g := 20) (j := 0) (ci := 8) (k := 22) (v := .int (V 20 0 22)) (qm (by decide) (by decide)) rfl rfl in_M (by decide) w_683 rfl d_M_lose_3 ?_
  refine gq_callS C (st := [.ref (al Z 20 0)]) (fun _ h => h.elim) (c_M_not l Z hZ _ _ (nI i) (V 20 0 22)) w_761 w_762 w_763 w_9 ⟨by decide, by decide, (by decide +kernel : (parseMethodDescriptor y_M_not.desc).map (fun d => d.parameters.length) = some 2)⟩ ⟨by decide, by decide⟩ ⟨by decide, by decide⟩ rfl (Nat.le_of_ble_eq_true rfl) d_M_lose_6 ?_
  refine gq_if_eq C (tgt := 16) d_M_lose_9 rfl (fun hb9 => ?_) (fun hb => by exact absurd h1 hb)
  refine gq_iconst C (v := 0) d_M_lose_16 (by decide) ?_
  refine gq_put C (fun _ h => h) (g := 20) (j := 0) (ci := 8) (k := 0) ft_M k_M n_M (qm (by decide) (by decide)) rfl rfl in_M (by decide) w_661 rfl (k_M 0 (by decide)) rfl rfl (Nat.le_of_ble_eq_true rfl) rfl d_M_lose_17 ?_
  refine gq_aload_n C d_M_lose_20 rfl ?_
  refine gq_get C (g := 20) (j := 0) (ci := 8) (k := 0) (v := .int 0) (qm (by decide) (by decide)) rfl rfl in_M (by decide) w_661 rfl d_M_lose_21 ?_
  refine gq_if_ne C (tgt := 32) d_M_lose_24 rfl (fun hb => by exact absurd hb (by decide)) (fun hb24 => ?_)
  refine gq_aload_n C d_M_lose_27 rfl ?_
  refine gq_iload_n C d_M_lose_28 rfl ?_
  refine gq_callV C (st := []) (fun _ h => h) (c_M_remove l Z hZ _ _ i n hi hn (by simpa [qv_at] using h22)) (qm (by decide) (by decide)) rfl rfl w_837 w_839 ws_M_remove w_840 w_9 ⟨by decide, by decide, (by decide +kernel : (parseMethodDescriptor y_M_remove.desc).map (fun d => d.parameters.length) = some 1)⟩ ⟨by decide, by decide⟩ ⟨by decide, by decide⟩ rfl (Nat.le_of_ble_eq_true rfl) d_M_lose_29 ?_
  exact gq_vret C hr (by decide) (by decide) d_M_lose_32

set_option maxHeartbeats 4000000 in
set_option maxRecDepth 100000 in
theorem c_M_twin (l : Launch) (Z : qZ) (hZ : qok (pX Z)) (V : qV) (Y : qY) (i n : Nat) (hi : i < n) (hn : n ≤ 40) (h22 : V 20 0 22 = nI n) (h1 : g_not (nI i) (V 20 0 22) = 0) (hf : ¬ V 20 0 22 = 40) : CT l y_M_twin { frames := 2, cells := 0, slots := 0, locals := 64 } (pX Z) (qA (pX Z)) [.ref (al Z 20 0), .int (nI i)] V Y (.inl none) (g_put (qv V 20 0 0 0) (V 37 0 (4 * i)) (V 37 0 (4 * i + 1)) (V 37 0 (4 * i + 2)) (V 37 0 (4 * i + 3))) Y := by
  refine CT.of (cc := b_M_twin) (maxL := 2) (ret := none) hZ (by decide) w_856 (Nat.le_of_ble_eq_true rfl) ?_
  intro p e s m below meth c C hr hex hlt
  refine gq_aload_n C d_M_twin_0 rfl ?_
  refine gq_iload_n C d_M_twin_1 rfl ?_
  refine gq_aload_n C d_M_twin_2 rfl ?_
  refine gq_get C (g := 20) (j := 0) (ci := 8) (k := 22) (v := .int (V 20 0 22)) (qm (by decide) (by decide)) rfl rfl in_M (by decide) w_683 rfl d_M_twin_3 ?_
  refine gq_callS C (st := [.ref (al Z 20 0)]) (fun _ h => h.elim) (c_M_not l Z hZ _ _ (nI i) (V 20 0 22)) w_761 w_762 w_763 w_9 ⟨by decide, by decide, (by decide +kernel : (parseMethodDescriptor y_M_not.desc).map (fun d => d.parameters.length) = some 2)⟩ ⟨by decide, by decide⟩ ⟨by decide, by decide⟩ rfl (Nat.le_of_ble_eq_true rfl) d_M_twin_6 ?_
  refine gq_if_eq C (tgt := 16) d_M_twin_9 rfl (fun hb9 => ?_) (fun hb => by exact absurd h1 hb)
  refine gq_aload_n C d_M_twin_16 rfl ?_
  refine gq_get C (g := 20) (j := 0) (ci := 8) (k := 22) (v := .int (V 20 0 22)) (qm (by decide) (by decide)) rfl rfl in_M (by decide) w_683 rfl d_M_twin_17 ?_
  refine gq_bipush C (v := 40) d_M_twin_20 (by decide) ?_
  refine gq_icmp_ne C (tgt := 29) d_M_twin_22 rfl (fun hb22 => ?_) (fun hb => by exact absurd hb hf)
  refine gq_iconst C (v := 0) d_M_twin_29 (by decide) ?_
  refine gq_put C (fun _ h => h) (g := 20) (j := 0) (ci := 8) (k := 0) ft_M k_M n_M (qm (by decide) (by decide)) rfl rfl in_M (by decide) w_661 rfl (k_M 0 (by decide)) rfl rfl (Nat.le_of_ble_eq_true rfl) rfl d_M_twin_30 ?_
  refine gq_aload_n C d_M_twin_33 rfl ?_
  refine gq_get C (g := 20) (j := 0) (ci := 8) (k := 0) (v := .int 0) (qm (by decide) (by decide)) rfl rfl in_M (by decide) w_661 rfl d_M_twin_34 ?_
  refine gq_if_ne C (tgt := 82) d_M_twin_37 rfl (fun hb => by exact absurd hb (by decide)) (fun hb37 => ?_)
  refine gq_aload_n C d_M_twin_40 rfl ?_
  refine gq_aload_n C d_M_twin_41 rfl ?_
  refine gq_get C (g := 20) (j := 0) (ci := 8) (k := 23) (v := .ref (al Z 37 0)) (qm (by decide) (by decide)) rfl rfl in_M (by decide) w_684 rfl d_M_twin_42 ?_
  refine gq_iconst C (v := 4) d_M_twin_45 (by decide) ?_
  refine gq_iload_n C d_M_twin_46 rfl ?_
  refine gq_imul C d_M_twin_47 ?_
  refine gq_iald C (g := 37) (j := 0) (a := (4 * i)) (t0 := 0) (qm (by decide) (by decide)) rfl rfl (by rw [show (4 : Int32) = nI 4 from rfl, pk_mul]) (by omega) (by decide) d_M_twin_48 ?_
  refine G.eqS (st' := [.int (V 37 0 (4 * i)), .ref (al Z 20 0)]) rfl ?_
  refine gq_aload_n C d_M_twin_49 rfl ?_
  refine gq_get C (g := 20) (j := 0) (ci := 8) (k := 23) (v := .ref (al Z 37 0)) (qm (by decide) (by decide)) rfl rfl in_M (by decide) w_684 rfl d_M_twin_50 ?_
  refine gq_iconst C (v := 4) d_M_twin_53 (by decide) ?_
  refine gq_iload_n C d_M_twin_54 rfl ?_
  refine gq_imul C d_M_twin_55 ?_
  refine gq_iconst C (v := 1) d_M_twin_56 (by decide) ?_
  refine gq_iadd C d_M_twin_57 ?_
  refine gq_iald C (g := 37) (j := 0) (a := (4 * i + 1)) (t0 := 0) (qm (by decide) (by decide)) rfl rfl (by rw [show (4 : Int32) = nI 4 from rfl, pk_mul]; exact nI_add _ _) (by omega) (by decide) d_M_twin_58 ?_
  refine G.eqS (st' := [.int (V 37 0 (4 * i + 1)), .int (V 37 0 (4 * i)), .ref (al Z 20 0)]) rfl ?_
  refine gq_aload_n C d_M_twin_59 rfl ?_
  refine gq_get C (g := 20) (j := 0) (ci := 8) (k := 23) (v := .ref (al Z 37 0)) (qm (by decide) (by decide)) rfl rfl in_M (by decide) w_684 rfl d_M_twin_60 ?_
  refine gq_iconst C (v := 4) d_M_twin_63 (by decide) ?_
  refine gq_iload_n C d_M_twin_64 rfl ?_
  refine gq_imul C d_M_twin_65 ?_
  refine gq_iconst C (v := 2) d_M_twin_66 (by decide) ?_
  refine gq_iadd C d_M_twin_67 ?_
  refine gq_iald C (g := 37) (j := 0) (a := (4 * i + 2)) (t0 := 0) (qm (by decide) (by decide)) rfl rfl (by rw [show (4 : Int32) = nI 4 from rfl, pk_mul]; exact nI_add _ _) (by omega) (by decide) d_M_twin_68 ?_
  refine G.eqS (st' := [.int (V 37 0 (4 * i + 2)), .int (V 37 0 (4 * i + 1)), .int (V 37 0 (4 * i)), .ref (al Z 20 0)]) rfl ?_
  refine gq_aload_n C d_M_twin_69 rfl ?_
  refine gq_get C (g := 20) (j := 0) (ci := 8) (k := 23) (v := .ref (al Z 37 0)) (qm (by decide) (by decide)) rfl rfl in_M (by decide) w_684 rfl d_M_twin_70 ?_
  refine gq_iconst C (v := 4) d_M_twin_73 (by decide) ?_
  refine gq_iload_n C d_M_twin_74 rfl ?_
  refine gq_imul C d_M_twin_75 ?_
  refine gq_iconst C (v := 3) d_M_twin_76 (by decide) ?_
  refine gq_iadd C d_M_twin_77 ?_
  refine gq_iald C (g := 37) (j := 0) (a := (4 * i + 3)) (t0 := 0) (qm (by decide) (by decide)) rfl rfl (by rw [show (4 : Int32) = nI 4 from rfl, pk_mul]; exact nI_add _ _) (by omega) (by decide) d_M_twin_78 ?_
  refine G.eqS (st' := [.int (V 37 0 (4 * i + 3)), .int (V 37 0 (4 * i + 2)), .int (V 37 0 (4 * i + 1)), .int (V 37 0 (4 * i)), .ref (al Z 20 0)]) rfl ?_
  refine gq_callV C (st := []) (fun _ h => h) (c_M_put l Z hZ _ _ (g_cnt2 ⟨n, hn, h22⟩ (by simp [qv_at])) (V 37 0 (4 * i)) (V 37 0 (4 * i + 1)) (V 37 0 (4 * i + 2)) (V 37 0 (4 * i + 3))) (qm (by decide) (by decide)) rfl rfl w_773 w_775 ws_M_post w_776 w_9 ⟨by decide, by decide, (by decide +kernel : (parseMethodDescriptor y_M_post.desc).map (fun d => d.parameters.length) = some 4)⟩ ⟨by decide, by decide⟩ ⟨by decide, by decide⟩ rfl (Nat.le_of_ble_eq_true rfl) d_M_twin_79 ?_
  exact gq_vret C hr (by decide) (by decide) d_M_twin_82

set_option maxHeartbeats 4000000 in
set_option maxRecDepth 100000 in
theorem c_M_twin_x2 (l : Launch) (Z : qZ) (hZ : qok (pX Z)) (V : qV) (Y : qY) (i n : Nat) (hi : i < n) (hn : n ≤ 40) (h22 : V 20 0 22 = nI n) (h1 : g_not (nI i) (V 20 0 22) = 0) (hf : V 20 0 22 = 40) : CT l y_M_twin { frames := 2, cells := 0, slots := 0, locals := 64 } (pX Z) (qA (pX Z)) [.ref (al Z 20 0), .int (nI i)] V Y (.inl none) (qv V 20 0 0 2) Y := by
  refine CT.of (cc := b_M_twin) (maxL := 2) (ret := none) hZ (by decide) w_856 (Nat.le_of_ble_eq_true rfl) ?_
  intro p e s m below meth c C hr hex hlt
  refine gq_aload_n C d_M_twin_0 rfl ?_
  refine gq_iload_n C d_M_twin_1 rfl ?_
  refine gq_aload_n C d_M_twin_2 rfl ?_
  refine gq_get C (g := 20) (j := 0) (ci := 8) (k := 22) (v := .int (V 20 0 22)) (qm (by decide) (by decide)) rfl rfl in_M (by decide) w_683 rfl d_M_twin_3 ?_
  refine gq_callS C (st := [.ref (al Z 20 0)]) (fun _ h => h.elim) (c_M_not l Z hZ _ _ (nI i) (V 20 0 22)) w_761 w_762 w_763 w_9 ⟨by decide, by decide, (by decide +kernel : (parseMethodDescriptor y_M_not.desc).map (fun d => d.parameters.length) = some 2)⟩ ⟨by decide, by decide⟩ ⟨by decide, by decide⟩ rfl (Nat.le_of_ble_eq_true rfl) d_M_twin_6 ?_
  refine gq_if_eq C (tgt := 16) d_M_twin_9 rfl (fun hb9 => ?_) (fun hb => by exact absurd h1 hb)
  refine gq_aload_n C d_M_twin_16 rfl ?_
  refine gq_get C (g := 20) (j := 0) (ci := 8) (k := 22) (v := .int (V 20 0 22)) (qm (by decide) (by decide)) rfl rfl in_M (by decide) w_683 rfl d_M_twin_17 ?_
  refine gq_bipush C (v := 40) d_M_twin_20 (by decide) ?_
  refine gq_icmp_ne C (tgt := 29) d_M_twin_22 rfl (fun hb => by exact absurd hf hb) (fun hb22 => ?_)
  refine gq_iconst C (v := 2) d_M_twin_25 (by decide) ?_
  refine gq_goto C (tgt := 30) d_M_twin_26 rfl ?_
  refine gq_put C (fun _ h => h) (g := 20) (j := 0) (ci := 8) (k := 0) ft_M k_M n_M (qm (by decide) (by decide)) rfl rfl in_M (by decide) w_661 rfl (k_M 0 (by decide)) rfl rfl (Nat.le_of_ble_eq_true rfl) rfl d_M_twin_30 ?_
  refine gq_aload_n C d_M_twin_33 rfl ?_
  refine gq_get C (g := 20) (j := 0) (ci := 8) (k := 0) (v := .int 2) (qm (by decide) (by decide)) rfl rfl in_M (by decide) w_661 rfl d_M_twin_34 ?_
  refine gq_if_ne C (tgt := 82) d_M_twin_37 rfl (fun hb37 => ?_) (fun hb => by exact absurd hb (by decide))
  exact gq_vretE C hr rfl rfl (by decide) (by decide) d_M_twin_82

set_option maxHeartbeats 4000000 in
set_option maxRecDepth 100000 in
theorem c_M_letter (l : Launch) (Z : qZ) (hZ : qok (pX Z)) (V : qV) (Y : qY) (i n : Nat) (hi : i < n) (hn : n ≤ 40) (h22 : V 20 0 22 = nI n) (h1 : g_not (nI i) (V 20 0 22) = 0) (u : Nat) (hu : u < 4) (h2 : g_not (nI u) 4 = 0) : CT l y_M_letter { frames := 2, cells := 0, slots := 0, locals := 61 } (pX Z) (qA (pX Z)) [.ref (al Z 20 0), .int (nI i), .int (nI u)] V Y (.inl (some (.int (V 37 0 (4 * i + u))))) (qv V 20 0 0 0) Y := by
  refine CT.of (cc := b_M_letter) (maxL := 3) (ret := (some .int)) hZ (by decide) w_860 (Nat.le_of_ble_eq_true rfl) ?_
  intro p e s m below meth c C hr hex hlt
  refine gq_aload_n C d_M_letter_0 rfl ?_
  refine gq_iload_n C d_M_letter_1 rfl ?_
  refine gq_aload_n C d_M_letter_2 rfl ?_
  refine gq_get C (g := 20) (j := 0) (ci := 8) (k := 22) (v := .int (V 20 0 22)) (qm (by decide) (by decide)) rfl rfl in_M (by decide) w_683 rfl d_M_letter_3 ?_
  refine gq_callS C (st := [.ref (al Z 20 0)]) (fun _ h => h.elim) (c_M_not l Z hZ _ _ (nI i) (V 20 0 22)) w_761 w_762 w_763 w_9 ⟨by decide, by decide, (by decide +kernel : (parseMethodDescriptor y_M_not.desc).map (fun d => d.parameters.length) = some 2)⟩ ⟨by decide, by decide⟩ ⟨by decide, by decide⟩ rfl (Nat.le_of_ble_eq_true rfl) d_M_letter_6 ?_
  refine gq_if_eq C (tgt := 16) d_M_letter_9 rfl (fun hb9 => ?_) (fun hb => by exact absurd h1 hb)
  refine gq_iload_n C d_M_letter_16 rfl ?_
  refine gq_iconst C (v := 4) d_M_letter_17 (by decide) ?_
  refine gq_callS C (st := [.ref (al Z 20 0)]) (fun _ h => h.elim) (c_M_not l Z hZ _ _ (nI u) 4) w_761 w_762 w_763 w_9 ⟨by decide, by decide, (by decide +kernel : (parseMethodDescriptor y_M_not.desc).map (fun d => d.parameters.length) = some 2)⟩ ⟨by decide, by decide⟩ ⟨by decide, by decide⟩ rfl (Nat.le_of_ble_eq_true rfl) d_M_letter_18 ?_
  refine gq_if_eq C (tgt := 28) d_M_letter_21 rfl (fun hb21 => ?_) (fun hb => by exact absurd h2 hb)
  refine gq_iconst C (v := 0) d_M_letter_28 (by decide) ?_
  refine gq_put C (fun _ h => h) (g := 20) (j := 0) (ci := 8) (k := 0) ft_M k_M n_M (qm (by decide) (by decide)) rfl rfl in_M (by decide) w_661 rfl (k_M 0 (by decide)) rfl rfl (Nat.le_of_ble_eq_true rfl) rfl d_M_letter_29 ?_
  refine gq_aload_n C d_M_letter_32 rfl ?_
  refine gq_get C (g := 20) (j := 0) (ci := 8) (k := 0) (v := .int 0) (qm (by decide) (by decide)) rfl rfl in_M (by decide) w_661 rfl d_M_letter_33 ?_
  refine gq_if_eq C (tgt := 43) d_M_letter_36 rfl (fun hb36 => ?_) (fun hb => by exact absurd hb (by decide))
  refine gq_aload_n C d_M_letter_43 rfl ?_
  refine gq_get C (g := 20) (j := 0) (ci := 8) (k := 23) (v := .ref (al Z 37 0)) (qm (by decide) (by decide)) rfl rfl in_M (by decide) w_684 rfl d_M_letter_44 ?_
  refine gq_iconst C (v := 4) d_M_letter_47 (by decide) ?_
  refine gq_iload_n C d_M_letter_48 rfl ?_
  refine gq_imul C d_M_letter_49 ?_
  refine gq_iload_n C d_M_letter_50 rfl ?_
  refine gq_iadd C d_M_letter_51 ?_
  refine gq_iald C (g := 37) (j := 0) (a := (4 * i + u)) (t0 := 0) (qm (by decide) (by decide)) rfl rfl (by rw [show (4 : Int32) = nI 4 from rfl, pk_mul]; exact nI_add _ _) (by omega) (by decide) d_M_letter_52 ?_
  refine G.eqS (st' := [.int (V 37 0 (4 * i + u))]) rfl ?_
  exact gq_iret C hr (by decide) (by decide) d_M_letter_53

set_option maxHeartbeats 4000000 in
set_option maxRecDepth 100000 in
theorem c_M_letter_x2 (l : Launch) (Z : qZ) (hZ : qok (pX Z)) (V : qV) (Y : qY) (i n : Nat) (hi : i < n) (hn : n ≤ 40) (h22 : V 20 0 22 = nI n) (h1 : g_not (nI i) (V 20 0 22) = 0) (w : Int32) (h2 : ¬ g_not w 4 = 0) : CT l y_M_letter { frames := 2, cells := 0, slots := 0, locals := 61 } (pX Z) (qA (pX Z)) [.ref (al Z 20 0), .int (nI i), .int w] V Y (.inl (some (.int 0))) (qv V 20 0 0 2) Y := by
  refine CT.of (cc := b_M_letter) (maxL := 3) (ret := (some .int)) hZ (by decide) w_860 (Nat.le_of_ble_eq_true rfl) ?_
  intro p e s m below meth c C hr hex hlt
  refine gq_aload_n C d_M_letter_0 rfl ?_
  refine gq_iload_n C d_M_letter_1 rfl ?_
  refine gq_aload_n C d_M_letter_2 rfl ?_
  refine gq_get C (g := 20) (j := 0) (ci := 8) (k := 22) (v := .int (V 20 0 22)) (qm (by decide) (by decide)) rfl rfl in_M (by decide) w_683 rfl d_M_letter_3 ?_
  refine gq_callS C (st := [.ref (al Z 20 0)]) (fun _ h => h.elim) (c_M_not l Z hZ _ _ (nI i) (V 20 0 22)) w_761 w_762 w_763 w_9 ⟨by decide, by decide, (by decide +kernel : (parseMethodDescriptor y_M_not.desc).map (fun d => d.parameters.length) = some 2)⟩ ⟨by decide, by decide⟩ ⟨by decide, by decide⟩ rfl (Nat.le_of_ble_eq_true rfl) d_M_letter_6 ?_
  refine gq_if_eq C (tgt := 16) d_M_letter_9 rfl (fun hb9 => ?_) (fun hb => by exact absurd h1 hb)
  refine gq_iload_n C d_M_letter_16 rfl ?_
  refine gq_iconst C (v := 4) d_M_letter_17 (by decide) ?_
  refine gq_callS C (st := [.ref (al Z 20 0)]) (fun _ h => h.elim) (c_M_not l Z hZ _ _ w 4) w_761 w_762 w_763 w_9 ⟨by decide, by decide, (by decide +kernel : (parseMethodDescriptor y_M_not.desc).map (fun d => d.parameters.length) = some 2)⟩ ⟨by decide, by decide⟩ ⟨by decide, by decide⟩ rfl (Nat.le_of_ble_eq_true rfl) d_M_letter_18 ?_
  refine gq_if_eq C (tgt := 28) d_M_letter_21 rfl (fun hb => by exact absurd hb h2) (fun hb21 => ?_)
  refine gq_iconst C (v := 2) d_M_letter_24 (by decide) ?_
  refine gq_goto C (tgt := 29) d_M_letter_25 rfl ?_
  refine gq_put C (fun _ h => h) (g := 20) (j := 0) (ci := 8) (k := 0) ft_M k_M n_M (qm (by decide) (by decide)) rfl rfl in_M (by decide) w_661 rfl (k_M 0 (by decide)) rfl rfl (Nat.le_of_ble_eq_true rfl) rfl d_M_letter_29 ?_
  refine gq_aload_n C d_M_letter_32 rfl ?_
  refine gq_get C (g := 20) (j := 0) (ci := 8) (k := 0) (v := .int 2) (qm (by decide) (by decide)) rfl rfl in_M (by decide) w_661 rfl d_M_letter_33 ?_
  refine gq_if_eq C (tgt := 43) d_M_letter_36 rfl (fun hb => by exact absurd hb (by decide)) (fun hb36 => ?_)
  refine gq_iconst C (v := 0) d_M_letter_39 (by decide) ?_
  refine gq_goto C (tgt := 53) d_M_letter_40 rfl ?_
  exact gq_iretE C hr rfl rfl rfl (by decide) (by decide) d_M_letter_53

theorem g_cnt3 {V : qV} {i n : Nat} (hi : i < n) (hn : n ≤ 40) (c : Int32) : ∃ q, q ≤ 40 ∧ g_remove (qv V 20 0 0 c) i n 20 0 22 = nI q := by
  refine ⟨n - 1, by omega, ?_⟩
  unfold g_remove
  have : qu (qv (qv V 20 0 0 c) 20 0 22 (nI (n - 1))) 37 0 (g_cut ((qv V 20 0 0 c) 37 0) i n) 20 0 = qv (qv V 20 0 0 c) 20 0 22 (nI (n - 1)) 20 0 := by simp [qu]
  rw [this, qv_at, if_pos ⟨rfl, rfl, rfl⟩]

set_option maxHeartbeats 4000000 in
set_option maxRecDepth 100000 in
theorem c_M_deliver0 (l : Launch) (Z : qZ) (hZ : qok (pX Z)) (V : qV) (Y : qY) (i n : Nat) (hi : i < n) (hn : n ≤ 40) (h22 : V 20 0 22 = nI n) (h1 : g_not (nI i) (V 20 0 22) = 0) (t : Nat) (ht : t < 4) (h2 : V 37 0 (4 * i + 1) = nI t) (hk : V 37 0 (4 * i) = 0) : CT l y_M_deliver { frames := 5, cells := 0, slots := 0, locals := 127 } (pX Z) (qA (pX Z)) [.ref (al Z 20 0), .int (nI i)] V Y (.inl none) (if (g_remove (qv V 20 0 0 0) i n) 26 0 t = V 37 0 (4 * i + 2) - 1 then qv (g_remove (qv V 20 0 0 0) i n) 26 0 t (V 37 0 (4 * i + 2)) else g_remove (qv V 20 0 0 0) i n) Y := by
  refine CT.of (cc := b_M_deliver) (maxL := 6) (ret := none) hZ (by decide) w_836 (Nat.le_of_ble_eq_true rfl) ?_
  intro p e s m below meth c C hr hex hlt
  refine gq_aload_n C d_M_deliver_0 rfl ?_
  refine gq_iload_n C d_M_deliver_1 rfl ?_
  refine gq_aload_n C d_M_deliver_2 rfl ?_
  refine gq_get C (g := 20) (j := 0) (ci := 8) (k := 22) (v := .int (V 20 0 22)) (qm (by decide) (by decide)) rfl rfl in_M (by decide) w_683 rfl d_M_deliver_3 ?_
  refine gq_callS C (st := [.ref (al Z 20 0)]) (fun _ h => h.elim) (c_M_not l Z hZ _ _ (nI i) (V 20 0 22)) w_761 w_762 w_763 w_9 ⟨by decide, by decide, (by decide +kernel : (parseMethodDescriptor y_M_not.desc).map (fun d => d.parameters.length) = some 2)⟩ ⟨by decide, by decide⟩ ⟨by decide, by decide⟩ rfl (Nat.le_of_ble_eq_true rfl) d_M_deliver_6 ?_
  refine gq_if_eq C (tgt := 16) d_M_deliver_9 rfl (fun hb9 => ?_) (fun hb => by exact absurd h1 hb)
  refine gq_iconst C (v := 0) d_M_deliver_16 (by decide) ?_
  refine gq_put C (fun _ h => h) (g := 20) (j := 0) (ci := 8) (k := 0) ft_M k_M n_M (qm (by decide) (by decide)) rfl rfl in_M (by decide) w_661 rfl (k_M 0 (by decide)) rfl rfl (Nat.le_of_ble_eq_true rfl) rfl d_M_deliver_17 ?_
  refine gq_aload_n C d_M_deliver_20 rfl ?_
  refine gq_get C (g := 20) (j := 0) (ci := 8) (k := 0) (v := .int 0) (qm (by decide) (by decide)) rfl rfl in_M (by decide) w_661 rfl d_M_deliver_21 ?_
  refine gq_if_eq C (tgt := 28) d_M_deliver_24 rfl (fun hb24 => ?_) (fun hb => by exact absurd hb (by decide))
  refine gq_aload_n C d_M_deliver_28 rfl ?_
  refine gq_get C (g := 20) (j := 0) (ci := 8) (k := 23) (v := .ref (al Z 37 0)) (qm (by decide) (by decide)) rfl rfl in_M (by decide) w_684 rfl d_M_deliver_29 ?_
  refine gq_iconst C (v := 4) d_M_deliver_32 (by decide) ?_
  refine gq_iload_n C d_M_deliver_33 rfl ?_
  refine gq_imul C d_M_deliver_34 ?_
  refine gq_iald C (g := 37) (j := 0) (a := (4 * i)) (t0 := 0) (qm (by decide) (by decide)) rfl rfl (by rw [show (4 : Int32) = nI 4 from rfl, pk_mul]) (by omega) (by decide) d_M_deliver_35 ?_
  refine G.eqS (st' := [.int (V 37 0 (4 * i))]) rfl ?_
  refine gq_istore_n C (lo' := [(2, .int (V 37 0 (4 * i))), (0, .ref (al Z 20 0)), (1, .int (nI i))]) d_M_deliver_36 rfl (by decide) rfl ?_
  refine gq_aload_n C d_M_deliver_37 rfl ?_
  refine gq_get C (g := 20) (j := 0) (ci := 8) (k := 23) (v := .ref (al Z 37 0)) (qm (by decide) (by decide)) rfl rfl in_M (by decide) w_684 rfl d_M_deliver_38 ?_
  refine gq_iconst C (v := 4) d_M_deliver_41 (by decide) ?_
  refine gq_iload_n C d_M_deliver_42 rfl ?_
  refine gq_imul C d_M_deliver_43 ?_
  refine gq_iconst C (v := 1) d_M_deliver_44 (by decide) ?_
  refine gq_iadd C d_M_deliver_45 ?_
  refine gq_iald C (g := 37) (j := 0) (a := (4 * i + 1)) (t0 := 0) (qm (by decide) (by decide)) rfl rfl (by rw [show (4 : Int32) = nI 4 from rfl, pk_mul]; exact nI_add _ _) (by omega) (by decide) d_M_deliver_46 ?_
  refine G.eqS (st' := [.int (V 37 0 (4 * i + 1))]) rfl ?_
  refine gq_istore_n C (lo' := [(3, .int (V 37 0 (4 * i + 1))), (2, .int (V 37 0 (4 * i))), (0, .ref (al Z 20 0)), (1, .int (nI i))]) d_M_deliver_47 rfl (by decide) rfl ?_
  refine gq_aload_n C d_M_deliver_48 rfl ?_
  refine gq_get C (g := 20) (j := 0) (ci := 8) (k := 23) (v := .ref (al Z 37 0)) (qm (by decide) (by decide)) rfl rfl in_M (by decide) w_684 rfl d_M_deliver_49 ?_
  refine gq_iconst C (v := 4) d_M_deliver_52 (by decide) ?_
  refine gq_iload_n C d_M_deliver_53 rfl ?_
  refine gq_imul C d_M_deliver_54 ?_
  refine gq_iconst C (v := 2) d_M_deliver_55 (by decide) ?_
  refine gq_iadd C d_M_deliver_56 ?_
  refine gq_iald C (g := 37) (j := 0) (a := (4 * i + 2)) (t0 := 0) (qm (by decide) (by decide)) rfl rfl (by rw [show (4 : Int32) = nI 4 from rfl, pk_mul]; exact nI_add _ _) (by omega) (by decide) d_M_deliver_57 ?_
  refine G.eqS (st' := [.int (V 37 0 (4 * i + 2))]) rfl ?_
  refine gq_istore C (lo' := [(4, .int (V 37 0 (4 * i + 2))), (3, .int (V 37 0 (4 * i + 1))), (2, .int (V 37 0 (4 * i))), (0, .ref (al Z 20 0)), (1, .int (nI i))]) d_M_deliver_58 (by decide) rfl ?_
  refine gq_aload_n C d_M_deliver_60 rfl ?_
  refine gq_get C (g := 20) (j := 0) (ci := 8) (k := 23) (v := .ref (al Z 37 0)) (qm (by decide) (by decide)) rfl rfl in_M (by decide) w_684 rfl d_M_deliver_61 ?_
  refine gq_iconst C (v := 4) d_M_deliver_64 (by decide) ?_
  refine gq_iload_n C d_M_deliver_65 rfl ?_
  refine gq_imul C d_M_deliver_66 ?_
  refine gq_iconst C (v := 3) d_M_deliver_67 (by decide) ?_
  refine gq_iadd C d_M_deliver_68 ?_
  refine gq_iald C (g := 37) (j := 0) (a := (4 * i + 3)) (t0 := 0) (qm (by decide) (by decide)) rfl rfl (by rw [show (4 : Int32) = nI 4 from rfl, pk_mul]; exact nI_add _ _) (by omega) (by decide) d_M_deliver_69 ?_
  refine G.eqS (st' := [.int (V 37 0 (4 * i + 3))]) rfl ?_
  refine gq_istore C (lo' := [(5, .int (V 37 0 (4 * i + 3))), (4, .int (V 37 0 (4 * i + 2))), (3, .int (V 37 0 (4 * i + 1))), (2, .int (V 37 0 (4 * i))), (0, .ref (al Z 20 0)), (1, .int (nI i))]) d_M_deliver_70 (by decide) rfl ?_
  refine gq_aload_n C d_M_deliver_72 rfl ?_
  refine gq_iload_n C d_M_deliver_73 rfl ?_
  refine gq_callV C (st := []) (fun _ h => h) (c_M_remove l Z hZ _ _ i n hi hn (by simpa [qv_at] using h22)) (qm (by decide) (by decide)) rfl rfl w_837 w_839 ws_M_remove w_840 w_9 ⟨by decide, by decide, (by decide +kernel : (parseMethodDescriptor y_M_remove.desc).map (fun d => d.parameters.length) = some 1)⟩ ⟨by decide, by decide⟩ ⟨by decide, by decide⟩ rfl (Nat.le_of_ble_eq_true rfl) d_M_deliver_74 ?_
  refine gq_aload_n C d_M_deliver_77 rfl ?_
  refine gq_iload_n C d_M_deliver_78 rfl ?_
  refine gq_iload_n C d_M_deliver_79 rfl ?_
  refine gq_iload C d_M_deliver_80 rfl ?_
  refine gq_iload C d_M_deliver_82 rfl ?_
  refine gq_callV C (st := []) (fun _ h => h) (c_M_comes0e l Z hZ _ _ t ht _ _ _ _ hk h2) (qm (by decide) (by decide)) rfl rfl w_841 w_843 ws_M_comes w_844 w_9 ⟨by decide, by decide, (by decide +kernel : (parseMethodDescriptor y_M_comes.desc).map (fun d => d.parameters.length) = some 4)⟩ ⟨by decide, by decide⟩ ⟨by decide, by decide⟩ rfl (Nat.le_of_ble_eq_true rfl) d_M_deliver_84 ?_
  exact gq_vret C hr (by decide) (by decide) d_M_deliver_87

set_option maxHeartbeats 4000000 in
set_option maxRecDepth 100000 in
theorem c_M_deliver2 (l : Launch) (Z : qZ) (hZ : qok (pX Z)) (V : qV) (Y : qY) (i n : Nat) (hi : i < n) (hn : n ≤ 40) (h22 : V 20 0 22 = nI n) (h1 : g_not (nI i) (V 20 0 22) = 0) (t : Nat) (ht : t < 4) (h2 : V 37 0 (4 * i + 1) = nI t) (hk : V 37 0 (4 * i) = 2) : CT l y_M_deliver { frames := 5, cells := 0, slots := 0, locals := 127 } (pX Z) (qA (pX Z)) [.ref (al Z 20 0), .int (nI i)] V Y (.inl none) (if V 37 0 (4 * i + 3) = (g_remove (qv V 20 0 0 0) i n) 28 0 t ∧ (g_remove (qv V 20 0 0 0) i n) 29 0 t = 0 then qv (g_remove (qv V 20 0 0 0) i n) 31 0 t (V 37 0 (4 * i + 2)) else g_remove (qv V 20 0 0 0) i n) Y := by
  refine CT.of (cc := b_M_deliver) (maxL := 6) (ret := none) hZ (by decide) w_836 (Nat.le_of_ble_eq_true rfl) ?_
  intro p e s m below meth c C hr hex hlt
  refine gq_aload_n C d_M_deliver_0 rfl ?_
  refine gq_iload_n C d_M_deliver_1 rfl ?_
  refine gq_aload_n C d_M_deliver_2 rfl ?_
  refine gq_get C (g := 20) (j := 0) (ci := 8) (k := 22) (v := .int (V 20 0 22)) (qm (by decide) (by decide)) rfl rfl in_M (by decide) w_683 rfl d_M_deliver_3 ?_
  refine gq_callS C (st := [.ref (al Z 20 0)]) (fun _ h => h.elim) (c_M_not l Z hZ _ _ (nI i) (V 20 0 22)) w_761 w_762 w_763 w_9 ⟨by decide, by decide, (by decide +kernel : (parseMethodDescriptor y_M_not.desc).map (fun d => d.parameters.length) = some 2)⟩ ⟨by decide, by decide⟩ ⟨by decide, by decide⟩ rfl (Nat.le_of_ble_eq_true rfl) d_M_deliver_6 ?_
  refine gq_if_eq C (tgt := 16) d_M_deliver_9 rfl (fun hb9 => ?_) (fun hb => by exact absurd h1 hb)
  refine gq_iconst C (v := 0) d_M_deliver_16 (by decide) ?_
  refine gq_put C (fun _ h => h) (g := 20) (j := 0) (ci := 8) (k := 0) ft_M k_M n_M (qm (by decide) (by decide)) rfl rfl in_M (by decide) w_661 rfl (k_M 0 (by decide)) rfl rfl (Nat.le_of_ble_eq_true rfl) rfl d_M_deliver_17 ?_
  refine gq_aload_n C d_M_deliver_20 rfl ?_
  refine gq_get C (g := 20) (j := 0) (ci := 8) (k := 0) (v := .int 0) (qm (by decide) (by decide)) rfl rfl in_M (by decide) w_661 rfl d_M_deliver_21 ?_
  refine gq_if_eq C (tgt := 28) d_M_deliver_24 rfl (fun hb24 => ?_) (fun hb => by exact absurd hb (by decide))
  refine gq_aload_n C d_M_deliver_28 rfl ?_
  refine gq_get C (g := 20) (j := 0) (ci := 8) (k := 23) (v := .ref (al Z 37 0)) (qm (by decide) (by decide)) rfl rfl in_M (by decide) w_684 rfl d_M_deliver_29 ?_
  refine gq_iconst C (v := 4) d_M_deliver_32 (by decide) ?_
  refine gq_iload_n C d_M_deliver_33 rfl ?_
  refine gq_imul C d_M_deliver_34 ?_
  refine gq_iald C (g := 37) (j := 0) (a := (4 * i)) (t0 := 0) (qm (by decide) (by decide)) rfl rfl (by rw [show (4 : Int32) = nI 4 from rfl, pk_mul]) (by omega) (by decide) d_M_deliver_35 ?_
  refine G.eqS (st' := [.int (V 37 0 (4 * i))]) rfl ?_
  refine gq_istore_n C (lo' := [(2, .int (V 37 0 (4 * i))), (0, .ref (al Z 20 0)), (1, .int (nI i))]) d_M_deliver_36 rfl (by decide) rfl ?_
  refine gq_aload_n C d_M_deliver_37 rfl ?_
  refine gq_get C (g := 20) (j := 0) (ci := 8) (k := 23) (v := .ref (al Z 37 0)) (qm (by decide) (by decide)) rfl rfl in_M (by decide) w_684 rfl d_M_deliver_38 ?_
  refine gq_iconst C (v := 4) d_M_deliver_41 (by decide) ?_
  refine gq_iload_n C d_M_deliver_42 rfl ?_
  refine gq_imul C d_M_deliver_43 ?_
  refine gq_iconst C (v := 1) d_M_deliver_44 (by decide) ?_
  refine gq_iadd C d_M_deliver_45 ?_
  refine gq_iald C (g := 37) (j := 0) (a := (4 * i + 1)) (t0 := 0) (qm (by decide) (by decide)) rfl rfl (by rw [show (4 : Int32) = nI 4 from rfl, pk_mul]; exact nI_add _ _) (by omega) (by decide) d_M_deliver_46 ?_
  refine G.eqS (st' := [.int (V 37 0 (4 * i + 1))]) rfl ?_
  refine gq_istore_n C (lo' := [(3, .int (V 37 0 (4 * i + 1))), (2, .int (V 37 0 (4 * i))), (0, .ref (al Z 20 0)), (1, .int (nI i))]) d_M_deliver_47 rfl (by decide) rfl ?_
  refine gq_aload_n C d_M_deliver_48 rfl ?_
  refine gq_get C (g := 20) (j := 0) (ci := 8) (k := 23) (v := .ref (al Z 37 0)) (qm (by decide) (by decide)) rfl rfl in_M (by decide) w_684 rfl d_M_deliver_49 ?_
  refine gq_iconst C (v := 4) d_M_deliver_52 (by decide) ?_
  refine gq_iload_n C d_M_deliver_53 rfl ?_
  refine gq_imul C d_M_deliver_54 ?_
  refine gq_iconst C (v := 2) d_M_deliver_55 (by decide) ?_
  refine gq_iadd C d_M_deliver_56 ?_
  refine gq_iald C (g := 37) (j := 0) (a := (4 * i + 2)) (t0 := 0) (qm (by decide) (by decide)) rfl rfl (by rw [show (4 : Int32) = nI 4 from rfl, pk_mul]; exact nI_add _ _) (by omega) (by decide) d_M_deliver_57 ?_
  refine G.eqS (st' := [.int (V 37 0 (4 * i + 2))]) rfl ?_
  refine gq_istore C (lo' := [(4, .int (V 37 0 (4 * i + 2))), (3, .int (V 37 0 (4 * i + 1))), (2, .int (V 37 0 (4 * i))), (0, .ref (al Z 20 0)), (1, .int (nI i))]) d_M_deliver_58 (by decide) rfl ?_
  refine gq_aload_n C d_M_deliver_60 rfl ?_
  refine gq_get C (g := 20) (j := 0) (ci := 8) (k := 23) (v := .ref (al Z 37 0)) (qm (by decide) (by decide)) rfl rfl in_M (by decide) w_684 rfl d_M_deliver_61 ?_
  refine gq_iconst C (v := 4) d_M_deliver_64 (by decide) ?_
  refine gq_iload_n C d_M_deliver_65 rfl ?_
  refine gq_imul C d_M_deliver_66 ?_
  refine gq_iconst C (v := 3) d_M_deliver_67 (by decide) ?_
  refine gq_iadd C d_M_deliver_68 ?_
  refine gq_iald C (g := 37) (j := 0) (a := (4 * i + 3)) (t0 := 0) (qm (by decide) (by decide)) rfl rfl (by rw [show (4 : Int32) = nI 4 from rfl, pk_mul]; exact nI_add _ _) (by omega) (by decide) d_M_deliver_69 ?_
  refine G.eqS (st' := [.int (V 37 0 (4 * i + 3))]) rfl ?_
  refine gq_istore C (lo' := [(5, .int (V 37 0 (4 * i + 3))), (4, .int (V 37 0 (4 * i + 2))), (3, .int (V 37 0 (4 * i + 1))), (2, .int (V 37 0 (4 * i))), (0, .ref (al Z 20 0)), (1, .int (nI i))]) d_M_deliver_70 (by decide) rfl ?_
  refine gq_aload_n C d_M_deliver_72 rfl ?_
  refine gq_iload_n C d_M_deliver_73 rfl ?_
  refine gq_callV C (st := []) (fun _ h => h) (c_M_remove l Z hZ _ _ i n hi hn (by simpa [qv_at] using h22)) (qm (by decide) (by decide)) rfl rfl w_837 w_839 ws_M_remove w_840 w_9 ⟨by decide, by decide, (by decide +kernel : (parseMethodDescriptor y_M_remove.desc).map (fun d => d.parameters.length) = some 1)⟩ ⟨by decide, by decide⟩ ⟨by decide, by decide⟩ rfl (Nat.le_of_ble_eq_true rfl) d_M_deliver_74 ?_
  refine gq_aload_n C d_M_deliver_77 rfl ?_
  refine gq_iload_n C d_M_deliver_78 rfl ?_
  refine gq_iload_n C d_M_deliver_79 rfl ?_
  refine gq_iload C d_M_deliver_80 rfl ?_
  refine gq_iload C d_M_deliver_82 rfl ?_
  refine gq_callV C (st := []) (fun _ h => h) (c_M_comes2e l Z hZ _ _ t ht _ _ _ _ hk h2) (qm (by decide) (by decide)) rfl rfl w_841 w_843 ws_M_comes w_844 w_9 ⟨by decide, by decide, (by decide +kernel : (parseMethodDescriptor y_M_comes.desc).map (fun d => d.parameters.length) = some 4)⟩ ⟨by decide, by decide⟩ ⟨by decide, by decide⟩ rfl (Nat.le_of_ble_eq_true rfl) d_M_deliver_84 ?_
  exact gq_vret C hr (by decide) (by decide) d_M_deliver_87

set_option maxHeartbeats 4000000 in
set_option maxRecDepth 100000 in
theorem c_M_deliver1 (l : Launch) (Z : qZ) (hZ : qok (pX Z)) (V : qV) (Y : qY) (i n : Nat) (hi : i < n) (hn : n ≤ 40) (h22 : V 20 0 22 = nI n) (h1 : g_not (nI i) (V 20 0 22) = 0) (t : Nat) (ht : t < 4) (h2 : V 37 0 (4 * i + 1) = nI t) (hk : V 37 0 (4 * i) = 1) : CT l y_M_deliver { frames := 5, cells := 0, slots := 0, locals := 127 } (pX Z) (qA (pX Z)) [.ref (al Z 20 0), .int (nI i)] V Y (.inl none) (g_look (g_asked (g_remove (qv V 20 0 0 0) i n) t (V 37 0 (4 * i + 3)))) Y := by
  refine CT.of (cc := b_M_deliver) (maxL := 6) (ret := none) hZ (by decide) w_836 (Nat.le_of_ble_eq_true rfl) ?_
  intro p e s m below meth c C hr hex hlt
  refine gq_aload_n C d_M_deliver_0 rfl ?_
  refine gq_iload_n C d_M_deliver_1 rfl ?_
  refine gq_aload_n C d_M_deliver_2 rfl ?_
  refine gq_get C (g := 20) (j := 0) (ci := 8) (k := 22) (v := .int (V 20 0 22)) (qm (by decide) (by decide)) rfl rfl in_M (by decide) w_683 rfl d_M_deliver_3 ?_
  refine gq_callS C (st := [.ref (al Z 20 0)]) (fun _ h => h.elim) (c_M_not l Z hZ _ _ (nI i) (V 20 0 22)) w_761 w_762 w_763 w_9 ⟨by decide, by decide, (by decide +kernel : (parseMethodDescriptor y_M_not.desc).map (fun d => d.parameters.length) = some 2)⟩ ⟨by decide, by decide⟩ ⟨by decide, by decide⟩ rfl (Nat.le_of_ble_eq_true rfl) d_M_deliver_6 ?_
  refine gq_if_eq C (tgt := 16) d_M_deliver_9 rfl (fun hb9 => ?_) (fun hb => by exact absurd h1 hb)
  refine gq_iconst C (v := 0) d_M_deliver_16 (by decide) ?_
  refine gq_put C (fun _ h => h) (g := 20) (j := 0) (ci := 8) (k := 0) ft_M k_M n_M (qm (by decide) (by decide)) rfl rfl in_M (by decide) w_661 rfl (k_M 0 (by decide)) rfl rfl (Nat.le_of_ble_eq_true rfl) rfl d_M_deliver_17 ?_
  refine gq_aload_n C d_M_deliver_20 rfl ?_
  refine gq_get C (g := 20) (j := 0) (ci := 8) (k := 0) (v := .int 0) (qm (by decide) (by decide)) rfl rfl in_M (by decide) w_661 rfl d_M_deliver_21 ?_
  refine gq_if_eq C (tgt := 28) d_M_deliver_24 rfl (fun hb24 => ?_) (fun hb => by exact absurd hb (by decide))
  refine gq_aload_n C d_M_deliver_28 rfl ?_
  refine gq_get C (g := 20) (j := 0) (ci := 8) (k := 23) (v := .ref (al Z 37 0)) (qm (by decide) (by decide)) rfl rfl in_M (by decide) w_684 rfl d_M_deliver_29 ?_
  refine gq_iconst C (v := 4) d_M_deliver_32 (by decide) ?_
  refine gq_iload_n C d_M_deliver_33 rfl ?_
  refine gq_imul C d_M_deliver_34 ?_
  refine gq_iald C (g := 37) (j := 0) (a := (4 * i)) (t0 := 0) (qm (by decide) (by decide)) rfl rfl (by rw [show (4 : Int32) = nI 4 from rfl, pk_mul]) (by omega) (by decide) d_M_deliver_35 ?_
  refine G.eqS (st' := [.int (V 37 0 (4 * i))]) rfl ?_
  refine gq_istore_n C (lo' := [(2, .int (V 37 0 (4 * i))), (0, .ref (al Z 20 0)), (1, .int (nI i))]) d_M_deliver_36 rfl (by decide) rfl ?_
  refine gq_aload_n C d_M_deliver_37 rfl ?_
  refine gq_get C (g := 20) (j := 0) (ci := 8) (k := 23) (v := .ref (al Z 37 0)) (qm (by decide) (by decide)) rfl rfl in_M (by decide) w_684 rfl d_M_deliver_38 ?_
  refine gq_iconst C (v := 4) d_M_deliver_41 (by decide) ?_
  refine gq_iload_n C d_M_deliver_42 rfl ?_
  refine gq_imul C d_M_deliver_43 ?_
  refine gq_iconst C (v := 1) d_M_deliver_44 (by decide) ?_
  refine gq_iadd C d_M_deliver_45 ?_
  refine gq_iald C (g := 37) (j := 0) (a := (4 * i + 1)) (t0 := 0) (qm (by decide) (by decide)) rfl rfl (by rw [show (4 : Int32) = nI 4 from rfl, pk_mul]; exact nI_add _ _) (by omega) (by decide) d_M_deliver_46 ?_
  refine G.eqS (st' := [.int (V 37 0 (4 * i + 1))]) rfl ?_
  refine gq_istore_n C (lo' := [(3, .int (V 37 0 (4 * i + 1))), (2, .int (V 37 0 (4 * i))), (0, .ref (al Z 20 0)), (1, .int (nI i))]) d_M_deliver_47 rfl (by decide) rfl ?_
  refine gq_aload_n C d_M_deliver_48 rfl ?_
  refine gq_get C (g := 20) (j := 0) (ci := 8) (k := 23) (v := .ref (al Z 37 0)) (qm (by decide) (by decide)) rfl rfl in_M (by decide) w_684 rfl d_M_deliver_49 ?_
  refine gq_iconst C (v := 4) d_M_deliver_52 (by decide) ?_
  refine gq_iload_n C d_M_deliver_53 rfl ?_
  refine gq_imul C d_M_deliver_54 ?_
  refine gq_iconst C (v := 2) d_M_deliver_55 (by decide) ?_
  refine gq_iadd C d_M_deliver_56 ?_
  refine gq_iald C (g := 37) (j := 0) (a := (4 * i + 2)) (t0 := 0) (qm (by decide) (by decide)) rfl rfl (by rw [show (4 : Int32) = nI 4 from rfl, pk_mul]; exact nI_add _ _) (by omega) (by decide) d_M_deliver_57 ?_
  refine G.eqS (st' := [.int (V 37 0 (4 * i + 2))]) rfl ?_
  refine gq_istore C (lo' := [(4, .int (V 37 0 (4 * i + 2))), (3, .int (V 37 0 (4 * i + 1))), (2, .int (V 37 0 (4 * i))), (0, .ref (al Z 20 0)), (1, .int (nI i))]) d_M_deliver_58 (by decide) rfl ?_
  refine gq_aload_n C d_M_deliver_60 rfl ?_
  refine gq_get C (g := 20) (j := 0) (ci := 8) (k := 23) (v := .ref (al Z 37 0)) (qm (by decide) (by decide)) rfl rfl in_M (by decide) w_684 rfl d_M_deliver_61 ?_
  refine gq_iconst C (v := 4) d_M_deliver_64 (by decide) ?_
  refine gq_iload_n C d_M_deliver_65 rfl ?_
  refine gq_imul C d_M_deliver_66 ?_
  refine gq_iconst C (v := 3) d_M_deliver_67 (by decide) ?_
  refine gq_iadd C d_M_deliver_68 ?_
  refine gq_iald C (g := 37) (j := 0) (a := (4 * i + 3)) (t0 := 0) (qm (by decide) (by decide)) rfl rfl (by rw [show (4 : Int32) = nI 4 from rfl, pk_mul]; exact nI_add _ _) (by omega) (by decide) d_M_deliver_69 ?_
  refine G.eqS (st' := [.int (V 37 0 (4 * i + 3))]) rfl ?_
  refine gq_istore C (lo' := [(5, .int (V 37 0 (4 * i + 3))), (4, .int (V 37 0 (4 * i + 2))), (3, .int (V 37 0 (4 * i + 1))), (2, .int (V 37 0 (4 * i))), (0, .ref (al Z 20 0)), (1, .int (nI i))]) d_M_deliver_70 (by decide) rfl ?_
  refine gq_aload_n C d_M_deliver_72 rfl ?_
  refine gq_iload_n C d_M_deliver_73 rfl ?_
  refine gq_callV C (st := []) (fun _ h => h) (c_M_remove l Z hZ _ _ i n hi hn (by simpa [qv_at] using h22)) (qm (by decide) (by decide)) rfl rfl w_837 w_839 ws_M_remove w_840 w_9 ⟨by decide, by decide, (by decide +kernel : (parseMethodDescriptor y_M_remove.desc).map (fun d => d.parameters.length) = some 1)⟩ ⟨by decide, by decide⟩ ⟨by decide, by decide⟩ rfl (Nat.le_of_ble_eq_true rfl) d_M_deliver_74 ?_
  refine gq_aload_n C d_M_deliver_77 rfl ?_
  refine gq_iload_n C d_M_deliver_78 rfl ?_
  refine gq_iload_n C d_M_deliver_79 rfl ?_
  refine gq_iload C d_M_deliver_80 rfl ?_
  refine gq_iload C d_M_deliver_82 rfl ?_
  refine gq_callV C (st := []) (fun _ h => h) (c_M_comes1e l Z hZ _ _ t ht _ _ (g_cnt3 hi hn _) _ _ hk h2) (qm (by decide) (by decide)) rfl rfl w_841 w_843 ws_M_comes w_844 w_9 ⟨by decide, by decide, (by decide +kernel : (parseMethodDescriptor y_M_comes.desc).map (fun d => d.parameters.length) = some 4)⟩ ⟨by decide, by decide⟩ ⟨by decide, by decide⟩ rfl (Nat.le_of_ble_eq_true rfl) d_M_deliver_84 ?_
  exact gq_vret C hr (by decide) (by decide) d_M_deliver_87

set_option maxHeartbeats 4000000 in
set_option maxRecDepth 100000 in
theorem c_M_deliver3 (l : Launch) (Z : qZ) (hZ : qok (pX Z)) (V : qV) (Y : qY) (i n : Nat) (hi : i < n) (hn : n ≤ 40) (h22 : V 20 0 22 = nI n) (h1 : g_not (nI i) (V 20 0 22) = 0) (t : Nat) (ht : t < 4) (h2 : V 37 0 (4 * i + 1) = nI t) (hk : V 37 0 (4 * i) = 3) : CT l y_M_deliver { frames := 5, cells := 0, slots := 0, locals := 127 } (pX Z) (qA (pX Z)) [.ref (al Z 20 0), .int (nI i)] V Y (.inl none) (g_look (if V 37 0 (4 * i + 2) ≤ (g_remove (qv V 20 0 0 0) i n) 36 0 t then g_remove (qv V 20 0 0 0) i n else qv (g_remove (qv V 20 0 0 0) i n) 36 0 t (V 37 0 (4 * i + 2)))) Y := by
  refine CT.of (cc := b_M_deliver) (maxL := 6) (ret := none) hZ (by decide) w_836 (Nat.le_of_ble_eq_true rfl) ?_
  intro p e s m below meth c C hr hex hlt
  refine gq_aload_n C d_M_deliver_0 rfl ?_
  refine gq_iload_n C d_M_deliver_1 rfl ?_
  refine gq_aload_n C d_M_deliver_2 rfl ?_
  refine gq_get C (g := 20) (j := 0) (ci := 8) (k := 22) (v := .int (V 20 0 22)) (qm (by decide) (by decide)) rfl rfl in_M (by decide) w_683 rfl d_M_deliver_3 ?_
  refine gq_callS C (st := [.ref (al Z 20 0)]) (fun _ h => h.elim) (c_M_not l Z hZ _ _ (nI i) (V 20 0 22)) w_761 w_762 w_763 w_9 ⟨by decide, by decide, (by decide +kernel : (parseMethodDescriptor y_M_not.desc).map (fun d => d.parameters.length) = some 2)⟩ ⟨by decide, by decide⟩ ⟨by decide, by decide⟩ rfl (Nat.le_of_ble_eq_true rfl) d_M_deliver_6 ?_
  refine gq_if_eq C (tgt := 16) d_M_deliver_9 rfl (fun hb9 => ?_) (fun hb => by exact absurd h1 hb)
  refine gq_iconst C (v := 0) d_M_deliver_16 (by decide) ?_
  refine gq_put C (fun _ h => h) (g := 20) (j := 0) (ci := 8) (k := 0) ft_M k_M n_M (qm (by decide) (by decide)) rfl rfl in_M (by decide) w_661 rfl (k_M 0 (by decide)) rfl rfl (Nat.le_of_ble_eq_true rfl) rfl d_M_deliver_17 ?_
  refine gq_aload_n C d_M_deliver_20 rfl ?_
  refine gq_get C (g := 20) (j := 0) (ci := 8) (k := 0) (v := .int 0) (qm (by decide) (by decide)) rfl rfl in_M (by decide) w_661 rfl d_M_deliver_21 ?_
  refine gq_if_eq C (tgt := 28) d_M_deliver_24 rfl (fun hb24 => ?_) (fun hb => by exact absurd hb (by decide))
  refine gq_aload_n C d_M_deliver_28 rfl ?_
  refine gq_get C (g := 20) (j := 0) (ci := 8) (k := 23) (v := .ref (al Z 37 0)) (qm (by decide) (by decide)) rfl rfl in_M (by decide) w_684 rfl d_M_deliver_29 ?_
  refine gq_iconst C (v := 4) d_M_deliver_32 (by decide) ?_
  refine gq_iload_n C d_M_deliver_33 rfl ?_
  refine gq_imul C d_M_deliver_34 ?_
  refine gq_iald C (g := 37) (j := 0) (a := (4 * i)) (t0 := 0) (qm (by decide) (by decide)) rfl rfl (by rw [show (4 : Int32) = nI 4 from rfl, pk_mul]) (by omega) (by decide) d_M_deliver_35 ?_
  refine G.eqS (st' := [.int (V 37 0 (4 * i))]) rfl ?_
  refine gq_istore_n C (lo' := [(2, .int (V 37 0 (4 * i))), (0, .ref (al Z 20 0)), (1, .int (nI i))]) d_M_deliver_36 rfl (by decide) rfl ?_
  refine gq_aload_n C d_M_deliver_37 rfl ?_
  refine gq_get C (g := 20) (j := 0) (ci := 8) (k := 23) (v := .ref (al Z 37 0)) (qm (by decide) (by decide)) rfl rfl in_M (by decide) w_684 rfl d_M_deliver_38 ?_
  refine gq_iconst C (v := 4) d_M_deliver_41 (by decide) ?_
  refine gq_iload_n C d_M_deliver_42 rfl ?_
  refine gq_imul C d_M_deliver_43 ?_
  refine gq_iconst C (v := 1) d_M_deliver_44 (by decide) ?_
  refine gq_iadd C d_M_deliver_45 ?_
  refine gq_iald C (g := 37) (j := 0) (a := (4 * i + 1)) (t0 := 0) (qm (by decide) (by decide)) rfl rfl (by rw [show (4 : Int32) = nI 4 from rfl, pk_mul]; exact nI_add _ _) (by omega) (by decide) d_M_deliver_46 ?_
  refine G.eqS (st' := [.int (V 37 0 (4 * i + 1))]) rfl ?_
  refine gq_istore_n C (lo' := [(3, .int (V 37 0 (4 * i + 1))), (2, .int (V 37 0 (4 * i))), (0, .ref (al Z 20 0)), (1, .int (nI i))]) d_M_deliver_47 rfl (by decide) rfl ?_
  refine gq_aload_n C d_M_deliver_48 rfl ?_
  refine gq_get C (g := 20) (j := 0) (ci := 8) (k := 23) (v := .ref (al Z 37 0)) (qm (by decide) (by decide)) rfl rfl in_M (by decide) w_684 rfl d_M_deliver_49 ?_
  refine gq_iconst C (v := 4) d_M_deliver_52 (by decide) ?_
  refine gq_iload_n C d_M_deliver_53 rfl ?_
  refine gq_imul C d_M_deliver_54 ?_
  refine gq_iconst C (v := 2) d_M_deliver_55 (by decide) ?_
  refine gq_iadd C d_M_deliver_56 ?_
  refine gq_iald C (g := 37) (j := 0) (a := (4 * i + 2)) (t0 := 0) (qm (by decide) (by decide)) rfl rfl (by rw [show (4 : Int32) = nI 4 from rfl, pk_mul]; exact nI_add _ _) (by omega) (by decide) d_M_deliver_57 ?_
  refine G.eqS (st' := [.int (V 37 0 (4 * i + 2))]) rfl ?_
  refine gq_istore C (lo' := [(4, .int (V 37 0 (4 * i + 2))), (3, .int (V 37 0 (4 * i + 1))), (2, .int (V 37 0 (4 * i))), (0, .ref (al Z 20 0)), (1, .int (nI i))]) d_M_deliver_58 (by decide) rfl ?_
  refine gq_aload_n C d_M_deliver_60 rfl ?_
  refine gq_get C (g := 20) (j := 0) (ci := 8) (k := 23) (v := .ref (al Z 37 0)) (qm (by decide) (by decide)) rfl rfl in_M (by decide) w_684 rfl d_M_deliver_61 ?_
  refine gq_iconst C (v := 4) d_M_deliver_64 (by decide) ?_
  refine gq_iload_n C d_M_deliver_65 rfl ?_
  refine gq_imul C d_M_deliver_66 ?_
  refine gq_iconst C (v := 3) d_M_deliver_67 (by decide) ?_
  refine gq_iadd C d_M_deliver_68 ?_
  refine gq_iald C (g := 37) (j := 0) (a := (4 * i + 3)) (t0 := 0) (qm (by decide) (by decide)) rfl rfl (by rw [show (4 : Int32) = nI 4 from rfl, pk_mul]; exact nI_add _ _) (by omega) (by decide) d_M_deliver_69 ?_
  refine G.eqS (st' := [.int (V 37 0 (4 * i + 3))]) rfl ?_
  refine gq_istore C (lo' := [(5, .int (V 37 0 (4 * i + 3))), (4, .int (V 37 0 (4 * i + 2))), (3, .int (V 37 0 (4 * i + 1))), (2, .int (V 37 0 (4 * i))), (0, .ref (al Z 20 0)), (1, .int (nI i))]) d_M_deliver_70 (by decide) rfl ?_
  refine gq_aload_n C d_M_deliver_72 rfl ?_
  refine gq_iload_n C d_M_deliver_73 rfl ?_
  refine gq_callV C (st := []) (fun _ h => h) (c_M_remove l Z hZ _ _ i n hi hn (by simpa [qv_at] using h22)) (qm (by decide) (by decide)) rfl rfl w_837 w_839 ws_M_remove w_840 w_9 ⟨by decide, by decide, (by decide +kernel : (parseMethodDescriptor y_M_remove.desc).map (fun d => d.parameters.length) = some 1)⟩ ⟨by decide, by decide⟩ ⟨by decide, by decide⟩ rfl (Nat.le_of_ble_eq_true rfl) d_M_deliver_74 ?_
  refine gq_aload_n C d_M_deliver_77 rfl ?_
  refine gq_iload_n C d_M_deliver_78 rfl ?_
  refine gq_iload_n C d_M_deliver_79 rfl ?_
  refine gq_iload C d_M_deliver_80 rfl ?_
  refine gq_iload C d_M_deliver_82 rfl ?_
  refine gq_callV C (st := []) (fun _ h => h) (c_M_comes3e l Z hZ _ _ t ht _ _ _ _ hk h2) (qm (by decide) (by decide)) rfl rfl w_841 w_843 ws_M_comes w_844 w_9 ⟨by decide, by decide, (by decide +kernel : (parseMethodDescriptor y_M_comes.desc).map (fun d => d.parameters.length) = some 4)⟩ ⟨by decide, by decide⟩ ⟨by decide, by decide⟩ rfl (Nat.le_of_ble_eq_true rfl) d_M_deliver_84 ?_
  exact gq_vret C hr (by decide) (by decide) d_M_deliver_87

set_option maxHeartbeats 4000000 in
set_option maxRecDepth 100000 in
theorem c_M_deliver4 (l : Launch) (Z : qZ) (hZ : qok (pX Z)) (V : qV) (Y : qY) (i n : Nat) (hi : i < n) (hn : n ≤ 40) (h22 : V 20 0 22 = nI n) (h1 : g_not (nI i) (V 20 0 22) = 0) (t : Nat) (ht : t < 4) (h2 : V 37 0 (4 * i + 1) = nI t) (hk : V 37 0 (4 * i) = 4) : CT l y_M_deliver { frames := 5, cells := 0, slots := 0, locals := 127 } (pX Z) (qA (pX Z)) [.ref (al Z 20 0), .int (nI i)] V Y (.inl none) (g_look (if V 37 0 (4 * i + 3) = (g_remove (qv V 20 0 0 0) i n) 32 0 t then qv (g_remove (qv V 20 0 0 0) i n) 33 0 t 0 else g_remove (qv V 20 0 0 0) i n)) Y := by
  refine CT.of (cc := b_M_deliver) (maxL := 6) (ret := none) hZ (by decide) w_836 (Nat.le_of_ble_eq_true rfl) ?_
  intro p e s m below meth c C hr hex hlt
  refine gq_aload_n C d_M_deliver_0 rfl ?_
  refine gq_iload_n C d_M_deliver_1 rfl ?_
  refine gq_aload_n C d_M_deliver_2 rfl ?_
  refine gq_get C (g := 20) (j := 0) (ci := 8) (k := 22) (v := .int (V 20 0 22)) (qm (by decide) (by decide)) rfl rfl in_M (by decide) w_683 rfl d_M_deliver_3 ?_
  refine gq_callS C (st := [.ref (al Z 20 0)]) (fun _ h => h.elim) (c_M_not l Z hZ _ _ (nI i) (V 20 0 22)) w_761 w_762 w_763 w_9 ⟨by decide, by decide, (by decide +kernel : (parseMethodDescriptor y_M_not.desc).map (fun d => d.parameters.length) = some 2)⟩ ⟨by decide, by decide⟩ ⟨by decide, by decide⟩ rfl (Nat.le_of_ble_eq_true rfl) d_M_deliver_6 ?_
  refine gq_if_eq C (tgt := 16) d_M_deliver_9 rfl (fun hb9 => ?_) (fun hb => by exact absurd h1 hb)
  refine gq_iconst C (v := 0) d_M_deliver_16 (by decide) ?_
  refine gq_put C (fun _ h => h) (g := 20) (j := 0) (ci := 8) (k := 0) ft_M k_M n_M (qm (by decide) (by decide)) rfl rfl in_M (by decide) w_661 rfl (k_M 0 (by decide)) rfl rfl (Nat.le_of_ble_eq_true rfl) rfl d_M_deliver_17 ?_
  refine gq_aload_n C d_M_deliver_20 rfl ?_
  refine gq_get C (g := 20) (j := 0) (ci := 8) (k := 0) (v := .int 0) (qm (by decide) (by decide)) rfl rfl in_M (by decide) w_661 rfl d_M_deliver_21 ?_
  refine gq_if_eq C (tgt := 28) d_M_deliver_24 rfl (fun hb24 => ?_) (fun hb => by exact absurd hb (by decide))
  refine gq_aload_n C d_M_deliver_28 rfl ?_
  refine gq_get C (g := 20) (j := 0) (ci := 8) (k := 23) (v := .ref (al Z 37 0)) (qm (by decide) (by decide)) rfl rfl in_M (by decide) w_684 rfl d_M_deliver_29 ?_
  refine gq_iconst C (v := 4) d_M_deliver_32 (by decide) ?_
  refine gq_iload_n C d_M_deliver_33 rfl ?_
  refine gq_imul C d_M_deliver_34 ?_
  refine gq_iald C (g := 37) (j := 0) (a := (4 * i)) (t0 := 0) (qm (by decide) (by decide)) rfl rfl (by rw [show (4 : Int32) = nI 4 from rfl, pk_mul]) (by omega) (by decide) d_M_deliver_35 ?_
  refine G.eqS (st' := [.int (V 37 0 (4 * i))]) rfl ?_
  refine gq_istore_n C (lo' := [(2, .int (V 37 0 (4 * i))), (0, .ref (al Z 20 0)), (1, .int (nI i))]) d_M_deliver_36 rfl (by decide) rfl ?_
  refine gq_aload_n C d_M_deliver_37 rfl ?_
  refine gq_get C (g := 20) (j := 0) (ci := 8) (k := 23) (v := .ref (al Z 37 0)) (qm (by decide) (by decide)) rfl rfl in_M (by decide) w_684 rfl d_M_deliver_38 ?_
  refine gq_iconst C (v := 4) d_M_deliver_41 (by decide) ?_
  refine gq_iload_n C d_M_deliver_42 rfl ?_
  refine gq_imul C d_M_deliver_43 ?_
  refine gq_iconst C (v := 1) d_M_deliver_44 (by decide) ?_
  refine gq_iadd C d_M_deliver_45 ?_
  refine gq_iald C (g := 37) (j := 0) (a := (4 * i + 1)) (t0 := 0) (qm (by decide) (by decide)) rfl rfl (by rw [show (4 : Int32) = nI 4 from rfl, pk_mul]; exact nI_add _ _) (by omega) (by decide) d_M_deliver_46 ?_
  refine G.eqS (st' := [.int (V 37 0 (4 * i + 1))]) rfl ?_
  refine gq_istore_n C (lo' := [(3, .int (V 37 0 (4 * i + 1))), (2, .int (V 37 0 (4 * i))), (0, .ref (al Z 20 0)), (1, .int (nI i))]) d_M_deliver_47 rfl (by decide) rfl ?_
  refine gq_aload_n C d_M_deliver_48 rfl ?_
  refine gq_get C (g := 20) (j := 0) (ci := 8) (k := 23) (v := .ref (al Z 37 0)) (qm (by decide) (by decide)) rfl rfl in_M (by decide) w_684 rfl d_M_deliver_49 ?_
  refine gq_iconst C (v := 4) d_M_deliver_52 (by decide) ?_
  refine gq_iload_n C d_M_deliver_53 rfl ?_
  refine gq_imul C d_M_deliver_54 ?_
  refine gq_iconst C (v := 2) d_M_deliver_55 (by decide) ?_
  refine gq_iadd C d_M_deliver_56 ?_
  refine gq_iald C (g := 37) (j := 0) (a := (4 * i + 2)) (t0 := 0) (qm (by decide) (by decide)) rfl rfl (by rw [show (4 : Int32) = nI 4 from rfl, pk_mul]; exact nI_add _ _) (by omega) (by decide) d_M_deliver_57 ?_
  refine G.eqS (st' := [.int (V 37 0 (4 * i + 2))]) rfl ?_
  refine gq_istore C (lo' := [(4, .int (V 37 0 (4 * i + 2))), (3, .int (V 37 0 (4 * i + 1))), (2, .int (V 37 0 (4 * i))), (0, .ref (al Z 20 0)), (1, .int (nI i))]) d_M_deliver_58 (by decide) rfl ?_
  refine gq_aload_n C d_M_deliver_60 rfl ?_
  refine gq_get C (g := 20) (j := 0) (ci := 8) (k := 23) (v := .ref (al Z 37 0)) (qm (by decide) (by decide)) rfl rfl in_M (by decide) w_684 rfl d_M_deliver_61 ?_
  refine gq_iconst C (v := 4) d_M_deliver_64 (by decide) ?_
  refine gq_iload_n C d_M_deliver_65 rfl ?_
  refine gq_imul C d_M_deliver_66 ?_
  refine gq_iconst C (v := 3) d_M_deliver_67 (by decide) ?_
  refine gq_iadd C d_M_deliver_68 ?_
  refine gq_iald C (g := 37) (j := 0) (a := (4 * i + 3)) (t0 := 0) (qm (by decide) (by decide)) rfl rfl (by rw [show (4 : Int32) = nI 4 from rfl, pk_mul]; exact nI_add _ _) (by omega) (by decide) d_M_deliver_69 ?_
  refine G.eqS (st' := [.int (V 37 0 (4 * i + 3))]) rfl ?_
  refine gq_istore C (lo' := [(5, .int (V 37 0 (4 * i + 3))), (4, .int (V 37 0 (4 * i + 2))), (3, .int (V 37 0 (4 * i + 1))), (2, .int (V 37 0 (4 * i))), (0, .ref (al Z 20 0)), (1, .int (nI i))]) d_M_deliver_70 (by decide) rfl ?_
  refine gq_aload_n C d_M_deliver_72 rfl ?_
  refine gq_iload_n C d_M_deliver_73 rfl ?_
  refine gq_callV C (st := []) (fun _ h => h) (c_M_remove l Z hZ _ _ i n hi hn (by simpa [qv_at] using h22)) (qm (by decide) (by decide)) rfl rfl w_837 w_839 ws_M_remove w_840 w_9 ⟨by decide, by decide, (by decide +kernel : (parseMethodDescriptor y_M_remove.desc).map (fun d => d.parameters.length) = some 1)⟩ ⟨by decide, by decide⟩ ⟨by decide, by decide⟩ rfl (Nat.le_of_ble_eq_true rfl) d_M_deliver_74 ?_
  refine gq_aload_n C d_M_deliver_77 rfl ?_
  refine gq_iload_n C d_M_deliver_78 rfl ?_
  refine gq_iload_n C d_M_deliver_79 rfl ?_
  refine gq_iload C d_M_deliver_80 rfl ?_
  refine gq_iload C d_M_deliver_82 rfl ?_
  refine gq_callV C (st := []) (fun _ h => h) (c_M_comes4e l Z hZ _ _ t ht _ _ _ _ hk h2) (qm (by decide) (by decide)) rfl rfl w_841 w_843 ws_M_comes w_844 w_9 ⟨by decide, by decide, (by decide +kernel : (parseMethodDescriptor y_M_comes.desc).map (fun d => d.parameters.length) = some 4)⟩ ⟨by decide, by decide⟩ ⟨by decide, by decide⟩ rfl (Nat.le_of_ble_eq_true rfl) d_M_deliver_84 ?_
  exact gq_vret C hr (by decide) (by decide) d_M_deliver_87

set_option maxHeartbeats 4000000 in
set_option maxRecDepth 100000 in
theorem c_M_book (l : Launch) (Z : qZ) (hZ : qok (pX Z)) (V : qV) (Y : qY) (k : Nat) (hk : k < 40) (h1 : g_not (nI k) (V 20 0 24) = 0) : CT l y_M_book { frames := 2, cells := 0, slots := 0, locals := 61 } (pX Z) (qA (pX Z)) [.ref (al Z 20 0), .int (nI k)] V Y (.inl (some (.int (V 39 0 k)))) (qv V 20 0 0 0) Y := by
  refine CT.of (cc := b_M_book) (maxL := 2) (ret := (some .int)) hZ (by decide) w_888 (Nat.le_of_ble_eq_true rfl) ?_
  intro p e s m below meth c C hr hex hlt
  refine gq_aload_n C d_M_book_0 rfl ?_
  refine gq_iload_n C d_M_book_1 rfl ?_
  refine gq_aload_n C d_M_book_2 rfl ?_
  refine gq_get C (g := 20) (j := 0) (ci := 8) (k := 24) (v := .int (V 20 0 24)) (qm (by decide) (by decide)) rfl rfl in_M (by decide) w_685 rfl d_M_book_3 ?_
  refine gq_callS C (st := [.ref (al Z 20 0)]) (fun _ h => h.elim) (c_M_not l Z hZ _ _ (nI k) (V 20 0 24)) w_761 w_762 w_763 w_9 ⟨by decide, by decide, (by decide +kernel : (parseMethodDescriptor y_M_not.desc).map (fun d => d.parameters.length) = some 2)⟩ ⟨by decide, by decide⟩ ⟨by decide, by decide⟩ rfl (Nat.le_of_ble_eq_true rfl) d_M_book_6 ?_
  refine gq_if_eq C (tgt := 16) d_M_book_9 rfl (fun hb9 => ?_) (fun hb => by exact absurd h1 hb)
  refine gq_iconst C (v := 0) d_M_book_16 (by decide) ?_
  refine gq_put C (fun _ h => h) (g := 20) (j := 0) (ci := 8) (k := 0) ft_M k_M n_M (qm (by decide) (by decide)) rfl rfl in_M (by decide) w_661 rfl (k_M 0 (by decide)) rfl rfl (Nat.le_of_ble_eq_true rfl) rfl d_M_book_17 ?_
  refine gq_aload_n C d_M_book_20 rfl ?_
  refine gq_get C (g := 20) (j := 0) (ci := 8) (k := 0) (v := .int 0) (qm (by decide) (by decide)) rfl rfl in_M (by decide) w_661 rfl d_M_book_21 ?_
  refine gq_if_eq C (tgt := 31) d_M_book_24 rfl (fun hb24 => ?_) (fun hb => by exact absurd hb (by decide))
  refine gq_aload_n C d_M_book_31 rfl ?_
  refine gq_get C (g := 20) (j := 0) (ci := 8) (k := 26) (v := .ref (al Z 39 0)) (qm (by decide) (by decide)) rfl rfl in_M (by decide) w_687 rfl d_M_book_32 ?_
  refine gq_iload_n C d_M_book_35 rfl ?_
  refine gq_iald C (g := 39) (j := 0) (a := k) (t0 := 0) (qm (by decide) (by decide)) rfl rfl rfl hk (by decide) d_M_book_36 ?_
  refine G.eqS (st' := [.int (V 39 0 k)]) rfl ?_
  exact gq_iret C hr (by decide) (by decide) d_M_book_37

set_option maxHeartbeats 4000000 in
set_option maxRecDepth 100000 in
theorem c_M_book_x (l : Launch) (Z : qZ) (hZ : qok (pX Z)) (V : qV) (Y : qY) (k : Int32) (h : ¬ g_not k (V 20 0 24) = 0) : CT l y_M_book { frames := 2, cells := 0, slots := 0, locals := 61 } (pX Z) (qA (pX Z)) [.ref (al Z 20 0), .int k] V Y (.inl (some (.int 0))) (qv V 20 0 0 1) Y := by
  refine CT.of (cc := b_M_book) (maxL := 2) (ret := (some .int)) hZ (by decide) w_888 (Nat.le_of_ble_eq_true rfl) ?_
  intro p e s m below meth c C hr hex hlt
  refine gq_aload_n C d_M_book_0 rfl ?_
  refine gq_iload_n C d_M_book_1 rfl ?_
  refine gq_aload_n C d_M_book_2 rfl ?_
  refine gq_get C (g := 20) (j := 0) (ci := 8) (k := 24) (v := .int (V 20 0 24)) (qm (by decide) (by decide)) rfl rfl in_M (by decide) w_685 rfl d_M_book_3 ?_
  refine gq_callS C (st := [.ref (al Z 20 0)]) (fun _ h => h.elim) (c_M_not l Z hZ _ _ k (V 20 0 24)) w_761 w_762 w_763 w_9 ⟨by decide, by decide, (by decide +kernel : (parseMethodDescriptor y_M_not.desc).map (fun d => d.parameters.length) = some 2)⟩ ⟨by decide, by decide⟩ ⟨by decide, by decide⟩ rfl (Nat.le_of_ble_eq_true rfl) d_M_book_6 ?_
  refine gq_if_eq C (tgt := 16) d_M_book_9 rfl (fun hb => by first | contradiction | contradiction) (fun hb9 => ?_)
  refine gq_iconst C (v := 1) d_M_book_12 (by decide) ?_
  refine gq_goto C (tgt := 17) d_M_book_13 rfl ?_
  refine gq_put C (fun _ h => h) (g := 20) (j := 0) (ci := 8) (k := 0) ft_M k_M n_M (qm (by decide) (by decide)) rfl rfl in_M (by decide) w_661 rfl (k_M 0 (by decide)) rfl rfl (Nat.le_of_ble_eq_true rfl) rfl d_M_book_17 ?_
  refine gq_aload_n C d_M_book_20 rfl ?_
  refine gq_get C (g := 20) (j := 0) (ci := 8) (k := 0) (v := .int 1) (qm (by decide) (by decide)) rfl rfl in_M (by decide) w_661 rfl d_M_book_21 ?_
  refine gq_if_eq C (tgt := 31) d_M_book_24 rfl (fun hb => by exact absurd hb (by decide)) (fun hb24 => ?_)
  refine gq_iconst C (v := 0) d_M_book_27 (by decide) ?_
  refine gq_goto C (tgt := 37) d_M_book_28 rfl ?_
  exact gq_iretE C hr rfl rfl rfl (by decide) (by decide) d_M_book_37

set_option maxHeartbeats 4000000 in
set_option maxRecDepth 100000 in
theorem c_M_price (l : Launch) (Z : qZ) (hZ : qok (pX Z)) (V : qV) (Y : qY) (b : Nat) (hb : b < 10) (n : Nat) (hn : n < 8) (h1 : ¬ nI b < 1) (h2 : ¬ V 20 0 1 < nI b) (h3 : g_not (nI n) 8 = 0) : CT l y_M_price { frames := 2, cells := 0, slots := 0, locals := 61 } (pX Z) (qA (pX Z)) [.ref (al Z 20 0), .int (nI b), .int (nI n)] V Y (.inl (some (.int (V 21 0 (8 * b + n))))) (qv V 20 0 0 0) Y := by
  refine CT.of (cc := b_M_price) (maxL := 3) (ret := (some .int)) hZ (by decide) w_892 (Nat.le_of_ble_eq_true rfl) ?_
  intro p e s m below meth c C hr hex hlt
  refine gq_aload_n C d_M_price_0 rfl ?_
  refine gq_iload_n C d_M_price_1 rfl ?_
  refine gq_iconst C (v := 1) d_M_price_2 (by decide) ?_
  refine gq_icmp_lt C (tgt := 23) d_M_price_3 rfl (fun hq => by exact absurd hq h1) (fun hb3 => ?_)
  refine gq_iload_n C d_M_price_6 rfl ?_
  refine gq_aload_n C d_M_price_7 rfl ?_
  refine gq_get C (g := 20) (j := 0) (ci := 8) (k := 1) (v := .int (V 20 0 1)) (qm (by decide) (by decide)) rfl rfl in_M (by decide) w_662 rfl d_M_price_8 ?_
  refine gq_icmp_gt C (tgt := 23) d_M_price_11 rfl (fun hq => by exact absurd hq h2) (fun hb11 => ?_)
  refine gq_iload_n C d_M_price_14 rfl ?_
  refine gq_bipush C (v := 8) d_M_price_15 (by decide) ?_
  refine gq_callS C (st := [.ref (al Z 20 0)]) (fun _ h => h.elim) (c_M_not l Z hZ _ _ (nI n) 8) w_761 w_762 w_763 w_9 ⟨by decide, by decide, (by decide +kernel : (parseMethodDescriptor y_M_not.desc).map (fun d => d.parameters.length) = some 2)⟩ ⟨by decide, by decide⟩ ⟨by decide, by decide⟩ rfl (Nat.le_of_ble_eq_true rfl) d_M_price_17 ?_
  refine gq_if_eq C (tgt := 27) d_M_price_20 rfl (fun hb20 => ?_) (fun hq => by exact absurd h3 hq)
  refine gq_iconst C (v := 0) d_M_price_27 (by decide) ?_
  refine gq_put C (fun _ h => h) (g := 20) (j := 0) (ci := 8) (k := 0) ft_M k_M n_M (qm (by decide) (by decide)) rfl rfl in_M (by decide) w_661 rfl (k_M 0 (by decide)) rfl rfl (Nat.le_of_ble_eq_true rfl) rfl d_M_price_28 ?_
  refine gq_aload_n C d_M_price_31 rfl ?_
  refine gq_get C (g := 20) (j := 0) (ci := 8) (k := 0) (v := .int 0) (qm (by decide) (by decide)) rfl rfl in_M (by decide) w_661 rfl d_M_price_32 ?_
  refine gq_if_eq C (tgt := 42) d_M_price_35 rfl (fun hb35 => ?_) (fun hb => by exact absurd hb (by decide))
  refine gq_aload_n C d_M_price_42 rfl ?_
  refine gq_get C (g := 20) (j := 0) (ci := 8) (k := 2) (v := .ref (al Z 21 0)) (qm (by decide) (by decide)) rfl rfl in_M (by decide) w_663 rfl d_M_price_43 ?_
  refine gq_bipush C (v := 8) d_M_price_46 (by decide) ?_
  refine gq_iload_n C d_M_price_48 rfl ?_
  refine gq_imul C d_M_price_49 ?_
  refine gq_iload_n C d_M_price_50 rfl ?_
  refine gq_iadd C d_M_price_51 ?_
  refine gq_iald C (g := 21) (j := 0) (a := (8 * b + n)) (t0 := 0) (qm (by decide) (by decide)) rfl rfl (by rw [show (8 : Int32) = nI 8 from rfl, pk_mul]; exact nI_add _ _) (by omega) (by decide) d_M_price_52 ?_
  refine G.eqS (st' := [.int (V 21 0 (8 * b + n))]) rfl ?_
  exact gq_iret C hr (by decide) (by decide) d_M_price_53

set_option maxHeartbeats 4000000 in
set_option maxRecDepth 100000 in
theorem c_M_price_x (l : Launch) (Z : qZ) (hZ : qok (pX Z)) (V : qV) (Y : qY) (b a : Int32) (h : b < 1 ∨ V 20 0 1 < b ∨ ¬ g_not a 8 = 0) : CT l y_M_price { frames := 2, cells := 0, slots := 0, locals := 61 } (pX Z) (qA (pX Z)) [.ref (al Z 20 0), .int b, .int a] V Y (.inl (some (.int 0))) (qv V 20 0 0 1) Y := by
  refine CT.of (cc := b_M_price) (maxL := 3) (ret := (some .int)) hZ (by decide) w_892 (Nat.le_of_ble_eq_true rfl) ?_
  intro p e s m below meth c C hr hex hlt
  refine gq_aload_n C d_M_price_0 rfl ?_
  refine gq_iload_n C d_M_price_1 rfl ?_
  refine gq_iconst C (v := 1) d_M_price_2 (by decide) ?_
  refine gq_icmp_lt C (tgt := 23) d_M_price_3 rfl (fun hb3 => ?_) (fun hb3 => ?_)
  · skip
    refine gq_iconst C (v := 1) d_M_price_23 (by decide) ?_
    refine gq_goto C (tgt := 28) d_M_price_24 rfl ?_
    refine gq_put C (fun _ h => h) (g := 20) (j := 0) (ci := 8) (k := 0) ft_M k_M n_M (qm (by decide) (by decide)) rfl rfl in_M (by decide) w_661 rfl (k_M 0 (by decide)) rfl rfl (Nat.le_of_ble_eq_true rfl) rfl d_M_price_28 ?_
    refine gq_aload_n C d_M_price_31 rfl ?_
    refine gq_get C (g := 20) (j := 0) (ci := 8) (k := 0) (v := .int 1) (qm (by decide) (by decide)) rfl rfl in_M (by decide) w_661 rfl d_M_price_32 ?_
    refine gq_if_eq C (tgt := 42) d_M_price_35 rfl (fun hb => by exact absurd hb (by decide)) (fun hb35 => ?_)
    refine gq_iconst C (v := 0) d_M_price_38 (by decide) ?_
    refine gq_goto C (tgt := 53) d_M_price_39 rfl ?_
    exact gq_iretE C hr rfl rfl rfl (by decide) (by decide) d_M_price_53
  · skip
    refine gq_iload_n C d_M_price_6 rfl ?_
    refine gq_aload_n C d_M_price_7 rfl ?_
    refine gq_get C (g := 20) (j := 0) (ci := 8) (k := 1) (v := .int (V 20 0 1)) (qm (by decide) (by decide)) rfl rfl in_M (by decide) w_662 rfl d_M_price_8 ?_
    refine gq_icmp_gt C (tgt := 23) d_M_price_11 rfl (fun hb11 => ?_) (fun hb11 => ?_)
    · skip
      refine gq_iconst C (v := 1) d_M_price_23 (by decide) ?_
      refine gq_goto C (tgt := 28) d_M_price_24 rfl ?_
      refine gq_put C (fun _ h => h) (g := 20) (j := 0) (ci := 8) (k := 0) ft_M k_M n_M (qm (by decide) (by decide)) rfl rfl in_M (by decide) w_661 rfl (k_M 0 (by decide)) rfl rfl (Nat.le_of_ble_eq_true rfl) rfl d_M_price_28 ?_
      refine gq_aload_n C d_M_price_31 rfl ?_
      refine gq_get C (g := 20) (j := 0) (ci := 8) (k := 0) (v := .int 1) (qm (by decide) (by decide)) rfl rfl in_M (by decide) w_661 rfl d_M_price_32 ?_
      refine gq_if_eq C (tgt := 42) d_M_price_35 rfl (fun hb => by exact absurd hb (by decide)) (fun hb35 => ?_)
      refine gq_iconst C (v := 0) d_M_price_38 (by decide) ?_
      refine gq_goto C (tgt := 53) d_M_price_39 rfl ?_
      exact gq_iretE C hr rfl rfl rfl (by decide) (by decide) d_M_price_53
    · skip
      refine gq_iload_n C d_M_price_14 rfl ?_
      refine gq_bipush C (v := 8) d_M_price_15 (by decide) ?_
      refine gq_callS C (st := [.ref (al Z 20 0)]) (fun _ h => h.elim) (c_M_not l Z hZ _ _ a 8) w_761 w_762 w_763 w_9 ⟨by decide, by decide, (by decide +kernel : (parseMethodDescriptor y_M_not.desc).map (fun d => d.parameters.length) = some 2)⟩ ⟨by decide, by decide⟩ ⟨by decide, by decide⟩ rfl (Nat.le_of_ble_eq_true rfl) d_M_price_17 ?_
      refine gq_if_eq C (tgt := 27) d_M_price_20 rfl (fun hb => by first | contradiction | (rcases h with h | h | h <;> contradiction)) (fun hb20 => ?_)
      refine gq_iconst C (v := 1) d_M_price_23 (by decide) ?_
      refine gq_goto C (tgt := 28) d_M_price_24 rfl ?_
      refine gq_put C (fun _ h => h) (g := 20) (j := 0) (ci := 8) (k := 0) ft_M k_M n_M (qm (by decide) (by decide)) rfl rfl in_M (by decide) w_661 rfl (k_M 0 (by decide)) rfl rfl (Nat.le_of_ble_eq_true rfl) rfl d_M_price_28 ?_
      refine gq_aload_n C d_M_price_31 rfl ?_
      refine gq_get C (g := 20) (j := 0) (ci := 8) (k := 0) (v := .int 1) (qm (by decide) (by decide)) rfl rfl in_M (by decide) w_661 rfl d_M_price_32 ?_
      refine gq_if_eq C (tgt := 42) d_M_price_35 rfl (fun hb => by exact absurd hb (by decide)) (fun hb35 => ?_)
      refine gq_iconst C (v := 0) d_M_price_38 (by decide) ?_
      refine gq_goto C (tgt := 53) d_M_price_39 rfl ?_
      exact gq_iretE C hr rfl rfl rfl (by decide) (by decide) d_M_price_53

set_option maxHeartbeats 4000000 in
set_option maxRecDepth 100000 in
theorem c_M_noOpen (l : Launch) (Z : qZ) (hZ : qok (pX Z)) (V : qV) (Y : qY) (k : Nat) (hk : k < 40) (h1 : g_not (nI k) (V 20 0 24) = 0) (h2 : ¬ V 40 0 k = 0) : CT l y_M_noOpen { frames := 2, cells := 0, slots := 0, locals := 61 } (pX Z) qN [.ref (al Z 20 0), .int (nI k)] V Y (.inl (some (.int 0))) V Y := by
  refine CT.of (cc := b_M_noOpen) (maxL := 2) (ret := (some .boolean)) hZ (by decide) w_876 (Nat.le_of_ble_eq_true rfl) ?_
  intro p e s m below meth c C hr hex hlt
  refine gq_iload_n C d_M_noOpen_0 rfl ?_
  refine gq_aload_n C d_M_noOpen_1 rfl ?_
  refine gq_get C (g := 20) (j := 0) (ci := 8) (k := 24) (v := .int (V 20 0 24)) (qm (by decide) (by decide)) rfl rfl in_M (by decide) w_685 rfl d_M_noOpen_2 ?_
  refine gq_callS C (st := []) (fun _ h => h) (c_M_not l Z hZ _ _ (nI k) (V 20 0 24)) w_761 w_762 w_763 w_9 ⟨by decide, by decide, (by decide +kernel : (parseMethodDescriptor y_M_not.desc).map (fun d => d.parameters.length) = some 2)⟩ ⟨by decide, by decide⟩ ⟨by decide, by decide⟩ rfl (Nat.le_of_ble_eq_true rfl) d_M_noOpen_5 ?_
  refine gq_if_ne C (tgt := 20) d_M_noOpen_8 rfl (fun hb => by exact absurd h1 hb) (fun hb8 => ?_)
  refine gq_aload_n C d_M_noOpen_11 rfl ?_
  refine gq_get C (g := 20) (j := 0) (ci := 8) (k := 27) (v := .ref (al Z 40 0)) (qm (by decide) (by decide)) rfl rfl in_M (by decide) w_688 rfl d_M_noOpen_12 ?_
  refine gq_iload_n C d_M_noOpen_15 rfl ?_
  refine gq_zald C (g := 40) (j := 0) (a := k) (t0 := 2) (qm (by decide) (by decide)) rfl rfl rfl hk (by decide) d_M_noOpen_16 ?_
  refine gq_if_ne C (tgt := 24) d_M_noOpen_17 rfl (fun hb17 => ?_) (fun hb => by exact absurd hb h2)
  refine gq_iconst C (v := 0) d_M_noOpen_24 (by decide) ?_
  exact gq_zret C hr (by decide) (by decide) (by decide) d_M_noOpen_25

set_option maxHeartbeats 4000000 in
set_option maxRecDepth 100000 in
theorem c_M_noOpen_1 (l : Launch) (Z : qZ) (hZ : qok (pX Z)) (V : qV) (Y : qY) (k : Int32) (h : ¬ g_not k (V 20 0 24) = 0) : CT l y_M_noOpen { frames := 2, cells := 0, slots := 0, locals := 61 } (pX Z) qN [.ref (al Z 20 0), .int k] V Y (.inl (some (.int 1))) V Y := by
  refine CT.of (cc := b_M_noOpen) (maxL := 2) (ret := (some .boolean)) hZ (by decide) w_876 (Nat.le_of_ble_eq_true rfl) ?_
  intro p e s m below meth c C hr hex hlt
  refine gq_iload_n C d_M_noOpen_0 rfl ?_
  refine gq_aload_n C d_M_noOpen_1 rfl ?_
  refine gq_get C (g := 20) (j := 0) (ci := 8) (k := 24) (v := .int (V 20 0 24)) (qm (by decide) (by decide)) rfl rfl in_M (by decide) w_685 rfl d_M_noOpen_2 ?_
  refine gq_callS C (st := []) (fun _ h => h) (c_M_not l Z hZ _ _ k (V 20 0 24)) w_761 w_762 w_763 w_9 ⟨by decide, by decide, (by decide +kernel : (parseMethodDescriptor y_M_not.desc).map (fun d => d.parameters.length) = some 2)⟩ ⟨by decide, by decide⟩ ⟨by decide, by decide⟩ rfl (Nat.le_of_ble_eq_true rfl) d_M_noOpen_5 ?_
  refine gq_if_ne C (tgt := 20) d_M_noOpen_8 rfl (fun hb8 => ?_) (fun hb => by exact absurd hb h)
  refine gq_iconst C (v := 1) d_M_noOpen_20 (by decide) ?_
  refine gq_goto C (tgt := 25) d_M_noOpen_21 rfl ?_
  exact gq_zret C hr (by decide) (by decide) (by decide) d_M_noOpen_25

set_option maxHeartbeats 4000000 in
set_option maxRecDepth 100000 in
theorem c_M_noOpen_2 (l : Launch) (Z : qZ) (hZ : qok (pX Z)) (V : qV) (Y : qY) (k : Nat) (hk : k < 40) (h1 : g_not (nI k) (V 20 0 24) = 0) (h2 : V 40 0 k = 0) : CT l y_M_noOpen { frames := 2, cells := 0, slots := 0, locals := 61 } (pX Z) qN [.ref (al Z 20 0), .int (nI k)] V Y (.inl (some (.int 1))) V Y := by
  refine CT.of (cc := b_M_noOpen) (maxL := 2) (ret := (some .boolean)) hZ (by decide) w_876 (Nat.le_of_ble_eq_true rfl) ?_
  intro p e s m below meth c C hr hex hlt
  refine gq_iload_n C d_M_noOpen_0 rfl ?_
  refine gq_aload_n C d_M_noOpen_1 rfl ?_
  refine gq_get C (g := 20) (j := 0) (ci := 8) (k := 24) (v := .int (V 20 0 24)) (qm (by decide) (by decide)) rfl rfl in_M (by decide) w_685 rfl d_M_noOpen_2 ?_
  refine gq_callS C (st := []) (fun _ h => h) (c_M_not l Z hZ _ _ (nI k) (V 20 0 24)) w_761 w_762 w_763 w_9 ⟨by decide, by decide, (by decide +kernel : (parseMethodDescriptor y_M_not.desc).map (fun d => d.parameters.length) = some 2)⟩ ⟨by decide, by decide⟩ ⟨by decide, by decide⟩ rfl (Nat.le_of_ble_eq_true rfl) d_M_noOpen_5 ?_
  refine gq_if_ne C (tgt := 20) d_M_noOpen_8 rfl (fun hb => by exact absurd h1 hb) (fun hb8 => ?_)
  refine gq_aload_n C d_M_noOpen_11 rfl ?_
  refine gq_get C (g := 20) (j := 0) (ci := 8) (k := 27) (v := .ref (al Z 40 0)) (qm (by decide) (by decide)) rfl rfl in_M (by decide) w_688 rfl d_M_noOpen_12 ?_
  refine gq_iload_n C d_M_noOpen_15 rfl ?_
  refine gq_zald C (g := 40) (j := 0) (a := k) (t0 := 2) (qm (by decide) (by decide)) rfl rfl rfl hk (by decide) d_M_noOpen_16 ?_
  refine gq_if_ne C (tgt := 24) d_M_noOpen_17 rfl (fun hb => by exact absurd h2 hb) (fun hb17 => ?_)
  refine gq_iconst C (v := 1) d_M_noOpen_20 (by decide) ?_
  refine gq_goto C (tgt := 25) d_M_noOpen_21 rfl ?_
  exact gq_zret C hr (by decide) (by decide) (by decide) d_M_noOpen_25

theorem d_M_pay_0 : decode b_M_pay 0 = .ok (.aload_n 0, 1) := by decide +kernel
theorem d_M_pay_1 : decode b_M_pay 1 = .ok (.aload_n 0, 1) := by decide +kernel
theorem d_M_pay_2 : decode b_M_pay 2 = .ok (.iload_n 1, 1) := by decide +kernel
theorem d_M_pay_3 : decode b_M_pay 3 = .ok (.invokevirtual 138, 3) := by decide +kernel
theorem d_M_pay_6 : decode b_M_pay 6 = .ok (.ifCond .eq 7, 3) := by decide +kernel
theorem d_M_pay_9 : decode b_M_pay 9 = .ok (.iconst 1, 1) := by decide +kernel
theorem d_M_pay_10 : decode b_M_pay 10 = .ok (.goto 4, 3) := by decide +kernel
theorem d_M_pay_13 : decode b_M_pay 13 = .ok (.iconst 0, 1) := by decide +kernel
theorem d_M_pay_14 : decode b_M_pay 14 = .ok (.putfield 7, 3) := by decide +kernel
theorem d_M_pay_17 : decode b_M_pay 17 = .ok (.aload_n 0, 1) := by decide +kernel
theorem d_M_pay_18 : decode b_M_pay 18 = .ok (.getfield 7, 3) := by decide +kernel
theorem d_M_pay_21 : decode b_M_pay 21 = .ok (.ifCond .eq 5, 3) := by decide +kernel
theorem d_M_pay_24 : decode b_M_pay 24 = .ok (.lconst 0, 1) := by decide +kernel
theorem d_M_pay_25 : decode b_M_pay 25 = .ok (.lreturn, 1) := by decide +kernel
theorem d_M_pay_26 : decode b_M_pay 26 = .ok (.lconst 0, 1) := by decide +kernel
theorem d_M_pay_27 : decode b_M_pay 27 = .ok (.lstore_n 2, 1) := by decide +kernel
theorem d_M_pay_28 : decode b_M_pay 28 = .ok (.iconst 0, 1) := by decide +kernel
theorem d_M_pay_29 : decode b_M_pay 29 = .ok (.istore 4, 2) := by decide +kernel
theorem d_M_pay_31 : decode b_M_pay 31 = .ok (.iload 4, 2) := by decide +kernel
theorem d_M_pay_33 : decode b_M_pay 33 = .ok (.bipush 8, 2) := by decide +kernel
theorem d_M_pay_35 : decode b_M_pay 35 = .ok (.if_icmp .ge 36, 3) := by decide +kernel
theorem d_M_pay_38 : decode b_M_pay 38 = .ok (.lload_n 2, 1) := by decide +kernel
theorem d_M_pay_39 : decode b_M_pay 39 = .ok (.aload_n 0, 1) := by decide +kernel
theorem d_M_pay_40 : decode b_M_pay 40 = .ok (.aload_n 0, 1) := by decide +kernel
theorem d_M_pay_41 : decode b_M_pay 41 = .ok (.getfield 91, 3) := by decide +kernel
theorem d_M_pay_44 : decode b_M_pay 44 = .ok (.iload_n 1, 1) := by decide +kernel
theorem d_M_pay_45 : decode b_M_pay 45 = .ok (.iaload, 1) := by decide +kernel
theorem d_M_pay_46 : decode b_M_pay 46 = .ok (.iload 4, 2) := by decide +kernel
theorem d_M_pay_48 : decode b_M_pay 48 = .ok (.aload_n 0, 1) := by decide +kernel
theorem d_M_pay_49 : decode b_M_pay 49 = .ok (.getfield 97, 3) := by decide +kernel
theorem d_M_pay_52 : decode b_M_pay 52 = .ok (.bipush 8, 2) := by decide +kernel
theorem d_M_pay_54 : decode b_M_pay 54 = .ok (.iload_n 1, 1) := by decide +kernel
theorem d_M_pay_55 : decode b_M_pay 55 = .ok (.imul, 1) := by decide +kernel
theorem d_M_pay_56 : decode b_M_pay 56 = .ok (.iload 4, 2) := by decide +kernel
theorem d_M_pay_58 : decode b_M_pay 58 = .ok (.iadd, 1) := by decide +kernel
theorem d_M_pay_59 : decode b_M_pay 59 = .ok (.iaload, 1) := by decide +kernel
theorem d_M_pay_60 : decode b_M_pay 60 = .ok (.invokevirtual 141, 3) := by decide +kernel
theorem d_M_pay_63 : decode b_M_pay 63 = .ok (.ladd, 1) := by decide +kernel
theorem d_M_pay_64 : decode b_M_pay 64 = .ok (.lstore_n 2, 1) := by decide +kernel
theorem d_M_pay_65 : decode b_M_pay 65 = .ok (.iinc 4 1, 3) := by decide +kernel
theorem d_M_pay_68 : decode b_M_pay 68 = .ok (.goto (-37), 3) := by decide +kernel
theorem d_M_pay_71 : decode b_M_pay 71 = .ok (.aload_n 0, 1) := by decide +kernel
theorem d_M_pay_72 : decode b_M_pay 72 = .ok (.getfield 94, 3) := by decide +kernel
theorem d_M_pay_75 : decode b_M_pay 75 = .ok (.iload_n 1, 1) := by decide +kernel
theorem d_M_pay_76 : decode b_M_pay 76 = .ok (.iconst 0, 1) := by decide +kernel
theorem d_M_pay_77 : decode b_M_pay 77 = .ok (.bastore, 1) := by decide +kernel
theorem d_M_pay_78 : decode b_M_pay 78 = .ok (.lload_n 2, 1) := by decide +kernel
theorem d_M_pay_79 : decode b_M_pay 79 = .ok (.lreturn, 1) := by decide +kernel

set_option maxHeartbeats 4000000 in
set_option maxRecDepth 100000 in
theorem c_M_scan_x1a (l : Launch) (Z : qZ) (hZ : qok (pX Z)) (V : qV) (Y : qY) (k : Int32) (h : ¬ g_not k (V 20 0 24) = 0) (a g : Int32) : CT l y_M_scan { frames := 3, cells := 0, slots := 0, locals := 82 } (pX Z) (qA (pX Z)) [.ref (al Z 20 0), .int k, .int a, .int g] V Y (.inl (some (.int 0))) (qv V 20 0 0 1) Y := by
  refine CT.of (cc := b_M_scan) (maxL := 5) (ret := (some .int)) hZ (by decide) w_872 (Nat.le_of_ble_eq_true rfl) ?_
  intro p e s m below meth c C hr hex hlt
  refine gq_aload_n C d_M_scan_0 rfl ?_
  refine gq_aload_n C d_M_scan_1 rfl ?_
  refine gq_iload_n C d_M_scan_2 rfl ?_
  refine gq_callV C (st := [.ref (al Z 20 0)]) (fun _ h => h.elim) (c_M_noOpen_1 l Z hZ _ _ k h) (qm (by decide) (by decide)) rfl rfl w_873 w_875 ws_M_noOpen w_876 w_9 ⟨by decide, by decide, (by decide +kernel : (parseMethodDescriptor y_M_noOpen.desc).map (fun d => d.parameters.length) = some 1)⟩ ⟨by decide, by decide⟩ ⟨by decide, by decide⟩ rfl (Nat.le_of_ble_eq_true rfl) d_M_scan_3 ?_
  refine gq_if_eq C (tgt := 13) d_M_scan_6 rfl (fun hb => by exact absurd hb (by decide)) (fun hb6 => ?_)
  refine gq_iconst C (v := 1) d_M_scan_9 (by decide) ?_
  refine gq_goto C (tgt := 37) d_M_scan_10 rfl ?_
  refine gq_put C (fun _ h => h) (g := 20) (j := 0) (ci := 8) (k := 0) ft_M k_M n_M (qm (by decide) (by decide)) rfl rfl in_M (by decide) w_661 rfl (k_M 0 (by decide)) rfl rfl (Nat.le_of_ble_eq_true rfl) rfl d_M_scan_37 ?_
  refine gq_aload_n C d_M_scan_40 rfl ?_
  refine gq_get C (g := 20) (j := 0) (ci := 8) (k := 0) (v := .int 1) (qm (by decide) (by decide)) rfl rfl in_M (by decide) w_661 rfl d_M_scan_41 ?_
  refine gq_if_eq C (tgt := 49) d_M_scan_44 rfl (fun hb => by exact absurd hb (by decide)) (fun hb44 => ?_)
  refine gq_iconst C (v := 0) d_M_scan_47 (by decide) ?_
  exact gq_iretE C hr rfl rfl rfl (by decide) (by decide) d_M_scan_48

set_option maxHeartbeats 4000000 in
set_option maxRecDepth 100000 in
theorem c_M_scan_x1b (l : Launch) (Z : qZ) (hZ : qok (pX Z)) (V : qV) (Y : qY) (k : Nat) (hk : k < 40) (h1 : g_not (nI k) (V 20 0 24) = 0) (h2 : V 40 0 k = 0) (a g : Int32) : CT l y_M_scan { frames := 3, cells := 0, slots := 0, locals := 82 } (pX Z) (qA (pX Z)) [.ref (al Z 20 0), .int (nI k), .int a, .int g] V Y (.inl (some (.int 0))) (qv V 20 0 0 1) Y := by
  refine CT.of (cc := b_M_scan) (maxL := 5) (ret := (some .int)) hZ (by decide) w_872 (Nat.le_of_ble_eq_true rfl) ?_
  intro p e s m below meth c C hr hex hlt
  refine gq_aload_n C d_M_scan_0 rfl ?_
  refine gq_aload_n C d_M_scan_1 rfl ?_
  refine gq_iload_n C d_M_scan_2 rfl ?_
  refine gq_callV C (st := [.ref (al Z 20 0)]) (fun _ h => h.elim) (c_M_noOpen_2 l Z hZ _ _ k hk h1 h2) (qm (by decide) (by decide)) rfl rfl w_873 w_875 ws_M_noOpen w_876 w_9 ⟨by decide, by decide, (by decide +kernel : (parseMethodDescriptor y_M_noOpen.desc).map (fun d => d.parameters.length) = some 1)⟩ ⟨by decide, by decide⟩ ⟨by decide, by decide⟩ rfl (Nat.le_of_ble_eq_true rfl) d_M_scan_3 ?_
  refine gq_if_eq C (tgt := 13) d_M_scan_6 rfl (fun hb => by exact absurd hb (by decide)) (fun hb6 => ?_)
  refine gq_iconst C (v := 1) d_M_scan_9 (by decide) ?_
  refine gq_goto C (tgt := 37) d_M_scan_10 rfl ?_
  refine gq_put C (fun _ h => h) (g := 20) (j := 0) (ci := 8) (k := 0) ft_M k_M n_M (qm (by decide) (by decide)) rfl rfl in_M (by decide) w_661 rfl (k_M 0 (by decide)) rfl rfl (Nat.le_of_ble_eq_true rfl) rfl d_M_scan_37 ?_
  refine gq_aload_n C d_M_scan_40 rfl ?_
  refine gq_get C (g := 20) (j := 0) (ci := 8) (k := 0) (v := .int 1) (qm (by decide) (by decide)) rfl rfl in_M (by decide) w_661 rfl d_M_scan_41 ?_
  refine gq_if_eq C (tgt := 49) d_M_scan_44 rfl (fun hb => by exact absurd hb (by decide)) (fun hb44 => ?_)
  refine gq_iconst C (v := 0) d_M_scan_47 (by decide) ?_
  exact gq_iretE C hr rfl rfl rfl (by decide) (by decide) d_M_scan_48

set_option maxHeartbeats 4000000 in
set_option maxRecDepth 100000 in
theorem c_M_pay_x1a (l : Launch) (Z : qZ) (hZ : qok (pX Z)) (V : qV) (Y : qY) (k : Int32) (h : ¬ g_not k (V 20 0 24) = 0) : CT l y_M_pay { frames := 3, cells := 0, slots := 0, locals := 82 } (pX Z) (qA (pX Z)) [.ref (al Z 20 0), .int k] V Y (.inl (some (.long 0))) (qv V 20 0 0 1) Y := by
  refine CT.of (cc := b_M_pay) (maxL := 5) (ret := (some .long)) hZ (by decide) w_880 (Nat.le_of_ble_eq_true rfl) ?_
  intro p e s m below meth c C hr hex hlt
  refine gq_aload_n C d_M_pay_0 rfl ?_
  refine gq_aload_n C d_M_pay_1 rfl ?_
  refine gq_iload_n C d_M_pay_2 rfl ?_
  refine gq_callV C (st := [.ref (al Z 20 0)]) (fun _ h => h.elim) (c_M_noOpen_1 l Z hZ _ _ k h) (qm (by decide) (by decide)) rfl rfl w_873 w_875 ws_M_noOpen w_876 w_9 ⟨by decide, by decide, (by decide +kernel : (parseMethodDescriptor y_M_noOpen.desc).map (fun d => d.parameters.length) = some 1)⟩ ⟨by decide, by decide⟩ ⟨by decide, by decide⟩ rfl (Nat.le_of_ble_eq_true rfl) d_M_pay_3 ?_
  refine gq_if_eq C (tgt := 13) d_M_pay_6 rfl (fun hb => by exact absurd hb (by decide)) (fun hb6 => ?_)
  refine gq_iconst C (v := 1) d_M_pay_9 (by decide) ?_
  refine gq_goto C (tgt := 14) d_M_pay_10 rfl ?_
  refine gq_put C (fun _ h => h) (g := 20) (j := 0) (ci := 8) (k := 0) ft_M k_M n_M (qm (by decide) (by decide)) rfl rfl in_M (by decide) w_661 rfl (k_M 0 (by decide)) rfl rfl (Nat.le_of_ble_eq_true rfl) rfl d_M_pay_14 ?_
  refine gq_aload_n C d_M_pay_17 rfl ?_
  refine gq_get C (g := 20) (j := 0) (ci := 8) (k := 0) (v := .int 1) (qm (by decide) (by decide)) rfl rfl in_M (by decide) w_661 rfl d_M_pay_18 ?_
  refine gq_if_eq C (tgt := 26) d_M_pay_21 rfl (fun hb => by exact absurd hb (by decide)) (fun hb21 => ?_)
  refine gq_lconst C (v := 0) d_M_pay_24 (by decide) ?_
  exact gq_lretE C hr rfl rfl rfl (by decide) (by decide) d_M_pay_25

set_option maxHeartbeats 4000000 in
set_option maxRecDepth 100000 in
theorem c_M_pay_x1b (l : Launch) (Z : qZ) (hZ : qok (pX Z)) (V : qV) (Y : qY) (k : Nat) (hk : k < 40) (h1 : g_not (nI k) (V 20 0 24) = 0) (h2 : V 40 0 k = 0) : CT l y_M_pay { frames := 3, cells := 0, slots := 0, locals := 82 } (pX Z) (qA (pX Z)) [.ref (al Z 20 0), .int (nI k)] V Y (.inl (some (.long 0))) (qv V 20 0 0 1) Y := by
  refine CT.of (cc := b_M_pay) (maxL := 5) (ret := (some .long)) hZ (by decide) w_880 (Nat.le_of_ble_eq_true rfl) ?_
  intro p e s m below meth c C hr hex hlt
  refine gq_aload_n C d_M_pay_0 rfl ?_
  refine gq_aload_n C d_M_pay_1 rfl ?_
  refine gq_iload_n C d_M_pay_2 rfl ?_
  refine gq_callV C (st := [.ref (al Z 20 0)]) (fun _ h => h.elim) (c_M_noOpen_2 l Z hZ _ _ k hk h1 h2) (qm (by decide) (by decide)) rfl rfl w_873 w_875 ws_M_noOpen w_876 w_9 ⟨by decide, by decide, (by decide +kernel : (parseMethodDescriptor y_M_noOpen.desc).map (fun d => d.parameters.length) = some 1)⟩ ⟨by decide, by decide⟩ ⟨by decide, by decide⟩ rfl (Nat.le_of_ble_eq_true rfl) d_M_pay_3 ?_
  refine gq_if_eq C (tgt := 13) d_M_pay_6 rfl (fun hb => by exact absurd hb (by decide)) (fun hb6 => ?_)
  refine gq_iconst C (v := 1) d_M_pay_9 (by decide) ?_
  refine gq_goto C (tgt := 14) d_M_pay_10 rfl ?_
  refine gq_put C (fun _ h => h) (g := 20) (j := 0) (ci := 8) (k := 0) ft_M k_M n_M (qm (by decide) (by decide)) rfl rfl in_M (by decide) w_661 rfl (k_M 0 (by decide)) rfl rfl (Nat.le_of_ble_eq_true rfl) rfl d_M_pay_14 ?_
  refine gq_aload_n C d_M_pay_17 rfl ?_
  refine gq_get C (g := 20) (j := 0) (ci := 8) (k := 0) (v := .int 1) (qm (by decide) (by decide)) rfl rfl in_M (by decide) w_661 rfl d_M_pay_18 ?_
  refine gq_if_eq C (tgt := 26) d_M_pay_21 rfl (fun hb => by exact absurd hb (by decide)) (fun hb21 => ?_)
  refine gq_lconst C (v := 0) d_M_pay_24 (by decide) ?_
  exact gq_lretE C hr rfl rfl rfl (by decide) (by decide) d_M_pay_25

set_option maxHeartbeats 4000000 in
set_option maxRecDepth 100000 in
theorem c_M_scan_x2a (l : Launch) (Z : qZ) (hZ : qok (pX Z)) (V : qV) (Y : qY) (k : Nat) (hk : k < 40) (h1 : g_not (nI k) (V 20 0 24) = 0) (h2 : ¬ V 40 0 k = 0) (a g : Int32) (h : ¬ g_not a 8 = 0 ∨ (¬ g = 1 ∧ ¬ g = -1)) : CT l y_M_scan { frames := 3, cells := 0, slots := 0, locals := 82 } (pX Z) (qA (pX Z)) [.ref (al Z 20 0), .int (nI k), .int a, .int g] V Y (.inl (some (.int 0))) (qv V 20 0 0 2) Y := by
  refine CT.of (cc := b_M_scan) (maxL := 5) (ret := (some .int)) hZ (by decide) w_872 (Nat.le_of_ble_eq_true rfl) ?_
  intro p e s m below meth c C hr hex hlt
  refine gq_aload_n C d_M_scan_0 rfl ?_
  refine gq_aload_n C d_M_scan_1 rfl ?_
  refine gq_iload_n C d_M_scan_2 rfl ?_
  refine gq_callV C (st := [.ref (al Z 20 0)]) (fun _ h => h.elim) (c_M_noOpen l Z hZ _ _ k hk h1 h2) (qm (by decide) (by decide)) rfl rfl w_873 w_875 ws_M_noOpen w_876 w_9 ⟨by decide, by decide, (by decide +kernel : (parseMethodDescriptor y_M_noOpen.desc).map (fun d => d.parameters.length) = some 1)⟩ ⟨by decide, by decide⟩ ⟨by decide, by decide⟩ rfl (Nat.le_of_ble_eq_true rfl) d_M_scan_3 ?_
  refine gq_if_eq C (tgt := 13) d_M_scan_6 rfl (fun hb6 => ?_) (fun hb => by exact absurd hb (by decide))
  refine gq_iload_n C d_M_scan_13 rfl ?_
  refine gq_bipush C (v := 8) d_M_scan_14 (by decide) ?_
  refine gq_callS C (st := [.ref (al Z 20 0)]) (fun _ h => h.elim) (c_M_not l Z hZ _ _ a 8) w_761 w_762 w_763 w_9 ⟨by decide, by decide, (by decide +kernel : (parseMethodDescriptor y_M_not.desc).map (fun d => d.parameters.length) = some 2)⟩ ⟨by decide, by decide⟩ ⟨by decide, by decide⟩ rfl (Nat.le_of_ble_eq_true rfl) d_M_scan_16 ?_
  refine gq_if_ne C (tgt := 32) d_M_scan_19 rfl (fun hb19 => ?_) (fun hb19 => ?_)
  · skip
    refine gq_iconst C (v := 2) d_M_scan_32 (by decide) ?_
    refine gq_goto C (tgt := 37) d_M_scan_33 rfl ?_
    refine gq_put C (fun _ h => h) (g := 20) (j := 0) (ci := 8) (k := 0) ft_M k_M n_M (qm (by decide) (by decide)) rfl rfl in_M (by decide) w_661 rfl (k_M 0 (by decide)) rfl rfl (Nat.le_of_ble_eq_true rfl) rfl d_M_scan_37 ?_
    refine gq_aload_n C d_M_scan_40 rfl ?_
    refine gq_get C (g := 20) (j := 0) (ci := 8) (k := 0) (v := .int 2) (qm (by decide) (by decide)) rfl rfl in_M (by decide) w_661 rfl d_M_scan_41 ?_
    refine gq_if_eq C (tgt := 49) d_M_scan_44 rfl (fun hb => by exact absurd hb (by decide)) (fun hb44 => ?_)
    refine gq_iconst C (v := 0) d_M_scan_47 (by decide) ?_
    exact gq_iretE C hr rfl rfl rfl (by decide) (by decide) d_M_scan_48
  · skip
    refine gq_iload_n C d_M_scan_22 rfl ?_
    refine gq_iconst C (v := 1) d_M_scan_23 (by decide) ?_
    refine gq_icmp_eq C (tgt := 36) d_M_scan_24 rfl (fun hb => by exact h.elim (fun q => absurd hb19 q) (fun q => absurd hb q.1)) (fun hb24 => ?_)
    refine gq_iload_n C d_M_scan_27 rfl ?_
    refine gq_iconst C (v := (-1)) d_M_scan_28 (by decide) ?_
    refine gq_icmp_eq C (tgt := 36) d_M_scan_29 rfl (fun hb => by exact h.elim (fun q => absurd hb19 q) (fun q => absurd hb q.2)) (fun hb29 => ?_)
    refine gq_iconst C (v := 2) d_M_scan_32 (by decide) ?_
    refine gq_goto C (tgt := 37) d_M_scan_33 rfl ?_
    refine gq_put C (fun _ h => h) (g := 20) (j := 0) (ci := 8) (k := 0) ft_M k_M n_M (qm (by decide) (by decide)) rfl rfl in_M (by decide) w_661 rfl (k_M 0 (by decide)) rfl rfl (Nat.le_of_ble_eq_true rfl) rfl d_M_scan_37 ?_
    refine gq_aload_n C d_M_scan_40 rfl ?_
    refine gq_get C (g := 20) (j := 0) (ci := 8) (k := 0) (v := .int 2) (qm (by decide) (by decide)) rfl rfl in_M (by decide) w_661 rfl d_M_scan_41 ?_
    refine gq_if_eq C (tgt := 49) d_M_scan_44 rfl (fun hb => by exact absurd hb (by decide)) (fun hb44 => ?_)
    refine gq_iconst C (v := 0) d_M_scan_47 (by decide) ?_
    exact gq_iretE C hr rfl rfl rfl (by decide) (by decide) d_M_scan_48

set_option maxHeartbeats 4000000 in
set_option maxRecDepth 100000 in
theorem c_M_scan_p (l : Launch) (Z : qZ) (hZ : qok (pX Z)) (V : qV) (Y : qY) (k : Nat) (hk : k < 40) (h1 : g_not (nI k) (V 20 0 24) = 0) (h2 : ¬ V 40 0 k = 0) (b : Nat) (hb : b < 10) (hbk : V 39 0 k = nI b) (n : Nat) (hn : n < 8) (h3 : g_not (nI n) 8 = 0) (h4 : ¬ V 21 0 (8 * b + n) = 0) (h5 : ¬ V 41 0 (8 * k + n) + 1 = 31) (h6 : ¬ V 41 0 (8 * k + n) + 1 = -1) : CT l y_M_scan { frames := 3, cells := 0, slots := 0, locals := 82 } (pX Z) (qA (pX Z)) [.ref (al Z 20 0), .int (nI k), .int (nI n), .int 1] V Y (.inl (some (.int ((V 41 0 (8 * k + n)) + 1)))) (qv (qv (qv V 20 0 0 0) 20 0 0 0) 41 0 (8 * k + n) ((V 41 0 (8 * k + n)) + 1)) Y := by
  refine CT.of (cc := b_M_scan) (maxL := 5) (ret := (some .int)) hZ (by decide) w_872 (Nat.le_of_ble_eq_true rfl) ?_
  intro p e s m below meth c C hr hex hlt
  refine gq_aload_n C d_M_scan_0 rfl ?_
  refine gq_aload_n C d_M_scan_1 rfl ?_
  refine gq_iload_n C d_M_scan_2 rfl ?_
  refine gq_callV C (st := [.ref (al Z 20 0)]) (fun _ h => h.elim) (c_M_noOpen l Z hZ _ _ k hk h1 h2) (qm (by decide) (by decide)) rfl rfl w_873 w_875 ws_M_noOpen w_876 w_9 ⟨by decide, by decide, (by decide +kernel : (parseMethodDescriptor y_M_noOpen.desc).map (fun d => d.parameters.length) = some 1)⟩ ⟨by decide, by decide⟩ ⟨by decide, by decide⟩ rfl (Nat.le_of_ble_eq_true rfl) d_M_scan_3 ?_
  refine gq_if_eq C (tgt := 13) d_M_scan_6 rfl (fun hb6 => ?_) (fun hb => by exact absurd hb (by decide))
  refine gq_iload_n C d_M_scan_13 rfl ?_
  refine gq_bipush C (v := 8) d_M_scan_14 (by decide) ?_
  refine gq_callS C (st := [.ref (al Z 20 0)]) (fun _ h => h.elim) (c_M_not l Z hZ _ _ (nI n) 8) w_761 w_762 w_763 w_9 ⟨by decide, by decide, (by decide +kernel : (parseMethodDescriptor y_M_not.desc).map (fun d => d.parameters.length) = some 2)⟩ ⟨by decide, by decide⟩ ⟨by decide, by decide⟩ rfl (Nat.le_of_ble_eq_true rfl) d_M_scan_16 ?_
  refine gq_if_ne C (tgt := 32) d_M_scan_19 rfl (fun hb7 => by exact absurd h3 hb7) (fun hb19 => ?_)
  refine gq_iload_n C d_M_scan_22 rfl ?_
  refine gq_iconst C (v := 1) d_M_scan_23 (by decide) ?_
  refine gq_icmp_eq C (tgt := 36) d_M_scan_24 rfl (fun hb24 => ?_) (fun hb => by exact absurd hb (by decide))
  refine gq_iconst C (v := 0) d_M_scan_36 (by decide) ?_
  refine gq_put C (fun _ h => h) (g := 20) (j := 0) (ci := 8) (k := 0) ft_M k_M n_M (qm (by decide) (by decide)) rfl rfl in_M (by decide) w_661 rfl (k_M 0 (by decide)) rfl rfl (Nat.le_of_ble_eq_true rfl) rfl d_M_scan_37 ?_
  refine gq_aload_n C d_M_scan_40 rfl ?_
  refine gq_get C (g := 20) (j := 0) (ci := 8) (k := 0) (v := .int 0) (qm (by decide) (by decide)) rfl rfl in_M (by decide) w_661 rfl d_M_scan_41 ?_
  refine gq_if_eq C (tgt := 49) d_M_scan_44 rfl (fun hb44 => ?_) (fun hb => by exact absurd hb (by decide))
  refine gq_aload_n C d_M_scan_49 rfl ?_
  refine gq_get C (g := 20) (j := 0) (ci := 8) (k := 28) (v := .ref (al Z 41 0)) (qm (by decide) (by decide)) rfl rfl in_M (by decide) w_689 rfl d_M_scan_50 ?_
  refine gq_bipush C (v := 8) d_M_scan_53 (by decide) ?_
  refine gq_iload_n C d_M_scan_55 rfl ?_
  refine gq_imul C d_M_scan_56 ?_
  refine gq_iload_n C d_M_scan_57 rfl ?_
  refine gq_iadd C d_M_scan_58 ?_
  refine gq_iald C (g := 41) (j := 0) (a := (8 * k + n)) (t0 := 0) (qm (by decide) (by decide)) rfl rfl (by rw [show (8 : Int32) = nI 8 from rfl, pk_mul]; exact nI_add _ _) (by omega) (by decide) d_M_scan_59 ?_
  refine G.eqS (st' := [.int (V 41 0 (8 * k + n))]) rfl ?_
  refine gq_iload_n C d_M_scan_60 rfl ?_
  refine gq_iadd C d_M_scan_61 ?_
  refine gq_istore C (lo' := [(4, .int ((V 41 0 (8 * k + n)) + 1)), (0, .ref (al Z 20 0)), (1, .int (nI k)), (2, .int (nI n)), (3, .int 1)]) d_M_scan_62 (by decide) rfl ?_
  refine gq_aload_n C d_M_scan_64 rfl ?_
  refine gq_aload_n C d_M_scan_65 rfl ?_
  refine gq_get C (g := 20) (j := 0) (ci := 8) (k := 2) (v := .ref (al Z 21 0)) (qm (by decide) (by decide)) rfl rfl in_M (by decide) w_663 rfl d_M_scan_66 ?_
  refine gq_bipush C (v := 8) d_M_scan_69 (by decide) ?_
  refine gq_aload_n C d_M_scan_71 rfl ?_
  refine gq_get C (g := 20) (j := 0) (ci := 8) (k := 26) (v := .ref (al Z 39 0)) (qm (by decide) (by decide)) rfl rfl in_M (by decide) w_687 rfl d_M_scan_72 ?_
  refine gq_iload_n C d_M_scan_75 rfl ?_
  refine gq_iald C (g := 39) (j := 0) (a := k) (t0 := 0) (qm (by decide) (by decide)) rfl rfl rfl hk (by decide) d_M_scan_76 ?_
  refine G.eqS (st' := [.int (V 39 0 k), .int 8, .ref (al Z 21 0), .ref (al Z 20 0)]) rfl ?_
  refine G.eqS (st' := [.int (nI b), .int 8, .ref (al Z 21 0), .ref (al Z 20 0)]) (by first | (rw [show V 39 0 k = nI b from hbk]; done) | (rw [show V 39 0 k = nI b from hbk]; rfl)) ?_
  refine gq_imul C d_M_scan_77 ?_
  refine gq_iload_n C d_M_scan_78 rfl ?_
  refine gq_iadd C d_M_scan_79 ?_
  refine gq_iald C (g := 21) (j := 0) (a := (8 * b + n)) (t0 := 0) (qm (by decide) (by decide)) rfl rfl (by rw [show (8 : Int32) = nI 8 from rfl, pk_mul]; exact nI_add _ _) (by omega) (by decide) d_M_scan_80 ?_
  refine G.eqS (st' := [.int (V 21 0 (8 * b + n)), .ref (al Z 20 0)]) rfl ?_
  refine gq_if_ne C (tgt := 88) d_M_scan_81 rfl (fun hb81 => ?_) (fun hb7 => by exact absurd hb7 h4)
  refine gq_iload C d_M_scan_88 rfl ?_
  refine gq_bipush C (v := 31) d_M_scan_90 (by decide) ?_
  refine gq_icmp_eq C (tgt := 101) d_M_scan_92 rfl (fun hb7 => by exact absurd hb7 h5) (fun hb92 => ?_)
  refine gq_iload C d_M_scan_95 rfl ?_
  refine gq_iconst C (v := (-1)) d_M_scan_97 (by decide) ?_
  refine gq_icmp_ne C (tgt := 105) d_M_scan_98 rfl (fun hb98 => ?_) (fun hb7 => by exact absurd hb7 h6)
  refine gq_iconst C (v := 0) d_M_scan_105 (by decide) ?_
  refine gq_put C (fun _ h => h) (g := 20) (j := 0) (ci := 8) (k := 0) ft_M k_M n_M (qm (by decide) (by decide)) rfl rfl in_M (by decide) w_661 rfl (k_M 0 (by decide)) rfl rfl (Nat.le_of_ble_eq_true rfl) rfl d_M_scan_106 ?_
  refine gq_aload_n C d_M_scan_109 rfl ?_
  refine gq_get C (g := 20) (j := 0) (ci := 8) (k := 0) (v := .int 0) (qm (by decide) (by decide)) rfl rfl in_M (by decide) w_661 rfl d_M_scan_110 ?_
  refine gq_if_eq C (tgt := 118) d_M_scan_113 rfl (fun hb113 => ?_) (fun hb => by exact absurd hb (by decide))
  refine gq_aload_n C d_M_scan_118 rfl ?_
  refine gq_get C (g := 20) (j := 0) (ci := 8) (k := 28) (v := .ref (al Z 41 0)) (qm (by decide) (by decide)) rfl rfl in_M (by decide) w_689 rfl d_M_scan_119 ?_
  refine gq_bipush C (v := 8) d_M_scan_122 (by decide) ?_
  refine gq_iload_n C d_M_scan_124 rfl ?_
  refine gq_imul C d_M_scan_125 ?_
  refine gq_iload_n C d_M_scan_126 rfl ?_
  refine gq_iadd C d_M_scan_127 ?_
  refine gq_iload C d_M_scan_128 rfl ?_
  refine gq_iast C (fun _ h => h) (g := 41) (j := 0) (a := (8 * k + n)) (t0 := 0) (qm (by decide) (by decide)) (fun _ => rfl) rfl (by rw [show (8 : Int32) = nI 8 from rfl, pk_mul]; exact nI_add _ _) (by omega) (by decide) d_M_scan_130 ?_
  refine gq_iload C d_M_scan_131 rfl ?_
  exact gq_iret C hr (by decide) (by decide) d_M_scan_133

set_option maxHeartbeats 4000000 in
set_option maxRecDepth 100000 in
theorem c_M_scan_p_x2 (l : Launch) (Z : qZ) (hZ : qok (pX Z)) (V : qV) (Y : qY) (k : Nat) (hk : k < 40) (h1 : g_not (nI k) (V 20 0 24) = 0) (h2 : ¬ V 40 0 k = 0) (b : Nat) (hb : b < 10) (hbk : V 39 0 k = nI b) (n : Nat) (hn : n < 8) (h3 : g_not (nI n) 8 = 0) (h4 : V 21 0 (8 * b + n) = 0) : CT l y_M_scan { frames := 3, cells := 0, slots := 0, locals := 82 } (pX Z) (qA (pX Z)) [.ref (al Z 20 0), .int (nI k), .int (nI n), .int 1] V Y (.inl (some (.int 0))) (qv V 20 0 0 2) Y := by
  refine CT.of (cc := b_M_scan) (maxL := 5) (ret := (some .int)) hZ (by decide) w_872 (Nat.le_of_ble_eq_true rfl) ?_
  intro p e s m below meth c C hr hex hlt
  refine gq_aload_n C d_M_scan_0 rfl ?_
  refine gq_aload_n C d_M_scan_1 rfl ?_
  refine gq_iload_n C d_M_scan_2 rfl ?_
  refine gq_callV C (st := [.ref (al Z 20 0)]) (fun _ h => h.elim) (c_M_noOpen l Z hZ _ _ k hk h1 h2) (qm (by decide) (by decide)) rfl rfl w_873 w_875 ws_M_noOpen w_876 w_9 ⟨by decide, by decide, (by decide +kernel : (parseMethodDescriptor y_M_noOpen.desc).map (fun d => d.parameters.length) = some 1)⟩ ⟨by decide, by decide⟩ ⟨by decide, by decide⟩ rfl (Nat.le_of_ble_eq_true rfl) d_M_scan_3 ?_
  refine gq_if_eq C (tgt := 13) d_M_scan_6 rfl (fun hb6 => ?_) (fun hb => by exact absurd hb (by decide))
  refine gq_iload_n C d_M_scan_13 rfl ?_
  refine gq_bipush C (v := 8) d_M_scan_14 (by decide) ?_
  refine gq_callS C (st := [.ref (al Z 20 0)]) (fun _ h => h.elim) (c_M_not l Z hZ _ _ (nI n) 8) w_761 w_762 w_763 w_9 ⟨by decide, by decide, (by decide +kernel : (parseMethodDescriptor y_M_not.desc).map (fun d => d.parameters.length) = some 2)⟩ ⟨by decide, by decide⟩ ⟨by decide, by decide⟩ rfl (Nat.le_of_ble_eq_true rfl) d_M_scan_16 ?_
  refine gq_if_ne C (tgt := 32) d_M_scan_19 rfl (fun hb7 => by exact absurd h3 hb7) (fun hb19 => ?_)
  refine gq_iload_n C d_M_scan_22 rfl ?_
  refine gq_iconst C (v := 1) d_M_scan_23 (by decide) ?_
  refine gq_icmp_eq C (tgt := 36) d_M_scan_24 rfl (fun hb24 => ?_) (fun hb => by exact absurd hb (by decide))
  refine gq_iconst C (v := 0) d_M_scan_36 (by decide) ?_
  refine gq_put C (fun _ h => h) (g := 20) (j := 0) (ci := 8) (k := 0) ft_M k_M n_M (qm (by decide) (by decide)) rfl rfl in_M (by decide) w_661 rfl (k_M 0 (by decide)) rfl rfl (Nat.le_of_ble_eq_true rfl) rfl d_M_scan_37 ?_
  refine gq_aload_n C d_M_scan_40 rfl ?_
  refine gq_get C (g := 20) (j := 0) (ci := 8) (k := 0) (v := .int 0) (qm (by decide) (by decide)) rfl rfl in_M (by decide) w_661 rfl d_M_scan_41 ?_
  refine gq_if_eq C (tgt := 49) d_M_scan_44 rfl (fun hb44 => ?_) (fun hb => by exact absurd hb (by decide))
  refine gq_aload_n C d_M_scan_49 rfl ?_
  refine gq_get C (g := 20) (j := 0) (ci := 8) (k := 28) (v := .ref (al Z 41 0)) (qm (by decide) (by decide)) rfl rfl in_M (by decide) w_689 rfl d_M_scan_50 ?_
  refine gq_bipush C (v := 8) d_M_scan_53 (by decide) ?_
  refine gq_iload_n C d_M_scan_55 rfl ?_
  refine gq_imul C d_M_scan_56 ?_
  refine gq_iload_n C d_M_scan_57 rfl ?_
  refine gq_iadd C d_M_scan_58 ?_
  refine gq_iald C (g := 41) (j := 0) (a := (8 * k + n)) (t0 := 0) (qm (by decide) (by decide)) rfl rfl (by rw [show (8 : Int32) = nI 8 from rfl, pk_mul]; exact nI_add _ _) (by omega) (by decide) d_M_scan_59 ?_
  refine G.eqS (st' := [.int (V 41 0 (8 * k + n))]) rfl ?_
  refine gq_iload_n C d_M_scan_60 rfl ?_
  refine gq_iadd C d_M_scan_61 ?_
  refine gq_istore C (lo' := [(4, .int ((V 41 0 (8 * k + n)) + 1)), (0, .ref (al Z 20 0)), (1, .int (nI k)), (2, .int (nI n)), (3, .int 1)]) d_M_scan_62 (by decide) rfl ?_
  refine gq_aload_n C d_M_scan_64 rfl ?_
  refine gq_aload_n C d_M_scan_65 rfl ?_
  refine gq_get C (g := 20) (j := 0) (ci := 8) (k := 2) (v := .ref (al Z 21 0)) (qm (by decide) (by decide)) rfl rfl in_M (by decide) w_663 rfl d_M_scan_66 ?_
  refine gq_bipush C (v := 8) d_M_scan_69 (by decide) ?_
  refine gq_aload_n C d_M_scan_71 rfl ?_
  refine gq_get C (g := 20) (j := 0) (ci := 8) (k := 26) (v := .ref (al Z 39 0)) (qm (by decide) (by decide)) rfl rfl in_M (by decide) w_687 rfl d_M_scan_72 ?_
  refine gq_iload_n C d_M_scan_75 rfl ?_
  refine gq_iald C (g := 39) (j := 0) (a := k) (t0 := 0) (qm (by decide) (by decide)) rfl rfl rfl hk (by decide) d_M_scan_76 ?_
  refine G.eqS (st' := [.int (V 39 0 k), .int 8, .ref (al Z 21 0), .ref (al Z 20 0)]) rfl ?_
  refine G.eqS (st' := [.int (nI b), .int 8, .ref (al Z 21 0), .ref (al Z 20 0)]) (by first | (rw [show V 39 0 k = nI b from hbk]; done) | (rw [show V 39 0 k = nI b from hbk]; rfl)) ?_
  refine gq_imul C d_M_scan_77 ?_
  refine gq_iload_n C d_M_scan_78 rfl ?_
  refine gq_iadd C d_M_scan_79 ?_
  refine gq_iald C (g := 21) (j := 0) (a := (8 * b + n)) (t0 := 0) (qm (by decide) (by decide)) rfl rfl (by rw [show (8 : Int32) = nI 8 from rfl, pk_mul]; exact nI_add _ _) (by omega) (by decide) d_M_scan_80 ?_
  refine G.eqS (st' := [.int (V 21 0 (8 * b + n)), .ref (al Z 20 0)]) rfl ?_
  refine gq_if_ne C (tgt := 88) d_M_scan_81 rfl (fun hb7 => by exact absurd h4 hb7) (fun hb81 => ?_)
  refine gq_iconst C (v := 2) d_M_scan_84 (by decide) ?_
  refine gq_goto C (tgt := 106) d_M_scan_85 rfl ?_
  refine gq_put C (fun _ h => h) (g := 20) (j := 0) (ci := 8) (k := 0) ft_M k_M n_M (qm (by decide) (by decide)) rfl rfl in_M (by decide) w_661 rfl (k_M 0 (by decide)) rfl rfl (Nat.le_of_ble_eq_true rfl) rfl d_M_scan_106 ?_
  refine gq_aload_n C d_M_scan_109 rfl ?_
  refine gq_get C (g := 20) (j := 0) (ci := 8) (k := 0) (v := .int 2) (qm (by decide) (by decide)) rfl rfl in_M (by decide) w_661 rfl d_M_scan_110 ?_
  refine gq_if_eq C (tgt := 118) d_M_scan_113 rfl (fun hb => by exact absurd hb (by decide)) (fun hb113 => ?_)
  refine gq_iconst C (v := 0) d_M_scan_116 (by decide) ?_
  exact gq_iretE C hr rfl (by funext q1 q2 q3; simp only [qv_at]; split <;> rfl) rfl (by decide) (by decide) d_M_scan_117

set_option maxHeartbeats 4000000 in
set_option maxRecDepth 100000 in
theorem c_M_scan_p_x3 (l : Launch) (Z : qZ) (hZ : qok (pX Z)) (V : qV) (Y : qY) (k : Nat) (hk : k < 40) (h1 : g_not (nI k) (V 20 0 24) = 0) (h2 : ¬ V 40 0 k = 0) (b : Nat) (hb : b < 10) (hbk : V 39 0 k = nI b) (n : Nat) (hn : n < 8) (h3 : g_not (nI n) 8 = 0) (h4 : ¬ V 21 0 (8 * b + n) = 0) (h5 : V 41 0 (8 * k + n) + 1 = 31 ∨ V 41 0 (8 * k + n) + 1 = -1) : CT l y_M_scan { frames := 3, cells := 0, slots := 0, locals := 82 } (pX Z) (qA (pX Z)) [.ref (al Z 20 0), .int (nI k), .int (nI n), .int 1] V Y (.inl (some (.int 0))) (qv V 20 0 0 3) Y := by
  refine CT.of (cc := b_M_scan) (maxL := 5) (ret := (some .int)) hZ (by decide) w_872 (Nat.le_of_ble_eq_true rfl) ?_
  intro p e s m below meth c C hr hex hlt
  refine gq_aload_n C d_M_scan_0 rfl ?_
  refine gq_aload_n C d_M_scan_1 rfl ?_
  refine gq_iload_n C d_M_scan_2 rfl ?_
  refine gq_callV C (st := [.ref (al Z 20 0)]) (fun _ h => h.elim) (c_M_noOpen l Z hZ _ _ k hk h1 h2) (qm (by decide) (by decide)) rfl rfl w_873 w_875 ws_M_noOpen w_876 w_9 ⟨by decide, by decide, (by decide +kernel : (parseMethodDescriptor y_M_noOpen.desc).map (fun d => d.parameters.length) = some 1)⟩ ⟨by decide, by decide⟩ ⟨by decide, by decide⟩ rfl (Nat.le_of_ble_eq_true rfl) d_M_scan_3 ?_
  refine gq_if_eq C (tgt := 13) d_M_scan_6 rfl (fun hb6 => ?_) (fun hb => by exact absurd hb (by decide))
  refine gq_iload_n C d_M_scan_13 rfl ?_
  refine gq_bipush C (v := 8) d_M_scan_14 (by decide) ?_
  refine gq_callS C (st := [.ref (al Z 20 0)]) (fun _ h => h.elim) (c_M_not l Z hZ _ _ (nI n) 8) w_761 w_762 w_763 w_9 ⟨by decide, by decide, (by decide +kernel : (parseMethodDescriptor y_M_not.desc).map (fun d => d.parameters.length) = some 2)⟩ ⟨by decide, by decide⟩ ⟨by decide, by decide⟩ rfl (Nat.le_of_ble_eq_true rfl) d_M_scan_16 ?_
  refine gq_if_ne C (tgt := 32) d_M_scan_19 rfl (fun hb7 => by exact absurd h3 hb7) (fun hb19 => ?_)
  refine gq_iload_n C d_M_scan_22 rfl ?_
  refine gq_iconst C (v := 1) d_M_scan_23 (by decide) ?_
  refine gq_icmp_eq C (tgt := 36) d_M_scan_24 rfl (fun hb24 => ?_) (fun hb => by exact absurd hb (by decide))
  refine gq_iconst C (v := 0) d_M_scan_36 (by decide) ?_
  refine gq_put C (fun _ h => h) (g := 20) (j := 0) (ci := 8) (k := 0) ft_M k_M n_M (qm (by decide) (by decide)) rfl rfl in_M (by decide) w_661 rfl (k_M 0 (by decide)) rfl rfl (Nat.le_of_ble_eq_true rfl) rfl d_M_scan_37 ?_
  refine gq_aload_n C d_M_scan_40 rfl ?_
  refine gq_get C (g := 20) (j := 0) (ci := 8) (k := 0) (v := .int 0) (qm (by decide) (by decide)) rfl rfl in_M (by decide) w_661 rfl d_M_scan_41 ?_
  refine gq_if_eq C (tgt := 49) d_M_scan_44 rfl (fun hb44 => ?_) (fun hb => by exact absurd hb (by decide))
  refine gq_aload_n C d_M_scan_49 rfl ?_
  refine gq_get C (g := 20) (j := 0) (ci := 8) (k := 28) (v := .ref (al Z 41 0)) (qm (by decide) (by decide)) rfl rfl in_M (by decide) w_689 rfl d_M_scan_50 ?_
  refine gq_bipush C (v := 8) d_M_scan_53 (by decide) ?_
  refine gq_iload_n C d_M_scan_55 rfl ?_
  refine gq_imul C d_M_scan_56 ?_
  refine gq_iload_n C d_M_scan_57 rfl ?_
  refine gq_iadd C d_M_scan_58 ?_
  refine gq_iald C (g := 41) (j := 0) (a := (8 * k + n)) (t0 := 0) (qm (by decide) (by decide)) rfl rfl (by rw [show (8 : Int32) = nI 8 from rfl, pk_mul]; exact nI_add _ _) (by omega) (by decide) d_M_scan_59 ?_
  refine G.eqS (st' := [.int (V 41 0 (8 * k + n))]) rfl ?_
  refine gq_iload_n C d_M_scan_60 rfl ?_
  refine gq_iadd C d_M_scan_61 ?_
  refine gq_istore C (lo' := [(4, .int ((V 41 0 (8 * k + n)) + 1)), (0, .ref (al Z 20 0)), (1, .int (nI k)), (2, .int (nI n)), (3, .int 1)]) d_M_scan_62 (by decide) rfl ?_
  refine gq_aload_n C d_M_scan_64 rfl ?_
  refine gq_aload_n C d_M_scan_65 rfl ?_
  refine gq_get C (g := 20) (j := 0) (ci := 8) (k := 2) (v := .ref (al Z 21 0)) (qm (by decide) (by decide)) rfl rfl in_M (by decide) w_663 rfl d_M_scan_66 ?_
  refine gq_bipush C (v := 8) d_M_scan_69 (by decide) ?_
  refine gq_aload_n C d_M_scan_71 rfl ?_
  refine gq_get C (g := 20) (j := 0) (ci := 8) (k := 26) (v := .ref (al Z 39 0)) (qm (by decide) (by decide)) rfl rfl in_M (by decide) w_687 rfl d_M_scan_72 ?_
  refine gq_iload_n C d_M_scan_75 rfl ?_
  refine gq_iald C (g := 39) (j := 0) (a := k) (t0 := 0) (qm (by decide) (by decide)) rfl rfl rfl hk (by decide) d_M_scan_76 ?_
  refine G.eqS (st' := [.int (V 39 0 k), .int 8, .ref (al Z 21 0), .ref (al Z 20 0)]) rfl ?_
  refine G.eqS (st' := [.int (nI b), .int 8, .ref (al Z 21 0), .ref (al Z 20 0)]) (by first | (rw [show V 39 0 k = nI b from hbk]; done) | (rw [show V 39 0 k = nI b from hbk]; rfl)) ?_
  refine gq_imul C d_M_scan_77 ?_
  refine gq_iload_n C d_M_scan_78 rfl ?_
  refine gq_iadd C d_M_scan_79 ?_
  refine gq_iald C (g := 21) (j := 0) (a := (8 * b + n)) (t0 := 0) (qm (by decide) (by decide)) rfl rfl (by rw [show (8 : Int32) = nI 8 from rfl, pk_mul]; exact nI_add _ _) (by omega) (by decide) d_M_scan_80 ?_
  refine G.eqS (st' := [.int (V 21 0 (8 * b + n)), .ref (al Z 20 0)]) rfl ?_
  refine gq_if_ne C (tgt := 88) d_M_scan_81 rfl (fun hb81 => ?_) (fun hb7 => by exact absurd hb7 h4)
  refine gq_iload C d_M_scan_88 rfl ?_
  refine gq_bipush C (v := 31) d_M_scan_90 (by decide) ?_
  refine gq_icmp_eq C (tgt := 101) d_M_scan_92 rfl (fun hb92 => ?_) (fun hb92 => ?_)
  · skip
    refine gq_iconst C (v := 3) d_M_scan_101 (by decide) ?_
    refine gq_goto C (tgt := 106) d_M_scan_102 rfl ?_
    refine gq_put C (fun _ h => h) (g := 20) (j := 0) (ci := 8) (k := 0) ft_M k_M n_M (qm (by decide) (by decide)) rfl rfl in_M (by decide) w_661 rfl (k_M 0 (by decide)) rfl rfl (Nat.le_of_ble_eq_true rfl) rfl d_M_scan_106 ?_
    refine gq_aload_n C d_M_scan_109 rfl ?_
    refine gq_get C (g := 20) (j := 0) (ci := 8) (k := 0) (v := .int 3) (qm (by decide) (by decide)) rfl rfl in_M (by decide) w_661 rfl d_M_scan_110 ?_
    refine gq_if_eq C (tgt := 118) d_M_scan_113 rfl (fun hb => by exact absurd hb (by decide)) (fun hb113 => ?_)
    refine gq_iconst C (v := 0) d_M_scan_116 (by decide) ?_
    exact gq_iretE C hr rfl (by funext q1 q2 q3; simp only [qv_at]; split <;> rfl) rfl (by decide) (by decide) d_M_scan_117
  · skip
    refine gq_iload C d_M_scan_95 rfl ?_
    refine gq_iconst C (v := (-1)) d_M_scan_97 (by decide) ?_
    refine gq_icmp_ne C (tgt := 105) d_M_scan_98 rfl (fun hb7 => by exact h5.elim (fun q => absurd q hb92) (fun q => absurd q hb7)) (fun hb98 => ?_)
    refine gq_iconst C (v := 3) d_M_scan_101 (by decide) ?_
    refine gq_goto C (tgt := 106) d_M_scan_102 rfl ?_
    refine gq_put C (fun _ h => h) (g := 20) (j := 0) (ci := 8) (k := 0) ft_M k_M n_M (qm (by decide) (by decide)) rfl rfl in_M (by decide) w_661 rfl (k_M 0 (by decide)) rfl rfl (Nat.le_of_ble_eq_true rfl) rfl d_M_scan_106 ?_
    refine gq_aload_n C d_M_scan_109 rfl ?_
    refine gq_get C (g := 20) (j := 0) (ci := 8) (k := 0) (v := .int 3) (qm (by decide) (by decide)) rfl rfl in_M (by decide) w_661 rfl d_M_scan_110 ?_
    refine gq_if_eq C (tgt := 118) d_M_scan_113 rfl (fun hb => by exact absurd hb (by decide)) (fun hb113 => ?_)
    refine gq_iconst C (v := 0) d_M_scan_116 (by decide) ?_
    exact gq_iretE C hr rfl (by funext q1 q2 q3; simp only [qv_at]; split <;> rfl) rfl (by decide) (by decide) d_M_scan_117

set_option maxHeartbeats 4000000 in
set_option maxRecDepth 100000 in
theorem c_M_scan_m (l : Launch) (Z : qZ) (hZ : qok (pX Z)) (V : qV) (Y : qY) (k : Nat) (hk : k < 40) (h1 : g_not (nI k) (V 20 0 24) = 0) (h2 : ¬ V 40 0 k = 0) (b : Nat) (hb : b < 10) (hbk : V 39 0 k = nI b) (n : Nat) (hn : n < 8) (h3 : g_not (nI n) 8 = 0) (h4 : ¬ V 21 0 (8 * b + n) = 0) (h5 : ¬ V 41 0 (8 * k + n) + (-1) = 31) (h6 : ¬ V 41 0 (8 * k + n) + (-1) = -1) : CT l y_M_scan { frames := 3, cells := 0, slots := 0, locals := 82 } (pX Z) (qA (pX Z)) [.ref (al Z 20 0), .int (nI k), .int (nI n), .int ((-1))] V Y (.inl (some (.int ((V 41 0 (8 * k + n)) + ((-1)))))) (qv (qv (qv V 20 0 0 0) 20 0 0 0) 41 0 (8 * k + n) ((V 41 0 (8 * k + n)) + ((-1)))) Y := by
  refine CT.of (cc := b_M_scan) (maxL := 5) (ret := (some .int)) hZ (by decide) w_872 (Nat.le_of_ble_eq_true rfl) ?_
  intro p e s m below meth c C hr hex hlt
  refine gq_aload_n C d_M_scan_0 rfl ?_
  refine gq_aload_n C d_M_scan_1 rfl ?_
  refine gq_iload_n C d_M_scan_2 rfl ?_
  refine gq_callV C (st := [.ref (al Z 20 0)]) (fun _ h => h.elim) (c_M_noOpen l Z hZ _ _ k hk h1 h2) (qm (by decide) (by decide)) rfl rfl w_873 w_875 ws_M_noOpen w_876 w_9 ⟨by decide, by decide, (by decide +kernel : (parseMethodDescriptor y_M_noOpen.desc).map (fun d => d.parameters.length) = some 1)⟩ ⟨by decide, by decide⟩ ⟨by decide, by decide⟩ rfl (Nat.le_of_ble_eq_true rfl) d_M_scan_3 ?_
  refine gq_if_eq C (tgt := 13) d_M_scan_6 rfl (fun hb6 => ?_) (fun hb => by exact absurd hb (by decide))
  refine gq_iload_n C d_M_scan_13 rfl ?_
  refine gq_bipush C (v := 8) d_M_scan_14 (by decide) ?_
  refine gq_callS C (st := [.ref (al Z 20 0)]) (fun _ h => h.elim) (c_M_not l Z hZ _ _ (nI n) 8) w_761 w_762 w_763 w_9 ⟨by decide, by decide, (by decide +kernel : (parseMethodDescriptor y_M_not.desc).map (fun d => d.parameters.length) = some 2)⟩ ⟨by decide, by decide⟩ ⟨by decide, by decide⟩ rfl (Nat.le_of_ble_eq_true rfl) d_M_scan_16 ?_
  refine gq_if_ne C (tgt := 32) d_M_scan_19 rfl (fun hb7 => by exact absurd h3 hb7) (fun hb19 => ?_)
  refine gq_iload_n C d_M_scan_22 rfl ?_
  refine gq_iconst C (v := 1) d_M_scan_23 (by decide) ?_
  refine gq_icmp_eq C (tgt := 36) d_M_scan_24 rfl (fun hb => by exact absurd hb (by decide)) (fun hb24 => ?_)
  refine gq_iload_n C d_M_scan_27 rfl ?_
  refine gq_iconst C (v := (-1)) d_M_scan_28 (by decide) ?_
  refine gq_icmp_eq C (tgt := 36) d_M_scan_29 rfl (fun hb29 => ?_) (fun hb => by exact absurd hb (by decide))
  refine gq_iconst C (v := 0) d_M_scan_36 (by decide) ?_
  refine gq_put C (fun _ h => h) (g := 20) (j := 0) (ci := 8) (k := 0) ft_M k_M n_M (qm (by decide) (by decide)) rfl rfl in_M (by decide) w_661 rfl (k_M 0 (by decide)) rfl rfl (Nat.le_of_ble_eq_true rfl) rfl d_M_scan_37 ?_
  refine gq_aload_n C d_M_scan_40 rfl ?_
  refine gq_get C (g := 20) (j := 0) (ci := 8) (k := 0) (v := .int 0) (qm (by decide) (by decide)) rfl rfl in_M (by decide) w_661 rfl d_M_scan_41 ?_
  refine gq_if_eq C (tgt := 49) d_M_scan_44 rfl (fun hb44 => ?_) (fun hb => by exact absurd hb (by decide))
  refine gq_aload_n C d_M_scan_49 rfl ?_
  refine gq_get C (g := 20) (j := 0) (ci := 8) (k := 28) (v := .ref (al Z 41 0)) (qm (by decide) (by decide)) rfl rfl in_M (by decide) w_689 rfl d_M_scan_50 ?_
  refine gq_bipush C (v := 8) d_M_scan_53 (by decide) ?_
  refine gq_iload_n C d_M_scan_55 rfl ?_
  refine gq_imul C d_M_scan_56 ?_
  refine gq_iload_n C d_M_scan_57 rfl ?_
  refine gq_iadd C d_M_scan_58 ?_
  refine gq_iald C (g := 41) (j := 0) (a := (8 * k + n)) (t0 := 0) (qm (by decide) (by decide)) rfl rfl (by rw [show (8 : Int32) = nI 8 from rfl, pk_mul]; exact nI_add _ _) (by omega) (by decide) d_M_scan_59 ?_
  refine G.eqS (st' := [.int (V 41 0 (8 * k + n))]) rfl ?_
  refine gq_iload_n C d_M_scan_60 rfl ?_
  refine gq_iadd C d_M_scan_61 ?_
  refine gq_istore C (lo' := [(4, .int ((V 41 0 (8 * k + n)) + ((-1)))), (0, .ref (al Z 20 0)), (1, .int (nI k)), (2, .int (nI n)), (3, .int ((-1)))]) d_M_scan_62 (by decide) rfl ?_
  refine gq_aload_n C d_M_scan_64 rfl ?_
  refine gq_aload_n C d_M_scan_65 rfl ?_
  refine gq_get C (g := 20) (j := 0) (ci := 8) (k := 2) (v := .ref (al Z 21 0)) (qm (by decide) (by decide)) rfl rfl in_M (by decide) w_663 rfl d_M_scan_66 ?_
  refine gq_bipush C (v := 8) d_M_scan_69 (by decide) ?_
  refine gq_aload_n C d_M_scan_71 rfl ?_
  refine gq_get C (g := 20) (j := 0) (ci := 8) (k := 26) (v := .ref (al Z 39 0)) (qm (by decide) (by decide)) rfl rfl in_M (by decide) w_687 rfl d_M_scan_72 ?_
  refine gq_iload_n C d_M_scan_75 rfl ?_
  refine gq_iald C (g := 39) (j := 0) (a := k) (t0 := 0) (qm (by decide) (by decide)) rfl rfl rfl hk (by decide) d_M_scan_76 ?_
  refine G.eqS (st' := [.int (V 39 0 k), .int 8, .ref (al Z 21 0), .ref (al Z 20 0)]) rfl ?_
  refine G.eqS (st' := [.int (nI b), .int 8, .ref (al Z 21 0), .ref (al Z 20 0)]) (by first | (rw [show V 39 0 k = nI b from hbk]; done) | (rw [show V 39 0 k = nI b from hbk]; rfl)) ?_
  refine gq_imul C d_M_scan_77 ?_
  refine gq_iload_n C d_M_scan_78 rfl ?_
  refine gq_iadd C d_M_scan_79 ?_
  refine gq_iald C (g := 21) (j := 0) (a := (8 * b + n)) (t0 := 0) (qm (by decide) (by decide)) rfl rfl (by rw [show (8 : Int32) = nI 8 from rfl, pk_mul]; exact nI_add _ _) (by omega) (by decide) d_M_scan_80 ?_
  refine G.eqS (st' := [.int (V 21 0 (8 * b + n)), .ref (al Z 20 0)]) rfl ?_
  refine gq_if_ne C (tgt := 88) d_M_scan_81 rfl (fun hb81 => ?_) (fun hb7 => by exact absurd hb7 h4)
  refine gq_iload C d_M_scan_88 rfl ?_
  refine gq_bipush C (v := 31) d_M_scan_90 (by decide) ?_
  refine gq_icmp_eq C (tgt := 101) d_M_scan_92 rfl (fun hb7 => by exact absurd hb7 h5) (fun hb92 => ?_)
  refine gq_iload C d_M_scan_95 rfl ?_
  refine gq_iconst C (v := (-1)) d_M_scan_97 (by decide) ?_
  refine gq_icmp_ne C (tgt := 105) d_M_scan_98 rfl (fun hb98 => ?_) (fun hb7 => by exact absurd hb7 h6)
  refine gq_iconst C (v := 0) d_M_scan_105 (by decide) ?_
  refine gq_put C (fun _ h => h) (g := 20) (j := 0) (ci := 8) (k := 0) ft_M k_M n_M (qm (by decide) (by decide)) rfl rfl in_M (by decide) w_661 rfl (k_M 0 (by decide)) rfl rfl (Nat.le_of_ble_eq_true rfl) rfl d_M_scan_106 ?_
  refine gq_aload_n C d_M_scan_109 rfl ?_
  refine gq_get C (g := 20) (j := 0) (ci := 8) (k := 0) (v := .int 0) (qm (by decide) (by decide)) rfl rfl in_M (by decide) w_661 rfl d_M_scan_110 ?_
  refine gq_if_eq C (tgt := 118) d_M_scan_113 rfl (fun hb113 => ?_) (fun hb => by exact absurd hb (by decide))
  refine gq_aload_n C d_M_scan_118 rfl ?_
  refine gq_get C (g := 20) (j := 0) (ci := 8) (k := 28) (v := .ref (al Z 41 0)) (qm (by decide) (by decide)) rfl rfl in_M (by decide) w_689 rfl d_M_scan_119 ?_
  refine gq_bipush C (v := 8) d_M_scan_122 (by decide) ?_
  refine gq_iload_n C d_M_scan_124 rfl ?_
  refine gq_imul C d_M_scan_125 ?_
  refine gq_iload_n C d_M_scan_126 rfl ?_
  refine gq_iadd C d_M_scan_127 ?_
  refine gq_iload C d_M_scan_128 rfl ?_
  refine gq_iast C (fun _ h => h) (g := 41) (j := 0) (a := (8 * k + n)) (t0 := 0) (qm (by decide) (by decide)) (fun _ => rfl) rfl (by rw [show (8 : Int32) = nI 8 from rfl, pk_mul]; exact nI_add _ _) (by omega) (by decide) d_M_scan_130 ?_
  refine gq_iload C d_M_scan_131 rfl ?_
  exact gq_iret C hr (by decide) (by decide) d_M_scan_133

set_option maxHeartbeats 4000000 in
set_option maxRecDepth 100000 in
theorem c_M_scan_m_x2 (l : Launch) (Z : qZ) (hZ : qok (pX Z)) (V : qV) (Y : qY) (k : Nat) (hk : k < 40) (h1 : g_not (nI k) (V 20 0 24) = 0) (h2 : ¬ V 40 0 k = 0) (b : Nat) (hb : b < 10) (hbk : V 39 0 k = nI b) (n : Nat) (hn : n < 8) (h3 : g_not (nI n) 8 = 0) (h4 : V 21 0 (8 * b + n) = 0) : CT l y_M_scan { frames := 3, cells := 0, slots := 0, locals := 82 } (pX Z) (qA (pX Z)) [.ref (al Z 20 0), .int (nI k), .int (nI n), .int ((-1))] V Y (.inl (some (.int 0))) (qv V 20 0 0 2) Y := by
  refine CT.of (cc := b_M_scan) (maxL := 5) (ret := (some .int)) hZ (by decide) w_872 (Nat.le_of_ble_eq_true rfl) ?_
  intro p e s m below meth c C hr hex hlt
  refine gq_aload_n C d_M_scan_0 rfl ?_
  refine gq_aload_n C d_M_scan_1 rfl ?_
  refine gq_iload_n C d_M_scan_2 rfl ?_
  refine gq_callV C (st := [.ref (al Z 20 0)]) (fun _ h => h.elim) (c_M_noOpen l Z hZ _ _ k hk h1 h2) (qm (by decide) (by decide)) rfl rfl w_873 w_875 ws_M_noOpen w_876 w_9 ⟨by decide, by decide, (by decide +kernel : (parseMethodDescriptor y_M_noOpen.desc).map (fun d => d.parameters.length) = some 1)⟩ ⟨by decide, by decide⟩ ⟨by decide, by decide⟩ rfl (Nat.le_of_ble_eq_true rfl) d_M_scan_3 ?_
  refine gq_if_eq C (tgt := 13) d_M_scan_6 rfl (fun hb6 => ?_) (fun hb => by exact absurd hb (by decide))
  refine gq_iload_n C d_M_scan_13 rfl ?_
  refine gq_bipush C (v := 8) d_M_scan_14 (by decide) ?_
  refine gq_callS C (st := [.ref (al Z 20 0)]) (fun _ h => h.elim) (c_M_not l Z hZ _ _ (nI n) 8) w_761 w_762 w_763 w_9 ⟨by decide, by decide, (by decide +kernel : (parseMethodDescriptor y_M_not.desc).map (fun d => d.parameters.length) = some 2)⟩ ⟨by decide, by decide⟩ ⟨by decide, by decide⟩ rfl (Nat.le_of_ble_eq_true rfl) d_M_scan_16 ?_
  refine gq_if_ne C (tgt := 32) d_M_scan_19 rfl (fun hb7 => by exact absurd h3 hb7) (fun hb19 => ?_)
  refine gq_iload_n C d_M_scan_22 rfl ?_
  refine gq_iconst C (v := 1) d_M_scan_23 (by decide) ?_
  refine gq_icmp_eq C (tgt := 36) d_M_scan_24 rfl (fun hb => by exact absurd hb (by decide)) (fun hb24 => ?_)
  refine gq_iload_n C d_M_scan_27 rfl ?_
  refine gq_iconst C (v := (-1)) d_M_scan_28 (by decide) ?_
  refine gq_icmp_eq C (tgt := 36) d_M_scan_29 rfl (fun hb29 => ?_) (fun hb => by exact absurd hb (by decide))
  refine gq_iconst C (v := 0) d_M_scan_36 (by decide) ?_
  refine gq_put C (fun _ h => h) (g := 20) (j := 0) (ci := 8) (k := 0) ft_M k_M n_M (qm (by decide) (by decide)) rfl rfl in_M (by decide) w_661 rfl (k_M 0 (by decide)) rfl rfl (Nat.le_of_ble_eq_true rfl) rfl d_M_scan_37 ?_
  refine gq_aload_n C d_M_scan_40 rfl ?_
  refine gq_get C (g := 20) (j := 0) (ci := 8) (k := 0) (v := .int 0) (qm (by decide) (by decide)) rfl rfl in_M (by decide) w_661 rfl d_M_scan_41 ?_
  refine gq_if_eq C (tgt := 49) d_M_scan_44 rfl (fun hb44 => ?_) (fun hb => by exact absurd hb (by decide))
  refine gq_aload_n C d_M_scan_49 rfl ?_
  refine gq_get C (g := 20) (j := 0) (ci := 8) (k := 28) (v := .ref (al Z 41 0)) (qm (by decide) (by decide)) rfl rfl in_M (by decide) w_689 rfl d_M_scan_50 ?_
  refine gq_bipush C (v := 8) d_M_scan_53 (by decide) ?_
  refine gq_iload_n C d_M_scan_55 rfl ?_
  refine gq_imul C d_M_scan_56 ?_
  refine gq_iload_n C d_M_scan_57 rfl ?_
  refine gq_iadd C d_M_scan_58 ?_
  refine gq_iald C (g := 41) (j := 0) (a := (8 * k + n)) (t0 := 0) (qm (by decide) (by decide)) rfl rfl (by rw [show (8 : Int32) = nI 8 from rfl, pk_mul]; exact nI_add _ _) (by omega) (by decide) d_M_scan_59 ?_
  refine G.eqS (st' := [.int (V 41 0 (8 * k + n))]) rfl ?_
  refine gq_iload_n C d_M_scan_60 rfl ?_
  refine gq_iadd C d_M_scan_61 ?_
  refine gq_istore C (lo' := [(4, .int ((V 41 0 (8 * k + n)) + ((-1)))), (0, .ref (al Z 20 0)), (1, .int (nI k)), (2, .int (nI n)), (3, .int ((-1)))]) d_M_scan_62 (by decide) rfl ?_
  refine gq_aload_n C d_M_scan_64 rfl ?_
  refine gq_aload_n C d_M_scan_65 rfl ?_
  refine gq_get C (g := 20) (j := 0) (ci := 8) (k := 2) (v := .ref (al Z 21 0)) (qm (by decide) (by decide)) rfl rfl in_M (by decide) w_663 rfl d_M_scan_66 ?_
  refine gq_bipush C (v := 8) d_M_scan_69 (by decide) ?_
  refine gq_aload_n C d_M_scan_71 rfl ?_
  refine gq_get C (g := 20) (j := 0) (ci := 8) (k := 26) (v := .ref (al Z 39 0)) (qm (by decide) (by decide)) rfl rfl in_M (by decide) w_687 rfl d_M_scan_72 ?_
  refine gq_iload_n C d_M_scan_75 rfl ?_
  refine gq_iald C (g := 39) (j := 0) (a := k) (t0 := 0) (qm (by decide) (by decide)) rfl rfl rfl hk (by decide) d_M_scan_76 ?_
  refine G.eqS (st' := [.int (V 39 0 k), .int 8, .ref (al Z 21 0), .ref (al Z 20 0)]) rfl ?_
  refine G.eqS (st' := [.int (nI b), .int 8, .ref (al Z 21 0), .ref (al Z 20 0)]) (by first | (rw [show V 39 0 k = nI b from hbk]; done) | (rw [show V 39 0 k = nI b from hbk]; rfl)) ?_
  refine gq_imul C d_M_scan_77 ?_
  refine gq_iload_n C d_M_scan_78 rfl ?_
  refine gq_iadd C d_M_scan_79 ?_
  refine gq_iald C (g := 21) (j := 0) (a := (8 * b + n)) (t0 := 0) (qm (by decide) (by decide)) rfl rfl (by rw [show (8 : Int32) = nI 8 from rfl, pk_mul]; exact nI_add _ _) (by omega) (by decide) d_M_scan_80 ?_
  refine G.eqS (st' := [.int (V 21 0 (8 * b + n)), .ref (al Z 20 0)]) rfl ?_
  refine gq_if_ne C (tgt := 88) d_M_scan_81 rfl (fun hb7 => by exact absurd h4 hb7) (fun hb81 => ?_)
  refine gq_iconst C (v := 2) d_M_scan_84 (by decide) ?_
  refine gq_goto C (tgt := 106) d_M_scan_85 rfl ?_
  refine gq_put C (fun _ h => h) (g := 20) (j := 0) (ci := 8) (k := 0) ft_M k_M n_M (qm (by decide) (by decide)) rfl rfl in_M (by decide) w_661 rfl (k_M 0 (by decide)) rfl rfl (Nat.le_of_ble_eq_true rfl) rfl d_M_scan_106 ?_
  refine gq_aload_n C d_M_scan_109 rfl ?_
  refine gq_get C (g := 20) (j := 0) (ci := 8) (k := 0) (v := .int 2) (qm (by decide) (by decide)) rfl rfl in_M (by decide) w_661 rfl d_M_scan_110 ?_
  refine gq_if_eq C (tgt := 118) d_M_scan_113 rfl (fun hb => by exact absurd hb (by decide)) (fun hb113 => ?_)
  refine gq_iconst C (v := 0) d_M_scan_116 (by decide) ?_
  exact gq_iretE C hr rfl (by funext q1 q2 q3; simp only [qv_at]; split <;> rfl) rfl (by decide) (by decide) d_M_scan_117

set_option maxHeartbeats 4000000 in
set_option maxRecDepth 100000 in
theorem c_M_scan_m_x3 (l : Launch) (Z : qZ) (hZ : qok (pX Z)) (V : qV) (Y : qY) (k : Nat) (hk : k < 40) (h1 : g_not (nI k) (V 20 0 24) = 0) (h2 : ¬ V 40 0 k = 0) (b : Nat) (hb : b < 10) (hbk : V 39 0 k = nI b) (n : Nat) (hn : n < 8) (h3 : g_not (nI n) 8 = 0) (h4 : ¬ V 21 0 (8 * b + n) = 0) (h5 : V 41 0 (8 * k + n) + (-1) = 31 ∨ V 41 0 (8 * k + n) + (-1) = -1) : CT l y_M_scan { frames := 3, cells := 0, slots := 0, locals := 82 } (pX Z) (qA (pX Z)) [.ref (al Z 20 0), .int (nI k), .int (nI n), .int ((-1))] V Y (.inl (some (.int 0))) (qv V 20 0 0 3) Y := by
  refine CT.of (cc := b_M_scan) (maxL := 5) (ret := (some .int)) hZ (by decide) w_872 (Nat.le_of_ble_eq_true rfl) ?_
  intro p e s m below meth c C hr hex hlt
  refine gq_aload_n C d_M_scan_0 rfl ?_
  refine gq_aload_n C d_M_scan_1 rfl ?_
  refine gq_iload_n C d_M_scan_2 rfl ?_
  refine gq_callV C (st := [.ref (al Z 20 0)]) (fun _ h => h.elim) (c_M_noOpen l Z hZ _ _ k hk h1 h2) (qm (by decide) (by decide)) rfl rfl w_873 w_875 ws_M_noOpen w_876 w_9 ⟨by decide, by decide, (by decide +kernel : (parseMethodDescriptor y_M_noOpen.desc).map (fun d => d.parameters.length) = some 1)⟩ ⟨by decide, by decide⟩ ⟨by decide, by decide⟩ rfl (Nat.le_of_ble_eq_true rfl) d_M_scan_3 ?_
  refine gq_if_eq C (tgt := 13) d_M_scan_6 rfl (fun hb6 => ?_) (fun hb => by exact absurd hb (by decide))
  refine gq_iload_n C d_M_scan_13 rfl ?_
  refine gq_bipush C (v := 8) d_M_scan_14 (by decide) ?_
  refine gq_callS C (st := [.ref (al Z 20 0)]) (fun _ h => h.elim) (c_M_not l Z hZ _ _ (nI n) 8) w_761 w_762 w_763 w_9 ⟨by decide, by decide, (by decide +kernel : (parseMethodDescriptor y_M_not.desc).map (fun d => d.parameters.length) = some 2)⟩ ⟨by decide, by decide⟩ ⟨by decide, by decide⟩ rfl (Nat.le_of_ble_eq_true rfl) d_M_scan_16 ?_
  refine gq_if_ne C (tgt := 32) d_M_scan_19 rfl (fun hb7 => by exact absurd h3 hb7) (fun hb19 => ?_)
  refine gq_iload_n C d_M_scan_22 rfl ?_
  refine gq_iconst C (v := 1) d_M_scan_23 (by decide) ?_
  refine gq_icmp_eq C (tgt := 36) d_M_scan_24 rfl (fun hb => by exact absurd hb (by decide)) (fun hb24 => ?_)
  refine gq_iload_n C d_M_scan_27 rfl ?_
  refine gq_iconst C (v := (-1)) d_M_scan_28 (by decide) ?_
  refine gq_icmp_eq C (tgt := 36) d_M_scan_29 rfl (fun hb29 => ?_) (fun hb => by exact absurd hb (by decide))
  refine gq_iconst C (v := 0) d_M_scan_36 (by decide) ?_
  refine gq_put C (fun _ h => h) (g := 20) (j := 0) (ci := 8) (k := 0) ft_M k_M n_M (qm (by decide) (by decide)) rfl rfl in_M (by decide) w_661 rfl (k_M 0 (by decide)) rfl rfl (Nat.le_of_ble_eq_true rfl) rfl d_M_scan_37 ?_
  refine gq_aload_n C d_M_scan_40 rfl ?_
  refine gq_get C (g := 20) (j := 0) (ci := 8) (k := 0) (v := .int 0) (qm (by decide) (by decide)) rfl rfl in_M (by decide) w_661 rfl d_M_scan_41 ?_
  refine gq_if_eq C (tgt := 49) d_M_scan_44 rfl (fun hb44 => ?_) (fun hb => by exact absurd hb (by decide))
  refine gq_aload_n C d_M_scan_49 rfl ?_
  refine gq_get C (g := 20) (j := 0) (ci := 8) (k := 28) (v := .ref (al Z 41 0)) (qm (by decide) (by decide)) rfl rfl in_M (by decide) w_689 rfl d_M_scan_50 ?_
  refine gq_bipush C (v := 8) d_M_scan_53 (by decide) ?_
  refine gq_iload_n C d_M_scan_55 rfl ?_
  refine gq_imul C d_M_scan_56 ?_
  refine gq_iload_n C d_M_scan_57 rfl ?_
  refine gq_iadd C d_M_scan_58 ?_
  refine gq_iald C (g := 41) (j := 0) (a := (8 * k + n)) (t0 := 0) (qm (by decide) (by decide)) rfl rfl (by rw [show (8 : Int32) = nI 8 from rfl, pk_mul]; exact nI_add _ _) (by omega) (by decide) d_M_scan_59 ?_
  refine G.eqS (st' := [.int (V 41 0 (8 * k + n))]) rfl ?_
  refine gq_iload_n C d_M_scan_60 rfl ?_
  refine gq_iadd C d_M_scan_61 ?_
  refine gq_istore C (lo' := [(4, .int ((V 41 0 (8 * k + n)) + ((-1)))), (0, .ref (al Z 20 0)), (1, .int (nI k)), (2, .int (nI n)), (3, .int ((-1)))]) d_M_scan_62 (by decide) rfl ?_
  refine gq_aload_n C d_M_scan_64 rfl ?_
  refine gq_aload_n C d_M_scan_65 rfl ?_
  refine gq_get C (g := 20) (j := 0) (ci := 8) (k := 2) (v := .ref (al Z 21 0)) (qm (by decide) (by decide)) rfl rfl in_M (by decide) w_663 rfl d_M_scan_66 ?_
  refine gq_bipush C (v := 8) d_M_scan_69 (by decide) ?_
  refine gq_aload_n C d_M_scan_71 rfl ?_
  refine gq_get C (g := 20) (j := 0) (ci := 8) (k := 26) (v := .ref (al Z 39 0)) (qm (by decide) (by decide)) rfl rfl in_M (by decide) w_687 rfl d_M_scan_72 ?_
  refine gq_iload_n C d_M_scan_75 rfl ?_
  refine gq_iald C (g := 39) (j := 0) (a := k) (t0 := 0) (qm (by decide) (by decide)) rfl rfl rfl hk (by decide) d_M_scan_76 ?_
  refine G.eqS (st' := [.int (V 39 0 k), .int 8, .ref (al Z 21 0), .ref (al Z 20 0)]) rfl ?_
  refine G.eqS (st' := [.int (nI b), .int 8, .ref (al Z 21 0), .ref (al Z 20 0)]) (by first | (rw [show V 39 0 k = nI b from hbk]; done) | (rw [show V 39 0 k = nI b from hbk]; rfl)) ?_
  refine gq_imul C d_M_scan_77 ?_
  refine gq_iload_n C d_M_scan_78 rfl ?_
  refine gq_iadd C d_M_scan_79 ?_
  refine gq_iald C (g := 21) (j := 0) (a := (8 * b + n)) (t0 := 0) (qm (by decide) (by decide)) rfl rfl (by rw [show (8 : Int32) = nI 8 from rfl, pk_mul]; exact nI_add _ _) (by omega) (by decide) d_M_scan_80 ?_
  refine G.eqS (st' := [.int (V 21 0 (8 * b + n)), .ref (al Z 20 0)]) rfl ?_
  refine gq_if_ne C (tgt := 88) d_M_scan_81 rfl (fun hb81 => ?_) (fun hb7 => by exact absurd hb7 h4)
  refine gq_iload C d_M_scan_88 rfl ?_
  refine gq_bipush C (v := 31) d_M_scan_90 (by decide) ?_
  refine gq_icmp_eq C (tgt := 101) d_M_scan_92 rfl (fun hb92 => ?_) (fun hb92 => ?_)
  · skip
    refine gq_iconst C (v := 3) d_M_scan_101 (by decide) ?_
    refine gq_goto C (tgt := 106) d_M_scan_102 rfl ?_
    refine gq_put C (fun _ h => h) (g := 20) (j := 0) (ci := 8) (k := 0) ft_M k_M n_M (qm (by decide) (by decide)) rfl rfl in_M (by decide) w_661 rfl (k_M 0 (by decide)) rfl rfl (Nat.le_of_ble_eq_true rfl) rfl d_M_scan_106 ?_
    refine gq_aload_n C d_M_scan_109 rfl ?_
    refine gq_get C (g := 20) (j := 0) (ci := 8) (k := 0) (v := .int 3) (qm (by decide) (by decide)) rfl rfl in_M (by decide) w_661 rfl d_M_scan_110 ?_
    refine gq_if_eq C (tgt := 118) d_M_scan_113 rfl (fun hb => by exact absurd hb (by decide)) (fun hb113 => ?_)
    refine gq_iconst C (v := 0) d_M_scan_116 (by decide) ?_
    exact gq_iretE C hr rfl (by funext q1 q2 q3; simp only [qv_at]; split <;> rfl) rfl (by decide) (by decide) d_M_scan_117
  · skip
    refine gq_iload C d_M_scan_95 rfl ?_
    refine gq_iconst C (v := (-1)) d_M_scan_97 (by decide) ?_
    refine gq_icmp_ne C (tgt := 105) d_M_scan_98 rfl (fun hb7 => by exact h5.elim (fun q => absurd q hb92) (fun q => absurd q hb7)) (fun hb98 => ?_)
    refine gq_iconst C (v := 3) d_M_scan_101 (by decide) ?_
    refine gq_goto C (tgt := 106) d_M_scan_102 rfl ?_
    refine gq_put C (fun _ h => h) (g := 20) (j := 0) (ci := 8) (k := 0) ft_M k_M n_M (qm (by decide) (by decide)) rfl rfl in_M (by decide) w_661 rfl (k_M 0 (by decide)) rfl rfl (Nat.le_of_ble_eq_true rfl) rfl d_M_scan_106 ?_
    refine gq_aload_n C d_M_scan_109 rfl ?_
    refine gq_get C (g := 20) (j := 0) (ci := 8) (k := 0) (v := .int 3) (qm (by decide) (by decide)) rfl rfl in_M (by decide) w_661 rfl d_M_scan_110 ?_
    refine gq_if_eq C (tgt := 118) d_M_scan_113 rfl (fun hb => by exact absurd hb (by decide)) (fun hb113 => ?_)
    refine gq_iconst C (v := 0) d_M_scan_116 (by decide) ?_
    exact gq_iretE C hr rfl (by funext q1 q2 q3; simp only [qv_at]; split <;> rfl) rfl (by decide) (by decide) d_M_scan_117

set_option maxHeartbeats 4000000 in
set_option maxRecDepth 100000 in
theorem c_M_restart (l : Launch) (Z : qZ) (hZ : qok (pX Z)) (V : qV) (Y : qY) (t : Nat) (ht : t < 4) (h1 : g_not (nI t) 5 = 0) : CT l y_M_restart { frames := 2, cells := 0, slots := 0, locals := 61 } (pX Z) (qA (pX Z)) [.ref (al Z 20 0), .int (nI t)] V Y (.inl none) (qv (qv (qv V 20 0 0 0) 29 0 t 1) 31 0 t 0) Y := by
  refine CT.of (cc := b_M_restart) (maxL := 3) (ret := none) hZ (by decide) w_896 (Nat.le_of_ble_eq_true rfl) ?_
  intro p e s m below meth c C hr hex hlt
  refine gq_aload_n C d_M_restart_0 rfl ?_
  refine gq_iload_n C d_M_restart_1 rfl ?_
  refine gq_iconst C (v := 5) d_M_restart_2 (by decide) ?_
  refine gq_callS C (st := [.ref (al Z 20 0)]) (fun _ h => h.elim) (c_M_not l Z hZ _ _ (nI t) 5) w_761 w_762 w_763 w_9 ⟨by decide, by decide, (by decide +kernel : (parseMethodDescriptor y_M_not.desc).map (fun d => d.parameters.length) = some 2)⟩ ⟨by decide, by decide⟩ ⟨by decide, by decide⟩ rfl (Nat.le_of_ble_eq_true rfl) d_M_restart_3 ?_
  refine gq_if_eq C (tgt := 13) d_M_restart_6 rfl (fun hb6 => ?_) (fun hb => by exact absurd h1 hb)
  refine gq_iconst C (v := 0) d_M_restart_13 (by decide) ?_
  refine gq_put C (fun _ h => h) (g := 20) (j := 0) (ci := 8) (k := 0) ft_M k_M n_M (qm (by decide) (by decide)) rfl rfl in_M (by decide) w_661 rfl (k_M 0 (by decide)) rfl rfl (Nat.le_of_ble_eq_true rfl) rfl d_M_restart_14 ?_
  refine gq_aload_n C d_M_restart_17 rfl ?_
  refine gq_get C (g := 20) (j := 0) (ci := 8) (k := 0) (v := .int 0) (qm (by decide) (by decide)) rfl rfl in_M (by decide) w_661 rfl d_M_restart_18 ?_
  refine gq_if_eq C (tgt := 25) d_M_restart_21 rfl (fun hb21 => ?_) (fun hb => by exact absurd hb (by decide))
  refine gq_iload_n C d_M_restart_25 rfl ?_
  refine gq_iconst C (v := 4) d_M_restart_26 (by decide) ?_
  refine gq_icmp_ge C (tgt := 45) d_M_restart_27 rfl (fun hb => by exact absurd hb (nI_ge (b := 4) ht (by decide))) (fun hb27 => ?_)
  refine gq_aload_n C d_M_restart_30 rfl ?_
  refine gq_get C (g := 20) (j := 0) (ci := 8) (k := 10) (v := .ref (al Z 29 0)) (qm (by decide) (by decide)) rfl rfl in_M (by decide) w_671 rfl d_M_restart_31 ?_
  refine gq_iload_n C d_M_restart_34 rfl ?_
  refine gq_iconst C (v := 1) d_M_restart_35 (by decide) ?_
  refine gq_zast C (fun _ h => h) (g := 29) (j := 0) (a := t) (t0 := 2) (qm (by decide) (by decide)) (fun _ => rfl) rfl rfl ht (by decide) rfl d_M_restart_36 ?_
  refine gq_aload_n C d_M_restart_37 rfl ?_
  refine gq_get C (g := 20) (j := 0) (ci := 8) (k := 12) (v := .ref (al Z 31 0)) (qm (by decide) (by decide)) rfl rfl in_M (by decide) w_673 rfl d_M_restart_38 ?_
  refine gq_iload_n C d_M_restart_41 rfl ?_
  refine gq_iconst C (v := 0) d_M_restart_42 (by decide) ?_
  refine gq_iast C (fun _ h => h) (g := 31) (j := 0) (a := t) (t0 := 0) (qm (by decide) (by decide)) (fun _ => rfl) rfl rfl ht (by decide) d_M_restart_43 ?_
  exact gq_vret C hr (by decide) (by decide) d_M_restart_44

set_option maxHeartbeats 4000000 in
set_option maxRecDepth 100000 in
theorem c_M_restart_desk (l : Launch) (Z : qZ) (hZ : qok (pX Z)) (V : qV) (Y : qY) (h1 : g_not 4 5 = 0) : CT l y_M_restart { frames := 2, cells := 0, slots := 0, locals := 61 } (pX Z) (qA (pX Z)) [.ref (al Z 20 0), .int 4] V Y (.inl none) (qv (qv (qv (qv (qv (qv (qv (qv (qv (qv (qv (qv (qv (qv (qv (qv (qv (qv (qv (qv (qv (qv (qv V 20 0 0 0) 32 0 0 0) 33 0 0 0) 34 0 0 0) 35 0 0 0) 36 0 0 0) 32 0 1 0) 33 0 1 0) 34 0 1 0) 35 0 1 0) 36 0 1 0) 32 0 2 0) 33 0 2 0) 34 0 2 0) 35 0 2 0) 36 0 2 0) 32 0 3 0) 33 0 3 0) 34 0 3 0) 35 0 3 0) 36 0 3 0) 20 0 15 1) 20 0 16 (((V 24 0 4) / 100) + 63)) Y := by
  refine CT.of (cc := b_M_restart) (maxL := 3) (ret := none) hZ (by decide) w_896 (Nat.le_of_ble_eq_true rfl) ?_
  intro p e s m below meth c C hr hex hlt
  refine gq_aload_n C d_M_restart_0 rfl ?_
  refine gq_iload_n C d_M_restart_1 rfl ?_
  refine gq_iconst C (v := 5) d_M_restart_2 (by decide) ?_
  refine gq_callS C (st := [.ref (al Z 20 0)]) (fun _ h => h.elim) (c_M_not l Z hZ _ _ 4 5) w_761 w_762 w_763 w_9 ⟨by decide, by decide, (by decide +kernel : (parseMethodDescriptor y_M_not.desc).map (fun d => d.parameters.length) = some 2)⟩ ⟨by decide, by decide⟩ ⟨by decide, by decide⟩ rfl (Nat.le_of_ble_eq_true rfl) d_M_restart_3 ?_
  refine gq_if_eq C (tgt := 13) d_M_restart_6 rfl (fun hb6 => ?_) (fun hb => by exact absurd h1 hb)
  refine gq_iconst C (v := 0) d_M_restart_13 (by decide) ?_
  refine gq_put C (fun _ h => h) (g := 20) (j := 0) (ci := 8) (k := 0) ft_M k_M n_M (qm (by decide) (by decide)) rfl rfl in_M (by decide) w_661 rfl (k_M 0 (by decide)) rfl rfl (Nat.le_of_ble_eq_true rfl) rfl d_M_restart_14 ?_
  refine gq_aload_n C d_M_restart_17 rfl ?_
  refine gq_get C (g := 20) (j := 0) (ci := 8) (k := 0) (v := .int 0) (qm (by decide) (by decide)) rfl rfl in_M (by decide) w_661 rfl d_M_restart_18 ?_
  refine gq_if_eq C (tgt := 25) d_M_restart_21 rfl (fun hb21 => ?_) (fun hb => by exact absurd hb (by decide))
  refine gq_iload_n C d_M_restart_25 rfl ?_
  refine gq_iconst C (v := 4) d_M_restart_26 (by decide) ?_
  refine gq_icmp_ge C (tgt := 45) d_M_restart_27 rfl (fun hb27 => ?_) (fun hb => by exact absurd hb (by decide))
  refine gq_iconst C (v := 0) d_M_restart_45 (by decide) ?_
  refine gq_istore_n C (lo' := [(2, .int 0), (0, .ref (al Z 20 0)), (1, .int 4)]) d_M_restart_46 rfl (by decide) rfl ?_
  refine gq_iload_n C d_M_restart_47 rfl ?_
  refine gq_iconst C (v := 4) d_M_restart_48 (by decide) ?_
  refine gq_icmp_ge C (tgt := 93) d_M_restart_49 rfl (fun hb => by exact absurd hb (by decide)) (fun hb49 => ?_)
  refine gq_aload_n C d_M_restart_52 rfl ?_
  refine gq_get C (g := 20) (j := 0) (ci := 8) (k := 17) (v := .ref (al Z 32 0)) (qm (by decide) (by decide)) rfl rfl in_M (by decide) w_678 rfl d_M_restart_53 ?_
  refine gq_iload_n C d_M_restart_56 rfl ?_
  refine gq_iconst C (v := 0) d_M_restart_57 (by decide) ?_
  refine gq_iast C (fun _ h => h) (g := 32) (j := 0) (a := 0) (t0 := 0) (qm (by decide) (by decide)) (fun _ => rfl) rfl rfl (by decide) (by decide) d_M_restart_58 ?_
  refine gq_aload_n C d_M_restart_59 rfl ?_
  refine gq_get C (g := 20) (j := 0) (ci := 8) (k := 18) (v := .ref (al Z 33 0)) (qm (by decide) (by decide)) rfl rfl in_M (by decide) w_679 rfl d_M_restart_60 ?_
  refine gq_iload_n C d_M_restart_63 rfl ?_
  refine gq_iconst C (v := 0) d_M_restart_64 (by decide) ?_
  refine gq_zast C (fun _ h => h) (g := 33) (j := 0) (a := 0) (t0 := 2) (qm (by decide) (by decide)) (fun _ => rfl) rfl rfl (by decide) (by decide) rfl d_M_restart_65 ?_
  refine gq_aload_n C d_M_restart_66 rfl ?_
  refine gq_get C (g := 20) (j := 0) (ci := 8) (k := 19) (v := .ref (al Z 34 0)) (qm (by decide) (by decide)) rfl rfl in_M (by decide) w_680 rfl d_M_restart_67 ?_
  refine gq_iload_n C d_M_restart_70 rfl ?_
  refine gq_iconst C (v := 0) d_M_restart_71 (by decide) ?_
  refine gq_iast C (fun _ h => h) (g := 34) (j := 0) (a := 0) (t0 := 0) (qm (by decide) (by decide)) (fun _ => rfl) rfl rfl (by decide) (by decide) d_M_restart_72 ?_
  refine gq_aload_n C d_M_restart_73 rfl ?_
  refine gq_get C (g := 20) (j := 0) (ci := 8) (k := 20) (v := .ref (al Z 35 0)) (qm (by decide) (by decide)) rfl rfl in_M (by decide) w_681 rfl d_M_restart_74 ?_
  refine gq_iload_n C d_M_restart_77 rfl ?_
  refine gq_iconst C (v := 0) d_M_restart_78 (by decide) ?_
  refine gq_iast C (fun _ h => h) (g := 35) (j := 0) (a := 0) (t0 := 0) (qm (by decide) (by decide)) (fun _ => rfl) rfl rfl (by decide) (by decide) d_M_restart_79 ?_
  refine gq_aload_n C d_M_restart_80 rfl ?_
  refine gq_get C (g := 20) (j := 0) (ci := 8) (k := 21) (v := .ref (al Z 36 0)) (qm (by decide) (by decide)) rfl rfl in_M (by decide) w_682 rfl d_M_restart_81 ?_
  refine gq_iload_n C d_M_restart_84 rfl ?_
  refine gq_iconst C (v := 0) d_M_restart_85 (by decide) ?_
  refine gq_iast C (fun _ h => h) (g := 36) (j := 0) (a := 0) (t0 := 0) (qm (by decide) (by decide)) (fun _ => rfl) rfl rfl (by decide) (by decide) d_M_restart_86 ?_
  refine gq_iinc C (k := 0) (w := 1) (lo' := [(2, .int 1), (0, .ref (al Z 20 0)), (1, .int 4)]) d_M_restart_87 rfl (by decide) (by decide) rfl ?_
  refine gq_goto C (tgt := 47) d_M_restart_90 rfl ?_
  refine gq_iload_n C d_M_restart_47 rfl ?_
  refine gq_iconst C (v := 4) d_M_restart_48 (by decide) ?_
  refine gq_icmp_ge C (tgt := 93) d_M_restart_49 rfl (fun hb => by exact absurd hb (by decide)) (fun hb49 => ?_)
  refine gq_aload_n C d_M_restart_52 rfl ?_
  refine gq_get C (g := 20) (j := 0) (ci := 8) (k := 17) (v := .ref (al Z 32 0)) (qm (by decide) (by decide)) rfl rfl in_M (by decide) w_678 rfl d_M_restart_53 ?_
  refine gq_iload_n C d_M_restart_56 rfl ?_
  refine gq_iconst C (v := 0) d_M_restart_57 (by decide) ?_
  refine gq_iast C (fun _ h => h) (g := 32) (j := 0) (a := 1) (t0 := 0) (qm (by decide) (by decide)) (fun _ => rfl) rfl rfl (by decide) (by decide) d_M_restart_58 ?_
  refine gq_aload_n C d_M_restart_59 rfl ?_
  refine gq_get C (g := 20) (j := 0) (ci := 8) (k := 18) (v := .ref (al Z 33 0)) (qm (by decide) (by decide)) rfl rfl in_M (by decide) w_679 rfl d_M_restart_60 ?_
  refine gq_iload_n C d_M_restart_63 rfl ?_
  refine gq_iconst C (v := 0) d_M_restart_64 (by decide) ?_
  refine gq_zast C (fun _ h => h) (g := 33) (j := 0) (a := 1) (t0 := 2) (qm (by decide) (by decide)) (fun _ => rfl) rfl rfl (by decide) (by decide) rfl d_M_restart_65 ?_
  refine gq_aload_n C d_M_restart_66 rfl ?_
  refine gq_get C (g := 20) (j := 0) (ci := 8) (k := 19) (v := .ref (al Z 34 0)) (qm (by decide) (by decide)) rfl rfl in_M (by decide) w_680 rfl d_M_restart_67 ?_
  refine gq_iload_n C d_M_restart_70 rfl ?_
  refine gq_iconst C (v := 0) d_M_restart_71 (by decide) ?_
  refine gq_iast C (fun _ h => h) (g := 34) (j := 0) (a := 1) (t0 := 0) (qm (by decide) (by decide)) (fun _ => rfl) rfl rfl (by decide) (by decide) d_M_restart_72 ?_
  refine gq_aload_n C d_M_restart_73 rfl ?_
  refine gq_get C (g := 20) (j := 0) (ci := 8) (k := 20) (v := .ref (al Z 35 0)) (qm (by decide) (by decide)) rfl rfl in_M (by decide) w_681 rfl d_M_restart_74 ?_
  refine gq_iload_n C d_M_restart_77 rfl ?_
  refine gq_iconst C (v := 0) d_M_restart_78 (by decide) ?_
  refine gq_iast C (fun _ h => h) (g := 35) (j := 0) (a := 1) (t0 := 0) (qm (by decide) (by decide)) (fun _ => rfl) rfl rfl (by decide) (by decide) d_M_restart_79 ?_
  refine gq_aload_n C d_M_restart_80 rfl ?_
  refine gq_get C (g := 20) (j := 0) (ci := 8) (k := 21) (v := .ref (al Z 36 0)) (qm (by decide) (by decide)) rfl rfl in_M (by decide) w_682 rfl d_M_restart_81 ?_
  refine gq_iload_n C d_M_restart_84 rfl ?_
  refine gq_iconst C (v := 0) d_M_restart_85 (by decide) ?_
  refine gq_iast C (fun _ h => h) (g := 36) (j := 0) (a := 1) (t0 := 0) (qm (by decide) (by decide)) (fun _ => rfl) rfl rfl (by decide) (by decide) d_M_restart_86 ?_
  refine gq_iinc C (k := 0) (w := 2) (lo' := [(2, .int 2), (0, .ref (al Z 20 0)), (1, .int 4)]) d_M_restart_87 rfl (by decide) (by decide) rfl ?_
  refine gq_goto C (tgt := 47) d_M_restart_90 rfl ?_
  refine gq_iload_n C d_M_restart_47 rfl ?_
  refine gq_iconst C (v := 4) d_M_restart_48 (by decide) ?_
  refine gq_icmp_ge C (tgt := 93) d_M_restart_49 rfl (fun hb => by exact absurd hb (by decide)) (fun hb49 => ?_)
  refine gq_aload_n C d_M_restart_52 rfl ?_
  refine gq_get C (g := 20) (j := 0) (ci := 8) (k := 17) (v := .ref (al Z 32 0)) (qm (by decide) (by decide)) rfl rfl in_M (by decide) w_678 rfl d_M_restart_53 ?_
  refine gq_iload_n C d_M_restart_56 rfl ?_
  refine gq_iconst C (v := 0) d_M_restart_57 (by decide) ?_
  refine gq_iast C (fun _ h => h) (g := 32) (j := 0) (a := 2) (t0 := 0) (qm (by decide) (by decide)) (fun _ => rfl) rfl rfl (by decide) (by decide) d_M_restart_58 ?_
  refine gq_aload_n C d_M_restart_59 rfl ?_
  refine gq_get C (g := 20) (j := 0) (ci := 8) (k := 18) (v := .ref (al Z 33 0)) (qm (by decide) (by decide)) rfl rfl in_M (by decide) w_679 rfl d_M_restart_60 ?_
  refine gq_iload_n C d_M_restart_63 rfl ?_
  refine gq_iconst C (v := 0) d_M_restart_64 (by decide) ?_
  refine gq_zast C (fun _ h => h) (g := 33) (j := 0) (a := 2) (t0 := 2) (qm (by decide) (by decide)) (fun _ => rfl) rfl rfl (by decide) (by decide) rfl d_M_restart_65 ?_
  refine gq_aload_n C d_M_restart_66 rfl ?_
  refine gq_get C (g := 20) (j := 0) (ci := 8) (k := 19) (v := .ref (al Z 34 0)) (qm (by decide) (by decide)) rfl rfl in_M (by decide) w_680 rfl d_M_restart_67 ?_
  refine gq_iload_n C d_M_restart_70 rfl ?_
  refine gq_iconst C (v := 0) d_M_restart_71 (by decide) ?_
  refine gq_iast C (fun _ h => h) (g := 34) (j := 0) (a := 2) (t0 := 0) (qm (by decide) (by decide)) (fun _ => rfl) rfl rfl (by decide) (by decide) d_M_restart_72 ?_
  refine gq_aload_n C d_M_restart_73 rfl ?_
  refine gq_get C (g := 20) (j := 0) (ci := 8) (k := 20) (v := .ref (al Z 35 0)) (qm (by decide) (by decide)) rfl rfl in_M (by decide) w_681 rfl d_M_restart_74 ?_
  refine gq_iload_n C d_M_restart_77 rfl ?_
  refine gq_iconst C (v := 0) d_M_restart_78 (by decide) ?_
  refine gq_iast C (fun _ h => h) (g := 35) (j := 0) (a := 2) (t0 := 0) (qm (by decide) (by decide)) (fun _ => rfl) rfl rfl (by decide) (by decide) d_M_restart_79 ?_
  refine gq_aload_n C d_M_restart_80 rfl ?_
  refine gq_get C (g := 20) (j := 0) (ci := 8) (k := 21) (v := .ref (al Z 36 0)) (qm (by decide) (by decide)) rfl rfl in_M (by decide) w_682 rfl d_M_restart_81 ?_
  refine gq_iload_n C d_M_restart_84 rfl ?_
  refine gq_iconst C (v := 0) d_M_restart_85 (by decide) ?_
  refine gq_iast C (fun _ h => h) (g := 36) (j := 0) (a := 2) (t0 := 0) (qm (by decide) (by decide)) (fun _ => rfl) rfl rfl (by decide) (by decide) d_M_restart_86 ?_
  refine gq_iinc C (k := 0) (w := 3) (lo' := [(2, .int 3), (0, .ref (al Z 20 0)), (1, .int 4)]) d_M_restart_87 rfl (by decide) (by decide) rfl ?_
  refine gq_goto C (tgt := 47) d_M_restart_90 rfl ?_
  refine gq_iload_n C d_M_restart_47 rfl ?_
  refine gq_iconst C (v := 4) d_M_restart_48 (by decide) ?_
  refine gq_icmp_ge C (tgt := 93) d_M_restart_49 rfl (fun hb => by exact absurd hb (by decide)) (fun hb49 => ?_)
  refine gq_aload_n C d_M_restart_52 rfl ?_
  refine gq_get C (g := 20) (j := 0) (ci := 8) (k := 17) (v := .ref (al Z 32 0)) (qm (by decide) (by decide)) rfl rfl in_M (by decide) w_678 rfl d_M_restart_53 ?_
  refine gq_iload_n C d_M_restart_56 rfl ?_
  refine gq_iconst C (v := 0) d_M_restart_57 (by decide) ?_
  refine gq_iast C (fun _ h => h) (g := 32) (j := 0) (a := 3) (t0 := 0) (qm (by decide) (by decide)) (fun _ => rfl) rfl rfl (by decide) (by decide) d_M_restart_58 ?_
  refine gq_aload_n C d_M_restart_59 rfl ?_
  refine gq_get C (g := 20) (j := 0) (ci := 8) (k := 18) (v := .ref (al Z 33 0)) (qm (by decide) (by decide)) rfl rfl in_M (by decide) w_679 rfl d_M_restart_60 ?_
  refine gq_iload_n C d_M_restart_63 rfl ?_
  refine gq_iconst C (v := 0) d_M_restart_64 (by decide) ?_
  refine gq_zast C (fun _ h => h) (g := 33) (j := 0) (a := 3) (t0 := 2) (qm (by decide) (by decide)) (fun _ => rfl) rfl rfl (by decide) (by decide) rfl d_M_restart_65 ?_
  refine gq_aload_n C d_M_restart_66 rfl ?_
  refine gq_get C (g := 20) (j := 0) (ci := 8) (k := 19) (v := .ref (al Z 34 0)) (qm (by decide) (by decide)) rfl rfl in_M (by decide) w_680 rfl d_M_restart_67 ?_
  refine gq_iload_n C d_M_restart_70 rfl ?_
  refine gq_iconst C (v := 0) d_M_restart_71 (by decide) ?_
  refine gq_iast C (fun _ h => h) (g := 34) (j := 0) (a := 3) (t0 := 0) (qm (by decide) (by decide)) (fun _ => rfl) rfl rfl (by decide) (by decide) d_M_restart_72 ?_
  refine gq_aload_n C d_M_restart_73 rfl ?_
  refine gq_get C (g := 20) (j := 0) (ci := 8) (k := 20) (v := .ref (al Z 35 0)) (qm (by decide) (by decide)) rfl rfl in_M (by decide) w_681 rfl d_M_restart_74 ?_
  refine gq_iload_n C d_M_restart_77 rfl ?_
  refine gq_iconst C (v := 0) d_M_restart_78 (by decide) ?_
  refine gq_iast C (fun _ h => h) (g := 35) (j := 0) (a := 3) (t0 := 0) (qm (by decide) (by decide)) (fun _ => rfl) rfl rfl (by decide) (by decide) d_M_restart_79 ?_
  refine gq_aload_n C d_M_restart_80 rfl ?_
  refine gq_get C (g := 20) (j := 0) (ci := 8) (k := 21) (v := .ref (al Z 36 0)) (qm (by decide) (by decide)) rfl rfl in_M (by decide) w_682 rfl d_M_restart_81 ?_
  refine gq_iload_n C d_M_restart_84 rfl ?_
  refine gq_iconst C (v := 0) d_M_restart_85 (by decide) ?_
  refine gq_iast C (fun _ h => h) (g := 36) (j := 0) (a := 3) (t0 := 0) (qm (by decide) (by decide)) (fun _ => rfl) rfl rfl (by decide) (by decide) d_M_restart_86 ?_
  refine gq_iinc C (k := 0) (w := 4) (lo' := [(2, .int 4), (0, .ref (al Z 20 0)), (1, .int 4)]) d_M_restart_87 rfl (by decide) (by decide) rfl ?_
  refine gq_goto C (tgt := 47) d_M_restart_90 rfl ?_
  refine gq_iload_n C d_M_restart_47 rfl ?_
  refine gq_iconst C (v := 4) d_M_restart_48 (by decide) ?_
  refine gq_icmp_ge C (tgt := 93) d_M_restart_49 rfl (fun hb49 => ?_) (fun hb => by exact absurd hb (by decide))
  refine gq_aload_n C d_M_restart_93 rfl ?_
  refine gq_iconst C (v := 1) d_M_restart_94 (by decide) ?_
  refine gq_put C (fun _ h => h) (g := 20) (j := 0) (ci := 8) (k := 15) ft_M k_M n_M (qm (by decide) (by decide)) rfl rfl in_M (by decide) w_676 rfl (k_M 15 (by decide)) rfl rfl (Nat.le_of_ble_eq_true rfl) rfl d_M_restart_95 ?_
  refine gq_aload_n C d_M_restart_98 rfl ?_
  refine gq_aload_n C d_M_restart_99 rfl ?_
  refine gq_iconst C (v := 4) d_M_restart_100 (by decide) ?_
  refine gq_callV C (st := [.ref (al Z 20 0)]) (fun _ h => h.elim) (c_M_clock l Z hZ _ _ 4 (by decide)) (qm (by decide) (by decide)) rfl rfl w_785 w_787 ws_M_clock w_788 w_9 ⟨by decide, by decide, (by decide +kernel : (parseMethodDescriptor y_M_clock.desc).map (fun d => d.parameters.length) = some 1)⟩ ⟨by decide, by decide⟩ ⟨by decide, by decide⟩ rfl (Nat.le_of_ble_eq_true rfl) d_M_restart_101 ?_
  refine G.eqS (st' := [.int ((V 24 0 4) / 100), .ref (al Z 20 0)]) rfl ?_
  refine gq_bipush C (v := 63) d_M_restart_104 (by decide) ?_
  refine gq_iadd C d_M_restart_106 ?_
  refine gq_put C (fun _ h => h) (g := 20) (j := 0) (ci := 8) (k := 16) ft_M k_M n_M (qm (by decide) (by decide)) rfl rfl in_M (by decide) w_677 rfl (k_M 16 (by decide)) rfl rfl (Nat.le_of_ble_eq_true rfl) rfl d_M_restart_107 ?_
  exact gq_vret C hr (by decide) (by decide) d_M_restart_110

set_option maxHeartbeats 4000000 in
set_option maxRecDepth 100000 in
theorem c_M_restart_x (l : Launch) (Z : qZ) (hZ : qok (pX Z)) (V : qV) (Y : qY) (w : Int32) (h : ¬ g_not w 5 = 0) : CT l y_M_restart { frames := 2, cells := 0, slots := 0, locals := 61 } (pX Z) (qA (pX Z)) [.ref (al Z 20 0), .int w] V Y (.inl none) (qv V 20 0 0 1) Y := by
  refine CT.of (cc := b_M_restart) (maxL := 3) (ret := none) hZ (by decide) w_896 (Nat.le_of_ble_eq_true rfl) ?_
  intro p e s m below meth c C hr hex hlt
  refine gq_aload_n C d_M_restart_0 rfl ?_
  refine gq_iload_n C d_M_restart_1 rfl ?_
  refine gq_iconst C (v := 5) d_M_restart_2 (by decide) ?_
  refine gq_callS C (st := [.ref (al Z 20 0)]) (fun _ h => h.elim) (c_M_not l Z hZ _ _ w 5) w_761 w_762 w_763 w_9 ⟨by decide, by decide, (by decide +kernel : (parseMethodDescriptor y_M_not.desc).map (fun d => d.parameters.length) = some 2)⟩ ⟨by decide, by decide⟩ ⟨by decide, by decide⟩ rfl (Nat.le_of_ble_eq_true rfl) d_M_restart_3 ?_
  refine gq_if_eq C (tgt := 13) d_M_restart_6 rfl (fun hb => by first | contradiction | contradiction) (fun hb6 => ?_)
  refine gq_iconst C (v := 1) d_M_restart_9 (by decide) ?_
  refine gq_goto C (tgt := 14) d_M_restart_10 rfl ?_
  refine gq_put C (fun _ h => h) (g := 20) (j := 0) (ci := 8) (k := 0) ft_M k_M n_M (qm (by decide) (by decide)) rfl rfl in_M (by decide) w_661 rfl (k_M 0 (by decide)) rfl rfl (Nat.le_of_ble_eq_true rfl) rfl d_M_restart_14 ?_
  refine gq_aload_n C d_M_restart_17 rfl ?_
  refine gq_get C (g := 20) (j := 0) (ci := 8) (k := 0) (v := .int 1) (qm (by decide) (by decide)) rfl rfl in_M (by decide) w_661 rfl d_M_restart_18 ?_
  refine gq_if_eq C (tgt := 25) d_M_restart_21 rfl (fun hb => by exact absurd hb (by decide)) (fun hb21 => ?_)
  exact gq_vretE C hr rfl rfl (by decide) (by decide) d_M_restart_24
