theorem d_C_shown_0 : decode b_C_shown 0 = .ok (.aload_n 0, 1) := by decide +kernel
theorem d_C_shown_1 : decode b_C_shown 1 = .ok (.getfield 13, 3) := by decide +kernel
theorem d_C_shown_4 : decode b_C_shown 4 = .ok (.bipush 100, 2) := by decide +kernel
theorem d_C_shown_6 : decode b_C_shown 6 = .ok (.idiv, 1) := by decide +kernel
theorem d_C_shown_7 : decode b_C_shown 7 = .ok (.ireturn, 1) := by decide +kernel

theorem d_C_go_0 : decode b_C_go 0 = .ok (.aload_n 0, 1) := by decide +kernel
theorem d_C_go_1 : decode b_C_go 1 = .ok (.dup, 1) := by decide +kernel
theorem d_C_go_2 : decode b_C_go 2 = .ok (.getfield 13, 3) := by decide +kernel
theorem d_C_go_5 : decode b_C_go 5 = .ok (.iload_n 1, 1) := by decide +kernel
theorem d_C_go_6 : decode b_C_go 6 = .ok (.aload_n 0, 1) := by decide +kernel
theorem d_C_go_7 : decode b_C_go 7 = .ok (.getfield 7, 3) := by decide +kernel
theorem d_C_go_10 : decode b_C_go 10 = .ok (.imul, 1) := by decide +kernel
theorem d_C_go_11 : decode b_C_go 11 = .ok (.iadd, 1) := by decide +kernel
theorem d_C_go_12 : decode b_C_go 12 = .ok (.putfield 13, 3) := by decide +kernel
theorem d_C_go_15 : decode b_C_go 15 = .ok (.return_, 1) := by decide +kernel

theorem d_B_begin_0 : decode b_B_begin 0 = .ok (.aload_n 0, 1) := by decide +kernel
theorem d_B_begin_1 : decode b_B_begin 1 = .ok (.iload_n 1, 1) := by decide +kernel
theorem d_B_begin_2 : decode b_B_begin 2 = .ok (.putfield 15, 3) := by decide +kernel
theorem d_B_begin_5 : decode b_B_begin 5 = .ok (.aload_n 0, 1) := by decide +kernel
theorem d_B_begin_6 : decode b_B_begin 6 = .ok (.iload_n 2, 1) := by decide +kernel
theorem d_B_begin_7 : decode b_B_begin 7 = .ok (.putfield 19, 3) := by decide +kernel
theorem d_B_begin_10 : decode b_B_begin 10 = .ok (.aload_n 0, 1) := by decide +kernel
theorem d_B_begin_11 : decode b_B_begin 11 = .ok (.iconst 1, 1) := by decide +kernel
theorem d_B_begin_12 : decode b_B_begin 12 = .ok (.putfield 22, 3) := by decide +kernel
theorem d_B_begin_15 : decode b_B_begin 15 = .ok (.return_, 1) := by decide +kernel

theorem d_R_isFull_0 : decode b_R_isFull 0 = .ok (.aload_n 0, 1) := by decide +kernel
theorem d_R_isFull_1 : decode b_R_isFull 1 = .ok (.getfield 24, 3) := by decide +kernel
theorem d_R_isFull_4 : decode b_R_isFull 4 = .ok (.bipush 40, 2) := by decide +kernel
theorem d_R_isFull_6 : decode b_R_isFull 6 = .ok (.if_icmp .lt 7, 3) := by decide +kernel
theorem d_R_isFull_9 : decode b_R_isFull 9 = .ok (.iconst 1, 1) := by decide +kernel
theorem d_R_isFull_10 : decode b_R_isFull 10 = .ok (.goto 4, 3) := by decide +kernel
theorem d_R_isFull_13 : decode b_R_isFull 13 = .ok (.iconst 0, 1) := by decide +kernel
theorem d_R_isFull_14 : decode b_R_isFull 14 = .ok (.ireturn, 1) := by decide +kernel

theorem d_R_post_0 : decode b_R_post 0 = .ok (.aload_n 0, 1) := by decide +kernel
theorem d_R_post_1 : decode b_R_post 1 = .ok (.invokevirtual 28, 3) := by decide +kernel
theorem d_R_post_4 : decode b_R_post 4 = .ok (.ifCond .eq 4, 3) := by decide +kernel
theorem d_R_post_7 : decode b_R_post 7 = .ok (.return_, 1) := by decide +kernel
theorem d_R_post_8 : decode b_R_post 8 = .ok (.aload_n 0, 1) := by decide +kernel
theorem d_R_post_9 : decode b_R_post 9 = .ok (.getfield 9, 3) := by decide +kernel
theorem d_R_post_12 : decode b_R_post 12 = .ok (.aload_n 0, 1) := by decide +kernel
theorem d_R_post_13 : decode b_R_post 13 = .ok (.getfield 24, 3) := by decide +kernel
theorem d_R_post_16 : decode b_R_post 16 = .ok (.iload_n 1, 1) := by decide +kernel
theorem d_R_post_17 : decode b_R_post 17 = .ok (.iastore, 1) := by decide +kernel
theorem d_R_post_18 : decode b_R_post 18 = .ok (.aload_n 0, 1) := by decide +kernel
theorem d_R_post_19 : decode b_R_post 19 = .ok (.getfield 15, 3) := by decide +kernel
theorem d_R_post_22 : decode b_R_post 22 = .ok (.aload_n 0, 1) := by decide +kernel
theorem d_R_post_23 : decode b_R_post 23 = .ok (.getfield 24, 3) := by decide +kernel
theorem d_R_post_26 : decode b_R_post 26 = .ok (.iload_n 2, 1) := by decide +kernel
theorem d_R_post_27 : decode b_R_post 27 = .ok (.iastore, 1) := by decide +kernel
theorem d_R_post_28 : decode b_R_post 28 = .ok (.aload_n 0, 1) := by decide +kernel
theorem d_R_post_29 : decode b_R_post 29 = .ok (.getfield 18, 3) := by decide +kernel
theorem d_R_post_32 : decode b_R_post 32 = .ok (.aload_n 0, 1) := by decide +kernel
theorem d_R_post_33 : decode b_R_post 33 = .ok (.getfield 24, 3) := by decide +kernel
theorem d_R_post_36 : decode b_R_post 36 = .ok (.iload_n 3, 1) := by decide +kernel
theorem d_R_post_37 : decode b_R_post 37 = .ok (.iastore, 1) := by decide +kernel
theorem d_R_post_38 : decode b_R_post 38 = .ok (.aload_n 0, 1) := by decide +kernel
theorem d_R_post_39 : decode b_R_post 39 = .ok (.getfield 21, 3) := by decide +kernel
theorem d_R_post_42 : decode b_R_post 42 = .ok (.aload_n 0, 1) := by decide +kernel
theorem d_R_post_43 : decode b_R_post 43 = .ok (.getfield 24, 3) := by decide +kernel
theorem d_R_post_46 : decode b_R_post 46 = .ok (.iload 4, 2) := by decide +kernel
theorem d_R_post_48 : decode b_R_post 48 = .ok (.iastore, 1) := by decide +kernel
theorem d_R_post_49 : decode b_R_post 49 = .ok (.aload_n 0, 1) := by decide +kernel
theorem d_R_post_50 : decode b_R_post 50 = .ok (.dup, 1) := by decide +kernel
theorem d_R_post_51 : decode b_R_post 51 = .ok (.getfield 24, 3) := by decide +kernel
theorem d_R_post_54 : decode b_R_post 54 = .ok (.iconst 1, 1) := by decide +kernel
theorem d_R_post_55 : decode b_R_post 55 = .ok (.iadd, 1) := by decide +kernel
theorem d_R_post_56 : decode b_R_post 56 = .ok (.putfield 24, 3) := by decide +kernel
theorem d_R_post_59 : decode b_R_post 59 = .ok (.return_, 1) := by decide +kernel

theorem d_R_takeOut_0 : decode b_R_takeOut 0 = .ok (.aload_n 0, 1) := by decide +kernel
theorem d_R_takeOut_1 : decode b_R_takeOut 1 = .ok (.getfield 24, 3) := by decide +kernel
theorem d_R_takeOut_4 : decode b_R_takeOut 4 = .ok (.iload_n 1, 1) := by decide +kernel
theorem d_R_takeOut_5 : decode b_R_takeOut 5 = .ok (.isub, 1) := by decide +kernel
theorem d_R_takeOut_6 : decode b_R_takeOut 6 = .ok (.iconst 1, 1) := by decide +kernel
theorem d_R_takeOut_7 : decode b_R_takeOut 7 = .ok (.isub, 1) := by decide +kernel
theorem d_R_takeOut_8 : decode b_R_takeOut 8 = .ok (.istore_n 2, 1) := by decide +kernel
theorem d_R_takeOut_9 : decode b_R_takeOut 9 = .ok (.aload_n 0, 1) := by decide +kernel
theorem d_R_takeOut_10 : decode b_R_takeOut 10 = .ok (.getfield 9, 3) := by decide +kernel
theorem d_R_takeOut_13 : decode b_R_takeOut 13 = .ok (.iload_n 1, 1) := by decide +kernel
theorem d_R_takeOut_14 : decode b_R_takeOut 14 = .ok (.iconst 1, 1) := by decide +kernel
theorem d_R_takeOut_15 : decode b_R_takeOut 15 = .ok (.iadd, 1) := by decide +kernel
theorem d_R_takeOut_16 : decode b_R_takeOut 16 = .ok (.aload_n 0, 1) := by decide +kernel
theorem d_R_takeOut_17 : decode b_R_takeOut 17 = .ok (.getfield 9, 3) := by decide +kernel
theorem d_R_takeOut_20 : decode b_R_takeOut 20 = .ok (.iload_n 1, 1) := by decide +kernel
theorem d_R_takeOut_21 : decode b_R_takeOut 21 = .ok (.iload_n 2, 1) := by decide +kernel
theorem d_R_takeOut_22 : decode b_R_takeOut 22 = .ok (.invokestatic 32, 3) := by decide +kernel
theorem d_R_takeOut_25 : decode b_R_takeOut 25 = .ok (.aload_n 0, 1) := by decide +kernel
theorem d_R_takeOut_26 : decode b_R_takeOut 26 = .ok (.getfield 15, 3) := by decide +kernel
theorem d_R_takeOut_29 : decode b_R_takeOut 29 = .ok (.iload_n 1, 1) := by decide +kernel
theorem d_R_takeOut_30 : decode b_R_takeOut 30 = .ok (.iconst 1, 1) := by decide +kernel
theorem d_R_takeOut_31 : decode b_R_takeOut 31 = .ok (.iadd, 1) := by decide +kernel
theorem d_R_takeOut_32 : decode b_R_takeOut 32 = .ok (.aload_n 0, 1) := by decide +kernel
theorem d_R_takeOut_33 : decode b_R_takeOut 33 = .ok (.getfield 15, 3) := by decide +kernel
theorem d_R_takeOut_36 : decode b_R_takeOut 36 = .ok (.iload_n 1, 1) := by decide +kernel
theorem d_R_takeOut_37 : decode b_R_takeOut 37 = .ok (.iload_n 2, 1) := by decide +kernel
theorem d_R_takeOut_38 : decode b_R_takeOut 38 = .ok (.invokestatic 32, 3) := by decide +kernel
theorem d_R_takeOut_41 : decode b_R_takeOut 41 = .ok (.aload_n 0, 1) := by decide +kernel
theorem d_R_takeOut_42 : decode b_R_takeOut 42 = .ok (.getfield 18, 3) := by decide +kernel
theorem d_R_takeOut_45 : decode b_R_takeOut 45 = .ok (.iload_n 1, 1) := by decide +kernel
theorem d_R_takeOut_46 : decode b_R_takeOut 46 = .ok (.iconst 1, 1) := by decide +kernel
theorem d_R_takeOut_47 : decode b_R_takeOut 47 = .ok (.iadd, 1) := by decide +kernel
theorem d_R_takeOut_48 : decode b_R_takeOut 48 = .ok (.aload_n 0, 1) := by decide +kernel
theorem d_R_takeOut_49 : decode b_R_takeOut 49 = .ok (.getfield 18, 3) := by decide +kernel
theorem d_R_takeOut_52 : decode b_R_takeOut 52 = .ok (.iload_n 1, 1) := by decide +kernel
theorem d_R_takeOut_53 : decode b_R_takeOut 53 = .ok (.iload_n 2, 1) := by decide +kernel
theorem d_R_takeOut_54 : decode b_R_takeOut 54 = .ok (.invokestatic 32, 3) := by decide +kernel
theorem d_R_takeOut_57 : decode b_R_takeOut 57 = .ok (.aload_n 0, 1) := by decide +kernel
theorem d_R_takeOut_58 : decode b_R_takeOut 58 = .ok (.getfield 21, 3) := by decide +kernel
theorem d_R_takeOut_61 : decode b_R_takeOut 61 = .ok (.iload_n 1, 1) := by decide +kernel
theorem d_R_takeOut_62 : decode b_R_takeOut 62 = .ok (.iconst 1, 1) := by decide +kernel
theorem d_R_takeOut_63 : decode b_R_takeOut 63 = .ok (.iadd, 1) := by decide +kernel
theorem d_R_takeOut_64 : decode b_R_takeOut 64 = .ok (.aload_n 0, 1) := by decide +kernel
theorem d_R_takeOut_65 : decode b_R_takeOut 65 = .ok (.getfield 21, 3) := by decide +kernel
theorem d_R_takeOut_68 : decode b_R_takeOut 68 = .ok (.iload_n 1, 1) := by decide +kernel
theorem d_R_takeOut_69 : decode b_R_takeOut 69 = .ok (.iload_n 2, 1) := by decide +kernel
theorem d_R_takeOut_70 : decode b_R_takeOut 70 = .ok (.invokestatic 32, 3) := by decide +kernel
theorem d_R_takeOut_73 : decode b_R_takeOut 73 = .ok (.aload_n 0, 1) := by decide +kernel
theorem d_R_takeOut_74 : decode b_R_takeOut 74 = .ok (.dup, 1) := by decide +kernel
theorem d_R_takeOut_75 : decode b_R_takeOut 75 = .ok (.getfield 24, 3) := by decide +kernel
theorem d_R_takeOut_78 : decode b_R_takeOut 78 = .ok (.iconst 1, 1) := by decide +kernel
theorem d_R_takeOut_79 : decode b_R_takeOut 79 = .ok (.isub, 1) := by decide +kernel
theorem d_R_takeOut_80 : decode b_R_takeOut 80 = .ok (.putfield 24, 3) := by decide +kernel
theorem d_R_takeOut_83 : decode b_R_takeOut 83 = .ok (.return_, 1) := by decide +kernel

theorem d_N_forget_0 : decode b_N_forget 0 = .ok (.aload_n 0, 1) := by decide +kernel
theorem d_N_forget_1 : decode b_N_forget 1 = .ok (.iconst 0, 1) := by decide +kernel
theorem d_N_forget_2 : decode b_N_forget 2 = .ok (.putfield 9, 3) := by decide +kernel
theorem d_N_forget_5 : decode b_N_forget 5 = .ok (.aload_n 0, 1) := by decide +kernel
theorem d_N_forget_6 : decode b_N_forget 6 = .ok (.iconst 0, 1) := by decide +kernel
theorem d_N_forget_7 : decode b_N_forget 7 = .ok (.putfield 15, 3) := by decide +kernel
theorem d_N_forget_10 : decode b_N_forget 10 = .ok (.aload_n 0, 1) := by decide +kernel
theorem d_N_forget_11 : decode b_N_forget 11 = .ok (.iconst 0, 1) := by decide +kernel
theorem d_N_forget_12 : decode b_N_forget 12 = .ok (.putfield 18, 3) := by decide +kernel
theorem d_N_forget_15 : decode b_N_forget 15 = .ok (.aload_n 0, 1) := by decide +kernel
theorem d_N_forget_16 : decode b_N_forget 16 = .ok (.iconst 0, 1) := by decide +kernel
theorem d_N_forget_17 : decode b_N_forget 17 = .ok (.putfield 21, 3) := by decide +kernel
theorem d_N_forget_20 : decode b_N_forget 20 = .ok (.aload_n 0, 1) := by decide +kernel
theorem d_N_forget_21 : decode b_N_forget 21 = .ok (.iconst 0, 1) := by decide +kernel
theorem d_N_forget_22 : decode b_N_forget 22 = .ok (.putfield 24, 3) := by decide +kernel
theorem d_N_forget_25 : decode b_N_forget 25 = .ok (.return_, 1) := by decide +kernel

theorem d_N_noteReady_0 : decode b_N_noteReady 0 = .ok (.aload_n 0, 1) := by decide +kernel
theorem d_N_noteReady_1 : decode b_N_noteReady 1 = .ok (.aload_n 0, 1) := by decide +kernel
theorem d_N_noteReady_2 : decode b_N_noteReady 2 = .ok (.getfield 9, 3) := by decide +kernel
theorem d_N_noteReady_5 : decode b_N_noteReady 5 = .ok (.iload_n 1, 1) := by decide +kernel
theorem d_N_noteReady_6 : decode b_N_noteReady 6 = .ok (.invokestatic 28, 3) := by decide +kernel
theorem d_N_noteReady_9 : decode b_N_noteReady 9 = .ok (.putfield 9, 3) := by decide +kernel
theorem d_N_noteReady_12 : decode b_N_noteReady 12 = .ok (.return_, 1) := by decide +kernel

theorem d_N_noteGrant_0 : decode b_N_noteGrant 0 = .ok (.aload_n 0, 1) := by decide +kernel
theorem d_N_noteGrant_1 : decode b_N_noteGrant 1 = .ok (.iload_n 1, 1) := by decide +kernel
theorem d_N_noteGrant_2 : decode b_N_noteGrant 2 = .ok (.putfield 15, 3) := by decide +kernel
theorem d_N_noteGrant_5 : decode b_N_noteGrant 5 = .ok (.aload_n 0, 1) := by decide +kernel
theorem d_N_noteGrant_6 : decode b_N_noteGrant 6 = .ok (.iload_n 2, 1) := by decide +kernel
theorem d_N_noteGrant_7 : decode b_N_noteGrant 7 = .ok (.putfield 18, 3) := by decide +kernel
theorem d_N_noteGrant_10 : decode b_N_noteGrant 10 = .ok (.aload_n 0, 1) := by decide +kernel
theorem d_N_noteGrant_11 : decode b_N_noteGrant 11 = .ok (.iload_n 3, 1) := by decide +kernel
theorem d_N_noteGrant_12 : decode b_N_noteGrant 12 = .ok (.putfield 21, 3) := by decide +kernel
theorem d_N_noteGrant_15 : decode b_N_noteGrant 15 = .ok (.aload_n 0, 1) := by decide +kernel
theorem d_N_noteGrant_16 : decode b_N_noteGrant 16 = .ok (.iconst 1, 1) := by decide +kernel
theorem d_N_noteGrant_17 : decode b_N_noteGrant 17 = .ok (.putfield 24, 3) := by decide +kernel
theorem d_N_noteGrant_20 : decode b_N_noteGrant 20 = .ok (.return_, 1) := by decide +kernel

theorem d_N_noteGiven_0 : decode b_N_noteGiven 0 = .ok (.iload_n 1, 1) := by decide +kernel
theorem d_N_noteGiven_1 : decode b_N_noteGiven 1 = .ok (.aload_n 0, 1) := by decide +kernel
theorem d_N_noteGiven_2 : decode b_N_noteGiven 2 = .ok (.getfield 15, 3) := by decide +kernel
theorem d_N_noteGiven_5 : decode b_N_noteGiven 5 = .ok (.if_icmp .ne 8, 3) := by decide +kernel
theorem d_N_noteGiven_8 : decode b_N_noteGiven 8 = .ok (.aload_n 0, 1) := by decide +kernel
theorem d_N_noteGiven_9 : decode b_N_noteGiven 9 = .ok (.iconst 0, 1) := by decide +kernel
theorem d_N_noteGiven_10 : decode b_N_noteGiven 10 = .ok (.putfield 24, 3) := by decide +kernel
theorem d_N_noteGiven_13 : decode b_N_noteGiven 13 = .ok (.return_, 1) := by decide +kernel

theorem d_N_allows_0 : decode b_N_allows 0 = .ok (.aload_n 0, 1) := by decide +kernel
theorem d_N_allows_1 : decode b_N_allows 1 = .ok (.getfield 9, 3) := by decide +kernel
theorem d_N_allows_4 : decode b_N_allows 4 = .ok (.iload_n 1, 1) := by decide +kernel
theorem d_N_allows_5 : decode b_N_allows 5 = .ok (.if_icmp .ge 29, 3) := by decide +kernel
theorem d_N_allows_8 : decode b_N_allows 8 = .ok (.aload_n 0, 1) := by decide +kernel
theorem d_N_allows_9 : decode b_N_allows 9 = .ok (.getfield 24, 3) := by decide +kernel
theorem d_N_allows_12 : decode b_N_allows 12 = .ok (.ifCond .eq 22, 3) := by decide +kernel
theorem d_N_allows_15 : decode b_N_allows 15 = .ok (.aload_n 0, 1) := by decide +kernel
theorem d_N_allows_16 : decode b_N_allows 16 = .ok (.getfield 18, 3) := by decide +kernel
theorem d_N_allows_19 : decode b_N_allows 19 = .ok (.iload_n 1, 1) := by decide +kernel
theorem d_N_allows_20 : decode b_N_allows 20 = .ok (.if_icmp .eq 14, 3) := by decide +kernel
theorem d_N_allows_23 : decode b_N_allows 23 = .ok (.iload_n 2, 1) := by decide +kernel
theorem d_N_allows_24 : decode b_N_allows 24 = .ok (.aload_n 0, 1) := by decide +kernel
theorem d_N_allows_25 : decode b_N_allows 25 = .ok (.getfield 21, 3) := by decide +kernel
theorem d_N_allows_28 : decode b_N_allows 28 = .ok (.isub, 1) := by decide +kernel
theorem d_N_allows_29 : decode b_N_allows 29 = .ok (.bipush 63, 2) := by decide +kernel
theorem d_N_allows_31 : decode b_N_allows 31 = .ok (.if_icmp .lt 7, 3) := by decide +kernel
theorem d_N_allows_34 : decode b_N_allows 34 = .ok (.iconst 1, 1) := by decide +kernel
theorem d_N_allows_35 : decode b_N_allows 35 = .ok (.goto 4, 3) := by decide +kernel
theorem d_N_allows_38 : decode b_N_allows 38 = .ok (.iconst 0, 1) := by decide +kernel
theorem d_N_allows_39 : decode b_N_allows 39 = .ok (.ireturn, 1) := by decide +kernel

theorem d_L_copyFrom_0 : decode b_L_copyFrom 0 = .ok (.aload_n 1, 1) := by decide +kernel
theorem d_L_copyFrom_1 : decode b_L_copyFrom 1 = .ok (.getfield 9, 3) := by decide +kernel
theorem d_L_copyFrom_4 : decode b_L_copyFrom 4 = .ok (.iconst 0, 1) := by decide +kernel
theorem d_L_copyFrom_5 : decode b_L_copyFrom 5 = .ok (.aload_n 0, 1) := by decide +kernel
theorem d_L_copyFrom_6 : decode b_L_copyFrom 6 = .ok (.getfield 9, 3) := by decide +kernel
theorem d_L_copyFrom_9 : decode b_L_copyFrom 9 = .ok (.iconst 0, 1) := by decide +kernel
theorem d_L_copyFrom_10 : decode b_L_copyFrom 10 = .ok (.bipush 8, 2) := by decide +kernel
theorem d_L_copyFrom_12 : decode b_L_copyFrom 12 = .ok (.invokestatic 21, 3) := by decide +kernel
theorem d_L_copyFrom_15 : decode b_L_copyFrom 15 = .ok (.aload_n 1, 1) := by decide +kernel
theorem d_L_copyFrom_16 : decode b_L_copyFrom 16 = .ok (.getfield 15, 3) := by decide +kernel
theorem d_L_copyFrom_19 : decode b_L_copyFrom 19 = .ok (.iconst 0, 1) := by decide +kernel
theorem d_L_copyFrom_20 : decode b_L_copyFrom 20 = .ok (.aload_n 0, 1) := by decide +kernel
theorem d_L_copyFrom_21 : decode b_L_copyFrom 21 = .ok (.getfield 15, 3) := by decide +kernel
theorem d_L_copyFrom_24 : decode b_L_copyFrom 24 = .ok (.iconst 0, 1) := by decide +kernel
theorem d_L_copyFrom_25 : decode b_L_copyFrom 25 = .ok (.bipush 16, 2) := by decide +kernel
theorem d_L_copyFrom_27 : decode b_L_copyFrom 27 = .ok (.invokestatic 21, 3) := by decide +kernel
theorem d_L_copyFrom_30 : decode b_L_copyFrom 30 = .ok (.aload_n 1, 1) := by decide +kernel
theorem d_L_copyFrom_31 : decode b_L_copyFrom 31 = .ok (.getfield 18, 3) := by decide +kernel
theorem d_L_copyFrom_34 : decode b_L_copyFrom 34 = .ok (.iconst 0, 1) := by decide +kernel
theorem d_L_copyFrom_35 : decode b_L_copyFrom 35 = .ok (.aload_n 0, 1) := by decide +kernel
theorem d_L_copyFrom_36 : decode b_L_copyFrom 36 = .ok (.getfield 18, 3) := by decide +kernel
theorem d_L_copyFrom_39 : decode b_L_copyFrom 39 = .ok (.iconst 0, 1) := by decide +kernel
theorem d_L_copyFrom_40 : decode b_L_copyFrom 40 = .ok (.bipush 16, 2) := by decide +kernel
theorem d_L_copyFrom_42 : decode b_L_copyFrom 42 = .ok (.invokestatic 21, 3) := by decide +kernel
theorem d_L_copyFrom_45 : decode b_L_copyFrom 45 = .ok (.return_, 1) := by decide +kernel

theorem d_T_takeBook_0 : decode b_T_takeBook 0 = .ok (.iload_n 1, 1) := by decide +kernel
theorem d_T_takeBook_1 : decode b_T_takeBook 1 = .ok (.aload_n 0, 1) := by decide +kernel
theorem d_T_takeBook_2 : decode b_T_takeBook 2 = .ok (.getfield 18, 3) := by decide +kernel
theorem d_T_takeBook_5 : decode b_T_takeBook 5 = .ok (.iconst 1, 1) := by decide +kernel
theorem d_T_takeBook_6 : decode b_T_takeBook 6 = .ok (.iadd, 1) := by decide +kernel
theorem d_T_takeBook_7 : decode b_T_takeBook 7 = .ok (.if_icmp .ne 8, 3) := by decide +kernel
theorem d_T_takeBook_10 : decode b_T_takeBook 10 = .ok (.aload_n 0, 1) := by decide +kernel
theorem d_T_takeBook_11 : decode b_T_takeBook 11 = .ok (.iload_n 1, 1) := by decide +kernel
theorem d_T_takeBook_12 : decode b_T_takeBook 12 = .ok (.putfield 18, 3) := by decide +kernel
theorem d_T_takeBook_15 : decode b_T_takeBook 15 = .ok (.return_, 1) := by decide +kernel

theorem d_T_endAsking_0 : decode b_T_endAsking 0 = .ok (.aload_n 0, 1) := by decide +kernel
theorem d_T_endAsking_1 : decode b_T_endAsking 1 = .ok (.iconst 1, 1) := by decide +kernel
theorem d_T_endAsking_2 : decode b_T_endAsking 2 = .ok (.putfield 32, 3) := by decide +kernel
theorem d_T_endAsking_5 : decode b_T_endAsking 5 = .ok (.aload_n 0, 1) := by decide +kernel
theorem d_T_endAsking_6 : decode b_T_endAsking 6 = .ok (.iconst 0, 1) := by decide +kernel
theorem d_T_endAsking_7 : decode b_T_endAsking 7 = .ok (.putfield 36, 3) := by decide +kernel
theorem d_T_endAsking_10 : decode b_T_endAsking 10 = .ok (.return_, 1) := by decide +kernel

theorem d_T_takeGrant_0 : decode b_T_takeGrant 0 = .ok (.iload_n 1, 1) := by decide +kernel
theorem d_T_takeGrant_1 : decode b_T_takeGrant 1 = .ok (.aload_n 0, 1) := by decide +kernel
theorem d_T_takeGrant_2 : decode b_T_takeGrant 2 = .ok (.getfield 22, 3) := by decide +kernel
theorem d_T_takeGrant_5 : decode b_T_takeGrant 5 = .ok (.if_icmp .ne 15, 3) := by decide +kernel
theorem d_T_takeGrant_8 : decode b_T_takeGrant 8 = .ok (.aload_n 0, 1) := by decide +kernel
theorem d_T_takeGrant_9 : decode b_T_takeGrant 9 = .ok (.getfield 32, 3) := by decide +kernel
theorem d_T_takeGrant_12 : decode b_T_takeGrant 12 = .ok (.ifCond .ne 8, 3) := by decide +kernel
theorem d_T_takeGrant_15 : decode b_T_takeGrant 15 = .ok (.aload_n 0, 1) := by decide +kernel
theorem d_T_takeGrant_16 : decode b_T_takeGrant 16 = .ok (.iload_n 2, 1) := by decide +kernel
theorem d_T_takeGrant_17 : decode b_T_takeGrant 17 = .ok (.putfield 36, 3) := by decide +kernel
theorem d_T_takeGrant_20 : decode b_T_takeGrant 20 = .ok (.return_, 1) := by decide +kernel

theorem d_T_beginAsking_0 : decode b_T_beginAsking 0 = .ok (.aload_n 0, 1) := by decide +kernel
theorem d_T_beginAsking_1 : decode b_T_beginAsking 1 = .ok (.dup, 1) := by decide +kernel
theorem d_T_beginAsking_2 : decode b_T_beginAsking 2 = .ok (.getfield 22, 3) := by decide +kernel
theorem d_T_beginAsking_5 : decode b_T_beginAsking 5 = .ok (.iconst 1, 1) := by decide +kernel
theorem d_T_beginAsking_6 : decode b_T_beginAsking 6 = .ok (.iadd, 1) := by decide +kernel
theorem d_T_beginAsking_7 : decode b_T_beginAsking 7 = .ok (.putfield 22, 3) := by decide +kernel
theorem d_T_beginAsking_10 : decode b_T_beginAsking 10 = .ok (.aload_n 0, 1) := by decide +kernel
theorem d_T_beginAsking_11 : decode b_T_beginAsking 11 = .ok (.aload_n 0, 1) := by decide +kernel
theorem d_T_beginAsking_12 : decode b_T_beginAsking 12 = .ok (.getfield 12, 3) := by decide +kernel
theorem d_T_beginAsking_15 : decode b_T_beginAsking 15 = .ok (.invokevirtual 25, 3) := by decide +kernel
theorem d_T_beginAsking_18 : decode b_T_beginAsking 18 = .ok (.putfield 29, 3) := by decide +kernel
theorem d_T_beginAsking_21 : decode b_T_beginAsking 21 = .ok (.aload_n 0, 1) := by decide +kernel
theorem d_T_beginAsking_22 : decode b_T_beginAsking 22 = .ok (.iconst 0, 1) := by decide +kernel
theorem d_T_beginAsking_23 : decode b_T_beginAsking 23 = .ok (.putfield 32, 3) := by decide +kernel
theorem d_T_beginAsking_26 : decode b_T_beginAsking 26 = .ok (.aload_n 0, 1) := by decide +kernel
theorem d_T_beginAsking_27 : decode b_T_beginAsking 27 = .ok (.iconst 0, 1) := by decide +kernel
theorem d_T_beginAsking_28 : decode b_T_beginAsking 28 = .ok (.putfield 36, 3) := by decide +kernel
theorem d_T_beginAsking_31 : decode b_T_beginAsking 31 = .ok (.aload_n 0, 1) := by decide +kernel
theorem d_T_beginAsking_32 : decode b_T_beginAsking 32 = .ok (.getfield 22, 3) := by decide +kernel
theorem d_T_beginAsking_35 : decode b_T_beginAsking 35 = .ok (.ireturn, 1) := by decide +kernel

theorem d_T_validLease_0 : decode b_T_validLease 0 = .ok (.aload_n 0, 1) := by decide +kernel
theorem d_T_validLease_1 : decode b_T_validLease 1 = .ok (.getfield 12, 3) := by decide +kernel
theorem d_T_validLease_4 : decode b_T_validLease 4 = .ok (.invokevirtual 25, 3) := by decide +kernel
theorem d_T_validLease_7 : decode b_T_validLease 7 = .ok (.aload_n 0, 1) := by decide +kernel
theorem d_T_validLease_8 : decode b_T_validLease 8 = .ok (.getfield 29, 3) := by decide +kernel
theorem d_T_validLease_11 : decode b_T_validLease 11 = .ok (.isub, 1) := by decide +kernel
theorem d_T_validLease_12 : decode b_T_validLease 12 = .ok (.bipush 60, 2) := by decide +kernel
theorem d_T_validLease_14 : decode b_T_validLease 14 = .ok (.if_icmp .ge 7, 3) := by decide +kernel
theorem d_T_validLease_17 : decode b_T_validLease 17 = .ok (.iconst 1, 1) := by decide +kernel
theorem d_T_validLease_18 : decode b_T_validLease 18 = .ok (.goto 4, 3) := by decide +kernel
theorem d_T_validLease_21 : decode b_T_validLease 21 = .ok (.iconst 0, 1) := by decide +kernel
theorem d_T_validLease_22 : decode b_T_validLease 22 = .ok (.istore_n 1, 1) := by decide +kernel
theorem d_T_validLease_23 : decode b_T_validLease 23 = .ok (.aload_n 0, 1) := by decide +kernel
theorem d_T_validLease_24 : decode b_T_validLease 24 = .ok (.getfield 36, 3) := by decide +kernel
theorem d_T_validLease_27 : decode b_T_validLease 27 = .ok (.aload_n 0, 1) := by decide +kernel
theorem d_T_validLease_28 : decode b_T_validLease 28 = .ok (.getfield 18, 3) := by decide +kernel
theorem d_T_validLease_31 : decode b_T_validLease 31 = .ok (.if_icmp .gt 7, 3) := by decide +kernel
theorem d_T_validLease_34 : decode b_T_validLease 34 = .ok (.iconst 1, 1) := by decide +kernel
theorem d_T_validLease_35 : decode b_T_validLease 35 = .ok (.goto 4, 3) := by decide +kernel
theorem d_T_validLease_38 : decode b_T_validLease 38 = .ok (.iconst 0, 1) := by decide +kernel
theorem d_T_validLease_39 : decode b_T_validLease 39 = .ok (.istore_n 2, 1) := by decide +kernel
theorem d_T_validLease_40 : decode b_T_validLease 40 = .ok (.aload_n 0, 1) := by decide +kernel
theorem d_T_validLease_41 : decode b_T_validLease 41 = .ok (.getfield 39, 3) := by decide +kernel
theorem d_T_validLease_44 : decode b_T_validLease 44 = .ok (.aload_n 0, 1) := by decide +kernel
theorem d_T_validLease_45 : decode b_T_validLease 45 = .ok (.getfield 36, 3) := by decide +kernel
theorem d_T_validLease_48 : decode b_T_validLease 48 = .ok (.if_icmp .le 7, 3) := by decide +kernel
theorem d_T_validLease_51 : decode b_T_validLease 51 = .ok (.iconst 1, 1) := by decide +kernel
theorem d_T_validLease_52 : decode b_T_validLease 52 = .ok (.goto 4, 3) := by decide +kernel
theorem d_T_validLease_55 : decode b_T_validLease 55 = .ok (.iconst 0, 1) := by decide +kernel
theorem d_T_validLease_56 : decode b_T_validLease 56 = .ok (.istore_n 3, 1) := by decide +kernel
theorem d_T_validLease_57 : decode b_T_validLease 57 = .ok (.iload_n 1, 1) := by decide +kernel
theorem d_T_validLease_58 : decode b_T_validLease 58 = .ok (.ifCond .eq 18, 3) := by decide +kernel
theorem d_T_validLease_61 : decode b_T_validLease 61 = .ok (.iload_n 2, 1) := by decide +kernel
theorem d_T_validLease_62 : decode b_T_validLease 62 = .ok (.ifCond .eq 14, 3) := by decide +kernel
theorem d_T_validLease_65 : decode b_T_validLease 65 = .ok (.iload_n 3, 1) := by decide +kernel
theorem d_T_validLease_66 : decode b_T_validLease 66 = .ok (.ifCond .ne 10, 3) := by decide +kernel
theorem d_T_validLease_69 : decode b_T_validLease 69 = .ok (.aload_n 0, 1) := by decide +kernel
theorem d_T_validLease_70 : decode b_T_validLease 70 = .ok (.getfield 36, 3) := by decide +kernel
theorem d_T_validLease_73 : decode b_T_validLease 73 = .ok (.goto 4, 3) := by decide +kernel
theorem d_T_validLease_76 : decode b_T_validLease 76 = .ok (.iconst 0, 1) := by decide +kernel
theorem d_T_validLease_77 : decode b_T_validLease 77 = .ok (.ireturn, 1) := by decide +kernel

set_option maxHeartbeats 4000000 in
set_option maxRecDepth 100000 in
theorem c_C_shown (l : Launch) (Z : qZ) (hZ : qok (pX Z)) (V : qV) (Y : qY) (j : Nat) (hj : j < 5) : CT l y_C_shown { frames := 1, cells := 0, slots := 0, locals := 40 } (pX Z) qN [.ref (al Z 8 j)] V Y (.inl (some (.int ((V 8 j 0) / 100)))) V Y := by
  refine CT.of (cc := b_C_shown) (maxL := 1) (ret := (some .int)) hZ (by decide) w_392 (Nat.le_of_ble_eq_true rfl) ?_
  intro p e s m below meth c C hr hex hlt
  refine gq_aload_n C d_C_shown_0 rfl ?_
  refine gq_get C (g := 8) (j := j) (ci := 1) (k := 0) (v := .int (V 8 j 0)) (qm (by decide) hj) rfl rfl in_C (by decide) w_61 rfl d_C_shown_1 ?_
  refine gq_bipush C (v := 100) d_C_shown_4 (by decide) ?_
  refine gq_idiv C d_C_shown_6 (by decide) ?_
  exact gq_iret C hr (by decide) (by decide) d_C_shown_7

set_option maxHeartbeats 4000000 in
set_option maxRecDepth 100000 in
theorem c_C_go (l : Launch) (Z : qZ) (hZ : qok (pX Z)) (V : qV) (Y : qY) (j : Nat) (hj : j < 5) (n : Int32) : CT l y_C_go { frames := 1, cells := 0, slots := 0, locals := 40 } (pX Z) (qA (pX Z)) [.ref (al Z 8 j), .int n] V Y (.inl none) (qv V 8 j 0 ((V 8 j 0) + (n * (V 8 j 1)))) Y := by
  refine CT.of (cc := b_C_go) (maxL := 2) (ret := none) hZ (by decide) w_407 (Nat.le_of_ble_eq_true rfl) ?_
  intro p e s m below meth c C hr hex hlt
  refine gq_aload_n C d_C_go_0 rfl ?_
  refine gq_dup C d_C_go_1 rfl ?_
  refine gq_get C (g := 8) (j := j) (ci := 1) (k := 0) (v := .int (V 8 j 0)) (qm (by decide) hj) rfl rfl in_C (by decide) w_61 rfl d_C_go_2 ?_
  refine gq_iload_n C d_C_go_5 rfl ?_
  refine gq_aload_n C d_C_go_6 rfl ?_
  refine gq_get C (g := 8) (j := j) (ci := 1) (k := 1) (v := .int (V 8 j 1)) (qm (by decide) hj) rfl rfl in_C (by decide) w_62 rfl d_C_go_7 ?_
  refine gq_imul C d_C_go_10 ?_
  refine gq_iadd C d_C_go_11 ?_
  refine gq_put C (fun _ h => h) (g := 8) (j := j) (ci := 1) (k := 0) ft_C k_C n_C (qm (by decide) hj) rfl rfl in_C (by decide) w_61 rfl (k_C 0 (by decide)) rfl rfl (Nat.le_of_ble_eq_true rfl) rfl d_C_go_12 ?_
  exact gq_vret C hr (by decide) (by decide) d_C_go_15

set_option maxHeartbeats 4000000 in
set_option maxRecDepth 100000 in
theorem c_B_begin (l : Launch) (Z : qZ) (hZ : qok (pX Z)) (V : qV) (Y : qY) (j : Nat) (hj : j < 40) (a b : Int32) : CT l y_B_begin { frames := 1, cells := 0, slots := 0, locals := 40 } (pX Z) (qA (pX Z)) [.ref (al Z 15 j), .int a, .int b] V Y (.inl none) (qv (qv (qv V 15 j 0 a) 15 j 1 b) 15 j 2 1) Y := by
  refine CT.of (cc := b_B_begin) (maxL := 3) (ret := none) hZ (by decide) w_576 (Nat.le_of_ble_eq_true rfl) ?_
  intro p e s m below meth c C hr hex hlt
  refine gq_aload_n C d_B_begin_0 rfl ?_
  refine gq_iload_n C d_B_begin_1 rfl ?_
  refine gq_put C (fun _ h => h) (g := 15) (j := j) (ci := 0) (k := 0) ft_B k_B n_B (qm (by decide) hj) rfl rfl in_B (by decide) w_186 rfl (k_B 0 (by decide)) rfl rfl (Nat.le_of_ble_eq_true rfl) rfl d_B_begin_2 ?_
  refine gq_aload_n C d_B_begin_5 rfl ?_
  refine gq_iload_n C d_B_begin_6 rfl ?_
  refine gq_put C (fun _ h => h) (g := 15) (j := j) (ci := 0) (k := 1) ft_B k_B n_B (qm (by decide) hj) rfl rfl in_B (by decide) w_188 rfl (k_B 1 (by decide)) rfl rfl (Nat.le_of_ble_eq_true rfl) rfl d_B_begin_7 ?_
  refine gq_aload_n C d_B_begin_10 rfl ?_
  refine gq_iconst C (v := 1) d_B_begin_11 (by decide) ?_
  refine gq_put C (fun _ h => h) (g := 15) (j := j) (ci := 0) (k := 2) ft_B k_B n_B (qm (by decide) hj) rfl rfl in_B (by decide) w_190 rfl (k_B 2 (by decide)) rfl rfl (Nat.le_of_ble_eq_true rfl) rfl d_B_begin_12 ?_
  exact gq_vret C hr (by decide) (by decide) d_B_begin_15

set_option maxHeartbeats 4000000 in
set_option maxRecDepth 100000 in
theorem c_R_isFull (l : Launch) (Z : qZ) (hZ : qok (pX Z)) (V : qV) (Y : qY)  : CT l y_R_isFull { frames := 1, cells := 0, slots := 0, locals := 40 } (pX Z) qN [.ref (al Z 12 0)] V Y (.inl (some (.int (if V 12 0 4 < 40 then 0 else 1)))) V Y := by
  refine CT.of (cc := b_R_isFull) (maxL := 1) (ret := (some .boolean)) hZ (by decide) w_369 (Nat.le_of_ble_eq_true rfl) ?_
  intro p e s m below meth c C hr hex hlt
  refine gq_aload_n C d_R_isFull_0 rfl ?_
  refine gq_get C (g := 12) (j := 0) (ci := 3) (k := 4) (v := .int (V 12 0 4)) (qm (by decide) (by decide)) rfl rfl in_R (by decide) w_166 rfl d_R_isFull_1 ?_
  refine gq_bipush C (v := 40) d_R_isFull_4 (by decide) ?_
  refine gq_icmp_lt C (tgt := 13) d_R_isFull_6 rfl (fun hb6 => ?_) (fun hb6 => ?_)
  · skip
    refine gq_iconst C (v := 0) d_R_isFull_13 (by decide) ?_
    exact gq_zretE C hr (by decide) (by simp [*]) rfl rfl (by decide) (by decide) d_R_isFull_14
  · skip
    refine gq_iconst C (v := 1) d_R_isFull_9 (by decide) ?_
    refine gq_goto C (tgt := 14) d_R_isFull_10 rfl ?_
    exact gq_zretE C hr (by decide) (by simp [*]) rfl rfl (by decide) (by decide) d_R_isFull_14

/-- a letter is posted: nothing happens to a full row -/
def f_post (V : qV) (n : Nat) (k t b a : Int32) : qV := qv (qv (qv (qv (qv V 13 0 n k) 13 1 n t) 13 2 n b) 13 3 n a) 12 0 4 (nI (n + 1))

set_option maxHeartbeats 4000000 in
set_option maxRecDepth 100000 in
theorem c_R_post_full (l : Launch) (Z : qZ) (hZ : qok (pX Z)) (V : qV) (Y : qY) (hf : ¬ V 12 0 4 < 40) (k t b a : Int32) : CT l y_R_post { frames := 2, cells := 0, slots := 0, locals := 60 } (pX Z) (qA (pX Z)) [.ref (al Z 12 0), .int k, .int t, .int b, .int a] V Y (.inl none) V Y := by
  refine CT.of (cc := b_R_post) (maxL := 5) (ret := none) hZ (by decide) w_365 (Nat.le_of_ble_eq_true rfl) ?_
  intro p e s m below meth c C hr hex hlt
  refine gq_aload_n C d_R_post_0 rfl ?_
  refine gq_callV C (st := []) (fun _ h => h.elim) (c_R_isFull l Z hZ V Y) (qm (by decide) (by decide)) rfl rfl w_366 w_367 w_368 w_369 w_7 ⟨by decide, by decide, (by decide +kernel : (parseMethodDescriptor y_R_isFull.desc).map (fun d => d.parameters.length) = some 0)⟩ ⟨by decide, by decide⟩ ⟨by decide, by decide⟩ rfl (Nat.le_of_ble_eq_true rfl) d_R_post_1 ?_
  refine gq_if_eq C (tgt := 8) d_R_post_4 rfl (fun hb => by first | contradiction | exact absurd hb (by rw [if_neg hf]; decide)) (fun hb4 => ?_)
  exact gq_vret C hr (by decide) (by decide) d_R_post_7

set_option maxHeartbeats 4000000 in
set_option maxRecDepth 100000 in
theorem c_R_post (l : Launch) (Z : qZ) (hZ : qok (pX Z)) (V : qV) (Y : qY) (n : Nat) (hn : n < 40) (h4 : V 12 0 4 = nI n) (k t b a : Int32) : CT l y_R_post { frames := 2, cells := 0, slots := 0, locals := 60 } (pX Z) (qA (pX Z)) [.ref (al Z 12 0), .int k, .int t, .int b, .int a] V Y (.inl none) (f_post V n k t b a) Y := by
  refine CT.of (cc := b_R_post) (maxL := 5) (ret := none) hZ (by decide) w_365 (Nat.le_of_ble_eq_true rfl) ?_
  intro p e s m below meth c C hr hex hlt
  refine gq_aload_n C d_R_post_0 rfl ?_
  refine gq_callV C (st := []) (fun _ h => h.elim) (c_R_isFull l Z hZ V Y) (qm (by decide) (by decide)) rfl rfl w_366 w_367 w_368 w_369 w_7 ⟨by decide, by decide, (by decide +kernel : (parseMethodDescriptor y_R_isFull.desc).map (fun d => d.parameters.length) = some 0)⟩ ⟨by decide, by decide⟩ ⟨by decide, by decide⟩ rfl (Nat.le_of_ble_eq_true rfl) d_R_post_1 ?_
  refine gq_if_eq C (tgt := 8) d_R_post_4 rfl (fun hb4 => ?_) (fun hb => by first | contradiction | exact absurd (by rw [h4, if_pos (show nI n < (40 : Int32) from nI_lt hn (by decide))]) hb)
  refine gq_aload_n C d_R_post_8 rfl ?_
  refine gq_get C (g := 12) (j := 0) (ci := 3) (k := 0) (v := .ref (al Z 13 0)) (qm (by decide) (by decide)) rfl rfl in_R (by decide) w_158 rfl d_R_post_9 ?_
  refine gq_aload_n C d_R_post_12 rfl ?_
  refine gq_get C (g := 12) (j := 0) (ci := 3) (k := 4) (v := .int (V 12 0 4)) (qm (by decide) (by decide)) rfl rfl in_R (by decide) w_166 rfl d_R_post_13 ?_
  refine gq_iload_n C d_R_post_16 rfl ?_
  refine gq_iast C (fun _ h => h) (g := 13) (j := 0) (a := n) (t0 := 0) (qm (by decide) (by decide)) (fun _ => rfl) rfl h4 hn (by decide) d_R_post_17 ?_
  refine gq_aload_n C d_R_post_18 rfl ?_
  refine gq_get C (g := 12) (j := 0) (ci := 3) (k := 1) (v := .ref (al Z 13 1)) (qm (by decide) (by decide)) rfl rfl in_R (by decide) w_160 rfl d_R_post_19 ?_
  refine gq_aload_n C d_R_post_22 rfl ?_
  refine gq_get C (g := 12) (j := 0) (ci := 3) (k := 4) (v := .int (V 12 0 4)) (qm (by decide) (by decide)) rfl rfl in_R (by decide) w_166 rfl d_R_post_23 ?_
  refine gq_iload_n C d_R_post_26 rfl ?_
  refine gq_iast C (fun _ h => h) (g := 13) (j := 1) (a := n) (t0 := 0) (qm (by decide) (by decide)) (fun _ => rfl) rfl h4 hn (by decide) d_R_post_27 ?_
  refine gq_aload_n C d_R_post_28 rfl ?_
  refine gq_get C (g := 12) (j := 0) (ci := 3) (k := 2) (v := .ref (al Z 13 2)) (qm (by decide) (by decide)) rfl rfl in_R (by decide) w_162 rfl d_R_post_29 ?_
  refine gq_aload_n C d_R_post_32 rfl ?_
  refine gq_get C (g := 12) (j := 0) (ci := 3) (k := 4) (v := .int (V 12 0 4)) (qm (by decide) (by decide)) rfl rfl in_R (by decide) w_166 rfl d_R_post_33 ?_
  refine gq_iload_n C d_R_post_36 rfl ?_
  refine gq_iast C (fun _ h => h) (g := 13) (j := 2) (a := n) (t0 := 0) (qm (by decide) (by decide)) (fun _ => rfl) rfl h4 hn (by decide) d_R_post_37 ?_
  refine gq_aload_n C d_R_post_38 rfl ?_
  refine gq_get C (g := 12) (j := 0) (ci := 3) (k := 3) (v := .ref (al Z 13 3)) (qm (by decide) (by decide)) rfl rfl in_R (by decide) w_164 rfl d_R_post_39 ?_
  refine gq_aload_n C d_R_post_42 rfl ?_
  refine gq_get C (g := 12) (j := 0) (ci := 3) (k := 4) (v := .int (V 12 0 4)) (qm (by decide) (by decide)) rfl rfl in_R (by decide) w_166 rfl d_R_post_43 ?_
  refine gq_iload C d_R_post_46 rfl ?_
  refine gq_iast C (fun _ h => h) (g := 13) (j := 3) (a := n) (t0 := 0) (qm (by decide) (by decide)) (fun _ => rfl) rfl h4 hn (by decide) d_R_post_48 ?_
  refine gq_aload_n C d_R_post_49 rfl ?_
  refine gq_dup C d_R_post_50 rfl ?_
  refine gq_get C (g := 12) (j := 0) (ci := 3) (k := 4) (v := .int (V 12 0 4)) (qm (by decide) (by decide)) rfl rfl in_R (by decide) w_166 rfl d_R_post_51 ?_
  refine gq_iconst C (v := 1) d_R_post_54 (by decide) ?_
  refine gq_iadd C d_R_post_55 ?_
  refine gq_put C (fun _ h => h) (g := 12) (j := 0) (ci := 3) (k := 4) ft_R k_R n_R (qm (by decide) (by decide)) rfl rfl in_R (by decide) w_166 rfl (k_R 4 (by decide)) rfl rfl (Nat.le_of_ble_eq_true rfl) rfl d_R_post_56 ?_
  exact gq_vretE C hr (by unfold f_post; rw [h4, nI_succ]) rfl (by decide) (by decide) d_R_post_59

/-- letter i is taken out of n -/
def f_cut (f : Nat → Int32) (i n : Nat) : Nat → Int32 := va_cpy f f (i + 1) i (n - i - 1)
def f_takeOut (V : qV) (i n : Nat) : qV := qv (qu (qu (qu (qu V 13 0 (f_cut (V 13 0) i n)) 13 1 (f_cut (V 13 1) i n)) 13 2 (f_cut (V 13 2) i n)) 13 3 (f_cut (V 13 3) i n)) 12 0 4 (nI n - 1)

set_option maxHeartbeats 4000000 in
set_option maxRecDepth 100000 in
theorem c_R_takeOut (l : Launch) (Z : qZ) (hZ : qok (pX Z)) (V : qV) (Y : qY) (i n : Nat) (hi : i < n) (hn : n ≤ 40) (h4 : V 12 0 4 = nI n) (hbeh : V 12 0 4 - nI i - 1 = nI (n - i - 1)) : CT l y_R_takeOut { frames := 1, cells := 0, slots := 0, locals := 60 } (pX Z) (qA (pX Z)) [.ref (al Z 12 0), .int (nI i)] V Y (.inl none) (f_takeOut V i n) Y := by
  refine CT.of (cc := b_R_takeOut) (maxL := 3) (ret := none) hZ (by decide) w_507 (Nat.le_of_ble_eq_true rfl) ?_
  intro p e s m below meth c C hr hex hlt
  refine gq_aload_n C d_R_takeOut_0 rfl ?_
  refine gq_get C (g := 12) (j := 0) (ci := 3) (k := 4) (v := .int (V 12 0 4)) (qm (by decide) (by decide)) rfl rfl in_R (by decide) w_166 rfl d_R_takeOut_1 ?_
  refine gq_iload_n C d_R_takeOut_4 rfl ?_
  refine gq_isub C d_R_takeOut_5 ?_
  refine gq_iconst C (v := 1) d_R_takeOut_6 (by decide) ?_
  refine gq_isub C d_R_takeOut_7 ?_
  refine gq_istore_n C (lo' := [(2, .int (((V 12 0 4) - (nI i)) - 1)), (0, .ref (al Z 12 0)), (1, .int (nI i))]) d_R_takeOut_8 rfl (by decide) rfl ?_
  refine gq_aload_n C d_R_takeOut_9 rfl ?_
  refine gq_get C (g := 12) (j := 0) (ci := 3) (k := 0) (v := .ref (al Z 13 0)) (qm (by decide) (by decide)) rfl rfl in_R (by decide) w_158 rfl d_R_takeOut_10 ?_
  refine gq_iload_n C d_R_takeOut_13 rfl ?_
  refine gq_iconst C (v := 1) d_R_takeOut_14 (by decide) ?_
  refine gq_iadd C d_R_takeOut_15 ?_
  refine gq_aload_n C d_R_takeOut_16 rfl ?_
  refine gq_get C (g := 12) (j := 0) (ci := 3) (k := 0) (v := .ref (al Z 13 0)) (qm (by decide) (by decide)) rfl rfl in_R (by decide) w_158 rfl d_R_takeOut_17 ?_
  refine gq_iload_n C d_R_takeOut_20 rfl ?_
  refine gq_iload_n C d_R_takeOut_21 rfl ?_
  refine gq_copyi C (fun _ h => h) (g0 := 13) (j0 := 0) (g1 := 13) (j1 := 0) (t0 := 0) (sp := (i + 1)) (dp := i) (n := (n - i - 1)) w_508 w_361 w_360 w_15 (qm (by decide) (by decide)) (qm (by decide) (by decide)) rfl (fun _ => rfl) rfl (nI_1 i) rfl hbeh (by omega) (by omega) (by decide) (by decide) (by decide) (by decide) d_R_takeOut_22 ?_
  refine gq_aload_n C d_R_takeOut_25 rfl ?_
  refine gq_get C (g := 12) (j := 0) (ci := 3) (k := 1) (v := .ref (al Z 13 1)) (qm (by decide) (by decide)) rfl rfl in_R (by decide) w_160 rfl d_R_takeOut_26 ?_
  refine gq_iload_n C d_R_takeOut_29 rfl ?_
  refine gq_iconst C (v := 1) d_R_takeOut_30 (by decide) ?_
  refine gq_iadd C d_R_takeOut_31 ?_
  refine gq_aload_n C d_R_takeOut_32 rfl ?_
  refine gq_get C (g := 12) (j := 0) (ci := 3) (k := 1) (v := .ref (al Z 13 1)) (qm (by decide) (by decide)) rfl rfl in_R (by decide) w_160 rfl d_R_takeOut_33 ?_
  refine gq_iload_n C d_R_takeOut_36 rfl ?_
  refine gq_iload_n C d_R_takeOut_37 rfl ?_
  refine gq_copyi C (fun _ h => h) (g0 := 13) (j0 := 1) (g1 := 13) (j1 := 1) (t0 := 0) (sp := (i + 1)) (dp := i) (n := (n - i - 1)) w_508 w_361 w_360 w_15 (qm (by decide) (by decide)) (qm (by decide) (by decide)) rfl (fun _ => rfl) rfl (nI_1 i) rfl hbeh (by omega) (by omega) (by decide) (by decide) (by decide) (by decide) d_R_takeOut_38 ?_
  refine gq_aload_n C d_R_takeOut_41 rfl ?_
  refine gq_get C (g := 12) (j := 0) (ci := 3) (k := 2) (v := .ref (al Z 13 2)) (qm (by decide) (by decide)) rfl rfl in_R (by decide) w_162 rfl d_R_takeOut_42 ?_
  refine gq_iload_n C d_R_takeOut_45 rfl ?_
  refine gq_iconst C (v := 1) d_R_takeOut_46 (by decide) ?_
  refine gq_iadd C d_R_takeOut_47 ?_
  refine gq_aload_n C d_R_takeOut_48 rfl ?_
  refine gq_get C (g := 12) (j := 0) (ci := 3) (k := 2) (v := .ref (al Z 13 2)) (qm (by decide) (by decide)) rfl rfl in_R (by decide) w_162 rfl d_R_takeOut_49 ?_
  refine gq_iload_n C d_R_takeOut_52 rfl ?_
  refine gq_iload_n C d_R_takeOut_53 rfl ?_
  refine gq_copyi C (fun _ h => h) (g0 := 13) (j0 := 2) (g1 := 13) (j1 := 2) (t0 := 0) (sp := (i + 1)) (dp := i) (n := (n - i - 1)) w_508 w_361 w_360 w_15 (qm (by decide) (by decide)) (qm (by decide) (by decide)) rfl (fun _ => rfl) rfl (nI_1 i) rfl hbeh (by omega) (by omega) (by decide) (by decide) (by decide) (by decide) d_R_takeOut_54 ?_
  refine gq_aload_n C d_R_takeOut_57 rfl ?_
  refine gq_get C (g := 12) (j := 0) (ci := 3) (k := 3) (v := .ref (al Z 13 3)) (qm (by decide) (by decide)) rfl rfl in_R (by decide) w_164 rfl d_R_takeOut_58 ?_
  refine gq_iload_n C d_R_takeOut_61 rfl ?_
  refine gq_iconst C (v := 1) d_R_takeOut_62 (by decide) ?_
  refine gq_iadd C d_R_takeOut_63 ?_
  refine gq_aload_n C d_R_takeOut_64 rfl ?_
  refine gq_get C (g := 12) (j := 0) (ci := 3) (k := 3) (v := .ref (al Z 13 3)) (qm (by decide) (by decide)) rfl rfl in_R (by decide) w_164 rfl d_R_takeOut_65 ?_
  refine gq_iload_n C d_R_takeOut_68 rfl ?_
  refine gq_iload_n C d_R_takeOut_69 rfl ?_
  refine gq_copyi C (fun _ h => h) (g0 := 13) (j0 := 3) (g1 := 13) (j1 := 3) (t0 := 0) (sp := (i + 1)) (dp := i) (n := (n - i - 1)) w_508 w_361 w_360 w_15 (qm (by decide) (by decide)) (qm (by decide) (by decide)) rfl (fun _ => rfl) rfl (nI_1 i) rfl hbeh (by omega) (by omega) (by decide) (by decide) (by decide) (by decide) d_R_takeOut_70 ?_
  refine gq_aload_n C d_R_takeOut_73 rfl ?_
  refine gq_dup C d_R_takeOut_74 rfl ?_
  refine gq_get C (g := 12) (j := 0) (ci := 3) (k := 4) (v := .int (V 12 0 4)) (qm (by decide) (by decide)) rfl rfl in_R (by decide) w_166 rfl d_R_takeOut_75 ?_
  refine gq_iconst C (v := 1) d_R_takeOut_78 (by decide) ?_
  refine gq_isub C d_R_takeOut_79 ?_
  refine gq_put C (fun _ h => h) (g := 12) (j := 0) (ci := 3) (k := 4) ft_R k_R n_R (qm (by decide) (by decide)) rfl rfl in_R (by decide) w_166 rfl (k_R 4 (by decide)) rfl rfl (Nat.le_of_ble_eq_true rfl) rfl d_R_takeOut_80 ?_
  exact gq_vretE C hr (by unfold f_takeOut f_cut; rw [h4]; rfl) rfl (by decide) (by decide) d_R_takeOut_83

set_option maxHeartbeats 4000000 in
set_option maxRecDepth 100000 in
theorem c_N_forget (l : Launch) (Z : qZ) (hZ : qok (pX Z)) (V : qV) (Y : qY) (j : Nat) (hj : j < 4) : CT l y_N_forget { frames := 1, cells := 0, slots := 0, locals := 40 } (pX Z) (qA (pX Z)) [.ref (al Z 11 j)] V Y (.inl none) (qv (qv (qv (qv (qv V 11 j 0 0) 11 j 1 0) 11 j 2 0) 11 j 3 0) 11 j 4 0) Y := by
  refine CT.of (cc := b_N_forget) (maxL := 1) (ret := none) hZ (by decide) w_654 (Nat.le_of_ble_eq_true rfl) ?_
  intro p e s m below meth c C hr hex hlt
  refine gq_aload_n C d_N_forget_0 rfl ?_
  refine gq_iconst C (v := 0) d_N_forget_1 (by decide) ?_
  refine gq_put C (fun _ h => h) (g := 11) (j := j) (ci := 4) (k := 0) ft_N k_N n_N (qm (by decide) hj) rfl rfl in_N (by decide) w_114 rfl (k_N 0 (by decide)) rfl rfl (Nat.le_of_ble_eq_true rfl) rfl d_N_forget_2 ?_
  refine gq_aload_n C d_N_forget_5 rfl ?_
  refine gq_iconst C (v := 0) d_N_forget_6 (by decide) ?_
  refine gq_put C (fun _ h => h) (g := 11) (j := j) (ci := 4) (k := 1) ft_N k_N n_N (qm (by decide) hj) rfl rfl in_N (by decide) w_116 rfl (k_N 1 (by decide)) rfl rfl (Nat.le_of_ble_eq_true rfl) rfl d_N_forget_7 ?_
  refine gq_aload_n C d_N_forget_10 rfl ?_
  refine gq_iconst C (v := 0) d_N_forget_11 (by decide) ?_
  refine gq_put C (fun _ h => h) (g := 11) (j := j) (ci := 4) (k := 2) ft_N k_N n_N (qm (by decide) hj) rfl rfl in_N (by decide) w_118 rfl (k_N 2 (by decide)) rfl rfl (Nat.le_of_ble_eq_true rfl) rfl d_N_forget_12 ?_
  refine gq_aload_n C d_N_forget_15 rfl ?_
  refine gq_iconst C (v := 0) d_N_forget_16 (by decide) ?_
  refine gq_put C (fun _ h => h) (g := 11) (j := j) (ci := 4) (k := 3) ft_N k_N n_N (qm (by decide) hj) rfl rfl in_N (by decide) w_119 rfl (k_N 3 (by decide)) rfl rfl (Nat.le_of_ble_eq_true rfl) rfl d_N_forget_17 ?_
  refine gq_aload_n C d_N_forget_20 rfl ?_
  refine gq_iconst C (v := 0) d_N_forget_21 (by decide) ?_
  refine gq_put C (fun _ h => h) (g := 11) (j := j) (ci := 4) (k := 4) ft_N k_N n_N (qm (by decide) hj) rfl rfl in_N (by decide) w_120 rfl (k_N 4 (by decide)) rfl rfl (Nat.le_of_ble_eq_true rfl) rfl d_N_forget_22 ?_
  exact gq_vret C hr (by decide) (by decide) d_N_forget_25

set_option maxHeartbeats 4000000 in
set_option maxRecDepth 100000 in
theorem c_N_noteReady (l : Launch) (Z : qZ) (hZ : qok (pX Z)) (V : qV) (Y : qY) (j : Nat) (hj : j < 4) (b : Int32) : CT l y_N_noteReady { frames := 1, cells := 0, slots := 0, locals := 60 } (pX Z) (qA (pX Z)) [.ref (al Z 11 j), .int b] V Y (.inl none) (qv V 11 j 0 (if V 11 j 0 < b then b else V 11 j 0)) Y := by
  refine CT.of (cc := b_N_noteReady) (maxL := 2) (ret := none) hZ (by decide) w_536 (Nat.le_of_ble_eq_true rfl) ?_
  intro p e s m below meth c C hr hex hlt
  refine gq_aload_n C d_N_noteReady_0 rfl ?_
  refine gq_aload_n C d_N_noteReady_1 rfl ?_
  refine gq_get C (g := 11) (j := j) (ci := 4) (k := 0) (v := .int (V 11 j 0)) (qm (by decide) hj) rfl rfl in_N (by decide) w_114 rfl d_N_noteReady_2 ?_
  refine gq_iload_n C d_N_noteReady_5 rfl ?_
  refine gq_max C w_537 w_538 w_17 w_539 (by decide) (Nat.le_of_ble_eq_true rfl) (by decide) (by decide) d_N_noteReady_6 ?_
  refine gq_put C (fun _ h => h) (g := 11) (j := j) (ci := 4) (k := 0) ft_N k_N n_N (qm (by decide) hj) rfl rfl in_N (by decide) w_114 rfl (k_N 0 (by decide)) rfl rfl (Nat.le_of_ble_eq_true rfl) rfl d_N_noteReady_9 ?_
  exact gq_vret C hr (by decide) (by decide) d_N_noteReady_12

set_option maxHeartbeats 4000000 in
set_option maxRecDepth 100000 in
theorem c_N_noteGrant (l : Launch) (Z : qZ) (hZ : qok (pX Z)) (V : qV) (Y : qY) (j : Nat) (hj : j < 4) (a b n : Int32) : CT l y_N_noteGrant { frames := 1, cells := 0, slots := 0, locals := 40 } (pX Z) (qA (pX Z)) [.ref (al Z 11 j), .int a, .int b, .int n] V Y (.inl none) (qv (qv (qv (qv V 11 j 1 a) 11 j 2 b) 11 j 3 n) 11 j 4 1) Y := by
  refine CT.of (cc := b_N_noteGrant) (maxL := 4) (ret := none) hZ (by decide) w_532 (Nat.le_of_ble_eq_true rfl) ?_
  intro p e s m below meth c C hr hex hlt
  refine gq_aload_n C d_N_noteGrant_0 rfl ?_
  refine gq_iload_n C d_N_noteGrant_1 rfl ?_
  refine gq_put C (fun _ h => h) (g := 11) (j := j) (ci := 4) (k := 1) ft_N k_N n_N (qm (by decide) hj) rfl rfl in_N (by decide) w_116 rfl (k_N 1 (by decide)) rfl rfl (Nat.le_of_ble_eq_true rfl) rfl d_N_noteGrant_2 ?_
  refine gq_aload_n C d_N_noteGrant_5 rfl ?_
  refine gq_iload_n C d_N_noteGrant_6 rfl ?_
  refine gq_put C (fun _ h => h) (g := 11) (j := j) (ci := 4) (k := 2) ft_N k_N n_N (qm (by decide) hj) rfl rfl in_N (by decide) w_118 rfl (k_N 2 (by decide)) rfl rfl (Nat.le_of_ble_eq_true rfl) rfl d_N_noteGrant_7 ?_
  refine gq_aload_n C d_N_noteGrant_10 rfl ?_
  refine gq_iload_n C d_N_noteGrant_11 rfl ?_
  refine gq_put C (fun _ h => h) (g := 11) (j := j) (ci := 4) (k := 3) ft_N k_N n_N (qm (by decide) hj) rfl rfl in_N (by decide) w_119 rfl (k_N 3 (by decide)) rfl rfl (Nat.le_of_ble_eq_true rfl) rfl d_N_noteGrant_12 ?_
  refine gq_aload_n C d_N_noteGrant_15 rfl ?_
  refine gq_iconst C (v := 1) d_N_noteGrant_16 (by decide) ?_
  refine gq_put C (fun _ h => h) (g := 11) (j := j) (ci := 4) (k := 4) ft_N k_N n_N (qm (by decide) hj) rfl rfl in_N (by decide) w_120 rfl (k_N 4 (by decide)) rfl rfl (Nat.le_of_ble_eq_true rfl) rfl d_N_noteGrant_17 ?_
  exact gq_vret C hr (by decide) (by decide) d_N_noteGrant_20

set_option maxHeartbeats 4000000 in
set_option maxRecDepth 100000 in
theorem c_N_noteGiven (l : Launch) (Z : qZ) (hZ : qok (pX Z)) (V : qV) (Y : qY) (j : Nat) (hj : j < 4) (a : Int32) : CT l y_N_noteGiven { frames := 1, cells := 0, slots := 0, locals := 40 } (pX Z) (qA (pX Z)) [.ref (al Z 11 j), .int a] V Y (.inl none) (if a = V 11 j 1 then qv V 11 j 4 0 else V) Y := by
  refine CT.of (cc := b_N_noteGiven) (maxL := 2) (ret := none) hZ (by decide) w_543 (Nat.le_of_ble_eq_true rfl) ?_
  intro p e s m below meth c C hr hex hlt
  refine gq_iload_n C d_N_noteGiven_0 rfl ?_
  refine gq_aload_n C d_N_noteGiven_1 rfl ?_
  refine gq_get C (g := 11) (j := j) (ci := 4) (k := 1) (v := .int (V 11 j 1)) (qm (by decide) hj) rfl rfl in_N (by decide) w_116 rfl d_N_noteGiven_2 ?_
  refine gq_icmp_ne C (tgt := 13) d_N_noteGiven_5 rfl (fun hb5 => ?_) (fun hb5 => ?_)
  · skip
    exact gq_vretE C hr (by simp [*]) rfl (by decide) (by decide) d_N_noteGiven_13
  · skip
    refine gq_aload_n C d_N_noteGiven_8 rfl ?_
    refine gq_iconst C (v := 0) d_N_noteGiven_9 (by decide) ?_
    refine gq_put C (fun _ h => h) (g := 11) (j := j) (ci := 4) (k := 4) ft_N k_N n_N (qm (by decide) hj) rfl rfl in_N (by decide) w_120 rfl (k_N 4 (by decide)) rfl rfl (Nat.le_of_ble_eq_true rfl) rfl d_N_noteGiven_10 ?_
    exact gq_vretE C hr (by simp [*]) rfl (by decide) (by decide) d_N_noteGiven_13

def f_al (V : qV) (j : Nat) (ch now : Int32) : Int32 := if ch ≤ V 11 j 0 then 1 else if V 11 j 4 = 0 then 1 else if V 11 j 2 = ch then 1 else if now - V 11 j 3 < 63 then 0 else 1

set_option maxHeartbeats 4000000 in
set_option maxRecDepth 100000 in
theorem c_N_allows (l : Launch) (Z : qZ) (hZ : qok (pX Z)) (V : qV) (Y : qY) (j : Nat) (hj : j < 4) (ch now : Int32) : CT l y_N_allows { frames := 1, cells := 0, slots := 0, locals := 40 } (pX Z) qN [.ref (al Z 11 j), .int ch, .int now] V Y (.inl (some (.int (f_al V j ch now)))) V Y := by
  refine CT.of (cc := b_N_allows) (maxL := 3) (ret := (some .boolean)) hZ (by decide) w_396 (Nat.le_of_ble_eq_true rfl) ?_
  intro p e s m below meth c C hr hex hlt
  refine gq_aload_n C d_N_allows_0 rfl ?_
  refine gq_get C (g := 11) (j := j) (ci := 4) (k := 0) (v := .int (V 11 j 0)) (qm (by decide) hj) rfl rfl in_N (by decide) w_114 rfl d_N_allows_1 ?_
  refine gq_iload_n C d_N_allows_4 rfl ?_
  refine gq_icmp_ge C (tgt := 34) d_N_allows_5 rfl (fun hb5 => ?_) (fun hb5 => ?_)
  · skip
    refine gq_iconst C (v := 1) d_N_allows_34 (by decide) ?_
    refine gq_goto C (tgt := 39) d_N_allows_35 rfl ?_
    exact gq_zretE C hr (by decide) (by unfold f_al; simp [*]) rfl rfl (by decide) (by decide) d_N_allows_39
  · skip
    refine gq_aload_n C d_N_allows_8 rfl ?_
    refine gq_get C (g := 11) (j := j) (ci := 4) (k := 4) (v := .int (V 11 j 4)) (qm (by decide) hj) rfl rfl in_N (by decide) w_120 rfl d_N_allows_9 ?_
    refine gq_if_eq C (tgt := 34) d_N_allows_12 rfl (fun hb12 => ?_) (fun hb12 => ?_)
    · skip
      refine gq_iconst C (v := 1) d_N_allows_34 (by decide) ?_
      refine gq_goto C (tgt := 39) d_N_allows_35 rfl ?_
      exact gq_zretE C hr (by decide) (by unfold f_al; simp [*]) rfl rfl (by decide) (by decide) d_N_allows_39
    · skip
      refine gq_aload_n C d_N_allows_15 rfl ?_
      refine gq_get C (g := 11) (j := j) (ci := 4) (k := 2) (v := .int (V 11 j 2)) (qm (by decide) hj) rfl rfl in_N (by decide) w_118 rfl d_N_allows_16 ?_
      refine gq_iload_n C d_N_allows_19 rfl ?_
      refine gq_icmp_eq C (tgt := 34) d_N_allows_20 rfl (fun hb20 => ?_) (fun hb20 => ?_)
      · skip
        refine gq_iconst C (v := 1) d_N_allows_34 (by decide) ?_
        refine gq_goto C (tgt := 39) d_N_allows_35 rfl ?_
        exact gq_zretE C hr (by decide) (by unfold f_al; simp [*]) rfl rfl (by decide) (by decide) d_N_allows_39
      · skip
        refine gq_iload_n C d_N_allows_23 rfl ?_
        refine gq_aload_n C d_N_allows_24 rfl ?_
        refine gq_get C (g := 11) (j := j) (ci := 4) (k := 3) (v := .int (V 11 j 3)) (qm (by decide) hj) rfl rfl in_N (by decide) w_119 rfl d_N_allows_25 ?_
        refine gq_isub C d_N_allows_28 ?_
        refine gq_bipush C (v := 63) d_N_allows_29 (by decide) ?_
        refine gq_icmp_lt C (tgt := 38) d_N_allows_31 rfl (fun hb31 => ?_) (fun hb31 => ?_)
        · skip
          refine gq_iconst C (v := 0) d_N_allows_38 (by decide) ?_
          exact gq_zretE C hr (by decide) (by unfold f_al; simp [*]) rfl rfl (by decide) (by decide) d_N_allows_39
        · skip
          refine gq_iconst C (v := 1) d_N_allows_34 (by decide) ?_
          refine gq_goto C (tgt := 39) d_N_allows_35 rfl ?_
          exact gq_zretE C hr (by decide) (by unfold f_al; simp [*]) rfl rfl (by decide) (by decide) d_N_allows_39

def f_copy (V : qV) (j : Nat) : qV := qu (qu (qu V 2 j (va_cpy (V 2 0) (V 2 j) 0 0 8)) 3 j (va_cpy (V 3 0) (V 3 j) 0 0 16)) 4 j (va_cpy (V 4 0) (V 4 j) 0 0 16)

set_option maxHeartbeats 4000000 in
set_option maxRecDepth 100000 in
theorem c_L_copyFrom (l : Launch) (Z : qZ) (hZ : qok (pX Z)) (V : qV) (Y : qY) (j : Nat) (hj : j < 10) : CT l y_L_copyFrom { frames := 1, cells := 0, slots := 0, locals := 60 } (pX Z) (qA (pX Z)) [.ref (al Z 1 j), .ref (al Z 1 0)] V Y (.inl none) (f_copy V j) Y := by
  refine CT.of (cc := b_L_copyFrom) (maxL := 2) (ret := none) hZ (by decide) w_358 (Nat.le_of_ble_eq_true rfl) ?_
  intro p e s m below meth c C hr hex hlt
  refine gq_aload_n C d_L_copyFrom_0 rfl ?_
  refine gq_get C (g := 1) (j := 0) (ci := 5) (k := 0) (v := .ref (al Z 2 0)) (qm (by decide) (by decide)) rfl rfl in_L (by decide) w_33 rfl d_L_copyFrom_1 ?_
  refine gq_iconst C (v := 0) d_L_copyFrom_4 (by decide) ?_
  refine gq_aload_n C d_L_copyFrom_5 rfl ?_
  refine gq_get C (g := 1) (j := j) (ci := 5) (k := 0) (v := .ref (al Z 2 j)) (qm (by decide) hj) rfl rfl in_L (by decide) w_33 rfl d_L_copyFrom_6 ?_
  refine gq_iconst C (v := 0) d_L_copyFrom_9 (by decide) ?_
  refine gq_bipush C (v := 8) d_L_copyFrom_10 (by decide) ?_
  refine gq_copyi C (fun _ h => h) (g0 := 2) (j0 := 0) (g1 := 2) (j1 := j) (t0 := 0) (sp := 0) (dp := 0) (n := 8) w_359 w_361 w_360 w_15 (qm (by decide) (by decide)) (qm (by decide) hj) rfl (fun _ => rfl) rfl rfl rfl rfl (by decide) (by decide) (by decide) (by decide) (by decide) (by decide) d_L_copyFrom_12 ?_
  refine gq_aload_n C d_L_copyFrom_15 rfl ?_
  refine gq_get C (g := 1) (j := 0) (ci := 5) (k := 1) (v := .ref (al Z 3 0)) (qm (by decide) (by decide)) rfl rfl in_L (by decide) w_35 rfl d_L_copyFrom_16 ?_
  refine gq_iconst C (v := 0) d_L_copyFrom_19 (by decide) ?_
  refine gq_aload_n C d_L_copyFrom_20 rfl ?_
  refine gq_get C (g := 1) (j := j) (ci := 5) (k := 1) (v := .ref (al Z 3 j)) (qm (by decide) hj) rfl rfl in_L (by decide) w_35 rfl d_L_copyFrom_21 ?_
  refine gq_iconst C (v := 0) d_L_copyFrom_24 (by decide) ?_
  refine gq_bipush C (v := 16) d_L_copyFrom_25 (by decide) ?_
  refine gq_copyi C (fun _ h => h) (g0 := 3) (j0 := 0) (g1 := 3) (j1 := j) (t0 := 0) (sp := 0) (dp := 0) (n := 16) w_359 w_361 w_360 w_15 (qm (by decide) (by decide)) (qm (by decide) hj) rfl (fun _ => rfl) rfl rfl rfl rfl (by decide) (by decide) (by decide) (by decide) (by decide) (by decide) d_L_copyFrom_27 ?_
  refine gq_aload_n C d_L_copyFrom_30 rfl ?_
  refine gq_get C (g := 1) (j := 0) (ci := 5) (k := 2) (v := .ref (al Z 4 0)) (qm (by decide) (by decide)) rfl rfl in_L (by decide) w_37 rfl d_L_copyFrom_31 ?_
  refine gq_iconst C (v := 0) d_L_copyFrom_34 (by decide) ?_
  refine gq_aload_n C d_L_copyFrom_35 rfl ?_
  refine gq_get C (g := 1) (j := j) (ci := 5) (k := 2) (v := .ref (al Z 4 j)) (qm (by decide) hj) rfl rfl in_L (by decide) w_37 rfl d_L_copyFrom_36 ?_
  refine gq_iconst C (v := 0) d_L_copyFrom_39 (by decide) ?_
  refine gq_bipush C (v := 16) d_L_copyFrom_40 (by decide) ?_
  refine gq_copyi C (fun _ h => h) (g0 := 4) (j0 := 0) (g1 := 4) (j1 := j) (t0 := 0) (sp := 0) (dp := 0) (n := 16) w_359 w_361 w_360 w_15 (qm (by decide) (by decide)) (qm (by decide) hj) rfl (fun _ => rfl) rfl rfl rfl rfl (by decide) (by decide) (by decide) (by decide) (by decide) (by decide) d_L_copyFrom_42 ?_
  exact gq_vretE C hr (by rfl) rfl (by decide) (by decide) d_L_copyFrom_45

set_option maxHeartbeats 4000000 in
set_option maxRecDepth 100000 in
theorem c_T_takeBook (l : Launch) (Z : qZ) (hZ : qok (pX Z)) (V : qV) (Y : qY) (j : Nat) (hj : j < 4) (b : Int32) : CT l y_T_takeBook { frames := 1, cells := 0, slots := 0, locals := 40 } (pX Z) (qA (pX Z)) [.ref (al Z 7 j), .int b] V Y (.inl none) (if b = V 7 j 1 + 1 then qv V 7 j 1 b else V) Y := by
  refine CT.of (cc := b_T_takeBook) (maxL := 2) (ret := none) hZ (by decide) w_512 (Nat.le_of_ble_eq_true rfl) ?_
  intro p e s m below meth c C hr hex hlt
  refine gq_iload_n C d_T_takeBook_0 rfl ?_
  refine gq_aload_n C d_T_takeBook_1 rfl ?_
  refine gq_get C (g := 7) (j := j) (ci := 6) (k := 1) (v := .int (V 7 j 1)) (qm (by decide) hj) rfl rfl in_T (by decide) w_71 rfl d_T_takeBook_2 ?_
  refine gq_iconst C (v := 1) d_T_takeBook_5 (by decide) ?_
  refine gq_iadd C d_T_takeBook_6 ?_
  refine gq_icmp_ne C (tgt := 15) d_T_takeBook_7 rfl (fun hb7 => ?_) (fun hb7 => ?_)
  · skip
    exact gq_vretE C hr (by simp [*]) rfl (by decide) (by decide) d_T_takeBook_15
  · skip
    refine gq_aload_n C d_T_takeBook_10 rfl ?_
    refine gq_iload_n C d_T_takeBook_11 rfl ?_
    refine gq_put C (fun _ h => h) (g := 7) (j := j) (ci := 6) (k := 1) ft_T k_T n_T (qm (by decide) hj) rfl rfl in_T (by decide) w_71 rfl (k_T 1 (by decide)) rfl rfl (Nat.le_of_ble_eq_true rfl) rfl d_T_takeBook_12 ?_
    exact gq_vretE C hr (by simp [*]) rfl (by decide) (by decide) d_T_takeBook_15

set_option maxHeartbeats 4000000 in
set_option maxRecDepth 100000 in
theorem c_T_endAsking (l : Launch) (Z : qZ) (hZ : qok (pX Z)) (V : qV) (Y : qY) (j : Nat) (hj : j < 4) : CT l y_T_endAsking { frames := 1, cells := 0, slots := 0, locals := 40 } (pX Z) (qA (pX Z)) [.ref (al Z 7 j)] V Y (.inl none) (qv (qv V 7 j 5 1) 7 j 6 0) Y := by
  refine CT.of (cc := b_T_endAsking) (maxL := 1) (ret := none) hZ (by decide) w_458 (Nat.le_of_ble_eq_true rfl) ?_
  intro p e s m below meth c C hr hex hlt
  refine gq_aload_n C d_T_endAsking_0 rfl ?_
  refine gq_iconst C (v := 1) d_T_endAsking_1 (by decide) ?_
  refine gq_put C (fun _ h => h) (g := 7) (j := j) (ci := 6) (k := 5) ft_T k_T n_T (qm (by decide) hj) rfl rfl in_T (by decide) w_78 rfl (k_T 5 (by decide)) rfl rfl (Nat.le_of_ble_eq_true rfl) rfl d_T_endAsking_2 ?_
  refine gq_aload_n C d_T_endAsking_5 rfl ?_
  refine gq_iconst C (v := 0) d_T_endAsking_6 (by decide) ?_
  refine gq_put C (fun _ h => h) (g := 7) (j := j) (ci := 6) (k := 6) ft_T k_T n_T (qm (by decide) hj) rfl rfl in_T (by decide) w_80 rfl (k_T 6 (by decide)) rfl rfl (Nat.le_of_ble_eq_true rfl) rfl d_T_endAsking_7 ?_
  exact gq_vret C hr (by decide) (by decide) d_T_endAsking_10

set_option maxHeartbeats 4000000 in
set_option maxRecDepth 100000 in
theorem c_T_takeGrant (l : Launch) (Z : qZ) (hZ : qok (pX Z)) (V : qV) (Y : qY) (j : Nat) (hj : j < 4) (a b : Int32) : CT l y_T_takeGrant { frames := 1, cells := 0, slots := 0, locals := 40 } (pX Z) (qA (pX Z)) [.ref (al Z 7 j), .int a, .int b] V Y (.inl none) (if a = V 7 j 3 ∧ V 7 j 5 = 0 then qv V 7 j 6 b else V) Y := by
  refine CT.of (cc := b_T_takeGrant) (maxL := 3) (ret := none) hZ (by decide) w_516 (Nat.le_of_ble_eq_true rfl) ?_
  intro p e s m below meth c C hr hex hlt
  refine gq_iload_n C d_T_takeGrant_0 rfl ?_
  refine gq_aload_n C d_T_takeGrant_1 rfl ?_
  refine gq_get C (g := 7) (j := j) (ci := 6) (k := 3) (v := .int (V 7 j 3)) (qm (by decide) hj) rfl rfl in_T (by decide) w_75 rfl d_T_takeGrant_2 ?_
  refine gq_icmp_ne C (tgt := 20) d_T_takeGrant_5 rfl (fun hb5 => ?_) (fun hb5 => ?_)
  · skip
    exact gq_vretE C hr (by simp [*]) rfl (by decide) (by decide) d_T_takeGrant_20
  · skip
    refine gq_aload_n C d_T_takeGrant_8 rfl ?_
    refine gq_get C (g := 7) (j := j) (ci := 6) (k := 5) (v := .int (V 7 j 5)) (qm (by decide) hj) rfl rfl in_T (by decide) w_78 rfl d_T_takeGrant_9 ?_
    refine gq_if_ne C (tgt := 20) d_T_takeGrant_12 rfl (fun hb12 => ?_) (fun hb12 => ?_)
    · skip
      exact gq_vretE C hr (by simp [*]) rfl (by decide) (by decide) d_T_takeGrant_20
    · skip
      refine gq_aload_n C d_T_takeGrant_15 rfl ?_
      refine gq_iload_n C d_T_takeGrant_16 rfl ?_
      refine gq_put C (fun _ h => h) (g := 7) (j := j) (ci := 6) (k := 6) ft_T k_T n_T (qm (by decide) hj) rfl rfl in_T (by decide) w_80 rfl (k_T 6 (by decide)) rfl rfl (Nat.le_of_ble_eq_true rfl) rfl d_T_takeGrant_17 ?_
      exact gq_vretE C hr (by simp [*]) rfl (by decide) (by decide) d_T_takeGrant_20

set_option maxHeartbeats 4000000 in
set_option maxRecDepth 100000 in
theorem c_T_beginAsking (l : Launch) (Z : qZ) (hZ : qok (pX Z)) (V : qV) (Y : qY) (j : Nat) (hj : j < 4) : CT l y_T_beginAsking { frames := 2, cells := 0, slots := 0, locals := 60 } (pX Z) (qA (pX Z)) [.ref (al Z 7 j)] V Y (.inl (some (.int ((V 7 j 3) + 1)))) (qv (qv (qv (qv V 7 j 3 ((V 7 j 3) + 1)) 7 j 4 (V 8 j 0 / 100)) 7 j 5 0) 7 j 6 0) Y := by
  refine CT.of (cc := b_T_beginAsking) (maxL := 1) (ret := (some .int)) hZ (by decide) w_446 (Nat.le_of_ble_eq_true rfl) ?_
  intro p e s m below meth c C hr hex hlt
  refine gq_aload_n C d_T_beginAsking_0 rfl ?_
  refine gq_dup C d_T_beginAsking_1 rfl ?_
  refine gq_get C (g := 7) (j := j) (ci := 6) (k := 3) (v := .int (V 7 j 3)) (qm (by decide) hj) rfl rfl in_T (by decide) w_75 rfl d_T_beginAsking_2 ?_
  refine gq_iconst C (v := 1) d_T_beginAsking_5 (by decide) ?_
  refine gq_iadd C d_T_beginAsking_6 ?_
  refine gq_put C (fun _ h => h) (g := 7) (j := j) (ci := 6) (k := 3) ft_T k_T n_T (qm (by decide) hj) rfl rfl in_T (by decide) w_75 rfl (k_T 3 (by decide)) rfl rfl (Nat.le_of_ble_eq_true rfl) rfl d_T_beginAsking_7 ?_
  refine gq_aload_n C d_T_beginAsking_10 rfl ?_
  refine gq_aload_n C d_T_beginAsking_11 rfl ?_
  refine gq_get C (g := 7) (j := j) (ci := 6) (k := 0) (v := .ref (al Z 8 j)) (qm (by decide) hj) rfl rfl in_T (by decide) w_69 rfl d_T_beginAsking_12 ?_
  refine gq_callV C (st := [.ref (al Z 7 j)]) (fun _ h => h.elim) (c_C_shown l Z hZ _ Y j (Nat.lt_trans hj (by decide))) (qm (by decide) (Nat.lt_trans hj (by decide))) rfl rfl w_447 w_390 w_391 w_392 w_4 ⟨by decide, by decide, (by decide +kernel : (parseMethodDescriptor y_C_shown.desc).map (fun d => d.parameters.length) = some 0)⟩ ⟨by decide, by decide⟩ ⟨by decide, by decide⟩ rfl (Nat.le_of_ble_eq_true rfl) d_T_beginAsking_15 ?_
  refine G.eqS (st' := [.int (V 8 j 0 / 100), .ref (al Z 7 j)]) rfl ?_
  refine gq_put C (fun _ h => h) (g := 7) (j := j) (ci := 6) (k := 4) ft_T k_T n_T (qm (by decide) hj) rfl rfl in_T (by decide) w_77 rfl (k_T 4 (by decide)) rfl rfl (Nat.le_of_ble_eq_true rfl) rfl d_T_beginAsking_18 ?_
  refine gq_aload_n C d_T_beginAsking_21 rfl ?_
  refine gq_iconst C (v := 0) d_T_beginAsking_22 (by decide) ?_
  refine gq_put C (fun _ h => h) (g := 7) (j := j) (ci := 6) (k := 5) ft_T k_T n_T (qm (by decide) hj) rfl rfl in_T (by decide) w_78 rfl (k_T 5 (by decide)) rfl rfl (Nat.le_of_ble_eq_true rfl) rfl d_T_beginAsking_23 ?_
  refine gq_aload_n C d_T_beginAsking_26 rfl ?_
  refine gq_iconst C (v := 0) d_T_beginAsking_27 (by decide) ?_
  refine gq_put C (fun _ h => h) (g := 7) (j := j) (ci := 6) (k := 6) ft_T k_T n_T (qm (by decide) hj) rfl rfl in_T (by decide) w_80 rfl (k_T 6 (by decide)) rfl rfl (Nat.le_of_ble_eq_true rfl) rfl d_T_beginAsking_28 ?_
  refine gq_aload_n C d_T_beginAsking_31 rfl ?_
  refine gq_get C (g := 7) (j := j) (ci := 6) (k := 3) (v := .int ((V 7 j 3) + 1)) (qm (by decide) hj) rfl rfl in_T (by decide) w_75 (by simp [qv_at]) d_T_beginAsking_32 ?_
  exact gq_iret C hr (by decide) (by decide) d_T_beginAsking_35

def f_lease (V : qV) (j : Nat) : Int32 := if ¬ 60 ≤ V 8 j 0 / 100 - V 7 j 4 ∧ ¬ V 7 j 1 < V 7 j 6 ∧ V 7 j 2 ≤ V 7 j 6 then V 7 j 6 else 0

set_option maxHeartbeats 4000000 in
set_option maxRecDepth 100000 in
theorem c_T_validLease (l : Launch) (Z : qZ) (hZ : qok (pX Z)) (V : qV) (Y : qY) (j : Nat) (hj : j < 4) : CT l y_T_validLease { frames := 2, cells := 0, slots := 0, locals := 60 } (pX Z) qN [.ref (al Z 7 j)] V Y (.inl (some (.int (f_lease V j)))) V Y := by
  refine CT.of (cc := b_T_validLease) (maxL := 4) (ret := (some .int)) hZ (by decide) w_469 (Nat.le_of_ble_eq_true rfl) ?_
  intro p e s m below meth c C hr hex hlt
  refine gq_aload_n C d_T_validLease_0 rfl ?_
  refine gq_get C (g := 7) (j := j) (ci := 6) (k := 0) (v := .ref (al Z 8 j)) (qm (by decide) hj) rfl rfl in_T (by decide) w_69 rfl d_T_validLease_1 ?_
  refine gq_callV C (st := []) (fun _ h => h) (c_C_shown l Z hZ V Y j (Nat.lt_trans hj (by decide))) (qm (by decide) (Nat.lt_trans hj (by decide))) rfl rfl w_447 w_390 w_391 w_392 w_4 ⟨by decide, by decide, (by decide +kernel : (parseMethodDescriptor y_C_shown.desc).map (fun d => d.parameters.length) = some 0)⟩ ⟨by decide, by decide⟩ ⟨by decide, by decide⟩ rfl (Nat.le_of_ble_eq_true rfl) d_T_validLease_4 ?_
  refine gq_aload_n C d_T_validLease_7 rfl ?_
  refine gq_get C (g := 7) (j := j) (ci := 6) (k := 4) (v := .int (V 7 j 4)) (qm (by decide) hj) rfl rfl in_T (by decide) w_77 rfl d_T_validLease_8 ?_
  refine gq_isub C d_T_validLease_11 ?_
  refine gq_bipush C (v := 60) d_T_validLease_12 (by decide) ?_
  refine gq_icmp_ge C (tgt := 21) d_T_validLease_14 rfl (fun hb14 => ?_) (fun hb14 => ?_)
  · skip
    refine gq_iconst C (v := 0) d_T_validLease_21 (by decide) ?_
    refine gq_istore_n C (lo' := [(1, .int 0), (0, .ref (al Z 7 j))]) d_T_validLease_22 rfl (by decide) rfl ?_
    refine gq_aload_n C d_T_validLease_23 rfl ?_
    refine gq_get C (g := 7) (j := j) (ci := 6) (k := 6) (v := .int (V 7 j 6)) (qm (by decide) hj) rfl rfl in_T (by decide) w_80 rfl d_T_validLease_24 ?_
    refine gq_aload_n C d_T_validLease_27 rfl ?_
    refine gq_get C (g := 7) (j := j) (ci := 6) (k := 1) (v := .int (V 7 j 1)) (qm (by decide) hj) rfl rfl in_T (by decide) w_71 rfl d_T_validLease_28 ?_
    refine gq_icmp_gt C (tgt := 38) d_T_validLease_31 rfl (fun hb31 => ?_) (fun hb31 => ?_)
    · skip
      refine gq_iconst C (v := 0) d_T_validLease_38 (by decide) ?_
      refine gq_istore_n C (lo' := [(2, .int 0), (1, .int 0), (0, .ref (al Z 7 j))]) d_T_validLease_39 rfl (by decide) rfl ?_
      refine gq_aload_n C d_T_validLease_40 rfl ?_
      refine gq_get C (g := 7) (j := j) (ci := 6) (k := 2) (v := .int (V 7 j 2)) (qm (by decide) hj) rfl rfl in_T (by decide) w_73 rfl d_T_validLease_41 ?_
      refine gq_aload_n C d_T_validLease_44 rfl ?_
      refine gq_get C (g := 7) (j := j) (ci := 6) (k := 6) (v := .int (V 7 j 6)) (qm (by decide) hj) rfl rfl in_T (by decide) w_80 rfl d_T_validLease_45 ?_
      refine gq_icmp_le C (tgt := 55) d_T_validLease_48 rfl (fun hb48 => ?_) (fun hb48 => ?_)
      · skip
        refine gq_iconst C (v := 0) d_T_validLease_55 (by decide) ?_
        refine gq_istore_n C (lo' := [(3, .int 0), (2, .int 0), (1, .int 0), (0, .ref (al Z 7 j))]) d_T_validLease_56 rfl (by decide) rfl ?_
        refine gq_iload_n C d_T_validLease_57 rfl ?_
        refine gq_if_eq C (tgt := 76) d_T_validLease_58 rfl (fun hb58 => ?_) (fun hb => by first | contradiction | exact absurd hb (by decide))
        refine gq_iconst C (v := 0) d_T_validLease_76 (by decide) ?_
        exact gq_iretE C hr (by unfold f_lease; first | (rw [if_pos ⟨by assumption, by assumption, by assumption⟩]) | (rw [if_neg (by rintro ⟨h1, h2, h3⟩; contradiction)])) rfl rfl (by decide) (by decide) d_T_validLease_77
      · skip
        refine gq_iconst C (v := 1) d_T_validLease_51 (by decide) ?_
        refine gq_goto C (tgt := 56) d_T_validLease_52 rfl ?_
        refine gq_istore_n C (lo' := [(3, .int 1), (2, .int 0), (1, .int 0), (0, .ref (al Z 7 j))]) d_T_validLease_56 rfl (by decide) rfl ?_
        refine gq_iload_n C d_T_validLease_57 rfl ?_
        refine gq_if_eq C (tgt := 76) d_T_validLease_58 rfl (fun hb58 => ?_) (fun hb => by first | contradiction | exact absurd hb (by decide))
        refine gq_iconst C (v := 0) d_T_validLease_76 (by decide) ?_
        exact gq_iretE C hr (by unfold f_lease; first | (rw [if_pos ⟨by assumption, by assumption, by assumption⟩]) | (rw [if_neg (by rintro ⟨h1, h2, h3⟩; contradiction)])) rfl rfl (by decide) (by decide) d_T_validLease_77
    · skip
      refine gq_iconst C (v := 1) d_T_validLease_34 (by decide) ?_
      refine gq_goto C (tgt := 39) d_T_validLease_35 rfl ?_
      refine gq_istore_n C (lo' := [(2, .int 1), (1, .int 0), (0, .ref (al Z 7 j))]) d_T_validLease_39 rfl (by decide) rfl ?_
      refine gq_aload_n C d_T_validLease_40 rfl ?_
      refine gq_get C (g := 7) (j := j) (ci := 6) (k := 2) (v := .int (V 7 j 2)) (qm (by decide) hj) rfl rfl in_T (by decide) w_73 rfl d_T_validLease_41 ?_
      refine gq_aload_n C d_T_validLease_44 rfl ?_
      refine gq_get C (g := 7) (j := j) (ci := 6) (k := 6) (v := .int (V 7 j 6)) (qm (by decide) hj) rfl rfl in_T (by decide) w_80 rfl d_T_validLease_45 ?_
      refine gq_icmp_le C (tgt := 55) d_T_validLease_48 rfl (fun hb48 => ?_) (fun hb48 => ?_)
      · skip
        refine gq_iconst C (v := 0) d_T_validLease_55 (by decide) ?_
        refine gq_istore_n C (lo' := [(3, .int 0), (2, .int 1), (1, .int 0), (0, .ref (al Z 7 j))]) d_T_validLease_56 rfl (by decide) rfl ?_
        refine gq_iload_n C d_T_validLease_57 rfl ?_
        refine gq_if_eq C (tgt := 76) d_T_validLease_58 rfl (fun hb58 => ?_) (fun hb => by first | contradiction | exact absurd hb (by decide))
        refine gq_iconst C (v := 0) d_T_validLease_76 (by decide) ?_
        exact gq_iretE C hr (by unfold f_lease; first | (rw [if_pos ⟨by assumption, by assumption, by assumption⟩]) | (rw [if_neg (by rintro ⟨h1, h2, h3⟩; contradiction)])) rfl rfl (by decide) (by decide) d_T_validLease_77
      · skip
        refine gq_iconst C (v := 1) d_T_validLease_51 (by decide) ?_
        refine gq_goto C (tgt := 56) d_T_validLease_52 rfl ?_
        refine gq_istore_n C (lo' := [(3, .int 1), (2, .int 1), (1, .int 0), (0, .ref (al Z 7 j))]) d_T_validLease_56 rfl (by decide) rfl ?_
        refine gq_iload_n C d_T_validLease_57 rfl ?_
        refine gq_if_eq C (tgt := 76) d_T_validLease_58 rfl (fun hb58 => ?_) (fun hb => by first | contradiction | exact absurd hb (by decide))
        refine gq_iconst C (v := 0) d_T_validLease_76 (by decide) ?_
        exact gq_iretE C hr (by unfold f_lease; first | (rw [if_pos ⟨by assumption, by assumption, by assumption⟩]) | (rw [if_neg (by rintro ⟨h1, h2, h3⟩; contradiction)])) rfl rfl (by decide) (by decide) d_T_validLease_77
  · skip
    refine gq_iconst C (v := 1) d_T_validLease_17 (by decide) ?_
    refine gq_goto C (tgt := 22) d_T_validLease_18 rfl ?_
    refine gq_istore_n C (lo' := [(1, .int 1), (0, .ref (al Z 7 j))]) d_T_validLease_22 rfl (by decide) rfl ?_
    refine gq_aload_n C d_T_validLease_23 rfl ?_
    refine gq_get C (g := 7) (j := j) (ci := 6) (k := 6) (v := .int (V 7 j 6)) (qm (by decide) hj) rfl rfl in_T (by decide) w_80 rfl d_T_validLease_24 ?_
    refine gq_aload_n C d_T_validLease_27 rfl ?_
    refine gq_get C (g := 7) (j := j) (ci := 6) (k := 1) (v := .int (V 7 j 1)) (qm (by decide) hj) rfl rfl in_T (by decide) w_71 rfl d_T_validLease_28 ?_
    refine gq_icmp_gt C (tgt := 38) d_T_validLease_31 rfl (fun hb31 => ?_) (fun hb31 => ?_)
    · skip
      refine gq_iconst C (v := 0) d_T_validLease_38 (by decide) ?_
      refine gq_istore_n C (lo' := [(2, .int 0), (1, .int 1), (0, .ref (al Z 7 j))]) d_T_validLease_39 rfl (by decide) rfl ?_
      refine gq_aload_n C d_T_validLease_40 rfl ?_
      refine gq_get C (g := 7) (j := j) (ci := 6) (k := 2) (v := .int (V 7 j 2)) (qm (by decide) hj) rfl rfl in_T (by decide) w_73 rfl d_T_validLease_41 ?_
      refine gq_aload_n C d_T_validLease_44 rfl ?_
      refine gq_get C (g := 7) (j := j) (ci := 6) (k := 6) (v := .int (V 7 j 6)) (qm (by decide) hj) rfl rfl in_T (by decide) w_80 rfl d_T_validLease_45 ?_
      refine gq_icmp_le C (tgt := 55) d_T_validLease_48 rfl (fun hb48 => ?_) (fun hb48 => ?_)
      · skip
        refine gq_iconst C (v := 0) d_T_validLease_55 (by decide) ?_
        refine gq_istore_n C (lo' := [(3, .int 0), (2, .int 0), (1, .int 1), (0, .ref (al Z 7 j))]) d_T_validLease_56 rfl (by decide) rfl ?_
        refine gq_iload_n C d_T_validLease_57 rfl ?_
        refine gq_if_eq C (tgt := 76) d_T_validLease_58 rfl (fun hb => by first | contradiction | exact absurd hb (by decide)) (fun hb58 => ?_)
        refine gq_iload_n C d_T_validLease_61 rfl ?_
        refine gq_if_eq C (tgt := 76) d_T_validLease_62 rfl (fun hb62 => ?_) (fun hb => by first | contradiction | exact absurd hb (by decide))
        refine gq_iconst C (v := 0) d_T_validLease_76 (by decide) ?_
        exact gq_iretE C hr (by unfold f_lease; first | (rw [if_pos ⟨by assumption, by assumption, by assumption⟩]) | (rw [if_neg (by rintro ⟨h1, h2, h3⟩; contradiction)])) rfl rfl (by decide) (by decide) d_T_validLease_77
      · skip
        refine gq_iconst C (v := 1) d_T_validLease_51 (by decide) ?_
        refine gq_goto C (tgt := 56) d_T_validLease_52 rfl ?_
        refine gq_istore_n C (lo' := [(3, .int 1), (2, .int 0), (1, .int 1), (0, .ref (al Z 7 j))]) d_T_validLease_56 rfl (by decide) rfl ?_
        refine gq_iload_n C d_T_validLease_57 rfl ?_
        refine gq_if_eq C (tgt := 76) d_T_validLease_58 rfl (fun hb => by first | contradiction | exact absurd hb (by decide)) (fun hb58 => ?_)
        refine gq_iload_n C d_T_validLease_61 rfl ?_
        refine gq_if_eq C (tgt := 76) d_T_validLease_62 rfl (fun hb62 => ?_) (fun hb => by first | contradiction | exact absurd hb (by decide))
        refine gq_iconst C (v := 0) d_T_validLease_76 (by decide) ?_
        exact gq_iretE C hr (by unfold f_lease; first | (rw [if_pos ⟨by assumption, by assumption, by assumption⟩]) | (rw [if_neg (by rintro ⟨h1, h2, h3⟩; contradiction)])) rfl rfl (by decide) (by decide) d_T_validLease_77
    · skip
      refine gq_iconst C (v := 1) d_T_validLease_34 (by decide) ?_
      refine gq_goto C (tgt := 39) d_T_validLease_35 rfl ?_
      refine gq_istore_n C (lo' := [(2, .int 1), (1, .int 1), (0, .ref (al Z 7 j))]) d_T_validLease_39 rfl (by decide) rfl ?_
      refine gq_aload_n C d_T_validLease_40 rfl ?_
      refine gq_get C (g := 7) (j := j) (ci := 6) (k := 2) (v := .int (V 7 j 2)) (qm (by decide) hj) rfl rfl in_T (by decide) w_73 rfl d_T_validLease_41 ?_
      refine gq_aload_n C d_T_validLease_44 rfl ?_
      refine gq_get C (g := 7) (j := j) (ci := 6) (k := 6) (v := .int (V 7 j 6)) (qm (by decide) hj) rfl rfl in_T (by decide) w_80 rfl d_T_validLease_45 ?_
      refine gq_icmp_le C (tgt := 55) d_T_validLease_48 rfl (fun hb48 => ?_) (fun hb48 => ?_)
      · skip
        refine gq_iconst C (v := 0) d_T_validLease_55 (by decide) ?_
        refine gq_istore_n C (lo' := [(3, .int 0), (2, .int 1), (1, .int 1), (0, .ref (al Z 7 j))]) d_T_validLease_56 rfl (by decide) rfl ?_
        refine gq_iload_n C d_T_validLease_57 rfl ?_
        refine gq_if_eq C (tgt := 76) d_T_validLease_58 rfl (fun hb => by first | contradiction | exact absurd hb (by decide)) (fun hb58 => ?_)
        refine gq_iload_n C d_T_validLease_61 rfl ?_
        refine gq_if_eq C (tgt := 76) d_T_validLease_62 rfl (fun hb => by first | contradiction | exact absurd hb (by decide)) (fun hb62 => ?_)
        refine gq_iload_n C d_T_validLease_65 rfl ?_
        refine gq_if_ne C (tgt := 76) d_T_validLease_66 rfl (fun hb => by first | contradiction | exact absurd hb (by decide)) (fun hb66 => ?_)
        refine gq_aload_n C d_T_validLease_69 rfl ?_
        refine gq_get C (g := 7) (j := j) (ci := 6) (k := 6) (v := .int (V 7 j 6)) (qm (by decide) hj) rfl rfl in_T (by decide) w_80 rfl d_T_validLease_70 ?_
        refine gq_goto C (tgt := 77) d_T_validLease_73 rfl ?_
        exact gq_iretE C hr (by unfold f_lease; first | (rw [if_pos ⟨by assumption, by assumption, by assumption⟩]) | (rw [if_neg (by rintro ⟨h1, h2, h3⟩; contradiction)])) rfl rfl (by decide) (by decide) d_T_validLease_77
      · skip
        refine gq_iconst C (v := 1) d_T_validLease_51 (by decide) ?_
        refine gq_goto C (tgt := 56) d_T_validLease_52 rfl ?_
        refine gq_istore_n C (lo' := [(3, .int 1), (2, .int 1), (1, .int 1), (0, .ref (al Z 7 j))]) d_T_validLease_56 rfl (by decide) rfl ?_
        refine gq_iload_n C d_T_validLease_57 rfl ?_
        refine gq_if_eq C (tgt := 76) d_T_validLease_58 rfl (fun hb => by first | contradiction | exact absurd hb (by decide)) (fun hb58 => ?_)
        refine gq_iload_n C d_T_validLease_61 rfl ?_
        refine gq_if_eq C (tgt := 76) d_T_validLease_62 rfl (fun hb => by first | contradiction | exact absurd hb (by decide)) (fun hb62 => ?_)
        refine gq_iload_n C d_T_validLease_65 rfl ?_
        refine gq_if_ne C (tgt := 76) d_T_validLease_66 rfl (fun hb66 => ?_) (fun hb => by first | contradiction | exact absurd hb (by decide))
        refine gq_iconst C (v := 0) d_T_validLease_76 (by decide) ?_
        exact gq_iretE C hr (by unfold f_lease; first | (rw [if_pos ⟨by assumption, by assumption, by assumption⟩]) | (rw [if_neg (by rintro ⟨h1, h2, h3⟩; contradiction)])) rfl rfl (by decide) (by decide) d_T_validLease_77
