/-! PriceHouse: the tills, the letters, the baskets -/
theorem f_cnt2 {V V' : qV} (h : ∃ q, q ≤ 40 ∧ V 12 0 4 = nI q) (e : V' 12 0 4 = V 12 0 4) : ∃ q, q ≤ 40 ∧ V' 12 0 4 = nI q := by
  rw [e]
  exact h

theorem d_H_ready_0 : decode b_H_ready 0 = .ok (.iload_n 1, 1) := by decide +kernel
theorem d_H_ready_1 : decode b_H_ready 1 = .ok (.invokestatic 126, 3) := by decide +kernel
theorem d_H_ready_4 : decode b_H_ready 4 = .ok (.aload_n 0, 1) := by decide +kernel
theorem d_H_ready_5 : decode b_H_ready 5 = .ok (.getfield 22, 3) := by decide +kernel
theorem d_H_ready_8 : decode b_H_ready 8 = .ok (.iload_n 1, 1) := by decide +kernel
theorem d_H_ready_9 : decode b_H_ready 9 = .ok (.aaload, 1) := by decide +kernel
theorem d_H_ready_10 : decode b_H_ready 10 = .ok (.getfield 129, 3) := by decide +kernel
theorem d_H_ready_13 : decode b_H_ready 13 = .ok (.istore_n 2, 1) := by decide +kernel
theorem d_H_ready_14 : decode b_H_ready 14 = .ok (.iload_n 2, 1) := by decide +kernel
theorem d_H_ready_15 : decode b_H_ready 15 = .ok (.ifCond .ne 11, 3) := by decide +kernel
theorem d_H_ready_18 : decode b_H_ready 18 = .ok (.new 82, 3) := by decide +kernel
theorem d_H_ready_21 : decode b_H_ready 21 = .ok (.dup, 1) := by decide +kernel
theorem d_H_ready_22 : decode b_H_ready 22 = .ok (.invokespecial 84, 3) := by decide +kernel
theorem d_H_ready_25 : decode b_H_ready 25 = .ok (.athrow, 1) := by decide +kernel
theorem d_H_ready_26 : decode b_H_ready 26 = .ok (.aload_n 0, 1) := by decide +kernel
theorem d_H_ready_27 : decode b_H_ready 27 = .ok (.getfield 22, 3) := by decide +kernel
theorem d_H_ready_30 : decode b_H_ready 30 = .ok (.iload_n 1, 1) := by decide +kernel
theorem d_H_ready_31 : decode b_H_ready 31 = .ok (.aaload, 1) := by decide +kernel
theorem d_H_ready_32 : decode b_H_ready 32 = .ok (.iload_n 2, 1) := by decide +kernel
theorem d_H_ready_33 : decode b_H_ready 33 = .ok (.putfield 132, 3) := by decide +kernel
theorem d_H_ready_36 : decode b_H_ready 36 = .ok (.aload_n 0, 1) := by decide +kernel
theorem d_H_ready_37 : decode b_H_ready 37 = .ok (.getfield 37, 3) := by decide +kernel
theorem d_H_ready_40 : decode b_H_ready 40 = .ok (.iconst 3, 1) := by decide +kernel
theorem d_H_ready_41 : decode b_H_ready 41 = .ok (.iload_n 1, 1) := by decide +kernel
theorem d_H_ready_42 : decode b_H_ready 42 = .ok (.iload_n 2, 1) := by decide +kernel
theorem d_H_ready_43 : decode b_H_ready 43 = .ok (.iconst 0, 1) := by decide +kernel
theorem d_H_ready_44 : decode b_H_ready 44 = .ok (.invokevirtual 89, 3) := by decide +kernel
theorem d_H_ready_47 : decode b_H_ready 47 = .ok (.iload_n 2, 1) := by decide +kernel
theorem d_H_ready_48 : decode b_H_ready 48 = .ok (.ireturn, 1) := by decide +kernel

theorem d_H_ask_0 : decode b_H_ask 0 = .ok (.iload_n 1, 1) := by decide +kernel
theorem d_H_ask_1 : decode b_H_ask 1 = .ok (.invokestatic 126, 3) := by decide +kernel
theorem d_H_ask_4 : decode b_H_ask 4 = .ok (.aload_n 0, 1) := by decide +kernel
theorem d_H_ask_5 : decode b_H_ask 5 = .ok (.getfield 22, 3) := by decide +kernel
theorem d_H_ask_8 : decode b_H_ask 8 = .ok (.iload_n 1, 1) := by decide +kernel
theorem d_H_ask_9 : decode b_H_ask 9 = .ok (.aaload, 1) := by decide +kernel
theorem d_H_ask_10 : decode b_H_ask 10 = .ok (.invokevirtual 135, 3) := by decide +kernel
theorem d_H_ask_13 : decode b_H_ask 13 = .ok (.istore_n 2, 1) := by decide +kernel
theorem d_H_ask_14 : decode b_H_ask 14 = .ok (.aload_n 0, 1) := by decide +kernel
theorem d_H_ask_15 : decode b_H_ask 15 = .ok (.getfield 37, 3) := by decide +kernel
theorem d_H_ask_18 : decode b_H_ask 18 = .ok (.iconst 1, 1) := by decide +kernel
theorem d_H_ask_19 : decode b_H_ask 19 = .ok (.iload_n 1, 1) := by decide +kernel
theorem d_H_ask_20 : decode b_H_ask 20 = .ok (.iconst 0, 1) := by decide +kernel
theorem d_H_ask_21 : decode b_H_ask 21 = .ok (.iload_n 2, 1) := by decide +kernel
theorem d_H_ask_22 : decode b_H_ask 22 = .ok (.invokevirtual 89, 3) := by decide +kernel
theorem d_H_ask_25 : decode b_H_ask 25 = .ok (.iload_n 2, 1) := by decide +kernel
theorem d_H_ask_26 : decode b_H_ask 26 = .ok (.ireturn, 1) := by decide +kernel

theorem d_H_giveUp_0 : decode b_H_giveUp 0 = .ok (.iload_n 1, 1) := by decide +kernel
theorem d_H_giveUp_1 : decode b_H_giveUp 1 = .ok (.invokestatic 126, 3) := by decide +kernel
theorem d_H_giveUp_4 : decode b_H_giveUp 4 = .ok (.aload_n 0, 1) := by decide +kernel
theorem d_H_giveUp_5 : decode b_H_giveUp 5 = .ok (.getfield 22, 3) := by decide +kernel
theorem d_H_giveUp_8 : decode b_H_giveUp 8 = .ok (.iload_n 1, 1) := by decide +kernel
theorem d_H_giveUp_9 : decode b_H_giveUp 9 = .ok (.aaload, 1) := by decide +kernel
theorem d_H_giveUp_10 : decode b_H_giveUp 10 = .ok (.astore_n 2, 1) := by decide +kernel
theorem d_H_giveUp_11 : decode b_H_giveUp 11 = .ok (.aload_n 2, 1) := by decide +kernel
theorem d_H_giveUp_12 : decode b_H_giveUp 12 = .ok (.getfield 138, 3) := by decide +kernel
theorem d_H_giveUp_15 : decode b_H_giveUp 15 = .ok (.ifCond .eq 10, 3) := by decide +kernel
theorem d_H_giveUp_18 : decode b_H_giveUp 18 = .ok (.aload_n 2, 1) := by decide +kernel
theorem d_H_giveUp_19 : decode b_H_giveUp 19 = .ok (.getfield 141, 3) := by decide +kernel
theorem d_H_giveUp_22 : decode b_H_giveUp 22 = .ok (.ifCond .eq 11, 3) := by decide +kernel
theorem d_H_giveUp_25 : decode b_H_giveUp 25 = .ok (.new 82, 3) := by decide +kernel
theorem d_H_giveUp_28 : decode b_H_giveUp 28 = .ok (.dup, 1) := by decide +kernel
theorem d_H_giveUp_29 : decode b_H_giveUp 29 = .ok (.invokespecial 84, 3) := by decide +kernel
theorem d_H_giveUp_32 : decode b_H_giveUp 32 = .ok (.athrow, 1) := by decide +kernel
theorem d_H_giveUp_33 : decode b_H_giveUp 33 = .ok (.aload_n 2, 1) := by decide +kernel
theorem d_H_giveUp_34 : decode b_H_giveUp 34 = .ok (.invokevirtual 145, 3) := by decide +kernel
theorem d_H_giveUp_37 : decode b_H_giveUp 37 = .ok (.aload_n 0, 1) := by decide +kernel
theorem d_H_giveUp_38 : decode b_H_giveUp 38 = .ok (.getfield 37, 3) := by decide +kernel
theorem d_H_giveUp_41 : decode b_H_giveUp 41 = .ok (.iconst 4, 1) := by decide +kernel
theorem d_H_giveUp_42 : decode b_H_giveUp 42 = .ok (.iload_n 1, 1) := by decide +kernel
theorem d_H_giveUp_43 : decode b_H_giveUp 43 = .ok (.iconst 0, 1) := by decide +kernel
theorem d_H_giveUp_44 : decode b_H_giveUp 44 = .ok (.aload_n 2, 1) := by decide +kernel
theorem d_H_giveUp_45 : decode b_H_giveUp 45 = .ok (.getfield 138, 3) := by decide +kernel
theorem d_H_giveUp_48 : decode b_H_giveUp 48 = .ok (.invokevirtual 89, 3) := by decide +kernel
theorem d_H_giveUp_51 : decode b_H_giveUp 51 = .ok (.return_, 1) := by decide +kernel

theorem d_H_lease_0 : decode b_H_lease 0 = .ok (.iload_n 1, 1) := by decide +kernel
theorem d_H_lease_1 : decode b_H_lease 1 = .ok (.invokestatic 126, 3) := by decide +kernel
theorem d_H_lease_4 : decode b_H_lease 4 = .ok (.aload_n 0, 1) := by decide +kernel
theorem d_H_lease_5 : decode b_H_lease 5 = .ok (.getfield 22, 3) := by decide +kernel
theorem d_H_lease_8 : decode b_H_lease 8 = .ok (.iload_n 1, 1) := by decide +kernel
theorem d_H_lease_9 : decode b_H_lease 9 = .ok (.aaload, 1) := by decide +kernel
theorem d_H_lease_10 : decode b_H_lease 10 = .ok (.invokevirtual 148, 3) := by decide +kernel
theorem d_H_lease_13 : decode b_H_lease 13 = .ok (.ireturn, 1) := by decide +kernel

theorem d_H_loaded_0 : decode b_H_loaded 0 = .ok (.iload_n 1, 1) := by decide +kernel
theorem d_H_loaded_1 : decode b_H_loaded 1 = .ok (.invokestatic 126, 3) := by decide +kernel
theorem d_H_loaded_4 : decode b_H_loaded 4 = .ok (.aload_n 0, 1) := by decide +kernel
theorem d_H_loaded_5 : decode b_H_loaded 5 = .ok (.getfield 22, 3) := by decide +kernel
theorem d_H_loaded_8 : decode b_H_loaded 8 = .ok (.iload_n 1, 1) := by decide +kernel
theorem d_H_loaded_9 : decode b_H_loaded 9 = .ok (.aaload, 1) := by decide +kernel
theorem d_H_loaded_10 : decode b_H_loaded 10 = .ok (.getfield 129, 3) := by decide +kernel
theorem d_H_loaded_13 : decode b_H_loaded 13 = .ok (.ireturn, 1) := by decide +kernel

theorem d_H_restart_0 : decode b_H_restart 0 = .ok (.iload_n 1, 1) := by decide +kernel
theorem d_H_restart_1 : decode b_H_restart 1 = .ok (.invokestatic 120, 3) := by decide +kernel
theorem d_H_restart_4 : decode b_H_restart 4 = .ok (.ifCond .ne 11, 3) := by decide +kernel
theorem d_H_restart_7 : decode b_H_restart 7 = .ok (.new 59, 3) := by decide +kernel
theorem d_H_restart_10 : decode b_H_restart 10 = .ok (.dup, 1) := by decide +kernel
theorem d_H_restart_11 : decode b_H_restart 11 = .ok (.invokespecial 61, 3) := by decide +kernel
theorem d_H_restart_14 : decode b_H_restart 14 = .ok (.athrow, 1) := by decide +kernel
theorem d_H_restart_15 : decode b_H_restart 15 = .ok (.iload_n 1, 1) := by decide +kernel
theorem d_H_restart_16 : decode b_H_restart 16 = .ok (.iconst 4, 1) := by decide +kernel
theorem d_H_restart_17 : decode b_H_restart 17 = .ok (.if_icmp .ne 13, 3) := by decide +kernel
theorem d_H_restart_20 : decode b_H_restart 20 = .ok (.aload_n 0, 1) := by decide +kernel
theorem d_H_restart_21 : decode b_H_restart 21 = .ok (.getfield 30, 3) := by decide +kernel
theorem d_H_restart_24 : decode b_H_restart 24 = .ok (.invokevirtual 151, 3) := by decide +kernel
theorem d_H_restart_27 : decode b_H_restart 27 = .ok (.goto 12, 3) := by decide +kernel
theorem d_H_restart_30 : decode b_H_restart 30 = .ok (.aload_n 0, 1) := by decide +kernel
theorem d_H_restart_31 : decode b_H_restart 31 = .ok (.getfield 22, 3) := by decide +kernel
theorem d_H_restart_34 : decode b_H_restart 34 = .ok (.iload_n 1, 1) := by decide +kernel
theorem d_H_restart_35 : decode b_H_restart 35 = .ok (.aaload, 1) := by decide +kernel
theorem d_H_restart_36 : decode b_H_restart 36 = .ok (.invokevirtual 145, 3) := by decide +kernel
theorem d_H_restart_39 : decode b_H_restart 39 = .ok (.return_, 1) := by decide +kernel

theorem d_H_deliver_0 : decode b_H_deliver 0 = .ok (.aload_n 0, 1) := by decide +kernel
theorem d_H_deliver_1 : decode b_H_deliver 1 = .ok (.iload_n 1, 1) := by decide +kernel
theorem d_H_deliver_2 : decode b_H_deliver 2 = .ok (.invokevirtual 154, 3) := by decide +kernel
theorem d_H_deliver_5 : decode b_H_deliver 5 = .ok (.aload_n 0, 1) := by decide +kernel
theorem d_H_deliver_6 : decode b_H_deliver 6 = .ok (.getfield 37, 3) := by decide +kernel
theorem d_H_deliver_9 : decode b_H_deliver 9 = .ok (.getfield 157, 3) := by decide +kernel
theorem d_H_deliver_12 : decode b_H_deliver 12 = .ok (.iload_n 1, 1) := by decide +kernel
theorem d_H_deliver_13 : decode b_H_deliver 13 = .ok (.iaload, 1) := by decide +kernel
theorem d_H_deliver_14 : decode b_H_deliver 14 = .ok (.istore_n 2, 1) := by decide +kernel
theorem d_H_deliver_15 : decode b_H_deliver 15 = .ok (.aload_n 0, 1) := by decide +kernel
theorem d_H_deliver_16 : decode b_H_deliver 16 = .ok (.getfield 37, 3) := by decide +kernel
theorem d_H_deliver_19 : decode b_H_deliver 19 = .ok (.getfield 160, 3) := by decide +kernel
theorem d_H_deliver_22 : decode b_H_deliver 22 = .ok (.iload_n 1, 1) := by decide +kernel
theorem d_H_deliver_23 : decode b_H_deliver 23 = .ok (.iaload, 1) := by decide +kernel
theorem d_H_deliver_24 : decode b_H_deliver 24 = .ok (.istore_n 3, 1) := by decide +kernel
theorem d_H_deliver_25 : decode b_H_deliver 25 = .ok (.aload_n 0, 1) := by decide +kernel
theorem d_H_deliver_26 : decode b_H_deliver 26 = .ok (.getfield 37, 3) := by decide +kernel
theorem d_H_deliver_29 : decode b_H_deliver 29 = .ok (.getfield 162, 3) := by decide +kernel
theorem d_H_deliver_32 : decode b_H_deliver 32 = .ok (.iload_n 1, 1) := by decide +kernel
theorem d_H_deliver_33 : decode b_H_deliver 33 = .ok (.iaload, 1) := by decide +kernel
theorem d_H_deliver_34 : decode b_H_deliver 34 = .ok (.istore 4, 2) := by decide +kernel
theorem d_H_deliver_36 : decode b_H_deliver 36 = .ok (.aload_n 0, 1) := by decide +kernel
theorem d_H_deliver_37 : decode b_H_deliver 37 = .ok (.getfield 37, 3) := by decide +kernel
theorem d_H_deliver_40 : decode b_H_deliver 40 = .ok (.getfield 164, 3) := by decide +kernel
theorem d_H_deliver_43 : decode b_H_deliver 43 = .ok (.iload_n 1, 1) := by decide +kernel
theorem d_H_deliver_44 : decode b_H_deliver 44 = .ok (.iaload, 1) := by decide +kernel
theorem d_H_deliver_45 : decode b_H_deliver 45 = .ok (.istore 5, 2) := by decide +kernel
theorem d_H_deliver_47 : decode b_H_deliver 47 = .ok (.aload_n 0, 1) := by decide +kernel
theorem d_H_deliver_48 : decode b_H_deliver 48 = .ok (.getfield 37, 3) := by decide +kernel
theorem d_H_deliver_51 : decode b_H_deliver 51 = .ok (.iload_n 1, 1) := by decide +kernel
theorem d_H_deliver_52 : decode b_H_deliver 52 = .ok (.invokevirtual 167, 3) := by decide +kernel
theorem d_H_deliver_55 : decode b_H_deliver 55 = .ok (.iload_n 2, 1) := by decide +kernel
theorem d_H_deliver_56 : decode b_H_deliver 56 = .ok (.ifCond .ne 17, 3) := by decide +kernel
theorem d_H_deliver_59 : decode b_H_deliver 59 = .ok (.aload_n 0, 1) := by decide +kernel
theorem d_H_deliver_60 : decode b_H_deliver 60 = .ok (.getfield 22, 3) := by decide +kernel
theorem d_H_deliver_63 : decode b_H_deliver 63 = .ok (.iload_n 3, 1) := by decide +kernel
theorem d_H_deliver_64 : decode b_H_deliver 64 = .ok (.aaload, 1) := by decide +kernel
theorem d_H_deliver_65 : decode b_H_deliver 65 = .ok (.iload 4, 2) := by decide +kernel
theorem d_H_deliver_67 : decode b_H_deliver 67 = .ok (.invokevirtual 170, 3) := by decide +kernel
theorem d_H_deliver_70 : decode b_H_deliver 70 = .ok (.goto 34, 3) := by decide +kernel
theorem d_H_deliver_73 : decode b_H_deliver 73 = .ok (.iload_n 2, 1) := by decide +kernel
theorem d_H_deliver_74 : decode b_H_deliver 74 = .ok (.iconst 2, 1) := by decide +kernel
theorem d_H_deliver_75 : decode b_H_deliver 75 = .ok (.if_icmp .ne 19, 3) := by decide +kernel
theorem d_H_deliver_78 : decode b_H_deliver 78 = .ok (.aload_n 0, 1) := by decide +kernel
theorem d_H_deliver_79 : decode b_H_deliver 79 = .ok (.getfield 22, 3) := by decide +kernel
theorem d_H_deliver_82 : decode b_H_deliver 82 = .ok (.iload_n 3, 1) := by decide +kernel
theorem d_H_deliver_83 : decode b_H_deliver 83 = .ok (.aaload, 1) := by decide +kernel
theorem d_H_deliver_84 : decode b_H_deliver 84 = .ok (.iload 5, 2) := by decide +kernel
theorem d_H_deliver_86 : decode b_H_deliver 86 = .ok (.iload 4, 2) := by decide +kernel
theorem d_H_deliver_88 : decode b_H_deliver 88 = .ok (.invokevirtual 173, 3) := by decide +kernel
theorem d_H_deliver_91 : decode b_H_deliver 91 = .ok (.goto 13, 3) := by decide +kernel
theorem d_H_deliver_94 : decode b_H_deliver 94 = .ok (.aload_n 0, 1) := by decide +kernel
theorem d_H_deliver_95 : decode b_H_deliver 95 = .ok (.iload_n 2, 1) := by decide +kernel
theorem d_H_deliver_96 : decode b_H_deliver 96 = .ok (.iload_n 3, 1) := by decide +kernel
theorem d_H_deliver_97 : decode b_H_deliver 97 = .ok (.iload 4, 2) := by decide +kernel
theorem d_H_deliver_99 : decode b_H_deliver 99 = .ok (.iload 5, 2) := by decide +kernel
theorem d_H_deliver_101 : decode b_H_deliver 101 = .ok (.invokevirtual 177, 3) := by decide +kernel
theorem d_H_deliver_104 : decode b_H_deliver 104 = .ok (.return_, 1) := by decide +kernel

theorem d_H_lose_0 : decode b_H_lose 0 = .ok (.aload_n 0, 1) := by decide +kernel
theorem d_H_lose_1 : decode b_H_lose 1 = .ok (.iload_n 1, 1) := by decide +kernel
theorem d_H_lose_2 : decode b_H_lose 2 = .ok (.invokevirtual 154, 3) := by decide +kernel
theorem d_H_lose_5 : decode b_H_lose 5 = .ok (.aload_n 0, 1) := by decide +kernel
theorem d_H_lose_6 : decode b_H_lose 6 = .ok (.getfield 37, 3) := by decide +kernel
theorem d_H_lose_9 : decode b_H_lose 9 = .ok (.iload_n 1, 1) := by decide +kernel
theorem d_H_lose_10 : decode b_H_lose 10 = .ok (.invokevirtual 167, 3) := by decide +kernel
theorem d_H_lose_13 : decode b_H_lose 13 = .ok (.return_, 1) := by decide +kernel

theorem d_H_twin_0 : decode b_H_twin 0 = .ok (.aload_n 0, 1) := by decide +kernel
theorem d_H_twin_1 : decode b_H_twin 1 = .ok (.iload_n 1, 1) := by decide +kernel
theorem d_H_twin_2 : decode b_H_twin 2 = .ok (.invokevirtual 154, 3) := by decide +kernel
theorem d_H_twin_5 : decode b_H_twin 5 = .ok (.aload_n 0, 1) := by decide +kernel
theorem d_H_twin_6 : decode b_H_twin 6 = .ok (.getfield 37, 3) := by decide +kernel
theorem d_H_twin_9 : decode b_H_twin 9 = .ok (.invokevirtual 180, 3) := by decide +kernel
theorem d_H_twin_12 : decode b_H_twin 12 = .ok (.ifCond .eq 11, 3) := by decide +kernel
theorem d_H_twin_15 : decode b_H_twin 15 = .ok (.new 82, 3) := by decide +kernel
theorem d_H_twin_18 : decode b_H_twin 18 = .ok (.dup, 1) := by decide +kernel
theorem d_H_twin_19 : decode b_H_twin 19 = .ok (.invokespecial 84, 3) := by decide +kernel
theorem d_H_twin_22 : decode b_H_twin 22 = .ok (.athrow, 1) := by decide +kernel
theorem d_H_twin_23 : decode b_H_twin 23 = .ok (.aload_n 0, 1) := by decide +kernel
theorem d_H_twin_24 : decode b_H_twin 24 = .ok (.getfield 37, 3) := by decide +kernel
theorem d_H_twin_27 : decode b_H_twin 27 = .ok (.aload_n 0, 1) := by decide +kernel
theorem d_H_twin_28 : decode b_H_twin 28 = .ok (.getfield 37, 3) := by decide +kernel
theorem d_H_twin_31 : decode b_H_twin 31 = .ok (.getfield 157, 3) := by decide +kernel
theorem d_H_twin_34 : decode b_H_twin 34 = .ok (.iload_n 1, 1) := by decide +kernel
theorem d_H_twin_35 : decode b_H_twin 35 = .ok (.iaload, 1) := by decide +kernel
theorem d_H_twin_36 : decode b_H_twin 36 = .ok (.aload_n 0, 1) := by decide +kernel
theorem d_H_twin_37 : decode b_H_twin 37 = .ok (.getfield 37, 3) := by decide +kernel
theorem d_H_twin_40 : decode b_H_twin 40 = .ok (.getfield 160, 3) := by decide +kernel
theorem d_H_twin_43 : decode b_H_twin 43 = .ok (.iload_n 1, 1) := by decide +kernel
theorem d_H_twin_44 : decode b_H_twin 44 = .ok (.iaload, 1) := by decide +kernel
theorem d_H_twin_45 : decode b_H_twin 45 = .ok (.aload_n 0, 1) := by decide +kernel
theorem d_H_twin_46 : decode b_H_twin 46 = .ok (.getfield 37, 3) := by decide +kernel
theorem d_H_twin_49 : decode b_H_twin 49 = .ok (.getfield 162, 3) := by decide +kernel
theorem d_H_twin_52 : decode b_H_twin 52 = .ok (.iload_n 1, 1) := by decide +kernel
theorem d_H_twin_53 : decode b_H_twin 53 = .ok (.iaload, 1) := by decide +kernel
theorem d_H_twin_54 : decode b_H_twin 54 = .ok (.aload_n 0, 1) := by decide +kernel
theorem d_H_twin_55 : decode b_H_twin 55 = .ok (.getfield 37, 3) := by decide +kernel
theorem d_H_twin_58 : decode b_H_twin 58 = .ok (.getfield 164, 3) := by decide +kernel
theorem d_H_twin_61 : decode b_H_twin 61 = .ok (.iload_n 1, 1) := by decide +kernel
theorem d_H_twin_62 : decode b_H_twin 62 = .ok (.iaload, 1) := by decide +kernel
theorem d_H_twin_63 : decode b_H_twin 63 = .ok (.invokevirtual 89, 3) := by decide +kernel
theorem d_H_twin_66 : decode b_H_twin 66 = .ok (.return_, 1) := by decide +kernel

theorem d_H_letter_0 : decode b_H_letter 0 = .ok (.aload_n 0, 1) := by decide +kernel
theorem d_H_letter_1 : decode b_H_letter 1 = .ok (.iload_n 1, 1) := by decide +kernel
theorem d_H_letter_2 : decode b_H_letter 2 = .ok (.invokevirtual 154, 3) := by decide +kernel
theorem d_H_letter_5 : decode b_H_letter 5 = .ok (.iload_n 2, 1) := by decide +kernel
theorem d_H_letter_6 : decode b_H_letter 6 = .ok (.tableswitch 70 0 3 #[30, 40, 50, 60], 30) := by decide +kernel
theorem d_H_letter_36 : decode b_H_letter 36 = .ok (.aload_n 0, 1) := by decide +kernel
theorem d_H_letter_37 : decode b_H_letter 37 = .ok (.getfield 37, 3) := by decide +kernel
theorem d_H_letter_40 : decode b_H_letter 40 = .ok (.getfield 157, 3) := by decide +kernel
theorem d_H_letter_43 : decode b_H_letter 43 = .ok (.iload_n 1, 1) := by decide +kernel
theorem d_H_letter_44 : decode b_H_letter 44 = .ok (.iaload, 1) := by decide +kernel
theorem d_H_letter_45 : decode b_H_letter 45 = .ok (.ireturn, 1) := by decide +kernel
theorem d_H_letter_46 : decode b_H_letter 46 = .ok (.aload_n 0, 1) := by decide +kernel
theorem d_H_letter_47 : decode b_H_letter 47 = .ok (.getfield 37, 3) := by decide +kernel
theorem d_H_letter_50 : decode b_H_letter 50 = .ok (.getfield 160, 3) := by decide +kernel
theorem d_H_letter_53 : decode b_H_letter 53 = .ok (.iload_n 1, 1) := by decide +kernel
theorem d_H_letter_54 : decode b_H_letter 54 = .ok (.iaload, 1) := by decide +kernel
theorem d_H_letter_55 : decode b_H_letter 55 = .ok (.ireturn, 1) := by decide +kernel
theorem d_H_letter_56 : decode b_H_letter 56 = .ok (.aload_n 0, 1) := by decide +kernel
theorem d_H_letter_57 : decode b_H_letter 57 = .ok (.getfield 37, 3) := by decide +kernel
theorem d_H_letter_60 : decode b_H_letter 60 = .ok (.getfield 162, 3) := by decide +kernel
theorem d_H_letter_63 : decode b_H_letter 63 = .ok (.iload_n 1, 1) := by decide +kernel
theorem d_H_letter_64 : decode b_H_letter 64 = .ok (.iaload, 1) := by decide +kernel
theorem d_H_letter_65 : decode b_H_letter 65 = .ok (.ireturn, 1) := by decide +kernel
theorem d_H_letter_66 : decode b_H_letter 66 = .ok (.aload_n 0, 1) := by decide +kernel
theorem d_H_letter_67 : decode b_H_letter 67 = .ok (.getfield 37, 3) := by decide +kernel
theorem d_H_letter_70 : decode b_H_letter 70 = .ok (.getfield 164, 3) := by decide +kernel
theorem d_H_letter_73 : decode b_H_letter 73 = .ok (.iload_n 1, 1) := by decide +kernel
theorem d_H_letter_74 : decode b_H_letter 74 = .ok (.iaload, 1) := by decide +kernel
theorem d_H_letter_75 : decode b_H_letter 75 = .ok (.ireturn, 1) := by decide +kernel
theorem d_H_letter_76 : decode b_H_letter 76 = .ok (.new 59, 3) := by decide +kernel
theorem d_H_letter_79 : decode b_H_letter 79 = .ok (.dup, 1) := by decide +kernel
theorem d_H_letter_80 : decode b_H_letter 80 = .ok (.invokespecial 61, 3) := by decide +kernel
theorem d_H_letter_83 : decode b_H_letter 83 = .ok (.athrow, 1) := by decide +kernel

theorem d_H_letters_0 : decode b_H_letters 0 = .ok (.aload_n 0, 1) := by decide +kernel
theorem d_H_letters_1 : decode b_H_letters 1 = .ok (.getfield 37, 3) := by decide +kernel
theorem d_H_letters_4 : decode b_H_letters 4 = .ok (.getfield 184, 3) := by decide +kernel
theorem d_H_letters_7 : decode b_H_letters 7 = .ok (.ireturn, 1) := by decide +kernel

theorem d_H_open_0 : decode b_H_open 0 = .ok (.iload_n 1, 1) := by decide +kernel
theorem d_H_open_1 : decode b_H_open 1 = .ok (.invokestatic 126, 3) := by decide +kernel
theorem d_H_open_4 : decode b_H_open 4 = .ok (.aload_n 0, 1) := by decide +kernel
theorem d_H_open_5 : decode b_H_open 5 = .ok (.getfield 22, 3) := by decide +kernel
theorem d_H_open_8 : decode b_H_open 8 = .ok (.iload_n 1, 1) := by decide +kernel
theorem d_H_open_9 : decode b_H_open 9 = .ok (.aaload, 1) := by decide +kernel
theorem d_H_open_10 : decode b_H_open 10 = .ok (.invokevirtual 148, 3) := by decide +kernel
theorem d_H_open_13 : decode b_H_open 13 = .ok (.istore_n 2, 1) := by decide +kernel
theorem d_H_open_14 : decode b_H_open 14 = .ok (.iload_n 2, 1) := by decide +kernel
theorem d_H_open_15 : decode b_H_open 15 = .ok (.ifCond .eq 25, 3) := by decide +kernel
theorem d_H_open_18 : decode b_H_open 18 = .ok (.aload_n 0, 1) := by decide +kernel
theorem d_H_open_19 : decode b_H_open 19 = .ok (.getfield 22, 3) := by decide +kernel
theorem d_H_open_22 : decode b_H_open 22 = .ok (.iload_n 1, 1) := by decide +kernel
theorem d_H_open_23 : decode b_H_open 23 = .ok (.aaload, 1) := by decide +kernel
theorem d_H_open_24 : decode b_H_open 24 = .ok (.getfield 187, 3) := by decide +kernel
theorem d_H_open_27 : decode b_H_open 27 = .ok (.iconst 3, 1) := by decide +kernel
theorem d_H_open_28 : decode b_H_open 28 = .ok (.if_icmp .ge 12, 3) := by decide +kernel
theorem d_H_open_31 : decode b_H_open 31 = .ok (.aload_n 0, 1) := by decide +kernel
theorem d_H_open_32 : decode b_H_open 32 = .ok (.getfield 190, 3) := by decide +kernel
theorem d_H_open_35 : decode b_H_open 35 = .ok (.bipush 40, 2) := by decide +kernel
theorem d_H_open_37 : decode b_H_open 37 = .ok (.if_icmp .lt 11, 3) := by decide +kernel
theorem d_H_open_40 : decode b_H_open 40 = .ok (.new 82, 3) := by decide +kernel
theorem d_H_open_43 : decode b_H_open 43 = .ok (.dup, 1) := by decide +kernel
theorem d_H_open_44 : decode b_H_open 44 = .ok (.invokespecial 84, 3) := by decide +kernel
theorem d_H_open_47 : decode b_H_open 47 = .ok (.athrow, 1) := by decide +kernel
theorem d_H_open_48 : decode b_H_open 48 = .ok (.aload_n 0, 1) := by decide +kernel
theorem d_H_open_49 : decode b_H_open 49 = .ok (.getfield 190, 3) := by decide +kernel
theorem d_H_open_52 : decode b_H_open 52 = .ok (.istore_n 3, 1) := by decide +kernel
theorem d_H_open_53 : decode b_H_open 53 = .ok (.aload_n 0, 1) := by decide +kernel
theorem d_H_open_54 : decode b_H_open 54 = .ok (.dup, 1) := by decide +kernel
theorem d_H_open_55 : decode b_H_open 55 = .ok (.getfield 190, 3) := by decide +kernel
theorem d_H_open_58 : decode b_H_open 58 = .ok (.iconst 1, 1) := by decide +kernel
theorem d_H_open_59 : decode b_H_open 59 = .ok (.iadd, 1) := by decide +kernel
theorem d_H_open_60 : decode b_H_open 60 = .ok (.putfield 190, 3) := by decide +kernel
theorem d_H_open_63 : decode b_H_open 63 = .ok (.aload_n 0, 1) := by decide +kernel
theorem d_H_open_64 : decode b_H_open 64 = .ok (.getfield 43, 3) := by decide +kernel
theorem d_H_open_67 : decode b_H_open 67 = .ok (.iload_n 3, 1) := by decide +kernel
theorem d_H_open_68 : decode b_H_open 68 = .ok (.aaload, 1) := by decide +kernel
theorem d_H_open_69 : decode b_H_open 69 = .ok (.iload_n 1, 1) := by decide +kernel
theorem d_H_open_70 : decode b_H_open 70 = .ok (.iload_n 2, 1) := by decide +kernel
theorem d_H_open_71 : decode b_H_open 71 = .ok (.invokevirtual 193, 3) := by decide +kernel
theorem d_H_open_74 : decode b_H_open 74 = .ok (.aload_n 0, 1) := by decide +kernel
theorem d_H_open_75 : decode b_H_open 75 = .ok (.getfield 22, 3) := by decide +kernel
theorem d_H_open_78 : decode b_H_open 78 = .ok (.iload_n 1, 1) := by decide +kernel
theorem d_H_open_79 : decode b_H_open 79 = .ok (.aaload, 1) := by decide +kernel
theorem d_H_open_80 : decode b_H_open 80 = .ok (.dup, 1) := by decide +kernel
theorem d_H_open_81 : decode b_H_open 81 = .ok (.getfield 187, 3) := by decide +kernel
theorem d_H_open_84 : decode b_H_open 84 = .ok (.iconst 1, 1) := by decide +kernel
theorem d_H_open_85 : decode b_H_open 85 = .ok (.iadd, 1) := by decide +kernel
theorem d_H_open_86 : decode b_H_open 86 = .ok (.putfield 187, 3) := by decide +kernel
theorem d_H_open_89 : decode b_H_open 89 = .ok (.iload_n 3, 1) := by decide +kernel
theorem d_H_open_90 : decode b_H_open 90 = .ok (.ireturn, 1) := by decide +kernel

theorem d_H_scan_0 : decode b_H_scan 0 = .ok (.aload_n 0, 1) := by decide +kernel
theorem d_H_scan_1 : decode b_H_scan 1 = .ok (.iload_n 1, 1) := by decide +kernel
theorem d_H_scan_2 : decode b_H_scan 2 = .ok (.invokevirtual 196, 3) := by decide +kernel
theorem d_H_scan_5 : decode b_H_scan 5 = .ok (.iload_n 2, 1) := by decide +kernel
theorem d_H_scan_6 : decode b_H_scan 6 = .ok (.invokestatic 52, 3) := by decide +kernel
theorem d_H_scan_9 : decode b_H_scan 9 = .ok (.ifCond .eq 30, 3) := by decide +kernel
theorem d_H_scan_12 : decode b_H_scan 12 = .ok (.iload_n 3, 1) := by decide +kernel
theorem d_H_scan_13 : decode b_H_scan 13 = .ok (.iconst 1, 1) := by decide +kernel
theorem d_H_scan_14 : decode b_H_scan 14 = .ok (.if_icmp .eq 8, 3) := by decide +kernel
theorem d_H_scan_17 : decode b_H_scan 17 = .ok (.iload_n 3, 1) := by decide +kernel
theorem d_H_scan_18 : decode b_H_scan 18 = .ok (.iconst (-1), 1) := by decide +kernel
theorem d_H_scan_19 : decode b_H_scan 19 = .ok (.if_icmp .ne 20, 3) := by decide +kernel
theorem d_H_scan_22 : decode b_H_scan 22 = .ok (.aload_n 0, 1) := by decide +kernel
theorem d_H_scan_23 : decode b_H_scan 23 = .ok (.aload_n 0, 1) := by decide +kernel
theorem d_H_scan_24 : decode b_H_scan 24 = .ok (.getfield 43, 3) := by decide +kernel
theorem d_H_scan_27 : decode b_H_scan 27 = .ok (.iload_n 1, 1) := by decide +kernel
theorem d_H_scan_28 : decode b_H_scan 28 = .ok (.aaload, 1) := by decide +kernel
theorem d_H_scan_29 : decode b_H_scan 29 = .ok (.getfield 199, 3) := by decide +kernel
theorem d_H_scan_32 : decode b_H_scan 32 = .ok (.iload_n 2, 1) := by decide +kernel
theorem d_H_scan_33 : decode b_H_scan 33 = .ok (.invokevirtual 202, 3) := by decide +kernel
theorem d_H_scan_36 : decode b_H_scan 36 = .ok (.ifCond .ne 11, 3) := by decide +kernel
theorem d_H_scan_39 : decode b_H_scan 39 = .ok (.new 59, 3) := by decide +kernel
theorem d_H_scan_42 : decode b_H_scan 42 = .ok (.dup, 1) := by decide +kernel
theorem d_H_scan_43 : decode b_H_scan 43 = .ok (.invokespecial 61, 3) := by decide +kernel
theorem d_H_scan_46 : decode b_H_scan 46 = .ok (.athrow, 1) := by decide +kernel
theorem d_H_scan_47 : decode b_H_scan 47 = .ok (.aload_n 0, 1) := by decide +kernel
theorem d_H_scan_48 : decode b_H_scan 48 = .ok (.getfield 43, 3) := by decide +kernel
theorem d_H_scan_51 : decode b_H_scan 51 = .ok (.iload_n 1, 1) := by decide +kernel
theorem d_H_scan_52 : decode b_H_scan 52 = .ok (.aaload, 1) := by decide +kernel
theorem d_H_scan_53 : decode b_H_scan 53 = .ok (.getfield 206, 3) := by decide +kernel
theorem d_H_scan_56 : decode b_H_scan 56 = .ok (.iload_n 2, 1) := by decide +kernel
theorem d_H_scan_57 : decode b_H_scan 57 = .ok (.iaload, 1) := by decide +kernel
theorem d_H_scan_58 : decode b_H_scan 58 = .ok (.iload_n 3, 1) := by decide +kernel
theorem d_H_scan_59 : decode b_H_scan 59 = .ok (.iadd, 1) := by decide +kernel
theorem d_H_scan_60 : decode b_H_scan 60 = .ok (.istore 4, 2) := by decide +kernel
theorem d_H_scan_62 : decode b_H_scan 62 = .ok (.iload 4, 2) := by decide +kernel
theorem d_H_scan_64 : decode b_H_scan 64 = .ok (.ifCond .lt 10, 3) := by decide +kernel
theorem d_H_scan_67 : decode b_H_scan 67 = .ok (.iload 4, 2) := by decide +kernel
theorem d_H_scan_69 : decode b_H_scan 69 = .ok (.bipush 30, 2) := by decide +kernel
theorem d_H_scan_71 : decode b_H_scan 71 = .ok (.if_icmp .le 11, 3) := by decide +kernel
theorem d_H_scan_74 : decode b_H_scan 74 = .ok (.new 82, 3) := by decide +kernel
theorem d_H_scan_77 : decode b_H_scan 77 = .ok (.dup, 1) := by decide +kernel
theorem d_H_scan_78 : decode b_H_scan 78 = .ok (.invokespecial 84, 3) := by decide +kernel
theorem d_H_scan_81 : decode b_H_scan 81 = .ok (.athrow, 1) := by decide +kernel
theorem d_H_scan_82 : decode b_H_scan 82 = .ok (.aload_n 0, 1) := by decide +kernel
theorem d_H_scan_83 : decode b_H_scan 83 = .ok (.getfield 43, 3) := by decide +kernel
theorem d_H_scan_86 : decode b_H_scan 86 = .ok (.iload_n 1, 1) := by decide +kernel
theorem d_H_scan_87 : decode b_H_scan 87 = .ok (.aaload, 1) := by decide +kernel
theorem d_H_scan_88 : decode b_H_scan 88 = .ok (.getfield 206, 3) := by decide +kernel
theorem d_H_scan_91 : decode b_H_scan 91 = .ok (.iload_n 2, 1) := by decide +kernel
theorem d_H_scan_92 : decode b_H_scan 92 = .ok (.iload 4, 2) := by decide +kernel
theorem d_H_scan_94 : decode b_H_scan 94 = .ok (.iastore, 1) := by decide +kernel
theorem d_H_scan_95 : decode b_H_scan 95 = .ok (.iload 4, 2) := by decide +kernel
theorem d_H_scan_97 : decode b_H_scan 97 = .ok (.ireturn, 1) := by decide +kernel

theorem d_H_book_0 : decode b_H_book 0 = .ok (.aload_n 0, 1) := by decide +kernel
theorem d_H_book_1 : decode b_H_book 1 = .ok (.iload_n 1, 1) := by decide +kernel
theorem d_H_book_2 : decode b_H_book 2 = .ok (.invokevirtual 219, 3) := by decide +kernel
theorem d_H_book_5 : decode b_H_book 5 = .ok (.ifCond .ne 11, 3) := by decide +kernel
theorem d_H_book_8 : decode b_H_book 8 = .ok (.new 222, 3) := by decide +kernel
theorem d_H_book_11 : decode b_H_book 11 = .ok (.dup, 1) := by decide +kernel
theorem d_H_book_12 : decode b_H_book 12 = .ok (.invokespecial 224, 3) := by decide +kernel
theorem d_H_book_15 : decode b_H_book 15 = .ok (.athrow, 1) := by decide +kernel
theorem d_H_book_16 : decode b_H_book 16 = .ok (.aload_n 0, 1) := by decide +kernel
theorem d_H_book_17 : decode b_H_book 17 = .ok (.getfield 43, 3) := by decide +kernel
theorem d_H_book_20 : decode b_H_book 20 = .ok (.iload_n 1, 1) := by decide +kernel
theorem d_H_book_21 : decode b_H_book 21 = .ok (.aaload, 1) := by decide +kernel
theorem d_H_book_22 : decode b_H_book 22 = .ok (.getfield 199, 3) := by decide +kernel
theorem d_H_book_25 : decode b_H_book 25 = .ok (.ireturn, 1) := by decide +kernel

theorem d_H_bringToDesk_0 : decode b_H_bringToDesk 0 = .ok (.iload_n 1, 1) := by decide +kernel
theorem d_H_bringToDesk_1 : decode b_H_bringToDesk 1 = .ok (.iconst 1, 1) := by decide +kernel
theorem d_H_bringToDesk_2 : decode b_H_bringToDesk 2 = .ok (.if_icmp .ne 36, 3) := by decide +kernel
theorem d_H_bringToDesk_5 : decode b_H_bringToDesk 5 = .ok (.aload_n 0, 1) := by decide +kernel
theorem d_H_bringToDesk_6 : decode b_H_bringToDesk 6 = .ok (.getfield 30, 3) := by decide +kernel
theorem d_H_bringToDesk_9 : decode b_H_bringToDesk 9 = .ok (.iload_n 2, 1) := by decide +kernel
theorem d_H_bringToDesk_10 : decode b_H_bringToDesk 10 = .ok (.iload 4, 2) := by decide +kernel
theorem d_H_bringToDesk_12 : decode b_H_bringToDesk 12 = .ok (.invokevirtual 229, 3) := by decide +kernel
theorem d_H_bringToDesk_15 : decode b_H_bringToDesk 15 = .ok (.istore 5, 2) := by decide +kernel
theorem d_H_bringToDesk_17 : decode b_H_bringToDesk 17 = .ok (.iload 5, 2) := by decide +kernel
theorem d_H_bringToDesk_19 : decode b_H_bringToDesk 19 = .ok (.ifCond .eq 16, 3) := by decide +kernel
theorem d_H_bringToDesk_22 : decode b_H_bringToDesk 22 = .ok (.aload_n 0, 1) := by decide +kernel
theorem d_H_bringToDesk_23 : decode b_H_bringToDesk 23 = .ok (.getfield 37, 3) := by decide +kernel
theorem d_H_bringToDesk_26 : decode b_H_bringToDesk 26 = .ok (.iconst 2, 1) := by decide +kernel
theorem d_H_bringToDesk_27 : decode b_H_bringToDesk 27 = .ok (.iload_n 2, 1) := by decide +kernel
theorem d_H_bringToDesk_28 : decode b_H_bringToDesk 28 = .ok (.iload 5, 2) := by decide +kernel
theorem d_H_bringToDesk_30 : decode b_H_bringToDesk 30 = .ok (.iload 4, 2) := by decide +kernel
theorem d_H_bringToDesk_32 : decode b_H_bringToDesk 32 = .ok (.invokevirtual 89, 3) := by decide +kernel
theorem d_H_bringToDesk_35 : decode b_H_bringToDesk 35 = .ok (.goto 38, 3) := by decide +kernel
theorem d_H_bringToDesk_38 : decode b_H_bringToDesk 38 = .ok (.iload_n 1, 1) := by decide +kernel
theorem d_H_bringToDesk_39 : decode b_H_bringToDesk 39 = .ok (.iconst 3, 1) := by decide +kernel
theorem d_H_bringToDesk_40 : decode b_H_bringToDesk 40 = .ok (.if_icmp .ne 19, 3) := by decide +kernel
theorem d_H_bringToDesk_43 : decode b_H_bringToDesk 43 = .ok (.aload_n 0, 1) := by decide +kernel
theorem d_H_bringToDesk_44 : decode b_H_bringToDesk 44 = .ok (.getfield 30, 3) := by decide +kernel
theorem d_H_bringToDesk_47 : decode b_H_bringToDesk 47 = .ok (.getfield 233, 3) := by decide +kernel
theorem d_H_bringToDesk_50 : decode b_H_bringToDesk 50 = .ok (.iload_n 2, 1) := by decide +kernel
theorem d_H_bringToDesk_51 : decode b_H_bringToDesk 51 = .ok (.aaload, 1) := by decide +kernel
theorem d_H_bringToDesk_52 : decode b_H_bringToDesk 52 = .ok (.iload_n 3, 1) := by decide +kernel
theorem d_H_bringToDesk_53 : decode b_H_bringToDesk 53 = .ok (.invokevirtual 237, 3) := by decide +kernel
theorem d_H_bringToDesk_56 : decode b_H_bringToDesk 56 = .ok (.goto 17, 3) := by decide +kernel
theorem d_H_bringToDesk_59 : decode b_H_bringToDesk 59 = .ok (.aload_n 0, 1) := by decide +kernel
theorem d_H_bringToDesk_60 : decode b_H_bringToDesk 60 = .ok (.getfield 30, 3) := by decide +kernel
theorem d_H_bringToDesk_63 : decode b_H_bringToDesk 63 = .ok (.getfield 233, 3) := by decide +kernel
theorem d_H_bringToDesk_66 : decode b_H_bringToDesk 66 = .ok (.iload_n 2, 1) := by decide +kernel
theorem d_H_bringToDesk_67 : decode b_H_bringToDesk 67 = .ok (.aaload, 1) := by decide +kernel
theorem d_H_bringToDesk_68 : decode b_H_bringToDesk 68 = .ok (.iload 4, 2) := by decide +kernel
theorem d_H_bringToDesk_70 : decode b_H_bringToDesk 70 = .ok (.invokevirtual 242, 3) := by decide +kernel
theorem d_H_bringToDesk_73 : decode b_H_bringToDesk 73 = .ok (.aload_n 0, 1) := by decide +kernel
theorem d_H_bringToDesk_74 : decode b_H_bringToDesk 74 = .ok (.getfield 30, 3) := by decide +kernel
theorem d_H_bringToDesk_77 : decode b_H_bringToDesk 77 = .ok (.invokevirtual 102, 3) := by decide +kernel
theorem d_H_bringToDesk_80 : decode b_H_bringToDesk 80 = .ok (.return_, 1) := by decide +kernel

set_option maxHeartbeats 4000000 in
set_option maxRecDepth 100000 in
theorem c_H_ready_x1 (l : Launch) (hadm : ∀ e : Env, l.admits e → e.platform.stackTraces = false) (Z : qZ) (hZ : qok (pX Z)) (V : qV) (Y : qY) (t : Int32) (h : t < 0 ∨ ¬ t < 4) : CT l y_H_ready { frames := 7, cells := 1, slots := 6, locals := 116 } (pX Z) qN [.ref (al Z 0 0), .int t] V Y (.inr "java/lang/IllegalArgumentException") V Y := by
  refine CT.of (cc := b_H_ready) (maxL := 3) (ret := (some .int)) hZ (by decide) w_435 (Nat.le_of_ble_eq_true rfl) ?_
  intro p e s m below meth c C hr hex hlt
  refine gq_iload_n C d_H_ready_0 rfl ?_
  exact gq_thrS C (st := []) hex (fun _ h => h) (c_H_checkTill_x l hadm Z hZ _ _ t h) w_426 w_427 w_428 w_1 ⟨by decide, by decide, (by decide +kernel : (parseMethodDescriptor y_H_checkTill.desc).map (fun d => d.parameters.length) = some 1)⟩ ⟨by decide, by decide⟩ ⟨by decide, by decide⟩ ⟨by decide, by decide⟩ rfl (Nat.le_of_ble_eq_true rfl) d_H_ready_1

set_option maxHeartbeats 4000000 in
set_option maxRecDepth 100000 in
theorem c_H_ask_x1 (l : Launch) (hadm : ∀ e : Env, l.admits e → e.platform.stackTraces = false) (Z : qZ) (hZ : qok (pX Z)) (V : qV) (Y : qY) (t : Int32) (h : t < 0 ∨ ¬ t < 4) : CT l y_H_ask { frames := 7, cells := 1, slots := 6, locals := 116 } (pX Z) qN [.ref (al Z 0 0), .int t] V Y (.inr "java/lang/IllegalArgumentException") V Y := by
  refine CT.of (cc := b_H_ask) (maxL := 3) (ret := (some .int)) hZ (by decide) w_442 (Nat.le_of_ble_eq_true rfl) ?_
  intro p e s m below meth c C hr hex hlt
  refine gq_iload_n C d_H_ask_0 rfl ?_
  exact gq_thrS C (st := []) hex (fun _ h => h) (c_H_checkTill_x l hadm Z hZ _ _ t h) w_426 w_427 w_428 w_1 ⟨by decide, by decide, (by decide +kernel : (parseMethodDescriptor y_H_checkTill.desc).map (fun d => d.parameters.length) = some 1)⟩ ⟨by decide, by decide⟩ ⟨by decide, by decide⟩ ⟨by decide, by decide⟩ rfl (Nat.le_of_ble_eq_true rfl) d_H_ask_1

set_option maxHeartbeats 4000000 in
set_option maxRecDepth 100000 in
theorem c_H_giveUp_x1 (l : Launch) (hadm : ∀ e : Env, l.admits e → e.platform.stackTraces = false) (Z : qZ) (hZ : qok (pX Z)) (V : qV) (Y : qY) (t : Int32) (h : t < 0 ∨ ¬ t < 4) : CT l y_H_giveUp { frames := 7, cells := 1, slots := 6, locals := 116 } (pX Z) qN [.ref (al Z 0 0), .int t] V Y (.inr "java/lang/IllegalArgumentException") V Y := by
  refine CT.of (cc := b_H_giveUp) (maxL := 3) (ret := none) hZ (by decide) w_454 (Nat.le_of_ble_eq_true rfl) ?_
  intro p e s m below meth c C hr hex hlt
  refine gq_iload_n C d_H_giveUp_0 rfl ?_
  exact gq_thrS C (st := []) hex (fun _ h => h) (c_H_checkTill_x l hadm Z hZ _ _ t h) w_426 w_427 w_428 w_1 ⟨by decide, by decide, (by decide +kernel : (parseMethodDescriptor y_H_checkTill.desc).map (fun d => d.parameters.length) = some 1)⟩ ⟨by decide, by decide⟩ ⟨by decide, by decide⟩ ⟨by decide, by decide⟩ rfl (Nat.le_of_ble_eq_true rfl) d_H_giveUp_1

set_option maxHeartbeats 4000000 in
set_option maxRecDepth 100000 in
theorem c_H_lease_x1 (l : Launch) (hadm : ∀ e : Env, l.admits e → e.platform.stackTraces = false) (Z : qZ) (hZ : qok (pX Z)) (V : qV) (Y : qY) (t : Int32) (h : t < 0 ∨ ¬ t < 4) : CT l y_H_lease { frames := 7, cells := 1, slots := 6, locals := 116 } (pX Z) qN [.ref (al Z 0 0), .int t] V Y (.inr "java/lang/IllegalArgumentException") V Y := by
  refine CT.of (cc := b_H_lease) (maxL := 2) (ret := (some .int)) hZ (by decide) w_465 (Nat.le_of_ble_eq_true rfl) ?_
  intro p e s m below meth c C hr hex hlt
  refine gq_iload_n C d_H_lease_0 rfl ?_
  exact gq_thrS C (st := []) hex (fun _ h => h) (c_H_checkTill_x l hadm Z hZ _ _ t h) w_426 w_427 w_428 w_1 ⟨by decide, by decide, (by decide +kernel : (parseMethodDescriptor y_H_checkTill.desc).map (fun d => d.parameters.length) = some 1)⟩ ⟨by decide, by decide⟩ ⟨by decide, by decide⟩ ⟨by decide, by decide⟩ rfl (Nat.le_of_ble_eq_true rfl) d_H_lease_1

set_option maxHeartbeats 4000000 in
set_option maxRecDepth 100000 in
theorem c_H_loaded_x1 (l : Launch) (hadm : ∀ e : Env, l.admits e → e.platform.stackTraces = false) (Z : qZ) (hZ : qok (pX Z)) (V : qV) (Y : qY) (t : Int32) (h : t < 0 ∨ ¬ t < 4) : CT l y_H_loaded { frames := 7, cells := 1, slots := 6, locals := 116 } (pX Z) qN [.ref (al Z 0 0), .int t] V Y (.inr "java/lang/IllegalArgumentException") V Y := by
  refine CT.of (cc := b_H_loaded) (maxL := 2) (ret := (some .int)) hZ (by decide) w_476 (Nat.le_of_ble_eq_true rfl) ?_
  intro p e s m below meth c C hr hex hlt
  refine gq_iload_n C d_H_loaded_0 rfl ?_
  exact gq_thrS C (st := []) hex (fun _ h => h) (c_H_checkTill_x l hadm Z hZ _ _ t h) w_426 w_427 w_428 w_1 ⟨by decide, by decide, (by decide +kernel : (parseMethodDescriptor y_H_checkTill.desc).map (fun d => d.parameters.length) = some 1)⟩ ⟨by decide, by decide⟩ ⟨by decide, by decide⟩ ⟨by decide, by decide⟩ rfl (Nat.le_of_ble_eq_true rfl) d_H_loaded_1

set_option maxHeartbeats 4000000 in
set_option maxRecDepth 100000 in
theorem c_H_open_x1 (l : Launch) (hadm : ∀ e : Env, l.admits e → e.platform.stackTraces = false) (Z : qZ) (hZ : qok (pX Z)) (V : qV) (Y : qY) (t : Int32) (h : t < 0 ∨ ¬ t < 4) : CT l y_H_open { frames := 7, cells := 1, slots := 6, locals := 116 } (pX Z) qN [.ref (al Z 0 0), .int t] V Y (.inr "java/lang/IllegalArgumentException") V Y := by
  refine CT.of (cc := b_H_open) (maxL := 4) (ret := (some .int)) hZ (by decide) w_572 (Nat.le_of_ble_eq_true rfl) ?_
  intro p e s m below meth c C hr hex hlt
  refine gq_iload_n C d_H_open_0 rfl ?_
  exact gq_thrS C (st := []) hex (fun _ h => h) (c_H_checkTill_x l hadm Z hZ _ _ t h) w_426 w_427 w_428 w_1 ⟨by decide, by decide, (by decide +kernel : (parseMethodDescriptor y_H_checkTill.desc).map (fun d => d.parameters.length) = some 1)⟩ ⟨by decide, by decide⟩ ⟨by decide, by decide⟩ ⟨by decide, by decide⟩ rfl (Nat.le_of_ble_eq_true rfl) d_H_open_1

theorem d_H_fetch_0 : decode b_H_fetch 0 = .ok (.iload_n 1, 1) := by decide +kernel
theorem d_H_fetch_1 : decode b_H_fetch 1 = .ok (.invokestatic 126, 3) := by decide +kernel
theorem d_H_fetch_4 : decode b_H_fetch 4 = .ok (.aload_n 0, 1) := by decide +kernel
theorem d_H_fetch_5 : decode b_H_fetch 5 = .ok (.getfield 22, 3) := by decide +kernel
theorem d_H_fetch_8 : decode b_H_fetch 8 = .ok (.iload_n 1, 1) := by decide +kernel
theorem d_H_fetch_9 : decode b_H_fetch 9 = .ok (.aaload, 1) := by decide +kernel
theorem d_H_fetch_10 : decode b_H_fetch 10 = .ok (.getfield 129, 3) := by decide +kernel
theorem d_H_fetch_13 : decode b_H_fetch 13 = .ok (.istore_n 2, 1) := by decide +kernel
theorem d_H_fetch_14 : decode b_H_fetch 14 = .ok (.iload_n 2, 1) := by decide +kernel
theorem d_H_fetch_15 : decode b_H_fetch 15 = .ok (.iconst 1, 1) := by decide +kernel
theorem d_H_fetch_16 : decode b_H_fetch 16 = .ok (.iadd, 1) := by decide +kernel
theorem d_H_fetch_17 : decode b_H_fetch 17 = .ok (.istore_n 3, 1) := by decide +kernel
theorem d_H_fetch_18 : decode b_H_fetch 18 = .ok (.iload_n 3, 1) := by decide +kernel
theorem d_H_fetch_19 : decode b_H_fetch 19 = .ok (.aload_n 0, 1) := by decide +kernel
theorem d_H_fetch_20 : decode b_H_fetch 20 = .ok (.getfield 78, 3) := by decide +kernel
theorem d_H_fetch_23 : decode b_H_fetch 23 = .ok (.if_icmp .gt 20, 3) := by decide +kernel
theorem d_H_fetch_26 : decode b_H_fetch 26 = .ok (.aload_n 0, 1) := by decide +kernel
theorem d_H_fetch_27 : decode b_H_fetch 27 = .ok (.getfield 37, 3) := by decide +kernel
theorem d_H_fetch_30 : decode b_H_fetch 30 = .ok (.iconst 0, 1) := by decide +kernel
theorem d_H_fetch_31 : decode b_H_fetch 31 = .ok (.iload_n 1, 1) := by decide +kernel
theorem d_H_fetch_32 : decode b_H_fetch 32 = .ok (.iload_n 3, 1) := by decide +kernel
theorem d_H_fetch_33 : decode b_H_fetch 33 = .ok (.iconst 0, 1) := by decide +kernel
theorem d_H_fetch_34 : decode b_H_fetch 34 = .ok (.invokevirtual 89, 3) := by decide +kernel
theorem d_H_fetch_37 : decode b_H_fetch 37 = .ok (.iinc 3 1, 3) := by decide +kernel
theorem d_H_fetch_40 : decode b_H_fetch 40 = .ok (.goto (-22), 3) := by decide +kernel
theorem d_H_fetch_43 : decode b_H_fetch 43 = .ok (.aload_n 0, 1) := by decide +kernel
theorem d_H_fetch_44 : decode b_H_fetch 44 = .ok (.getfield 78, 3) := by decide +kernel
theorem d_H_fetch_47 : decode b_H_fetch 47 = .ok (.iload_n 2, 1) := by decide +kernel
theorem d_H_fetch_48 : decode b_H_fetch 48 = .ok (.isub, 1) := by decide +kernel
theorem d_H_fetch_49 : decode b_H_fetch 49 = .ok (.ireturn, 1) := by decide +kernel

set_option maxHeartbeats 4000000 in
set_option maxRecDepth 100000 in
theorem c_H_fetch_x1 (l : Launch) (hadm : ∀ e : Env, l.admits e → e.platform.stackTraces = false) (Z : qZ) (hZ : qok (pX Z)) (V : qV) (Y : qY) (t : Int32) (h : t < 0 ∨ ¬ t < 4) : CT l y_H_fetch { frames := 7, cells := 1, slots := 6, locals := 116 } (pX Z) qN [.ref (al Z 0 0), .int t] V Y (.inr "java/lang/IllegalArgumentException") V Y := by
  refine CT.of (cc := b_H_fetch) (maxL := 4) (ret := (some .int)) hZ (by decide) w_425 (Nat.le_of_ble_eq_true rfl) ?_
  intro p e s m below meth c C hr hex hlt
  refine gq_iload_n C d_H_fetch_0 rfl ?_
  exact gq_thrS C (st := []) hex (fun _ h => h) (c_H_checkTill_x l hadm Z hZ _ _ t h) w_426 w_427 w_428 w_1 ⟨by decide, by decide, (by decide +kernel : (parseMethodDescriptor y_H_checkTill.desc).map (fun d => d.parameters.length) = some 1)⟩ ⟨by decide, by decide⟩ ⟨by decide, by decide⟩ ⟨by decide, by decide⟩ rfl (Nat.le_of_ble_eq_true rfl) d_H_fetch_1

set_option maxHeartbeats 4000000 in
set_option maxRecDepth 100000 in
theorem c_H_ready (l : Launch) (Z : qZ) (hZ : qok (pX Z)) (V : qV) (Y : qY) (t : Nat) (ht : t < 4) (h0 : ¬ V 7 t 1 = 0) (hc : ∃ q, q ≤ 40 ∧ V 12 0 4 = nI q) : CT l y_H_ready { frames := 7, cells := 0, slots := 0, locals := 116 } (pX Z) (qA (pX Z)) [.ref (al Z 0 0), .int (nI t)] V Y (.inl (some (.int (V 7 t 1)))) (f_put (qv V 7 t 2 (V 7 t 1)) 3 (nI t) (V 7 t 1) 0) Y := by
  refine CT.of (cc := b_H_ready) (maxL := 3) (ret := (some .int)) hZ (by decide) w_435 (Nat.le_of_ble_eq_true rfl) ?_
  intro p e s m below meth c C hr hex hlt
  refine gq_iload_n C d_H_ready_0 rfl ?_
  refine gq_callS C (st := []) (fun _ h => h.elim) (c_H_checkTill l Z hZ _ _ (nI t) (f_t0 ht) (f_t4 ht)) w_426 w_427 w_428 w_1 ⟨by decide, by decide, (by decide +kernel : (parseMethodDescriptor y_H_checkTill.desc).map (fun d => d.parameters.length) = some 1)⟩ ⟨by decide, by decide⟩ ⟨by decide, by decide⟩ rfl (Nat.le_of_ble_eq_true rfl) d_H_ready_1 ?_
  refine gq_aload_n C d_H_ready_4 rfl ?_
  refine gq_get C (g := 0) (j := 0) (ci := 7) (k := 3) (v := .ref (al Z 6 0)) (qm (by decide) (by decide)) rfl rfl in_H (by decide) w_206 rfl d_H_ready_5 ?_
  refine gq_iload_n C d_H_ready_8 rfl ?_
  refine gq_aald C (g := 6) (j := 0) (a := t) (t0 := 4) (b := al Z 7 t) (qm (by decide) (by decide)) rfl rfl rfl ht (by decide) rfl d_H_ready_9 ?_
  refine gq_get C (g := 7) (j := t) (ci := 6) (k := 1) (v := .int (V 7 t 1)) (qm (by decide) ht) rfl rfl in_T (by decide) w_72 rfl d_H_ready_10 ?_
  refine gq_istore_n C (lo' := [(2, .int (V 7 t 1)), (0, .ref (al Z 0 0)), (1, .int (nI t))]) d_H_ready_13 rfl (by decide) rfl ?_
  refine gq_iload_n C d_H_ready_14 rfl ?_
  refine gq_if_ne C (tgt := 26) d_H_ready_15 rfl (fun hb15 => ?_) (fun hb => by first | contradiction | contradiction)
  refine gq_aload_n C d_H_ready_26 rfl ?_
  refine gq_get C (g := 0) (j := 0) (ci := 7) (k := 3) (v := .ref (al Z 6 0)) (qm (by decide) (by decide)) rfl rfl in_H (by decide) w_206 rfl d_H_ready_27 ?_
  refine gq_iload_n C d_H_ready_30 rfl ?_
  refine gq_aald C (g := 6) (j := 0) (a := t) (t0 := 4) (b := al Z 7 t) (qm (by decide) (by decide)) rfl rfl rfl ht (by decide) rfl d_H_ready_31 ?_
  refine gq_iload_n C d_H_ready_32 rfl ?_
  refine gq_put C (fun _ h => h) (g := 7) (j := t) (ci := 6) (k := 2) ft_T k_T n_T (qm (by decide) ht) rfl rfl in_T (by decide) w_74 rfl (k_T 2 (by decide)) rfl rfl (Nat.le_of_ble_eq_true rfl) rfl d_H_ready_33 ?_
  refine gq_aload_n C d_H_ready_36 rfl ?_
  refine gq_get C (g := 0) (j := 0) (ci := 7) (k := 5) (v := .ref (al Z 12 0)) (qm (by decide) (by decide)) rfl rfl in_H (by decide) w_208 rfl d_H_ready_37 ?_
  refine gq_iconst C (v := 3) d_H_ready_40 (by decide) ?_
  refine gq_iload_n C d_H_ready_41 rfl ?_
  refine gq_iload_n C d_H_ready_42 rfl ?_
  refine gq_iconst C (v := 0) d_H_ready_43 (by decide) ?_
  refine gq_callV C (st := []) (fun _ h => h) (c_R_put l Z hZ _ _ (f_cnt2 hc (by simp [qv_at])) 3 (nI t) (V 7 t 1) 0) (qm (by decide) (by decide)) rfl rfl w_362 w_363 w_364 w_365 w_7 ⟨by decide, by decide, (by decide +kernel : (parseMethodDescriptor y_R_post.desc).map (fun d => d.parameters.length) = some 4)⟩ ⟨by decide, by decide⟩ ⟨by decide, by decide⟩ rfl (Nat.le_of_ble_eq_true rfl) d_H_ready_44 ?_
  refine gq_iload_n C d_H_ready_47 rfl ?_
  exact gq_iret C hr (by decide) (by decide) d_H_ready_48

set_option maxHeartbeats 4000000 in
set_option maxRecDepth 100000 in
theorem c_H_ready_x2 (l : Launch) (hadm : ∀ e : Env, l.admits e → e.platform.stackTraces = false) (Z : qZ) (hZ : qok (pX Z)) (V : qV) (Y : qY) (t : Nat) (ht : t < 4) (h0 : V 7 t 1 = 0) : CT l y_H_ready { frames := 7, cells := 1, slots := 6, locals := 116 } (pX Z) qN [.ref (al Z 0 0), .int (nI t)] V Y (.inr "java/lang/IllegalStateException") V Y := by
  refine CT.of (cc := b_H_ready) (maxL := 3) (ret := (some .int)) hZ (by decide) w_435 (Nat.le_of_ble_eq_true rfl) ?_
  intro p e s m below meth c C hr hex hlt
  refine gq_iload_n C d_H_ready_0 rfl ?_
  refine gq_callS C (st := []) (fun _ h => h) (c_H_checkTill l Z hZ _ _ (nI t) (f_t0 ht) (f_t4 ht)) w_426 w_427 w_428 w_1 ⟨by decide, by decide, (by decide +kernel : (parseMethodDescriptor y_H_checkTill.desc).map (fun d => d.parameters.length) = some 1)⟩ ⟨by decide, by decide⟩ ⟨by decide, by decide⟩ rfl (Nat.le_of_ble_eq_true rfl) d_H_ready_1 ?_
  refine gq_aload_n C d_H_ready_4 rfl ?_
  refine gq_get C (g := 0) (j := 0) (ci := 7) (k := 3) (v := .ref (al Z 6 0)) (qm (by decide) (by decide)) rfl rfl in_H (by decide) w_206 rfl d_H_ready_5 ?_
  refine gq_iload_n C d_H_ready_8 rfl ?_
  refine gq_aald C (g := 6) (j := 0) (a := t) (t0 := 4) (b := al Z 7 t) (qm (by decide) (by decide)) rfl rfl rfl ht (by decide) rfl d_H_ready_9 ?_
  refine gq_get C (g := 7) (j := t) (ci := 6) (k := 1) (v := .int (V 7 t 1)) (qm (by decide) ht) rfl rfl in_T (by decide) w_72 rfl d_H_ready_10 ?_
  refine gq_istore_n C (lo' := [(2, .int (V 7 t 1)), (0, .ref (al Z 0 0)), (1, .int (nI t))]) d_H_ready_13 rfl (by decide) rfl ?_
  refine gq_iload_n C d_H_ready_14 rfl ?_
  refine gq_if_ne C (tgt := 26) d_H_ready_15 rfl (fun hb => by first | contradiction | contradiction) (fun hb15 => ?_)
  exact gq_throw C hadm hex hlt tw_IllegalStateException w_340 w_341 w_14 (by decide) (by decide) (by decide) (by decide) (by decide) (Nat.le_of_ble_eq_true rfl) d_H_ready_18 d_H_ready_21 d_H_ready_22 d_H_ready_25

set_option maxHeartbeats 4000000 in
set_option maxRecDepth 100000 in
theorem c_H_ask (l : Launch) (Z : qZ) (hZ : qok (pX Z)) (V : qV) (Y : qY) (t : Nat) (ht : t < 4) (hc : ∃ q, q ≤ 40 ∧ V 12 0 4 = nI q) : CT l y_H_ask { frames := 7, cells := 0, slots := 0, locals := 116 } (pX Z) (qA (pX Z)) [.ref (al Z 0 0), .int (nI t)] V Y (.inl (some (.int (V 7 t 3 + 1)))) (f_put (f_begin V t) 1 (nI t) 0 (V 7 t 3 + 1)) Y := by
  refine CT.of (cc := b_H_ask) (maxL := 3) (ret := (some .int)) hZ (by decide) w_442 (Nat.le_of_ble_eq_true rfl) ?_
  intro p e s m below meth c C hr hex hlt
  refine gq_iload_n C d_H_ask_0 rfl ?_
  refine gq_callS C (st := []) (fun _ h => h.elim) (c_H_checkTill l Z hZ _ _ (nI t) (f_t0 ht) (f_t4 ht)) w_426 w_427 w_428 w_1 ⟨by decide, by decide, (by decide +kernel : (parseMethodDescriptor y_H_checkTill.desc).map (fun d => d.parameters.length) = some 1)⟩ ⟨by decide, by decide⟩ ⟨by decide, by decide⟩ rfl (Nat.le_of_ble_eq_true rfl) d_H_ask_1 ?_
  refine gq_aload_n C d_H_ask_4 rfl ?_
  refine gq_get C (g := 0) (j := 0) (ci := 7) (k := 3) (v := .ref (al Z 6 0)) (qm (by decide) (by decide)) rfl rfl in_H (by decide) w_206 rfl d_H_ask_5 ?_
  refine gq_iload_n C d_H_ask_8 rfl ?_
  refine gq_aald C (g := 6) (j := 0) (a := t) (t0 := 4) (b := al Z 7 t) (qm (by decide) (by decide)) rfl rfl rfl ht (by decide) rfl d_H_ask_9 ?_
  refine gq_callV C (st := []) (fun _ h => h) (c_T_beginAsking l Z hZ _ _ t ht) (qm (by decide) ht) rfl rfl w_443 w_444 w_445 w_446 w_3 ⟨by decide, by decide, (by decide +kernel : (parseMethodDescriptor y_T_beginAsking.desc).map (fun d => d.parameters.length) = some 0)⟩ ⟨by decide, by decide⟩ ⟨by decide, by decide⟩ rfl (Nat.le_of_ble_eq_true rfl) d_H_ask_10 ?_
  refine gq_istore_n C (lo' := [(2, .int (V 7 t 3 + 1)), (0, .ref (al Z 0 0)), (1, .int (nI t))]) d_H_ask_13 rfl (by decide) rfl ?_
  refine gq_aload_n C d_H_ask_14 rfl ?_
  refine gq_get C (g := 0) (j := 0) (ci := 7) (k := 5) (v := .ref (al Z 12 0)) (qm (by decide) (by decide)) rfl rfl in_H (by decide) w_208 rfl d_H_ask_15 ?_
  refine gq_iconst C (v := 1) d_H_ask_18 (by decide) ?_
  refine gq_iload_n C d_H_ask_19 rfl ?_
  refine gq_iconst C (v := 0) d_H_ask_20 (by decide) ?_
  refine gq_iload_n C d_H_ask_21 rfl ?_
  refine gq_callV C (st := []) (fun _ h => h) (c_R_put l Z hZ _ _ (f_cnt2 hc (by simp [qv_at])) 1 (nI t) 0 (V 7 t 3 + 1)) (qm (by decide) (by decide)) rfl rfl w_362 w_363 w_364 w_365 w_7 ⟨by decide, by decide, (by decide +kernel : (parseMethodDescriptor y_R_post.desc).map (fun d => d.parameters.length) = some 4)⟩ ⟨by decide, by decide⟩ ⟨by decide, by decide⟩ rfl (Nat.le_of_ble_eq_true rfl) d_H_ask_22 ?_
  refine gq_iload_n C d_H_ask_25 rfl ?_
  exact gq_iret C hr (by decide) (by decide) d_H_ask_26

set_option maxHeartbeats 4000000 in
set_option maxRecDepth 100000 in
theorem c_H_giveUp (l : Launch) (Z : qZ) (hZ : qok (pX Z)) (V : qV) (Y : qY) (t : Nat) (ht : t < 4) (h0 : ¬ V 7 t 3 = 0) (h5 : V 7 t 5 = 0) (hc : ∃ q, q ≤ 40 ∧ V 12 0 4 = nI q) : CT l y_H_giveUp { frames := 7, cells := 0, slots := 0, locals := 116 } (pX Z) (qA (pX Z)) [.ref (al Z 0 0), .int (nI t)] V Y (.inl none) (f_put (qv (qv V 7 t 5 1) 7 t 6 0) 4 (nI t) 0 (V 7 t 3)) Y := by
  refine CT.of (cc := b_H_giveUp) (maxL := 3) (ret := none) hZ (by decide) w_454 (Nat.le_of_ble_eq_true rfl) ?_
  intro p e s m below meth c C hr hex hlt
  refine gq_iload_n C d_H_giveUp_0 rfl ?_
  refine gq_callS C (st := []) (fun _ h => h.elim) (c_H_checkTill l Z hZ _ _ (nI t) (f_t0 ht) (f_t4 ht)) w_426 w_427 w_428 w_1 ⟨by decide, by decide, (by decide +kernel : (parseMethodDescriptor y_H_checkTill.desc).map (fun d => d.parameters.length) = some 1)⟩ ⟨by decide, by decide⟩ ⟨by decide, by decide⟩ rfl (Nat.le_of_ble_eq_true rfl) d_H_giveUp_1 ?_
  refine gq_aload_n C d_H_giveUp_4 rfl ?_
  refine gq_get C (g := 0) (j := 0) (ci := 7) (k := 3) (v := .ref (al Z 6 0)) (qm (by decide) (by decide)) rfl rfl in_H (by decide) w_206 rfl d_H_giveUp_5 ?_
  refine gq_iload_n C d_H_giveUp_8 rfl ?_
  refine gq_aald C (g := 6) (j := 0) (a := t) (t0 := 4) (b := al Z 7 t) (qm (by decide) (by decide)) rfl rfl rfl ht (by decide) rfl d_H_giveUp_9 ?_
  refine gq_astore_n C (lo' := [(2, .ref (al Z 7 t)), (0, .ref (al Z 0 0)), (1, .int (nI t))]) d_H_giveUp_10 rfl (by decide) rfl ?_
  refine gq_aload_n C d_H_giveUp_11 rfl ?_
  refine gq_get C (g := 7) (j := t) (ci := 6) (k := 3) (v := .int (V 7 t 3)) (qm (by decide) ht) rfl rfl in_T (by decide) w_76 rfl d_H_giveUp_12 ?_
  refine gq_if_eq C (tgt := 25) d_H_giveUp_15 rfl (fun hb => by first | contradiction | contradiction) (fun hb15 => ?_)
  refine gq_aload_n C d_H_giveUp_18 rfl ?_
  refine gq_get C (g := 7) (j := t) (ci := 6) (k := 5) (v := .int (V 7 t 5)) (qm (by decide) ht) rfl rfl in_T (by decide) w_79 rfl d_H_giveUp_19 ?_
  refine gq_if_eq C (tgt := 33) d_H_giveUp_22 rfl (fun hb22 => ?_) (fun hb => by first | contradiction | contradiction)
  refine gq_aload_n C d_H_giveUp_33 rfl ?_
  refine gq_callV C (st := []) (fun _ h => h) (c_T_endAsking l Z hZ _ _ t ht) (qm (by decide) ht) rfl rfl w_455 w_456 w_457 w_458 w_3 ⟨by decide, by decide, (by decide +kernel : (parseMethodDescriptor y_T_endAsking.desc).map (fun d => d.parameters.length) = some 0)⟩ ⟨by decide, by decide⟩ ⟨by decide, by decide⟩ rfl (Nat.le_of_ble_eq_true rfl) d_H_giveUp_34 ?_
  refine gq_aload_n C d_H_giveUp_37 rfl ?_
  refine gq_get C (g := 0) (j := 0) (ci := 7) (k := 5) (v := .ref (al Z 12 0)) (qm (by decide) (by decide)) rfl rfl in_H (by decide) w_208 rfl d_H_giveUp_38 ?_
  refine gq_iconst C (v := 4) d_H_giveUp_41 (by decide) ?_
  refine gq_iload_n C d_H_giveUp_42 rfl ?_
  refine gq_iconst C (v := 0) d_H_giveUp_43 (by decide) ?_
  refine gq_aload_n C d_H_giveUp_44 rfl ?_
  refine gq_get C (g := 7) (j := t) (ci := 6) (k := 3) (v := .int (V 7 t 3)) (qm (by decide) ht) rfl rfl in_T (by decide) w_76 (by simp [qv_at]) d_H_giveUp_45 ?_
  refine gq_callV C (st := []) (fun _ h => h) (c_R_put l Z hZ _ _ (f_cnt2 hc (by simp [qv_at])) 4 (nI t) 0 (V 7 t 3)) (qm (by decide) (by decide)) rfl rfl w_362 w_363 w_364 w_365 w_7 ⟨by decide, by decide, (by decide +kernel : (parseMethodDescriptor y_R_post.desc).map (fun d => d.parameters.length) = some 4)⟩ ⟨by decide, by decide⟩ ⟨by decide, by decide⟩ rfl (Nat.le_of_ble_eq_true rfl) d_H_giveUp_48 ?_
  exact gq_vret C hr (by decide) (by decide) d_H_giveUp_51

set_option maxHeartbeats 4000000 in
set_option maxRecDepth 100000 in
theorem c_H_giveUp_x2 (l : Launch) (hadm : ∀ e : Env, l.admits e → e.platform.stackTraces = false) (Z : qZ) (hZ : qok (pX Z)) (V : qV) (Y : qY) (t : Nat) (ht : t < 4) (h : V 7 t 3 = 0 ∨ ¬ V 7 t 5 = 0) : CT l y_H_giveUp { frames := 7, cells := 1, slots := 6, locals := 116 } (pX Z) qN [.ref (al Z 0 0), .int (nI t)] V Y (.inr "java/lang/IllegalStateException") V Y := by
  refine CT.of (cc := b_H_giveUp) (maxL := 3) (ret := none) hZ (by decide) w_454 (Nat.le_of_ble_eq_true rfl) ?_
  intro p e s m below meth c C hr hex hlt
  refine gq_iload_n C d_H_giveUp_0 rfl ?_
  refine gq_callS C (st := []) (fun _ h => h) (c_H_checkTill l Z hZ _ _ (nI t) (f_t0 ht) (f_t4 ht)) w_426 w_427 w_428 w_1 ⟨by decide, by decide, (by decide +kernel : (parseMethodDescriptor y_H_checkTill.desc).map (fun d => d.parameters.length) = some 1)⟩ ⟨by decide, by decide⟩ ⟨by decide, by decide⟩ rfl (Nat.le_of_ble_eq_true rfl) d_H_giveUp_1 ?_
  refine gq_aload_n C d_H_giveUp_4 rfl ?_
  refine gq_get C (g := 0) (j := 0) (ci := 7) (k := 3) (v := .ref (al Z 6 0)) (qm (by decide) (by decide)) rfl rfl in_H (by decide) w_206 rfl d_H_giveUp_5 ?_
  refine gq_iload_n C d_H_giveUp_8 rfl ?_
  refine gq_aald C (g := 6) (j := 0) (a := t) (t0 := 4) (b := al Z 7 t) (qm (by decide) (by decide)) rfl rfl rfl ht (by decide) rfl d_H_giveUp_9 ?_
  refine gq_astore_n C (lo' := [(2, .ref (al Z 7 t)), (0, .ref (al Z 0 0)), (1, .int (nI t))]) d_H_giveUp_10 rfl (by decide) rfl ?_
  refine gq_aload_n C d_H_giveUp_11 rfl ?_
  refine gq_get C (g := 7) (j := t) (ci := 6) (k := 3) (v := .int (V 7 t 3)) (qm (by decide) ht) rfl rfl in_T (by decide) w_76 rfl d_H_giveUp_12 ?_
  refine gq_if_eq C (tgt := 25) d_H_giveUp_15 rfl (fun hb15 => ?_) (fun hb15 => ?_)
  · skip
    exact gq_throw C hadm hex hlt tw_IllegalStateException w_340 w_341 w_14 (by decide) (by decide) (by decide) (by decide) (by decide) (Nat.le_of_ble_eq_true rfl) d_H_giveUp_25 d_H_giveUp_28 d_H_giveUp_29 d_H_giveUp_32
  · skip
    refine gq_aload_n C d_H_giveUp_18 rfl ?_
    refine gq_get C (g := 7) (j := t) (ci := 6) (k := 5) (v := .int (V 7 t 5)) (qm (by decide) ht) rfl rfl in_T (by decide) w_79 rfl d_H_giveUp_19 ?_
    refine gq_if_eq C (tgt := 33) d_H_giveUp_22 rfl (fun hb => by first | contradiction | (rcases h with h | h <;> contradiction)) (fun hb22 => ?_)
    exact gq_throw C hadm hex hlt tw_IllegalStateException w_340 w_341 w_14 (by decide) (by decide) (by decide) (by decide) (by decide) (Nat.le_of_ble_eq_true rfl) d_H_giveUp_25 d_H_giveUp_28 d_H_giveUp_29 d_H_giveUp_32

set_option maxHeartbeats 4000000 in
set_option maxRecDepth 100000 in
theorem c_H_lease (l : Launch) (Z : qZ) (hZ : qok (pX Z)) (V : qV) (Y : qY) (t : Nat) (ht : t < 4) : CT l y_H_lease { frames := 7, cells := 0, slots := 0, locals := 116 } (pX Z) qN [.ref (al Z 0 0), .int (nI t)] V Y (.inl (some (.int (f_lease V t)))) V Y := by
  refine CT.of (cc := b_H_lease) (maxL := 2) (ret := (some .int)) hZ (by decide) w_465 (Nat.le_of_ble_eq_true rfl) ?_
  intro p e s m below meth c C hr hex hlt
  refine gq_iload_n C d_H_lease_0 rfl ?_
  refine gq_callS C (st := []) (fun _ h => h) (c_H_checkTill l Z hZ _ _ (nI t) (f_t0 ht) (f_t4 ht)) w_426 w_427 w_428 w_1 ⟨by decide, by decide, (by decide +kernel : (parseMethodDescriptor y_H_checkTill.desc).map (fun d => d.parameters.length) = some 1)⟩ ⟨by decide, by decide⟩ ⟨by decide, by decide⟩ rfl (Nat.le_of_ble_eq_true rfl) d_H_lease_1 ?_
  refine gq_aload_n C d_H_lease_4 rfl ?_
  refine gq_get C (g := 0) (j := 0) (ci := 7) (k := 3) (v := .ref (al Z 6 0)) (qm (by decide) (by decide)) rfl rfl in_H (by decide) w_206 rfl d_H_lease_5 ?_
  refine gq_iload_n C d_H_lease_8 rfl ?_
  refine gq_aald C (g := 6) (j := 0) (a := t) (t0 := 4) (b := al Z 7 t) (qm (by decide) (by decide)) rfl rfl rfl ht (by decide) rfl d_H_lease_9 ?_
  refine gq_callV C (st := []) (fun _ h => h) (c_T_validLease l Z hZ _ _ t ht) (qm (by decide) ht) rfl rfl w_466 w_467 w_468 w_469 w_3 ⟨by decide, by decide, (by decide +kernel : (parseMethodDescriptor y_T_validLease.desc).map (fun d => d.parameters.length) = some 0)⟩ ⟨by decide, by decide⟩ ⟨by decide, by decide⟩ rfl (Nat.le_of_ble_eq_true rfl) d_H_lease_10 ?_
  exact gq_iret C hr (by decide) (by decide) d_H_lease_13

set_option maxHeartbeats 4000000 in
set_option maxRecDepth 100000 in
theorem c_H_loaded (l : Launch) (Z : qZ) (hZ : qok (pX Z)) (V : qV) (Y : qY) (t : Nat) (ht : t < 4) : CT l y_H_loaded { frames := 7, cells := 0, slots := 0, locals := 116 } (pX Z) qN [.ref (al Z 0 0), .int (nI t)] V Y (.inl (some (.int (V 7 t 1)))) V Y := by
  refine CT.of (cc := b_H_loaded) (maxL := 2) (ret := (some .int)) hZ (by decide) w_476 (Nat.le_of_ble_eq_true rfl) ?_
  intro p e s m below meth c C hr hex hlt
  refine gq_iload_n C d_H_loaded_0 rfl ?_
  refine gq_callS C (st := []) (fun _ h => h) (c_H_checkTill l Z hZ _ _ (nI t) (f_t0 ht) (f_t4 ht)) w_426 w_427 w_428 w_1 ⟨by decide, by decide, (by decide +kernel : (parseMethodDescriptor y_H_checkTill.desc).map (fun d => d.parameters.length) = some 1)⟩ ⟨by decide, by decide⟩ ⟨by decide, by decide⟩ rfl (Nat.le_of_ble_eq_true rfl) d_H_loaded_1 ?_
  refine gq_aload_n C d_H_loaded_4 rfl ?_
  refine gq_get C (g := 0) (j := 0) (ci := 7) (k := 3) (v := .ref (al Z 6 0)) (qm (by decide) (by decide)) rfl rfl in_H (by decide) w_206 rfl d_H_loaded_5 ?_
  refine gq_iload_n C d_H_loaded_8 rfl ?_
  refine gq_aald C (g := 6) (j := 0) (a := t) (t0 := 4) (b := al Z 7 t) (qm (by decide) (by decide)) rfl rfl rfl ht (by decide) rfl d_H_loaded_9 ?_
  refine gq_get C (g := 7) (j := t) (ci := 6) (k := 1) (v := .int (V 7 t 1)) (qm (by decide) ht) rfl rfl in_T (by decide) w_72 rfl d_H_loaded_10 ?_
  exact gq_iret C hr (by decide) (by decide) d_H_loaded_13

set_option maxHeartbeats 4000000 in
set_option maxRecDepth 100000 in
theorem c_H_restart_desk (l : Launch) (Z : qZ) (hZ : qok (pX Z)) (V : qV) (Y : qY) (h1 : f_isTD 4 = 1) : CT l y_H_restart { frames := 6, cells := 0, slots := 0, locals := 96 } (pX Z) (qA (pX Z)) [.ref (al Z 0 0), .int 4] V Y (.inl none) (f_again V) Y := by
  refine CT.of (cc := b_H_restart) (maxL := 2) (ret := none) hZ (by decide) w_646 (Nat.le_of_ble_eq_true rfl) ?_
  intro p e s m below meth c C hr hex hlt
  refine gq_iload_n C d_H_restart_0 rfl ?_
  refine gq_callS C (st := []) (fun _ h => h.elim) (c_H_isTillOrDesk l Z hZ _ _ 4) w_416 w_417 w_418 w_1 ⟨by decide, by decide, (by decide +kernel : (parseMethodDescriptor y_H_isTillOrDesk.desc).map (fun d => d.parameters.length) = some 1)⟩ ⟨by decide, by decide⟩ ⟨by decide, by decide⟩ rfl (Nat.le_of_ble_eq_true rfl) d_H_restart_1 ?_
  refine gq_if_ne C (tgt := 15) d_H_restart_4 rfl (fun hb4 => ?_) (fun hb => by first | contradiction | simp_all)
  refine gq_iload_n C d_H_restart_15 rfl ?_
  refine gq_iconst C (v := 4) d_H_restart_16 (by decide) ?_
  refine gq_icmp_ne C (tgt := 30) d_H_restart_17 rfl (fun hb => by exact absurd hb (by decide)) (fun hb17 => ?_)
  refine gq_aload_n C d_H_restart_20 rfl ?_
  refine gq_get C (g := 0) (j := 0) (ci := 7) (k := 4) (v := .ref (al Z 9 0)) (qm (by decide) (by decide)) rfl rfl in_H (by decide) w_207 rfl d_H_restart_21 ?_
  refine gq_callV C (st := []) (fun _ h => h) (c_D_forgetAndWait l Z hZ _ _) (qm (by decide) (by decide)) rfl rfl w_647 w_648 w_649 w_650 w_5 ⟨by decide, by decide, (by decide +kernel : (parseMethodDescriptor y_D_forgetAndWait.desc).map (fun d => d.parameters.length) = some 0)⟩ ⟨by decide, by decide⟩ ⟨by decide, by decide⟩ rfl (Nat.le_of_ble_eq_true rfl) d_H_restart_24 ?_
  refine gq_goto C (tgt := 39) d_H_restart_27 rfl ?_
  exact gq_vret C hr (by decide) (by decide) d_H_restart_39

set_option maxHeartbeats 4000000 in
set_option maxRecDepth 100000 in
theorem c_H_restart (l : Launch) (Z : qZ) (hZ : qok (pX Z)) (V : qV) (Y : qY) (t : Nat) (ht : t < 4) (h1 : f_isTD (nI t) = 1) : CT l y_H_restart { frames := 6, cells := 0, slots := 0, locals := 96 } (pX Z) (qA (pX Z)) [.ref (al Z 0 0), .int (nI t)] V Y (.inl none) (qv (qv V 7 t 5 1) 7 t 6 0) Y := by
  refine CT.of (cc := b_H_restart) (maxL := 2) (ret := none) hZ (by decide) w_646 (Nat.le_of_ble_eq_true rfl) ?_
  intro p e s m below meth c C hr hex hlt
  refine gq_iload_n C d_H_restart_0 rfl ?_
  refine gq_callS C (st := []) (fun _ h => h.elim) (c_H_isTillOrDesk l Z hZ _ _ (nI t)) w_416 w_417 w_418 w_1 ⟨by decide, by decide, (by decide +kernel : (parseMethodDescriptor y_H_isTillOrDesk.desc).map (fun d => d.parameters.length) = some 1)⟩ ⟨by decide, by decide⟩ ⟨by decide, by decide⟩ rfl (Nat.le_of_ble_eq_true rfl) d_H_restart_1 ?_
  refine gq_if_ne C (tgt := 15) d_H_restart_4 rfl (fun hb4 => ?_) (fun hb => by first | contradiction | simp_all)
  refine gq_iload_n C d_H_restart_15 rfl ?_
  refine gq_iconst C (v := 4) d_H_restart_16 (by decide) ?_
  refine gq_icmp_ne C (tgt := 30) d_H_restart_17 rfl (fun hb17 => ?_) (fun hb => by exact absurd hb (f_n4 ht))
  refine gq_aload_n C d_H_restart_30 rfl ?_
  refine gq_get C (g := 0) (j := 0) (ci := 7) (k := 3) (v := .ref (al Z 6 0)) (qm (by decide) (by decide)) rfl rfl in_H (by decide) w_206 rfl d_H_restart_31 ?_
  refine gq_iload_n C d_H_restart_34 rfl ?_
  refine gq_aald C (g := 6) (j := 0) (a := t) (t0 := 4) (b := al Z 7 t) (qm (by decide) (by decide)) rfl rfl rfl ht (by decide) rfl d_H_restart_35 ?_
  refine gq_callV C (st := []) (fun _ h => h) (c_T_endAsking l Z hZ _ _ t ht) (qm (by decide) ht) rfl rfl w_455 w_456 w_457 w_458 w_3 ⟨by decide, by decide, (by decide +kernel : (parseMethodDescriptor y_T_endAsking.desc).map (fun d => d.parameters.length) = some 0)⟩ ⟨by decide, by decide⟩ ⟨by decide, by decide⟩ rfl (Nat.le_of_ble_eq_true rfl) d_H_restart_36 ?_
  exact gq_vret C hr (by decide) (by decide) d_H_restart_39

set_option maxHeartbeats 4000000 in
set_option maxRecDepth 100000 in
theorem c_H_restart_x (l : Launch) (hadm : ∀ e : Env, l.admits e → e.platform.stackTraces = false) (Z : qZ) (hZ : qok (pX Z)) (V : qV) (Y : qY) (w : Int32) (h : f_isTD w = 0) : CT l y_H_restart { frames := 6, cells := 1, slots := 6, locals := 96 } (pX Z) qN [.ref (al Z 0 0), .int w] V Y (.inr "java/lang/IllegalArgumentException") V Y := by
  refine CT.of (cc := b_H_restart) (maxL := 2) (ret := none) hZ (by decide) w_646 (Nat.le_of_ble_eq_true rfl) ?_
  intro p e s m below meth c C hr hex hlt
  refine gq_iload_n C d_H_restart_0 rfl ?_
  refine gq_callS C (st := []) (fun _ h => h) (c_H_isTillOrDesk l Z hZ _ _ w) w_416 w_417 w_418 w_1 ⟨by decide, by decide, (by decide +kernel : (parseMethodDescriptor y_H_isTillOrDesk.desc).map (fun d => d.parameters.length) = some 1)⟩ ⟨by decide, by decide⟩ ⟨by decide, by decide⟩ rfl (Nat.le_of_ble_eq_true rfl) d_H_restart_1 ?_
  refine gq_if_ne C (tgt := 15) d_H_restart_4 rfl (fun hb => by first | contradiction | contradiction) (fun hb4 => ?_)
  exact gq_throw C hadm hex hlt tw_IllegalArgumentException w_255 w_256 w_13 (by decide) (by decide) (by decide) (by decide) (by decide) (Nat.le_of_ble_eq_true rfl) d_H_restart_7 d_H_restart_10 d_H_restart_11 d_H_restart_14

set_option maxHeartbeats 4000000 in
set_option maxRecDepth 100000 in
theorem c_H_deliver_x1 (l : Launch) (hadm : ∀ e : Env, l.admits e → e.platform.stackTraces = false) (Z : qZ) (hZ : qok (pX Z)) (V : qV) (Y : qY) (i : Int32) (h : i < 0 ∨ ¬ i < V 12 0 4) : CT l y_H_deliver { frames := 7, cells := 1, slots := 6, locals := 129 } (pX Z) qN [.ref (al Z 0 0), .int i] V Y (.inr "java/lang/IndexOutOfBoundsException") V Y := by
  refine CT.of (cc := b_H_deliver) (maxL := 6) (ret := none) hZ (by decide) w_484 (Nat.le_of_ble_eq_true rfl) ?_
  intro p e s m below meth c C hr hex hlt
  refine gq_aload_n C d_H_deliver_0 rfl ?_
  refine gq_iload_n C d_H_deliver_1 rfl ?_
  exact gq_thrV C (st := []) hex (fun _ h => h) (c_H_checkLetter_x l hadm Z hZ _ _ i h) (qm (by decide) (by decide)) rfl rfl w_485 w_487 ws_H_checkLetter w_488 w_1 ⟨by decide, by decide, (by decide +kernel : (parseMethodDescriptor y_H_checkLetter.desc).map (fun d => d.parameters.length) = some 1)⟩ ⟨by decide, by decide⟩ ⟨by decide, by decide⟩ ⟨by decide, by decide⟩ rfl (Nat.le_of_ble_eq_true rfl) d_H_deliver_2

set_option maxHeartbeats 4000000 in
set_option maxRecDepth 100000 in
theorem c_H_lose_x1 (l : Launch) (hadm : ∀ e : Env, l.admits e → e.platform.stackTraces = false) (Z : qZ) (hZ : qok (pX Z)) (V : qV) (Y : qY) (i : Int32) (h : i < 0 ∨ ¬ i < V 12 0 4) : CT l y_H_lose { frames := 7, cells := 1, slots := 6, locals := 117 } (pX Z) qN [.ref (al Z 0 0), .int i] V Y (.inr "java/lang/IndexOutOfBoundsException") V Y := by
  refine CT.of (cc := b_H_lose) (maxL := 2) (ret := none) hZ (by decide) w_550 (Nat.le_of_ble_eq_true rfl) ?_
  intro p e s m below meth c C hr hex hlt
  refine gq_aload_n C d_H_lose_0 rfl ?_
  refine gq_iload_n C d_H_lose_1 rfl ?_
  exact gq_thrV C (st := []) hex (fun _ h => h) (c_H_checkLetter_x l hadm Z hZ _ _ i h) (qm (by decide) (by decide)) rfl rfl w_485 w_487 ws_H_checkLetter w_488 w_1 ⟨by decide, by decide, (by decide +kernel : (parseMethodDescriptor y_H_checkLetter.desc).map (fun d => d.parameters.length) = some 1)⟩ ⟨by decide, by decide⟩ ⟨by decide, by decide⟩ ⟨by decide, by decide⟩ rfl (Nat.le_of_ble_eq_true rfl) d_H_lose_2

set_option maxHeartbeats 4000000 in
set_option maxRecDepth 100000 in
theorem c_H_twin_x1 (l : Launch) (hadm : ∀ e : Env, l.admits e → e.platform.stackTraces = false) (Z : qZ) (hZ : qok (pX Z)) (V : qV) (Y : qY) (i : Int32) (h : i < 0 ∨ ¬ i < V 12 0 4) : CT l y_H_twin { frames := 7, cells := 1, slots := 6, locals := 117 } (pX Z) qN [.ref (al Z 0 0), .int i] V Y (.inr "java/lang/IndexOutOfBoundsException") V Y := by
  refine CT.of (cc := b_H_twin) (maxL := 2) (ret := none) hZ (by decide) w_557 (Nat.le_of_ble_eq_true rfl) ?_
  intro p e s m below meth c C hr hex hlt
  refine gq_aload_n C d_H_twin_0 rfl ?_
  refine gq_iload_n C d_H_twin_1 rfl ?_
  exact gq_thrV C (st := []) hex (fun _ h => h) (c_H_checkLetter_x l hadm Z hZ _ _ i h) (qm (by decide) (by decide)) rfl rfl w_485 w_487 ws_H_checkLetter w_488 w_1 ⟨by decide, by decide, (by decide +kernel : (parseMethodDescriptor y_H_checkLetter.desc).map (fun d => d.parameters.length) = some 1)⟩ ⟨by decide, by decide⟩ ⟨by decide, by decide⟩ ⟨by decide, by decide⟩ rfl (Nat.le_of_ble_eq_true rfl) d_H_twin_2

set_option maxHeartbeats 4000000 in
set_option maxRecDepth 100000 in
theorem c_H_letter_x1 (l : Launch) (hadm : ∀ e : Env, l.admits e → e.platform.stackTraces = false) (Z : qZ) (hZ : qok (pX Z)) (V : qV) (Y : qY) (i : Int32) (h : i < 0 ∨ ¬ i < V 12 0 4) (w : Int32) : CT l y_H_letter { frames := 7, cells := 1, slots := 6, locals := 117 } (pX Z) qN [.ref (al Z 0 0), .int i, .int w] V Y (.inr "java/lang/IndexOutOfBoundsException") V Y := by
  refine CT.of (cc := b_H_letter) (maxL := 3) (ret := (some .int)) hZ (by decide) w_565 (Nat.le_of_ble_eq_true rfl) ?_
  intro p e s m below meth c C hr hex hlt
  refine gq_aload_n C d_H_letter_0 rfl ?_
  refine gq_iload_n C d_H_letter_1 rfl ?_
  exact gq_thrV C (st := []) hex (fun _ h => h) (c_H_checkLetter_x l hadm Z hZ _ _ i h) (qm (by decide) (by decide)) rfl rfl w_485 w_487 ws_H_checkLetter w_488 w_1 ⟨by decide, by decide, (by decide +kernel : (parseMethodDescriptor y_H_checkLetter.desc).map (fun d => d.parameters.length) = some 1)⟩ ⟨by decide, by decide⟩ ⟨by decide, by decide⟩ ⟨by decide, by decide⟩ rfl (Nat.le_of_ble_eq_true rfl) d_H_letter_2

set_option maxHeartbeats 4000000 in
set_option maxRecDepth 100000 in
theorem c_H_lose (l : Launch) (Z : qZ) (hZ : qok (pX Z)) (V : qV) (Y : qY) (i n : Nat) (hi : i < n) (hn : n ≤ 40) (h4 : V 12 0 4 = nI n) : CT l y_H_lose { frames := 7, cells := 0, slots := 0, locals := 117 } (pX Z) (qA (pX Z)) [.ref (al Z 0 0), .int (nI i)] V Y (.inl none) (f_takeOut V i n) Y := by
  refine CT.of (cc := b_H_lose) (maxL := 2) (ret := none) hZ (by decide) w_550 (Nat.le_of_ble_eq_true rfl) ?_
  intro p e s m below meth c C hr hex hlt
  refine gq_aload_n C d_H_lose_0 rfl ?_
  refine gq_iload_n C d_H_lose_1 rfl ?_
  refine gq_callV C (st := []) (fun _ h => h.elim) (c_H_checkLetter l Z hZ _ _ (nI i) (f_i0 hi hn) (f_i4 hi hn h4)) (qm (by decide) (by decide)) rfl rfl w_485 w_487 ws_H_checkLetter w_488 w_1 ⟨by decide, by decide, (by decide +kernel : (parseMethodDescriptor y_H_checkLetter.desc).map (fun d => d.parameters.length) = some 1)⟩ ⟨by decide, by decide⟩ ⟨by decide, by decide⟩ rfl (Nat.le_of_ble_eq_true rfl) d_H_lose_2 ?_
  refine gq_aload_n C d_H_lose_5 rfl ?_
  refine gq_get C (g := 0) (j := 0) (ci := 7) (k := 5) (v := .ref (al Z 12 0)) (qm (by decide) (by decide)) rfl rfl in_H (by decide) w_208 rfl d_H_lose_6 ?_
  refine gq_iload_n C d_H_lose_9 rfl ?_
  refine gq_callV C (st := []) (fun _ h => h) (c_R_takeOut l Z hZ _ _ i n hi hn h4 (f_beh hi hn h4)) (qm (by decide) (by decide)) rfl rfl w_504 w_505 w_506 w_507 w_7 ⟨by decide, by decide, (by decide +kernel : (parseMethodDescriptor y_R_takeOut.desc).map (fun d => d.parameters.length) = some 1)⟩ ⟨by decide, by decide⟩ ⟨by decide, by decide⟩ rfl (Nat.le_of_ble_eq_true rfl) d_H_lose_10 ?_
  exact gq_vret C hr (by decide) (by decide) d_H_lose_13

set_option maxHeartbeats 4000000 in
set_option maxRecDepth 100000 in
theorem c_H_twin (l : Launch) (Z : qZ) (hZ : qok (pX Z)) (V : qV) (Y : qY) (i n : Nat) (hi : i < n) (hn : n ≤ 40) (h4 : V 12 0 4 = nI n) (hf : n < 40) : CT l y_H_twin { frames := 7, cells := 0, slots := 0, locals := 117 } (pX Z) (qA (pX Z)) [.ref (al Z 0 0), .int (nI i)] V Y (.inl none) (f_put V (V 13 0 i) (V 13 1 i) (V 13 2 i) (V 13 3 i)) Y := by
  refine CT.of (cc := b_H_twin) (maxL := 2) (ret := none) hZ (by decide) w_557 (Nat.le_of_ble_eq_true rfl) ?_
  intro p e s m below meth c C hr hex hlt
  refine gq_aload_n C d_H_twin_0 rfl ?_
  refine gq_iload_n C d_H_twin_1 rfl ?_
  refine gq_callV C (st := []) (fun _ h => h.elim) (c_H_checkLetter l Z hZ _ _ (nI i) (f_i0 hi hn) (f_i4 hi hn h4)) (qm (by decide) (by decide)) rfl rfl w_485 w_487 ws_H_checkLetter w_488 w_1 ⟨by decide, by decide, (by decide +kernel : (parseMethodDescriptor y_H_checkLetter.desc).map (fun d => d.parameters.length) = some 1)⟩ ⟨by decide, by decide⟩ ⟨by decide, by decide⟩ rfl (Nat.le_of_ble_eq_true rfl) d_H_twin_2 ?_
  refine gq_aload_n C d_H_twin_5 rfl ?_
  refine gq_get C (g := 0) (j := 0) (ci := 7) (k := 5) (v := .ref (al Z 12 0)) (qm (by decide) (by decide)) rfl rfl in_H (by decide) w_208 rfl d_H_twin_6 ?_
  refine gq_callV C (st := []) (fun _ h => h.elim) (c_R_isFull l Z hZ _ _) (qm (by decide) (by decide)) rfl rfl w_558 w_367 w_368 w_369 w_7 ⟨by decide, by decide, (by decide +kernel : (parseMethodDescriptor y_R_isFull.desc).map (fun d => d.parameters.length) = some 0)⟩ ⟨by decide, by decide⟩ ⟨by decide, by decide⟩ rfl (Nat.le_of_ble_eq_true rfl) d_H_twin_9 ?_
  refine gq_if_eq C (tgt := 23) d_H_twin_12 rfl (fun hb12 => ?_) (fun hb => by exact absurd (by rw [h4, if_pos (show nI n < (40 : Int32) from nI_lt hf (by decide))]) hb)
  refine gq_aload_n C d_H_twin_23 rfl ?_
  refine gq_get C (g := 0) (j := 0) (ci := 7) (k := 5) (v := .ref (al Z 12 0)) (qm (by decide) (by decide)) rfl rfl in_H (by decide) w_208 rfl d_H_twin_24 ?_
  refine gq_aload_n C d_H_twin_27 rfl ?_
  refine gq_get C (g := 0) (j := 0) (ci := 7) (k := 5) (v := .ref (al Z 12 0)) (qm (by decide) (by decide)) rfl rfl in_H (by decide) w_208 rfl d_H_twin_28 ?_
  refine gq_get C (g := 12) (j := 0) (ci := 3) (k := 0) (v := .ref (al Z 13 0)) (qm (by decide) (by decide)) rfl rfl in_R (by decide) w_159 rfl d_H_twin_31 ?_
  refine gq_iload_n C d_H_twin_34 rfl ?_
  refine gq_iald C (g := 13) (j := 0) (a := i) (t0 := 0) (qm (by decide) (by decide)) rfl rfl rfl (Nat.lt_of_lt_of_le hi hn) (by decide) d_H_twin_35 ?_
  refine gq_aload_n C d_H_twin_36 rfl ?_
  refine gq_get C (g := 0) (j := 0) (ci := 7) (k := 5) (v := .ref (al Z 12 0)) (qm (by decide) (by decide)) rfl rfl in_H (by decide) w_208 rfl d_H_twin_37 ?_
  refine gq_get C (g := 12) (j := 0) (ci := 3) (k := 1) (v := .ref (al Z 13 1)) (qm (by decide) (by decide)) rfl rfl in_R (by decide) w_161 rfl d_H_twin_40 ?_
  refine gq_iload_n C d_H_twin_43 rfl ?_
  refine gq_iald C (g := 13) (j := 1) (a := i) (t0 := 0) (qm (by decide) (by decide)) rfl rfl rfl (Nat.lt_of_lt_of_le hi hn) (by decide) d_H_twin_44 ?_
  refine gq_aload_n C d_H_twin_45 rfl ?_
  refine gq_get C (g := 0) (j := 0) (ci := 7) (k := 5) (v := .ref (al Z 12 0)) (qm (by decide) (by decide)) rfl rfl in_H (by decide) w_208 rfl d_H_twin_46 ?_
  refine gq_get C (g := 12) (j := 0) (ci := 3) (k := 2) (v := .ref (al Z 13 2)) (qm (by decide) (by decide)) rfl rfl in_R (by decide) w_163 rfl d_H_twin_49 ?_
  refine gq_iload_n C d_H_twin_52 rfl ?_
  refine gq_iald C (g := 13) (j := 2) (a := i) (t0 := 0) (qm (by decide) (by decide)) rfl rfl rfl (Nat.lt_of_lt_of_le hi hn) (by decide) d_H_twin_53 ?_
  refine gq_aload_n C d_H_twin_54 rfl ?_
  refine gq_get C (g := 0) (j := 0) (ci := 7) (k := 5) (v := .ref (al Z 12 0)) (qm (by decide) (by decide)) rfl rfl in_H (by decide) w_208 rfl d_H_twin_55 ?_
  refine gq_get C (g := 12) (j := 0) (ci := 3) (k := 3) (v := .ref (al Z 13 3)) (qm (by decide) (by decide)) rfl rfl in_R (by decide) w_165 rfl d_H_twin_58 ?_
  refine gq_iload_n C d_H_twin_61 rfl ?_
  refine gq_iald C (g := 13) (j := 3) (a := i) (t0 := 0) (qm (by decide) (by decide)) rfl rfl rfl (Nat.lt_of_lt_of_le hi hn) (by decide) d_H_twin_62 ?_
  refine gq_callV C (st := []) (fun _ h => h) (c_R_put l Z hZ _ _ ⟨n, hn, h4⟩ (V 13 0 i) (V 13 1 i) (V 13 2 i) (V 13 3 i)) (qm (by decide) (by decide)) rfl rfl w_362 w_363 w_364 w_365 w_7 ⟨by decide, by decide, (by decide +kernel : (parseMethodDescriptor y_R_post.desc).map (fun d => d.parameters.length) = some 4)⟩ ⟨by decide, by decide⟩ ⟨by decide, by decide⟩ rfl (Nat.le_of_ble_eq_true rfl) d_H_twin_63 ?_
  exact gq_vret C hr (by decide) (by decide) d_H_twin_66

set_option maxHeartbeats 4000000 in
set_option maxRecDepth 100000 in
theorem c_H_twin_x2 (l : Launch) (hadm : ∀ e : Env, l.admits e → e.platform.stackTraces = false) (Z : qZ) (hZ : qok (pX Z)) (V : qV) (Y : qY) (i n : Nat) (hi : i < n) (hn : n ≤ 40) (h4 : V 12 0 4 = nI n) (hf : n = 40) : CT l y_H_twin { frames := 7, cells := 1, slots := 6, locals := 117 } (pX Z) qN [.ref (al Z 0 0), .int (nI i)] V Y (.inr "java/lang/IllegalStateException") V Y := by
  refine CT.of (cc := b_H_twin) (maxL := 2) (ret := none) hZ (by decide) w_557 (Nat.le_of_ble_eq_true rfl) ?_
  intro p e s m below meth c C hr hex hlt
  refine gq_aload_n C d_H_twin_0 rfl ?_
  refine gq_iload_n C d_H_twin_1 rfl ?_
  refine gq_callV C (st := []) (fun _ h => h) (c_H_checkLetter l Z hZ _ _ (nI i) (f_i0 hi hn) (f_i4 hi hn h4)) (qm (by decide) (by decide)) rfl rfl w_485 w_487 ws_H_checkLetter w_488 w_1 ⟨by decide, by decide, (by decide +kernel : (parseMethodDescriptor y_H_checkLetter.desc).map (fun d => d.parameters.length) = some 1)⟩ ⟨by decide, by decide⟩ ⟨by decide, by decide⟩ rfl (Nat.le_of_ble_eq_true rfl) d_H_twin_2 ?_
  refine gq_aload_n C d_H_twin_5 rfl ?_
  refine gq_get C (g := 0) (j := 0) (ci := 7) (k := 5) (v := .ref (al Z 12 0)) (qm (by decide) (by decide)) rfl rfl in_H (by decide) w_208 rfl d_H_twin_6 ?_
  refine gq_callV C (st := []) (fun _ h => h) (c_R_isFull l Z hZ _ _) (qm (by decide) (by decide)) rfl rfl w_558 w_367 w_368 w_369 w_7 ⟨by decide, by decide, (by decide +kernel : (parseMethodDescriptor y_R_isFull.desc).map (fun d => d.parameters.length) = some 0)⟩ ⟨by decide, by decide⟩ ⟨by decide, by decide⟩ rfl (Nat.le_of_ble_eq_true rfl) d_H_twin_9 ?_
  refine gq_if_eq C (tgt := 23) d_H_twin_12 rfl (fun hb => by exact absurd hb (by rw [h4, hf]; decide)) (fun hb12 => ?_)
  exact gq_throw C hadm hex hlt tw_IllegalStateException w_340 w_341 w_14 (by decide) (by decide) (by decide) (by decide) (by decide) (Nat.le_of_ble_eq_true rfl) d_H_twin_15 d_H_twin_18 d_H_twin_19 d_H_twin_22

set_option maxHeartbeats 4000000 in
set_option maxRecDepth 100000 in
theorem c_H_letter_0 (l : Launch) (Z : qZ) (hZ : qok (pX Z)) (V : qV) (Y : qY) (i n : Nat) (hi : i < n) (hn : n ≤ 40) (h4 : V 12 0 4 = nI n) : CT l y_H_letter { frames := 7, cells := 0, slots := 0, locals := 117 } (pX Z) qN [.ref (al Z 0 0), .int (nI i), .int 0] V Y (.inl (some (.int (V 13 0 i)))) V Y := by
  refine CT.of (cc := b_H_letter) (maxL := 3) (ret := (some .int)) hZ (by decide) w_565 (Nat.le_of_ble_eq_true rfl) ?_
  intro p e s m below meth c C hr hex hlt
  refine gq_aload_n C d_H_letter_0 rfl ?_
  refine gq_iload_n C d_H_letter_1 rfl ?_
  refine gq_callV C (st := []) (fun _ h => h) (c_H_checkLetter l Z hZ _ _ (nI i) (f_i0 hi hn) (f_i4 hi hn h4)) (qm (by decide) (by decide)) rfl rfl w_485 w_487 ws_H_checkLetter w_488 w_1 ⟨by decide, by decide, (by decide +kernel : (parseMethodDescriptor y_H_checkLetter.desc).map (fun d => d.parameters.length) = some 1)⟩ ⟨by decide, by decide⟩ ⟨by decide, by decide⟩ rfl (Nat.le_of_ble_eq_true rfl) d_H_letter_2 ?_
  refine gq_iload_n C d_H_letter_5 rfl ?_
  refine gq_tableIn C (tgt := 36) d_H_letter_6 (by decide) (by decide) rfl rfl ?_
  refine gq_aload_n C d_H_letter_36 rfl ?_
  refine gq_get C (g := 0) (j := 0) (ci := 7) (k := 5) (v := .ref (al Z 12 0)) (qm (by decide) (by decide)) rfl rfl in_H (by decide) w_208 rfl d_H_letter_37 ?_
  refine gq_get C (g := 12) (j := 0) (ci := 3) (k := 0) (v := .ref (al Z 13 0)) (qm (by decide) (by decide)) rfl rfl in_R (by decide) w_159 rfl d_H_letter_40 ?_
  refine gq_iload_n C d_H_letter_43 rfl ?_
  refine gq_iald C (g := 13) (j := 0) (a := i) (t0 := 0) (qm (by decide) (by decide)) rfl rfl rfl (Nat.lt_of_lt_of_le hi hn) (by decide) d_H_letter_44 ?_
  exact gq_iret C hr (by decide) (by decide) d_H_letter_45

set_option maxHeartbeats 4000000 in
set_option maxRecDepth 100000 in
theorem c_H_letter_1 (l : Launch) (Z : qZ) (hZ : qok (pX Z)) (V : qV) (Y : qY) (i n : Nat) (hi : i < n) (hn : n ≤ 40) (h4 : V 12 0 4 = nI n) : CT l y_H_letter { frames := 7, cells := 0, slots := 0, locals := 117 } (pX Z) qN [.ref (al Z 0 0), .int (nI i), .int 1] V Y (.inl (some (.int (V 13 1 i)))) V Y := by
  refine CT.of (cc := b_H_letter) (maxL := 3) (ret := (some .int)) hZ (by decide) w_565 (Nat.le_of_ble_eq_true rfl) ?_
  intro p e s m below meth c C hr hex hlt
  refine gq_aload_n C d_H_letter_0 rfl ?_
  refine gq_iload_n C d_H_letter_1 rfl ?_
  refine gq_callV C (st := []) (fun _ h => h) (c_H_checkLetter l Z hZ _ _ (nI i) (f_i0 hi hn) (f_i4 hi hn h4)) (qm (by decide) (by decide)) rfl rfl w_485 w_487 ws_H_checkLetter w_488 w_1 ⟨by decide, by decide, (by decide +kernel : (parseMethodDescriptor y_H_checkLetter.desc).map (fun d => d.parameters.length) = some 1)⟩ ⟨by decide, by decide⟩ ⟨by decide, by decide⟩ rfl (Nat.le_of_ble_eq_true rfl) d_H_letter_2 ?_
  refine gq_iload_n C d_H_letter_5 rfl ?_
  refine gq_tableIn C (tgt := 46) d_H_letter_6 (by decide) (by decide) rfl rfl ?_
  refine gq_aload_n C d_H_letter_46 rfl ?_
  refine gq_get C (g := 0) (j := 0) (ci := 7) (k := 5) (v := .ref (al Z 12 0)) (qm (by decide) (by decide)) rfl rfl in_H (by decide) w_208 rfl d_H_letter_47 ?_
  refine gq_get C (g := 12) (j := 0) (ci := 3) (k := 1) (v := .ref (al Z 13 1)) (qm (by decide) (by decide)) rfl rfl in_R (by decide) w_161 rfl d_H_letter_50 ?_
  refine gq_iload_n C d_H_letter_53 rfl ?_
  refine gq_iald C (g := 13) (j := 1) (a := i) (t0 := 0) (qm (by decide) (by decide)) rfl rfl rfl (Nat.lt_of_lt_of_le hi hn) (by decide) d_H_letter_54 ?_
  exact gq_iret C hr (by decide) (by decide) d_H_letter_55

set_option maxHeartbeats 4000000 in
set_option maxRecDepth 100000 in
theorem c_H_letter_2 (l : Launch) (Z : qZ) (hZ : qok (pX Z)) (V : qV) (Y : qY) (i n : Nat) (hi : i < n) (hn : n ≤ 40) (h4 : V 12 0 4 = nI n) : CT l y_H_letter { frames := 7, cells := 0, slots := 0, locals := 117 } (pX Z) qN [.ref (al Z 0 0), .int (nI i), .int 2] V Y (.inl (some (.int (V 13 2 i)))) V Y := by
  refine CT.of (cc := b_H_letter) (maxL := 3) (ret := (some .int)) hZ (by decide) w_565 (Nat.le_of_ble_eq_true rfl) ?_
  intro p e s m below meth c C hr hex hlt
  refine gq_aload_n C d_H_letter_0 rfl ?_
  refine gq_iload_n C d_H_letter_1 rfl ?_
  refine gq_callV C (st := []) (fun _ h => h) (c_H_checkLetter l Z hZ _ _ (nI i) (f_i0 hi hn) (f_i4 hi hn h4)) (qm (by decide) (by decide)) rfl rfl w_485 w_487 ws_H_checkLetter w_488 w_1 ⟨by decide, by decide, (by decide +kernel : (parseMethodDescriptor y_H_checkLetter.desc).map (fun d => d.parameters.length) = some 1)⟩ ⟨by decide, by decide⟩ ⟨by decide, by decide⟩ rfl (Nat.le_of_ble_eq_true rfl) d_H_letter_2 ?_
  refine gq_iload_n C d_H_letter_5 rfl ?_
  refine gq_tableIn C (tgt := 56) d_H_letter_6 (by decide) (by decide) rfl rfl ?_
  refine gq_aload_n C d_H_letter_56 rfl ?_
  refine gq_get C (g := 0) (j := 0) (ci := 7) (k := 5) (v := .ref (al Z 12 0)) (qm (by decide) (by decide)) rfl rfl in_H (by decide) w_208 rfl d_H_letter_57 ?_
  refine gq_get C (g := 12) (j := 0) (ci := 3) (k := 2) (v := .ref (al Z 13 2)) (qm (by decide) (by decide)) rfl rfl in_R (by decide) w_163 rfl d_H_letter_60 ?_
  refine gq_iload_n C d_H_letter_63 rfl ?_
  refine gq_iald C (g := 13) (j := 2) (a := i) (t0 := 0) (qm (by decide) (by decide)) rfl rfl rfl (Nat.lt_of_lt_of_le hi hn) (by decide) d_H_letter_64 ?_
  exact gq_iret C hr (by decide) (by decide) d_H_letter_65

set_option maxHeartbeats 4000000 in
set_option maxRecDepth 100000 in
theorem c_H_letter_3 (l : Launch) (Z : qZ) (hZ : qok (pX Z)) (V : qV) (Y : qY) (i n : Nat) (hi : i < n) (hn : n ≤ 40) (h4 : V 12 0 4 = nI n) : CT l y_H_letter { frames := 7, cells := 0, slots := 0, locals := 117 } (pX Z) qN [.ref (al Z 0 0), .int (nI i), .int 3] V Y (.inl (some (.int (V 13 3 i)))) V Y := by
  refine CT.of (cc := b_H_letter) (maxL := 3) (ret := (some .int)) hZ (by decide) w_565 (Nat.le_of_ble_eq_true rfl) ?_
  intro p e s m below meth c C hr hex hlt
  refine gq_aload_n C d_H_letter_0 rfl ?_
  refine gq_iload_n C d_H_letter_1 rfl ?_
  refine gq_callV C (st := []) (fun _ h => h) (c_H_checkLetter l Z hZ _ _ (nI i) (f_i0 hi hn) (f_i4 hi hn h4)) (qm (by decide) (by decide)) rfl rfl w_485 w_487 ws_H_checkLetter w_488 w_1 ⟨by decide, by decide, (by decide +kernel : (parseMethodDescriptor y_H_checkLetter.desc).map (fun d => d.parameters.length) = some 1)⟩ ⟨by decide, by decide⟩ ⟨by decide, by decide⟩ rfl (Nat.le_of_ble_eq_true rfl) d_H_letter_2 ?_
  refine gq_iload_n C d_H_letter_5 rfl ?_
  refine gq_tableIn C (tgt := 66) d_H_letter_6 (by decide) (by decide) rfl rfl ?_
  refine gq_aload_n C d_H_letter_66 rfl ?_
  refine gq_get C (g := 0) (j := 0) (ci := 7) (k := 5) (v := .ref (al Z 12 0)) (qm (by decide) (by decide)) rfl rfl in_H (by decide) w_208 rfl d_H_letter_67 ?_
  refine gq_get C (g := 12) (j := 0) (ci := 3) (k := 3) (v := .ref (al Z 13 3)) (qm (by decide) (by decide)) rfl rfl in_R (by decide) w_165 rfl d_H_letter_70 ?_
  refine gq_iload_n C d_H_letter_73 rfl ?_
  refine gq_iald C (g := 13) (j := 3) (a := i) (t0 := 0) (qm (by decide) (by decide)) rfl rfl rfl (Nat.lt_of_lt_of_le hi hn) (by decide) d_H_letter_74 ?_
  exact gq_iret C hr (by decide) (by decide) d_H_letter_75

set_option maxHeartbeats 4000000 in
set_option maxRecDepth 100000 in
theorem c_H_letter_x2 (l : Launch) (hadm : ∀ e : Env, l.admits e → e.platform.stackTraces = false) (Z : qZ) (hZ : qok (pX Z)) (V : qV) (Y : qY) (i n : Nat) (hi : i < n) (hn : n ≤ 40) (h4 : V 12 0 4 = nI n) (w : Int32) (h : w.toInt < 0 ∨ 3 < w.toInt) : CT l y_H_letter { frames := 7, cells := 1, slots := 6, locals := 117 } (pX Z) qN [.ref (al Z 0 0), .int (nI i), .int w] V Y (.inr "java/lang/IllegalArgumentException") V Y := by
  refine CT.of (cc := b_H_letter) (maxL := 3) (ret := (some .int)) hZ (by decide) w_565 (Nat.le_of_ble_eq_true rfl) ?_
  intro p e s m below meth c C hr hex hlt
  refine gq_aload_n C d_H_letter_0 rfl ?_
  refine gq_iload_n C d_H_letter_1 rfl ?_
  refine gq_callV C (st := []) (fun _ h => h) (c_H_checkLetter l Z hZ _ _ (nI i) (f_i0 hi hn) (f_i4 hi hn h4)) (qm (by decide) (by decide)) rfl rfl w_485 w_487 ws_H_checkLetter w_488 w_1 ⟨by decide, by decide, (by decide +kernel : (parseMethodDescriptor y_H_checkLetter.desc).map (fun d => d.parameters.length) = some 1)⟩ ⟨by decide, by decide⟩ ⟨by decide, by decide⟩ rfl (Nat.le_of_ble_eq_true rfl) d_H_letter_2 ?_
  refine gq_iload_n C d_H_letter_5 rfl ?_
  refine gq_tableOut C (tgt := 76) d_H_letter_6 h rfl ?_
  exact gq_throw C hadm hex hlt tw_IllegalArgumentException w_255 w_256 w_13 (by decide) (by decide) (by decide) (by decide) (by decide) (Nat.le_of_ble_eq_true rfl) d_H_letter_76 d_H_letter_79 d_H_letter_80 d_H_letter_83

set_option maxHeartbeats 4000000 in
set_option maxRecDepth 100000 in
theorem c_H_letters (l : Launch) (Z : qZ) (hZ : qok (pX Z)) (V : qV) (Y : qY)  : CT l y_H_letters { frames := 1, cells := 0, slots := 0, locals := 40 } (pX Z) qN [.ref (al Z 0 0)] V Y (.inl (some (.int (V 12 0 4)))) V Y := by
  refine CT.of (cc := b_H_letters) (maxL := 1) (ret := (some .int)) hZ (by decide) w_239 (Nat.le_of_ble_eq_true rfl) ?_
  intro p e s m below meth c C hr hex hlt
  refine gq_aload_n C d_H_letters_0 rfl ?_
  refine gq_get C (g := 0) (j := 0) (ci := 7) (k := 5) (v := .ref (al Z 12 0)) (qm (by decide) (by decide)) rfl rfl in_H (by decide) w_208 rfl d_H_letters_1 ?_
  refine gq_get C (g := 12) (j := 0) (ci := 3) (k := 4) (v := .int (V 12 0 4)) (qm (by decide) (by decide)) rfl rfl in_R (by decide) w_167 rfl d_H_letters_4 ?_
  exact gq_iret C hr (by decide) (by decide) d_H_letters_7

def f_bring1 (V : qV) (t : Nat) (a : Int32) : qV := f_look (if f_grantB V t a = 0 then f_grant V t a else f_put (f_grant V t a) 2 (nI t) (f_grantB V t a) a)
def f_bring3 (V : qV) (t : Nat) (b : Int32) : qV := f_look (qv V 11 t 0 (if V 11 t 0 < b then b else V 11 t 0))
def f_bring4 (V : qV) (t : Nat) (a : Int32) : qV := f_look (if a = V 11 t 1 then qv V 11 t 4 0 else V)

set_option maxHeartbeats 4000000 in
set_option maxRecDepth 100000 in
theorem c_H_bring1 (l : Launch) (Z : qZ) (hZ : qok (pX Z)) (V : qV) (Y : qY) (t : Nat) (ht : t < 4) (b a : Int32) (hc : ∃ q, q ≤ 40 ∧ V 12 0 4 = nI q) : CT l y_H_bringToDesk { frames := 4, cells := 0, slots := 0, locals := 104 } (pX Z) (qA (pX Z)) [.ref (al Z 0 0), .int 1, .int (nI t), .int b, .int a] V Y (.inl none) (f_bring1 V t a) Y := by
  refine CT.of (cc := b_H_bringToDesk) (maxL := 6) (ret := none) hZ (by decide) w_520 (Nat.le_of_ble_eq_true rfl) ?_
  intro p e s m below meth c C hr hex hlt
  refine gq_iload_n C d_H_bringToDesk_0 rfl ?_
  refine gq_iconst C (v := 1) d_H_bringToDesk_1 (by decide) ?_
  refine gq_icmp_ne C (tgt := 38) d_H_bringToDesk_2 rfl (fun hb => by exact absurd hb (by decide)) (fun hb2 => ?_)
  refine gq_aload_n C d_H_bringToDesk_5 rfl ?_
  refine gq_get C (g := 0) (j := 0) (ci := 7) (k := 4) (v := .ref (al Z 9 0)) (qm (by decide) (by decide)) rfl rfl in_H (by decide) w_207 rfl d_H_bringToDesk_6 ?_
  refine gq_iload_n C d_H_bringToDesk_9 rfl ?_
  refine gq_iload C d_H_bringToDesk_10 rfl ?_
  refine gq_callV C (st := []) (fun _ h => h) (c_D_grant l Z hZ _ _ t ht a) (qm (by decide) (by decide)) rfl rfl w_521 w_522 w_523 w_524 w_5 ⟨by decide, by decide, (by decide +kernel : (parseMethodDescriptor y_D_grant.desc).map (fun d => d.parameters.length) = some 2)⟩ ⟨by decide, by decide⟩ ⟨by decide, by decide⟩ rfl (Nat.le_of_ble_eq_true rfl) d_H_bringToDesk_12 ?_
  refine gq_istore C (lo' := [(5, .int (f_grantB V t a)), (0, .ref (al Z 0 0)), (1, .int 1), (2, .int (nI t)), (3, .int b), (4, .int a)]) d_H_bringToDesk_15 (by decide) rfl ?_
  refine gq_iload C d_H_bringToDesk_17 rfl ?_
  refine gq_if_eq C (tgt := 35) d_H_bringToDesk_19 rfl (fun hb19 => ?_) (fun hb19 => ?_)
  · skip
    refine gq_goto C (tgt := 73) d_H_bringToDesk_35 rfl ?_
    refine gq_aload_n C d_H_bringToDesk_73 rfl ?_
    refine gq_get C (g := 0) (j := 0) (ci := 7) (k := 4) (v := .ref (al Z 9 0)) (qm (by decide) (by decide)) rfl rfl in_H (by decide) w_207 rfl d_H_bringToDesk_74 ?_
    refine gq_callV C (st := []) (fun _ h => h) (c_D_lookAtChange l Z hZ _ _) (qm (by decide) (by decide)) rfl rfl w_381 w_382 w_383 w_384 w_5 ⟨by decide, by decide, (by decide +kernel : (parseMethodDescriptor y_D_lookAtChange.desc).map (fun d => d.parameters.length) = some 0)⟩ ⟨by decide, by decide⟩ ⟨by decide, by decide⟩ rfl (Nat.le_of_ble_eq_true rfl) d_H_bringToDesk_77 ?_
    exact gq_vretE C hr (by unfold f_bring1; simp [*]) rfl (by decide) (by decide) d_H_bringToDesk_80
  · skip
    refine gq_aload_n C d_H_bringToDesk_22 rfl ?_
    refine gq_get C (g := 0) (j := 0) (ci := 7) (k := 5) (v := .ref (al Z 12 0)) (qm (by decide) (by decide)) rfl rfl in_H (by decide) w_208 rfl d_H_bringToDesk_23 ?_
    refine gq_iconst C (v := 2) d_H_bringToDesk_26 (by decide) ?_
    refine gq_iload_n C d_H_bringToDesk_27 rfl ?_
    refine gq_iload C d_H_bringToDesk_28 rfl ?_
    refine gq_iload C d_H_bringToDesk_30 rfl ?_
    refine gq_callV C (st := []) (fun _ h => h) (c_R_put l Z hZ _ _ (f_cnt2 hc (by rw [f_grant_fr _ _ _ _ (by decide)])) 2 (nI t) (f_grantB V t a) a) (qm (by decide) (by decide)) rfl rfl w_362 w_363 w_364 w_365 w_7 ⟨by decide, by decide, (by decide +kernel : (parseMethodDescriptor y_R_post.desc).map (fun d => d.parameters.length) = some 4)⟩ ⟨by decide, by decide⟩ ⟨by decide, by decide⟩ rfl (Nat.le_of_ble_eq_true rfl) d_H_bringToDesk_32 ?_
    refine gq_goto C (tgt := 73) d_H_bringToDesk_35 rfl ?_
    refine gq_aload_n C d_H_bringToDesk_73 rfl ?_
    refine gq_get C (g := 0) (j := 0) (ci := 7) (k := 4) (v := .ref (al Z 9 0)) (qm (by decide) (by decide)) rfl rfl in_H (by decide) w_207 rfl d_H_bringToDesk_74 ?_
    refine gq_callV C (st := []) (fun _ h => h) (c_D_lookAtChange l Z hZ _ _) (qm (by decide) (by decide)) rfl rfl w_381 w_382 w_383 w_384 w_5 ⟨by decide, by decide, (by decide +kernel : (parseMethodDescriptor y_D_lookAtChange.desc).map (fun d => d.parameters.length) = some 0)⟩ ⟨by decide, by decide⟩ ⟨by decide, by decide⟩ rfl (Nat.le_of_ble_eq_true rfl) d_H_bringToDesk_77 ?_
    exact gq_vretE C hr (by unfold f_bring1; simp [*]) rfl (by decide) (by decide) d_H_bringToDesk_80

set_option maxHeartbeats 4000000 in
set_option maxRecDepth 100000 in
theorem c_H_bring3 (l : Launch) (Z : qZ) (hZ : qok (pX Z)) (V : qV) (Y : qY) (t : Nat) (ht : t < 4) (b a : Int32) : CT l y_H_bringToDesk { frames := 4, cells := 0, slots := 0, locals := 104 } (pX Z) (qA (pX Z)) [.ref (al Z 0 0), .int 3, .int (nI t), .int b, .int a] V Y (.inl none) (f_bring3 V t b) Y := by
  refine CT.of (cc := b_H_bringToDesk) (maxL := 6) (ret := none) hZ (by decide) w_520 (Nat.le_of_ble_eq_true rfl) ?_
  intro p e s m below meth c C hr hex hlt
  refine gq_iload_n C d_H_bringToDesk_0 rfl ?_
  refine gq_iconst C (v := 1) d_H_bringToDesk_1 (by decide) ?_
  refine gq_icmp_ne C (tgt := 38) d_H_bringToDesk_2 rfl (fun hb2 => ?_) (fun hb => by exact absurd hb (by decide))
  refine gq_iload_n C d_H_bringToDesk_38 rfl ?_
  refine gq_iconst C (v := 3) d_H_bringToDesk_39 (by decide) ?_
  refine gq_icmp_ne C (tgt := 59) d_H_bringToDesk_40 rfl (fun hb => by exact absurd hb (by decide)) (fun hb40 => ?_)
  refine gq_aload_n C d_H_bringToDesk_43 rfl ?_
  refine gq_get C (g := 0) (j := 0) (ci := 7) (k := 4) (v := .ref (al Z 9 0)) (qm (by decide) (by decide)) rfl rfl in_H (by decide) w_207 rfl d_H_bringToDesk_44 ?_
  refine gq_get C (g := 9) (j := 0) (ci := 2) (k := 1) (v := .ref (al Z 10 0)) (qm (by decide) (by decide)) rfl rfl in_D (by decide) w_135 rfl d_H_bringToDesk_47 ?_
  refine gq_iload_n C d_H_bringToDesk_50 rfl ?_
  refine gq_aald C (g := 10) (j := 0) (a := t) (t0 := 5) (b := al Z 11 t) (qm (by decide) (by decide)) rfl rfl rfl ht (by decide) rfl d_H_bringToDesk_51 ?_
  refine gq_iload_n C d_H_bringToDesk_52 rfl ?_
  refine gq_callV C (st := []) (fun _ h => h) (c_N_noteReady l Z hZ _ _ t ht b) (qm (by decide) ht) rfl rfl w_533 w_534 w_535 w_536 w_6 ⟨by decide, by decide, (by decide +kernel : (parseMethodDescriptor y_N_noteReady.desc).map (fun d => d.parameters.length) = some 1)⟩ ⟨by decide, by decide⟩ ⟨by decide, by decide⟩ rfl (Nat.le_of_ble_eq_true rfl) d_H_bringToDesk_53 ?_
  refine gq_goto C (tgt := 73) d_H_bringToDesk_56 rfl ?_
  refine gq_aload_n C d_H_bringToDesk_73 rfl ?_
  refine gq_get C (g := 0) (j := 0) (ci := 7) (k := 4) (v := .ref (al Z 9 0)) (qm (by decide) (by decide)) rfl rfl in_H (by decide) w_207 rfl d_H_bringToDesk_74 ?_
  refine gq_callV C (st := []) (fun _ h => h) (c_D_lookAtChange l Z hZ _ _) (qm (by decide) (by decide)) rfl rfl w_381 w_382 w_383 w_384 w_5 ⟨by decide, by decide, (by decide +kernel : (parseMethodDescriptor y_D_lookAtChange.desc).map (fun d => d.parameters.length) = some 0)⟩ ⟨by decide, by decide⟩ ⟨by decide, by decide⟩ rfl (Nat.le_of_ble_eq_true rfl) d_H_bringToDesk_77 ?_
  exact gq_vretE C hr (by rfl) rfl (by decide) (by decide) d_H_bringToDesk_80

set_option maxHeartbeats 4000000 in
set_option maxRecDepth 100000 in
theorem c_H_bring4 (l : Launch) (Z : qZ) (hZ : qok (pX Z)) (V : qV) (Y : qY) (t : Nat) (ht : t < 4) (b a : Int32) : CT l y_H_bringToDesk { frames := 4, cells := 0, slots := 0, locals := 104 } (pX Z) (qA (pX Z)) [.ref (al Z 0 0), .int 4, .int (nI t), .int b, .int a] V Y (.inl none) (f_bring4 V t a) Y := by
  refine CT.of (cc := b_H_bringToDesk) (maxL := 6) (ret := none) hZ (by decide) w_520 (Nat.le_of_ble_eq_true rfl) ?_
  intro p e s m below meth c C hr hex hlt
  refine gq_iload_n C d_H_bringToDesk_0 rfl ?_
  refine gq_iconst C (v := 1) d_H_bringToDesk_1 (by decide) ?_
  refine gq_icmp_ne C (tgt := 38) d_H_bringToDesk_2 rfl (fun hb2 => ?_) (fun hb => by exact absurd hb (by decide))
  refine gq_iload_n C d_H_bringToDesk_38 rfl ?_
  refine gq_iconst C (v := 3) d_H_bringToDesk_39 (by decide) ?_
  refine gq_icmp_ne C (tgt := 59) d_H_bringToDesk_40 rfl (fun hb40 => ?_) (fun hb => by exact absurd hb (by decide))
  refine gq_aload_n C d_H_bringToDesk_59 rfl ?_
  refine gq_get C (g := 0) (j := 0) (ci := 7) (k := 4) (v := .ref (al Z 9 0)) (qm (by decide) (by decide)) rfl rfl in_H (by decide) w_207 rfl d_H_bringToDesk_60 ?_
  refine gq_get C (g := 9) (j := 0) (ci := 2) (k := 1) (v := .ref (al Z 10 0)) (qm (by decide) (by decide)) rfl rfl in_D (by decide) w_135 rfl d_H_bringToDesk_63 ?_
  refine gq_iload_n C d_H_bringToDesk_66 rfl ?_
  refine gq_aald C (g := 10) (j := 0) (a := t) (t0 := 5) (b := al Z 11 t) (qm (by decide) (by decide)) rfl rfl rfl ht (by decide) rfl d_H_bringToDesk_67 ?_
  refine gq_iload C d_H_bringToDesk_68 rfl ?_
  refine gq_callV C (st := []) (fun _ h => h) (c_N_noteGiven l Z hZ _ _ t ht a) (qm (by decide) ht) rfl rfl w_540 w_541 w_542 w_543 w_6 ⟨by decide, by decide, (by decide +kernel : (parseMethodDescriptor y_N_noteGiven.desc).map (fun d => d.parameters.length) = some 1)⟩ ⟨by decide, by decide⟩ ⟨by decide, by decide⟩ rfl (Nat.le_of_ble_eq_true rfl) d_H_bringToDesk_70 ?_
  refine gq_aload_n C d_H_bringToDesk_73 rfl ?_
  refine gq_get C (g := 0) (j := 0) (ci := 7) (k := 4) (v := .ref (al Z 9 0)) (qm (by decide) (by decide)) rfl rfl in_H (by decide) w_207 rfl d_H_bringToDesk_74 ?_
  refine gq_callV C (st := []) (fun _ h => h) (c_D_lookAtChange l Z hZ _ _) (qm (by decide) (by decide)) rfl rfl w_381 w_382 w_383 w_384 w_5 ⟨by decide, by decide, (by decide +kernel : (parseMethodDescriptor y_D_lookAtChange.desc).map (fun d => d.parameters.length) = some 0)⟩ ⟨by decide, by decide⟩ ⟨by decide, by decide⟩ rfl (Nat.le_of_ble_eq_true rfl) d_H_bringToDesk_77 ?_
  exact gq_vretE C hr (by rfl) rfl (by decide) (by decide) d_H_bringToDesk_80

theorem c_H_bring1e (l : Launch) (Z : qZ) (hZ : qok (pX Z)) (V : qV) (Y : qY) (t : Nat) (ht : t < 4) (b a : Int32) (hc : ∃ q, q ≤ 40 ∧ V 12 0 4 = nI q) (k u : Int32) (hk : k = 1) (hu : u = nI t) : CT l y_H_bringToDesk { frames := 4, cells := 0, slots := 0, locals := 104 } (pX Z) (qA (pX Z)) [.ref (al Z 0 0), .int k, .int u, .int b, .int a] V Y (.inl none) (f_bring1 V t a) Y := by
  subst hk; subst hu
  exact c_H_bring1 l Z hZ V Y t ht b a hc

theorem c_H_bring3e (l : Launch) (Z : qZ) (hZ : qok (pX Z)) (V : qV) (Y : qY) (t : Nat) (ht : t < 4) (b a : Int32) (k u : Int32) (hk : k = 3) (hu : u = nI t) : CT l y_H_bringToDesk { frames := 4, cells := 0, slots := 0, locals := 104 } (pX Z) (qA (pX Z)) [.ref (al Z 0 0), .int k, .int u, .int b, .int a] V Y (.inl none) (f_bring3 V t b) Y := by
  subst hk; subst hu
  exact c_H_bring3 l Z hZ V Y t ht b a

theorem c_H_bring4e (l : Launch) (Z : qZ) (hZ : qok (pX Z)) (V : qV) (Y : qY) (t : Nat) (ht : t < 4) (b a : Int32) (k u : Int32) (hk : k = 4) (hu : u = nI t) : CT l y_H_bringToDesk { frames := 4, cells := 0, slots := 0, locals := 104 } (pX Z) (qA (pX Z)) [.ref (al Z 0 0), .int k, .int u, .int b, .int a] V Y (.inl none) (f_bring4 V t a) Y := by
  subst hk; subst hu
  exact c_H_bring4 l Z hZ V Y t ht b a

set_option maxHeartbeats 4000000 in
set_option maxRecDepth 100000 in
theorem c_H_deliver0 (l : Launch) (Z : qZ) (hZ : qok (pX Z)) (V : qV) (Y : qY) (i n : Nat) (hi : i < n) (hn : n ≤ 40) (h4 : V 12 0 4 = nI n) (t : Nat) (ht : t < 4) (h1 : V 13 1 i = nI t) (hk : V 13 0 i = 0) : CT l y_H_deliver { frames := 7, cells := 0, slots := 0, locals := 129 } (pX Z) (qA (pX Z)) [.ref (al Z 0 0), .int (nI i)] V Y (.inl none) (f_takeBook (f_takeOut V i n) t (V 13 2 i)) Y := by
  refine CT.of (cc := b_H_deliver) (maxL := 6) (ret := none) hZ (by decide) w_484 (Nat.le_of_ble_eq_true rfl) ?_
  intro p e s m below meth c C hr hex hlt
  refine gq_aload_n C d_H_deliver_0 rfl ?_
  refine gq_iload_n C d_H_deliver_1 rfl ?_
  refine gq_callV C (st := []) (fun _ h => h.elim) (c_H_checkLetter l Z hZ _ _ (nI i) (f_i0 hi hn) (f_i4 hi hn h4)) (qm (by decide) (by decide)) rfl rfl w_485 w_487 ws_H_checkLetter w_488 w_1 ⟨by decide, by decide, (by decide +kernel : (parseMethodDescriptor y_H_checkLetter.desc).map (fun d => d.parameters.length) = some 1)⟩ ⟨by decide, by decide⟩ ⟨by decide, by decide⟩ rfl (Nat.le_of_ble_eq_true rfl) d_H_deliver_2 ?_
  refine gq_aload_n C d_H_deliver_5 rfl ?_
  refine gq_get C (g := 0) (j := 0) (ci := 7) (k := 5) (v := .ref (al Z 12 0)) (qm (by decide) (by decide)) rfl rfl in_H (by decide) w_208 rfl d_H_deliver_6 ?_
  refine gq_get C (g := 12) (j := 0) (ci := 3) (k := 0) (v := .ref (al Z 13 0)) (qm (by decide) (by decide)) rfl rfl in_R (by decide) w_159 rfl d_H_deliver_9 ?_
  refine gq_iload_n C d_H_deliver_12 rfl ?_
  refine gq_iald C (g := 13) (j := 0) (a := i) (t0 := 0) (qm (by decide) (by decide)) rfl rfl rfl (Nat.lt_of_lt_of_le hi hn) (by decide) d_H_deliver_13 ?_
  refine gq_istore_n C (lo' := [(2, .int (V 13 0 i)), (0, .ref (al Z 0 0)), (1, .int (nI i))]) d_H_deliver_14 rfl (by decide) rfl ?_
  refine gq_aload_n C d_H_deliver_15 rfl ?_
  refine gq_get C (g := 0) (j := 0) (ci := 7) (k := 5) (v := .ref (al Z 12 0)) (qm (by decide) (by decide)) rfl rfl in_H (by decide) w_208 rfl d_H_deliver_16 ?_
  refine gq_get C (g := 12) (j := 0) (ci := 3) (k := 1) (v := .ref (al Z 13 1)) (qm (by decide) (by decide)) rfl rfl in_R (by decide) w_161 rfl d_H_deliver_19 ?_
  refine gq_iload_n C d_H_deliver_22 rfl ?_
  refine gq_iald C (g := 13) (j := 1) (a := i) (t0 := 0) (qm (by decide) (by decide)) rfl rfl rfl (Nat.lt_of_lt_of_le hi hn) (by decide) d_H_deliver_23 ?_
  refine gq_istore_n C (lo' := [(3, .int (V 13 1 i)), (2, .int (V 13 0 i)), (0, .ref (al Z 0 0)), (1, .int (nI i))]) d_H_deliver_24 rfl (by decide) rfl ?_
  refine gq_aload_n C d_H_deliver_25 rfl ?_
  refine gq_get C (g := 0) (j := 0) (ci := 7) (k := 5) (v := .ref (al Z 12 0)) (qm (by decide) (by decide)) rfl rfl in_H (by decide) w_208 rfl d_H_deliver_26 ?_
  refine gq_get C (g := 12) (j := 0) (ci := 3) (k := 2) (v := .ref (al Z 13 2)) (qm (by decide) (by decide)) rfl rfl in_R (by decide) w_163 rfl d_H_deliver_29 ?_
  refine gq_iload_n C d_H_deliver_32 rfl ?_
  refine gq_iald C (g := 13) (j := 2) (a := i) (t0 := 0) (qm (by decide) (by decide)) rfl rfl rfl (Nat.lt_of_lt_of_le hi hn) (by decide) d_H_deliver_33 ?_
  refine gq_istore C (lo' := [(4, .int (V 13 2 i)), (3, .int (V 13 1 i)), (2, .int (V 13 0 i)), (0, .ref (al Z 0 0)), (1, .int (nI i))]) d_H_deliver_34 (by decide) rfl ?_
  refine gq_aload_n C d_H_deliver_36 rfl ?_
  refine gq_get C (g := 0) (j := 0) (ci := 7) (k := 5) (v := .ref (al Z 12 0)) (qm (by decide) (by decide)) rfl rfl in_H (by decide) w_208 rfl d_H_deliver_37 ?_
  refine gq_get C (g := 12) (j := 0) (ci := 3) (k := 3) (v := .ref (al Z 13 3)) (qm (by decide) (by decide)) rfl rfl in_R (by decide) w_165 rfl d_H_deliver_40 ?_
  refine gq_iload_n C d_H_deliver_43 rfl ?_
  refine gq_iald C (g := 13) (j := 3) (a := i) (t0 := 0) (qm (by decide) (by decide)) rfl rfl rfl (Nat.lt_of_lt_of_le hi hn) (by decide) d_H_deliver_44 ?_
  refine gq_istore C (lo' := [(5, .int (V 13 3 i)), (4, .int (V 13 2 i)), (3, .int (V 13 1 i)), (2, .int (V 13 0 i)), (0, .ref (al Z 0 0)), (1, .int (nI i))]) d_H_deliver_45 (by decide) rfl ?_
  refine gq_aload_n C d_H_deliver_47 rfl ?_
  refine gq_get C (g := 0) (j := 0) (ci := 7) (k := 5) (v := .ref (al Z 12 0)) (qm (by decide) (by decide)) rfl rfl in_H (by decide) w_208 rfl d_H_deliver_48 ?_
  refine gq_iload_n C d_H_deliver_51 rfl ?_
  refine gq_callV C (st := []) (fun _ h => h) (c_R_takeOut l Z hZ _ _ i n hi hn h4 (f_beh hi hn h4)) (qm (by decide) (by decide)) rfl rfl w_504 w_505 w_506 w_507 w_7 ⟨by decide, by decide, (by decide +kernel : (parseMethodDescriptor y_R_takeOut.desc).map (fun d => d.parameters.length) = some 1)⟩ ⟨by decide, by decide⟩ ⟨by decide, by decide⟩ rfl (Nat.le_of_ble_eq_true rfl) d_H_deliver_52 ?_
  refine gq_iload_n C d_H_deliver_55 rfl ?_
  refine gq_if_ne C (tgt := 73) d_H_deliver_56 rfl (fun hb => by first | contradiction | contradiction) (fun hb56 => ?_)
  refine gq_aload_n C d_H_deliver_59 rfl ?_
  refine gq_get C (g := 0) (j := 0) (ci := 7) (k := 3) (v := .ref (al Z 6 0)) (qm (by decide) (by decide)) rfl rfl in_H (by decide) w_206 rfl d_H_deliver_60 ?_
  refine gq_iload_n C d_H_deliver_63 rfl ?_
  refine gq_aald C (g := 6) (j := 0) (a := t) (t0 := 4) (b := al Z 7 t) (qm (by decide) (by decide)) rfl rfl h1 ht (by decide) rfl d_H_deliver_64 ?_
  refine gq_iload C d_H_deliver_65 rfl ?_
  refine gq_callV C (st := []) (fun _ h => h) (c_T_takeBook l Z hZ _ _ t ht (V 13 2 i)) (qm (by decide) ht) rfl rfl w_509 w_510 w_511 w_512 w_3 ⟨by decide, by decide, (by decide +kernel : (parseMethodDescriptor y_T_takeBook.desc).map (fun d => d.parameters.length) = some 1)⟩ ⟨by decide, by decide⟩ ⟨by decide, by decide⟩ rfl (Nat.le_of_ble_eq_true rfl) d_H_deliver_67 ?_
  refine gq_goto C (tgt := 104) d_H_deliver_70 rfl ?_
  exact gq_vret C hr (by decide) (by decide) d_H_deliver_104

set_option maxHeartbeats 4000000 in
set_option maxRecDepth 100000 in
theorem c_H_deliver2 (l : Launch) (Z : qZ) (hZ : qok (pX Z)) (V : qV) (Y : qY) (i n : Nat) (hi : i < n) (hn : n ≤ 40) (h4 : V 12 0 4 = nI n) (t : Nat) (ht : t < 4) (h1 : V 13 1 i = nI t) (hk : V 13 0 i = 2) : CT l y_H_deliver { frames := 7, cells := 0, slots := 0, locals := 129 } (pX Z) (qA (pX Z)) [.ref (al Z 0 0), .int (nI i)] V Y (.inl none) (f_takeGrant (f_takeOut V i n) t (V 13 3 i) (V 13 2 i)) Y := by
  refine CT.of (cc := b_H_deliver) (maxL := 6) (ret := none) hZ (by decide) w_484 (Nat.le_of_ble_eq_true rfl) ?_
  intro p e s m below meth c C hr hex hlt
  refine gq_aload_n C d_H_deliver_0 rfl ?_
  refine gq_iload_n C d_H_deliver_1 rfl ?_
  refine gq_callV C (st := []) (fun _ h => h.elim) (c_H_checkLetter l Z hZ _ _ (nI i) (f_i0 hi hn) (f_i4 hi hn h4)) (qm (by decide) (by decide)) rfl rfl w_485 w_487 ws_H_checkLetter w_488 w_1 ⟨by decide, by decide, (by decide +kernel : (parseMethodDescriptor y_H_checkLetter.desc).map (fun d => d.parameters.length) = some 1)⟩ ⟨by decide, by decide⟩ ⟨by decide, by decide⟩ rfl (Nat.le_of_ble_eq_true rfl) d_H_deliver_2 ?_
  refine gq_aload_n C d_H_deliver_5 rfl ?_
  refine gq_get C (g := 0) (j := 0) (ci := 7) (k := 5) (v := .ref (al Z 12 0)) (qm (by decide) (by decide)) rfl rfl in_H (by decide) w_208 rfl d_H_deliver_6 ?_
  refine gq_get C (g := 12) (j := 0) (ci := 3) (k := 0) (v := .ref (al Z 13 0)) (qm (by decide) (by decide)) rfl rfl in_R (by decide) w_159 rfl d_H_deliver_9 ?_
  refine gq_iload_n C d_H_deliver_12 rfl ?_
  refine gq_iald C (g := 13) (j := 0) (a := i) (t0 := 0) (qm (by decide) (by decide)) rfl rfl rfl (Nat.lt_of_lt_of_le hi hn) (by decide) d_H_deliver_13 ?_
  refine gq_istore_n C (lo' := [(2, .int (V 13 0 i)), (0, .ref (al Z 0 0)), (1, .int (nI i))]) d_H_deliver_14 rfl (by decide) rfl ?_
  refine gq_aload_n C d_H_deliver_15 rfl ?_
  refine gq_get C (g := 0) (j := 0) (ci := 7) (k := 5) (v := .ref (al Z 12 0)) (qm (by decide) (by decide)) rfl rfl in_H (by decide) w_208 rfl d_H_deliver_16 ?_
  refine gq_get C (g := 12) (j := 0) (ci := 3) (k := 1) (v := .ref (al Z 13 1)) (qm (by decide) (by decide)) rfl rfl in_R (by decide) w_161 rfl d_H_deliver_19 ?_
  refine gq_iload_n C d_H_deliver_22 rfl ?_
  refine gq_iald C (g := 13) (j := 1) (a := i) (t0 := 0) (qm (by decide) (by decide)) rfl rfl rfl (Nat.lt_of_lt_of_le hi hn) (by decide) d_H_deliver_23 ?_
  refine gq_istore_n C (lo' := [(3, .int (V 13 1 i)), (2, .int (V 13 0 i)), (0, .ref (al Z 0 0)), (1, .int (nI i))]) d_H_deliver_24 rfl (by decide) rfl ?_
  refine gq_aload_n C d_H_deliver_25 rfl ?_
  refine gq_get C (g := 0) (j := 0) (ci := 7) (k := 5) (v := .ref (al Z 12 0)) (qm (by decide) (by decide)) rfl rfl in_H (by decide) w_208 rfl d_H_deliver_26 ?_
  refine gq_get C (g := 12) (j := 0) (ci := 3) (k := 2) (v := .ref (al Z 13 2)) (qm (by decide) (by decide)) rfl rfl in_R (by decide) w_163 rfl d_H_deliver_29 ?_
  refine gq_iload_n C d_H_deliver_32 rfl ?_
  refine gq_iald C (g := 13) (j := 2) (a := i) (t0 := 0) (qm (by decide) (by decide)) rfl rfl rfl (Nat.lt_of_lt_of_le hi hn) (by decide) d_H_deliver_33 ?_
  refine gq_istore C (lo' := [(4, .int (V 13 2 i)), (3, .int (V 13 1 i)), (2, .int (V 13 0 i)), (0, .ref (al Z 0 0)), (1, .int (nI i))]) d_H_deliver_34 (by decide) rfl ?_
  refine gq_aload_n C d_H_deliver_36 rfl ?_
  refine gq_get C (g := 0) (j := 0) (ci := 7) (k := 5) (v := .ref (al Z 12 0)) (qm (by decide) (by decide)) rfl rfl in_H (by decide) w_208 rfl d_H_deliver_37 ?_
  refine gq_get C (g := 12) (j := 0) (ci := 3) (k := 3) (v := .ref (al Z 13 3)) (qm (by decide) (by decide)) rfl rfl in_R (by decide) w_165 rfl d_H_deliver_40 ?_
  refine gq_iload_n C d_H_deliver_43 rfl ?_
  refine gq_iald C (g := 13) (j := 3) (a := i) (t0 := 0) (qm (by decide) (by decide)) rfl rfl rfl (Nat.lt_of_lt_of_le hi hn) (by decide) d_H_deliver_44 ?_
  refine gq_istore C (lo' := [(5, .int (V 13 3 i)), (4, .int (V 13 2 i)), (3, .int (V 13 1 i)), (2, .int (V 13 0 i)), (0, .ref (al Z 0 0)), (1, .int (nI i))]) d_H_deliver_45 (by decide) rfl ?_
  refine gq_aload_n C d_H_deliver_47 rfl ?_
  refine gq_get C (g := 0) (j := 0) (ci := 7) (k := 5) (v := .ref (al Z 12 0)) (qm (by decide) (by decide)) rfl rfl in_H (by decide) w_208 rfl d_H_deliver_48 ?_
  refine gq_iload_n C d_H_deliver_51 rfl ?_
  refine gq_callV C (st := []) (fun _ h => h) (c_R_takeOut l Z hZ _ _ i n hi hn h4 (f_beh hi hn h4)) (qm (by decide) (by decide)) rfl rfl w_504 w_505 w_506 w_507 w_7 ⟨by decide, by decide, (by decide +kernel : (parseMethodDescriptor y_R_takeOut.desc).map (fun d => d.parameters.length) = some 1)⟩ ⟨by decide, by decide⟩ ⟨by decide, by decide⟩ rfl (Nat.le_of_ble_eq_true rfl) d_H_deliver_52 ?_
  refine gq_iload_n C d_H_deliver_55 rfl ?_
  refine gq_if_ne C (tgt := 73) d_H_deliver_56 rfl (fun hb56 => ?_) (fun hb => by exact absurd hb (by rw [hk]; decide))
  refine gq_iload_n C d_H_deliver_73 rfl ?_
  refine gq_iconst C (v := 2) d_H_deliver_74 (by decide) ?_
  refine gq_icmp_ne C (tgt := 94) d_H_deliver_75 rfl (fun hb => by first | contradiction | contradiction) (fun hb75 => ?_)
  refine gq_aload_n C d_H_deliver_78 rfl ?_
  refine gq_get C (g := 0) (j := 0) (ci := 7) (k := 3) (v := .ref (al Z 6 0)) (qm (by decide) (by decide)) rfl rfl in_H (by decide) w_206 rfl d_H_deliver_79 ?_
  refine gq_iload_n C d_H_deliver_82 rfl ?_
  refine gq_aald C (g := 6) (j := 0) (a := t) (t0 := 4) (b := al Z 7 t) (qm (by decide) (by decide)) rfl rfl h1 ht (by decide) rfl d_H_deliver_83 ?_
  refine gq_iload C d_H_deliver_84 rfl ?_
  refine gq_iload C d_H_deliver_86 rfl ?_
  refine gq_callV C (st := []) (fun _ h => h) (c_T_takeGrant l Z hZ _ _ t ht (V 13 3 i) (V 13 2 i)) (qm (by decide) ht) rfl rfl w_513 w_514 w_515 w_516 w_3 ⟨by decide, by decide, (by decide +kernel : (parseMethodDescriptor y_T_takeGrant.desc).map (fun d => d.parameters.length) = some 2)⟩ ⟨by decide, by decide⟩ ⟨by decide, by decide⟩ rfl (Nat.le_of_ble_eq_true rfl) d_H_deliver_88 ?_
  refine gq_goto C (tgt := 104) d_H_deliver_91 rfl ?_
  exact gq_vret C hr (by decide) (by decide) d_H_deliver_104

theorem f_cnt3 {V : qV} {i n : Nat} (hi : i < n) (hn : n ≤ 40) (h4 : V 12 0 4 = nI n) : ∃ q, q ≤ 40 ∧ f_takeOut V i n 12 0 4 = nI q := by
  refine ⟨n - 1, by omega, ?_⟩
  unfold f_takeOut
  rw [qv_at, if_pos ⟨rfl, rfl, rfl⟩, show (1 : Int32) = nI 1 from rfl, pk_sub (by omega)]

set_option maxHeartbeats 4000000 in
set_option maxRecDepth 100000 in
theorem c_H_deliver1 (l : Launch) (Z : qZ) (hZ : qok (pX Z)) (V : qV) (Y : qY) (i n : Nat) (hi : i < n) (hn : n ≤ 40) (h4 : V 12 0 4 = nI n) (t : Nat) (ht : t < 4) (h1 : V 13 1 i = nI t) (hk : V 13 0 i = 1) : CT l y_H_deliver { frames := 7, cells := 0, slots := 0, locals := 129 } (pX Z) (qA (pX Z)) [.ref (al Z 0 0), .int (nI i)] V Y (.inl none) (f_bring1 (f_takeOut V i n) t (V 13 3 i)) Y := by
  refine CT.of (cc := b_H_deliver) (maxL := 6) (ret := none) hZ (by decide) w_484 (Nat.le_of_ble_eq_true rfl) ?_
  intro p e s m below meth c C hr hex hlt
  refine gq_aload_n C d_H_deliver_0 rfl ?_
  refine gq_iload_n C d_H_deliver_1 rfl ?_
  refine gq_callV C (st := []) (fun _ h => h.elim) (c_H_checkLetter l Z hZ _ _ (nI i) (f_i0 hi hn) (f_i4 hi hn h4)) (qm (by decide) (by decide)) rfl rfl w_485 w_487 ws_H_checkLetter w_488 w_1 ⟨by decide, by decide, (by decide +kernel : (parseMethodDescriptor y_H_checkLetter.desc).map (fun d => d.parameters.length) = some 1)⟩ ⟨by decide, by decide⟩ ⟨by decide, by decide⟩ rfl (Nat.le_of_ble_eq_true rfl) d_H_deliver_2 ?_
  refine gq_aload_n C d_H_deliver_5 rfl ?_
  refine gq_get C (g := 0) (j := 0) (ci := 7) (k := 5) (v := .ref (al Z 12 0)) (qm (by decide) (by decide)) rfl rfl in_H (by decide) w_208 rfl d_H_deliver_6 ?_
  refine gq_get C (g := 12) (j := 0) (ci := 3) (k := 0) (v := .ref (al Z 13 0)) (qm (by decide) (by decide)) rfl rfl in_R (by decide) w_159 rfl d_H_deliver_9 ?_
  refine gq_iload_n C d_H_deliver_12 rfl ?_
  refine gq_iald C (g := 13) (j := 0) (a := i) (t0 := 0) (qm (by decide) (by decide)) rfl rfl rfl (Nat.lt_of_lt_of_le hi hn) (by decide) d_H_deliver_13 ?_
  refine gq_istore_n C (lo' := [(2, .int (V 13 0 i)), (0, .ref (al Z 0 0)), (1, .int (nI i))]) d_H_deliver_14 rfl (by decide) rfl ?_
  refine gq_aload_n C d_H_deliver_15 rfl ?_
  refine gq_get C (g := 0) (j := 0) (ci := 7) (k := 5) (v := .ref (al Z 12 0)) (qm (by decide) (by decide)) rfl rfl in_H (by decide) w_208 rfl d_H_deliver_16 ?_
  refine gq_get C (g := 12) (j := 0) (ci := 3) (k := 1) (v := .ref (al Z 13 1)) (qm (by decide) (by decide)) rfl rfl in_R (by decide) w_161 rfl d_H_deliver_19 ?_
  refine gq_iload_n C d_H_deliver_22 rfl ?_
  refine gq_iald C (g := 13) (j := 1) (a := i) (t0 := 0) (qm (by decide) (by decide)) rfl rfl rfl (Nat.lt_of_lt_of_le hi hn) (by decide) d_H_deliver_23 ?_
  refine gq_istore_n C (lo' := [(3, .int (V 13 1 i)), (2, .int (V 13 0 i)), (0, .ref (al Z 0 0)), (1, .int (nI i))]) d_H_deliver_24 rfl (by decide) rfl ?_
  refine gq_aload_n C d_H_deliver_25 rfl ?_
  refine gq_get C (g := 0) (j := 0) (ci := 7) (k := 5) (v := .ref (al Z 12 0)) (qm (by decide) (by decide)) rfl rfl in_H (by decide) w_208 rfl d_H_deliver_26 ?_
  refine gq_get C (g := 12) (j := 0) (ci := 3) (k := 2) (v := .ref (al Z 13 2)) (qm (by decide) (by decide)) rfl rfl in_R (by decide) w_163 rfl d_H_deliver_29 ?_
  refine gq_iload_n C d_H_deliver_32 rfl ?_
  refine gq_iald C (g := 13) (j := 2) (a := i) (t0 := 0) (qm (by decide) (by decide)) rfl rfl rfl (Nat.lt_of_lt_of_le hi hn) (by decide) d_H_deliver_33 ?_
  refine gq_istore C (lo' := [(4, .int (V 13 2 i)), (3, .int (V 13 1 i)), (2, .int (V 13 0 i)), (0, .ref (al Z 0 0)), (1, .int (nI i))]) d_H_deliver_34 (by decide) rfl ?_
  refine gq_aload_n C d_H_deliver_36 rfl ?_
  refine gq_get C (g := 0) (j := 0) (ci := 7) (k := 5) (v := .ref (al Z 12 0)) (qm (by decide) (by decide)) rfl rfl in_H (by decide) w_208 rfl d_H_deliver_37 ?_
  refine gq_get C (g := 12) (j := 0) (ci := 3) (k := 3) (v := .ref (al Z 13 3)) (qm (by decide) (by decide)) rfl rfl in_R (by decide) w_165 rfl d_H_deliver_40 ?_
  refine gq_iload_n C d_H_deliver_43 rfl ?_
  refine gq_iald C (g := 13) (j := 3) (a := i) (t0 := 0) (qm (by decide) (by decide)) rfl rfl rfl (Nat.lt_of_lt_of_le hi hn) (by decide) d_H_deliver_44 ?_
  refine gq_istore C (lo' := [(5, .int (V 13 3 i)), (4, .int (V 13 2 i)), (3, .int (V 13 1 i)), (2, .int (V 13 0 i)), (0, .ref (al Z 0 0)), (1, .int (nI i))]) d_H_deliver_45 (by decide) rfl ?_
  refine gq_aload_n C d_H_deliver_47 rfl ?_
  refine gq_get C (g := 0) (j := 0) (ci := 7) (k := 5) (v := .ref (al Z 12 0)) (qm (by decide) (by decide)) rfl rfl in_H (by decide) w_208 rfl d_H_deliver_48 ?_
  refine gq_iload_n C d_H_deliver_51 rfl ?_
  refine gq_callV C (st := []) (fun _ h => h) (c_R_takeOut l Z hZ _ _ i n hi hn h4 (f_beh hi hn h4)) (qm (by decide) (by decide)) rfl rfl w_504 w_505 w_506 w_507 w_7 ⟨by decide, by decide, (by decide +kernel : (parseMethodDescriptor y_R_takeOut.desc).map (fun d => d.parameters.length) = some 1)⟩ ⟨by decide, by decide⟩ ⟨by decide, by decide⟩ rfl (Nat.le_of_ble_eq_true rfl) d_H_deliver_52 ?_
  refine gq_iload_n C d_H_deliver_55 rfl ?_
  refine gq_if_ne C (tgt := 73) d_H_deliver_56 rfl (fun hb56 => ?_) (fun hb => by exact absurd hb (by rw [hk]; decide))
  refine gq_iload_n C d_H_deliver_73 rfl ?_
  refine gq_iconst C (v := 2) d_H_deliver_74 (by decide) ?_
  refine gq_icmp_ne C (tgt := 94) d_H_deliver_75 rfl (fun hb75 => ?_) (fun hb => by exact absurd hb (by rw [hk]; decide))
  refine gq_aload_n C d_H_deliver_94 rfl ?_
  refine gq_iload_n C d_H_deliver_95 rfl ?_
  refine gq_iload_n C d_H_deliver_96 rfl ?_
  refine gq_iload C d_H_deliver_97 rfl ?_
  refine gq_iload C d_H_deliver_99 rfl ?_
  refine gq_callV C (st := []) (fun _ h => h) (c_H_bring1e l Z hZ _ _ t ht _ _ (f_cnt3 hi hn h4) _ _ hk h1) (qm (by decide) (by decide)) rfl rfl w_517 w_519 ws_H_bringToDesk w_520 w_1 ⟨by decide, by decide, (by decide +kernel : (parseMethodDescriptor y_H_bringToDesk.desc).map (fun d => d.parameters.length) = some 4)⟩ ⟨by decide, by decide⟩ ⟨by decide, by decide⟩ rfl (Nat.le_of_ble_eq_true rfl) d_H_deliver_101 ?_
  exact gq_vret C hr (by decide) (by decide) d_H_deliver_104

set_option maxHeartbeats 4000000 in
set_option maxRecDepth 100000 in
theorem c_H_deliver3 (l : Launch) (Z : qZ) (hZ : qok (pX Z)) (V : qV) (Y : qY) (i n : Nat) (hi : i < n) (hn : n ≤ 40) (h4 : V 12 0 4 = nI n) (t : Nat) (ht : t < 4) (h1 : V 13 1 i = nI t) (hk : V 13 0 i = 3) : CT l y_H_deliver { frames := 7, cells := 0, slots := 0, locals := 129 } (pX Z) (qA (pX Z)) [.ref (al Z 0 0), .int (nI i)] V Y (.inl none) (f_bring3 (f_takeOut V i n) t (V 13 2 i)) Y := by
  refine CT.of (cc := b_H_deliver) (maxL := 6) (ret := none) hZ (by decide) w_484 (Nat.le_of_ble_eq_true rfl) ?_
  intro p e s m below meth c C hr hex hlt
  refine gq_aload_n C d_H_deliver_0 rfl ?_
  refine gq_iload_n C d_H_deliver_1 rfl ?_
  refine gq_callV C (st := []) (fun _ h => h.elim) (c_H_checkLetter l Z hZ _ _ (nI i) (f_i0 hi hn) (f_i4 hi hn h4)) (qm (by decide) (by decide)) rfl rfl w_485 w_487 ws_H_checkLetter w_488 w_1 ⟨by decide, by decide, (by decide +kernel : (parseMethodDescriptor y_H_checkLetter.desc).map (fun d => d.parameters.length) = some 1)⟩ ⟨by decide, by decide⟩ ⟨by decide, by decide⟩ rfl (Nat.le_of_ble_eq_true rfl) d_H_deliver_2 ?_
  refine gq_aload_n C d_H_deliver_5 rfl ?_
  refine gq_get C (g := 0) (j := 0) (ci := 7) (k := 5) (v := .ref (al Z 12 0)) (qm (by decide) (by decide)) rfl rfl in_H (by decide) w_208 rfl d_H_deliver_6 ?_
  refine gq_get C (g := 12) (j := 0) (ci := 3) (k := 0) (v := .ref (al Z 13 0)) (qm (by decide) (by decide)) rfl rfl in_R (by decide) w_159 rfl d_H_deliver_9 ?_
  refine gq_iload_n C d_H_deliver_12 rfl ?_
  refine gq_iald C (g := 13) (j := 0) (a := i) (t0 := 0) (qm (by decide) (by decide)) rfl rfl rfl (Nat.lt_of_lt_of_le hi hn) (by decide) d_H_deliver_13 ?_
  refine gq_istore_n C (lo' := [(2, .int (V 13 0 i)), (0, .ref (al Z 0 0)), (1, .int (nI i))]) d_H_deliver_14 rfl (by decide) rfl ?_
  refine gq_aload_n C d_H_deliver_15 rfl ?_
  refine gq_get C (g := 0) (j := 0) (ci := 7) (k := 5) (v := .ref (al Z 12 0)) (qm (by decide) (by decide)) rfl rfl in_H (by decide) w_208 rfl d_H_deliver_16 ?_
  refine gq_get C (g := 12) (j := 0) (ci := 3) (k := 1) (v := .ref (al Z 13 1)) (qm (by decide) (by decide)) rfl rfl in_R (by decide) w_161 rfl d_H_deliver_19 ?_
  refine gq_iload_n C d_H_deliver_22 rfl ?_
  refine gq_iald C (g := 13) (j := 1) (a := i) (t0 := 0) (qm (by decide) (by decide)) rfl rfl rfl (Nat.lt_of_lt_of_le hi hn) (by decide) d_H_deliver_23 ?_
  refine gq_istore_n C (lo' := [(3, .int (V 13 1 i)), (2, .int (V 13 0 i)), (0, .ref (al Z 0 0)), (1, .int (nI i))]) d_H_deliver_24 rfl (by decide) rfl ?_
  refine gq_aload_n C d_H_deliver_25 rfl ?_
  refine gq_get C (g := 0) (j := 0) (ci := 7) (k := 5) (v := .ref (al Z 12 0)) (qm (by decide) (by decide)) rfl rfl in_H (by decide) w_208 rfl d_H_deliver_26 ?_
  refine gq_get C (g := 12) (j := 0) (ci := 3) (k := 2) (v := .ref (al Z 13 2)) (qm (by decide) (by decide)) rfl rfl in_R (by decide) w_163 rfl d_H_deliver_29 ?_
  refine gq_iload_n C d_H_deliver_32 rfl ?_
  refine gq_iald C (g := 13) (j := 2) (a := i) (t0 := 0) (qm (by decide) (by decide)) rfl rfl rfl (Nat.lt_of_lt_of_le hi hn) (by decide) d_H_deliver_33 ?_
  refine gq_istore C (lo' := [(4, .int (V 13 2 i)), (3, .int (V 13 1 i)), (2, .int (V 13 0 i)), (0, .ref (al Z 0 0)), (1, .int (nI i))]) d_H_deliver_34 (by decide) rfl ?_
  refine gq_aload_n C d_H_deliver_36 rfl ?_
  refine gq_get C (g := 0) (j := 0) (ci := 7) (k := 5) (v := .ref (al Z 12 0)) (qm (by decide) (by decide)) rfl rfl in_H (by decide) w_208 rfl d_H_deliver_37 ?_
  refine gq_get C (g := 12) (j := 0) (ci := 3) (k := 3) (v := .ref (al Z 13 3)) (qm (by decide) (by decide)) rfl rfl in_R (by decide) w_165 rfl d_H_deliver_40 ?_
  refine gq_iload_n C d_H_deliver_43 rfl ?_
  refine gq_iald C (g := 13) (j := 3) (a := i) (t0 := 0) (qm (by decide) (by decide)) rfl rfl rfl (Nat.lt_of_lt_of_le hi hn) (by decide) d_H_deliver_44 ?_
  refine gq_istore C (lo' := [(5, .int (V 13 3 i)), (4, .int (V 13 2 i)), (3, .int (V 13 1 i)), (2, .int (V 13 0 i)), (0, .ref (al Z 0 0)), (1, .int (nI i))]) d_H_deliver_45 (by decide) rfl ?_
  refine gq_aload_n C d_H_deliver_47 rfl ?_
  refine gq_get C (g := 0) (j := 0) (ci := 7) (k := 5) (v := .ref (al Z 12 0)) (qm (by decide) (by decide)) rfl rfl in_H (by decide) w_208 rfl d_H_deliver_48 ?_
  refine gq_iload_n C d_H_deliver_51 rfl ?_
  refine gq_callV C (st := []) (fun _ h => h) (c_R_takeOut l Z hZ _ _ i n hi hn h4 (f_beh hi hn h4)) (qm (by decide) (by decide)) rfl rfl w_504 w_505 w_506 w_507 w_7 ⟨by decide, by decide, (by decide +kernel : (parseMethodDescriptor y_R_takeOut.desc).map (fun d => d.parameters.length) = some 1)⟩ ⟨by decide, by decide⟩ ⟨by decide, by decide⟩ rfl (Nat.le_of_ble_eq_true rfl) d_H_deliver_52 ?_
  refine gq_iload_n C d_H_deliver_55 rfl ?_
  refine gq_if_ne C (tgt := 73) d_H_deliver_56 rfl (fun hb56 => ?_) (fun hb => by exact absurd hb (by rw [hk]; decide))
  refine gq_iload_n C d_H_deliver_73 rfl ?_
  refine gq_iconst C (v := 2) d_H_deliver_74 (by decide) ?_
  refine gq_icmp_ne C (tgt := 94) d_H_deliver_75 rfl (fun hb75 => ?_) (fun hb => by exact absurd hb (by rw [hk]; decide))
  refine gq_aload_n C d_H_deliver_94 rfl ?_
  refine gq_iload_n C d_H_deliver_95 rfl ?_
  refine gq_iload_n C d_H_deliver_96 rfl ?_
  refine gq_iload C d_H_deliver_97 rfl ?_
  refine gq_iload C d_H_deliver_99 rfl ?_
  refine gq_callV C (st := []) (fun _ h => h) (c_H_bring3e l Z hZ _ _ t ht _ _ _ _ hk h1) (qm (by decide) (by decide)) rfl rfl w_517 w_519 ws_H_bringToDesk w_520 w_1 ⟨by decide, by decide, (by decide +kernel : (parseMethodDescriptor y_H_bringToDesk.desc).map (fun d => d.parameters.length) = some 4)⟩ ⟨by decide, by decide⟩ ⟨by decide, by decide⟩ rfl (Nat.le_of_ble_eq_true rfl) d_H_deliver_101 ?_
  exact gq_vret C hr (by decide) (by decide) d_H_deliver_104

set_option maxHeartbeats 4000000 in
set_option maxRecDepth 100000 in
theorem c_H_deliver4 (l : Launch) (Z : qZ) (hZ : qok (pX Z)) (V : qV) (Y : qY) (i n : Nat) (hi : i < n) (hn : n ≤ 40) (h4 : V 12 0 4 = nI n) (t : Nat) (ht : t < 4) (h1 : V 13 1 i = nI t) (hk : V 13 0 i = 4) : CT l y_H_deliver { frames := 7, cells := 0, slots := 0, locals := 129 } (pX Z) (qA (pX Z)) [.ref (al Z 0 0), .int (nI i)] V Y (.inl none) (f_bring4 (f_takeOut V i n) t (V 13 3 i)) Y := by
  refine CT.of (cc := b_H_deliver) (maxL := 6) (ret := none) hZ (by decide) w_484 (Nat.le_of_ble_eq_true rfl) ?_
  intro p e s m below meth c C hr hex hlt
  refine gq_aload_n C d_H_deliver_0 rfl ?_
  refine gq_iload_n C d_H_deliver_1 rfl ?_
  refine gq_callV C (st := []) (fun _ h => h.elim) (c_H_checkLetter l Z hZ _ _ (nI i) (f_i0 hi hn) (f_i4 hi hn h4)) (qm (by decide) (by decide)) rfl rfl w_485 w_487 ws_H_checkLetter w_488 w_1 ⟨by decide, by decide, (by decide +kernel : (parseMethodDescriptor y_H_checkLetter.desc).map (fun d => d.parameters.length) = some 1)⟩ ⟨by decide, by decide⟩ ⟨by decide, by decide⟩ rfl (Nat.le_of_ble_eq_true rfl) d_H_deliver_2 ?_
  refine gq_aload_n C d_H_deliver_5 rfl ?_
  refine gq_get C (g := 0) (j := 0) (ci := 7) (k := 5) (v := .ref (al Z 12 0)) (qm (by decide) (by decide)) rfl rfl in_H (by decide) w_208 rfl d_H_deliver_6 ?_
  refine gq_get C (g := 12) (j := 0) (ci := 3) (k := 0) (v := .ref (al Z 13 0)) (qm (by decide) (by decide)) rfl rfl in_R (by decide) w_159 rfl d_H_deliver_9 ?_
  refine gq_iload_n C d_H_deliver_12 rfl ?_
  refine gq_iald C (g := 13) (j := 0) (a := i) (t0 := 0) (qm (by decide) (by decide)) rfl rfl rfl (Nat.lt_of_lt_of_le hi hn) (by decide) d_H_deliver_13 ?_
  refine gq_istore_n C (lo' := [(2, .int (V 13 0 i)), (0, .ref (al Z 0 0)), (1, .int (nI i))]) d_H_deliver_14 rfl (by decide) rfl ?_
  refine gq_aload_n C d_H_deliver_15 rfl ?_
  refine gq_get C (g := 0) (j := 0) (ci := 7) (k := 5) (v := .ref (al Z 12 0)) (qm (by decide) (by decide)) rfl rfl in_H (by decide) w_208 rfl d_H_deliver_16 ?_
  refine gq_get C (g := 12) (j := 0) (ci := 3) (k := 1) (v := .ref (al Z 13 1)) (qm (by decide) (by decide)) rfl rfl in_R (by decide) w_161 rfl d_H_deliver_19 ?_
  refine gq_iload_n C d_H_deliver_22 rfl ?_
  refine gq_iald C (g := 13) (j := 1) (a := i) (t0 := 0) (qm (by decide) (by decide)) rfl rfl rfl (Nat.lt_of_lt_of_le hi hn) (by decide) d_H_deliver_23 ?_
  refine gq_istore_n C (lo' := [(3, .int (V 13 1 i)), (2, .int (V 13 0 i)), (0, .ref (al Z 0 0)), (1, .int (nI i))]) d_H_deliver_24 rfl (by decide) rfl ?_
  refine gq_aload_n C d_H_deliver_25 rfl ?_
  refine gq_get C (g := 0) (j := 0) (ci := 7) (k := 5) (v := .ref (al Z 12 0)) (qm (by decide) (by decide)) rfl rfl in_H (by decide) w_208 rfl d_H_deliver_26 ?_
  refine gq_get C (g := 12) (j := 0) (ci := 3) (k := 2) (v := .ref (al Z 13 2)) (qm (by decide) (by decide)) rfl rfl in_R (by decide) w_163 rfl d_H_deliver_29 ?_
  refine gq_iload_n C d_H_deliver_32 rfl ?_
  refine gq_iald C (g := 13) (j := 2) (a := i) (t0 := 0) (qm (by decide) (by decide)) rfl rfl rfl (Nat.lt_of_lt_of_le hi hn) (by decide) d_H_deliver_33 ?_
  refine gq_istore C (lo' := [(4, .int (V 13 2 i)), (3, .int (V 13 1 i)), (2, .int (V 13 0 i)), (0, .ref (al Z 0 0)), (1, .int (nI i))]) d_H_deliver_34 (by decide) rfl ?_
  refine gq_aload_n C d_H_deliver_36 rfl ?_
  refine gq_get C (g := 0) (j := 0) (ci := 7) (k := 5) (v := .ref (al Z 12 0)) (qm (by decide) (by decide)) rfl rfl in_H (by decide) w_208 rfl d_H_deliver_37 ?_
  refine gq_get C (g := 12) (j := 0) (ci := 3) (k := 3) (v := .ref (al Z 13 3)) (qm (by decide) (by decide)) rfl rfl in_R (by decide) w_165 rfl d_H_deliver_40 ?_
  refine gq_iload_n C d_H_deliver_43 rfl ?_
  refine gq_iald C (g := 13) (j := 3) (a := i) (t0 := 0) (qm (by decide) (by decide)) rfl rfl rfl (Nat.lt_of_lt_of_le hi hn) (by decide) d_H_deliver_44 ?_
  refine gq_istore C (lo' := [(5, .int (V 13 3 i)), (4, .int (V 13 2 i)), (3, .int (V 13 1 i)), (2, .int (V 13 0 i)), (0, .ref (al Z 0 0)), (1, .int (nI i))]) d_H_deliver_45 (by decide) rfl ?_
  refine gq_aload_n C d_H_deliver_47 rfl ?_
  refine gq_get C (g := 0) (j := 0) (ci := 7) (k := 5) (v := .ref (al Z 12 0)) (qm (by decide) (by decide)) rfl rfl in_H (by decide) w_208 rfl d_H_deliver_48 ?_
  refine gq_iload_n C d_H_deliver_51 rfl ?_
  refine gq_callV C (st := []) (fun _ h => h) (c_R_takeOut l Z hZ _ _ i n hi hn h4 (f_beh hi hn h4)) (qm (by decide) (by decide)) rfl rfl w_504 w_505 w_506 w_507 w_7 ⟨by decide, by decide, (by decide +kernel : (parseMethodDescriptor y_R_takeOut.desc).map (fun d => d.parameters.length) = some 1)⟩ ⟨by decide, by decide⟩ ⟨by decide, by decide⟩ rfl (Nat.le_of_ble_eq_true rfl) d_H_deliver_52 ?_
  refine gq_iload_n C d_H_deliver_55 rfl ?_
  refine gq_if_ne C (tgt := 73) d_H_deliver_56 rfl (fun hb56 => ?_) (fun hb => by exact absurd hb (by rw [hk]; decide))
  refine gq_iload_n C d_H_deliver_73 rfl ?_
  refine gq_iconst C (v := 2) d_H_deliver_74 (by decide) ?_
  refine gq_icmp_ne C (tgt := 94) d_H_deliver_75 rfl (fun hb75 => ?_) (fun hb => by exact absurd hb (by rw [hk]; decide))
  refine gq_aload_n C d_H_deliver_94 rfl ?_
  refine gq_iload_n C d_H_deliver_95 rfl ?_
  refine gq_iload_n C d_H_deliver_96 rfl ?_
  refine gq_iload C d_H_deliver_97 rfl ?_
  refine gq_iload C d_H_deliver_99 rfl ?_
  refine gq_callV C (st := []) (fun _ h => h) (c_H_bring4e l Z hZ _ _ t ht _ _ _ _ hk h1) (qm (by decide) (by decide)) rfl rfl w_517 w_519 ws_H_bringToDesk w_520 w_1 ⟨by decide, by decide, (by decide +kernel : (parseMethodDescriptor y_H_bringToDesk.desc).map (fun d => d.parameters.length) = some 4)⟩ ⟨by decide, by decide⟩ ⟨by decide, by decide⟩ rfl (Nat.le_of_ble_eq_true rfl) d_H_deliver_101 ?_
  exact gq_vret C hr (by decide) (by decide) d_H_deliver_104

set_option maxHeartbeats 4000000 in
set_option maxRecDepth 100000 in
theorem c_H_open (l : Launch) (Z : qZ) (hZ : qok (pX Z)) (V : qV) (Y : qY) (t : Nat) (ht : t < 4) (k : Nat) (hk : k < 40) (h7 : V 0 0 7 = nI k) (h0 : ¬ f_lease V t = 0) (h1 : ¬ 3 ≤ V 7 t 7) : CT l y_H_open { frames := 7, cells := 0, slots := 0, locals := 116 } (pX Z) (qA (pX Z)) [.ref (al Z 0 0), .int (nI t)] V Y (.inl (some (.int (V 0 0 7)))) (qv (qv (qv (qv (qv V 0 0 7 ((V 0 0 7) + 1)) 15 k 0 (nI t)) 15 k 1 (f_lease V t)) 15 k 2 1) 7 t 7 ((V 7 t 7) + 1)) Y := by
  refine CT.of (cc := b_H_open) (maxL := 4) (ret := (some .int)) hZ (by decide) w_572 (Nat.le_of_ble_eq_true rfl) ?_
  intro p e s m below meth c C hr hex hlt
  refine gq_iload_n C d_H_open_0 rfl ?_
  refine gq_callS C (st := []) (fun _ h => h.elim) (c_H_checkTill l Z hZ _ _ (nI t) (f_t0 ht) (f_t4 ht)) w_426 w_427 w_428 w_1 ⟨by decide, by decide, (by decide +kernel : (parseMethodDescriptor y_H_checkTill.desc).map (fun d => d.parameters.length) = some 1)⟩ ⟨by decide, by decide⟩ ⟨by decide, by decide⟩ rfl (Nat.le_of_ble_eq_true rfl) d_H_open_1 ?_
  refine gq_aload_n C d_H_open_4 rfl ?_
  refine gq_get C (g := 0) (j := 0) (ci := 7) (k := 3) (v := .ref (al Z 6 0)) (qm (by decide) (by decide)) rfl rfl in_H (by decide) w_206 rfl d_H_open_5 ?_
  refine gq_iload_n C d_H_open_8 rfl ?_
  refine gq_aald C (g := 6) (j := 0) (a := t) (t0 := 4) (b := al Z 7 t) (qm (by decide) (by decide)) rfl rfl rfl ht (by decide) rfl d_H_open_9 ?_
  refine gq_callV C (st := []) (fun _ h => h.elim) (c_T_validLease l Z hZ _ _ t ht) (qm (by decide) ht) rfl rfl w_466 w_467 w_468 w_469 w_3 ⟨by decide, by decide, (by decide +kernel : (parseMethodDescriptor y_T_validLease.desc).map (fun d => d.parameters.length) = some 0)⟩ ⟨by decide, by decide⟩ ⟨by decide, by decide⟩ rfl (Nat.le_of_ble_eq_true rfl) d_H_open_10 ?_
  refine gq_istore_n C (lo' := [(2, .int (f_lease V t)), (0, .ref (al Z 0 0)), (1, .int (nI t))]) d_H_open_13 rfl (by decide) rfl ?_
  refine gq_iload_n C d_H_open_14 rfl ?_
  refine gq_if_eq C (tgt := 40) d_H_open_15 rfl (fun hb => by first | contradiction | contradiction) (fun hb15 => ?_)
  refine gq_aload_n C d_H_open_18 rfl ?_
  refine gq_get C (g := 0) (j := 0) (ci := 7) (k := 3) (v := .ref (al Z 6 0)) (qm (by decide) (by decide)) rfl rfl in_H (by decide) w_206 rfl d_H_open_19 ?_
  refine gq_iload_n C d_H_open_22 rfl ?_
  refine gq_aald C (g := 6) (j := 0) (a := t) (t0 := 4) (b := al Z 7 t) (qm (by decide) (by decide)) rfl rfl rfl ht (by decide) rfl d_H_open_23 ?_
  refine gq_get C (g := 7) (j := t) (ci := 6) (k := 7) (v := .int (V 7 t 7)) (qm (by decide) ht) rfl rfl in_T (by decide) w_81 rfl d_H_open_24 ?_
  refine gq_iconst C (v := 3) d_H_open_27 (by decide) ?_
  refine gq_icmp_ge C (tgt := 40) d_H_open_28 rfl (fun hb => by first | contradiction | contradiction) (fun hb28 => ?_)
  refine gq_aload_n C d_H_open_31 rfl ?_
  refine gq_get C (g := 0) (j := 0) (ci := 7) (k := 7) (v := .int (V 0 0 7)) (qm (by decide) (by decide)) rfl rfl in_H (by decide) w_210 rfl d_H_open_32 ?_
  refine gq_bipush C (v := 40) d_H_open_35 (by decide) ?_
  refine gq_icmp_lt C (tgt := 48) d_H_open_37 rfl (fun hb37 => ?_) (fun hb => by exact absurd (by rw [h7]; exact nI_lt (b := 40) hk (by decide)) hb)
  refine gq_aload_n C d_H_open_48 rfl ?_
  refine gq_get C (g := 0) (j := 0) (ci := 7) (k := 7) (v := .int (V 0 0 7)) (qm (by decide) (by decide)) rfl rfl in_H (by decide) w_210 rfl d_H_open_49 ?_
  refine gq_istore_n C (lo' := [(3, .int (V 0 0 7)), (2, .int (f_lease V t)), (0, .ref (al Z 0 0)), (1, .int (nI t))]) d_H_open_52 rfl (by decide) rfl ?_
  refine gq_aload_n C d_H_open_53 rfl ?_
  refine gq_dup C d_H_open_54 rfl ?_
  refine gq_get C (g := 0) (j := 0) (ci := 7) (k := 7) (v := .int (V 0 0 7)) (qm (by decide) (by decide)) rfl rfl in_H (by decide) w_210 rfl d_H_open_55 ?_
  refine gq_iconst C (v := 1) d_H_open_58 (by decide) ?_
  refine gq_iadd C d_H_open_59 ?_
  refine gq_put C (fun _ h => h) (g := 0) (j := 0) (ci := 7) (k := 7) ft_H k_H n_H (qm (by decide) (by decide)) rfl rfl in_H (by decide) w_210 rfl (k_H 7 (by decide)) rfl rfl (Nat.le_of_ble_eq_true rfl) rfl d_H_open_60 ?_
  refine gq_aload_n C d_H_open_63 rfl ?_
  refine gq_get C (g := 0) (j := 0) (ci := 7) (k := 6) (v := .ref (al Z 14 0)) (qm (by decide) (by decide)) rfl rfl in_H (by decide) w_209 rfl d_H_open_64 ?_
  refine gq_iload_n C d_H_open_67 rfl ?_
  refine gq_aald C (g := 14) (j := 0) (a := k) (t0 := 6) (b := al Z 15 k) (qm (by decide) (by decide)) rfl rfl h7 hk (by decide) rfl d_H_open_68 ?_
  refine gq_iload_n C d_H_open_69 rfl ?_
  refine gq_iload_n C d_H_open_70 rfl ?_
  refine gq_callV C (st := []) (fun _ h => h) (c_B_begin l Z hZ _ _ k hk (nI t) (f_lease V t)) (qm (by decide) hk) rfl rfl w_573 w_574 w_575 w_576 w_8 ⟨by decide, by decide, (by decide +kernel : (parseMethodDescriptor y_B_begin.desc).map (fun d => d.parameters.length) = some 2)⟩ ⟨by decide, by decide⟩ ⟨by decide, by decide⟩ rfl (Nat.le_of_ble_eq_true rfl) d_H_open_71 ?_
  refine gq_aload_n C d_H_open_74 rfl ?_
  refine gq_get C (g := 0) (j := 0) (ci := 7) (k := 3) (v := .ref (al Z 6 0)) (qm (by decide) (by decide)) rfl rfl in_H (by decide) w_206 rfl d_H_open_75 ?_
  refine gq_iload_n C d_H_open_78 rfl ?_
  refine gq_aald C (g := 6) (j := 0) (a := t) (t0 := 4) (b := al Z 7 t) (qm (by decide) (by decide)) rfl rfl rfl ht (by decide) rfl d_H_open_79 ?_
  refine gq_dup C d_H_open_80 rfl ?_
  refine gq_get C (g := 7) (j := t) (ci := 6) (k := 7) (v := .int (V 7 t 7)) (qm (by decide) ht) rfl rfl in_T (by decide) w_81 rfl d_H_open_81 ?_
  refine gq_iconst C (v := 1) d_H_open_84 (by decide) ?_
  refine gq_iadd C d_H_open_85 ?_
  refine gq_put C (fun _ h => h) (g := 7) (j := t) (ci := 6) (k := 7) ft_T k_T n_T (qm (by decide) ht) rfl rfl in_T (by decide) w_81 rfl (k_T 7 (by decide)) rfl rfl (Nat.le_of_ble_eq_true rfl) rfl d_H_open_86 ?_
  refine gq_iload_n C d_H_open_89 rfl ?_
  exact gq_iret C hr (by decide) (by decide) d_H_open_90

set_option maxHeartbeats 4000000 in
set_option maxRecDepth 100000 in
theorem c_H_open_x2 (l : Launch) (hadm : ∀ e : Env, l.admits e → e.platform.stackTraces = false) (Z : qZ) (hZ : qok (pX Z)) (V : qV) (Y : qY) (t : Nat) (ht : t < 4) (h : f_lease V t = 0 ∨ 3 ≤ V 7 t 7 ∨ ¬ V 0 0 7 < 40) : CT l y_H_open { frames := 7, cells := 1, slots := 6, locals := 116 } (pX Z) qN [.ref (al Z 0 0), .int (nI t)] V Y (.inr "java/lang/IllegalStateException") V Y := by
  refine CT.of (cc := b_H_open) (maxL := 4) (ret := (some .int)) hZ (by decide) w_572 (Nat.le_of_ble_eq_true rfl) ?_
  intro p e s m below meth c C hr hex hlt
  refine gq_iload_n C d_H_open_0 rfl ?_
  refine gq_callS C (st := []) (fun _ h => h) (c_H_checkTill l Z hZ _ _ (nI t) (f_t0 ht) (f_t4 ht)) w_426 w_427 w_428 w_1 ⟨by decide, by decide, (by decide +kernel : (parseMethodDescriptor y_H_checkTill.desc).map (fun d => d.parameters.length) = some 1)⟩ ⟨by decide, by decide⟩ ⟨by decide, by decide⟩ rfl (Nat.le_of_ble_eq_true rfl) d_H_open_1 ?_
  refine gq_aload_n C d_H_open_4 rfl ?_
  refine gq_get C (g := 0) (j := 0) (ci := 7) (k := 3) (v := .ref (al Z 6 0)) (qm (by decide) (by decide)) rfl rfl in_H (by decide) w_206 rfl d_H_open_5 ?_
  refine gq_iload_n C d_H_open_8 rfl ?_
  refine gq_aald C (g := 6) (j := 0) (a := t) (t0 := 4) (b := al Z 7 t) (qm (by decide) (by decide)) rfl rfl rfl ht (by decide) rfl d_H_open_9 ?_
  refine gq_callV C (st := []) (fun _ h => h) (c_T_validLease l Z hZ _ _ t ht) (qm (by decide) ht) rfl rfl w_466 w_467 w_468 w_469 w_3 ⟨by decide, by decide, (by decide +kernel : (parseMethodDescriptor y_T_validLease.desc).map (fun d => d.parameters.length) = some 0)⟩ ⟨by decide, by decide⟩ ⟨by decide, by decide⟩ rfl (Nat.le_of_ble_eq_true rfl) d_H_open_10 ?_
  refine gq_istore_n C (lo' := [(2, .int (f_lease V t)), (0, .ref (al Z 0 0)), (1, .int (nI t))]) d_H_open_13 rfl (by decide) rfl ?_
  refine gq_iload_n C d_H_open_14 rfl ?_
  refine gq_if_eq C (tgt := 40) d_H_open_15 rfl (fun hb15 => ?_) (fun hb15 => ?_)
  · skip
    exact gq_throw C hadm hex hlt tw_IllegalStateException w_340 w_341 w_14 (by decide) (by decide) (by decide) (by decide) (by decide) (Nat.le_of_ble_eq_true rfl) d_H_open_40 d_H_open_43 d_H_open_44 d_H_open_47
  · skip
    refine gq_aload_n C d_H_open_18 rfl ?_
    refine gq_get C (g := 0) (j := 0) (ci := 7) (k := 3) (v := .ref (al Z 6 0)) (qm (by decide) (by decide)) rfl rfl in_H (by decide) w_206 rfl d_H_open_19 ?_
    refine gq_iload_n C d_H_open_22 rfl ?_
    refine gq_aald C (g := 6) (j := 0) (a := t) (t0 := 4) (b := al Z 7 t) (qm (by decide) (by decide)) rfl rfl rfl ht (by decide) rfl d_H_open_23 ?_
    refine gq_get C (g := 7) (j := t) (ci := 6) (k := 7) (v := .int (V 7 t 7)) (qm (by decide) ht) rfl rfl in_T (by decide) w_81 rfl d_H_open_24 ?_
    refine gq_iconst C (v := 3) d_H_open_27 (by decide) ?_
    refine gq_icmp_ge C (tgt := 40) d_H_open_28 rfl (fun hb28 => ?_) (fun hb28 => ?_)
    · skip
      exact gq_throw C hadm hex hlt tw_IllegalStateException w_340 w_341 w_14 (by decide) (by decide) (by decide) (by decide) (by decide) (Nat.le_of_ble_eq_true rfl) d_H_open_40 d_H_open_43 d_H_open_44 d_H_open_47
    · skip
      refine gq_aload_n C d_H_open_31 rfl ?_
      refine gq_get C (g := 0) (j := 0) (ci := 7) (k := 7) (v := .int (V 0 0 7)) (qm (by decide) (by decide)) rfl rfl in_H (by decide) w_210 rfl d_H_open_32 ?_
      refine gq_bipush C (v := 40) d_H_open_35 (by decide) ?_
      refine gq_icmp_lt C (tgt := 48) d_H_open_37 rfl (fun hb => by first | contradiction | (rcases h with h | h | h <;> contradiction)) (fun hb37 => ?_)
      exact gq_throw C hadm hex hlt tw_IllegalStateException w_340 w_341 w_14 (by decide) (by decide) (by decide) (by decide) (by decide) (Nat.le_of_ble_eq_true rfl) d_H_open_40 d_H_open_43 d_H_open_44 d_H_open_47

set_option maxHeartbeats 4000000 in
set_option maxRecDepth 100000 in
theorem c_H_scan_p (l : Launch) (Z : qZ) (hZ : qok (pX Z)) (V : qV) (Y : qY) (k : Nat) (hk : k < 40) (hib : f_isBasket V (nI k) = 1) (hop : ¬ V 15 k 2 = 0) (b : Nat) (hb : b < 9) (hbk : V 15 k 1 = nI (b + 1)) (n : Nat) (hn : n < 8) (h1 : f_isArticle (nI n) = 1) (h5 : f_sells V (b + 1) n = 1) (h6 : ¬ V 16 k n + 1 < 0) (h7 : V 16 k n + 1 ≤ 30) : CT l y_H_scan { frames := 7, cells := 0, slots := 0, locals := 117 } (pX Z) (qA (pX Z)) [.ref (al Z 0 0), .int (nI k), .int (nI n), .int 1] V Y (.inl (some (.int ((V 16 k n) + 1)))) (qv V 16 k n ((V 16 k n) + 1)) Y := by
  refine CT.of (cc := b_H_scan) (maxL := 5) (ret := (some .int)) hZ (by decide) w_584 (Nat.le_of_ble_eq_true rfl) ?_
  intro p e s m below meth c C hr hex hlt
  refine gq_aload_n C d_H_scan_0 rfl ?_
  refine gq_iload_n C d_H_scan_1 rfl ?_
  refine gq_callV C (st := []) (fun _ h => h.elim) (c_H_checkOpenBasket l Z hZ _ _ k hk hib hop) (qm (by decide) (by decide)) rfl rfl w_585 w_587 ws_H_checkOpenBasket w_588 w_1 ⟨by decide, by decide, (by decide +kernel : (parseMethodDescriptor y_H_checkOpenBasket.desc).map (fun d => d.parameters.length) = some 1)⟩ ⟨by decide, by decide⟩ ⟨by decide, by decide⟩ rfl (Nat.le_of_ble_eq_true rfl) d_H_scan_2 ?_
  refine gq_iload_n C d_H_scan_5 rfl ?_
  refine gq_callS C (st := []) (fun _ h => h.elim) (c_H_isArticle l Z hZ _ _ (nI n)) w_248 w_249 w_250 w_1 ⟨by decide, by decide, (by decide +kernel : (parseMethodDescriptor y_H_isArticle.desc).map (fun d => d.parameters.length) = some 1)⟩ ⟨by decide, by decide⟩ ⟨by decide, by decide⟩ rfl (Nat.le_of_ble_eq_true rfl) d_H_scan_6 ?_
  refine gq_if_eq C (tgt := 39) d_H_scan_9 rfl (fun hb => by exact absurd (hb.symm.trans h1) (by decide)) (fun hb9 => ?_)
  refine gq_iload_n C d_H_scan_12 rfl ?_
  refine gq_iconst C (v := 1) d_H_scan_13 (by decide) ?_
  refine gq_icmp_eq C (tgt := 22) d_H_scan_14 rfl (fun hb14 => ?_) (fun hb => by exact absurd hb (by decide))
  refine gq_aload_n C d_H_scan_22 rfl ?_
  refine gq_aload_n C d_H_scan_23 rfl ?_
  refine gq_get C (g := 0) (j := 0) (ci := 7) (k := 6) (v := .ref (al Z 14 0)) (qm (by decide) (by decide)) rfl rfl in_H (by decide) w_209 rfl d_H_scan_24 ?_
  refine gq_iload_n C d_H_scan_27 rfl ?_
  refine gq_aald C (g := 14) (j := 0) (a := k) (t0 := 6) (b := al Z 15 k) (qm (by decide) (by decide)) rfl rfl rfl hk (by decide) rfl d_H_scan_28 ?_
  refine gq_get C (g := 15) (j := k) (ci := 0) (k := 1) (v := .int (V 15 k 1)) (qm (by decide) hk) rfl rfl in_B (by decide) w_189 rfl d_H_scan_29 ?_
  refine G.eqS (st' := [.int (nI (b + 1)), .ref (al Z 0 0)]) (by first | (rw [show V 15 k 1 = nI (b + 1) from hbk]; done) | (rw [show V 15 k 1 = nI (b + 1) from hbk]; rfl)) ?_
  refine gq_iload_n C d_H_scan_32 rfl ?_
  refine gq_callV C (st := []) (fun _ h => h.elim) (c_H_sells l Z hZ _ _ b hb n hn) (qm (by decide) (by decide)) rfl rfl w_608 w_610 ws_H_sells w_611 w_1 ⟨by decide, by decide, (by decide +kernel : (parseMethodDescriptor y_H_sells.desc).map (fun d => d.parameters.length) = some 2)⟩ ⟨by decide, by decide⟩ ⟨by decide, by decide⟩ rfl (Nat.le_of_ble_eq_true rfl) d_H_scan_33 ?_
  refine gq_if_ne C (tgt := 47) d_H_scan_36 rfl (fun hb36 => ?_) (fun hb => by exact absurd (hb.symm.trans h5) (by decide))
  refine gq_aload_n C d_H_scan_47 rfl ?_
  refine gq_get C (g := 0) (j := 0) (ci := 7) (k := 6) (v := .ref (al Z 14 0)) (qm (by decide) (by decide)) rfl rfl in_H (by decide) w_209 rfl d_H_scan_48 ?_
  refine gq_iload_n C d_H_scan_51 rfl ?_
  refine gq_aald C (g := 14) (j := 0) (a := k) (t0 := 6) (b := al Z 15 k) (qm (by decide) (by decide)) rfl rfl rfl hk (by decide) rfl d_H_scan_52 ?_
  refine gq_get C (g := 15) (j := k) (ci := 0) (k := 3) (v := .ref (al Z 16 k)) (qm (by decide) hk) rfl rfl in_B (by decide) w_193 rfl d_H_scan_53 ?_
  refine gq_iload_n C d_H_scan_56 rfl ?_
  refine gq_iald C (g := 16) (j := k) (a := n) (t0 := 0) (qm (by decide) hk) rfl rfl rfl hn (by decide) d_H_scan_57 ?_
  refine gq_iload_n C d_H_scan_58 rfl ?_
  refine gq_iadd C d_H_scan_59 ?_
  refine gq_istore C (lo' := [(4, .int ((V 16 k n) + 1)), (0, .ref (al Z 0 0)), (1, .int (nI k)), (2, .int (nI n)), (3, .int 1)]) d_H_scan_60 (by decide) rfl ?_
  refine gq_iload C d_H_scan_62 rfl ?_
  refine gq_if_lt C (tgt := 74) d_H_scan_64 rfl (fun hb => by exact absurd hb h6) (fun hb64 => ?_)
  refine gq_iload C d_H_scan_67 rfl ?_
  refine gq_bipush C (v := 30) d_H_scan_69 (by decide) ?_
  refine gq_icmp_le C (tgt := 82) d_H_scan_71 rfl (fun hb71 => ?_) (fun hb => by exact absurd h7 hb)
  refine gq_aload_n C d_H_scan_82 rfl ?_
  refine gq_get C (g := 0) (j := 0) (ci := 7) (k := 6) (v := .ref (al Z 14 0)) (qm (by decide) (by decide)) rfl rfl in_H (by decide) w_209 rfl d_H_scan_83 ?_
  refine gq_iload_n C d_H_scan_86 rfl ?_
  refine gq_aald C (g := 14) (j := 0) (a := k) (t0 := 6) (b := al Z 15 k) (qm (by decide) (by decide)) rfl rfl rfl hk (by decide) rfl d_H_scan_87 ?_
  refine gq_get C (g := 15) (j := k) (ci := 0) (k := 3) (v := .ref (al Z 16 k)) (qm (by decide) hk) rfl rfl in_B (by decide) w_193 rfl d_H_scan_88 ?_
  refine gq_iload_n C d_H_scan_91 rfl ?_
  refine gq_iload C d_H_scan_92 rfl ?_
  refine gq_iast C (fun _ h => h) (g := 16) (j := k) (a := n) (t0 := 0) (qm (by decide) hk) (fun _ => rfl) rfl rfl hn (by decide) d_H_scan_94 ?_
  refine gq_iload C d_H_scan_95 rfl ?_
  exact gq_iret C hr (by decide) (by decide) d_H_scan_97

set_option maxHeartbeats 4000000 in
set_option maxRecDepth 100000 in
theorem c_H_scan_p_x2 (l : Launch) (hadm : ∀ e : Env, l.admits e → e.platform.stackTraces = false) (Z : qZ) (hZ : qok (pX Z)) (V : qV) (Y : qY) (k : Nat) (hk : k < 40) (hib : f_isBasket V (nI k) = 1) (hop : ¬ V 15 k 2 = 0) (b : Nat) (hb : b < 9) (hbk : V 15 k 1 = nI (b + 1)) (n : Nat) (hn : n < 8) (h1 : f_isArticle (nI n) = 1) (h5 : f_sells V (b + 1) n = 0) : CT l y_H_scan { frames := 7, cells := 1, slots := 6, locals := 117 } (pX Z) qN [.ref (al Z 0 0), .int (nI k), .int (nI n), .int 1] V Y (.inr "java/lang/IllegalArgumentException") V Y := by
  refine CT.of (cc := b_H_scan) (maxL := 5) (ret := (some .int)) hZ (by decide) w_584 (Nat.le_of_ble_eq_true rfl) ?_
  intro p e s m below meth c C hr hex hlt
  refine gq_aload_n C d_H_scan_0 rfl ?_
  refine gq_iload_n C d_H_scan_1 rfl ?_
  refine gq_callV C (st := []) (fun _ h => h) (c_H_checkOpenBasket l Z hZ _ _ k hk hib hop) (qm (by decide) (by decide)) rfl rfl w_585 w_587 ws_H_checkOpenBasket w_588 w_1 ⟨by decide, by decide, (by decide +kernel : (parseMethodDescriptor y_H_checkOpenBasket.desc).map (fun d => d.parameters.length) = some 1)⟩ ⟨by decide, by decide⟩ ⟨by decide, by decide⟩ rfl (Nat.le_of_ble_eq_true rfl) d_H_scan_2 ?_
  refine gq_iload_n C d_H_scan_5 rfl ?_
  refine gq_callS C (st := []) (fun _ h => h) (c_H_isArticle l Z hZ _ _ (nI n)) w_248 w_249 w_250 w_1 ⟨by decide, by decide, (by decide +kernel : (parseMethodDescriptor y_H_isArticle.desc).map (fun d => d.parameters.length) = some 1)⟩ ⟨by decide, by decide⟩ ⟨by decide, by decide⟩ rfl (Nat.le_of_ble_eq_true rfl) d_H_scan_6 ?_
  refine gq_if_eq C (tgt := 39) d_H_scan_9 rfl (fun hb => by exact absurd (hb.symm.trans h1) (by decide)) (fun hb9 => ?_)
  refine gq_iload_n C d_H_scan_12 rfl ?_
  refine gq_iconst C (v := 1) d_H_scan_13 (by decide) ?_
  refine gq_icmp_eq C (tgt := 22) d_H_scan_14 rfl (fun hb14 => ?_) (fun hb => by exact absurd hb (by decide))
  refine gq_aload_n C d_H_scan_22 rfl ?_
  refine gq_aload_n C d_H_scan_23 rfl ?_
  refine gq_get C (g := 0) (j := 0) (ci := 7) (k := 6) (v := .ref (al Z 14 0)) (qm (by decide) (by decide)) rfl rfl in_H (by decide) w_209 rfl d_H_scan_24 ?_
  refine gq_iload_n C d_H_scan_27 rfl ?_
  refine gq_aald C (g := 14) (j := 0) (a := k) (t0 := 6) (b := al Z 15 k) (qm (by decide) (by decide)) rfl rfl rfl hk (by decide) rfl d_H_scan_28 ?_
  refine gq_get C (g := 15) (j := k) (ci := 0) (k := 1) (v := .int (V 15 k 1)) (qm (by decide) hk) rfl rfl in_B (by decide) w_189 rfl d_H_scan_29 ?_
  refine G.eqS (st' := [.int (nI (b + 1)), .ref (al Z 0 0)]) (by first | (rw [show V 15 k 1 = nI (b + 1) from hbk]; done) | (rw [show V 15 k 1 = nI (b + 1) from hbk]; rfl)) ?_
  refine gq_iload_n C d_H_scan_32 rfl ?_
  refine gq_callV C (st := []) (fun _ h => h) (c_H_sells l Z hZ _ _ b hb n hn) (qm (by decide) (by decide)) rfl rfl w_608 w_610 ws_H_sells w_611 w_1 ⟨by decide, by decide, (by decide +kernel : (parseMethodDescriptor y_H_sells.desc).map (fun d => d.parameters.length) = some 2)⟩ ⟨by decide, by decide⟩ ⟨by decide, by decide⟩ rfl (Nat.le_of_ble_eq_true rfl) d_H_scan_33 ?_
  refine gq_if_ne C (tgt := 47) d_H_scan_36 rfl (fun hb => by exact absurd h5 hb) (fun hb36 => ?_)
  exact gq_throw C hadm hex hlt tw_IllegalArgumentException w_255 w_256 w_13 (by decide) (by decide) (by decide) (by decide) (by decide) (Nat.le_of_ble_eq_true rfl) d_H_scan_39 d_H_scan_42 d_H_scan_43 d_H_scan_46

set_option maxHeartbeats 4000000 in
set_option maxRecDepth 100000 in
theorem c_H_scan_p_x3 (l : Launch) (hadm : ∀ e : Env, l.admits e → e.platform.stackTraces = false) (Z : qZ) (hZ : qok (pX Z)) (V : qV) (Y : qY) (k : Nat) (hk : k < 40) (hib : f_isBasket V (nI k) = 1) (hop : ¬ V 15 k 2 = 0) (b : Nat) (hb : b < 9) (hbk : V 15 k 1 = nI (b + 1)) (n : Nat) (hn : n < 8) (h1 : f_isArticle (nI n) = 1) (h5 : f_sells V (b + 1) n = 1) (h : V 16 k n + 1 < 0 ∨ ¬ V 16 k n + 1 ≤ 30) : CT l y_H_scan { frames := 7, cells := 1, slots := 6, locals := 117 } (pX Z) qN [.ref (al Z 0 0), .int (nI k), .int (nI n), .int 1] V Y (.inr "java/lang/IllegalStateException") V Y := by
  refine CT.of (cc := b_H_scan) (maxL := 5) (ret := (some .int)) hZ (by decide) w_584 (Nat.le_of_ble_eq_true rfl) ?_
  intro p e s m below meth c C hr hex hlt
  refine gq_aload_n C d_H_scan_0 rfl ?_
  refine gq_iload_n C d_H_scan_1 rfl ?_
  refine gq_callV C (st := []) (fun _ h => h) (c_H_checkOpenBasket l Z hZ _ _ k hk hib hop) (qm (by decide) (by decide)) rfl rfl w_585 w_587 ws_H_checkOpenBasket w_588 w_1 ⟨by decide, by decide, (by decide +kernel : (parseMethodDescriptor y_H_checkOpenBasket.desc).map (fun d => d.parameters.length) = some 1)⟩ ⟨by decide, by decide⟩ ⟨by decide, by decide⟩ rfl (Nat.le_of_ble_eq_true rfl) d_H_scan_2 ?_
  refine gq_iload_n C d_H_scan_5 rfl ?_
  refine gq_callS C (st := []) (fun _ h => h) (c_H_isArticle l Z hZ _ _ (nI n)) w_248 w_249 w_250 w_1 ⟨by decide, by decide, (by decide +kernel : (parseMethodDescriptor y_H_isArticle.desc).map (fun d => d.parameters.length) = some 1)⟩ ⟨by decide, by decide⟩ ⟨by decide, by decide⟩ rfl (Nat.le_of_ble_eq_true rfl) d_H_scan_6 ?_
  refine gq_if_eq C (tgt := 39) d_H_scan_9 rfl (fun hb => by exact absurd (hb.symm.trans h1) (by decide)) (fun hb9 => ?_)
  refine gq_iload_n C d_H_scan_12 rfl ?_
  refine gq_iconst C (v := 1) d_H_scan_13 (by decide) ?_
  refine gq_icmp_eq C (tgt := 22) d_H_scan_14 rfl (fun hb14 => ?_) (fun hb => by exact absurd hb (by decide))
  refine gq_aload_n C d_H_scan_22 rfl ?_
  refine gq_aload_n C d_H_scan_23 rfl ?_
  refine gq_get C (g := 0) (j := 0) (ci := 7) (k := 6) (v := .ref (al Z 14 0)) (qm (by decide) (by decide)) rfl rfl in_H (by decide) w_209 rfl d_H_scan_24 ?_
  refine gq_iload_n C d_H_scan_27 rfl ?_
  refine gq_aald C (g := 14) (j := 0) (a := k) (t0 := 6) (b := al Z 15 k) (qm (by decide) (by decide)) rfl rfl rfl hk (by decide) rfl d_H_scan_28 ?_
  refine gq_get C (g := 15) (j := k) (ci := 0) (k := 1) (v := .int (V 15 k 1)) (qm (by decide) hk) rfl rfl in_B (by decide) w_189 rfl d_H_scan_29 ?_
  refine G.eqS (st' := [.int (nI (b + 1)), .ref (al Z 0 0)]) (by first | (rw [show V 15 k 1 = nI (b + 1) from hbk]; done) | (rw [show V 15 k 1 = nI (b + 1) from hbk]; rfl)) ?_
  refine gq_iload_n C d_H_scan_32 rfl ?_
  refine gq_callV C (st := []) (fun _ h => h) (c_H_sells l Z hZ _ _ b hb n hn) (qm (by decide) (by decide)) rfl rfl w_608 w_610 ws_H_sells w_611 w_1 ⟨by decide, by decide, (by decide +kernel : (parseMethodDescriptor y_H_sells.desc).map (fun d => d.parameters.length) = some 2)⟩ ⟨by decide, by decide⟩ ⟨by decide, by decide⟩ rfl (Nat.le_of_ble_eq_true rfl) d_H_scan_33 ?_
  refine gq_if_ne C (tgt := 47) d_H_scan_36 rfl (fun hb36 => ?_) (fun hb => by exact absurd (hb.symm.trans h5) (by decide))
  refine gq_aload_n C d_H_scan_47 rfl ?_
  refine gq_get C (g := 0) (j := 0) (ci := 7) (k := 6) (v := .ref (al Z 14 0)) (qm (by decide) (by decide)) rfl rfl in_H (by decide) w_209 rfl d_H_scan_48 ?_
  refine gq_iload_n C d_H_scan_51 rfl ?_
  refine gq_aald C (g := 14) (j := 0) (a := k) (t0 := 6) (b := al Z 15 k) (qm (by decide) (by decide)) rfl rfl rfl hk (by decide) rfl d_H_scan_52 ?_
  refine gq_get C (g := 15) (j := k) (ci := 0) (k := 3) (v := .ref (al Z 16 k)) (qm (by decide) hk) rfl rfl in_B (by decide) w_193 rfl d_H_scan_53 ?_
  refine gq_iload_n C d_H_scan_56 rfl ?_
  refine gq_iald C (g := 16) (j := k) (a := n) (t0 := 0) (qm (by decide) hk) rfl rfl rfl hn (by decide) d_H_scan_57 ?_
  refine gq_iload_n C d_H_scan_58 rfl ?_
  refine gq_iadd C d_H_scan_59 ?_
  refine gq_istore C (lo' := [(4, .int ((V 16 k n) + 1)), (0, .ref (al Z 0 0)), (1, .int (nI k)), (2, .int (nI n)), (3, .int 1)]) d_H_scan_60 (by decide) rfl ?_
  refine gq_iload C d_H_scan_62 rfl ?_
  refine gq_if_lt C (tgt := 74) d_H_scan_64 rfl (fun hb64 => ?_) (fun hb64 => ?_)
  · skip
    exact gq_throw C hadm hex hlt tw_IllegalStateException w_340 w_341 w_14 (by decide) (by decide) (by decide) (by decide) (by decide) (Nat.le_of_ble_eq_true rfl) d_H_scan_74 d_H_scan_77 d_H_scan_78 d_H_scan_81
  · skip
    refine gq_iload C d_H_scan_67 rfl ?_
    refine gq_bipush C (v := 30) d_H_scan_69 (by decide) ?_
    refine gq_icmp_le C (tgt := 82) d_H_scan_71 rfl (fun hb => by exact h.elim (fun q => absurd q hb64) (fun q => absurd hb q)) (fun hb71 => ?_)
    exact gq_throw C hadm hex hlt tw_IllegalStateException w_340 w_341 w_14 (by decide) (by decide) (by decide) (by decide) (by decide) (Nat.le_of_ble_eq_true rfl) d_H_scan_74 d_H_scan_77 d_H_scan_78 d_H_scan_81

set_option maxHeartbeats 4000000 in
set_option maxRecDepth 100000 in
theorem c_H_scan_m (l : Launch) (Z : qZ) (hZ : qok (pX Z)) (V : qV) (Y : qY) (k : Nat) (hk : k < 40) (hib : f_isBasket V (nI k) = 1) (hop : ¬ V 15 k 2 = 0) (b : Nat) (hb : b < 9) (hbk : V 15 k 1 = nI (b + 1)) (n : Nat) (hn : n < 8) (h1 : f_isArticle (nI n) = 1) (h5 : f_sells V (b + 1) n = 1) (h6 : ¬ V 16 k n + (-1) < 0) (h7 : V 16 k n + (-1) ≤ 30) : CT l y_H_scan { frames := 7, cells := 0, slots := 0, locals := 117 } (pX Z) (qA (pX Z)) [.ref (al Z 0 0), .int (nI k), .int (nI n), .int ((-1))] V Y (.inl (some (.int ((V 16 k n) + ((-1)))))) (qv V 16 k n ((V 16 k n) + ((-1)))) Y := by
  refine CT.of (cc := b_H_scan) (maxL := 5) (ret := (some .int)) hZ (by decide) w_584 (Nat.le_of_ble_eq_true rfl) ?_
  intro p e s m below meth c C hr hex hlt
  refine gq_aload_n C d_H_scan_0 rfl ?_
  refine gq_iload_n C d_H_scan_1 rfl ?_
  refine gq_callV C (st := []) (fun _ h => h.elim) (c_H_checkOpenBasket l Z hZ _ _ k hk hib hop) (qm (by decide) (by decide)) rfl rfl w_585 w_587 ws_H_checkOpenBasket w_588 w_1 ⟨by decide, by decide, (by decide +kernel : (parseMethodDescriptor y_H_checkOpenBasket.desc).map (fun d => d.parameters.length) = some 1)⟩ ⟨by decide, by decide⟩ ⟨by decide, by decide⟩ rfl (Nat.le_of_ble_eq_true rfl) d_H_scan_2 ?_
  refine gq_iload_n C d_H_scan_5 rfl ?_
  refine gq_callS C (st := []) (fun _ h => h.elim) (c_H_isArticle l Z hZ _ _ (nI n)) w_248 w_249 w_250 w_1 ⟨by decide, by decide, (by decide +kernel : (parseMethodDescriptor y_H_isArticle.desc).map (fun d => d.parameters.length) = some 1)⟩ ⟨by decide, by decide⟩ ⟨by decide, by decide⟩ rfl (Nat.le_of_ble_eq_true rfl) d_H_scan_6 ?_
  refine gq_if_eq C (tgt := 39) d_H_scan_9 rfl (fun hb => by exact absurd (hb.symm.trans h1) (by decide)) (fun hb9 => ?_)
  refine gq_iload_n C d_H_scan_12 rfl ?_
  refine gq_iconst C (v := 1) d_H_scan_13 (by decide) ?_
  refine gq_icmp_eq C (tgt := 22) d_H_scan_14 rfl (fun hb => by exact absurd hb (by decide)) (fun hb14 => ?_)
  refine gq_iload_n C d_H_scan_17 rfl ?_
  refine gq_iconst C (v := (-1)) d_H_scan_18 (by decide) ?_
  refine gq_icmp_ne C (tgt := 39) d_H_scan_19 rfl (fun hb => by exact absurd hb (by decide)) (fun hb19 => ?_)
  refine gq_aload_n C d_H_scan_22 rfl ?_
  refine gq_aload_n C d_H_scan_23 rfl ?_
  refine gq_get C (g := 0) (j := 0) (ci := 7) (k := 6) (v := .ref (al Z 14 0)) (qm (by decide) (by decide)) rfl rfl in_H (by decide) w_209 rfl d_H_scan_24 ?_
  refine gq_iload_n C d_H_scan_27 rfl ?_
  refine gq_aald C (g := 14) (j := 0) (a := k) (t0 := 6) (b := al Z 15 k) (qm (by decide) (by decide)) rfl rfl rfl hk (by decide) rfl d_H_scan_28 ?_
  refine gq_get C (g := 15) (j := k) (ci := 0) (k := 1) (v := .int (V 15 k 1)) (qm (by decide) hk) rfl rfl in_B (by decide) w_189 rfl d_H_scan_29 ?_
  refine G.eqS (st' := [.int (nI (b + 1)), .ref (al Z 0 0)]) (by first | (rw [show V 15 k 1 = nI (b + 1) from hbk]; done) | (rw [show V 15 k 1 = nI (b + 1) from hbk]; rfl)) ?_
  refine gq_iload_n C d_H_scan_32 rfl ?_
  refine gq_callV C (st := []) (fun _ h => h.elim) (c_H_sells l Z hZ _ _ b hb n hn) (qm (by decide) (by decide)) rfl rfl w_608 w_610 ws_H_sells w_611 w_1 ⟨by decide, by decide, (by decide +kernel : (parseMethodDescriptor y_H_sells.desc).map (fun d => d.parameters.length) = some 2)⟩ ⟨by decide, by decide⟩ ⟨by decide, by decide⟩ rfl (Nat.le_of_ble_eq_true rfl) d_H_scan_33 ?_
  refine gq_if_ne C (tgt := 47) d_H_scan_36 rfl (fun hb36 => ?_) (fun hb => by exact absurd (hb.symm.trans h5) (by decide))
  refine gq_aload_n C d_H_scan_47 rfl ?_
  refine gq_get C (g := 0) (j := 0) (ci := 7) (k := 6) (v := .ref (al Z 14 0)) (qm (by decide) (by decide)) rfl rfl in_H (by decide) w_209 rfl d_H_scan_48 ?_
  refine gq_iload_n C d_H_scan_51 rfl ?_
  refine gq_aald C (g := 14) (j := 0) (a := k) (t0 := 6) (b := al Z 15 k) (qm (by decide) (by decide)) rfl rfl rfl hk (by decide) rfl d_H_scan_52 ?_
  refine gq_get C (g := 15) (j := k) (ci := 0) (k := 3) (v := .ref (al Z 16 k)) (qm (by decide) hk) rfl rfl in_B (by decide) w_193 rfl d_H_scan_53 ?_
  refine gq_iload_n C d_H_scan_56 rfl ?_
  refine gq_iald C (g := 16) (j := k) (a := n) (t0 := 0) (qm (by decide) hk) rfl rfl rfl hn (by decide) d_H_scan_57 ?_
  refine gq_iload_n C d_H_scan_58 rfl ?_
  refine gq_iadd C d_H_scan_59 ?_
  refine gq_istore C (lo' := [(4, .int ((V 16 k n) + ((-1)))), (0, .ref (al Z 0 0)), (1, .int (nI k)), (2, .int (nI n)), (3, .int ((-1)))]) d_H_scan_60 (by decide) rfl ?_
  refine gq_iload C d_H_scan_62 rfl ?_
  refine gq_if_lt C (tgt := 74) d_H_scan_64 rfl (fun hb => by exact absurd hb h6) (fun hb64 => ?_)
  refine gq_iload C d_H_scan_67 rfl ?_
  refine gq_bipush C (v := 30) d_H_scan_69 (by decide) ?_
  refine gq_icmp_le C (tgt := 82) d_H_scan_71 rfl (fun hb71 => ?_) (fun hb => by exact absurd h7 hb)
  refine gq_aload_n C d_H_scan_82 rfl ?_
  refine gq_get C (g := 0) (j := 0) (ci := 7) (k := 6) (v := .ref (al Z 14 0)) (qm (by decide) (by decide)) rfl rfl in_H (by decide) w_209 rfl d_H_scan_83 ?_
  refine gq_iload_n C d_H_scan_86 rfl ?_
  refine gq_aald C (g := 14) (j := 0) (a := k) (t0 := 6) (b := al Z 15 k) (qm (by decide) (by decide)) rfl rfl rfl hk (by decide) rfl d_H_scan_87 ?_
  refine gq_get C (g := 15) (j := k) (ci := 0) (k := 3) (v := .ref (al Z 16 k)) (qm (by decide) hk) rfl rfl in_B (by decide) w_193 rfl d_H_scan_88 ?_
  refine gq_iload_n C d_H_scan_91 rfl ?_
  refine gq_iload C d_H_scan_92 rfl ?_
  refine gq_iast C (fun _ h => h) (g := 16) (j := k) (a := n) (t0 := 0) (qm (by decide) hk) (fun _ => rfl) rfl rfl hn (by decide) d_H_scan_94 ?_
  refine gq_iload C d_H_scan_95 rfl ?_
  exact gq_iret C hr (by decide) (by decide) d_H_scan_97

set_option maxHeartbeats 4000000 in
set_option maxRecDepth 100000 in
theorem c_H_scan_m_x2 (l : Launch) (hadm : ∀ e : Env, l.admits e → e.platform.stackTraces = false) (Z : qZ) (hZ : qok (pX Z)) (V : qV) (Y : qY) (k : Nat) (hk : k < 40) (hib : f_isBasket V (nI k) = 1) (hop : ¬ V 15 k 2 = 0) (b : Nat) (hb : b < 9) (hbk : V 15 k 1 = nI (b + 1)) (n : Nat) (hn : n < 8) (h1 : f_isArticle (nI n) = 1) (h5 : f_sells V (b + 1) n = 0) : CT l y_H_scan { frames := 7, cells := 1, slots := 6, locals := 117 } (pX Z) qN [.ref (al Z 0 0), .int (nI k), .int (nI n), .int ((-1))] V Y (.inr "java/lang/IllegalArgumentException") V Y := by
  refine CT.of (cc := b_H_scan) (maxL := 5) (ret := (some .int)) hZ (by decide) w_584 (Nat.le_of_ble_eq_true rfl) ?_
  intro p e s m below meth c C hr hex hlt
  refine gq_aload_n C d_H_scan_0 rfl ?_
  refine gq_iload_n C d_H_scan_1 rfl ?_
  refine gq_callV C (st := []) (fun _ h => h) (c_H_checkOpenBasket l Z hZ _ _ k hk hib hop) (qm (by decide) (by decide)) rfl rfl w_585 w_587 ws_H_checkOpenBasket w_588 w_1 ⟨by decide, by decide, (by decide +kernel : (parseMethodDescriptor y_H_checkOpenBasket.desc).map (fun d => d.parameters.length) = some 1)⟩ ⟨by decide, by decide⟩ ⟨by decide, by decide⟩ rfl (Nat.le_of_ble_eq_true rfl) d_H_scan_2 ?_
  refine gq_iload_n C d_H_scan_5 rfl ?_
  refine gq_callS C (st := []) (fun _ h => h) (c_H_isArticle l Z hZ _ _ (nI n)) w_248 w_249 w_250 w_1 ⟨by decide, by decide, (by decide +kernel : (parseMethodDescriptor y_H_isArticle.desc).map (fun d => d.parameters.length) = some 1)⟩ ⟨by decide, by decide⟩ ⟨by decide, by decide⟩ rfl (Nat.le_of_ble_eq_true rfl) d_H_scan_6 ?_
  refine gq_if_eq C (tgt := 39) d_H_scan_9 rfl (fun hb => by exact absurd (hb.symm.trans h1) (by decide)) (fun hb9 => ?_)
  refine gq_iload_n C d_H_scan_12 rfl ?_
  refine gq_iconst C (v := 1) d_H_scan_13 (by decide) ?_
  refine gq_icmp_eq C (tgt := 22) d_H_scan_14 rfl (fun hb => by exact absurd hb (by decide)) (fun hb14 => ?_)
  refine gq_iload_n C d_H_scan_17 rfl ?_
  refine gq_iconst C (v := (-1)) d_H_scan_18 (by decide) ?_
  refine gq_icmp_ne C (tgt := 39) d_H_scan_19 rfl (fun hb => by exact absurd hb (by decide)) (fun hb19 => ?_)
  refine gq_aload_n C d_H_scan_22 rfl ?_
  refine gq_aload_n C d_H_scan_23 rfl ?_
  refine gq_get C (g := 0) (j := 0) (ci := 7) (k := 6) (v := .ref (al Z 14 0)) (qm (by decide) (by decide)) rfl rfl in_H (by decide) w_209 rfl d_H_scan_24 ?_
  refine gq_iload_n C d_H_scan_27 rfl ?_
  refine gq_aald C (g := 14) (j := 0) (a := k) (t0 := 6) (b := al Z 15 k) (qm (by decide) (by decide)) rfl rfl rfl hk (by decide) rfl d_H_scan_28 ?_
  refine gq_get C (g := 15) (j := k) (ci := 0) (k := 1) (v := .int (V 15 k 1)) (qm (by decide) hk) rfl rfl in_B (by decide) w_189 rfl d_H_scan_29 ?_
  refine G.eqS (st' := [.int (nI (b + 1)), .ref (al Z 0 0)]) (by first | (rw [show V 15 k 1 = nI (b + 1) from hbk]; done) | (rw [show V 15 k 1 = nI (b + 1) from hbk]; rfl)) ?_
  refine gq_iload_n C d_H_scan_32 rfl ?_
  refine gq_callV C (st := []) (fun _ h => h) (c_H_sells l Z hZ _ _ b hb n hn) (qm (by decide) (by decide)) rfl rfl w_608 w_610 ws_H_sells w_611 w_1 ⟨by decide, by decide, (by decide +kernel : (parseMethodDescriptor y_H_sells.desc).map (fun d => d.parameters.length) = some 2)⟩ ⟨by decide, by decide⟩ ⟨by decide, by decide⟩ rfl (Nat.le_of_ble_eq_true rfl) d_H_scan_33 ?_
  refine gq_if_ne C (tgt := 47) d_H_scan_36 rfl (fun hb => by exact absurd h5 hb) (fun hb36 => ?_)
  exact gq_throw C hadm hex hlt tw_IllegalArgumentException w_255 w_256 w_13 (by decide) (by decide) (by decide) (by decide) (by decide) (Nat.le_of_ble_eq_true rfl) d_H_scan_39 d_H_scan_42 d_H_scan_43 d_H_scan_46

set_option maxHeartbeats 4000000 in
set_option maxRecDepth 100000 in
theorem c_H_scan_m_x3 (l : Launch) (hadm : ∀ e : Env, l.admits e → e.platform.stackTraces = false) (Z : qZ) (hZ : qok (pX Z)) (V : qV) (Y : qY) (k : Nat) (hk : k < 40) (hib : f_isBasket V (nI k) = 1) (hop : ¬ V 15 k 2 = 0) (b : Nat) (hb : b < 9) (hbk : V 15 k 1 = nI (b + 1)) (n : Nat) (hn : n < 8) (h1 : f_isArticle (nI n) = 1) (h5 : f_sells V (b + 1) n = 1) (h : V 16 k n + (-1) < 0 ∨ ¬ V 16 k n + (-1) ≤ 30) : CT l y_H_scan { frames := 7, cells := 1, slots := 6, locals := 117 } (pX Z) qN [.ref (al Z 0 0), .int (nI k), .int (nI n), .int ((-1))] V Y (.inr "java/lang/IllegalStateException") V Y := by
  refine CT.of (cc := b_H_scan) (maxL := 5) (ret := (some .int)) hZ (by decide) w_584 (Nat.le_of_ble_eq_true rfl) ?_
  intro p e s m below meth c C hr hex hlt
  refine gq_aload_n C d_H_scan_0 rfl ?_
  refine gq_iload_n C d_H_scan_1 rfl ?_
  refine gq_callV C (st := []) (fun _ h => h) (c_H_checkOpenBasket l Z hZ _ _ k hk hib hop) (qm (by decide) (by decide)) rfl rfl w_585 w_587 ws_H_checkOpenBasket w_588 w_1 ⟨by decide, by decide, (by decide +kernel : (parseMethodDescriptor y_H_checkOpenBasket.desc).map (fun d => d.parameters.length) = some 1)⟩ ⟨by decide, by decide⟩ ⟨by decide, by decide⟩ rfl (Nat.le_of_ble_eq_true rfl) d_H_scan_2 ?_
  refine gq_iload_n C d_H_scan_5 rfl ?_
  refine gq_callS C (st := []) (fun _ h => h) (c_H_isArticle l Z hZ _ _ (nI n)) w_248 w_249 w_250 w_1 ⟨by decide, by decide, (by decide +kernel : (parseMethodDescriptor y_H_isArticle.desc).map (fun d => d.parameters.length) = some 1)⟩ ⟨by decide, by decide⟩ ⟨by decide, by decide⟩ rfl (Nat.le_of_ble_eq_true rfl) d_H_scan_6 ?_
  refine gq_if_eq C (tgt := 39) d_H_scan_9 rfl (fun hb => by exact absurd (hb.symm.trans h1) (by decide)) (fun hb9 => ?_)
  refine gq_iload_n C d_H_scan_12 rfl ?_
  refine gq_iconst C (v := 1) d_H_scan_13 (by decide) ?_
  refine gq_icmp_eq C (tgt := 22) d_H_scan_14 rfl (fun hb => by exact absurd hb (by decide)) (fun hb14 => ?_)
  refine gq_iload_n C d_H_scan_17 rfl ?_
  refine gq_iconst C (v := (-1)) d_H_scan_18 (by decide) ?_
  refine gq_icmp_ne C (tgt := 39) d_H_scan_19 rfl (fun hb => by exact absurd hb (by decide)) (fun hb19 => ?_)
  refine gq_aload_n C d_H_scan_22 rfl ?_
  refine gq_aload_n C d_H_scan_23 rfl ?_
  refine gq_get C (g := 0) (j := 0) (ci := 7) (k := 6) (v := .ref (al Z 14 0)) (qm (by decide) (by decide)) rfl rfl in_H (by decide) w_209 rfl d_H_scan_24 ?_
  refine gq_iload_n C d_H_scan_27 rfl ?_
  refine gq_aald C (g := 14) (j := 0) (a := k) (t0 := 6) (b := al Z 15 k) (qm (by decide) (by decide)) rfl rfl rfl hk (by decide) rfl d_H_scan_28 ?_
  refine gq_get C (g := 15) (j := k) (ci := 0) (k := 1) (v := .int (V 15 k 1)) (qm (by decide) hk) rfl rfl in_B (by decide) w_189 rfl d_H_scan_29 ?_
  refine G.eqS (st' := [.int (nI (b + 1)), .ref (al Z 0 0)]) (by first | (rw [show V 15 k 1 = nI (b + 1) from hbk]; done) | (rw [show V 15 k 1 = nI (b + 1) from hbk]; rfl)) ?_
  refine gq_iload_n C d_H_scan_32 rfl ?_
  refine gq_callV C (st := []) (fun _ h => h) (c_H_sells l Z hZ _ _ b hb n hn) (qm (by decide) (by decide)) rfl rfl w_608 w_610 ws_H_sells w_611 w_1 ⟨by decide, by decide, (by decide +kernel : (parseMethodDescriptor y_H_sells.desc).map (fun d => d.parameters.length) = some 2)⟩ ⟨by decide, by decide⟩ ⟨by decide, by decide⟩ rfl (Nat.le_of_ble_eq_true rfl) d_H_scan_33 ?_
  refine gq_if_ne C (tgt := 47) d_H_scan_36 rfl (fun hb36 => ?_) (fun hb => by exact absurd (hb.symm.trans h5) (by decide))
  refine gq_aload_n C d_H_scan_47 rfl ?_
  refine gq_get C (g := 0) (j := 0) (ci := 7) (k := 6) (v := .ref (al Z 14 0)) (qm (by decide) (by decide)) rfl rfl in_H (by decide) w_209 rfl d_H_scan_48 ?_
  refine gq_iload_n C d_H_scan_51 rfl ?_
  refine gq_aald C (g := 14) (j := 0) (a := k) (t0 := 6) (b := al Z 15 k) (qm (by decide) (by decide)) rfl rfl rfl hk (by decide) rfl d_H_scan_52 ?_
  refine gq_get C (g := 15) (j := k) (ci := 0) (k := 3) (v := .ref (al Z 16 k)) (qm (by decide) hk) rfl rfl in_B (by decide) w_193 rfl d_H_scan_53 ?_
  refine gq_iload_n C d_H_scan_56 rfl ?_
  refine gq_iald C (g := 16) (j := k) (a := n) (t0 := 0) (qm (by decide) hk) rfl rfl rfl hn (by decide) d_H_scan_57 ?_
  refine gq_iload_n C d_H_scan_58 rfl ?_
  refine gq_iadd C d_H_scan_59 ?_
  refine gq_istore C (lo' := [(4, .int ((V 16 k n) + ((-1)))), (0, .ref (al Z 0 0)), (1, .int (nI k)), (2, .int (nI n)), (3, .int ((-1)))]) d_H_scan_60 (by decide) rfl ?_
  refine gq_iload C d_H_scan_62 rfl ?_
  refine gq_if_lt C (tgt := 74) d_H_scan_64 rfl (fun hb64 => ?_) (fun hb64 => ?_)
  · skip
    exact gq_throw C hadm hex hlt tw_IllegalStateException w_340 w_341 w_14 (by decide) (by decide) (by decide) (by decide) (by decide) (Nat.le_of_ble_eq_true rfl) d_H_scan_74 d_H_scan_77 d_H_scan_78 d_H_scan_81
  · skip
    refine gq_iload C d_H_scan_67 rfl ?_
    refine gq_bipush C (v := 30) d_H_scan_69 (by decide) ?_
    refine gq_icmp_le C (tgt := 82) d_H_scan_71 rfl (fun hb => by exact h.elim (fun q => absurd q hb64) (fun q => absurd hb q)) (fun hb71 => ?_)
    exact gq_throw C hadm hex hlt tw_IllegalStateException w_340 w_341 w_14 (by decide) (by decide) (by decide) (by decide) (by decide) (Nat.le_of_ble_eq_true rfl) d_H_scan_74 d_H_scan_77 d_H_scan_78 d_H_scan_81

set_option maxHeartbeats 4000000 in
set_option maxRecDepth 100000 in
theorem c_H_scan_x2a (l : Launch) (hadm : ∀ e : Env, l.admits e → e.platform.stackTraces = false) (Z : qZ) (hZ : qok (pX Z)) (V : qV) (Y : qY) (k : Nat) (hk : k < 40) (hib : f_isBasket V (nI k) = 1) (hop : ¬ V 15 k 2 = 0) (a g : Int32) (h : f_isArticle a = 0 ∨ (¬ g = 1 ∧ ¬ g = -1)) : CT l y_H_scan { frames := 7, cells := 1, slots := 6, locals := 117 } (pX Z) qN [.ref (al Z 0 0), .int (nI k), .int a, .int g] V Y (.inr "java/lang/IllegalArgumentException") V Y := by
  refine CT.of (cc := b_H_scan) (maxL := 5) (ret := (some .int)) hZ (by decide) w_584 (Nat.le_of_ble_eq_true rfl) ?_
  intro p e s m below meth c C hr hex hlt
  refine gq_aload_n C d_H_scan_0 rfl ?_
  refine gq_iload_n C d_H_scan_1 rfl ?_
  refine gq_callV C (st := []) (fun _ h => h) (c_H_checkOpenBasket l Z hZ _ _ k hk hib hop) (qm (by decide) (by decide)) rfl rfl w_585 w_587 ws_H_checkOpenBasket w_588 w_1 ⟨by decide, by decide, (by decide +kernel : (parseMethodDescriptor y_H_checkOpenBasket.desc).map (fun d => d.parameters.length) = some 1)⟩ ⟨by decide, by decide⟩ ⟨by decide, by decide⟩ rfl (Nat.le_of_ble_eq_true rfl) d_H_scan_2 ?_
  refine gq_iload_n C d_H_scan_5 rfl ?_
  refine gq_callS C (st := []) (fun _ h => h) (c_H_isArticle l Z hZ _ _ a) w_248 w_249 w_250 w_1 ⟨by decide, by decide, (by decide +kernel : (parseMethodDescriptor y_H_isArticle.desc).map (fun d => d.parameters.length) = some 1)⟩ ⟨by decide, by decide⟩ ⟨by decide, by decide⟩ rfl (Nat.le_of_ble_eq_true rfl) d_H_scan_6 ?_
  refine gq_if_eq C (tgt := 39) d_H_scan_9 rfl (fun hb9 => ?_) (fun hb9 => ?_)
  · skip
    exact gq_throw C hadm hex hlt tw_IllegalArgumentException w_255 w_256 w_13 (by decide) (by decide) (by decide) (by decide) (by decide) (Nat.le_of_ble_eq_true rfl) d_H_scan_39 d_H_scan_42 d_H_scan_43 d_H_scan_46
  · skip
    refine gq_iload_n C d_H_scan_12 rfl ?_
    refine gq_iconst C (v := 1) d_H_scan_13 (by decide) ?_
    refine gq_icmp_eq C (tgt := 22) d_H_scan_14 rfl (fun hb => by first | contradiction | (rcases h with h | h; contradiction; exact absurd hb h.1)) (fun hb14 => ?_)
    refine gq_iload_n C d_H_scan_17 rfl ?_
    refine gq_iconst C (v := (-1)) d_H_scan_18 (by decide) ?_
    refine gq_icmp_ne C (tgt := 39) d_H_scan_19 rfl (fun hb19 => ?_) (fun hb => by first | contradiction | (rcases h with h | h; contradiction; exact absurd hb h.2))
    exact gq_throw C hadm hex hlt tw_IllegalArgumentException w_255 w_256 w_13 (by decide) (by decide) (by decide) (by decide) (by decide) (Nat.le_of_ble_eq_true rfl) d_H_scan_39 d_H_scan_42 d_H_scan_43 d_H_scan_46

set_option maxHeartbeats 4000000 in
set_option maxRecDepth 100000 in
theorem c_H_scan_x1a (l : Launch) (hadm : ∀ e : Env, l.admits e → e.platform.stackTraces = false) (Z : qZ) (hZ : qok (pX Z)) (V : qV) (Y : qY) (k : Int32) (h : f_isBasket V k = 0) (a g : Int32) : CT l y_H_scan { frames := 7, cells := 1, slots := 6, locals := 117 } (pX Z) qN [.ref (al Z 0 0), .int k, .int a, .int g] V Y (.inr "java/util/NoSuchElementException") V Y := by
  refine CT.of (cc := b_H_scan) (maxL := 5) (ret := (some .int)) hZ (by decide) w_584 (Nat.le_of_ble_eq_true rfl) ?_
  intro p e s m below meth c C hr hex hlt
  refine gq_aload_n C d_H_scan_0 rfl ?_
  refine gq_iload_n C d_H_scan_1 rfl ?_
  exact gq_thrV C (st := []) hex (fun _ h => h) (c_H_checkOpenBasket_x1 l hadm Z hZ _ _ k h) (qm (by decide) (by decide)) rfl rfl w_585 w_587 ws_H_checkOpenBasket w_588 w_1 ⟨by decide, by decide, (by decide +kernel : (parseMethodDescriptor y_H_checkOpenBasket.desc).map (fun d => d.parameters.length) = some 1)⟩ ⟨by decide, by decide⟩ ⟨by decide, by decide⟩ ⟨by decide, by decide⟩ rfl (Nat.le_of_ble_eq_true rfl) d_H_scan_2

set_option maxHeartbeats 4000000 in
set_option maxRecDepth 100000 in
theorem c_H_scan_x1b (l : Launch) (hadm : ∀ e : Env, l.admits e → e.platform.stackTraces = false) (Z : qZ) (hZ : qok (pX Z)) (V : qV) (Y : qY) (k : Nat) (hk : k < 40) (h1 : f_isBasket V (nI k) = 1) (h2 : V 15 k 2 = 0) (a g : Int32) : CT l y_H_scan { frames := 7, cells := 1, slots := 6, locals := 117 } (pX Z) qN [.ref (al Z 0 0), .int (nI k), .int a, .int g] V Y (.inr "java/util/NoSuchElementException") V Y := by
  refine CT.of (cc := b_H_scan) (maxL := 5) (ret := (some .int)) hZ (by decide) w_584 (Nat.le_of_ble_eq_true rfl) ?_
  intro p e s m below meth c C hr hex hlt
  refine gq_aload_n C d_H_scan_0 rfl ?_
  refine gq_iload_n C d_H_scan_1 rfl ?_
  exact gq_thrV C (st := []) hex (fun _ h => h) (c_H_checkOpenBasket_x2 l hadm Z hZ _ _ k hk h1 h2) (qm (by decide) (by decide)) rfl rfl w_585 w_587 ws_H_checkOpenBasket w_588 w_1 ⟨by decide, by decide, (by decide +kernel : (parseMethodDescriptor y_H_checkOpenBasket.desc).map (fun d => d.parameters.length) = some 1)⟩ ⟨by decide, by decide⟩ ⟨by decide, by decide⟩ ⟨by decide, by decide⟩ rfl (Nat.le_of_ble_eq_true rfl) d_H_scan_2

theorem d_H_pay_0 : decode b_H_pay 0 = .ok (.aload_n 0, 1) := by decide +kernel
theorem d_H_pay_1 : decode b_H_pay 1 = .ok (.iload_n 1, 1) := by decide +kernel
theorem d_H_pay_2 : decode b_H_pay 2 = .ok (.invokevirtual 196, 3) := by decide +kernel
theorem d_H_pay_5 : decode b_H_pay 5 = .ok (.aload_n 0, 1) := by decide +kernel
theorem d_H_pay_6 : decode b_H_pay 6 = .ok (.getfield 43, 3) := by decide +kernel
theorem d_H_pay_9 : decode b_H_pay 9 = .ok (.iload_n 1, 1) := by decide +kernel
theorem d_H_pay_10 : decode b_H_pay 10 = .ok (.aaload, 1) := by decide +kernel
theorem d_H_pay_11 : decode b_H_pay 11 = .ok (.astore_n 2, 1) := by decide +kernel
theorem d_H_pay_12 : decode b_H_pay 12 = .ok (.aload_n 2, 1) := by decide +kernel
theorem d_H_pay_13 : decode b_H_pay 13 = .ok (.iconst 0, 1) := by decide +kernel
theorem d_H_pay_14 : decode b_H_pay 14 = .ok (.putfield 209, 3) := by decide +kernel
theorem d_H_pay_17 : decode b_H_pay 17 = .ok (.aload_n 0, 1) := by decide +kernel
theorem d_H_pay_18 : decode b_H_pay 18 = .ok (.getfield 22, 3) := by decide +kernel
theorem d_H_pay_21 : decode b_H_pay 21 = .ok (.aload_n 2, 1) := by decide +kernel
theorem d_H_pay_22 : decode b_H_pay 22 = .ok (.getfield 212, 3) := by decide +kernel
theorem d_H_pay_25 : decode b_H_pay 25 = .ok (.aaload, 1) := by decide +kernel
theorem d_H_pay_26 : decode b_H_pay 26 = .ok (.dup, 1) := by decide +kernel
theorem d_H_pay_27 : decode b_H_pay 27 = .ok (.getfield 187, 3) := by decide +kernel
theorem d_H_pay_30 : decode b_H_pay 30 = .ok (.iconst 1, 1) := by decide +kernel
theorem d_H_pay_31 : decode b_H_pay 31 = .ok (.isub, 1) := by decide +kernel
theorem d_H_pay_32 : decode b_H_pay 32 = .ok (.putfield 187, 3) := by decide +kernel
theorem d_H_pay_35 : decode b_H_pay 35 = .ok (.aload_n 0, 1) := by decide +kernel
theorem d_H_pay_36 : decode b_H_pay 36 = .ok (.getfield 16, 3) := by decide +kernel
theorem d_H_pay_39 : decode b_H_pay 39 = .ok (.aload_n 2, 1) := by decide +kernel
theorem d_H_pay_40 : decode b_H_pay 40 = .ok (.getfield 199, 3) := by decide +kernel
theorem d_H_pay_43 : decode b_H_pay 43 = .ok (.iconst 1, 1) := by decide +kernel
theorem d_H_pay_44 : decode b_H_pay 44 = .ok (.isub, 1) := by decide +kernel
theorem d_H_pay_45 : decode b_H_pay 45 = .ok (.aaload, 1) := by decide +kernel
theorem d_H_pay_46 : decode b_H_pay 46 = .ok (.astore_n 3, 1) := by decide +kernel
theorem d_H_pay_47 : decode b_H_pay 47 = .ok (.lconst 0, 1) := by decide +kernel
theorem d_H_pay_48 : decode b_H_pay 48 = .ok (.lstore 4, 2) := by decide +kernel
theorem d_H_pay_50 : decode b_H_pay 50 = .ok (.iconst 0, 1) := by decide +kernel
theorem d_H_pay_51 : decode b_H_pay 51 = .ok (.istore 6, 2) := by decide +kernel
theorem d_H_pay_53 : decode b_H_pay 53 = .ok (.iload 6, 2) := by decide +kernel
theorem d_H_pay_55 : decode b_H_pay 55 = .ok (.bipush 8, 2) := by decide +kernel
theorem d_H_pay_57 : decode b_H_pay 57 = .ok (.if_icmp .ge 31, 3) := by decide +kernel
theorem d_H_pay_60 : decode b_H_pay 60 = .ok (.lload 4, 2) := by decide +kernel
theorem d_H_pay_62 : decode b_H_pay 62 = .ok (.aload_n 3, 1) := by decide +kernel
theorem d_H_pay_63 : decode b_H_pay 63 = .ok (.iload 6, 2) := by decide +kernel
theorem d_H_pay_65 : decode b_H_pay 65 = .ok (.aload_n 2, 1) := by decide +kernel
theorem d_H_pay_66 : decode b_H_pay 66 = .ok (.getfield 206, 3) := by decide +kernel
theorem d_H_pay_69 : decode b_H_pay 69 = .ok (.iload 6, 2) := by decide +kernel
theorem d_H_pay_71 : decode b_H_pay 71 = .ok (.iaload, 1) := by decide +kernel
theorem d_H_pay_72 : decode b_H_pay 72 = .ok (.aload_n 0, 1) := by decide +kernel
theorem d_H_pay_73 : decode b_H_pay 73 = .ok (.getfield 48, 3) := by decide +kernel
theorem d_H_pay_76 : decode b_H_pay 76 = .ok (.invokevirtual 215, 3) := by decide +kernel
theorem d_H_pay_79 : decode b_H_pay 79 = .ok (.ladd, 1) := by decide +kernel
theorem d_H_pay_80 : decode b_H_pay 80 = .ok (.lstore 4, 2) := by decide +kernel
theorem d_H_pay_82 : decode b_H_pay 82 = .ok (.iinc 6 1, 3) := by decide +kernel
theorem d_H_pay_85 : decode b_H_pay 85 = .ok (.goto (-32), 3) := by decide +kernel
theorem d_H_pay_88 : decode b_H_pay 88 = .ok (.lload 4, 2) := by decide +kernel
theorem d_H_pay_90 : decode b_H_pay 90 = .ok (.lreturn, 1) := by decide +kernel

set_option maxHeartbeats 4000000 in
set_option maxRecDepth 100000 in
theorem c_H_pay_x1a (l : Launch) (hadm : ∀ e : Env, l.admits e → e.platform.stackTraces = false) (Z : qZ) (hZ : qok (pX Z)) (V : qV) (Y : qY) (k : Int32) (h : f_isBasket V k = 0) : CT l y_H_pay { frames := 7, cells := 1, slots := 6, locals := 117 } (pX Z) qN [.ref (al Z 0 0), .int k] V Y (.inr "java/util/NoSuchElementException") V Y := by
  refine CT.of (cc := b_H_pay) (maxL := 7) (ret := (some .long)) hZ (by decide) w_618 (Nat.le_of_ble_eq_true rfl) ?_
  intro p e s m below meth c C hr hex hlt
  refine gq_aload_n C d_H_pay_0 rfl ?_
  refine gq_iload_n C d_H_pay_1 rfl ?_
  exact gq_thrV C (st := []) hex (fun _ h => h) (c_H_checkOpenBasket_x1 l hadm Z hZ _ _ k h) (qm (by decide) (by decide)) rfl rfl w_585 w_587 ws_H_checkOpenBasket w_588 w_1 ⟨by decide, by decide, (by decide +kernel : (parseMethodDescriptor y_H_checkOpenBasket.desc).map (fun d => d.parameters.length) = some 1)⟩ ⟨by decide, by decide⟩ ⟨by decide, by decide⟩ ⟨by decide, by decide⟩ rfl (Nat.le_of_ble_eq_true rfl) d_H_pay_2

set_option maxHeartbeats 4000000 in
set_option maxRecDepth 100000 in
theorem c_H_pay_x1b (l : Launch) (hadm : ∀ e : Env, l.admits e → e.platform.stackTraces = false) (Z : qZ) (hZ : qok (pX Z)) (V : qV) (Y : qY) (k : Nat) (hk : k < 40) (h1 : f_isBasket V (nI k) = 1) (h2 : V 15 k 2 = 0) : CT l y_H_pay { frames := 7, cells := 1, slots := 6, locals := 117 } (pX Z) qN [.ref (al Z 0 0), .int (nI k)] V Y (.inr "java/util/NoSuchElementException") V Y := by
  refine CT.of (cc := b_H_pay) (maxL := 7) (ret := (some .long)) hZ (by decide) w_618 (Nat.le_of_ble_eq_true rfl) ?_
  intro p e s m below meth c C hr hex hlt
  refine gq_aload_n C d_H_pay_0 rfl ?_
  refine gq_iload_n C d_H_pay_1 rfl ?_
  exact gq_thrV C (st := []) hex (fun _ h => h) (c_H_checkOpenBasket_x2 l hadm Z hZ _ _ k hk h1 h2) (qm (by decide) (by decide)) rfl rfl w_585 w_587 ws_H_checkOpenBasket w_588 w_1 ⟨by decide, by decide, (by decide +kernel : (parseMethodDescriptor y_H_checkOpenBasket.desc).map (fun d => d.parameters.length) = some 1)⟩ ⟨by decide, by decide⟩ ⟨by decide, by decide⟩ ⟨by decide, by decide⟩ rfl (Nat.le_of_ble_eq_true rfl) d_H_pay_2

set_option maxHeartbeats 4000000 in
set_option maxRecDepth 100000 in
theorem c_H_book (l : Launch) (Z : qZ) (hZ : qok (pX Z)) (V : qV) (Y : qY) (k : Nat) (hk : k < 40) (h1 : f_isBasket V (nI k) = 1) : CT l y_H_book { frames := 6, cells := 0, slots := 0, locals := 96 } (pX Z) qN [.ref (al Z 0 0), .int (nI k)] V Y (.inl (some (.int (V 15 k 1)))) V Y := by
  refine CT.of (cc := b_H_book) (maxL := 2) (ret := (some .int)) hZ (by decide) w_632 (Nat.le_of_ble_eq_true rfl) ?_
  intro p e s m below meth c C hr hex hlt
  refine gq_aload_n C d_H_book_0 rfl ?_
  refine gq_iload_n C d_H_book_1 rfl ?_
  refine gq_callV C (st := []) (fun _ h => h) (c_H_isBasket l Z hZ _ _ (nI k)) (qm (by decide) (by decide)) rfl rfl w_589 w_591 ws_H_isBasket w_592 w_1 ⟨by decide, by decide, (by decide +kernel : (parseMethodDescriptor y_H_isBasket.desc).map (fun d => d.parameters.length) = some 1)⟩ ⟨by decide, by decide⟩ ⟨by decide, by decide⟩ rfl (Nat.le_of_ble_eq_true rfl) d_H_book_2 ?_
  refine gq_if_ne C (tgt := 16) d_H_book_5 rfl (fun hb5 => ?_) (fun hb => by first | contradiction | simp_all)
  refine gq_aload_n C d_H_book_16 rfl ?_
  refine gq_get C (g := 0) (j := 0) (ci := 7) (k := 6) (v := .ref (al Z 14 0)) (qm (by decide) (by decide)) rfl rfl in_H (by decide) w_209 rfl d_H_book_17 ?_
  refine gq_iload_n C d_H_book_20 rfl ?_
  refine gq_aald C (g := 14) (j := 0) (a := k) (t0 := 6) (b := al Z 15 k) (qm (by decide) (by decide)) rfl rfl rfl hk (by decide) rfl d_H_book_21 ?_
  refine gq_get C (g := 15) (j := k) (ci := 0) (k := 1) (v := .int (V 15 k 1)) (qm (by decide) hk) rfl rfl in_B (by decide) w_189 rfl d_H_book_22 ?_
  exact gq_iret C hr (by decide) (by decide) d_H_book_25

set_option maxHeartbeats 4000000 in
set_option maxRecDepth 100000 in
theorem c_H_book_x (l : Launch) (hadm : ∀ e : Env, l.admits e → e.platform.stackTraces = false) (Z : qZ) (hZ : qok (pX Z)) (V : qV) (Y : qY) (k : Int32) (h : f_isBasket V k = 0) : CT l y_H_book { frames := 6, cells := 1, slots := 6, locals := 96 } (pX Z) qN [.ref (al Z 0 0), .int k] V Y (.inr "java/util/NoSuchElementException") V Y := by
  refine CT.of (cc := b_H_book) (maxL := 2) (ret := (some .int)) hZ (by decide) w_632 (Nat.le_of_ble_eq_true rfl) ?_
  intro p e s m below meth c C hr hex hlt
  refine gq_aload_n C d_H_book_0 rfl ?_
  refine gq_iload_n C d_H_book_1 rfl ?_
  refine gq_callV C (st := []) (fun _ h => h) (c_H_isBasket l Z hZ _ _ k) (qm (by decide) (by decide)) rfl rfl w_589 w_591 ws_H_isBasket w_592 w_1 ⟨by decide, by decide, (by decide +kernel : (parseMethodDescriptor y_H_isBasket.desc).map (fun d => d.parameters.length) = some 1)⟩ ⟨by decide, by decide⟩ ⟨by decide, by decide⟩ rfl (Nat.le_of_ble_eq_true rfl) d_H_book_2 ?_
  refine gq_if_ne C (tgt := 16) d_H_book_5 rfl (fun hb => by first | contradiction | contradiction) (fun hb5 => ?_)
  exact gq_throw C hadm hex hlt tw_NoSuchElementException w_593 w_594 w_18 (by decide) (by decide) (by decide) (by decide) (by decide) (Nat.le_of_ble_eq_true rfl) d_H_book_8 d_H_book_11 d_H_book_12 d_H_book_15
