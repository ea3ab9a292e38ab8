theorem zd_605 : (decode cX12_put 367 = .ok (.iconst 0, 1)) ∧ (decode cX12_put 368 = .ok (.iconst 0, 1)) ∧ (decode cX12_put 369 = .ok (.iconst 0, 1)) ∧ (decode cX12_put 370 = .ok (.iconst 0, 1)) ∧ (decode cX12_put 371 = .ok (.invokevirtual 222, 3)) ∧ (decode cX12_put 374 = .ok (.aload_n 0, 1)) ∧ (decode cX12_put 375 = .ok (.getfield 74, 3)) ∧ (decode cX12_put 378 = .ok (.iload_n 1, 1)) := by decide +kernel
theorem dX12_put_367 : decode cX12_put 367 = .ok (.iconst 0, 1) := zd_605.1
theorem dX12_put_368 : decode cX12_put 368 = .ok (.iconst 0, 1) := zd_605.2.1
theorem dX12_put_369 : decode cX12_put 369 = .ok (.iconst 0, 1) := zd_605.2.2.1
theorem dX12_put_370 : decode cX12_put 370 = .ok (.iconst 0, 1) := zd_605.2.2.2.1
theorem dX12_put_371 : decode cX12_put 371 = .ok (.invokevirtual 222, 3) := zd_605.2.2.2.2.1
theorem dX12_put_374 : decode cX12_put 374 = .ok (.aload_n 0, 1) := zd_605.2.2.2.2.2.1
theorem dX12_put_375 : decode cX12_put 375 = .ok (.getfield 74, 3) := zd_605.2.2.2.2.2.2.1
theorem dX12_put_378 : decode cX12_put 378 = .ok (.iload_n 1, 1) := zd_605.2.2.2.2.2.2.2
theorem zd_606 : (decode cX12_put 379 = .ok (.iaload, 1)) ∧ (decode cX12_put 380 = .ok (.ireturn, 1)) := by decide +kernel
theorem dX12_put_379 : decode cX12_put 379 = .ok (.iaload, 1) := zd_606.1
theorem dX12_put_380 : decode cX12_put 380 = .ok (.ireturn, 1) := zd_606.2
theorem zd_607 : (decode cX12_acts 0 = .ok (.aload_n 0, 1)) ∧ (decode cX12_acts 1 = .ok (.getfield 92, 3)) ∧ (decode cX12_acts 4 = .ok (.aload_n 0, 1)) ∧ (decode cX12_acts 5 = .ok (.getfield 158, 3)) ∧ (decode cX12_acts 8 = .ok (.iload_n 1, 1)) ∧ (decode cX12_acts 9 = .ok (.iastore, 1)) ∧ (decode cX12_acts 10 = .ok (.aload_n 0, 1)) ∧ (decode cX12_acts 11 = .ok (.getfield 95, 3)) := by decide +kernel
theorem dX12_acts_0 : decode cX12_acts 0 = .ok (.aload_n 0, 1) := zd_607.1
theorem dX12_acts_1 : decode cX12_acts 1 = .ok (.getfield 92, 3) := zd_607.2.1
theorem dX12_acts_4 : decode cX12_acts 4 = .ok (.aload_n 0, 1) := zd_607.2.2.1
theorem dX12_acts_5 : decode cX12_acts 5 = .ok (.getfield 158, 3) := zd_607.2.2.2.1
theorem dX12_acts_8 : decode cX12_acts 8 = .ok (.iload_n 1, 1) := zd_607.2.2.2.2.1
theorem dX12_acts_9 : decode cX12_acts 9 = .ok (.iastore, 1) := zd_607.2.2.2.2.2.1
theorem dX12_acts_10 : decode cX12_acts 10 = .ok (.aload_n 0, 1) := zd_607.2.2.2.2.2.2.1
theorem dX12_acts_11 : decode cX12_acts 11 = .ok (.getfield 95, 3) := zd_607.2.2.2.2.2.2.2
theorem zd_608 : (decode cX12_acts 14 = .ok (.aload_n 0, 1)) ∧ (decode cX12_acts 15 = .ok (.getfield 158, 3)) ∧ (decode cX12_acts 18 = .ok (.iload_n 2, 1)) ∧ (decode cX12_acts 19 = .ok (.iastore, 1)) ∧ (decode cX12_acts 20 = .ok (.aload_n 0, 1)) ∧ (decode cX12_acts 21 = .ok (.getfield 98, 3)) ∧ (decode cX12_acts 24 = .ok (.aload_n 0, 1)) ∧ (decode cX12_acts 25 = .ok (.getfield 158, 3)) := by decide +kernel
theorem dX12_acts_14 : decode cX12_acts 14 = .ok (.aload_n 0, 1) := zd_608.1
theorem dX12_acts_15 : decode cX12_acts 15 = .ok (.getfield 158, 3) := zd_608.2.1
theorem dX12_acts_18 : decode cX12_acts 18 = .ok (.iload_n 2, 1) := zd_608.2.2.1
theorem dX12_acts_19 : decode cX12_acts 19 = .ok (.iastore, 1) := zd_608.2.2.2.1
theorem dX12_acts_20 : decode cX12_acts 20 = .ok (.aload_n 0, 1) := zd_608.2.2.2.2.1
theorem dX12_acts_21 : decode cX12_acts 21 = .ok (.getfield 98, 3) := zd_608.2.2.2.2.2.1
theorem dX12_acts_24 : decode cX12_acts 24 = .ok (.aload_n 0, 1) := zd_608.2.2.2.2.2.2.1
theorem dX12_acts_25 : decode cX12_acts 25 = .ok (.getfield 158, 3) := zd_608.2.2.2.2.2.2.2
theorem zd_609 : (decode cX12_acts 28 = .ok (.iload_n 3, 1)) ∧ (decode cX12_acts 29 = .ok (.iastore, 1)) ∧ (decode cX12_acts 30 = .ok (.aload_n 0, 1)) ∧ (decode cX12_acts 31 = .ok (.getfield 101, 3)) ∧ (decode cX12_acts 34 = .ok (.aload_n 0, 1)) ∧ (decode cX12_acts 35 = .ok (.getfield 158, 3)) ∧ (decode cX12_acts 38 = .ok (.iload 4, 2)) ∧ (decode cX12_acts 40 = .ok (.iastore, 1)) := by decide +kernel
theorem dX12_acts_28 : decode cX12_acts 28 = .ok (.iload_n 3, 1) := zd_609.1
theorem dX12_acts_29 : decode cX12_acts 29 = .ok (.iastore, 1) := zd_609.2.1
theorem dX12_acts_30 : decode cX12_acts 30 = .ok (.aload_n 0, 1) := zd_609.2.2.1
theorem dX12_acts_31 : decode cX12_acts 31 = .ok (.getfield 101, 3) := zd_609.2.2.2.1
theorem dX12_acts_34 : decode cX12_acts 34 = .ok (.aload_n 0, 1) := zd_609.2.2.2.2.1
theorem dX12_acts_35 : decode cX12_acts 35 = .ok (.getfield 158, 3) := zd_609.2.2.2.2.2.1
theorem dX12_acts_38 : decode cX12_acts 38 = .ok (.iload 4, 2) := zd_609.2.2.2.2.2.2.1
theorem dX12_acts_40 : decode cX12_acts 40 = .ok (.iastore, 1) := zd_609.2.2.2.2.2.2.2
theorem zd_610 : (decode cX12_acts 41 = .ok (.aload_n 0, 1)) ∧ (decode cX12_acts 42 = .ok (.getfield 104, 3)) ∧ (decode cX12_acts 45 = .ok (.aload_n 0, 1)) ∧ (decode cX12_acts 46 = .ok (.getfield 158, 3)) ∧ (decode cX12_acts 49 = .ok (.iload 5, 2)) ∧ (decode cX12_acts 51 = .ok (.iastore, 1)) ∧ (decode cX12_acts 52 = .ok (.aload_n 0, 1)) ∧ (decode cX12_acts 53 = .ok (.getfield 107, 3)) := by decide +kernel
theorem dX12_acts_41 : decode cX12_acts 41 = .ok (.aload_n 0, 1) := zd_610.1
theorem dX12_acts_42 : decode cX12_acts 42 = .ok (.getfield 104, 3) := zd_610.2.1
theorem dX12_acts_45 : decode cX12_acts 45 = .ok (.aload_n 0, 1) := zd_610.2.2.1
theorem dX12_acts_46 : decode cX12_acts 46 = .ok (.getfield 158, 3) := zd_610.2.2.2.1
theorem dX12_acts_49 : decode cX12_acts 49 = .ok (.iload 5, 2) := zd_610.2.2.2.2.1
theorem dX12_acts_51 : decode cX12_acts 51 = .ok (.iastore, 1) := zd_610.2.2.2.2.2.1
theorem dX12_acts_52 : decode cX12_acts 52 = .ok (.aload_n 0, 1) := zd_610.2.2.2.2.2.2.1
theorem dX12_acts_53 : decode cX12_acts 53 = .ok (.getfield 107, 3) := zd_610.2.2.2.2.2.2.2
theorem zd_611 : (decode cX12_acts 56 = .ok (.aload_n 0, 1)) ∧ (decode cX12_acts 57 = .ok (.getfield 158, 3)) ∧ (decode cX12_acts 60 = .ok (.iload 6, 2)) ∧ (decode cX12_acts 62 = .ok (.iastore, 1)) ∧ (decode cX12_acts 63 = .ok (.aload_n 0, 1)) ∧ (decode cX12_acts 64 = .ok (.getfield 110, 3)) ∧ (decode cX12_acts 67 = .ok (.aload_n 0, 1)) ∧ (decode cX12_acts 68 = .ok (.getfield 158, 3)) := by decide +kernel
theorem dX12_acts_56 : decode cX12_acts 56 = .ok (.aload_n 0, 1) := zd_611.1
theorem dX12_acts_57 : decode cX12_acts 57 = .ok (.getfield 158, 3) := zd_611.2.1
theorem dX12_acts_60 : decode cX12_acts 60 = .ok (.iload 6, 2) := zd_611.2.2.1
theorem dX12_acts_62 : decode cX12_acts 62 = .ok (.iastore, 1) := zd_611.2.2.2.1
theorem dX12_acts_63 : decode cX12_acts 63 = .ok (.aload_n 0, 1) := zd_611.2.2.2.2.1
theorem dX12_acts_64 : decode cX12_acts 64 = .ok (.getfield 110, 3) := zd_611.2.2.2.2.2.1
theorem dX12_acts_67 : decode cX12_acts 67 = .ok (.aload_n 0, 1) := zd_611.2.2.2.2.2.2.1
theorem dX12_acts_68 : decode cX12_acts 68 = .ok (.getfield 158, 3) := zd_611.2.2.2.2.2.2.2
theorem zd_612 : (decode cX12_acts 71 = .ok (.iload 7, 2)) ∧ (decode cX12_acts 73 = .ok (.iastore, 1)) ∧ (decode cX12_acts 74 = .ok (.aload_n 0, 1)) ∧ (decode cX12_acts 75 = .ok (.dup, 1)) ∧ (decode cX12_acts 76 = .ok (.getfield 158, 3)) ∧ (decode cX12_acts 79 = .ok (.iconst 1, 1)) ∧ (decode cX12_acts 80 = .ok (.iadd, 1)) ∧ (decode cX12_acts 81 = .ok (.putfield 158, 3)) := by decide +kernel
theorem dX12_acts_71 : decode cX12_acts 71 = .ok (.iload 7, 2) := zd_612.1
theorem dX12_acts_73 : decode cX12_acts 73 = .ok (.iastore, 1) := zd_612.2.1
theorem dX12_acts_74 : decode cX12_acts 74 = .ok (.aload_n 0, 1) := zd_612.2.2.1
theorem dX12_acts_75 : decode cX12_acts 75 = .ok (.dup, 1) := zd_612.2.2.2.1
theorem dX12_acts_76 : decode cX12_acts 76 = .ok (.getfield 158, 3) := zd_612.2.2.2.2.1
theorem dX12_acts_79 : decode cX12_acts 79 = .ok (.iconst 1, 1) := zd_612.2.2.2.2.2.1
theorem dX12_acts_80 : decode cX12_acts 80 = .ok (.iadd, 1) := zd_612.2.2.2.2.2.2.1
theorem dX12_acts_81 : decode cX12_acts 81 = .ok (.putfield 158, 3) := zd_612.2.2.2.2.2.2.2
theorem dX12_acts_84 : decode cX12_acts 84 = .ok (.return_, 1) := by decide +kernel
theorem zd_613 : (decode cX12_lift 0 = .ok (.aload_n 0, 1)) ∧ (decode cX12_lift 1 = .ok (.iload_n 1, 1)) ∧ (decode cX12_lift 2 = .ok (.invokevirtual 151, 3)) ∧ (decode cX12_lift 5 = .ok (.ifCond .eq 22, 3)) ∧ (decode cX12_lift 8 = .ok (.aload_n 0, 1)) ∧ (decode cX12_lift 9 = .ok (.getfield 74, 3)) ∧ (decode cX12_lift 12 = .ok (.iload_n 1, 1)) ∧ (decode cX12_lift 13 = .ok (.iaload, 1)) := by decide +kernel
theorem dX12_lift_0 : decode cX12_lift 0 = .ok (.aload_n 0, 1) := zd_613.1
theorem dX12_lift_1 : decode cX12_lift 1 = .ok (.iload_n 1, 1) := zd_613.2.1
theorem dX12_lift_2 : decode cX12_lift 2 = .ok (.invokevirtual 151, 3) := zd_613.2.2.1
theorem dX12_lift_5 : decode cX12_lift 5 = .ok (.ifCond .eq 22, 3) := zd_613.2.2.2.1
theorem dX12_lift_8 : decode cX12_lift 8 = .ok (.aload_n 0, 1) := zd_613.2.2.2.2.1
theorem dX12_lift_9 : decode cX12_lift 9 = .ok (.getfield 74, 3) := zd_613.2.2.2.2.2.1
theorem dX12_lift_12 : decode cX12_lift 12 = .ok (.iload_n 1, 1) := zd_613.2.2.2.2.2.2.1
theorem dX12_lift_13 : decode cX12_lift 13 = .ok (.iaload, 1) := zd_613.2.2.2.2.2.2.2
theorem zd_614 : (decode cX12_lift 14 = .ok (.ifCond .eq 13, 3)) ∧ (decode cX12_lift 17 = .ok (.aload_n 0, 1)) ∧ (decode cX12_lift 18 = .ok (.getfield 158, 3)) ∧ (decode cX12_lift 21 = .ok (.sipush 300, 3)) ∧ (decode cX12_lift 24 = .ok (.if_icmp .ne 5, 3)) ∧ (decode cX12_lift 27 = .ok (.iconst (-1), 1)) ∧ (decode cX12_lift 28 = .ok (.ireturn, 1)) ∧ (decode cX12_lift 29 = .ok (.bipush 6, 2)) := by decide +kernel
theorem dX12_lift_14 : decode cX12_lift 14 = .ok (.ifCond .eq 13, 3) := zd_614.1
theorem dX12_lift_17 : decode cX12_lift 17 = .ok (.aload_n 0, 1) := zd_614.2.1
theorem dX12_lift_18 : decode cX12_lift 18 = .ok (.getfield 158, 3) := zd_614.2.2.1
theorem dX12_lift_21 : decode cX12_lift 21 = .ok (.sipush 300, 3) := zd_614.2.2.2.1
theorem dX12_lift_24 : decode cX12_lift 24 = .ok (.if_icmp .ne 5, 3) := zd_614.2.2.2.2.1
theorem dX12_lift_27 : decode cX12_lift 27 = .ok (.iconst (-1), 1) := zd_614.2.2.2.2.2.1
theorem dX12_lift_28 : decode cX12_lift 28 = .ok (.ireturn, 1) := zd_614.2.2.2.2.2.2.1
theorem dX12_lift_29 : decode cX12_lift 29 = .ok (.bipush 6, 2) := zd_614.2.2.2.2.2.2.2
theorem zd_615 : (decode cX12_lift 31 = .ok (.iload_n 1, 1)) ∧ (decode cX12_lift 32 = .ok (.imul, 1)) ∧ (decode cX12_lift 33 = .ok (.aload_n 0, 1)) ∧ (decode cX12_lift 34 = .ok (.getfield 74, 3)) ∧ (decode cX12_lift 37 = .ok (.iload_n 1, 1)) ∧ (decode cX12_lift 38 = .ok (.iaload, 1)) ∧ (decode cX12_lift 39 = .ok (.iadd, 1)) ∧ (decode cX12_lift 40 = .ok (.iconst 1, 1)) := by decide +kernel
theorem dX12_lift_31 : decode cX12_lift 31 = .ok (.iload_n 1, 1) := zd_615.1
theorem dX12_lift_32 : decode cX12_lift 32 = .ok (.imul, 1) := zd_615.2.1
theorem dX12_lift_33 : decode cX12_lift 33 = .ok (.aload_n 0, 1) := zd_615.2.2.1
theorem dX12_lift_34 : decode cX12_lift 34 = .ok (.getfield 74, 3) := zd_615.2.2.2.1
theorem dX12_lift_37 : decode cX12_lift 37 = .ok (.iload_n 1, 1) := zd_615.2.2.2.2.1
theorem dX12_lift_38 : decode cX12_lift 38 = .ok (.iaload, 1) := zd_615.2.2.2.2.2.1
theorem dX12_lift_39 : decode cX12_lift 39 = .ok (.iadd, 1) := zd_615.2.2.2.2.2.2.1
theorem dX12_lift_40 : decode cX12_lift 40 = .ok (.iconst 1, 1) := zd_615.2.2.2.2.2.2.2
theorem zd_616 : (decode cX12_lift 41 = .ok (.isub, 1)) ∧ (decode cX12_lift 42 = .ok (.istore_n 2, 1)) ∧ (decode cX12_lift 43 = .ok (.aload_n 0, 1)) ∧ (decode cX12_lift 44 = .ok (.iconst 1, 1)) ∧ (decode cX12_lift 45 = .ok (.iload_n 1, 1)) ∧ (decode cX12_lift 46 = .ok (.aload_n 0, 1)) ∧ (decode cX12_lift 47 = .ok (.getfield 77, 3)) ∧ (decode cX12_lift 50 = .ok (.iload_n 2, 1)) := by decide +kernel
theorem dX12_lift_41 : decode cX12_lift 41 = .ok (.isub, 1) := zd_616.1
theorem dX12_lift_42 : decode cX12_lift 42 = .ok (.istore_n 2, 1) := zd_616.2.1
theorem dX12_lift_43 : decode cX12_lift 43 = .ok (.aload_n 0, 1) := zd_616.2.2.1
theorem dX12_lift_44 : decode cX12_lift 44 = .ok (.iconst 1, 1) := zd_616.2.2.2.1
theorem dX12_lift_45 : decode cX12_lift 45 = .ok (.iload_n 1, 1) := zd_616.2.2.2.2.1
theorem dX12_lift_46 : decode cX12_lift 46 = .ok (.aload_n 0, 1) := zd_616.2.2.2.2.2.1
theorem dX12_lift_47 : decode cX12_lift 47 = .ok (.getfield 77, 3) := zd_616.2.2.2.2.2.2.1
theorem dX12_lift_50 : decode cX12_lift 50 = .ok (.iload_n 2, 1) := zd_616.2.2.2.2.2.2.2
theorem zd_617 : (decode cX12_lift 51 = .ok (.iaload, 1)) ∧ (decode cX12_lift 52 = .ok (.aload_n 0, 1)) ∧ (decode cX12_lift 53 = .ok (.getfield 80, 3)) ∧ (decode cX12_lift 56 = .ok (.iload_n 2, 1)) ∧ (decode cX12_lift 57 = .ok (.iaload, 1)) ∧ (decode cX12_lift 58 = .ok (.aload_n 0, 1)) ∧ (decode cX12_lift 59 = .ok (.getfield 83, 3)) ∧ (decode cX12_lift 62 = .ok (.iload_n 2, 1)) := by decide +kernel
theorem dX12_lift_51 : decode cX12_lift 51 = .ok (.iaload, 1) := zd_617.1
theorem dX12_lift_52 : decode cX12_lift 52 = .ok (.aload_n 0, 1) := zd_617.2.1
theorem dX12_lift_53 : decode cX12_lift 53 = .ok (.getfield 80, 3) := zd_617.2.2.1
theorem dX12_lift_56 : decode cX12_lift 56 = .ok (.iload_n 2, 1) := zd_617.2.2.2.1
theorem dX12_lift_57 : decode cX12_lift 57 = .ok (.iaload, 1) := zd_617.2.2.2.2.1
theorem dX12_lift_58 : decode cX12_lift 58 = .ok (.aload_n 0, 1) := zd_617.2.2.2.2.2.1
theorem dX12_lift_59 : decode cX12_lift 59 = .ok (.getfield 83, 3) := zd_617.2.2.2.2.2.2.1
theorem dX12_lift_62 : decode cX12_lift 62 = .ok (.iload_n 2, 1) := zd_617.2.2.2.2.2.2.2
theorem zd_618 : (decode cX12_lift 63 = .ok (.iaload, 1)) ∧ (decode cX12_lift 64 = .ok (.aload_n 0, 1)) ∧ (decode cX12_lift 65 = .ok (.getfield 86, 3)) ∧ (decode cX12_lift 68 = .ok (.iload_n 2, 1)) ∧ (decode cX12_lift 69 = .ok (.iaload, 1)) ∧ (decode cX12_lift 70 = .ok (.aload_n 0, 1)) ∧ (decode cX12_lift 71 = .ok (.getfield 89, 3)) ∧ (decode cX12_lift 74 = .ok (.iload_n 2, 1)) := by decide +kernel
theorem dX12_lift_63 : decode cX12_lift 63 = .ok (.iaload, 1) := zd_618.1
theorem dX12_lift_64 : decode cX12_lift 64 = .ok (.aload_n 0, 1) := zd_618.2.1
theorem dX12_lift_65 : decode cX12_lift 65 = .ok (.getfield 86, 3) := zd_618.2.2.1
theorem dX12_lift_68 : decode cX12_lift 68 = .ok (.iload_n 2, 1) := zd_618.2.2.2.1
theorem dX12_lift_69 : decode cX12_lift 69 = .ok (.iaload, 1) := zd_618.2.2.2.2.1
theorem dX12_lift_70 : decode cX12_lift 70 = .ok (.aload_n 0, 1) := zd_618.2.2.2.2.2.1
theorem dX12_lift_71 : decode cX12_lift 71 = .ok (.getfield 89, 3) := zd_618.2.2.2.2.2.2.1
theorem dX12_lift_74 : decode cX12_lift 74 = .ok (.iload_n 2, 1) := zd_618.2.2.2.2.2.2.2
theorem zd_619 : (decode cX12_lift 75 = .ok (.iaload, 1)) ∧ (decode cX12_lift 76 = .ok (.invokevirtual 222, 3)) ∧ (decode cX12_lift 79 = .ok (.aload_n 0, 1)) ∧ (decode cX12_lift 80 = .ok (.iload_n 1, 1)) ∧ (decode cX12_lift 81 = .ok (.invokevirtual 202, 3)) ∧ (decode cX12_lift 84 = .ok (.aload_n 0, 1)) ∧ (decode cX12_lift 85 = .ok (.getfield 74, 3)) ∧ (decode cX12_lift 88 = .ok (.iload_n 1, 1)) := by decide +kernel
theorem dX12_lift_75 : decode cX12_lift 75 = .ok (.iaload, 1) := zd_619.1
theorem dX12_lift_76 : decode cX12_lift 76 = .ok (.invokevirtual 222, 3) := zd_619.2.1
theorem dX12_lift_79 : decode cX12_lift 79 = .ok (.aload_n 0, 1) := zd_619.2.2.1
theorem dX12_lift_80 : decode cX12_lift 80 = .ok (.iload_n 1, 1) := zd_619.2.2.2.1
theorem dX12_lift_81 : decode cX12_lift 81 = .ok (.invokevirtual 202, 3) := zd_619.2.2.2.2.1
theorem dX12_lift_84 : decode cX12_lift 84 = .ok (.aload_n 0, 1) := zd_619.2.2.2.2.2.1
theorem dX12_lift_85 : decode cX12_lift 85 = .ok (.getfield 74, 3) := zd_619.2.2.2.2.2.2.1
theorem dX12_lift_88 : decode cX12_lift 88 = .ok (.iload_n 1, 1) := zd_619.2.2.2.2.2.2.2
theorem zd_620 : (decode cX12_lift 89 = .ok (.iaload, 1)) ∧ (decode cX12_lift 90 = .ok (.ireturn, 1)) := by decide +kernel
theorem dX12_lift_89 : decode cX12_lift 89 = .ok (.iaload, 1) := zd_620.1
theorem dX12_lift_90 : decode cX12_lift 90 = .ok (.ireturn, 1) := zd_620.2
theorem zd_621 : (decode cX12_rule 0 = .ok (.aload_n 0, 1)) ∧ (decode cX12_rule 1 = .ok (.iload_n 1, 1)) ∧ (decode cX12_rule 2 = .ok (.iload_n 2, 1)) ∧ (decode cX12_rule 3 = .ok (.iload_n 3, 1)) ∧ (decode cX12_rule 4 = .ok (.invokevirtual 189, 3)) ∧ (decode cX12_rule 7 = .ok (.ifCond .eq 29, 3)) ∧ (decode cX12_rule 10 = .ok (.aload_n 0, 1)) ∧ (decode cX12_rule 11 = .ok (.getfield 16, 3)) := by decide +kernel
theorem dX12_rule_0 : decode cX12_rule 0 = .ok (.aload_n 0, 1) := zd_621.1
theorem dX12_rule_1 : decode cX12_rule 1 = .ok (.iload_n 1, 1) := zd_621.2.1
theorem dX12_rule_2 : decode cX12_rule 2 = .ok (.iload_n 2, 1) := zd_621.2.2.1
theorem dX12_rule_3 : decode cX12_rule 3 = .ok (.iload_n 3, 1) := zd_621.2.2.2.1
theorem dX12_rule_4 : decode cX12_rule 4 = .ok (.invokevirtual 189, 3) := zd_621.2.2.2.2.1
theorem dX12_rule_7 : decode cX12_rule 7 = .ok (.ifCond .eq 29, 3) := zd_621.2.2.2.2.2.1
theorem dX12_rule_10 : decode cX12_rule 10 = .ok (.aload_n 0, 1) := zd_621.2.2.2.2.2.2.1
theorem dX12_rule_11 : decode cX12_rule 11 = .ok (.getfield 16, 3) := zd_621.2.2.2.2.2.2.2
theorem zd_622 : (decode cX12_rule 14 = .ok (.iload_n 1, 1)) ∧ (decode cX12_rule 15 = .ok (.iload_n 2, 1)) ∧ (decode cX12_rule 16 = .ok (.iload_n 3, 1)) ∧ (decode cX12_rule 17 = .ok (.invokestatic 161, 3)) ∧ (decode cX12_rule 20 = .ok (.iaload, 1)) ∧ (decode cX12_rule 21 = .ok (.bipush (-2), 2)) ∧ (decode cX12_rule 23 = .ok (.if_icmp .ne 13, 3)) ∧ (decode cX12_rule 26 = .ok (.aload_n 0, 1)) := by decide +kernel
theorem dX12_rule_14 : decode cX12_rule 14 = .ok (.iload_n 1, 1) := zd_622.1
theorem dX12_rule_15 : decode cX12_rule 15 = .ok (.iload_n 2, 1) := zd_622.2.1
theorem dX12_rule_16 : decode cX12_rule 16 = .ok (.iload_n 3, 1) := zd_622.2.2.1
theorem dX12_rule_17 : decode cX12_rule 17 = .ok (.invokestatic 161, 3) := zd_622.2.2.2.1
theorem dX12_rule_20 : decode cX12_rule 20 = .ok (.iaload, 1) := zd_622.2.2.2.2.1
theorem dX12_rule_21 : decode cX12_rule 21 = .ok (.bipush (-2), 2) := zd_622.2.2.2.2.2.1
theorem dX12_rule_23 : decode cX12_rule 23 = .ok (.if_icmp .ne 13, 3) := zd_622.2.2.2.2.2.2.1
theorem dX12_rule_26 : decode cX12_rule 26 = .ok (.aload_n 0, 1) := zd_622.2.2.2.2.2.2.2
theorem zd_623 : (decode cX12_rule 27 = .ok (.getfield 158, 3)) ∧ (decode cX12_rule 30 = .ok (.sipush 300, 3)) ∧ (decode cX12_rule 33 = .ok (.if_icmp .ne 5, 3)) ∧ (decode cX12_rule 36 = .ok (.iconst 0, 1)) ∧ (decode cX12_rule 37 = .ok (.ireturn, 1)) ∧ (decode cX12_rule 38 = .ok (.aload_n 0, 1)) ∧ (decode cX12_rule 39 = .ok (.getfield 16, 3)) ∧ (decode cX12_rule 42 = .ok (.iload_n 1, 1)) := by decide +kernel
theorem dX12_rule_27 : decode cX12_rule 27 = .ok (.getfield 158, 3) := zd_623.1
theorem dX12_rule_30 : decode cX12_rule 30 = .ok (.sipush 300, 3) := zd_623.2.1
theorem dX12_rule_33 : decode cX12_rule 33 = .ok (.if_icmp .ne 5, 3) := zd_623.2.2.1
theorem dX12_rule_36 : decode cX12_rule 36 = .ok (.iconst 0, 1) := zd_623.2.2.2.1
theorem dX12_rule_37 : decode cX12_rule 37 = .ok (.ireturn, 1) := zd_623.2.2.2.2.1
theorem dX12_rule_38 : decode cX12_rule 38 = .ok (.aload_n 0, 1) := zd_623.2.2.2.2.2.1
theorem dX12_rule_39 : decode cX12_rule 39 = .ok (.getfield 16, 3) := zd_623.2.2.2.2.2.2.1
theorem dX12_rule_42 : decode cX12_rule 42 = .ok (.iload_n 1, 1) := zd_623.2.2.2.2.2.2.2
theorem zd_624 : (decode cX12_rule 43 = .ok (.iload_n 2, 1)) ∧ (decode cX12_rule 44 = .ok (.iload_n 3, 1)) ∧ (decode cX12_rule 45 = .ok (.invokestatic 161, 3)) ∧ (decode cX12_rule 48 = .ok (.bipush 100, 2)) ∧ (decode cX12_rule 50 = .ok (.iastore, 1)) ∧ (decode cX12_rule 51 = .ok (.aload_n 0, 1)) ∧ (decode cX12_rule 52 = .ok (.iconst 2, 1)) ∧ (decode cX12_rule 53 = .ok (.iload_n 1, 1)) := by decide +kernel
theorem dX12_rule_43 : decode cX12_rule 43 = .ok (.iload_n 2, 1) := zd_624.1
theorem dX12_rule_44 : decode cX12_rule 44 = .ok (.iload_n 3, 1) := zd_624.2.1
theorem dX12_rule_45 : decode cX12_rule 45 = .ok (.invokestatic 161, 3) := zd_624.2.2.1
theorem dX12_rule_48 : decode cX12_rule 48 = .ok (.bipush 100, 2) := zd_624.2.2.2.1
theorem dX12_rule_50 : decode cX12_rule 50 = .ok (.iastore, 1) := zd_624.2.2.2.2.1
theorem dX12_rule_51 : decode cX12_rule 51 = .ok (.aload_n 0, 1) := zd_624.2.2.2.2.2.1
theorem dX12_rule_52 : decode cX12_rule 52 = .ok (.iconst 2, 1) := zd_624.2.2.2.2.2.2.1
theorem dX12_rule_53 : decode cX12_rule 53 = .ok (.iload_n 1, 1) := zd_624.2.2.2.2.2.2.2
theorem zd_625 : (decode cX12_rule 54 = .ok (.iload_n 2, 1)) ∧ (decode cX12_rule 55 = .ok (.iload_n 3, 1)) ∧ (decode cX12_rule 56 = .ok (.iconst 0, 1)) ∧ (decode cX12_rule 57 = .ok (.iconst 0, 1)) ∧ (decode cX12_rule 58 = .ok (.iconst 0, 1)) ∧ (decode cX12_rule 59 = .ok (.invokevirtual 222, 3)) ∧ (decode cX12_rule 62 = .ok (.iconst 1, 1)) ∧ (decode cX12_rule 63 = .ok (.ireturn, 1)) := by decide +kernel
theorem dX12_rule_54 : decode cX12_rule 54 = .ok (.iload_n 2, 1) := zd_625.1
theorem dX12_rule_55 : decode cX12_rule 55 = .ok (.iload_n 3, 1) := zd_625.2.1
theorem dX12_rule_56 : decode cX12_rule 56 = .ok (.iconst 0, 1) := zd_625.2.2.1
theorem dX12_rule_57 : decode cX12_rule 57 = .ok (.iconst 0, 1) := zd_625.2.2.2.1
theorem dX12_rule_58 : decode cX12_rule 58 = .ok (.iconst 0, 1) := zd_625.2.2.2.2.1
theorem dX12_rule_59 : decode cX12_rule 59 = .ok (.invokevirtual 222, 3) := zd_625.2.2.2.2.2.1
theorem dX12_rule_62 : decode cX12_rule 62 = .ok (.iconst 1, 1) := zd_625.2.2.2.2.2.2.1
theorem dX12_rule_63 : decode cX12_rule 63 = .ok (.ireturn, 1) := zd_625.2.2.2.2.2.2.2
theorem zd_626 : (decode cX12_fill 0 = .ok (.iload_n 1, 1)) ∧ (decode cX12_fill 1 = .ok (.invokestatic 155, 3)) ∧ (decode cX12_fill 4 = .ok (.ifCond .eq 13, 3)) ∧ (decode cX12_fill 7 = .ok (.aload_n 0, 1)) ∧ (decode cX12_fill 8 = .ok (.getfield 158, 3)) ∧ (decode cX12_fill 11 = .ok (.sipush 300, 3)) ∧ (decode cX12_fill 14 = .ok (.if_icmp .ne 5, 3)) ∧ (decode cX12_fill 17 = .ok (.iconst (-1), 1)) := by decide +kernel
theorem dX12_fill_0 : decode cX12_fill 0 = .ok (.iload_n 1, 1) := zd_626.1
theorem dX12_fill_1 : decode cX12_fill 1 = .ok (.invokestatic 155, 3) := zd_626.2.1
theorem dX12_fill_4 : decode cX12_fill 4 = .ok (.ifCond .eq 13, 3) := zd_626.2.2.1
theorem dX12_fill_7 : decode cX12_fill 7 = .ok (.aload_n 0, 1) := zd_626.2.2.2.1
theorem dX12_fill_8 : decode cX12_fill 8 = .ok (.getfield 158, 3) := zd_626.2.2.2.2.1
theorem dX12_fill_11 : decode cX12_fill 11 = .ok (.sipush 300, 3) := zd_626.2.2.2.2.2.1
theorem dX12_fill_14 : decode cX12_fill 14 = .ok (.if_icmp .ne 5, 3) := zd_626.2.2.2.2.2.2.1
theorem dX12_fill_17 : decode cX12_fill 17 = .ok (.iconst (-1), 1) := zd_626.2.2.2.2.2.2.2
theorem zd_627 : (decode cX12_fill 18 = .ok (.ireturn, 1)) ∧ (decode cX12_fill 19 = .ok (.iconst 0, 1)) ∧ (decode cX12_fill 20 = .ok (.istore_n 2, 1)) ∧ (decode cX12_fill 21 = .ok (.iconst 0, 1)) ∧ (decode cX12_fill 22 = .ok (.istore_n 3, 1)) ∧ (decode cX12_fill 23 = .ok (.iload_n 3, 1)) ∧ (decode cX12_fill 24 = .ok (.bipush 8, 2)) ∧ (decode cX12_fill 26 = .ok (.if_icmp .ge 151, 3)) := by decide +kernel
theorem dX12_fill_18 : decode cX12_fill 18 = .ok (.ireturn, 1) := zd_627.1
theorem dX12_fill_19 : decode cX12_fill 19 = .ok (.iconst 0, 1) := zd_627.2.1
theorem dX12_fill_20 : decode cX12_fill 20 = .ok (.istore_n 2, 1) := zd_627.2.2.1
theorem dX12_fill_21 : decode cX12_fill 21 = .ok (.iconst 0, 1) := zd_627.2.2.2.1
theorem dX12_fill_22 : decode cX12_fill 22 = .ok (.istore_n 3, 1) := zd_627.2.2.2.2.1
theorem dX12_fill_23 : decode cX12_fill 23 = .ok (.iload_n 3, 1) := zd_627.2.2.2.2.2.1
theorem dX12_fill_24 : decode cX12_fill 24 = .ok (.bipush 8, 2) := zd_627.2.2.2.2.2.2.1
theorem dX12_fill_26 : decode cX12_fill 26 = .ok (.if_icmp .ge 151, 3) := zd_627.2.2.2.2.2.2.2
theorem zd_628 : (decode cX12_fill 29 = .ok (.iconst 0, 1)) ∧ (decode cX12_fill 30 = .ok (.istore 4, 2)) ∧ (decode cX12_fill 32 = .ok (.iload 4, 2)) ∧ (decode cX12_fill 34 = .ok (.aload_n 0, 1)) ∧ (decode cX12_fill 35 = .ok (.getfield 7, 3)) ∧ (decode cX12_fill 38 = .ok (.bipush 8, 2)) ∧ (decode cX12_fill 40 = .ok (.iload_n 1, 1)) ∧ (decode cX12_fill 41 = .ok (.imul, 1)) := by decide +kernel
theorem dX12_fill_29 : decode cX12_fill 29 = .ok (.iconst 0, 1) := zd_628.1
theorem dX12_fill_30 : decode cX12_fill 30 = .ok (.istore 4, 2) := zd_628.2.1
theorem dX12_fill_32 : decode cX12_fill 32 = .ok (.iload 4, 2) := zd_628.2.2.1
theorem dX12_fill_34 : decode cX12_fill 34 = .ok (.aload_n 0, 1) := zd_628.2.2.2.1
theorem dX12_fill_35 : decode cX12_fill 35 = .ok (.getfield 7, 3) := zd_628.2.2.2.2.1
theorem dX12_fill_38 : decode cX12_fill 38 = .ok (.bipush 8, 2) := zd_628.2.2.2.2.2.1
theorem dX12_fill_40 : decode cX12_fill 40 = .ok (.iload_n 1, 1) := zd_628.2.2.2.2.2.2.1
theorem dX12_fill_41 : decode cX12_fill 41 = .ok (.imul, 1) := zd_628.2.2.2.2.2.2.2
theorem zd_629 : (decode cX12_fill 42 = .ok (.iload_n 3, 1)) ∧ (decode cX12_fill 43 = .ok (.iadd, 1)) ∧ (decode cX12_fill 44 = .ok (.iaload, 1)) ∧ (decode cX12_fill 45 = .ok (.if_icmp .ge 126, 3)) ∧ (decode cX12_fill 48 = .ok (.iload 4, 2)) ∧ (decode cX12_fill 50 = .ok (.istore 5, 2)) ∧ (decode cX12_fill 52 = .ok (.iload 5, 2)) ∧ (decode cX12_fill 54 = .ok (.aload_n 0, 1)) := by decide +kernel
theorem dX12_fill_42 : decode cX12_fill 42 = .ok (.iload_n 3, 1) := zd_629.1
theorem dX12_fill_43 : decode cX12_fill 43 = .ok (.iadd, 1) := zd_629.2.1
theorem dX12_fill_44 : decode cX12_fill 44 = .ok (.iaload, 1) := zd_629.2.2.1
theorem dX12_fill_45 : decode cX12_fill 45 = .ok (.if_icmp .ge 126, 3) := zd_629.2.2.2.1
theorem dX12_fill_48 : decode cX12_fill 48 = .ok (.iload 4, 2) := zd_629.2.2.2.2.1
theorem dX12_fill_50 : decode cX12_fill 50 = .ok (.istore 5, 2) := zd_629.2.2.2.2.2.1
theorem dX12_fill_52 : decode cX12_fill 52 = .ok (.iload 5, 2) := zd_629.2.2.2.2.2.2.1
theorem dX12_fill_54 : decode cX12_fill 54 = .ok (.aload_n 0, 1) := zd_629.2.2.2.2.2.2.2
theorem zd_630 : (decode cX12_fill 55 = .ok (.getfield 7, 3)) ∧ (decode cX12_fill 58 = .ok (.bipush 8, 2)) ∧ (decode cX12_fill 60 = .ok (.iload_n 1, 1)) ∧ (decode cX12_fill 61 = .ok (.imul, 1)) ∧ (decode cX12_fill 62 = .ok (.iload_n 3, 1)) ∧ (decode cX12_fill 63 = .ok (.iadd, 1)) ∧ (decode cX12_fill 64 = .ok (.iaload, 1)) ∧ (decode cX12_fill 65 = .ok (.if_icmp .ge 26, 3)) := by decide +kernel
theorem dX12_fill_55 : decode cX12_fill 55 = .ok (.getfield 7, 3) := zd_630.1
theorem dX12_fill_58 : decode cX12_fill 58 = .ok (.bipush 8, 2) := zd_630.2.1
theorem dX12_fill_60 : decode cX12_fill 60 = .ok (.iload_n 1, 1) := zd_630.2.2.1
theorem dX12_fill_61 : decode cX12_fill 61 = .ok (.imul, 1) := zd_630.2.2.2.1
theorem dX12_fill_62 : decode cX12_fill 62 = .ok (.iload_n 3, 1) := zd_630.2.2.2.2.1
theorem dX12_fill_63 : decode cX12_fill 63 = .ok (.iadd, 1) := zd_630.2.2.2.2.2.1
theorem dX12_fill_64 : decode cX12_fill 64 = .ok (.iaload, 1) := zd_630.2.2.2.2.2.2.1
theorem dX12_fill_65 : decode cX12_fill 65 = .ok (.if_icmp .ge 26, 3) := zd_630.2.2.2.2.2.2.2
theorem zd_631 : (decode cX12_fill 68 = .ok (.aload_n 0, 1)) ∧ (decode cX12_fill 69 = .ok (.getfield 16, 3)) ∧ (decode cX12_fill 72 = .ok (.iload_n 1, 1)) ∧ (decode cX12_fill 73 = .ok (.iload_n 3, 1)) ∧ (decode cX12_fill 74 = .ok (.iload 5, 2)) ∧ (decode cX12_fill 76 = .ok (.invokestatic 161, 3)) ∧ (decode cX12_fill 79 = .ok (.iaload, 1)) ∧ (decode cX12_fill 80 = .ok (.bipush (-2), 2)) := by decide +kernel
theorem dX12_fill_68 : decode cX12_fill 68 = .ok (.aload_n 0, 1) := zd_631.1
theorem dX12_fill_69 : decode cX12_fill 69 = .ok (.getfield 16, 3) := zd_631.2.1
theorem dX12_fill_72 : decode cX12_fill 72 = .ok (.iload_n 1, 1) := zd_631.2.2.1
theorem dX12_fill_73 : decode cX12_fill 73 = .ok (.iload_n 3, 1) := zd_631.2.2.2.1
theorem dX12_fill_74 : decode cX12_fill 74 = .ok (.iload 5, 2) := zd_631.2.2.2.2.1
theorem dX12_fill_76 : decode cX12_fill 76 = .ok (.invokestatic 161, 3) := zd_631.2.2.2.2.2.1
theorem dX12_fill_79 : decode cX12_fill 79 = .ok (.iaload, 1) := zd_631.2.2.2.2.2.2.1
theorem dX12_fill_80 : decode cX12_fill 80 = .ok (.bipush (-2), 2) := zd_631.2.2.2.2.2.2.2
theorem zd_632 : (decode cX12_fill 82 = .ok (.if_icmp .ne 9, 3)) ∧ (decode cX12_fill 85 = .ok (.iinc 5 1, 3)) ∧ (decode cX12_fill 88 = .ok (.goto (-36), 3)) ∧ (decode cX12_fill 91 = .ok (.iload 5, 2)) ∧ (decode cX12_fill 93 = .ok (.iload 4, 2)) ∧ (decode cX12_fill 95 = .ok (.if_icmp .le 15, 3)) ∧ (decode cX12_fill 98 = .ok (.aload_n 0, 1)) ∧ (decode cX12_fill 99 = .ok (.iload 5, 2)) := by decide +kernel
theorem dX12_fill_82 : decode cX12_fill 82 = .ok (.if_icmp .ne 9, 3) := zd_632.1
theorem dX12_fill_85 : decode cX12_fill 85 = .ok (.iinc 5 1, 3) := zd_632.2.1
theorem dX12_fill_88 : decode cX12_fill 88 = .ok (.goto (-36), 3) := zd_632.2.2.1
theorem dX12_fill_91 : decode cX12_fill 91 = .ok (.iload 5, 2) := zd_632.2.2.2.1
theorem dX12_fill_93 : decode cX12_fill 93 = .ok (.iload 4, 2) := zd_632.2.2.2.2.1
theorem dX12_fill_95 : decode cX12_fill 95 = .ok (.if_icmp .le 15, 3) := zd_632.2.2.2.2.2.1
theorem dX12_fill_98 : decode cX12_fill 98 = .ok (.aload_n 0, 1) := zd_632.2.2.2.2.2.2.1
theorem dX12_fill_99 : decode cX12_fill 99 = .ok (.iload 5, 2) := zd_632.2.2.2.2.2.2.2
theorem zd_633 : (decode cX12_fill 101 = .ok (.iload 4, 2)) ∧ (decode cX12_fill 103 = .ok (.isub, 1)) ∧ (decode cX12_fill 104 = .ok (.invokevirtual 225, 3)) ∧ (decode cX12_fill 107 = .ok (.goto 4, 3)) ∧ (decode cX12_fill 110 = .ok (.iconst (-1), 1)) ∧ (decode cX12_fill 111 = .ok (.istore 6, 2)) ∧ (decode cX12_fill 113 = .ok (.iload 6, 2)) ∧ (decode cX12_fill 115 = .ok (.ifCond .lt 35, 3)) := by decide +kernel
theorem dX12_fill_101 : decode cX12_fill 101 = .ok (.iload 4, 2) := zd_633.1
theorem dX12_fill_103 : decode cX12_fill 103 = .ok (.isub, 1) := zd_633.2.1
theorem dX12_fill_104 : decode cX12_fill 104 = .ok (.invokevirtual 225, 3) := zd_633.2.2.1
theorem dX12_fill_107 : decode cX12_fill 107 = .ok (.goto 4, 3) := zd_633.2.2.2.1
theorem dX12_fill_110 : decode cX12_fill 110 = .ok (.iconst (-1), 1) := zd_633.2.2.2.2.1
theorem dX12_fill_111 : decode cX12_fill 111 = .ok (.istore 6, 2) := zd_633.2.2.2.2.2.1
theorem dX12_fill_113 : decode cX12_fill 113 = .ok (.iload 6, 2) := zd_633.2.2.2.2.2.2.1
theorem dX12_fill_115 : decode cX12_fill 115 = .ok (.ifCond .lt 35, 3) := zd_633.2.2.2.2.2.2.2
theorem zd_634 : (decode cX12_fill 118 = .ok (.aload_n 0, 1)) ∧ (decode cX12_fill 119 = .ok (.iload 6, 2)) ∧ (decode cX12_fill 121 = .ok (.iload_n 1, 1)) ∧ (decode cX12_fill 122 = .ok (.iload_n 3, 1)) ∧ (decode cX12_fill 123 = .ok (.iload 4, 2)) ∧ (decode cX12_fill 125 = .ok (.iconst 1, 1)) ∧ (decode cX12_fill 126 = .ok (.iload 5, 2)) ∧ (decode cX12_fill 128 = .ok (.iload 4, 2)) := by decide +kernel
theorem dX12_fill_118 : decode cX12_fill 118 = .ok (.aload_n 0, 1) := zd_634.1
theorem dX12_fill_119 : decode cX12_fill 119 = .ok (.iload 6, 2) := zd_634.2.1
theorem dX12_fill_121 : decode cX12_fill 121 = .ok (.iload_n 1, 1) := zd_634.2.2.1
theorem dX12_fill_122 : decode cX12_fill 122 = .ok (.iload_n 3, 1) := zd_634.2.2.2.1
theorem dX12_fill_123 : decode cX12_fill 123 = .ok (.iload 4, 2) := zd_634.2.2.2.2.1
theorem dX12_fill_125 : decode cX12_fill 125 = .ok (.iconst 1, 1) := zd_634.2.2.2.2.2.1
theorem dX12_fill_126 : decode cX12_fill 126 = .ok (.iload 5, 2) := zd_634.2.2.2.2.2.2.1
theorem dX12_fill_128 : decode cX12_fill 128 = .ok (.iload 4, 2) := zd_634.2.2.2.2.2.2.2
theorem zd_635 : (decode cX12_fill 130 = .ok (.isub, 1)) ∧ (decode cX12_fill 131 = .ok (.invokevirtual 196, 3)) ∧ (decode cX12_fill 134 = .ok (.aload_n 0, 1)) ∧ (decode cX12_fill 135 = .ok (.getfield 113, 3)) ∧ (decode cX12_fill 138 = .ok (.aload_n 0, 1)) ∧ (decode cX12_fill 139 = .ok (.getfield 168, 3)) ∧ (decode cX12_fill 142 = .ok (.iload_n 2, 1)) ∧ (decode cX12_fill 143 = .ok (.iadd, 1)) := by decide +kernel
theorem dX12_fill_130 : decode cX12_fill 130 = .ok (.isub, 1) := zd_635.1
theorem dX12_fill_131 : decode cX12_fill 131 = .ok (.invokevirtual 196, 3) := zd_635.2.1
theorem dX12_fill_134 : decode cX12_fill 134 = .ok (.aload_n 0, 1) := zd_635.2.2.1
theorem dX12_fill_135 : decode cX12_fill 135 = .ok (.getfield 113, 3) := zd_635.2.2.2.1
theorem dX12_fill_138 : decode cX12_fill 138 = .ok (.aload_n 0, 1) := zd_635.2.2.2.2.1
theorem dX12_fill_139 : decode cX12_fill 139 = .ok (.getfield 168, 3) := zd_635.2.2.2.2.2.1
theorem dX12_fill_142 : decode cX12_fill 142 = .ok (.iload_n 2, 1) := zd_635.2.2.2.2.2.2.1
theorem dX12_fill_143 : decode cX12_fill 143 = .ok (.iadd, 1) := zd_635.2.2.2.2.2.2.2
theorem zd_636 : (decode cX12_fill 144 = .ok (.iload 6, 2)) ∧ (decode cX12_fill 146 = .ok (.iastore, 1)) ∧ (decode cX12_fill 147 = .ok (.iinc 2 1, 3)) ∧ (decode cX12_fill 150 = .ok (.iload 5, 2)) ∧ (decode cX12_fill 152 = .ok (.iload 4, 2)) ∧ (decode cX12_fill 154 = .ok (.if_icmp .le 8, 3)) ∧ (decode cX12_fill 157 = .ok (.iload 5, 2)) ∧ (decode cX12_fill 159 = .ok (.goto 7, 3)) := by decide +kernel
theorem dX12_fill_144 : decode cX12_fill 144 = .ok (.iload 6, 2) := zd_636.1
theorem dX12_fill_146 : decode cX12_fill 146 = .ok (.iastore, 1) := zd_636.2.1
theorem dX12_fill_147 : decode cX12_fill 147 = .ok (.iinc 2 1, 3) := zd_636.2.2.1
theorem dX12_fill_150 : decode cX12_fill 150 = .ok (.iload 5, 2) := zd_636.2.2.2.1
theorem dX12_fill_152 : decode cX12_fill 152 = .ok (.iload 4, 2) := zd_636.2.2.2.2.1
theorem dX12_fill_154 : decode cX12_fill 154 = .ok (.if_icmp .le 8, 3) := zd_636.2.2.2.2.2.1
theorem dX12_fill_157 : decode cX12_fill 157 = .ok (.iload 5, 2) := zd_636.2.2.2.2.2.2.1
theorem dX12_fill_159 : decode cX12_fill 159 = .ok (.goto 7, 3) := zd_636.2.2.2.2.2.2.2
theorem zd_637 : (decode cX12_fill 162 = .ok (.iload 4, 2)) ∧ (decode cX12_fill 164 = .ok (.iconst 1, 1)) ∧ (decode cX12_fill 165 = .ok (.iadd, 1)) ∧ (decode cX12_fill 166 = .ok (.istore 4, 2)) ∧ (decode cX12_fill 168 = .ok (.goto (-136), 3)) ∧ (decode cX12_fill 171 = .ok (.iinc 3 1, 3)) ∧ (decode cX12_fill 174 = .ok (.goto (-151), 3)) ∧ (decode cX12_fill 177 = .ok (.iload_n 2, 1)) := by decide +kernel
theorem dX12_fill_162 : decode cX12_fill 162 = .ok (.iload 4, 2) := zd_637.1
theorem dX12_fill_164 : decode cX12_fill 164 = .ok (.iconst 1, 1) := zd_637.2.1
theorem dX12_fill_165 : decode cX12_fill 165 = .ok (.iadd, 1) := zd_637.2.2.1
theorem dX12_fill_166 : decode cX12_fill 166 = .ok (.istore 4, 2) := zd_637.2.2.2.1
theorem dX12_fill_168 : decode cX12_fill 168 = .ok (.goto (-136), 3) := zd_637.2.2.2.2.1
theorem dX12_fill_171 : decode cX12_fill 171 = .ok (.iinc 3 1, 3) := zd_637.2.2.2.2.2.1
theorem dX12_fill_174 : decode cX12_fill 174 = .ok (.goto (-151), 3) := zd_637.2.2.2.2.2.2.1
theorem dX12_fill_177 : decode cX12_fill 177 = .ok (.iload_n 2, 1) := zd_637.2.2.2.2.2.2.2
theorem zd_638 : (decode cX12_fill 178 = .ok (.ifCond .ne 5, 3)) ∧ (decode cX12_fill 181 = .ok (.iconst 0, 1)) ∧ (decode cX12_fill 182 = .ok (.ireturn, 1)) ∧ (decode cX12_fill 183 = .ok (.aload_n 0, 1)) ∧ (decode cX12_fill 184 = .ok (.iconst 3, 1)) ∧ (decode cX12_fill 185 = .ok (.iload_n 2, 1)) ∧ (decode cX12_fill 186 = .ok (.iconst 0, 1)) ∧ (decode cX12_fill 187 = .ok (.iconst 0, 1)) := by decide +kernel
theorem dX12_fill_178 : decode cX12_fill 178 = .ok (.ifCond .ne 5, 3) := zd_638.1
theorem dX12_fill_181 : decode cX12_fill 181 = .ok (.iconst 0, 1) := zd_638.2.1
theorem dX12_fill_182 : decode cX12_fill 182 = .ok (.ireturn, 1) := zd_638.2.2.1
theorem dX12_fill_183 : decode cX12_fill 183 = .ok (.aload_n 0, 1) := zd_638.2.2.2.1
theorem dX12_fill_184 : decode cX12_fill 184 = .ok (.iconst 3, 1) := zd_638.2.2.2.2.1
theorem dX12_fill_185 : decode cX12_fill 185 = .ok (.iload_n 2, 1) := zd_638.2.2.2.2.2.1
theorem dX12_fill_186 : decode cX12_fill 186 = .ok (.iconst 0, 1) := zd_638.2.2.2.2.2.2.1
theorem dX12_fill_187 : decode cX12_fill 187 = .ok (.iconst 0, 1) := zd_638.2.2.2.2.2.2.2
theorem zd_639 : (decode cX12_fill 188 = .ok (.iconst 0, 1)) ∧ (decode cX12_fill 189 = .ok (.iconst 0, 1)) ∧ (decode cX12_fill 190 = .ok (.iconst 0, 1)) ∧ (decode cX12_fill 191 = .ok (.invokevirtual 222, 3)) ∧ (decode cX12_fill 194 = .ok (.aload_n 0, 1)) ∧ (decode cX12_fill 195 = .ok (.dup, 1)) ∧ (decode cX12_fill 196 = .ok (.getfield 168, 3)) ∧ (decode cX12_fill 199 = .ok (.iload_n 2, 1)) := by decide +kernel
theorem dX12_fill_188 : decode cX12_fill 188 = .ok (.iconst 0, 1) := zd_639.1
theorem dX12_fill_189 : decode cX12_fill 189 = .ok (.iconst 0, 1) := zd_639.2.1
theorem dX12_fill_190 : decode cX12_fill 190 = .ok (.iconst 0, 1) := zd_639.2.2.1
theorem dX12_fill_191 : decode cX12_fill 191 = .ok (.invokevirtual 222, 3) := zd_639.2.2.2.1
theorem dX12_fill_194 : decode cX12_fill 194 = .ok (.aload_n 0, 1) := zd_639.2.2.2.2.1
theorem dX12_fill_195 : decode cX12_fill 195 = .ok (.dup, 1) := zd_639.2.2.2.2.2.1
theorem dX12_fill_196 : decode cX12_fill 196 = .ok (.getfield 168, 3) := zd_639.2.2.2.2.2.2.1
theorem dX12_fill_199 : decode cX12_fill 199 = .ok (.iload_n 2, 1) := zd_639.2.2.2.2.2.2.2
theorem zd_640 : (decode cX12_fill 200 = .ok (.iadd, 1)) ∧ (decode cX12_fill 201 = .ok (.putfield 168, 3)) ∧ (decode cX12_fill 204 = .ok (.iload_n 2, 1)) ∧ (decode cX12_fill 205 = .ok (.ireturn, 1)) := by decide +kernel
theorem dX12_fill_200 : decode cX12_fill 200 = .ok (.iadd, 1) := zd_640.1
theorem dX12_fill_201 : decode cX12_fill 201 = .ok (.putfield 168, 3) := zd_640.2.1
theorem dX12_fill_204 : decode cX12_fill 204 = .ok (.iload_n 2, 1) := zd_640.2.2.1
theorem dX12_fill_205 : decode cX12_fill 205 = .ok (.ireturn, 1) := zd_640.2.2.2
theorem zd_641 : (decode cX12_fillerFor 0 = .ok (.iconst (-1), 1)) ∧ (decode cX12_fillerFor 1 = .ok (.istore_n 2, 1)) ∧ (decode cX12_fillerFor 2 = .ok (.aload_n 0, 1)) ∧ (decode cX12_fillerFor 3 = .ok (.getfield 147, 3)) ∧ (decode cX12_fillerFor 6 = .ok (.iconst 1, 1)) ∧ (decode cX12_fillerFor 7 = .ok (.isub, 1)) ∧ (decode cX12_fillerFor 8 = .ok (.istore_n 3, 1)) ∧ (decode cX12_fillerFor 9 = .ok (.iload_n 3, 1)) := by decide +kernel
theorem dX12_fillerFor_0 : decode cX12_fillerFor 0 = .ok (.iconst (-1), 1) := zd_641.1
theorem dX12_fillerFor_1 : decode cX12_fillerFor 1 = .ok (.istore_n 2, 1) := zd_641.2.1
theorem dX12_fillerFor_2 : decode cX12_fillerFor 2 = .ok (.aload_n 0, 1) := zd_641.2.2.1
theorem dX12_fillerFor_3 : decode cX12_fillerFor 3 = .ok (.getfield 147, 3) := zd_641.2.2.2.1
theorem dX12_fillerFor_6 : decode cX12_fillerFor 6 = .ok (.iconst 1, 1) := zd_641.2.2.2.2.1
theorem dX12_fillerFor_7 : decode cX12_fillerFor 7 = .ok (.isub, 1) := zd_641.2.2.2.2.2.1
theorem dX12_fillerFor_8 : decode cX12_fillerFor 8 = .ok (.istore_n 3, 1) := zd_641.2.2.2.2.2.2.1
theorem dX12_fillerFor_9 : decode cX12_fillerFor 9 = .ok (.iload_n 3, 1) := zd_641.2.2.2.2.2.2.2
theorem zd_642 : (decode cX12_fillerFor 10 = .ok (.ifCond .lt 53, 3)) ∧ (decode cX12_fillerFor 13 = .ok (.aload_n 0, 1)) ∧ (decode cX12_fillerFor 14 = .ok (.getfield 19, 3)) ∧ (decode cX12_fillerFor 17 = .ok (.iload_n 3, 1)) ∧ (decode cX12_fillerFor 18 = .ok (.iaload, 1)) ∧ (decode cX12_fillerFor 19 = .ok (.iconst 4, 1)) ∧ (decode cX12_fillerFor 20 = .ok (.if_icmp .ne 35, 3)) ∧ (decode cX12_fillerFor 23 = .ok (.aload_n 0, 1)) := by decide +kernel
theorem dX12_fillerFor_10 : decode cX12_fillerFor 10 = .ok (.ifCond .lt 53, 3) := zd_642.1
theorem dX12_fillerFor_13 : decode cX12_fillerFor 13 = .ok (.aload_n 0, 1) := zd_642.2.1
theorem dX12_fillerFor_14 : decode cX12_fillerFor 14 = .ok (.getfield 19, 3) := zd_642.2.2.1
theorem dX12_fillerFor_17 : decode cX12_fillerFor 17 = .ok (.iload_n 3, 1) := zd_642.2.2.2.1
theorem dX12_fillerFor_18 : decode cX12_fillerFor 18 = .ok (.iaload, 1) := zd_642.2.2.2.2.1
theorem dX12_fillerFor_19 : decode cX12_fillerFor 19 = .ok (.iconst 4, 1) := zd_642.2.2.2.2.2.1
theorem dX12_fillerFor_20 : decode cX12_fillerFor 20 = .ok (.if_icmp .ne 35, 3) := zd_642.2.2.2.2.2.2.1
theorem dX12_fillerFor_23 : decode cX12_fillerFor 23 = .ok (.aload_n 0, 1) := zd_642.2.2.2.2.2.2.2
theorem zd_643 : (decode cX12_fillerFor 24 = .ok (.getfield 74, 3)) ∧ (decode cX12_fillerFor 27 = .ok (.iload_n 3, 1)) ∧ (decode cX12_fillerFor 28 = .ok (.iaload, 1)) ∧ (decode cX12_fillerFor 29 = .ok (.ifCond .ne 26, 3)) ∧ (decode cX12_fillerFor 32 = .ok (.iload_n 1, 1)) ∧ (decode cX12_fillerFor 33 = .ok (.aload_n 0, 1)) ∧ (decode cX12_fillerFor 34 = .ok (.getfield 22, 3)) ∧ (decode cX12_fillerFor 37 = .ok (.iload_n 3, 1)) := by decide +kernel
theorem dX12_fillerFor_24 : decode cX12_fillerFor 24 = .ok (.getfield 74, 3) := zd_643.1
theorem dX12_fillerFor_27 : decode cX12_fillerFor 27 = .ok (.iload_n 3, 1) := zd_643.2.1
theorem dX12_fillerFor_28 : decode cX12_fillerFor 28 = .ok (.iaload, 1) := zd_643.2.2.1
theorem dX12_fillerFor_29 : decode cX12_fillerFor 29 = .ok (.ifCond .ne 26, 3) := zd_643.2.2.2.1
theorem dX12_fillerFor_32 : decode cX12_fillerFor 32 = .ok (.iload_n 1, 1) := zd_643.2.2.2.2.1
theorem dX12_fillerFor_33 : decode cX12_fillerFor 33 = .ok (.aload_n 0, 1) := zd_643.2.2.2.2.2.1
theorem dX12_fillerFor_34 : decode cX12_fillerFor 34 = .ok (.getfield 22, 3) := zd_643.2.2.2.2.2.2.1
theorem dX12_fillerFor_37 : decode cX12_fillerFor 37 = .ok (.iload_n 3, 1) := zd_643.2.2.2.2.2.2.2
theorem zd_644 : (decode cX12_fillerFor 38 = .ok (.iaload, 1)) ∧ (decode cX12_fillerFor 39 = .ok (.aload_n 0, 1)) ∧ (decode cX12_fillerFor 40 = .ok (.getfield 25, 3)) ∧ (decode cX12_fillerFor 43 = .ok (.iload_n 3, 1)) ∧ (decode cX12_fillerFor 44 = .ok (.iaload, 1)) ∧ (decode cX12_fillerFor 45 = .ok (.invokestatic 143, 3)) ∧ (decode cX12_fillerFor 48 = .ok (.ifCond .eq 7, 3)) ∧ (decode cX12_fillerFor 51 = .ok (.iload_n 3, 1)) := by decide +kernel
theorem dX12_fillerFor_38 : decode cX12_fillerFor 38 = .ok (.iaload, 1) := zd_644.1
theorem dX12_fillerFor_39 : decode cX12_fillerFor 39 = .ok (.aload_n 0, 1) := zd_644.2.1
theorem dX12_fillerFor_40 : decode cX12_fillerFor 40 = .ok (.getfield 25, 3) := zd_644.2.2.1
theorem dX12_fillerFor_43 : decode cX12_fillerFor 43 = .ok (.iload_n 3, 1) := zd_644.2.2.2.1
theorem dX12_fillerFor_44 : decode cX12_fillerFor 44 = .ok (.iaload, 1) := zd_644.2.2.2.2.1
theorem dX12_fillerFor_45 : decode cX12_fillerFor 45 = .ok (.invokestatic 143, 3) := zd_644.2.2.2.2.2.1
theorem dX12_fillerFor_48 : decode cX12_fillerFor 48 = .ok (.ifCond .eq 7, 3) := zd_644.2.2.2.2.2.2.1
theorem dX12_fillerFor_51 : decode cX12_fillerFor 51 = .ok (.iload_n 3, 1) := zd_644.2.2.2.2.2.2.2
theorem zd_645 : (decode cX12_fillerFor 52 = .ok (.goto 4, 3)) ∧ (decode cX12_fillerFor 55 = .ok (.iload_n 2, 1)) ∧ (decode cX12_fillerFor 56 = .ok (.istore_n 2, 1)) ∧ (decode cX12_fillerFor 57 = .ok (.iinc 3 (-1), 3)) ∧ (decode cX12_fillerFor 60 = .ok (.goto (-51), 3)) ∧ (decode cX12_fillerFor 63 = .ok (.iload_n 2, 1)) ∧ (decode cX12_fillerFor 64 = .ok (.ireturn, 1)) := by decide +kernel
theorem dX12_fillerFor_52 : decode cX12_fillerFor 52 = .ok (.goto 4, 3) := zd_645.1
theorem dX12_fillerFor_55 : decode cX12_fillerFor 55 = .ok (.iload_n 2, 1) := zd_645.2.1
theorem dX12_fillerFor_56 : decode cX12_fillerFor 56 = .ok (.istore_n 2, 1) := zd_645.2.2.1
theorem dX12_fillerFor_57 : decode cX12_fillerFor 57 = .ok (.iinc 3 (-1), 3) := zd_645.2.2.2.1
theorem dX12_fillerFor_60 : decode cX12_fillerFor 60 = .ok (.goto (-51), 3) := zd_645.2.2.2.2.1
theorem dX12_fillerFor_63 : decode cX12_fillerFor 63 = .ok (.iload_n 2, 1) := zd_645.2.2.2.2.2.1
theorem dX12_fillerFor_64 : decode cX12_fillerFor 64 = .ok (.ireturn, 1) := zd_645.2.2.2.2.2.2
theorem zd_646 : (decode cX12_undo 0 = .ok (.aload_n 0, 1)) ∧ (decode cX12_undo 1 = .ok (.getfield 158, 3)) ∧ (decode cX12_undo 4 = .ok (.ifCond .ne 5, 3)) ∧ (decode cX12_undo 7 = .ok (.iconst (-1), 1)) ∧ (decode cX12_undo 8 = .ok (.ireturn, 1)) ∧ (decode cX12_undo 9 = .ok (.aload_n 0, 1)) ∧ (decode cX12_undo 10 = .ok (.dup, 1)) ∧ (decode cX12_undo 11 = .ok (.getfield 158, 3)) := by decide +kernel
theorem dX12_undo_0 : decode cX12_undo 0 = .ok (.aload_n 0, 1) := zd_646.1
theorem dX12_undo_1 : decode cX12_undo 1 = .ok (.getfield 158, 3) := zd_646.2.1
theorem dX12_undo_4 : decode cX12_undo 4 = .ok (.ifCond .ne 5, 3) := zd_646.2.2.1
theorem dX12_undo_7 : decode cX12_undo 7 = .ok (.iconst (-1), 1) := zd_646.2.2.2.1
theorem dX12_undo_8 : decode cX12_undo 8 = .ok (.ireturn, 1) := zd_646.2.2.2.2.1
theorem dX12_undo_9 : decode cX12_undo 9 = .ok (.aload_n 0, 1) := zd_646.2.2.2.2.2.1
theorem dX12_undo_10 : decode cX12_undo 10 = .ok (.dup, 1) := zd_646.2.2.2.2.2.2.1
theorem dX12_undo_11 : decode cX12_undo 11 = .ok (.getfield 158, 3) := zd_646.2.2.2.2.2.2.2
theorem zd_647 : (decode cX12_undo 14 = .ok (.iconst 1, 1)) ∧ (decode cX12_undo 15 = .ok (.isub, 1)) ∧ (decode cX12_undo 16 = .ok (.putfield 158, 3)) ∧ (decode cX12_undo 19 = .ok (.aload_n 0, 1)) ∧ (decode cX12_undo 20 = .ok (.getfield 95, 3)) ∧ (decode cX12_undo 23 = .ok (.aload_n 0, 1)) ∧ (decode cX12_undo 24 = .ok (.getfield 158, 3)) ∧ (decode cX12_undo 27 = .ok (.iaload, 1)) := by decide +kernel
theorem dX12_undo_14 : decode cX12_undo 14 = .ok (.iconst 1, 1) := zd_647.1
theorem dX12_undo_15 : decode cX12_undo 15 = .ok (.isub, 1) := zd_647.2.1
theorem dX12_undo_16 : decode cX12_undo 16 = .ok (.putfield 158, 3) := zd_647.2.2.1
theorem dX12_undo_19 : decode cX12_undo 19 = .ok (.aload_n 0, 1) := zd_647.2.2.2.1
theorem dX12_undo_20 : decode cX12_undo 20 = .ok (.getfield 95, 3) := zd_647.2.2.2.2.1
theorem dX12_undo_23 : decode cX12_undo 23 = .ok (.aload_n 0, 1) := zd_647.2.2.2.2.2.1
theorem dX12_undo_24 : decode cX12_undo 24 = .ok (.getfield 158, 3) := zd_647.2.2.2.2.2.2.1
theorem dX12_undo_27 : decode cX12_undo 27 = .ok (.iaload, 1) := zd_647.2.2.2.2.2.2.2
theorem zd_648 : (decode cX12_undo 28 = .ok (.istore_n 1, 1)) ∧ (decode cX12_undo 29 = .ok (.aload_n 0, 1)) ∧ (decode cX12_undo 30 = .ok (.getfield 92, 3)) ∧ (decode cX12_undo 33 = .ok (.aload_n 0, 1)) ∧ (decode cX12_undo 34 = .ok (.getfield 158, 3)) ∧ (decode cX12_undo 37 = .ok (.iaload, 1)) ∧ (decode cX12_undo 38 = .ok (.tableswitch 119 0 2 #[26, 34, 87], 26)) ∧ (decode cX12_undo 64 = .ok (.aload_n 0, 1)) := by decide +kernel
theorem dX12_undo_28 : decode cX12_undo 28 = .ok (.istore_n 1, 1) := zd_648.1
theorem dX12_undo_29 : decode cX12_undo 29 = .ok (.aload_n 0, 1) := zd_648.2.1
theorem dX12_undo_30 : decode cX12_undo 30 = .ok (.getfield 92, 3) := zd_648.2.2.1
theorem dX12_undo_33 : decode cX12_undo 33 = .ok (.aload_n 0, 1) := zd_648.2.2.2.1
theorem dX12_undo_34 : decode cX12_undo 34 = .ok (.getfield 158, 3) := zd_648.2.2.2.2.1
theorem dX12_undo_37 : decode cX12_undo 37 = .ok (.iaload, 1) := zd_648.2.2.2.2.2.1
theorem dX12_undo_38 : decode cX12_undo 38 = .ok (.tableswitch 119 0 2 #[26, 34, 87], 26) := zd_648.2.2.2.2.2.2.1
theorem dX12_undo_64 : decode cX12_undo 64 = .ok (.aload_n 0, 1) := zd_648.2.2.2.2.2.2.2
theorem zd_649 : (decode cX12_undo 65 = .ok (.iload_n 1, 1)) ∧ (decode cX12_undo 66 = .ok (.invokevirtual 202, 3)) ∧ (decode cX12_undo 69 = .ok (.goto 124, 3)) ∧ (decode cX12_undo 72 = .ok (.aload_n 0, 1)) ∧ (decode cX12_undo 73 = .ok (.iload_n 1, 1)) ∧ (decode cX12_undo 74 = .ok (.aload_n 0, 1)) ∧ (decode cX12_undo 75 = .ok (.getfield 98, 3)) ∧ (decode cX12_undo 78 = .ok (.aload_n 0, 1)) := by decide +kernel
theorem dX12_undo_65 : decode cX12_undo 65 = .ok (.iload_n 1, 1) := zd_649.1
theorem dX12_undo_66 : decode cX12_undo 66 = .ok (.invokevirtual 202, 3) := zd_649.2.1
theorem dX12_undo_69 : decode cX12_undo 69 = .ok (.goto 124, 3) := zd_649.2.2.1
theorem dX12_undo_72 : decode cX12_undo 72 = .ok (.aload_n 0, 1) := zd_649.2.2.2.1
theorem dX12_undo_73 : decode cX12_undo 73 = .ok (.iload_n 1, 1) := zd_649.2.2.2.2.1
theorem dX12_undo_74 : decode cX12_undo 74 = .ok (.aload_n 0, 1) := zd_649.2.2.2.2.2.1
theorem dX12_undo_75 : decode cX12_undo 75 = .ok (.getfield 98, 3) := zd_649.2.2.2.2.2.2.1
theorem dX12_undo_78 : decode cX12_undo 78 = .ok (.aload_n 0, 1) := zd_649.2.2.2.2.2.2.2
theorem zd_650 : (decode cX12_undo 79 = .ok (.getfield 158, 3)) ∧ (decode cX12_undo 82 = .ok (.iaload, 1)) ∧ (decode cX12_undo 83 = .ok (.aload_n 0, 1)) ∧ (decode cX12_undo 84 = .ok (.getfield 101, 3)) ∧ (decode cX12_undo 87 = .ok (.aload_n 0, 1)) ∧ (decode cX12_undo 88 = .ok (.getfield 158, 3)) ∧ (decode cX12_undo 91 = .ok (.iaload, 1)) ∧ (decode cX12_undo 92 = .ok (.aload_n 0, 1)) := by decide +kernel
theorem dX12_undo_79 : decode cX12_undo 79 = .ok (.getfield 158, 3) := zd_650.1
theorem dX12_undo_82 : decode cX12_undo 82 = .ok (.iaload, 1) := zd_650.2.1
theorem dX12_undo_83 : decode cX12_undo 83 = .ok (.aload_n 0, 1) := zd_650.2.2.1
theorem dX12_undo_84 : decode cX12_undo 84 = .ok (.getfield 101, 3) := zd_650.2.2.2.1
theorem dX12_undo_87 : decode cX12_undo 87 = .ok (.aload_n 0, 1) := zd_650.2.2.2.2.1
theorem dX12_undo_88 : decode cX12_undo 88 = .ok (.getfield 158, 3) := zd_650.2.2.2.2.2.1
theorem dX12_undo_91 : decode cX12_undo 91 = .ok (.iaload, 1) := zd_650.2.2.2.2.2.2.1
theorem dX12_undo_92 : decode cX12_undo 92 = .ok (.aload_n 0, 1) := zd_650.2.2.2.2.2.2.2
theorem zd_651 : (decode cX12_undo 93 = .ok (.getfield 104, 3)) ∧ (decode cX12_undo 96 = .ok (.aload_n 0, 1)) ∧ (decode cX12_undo 97 = .ok (.getfield 158, 3)) ∧ (decode cX12_undo 100 = .ok (.iaload, 1)) ∧ (decode cX12_undo 101 = .ok (.aload_n 0, 1)) ∧ (decode cX12_undo 102 = .ok (.getfield 107, 3)) ∧ (decode cX12_undo 105 = .ok (.aload_n 0, 1)) ∧ (decode cX12_undo 106 = .ok (.getfield 158, 3)) := by decide +kernel
theorem dX12_undo_93 : decode cX12_undo 93 = .ok (.getfield 104, 3) := zd_651.1
theorem dX12_undo_96 : decode cX12_undo 96 = .ok (.aload_n 0, 1) := zd_651.2.1
theorem dX12_undo_97 : decode cX12_undo 97 = .ok (.getfield 158, 3) := zd_651.2.2.1
theorem dX12_undo_100 : decode cX12_undo 100 = .ok (.iaload, 1) := zd_651.2.2.2.1
theorem dX12_undo_101 : decode cX12_undo 101 = .ok (.aload_n 0, 1) := zd_651.2.2.2.2.1
theorem dX12_undo_102 : decode cX12_undo 102 = .ok (.getfield 107, 3) := zd_651.2.2.2.2.2.1
theorem dX12_undo_105 : decode cX12_undo 105 = .ok (.aload_n 0, 1) := zd_651.2.2.2.2.2.2.1
theorem dX12_undo_106 : decode cX12_undo 106 = .ok (.getfield 158, 3) := zd_651.2.2.2.2.2.2.2
theorem zd_652 : (decode cX12_undo 109 = .ok (.iaload, 1)) ∧ (decode cX12_undo 110 = .ok (.aload_n 0, 1)) ∧ (decode cX12_undo 111 = .ok (.getfield 110, 3)) ∧ (decode cX12_undo 114 = .ok (.aload_n 0, 1)) ∧ (decode cX12_undo 115 = .ok (.getfield 158, 3)) ∧ (decode cX12_undo 118 = .ok (.iaload, 1)) ∧ (decode cX12_undo 119 = .ok (.invokevirtual 196, 3)) ∧ (decode cX12_undo 122 = .ok (.goto 71, 3)) := by decide +kernel
theorem dX12_undo_109 : decode cX12_undo 109 = .ok (.iaload, 1) := zd_652.1
theorem dX12_undo_110 : decode cX12_undo 110 = .ok (.aload_n 0, 1) := zd_652.2.1
theorem dX12_undo_111 : decode cX12_undo 111 = .ok (.getfield 110, 3) := zd_652.2.2.1
theorem dX12_undo_114 : decode cX12_undo 114 = .ok (.aload_n 0, 1) := zd_652.2.2.2.1
theorem dX12_undo_115 : decode cX12_undo 115 = .ok (.getfield 158, 3) := zd_652.2.2.2.2.1
theorem dX12_undo_118 : decode cX12_undo 118 = .ok (.iaload, 1) := zd_652.2.2.2.2.2.1
theorem dX12_undo_119 : decode cX12_undo 119 = .ok (.invokevirtual 196, 3) := zd_652.2.2.2.2.2.2.1
theorem dX12_undo_122 : decode cX12_undo 122 = .ok (.goto 71, 3) := zd_652.2.2.2.2.2.2.2
theorem zd_653 : (decode cX12_undo 125 = .ok (.aload_n 0, 1)) ∧ (decode cX12_undo 126 = .ok (.getfield 16, 3)) ∧ (decode cX12_undo 129 = .ok (.iload_n 1, 1)) ∧ (decode cX12_undo 130 = .ok (.aload_n 0, 1)) ∧ (decode cX12_undo 131 = .ok (.getfield 98, 3)) ∧ (decode cX12_undo 134 = .ok (.aload_n 0, 1)) ∧ (decode cX12_undo 135 = .ok (.getfield 158, 3)) ∧ (decode cX12_undo 138 = .ok (.iaload, 1)) := by decide +kernel
theorem dX12_undo_125 : decode cX12_undo 125 = .ok (.aload_n 0, 1) := zd_653.1
theorem dX12_undo_126 : decode cX12_undo 126 = .ok (.getfield 16, 3) := zd_653.2.1
theorem dX12_undo_129 : decode cX12_undo 129 = .ok (.iload_n 1, 1) := zd_653.2.2.1
theorem dX12_undo_130 : decode cX12_undo 130 = .ok (.aload_n 0, 1) := zd_653.2.2.2.1
theorem dX12_undo_131 : decode cX12_undo 131 = .ok (.getfield 98, 3) := zd_653.2.2.2.2.1
theorem dX12_undo_134 : decode cX12_undo 134 = .ok (.aload_n 0, 1) := zd_653.2.2.2.2.2.1
theorem dX12_undo_135 : decode cX12_undo 135 = .ok (.getfield 158, 3) := zd_653.2.2.2.2.2.2.1
theorem dX12_undo_138 : decode cX12_undo 138 = .ok (.iaload, 1) := zd_653.2.2.2.2.2.2.2
theorem zd_654 : (decode cX12_undo 139 = .ok (.aload_n 0, 1)) ∧ (decode cX12_undo 140 = .ok (.getfield 101, 3)) ∧ (decode cX12_undo 143 = .ok (.aload_n 0, 1)) ∧ (decode cX12_undo 144 = .ok (.getfield 158, 3)) ∧ (decode cX12_undo 147 = .ok (.iaload, 1)) ∧ (decode cX12_undo 148 = .ok (.invokestatic 161, 3)) ∧ (decode cX12_undo 151 = .ok (.bipush (-2), 2)) ∧ (decode cX12_undo 153 = .ok (.iastore, 1)) := by decide +kernel
theorem dX12_undo_139 : decode cX12_undo 139 = .ok (.aload_n 0, 1) := zd_654.1
theorem dX12_undo_140 : decode cX12_undo 140 = .ok (.getfield 101, 3) := zd_654.2.1
theorem dX12_undo_143 : decode cX12_undo 143 = .ok (.aload_n 0, 1) := zd_654.2.2.1
theorem dX12_undo_144 : decode cX12_undo 144 = .ok (.getfield 158, 3) := zd_654.2.2.2.1
theorem dX12_undo_147 : decode cX12_undo 147 = .ok (.iaload, 1) := zd_654.2.2.2.2.1
theorem dX12_undo_148 : decode cX12_undo 148 = .ok (.invokestatic 161, 3) := zd_654.2.2.2.2.2.1
theorem dX12_undo_151 : decode cX12_undo 151 = .ok (.bipush (-2), 2) := zd_654.2.2.2.2.2.2.1
theorem dX12_undo_153 : decode cX12_undo 153 = .ok (.iastore, 1) := zd_654.2.2.2.2.2.2.2
theorem zd_655 : (decode cX12_undo 154 = .ok (.goto 39, 3)) ∧ (decode cX12_undo 157 = .ok (.iconst 0, 1)) ∧ (decode cX12_undo 158 = .ok (.istore_n 2, 1)) ∧ (decode cX12_undo 159 = .ok (.iload_n 2, 1)) ∧ (decode cX12_undo 160 = .ok (.iload_n 1, 1)) ∧ (decode cX12_undo 161 = .ok (.if_icmp .ge 32, 3)) ∧ (decode cX12_undo 164 = .ok (.aload_n 0, 1)) ∧ (decode cX12_undo 165 = .ok (.dup, 1)) := by decide +kernel
theorem dX12_undo_154 : decode cX12_undo 154 = .ok (.goto 39, 3) := zd_655.1
theorem dX12_undo_157 : decode cX12_undo 157 = .ok (.iconst 0, 1) := zd_655.2.1
theorem dX12_undo_158 : decode cX12_undo 158 = .ok (.istore_n 2, 1) := zd_655.2.2.1
theorem dX12_undo_159 : decode cX12_undo 159 = .ok (.iload_n 2, 1) := zd_655.2.2.2.1
theorem dX12_undo_160 : decode cX12_undo 160 = .ok (.iload_n 1, 1) := zd_655.2.2.2.2.1
theorem dX12_undo_161 : decode cX12_undo 161 = .ok (.if_icmp .ge 32, 3) := zd_655.2.2.2.2.2.1
theorem dX12_undo_164 : decode cX12_undo 164 = .ok (.aload_n 0, 1) := zd_655.2.2.2.2.2.2.1
theorem dX12_undo_165 : decode cX12_undo 165 = .ok (.dup, 1) := zd_655.2.2.2.2.2.2.2
theorem zd_656 : (decode cX12_undo 166 = .ok (.getfield 168, 3)) ∧ (decode cX12_undo 169 = .ok (.iconst 1, 1)) ∧ (decode cX12_undo 170 = .ok (.isub, 1)) ∧ (decode cX12_undo 171 = .ok (.putfield 168, 3)) ∧ (decode cX12_undo 174 = .ok (.aload_n 0, 1)) ∧ (decode cX12_undo 175 = .ok (.aload_n 0, 1)) ∧ (decode cX12_undo 176 = .ok (.getfield 113, 3)) ∧ (decode cX12_undo 179 = .ok (.aload_n 0, 1)) := by decide +kernel
theorem dX12_undo_166 : decode cX12_undo 166 = .ok (.getfield 168, 3) := zd_656.1
theorem dX12_undo_169 : decode cX12_undo 169 = .ok (.iconst 1, 1) := zd_656.2.1
theorem dX12_undo_170 : decode cX12_undo 170 = .ok (.isub, 1) := zd_656.2.2.1
theorem dX12_undo_171 : decode cX12_undo 171 = .ok (.putfield 168, 3) := zd_656.2.2.2.1
theorem dX12_undo_174 : decode cX12_undo 174 = .ok (.aload_n 0, 1) := zd_656.2.2.2.2.1
theorem dX12_undo_175 : decode cX12_undo 175 = .ok (.aload_n 0, 1) := zd_656.2.2.2.2.2.1
theorem dX12_undo_176 : decode cX12_undo 176 = .ok (.getfield 113, 3) := zd_656.2.2.2.2.2.2.1
theorem dX12_undo_179 : decode cX12_undo 179 = .ok (.aload_n 0, 1) := zd_656.2.2.2.2.2.2.2
theorem zd_657 : (decode cX12_undo 180 = .ok (.getfield 168, 3)) ∧ (decode cX12_undo 183 = .ok (.iaload, 1)) ∧ (decode cX12_undo 184 = .ok (.invokevirtual 202, 3)) ∧ (decode cX12_undo 187 = .ok (.iinc 2 1, 3)) ∧ (decode cX12_undo 190 = .ok (.goto (-31), 3)) ∧ (decode cX12_undo 193 = .ok (.aload_n 0, 1)) ∧ (decode cX12_undo 194 = .ok (.getfield 158, 3)) ∧ (decode cX12_undo 197 = .ok (.ireturn, 1)) := by decide +kernel
theorem dX12_undo_180 : decode cX12_undo 180 = .ok (.getfield 168, 3) := zd_657.1
theorem dX12_undo_183 : decode cX12_undo 183 = .ok (.iaload, 1) := zd_657.2.1
theorem dX12_undo_184 : decode cX12_undo 184 = .ok (.invokevirtual 202, 3) := zd_657.2.2.1
theorem dX12_undo_187 : decode cX12_undo 187 = .ok (.iinc 2 1, 3) := zd_657.2.2.2.1
theorem dX12_undo_190 : decode cX12_undo 190 = .ok (.goto (-31), 3) := zd_657.2.2.2.2.1
theorem dX12_undo_193 : decode cX12_undo 193 = .ok (.aload_n 0, 1) := zd_657.2.2.2.2.2.1
theorem dX12_undo_194 : decode cX12_undo 194 = .ok (.getfield 158, 3) := zd_657.2.2.2.2.2.2.1
theorem dX12_undo_197 : decode cX12_undo 197 = .ok (.ireturn, 1) := zd_657.2.2.2.2.2.2.2
theorem zd_658 : (decode cX12_wrongs 0 = .ok (.iload_n 3, 1)) ∧ (decode cX12_wrongs 1 = .ok (.ifCond .lt 12, 3)) ∧ (decode cX12_wrongs 4 = .ok (.iload_n 3, 1)) ∧ (decode cX12_wrongs 5 = .ok (.iload_n 2, 1)) ∧ (decode cX12_wrongs 6 = .ok (.if_icmp .ge 7, 3)) ∧ (decode cX12_wrongs 9 = .ok (.iload_n 3, 1)) ∧ (decode cX12_wrongs 10 = .ok (.goto 4, 3)) ∧ (decode cX12_wrongs 13 = .ok (.iload_n 2, 1)) := by decide +kernel
theorem dX12_wrongs_0 : decode cX12_wrongs 0 = .ok (.iload_n 3, 1) := zd_658.1
theorem dX12_wrongs_1 : decode cX12_wrongs 1 = .ok (.ifCond .lt 12, 3) := zd_658.2.1
theorem dX12_wrongs_4 : decode cX12_wrongs 4 = .ok (.iload_n 3, 1) := zd_658.2.2.1
theorem dX12_wrongs_5 : decode cX12_wrongs 5 = .ok (.iload_n 2, 1) := zd_658.2.2.2.1
theorem dX12_wrongs_6 : decode cX12_wrongs 6 = .ok (.if_icmp .ge 7, 3) := zd_658.2.2.2.2.1
theorem dX12_wrongs_9 : decode cX12_wrongs 9 = .ok (.iload_n 3, 1) := zd_658.2.2.2.2.2.1
theorem dX12_wrongs_10 : decode cX12_wrongs 10 = .ok (.goto 4, 3) := zd_658.2.2.2.2.2.2.1
theorem dX12_wrongs_13 : decode cX12_wrongs 13 = .ok (.iload_n 2, 1) := zd_658.2.2.2.2.2.2.2
theorem zd_659 : (decode cX12_wrongs 14 = .ok (.istore 4, 2)) ∧ (decode cX12_wrongs 16 = .ok (.iload_n 3, 1)) ∧ (decode cX12_wrongs 17 = .ok (.ifCond .lt 12, 3)) ∧ (decode cX12_wrongs 20 = .ok (.iload_n 3, 1)) ∧ (decode cX12_wrongs 21 = .ok (.iload_n 2, 1)) ∧ (decode cX12_wrongs 22 = .ok (.if_icmp .ge 7, 3)) ∧ (decode cX12_wrongs 25 = .ok (.iload_n 2, 1)) ∧ (decode cX12_wrongs 26 = .ok (.goto 4, 3)) := by decide +kernel
theorem dX12_wrongs_14 : decode cX12_wrongs 14 = .ok (.istore 4, 2) := zd_659.1
theorem dX12_wrongs_16 : decode cX12_wrongs 16 = .ok (.iload_n 3, 1) := zd_659.2.1
theorem dX12_wrongs_17 : decode cX12_wrongs 17 = .ok (.ifCond .lt 12, 3) := zd_659.2.2.1
theorem dX12_wrongs_20 : decode cX12_wrongs 20 = .ok (.iload_n 3, 1) := zd_659.2.2.2.1
theorem dX12_wrongs_21 : decode cX12_wrongs 21 = .ok (.iload_n 2, 1) := zd_659.2.2.2.2.1
theorem dX12_wrongs_22 : decode cX12_wrongs 22 = .ok (.if_icmp .ge 7, 3) := zd_659.2.2.2.2.2.1
theorem dX12_wrongs_25 : decode cX12_wrongs 25 = .ok (.iload_n 2, 1) := zd_659.2.2.2.2.2.2.1
theorem dX12_wrongs_26 : decode cX12_wrongs 26 = .ok (.goto 4, 3) := zd_659.2.2.2.2.2.2.2
theorem zd_660 : (decode cX12_wrongs 29 = .ok (.iload_n 3, 1)) ∧ (decode cX12_wrongs 30 = .ok (.istore 5, 2)) ∧ (decode cX12_wrongs 32 = .ok (.aload_n 0, 1)) ∧ (decode cX12_wrongs 33 = .ok (.getfield 228, 3)) ∧ (decode cX12_wrongs 36 = .ok (.ifCond .eq 46, 3)) ∧ (decode cX12_wrongs 39 = .ok (.iload_n 1, 1)) ∧ (decode cX12_wrongs 40 = .ok (.aload_n 0, 1)) ∧ (decode cX12_wrongs 41 = .ok (.getfield 228, 3)) := by decide +kernel
theorem dX12_wrongs_29 : decode cX12_wrongs 29 = .ok (.iload_n 3, 1) := zd_660.1
theorem dX12_wrongs_30 : decode cX12_wrongs 30 = .ok (.istore 5, 2) := zd_660.2.1
theorem dX12_wrongs_32 : decode cX12_wrongs 32 = .ok (.aload_n 0, 1) := zd_660.2.2.1
theorem dX12_wrongs_33 : decode cX12_wrongs 33 = .ok (.getfield 228, 3) := zd_660.2.2.2.1
theorem dX12_wrongs_36 : decode cX12_wrongs 36 = .ok (.ifCond .eq 46, 3) := zd_660.2.2.2.2.1
theorem dX12_wrongs_39 : decode cX12_wrongs 39 = .ok (.iload_n 1, 1) := zd_660.2.2.2.2.2.1
theorem dX12_wrongs_40 : decode cX12_wrongs 40 = .ok (.aload_n 0, 1) := zd_660.2.2.2.2.2.2.1
theorem dX12_wrongs_41 : decode cX12_wrongs 41 = .ok (.getfield 228, 3) := zd_660.2.2.2.2.2.2.2
theorem zd_661 : (decode cX12_wrongs 44 = .ok (.if_icmp .lt 38, 3)) ∧ (decode cX12_wrongs 47 = .ok (.iload_n 1, 1)) ∧ (decode cX12_wrongs 48 = .ok (.aload_n 0, 1)) ∧ (decode cX12_wrongs 49 = .ok (.getfield 228, 3)) ∧ (decode cX12_wrongs 52 = .ok (.if_icmp .ne 47, 3)) ∧ (decode cX12_wrongs 55 = .ok (.iload 4, 2)) ∧ (decode cX12_wrongs 57 = .ok (.aload_n 0, 1)) ∧ (decode cX12_wrongs 58 = .ok (.getfield 231, 3)) := by decide +kernel
theorem dX12_wrongs_44 : decode cX12_wrongs 44 = .ok (.if_icmp .lt 38, 3) := zd_661.1
theorem dX12_wrongs_47 : decode cX12_wrongs 47 = .ok (.iload_n 1, 1) := zd_661.2.1
theorem dX12_wrongs_48 : decode cX12_wrongs 48 = .ok (.aload_n 0, 1) := zd_661.2.2.1
theorem dX12_wrongs_49 : decode cX12_wrongs 49 = .ok (.getfield 228, 3) := zd_661.2.2.2.1
theorem dX12_wrongs_52 : decode cX12_wrongs 52 = .ok (.if_icmp .ne 47, 3) := zd_661.2.2.2.2.1
theorem dX12_wrongs_55 : decode cX12_wrongs 55 = .ok (.iload 4, 2) := zd_661.2.2.2.2.2.1
theorem dX12_wrongs_57 : decode cX12_wrongs 57 = .ok (.aload_n 0, 1) := zd_661.2.2.2.2.2.2.1
theorem dX12_wrongs_58 : decode cX12_wrongs 58 = .ok (.getfield 231, 3) := zd_661.2.2.2.2.2.2.2
theorem zd_662 : (decode cX12_wrongs 61 = .ok (.if_icmp .lt 21, 3)) ∧ (decode cX12_wrongs 64 = .ok (.iload 4, 2)) ∧ (decode cX12_wrongs 66 = .ok (.aload_n 0, 1)) ∧ (decode cX12_wrongs 67 = .ok (.getfield 231, 3)) ∧ (decode cX12_wrongs 70 = .ok (.if_icmp .ne 29, 3)) ∧ (decode cX12_wrongs 73 = .ok (.iload 5, 2)) ∧ (decode cX12_wrongs 75 = .ok (.aload_n 0, 1)) ∧ (decode cX12_wrongs 76 = .ok (.getfield 234, 3)) := by decide +kernel
theorem dX12_wrongs_61 : decode cX12_wrongs 61 = .ok (.if_icmp .lt 21, 3) := zd_662.1
theorem dX12_wrongs_64 : decode cX12_wrongs 64 = .ok (.iload 4, 2) := zd_662.2.1
theorem dX12_wrongs_66 : decode cX12_wrongs 66 = .ok (.aload_n 0, 1) := zd_662.2.2.1
theorem dX12_wrongs_67 : decode cX12_wrongs 67 = .ok (.getfield 231, 3) := zd_662.2.2.2.1
theorem dX12_wrongs_70 : decode cX12_wrongs 70 = .ok (.if_icmp .ne 29, 3) := zd_662.2.2.2.2.1
theorem dX12_wrongs_73 : decode cX12_wrongs 73 = .ok (.iload 5, 2) := zd_662.2.2.2.2.2.1
theorem dX12_wrongs_75 : decode cX12_wrongs 75 = .ok (.aload_n 0, 1) := zd_662.2.2.2.2.2.2.1
theorem dX12_wrongs_76 : decode cX12_wrongs 76 = .ok (.getfield 234, 3) := zd_662.2.2.2.2.2.2.2
theorem zd_663 : (decode cX12_wrongs 79 = .ok (.if_icmp .ge 20, 3)) ∧ (decode cX12_wrongs 82 = .ok (.aload_n 0, 1)) ∧ (decode cX12_wrongs 83 = .ok (.iload_n 1, 1)) ∧ (decode cX12_wrongs 84 = .ok (.putfield 228, 3)) ∧ (decode cX12_wrongs 87 = .ok (.aload_n 0, 1)) ∧ (decode cX12_wrongs 88 = .ok (.iload 4, 2)) ∧ (decode cX12_wrongs 90 = .ok (.putfield 231, 3)) ∧ (decode cX12_wrongs 93 = .ok (.aload_n 0, 1)) := by decide +kernel
theorem dX12_wrongs_79 : decode cX12_wrongs 79 = .ok (.if_icmp .ge 20, 3) := zd_663.1
theorem dX12_wrongs_82 : decode cX12_wrongs 82 = .ok (.aload_n 0, 1) := zd_663.2.1
theorem dX12_wrongs_83 : decode cX12_wrongs 83 = .ok (.iload_n 1, 1) := zd_663.2.2.1
theorem dX12_wrongs_84 : decode cX12_wrongs 84 = .ok (.putfield 228, 3) := zd_663.2.2.2.1
theorem dX12_wrongs_87 : decode cX12_wrongs 87 = .ok (.aload_n 0, 1) := zd_663.2.2.2.2.1
theorem dX12_wrongs_88 : decode cX12_wrongs 88 = .ok (.iload 4, 2) := zd_663.2.2.2.2.2.1
theorem dX12_wrongs_90 : decode cX12_wrongs 90 = .ok (.putfield 231, 3) := zd_663.2.2.2.2.2.2.1
theorem dX12_wrongs_93 : decode cX12_wrongs 93 = .ok (.aload_n 0, 1) := zd_663.2.2.2.2.2.2.2
theorem zd_664 : (decode cX12_wrongs 94 = .ok (.iload 5, 2)) ∧ (decode cX12_wrongs 96 = .ok (.putfield 234, 3)) ∧ (decode cX12_wrongs 99 = .ok (.return_, 1)) := by decide +kernel
theorem dX12_wrongs_94 : decode cX12_wrongs 94 = .ok (.iload 5, 2) := zd_664.1
theorem dX12_wrongs_96 : decode cX12_wrongs 96 = .ok (.putfield 234, 3) := zd_664.2.1
theorem dX12_wrongs_99 : decode cX12_wrongs 99 = .ok (.return_, 1) := zd_664.2.2
theorem zd_665 : (decode cX12_isThing 0 = .ok (.iload_n 1, 1)) ∧ (decode cX12_isThing 1 = .ok (.ifCond .lt 13, 3)) ∧ (decode cX12_isThing 4 = .ok (.iload_n 1, 1)) ∧ (decode cX12_isThing 5 = .ok (.bipush 100, 2)) ∧ (decode cX12_isThing 7 = .ok (.if_icmp .eq 7, 3)) ∧ (decode cX12_isThing 10 = .ok (.iconst 1, 1)) ∧ (decode cX12_isThing 11 = .ok (.goto 4, 3)) ∧ (decode cX12_isThing 14 = .ok (.iconst 0, 1)) := by decide +kernel
theorem dX12_isThing_0 : decode cX12_isThing 0 = .ok (.iload_n 1, 1) := zd_665.1
theorem dX12_isThing_1 : decode cX12_isThing 1 = .ok (.ifCond .lt 13, 3) := zd_665.2.1
theorem dX12_isThing_4 : decode cX12_isThing 4 = .ok (.iload_n 1, 1) := zd_665.2.2.1
theorem dX12_isThing_5 : decode cX12_isThing 5 = .ok (.bipush 100, 2) := zd_665.2.2.2.1
theorem dX12_isThing_7 : decode cX12_isThing 7 = .ok (.if_icmp .eq 7, 3) := zd_665.2.2.2.2.1
theorem dX12_isThing_10 : decode cX12_isThing 10 = .ok (.iconst 1, 1) := zd_665.2.2.2.2.2.1
theorem dX12_isThing_11 : decode cX12_isThing 11 = .ok (.goto 4, 3) := zd_665.2.2.2.2.2.2.1
theorem dX12_isThing_14 : decode cX12_isThing 14 = .ok (.iconst 0, 1) := zd_665.2.2.2.2.2.2.2
theorem dX12_isThing_15 : decode cX12_isThing 15 = .ok (.ireturn, 1) := by decide +kernel
theorem zd_666 : (decode cX12_beside 0 = .ok (.aload_n 0, 1)) ∧ (decode cX12_beside 1 = .ok (.iload_n 1, 1)) ∧ (decode cX12_beside 2 = .ok (.invokevirtual 237, 3)) ∧ (decode cX12_beside 5 = .ok (.ifCond .eq 16, 3)) ∧ (decode cX12_beside 8 = .ok (.aload_n 0, 1)) ∧ (decode cX12_beside 9 = .ok (.iload_n 2, 1)) ∧ (decode cX12_beside 10 = .ok (.invokevirtual 237, 3)) ∧ (decode cX12_beside 13 = .ok (.ifCond .eq 8, 3)) := by decide +kernel
theorem dX12_beside_0 : decode cX12_beside 0 = .ok (.aload_n 0, 1) := zd_666.1
theorem dX12_beside_1 : decode cX12_beside 1 = .ok (.iload_n 1, 1) := zd_666.2.1
theorem dX12_beside_2 : decode cX12_beside 2 = .ok (.invokevirtual 237, 3) := zd_666.2.2.1
theorem dX12_beside_5 : decode cX12_beside 5 = .ok (.ifCond .eq 16, 3) := zd_666.2.2.2.1
theorem dX12_beside_8 : decode cX12_beside 8 = .ok (.aload_n 0, 1) := zd_666.2.2.2.2.1
theorem dX12_beside_9 : decode cX12_beside 9 = .ok (.iload_n 2, 1) := zd_666.2.2.2.2.2.1
theorem dX12_beside_10 : decode cX12_beside 10 = .ok (.invokevirtual 237, 3) := zd_666.2.2.2.2.2.2.1
theorem dX12_beside_13 : decode cX12_beside 13 = .ok (.ifCond .eq 8, 3) := zd_666.2.2.2.2.2.2.2
theorem zd_667 : (decode cX12_beside 16 = .ok (.iload_n 1, 1)) ∧ (decode cX12_beside 17 = .ok (.iload_n 2, 1)) ∧ (decode cX12_beside 18 = .ok (.if_icmp .ne 4, 3)) ∧ (decode cX12_beside 21 = .ok (.return_, 1)) ∧ (decode cX12_beside 22 = .ok (.aload_n 0, 1)) ∧ (decode cX12_beside 23 = .ok (.getfield 19, 3)) ∧ (decode cX12_beside 26 = .ok (.iload_n 1, 1)) ∧ (decode cX12_beside 27 = .ok (.iaload, 1)) := by decide +kernel
theorem dX12_beside_16 : decode cX12_beside 16 = .ok (.iload_n 1, 1) := zd_667.1
theorem dX12_beside_17 : decode cX12_beside 17 = .ok (.iload_n 2, 1) := zd_667.2.1
theorem dX12_beside_18 : decode cX12_beside 18 = .ok (.if_icmp .ne 4, 3) := zd_667.2.2.1
theorem dX12_beside_21 : decode cX12_beside 21 = .ok (.return_, 1) := zd_667.2.2.2.1
theorem dX12_beside_22 : decode cX12_beside 22 = .ok (.aload_n 0, 1) := zd_667.2.2.2.2.1
theorem dX12_beside_23 : decode cX12_beside 23 = .ok (.getfield 19, 3) := zd_667.2.2.2.2.2.1
theorem dX12_beside_26 : decode cX12_beside 26 = .ok (.iload_n 1, 1) := zd_667.2.2.2.2.2.2.1
theorem dX12_beside_27 : decode cX12_beside 27 = .ok (.iaload, 1) := zd_667.2.2.2.2.2.2.2
theorem zd_668 : (decode cX12_beside 28 = .ok (.iconst 3, 1)) ∧ (decode cX12_beside 29 = .ok (.if_icmp .ne 44, 3)) ∧ (decode cX12_beside 32 = .ok (.aload_n 0, 1)) ∧ (decode cX12_beside 33 = .ok (.getfield 19, 3)) ∧ (decode cX12_beside 36 = .ok (.iload_n 2, 1)) ∧ (decode cX12_beside 37 = .ok (.iaload, 1)) ∧ (decode cX12_beside 38 = .ok (.iconst 3, 1)) ∧ (decode cX12_beside 39 = .ok (.if_icmp .ne 34, 3)) := by decide +kernel
theorem dX12_beside_28 : decode cX12_beside 28 = .ok (.iconst 3, 1) := zd_668.1
theorem dX12_beside_29 : decode cX12_beside 29 = .ok (.if_icmp .ne 44, 3) := zd_668.2.1
theorem dX12_beside_32 : decode cX12_beside 32 = .ok (.aload_n 0, 1) := zd_668.2.2.1
theorem dX12_beside_33 : decode cX12_beside 33 = .ok (.getfield 19, 3) := zd_668.2.2.2.1
theorem dX12_beside_36 : decode cX12_beside 36 = .ok (.iload_n 2, 1) := zd_668.2.2.2.2.1
theorem dX12_beside_37 : decode cX12_beside 37 = .ok (.iaload, 1) := zd_668.2.2.2.2.2.1
theorem dX12_beside_38 : decode cX12_beside 38 = .ok (.iconst 3, 1) := zd_668.2.2.2.2.2.2.1
theorem dX12_beside_39 : decode cX12_beside 39 = .ok (.if_icmp .ne 34, 3) := zd_668.2.2.2.2.2.2.2
theorem zd_669 : (decode cX12_beside 42 = .ok (.aload_n 0, 1)) ∧ (decode cX12_beside 43 = .ok (.getfield 67, 3)) ∧ (decode cX12_beside 46 = .ok (.bipush 10, 2)) ∧ (decode cX12_beside 48 = .ok (.aload_n 0, 1)) ∧ (decode cX12_beside 49 = .ok (.getfield 37, 3)) ∧ (decode cX12_beside 52 = .ok (.iload_n 1, 1)) ∧ (decode cX12_beside 53 = .ok (.iaload, 1)) ∧ (decode cX12_beside 54 = .ok (.imul, 1)) := by decide +kernel
theorem dX12_beside_42 : decode cX12_beside 42 = .ok (.aload_n 0, 1) := zd_669.1
theorem dX12_beside_43 : decode cX12_beside 43 = .ok (.getfield 67, 3) := zd_669.2.1
theorem dX12_beside_46 : decode cX12_beside 46 = .ok (.bipush 10, 2) := zd_669.2.2.1
theorem dX12_beside_48 : decode cX12_beside 48 = .ok (.aload_n 0, 1) := zd_669.2.2.2.1
theorem dX12_beside_49 : decode cX12_beside 49 = .ok (.getfield 37, 3) := zd_669.2.2.2.2.1
theorem dX12_beside_52 : decode cX12_beside 52 = .ok (.iload_n 1, 1) := zd_669.2.2.2.2.2.1
theorem dX12_beside_53 : decode cX12_beside 53 = .ok (.iaload, 1) := zd_669.2.2.2.2.2.2.1
theorem dX12_beside_54 : decode cX12_beside 54 = .ok (.imul, 1) := zd_669.2.2.2.2.2.2.2
theorem zd_670 : (decode cX12_beside 55 = .ok (.aload_n 0, 1)) ∧ (decode cX12_beside 56 = .ok (.getfield 37, 3)) ∧ (decode cX12_beside 59 = .ok (.iload_n 2, 1)) ∧ (decode cX12_beside 60 = .ok (.iaload, 1)) ∧ (decode cX12_beside 61 = .ok (.iadd, 1)) ∧ (decode cX12_beside 62 = .ok (.baload, 1)) ∧ (decode cX12_beside 63 = .ok (.ifCond .eq 10, 3)) ∧ (decode cX12_beside 66 = .ok (.aload_n 0, 1)) := by decide +kernel
theorem dX12_beside_55 : decode cX12_beside 55 = .ok (.aload_n 0, 1) := zd_670.1
theorem dX12_beside_56 : decode cX12_beside 56 = .ok (.getfield 37, 3) := zd_670.2.1
theorem dX12_beside_59 : decode cX12_beside 59 = .ok (.iload_n 2, 1) := zd_670.2.2.1
theorem dX12_beside_60 : decode cX12_beside 60 = .ok (.iaload, 1) := zd_670.2.2.2.1
theorem dX12_beside_61 : decode cX12_beside 61 = .ok (.iadd, 1) := zd_670.2.2.2.2.1
theorem dX12_beside_62 : decode cX12_beside 62 = .ok (.baload, 1) := zd_670.2.2.2.2.2.1
theorem dX12_beside_63 : decode cX12_beside 63 = .ok (.ifCond .eq 10, 3) := zd_670.2.2.2.2.2.2.1
theorem dX12_beside_66 : decode cX12_beside 66 = .ok (.aload_n 0, 1) := zd_670.2.2.2.2.2.2.2
theorem zd_671 : (decode cX12_beside 67 = .ok (.iconst 1, 1)) ∧ (decode cX12_beside 68 = .ok (.iload_n 1, 1)) ∧ (decode cX12_beside 69 = .ok (.iload_n 2, 1)) ∧ (decode cX12_beside 70 = .ok (.invokevirtual 240, 3)) ∧ (decode cX12_beside 73 = .ok (.aload_n 0, 1)) ∧ (decode cX12_beside 74 = .ok (.getfield 19, 3)) ∧ (decode cX12_beside 77 = .ok (.iload_n 1, 1)) ∧ (decode cX12_beside 78 = .ok (.iaload, 1)) := by decide +kernel
theorem dX12_beside_67 : decode cX12_beside 67 = .ok (.iconst 1, 1) := zd_671.1
theorem dX12_beside_68 : decode cX12_beside 68 = .ok (.iload_n 1, 1) := zd_671.2.1
theorem dX12_beside_69 : decode cX12_beside 69 = .ok (.iload_n 2, 1) := zd_671.2.2.1
theorem dX12_beside_70 : decode cX12_beside 70 = .ok (.invokevirtual 240, 3) := zd_671.2.2.2.1
theorem dX12_beside_73 : decode cX12_beside 73 = .ok (.aload_n 0, 1) := zd_671.2.2.2.2.1
theorem dX12_beside_74 : decode cX12_beside 74 = .ok (.getfield 19, 3) := zd_671.2.2.2.2.2.1
theorem dX12_beside_77 : decode cX12_beside 77 = .ok (.iload_n 1, 1) := zd_671.2.2.2.2.2.2.1
theorem dX12_beside_78 : decode cX12_beside 78 = .ok (.iaload, 1) := zd_671.2.2.2.2.2.2.2
theorem zd_672 : (decode cX12_beside 79 = .ok (.iconst 3, 1)) ∧ (decode cX12_beside 80 = .ok (.if_icmp .ne 31, 3)) ∧ (decode cX12_beside 83 = .ok (.aload_n 0, 1)) ∧ (decode cX12_beside 84 = .ok (.getfield 19, 3)) ∧ (decode cX12_beside 87 = .ok (.iload_n 2, 1)) ∧ (decode cX12_beside 88 = .ok (.iaload, 1)) ∧ (decode cX12_beside 89 = .ok (.ifCond .ne 22, 3)) ∧ (decode cX12_beside 92 = .ok (.aload_n 0, 1)) := by decide +kernel
theorem dX12_beside_79 : decode cX12_beside 79 = .ok (.iconst 3, 1) := zd_672.1
theorem dX12_beside_80 : decode cX12_beside 80 = .ok (.if_icmp .ne 31, 3) := zd_672.2.1
theorem dX12_beside_83 : decode cX12_beside 83 = .ok (.aload_n 0, 1) := zd_672.2.2.1
theorem dX12_beside_84 : decode cX12_beside 84 = .ok (.getfield 19, 3) := zd_672.2.2.2.1
theorem dX12_beside_87 : decode cX12_beside 87 = .ok (.iload_n 2, 1) := zd_672.2.2.2.2.1
theorem dX12_beside_88 : decode cX12_beside 88 = .ok (.iaload, 1) := zd_672.2.2.2.2.2.1
theorem dX12_beside_89 : decode cX12_beside 89 = .ok (.ifCond .ne 22, 3) := zd_672.2.2.2.2.2.2.1
theorem dX12_beside_92 : decode cX12_beside 92 = .ok (.aload_n 0, 1) := zd_672.2.2.2.2.2.2.2
theorem zd_673 : (decode cX12_beside 93 = .ok (.getfield 71, 3)) ∧ (decode cX12_beside 96 = .ok (.bipush 10, 2)) ∧ (decode cX12_beside 98 = .ok (.iload_n 2, 1)) ∧ (decode cX12_beside 99 = .ok (.imul, 1)) ∧ (decode cX12_beside 100 = .ok (.aload_n 0, 1)) ∧ (decode cX12_beside 101 = .ok (.getfield 37, 3)) ∧ (decode cX12_beside 104 = .ok (.iload_n 1, 1)) ∧ (decode cX12_beside 105 = .ok (.iaload, 1)) := by decide +kernel
theorem dX12_beside_93 : decode cX12_beside 93 = .ok (.getfield 71, 3) := zd_673.1
theorem dX12_beside_96 : decode cX12_beside 96 = .ok (.bipush 10, 2) := zd_673.2.1
theorem dX12_beside_98 : decode cX12_beside 98 = .ok (.iload_n 2, 1) := zd_673.2.2.1
theorem dX12_beside_99 : decode cX12_beside 99 = .ok (.imul, 1) := zd_673.2.2.2.1
theorem dX12_beside_100 : decode cX12_beside 100 = .ok (.aload_n 0, 1) := zd_673.2.2.2.2.1
theorem dX12_beside_101 : decode cX12_beside 101 = .ok (.getfield 37, 3) := zd_673.2.2.2.2.2.1
theorem dX12_beside_104 : decode cX12_beside 104 = .ok (.iload_n 1, 1) := zd_673.2.2.2.2.2.2.1
theorem dX12_beside_105 : decode cX12_beside 105 = .ok (.iaload, 1) := zd_673.2.2.2.2.2.2.2
theorem zd_674 : (decode cX12_beside 106 = .ok (.iadd, 1)) ∧ (decode cX12_beside 107 = .ok (.baload, 1)) ∧ (decode cX12_beside 108 = .ok (.ifCond .ne 41, 3)) ∧ (decode cX12_beside 111 = .ok (.aload_n 0, 1)) ∧ (decode cX12_beside 112 = .ok (.getfield 19, 3)) ∧ (decode cX12_beside 115 = .ok (.iload_n 2, 1)) ∧ (decode cX12_beside 116 = .ok (.iaload, 1)) ∧ (decode cX12_beside 117 = .ok (.iconst 3, 1)) := by decide +kernel
theorem dX12_beside_106 : decode cX12_beside 106 = .ok (.iadd, 1) := zd_674.1
theorem dX12_beside_107 : decode cX12_beside 107 = .ok (.baload, 1) := zd_674.2.1
theorem dX12_beside_108 : decode cX12_beside 108 = .ok (.ifCond .ne 41, 3) := zd_674.2.2.1
theorem dX12_beside_111 : decode cX12_beside 111 = .ok (.aload_n 0, 1) := zd_674.2.2.2.1
theorem dX12_beside_112 : decode cX12_beside 112 = .ok (.getfield 19, 3) := zd_674.2.2.2.2.1
theorem dX12_beside_115 : decode cX12_beside 115 = .ok (.iload_n 2, 1) := zd_674.2.2.2.2.2.1
theorem dX12_beside_116 : decode cX12_beside 116 = .ok (.iaload, 1) := zd_674.2.2.2.2.2.2.1
theorem dX12_beside_117 : decode cX12_beside 117 = .ok (.iconst 3, 1) := zd_674.2.2.2.2.2.2.2
theorem zd_675 : (decode cX12_beside 118 = .ok (.if_icmp .ne 38, 3)) ∧ (decode cX12_beside 121 = .ok (.aload_n 0, 1)) ∧ (decode cX12_beside 122 = .ok (.getfield 19, 3)) ∧ (decode cX12_beside 125 = .ok (.iload_n 1, 1)) ∧ (decode cX12_beside 126 = .ok (.iaload, 1)) ∧ (decode cX12_beside 127 = .ok (.ifCond .ne 29, 3)) ∧ (decode cX12_beside 130 = .ok (.aload_n 0, 1)) ∧ (decode cX12_beside 131 = .ok (.getfield 71, 3)) := by decide +kernel
theorem dX12_beside_118 : decode cX12_beside 118 = .ok (.if_icmp .ne 38, 3) := zd_675.1
theorem dX12_beside_121 : decode cX12_beside 121 = .ok (.aload_n 0, 1) := zd_675.2.1
theorem dX12_beside_122 : decode cX12_beside 122 = .ok (.getfield 19, 3) := zd_675.2.2.1
theorem dX12_beside_125 : decode cX12_beside 125 = .ok (.iload_n 1, 1) := zd_675.2.2.2.1
theorem dX12_beside_126 : decode cX12_beside 126 = .ok (.iaload, 1) := zd_675.2.2.2.2.1
theorem dX12_beside_127 : decode cX12_beside 127 = .ok (.ifCond .ne 29, 3) := zd_675.2.2.2.2.2.1
theorem dX12_beside_130 : decode cX12_beside 130 = .ok (.aload_n 0, 1) := zd_675.2.2.2.2.2.2.1
theorem dX12_beside_131 : decode cX12_beside 131 = .ok (.getfield 71, 3) := zd_675.2.2.2.2.2.2.2
theorem zd_676 : (decode cX12_beside 134 = .ok (.bipush 10, 2)) ∧ (decode cX12_beside 136 = .ok (.iload_n 1, 1)) ∧ (decode cX12_beside 137 = .ok (.imul, 1)) ∧ (decode cX12_beside 138 = .ok (.aload_n 0, 1)) ∧ (decode cX12_beside 139 = .ok (.getfield 37, 3)) ∧ (decode cX12_beside 142 = .ok (.iload_n 2, 1)) ∧ (decode cX12_beside 143 = .ok (.iaload, 1)) ∧ (decode cX12_beside 144 = .ok (.iadd, 1)) := by decide +kernel
theorem dX12_beside_134 : decode cX12_beside 134 = .ok (.bipush 10, 2) := zd_676.1
theorem dX12_beside_136 : decode cX12_beside 136 = .ok (.iload_n 1, 1) := zd_676.2.1
theorem dX12_beside_137 : decode cX12_beside 137 = .ok (.imul, 1) := zd_676.2.2.1
theorem dX12_beside_138 : decode cX12_beside 138 = .ok (.aload_n 0, 1) := zd_676.2.2.2.1
theorem dX12_beside_139 : decode cX12_beside 139 = .ok (.getfield 37, 3) := zd_676.2.2.2.2.1
theorem dX12_beside_142 : decode cX12_beside 142 = .ok (.iload_n 2, 1) := zd_676.2.2.2.2.2.1
theorem dX12_beside_143 : decode cX12_beside 143 = .ok (.iaload, 1) := zd_676.2.2.2.2.2.2.1
theorem dX12_beside_144 : decode cX12_beside 144 = .ok (.iadd, 1) := zd_676.2.2.2.2.2.2.2
theorem zd_677 : (decode cX12_beside 145 = .ok (.baload, 1)) ∧ (decode cX12_beside 146 = .ok (.ifCond .eq 10, 3)) ∧ (decode cX12_beside 149 = .ok (.aload_n 0, 1)) ∧ (decode cX12_beside 150 = .ok (.iconst 2, 1)) ∧ (decode cX12_beside 151 = .ok (.iload_n 1, 1)) ∧ (decode cX12_beside 152 = .ok (.iload_n 2, 1)) ∧ (decode cX12_beside 153 = .ok (.invokevirtual 240, 3)) ∧ (decode cX12_beside 156 = .ok (.iload_n 3, 1)) := by decide +kernel
theorem dX12_beside_145 : decode cX12_beside 145 = .ok (.baload, 1) := zd_677.1
theorem dX12_beside_146 : decode cX12_beside 146 = .ok (.ifCond .eq 10, 3) := zd_677.2.1
theorem dX12_beside_149 : decode cX12_beside 149 = .ok (.aload_n 0, 1) := zd_677.2.2.1
theorem dX12_beside_150 : decode cX12_beside 150 = .ok (.iconst 2, 1) := zd_677.2.2.2.1
theorem dX12_beside_151 : decode cX12_beside 151 = .ok (.iload_n 1, 1) := zd_677.2.2.2.2.1
theorem dX12_beside_152 : decode cX12_beside 152 = .ok (.iload_n 2, 1) := zd_677.2.2.2.2.2.1
theorem dX12_beside_153 : decode cX12_beside 153 = .ok (.invokevirtual 240, 3) := zd_677.2.2.2.2.2.2.1
theorem dX12_beside_156 : decode cX12_beside 156 = .ok (.iload_n 3, 1) := zd_677.2.2.2.2.2.2.2
theorem zd_678 : (decode cX12_beside 157 = .ok (.ifCond .eq 30, 3)) ∧ (decode cX12_beside 160 = .ok (.aload_n 0, 1)) ∧ (decode cX12_beside 161 = .ok (.getfield 19, 3)) ∧ (decode cX12_beside 164 = .ok (.iload_n 1, 1)) ∧ (decode cX12_beside 165 = .ok (.iaload, 1)) ∧ (decode cX12_beside 166 = .ok (.iconst 1, 1)) ∧ (decode cX12_beside 167 = .ok (.if_icmp .ne 20, 3)) ∧ (decode cX12_beside 170 = .ok (.aload_n 0, 1)) := by decide +kernel
theorem dX12_beside_157 : decode cX12_beside 157 = .ok (.ifCond .eq 30, 3) := zd_678.1
theorem dX12_beside_160 : decode cX12_beside 160 = .ok (.aload_n 0, 1) := zd_678.2.1
theorem dX12_beside_161 : decode cX12_beside 161 = .ok (.getfield 19, 3) := zd_678.2.2.1
theorem dX12_beside_164 : decode cX12_beside 164 = .ok (.iload_n 1, 1) := zd_678.2.2.2.1
theorem dX12_beside_165 : decode cX12_beside 165 = .ok (.iaload, 1) := zd_678.2.2.2.2.1
theorem dX12_beside_166 : decode cX12_beside 166 = .ok (.iconst 1, 1) := zd_678.2.2.2.2.2.1
theorem dX12_beside_167 : decode cX12_beside 167 = .ok (.if_icmp .ne 20, 3) := zd_678.2.2.2.2.2.2.1
theorem dX12_beside_170 : decode cX12_beside 170 = .ok (.aload_n 0, 1) := zd_678.2.2.2.2.2.2.2
theorem zd_679 : (decode cX12_beside 171 = .ok (.getfield 19, 3)) ∧ (decode cX12_beside 174 = .ok (.iload_n 2, 1)) ∧ (decode cX12_beside 175 = .ok (.iaload, 1)) ∧ (decode cX12_beside 176 = .ok (.iconst 1, 1)) ∧ (decode cX12_beside 177 = .ok (.if_icmp .ne 10, 3)) ∧ (decode cX12_beside 180 = .ok (.aload_n 0, 1)) ∧ (decode cX12_beside 181 = .ok (.iconst 3, 1)) ∧ (decode cX12_beside 182 = .ok (.iload_n 1, 1)) := by decide +kernel
theorem dX12_beside_171 : decode cX12_beside 171 = .ok (.getfield 19, 3) := zd_679.1
theorem dX12_beside_174 : decode cX12_beside 174 = .ok (.iload_n 2, 1) := zd_679.2.1
theorem dX12_beside_175 : decode cX12_beside 175 = .ok (.iaload, 1) := zd_679.2.2.1
theorem dX12_beside_176 : decode cX12_beside 176 = .ok (.iconst 1, 1) := zd_679.2.2.2.1
theorem dX12_beside_177 : decode cX12_beside 177 = .ok (.if_icmp .ne 10, 3) := zd_679.2.2.2.2.1
theorem dX12_beside_180 : decode cX12_beside 180 = .ok (.aload_n 0, 1) := zd_679.2.2.2.2.2.1
theorem dX12_beside_181 : decode cX12_beside 181 = .ok (.iconst 3, 1) := zd_679.2.2.2.2.2.2.1
theorem dX12_beside_182 : decode cX12_beside 182 = .ok (.iload_n 1, 1) := zd_679.2.2.2.2.2.2.2
theorem zd_680 : (decode cX12_beside 183 = .ok (.iload_n 2, 1)) ∧ (decode cX12_beside 184 = .ok (.invokevirtual 240, 3)) ∧ (decode cX12_beside 187 = .ok (.return_, 1)) := by decide +kernel
theorem dX12_beside_183 : decode cX12_beside 183 = .ok (.iload_n 2, 1) := zd_680.1
theorem dX12_beside_184 : decode cX12_beside 184 = .ok (.invokevirtual 240, 3) := zd_680.2.1
theorem dX12_beside_187 : decode cX12_beside 187 = .ok (.return_, 1) := zd_680.2.2
theorem zd_681 : (decode cX12_standing 0 = .ok (.aload_n 0, 1)) ∧ (decode cX12_standing 1 = .ok (.iload_n 1, 1)) ∧ (decode cX12_standing 2 = .ok (.aload_n 0, 1)) ∧ (decode cX12_standing 3 = .ok (.getfield 74, 3)) ∧ (decode cX12_standing 6 = .ok (.iload_n 1, 1)) ∧ (decode cX12_standing 7 = .ok (.iaload, 1)) ∧ (decode cX12_standing 8 = .ok (.invokevirtual 199, 3)) ∧ (decode cX12_standing 11 = .ok (.ireturn, 1)) := by decide +kernel
theorem dX12_standing_0 : decode cX12_standing 0 = .ok (.aload_n 0, 1) := zd_681.1
theorem dX12_standing_1 : decode cX12_standing 1 = .ok (.iload_n 1, 1) := zd_681.2.1
theorem dX12_standing_2 : decode cX12_standing 2 = .ok (.aload_n 0, 1) := zd_681.2.2.1
theorem dX12_standing_3 : decode cX12_standing 3 = .ok (.getfield 74, 3) := zd_681.2.2.2.1
theorem dX12_standing_6 : decode cX12_standing 6 = .ok (.iload_n 1, 1) := zd_681.2.2.2.2.1
theorem dX12_standing_7 : decode cX12_standing 7 = .ok (.iaload, 1) := zd_681.2.2.2.2.2.1
theorem dX12_standing_8 : decode cX12_standing 8 = .ok (.invokevirtual 199, 3) := zd_681.2.2.2.2.2.2.1
theorem dX12_standing_11 : decode cX12_standing 11 = .ok (.ireturn, 1) := zd_681.2.2.2.2.2.2.2
theorem zd_682 : (decode cX12_hasStory 0 = .ok (.bipush 6, 2)) ∧ (decode cX12_hasStory 2 = .ok (.iload_n 1, 1)) ∧ (decode cX12_hasStory 3 = .ok (.imul, 1)) ∧ (decode cX12_hasStory 4 = .ok (.istore_n 2, 1)) ∧ (decode cX12_hasStory 5 = .ok (.aload_n 0, 1)) ∧ (decode cX12_hasStory 6 = .ok (.getfield 83, 3)) ∧ (decode cX12_hasStory 9 = .ok (.iload_n 2, 1)) ∧ (decode cX12_hasStory 10 = .ok (.iaload, 1)) := by decide +kernel
theorem dX12_hasStory_0 : decode cX12_hasStory 0 = .ok (.bipush 6, 2) := zd_682.1
theorem dX12_hasStory_2 : decode cX12_hasStory 2 = .ok (.iload_n 1, 1) := zd_682.2.1
theorem dX12_hasStory_3 : decode cX12_hasStory 3 = .ok (.imul, 1) := zd_682.2.2.1
theorem dX12_hasStory_4 : decode cX12_hasStory 4 = .ok (.istore_n 2, 1) := zd_682.2.2.2.1
theorem dX12_hasStory_5 : decode cX12_hasStory 5 = .ok (.aload_n 0, 1) := zd_682.2.2.2.2.1
theorem dX12_hasStory_6 : decode cX12_hasStory 6 = .ok (.getfield 83, 3) := zd_682.2.2.2.2.2.1
theorem dX12_hasStory_9 : decode cX12_hasStory 9 = .ok (.iload_n 2, 1) := zd_682.2.2.2.2.2.2.1
theorem dX12_hasStory_10 : decode cX12_hasStory 10 = .ok (.iaload, 1) := zd_682.2.2.2.2.2.2.2
theorem zd_683 : (decode cX12_hasStory 11 = .ok (.aload_n 0, 1)) ∧ (decode cX12_hasStory 12 = .ok (.getfield 89, 3)) ∧ (decode cX12_hasStory 15 = .ok (.iload_n 2, 1)) ∧ (decode cX12_hasStory 16 = .ok (.iaload, 1)) ∧ (decode cX12_hasStory 17 = .ok (.iadd, 1)) ∧ (decode cX12_hasStory 18 = .ok (.istore_n 3, 1)) ∧ (decode cX12_hasStory 19 = .ok (.iconst 0, 1)) ∧ (decode cX12_hasStory 20 = .ok (.istore 4, 2)) := by decide +kernel
theorem dX12_hasStory_11 : decode cX12_hasStory 11 = .ok (.aload_n 0, 1) := zd_683.1
theorem dX12_hasStory_12 : decode cX12_hasStory 12 = .ok (.getfield 89, 3) := zd_683.2.1
theorem dX12_hasStory_15 : decode cX12_hasStory 15 = .ok (.iload_n 2, 1) := zd_683.2.2.1
theorem dX12_hasStory_16 : decode cX12_hasStory 16 = .ok (.iaload, 1) := zd_683.2.2.2.1
theorem dX12_hasStory_17 : decode cX12_hasStory 17 = .ok (.iadd, 1) := zd_683.2.2.2.2.1
theorem dX12_hasStory_18 : decode cX12_hasStory 18 = .ok (.istore_n 3, 1) := zd_683.2.2.2.2.2.1
theorem dX12_hasStory_19 : decode cX12_hasStory 19 = .ok (.iconst 0, 1) := zd_683.2.2.2.2.2.2.1
theorem dX12_hasStory_20 : decode cX12_hasStory 20 = .ok (.istore 4, 2) := zd_683.2.2.2.2.2.2.2
theorem zd_684 : (decode cX12_hasStory 22 = .ok (.aload_n 0, 1)) ∧ (decode cX12_hasStory 23 = .ok (.getfield 80, 3)) ∧ (decode cX12_hasStory 26 = .ok (.iload_n 2, 1)) ∧ (decode cX12_hasStory 27 = .ok (.iaload, 1)) ∧ (decode cX12_hasStory 28 = .ok (.istore 5, 2)) ∧ (decode cX12_hasStory 30 = .ok (.iload 5, 2)) ∧ (decode cX12_hasStory 32 = .ok (.aload_n 0, 1)) ∧ (decode cX12_hasStory 33 = .ok (.getfield 80, 3)) := by decide +kernel
theorem dX12_hasStory_22 : decode cX12_hasStory 22 = .ok (.aload_n 0, 1) := zd_684.1
theorem dX12_hasStory_23 : decode cX12_hasStory 23 = .ok (.getfield 80, 3) := zd_684.2.1
theorem dX12_hasStory_26 : decode cX12_hasStory 26 = .ok (.iload_n 2, 1) := zd_684.2.2.1
theorem dX12_hasStory_27 : decode cX12_hasStory 27 = .ok (.iaload, 1) := zd_684.2.2.2.1
theorem dX12_hasStory_28 : decode cX12_hasStory 28 = .ok (.istore 5, 2) := zd_684.2.2.2.2.1
theorem dX12_hasStory_30 : decode cX12_hasStory 30 = .ok (.iload 5, 2) := zd_684.2.2.2.2.2.1
theorem dX12_hasStory_32 : decode cX12_hasStory 32 = .ok (.aload_n 0, 1) := zd_684.2.2.2.2.2.2.1
theorem dX12_hasStory_33 : decode cX12_hasStory 33 = .ok (.getfield 80, 3) := zd_684.2.2.2.2.2.2.2
theorem zd_685 : (decode cX12_hasStory 36 = .ok (.iload_n 2, 1)) ∧ (decode cX12_hasStory 37 = .ok (.iaload, 1)) ∧ (decode cX12_hasStory 38 = .ok (.aload_n 0, 1)) ∧ (decode cX12_hasStory 39 = .ok (.getfield 86, 3)) ∧ (decode cX12_hasStory 42 = .ok (.iload_n 2, 1)) ∧ (decode cX12_hasStory 43 = .ok (.iaload, 1)) ∧ (decode cX12_hasStory 44 = .ok (.iadd, 1)) ∧ (decode cX12_hasStory 45 = .ok (.if_icmp .ge 63, 3)) := by decide +kernel
theorem dX12_hasStory_36 : decode cX12_hasStory 36 = .ok (.iload_n 2, 1) := zd_685.1
theorem dX12_hasStory_37 : decode cX12_hasStory 37 = .ok (.iaload, 1) := zd_685.2.1
theorem dX12_hasStory_38 : decode cX12_hasStory 38 = .ok (.aload_n 0, 1) := zd_685.2.2.1
theorem dX12_hasStory_39 : decode cX12_hasStory 39 = .ok (.getfield 86, 3) := zd_685.2.2.2.1
theorem dX12_hasStory_42 : decode cX12_hasStory 42 = .ok (.iload_n 2, 1) := zd_685.2.2.2.2.1
theorem dX12_hasStory_43 : decode cX12_hasStory 43 = .ok (.iaload, 1) := zd_685.2.2.2.2.2.1
theorem dX12_hasStory_44 : decode cX12_hasStory 44 = .ok (.iadd, 1) := zd_685.2.2.2.2.2.2.1
theorem dX12_hasStory_45 : decode cX12_hasStory 45 = .ok (.if_icmp .ge 63, 3) := zd_685.2.2.2.2.2.2.2
theorem zd_686 : (decode cX12_hasStory 48 = .ok (.iload 4, 2)) ∧ (decode cX12_hasStory 50 = .ok (.ifCond .ne 45, 3)) ∧ (decode cX12_hasStory 53 = .ok (.aload_n 0, 1)) ∧ (decode cX12_hasStory 54 = .ok (.aload_n 0, 1)) ∧ (decode cX12_hasStory 55 = .ok (.getfield 77, 3)) ∧ (decode cX12_hasStory 58 = .ok (.iload_n 2, 1)) ∧ (decode cX12_hasStory 59 = .ok (.iaload, 1)) ∧ (decode cX12_hasStory 60 = .ok (.iload 5, 2)) := by decide +kernel
theorem dX12_hasStory_48 : decode cX12_hasStory 48 = .ok (.iload 4, 2) := zd_686.1
theorem dX12_hasStory_50 : decode cX12_hasStory 50 = .ok (.ifCond .ne 45, 3) := zd_686.2.1
theorem dX12_hasStory_53 : decode cX12_hasStory 53 = .ok (.aload_n 0, 1) := zd_686.2.2.1
theorem dX12_hasStory_54 : decode cX12_hasStory 54 = .ok (.aload_n 0, 1) := zd_686.2.2.2.1
theorem dX12_hasStory_55 : decode cX12_hasStory 55 = .ok (.getfield 77, 3) := zd_686.2.2.2.2.1
theorem dX12_hasStory_58 : decode cX12_hasStory 58 = .ok (.iload_n 2, 1) := zd_686.2.2.2.2.2.1
theorem dX12_hasStory_59 : decode cX12_hasStory 59 = .ok (.iaload, 1) := zd_686.2.2.2.2.2.2.1
theorem dX12_hasStory_60 : decode cX12_hasStory 60 = .ok (.iload 5, 2) := zd_686.2.2.2.2.2.2.2
theorem zd_687 : (decode cX12_hasStory 62 = .ok (.iload_n 3, 1)) ∧ (decode cX12_hasStory 63 = .ok (.invokevirtual 189, 3)) ∧ (decode cX12_hasStory 66 = .ok (.ifCond .eq 33, 3)) ∧ (decode cX12_hasStory 69 = .ok (.aload_n 0, 1)) ∧ (decode cX12_hasStory 70 = .ok (.getfield 16, 3)) ∧ (decode cX12_hasStory 73 = .ok (.aload_n 0, 1)) ∧ (decode cX12_hasStory 74 = .ok (.getfield 77, 3)) ∧ (decode cX12_hasStory 77 = .ok (.iload_n 2, 1)) := by decide +kernel
theorem dX12_hasStory_62 : decode cX12_hasStory 62 = .ok (.iload_n 3, 1) := zd_687.1
theorem dX12_hasStory_63 : decode cX12_hasStory 63 = .ok (.invokevirtual 189, 3) := zd_687.2.1
theorem dX12_hasStory_66 : decode cX12_hasStory 66 = .ok (.ifCond .eq 33, 3) := zd_687.2.2.1
theorem dX12_hasStory_69 : decode cX12_hasStory 69 = .ok (.aload_n 0, 1) := zd_687.2.2.2.1
theorem dX12_hasStory_70 : decode cX12_hasStory 70 = .ok (.getfield 16, 3) := zd_687.2.2.2.2.1
theorem dX12_hasStory_73 : decode cX12_hasStory 73 = .ok (.aload_n 0, 1) := zd_687.2.2.2.2.2.1
theorem dX12_hasStory_74 : decode cX12_hasStory 74 = .ok (.getfield 77, 3) := zd_687.2.2.2.2.2.2.1
theorem dX12_hasStory_77 : decode cX12_hasStory 77 = .ok (.iload_n 2, 1) := zd_687.2.2.2.2.2.2.2
theorem zd_688 : (decode cX12_hasStory 78 = .ok (.iaload, 1)) ∧ (decode cX12_hasStory 79 = .ok (.iload 5, 2)) ∧ (decode cX12_hasStory 81 = .ok (.iload_n 3, 1)) ∧ (decode cX12_hasStory 82 = .ok (.invokestatic 161, 3)) ∧ (decode cX12_hasStory 85 = .ok (.iaload, 1)) ∧ (decode cX12_hasStory 86 = .ok (.aload_n 0, 1)) ∧ (decode cX12_hasStory 87 = .ok (.getfield 34, 3)) ∧ (decode cX12_hasStory 90 = .ok (.iload_n 1, 1)) := by decide +kernel
theorem dX12_hasStory_78 : decode cX12_hasStory 78 = .ok (.iaload, 1) := zd_688.1
theorem dX12_hasStory_79 : decode cX12_hasStory 79 = .ok (.iload 5, 2) := zd_688.2.1
theorem dX12_hasStory_81 : decode cX12_hasStory 81 = .ok (.iload_n 3, 1) := zd_688.2.2.1
theorem dX12_hasStory_82 : decode cX12_hasStory 82 = .ok (.invokestatic 161, 3) := zd_688.2.2.2.1
theorem dX12_hasStory_85 : decode cX12_hasStory 85 = .ok (.iaload, 1) := zd_688.2.2.2.2.1
theorem dX12_hasStory_86 : decode cX12_hasStory 86 = .ok (.aload_n 0, 1) := zd_688.2.2.2.2.2.1
theorem dX12_hasStory_87 : decode cX12_hasStory 87 = .ok (.getfield 34, 3) := zd_688.2.2.2.2.2.2.1
theorem dX12_hasStory_90 : decode cX12_hasStory 90 = .ok (.iload_n 1, 1) := zd_688.2.2.2.2.2.2.2
theorem zd_689 : (decode cX12_hasStory 91 = .ok (.iaload, 1)) ∧ (decode cX12_hasStory 92 = .ok (.if_icmp .ne 7, 3)) ∧ (decode cX12_hasStory 95 = .ok (.iconst 1, 1)) ∧ (decode cX12_hasStory 96 = .ok (.goto 4, 3)) ∧ (decode cX12_hasStory 99 = .ok (.iconst 0, 1)) ∧ (decode cX12_hasStory 100 = .ok (.istore 4, 2)) ∧ (decode cX12_hasStory 102 = .ok (.iinc 5 1, 3)) ∧ (decode cX12_hasStory 105 = .ok (.goto (-75), 3)) := by decide +kernel
theorem dX12_hasStory_91 : decode cX12_hasStory 91 = .ok (.iaload, 1) := zd_689.1
theorem dX12_hasStory_92 : decode cX12_hasStory 92 = .ok (.if_icmp .ne 7, 3) := zd_689.2.1
theorem dX12_hasStory_95 : decode cX12_hasStory 95 = .ok (.iconst 1, 1) := zd_689.2.2.1
theorem dX12_hasStory_96 : decode cX12_hasStory 96 = .ok (.goto 4, 3) := zd_689.2.2.2.1
theorem dX12_hasStory_99 : decode cX12_hasStory 99 = .ok (.iconst 0, 1) := zd_689.2.2.2.2.1
theorem dX12_hasStory_100 : decode cX12_hasStory 100 = .ok (.istore 4, 2) := zd_689.2.2.2.2.2.1
theorem dX12_hasStory_102 : decode cX12_hasStory 102 = .ok (.iinc 5 1, 3) := zd_689.2.2.2.2.2.2.1
theorem dX12_hasStory_105 : decode cX12_hasStory 105 = .ok (.goto (-75), 3) := zd_689.2.2.2.2.2.2.2
theorem zd_690 : (decode cX12_hasStory 108 = .ok (.iload 4, 2)) ∧ (decode cX12_hasStory 110 = .ok (.ireturn, 1)) := by decide +kernel
theorem dX12_hasStory_108 : decode cX12_hasStory 108 = .ok (.iload 4, 2) := zd_690.1
theorem dX12_hasStory_110 : decode cX12_hasStory 110 = .ok (.ireturn, 1) := zd_690.2
theorem zd_691 : (decode cX12_breaks 0 = .ok (.aload_n 0, 1)) ∧ (decode cX12_breaks 1 = .ok (.iconst 0, 1)) ∧ (decode cX12_breaks 2 = .ok (.putfield 228, 3)) ∧ (decode cX12_breaks 5 = .ok (.aload_n 0, 1)) ∧ (decode cX12_breaks 6 = .ok (.iconst (-1), 1)) ∧ (decode cX12_breaks 7 = .ok (.putfield 231, 3)) ∧ (decode cX12_breaks 10 = .ok (.aload_n 0, 1)) ∧ (decode cX12_breaks 11 = .ok (.iconst (-1), 1)) := by decide +kernel
theorem dX12_breaks_0 : decode cX12_breaks 0 = .ok (.aload_n 0, 1) := zd_691.1
theorem dX12_breaks_1 : decode cX12_breaks 1 = .ok (.iconst 0, 1) := zd_691.2.1
theorem dX12_breaks_2 : decode cX12_breaks 2 = .ok (.putfield 228, 3) := zd_691.2.2.1
theorem dX12_breaks_5 : decode cX12_breaks 5 = .ok (.aload_n 0, 1) := zd_691.2.2.2.1
theorem dX12_breaks_6 : decode cX12_breaks 6 = .ok (.iconst (-1), 1) := zd_691.2.2.2.2.1
theorem dX12_breaks_7 : decode cX12_breaks 7 = .ok (.putfield 231, 3) := zd_691.2.2.2.2.2.1
theorem dX12_breaks_10 : decode cX12_breaks 10 = .ok (.aload_n 0, 1) := zd_691.2.2.2.2.2.2.1
theorem dX12_breaks_11 : decode cX12_breaks 11 = .ok (.iconst (-1), 1) := zd_691.2.2.2.2.2.2.2
theorem zd_692 : (decode cX12_breaks 12 = .ok (.putfield 234, 3)) ∧ (decode cX12_breaks 15 = .ok (.iconst 0, 1)) ∧ (decode cX12_breaks 16 = .ok (.istore_n 2, 1)) ∧ (decode cX12_breaks 17 = .ok (.iload_n 2, 1)) ∧ (decode cX12_breaks 18 = .ok (.bipush 8, 2)) ∧ (decode cX12_breaks 20 = .ok (.if_icmp .ge 109, 3)) ∧ (decode cX12_breaks 23 = .ok (.iconst 0, 1)) ∧ (decode cX12_breaks 24 = .ok (.istore_n 3, 1)) := by decide +kernel
theorem dX12_breaks_12 : decode cX12_breaks 12 = .ok (.putfield 234, 3) := zd_692.1
theorem dX12_breaks_15 : decode cX12_breaks 15 = .ok (.iconst 0, 1) := zd_692.2.1
theorem dX12_breaks_16 : decode cX12_breaks 16 = .ok (.istore_n 2, 1) := zd_692.2.2.1
theorem dX12_breaks_17 : decode cX12_breaks 17 = .ok (.iload_n 2, 1) := zd_692.2.2.2.1
theorem dX12_breaks_18 : decode cX12_breaks 18 = .ok (.bipush 8, 2) := zd_692.2.2.2.2.1
theorem dX12_breaks_20 : decode cX12_breaks 20 = .ok (.if_icmp .ge 109, 3) := zd_692.2.2.2.2.2.1
theorem dX12_breaks_23 : decode cX12_breaks 23 = .ok (.iconst 0, 1) := zd_692.2.2.2.2.2.2.1
theorem dX12_breaks_24 : decode cX12_breaks 24 = .ok (.istore_n 3, 1) := zd_692.2.2.2.2.2.2.2
theorem zd_693 : (decode cX12_breaks 25 = .ok (.iload_n 3, 1)) ∧ (decode cX12_breaks 26 = .ok (.aload_n 0, 1)) ∧ (decode cX12_breaks 27 = .ok (.getfield 7, 3)) ∧ (decode cX12_breaks 30 = .ok (.bipush 8, 2)) ∧ (decode cX12_breaks 32 = .ok (.iload_n 1, 1)) ∧ (decode cX12_breaks 33 = .ok (.imul, 1)) ∧ (decode cX12_breaks 34 = .ok (.iload_n 2, 1)) ∧ (decode cX12_breaks 35 = .ok (.iadd, 1)) := by decide +kernel
theorem dX12_breaks_25 : decode cX12_breaks 25 = .ok (.iload_n 3, 1) := zd_693.1
theorem dX12_breaks_26 : decode cX12_breaks 26 = .ok (.aload_n 0, 1) := zd_693.2.1
theorem dX12_breaks_27 : decode cX12_breaks 27 = .ok (.getfield 7, 3) := zd_693.2.2.1
theorem dX12_breaks_30 : decode cX12_breaks 30 = .ok (.bipush 8, 2) := zd_693.2.2.2.1
theorem dX12_breaks_32 : decode cX12_breaks 32 = .ok (.iload_n 1, 1) := zd_693.2.2.2.2.1
theorem dX12_breaks_33 : decode cX12_breaks 33 = .ok (.imul, 1) := zd_693.2.2.2.2.2.1
theorem dX12_breaks_34 : decode cX12_breaks 34 = .ok (.iload_n 2, 1) := zd_693.2.2.2.2.2.2.1
theorem dX12_breaks_35 : decode cX12_breaks 35 = .ok (.iadd, 1) := zd_693.2.2.2.2.2.2.2
theorem zd_694 : (decode cX12_breaks 36 = .ok (.iaload, 1)) ∧ (decode cX12_breaks 37 = .ok (.if_icmp .ge 86, 3)) ∧ (decode cX12_breaks 40 = .ok (.aload_n 0, 1)) ∧ (decode cX12_breaks 41 = .ok (.getfield 16, 3)) ∧ (decode cX12_breaks 44 = .ok (.iload_n 1, 1)) ∧ (decode cX12_breaks 45 = .ok (.iload_n 2, 1)) ∧ (decode cX12_breaks 46 = .ok (.iload_n 3, 1)) ∧ (decode cX12_breaks 47 = .ok (.invokestatic 161, 3)) := by decide +kernel
theorem dX12_breaks_36 : decode cX12_breaks 36 = .ok (.iaload, 1) := zd_694.1
theorem dX12_breaks_37 : decode cX12_breaks 37 = .ok (.if_icmp .ge 86, 3) := zd_694.2.1
theorem dX12_breaks_40 : decode cX12_breaks 40 = .ok (.aload_n 0, 1) := zd_694.2.2.1
theorem dX12_breaks_41 : decode cX12_breaks 41 = .ok (.getfield 16, 3) := zd_694.2.2.2.1
theorem dX12_breaks_44 : decode cX12_breaks 44 = .ok (.iload_n 1, 1) := zd_694.2.2.2.2.1
theorem dX12_breaks_45 : decode cX12_breaks 45 = .ok (.iload_n 2, 1) := zd_694.2.2.2.2.2.1
theorem dX12_breaks_46 : decode cX12_breaks 46 = .ok (.iload_n 3, 1) := zd_694.2.2.2.2.2.2.1
theorem dX12_breaks_47 : decode cX12_breaks 47 = .ok (.invokestatic 161, 3) := zd_694.2.2.2.2.2.2.2
theorem zd_695 : (decode cX12_breaks 50 = .ok (.iaload, 1)) ∧ (decode cX12_breaks 51 = .ok (.istore 4, 2)) ∧ (decode cX12_breaks 53 = .ok (.aload_n 0, 1)) ∧ (decode cX12_breaks 54 = .ok (.iload_n 1, 1)) ∧ (decode cX12_breaks 55 = .ok (.iload_n 2, 1)) ∧ (decode cX12_breaks 56 = .ok (.iload_n 3, 1)) ∧ (decode cX12_breaks 57 = .ok (.iconst 1, 1)) ∧ (decode cX12_breaks 58 = .ok (.iadd, 1)) := by decide +kernel
theorem dX12_breaks_50 : decode cX12_breaks 50 = .ok (.iaload, 1) := zd_695.1
theorem dX12_breaks_51 : decode cX12_breaks 51 = .ok (.istore 4, 2) := zd_695.2.1
theorem dX12_breaks_53 : decode cX12_breaks 53 = .ok (.aload_n 0, 1) := zd_695.2.2.1
theorem dX12_breaks_54 : decode cX12_breaks 54 = .ok (.iload_n 1, 1) := zd_695.2.2.2.1
theorem dX12_breaks_55 : decode cX12_breaks 55 = .ok (.iload_n 2, 1) := zd_695.2.2.2.2.1
theorem dX12_breaks_56 : decode cX12_breaks 56 = .ok (.iload_n 3, 1) := zd_695.2.2.2.2.2.1
theorem dX12_breaks_57 : decode cX12_breaks 57 = .ok (.iconst 1, 1) := zd_695.2.2.2.2.2.2.1
theorem dX12_breaks_58 : decode cX12_breaks 58 = .ok (.iadd, 1) := zd_695.2.2.2.2.2.2.2
theorem zd_696 : (decode cX12_breaks 59 = .ok (.invokevirtual 189, 3)) ∧ (decode cX12_breaks 62 = .ok (.ifCond .eq 23, 3)) ∧ (decode cX12_breaks 65 = .ok (.aload_n 0, 1)) ∧ (decode cX12_breaks 66 = .ok (.iload 4, 2)) ∧ (decode cX12_breaks 68 = .ok (.aload_n 0, 1)) ∧ (decode cX12_breaks 69 = .ok (.getfield 16, 3)) ∧ (decode cX12_breaks 72 = .ok (.iload_n 1, 1)) ∧ (decode cX12_breaks 73 = .ok (.iload_n 2, 1)) := by decide +kernel
theorem dX12_breaks_59 : decode cX12_breaks 59 = .ok (.invokevirtual 189, 3) := zd_696.1
theorem dX12_breaks_62 : decode cX12_breaks 62 = .ok (.ifCond .eq 23, 3) := zd_696.2.1
theorem dX12_breaks_65 : decode cX12_breaks 65 = .ok (.aload_n 0, 1) := zd_696.2.2.1
theorem dX12_breaks_66 : decode cX12_breaks 66 = .ok (.iload 4, 2) := zd_696.2.2.2.1
theorem dX12_breaks_68 : decode cX12_breaks 68 = .ok (.aload_n 0, 1) := zd_696.2.2.2.2.1
theorem dX12_breaks_69 : decode cX12_breaks 69 = .ok (.getfield 16, 3) := zd_696.2.2.2.2.2.1
theorem dX12_breaks_72 : decode cX12_breaks 72 = .ok (.iload_n 1, 1) := zd_696.2.2.2.2.2.2.1
theorem dX12_breaks_73 : decode cX12_breaks 73 = .ok (.iload_n 2, 1) := zd_696.2.2.2.2.2.2.2
theorem zd_697 : (decode cX12_breaks 74 = .ok (.iload_n 3, 1)) ∧ (decode cX12_breaks 75 = .ok (.iconst 1, 1)) ∧ (decode cX12_breaks 76 = .ok (.iadd, 1)) ∧ (decode cX12_breaks 77 = .ok (.invokestatic 161, 3)) ∧ (decode cX12_breaks 80 = .ok (.iaload, 1)) ∧ (decode cX12_breaks 81 = .ok (.iconst 0, 1)) ∧ (decode cX12_breaks 82 = .ok (.invokevirtual 244, 3)) ∧ (decode cX12_breaks 85 = .ok (.aload_n 0, 1)) := by decide +kernel
theorem dX12_breaks_74 : decode cX12_breaks 74 = .ok (.iload_n 3, 1) := zd_697.1
theorem dX12_breaks_75 : decode cX12_breaks 75 = .ok (.iconst 1, 1) := zd_697.2.1
theorem dX12_breaks_76 : decode cX12_breaks 76 = .ok (.iadd, 1) := zd_697.2.2.1
theorem dX12_breaks_77 : decode cX12_breaks 77 = .ok (.invokestatic 161, 3) := zd_697.2.2.2.1
theorem dX12_breaks_80 : decode cX12_breaks 80 = .ok (.iaload, 1) := zd_697.2.2.2.2.1
theorem dX12_breaks_81 : decode cX12_breaks 81 = .ok (.iconst 0, 1) := zd_697.2.2.2.2.2.1
theorem dX12_breaks_82 : decode cX12_breaks 82 = .ok (.invokevirtual 244, 3) := zd_697.2.2.2.2.2.2.1
theorem dX12_breaks_85 : decode cX12_breaks 85 = .ok (.aload_n 0, 1) := zd_697.2.2.2.2.2.2.2
theorem zd_698 : (decode cX12_breaks 86 = .ok (.iload_n 1, 1)) ∧ (decode cX12_breaks 87 = .ok (.iload_n 2, 1)) ∧ (decode cX12_breaks 88 = .ok (.iconst 1, 1)) ∧ (decode cX12_breaks 89 = .ok (.iadd, 1)) ∧ (decode cX12_breaks 90 = .ok (.iload_n 3, 1)) ∧ (decode cX12_breaks 91 = .ok (.invokevirtual 189, 3)) ∧ (decode cX12_breaks 94 = .ok (.ifCond .eq 23, 3)) ∧ (decode cX12_breaks 97 = .ok (.aload_n 0, 1)) := by decide +kernel
theorem dX12_breaks_86 : decode cX12_breaks 86 = .ok (.iload_n 1, 1) := zd_698.1
theorem dX12_breaks_87 : decode cX12_breaks 87 = .ok (.iload_n 2, 1) := zd_698.2.1
theorem dX12_breaks_88 : decode cX12_breaks 88 = .ok (.iconst 1, 1) := zd_698.2.2.1
theorem dX12_breaks_89 : decode cX12_breaks 89 = .ok (.iadd, 1) := zd_698.2.2.2.1
theorem dX12_breaks_90 : decode cX12_breaks 90 = .ok (.iload_n 3, 1) := zd_698.2.2.2.2.1
theorem dX12_breaks_91 : decode cX12_breaks 91 = .ok (.invokevirtual 189, 3) := zd_698.2.2.2.2.2.1
theorem dX12_breaks_94 : decode cX12_breaks 94 = .ok (.ifCond .eq 23, 3) := zd_698.2.2.2.2.2.2.1
theorem dX12_breaks_97 : decode cX12_breaks 97 = .ok (.aload_n 0, 1) := zd_698.2.2.2.2.2.2.2
theorem zd_699 : (decode cX12_breaks 98 = .ok (.iload 4, 2)) ∧ (decode cX12_breaks 100 = .ok (.aload_n 0, 1)) ∧ (decode cX12_breaks 101 = .ok (.getfield 16, 3)) ∧ (decode cX12_breaks 104 = .ok (.iload_n 1, 1)) ∧ (decode cX12_breaks 105 = .ok (.iload_n 2, 1)) ∧ (decode cX12_breaks 106 = .ok (.iconst 1, 1)) ∧ (decode cX12_breaks 107 = .ok (.iadd, 1)) ∧ (decode cX12_breaks 108 = .ok (.iload_n 3, 1)) := by decide +kernel
theorem dX12_breaks_98 : decode cX12_breaks 98 = .ok (.iload 4, 2) := zd_699.1
theorem dX12_breaks_100 : decode cX12_breaks 100 = .ok (.aload_n 0, 1) := zd_699.2.1
theorem dX12_breaks_101 : decode cX12_breaks 101 = .ok (.getfield 16, 3) := zd_699.2.2.1
theorem dX12_breaks_104 : decode cX12_breaks 104 = .ok (.iload_n 1, 1) := zd_699.2.2.2.1
theorem dX12_breaks_105 : decode cX12_breaks 105 = .ok (.iload_n 2, 1) := zd_699.2.2.2.2.1
theorem dX12_breaks_106 : decode cX12_breaks 106 = .ok (.iconst 1, 1) := zd_699.2.2.2.2.2.1
theorem dX12_breaks_107 : decode cX12_breaks 107 = .ok (.iadd, 1) := zd_699.2.2.2.2.2.2.1
theorem dX12_breaks_108 : decode cX12_breaks 108 = .ok (.iload_n 3, 1) := zd_699.2.2.2.2.2.2.2
theorem zd_700 : (decode cX12_breaks 109 = .ok (.invokestatic 161, 3)) ∧ (decode cX12_breaks 112 = .ok (.iaload, 1)) ∧ (decode cX12_breaks 113 = .ok (.iconst 1, 1)) ∧ (decode cX12_breaks 114 = .ok (.invokevirtual 244, 3)) ∧ (decode cX12_breaks 117 = .ok (.iinc 3 1, 3)) ∧ (decode cX12_breaks 120 = .ok (.goto (-95), 3)) ∧ (decode cX12_breaks 123 = .ok (.iinc 2 1, 3)) ∧ (decode cX12_breaks 126 = .ok (.goto (-109), 3)) := by decide +kernel
theorem dX12_breaks_109 : decode cX12_breaks 109 = .ok (.invokestatic 161, 3) := zd_700.1
theorem dX12_breaks_112 : decode cX12_breaks 112 = .ok (.iaload, 1) := zd_700.2.1
theorem dX12_breaks_113 : decode cX12_breaks 113 = .ok (.iconst 1, 1) := zd_700.2.2.1
theorem dX12_breaks_114 : decode cX12_breaks 114 = .ok (.invokevirtual 244, 3) := zd_700.2.2.2.1
theorem dX12_breaks_117 : decode cX12_breaks 117 = .ok (.iinc 3 1, 3) := zd_700.2.2.2.2.1
theorem dX12_breaks_120 : decode cX12_breaks 120 = .ok (.goto (-95), 3) := zd_700.2.2.2.2.2.1
theorem dX12_breaks_123 : decode cX12_breaks 123 = .ok (.iinc 2 1, 3) := zd_700.2.2.2.2.2.2.1
theorem dX12_breaks_126 : decode cX12_breaks 126 = .ok (.goto (-109), 3) := zd_700.2.2.2.2.2.2.2
theorem zd_701 : (decode cX12_breaks 129 = .ok (.iconst 0, 1)) ∧ (decode cX12_breaks 130 = .ok (.istore_n 2, 1)) ∧ (decode cX12_breaks 131 = .ok (.iload_n 2, 1)) ∧ (decode cX12_breaks 132 = .ok (.aload_n 0, 1)) ∧ (decode cX12_breaks 133 = .ok (.getfield 147, 3)) ∧ (decode cX12_breaks 136 = .ok (.if_icmp .ge 120, 3)) ∧ (decode cX12_breaks 139 = .ok (.iconst 0, 1)) ∧ (decode cX12_breaks 140 = .ok (.istore_n 3, 1)) := by decide +kernel
theorem dX12_breaks_129 : decode cX12_breaks 129 = .ok (.iconst 0, 1) := zd_701.1
theorem dX12_breaks_130 : decode cX12_breaks 130 = .ok (.istore_n 2, 1) := zd_701.2.1
theorem dX12_breaks_131 : decode cX12_breaks 131 = .ok (.iload_n 2, 1) := zd_701.2.2.1
theorem dX12_breaks_132 : decode cX12_breaks 132 = .ok (.aload_n 0, 1) := zd_701.2.2.2.1
theorem dX12_breaks_133 : decode cX12_breaks 133 = .ok (.getfield 147, 3) := zd_701.2.2.2.2.1
theorem dX12_breaks_136 : decode cX12_breaks 136 = .ok (.if_icmp .ge 120, 3) := zd_701.2.2.2.2.2.1
theorem dX12_breaks_139 : decode cX12_breaks 139 = .ok (.iconst 0, 1) := zd_701.2.2.2.2.2.2.1
theorem dX12_breaks_140 : decode cX12_breaks 140 = .ok (.istore_n 3, 1) := zd_701.2.2.2.2.2.2.2
theorem zd_702 : (decode cX12_breaks 141 = .ok (.iconst 0, 1)) ∧ (decode cX12_breaks 142 = .ok (.istore 4, 2)) ∧ (decode cX12_breaks 144 = .ok (.iload 4, 2)) ∧ (decode cX12_breaks 146 = .ok (.aload_n 0, 1)) ∧ (decode cX12_breaks 147 = .ok (.getfield 74, 3)) ∧ (decode cX12_breaks 150 = .ok (.iload_n 2, 1)) ∧ (decode cX12_breaks 151 = .ok (.iaload, 1)) ∧ (decode cX12_breaks 152 = .ok (.if_icmp .ge 35, 3)) := by decide +kernel
theorem dX12_breaks_141 : decode cX12_breaks 141 = .ok (.iconst 0, 1) := zd_702.1
theorem dX12_breaks_142 : decode cX12_breaks 142 = .ok (.istore 4, 2) := zd_702.2.1
theorem dX12_breaks_144 : decode cX12_breaks 144 = .ok (.iload 4, 2) := zd_702.2.2.1
theorem dX12_breaks_146 : decode cX12_breaks 146 = .ok (.aload_n 0, 1) := zd_702.2.2.2.1
theorem dX12_breaks_147 : decode cX12_breaks 147 = .ok (.getfield 74, 3) := zd_702.2.2.2.2.1
theorem dX12_breaks_150 : decode cX12_breaks 150 = .ok (.iload_n 2, 1) := zd_702.2.2.2.2.2.1
theorem dX12_breaks_151 : decode cX12_breaks 151 = .ok (.iaload, 1) := zd_702.2.2.2.2.2.2.1
theorem dX12_breaks_152 : decode cX12_breaks 152 = .ok (.if_icmp .ge 35, 3) := zd_702.2.2.2.2.2.2.2
theorem zd_703 : (decode cX12_breaks 155 = .ok (.iload_n 3, 1)) ∧ (decode cX12_breaks 156 = .ok (.ifCond .ne 19, 3)) ∧ (decode cX12_breaks 159 = .ok (.aload_n 0, 1)) ∧ (decode cX12_breaks 160 = .ok (.getfield 77, 3)) ∧ (decode cX12_breaks 163 = .ok (.bipush 6, 2)) ∧ (decode cX12_breaks 165 = .ok (.iload_n 2, 1)) ∧ (decode cX12_breaks 166 = .ok (.imul, 1)) ∧ (decode cX12_breaks 167 = .ok (.iload 4, 2)) := by decide +kernel
theorem dX12_breaks_155 : decode cX12_breaks 155 = .ok (.iload_n 3, 1) := zd_703.1
theorem dX12_breaks_156 : decode cX12_breaks 156 = .ok (.ifCond .ne 19, 3) := zd_703.2.1
theorem dX12_breaks_159 : decode cX12_breaks 159 = .ok (.aload_n 0, 1) := zd_703.2.2.1
theorem dX12_breaks_160 : decode cX12_breaks 160 = .ok (.getfield 77, 3) := zd_703.2.2.2.1
theorem dX12_breaks_163 : decode cX12_breaks 163 = .ok (.bipush 6, 2) := zd_703.2.2.2.2.1
theorem dX12_breaks_165 : decode cX12_breaks 165 = .ok (.iload_n 2, 1) := zd_703.2.2.2.2.2.1
theorem dX12_breaks_166 : decode cX12_breaks 166 = .ok (.imul, 1) := zd_703.2.2.2.2.2.2.1
theorem dX12_breaks_167 : decode cX12_breaks 167 = .ok (.iload 4, 2) := zd_703.2.2.2.2.2.2.2
theorem zd_704 : (decode cX12_breaks 169 = .ok (.iadd, 1)) ∧ (decode cX12_breaks 170 = .ok (.iaload, 1)) ∧ (decode cX12_breaks 171 = .ok (.iload_n 1, 1)) ∧ (decode cX12_breaks 172 = .ok (.if_icmp .ne 7, 3)) ∧ (decode cX12_breaks 175 = .ok (.iconst 1, 1)) ∧ (decode cX12_breaks 176 = .ok (.goto 4, 3)) ∧ (decode cX12_breaks 179 = .ok (.iconst 0, 1)) ∧ (decode cX12_breaks 180 = .ok (.istore_n 3, 1)) := by decide +kernel
theorem dX12_breaks_169 : decode cX12_breaks 169 = .ok (.iadd, 1) := zd_704.1
theorem dX12_breaks_170 : decode cX12_breaks 170 = .ok (.iaload, 1) := zd_704.2.1
theorem dX12_breaks_171 : decode cX12_breaks 171 = .ok (.iload_n 1, 1) := zd_704.2.2.1
theorem dX12_breaks_172 : decode cX12_breaks 172 = .ok (.if_icmp .ne 7, 3) := zd_704.2.2.2.1
theorem dX12_breaks_175 : decode cX12_breaks 175 = .ok (.iconst 1, 1) := zd_704.2.2.2.2.1
theorem dX12_breaks_176 : decode cX12_breaks 176 = .ok (.goto 4, 3) := zd_704.2.2.2.2.2.1
theorem dX12_breaks_179 : decode cX12_breaks 179 = .ok (.iconst 0, 1) := zd_704.2.2.2.2.2.2.1
theorem dX12_breaks_180 : decode cX12_breaks 180 = .ok (.istore_n 3, 1) := zd_704.2.2.2.2.2.2.2
theorem zd_705 : (decode cX12_breaks 181 = .ok (.iinc 4 1, 3)) ∧ (decode cX12_breaks 184 = .ok (.goto (-40), 3)) ∧ (decode cX12_breaks 187 = .ok (.iload_n 3, 1)) ∧ (decode cX12_breaks 188 = .ok (.ifCond .eq 33, 3)) ∧ (decode cX12_breaks 191 = .ok (.aload_n 0, 1)) ∧ (decode cX12_breaks 192 = .ok (.getfield 19, 3)) ∧ (decode cX12_breaks 195 = .ok (.iload_n 2, 1)) ∧ (decode cX12_breaks 196 = .ok (.iaload, 1)) := by decide +kernel
theorem dX12_breaks_181 : decode cX12_breaks 181 = .ok (.iinc 4 1, 3) := zd_705.1
theorem dX12_breaks_184 : decode cX12_breaks 184 = .ok (.goto (-40), 3) := zd_705.2.1
theorem dX12_breaks_187 : decode cX12_breaks 187 = .ok (.iload_n 3, 1) := zd_705.2.2.1
theorem dX12_breaks_188 : decode cX12_breaks 188 = .ok (.ifCond .eq 33, 3) := zd_705.2.2.2.1
theorem dX12_breaks_191 : decode cX12_breaks 191 = .ok (.aload_n 0, 1) := zd_705.2.2.2.2.1
theorem dX12_breaks_192 : decode cX12_breaks 192 = .ok (.getfield 19, 3) := zd_705.2.2.2.2.2.1
theorem dX12_breaks_195 : decode cX12_breaks 195 = .ok (.iload_n 2, 1) := zd_705.2.2.2.2.2.2.1
theorem dX12_breaks_196 : decode cX12_breaks 196 = .ok (.iaload, 1) := zd_705.2.2.2.2.2.2.2
theorem zd_706 : (decode cX12_breaks 197 = .ok (.ifCond .ne 24, 3)) ∧ (decode cX12_breaks 200 = .ok (.aload_n 0, 1)) ∧ (decode cX12_breaks 201 = .ok (.iload_n 2, 1)) ∧ (decode cX12_breaks 202 = .ok (.invokevirtual 248, 3)) ∧ (decode cX12_breaks 205 = .ok (.aload_n 0, 1)) ∧ (decode cX12_breaks 206 = .ok (.getfield 22, 3)) ∧ (decode cX12_breaks 209 = .ok (.iload_n 2, 1)) ∧ (decode cX12_breaks 210 = .ok (.iaload, 1)) := by decide +kernel
theorem dX12_breaks_197 : decode cX12_breaks 197 = .ok (.ifCond .ne 24, 3) := zd_706.1
theorem dX12_breaks_200 : decode cX12_breaks 200 = .ok (.aload_n 0, 1) := zd_706.2.1
theorem dX12_breaks_201 : decode cX12_breaks 201 = .ok (.iload_n 2, 1) := zd_706.2.2.1
theorem dX12_breaks_202 : decode cX12_breaks 202 = .ok (.invokevirtual 248, 3) := zd_706.2.2.2.1
theorem dX12_breaks_205 : decode cX12_breaks 205 = .ok (.aload_n 0, 1) := zd_706.2.2.2.2.1
theorem dX12_breaks_206 : decode cX12_breaks 206 = .ok (.getfield 22, 3) := zd_706.2.2.2.2.2.1
theorem dX12_breaks_209 : decode cX12_breaks 209 = .ok (.iload_n 2, 1) := zd_706.2.2.2.2.2.2.1
theorem dX12_breaks_210 : decode cX12_breaks 210 = .ok (.iaload, 1) := zd_706.2.2.2.2.2.2.2
theorem zd_707 : (decode cX12_breaks 211 = .ok (.if_icmp .ge 10, 3)) ∧ (decode cX12_breaks 214 = .ok (.aload_n 0, 1)) ∧ (decode cX12_breaks 215 = .ok (.iconst 4, 1)) ∧ (decode cX12_breaks 216 = .ok (.iload_n 2, 1)) ∧ (decode cX12_breaks 217 = .ok (.iconst (-1), 1)) ∧ (decode cX12_breaks 218 = .ok (.invokevirtual 240, 3)) ∧ (decode cX12_breaks 221 = .ok (.iload_n 3, 1)) ∧ (decode cX12_breaks 222 = .ok (.ifCond .eq 28, 3)) := by decide +kernel
theorem dX12_breaks_211 : decode cX12_breaks 211 = .ok (.if_icmp .ge 10, 3) := zd_707.1
theorem dX12_breaks_214 : decode cX12_breaks 214 = .ok (.aload_n 0, 1) := zd_707.2.1
theorem dX12_breaks_215 : decode cX12_breaks 215 = .ok (.iconst 4, 1) := zd_707.2.2.1
theorem dX12_breaks_216 : decode cX12_breaks 216 = .ok (.iload_n 2, 1) := zd_707.2.2.2.1
theorem dX12_breaks_217 : decode cX12_breaks 217 = .ok (.iconst (-1), 1) := zd_707.2.2.2.2.1
theorem dX12_breaks_218 : decode cX12_breaks 218 = .ok (.invokevirtual 240, 3) := zd_707.2.2.2.2.2.1
theorem dX12_breaks_221 : decode cX12_breaks 221 = .ok (.iload_n 3, 1) := zd_707.2.2.2.2.2.2.1
theorem dX12_breaks_222 : decode cX12_breaks 222 = .ok (.ifCond .eq 28, 3) := zd_707.2.2.2.2.2.2.2
theorem zd_708 : (decode cX12_breaks 225 = .ok (.aload_n 0, 1)) ∧ (decode cX12_breaks 226 = .ok (.getfield 19, 3)) ∧ (decode cX12_breaks 229 = .ok (.iload_n 2, 1)) ∧ (decode cX12_breaks 230 = .ok (.iaload, 1)) ∧ (decode cX12_breaks 231 = .ok (.iconst 1, 1)) ∧ (decode cX12_breaks 232 = .ok (.if_icmp .ne 18, 3)) ∧ (decode cX12_breaks 235 = .ok (.aload_n 0, 1)) ∧ (decode cX12_breaks 236 = .ok (.iload_n 2, 1)) := by decide +kernel
theorem dX12_breaks_225 : decode cX12_breaks 225 = .ok (.aload_n 0, 1) := zd_708.1
theorem dX12_breaks_226 : decode cX12_breaks 226 = .ok (.getfield 19, 3) := zd_708.2.1
theorem dX12_breaks_229 : decode cX12_breaks 229 = .ok (.iload_n 2, 1) := zd_708.2.2.1
theorem dX12_breaks_230 : decode cX12_breaks 230 = .ok (.iaload, 1) := zd_708.2.2.2.1
theorem dX12_breaks_231 : decode cX12_breaks 231 = .ok (.iconst 1, 1) := zd_708.2.2.2.2.1
theorem dX12_breaks_232 : decode cX12_breaks 232 = .ok (.if_icmp .ne 18, 3) := zd_708.2.2.2.2.2.1
theorem dX12_breaks_235 : decode cX12_breaks 235 = .ok (.aload_n 0, 1) := zd_708.2.2.2.2.2.2.1
theorem dX12_breaks_236 : decode cX12_breaks 236 = .ok (.iload_n 2, 1) := zd_708.2.2.2.2.2.2.2
theorem zd_709 : (decode cX12_breaks 237 = .ok (.invokevirtual 251, 3)) ∧ (decode cX12_breaks 240 = .ok (.ifCond .ne 10, 3)) ∧ (decode cX12_breaks 243 = .ok (.aload_n 0, 1)) ∧ (decode cX12_breaks 244 = .ok (.iconst 5, 1)) ∧ (decode cX12_breaks 245 = .ok (.iload_n 2, 1)) ∧ (decode cX12_breaks 246 = .ok (.iconst (-1), 1)) ∧ (decode cX12_breaks 247 = .ok (.invokevirtual 240, 3)) ∧ (decode cX12_breaks 250 = .ok (.iinc 2 1, 3)) := by decide +kernel
theorem dX12_breaks_237 : decode cX12_breaks 237 = .ok (.invokevirtual 251, 3) := zd_709.1
theorem dX12_breaks_240 : decode cX12_breaks 240 = .ok (.ifCond .ne 10, 3) := zd_709.2.1
theorem dX12_breaks_243 : decode cX12_breaks 243 = .ok (.aload_n 0, 1) := zd_709.2.2.1
theorem dX12_breaks_244 : decode cX12_breaks 244 = .ok (.iconst 5, 1) := zd_709.2.2.2.1
theorem dX12_breaks_245 : decode cX12_breaks 245 = .ok (.iload_n 2, 1) := zd_709.2.2.2.2.1
theorem dX12_breaks_246 : decode cX12_breaks 246 = .ok (.iconst (-1), 1) := zd_709.2.2.2.2.2.1
theorem dX12_breaks_247 : decode cX12_breaks 247 = .ok (.invokevirtual 240, 3) := zd_709.2.2.2.2.2.2.1
theorem dX12_breaks_250 : decode cX12_breaks 250 = .ok (.iinc 2 1, 3) := zd_709.2.2.2.2.2.2.2
theorem zd_710 : (decode cX12_breaks 253 = .ok (.goto (-122), 3)) ∧ (decode cX12_breaks 256 = .ok (.return_, 1)) := by decide +kernel
theorem dX12_breaks_253 : decode cX12_breaks 253 = .ok (.goto (-122), 3) := zd_710.1
theorem dX12_breaks_256 : decode cX12_breaks 256 = .ok (.return_, 1) := zd_710.2
theorem zd_711 : (decode cX12_broken 0 = .ok (.iload_n 1, 1)) ∧ (decode cX12_broken 1 = .ok (.invokestatic 155, 3)) ∧ (decode cX12_broken 4 = .ok (.ifCond .eq 12, 3)) ∧ (decode cX12_broken 7 = .ok (.iload_n 2, 1)) ∧ (decode cX12_broken 8 = .ok (.iconst 0, 1)) ∧ (decode cX12_broken 9 = .ok (.iconst 2, 1)) ∧ (decode cX12_broken 10 = .ok (.invokestatic 143, 3)) ∧ (decode cX12_broken 13 = .ok (.ifCond .ne 5, 3)) := by decide +kernel
theorem dX12_broken_0 : decode cX12_broken 0 = .ok (.iload_n 1, 1) := zd_711.1
theorem dX12_broken_1 : decode cX12_broken 1 = .ok (.invokestatic 155, 3) := zd_711.2.1
theorem dX12_broken_4 : decode cX12_broken 4 = .ok (.ifCond .eq 12, 3) := zd_711.2.2.1
theorem dX12_broken_7 : decode cX12_broken 7 = .ok (.iload_n 2, 1) := zd_711.2.2.2.1
theorem dX12_broken_8 : decode cX12_broken 8 = .ok (.iconst 0, 1) := zd_711.2.2.2.2.1
theorem dX12_broken_9 : decode cX12_broken 9 = .ok (.iconst 2, 1) := zd_711.2.2.2.2.2.1
theorem dX12_broken_10 : decode cX12_broken 10 = .ok (.invokestatic 143, 3) := zd_711.2.2.2.2.2.2.1
theorem dX12_broken_13 : decode cX12_broken 13 = .ok (.ifCond .ne 5, 3) := zd_711.2.2.2.2.2.2.2
theorem zd_712 : (decode cX12_broken 16 = .ok (.iconst (-1), 1)) ∧ (decode cX12_broken 17 = .ok (.ireturn, 1)) ∧ (decode cX12_broken 18 = .ok (.aload_n 0, 1)) ∧ (decode cX12_broken 19 = .ok (.iload_n 1, 1)) ∧ (decode cX12_broken 20 = .ok (.invokevirtual 254, 3)) ∧ (decode cX12_broken 23 = .ok (.iload_n 2, 1)) ∧ (decode cX12_broken 24 = .ok (.ifCond .ne 10, 3)) ∧ (decode cX12_broken 27 = .ok (.aload_n 0, 1)) := by decide +kernel
theorem dX12_broken_16 : decode cX12_broken 16 = .ok (.iconst (-1), 1) := zd_712.1
theorem dX12_broken_17 : decode cX12_broken 17 = .ok (.ireturn, 1) := zd_712.2.1
theorem dX12_broken_18 : decode cX12_broken 18 = .ok (.aload_n 0, 1) := zd_712.2.2.1
theorem dX12_broken_19 : decode cX12_broken 19 = .ok (.iload_n 1, 1) := zd_712.2.2.2.1
theorem dX12_broken_20 : decode cX12_broken 20 = .ok (.invokevirtual 254, 3) := zd_712.2.2.2.2.1
theorem dX12_broken_23 : decode cX12_broken 23 = .ok (.iload_n 2, 1) := zd_712.2.2.2.2.2.1
theorem dX12_broken_24 : decode cX12_broken 24 = .ok (.ifCond .ne 10, 3) := zd_712.2.2.2.2.2.2.1
theorem dX12_broken_27 : decode cX12_broken 27 = .ok (.aload_n 0, 1) := zd_712.2.2.2.2.2.2.2
theorem zd_713 : (decode cX12_broken 28 = .ok (.getfield 228, 3)) ∧ (decode cX12_broken 31 = .ok (.goto 19, 3)) ∧ (decode cX12_broken 34 = .ok (.iload_n 2, 1)) ∧ (decode cX12_broken 35 = .ok (.iconst 1, 1)) ∧ (decode cX12_broken 36 = .ok (.if_icmp .ne 10, 3)) ∧ (decode cX12_broken 39 = .ok (.aload_n 0, 1)) ∧ (decode cX12_broken 40 = .ok (.getfield 231, 3)) ∧ (decode cX12_broken 43 = .ok (.goto 7, 3)) := by decide +kernel
theorem dX12_broken_28 : decode cX12_broken 28 = .ok (.getfield 228, 3) := zd_713.1
theorem dX12_broken_31 : decode cX12_broken 31 = .ok (.goto 19, 3) := zd_713.2.1
theorem dX12_broken_34 : decode cX12_broken 34 = .ok (.iload_n 2, 1) := zd_713.2.2.1
theorem dX12_broken_35 : decode cX12_broken 35 = .ok (.iconst 1, 1) := zd_713.2.2.2.1
theorem dX12_broken_36 : decode cX12_broken 36 = .ok (.if_icmp .ne 10, 3) := zd_713.2.2.2.2.1
theorem dX12_broken_39 : decode cX12_broken 39 = .ok (.aload_n 0, 1) := zd_713.2.2.2.2.2.1
theorem dX12_broken_40 : decode cX12_broken 40 = .ok (.getfield 231, 3) := zd_713.2.2.2.2.2.2.1
theorem dX12_broken_43 : decode cX12_broken 43 = .ok (.goto 7, 3) := zd_713.2.2.2.2.2.2.2
theorem zd_714 : (decode cX12_broken 46 = .ok (.aload_n 0, 1)) ∧ (decode cX12_broken 47 = .ok (.getfield 234, 3)) ∧ (decode cX12_broken 50 = .ok (.ireturn, 1)) := by decide +kernel
theorem dX12_broken_46 : decode cX12_broken 46 = .ok (.aload_n 0, 1) := zd_714.1
theorem dX12_broken_47 : decode cX12_broken 47 = .ok (.getfield 234, 3) := zd_714.2.1
theorem dX12_broken_50 : decode cX12_broken 50 = .ok (.ireturn, 1) := zd_714.2.2
theorem zd_715 : (decode cX12_plate 0 = .ok (.iload_n 1, 1)) ∧ (decode cX12_plate 1 = .ok (.invokestatic 155, 3)) ∧ (decode cX12_plate 4 = .ok (.ifCond .ne 5, 3)) ∧ (decode cX12_plate 7 = .ok (.iconst (-1), 1)) ∧ (decode cX12_plate 8 = .ok (.ireturn, 1)) ∧ (decode cX12_plate 9 = .ok (.iconst 0, 1)) ∧ (decode cX12_plate 10 = .ok (.istore_n 2, 1)) ∧ (decode cX12_plate 11 = .ok (.iconst 0, 1)) := by decide +kernel
theorem dX12_plate_0 : decode cX12_plate 0 = .ok (.iload_n 1, 1) := zd_715.1
theorem dX12_plate_1 : decode cX12_plate 1 = .ok (.invokestatic 155, 3) := zd_715.2.1
theorem dX12_plate_4 : decode cX12_plate 4 = .ok (.ifCond .ne 5, 3) := zd_715.2.2.1
theorem dX12_plate_7 : decode cX12_plate 7 = .ok (.iconst (-1), 1) := zd_715.2.2.2.1
theorem dX12_plate_8 : decode cX12_plate 8 = .ok (.ireturn, 1) := zd_715.2.2.2.2.1
theorem dX12_plate_9 : decode cX12_plate 9 = .ok (.iconst 0, 1) := zd_715.2.2.2.2.2.1
theorem dX12_plate_10 : decode cX12_plate 10 = .ok (.istore_n 2, 1) := zd_715.2.2.2.2.2.2.1
theorem dX12_plate_11 : decode cX12_plate 11 = .ok (.iconst 0, 1) := zd_715.2.2.2.2.2.2.2
theorem zd_716 : (decode cX12_plate 12 = .ok (.istore_n 3, 1)) ∧ (decode cX12_plate 13 = .ok (.iload_n 3, 1)) ∧ (decode cX12_plate 14 = .ok (.bipush 8, 2)) ∧ (decode cX12_plate 16 = .ok (.if_icmp .ge 56, 3)) ∧ (decode cX12_plate 19 = .ok (.iconst 0, 1)) ∧ (decode cX12_plate 20 = .ok (.istore 4, 2)) ∧ (decode cX12_plate 22 = .ok (.iload 4, 2)) ∧ (decode cX12_plate 24 = .ok (.aload_n 0, 1)) := by decide +kernel
theorem dX12_plate_12 : decode cX12_plate 12 = .ok (.istore_n 3, 1) := zd_716.1
theorem dX12_plate_13 : decode cX12_plate 13 = .ok (.iload_n 3, 1) := zd_716.2.1
theorem dX12_plate_14 : decode cX12_plate 14 = .ok (.bipush 8, 2) := zd_716.2.2.1
theorem dX12_plate_16 : decode cX12_plate 16 = .ok (.if_icmp .ge 56, 3) := zd_716.2.2.2.1
theorem dX12_plate_19 : decode cX12_plate 19 = .ok (.iconst 0, 1) := zd_716.2.2.2.2.1
theorem dX12_plate_20 : decode cX12_plate 20 = .ok (.istore 4, 2) := zd_716.2.2.2.2.2.1
theorem dX12_plate_22 : decode cX12_plate 22 = .ok (.iload 4, 2) := zd_716.2.2.2.2.2.2.1
theorem dX12_plate_24 : decode cX12_plate 24 = .ok (.aload_n 0, 1) := zd_716.2.2.2.2.2.2.2
theorem zd_717 : (decode cX12_plate 25 = .ok (.getfield 7, 3)) ∧ (decode cX12_plate 28 = .ok (.bipush 8, 2)) ∧ (decode cX12_plate 30 = .ok (.iload_n 1, 1)) ∧ (decode cX12_plate 31 = .ok (.imul, 1)) ∧ (decode cX12_plate 32 = .ok (.iload_n 3, 1)) ∧ (decode cX12_plate 33 = .ok (.iadd, 1)) ∧ (decode cX12_plate 34 = .ok (.iaload, 1)) ∧ (decode cX12_plate 35 = .ok (.if_icmp .ge 31, 3)) := by decide +kernel
theorem dX12_plate_25 : decode cX12_plate 25 = .ok (.getfield 7, 3) := zd_717.1
theorem dX12_plate_28 : decode cX12_plate 28 = .ok (.bipush 8, 2) := zd_717.2.1
theorem dX12_plate_30 : decode cX12_plate 30 = .ok (.iload_n 1, 1) := zd_717.2.2.1
theorem dX12_plate_31 : decode cX12_plate 31 = .ok (.imul, 1) := zd_717.2.2.2.1
theorem dX12_plate_32 : decode cX12_plate 32 = .ok (.iload_n 3, 1) := zd_717.2.2.2.2.1
theorem dX12_plate_33 : decode cX12_plate 33 = .ok (.iadd, 1) := zd_717.2.2.2.2.2.1
theorem dX12_plate_34 : decode cX12_plate 34 = .ok (.iaload, 1) := zd_717.2.2.2.2.2.2.1
theorem dX12_plate_35 : decode cX12_plate 35 = .ok (.if_icmp .ge 31, 3) := zd_717.2.2.2.2.2.2.2
theorem zd_718 : (decode cX12_plate 38 = .ok (.aload_n 0, 1)) ∧ (decode cX12_plate 39 = .ok (.getfield 16, 3)) ∧ (decode cX12_plate 42 = .ok (.iload_n 1, 1)) ∧ (decode cX12_plate 43 = .ok (.iload_n 3, 1)) ∧ (decode cX12_plate 44 = .ok (.iload 4, 2)) ∧ (decode cX12_plate 46 = .ok (.invokestatic 161, 3)) ∧ (decode cX12_plate 49 = .ok (.iaload, 1)) ∧ (decode cX12_plate 50 = .ok (.bipush (-2), 2)) := by decide +kernel
theorem dX12_plate_38 : decode cX12_plate 38 = .ok (.aload_n 0, 1) := zd_718.1
theorem dX12_plate_39 : decode cX12_plate 39 = .ok (.getfield 16, 3) := zd_718.2.1
theorem dX12_plate_42 : decode cX12_plate 42 = .ok (.iload_n 1, 1) := zd_718.2.2.1
theorem dX12_plate_43 : decode cX12_plate 43 = .ok (.iload_n 3, 1) := zd_718.2.2.2.1
theorem dX12_plate_44 : decode cX12_plate 44 = .ok (.iload 4, 2) := zd_718.2.2.2.2.1
theorem dX12_plate_46 : decode cX12_plate 46 = .ok (.invokestatic 161, 3) := zd_718.2.2.2.2.2.1
theorem dX12_plate_49 : decode cX12_plate 49 = .ok (.iaload, 1) := zd_718.2.2.2.2.2.2.1
theorem dX12_plate_50 : decode cX12_plate 50 = .ok (.bipush (-2), 2) := zd_718.2.2.2.2.2.2.2
theorem zd_719 : (decode cX12_plate 52 = .ok (.if_icmp .ne 5, 3)) ∧ (decode cX12_plate 55 = .ok (.iconst (-1), 1)) ∧ (decode cX12_plate 56 = .ok (.ireturn, 1)) ∧ (decode cX12_plate 57 = .ok (.iinc 2 1, 3)) ∧ (decode cX12_plate 60 = .ok (.iinc 4 1, 3)) ∧ (decode cX12_plate 63 = .ok (.goto (-41), 3)) ∧ (decode cX12_plate 66 = .ok (.iinc 3 1, 3)) ∧ (decode cX12_plate 69 = .ok (.goto (-56), 3)) := by decide +kernel
theorem dX12_plate_52 : decode cX12_plate 52 = .ok (.if_icmp .ne 5, 3) := zd_719.1
theorem dX12_plate_55 : decode cX12_plate 55 = .ok (.iconst (-1), 1) := zd_719.2.1
theorem dX12_plate_56 : decode cX12_plate 56 = .ok (.ireturn, 1) := zd_719.2.2.1
theorem dX12_plate_57 : decode cX12_plate 57 = .ok (.iinc 2 1, 3) := zd_719.2.2.2.1
theorem dX12_plate_60 : decode cX12_plate 60 = .ok (.iinc 4 1, 3) := zd_719.2.2.2.2.1
theorem dX12_plate_63 : decode cX12_plate 63 = .ok (.goto (-41), 3) := zd_719.2.2.2.2.2.1
theorem dX12_plate_66 : decode cX12_plate 66 = .ok (.iinc 3 1, 3) := zd_719.2.2.2.2.2.2.1
theorem dX12_plate_69 : decode cX12_plate 69 = .ok (.goto (-56), 3) := zd_719.2.2.2.2.2.2.2
theorem zd_720 : (decode cX12_plate 72 = .ok (.aload_n 0, 1)) ∧ (decode cX12_plate 73 = .ok (.iload_n 1, 1)) ∧ (decode cX12_plate 74 = .ok (.invokevirtual 254, 3)) ∧ (decode cX12_plate 77 = .ok (.iload_n 2, 1)) ∧ (decode cX12_plate 78 = .ok (.ifCond .eq 10, 3)) ∧ (decode cX12_plate 81 = .ok (.aload_n 0, 1)) ∧ (decode cX12_plate 82 = .ok (.getfield 228, 3)) ∧ (decode cX12_plate 85 = .ok (.ifCond .le 5, 3)) := by decide +kernel
theorem dX12_plate_72 : decode cX12_plate 72 = .ok (.aload_n 0, 1) := zd_720.1
theorem dX12_plate_73 : decode cX12_plate 73 = .ok (.iload_n 1, 1) := zd_720.2.1
theorem dX12_plate_74 : decode cX12_plate 74 = .ok (.invokevirtual 254, 3) := zd_720.2.2.1
theorem dX12_plate_77 : decode cX12_plate 77 = .ok (.iload_n 2, 1) := zd_720.2.2.2.1
theorem dX12_plate_78 : decode cX12_plate 78 = .ok (.ifCond .eq 10, 3) := zd_720.2.2.2.2.1
theorem dX12_plate_81 : decode cX12_plate 81 = .ok (.aload_n 0, 1) := zd_720.2.2.2.2.2.1
theorem dX12_plate_82 : decode cX12_plate 82 = .ok (.getfield 228, 3) := zd_720.2.2.2.2.2.2.1
theorem dX12_plate_85 : decode cX12_plate 85 = .ok (.ifCond .le 5, 3) := zd_720.2.2.2.2.2.2.2
theorem zd_721 : (decode cX12_plate 88 = .ok (.iconst (-1), 1)) ∧ (decode cX12_plate 89 = .ok (.ireturn, 1)) ∧ (decode cX12_plate 90 = .ok (.aload_n 0, 1)) ∧ (decode cX12_plate 91 = .ok (.getfield 116, 3)) ∧ (decode cX12_plate 94 = .ok (.iload_n 1, 1)) ∧ (decode cX12_plate 95 = .ok (.iconst 1, 1)) ∧ (decode cX12_plate 96 = .ok (.bastore, 1)) ∧ (decode cX12_plate 97 = .ok (.aload_n 0, 1)) := by decide +kernel
theorem dX12_plate_88 : decode cX12_plate 88 = .ok (.iconst (-1), 1) := zd_721.1
theorem dX12_plate_89 : decode cX12_plate 89 = .ok (.ireturn, 1) := zd_721.2.1
theorem dX12_plate_90 : decode cX12_plate 90 = .ok (.aload_n 0, 1) := zd_721.2.2.1
theorem dX12_plate_91 : decode cX12_plate 91 = .ok (.getfield 116, 3) := zd_721.2.2.2.1
theorem dX12_plate_94 : decode cX12_plate 94 = .ok (.iload_n 1, 1) := zd_721.2.2.2.2.1
theorem dX12_plate_95 : decode cX12_plate 95 = .ok (.iconst 1, 1) := zd_721.2.2.2.2.2.1
theorem dX12_plate_96 : decode cX12_plate 96 = .ok (.bastore, 1) := zd_721.2.2.2.2.2.2.1
theorem dX12_plate_97 : decode cX12_plate 97 = .ok (.aload_n 0, 1) := zd_721.2.2.2.2.2.2.2
theorem zd_722 : (decode cX12_plate 98 = .ok (.getfield 119, 3)) ∧ (decode cX12_plate 101 = .ok (.iload_n 1, 1)) ∧ (decode cX12_plate 102 = .ok (.aload_n 0, 1)) ∧ (decode cX12_plate 103 = .ok (.getfield 206, 3)) ∧ (decode cX12_plate 106 = .ok (.iastore, 1)) ∧ (decode cX12_plate 107 = .ok (.aload_n 0, 1)) := by decide +kernel
theorem dX12_plate_98 : decode cX12_plate 98 = .ok (.getfield 119, 3) := zd_722.1
theorem dX12_plate_101 : decode cX12_plate 101 = .ok (.iload_n 1, 1) := zd_722.2.1
theorem dX12_plate_102 : decode cX12_plate 102 = .ok (.aload_n 0, 1) := zd_722.2.2.1
theorem dX12_plate_103 : decode cX12_plate 103 = .ok (.getfield 206, 3) := zd_722.2.2.2.1
theorem dX12_plate_106 : decode cX12_plate 106 = .ok (.iastore, 1) := zd_722.2.2.2.2.1
theorem dX12_plate_107 : decode cX12_plate 107 = .ok (.aload_n 0, 1) := zd_722.2.2.2.2.2
