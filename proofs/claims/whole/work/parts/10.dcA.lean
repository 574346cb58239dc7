-- what each instruction decodes to (written by wip/whole/gen_nam.py)
theorem d_Planner_init_0 : decode M_Planner_init.2.1 0 = .ok (.aload_n 0, 1) := by decide +kernel
theorem d_Planner_init_1 : decode M_Planner_init.2.1 1 = .ok (.invokespecial 3, 3) := by decide +kernel
theorem d_Planner_init_4 : decode M_Planner_init.2.1 4 = .ok (.aload_n 0, 1) := by decide +kernel
theorem d_Planner_init_5 : decode M_Planner_init.2.1 5 = .ok (.new 9, 3) := by decide +kernel
theorem d_Planner_init_8 : decode M_Planner_init.2.1 8 = .ok (.dup, 1) := by decide +kernel
theorem d_Planner_init_9 : decode M_Planner_init.2.1 9 = .ok (.invokespecial 11, 3) := by decide +kernel
theorem d_Planner_init_12 : decode M_Planner_init.2.1 12 = .ok (.putfield 12, 3) := by decide +kernel
theorem d_Planner_init_15 : decode M_Planner_init.2.1 15 = .ok (.aload_n 0, 1) := by decide +kernel
theorem d_Planner_init_16 : decode M_Planner_init.2.1 16 = .ok (.aload_n 0, 1) := by decide +kernel
theorem d_Planner_init_17 : decode M_Planner_init.2.1 17 = .ok (.getfield 12, 3) := by decide +kernel
theorem d_Planner_init_20 : decode M_Planner_init.2.1 20 = .ok (.getfield 18, 3) := by decide +kernel
theorem d_Planner_init_23 : decode M_Planner_init.2.1 23 = .ok (.putfield 22, 3) := by decide +kernel
theorem d_Planner_init_26 : decode M_Planner_init.2.1 26 = .ok (.aload_n 0, 1) := by decide +kernel
theorem d_Planner_init_27 : decode M_Planner_init.2.1 27 = .ok (.aload_n 0, 1) := by decide +kernel
theorem d_Planner_init_28 : decode M_Planner_init.2.1 28 = .ok (.getfield 12, 3) := by decide +kernel
theorem d_Planner_init_31 : decode M_Planner_init.2.1 31 = .ok (.getfield 23, 3) := by decide +kernel
theorem d_Planner_init_34 : decode M_Planner_init.2.1 34 = .ok (.putfield 27, 3) := by decide +kernel
theorem d_Planner_init_37 : decode M_Planner_init.2.1 37 = .ok (.aload_n 0, 1) := by decide +kernel
theorem d_Planner_init_38 : decode M_Planner_init.2.1 38 = .ok (.new 28, 3) := by decide +kernel
theorem d_Planner_init_41 : decode M_Planner_init.2.1 41 = .ok (.dup, 1) := by decide +kernel
theorem d_Planner_init_42 : decode M_Planner_init.2.1 42 = .ok (.invokespecial 30, 3) := by decide +kernel
theorem d_Planner_init_45 : decode M_Planner_init.2.1 45 = .ok (.putfield 31, 3) := by decide +kernel
theorem d_Planner_init_48 : decode M_Planner_init.2.1 48 = .ok (.aload_n 0, 1) := by decide +kernel
theorem d_Planner_init_49 : decode M_Planner_init.2.1 49 = .ok (.new 28, 3) := by decide +kernel
theorem d_Planner_init_52 : decode M_Planner_init.2.1 52 = .ok (.dup, 1) := by decide +kernel
theorem d_Planner_init_53 : decode M_Planner_init.2.1 53 = .ok (.invokespecial 30, 3) := by decide +kernel
theorem d_Planner_init_56 : decode M_Planner_init.2.1 56 = .ok (.putfield 35, 3) := by decide +kernel
theorem d_Planner_init_59 : decode M_Planner_init.2.1 59 = .ok (.return_, 1) := by decide +kernel
theorem d_Trip_init_0 : decode M_Trip_init.2.1 0 = .ok (.aload_n 0, 1) := by decide +kernel
theorem d_Trip_init_1 : decode M_Trip_init.2.1 1 = .ok (.invokespecial 3, 3) := by decide +kernel
theorem d_Trip_init_4 : decode M_Trip_init.2.1 4 = .ok (.aload_n 0, 1) := by decide +kernel
theorem d_Trip_init_5 : decode M_Trip_init.2.1 5 = .ok (.new 9, 3) := by decide +kernel
theorem d_Trip_init_8 : decode M_Trip_init.2.1 8 = .ok (.dup, 1) := by decide +kernel
theorem d_Trip_init_9 : decode M_Trip_init.2.1 9 = .ok (.invokespecial 11, 3) := by decide +kernel
theorem d_Trip_init_12 : decode M_Trip_init.2.1 12 = .ok (.putfield 12, 3) := by decide +kernel
theorem d_Trip_init_15 : decode M_Trip_init.2.1 15 = .ok (.aload_n 0, 1) := by decide +kernel
theorem d_Trip_init_16 : decode M_Trip_init.2.1 16 = .ok (.new 18, 3) := by decide +kernel
theorem d_Trip_init_19 : decode M_Trip_init.2.1 19 = .ok (.dup, 1) := by decide +kernel
theorem d_Trip_init_20 : decode M_Trip_init.2.1 20 = .ok (.invokespecial 20, 3) := by decide +kernel
theorem d_Trip_init_23 : decode M_Trip_init.2.1 23 = .ok (.putfield 21, 3) := by decide +kernel
theorem d_Trip_init_26 : decode M_Trip_init.2.1 26 = .ok (.aload_n 0, 1) := by decide +kernel
theorem d_Trip_init_27 : decode M_Trip_init.2.1 27 = .ok (.new 25, 3) := by decide +kernel
theorem d_Trip_init_30 : decode M_Trip_init.2.1 30 = .ok (.dup, 1) := by decide +kernel
theorem d_Trip_init_31 : decode M_Trip_init.2.1 31 = .ok (.invokespecial 27, 3) := by decide +kernel
theorem d_Trip_init_34 : decode M_Trip_init.2.1 34 = .ok (.putfield 28, 3) := by decide +kernel
theorem d_Trip_init_37 : decode M_Trip_init.2.1 37 = .ok (.aload_n 0, 1) := by decide +kernel
theorem d_Trip_init_38 : decode M_Trip_init.2.1 38 = .ok (.bipush 12, 2) := by decide +kernel
theorem d_Trip_init_40 : decode M_Trip_init.2.1 40 = .ok (.newarray .int, 2) := by decide +kernel
theorem d_Trip_init_42 : decode M_Trip_init.2.1 42 = .ok (.putfield 32, 3) := by decide +kernel
theorem d_Trip_init_45 : decode M_Trip_init.2.1 45 = .ok (.aload_n 0, 1) := by decide +kernel
theorem d_Trip_init_46 : decode M_Trip_init.2.1 46 = .ok (.bipush 12, 2) := by decide +kernel
theorem d_Trip_init_48 : decode M_Trip_init.2.1 48 = .ok (.newarray .int, 2) := by decide +kernel
theorem d_Trip_init_50 : decode M_Trip_init.2.1 50 = .ok (.putfield 36, 3) := by decide +kernel
theorem d_Trip_init_53 : decode M_Trip_init.2.1 53 = .ok (.aload_n 0, 1) := by decide +kernel
theorem d_Trip_init_54 : decode M_Trip_init.2.1 54 = .ok (.bipush 12, 2) := by decide +kernel
theorem d_Trip_init_56 : decode M_Trip_init.2.1 56 = .ok (.newarray .int, 2) := by decide +kernel
theorem d_Trip_init_58 : decode M_Trip_init.2.1 58 = .ok (.putfield 39, 3) := by decide +kernel
theorem d_Trip_init_61 : decode M_Trip_init.2.1 61 = .ok (.aload_n 0, 1) := by decide +kernel
theorem d_Trip_init_62 : decode M_Trip_init.2.1 62 = .ok (.bipush 12, 2) := by decide +kernel
theorem d_Trip_init_64 : decode M_Trip_init.2.1 64 = .ok (.newarray .int, 2) := by decide +kernel
theorem d_Trip_init_66 : decode M_Trip_init.2.1 66 = .ok (.putfield 42, 3) := by decide +kernel
theorem d_Trip_init_69 : decode M_Trip_init.2.1 69 = .ok (.return_, 1) := by decide +kernel
theorem d_Town_init_0 : decode M_Town_init.2.1 0 = .ok (.aload_n 0, 1) := by decide +kernel
theorem d_Town_init_1 : decode M_Town_init.2.1 1 = .ok (.invokespecial 3, 3) := by decide +kernel
theorem d_Town_init_4 : decode M_Town_init.2.1 4 = .ok (.aload_n 0, 1) := by decide +kernel
theorem d_Town_init_5 : decode M_Town_init.2.1 5 = .ok (.sipush 512, 3) := by decide +kernel
theorem d_Town_init_8 : decode M_Town_init.2.1 8 = .ok (.newarray .int, 2) := by decide +kernel
theorem d_Town_init_10 : decode M_Town_init.2.1 10 = .ok (.putfield 9, 3) := by decide +kernel
theorem d_Town_init_13 : decode M_Town_init.2.1 13 = .ok (.aload_n 0, 1) := by decide +kernel
theorem d_Town_init_14 : decode M_Town_init.2.1 14 = .ok (.sipush 512, 3) := by decide +kernel
theorem d_Town_init_17 : decode M_Town_init.2.1 17 = .ok (.newarray .int, 2) := by decide +kernel
theorem d_Town_init_19 : decode M_Town_init.2.1 19 = .ok (.putfield 15, 3) := by decide +kernel
theorem d_Town_init_22 : decode M_Town_init.2.1 22 = .ok (.aload_n 0, 1) := by decide +kernel
theorem d_Town_init_23 : decode M_Town_init.2.1 23 = .ok (.bipush 8, 2) := by decide +kernel
theorem d_Town_init_25 : decode M_Town_init.2.1 25 = .ok (.newarray .int, 2) := by decide +kernel
theorem d_Town_init_27 : decode M_Town_init.2.1 27 = .ok (.putfield 18, 3) := by decide +kernel
theorem d_Town_init_30 : decode M_Town_init.2.1 30 = .ok (.aload_n 0, 1) := by decide +kernel
theorem d_Town_init_31 : decode M_Town_init.2.1 31 = .ok (.sipush 4096, 3) := by decide +kernel
theorem d_Town_init_34 : decode M_Town_init.2.1 34 = .ok (.newarray .int, 2) := by decide +kernel
theorem d_Town_init_36 : decode M_Town_init.2.1 36 = .ok (.putfield 21, 3) := by decide +kernel
theorem d_Town_init_39 : decode M_Town_init.2.1 39 = .ok (.aload_n 0, 1) := by decide +kernel
theorem d_Town_init_40 : decode M_Town_init.2.1 40 = .ok (.sipush 512, 3) := by decide +kernel
theorem d_Town_init_43 : decode M_Town_init.2.1 43 = .ok (.newarray .int, 2) := by decide +kernel
theorem d_Town_init_45 : decode M_Town_init.2.1 45 = .ok (.putfield 24, 3) := by decide +kernel
theorem d_Town_init_48 : decode M_Town_init.2.1 48 = .ok (.aload_n 0, 1) := by decide +kernel
theorem d_Town_init_49 : decode M_Town_init.2.1 49 = .ok (.iconst 1, 1) := by decide +kernel
theorem d_Town_init_50 : decode M_Town_init.2.1 50 = .ok (.putfield 27, 3) := by decide +kernel
theorem d_Town_init_53 : decode M_Town_init.2.1 53 = .ok (.return_, 1) := by decide +kernel
theorem d_Stops_init_0 : decode M_Stops_init.2.1 0 = .ok (.aload_n 0, 1) := by decide +kernel
theorem d_Stops_init_1 : decode M_Stops_init.2.1 1 = .ok (.invokespecial 3, 3) := by decide +kernel
theorem d_Stops_init_4 : decode M_Stops_init.2.1 4 = .ok (.aload_n 0, 1) := by decide +kernel
theorem d_Stops_init_5 : decode M_Stops_init.2.1 5 = .ok (.bipush 12, 2) := by decide +kernel
theorem d_Stops_init_7 : decode M_Stops_init.2.1 7 = .ok (.newarray .int, 2) := by decide +kernel
theorem d_Stops_init_9 : decode M_Stops_init.2.1 9 = .ok (.putfield 9, 3) := by decide +kernel
theorem d_Stops_init_12 : decode M_Stops_init.2.1 12 = .ok (.aload_n 0, 1) := by decide +kernel
theorem d_Stops_init_13 : decode M_Stops_init.2.1 13 = .ok (.bipush 12, 2) := by decide +kernel
theorem d_Stops_init_15 : decode M_Stops_init.2.1 15 = .ok (.newarray .int, 2) := by decide +kernel
theorem d_Stops_init_17 : decode M_Stops_init.2.1 17 = .ok (.putfield 15, 3) := by decide +kernel
theorem d_Stops_init_20 : decode M_Stops_init.2.1 20 = .ok (.aload_n 0, 1) := by decide +kernel
theorem d_Stops_init_21 : decode M_Stops_init.2.1 21 = .ok (.bipush 12, 2) := by decide +kernel
theorem d_Stops_init_23 : decode M_Stops_init.2.1 23 = .ok (.newarray .int, 2) := by decide +kernel
theorem d_Stops_init_25 : decode M_Stops_init.2.1 25 = .ok (.putfield 18, 3) := by decide +kernel
theorem d_Stops_init_28 : decode M_Stops_init.2.1 28 = .ok (.aload_n 0, 1) := by decide +kernel
theorem d_Stops_init_29 : decode M_Stops_init.2.1 29 = .ok (.bipush 12, 2) := by decide +kernel
theorem d_Stops_init_31 : decode M_Stops_init.2.1 31 = .ok (.newarray .int, 2) := by decide +kernel
theorem d_Stops_init_33 : decode M_Stops_init.2.1 33 = .ok (.putfield 21, 3) := by decide +kernel
theorem d_Stops_init_36 : decode M_Stops_init.2.1 36 = .ok (.aload_n 0, 1) := by decide +kernel
theorem d_Stops_init_37 : decode M_Stops_init.2.1 37 = .ok (.bipush 12, 2) := by decide +kernel
theorem d_Stops_init_39 : decode M_Stops_init.2.1 39 = .ok (.newarray .int, 2) := by decide +kernel
theorem d_Stops_init_41 : decode M_Stops_init.2.1 41 = .ok (.putfield 24, 3) := by decide +kernel
theorem d_Stops_init_44 : decode M_Stops_init.2.1 44 = .ok (.aload_n 0, 1) := by decide +kernel
theorem d_Stops_init_45 : decode M_Stops_init.2.1 45 = .ok (.bipush 12, 2) := by decide +kernel
theorem d_Stops_init_47 : decode M_Stops_init.2.1 47 = .ok (.newarray .int, 2) := by decide +kernel
theorem d_Stops_init_49 : decode M_Stops_init.2.1 49 = .ok (.putfield 27, 3) := by decide +kernel
theorem d_Stops_init_52 : decode M_Stops_init.2.1 52 = .ok (.aload_n 0, 1) := by decide +kernel
theorem d_Stops_init_53 : decode M_Stops_init.2.1 53 = .ok (.bipush 12, 2) := by decide +kernel
theorem d_Stops_init_55 : decode M_Stops_init.2.1 55 = .ok (.newarray .int, 2) := by decide +kernel
theorem d_Stops_init_57 : decode M_Stops_init.2.1 57 = .ok (.putfield 30, 3) := by decide +kernel
theorem d_Stops_init_60 : decode M_Stops_init.2.1 60 = .ok (.aload_n 0, 1) := by decide +kernel
theorem d_Stops_init_61 : decode M_Stops_init.2.1 61 = .ok (.bipush 12, 2) := by decide +kernel
theorem d_Stops_init_63 : decode M_Stops_init.2.1 63 = .ok (.newarray .int, 2) := by decide +kernel
theorem d_Stops_init_65 : decode M_Stops_init.2.1 65 = .ok (.putfield 33, 3) := by decide +kernel
theorem d_Stops_init_68 : decode M_Stops_init.2.1 68 = .ok (.return_, 1) := by decide +kernel
theorem d_Vans_init_0 : decode M_Vans_init.2.1 0 = .ok (.aload_n 0, 1) := by decide +kernel
theorem d_Vans_init_1 : decode M_Vans_init.2.1 1 = .ok (.invokespecial 3, 3) := by decide +kernel
theorem d_Vans_init_4 : decode M_Vans_init.2.1 4 = .ok (.aload_n 0, 1) := by decide +kernel
theorem d_Vans_init_5 : decode M_Vans_init.2.1 5 = .ok (.iconst 3, 1) := by decide +kernel
theorem d_Vans_init_6 : decode M_Vans_init.2.1 6 = .ok (.newarray .int, 2) := by decide +kernel
theorem d_Vans_init_8 : decode M_Vans_init.2.1 8 = .ok (.putfield 9, 3) := by decide +kernel
theorem d_Vans_init_11 : decode M_Vans_init.2.1 11 = .ok (.aload_n 0, 1) := by decide +kernel
theorem d_Vans_init_12 : decode M_Vans_init.2.1 12 = .ok (.iconst 3, 1) := by decide +kernel
theorem d_Vans_init_13 : decode M_Vans_init.2.1 13 = .ok (.newarray .int, 2) := by decide +kernel
theorem d_Vans_init_15 : decode M_Vans_init.2.1 15 = .ok (.putfield 15, 3) := by decide +kernel
theorem d_Vans_init_18 : decode M_Vans_init.2.1 18 = .ok (.aload_n 0, 1) := by decide +kernel
theorem d_Vans_init_19 : decode M_Vans_init.2.1 19 = .ok (.iconst 3, 1) := by decide +kernel
theorem d_Vans_init_20 : decode M_Vans_init.2.1 20 = .ok (.newarray .int, 2) := by decide +kernel
theorem d_Vans_init_22 : decode M_Vans_init.2.1 22 = .ok (.putfield 18, 3) := by decide +kernel
theorem d_Vans_init_25 : decode M_Vans_init.2.1 25 = .ok (.aload_n 0, 1) := by decide +kernel
theorem d_Vans_init_26 : decode M_Vans_init.2.1 26 = .ok (.iconst 3, 1) := by decide +kernel
theorem d_Vans_init_27 : decode M_Vans_init.2.1 27 = .ok (.newarray .int, 2) := by decide +kernel
theorem d_Vans_init_29 : decode M_Vans_init.2.1 29 = .ok (.putfield 21, 3) := by decide +kernel
theorem d_Vans_init_32 : decode M_Vans_init.2.1 32 = .ok (.return_, 1) := by decide +kernel
theorem d_Plan_init_0 : decode M_Plan_init.2.1 0 = .ok (.aload_n 0, 1) := by decide +kernel
theorem d_Plan_init_1 : decode M_Plan_init.2.1 1 = .ok (.invokespecial 3, 3) := by decide +kernel
theorem d_Plan_init_4 : decode M_Plan_init.2.1 4 = .ok (.aload_n 0, 1) := by decide +kernel
theorem d_Plan_init_5 : decode M_Plan_init.2.1 5 = .ok (.iconst 3, 1) := by decide +kernel
theorem d_Plan_init_6 : decode M_Plan_init.2.1 6 = .ok (.bipush 12, 2) := by decide +kernel
theorem d_Plan_init_8 : decode M_Plan_init.2.1 8 = .ok (.multianewarray 9 2, 4) := by decide +kernel
theorem d_Plan_init_12 : decode M_Plan_init.2.1 12 = .ok (.putfield 11, 3) := by decide +kernel
theorem d_Plan_init_15 : decode M_Plan_init.2.1 15 = .ok (.aload_n 0, 1) := by decide +kernel
theorem d_Plan_init_16 : decode M_Plan_init.2.1 16 = .ok (.iconst 3, 1) := by decide +kernel
theorem d_Plan_init_17 : decode M_Plan_init.2.1 17 = .ok (.newarray .int, 2) := by decide +kernel
theorem d_Plan_init_19 : decode M_Plan_init.2.1 19 = .ok (.putfield 16, 3) := by decide +kernel
theorem d_Plan_init_22 : decode M_Plan_init.2.1 22 = .ok (.return_, 1) := by decide +kernel
theorem d_Past_init_0 : decode M_Past_init.2.1 0 = .ok (.aload_n 0, 1) := by decide +kernel
theorem d_Past_init_1 : decode M_Past_init.2.1 1 = .ok (.invokespecial 3, 3) := by decide +kernel
theorem d_Past_init_4 : decode M_Past_init.2.1 4 = .ok (.aload_n 0, 1) := by decide +kernel
theorem d_Past_init_5 : decode M_Past_init.2.1 5 = .ok (.bipush 20, 2) := by decide +kernel
theorem d_Past_init_7 : decode M_Past_init.2.1 7 = .ok (.anewarray 9, 3) := by decide +kernel
theorem d_Past_init_10 : decode M_Past_init.2.1 10 = .ok (.putfield 11, 3) := by decide +kernel
theorem d_Past_init_13 : decode M_Past_init.2.1 13 = .ok (.iconst 0, 1) := by decide +kernel
theorem d_Past_init_14 : decode M_Past_init.2.1 14 = .ok (.istore_n 1, 1) := by decide +kernel
theorem d_Past_init_15 : decode M_Past_init.2.1 15 = .ok (.iload_n 1, 1) := by decide +kernel
theorem d_Past_init_16 : decode M_Past_init.2.1 16 = .ok (.bipush 20, 2) := by decide +kernel
theorem d_Past_init_18 : decode M_Past_init.2.1 18 = .ok (.if_icmp .ge 22, 3) := by decide +kernel
theorem d_Past_init_21 : decode M_Past_init.2.1 21 = .ok (.aload_n 0, 1) := by decide +kernel
theorem d_Past_init_22 : decode M_Past_init.2.1 22 = .ok (.getfield 11, 3) := by decide +kernel
theorem d_Past_init_25 : decode M_Past_init.2.1 25 = .ok (.iload_n 1, 1) := by decide +kernel
theorem d_Past_init_26 : decode M_Past_init.2.1 26 = .ok (.new 9, 3) := by decide +kernel
theorem d_Past_init_29 : decode M_Past_init.2.1 29 = .ok (.dup, 1) := by decide +kernel
theorem d_Past_init_30 : decode M_Past_init.2.1 30 = .ok (.invokespecial 17, 3) := by decide +kernel
theorem d_Past_init_33 : decode M_Past_init.2.1 33 = .ok (.aastore, 1) := by decide +kernel
theorem d_Past_init_34 : decode M_Past_init.2.1 34 = .ok (.iinc 1 1, 3) := by decide +kernel
theorem d_Past_init_37 : decode M_Past_init.2.1 37 = .ok (.goto (-22), 3) := by decide +kernel
theorem d_Past_init_40 : decode M_Past_init.2.1 40 = .ok (.return_, 1) := by decide +kernel
theorem d_Town_hasStreet_0 : decode M_Town_hasStreet.2.1 0 = .ok (.aload_n 0, 1) := by decide +kernel
theorem d_Town_hasStreet_1 : decode M_Town_hasStreet.2.1 1 = .ok (.getfield 9, 3) := by decide +kernel
theorem d_Town_hasStreet_4 : decode M_Town_hasStreet.2.1 4 = .ok (.aload_n 0, 1) := by decide +kernel
theorem d_Town_hasStreet_5 : decode M_Town_hasStreet.2.1 5 = .ok (.iload_n 1, 1) := by decide +kernel
theorem d_Town_hasStreet_6 : decode M_Town_hasStreet.2.1 6 = .ok (.iload_n 2, 1) := by decide +kernel
theorem d_Town_hasStreet_7 : decode M_Town_hasStreet.2.1 7 = .ok (.invokevirtual 31, 3) := by decide +kernel
theorem d_Town_hasStreet_10 : decode M_Town_hasStreet.2.1 10 = .ok (.iaload, 1) := by decide +kernel
theorem d_Town_hasStreet_11 : decode M_Town_hasStreet.2.1 11 = .ok (.ifCond .eq 7, 3) := by decide +kernel
theorem d_Town_hasStreet_14 : decode M_Town_hasStreet.2.1 14 = .ok (.iconst 1, 1) := by decide +kernel
theorem d_Town_hasStreet_15 : decode M_Town_hasStreet.2.1 15 = .ok (.goto 4, 3) := by decide +kernel
theorem d_Town_hasStreet_18 : decode M_Town_hasStreet.2.1 18 = .ok (.iconst 0, 1) := by decide +kernel
theorem d_Town_hasStreet_19 : decode M_Town_hasStreet.2.1 19 = .ok (.ireturn, 1) := by decide +kernel
theorem d_Town_first_0 : decode M_Town_first.2.1 0 = .ok (.iload_n 1, 1) := by decide +kernel
theorem d_Town_first_1 : decode M_Town_first.2.1 1 = .ok (.bipush 8, 2) := by decide +kernel
theorem d_Town_first_3 : decode M_Town_first.2.1 3 = .ok (.imul, 1) := by decide +kernel
theorem d_Town_first_4 : decode M_Town_first.2.1 4 = .ok (.iload_n 2, 1) := by decide +kernel
theorem d_Town_first_5 : decode M_Town_first.2.1 5 = .ok (.iadd, 1) := by decide +kernel
theorem d_Town_first_6 : decode M_Town_first.2.1 6 = .ok (.bipush 8, 2) := by decide +kernel
theorem d_Town_first_8 : decode M_Town_first.2.1 8 = .ok (.imul, 1) := by decide +kernel
theorem d_Town_first_9 : decode M_Town_first.2.1 9 = .ok (.ireturn, 1) := by decide +kernel
theorem d_Town_remember_0 : decode M_Town_remember.2.1 0 = .ok (.aload_n 0, 1) := by decide +kernel
theorem d_Town_remember_1 : decode M_Town_remember.2.1 1 = .ok (.getfield 9, 3) := by decide +kernel
theorem d_Town_remember_4 : decode M_Town_remember.2.1 4 = .ok (.aload_n 0, 1) := by decide +kernel
theorem d_Town_remember_5 : decode M_Town_remember.2.1 5 = .ok (.iload_n 1, 1) := by decide +kernel
theorem d_Town_remember_6 : decode M_Town_remember.2.1 6 = .ok (.iload_n 2, 1) := by decide +kernel
theorem d_Town_remember_7 : decode M_Town_remember.2.1 7 = .ok (.invokevirtual 31, 3) := by decide +kernel
theorem d_Town_remember_10 : decode M_Town_remember.2.1 10 = .ok (.aload_n 0, 1) := by decide +kernel
theorem d_Town_remember_11 : decode M_Town_remember.2.1 11 = .ok (.getfield 18, 3) := by decide +kernel
theorem d_Town_remember_14 : decode M_Town_remember.2.1 14 = .ok (.iconst 0, 1) := by decide +kernel
theorem d_Town_remember_15 : decode M_Town_remember.2.1 15 = .ok (.bipush 8, 2) := by decide +kernel
theorem d_Town_remember_17 : decode M_Town_remember.2.1 17 = .ok (.invokestatic 39, 3) := by decide +kernel
theorem d_Town_remember_20 : decode M_Town_remember.2.1 20 = .ok (.return_, 1) := by decide +kernel
theorem d_Town_setDay_0 : decode M_Town_setDay.2.1 0 = .ok (.iconst 0, 1) := by decide +kernel
theorem d_Town_setDay_1 : decode M_Town_setDay.2.1 1 = .ok (.istore 4, 2) := by decide +kernel
theorem d_Town_setDay_3 : decode M_Town_setDay.2.1 3 = .ok (.iload 4, 2) := by decide +kernel
theorem d_Town_setDay_5 : decode M_Town_setDay.2.1 5 = .ok (.bipush 8, 2) := by decide +kernel
theorem d_Town_setDay_7 : decode M_Town_setDay.2.1 7 = .ok (.if_icmp .ge 39, 3) := by decide +kernel
theorem d_Town_setDay_10 : decode M_Town_setDay.2.1 10 = .ok (.aload_n 0, 1) := by decide +kernel
theorem d_Town_setDay_11 : decode M_Town_setDay.2.1 11 = .ok (.getfield 9, 3) := by decide +kernel
theorem d_Town_setDay_14 : decode M_Town_setDay.2.1 14 = .ok (.aload_n 0, 1) := by decide +kernel
theorem d_Town_setDay_15 : decode M_Town_setDay.2.1 15 = .ok (.iload_n 1, 1) := by decide +kernel
theorem d_Town_setDay_16 : decode M_Town_setDay.2.1 16 = .ok (.iload_n 2, 1) := by decide +kernel
theorem d_Town_setDay_17 : decode M_Town_setDay.2.1 17 = .ok (.invokevirtual 31, 3) := by decide +kernel
theorem d_Town_setDay_20 : decode M_Town_setDay.2.1 20 = .ok (.iload 4, 2) := by decide +kernel
theorem d_Town_setDay_22 : decode M_Town_setDay.2.1 22 = .ok (.iadd, 1) := by decide +kernel
theorem d_Town_setDay_23 : decode M_Town_setDay.2.1 23 = .ok (.iload_n 3, 1) := by decide +kernel
theorem d_Town_setDay_24 : decode M_Town_setDay.2.1 24 = .ok (.iastore, 1) := by decide +kernel
theorem d_Town_setDay_25 : decode M_Town_setDay.2.1 25 = .ok (.aload_n 0, 1) := by decide +kernel
theorem d_Town_setDay_26 : decode M_Town_setDay.2.1 26 = .ok (.getfield 9, 3) := by decide +kernel
theorem d_Town_setDay_29 : decode M_Town_setDay.2.1 29 = .ok (.aload_n 0, 1) := by decide +kernel
theorem d_Town_setDay_30 : decode M_Town_setDay.2.1 30 = .ok (.iload_n 2, 1) := by decide +kernel
theorem d_Town_setDay_31 : decode M_Town_setDay.2.1 31 = .ok (.iload_n 1, 1) := by decide +kernel
theorem d_Town_setDay_32 : decode M_Town_setDay.2.1 32 = .ok (.invokevirtual 31, 3) := by decide +kernel
theorem d_Town_setDay_35 : decode M_Town_setDay.2.1 35 = .ok (.iload 4, 2) := by decide +kernel
theorem d_Town_setDay_37 : decode M_Town_setDay.2.1 37 = .ok (.iadd, 1) := by decide +kernel
theorem d_Town_setDay_38 : decode M_Town_setDay.2.1 38 = .ok (.iload_n 3, 1) := by decide +kernel
theorem d_Town_setDay_39 : decode M_Town_setDay.2.1 39 = .ok (.iastore, 1) := by decide +kernel
theorem d_Town_setDay_40 : decode M_Town_setDay.2.1 40 = .ok (.iinc 4 1, 3) := by decide +kernel
theorem d_Town_setDay_43 : decode M_Town_setDay.2.1 43 = .ok (.goto (-40), 3) := by decide +kernel
theorem d_Town_setDay_46 : decode M_Town_setDay.2.1 46 = .ok (.aload_n 0, 1) := by decide +kernel
theorem d_Town_setDay_47 : decode M_Town_setDay.2.1 47 = .ok (.iload_n 1, 1) := by decide +kernel
theorem d_Town_setDay_48 : decode M_Town_setDay.2.1 48 = .ok (.iload_n 2, 1) := by decide +kernel
theorem d_Town_setDay_49 : decode M_Town_setDay.2.1 49 = .ok (.invokevirtual 35, 3) := by decide +kernel
theorem d_Town_setDay_52 : decode M_Town_setDay.2.1 52 = .ok (.return_, 1) := by decide +kernel
theorem d_Town_reckon_0 : decode M_Town_reckon.2.1 0 = .ok (.ldc 45, 2) := by decide +kernel
theorem d_Town_reckon_2 : decode M_Town_reckon.2.1 2 = .ok (.istore_n 3, 1) := by decide +kernel
theorem d_Town_reckon_3 : decode M_Town_reckon.2.1 3 = .ok (.bipush 7, 2) := by decide +kernel
theorem d_Town_reckon_5 : decode M_Town_reckon.2.1 5 = .ok (.istore 4, 2) := by decide +kernel
theorem d_Town_reckon_7 : decode M_Town_reckon.2.1 7 = .ok (.iload 4, 2) := by decide +kernel
theorem d_Town_reckon_9 : decode M_Town_reckon.2.1 9 = .ok (.ifCond .lt 58, 3) := by decide +kernel
theorem d_Town_reckon_12 : decode M_Town_reckon.2.1 12 = .ok (.aload_n 0, 1) := by decide +kernel
theorem d_Town_reckon_13 : decode M_Town_reckon.2.1 13 = .ok (.getfield 15, 3) := by decide +kernel
theorem d_Town_reckon_16 : decode M_Town_reckon.2.1 16 = .ok (.aload_n 0, 1) := by decide +kernel
theorem d_Town_reckon_17 : decode M_Town_reckon.2.1 17 = .ok (.iload_n 1, 1) := by decide +kernel
theorem d_Town_reckon_18 : decode M_Town_reckon.2.1 18 = .ok (.iload_n 2, 1) := by decide +kernel
theorem d_Town_reckon_19 : decode M_Town_reckon.2.1 19 = .ok (.invokevirtual 31, 3) := by decide +kernel
theorem d_Town_reckon_22 : decode M_Town_reckon.2.1 22 = .ok (.iload 4, 2) := by decide +kernel
theorem d_Town_reckon_24 : decode M_Town_reckon.2.1 24 = .ok (.iadd, 1) := by decide +kernel
theorem d_Town_reckon_25 : decode M_Town_reckon.2.1 25 = .ok (.iload_n 3, 1) := by decide +kernel
theorem d_Town_reckon_26 : decode M_Town_reckon.2.1 26 = .ok (.iastore, 1) := by decide +kernel
theorem d_Town_reckon_27 : decode M_Town_reckon.2.1 27 = .ok (.aload_n 0, 1) := by decide +kernel
theorem d_Town_reckon_28 : decode M_Town_reckon.2.1 28 = .ok (.getfield 15, 3) := by decide +kernel
theorem d_Town_reckon_31 : decode M_Town_reckon.2.1 31 = .ok (.aload_n 0, 1) := by decide +kernel
theorem d_Town_reckon_32 : decode M_Town_reckon.2.1 32 = .ok (.iload_n 2, 1) := by decide +kernel
theorem d_Town_reckon_33 : decode M_Town_reckon.2.1 33 = .ok (.iload_n 1, 1) := by decide +kernel
theorem d_Town_reckon_34 : decode M_Town_reckon.2.1 34 = .ok (.invokevirtual 31, 3) := by decide +kernel
theorem d_Town_reckon_37 : decode M_Town_reckon.2.1 37 = .ok (.iload 4, 2) := by decide +kernel
theorem d_Town_reckon_39 : decode M_Town_reckon.2.1 39 = .ok (.iadd, 1) := by decide +kernel
theorem d_Town_reckon_40 : decode M_Town_reckon.2.1 40 = .ok (.iload_n 3, 1) := by decide +kernel
theorem d_Town_reckon_41 : decode M_Town_reckon.2.1 41 = .ok (.iastore, 1) := by decide +kernel
theorem d_Town_reckon_42 : decode M_Town_reckon.2.1 42 = .ok (.iload_n 3, 1) := by decide +kernel
theorem d_Town_reckon_43 : decode M_Town_reckon.2.1 43 = .ok (.iload 4, 2) := by decide +kernel
theorem d_Town_reckon_45 : decode M_Town_reckon.2.1 45 = .ok (.bipush 60, 2) := by decide +kernel
theorem d_Town_reckon_47 : decode M_Town_reckon.2.1 47 = .ok (.imul, 1) := by decide +kernel
theorem d_Town_reckon_48 : decode M_Town_reckon.2.1 48 = .ok (.aload_n 0, 1) := by decide +kernel
theorem d_Town_reckon_49 : decode M_Town_reckon.2.1 49 = .ok (.iload_n 1, 1) := by decide +kernel
theorem d_Town_reckon_50 : decode M_Town_reckon.2.1 50 = .ok (.iload_n 2, 1) := by decide +kernel
theorem d_Town_reckon_51 : decode M_Town_reckon.2.1 51 = .ok (.iload 4, 2) := by decide +kernel
theorem d_Town_reckon_53 : decode M_Town_reckon.2.1 53 = .ok (.invokevirtual 46, 3) := by decide +kernel
theorem d_Town_reckon_56 : decode M_Town_reckon.2.1 56 = .ok (.iadd, 1) := by decide +kernel
theorem d_Town_reckon_57 : decode M_Town_reckon.2.1 57 = .ok (.invokestatic 50, 3) := by decide +kernel
theorem d_Town_reckon_60 : decode M_Town_reckon.2.1 60 = .ok (.istore_n 3, 1) := by decide +kernel
theorem d_Town_reckon_61 : decode M_Town_reckon.2.1 61 = .ok (.iinc 4 (-1), 3) := by decide +kernel
theorem d_Town_reckon_64 : decode M_Town_reckon.2.1 64 = .ok (.goto (-57), 3) := by decide +kernel
theorem d_Town_reckon_67 : decode M_Town_reckon.2.1 67 = .ok (.aload_n 0, 1) := by decide +kernel
theorem d_Town_reckon_68 : decode M_Town_reckon.2.1 68 = .ok (.dup, 1) := by decide +kernel
theorem d_Town_reckon_69 : decode M_Town_reckon.2.1 69 = .ok (.getfield 27, 3) := by decide +kernel
theorem d_Town_reckon_72 : decode M_Town_reckon.2.1 72 = .ok (.iconst 1, 1) := by decide +kernel
theorem d_Town_reckon_73 : decode M_Town_reckon.2.1 73 = .ok (.iadd, 1) := by decide +kernel
theorem d_Town_reckon_74 : decode M_Town_reckon.2.1 74 = .ok (.putfield 27, 3) := by decide +kernel
theorem d_Town_reckon_77 : decode M_Town_reckon.2.1 77 = .ok (.return_, 1) := by decide +kernel
theorem d_Town_minutes_0 : decode M_Town_minutes.2.1 0 = .ok (.aload_n 0, 1) := by decide +kernel
theorem d_Town_minutes_1 : decode M_Town_minutes.2.1 1 = .ok (.getfield 9, 3) := by decide +kernel
theorem d_Town_minutes_4 : decode M_Town_minutes.2.1 4 = .ok (.aload_n 0, 1) := by decide +kernel
theorem d_Town_minutes_5 : decode M_Town_minutes.2.1 5 = .ok (.iload_n 1, 1) := by decide +kernel
theorem d_Town_minutes_6 : decode M_Town_minutes.2.1 6 = .ok (.iload_n 2, 1) := by decide +kernel
theorem d_Town_minutes_7 : decode M_Town_minutes.2.1 7 = .ok (.invokevirtual 31, 3) := by decide +kernel
theorem d_Town_minutes_10 : decode M_Town_minutes.2.1 10 = .ok (.iload_n 3, 1) := by decide +kernel
theorem d_Town_minutes_11 : decode M_Town_minutes.2.1 11 = .ok (.iadd, 1) := by decide +kernel
theorem d_Town_minutes_12 : decode M_Town_minutes.2.1 12 = .ok (.iaload, 1) := by decide +kernel
theorem d_Town_minutes_13 : decode M_Town_minutes.2.1 13 = .ok (.ireturn, 1) := by decide +kernel
theorem d_Trip_total_0 : decode M_Trip_total.2.1 0 = .ok (.iconst 0, 1) := by decide +kernel
theorem d_Trip_total_1 : decode M_Trip_total.2.1 1 = .ok (.istore_n 2, 1) := by decide +kernel
theorem d_Trip_total_2 : decode M_Trip_total.2.1 2 = .ok (.iconst 0, 1) := by decide +kernel
theorem d_Trip_total_3 : decode M_Trip_total.2.1 3 = .ok (.istore_n 3, 1) := by decide +kernel
theorem d_Trip_total_4 : decode M_Trip_total.2.1 4 = .ok (.iload_n 3, 1) := by decide +kernel
theorem d_Trip_total_5 : decode M_Trip_total.2.1 5 = .ok (.aload_n 0, 1) := by decide +kernel
theorem d_Trip_total_6 : decode M_Trip_total.2.1 6 = .ok (.getfield 28, 3) := by decide +kernel
theorem d_Trip_total_9 : decode M_Trip_total.2.1 9 = .ok (.getfield 90, 3) := by decide +kernel
theorem d_Trip_total_12 : decode M_Trip_total.2.1 12 = .ok (.if_icmp .ge 27, 3) := by decide +kernel
theorem d_Trip_total_15 : decode M_Trip_total.2.1 15 = .ok (.aload_n 0, 1) := by decide +kernel
theorem d_Trip_total_16 : decode M_Trip_total.2.1 16 = .ok (.aload_n 1, 1) := by decide +kernel
theorem d_Trip_total_17 : decode M_Trip_total.2.1 17 = .ok (.iload_n 3, 1) := by decide +kernel
theorem d_Trip_total_18 : decode M_Trip_total.2.1 18 = .ok (.invokevirtual 93, 3) := by decide +kernel
theorem d_Trip_total_21 : decode M_Trip_total.2.1 21 = .ok (.ifCond .eq 5, 3) := by decide +kernel
theorem d_Trip_total_24 : decode M_Trip_total.2.1 24 = .ok (.iconst (-1), 1) := by decide +kernel
theorem d_Trip_total_25 : decode M_Trip_total.2.1 25 = .ok (.ireturn, 1) := by decide +kernel
theorem d_Trip_total_26 : decode M_Trip_total.2.1 26 = .ok (.iload_n 2, 1) := by decide +kernel
theorem d_Trip_total_27 : decode M_Trip_total.2.1 27 = .ok (.aload_n 0, 1) := by decide +kernel
theorem d_Trip_total_28 : decode M_Trip_total.2.1 28 = .ok (.getfield 58, 3) := by decide +kernel
theorem d_Trip_total_31 : decode M_Trip_total.2.1 31 = .ok (.iadd, 1) := by decide +kernel
theorem d_Trip_total_32 : decode M_Trip_total.2.1 32 = .ok (.istore_n 2, 1) := by decide +kernel
theorem d_Trip_total_33 : decode M_Trip_total.2.1 33 = .ok (.iinc 3 1, 3) := by decide +kernel
theorem d_Trip_total_36 : decode M_Trip_total.2.1 36 = .ok (.goto (-32), 3) := by decide +kernel
theorem d_Trip_total_39 : decode M_Trip_total.2.1 39 = .ok (.iload_n 2, 1) := by decide +kernel
theorem d_Trip_total_40 : decode M_Trip_total.2.1 40 = .ok (.ireturn, 1) := by decide +kernel
theorem d_Trip_judge_0 : decode M_Trip_judge.2.1 0 = .ok (.aload_n 1, 1) := by decide +kernel
theorem d_Trip_judge_1 : decode M_Trip_judge.2.1 1 = .ok (.getfield 45, 3) := by decide +kernel
theorem d_Trip_judge_4 : decode M_Trip_judge.2.1 4 = .ok (.iload_n 2, 1) := by decide +kernel
theorem d_Trip_judge_5 : decode M_Trip_judge.2.1 5 = .ok (.aaload, 1) := by decide +kernel
theorem d_Trip_judge_6 : decode M_Trip_judge.2.1 6 = .ok (.astore_n 3, 1) := by decide +kernel
theorem d_Trip_judge_7 : decode M_Trip_judge.2.1 7 = .ok (.aload_n 1, 1) := by decide +kernel
theorem d_Trip_judge_8 : decode M_Trip_judge.2.1 8 = .ok (.getfield 51, 3) := by decide +kernel
theorem d_Trip_judge_11 : decode M_Trip_judge.2.1 11 = .ok (.iload_n 2, 1) := by decide +kernel
theorem d_Trip_judge_12 : decode M_Trip_judge.2.1 12 = .ok (.iaload, 1) := by decide +kernel
theorem d_Trip_judge_13 : decode M_Trip_judge.2.1 13 = .ok (.istore 4, 2) := by decide +kernel
theorem d_Trip_judge_15 : decode M_Trip_judge.2.1 15 = .ok (.aload_n 0, 1) := by decide +kernel
theorem d_Trip_judge_16 : decode M_Trip_judge.2.1 16 = .ok (.iconst (-1), 1) := by decide +kernel
theorem d_Trip_judge_17 : decode M_Trip_judge.2.1 17 = .ok (.putfield 54, 3) := by decide +kernel
theorem d_Trip_judge_20 : decode M_Trip_judge.2.1 20 = .ok (.aload_n 0, 1) := by decide +kernel
theorem d_Trip_judge_21 : decode M_Trip_judge.2.1 21 = .ok (.iconst 0, 1) := by decide +kernel
theorem d_Trip_judge_22 : decode M_Trip_judge.2.1 22 = .ok (.putfield 58, 3) := by decide +kernel
theorem d_Trip_judge_25 : decode M_Trip_judge.2.1 25 = .ok (.aload_n 0, 1) := by decide +kernel
theorem d_Trip_judge_26 : decode M_Trip_judge.2.1 26 = .ok (.iconst 0, 1) := by decide +kernel
theorem d_Trip_judge_27 : decode M_Trip_judge.2.1 27 = .ok (.putfield 61, 3) := by decide +kernel
theorem d_Trip_judge_30 : decode M_Trip_judge.2.1 30 = .ok (.aload_n 0, 1) := by decide +kernel
theorem d_Trip_judge_31 : decode M_Trip_judge.2.1 31 = .ok (.iconst 0, 1) := by decide +kernel
theorem d_Trip_judge_32 : decode M_Trip_judge.2.1 32 = .ok (.putfield 64, 3) := by decide +kernel
theorem d_Trip_judge_35 : decode M_Trip_judge.2.1 35 = .ok (.iload 4, 2) := by decide +kernel
theorem d_Trip_judge_37 : decode M_Trip_judge.2.1 37 = .ok (.ifCond .ne 5, 3) := by decide +kernel
theorem d_Trip_judge_40 : decode M_Trip_judge.2.1 40 = .ok (.iconst 0, 1) := by decide +kernel
theorem d_Trip_judge_41 : decode M_Trip_judge.2.1 41 = .ok (.ireturn, 1) := by decide +kernel
theorem d_Trip_judge_42 : decode M_Trip_judge.2.1 42 = .ok (.aload_n 0, 1) := by decide +kernel
theorem d_Trip_judge_43 : decode M_Trip_judge.2.1 43 = .ok (.aload_n 3, 1) := by decide +kernel
theorem d_Trip_judge_44 : decode M_Trip_judge.2.1 44 = .ok (.iload 4, 2) := by decide +kernel
theorem d_Trip_judge_46 : decode M_Trip_judge.2.1 46 = .ok (.invokevirtual 67, 3) := by decide +kernel
theorem d_Trip_judge_49 : decode M_Trip_judge.2.1 49 = .ok (.ifCond .ne 5, 3) := by decide +kernel
theorem d_Trip_judge_52 : decode M_Trip_judge.2.1 52 = .ok (.iconst 1, 1) := by decide +kernel
theorem d_Trip_judge_53 : decode M_Trip_judge.2.1 53 = .ok (.ireturn, 1) := by decide +kernel
theorem d_Trip_judge_54 : decode M_Trip_judge.2.1 54 = .ok (.aload_n 0, 1) := by decide +kernel
theorem d_Trip_judge_55 : decode M_Trip_judge.2.1 55 = .ok (.iload_n 2, 1) := by decide +kernel
theorem d_Trip_judge_56 : decode M_Trip_judge.2.1 56 = .ok (.aload_n 3, 1) := by decide +kernel
theorem d_Trip_judge_57 : decode M_Trip_judge.2.1 57 = .ok (.iload 4, 2) := by decide +kernel
theorem d_Trip_judge_59 : decode M_Trip_judge.2.1 59 = .ok (.invokevirtual 71, 3) := by decide +kernel
theorem d_Trip_judge_62 : decode M_Trip_judge.2.1 62 = .ok (.ifCond .ne 5, 3) := by decide +kernel
theorem d_Trip_judge_65 : decode M_Trip_judge.2.1 65 = .ok (.iconst 2, 1) := by decide +kernel
theorem d_Trip_judge_66 : decode M_Trip_judge.2.1 66 = .ok (.ireturn, 1) := by decide +kernel
theorem d_Trip_judge_67 : decode M_Trip_judge.2.1 67 = .ok (.aload_n 0, 1) := by decide +kernel
theorem d_Trip_judge_68 : decode M_Trip_judge.2.1 68 = .ok (.iload_n 2, 1) := by decide +kernel
theorem d_Trip_judge_69 : decode M_Trip_judge.2.1 69 = .ok (.aload_n 3, 1) := by decide +kernel
theorem d_Trip_judge_70 : decode M_Trip_judge.2.1 70 = .ok (.iload 4, 2) := by decide +kernel
theorem d_Trip_judge_72 : decode M_Trip_judge.2.1 72 = .ok (.invokevirtual 75, 3) := by decide +kernel
theorem d_Trip_judge_75 : decode M_Trip_judge.2.1 75 = .ok (.ifCond .ne 5, 3) := by decide +kernel
theorem d_Trip_judge_78 : decode M_Trip_judge.2.1 78 = .ok (.iconst 3, 1) := by decide +kernel
theorem d_Trip_judge_79 : decode M_Trip_judge.2.1 79 = .ok (.ireturn, 1) := by decide +kernel
theorem d_Trip_judge_80 : decode M_Trip_judge.2.1 80 = .ok (.aload_n 0, 1) := by decide +kernel
theorem d_Trip_judge_81 : decode M_Trip_judge.2.1 81 = .ok (.iload_n 2, 1) := by decide +kernel
theorem d_Trip_judge_82 : decode M_Trip_judge.2.1 82 = .ok (.aload_n 3, 1) := by decide +kernel
theorem d_Trip_judge_83 : decode M_Trip_judge.2.1 83 = .ok (.iload 4, 2) := by decide +kernel
theorem d_Trip_judge_85 : decode M_Trip_judge.2.1 85 = .ok (.invokevirtual 78, 3) := by decide +kernel
theorem d_Trip_judge_88 : decode M_Trip_judge.2.1 88 = .ok (.ifCond .ne 5, 3) := by decide +kernel
theorem d_Trip_judge_91 : decode M_Trip_judge.2.1 91 = .ok (.iconst 4, 1) := by decide +kernel
theorem d_Trip_judge_92 : decode M_Trip_judge.2.1 92 = .ok (.ireturn, 1) := by decide +kernel
theorem d_Trip_judge_93 : decode M_Trip_judge.2.1 93 = .ok (.aload_n 0, 1) := by decide +kernel
theorem d_Trip_judge_94 : decode M_Trip_judge.2.1 94 = .ok (.dup, 1) := by decide +kernel
theorem d_Trip_judge_95 : decode M_Trip_judge.2.1 95 = .ok (.getfield 58, 3) := by decide +kernel
theorem d_Trip_judge_98 : decode M_Trip_judge.2.1 98 = .ok (.aload_n 0, 1) := by decide +kernel
theorem d_Trip_judge_99 : decode M_Trip_judge.2.1 99 = .ok (.getfield 81, 3) := by decide +kernel
theorem d_Trip_judge_102 : decode M_Trip_judge.2.1 102 = .ok (.aload_n 0, 1) := by decide +kernel
theorem d_Trip_judge_103 : decode M_Trip_judge.2.1 103 = .ok (.getfield 28, 3) := by decide +kernel
theorem d_Trip_judge_106 : decode M_Trip_judge.2.1 106 = .ok (.getfield 84, 3) := by decide +kernel
theorem d_Trip_judge_109 : decode M_Trip_judge.2.1 109 = .ok (.iload_n 2, 1) := by decide +kernel
theorem d_Trip_judge_110 : decode M_Trip_judge.2.1 110 = .ok (.iaload, 1) := by decide +kernel
theorem d_Trip_judge_111 : decode M_Trip_judge.2.1 111 = .ok (.isub, 1) := by decide +kernel
theorem d_Trip_judge_112 : decode M_Trip_judge.2.1 112 = .ok (.aload_n 0, 1) := by decide +kernel
theorem d_Trip_judge_113 : decode M_Trip_judge.2.1 113 = .ok (.getfield 28, 3) := by decide +kernel
theorem d_Trip_judge_116 : decode M_Trip_judge.2.1 116 = .ok (.getfield 87, 3) := by decide +kernel
theorem d_Trip_judge_119 : decode M_Trip_judge.2.1 119 = .ok (.iload_n 2, 1) := by decide +kernel
theorem d_Trip_judge_120 : decode M_Trip_judge.2.1 120 = .ok (.iaload, 1) := by decide +kernel
theorem d_Trip_judge_121 : decode M_Trip_judge.2.1 121 = .ok (.iadd, 1) := by decide +kernel
theorem d_Trip_judge_122 : decode M_Trip_judge.2.1 122 = .ok (.iadd, 1) := by decide +kernel
theorem d_Trip_judge_123 : decode M_Trip_judge.2.1 123 = .ok (.putfield 58, 3) := by decide +kernel
theorem d_Trip_judge_126 : decode M_Trip_judge.2.1 126 = .ok (.iconst 0, 1) := by decide +kernel
theorem d_Trip_judge_127 : decode M_Trip_judge.2.1 127 = .ok (.ireturn, 1) := by decide +kernel
theorem d_Trip_isPaired_0 : decode M_Trip_isPaired.2.1 0 = .ok (.iconst 0, 1) := by decide +kernel
theorem d_Trip_isPaired_1 : decode M_Trip_isPaired.2.1 1 = .ok (.istore_n 3, 1) := by decide +kernel
theorem d_Trip_isPaired_2 : decode M_Trip_isPaired.2.1 2 = .ok (.iconst 0, 1) := by decide +kernel
theorem d_Trip_isPaired_3 : decode M_Trip_isPaired.2.1 3 = .ok (.istore 4, 2) := by decide +kernel
theorem d_Trip_isPaired_5 : decode M_Trip_isPaired.2.1 5 = .ok (.iload 4, 2) := by decide +kernel
theorem d_Trip_isPaired_7 : decode M_Trip_isPaired.2.1 7 = .ok (.iload_n 2, 1) := by decide +kernel
theorem d_Trip_isPaired_8 : decode M_Trip_isPaired.2.1 8 = .ok (.if_icmp .ge 18, 3) := by decide +kernel
theorem d_Trip_isPaired_11 : decode M_Trip_isPaired.2.1 11 = .ok (.iload_n 3, 1) := by decide +kernel
theorem d_Trip_isPaired_12 : decode M_Trip_isPaired.2.1 12 = .ok (.iconst 1, 1) := by decide +kernel
theorem d_Trip_isPaired_13 : decode M_Trip_isPaired.2.1 13 = .ok (.aload_n 1, 1) := by decide +kernel
theorem d_Trip_isPaired_14 : decode M_Trip_isPaired.2.1 14 = .ok (.iload 4, 2) := by decide +kernel
theorem d_Trip_isPaired_16 : decode M_Trip_isPaired.2.1 16 = .ok (.iaload, 1) := by decide +kernel
theorem d_Trip_isPaired_17 : decode M_Trip_isPaired.2.1 17 = .ok (.ishl, 1) := by decide +kernel
theorem d_Trip_isPaired_18 : decode M_Trip_isPaired.2.1 18 = .ok (.ior, 1) := by decide +kernel
theorem d_Trip_isPaired_19 : decode M_Trip_isPaired.2.1 19 = .ok (.istore_n 3, 1) := by decide +kernel
theorem d_Trip_isPaired_20 : decode M_Trip_isPaired.2.1 20 = .ok (.iinc 4 1, 3) := by decide +kernel
theorem d_Trip_isPaired_23 : decode M_Trip_isPaired.2.1 23 = .ok (.goto (-18), 3) := by decide +kernel
theorem d_Trip_isPaired_26 : decode M_Trip_isPaired.2.1 26 = .ok (.iconst 0, 1) := by decide +kernel
theorem d_Trip_isPaired_27 : decode M_Trip_isPaired.2.1 27 = .ok (.istore 4, 2) := by decide +kernel
theorem d_Trip_isPaired_29 : decode M_Trip_isPaired.2.1 29 = .ok (.iconst 0, 1) := by decide +kernel
theorem d_Trip_isPaired_30 : decode M_Trip_isPaired.2.1 30 = .ok (.istore 5, 2) := by decide +kernel
theorem d_Trip_isPaired_32 : decode M_Trip_isPaired.2.1 32 = .ok (.iload 5, 2) := by decide +kernel
theorem d_Trip_isPaired_34 : decode M_Trip_isPaired.2.1 34 = .ok (.iload_n 2, 1) := by decide +kernel
theorem d_Trip_isPaired_35 : decode M_Trip_isPaired.2.1 35 = .ok (.if_icmp .ge 82, 3) := by decide +kernel
theorem d_Trip_isPaired_38 : decode M_Trip_isPaired.2.1 38 = .ok (.aload_n 1, 1) := by decide +kernel
theorem d_Trip_isPaired_39 : decode M_Trip_isPaired.2.1 39 = .ok (.iload 5, 2) := by decide +kernel
theorem d_Trip_isPaired_41 : decode M_Trip_isPaired.2.1 41 = .ok (.iaload, 1) := by decide +kernel
theorem d_Trip_isPaired_42 : decode M_Trip_isPaired.2.1 42 = .ok (.istore 6, 2) := by decide +kernel
theorem d_Trip_isPaired_44 : decode M_Trip_isPaired.2.1 44 = .ok (.aload_n 0, 1) := by decide +kernel
theorem d_Trip_isPaired_45 : decode M_Trip_isPaired.2.1 45 = .ok (.getfield 21, 3) := by decide +kernel
theorem d_Trip_isPaired_48 : decode M_Trip_isPaired.2.1 48 = .ok (.getfield 100, 3) := by decide +kernel
theorem d_Trip_isPaired_51 : decode M_Trip_isPaired.2.1 51 = .ok (.iload 6, 2) := by decide +kernel
theorem d_Trip_isPaired_53 : decode M_Trip_isPaired.2.1 53 = .ok (.iaload, 1) := by decide +kernel
theorem d_Trip_isPaired_54 : decode M_Trip_isPaired.2.1 54 = .ok (.istore 7, 2) := by decide +kernel
theorem d_Trip_isPaired_56 : decode M_Trip_isPaired.2.1 56 = .ok (.aload_n 0, 1) := by decide +kernel
theorem d_Trip_isPaired_57 : decode M_Trip_isPaired.2.1 57 = .ok (.getfield 21, 3) := by decide +kernel
theorem d_Trip_isPaired_60 : decode M_Trip_isPaired.2.1 60 = .ok (.getfield 97, 3) := by decide +kernel
theorem d_Trip_isPaired_63 : decode M_Trip_isPaired.2.1 63 = .ok (.iload 6, 2) := by decide +kernel
theorem d_Trip_isPaired_65 : decode M_Trip_isPaired.2.1 65 = .ok (.iaload, 1) := by decide +kernel
theorem d_Trip_isPaired_66 : decode M_Trip_isPaired.2.1 66 = .ok (.iconst 2, 1) := by decide +kernel
theorem d_Trip_isPaired_67 : decode M_Trip_isPaired.2.1 67 = .ok (.if_icmp .ne 8, 3) := by decide +kernel
theorem d_Trip_isPaired_70 : decode M_Trip_isPaired.2.1 70 = .ok (.iload 4, 2) := by decide +kernel
theorem d_Trip_isPaired_72 : decode M_Trip_isPaired.2.1 72 = .ok (.goto 4, 3) := by decide +kernel
theorem d_Trip_isPaired_75 : decode M_Trip_isPaired.2.1 75 = .ok (.iload_n 3, 1) := by decide +kernel
theorem d_Trip_isPaired_76 : decode M_Trip_isPaired.2.1 76 = .ok (.istore 8, 2) := by decide +kernel
theorem d_Trip_isPaired_78 : decode M_Trip_isPaired.2.1 78 = .ok (.iload 7, 2) := by decide +kernel
theorem d_Trip_isPaired_80 : decode M_Trip_isPaired.2.1 80 = .ok (.iconst (-1), 1) := by decide +kernel
theorem d_Trip_isPaired_81 : decode M_Trip_isPaired.2.1 81 = .ok (.if_icmp .eq 21, 3) := by decide +kernel
theorem d_Trip_isPaired_84 : decode M_Trip_isPaired.2.1 84 = .ok (.iload 8, 2) := by decide +kernel
theorem d_Trip_isPaired_86 : decode M_Trip_isPaired.2.1 86 = .ok (.iload 7, 2) := by decide +kernel
theorem d_Trip_isPaired_88 : decode M_Trip_isPaired.2.1 88 = .ok (.ishr, 1) := by decide +kernel
theorem d_Trip_isPaired_89 : decode M_Trip_isPaired.2.1 89 = .ok (.iconst 1, 1) := by decide +kernel
theorem d_Trip_isPaired_90 : decode M_Trip_isPaired.2.1 90 = .ok (.iand, 1) := by decide +kernel
theorem d_Trip_isPaired_91 : decode M_Trip_isPaired.2.1 91 = .ok (.ifCond .ne 11, 3) := by decide +kernel
theorem d_Trip_isPaired_94 : decode M_Trip_isPaired.2.1 94 = .ok (.aload_n 0, 1) := by decide +kernel
theorem d_Trip_isPaired_95 : decode M_Trip_isPaired.2.1 95 = .ok (.iload 5, 2) := by decide +kernel
theorem d_Trip_isPaired_97 : decode M_Trip_isPaired.2.1 97 = .ok (.putfield 54, 3) := by decide +kernel
theorem d_Trip_isPaired_100 : decode M_Trip_isPaired.2.1 100 = .ok (.iconst 0, 1) := by decide +kernel
theorem d_Trip_isPaired_101 : decode M_Trip_isPaired.2.1 101 = .ok (.ireturn, 1) := by decide +kernel
theorem d_Trip_isPaired_102 : decode M_Trip_isPaired.2.1 102 = .ok (.iload 4, 2) := by decide +kernel
theorem d_Trip_isPaired_104 : decode M_Trip_isPaired.2.1 104 = .ok (.iconst 1, 1) := by decide +kernel
theorem d_Trip_isPaired_105 : decode M_Trip_isPaired.2.1 105 = .ok (.iload 6, 2) := by decide +kernel
theorem d_Trip_isPaired_107 : decode M_Trip_isPaired.2.1 107 = .ok (.ishl, 1) := by decide +kernel
theorem d_Trip_isPaired_108 : decode M_Trip_isPaired.2.1 108 = .ok (.ior, 1) := by decide +kernel
theorem d_Trip_isPaired_109 : decode M_Trip_isPaired.2.1 109 = .ok (.istore 4, 2) := by decide +kernel
theorem d_Trip_isPaired_111 : decode M_Trip_isPaired.2.1 111 = .ok (.iinc 5 1, 3) := by decide +kernel
theorem d_Trip_isPaired_114 : decode M_Trip_isPaired.2.1 114 = .ok (.goto (-82), 3) := by decide +kernel
theorem d_Trip_isPaired_117 : decode M_Trip_isPaired.2.1 117 = .ok (.iconst 1, 1) := by decide +kernel
theorem d_Trip_isPaired_118 : decode M_Trip_isPaired.2.1 118 = .ok (.ireturn, 1) := by decide +kernel
theorem d_Trip_isCarried_0 : decode M_Trip_isCarried.2.1 0 = .ok (.iconst 0, 1) := by decide +kernel
theorem d_Trip_isCarried_1 : decode M_Trip_isCarried.2.1 1 = .ok (.istore 4, 2) := by decide +kernel
theorem d_Trip_isCarried_3 : decode M_Trip_isCarried.2.1 3 = .ok (.iconst 0, 1) := by decide +kernel
theorem d_Trip_isCarried_4 : decode M_Trip_isCarried.2.1 4 = .ok (.istore 5, 2) := by decide +kernel
theorem d_Trip_isCarried_6 : decode M_Trip_isCarried.2.1 6 = .ok (.iload 5, 2) := by decide +kernel
theorem d_Trip_isCarried_8 : decode M_Trip_isCarried.2.1 8 = .ok (.iload_n 3, 1) := by decide +kernel
theorem d_Trip_isCarried_9 : decode M_Trip_isCarried.2.1 9 = .ok (.if_icmp .ge 40, 3) := by decide +kernel
theorem d_Trip_isCarried_12 : decode M_Trip_isCarried.2.1 12 = .ok (.aload_n 0, 1) := by decide +kernel
theorem d_Trip_isCarried_13 : decode M_Trip_isCarried.2.1 13 = .ok (.getfield 21, 3) := by decide +kernel
theorem d_Trip_isCarried_16 : decode M_Trip_isCarried.2.1 16 = .ok (.aload_n 2, 1) := by decide +kernel
theorem d_Trip_isCarried_17 : decode M_Trip_isCarried.2.1 17 = .ok (.iload 5, 2) := by decide +kernel
theorem d_Trip_isCarried_19 : decode M_Trip_isCarried.2.1 19 = .ok (.iaload, 1) := by decide +kernel
theorem d_Trip_isCarried_20 : decode M_Trip_isCarried.2.1 20 = .ok (.invokevirtual 103, 3) := by decide +kernel
theorem d_Trip_isCarried_23 : decode M_Trip_isCarried.2.1 23 = .ok (.ifCond .eq 20, 3) := by decide +kernel
theorem d_Trip_isCarried_26 : decode M_Trip_isCarried.2.1 26 = .ok (.iload 4, 2) := by decide +kernel
theorem d_Trip_isCarried_28 : decode M_Trip_isCarried.2.1 28 = .ok (.aload_n 0, 1) := by decide +kernel
theorem d_Trip_isCarried_29 : decode M_Trip_isCarried.2.1 29 = .ok (.getfield 21, 3) := by decide +kernel
theorem d_Trip_isCarried_32 : decode M_Trip_isCarried.2.1 32 = .ok (.getfield 107, 3) := by decide +kernel
theorem d_Trip_isCarried_35 : decode M_Trip_isCarried.2.1 35 = .ok (.aload_n 2, 1) := by decide +kernel
theorem d_Trip_isCarried_36 : decode M_Trip_isCarried.2.1 36 = .ok (.iload 5, 2) := by decide +kernel
theorem d_Trip_isCarried_38 : decode M_Trip_isCarried.2.1 38 = .ok (.iaload, 1) := by decide +kernel
theorem d_Trip_isCarried_39 : decode M_Trip_isCarried.2.1 39 = .ok (.iaload, 1) := by decide +kernel
theorem d_Trip_isCarried_40 : decode M_Trip_isCarried.2.1 40 = .ok (.iadd, 1) := by decide +kernel
theorem d_Trip_isCarried_41 : decode M_Trip_isCarried.2.1 41 = .ok (.istore 4, 2) := by decide +kernel
theorem d_Trip_isCarried_43 : decode M_Trip_isCarried.2.1 43 = .ok (.iinc 5 1, 3) := by decide +kernel
theorem d_Trip_isCarried_46 : decode M_Trip_isCarried.2.1 46 = .ok (.goto (-40), 3) := by decide +kernel
theorem d_Trip_isCarried_49 : decode M_Trip_isCarried.2.1 49 = .ok (.iload 4, 2) := by decide +kernel
theorem d_Trip_isCarried_51 : decode M_Trip_isCarried.2.1 51 = .ok (.aload_n 0, 1) := by decide +kernel
theorem d_Trip_isCarried_52 : decode M_Trip_isCarried.2.1 52 = .ok (.getfield 28, 3) := by decide +kernel
theorem d_Trip_isCarried_55 : decode M_Trip_isCarried.2.1 55 = .ok (.getfield 110, 3) := by decide +kernel
theorem d_Trip_isCarried_58 : decode M_Trip_isCarried.2.1 58 = .ok (.iload_n 1, 1) := by decide +kernel
theorem d_Trip_isCarried_59 : decode M_Trip_isCarried.2.1 59 = .ok (.iaload, 1) := by decide +kernel
theorem d_Trip_isCarried_60 : decode M_Trip_isCarried.2.1 60 = .ok (.if_icmp .le 5, 3) := by decide +kernel
theorem d_Trip_isCarried_63 : decode M_Trip_isCarried.2.1 63 = .ok (.iconst 0, 1) := by decide +kernel
theorem d_Trip_isCarried_64 : decode M_Trip_isCarried.2.1 64 = .ok (.ireturn, 1) := by decide +kernel
theorem d_Trip_isCarried_65 : decode M_Trip_isCarried.2.1 65 = .ok (.iconst 0, 1) := by decide +kernel
theorem d_Trip_isCarried_66 : decode M_Trip_isCarried.2.1 66 = .ok (.istore 5, 2) := by decide +kernel
theorem d_Trip_isCarried_68 : decode M_Trip_isCarried.2.1 68 = .ok (.iload 5, 2) := by decide +kernel
theorem d_Trip_isCarried_70 : decode M_Trip_isCarried.2.1 70 = .ok (.iload_n 3, 1) := by decide +kernel
theorem d_Trip_isCarried_71 : decode M_Trip_isCarried.2.1 71 = .ok (.if_icmp .ge 83, 3) := by decide +kernel
theorem d_Trip_isCarried_74 : decode M_Trip_isCarried.2.1 74 = .ok (.aload_n 0, 1) := by decide +kernel
theorem d_Trip_isCarried_75 : decode M_Trip_isCarried.2.1 75 = .ok (.getfield 21, 3) := by decide +kernel
theorem d_Trip_isCarried_78 : decode M_Trip_isCarried.2.1 78 = .ok (.getfield 107, 3) := by decide +kernel
theorem d_Trip_isCarried_81 : decode M_Trip_isCarried.2.1 81 = .ok (.aload_n 2, 1) := by decide +kernel
theorem d_Trip_isCarried_82 : decode M_Trip_isCarried.2.1 82 = .ok (.iload 5, 2) := by decide +kernel
theorem d_Trip_isCarried_84 : decode M_Trip_isCarried.2.1 84 = .ok (.iaload, 1) := by decide +kernel
theorem d_Trip_isCarried_85 : decode M_Trip_isCarried.2.1 85 = .ok (.iaload, 1) := by decide +kernel
theorem d_Trip_isCarried_86 : decode M_Trip_isCarried.2.1 86 = .ok (.istore 6, 2) := by decide +kernel
theorem d_Trip_isCarried_88 : decode M_Trip_isCarried.2.1 88 = .ok (.iload 4, 2) := by decide +kernel
theorem d_Trip_isCarried_90 : decode M_Trip_isCarried.2.1 90 = .ok (.aload_n 0, 1) := by decide +kernel
theorem d_Trip_isCarried_91 : decode M_Trip_isCarried.2.1 91 = .ok (.getfield 21, 3) := by decide +kernel
theorem d_Trip_isCarried_94 : decode M_Trip_isCarried.2.1 94 = .ok (.getfield 97, 3) := by decide +kernel
theorem d_Trip_isCarried_97 : decode M_Trip_isCarried.2.1 97 = .ok (.aload_n 2, 1) := by decide +kernel
theorem d_Trip_isCarried_98 : decode M_Trip_isCarried.2.1 98 = .ok (.iload 5, 2) := by decide +kernel
theorem d_Trip_isCarried_100 : decode M_Trip_isCarried.2.1 100 = .ok (.iaload, 1) := by decide +kernel
theorem d_Trip_isCarried_101 : decode M_Trip_isCarried.2.1 101 = .ok (.iaload, 1) := by decide +kernel
theorem d_Trip_isCarried_102 : decode M_Trip_isCarried.2.1 102 = .ok (.iconst 1, 1) := by decide +kernel
theorem d_Trip_isCarried_103 : decode M_Trip_isCarried.2.1 103 = .ok (.if_icmp .ne 8, 3) := by decide +kernel
theorem d_Trip_isCarried_106 : decode M_Trip_isCarried.2.1 106 = .ok (.iload 6, 2) := by decide +kernel
theorem d_Trip_isCarried_108 : decode M_Trip_isCarried.2.1 108 = .ok (.goto 6, 3) := by decide +kernel
theorem d_Trip_isCarried_111 : decode M_Trip_isCarried.2.1 111 = .ok (.iload 6, 2) := by decide +kernel
theorem d_Trip_isCarried_113 : decode M_Trip_isCarried.2.1 113 = .ok (.ineg, 1) := by decide +kernel
theorem d_Trip_isCarried_114 : decode M_Trip_isCarried.2.1 114 = .ok (.iadd, 1) := by decide +kernel
theorem d_Trip_isCarried_115 : decode M_Trip_isCarried.2.1 115 = .ok (.istore 4, 2) := by decide +kernel
theorem d_Trip_isCarried_117 : decode M_Trip_isCarried.2.1 117 = .ok (.aload_n 0, 1) := by decide +kernel
theorem d_Trip_isCarried_118 : decode M_Trip_isCarried.2.1 118 = .ok (.getfield 42, 3) := by decide +kernel
theorem d_Trip_isCarried_121 : decode M_Trip_isCarried.2.1 121 = .ok (.iload 5, 2) := by decide +kernel
theorem d_Trip_isCarried_123 : decode M_Trip_isCarried.2.1 123 = .ok (.iload 4, 2) := by decide +kernel
theorem d_Trip_isCarried_125 : decode M_Trip_isCarried.2.1 125 = .ok (.iastore, 1) := by decide +kernel
theorem d_Trip_isCarried_126 : decode M_Trip_isCarried.2.1 126 = .ok (.iload 4, 2) := by decide +kernel
theorem d_Trip_isCarried_128 : decode M_Trip_isCarried.2.1 128 = .ok (.aload_n 0, 1) := by decide +kernel
theorem d_Trip_isCarried_129 : decode M_Trip_isCarried.2.1 129 = .ok (.getfield 28, 3) := by decide +kernel
theorem d_Trip_isCarried_132 : decode M_Trip_isCarried.2.1 132 = .ok (.getfield 110, 3) := by decide +kernel
theorem d_Trip_isCarried_135 : decode M_Trip_isCarried.2.1 135 = .ok (.iload_n 1, 1) := by decide +kernel
theorem d_Trip_isCarried_136 : decode M_Trip_isCarried.2.1 136 = .ok (.iaload, 1) := by decide +kernel
theorem d_Trip_isCarried_137 : decode M_Trip_isCarried.2.1 137 = .ok (.if_icmp .le 11, 3) := by decide +kernel
theorem d_Trip_isCarried_140 : decode M_Trip_isCarried.2.1 140 = .ok (.aload_n 0, 1) := by decide +kernel
theorem d_Trip_isCarried_141 : decode M_Trip_isCarried.2.1 141 = .ok (.iload 5, 2) := by decide +kernel
theorem d_Trip_isCarried_143 : decode M_Trip_isCarried.2.1 143 = .ok (.putfield 54, 3) := by decide +kernel
theorem d_Trip_isCarried_146 : decode M_Trip_isCarried.2.1 146 = .ok (.iconst 0, 1) := by decide +kernel
theorem d_Trip_isCarried_147 : decode M_Trip_isCarried.2.1 147 = .ok (.ireturn, 1) := by decide +kernel
theorem d_Trip_isCarried_148 : decode M_Trip_isCarried.2.1 148 = .ok (.iinc 5 1, 3) := by decide +kernel
theorem d_Trip_isCarried_151 : decode M_Trip_isCarried.2.1 151 = .ok (.goto (-83), 3) := by decide +kernel
theorem d_Trip_isCarried_154 : decode M_Trip_isCarried.2.1 154 = .ok (.iconst 1, 1) := by decide +kernel
theorem d_Trip_isCarried_155 : decode M_Trip_isCarried.2.1 155 = .ok (.ireturn, 1) := by decide +kernel
theorem d_Stops_isAboardAtFirst_0 : decode M_Stops_isAboardAtFirst.2.1 0 = .ok (.aload_n 0, 1) := by decide +kernel
theorem d_Stops_isAboardAtFirst_1 : decode M_Stops_isAboardAtFirst.2.1 1 = .ok (.getfield 9, 3) := by decide +kernel
theorem d_Stops_isAboardAtFirst_4 : decode M_Stops_isAboardAtFirst.2.1 4 = .ok (.iload_n 1, 1) := by decide +kernel
theorem d_Stops_isAboardAtFirst_5 : decode M_Stops_isAboardAtFirst.2.1 5 = .ok (.iaload, 1) := by decide +kernel
theorem d_Stops_isAboardAtFirst_6 : decode M_Stops_isAboardAtFirst.2.1 6 = .ok (.iconst 1, 1) := by decide +kernel
theorem d_Stops_isAboardAtFirst_7 : decode M_Stops_isAboardAtFirst.2.1 7 = .ok (.if_icmp .eq 17, 3) := by decide +kernel
theorem d_Stops_isAboardAtFirst_10 : decode M_Stops_isAboardAtFirst.2.1 10 = .ok (.aload_n 0, 1) := by decide +kernel
theorem d_Stops_isAboardAtFirst_11 : decode M_Stops_isAboardAtFirst.2.1 11 = .ok (.getfield 9, 3) := by decide +kernel
theorem d_Stops_isAboardAtFirst_14 : decode M_Stops_isAboardAtFirst.2.1 14 = .ok (.iload_n 1, 1) := by decide +kernel
theorem d_Stops_isAboardAtFirst_15 : decode M_Stops_isAboardAtFirst.2.1 15 = .ok (.iaload, 1) := by decide +kernel
theorem d_Stops_isAboardAtFirst_16 : decode M_Stops_isAboardAtFirst.2.1 16 = .ok (.iconst 2, 1) := by decide +kernel
theorem d_Stops_isAboardAtFirst_17 : decode M_Stops_isAboardAtFirst.2.1 17 = .ok (.if_icmp .eq 7, 3) := by decide +kernel
theorem d_Stops_isAboardAtFirst_20 : decode M_Stops_isAboardAtFirst.2.1 20 = .ok (.iconst 1, 1) := by decide +kernel
theorem d_Stops_isAboardAtFirst_21 : decode M_Stops_isAboardAtFirst.2.1 21 = .ok (.goto 4, 3) := by decide +kernel
theorem d_Stops_isAboardAtFirst_24 : decode M_Stops_isAboardAtFirst.2.1 24 = .ok (.iconst 0, 1) := by decide +kernel
theorem d_Stops_isAboardAtFirst_25 : decode M_Stops_isAboardAtFirst.2.1 25 = .ok (.ireturn, 1) := by decide +kernel
theorem d_Trip_isInTime_0 : decode M_Trip_isInTime.2.1 0 = .ok (.iconst 0, 1) := by decide +kernel
theorem d_Trip_isInTime_1 : decode M_Trip_isInTime.2.1 1 = .ok (.istore 4, 2) := by decide +kernel
theorem d_Trip_isInTime_3 : decode M_Trip_isInTime.2.1 3 = .ok (.aload_n 0, 1) := by decide +kernel
theorem d_Trip_isInTime_4 : decode M_Trip_isInTime.2.1 4 = .ok (.getfield 28, 3) := by decide +kernel
theorem d_Trip_isInTime_7 : decode M_Trip_isInTime.2.1 7 = .ok (.getfield 84, 3) := by decide +kernel
theorem d_Trip_isInTime_10 : decode M_Trip_isInTime.2.1 10 = .ok (.iload_n 1, 1) := by decide +kernel
theorem d_Trip_isInTime_11 : decode M_Trip_isInTime.2.1 11 = .ok (.iaload, 1) := by decide +kernel
theorem d_Trip_isInTime_12 : decode M_Trip_isInTime.2.1 12 = .ok (.istore 5, 2) := by decide +kernel
theorem d_Trip_isInTime_14 : decode M_Trip_isInTime.2.1 14 = .ok (.iconst 0, 1) := by decide +kernel
theorem d_Trip_isInTime_15 : decode M_Trip_isInTime.2.1 15 = .ok (.istore 6, 2) := by decide +kernel
theorem d_Trip_isInTime_17 : decode M_Trip_isInTime.2.1 17 = .ok (.iload 6, 2) := by decide +kernel
theorem d_Trip_isInTime_19 : decode M_Trip_isInTime.2.1 19 = .ok (.iload_n 3, 1) := by decide +kernel
theorem d_Trip_isInTime_20 : decode M_Trip_isInTime.2.1 20 = .ok (.if_icmp .ge 248, 3) := by decide +kernel
theorem d_Trip_isInTime_23 : decode M_Trip_isInTime.2.1 23 = .ok (.aload_n 2, 1) := by decide +kernel
theorem d_Trip_isInTime_24 : decode M_Trip_isInTime.2.1 24 = .ok (.iload 6, 2) := by decide +kernel
theorem d_Trip_isInTime_26 : decode M_Trip_isInTime.2.1 26 = .ok (.iaload, 1) := by decide +kernel
theorem d_Trip_isInTime_27 : decode M_Trip_isInTime.2.1 27 = .ok (.istore 7, 2) := by decide +kernel
theorem d_Trip_isInTime_29 : decode M_Trip_isInTime.2.1 29 = .ok (.aload_n 0, 1) := by decide +kernel
theorem d_Trip_isInTime_30 : decode M_Trip_isInTime.2.1 30 = .ok (.getfield 32, 3) := by decide +kernel
theorem d_Trip_isInTime_33 : decode M_Trip_isInTime.2.1 33 = .ok (.iload 6, 2) := by decide +kernel
theorem d_Trip_isInTime_35 : decode M_Trip_isInTime.2.1 35 = .ok (.aload_n 0, 1) := by decide +kernel
theorem d_Trip_isInTime_36 : decode M_Trip_isInTime.2.1 36 = .ok (.getfield 12, 3) := by decide +kernel
theorem d_Trip_isInTime_39 : decode M_Trip_isInTime.2.1 39 = .ok (.iload 4, 2) := by decide +kernel
theorem d_Trip_isInTime_41 : decode M_Trip_isInTime.2.1 41 = .ok (.aload_n 0, 1) := by decide +kernel
theorem d_Trip_isInTime_42 : decode M_Trip_isInTime.2.1 42 = .ok (.getfield 21, 3) := by decide +kernel
theorem d_Trip_isInTime_45 : decode M_Trip_isInTime.2.1 45 = .ok (.getfield 113, 3) := by decide +kernel
theorem d_Trip_isInTime_48 : decode M_Trip_isInTime.2.1 48 = .ok (.iload 7, 2) := by decide +kernel
theorem d_Trip_isInTime_50 : decode M_Trip_isInTime.2.1 50 = .ok (.iaload, 1) := by decide +kernel
theorem d_Trip_isInTime_51 : decode M_Trip_isInTime.2.1 51 = .ok (.iload 5, 2) := by decide +kernel
theorem d_Trip_isInTime_53 : decode M_Trip_isInTime.2.1 53 = .ok (.invokevirtual 116, 3) := by decide +kernel
theorem d_Trip_isInTime_56 : decode M_Trip_isInTime.2.1 56 = .ok (.iastore, 1) := by decide +kernel
theorem d_Trip_isInTime_57 : decode M_Trip_isInTime.2.1 57 = .ok (.aload_n 0, 1) := by decide +kernel
theorem d_Trip_isInTime_58 : decode M_Trip_isInTime.2.1 58 = .ok (.getfield 36, 3) := by decide +kernel
theorem d_Trip_isInTime_61 : decode M_Trip_isInTime.2.1 61 = .ok (.iload 6, 2) := by decide +kernel
theorem d_Trip_isInTime_63 : decode M_Trip_isInTime.2.1 63 = .ok (.aload_n 0, 1) := by decide +kernel
theorem d_Trip_isInTime_64 : decode M_Trip_isInTime.2.1 64 = .ok (.getfield 32, 3) := by decide +kernel
theorem d_Trip_isInTime_67 : decode M_Trip_isInTime.2.1 67 = .ok (.iload 6, 2) := by decide +kernel
theorem d_Trip_isInTime_69 : decode M_Trip_isInTime.2.1 69 = .ok (.iaload, 1) := by decide +kernel
theorem d_Trip_isInTime_70 : decode M_Trip_isInTime.2.1 70 = .ok (.aload_n 0, 1) := by decide +kernel
theorem d_Trip_isInTime_71 : decode M_Trip_isInTime.2.1 71 = .ok (.getfield 21, 3) := by decide +kernel
theorem d_Trip_isInTime_74 : decode M_Trip_isInTime.2.1 74 = .ok (.getfield 120, 3) := by decide +kernel
theorem d_Trip_isInTime_77 : decode M_Trip_isInTime.2.1 77 = .ok (.iload 7, 2) := by decide +kernel
theorem d_Trip_isInTime_79 : decode M_Trip_isInTime.2.1 79 = .ok (.iaload, 1) := by decide +kernel
theorem d_Trip_isInTime_80 : decode M_Trip_isInTime.2.1 80 = .ok (.invokestatic 121, 3) := by decide +kernel
theorem d_Trip_isInTime_83 : decode M_Trip_isInTime.2.1 83 = .ok (.iastore, 1) := by decide +kernel
theorem d_Trip_isInTime_84 : decode M_Trip_isInTime.2.1 84 = .ok (.aload_n 0, 1) := by decide +kernel
theorem d_Trip_isInTime_85 : decode M_Trip_isInTime.2.1 85 = .ok (.getfield 39, 3) := by decide +kernel
theorem d_Trip_isInTime_88 : decode M_Trip_isInTime.2.1 88 = .ok (.iload 6, 2) := by decide +kernel
theorem d_Trip_isInTime_90 : decode M_Trip_isInTime.2.1 90 = .ok (.aload_n 0, 1) := by decide +kernel
theorem d_Trip_isInTime_91 : decode M_Trip_isInTime.2.1 91 = .ok (.getfield 36, 3) := by decide +kernel
theorem d_Trip_isInTime_94 : decode M_Trip_isInTime.2.1 94 = .ok (.iload 6, 2) := by decide +kernel
theorem d_Trip_isInTime_96 : decode M_Trip_isInTime.2.1 96 = .ok (.iaload, 1) := by decide +kernel
theorem d_Trip_isInTime_97 : decode M_Trip_isInTime.2.1 97 = .ok (.aload_n 0, 1) := by decide +kernel
theorem d_Trip_isInTime_98 : decode M_Trip_isInTime.2.1 98 = .ok (.getfield 21, 3) := by decide +kernel
theorem d_Trip_isInTime_101 : decode M_Trip_isInTime.2.1 101 = .ok (.getfield 127, 3) := by decide +kernel
theorem d_Trip_isInTime_104 : decode M_Trip_isInTime.2.1 104 = .ok (.iload 7, 2) := by decide +kernel
theorem d_Trip_isInTime_106 : decode M_Trip_isInTime.2.1 106 = .ok (.iaload, 1) := by decide +kernel
theorem d_Trip_isInTime_107 : decode M_Trip_isInTime.2.1 107 = .ok (.iadd, 1) := by decide +kernel
theorem d_Trip_isInTime_108 : decode M_Trip_isInTime.2.1 108 = .ok (.iastore, 1) := by decide +kernel
theorem d_Trip_isInTime_109 : decode M_Trip_isInTime.2.1 109 = .ok (.aload_n 0, 1) := by decide +kernel
theorem d_Trip_isInTime_110 : decode M_Trip_isInTime.2.1 110 = .ok (.getfield 36, 3) := by decide +kernel
theorem d_Trip_isInTime_113 : decode M_Trip_isInTime.2.1 113 = .ok (.iload 6, 2) := by decide +kernel
theorem d_Trip_isInTime_115 : decode M_Trip_isInTime.2.1 115 = .ok (.iaload, 1) := by decide +kernel
theorem d_Trip_isInTime_116 : decode M_Trip_isInTime.2.1 116 = .ok (.aload_n 0, 1) := by decide +kernel
theorem d_Trip_isInTime_117 : decode M_Trip_isInTime.2.1 117 = .ok (.getfield 21, 3) := by decide +kernel
theorem d_Trip_isInTime_120 : decode M_Trip_isInTime.2.1 120 = .ok (.getfield 130, 3) := by decide +kernel
theorem d_Trip_isInTime_123 : decode M_Trip_isInTime.2.1 123 = .ok (.iload 7, 2) := by decide +kernel
theorem d_Trip_isInTime_125 : decode M_Trip_isInTime.2.1 125 = .ok (.iaload, 1) := by decide +kernel
theorem d_Trip_isInTime_126 : decode M_Trip_isInTime.2.1 126 = .ok (.isub, 1) := by decide +kernel
theorem d_Trip_isInTime_127 : decode M_Trip_isInTime.2.1 127 = .ok (.iconst 0, 1) := by decide +kernel
theorem d_Trip_isInTime_128 : decode M_Trip_isInTime.2.1 128 = .ok (.invokestatic 121, 3) := by decide +kernel
theorem d_Trip_isInTime_131 : decode M_Trip_isInTime.2.1 131 = .ok (.istore 8, 2) := by decide +kernel
theorem d_Trip_isInTime_133 : decode M_Trip_isInTime.2.1 133 = .ok (.aload_n 0, 1) := by decide +kernel
theorem d_Trip_isInTime_134 : decode M_Trip_isInTime.2.1 134 = .ok (.getfield 36, 3) := by decide +kernel
theorem d_Trip_isInTime_137 : decode M_Trip_isInTime.2.1 137 = .ok (.iload 6, 2) := by decide +kernel
theorem d_Trip_isInTime_139 : decode M_Trip_isInTime.2.1 139 = .ok (.iaload, 1) := by decide +kernel
theorem d_Trip_isInTime_140 : decode M_Trip_isInTime.2.1 140 = .ok (.sipush 480, 3) := by decide +kernel
theorem d_Trip_isInTime_143 : decode M_Trip_isInTime.2.1 143 = .ok (.if_icmp .ge 22, 3) := by decide +kernel
theorem d_Trip_isInTime_146 : decode M_Trip_isInTime.2.1 146 = .ok (.iload 8, 2) := by decide +kernel
theorem d_Trip_isInTime_148 : decode M_Trip_isInTime.2.1 148 = .ok (.ifCond .le 25, 3) := by decide +kernel
theorem d_Trip_isInTime_151 : decode M_Trip_isInTime.2.1 151 = .ok (.aload_n 0, 1) := by decide +kernel
theorem d_Trip_isInTime_152 : decode M_Trip_isInTime.2.1 152 = .ok (.getfield 21, 3) := by decide +kernel
theorem d_Trip_isInTime_155 : decode M_Trip_isInTime.2.1 155 = .ok (.getfield 97, 3) := by decide +kernel
theorem d_Trip_isInTime_158 : decode M_Trip_isInTime.2.1 158 = .ok (.iload 7, 2) := by decide +kernel
theorem d_Trip_isInTime_160 : decode M_Trip_isInTime.2.1 160 = .ok (.iaload, 1) := by decide +kernel
theorem d_Trip_isInTime_161 : decode M_Trip_isInTime.2.1 161 = .ok (.iconst 3, 1) := by decide +kernel
theorem d_Trip_isInTime_162 : decode M_Trip_isInTime.2.1 162 = .ok (.if_icmp .eq 11, 3) := by decide +kernel
theorem d_Trip_isInTime_165 : decode M_Trip_isInTime.2.1 165 = .ok (.aload_n 0, 1) := by decide +kernel
theorem d_Trip_isInTime_166 : decode M_Trip_isInTime.2.1 166 = .ok (.iload 6, 2) := by decide +kernel
theorem d_Trip_isInTime_168 : decode M_Trip_isInTime.2.1 168 = .ok (.putfield 54, 3) := by decide +kernel
theorem d_Trip_isInTime_171 : decode M_Trip_isInTime.2.1 171 = .ok (.iconst 0, 1) := by decide +kernel
theorem d_Trip_isInTime_172 : decode M_Trip_isInTime.2.1 172 = .ok (.ireturn, 1) := by decide +kernel
theorem d_Trip_isInTime_173 : decode M_Trip_isInTime.2.1 173 = .ok (.aload_n 0, 1) := by decide +kernel
theorem d_Trip_isInTime_174 : decode M_Trip_isInTime.2.1 174 = .ok (.dup, 1) := by decide +kernel
theorem d_Trip_isInTime_175 : decode M_Trip_isInTime.2.1 175 = .ok (.getfield 61, 3) := by decide +kernel
theorem d_Trip_isInTime_178 : decode M_Trip_isInTime.2.1 178 = .ok (.aload_n 0, 1) := by decide +kernel
theorem d_Trip_isInTime_179 : decode M_Trip_isInTime.2.1 179 = .ok (.getfield 36, 3) := by decide +kernel
theorem d_Trip_isInTime_182 : decode M_Trip_isInTime.2.1 182 = .ok (.iload 6, 2) := by decide +kernel
theorem d_Trip_isInTime_184 : decode M_Trip_isInTime.2.1 184 = .ok (.iaload, 1) := by decide +kernel
theorem d_Trip_isInTime_185 : decode M_Trip_isInTime.2.1 185 = .ok (.aload_n 0, 1) := by decide +kernel
theorem d_Trip_isInTime_186 : decode M_Trip_isInTime.2.1 186 = .ok (.getfield 32, 3) := by decide +kernel
theorem d_Trip_isInTime_189 : decode M_Trip_isInTime.2.1 189 = .ok (.iload 6, 2) := by decide +kernel
theorem d_Trip_isInTime_191 : decode M_Trip_isInTime.2.1 191 = .ok (.iaload, 1) := by decide +kernel
theorem d_Trip_isInTime_192 : decode M_Trip_isInTime.2.1 192 = .ok (.isub, 1) := by decide +kernel
theorem d_Trip_isInTime_193 : decode M_Trip_isInTime.2.1 193 = .ok (.iadd, 1) := by decide +kernel
theorem d_Trip_isInTime_194 : decode M_Trip_isInTime.2.1 194 = .ok (.putfield 61, 3) := by decide +kernel
theorem d_Trip_isInTime_197 : decode M_Trip_isInTime.2.1 197 = .ok (.aload_n 0, 1) := by decide +kernel
theorem d_Trip_isInTime_198 : decode M_Trip_isInTime.2.1 198 = .ok (.dup, 1) := by decide +kernel
theorem d_Trip_isInTime_199 : decode M_Trip_isInTime.2.1 199 = .ok (.getfield 64, 3) := by decide +kernel
theorem d_Trip_isInTime_202 : decode M_Trip_isInTime.2.1 202 = .ok (.iload 8, 2) := by decide +kernel
theorem d_Trip_isInTime_204 : decode M_Trip_isInTime.2.1 204 = .ok (.iadd, 1) := by decide +kernel
theorem d_Trip_isInTime_205 : decode M_Trip_isInTime.2.1 205 = .ok (.putfield 64, 3) := by decide +kernel
theorem d_Trip_isInTime_208 : decode M_Trip_isInTime.2.1 208 = .ok (.aload_n 0, 1) := by decide +kernel
theorem d_Trip_isInTime_209 : decode M_Trip_isInTime.2.1 209 = .ok (.dup, 1) := by decide +kernel
theorem d_Trip_isInTime_210 : decode M_Trip_isInTime.2.1 210 = .ok (.getfield 58, 3) := by decide +kernel
theorem d_Trip_isInTime_213 : decode M_Trip_isInTime.2.1 213 = .ok (.iload 8, 2) := by decide +kernel
theorem d_Trip_isInTime_215 : decode M_Trip_isInTime.2.1 215 = .ok (.aload_n 0, 1) := by decide +kernel
theorem d_Trip_isInTime_216 : decode M_Trip_isInTime.2.1 216 = .ok (.getfield 21, 3) := by decide +kernel
theorem d_Trip_isInTime_219 : decode M_Trip_isInTime.2.1 219 = .ok (.getfield 133, 3) := by decide +kernel
theorem d_Trip_isInTime_222 : decode M_Trip_isInTime.2.1 222 = .ok (.iload 7, 2) := by decide +kernel
theorem d_Trip_isInTime_224 : decode M_Trip_isInTime.2.1 224 = .ok (.iaload, 1) := by decide +kernel
theorem d_Trip_isInTime_225 : decode M_Trip_isInTime.2.1 225 = .ok (.imul, 1) := by decide +kernel
theorem d_Trip_isInTime_226 : decode M_Trip_isInTime.2.1 226 = .ok (.aload_n 0, 1) := by decide +kernel
theorem d_Trip_isInTime_227 : decode M_Trip_isInTime.2.1 227 = .ok (.getfield 21, 3) := by decide +kernel
theorem d_Trip_isInTime_230 : decode M_Trip_isInTime.2.1 230 = .ok (.getfield 127, 3) := by decide +kernel
theorem d_Trip_isInTime_233 : decode M_Trip_isInTime.2.1 233 = .ok (.iload 7, 2) := by decide +kernel
theorem d_Trip_isInTime_235 : decode M_Trip_isInTime.2.1 235 = .ok (.iaload, 1) := by decide +kernel
theorem d_Trip_isInTime_236 : decode M_Trip_isInTime.2.1 236 = .ok (.isub, 1) := by decide +kernel
theorem d_Trip_isInTime_237 : decode M_Trip_isInTime.2.1 237 = .ok (.iadd, 1) := by decide +kernel
theorem d_Trip_isInTime_238 : decode M_Trip_isInTime.2.1 238 = .ok (.putfield 58, 3) := by decide +kernel
theorem d_Trip_isInTime_241 : decode M_Trip_isInTime.2.1 241 = .ok (.aload_n 0, 1) := by decide +kernel
theorem d_Trip_isInTime_242 : decode M_Trip_isInTime.2.1 242 = .ok (.getfield 21, 3) := by decide +kernel
theorem d_Trip_isInTime_245 : decode M_Trip_isInTime.2.1 245 = .ok (.getfield 113, 3) := by decide +kernel
theorem d_Trip_isInTime_248 : decode M_Trip_isInTime.2.1 248 = .ok (.iload 7, 2) := by decide +kernel
theorem d_Trip_isInTime_250 : decode M_Trip_isInTime.2.1 250 = .ok (.iaload, 1) := by decide +kernel
theorem d_Trip_isInTime_251 : decode M_Trip_isInTime.2.1 251 = .ok (.istore 4, 2) := by decide +kernel
theorem d_Trip_isInTime_253 : decode M_Trip_isInTime.2.1 253 = .ok (.aload_n 0, 1) := by decide +kernel
theorem d_Trip_isInTime_254 : decode M_Trip_isInTime.2.1 254 = .ok (.getfield 39, 3) := by decide +kernel
theorem d_Trip_isInTime_257 : decode M_Trip_isInTime.2.1 257 = .ok (.iload 6, 2) := by decide +kernel
theorem d_Trip_isInTime_259 : decode M_Trip_isInTime.2.1 259 = .ok (.iaload, 1) := by decide +kernel
theorem d_Trip_isInTime_260 : decode M_Trip_isInTime.2.1 260 = .ok (.istore 5, 2) := by decide +kernel
theorem d_Trip_isInTime_262 : decode M_Trip_isInTime.2.1 262 = .ok (.iinc 6 1, 3) := by decide +kernel
theorem d_Trip_isInTime_265 : decode M_Trip_isInTime.2.1 265 = .ok (.goto (-248), 3) := by decide +kernel
theorem d_Trip_isInTime_268 : decode M_Trip_isInTime.2.1 268 = .ok (.iconst 1, 1) := by decide +kernel
theorem d_Trip_isInTime_269 : decode M_Trip_isInTime.2.1 269 = .ok (.ireturn, 1) := by decide +kernel
theorem d_Town_comes_0 : decode M_Town_comes.2.1 0 = .ok (.iload_n 1, 1) := by decide +kernel
theorem d_Town_comes_1 : decode M_Town_comes.2.1 1 = .ok (.iload_n 2, 1) := by decide +kernel
theorem d_Town_comes_2 : decode M_Town_comes.2.1 2 = .ok (.if_icmp .ne 5, 3) := by decide +kernel
theorem d_Town_comes_5 : decode M_Town_comes.2.1 5 = .ok (.iload_n 3, 1) := by decide +kernel
theorem d_Town_comes_6 : decode M_Town_comes.2.1 6 = .ok (.ireturn, 1) := by decide +kernel
theorem d_Town_comes_7 : decode M_Town_comes.2.1 7 = .ok (.iload_n 3, 1) := by decide +kernel
theorem d_Town_comes_8 : decode M_Town_comes.2.1 8 = .ok (.sipush 480, 3) := by decide +kernel
theorem d_Town_comes_11 : decode M_Town_comes.2.1 11 = .ok (.if_icmp .lt 6, 3) := by decide +kernel
theorem d_Town_comes_14 : decode M_Town_comes.2.1 14 = .ok (.ldc 45, 2) := by decide +kernel
theorem d_Town_comes_16 : decode M_Town_comes.2.1 16 = .ok (.ireturn, 1) := by decide +kernel
theorem d_Town_comes_17 : decode M_Town_comes.2.1 17 = .ok (.iload_n 1, 1) := by decide +kernel
theorem d_Town_comes_18 : decode M_Town_comes.2.1 18 = .ok (.bipush 64, 2) := by decide +kernel
theorem d_Town_comes_20 : decode M_Town_comes.2.1 20 = .ok (.imul, 1) := by decide +kernel
theorem d_Town_comes_21 : decode M_Town_comes.2.1 21 = .ok (.iload_n 3, 1) := by decide +kernel
theorem d_Town_comes_22 : decode M_Town_comes.2.1 22 = .ok (.bipush 64, 2) := by decide +kernel
theorem d_Town_comes_24 : decode M_Town_comes.2.1 24 = .ok (.irem, 1) := by decide +kernel
theorem d_Town_comes_25 : decode M_Town_comes.2.1 25 = .ok (.iadd, 1) := by decide +kernel
theorem d_Town_comes_26 : decode M_Town_comes.2.1 26 = .ok (.istore 4, 2) := by decide +kernel
theorem d_Town_comes_28 : decode M_Town_comes.2.1 28 = .ok (.aload_n 0, 1) := by decide +kernel
theorem d_Town_comes_29 : decode M_Town_comes.2.1 29 = .ok (.getfield 27, 3) := by decide +kernel
theorem d_Town_comes_32 : decode M_Town_comes.2.1 32 = .ok (.sipush 480, 3) := by decide +kernel
theorem d_Town_comes_35 : decode M_Town_comes.2.1 35 = .ok (.imul, 1) := by decide +kernel
theorem d_Town_comes_36 : decode M_Town_comes.2.1 36 = .ok (.iload_n 3, 1) := by decide +kernel
theorem d_Town_comes_37 : decode M_Town_comes.2.1 37 = .ok (.iadd, 1) := by decide +kernel
theorem d_Town_comes_38 : decode M_Town_comes.2.1 38 = .ok (.istore 5, 2) := by decide +kernel
theorem d_Town_comes_40 : decode M_Town_comes.2.1 40 = .ok (.aload_n 0, 1) := by decide +kernel
theorem d_Town_comes_41 : decode M_Town_comes.2.1 41 = .ok (.getfield 24, 3) := by decide +kernel
theorem d_Town_comes_44 : decode M_Town_comes.2.1 44 = .ok (.iload 4, 2) := by decide +kernel
theorem d_Town_comes_46 : decode M_Town_comes.2.1 46 = .ok (.iaload, 1) := by decide +kernel
theorem d_Town_comes_47 : decode M_Town_comes.2.1 47 = .ok (.iload 5, 2) := by decide +kernel
theorem d_Town_comes_49 : decode M_Town_comes.2.1 49 = .ok (.if_icmp .eq 23, 3) := by decide +kernel
theorem d_Town_comes_52 : decode M_Town_comes.2.1 52 = .ok (.aload_n 0, 1) := by decide +kernel
theorem d_Town_comes_53 : decode M_Town_comes.2.1 53 = .ok (.iload_n 1, 1) := by decide +kernel
theorem d_Town_comes_54 : decode M_Town_comes.2.1 54 = .ok (.iload_n 3, 1) := by decide +kernel
theorem d_Town_comes_55 : decode M_Town_comes.2.1 55 = .ok (.iload 4, 2) := by decide +kernel
theorem d_Town_comes_57 : decode M_Town_comes.2.1 57 = .ok (.bipush 8, 2) := by decide +kernel
theorem d_Town_comes_59 : decode M_Town_comes.2.1 59 = .ok (.imul, 1) := by decide +kernel
theorem d_Town_comes_60 : decode M_Town_comes.2.1 60 = .ok (.invokevirtual 55, 3) := by decide +kernel
theorem d_Town_comes_63 : decode M_Town_comes.2.1 63 = .ok (.aload_n 0, 1) := by decide +kernel
theorem d_Town_comes_64 : decode M_Town_comes.2.1 64 = .ok (.getfield 24, 3) := by decide +kernel
theorem d_Town_comes_67 : decode M_Town_comes.2.1 67 = .ok (.iload 4, 2) := by decide +kernel
theorem d_Town_comes_69 : decode M_Town_comes.2.1 69 = .ok (.iload 5, 2) := by decide +kernel
theorem d_Town_comes_71 : decode M_Town_comes.2.1 71 = .ok (.iastore, 1) := by decide +kernel
theorem d_Town_comes_72 : decode M_Town_comes.2.1 72 = .ok (.aload_n 0, 1) := by decide +kernel
theorem d_Town_comes_73 : decode M_Town_comes.2.1 73 = .ok (.getfield 21, 3) := by decide +kernel
theorem d_Town_comes_76 : decode M_Town_comes.2.1 76 = .ok (.iload 4, 2) := by decide +kernel
theorem d_Town_comes_78 : decode M_Town_comes.2.1 78 = .ok (.bipush 8, 2) := by decide +kernel
theorem d_Town_comes_80 : decode M_Town_comes.2.1 80 = .ok (.imul, 1) := by decide +kernel
theorem d_Town_comes_81 : decode M_Town_comes.2.1 81 = .ok (.iload_n 2, 1) := by decide +kernel
theorem d_Town_comes_82 : decode M_Town_comes.2.1 82 = .ok (.iadd, 1) := by decide +kernel
theorem d_Town_comes_83 : decode M_Town_comes.2.1 83 = .ok (.iaload, 1) := by decide +kernel
theorem d_Town_comes_84 : decode M_Town_comes.2.1 84 = .ok (.ireturn, 1) := by decide +kernel
theorem d_Town_walk_0 : decode M_Town_walk.2.1 0 = .ok (.iconst 0, 1) := by decide +kernel
theorem d_Town_walk_1 : decode M_Town_walk.2.1 1 = .ok (.istore 4, 2) := by decide +kernel
theorem d_Town_walk_3 : decode M_Town_walk.2.1 3 = .ok (.iload 4, 2) := by decide +kernel
theorem d_Town_walk_5 : decode M_Town_walk.2.1 5 = .ok (.bipush 8, 2) := by decide +kernel
theorem d_Town_walk_7 : decode M_Town_walk.2.1 7 = .ok (.if_icmp .ge 20, 3) := by decide +kernel
theorem d_Town_walk_10 : decode M_Town_walk.2.1 10 = .ok (.aload_n 0, 1) := by decide +kernel
theorem d_Town_walk_11 : decode M_Town_walk.2.1 11 = .ok (.getfield 21, 3) := by decide +kernel
theorem d_Town_walk_14 : decode M_Town_walk.2.1 14 = .ok (.iload_n 3, 1) := by decide +kernel
theorem d_Town_walk_15 : decode M_Town_walk.2.1 15 = .ok (.iload 4, 2) := by decide +kernel
theorem d_Town_walk_17 : decode M_Town_walk.2.1 17 = .ok (.iadd, 1) := by decide +kernel
theorem d_Town_walk_18 : decode M_Town_walk.2.1 18 = .ok (.ldc 45, 2) := by decide +kernel
theorem d_Town_walk_20 : decode M_Town_walk.2.1 20 = .ok (.iastore, 1) := by decide +kernel
theorem d_Town_walk_21 : decode M_Town_walk.2.1 21 = .ok (.iinc 4 1, 3) := by decide +kernel
theorem d_Town_walk_24 : decode M_Town_walk.2.1 24 = .ok (.goto (-21), 3) := by decide +kernel
theorem d_Town_walk_27 : decode M_Town_walk.2.1 27 = .ok (.aload_n 0, 1) := by decide +kernel
theorem d_Town_walk_28 : decode M_Town_walk.2.1 28 = .ok (.getfield 21, 3) := by decide +kernel
theorem d_Town_walk_31 : decode M_Town_walk.2.1 31 = .ok (.iload_n 3, 1) := by decide +kernel
theorem d_Town_walk_32 : decode M_Town_walk.2.1 32 = .ok (.iload_n 1, 1) := by decide +kernel
theorem d_Town_walk_33 : decode M_Town_walk.2.1 33 = .ok (.iadd, 1) := by decide +kernel
theorem d_Town_walk_34 : decode M_Town_walk.2.1 34 = .ok (.iload_n 2, 1) := by decide +kernel
theorem d_Town_walk_35 : decode M_Town_walk.2.1 35 = .ok (.iastore, 1) := by decide +kernel
theorem d_Town_walk_36 : decode M_Town_walk.2.1 36 = .ok (.iconst 1, 1) := by decide +kernel
theorem d_Town_walk_37 : decode M_Town_walk.2.1 37 = .ok (.istore 4, 2) := by decide +kernel
theorem d_Town_walk_39 : decode M_Town_walk.2.1 39 = .ok (.iconst 0, 1) := by decide +kernel
theorem d_Town_walk_40 : decode M_Town_walk.2.1 40 = .ok (.istore 5, 2) := by decide +kernel
theorem d_Town_walk_42 : decode M_Town_walk.2.1 42 = .ok (.iload 5, 2) := by decide +kernel
theorem d_Town_walk_44 : decode M_Town_walk.2.1 44 = .ok (.bipush 8, 2) := by decide +kernel
theorem d_Town_walk_46 : decode M_Town_walk.2.1 46 = .ok (.if_icmp .ge 156, 3) := by decide +kernel
theorem d_Town_walk_49 : decode M_Town_walk.2.1 49 = .ok (.iload 4, 2) := by decide +kernel
theorem d_Town_walk_51 : decode M_Town_walk.2.1 51 = .ok (.ifCond .eq 151, 3) := by decide +kernel
theorem d_Town_walk_54 : decode M_Town_walk.2.1 54 = .ok (.iconst 0, 1) := by decide +kernel
theorem d_Town_walk_55 : decode M_Town_walk.2.1 55 = .ok (.istore 4, 2) := by decide +kernel
theorem d_Town_walk_57 : decode M_Town_walk.2.1 57 = .ok (.iconst 0, 1) := by decide +kernel
theorem d_Town_walk_58 : decode M_Town_walk.2.1 58 = .ok (.istore 6, 2) := by decide +kernel
theorem d_Town_walk_60 : decode M_Town_walk.2.1 60 = .ok (.iload 6, 2) := by decide +kernel
theorem d_Town_walk_62 : decode M_Town_walk.2.1 62 = .ok (.bipush 8, 2) := by decide +kernel
theorem d_Town_walk_64 : decode M_Town_walk.2.1 64 = .ok (.if_icmp .ge 132, 3) := by decide +kernel
theorem d_Town_walk_67 : decode M_Town_walk.2.1 67 = .ok (.aload_n 0, 1) := by decide +kernel
theorem d_Town_walk_68 : decode M_Town_walk.2.1 68 = .ok (.getfield 21, 3) := by decide +kernel
theorem d_Town_walk_71 : decode M_Town_walk.2.1 71 = .ok (.iload_n 3, 1) := by decide +kernel
theorem d_Town_walk_72 : decode M_Town_walk.2.1 72 = .ok (.iload 6, 2) := by decide +kernel
theorem d_Town_walk_74 : decode M_Town_walk.2.1 74 = .ok (.iadd, 1) := by decide +kernel
theorem d_Town_walk_75 : decode M_Town_walk.2.1 75 = .ok (.iaload, 1) := by decide +kernel
theorem d_Town_walk_76 : decode M_Town_walk.2.1 76 = .ok (.istore 7, 2) := by decide +kernel
theorem d_Town_walk_78 : decode M_Town_walk.2.1 78 = .ok (.iload 7, 2) := by decide +kernel
theorem d_Town_walk_80 : decode M_Town_walk.2.1 80 = .ok (.sipush 480, 3) := by decide +kernel
theorem d_Town_walk_83 : decode M_Town_walk.2.1 83 = .ok (.if_icmp .lt 6, 3) := by decide +kernel
theorem d_Town_walk_86 : decode M_Town_walk.2.1 86 = .ok (.goto 104, 3) := by decide +kernel
theorem d_Town_walk_89 : decode M_Town_walk.2.1 89 = .ok (.iload 6, 2) := by decide +kernel
theorem d_Town_walk_91 : decode M_Town_walk.2.1 91 = .ok (.bipush 8, 2) := by decide +kernel
theorem d_Town_walk_93 : decode M_Town_walk.2.1 93 = .ok (.imul, 1) := by decide +kernel
theorem d_Town_walk_94 : decode M_Town_walk.2.1 94 = .ok (.bipush 8, 2) := by decide +kernel
theorem d_Town_walk_96 : decode M_Town_walk.2.1 96 = .ok (.imul, 1) := by decide +kernel
theorem d_Town_walk_97 : decode M_Town_walk.2.1 97 = .ok (.iload 7, 2) := by decide +kernel
theorem d_Town_walk_99 : decode M_Town_walk.2.1 99 = .ok (.bipush 60, 2) := by decide +kernel
theorem d_Town_walk_101 : decode M_Town_walk.2.1 101 = .ok (.idiv, 1) := by decide +kernel
theorem d_Town_walk_102 : decode M_Town_walk.2.1 102 = .ok (.iadd, 1) := by decide +kernel
theorem d_Town_walk_103 : decode M_Town_walk.2.1 103 = .ok (.istore 8, 2) := by decide +kernel
theorem d_Town_walk_105 : decode M_Town_walk.2.1 105 = .ok (.iconst 0, 1) := by decide +kernel
theorem d_Town_walk_106 : decode M_Town_walk.2.1 106 = .ok (.istore 9, 2) := by decide +kernel
theorem d_Town_walk_108 : decode M_Town_walk.2.1 108 = .ok (.iload 9, 2) := by decide +kernel
theorem d_Town_walk_110 : decode M_Town_walk.2.1 110 = .ok (.bipush 8, 2) := by decide +kernel
theorem d_Town_walk_112 : decode M_Town_walk.2.1 112 = .ok (.if_icmp .ge 78, 3) := by decide +kernel
theorem d_Town_walk_115 : decode M_Town_walk.2.1 115 = .ok (.aload_n 0, 1) := by decide +kernel
theorem d_Town_walk_116 : decode M_Town_walk.2.1 116 = .ok (.getfield 9, 3) := by decide +kernel
theorem d_Town_walk_119 : decode M_Town_walk.2.1 119 = .ok (.iload 8, 2) := by decide +kernel
theorem d_Town_walk_121 : decode M_Town_walk.2.1 121 = .ok (.iaload, 1) := by decide +kernel
theorem d_Town_walk_122 : decode M_Town_walk.2.1 122 = .ok (.ifCond .ne 6, 3) := by decide +kernel
theorem d_Town_walk_125 : decode M_Town_walk.2.1 125 = .ok (.goto 56, 3) := by decide +kernel
theorem d_Town_walk_128 : decode M_Town_walk.2.1 128 = .ok (.iload 7, 2) := by decide +kernel
theorem d_Town_walk_130 : decode M_Town_walk.2.1 130 = .ok (.aload_n 0, 1) := by decide +kernel
theorem d_Town_walk_131 : decode M_Town_walk.2.1 131 = .ok (.getfield 9, 3) := by decide +kernel
theorem d_Town_walk_134 : decode M_Town_walk.2.1 134 = .ok (.iload 8, 2) := by decide +kernel
theorem d_Town_walk_136 : decode M_Town_walk.2.1 136 = .ok (.iaload, 1) := by decide +kernel
theorem d_Town_walk_137 : decode M_Town_walk.2.1 137 = .ok (.iadd, 1) := by decide +kernel
theorem d_Town_walk_138 : decode M_Town_walk.2.1 138 = .ok (.aload_n 0, 1) := by decide +kernel
theorem d_Town_walk_139 : decode M_Town_walk.2.1 139 = .ok (.getfield 15, 3) := by decide +kernel
theorem d_Town_walk_142 : decode M_Town_walk.2.1 142 = .ok (.iload 8, 2) := by decide +kernel
theorem d_Town_walk_144 : decode M_Town_walk.2.1 144 = .ok (.iaload, 1) := by decide +kernel
theorem d_Town_walk_145 : decode M_Town_walk.2.1 145 = .ok (.invokestatic 50, 3) := by decide +kernel
theorem d_Town_walk_148 : decode M_Town_walk.2.1 148 = .ok (.istore 10, 2) := by decide +kernel
theorem d_Town_walk_150 : decode M_Town_walk.2.1 150 = .ok (.iload 10, 2) := by decide +kernel
theorem d_Town_walk_152 : decode M_Town_walk.2.1 152 = .ok (.aload_n 0, 1) := by decide +kernel
theorem d_Town_walk_153 : decode M_Town_walk.2.1 153 = .ok (.getfield 21, 3) := by decide +kernel
theorem d_Town_walk_156 : decode M_Town_walk.2.1 156 = .ok (.iload_n 3, 1) := by decide +kernel
theorem d_Town_walk_157 : decode M_Town_walk.2.1 157 = .ok (.iload 9, 2) := by decide +kernel
theorem d_Town_walk_159 : decode M_Town_walk.2.1 159 = .ok (.iadd, 1) := by decide +kernel
theorem d_Town_walk_160 : decode M_Town_walk.2.1 160 = .ok (.iaload, 1) := by decide +kernel
theorem d_Town_walk_161 : decode M_Town_walk.2.1 161 = .ok (.if_icmp .lt 6, 3) := by decide +kernel
theorem d_Town_walk_164 : decode M_Town_walk.2.1 164 = .ok (.goto 17, 3) := by decide +kernel
theorem d_Town_walk_167 : decode M_Town_walk.2.1 167 = .ok (.aload_n 0, 1) := by decide +kernel
theorem d_Town_walk_168 : decode M_Town_walk.2.1 168 = .ok (.getfield 21, 3) := by decide +kernel
theorem d_Town_walk_171 : decode M_Town_walk.2.1 171 = .ok (.iload_n 3, 1) := by decide +kernel
theorem d_Town_walk_172 : decode M_Town_walk.2.1 172 = .ok (.iload 9, 2) := by decide +kernel
theorem d_Town_walk_174 : decode M_Town_walk.2.1 174 = .ok (.iadd, 1) := by decide +kernel
theorem d_Town_walk_175 : decode M_Town_walk.2.1 175 = .ok (.iload 10, 2) := by decide +kernel
theorem d_Town_walk_177 : decode M_Town_walk.2.1 177 = .ok (.iastore, 1) := by decide +kernel
theorem d_Town_walk_178 : decode M_Town_walk.2.1 178 = .ok (.iconst 1, 1) := by decide +kernel
theorem d_Town_walk_179 : decode M_Town_walk.2.1 179 = .ok (.istore 4, 2) := by decide +kernel
theorem d_Town_walk_181 : decode M_Town_walk.2.1 181 = .ok (.iinc 9 1, 3) := by decide +kernel
theorem d_Town_walk_184 : decode M_Town_walk.2.1 184 = .ok (.iinc 8 8, 3) := by decide +kernel
theorem d_Town_walk_187 : decode M_Town_walk.2.1 187 = .ok (.goto (-79), 3) := by decide +kernel
theorem d_Town_walk_190 : decode M_Town_walk.2.1 190 = .ok (.iinc 6 1, 3) := by decide +kernel
theorem d_Town_walk_193 : decode M_Town_walk.2.1 193 = .ok (.goto (-133), 3) := by decide +kernel
theorem d_Town_walk_196 : decode M_Town_walk.2.1 196 = .ok (.iinc 5 1, 3) := by decide +kernel
theorem d_Town_walk_199 : decode M_Town_walk.2.1 199 = .ok (.goto (-157), 3) := by decide +kernel
theorem d_Town_walk_202 : decode M_Town_walk.2.1 202 = .ok (.return_, 1) := by decide +kernel
theorem d_Trip_isBack_0 : decode M_Trip_isBack.2.1 0 = .ok (.iload_n 3, 1) := by decide +kernel
theorem d_Trip_isBack_1 : decode M_Trip_isBack.2.1 1 = .ok (.iconst 1, 1) := by decide +kernel
theorem d_Trip_isBack_2 : decode M_Trip_isBack.2.1 2 = .ok (.isub, 1) := by decide +kernel
theorem d_Trip_isBack_3 : decode M_Trip_isBack.2.1 3 = .ok (.istore 4, 2) := by decide +kernel
theorem d_Trip_isBack_5 : decode M_Trip_isBack.2.1 5 = .ok (.aload_n 0, 1) := by decide +kernel
theorem d_Trip_isBack_6 : decode M_Trip_isBack.2.1 6 = .ok (.aload_n 0, 1) := by decide +kernel
theorem d_Trip_isBack_7 : decode M_Trip_isBack.2.1 7 = .ok (.getfield 12, 3) := by decide +kernel
theorem d_Trip_isBack_10 : decode M_Trip_isBack.2.1 10 = .ok (.aload_n 0, 1) := by decide +kernel
theorem d_Trip_isBack_11 : decode M_Trip_isBack.2.1 11 = .ok (.getfield 21, 3) := by decide +kernel
theorem d_Trip_isBack_14 : decode M_Trip_isBack.2.1 14 = .ok (.getfield 113, 3) := by decide +kernel
theorem d_Trip_isBack_17 : decode M_Trip_isBack.2.1 17 = .ok (.aload_n 2, 1) := by decide +kernel
theorem d_Trip_isBack_18 : decode M_Trip_isBack.2.1 18 = .ok (.iload 4, 2) := by decide +kernel
theorem d_Trip_isBack_20 : decode M_Trip_isBack.2.1 20 = .ok (.iaload, 1) := by decide +kernel
theorem d_Trip_isBack_21 : decode M_Trip_isBack.2.1 21 = .ok (.iaload, 1) := by decide +kernel
theorem d_Trip_isBack_22 : decode M_Trip_isBack.2.1 22 = .ok (.iconst 0, 1) := by decide +kernel
theorem d_Trip_isBack_23 : decode M_Trip_isBack.2.1 23 = .ok (.aload_n 0, 1) := by decide +kernel
theorem d_Trip_isBack_24 : decode M_Trip_isBack.2.1 24 = .ok (.getfield 39, 3) := by decide +kernel
theorem d_Trip_isBack_27 : decode M_Trip_isBack.2.1 27 = .ok (.iload 4, 2) := by decide +kernel
theorem d_Trip_isBack_29 : decode M_Trip_isBack.2.1 29 = .ok (.iaload, 1) := by decide +kernel
theorem d_Trip_isBack_30 : decode M_Trip_isBack.2.1 30 = .ok (.invokevirtual 116, 3) := by decide +kernel
theorem d_Trip_isBack_33 : decode M_Trip_isBack.2.1 33 = .ok (.putfield 81, 3) := by decide +kernel
theorem d_Trip_isBack_36 : decode M_Trip_isBack.2.1 36 = .ok (.aload_n 0, 1) := by decide +kernel
theorem d_Trip_isBack_37 : decode M_Trip_isBack.2.1 37 = .ok (.getfield 81, 3) := by decide +kernel
theorem d_Trip_isBack_40 : decode M_Trip_isBack.2.1 40 = .ok (.aload_n 0, 1) := by decide +kernel
theorem d_Trip_isBack_41 : decode M_Trip_isBack.2.1 41 = .ok (.getfield 28, 3) := by decide +kernel
theorem d_Trip_isBack_44 : decode M_Trip_isBack.2.1 44 = .ok (.getfield 136, 3) := by decide +kernel
theorem d_Trip_isBack_47 : decode M_Trip_isBack.2.1 47 = .ok (.iload_n 1, 1) := by decide +kernel
theorem d_Trip_isBack_48 : decode M_Trip_isBack.2.1 48 = .ok (.iaload, 1) := by decide +kernel
theorem d_Trip_isBack_49 : decode M_Trip_isBack.2.1 49 = .ok (.if_icmp .gt 5, 3) := by decide +kernel
theorem d_Trip_isBack_52 : decode M_Trip_isBack.2.1 52 = .ok (.iconst 1, 1) := by decide +kernel
theorem d_Trip_isBack_53 : decode M_Trip_isBack.2.1 53 = .ok (.ireturn, 1) := by decide +kernel
theorem d_Trip_isBack_54 : decode M_Trip_isBack.2.1 54 = .ok (.aload_n 0, 1) := by decide +kernel
theorem d_Trip_isBack_55 : decode M_Trip_isBack.2.1 55 = .ok (.iload_n 3, 1) := by decide +kernel
theorem d_Trip_isBack_56 : decode M_Trip_isBack.2.1 56 = .ok (.putfield 54, 3) := by decide +kernel
theorem d_Trip_isBack_59 : decode M_Trip_isBack.2.1 59 = .ok (.iconst 0, 1) := by decide +kernel
theorem d_Trip_isBack_60 : decode M_Trip_isBack.2.1 60 = .ok (.ireturn, 1) := by decide +kernel
theorem d_Town_restore_0 : decode M_Town_restore.2.1 0 = .ok (.aload_n 0, 1) := by decide +kernel
theorem d_Town_restore_1 : decode M_Town_restore.2.1 1 = .ok (.getfield 18, 3) := by decide +kernel
theorem d_Town_restore_4 : decode M_Town_restore.2.1 4 = .ok (.iconst 0, 1) := by decide +kernel
theorem d_Town_restore_5 : decode M_Town_restore.2.1 5 = .ok (.aload_n 0, 1) := by decide +kernel
theorem d_Town_restore_6 : decode M_Town_restore.2.1 6 = .ok (.getfield 9, 3) := by decide +kernel
theorem d_Town_restore_9 : decode M_Town_restore.2.1 9 = .ok (.aload_n 0, 1) := by decide +kernel
theorem d_Town_restore_10 : decode M_Town_restore.2.1 10 = .ok (.iload_n 1, 1) := by decide +kernel
theorem d_Town_restore_11 : decode M_Town_restore.2.1 11 = .ok (.iload_n 2, 1) := by decide +kernel
theorem d_Town_restore_12 : decode M_Town_restore.2.1 12 = .ok (.invokevirtual 31, 3) := by decide +kernel
theorem d_Town_restore_15 : decode M_Town_restore.2.1 15 = .ok (.bipush 8, 2) := by decide +kernel
theorem d_Town_restore_17 : decode M_Town_restore.2.1 17 = .ok (.invokestatic 39, 3) := by decide +kernel
theorem d_Town_restore_20 : decode M_Town_restore.2.1 20 = .ok (.aload_n 0, 1) := by decide +kernel
theorem d_Town_restore_21 : decode M_Town_restore.2.1 21 = .ok (.getfield 18, 3) := by decide +kernel
theorem d_Town_restore_24 : decode M_Town_restore.2.1 24 = .ok (.iconst 0, 1) := by decide +kernel
theorem d_Town_restore_25 : decode M_Town_restore.2.1 25 = .ok (.aload_n 0, 1) := by decide +kernel
theorem d_Town_restore_26 : decode M_Town_restore.2.1 26 = .ok (.getfield 9, 3) := by decide +kernel
theorem d_Town_restore_29 : decode M_Town_restore.2.1 29 = .ok (.aload_n 0, 1) := by decide +kernel
theorem d_Town_restore_30 : decode M_Town_restore.2.1 30 = .ok (.iload_n 2, 1) := by decide +kernel
theorem d_Town_restore_31 : decode M_Town_restore.2.1 31 = .ok (.iload_n 1, 1) := by decide +kernel
theorem d_Town_restore_32 : decode M_Town_restore.2.1 32 = .ok (.invokevirtual 31, 3) := by decide +kernel
theorem d_Town_restore_35 : decode M_Town_restore.2.1 35 = .ok (.bipush 8, 2) := by decide +kernel
theorem d_Town_restore_37 : decode M_Town_restore.2.1 37 = .ok (.invokestatic 39, 3) := by decide +kernel
theorem d_Town_restore_40 : decode M_Town_restore.2.1 40 = .ok (.aload_n 0, 1) := by decide +kernel
theorem d_Town_restore_41 : decode M_Town_restore.2.1 41 = .ok (.iload_n 1, 1) := by decide +kernel
theorem d_Town_restore_42 : decode M_Town_restore.2.1 42 = .ok (.iload_n 2, 1) := by decide +kernel
theorem d_Town_restore_43 : decode M_Town_restore.2.1 43 = .ok (.invokevirtual 35, 3) := by decide +kernel
theorem d_Town_restore_46 : decode M_Town_restore.2.1 46 = .ok (.return_, 1) := by decide +kernel
theorem d_Past_forget_0 : decode M_Past_forget.2.1 0 = .ok (.aload_n 0, 1) := by decide +kernel
theorem d_Past_forget_1 : decode M_Past_forget.2.1 1 = .ok (.iconst 0, 1) := by decide +kernel
theorem d_Past_forget_2 : decode M_Past_forget.2.1 2 = .ok (.putfield 18, 3) := by decide +kernel
theorem d_Past_forget_5 : decode M_Past_forget.2.1 5 = .ok (.return_, 1) := by decide +kernel
theorem d_Town_setHour_0 : decode M_Town_setHour.2.1 0 = .ok (.aload_n 0, 1) := by decide +kernel
theorem d_Town_setHour_1 : decode M_Town_setHour.2.1 1 = .ok (.getfield 9, 3) := by decide +kernel
theorem d_Town_setHour_4 : decode M_Town_setHour.2.1 4 = .ok (.aload_n 0, 1) := by decide +kernel
theorem d_Town_setHour_5 : decode M_Town_setHour.2.1 5 = .ok (.iload_n 1, 1) := by decide +kernel
theorem d_Town_setHour_6 : decode M_Town_setHour.2.1 6 = .ok (.iload_n 2, 1) := by decide +kernel
theorem d_Town_setHour_7 : decode M_Town_setHour.2.1 7 = .ok (.invokevirtual 31, 3) := by decide +kernel
theorem d_Town_setHour_10 : decode M_Town_setHour.2.1 10 = .ok (.iload_n 3, 1) := by decide +kernel
theorem d_Town_setHour_11 : decode M_Town_setHour.2.1 11 = .ok (.iadd, 1) := by decide +kernel
theorem d_Town_setHour_12 : decode M_Town_setHour.2.1 12 = .ok (.iload 4, 2) := by decide +kernel
theorem d_Town_setHour_14 : decode M_Town_setHour.2.1 14 = .ok (.iastore, 1) := by decide +kernel
theorem d_Town_setHour_15 : decode M_Town_setHour.2.1 15 = .ok (.aload_n 0, 1) := by decide +kernel
theorem d_Town_setHour_16 : decode M_Town_setHour.2.1 16 = .ok (.getfield 9, 3) := by decide +kernel
theorem d_Town_setHour_19 : decode M_Town_setHour.2.1 19 = .ok (.aload_n 0, 1) := by decide +kernel
theorem d_Town_setHour_20 : decode M_Town_setHour.2.1 20 = .ok (.iload_n 2, 1) := by decide +kernel
theorem d_Town_setHour_21 : decode M_Town_setHour.2.1 21 = .ok (.iload_n 1, 1) := by decide +kernel
theorem d_Town_setHour_22 : decode M_Town_setHour.2.1 22 = .ok (.invokevirtual 31, 3) := by decide +kernel
theorem d_Town_setHour_25 : decode M_Town_setHour.2.1 25 = .ok (.iload_n 3, 1) := by decide +kernel
theorem d_Town_setHour_26 : decode M_Town_setHour.2.1 26 = .ok (.iadd, 1) := by decide +kernel
theorem d_Town_setHour_27 : decode M_Town_setHour.2.1 27 = .ok (.iload 4, 2) := by decide +kernel
theorem d_Town_setHour_29 : decode M_Town_setHour.2.1 29 = .ok (.iastore, 1) := by decide +kernel
theorem d_Town_setHour_30 : decode M_Town_setHour.2.1 30 = .ok (.aload_n 0, 1) := by decide +kernel
theorem d_Town_setHour_31 : decode M_Town_setHour.2.1 31 = .ok (.iload_n 1, 1) := by decide +kernel
theorem d_Town_setHour_32 : decode M_Town_setHour.2.1 32 = .ok (.iload_n 2, 1) := by decide +kernel
theorem d_Town_setHour_33 : decode M_Town_setHour.2.1 33 = .ok (.invokevirtual 35, 3) := by decide +kernel
theorem d_Town_setHour_36 : decode M_Town_setHour.2.1 36 = .ok (.return_, 1) := by decide +kernel
theorem d_Stops_has_0 : decode M_Stops_has.2.1 0 = .ok (.iload_n 1, 1) := by decide +kernel
theorem d_Stops_has_1 : decode M_Stops_has.2.1 1 = .ok (.ifCond .lt 15, 3) := by decide +kernel
theorem d_Stops_has_4 : decode M_Stops_has.2.1 4 = .ok (.iload_n 1, 1) := by decide +kernel
theorem d_Stops_has_5 : decode M_Stops_has.2.1 5 = .ok (.aload_n 0, 1) := by decide +kernel
theorem d_Stops_has_6 : decode M_Stops_has.2.1 6 = .ok (.getfield 36, 3) := by decide +kernel
theorem d_Stops_has_9 : decode M_Stops_has.2.1 9 = .ok (.if_icmp .ge 7, 3) := by decide +kernel
theorem d_Stops_has_12 : decode M_Stops_has.2.1 12 = .ok (.iconst 1, 1) := by decide +kernel
theorem d_Stops_has_13 : decode M_Stops_has.2.1 13 = .ok (.goto 4, 3) := by decide +kernel
theorem d_Stops_has_16 : decode M_Stops_has.2.1 16 = .ok (.iconst 0, 1) := by decide +kernel
theorem d_Stops_has_17 : decode M_Stops_has.2.1 17 = .ok (.ireturn, 1) := by decide +kernel
theorem d_Plan_vanWith_0 : decode M_Plan_vanWith.2.1 0 = .ok (.iconst 0, 1) := by decide +kernel
theorem d_Plan_vanWith_1 : decode M_Plan_vanWith.2.1 1 = .ok (.istore_n 2, 1) := by decide +kernel
theorem d_Plan_vanWith_2 : decode M_Plan_vanWith.2.1 2 = .ok (.iload_n 2, 1) := by decide +kernel
theorem d_Plan_vanWith_3 : decode M_Plan_vanWith.2.1 3 = .ok (.iconst 3, 1) := by decide +kernel
theorem d_Plan_vanWith_4 : decode M_Plan_vanWith.2.1 4 = .ok (.if_icmp .ge 41, 3) := by decide +kernel
theorem d_Plan_vanWith_7 : decode M_Plan_vanWith.2.1 7 = .ok (.iconst 0, 1) := by decide +kernel
theorem d_Plan_vanWith_8 : decode M_Plan_vanWith.2.1 8 = .ok (.istore_n 3, 1) := by decide +kernel
theorem d_Plan_vanWith_9 : decode M_Plan_vanWith.2.1 9 = .ok (.iload_n 3, 1) := by decide +kernel
theorem d_Plan_vanWith_10 : decode M_Plan_vanWith.2.1 10 = .ok (.aload_n 0, 1) := by decide +kernel
theorem d_Plan_vanWith_11 : decode M_Plan_vanWith.2.1 11 = .ok (.getfield 16, 3) := by decide +kernel
theorem d_Plan_vanWith_14 : decode M_Plan_vanWith.2.1 14 = .ok (.iload_n 2, 1) := by decide +kernel
theorem d_Plan_vanWith_15 : decode M_Plan_vanWith.2.1 15 = .ok (.iaload, 1) := by decide +kernel
theorem d_Plan_vanWith_16 : decode M_Plan_vanWith.2.1 16 = .ok (.if_icmp .ge 23, 3) := by decide +kernel
theorem d_Plan_vanWith_19 : decode M_Plan_vanWith.2.1 19 = .ok (.aload_n 0, 1) := by decide +kernel
theorem d_Plan_vanWith_20 : decode M_Plan_vanWith.2.1 20 = .ok (.getfield 11, 3) := by decide +kernel
theorem d_Plan_vanWith_23 : decode M_Plan_vanWith.2.1 23 = .ok (.iload_n 2, 1) := by decide +kernel
theorem d_Plan_vanWith_24 : decode M_Plan_vanWith.2.1 24 = .ok (.aaload, 1) := by decide +kernel
theorem d_Plan_vanWith_25 : decode M_Plan_vanWith.2.1 25 = .ok (.iload_n 3, 1) := by decide +kernel
theorem d_Plan_vanWith_26 : decode M_Plan_vanWith.2.1 26 = .ok (.iaload, 1) := by decide +kernel
theorem d_Plan_vanWith_27 : decode M_Plan_vanWith.2.1 27 = .ok (.iload_n 1, 1) := by decide +kernel
theorem d_Plan_vanWith_28 : decode M_Plan_vanWith.2.1 28 = .ok (.if_icmp .ne 5, 3) := by decide +kernel
theorem d_Plan_vanWith_31 : decode M_Plan_vanWith.2.1 31 = .ok (.iload_n 2, 1) := by decide +kernel
theorem d_Plan_vanWith_32 : decode M_Plan_vanWith.2.1 32 = .ok (.ireturn, 1) := by decide +kernel
theorem d_Plan_vanWith_33 : decode M_Plan_vanWith.2.1 33 = .ok (.iinc 3 1, 3) := by decide +kernel
theorem d_Plan_vanWith_36 : decode M_Plan_vanWith.2.1 36 = .ok (.goto (-27), 3) := by decide +kernel
theorem d_Plan_vanWith_39 : decode M_Plan_vanWith.2.1 39 = .ok (.iinc 2 1, 3) := by decide +kernel
theorem d_Plan_vanWith_42 : decode M_Plan_vanWith.2.1 42 = .ok (.goto (-40), 3) := by decide +kernel
theorem d_Plan_vanWith_45 : decode M_Plan_vanWith.2.1 45 = .ok (.iconst (-1), 1) := by decide +kernel
theorem d_Plan_vanWith_46 : decode M_Plan_vanWith.2.1 46 = .ok (.ireturn, 1) := by decide +kernel
theorem d_Stops_add_0 : decode M_Stops_add.2.1 0 = .ok (.aload_n 0, 1) := by decide +kernel
theorem d_Stops_add_1 : decode M_Stops_add.2.1 1 = .ok (.getfield 36, 3) := by decide +kernel
theorem d_Stops_add_4 : decode M_Stops_add.2.1 4 = .ok (.istore 4, 2) := by decide +kernel
theorem d_Stops_add_6 : decode M_Stops_add.2.1 6 = .ok (.aload_n 0, 1) := by decide +kernel
theorem d_Stops_add_7 : decode M_Stops_add.2.1 7 = .ok (.dup, 1) := by decide +kernel
theorem d_Stops_add_8 : decode M_Stops_add.2.1 8 = .ok (.getfield 36, 3) := by decide +kernel
theorem d_Stops_add_11 : decode M_Stops_add.2.1 11 = .ok (.iconst 1, 1) := by decide +kernel
theorem d_Stops_add_12 : decode M_Stops_add.2.1 12 = .ok (.iadd, 1) := by decide +kernel
theorem d_Stops_add_13 : decode M_Stops_add.2.1 13 = .ok (.putfield 36, 3) := by decide +kernel
theorem d_Stops_add_16 : decode M_Stops_add.2.1 16 = .ok (.aload_n 0, 1) := by decide +kernel
theorem d_Stops_add_17 : decode M_Stops_add.2.1 17 = .ok (.getfield 9, 3) := by decide +kernel
theorem d_Stops_add_20 : decode M_Stops_add.2.1 20 = .ok (.iload 4, 2) := by decide +kernel
theorem d_Stops_add_22 : decode M_Stops_add.2.1 22 = .ok (.iload_n 1, 1) := by decide +kernel
theorem d_Stops_add_23 : decode M_Stops_add.2.1 23 = .ok (.iastore, 1) := by decide +kernel
theorem d_Stops_add_24 : decode M_Stops_add.2.1 24 = .ok (.aload_n 0, 1) := by decide +kernel
theorem d_Stops_add_25 : decode M_Stops_add.2.1 25 = .ok (.getfield 15, 3) := by decide +kernel
theorem d_Stops_add_28 : decode M_Stops_add.2.1 28 = .ok (.iload 4, 2) := by decide +kernel
theorem d_Stops_add_30 : decode M_Stops_add.2.1 30 = .ok (.iload_n 2, 1) := by decide +kernel
theorem d_Stops_add_31 : decode M_Stops_add.2.1 31 = .ok (.iastore, 1) := by decide +kernel
theorem d_Stops_add_32 : decode M_Stops_add.2.1 32 = .ok (.aload_n 0, 1) := by decide +kernel
theorem d_Stops_add_33 : decode M_Stops_add.2.1 33 = .ok (.getfield 24, 3) := by decide +kernel
theorem d_Stops_add_36 : decode M_Stops_add.2.1 36 = .ok (.iload 4, 2) := by decide +kernel
theorem d_Stops_add_38 : decode M_Stops_add.2.1 38 = .ok (.iload_n 3, 1) := by decide +kernel
theorem d_Stops_add_39 : decode M_Stops_add.2.1 39 = .ok (.bipush 100, 2) := by decide +kernel
theorem d_Stops_add_41 : decode M_Stops_add.2.1 41 = .ok (.idiv, 1) := by decide +kernel
theorem d_Stops_add_42 : decode M_Stops_add.2.1 42 = .ok (.iastore, 1) := by decide +kernel
theorem d_Stops_add_43 : decode M_Stops_add.2.1 43 = .ok (.aload_n 0, 1) := by decide +kernel
theorem d_Stops_add_44 : decode M_Stops_add.2.1 44 = .ok (.getfield 27, 3) := by decide +kernel
theorem d_Stops_add_47 : decode M_Stops_add.2.1 47 = .ok (.iload 4, 2) := by decide +kernel
theorem d_Stops_add_49 : decode M_Stops_add.2.1 49 = .ok (.iload_n 3, 1) := by decide +kernel
theorem d_Stops_add_50 : decode M_Stops_add.2.1 50 = .ok (.bipush 100, 2) := by decide +kernel
theorem d_Stops_add_52 : decode M_Stops_add.2.1 52 = .ok (.irem, 1) := by decide +kernel
theorem d_Stops_add_53 : decode M_Stops_add.2.1 53 = .ok (.iastore, 1) := by decide +kernel
theorem d_Stops_add_54 : decode M_Stops_add.2.1 54 = .ok (.aload_n 0, 1) := by decide +kernel
theorem d_Stops_add_55 : decode M_Stops_add.2.1 55 = .ok (.getfield 30, 3) := by decide +kernel
theorem d_Stops_add_58 : decode M_Stops_add.2.1 58 = .ok (.iload 4, 2) := by decide +kernel
theorem d_Stops_add_60 : decode M_Stops_add.2.1 60 = .ok (.iconst (-1), 1) := by decide +kernel
theorem d_Stops_add_61 : decode M_Stops_add.2.1 61 = .ok (.iastore, 1) := by decide +kernel
theorem d_Stops_add_62 : decode M_Stops_add.2.1 62 = .ok (.aload_n 0, 1) := by decide +kernel
theorem d_Stops_add_63 : decode M_Stops_add.2.1 63 = .ok (.getfield 33, 3) := by decide +kernel
theorem d_Stops_add_66 : decode M_Stops_add.2.1 66 = .ok (.iload 4, 2) := by decide +kernel
theorem d_Stops_add_68 : decode M_Stops_add.2.1 68 = .ok (.iconst 1, 1) := by decide +kernel
theorem d_Stops_add_69 : decode M_Stops_add.2.1 69 = .ok (.iastore, 1) := by decide +kernel
theorem d_Stops_add_70 : decode M_Stops_add.2.1 70 = .ok (.iload 4, 2) := by decide +kernel
theorem d_Stops_add_72 : decode M_Stops_add.2.1 72 = .ok (.ireturn, 1) := by decide +kernel
theorem d_Stops_setSpan_0 : decode M_Stops_setSpan.2.1 0 = .ok (.aload_n 0, 1) := by decide +kernel
theorem d_Stops_setSpan_1 : decode M_Stops_setSpan.2.1 1 = .ok (.getfield 18, 3) := by decide +kernel
theorem d_Stops_setSpan_4 : decode M_Stops_setSpan.2.1 4 = .ok (.iload_n 1, 1) := by decide +kernel
theorem d_Stops_setSpan_5 : decode M_Stops_setSpan.2.1 5 = .ok (.iload_n 2, 1) := by decide +kernel
theorem d_Stops_setSpan_6 : decode M_Stops_setSpan.2.1 6 = .ok (.sipush 1000, 3) := by decide +kernel
theorem d_Stops_setSpan_9 : decode M_Stops_setSpan.2.1 9 = .ok (.idiv, 1) := by decide +kernel
theorem d_Stops_setSpan_10 : decode M_Stops_setSpan.2.1 10 = .ok (.iastore, 1) := by decide +kernel
theorem d_Stops_setSpan_11 : decode M_Stops_setSpan.2.1 11 = .ok (.aload_n 0, 1) := by decide +kernel
theorem d_Stops_setSpan_12 : decode M_Stops_setSpan.2.1 12 = .ok (.getfield 21, 3) := by decide +kernel
theorem d_Stops_setSpan_15 : decode M_Stops_setSpan.2.1 15 = .ok (.iload_n 1, 1) := by decide +kernel
theorem d_Stops_setSpan_16 : decode M_Stops_setSpan.2.1 16 = .ok (.iload_n 2, 1) := by decide +kernel
theorem d_Stops_setSpan_17 : decode M_Stops_setSpan.2.1 17 = .ok (.sipush 1000, 3) := by decide +kernel
theorem d_Stops_setSpan_20 : decode M_Stops_setSpan.2.1 20 = .ok (.irem, 1) := by decide +kernel
theorem d_Stops_setSpan_21 : decode M_Stops_setSpan.2.1 21 = .ok (.iastore, 1) := by decide +kernel
theorem d_Stops_setSpan_22 : decode M_Stops_setSpan.2.1 22 = .ok (.return_, 1) := by decide +kernel
theorem d_Stops_join_0 : decode M_Stops_join.2.1 0 = .ok (.aload_n 0, 1) := by decide +kernel
theorem d_Stops_join_1 : decode M_Stops_join.2.1 1 = .ok (.getfield 30, 3) := by decide +kernel
theorem d_Stops_join_4 : decode M_Stops_join.2.1 4 = .ok (.iload_n 1, 1) := by decide +kernel
theorem d_Stops_join_5 : decode M_Stops_join.2.1 5 = .ok (.iload_n 2, 1) := by decide +kernel
theorem d_Stops_join_6 : decode M_Stops_join.2.1 6 = .ok (.iastore, 1) := by decide +kernel
theorem d_Stops_join_7 : decode M_Stops_join.2.1 7 = .ok (.aload_n 0, 1) := by decide +kernel
theorem d_Stops_join_8 : decode M_Stops_join.2.1 8 = .ok (.getfield 30, 3) := by decide +kernel
theorem d_Stops_join_11 : decode M_Stops_join.2.1 11 = .ok (.iload_n 2, 1) := by decide +kernel
theorem d_Stops_join_12 : decode M_Stops_join.2.1 12 = .ok (.iload_n 1, 1) := by decide +kernel
theorem d_Stops_join_13 : decode M_Stops_join.2.1 13 = .ok (.iastore, 1) := by decide +kernel
theorem d_Stops_join_14 : decode M_Stops_join.2.1 14 = .ok (.aload_n 0, 1) := by decide +kernel
theorem d_Stops_join_15 : decode M_Stops_join.2.1 15 = .ok (.getfield 27, 3) := by decide +kernel
theorem d_Stops_join_18 : decode M_Stops_join.2.1 18 = .ok (.iload_n 2, 1) := by decide +kernel
theorem d_Stops_join_19 : decode M_Stops_join.2.1 19 = .ok (.aload_n 0, 1) := by decide +kernel
theorem d_Stops_join_20 : decode M_Stops_join.2.1 20 = .ok (.getfield 27, 3) := by decide +kernel
theorem d_Stops_join_23 : decode M_Stops_join.2.1 23 = .ok (.iload_n 1, 1) := by decide +kernel
theorem d_Stops_join_24 : decode M_Stops_join.2.1 24 = .ok (.iaload, 1) := by decide +kernel
theorem d_Stops_join_25 : decode M_Stops_join.2.1 25 = .ok (.iastore, 1) := by decide +kernel
theorem d_Stops_join_26 : decode M_Stops_join.2.1 26 = .ok (.return_, 1) := by decide +kernel
theorem d_Vans_add_0 : decode M_Vans_add.2.1 0 = .ok (.aload_n 0, 1) := by decide +kernel
theorem d_Vans_add_1 : decode M_Vans_add.2.1 1 = .ok (.getfield 24, 3) := by decide +kernel
theorem d_Vans_add_4 : decode M_Vans_add.2.1 4 = .ok (.istore_n 3, 1) := by decide +kernel
theorem d_Vans_add_5 : decode M_Vans_add.2.1 5 = .ok (.aload_n 0, 1) := by decide +kernel
theorem d_Vans_add_6 : decode M_Vans_add.2.1 6 = .ok (.dup, 1) := by decide +kernel
theorem d_Vans_add_7 : decode M_Vans_add.2.1 7 = .ok (.getfield 24, 3) := by decide +kernel
theorem d_Vans_add_10 : decode M_Vans_add.2.1 10 = .ok (.iconst 1, 1) := by decide +kernel
theorem d_Vans_add_11 : decode M_Vans_add.2.1 11 = .ok (.iadd, 1) := by decide +kernel
theorem d_Vans_add_12 : decode M_Vans_add.2.1 12 = .ok (.putfield 24, 3) := by decide +kernel
theorem d_Vans_add_15 : decode M_Vans_add.2.1 15 = .ok (.aload_n 0, 1) := by decide +kernel
theorem d_Vans_add_16 : decode M_Vans_add.2.1 16 = .ok (.getfield 9, 3) := by decide +kernel
theorem d_Vans_add_19 : decode M_Vans_add.2.1 19 = .ok (.iload_n 3, 1) := by decide +kernel
theorem d_Vans_add_20 : decode M_Vans_add.2.1 20 = .ok (.iload_n 1, 1) := by decide +kernel
theorem d_Vans_add_21 : decode M_Vans_add.2.1 21 = .ok (.iastore, 1) := by decide +kernel
theorem d_Vans_add_22 : decode M_Vans_add.2.1 22 = .ok (.aload_n 0, 1) := by decide +kernel
theorem d_Vans_add_23 : decode M_Vans_add.2.1 23 = .ok (.getfield 21, 3) := by decide +kernel
theorem d_Vans_add_26 : decode M_Vans_add.2.1 26 = .ok (.iload_n 3, 1) := by decide +kernel
theorem d_Vans_add_27 : decode M_Vans_add.2.1 27 = .ok (.iload_n 2, 1) := by decide +kernel
theorem d_Vans_add_28 : decode M_Vans_add.2.1 28 = .ok (.iastore, 1) := by decide +kernel
theorem d_Vans_add_29 : decode M_Vans_add.2.1 29 = .ok (.iload_n 3, 1) := by decide +kernel
theorem d_Vans_add_30 : decode M_Vans_add.2.1 30 = .ok (.ireturn, 1) := by decide +kernel
theorem d_Vans_setShift_0 : decode M_Vans_setShift.2.1 0 = .ok (.aload_n 0, 1) := by decide +kernel
theorem d_Vans_setShift_1 : decode M_Vans_setShift.2.1 1 = .ok (.getfield 15, 3) := by decide +kernel
theorem d_Vans_setShift_4 : decode M_Vans_setShift.2.1 4 = .ok (.iload_n 1, 1) := by decide +kernel
theorem d_Vans_setShift_5 : decode M_Vans_setShift.2.1 5 = .ok (.iload_n 2, 1) := by decide +kernel
theorem d_Vans_setShift_6 : decode M_Vans_setShift.2.1 6 = .ok (.sipush 1000, 3) := by decide +kernel
theorem d_Vans_setShift_9 : decode M_Vans_setShift.2.1 9 = .ok (.idiv, 1) := by decide +kernel
theorem d_Vans_setShift_10 : decode M_Vans_setShift.2.1 10 = .ok (.iastore, 1) := by decide +kernel
theorem d_Vans_setShift_11 : decode M_Vans_setShift.2.1 11 = .ok (.aload_n 0, 1) := by decide +kernel
theorem d_Vans_setShift_12 : decode M_Vans_setShift.2.1 12 = .ok (.getfield 18, 3) := by decide +kernel
theorem d_Vans_setShift_15 : decode M_Vans_setShift.2.1 15 = .ok (.iload_n 1, 1) := by decide +kernel
theorem d_Vans_setShift_16 : decode M_Vans_setShift.2.1 16 = .ok (.iload_n 2, 1) := by decide +kernel
theorem d_Vans_setShift_17 : decode M_Vans_setShift.2.1 17 = .ok (.sipush 1000, 3) := by decide +kernel
theorem d_Vans_setShift_20 : decode M_Vans_setShift.2.1 20 = .ok (.irem, 1) := by decide +kernel
theorem d_Vans_setShift_21 : decode M_Vans_setShift.2.1 21 = .ok (.iastore, 1) := by decide +kernel
theorem d_Vans_setShift_22 : decode M_Vans_setShift.2.1 22 = .ok (.return_, 1) := by decide +kernel
theorem d_Vans_has_0 : decode M_Vans_has.2.1 0 = .ok (.iload_n 1, 1) := by decide +kernel
theorem d_Vans_has_1 : decode M_Vans_has.2.1 1 = .ok (.ifCond .lt 15, 3) := by decide +kernel
theorem d_Vans_has_4 : decode M_Vans_has.2.1 4 = .ok (.iload_n 1, 1) := by decide +kernel
theorem d_Vans_has_5 : decode M_Vans_has.2.1 5 = .ok (.aload_n 0, 1) := by decide +kernel
theorem d_Vans_has_6 : decode M_Vans_has.2.1 6 = .ok (.getfield 24, 3) := by decide +kernel
theorem d_Vans_has_9 : decode M_Vans_has.2.1 9 = .ok (.if_icmp .ge 7, 3) := by decide +kernel
theorem d_Vans_has_12 : decode M_Vans_has.2.1 12 = .ok (.iconst 1, 1) := by decide +kernel
theorem d_Vans_has_13 : decode M_Vans_has.2.1 13 = .ok (.goto 4, 3) := by decide +kernel
theorem d_Vans_has_16 : decode M_Vans_has.2.1 16 = .ok (.iconst 0, 1) := by decide +kernel
theorem d_Vans_has_17 : decode M_Vans_has.2.1 17 = .ok (.ireturn, 1) := by decide +kernel
theorem d_Plan_placeOf_0 : decode M_Plan_placeOf.2.1 0 = .ok (.iconst 0, 1) := by decide +kernel
theorem d_Plan_placeOf_1 : decode M_Plan_placeOf.2.1 1 = .ok (.istore_n 2, 1) := by decide +kernel
theorem d_Plan_placeOf_2 : decode M_Plan_placeOf.2.1 2 = .ok (.iload_n 2, 1) := by decide +kernel
theorem d_Plan_placeOf_3 : decode M_Plan_placeOf.2.1 3 = .ok (.iconst 3, 1) := by decide +kernel
theorem d_Plan_placeOf_4 : decode M_Plan_placeOf.2.1 4 = .ok (.if_icmp .ge 41, 3) := by decide +kernel
theorem d_Plan_placeOf_7 : decode M_Plan_placeOf.2.1 7 = .ok (.iconst 0, 1) := by decide +kernel
theorem d_Plan_placeOf_8 : decode M_Plan_placeOf.2.1 8 = .ok (.istore_n 3, 1) := by decide +kernel
theorem d_Plan_placeOf_9 : decode M_Plan_placeOf.2.1 9 = .ok (.iload_n 3, 1) := by decide +kernel
theorem d_Plan_placeOf_10 : decode M_Plan_placeOf.2.1 10 = .ok (.aload_n 0, 1) := by decide +kernel
theorem d_Plan_placeOf_11 : decode M_Plan_placeOf.2.1 11 = .ok (.getfield 16, 3) := by decide +kernel
theorem d_Plan_placeOf_14 : decode M_Plan_placeOf.2.1 14 = .ok (.iload_n 2, 1) := by decide +kernel
theorem d_Plan_placeOf_15 : decode M_Plan_placeOf.2.1 15 = .ok (.iaload, 1) := by decide +kernel
theorem d_Plan_placeOf_16 : decode M_Plan_placeOf.2.1 16 = .ok (.if_icmp .ge 23, 3) := by decide +kernel
theorem d_Plan_placeOf_19 : decode M_Plan_placeOf.2.1 19 = .ok (.aload_n 0, 1) := by decide +kernel
theorem d_Plan_placeOf_20 : decode M_Plan_placeOf.2.1 20 = .ok (.getfield 11, 3) := by decide +kernel
theorem d_Plan_placeOf_23 : decode M_Plan_placeOf.2.1 23 = .ok (.iload_n 2, 1) := by decide +kernel
theorem d_Plan_placeOf_24 : decode M_Plan_placeOf.2.1 24 = .ok (.aaload, 1) := by decide +kernel
theorem d_Plan_placeOf_25 : decode M_Plan_placeOf.2.1 25 = .ok (.iload_n 3, 1) := by decide +kernel
theorem d_Plan_placeOf_26 : decode M_Plan_placeOf.2.1 26 = .ok (.iaload, 1) := by decide +kernel
theorem d_Plan_placeOf_27 : decode M_Plan_placeOf.2.1 27 = .ok (.iload_n 1, 1) := by decide +kernel
theorem d_Plan_placeOf_28 : decode M_Plan_placeOf.2.1 28 = .ok (.if_icmp .ne 5, 3) := by decide +kernel
theorem d_Plan_placeOf_31 : decode M_Plan_placeOf.2.1 31 = .ok (.iload_n 3, 1) := by decide +kernel
theorem d_Plan_placeOf_32 : decode M_Plan_placeOf.2.1 32 = .ok (.ireturn, 1) := by decide +kernel
theorem d_Plan_placeOf_33 : decode M_Plan_placeOf.2.1 33 = .ok (.iinc 3 1, 3) := by decide +kernel
theorem d_Plan_placeOf_36 : decode M_Plan_placeOf.2.1 36 = .ok (.goto (-27), 3) := by decide +kernel
theorem d_Plan_placeOf_39 : decode M_Plan_placeOf.2.1 39 = .ok (.iinc 2 1, 3) := by decide +kernel
theorem d_Plan_placeOf_42 : decode M_Plan_placeOf.2.1 42 = .ok (.goto (-40), 3) := by decide +kernel
theorem d_Plan_placeOf_45 : decode M_Plan_placeOf.2.1 45 = .ok (.iconst (-1), 1) := by decide +kernel
theorem d_Plan_placeOf_46 : decode M_Plan_placeOf.2.1 46 = .ok (.ireturn, 1) := by decide +kernel
theorem d_Plan_become_0 : decode M_Plan_become.2.1 0 = .ok (.iconst 0, 1) := by decide +kernel
theorem d_Plan_become_1 : decode M_Plan_become.2.1 1 = .ok (.istore_n 2, 1) := by decide +kernel
theorem d_Plan_become_2 : decode M_Plan_become.2.1 2 = .ok (.iload_n 2, 1) := by decide +kernel
theorem d_Plan_become_3 : decode M_Plan_become.2.1 3 = .ok (.iconst 3, 1) := by decide +kernel
theorem d_Plan_become_4 : decode M_Plan_become.2.1 4 = .ok (.if_icmp .ge 44, 3) := by decide +kernel
theorem d_Plan_become_7 : decode M_Plan_become.2.1 7 = .ok (.aload_n 0, 1) := by decide +kernel
theorem d_Plan_become_8 : decode M_Plan_become.2.1 8 = .ok (.getfield 16, 3) := by decide +kernel
theorem d_Plan_become_11 : decode M_Plan_become.2.1 11 = .ok (.iload_n 2, 1) := by decide +kernel
theorem d_Plan_become_12 : decode M_Plan_become.2.1 12 = .ok (.aload_n 1, 1) := by decide +kernel
theorem d_Plan_become_13 : decode M_Plan_become.2.1 13 = .ok (.getfield 16, 3) := by decide +kernel
theorem d_Plan_become_16 : decode M_Plan_become.2.1 16 = .ok (.iload_n 2, 1) := by decide +kernel
theorem d_Plan_become_17 : decode M_Plan_become.2.1 17 = .ok (.iaload, 1) := by decide +kernel
theorem d_Plan_become_18 : decode M_Plan_become.2.1 18 = .ok (.iastore, 1) := by decide +kernel
theorem d_Plan_become_19 : decode M_Plan_become.2.1 19 = .ok (.aload_n 1, 1) := by decide +kernel
theorem d_Plan_become_20 : decode M_Plan_become.2.1 20 = .ok (.getfield 11, 3) := by decide +kernel
theorem d_Plan_become_23 : decode M_Plan_become.2.1 23 = .ok (.iload_n 2, 1) := by decide +kernel
theorem d_Plan_become_24 : decode M_Plan_become.2.1 24 = .ok (.aaload, 1) := by decide +kernel
theorem d_Plan_become_25 : decode M_Plan_become.2.1 25 = .ok (.iconst 0, 1) := by decide +kernel
theorem d_Plan_become_26 : decode M_Plan_become.2.1 26 = .ok (.aload_n 0, 1) := by decide +kernel
theorem d_Plan_become_27 : decode M_Plan_become.2.1 27 = .ok (.getfield 11, 3) := by decide +kernel
theorem d_Plan_become_30 : decode M_Plan_become.2.1 30 = .ok (.iload_n 2, 1) := by decide +kernel
theorem d_Plan_become_31 : decode M_Plan_become.2.1 31 = .ok (.aaload, 1) := by decide +kernel
theorem d_Plan_become_32 : decode M_Plan_become.2.1 32 = .ok (.iconst 0, 1) := by decide +kernel
theorem d_Plan_become_33 : decode M_Plan_become.2.1 33 = .ok (.aload_n 0, 1) := by decide +kernel
theorem d_Plan_become_34 : decode M_Plan_become.2.1 34 = .ok (.getfield 16, 3) := by decide +kernel
theorem d_Plan_become_37 : decode M_Plan_become.2.1 37 = .ok (.iload_n 2, 1) := by decide +kernel
theorem d_Plan_become_38 : decode M_Plan_become.2.1 38 = .ok (.iaload, 1) := by decide +kernel
theorem d_Plan_become_39 : decode M_Plan_become.2.1 39 = .ok (.invokestatic 20, 3) := by decide +kernel
theorem d_Plan_become_42 : decode M_Plan_become.2.1 42 = .ok (.iinc 2 1, 3) := by decide +kernel
theorem d_Plan_become_45 : decode M_Plan_become.2.1 45 = .ok (.goto (-43), 3) := by decide +kernel
theorem d_Plan_become_48 : decode M_Plan_become.2.1 48 = .ok (.return_, 1) := by decide +kernel
theorem d_Plan_insert_0 : decode M_Plan_insert.2.1 0 = .ok (.aload_n 0, 1) := by decide +kernel
theorem d_Plan_insert_1 : decode M_Plan_insert.2.1 1 = .ok (.getfield 16, 3) := by decide +kernel
theorem d_Plan_insert_4 : decode M_Plan_insert.2.1 4 = .ok (.iload_n 1, 1) := by decide +kernel
theorem d_Plan_insert_5 : decode M_Plan_insert.2.1 5 = .ok (.iaload, 1) := by decide +kernel
theorem d_Plan_insert_6 : decode M_Plan_insert.2.1 6 = .ok (.istore 4, 2) := by decide +kernel
theorem d_Plan_insert_8 : decode M_Plan_insert.2.1 8 = .ok (.iload 4, 2) := by decide +kernel
theorem d_Plan_insert_10 : decode M_Plan_insert.2.1 10 = .ok (.bipush 12, 2) := by decide +kernel
theorem d_Plan_insert_12 : decode M_Plan_insert.2.1 12 = .ok (.if_icmp .ge 13, 3) := by decide +kernel
theorem d_Plan_insert_15 : decode M_Plan_insert.2.1 15 = .ok (.iload_n 2, 1) := by decide +kernel
theorem d_Plan_insert_16 : decode M_Plan_insert.2.1 16 = .ok (.ifCond .lt 9, 3) := by decide +kernel
theorem d_Plan_insert_19 : decode M_Plan_insert.2.1 19 = .ok (.iload_n 2, 1) := by decide +kernel
theorem d_Plan_insert_20 : decode M_Plan_insert.2.1 20 = .ok (.iload 4, 2) := by decide +kernel
theorem d_Plan_insert_22 : decode M_Plan_insert.2.1 22 = .ok (.if_icmp .le 4, 3) := by decide +kernel
theorem d_Plan_insert_25 : decode M_Plan_insert.2.1 25 = .ok (.return_, 1) := by decide +kernel
theorem d_Plan_insert_26 : decode M_Plan_insert.2.1 26 = .ok (.aload_n 0, 1) := by decide +kernel
theorem d_Plan_insert_27 : decode M_Plan_insert.2.1 27 = .ok (.getfield 11, 3) := by decide +kernel
theorem d_Plan_insert_30 : decode M_Plan_insert.2.1 30 = .ok (.iload_n 1, 1) := by decide +kernel
theorem d_Plan_insert_31 : decode M_Plan_insert.2.1 31 = .ok (.aaload, 1) := by decide +kernel
theorem d_Plan_insert_32 : decode M_Plan_insert.2.1 32 = .ok (.iload_n 2, 1) := by decide +kernel
theorem d_Plan_insert_33 : decode M_Plan_insert.2.1 33 = .ok (.aload_n 0, 1) := by decide +kernel
theorem d_Plan_insert_34 : decode M_Plan_insert.2.1 34 = .ok (.getfield 11, 3) := by decide +kernel
theorem d_Plan_insert_37 : decode M_Plan_insert.2.1 37 = .ok (.iload_n 1, 1) := by decide +kernel
theorem d_Plan_insert_38 : decode M_Plan_insert.2.1 38 = .ok (.aaload, 1) := by decide +kernel
theorem d_Plan_insert_39 : decode M_Plan_insert.2.1 39 = .ok (.iload_n 2, 1) := by decide +kernel
theorem d_Plan_insert_40 : decode M_Plan_insert.2.1 40 = .ok (.iconst 1, 1) := by decide +kernel
theorem d_Plan_insert_41 : decode M_Plan_insert.2.1 41 = .ok (.iadd, 1) := by decide +kernel
theorem d_Plan_insert_42 : decode M_Plan_insert.2.1 42 = .ok (.iload 4, 2) := by decide +kernel
theorem d_Plan_insert_44 : decode M_Plan_insert.2.1 44 = .ok (.iload_n 2, 1) := by decide +kernel
theorem d_Plan_insert_45 : decode M_Plan_insert.2.1 45 = .ok (.isub, 1) := by decide +kernel
theorem d_Plan_insert_46 : decode M_Plan_insert.2.1 46 = .ok (.invokestatic 20, 3) := by decide +kernel
theorem d_Plan_insert_49 : decode M_Plan_insert.2.1 49 = .ok (.aload_n 0, 1) := by decide +kernel
theorem d_Plan_insert_50 : decode M_Plan_insert.2.1 50 = .ok (.getfield 11, 3) := by decide +kernel
theorem d_Plan_insert_53 : decode M_Plan_insert.2.1 53 = .ok (.iload_n 1, 1) := by decide +kernel
theorem d_Plan_insert_54 : decode M_Plan_insert.2.1 54 = .ok (.aaload, 1) := by decide +kernel
theorem d_Plan_insert_55 : decode M_Plan_insert.2.1 55 = .ok (.iload_n 2, 1) := by decide +kernel
theorem d_Plan_insert_56 : decode M_Plan_insert.2.1 56 = .ok (.iload_n 3, 1) := by decide +kernel
theorem d_Plan_insert_57 : decode M_Plan_insert.2.1 57 = .ok (.iastore, 1) := by decide +kernel
theorem d_Plan_insert_58 : decode M_Plan_insert.2.1 58 = .ok (.aload_n 0, 1) := by decide +kernel
theorem d_Plan_insert_59 : decode M_Plan_insert.2.1 59 = .ok (.getfield 16, 3) := by decide +kernel
theorem d_Plan_insert_62 : decode M_Plan_insert.2.1 62 = .ok (.iload_n 1, 1) := by decide +kernel
theorem d_Plan_insert_63 : decode M_Plan_insert.2.1 63 = .ok (.iload 4, 2) := by decide +kernel
theorem d_Plan_insert_65 : decode M_Plan_insert.2.1 65 = .ok (.iconst 1, 1) := by decide +kernel
theorem d_Plan_insert_66 : decode M_Plan_insert.2.1 66 = .ok (.iadd, 1) := by decide +kernel
theorem d_Plan_insert_67 : decode M_Plan_insert.2.1 67 = .ok (.iastore, 1) := by decide +kernel
theorem d_Plan_insert_68 : decode M_Plan_insert.2.1 68 = .ok (.return_, 1) := by decide +kernel
theorem d_Plan_isLike_0 : decode M_Plan_isLike.2.1 0 = .ok (.iconst 0, 1) := by decide +kernel
theorem d_Plan_isLike_1 : decode M_Plan_isLike.2.1 1 = .ok (.istore_n 2, 1) := by decide +kernel
theorem d_Plan_isLike_2 : decode M_Plan_isLike.2.1 2 = .ok (.iload_n 2, 1) := by decide +kernel
theorem d_Plan_isLike_3 : decode M_Plan_isLike.2.1 3 = .ok (.iconst 3, 1) := by decide +kernel
theorem d_Plan_isLike_4 : decode M_Plan_isLike.2.1 4 = .ok (.if_icmp .ge 65, 3) := by decide +kernel
theorem d_Plan_isLike_7 : decode M_Plan_isLike.2.1 7 = .ok (.aload_n 0, 1) := by decide +kernel
theorem d_Plan_isLike_8 : decode M_Plan_isLike.2.1 8 = .ok (.getfield 16, 3) := by decide +kernel
theorem d_Plan_isLike_11 : decode M_Plan_isLike.2.1 11 = .ok (.iload_n 2, 1) := by decide +kernel
theorem d_Plan_isLike_12 : decode M_Plan_isLike.2.1 12 = .ok (.iaload, 1) := by decide +kernel
theorem d_Plan_isLike_13 : decode M_Plan_isLike.2.1 13 = .ok (.aload_n 1, 1) := by decide +kernel
theorem d_Plan_isLike_14 : decode M_Plan_isLike.2.1 14 = .ok (.getfield 16, 3) := by decide +kernel
theorem d_Plan_isLike_17 : decode M_Plan_isLike.2.1 17 = .ok (.iload_n 2, 1) := by decide +kernel
theorem d_Plan_isLike_18 : decode M_Plan_isLike.2.1 18 = .ok (.iaload, 1) := by decide +kernel
theorem d_Plan_isLike_19 : decode M_Plan_isLike.2.1 19 = .ok (.if_icmp .eq 5, 3) := by decide +kernel
theorem d_Plan_isLike_22 : decode M_Plan_isLike.2.1 22 = .ok (.iconst 0, 1) := by decide +kernel
theorem d_Plan_isLike_23 : decode M_Plan_isLike.2.1 23 = .ok (.ireturn, 1) := by decide +kernel
theorem d_Plan_isLike_24 : decode M_Plan_isLike.2.1 24 = .ok (.iconst 0, 1) := by decide +kernel
theorem d_Plan_isLike_25 : decode M_Plan_isLike.2.1 25 = .ok (.istore_n 3, 1) := by decide +kernel
theorem d_Plan_isLike_26 : decode M_Plan_isLike.2.1 26 = .ok (.iload_n 3, 1) := by decide +kernel
theorem d_Plan_isLike_27 : decode M_Plan_isLike.2.1 27 = .ok (.aload_n 0, 1) := by decide +kernel
theorem d_Plan_isLike_28 : decode M_Plan_isLike.2.1 28 = .ok (.getfield 16, 3) := by decide +kernel
theorem d_Plan_isLike_31 : decode M_Plan_isLike.2.1 31 = .ok (.iload_n 2, 1) := by decide +kernel
theorem d_Plan_isLike_32 : decode M_Plan_isLike.2.1 32 = .ok (.iaload, 1) := by decide +kernel
theorem d_Plan_isLike_33 : decode M_Plan_isLike.2.1 33 = .ok (.if_icmp .ge 30, 3) := by decide +kernel
theorem d_Plan_isLike_36 : decode M_Plan_isLike.2.1 36 = .ok (.aload_n 0, 1) := by decide +kernel
theorem d_Plan_isLike_37 : decode M_Plan_isLike.2.1 37 = .ok (.getfield 11, 3) := by decide +kernel
theorem d_Plan_isLike_40 : decode M_Plan_isLike.2.1 40 = .ok (.iload_n 2, 1) := by decide +kernel
theorem d_Plan_isLike_41 : decode M_Plan_isLike.2.1 41 = .ok (.aaload, 1) := by decide +kernel
theorem d_Plan_isLike_42 : decode M_Plan_isLike.2.1 42 = .ok (.iload_n 3, 1) := by decide +kernel
theorem d_Plan_isLike_43 : decode M_Plan_isLike.2.1 43 = .ok (.iaload, 1) := by decide +kernel
theorem d_Plan_isLike_44 : decode M_Plan_isLike.2.1 44 = .ok (.aload_n 1, 1) := by decide +kernel
theorem d_Plan_isLike_45 : decode M_Plan_isLike.2.1 45 = .ok (.getfield 11, 3) := by decide +kernel
theorem d_Plan_isLike_48 : decode M_Plan_isLike.2.1 48 = .ok (.iload_n 2, 1) := by decide +kernel
theorem d_Plan_isLike_49 : decode M_Plan_isLike.2.1 49 = .ok (.aaload, 1) := by decide +kernel
theorem d_Plan_isLike_50 : decode M_Plan_isLike.2.1 50 = .ok (.iload_n 3, 1) := by decide +kernel
theorem d_Plan_isLike_51 : decode M_Plan_isLike.2.1 51 = .ok (.iaload, 1) := by decide +kernel
theorem d_Plan_isLike_52 : decode M_Plan_isLike.2.1 52 = .ok (.if_icmp .eq 5, 3) := by decide +kernel
theorem d_Plan_isLike_55 : decode M_Plan_isLike.2.1 55 = .ok (.iconst 0, 1) := by decide +kernel
theorem d_Plan_isLike_56 : decode M_Plan_isLike.2.1 56 = .ok (.ireturn, 1) := by decide +kernel
theorem d_Plan_isLike_57 : decode M_Plan_isLike.2.1 57 = .ok (.iinc 3 1, 3) := by decide +kernel
theorem d_Plan_isLike_60 : decode M_Plan_isLike.2.1 60 = .ok (.goto (-34), 3) := by decide +kernel
theorem d_Plan_isLike_63 : decode M_Plan_isLike.2.1 63 = .ok (.iinc 2 1, 3) := by decide +kernel
theorem d_Plan_isLike_66 : decode M_Plan_isLike.2.1 66 = .ok (.goto (-64), 3) := by decide +kernel
theorem d_Plan_isLike_69 : decode M_Plan_isLike.2.1 69 = .ok (.iconst 1, 1) := by decide +kernel
theorem d_Plan_isLike_70 : decode M_Plan_isLike.2.1 70 = .ok (.ireturn, 1) := by decide +kernel
theorem d_Past_keep_0 : decode M_Past_keep.2.1 0 = .ok (.aload_n 0, 1) := by decide +kernel
theorem d_Past_keep_1 : decode M_Past_keep.2.1 1 = .ok (.aload_n 0, 1) := by decide +kernel
theorem d_Past_keep_2 : decode M_Past_keep.2.1 2 = .ok (.getfield 22, 3) := by decide +kernel
theorem d_Past_keep_5 : decode M_Past_keep.2.1 5 = .ok (.iconst 1, 1) := by decide +kernel
theorem d_Past_keep_6 : decode M_Past_keep.2.1 6 = .ok (.iadd, 1) := by decide +kernel
theorem d_Past_keep_7 : decode M_Past_keep.2.1 7 = .ok (.bipush 20, 2) := by decide +kernel
theorem d_Past_keep_9 : decode M_Past_keep.2.1 9 = .ok (.irem, 1) := by decide +kernel
theorem d_Past_keep_10 : decode M_Past_keep.2.1 10 = .ok (.putfield 22, 3) := by decide +kernel
theorem d_Past_keep_13 : decode M_Past_keep.2.1 13 = .ok (.aload_n 0, 1) := by decide +kernel
theorem d_Past_keep_14 : decode M_Past_keep.2.1 14 = .ok (.getfield 11, 3) := by decide +kernel
theorem d_Past_keep_17 : decode M_Past_keep.2.1 17 = .ok (.aload_n 0, 1) := by decide +kernel
theorem d_Past_keep_18 : decode M_Past_keep.2.1 18 = .ok (.getfield 22, 3) := by decide +kernel
theorem d_Past_keep_21 : decode M_Past_keep.2.1 21 = .ok (.aaload, 1) := by decide +kernel
theorem d_Past_keep_22 : decode M_Past_keep.2.1 22 = .ok (.aload_n 1, 1) := by decide +kernel
theorem d_Past_keep_23 : decode M_Past_keep.2.1 23 = .ok (.invokevirtual 25, 3) := by decide +kernel
theorem d_Past_keep_26 : decode M_Past_keep.2.1 26 = .ok (.aload_n 0, 1) := by decide +kernel
theorem d_Past_keep_27 : decode M_Past_keep.2.1 27 = .ok (.getfield 18, 3) := by decide +kernel
theorem d_Past_keep_30 : decode M_Past_keep.2.1 30 = .ok (.bipush 20, 2) := by decide +kernel
theorem d_Past_keep_32 : decode M_Past_keep.2.1 32 = .ok (.if_icmp .ge 13, 3) := by decide +kernel
theorem d_Past_keep_35 : decode M_Past_keep.2.1 35 = .ok (.aload_n 0, 1) := by decide +kernel
theorem d_Past_keep_36 : decode M_Past_keep.2.1 36 = .ok (.dup, 1) := by decide +kernel
theorem d_Past_keep_37 : decode M_Past_keep.2.1 37 = .ok (.getfield 18, 3) := by decide +kernel
theorem d_Past_keep_40 : decode M_Past_keep.2.1 40 = .ok (.iconst 1, 1) := by decide +kernel
theorem d_Past_keep_41 : decode M_Past_keep.2.1 41 = .ok (.iadd, 1) := by decide +kernel
theorem d_Past_keep_42 : decode M_Past_keep.2.1 42 = .ok (.putfield 18, 3) := by decide +kernel
theorem d_Past_keep_45 : decode M_Past_keep.2.1 45 = .ok (.return_, 1) := by decide +kernel
theorem d_Plan_remove_0 : decode M_Plan_remove.2.1 0 = .ok (.aload_n 0, 1) := by decide +kernel
theorem d_Plan_remove_1 : decode M_Plan_remove.2.1 1 = .ok (.iload_n 1, 1) := by decide +kernel
theorem d_Plan_remove_2 : decode M_Plan_remove.2.1 2 = .ok (.invokevirtual 26, 3) := by decide +kernel
theorem d_Plan_remove_5 : decode M_Plan_remove.2.1 5 = .ok (.istore_n 2, 1) := by decide +kernel
theorem d_Plan_remove_6 : decode M_Plan_remove.2.1 6 = .ok (.iload_n 2, 1) := by decide +kernel
theorem d_Plan_remove_7 : decode M_Plan_remove.2.1 7 = .ok (.iconst (-1), 1) := by decide +kernel
theorem d_Plan_remove_8 : decode M_Plan_remove.2.1 8 = .ok (.if_icmp .eq 13, 3) := by decide +kernel
theorem d_Plan_remove_11 : decode M_Plan_remove.2.1 11 = .ok (.aload_n 0, 1) := by decide +kernel
theorem d_Plan_remove_12 : decode M_Plan_remove.2.1 12 = .ok (.iload_n 2, 1) := by decide +kernel
theorem d_Plan_remove_13 : decode M_Plan_remove.2.1 13 = .ok (.aload_n 0, 1) := by decide +kernel
theorem d_Plan_remove_14 : decode M_Plan_remove.2.1 14 = .ok (.iload_n 1, 1) := by decide +kernel
theorem d_Plan_remove_15 : decode M_Plan_remove.2.1 15 = .ok (.invokevirtual 30, 3) := by decide +kernel
theorem d_Plan_remove_18 : decode M_Plan_remove.2.1 18 = .ok (.invokevirtual 33, 3) := by decide +kernel
theorem d_Plan_remove_21 : decode M_Plan_remove.2.1 21 = .ok (.return_, 1) := by decide +kernel
theorem d_Plan_removeAt_0 : decode M_Plan_removeAt.2.1 0 = .ok (.aload_n 0, 1) := by decide +kernel
theorem d_Plan_removeAt_1 : decode M_Plan_removeAt.2.1 1 = .ok (.getfield 16, 3) := by decide +kernel
theorem d_Plan_removeAt_4 : decode M_Plan_removeAt.2.1 4 = .ok (.iload_n 1, 1) := by decide +kernel
theorem d_Plan_removeAt_5 : decode M_Plan_removeAt.2.1 5 = .ok (.iaload, 1) := by decide +kernel
theorem d_Plan_removeAt_6 : decode M_Plan_removeAt.2.1 6 = .ok (.istore_n 3, 1) := by decide +kernel
theorem d_Plan_removeAt_7 : decode M_Plan_removeAt.2.1 7 = .ok (.iload_n 2, 1) := by decide +kernel
theorem d_Plan_removeAt_8 : decode M_Plan_removeAt.2.1 8 = .ok (.ifCond .lt 8, 3) := by decide +kernel
theorem d_Plan_removeAt_11 : decode M_Plan_removeAt.2.1 11 = .ok (.iload_n 2, 1) := by decide +kernel
theorem d_Plan_removeAt_12 : decode M_Plan_removeAt.2.1 12 = .ok (.iload_n 3, 1) := by decide +kernel
theorem d_Plan_removeAt_13 : decode M_Plan_removeAt.2.1 13 = .ok (.if_icmp .lt 4, 3) := by decide +kernel
theorem d_Plan_removeAt_16 : decode M_Plan_removeAt.2.1 16 = .ok (.return_, 1) := by decide +kernel
theorem d_Plan_removeAt_17 : decode M_Plan_removeAt.2.1 17 = .ok (.aload_n 0, 1) := by decide +kernel
theorem d_Plan_removeAt_18 : decode M_Plan_removeAt.2.1 18 = .ok (.getfield 11, 3) := by decide +kernel
theorem d_Plan_removeAt_21 : decode M_Plan_removeAt.2.1 21 = .ok (.iload_n 1, 1) := by decide +kernel
theorem d_Plan_removeAt_22 : decode M_Plan_removeAt.2.1 22 = .ok (.aaload, 1) := by decide +kernel
theorem d_Plan_removeAt_23 : decode M_Plan_removeAt.2.1 23 = .ok (.iload_n 2, 1) := by decide +kernel
theorem d_Plan_removeAt_24 : decode M_Plan_removeAt.2.1 24 = .ok (.iconst 1, 1) := by decide +kernel
theorem d_Plan_removeAt_25 : decode M_Plan_removeAt.2.1 25 = .ok (.iadd, 1) := by decide +kernel
theorem d_Plan_removeAt_26 : decode M_Plan_removeAt.2.1 26 = .ok (.aload_n 0, 1) := by decide +kernel
theorem d_Plan_removeAt_27 : decode M_Plan_removeAt.2.1 27 = .ok (.getfield 11, 3) := by decide +kernel
theorem d_Plan_removeAt_30 : decode M_Plan_removeAt.2.1 30 = .ok (.iload_n 1, 1) := by decide +kernel
theorem d_Plan_removeAt_31 : decode M_Plan_removeAt.2.1 31 = .ok (.aaload, 1) := by decide +kernel
theorem d_Plan_removeAt_32 : decode M_Plan_removeAt.2.1 32 = .ok (.iload_n 2, 1) := by decide +kernel
theorem d_Plan_removeAt_33 : decode M_Plan_removeAt.2.1 33 = .ok (.iload_n 3, 1) := by decide +kernel
theorem d_Plan_removeAt_34 : decode M_Plan_removeAt.2.1 34 = .ok (.iload_n 2, 1) := by decide +kernel
theorem d_Plan_removeAt_35 : decode M_Plan_removeAt.2.1 35 = .ok (.isub, 1) := by decide +kernel
theorem d_Plan_removeAt_36 : decode M_Plan_removeAt.2.1 36 = .ok (.iconst 1, 1) := by decide +kernel
theorem d_Plan_removeAt_37 : decode M_Plan_removeAt.2.1 37 = .ok (.isub, 1) := by decide +kernel
theorem d_Plan_removeAt_38 : decode M_Plan_removeAt.2.1 38 = .ok (.invokestatic 20, 3) := by decide +kernel
theorem d_Plan_removeAt_41 : decode M_Plan_removeAt.2.1 41 = .ok (.aload_n 0, 1) := by decide +kernel
theorem d_Plan_removeAt_42 : decode M_Plan_removeAt.2.1 42 = .ok (.getfield 16, 3) := by decide +kernel
theorem d_Plan_removeAt_45 : decode M_Plan_removeAt.2.1 45 = .ok (.iload_n 1, 1) := by decide +kernel
theorem d_Plan_removeAt_46 : decode M_Plan_removeAt.2.1 46 = .ok (.iload_n 3, 1) := by decide +kernel
theorem d_Plan_removeAt_47 : decode M_Plan_removeAt.2.1 47 = .ok (.iconst 1, 1) := by decide +kernel
theorem d_Plan_removeAt_48 : decode M_Plan_removeAt.2.1 48 = .ok (.isub, 1) := by decide +kernel
theorem d_Plan_removeAt_49 : decode M_Plan_removeAt.2.1 49 = .ok (.iastore, 1) := by decide +kernel
theorem d_Plan_removeAt_50 : decode M_Plan_removeAt.2.1 50 = .ok (.return_, 1) := by decide +kernel
theorem d_Plan_takeEnd_0 : decode M_Plan_takeEnd.2.1 0 = .ok (.aload_n 3, 1) := by decide +kernel
theorem d_Plan_takeEnd_1 : decode M_Plan_takeEnd.2.1 1 = .ok (.getfield 16, 3) := by decide +kernel
theorem d_Plan_takeEnd_4 : decode M_Plan_takeEnd.2.1 4 = .ok (.iload 4, 2) := by decide +kernel
theorem d_Plan_takeEnd_6 : decode M_Plan_takeEnd.2.1 6 = .ok (.iaload, 1) := by decide +kernel
theorem d_Plan_takeEnd_7 : decode M_Plan_takeEnd.2.1 7 = .ok (.iload 5, 2) := by decide +kernel
theorem d_Plan_takeEnd_9 : decode M_Plan_takeEnd.2.1 9 = .ok (.isub, 1) := by decide +kernel
theorem d_Plan_takeEnd_10 : decode M_Plan_takeEnd.2.1 10 = .ok (.istore 6, 2) := by decide +kernel
theorem d_Plan_takeEnd_12 : decode M_Plan_takeEnd.2.1 12 = .ok (.iload_n 2, 1) := by decide +kernel
theorem d_Plan_takeEnd_13 : decode M_Plan_takeEnd.2.1 13 = .ok (.ifCond .lt 22, 3) := by decide +kernel
theorem d_Plan_takeEnd_16 : decode M_Plan_takeEnd.2.1 16 = .ok (.iload 5, 2) := by decide +kernel
theorem d_Plan_takeEnd_18 : decode M_Plan_takeEnd.2.1 18 = .ok (.ifCond .lt 17, 3) := by decide +kernel
theorem d_Plan_takeEnd_21 : decode M_Plan_takeEnd.2.1 21 = .ok (.iload 6, 2) := by decide +kernel
theorem d_Plan_takeEnd_23 : decode M_Plan_takeEnd.2.1 23 = .ok (.ifCond .lt 12, 3) := by decide +kernel
theorem d_Plan_takeEnd_26 : decode M_Plan_takeEnd.2.1 26 = .ok (.iload_n 2, 1) := by decide +kernel
theorem d_Plan_takeEnd_27 : decode M_Plan_takeEnd.2.1 27 = .ok (.iload 6, 2) := by decide +kernel
theorem d_Plan_takeEnd_29 : decode M_Plan_takeEnd.2.1 29 = .ok (.iadd, 1) := by decide +kernel
theorem d_Plan_takeEnd_30 : decode M_Plan_takeEnd.2.1 30 = .ok (.bipush 12, 2) := by decide +kernel
theorem d_Plan_takeEnd_32 : decode M_Plan_takeEnd.2.1 32 = .ok (.if_icmp .le 4, 3) := by decide +kernel
theorem d_Plan_takeEnd_35 : decode M_Plan_takeEnd.2.1 35 = .ok (.return_, 1) := by decide +kernel
theorem d_Plan_takeEnd_36 : decode M_Plan_takeEnd.2.1 36 = .ok (.aload_n 3, 1) := by decide +kernel
theorem d_Plan_takeEnd_37 : decode M_Plan_takeEnd.2.1 37 = .ok (.getfield 11, 3) := by decide +kernel
theorem d_Plan_takeEnd_40 : decode M_Plan_takeEnd.2.1 40 = .ok (.iload 4, 2) := by decide +kernel
theorem d_Plan_takeEnd_42 : decode M_Plan_takeEnd.2.1 42 = .ok (.aaload, 1) := by decide +kernel
theorem d_Plan_takeEnd_43 : decode M_Plan_takeEnd.2.1 43 = .ok (.iload 5, 2) := by decide +kernel
theorem d_Plan_takeEnd_45 : decode M_Plan_takeEnd.2.1 45 = .ok (.aload_n 0, 1) := by decide +kernel
theorem d_Plan_takeEnd_46 : decode M_Plan_takeEnd.2.1 46 = .ok (.getfield 11, 3) := by decide +kernel
theorem d_Plan_takeEnd_49 : decode M_Plan_takeEnd.2.1 49 = .ok (.iload_n 1, 1) := by decide +kernel
theorem d_Plan_takeEnd_50 : decode M_Plan_takeEnd.2.1 50 = .ok (.aaload, 1) := by decide +kernel
theorem d_Plan_takeEnd_51 : decode M_Plan_takeEnd.2.1 51 = .ok (.iload_n 2, 1) := by decide +kernel
theorem d_Plan_takeEnd_52 : decode M_Plan_takeEnd.2.1 52 = .ok (.iload 6, 2) := by decide +kernel
theorem d_Plan_takeEnd_54 : decode M_Plan_takeEnd.2.1 54 = .ok (.invokestatic 20, 3) := by decide +kernel
theorem d_Plan_takeEnd_57 : decode M_Plan_takeEnd.2.1 57 = .ok (.aload_n 0, 1) := by decide +kernel
theorem d_Plan_takeEnd_58 : decode M_Plan_takeEnd.2.1 58 = .ok (.getfield 16, 3) := by decide +kernel
theorem d_Plan_takeEnd_61 : decode M_Plan_takeEnd.2.1 61 = .ok (.iload_n 1, 1) := by decide +kernel
theorem d_Plan_takeEnd_62 : decode M_Plan_takeEnd.2.1 62 = .ok (.iload_n 2, 1) := by decide +kernel
theorem d_Plan_takeEnd_63 : decode M_Plan_takeEnd.2.1 63 = .ok (.iload 6, 2) := by decide +kernel
theorem d_Plan_takeEnd_65 : decode M_Plan_takeEnd.2.1 65 = .ok (.iadd, 1) := by decide +kernel
theorem d_Plan_takeEnd_66 : decode M_Plan_takeEnd.2.1 66 = .ok (.iastore, 1) := by decide +kernel
theorem d_Plan_takeEnd_67 : decode M_Plan_takeEnd.2.1 67 = .ok (.return_, 1) := by decide +kernel
theorem d_Plan_reverse_0 : decode M_Plan_reverse.2.1 0 = .ok (.aload_n 0, 1) := by decide +kernel
theorem d_Plan_reverse_1 : decode M_Plan_reverse.2.1 1 = .ok (.getfield 11, 3) := by decide +kernel
theorem d_Plan_reverse_4 : decode M_Plan_reverse.2.1 4 = .ok (.iload_n 1, 1) := by decide +kernel
theorem d_Plan_reverse_5 : decode M_Plan_reverse.2.1 5 = .ok (.aaload, 1) := by decide +kernel
theorem d_Plan_reverse_6 : decode M_Plan_reverse.2.1 6 = .ok (.astore 4, 2) := by decide +kernel
theorem d_Plan_reverse_8 : decode M_Plan_reverse.2.1 8 = .ok (.iload_n 2, 1) := by decide +kernel
theorem d_Plan_reverse_9 : decode M_Plan_reverse.2.1 9 = .ok (.istore 5, 2) := by decide +kernel
theorem d_Plan_reverse_11 : decode M_Plan_reverse.2.1 11 = .ok (.iload_n 3, 1) := by decide +kernel
theorem d_Plan_reverse_12 : decode M_Plan_reverse.2.1 12 = .ok (.istore 6, 2) := by decide +kernel
theorem d_Plan_reverse_14 : decode M_Plan_reverse.2.1 14 = .ok (.iload 5, 2) := by decide +kernel
theorem d_Plan_reverse_16 : decode M_Plan_reverse.2.1 16 = .ok (.iload 6, 2) := by decide +kernel
theorem d_Plan_reverse_18 : decode M_Plan_reverse.2.1 18 = .ok (.if_icmp .ge 36, 3) := by decide +kernel
theorem d_Plan_reverse_21 : decode M_Plan_reverse.2.1 21 = .ok (.aload 4, 2) := by decide +kernel
theorem d_Plan_reverse_23 : decode M_Plan_reverse.2.1 23 = .ok (.iload 5, 2) := by decide +kernel
theorem d_Plan_reverse_25 : decode M_Plan_reverse.2.1 25 = .ok (.iaload, 1) := by decide +kernel
theorem d_Plan_reverse_26 : decode M_Plan_reverse.2.1 26 = .ok (.istore 7, 2) := by decide +kernel
theorem d_Plan_reverse_28 : decode M_Plan_reverse.2.1 28 = .ok (.aload 4, 2) := by decide +kernel
theorem d_Plan_reverse_30 : decode M_Plan_reverse.2.1 30 = .ok (.iload 5, 2) := by decide +kernel
theorem d_Plan_reverse_32 : decode M_Plan_reverse.2.1 32 = .ok (.aload 4, 2) := by decide +kernel
theorem d_Plan_reverse_34 : decode M_Plan_reverse.2.1 34 = .ok (.iload 6, 2) := by decide +kernel
theorem d_Plan_reverse_36 : decode M_Plan_reverse.2.1 36 = .ok (.iaload, 1) := by decide +kernel
theorem d_Plan_reverse_37 : decode M_Plan_reverse.2.1 37 = .ok (.iastore, 1) := by decide +kernel
theorem d_Plan_reverse_38 : decode M_Plan_reverse.2.1 38 = .ok (.aload 4, 2) := by decide +kernel
theorem d_Plan_reverse_40 : decode M_Plan_reverse.2.1 40 = .ok (.iload 6, 2) := by decide +kernel
theorem d_Plan_reverse_42 : decode M_Plan_reverse.2.1 42 = .ok (.iload 7, 2) := by decide +kernel
theorem d_Plan_reverse_44 : decode M_Plan_reverse.2.1 44 = .ok (.iastore, 1) := by decide +kernel
theorem d_Plan_reverse_45 : decode M_Plan_reverse.2.1 45 = .ok (.iinc 5 1, 3) := by decide +kernel
theorem d_Plan_reverse_48 : decode M_Plan_reverse.2.1 48 = .ok (.iinc 6 (-1), 3) := by decide +kernel
theorem d_Plan_reverse_51 : decode M_Plan_reverse.2.1 51 = .ok (.goto (-37), 3) := by decide +kernel
theorem d_Plan_reverse_54 : decode M_Plan_reverse.2.1 54 = .ok (.return_, 1) := by decide +kernel
theorem d_Plan_size_0 : decode M_Plan_size.2.1 0 = .ok (.aload_n 0, 1) := by decide +kernel
theorem d_Plan_size_1 : decode M_Plan_size.2.1 1 = .ok (.getfield 16, 3) := by decide +kernel
theorem d_Plan_size_4 : decode M_Plan_size.2.1 4 = .ok (.iconst 0, 1) := by decide +kernel
theorem d_Plan_size_5 : decode M_Plan_size.2.1 5 = .ok (.iaload, 1) := by decide +kernel
theorem d_Plan_size_6 : decode M_Plan_size.2.1 6 = .ok (.aload_n 0, 1) := by decide +kernel
theorem d_Plan_size_7 : decode M_Plan_size.2.1 7 = .ok (.getfield 16, 3) := by decide +kernel
theorem d_Plan_size_10 : decode M_Plan_size.2.1 10 = .ok (.iconst 1, 1) := by decide +kernel
theorem d_Plan_size_11 : decode M_Plan_size.2.1 11 = .ok (.iaload, 1) := by decide +kernel
theorem d_Plan_size_12 : decode M_Plan_size.2.1 12 = .ok (.iadd, 1) := by decide +kernel
theorem d_Plan_size_13 : decode M_Plan_size.2.1 13 = .ok (.aload_n 0, 1) := by decide +kernel
theorem d_Plan_size_14 : decode M_Plan_size.2.1 14 = .ok (.getfield 16, 3) := by decide +kernel
theorem d_Plan_size_17 : decode M_Plan_size.2.1 17 = .ok (.iconst 2, 1) := by decide +kernel
theorem d_Plan_size_18 : decode M_Plan_size.2.1 18 = .ok (.iaload, 1) := by decide +kernel
theorem d_Plan_size_19 : decode M_Plan_size.2.1 19 = .ok (.iadd, 1) := by decide +kernel
theorem d_Plan_size_20 : decode M_Plan_size.2.1 20 = .ok (.ireturn, 1) := by decide +kernel
theorem d_Planner_findPut_0 : decode M_Planner_findPut.2.1 0 = .ok (.aload_n 0, 1) := by decide +kernel
theorem d_Planner_findPut_1 : decode M_Planner_findPut.2.1 1 = .ok (.iconst (-1), 1) := by decide +kernel
theorem d_Planner_findPut_2 : decode M_Planner_findPut.2.1 2 = .ok (.putfield 38, 3) := by decide +kernel
theorem d_Planner_findPut_5 : decode M_Planner_findPut.2.1 5 = .ok (.iconst 0, 1) := by decide +kernel
theorem d_Planner_findPut_6 : decode M_Planner_findPut.2.1 6 = .ok (.istore_n 1, 1) := by decide +kernel
theorem d_Planner_findPut_7 : decode M_Planner_findPut.2.1 7 = .ok (.iload_n 1, 1) := by decide +kernel
theorem d_Planner_findPut_8 : decode M_Planner_findPut.2.1 8 = .ok (.aload_n 0, 1) := by decide +kernel
theorem d_Planner_findPut_9 : decode M_Planner_findPut.2.1 9 = .ok (.getfield 22, 3) := by decide +kernel
theorem d_Planner_findPut_12 : decode M_Planner_findPut.2.1 12 = .ok (.getfield 42, 3) := by decide +kernel
theorem d_Planner_findPut_15 : decode M_Planner_findPut.2.1 15 = .ok (.if_icmp .ge 62, 3) := by decide +kernel
theorem d_Planner_findPut_18 : decode M_Planner_findPut.2.1 18 = .ok (.aload_n 0, 1) := by decide +kernel
theorem d_Planner_findPut_19 : decode M_Planner_findPut.2.1 19 = .ok (.getfield 22, 3) := by decide +kernel
theorem d_Planner_findPut_22 : decode M_Planner_findPut.2.1 22 = .ok (.getfield 47, 3) := by decide +kernel
theorem d_Planner_findPut_25 : decode M_Planner_findPut.2.1 25 = .ok (.iload_n 1, 1) := by decide +kernel
theorem d_Planner_findPut_26 : decode M_Planner_findPut.2.1 26 = .ok (.iaload, 1) := by decide +kernel
theorem d_Planner_findPut_27 : decode M_Planner_findPut.2.1 27 = .ok (.iconst 2, 1) := by decide +kernel
theorem d_Planner_findPut_28 : decode M_Planner_findPut.2.1 28 = .ok (.if_icmp .eq 43, 3) := by decide +kernel
theorem d_Planner_findPut_31 : decode M_Planner_findPut.2.1 31 = .ok (.aload_n 0, 1) := by decide +kernel
theorem d_Planner_findPut_32 : decode M_Planner_findPut.2.1 32 = .ok (.getfield 31, 3) := by decide +kernel
theorem d_Planner_findPut_35 : decode M_Planner_findPut.2.1 35 = .ok (.iload_n 1, 1) := by decide +kernel
theorem d_Planner_findPut_36 : decode M_Planner_findPut.2.1 36 = .ok (.invokevirtual 51, 3) := by decide +kernel
theorem d_Planner_findPut_39 : decode M_Planner_findPut.2.1 39 = .ok (.iconst (-1), 1) := by decide +kernel
theorem d_Planner_findPut_40 : decode M_Planner_findPut.2.1 40 = .ok (.if_icmp .eq 6, 3) := by decide +kernel
theorem d_Planner_findPut_43 : decode M_Planner_findPut.2.1 43 = .ok (.goto 28, 3) := by decide +kernel
theorem d_Planner_findPut_46 : decode M_Planner_findPut.2.1 46 = .ok (.iconst 0, 1) := by decide +kernel
theorem d_Planner_findPut_47 : decode M_Planner_findPut.2.1 47 = .ok (.istore_n 2, 1) := by decide +kernel
theorem d_Planner_findPut_48 : decode M_Planner_findPut.2.1 48 = .ok (.iload_n 2, 1) := by decide +kernel
theorem d_Planner_findPut_49 : decode M_Planner_findPut.2.1 49 = .ok (.aload_n 0, 1) := by decide +kernel
theorem d_Planner_findPut_50 : decode M_Planner_findPut.2.1 50 = .ok (.getfield 27, 3) := by decide +kernel
theorem d_Planner_findPut_53 : decode M_Planner_findPut.2.1 53 = .ok (.getfield 55, 3) := by decide +kernel
theorem d_Planner_findPut_56 : decode M_Planner_findPut.2.1 56 = .ok (.if_icmp .ge 15, 3) := by decide +kernel
theorem d_Planner_findPut_59 : decode M_Planner_findPut.2.1 59 = .ok (.aload_n 0, 1) := by decide +kernel
theorem d_Planner_findPut_60 : decode M_Planner_findPut.2.1 60 = .ok (.iload_n 1, 1) := by decide +kernel
theorem d_Planner_findPut_61 : decode M_Planner_findPut.2.1 61 = .ok (.iload_n 2, 1) := by decide +kernel
theorem d_Planner_findPut_62 : decode M_Planner_findPut.2.1 62 = .ok (.invokevirtual 58, 3) := by decide +kernel
theorem d_Planner_findPut_65 : decode M_Planner_findPut.2.1 65 = .ok (.iinc 2 1, 3) := by decide +kernel
theorem d_Planner_findPut_68 : decode M_Planner_findPut.2.1 68 = .ok (.goto (-20), 3) := by decide +kernel
theorem d_Planner_findPut_71 : decode M_Planner_findPut.2.1 71 = .ok (.iinc 1 1, 3) := by decide +kernel
theorem d_Planner_findPut_74 : decode M_Planner_findPut.2.1 74 = .ok (.goto (-67), 3) := by decide +kernel
theorem d_Planner_findPut_77 : decode M_Planner_findPut.2.1 77 = .ok (.aload_n 0, 1) := by decide +kernel
theorem d_Planner_findPut_78 : decode M_Planner_findPut.2.1 78 = .ok (.getfield 38, 3) := by decide +kernel
theorem d_Planner_findPut_81 : decode M_Planner_findPut.2.1 81 = .ok (.iconst (-1), 1) := by decide +kernel
theorem d_Planner_findPut_82 : decode M_Planner_findPut.2.1 82 = .ok (.if_icmp .eq 7, 3) := by decide +kernel
theorem d_Planner_findPut_85 : decode M_Planner_findPut.2.1 85 = .ok (.iconst 1, 1) := by decide +kernel
theorem d_Planner_findPut_86 : decode M_Planner_findPut.2.1 86 = .ok (.goto 4, 3) := by decide +kernel
theorem d_Planner_findPut_89 : decode M_Planner_findPut.2.1 89 = .ok (.iconst 0, 1) := by decide +kernel
theorem d_Planner_findPut_90 : decode M_Planner_findPut.2.1 90 = .ok (.ireturn, 1) := by decide +kernel
theorem d_Planner_tryPuts_0 : decode M_Planner_tryPuts.2.1 0 = .ok (.aload_n 0, 1) := by decide +kernel
theorem d_Planner_tryPuts_1 : decode M_Planner_tryPuts.2.1 1 = .ok (.getfield 12, 3) := by decide +kernel
theorem d_Planner_tryPuts_4 : decode M_Planner_tryPuts.2.1 4 = .ok (.aload_n 0, 1) := by decide +kernel
theorem d_Planner_tryPuts_5 : decode M_Planner_tryPuts.2.1 5 = .ok (.getfield 31, 3) := by decide +kernel
theorem d_Planner_tryPuts_8 : decode M_Planner_tryPuts.2.1 8 = .ok (.iload_n 2, 1) := by decide +kernel
theorem d_Planner_tryPuts_9 : decode M_Planner_tryPuts.2.1 9 = .ok (.invokevirtual 82, 3) := by decide +kernel
theorem d_Planner_tryPuts_12 : decode M_Planner_tryPuts.2.1 12 = .ok (.pop, 1) := by decide +kernel
theorem d_Planner_tryPuts_13 : decode M_Planner_tryPuts.2.1 13 = .ok (.aload_n 0, 1) := by decide +kernel
theorem d_Planner_tryPuts_14 : decode M_Planner_tryPuts.2.1 14 = .ok (.getfield 12, 3) := by decide +kernel
theorem d_Planner_tryPuts_17 : decode M_Planner_tryPuts.2.1 17 = .ok (.getfield 86, 3) := by decide +kernel
theorem d_Planner_tryPuts_20 : decode M_Planner_tryPuts.2.1 20 = .ok (.istore_n 3, 1) := by decide +kernel
theorem d_Planner_tryPuts_21 : decode M_Planner_tryPuts.2.1 21 = .ok (.aload_n 0, 1) := by decide +kernel
theorem d_Planner_tryPuts_22 : decode M_Planner_tryPuts.2.1 22 = .ok (.getfield 22, 3) := by decide +kernel
theorem d_Planner_tryPuts_25 : decode M_Planner_tryPuts.2.1 25 = .ok (.getfield 76, 3) := by decide +kernel
theorem d_Planner_tryPuts_28 : decode M_Planner_tryPuts.2.1 28 = .ok (.iload_n 1, 1) := by decide +kernel
theorem d_Planner_tryPuts_29 : decode M_Planner_tryPuts.2.1 29 = .ok (.iaload, 1) := by decide +kernel
theorem d_Planner_tryPuts_30 : decode M_Planner_tryPuts.2.1 30 = .ok (.istore 4, 2) := by decide +kernel
theorem d_Planner_tryPuts_32 : decode M_Planner_tryPuts.2.1 32 = .ok (.aload_n 0, 1) := by decide +kernel
theorem d_Planner_tryPuts_33 : decode M_Planner_tryPuts.2.1 33 = .ok (.getfield 31, 3) := by decide +kernel
theorem d_Planner_tryPuts_36 : decode M_Planner_tryPuts.2.1 36 = .ok (.getfield 89, 3) := by decide +kernel
theorem d_Planner_tryPuts_39 : decode M_Planner_tryPuts.2.1 39 = .ok (.iload_n 2, 1) := by decide +kernel
theorem d_Planner_tryPuts_40 : decode M_Planner_tryPuts.2.1 40 = .ok (.iaload, 1) := by decide +kernel
theorem d_Planner_tryPuts_41 : decode M_Planner_tryPuts.2.1 41 = .ok (.istore 5, 2) := by decide +kernel
theorem d_Planner_tryPuts_43 : decode M_Planner_tryPuts.2.1 43 = .ok (.iconst 0, 1) := by decide +kernel
theorem d_Planner_tryPuts_44 : decode M_Planner_tryPuts.2.1 44 = .ok (.istore 6, 2) := by decide +kernel
theorem d_Planner_tryPuts_46 : decode M_Planner_tryPuts.2.1 46 = .ok (.iload 6, 2) := by decide +kernel
theorem d_Planner_tryPuts_48 : decode M_Planner_tryPuts.2.1 48 = .ok (.iload 5, 2) := by decide +kernel
theorem d_Planner_tryPuts_50 : decode M_Planner_tryPuts.2.1 50 = .ok (.if_icmp .gt 133, 3) := by decide +kernel
theorem d_Planner_tryPuts_53 : decode M_Planner_tryPuts.2.1 53 = .ok (.aload_n 0, 1) := by decide +kernel
theorem d_Planner_tryPuts_54 : decode M_Planner_tryPuts.2.1 54 = .ok (.getfield 31, 3) := by decide +kernel
theorem d_Planner_tryPuts_57 : decode M_Planner_tryPuts.2.1 57 = .ok (.iload_n 2, 1) := by decide +kernel
theorem d_Planner_tryPuts_58 : decode M_Planner_tryPuts.2.1 58 = .ok (.iload 6, 2) := by decide +kernel
theorem d_Planner_tryPuts_60 : decode M_Planner_tryPuts.2.1 60 = .ok (.iload_n 1, 1) := by decide +kernel
theorem d_Planner_tryPuts_61 : decode M_Planner_tryPuts.2.1 61 = .ok (.invokevirtual 72, 3) := by decide +kernel
theorem d_Planner_tryPuts_64 : decode M_Planner_tryPuts.2.1 64 = .ok (.iload 4, 2) := by decide +kernel
theorem d_Planner_tryPuts_66 : decode M_Planner_tryPuts.2.1 66 = .ok (.iconst (-1), 1) := by decide +kernel
theorem d_Planner_tryPuts_67 : decode M_Planner_tryPuts.2.1 67 = .ok (.if_icmp .ne 31, 3) := by decide +kernel
theorem d_Planner_tryPuts_70 : decode M_Planner_tryPuts.2.1 70 = .ok (.aload_n 0, 1) := by decide +kernel
theorem d_Planner_tryPuts_71 : decode M_Planner_tryPuts.2.1 71 = .ok (.getfield 12, 3) := by decide +kernel
theorem d_Planner_tryPuts_74 : decode M_Planner_tryPuts.2.1 74 = .ok (.aload_n 0, 1) := by decide +kernel
theorem d_Planner_tryPuts_75 : decode M_Planner_tryPuts.2.1 75 = .ok (.getfield 31, 3) := by decide +kernel
theorem d_Planner_tryPuts_78 : decode M_Planner_tryPuts.2.1 78 = .ok (.iload_n 2, 1) := by decide +kernel
theorem d_Planner_tryPuts_79 : decode M_Planner_tryPuts.2.1 79 = .ok (.invokevirtual 82, 3) := by decide +kernel
theorem d_Planner_tryPuts_82 : decode M_Planner_tryPuts.2.1 82 = .ok (.ifCond .ne 85, 3) := by decide +kernel
theorem d_Planner_tryPuts_85 : decode M_Planner_tryPuts.2.1 85 = .ok (.aload_n 0, 1) := by decide +kernel
theorem d_Planner_tryPuts_86 : decode M_Planner_tryPuts.2.1 86 = .ok (.iload_n 1, 1) := by decide +kernel
theorem d_Planner_tryPuts_87 : decode M_Planner_tryPuts.2.1 87 = .ok (.iload_n 2, 1) := by decide +kernel
theorem d_Planner_tryPuts_88 : decode M_Planner_tryPuts.2.1 88 = .ok (.iload 6, 2) := by decide +kernel
theorem d_Planner_tryPuts_90 : decode M_Planner_tryPuts.2.1 90 = .ok (.iconst (-1), 1) := by decide +kernel
theorem d_Planner_tryPuts_91 : decode M_Planner_tryPuts.2.1 91 = .ok (.iload_n 3, 1) := by decide +kernel
theorem d_Planner_tryPuts_92 : decode M_Planner_tryPuts.2.1 92 = .ok (.invokevirtual 92, 3) := by decide +kernel
theorem d_Planner_tryPuts_95 : decode M_Planner_tryPuts.2.1 95 = .ok (.goto 72, 3) := by decide +kernel
theorem d_Planner_tryPuts_98 : decode M_Planner_tryPuts.2.1 98 = .ok (.iload 6, 2) := by decide +kernel
theorem d_Planner_tryPuts_100 : decode M_Planner_tryPuts.2.1 100 = .ok (.iconst 1, 1) := by decide +kernel
theorem d_Planner_tryPuts_101 : decode M_Planner_tryPuts.2.1 101 = .ok (.iadd, 1) := by decide +kernel
theorem d_Planner_tryPuts_102 : decode M_Planner_tryPuts.2.1 102 = .ok (.istore 7, 2) := by decide +kernel
theorem d_Planner_tryPuts_104 : decode M_Planner_tryPuts.2.1 104 = .ok (.iload 7, 2) := by decide +kernel
theorem d_Planner_tryPuts_106 : decode M_Planner_tryPuts.2.1 106 = .ok (.iload 5, 2) := by decide +kernel
theorem d_Planner_tryPuts_108 : decode M_Planner_tryPuts.2.1 108 = .ok (.iconst 1, 1) := by decide +kernel
theorem d_Planner_tryPuts_109 : decode M_Planner_tryPuts.2.1 109 = .ok (.iadd, 1) := by decide +kernel
theorem d_Planner_tryPuts_110 : decode M_Planner_tryPuts.2.1 110 = .ok (.if_icmp .gt 57, 3) := by decide +kernel
theorem d_Planner_tryPuts_113 : decode M_Planner_tryPuts.2.1 113 = .ok (.aload_n 0, 1) := by decide +kernel
theorem d_Planner_tryPuts_114 : decode M_Planner_tryPuts.2.1 114 = .ok (.getfield 31, 3) := by decide +kernel
theorem d_Planner_tryPuts_117 : decode M_Planner_tryPuts.2.1 117 = .ok (.iload_n 2, 1) := by decide +kernel
theorem d_Planner_tryPuts_118 : decode M_Planner_tryPuts.2.1 118 = .ok (.iload 7, 2) := by decide +kernel
theorem d_Planner_tryPuts_120 : decode M_Planner_tryPuts.2.1 120 = .ok (.iload 4, 2) := by decide +kernel
theorem d_Planner_tryPuts_122 : decode M_Planner_tryPuts.2.1 122 = .ok (.invokevirtual 72, 3) := by decide +kernel
theorem d_Planner_tryPuts_125 : decode M_Planner_tryPuts.2.1 125 = .ok (.aload_n 0, 1) := by decide +kernel
theorem d_Planner_tryPuts_126 : decode M_Planner_tryPuts.2.1 126 = .ok (.getfield 12, 3) := by decide +kernel
theorem d_Planner_tryPuts_129 : decode M_Planner_tryPuts.2.1 129 = .ok (.aload_n 0, 1) := by decide +kernel
theorem d_Planner_tryPuts_130 : decode M_Planner_tryPuts.2.1 130 = .ok (.getfield 31, 3) := by decide +kernel
theorem d_Planner_tryPuts_133 : decode M_Planner_tryPuts.2.1 133 = .ok (.iload_n 2, 1) := by decide +kernel
theorem d_Planner_tryPuts_134 : decode M_Planner_tryPuts.2.1 134 = .ok (.invokevirtual 82, 3) := by decide +kernel
theorem d_Planner_tryPuts_137 : decode M_Planner_tryPuts.2.1 137 = .ok (.ifCond .ne 14, 3) := by decide +kernel
theorem d_Planner_tryPuts_140 : decode M_Planner_tryPuts.2.1 140 = .ok (.aload_n 0, 1) := by decide +kernel
theorem d_Planner_tryPuts_141 : decode M_Planner_tryPuts.2.1 141 = .ok (.iload_n 1, 1) := by decide +kernel
theorem d_Planner_tryPuts_142 : decode M_Planner_tryPuts.2.1 142 = .ok (.iload_n 2, 1) := by decide +kernel
theorem d_Planner_tryPuts_143 : decode M_Planner_tryPuts.2.1 143 = .ok (.iload 6, 2) := by decide +kernel
theorem d_Planner_tryPuts_145 : decode M_Planner_tryPuts.2.1 145 = .ok (.iload 7, 2) := by decide +kernel
theorem d_Planner_tryPuts_147 : decode M_Planner_tryPuts.2.1 147 = .ok (.iload_n 3, 1) := by decide +kernel
theorem d_Planner_tryPuts_148 : decode M_Planner_tryPuts.2.1 148 = .ok (.invokevirtual 92, 3) := by decide +kernel
theorem d_Planner_tryPuts_151 : decode M_Planner_tryPuts.2.1 151 = .ok (.aload_n 0, 1) := by decide +kernel
theorem d_Planner_tryPuts_152 : decode M_Planner_tryPuts.2.1 152 = .ok (.getfield 31, 3) := by decide +kernel
theorem d_Planner_tryPuts_155 : decode M_Planner_tryPuts.2.1 155 = .ok (.iload_n 2, 1) := by decide +kernel
theorem d_Planner_tryPuts_156 : decode M_Planner_tryPuts.2.1 156 = .ok (.iload 7, 2) := by decide +kernel
theorem d_Planner_tryPuts_158 : decode M_Planner_tryPuts.2.1 158 = .ok (.invokevirtual 96, 3) := by decide +kernel
theorem d_Planner_tryPuts_161 : decode M_Planner_tryPuts.2.1 161 = .ok (.iinc 7 1, 3) := by decide +kernel
theorem d_Planner_tryPuts_164 : decode M_Planner_tryPuts.2.1 164 = .ok (.goto (-60), 3) := by decide +kernel
theorem d_Planner_tryPuts_167 : decode M_Planner_tryPuts.2.1 167 = .ok (.aload_n 0, 1) := by decide +kernel
theorem d_Planner_tryPuts_168 : decode M_Planner_tryPuts.2.1 168 = .ok (.getfield 31, 3) := by decide +kernel
theorem d_Planner_tryPuts_171 : decode M_Planner_tryPuts.2.1 171 = .ok (.iload_n 2, 1) := by decide +kernel
theorem d_Planner_tryPuts_172 : decode M_Planner_tryPuts.2.1 172 = .ok (.iload 6, 2) := by decide +kernel
theorem d_Planner_tryPuts_174 : decode M_Planner_tryPuts.2.1 174 = .ok (.invokevirtual 96, 3) := by decide +kernel
theorem d_Planner_tryPuts_177 : decode M_Planner_tryPuts.2.1 177 = .ok (.iinc 6 1, 3) := by decide +kernel
theorem d_Planner_tryPuts_180 : decode M_Planner_tryPuts.2.1 180 = .ok (.goto (-134), 3) := by decide +kernel
theorem d_Planner_tryPuts_183 : decode M_Planner_tryPuts.2.1 183 = .ok (.return_, 1) := by decide +kernel
theorem d_Planner_weighPut_0 : decode M_Planner_weighPut.2.1 0 = .ok (.aload_n 0, 1) := by decide +kernel
theorem d_Planner_weighPut_1 : decode M_Planner_weighPut.2.1 1 = .ok (.getfield 12, 3) := by decide +kernel
theorem d_Planner_weighPut_4 : decode M_Planner_weighPut.2.1 4 = .ok (.getfield 86, 3) := by decide +kernel
theorem d_Planner_weighPut_7 : decode M_Planner_weighPut.2.1 7 = .ok (.iload 5, 2) := by decide +kernel
theorem d_Planner_weighPut_9 : decode M_Planner_weighPut.2.1 9 = .ok (.isub, 1) := by decide +kernel
theorem d_Planner_weighPut_10 : decode M_Planner_weighPut.2.1 10 = .ok (.istore 6, 2) := by decide +kernel
theorem d_Planner_weighPut_12 : decode M_Planner_weighPut.2.1 12 = .ok (.aload_n 0, 1) := by decide +kernel
theorem d_Planner_weighPut_13 : decode M_Planner_weighPut.2.1 13 = .ok (.getfield 38, 3) := by decide +kernel
theorem d_Planner_weighPut_16 : decode M_Planner_weighPut.2.1 16 = .ok (.iconst (-1), 1) := by decide +kernel
theorem d_Planner_weighPut_17 : decode M_Planner_weighPut.2.1 17 = .ok (.if_icmp .eq 13, 3) := by decide +kernel
theorem d_Planner_weighPut_20 : decode M_Planner_weighPut.2.1 20 = .ok (.iload 6, 2) := by decide +kernel
theorem d_Planner_weighPut_22 : decode M_Planner_weighPut.2.1 22 = .ok (.aload_n 0, 1) := by decide +kernel
theorem d_Planner_weighPut_23 : decode M_Planner_weighPut.2.1 23 = .ok (.getfield 99, 3) := by decide +kernel
theorem d_Planner_weighPut_26 : decode M_Planner_weighPut.2.1 26 = .ok (.if_icmp .lt 4, 3) := by decide +kernel
theorem d_Planner_weighPut_29 : decode M_Planner_weighPut.2.1 29 = .ok (.return_, 1) := by decide +kernel
theorem d_Planner_weighPut_30 : decode M_Planner_weighPut.2.1 30 = .ok (.aload_n 0, 1) := by decide +kernel
theorem d_Planner_weighPut_31 : decode M_Planner_weighPut.2.1 31 = .ok (.iload_n 1, 1) := by decide +kernel
theorem d_Planner_weighPut_32 : decode M_Planner_weighPut.2.1 32 = .ok (.putfield 38, 3) := by decide +kernel
theorem d_Planner_weighPut_35 : decode M_Planner_weighPut.2.1 35 = .ok (.aload_n 0, 1) := by decide +kernel
theorem d_Planner_weighPut_36 : decode M_Planner_weighPut.2.1 36 = .ok (.iload_n 2, 1) := by decide +kernel
theorem d_Planner_weighPut_37 : decode M_Planner_weighPut.2.1 37 = .ok (.putfield 66, 3) := by decide +kernel
theorem d_Planner_weighPut_40 : decode M_Planner_weighPut.2.1 40 = .ok (.aload_n 0, 1) := by decide +kernel
theorem d_Planner_weighPut_41 : decode M_Planner_weighPut.2.1 41 = .ok (.iload_n 3, 1) := by decide +kernel
theorem d_Planner_weighPut_42 : decode M_Planner_weighPut.2.1 42 = .ok (.putfield 69, 3) := by decide +kernel
theorem d_Planner_weighPut_45 : decode M_Planner_weighPut.2.1 45 = .ok (.aload_n 0, 1) := by decide +kernel
theorem d_Planner_weighPut_46 : decode M_Planner_weighPut.2.1 46 = .ok (.iload 4, 2) := by decide +kernel
theorem d_Planner_weighPut_48 : decode M_Planner_weighPut.2.1 48 = .ok (.putfield 79, 3) := by decide +kernel
theorem d_Planner_weighPut_51 : decode M_Planner_weighPut.2.1 51 = .ok (.aload_n 0, 1) := by decide +kernel
theorem d_Planner_weighPut_52 : decode M_Planner_weighPut.2.1 52 = .ok (.iload 6, 2) := by decide +kernel
theorem d_Planner_weighPut_54 : decode M_Planner_weighPut.2.1 54 = .ok (.putfield 99, 3) := by decide +kernel
theorem d_Planner_weighPut_57 : decode M_Planner_weighPut.2.1 57 = .ok (.return_, 1) := by decide +kernel
theorem d_Planner_doPut_0 : decode M_Planner_doPut.2.1 0 = .ok (.aload_n 0, 1) := by decide +kernel
theorem d_Planner_doPut_1 : decode M_Planner_doPut.2.1 1 = .ok (.getfield 22, 3) := by decide +kernel
theorem d_Planner_doPut_4 : decode M_Planner_doPut.2.1 4 = .ok (.aload_n 0, 1) := by decide +kernel
theorem d_Planner_doPut_5 : decode M_Planner_doPut.2.1 5 = .ok (.getfield 38, 3) := by decide +kernel
theorem d_Planner_doPut_8 : decode M_Planner_doPut.2.1 8 = .ok (.invokevirtual 62, 3) := by decide +kernel
theorem d_Planner_doPut_11 : decode M_Planner_doPut.2.1 11 = .ok (.ifCond .ne 4, 3) := by decide +kernel
theorem d_Planner_doPut_14 : decode M_Planner_doPut.2.1 14 = .ok (.return_, 1) := by decide +kernel
theorem d_Planner_doPut_15 : decode M_Planner_doPut.2.1 15 = .ok (.aload_n 0, 1) := by decide +kernel
theorem d_Planner_doPut_16 : decode M_Planner_doPut.2.1 16 = .ok (.getfield 31, 3) := by decide +kernel
theorem d_Planner_doPut_19 : decode M_Planner_doPut.2.1 19 = .ok (.aload_n 0, 1) := by decide +kernel
theorem d_Planner_doPut_20 : decode M_Planner_doPut.2.1 20 = .ok (.getfield 66, 3) := by decide +kernel
theorem d_Planner_doPut_23 : decode M_Planner_doPut.2.1 23 = .ok (.aload_n 0, 1) := by decide +kernel
theorem d_Planner_doPut_24 : decode M_Planner_doPut.2.1 24 = .ok (.getfield 69, 3) := by decide +kernel
theorem d_Planner_doPut_27 : decode M_Planner_doPut.2.1 27 = .ok (.aload_n 0, 1) := by decide +kernel
theorem d_Planner_doPut_28 : decode M_Planner_doPut.2.1 28 = .ok (.getfield 38, 3) := by decide +kernel
theorem d_Planner_doPut_31 : decode M_Planner_doPut.2.1 31 = .ok (.invokevirtual 72, 3) := by decide +kernel
theorem d_Planner_doPut_34 : decode M_Planner_doPut.2.1 34 = .ok (.aload_n 0, 1) := by decide +kernel
theorem d_Planner_doPut_35 : decode M_Planner_doPut.2.1 35 = .ok (.getfield 22, 3) := by decide +kernel
theorem d_Planner_doPut_38 : decode M_Planner_doPut.2.1 38 = .ok (.getfield 76, 3) := by decide +kernel
theorem d_Planner_doPut_41 : decode M_Planner_doPut.2.1 41 = .ok (.aload_n 0, 1) := by decide +kernel
theorem d_Planner_doPut_42 : decode M_Planner_doPut.2.1 42 = .ok (.getfield 38, 3) := by decide +kernel
theorem d_Planner_doPut_45 : decode M_Planner_doPut.2.1 45 = .ok (.iaload, 1) := by decide +kernel
theorem d_Planner_doPut_46 : decode M_Planner_doPut.2.1 46 = .ok (.istore_n 1, 1) := by decide +kernel
theorem d_Planner_doPut_47 : decode M_Planner_doPut.2.1 47 = .ok (.iload_n 1, 1) := by decide +kernel
theorem d_Planner_doPut_48 : decode M_Planner_doPut.2.1 48 = .ok (.iconst (-1), 1) := by decide +kernel
theorem d_Planner_doPut_49 : decode M_Planner_doPut.2.1 49 = .ok (.if_icmp .eq 19, 3) := by decide +kernel
theorem d_Planner_doPut_52 : decode M_Planner_doPut.2.1 52 = .ok (.aload_n 0, 1) := by decide +kernel
theorem d_Planner_doPut_53 : decode M_Planner_doPut.2.1 53 = .ok (.getfield 31, 3) := by decide +kernel
theorem d_Planner_doPut_56 : decode M_Planner_doPut.2.1 56 = .ok (.aload_n 0, 1) := by decide +kernel
theorem d_Planner_doPut_57 : decode M_Planner_doPut.2.1 57 = .ok (.getfield 66, 3) := by decide +kernel
theorem d_Planner_doPut_60 : decode M_Planner_doPut.2.1 60 = .ok (.aload_n 0, 1) := by decide +kernel
theorem d_Planner_doPut_61 : decode M_Planner_doPut.2.1 61 = .ok (.getfield 79, 3) := by decide +kernel
theorem d_Planner_doPut_64 : decode M_Planner_doPut.2.1 64 = .ok (.iload_n 1, 1) := by decide +kernel
theorem d_Planner_doPut_65 : decode M_Planner_doPut.2.1 65 = .ok (.invokevirtual 72, 3) := by decide +kernel
theorem d_Planner_doPut_68 : decode M_Planner_doPut.2.1 68 = .ok (.return_, 1) := by decide +kernel
theorem d_Planner_improve_0 : decode M_Planner_improve.2.1 0 = .ok (.iconst 0, 1) := by decide +kernel
theorem d_Planner_improve_1 : decode M_Planner_improve.2.1 1 = .ok (.istore_n 1, 1) := by decide +kernel
theorem d_Planner_improve_2 : decode M_Planner_improve.2.1 2 = .ok (.iload_n 1, 1) := by decide +kernel
theorem d_Planner_improve_3 : decode M_Planner_improve.2.1 3 = .ok (.aload_n 0, 1) := by decide +kernel
theorem d_Planner_improve_4 : decode M_Planner_improve.2.1 4 = .ok (.getfield 22, 3) := by decide +kernel
theorem d_Planner_improve_7 : decode M_Planner_improve.2.1 7 = .ok (.getfield 42, 3) := by decide +kernel
theorem d_Planner_improve_10 : decode M_Planner_improve.2.1 10 = .ok (.if_icmp .ge 34, 3) := by decide +kernel
theorem d_Planner_improve_13 : decode M_Planner_improve.2.1 13 = .ok (.aload_n 0, 1) := by decide +kernel
theorem d_Planner_improve_14 : decode M_Planner_improve.2.1 14 = .ok (.getfield 31, 3) := by decide +kernel
theorem d_Planner_improve_17 : decode M_Planner_improve.2.1 17 = .ok (.iload_n 1, 1) := by decide +kernel
theorem d_Planner_improve_18 : decode M_Planner_improve.2.1 18 = .ok (.invokevirtual 51, 3) := by decide +kernel
theorem d_Planner_improve_21 : decode M_Planner_improve.2.1 21 = .ok (.istore_n 2, 1) := by decide +kernel
theorem d_Planner_improve_22 : decode M_Planner_improve.2.1 22 = .ok (.iload_n 2, 1) := by decide +kernel
theorem d_Planner_improve_23 : decode M_Planner_improve.2.1 23 = .ok (.iconst (-1), 1) := by decide +kernel
theorem d_Planner_improve_24 : decode M_Planner_improve.2.1 24 = .ok (.if_icmp .eq 14, 3) := by decide +kernel
theorem d_Planner_improve_27 : decode M_Planner_improve.2.1 27 = .ok (.aload_n 0, 1) := by decide +kernel
theorem d_Planner_improve_28 : decode M_Planner_improve.2.1 28 = .ok (.iload_n 1, 1) := by decide +kernel
theorem d_Planner_improve_29 : decode M_Planner_improve.2.1 29 = .ok (.iload_n 2, 1) := by decide +kernel
theorem d_Planner_improve_30 : decode M_Planner_improve.2.1 30 = .ok (.invokevirtual 102, 3) := by decide +kernel
theorem d_Planner_improve_33 : decode M_Planner_improve.2.1 33 = .ok (.ifCond .eq 5, 3) := by decide +kernel
theorem d_Planner_improve_36 : decode M_Planner_improve.2.1 36 = .ok (.iconst 1, 1) := by decide +kernel
theorem d_Planner_improve_37 : decode M_Planner_improve.2.1 37 = .ok (.ireturn, 1) := by decide +kernel
theorem d_Planner_improve_38 : decode M_Planner_improve.2.1 38 = .ok (.iinc 1 1, 3) := by decide +kernel
theorem d_Planner_improve_41 : decode M_Planner_improve.2.1 41 = .ok (.goto (-39), 3) := by decide +kernel
theorem d_Planner_improve_44 : decode M_Planner_improve.2.1 44 = .ok (.iconst 0, 1) := by decide +kernel
theorem d_Planner_improve_45 : decode M_Planner_improve.2.1 45 = .ok (.ireturn, 1) := by decide +kernel
theorem d_Planner_moveToLess_0 : decode M_Planner_moveToLess.2.1 0 = .ok (.aload_n 0, 1) := by decide +kernel
theorem d_Planner_moveToLess_1 : decode M_Planner_moveToLess.2.1 1 = .ok (.getfield 31, 3) := by decide +kernel
theorem d_Planner_moveToLess_4 : decode M_Planner_moveToLess.2.1 4 = .ok (.iload_n 1, 1) := by decide +kernel
theorem d_Planner_moveToLess_5 : decode M_Planner_moveToLess.2.1 5 = .ok (.invokevirtual 106, 3) := by decide +kernel
theorem d_Planner_moveToLess_8 : decode M_Planner_moveToLess.2.1 8 = .ok (.istore_n 3, 1) := by decide +kernel
theorem d_Planner_moveToLess_9 : decode M_Planner_moveToLess.2.1 9 = .ok (.aload_n 0, 1) := by decide +kernel
theorem d_Planner_moveToLess_10 : decode M_Planner_moveToLess.2.1 10 = .ok (.getfield 12, 3) := by decide +kernel
theorem d_Planner_moveToLess_13 : decode M_Planner_moveToLess.2.1 13 = .ok (.aload_n 0, 1) := by decide +kernel
theorem d_Planner_moveToLess_14 : decode M_Planner_moveToLess.2.1 14 = .ok (.getfield 31, 3) := by decide +kernel
theorem d_Planner_moveToLess_17 : decode M_Planner_moveToLess.2.1 17 = .ok (.iload_n 2, 1) := by decide +kernel
theorem d_Planner_moveToLess_18 : decode M_Planner_moveToLess.2.1 18 = .ok (.invokevirtual 82, 3) := by decide +kernel
theorem d_Planner_moveToLess_21 : decode M_Planner_moveToLess.2.1 21 = .ok (.pop, 1) := by decide +kernel
theorem d_Planner_moveToLess_22 : decode M_Planner_moveToLess.2.1 22 = .ok (.aload_n 0, 1) := by decide +kernel
theorem d_Planner_moveToLess_23 : decode M_Planner_moveToLess.2.1 23 = .ok (.getfield 12, 3) := by decide +kernel
theorem d_Planner_moveToLess_26 : decode M_Planner_moveToLess.2.1 26 = .ok (.getfield 86, 3) := by decide +kernel
theorem d_Planner_moveToLess_29 : decode M_Planner_moveToLess.2.1 29 = .ok (.istore 4, 2) := by decide +kernel
theorem d_Planner_moveToLess_31 : decode M_Planner_moveToLess.2.1 31 = .ok (.aload_n 0, 1) := by decide +kernel
theorem d_Planner_moveToLess_32 : decode M_Planner_moveToLess.2.1 32 = .ok (.getfield 31, 3) := by decide +kernel
theorem d_Planner_moveToLess_35 : decode M_Planner_moveToLess.2.1 35 = .ok (.iload_n 2, 1) := by decide +kernel
theorem d_Planner_moveToLess_36 : decode M_Planner_moveToLess.2.1 36 = .ok (.iload_n 3, 1) := by decide +kernel
theorem d_Planner_moveToLess_37 : decode M_Planner_moveToLess.2.1 37 = .ok (.invokevirtual 96, 3) := by decide +kernel
theorem d_Planner_moveToLess_40 : decode M_Planner_moveToLess.2.1 40 = .ok (.aload_n 0, 1) := by decide +kernel
theorem d_Planner_moveToLess_41 : decode M_Planner_moveToLess.2.1 41 = .ok (.getfield 12, 3) := by decide +kernel
theorem d_Planner_moveToLess_44 : decode M_Planner_moveToLess.2.1 44 = .ok (.aload_n 0, 1) := by decide +kernel
theorem d_Planner_moveToLess_45 : decode M_Planner_moveToLess.2.1 45 = .ok (.getfield 31, 3) := by decide +kernel
theorem d_Planner_moveToLess_48 : decode M_Planner_moveToLess.2.1 48 = .ok (.iload_n 2, 1) := by decide +kernel
theorem d_Planner_moveToLess_49 : decode M_Planner_moveToLess.2.1 49 = .ok (.invokevirtual 82, 3) := by decide +kernel
theorem d_Planner_moveToLess_52 : decode M_Planner_moveToLess.2.1 52 = .ok (.ifCond .ne 7, 3) := by decide +kernel
theorem d_Planner_moveToLess_55 : decode M_Planner_moveToLess.2.1 55 = .ok (.iconst 1, 1) := by decide +kernel
theorem d_Planner_moveToLess_56 : decode M_Planner_moveToLess.2.1 56 = .ok (.goto 4, 3) := by decide +kernel
theorem d_Planner_moveToLess_59 : decode M_Planner_moveToLess.2.1 59 = .ok (.iconst 0, 1) := by decide +kernel
theorem d_Planner_moveToLess_60 : decode M_Planner_moveToLess.2.1 60 = .ok (.istore 5, 2) := by decide +kernel
theorem d_Planner_moveToLess_62 : decode M_Planner_moveToLess.2.1 62 = .ok (.iload 4, 2) := by decide +kernel
theorem d_Planner_moveToLess_64 : decode M_Planner_moveToLess.2.1 64 = .ok (.aload_n 0, 1) := by decide +kernel
theorem d_Planner_moveToLess_65 : decode M_Planner_moveToLess.2.1 65 = .ok (.getfield 12, 3) := by decide +kernel
theorem d_Planner_moveToLess_68 : decode M_Planner_moveToLess.2.1 68 = .ok (.getfield 86, 3) := by decide +kernel
theorem d_Planner_moveToLess_71 : decode M_Planner_moveToLess.2.1 71 = .ok (.isub, 1) := by decide +kernel
theorem d_Planner_moveToLess_72 : decode M_Planner_moveToLess.2.1 72 = .ok (.istore 6, 2) := by decide +kernel
theorem d_Planner_moveToLess_74 : decode M_Planner_moveToLess.2.1 74 = .ok (.iconst 0, 1) := by decide +kernel
theorem d_Planner_moveToLess_75 : decode M_Planner_moveToLess.2.1 75 = .ok (.istore 7, 2) := by decide +kernel
theorem d_Planner_moveToLess_77 : decode M_Planner_moveToLess.2.1 77 = .ok (.iload 7, 2) := by decide +kernel
theorem d_Planner_moveToLess_79 : decode M_Planner_moveToLess.2.1 79 = .ok (.aload_n 0, 1) := by decide +kernel
theorem d_Planner_moveToLess_80 : decode M_Planner_moveToLess.2.1 80 = .ok (.getfield 27, 3) := by decide +kernel
theorem d_Planner_moveToLess_83 : decode M_Planner_moveToLess.2.1 83 = .ok (.getfield 55, 3) := by decide +kernel
theorem d_Planner_moveToLess_86 : decode M_Planner_moveToLess.2.1 86 = .ok (.if_icmp .ge 137, 3) := by decide +kernel
theorem d_Planner_moveToLess_89 : decode M_Planner_moveToLess.2.1 89 = .ok (.iload 7, 2) := by decide +kernel
theorem d_Planner_moveToLess_91 : decode M_Planner_moveToLess.2.1 91 = .ok (.iload_n 2, 1) := by decide +kernel
theorem d_Planner_moveToLess_92 : decode M_Planner_moveToLess.2.1 92 = .ok (.if_icmp .eq 11, 3) := by decide +kernel
theorem d_Planner_moveToLess_95 : decode M_Planner_moveToLess.2.1 95 = .ok (.iload 5, 2) := by decide +kernel
theorem d_Planner_moveToLess_97 : decode M_Planner_moveToLess.2.1 97 = .ok (.ifCond .ne 6, 3) := by decide +kernel
theorem d_Planner_moveToLess_100 : decode M_Planner_moveToLess.2.1 100 = .ok (.goto 117, 3) := by decide +kernel
theorem d_Planner_moveToLess_103 : decode M_Planner_moveToLess.2.1 103 = .ok (.aload_n 0, 1) := by decide +kernel
theorem d_Planner_moveToLess_104 : decode M_Planner_moveToLess.2.1 104 = .ok (.getfield 12, 3) := by decide +kernel
theorem d_Planner_moveToLess_107 : decode M_Planner_moveToLess.2.1 107 = .ok (.aload_n 0, 1) := by decide +kernel
theorem d_Planner_moveToLess_108 : decode M_Planner_moveToLess.2.1 108 = .ok (.getfield 31, 3) := by decide +kernel
theorem d_Planner_moveToLess_111 : decode M_Planner_moveToLess.2.1 111 = .ok (.iload 7, 2) := by decide +kernel
theorem d_Planner_moveToLess_113 : decode M_Planner_moveToLess.2.1 113 = .ok (.invokevirtual 82, 3) := by decide +kernel
theorem d_Planner_moveToLess_116 : decode M_Planner_moveToLess.2.1 116 = .ok (.pop, 1) := by decide +kernel
theorem d_Planner_moveToLess_117 : decode M_Planner_moveToLess.2.1 117 = .ok (.iload 7, 2) := by decide +kernel
theorem d_Planner_moveToLess_119 : decode M_Planner_moveToLess.2.1 119 = .ok (.iload_n 2, 1) := by decide +kernel
theorem d_Planner_moveToLess_120 : decode M_Planner_moveToLess.2.1 120 = .ok (.if_icmp .ne 8, 3) := by decide +kernel
theorem d_Planner_moveToLess_123 : decode M_Planner_moveToLess.2.1 123 = .ok (.iload 4, 2) := by decide +kernel
theorem d_Planner_moveToLess_125 : decode M_Planner_moveToLess.2.1 125 = .ok (.goto 13, 3) := by decide +kernel
theorem d_Planner_moveToLess_128 : decode M_Planner_moveToLess.2.1 128 = .ok (.aload_n 0, 1) := by decide +kernel
theorem d_Planner_moveToLess_129 : decode M_Planner_moveToLess.2.1 129 = .ok (.getfield 12, 3) := by decide +kernel
theorem d_Planner_moveToLess_132 : decode M_Planner_moveToLess.2.1 132 = .ok (.getfield 86, 3) := by decide +kernel
theorem d_Planner_moveToLess_135 : decode M_Planner_moveToLess.2.1 135 = .ok (.iload 6, 2) := by decide +kernel
theorem d_Planner_moveToLess_137 : decode M_Planner_moveToLess.2.1 137 = .ok (.iadd, 1) := by decide +kernel
theorem d_Planner_moveToLess_138 : decode M_Planner_moveToLess.2.1 138 = .ok (.istore 8, 2) := by decide +kernel
theorem d_Planner_moveToLess_140 : decode M_Planner_moveToLess.2.1 140 = .ok (.iconst 0, 1) := by decide +kernel
theorem d_Planner_moveToLess_141 : decode M_Planner_moveToLess.2.1 141 = .ok (.istore 9, 2) := by decide +kernel
theorem d_Planner_moveToLess_143 : decode M_Planner_moveToLess.2.1 143 = .ok (.iload 9, 2) := by decide +kernel
theorem d_Planner_moveToLess_145 : decode M_Planner_moveToLess.2.1 145 = .ok (.aload_n 0, 1) := by decide +kernel
theorem d_Planner_moveToLess_146 : decode M_Planner_moveToLess.2.1 146 = .ok (.getfield 31, 3) := by decide +kernel
theorem d_Planner_moveToLess_149 : decode M_Planner_moveToLess.2.1 149 = .ok (.getfield 89, 3) := by decide +kernel
theorem d_Planner_moveToLess_152 : decode M_Planner_moveToLess.2.1 152 = .ok (.iload 7, 2) := by decide +kernel
theorem d_Planner_moveToLess_154 : decode M_Planner_moveToLess.2.1 154 = .ok (.iaload, 1) := by decide +kernel
theorem d_Planner_moveToLess_155 : decode M_Planner_moveToLess.2.1 155 = .ok (.if_icmp .gt 62, 3) := by decide +kernel
theorem d_Planner_moveToLess_158 : decode M_Planner_moveToLess.2.1 158 = .ok (.aload_n 0, 1) := by decide +kernel
theorem d_Planner_moveToLess_159 : decode M_Planner_moveToLess.2.1 159 = .ok (.getfield 31, 3) := by decide +kernel
theorem d_Planner_moveToLess_162 : decode M_Planner_moveToLess.2.1 162 = .ok (.iload 7, 2) := by decide +kernel
theorem d_Planner_moveToLess_164 : decode M_Planner_moveToLess.2.1 164 = .ok (.iload 9, 2) := by decide +kernel
theorem d_Planner_moveToLess_166 : decode M_Planner_moveToLess.2.1 166 = .ok (.iload_n 1, 1) := by decide +kernel
theorem d_Planner_moveToLess_167 : decode M_Planner_moveToLess.2.1 167 = .ok (.invokevirtual 72, 3) := by decide +kernel
theorem d_Planner_moveToLess_170 : decode M_Planner_moveToLess.2.1 170 = .ok (.aload_n 0, 1) := by decide +kernel
theorem d_Planner_moveToLess_171 : decode M_Planner_moveToLess.2.1 171 = .ok (.getfield 12, 3) := by decide +kernel
theorem d_Planner_moveToLess_174 : decode M_Planner_moveToLess.2.1 174 = .ok (.aload_n 0, 1) := by decide +kernel
theorem d_Planner_moveToLess_175 : decode M_Planner_moveToLess.2.1 175 = .ok (.getfield 31, 3) := by decide +kernel
theorem d_Planner_moveToLess_178 : decode M_Planner_moveToLess.2.1 178 = .ok (.iload 7, 2) := by decide +kernel
theorem d_Planner_moveToLess_180 : decode M_Planner_moveToLess.2.1 180 = .ok (.invokevirtual 82, 3) := by decide +kernel
theorem d_Planner_moveToLess_183 : decode M_Planner_moveToLess.2.1 183 = .ok (.ifCond .ne 17, 3) := by decide +kernel
theorem d_Planner_moveToLess_186 : decode M_Planner_moveToLess.2.1 186 = .ok (.aload_n 0, 1) := by decide +kernel
theorem d_Planner_moveToLess_187 : decode M_Planner_moveToLess.2.1 187 = .ok (.getfield 12, 3) := by decide +kernel
theorem d_Planner_moveToLess_190 : decode M_Planner_moveToLess.2.1 190 = .ok (.getfield 86, 3) := by decide +kernel
theorem d_Planner_moveToLess_193 : decode M_Planner_moveToLess.2.1 193 = .ok (.iload 8, 2) := by decide +kernel
theorem d_Planner_moveToLess_195 : decode M_Planner_moveToLess.2.1 195 = .ok (.if_icmp .ge 5, 3) := by decide +kernel
theorem d_Planner_moveToLess_198 : decode M_Planner_moveToLess.2.1 198 = .ok (.iconst 1, 1) := by decide +kernel
theorem d_Planner_moveToLess_199 : decode M_Planner_moveToLess.2.1 199 = .ok (.ireturn, 1) := by decide +kernel
theorem d_Planner_moveToLess_200 : decode M_Planner_moveToLess.2.1 200 = .ok (.aload_n 0, 1) := by decide +kernel
theorem d_Planner_moveToLess_201 : decode M_Planner_moveToLess.2.1 201 = .ok (.getfield 31, 3) := by decide +kernel
theorem d_Planner_moveToLess_204 : decode M_Planner_moveToLess.2.1 204 = .ok (.iload 7, 2) := by decide +kernel
theorem d_Planner_moveToLess_206 : decode M_Planner_moveToLess.2.1 206 = .ok (.iload 9, 2) := by decide +kernel
theorem d_Planner_moveToLess_208 : decode M_Planner_moveToLess.2.1 208 = .ok (.invokevirtual 96, 3) := by decide +kernel
theorem d_Planner_moveToLess_211 : decode M_Planner_moveToLess.2.1 211 = .ok (.iinc 9 1, 3) := by decide +kernel
theorem d_Planner_moveToLess_214 : decode M_Planner_moveToLess.2.1 214 = .ok (.goto (-71), 3) := by decide +kernel
theorem d_Planner_moveToLess_217 : decode M_Planner_moveToLess.2.1 217 = .ok (.iinc 7 1, 3) := by decide +kernel
theorem d_Planner_moveToLess_220 : decode M_Planner_moveToLess.2.1 220 = .ok (.goto (-143), 3) := by decide +kernel
theorem d_Planner_moveToLess_223 : decode M_Planner_moveToLess.2.1 223 = .ok (.aload_n 0, 1) := by decide +kernel
theorem d_Planner_moveToLess_224 : decode M_Planner_moveToLess.2.1 224 = .ok (.getfield 31, 3) := by decide +kernel
theorem d_Planner_moveToLess_227 : decode M_Planner_moveToLess.2.1 227 = .ok (.iload_n 2, 1) := by decide +kernel
theorem d_Planner_moveToLess_228 : decode M_Planner_moveToLess.2.1 228 = .ok (.iload_n 3, 1) := by decide +kernel
theorem d_Planner_moveToLess_229 : decode M_Planner_moveToLess.2.1 229 = .ok (.iload_n 1, 1) := by decide +kernel
theorem d_Planner_moveToLess_230 : decode M_Planner_moveToLess.2.1 230 = .ok (.invokevirtual 72, 3) := by decide +kernel
theorem d_Planner_moveToLess_233 : decode M_Planner_moveToLess.2.1 233 = .ok (.iconst 0, 1) := by decide +kernel
theorem d_Planner_moveToLess_234 : decode M_Planner_moveToLess.2.1 234 = .ok (.ireturn, 1) := by decide +kernel
theorem d_Planner_seekLeast_0 : decode M_Planner_seekLeast.2.1 0 = .ok (.aload_n 0, 1) := by decide +kernel
theorem d_Planner_seekLeast_1 : decode M_Planner_seekLeast.2.1 1 = .ok (.getfield 35, 3) := by decide +kernel
theorem d_Planner_seekLeast_4 : decode M_Planner_seekLeast.2.1 4 = .ok (.invokevirtual 109, 3) := by decide +kernel
theorem d_Planner_seekLeast_7 : decode M_Planner_seekLeast.2.1 7 = .ok (.aload_n 0, 1) := by decide +kernel
theorem d_Planner_seekLeast_8 : decode M_Planner_seekLeast.2.1 8 = .ok (.iconst (-1), 1) := by decide +kernel
theorem d_Planner_seekLeast_9 : decode M_Planner_seekLeast.2.1 9 = .ok (.putfield 112, 3) := by decide +kernel
theorem d_Planner_seekLeast_12 : decode M_Planner_seekLeast.2.1 12 = .ok (.aload_n 0, 1) := by decide +kernel
theorem d_Planner_seekLeast_13 : decode M_Planner_seekLeast.2.1 13 = .ok (.getfield 31, 3) := by decide +kernel
theorem d_Planner_seekLeast_16 : decode M_Planner_seekLeast.2.1 16 = .ok (.invokevirtual 109, 3) := by decide +kernel
theorem d_Planner_seekLeast_19 : decode M_Planner_seekLeast.2.1 19 = .ok (.aload_n 0, 1) := by decide +kernel
theorem d_Planner_seekLeast_20 : decode M_Planner_seekLeast.2.1 20 = .ok (.iconst 0, 1) := by decide +kernel
theorem d_Planner_seekLeast_21 : decode M_Planner_seekLeast.2.1 21 = .ok (.iconst 0, 1) := by decide +kernel
theorem d_Planner_seekLeast_22 : decode M_Planner_seekLeast.2.1 22 = .ok (.iconst 0, 1) := by decide +kernel
theorem d_Planner_seekLeast_23 : decode M_Planner_seekLeast.2.1 23 = .ok (.invokevirtual 115, 3) := by decide +kernel
theorem d_Planner_seekLeast_26 : decode M_Planner_seekLeast.2.1 26 = .ok (.aload_n 0, 1) := by decide +kernel
theorem d_Planner_seekLeast_27 : decode M_Planner_seekLeast.2.1 27 = .ok (.getfield 31, 3) := by decide +kernel
theorem d_Planner_seekLeast_30 : decode M_Planner_seekLeast.2.1 30 = .ok (.aload_n 0, 1) := by decide +kernel
theorem d_Planner_seekLeast_31 : decode M_Planner_seekLeast.2.1 31 = .ok (.getfield 35, 3) := by decide +kernel
theorem d_Planner_seekLeast_34 : decode M_Planner_seekLeast.2.1 34 = .ok (.invokevirtual 118, 3) := by decide +kernel
theorem d_Planner_seekLeast_37 : decode M_Planner_seekLeast.2.1 37 = .ok (.return_, 1) := by decide +kernel
theorem d_Plan_empty_0 : decode M_Plan_empty.2.1 0 = .ok (.iconst 0, 1) := by decide +kernel
theorem d_Plan_empty_1 : decode M_Plan_empty.2.1 1 = .ok (.istore_n 1, 1) := by decide +kernel
theorem d_Plan_empty_2 : decode M_Plan_empty.2.1 2 = .ok (.iload_n 1, 1) := by decide +kernel
theorem d_Plan_empty_3 : decode M_Plan_empty.2.1 3 = .ok (.iconst 3, 1) := by decide +kernel
theorem d_Plan_empty_4 : decode M_Plan_empty.2.1 4 = .ok (.if_icmp .ge 16, 3) := by decide +kernel
theorem d_Plan_empty_7 : decode M_Plan_empty.2.1 7 = .ok (.aload_n 0, 1) := by decide +kernel
theorem d_Plan_empty_8 : decode M_Plan_empty.2.1 8 = .ok (.getfield 16, 3) := by decide +kernel
theorem d_Plan_empty_11 : decode M_Plan_empty.2.1 11 = .ok (.iload_n 1, 1) := by decide +kernel
theorem d_Plan_empty_12 : decode M_Plan_empty.2.1 12 = .ok (.iconst 0, 1) := by decide +kernel
theorem d_Plan_empty_13 : decode M_Plan_empty.2.1 13 = .ok (.iastore, 1) := by decide +kernel
theorem d_Plan_empty_14 : decode M_Plan_empty.2.1 14 = .ok (.iinc 1 1, 3) := by decide +kernel
theorem d_Plan_empty_17 : decode M_Plan_empty.2.1 17 = .ok (.goto (-15), 3) := by decide +kernel
theorem d_Plan_empty_20 : decode M_Plan_empty.2.1 20 = .ok (.return_, 1) := by decide +kernel
theorem d_Planner_extend_0 : decode M_Planner_extend.2.1 0 = .ok (.iload_n 1, 1) := by decide +kernel
theorem d_Planner_extend_1 : decode M_Planner_extend.2.1 1 = .ok (.aload_n 0, 1) := by decide +kernel
theorem d_Planner_extend_2 : decode M_Planner_extend.2.1 2 = .ok (.getfield 27, 3) := by decide +kernel
theorem d_Planner_extend_5 : decode M_Planner_extend.2.1 5 = .ok (.getfield 55, 3) := by decide +kernel
theorem d_Planner_extend_8 : decode M_Planner_extend.2.1 8 = .ok (.if_icmp .ge 9, 3) := by decide +kernel
theorem d_Planner_extend_11 : decode M_Planner_extend.2.1 11 = .ok (.iload_n 3, 1) := by decide +kernel
theorem d_Planner_extend_12 : decode M_Planner_extend.2.1 12 = .ok (.bipush 7, 2) := by decide +kernel
theorem d_Planner_extend_14 : decode M_Planner_extend.2.1 14 = .ok (.if_icmp .le 4, 3) := by decide +kernel
theorem d_Planner_extend_17 : decode M_Planner_extend.2.1 17 = .ok (.return_, 1) := by decide +kernel
theorem d_Planner_extend_18 : decode M_Planner_extend.2.1 18 = .ok (.aload_n 0, 1) := by decide +kernel
theorem d_Planner_extend_19 : decode M_Planner_extend.2.1 19 = .ok (.getfield 12, 3) := by decide +kernel
theorem d_Planner_extend_22 : decode M_Planner_extend.2.1 22 = .ok (.aload_n 0, 1) := by decide +kernel
theorem d_Planner_extend_23 : decode M_Planner_extend.2.1 23 = .ok (.getfield 31, 3) := by decide +kernel
theorem d_Planner_extend_26 : decode M_Planner_extend.2.1 26 = .ok (.iload_n 1, 1) := by decide +kernel
theorem d_Planner_extend_27 : decode M_Planner_extend.2.1 27 = .ok (.invokevirtual 82, 3) := by decide +kernel
theorem d_Planner_extend_30 : decode M_Planner_extend.2.1 30 = .ok (.istore 4, 2) := by decide +kernel
theorem d_Planner_extend_32 : decode M_Planner_extend.2.1 32 = .ok (.iload 4, 2) := by decide +kernel
theorem d_Planner_extend_34 : decode M_Planner_extend.2.1 34 = .ok (.iconst 2, 1) := by decide +kernel
theorem d_Planner_extend_35 : decode M_Planner_extend.2.1 35 = .ok (.if_icmp .eq 9, 3) := by decide +kernel
theorem d_Planner_extend_38 : decode M_Planner_extend.2.1 38 = .ok (.iload 4, 2) := by decide +kernel
theorem d_Planner_extend_40 : decode M_Planner_extend.2.1 40 = .ok (.iconst 3, 1) := by decide +kernel
theorem d_Planner_extend_41 : decode M_Planner_extend.2.1 41 = .ok (.if_icmp .ne 4, 3) := by decide +kernel
theorem d_Planner_extend_44 : decode M_Planner_extend.2.1 44 = .ok (.return_, 1) := by decide +kernel
theorem d_Planner_extend_45 : decode M_Planner_extend.2.1 45 = .ok (.iload_n 2, 1) := by decide +kernel
theorem d_Planner_extend_46 : decode M_Planner_extend.2.1 46 = .ok (.aload_n 0, 1) := by decide +kernel
theorem d_Planner_extend_47 : decode M_Planner_extend.2.1 47 = .ok (.getfield 12, 3) := by decide +kernel
theorem d_Planner_extend_50 : decode M_Planner_extend.2.1 50 = .ok (.getfield 86, 3) := by decide +kernel
theorem d_Planner_extend_53 : decode M_Planner_extend.2.1 53 = .ok (.iadd, 1) := by decide +kernel
theorem d_Planner_extend_54 : decode M_Planner_extend.2.1 54 = .ok (.istore 5, 2) := by decide +kernel
theorem d_Planner_extend_56 : decode M_Planner_extend.2.1 56 = .ok (.aload_n 0, 1) := by decide +kernel
theorem d_Planner_extend_57 : decode M_Planner_extend.2.1 57 = .ok (.getfield 31, 3) := by decide +kernel
theorem d_Planner_extend_60 : decode M_Planner_extend.2.1 60 = .ok (.getfield 89, 3) := by decide +kernel
theorem d_Planner_extend_63 : decode M_Planner_extend.2.1 63 = .ok (.iload_n 1, 1) := by decide +kernel
theorem d_Planner_extend_64 : decode M_Planner_extend.2.1 64 = .ok (.iaload, 1) := by decide +kernel
theorem d_Planner_extend_65 : decode M_Planner_extend.2.1 65 = .ok (.istore 6, 2) := by decide +kernel
theorem d_Planner_extend_67 : decode M_Planner_extend.2.1 67 = .ok (.iconst 0, 1) := by decide +kernel
theorem d_Planner_extend_68 : decode M_Planner_extend.2.1 68 = .ok (.istore 7, 2) := by decide +kernel
theorem d_Planner_extend_70 : decode M_Planner_extend.2.1 70 = .ok (.iload 7, 2) := by decide +kernel
theorem d_Planner_extend_72 : decode M_Planner_extend.2.1 72 = .ok (.aload_n 0, 1) := by decide +kernel
theorem d_Planner_extend_73 : decode M_Planner_extend.2.1 73 = .ok (.getfield 22, 3) := by decide +kernel
theorem d_Planner_extend_76 : decode M_Planner_extend.2.1 76 = .ok (.getfield 42, 3) := by decide +kernel
theorem d_Planner_extend_79 : decode M_Planner_extend.2.1 79 = .ok (.if_icmp .ge 56, 3) := by decide +kernel
theorem d_Planner_extend_82 : decode M_Planner_extend.2.1 82 = .ok (.aload_n 0, 1) := by decide +kernel
theorem d_Planner_extend_83 : decode M_Planner_extend.2.1 83 = .ok (.getfield 31, 3) := by decide +kernel
theorem d_Planner_extend_86 : decode M_Planner_extend.2.1 86 = .ok (.iload 7, 2) := by decide +kernel
theorem d_Planner_extend_88 : decode M_Planner_extend.2.1 88 = .ok (.invokevirtual 51, 3) := by decide +kernel
theorem d_Planner_extend_91 : decode M_Planner_extend.2.1 91 = .ok (.iconst (-1), 1) := by decide +kernel
theorem d_Planner_extend_92 : decode M_Planner_extend.2.1 92 = .ok (.if_icmp .eq 6, 3) := by decide +kernel
theorem d_Planner_extend_95 : decode M_Planner_extend.2.1 95 = .ok (.goto 34, 3) := by decide +kernel
theorem d_Planner_extend_98 : decode M_Planner_extend.2.1 98 = .ok (.aload_n 0, 1) := by decide +kernel
theorem d_Planner_extend_99 : decode M_Planner_extend.2.1 99 = .ok (.getfield 31, 3) := by decide +kernel
theorem d_Planner_extend_102 : decode M_Planner_extend.2.1 102 = .ok (.iload_n 1, 1) := by decide +kernel
theorem d_Planner_extend_103 : decode M_Planner_extend.2.1 103 = .ok (.iload 6, 2) := by decide +kernel
theorem d_Planner_extend_105 : decode M_Planner_extend.2.1 105 = .ok (.iload 7, 2) := by decide +kernel
theorem d_Planner_extend_107 : decode M_Planner_extend.2.1 107 = .ok (.invokevirtual 72, 3) := by decide +kernel
theorem d_Planner_extend_110 : decode M_Planner_extend.2.1 110 = .ok (.aload_n 0, 1) := by decide +kernel
theorem d_Planner_extend_111 : decode M_Planner_extend.2.1 111 = .ok (.iload_n 1, 1) := by decide +kernel
theorem d_Planner_extend_112 : decode M_Planner_extend.2.1 112 = .ok (.iload_n 2, 1) := by decide +kernel
theorem d_Planner_extend_113 : decode M_Planner_extend.2.1 113 = .ok (.iload_n 3, 1) := by decide +kernel
theorem d_Planner_extend_114 : decode M_Planner_extend.2.1 114 = .ok (.iconst 1, 1) := by decide +kernel
theorem d_Planner_extend_115 : decode M_Planner_extend.2.1 115 = .ok (.iadd, 1) := by decide +kernel
theorem d_Planner_extend_116 : decode M_Planner_extend.2.1 116 = .ok (.invokevirtual 115, 3) := by decide +kernel
theorem d_Planner_extend_119 : decode M_Planner_extend.2.1 119 = .ok (.aload_n 0, 1) := by decide +kernel
theorem d_Planner_extend_120 : decode M_Planner_extend.2.1 120 = .ok (.getfield 31, 3) := by decide +kernel
theorem d_Planner_extend_123 : decode M_Planner_extend.2.1 123 = .ok (.iload_n 1, 1) := by decide +kernel
theorem d_Planner_extend_124 : decode M_Planner_extend.2.1 124 = .ok (.iload 6, 2) := by decide +kernel
theorem d_Planner_extend_126 : decode M_Planner_extend.2.1 126 = .ok (.invokevirtual 96, 3) := by decide +kernel
theorem d_Planner_extend_129 : decode M_Planner_extend.2.1 129 = .ok (.iinc 7 1, 3) := by decide +kernel
theorem d_Planner_extend_132 : decode M_Planner_extend.2.1 132 = .ok (.goto (-62), 3) := by decide +kernel
theorem d_Planner_extend_135 : decode M_Planner_extend.2.1 135 = .ok (.iload 4, 2) := by decide +kernel
theorem d_Planner_extend_137 : decode M_Planner_extend.2.1 137 = .ok (.ifCond .eq 4, 3) := by decide +kernel
theorem d_Planner_extend_140 : decode M_Planner_extend.2.1 140 = .ok (.return_, 1) := by decide +kernel
theorem d_Planner_extend_141 : decode M_Planner_extend.2.1 141 = .ok (.iload_n 1, 1) := by decide +kernel
theorem d_Planner_extend_142 : decode M_Planner_extend.2.1 142 = .ok (.iconst 1, 1) := by decide +kernel
theorem d_Planner_extend_143 : decode M_Planner_extend.2.1 143 = .ok (.iadd, 1) := by decide +kernel
theorem d_Planner_extend_144 : decode M_Planner_extend.2.1 144 = .ok (.aload_n 0, 1) := by decide +kernel
theorem d_Planner_extend_145 : decode M_Planner_extend.2.1 145 = .ok (.getfield 27, 3) := by decide +kernel
theorem d_Planner_extend_148 : decode M_Planner_extend.2.1 148 = .ok (.getfield 55, 3) := by decide +kernel
theorem d_Planner_extend_151 : decode M_Planner_extend.2.1 151 = .ok (.if_icmp .ne 12, 3) := by decide +kernel
theorem d_Planner_extend_154 : decode M_Planner_extend.2.1 154 = .ok (.aload_n 0, 1) := by decide +kernel
theorem d_Planner_extend_155 : decode M_Planner_extend.2.1 155 = .ok (.iload 5, 2) := by decide +kernel
theorem d_Planner_extend_157 : decode M_Planner_extend.2.1 157 = .ok (.invokevirtual 122, 3) := by decide +kernel
theorem d_Planner_extend_160 : decode M_Planner_extend.2.1 160 = .ok (.goto 15, 3) := by decide +kernel
theorem d_Planner_extend_163 : decode M_Planner_extend.2.1 163 = .ok (.aload_n 0, 1) := by decide +kernel
theorem d_Planner_extend_164 : decode M_Planner_extend.2.1 164 = .ok (.iload_n 1, 1) := by decide +kernel
theorem d_Planner_extend_165 : decode M_Planner_extend.2.1 165 = .ok (.iconst 1, 1) := by decide +kernel
theorem d_Planner_extend_166 : decode M_Planner_extend.2.1 166 = .ok (.iadd, 1) := by decide +kernel
theorem d_Planner_extend_167 : decode M_Planner_extend.2.1 167 = .ok (.iload 5, 2) := by decide +kernel
theorem d_Planner_extend_169 : decode M_Planner_extend.2.1 169 = .ok (.iload_n 3, 1) := by decide +kernel
theorem d_Planner_extend_170 : decode M_Planner_extend.2.1 170 = .ok (.iconst 1, 1) := by decide +kernel
theorem d_Planner_extend_171 : decode M_Planner_extend.2.1 171 = .ok (.iadd, 1) := by decide +kernel
theorem d_Planner_extend_172 : decode M_Planner_extend.2.1 172 = .ok (.invokevirtual 115, 3) := by decide +kernel
theorem d_Planner_extend_175 : decode M_Planner_extend.2.1 175 = .ok (.return_, 1) := by decide +kernel
theorem d_Planner_weighPlan_0 : decode M_Planner_weighPlan.2.1 0 = .ok (.aload_n 0, 1) := by decide +kernel
theorem d_Planner_weighPlan_1 : decode M_Planner_weighPlan.2.1 1 = .ok (.getfield 12, 3) := by decide +kernel
theorem d_Planner_weighPlan_4 : decode M_Planner_weighPlan.2.1 4 = .ok (.aload_n 0, 1) := by decide +kernel
theorem d_Planner_weighPlan_5 : decode M_Planner_weighPlan.2.1 5 = .ok (.getfield 31, 3) := by decide +kernel
theorem d_Planner_weighPlan_8 : decode M_Planner_weighPlan.2.1 8 = .ok (.invokevirtual 126, 3) := by decide +kernel
theorem d_Planner_weighPlan_11 : decode M_Planner_weighPlan.2.1 11 = .ok (.istore_n 2, 1) := by decide +kernel
theorem d_Planner_weighPlan_12 : decode M_Planner_weighPlan.2.1 12 = .ok (.aload_n 0, 1) := by decide +kernel
theorem d_Planner_weighPlan_13 : decode M_Planner_weighPlan.2.1 13 = .ok (.getfield 31, 3) := by decide +kernel
theorem d_Planner_weighPlan_16 : decode M_Planner_weighPlan.2.1 16 = .ok (.invokevirtual 130, 3) := by decide +kernel
theorem d_Planner_weighPlan_19 : decode M_Planner_weighPlan.2.1 19 = .ok (.istore_n 3, 1) := by decide +kernel
theorem d_Planner_weighPlan_20 : decode M_Planner_weighPlan.2.1 20 = .ok (.iload_n 2, 1) := by decide +kernel
theorem d_Planner_weighPlan_21 : decode M_Planner_weighPlan.2.1 21 = .ok (.aload_n 0, 1) := by decide +kernel
theorem d_Planner_weighPlan_22 : decode M_Planner_weighPlan.2.1 22 = .ok (.getfield 112, 3) := by decide +kernel
theorem d_Planner_weighPlan_25 : decode M_Planner_weighPlan.2.1 25 = .ok (.if_icmp .ge 4, 3) := by decide +kernel
theorem d_Planner_weighPlan_28 : decode M_Planner_weighPlan.2.1 28 = .ok (.return_, 1) := by decide +kernel
theorem d_Planner_weighPlan_29 : decode M_Planner_weighPlan.2.1 29 = .ok (.iload_n 2, 1) := by decide +kernel
theorem d_Planner_weighPlan_30 : decode M_Planner_weighPlan.2.1 30 = .ok (.aload_n 0, 1) := by decide +kernel
theorem d_Planner_weighPlan_31 : decode M_Planner_weighPlan.2.1 31 = .ok (.getfield 112, 3) := by decide +kernel
theorem d_Planner_weighPlan_34 : decode M_Planner_weighPlan.2.1 34 = .ok (.if_icmp .ne 29, 3) := by decide +kernel
theorem d_Planner_weighPlan_37 : decode M_Planner_weighPlan.2.1 37 = .ok (.iload_n 3, 1) := by decide +kernel
theorem d_Planner_weighPlan_38 : decode M_Planner_weighPlan.2.1 38 = .ok (.aload_n 0, 1) := by decide +kernel
theorem d_Planner_weighPlan_39 : decode M_Planner_weighPlan.2.1 39 = .ok (.getfield 134, 3) := by decide +kernel
theorem d_Planner_weighPlan_42 : decode M_Planner_weighPlan.2.1 42 = .ok (.if_icmp .ge 4, 3) := by decide +kernel
theorem d_Planner_weighPlan_45 : decode M_Planner_weighPlan.2.1 45 = .ok (.return_, 1) := by decide +kernel
theorem d_Planner_weighPlan_46 : decode M_Planner_weighPlan.2.1 46 = .ok (.iload_n 3, 1) := by decide +kernel
theorem d_Planner_weighPlan_47 : decode M_Planner_weighPlan.2.1 47 = .ok (.aload_n 0, 1) := by decide +kernel
theorem d_Planner_weighPlan_48 : decode M_Planner_weighPlan.2.1 48 = .ok (.getfield 134, 3) := by decide +kernel
theorem d_Planner_weighPlan_51 : decode M_Planner_weighPlan.2.1 51 = .ok (.if_icmp .ne 12, 3) := by decide +kernel
theorem d_Planner_weighPlan_54 : decode M_Planner_weighPlan.2.1 54 = .ok (.iload_n 1, 1) := by decide +kernel
theorem d_Planner_weighPlan_55 : decode M_Planner_weighPlan.2.1 55 = .ok (.aload_n 0, 1) := by decide +kernel
theorem d_Planner_weighPlan_56 : decode M_Planner_weighPlan.2.1 56 = .ok (.getfield 137, 3) := by decide +kernel
theorem d_Planner_weighPlan_59 : decode M_Planner_weighPlan.2.1 59 = .ok (.if_icmp .lt 4, 3) := by decide +kernel
theorem d_Planner_weighPlan_62 : decode M_Planner_weighPlan.2.1 62 = .ok (.return_, 1) := by decide +kernel
theorem d_Planner_weighPlan_63 : decode M_Planner_weighPlan.2.1 63 = .ok (.aload_n 0, 1) := by decide +kernel
theorem d_Planner_weighPlan_64 : decode M_Planner_weighPlan.2.1 64 = .ok (.iload_n 2, 1) := by decide +kernel
theorem d_Planner_weighPlan_65 : decode M_Planner_weighPlan.2.1 65 = .ok (.putfield 112, 3) := by decide +kernel
theorem d_Planner_weighPlan_68 : decode M_Planner_weighPlan.2.1 68 = .ok (.aload_n 0, 1) := by decide +kernel
theorem d_Planner_weighPlan_69 : decode M_Planner_weighPlan.2.1 69 = .ok (.iload_n 3, 1) := by decide +kernel
theorem d_Planner_weighPlan_70 : decode M_Planner_weighPlan.2.1 70 = .ok (.putfield 134, 3) := by decide +kernel
theorem d_Planner_weighPlan_73 : decode M_Planner_weighPlan.2.1 73 = .ok (.aload_n 0, 1) := by decide +kernel
theorem d_Planner_weighPlan_74 : decode M_Planner_weighPlan.2.1 74 = .ok (.iload_n 1, 1) := by decide +kernel
theorem d_Planner_weighPlan_75 : decode M_Planner_weighPlan.2.1 75 = .ok (.putfield 137, 3) := by decide +kernel
theorem d_Planner_weighPlan_78 : decode M_Planner_weighPlan.2.1 78 = .ok (.aload_n 0, 1) := by decide +kernel
theorem d_Planner_weighPlan_79 : decode M_Planner_weighPlan.2.1 79 = .ok (.getfield 35, 3) := by decide +kernel
theorem d_Planner_weighPlan_82 : decode M_Planner_weighPlan.2.1 82 = .ok (.aload_n 0, 1) := by decide +kernel
theorem d_Planner_weighPlan_83 : decode M_Planner_weighPlan.2.1 83 = .ok (.getfield 31, 3) := by decide +kernel
theorem d_Planner_weighPlan_86 : decode M_Planner_weighPlan.2.1 86 = .ok (.invokevirtual 118, 3) := by decide +kernel
theorem d_Planner_weighPlan_89 : decode M_Planner_weighPlan.2.1 89 = .ok (.return_, 1) := by decide +kernel
theorem d_Trip_mustsIn_0 : decode M_Trip_mustsIn.2.1 0 = .ok (.iconst 0, 1) := by decide +kernel
theorem d_Trip_mustsIn_1 : decode M_Trip_mustsIn.2.1 1 = .ok (.istore_n 2, 1) := by decide +kernel
theorem d_Trip_mustsIn_2 : decode M_Trip_mustsIn.2.1 2 = .ok (.iconst 0, 1) := by decide +kernel
theorem d_Trip_mustsIn_3 : decode M_Trip_mustsIn.2.1 3 = .ok (.istore_n 3, 1) := by decide +kernel
theorem d_Trip_mustsIn_4 : decode M_Trip_mustsIn.2.1 4 = .ok (.iload_n 3, 1) := by decide +kernel
theorem d_Trip_mustsIn_5 : decode M_Trip_mustsIn.2.1 5 = .ok (.aload_n 0, 1) := by decide +kernel
theorem d_Trip_mustsIn_6 : decode M_Trip_mustsIn.2.1 6 = .ok (.getfield 28, 3) := by decide +kernel
theorem d_Trip_mustsIn_9 : decode M_Trip_mustsIn.2.1 9 = .ok (.getfield 90, 3) := by decide +kernel
theorem d_Trip_mustsIn_12 : decode M_Trip_mustsIn.2.1 12 = .ok (.if_icmp .ge 53, 3) := by decide +kernel
theorem d_Trip_mustsIn_15 : decode M_Trip_mustsIn.2.1 15 = .ok (.iconst 0, 1) := by decide +kernel
theorem d_Trip_mustsIn_16 : decode M_Trip_mustsIn.2.1 16 = .ok (.istore 4, 2) := by decide +kernel
theorem d_Trip_mustsIn_18 : decode M_Trip_mustsIn.2.1 18 = .ok (.iload 4, 2) := by decide +kernel
theorem d_Trip_mustsIn_20 : decode M_Trip_mustsIn.2.1 20 = .ok (.aload_n 1, 1) := by decide +kernel
theorem d_Trip_mustsIn_21 : decode M_Trip_mustsIn.2.1 21 = .ok (.getfield 51, 3) := by decide +kernel
theorem d_Trip_mustsIn_24 : decode M_Trip_mustsIn.2.1 24 = .ok (.iload_n 3, 1) := by decide +kernel
theorem d_Trip_mustsIn_25 : decode M_Trip_mustsIn.2.1 25 = .ok (.iaload, 1) := by decide +kernel
theorem d_Trip_mustsIn_26 : decode M_Trip_mustsIn.2.1 26 = .ok (.if_icmp .ge 33, 3) := by decide +kernel
theorem d_Trip_mustsIn_29 : decode M_Trip_mustsIn.2.1 29 = .ok (.aload_n 0, 1) := by decide +kernel
theorem d_Trip_mustsIn_30 : decode M_Trip_mustsIn.2.1 30 = .ok (.getfield 21, 3) := by decide +kernel
theorem d_Trip_mustsIn_33 : decode M_Trip_mustsIn.2.1 33 = .ok (.getfield 97, 3) := by decide +kernel
theorem d_Trip_mustsIn_36 : decode M_Trip_mustsIn.2.1 36 = .ok (.aload_n 1, 1) := by decide +kernel
theorem d_Trip_mustsIn_37 : decode M_Trip_mustsIn.2.1 37 = .ok (.getfield 45, 3) := by decide +kernel
theorem d_Trip_mustsIn_40 : decode M_Trip_mustsIn.2.1 40 = .ok (.iload_n 3, 1) := by decide +kernel
theorem d_Trip_mustsIn_41 : decode M_Trip_mustsIn.2.1 41 = .ok (.aaload, 1) := by decide +kernel
theorem d_Trip_mustsIn_42 : decode M_Trip_mustsIn.2.1 42 = .ok (.iload 4, 2) := by decide +kernel
theorem d_Trip_mustsIn_44 : decode M_Trip_mustsIn.2.1 44 = .ok (.iaload, 1) := by decide +kernel
theorem d_Trip_mustsIn_45 : decode M_Trip_mustsIn.2.1 45 = .ok (.iaload, 1) := by decide +kernel
theorem d_Trip_mustsIn_46 : decode M_Trip_mustsIn.2.1 46 = .ok (.iconst 4, 1) := by decide +kernel
theorem d_Trip_mustsIn_47 : decode M_Trip_mustsIn.2.1 47 = .ok (.if_icmp .ne 6, 3) := by decide +kernel
theorem d_Trip_mustsIn_50 : decode M_Trip_mustsIn.2.1 50 = .ok (.iinc 2 1, 3) := by decide +kernel
theorem d_Trip_mustsIn_53 : decode M_Trip_mustsIn.2.1 53 = .ok (.iinc 4 1, 3) := by decide +kernel
theorem d_Trip_mustsIn_56 : decode M_Trip_mustsIn.2.1 56 = .ok (.goto (-38), 3) := by decide +kernel
theorem d_Trip_mustsIn_59 : decode M_Trip_mustsIn.2.1 59 = .ok (.iinc 3 1, 3) := by decide +kernel
theorem d_Trip_mustsIn_62 : decode M_Trip_mustsIn.2.1 62 = .ok (.goto (-58), 3) := by decide +kernel
theorem d_Trip_mustsIn_65 : decode M_Trip_mustsIn.2.1 65 = .ok (.iload_n 2, 1) := by decide +kernel
theorem d_Trip_mustsIn_66 : decode M_Trip_mustsIn.2.1 66 = .ok (.ireturn, 1) := by decide +kernel
theorem d_Past_bringBack_0 : decode M_Past_bringBack.2.1 0 = .ok (.aload_n 0, 1) := by decide +kernel
theorem d_Past_bringBack_1 : decode M_Past_bringBack.2.1 1 = .ok (.getfield 18, 3) := by decide +kernel
theorem d_Past_bringBack_4 : decode M_Past_bringBack.2.1 4 = .ok (.ifCond .ne 4, 3) := by decide +kernel
theorem d_Past_bringBack_7 : decode M_Past_bringBack.2.1 7 = .ok (.return_, 1) := by decide +kernel
theorem d_Past_bringBack_8 : decode M_Past_bringBack.2.1 8 = .ok (.aload_n 1, 1) := by decide +kernel
theorem d_Past_bringBack_9 : decode M_Past_bringBack.2.1 9 = .ok (.aload_n 0, 1) := by decide +kernel
theorem d_Past_bringBack_10 : decode M_Past_bringBack.2.1 10 = .ok (.getfield 11, 3) := by decide +kernel
theorem d_Past_bringBack_13 : decode M_Past_bringBack.2.1 13 = .ok (.aload_n 0, 1) := by decide +kernel
theorem d_Past_bringBack_14 : decode M_Past_bringBack.2.1 14 = .ok (.getfield 22, 3) := by decide +kernel
theorem d_Past_bringBack_17 : decode M_Past_bringBack.2.1 17 = .ok (.aaload, 1) := by decide +kernel
theorem d_Past_bringBack_18 : decode M_Past_bringBack.2.1 18 = .ok (.invokevirtual 25, 3) := by decide +kernel
theorem d_Past_bringBack_21 : decode M_Past_bringBack.2.1 21 = .ok (.aload_n 0, 1) := by decide +kernel
theorem d_Past_bringBack_22 : decode M_Past_bringBack.2.1 22 = .ok (.aload_n 0, 1) := by decide +kernel
theorem d_Past_bringBack_23 : decode M_Past_bringBack.2.1 23 = .ok (.getfield 22, 3) := by decide +kernel
theorem d_Past_bringBack_26 : decode M_Past_bringBack.2.1 26 = .ok (.bipush 20, 2) := by decide +kernel
theorem d_Past_bringBack_28 : decode M_Past_bringBack.2.1 28 = .ok (.iadd, 1) := by decide +kernel
theorem d_Past_bringBack_29 : decode M_Past_bringBack.2.1 29 = .ok (.iconst 1, 1) := by decide +kernel
theorem d_Past_bringBack_30 : decode M_Past_bringBack.2.1 30 = .ok (.isub, 1) := by decide +kernel
theorem d_Past_bringBack_31 : decode M_Past_bringBack.2.1 31 = .ok (.bipush 20, 2) := by decide +kernel
theorem d_Past_bringBack_33 : decode M_Past_bringBack.2.1 33 = .ok (.irem, 1) := by decide +kernel
theorem d_Past_bringBack_34 : decode M_Past_bringBack.2.1 34 = .ok (.putfield 22, 3) := by decide +kernel
theorem d_Past_bringBack_37 : decode M_Past_bringBack.2.1 37 = .ok (.aload_n 0, 1) := by decide +kernel
theorem d_Past_bringBack_38 : decode M_Past_bringBack.2.1 38 = .ok (.dup, 1) := by decide +kernel
theorem d_Past_bringBack_39 : decode M_Past_bringBack.2.1 39 = .ok (.getfield 18, 3) := by decide +kernel
theorem d_Past_bringBack_42 : decode M_Past_bringBack.2.1 42 = .ok (.iconst 1, 1) := by decide +kernel
theorem d_Past_bringBack_43 : decode M_Past_bringBack.2.1 43 = .ok (.isub, 1) := by decide +kernel
theorem d_Past_bringBack_44 : decode M_Past_bringBack.2.1 44 = .ok (.putfield 18, 3) := by decide +kernel
theorem d_Past_bringBack_47 : decode M_Past_bringBack.2.1 47 = .ok (.return_, 1) := by decide +kernel
theorem d_Stops_musts_0 : decode M_Stops_musts.2.1 0 = .ok (.iconst 0, 1) := by decide +kernel
theorem d_Stops_musts_1 : decode M_Stops_musts.2.1 1 = .ok (.istore_n 1, 1) := by decide +kernel
theorem d_Stops_musts_2 : decode M_Stops_musts.2.1 2 = .ok (.iconst 0, 1) := by decide +kernel
theorem d_Stops_musts_3 : decode M_Stops_musts.2.1 3 = .ok (.istore_n 2, 1) := by decide +kernel
theorem d_Stops_musts_4 : decode M_Stops_musts.2.1 4 = .ok (.iload_n 2, 1) := by decide +kernel
theorem d_Stops_musts_5 : decode M_Stops_musts.2.1 5 = .ok (.aload_n 0, 1) := by decide +kernel
theorem d_Stops_musts_6 : decode M_Stops_musts.2.1 6 = .ok (.getfield 36, 3) := by decide +kernel
theorem d_Stops_musts_9 : decode M_Stops_musts.2.1 9 = .ok (.if_icmp .ge 22, 3) := by decide +kernel
theorem d_Stops_musts_12 : decode M_Stops_musts.2.1 12 = .ok (.aload_n 0, 1) := by decide +kernel
theorem d_Stops_musts_13 : decode M_Stops_musts.2.1 13 = .ok (.getfield 9, 3) := by decide +kernel
theorem d_Stops_musts_16 : decode M_Stops_musts.2.1 16 = .ok (.iload_n 2, 1) := by decide +kernel
theorem d_Stops_musts_17 : decode M_Stops_musts.2.1 17 = .ok (.iaload, 1) := by decide +kernel
theorem d_Stops_musts_18 : decode M_Stops_musts.2.1 18 = .ok (.iconst 4, 1) := by decide +kernel
theorem d_Stops_musts_19 : decode M_Stops_musts.2.1 19 = .ok (.if_icmp .ne 6, 3) := by decide +kernel
theorem d_Stops_musts_22 : decode M_Stops_musts.2.1 22 = .ok (.iinc 1 1, 3) := by decide +kernel
theorem d_Stops_musts_25 : decode M_Stops_musts.2.1 25 = .ok (.iinc 2 1, 3) := by decide +kernel
theorem d_Stops_musts_28 : decode M_Stops_musts.2.1 28 = .ok (.goto (-24), 3) := by decide +kernel
theorem d_Stops_musts_31 : decode M_Stops_musts.2.1 31 = .ok (.iload_n 1, 1) := by decide +kernel
theorem d_Stops_musts_32 : decode M_Stops_musts.2.1 32 = .ok (.ireturn, 1) := by decide +kernel
