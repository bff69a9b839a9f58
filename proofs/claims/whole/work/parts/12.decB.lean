theorem dX7_init_0 : decode cX7_init 0 = .ok (.aload_n 0, 1) := by decide +kernel
theorem dX7_init_1 : decode cX7_init 1 = .ok (.invokespecial 3, 3) := by decide +kernel
theorem dX7_init_4 : decode cX7_init 4 = .ok (.aload_n 0, 1) := by decide +kernel
theorem dX7_init_5 : decode cX7_init 5 = .ok (.new 9, 3) := by decide +kernel
theorem dX7_init_8 : decode cX7_init 8 = .ok (.dup, 1) := by decide +kernel
theorem dX7_init_9 : decode cX7_init 9 = .ok (.invokespecial 11, 3) := by decide +kernel
theorem dX7_init_12 : decode cX7_init 12 = .ok (.putfield 12, 3) := by decide +kernel
theorem dX7_init_15 : decode cX7_init 15 = .ok (.aload_n 0, 1) := by decide +kernel
theorem dX7_init_16 : decode cX7_init 16 = .ok (.new 16, 3) := by decide +kernel
theorem dX7_init_19 : decode cX7_init 19 = .ok (.dup, 1) := by decide +kernel
theorem dX7_init_20 : decode cX7_init 20 = .ok (.invokespecial 18, 3) := by decide +kernel
theorem dX7_init_23 : decode cX7_init 23 = .ok (.putfield 19, 3) := by decide +kernel
theorem dX7_init_26 : decode cX7_init 26 = .ok (.aload_n 0, 1) := by decide +kernel
theorem dX7_init_27 : decode cX7_init 27 = .ok (.new 23, 3) := by decide +kernel
theorem dX7_init_30 : decode cX7_init 30 = .ok (.dup, 1) := by decide +kernel
theorem dX7_init_31 : decode cX7_init 31 = .ok (.invokespecial 25, 3) := by decide +kernel
theorem dX7_init_34 : decode cX7_init 34 = .ok (.putfield 26, 3) := by decide +kernel
theorem dX7_init_37 : decode cX7_init 37 = .ok (.aload_n 0, 1) := by decide +kernel
theorem dX7_init_38 : decode cX7_init 38 = .ok (.new 30, 3) := by decide +kernel
theorem dX7_init_41 : decode cX7_init 41 = .ok (.dup, 1) := by decide +kernel
theorem dX7_init_42 : decode cX7_init 42 = .ok (.invokespecial 32, 3) := by decide +kernel
theorem dX7_init_45 : decode cX7_init 45 = .ok (.putfield 33, 3) := by decide +kernel
theorem dX7_init_48 : decode cX7_init 48 = .ok (.aload_n 0, 1) := by decide +kernel
theorem dX7_init_49 : decode cX7_init 49 = .ok (.new 37, 3) := by decide +kernel
theorem dX7_init_52 : decode cX7_init 52 = .ok (.dup, 1) := by decide +kernel
theorem dX7_init_53 : decode cX7_init 53 = .ok (.invokespecial 39, 3) := by decide +kernel
theorem dX7_init_56 : decode cX7_init 56 = .ok (.putfield 40, 3) := by decide +kernel
theorem dX7_init_59 : decode cX7_init 59 = .ok (.aload_n 0, 1) := by decide +kernel
theorem dX7_init_60 : decode cX7_init 60 = .ok (.new 44, 3) := by decide +kernel
theorem dX7_init_63 : decode cX7_init 63 = .ok (.dup, 1) := by decide +kernel
theorem dX7_init_64 : decode cX7_init 64 = .ok (.invokespecial 46, 3) := by decide +kernel
theorem dX7_init_67 : decode cX7_init 67 = .ok (.putfield 47, 3) := by decide +kernel
theorem dX7_init_70 : decode cX7_init 70 = .ok (.aload_n 0, 1) := by decide +kernel
theorem dX7_init_71 : decode cX7_init 71 = .ok (.new 51, 3) := by decide +kernel
theorem dX7_init_74 : decode cX7_init 74 = .ok (.dup, 1) := by decide +kernel
theorem dX7_init_75 : decode cX7_init 75 = .ok (.invokespecial 53, 3) := by decide +kernel
theorem dX7_init_78 : decode cX7_init 78 = .ok (.putfield 54, 3) := by decide +kernel
theorem dX7_init_81 : decode cX7_init 81 = .ok (.aload_n 0, 1) := by decide +kernel
theorem dX7_init_82 : decode cX7_init 82 = .ok (.bipush 12, 2) := by decide +kernel
theorem dX7_init_84 : decode cX7_init 84 = .ok (.newarray .boolean, 2) := by decide +kernel
theorem dX7_init_86 : decode cX7_init 86 = .ok (.putfield 58, 3) := by decide +kernel
theorem dX7_init_89 : decode cX7_init 89 = .ok (.return_, 1) := by decide +kernel
theorem dX7_room_0 : decode cX7_room 0 = .ok (.aload_n 0, 1) := by decide +kernel
theorem dX7_room_1 : decode cX7_room 1 = .ok (.aload_n 0, 1) := by decide +kernel
theorem dX7_room_2 : decode cX7_room 2 = .ok (.getfield 12, 3) := by decide +kernel
theorem dX7_room_5 : decode cX7_room 5 = .ok (.invokevirtual 62, 3) := by decide +kernel
theorem dX7_room_8 : decode cX7_room 8 = .ok (.invokevirtual 66, 3) := by decide +kernel
theorem dX7_room_11 : decode cX7_room 11 = .ok (.ireturn, 1) := by decide +kernel
theorem dX7_door_0 : decode cX7_door 0 = .ok (.iload_n 1, 1) := by decide +kernel
theorem dX7_door_1 : decode cX7_door 1 = .ok (.aload_n 0, 1) := by decide +kernel
theorem dX7_door_2 : decode cX7_door 2 = .ok (.getfield 12, 3) := by decide +kernel
theorem dX7_door_5 : decode cX7_door 5 = .ok (.getfield 70, 3) := by decide +kernel
theorem dX7_door_8 : decode cX7_door 8 = .ok (.invokestatic 74, 3) := by decide +kernel
theorem dX7_door_11 : decode cX7_door 11 = .ok (.ifCond .eq 17, 3) := by decide +kernel
theorem dX7_door_14 : decode cX7_door 14 = .ok (.iload_n 2, 1) := by decide +kernel
theorem dX7_door_15 : decode cX7_door 15 = .ok (.aload_n 0, 1) := by decide +kernel
theorem dX7_door_16 : decode cX7_door 16 = .ok (.getfield 12, 3) := by decide +kernel
theorem dX7_door_19 : decode cX7_door 19 = .ok (.getfield 70, 3) := by decide +kernel
theorem dX7_door_22 : decode cX7_door 22 = .ok (.invokestatic 74, 3) := by decide +kernel
theorem dX7_door_25 : decode cX7_door 25 = .ok (.ifCond .ne 6, 3) := by decide +kernel
theorem dX7_door_28 : decode cX7_door 28 = .ok (.bipush (-2), 2) := by decide +kernel
theorem dX7_door_30 : decode cX7_door 30 = .ok (.ireturn, 1) := by decide +kernel
theorem dX7_door_31 : decode cX7_door 31 = .ok (.iload_n 1, 1) := by decide +kernel
theorem dX7_door_32 : decode cX7_door 32 = .ok (.iload_n 2, 1) := by decide +kernel
theorem dX7_door_33 : decode cX7_door 33 = .ok (.if_icmp .ne 6, 3) := by decide +kernel
theorem dX7_door_36 : decode cX7_door 36 = .ok (.bipush (-3), 2) := by decide +kernel
theorem dX7_door_38 : decode cX7_door 38 = .ok (.ireturn, 1) := by decide +kernel
theorem dX7_door_39 : decode cX7_door 39 = .ok (.aload_n 0, 1) := by decide +kernel
theorem dX7_door_40 : decode cX7_door 40 = .ok (.aload_n 0, 1) := by decide +kernel
theorem dX7_door_41 : decode cX7_door 41 = .ok (.getfield 12, 3) := by decide +kernel
theorem dX7_door_44 : decode cX7_door 44 = .ok (.iload_n 1, 1) := by decide +kernel
theorem dX7_door_45 : decode cX7_door 45 = .ok (.iload_n 2, 1) := by decide +kernel
theorem dX7_door_46 : decode cX7_door 46 = .ok (.invokevirtual 78, 3) := by decide +kernel
theorem dX7_door_49 : decode cX7_door 49 = .ok (.invokevirtual 66, 3) := by decide +kernel
theorem dX7_door_52 : decode cX7_door 52 = .ok (.ireturn, 1) := by decide +kernel
theorem dX7_walker_0 : decode cX7_walker 0 = .ok (.iload_n 1, 1) := by decide +kernel
theorem dX7_walker_1 : decode cX7_walker 1 = .ok (.aload_n 0, 1) := by decide +kernel
theorem dX7_walker_2 : decode cX7_walker 2 = .ok (.getfield 12, 3) := by decide +kernel
theorem dX7_walker_5 : decode cX7_walker 5 = .ok (.getfield 70, 3) := by decide +kernel
theorem dX7_walker_8 : decode cX7_walker 8 = .ok (.invokestatic 74, 3) := by decide +kernel
theorem dX7_walker_11 : decode cX7_walker 11 = .ok (.ifCond .ne 6, 3) := by decide +kernel
theorem dX7_walker_14 : decode cX7_walker 14 = .ok (.bipush (-2), 2) := by decide +kernel
theorem dX7_walker_16 : decode cX7_walker 16 = .ok (.ireturn, 1) := by decide +kernel
theorem dX7_walker_17 : decode cX7_walker 17 = .ok (.aload_n 0, 1) := by decide +kernel
theorem dX7_walker_18 : decode cX7_walker 18 = .ok (.getfield 12, 3) := by decide +kernel
theorem dX7_walker_21 : decode cX7_walker 21 = .ok (.invokevirtual 82, 3) := by decide +kernel
theorem dX7_walker_24 : decode cX7_walker 24 = .ok (.istore_n 2, 1) := by decide +kernel
theorem dX7_walker_25 : decode cX7_walker 25 = .ok (.iload_n 2, 1) := by decide +kernel
theorem dX7_walker_26 : decode cX7_walker 26 = .ok (.aload_n 0, 1) := by decide +kernel
theorem dX7_walker_27 : decode cX7_walker 27 = .ok (.getfield 12, 3) := by decide +kernel
theorem dX7_walker_30 : decode cX7_walker 30 = .ok (.getfield 85, 3) := by decide +kernel
theorem dX7_walker_33 : decode cX7_walker 33 = .ok (.invokestatic 74, 3) := by decide +kernel
theorem dX7_walker_36 : decode cX7_walker 36 = .ok (.ifCond .eq 23, 3) := by decide +kernel
theorem dX7_walker_39 : decode cX7_walker 39 = .ok (.aload_n 0, 1) := by decide +kernel
theorem dX7_walker_40 : decode cX7_walker 40 = .ok (.getfield 47, 3) := by decide +kernel
theorem dX7_walker_43 : decode cX7_walker 43 = .ok (.getfield 88, 3) := by decide +kernel
theorem dX7_walker_46 : decode cX7_walker 46 = .ok (.iload_n 2, 1) := by decide +kernel
theorem dX7_walker_47 : decode cX7_walker 47 = .ok (.iload_n 1, 1) := by decide +kernel
theorem dX7_walker_48 : decode cX7_walker 48 = .ok (.iastore, 1) := by decide +kernel
theorem dX7_walker_49 : decode cX7_walker 49 = .ok (.aload_n 0, 1) := by decide +kernel
theorem dX7_walker_50 : decode cX7_walker 50 = .ok (.getfield 47, 3) := by decide +kernel
theorem dX7_walker_53 : decode cX7_walker 53 = .ok (.getfield 92, 3) := by decide +kernel
theorem dX7_walker_56 : decode cX7_walker 56 = .ok (.iload_n 2, 1) := by decide +kernel
theorem dX7_walker_57 : decode cX7_walker 57 = .ok (.iconst (-1), 1) := by decide +kernel
theorem dX7_walker_58 : decode cX7_walker 58 = .ok (.iastore, 1) := by decide +kernel
theorem dX7_walker_59 : decode cX7_walker 59 = .ok (.aload_n 0, 1) := by decide +kernel
theorem dX7_walker_60 : decode cX7_walker 60 = .ok (.iload_n 2, 1) := by decide +kernel
theorem dX7_walker_61 : decode cX7_walker 61 = .ok (.invokevirtual 66, 3) := by decide +kernel
theorem dX7_walker_64 : decode cX7_walker 64 = .ok (.ireturn, 1) := by decide +kernel
theorem dX7_deed_0 : decode cX7_deed 0 = .ok (.iload_n 1, 1) := by decide +kernel
theorem dX7_deed_1 : decode cX7_deed 1 = .ok (.iconst 0, 1) := by decide +kernel
theorem dX7_deed_2 : decode cX7_deed 2 = .ok (.bipush 8, 2) := by decide +kernel
theorem dX7_deed_4 : decode cX7_deed 4 = .ok (.invokestatic 95, 3) := by decide +kernel
theorem dX7_deed_7 : decode cX7_deed 7 = .ok (.ifCond .ne 6, 3) := by decide +kernel
theorem dX7_deed_10 : decode cX7_deed 10 = .ok (.bipush (-3), 2) := by decide +kernel
theorem dX7_deed_12 : decode cX7_deed 12 = .ok (.ireturn, 1) := by decide +kernel
theorem dX7_deed_13 : decode cX7_deed 13 = .ok (.iload_n 1, 1) := by decide +kernel
theorem dX7_deed_14 : decode cX7_deed 14 = .ok (.ifCond .ne 20, 3) := by decide +kernel
theorem dX7_deed_17 : decode cX7_deed 17 = .ok (.iload_n 2, 1) := by decide +kernel
theorem dX7_deed_18 : decode cX7_deed 18 = .ok (.invokestatic 99, 3) := by decide +kernel
theorem dX7_deed_21 : decode cX7_deed 21 = .ok (.ifCond .eq 10, 3) := by decide +kernel
theorem dX7_deed_24 : decode cX7_deed 24 = .ok (.iload_n 3, 1) := by decide +kernel
theorem dX7_deed_25 : decode cX7_deed 25 = .ok (.invokestatic 103, 3) := by decide +kernel
theorem dX7_deed_28 : decode cX7_deed 28 = .ok (.ifCond .ne 6, 3) := by decide +kernel
theorem dX7_deed_31 : decode cX7_deed 31 = .ok (.bipush (-3), 2) := by decide +kernel
theorem dX7_deed_33 : decode cX7_deed 33 = .ok (.ireturn, 1) := by decide +kernel
theorem dX7_deed_34 : decode cX7_deed 34 = .ok (.iload_n 1, 1) := by decide +kernel
theorem dX7_deed_35 : decode cX7_deed 35 = .ok (.bipush 8, 2) := by decide +kernel
theorem dX7_deed_37 : decode cX7_deed 37 = .ok (.if_icmp .ne 17, 3) := by decide +kernel
theorem dX7_deed_40 : decode cX7_deed 40 = .ok (.iload_n 3, 1) := by decide +kernel
theorem dX7_deed_41 : decode cX7_deed 41 = .ok (.iconst 1, 1) := by decide +kernel
theorem dX7_deed_42 : decode cX7_deed 42 = .ok (.sipush 600, 3) := by decide +kernel
theorem dX7_deed_45 : decode cX7_deed 45 = .ok (.invokestatic 95, 3) := by decide +kernel
theorem dX7_deed_48 : decode cX7_deed 48 = .ok (.ifCond .ne 6, 3) := by decide +kernel
theorem dX7_deed_51 : decode cX7_deed 51 = .ok (.bipush (-3), 2) := by decide +kernel
theorem dX7_deed_53 : decode cX7_deed 53 = .ok (.ireturn, 1) := by decide +kernel
theorem dX7_deed_54 : decode cX7_deed 54 = .ok (.aload_n 0, 1) := by decide +kernel
theorem dX7_deed_55 : decode cX7_deed 55 = .ok (.aload_n 0, 1) := by decide +kernel
theorem dX7_deed_56 : decode cX7_deed 56 = .ok (.getfield 19, 3) := by decide +kernel
theorem dX7_deed_59 : decode cX7_deed 59 = .ok (.iload_n 1, 1) := by decide +kernel
theorem dX7_deed_60 : decode cX7_deed 60 = .ok (.iload_n 2, 1) := by decide +kernel
theorem dX7_deed_61 : decode cX7_deed 61 = .ok (.iload_n 3, 1) := by decide +kernel
theorem dX7_deed_62 : decode cX7_deed 62 = .ok (.invokevirtual 106, 3) := by decide +kernel
theorem dX7_deed_65 : decode cX7_deed 65 = .ok (.invokevirtual 66, 3) := by decide +kernel
theorem dX7_deed_68 : decode cX7_deed 68 = .ok (.ireturn, 1) := by decide +kernel
theorem dX7_condition_0 : decode cX7_condition 0 = .ok (.iload_n 1, 1) := by decide +kernel
theorem dX7_condition_1 : decode cX7_condition 1 = .ok (.aload_n 0, 1) := by decide +kernel
theorem dX7_condition_2 : decode cX7_condition 2 = .ok (.getfield 19, 3) := by decide +kernel
theorem dX7_condition_5 : decode cX7_condition 5 = .ok (.getfield 110, 3) := by decide +kernel
theorem dX7_condition_8 : decode cX7_condition 8 = .ok (.invokestatic 74, 3) := by decide +kernel
theorem dX7_condition_11 : decode cX7_condition 11 = .ok (.ifCond .ne 6, 3) := by decide +kernel
theorem dX7_condition_14 : decode cX7_condition 14 = .ok (.bipush (-2), 2) := by decide +kernel
theorem dX7_condition_16 : decode cX7_condition 16 = .ok (.ireturn, 1) := by decide +kernel
theorem dX7_condition_17 : decode cX7_condition 17 = .ok (.iload_n 2, 1) := by decide +kernel
theorem dX7_condition_18 : decode cX7_condition 18 = .ok (.iconst (-1), 1) := by decide +kernel
theorem dX7_condition_19 : decode cX7_condition 19 = .ok (.if_icmp .eq 10, 3) := by decide +kernel
theorem dX7_condition_22 : decode cX7_condition 22 = .ok (.iload_n 2, 1) := by decide +kernel
theorem dX7_condition_23 : decode cX7_condition 23 = .ok (.invokestatic 99, 3) := by decide +kernel
theorem dX7_condition_26 : decode cX7_condition 26 = .ok (.ifCond .eq 10, 3) := by decide +kernel
theorem dX7_condition_29 : decode cX7_condition 29 = .ok (.iload_n 3, 1) := by decide +kernel
theorem dX7_condition_30 : decode cX7_condition 30 = .ok (.invokestatic 103, 3) := by decide +kernel
theorem dX7_condition_33 : decode cX7_condition 33 = .ok (.ifCond .ne 6, 3) := by decide +kernel
theorem dX7_condition_36 : decode cX7_condition 36 = .ok (.bipush (-3), 2) := by decide +kernel
theorem dX7_condition_38 : decode cX7_condition 38 = .ok (.ireturn, 1) := by decide +kernel
theorem dX7_condition_39 : decode cX7_condition 39 = .ok (.aload_n 0, 1) := by decide +kernel
theorem dX7_condition_40 : decode cX7_condition 40 = .ok (.getfield 19, 3) := by decide +kernel
theorem dX7_condition_43 : decode cX7_condition 43 = .ok (.getfield 113, 3) := by decide +kernel
theorem dX7_condition_46 : decode cX7_condition 46 = .ok (.iload_n 1, 1) := by decide +kernel
theorem dX7_condition_47 : decode cX7_condition 47 = .ok (.iload_n 2, 1) := by decide +kernel
theorem dX7_condition_48 : decode cX7_condition 48 = .ok (.iastore, 1) := by decide +kernel
theorem dX7_condition_49 : decode cX7_condition 49 = .ok (.aload_n 0, 1) := by decide +kernel
theorem dX7_condition_50 : decode cX7_condition 50 = .ok (.getfield 19, 3) := by decide +kernel
theorem dX7_condition_53 : decode cX7_condition 53 = .ok (.getfield 116, 3) := by decide +kernel
theorem dX7_condition_56 : decode cX7_condition 56 = .ok (.iload_n 1, 1) := by decide +kernel
theorem dX7_condition_57 : decode cX7_condition 57 = .ok (.iload_n 3, 1) := by decide +kernel
theorem dX7_condition_58 : decode cX7_condition 58 = .ok (.iastore, 1) := by decide +kernel
theorem dX7_condition_59 : decode cX7_condition 59 = .ok (.aload_n 0, 1) := by decide +kernel
theorem dX7_condition_60 : decode cX7_condition 60 = .ok (.iconst 1, 1) := by decide +kernel
theorem dX7_condition_61 : decode cX7_condition 61 = .ok (.invokevirtual 66, 3) := by decide +kernel
theorem dX7_condition_64 : decode cX7_condition 64 = .ok (.ireturn, 1) := by decide +kernel
theorem dX7_event_0 : decode cX7_event 0 = .ok (.iload_n 1, 1) := by decide +kernel
theorem dX7_event_1 : decode cX7_event 1 = .ok (.aload_n 0, 1) := by decide +kernel
theorem dX7_event_2 : decode cX7_event 2 = .ok (.getfield 19, 3) := by decide +kernel
theorem dX7_event_5 : decode cX7_event 5 = .ok (.getfield 110, 3) := by decide +kernel
theorem dX7_event_8 : decode cX7_event 8 = .ok (.invokestatic 74, 3) := by decide +kernel
theorem dX7_event_11 : decode cX7_event 11 = .ok (.ifCond .ne 6, 3) := by decide +kernel
theorem dX7_event_14 : decode cX7_event 14 = .ok (.bipush (-2), 2) := by decide +kernel
theorem dX7_event_16 : decode cX7_event 16 = .ok (.ireturn, 1) := by decide +kernel
theorem dX7_event_17 : decode cX7_event 17 = .ok (.iload_n 2, 1) := by decide +kernel
theorem dX7_event_18 : decode cX7_event 18 = .ok (.iconst 0, 1) := by decide +kernel
theorem dX7_event_19 : decode cX7_event 19 = .ok (.sipush 1439, 3) := by decide +kernel
theorem dX7_event_22 : decode cX7_event 22 = .ok (.invokestatic 95, 3) := by decide +kernel
theorem dX7_event_25 : decode cX7_event 25 = .ok (.ifCond .ne 6, 3) := by decide +kernel
theorem dX7_event_28 : decode cX7_event 28 = .ok (.bipush (-3), 2) := by decide +kernel
theorem dX7_event_30 : decode cX7_event 30 = .ok (.ireturn, 1) := by decide +kernel
theorem dX7_event_31 : decode cX7_event 31 = .ok (.aload_n 0, 1) := by decide +kernel
theorem dX7_event_32 : decode cX7_event 32 = .ok (.aload_n 0, 1) := by decide +kernel
theorem dX7_event_33 : decode cX7_event 33 = .ok (.getfield 26, 3) := by decide +kernel
theorem dX7_event_36 : decode cX7_event 36 = .ok (.iload_n 1, 1) := by decide +kernel
theorem dX7_event_37 : decode cX7_event 37 = .ok (.iload_n 2, 1) := by decide +kernel
theorem dX7_event_38 : decode cX7_event 38 = .ok (.iload_n 3, 1) := by decide +kernel
theorem dX7_event_39 : decode cX7_event 39 = .ok (.invokevirtual 119, 3) := by decide +kernel
theorem dX7_event_42 : decode cX7_event 42 = .ok (.invokevirtual 66, 3) := by decide +kernel
theorem dX7_event_45 : decode cX7_event 45 = .ok (.ireturn, 1) := by decide +kernel
theorem dX7_timer_0 : decode cX7_timer 0 = .ok (.iload_n 1, 1) := by decide +kernel
theorem dX7_timer_1 : decode cX7_timer 1 = .ok (.aload_n 0, 1) := by decide +kernel
theorem dX7_timer_2 : decode cX7_timer 2 = .ok (.getfield 19, 3) := by decide +kernel
theorem dX7_timer_5 : decode cX7_timer 5 = .ok (.getfield 110, 3) := by decide +kernel
theorem dX7_timer_8 : decode cX7_timer 8 = .ok (.invokestatic 74, 3) := by decide +kernel
theorem dX7_timer_11 : decode cX7_timer 11 = .ok (.ifCond .ne 6, 3) := by decide +kernel
theorem dX7_timer_14 : decode cX7_timer 14 = .ok (.bipush (-2), 2) := by decide +kernel
theorem dX7_timer_16 : decode cX7_timer 16 = .ok (.ireturn, 1) := by decide +kernel
theorem dX7_timer_17 : decode cX7_timer 17 = .ok (.iload_n 2, 1) := by decide +kernel
theorem dX7_timer_18 : decode cX7_timer 18 = .ok (.iconst 1, 1) := by decide +kernel
theorem dX7_timer_19 : decode cX7_timer 19 = .ok (.bipush 50, 2) := by decide +kernel
theorem dX7_timer_21 : decode cX7_timer 21 = .ok (.invokestatic 95, 3) := by decide +kernel
theorem dX7_timer_24 : decode cX7_timer 24 = .ok (.ifCond .ne 6, 3) := by decide +kernel
theorem dX7_timer_27 : decode cX7_timer 27 = .ok (.bipush (-3), 2) := by decide +kernel
theorem dX7_timer_29 : decode cX7_timer 29 = .ok (.ireturn, 1) := by decide +kernel
theorem dX7_timer_30 : decode cX7_timer 30 = .ok (.aload_n 0, 1) := by decide +kernel
theorem dX7_timer_31 : decode cX7_timer 31 = .ok (.aload_n 0, 1) := by decide +kernel
theorem dX7_timer_32 : decode cX7_timer 32 = .ok (.getfield 33, 3) := by decide +kernel
theorem dX7_timer_35 : decode cX7_timer 35 = .ok (.iload_n 1, 1) := by decide +kernel
theorem dX7_timer_36 : decode cX7_timer 36 = .ok (.iload_n 2, 1) := by decide +kernel
theorem dX7_timer_37 : decode cX7_timer 37 = .ok (.iload_n 3, 1) := by decide +kernel
theorem dX7_timer_38 : decode cX7_timer 38 = .ok (.invokevirtual 123, 3) := by decide +kernel
theorem dX7_timer_41 : decode cX7_timer 41 = .ok (.invokevirtual 66, 3) := by decide +kernel
theorem dX7_timer_44 : decode cX7_timer 44 = .ok (.ireturn, 1) := by decide +kernel
theorem dX7_daemon_0 : decode cX7_daemon 0 = .ok (.iload_n 1, 1) := by decide +kernel
theorem dX7_daemon_1 : decode cX7_daemon 1 = .ok (.aload_n 0, 1) := by decide +kernel
theorem dX7_daemon_2 : decode cX7_daemon 2 = .ok (.getfield 19, 3) := by decide +kernel
theorem dX7_daemon_5 : decode cX7_daemon 5 = .ok (.getfield 110, 3) := by decide +kernel
theorem dX7_daemon_8 : decode cX7_daemon 8 = .ok (.invokestatic 74, 3) := by decide +kernel
theorem dX7_daemon_11 : decode cX7_daemon 11 = .ok (.ifCond .ne 6, 3) := by decide +kernel
theorem dX7_daemon_14 : decode cX7_daemon 14 = .ok (.bipush (-2), 2) := by decide +kernel
theorem dX7_daemon_16 : decode cX7_daemon 16 = .ok (.ireturn, 1) := by decide +kernel
theorem dX7_daemon_17 : decode cX7_daemon 17 = .ok (.iload_n 2, 1) := by decide +kernel
theorem dX7_daemon_18 : decode cX7_daemon 18 = .ok (.iconst 0, 1) := by decide +kernel
theorem dX7_daemon_19 : decode cX7_daemon 19 = .ok (.bipush 9, 2) := by decide +kernel
theorem dX7_daemon_21 : decode cX7_daemon 21 = .ok (.invokestatic 95, 3) := by decide +kernel
theorem dX7_daemon_24 : decode cX7_daemon 24 = .ok (.ifCond .ne 6, 3) := by decide +kernel
theorem dX7_daemon_27 : decode cX7_daemon 27 = .ok (.bipush (-3), 2) := by decide +kernel
theorem dX7_daemon_29 : decode cX7_daemon 29 = .ok (.ireturn, 1) := by decide +kernel
theorem dX7_daemon_30 : decode cX7_daemon 30 = .ok (.aload_n 0, 1) := by decide +kernel
theorem dX7_daemon_31 : decode cX7_daemon 31 = .ok (.aload_n 0, 1) := by decide +kernel
theorem dX7_daemon_32 : decode cX7_daemon 32 = .ok (.getfield 40, 3) := by decide +kernel
theorem dX7_daemon_35 : decode cX7_daemon 35 = .ok (.iload_n 1, 1) := by decide +kernel
theorem dX7_daemon_36 : decode cX7_daemon 36 = .ok (.iload_n 2, 1) := by decide +kernel
theorem dX7_daemon_37 : decode cX7_daemon 37 = .ok (.invokevirtual 126, 3) := by decide +kernel
theorem dX7_daemon_40 : decode cX7_daemon 40 = .ok (.invokevirtual 66, 3) := by decide +kernel
theorem dX7_daemon_43 : decode cX7_daemon 43 = .ok (.ireturn, 1) := by decide +kernel
theorem dX7_act_0 : decode cX7_act 0 = .ok (.iload_n 1, 1) := by decide +kernel
theorem dX7_act_1 : decode cX7_act 1 = .ok (.aload_n 0, 1) := by decide +kernel
theorem dX7_act_2 : decode cX7_act 2 = .ok (.getfield 19, 3) := by decide +kernel
theorem dX7_act_5 : decode cX7_act 5 = .ok (.getfield 110, 3) := by decide +kernel
theorem dX7_act_8 : decode cX7_act 8 = .ok (.invokestatic 74, 3) := by decide +kernel
theorem dX7_act_11 : decode cX7_act 11 = .ok (.ifCond .ne 6, 3) := by decide +kernel
theorem dX7_act_14 : decode cX7_act 14 = .ok (.bipush (-2), 2) := by decide +kernel
theorem dX7_act_16 : decode cX7_act 16 = .ok (.ireturn, 1) := by decide +kernel
theorem dX7_act_17 : decode cX7_act 17 = .ok (.aload_n 0, 1) := by decide +kernel
theorem dX7_act_18 : decode cX7_act 18 = .ok (.aload_n 0, 1) := by decide +kernel
theorem dX7_act_19 : decode cX7_act 19 = .ok (.iload_n 1, 1) := by decide +kernel
theorem dX7_act_20 : decode cX7_act 20 = .ok (.invokevirtual 129, 3) := by decide +kernel
theorem dX7_act_23 : decode cX7_act 23 = .ok (.ifCond .eq 7, 3) := by decide +kernel
theorem dX7_act_26 : decode cX7_act 26 = .ok (.iconst 1, 1) := by decide +kernel
theorem dX7_act_27 : decode cX7_act 27 = .ok (.goto 4, 3) := by decide +kernel
theorem dX7_act_30 : decode cX7_act 30 = .ok (.iconst 0, 1) := by decide +kernel
theorem dX7_act_31 : decode cX7_act 31 = .ok (.invokevirtual 66, 3) := by decide +kernel
theorem dX7_act_34 : decode cX7_act 34 = .ok (.ireturn, 1) := by decide +kernel
theorem dX7_pace_0 : decode cX7_pace 0 = .ok (.iload_n 1, 1) := by decide +kernel
theorem dX7_pace_1 : decode cX7_pace 1 = .ok (.iconst 1, 1) := by decide +kernel
theorem dX7_pace_2 : decode cX7_pace 2 = .ok (.bipush 60, 2) := by decide +kernel
theorem dX7_pace_4 : decode cX7_pace 4 = .ok (.invokestatic 95, 3) := by decide +kernel
theorem dX7_pace_7 : decode cX7_pace 7 = .ok (.ifCond .ne 6, 3) := by decide +kernel
theorem dX7_pace_10 : decode cX7_pace 10 = .ok (.bipush (-3), 2) := by decide +kernel
theorem dX7_pace_12 : decode cX7_pace 12 = .ok (.ireturn, 1) := by decide +kernel
theorem dX7_pace_13 : decode cX7_pace 13 = .ok (.aload_n 0, 1) := by decide +kernel
theorem dX7_pace_14 : decode cX7_pace 14 = .ok (.getfield 47, 3) := by decide +kernel
theorem dX7_pace_17 : decode cX7_pace 17 = .ok (.getfield 132, 3) := by decide +kernel
theorem dX7_pace_20 : decode cX7_pace 20 = .ok (.istore_n 2, 1) := by decide +kernel
theorem dX7_pace_21 : decode cX7_pace 21 = .ok (.aload_n 0, 1) := by decide +kernel
theorem dX7_pace_22 : decode cX7_pace 22 = .ok (.getfield 47, 3) := by decide +kernel
theorem dX7_pace_25 : decode cX7_pace 25 = .ok (.iload_n 1, 1) := by decide +kernel
theorem dX7_pace_26 : decode cX7_pace 26 = .ok (.putfield 132, 3) := by decide +kernel
theorem dX7_pace_29 : decode cX7_pace 29 = .ok (.aload_n 0, 1) := by decide +kernel
theorem dX7_pace_30 : decode cX7_pace 30 = .ok (.iload_n 2, 1) := by decide +kernel
theorem dX7_pace_31 : decode cX7_pace 31 = .ok (.invokevirtual 66, 3) := by decide +kernel
theorem dX7_pace_34 : decode cX7_pace 34 = .ok (.ireturn, 1) := by decide +kernel
theorem dX7_turn_0 : decode cX7_turn 0 = .ok (.aload_n 0, 1) := by decide +kernel
theorem dX7_turn_1 : decode cX7_turn 1 = .ok (.getfield 54, 3) := by decide +kernel
theorem dX7_turn_4 : decode cX7_turn 4 = .ok (.aload_n 0, 1) := by decide +kernel
theorem dX7_turn_5 : decode cX7_turn 5 = .ok (.getfield 47, 3) := by decide +kernel
theorem dX7_turn_8 : decode cX7_turn 8 = .ok (.invokevirtual 135, 3) := by decide +kernel
theorem dX7_turn_11 : decode cX7_turn 11 = .ok (.aload_n 0, 1) := by decide +kernel
theorem dX7_turn_12 : decode cX7_turn 12 = .ok (.getfield 47, 3) := by decide +kernel
theorem dX7_turn_15 : decode cX7_turn 15 = .ok (.dup, 1) := by decide +kernel
theorem dX7_turn_16 : decode cX7_turn 16 = .ok (.getfield 139, 3) := by decide +kernel
theorem dX7_turn_19 : decode cX7_turn 19 = .ok (.iconst 1, 1) := by decide +kernel
theorem dX7_turn_20 : decode cX7_turn 20 = .ok (.iadd, 1) := by decide +kernel
theorem dX7_turn_21 : decode cX7_turn 21 = .ok (.putfield 139, 3) := by decide +kernel
theorem dX7_turn_24 : decode cX7_turn 24 = .ok (.aload_n 0, 1) := by decide +kernel
theorem dX7_turn_25 : decode cX7_turn 25 = .ok (.getfield 47, 3) := by decide +kernel
theorem dX7_turn_28 : decode cX7_turn 28 = .ok (.iconst 0, 1) := by decide +kernel
theorem dX7_turn_29 : decode cX7_turn 29 = .ok (.putfield 142, 3) := by decide +kernel
theorem dX7_turn_32 : decode cX7_turn 32 = .ok (.aload_n 0, 1) := by decide +kernel
theorem dX7_turn_33 : decode cX7_turn 33 = .ok (.iconst 0, 1) := by decide +kernel
theorem dX7_turn_34 : decode cX7_turn 34 = .ok (.putfield 145, 3) := by decide +kernel
theorem dX7_turn_37 : decode cX7_turn 37 = .ok (.aload_n 0, 1) := by decide +kernel
theorem dX7_turn_38 : decode cX7_turn 38 = .ok (.invokevirtual 149, 3) := by decide +kernel
theorem dX7_turn_41 : decode cX7_turn 41 = .ok (.aload_n 0, 1) := by decide +kernel
theorem dX7_turn_42 : decode cX7_turn 42 = .ok (.invokevirtual 152, 3) := by decide +kernel
theorem dX7_turn_45 : decode cX7_turn 45 = .ok (.aload_n 0, 1) := by decide +kernel
theorem dX7_turn_46 : decode cX7_turn 46 = .ok (.invokevirtual 155, 3) := by decide +kernel
theorem dX7_turn_49 : decode cX7_turn 49 = .ok (.aload_n 0, 1) := by decide +kernel
theorem dX7_turn_50 : decode cX7_turn 50 = .ok (.invokevirtual 158, 3) := by decide +kernel
theorem dX7_turn_53 : decode cX7_turn 53 = .ok (.aload_n 0, 1) := by decide +kernel
theorem dX7_turn_54 : decode cX7_turn 54 = .ok (.getfield 47, 3) := by decide +kernel
theorem dX7_turn_57 : decode cX7_turn 57 = .ok (.getfield 142, 3) := by decide +kernel
theorem dX7_turn_60 : decode cX7_turn 60 = .ok (.ireturn, 1) := by decide +kernel
theorem dX7_back_0 : decode cX7_back 0 = .ok (.aload_n 0, 1) := by decide +kernel
theorem dX7_back_1 : decode cX7_back 1 = .ok (.getfield 54, 3) := by decide +kernel
theorem dX7_back_4 : decode cX7_back 4 = .ok (.getfield 161, 3) := by decide +kernel
theorem dX7_back_7 : decode cX7_back 7 = .ok (.ifCond .ne 6, 3) := by decide +kernel
theorem dX7_back_10 : decode cX7_back 10 = .ok (.bipush (-4), 2) := by decide +kernel
theorem dX7_back_12 : decode cX7_back 12 = .ok (.ireturn, 1) := by decide +kernel
theorem dX7_back_13 : decode cX7_back 13 = .ok (.aload_n 0, 1) := by decide +kernel
theorem dX7_back_14 : decode cX7_back 14 = .ok (.getfield 54, 3) := by decide +kernel
theorem dX7_back_17 : decode cX7_back 17 = .ok (.aload_n 0, 1) := by decide +kernel
theorem dX7_back_18 : decode cX7_back 18 = .ok (.getfield 47, 3) := by decide +kernel
theorem dX7_back_21 : decode cX7_back 21 = .ok (.invokevirtual 162, 3) := by decide +kernel
theorem dX7_back_24 : decode cX7_back 24 = .ok (.aload_n 0, 1) := by decide +kernel
theorem dX7_back_25 : decode cX7_back 25 = .ok (.getfield 54, 3) := by decide +kernel
theorem dX7_back_28 : decode cX7_back 28 = .ok (.getfield 161, 3) := by decide +kernel
theorem dX7_back_31 : decode cX7_back 31 = .ok (.ireturn, 1) := by decide +kernel
theorem dX7_told_0 : decode cX7_told 0 = .ok (.iload_n 1, 1) := by decide +kernel
theorem dX7_told_1 : decode cX7_told 1 = .ok (.tableswitch 99 0 6 #[43, 51, 59, 67, 75, 83, 91], 43) := by decide +kernel
theorem dX7_told_44 : decode cX7_told 44 = .ok (.aload_n 0, 1) := by decide +kernel
theorem dX7_told_45 : decode cX7_told 45 = .ok (.getfield 47, 3) := by decide +kernel
theorem dX7_told_48 : decode cX7_told 48 = .ok (.getfield 165, 3) := by decide +kernel
theorem dX7_told_51 : decode cX7_told 51 = .ok (.ireturn, 1) := by decide +kernel
theorem dX7_told_52 : decode cX7_told 52 = .ok (.aload_n 0, 1) := by decide +kernel
theorem dX7_told_53 : decode cX7_told 53 = .ok (.getfield 47, 3) := by decide +kernel
theorem dX7_told_56 : decode cX7_told 56 = .ok (.getfield 168, 3) := by decide +kernel
theorem dX7_told_59 : decode cX7_told 59 = .ok (.ireturn, 1) := by decide +kernel
theorem dX7_told_60 : decode cX7_told 60 = .ok (.aload_n 0, 1) := by decide +kernel
theorem dX7_told_61 : decode cX7_told 61 = .ok (.getfield 47, 3) := by decide +kernel
theorem dX7_told_64 : decode cX7_told 64 = .ok (.getfield 139, 3) := by decide +kernel
theorem dX7_told_67 : decode cX7_told 67 = .ok (.ireturn, 1) := by decide +kernel
theorem dX7_told_68 : decode cX7_told 68 = .ok (.aload_n 0, 1) := by decide +kernel
theorem dX7_told_69 : decode cX7_told 69 = .ok (.getfield 47, 3) := by decide +kernel
theorem dX7_told_72 : decode cX7_told 72 = .ok (.getfield 132, 3) := by decide +kernel
theorem dX7_told_75 : decode cX7_told 75 = .ok (.ireturn, 1) := by decide +kernel
theorem dX7_told_76 : decode cX7_told 76 = .ok (.aload_n 0, 1) := by decide +kernel
theorem dX7_told_77 : decode cX7_told 77 = .ok (.getfield 47, 3) := by decide +kernel
theorem dX7_told_80 : decode cX7_told 80 = .ok (.getfield 171, 3) := by decide +kernel
theorem dX7_told_83 : decode cX7_told 83 = .ok (.ireturn, 1) := by decide +kernel
theorem dX7_told_84 : decode cX7_told 84 = .ok (.aload_n 0, 1) := by decide +kernel
theorem dX7_told_85 : decode cX7_told 85 = .ok (.getfield 54, 3) := by decide +kernel
theorem dX7_told_88 : decode cX7_told 88 = .ok (.getfield 161, 3) := by decide +kernel
theorem dX7_told_91 : decode cX7_told 91 = .ok (.ireturn, 1) := by decide +kernel
theorem dX7_told_92 : decode cX7_told 92 = .ok (.aload_n 0, 1) := by decide +kernel
theorem dX7_told_93 : decode cX7_told 93 = .ok (.getfield 47, 3) := by decide +kernel
theorem dX7_told_96 : decode cX7_told 96 = .ok (.getfield 142, 3) := by decide +kernel
theorem dX7_told_99 : decode cX7_told 99 = .ok (.ireturn, 1) := by decide +kernel
theorem dX7_told_100 : decode cX7_told 100 = .ok (.bipush (-3), 2) := by decide +kernel
theorem dX7_told_102 : decode cX7_told 102 = .ok (.ireturn, 1) := by decide +kernel
theorem dX7_count_0 : decode cX7_count 0 = .ok (.iload_n 1, 1) := by decide +kernel
theorem dX7_count_1 : decode cX7_count 1 = .ok (.tableswitch 99 0 6 #[43, 51, 59, 67, 75, 83, 91], 43) := by decide +kernel
theorem dX7_count_44 : decode cX7_count 44 = .ok (.aload_n 0, 1) := by decide +kernel
theorem dX7_count_45 : decode cX7_count 45 = .ok (.getfield 12, 3) := by decide +kernel
theorem dX7_count_48 : decode cX7_count 48 = .ok (.getfield 70, 3) := by decide +kernel
theorem dX7_count_51 : decode cX7_count 51 = .ok (.ireturn, 1) := by decide +kernel
theorem dX7_count_52 : decode cX7_count 52 = .ok (.aload_n 0, 1) := by decide +kernel
theorem dX7_count_53 : decode cX7_count 53 = .ok (.getfield 12, 3) := by decide +kernel
theorem dX7_count_56 : decode cX7_count 56 = .ok (.getfield 174, 3) := by decide +kernel
theorem dX7_count_59 : decode cX7_count 59 = .ok (.ireturn, 1) := by decide +kernel
theorem dX7_count_60 : decode cX7_count 60 = .ok (.aload_n 0, 1) := by decide +kernel
theorem dX7_count_61 : decode cX7_count 61 = .ok (.getfield 12, 3) := by decide +kernel
theorem dX7_count_64 : decode cX7_count 64 = .ok (.getfield 85, 3) := by decide +kernel
theorem dX7_count_67 : decode cX7_count 67 = .ok (.ireturn, 1) := by decide +kernel
theorem dX7_count_68 : decode cX7_count 68 = .ok (.aload_n 0, 1) := by decide +kernel
theorem dX7_count_69 : decode cX7_count 69 = .ok (.getfield 19, 3) := by decide +kernel
theorem dX7_count_72 : decode cX7_count 72 = .ok (.getfield 110, 3) := by decide +kernel
theorem dX7_count_75 : decode cX7_count 75 = .ok (.ireturn, 1) := by decide +kernel
theorem dX7_count_76 : decode cX7_count 76 = .ok (.aload_n 0, 1) := by decide +kernel
theorem dX7_count_77 : decode cX7_count 77 = .ok (.getfield 26, 3) := by decide +kernel
theorem dX7_count_80 : decode cX7_count 80 = .ok (.getfield 177, 3) := by decide +kernel
theorem dX7_count_83 : decode cX7_count 83 = .ok (.ireturn, 1) := by decide +kernel
theorem dX7_count_84 : decode cX7_count 84 = .ok (.aload_n 0, 1) := by decide +kernel
theorem dX7_count_85 : decode cX7_count 85 = .ok (.getfield 33, 3) := by decide +kernel
theorem dX7_count_88 : decode cX7_count 88 = .ok (.getfield 178, 3) := by decide +kernel
theorem dX7_count_91 : decode cX7_count 91 = .ok (.ireturn, 1) := by decide +kernel
theorem dX7_count_92 : decode cX7_count 92 = .ok (.aload_n 0, 1) := by decide +kernel
theorem dX7_count_93 : decode cX7_count 93 = .ok (.getfield 40, 3) := by decide +kernel
theorem dX7_count_96 : decode cX7_count 96 = .ok (.getfield 179, 3) := by decide +kernel
theorem dX7_count_99 : decode cX7_count 99 = .ok (.ireturn, 1) := by decide +kernel
theorem dX7_count_100 : decode cX7_count 100 = .ok (.bipush (-3), 2) := by decide +kernel
theorem dX7_count_102 : decode cX7_count 102 = .ok (.ireturn, 1) := by decide +kernel
theorem dX7_counter_0 : decode cX7_counter 0 = .ok (.iload_n 1, 1) := by decide +kernel
theorem dX7_counter_1 : decode cX7_counter 1 = .ok (.invokestatic 99, 3) := by decide +kernel
theorem dX7_counter_4 : decode cX7_counter 4 = .ok (.ifCond .eq 15, 3) := by decide +kernel
theorem dX7_counter_7 : decode cX7_counter 7 = .ok (.aload_n 0, 1) := by decide +kernel
theorem dX7_counter_8 : decode cX7_counter 8 = .ok (.getfield 47, 3) := by decide +kernel
theorem dX7_counter_11 : decode cX7_counter 11 = .ok (.getfield 180, 3) := by decide +kernel
theorem dX7_counter_14 : decode cX7_counter 14 = .ok (.iload_n 1, 1) := by decide +kernel
theorem dX7_counter_15 : decode cX7_counter 15 = .ok (.iaload, 1) := by decide +kernel
theorem dX7_counter_16 : decode cX7_counter 16 = .ok (.goto 5, 3) := by decide +kernel
theorem dX7_counter_19 : decode cX7_counter 19 = .ok (.bipush (-3), 2) := by decide +kernel
theorem dX7_counter_21 : decode cX7_counter 21 = .ok (.ireturn, 1) := by decide +kernel
theorem dX7_left_0 : decode cX7_left 0 = .ok (.iload_n 1, 1) := by decide +kernel
theorem dX7_left_1 : decode cX7_left 1 = .ok (.aload_n 0, 1) := by decide +kernel
theorem dX7_left_2 : decode cX7_left 2 = .ok (.getfield 33, 3) := by decide +kernel
theorem dX7_left_5 : decode cX7_left 5 = .ok (.getfield 178, 3) := by decide +kernel
theorem dX7_left_8 : decode cX7_left 8 = .ok (.invokestatic 74, 3) := by decide +kernel
theorem dX7_left_11 : decode cX7_left 11 = .ok (.ifCond .eq 15, 3) := by decide +kernel
theorem dX7_left_14 : decode cX7_left 14 = .ok (.aload_n 0, 1) := by decide +kernel
theorem dX7_left_15 : decode cX7_left 15 = .ok (.getfield 47, 3) := by decide +kernel
theorem dX7_left_18 : decode cX7_left 18 = .ok (.getfield 183, 3) := by decide +kernel
theorem dX7_left_21 : decode cX7_left 21 = .ok (.iload_n 1, 1) := by decide +kernel
theorem dX7_left_22 : decode cX7_left 22 = .ok (.iaload, 1) := by decide +kernel
theorem dX7_left_23 : decode cX7_left 23 = .ok (.goto 5, 3) := by decide +kernel
theorem dX7_left_26 : decode cX7_left 26 = .ok (.bipush (-2), 2) := by decide +kernel
theorem dX7_left_28 : decode cX7_left 28 = .ok (.ireturn, 1) := by decide +kernel
theorem dX7_is_0 : decode cX7_is 0 = .ok (.iload_n 1, 1) := by decide +kernel
theorem dX7_is_1 : decode cX7_is 1 = .ok (.tableswitch 139 0 2 #[27, 59, 99], 27) := by decide +kernel
theorem dX7_is_28 : decode cX7_is 28 = .ok (.iload_n 2, 1) := by decide +kernel
theorem dX7_is_29 : decode cX7_is 29 = .ok (.aload_n 0, 1) := by decide +kernel
theorem dX7_is_30 : decode cX7_is 30 = .ok (.getfield 40, 3) := by decide +kernel
theorem dX7_is_33 : decode cX7_is 33 = .ok (.getfield 179, 3) := by decide +kernel
theorem dX7_is_36 : decode cX7_is 36 = .ok (.invokestatic 74, 3) := by decide +kernel
theorem dX7_is_39 : decode cX7_is 39 = .ok (.ifCond .eq 18, 3) := by decide +kernel
theorem dX7_is_42 : decode cX7_is 42 = .ok (.aload_n 0, 1) := by decide +kernel
theorem dX7_is_43 : decode cX7_is 43 = .ok (.getfield 47, 3) := by decide +kernel
theorem dX7_is_46 : decode cX7_is 46 = .ok (.getfield 186, 3) := by decide +kernel
theorem dX7_is_49 : decode cX7_is 49 = .ok (.iload_n 2, 1) := by decide +kernel
theorem dX7_is_50 : decode cX7_is 50 = .ok (.baload, 1) := by decide +kernel
theorem dX7_is_51 : decode cX7_is 51 = .ok (.invokestatic 189, 3) := by decide +kernel
theorem dX7_is_54 : decode cX7_is 54 = .ok (.goto 5, 3) := by decide +kernel
theorem dX7_is_57 : decode cX7_is 57 = .ok (.bipush (-2), 2) := by decide +kernel
theorem dX7_is_59 : decode cX7_is 59 = .ok (.ireturn, 1) := by decide +kernel
theorem dX7_is_60 : decode cX7_is 60 = .ok (.iload_n 2, 1) := by decide +kernel
theorem dX7_is_61 : decode cX7_is 61 = .ok (.aload_n 0, 1) := by decide +kernel
theorem dX7_is_62 : decode cX7_is 62 = .ok (.getfield 12, 3) := by decide +kernel
theorem dX7_is_65 : decode cX7_is 65 = .ok (.getfield 174, 3) := by decide +kernel
theorem dX7_is_68 : decode cX7_is 68 = .ok (.invokestatic 74, 3) := by decide +kernel
theorem dX7_is_71 : decode cX7_is 71 = .ok (.ifCond .eq 26, 3) := by decide +kernel
theorem dX7_is_74 : decode cX7_is 74 = .ok (.aload_n 0, 1) := by decide +kernel
theorem dX7_is_75 : decode cX7_is 75 = .ok (.getfield 47, 3) := by decide +kernel
theorem dX7_is_78 : decode cX7_is 78 = .ok (.getfield 193, 3) := by decide +kernel
theorem dX7_is_81 : decode cX7_is 81 = .ok (.iload_n 2, 1) := by decide +kernel
theorem dX7_is_82 : decode cX7_is 82 = .ok (.baload, 1) := by decide +kernel
theorem dX7_is_83 : decode cX7_is 83 = .ok (.ifCond .ne 7, 3) := by decide +kernel
theorem dX7_is_86 : decode cX7_is 86 = .ok (.iconst 1, 1) := by decide +kernel
theorem dX7_is_87 : decode cX7_is 87 = .ok (.goto 4, 3) := by decide +kernel
theorem dX7_is_90 : decode cX7_is 90 = .ok (.iconst 0, 1) := by decide +kernel
theorem dX7_is_91 : decode cX7_is 91 = .ok (.invokestatic 189, 3) := by decide +kernel
theorem dX7_is_94 : decode cX7_is 94 = .ok (.goto 5, 3) := by decide +kernel
theorem dX7_is_97 : decode cX7_is 97 = .ok (.bipush (-2), 2) := by decide +kernel
theorem dX7_is_99 : decode cX7_is 99 = .ok (.ireturn, 1) := by decide +kernel
theorem dX7_is_100 : decode cX7_is 100 = .ok (.iload_n 2, 1) := by decide +kernel
theorem dX7_is_101 : decode cX7_is 101 = .ok (.aload_n 0, 1) := by decide +kernel
theorem dX7_is_102 : decode cX7_is 102 = .ok (.getfield 26, 3) := by decide +kernel
theorem dX7_is_105 : decode cX7_is 105 = .ok (.getfield 177, 3) := by decide +kernel
theorem dX7_is_108 : decode cX7_is 108 = .ok (.invokestatic 74, 3) := by decide +kernel
theorem dX7_is_111 : decode cX7_is 111 = .ok (.ifCond .eq 26, 3) := by decide +kernel
theorem dX7_is_114 : decode cX7_is 114 = .ok (.aload_n 0, 1) := by decide +kernel
theorem dX7_is_115 : decode cX7_is 115 = .ok (.getfield 47, 3) := by decide +kernel
theorem dX7_is_118 : decode cX7_is 118 = .ok (.getfield 196, 3) := by decide +kernel
theorem dX7_is_121 : decode cX7_is 121 = .ok (.iload_n 2, 1) := by decide +kernel
theorem dX7_is_122 : decode cX7_is 122 = .ok (.baload, 1) := by decide +kernel
theorem dX7_is_123 : decode cX7_is 123 = .ok (.ifCond .ne 7, 3) := by decide +kernel
theorem dX7_is_126 : decode cX7_is 126 = .ok (.iconst 1, 1) := by decide +kernel
theorem dX7_is_127 : decode cX7_is 127 = .ok (.goto 4, 3) := by decide +kernel
theorem dX7_is_130 : decode cX7_is 130 = .ok (.iconst 0, 1) := by decide +kernel
theorem dX7_is_131 : decode cX7_is 131 = .ok (.invokestatic 189, 3) := by decide +kernel
theorem dX7_is_134 : decode cX7_is 134 = .ok (.goto 5, 3) := by decide +kernel
theorem dX7_is_137 : decode cX7_is 137 = .ok (.bipush (-2), 2) := by decide +kernel
theorem dX7_is_139 : decode cX7_is 139 = .ok (.ireturn, 1) := by decide +kernel
theorem dX7_is_140 : decode cX7_is 140 = .ok (.bipush (-3), 2) := by decide +kernel
theorem dX7_is_142 : decode cX7_is 142 = .ok (.ireturn, 1) := by decide +kernel
theorem dX7_walks_0 : decode cX7_walks 0 = .ok (.iload_n 1, 1) := by decide +kernel
theorem dX7_walks_1 : decode cX7_walks 1 = .ok (.aload_n 0, 1) := by decide +kernel
theorem dX7_walks_2 : decode cX7_walks 2 = .ok (.getfield 12, 3) := by decide +kernel
theorem dX7_walks_5 : decode cX7_walks 5 = .ok (.getfield 85, 3) := by decide +kernel
theorem dX7_walks_8 : decode cX7_walks 8 = .ok (.invokestatic 74, 3) := by decide +kernel
theorem dX7_walks_11 : decode cX7_walks 11 = .ok (.ifCond .ne 6, 3) := by decide +kernel
theorem dX7_walks_14 : decode cX7_walks 14 = .ok (.bipush (-2), 2) := by decide +kernel
theorem dX7_walks_16 : decode cX7_walks 16 = .ok (.ireturn, 1) := by decide +kernel
theorem dX7_walks_17 : decode cX7_walks 17 = .ok (.iload_n 2, 1) := by decide +kernel
theorem dX7_walks_18 : decode cX7_walks 18 = .ok (.lookupswitch 46 #[(0, 26), (1, 36)], 26) := by decide +kernel
theorem dX7_walks_44 : decode cX7_walks 44 = .ok (.aload_n 0, 1) := by decide +kernel
theorem dX7_walks_45 : decode cX7_walks 45 = .ok (.getfield 47, 3) := by decide +kernel
theorem dX7_walks_48 : decode cX7_walks 48 = .ok (.getfield 88, 3) := by decide +kernel
theorem dX7_walks_51 : decode cX7_walks 51 = .ok (.iload_n 1, 1) := by decide +kernel
theorem dX7_walks_52 : decode cX7_walks 52 = .ok (.iaload, 1) := by decide +kernel
theorem dX7_walks_53 : decode cX7_walks 53 = .ok (.ireturn, 1) := by decide +kernel
theorem dX7_walks_54 : decode cX7_walks 54 = .ok (.aload_n 0, 1) := by decide +kernel
theorem dX7_walks_55 : decode cX7_walks 55 = .ok (.getfield 47, 3) := by decide +kernel
theorem dX7_walks_58 : decode cX7_walks 58 = .ok (.getfield 92, 3) := by decide +kernel
theorem dX7_walks_61 : decode cX7_walks 61 = .ok (.iload_n 1, 1) := by decide +kernel
theorem dX7_walks_62 : decode cX7_walks 62 = .ok (.iaload, 1) := by decide +kernel
theorem dX7_walks_63 : decode cX7_walks 63 = .ok (.ireturn, 1) := by decide +kernel
theorem dX7_walks_64 : decode cX7_walks 64 = .ok (.bipush (-3), 2) := by decide +kernel
theorem dX7_walks_66 : decode cX7_walks 66 = .ok (.ireturn, 1) := by decide +kernel
theorem dX7_way_0 : decode cX7_way 0 = .ok (.iload_n 1, 1) := by decide +kernel
theorem dX7_way_1 : decode cX7_way 1 = .ok (.aload_n 0, 1) := by decide +kernel
theorem dX7_way_2 : decode cX7_way 2 = .ok (.getfield 12, 3) := by decide +kernel
theorem dX7_way_5 : decode cX7_way 5 = .ok (.getfield 70, 3) := by decide +kernel
theorem dX7_way_8 : decode cX7_way 8 = .ok (.invokestatic 74, 3) := by decide +kernel
theorem dX7_way_11 : decode cX7_way 11 = .ok (.ifCond .eq 17, 3) := by decide +kernel
theorem dX7_way_14 : decode cX7_way 14 = .ok (.iload_n 2, 1) := by decide +kernel
theorem dX7_way_15 : decode cX7_way 15 = .ok (.aload_n 0, 1) := by decide +kernel
theorem dX7_way_16 : decode cX7_way 16 = .ok (.getfield 12, 3) := by decide +kernel
theorem dX7_way_19 : decode cX7_way 19 = .ok (.getfield 70, 3) := by decide +kernel
theorem dX7_way_22 : decode cX7_way 22 = .ok (.invokestatic 74, 3) := by decide +kernel
theorem dX7_way_25 : decode cX7_way 25 = .ok (.ifCond .ne 6, 3) := by decide +kernel
theorem dX7_way_28 : decode cX7_way 28 = .ok (.bipush (-2), 2) := by decide +kernel
theorem dX7_way_30 : decode cX7_way 30 = .ok (.ireturn, 1) := by decide +kernel
theorem dX7_way_31 : decode cX7_way 31 = .ok (.aload_n 0, 1) := by decide +kernel
theorem dX7_way_32 : decode cX7_way 32 = .ok (.getfield 12, 3) := by decide +kernel
theorem dX7_way_35 : decode cX7_way 35 = .ok (.iload_n 2, 1) := by decide +kernel
theorem dX7_way_36 : decode cX7_way 36 = .ok (.aload_n 0, 1) := by decide +kernel
theorem dX7_way_37 : decode cX7_way 37 = .ok (.getfield 47, 3) := by decide +kernel
theorem dX7_way_40 : decode cX7_way 40 = .ok (.getfield 193, 3) := by decide +kernel
theorem dX7_way_43 : decode cX7_way 43 = .ok (.invokevirtual 199, 3) := by decide +kernel
theorem dX7_way_46 : decode cX7_way 46 = .ok (.aload_n 0, 1) := by decide +kernel
theorem dX7_way_47 : decode cX7_way 47 = .ok (.getfield 12, 3) := by decide +kernel
theorem dX7_way_50 : decode cX7_way 50 = .ok (.getfield 203, 3) := by decide +kernel
theorem dX7_way_53 : decode cX7_way 53 = .ok (.iload_n 1, 1) := by decide +kernel
theorem dX7_way_54 : decode cX7_way 54 = .ok (.iaload, 1) := by decide +kernel
theorem dX7_way_55 : decode cX7_way 55 = .ok (.ireturn, 1) := by decide +kernel
theorem dX7_row_0 : decode cX7_row 0 = .ok (.iload_n 2, 1) := by decide +kernel
theorem dX7_row_1 : decode cX7_row 1 = .ok (.iconst 0, 1) := by decide +kernel
theorem dX7_row_2 : decode cX7_row 2 = .ok (.iconst 1, 1) := by decide +kernel
theorem dX7_row_3 : decode cX7_row 3 = .ok (.invokestatic 95, 3) := by decide +kernel
theorem dX7_row_6 : decode cX7_row 6 = .ok (.ifCond .ne 6, 3) := by decide +kernel
theorem dX7_row_9 : decode cX7_row 9 = .ok (.bipush (-3), 2) := by decide +kernel
theorem dX7_row_11 : decode cX7_row 11 = .ok (.ireturn, 1) := by decide +kernel
theorem dX7_row_12 : decode cX7_row 12 = .ok (.iload_n 1, 1) := by decide +kernel
theorem dX7_row_13 : decode cX7_row 13 = .ok (.aload_n 0, 1) := by decide +kernel
theorem dX7_row_14 : decode cX7_row 14 = .ok (.getfield 47, 3) := by decide +kernel
theorem dX7_row_17 : decode cX7_row 17 = .ok (.getfield 142, 3) := by decide +kernel
theorem dX7_row_20 : decode cX7_row 20 = .ok (.invokestatic 74, 3) := by decide +kernel
theorem dX7_row_23 : decode cX7_row 23 = .ok (.ifCond .ne 5, 3) := by decide +kernel
theorem dX7_row_26 : decode cX7_row 26 = .ok (.iconst (-1), 1) := by decide +kernel
theorem dX7_row_27 : decode cX7_row 27 = .ok (.ireturn, 1) := by decide +kernel
theorem dX7_row_28 : decode cX7_row 28 = .ok (.iload_n 2, 1) := by decide +kernel
theorem dX7_row_29 : decode cX7_row 29 = .ok (.ifCond .ne 15, 3) := by decide +kernel
theorem dX7_row_32 : decode cX7_row 32 = .ok (.aload_n 0, 1) := by decide +kernel
theorem dX7_row_33 : decode cX7_row 33 = .ok (.getfield 47, 3) := by decide +kernel
theorem dX7_row_36 : decode cX7_row 36 = .ok (.getfield 206, 3) := by decide +kernel
theorem dX7_row_39 : decode cX7_row 39 = .ok (.iload_n 1, 1) := by decide +kernel
theorem dX7_row_40 : decode cX7_row 40 = .ok (.iaload, 1) := by decide +kernel
theorem dX7_row_41 : decode cX7_row 41 = .ok (.goto 12, 3) := by decide +kernel
theorem dX7_row_44 : decode cX7_row 44 = .ok (.aload_n 0, 1) := by decide +kernel
theorem dX7_row_45 : decode cX7_row 45 = .ok (.getfield 47, 3) := by decide +kernel
theorem dX7_row_48 : decode cX7_row 48 = .ok (.getfield 209, 3) := by decide +kernel
theorem dX7_row_51 : decode cX7_row 51 = .ok (.iload_n 1, 1) := by decide +kernel
theorem dX7_row_52 : decode cX7_row 52 = .ok (.iaload, 1) := by decide +kernel
theorem dX7_row_53 : decode cX7_row 53 = .ok (.ireturn, 1) := by decide +kernel
theorem dX7_minutes_0 : decode cX7_minutes 0 = .ok (.iload_n 1, 1) := by decide +kernel
theorem dX7_minutes_1 : decode cX7_minutes 1 = .ok (.aload_n 0, 1) := by decide +kernel
theorem dX7_minutes_2 : decode cX7_minutes 2 = .ok (.getfield 26, 3) := by decide +kernel
theorem dX7_minutes_5 : decode cX7_minutes 5 = .ok (.getfield 177, 3) := by decide +kernel
theorem dX7_minutes_8 : decode cX7_minutes 8 = .ok (.invokestatic 74, 3) := by decide +kernel
theorem dX7_minutes_11 : decode cX7_minutes 11 = .ok (.ifCond .ne 6, 3) := by decide +kernel
theorem dX7_minutes_14 : decode cX7_minutes 14 = .ok (.bipush (-2), 2) := by decide +kernel
theorem dX7_minutes_16 : decode cX7_minutes 16 = .ok (.ireturn, 1) := by decide +kernel
theorem dX7_minutes_17 : decode cX7_minutes 17 = .ok (.aload_n 0, 1) := by decide +kernel
theorem dX7_minutes_18 : decode cX7_minutes 18 = .ok (.getfield 47, 3) := by decide +kernel
theorem dX7_minutes_21 : decode cX7_minutes 21 = .ok (.getfield 196, 3) := by decide +kernel
theorem dX7_minutes_24 : decode cX7_minutes 24 = .ok (.iload_n 1, 1) := by decide +kernel
theorem dX7_minutes_25 : decode cX7_minutes 25 = .ok (.baload, 1) := by decide +kernel
theorem dX7_minutes_26 : decode cX7_minutes 26 = .ok (.ifCond .eq 7, 3) := by decide +kernel
theorem dX7_minutes_29 : decode cX7_minutes 29 = .ok (.iconst (-1), 1) := by decide +kernel
theorem dX7_minutes_30 : decode cX7_minutes 30 = .ok (.goto 16, 3) := by decide +kernel
theorem dX7_minutes_33 : decode cX7_minutes 33 = .ok (.aload_n 0, 1) := by decide +kernel
theorem dX7_minutes_34 : decode cX7_minutes 34 = .ok (.aload_n 0, 1) := by decide +kernel
theorem dX7_minutes_35 : decode cX7_minutes 35 = .ok (.getfield 26, 3) := by decide +kernel
theorem dX7_minutes_38 : decode cX7_minutes 38 = .ok (.getfield 212, 3) := by decide +kernel
theorem dX7_minutes_41 : decode cX7_minutes 41 = .ok (.iload_n 1, 1) := by decide +kernel
theorem dX7_minutes_42 : decode cX7_minutes 42 = .ok (.iaload, 1) := by decide +kernel
theorem dX7_minutes_43 : decode cX7_minutes 43 = .ok (.invokevirtual 215, 3) := by decide +kernel
theorem dX7_minutes_46 : decode cX7_minutes 46 = .ok (.ireturn, 1) := by decide +kernel
theorem dX7_isThere_0 : decode cX7_isThere 0 = .ok (.iload_n 0, 1) := by decide +kernel
theorem dX7_isThere_1 : decode cX7_isThere 1 = .ok (.ifCond .lt 12, 3) := by decide +kernel
theorem dX7_isThere_4 : decode cX7_isThere 4 = .ok (.iload_n 0, 1) := by decide +kernel
theorem dX7_isThere_5 : decode cX7_isThere 5 = .ok (.iload_n 1, 1) := by decide +kernel
theorem dX7_isThere_6 : decode cX7_isThere 6 = .ok (.if_icmp .ge 7, 3) := by decide +kernel
theorem dX7_isThere_9 : decode cX7_isThere 9 = .ok (.iconst 1, 1) := by decide +kernel
theorem dX7_isThere_10 : decode cX7_isThere 10 = .ok (.goto 4, 3) := by decide +kernel
theorem dX7_isThere_13 : decode cX7_isThere 13 = .ok (.iconst 0, 1) := by decide +kernel
theorem dX7_isThere_14 : decode cX7_isThere 14 = .ok (.ireturn, 1) := by decide +kernel
theorem dX7_isWithin_0 : decode cX7_isWithin 0 = .ok (.iload_n 0, 1) := by decide +kernel
theorem dX7_isWithin_1 : decode cX7_isWithin 1 = .ok (.iload_n 1, 1) := by decide +kernel
theorem dX7_isWithin_2 : decode cX7_isWithin 2 = .ok (.if_icmp .lt 12, 3) := by decide +kernel
theorem dX7_isWithin_5 : decode cX7_isWithin 5 = .ok (.iload_n 0, 1) := by decide +kernel
theorem dX7_isWithin_6 : decode cX7_isWithin 6 = .ok (.iload_n 2, 1) := by decide +kernel
theorem dX7_isWithin_7 : decode cX7_isWithin 7 = .ok (.if_icmp .gt 7, 3) := by decide +kernel
theorem dX7_isWithin_10 : decode cX7_isWithin 10 = .ok (.iconst 1, 1) := by decide +kernel
theorem dX7_isWithin_11 : decode cX7_isWithin 11 = .ok (.goto 4, 3) := by decide +kernel
theorem dX7_isWithin_14 : decode cX7_isWithin 14 = .ok (.iconst 0, 1) := by decide +kernel
theorem dX7_isWithin_15 : decode cX7_isWithin 15 = .ok (.ireturn, 1) := by decide +kernel
theorem dX7_isCounter_0 : decode cX7_isCounter 0 = .ok (.iload_n 0, 1) := by decide +kernel
theorem dX7_isCounter_1 : decode cX7_isCounter 1 = .ok (.ifCond .lt 13, 3) := by decide +kernel
theorem dX7_isCounter_4 : decode cX7_isCounter 4 = .ok (.iload_n 0, 1) := by decide +kernel
theorem dX7_isCounter_5 : decode cX7_isCounter 5 = .ok (.bipush 8, 2) := by decide +kernel
theorem dX7_isCounter_7 : decode cX7_isCounter 7 = .ok (.if_icmp .ge 7, 3) := by decide +kernel
theorem dX7_isCounter_10 : decode cX7_isCounter 10 = .ok (.iconst 1, 1) := by decide +kernel
theorem dX7_isCounter_11 : decode cX7_isCounter 11 = .ok (.goto 4, 3) := by decide +kernel
theorem dX7_isCounter_14 : decode cX7_isCounter 14 = .ok (.iconst 0, 1) := by decide +kernel
theorem dX7_isCounter_15 : decode cX7_isCounter 15 = .ok (.ireturn, 1) := by decide +kernel
theorem dX7_isCounterValue_0 : decode cX7_isCounterValue 0 = .ok (.iload_n 0, 1) := by decide +kernel
theorem dX7_isCounterValue_1 : decode cX7_isCounterValue 1 = .ok (.sipush (-1000), 3) := by decide +kernel
theorem dX7_isCounterValue_4 : decode cX7_isCounterValue 4 = .ok (.sipush 1000, 3) := by decide +kernel
theorem dX7_isCounterValue_7 : decode cX7_isCounterValue 7 = .ok (.invokestatic 95, 3) := by decide +kernel
theorem dX7_isCounterValue_10 : decode cX7_isCounterValue 10 = .ok (.ireturn, 1) := by decide +kernel
theorem dX7_asNumber_0 : decode cX7_asNumber 0 = .ok (.iload_n 0, 1) := by decide +kernel
theorem dX7_asNumber_1 : decode cX7_asNumber 1 = .ok (.ifCond .eq 7, 3) := by decide +kernel
theorem dX7_asNumber_4 : decode cX7_asNumber 4 = .ok (.iconst 1, 1) := by decide +kernel
theorem dX7_asNumber_5 : decode cX7_asNumber 5 = .ok (.goto 4, 3) := by decide +kernel
theorem dX7_asNumber_8 : decode cX7_asNumber 8 = .ok (.iconst 0, 1) := by decide +kernel
theorem dX7_asNumber_9 : decode cX7_asNumber 9 = .ok (.ireturn, 1) := by decide +kernel
theorem dX7_closePast_0 : decode cX7_closePast 0 = .ok (.iload_n 1, 1) := by decide +kernel
theorem dX7_closePast_1 : decode cX7_closePast 1 = .ok (.ifCond .lt 11, 3) := by decide +kernel
theorem dX7_closePast_4 : decode cX7_closePast 4 = .ok (.aload_n 0, 1) := by decide +kernel
theorem dX7_closePast_5 : decode cX7_closePast 5 = .ok (.getfield 54, 3) := by decide +kernel
theorem dX7_closePast_8 : decode cX7_closePast 8 = .ok (.iconst 0, 1) := by decide +kernel
theorem dX7_closePast_9 : decode cX7_closePast 9 = .ok (.putfield 161, 3) := by decide +kernel
theorem dX7_closePast_12 : decode cX7_closePast 12 = .ok (.iload_n 1, 1) := by decide +kernel
theorem dX7_closePast_13 : decode cX7_closePast 13 = .ok (.ireturn, 1) := by decide +kernel
theorem dX7_minutesUntil_0 : decode cX7_minutesUntil 0 = .ok (.iload_n 1, 1) := by decide +kernel
theorem dX7_minutesUntil_1 : decode cX7_minutesUntil 1 = .ok (.aload_n 0, 1) := by decide +kernel
theorem dX7_minutesUntil_2 : decode cX7_minutesUntil 2 = .ok (.getfield 47, 3) := by decide +kernel
theorem dX7_minutesUntil_5 : decode cX7_minutesUntil 5 = .ok (.getfield 165, 3) := by decide +kernel
theorem dX7_minutesUntil_8 : decode cX7_minutesUntil 8 = .ok (.isub, 1) := by decide +kernel
theorem dX7_minutesUntil_9 : decode cX7_minutesUntil 9 = .ok (.istore_n 2, 1) := by decide +kernel
theorem dX7_minutesUntil_10 : decode cX7_minutesUntil 10 = .ok (.iload_n 2, 1) := by decide +kernel
theorem dX7_minutesUntil_11 : decode cX7_minutesUntil 11 = .ok (.ifCond .le 7, 3) := by decide +kernel
theorem dX7_minutesUntil_14 : decode cX7_minutesUntil 14 = .ok (.iload_n 2, 1) := by decide +kernel
theorem dX7_minutesUntil_15 : decode cX7_minutesUntil 15 = .ok (.goto 8, 3) := by decide +kernel
theorem dX7_minutesUntil_18 : decode cX7_minutesUntil 18 = .ok (.iload_n 2, 1) := by decide +kernel
theorem dX7_minutesUntil_19 : decode cX7_minutesUntil 19 = .ok (.sipush 1440, 3) := by decide +kernel
theorem dX7_minutesUntil_22 : decode cX7_minutesUntil 22 = .ok (.iadd, 1) := by decide +kernel
theorem dX7_minutesUntil_23 : decode cX7_minutesUntil 23 = .ok (.ireturn, 1) := by decide +kernel
theorem dX7_bringEvents_0 : decode cX7_bringEvents 0 = .ok (.aload_n 0, 1) := by decide +kernel
theorem dX7_bringEvents_1 : decode cX7_bringEvents 1 = .ok (.getfield 47, 3) := by decide +kernel
theorem dX7_bringEvents_4 : decode cX7_bringEvents 4 = .ok (.getfield 132, 3) := by decide +kernel
theorem dX7_bringEvents_7 : decode cX7_bringEvents 7 = .ok (.aload_n 0, 1) := by decide +kernel
theorem dX7_bringEvents_8 : decode cX7_bringEvents 8 = .ok (.getfield 47, 3) := by decide +kernel
theorem dX7_bringEvents_11 : decode cX7_bringEvents 11 = .ok (.getfield 171, 3) := by decide +kernel
theorem dX7_bringEvents_14 : decode cX7_bringEvents 14 = .ok (.iadd, 1) := by decide +kernel
theorem dX7_bringEvents_15 : decode cX7_bringEvents 15 = .ok (.istore_n 1, 1) := by decide +kernel
theorem dX7_bringEvents_16 : decode cX7_bringEvents 16 = .ok (.aload_n 0, 1) := by decide +kernel
theorem dX7_bringEvents_17 : decode cX7_bringEvents 17 = .ok (.getfield 47, 3) := by decide +kernel
theorem dX7_bringEvents_20 : decode cX7_bringEvents 20 = .ok (.iconst 0, 1) := by decide +kernel
theorem dX7_bringEvents_21 : decode cX7_bringEvents 21 = .ok (.putfield 171, 3) := by decide +kernel
theorem dX7_bringEvents_24 : decode cX7_bringEvents 24 = .ok (.aload_n 0, 1) := by decide +kernel
theorem dX7_bringEvents_25 : decode cX7_bringEvents 25 = .ok (.iload_n 1, 1) := by decide +kernel
theorem dX7_bringEvents_26 : decode cX7_bringEvents 26 = .ok (.invokevirtual 218, 3) := by decide +kernel
theorem dX7_bringEvents_29 : decode cX7_bringEvents 29 = .ok (.istore_n 2, 1) := by decide +kernel
theorem dX7_bringEvents_30 : decode cX7_bringEvents 30 = .ok (.aload_n 0, 1) := by decide +kernel
theorem dX7_bringEvents_31 : decode cX7_bringEvents 31 = .ok (.getfield 47, 3) := by decide +kernel
theorem dX7_bringEvents_34 : decode cX7_bringEvents 34 = .ok (.iload_n 1, 1) := by decide +kernel
theorem dX7_bringEvents_35 : decode cX7_bringEvents 35 = .ok (.invokevirtual 221, 3) := by decide +kernel
theorem dX7_bringEvents_38 : decode cX7_bringEvents 38 = .ok (.iconst 0, 1) := by decide +kernel
theorem dX7_bringEvents_39 : decode cX7_bringEvents 39 = .ok (.istore_n 3, 1) := by decide +kernel
theorem dX7_bringEvents_40 : decode cX7_bringEvents 40 = .ok (.iload_n 3, 1) := by decide +kernel
theorem dX7_bringEvents_41 : decode cX7_bringEvents 41 = .ok (.iload_n 2, 1) := by decide +kernel
theorem dX7_bringEvents_42 : decode cX7_bringEvents 42 = .ok (.if_icmp .ge 29, 3) := by decide +kernel
theorem dX7_bringEvents_45 : decode cX7_bringEvents 45 = .ok (.aload_n 0, 1) := by decide +kernel
theorem dX7_bringEvents_46 : decode cX7_bringEvents 46 = .ok (.getfield 145, 3) := by decide +kernel
theorem dX7_bringEvents_49 : decode cX7_bringEvents 49 = .ok (.ifCond .ne 22, 3) := by decide +kernel
theorem dX7_bringEvents_52 : decode cX7_bringEvents 52 = .ok (.aload_n 0, 1) := by decide +kernel
theorem dX7_bringEvents_53 : decode cX7_bringEvents 53 = .ok (.aload_n 0, 1) := by decide +kernel
theorem dX7_bringEvents_54 : decode cX7_bringEvents 54 = .ok (.getfield 26, 3) := by decide +kernel
theorem dX7_bringEvents_57 : decode cX7_bringEvents 57 = .ok (.getfield 225, 3) := by decide +kernel
theorem dX7_bringEvents_60 : decode cX7_bringEvents 60 = .ok (.iload_n 3, 1) := by decide +kernel
theorem dX7_bringEvents_61 : decode cX7_bringEvents 61 = .ok (.iaload, 1) := by decide +kernel
theorem dX7_bringEvents_62 : decode cX7_bringEvents 62 = .ok (.invokevirtual 228, 3) := by decide +kernel
theorem dX7_bringEvents_65 : decode cX7_bringEvents 65 = .ok (.iinc 3 1, 3) := by decide +kernel
theorem dX7_bringEvents_68 : decode cX7_bringEvents 68 = .ok (.goto (-28), 3) := by decide +kernel
theorem dX7_bringEvents_71 : decode cX7_bringEvents 71 = .ok (.return_, 1) := by decide +kernel
theorem dX7_lineUpEvents_0 : decode cX7_lineUpEvents 0 = .ok (.iconst 0, 1) := by decide +kernel
theorem dX7_lineUpEvents_1 : decode cX7_lineUpEvents 1 = .ok (.istore_n 2, 1) := by decide +kernel
theorem dX7_lineUpEvents_2 : decode cX7_lineUpEvents 2 = .ok (.iconst 0, 1) := by decide +kernel
theorem dX7_lineUpEvents_3 : decode cX7_lineUpEvents 3 = .ok (.istore_n 3, 1) := by decide +kernel
theorem dX7_lineUpEvents_4 : decode cX7_lineUpEvents 4 = .ok (.iload_n 3, 1) := by decide +kernel
theorem dX7_lineUpEvents_5 : decode cX7_lineUpEvents 5 = .ok (.aload_n 0, 1) := by decide +kernel
theorem dX7_lineUpEvents_6 : decode cX7_lineUpEvents 6 = .ok (.getfield 26, 3) := by decide +kernel
theorem dX7_lineUpEvents_9 : decode cX7_lineUpEvents 9 = .ok (.getfield 177, 3) := by decide +kernel
theorem dX7_lineUpEvents_12 : decode cX7_lineUpEvents 12 = .ok (.if_icmp .ge 56, 3) := by decide +kernel
theorem dX7_lineUpEvents_15 : decode cX7_lineUpEvents 15 = .ok (.aload_n 0, 1) := by decide +kernel
theorem dX7_lineUpEvents_16 : decode cX7_lineUpEvents 16 = .ok (.aload_n 0, 1) := by decide +kernel
theorem dX7_lineUpEvents_17 : decode cX7_lineUpEvents 17 = .ok (.getfield 26, 3) := by decide +kernel
theorem dX7_lineUpEvents_20 : decode cX7_lineUpEvents 20 = .ok (.getfield 212, 3) := by decide +kernel
theorem dX7_lineUpEvents_23 : decode cX7_lineUpEvents 23 = .ok (.iload_n 3, 1) := by decide +kernel
theorem dX7_lineUpEvents_24 : decode cX7_lineUpEvents 24 = .ok (.iaload, 1) := by decide +kernel
theorem dX7_lineUpEvents_25 : decode cX7_lineUpEvents 25 = .ok (.invokevirtual 215, 3) := by decide +kernel
theorem dX7_lineUpEvents_28 : decode cX7_lineUpEvents 28 = .ok (.istore 4, 2) := by decide +kernel
theorem dX7_lineUpEvents_30 : decode cX7_lineUpEvents 30 = .ok (.aload_n 0, 1) := by decide +kernel
theorem dX7_lineUpEvents_31 : decode cX7_lineUpEvents 31 = .ok (.getfield 47, 3) := by decide +kernel
theorem dX7_lineUpEvents_34 : decode cX7_lineUpEvents 34 = .ok (.getfield 196, 3) := by decide +kernel
theorem dX7_lineUpEvents_37 : decode cX7_lineUpEvents 37 = .ok (.iload_n 3, 1) := by decide +kernel
theorem dX7_lineUpEvents_38 : decode cX7_lineUpEvents 38 = .ok (.baload, 1) := by decide +kernel
theorem dX7_lineUpEvents_39 : decode cX7_lineUpEvents 39 = .ok (.ifCond .ne 23, 3) := by decide +kernel
theorem dX7_lineUpEvents_42 : decode cX7_lineUpEvents 42 = .ok (.iload 4, 2) := by decide +kernel
theorem dX7_lineUpEvents_44 : decode cX7_lineUpEvents 44 = .ok (.iload_n 1, 1) := by decide +kernel
theorem dX7_lineUpEvents_45 : decode cX7_lineUpEvents 45 = .ok (.if_icmp .gt 17, 3) := by decide +kernel
theorem dX7_lineUpEvents_48 : decode cX7_lineUpEvents 48 = .ok (.aload_n 0, 1) := by decide +kernel
theorem dX7_lineUpEvents_49 : decode cX7_lineUpEvents 49 = .ok (.getfield 26, 3) := by decide +kernel
theorem dX7_lineUpEvents_52 : decode cX7_lineUpEvents 52 = .ok (.iload_n 3, 1) := by decide +kernel
theorem dX7_lineUpEvents_53 : decode cX7_lineUpEvents 53 = .ok (.iload 4, 2) := by decide +kernel
theorem dX7_lineUpEvents_55 : decode cX7_lineUpEvents 55 = .ok (.iload_n 2, 1) := by decide +kernel
theorem dX7_lineUpEvents_56 : decode cX7_lineUpEvents 56 = .ok (.invokevirtual 231, 3) := by decide +kernel
theorem dX7_lineUpEvents_59 : decode cX7_lineUpEvents 59 = .ok (.iinc 2 1, 3) := by decide +kernel
theorem dX7_lineUpEvents_62 : decode cX7_lineUpEvents 62 = .ok (.iinc 3 1, 3) := by decide +kernel
theorem dX7_lineUpEvents_65 : decode cX7_lineUpEvents 65 = .ok (.goto (-61), 3) := by decide +kernel
theorem dX7_lineUpEvents_68 : decode cX7_lineUpEvents 68 = .ok (.iload_n 2, 1) := by decide +kernel
theorem dX7_lineUpEvents_69 : decode cX7_lineUpEvents 69 = .ok (.ireturn, 1) := by decide +kernel
theorem dX7_bringEvent_0 : decode cX7_bringEvent 0 = .ok (.aload_n 0, 1) := by decide +kernel
theorem dX7_bringEvent_1 : decode cX7_bringEvent 1 = .ok (.getfield 47, 3) := by decide +kernel
theorem dX7_bringEvent_4 : decode cX7_bringEvent 4 = .ok (.getfield 196, 3) := by decide +kernel
theorem dX7_bringEvent_7 : decode cX7_bringEvent 7 = .ok (.iload_n 1, 1) := by decide +kernel
theorem dX7_bringEvent_8 : decode cX7_bringEvent 8 = .ok (.aload_n 0, 1) := by decide +kernel
theorem dX7_bringEvent_9 : decode cX7_bringEvent 9 = .ok (.getfield 26, 3) := by decide +kernel
theorem dX7_bringEvent_12 : decode cX7_bringEvent 12 = .ok (.getfield 235, 3) := by decide +kernel
theorem dX7_bringEvent_15 : decode cX7_bringEvent 15 = .ok (.iload_n 1, 1) := by decide +kernel
theorem dX7_bringEvent_16 : decode cX7_bringEvent 16 = .ok (.baload, 1) := by decide +kernel
theorem dX7_bringEvent_17 : decode cX7_bringEvent 17 = .ok (.ifCond .ne 7, 3) := by decide +kernel
theorem dX7_bringEvent_20 : decode cX7_bringEvent 20 = .ok (.iconst 1, 1) := by decide +kernel
theorem dX7_bringEvent_21 : decode cX7_bringEvent 21 = .ok (.goto 4, 3) := by decide +kernel
theorem dX7_bringEvent_24 : decode cX7_bringEvent 24 = .ok (.iconst 0, 1) := by decide +kernel
theorem dX7_bringEvent_25 : decode cX7_bringEvent 25 = .ok (.bastore, 1) := by decide +kernel
theorem dX7_bringEvent_26 : decode cX7_bringEvent 26 = .ok (.aload_n 0, 1) := by decide +kernel
theorem dX7_bringEvent_27 : decode cX7_bringEvent 27 = .ok (.getfield 47, 3) := by decide +kernel
theorem dX7_bringEvent_30 : decode cX7_bringEvent 30 = .ok (.iconst 0, 1) := by decide +kernel
theorem dX7_bringEvent_31 : decode cX7_bringEvent 31 = .ok (.iload_n 1, 1) := by decide +kernel
theorem dX7_bringEvent_32 : decode cX7_bringEvent 32 = .ok (.invokevirtual 238, 3) := by decide +kernel
theorem dX7_bringEvent_35 : decode cX7_bringEvent 35 = .ok (.aload_n 0, 1) := by decide +kernel
theorem dX7_bringEvent_36 : decode cX7_bringEvent 36 = .ok (.aload_n 0, 1) := by decide +kernel
theorem dX7_bringEvent_37 : decode cX7_bringEvent 37 = .ok (.getfield 26, 3) := by decide +kernel
theorem dX7_bringEvent_40 : decode cX7_bringEvent 40 = .ok (.getfield 242, 3) := by decide +kernel
theorem dX7_bringEvent_43 : decode cX7_bringEvent 43 = .ok (.iload_n 1, 1) := by decide +kernel
theorem dX7_bringEvent_44 : decode cX7_bringEvent 44 = .ok (.iaload, 1) := by decide +kernel
theorem dX7_bringEvent_45 : decode cX7_bringEvent 45 = .ok (.invokevirtual 129, 3) := by decide +kernel
theorem dX7_bringEvent_48 : decode cX7_bringEvent 48 = .ok (.pop, 1) := by decide +kernel
theorem dX7_bringEvent_49 : decode cX7_bringEvent 49 = .ok (.return_, 1) := by decide +kernel
theorem dX7_runTimers_0 : decode cX7_runTimers 0 = .ok (.iconst 0, 1) := by decide +kernel
theorem dX7_runTimers_1 : decode cX7_runTimers 1 = .ok (.istore_n 1, 1) := by decide +kernel
theorem dX7_runTimers_2 : decode cX7_runTimers 2 = .ok (.iload_n 1, 1) := by decide +kernel
theorem dX7_runTimers_3 : decode cX7_runTimers 3 = .ok (.aload_n 0, 1) := by decide +kernel
theorem dX7_runTimers_4 : decode cX7_runTimers 4 = .ok (.getfield 33, 3) := by decide +kernel
theorem dX7_runTimers_7 : decode cX7_runTimers 7 = .ok (.getfield 178, 3) := by decide +kernel
theorem dX7_runTimers_10 : decode cX7_runTimers 10 = .ok (.if_icmp .ge 16, 3) := by decide +kernel
theorem dX7_runTimers_13 : decode cX7_runTimers 13 = .ok (.aload_n 0, 1) := by decide +kernel
theorem dX7_runTimers_14 : decode cX7_runTimers 14 = .ok (.getfield 58, 3) := by decide +kernel
theorem dX7_runTimers_17 : decode cX7_runTimers 17 = .ok (.iload_n 1, 1) := by decide +kernel
theorem dX7_runTimers_18 : decode cX7_runTimers 18 = .ok (.iconst 0, 1) := by decide +kernel
theorem dX7_runTimers_19 : decode cX7_runTimers 19 = .ok (.bastore, 1) := by decide +kernel
theorem dX7_runTimers_20 : decode cX7_runTimers 20 = .ok (.iinc 1 1, 3) := by decide +kernel
theorem dX7_runTimers_23 : decode cX7_runTimers 23 = .ok (.goto (-21), 3) := by decide +kernel
theorem dX7_runTimers_26 : decode cX7_runTimers 26 = .ok (.iconst 0, 1) := by decide +kernel
theorem dX7_runTimers_27 : decode cX7_runTimers 27 = .ok (.istore_n 1, 1) := by decide +kernel
theorem dX7_runTimers_28 : decode cX7_runTimers 28 = .ok (.iload_n 1, 1) := by decide +kernel
theorem dX7_runTimers_29 : decode cX7_runTimers 29 = .ok (.aload_n 0, 1) := by decide +kernel
theorem dX7_runTimers_30 : decode cX7_runTimers 30 = .ok (.getfield 33, 3) := by decide +kernel
theorem dX7_runTimers_33 : decode cX7_runTimers 33 = .ok (.getfield 178, 3) := by decide +kernel
theorem dX7_runTimers_36 : decode cX7_runTimers 36 = .ok (.if_icmp .ge 42, 3) := by decide +kernel
theorem dX7_runTimers_39 : decode cX7_runTimers 39 = .ok (.aload_n 0, 1) := by decide +kernel
theorem dX7_runTimers_40 : decode cX7_runTimers 40 = .ok (.getfield 145, 3) := by decide +kernel
theorem dX7_runTimers_43 : decode cX7_runTimers 43 = .ok (.ifCond .ne 35, 3) := by decide +kernel
theorem dX7_runTimers_46 : decode cX7_runTimers 46 = .ok (.aload_n 0, 1) := by decide +kernel
theorem dX7_runTimers_47 : decode cX7_runTimers 47 = .ok (.getfield 47, 3) := by decide +kernel
theorem dX7_runTimers_50 : decode cX7_runTimers 50 = .ok (.getfield 183, 3) := by decide +kernel
theorem dX7_runTimers_53 : decode cX7_runTimers 53 = .ok (.iload_n 1, 1) := by decide +kernel
theorem dX7_runTimers_54 : decode cX7_runTimers 54 = .ok (.iaload, 1) := by decide +kernel
theorem dX7_runTimers_55 : decode cX7_runTimers 55 = .ok (.ifCond .le 17, 3) := by decide +kernel
theorem dX7_runTimers_58 : decode cX7_runTimers 58 = .ok (.aload_n 0, 1) := by decide +kernel
theorem dX7_runTimers_59 : decode cX7_runTimers 59 = .ok (.getfield 58, 3) := by decide +kernel
theorem dX7_runTimers_62 : decode cX7_runTimers 62 = .ok (.iload_n 1, 1) := by decide +kernel
theorem dX7_runTimers_63 : decode cX7_runTimers 63 = .ok (.baload, 1) := by decide +kernel
theorem dX7_runTimers_64 : decode cX7_runTimers 64 = .ok (.ifCond .ne 8, 3) := by decide +kernel
theorem dX7_runTimers_67 : decode cX7_runTimers 67 = .ok (.aload_n 0, 1) := by decide +kernel
theorem dX7_runTimers_68 : decode cX7_runTimers 68 = .ok (.iload_n 1, 1) := by decide +kernel
theorem dX7_runTimers_69 : decode cX7_runTimers 69 = .ok (.invokevirtual 245, 3) := by decide +kernel
theorem dX7_runTimers_72 : decode cX7_runTimers 72 = .ok (.iinc 1 1, 3) := by decide +kernel
theorem dX7_runTimers_75 : decode cX7_runTimers 75 = .ok (.goto (-47), 3) := by decide +kernel
theorem dX7_runTimers_78 : decode cX7_runTimers 78 = .ok (.return_, 1) := by decide +kernel
theorem dX7_runTimer_0 : decode cX7_runTimer 0 = .ok (.aload_n 0, 1) := by decide +kernel
theorem dX7_runTimer_1 : decode cX7_runTimer 1 = .ok (.getfield 47, 3) := by decide +kernel
theorem dX7_runTimer_4 : decode cX7_runTimer 4 = .ok (.getfield 183, 3) := by decide +kernel
theorem dX7_runTimer_7 : decode cX7_runTimer 7 = .ok (.iload_n 1, 1) := by decide +kernel
theorem dX7_runTimer_8 : decode cX7_runTimer 8 = .ok (.dup2, 1) := by decide +kernel
theorem dX7_runTimer_9 : decode cX7_runTimer 9 = .ok (.iaload, 1) := by decide +kernel
theorem dX7_runTimer_10 : decode cX7_runTimer 10 = .ok (.iconst 1, 1) := by decide +kernel
theorem dX7_runTimer_11 : decode cX7_runTimer 11 = .ok (.isub, 1) := by decide +kernel
theorem dX7_runTimer_12 : decode cX7_runTimer 12 = .ok (.iastore, 1) := by decide +kernel
theorem dX7_runTimer_13 : decode cX7_runTimer 13 = .ok (.aload_n 0, 1) := by decide +kernel
theorem dX7_runTimer_14 : decode cX7_runTimer 14 = .ok (.getfield 47, 3) := by decide +kernel
theorem dX7_runTimer_17 : decode cX7_runTimer 17 = .ok (.getfield 183, 3) := by decide +kernel
theorem dX7_runTimer_20 : decode cX7_runTimer 20 = .ok (.iload_n 1, 1) := by decide +kernel
theorem dX7_runTimer_21 : decode cX7_runTimer 21 = .ok (.iaload, 1) := by decide +kernel
theorem dX7_runTimer_22 : decode cX7_runTimer 22 = .ok (.ifCond .le 4, 3) := by decide +kernel
theorem dX7_runTimer_25 : decode cX7_runTimer 25 = .ok (.return_, 1) := by decide +kernel
theorem dX7_runTimer_26 : decode cX7_runTimer 26 = .ok (.aload_n 0, 1) := by decide +kernel
theorem dX7_runTimer_27 : decode cX7_runTimer 27 = .ok (.getfield 33, 3) := by decide +kernel
theorem dX7_runTimer_30 : decode cX7_runTimer 30 = .ok (.getfield 248, 3) := by decide +kernel
theorem dX7_runTimer_33 : decode cX7_runTimer 33 = .ok (.iload_n 1, 1) := by decide +kernel
theorem dX7_runTimer_34 : decode cX7_runTimer 34 = .ok (.baload, 1) := by decide +kernel
theorem dX7_runTimer_35 : decode cX7_runTimer 35 = .ok (.ifCond .eq 21, 3) := by decide +kernel
theorem dX7_runTimer_38 : decode cX7_runTimer 38 = .ok (.aload_n 0, 1) := by decide +kernel
theorem dX7_runTimer_39 : decode cX7_runTimer 39 = .ok (.getfield 47, 3) := by decide +kernel
theorem dX7_runTimer_42 : decode cX7_runTimer 42 = .ok (.getfield 183, 3) := by decide +kernel
theorem dX7_runTimer_45 : decode cX7_runTimer 45 = .ok (.iload_n 1, 1) := by decide +kernel
theorem dX7_runTimer_46 : decode cX7_runTimer 46 = .ok (.aload_n 0, 1) := by decide +kernel
theorem dX7_runTimer_47 : decode cX7_runTimer 47 = .ok (.getfield 33, 3) := by decide +kernel
theorem dX7_runTimer_50 : decode cX7_runTimer 50 = .ok (.getfield 251, 3) := by decide +kernel
theorem dX7_runTimer_53 : decode cX7_runTimer 53 = .ok (.iload_n 1, 1) := by decide +kernel
theorem dX7_runTimer_54 : decode cX7_runTimer 54 = .ok (.iaload, 1) := by decide +kernel
theorem dX7_runTimer_55 : decode cX7_runTimer 55 = .ok (.iastore, 1) := by decide +kernel
theorem dX7_runTimer_56 : decode cX7_runTimer 56 = .ok (.aload_n 0, 1) := by decide +kernel
theorem dX7_runTimer_57 : decode cX7_runTimer 57 = .ok (.getfield 47, 3) := by decide +kernel
theorem dX7_runTimer_60 : decode cX7_runTimer 60 = .ok (.iconst 1, 1) := by decide +kernel
theorem dX7_runTimer_61 : decode cX7_runTimer 61 = .ok (.iload_n 1, 1) := by decide +kernel
theorem dX7_runTimer_62 : decode cX7_runTimer 62 = .ok (.invokevirtual 238, 3) := by decide +kernel
theorem dX7_runTimer_65 : decode cX7_runTimer 65 = .ok (.aload_n 0, 1) := by decide +kernel
theorem dX7_runTimer_66 : decode cX7_runTimer 66 = .ok (.aload_n 0, 1) := by decide +kernel
theorem dX7_runTimer_67 : decode cX7_runTimer 67 = .ok (.getfield 33, 3) := by decide +kernel
theorem dX7_runTimer_70 : decode cX7_runTimer 70 = .ok (.getfield 254, 3) := by decide +kernel
theorem dX7_runTimer_73 : decode cX7_runTimer 73 = .ok (.iload_n 1, 1) := by decide +kernel
theorem dX7_runTimer_74 : decode cX7_runTimer 74 = .ok (.iaload, 1) := by decide +kernel
theorem dX7_runTimer_75 : decode cX7_runTimer 75 = .ok (.invokevirtual 129, 3) := by decide +kernel
theorem dX7_runTimer_78 : decode cX7_runTimer 78 = .ok (.pop, 1) := by decide +kernel
theorem dX7_runTimer_79 : decode cX7_runTimer 79 = .ok (.return_, 1) := by decide +kernel
theorem dX7_runDaemons_0 : decode cX7_runDaemons 0 = .ok (.iconst 0, 1) := by decide +kernel
theorem dX7_runDaemons_1 : decode cX7_runDaemons 1 = .ok (.istore_n 1, 1) := by decide +kernel
theorem dX7_runDaemons_2 : decode cX7_runDaemons 2 = .ok (.iload_n 1, 1) := by decide +kernel
theorem dX7_runDaemons_3 : decode cX7_runDaemons 3 = .ok (.bipush 9, 2) := by decide +kernel
theorem dX7_runDaemons_5 : decode cX7_runDaemons 5 = .ok (.if_icmp .gt 14, 3) := by decide +kernel
theorem dX7_runDaemons_8 : decode cX7_runDaemons 8 = .ok (.aload_n 0, 1) := by decide +kernel
theorem dX7_runDaemons_9 : decode cX7_runDaemons 9 = .ok (.iload_n 1, 1) := by decide +kernel
theorem dX7_runDaemons_10 : decode cX7_runDaemons 10 = .ok (.invokevirtual 255, 3) := by decide +kernel
theorem dX7_runDaemons_13 : decode cX7_runDaemons 13 = .ok (.iinc 1 1, 3) := by decide +kernel
theorem dX7_runDaemons_16 : decode cX7_runDaemons 16 = .ok (.goto (-14), 3) := by decide +kernel
theorem dX7_runDaemons_19 : decode cX7_runDaemons 19 = .ok (.return_, 1) := by decide +kernel
theorem dX7_runDaemonsOf_0 : decode cX7_runDaemonsOf 0 = .ok (.iconst 0, 1) := by decide +kernel
theorem dX7_runDaemonsOf_1 : decode cX7_runDaemonsOf 1 = .ok (.istore_n 2, 1) := by decide +kernel
theorem dX7_runDaemonsOf_2 : decode cX7_runDaemonsOf 2 = .ok (.iload_n 2, 1) := by decide +kernel
theorem dX7_runDaemonsOf_3 : decode cX7_runDaemonsOf 3 = .ok (.aload_n 0, 1) := by decide +kernel
theorem dX7_runDaemonsOf_4 : decode cX7_runDaemonsOf 4 = .ok (.getfield 40, 3) := by decide +kernel
theorem dX7_runDaemonsOf_7 : decode cX7_runDaemonsOf 7 = .ok (.getfield 179, 3) := by decide +kernel
theorem dX7_runDaemonsOf_10 : decode cX7_runDaemonsOf 10 = .ok (.if_icmp .ge 64, 3) := by decide +kernel
theorem dX7_runDaemonsOf_13 : decode cX7_runDaemonsOf 13 = .ok (.aload_n 0, 1) := by decide +kernel
theorem dX7_runDaemonsOf_14 : decode cX7_runDaemonsOf 14 = .ok (.getfield 145, 3) := by decide +kernel
theorem dX7_runDaemonsOf_17 : decode cX7_runDaemonsOf 17 = .ok (.ifCond .ne 57, 3) := by decide +kernel
theorem dX7_runDaemonsOf_20 : decode cX7_runDaemonsOf 20 = .ok (.aload_n 0, 1) := by decide +kernel
theorem dX7_runDaemonsOf_21 : decode cX7_runDaemonsOf 21 = .ok (.getfield 40, 3) := by decide +kernel
theorem dX7_runDaemonsOf_24 : decode cX7_runDaemonsOf 24 = .ok (.getfield 258, 3) := by decide +kernel
theorem dX7_runDaemonsOf_27 : decode cX7_runDaemonsOf 27 = .ok (.iload_n 2, 1) := by decide +kernel
theorem dX7_runDaemonsOf_28 : decode cX7_runDaemonsOf 28 = .ok (.iaload, 1) := by decide +kernel
theorem dX7_runDaemonsOf_29 : decode cX7_runDaemonsOf 29 = .ok (.iload_n 1, 1) := by decide +kernel
theorem dX7_runDaemonsOf_30 : decode cX7_runDaemonsOf 30 = .ok (.if_icmp .ne 38, 3) := by decide +kernel
theorem dX7_runDaemonsOf_33 : decode cX7_runDaemonsOf 33 = .ok (.aload_n 0, 1) := by decide +kernel
theorem dX7_runDaemonsOf_34 : decode cX7_runDaemonsOf 34 = .ok (.getfield 47, 3) := by decide +kernel
theorem dX7_runDaemonsOf_37 : decode cX7_runDaemonsOf 37 = .ok (.getfield 186, 3) := by decide +kernel
theorem dX7_runDaemonsOf_40 : decode cX7_runDaemonsOf 40 = .ok (.iload_n 2, 1) := by decide +kernel
theorem dX7_runDaemonsOf_41 : decode cX7_runDaemonsOf 41 = .ok (.baload, 1) := by decide +kernel
theorem dX7_runDaemonsOf_42 : decode cX7_runDaemonsOf 42 = .ok (.ifCond .eq 26, 3) := by decide +kernel
theorem dX7_runDaemonsOf_45 : decode cX7_runDaemonsOf 45 = .ok (.aload_n 0, 1) := by decide +kernel
theorem dX7_runDaemonsOf_46 : decode cX7_runDaemonsOf 46 = .ok (.getfield 47, 3) := by decide +kernel
theorem dX7_runDaemonsOf_49 : decode cX7_runDaemonsOf 49 = .ok (.iconst 2, 1) := by decide +kernel
theorem dX7_runDaemonsOf_50 : decode cX7_runDaemonsOf 50 = .ok (.iload_n 2, 1) := by decide +kernel
theorem dX7_runDaemonsOf_51 : decode cX7_runDaemonsOf 51 = .ok (.invokevirtual 238, 3) := by decide +kernel
theorem dX7_runDaemonsOf_54 : decode cX7_runDaemonsOf 54 = .ok (.aload_n 0, 1) := by decide +kernel
theorem dX7_runDaemonsOf_55 : decode cX7_runDaemonsOf 55 = .ok (.aload_n 0, 1) := by decide +kernel
theorem dX7_runDaemonsOf_56 : decode cX7_runDaemonsOf 56 = .ok (.getfield 40, 3) := by decide +kernel
theorem dX7_runDaemonsOf_59 : decode cX7_runDaemonsOf 59 = .ok (.getfield 261, 3) := by decide +kernel
theorem dX7_runDaemonsOf_62 : decode cX7_runDaemonsOf 62 = .ok (.iload_n 2, 1) := by decide +kernel
theorem dX7_runDaemonsOf_63 : decode cX7_runDaemonsOf 63 = .ok (.iaload, 1) := by decide +kernel
theorem dX7_runDaemonsOf_64 : decode cX7_runDaemonsOf 64 = .ok (.invokevirtual 129, 3) := by decide +kernel
theorem dX7_runDaemonsOf_67 : decode cX7_runDaemonsOf 67 = .ok (.pop, 1) := by decide +kernel
theorem dX7_runDaemonsOf_68 : decode cX7_runDaemonsOf 68 = .ok (.iinc 2 1, 3) := by decide +kernel
theorem dX7_runDaemonsOf_71 : decode cX7_runDaemonsOf 71 = .ok (.goto (-69), 3) := by decide +kernel
theorem dX7_runDaemonsOf_74 : decode cX7_runDaemonsOf 74 = .ok (.return_, 1) := by decide +kernel
theorem dX7_moveWalkers_0 : decode cX7_moveWalkers 0 = .ok (.iconst 0, 1) := by decide +kernel
theorem dX7_moveWalkers_1 : decode cX7_moveWalkers 1 = .ok (.istore_n 1, 1) := by decide +kernel
theorem dX7_moveWalkers_2 : decode cX7_moveWalkers 2 = .ok (.iload_n 1, 1) := by decide +kernel
theorem dX7_moveWalkers_3 : decode cX7_moveWalkers 3 = .ok (.aload_n 0, 1) := by decide +kernel
theorem dX7_moveWalkers_4 : decode cX7_moveWalkers 4 = .ok (.getfield 12, 3) := by decide +kernel
theorem dX7_moveWalkers_7 : decode cX7_moveWalkers 7 = .ok (.getfield 85, 3) := by decide +kernel
theorem dX7_moveWalkers_10 : decode cX7_moveWalkers 10 = .ok (.if_icmp .ge 34, 3) := by decide +kernel
theorem dX7_moveWalkers_13 : decode cX7_moveWalkers 13 = .ok (.aload_n 0, 1) := by decide +kernel
theorem dX7_moveWalkers_14 : decode cX7_moveWalkers 14 = .ok (.getfield 145, 3) := by decide +kernel
theorem dX7_moveWalkers_17 : decode cX7_moveWalkers 17 = .ok (.ifCond .ne 27, 3) := by decide +kernel
theorem dX7_moveWalkers_20 : decode cX7_moveWalkers 20 = .ok (.aload_n 0, 1) := by decide +kernel
theorem dX7_moveWalkers_21 : decode cX7_moveWalkers 21 = .ok (.getfield 47, 3) := by decide +kernel
theorem dX7_moveWalkers_24 : decode cX7_moveWalkers 24 = .ok (.getfield 92, 3) := by decide +kernel
theorem dX7_moveWalkers_27 : decode cX7_moveWalkers 27 = .ok (.iload_n 1, 1) := by decide +kernel
theorem dX7_moveWalkers_28 : decode cX7_moveWalkers 28 = .ok (.iaload, 1) := by decide +kernel
theorem dX7_moveWalkers_29 : decode cX7_moveWalkers 29 = .ok (.iconst (-1), 1) := by decide +kernel
theorem dX7_moveWalkers_30 : decode cX7_moveWalkers 30 = .ok (.if_icmp .eq 8, 3) := by decide +kernel
theorem dX7_moveWalkers_33 : decode cX7_moveWalkers 33 = .ok (.aload_n 0, 1) := by decide +kernel
theorem dX7_moveWalkers_34 : decode cX7_moveWalkers 34 = .ok (.iload_n 1, 1) := by decide +kernel
theorem dX7_moveWalkers_35 : decode cX7_moveWalkers 35 = .ok (.invokevirtual 262, 3) := by decide +kernel
theorem dX7_moveWalkers_38 : decode cX7_moveWalkers 38 = .ok (.iinc 1 1, 3) := by decide +kernel
theorem dX7_moveWalkers_41 : decode cX7_moveWalkers 41 = .ok (.goto (-39), 3) := by decide +kernel
theorem dX7_moveWalkers_44 : decode cX7_moveWalkers 44 = .ok (.return_, 1) := by decide +kernel
theorem dX7_moveWalker_0 : decode cX7_moveWalker 0 = .ok (.aload_n 0, 1) := by decide +kernel
theorem dX7_moveWalker_1 : decode cX7_moveWalker 1 = .ok (.getfield 12, 3) := by decide +kernel
theorem dX7_moveWalker_4 : decode cX7_moveWalker 4 = .ok (.aload_n 0, 1) := by decide +kernel
theorem dX7_moveWalker_5 : decode cX7_moveWalker 5 = .ok (.getfield 47, 3) := by decide +kernel
theorem dX7_moveWalker_8 : decode cX7_moveWalker 8 = .ok (.getfield 88, 3) := by decide +kernel
theorem dX7_moveWalker_11 : decode cX7_moveWalker 11 = .ok (.iload_n 1, 1) := by decide +kernel
theorem dX7_moveWalker_12 : decode cX7_moveWalker 12 = .ok (.iaload, 1) := by decide +kernel
theorem dX7_moveWalker_13 : decode cX7_moveWalker 13 = .ok (.aload_n 0, 1) := by decide +kernel
theorem dX7_moveWalker_14 : decode cX7_moveWalker 14 = .ok (.getfield 47, 3) := by decide +kernel
theorem dX7_moveWalker_17 : decode cX7_moveWalker 17 = .ok (.getfield 92, 3) := by decide +kernel
theorem dX7_moveWalker_20 : decode cX7_moveWalker 20 = .ok (.iload_n 1, 1) := by decide +kernel
theorem dX7_moveWalker_21 : decode cX7_moveWalker 21 = .ok (.iaload, 1) := by decide +kernel
theorem dX7_moveWalker_22 : decode cX7_moveWalker 22 = .ok (.aload_n 0, 1) := by decide +kernel
theorem dX7_moveWalker_23 : decode cX7_moveWalker 23 = .ok (.getfield 47, 3) := by decide +kernel
theorem dX7_moveWalker_26 : decode cX7_moveWalker 26 = .ok (.getfield 193, 3) := by decide +kernel
theorem dX7_moveWalker_29 : decode cX7_moveWalker 29 = .ok (.invokevirtual 265, 3) := by decide +kernel
theorem dX7_moveWalker_32 : decode cX7_moveWalker 32 = .ok (.istore_n 2, 1) := by decide +kernel
theorem dX7_moveWalker_33 : decode cX7_moveWalker 33 = .ok (.iload_n 2, 1) := by decide +kernel
theorem dX7_moveWalker_34 : decode cX7_moveWalker 34 = .ok (.iconst (-1), 1) := by decide +kernel
theorem dX7_moveWalker_35 : decode cX7_moveWalker 35 = .ok (.if_icmp .ne 4, 3) := by decide +kernel
theorem dX7_moveWalker_38 : decode cX7_moveWalker 38 = .ok (.return_, 1) := by decide +kernel
theorem dX7_moveWalker_39 : decode cX7_moveWalker 39 = .ok (.aload_n 0, 1) := by decide +kernel
theorem dX7_moveWalker_40 : decode cX7_moveWalker 40 = .ok (.getfield 47, 3) := by decide +kernel
theorem dX7_moveWalker_43 : decode cX7_moveWalker 43 = .ok (.getfield 88, 3) := by decide +kernel
theorem dX7_moveWalker_46 : decode cX7_moveWalker 46 = .ok (.iload_n 1, 1) := by decide +kernel
theorem dX7_moveWalker_47 : decode cX7_moveWalker 47 = .ok (.iload_n 2, 1) := by decide +kernel
theorem dX7_moveWalker_48 : decode cX7_moveWalker 48 = .ok (.iastore, 1) := by decide +kernel
theorem dX7_moveWalker_49 : decode cX7_moveWalker 49 = .ok (.iload_n 2, 1) := by decide +kernel
theorem dX7_moveWalker_50 : decode cX7_moveWalker 50 = .ok (.aload_n 0, 1) := by decide +kernel
theorem dX7_moveWalker_51 : decode cX7_moveWalker 51 = .ok (.getfield 47, 3) := by decide +kernel
theorem dX7_moveWalker_54 : decode cX7_moveWalker 54 = .ok (.getfield 92, 3) := by decide +kernel
theorem dX7_moveWalker_57 : decode cX7_moveWalker 57 = .ok (.iload_n 1, 1) := by decide +kernel
theorem dX7_moveWalker_58 : decode cX7_moveWalker 58 = .ok (.iaload, 1) := by decide +kernel
theorem dX7_moveWalker_59 : decode cX7_moveWalker 59 = .ok (.if_icmp .ne 13, 3) := by decide +kernel
theorem dX7_moveWalker_62 : decode cX7_moveWalker 62 = .ok (.aload_n 0, 1) := by decide +kernel
theorem dX7_moveWalker_63 : decode cX7_moveWalker 63 = .ok (.getfield 47, 3) := by decide +kernel
theorem dX7_moveWalker_66 : decode cX7_moveWalker 66 = .ok (.getfield 92, 3) := by decide +kernel
theorem dX7_moveWalker_69 : decode cX7_moveWalker 69 = .ok (.iload_n 1, 1) := by decide +kernel
theorem dX7_moveWalker_70 : decode cX7_moveWalker 70 = .ok (.iconst (-1), 1) := by decide +kernel
theorem dX7_moveWalker_71 : decode cX7_moveWalker 71 = .ok (.iastore, 1) := by decide +kernel
theorem dX7_moveWalker_72 : decode cX7_moveWalker 72 = .ok (.aload_n 0, 1) := by decide +kernel
theorem dX7_moveWalker_73 : decode cX7_moveWalker 73 = .ok (.getfield 47, 3) := by decide +kernel
theorem dX7_moveWalker_76 : decode cX7_moveWalker 76 = .ok (.iconst 3, 1) := by decide +kernel
theorem dX7_moveWalker_77 : decode cX7_moveWalker 77 = .ok (.iload_n 1, 1) := by decide +kernel
theorem dX7_moveWalker_78 : decode cX7_moveWalker 78 = .ok (.invokevirtual 238, 3) := by decide +kernel
theorem dX7_moveWalker_81 : decode cX7_moveWalker 81 = .ok (.return_, 1) := by decide +kernel
theorem dX7_doDeed_0 : decode cX7_doDeed 0 = .ok (.aload_n 0, 1) := by decide +kernel
theorem dX7_doDeed_1 : decode cX7_doDeed 1 = .ok (.getfield 19, 3) := by decide +kernel
theorem dX7_doDeed_4 : decode cX7_doDeed 4 = .ok (.getfield 113, 3) := by decide +kernel
theorem dX7_doDeed_7 : decode cX7_doDeed 7 = .ok (.iload_n 1, 1) := by decide +kernel
theorem dX7_doDeed_8 : decode cX7_doDeed 8 = .ok (.iaload, 1) := by decide +kernel
theorem dX7_doDeed_9 : decode cX7_doDeed 9 = .ok (.istore_n 2, 1) := by decide +kernel
theorem dX7_doDeed_10 : decode cX7_doDeed 10 = .ok (.iload_n 2, 1) := by decide +kernel
theorem dX7_doDeed_11 : decode cX7_doDeed 11 = .ok (.iconst (-1), 1) := by decide +kernel
theorem dX7_doDeed_12 : decode cX7_doDeed 12 = .ok (.if_icmp .eq 26, 3) := by decide +kernel
theorem dX7_doDeed_15 : decode cX7_doDeed 15 = .ok (.aload_n 0, 1) := by decide +kernel
theorem dX7_doDeed_16 : decode cX7_doDeed 16 = .ok (.getfield 47, 3) := by decide +kernel
theorem dX7_doDeed_19 : decode cX7_doDeed 19 = .ok (.getfield 180, 3) := by decide +kernel
theorem dX7_doDeed_22 : decode cX7_doDeed 22 = .ok (.iload_n 2, 1) := by decide +kernel
theorem dX7_doDeed_23 : decode cX7_doDeed 23 = .ok (.iaload, 1) := by decide +kernel
theorem dX7_doDeed_24 : decode cX7_doDeed 24 = .ok (.aload_n 0, 1) := by decide +kernel
theorem dX7_doDeed_25 : decode cX7_doDeed 25 = .ok (.getfield 19, 3) := by decide +kernel
theorem dX7_doDeed_28 : decode cX7_doDeed 28 = .ok (.getfield 116, 3) := by decide +kernel
theorem dX7_doDeed_31 : decode cX7_doDeed 31 = .ok (.iload_n 1, 1) := by decide +kernel
theorem dX7_doDeed_32 : decode cX7_doDeed 32 = .ok (.iaload, 1) := by decide +kernel
theorem dX7_doDeed_33 : decode cX7_doDeed 33 = .ok (.if_icmp .ge 5, 3) := by decide +kernel
theorem dX7_doDeed_36 : decode cX7_doDeed 36 = .ok (.iconst 0, 1) := by decide +kernel
theorem dX7_doDeed_37 : decode cX7_doDeed 37 = .ok (.ireturn, 1) := by decide +kernel
theorem dX7_doDeed_38 : decode cX7_doDeed 38 = .ok (.aload_n 0, 1) := by decide +kernel
theorem dX7_doDeed_39 : decode cX7_doDeed 39 = .ok (.aload_n 0, 1) := by decide +kernel
theorem dX7_doDeed_40 : decode cX7_doDeed 40 = .ok (.getfield 19, 3) := by decide +kernel
theorem dX7_doDeed_43 : decode cX7_doDeed 43 = .ok (.getfield 269, 3) := by decide +kernel
theorem dX7_doDeed_46 : decode cX7_doDeed 46 = .ok (.iload_n 1, 1) := by decide +kernel
theorem dX7_doDeed_47 : decode cX7_doDeed 47 = .ok (.iaload, 1) := by decide +kernel
theorem dX7_doDeed_48 : decode cX7_doDeed 48 = .ok (.aload_n 0, 1) := by decide +kernel
theorem dX7_doDeed_49 : decode cX7_doDeed 49 = .ok (.getfield 19, 3) := by decide +kernel
theorem dX7_doDeed_52 : decode cX7_doDeed 52 = .ok (.getfield 272, 3) := by decide +kernel
theorem dX7_doDeed_55 : decode cX7_doDeed 55 = .ok (.iload_n 1, 1) := by decide +kernel
theorem dX7_doDeed_56 : decode cX7_doDeed 56 = .ok (.iaload, 1) := by decide +kernel
theorem dX7_doDeed_57 : decode cX7_doDeed 57 = .ok (.aload_n 0, 1) := by decide +kernel
theorem dX7_doDeed_58 : decode cX7_doDeed 58 = .ok (.getfield 19, 3) := by decide +kernel
theorem dX7_doDeed_61 : decode cX7_doDeed 61 = .ok (.getfield 275, 3) := by decide +kernel
theorem dX7_doDeed_64 : decode cX7_doDeed 64 = .ok (.iload_n 1, 1) := by decide +kernel
theorem dX7_doDeed_65 : decode cX7_doDeed 65 = .ok (.iaload, 1) := by decide +kernel
theorem dX7_doDeed_66 : decode cX7_doDeed 66 = .ok (.invokevirtual 278, 3) := by decide +kernel
theorem dX7_doDeed_69 : decode cX7_doDeed 69 = .ok (.iconst 1, 1) := by decide +kernel
theorem dX7_doDeed_70 : decode cX7_doDeed 70 = .ok (.ireturn, 1) := by decide +kernel
theorem dX7_carryOut_0 : decode cX7_carryOut 0 = .ok (.iload_n 1, 1) := by decide +kernel
theorem dX7_carryOut_1 : decode cX7_carryOut 1 = .ok (.tableswitch 147 0 8 #[51, 63, 71, 79, 88, 97, 105, 114, 122], 51) := by decide +kernel
theorem dX7_carryOut_52 : decode cX7_carryOut 52 = .ok (.aload_n 0, 1) := by decide +kernel
theorem dX7_carryOut_53 : decode cX7_carryOut 53 = .ok (.getfield 47, 3) := by decide +kernel
theorem dX7_carryOut_56 : decode cX7_carryOut 56 = .ok (.iload_n 2, 1) := by decide +kernel
theorem dX7_carryOut_57 : decode cX7_carryOut 57 = .ok (.iload_n 3, 1) := by decide +kernel
theorem dX7_carryOut_58 : decode cX7_carryOut 58 = .ok (.invokevirtual 281, 3) := by decide +kernel
theorem dX7_carryOut_61 : decode cX7_carryOut 61 = .ok (.goto 87, 3) := by decide +kernel
theorem dX7_carryOut_64 : decode cX7_carryOut 64 = .ok (.aload_n 0, 1) := by decide +kernel
theorem dX7_carryOut_65 : decode cX7_carryOut 65 = .ok (.iload_n 2, 1) := by decide +kernel
theorem dX7_carryOut_66 : decode cX7_carryOut 66 = .ok (.invokevirtual 284, 3) := by decide +kernel
theorem dX7_carryOut_69 : decode cX7_carryOut 69 = .ok (.goto 79, 3) := by decide +kernel
theorem dX7_carryOut_72 : decode cX7_carryOut 72 = .ok (.aload_n 0, 1) := by decide +kernel
theorem dX7_carryOut_73 : decode cX7_carryOut 73 = .ok (.iload_n 2, 1) := by decide +kernel
theorem dX7_carryOut_74 : decode cX7_carryOut 74 = .ok (.invokevirtual 287, 3) := by decide +kernel
theorem dX7_carryOut_77 : decode cX7_carryOut 77 = .ok (.goto 71, 3) := by decide +kernel
theorem dX7_carryOut_80 : decode cX7_carryOut 80 = .ok (.aload_n 0, 1) := by decide +kernel
theorem dX7_carryOut_81 : decode cX7_carryOut 81 = .ok (.iload_n 2, 1) := by decide +kernel
theorem dX7_carryOut_82 : decode cX7_carryOut 82 = .ok (.iconst 1, 1) := by decide +kernel
theorem dX7_carryOut_83 : decode cX7_carryOut 83 = .ok (.invokevirtual 290, 3) := by decide +kernel
theorem dX7_carryOut_86 : decode cX7_carryOut 86 = .ok (.goto 62, 3) := by decide +kernel
theorem dX7_carryOut_89 : decode cX7_carryOut 89 = .ok (.aload_n 0, 1) := by decide +kernel
theorem dX7_carryOut_90 : decode cX7_carryOut 90 = .ok (.iload_n 2, 1) := by decide +kernel
theorem dX7_carryOut_91 : decode cX7_carryOut 91 = .ok (.iconst 0, 1) := by decide +kernel
theorem dX7_carryOut_92 : decode cX7_carryOut 92 = .ok (.invokevirtual 290, 3) := by decide +kernel
theorem dX7_carryOut_95 : decode cX7_carryOut 95 = .ok (.goto 53, 3) := by decide +kernel
theorem dX7_carryOut_98 : decode cX7_carryOut 98 = .ok (.aload_n 0, 1) := by decide +kernel
theorem dX7_carryOut_99 : decode cX7_carryOut 99 = .ok (.iload_n 2, 1) := by decide +kernel
theorem dX7_carryOut_100 : decode cX7_carryOut 100 = .ok (.invokevirtual 294, 3) := by decide +kernel
theorem dX7_carryOut_103 : decode cX7_carryOut 103 = .ok (.goto 45, 3) := by decide +kernel
theorem dX7_carryOut_106 : decode cX7_carryOut 106 = .ok (.aload_n 0, 1) := by decide +kernel
theorem dX7_carryOut_107 : decode cX7_carryOut 107 = .ok (.iload_n 2, 1) := by decide +kernel
theorem dX7_carryOut_108 : decode cX7_carryOut 108 = .ok (.iload_n 3, 1) := by decide +kernel
theorem dX7_carryOut_109 : decode cX7_carryOut 109 = .ok (.invokevirtual 297, 3) := by decide +kernel
theorem dX7_carryOut_112 : decode cX7_carryOut 112 = .ok (.goto 36, 3) := by decide +kernel
theorem dX7_carryOut_115 : decode cX7_carryOut 115 = .ok (.aload_n 0, 1) := by decide +kernel
theorem dX7_carryOut_116 : decode cX7_carryOut 116 = .ok (.iconst 1, 1) := by decide +kernel
theorem dX7_carryOut_117 : decode cX7_carryOut 117 = .ok (.putfield 145, 3) := by decide +kernel
theorem dX7_carryOut_120 : decode cX7_carryOut 120 = .ok (.goto 28, 3) := by decide +kernel
theorem dX7_carryOut_123 : decode cX7_carryOut 123 = .ok (.aload_n 0, 1) := by decide +kernel
theorem dX7_carryOut_124 : decode cX7_carryOut 124 = .ok (.getfield 47, 3) := by decide +kernel
theorem dX7_carryOut_127 : decode cX7_carryOut 127 = .ok (.aload_n 0, 1) := by decide +kernel
theorem dX7_carryOut_128 : decode cX7_carryOut 128 = .ok (.getfield 47, 3) := by decide +kernel
theorem dX7_carryOut_131 : decode cX7_carryOut 131 = .ok (.getfield 171, 3) := by decide +kernel
theorem dX7_carryOut_134 : decode cX7_carryOut 134 = .ok (.iload_n 3, 1) := by decide +kernel
theorem dX7_carryOut_135 : decode cX7_carryOut 135 = .ok (.iadd, 1) := by decide +kernel
theorem dX7_carryOut_136 : decode cX7_carryOut 136 = .ok (.sipush 600, 3) := by decide +kernel
theorem dX7_carryOut_139 : decode cX7_carryOut 139 = .ok (.invokestatic 300, 3) := by decide +kernel
theorem dX7_carryOut_142 : decode cX7_carryOut 142 = .ok (.putfield 171, 3) := by decide +kernel
theorem dX7_carryOut_145 : decode cX7_carryOut 145 = .ok (.goto 3, 3) := by decide +kernel
theorem dX7_carryOut_148 : decode cX7_carryOut 148 = .ok (.return_, 1) := by decide +kernel
theorem dX7_startTimer_0 : decode cX7_startTimer 0 = .ok (.iload_n 1, 1) := by decide +kernel
theorem dX7_startTimer_1 : decode cX7_startTimer 1 = .ok (.aload_n 0, 1) := by decide +kernel
theorem dX7_startTimer_2 : decode cX7_startTimer 2 = .ok (.getfield 33, 3) := by decide +kernel
theorem dX7_startTimer_5 : decode cX7_startTimer 5 = .ok (.getfield 178, 3) := by decide +kernel
theorem dX7_startTimer_8 : decode cX7_startTimer 8 = .ok (.invokestatic 74, 3) := by decide +kernel
theorem dX7_startTimer_11 : decode cX7_startTimer 11 = .ok (.ifCond .eq 28, 3) := by decide +kernel
theorem dX7_startTimer_14 : decode cX7_startTimer 14 = .ok (.aload_n 0, 1) := by decide +kernel
theorem dX7_startTimer_15 : decode cX7_startTimer 15 = .ok (.getfield 47, 3) := by decide +kernel
theorem dX7_startTimer_18 : decode cX7_startTimer 18 = .ok (.getfield 183, 3) := by decide +kernel
theorem dX7_startTimer_21 : decode cX7_startTimer 21 = .ok (.iload_n 1, 1) := by decide +kernel
theorem dX7_startTimer_22 : decode cX7_startTimer 22 = .ok (.aload_n 0, 1) := by decide +kernel
theorem dX7_startTimer_23 : decode cX7_startTimer 23 = .ok (.getfield 33, 3) := by decide +kernel
theorem dX7_startTimer_26 : decode cX7_startTimer 26 = .ok (.getfield 251, 3) := by decide +kernel
theorem dX7_startTimer_29 : decode cX7_startTimer 29 = .ok (.iload_n 1, 1) := by decide +kernel
theorem dX7_startTimer_30 : decode cX7_startTimer 30 = .ok (.iaload, 1) := by decide +kernel
theorem dX7_startTimer_31 : decode cX7_startTimer 31 = .ok (.iastore, 1) := by decide +kernel
theorem dX7_startTimer_32 : decode cX7_startTimer 32 = .ok (.aload_n 0, 1) := by decide +kernel
theorem dX7_startTimer_33 : decode cX7_startTimer 33 = .ok (.getfield 58, 3) := by decide +kernel
theorem dX7_startTimer_36 : decode cX7_startTimer 36 = .ok (.iload_n 1, 1) := by decide +kernel
theorem dX7_startTimer_37 : decode cX7_startTimer 37 = .ok (.iconst 1, 1) := by decide +kernel
theorem dX7_startTimer_38 : decode cX7_startTimer 38 = .ok (.bastore, 1) := by decide +kernel
theorem dX7_startTimer_39 : decode cX7_startTimer 39 = .ok (.return_, 1) := by decide +kernel
theorem dX7_stopTimer_0 : decode cX7_stopTimer 0 = .ok (.iload_n 1, 1) := by decide +kernel
theorem dX7_stopTimer_1 : decode cX7_stopTimer 1 = .ok (.aload_n 0, 1) := by decide +kernel
theorem dX7_stopTimer_2 : decode cX7_stopTimer 2 = .ok (.getfield 33, 3) := by decide +kernel
theorem dX7_stopTimer_5 : decode cX7_stopTimer 5 = .ok (.getfield 178, 3) := by decide +kernel
theorem dX7_stopTimer_8 : decode cX7_stopTimer 8 = .ok (.invokestatic 74, 3) := by decide +kernel
theorem dX7_stopTimer_11 : decode cX7_stopTimer 11 = .ok (.ifCond .eq 13, 3) := by decide +kernel
theorem dX7_stopTimer_14 : decode cX7_stopTimer 14 = .ok (.aload_n 0, 1) := by decide +kernel
theorem dX7_stopTimer_15 : decode cX7_stopTimer 15 = .ok (.getfield 47, 3) := by decide +kernel
theorem dX7_stopTimer_18 : decode cX7_stopTimer 18 = .ok (.getfield 183, 3) := by decide +kernel
theorem dX7_stopTimer_21 : decode cX7_stopTimer 21 = .ok (.iload_n 1, 1) := by decide +kernel
theorem dX7_stopTimer_22 : decode cX7_stopTimer 22 = .ok (.iconst 0, 1) := by decide +kernel
theorem dX7_stopTimer_23 : decode cX7_stopTimer 23 = .ok (.iastore, 1) := by decide +kernel
theorem dX7_stopTimer_24 : decode cX7_stopTimer 24 = .ok (.return_, 1) := by decide +kernel
theorem dX7_switchDaemon_0 : decode cX7_switchDaemon 0 = .ok (.iload_n 1, 1) := by decide +kernel
theorem dX7_switchDaemon_1 : decode cX7_switchDaemon 1 = .ok (.aload_n 0, 1) := by decide +kernel
theorem dX7_switchDaemon_2 : decode cX7_switchDaemon 2 = .ok (.getfield 40, 3) := by decide +kernel
theorem dX7_switchDaemon_5 : decode cX7_switchDaemon 5 = .ok (.getfield 179, 3) := by decide +kernel
theorem dX7_switchDaemon_8 : decode cX7_switchDaemon 8 = .ok (.invokestatic 74, 3) := by decide +kernel
theorem dX7_switchDaemon_11 : decode cX7_switchDaemon 11 = .ok (.ifCond .eq 13, 3) := by decide +kernel
theorem dX7_switchDaemon_14 : decode cX7_switchDaemon 14 = .ok (.aload_n 0, 1) := by decide +kernel
theorem dX7_switchDaemon_15 : decode cX7_switchDaemon 15 = .ok (.getfield 47, 3) := by decide +kernel
theorem dX7_switchDaemon_18 : decode cX7_switchDaemon 18 = .ok (.getfield 186, 3) := by decide +kernel
theorem dX7_switchDaemon_21 : decode cX7_switchDaemon 21 = .ok (.iload_n 1, 1) := by decide +kernel
theorem dX7_switchDaemon_22 : decode cX7_switchDaemon 22 = .ok (.iload_n 2, 1) := by decide +kernel
theorem dX7_switchDaemon_23 : decode cX7_switchDaemon 23 = .ok (.bastore, 1) := by decide +kernel
theorem dX7_switchDaemon_24 : decode cX7_switchDaemon 24 = .ok (.return_, 1) := by decide +kernel
theorem dX7_turnDoor_0 : decode cX7_turnDoor 0 = .ok (.iload_n 1, 1) := by decide +kernel
theorem dX7_turnDoor_1 : decode cX7_turnDoor 1 = .ok (.aload_n 0, 1) := by decide +kernel
theorem dX7_turnDoor_2 : decode cX7_turnDoor 2 = .ok (.getfield 12, 3) := by decide +kernel
theorem dX7_turnDoor_5 : decode cX7_turnDoor 5 = .ok (.getfield 174, 3) := by decide +kernel
theorem dX7_turnDoor_8 : decode cX7_turnDoor 8 = .ok (.invokestatic 74, 3) := by decide +kernel
theorem dX7_turnDoor_11 : decode cX7_turnDoor 11 = .ok (.ifCond .eq 29, 3) := by decide +kernel
theorem dX7_turnDoor_14 : decode cX7_turnDoor 14 = .ok (.aload_n 0, 1) := by decide +kernel
theorem dX7_turnDoor_15 : decode cX7_turnDoor 15 = .ok (.getfield 47, 3) := by decide +kernel
theorem dX7_turnDoor_18 : decode cX7_turnDoor 18 = .ok (.getfield 193, 3) := by decide +kernel
theorem dX7_turnDoor_21 : decode cX7_turnDoor 21 = .ok (.iload_n 1, 1) := by decide +kernel
theorem dX7_turnDoor_22 : decode cX7_turnDoor 22 = .ok (.aload_n 0, 1) := by decide +kernel
theorem dX7_turnDoor_23 : decode cX7_turnDoor 23 = .ok (.getfield 47, 3) := by decide +kernel
theorem dX7_turnDoor_26 : decode cX7_turnDoor 26 = .ok (.getfield 193, 3) := by decide +kernel
theorem dX7_turnDoor_29 : decode cX7_turnDoor 29 = .ok (.iload_n 1, 1) := by decide +kernel
theorem dX7_turnDoor_30 : decode cX7_turnDoor 30 = .ok (.baload, 1) := by decide +kernel
theorem dX7_turnDoor_31 : decode cX7_turnDoor 31 = .ok (.ifCond .ne 7, 3) := by decide +kernel
theorem dX7_turnDoor_34 : decode cX7_turnDoor 34 = .ok (.iconst 1, 1) := by decide +kernel
theorem dX7_turnDoor_35 : decode cX7_turnDoor 35 = .ok (.goto 4, 3) := by decide +kernel
theorem dX7_turnDoor_38 : decode cX7_turnDoor 38 = .ok (.iconst 0, 1) := by decide +kernel
theorem dX7_turnDoor_39 : decode cX7_turnDoor 39 = .ok (.bastore, 1) := by decide +kernel
theorem dX7_turnDoor_40 : decode cX7_turnDoor 40 = .ok (.return_, 1) := by decide +kernel
theorem dX7_giveGoal_0 : decode cX7_giveGoal 0 = .ok (.iload_n 1, 1) := by decide +kernel
theorem dX7_giveGoal_1 : decode cX7_giveGoal 1 = .ok (.aload_n 0, 1) := by decide +kernel
theorem dX7_giveGoal_2 : decode cX7_giveGoal 2 = .ok (.getfield 12, 3) := by decide +kernel
theorem dX7_giveGoal_5 : decode cX7_giveGoal 5 = .ok (.getfield 85, 3) := by decide +kernel
theorem dX7_giveGoal_8 : decode cX7_giveGoal 8 = .ok (.invokestatic 74, 3) := by decide +kernel
theorem dX7_giveGoal_11 : decode cX7_giveGoal 11 = .ok (.ifCond .eq 44, 3) := by decide +kernel
theorem dX7_giveGoal_14 : decode cX7_giveGoal 14 = .ok (.iload_n 2, 1) := by decide +kernel
theorem dX7_giveGoal_15 : decode cX7_giveGoal 15 = .ok (.aload_n 0, 1) := by decide +kernel
theorem dX7_giveGoal_16 : decode cX7_giveGoal 16 = .ok (.getfield 12, 3) := by decide +kernel
theorem dX7_giveGoal_19 : decode cX7_giveGoal 19 = .ok (.getfield 70, 3) := by decide +kernel
theorem dX7_giveGoal_22 : decode cX7_giveGoal 22 = .ok (.invokestatic 74, 3) := by decide +kernel
theorem dX7_giveGoal_25 : decode cX7_giveGoal 25 = .ok (.ifCond .eq 30, 3) := by decide +kernel
theorem dX7_giveGoal_28 : decode cX7_giveGoal 28 = .ok (.aload_n 0, 1) := by decide +kernel
theorem dX7_giveGoal_29 : decode cX7_giveGoal 29 = .ok (.getfield 47, 3) := by decide +kernel
theorem dX7_giveGoal_32 : decode cX7_giveGoal 32 = .ok (.getfield 92, 3) := by decide +kernel
theorem dX7_giveGoal_35 : decode cX7_giveGoal 35 = .ok (.iload_n 1, 1) := by decide +kernel
theorem dX7_giveGoal_36 : decode cX7_giveGoal 36 = .ok (.aload_n 0, 1) := by decide +kernel
theorem dX7_giveGoal_37 : decode cX7_giveGoal 37 = .ok (.getfield 47, 3) := by decide +kernel
theorem dX7_giveGoal_40 : decode cX7_giveGoal 40 = .ok (.getfield 88, 3) := by decide +kernel
theorem dX7_giveGoal_43 : decode cX7_giveGoal 43 = .ok (.iload_n 1, 1) := by decide +kernel
theorem dX7_giveGoal_44 : decode cX7_giveGoal 44 = .ok (.iaload, 1) := by decide +kernel
theorem dX7_giveGoal_45 : decode cX7_giveGoal 45 = .ok (.iload_n 2, 1) := by decide +kernel
theorem dX7_giveGoal_46 : decode cX7_giveGoal 46 = .ok (.if_icmp .ne 7, 3) := by decide +kernel
theorem dX7_giveGoal_49 : decode cX7_giveGoal 49 = .ok (.iconst (-1), 1) := by decide +kernel
theorem dX7_giveGoal_50 : decode cX7_giveGoal 50 = .ok (.goto 4, 3) := by decide +kernel
theorem dX7_giveGoal_53 : decode cX7_giveGoal 53 = .ok (.iload_n 2, 1) := by decide +kernel
theorem dX7_giveGoal_54 : decode cX7_giveGoal 54 = .ok (.iastore, 1) := by decide +kernel
theorem dX7_giveGoal_55 : decode cX7_giveGoal 55 = .ok (.return_, 1) := by decide +kernel
