theorem dX0_init_0 : decode cX0_init 0 = .ok (.aload_n 0, 1) := by decide +kernel
theorem dX0_init_1 : decode cX0_init 1 = .ok (.invokespecial 3, 3) := by decide +kernel
theorem dX0_init_4 : decode cX0_init 4 = .ok (.aload_n 0, 1) := by decide +kernel
theorem dX0_init_5 : decode cX0_init 5 = .ok (.bipush 12, 2) := by decide +kernel
theorem dX0_init_7 : decode cX0_init 7 = .ok (.newarray .int, 2) := by decide +kernel
theorem dX0_init_9 : decode cX0_init 9 = .ok (.putfield 9, 3) := by decide +kernel
theorem dX0_init_12 : decode cX0_init 12 = .ok (.aload_n 0, 1) := by decide +kernel
theorem dX0_init_13 : decode cX0_init 13 = .ok (.bipush 12, 2) := by decide +kernel
theorem dX0_init_15 : decode cX0_init 15 = .ok (.newarray .int, 2) := by decide +kernel
theorem dX0_init_17 : decode cX0_init 17 = .ok (.putfield 15, 3) := by decide +kernel
theorem dX0_init_20 : decode cX0_init 20 = .ok (.return_, 1) := by decide +kernel
theorem dX0_addDaemon_0 : decode cX0_addDaemon 0 = .ok (.aload_n 0, 1) := by decide +kernel
theorem dX0_addDaemon_1 : decode cX0_addDaemon 1 = .ok (.getfield 18, 3) := by decide +kernel
theorem dX0_addDaemon_4 : decode cX0_addDaemon 4 = .ok (.bipush 12, 2) := by decide +kernel
theorem dX0_addDaemon_6 : decode cX0_addDaemon 6 = .ok (.if_icmp .lt 6, 3) := by decide +kernel
theorem dX0_addDaemon_9 : decode cX0_addDaemon 9 = .ok (.bipush (-5), 2) := by decide +kernel
theorem dX0_addDaemon_11 : decode cX0_addDaemon 11 = .ok (.ireturn, 1) := by decide +kernel
theorem dX0_addDaemon_12 : decode cX0_addDaemon 12 = .ok (.aload_n 0, 1) := by decide +kernel
theorem dX0_addDaemon_13 : decode cX0_addDaemon 13 = .ok (.getfield 9, 3) := by decide +kernel
theorem dX0_addDaemon_16 : decode cX0_addDaemon 16 = .ok (.aload_n 0, 1) := by decide +kernel
theorem dX0_addDaemon_17 : decode cX0_addDaemon 17 = .ok (.getfield 18, 3) := by decide +kernel
theorem dX0_addDaemon_20 : decode cX0_addDaemon 20 = .ok (.iload_n 1, 1) := by decide +kernel
theorem dX0_addDaemon_21 : decode cX0_addDaemon 21 = .ok (.iastore, 1) := by decide +kernel
theorem dX0_addDaemon_22 : decode cX0_addDaemon 22 = .ok (.aload_n 0, 1) := by decide +kernel
theorem dX0_addDaemon_23 : decode cX0_addDaemon 23 = .ok (.getfield 15, 3) := by decide +kernel
theorem dX0_addDaemon_26 : decode cX0_addDaemon 26 = .ok (.aload_n 0, 1) := by decide +kernel
theorem dX0_addDaemon_27 : decode cX0_addDaemon 27 = .ok (.getfield 18, 3) := by decide +kernel
theorem dX0_addDaemon_30 : decode cX0_addDaemon 30 = .ok (.iload_n 2, 1) := by decide +kernel
theorem dX0_addDaemon_31 : decode cX0_addDaemon 31 = .ok (.iastore, 1) := by decide +kernel
theorem dX0_addDaemon_32 : decode cX0_addDaemon 32 = .ok (.aload_n 0, 1) := by decide +kernel
theorem dX0_addDaemon_33 : decode cX0_addDaemon 33 = .ok (.dup, 1) := by decide +kernel
theorem dX0_addDaemon_34 : decode cX0_addDaemon 34 = .ok (.getfield 18, 3) := by decide +kernel
theorem dX0_addDaemon_37 : decode cX0_addDaemon 37 = .ok (.iconst 1, 1) := by decide +kernel
theorem dX0_addDaemon_38 : decode cX0_addDaemon 38 = .ok (.iadd, 1) := by decide +kernel
theorem dX0_addDaemon_39 : decode cX0_addDaemon 39 = .ok (.putfield 18, 3) := by decide +kernel
theorem dX0_addDaemon_42 : decode cX0_addDaemon 42 = .ok (.aload_n 0, 1) := by decide +kernel
theorem dX0_addDaemon_43 : decode cX0_addDaemon 43 = .ok (.getfield 18, 3) := by decide +kernel
theorem dX0_addDaemon_46 : decode cX0_addDaemon 46 = .ok (.iconst 1, 1) := by decide +kernel
theorem dX0_addDaemon_47 : decode cX0_addDaemon 47 = .ok (.isub, 1) := by decide +kernel
theorem dX0_addDaemon_48 : decode cX0_addDaemon 48 = .ok (.ireturn, 1) := by decide +kernel
theorem dX1_init_0 : decode cX1_init 0 = .ok (.aload_n 0, 1) := by decide +kernel
theorem dX1_init_1 : decode cX1_init 1 = .ok (.invokespecial 3, 3) := by decide +kernel
theorem dX1_init_4 : decode cX1_init 4 = .ok (.aload_n 0, 1) := by decide +kernel
theorem dX1_init_5 : decode cX1_init 5 = .ok (.bipush 40, 2) := by decide +kernel
theorem dX1_init_7 : decode cX1_init 7 = .ok (.newarray .int, 2) := by decide +kernel
theorem dX1_init_9 : decode cX1_init 9 = .ok (.putfield 9, 3) := by decide +kernel
theorem dX1_init_12 : decode cX1_init 12 = .ok (.aload_n 0, 1) := by decide +kernel
theorem dX1_init_13 : decode cX1_init 13 = .ok (.bipush 40, 2) := by decide +kernel
theorem dX1_init_15 : decode cX1_init 15 = .ok (.newarray .int, 2) := by decide +kernel
theorem dX1_init_17 : decode cX1_init 17 = .ok (.putfield 15, 3) := by decide +kernel
theorem dX1_init_20 : decode cX1_init 20 = .ok (.aload_n 0, 1) := by decide +kernel
theorem dX1_init_21 : decode cX1_init 21 = .ok (.bipush 40, 2) := by decide +kernel
theorem dX1_init_23 : decode cX1_init 23 = .ok (.newarray .int, 2) := by decide +kernel
theorem dX1_init_25 : decode cX1_init 25 = .ok (.putfield 18, 3) := by decide +kernel
theorem dX1_init_28 : decode cX1_init 28 = .ok (.aload_n 0, 1) := by decide +kernel
theorem dX1_init_29 : decode cX1_init 29 = .ok (.bipush 40, 2) := by decide +kernel
theorem dX1_init_31 : decode cX1_init 31 = .ok (.newarray .int, 2) := by decide +kernel
theorem dX1_init_33 : decode cX1_init 33 = .ok (.putfield 21, 3) := by decide +kernel
theorem dX1_init_36 : decode cX1_init 36 = .ok (.aload_n 0, 1) := by decide +kernel
theorem dX1_init_37 : decode cX1_init 37 = .ok (.bipush 40, 2) := by decide +kernel
theorem dX1_init_39 : decode cX1_init 39 = .ok (.newarray .int, 2) := by decide +kernel
theorem dX1_init_41 : decode cX1_init 41 = .ok (.putfield 24, 3) := by decide +kernel
theorem dX1_init_44 : decode cX1_init 44 = .ok (.return_, 1) := by decide +kernel
theorem dX1_addDeed_0 : decode cX1_addDeed 0 = .ok (.aload_n 0, 1) := by decide +kernel
theorem dX1_addDeed_1 : decode cX1_addDeed 1 = .ok (.getfield 27, 3) := by decide +kernel
theorem dX1_addDeed_4 : decode cX1_addDeed 4 = .ok (.bipush 40, 2) := by decide +kernel
theorem dX1_addDeed_6 : decode cX1_addDeed 6 = .ok (.if_icmp .lt 6, 3) := by decide +kernel
theorem dX1_addDeed_9 : decode cX1_addDeed 9 = .ok (.bipush (-5), 2) := by decide +kernel
theorem dX1_addDeed_11 : decode cX1_addDeed 11 = .ok (.ireturn, 1) := by decide +kernel
theorem dX1_addDeed_12 : decode cX1_addDeed 12 = .ok (.aload_n 0, 1) := by decide +kernel
theorem dX1_addDeed_13 : decode cX1_addDeed 13 = .ok (.getfield 9, 3) := by decide +kernel
theorem dX1_addDeed_16 : decode cX1_addDeed 16 = .ok (.aload_n 0, 1) := by decide +kernel
theorem dX1_addDeed_17 : decode cX1_addDeed 17 = .ok (.getfield 27, 3) := by decide +kernel
theorem dX1_addDeed_20 : decode cX1_addDeed 20 = .ok (.iload_n 1, 1) := by decide +kernel
theorem dX1_addDeed_21 : decode cX1_addDeed 21 = .ok (.iastore, 1) := by decide +kernel
theorem dX1_addDeed_22 : decode cX1_addDeed 22 = .ok (.aload_n 0, 1) := by decide +kernel
theorem dX1_addDeed_23 : decode cX1_addDeed 23 = .ok (.getfield 15, 3) := by decide +kernel
theorem dX1_addDeed_26 : decode cX1_addDeed 26 = .ok (.aload_n 0, 1) := by decide +kernel
theorem dX1_addDeed_27 : decode cX1_addDeed 27 = .ok (.getfield 27, 3) := by decide +kernel
theorem dX1_addDeed_30 : decode cX1_addDeed 30 = .ok (.iload_n 2, 1) := by decide +kernel
theorem dX1_addDeed_31 : decode cX1_addDeed 31 = .ok (.iastore, 1) := by decide +kernel
theorem dX1_addDeed_32 : decode cX1_addDeed 32 = .ok (.aload_n 0, 1) := by decide +kernel
theorem dX1_addDeed_33 : decode cX1_addDeed 33 = .ok (.getfield 18, 3) := by decide +kernel
theorem dX1_addDeed_36 : decode cX1_addDeed 36 = .ok (.aload_n 0, 1) := by decide +kernel
theorem dX1_addDeed_37 : decode cX1_addDeed 37 = .ok (.getfield 27, 3) := by decide +kernel
theorem dX1_addDeed_40 : decode cX1_addDeed 40 = .ok (.iload_n 3, 1) := by decide +kernel
theorem dX1_addDeed_41 : decode cX1_addDeed 41 = .ok (.iastore, 1) := by decide +kernel
theorem dX1_addDeed_42 : decode cX1_addDeed 42 = .ok (.aload_n 0, 1) := by decide +kernel
theorem dX1_addDeed_43 : decode cX1_addDeed 43 = .ok (.getfield 21, 3) := by decide +kernel
theorem dX1_addDeed_46 : decode cX1_addDeed 46 = .ok (.aload_n 0, 1) := by decide +kernel
theorem dX1_addDeed_47 : decode cX1_addDeed 47 = .ok (.getfield 27, 3) := by decide +kernel
theorem dX1_addDeed_50 : decode cX1_addDeed 50 = .ok (.iconst (-1), 1) := by decide +kernel
theorem dX1_addDeed_51 : decode cX1_addDeed 51 = .ok (.iastore, 1) := by decide +kernel
theorem dX1_addDeed_52 : decode cX1_addDeed 52 = .ok (.aload_n 0, 1) := by decide +kernel
theorem dX1_addDeed_53 : decode cX1_addDeed 53 = .ok (.dup, 1) := by decide +kernel
theorem dX1_addDeed_54 : decode cX1_addDeed 54 = .ok (.getfield 27, 3) := by decide +kernel
theorem dX1_addDeed_57 : decode cX1_addDeed 57 = .ok (.iconst 1, 1) := by decide +kernel
theorem dX1_addDeed_58 : decode cX1_addDeed 58 = .ok (.iadd, 1) := by decide +kernel
theorem dX1_addDeed_59 : decode cX1_addDeed 59 = .ok (.putfield 27, 3) := by decide +kernel
theorem dX1_addDeed_62 : decode cX1_addDeed 62 = .ok (.aload_n 0, 1) := by decide +kernel
theorem dX1_addDeed_63 : decode cX1_addDeed 63 = .ok (.getfield 27, 3) := by decide +kernel
theorem dX1_addDeed_66 : decode cX1_addDeed 66 = .ok (.iconst 1, 1) := by decide +kernel
theorem dX1_addDeed_67 : decode cX1_addDeed 67 = .ok (.isub, 1) := by decide +kernel
theorem dX1_addDeed_68 : decode cX1_addDeed 68 = .ok (.ireturn, 1) := by decide +kernel
theorem dX2_init_0 : decode cX2_init 0 = .ok (.aload_n 0, 1) := by decide +kernel
theorem dX2_init_1 : decode cX2_init 1 = .ok (.invokespecial 3, 3) := by decide +kernel
theorem dX2_init_4 : decode cX2_init 4 = .ok (.aload_n 0, 1) := by decide +kernel
theorem dX2_init_5 : decode cX2_init 5 = .ok (.bipush 12, 2) := by decide +kernel
theorem dX2_init_7 : decode cX2_init 7 = .ok (.newarray .int, 2) := by decide +kernel
theorem dX2_init_9 : decode cX2_init 9 = .ok (.putfield 9, 3) := by decide +kernel
theorem dX2_init_12 : decode cX2_init 12 = .ok (.aload_n 0, 1) := by decide +kernel
theorem dX2_init_13 : decode cX2_init 13 = .ok (.bipush 12, 2) := by decide +kernel
theorem dX2_init_15 : decode cX2_init 15 = .ok (.newarray .int, 2) := by decide +kernel
theorem dX2_init_17 : decode cX2_init 17 = .ok (.putfield 15, 3) := by decide +kernel
theorem dX2_init_20 : decode cX2_init 20 = .ok (.aload_n 0, 1) := by decide +kernel
theorem dX2_init_21 : decode cX2_init 21 = .ok (.bipush 12, 2) := by decide +kernel
theorem dX2_init_23 : decode cX2_init 23 = .ok (.newarray .boolean, 2) := by decide +kernel
theorem dX2_init_25 : decode cX2_init 25 = .ok (.putfield 18, 3) := by decide +kernel
theorem dX2_init_28 : decode cX2_init 28 = .ok (.aload_n 0, 1) := by decide +kernel
theorem dX2_init_29 : decode cX2_init 29 = .ok (.bipush 12, 2) := by decide +kernel
theorem dX2_init_31 : decode cX2_init 31 = .ok (.newarray .int, 2) := by decide +kernel
theorem dX2_init_33 : decode cX2_init 33 = .ok (.putfield 22, 3) := by decide +kernel
theorem dX2_init_36 : decode cX2_init 36 = .ok (.aload_n 0, 1) := by decide +kernel
theorem dX2_init_37 : decode cX2_init 37 = .ok (.bipush 12, 2) := by decide +kernel
theorem dX2_init_39 : decode cX2_init 39 = .ok (.newarray .int, 2) := by decide +kernel
theorem dX2_init_41 : decode cX2_init 41 = .ok (.putfield 25, 3) := by decide +kernel
theorem dX2_init_44 : decode cX2_init 44 = .ok (.return_, 1) := by decide +kernel
theorem dX2_addEvent_0 : decode cX2_addEvent 0 = .ok (.aload_n 0, 1) := by decide +kernel
theorem dX2_addEvent_1 : decode cX2_addEvent 1 = .ok (.getfield 28, 3) := by decide +kernel
theorem dX2_addEvent_4 : decode cX2_addEvent 4 = .ok (.bipush 12, 2) := by decide +kernel
theorem dX2_addEvent_6 : decode cX2_addEvent 6 = .ok (.if_icmp .lt 6, 3) := by decide +kernel
theorem dX2_addEvent_9 : decode cX2_addEvent 9 = .ok (.bipush (-5), 2) := by decide +kernel
theorem dX2_addEvent_11 : decode cX2_addEvent 11 = .ok (.ireturn, 1) := by decide +kernel
theorem dX2_addEvent_12 : decode cX2_addEvent 12 = .ok (.aload_n 0, 1) := by decide +kernel
theorem dX2_addEvent_13 : decode cX2_addEvent 13 = .ok (.getfield 9, 3) := by decide +kernel
theorem dX2_addEvent_16 : decode cX2_addEvent 16 = .ok (.aload_n 0, 1) := by decide +kernel
theorem dX2_addEvent_17 : decode cX2_addEvent 17 = .ok (.getfield 28, 3) := by decide +kernel
theorem dX2_addEvent_20 : decode cX2_addEvent 20 = .ok (.iload_n 1, 1) := by decide +kernel
theorem dX2_addEvent_21 : decode cX2_addEvent 21 = .ok (.iastore, 1) := by decide +kernel
theorem dX2_addEvent_22 : decode cX2_addEvent 22 = .ok (.aload_n 0, 1) := by decide +kernel
theorem dX2_addEvent_23 : decode cX2_addEvent 23 = .ok (.getfield 15, 3) := by decide +kernel
theorem dX2_addEvent_26 : decode cX2_addEvent 26 = .ok (.aload_n 0, 1) := by decide +kernel
theorem dX2_addEvent_27 : decode cX2_addEvent 27 = .ok (.getfield 28, 3) := by decide +kernel
theorem dX2_addEvent_30 : decode cX2_addEvent 30 = .ok (.iload_n 2, 1) := by decide +kernel
theorem dX2_addEvent_31 : decode cX2_addEvent 31 = .ok (.iastore, 1) := by decide +kernel
theorem dX2_addEvent_32 : decode cX2_addEvent 32 = .ok (.aload_n 0, 1) := by decide +kernel
theorem dX2_addEvent_33 : decode cX2_addEvent 33 = .ok (.getfield 18, 3) := by decide +kernel
theorem dX2_addEvent_36 : decode cX2_addEvent 36 = .ok (.aload_n 0, 1) := by decide +kernel
theorem dX2_addEvent_37 : decode cX2_addEvent 37 = .ok (.getfield 28, 3) := by decide +kernel
theorem dX2_addEvent_40 : decode cX2_addEvent 40 = .ok (.iload_n 3, 1) := by decide +kernel
theorem dX2_addEvent_41 : decode cX2_addEvent 41 = .ok (.bastore, 1) := by decide +kernel
theorem dX2_addEvent_42 : decode cX2_addEvent 42 = .ok (.aload_n 0, 1) := by decide +kernel
theorem dX2_addEvent_43 : decode cX2_addEvent 43 = .ok (.dup, 1) := by decide +kernel
theorem dX2_addEvent_44 : decode cX2_addEvent 44 = .ok (.getfield 28, 3) := by decide +kernel
theorem dX2_addEvent_47 : decode cX2_addEvent 47 = .ok (.iconst 1, 1) := by decide +kernel
theorem dX2_addEvent_48 : decode cX2_addEvent 48 = .ok (.iadd, 1) := by decide +kernel
theorem dX2_addEvent_49 : decode cX2_addEvent 49 = .ok (.putfield 28, 3) := by decide +kernel
theorem dX2_addEvent_52 : decode cX2_addEvent 52 = .ok (.aload_n 0, 1) := by decide +kernel
theorem dX2_addEvent_53 : decode cX2_addEvent 53 = .ok (.getfield 28, 3) := by decide +kernel
theorem dX2_addEvent_56 : decode cX2_addEvent 56 = .ok (.iconst 1, 1) := by decide +kernel
theorem dX2_addEvent_57 : decode cX2_addEvent 57 = .ok (.isub, 1) := by decide +kernel
theorem dX2_addEvent_58 : decode cX2_addEvent 58 = .ok (.ireturn, 1) := by decide +kernel
theorem dX2_putInOrder_0 : decode cX2_putInOrder 0 = .ok (.iload_n 3, 1) := by decide +kernel
theorem dX2_putInOrder_1 : decode cX2_putInOrder 1 = .ok (.bipush 12, 2) := by decide +kernel
theorem dX2_putInOrder_3 : decode cX2_putInOrder 3 = .ok (.if_icmp .lt 4, 3) := by decide +kernel
theorem dX2_putInOrder_6 : decode cX2_putInOrder 6 = .ok (.return_, 1) := by decide +kernel
theorem dX2_putInOrder_7 : decode cX2_putInOrder 7 = .ok (.iload_n 3, 1) := by decide +kernel
theorem dX2_putInOrder_8 : decode cX2_putInOrder 8 = .ok (.istore 4, 2) := by decide +kernel
theorem dX2_putInOrder_10 : decode cX2_putInOrder 10 = .ok (.iload 4, 2) := by decide +kernel
theorem dX2_putInOrder_12 : decode cX2_putInOrder 12 = .ok (.ifCond .le 54, 3) := by decide +kernel
theorem dX2_putInOrder_15 : decode cX2_putInOrder 15 = .ok (.aload_n 0, 1) := by decide +kernel
theorem dX2_putInOrder_16 : decode cX2_putInOrder 16 = .ok (.getfield 25, 3) := by decide +kernel
theorem dX2_putInOrder_19 : decode cX2_putInOrder 19 = .ok (.iload 4, 2) := by decide +kernel
theorem dX2_putInOrder_21 : decode cX2_putInOrder 21 = .ok (.iconst 1, 1) := by decide +kernel
theorem dX2_putInOrder_22 : decode cX2_putInOrder 22 = .ok (.isub, 1) := by decide +kernel
theorem dX2_putInOrder_23 : decode cX2_putInOrder 23 = .ok (.iaload, 1) := by decide +kernel
theorem dX2_putInOrder_24 : decode cX2_putInOrder 24 = .ok (.iload_n 2, 1) := by decide +kernel
theorem dX2_putInOrder_25 : decode cX2_putInOrder 25 = .ok (.if_icmp .le 41, 3) := by decide +kernel
theorem dX2_putInOrder_28 : decode cX2_putInOrder 28 = .ok (.aload_n 0, 1) := by decide +kernel
theorem dX2_putInOrder_29 : decode cX2_putInOrder 29 = .ok (.getfield 22, 3) := by decide +kernel
theorem dX2_putInOrder_32 : decode cX2_putInOrder 32 = .ok (.iload 4, 2) := by decide +kernel
theorem dX2_putInOrder_34 : decode cX2_putInOrder 34 = .ok (.aload_n 0, 1) := by decide +kernel
theorem dX2_putInOrder_35 : decode cX2_putInOrder 35 = .ok (.getfield 22, 3) := by decide +kernel
theorem dX2_putInOrder_38 : decode cX2_putInOrder 38 = .ok (.iload 4, 2) := by decide +kernel
theorem dX2_putInOrder_40 : decode cX2_putInOrder 40 = .ok (.iconst 1, 1) := by decide +kernel
theorem dX2_putInOrder_41 : decode cX2_putInOrder 41 = .ok (.isub, 1) := by decide +kernel
theorem dX2_putInOrder_42 : decode cX2_putInOrder 42 = .ok (.iaload, 1) := by decide +kernel
theorem dX2_putInOrder_43 : decode cX2_putInOrder 43 = .ok (.iastore, 1) := by decide +kernel
theorem dX2_putInOrder_44 : decode cX2_putInOrder 44 = .ok (.aload_n 0, 1) := by decide +kernel
theorem dX2_putInOrder_45 : decode cX2_putInOrder 45 = .ok (.getfield 25, 3) := by decide +kernel
theorem dX2_putInOrder_48 : decode cX2_putInOrder 48 = .ok (.iload 4, 2) := by decide +kernel
theorem dX2_putInOrder_50 : decode cX2_putInOrder 50 = .ok (.aload_n 0, 1) := by decide +kernel
theorem dX2_putInOrder_51 : decode cX2_putInOrder 51 = .ok (.getfield 25, 3) := by decide +kernel
theorem dX2_putInOrder_54 : decode cX2_putInOrder 54 = .ok (.iload 4, 2) := by decide +kernel
theorem dX2_putInOrder_56 : decode cX2_putInOrder 56 = .ok (.iconst 1, 1) := by decide +kernel
theorem dX2_putInOrder_57 : decode cX2_putInOrder 57 = .ok (.isub, 1) := by decide +kernel
theorem dX2_putInOrder_58 : decode cX2_putInOrder 58 = .ok (.iaload, 1) := by decide +kernel
theorem dX2_putInOrder_59 : decode cX2_putInOrder 59 = .ok (.iastore, 1) := by decide +kernel
theorem dX2_putInOrder_60 : decode cX2_putInOrder 60 = .ok (.iinc 4 (-1), 3) := by decide +kernel
theorem dX2_putInOrder_63 : decode cX2_putInOrder 63 = .ok (.goto (-53), 3) := by decide +kernel
theorem dX2_putInOrder_66 : decode cX2_putInOrder 66 = .ok (.aload_n 0, 1) := by decide +kernel
theorem dX2_putInOrder_67 : decode cX2_putInOrder 67 = .ok (.getfield 22, 3) := by decide +kernel
theorem dX2_putInOrder_70 : decode cX2_putInOrder 70 = .ok (.iload 4, 2) := by decide +kernel
theorem dX2_putInOrder_72 : decode cX2_putInOrder 72 = .ok (.iload_n 1, 1) := by decide +kernel
theorem dX2_putInOrder_73 : decode cX2_putInOrder 73 = .ok (.iastore, 1) := by decide +kernel
theorem dX2_putInOrder_74 : decode cX2_putInOrder 74 = .ok (.aload_n 0, 1) := by decide +kernel
theorem dX2_putInOrder_75 : decode cX2_putInOrder 75 = .ok (.getfield 25, 3) := by decide +kernel
theorem dX2_putInOrder_78 : decode cX2_putInOrder 78 = .ok (.iload 4, 2) := by decide +kernel
theorem dX2_putInOrder_80 : decode cX2_putInOrder 80 = .ok (.iload_n 2, 1) := by decide +kernel
theorem dX2_putInOrder_81 : decode cX2_putInOrder 81 = .ok (.iastore, 1) := by decide +kernel
theorem dX2_putInOrder_82 : decode cX2_putInOrder 82 = .ok (.return_, 1) := by decide +kernel
theorem dX3_init_0 : decode cX3_init 0 = .ok (.aload_n 0, 1) := by decide +kernel
theorem dX3_init_1 : decode cX3_init 1 = .ok (.invokespecial 3, 3) := by decide +kernel
theorem dX3_init_4 : decode cX3_init 4 = .ok (.aload_n 0, 1) := by decide +kernel
theorem dX3_init_5 : decode cX3_init 5 = .ok (.bipush 15, 2) := by decide +kernel
theorem dX3_init_7 : decode cX3_init 7 = .ok (.newarray .int, 2) := by decide +kernel
theorem dX3_init_9 : decode cX3_init 9 = .ok (.putfield 9, 3) := by decide +kernel
theorem dX3_init_12 : decode cX3_init 12 = .ok (.aload_n 0, 1) := by decide +kernel
theorem dX3_init_13 : decode cX3_init 13 = .ok (.bipush 15, 2) := by decide +kernel
theorem dX3_init_15 : decode cX3_init 15 = .ok (.newarray .int, 2) := by decide +kernel
theorem dX3_init_17 : decode cX3_init 17 = .ok (.putfield 15, 3) := by decide +kernel
theorem dX3_init_20 : decode cX3_init 20 = .ok (.aload_n 0, 1) := by decide +kernel
theorem dX3_init_21 : decode cX3_init 21 = .ok (.bipush 10, 2) := by decide +kernel
theorem dX3_init_23 : decode cX3_init 23 = .ok (.newarray .int, 2) := by decide +kernel
theorem dX3_init_25 : decode cX3_init 25 = .ok (.putfield 18, 3) := by decide +kernel
theorem dX3_init_28 : decode cX3_init 28 = .ok (.return_, 1) := by decide +kernel
theorem dX3_addRoom_0 : decode cX3_addRoom 0 = .ok (.aload_n 0, 1) := by decide +kernel
theorem dX3_addRoom_1 : decode cX3_addRoom 1 = .ok (.getfield 21, 3) := by decide +kernel
theorem dX3_addRoom_4 : decode cX3_addRoom 4 = .ok (.bipush 10, 2) := by decide +kernel
theorem dX3_addRoom_6 : decode cX3_addRoom 6 = .ok (.if_icmp .lt 6, 3) := by decide +kernel
theorem dX3_addRoom_9 : decode cX3_addRoom 9 = .ok (.bipush (-5), 2) := by decide +kernel
theorem dX3_addRoom_11 : decode cX3_addRoom 11 = .ok (.ireturn, 1) := by decide +kernel
theorem dX3_addRoom_12 : decode cX3_addRoom 12 = .ok (.aload_n 0, 1) := by decide +kernel
theorem dX3_addRoom_13 : decode cX3_addRoom 13 = .ok (.dup, 1) := by decide +kernel
theorem dX3_addRoom_14 : decode cX3_addRoom 14 = .ok (.getfield 21, 3) := by decide +kernel
theorem dX3_addRoom_17 : decode cX3_addRoom 17 = .ok (.iconst 1, 1) := by decide +kernel
theorem dX3_addRoom_18 : decode cX3_addRoom 18 = .ok (.iadd, 1) := by decide +kernel
theorem dX3_addRoom_19 : decode cX3_addRoom 19 = .ok (.putfield 21, 3) := by decide +kernel
theorem dX3_addRoom_22 : decode cX3_addRoom 22 = .ok (.aload_n 0, 1) := by decide +kernel
theorem dX3_addRoom_23 : decode cX3_addRoom 23 = .ok (.getfield 21, 3) := by decide +kernel
theorem dX3_addRoom_26 : decode cX3_addRoom 26 = .ok (.iconst 1, 1) := by decide +kernel
theorem dX3_addRoom_27 : decode cX3_addRoom 27 = .ok (.isub, 1) := by decide +kernel
theorem dX3_addRoom_28 : decode cX3_addRoom 28 = .ok (.ireturn, 1) := by decide +kernel
theorem dX3_addDoor_0 : decode cX3_addDoor 0 = .ok (.aload_n 0, 1) := by decide +kernel
theorem dX3_addDoor_1 : decode cX3_addDoor 1 = .ok (.getfield 25, 3) := by decide +kernel
theorem dX3_addDoor_4 : decode cX3_addDoor 4 = .ok (.bipush 15, 2) := by decide +kernel
theorem dX3_addDoor_6 : decode cX3_addDoor 6 = .ok (.if_icmp .lt 6, 3) := by decide +kernel
theorem dX3_addDoor_9 : decode cX3_addDoor 9 = .ok (.bipush (-5), 2) := by decide +kernel
theorem dX3_addDoor_11 : decode cX3_addDoor 11 = .ok (.ireturn, 1) := by decide +kernel
theorem dX3_addDoor_12 : decode cX3_addDoor 12 = .ok (.aload_n 0, 1) := by decide +kernel
theorem dX3_addDoor_13 : decode cX3_addDoor 13 = .ok (.getfield 9, 3) := by decide +kernel
theorem dX3_addDoor_16 : decode cX3_addDoor 16 = .ok (.aload_n 0, 1) := by decide +kernel
theorem dX3_addDoor_17 : decode cX3_addDoor 17 = .ok (.getfield 25, 3) := by decide +kernel
theorem dX3_addDoor_20 : decode cX3_addDoor 20 = .ok (.iload_n 1, 1) := by decide +kernel
theorem dX3_addDoor_21 : decode cX3_addDoor 21 = .ok (.iastore, 1) := by decide +kernel
theorem dX3_addDoor_22 : decode cX3_addDoor 22 = .ok (.aload_n 0, 1) := by decide +kernel
theorem dX3_addDoor_23 : decode cX3_addDoor 23 = .ok (.getfield 15, 3) := by decide +kernel
theorem dX3_addDoor_26 : decode cX3_addDoor 26 = .ok (.aload_n 0, 1) := by decide +kernel
theorem dX3_addDoor_27 : decode cX3_addDoor 27 = .ok (.getfield 25, 3) := by decide +kernel
theorem dX3_addDoor_30 : decode cX3_addDoor 30 = .ok (.iload_n 2, 1) := by decide +kernel
theorem dX3_addDoor_31 : decode cX3_addDoor 31 = .ok (.iastore, 1) := by decide +kernel
theorem dX3_addDoor_32 : decode cX3_addDoor 32 = .ok (.aload_n 0, 1) := by decide +kernel
theorem dX3_addDoor_33 : decode cX3_addDoor 33 = .ok (.dup, 1) := by decide +kernel
theorem dX3_addDoor_34 : decode cX3_addDoor 34 = .ok (.getfield 25, 3) := by decide +kernel
theorem dX3_addDoor_37 : decode cX3_addDoor 37 = .ok (.iconst 1, 1) := by decide +kernel
theorem dX3_addDoor_38 : decode cX3_addDoor 38 = .ok (.iadd, 1) := by decide +kernel
theorem dX3_addDoor_39 : decode cX3_addDoor 39 = .ok (.putfield 25, 3) := by decide +kernel
theorem dX3_addDoor_42 : decode cX3_addDoor 42 = .ok (.aload_n 0, 1) := by decide +kernel
theorem dX3_addDoor_43 : decode cX3_addDoor 43 = .ok (.getfield 25, 3) := by decide +kernel
theorem dX3_addDoor_46 : decode cX3_addDoor 46 = .ok (.iconst 1, 1) := by decide +kernel
theorem dX3_addDoor_47 : decode cX3_addDoor 47 = .ok (.isub, 1) := by decide +kernel
theorem dX3_addDoor_48 : decode cX3_addDoor 48 = .ok (.ireturn, 1) := by decide +kernel
theorem dX3_addWalker_0 : decode cX3_addWalker 0 = .ok (.aload_n 0, 1) := by decide +kernel
theorem dX3_addWalker_1 : decode cX3_addWalker 1 = .ok (.getfield 28, 3) := by decide +kernel
theorem dX3_addWalker_4 : decode cX3_addWalker 4 = .ok (.iconst 4, 1) := by decide +kernel
theorem dX3_addWalker_5 : decode cX3_addWalker 5 = .ok (.if_icmp .lt 6, 3) := by decide +kernel
theorem dX3_addWalker_8 : decode cX3_addWalker 8 = .ok (.bipush (-5), 2) := by decide +kernel
theorem dX3_addWalker_10 : decode cX3_addWalker 10 = .ok (.ireturn, 1) := by decide +kernel
theorem dX3_addWalker_11 : decode cX3_addWalker 11 = .ok (.aload_n 0, 1) := by decide +kernel
theorem dX3_addWalker_12 : decode cX3_addWalker 12 = .ok (.dup, 1) := by decide +kernel
theorem dX3_addWalker_13 : decode cX3_addWalker 13 = .ok (.getfield 28, 3) := by decide +kernel
theorem dX3_addWalker_16 : decode cX3_addWalker 16 = .ok (.iconst 1, 1) := by decide +kernel
theorem dX3_addWalker_17 : decode cX3_addWalker 17 = .ok (.iadd, 1) := by decide +kernel
theorem dX3_addWalker_18 : decode cX3_addWalker 18 = .ok (.putfield 28, 3) := by decide +kernel
theorem dX3_addWalker_21 : decode cX3_addWalker 21 = .ok (.aload_n 0, 1) := by decide +kernel
theorem dX3_addWalker_22 : decode cX3_addWalker 22 = .ok (.getfield 28, 3) := by decide +kernel
theorem dX3_addWalker_25 : decode cX3_addWalker 25 = .ok (.iconst 1, 1) := by decide +kernel
theorem dX3_addWalker_26 : decode cX3_addWalker 26 = .ok (.isub, 1) := by decide +kernel
theorem dX3_addWalker_27 : decode cX3_addWalker 27 = .ok (.ireturn, 1) := by decide +kernel
theorem dX3_nextRoom_0 : decode cX3_nextRoom 0 = .ok (.aload_n 0, 1) := by decide +kernel
theorem dX3_nextRoom_1 : decode cX3_nextRoom 1 = .ok (.iload_n 2, 1) := by decide +kernel
theorem dX3_nextRoom_2 : decode cX3_nextRoom 2 = .ok (.aload_n 3, 1) := by decide +kernel
theorem dX3_nextRoom_3 : decode cX3_nextRoom 3 = .ok (.invokevirtual 31, 3) := by decide +kernel
theorem dX3_nextRoom_6 : decode cX3_nextRoom 6 = .ok (.iconst (-1), 1) := by decide +kernel
theorem dX3_nextRoom_7 : decode cX3_nextRoom 7 = .ok (.istore 4, 2) := by decide +kernel
theorem dX3_nextRoom_9 : decode cX3_nextRoom 9 = .ok (.iconst 0, 1) := by decide +kernel
theorem dX3_nextRoom_10 : decode cX3_nextRoom 10 = .ok (.istore 5, 2) := by decide +kernel
theorem dX3_nextRoom_12 : decode cX3_nextRoom 12 = .ok (.iload 5, 2) := by decide +kernel
theorem dX3_nextRoom_14 : decode cX3_nextRoom 14 = .ok (.aload_n 0, 1) := by decide +kernel
theorem dX3_nextRoom_15 : decode cX3_nextRoom 15 = .ok (.getfield 25, 3) := by decide +kernel
theorem dX3_nextRoom_18 : decode cX3_nextRoom 18 = .ok (.if_icmp .ge 58, 3) := by decide +kernel
theorem dX3_nextRoom_21 : decode cX3_nextRoom 21 = .ok (.aload_n 0, 1) := by decide +kernel
theorem dX3_nextRoom_22 : decode cX3_nextRoom 22 = .ok (.iload 5, 2) := by decide +kernel
theorem dX3_nextRoom_24 : decode cX3_nextRoom 24 = .ok (.iload_n 1, 1) := by decide +kernel
theorem dX3_nextRoom_25 : decode cX3_nextRoom 25 = .ok (.invokevirtual 35, 3) := by decide +kernel
theorem dX3_nextRoom_28 : decode cX3_nextRoom 28 = .ok (.istore 6, 2) := by decide +kernel
theorem dX3_nextRoom_30 : decode cX3_nextRoom 30 = .ok (.aload_n 3, 1) := by decide +kernel
theorem dX3_nextRoom_31 : decode cX3_nextRoom 31 = .ok (.iload 5, 2) := by decide +kernel
theorem dX3_nextRoom_33 : decode cX3_nextRoom 33 = .ok (.baload, 1) := by decide +kernel
theorem dX3_nextRoom_34 : decode cX3_nextRoom 34 = .ok (.ifCond .ne 36, 3) := by decide +kernel
theorem dX3_nextRoom_37 : decode cX3_nextRoom 37 = .ok (.iload 6, 2) := by decide +kernel
theorem dX3_nextRoom_39 : decode cX3_nextRoom 39 = .ok (.iconst (-1), 1) := by decide +kernel
theorem dX3_nextRoom_40 : decode cX3_nextRoom 40 = .ok (.if_icmp .eq 30, 3) := by decide +kernel
theorem dX3_nextRoom_43 : decode cX3_nextRoom 43 = .ok (.aload_n 0, 1) := by decide +kernel
theorem dX3_nextRoom_44 : decode cX3_nextRoom 44 = .ok (.iload 6, 2) := by decide +kernel
theorem dX3_nextRoom_46 : decode cX3_nextRoom 46 = .ok (.iload_n 1, 1) := by decide +kernel
theorem dX3_nextRoom_47 : decode cX3_nextRoom 47 = .ok (.invokevirtual 39, 3) := by decide +kernel
theorem dX3_nextRoom_50 : decode cX3_nextRoom 50 = .ok (.ifCond .eq 20, 3) := by decide +kernel
theorem dX3_nextRoom_53 : decode cX3_nextRoom 53 = .ok (.iload 4, 2) := by decide +kernel
theorem dX3_nextRoom_55 : decode cX3_nextRoom 55 = .ok (.iconst (-1), 1) := by decide +kernel
theorem dX3_nextRoom_56 : decode cX3_nextRoom 56 = .ok (.if_icmp .eq 10, 3) := by decide +kernel
theorem dX3_nextRoom_59 : decode cX3_nextRoom 59 = .ok (.iload 6, 2) := by decide +kernel
theorem dX3_nextRoom_61 : decode cX3_nextRoom 61 = .ok (.iload 4, 2) := by decide +kernel
theorem dX3_nextRoom_63 : decode cX3_nextRoom 63 = .ok (.if_icmp .ge 7, 3) := by decide +kernel
theorem dX3_nextRoom_66 : decode cX3_nextRoom 66 = .ok (.iload 6, 2) := by decide +kernel
theorem dX3_nextRoom_68 : decode cX3_nextRoom 68 = .ok (.istore 4, 2) := by decide +kernel
theorem dX3_nextRoom_70 : decode cX3_nextRoom 70 = .ok (.iinc 5 1, 3) := by decide +kernel
theorem dX3_nextRoom_73 : decode cX3_nextRoom 73 = .ok (.goto (-61), 3) := by decide +kernel
theorem dX3_nextRoom_76 : decode cX3_nextRoom 76 = .ok (.iload 4, 2) := by decide +kernel
theorem dX3_nextRoom_78 : decode cX3_nextRoom 78 = .ok (.ireturn, 1) := by decide +kernel
theorem dX3_beyondDoor_0 : decode cX3_beyondDoor 0 = .ok (.aload_n 0, 1) := by decide +kernel
theorem dX3_beyondDoor_1 : decode cX3_beyondDoor 1 = .ok (.getfield 9, 3) := by decide +kernel
theorem dX3_beyondDoor_4 : decode cX3_beyondDoor 4 = .ok (.iload_n 1, 1) := by decide +kernel
theorem dX3_beyondDoor_5 : decode cX3_beyondDoor 5 = .ok (.iaload, 1) := by decide +kernel
theorem dX3_beyondDoor_6 : decode cX3_beyondDoor 6 = .ok (.iload_n 2, 1) := by decide +kernel
theorem dX3_beyondDoor_7 : decode cX3_beyondDoor 7 = .ok (.if_icmp .ne 10, 3) := by decide +kernel
theorem dX3_beyondDoor_10 : decode cX3_beyondDoor 10 = .ok (.aload_n 0, 1) := by decide +kernel
theorem dX3_beyondDoor_11 : decode cX3_beyondDoor 11 = .ok (.getfield 15, 3) := by decide +kernel
theorem dX3_beyondDoor_14 : decode cX3_beyondDoor 14 = .ok (.iload_n 1, 1) := by decide +kernel
theorem dX3_beyondDoor_15 : decode cX3_beyondDoor 15 = .ok (.iaload, 1) := by decide +kernel
theorem dX3_beyondDoor_16 : decode cX3_beyondDoor 16 = .ok (.ireturn, 1) := by decide +kernel
theorem dX3_beyondDoor_17 : decode cX3_beyondDoor 17 = .ok (.aload_n 0, 1) := by decide +kernel
theorem dX3_beyondDoor_18 : decode cX3_beyondDoor 18 = .ok (.getfield 15, 3) := by decide +kernel
theorem dX3_beyondDoor_21 : decode cX3_beyondDoor 21 = .ok (.iload_n 1, 1) := by decide +kernel
theorem dX3_beyondDoor_22 : decode cX3_beyondDoor 22 = .ok (.iaload, 1) := by decide +kernel
theorem dX3_beyondDoor_23 : decode cX3_beyondDoor 23 = .ok (.iload_n 2, 1) := by decide +kernel
theorem dX3_beyondDoor_24 : decode cX3_beyondDoor 24 = .ok (.if_icmp .ne 12, 3) := by decide +kernel
theorem dX3_beyondDoor_27 : decode cX3_beyondDoor 27 = .ok (.aload_n 0, 1) := by decide +kernel
theorem dX3_beyondDoor_28 : decode cX3_beyondDoor 28 = .ok (.getfield 9, 3) := by decide +kernel
theorem dX3_beyondDoor_31 : decode cX3_beyondDoor 31 = .ok (.iload_n 1, 1) := by decide +kernel
theorem dX3_beyondDoor_32 : decode cX3_beyondDoor 32 = .ok (.iaload, 1) := by decide +kernel
theorem dX3_beyondDoor_33 : decode cX3_beyondDoor 33 = .ok (.goto 4, 3) := by decide +kernel
theorem dX3_beyondDoor_36 : decode cX3_beyondDoor 36 = .ok (.iconst (-1), 1) := by decide +kernel
theorem dX3_beyondDoor_37 : decode cX3_beyondDoor 37 = .ok (.ireturn, 1) := by decide +kernel
theorem dX3_isNearer_0 : decode cX3_isNearer 0 = .ok (.aload_n 0, 1) := by decide +kernel
theorem dX3_isNearer_1 : decode cX3_isNearer 1 = .ok (.getfield 18, 3) := by decide +kernel
theorem dX3_isNearer_4 : decode cX3_isNearer 4 = .ok (.iload_n 1, 1) := by decide +kernel
theorem dX3_isNearer_5 : decode cX3_isNearer 5 = .ok (.iaload, 1) := by decide +kernel
theorem dX3_isNearer_6 : decode cX3_isNearer 6 = .ok (.iconst (-1), 1) := by decide +kernel
theorem dX3_isNearer_7 : decode cX3_isNearer 7 = .ok (.if_icmp .eq 22, 3) := by decide +kernel
theorem dX3_isNearer_10 : decode cX3_isNearer 10 = .ok (.aload_n 0, 1) := by decide +kernel
theorem dX3_isNearer_11 : decode cX3_isNearer 11 = .ok (.getfield 18, 3) := by decide +kernel
theorem dX3_isNearer_14 : decode cX3_isNearer 14 = .ok (.iload_n 1, 1) := by decide +kernel
theorem dX3_isNearer_15 : decode cX3_isNearer 15 = .ok (.iaload, 1) := by decide +kernel
theorem dX3_isNearer_16 : decode cX3_isNearer 16 = .ok (.aload_n 0, 1) := by decide +kernel
theorem dX3_isNearer_17 : decode cX3_isNearer 17 = .ok (.getfield 18, 3) := by decide +kernel
theorem dX3_isNearer_20 : decode cX3_isNearer 20 = .ok (.iload_n 2, 1) := by decide +kernel
theorem dX3_isNearer_21 : decode cX3_isNearer 21 = .ok (.iaload, 1) := by decide +kernel
theorem dX3_isNearer_22 : decode cX3_isNearer 22 = .ok (.if_icmp .ge 7, 3) := by decide +kernel
theorem dX3_isNearer_25 : decode cX3_isNearer 25 = .ok (.iconst 1, 1) := by decide +kernel
theorem dX3_isNearer_26 : decode cX3_isNearer 26 = .ok (.goto 4, 3) := by decide +kernel
theorem dX3_isNearer_29 : decode cX3_isNearer 29 = .ok (.iconst 0, 1) := by decide +kernel
theorem dX3_isNearer_30 : decode cX3_isNearer 30 = .ok (.ireturn, 1) := by decide +kernel
theorem dX3_measureTo_0 : decode cX3_measureTo 0 = .ok (.iconst 0, 1) := by decide +kernel
theorem dX3_measureTo_1 : decode cX3_measureTo 1 = .ok (.istore_n 3, 1) := by decide +kernel
theorem dX3_measureTo_2 : decode cX3_measureTo 2 = .ok (.iload_n 3, 1) := by decide +kernel
theorem dX3_measureTo_3 : decode cX3_measureTo 3 = .ok (.aload_n 0, 1) := by decide +kernel
theorem dX3_measureTo_4 : decode cX3_measureTo 4 = .ok (.getfield 21, 3) := by decide +kernel
theorem dX3_measureTo_7 : decode cX3_measureTo 7 = .ok (.if_icmp .ge 16, 3) := by decide +kernel
theorem dX3_measureTo_10 : decode cX3_measureTo 10 = .ok (.aload_n 0, 1) := by decide +kernel
theorem dX3_measureTo_11 : decode cX3_measureTo 11 = .ok (.getfield 18, 3) := by decide +kernel
theorem dX3_measureTo_14 : decode cX3_measureTo 14 = .ok (.iload_n 3, 1) := by decide +kernel
theorem dX3_measureTo_15 : decode cX3_measureTo 15 = .ok (.iconst (-1), 1) := by decide +kernel
theorem dX3_measureTo_16 : decode cX3_measureTo 16 = .ok (.iastore, 1) := by decide +kernel
theorem dX3_measureTo_17 : decode cX3_measureTo 17 = .ok (.iinc 3 1, 3) := by decide +kernel
theorem dX3_measureTo_20 : decode cX3_measureTo 20 = .ok (.goto (-18), 3) := by decide +kernel
theorem dX3_measureTo_23 : decode cX3_measureTo 23 = .ok (.aload_n 0, 1) := by decide +kernel
theorem dX3_measureTo_24 : decode cX3_measureTo 24 = .ok (.getfield 18, 3) := by decide +kernel
theorem dX3_measureTo_27 : decode cX3_measureTo 27 = .ok (.iload_n 1, 1) := by decide +kernel
theorem dX3_measureTo_28 : decode cX3_measureTo 28 = .ok (.iconst 0, 1) := by decide +kernel
theorem dX3_measureTo_29 : decode cX3_measureTo 29 = .ok (.iastore, 1) := by decide +kernel
theorem dX3_measureTo_30 : decode cX3_measureTo 30 = .ok (.iconst 0, 1) := by decide +kernel
theorem dX3_measureTo_31 : decode cX3_measureTo 31 = .ok (.istore_n 3, 1) := by decide +kernel
theorem dX3_measureTo_32 : decode cX3_measureTo 32 = .ok (.iload_n 3, 1) := by decide +kernel
theorem dX3_measureTo_33 : decode cX3_measureTo 33 = .ok (.aload_n 0, 1) := by decide +kernel
theorem dX3_measureTo_34 : decode cX3_measureTo 34 = .ok (.getfield 21, 3) := by decide +kernel
theorem dX3_measureTo_37 : decode cX3_measureTo 37 = .ok (.if_icmp .ge 72, 3) := by decide +kernel
theorem dX3_measureTo_40 : decode cX3_measureTo 40 = .ok (.iconst 0, 1) := by decide +kernel
theorem dX3_measureTo_41 : decode cX3_measureTo 41 = .ok (.istore 4, 2) := by decide +kernel
theorem dX3_measureTo_43 : decode cX3_measureTo 43 = .ok (.iload 4, 2) := by decide +kernel
theorem dX3_measureTo_45 : decode cX3_measureTo 45 = .ok (.aload_n 0, 1) := by decide +kernel
theorem dX3_measureTo_46 : decode cX3_measureTo 46 = .ok (.getfield 25, 3) := by decide +kernel
theorem dX3_measureTo_49 : decode cX3_measureTo 49 = .ok (.if_icmp .ge 54, 3) := by decide +kernel
theorem dX3_measureTo_52 : decode cX3_measureTo 52 = .ok (.aload_n 2, 1) := by decide +kernel
theorem dX3_measureTo_53 : decode cX3_measureTo 53 = .ok (.iload 4, 2) := by decide +kernel
theorem dX3_measureTo_55 : decode cX3_measureTo 55 = .ok (.baload, 1) := by decide +kernel
theorem dX3_measureTo_56 : decode cX3_measureTo 56 = .ok (.ifCond .ne 41, 3) := by decide +kernel
theorem dX3_measureTo_59 : decode cX3_measureTo 59 = .ok (.aload_n 0, 1) := by decide +kernel
theorem dX3_measureTo_60 : decode cX3_measureTo 60 = .ok (.aload_n 0, 1) := by decide +kernel
theorem dX3_measureTo_61 : decode cX3_measureTo 61 = .ok (.getfield 9, 3) := by decide +kernel
theorem dX3_measureTo_64 : decode cX3_measureTo 64 = .ok (.iload 4, 2) := by decide +kernel
theorem dX3_measureTo_66 : decode cX3_measureTo 66 = .ok (.iaload, 1) := by decide +kernel
theorem dX3_measureTo_67 : decode cX3_measureTo 67 = .ok (.aload_n 0, 1) := by decide +kernel
theorem dX3_measureTo_68 : decode cX3_measureTo 68 = .ok (.getfield 15, 3) := by decide +kernel
theorem dX3_measureTo_71 : decode cX3_measureTo 71 = .ok (.iload 4, 2) := by decide +kernel
theorem dX3_measureTo_73 : decode cX3_measureTo 73 = .ok (.iaload, 1) := by decide +kernel
theorem dX3_measureTo_74 : decode cX3_measureTo 74 = .ok (.iload_n 3, 1) := by decide +kernel
theorem dX3_measureTo_75 : decode cX3_measureTo 75 = .ok (.invokevirtual 43, 3) := by decide +kernel
theorem dX3_measureTo_78 : decode cX3_measureTo 78 = .ok (.aload_n 0, 1) := by decide +kernel
theorem dX3_measureTo_79 : decode cX3_measureTo 79 = .ok (.aload_n 0, 1) := by decide +kernel
theorem dX3_measureTo_80 : decode cX3_measureTo 80 = .ok (.getfield 15, 3) := by decide +kernel
theorem dX3_measureTo_83 : decode cX3_measureTo 83 = .ok (.iload 4, 2) := by decide +kernel
theorem dX3_measureTo_85 : decode cX3_measureTo 85 = .ok (.iaload, 1) := by decide +kernel
theorem dX3_measureTo_86 : decode cX3_measureTo 86 = .ok (.aload_n 0, 1) := by decide +kernel
theorem dX3_measureTo_87 : decode cX3_measureTo 87 = .ok (.getfield 9, 3) := by decide +kernel
theorem dX3_measureTo_90 : decode cX3_measureTo 90 = .ok (.iload 4, 2) := by decide +kernel
theorem dX3_measureTo_92 : decode cX3_measureTo 92 = .ok (.iaload, 1) := by decide +kernel
theorem dX3_measureTo_93 : decode cX3_measureTo 93 = .ok (.iload_n 3, 1) := by decide +kernel
theorem dX3_measureTo_94 : decode cX3_measureTo 94 = .ok (.invokevirtual 43, 3) := by decide +kernel
theorem dX3_measureTo_97 : decode cX3_measureTo 97 = .ok (.iinc 4 1, 3) := by decide +kernel
theorem dX3_measureTo_100 : decode cX3_measureTo 100 = .ok (.goto (-57), 3) := by decide +kernel
theorem dX3_measureTo_103 : decode cX3_measureTo 103 = .ok (.iinc 3 1, 3) := by decide +kernel
theorem dX3_measureTo_106 : decode cX3_measureTo 106 = .ok (.goto (-74), 3) := by decide +kernel
theorem dX3_measureTo_109 : decode cX3_measureTo 109 = .ok (.return_, 1) := by decide +kernel
theorem dX3_spread_0 : decode cX3_spread 0 = .ok (.aload_n 0, 1) := by decide +kernel
theorem dX3_spread_1 : decode cX3_spread 1 = .ok (.getfield 18, 3) := by decide +kernel
theorem dX3_spread_4 : decode cX3_spread 4 = .ok (.iload_n 1, 1) := by decide +kernel
theorem dX3_spread_5 : decode cX3_spread 5 = .ok (.iaload, 1) := by decide +kernel
theorem dX3_spread_6 : decode cX3_spread 6 = .ok (.iload_n 3, 1) := by decide +kernel
theorem dX3_spread_7 : decode cX3_spread 7 = .ok (.if_icmp .ne 22, 3) := by decide +kernel
theorem dX3_spread_10 : decode cX3_spread 10 = .ok (.aload_n 0, 1) := by decide +kernel
theorem dX3_spread_11 : decode cX3_spread 11 = .ok (.getfield 18, 3) := by decide +kernel
theorem dX3_spread_14 : decode cX3_spread 14 = .ok (.iload_n 2, 1) := by decide +kernel
theorem dX3_spread_15 : decode cX3_spread 15 = .ok (.iaload, 1) := by decide +kernel
theorem dX3_spread_16 : decode cX3_spread 16 = .ok (.iconst (-1), 1) := by decide +kernel
theorem dX3_spread_17 : decode cX3_spread 17 = .ok (.if_icmp .ne 12, 3) := by decide +kernel
theorem dX3_spread_20 : decode cX3_spread 20 = .ok (.aload_n 0, 1) := by decide +kernel
theorem dX3_spread_21 : decode cX3_spread 21 = .ok (.getfield 18, 3) := by decide +kernel
theorem dX3_spread_24 : decode cX3_spread 24 = .ok (.iload_n 2, 1) := by decide +kernel
theorem dX3_spread_25 : decode cX3_spread 25 = .ok (.iload_n 3, 1) := by decide +kernel
theorem dX3_spread_26 : decode cX3_spread 26 = .ok (.iconst 1, 1) := by decide +kernel
theorem dX3_spread_27 : decode cX3_spread 27 = .ok (.iadd, 1) := by decide +kernel
theorem dX3_spread_28 : decode cX3_spread 28 = .ok (.iastore, 1) := by decide +kernel
theorem dX3_spread_29 : decode cX3_spread 29 = .ok (.return_, 1) := by decide +kernel
theorem dX4_init_0 : decode cX4_init 0 = .ok (.aload_n 0, 1) := by decide +kernel
theorem dX4_init_1 : decode cX4_init 1 = .ok (.invokespecial 3, 3) := by decide +kernel
theorem dX4_init_4 : decode cX4_init 4 = .ok (.aload_n 0, 1) := by decide +kernel
theorem dX4_init_5 : decode cX4_init 5 = .ok (.iconst 1, 1) := by decide +kernel
theorem dX4_init_6 : decode cX4_init 6 = .ok (.putfield 9, 3) := by decide +kernel
theorem dX4_init_9 : decode cX4_init 9 = .ok (.aload_n 0, 1) := by decide +kernel
theorem dX4_init_10 : decode cX4_init 10 = .ok (.bipush 40, 2) := by decide +kernel
theorem dX4_init_12 : decode cX4_init 12 = .ok (.newarray .int, 2) := by decide +kernel
theorem dX4_init_14 : decode cX4_init 14 = .ok (.putfield 15, 3) := by decide +kernel
theorem dX4_init_17 : decode cX4_init 17 = .ok (.aload_n 0, 1) := by decide +kernel
theorem dX4_init_18 : decode cX4_init 18 = .ok (.bipush 40, 2) := by decide +kernel
theorem dX4_init_20 : decode cX4_init 20 = .ok (.newarray .int, 2) := by decide +kernel
theorem dX4_init_22 : decode cX4_init 22 = .ok (.putfield 19, 3) := by decide +kernel
theorem dX4_init_25 : decode cX4_init 25 = .ok (.aload_n 0, 1) := by decide +kernel
theorem dX4_init_26 : decode cX4_init 26 = .ok (.bipush 8, 2) := by decide +kernel
theorem dX4_init_28 : decode cX4_init 28 = .ok (.newarray .int, 2) := by decide +kernel
theorem dX4_init_30 : decode cX4_init 30 = .ok (.putfield 22, 3) := by decide +kernel
theorem dX4_init_33 : decode cX4_init 33 = .ok (.aload_n 0, 1) := by decide +kernel
theorem dX4_init_34 : decode cX4_init 34 = .ok (.bipush 15, 2) := by decide +kernel
theorem dX4_init_36 : decode cX4_init 36 = .ok (.newarray .boolean, 2) := by decide +kernel
theorem dX4_init_38 : decode cX4_init 38 = .ok (.putfield 25, 3) := by decide +kernel
theorem dX4_init_41 : decode cX4_init 41 = .ok (.aload_n 0, 1) := by decide +kernel
theorem dX4_init_42 : decode cX4_init 42 = .ok (.iconst 4, 1) := by decide +kernel
theorem dX4_init_43 : decode cX4_init 43 = .ok (.newarray .int, 2) := by decide +kernel
theorem dX4_init_45 : decode cX4_init 45 = .ok (.putfield 29, 3) := by decide +kernel
theorem dX4_init_48 : decode cX4_init 48 = .ok (.aload_n 0, 1) := by decide +kernel
theorem dX4_init_49 : decode cX4_init 49 = .ok (.iconst 4, 1) := by decide +kernel
theorem dX4_init_50 : decode cX4_init 50 = .ok (.newarray .int, 2) := by decide +kernel
theorem dX4_init_52 : decode cX4_init 52 = .ok (.putfield 32, 3) := by decide +kernel
theorem dX4_init_55 : decode cX4_init 55 = .ok (.aload_n 0, 1) := by decide +kernel
theorem dX4_init_56 : decode cX4_init 56 = .ok (.bipush 12, 2) := by decide +kernel
theorem dX4_init_58 : decode cX4_init 58 = .ok (.newarray .int, 2) := by decide +kernel
theorem dX4_init_60 : decode cX4_init 60 = .ok (.putfield 35, 3) := by decide +kernel
theorem dX4_init_63 : decode cX4_init 63 = .ok (.aload_n 0, 1) := by decide +kernel
theorem dX4_init_64 : decode cX4_init 64 = .ok (.bipush 12, 2) := by decide +kernel
theorem dX4_init_66 : decode cX4_init 66 = .ok (.newarray .boolean, 2) := by decide +kernel
theorem dX4_init_68 : decode cX4_init 68 = .ok (.putfield 38, 3) := by decide +kernel
theorem dX4_init_71 : decode cX4_init 71 = .ok (.aload_n 0, 1) := by decide +kernel
theorem dX4_init_72 : decode cX4_init 72 = .ok (.bipush 12, 2) := by decide +kernel
theorem dX4_init_74 : decode cX4_init 74 = .ok (.newarray .boolean, 2) := by decide +kernel
theorem dX4_init_76 : decode cX4_init 76 = .ok (.putfield 41, 3) := by decide +kernel
theorem dX4_init_79 : decode cX4_init 79 = .ok (.return_, 1) := by decide +kernel
theorem dX4_goOn_0 : decode cX4_goOn 0 = .ok (.aload_n 0, 1) := by decide +kernel
theorem dX4_goOn_1 : decode cX4_goOn 1 = .ok (.dup, 1) := by decide +kernel
theorem dX4_goOn_2 : decode cX4_goOn 2 = .ok (.getfield 44, 3) := by decide +kernel
theorem dX4_goOn_5 : decode cX4_goOn 5 = .ok (.iload_n 1, 1) := by decide +kernel
theorem dX4_goOn_6 : decode cX4_goOn 6 = .ok (.iadd, 1) := by decide +kernel
theorem dX4_goOn_7 : decode cX4_goOn 7 = .ok (.putfield 44, 3) := by decide +kernel
theorem dX4_goOn_10 : decode cX4_goOn 10 = .ok (.aload_n 0, 1) := by decide +kernel
theorem dX4_goOn_11 : decode cX4_goOn 11 = .ok (.getfield 44, 3) := by decide +kernel
theorem dX4_goOn_14 : decode cX4_goOn 14 = .ok (.sipush 1440, 3) := by decide +kernel
theorem dX4_goOn_17 : decode cX4_goOn 17 = .ok (.if_icmp .lt 25, 3) := by decide +kernel
theorem dX4_goOn_20 : decode cX4_goOn 20 = .ok (.aload_n 0, 1) := by decide +kernel
theorem dX4_goOn_21 : decode cX4_goOn 21 = .ok (.dup, 1) := by decide +kernel
theorem dX4_goOn_22 : decode cX4_goOn 22 = .ok (.getfield 44, 3) := by decide +kernel
theorem dX4_goOn_25 : decode cX4_goOn 25 = .ok (.sipush 1440, 3) := by decide +kernel
theorem dX4_goOn_28 : decode cX4_goOn 28 = .ok (.isub, 1) := by decide +kernel
theorem dX4_goOn_29 : decode cX4_goOn 29 = .ok (.putfield 44, 3) := by decide +kernel
theorem dX4_goOn_32 : decode cX4_goOn 32 = .ok (.aload_n 0, 1) := by decide +kernel
theorem dX4_goOn_33 : decode cX4_goOn 33 = .ok (.dup, 1) := by decide +kernel
theorem dX4_goOn_34 : decode cX4_goOn 34 = .ok (.getfield 47, 3) := by decide +kernel
theorem dX4_goOn_37 : decode cX4_goOn 37 = .ok (.iconst 1, 1) := by decide +kernel
theorem dX4_goOn_38 : decode cX4_goOn 38 = .ok (.iadd, 1) := by decide +kernel
theorem dX4_goOn_39 : decode cX4_goOn 39 = .ok (.putfield 47, 3) := by decide +kernel
theorem dX4_goOn_42 : decode cX4_goOn 42 = .ok (.return_, 1) := by decide +kernel
theorem dX4_growCounter_0 : decode cX4_growCounter 0 = .ok (.iload_n 1, 1) := by decide +kernel
theorem dX4_growCounter_1 : decode cX4_growCounter 1 = .ok (.invokestatic 50, 3) := by decide +kernel
theorem dX4_growCounter_4 : decode cX4_growCounter 4 = .ok (.ifCond .eq 29, 3) := by decide +kernel
theorem dX4_growCounter_7 : decode cX4_growCounter 7 = .ok (.aload_n 0, 1) := by decide +kernel
theorem dX4_growCounter_8 : decode cX4_growCounter 8 = .ok (.getfield 22, 3) := by decide +kernel
theorem dX4_growCounter_11 : decode cX4_growCounter 11 = .ok (.iload_n 1, 1) := by decide +kernel
theorem dX4_growCounter_12 : decode cX4_growCounter 12 = .ok (.sipush (-1000), 3) := by decide +kernel
theorem dX4_growCounter_15 : decode cX4_growCounter 15 = .ok (.sipush 1000, 3) := by decide +kernel
theorem dX4_growCounter_18 : decode cX4_growCounter 18 = .ok (.aload_n 0, 1) := by decide +kernel
theorem dX4_growCounter_19 : decode cX4_growCounter 19 = .ok (.getfield 22, 3) := by decide +kernel
theorem dX4_growCounter_22 : decode cX4_growCounter 22 = .ok (.iload_n 1, 1) := by decide +kernel
theorem dX4_growCounter_23 : decode cX4_growCounter 23 = .ok (.iaload, 1) := by decide +kernel
theorem dX4_growCounter_24 : decode cX4_growCounter 24 = .ok (.iload_n 2, 1) := by decide +kernel
theorem dX4_growCounter_25 : decode cX4_growCounter 25 = .ok (.iadd, 1) := by decide +kernel
theorem dX4_growCounter_26 : decode cX4_growCounter 26 = .ok (.invokestatic 54, 3) := by decide +kernel
theorem dX4_growCounter_29 : decode cX4_growCounter 29 = .ok (.invokestatic 60, 3) := by decide +kernel
theorem dX4_growCounter_32 : decode cX4_growCounter 32 = .ok (.iastore, 1) := by decide +kernel
theorem dX4_growCounter_33 : decode cX4_growCounter 33 = .ok (.return_, 1) := by decide +kernel
theorem dX4_addRow_0 : decode cX4_addRow 0 = .ok (.aload_n 0, 1) := by decide +kernel
theorem dX4_addRow_1 : decode cX4_addRow 1 = .ok (.getfield 63, 3) := by decide +kernel
theorem dX4_addRow_4 : decode cX4_addRow 4 = .ok (.bipush 40, 2) := by decide +kernel
theorem dX4_addRow_6 : decode cX4_addRow 6 = .ok (.if_icmp .ge 33, 3) := by decide +kernel
theorem dX4_addRow_9 : decode cX4_addRow 9 = .ok (.aload_n 0, 1) := by decide +kernel
theorem dX4_addRow_10 : decode cX4_addRow 10 = .ok (.getfield 15, 3) := by decide +kernel
theorem dX4_addRow_13 : decode cX4_addRow 13 = .ok (.aload_n 0, 1) := by decide +kernel
theorem dX4_addRow_14 : decode cX4_addRow 14 = .ok (.getfield 63, 3) := by decide +kernel
theorem dX4_addRow_17 : decode cX4_addRow 17 = .ok (.iload_n 1, 1) := by decide +kernel
theorem dX4_addRow_18 : decode cX4_addRow 18 = .ok (.iastore, 1) := by decide +kernel
theorem dX4_addRow_19 : decode cX4_addRow 19 = .ok (.aload_n 0, 1) := by decide +kernel
theorem dX4_addRow_20 : decode cX4_addRow 20 = .ok (.getfield 19, 3) := by decide +kernel
theorem dX4_addRow_23 : decode cX4_addRow 23 = .ok (.aload_n 0, 1) := by decide +kernel
theorem dX4_addRow_24 : decode cX4_addRow 24 = .ok (.getfield 63, 3) := by decide +kernel
theorem dX4_addRow_27 : decode cX4_addRow 27 = .ok (.iload_n 2, 1) := by decide +kernel
theorem dX4_addRow_28 : decode cX4_addRow 28 = .ok (.iastore, 1) := by decide +kernel
theorem dX4_addRow_29 : decode cX4_addRow 29 = .ok (.aload_n 0, 1) := by decide +kernel
theorem dX4_addRow_30 : decode cX4_addRow 30 = .ok (.dup, 1) := by decide +kernel
theorem dX4_addRow_31 : decode cX4_addRow 31 = .ok (.getfield 63, 3) := by decide +kernel
theorem dX4_addRow_34 : decode cX4_addRow 34 = .ok (.iconst 1, 1) := by decide +kernel
theorem dX4_addRow_35 : decode cX4_addRow 35 = .ok (.iadd, 1) := by decide +kernel
theorem dX4_addRow_36 : decode cX4_addRow 36 = .ok (.putfield 63, 3) := by decide +kernel
theorem dX4_addRow_39 : decode cX4_addRow 39 = .ok (.return_, 1) := by decide +kernel
theorem dX4_copyFrom_0 : decode cX4_copyFrom 0 = .ok (.aload_n 0, 1) := by decide +kernel
theorem dX4_copyFrom_1 : decode cX4_copyFrom 1 = .ok (.aload_n 1, 1) := by decide +kernel
theorem dX4_copyFrom_2 : decode cX4_copyFrom 2 = .ok (.getfield 44, 3) := by decide +kernel
theorem dX4_copyFrom_5 : decode cX4_copyFrom 5 = .ok (.putfield 44, 3) := by decide +kernel
theorem dX4_copyFrom_8 : decode cX4_copyFrom 8 = .ok (.aload_n 0, 1) := by decide +kernel
theorem dX4_copyFrom_9 : decode cX4_copyFrom 9 = .ok (.aload_n 1, 1) := by decide +kernel
theorem dX4_copyFrom_10 : decode cX4_copyFrom 10 = .ok (.getfield 47, 3) := by decide +kernel
theorem dX4_copyFrom_13 : decode cX4_copyFrom 13 = .ok (.putfield 47, 3) := by decide +kernel
theorem dX4_copyFrom_16 : decode cX4_copyFrom 16 = .ok (.aload_n 0, 1) := by decide +kernel
theorem dX4_copyFrom_17 : decode cX4_copyFrom 17 = .ok (.aload_n 1, 1) := by decide +kernel
theorem dX4_copyFrom_18 : decode cX4_copyFrom 18 = .ok (.getfield 66, 3) := by decide +kernel
theorem dX4_copyFrom_21 : decode cX4_copyFrom 21 = .ok (.putfield 66, 3) := by decide +kernel
theorem dX4_copyFrom_24 : decode cX4_copyFrom 24 = .ok (.aload_n 0, 1) := by decide +kernel
theorem dX4_copyFrom_25 : decode cX4_copyFrom 25 = .ok (.aload_n 1, 1) := by decide +kernel
theorem dX4_copyFrom_26 : decode cX4_copyFrom 26 = .ok (.getfield 9, 3) := by decide +kernel
theorem dX4_copyFrom_29 : decode cX4_copyFrom 29 = .ok (.putfield 9, 3) := by decide +kernel
theorem dX4_copyFrom_32 : decode cX4_copyFrom 32 = .ok (.aload_n 0, 1) := by decide +kernel
theorem dX4_copyFrom_33 : decode cX4_copyFrom 33 = .ok (.aload_n 1, 1) := by decide +kernel
theorem dX4_copyFrom_34 : decode cX4_copyFrom 34 = .ok (.getfield 69, 3) := by decide +kernel
theorem dX4_copyFrom_37 : decode cX4_copyFrom 37 = .ok (.putfield 69, 3) := by decide +kernel
theorem dX4_copyFrom_40 : decode cX4_copyFrom 40 = .ok (.aload_n 0, 1) := by decide +kernel
theorem dX4_copyFrom_41 : decode cX4_copyFrom 41 = .ok (.aload_n 1, 1) := by decide +kernel
theorem dX4_copyFrom_42 : decode cX4_copyFrom 42 = .ok (.getfield 63, 3) := by decide +kernel
theorem dX4_copyFrom_45 : decode cX4_copyFrom 45 = .ok (.putfield 63, 3) := by decide +kernel
theorem dX4_copyFrom_48 : decode cX4_copyFrom 48 = .ok (.aload_n 1, 1) := by decide +kernel
theorem dX4_copyFrom_49 : decode cX4_copyFrom 49 = .ok (.getfield 15, 3) := by decide +kernel
theorem dX4_copyFrom_52 : decode cX4_copyFrom 52 = .ok (.iconst 0, 1) := by decide +kernel
theorem dX4_copyFrom_53 : decode cX4_copyFrom 53 = .ok (.aload_n 0, 1) := by decide +kernel
theorem dX4_copyFrom_54 : decode cX4_copyFrom 54 = .ok (.getfield 15, 3) := by decide +kernel
theorem dX4_copyFrom_57 : decode cX4_copyFrom 57 = .ok (.iconst 0, 1) := by decide +kernel
theorem dX4_copyFrom_58 : decode cX4_copyFrom 58 = .ok (.bipush 40, 2) := by decide +kernel
theorem dX4_copyFrom_60 : decode cX4_copyFrom 60 = .ok (.invokestatic 72, 3) := by decide +kernel
theorem dX4_copyFrom_63 : decode cX4_copyFrom 63 = .ok (.aload_n 1, 1) := by decide +kernel
theorem dX4_copyFrom_64 : decode cX4_copyFrom 64 = .ok (.getfield 19, 3) := by decide +kernel
theorem dX4_copyFrom_67 : decode cX4_copyFrom 67 = .ok (.iconst 0, 1) := by decide +kernel
theorem dX4_copyFrom_68 : decode cX4_copyFrom 68 = .ok (.aload_n 0, 1) := by decide +kernel
theorem dX4_copyFrom_69 : decode cX4_copyFrom 69 = .ok (.getfield 19, 3) := by decide +kernel
theorem dX4_copyFrom_72 : decode cX4_copyFrom 72 = .ok (.iconst 0, 1) := by decide +kernel
theorem dX4_copyFrom_73 : decode cX4_copyFrom 73 = .ok (.bipush 40, 2) := by decide +kernel
theorem dX4_copyFrom_75 : decode cX4_copyFrom 75 = .ok (.invokestatic 72, 3) := by decide +kernel
theorem dX4_copyFrom_78 : decode cX4_copyFrom 78 = .ok (.aload_n 1, 1) := by decide +kernel
theorem dX4_copyFrom_79 : decode cX4_copyFrom 79 = .ok (.getfield 22, 3) := by decide +kernel
theorem dX4_copyFrom_82 : decode cX4_copyFrom 82 = .ok (.iconst 0, 1) := by decide +kernel
theorem dX4_copyFrom_83 : decode cX4_copyFrom 83 = .ok (.aload_n 0, 1) := by decide +kernel
theorem dX4_copyFrom_84 : decode cX4_copyFrom 84 = .ok (.getfield 22, 3) := by decide +kernel
theorem dX4_copyFrom_87 : decode cX4_copyFrom 87 = .ok (.iconst 0, 1) := by decide +kernel
theorem dX4_copyFrom_88 : decode cX4_copyFrom 88 = .ok (.bipush 8, 2) := by decide +kernel
theorem dX4_copyFrom_90 : decode cX4_copyFrom 90 = .ok (.invokestatic 72, 3) := by decide +kernel
theorem dX4_copyFrom_93 : decode cX4_copyFrom 93 = .ok (.aload_n 1, 1) := by decide +kernel
theorem dX4_copyFrom_94 : decode cX4_copyFrom 94 = .ok (.getfield 25, 3) := by decide +kernel
theorem dX4_copyFrom_97 : decode cX4_copyFrom 97 = .ok (.aload_n 0, 1) := by decide +kernel
theorem dX4_copyFrom_98 : decode cX4_copyFrom 98 = .ok (.getfield 25, 3) := by decide +kernel
theorem dX4_copyFrom_101 : decode cX4_copyFrom 101 = .ok (.invokestatic 78, 3) := by decide +kernel
theorem dX4_copyFrom_104 : decode cX4_copyFrom 104 = .ok (.aload_n 1, 1) := by decide +kernel
theorem dX4_copyFrom_105 : decode cX4_copyFrom 105 = .ok (.getfield 29, 3) := by decide +kernel
theorem dX4_copyFrom_108 : decode cX4_copyFrom 108 = .ok (.iconst 0, 1) := by decide +kernel
theorem dX4_copyFrom_109 : decode cX4_copyFrom 109 = .ok (.aload_n 0, 1) := by decide +kernel
theorem dX4_copyFrom_110 : decode cX4_copyFrom 110 = .ok (.getfield 29, 3) := by decide +kernel
theorem dX4_copyFrom_113 : decode cX4_copyFrom 113 = .ok (.iconst 0, 1) := by decide +kernel
theorem dX4_copyFrom_114 : decode cX4_copyFrom 114 = .ok (.iconst 4, 1) := by decide +kernel
theorem dX4_copyFrom_115 : decode cX4_copyFrom 115 = .ok (.invokestatic 72, 3) := by decide +kernel
theorem dX4_copyFrom_118 : decode cX4_copyFrom 118 = .ok (.aload_n 1, 1) := by decide +kernel
theorem dX4_copyFrom_119 : decode cX4_copyFrom 119 = .ok (.getfield 32, 3) := by decide +kernel
theorem dX4_copyFrom_122 : decode cX4_copyFrom 122 = .ok (.iconst 0, 1) := by decide +kernel
theorem dX4_copyFrom_123 : decode cX4_copyFrom 123 = .ok (.aload_n 0, 1) := by decide +kernel
theorem dX4_copyFrom_124 : decode cX4_copyFrom 124 = .ok (.getfield 32, 3) := by decide +kernel
theorem dX4_copyFrom_127 : decode cX4_copyFrom 127 = .ok (.iconst 0, 1) := by decide +kernel
theorem dX4_copyFrom_128 : decode cX4_copyFrom 128 = .ok (.iconst 4, 1) := by decide +kernel
theorem dX4_copyFrom_129 : decode cX4_copyFrom 129 = .ok (.invokestatic 72, 3) := by decide +kernel
theorem dX4_copyFrom_132 : decode cX4_copyFrom 132 = .ok (.aload_n 1, 1) := by decide +kernel
theorem dX4_copyFrom_133 : decode cX4_copyFrom 133 = .ok (.getfield 35, 3) := by decide +kernel
theorem dX4_copyFrom_136 : decode cX4_copyFrom 136 = .ok (.iconst 0, 1) := by decide +kernel
theorem dX4_copyFrom_137 : decode cX4_copyFrom 137 = .ok (.aload_n 0, 1) := by decide +kernel
theorem dX4_copyFrom_138 : decode cX4_copyFrom 138 = .ok (.getfield 35, 3) := by decide +kernel
theorem dX4_copyFrom_141 : decode cX4_copyFrom 141 = .ok (.iconst 0, 1) := by decide +kernel
theorem dX4_copyFrom_142 : decode cX4_copyFrom 142 = .ok (.bipush 12, 2) := by decide +kernel
theorem dX4_copyFrom_144 : decode cX4_copyFrom 144 = .ok (.invokestatic 72, 3) := by decide +kernel
theorem dX4_copyFrom_147 : decode cX4_copyFrom 147 = .ok (.aload_n 1, 1) := by decide +kernel
theorem dX4_copyFrom_148 : decode cX4_copyFrom 148 = .ok (.getfield 38, 3) := by decide +kernel
theorem dX4_copyFrom_151 : decode cX4_copyFrom 151 = .ok (.aload_n 0, 1) := by decide +kernel
theorem dX4_copyFrom_152 : decode cX4_copyFrom 152 = .ok (.getfield 38, 3) := by decide +kernel
theorem dX4_copyFrom_155 : decode cX4_copyFrom 155 = .ok (.invokestatic 78, 3) := by decide +kernel
theorem dX4_copyFrom_158 : decode cX4_copyFrom 158 = .ok (.aload_n 1, 1) := by decide +kernel
theorem dX4_copyFrom_159 : decode cX4_copyFrom 159 = .ok (.getfield 41, 3) := by decide +kernel
theorem dX4_copyFrom_162 : decode cX4_copyFrom 162 = .ok (.aload_n 0, 1) := by decide +kernel
theorem dX4_copyFrom_163 : decode cX4_copyFrom 163 = .ok (.getfield 41, 3) := by decide +kernel
theorem dX4_copyFrom_166 : decode cX4_copyFrom 166 = .ok (.invokestatic 78, 3) := by decide +kernel
theorem dX4_copyFrom_169 : decode cX4_copyFrom 169 = .ok (.return_, 1) := by decide +kernel
theorem dX4_copyFlags_0 : decode cX4_copyFlags 0 = .ok (.iconst 0, 1) := by decide +kernel
theorem dX4_copyFlags_1 : decode cX4_copyFlags 1 = .ok (.istore_n 2, 1) := by decide +kernel
theorem dX4_copyFlags_2 : decode cX4_copyFlags 2 = .ok (.iload_n 2, 1) := by decide +kernel
theorem dX4_copyFlags_3 : decode cX4_copyFlags 3 = .ok (.aload_n 0, 1) := by decide +kernel
theorem dX4_copyFlags_4 : decode cX4_copyFlags 4 = .ok (.arraylength, 1) := by decide +kernel
theorem dX4_copyFlags_5 : decode cX4_copyFlags 5 = .ok (.if_icmp .ge 21, 3) := by decide +kernel
theorem dX4_copyFlags_8 : decode cX4_copyFlags 8 = .ok (.iload_n 2, 1) := by decide +kernel
theorem dX4_copyFlags_9 : decode cX4_copyFlags 9 = .ok (.aload_n 1, 1) := by decide +kernel
theorem dX4_copyFlags_10 : decode cX4_copyFlags 10 = .ok (.arraylength, 1) := by decide +kernel
theorem dX4_copyFlags_11 : decode cX4_copyFlags 11 = .ok (.if_icmp .ge 15, 3) := by decide +kernel
theorem dX4_copyFlags_14 : decode cX4_copyFlags 14 = .ok (.aload_n 1, 1) := by decide +kernel
theorem dX4_copyFlags_15 : decode cX4_copyFlags 15 = .ok (.iload_n 2, 1) := by decide +kernel
theorem dX4_copyFlags_16 : decode cX4_copyFlags 16 = .ok (.aload_n 0, 1) := by decide +kernel
theorem dX4_copyFlags_17 : decode cX4_copyFlags 17 = .ok (.iload_n 2, 1) := by decide +kernel
theorem dX4_copyFlags_18 : decode cX4_copyFlags 18 = .ok (.baload, 1) := by decide +kernel
theorem dX4_copyFlags_19 : decode cX4_copyFlags 19 = .ok (.bastore, 1) := by decide +kernel
theorem dX4_copyFlags_20 : decode cX4_copyFlags 20 = .ok (.iinc 2 1, 3) := by decide +kernel
theorem dX4_copyFlags_23 : decode cX4_copyFlags 23 = .ok (.goto (-21), 3) := by decide +kernel
theorem dX4_copyFlags_26 : decode cX4_copyFlags 26 = .ok (.return_, 1) := by decide +kernel
theorem dX5_init_0 : decode cX5_init 0 = .ok (.aload_n 0, 1) := by decide +kernel
theorem dX5_init_1 : decode cX5_init 1 = .ok (.invokespecial 3, 3) := by decide +kernel
theorem dX5_init_4 : decode cX5_init 4 = .ok (.aload_n 0, 1) := by decide +kernel
theorem dX5_init_5 : decode cX5_init 5 = .ok (.bipush 8, 2) := by decide +kernel
theorem dX5_init_7 : decode cX5_init 7 = .ok (.anewarray 9, 3) := by decide +kernel
theorem dX5_init_10 : decode cX5_init 10 = .ok (.putfield 11, 3) := by decide +kernel
theorem dX5_init_13 : decode cX5_init 13 = .ok (.iconst 0, 1) := by decide +kernel
theorem dX5_init_14 : decode cX5_init 14 = .ok (.istore_n 1, 1) := by decide +kernel
theorem dX5_init_15 : decode cX5_init 15 = .ok (.iload_n 1, 1) := by decide +kernel
theorem dX5_init_16 : decode cX5_init 16 = .ok (.bipush 8, 2) := by decide +kernel
theorem dX5_init_18 : decode cX5_init 18 = .ok (.if_icmp .ge 22, 3) := by decide +kernel
theorem dX5_init_21 : decode cX5_init 21 = .ok (.aload_n 0, 1) := by decide +kernel
theorem dX5_init_22 : decode cX5_init 22 = .ok (.getfield 11, 3) := by decide +kernel
theorem dX5_init_25 : decode cX5_init 25 = .ok (.iload_n 1, 1) := by decide +kernel
theorem dX5_init_26 : decode cX5_init 26 = .ok (.new 9, 3) := by decide +kernel
theorem dX5_init_29 : decode cX5_init 29 = .ok (.dup, 1) := by decide +kernel
theorem dX5_init_30 : decode cX5_init 30 = .ok (.invokespecial 17, 3) := by decide +kernel
theorem dX5_init_33 : decode cX5_init 33 = .ok (.aastore, 1) := by decide +kernel
theorem dX5_init_34 : decode cX5_init 34 = .ok (.iinc 1 1, 3) := by decide +kernel
theorem dX5_init_37 : decode cX5_init 37 = .ok (.goto (-22), 3) := by decide +kernel
theorem dX5_init_40 : decode cX5_init 40 = .ok (.return_, 1) := by decide +kernel
theorem dX5_keep_0 : decode cX5_keep 0 = .ok (.aload_n 0, 1) := by decide +kernel
theorem dX5_keep_1 : decode cX5_keep 1 = .ok (.getfield 18, 3) := by decide +kernel
theorem dX5_keep_4 : decode cX5_keep 4 = .ok (.bipush 8, 2) := by decide +kernel
theorem dX5_keep_6 : decode cX5_keep 6 = .ok (.if_icmp .lt 7, 3) := by decide +kernel
theorem dX5_keep_9 : decode cX5_keep 9 = .ok (.aload_n 0, 1) := by decide +kernel
theorem dX5_keep_10 : decode cX5_keep 10 = .ok (.invokevirtual 22, 3) := by decide +kernel
theorem dX5_keep_13 : decode cX5_keep 13 = .ok (.aload_n 0, 1) := by decide +kernel
theorem dX5_keep_14 : decode cX5_keep 14 = .ok (.getfield 11, 3) := by decide +kernel
theorem dX5_keep_17 : decode cX5_keep 17 = .ok (.aload_n 0, 1) := by decide +kernel
theorem dX5_keep_18 : decode cX5_keep 18 = .ok (.getfield 18, 3) := by decide +kernel
theorem dX5_keep_21 : decode cX5_keep 21 = .ok (.aaload, 1) := by decide +kernel
theorem dX5_keep_22 : decode cX5_keep 22 = .ok (.aload_n 1, 1) := by decide +kernel
theorem dX5_keep_23 : decode cX5_keep 23 = .ok (.invokevirtual 25, 3) := by decide +kernel
theorem dX5_keep_26 : decode cX5_keep 26 = .ok (.aload_n 0, 1) := by decide +kernel
theorem dX5_keep_27 : decode cX5_keep 27 = .ok (.dup, 1) := by decide +kernel
theorem dX5_keep_28 : decode cX5_keep 28 = .ok (.getfield 18, 3) := by decide +kernel
theorem dX5_keep_31 : decode cX5_keep 31 = .ok (.iconst 1, 1) := by decide +kernel
theorem dX5_keep_32 : decode cX5_keep 32 = .ok (.iadd, 1) := by decide +kernel
theorem dX5_keep_33 : decode cX5_keep 33 = .ok (.putfield 18, 3) := by decide +kernel
theorem dX5_keep_36 : decode cX5_keep 36 = .ok (.return_, 1) := by decide +kernel
theorem dX5_dropOldest_0 : decode cX5_dropOldest 0 = .ok (.aload_n 0, 1) := by decide +kernel
theorem dX5_dropOldest_1 : decode cX5_dropOldest 1 = .ok (.getfield 11, 3) := by decide +kernel
theorem dX5_dropOldest_4 : decode cX5_dropOldest 4 = .ok (.iconst 0, 1) := by decide +kernel
theorem dX5_dropOldest_5 : decode cX5_dropOldest 5 = .ok (.aaload, 1) := by decide +kernel
theorem dX5_dropOldest_6 : decode cX5_dropOldest 6 = .ok (.astore_n 1, 1) := by decide +kernel
theorem dX5_dropOldest_7 : decode cX5_dropOldest 7 = .ok (.iconst 1, 1) := by decide +kernel
theorem dX5_dropOldest_8 : decode cX5_dropOldest 8 = .ok (.istore_n 2, 1) := by decide +kernel
theorem dX5_dropOldest_9 : decode cX5_dropOldest 9 = .ok (.iload_n 2, 1) := by decide +kernel
theorem dX5_dropOldest_10 : decode cX5_dropOldest 10 = .ok (.bipush 8, 2) := by decide +kernel
theorem dX5_dropOldest_12 : decode cX5_dropOldest 12 = .ok (.if_icmp .ge 23, 3) := by decide +kernel
theorem dX5_dropOldest_15 : decode cX5_dropOldest 15 = .ok (.aload_n 0, 1) := by decide +kernel
theorem dX5_dropOldest_16 : decode cX5_dropOldest 16 = .ok (.getfield 11, 3) := by decide +kernel
theorem dX5_dropOldest_19 : decode cX5_dropOldest 19 = .ok (.iload_n 2, 1) := by decide +kernel
theorem dX5_dropOldest_20 : decode cX5_dropOldest 20 = .ok (.iconst 1, 1) := by decide +kernel
theorem dX5_dropOldest_21 : decode cX5_dropOldest 21 = .ok (.isub, 1) := by decide +kernel
theorem dX5_dropOldest_22 : decode cX5_dropOldest 22 = .ok (.aload_n 0, 1) := by decide +kernel
theorem dX5_dropOldest_23 : decode cX5_dropOldest 23 = .ok (.getfield 11, 3) := by decide +kernel
theorem dX5_dropOldest_26 : decode cX5_dropOldest 26 = .ok (.iload_n 2, 1) := by decide +kernel
theorem dX5_dropOldest_27 : decode cX5_dropOldest 27 = .ok (.aaload, 1) := by decide +kernel
theorem dX5_dropOldest_28 : decode cX5_dropOldest 28 = .ok (.aastore, 1) := by decide +kernel
theorem dX5_dropOldest_29 : decode cX5_dropOldest 29 = .ok (.iinc 2 1, 3) := by decide +kernel
theorem dX5_dropOldest_32 : decode cX5_dropOldest 32 = .ok (.goto (-23), 3) := by decide +kernel
theorem dX5_dropOldest_35 : decode cX5_dropOldest 35 = .ok (.aload_n 0, 1) := by decide +kernel
theorem dX5_dropOldest_36 : decode cX5_dropOldest 36 = .ok (.getfield 11, 3) := by decide +kernel
theorem dX5_dropOldest_39 : decode cX5_dropOldest 39 = .ok (.bipush 7, 2) := by decide +kernel
theorem dX5_dropOldest_41 : decode cX5_dropOldest 41 = .ok (.aload_n 1, 1) := by decide +kernel
theorem dX5_dropOldest_42 : decode cX5_dropOldest 42 = .ok (.aastore, 1) := by decide +kernel
theorem dX5_dropOldest_43 : decode cX5_dropOldest 43 = .ok (.aload_n 0, 1) := by decide +kernel
theorem dX5_dropOldest_44 : decode cX5_dropOldest 44 = .ok (.bipush 7, 2) := by decide +kernel
theorem dX5_dropOldest_46 : decode cX5_dropOldest 46 = .ok (.putfield 18, 3) := by decide +kernel
theorem dX5_dropOldest_49 : decode cX5_dropOldest 49 = .ok (.return_, 1) := by decide +kernel
theorem dX5_giveBack_0 : decode cX5_giveBack 0 = .ok (.aload_n 0, 1) := by decide +kernel
theorem dX5_giveBack_1 : decode cX5_giveBack 1 = .ok (.getfield 18, 3) := by decide +kernel
theorem dX5_giveBack_4 : decode cX5_giveBack 4 = .ok (.ifCond .le 26, 3) := by decide +kernel
theorem dX5_giveBack_7 : decode cX5_giveBack 7 = .ok (.aload_n 0, 1) := by decide +kernel
theorem dX5_giveBack_8 : decode cX5_giveBack 8 = .ok (.dup, 1) := by decide +kernel
theorem dX5_giveBack_9 : decode cX5_giveBack 9 = .ok (.getfield 18, 3) := by decide +kernel
theorem dX5_giveBack_12 : decode cX5_giveBack 12 = .ok (.iconst 1, 1) := by decide +kernel
theorem dX5_giveBack_13 : decode cX5_giveBack 13 = .ok (.isub, 1) := by decide +kernel
theorem dX5_giveBack_14 : decode cX5_giveBack 14 = .ok (.putfield 18, 3) := by decide +kernel
theorem dX5_giveBack_17 : decode cX5_giveBack 17 = .ok (.aload_n 1, 1) := by decide +kernel
theorem dX5_giveBack_18 : decode cX5_giveBack 18 = .ok (.aload_n 0, 1) := by decide +kernel
theorem dX5_giveBack_19 : decode cX5_giveBack 19 = .ok (.getfield 11, 3) := by decide +kernel
theorem dX5_giveBack_22 : decode cX5_giveBack 22 = .ok (.aload_n 0, 1) := by decide +kernel
theorem dX5_giveBack_23 : decode cX5_giveBack 23 = .ok (.getfield 18, 3) := by decide +kernel
theorem dX5_giveBack_26 : decode cX5_giveBack 26 = .ok (.aaload, 1) := by decide +kernel
theorem dX5_giveBack_27 : decode cX5_giveBack 27 = .ok (.invokevirtual 25, 3) := by decide +kernel
theorem dX5_giveBack_30 : decode cX5_giveBack 30 = .ok (.return_, 1) := by decide +kernel
theorem dX6_init_0 : decode cX6_init 0 = .ok (.aload_n 0, 1) := by decide +kernel
theorem dX6_init_1 : decode cX6_init 1 = .ok (.invokespecial 3, 3) := by decide +kernel
theorem dX6_init_4 : decode cX6_init 4 = .ok (.aload_n 0, 1) := by decide +kernel
theorem dX6_init_5 : decode cX6_init 5 = .ok (.bipush 12, 2) := by decide +kernel
theorem dX6_init_7 : decode cX6_init 7 = .ok (.newarray .int, 2) := by decide +kernel
theorem dX6_init_9 : decode cX6_init 9 = .ok (.putfield 9, 3) := by decide +kernel
theorem dX6_init_12 : decode cX6_init 12 = .ok (.aload_n 0, 1) := by decide +kernel
theorem dX6_init_13 : decode cX6_init 13 = .ok (.bipush 12, 2) := by decide +kernel
theorem dX6_init_15 : decode cX6_init 15 = .ok (.newarray .int, 2) := by decide +kernel
theorem dX6_init_17 : decode cX6_init 17 = .ok (.putfield 15, 3) := by decide +kernel
theorem dX6_init_20 : decode cX6_init 20 = .ok (.aload_n 0, 1) := by decide +kernel
theorem dX6_init_21 : decode cX6_init 21 = .ok (.bipush 12, 2) := by decide +kernel
theorem dX6_init_23 : decode cX6_init 23 = .ok (.newarray .boolean, 2) := by decide +kernel
theorem dX6_init_25 : decode cX6_init 25 = .ok (.putfield 18, 3) := by decide +kernel
theorem dX6_init_28 : decode cX6_init 28 = .ok (.return_, 1) := by decide +kernel
theorem dX6_addTimer_0 : decode cX6_addTimer 0 = .ok (.aload_n 0, 1) := by decide +kernel
theorem dX6_addTimer_1 : decode cX6_addTimer 1 = .ok (.getfield 22, 3) := by decide +kernel
theorem dX6_addTimer_4 : decode cX6_addTimer 4 = .ok (.bipush 12, 2) := by decide +kernel
theorem dX6_addTimer_6 : decode cX6_addTimer 6 = .ok (.if_icmp .lt 6, 3) := by decide +kernel
theorem dX6_addTimer_9 : decode cX6_addTimer 9 = .ok (.bipush (-5), 2) := by decide +kernel
theorem dX6_addTimer_11 : decode cX6_addTimer 11 = .ok (.ireturn, 1) := by decide +kernel
theorem dX6_addTimer_12 : decode cX6_addTimer 12 = .ok (.aload_n 0, 1) := by decide +kernel
theorem dX6_addTimer_13 : decode cX6_addTimer 13 = .ok (.getfield 9, 3) := by decide +kernel
theorem dX6_addTimer_16 : decode cX6_addTimer 16 = .ok (.aload_n 0, 1) := by decide +kernel
theorem dX6_addTimer_17 : decode cX6_addTimer 17 = .ok (.getfield 22, 3) := by decide +kernel
theorem dX6_addTimer_20 : decode cX6_addTimer 20 = .ok (.iload_n 1, 1) := by decide +kernel
theorem dX6_addTimer_21 : decode cX6_addTimer 21 = .ok (.iastore, 1) := by decide +kernel
theorem dX6_addTimer_22 : decode cX6_addTimer 22 = .ok (.aload_n 0, 1) := by decide +kernel
theorem dX6_addTimer_23 : decode cX6_addTimer 23 = .ok (.getfield 15, 3) := by decide +kernel
theorem dX6_addTimer_26 : decode cX6_addTimer 26 = .ok (.aload_n 0, 1) := by decide +kernel
theorem dX6_addTimer_27 : decode cX6_addTimer 27 = .ok (.getfield 22, 3) := by decide +kernel
theorem dX6_addTimer_30 : decode cX6_addTimer 30 = .ok (.iload_n 2, 1) := by decide +kernel
theorem dX6_addTimer_31 : decode cX6_addTimer 31 = .ok (.iastore, 1) := by decide +kernel
theorem dX6_addTimer_32 : decode cX6_addTimer 32 = .ok (.aload_n 0, 1) := by decide +kernel
theorem dX6_addTimer_33 : decode cX6_addTimer 33 = .ok (.getfield 18, 3) := by decide +kernel
theorem dX6_addTimer_36 : decode cX6_addTimer 36 = .ok (.aload_n 0, 1) := by decide +kernel
theorem dX6_addTimer_37 : decode cX6_addTimer 37 = .ok (.getfield 22, 3) := by decide +kernel
theorem dX6_addTimer_40 : decode cX6_addTimer 40 = .ok (.iload_n 3, 1) := by decide +kernel
theorem dX6_addTimer_41 : decode cX6_addTimer 41 = .ok (.bastore, 1) := by decide +kernel
theorem dX6_addTimer_42 : decode cX6_addTimer 42 = .ok (.aload_n 0, 1) := by decide +kernel
theorem dX6_addTimer_43 : decode cX6_addTimer 43 = .ok (.dup, 1) := by decide +kernel
theorem dX6_addTimer_44 : decode cX6_addTimer 44 = .ok (.getfield 22, 3) := by decide +kernel
theorem dX6_addTimer_47 : decode cX6_addTimer 47 = .ok (.iconst 1, 1) := by decide +kernel
theorem dX6_addTimer_48 : decode cX6_addTimer 48 = .ok (.iadd, 1) := by decide +kernel
theorem dX6_addTimer_49 : decode cX6_addTimer 49 = .ok (.putfield 22, 3) := by decide +kernel
theorem dX6_addTimer_52 : decode cX6_addTimer 52 = .ok (.aload_n 0, 1) := by decide +kernel
theorem dX6_addTimer_53 : decode cX6_addTimer 53 = .ok (.getfield 22, 3) := by decide +kernel
theorem dX6_addTimer_56 : decode cX6_addTimer 56 = .ok (.iconst 1, 1) := by decide +kernel
theorem dX6_addTimer_57 : decode cX6_addTimer 57 = .ok (.isub, 1) := by decide +kernel
theorem dX6_addTimer_58 : decode cX6_addTimer 58 = .ok (.ireturn, 1) := by decide +kernel
