theorem dX8_init_0 : decode cX8_init 0 = .ok (.aload_n 0, 1) := by decide +kernel
theorem dX8_init_1 : decode cX8_init 1 = .ok (.invokespecial 1, 3) := by decide +kernel
theorem dX8_init_4 : decode cX8_init 4 = .ok (.aload_n 0, 1) := by decide +kernel
theorem dX8_init_5 : decode cX8_init 5 = .ok (.sipush 192, 3) := by decide +kernel
theorem dX8_init_8 : decode cX8_init 8 = .ok (.newarray .int, 2) := by decide +kernel
theorem dX8_init_10 : decode cX8_init 10 = .ok (.putfield 7, 3) := by decide +kernel
theorem dX8_init_13 : decode cX8_init 13 = .ok (.aload_n 0, 1) := by decide +kernel
theorem dX8_init_14 : decode cX8_init 14 = .ok (.sipush 1536, 3) := by decide +kernel
theorem dX8_init_17 : decode cX8_init 17 = .ok (.newarray .int, 2) := by decide +kernel
theorem dX8_init_19 : decode cX8_init 19 = .ok (.putfield 13, 3) := by decide +kernel
theorem dX8_init_22 : decode cX8_init 22 = .ok (.aload_n 0, 1) := by decide +kernel
theorem dX8_init_23 : decode cX8_init 23 = .ok (.iconst 1, 1) := by decide +kernel
theorem dX8_init_24 : decode cX8_init 24 = .ok (.putfield 16, 3) := by decide +kernel
theorem dX8_init_27 : decode cX8_init 27 = .ok (.aload_n 0, 1) := by decide +kernel
theorem dX8_init_28 : decode cX8_init 28 = .ok (.bipush 15, 2) := by decide +kernel
theorem dX8_init_30 : decode cX8_init 30 = .ok (.newarray .int, 2) := by decide +kernel
theorem dX8_init_32 : decode cX8_init 32 = .ok (.putfield 20, 3) := by decide +kernel
theorem dX8_init_35 : decode cX8_init 35 = .ok (.aload_n 0, 1) := by decide +kernel
theorem dX8_init_36 : decode cX8_init 36 = .ok (.bipush 15, 2) := by decide +kernel
theorem dX8_init_38 : decode cX8_init 38 = .ok (.newarray .int, 2) := by decide +kernel
theorem dX8_init_40 : decode cX8_init 40 = .ok (.putfield 23, 3) := by decide +kernel
theorem dX8_init_43 : decode cX8_init 43 = .ok (.aload_n 0, 1) := by decide +kernel
theorem dX8_init_44 : decode cX8_init 44 = .ok (.bipush 40, 2) := by decide +kernel
theorem dX8_init_46 : decode cX8_init 46 = .ok (.newarray .int, 2) := by decide +kernel
theorem dX8_init_48 : decode cX8_init 48 = .ok (.putfield 26, 3) := by decide +kernel
theorem dX8_init_51 : decode cX8_init 51 = .ok (.aload_n 0, 1) := by decide +kernel
theorem dX8_init_52 : decode cX8_init 52 = .ok (.bipush 40, 2) := by decide +kernel
theorem dX8_init_54 : decode cX8_init 54 = .ok (.newarray .int, 2) := by decide +kernel
theorem dX8_init_56 : decode cX8_init 56 = .ok (.putfield 29, 3) := by decide +kernel
theorem dX8_init_59 : decode cX8_init 59 = .ok (.aload_n 0, 1) := by decide +kernel
theorem dX8_init_60 : decode cX8_init 60 = .ok (.bipush 40, 2) := by decide +kernel
theorem dX8_init_62 : decode cX8_init 62 = .ok (.newarray .int, 2) := by decide +kernel
theorem dX8_init_64 : decode cX8_init 64 = .ok (.putfield 32, 3) := by decide +kernel
theorem dX8_init_67 : decode cX8_init 67 = .ok (.aload_n 0, 1) := by decide +kernel
theorem dX8_init_68 : decode cX8_init 68 = .ok (.bipush 40, 2) := by decide +kernel
theorem dX8_init_70 : decode cX8_init 70 = .ok (.newarray .int, 2) := by decide +kernel
theorem dX8_init_72 : decode cX8_init 72 = .ok (.putfield 35, 3) := by decide +kernel
theorem dX8_init_75 : decode cX8_init 75 = .ok (.aload_n 0, 1) := by decide +kernel
theorem dX8_init_76 : decode cX8_init 76 = .ok (.bipush 40, 2) := by decide +kernel
theorem dX8_init_78 : decode cX8_init 78 = .ok (.newarray .int, 2) := by decide +kernel
theorem dX8_init_80 : decode cX8_init 80 = .ok (.putfield 38, 3) := by decide +kernel
theorem dX8_init_83 : decode cX8_init 83 = .ok (.aload_n 0, 1) := by decide +kernel
theorem dX8_init_84 : decode cX8_init 84 = .ok (.bipush 12, 2) := by decide +kernel
theorem dX8_init_86 : decode cX8_init 86 = .ok (.newarray .int, 2) := by decide +kernel
theorem dX8_init_88 : decode cX8_init 88 = .ok (.putfield 41, 3) := by decide +kernel
theorem dX8_init_91 : decode cX8_init 91 = .ok (.aload_n 0, 1) := by decide +kernel
theorem dX8_init_92 : decode cX8_init 92 = .ok (.bipush 12, 2) := by decide +kernel
theorem dX8_init_94 : decode cX8_init 94 = .ok (.newarray .int, 2) := by decide +kernel
theorem dX8_init_96 : decode cX8_init 96 = .ok (.putfield 44, 3) := by decide +kernel
theorem dX8_init_99 : decode cX8_init 99 = .ok (.aload_n 0, 1) := by decide +kernel
theorem dX8_init_100 : decode cX8_init 100 = .ok (.bipush 12, 2) := by decide +kernel
theorem dX8_init_102 : decode cX8_init 102 = .ok (.newarray .boolean, 2) := by decide +kernel
theorem dX8_init_104 : decode cX8_init 104 = .ok (.putfield 47, 3) := by decide +kernel
theorem dX8_init_107 : decode cX8_init 107 = .ok (.aload_n 0, 1) := by decide +kernel
theorem dX8_init_108 : decode cX8_init 108 = .ok (.bipush 12, 2) := by decide +kernel
theorem dX8_init_110 : decode cX8_init 110 = .ok (.newarray .int, 2) := by decide +kernel
theorem dX8_init_112 : decode cX8_init 112 = .ok (.putfield 51, 3) := by decide +kernel
theorem dX8_init_115 : decode cX8_init 115 = .ok (.aload_n 0, 1) := by decide +kernel
theorem dX8_init_116 : decode cX8_init 116 = .ok (.bipush 12, 2) := by decide +kernel
theorem dX8_init_118 : decode cX8_init 118 = .ok (.newarray .int, 2) := by decide +kernel
theorem dX8_init_120 : decode cX8_init 120 = .ok (.putfield 54, 3) := by decide +kernel
theorem dX8_init_123 : decode cX8_init 123 = .ok (.aload_n 0, 1) := by decide +kernel
theorem dX8_init_124 : decode cX8_init 124 = .ok (.bipush 12, 2) := by decide +kernel
theorem dX8_init_126 : decode cX8_init 126 = .ok (.newarray .boolean, 2) := by decide +kernel
theorem dX8_init_128 : decode cX8_init 128 = .ok (.putfield 57, 3) := by decide +kernel
theorem dX8_init_131 : decode cX8_init 131 = .ok (.aload_n 0, 1) := by decide +kernel
theorem dX8_init_132 : decode cX8_init 132 = .ok (.bipush 12, 2) := by decide +kernel
theorem dX8_init_134 : decode cX8_init 134 = .ok (.newarray .int, 2) := by decide +kernel
theorem dX8_init_136 : decode cX8_init 136 = .ok (.putfield 60, 3) := by decide +kernel
theorem dX8_init_139 : decode cX8_init 139 = .ok (.aload_n 0, 1) := by decide +kernel
theorem dX8_init_140 : decode cX8_init 140 = .ok (.bipush 12, 2) := by decide +kernel
theorem dX8_init_142 : decode cX8_init 142 = .ok (.newarray .int, 2) := by decide +kernel
theorem dX8_init_144 : decode cX8_init 144 = .ok (.putfield 63, 3) := by decide +kernel
theorem dX8_init_147 : decode cX8_init 147 = .ok (.aload_n 0, 1) := by decide +kernel
theorem dX8_init_148 : decode cX8_init 148 = .ok (.bipush 12, 2) := by decide +kernel
theorem dX8_init_150 : decode cX8_init 150 = .ok (.newarray .boolean, 2) := by decide +kernel
theorem dX8_init_152 : decode cX8_init 152 = .ok (.putfield 66, 3) := by decide +kernel
theorem dX8_init_155 : decode cX8_init 155 = .ok (.aload_n 0, 1) := by decide +kernel
theorem dX8_init_156 : decode cX8_init 156 = .ok (.bipush 12, 2) := by decide +kernel
theorem dX8_init_158 : decode cX8_init 158 = .ok (.newarray .boolean, 2) := by decide +kernel
theorem dX8_init_160 : decode cX8_init 160 = .ok (.putfield 69, 3) := by decide +kernel
theorem dX8_init_163 : decode cX8_init 163 = .ok (.aload_n 0, 1) := by decide +kernel
theorem dX8_init_164 : decode cX8_init 164 = .ok (.bipush 10, 2) := by decide +kernel
theorem dX8_init_166 : decode cX8_init 166 = .ok (.newarray .int, 2) := by decide +kernel
theorem dX8_init_168 : decode cX8_init 168 = .ok (.putfield 72, 3) := by decide +kernel
theorem dX8_init_171 : decode cX8_init 171 = .ok (.aload_n 0, 1) := by decide +kernel
theorem dX8_init_172 : decode cX8_init 172 = .ok (.iconst 0, 1) := by decide +kernel
theorem dX8_init_173 : decode cX8_init 173 = .ok (.putfield 75, 3) := by decide +kernel
theorem dX8_init_176 : decode cX8_init 176 = .ok (.return_, 1) := by decide +kernel
theorem dX8_in_0 : decode cX8_in 0 = .ok (.iload_n 0, 1) := by decide +kernel
theorem dX8_in_1 : decode cX8_in 1 = .ok (.iload_n 1, 1) := by decide +kernel
theorem dX8_in_2 : decode cX8_in 2 = .ok (.if_icmp .lt 12, 3) := by decide +kernel
theorem dX8_in_5 : decode cX8_in 5 = .ok (.iload_n 0, 1) := by decide +kernel
theorem dX8_in_6 : decode cX8_in 6 = .ok (.iload_n 2, 1) := by decide +kernel
theorem dX8_in_7 : decode cX8_in 7 = .ok (.if_icmp .gt 7, 3) := by decide +kernel
theorem dX8_in_10 : decode cX8_in 10 = .ok (.iconst 1, 1) := by decide +kernel
theorem dX8_in_11 : decode cX8_in 11 = .ok (.goto 4, 3) := by decide +kernel
theorem dX8_in_14 : decode cX8_in 14 = .ok (.iconst 0, 1) := by decide +kernel
theorem dX8_in_15 : decode cX8_in 15 = .ok (.ireturn, 1) := by decide +kernel
theorem dX8_isOf_0 : decode cX8_isOf 0 = .ok (.iload_n 0, 1) := by decide +kernel
theorem dX8_isOf_1 : decode cX8_isOf 1 = .ok (.iconst 0, 1) := by decide +kernel
theorem dX8_isOf_2 : decode cX8_isOf 2 = .ok (.iload_n 1, 1) := by decide +kernel
theorem dX8_isOf_3 : decode cX8_isOf 3 = .ok (.iconst 1, 1) := by decide +kernel
theorem dX8_isOf_4 : decode cX8_isOf 4 = .ok (.isub, 1) := by decide +kernel
theorem dX8_isOf_5 : decode cX8_isOf 5 = .ok (.invokestatic 78, 3) := by decide +kernel
theorem dX8_isOf_8 : decode cX8_isOf 8 = .ok (.ireturn, 1) := by decide +kernel
theorem dX8_changed_0 : decode cX8_changed 0 = .ok (.aload_n 0, 1) := by decide +kernel
theorem dX8_changed_1 : decode cX8_changed 1 = .ok (.iconst 0, 1) := by decide +kernel
theorem dX8_changed_2 : decode cX8_changed 2 = .ok (.putfield 75, 3) := by decide +kernel
theorem dX8_changed_5 : decode cX8_changed 5 = .ok (.iload_n 1, 1) := by decide +kernel
theorem dX8_changed_6 : decode cX8_changed 6 = .ok (.ireturn, 1) := by decide +kernel
theorem dX8_room_0 : decode cX8_room 0 = .ok (.aload_n 0, 1) := by decide +kernel
theorem dX8_room_1 : decode cX8_room 1 = .ok (.getfield 82, 3) := by decide +kernel
theorem dX8_room_4 : decode cX8_room 4 = .ok (.bipush 10, 2) := by decide +kernel
theorem dX8_room_6 : decode cX8_room 6 = .ok (.if_icmp .ne 6, 3) := by decide +kernel
theorem dX8_room_9 : decode cX8_room 9 = .ok (.bipush (-5), 2) := by decide +kernel
theorem dX8_room_11 : decode cX8_room 11 = .ok (.ireturn, 1) := by decide +kernel
theorem dX8_room_12 : decode cX8_room 12 = .ok (.aload_n 0, 1) := by decide +kernel
theorem dX8_room_13 : decode cX8_room 13 = .ok (.dup, 1) := by decide +kernel
theorem dX8_room_14 : decode cX8_room 14 = .ok (.getfield 82, 3) := by decide +kernel
theorem dX8_room_17 : decode cX8_room 17 = .ok (.iconst 1, 1) := by decide +kernel
theorem dX8_room_18 : decode cX8_room 18 = .ok (.iadd, 1) := by decide +kernel
theorem dX8_room_19 : decode cX8_room 19 = .ok (.putfield 82, 3) := by decide +kernel
theorem dX8_room_22 : decode cX8_room 22 = .ok (.aload_n 0, 1) := by decide +kernel
theorem dX8_room_23 : decode cX8_room 23 = .ok (.aload_n 0, 1) := by decide +kernel
theorem dX8_room_24 : decode cX8_room 24 = .ok (.getfield 82, 3) := by decide +kernel
theorem dX8_room_27 : decode cX8_room 27 = .ok (.iconst 1, 1) := by decide +kernel
theorem dX8_room_28 : decode cX8_room 28 = .ok (.isub, 1) := by decide +kernel
theorem dX8_room_29 : decode cX8_room 29 = .ok (.invokevirtual 85, 3) := by decide +kernel
theorem dX8_room_32 : decode cX8_room 32 = .ok (.ireturn, 1) := by decide +kernel
theorem dX8_door_0 : decode cX8_door 0 = .ok (.iload_n 1, 1) := by decide +kernel
theorem dX8_door_1 : decode cX8_door 1 = .ok (.aload_n 0, 1) := by decide +kernel
theorem dX8_door_2 : decode cX8_door 2 = .ok (.getfield 82, 3) := by decide +kernel
theorem dX8_door_5 : decode cX8_door 5 = .ok (.invokestatic 89, 3) := by decide +kernel
theorem dX8_door_8 : decode cX8_door 8 = .ok (.ifCond .eq 14, 3) := by decide +kernel
theorem dX8_door_11 : decode cX8_door 11 = .ok (.iload_n 2, 1) := by decide +kernel
theorem dX8_door_12 : decode cX8_door 12 = .ok (.aload_n 0, 1) := by decide +kernel
theorem dX8_door_13 : decode cX8_door 13 = .ok (.getfield 82, 3) := by decide +kernel
theorem dX8_door_16 : decode cX8_door 16 = .ok (.invokestatic 89, 3) := by decide +kernel
theorem dX8_door_19 : decode cX8_door 19 = .ok (.ifCond .ne 6, 3) := by decide +kernel
theorem dX8_door_22 : decode cX8_door 22 = .ok (.bipush (-2), 2) := by decide +kernel
theorem dX8_door_24 : decode cX8_door 24 = .ok (.ireturn, 1) := by decide +kernel
theorem dX8_door_25 : decode cX8_door 25 = .ok (.iload_n 1, 1) := by decide +kernel
theorem dX8_door_26 : decode cX8_door 26 = .ok (.iload_n 2, 1) := by decide +kernel
theorem dX8_door_27 : decode cX8_door 27 = .ok (.if_icmp .ne 6, 3) := by decide +kernel
theorem dX8_door_30 : decode cX8_door 30 = .ok (.bipush (-3), 2) := by decide +kernel
theorem dX8_door_32 : decode cX8_door 32 = .ok (.ireturn, 1) := by decide +kernel
theorem dX8_door_33 : decode cX8_door 33 = .ok (.aload_n 0, 1) := by decide +kernel
theorem dX8_door_34 : decode cX8_door 34 = .ok (.getfield 93, 3) := by decide +kernel
theorem dX8_door_37 : decode cX8_door 37 = .ok (.bipush 15, 2) := by decide +kernel
theorem dX8_door_39 : decode cX8_door 39 = .ok (.if_icmp .ne 6, 3) := by decide +kernel
theorem dX8_door_42 : decode cX8_door 42 = .ok (.bipush (-5), 2) := by decide +kernel
theorem dX8_door_44 : decode cX8_door 44 = .ok (.ireturn, 1) := by decide +kernel
theorem dX8_door_45 : decode cX8_door 45 = .ok (.aload_n 0, 1) := by decide +kernel
theorem dX8_door_46 : decode cX8_door 46 = .ok (.getfield 20, 3) := by decide +kernel
theorem dX8_door_49 : decode cX8_door 49 = .ok (.aload_n 0, 1) := by decide +kernel
theorem dX8_door_50 : decode cX8_door 50 = .ok (.getfield 93, 3) := by decide +kernel
theorem dX8_door_53 : decode cX8_door 53 = .ok (.iload_n 1, 1) := by decide +kernel
theorem dX8_door_54 : decode cX8_door 54 = .ok (.iastore, 1) := by decide +kernel
theorem dX8_door_55 : decode cX8_door 55 = .ok (.aload_n 0, 1) := by decide +kernel
theorem dX8_door_56 : decode cX8_door 56 = .ok (.getfield 23, 3) := by decide +kernel
theorem dX8_door_59 : decode cX8_door 59 = .ok (.aload_n 0, 1) := by decide +kernel
theorem dX8_door_60 : decode cX8_door 60 = .ok (.getfield 93, 3) := by decide +kernel
theorem dX8_door_63 : decode cX8_door 63 = .ok (.iload_n 2, 1) := by decide +kernel
theorem dX8_door_64 : decode cX8_door 64 = .ok (.iastore, 1) := by decide +kernel
theorem dX8_door_65 : decode cX8_door 65 = .ok (.aload_n 0, 1) := by decide +kernel
theorem dX8_door_66 : decode cX8_door 66 = .ok (.getfield 7, 3) := by decide +kernel
theorem dX8_door_69 : decode cX8_door 69 = .ok (.bipush 12, 2) := by decide +kernel
theorem dX8_door_71 : decode cX8_door 71 = .ok (.aload_n 0, 1) := by decide +kernel
theorem dX8_door_72 : decode cX8_door 72 = .ok (.getfield 93, 3) := by decide +kernel
theorem dX8_door_75 : decode cX8_door 75 = .ok (.iadd, 1) := by decide +kernel
theorem dX8_door_76 : decode cX8_door 76 = .ok (.iconst 1, 1) := by decide +kernel
theorem dX8_door_77 : decode cX8_door 77 = .ok (.iastore, 1) := by decide +kernel
theorem dX8_door_78 : decode cX8_door 78 = .ok (.aload_n 0, 1) := by decide +kernel
theorem dX8_door_79 : decode cX8_door 79 = .ok (.dup, 1) := by decide +kernel
theorem dX8_door_80 : decode cX8_door 80 = .ok (.getfield 93, 3) := by decide +kernel
theorem dX8_door_83 : decode cX8_door 83 = .ok (.iconst 1, 1) := by decide +kernel
theorem dX8_door_84 : decode cX8_door 84 = .ok (.iadd, 1) := by decide +kernel
theorem dX8_door_85 : decode cX8_door 85 = .ok (.putfield 93, 3) := by decide +kernel
theorem dX8_door_88 : decode cX8_door 88 = .ok (.aload_n 0, 1) := by decide +kernel
theorem dX8_door_89 : decode cX8_door 89 = .ok (.aload_n 0, 1) := by decide +kernel
theorem dX8_door_90 : decode cX8_door 90 = .ok (.getfield 93, 3) := by decide +kernel
theorem dX8_door_93 : decode cX8_door 93 = .ok (.iconst 1, 1) := by decide +kernel
theorem dX8_door_94 : decode cX8_door 94 = .ok (.isub, 1) := by decide +kernel
theorem dX8_door_95 : decode cX8_door 95 = .ok (.invokevirtual 85, 3) := by decide +kernel
theorem dX8_door_98 : decode cX8_door 98 = .ok (.ireturn, 1) := by decide +kernel
theorem dX8_walker_0 : decode cX8_walker 0 = .ok (.iload_n 1, 1) := by decide +kernel
theorem dX8_walker_1 : decode cX8_walker 1 = .ok (.aload_n 0, 1) := by decide +kernel
theorem dX8_walker_2 : decode cX8_walker 2 = .ok (.getfield 82, 3) := by decide +kernel
theorem dX8_walker_5 : decode cX8_walker 5 = .ok (.invokestatic 89, 3) := by decide +kernel
theorem dX8_walker_8 : decode cX8_walker 8 = .ok (.ifCond .ne 6, 3) := by decide +kernel
theorem dX8_walker_11 : decode cX8_walker 11 = .ok (.bipush (-2), 2) := by decide +kernel
theorem dX8_walker_13 : decode cX8_walker 13 = .ok (.ireturn, 1) := by decide +kernel
theorem dX8_walker_14 : decode cX8_walker 14 = .ok (.aload_n 0, 1) := by decide +kernel
theorem dX8_walker_15 : decode cX8_walker 15 = .ok (.getfield 96, 3) := by decide +kernel
theorem dX8_walker_18 : decode cX8_walker 18 = .ok (.iconst 4, 1) := by decide +kernel
theorem dX8_walker_19 : decode cX8_walker 19 = .ok (.if_icmp .ne 6, 3) := by decide +kernel
theorem dX8_walker_22 : decode cX8_walker 22 = .ok (.bipush (-5), 2) := by decide +kernel
theorem dX8_walker_24 : decode cX8_walker 24 = .ok (.ireturn, 1) := by decide +kernel
theorem dX8_walker_25 : decode cX8_walker 25 = .ok (.aload_n 0, 1) := by decide +kernel
theorem dX8_walker_26 : decode cX8_walker 26 = .ok (.getfield 7, 3) := by decide +kernel
theorem dX8_walker_29 : decode cX8_walker 29 = .ok (.bipush 27, 2) := by decide +kernel
theorem dX8_walker_31 : decode cX8_walker 31 = .ok (.aload_n 0, 1) := by decide +kernel
theorem dX8_walker_32 : decode cX8_walker 32 = .ok (.getfield 96, 3) := by decide +kernel
theorem dX8_walker_35 : decode cX8_walker 35 = .ok (.iadd, 1) := by decide +kernel
theorem dX8_walker_36 : decode cX8_walker 36 = .ok (.iload_n 1, 1) := by decide +kernel
theorem dX8_walker_37 : decode cX8_walker 37 = .ok (.iastore, 1) := by decide +kernel
theorem dX8_walker_38 : decode cX8_walker 38 = .ok (.aload_n 0, 1) := by decide +kernel
theorem dX8_walker_39 : decode cX8_walker 39 = .ok (.getfield 7, 3) := by decide +kernel
theorem dX8_walker_42 : decode cX8_walker 42 = .ok (.bipush 31, 2) := by decide +kernel
theorem dX8_walker_44 : decode cX8_walker 44 = .ok (.aload_n 0, 1) := by decide +kernel
theorem dX8_walker_45 : decode cX8_walker 45 = .ok (.getfield 96, 3) := by decide +kernel
theorem dX8_walker_48 : decode cX8_walker 48 = .ok (.iadd, 1) := by decide +kernel
theorem dX8_walker_49 : decode cX8_walker 49 = .ok (.iconst (-1), 1) := by decide +kernel
theorem dX8_walker_50 : decode cX8_walker 50 = .ok (.iastore, 1) := by decide +kernel
theorem dX8_walker_51 : decode cX8_walker 51 = .ok (.aload_n 0, 1) := by decide +kernel
theorem dX8_walker_52 : decode cX8_walker 52 = .ok (.dup, 1) := by decide +kernel
theorem dX8_walker_53 : decode cX8_walker 53 = .ok (.getfield 96, 3) := by decide +kernel
theorem dX8_walker_56 : decode cX8_walker 56 = .ok (.iconst 1, 1) := by decide +kernel
theorem dX8_walker_57 : decode cX8_walker 57 = .ok (.iadd, 1) := by decide +kernel
theorem dX8_walker_58 : decode cX8_walker 58 = .ok (.putfield 96, 3) := by decide +kernel
theorem dX8_walker_61 : decode cX8_walker 61 = .ok (.aload_n 0, 1) := by decide +kernel
theorem dX8_walker_62 : decode cX8_walker 62 = .ok (.aload_n 0, 1) := by decide +kernel
theorem dX8_walker_63 : decode cX8_walker 63 = .ok (.getfield 96, 3) := by decide +kernel
theorem dX8_walker_66 : decode cX8_walker 66 = .ok (.iconst 1, 1) := by decide +kernel
theorem dX8_walker_67 : decode cX8_walker 67 = .ok (.isub, 1) := by decide +kernel
theorem dX8_walker_68 : decode cX8_walker 68 = .ok (.invokevirtual 85, 3) := by decide +kernel
theorem dX8_walker_71 : decode cX8_walker 71 = .ok (.ireturn, 1) := by decide +kernel
theorem dX8_deed_0 : decode cX8_deed 0 = .ok (.iload_n 1, 1) := by decide +kernel
theorem dX8_deed_1 : decode cX8_deed 1 = .ok (.iconst 0, 1) := by decide +kernel
theorem dX8_deed_2 : decode cX8_deed 2 = .ok (.bipush 8, 2) := by decide +kernel
theorem dX8_deed_4 : decode cX8_deed 4 = .ok (.invokestatic 78, 3) := by decide +kernel
theorem dX8_deed_7 : decode cX8_deed 7 = .ok (.istore 4, 2) := by decide +kernel
theorem dX8_deed_9 : decode cX8_deed 9 = .ok (.iload_n 1, 1) := by decide +kernel
theorem dX8_deed_10 : decode cX8_deed 10 = .ok (.ifCond .ne 33, 3) := by decide +kernel
theorem dX8_deed_13 : decode cX8_deed 13 = .ok (.iload_n 2, 1) := by decide +kernel
theorem dX8_deed_14 : decode cX8_deed 14 = .ok (.iconst 0, 1) := by decide +kernel
theorem dX8_deed_15 : decode cX8_deed 15 = .ok (.bipush 7, 2) := by decide +kernel
theorem dX8_deed_17 : decode cX8_deed 17 = .ok (.invokestatic 78, 3) := by decide +kernel
theorem dX8_deed_20 : decode cX8_deed 20 = .ok (.ifCond .eq 20, 3) := by decide +kernel
theorem dX8_deed_23 : decode cX8_deed 23 = .ok (.iload_n 3, 1) := by decide +kernel
theorem dX8_deed_24 : decode cX8_deed 24 = .ok (.sipush (-1000), 3) := by decide +kernel
theorem dX8_deed_27 : decode cX8_deed 27 = .ok (.sipush 1000, 3) := by decide +kernel
theorem dX8_deed_30 : decode cX8_deed 30 = .ok (.invokestatic 78, 3) := by decide +kernel
theorem dX8_deed_33 : decode cX8_deed 33 = .ok (.ifCond .eq 7, 3) := by decide +kernel
theorem dX8_deed_36 : decode cX8_deed 36 = .ok (.iconst 1, 1) := by decide +kernel
theorem dX8_deed_37 : decode cX8_deed 37 = .ok (.goto 4, 3) := by decide +kernel
theorem dX8_deed_40 : decode cX8_deed 40 = .ok (.iconst 0, 1) := by decide +kernel
theorem dX8_deed_41 : decode cX8_deed 41 = .ok (.istore 4, 2) := by decide +kernel
theorem dX8_deed_43 : decode cX8_deed 43 = .ok (.iload_n 1, 1) := by decide +kernel
theorem dX8_deed_44 : decode cX8_deed 44 = .ok (.bipush 8, 2) := by decide +kernel
theorem dX8_deed_46 : decode cX8_deed 46 = .ok (.if_icmp .ne 13, 3) := by decide +kernel
theorem dX8_deed_49 : decode cX8_deed 49 = .ok (.iload_n 3, 1) := by decide +kernel
theorem dX8_deed_50 : decode cX8_deed 50 = .ok (.iconst 1, 1) := by decide +kernel
theorem dX8_deed_51 : decode cX8_deed 51 = .ok (.sipush 600, 3) := by decide +kernel
theorem dX8_deed_54 : decode cX8_deed 54 = .ok (.invokestatic 78, 3) := by decide +kernel
theorem dX8_deed_57 : decode cX8_deed 57 = .ok (.istore 4, 2) := by decide +kernel
theorem dX8_deed_59 : decode cX8_deed 59 = .ok (.iload 4, 2) := by decide +kernel
theorem dX8_deed_61 : decode cX8_deed 61 = .ok (.ifCond .ne 6, 3) := by decide +kernel
theorem dX8_deed_64 : decode cX8_deed 64 = .ok (.bipush (-3), 2) := by decide +kernel
theorem dX8_deed_66 : decode cX8_deed 66 = .ok (.ireturn, 1) := by decide +kernel
theorem dX8_deed_67 : decode cX8_deed 67 = .ok (.aload_n 0, 1) := by decide +kernel
theorem dX8_deed_68 : decode cX8_deed 68 = .ok (.getfield 99, 3) := by decide +kernel
theorem dX8_deed_71 : decode cX8_deed 71 = .ok (.bipush 40, 2) := by decide +kernel
theorem dX8_deed_73 : decode cX8_deed 73 = .ok (.if_icmp .ne 6, 3) := by decide +kernel
theorem dX8_deed_76 : decode cX8_deed 76 = .ok (.bipush (-5), 2) := by decide +kernel
theorem dX8_deed_78 : decode cX8_deed 78 = .ok (.ireturn, 1) := by decide +kernel
theorem dX8_deed_79 : decode cX8_deed 79 = .ok (.aload_n 0, 1) := by decide +kernel
theorem dX8_deed_80 : decode cX8_deed 80 = .ok (.getfield 26, 3) := by decide +kernel
theorem dX8_deed_83 : decode cX8_deed 83 = .ok (.aload_n 0, 1) := by decide +kernel
theorem dX8_deed_84 : decode cX8_deed 84 = .ok (.getfield 99, 3) := by decide +kernel
theorem dX8_deed_87 : decode cX8_deed 87 = .ok (.iload_n 1, 1) := by decide +kernel
theorem dX8_deed_88 : decode cX8_deed 88 = .ok (.iastore, 1) := by decide +kernel
theorem dX8_deed_89 : decode cX8_deed 89 = .ok (.aload_n 0, 1) := by decide +kernel
theorem dX8_deed_90 : decode cX8_deed 90 = .ok (.getfield 29, 3) := by decide +kernel
theorem dX8_deed_93 : decode cX8_deed 93 = .ok (.aload_n 0, 1) := by decide +kernel
theorem dX8_deed_94 : decode cX8_deed 94 = .ok (.getfield 99, 3) := by decide +kernel
theorem dX8_deed_97 : decode cX8_deed 97 = .ok (.iload_n 2, 1) := by decide +kernel
theorem dX8_deed_98 : decode cX8_deed 98 = .ok (.iastore, 1) := by decide +kernel
theorem dX8_deed_99 : decode cX8_deed 99 = .ok (.aload_n 0, 1) := by decide +kernel
theorem dX8_deed_100 : decode cX8_deed 100 = .ok (.getfield 32, 3) := by decide +kernel
theorem dX8_deed_103 : decode cX8_deed 103 = .ok (.aload_n 0, 1) := by decide +kernel
theorem dX8_deed_104 : decode cX8_deed 104 = .ok (.getfield 99, 3) := by decide +kernel
theorem dX8_deed_107 : decode cX8_deed 107 = .ok (.iload_n 3, 1) := by decide +kernel
theorem dX8_deed_108 : decode cX8_deed 108 = .ok (.iastore, 1) := by decide +kernel
theorem dX8_deed_109 : decode cX8_deed 109 = .ok (.aload_n 0, 1) := by decide +kernel
theorem dX8_deed_110 : decode cX8_deed 110 = .ok (.getfield 35, 3) := by decide +kernel
theorem dX8_deed_113 : decode cX8_deed 113 = .ok (.aload_n 0, 1) := by decide +kernel
theorem dX8_deed_114 : decode cX8_deed 114 = .ok (.getfield 99, 3) := by decide +kernel
theorem dX8_deed_117 : decode cX8_deed 117 = .ok (.iconst (-1), 1) := by decide +kernel
theorem dX8_deed_118 : decode cX8_deed 118 = .ok (.iastore, 1) := by decide +kernel
theorem dX8_deed_119 : decode cX8_deed 119 = .ok (.aload_n 0, 1) := by decide +kernel
theorem dX8_deed_120 : decode cX8_deed 120 = .ok (.dup, 1) := by decide +kernel
theorem dX8_deed_121 : decode cX8_deed 121 = .ok (.getfield 99, 3) := by decide +kernel
theorem dX8_deed_124 : decode cX8_deed 124 = .ok (.iconst 1, 1) := by decide +kernel
theorem dX8_deed_125 : decode cX8_deed 125 = .ok (.iadd, 1) := by decide +kernel
theorem dX8_deed_126 : decode cX8_deed 126 = .ok (.putfield 99, 3) := by decide +kernel
theorem dX8_deed_129 : decode cX8_deed 129 = .ok (.aload_n 0, 1) := by decide +kernel
theorem dX8_deed_130 : decode cX8_deed 130 = .ok (.aload_n 0, 1) := by decide +kernel
theorem dX8_deed_131 : decode cX8_deed 131 = .ok (.getfield 99, 3) := by decide +kernel
theorem dX8_deed_134 : decode cX8_deed 134 = .ok (.iconst 1, 1) := by decide +kernel
theorem dX8_deed_135 : decode cX8_deed 135 = .ok (.isub, 1) := by decide +kernel
theorem dX8_deed_136 : decode cX8_deed 136 = .ok (.invokevirtual 85, 3) := by decide +kernel
theorem dX8_deed_139 : decode cX8_deed 139 = .ok (.ireturn, 1) := by decide +kernel
theorem dX8_condition_0 : decode cX8_condition 0 = .ok (.iload_n 1, 1) := by decide +kernel
theorem dX8_condition_1 : decode cX8_condition 1 = .ok (.aload_n 0, 1) := by decide +kernel
theorem dX8_condition_2 : decode cX8_condition 2 = .ok (.getfield 99, 3) := by decide +kernel
theorem dX8_condition_5 : decode cX8_condition 5 = .ok (.invokestatic 89, 3) := by decide +kernel
theorem dX8_condition_8 : decode cX8_condition 8 = .ok (.ifCond .ne 6, 3) := by decide +kernel
theorem dX8_condition_11 : decode cX8_condition 11 = .ok (.bipush (-2), 2) := by decide +kernel
theorem dX8_condition_13 : decode cX8_condition 13 = .ok (.ireturn, 1) := by decide +kernel
theorem dX8_condition_14 : decode cX8_condition 14 = .ok (.iload_n 2, 1) := by decide +kernel
theorem dX8_condition_15 : decode cX8_condition 15 = .ok (.iconst (-1), 1) := by decide +kernel
theorem dX8_condition_16 : decode cX8_condition 16 = .ok (.bipush 7, 2) := by decide +kernel
theorem dX8_condition_18 : decode cX8_condition 18 = .ok (.invokestatic 78, 3) := by decide +kernel
theorem dX8_condition_21 : decode cX8_condition 21 = .ok (.ifCond .eq 16, 3) := by decide +kernel
theorem dX8_condition_24 : decode cX8_condition 24 = .ok (.iload_n 3, 1) := by decide +kernel
theorem dX8_condition_25 : decode cX8_condition 25 = .ok (.sipush (-1000), 3) := by decide +kernel
theorem dX8_condition_28 : decode cX8_condition 28 = .ok (.sipush 1000, 3) := by decide +kernel
theorem dX8_condition_31 : decode cX8_condition 31 = .ok (.invokestatic 78, 3) := by decide +kernel
theorem dX8_condition_34 : decode cX8_condition 34 = .ok (.ifCond .ne 6, 3) := by decide +kernel
theorem dX8_condition_37 : decode cX8_condition 37 = .ok (.bipush (-3), 2) := by decide +kernel
theorem dX8_condition_39 : decode cX8_condition 39 = .ok (.ireturn, 1) := by decide +kernel
theorem dX8_condition_40 : decode cX8_condition 40 = .ok (.aload_n 0, 1) := by decide +kernel
theorem dX8_condition_41 : decode cX8_condition 41 = .ok (.getfield 35, 3) := by decide +kernel
theorem dX8_condition_44 : decode cX8_condition 44 = .ok (.iload_n 1, 1) := by decide +kernel
theorem dX8_condition_45 : decode cX8_condition 45 = .ok (.iload_n 2, 1) := by decide +kernel
theorem dX8_condition_46 : decode cX8_condition 46 = .ok (.iastore, 1) := by decide +kernel
theorem dX8_condition_47 : decode cX8_condition 47 = .ok (.aload_n 0, 1) := by decide +kernel
theorem dX8_condition_48 : decode cX8_condition 48 = .ok (.getfield 38, 3) := by decide +kernel
theorem dX8_condition_51 : decode cX8_condition 51 = .ok (.iload_n 1, 1) := by decide +kernel
theorem dX8_condition_52 : decode cX8_condition 52 = .ok (.iload_n 3, 1) := by decide +kernel
theorem dX8_condition_53 : decode cX8_condition 53 = .ok (.iastore, 1) := by decide +kernel
theorem dX8_condition_54 : decode cX8_condition 54 = .ok (.aload_n 0, 1) := by decide +kernel
theorem dX8_condition_55 : decode cX8_condition 55 = .ok (.iconst 1, 1) := by decide +kernel
theorem dX8_condition_56 : decode cX8_condition 56 = .ok (.invokevirtual 85, 3) := by decide +kernel
theorem dX8_condition_59 : decode cX8_condition 59 = .ok (.ireturn, 1) := by decide +kernel
theorem dX8_event_0 : decode cX8_event 0 = .ok (.iload_n 1, 1) := by decide +kernel
theorem dX8_event_1 : decode cX8_event 1 = .ok (.aload_n 0, 1) := by decide +kernel
theorem dX8_event_2 : decode cX8_event 2 = .ok (.getfield 99, 3) := by decide +kernel
theorem dX8_event_5 : decode cX8_event 5 = .ok (.invokestatic 89, 3) := by decide +kernel
theorem dX8_event_8 : decode cX8_event 8 = .ok (.ifCond .ne 6, 3) := by decide +kernel
theorem dX8_event_11 : decode cX8_event 11 = .ok (.bipush (-2), 2) := by decide +kernel
theorem dX8_event_13 : decode cX8_event 13 = .ok (.ireturn, 1) := by decide +kernel
theorem dX8_event_14 : decode cX8_event 14 = .ok (.iload_n 2, 1) := by decide +kernel
theorem dX8_event_15 : decode cX8_event 15 = .ok (.iconst 0, 1) := by decide +kernel
theorem dX8_event_16 : decode cX8_event 16 = .ok (.sipush 1439, 3) := by decide +kernel
theorem dX8_event_19 : decode cX8_event 19 = .ok (.invokestatic 78, 3) := by decide +kernel
theorem dX8_event_22 : decode cX8_event 22 = .ok (.ifCond .ne 6, 3) := by decide +kernel
theorem dX8_event_25 : decode cX8_event 25 = .ok (.bipush (-3), 2) := by decide +kernel
theorem dX8_event_27 : decode cX8_event 27 = .ok (.ireturn, 1) := by decide +kernel
theorem dX8_event_28 : decode cX8_event 28 = .ok (.aload_n 0, 1) := by decide +kernel
theorem dX8_event_29 : decode cX8_event 29 = .ok (.getfield 102, 3) := by decide +kernel
theorem dX8_event_32 : decode cX8_event 32 = .ok (.bipush 12, 2) := by decide +kernel
theorem dX8_event_34 : decode cX8_event 34 = .ok (.if_icmp .ne 6, 3) := by decide +kernel
theorem dX8_event_37 : decode cX8_event 37 = .ok (.bipush (-5), 2) := by decide +kernel
theorem dX8_event_39 : decode cX8_event 39 = .ok (.ireturn, 1) := by decide +kernel
theorem dX8_event_40 : decode cX8_event 40 = .ok (.aload_n 0, 1) := by decide +kernel
theorem dX8_event_41 : decode cX8_event 41 = .ok (.getfield 41, 3) := by decide +kernel
theorem dX8_event_44 : decode cX8_event 44 = .ok (.aload_n 0, 1) := by decide +kernel
theorem dX8_event_45 : decode cX8_event 45 = .ok (.getfield 102, 3) := by decide +kernel
theorem dX8_event_48 : decode cX8_event 48 = .ok (.iload_n 1, 1) := by decide +kernel
theorem dX8_event_49 : decode cX8_event 49 = .ok (.iastore, 1) := by decide +kernel
theorem dX8_event_50 : decode cX8_event 50 = .ok (.aload_n 0, 1) := by decide +kernel
theorem dX8_event_51 : decode cX8_event 51 = .ok (.getfield 44, 3) := by decide +kernel
theorem dX8_event_54 : decode cX8_event 54 = .ok (.aload_n 0, 1) := by decide +kernel
theorem dX8_event_55 : decode cX8_event 55 = .ok (.getfield 102, 3) := by decide +kernel
theorem dX8_event_58 : decode cX8_event 58 = .ok (.iload_n 2, 1) := by decide +kernel
theorem dX8_event_59 : decode cX8_event 59 = .ok (.iastore, 1) := by decide +kernel
theorem dX8_event_60 : decode cX8_event 60 = .ok (.aload_n 0, 1) := by decide +kernel
theorem dX8_event_61 : decode cX8_event 61 = .ok (.getfield 47, 3) := by decide +kernel
theorem dX8_event_64 : decode cX8_event 64 = .ok (.aload_n 0, 1) := by decide +kernel
theorem dX8_event_65 : decode cX8_event 65 = .ok (.getfield 102, 3) := by decide +kernel
theorem dX8_event_68 : decode cX8_event 68 = .ok (.iload_n 3, 1) := by decide +kernel
theorem dX8_event_69 : decode cX8_event 69 = .ok (.bastore, 1) := by decide +kernel
theorem dX8_event_70 : decode cX8_event 70 = .ok (.aload_n 0, 1) := by decide +kernel
theorem dX8_event_71 : decode cX8_event 71 = .ok (.getfield 7, 3) := by decide +kernel
theorem dX8_event_74 : decode cX8_event 74 = .ok (.bipush 35, 2) := by decide +kernel
theorem dX8_event_76 : decode cX8_event 76 = .ok (.aload_n 0, 1) := by decide +kernel
theorem dX8_event_77 : decode cX8_event 77 = .ok (.getfield 102, 3) := by decide +kernel
theorem dX8_event_80 : decode cX8_event 80 = .ok (.iadd, 1) := by decide +kernel
theorem dX8_event_81 : decode cX8_event 81 = .ok (.iconst 0, 1) := by decide +kernel
theorem dX8_event_82 : decode cX8_event 82 = .ok (.iastore, 1) := by decide +kernel
theorem dX8_event_83 : decode cX8_event 83 = .ok (.aload_n 0, 1) := by decide +kernel
theorem dX8_event_84 : decode cX8_event 84 = .ok (.dup, 1) := by decide +kernel
theorem dX8_event_85 : decode cX8_event 85 = .ok (.getfield 102, 3) := by decide +kernel
theorem dX8_event_88 : decode cX8_event 88 = .ok (.iconst 1, 1) := by decide +kernel
theorem dX8_event_89 : decode cX8_event 89 = .ok (.iadd, 1) := by decide +kernel
theorem dX8_event_90 : decode cX8_event 90 = .ok (.putfield 102, 3) := by decide +kernel
theorem dX8_event_93 : decode cX8_event 93 = .ok (.aload_n 0, 1) := by decide +kernel
theorem dX8_event_94 : decode cX8_event 94 = .ok (.aload_n 0, 1) := by decide +kernel
theorem dX8_event_95 : decode cX8_event 95 = .ok (.getfield 102, 3) := by decide +kernel
theorem dX8_event_98 : decode cX8_event 98 = .ok (.iconst 1, 1) := by decide +kernel
theorem dX8_event_99 : decode cX8_event 99 = .ok (.isub, 1) := by decide +kernel
theorem dX8_event_100 : decode cX8_event 100 = .ok (.invokevirtual 85, 3) := by decide +kernel
theorem dX8_event_103 : decode cX8_event 103 = .ok (.ireturn, 1) := by decide +kernel
theorem dX8_timer_0 : decode cX8_timer 0 = .ok (.iload_n 1, 1) := by decide +kernel
theorem dX8_timer_1 : decode cX8_timer 1 = .ok (.aload_n 0, 1) := by decide +kernel
theorem dX8_timer_2 : decode cX8_timer 2 = .ok (.getfield 99, 3) := by decide +kernel
theorem dX8_timer_5 : decode cX8_timer 5 = .ok (.invokestatic 89, 3) := by decide +kernel
theorem dX8_timer_8 : decode cX8_timer 8 = .ok (.ifCond .ne 6, 3) := by decide +kernel
theorem dX8_timer_11 : decode cX8_timer 11 = .ok (.bipush (-2), 2) := by decide +kernel
theorem dX8_timer_13 : decode cX8_timer 13 = .ok (.ireturn, 1) := by decide +kernel
theorem dX8_timer_14 : decode cX8_timer 14 = .ok (.iload_n 2, 1) := by decide +kernel
theorem dX8_timer_15 : decode cX8_timer 15 = .ok (.iconst 1, 1) := by decide +kernel
theorem dX8_timer_16 : decode cX8_timer 16 = .ok (.bipush 50, 2) := by decide +kernel
theorem dX8_timer_18 : decode cX8_timer 18 = .ok (.invokestatic 78, 3) := by decide +kernel
theorem dX8_timer_21 : decode cX8_timer 21 = .ok (.ifCond .ne 6, 3) := by decide +kernel
theorem dX8_timer_24 : decode cX8_timer 24 = .ok (.bipush (-3), 2) := by decide +kernel
theorem dX8_timer_26 : decode cX8_timer 26 = .ok (.ireturn, 1) := by decide +kernel
theorem dX8_timer_27 : decode cX8_timer 27 = .ok (.aload_n 0, 1) := by decide +kernel
theorem dX8_timer_28 : decode cX8_timer 28 = .ok (.getfield 105, 3) := by decide +kernel
theorem dX8_timer_31 : decode cX8_timer 31 = .ok (.bipush 12, 2) := by decide +kernel
theorem dX8_timer_33 : decode cX8_timer 33 = .ok (.if_icmp .ne 6, 3) := by decide +kernel
theorem dX8_timer_36 : decode cX8_timer 36 = .ok (.bipush (-5), 2) := by decide +kernel
theorem dX8_timer_38 : decode cX8_timer 38 = .ok (.ireturn, 1) := by decide +kernel
theorem dX8_timer_39 : decode cX8_timer 39 = .ok (.aload_n 0, 1) := by decide +kernel
theorem dX8_timer_40 : decode cX8_timer 40 = .ok (.getfield 51, 3) := by decide +kernel
theorem dX8_timer_43 : decode cX8_timer 43 = .ok (.aload_n 0, 1) := by decide +kernel
theorem dX8_timer_44 : decode cX8_timer 44 = .ok (.getfield 105, 3) := by decide +kernel
theorem dX8_timer_47 : decode cX8_timer 47 = .ok (.iload_n 1, 1) := by decide +kernel
theorem dX8_timer_48 : decode cX8_timer 48 = .ok (.iastore, 1) := by decide +kernel
theorem dX8_timer_49 : decode cX8_timer 49 = .ok (.aload_n 0, 1) := by decide +kernel
theorem dX8_timer_50 : decode cX8_timer 50 = .ok (.getfield 54, 3) := by decide +kernel
theorem dX8_timer_53 : decode cX8_timer 53 = .ok (.aload_n 0, 1) := by decide +kernel
theorem dX8_timer_54 : decode cX8_timer 54 = .ok (.getfield 105, 3) := by decide +kernel
theorem dX8_timer_57 : decode cX8_timer 57 = .ok (.iload_n 2, 1) := by decide +kernel
theorem dX8_timer_58 : decode cX8_timer 58 = .ok (.iastore, 1) := by decide +kernel
theorem dX8_timer_59 : decode cX8_timer 59 = .ok (.aload_n 0, 1) := by decide +kernel
theorem dX8_timer_60 : decode cX8_timer 60 = .ok (.getfield 57, 3) := by decide +kernel
theorem dX8_timer_63 : decode cX8_timer 63 = .ok (.aload_n 0, 1) := by decide +kernel
theorem dX8_timer_64 : decode cX8_timer 64 = .ok (.getfield 105, 3) := by decide +kernel
theorem dX8_timer_67 : decode cX8_timer 67 = .ok (.iload_n 3, 1) := by decide +kernel
theorem dX8_timer_68 : decode cX8_timer 68 = .ok (.bastore, 1) := by decide +kernel
theorem dX8_timer_69 : decode cX8_timer 69 = .ok (.aload_n 0, 1) := by decide +kernel
theorem dX8_timer_70 : decode cX8_timer 70 = .ok (.getfield 7, 3) := by decide +kernel
theorem dX8_timer_73 : decode cX8_timer 73 = .ok (.bipush 47, 2) := by decide +kernel
theorem dX8_timer_75 : decode cX8_timer 75 = .ok (.aload_n 0, 1) := by decide +kernel
theorem dX8_timer_76 : decode cX8_timer 76 = .ok (.getfield 105, 3) := by decide +kernel
theorem dX8_timer_79 : decode cX8_timer 79 = .ok (.iadd, 1) := by decide +kernel
theorem dX8_timer_80 : decode cX8_timer 80 = .ok (.iconst 0, 1) := by decide +kernel
theorem dX8_timer_81 : decode cX8_timer 81 = .ok (.iastore, 1) := by decide +kernel
theorem dX8_timer_82 : decode cX8_timer 82 = .ok (.aload_n 0, 1) := by decide +kernel
theorem dX8_timer_83 : decode cX8_timer 83 = .ok (.dup, 1) := by decide +kernel
theorem dX8_timer_84 : decode cX8_timer 84 = .ok (.getfield 105, 3) := by decide +kernel
theorem dX8_timer_87 : decode cX8_timer 87 = .ok (.iconst 1, 1) := by decide +kernel
theorem dX8_timer_88 : decode cX8_timer 88 = .ok (.iadd, 1) := by decide +kernel
theorem dX8_timer_89 : decode cX8_timer 89 = .ok (.putfield 105, 3) := by decide +kernel
theorem dX8_timer_92 : decode cX8_timer 92 = .ok (.aload_n 0, 1) := by decide +kernel
theorem dX8_timer_93 : decode cX8_timer 93 = .ok (.aload_n 0, 1) := by decide +kernel
theorem dX8_timer_94 : decode cX8_timer 94 = .ok (.getfield 105, 3) := by decide +kernel
theorem dX8_timer_97 : decode cX8_timer 97 = .ok (.iconst 1, 1) := by decide +kernel
theorem dX8_timer_98 : decode cX8_timer 98 = .ok (.isub, 1) := by decide +kernel
theorem dX8_timer_99 : decode cX8_timer 99 = .ok (.invokevirtual 85, 3) := by decide +kernel
theorem dX8_timer_102 : decode cX8_timer 102 = .ok (.ireturn, 1) := by decide +kernel
theorem dX8_daemon_0 : decode cX8_daemon 0 = .ok (.iload_n 1, 1) := by decide +kernel
theorem dX8_daemon_1 : decode cX8_daemon 1 = .ok (.aload_n 0, 1) := by decide +kernel
theorem dX8_daemon_2 : decode cX8_daemon 2 = .ok (.getfield 99, 3) := by decide +kernel
theorem dX8_daemon_5 : decode cX8_daemon 5 = .ok (.invokestatic 89, 3) := by decide +kernel
theorem dX8_daemon_8 : decode cX8_daemon 8 = .ok (.ifCond .ne 6, 3) := by decide +kernel
theorem dX8_daemon_11 : decode cX8_daemon 11 = .ok (.bipush (-2), 2) := by decide +kernel
theorem dX8_daemon_13 : decode cX8_daemon 13 = .ok (.ireturn, 1) := by decide +kernel
theorem dX8_daemon_14 : decode cX8_daemon 14 = .ok (.iload_n 2, 1) := by decide +kernel
theorem dX8_daemon_15 : decode cX8_daemon 15 = .ok (.iconst 0, 1) := by decide +kernel
theorem dX8_daemon_16 : decode cX8_daemon 16 = .ok (.bipush 9, 2) := by decide +kernel
theorem dX8_daemon_18 : decode cX8_daemon 18 = .ok (.invokestatic 78, 3) := by decide +kernel
theorem dX8_daemon_21 : decode cX8_daemon 21 = .ok (.ifCond .ne 6, 3) := by decide +kernel
theorem dX8_daemon_24 : decode cX8_daemon 24 = .ok (.bipush (-3), 2) := by decide +kernel
theorem dX8_daemon_26 : decode cX8_daemon 26 = .ok (.ireturn, 1) := by decide +kernel
theorem dX8_daemon_27 : decode cX8_daemon 27 = .ok (.aload_n 0, 1) := by decide +kernel
theorem dX8_daemon_28 : decode cX8_daemon 28 = .ok (.getfield 108, 3) := by decide +kernel
theorem dX8_daemon_31 : decode cX8_daemon 31 = .ok (.bipush 12, 2) := by decide +kernel
theorem dX8_daemon_33 : decode cX8_daemon 33 = .ok (.if_icmp .ne 6, 3) := by decide +kernel
theorem dX8_daemon_36 : decode cX8_daemon 36 = .ok (.bipush (-5), 2) := by decide +kernel
theorem dX8_daemon_38 : decode cX8_daemon 38 = .ok (.ireturn, 1) := by decide +kernel
theorem dX8_daemon_39 : decode cX8_daemon 39 = .ok (.aload_n 0, 1) := by decide +kernel
theorem dX8_daemon_40 : decode cX8_daemon 40 = .ok (.getfield 60, 3) := by decide +kernel
theorem dX8_daemon_43 : decode cX8_daemon 43 = .ok (.aload_n 0, 1) := by decide +kernel
theorem dX8_daemon_44 : decode cX8_daemon 44 = .ok (.getfield 108, 3) := by decide +kernel
theorem dX8_daemon_47 : decode cX8_daemon 47 = .ok (.iload_n 1, 1) := by decide +kernel
theorem dX8_daemon_48 : decode cX8_daemon 48 = .ok (.iastore, 1) := by decide +kernel
theorem dX8_daemon_49 : decode cX8_daemon 49 = .ok (.aload_n 0, 1) := by decide +kernel
theorem dX8_daemon_50 : decode cX8_daemon 50 = .ok (.getfield 63, 3) := by decide +kernel
theorem dX8_daemon_53 : decode cX8_daemon 53 = .ok (.aload_n 0, 1) := by decide +kernel
theorem dX8_daemon_54 : decode cX8_daemon 54 = .ok (.getfield 108, 3) := by decide +kernel
theorem dX8_daemon_57 : decode cX8_daemon 57 = .ok (.iload_n 2, 1) := by decide +kernel
theorem dX8_daemon_58 : decode cX8_daemon 58 = .ok (.iastore, 1) := by decide +kernel
theorem dX8_daemon_59 : decode cX8_daemon 59 = .ok (.aload_n 0, 1) := by decide +kernel
theorem dX8_daemon_60 : decode cX8_daemon 60 = .ok (.getfield 7, 3) := by decide +kernel
theorem dX8_daemon_63 : decode cX8_daemon 63 = .ok (.bipush 59, 2) := by decide +kernel
theorem dX8_daemon_65 : decode cX8_daemon 65 = .ok (.aload_n 0, 1) := by decide +kernel
theorem dX8_daemon_66 : decode cX8_daemon 66 = .ok (.getfield 108, 3) := by decide +kernel
theorem dX8_daemon_69 : decode cX8_daemon 69 = .ok (.iadd, 1) := by decide +kernel
theorem dX8_daemon_70 : decode cX8_daemon 70 = .ok (.iconst 0, 1) := by decide +kernel
theorem dX8_daemon_71 : decode cX8_daemon 71 = .ok (.iastore, 1) := by decide +kernel
theorem dX8_daemon_72 : decode cX8_daemon 72 = .ok (.aload_n 0, 1) := by decide +kernel
theorem dX8_daemon_73 : decode cX8_daemon 73 = .ok (.dup, 1) := by decide +kernel
theorem dX8_daemon_74 : decode cX8_daemon 74 = .ok (.getfield 108, 3) := by decide +kernel
theorem dX8_daemon_77 : decode cX8_daemon 77 = .ok (.iconst 1, 1) := by decide +kernel
theorem dX8_daemon_78 : decode cX8_daemon 78 = .ok (.iadd, 1) := by decide +kernel
theorem dX8_daemon_79 : decode cX8_daemon 79 = .ok (.putfield 108, 3) := by decide +kernel
theorem dX8_daemon_82 : decode cX8_daemon 82 = .ok (.aload_n 0, 1) := by decide +kernel
theorem dX8_daemon_83 : decode cX8_daemon 83 = .ok (.aload_n 0, 1) := by decide +kernel
theorem dX8_daemon_84 : decode cX8_daemon 84 = .ok (.getfield 108, 3) := by decide +kernel
theorem dX8_daemon_87 : decode cX8_daemon 87 = .ok (.iconst 1, 1) := by decide +kernel
theorem dX8_daemon_88 : decode cX8_daemon 88 = .ok (.isub, 1) := by decide +kernel
theorem dX8_daemon_89 : decode cX8_daemon 89 = .ok (.invokevirtual 85, 3) := by decide +kernel
theorem dX8_daemon_92 : decode cX8_daemon 92 = .ok (.ireturn, 1) := by decide +kernel
theorem dX8_bound_0 : decode cX8_bound 0 = .ok (.iload_n 0, 1) := by decide +kernel
theorem dX8_bound_1 : decode cX8_bound 1 = .ok (.iload_n 1, 1) := by decide +kernel
theorem dX8_bound_2 : decode cX8_bound 2 = .ok (.if_icmp .ge 7, 3) := by decide +kernel
theorem dX8_bound_5 : decode cX8_bound 5 = .ok (.iload_n 1, 1) := by decide +kernel
theorem dX8_bound_6 : decode cX8_bound 6 = .ok (.goto 13, 3) := by decide +kernel
theorem dX8_bound_9 : decode cX8_bound 9 = .ok (.iload_n 0, 1) := by decide +kernel
theorem dX8_bound_10 : decode cX8_bound 10 = .ok (.iload_n 2, 1) := by decide +kernel
theorem dX8_bound_11 : decode cX8_bound 11 = .ok (.if_icmp .le 7, 3) := by decide +kernel
theorem dX8_bound_14 : decode cX8_bound 14 = .ok (.iload_n 2, 1) := by decide +kernel
theorem dX8_bound_15 : decode cX8_bound 15 = .ok (.goto 4, 3) := by decide +kernel
theorem dX8_bound_18 : decode cX8_bound 18 = .ok (.iload_n 0, 1) := by decide +kernel
theorem dX8_bound_19 : decode cX8_bound 19 = .ok (.ireturn, 1) := by decide +kernel
theorem dX8_holds_0 : decode cX8_holds 0 = .ok (.aload_n 0, 1) := by decide +kernel
theorem dX8_holds_1 : decode cX8_holds 1 = .ok (.getfield 35, 3) := by decide +kernel
theorem dX8_holds_4 : decode cX8_holds 4 = .ok (.iload_n 1, 1) := by decide +kernel
theorem dX8_holds_5 : decode cX8_holds 5 = .ok (.iaload, 1) := by decide +kernel
theorem dX8_holds_6 : decode cX8_holds 6 = .ok (.iconst (-1), 1) := by decide +kernel
theorem dX8_holds_7 : decode cX8_holds 7 = .ok (.if_icmp .eq 25, 3) := by decide +kernel
theorem dX8_holds_10 : decode cX8_holds 10 = .ok (.aload_n 0, 1) := by decide +kernel
theorem dX8_holds_11 : decode cX8_holds 11 = .ok (.getfield 7, 3) := by decide +kernel
theorem dX8_holds_14 : decode cX8_holds 14 = .ok (.iconst 4, 1) := by decide +kernel
theorem dX8_holds_15 : decode cX8_holds 15 = .ok (.aload_n 0, 1) := by decide +kernel
theorem dX8_holds_16 : decode cX8_holds 16 = .ok (.getfield 35, 3) := by decide +kernel
theorem dX8_holds_19 : decode cX8_holds 19 = .ok (.iload_n 1, 1) := by decide +kernel
theorem dX8_holds_20 : decode cX8_holds 20 = .ok (.iaload, 1) := by decide +kernel
theorem dX8_holds_21 : decode cX8_holds 21 = .ok (.iadd, 1) := by decide +kernel
theorem dX8_holds_22 : decode cX8_holds 22 = .ok (.iaload, 1) := by decide +kernel
theorem dX8_holds_23 : decode cX8_holds 23 = .ok (.aload_n 0, 1) := by decide +kernel
theorem dX8_holds_24 : decode cX8_holds 24 = .ok (.getfield 38, 3) := by decide +kernel
theorem dX8_holds_27 : decode cX8_holds 27 = .ok (.iload_n 1, 1) := by decide +kernel
theorem dX8_holds_28 : decode cX8_holds 28 = .ok (.iaload, 1) := by decide +kernel
theorem dX8_holds_29 : decode cX8_holds 29 = .ok (.if_icmp .lt 7, 3) := by decide +kernel
theorem dX8_holds_32 : decode cX8_holds 32 = .ok (.iconst 1, 1) := by decide +kernel
theorem dX8_holds_33 : decode cX8_holds 33 = .ok (.goto 4, 3) := by decide +kernel
theorem dX8_holds_36 : decode cX8_holds 36 = .ok (.iconst 0, 1) := by decide +kernel
theorem dX8_holds_37 : decode cX8_holds 37 = .ok (.ireturn, 1) := by decide +kernel
theorem dX8_perform_0 : decode cX8_perform 0 = .ok (.aload_n 0, 1) := by decide +kernel
theorem dX8_perform_1 : decode cX8_perform 1 = .ok (.iload_n 1, 1) := by decide +kernel
theorem dX8_perform_2 : decode cX8_perform 2 = .ok (.invokevirtual 111, 3) := by decide +kernel
theorem dX8_perform_5 : decode cX8_perform 5 = .ok (.ifCond .ne 4, 3) := by decide +kernel
theorem dX8_perform_8 : decode cX8_perform 8 = .ok (.return_, 1) := by decide +kernel
theorem dX8_perform_9 : decode cX8_perform 9 = .ok (.aload_n 0, 1) := by decide +kernel
theorem dX8_perform_10 : decode cX8_perform 10 = .ok (.getfield 29, 3) := by decide +kernel
theorem dX8_perform_13 : decode cX8_perform 13 = .ok (.iload_n 1, 1) := by decide +kernel
theorem dX8_perform_14 : decode cX8_perform 14 = .ok (.iaload, 1) := by decide +kernel
theorem dX8_perform_15 : decode cX8_perform 15 = .ok (.istore_n 2, 1) := by decide +kernel
theorem dX8_perform_16 : decode cX8_perform 16 = .ok (.aload_n 0, 1) := by decide +kernel
theorem dX8_perform_17 : decode cX8_perform 17 = .ok (.getfield 32, 3) := by decide +kernel
theorem dX8_perform_20 : decode cX8_perform 20 = .ok (.iload_n 1, 1) := by decide +kernel
theorem dX8_perform_21 : decode cX8_perform 21 = .ok (.iaload, 1) := by decide +kernel
theorem dX8_perform_22 : decode cX8_perform 22 = .ok (.istore_n 3, 1) := by decide +kernel
theorem dX8_perform_23 : decode cX8_perform 23 = .ok (.aload_n 0, 1) := by decide +kernel
theorem dX8_perform_24 : decode cX8_perform 24 = .ok (.getfield 26, 3) := by decide +kernel
theorem dX8_perform_27 : decode cX8_perform 27 = .ok (.iload_n 1, 1) := by decide +kernel
theorem dX8_perform_28 : decode cX8_perform 28 = .ok (.iaload, 1) := by decide +kernel
theorem dX8_perform_29 : decode cX8_perform 29 = .ok (.tableswitch 282 0 7 #[47, 77, 113, 137, 161, 185, 219, 271], 47) := by decide +kernel
theorem dX8_perform_76 : decode cX8_perform 76 = .ok (.aload_n 0, 1) := by decide +kernel
theorem dX8_perform_77 : decode cX8_perform 77 = .ok (.getfield 7, 3) := by decide +kernel
theorem dX8_perform_80 : decode cX8_perform 80 = .ok (.iconst 4, 1) := by decide +kernel
theorem dX8_perform_81 : decode cX8_perform 81 = .ok (.iload_n 2, 1) := by decide +kernel
theorem dX8_perform_82 : decode cX8_perform 82 = .ok (.iadd, 1) := by decide +kernel
theorem dX8_perform_83 : decode cX8_perform 83 = .ok (.aload_n 0, 1) := by decide +kernel
theorem dX8_perform_84 : decode cX8_perform 84 = .ok (.getfield 7, 3) := by decide +kernel
theorem dX8_perform_87 : decode cX8_perform 87 = .ok (.iconst 4, 1) := by decide +kernel
theorem dX8_perform_88 : decode cX8_perform 88 = .ok (.iload_n 2, 1) := by decide +kernel
theorem dX8_perform_89 : decode cX8_perform 89 = .ok (.iadd, 1) := by decide +kernel
theorem dX8_perform_90 : decode cX8_perform 90 = .ok (.iaload, 1) := by decide +kernel
theorem dX8_perform_91 : decode cX8_perform 91 = .ok (.iload_n 3, 1) := by decide +kernel
theorem dX8_perform_92 : decode cX8_perform 92 = .ok (.iadd, 1) := by decide +kernel
theorem dX8_perform_93 : decode cX8_perform 93 = .ok (.sipush (-1000), 3) := by decide +kernel
theorem dX8_perform_96 : decode cX8_perform 96 = .ok (.sipush 1000, 3) := by decide +kernel
theorem dX8_perform_99 : decode cX8_perform 99 = .ok (.invokestatic 115, 3) := by decide +kernel
theorem dX8_perform_102 : decode cX8_perform 102 = .ok (.iastore, 1) := by decide +kernel
theorem dX8_perform_103 : decode cX8_perform 103 = .ok (.goto 229, 3) := by decide +kernel
theorem dX8_perform_106 : decode cX8_perform 106 = .ok (.iload_n 2, 1) := by decide +kernel
theorem dX8_perform_107 : decode cX8_perform 107 = .ok (.aload_n 0, 1) := by decide +kernel
theorem dX8_perform_108 : decode cX8_perform 108 = .ok (.getfield 105, 3) := by decide +kernel
theorem dX8_perform_111 : decode cX8_perform 111 = .ok (.invokestatic 89, 3) := by decide +kernel
theorem dX8_perform_114 : decode cX8_perform 114 = .ok (.ifCond .eq 218, 3) := by decide +kernel
theorem dX8_perform_117 : decode cX8_perform 117 = .ok (.aload_n 0, 1) := by decide +kernel
theorem dX8_perform_118 : decode cX8_perform 118 = .ok (.getfield 7, 3) := by decide +kernel
theorem dX8_perform_121 : decode cX8_perform 121 = .ok (.bipush 47, 2) := by decide +kernel
theorem dX8_perform_123 : decode cX8_perform 123 = .ok (.iload_n 2, 1) := by decide +kernel
theorem dX8_perform_124 : decode cX8_perform 124 = .ok (.iadd, 1) := by decide +kernel
theorem dX8_perform_125 : decode cX8_perform 125 = .ok (.aload_n 0, 1) := by decide +kernel
theorem dX8_perform_126 : decode cX8_perform 126 = .ok (.getfield 54, 3) := by decide +kernel
theorem dX8_perform_129 : decode cX8_perform 129 = .ok (.iload_n 2, 1) := by decide +kernel
theorem dX8_perform_130 : decode cX8_perform 130 = .ok (.iaload, 1) := by decide +kernel
theorem dX8_perform_131 : decode cX8_perform 131 = .ok (.iastore, 1) := by decide +kernel
theorem dX8_perform_132 : decode cX8_perform 132 = .ok (.aload_n 0, 1) := by decide +kernel
theorem dX8_perform_133 : decode cX8_perform 133 = .ok (.getfield 66, 3) := by decide +kernel
theorem dX8_perform_136 : decode cX8_perform 136 = .ok (.iload_n 2, 1) := by decide +kernel
theorem dX8_perform_137 : decode cX8_perform 137 = .ok (.iconst 1, 1) := by decide +kernel
theorem dX8_perform_138 : decode cX8_perform 138 = .ok (.bastore, 1) := by decide +kernel
theorem dX8_perform_139 : decode cX8_perform 139 = .ok (.goto 193, 3) := by decide +kernel
theorem dX8_perform_142 : decode cX8_perform 142 = .ok (.iload_n 2, 1) := by decide +kernel
theorem dX8_perform_143 : decode cX8_perform 143 = .ok (.aload_n 0, 1) := by decide +kernel
theorem dX8_perform_144 : decode cX8_perform 144 = .ok (.getfield 105, 3) := by decide +kernel
theorem dX8_perform_147 : decode cX8_perform 147 = .ok (.invokestatic 89, 3) := by decide +kernel
theorem dX8_perform_150 : decode cX8_perform 150 = .ok (.ifCond .eq 182, 3) := by decide +kernel
theorem dX8_perform_153 : decode cX8_perform 153 = .ok (.aload_n 0, 1) := by decide +kernel
theorem dX8_perform_154 : decode cX8_perform 154 = .ok (.getfield 7, 3) := by decide +kernel
theorem dX8_perform_157 : decode cX8_perform 157 = .ok (.bipush 47, 2) := by decide +kernel
theorem dX8_perform_159 : decode cX8_perform 159 = .ok (.iload_n 2, 1) := by decide +kernel
theorem dX8_perform_160 : decode cX8_perform 160 = .ok (.iadd, 1) := by decide +kernel
theorem dX8_perform_161 : decode cX8_perform 161 = .ok (.iconst 0, 1) := by decide +kernel
theorem dX8_perform_162 : decode cX8_perform 162 = .ok (.iastore, 1) := by decide +kernel
theorem dX8_perform_163 : decode cX8_perform 163 = .ok (.goto 169, 3) := by decide +kernel
theorem dX8_perform_166 : decode cX8_perform 166 = .ok (.iload_n 2, 1) := by decide +kernel
theorem dX8_perform_167 : decode cX8_perform 167 = .ok (.aload_n 0, 1) := by decide +kernel
theorem dX8_perform_168 : decode cX8_perform 168 = .ok (.getfield 108, 3) := by decide +kernel
theorem dX8_perform_171 : decode cX8_perform 171 = .ok (.invokestatic 89, 3) := by decide +kernel
theorem dX8_perform_174 : decode cX8_perform 174 = .ok (.ifCond .eq 158, 3) := by decide +kernel
theorem dX8_perform_177 : decode cX8_perform 177 = .ok (.aload_n 0, 1) := by decide +kernel
theorem dX8_perform_178 : decode cX8_perform 178 = .ok (.getfield 7, 3) := by decide +kernel
theorem dX8_perform_181 : decode cX8_perform 181 = .ok (.bipush 59, 2) := by decide +kernel
theorem dX8_perform_183 : decode cX8_perform 183 = .ok (.iload_n 2, 1) := by decide +kernel
theorem dX8_perform_184 : decode cX8_perform 184 = .ok (.iadd, 1) := by decide +kernel
theorem dX8_perform_185 : decode cX8_perform 185 = .ok (.iconst 1, 1) := by decide +kernel
theorem dX8_perform_186 : decode cX8_perform 186 = .ok (.iastore, 1) := by decide +kernel
theorem dX8_perform_187 : decode cX8_perform 187 = .ok (.goto 145, 3) := by decide +kernel
theorem dX8_perform_190 : decode cX8_perform 190 = .ok (.iload_n 2, 1) := by decide +kernel
theorem dX8_perform_191 : decode cX8_perform 191 = .ok (.aload_n 0, 1) := by decide +kernel
theorem dX8_perform_192 : decode cX8_perform 192 = .ok (.getfield 108, 3) := by decide +kernel
theorem dX8_perform_195 : decode cX8_perform 195 = .ok (.invokestatic 89, 3) := by decide +kernel
theorem dX8_perform_198 : decode cX8_perform 198 = .ok (.ifCond .eq 134, 3) := by decide +kernel
theorem dX8_perform_201 : decode cX8_perform 201 = .ok (.aload_n 0, 1) := by decide +kernel
theorem dX8_perform_202 : decode cX8_perform 202 = .ok (.getfield 7, 3) := by decide +kernel
theorem dX8_perform_205 : decode cX8_perform 205 = .ok (.bipush 59, 2) := by decide +kernel
theorem dX8_perform_207 : decode cX8_perform 207 = .ok (.iload_n 2, 1) := by decide +kernel
theorem dX8_perform_208 : decode cX8_perform 208 = .ok (.iadd, 1) := by decide +kernel
theorem dX8_perform_209 : decode cX8_perform 209 = .ok (.iconst 0, 1) := by decide +kernel
theorem dX8_perform_210 : decode cX8_perform 210 = .ok (.iastore, 1) := by decide +kernel
theorem dX8_perform_211 : decode cX8_perform 211 = .ok (.goto 121, 3) := by decide +kernel
theorem dX8_perform_214 : decode cX8_perform 214 = .ok (.iload_n 2, 1) := by decide +kernel
theorem dX8_perform_215 : decode cX8_perform 215 = .ok (.aload_n 0, 1) := by decide +kernel
theorem dX8_perform_216 : decode cX8_perform 216 = .ok (.getfield 93, 3) := by decide +kernel
theorem dX8_perform_219 : decode cX8_perform 219 = .ok (.invokestatic 89, 3) := by decide +kernel
theorem dX8_perform_222 : decode cX8_perform 222 = .ok (.ifCond .eq 110, 3) := by decide +kernel
theorem dX8_perform_225 : decode cX8_perform 225 = .ok (.aload_n 0, 1) := by decide +kernel
theorem dX8_perform_226 : decode cX8_perform 226 = .ok (.getfield 7, 3) := by decide +kernel
theorem dX8_perform_229 : decode cX8_perform 229 = .ok (.bipush 12, 2) := by decide +kernel
theorem dX8_perform_231 : decode cX8_perform 231 = .ok (.iload_n 2, 1) := by decide +kernel
theorem dX8_perform_232 : decode cX8_perform 232 = .ok (.iadd, 1) := by decide +kernel
theorem dX8_perform_233 : decode cX8_perform 233 = .ok (.iconst 1, 1) := by decide +kernel
theorem dX8_perform_234 : decode cX8_perform 234 = .ok (.aload_n 0, 1) := by decide +kernel
theorem dX8_perform_235 : decode cX8_perform 235 = .ok (.getfield 7, 3) := by decide +kernel
theorem dX8_perform_238 : decode cX8_perform 238 = .ok (.bipush 12, 2) := by decide +kernel
theorem dX8_perform_240 : decode cX8_perform 240 = .ok (.iload_n 2, 1) := by decide +kernel
theorem dX8_perform_241 : decode cX8_perform 241 = .ok (.iadd, 1) := by decide +kernel
theorem dX8_perform_242 : decode cX8_perform 242 = .ok (.iaload, 1) := by decide +kernel
theorem dX8_perform_243 : decode cX8_perform 243 = .ok (.isub, 1) := by decide +kernel
theorem dX8_perform_244 : decode cX8_perform 244 = .ok (.iastore, 1) := by decide +kernel
theorem dX8_perform_245 : decode cX8_perform 245 = .ok (.goto 87, 3) := by decide +kernel
theorem dX8_perform_248 : decode cX8_perform 248 = .ok (.iload_n 2, 1) := by decide +kernel
theorem dX8_perform_249 : decode cX8_perform 249 = .ok (.aload_n 0, 1) := by decide +kernel
theorem dX8_perform_250 : decode cX8_perform 250 = .ok (.getfield 96, 3) := by decide +kernel
theorem dX8_perform_253 : decode cX8_perform 253 = .ok (.invokestatic 89, 3) := by decide +kernel
theorem dX8_perform_256 : decode cX8_perform 256 = .ok (.ifCond .eq 76, 3) := by decide +kernel
theorem dX8_perform_259 : decode cX8_perform 259 = .ok (.iload_n 3, 1) := by decide +kernel
theorem dX8_perform_260 : decode cX8_perform 260 = .ok (.aload_n 0, 1) := by decide +kernel
theorem dX8_perform_261 : decode cX8_perform 261 = .ok (.getfield 82, 3) := by decide +kernel
theorem dX8_perform_264 : decode cX8_perform 264 = .ok (.invokestatic 89, 3) := by decide +kernel
theorem dX8_perform_267 : decode cX8_perform 267 = .ok (.ifCond .eq 65, 3) := by decide +kernel
theorem dX8_perform_270 : decode cX8_perform 270 = .ok (.aload_n 0, 1) := by decide +kernel
theorem dX8_perform_271 : decode cX8_perform 271 = .ok (.getfield 7, 3) := by decide +kernel
theorem dX8_perform_274 : decode cX8_perform 274 = .ok (.bipush 31, 2) := by decide +kernel
theorem dX8_perform_276 : decode cX8_perform 276 = .ok (.iload_n 2, 1) := by decide +kernel
theorem dX8_perform_277 : decode cX8_perform 277 = .ok (.iadd, 1) := by decide +kernel
theorem dX8_perform_278 : decode cX8_perform 278 = .ok (.aload_n 0, 1) := by decide +kernel
theorem dX8_perform_279 : decode cX8_perform 279 = .ok (.getfield 7, 3) := by decide +kernel
theorem dX8_perform_282 : decode cX8_perform 282 = .ok (.bipush 27, 2) := by decide +kernel
theorem dX8_perform_284 : decode cX8_perform 284 = .ok (.iload_n 2, 1) := by decide +kernel
theorem dX8_perform_285 : decode cX8_perform 285 = .ok (.iadd, 1) := by decide +kernel
theorem dX8_perform_286 : decode cX8_perform 286 = .ok (.iaload, 1) := by decide +kernel
theorem dX8_perform_287 : decode cX8_perform 287 = .ok (.iload_n 3, 1) := by decide +kernel
theorem dX8_perform_288 : decode cX8_perform 288 = .ok (.if_icmp .ne 7, 3) := by decide +kernel
theorem dX8_perform_291 : decode cX8_perform 291 = .ok (.iconst (-1), 1) := by decide +kernel
theorem dX8_perform_292 : decode cX8_perform 292 = .ok (.goto 4, 3) := by decide +kernel
theorem dX8_perform_295 : decode cX8_perform 295 = .ok (.iload_n 3, 1) := by decide +kernel
theorem dX8_perform_296 : decode cX8_perform 296 = .ok (.iastore, 1) := by decide +kernel
theorem dX8_perform_297 : decode cX8_perform 297 = .ok (.goto 35, 3) := by decide +kernel
theorem dX8_perform_300 : decode cX8_perform 300 = .ok (.aload_n 0, 1) := by decide +kernel
theorem dX8_perform_301 : decode cX8_perform 301 = .ok (.aload_n 0, 1) := by decide +kernel
theorem dX8_perform_302 : decode cX8_perform 302 = .ok (.getfield 119, 3) := by decide +kernel
theorem dX8_perform_305 : decode cX8_perform 305 = .ok (.putfield 123, 3) := by decide +kernel
theorem dX8_perform_308 : decode cX8_perform 308 = .ok (.goto 24, 3) := by decide +kernel
theorem dX8_perform_311 : decode cX8_perform 311 = .ok (.aload_n 0, 1) := by decide +kernel
theorem dX8_perform_312 : decode cX8_perform 312 = .ok (.getfield 7, 3) := by decide +kernel
theorem dX8_perform_315 : decode cX8_perform 315 = .ok (.iconst 3, 1) := by decide +kernel
theorem dX8_perform_316 : decode cX8_perform 316 = .ok (.aload_n 0, 1) := by decide +kernel
theorem dX8_perform_317 : decode cX8_perform 317 = .ok (.getfield 7, 3) := by decide +kernel
theorem dX8_perform_320 : decode cX8_perform 320 = .ok (.iconst 3, 1) := by decide +kernel
theorem dX8_perform_321 : decode cX8_perform 321 = .ok (.iaload, 1) := by decide +kernel
theorem dX8_perform_322 : decode cX8_perform 322 = .ok (.iload_n 3, 1) := by decide +kernel
theorem dX8_perform_323 : decode cX8_perform 323 = .ok (.iadd, 1) := by decide +kernel
theorem dX8_perform_324 : decode cX8_perform 324 = .ok (.iconst 0, 1) := by decide +kernel
theorem dX8_perform_325 : decode cX8_perform 325 = .ok (.sipush 600, 3) := by decide +kernel
theorem dX8_perform_328 : decode cX8_perform 328 = .ok (.invokestatic 115, 3) := by decide +kernel
theorem dX8_perform_331 : decode cX8_perform 331 = .ok (.iastore, 1) := by decide +kernel
theorem dX8_perform_332 : decode cX8_perform 332 = .ok (.return_, 1) := by decide +kernel
theorem dX8_act_0 : decode cX8_act 0 = .ok (.iload_n 1, 1) := by decide +kernel
theorem dX8_act_1 : decode cX8_act 1 = .ok (.aload_n 0, 1) := by decide +kernel
theorem dX8_act_2 : decode cX8_act 2 = .ok (.getfield 99, 3) := by decide +kernel
theorem dX8_act_5 : decode cX8_act 5 = .ok (.invokestatic 89, 3) := by decide +kernel
theorem dX8_act_8 : decode cX8_act 8 = .ok (.ifCond .ne 6, 3) := by decide +kernel
theorem dX8_act_11 : decode cX8_act 11 = .ok (.bipush (-2), 2) := by decide +kernel
theorem dX8_act_13 : decode cX8_act 13 = .ok (.ireturn, 1) := by decide +kernel
theorem dX8_act_14 : decode cX8_act 14 = .ok (.aload_n 0, 1) := by decide +kernel
theorem dX8_act_15 : decode cX8_act 15 = .ok (.iload_n 1, 1) := by decide +kernel
theorem dX8_act_16 : decode cX8_act 16 = .ok (.invokevirtual 111, 3) := by decide +kernel
theorem dX8_act_19 : decode cX8_act 19 = .ok (.ifCond .eq 7, 3) := by decide +kernel
theorem dX8_act_22 : decode cX8_act 22 = .ok (.iconst 1, 1) := by decide +kernel
theorem dX8_act_23 : decode cX8_act 23 = .ok (.goto 4, 3) := by decide +kernel
theorem dX8_act_26 : decode cX8_act 26 = .ok (.iconst 0, 1) := by decide +kernel
theorem dX8_act_27 : decode cX8_act 27 = .ok (.istore_n 2, 1) := by decide +kernel
theorem dX8_act_28 : decode cX8_act 28 = .ok (.aload_n 0, 1) := by decide +kernel
theorem dX8_act_29 : decode cX8_act 29 = .ok (.iload_n 1, 1) := by decide +kernel
theorem dX8_act_30 : decode cX8_act 30 = .ok (.invokevirtual 126, 3) := by decide +kernel
theorem dX8_act_33 : decode cX8_act 33 = .ok (.aload_n 0, 1) := by decide +kernel
theorem dX8_act_34 : decode cX8_act 34 = .ok (.iload_n 2, 1) := by decide +kernel
theorem dX8_act_35 : decode cX8_act 35 = .ok (.invokevirtual 85, 3) := by decide +kernel
theorem dX8_act_38 : decode cX8_act 38 = .ok (.ireturn, 1) := by decide +kernel
theorem dX8_pace_0 : decode cX8_pace 0 = .ok (.iload_n 1, 1) := by decide +kernel
theorem dX8_pace_1 : decode cX8_pace 1 = .ok (.iconst 1, 1) := by decide +kernel
theorem dX8_pace_2 : decode cX8_pace 2 = .ok (.bipush 60, 2) := by decide +kernel
theorem dX8_pace_4 : decode cX8_pace 4 = .ok (.invokestatic 78, 3) := by decide +kernel
theorem dX8_pace_7 : decode cX8_pace 7 = .ok (.ifCond .ne 6, 3) := by decide +kernel
theorem dX8_pace_10 : decode cX8_pace 10 = .ok (.bipush (-3), 2) := by decide +kernel
theorem dX8_pace_12 : decode cX8_pace 12 = .ok (.ireturn, 1) := by decide +kernel
theorem dX8_pace_13 : decode cX8_pace 13 = .ok (.aload_n 0, 1) := by decide +kernel
theorem dX8_pace_14 : decode cX8_pace 14 = .ok (.getfield 16, 3) := by decide +kernel
theorem dX8_pace_17 : decode cX8_pace 17 = .ok (.istore_n 2, 1) := by decide +kernel
theorem dX8_pace_18 : decode cX8_pace 18 = .ok (.aload_n 0, 1) := by decide +kernel
theorem dX8_pace_19 : decode cX8_pace 19 = .ok (.iload_n 1, 1) := by decide +kernel
theorem dX8_pace_20 : decode cX8_pace 20 = .ok (.putfield 16, 3) := by decide +kernel
theorem dX8_pace_23 : decode cX8_pace 23 = .ok (.aload_n 0, 1) := by decide +kernel
theorem dX8_pace_24 : decode cX8_pace 24 = .ok (.iload_n 2, 1) := by decide +kernel
theorem dX8_pace_25 : decode cX8_pace 25 = .ok (.invokevirtual 85, 3) := by decide +kernel
theorem dX8_pace_28 : decode cX8_pace 28 = .ok (.ireturn, 1) := by decide +kernel
theorem dX8_tell_0 : decode cX8_tell 0 = .ok (.aload_n 0, 1) := by decide +kernel
theorem dX8_tell_1 : decode cX8_tell 1 = .ok (.dup, 1) := by decide +kernel
theorem dX8_tell_2 : decode cX8_tell 2 = .ok (.getfield 130, 3) := by decide +kernel
theorem dX8_tell_5 : decode cX8_tell 5 = .ok (.iconst 1, 1) := by decide +kernel
theorem dX8_tell_6 : decode cX8_tell 6 = .ok (.iadd, 1) := by decide +kernel
theorem dX8_tell_7 : decode cX8_tell 7 = .ok (.putfield 130, 3) := by decide +kernel
theorem dX8_tell_10 : decode cX8_tell 10 = .ok (.aload_n 0, 1) := by decide +kernel
theorem dX8_tell_11 : decode cX8_tell 11 = .ok (.getfield 7, 3) := by decide +kernel
theorem dX8_tell_14 : decode cX8_tell 14 = .ok (.bipush 71, 2) := by decide +kernel
theorem dX8_tell_16 : decode cX8_tell 16 = .ok (.iaload, 1) := by decide +kernel
theorem dX8_tell_17 : decode cX8_tell 17 = .ok (.bipush 60, 2) := by decide +kernel
theorem dX8_tell_19 : decode cX8_tell 19 = .ok (.if_icmp .ge 52, 3) := by decide +kernel
theorem dX8_tell_22 : decode cX8_tell 22 = .ok (.aload_n 0, 1) := by decide +kernel
theorem dX8_tell_23 : decode cX8_tell 23 = .ok (.getfield 7, 3) := by decide +kernel
theorem dX8_tell_26 : decode cX8_tell 26 = .ok (.bipush 72, 2) := by decide +kernel
theorem dX8_tell_28 : decode cX8_tell 28 = .ok (.iconst 2, 1) := by decide +kernel
theorem dX8_tell_29 : decode cX8_tell 29 = .ok (.aload_n 0, 1) := by decide +kernel
theorem dX8_tell_30 : decode cX8_tell 30 = .ok (.getfield 7, 3) := by decide +kernel
theorem dX8_tell_33 : decode cX8_tell 33 = .ok (.bipush 71, 2) := by decide +kernel
theorem dX8_tell_35 : decode cX8_tell 35 = .ok (.iaload, 1) := by decide +kernel
theorem dX8_tell_36 : decode cX8_tell 36 = .ok (.imul, 1) := by decide +kernel
theorem dX8_tell_37 : decode cX8_tell 37 = .ok (.iadd, 1) := by decide +kernel
theorem dX8_tell_38 : decode cX8_tell 38 = .ok (.iload_n 1, 1) := by decide +kernel
theorem dX8_tell_39 : decode cX8_tell 39 = .ok (.iastore, 1) := by decide +kernel
theorem dX8_tell_40 : decode cX8_tell 40 = .ok (.aload_n 0, 1) := by decide +kernel
theorem dX8_tell_41 : decode cX8_tell 41 = .ok (.getfield 7, 3) := by decide +kernel
theorem dX8_tell_44 : decode cX8_tell 44 = .ok (.bipush 72, 2) := by decide +kernel
theorem dX8_tell_46 : decode cX8_tell 46 = .ok (.iconst 2, 1) := by decide +kernel
theorem dX8_tell_47 : decode cX8_tell 47 = .ok (.aload_n 0, 1) := by decide +kernel
theorem dX8_tell_48 : decode cX8_tell 48 = .ok (.getfield 7, 3) := by decide +kernel
theorem dX8_tell_51 : decode cX8_tell 51 = .ok (.bipush 71, 2) := by decide +kernel
theorem dX8_tell_53 : decode cX8_tell 53 = .ok (.iaload, 1) := by decide +kernel
theorem dX8_tell_54 : decode cX8_tell 54 = .ok (.imul, 1) := by decide +kernel
theorem dX8_tell_55 : decode cX8_tell 55 = .ok (.iadd, 1) := by decide +kernel
theorem dX8_tell_56 : decode cX8_tell 56 = .ok (.iconst 1, 1) := by decide +kernel
theorem dX8_tell_57 : decode cX8_tell 57 = .ok (.iadd, 1) := by decide +kernel
theorem dX8_tell_58 : decode cX8_tell 58 = .ok (.iload_n 2, 1) := by decide +kernel
theorem dX8_tell_59 : decode cX8_tell 59 = .ok (.iastore, 1) := by decide +kernel
theorem dX8_tell_60 : decode cX8_tell 60 = .ok (.aload_n 0, 1) := by decide +kernel
theorem dX8_tell_61 : decode cX8_tell 61 = .ok (.getfield 7, 3) := by decide +kernel
theorem dX8_tell_64 : decode cX8_tell 64 = .ok (.bipush 71, 2) := by decide +kernel
theorem dX8_tell_66 : decode cX8_tell 66 = .ok (.dup2, 1) := by decide +kernel
theorem dX8_tell_67 : decode cX8_tell 67 = .ok (.iaload, 1) := by decide +kernel
theorem dX8_tell_68 : decode cX8_tell 68 = .ok (.iconst 1, 1) := by decide +kernel
theorem dX8_tell_69 : decode cX8_tell 69 = .ok (.iadd, 1) := by decide +kernel
theorem dX8_tell_70 : decode cX8_tell 70 = .ok (.iastore, 1) := by decide +kernel
theorem dX8_tell_71 : decode cX8_tell 71 = .ok (.return_, 1) := by decide +kernel
theorem dX8_goTime_0 : decode cX8_goTime 0 = .ok (.aload_n 0, 1) := by decide +kernel
theorem dX8_goTime_1 : decode cX8_goTime 1 = .ok (.getfield 16, 3) := by decide +kernel
theorem dX8_goTime_4 : decode cX8_goTime 4 = .ok (.aload_n 0, 1) := by decide +kernel
theorem dX8_goTime_5 : decode cX8_goTime 5 = .ok (.getfield 7, 3) := by decide +kernel
theorem dX8_goTime_8 : decode cX8_goTime 8 = .ok (.iconst 3, 1) := by decide +kernel
theorem dX8_goTime_9 : decode cX8_goTime 9 = .ok (.iaload, 1) := by decide +kernel
theorem dX8_goTime_10 : decode cX8_goTime 10 = .ok (.iadd, 1) := by decide +kernel
theorem dX8_goTime_11 : decode cX8_goTime 11 = .ok (.istore_n 1, 1) := by decide +kernel
theorem dX8_goTime_12 : decode cX8_goTime 12 = .ok (.aload_n 0, 1) := by decide +kernel
theorem dX8_goTime_13 : decode cX8_goTime 13 = .ok (.getfield 7, 3) := by decide +kernel
theorem dX8_goTime_16 : decode cX8_goTime 16 = .ok (.iconst 1, 1) := by decide +kernel
theorem dX8_goTime_17 : decode cX8_goTime 17 = .ok (.iaload, 1) := by decide +kernel
theorem dX8_goTime_18 : decode cX8_goTime 18 = .ok (.istore_n 2, 1) := by decide +kernel
theorem dX8_goTime_19 : decode cX8_goTime 19 = .ok (.aload_n 0, 1) := by decide +kernel
theorem dX8_goTime_20 : decode cX8_goTime 20 = .ok (.getfield 7, 3) := by decide +kernel
theorem dX8_goTime_23 : decode cX8_goTime 23 = .ok (.iconst 0, 1) := by decide +kernel
theorem dX8_goTime_24 : decode cX8_goTime 24 = .ok (.iaload, 1) := by decide +kernel
theorem dX8_goTime_25 : decode cX8_goTime 25 = .ok (.istore_n 3, 1) := by decide +kernel
theorem dX8_goTime_26 : decode cX8_goTime 26 = .ok (.aload_n 0, 1) := by decide +kernel
theorem dX8_goTime_27 : decode cX8_goTime 27 = .ok (.getfield 7, 3) := by decide +kernel
theorem dX8_goTime_30 : decode cX8_goTime 30 = .ok (.iconst 3, 1) := by decide +kernel
theorem dX8_goTime_31 : decode cX8_goTime 31 = .ok (.iconst 0, 1) := by decide +kernel
theorem dX8_goTime_32 : decode cX8_goTime 32 = .ok (.iastore, 1) := by decide +kernel
theorem dX8_goTime_33 : decode cX8_goTime 33 = .ok (.aload_n 0, 1) := by decide +kernel
theorem dX8_goTime_34 : decode cX8_goTime 34 = .ok (.getfield 7, 3) := by decide +kernel
theorem dX8_goTime_37 : decode cX8_goTime 37 = .ok (.iconst 0, 1) := by decide +kernel
theorem dX8_goTime_38 : decode cX8_goTime 38 = .ok (.iload_n 3, 1) := by decide +kernel
theorem dX8_goTime_39 : decode cX8_goTime 39 = .ok (.iload_n 1, 1) := by decide +kernel
theorem dX8_goTime_40 : decode cX8_goTime 40 = .ok (.iadd, 1) := by decide +kernel
theorem dX8_goTime_41 : decode cX8_goTime 41 = .ok (.sipush 1440, 3) := by decide +kernel
theorem dX8_goTime_44 : decode cX8_goTime 44 = .ok (.irem, 1) := by decide +kernel
theorem dX8_goTime_45 : decode cX8_goTime 45 = .ok (.iastore, 1) := by decide +kernel
theorem dX8_goTime_46 : decode cX8_goTime 46 = .ok (.aload_n 0, 1) := by decide +kernel
theorem dX8_goTime_47 : decode cX8_goTime 47 = .ok (.getfield 7, 3) := by decide +kernel
theorem dX8_goTime_50 : decode cX8_goTime 50 = .ok (.iconst 1, 1) := by decide +kernel
theorem dX8_goTime_51 : decode cX8_goTime 51 = .ok (.iload_n 2, 1) := by decide +kernel
theorem dX8_goTime_52 : decode cX8_goTime 52 = .ok (.iload_n 3, 1) := by decide +kernel
theorem dX8_goTime_53 : decode cX8_goTime 53 = .ok (.iload_n 1, 1) := by decide +kernel
theorem dX8_goTime_54 : decode cX8_goTime 54 = .ok (.iadd, 1) := by decide +kernel
theorem dX8_goTime_55 : decode cX8_goTime 55 = .ok (.sipush 1440, 3) := by decide +kernel
theorem dX8_goTime_58 : decode cX8_goTime 58 = .ok (.idiv, 1) := by decide +kernel
theorem dX8_goTime_59 : decode cX8_goTime 59 = .ok (.iadd, 1) := by decide +kernel
theorem dX8_goTime_60 : decode cX8_goTime 60 = .ok (.iastore, 1) := by decide +kernel
theorem dX8_goTime_61 : decode cX8_goTime 61 = .ok (.iconst 1, 1) := by decide +kernel
theorem dX8_goTime_62 : decode cX8_goTime 62 = .ok (.istore 4, 2) := by decide +kernel
theorem dX8_goTime_64 : decode cX8_goTime 64 = .ok (.iload 4, 2) := by decide +kernel
theorem dX8_goTime_66 : decode cX8_goTime 66 = .ok (.iload_n 1, 1) := by decide +kernel
theorem dX8_goTime_67 : decode cX8_goTime 67 = .ok (.if_icmp .gt 119, 3) := by decide +kernel
theorem dX8_goTime_70 : decode cX8_goTime 70 = .ok (.aload_n 0, 1) := by decide +kernel
theorem dX8_goTime_71 : decode cX8_goTime 71 = .ok (.getfield 123, 3) := by decide +kernel
theorem dX8_goTime_74 : decode cX8_goTime 74 = .ok (.ifCond .ne 112, 3) := by decide +kernel
theorem dX8_goTime_77 : decode cX8_goTime 77 = .ok (.iload_n 3, 1) := by decide +kernel
theorem dX8_goTime_78 : decode cX8_goTime 78 = .ok (.iload 4, 2) := by decide +kernel
theorem dX8_goTime_80 : decode cX8_goTime 80 = .ok (.iadd, 1) := by decide +kernel
theorem dX8_goTime_81 : decode cX8_goTime 81 = .ok (.sipush 1440, 3) := by decide +kernel
theorem dX8_goTime_84 : decode cX8_goTime 84 = .ok (.irem, 1) := by decide +kernel
theorem dX8_goTime_85 : decode cX8_goTime 85 = .ok (.istore 5, 2) := by decide +kernel
theorem dX8_goTime_87 : decode cX8_goTime 87 = .ok (.iconst 0, 1) := by decide +kernel
theorem dX8_goTime_88 : decode cX8_goTime 88 = .ok (.istore 6, 2) := by decide +kernel
theorem dX8_goTime_90 : decode cX8_goTime 90 = .ok (.iload 6, 2) := by decide +kernel
theorem dX8_goTime_92 : decode cX8_goTime 92 = .ok (.aload_n 0, 1) := by decide +kernel
theorem dX8_goTime_93 : decode cX8_goTime 93 = .ok (.getfield 102, 3) := by decide +kernel
theorem dX8_goTime_96 : decode cX8_goTime 96 = .ok (.if_icmp .ge 84, 3) := by decide +kernel
theorem dX8_goTime_99 : decode cX8_goTime 99 = .ok (.aload_n 0, 1) := by decide +kernel
theorem dX8_goTime_100 : decode cX8_goTime 100 = .ok (.getfield 123, 3) := by decide +kernel
theorem dX8_goTime_103 : decode cX8_goTime 103 = .ok (.ifCond .ne 77, 3) := by decide +kernel
theorem dX8_goTime_106 : decode cX8_goTime 106 = .ok (.aload_n 0, 1) := by decide +kernel
theorem dX8_goTime_107 : decode cX8_goTime 107 = .ok (.getfield 44, 3) := by decide +kernel
theorem dX8_goTime_110 : decode cX8_goTime 110 = .ok (.iload 6, 2) := by decide +kernel
theorem dX8_goTime_112 : decode cX8_goTime 112 = .ok (.iaload, 1) := by decide +kernel
theorem dX8_goTime_113 : decode cX8_goTime 113 = .ok (.iload 5, 2) := by decide +kernel
theorem dX8_goTime_115 : decode cX8_goTime 115 = .ok (.if_icmp .ne 59, 3) := by decide +kernel
theorem dX8_goTime_118 : decode cX8_goTime 118 = .ok (.aload_n 0, 1) := by decide +kernel
theorem dX8_goTime_119 : decode cX8_goTime 119 = .ok (.getfield 7, 3) := by decide +kernel
theorem dX8_goTime_122 : decode cX8_goTime 122 = .ok (.bipush 35, 2) := by decide +kernel
theorem dX8_goTime_124 : decode cX8_goTime 124 = .ok (.iload 6, 2) := by decide +kernel
theorem dX8_goTime_126 : decode cX8_goTime 126 = .ok (.iadd, 1) := by decide +kernel
theorem dX8_goTime_127 : decode cX8_goTime 127 = .ok (.iaload, 1) := by decide +kernel
theorem dX8_goTime_128 : decode cX8_goTime 128 = .ok (.ifCond .ne 46, 3) := by decide +kernel
theorem dX8_goTime_131 : decode cX8_goTime 131 = .ok (.aload_n 0, 1) := by decide +kernel
theorem dX8_goTime_132 : decode cX8_goTime 132 = .ok (.getfield 7, 3) := by decide +kernel
theorem dX8_goTime_135 : decode cX8_goTime 135 = .ok (.bipush 35, 2) := by decide +kernel
theorem dX8_goTime_137 : decode cX8_goTime 137 = .ok (.iload 6, 2) := by decide +kernel
theorem dX8_goTime_139 : decode cX8_goTime 139 = .ok (.iadd, 1) := by decide +kernel
theorem dX8_goTime_140 : decode cX8_goTime 140 = .ok (.aload_n 0, 1) := by decide +kernel
theorem dX8_goTime_141 : decode cX8_goTime 141 = .ok (.getfield 47, 3) := by decide +kernel
theorem dX8_goTime_144 : decode cX8_goTime 144 = .ok (.iload 6, 2) := by decide +kernel
theorem dX8_goTime_146 : decode cX8_goTime 146 = .ok (.baload, 1) := by decide +kernel
theorem dX8_goTime_147 : decode cX8_goTime 147 = .ok (.ifCond .eq 7, 3) := by decide +kernel
theorem dX8_goTime_150 : decode cX8_goTime 150 = .ok (.iconst 0, 1) := by decide +kernel
theorem dX8_goTime_151 : decode cX8_goTime 151 = .ok (.goto 4, 3) := by decide +kernel
theorem dX8_goTime_154 : decode cX8_goTime 154 = .ok (.iconst 1, 1) := by decide +kernel
theorem dX8_goTime_155 : decode cX8_goTime 155 = .ok (.iastore, 1) := by decide +kernel
theorem dX8_goTime_156 : decode cX8_goTime 156 = .ok (.aload_n 0, 1) := by decide +kernel
theorem dX8_goTime_157 : decode cX8_goTime 157 = .ok (.iconst 0, 1) := by decide +kernel
theorem dX8_goTime_158 : decode cX8_goTime 158 = .ok (.iload 6, 2) := by decide +kernel
theorem dX8_goTime_160 : decode cX8_goTime 160 = .ok (.invokevirtual 133, 3) := by decide +kernel
theorem dX8_goTime_163 : decode cX8_goTime 163 = .ok (.aload_n 0, 1) := by decide +kernel
theorem dX8_goTime_164 : decode cX8_goTime 164 = .ok (.aload_n 0, 1) := by decide +kernel
theorem dX8_goTime_165 : decode cX8_goTime 165 = .ok (.getfield 41, 3) := by decide +kernel
theorem dX8_goTime_168 : decode cX8_goTime 168 = .ok (.iload 6, 2) := by decide +kernel
theorem dX8_goTime_170 : decode cX8_goTime 170 = .ok (.iaload, 1) := by decide +kernel
theorem dX8_goTime_171 : decode cX8_goTime 171 = .ok (.invokevirtual 126, 3) := by decide +kernel
theorem dX8_goTime_174 : decode cX8_goTime 174 = .ok (.iinc 6 1, 3) := by decide +kernel
theorem dX8_goTime_177 : decode cX8_goTime 177 = .ok (.goto (-87), 3) := by decide +kernel
theorem dX8_goTime_180 : decode cX8_goTime 180 = .ok (.iinc 4 1, 3) := by decide +kernel
theorem dX8_goTime_183 : decode cX8_goTime 183 = .ok (.goto (-119), 3) := by decide +kernel
theorem dX8_goTime_186 : decode cX8_goTime 186 = .ok (.return_, 1) := by decide +kernel
theorem dX8_goTimers_0 : decode cX8_goTimers 0 = .ok (.iconst 0, 1) := by decide +kernel
theorem dX8_goTimers_1 : decode cX8_goTimers 1 = .ok (.istore_n 1, 1) := by decide +kernel
theorem dX8_goTimers_2 : decode cX8_goTimers 2 = .ok (.iload_n 1, 1) := by decide +kernel
theorem dX8_goTimers_3 : decode cX8_goTimers 3 = .ok (.aload_n 0, 1) := by decide +kernel
theorem dX8_goTimers_4 : decode cX8_goTimers 4 = .ok (.getfield 105, 3) := by decide +kernel
theorem dX8_goTimers_7 : decode cX8_goTimers 7 = .ok (.if_icmp .ge 39, 3) := by decide +kernel
theorem dX8_goTimers_10 : decode cX8_goTimers 10 = .ok (.aload_n 0, 1) := by decide +kernel
theorem dX8_goTimers_11 : decode cX8_goTimers 11 = .ok (.getfield 69, 3) := by decide +kernel
theorem dX8_goTimers_14 : decode cX8_goTimers 14 = .ok (.iload_n 1, 1) := by decide +kernel
theorem dX8_goTimers_15 : decode cX8_goTimers 15 = .ok (.aload_n 0, 1) := by decide +kernel
theorem dX8_goTimers_16 : decode cX8_goTimers 16 = .ok (.getfield 7, 3) := by decide +kernel
theorem dX8_goTimers_19 : decode cX8_goTimers 19 = .ok (.bipush 47, 2) := by decide +kernel
theorem dX8_goTimers_21 : decode cX8_goTimers 21 = .ok (.iload_n 1, 1) := by decide +kernel
theorem dX8_goTimers_22 : decode cX8_goTimers 22 = .ok (.iadd, 1) := by decide +kernel
theorem dX8_goTimers_23 : decode cX8_goTimers 23 = .ok (.iaload, 1) := by decide +kernel
theorem dX8_goTimers_24 : decode cX8_goTimers 24 = .ok (.ifCond .le 7, 3) := by decide +kernel
theorem dX8_goTimers_27 : decode cX8_goTimers 27 = .ok (.iconst 1, 1) := by decide +kernel
theorem dX8_goTimers_28 : decode cX8_goTimers 28 = .ok (.goto 4, 3) := by decide +kernel
theorem dX8_goTimers_31 : decode cX8_goTimers 31 = .ok (.iconst 0, 1) := by decide +kernel
theorem dX8_goTimers_32 : decode cX8_goTimers 32 = .ok (.bastore, 1) := by decide +kernel
theorem dX8_goTimers_33 : decode cX8_goTimers 33 = .ok (.aload_n 0, 1) := by decide +kernel
theorem dX8_goTimers_34 : decode cX8_goTimers 34 = .ok (.getfield 66, 3) := by decide +kernel
theorem dX8_goTimers_37 : decode cX8_goTimers 37 = .ok (.iload_n 1, 1) := by decide +kernel
theorem dX8_goTimers_38 : decode cX8_goTimers 38 = .ok (.iconst 0, 1) := by decide +kernel
theorem dX8_goTimers_39 : decode cX8_goTimers 39 = .ok (.bastore, 1) := by decide +kernel
theorem dX8_goTimers_40 : decode cX8_goTimers 40 = .ok (.iinc 1 1, 3) := by decide +kernel
theorem dX8_goTimers_43 : decode cX8_goTimers 43 = .ok (.goto (-41), 3) := by decide +kernel
theorem dX8_goTimers_46 : decode cX8_goTimers 46 = .ok (.iconst 0, 1) := by decide +kernel
theorem dX8_goTimers_47 : decode cX8_goTimers 47 = .ok (.istore_n 1, 1) := by decide +kernel
theorem dX8_goTimers_48 : decode cX8_goTimers 48 = .ok (.iload_n 1, 1) := by decide +kernel
theorem dX8_goTimers_49 : decode cX8_goTimers 49 = .ok (.aload_n 0, 1) := by decide +kernel
theorem dX8_goTimers_50 : decode cX8_goTimers 50 = .ok (.getfield 105, 3) := by decide +kernel
theorem dX8_goTimers_53 : decode cX8_goTimers 53 = .ok (.if_icmp .ge 115, 3) := by decide +kernel
theorem dX8_goTimers_56 : decode cX8_goTimers 56 = .ok (.aload_n 0, 1) := by decide +kernel
theorem dX8_goTimers_57 : decode cX8_goTimers 57 = .ok (.getfield 123, 3) := by decide +kernel
theorem dX8_goTimers_60 : decode cX8_goTimers 60 = .ok (.ifCond .ne 108, 3) := by decide +kernel
theorem dX8_goTimers_63 : decode cX8_goTimers 63 = .ok (.aload_n 0, 1) := by decide +kernel
theorem dX8_goTimers_64 : decode cX8_goTimers 64 = .ok (.getfield 69, 3) := by decide +kernel
theorem dX8_goTimers_67 : decode cX8_goTimers 67 = .ok (.iload_n 1, 1) := by decide +kernel
theorem dX8_goTimers_68 : decode cX8_goTimers 68 = .ok (.baload, 1) := by decide +kernel
theorem dX8_goTimers_69 : decode cX8_goTimers 69 = .ok (.ifCond .eq 93, 3) := by decide +kernel
theorem dX8_goTimers_72 : decode cX8_goTimers 72 = .ok (.aload_n 0, 1) := by decide +kernel
theorem dX8_goTimers_73 : decode cX8_goTimers 73 = .ok (.getfield 66, 3) := by decide +kernel
theorem dX8_goTimers_76 : decode cX8_goTimers 76 = .ok (.iload_n 1, 1) := by decide +kernel
theorem dX8_goTimers_77 : decode cX8_goTimers 77 = .ok (.baload, 1) := by decide +kernel
theorem dX8_goTimers_78 : decode cX8_goTimers 78 = .ok (.ifCond .ne 84, 3) := by decide +kernel
theorem dX8_goTimers_81 : decode cX8_goTimers 81 = .ok (.aload_n 0, 1) := by decide +kernel
theorem dX8_goTimers_82 : decode cX8_goTimers 82 = .ok (.getfield 7, 3) := by decide +kernel
theorem dX8_goTimers_85 : decode cX8_goTimers 85 = .ok (.bipush 47, 2) := by decide +kernel
theorem dX8_goTimers_87 : decode cX8_goTimers 87 = .ok (.iload_n 1, 1) := by decide +kernel
theorem dX8_goTimers_88 : decode cX8_goTimers 88 = .ok (.iadd, 1) := by decide +kernel
theorem dX8_goTimers_89 : decode cX8_goTimers 89 = .ok (.iaload, 1) := by decide +kernel
theorem dX8_goTimers_90 : decode cX8_goTimers 90 = .ok (.ifCond .le 72, 3) := by decide +kernel
theorem dX8_goTimers_93 : decode cX8_goTimers 93 = .ok (.aload_n 0, 1) := by decide +kernel
theorem dX8_goTimers_94 : decode cX8_goTimers 94 = .ok (.getfield 7, 3) := by decide +kernel
theorem dX8_goTimers_97 : decode cX8_goTimers 97 = .ok (.bipush 47, 2) := by decide +kernel
theorem dX8_goTimers_99 : decode cX8_goTimers 99 = .ok (.iload_n 1, 1) := by decide +kernel
theorem dX8_goTimers_100 : decode cX8_goTimers 100 = .ok (.iadd, 1) := by decide +kernel
theorem dX8_goTimers_101 : decode cX8_goTimers 101 = .ok (.dup2, 1) := by decide +kernel
theorem dX8_goTimers_102 : decode cX8_goTimers 102 = .ok (.iaload, 1) := by decide +kernel
theorem dX8_goTimers_103 : decode cX8_goTimers 103 = .ok (.iconst 1, 1) := by decide +kernel
theorem dX8_goTimers_104 : decode cX8_goTimers 104 = .ok (.isub, 1) := by decide +kernel
theorem dX8_goTimers_105 : decode cX8_goTimers 105 = .ok (.iastore, 1) := by decide +kernel
theorem dX8_goTimers_106 : decode cX8_goTimers 106 = .ok (.aload_n 0, 1) := by decide +kernel
theorem dX8_goTimers_107 : decode cX8_goTimers 107 = .ok (.getfield 7, 3) := by decide +kernel
theorem dX8_goTimers_110 : decode cX8_goTimers 110 = .ok (.bipush 47, 2) := by decide +kernel
theorem dX8_goTimers_112 : decode cX8_goTimers 112 = .ok (.iload_n 1, 1) := by decide +kernel
theorem dX8_goTimers_113 : decode cX8_goTimers 113 = .ok (.iadd, 1) := by decide +kernel
theorem dX8_goTimers_114 : decode cX8_goTimers 114 = .ok (.iaload, 1) := by decide +kernel
theorem dX8_goTimers_115 : decode cX8_goTimers 115 = .ok (.ifCond .ne 47, 3) := by decide +kernel
theorem dX8_goTimers_118 : decode cX8_goTimers 118 = .ok (.aload_n 0, 1) := by decide +kernel
theorem dX8_goTimers_119 : decode cX8_goTimers 119 = .ok (.getfield 7, 3) := by decide +kernel
theorem dX8_goTimers_122 : decode cX8_goTimers 122 = .ok (.bipush 47, 2) := by decide +kernel
theorem dX8_goTimers_124 : decode cX8_goTimers 124 = .ok (.iload_n 1, 1) := by decide +kernel
theorem dX8_goTimers_125 : decode cX8_goTimers 125 = .ok (.iadd, 1) := by decide +kernel
theorem dX8_goTimers_126 : decode cX8_goTimers 126 = .ok (.aload_n 0, 1) := by decide +kernel
theorem dX8_goTimers_127 : decode cX8_goTimers 127 = .ok (.getfield 57, 3) := by decide +kernel
theorem dX8_goTimers_130 : decode cX8_goTimers 130 = .ok (.iload_n 1, 1) := by decide +kernel
theorem dX8_goTimers_131 : decode cX8_goTimers 131 = .ok (.baload, 1) := by decide +kernel
theorem dX8_goTimers_132 : decode cX8_goTimers 132 = .ok (.ifCond .eq 12, 3) := by decide +kernel
theorem dX8_goTimers_135 : decode cX8_goTimers 135 = .ok (.aload_n 0, 1) := by decide +kernel
theorem dX8_goTimers_136 : decode cX8_goTimers 136 = .ok (.getfield 54, 3) := by decide +kernel
theorem dX8_goTimers_139 : decode cX8_goTimers 139 = .ok (.iload_n 1, 1) := by decide +kernel
theorem dX8_goTimers_140 : decode cX8_goTimers 140 = .ok (.iaload, 1) := by decide +kernel
theorem dX8_goTimers_141 : decode cX8_goTimers 141 = .ok (.goto 4, 3) := by decide +kernel
theorem dX8_goTimers_144 : decode cX8_goTimers 144 = .ok (.iconst 0, 1) := by decide +kernel
theorem dX8_goTimers_145 : decode cX8_goTimers 145 = .ok (.iastore, 1) := by decide +kernel
theorem dX8_goTimers_146 : decode cX8_goTimers 146 = .ok (.aload_n 0, 1) := by decide +kernel
theorem dX8_goTimers_147 : decode cX8_goTimers 147 = .ok (.iconst 1, 1) := by decide +kernel
theorem dX8_goTimers_148 : decode cX8_goTimers 148 = .ok (.iload_n 1, 1) := by decide +kernel
theorem dX8_goTimers_149 : decode cX8_goTimers 149 = .ok (.invokevirtual 133, 3) := by decide +kernel
theorem dX8_goTimers_152 : decode cX8_goTimers 152 = .ok (.aload_n 0, 1) := by decide +kernel
theorem dX8_goTimers_153 : decode cX8_goTimers 153 = .ok (.aload_n 0, 1) := by decide +kernel
theorem dX8_goTimers_154 : decode cX8_goTimers 154 = .ok (.getfield 51, 3) := by decide +kernel
theorem dX8_goTimers_157 : decode cX8_goTimers 157 = .ok (.iload_n 1, 1) := by decide +kernel
theorem dX8_goTimers_158 : decode cX8_goTimers 158 = .ok (.iaload, 1) := by decide +kernel
theorem dX8_goTimers_159 : decode cX8_goTimers 159 = .ok (.invokevirtual 126, 3) := by decide +kernel
theorem dX8_goTimers_162 : decode cX8_goTimers 162 = .ok (.iinc 1 1, 3) := by decide +kernel
theorem dX8_goTimers_165 : decode cX8_goTimers 165 = .ok (.goto (-117), 3) := by decide +kernel
theorem dX8_goTimers_168 : decode cX8_goTimers 168 = .ok (.return_, 1) := by decide +kernel
theorem dX8_goDaemons_0 : decode cX8_goDaemons 0 = .ok (.iconst 0, 1) := by decide +kernel
theorem dX8_goDaemons_1 : decode cX8_goDaemons 1 = .ok (.istore_n 1, 1) := by decide +kernel
theorem dX8_goDaemons_2 : decode cX8_goDaemons 2 = .ok (.iload_n 1, 1) := by decide +kernel
theorem dX8_goDaemons_3 : decode cX8_goDaemons 3 = .ok (.bipush 9, 2) := by decide +kernel
theorem dX8_goDaemons_5 : decode cX8_goDaemons 5 = .ok (.if_icmp .gt 71, 3) := by decide +kernel
theorem dX8_goDaemons_8 : decode cX8_goDaemons 8 = .ok (.iconst 0, 1) := by decide +kernel
theorem dX8_goDaemons_9 : decode cX8_goDaemons 9 = .ok (.istore_n 2, 1) := by decide +kernel
theorem dX8_goDaemons_10 : decode cX8_goDaemons 10 = .ok (.iload_n 2, 1) := by decide +kernel
theorem dX8_goDaemons_11 : decode cX8_goDaemons 11 = .ok (.aload_n 0, 1) := by decide +kernel
theorem dX8_goDaemons_12 : decode cX8_goDaemons 12 = .ok (.getfield 108, 3) := by decide +kernel
theorem dX8_goDaemons_15 : decode cX8_goDaemons 15 = .ok (.if_icmp .ge 55, 3) := by decide +kernel
theorem dX8_goDaemons_18 : decode cX8_goDaemons 18 = .ok (.aload_n 0, 1) := by decide +kernel
theorem dX8_goDaemons_19 : decode cX8_goDaemons 19 = .ok (.getfield 123, 3) := by decide +kernel
theorem dX8_goDaemons_22 : decode cX8_goDaemons 22 = .ok (.ifCond .ne 48, 3) := by decide +kernel
theorem dX8_goDaemons_25 : decode cX8_goDaemons 25 = .ok (.aload_n 0, 1) := by decide +kernel
theorem dX8_goDaemons_26 : decode cX8_goDaemons 26 = .ok (.getfield 63, 3) := by decide +kernel
theorem dX8_goDaemons_29 : decode cX8_goDaemons 29 = .ok (.iload_n 2, 1) := by decide +kernel
theorem dX8_goDaemons_30 : decode cX8_goDaemons 30 = .ok (.iaload, 1) := by decide +kernel
theorem dX8_goDaemons_31 : decode cX8_goDaemons 31 = .ok (.iload_n 1, 1) := by decide +kernel
theorem dX8_goDaemons_32 : decode cX8_goDaemons 32 = .ok (.if_icmp .ne 32, 3) := by decide +kernel
theorem dX8_goDaemons_35 : decode cX8_goDaemons 35 = .ok (.aload_n 0, 1) := by decide +kernel
theorem dX8_goDaemons_36 : decode cX8_goDaemons 36 = .ok (.getfield 7, 3) := by decide +kernel
theorem dX8_goDaemons_39 : decode cX8_goDaemons 39 = .ok (.bipush 59, 2) := by decide +kernel
theorem dX8_goDaemons_41 : decode cX8_goDaemons 41 = .ok (.iload_n 2, 1) := by decide +kernel
theorem dX8_goDaemons_42 : decode cX8_goDaemons 42 = .ok (.iadd, 1) := by decide +kernel
theorem dX8_goDaemons_43 : decode cX8_goDaemons 43 = .ok (.iaload, 1) := by decide +kernel
theorem dX8_goDaemons_44 : decode cX8_goDaemons 44 = .ok (.iconst 1, 1) := by decide +kernel
theorem dX8_goDaemons_45 : decode cX8_goDaemons 45 = .ok (.if_icmp .ne 19, 3) := by decide +kernel
theorem dX8_goDaemons_48 : decode cX8_goDaemons 48 = .ok (.aload_n 0, 1) := by decide +kernel
theorem dX8_goDaemons_49 : decode cX8_goDaemons 49 = .ok (.iconst 2, 1) := by decide +kernel
theorem dX8_goDaemons_50 : decode cX8_goDaemons 50 = .ok (.iload_n 2, 1) := by decide +kernel
theorem dX8_goDaemons_51 : decode cX8_goDaemons 51 = .ok (.invokevirtual 133, 3) := by decide +kernel
theorem dX8_goDaemons_54 : decode cX8_goDaemons 54 = .ok (.aload_n 0, 1) := by decide +kernel
theorem dX8_goDaemons_55 : decode cX8_goDaemons 55 = .ok (.aload_n 0, 1) := by decide +kernel
theorem dX8_goDaemons_56 : decode cX8_goDaemons 56 = .ok (.getfield 60, 3) := by decide +kernel
theorem dX8_goDaemons_59 : decode cX8_goDaemons 59 = .ok (.iload_n 2, 1) := by decide +kernel
theorem dX8_goDaemons_60 : decode cX8_goDaemons 60 = .ok (.iaload, 1) := by decide +kernel
theorem dX8_goDaemons_61 : decode cX8_goDaemons 61 = .ok (.invokevirtual 126, 3) := by decide +kernel
theorem dX8_goDaemons_64 : decode cX8_goDaemons 64 = .ok (.iinc 2 1, 3) := by decide +kernel
theorem dX8_goDaemons_67 : decode cX8_goDaemons 67 = .ok (.goto (-57), 3) := by decide +kernel
theorem dX8_goDaemons_70 : decode cX8_goDaemons 70 = .ok (.iinc 1 1, 3) := by decide +kernel
theorem dX8_goDaemons_73 : decode cX8_goDaemons 73 = .ok (.goto (-71), 3) := by decide +kernel
theorem dX8_goDaemons_76 : decode cX8_goDaemons 76 = .ok (.return_, 1) := by decide +kernel
theorem dX8_findWays_0 : decode cX8_findWays 0 = .ok (.iconst 0, 1) := by decide +kernel
theorem dX8_findWays_1 : decode cX8_findWays 1 = .ok (.istore_n 2, 1) := by decide +kernel
theorem dX8_findWays_2 : decode cX8_findWays 2 = .ok (.iload_n 2, 1) := by decide +kernel
theorem dX8_findWays_3 : decode cX8_findWays 3 = .ok (.aload_n 0, 1) := by decide +kernel
theorem dX8_findWays_4 : decode cX8_findWays 4 = .ok (.getfield 82, 3) := by decide +kernel
theorem dX8_findWays_7 : decode cX8_findWays 7 = .ok (.if_icmp .ge 25, 3) := by decide +kernel
theorem dX8_findWays_10 : decode cX8_findWays 10 = .ok (.aload_n 0, 1) := by decide +kernel
theorem dX8_findWays_11 : decode cX8_findWays 11 = .ok (.getfield 72, 3) := by decide +kernel
theorem dX8_findWays_14 : decode cX8_findWays 14 = .ok (.iload_n 2, 1) := by decide +kernel
theorem dX8_findWays_15 : decode cX8_findWays 15 = .ok (.iload_n 2, 1) := by decide +kernel
theorem dX8_findWays_16 : decode cX8_findWays 16 = .ok (.iload_n 1, 1) := by decide +kernel
theorem dX8_findWays_17 : decode cX8_findWays 17 = .ok (.if_icmp .ne 7, 3) := by decide +kernel
theorem dX8_findWays_20 : decode cX8_findWays 20 = .ok (.iconst 0, 1) := by decide +kernel
theorem dX8_findWays_21 : decode cX8_findWays 21 = .ok (.goto 4, 3) := by decide +kernel
theorem dX8_findWays_24 : decode cX8_findWays 24 = .ok (.iconst (-1), 1) := by decide +kernel
theorem dX8_findWays_25 : decode cX8_findWays 25 = .ok (.iastore, 1) := by decide +kernel
theorem dX8_findWays_26 : decode cX8_findWays 26 = .ok (.iinc 2 1, 3) := by decide +kernel
theorem dX8_findWays_29 : decode cX8_findWays 29 = .ok (.goto (-27), 3) := by decide +kernel
theorem dX8_findWays_32 : decode cX8_findWays 32 = .ok (.iconst 0, 1) := by decide +kernel
theorem dX8_findWays_33 : decode cX8_findWays 33 = .ok (.istore_n 2, 1) := by decide +kernel
theorem dX8_findWays_34 : decode cX8_findWays 34 = .ok (.iload_n 2, 1) := by decide +kernel
theorem dX8_findWays_35 : decode cX8_findWays 35 = .ok (.aload_n 0, 1) := by decide +kernel
theorem dX8_findWays_36 : decode cX8_findWays 36 = .ok (.getfield 82, 3) := by decide +kernel
theorem dX8_findWays_39 : decode cX8_findWays 39 = .ok (.if_icmp .ge 70, 3) := by decide +kernel
theorem dX8_findWays_42 : decode cX8_findWays 42 = .ok (.iconst 0, 1) := by decide +kernel
theorem dX8_findWays_43 : decode cX8_findWays 43 = .ok (.istore_n 3, 1) := by decide +kernel
theorem dX8_findWays_44 : decode cX8_findWays 44 = .ok (.iload_n 3, 1) := by decide +kernel
theorem dX8_findWays_45 : decode cX8_findWays 45 = .ok (.aload_n 0, 1) := by decide +kernel
theorem dX8_findWays_46 : decode cX8_findWays 46 = .ok (.getfield 93, 3) := by decide +kernel
theorem dX8_findWays_49 : decode cX8_findWays 49 = .ok (.if_icmp .ge 54, 3) := by decide +kernel
theorem dX8_findWays_52 : decode cX8_findWays 52 = .ok (.aload_n 0, 1) := by decide +kernel
theorem dX8_findWays_53 : decode cX8_findWays 53 = .ok (.getfield 7, 3) := by decide +kernel
theorem dX8_findWays_56 : decode cX8_findWays 56 = .ok (.bipush 12, 2) := by decide +kernel
theorem dX8_findWays_58 : decode cX8_findWays 58 = .ok (.iload_n 3, 1) := by decide +kernel
theorem dX8_findWays_59 : decode cX8_findWays 59 = .ok (.iadd, 1) := by decide +kernel
theorem dX8_findWays_60 : decode cX8_findWays 60 = .ok (.iaload, 1) := by decide +kernel
theorem dX8_findWays_61 : decode cX8_findWays 61 = .ok (.iconst 1, 1) := by decide +kernel
theorem dX8_findWays_62 : decode cX8_findWays 62 = .ok (.if_icmp .ne 35, 3) := by decide +kernel
theorem dX8_findWays_65 : decode cX8_findWays 65 = .ok (.aload_n 0, 1) := by decide +kernel
theorem dX8_findWays_66 : decode cX8_findWays 66 = .ok (.aload_n 0, 1) := by decide +kernel
theorem dX8_findWays_67 : decode cX8_findWays 67 = .ok (.getfield 20, 3) := by decide +kernel
theorem dX8_findWays_70 : decode cX8_findWays 70 = .ok (.iload_n 3, 1) := by decide +kernel
theorem dX8_findWays_71 : decode cX8_findWays 71 = .ok (.iaload, 1) := by decide +kernel
theorem dX8_findWays_72 : decode cX8_findWays 72 = .ok (.aload_n 0, 1) := by decide +kernel
theorem dX8_findWays_73 : decode cX8_findWays 73 = .ok (.getfield 23, 3) := by decide +kernel
theorem dX8_findWays_76 : decode cX8_findWays 76 = .ok (.iload_n 3, 1) := by decide +kernel
theorem dX8_findWays_77 : decode cX8_findWays 77 = .ok (.iaload, 1) := by decide +kernel
theorem dX8_findWays_78 : decode cX8_findWays 78 = .ok (.invokevirtual 137, 3) := by decide +kernel
theorem dX8_findWays_81 : decode cX8_findWays 81 = .ok (.aload_n 0, 1) := by decide +kernel
theorem dX8_findWays_82 : decode cX8_findWays 82 = .ok (.aload_n 0, 1) := by decide +kernel
theorem dX8_findWays_83 : decode cX8_findWays 83 = .ok (.getfield 23, 3) := by decide +kernel
theorem dX8_findWays_86 : decode cX8_findWays 86 = .ok (.iload_n 3, 1) := by decide +kernel
theorem dX8_findWays_87 : decode cX8_findWays 87 = .ok (.iaload, 1) := by decide +kernel
theorem dX8_findWays_88 : decode cX8_findWays 88 = .ok (.aload_n 0, 1) := by decide +kernel
theorem dX8_findWays_89 : decode cX8_findWays 89 = .ok (.getfield 20, 3) := by decide +kernel
theorem dX8_findWays_92 : decode cX8_findWays 92 = .ok (.iload_n 3, 1) := by decide +kernel
theorem dX8_findWays_93 : decode cX8_findWays 93 = .ok (.iaload, 1) := by decide +kernel
theorem dX8_findWays_94 : decode cX8_findWays 94 = .ok (.invokevirtual 137, 3) := by decide +kernel
theorem dX8_findWays_97 : decode cX8_findWays 97 = .ok (.iinc 3 1, 3) := by decide +kernel
theorem dX8_findWays_100 : decode cX8_findWays 100 = .ok (.goto (-56), 3) := by decide +kernel
theorem dX8_findWays_103 : decode cX8_findWays 103 = .ok (.iinc 2 1, 3) := by decide +kernel
theorem dX8_findWays_106 : decode cX8_findWays 106 = .ok (.goto (-72), 3) := by decide +kernel
theorem dX8_findWays_109 : decode cX8_findWays 109 = .ok (.return_, 1) := by decide +kernel
theorem dX8_step_0 : decode cX8_step 0 = .ok (.aload_n 0, 1) := by decide +kernel
theorem dX8_step_1 : decode cX8_step 1 = .ok (.getfield 72, 3) := by decide +kernel
theorem dX8_step_4 : decode cX8_step 4 = .ok (.iload_n 1, 1) := by decide +kernel
theorem dX8_step_5 : decode cX8_step 5 = .ok (.iaload, 1) := by decide +kernel
theorem dX8_step_6 : decode cX8_step 6 = .ok (.iconst (-1), 1) := by decide +kernel
theorem dX8_step_7 : decode cX8_step 7 = .ok (.if_icmp .eq 44, 3) := by decide +kernel
theorem dX8_step_10 : decode cX8_step 10 = .ok (.aload_n 0, 1) := by decide +kernel
theorem dX8_step_11 : decode cX8_step 11 = .ok (.getfield 72, 3) := by decide +kernel
theorem dX8_step_14 : decode cX8_step 14 = .ok (.iload_n 2, 1) := by decide +kernel
theorem dX8_step_15 : decode cX8_step 15 = .ok (.iaload, 1) := by decide +kernel
theorem dX8_step_16 : decode cX8_step 16 = .ok (.iconst (-1), 1) := by decide +kernel
theorem dX8_step_17 : decode cX8_step 17 = .ok (.if_icmp .eq 20, 3) := by decide +kernel
theorem dX8_step_20 : decode cX8_step 20 = .ok (.aload_n 0, 1) := by decide +kernel
theorem dX8_step_21 : decode cX8_step 21 = .ok (.getfield 72, 3) := by decide +kernel
theorem dX8_step_24 : decode cX8_step 24 = .ok (.iload_n 2, 1) := by decide +kernel
theorem dX8_step_25 : decode cX8_step 25 = .ok (.iaload, 1) := by decide +kernel
theorem dX8_step_26 : decode cX8_step 26 = .ok (.aload_n 0, 1) := by decide +kernel
theorem dX8_step_27 : decode cX8_step 27 = .ok (.getfield 72, 3) := by decide +kernel
theorem dX8_step_30 : decode cX8_step 30 = .ok (.iload_n 1, 1) := by decide +kernel
theorem dX8_step_31 : decode cX8_step 31 = .ok (.iaload, 1) := by decide +kernel
theorem dX8_step_32 : decode cX8_step 32 = .ok (.iconst 1, 1) := by decide +kernel
theorem dX8_step_33 : decode cX8_step 33 = .ok (.iadd, 1) := by decide +kernel
theorem dX8_step_34 : decode cX8_step 34 = .ok (.if_icmp .le 17, 3) := by decide +kernel
theorem dX8_step_37 : decode cX8_step 37 = .ok (.aload_n 0, 1) := by decide +kernel
theorem dX8_step_38 : decode cX8_step 38 = .ok (.getfield 72, 3) := by decide +kernel
theorem dX8_step_41 : decode cX8_step 41 = .ok (.iload_n 2, 1) := by decide +kernel
theorem dX8_step_42 : decode cX8_step 42 = .ok (.aload_n 0, 1) := by decide +kernel
theorem dX8_step_43 : decode cX8_step 43 = .ok (.getfield 72, 3) := by decide +kernel
theorem dX8_step_46 : decode cX8_step 46 = .ok (.iload_n 1, 1) := by decide +kernel
theorem dX8_step_47 : decode cX8_step 47 = .ok (.iaload, 1) := by decide +kernel
theorem dX8_step_48 : decode cX8_step 48 = .ok (.iconst 1, 1) := by decide +kernel
theorem dX8_step_49 : decode cX8_step 49 = .ok (.iadd, 1) := by decide +kernel
theorem dX8_step_50 : decode cX8_step 50 = .ok (.iastore, 1) := by decide +kernel
theorem dX8_step_51 : decode cX8_step 51 = .ok (.return_, 1) := by decide +kernel
theorem dX8_isJoined_0 : decode cX8_isJoined 0 = .ok (.iconst 0, 1) := by decide +kernel
theorem dX8_isJoined_1 : decode cX8_isJoined 1 = .ok (.istore_n 3, 1) := by decide +kernel
theorem dX8_isJoined_2 : decode cX8_isJoined 2 = .ok (.iconst 0, 1) := by decide +kernel
theorem dX8_isJoined_3 : decode cX8_isJoined 3 = .ok (.istore 4, 2) := by decide +kernel
theorem dX8_isJoined_5 : decode cX8_isJoined 5 = .ok (.iload 4, 2) := by decide +kernel
theorem dX8_isJoined_7 : decode cX8_isJoined 7 = .ok (.aload_n 0, 1) := by decide +kernel
theorem dX8_isJoined_8 : decode cX8_isJoined 8 = .ok (.getfield 93, 3) := by decide +kernel
theorem dX8_isJoined_11 : decode cX8_isJoined 11 = .ok (.if_icmp .ge 89, 3) := by decide +kernel
theorem dX8_isJoined_14 : decode cX8_isJoined 14 = .ok (.aload_n 0, 1) := by decide +kernel
theorem dX8_isJoined_15 : decode cX8_isJoined 15 = .ok (.getfield 20, 3) := by decide +kernel
theorem dX8_isJoined_18 : decode cX8_isJoined 18 = .ok (.iload 4, 2) := by decide +kernel
theorem dX8_isJoined_20 : decode cX8_isJoined 20 = .ok (.iaload, 1) := by decide +kernel
theorem dX8_isJoined_21 : decode cX8_isJoined 21 = .ok (.iload_n 1, 1) := by decide +kernel
theorem dX8_isJoined_22 : decode cX8_isJoined 22 = .ok (.if_icmp .ne 14, 3) := by decide +kernel
theorem dX8_isJoined_25 : decode cX8_isJoined 25 = .ok (.aload_n 0, 1) := by decide +kernel
theorem dX8_isJoined_26 : decode cX8_isJoined 26 = .ok (.getfield 23, 3) := by decide +kernel
theorem dX8_isJoined_29 : decode cX8_isJoined 29 = .ok (.iload 4, 2) := by decide +kernel
theorem dX8_isJoined_31 : decode cX8_isJoined 31 = .ok (.iaload, 1) := by decide +kernel
theorem dX8_isJoined_32 : decode cX8_isJoined 32 = .ok (.iload_n 2, 1) := by decide +kernel
theorem dX8_isJoined_33 : decode cX8_isJoined 33 = .ok (.if_icmp .eq 25, 3) := by decide +kernel
theorem dX8_isJoined_36 : decode cX8_isJoined 36 = .ok (.aload_n 0, 1) := by decide +kernel
theorem dX8_isJoined_37 : decode cX8_isJoined 37 = .ok (.getfield 20, 3) := by decide +kernel
theorem dX8_isJoined_40 : decode cX8_isJoined 40 = .ok (.iload 4, 2) := by decide +kernel
theorem dX8_isJoined_42 : decode cX8_isJoined 42 = .ok (.iaload, 1) := by decide +kernel
theorem dX8_isJoined_43 : decode cX8_isJoined 43 = .ok (.iload_n 2, 1) := by decide +kernel
theorem dX8_isJoined_44 : decode cX8_isJoined 44 = .ok (.if_icmp .ne 18, 3) := by decide +kernel
theorem dX8_isJoined_47 : decode cX8_isJoined 47 = .ok (.aload_n 0, 1) := by decide +kernel
theorem dX8_isJoined_48 : decode cX8_isJoined 48 = .ok (.getfield 23, 3) := by decide +kernel
theorem dX8_isJoined_51 : decode cX8_isJoined 51 = .ok (.iload 4, 2) := by decide +kernel
theorem dX8_isJoined_53 : decode cX8_isJoined 53 = .ok (.iaload, 1) := by decide +kernel
theorem dX8_isJoined_54 : decode cX8_isJoined 54 = .ok (.iload_n 1, 1) := by decide +kernel
theorem dX8_isJoined_55 : decode cX8_isJoined 55 = .ok (.if_icmp .ne 7, 3) := by decide +kernel
theorem dX8_isJoined_58 : decode cX8_isJoined 58 = .ok (.iconst 1, 1) := by decide +kernel
theorem dX8_isJoined_59 : decode cX8_isJoined 59 = .ok (.goto 4, 3) := by decide +kernel
theorem dX8_isJoined_62 : decode cX8_isJoined 62 = .ok (.iconst 0, 1) := by decide +kernel
theorem dX8_isJoined_63 : decode cX8_isJoined 63 = .ok (.istore 5, 2) := by decide +kernel
theorem dX8_isJoined_65 : decode cX8_isJoined 65 = .ok (.iload_n 3, 1) := by decide +kernel
theorem dX8_isJoined_66 : decode cX8_isJoined 66 = .ok (.ifCond .ne 22, 3) := by decide +kernel
theorem dX8_isJoined_69 : decode cX8_isJoined 69 = .ok (.iload 5, 2) := by decide +kernel
theorem dX8_isJoined_71 : decode cX8_isJoined 71 = .ok (.ifCond .eq 21, 3) := by decide +kernel
theorem dX8_isJoined_74 : decode cX8_isJoined 74 = .ok (.aload_n 0, 1) := by decide +kernel
theorem dX8_isJoined_75 : decode cX8_isJoined 75 = .ok (.getfield 7, 3) := by decide +kernel
theorem dX8_isJoined_78 : decode cX8_isJoined 78 = .ok (.bipush 12, 2) := by decide +kernel
theorem dX8_isJoined_80 : decode cX8_isJoined 80 = .ok (.iload 4, 2) := by decide +kernel
theorem dX8_isJoined_82 : decode cX8_isJoined 82 = .ok (.iadd, 1) := by decide +kernel
theorem dX8_isJoined_83 : decode cX8_isJoined 83 = .ok (.iaload, 1) := by decide +kernel
theorem dX8_isJoined_84 : decode cX8_isJoined 84 = .ok (.iconst 1, 1) := by decide +kernel
theorem dX8_isJoined_85 : decode cX8_isJoined 85 = .ok (.if_icmp .ne 7, 3) := by decide +kernel
theorem dX8_isJoined_88 : decode cX8_isJoined 88 = .ok (.iconst 1, 1) := by decide +kernel
theorem dX8_isJoined_89 : decode cX8_isJoined 89 = .ok (.goto 4, 3) := by decide +kernel
theorem dX8_isJoined_92 : decode cX8_isJoined 92 = .ok (.iconst 0, 1) := by decide +kernel
theorem dX8_isJoined_93 : decode cX8_isJoined 93 = .ok (.istore_n 3, 1) := by decide +kernel
theorem dX8_isJoined_94 : decode cX8_isJoined 94 = .ok (.iinc 4 1, 3) := by decide +kernel
theorem dX8_isJoined_97 : decode cX8_isJoined 97 = .ok (.goto (-92), 3) := by decide +kernel
theorem dX8_isJoined_100 : decode cX8_isJoined 100 = .ok (.iload_n 3, 1) := by decide +kernel
theorem dX8_isJoined_101 : decode cX8_isJoined 101 = .ok (.ireturn, 1) := by decide +kernel
theorem dX8_goWalkers_0 : decode cX8_goWalkers 0 = .ok (.iconst 0, 1) := by decide +kernel
theorem dX8_goWalkers_1 : decode cX8_goWalkers 1 = .ok (.istore_n 1, 1) := by decide +kernel
theorem dX8_goWalkers_2 : decode cX8_goWalkers 2 = .ok (.iload_n 1, 1) := by decide +kernel
theorem dX8_goWalkers_3 : decode cX8_goWalkers 3 = .ok (.aload_n 0, 1) := by decide +kernel
theorem dX8_goWalkers_4 : decode cX8_goWalkers 4 = .ok (.getfield 96, 3) := by decide +kernel
theorem dX8_goWalkers_7 : decode cX8_goWalkers 7 = .ok (.if_icmp .ge 162, 3) := by decide +kernel
theorem dX8_goWalkers_10 : decode cX8_goWalkers 10 = .ok (.aload_n 0, 1) := by decide +kernel
theorem dX8_goWalkers_11 : decode cX8_goWalkers 11 = .ok (.getfield 123, 3) := by decide +kernel
theorem dX8_goWalkers_14 : decode cX8_goWalkers 14 = .ok (.ifCond .ne 155, 3) := by decide +kernel
theorem dX8_goWalkers_17 : decode cX8_goWalkers 17 = .ok (.aload_n 0, 1) := by decide +kernel
theorem dX8_goWalkers_18 : decode cX8_goWalkers 18 = .ok (.getfield 7, 3) := by decide +kernel
theorem dX8_goWalkers_21 : decode cX8_goWalkers 21 = .ok (.bipush 31, 2) := by decide +kernel
theorem dX8_goWalkers_23 : decode cX8_goWalkers 23 = .ok (.iload_n 1, 1) := by decide +kernel
theorem dX8_goWalkers_24 : decode cX8_goWalkers 24 = .ok (.iadd, 1) := by decide +kernel
theorem dX8_goWalkers_25 : decode cX8_goWalkers 25 = .ok (.iaload, 1) := by decide +kernel
theorem dX8_goWalkers_26 : decode cX8_goWalkers 26 = .ok (.istore_n 2, 1) := by decide +kernel
theorem dX8_goWalkers_27 : decode cX8_goWalkers 27 = .ok (.aload_n 0, 1) := by decide +kernel
theorem dX8_goWalkers_28 : decode cX8_goWalkers 28 = .ok (.getfield 7, 3) := by decide +kernel
theorem dX8_goWalkers_31 : decode cX8_goWalkers 31 = .ok (.bipush 27, 2) := by decide +kernel
theorem dX8_goWalkers_33 : decode cX8_goWalkers 33 = .ok (.iload_n 1, 1) := by decide +kernel
theorem dX8_goWalkers_34 : decode cX8_goWalkers 34 = .ok (.iadd, 1) := by decide +kernel
theorem dX8_goWalkers_35 : decode cX8_goWalkers 35 = .ok (.iaload, 1) := by decide +kernel
theorem dX8_goWalkers_36 : decode cX8_goWalkers 36 = .ok (.istore_n 3, 1) := by decide +kernel
theorem dX8_goWalkers_37 : decode cX8_goWalkers 37 = .ok (.iconst (-1), 1) := by decide +kernel
theorem dX8_goWalkers_38 : decode cX8_goWalkers 38 = .ok (.istore 4, 2) := by decide +kernel
theorem dX8_goWalkers_40 : decode cX8_goWalkers 40 = .ok (.iload_n 2, 1) := by decide +kernel
theorem dX8_goWalkers_41 : decode cX8_goWalkers 41 = .ok (.iconst (-1), 1) := by decide +kernel
theorem dX8_goWalkers_42 : decode cX8_goWalkers 42 = .ok (.if_icmp .eq 8, 3) := by decide +kernel
theorem dX8_goWalkers_45 : decode cX8_goWalkers 45 = .ok (.aload_n 0, 1) := by decide +kernel
theorem dX8_goWalkers_46 : decode cX8_goWalkers 46 = .ok (.iload_n 2, 1) := by decide +kernel
theorem dX8_goWalkers_47 : decode cX8_goWalkers 47 = .ok (.invokevirtual 140, 3) := by decide +kernel
theorem dX8_goWalkers_50 : decode cX8_goWalkers 50 = .ok (.aload_n 0, 1) := by decide +kernel
theorem dX8_goWalkers_51 : decode cX8_goWalkers 51 = .ok (.getfield 82, 3) := by decide +kernel
theorem dX8_goWalkers_54 : decode cX8_goWalkers 54 = .ok (.iconst 1, 1) := by decide +kernel
theorem dX8_goWalkers_55 : decode cX8_goWalkers 55 = .ok (.isub, 1) := by decide +kernel
theorem dX8_goWalkers_56 : decode cX8_goWalkers 56 = .ok (.istore 5, 2) := by decide +kernel
theorem dX8_goWalkers_58 : decode cX8_goWalkers 58 = .ok (.iload 5, 2) := by decide +kernel
theorem dX8_goWalkers_60 : decode cX8_goWalkers 60 = .ok (.ifCond .lt 60, 3) := by decide +kernel
theorem dX8_goWalkers_63 : decode cX8_goWalkers 63 = .ok (.iload_n 2, 1) := by decide +kernel
theorem dX8_goWalkers_64 : decode cX8_goWalkers 64 = .ok (.iconst (-1), 1) := by decide +kernel
theorem dX8_goWalkers_65 : decode cX8_goWalkers 65 = .ok (.if_icmp .eq 55, 3) := by decide +kernel
theorem dX8_goWalkers_68 : decode cX8_goWalkers 68 = .ok (.aload_n 0, 1) := by decide +kernel
theorem dX8_goWalkers_69 : decode cX8_goWalkers 69 = .ok (.getfield 72, 3) := by decide +kernel
theorem dX8_goWalkers_72 : decode cX8_goWalkers 72 = .ok (.iload_n 3, 1) := by decide +kernel
theorem dX8_goWalkers_73 : decode cX8_goWalkers 73 = .ok (.iaload, 1) := by decide +kernel
theorem dX8_goWalkers_74 : decode cX8_goWalkers 74 = .ok (.ifCond .le 36, 3) := by decide +kernel
theorem dX8_goWalkers_77 : decode cX8_goWalkers 77 = .ok (.aload_n 0, 1) := by decide +kernel
theorem dX8_goWalkers_78 : decode cX8_goWalkers 78 = .ok (.getfield 72, 3) := by decide +kernel
theorem dX8_goWalkers_81 : decode cX8_goWalkers 81 = .ok (.iload 5, 2) := by decide +kernel
theorem dX8_goWalkers_83 : decode cX8_goWalkers 83 = .ok (.iaload, 1) := by decide +kernel
theorem dX8_goWalkers_84 : decode cX8_goWalkers 84 = .ok (.aload_n 0, 1) := by decide +kernel
theorem dX8_goWalkers_85 : decode cX8_goWalkers 85 = .ok (.getfield 72, 3) := by decide +kernel
theorem dX8_goWalkers_88 : decode cX8_goWalkers 88 = .ok (.iload_n 3, 1) := by decide +kernel
theorem dX8_goWalkers_89 : decode cX8_goWalkers 89 = .ok (.iaload, 1) := by decide +kernel
theorem dX8_goWalkers_90 : decode cX8_goWalkers 90 = .ok (.iconst 1, 1) := by decide +kernel
theorem dX8_goWalkers_91 : decode cX8_goWalkers 91 = .ok (.isub, 1) := by decide +kernel
theorem dX8_goWalkers_92 : decode cX8_goWalkers 92 = .ok (.if_icmp .ne 18, 3) := by decide +kernel
theorem dX8_goWalkers_95 : decode cX8_goWalkers 95 = .ok (.aload_n 0, 1) := by decide +kernel
theorem dX8_goWalkers_96 : decode cX8_goWalkers 96 = .ok (.iload_n 3, 1) := by decide +kernel
theorem dX8_goWalkers_97 : decode cX8_goWalkers 97 = .ok (.iload 5, 2) := by decide +kernel
theorem dX8_goWalkers_99 : decode cX8_goWalkers 99 = .ok (.invokevirtual 143, 3) := by decide +kernel
theorem dX8_goWalkers_102 : decode cX8_goWalkers 102 = .ok (.ifCond .eq 8, 3) := by decide +kernel
theorem dX8_goWalkers_105 : decode cX8_goWalkers 105 = .ok (.iload 5, 2) := by decide +kernel
theorem dX8_goWalkers_107 : decode cX8_goWalkers 107 = .ok (.goto 5, 3) := by decide +kernel
theorem dX8_goWalkers_110 : decode cX8_goWalkers 110 = .ok (.iload 4, 2) := by decide +kernel
theorem dX8_goWalkers_112 : decode cX8_goWalkers 112 = .ok (.istore 4, 2) := by decide +kernel
theorem dX8_goWalkers_114 : decode cX8_goWalkers 114 = .ok (.iinc 5 (-1), 3) := by decide +kernel
theorem dX8_goWalkers_117 : decode cX8_goWalkers 117 = .ok (.goto (-59), 3) := by decide +kernel
theorem dX8_goWalkers_120 : decode cX8_goWalkers 120 = .ok (.iload 4, 2) := by decide +kernel
theorem dX8_goWalkers_122 : decode cX8_goWalkers 122 = .ok (.iconst (-1), 1) := by decide +kernel
theorem dX8_goWalkers_123 : decode cX8_goWalkers 123 = .ok (.if_icmp .eq 40, 3) := by decide +kernel
theorem dX8_goWalkers_126 : decode cX8_goWalkers 126 = .ok (.aload_n 0, 1) := by decide +kernel
theorem dX8_goWalkers_127 : decode cX8_goWalkers 127 = .ok (.getfield 7, 3) := by decide +kernel
theorem dX8_goWalkers_130 : decode cX8_goWalkers 130 = .ok (.bipush 27, 2) := by decide +kernel
theorem dX8_goWalkers_132 : decode cX8_goWalkers 132 = .ok (.iload_n 1, 1) := by decide +kernel
theorem dX8_goWalkers_133 : decode cX8_goWalkers 133 = .ok (.iadd, 1) := by decide +kernel
theorem dX8_goWalkers_134 : decode cX8_goWalkers 134 = .ok (.iload 4, 2) := by decide +kernel
theorem dX8_goWalkers_136 : decode cX8_goWalkers 136 = .ok (.iastore, 1) := by decide +kernel
theorem dX8_goWalkers_137 : decode cX8_goWalkers 137 = .ok (.aload_n 0, 1) := by decide +kernel
theorem dX8_goWalkers_138 : decode cX8_goWalkers 138 = .ok (.getfield 7, 3) := by decide +kernel
theorem dX8_goWalkers_141 : decode cX8_goWalkers 141 = .ok (.bipush 31, 2) := by decide +kernel
theorem dX8_goWalkers_143 : decode cX8_goWalkers 143 = .ok (.iload_n 1, 1) := by decide +kernel
theorem dX8_goWalkers_144 : decode cX8_goWalkers 144 = .ok (.iadd, 1) := by decide +kernel
theorem dX8_goWalkers_145 : decode cX8_goWalkers 145 = .ok (.iload 4, 2) := by decide +kernel
theorem dX8_goWalkers_147 : decode cX8_goWalkers 147 = .ok (.iload_n 2, 1) := by decide +kernel
theorem dX8_goWalkers_148 : decode cX8_goWalkers 148 = .ok (.if_icmp .ne 7, 3) := by decide +kernel
theorem dX8_goWalkers_151 : decode cX8_goWalkers 151 = .ok (.iconst (-1), 1) := by decide +kernel
theorem dX8_goWalkers_152 : decode cX8_goWalkers 152 = .ok (.goto 4, 3) := by decide +kernel
theorem dX8_goWalkers_155 : decode cX8_goWalkers 155 = .ok (.iload_n 2, 1) := by decide +kernel
theorem dX8_goWalkers_156 : decode cX8_goWalkers 156 = .ok (.iastore, 1) := by decide +kernel
theorem dX8_goWalkers_157 : decode cX8_goWalkers 157 = .ok (.aload_n 0, 1) := by decide +kernel
theorem dX8_goWalkers_158 : decode cX8_goWalkers 158 = .ok (.iconst 3, 1) := by decide +kernel
theorem dX8_goWalkers_159 : decode cX8_goWalkers 159 = .ok (.iload_n 1, 1) := by decide +kernel
theorem dX8_goWalkers_160 : decode cX8_goWalkers 160 = .ok (.invokevirtual 133, 3) := by decide +kernel
theorem dX8_goWalkers_163 : decode cX8_goWalkers 163 = .ok (.iinc 1 1, 3) := by decide +kernel
theorem dX8_goWalkers_166 : decode cX8_goWalkers 166 = .ok (.goto (-164), 3) := by decide +kernel
theorem dX8_goWalkers_169 : decode cX8_goWalkers 169 = .ok (.return_, 1) := by decide +kernel
theorem dX8_turn_0 : decode cX8_turn 0 = .ok (.aload_n 0, 1) := by decide +kernel
theorem dX8_turn_1 : decode cX8_turn 1 = .ok (.getfield 75, 3) := by decide +kernel
theorem dX8_turn_4 : decode cX8_turn 4 = .ok (.bipush 8, 2) := by decide +kernel
theorem dX8_turn_6 : decode cX8_turn 6 = .ok (.if_icmp .ne 40, 3) := by decide +kernel
theorem dX8_turn_9 : decode cX8_turn 9 = .ok (.iconst 0, 1) := by decide +kernel
theorem dX8_turn_10 : decode cX8_turn 10 = .ok (.istore_n 1, 1) := by decide +kernel
theorem dX8_turn_11 : decode cX8_turn 11 = .ok (.iload_n 1, 1) := by decide +kernel
theorem dX8_turn_12 : decode cX8_turn 12 = .ok (.sipush 1344, 3) := by decide +kernel
theorem dX8_turn_15 : decode cX8_turn 15 = .ok (.if_icmp .ge 25, 3) := by decide +kernel
theorem dX8_turn_18 : decode cX8_turn 18 = .ok (.aload_n 0, 1) := by decide +kernel
theorem dX8_turn_19 : decode cX8_turn 19 = .ok (.getfield 13, 3) := by decide +kernel
theorem dX8_turn_22 : decode cX8_turn 22 = .ok (.iload_n 1, 1) := by decide +kernel
theorem dX8_turn_23 : decode cX8_turn 23 = .ok (.aload_n 0, 1) := by decide +kernel
theorem dX8_turn_24 : decode cX8_turn 24 = .ok (.getfield 13, 3) := by decide +kernel
theorem dX8_turn_27 : decode cX8_turn 27 = .ok (.iload_n 1, 1) := by decide +kernel
theorem dX8_turn_28 : decode cX8_turn 28 = .ok (.sipush 192, 3) := by decide +kernel
theorem dX8_turn_31 : decode cX8_turn 31 = .ok (.iadd, 1) := by decide +kernel
theorem dX8_turn_32 : decode cX8_turn 32 = .ok (.iaload, 1) := by decide +kernel
theorem dX8_turn_33 : decode cX8_turn 33 = .ok (.iastore, 1) := by decide +kernel
theorem dX8_turn_34 : decode cX8_turn 34 = .ok (.iinc 1 1, 3) := by decide +kernel
theorem dX8_turn_37 : decode cX8_turn 37 = .ok (.goto (-26), 3) := by decide +kernel
theorem dX8_turn_40 : decode cX8_turn 40 = .ok (.aload_n 0, 1) := by decide +kernel
theorem dX8_turn_41 : decode cX8_turn 41 = .ok (.bipush 7, 2) := by decide +kernel
theorem dX8_turn_43 : decode cX8_turn 43 = .ok (.putfield 75, 3) := by decide +kernel
theorem dX8_turn_46 : decode cX8_turn 46 = .ok (.iconst 0, 1) := by decide +kernel
theorem dX8_turn_47 : decode cX8_turn 47 = .ok (.istore_n 1, 1) := by decide +kernel
theorem dX8_turn_48 : decode cX8_turn 48 = .ok (.iload_n 1, 1) := by decide +kernel
theorem dX8_turn_49 : decode cX8_turn 49 = .ok (.sipush 192, 3) := by decide +kernel
theorem dX8_turn_52 : decode cX8_turn 52 = .ok (.if_icmp .ge 30, 3) := by decide +kernel
theorem dX8_turn_55 : decode cX8_turn 55 = .ok (.aload_n 0, 1) := by decide +kernel
theorem dX8_turn_56 : decode cX8_turn 56 = .ok (.getfield 13, 3) := by decide +kernel
theorem dX8_turn_59 : decode cX8_turn 59 = .ok (.sipush 192, 3) := by decide +kernel
theorem dX8_turn_62 : decode cX8_turn 62 = .ok (.aload_n 0, 1) := by decide +kernel
theorem dX8_turn_63 : decode cX8_turn 63 = .ok (.getfield 75, 3) := by decide +kernel
theorem dX8_turn_66 : decode cX8_turn 66 = .ok (.imul, 1) := by decide +kernel
theorem dX8_turn_67 : decode cX8_turn 67 = .ok (.iload_n 1, 1) := by decide +kernel
theorem dX8_turn_68 : decode cX8_turn 68 = .ok (.iadd, 1) := by decide +kernel
theorem dX8_turn_69 : decode cX8_turn 69 = .ok (.aload_n 0, 1) := by decide +kernel
theorem dX8_turn_70 : decode cX8_turn 70 = .ok (.getfield 7, 3) := by decide +kernel
theorem dX8_turn_73 : decode cX8_turn 73 = .ok (.iload_n 1, 1) := by decide +kernel
theorem dX8_turn_74 : decode cX8_turn 74 = .ok (.iaload, 1) := by decide +kernel
theorem dX8_turn_75 : decode cX8_turn 75 = .ok (.iastore, 1) := by decide +kernel
theorem dX8_turn_76 : decode cX8_turn 76 = .ok (.iinc 1 1, 3) := by decide +kernel
theorem dX8_turn_79 : decode cX8_turn 79 = .ok (.goto (-31), 3) := by decide +kernel
theorem dX8_turn_82 : decode cX8_turn 82 = .ok (.aload_n 0, 1) := by decide +kernel
theorem dX8_turn_83 : decode cX8_turn 83 = .ok (.dup, 1) := by decide +kernel
theorem dX8_turn_84 : decode cX8_turn 84 = .ok (.getfield 75, 3) := by decide +kernel
theorem dX8_turn_87 : decode cX8_turn 87 = .ok (.iconst 1, 1) := by decide +kernel
theorem dX8_turn_88 : decode cX8_turn 88 = .ok (.iadd, 1) := by decide +kernel
theorem dX8_turn_89 : decode cX8_turn 89 = .ok (.putfield 75, 3) := by decide +kernel
theorem dX8_turn_92 : decode cX8_turn 92 = .ok (.aload_n 0, 1) := by decide +kernel
theorem dX8_turn_93 : decode cX8_turn 93 = .ok (.iconst 1, 1) := by decide +kernel
theorem dX8_turn_94 : decode cX8_turn 94 = .ok (.putfield 119, 3) := by decide +kernel
theorem dX8_turn_97 : decode cX8_turn 97 = .ok (.aload_n 0, 1) := by decide +kernel
theorem dX8_turn_98 : decode cX8_turn 98 = .ok (.iconst 0, 1) := by decide +kernel
theorem dX8_turn_99 : decode cX8_turn 99 = .ok (.putfield 123, 3) := by decide +kernel
theorem dX8_turn_102 : decode cX8_turn 102 = .ok (.aload_n 0, 1) := by decide +kernel
theorem dX8_turn_103 : decode cX8_turn 103 = .ok (.iconst 0, 1) := by decide +kernel
theorem dX8_turn_104 : decode cX8_turn 104 = .ok (.putfield 130, 3) := by decide +kernel
theorem dX8_turn_107 : decode cX8_turn 107 = .ok (.aload_n 0, 1) := by decide +kernel
theorem dX8_turn_108 : decode cX8_turn 108 = .ok (.getfield 7, 3) := by decide +kernel
theorem dX8_turn_111 : decode cX8_turn 111 = .ok (.bipush 71, 2) := by decide +kernel
theorem dX8_turn_113 : decode cX8_turn 113 = .ok (.iconst 0, 1) := by decide +kernel
theorem dX8_turn_114 : decode cX8_turn 114 = .ok (.iastore, 1) := by decide +kernel
theorem dX8_turn_115 : decode cX8_turn 115 = .ok (.aload_n 0, 1) := by decide +kernel
theorem dX8_turn_116 : decode cX8_turn 116 = .ok (.getfield 7, 3) := by decide +kernel
theorem dX8_turn_119 : decode cX8_turn 119 = .ok (.iconst 2, 1) := by decide +kernel
theorem dX8_turn_120 : decode cX8_turn 120 = .ok (.dup2, 1) := by decide +kernel
theorem dX8_turn_121 : decode cX8_turn 121 = .ok (.iaload, 1) := by decide +kernel
theorem dX8_turn_122 : decode cX8_turn 122 = .ok (.iconst 1, 1) := by decide +kernel
theorem dX8_turn_123 : decode cX8_turn 123 = .ok (.iadd, 1) := by decide +kernel
theorem dX8_turn_124 : decode cX8_turn 124 = .ok (.iastore, 1) := by decide +kernel
theorem dX8_turn_125 : decode cX8_turn 125 = .ok (.aload_n 0, 1) := by decide +kernel
theorem dX8_turn_126 : decode cX8_turn 126 = .ok (.invokevirtual 146, 3) := by decide +kernel
theorem dX8_turn_129 : decode cX8_turn 129 = .ok (.aload_n 0, 1) := by decide +kernel
theorem dX8_turn_130 : decode cX8_turn 130 = .ok (.invokevirtual 149, 3) := by decide +kernel
theorem dX8_turn_133 : decode cX8_turn 133 = .ok (.aload_n 0, 1) := by decide +kernel
theorem dX8_turn_134 : decode cX8_turn 134 = .ok (.invokevirtual 152, 3) := by decide +kernel
theorem dX8_turn_137 : decode cX8_turn 137 = .ok (.aload_n 0, 1) := by decide +kernel
theorem dX8_turn_138 : decode cX8_turn 138 = .ok (.invokevirtual 155, 3) := by decide +kernel
theorem dX8_turn_141 : decode cX8_turn 141 = .ok (.aload_n 0, 1) := by decide +kernel
theorem dX8_turn_142 : decode cX8_turn 142 = .ok (.iconst 0, 1) := by decide +kernel
theorem dX8_turn_143 : decode cX8_turn 143 = .ok (.putfield 119, 3) := by decide +kernel
theorem dX8_turn_146 : decode cX8_turn 146 = .ok (.aload_n 0, 1) := by decide +kernel
theorem dX8_turn_147 : decode cX8_turn 147 = .ok (.iconst 0, 1) := by decide +kernel
theorem dX8_turn_148 : decode cX8_turn 148 = .ok (.putfield 123, 3) := by decide +kernel
theorem dX8_turn_151 : decode cX8_turn 151 = .ok (.aload_n 0, 1) := by decide +kernel
theorem dX8_turn_152 : decode cX8_turn 152 = .ok (.getfield 130, 3) := by decide +kernel
theorem dX8_turn_155 : decode cX8_turn 155 = .ok (.ireturn, 1) := by decide +kernel
theorem dX8_back_0 : decode cX8_back 0 = .ok (.aload_n 0, 1) := by decide +kernel
theorem dX8_back_1 : decode cX8_back 1 = .ok (.getfield 75, 3) := by decide +kernel
theorem dX8_back_4 : decode cX8_back 4 = .ok (.ifCond .ne 6, 3) := by decide +kernel
theorem dX8_back_7 : decode cX8_back 7 = .ok (.bipush (-4), 2) := by decide +kernel
theorem dX8_back_9 : decode cX8_back 9 = .ok (.ireturn, 1) := by decide +kernel
theorem dX8_back_10 : decode cX8_back 10 = .ok (.aload_n 0, 1) := by decide +kernel
theorem dX8_back_11 : decode cX8_back 11 = .ok (.dup, 1) := by decide +kernel
theorem dX8_back_12 : decode cX8_back 12 = .ok (.getfield 75, 3) := by decide +kernel
theorem dX8_back_15 : decode cX8_back 15 = .ok (.iconst 1, 1) := by decide +kernel
theorem dX8_back_16 : decode cX8_back 16 = .ok (.isub, 1) := by decide +kernel
theorem dX8_back_17 : decode cX8_back 17 = .ok (.putfield 75, 3) := by decide +kernel
theorem dX8_back_20 : decode cX8_back 20 = .ok (.iconst 0, 1) := by decide +kernel
theorem dX8_back_21 : decode cX8_back 21 = .ok (.istore_n 1, 1) := by decide +kernel
theorem dX8_back_22 : decode cX8_back 22 = .ok (.iload_n 1, 1) := by decide +kernel
theorem dX8_back_23 : decode cX8_back 23 = .ok (.sipush 192, 3) := by decide +kernel
theorem dX8_back_26 : decode cX8_back 26 = .ok (.if_icmp .ge 30, 3) := by decide +kernel
theorem dX8_back_29 : decode cX8_back 29 = .ok (.aload_n 0, 1) := by decide +kernel
theorem dX8_back_30 : decode cX8_back 30 = .ok (.getfield 7, 3) := by decide +kernel
theorem dX8_back_33 : decode cX8_back 33 = .ok (.iload_n 1, 1) := by decide +kernel
theorem dX8_back_34 : decode cX8_back 34 = .ok (.aload_n 0, 1) := by decide +kernel
theorem dX8_back_35 : decode cX8_back 35 = .ok (.getfield 13, 3) := by decide +kernel
theorem dX8_back_38 : decode cX8_back 38 = .ok (.sipush 192, 3) := by decide +kernel
theorem dX8_back_41 : decode cX8_back 41 = .ok (.aload_n 0, 1) := by decide +kernel
theorem dX8_back_42 : decode cX8_back 42 = .ok (.getfield 75, 3) := by decide +kernel
theorem dX8_back_45 : decode cX8_back 45 = .ok (.imul, 1) := by decide +kernel
theorem dX8_back_46 : decode cX8_back 46 = .ok (.iload_n 1, 1) := by decide +kernel
theorem dX8_back_47 : decode cX8_back 47 = .ok (.iadd, 1) := by decide +kernel
theorem dX8_back_48 : decode cX8_back 48 = .ok (.iaload, 1) := by decide +kernel
theorem dX8_back_49 : decode cX8_back 49 = .ok (.iastore, 1) := by decide +kernel
theorem dX8_back_50 : decode cX8_back 50 = .ok (.iinc 1 1, 3) := by decide +kernel
theorem dX8_back_53 : decode cX8_back 53 = .ok (.goto (-31), 3) := by decide +kernel
theorem dX8_back_56 : decode cX8_back 56 = .ok (.aload_n 0, 1) := by decide +kernel
theorem dX8_back_57 : decode cX8_back 57 = .ok (.getfield 75, 3) := by decide +kernel
theorem dX8_back_60 : decode cX8_back 60 = .ok (.ireturn, 1) := by decide +kernel
theorem dX8_told_0 : decode cX8_told 0 = .ok (.iload_n 1, 1) := by decide +kernel
theorem dX8_told_1 : decode cX8_told 1 = .ok (.tableswitch 77 0 5 #[39, 46, 53, 60, 65, 72], 39) := by decide +kernel
theorem dX8_told_40 : decode cX8_told 40 = .ok (.aload_n 0, 1) := by decide +kernel
theorem dX8_told_41 : decode cX8_told 41 = .ok (.getfield 7, 3) := by decide +kernel
theorem dX8_told_44 : decode cX8_told 44 = .ok (.iconst 0, 1) := by decide +kernel
theorem dX8_told_45 : decode cX8_told 45 = .ok (.iaload, 1) := by decide +kernel
theorem dX8_told_46 : decode cX8_told 46 = .ok (.ireturn, 1) := by decide +kernel
theorem dX8_told_47 : decode cX8_told 47 = .ok (.aload_n 0, 1) := by decide +kernel
theorem dX8_told_48 : decode cX8_told 48 = .ok (.getfield 7, 3) := by decide +kernel
theorem dX8_told_51 : decode cX8_told 51 = .ok (.iconst 1, 1) := by decide +kernel
theorem dX8_told_52 : decode cX8_told 52 = .ok (.iaload, 1) := by decide +kernel
theorem dX8_told_53 : decode cX8_told 53 = .ok (.ireturn, 1) := by decide +kernel
theorem dX8_told_54 : decode cX8_told 54 = .ok (.aload_n 0, 1) := by decide +kernel
theorem dX8_told_55 : decode cX8_told 55 = .ok (.getfield 7, 3) := by decide +kernel
theorem dX8_told_58 : decode cX8_told 58 = .ok (.iconst 2, 1) := by decide +kernel
theorem dX8_told_59 : decode cX8_told 59 = .ok (.iaload, 1) := by decide +kernel
theorem dX8_told_60 : decode cX8_told 60 = .ok (.ireturn, 1) := by decide +kernel
theorem dX8_told_61 : decode cX8_told 61 = .ok (.aload_n 0, 1) := by decide +kernel
theorem dX8_told_62 : decode cX8_told 62 = .ok (.getfield 16, 3) := by decide +kernel
theorem dX8_told_65 : decode cX8_told 65 = .ok (.ireturn, 1) := by decide +kernel
theorem dX8_told_66 : decode cX8_told 66 = .ok (.aload_n 0, 1) := by decide +kernel
theorem dX8_told_67 : decode cX8_told 67 = .ok (.getfield 7, 3) := by decide +kernel
theorem dX8_told_70 : decode cX8_told 70 = .ok (.iconst 3, 1) := by decide +kernel
theorem dX8_told_71 : decode cX8_told 71 = .ok (.iaload, 1) := by decide +kernel
theorem dX8_told_72 : decode cX8_told 72 = .ok (.ireturn, 1) := by decide +kernel
theorem dX8_told_73 : decode cX8_told 73 = .ok (.aload_n 0, 1) := by decide +kernel
theorem dX8_told_74 : decode cX8_told 74 = .ok (.getfield 75, 3) := by decide +kernel
theorem dX8_told_77 : decode cX8_told 77 = .ok (.ireturn, 1) := by decide +kernel
theorem dX8_told_78 : decode cX8_told 78 = .ok (.iload_n 1, 1) := by decide +kernel
theorem dX8_told_79 : decode cX8_told 79 = .ok (.bipush 6, 2) := by decide +kernel
theorem dX8_told_81 : decode cX8_told 81 = .ok (.if_icmp .ne 13, 3) := by decide +kernel
theorem dX8_told_84 : decode cX8_told 84 = .ok (.aload_n 0, 1) := by decide +kernel
theorem dX8_told_85 : decode cX8_told 85 = .ok (.getfield 7, 3) := by decide +kernel
theorem dX8_told_88 : decode cX8_told 88 = .ok (.bipush 71, 2) := by decide +kernel
theorem dX8_told_90 : decode cX8_told 90 = .ok (.iaload, 1) := by decide +kernel
theorem dX8_told_91 : decode cX8_told 91 = .ok (.goto 5, 3) := by decide +kernel
theorem dX8_told_94 : decode cX8_told 94 = .ok (.bipush (-3), 2) := by decide +kernel
theorem dX8_told_96 : decode cX8_told 96 = .ok (.ireturn, 1) := by decide +kernel
theorem dX8_count_0 : decode cX8_count 0 = .ok (.iload_n 1, 1) := by decide +kernel
theorem dX8_count_1 : decode cX8_count 1 = .ok (.tableswitch 69 0 5 #[39, 44, 49, 54, 59, 64], 39) := by decide +kernel
theorem dX8_count_40 : decode cX8_count 40 = .ok (.aload_n 0, 1) := by decide +kernel
theorem dX8_count_41 : decode cX8_count 41 = .ok (.getfield 82, 3) := by decide +kernel
theorem dX8_count_44 : decode cX8_count 44 = .ok (.ireturn, 1) := by decide +kernel
theorem dX8_count_45 : decode cX8_count 45 = .ok (.aload_n 0, 1) := by decide +kernel
theorem dX8_count_46 : decode cX8_count 46 = .ok (.getfield 93, 3) := by decide +kernel
theorem dX8_count_49 : decode cX8_count 49 = .ok (.ireturn, 1) := by decide +kernel
theorem dX8_count_50 : decode cX8_count 50 = .ok (.aload_n 0, 1) := by decide +kernel
theorem dX8_count_51 : decode cX8_count 51 = .ok (.getfield 96, 3) := by decide +kernel
theorem dX8_count_54 : decode cX8_count 54 = .ok (.ireturn, 1) := by decide +kernel
theorem dX8_count_55 : decode cX8_count 55 = .ok (.aload_n 0, 1) := by decide +kernel
theorem dX8_count_56 : decode cX8_count 56 = .ok (.getfield 99, 3) := by decide +kernel
theorem dX8_count_59 : decode cX8_count 59 = .ok (.ireturn, 1) := by decide +kernel
theorem dX8_count_60 : decode cX8_count 60 = .ok (.aload_n 0, 1) := by decide +kernel
theorem dX8_count_61 : decode cX8_count 61 = .ok (.getfield 102, 3) := by decide +kernel
theorem dX8_count_64 : decode cX8_count 64 = .ok (.ireturn, 1) := by decide +kernel
theorem dX8_count_65 : decode cX8_count 65 = .ok (.aload_n 0, 1) := by decide +kernel
theorem dX8_count_66 : decode cX8_count 66 = .ok (.getfield 105, 3) := by decide +kernel
theorem dX8_count_69 : decode cX8_count 69 = .ok (.ireturn, 1) := by decide +kernel
theorem dX8_count_70 : decode cX8_count 70 = .ok (.iload_n 1, 1) := by decide +kernel
theorem dX8_count_71 : decode cX8_count 71 = .ok (.bipush 6, 2) := by decide +kernel
theorem dX8_count_73 : decode cX8_count 73 = .ok (.if_icmp .ne 10, 3) := by decide +kernel
theorem dX8_count_76 : decode cX8_count 76 = .ok (.aload_n 0, 1) := by decide +kernel
theorem dX8_count_77 : decode cX8_count 77 = .ok (.getfield 108, 3) := by decide +kernel
theorem dX8_count_80 : decode cX8_count 80 = .ok (.goto 5, 3) := by decide +kernel
theorem dX8_count_83 : decode cX8_count 83 = .ok (.bipush (-3), 2) := by decide +kernel
theorem dX8_count_85 : decode cX8_count 85 = .ok (.ireturn, 1) := by decide +kernel
theorem dX8_counter_0 : decode cX8_counter 0 = .ok (.iload_n 1, 1) := by decide +kernel
theorem dX8_counter_1 : decode cX8_counter 1 = .ok (.iconst 0, 1) := by decide +kernel
theorem dX8_counter_2 : decode cX8_counter 2 = .ok (.bipush 7, 2) := by decide +kernel
theorem dX8_counter_4 : decode cX8_counter 4 = .ok (.invokestatic 78, 3) := by decide +kernel
theorem dX8_counter_7 : decode cX8_counter 7 = .ok (.ifCond .eq 14, 3) := by decide +kernel
theorem dX8_counter_10 : decode cX8_counter 10 = .ok (.aload_n 0, 1) := by decide +kernel
theorem dX8_counter_11 : decode cX8_counter 11 = .ok (.getfield 7, 3) := by decide +kernel
theorem dX8_counter_14 : decode cX8_counter 14 = .ok (.iconst 4, 1) := by decide +kernel
theorem dX8_counter_15 : decode cX8_counter 15 = .ok (.iload_n 1, 1) := by decide +kernel
theorem dX8_counter_16 : decode cX8_counter 16 = .ok (.iadd, 1) := by decide +kernel
theorem dX8_counter_17 : decode cX8_counter 17 = .ok (.iaload, 1) := by decide +kernel
theorem dX8_counter_18 : decode cX8_counter 18 = .ok (.goto 5, 3) := by decide +kernel
theorem dX8_counter_21 : decode cX8_counter 21 = .ok (.bipush (-3), 2) := by decide +kernel
theorem dX8_counter_23 : decode cX8_counter 23 = .ok (.ireturn, 1) := by decide +kernel
theorem dX8_left_0 : decode cX8_left 0 = .ok (.iload_n 1, 1) := by decide +kernel
theorem dX8_left_1 : decode cX8_left 1 = .ok (.aload_n 0, 1) := by decide +kernel
theorem dX8_left_2 : decode cX8_left 2 = .ok (.getfield 105, 3) := by decide +kernel
theorem dX8_left_5 : decode cX8_left 5 = .ok (.invokestatic 89, 3) := by decide +kernel
theorem dX8_left_8 : decode cX8_left 8 = .ok (.ifCond .eq 15, 3) := by decide +kernel
theorem dX8_left_11 : decode cX8_left 11 = .ok (.aload_n 0, 1) := by decide +kernel
theorem dX8_left_12 : decode cX8_left 12 = .ok (.getfield 7, 3) := by decide +kernel
theorem dX8_left_15 : decode cX8_left 15 = .ok (.bipush 47, 2) := by decide +kernel
theorem dX8_left_17 : decode cX8_left 17 = .ok (.iload_n 1, 1) := by decide +kernel
theorem dX8_left_18 : decode cX8_left 18 = .ok (.iadd, 1) := by decide +kernel
theorem dX8_left_19 : decode cX8_left 19 = .ok (.iaload, 1) := by decide +kernel
theorem dX8_left_20 : decode cX8_left 20 = .ok (.goto 5, 3) := by decide +kernel
theorem dX8_left_23 : decode cX8_left 23 = .ok (.bipush (-2), 2) := by decide +kernel
theorem dX8_left_25 : decode cX8_left 25 = .ok (.ireturn, 1) := by decide +kernel
theorem dX8_is_0 : decode cX8_is 0 = .ok (.iload_n 1, 1) := by decide +kernel
theorem dX8_is_1 : decode cX8_is 1 = .ok (.iconst 0, 1) := by decide +kernel
theorem dX8_is_2 : decode cX8_is 2 = .ok (.iconst 2, 1) := by decide +kernel
theorem dX8_is_3 : decode cX8_is 3 = .ok (.invokestatic 78, 3) := by decide +kernel
theorem dX8_is_6 : decode cX8_is 6 = .ok (.ifCond .ne 6, 3) := by decide +kernel
theorem dX8_is_9 : decode cX8_is 9 = .ok (.bipush (-3), 2) := by decide +kernel
theorem dX8_is_11 : decode cX8_is 11 = .ok (.ireturn, 1) := by decide +kernel
theorem dX8_is_12 : decode cX8_is 12 = .ok (.iload_n 2, 1) := by decide +kernel
theorem dX8_is_13 : decode cX8_is 13 = .ok (.iload_n 1, 1) := by decide +kernel
theorem dX8_is_14 : decode cX8_is 14 = .ok (.ifCond .ne 10, 3) := by decide +kernel
theorem dX8_is_17 : decode cX8_is 17 = .ok (.aload_n 0, 1) := by decide +kernel
theorem dX8_is_18 : decode cX8_is 18 = .ok (.getfield 108, 3) := by decide +kernel
theorem dX8_is_21 : decode cX8_is 21 = .ok (.goto 19, 3) := by decide +kernel
theorem dX8_is_24 : decode cX8_is 24 = .ok (.iload_n 1, 1) := by decide +kernel
theorem dX8_is_25 : decode cX8_is 25 = .ok (.iconst 1, 1) := by decide +kernel
theorem dX8_is_26 : decode cX8_is 26 = .ok (.if_icmp .ne 10, 3) := by decide +kernel
theorem dX8_is_29 : decode cX8_is 29 = .ok (.aload_n 0, 1) := by decide +kernel
theorem dX8_is_30 : decode cX8_is 30 = .ok (.getfield 93, 3) := by decide +kernel
theorem dX8_is_33 : decode cX8_is 33 = .ok (.goto 7, 3) := by decide +kernel
theorem dX8_is_36 : decode cX8_is 36 = .ok (.aload_n 0, 1) := by decide +kernel
theorem dX8_is_37 : decode cX8_is 37 = .ok (.getfield 102, 3) := by decide +kernel
theorem dX8_is_40 : decode cX8_is 40 = .ok (.invokestatic 89, 3) := by decide +kernel
theorem dX8_is_43 : decode cX8_is 43 = .ok (.ifCond .ne 6, 3) := by decide +kernel
theorem dX8_is_46 : decode cX8_is 46 = .ok (.bipush (-2), 2) := by decide +kernel
theorem dX8_is_48 : decode cX8_is 48 = .ok (.ireturn, 1) := by decide +kernel
theorem dX8_is_49 : decode cX8_is 49 = .ok (.iload_n 1, 1) := by decide +kernel
theorem dX8_is_50 : decode cX8_is 50 = .ok (.ifCond .ne 15, 3) := by decide +kernel
theorem dX8_is_53 : decode cX8_is 53 = .ok (.aload_n 0, 1) := by decide +kernel
theorem dX8_is_54 : decode cX8_is 54 = .ok (.getfield 7, 3) := by decide +kernel
theorem dX8_is_57 : decode cX8_is 57 = .ok (.bipush 59, 2) := by decide +kernel
theorem dX8_is_59 : decode cX8_is 59 = .ok (.iload_n 2, 1) := by decide +kernel
theorem dX8_is_60 : decode cX8_is 60 = .ok (.iadd, 1) := by decide +kernel
theorem dX8_is_61 : decode cX8_is 61 = .ok (.iaload, 1) := by decide +kernel
theorem dX8_is_62 : decode cX8_is 62 = .ok (.goto 31, 3) := by decide +kernel
theorem dX8_is_65 : decode cX8_is 65 = .ok (.iload_n 1, 1) := by decide +kernel
theorem dX8_is_66 : decode cX8_is 66 = .ok (.iconst 1, 1) := by decide +kernel
theorem dX8_is_67 : decode cX8_is 67 = .ok (.if_icmp .ne 15, 3) := by decide +kernel
theorem dX8_is_70 : decode cX8_is 70 = .ok (.aload_n 0, 1) := by decide +kernel
theorem dX8_is_71 : decode cX8_is 71 = .ok (.getfield 7, 3) := by decide +kernel
theorem dX8_is_74 : decode cX8_is 74 = .ok (.bipush 12, 2) := by decide +kernel
theorem dX8_is_76 : decode cX8_is 76 = .ok (.iload_n 2, 1) := by decide +kernel
theorem dX8_is_77 : decode cX8_is 77 = .ok (.iadd, 1) := by decide +kernel
theorem dX8_is_78 : decode cX8_is 78 = .ok (.iaload, 1) := by decide +kernel
theorem dX8_is_79 : decode cX8_is 79 = .ok (.goto 14, 3) := by decide +kernel
theorem dX8_is_82 : decode cX8_is 82 = .ok (.iconst 1, 1) := by decide +kernel
theorem dX8_is_83 : decode cX8_is 83 = .ok (.aload_n 0, 1) := by decide +kernel
theorem dX8_is_84 : decode cX8_is 84 = .ok (.getfield 7, 3) := by decide +kernel
theorem dX8_is_87 : decode cX8_is 87 = .ok (.bipush 35, 2) := by decide +kernel
theorem dX8_is_89 : decode cX8_is 89 = .ok (.iload_n 2, 1) := by decide +kernel
theorem dX8_is_90 : decode cX8_is 90 = .ok (.iadd, 1) := by decide +kernel
theorem dX8_is_91 : decode cX8_is 91 = .ok (.iaload, 1) := by decide +kernel
theorem dX8_is_92 : decode cX8_is 92 = .ok (.isub, 1) := by decide +kernel
theorem dX8_is_93 : decode cX8_is 93 = .ok (.ireturn, 1) := by decide +kernel
theorem dX8_walks_0 : decode cX8_walks 0 = .ok (.iload_n 1, 1) := by decide +kernel
theorem dX8_walks_1 : decode cX8_walks 1 = .ok (.aload_n 0, 1) := by decide +kernel
theorem dX8_walks_2 : decode cX8_walks 2 = .ok (.getfield 96, 3) := by decide +kernel
theorem dX8_walks_5 : decode cX8_walks 5 = .ok (.invokestatic 89, 3) := by decide +kernel
theorem dX8_walks_8 : decode cX8_walks 8 = .ok (.ifCond .ne 6, 3) := by decide +kernel
theorem dX8_walks_11 : decode cX8_walks 11 = .ok (.bipush (-2), 2) := by decide +kernel
theorem dX8_walks_13 : decode cX8_walks 13 = .ok (.ireturn, 1) := by decide +kernel
theorem dX8_walks_14 : decode cX8_walks 14 = .ok (.iload_n 2, 1) := by decide +kernel
theorem dX8_walks_15 : decode cX8_walks 15 = .ok (.ifCond .ne 15, 3) := by decide +kernel
theorem dX8_walks_18 : decode cX8_walks 18 = .ok (.aload_n 0, 1) := by decide +kernel
theorem dX8_walks_19 : decode cX8_walks 19 = .ok (.getfield 7, 3) := by decide +kernel
theorem dX8_walks_22 : decode cX8_walks 22 = .ok (.bipush 27, 2) := by decide +kernel
theorem dX8_walks_24 : decode cX8_walks 24 = .ok (.iload_n 1, 1) := by decide +kernel
theorem dX8_walks_25 : decode cX8_walks 25 = .ok (.iadd, 1) := by decide +kernel
theorem dX8_walks_26 : decode cX8_walks 26 = .ok (.iaload, 1) := by decide +kernel
theorem dX8_walks_27 : decode cX8_walks 27 = .ok (.goto 22, 3) := by decide +kernel
theorem dX8_walks_30 : decode cX8_walks 30 = .ok (.iload_n 2, 1) := by decide +kernel
theorem dX8_walks_31 : decode cX8_walks 31 = .ok (.iconst 1, 1) := by decide +kernel
theorem dX8_walks_32 : decode cX8_walks 32 = .ok (.if_icmp .ne 15, 3) := by decide +kernel
theorem dX8_walks_35 : decode cX8_walks 35 = .ok (.aload_n 0, 1) := by decide +kernel
theorem dX8_walks_36 : decode cX8_walks 36 = .ok (.getfield 7, 3) := by decide +kernel
theorem dX8_walks_39 : decode cX8_walks 39 = .ok (.bipush 31, 2) := by decide +kernel
theorem dX8_walks_41 : decode cX8_walks 41 = .ok (.iload_n 1, 1) := by decide +kernel
theorem dX8_walks_42 : decode cX8_walks 42 = .ok (.iadd, 1) := by decide +kernel
theorem dX8_walks_43 : decode cX8_walks 43 = .ok (.iaload, 1) := by decide +kernel
theorem dX8_walks_44 : decode cX8_walks 44 = .ok (.goto 5, 3) := by decide +kernel
theorem dX8_walks_47 : decode cX8_walks 47 = .ok (.bipush (-3), 2) := by decide +kernel
theorem dX8_walks_49 : decode cX8_walks 49 = .ok (.ireturn, 1) := by decide +kernel
theorem dX8_way_0 : decode cX8_way 0 = .ok (.iload_n 1, 1) := by decide +kernel
theorem dX8_way_1 : decode cX8_way 1 = .ok (.aload_n 0, 1) := by decide +kernel
theorem dX8_way_2 : decode cX8_way 2 = .ok (.getfield 82, 3) := by decide +kernel
theorem dX8_way_5 : decode cX8_way 5 = .ok (.invokestatic 89, 3) := by decide +kernel
theorem dX8_way_8 : decode cX8_way 8 = .ok (.ifCond .eq 14, 3) := by decide +kernel
theorem dX8_way_11 : decode cX8_way 11 = .ok (.iload_n 2, 1) := by decide +kernel
theorem dX8_way_12 : decode cX8_way 12 = .ok (.aload_n 0, 1) := by decide +kernel
theorem dX8_way_13 : decode cX8_way 13 = .ok (.getfield 82, 3) := by decide +kernel
theorem dX8_way_16 : decode cX8_way 16 = .ok (.invokestatic 89, 3) := by decide +kernel
theorem dX8_way_19 : decode cX8_way 19 = .ok (.ifCond .ne 6, 3) := by decide +kernel
theorem dX8_way_22 : decode cX8_way 22 = .ok (.bipush (-2), 2) := by decide +kernel
theorem dX8_way_24 : decode cX8_way 24 = .ok (.ireturn, 1) := by decide +kernel
theorem dX8_way_25 : decode cX8_way 25 = .ok (.aload_n 0, 1) := by decide +kernel
theorem dX8_way_26 : decode cX8_way 26 = .ok (.iload_n 2, 1) := by decide +kernel
theorem dX8_way_27 : decode cX8_way 27 = .ok (.invokevirtual 140, 3) := by decide +kernel
theorem dX8_way_30 : decode cX8_way 30 = .ok (.aload_n 0, 1) := by decide +kernel
theorem dX8_way_31 : decode cX8_way 31 = .ok (.getfield 72, 3) := by decide +kernel
theorem dX8_way_34 : decode cX8_way 34 = .ok (.iload_n 1, 1) := by decide +kernel
theorem dX8_way_35 : decode cX8_way 35 = .ok (.iaload, 1) := by decide +kernel
theorem dX8_way_36 : decode cX8_way 36 = .ok (.ireturn, 1) := by decide +kernel
theorem dX8_row_0 : decode cX8_row 0 = .ok (.iload_n 2, 1) := by decide +kernel
theorem dX8_row_1 : decode cX8_row 1 = .ok (.iconst 0, 1) := by decide +kernel
theorem dX8_row_2 : decode cX8_row 2 = .ok (.iconst 1, 1) := by decide +kernel
theorem dX8_row_3 : decode cX8_row 3 = .ok (.invokestatic 78, 3) := by decide +kernel
theorem dX8_row_6 : decode cX8_row 6 = .ok (.ifCond .ne 6, 3) := by decide +kernel
theorem dX8_row_9 : decode cX8_row 9 = .ok (.bipush (-3), 2) := by decide +kernel
theorem dX8_row_11 : decode cX8_row 11 = .ok (.ireturn, 1) := by decide +kernel
theorem dX8_row_12 : decode cX8_row 12 = .ok (.iload_n 1, 1) := by decide +kernel
theorem dX8_row_13 : decode cX8_row 13 = .ok (.aload_n 0, 1) := by decide +kernel
theorem dX8_row_14 : decode cX8_row 14 = .ok (.getfield 7, 3) := by decide +kernel
theorem dX8_row_17 : decode cX8_row 17 = .ok (.bipush 71, 2) := by decide +kernel
theorem dX8_row_19 : decode cX8_row 19 = .ok (.iaload, 1) := by decide +kernel
theorem dX8_row_20 : decode cX8_row 20 = .ok (.invokestatic 89, 3) := by decide +kernel
theorem dX8_row_23 : decode cX8_row 23 = .ok (.ifCond .eq 19, 3) := by decide +kernel
theorem dX8_row_26 : decode cX8_row 26 = .ok (.aload_n 0, 1) := by decide +kernel
theorem dX8_row_27 : decode cX8_row 27 = .ok (.getfield 7, 3) := by decide +kernel
theorem dX8_row_30 : decode cX8_row 30 = .ok (.bipush 72, 2) := by decide +kernel
theorem dX8_row_32 : decode cX8_row 32 = .ok (.iconst 2, 1) := by decide +kernel
theorem dX8_row_33 : decode cX8_row 33 = .ok (.iload_n 1, 1) := by decide +kernel
theorem dX8_row_34 : decode cX8_row 34 = .ok (.imul, 1) := by decide +kernel
theorem dX8_row_35 : decode cX8_row 35 = .ok (.iadd, 1) := by decide +kernel
theorem dX8_row_36 : decode cX8_row 36 = .ok (.iload_n 2, 1) := by decide +kernel
theorem dX8_row_37 : decode cX8_row 37 = .ok (.iadd, 1) := by decide +kernel
theorem dX8_row_38 : decode cX8_row 38 = .ok (.iaload, 1) := by decide +kernel
theorem dX8_row_39 : decode cX8_row 39 = .ok (.goto 4, 3) := by decide +kernel
theorem dX8_row_42 : decode cX8_row 42 = .ok (.iconst (-1), 1) := by decide +kernel
theorem dX8_row_43 : decode cX8_row 43 = .ok (.ireturn, 1) := by decide +kernel
theorem dX8_minutes_0 : decode cX8_minutes 0 = .ok (.iload_n 1, 1) := by decide +kernel
theorem dX8_minutes_1 : decode cX8_minutes 1 = .ok (.aload_n 0, 1) := by decide +kernel
theorem dX8_minutes_2 : decode cX8_minutes 2 = .ok (.getfield 102, 3) := by decide +kernel
theorem dX8_minutes_5 : decode cX8_minutes 5 = .ok (.invokestatic 89, 3) := by decide +kernel
theorem dX8_minutes_8 : decode cX8_minutes 8 = .ok (.ifCond .ne 6, 3) := by decide +kernel
theorem dX8_minutes_11 : decode cX8_minutes 11 = .ok (.bipush (-2), 2) := by decide +kernel
theorem dX8_minutes_13 : decode cX8_minutes 13 = .ok (.ireturn, 1) := by decide +kernel
theorem dX8_minutes_14 : decode cX8_minutes 14 = .ok (.aload_n 0, 1) := by decide +kernel
theorem dX8_minutes_15 : decode cX8_minutes 15 = .ok (.getfield 44, 3) := by decide +kernel
theorem dX8_minutes_18 : decode cX8_minutes 18 = .ok (.iload_n 1, 1) := by decide +kernel
theorem dX8_minutes_19 : decode cX8_minutes 19 = .ok (.iaload, 1) := by decide +kernel
theorem dX8_minutes_20 : decode cX8_minutes 20 = .ok (.aload_n 0, 1) := by decide +kernel
theorem dX8_minutes_21 : decode cX8_minutes 21 = .ok (.getfield 7, 3) := by decide +kernel
theorem dX8_minutes_24 : decode cX8_minutes 24 = .ok (.iconst 0, 1) := by decide +kernel
theorem dX8_minutes_25 : decode cX8_minutes 25 = .ok (.iaload, 1) := by decide +kernel
theorem dX8_minutes_26 : decode cX8_minutes 26 = .ok (.isub, 1) := by decide +kernel
theorem dX8_minutes_27 : decode cX8_minutes 27 = .ok (.sipush 1440, 3) := by decide +kernel
theorem dX8_minutes_30 : decode cX8_minutes 30 = .ok (.iadd, 1) := by decide +kernel
theorem dX8_minutes_31 : decode cX8_minutes 31 = .ok (.sipush 1440, 3) := by decide +kernel
theorem dX8_minutes_34 : decode cX8_minutes 34 = .ok (.irem, 1) := by decide +kernel
theorem dX8_minutes_35 : decode cX8_minutes 35 = .ok (.istore_n 2, 1) := by decide +kernel
theorem dX8_minutes_36 : decode cX8_minutes 36 = .ok (.aload_n 0, 1) := by decide +kernel
theorem dX8_minutes_37 : decode cX8_minutes 37 = .ok (.getfield 7, 3) := by decide +kernel
theorem dX8_minutes_40 : decode cX8_minutes 40 = .ok (.bipush 35, 2) := by decide +kernel
theorem dX8_minutes_42 : decode cX8_minutes 42 = .ok (.iload_n 1, 1) := by decide +kernel
theorem dX8_minutes_43 : decode cX8_minutes 43 = .ok (.iadd, 1) := by decide +kernel
theorem dX8_minutes_44 : decode cX8_minutes 44 = .ok (.iaload, 1) := by decide +kernel
theorem dX8_minutes_45 : decode cX8_minutes 45 = .ok (.iconst 1, 1) := by decide +kernel
theorem dX8_minutes_46 : decode cX8_minutes 46 = .ok (.if_icmp .ne 7, 3) := by decide +kernel
theorem dX8_minutes_49 : decode cX8_minutes 49 = .ok (.iconst (-1), 1) := by decide +kernel
theorem dX8_minutes_50 : decode cX8_minutes 50 = .ok (.goto 14, 3) := by decide +kernel
theorem dX8_minutes_53 : decode cX8_minutes 53 = .ok (.iload_n 2, 1) := by decide +kernel
theorem dX8_minutes_54 : decode cX8_minutes 54 = .ok (.ifCond .ne 9, 3) := by decide +kernel
theorem dX8_minutes_57 : decode cX8_minutes 57 = .ok (.sipush 1440, 3) := by decide +kernel
theorem dX8_minutes_60 : decode cX8_minutes 60 = .ok (.goto 4, 3) := by decide +kernel
theorem dX8_minutes_63 : decode cX8_minutes 63 = .ok (.iload_n 2, 1) := by decide +kernel
theorem dX8_minutes_64 : decode cX8_minutes 64 = .ok (.ireturn, 1) := by decide +kernel
