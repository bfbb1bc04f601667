theorem dX12_init_0 : decode cX12_init 0 = .ok (.aload_n 0, 1) := by decide +kernel
theorem dX12_init_1 : decode cX12_init 1 = .ok (.invokespecial 1, 3) := by decide +kernel
theorem dX12_init_4 : decode cX12_init 4 = .ok (.aload_n 0, 1) := by decide +kernel
theorem dX12_init_5 : decode cX12_init 5 = .ok (.sipush 1500, 3) := by decide +kernel
theorem dX12_init_8 : decode cX12_init 8 = .ok (.newarray .int, 2) := by decide +kernel
theorem dX12_init_10 : decode cX12_init 10 = .ok (.putfield 7, 3) := by decide +kernel
theorem dX12_init_13 : decode cX12_init 13 = .ok (.aload_n 0, 1) := by decide +kernel
theorem dX12_init_14 : decode cX12_init 14 = .ok (.sipush 1500, 3) := by decide +kernel
theorem dX12_init_17 : decode cX12_init 17 = .ok (.newarray .int, 2) := by decide +kernel
theorem dX12_init_19 : decode cX12_init 19 = .ok (.putfield 13, 3) := by decide +kernel
theorem dX12_init_22 : decode cX12_init 22 = .ok (.aload_n 0, 1) := by decide +kernel
theorem dX12_init_23 : decode cX12_init 23 = .ok (.sipush 1500, 3) := by decide +kernel
theorem dX12_init_26 : decode cX12_init 26 = .ok (.newarray .int, 2) := by decide +kernel
theorem dX12_init_28 : decode cX12_init 28 = .ok (.putfield 16, 3) := by decide +kernel
theorem dX12_init_31 : decode cX12_init 31 = .ok (.aload_n 0, 1) := by decide +kernel
theorem dX12_init_32 : decode cX12_init 32 = .ok (.sipush 1500, 3) := by decide +kernel
theorem dX12_init_35 : decode cX12_init 35 = .ok (.newarray .int, 2) := by decide +kernel
theorem dX12_init_37 : decode cX12_init 37 = .ok (.putfield 19, 3) := by decide +kernel
theorem dX12_init_40 : decode cX12_init 40 = .ok (.aload_n 0, 1) := by decide +kernel
theorem dX12_init_41 : decode cX12_init 41 = .ok (.sipush 1500, 3) := by decide +kernel
theorem dX12_init_44 : decode cX12_init 44 = .ok (.newarray .boolean, 2) := by decide +kernel
theorem dX12_init_46 : decode cX12_init 46 = .ok (.putfield 22, 3) := by decide +kernel
theorem dX12_init_49 : decode cX12_init 49 = .ok (.aload_n 0, 1) := by decide +kernel
theorem dX12_init_50 : decode cX12_init 50 = .ok (.sipush 24000, 3) := by decide +kernel
theorem dX12_init_53 : decode cX12_init 53 = .ok (.newarray .long, 2) := by decide +kernel
theorem dX12_init_55 : decode cX12_init 55 = .ok (.putfield 26, 3) := by decide +kernel
theorem dX12_init_58 : decode cX12_init 58 = .ok (.aload_n 0, 1) := by decide +kernel
theorem dX12_init_59 : decode cX12_init 59 = .ok (.iconst 1, 1) := by decide +kernel
theorem dX12_init_60 : decode cX12_init 60 = .ok (.putfield 30, 3) := by decide +kernel
theorem dX12_init_63 : decode cX12_init 63 = .ok (.aload_n 0, 1) := by decide +kernel
theorem dX12_init_64 : decode cX12_init 64 = .ok (.bipush 32, 2) := by decide +kernel
theorem dX12_init_66 : decode cX12_init 66 = .ok (.newarray .int, 2) := by decide +kernel
theorem dX12_init_68 : decode cX12_init 68 = .ok (.putfield 34, 3) := by decide +kernel
theorem dX12_init_71 : decode cX12_init 71 = .ok (.aload_n 0, 1) := by decide +kernel
theorem dX12_init_72 : decode cX12_init 72 = .ok (.sipush 256, 3) := by decide +kernel
theorem dX12_init_75 : decode cX12_init 75 = .ok (.newarray .int, 2) := by decide +kernel
theorem dX12_init_77 : decode cX12_init 77 = .ok (.putfield 37, 3) := by decide +kernel
theorem dX12_init_80 : decode cX12_init 80 = .ok (.aload_n 0, 1) := by decide +kernel
theorem dX12_init_81 : decode cX12_init 81 = .ok (.sipush 256, 3) := by decide +kernel
theorem dX12_init_84 : decode cX12_init 84 = .ok (.newarray .int, 2) := by decide +kernel
theorem dX12_init_86 : decode cX12_init 86 = .ok (.putfield 40, 3) := by decide +kernel
theorem dX12_init_89 : decode cX12_init 89 = .ok (.aload_n 0, 1) := by decide +kernel
theorem dX12_init_90 : decode cX12_init 90 = .ok (.sipush 256, 3) := by decide +kernel
theorem dX12_init_93 : decode cX12_init 93 = .ok (.newarray .int, 2) := by decide +kernel
theorem dX12_init_95 : decode cX12_init 95 = .ok (.putfield 43, 3) := by decide +kernel
theorem dX12_init_98 : decode cX12_init 98 = .ok (.aload_n 0, 1) := by decide +kernel
theorem dX12_init_99 : decode cX12_init 99 = .ok (.sipush 256, 3) := by decide +kernel
theorem dX12_init_102 : decode cX12_init 102 = .ok (.newarray .int, 2) := by decide +kernel
theorem dX12_init_104 : decode cX12_init 104 = .ok (.putfield 46, 3) := by decide +kernel
theorem dX12_init_107 : decode cX12_init 107 = .ok (.aload_n 0, 1) := by decide +kernel
theorem dX12_init_108 : decode cX12_init 108 = .ok (.bipush 6, 2) := by decide +kernel
theorem dX12_init_110 : decode cX12_init 110 = .ok (.newarray .int, 2) := by decide +kernel
theorem dX12_init_112 : decode cX12_init 112 = .ok (.putfield 49, 3) := by decide +kernel
theorem dX12_init_115 : decode cX12_init 115 = .ok (.aload_n 0, 1) := by decide +kernel
theorem dX12_init_116 : decode cX12_init 116 = .ok (.iconst 2, 1) := by decide +kernel
theorem dX12_init_117 : decode cX12_init 117 = .ok (.newarray .int, 2) := by decide +kernel
theorem dX12_init_119 : decode cX12_init 119 = .ok (.putfield 52, 3) := by decide +kernel
theorem dX12_init_122 : decode cX12_init 122 = .ok (.iconst 0, 1) := by decide +kernel
theorem dX12_init_123 : decode cX12_init 123 = .ok (.istore_n 1, 1) := by decide +kernel
theorem dX12_init_124 : decode cX12_init 124 = .ok (.iload_n 1, 1) := by decide +kernel
theorem dX12_init_125 : decode cX12_init 125 = .ok (.sipush 256, 3) := by decide +kernel
theorem dX12_init_128 : decode cX12_init 128 = .ok (.if_icmp .ge 17, 3) := by decide +kernel
theorem dX12_init_131 : decode cX12_init 131 = .ok (.aload_n 0, 1) := by decide +kernel
theorem dX12_init_132 : decode cX12_init 132 = .ok (.getfield 37, 3) := by decide +kernel
theorem dX12_init_135 : decode cX12_init 135 = .ok (.iload_n 1, 1) := by decide +kernel
theorem dX12_init_136 : decode cX12_init 136 = .ok (.bipush 40, 2) := by decide +kernel
theorem dX12_init_138 : decode cX12_init 138 = .ok (.iastore, 1) := by decide +kernel
theorem dX12_init_139 : decode cX12_init 139 = .ok (.iinc 1 1, 3) := by decide +kernel
theorem dX12_init_142 : decode cX12_init 142 = .ok (.goto (-18), 3) := by decide +kernel
theorem dX12_init_145 : decode cX12_init 145 = .ok (.return_, 1) := by decide +kernel
theorem dX12_thrown_0 : decode cX12_thrown 0 = .ok (.aload_n 0, 1) := by decide +kernel
theorem dX12_thrown_1 : decode cX12_thrown 1 = .ok (.getfield 55, 3) := by decide +kernel
theorem dX12_thrown_4 : decode cX12_thrown 4 = .ok (.ireturn, 1) := by decide +kernel
theorem dX12_make_0 : decode cX12_make 0 = .ok (.aload_n 0, 1) := by decide +kernel
theorem dX12_make_1 : decode cX12_make 1 = .ok (.getfield 30, 3) := by decide +kernel
theorem dX12_make_4 : decode cX12_make 4 = .ok (.aload_n 0, 1) := by decide +kernel
theorem dX12_make_5 : decode cX12_make 5 = .ok (.getfield 7, 3) := by decide +kernel
theorem dX12_make_8 : decode cX12_make 8 = .ok (.arraylength, 1) := by decide +kernel
theorem dX12_make_9 : decode cX12_make 9 = .ok (.if_icmp .eq 17, 3) := by decide +kernel
theorem dX12_make_12 : decode cX12_make 12 = .ok (.aload_n 0, 1) := by decide +kernel
theorem dX12_make_13 : decode cX12_make 13 = .ok (.getfield 58, 3) := by decide +kernel
theorem dX12_make_16 : decode cX12_make 16 = .ok (.iload_n 2, 1) := by decide +kernel
theorem dX12_make_17 : decode cX12_make 17 = .ok (.iadd, 1) := by decide +kernel
theorem dX12_make_18 : decode cX12_make 18 = .ok (.aload_n 0, 1) := by decide +kernel
theorem dX12_make_19 : decode cX12_make 19 = .ok (.getfield 26, 3) := by decide +kernel
theorem dX12_make_22 : decode cX12_make 22 = .ok (.arraylength, 1) := by decide +kernel
theorem dX12_make_23 : decode cX12_make 23 = .ok (.if_icmp .le 8, 3) := by decide +kernel
theorem dX12_make_26 : decode cX12_make 26 = .ok (.aload_n 0, 1) := by decide +kernel
theorem dX12_make_27 : decode cX12_make 27 = .ok (.iload_n 2, 1) := by decide +kernel
theorem dX12_make_28 : decode cX12_make 28 = .ok (.invokevirtual 61, 3) := by decide +kernel
theorem dX12_make_31 : decode cX12_make 31 = .ok (.aload_n 0, 1) := by decide +kernel
theorem dX12_make_32 : decode cX12_make 32 = .ok (.dup, 1) := by decide +kernel
theorem dX12_make_33 : decode cX12_make 33 = .ok (.getfield 30, 3) := by decide +kernel
theorem dX12_make_36 : decode cX12_make 36 = .ok (.dup_x1, 1) := by decide +kernel
theorem dX12_make_37 : decode cX12_make 37 = .ok (.iconst 1, 1) := by decide +kernel
theorem dX12_make_38 : decode cX12_make 38 = .ok (.iadd, 1) := by decide +kernel
theorem dX12_make_39 : decode cX12_make 39 = .ok (.putfield 30, 3) := by decide +kernel
theorem dX12_make_42 : decode cX12_make 42 = .ok (.istore_n 3, 1) := by decide +kernel
theorem dX12_make_43 : decode cX12_make 43 = .ok (.aload_n 0, 1) := by decide +kernel
theorem dX12_make_44 : decode cX12_make 44 = .ok (.getfield 7, 3) := by decide +kernel
theorem dX12_make_47 : decode cX12_make 47 = .ok (.iload_n 3, 1) := by decide +kernel
theorem dX12_make_48 : decode cX12_make 48 = .ok (.iload_n 1, 1) := by decide +kernel
theorem dX12_make_49 : decode cX12_make 49 = .ok (.iastore, 1) := by decide +kernel
theorem dX12_make_50 : decode cX12_make 50 = .ok (.aload_n 0, 1) := by decide +kernel
theorem dX12_make_51 : decode cX12_make 51 = .ok (.getfield 13, 3) := by decide +kernel
theorem dX12_make_54 : decode cX12_make 54 = .ok (.iload_n 3, 1) := by decide +kernel
theorem dX12_make_55 : decode cX12_make 55 = .ok (.aload_n 0, 1) := by decide +kernel
theorem dX12_make_56 : decode cX12_make 56 = .ok (.getfield 58, 3) := by decide +kernel
theorem dX12_make_59 : decode cX12_make 59 = .ok (.iastore, 1) := by decide +kernel
theorem dX12_make_60 : decode cX12_make 60 = .ok (.aload_n 0, 1) := by decide +kernel
theorem dX12_make_61 : decode cX12_make 61 = .ok (.getfield 16, 3) := by decide +kernel
theorem dX12_make_64 : decode cX12_make 64 = .ok (.iload_n 3, 1) := by decide +kernel
theorem dX12_make_65 : decode cX12_make 65 = .ok (.iload_n 2, 1) := by decide +kernel
theorem dX12_make_66 : decode cX12_make 66 = .ok (.iastore, 1) := by decide +kernel
theorem dX12_make_67 : decode cX12_make 67 = .ok (.iconst 0, 1) := by decide +kernel
theorem dX12_make_68 : decode cX12_make 68 = .ok (.istore 4, 2) := by decide +kernel
theorem dX12_make_70 : decode cX12_make 70 = .ok (.iload 4, 2) := by decide +kernel
theorem dX12_make_72 : decode cX12_make 72 = .ok (.iload_n 2, 1) := by decide +kernel
theorem dX12_make_73 : decode cX12_make 73 = .ok (.if_icmp .ge 22, 3) := by decide +kernel
theorem dX12_make_76 : decode cX12_make 76 = .ok (.aload_n 0, 1) := by decide +kernel
theorem dX12_make_77 : decode cX12_make 77 = .ok (.getfield 26, 3) := by decide +kernel
theorem dX12_make_80 : decode cX12_make 80 = .ok (.aload_n 0, 1) := by decide +kernel
theorem dX12_make_81 : decode cX12_make 81 = .ok (.getfield 58, 3) := by decide +kernel
theorem dX12_make_84 : decode cX12_make 84 = .ok (.iload 4, 2) := by decide +kernel
theorem dX12_make_86 : decode cX12_make 86 = .ok (.iadd, 1) := by decide +kernel
theorem dX12_make_87 : decode cX12_make 87 = .ok (.lconst 0, 1) := by decide +kernel
theorem dX12_make_88 : decode cX12_make 88 = .ok (.lastore, 1) := by decide +kernel
theorem dX12_make_89 : decode cX12_make 89 = .ok (.iinc 4 1, 3) := by decide +kernel
theorem dX12_make_92 : decode cX12_make 92 = .ok (.goto (-22), 3) := by decide +kernel
theorem dX12_make_95 : decode cX12_make 95 = .ok (.aload_n 0, 1) := by decide +kernel
theorem dX12_make_96 : decode cX12_make 96 = .ok (.dup, 1) := by decide +kernel
theorem dX12_make_97 : decode cX12_make 97 = .ok (.getfield 58, 3) := by decide +kernel
theorem dX12_make_100 : decode cX12_make 100 = .ok (.iload_n 2, 1) := by decide +kernel
theorem dX12_make_101 : decode cX12_make 101 = .ok (.iadd, 1) := by decide +kernel
theorem dX12_make_102 : decode cX12_make 102 = .ok (.putfield 58, 3) := by decide +kernel
theorem dX12_make_105 : decode cX12_make 105 = .ok (.iload_n 3, 1) := by decide +kernel
theorem dX12_make_106 : decode cX12_make 106 = .ok (.ireturn, 1) := by decide +kernel
theorem dX12_links_0 : decode cX12_links 0 = .ok (.aload_n 0, 1) := by decide +kernel
theorem dX12_links_1 : decode cX12_links 1 = .ok (.getfield 7, 3) := by decide +kernel
theorem dX12_links_4 : decode cX12_links 4 = .ok (.iload_n 1, 1) := by decide +kernel
theorem dX12_links_5 : decode cX12_links 5 = .ok (.iaload, 1) := by decide +kernel
theorem dX12_links_6 : decode cX12_links 6 = .ok (.bipush 8, 2) := by decide +kernel
theorem dX12_links_8 : decode cX12_links 8 = .ok (.if_icmp .lt 14, 3) := by decide +kernel
theorem dX12_links_11 : decode cX12_links 11 = .ok (.aload_n 0, 1) := by decide +kernel
theorem dX12_links_12 : decode cX12_links 12 = .ok (.getfield 7, 3) := by decide +kernel
theorem dX12_links_15 : decode cX12_links 15 = .ok (.iload_n 1, 1) := by decide +kernel
theorem dX12_links_16 : decode cX12_links 16 = .ok (.iaload, 1) := by decide +kernel
theorem dX12_links_17 : decode cX12_links 17 = .ok (.bipush 11, 2) := by decide +kernel
theorem dX12_links_19 : decode cX12_links 19 = .ok (.if_icmp .le 30, 3) := by decide +kernel
theorem dX12_links_22 : decode cX12_links 22 = .ok (.aload_n 0, 1) := by decide +kernel
theorem dX12_links_23 : decode cX12_links 23 = .ok (.getfield 7, 3) := by decide +kernel
theorem dX12_links_26 : decode cX12_links 26 = .ok (.iload_n 1, 1) := by decide +kernel
theorem dX12_links_27 : decode cX12_links 27 = .ok (.iaload, 1) := by decide +kernel
theorem dX12_links_28 : decode cX12_links 28 = .ok (.bipush 12, 2) := by decide +kernel
theorem dX12_links_30 : decode cX12_links 30 = .ok (.if_icmp .lt 23, 3) := by decide +kernel
theorem dX12_links_33 : decode cX12_links 33 = .ok (.aload_n 0, 1) := by decide +kernel
theorem dX12_links_34 : decode cX12_links 34 = .ok (.getfield 7, 3) := by decide +kernel
theorem dX12_links_37 : decode cX12_links 37 = .ok (.iload_n 1, 1) := by decide +kernel
theorem dX12_links_38 : decode cX12_links 38 = .ok (.iaload, 1) := by decide +kernel
theorem dX12_links_39 : decode cX12_links 39 = .ok (.bipush 14, 2) := by decide +kernel
theorem dX12_links_41 : decode cX12_links 41 = .ok (.if_icmp .gt 12, 3) := by decide +kernel
theorem dX12_links_44 : decode cX12_links 44 = .ok (.iload_n 2, 1) := by decide +kernel
theorem dX12_links_45 : decode cX12_links 45 = .ok (.iconst 1, 1) := by decide +kernel
theorem dX12_links_46 : decode cX12_links 46 = .ok (.if_icmp .ne 7, 3) := by decide +kernel
theorem dX12_links_49 : decode cX12_links 49 = .ok (.iconst 1, 1) := by decide +kernel
theorem dX12_links_50 : decode cX12_links 50 = .ok (.goto 4, 3) := by decide +kernel
theorem dX12_links_53 : decode cX12_links 53 = .ok (.iconst 0, 1) := by decide +kernel
theorem dX12_links_54 : decode cX12_links 54 = .ok (.ireturn, 1) := by decide +kernel
theorem dX12_room_0 : decode cX12_room 0 = .ok (.iconst 0, 1) := by decide +kernel
theorem dX12_room_1 : decode cX12_room 1 = .ok (.istore_n 2, 1) := by decide +kernel
theorem dX12_room_2 : decode cX12_room 2 = .ok (.iconst 0, 1) := by decide +kernel
theorem dX12_room_3 : decode cX12_room 3 = .ok (.istore_n 3, 1) := by decide +kernel
theorem dX12_room_4 : decode cX12_room 4 = .ok (.iload_n 3, 1) := by decide +kernel
theorem dX12_room_5 : decode cX12_room 5 = .ok (.aload_n 0, 1) := by decide +kernel
theorem dX12_room_6 : decode cX12_room 6 = .ok (.getfield 30, 3) := by decide +kernel
theorem dX12_room_9 : decode cX12_room 9 = .ok (.if_icmp .ge 16, 3) := by decide +kernel
theorem dX12_room_12 : decode cX12_room 12 = .ok (.aload_n 0, 1) := by decide +kernel
theorem dX12_room_13 : decode cX12_room 13 = .ok (.getfield 22, 3) := by decide +kernel
theorem dX12_room_16 : decode cX12_room 16 = .ok (.iload_n 3, 1) := by decide +kernel
theorem dX12_room_17 : decode cX12_room 17 = .ok (.iconst 0, 1) := by decide +kernel
theorem dX12_room_18 : decode cX12_room 18 = .ok (.bastore, 1) := by decide +kernel
theorem dX12_room_19 : decode cX12_room 19 = .ok (.iinc 3 1, 3) := by decide +kernel
theorem dX12_room_22 : decode cX12_room 22 = .ok (.goto (-18), 3) := by decide +kernel
theorem dX12_room_25 : decode cX12_room 25 = .ok (.iconst 0, 1) := by decide +kernel
theorem dX12_room_26 : decode cX12_room 26 = .ok (.istore_n 3, 1) := by decide +kernel
theorem dX12_room_27 : decode cX12_room 27 = .ok (.iload_n 3, 1) := by decide +kernel
theorem dX12_room_28 : decode cX12_room 28 = .ok (.bipush 32, 2) := by decide +kernel
theorem dX12_room_30 : decode cX12_room 30 = .ok (.if_icmp .ge 21, 3) := by decide +kernel
theorem dX12_room_33 : decode cX12_room 33 = .ok (.aload_n 0, 1) := by decide +kernel
theorem dX12_room_34 : decode cX12_room 34 = .ok (.aload_n 0, 1) := by decide +kernel
theorem dX12_room_35 : decode cX12_room 35 = .ok (.getfield 34, 3) := by decide +kernel
theorem dX12_room_38 : decode cX12_room 38 = .ok (.iload_n 3, 1) := by decide +kernel
theorem dX12_room_39 : decode cX12_room 39 = .ok (.iaload, 1) := by decide +kernel
theorem dX12_room_40 : decode cX12_room 40 = .ok (.iload_n 2, 1) := by decide +kernel
theorem dX12_room_41 : decode cX12_room 41 = .ok (.invokevirtual 65, 3) := by decide +kernel
theorem dX12_room_44 : decode cX12_room 44 = .ok (.istore_n 2, 1) := by decide +kernel
theorem dX12_room_45 : decode cX12_room 45 = .ok (.iinc 3 1, 3) := by decide +kernel
theorem dX12_room_48 : decode cX12_room 48 = .ok (.goto (-21), 3) := by decide +kernel
theorem dX12_room_51 : decode cX12_room 51 = .ok (.iconst 0, 1) := by decide +kernel
theorem dX12_room_52 : decode cX12_room 52 = .ok (.istore_n 3, 1) := by decide +kernel
theorem dX12_room_53 : decode cX12_room 53 = .ok (.iload_n 3, 1) := by decide +kernel
theorem dX12_room_54 : decode cX12_room 54 = .ok (.aload_n 0, 1) := by decide +kernel
theorem dX12_room_55 : decode cX12_room 55 = .ok (.getfield 69, 3) := by decide +kernel
theorem dX12_room_58 : decode cX12_room 58 = .ok (.if_icmp .ge 21, 3) := by decide +kernel
theorem dX12_room_61 : decode cX12_room 61 = .ok (.aload_n 0, 1) := by decide +kernel
theorem dX12_room_62 : decode cX12_room 62 = .ok (.aload_n 0, 1) := by decide +kernel
theorem dX12_room_63 : decode cX12_room 63 = .ok (.getfield 52, 3) := by decide +kernel
theorem dX12_room_66 : decode cX12_room 66 = .ok (.iload_n 3, 1) := by decide +kernel
theorem dX12_room_67 : decode cX12_room 67 = .ok (.iaload, 1) := by decide +kernel
theorem dX12_room_68 : decode cX12_room 68 = .ok (.iload_n 2, 1) := by decide +kernel
theorem dX12_room_69 : decode cX12_room 69 = .ok (.invokevirtual 65, 3) := by decide +kernel
theorem dX12_room_72 : decode cX12_room 72 = .ok (.istore_n 2, 1) := by decide +kernel
theorem dX12_room_73 : decode cX12_room 73 = .ok (.iinc 3 1, 3) := by decide +kernel
theorem dX12_room_76 : decode cX12_room 76 = .ok (.goto (-23), 3) := by decide +kernel
theorem dX12_room_79 : decode cX12_room 79 = .ok (.iload_n 2, 1) := by decide +kernel
theorem dX12_room_80 : decode cX12_room 80 = .ok (.ifCond .le 67, 3) := by decide +kernel
theorem dX12_room_83 : decode cX12_room 83 = .ok (.aload_n 0, 1) := by decide +kernel
theorem dX12_room_84 : decode cX12_room 84 = .ok (.getfield 19, 3) := by decide +kernel
theorem dX12_room_87 : decode cX12_room 87 = .ok (.iinc 2 (-1), 3) := by decide +kernel
theorem dX12_room_90 : decode cX12_room 90 = .ok (.iload_n 2, 1) := by decide +kernel
theorem dX12_room_91 : decode cX12_room 91 = .ok (.iaload, 1) := by decide +kernel
theorem dX12_room_92 : decode cX12_room 92 = .ok (.istore_n 3, 1) := by decide +kernel
theorem dX12_room_93 : decode cX12_room 93 = .ok (.iconst 0, 1) := by decide +kernel
theorem dX12_room_94 : decode cX12_room 94 = .ok (.istore 4, 2) := by decide +kernel
theorem dX12_room_96 : decode cX12_room 96 = .ok (.iload 4, 2) := by decide +kernel
theorem dX12_room_98 : decode cX12_room 98 = .ok (.aload_n 0, 1) := by decide +kernel
theorem dX12_room_99 : decode cX12_room 99 = .ok (.getfield 16, 3) := by decide +kernel
theorem dX12_room_102 : decode cX12_room 102 = .ok (.iload_n 3, 1) := by decide +kernel
theorem dX12_room_103 : decode cX12_room 103 = .ok (.iaload, 1) := by decide +kernel
theorem dX12_room_104 : decode cX12_room 104 = .ok (.if_icmp .ge 40, 3) := by decide +kernel
theorem dX12_room_107 : decode cX12_room 107 = .ok (.aload_n 0, 1) := by decide +kernel
theorem dX12_room_108 : decode cX12_room 108 = .ok (.iload_n 3, 1) := by decide +kernel
theorem dX12_room_109 : decode cX12_room 109 = .ok (.iload 4, 2) := by decide +kernel
theorem dX12_room_111 : decode cX12_room 111 = .ok (.invokevirtual 72, 3) := by decide +kernel
theorem dX12_room_114 : decode cX12_room 114 = .ok (.ifCond .eq 24, 3) := by decide +kernel
theorem dX12_room_117 : decode cX12_room 117 = .ok (.aload_n 0, 1) := by decide +kernel
theorem dX12_room_118 : decode cX12_room 118 = .ok (.aload_n 0, 1) := by decide +kernel
theorem dX12_room_119 : decode cX12_room 119 = .ok (.getfield 26, 3) := by decide +kernel
theorem dX12_room_122 : decode cX12_room 122 = .ok (.aload_n 0, 1) := by decide +kernel
theorem dX12_room_123 : decode cX12_room 123 = .ok (.getfield 13, 3) := by decide +kernel
theorem dX12_room_126 : decode cX12_room 126 = .ok (.iload_n 3, 1) := by decide +kernel
theorem dX12_room_127 : decode cX12_room 127 = .ok (.iaload, 1) := by decide +kernel
theorem dX12_room_128 : decode cX12_room 128 = .ok (.iload 4, 2) := by decide +kernel
theorem dX12_room_130 : decode cX12_room 130 = .ok (.iadd, 1) := by decide +kernel
theorem dX12_room_131 : decode cX12_room 131 = .ok (.laload, 1) := by decide +kernel
theorem dX12_room_132 : decode cX12_room 132 = .ok (.l2i, 1) := by decide +kernel
theorem dX12_room_133 : decode cX12_room 133 = .ok (.iload_n 2, 1) := by decide +kernel
theorem dX12_room_134 : decode cX12_room 134 = .ok (.invokevirtual 65, 3) := by decide +kernel
theorem dX12_room_137 : decode cX12_room 137 = .ok (.istore_n 2, 1) := by decide +kernel
theorem dX12_room_138 : decode cX12_room 138 = .ok (.iinc 4 1, 3) := by decide +kernel
theorem dX12_room_141 : decode cX12_room 141 = .ok (.goto (-45), 3) := by decide +kernel
theorem dX12_room_144 : decode cX12_room 144 = .ok (.goto (-65), 3) := by decide +kernel
theorem dX12_room_147 : decode cX12_room 147 = .ok (.iconst 1, 1) := by decide +kernel
theorem dX12_room_148 : decode cX12_room 148 = .ok (.istore_n 3, 1) := by decide +kernel
theorem dX12_room_149 : decode cX12_room 149 = .ok (.iconst 0, 1) := by decide +kernel
theorem dX12_room_150 : decode cX12_room 150 = .ok (.istore 4, 2) := by decide +kernel
theorem dX12_room_152 : decode cX12_room 152 = .ok (.iconst 1, 1) := by decide +kernel
theorem dX12_room_153 : decode cX12_room 153 = .ok (.istore 5, 2) := by decide +kernel
theorem dX12_room_155 : decode cX12_room 155 = .ok (.iload 5, 2) := by decide +kernel
theorem dX12_room_157 : decode cX12_room 157 = .ok (.aload_n 0, 1) := by decide +kernel
theorem dX12_room_158 : decode cX12_room 158 = .ok (.getfield 30, 3) := by decide +kernel
theorem dX12_room_161 : decode cX12_room 161 = .ok (.if_icmp .ge 45, 3) := by decide +kernel
theorem dX12_room_164 : decode cX12_room 164 = .ok (.aload_n 0, 1) := by decide +kernel
theorem dX12_room_165 : decode cX12_room 165 = .ok (.getfield 22, 3) := by decide +kernel
theorem dX12_room_168 : decode cX12_room 168 = .ok (.iload 5, 2) := by decide +kernel
theorem dX12_room_170 : decode cX12_room 170 = .ok (.baload, 1) := by decide +kernel
theorem dX12_room_171 : decode cX12_room 171 = .ok (.ifCond .ne 6, 3) := by decide +kernel
theorem dX12_room_174 : decode cX12_room 174 = .ok (.goto 26, 3) := by decide +kernel
theorem dX12_room_177 : decode cX12_room 177 = .ok (.aload_n 0, 1) := by decide +kernel
theorem dX12_room_178 : decode cX12_room 178 = .ok (.getfield 19, 3) := by decide +kernel
theorem dX12_room_181 : decode cX12_room 181 = .ok (.iload 5, 2) := by decide +kernel
theorem dX12_room_183 : decode cX12_room 183 = .ok (.iload_n 3, 1) := by decide +kernel
theorem dX12_room_184 : decode cX12_room 184 = .ok (.iastore, 1) := by decide +kernel
theorem dX12_room_185 : decode cX12_room 185 = .ok (.iinc 3 1, 3) := by decide +kernel
theorem dX12_room_188 : decode cX12_room 188 = .ok (.iload 4, 2) := by decide +kernel
theorem dX12_room_190 : decode cX12_room 190 = .ok (.aload_n 0, 1) := by decide +kernel
theorem dX12_room_191 : decode cX12_room 191 = .ok (.getfield 16, 3) := by decide +kernel
theorem dX12_room_194 : decode cX12_room 194 = .ok (.iload 5, 2) := by decide +kernel
theorem dX12_room_196 : decode cX12_room 196 = .ok (.iaload, 1) := by decide +kernel
theorem dX12_room_197 : decode cX12_room 197 = .ok (.iadd, 1) := by decide +kernel
theorem dX12_room_198 : decode cX12_room 198 = .ok (.istore 4, 2) := by decide +kernel
theorem dX12_room_200 : decode cX12_room 200 = .ok (.iinc 5 1, 3) := by decide +kernel
theorem dX12_room_203 : decode cX12_room 203 = .ok (.goto (-48), 3) := by decide +kernel
theorem dX12_room_206 : decode cX12_room 206 = .ok (.aload_n 0, 1) := by decide +kernel
theorem dX12_room_207 : decode cX12_room 207 = .ok (.getfield 19, 3) := by decide +kernel
theorem dX12_room_210 : decode cX12_room 210 = .ok (.iconst 0, 1) := by decide +kernel
theorem dX12_room_211 : decode cX12_room 211 = .ok (.iconst 0, 1) := by decide +kernel
theorem dX12_room_212 : decode cX12_room 212 = .ok (.iastore, 1) := by decide +kernel
theorem dX12_room_213 : decode cX12_room 213 = .ok (.iconst 2, 1) := by decide +kernel
theorem dX12_room_214 : decode cX12_room 214 = .ok (.iload_n 3, 1) := by decide +kernel
theorem dX12_room_215 : decode cX12_room 215 = .ok (.imul, 1) := by decide +kernel
theorem dX12_room_216 : decode cX12_room 216 = .ok (.aload_n 0, 1) := by decide +kernel
theorem dX12_room_217 : decode cX12_room 217 = .ok (.getfield 7, 3) := by decide +kernel
theorem dX12_room_220 : decode cX12_room 220 = .ok (.arraylength, 1) := by decide +kernel
theorem dX12_room_221 : decode cX12_room 221 = .ok (.if_icmp .gt 17, 3) := by decide +kernel
theorem dX12_room_224 : decode cX12_room 224 = .ok (.iconst 2, 1) := by decide +kernel
theorem dX12_room_225 : decode cX12_room 225 = .ok (.iload 4, 2) := by decide +kernel
theorem dX12_room_227 : decode cX12_room 227 = .ok (.iload_n 1, 1) := by decide +kernel
theorem dX12_room_228 : decode cX12_room 228 = .ok (.iadd, 1) := by decide +kernel
theorem dX12_room_229 : decode cX12_room 229 = .ok (.imul, 1) := by decide +kernel
theorem dX12_room_230 : decode cX12_room 230 = .ok (.aload_n 0, 1) := by decide +kernel
theorem dX12_room_231 : decode cX12_room 231 = .ok (.getfield 26, 3) := by decide +kernel
theorem dX12_room_234 : decode cX12_room 234 = .ok (.arraylength, 1) := by decide +kernel
theorem dX12_room_235 : decode cX12_room 235 = .ok (.if_icmp .le 7, 3) := by decide +kernel
theorem dX12_room_238 : decode cX12_room 238 = .ok (.iconst 1, 1) := by decide +kernel
theorem dX12_room_239 : decode cX12_room 239 = .ok (.goto 4, 3) := by decide +kernel
theorem dX12_room_242 : decode cX12_room 242 = .ok (.iconst 0, 1) := by decide +kernel
theorem dX12_room_243 : decode cX12_room 243 = .ok (.istore 5, 2) := by decide +kernel
theorem dX12_room_245 : decode cX12_room 245 = .ok (.iload 5, 2) := by decide +kernel
theorem dX12_room_247 : decode cX12_room 247 = .ok (.ifCond .eq 15, 3) := by decide +kernel
theorem dX12_room_250 : decode cX12_room 250 = .ok (.iconst 2, 1) := by decide +kernel
theorem dX12_room_251 : decode cX12_room 251 = .ok (.aload_n 0, 1) := by decide +kernel
theorem dX12_room_252 : decode cX12_room 252 = .ok (.getfield 7, 3) := by decide +kernel
theorem dX12_room_255 : decode cX12_room 255 = .ok (.arraylength, 1) := by decide +kernel
theorem dX12_room_256 : decode cX12_room 256 = .ok (.imul, 1) := by decide +kernel
theorem dX12_room_257 : decode cX12_room 257 = .ok (.newarray .int, 2) := by decide +kernel
theorem dX12_room_259 : decode cX12_room 259 = .ok (.goto 7, 3) := by decide +kernel
theorem dX12_room_262 : decode cX12_room 262 = .ok (.aload_n 0, 1) := by decide +kernel
theorem dX12_room_263 : decode cX12_room 263 = .ok (.getfield 7, 3) := by decide +kernel
theorem dX12_room_266 : decode cX12_room 266 = .ok (.astore 6, 2) := by decide +kernel
theorem dX12_room_268 : decode cX12_room 268 = .ok (.iload 5, 2) := by decide +kernel
theorem dX12_room_270 : decode cX12_room 270 = .ok (.ifCond .eq 15, 3) := by decide +kernel
theorem dX12_room_273 : decode cX12_room 273 = .ok (.iconst 2, 1) := by decide +kernel
theorem dX12_room_274 : decode cX12_room 274 = .ok (.aload_n 0, 1) := by decide +kernel
theorem dX12_room_275 : decode cX12_room 275 = .ok (.getfield 7, 3) := by decide +kernel
theorem dX12_room_278 : decode cX12_room 278 = .ok (.arraylength, 1) := by decide +kernel
theorem dX12_room_279 : decode cX12_room 279 = .ok (.imul, 1) := by decide +kernel
theorem dX12_room_280 : decode cX12_room 280 = .ok (.newarray .int, 2) := by decide +kernel
theorem dX12_room_282 : decode cX12_room 282 = .ok (.goto 7, 3) := by decide +kernel
theorem dX12_room_285 : decode cX12_room 285 = .ok (.aload_n 0, 1) := by decide +kernel
theorem dX12_room_286 : decode cX12_room 286 = .ok (.getfield 13, 3) := by decide +kernel
theorem dX12_room_289 : decode cX12_room 289 = .ok (.astore 7, 2) := by decide +kernel
theorem dX12_room_291 : decode cX12_room 291 = .ok (.iload 5, 2) := by decide +kernel
theorem dX12_room_293 : decode cX12_room 293 = .ok (.ifCond .eq 15, 3) := by decide +kernel
theorem dX12_room_296 : decode cX12_room 296 = .ok (.iconst 2, 1) := by decide +kernel
theorem dX12_room_297 : decode cX12_room 297 = .ok (.aload_n 0, 1) := by decide +kernel
theorem dX12_room_298 : decode cX12_room 298 = .ok (.getfield 7, 3) := by decide +kernel
theorem dX12_room_301 : decode cX12_room 301 = .ok (.arraylength, 1) := by decide +kernel
theorem dX12_room_302 : decode cX12_room 302 = .ok (.imul, 1) := by decide +kernel
theorem dX12_room_303 : decode cX12_room 303 = .ok (.newarray .int, 2) := by decide +kernel
theorem dX12_room_305 : decode cX12_room 305 = .ok (.goto 7, 3) := by decide +kernel
theorem dX12_room_308 : decode cX12_room 308 = .ok (.aload_n 0, 1) := by decide +kernel
theorem dX12_room_309 : decode cX12_room 309 = .ok (.getfield 16, 3) := by decide +kernel
theorem dX12_room_312 : decode cX12_room 312 = .ok (.astore 8, 2) := by decide +kernel
theorem dX12_room_314 : decode cX12_room 314 = .ok (.iload 5, 2) := by decide +kernel
theorem dX12_room_316 : decode cX12_room 316 = .ok (.ifCond .eq 17, 3) := by decide +kernel
theorem dX12_room_319 : decode cX12_room 319 = .ok (.iconst 2, 1) := by decide +kernel
theorem dX12_room_320 : decode cX12_room 320 = .ok (.aload_n 0, 1) := by decide +kernel
theorem dX12_room_321 : decode cX12_room 321 = .ok (.getfield 26, 3) := by decide +kernel
theorem dX12_room_324 : decode cX12_room 324 = .ok (.arraylength, 1) := by decide +kernel
theorem dX12_room_325 : decode cX12_room 325 = .ok (.imul, 1) := by decide +kernel
theorem dX12_room_326 : decode cX12_room 326 = .ok (.iload_n 1, 1) := by decide +kernel
theorem dX12_room_327 : decode cX12_room 327 = .ok (.iadd, 1) := by decide +kernel
theorem dX12_room_328 : decode cX12_room 328 = .ok (.newarray .long, 2) := by decide +kernel
theorem dX12_room_330 : decode cX12_room 330 = .ok (.goto 7, 3) := by decide +kernel
theorem dX12_room_333 : decode cX12_room 333 = .ok (.aload_n 0, 1) := by decide +kernel
theorem dX12_room_334 : decode cX12_room 334 = .ok (.getfield 26, 3) := by decide +kernel
theorem dX12_room_337 : decode cX12_room 337 = .ok (.astore 9, 2) := by decide +kernel
theorem dX12_room_339 : decode cX12_room 339 = .ok (.iconst 0, 1) := by decide +kernel
theorem dX12_room_340 : decode cX12_room 340 = .ok (.istore 10, 2) := by decide +kernel
theorem dX12_room_342 : decode cX12_room 342 = .ok (.iconst 1, 1) := by decide +kernel
theorem dX12_room_343 : decode cX12_room 343 = .ok (.istore 11, 2) := by decide +kernel
theorem dX12_room_345 : decode cX12_room 345 = .ok (.iload 11, 2) := by decide +kernel
theorem dX12_room_347 : decode cX12_room 347 = .ok (.aload_n 0, 1) := by decide +kernel
theorem dX12_room_348 : decode cX12_room 348 = .ok (.getfield 30, 3) := by decide +kernel
theorem dX12_room_351 : decode cX12_room 351 = .ok (.if_icmp .ge 174, 3) := by decide +kernel
theorem dX12_room_354 : decode cX12_room 354 = .ok (.aload_n 0, 1) := by decide +kernel
theorem dX12_room_355 : decode cX12_room 355 = .ok (.getfield 22, 3) := by decide +kernel
theorem dX12_room_358 : decode cX12_room 358 = .ok (.iload 11, 2) := by decide +kernel
theorem dX12_room_360 : decode cX12_room 360 = .ok (.baload, 1) := by decide +kernel
theorem dX12_room_361 : decode cX12_room 361 = .ok (.ifCond .ne 6, 3) := by decide +kernel
theorem dX12_room_364 : decode cX12_room 364 = .ok (.goto 155, 3) := by decide +kernel
theorem dX12_room_367 : decode cX12_room 367 = .ok (.aload_n 0, 1) := by decide +kernel
theorem dX12_room_368 : decode cX12_room 368 = .ok (.getfield 13, 3) := by decide +kernel
theorem dX12_room_371 : decode cX12_room 371 = .ok (.iload 11, 2) := by decide +kernel
theorem dX12_room_373 : decode cX12_room 373 = .ok (.iaload, 1) := by decide +kernel
theorem dX12_room_374 : decode cX12_room 374 = .ok (.istore 12, 2) := by decide +kernel
theorem dX12_room_376 : decode cX12_room 376 = .ok (.aload_n 0, 1) := by decide +kernel
theorem dX12_room_377 : decode cX12_room 377 = .ok (.getfield 16, 3) := by decide +kernel
theorem dX12_room_380 : decode cX12_room 380 = .ok (.iload 11, 2) := by decide +kernel
theorem dX12_room_382 : decode cX12_room 382 = .ok (.iaload, 1) := by decide +kernel
theorem dX12_room_383 : decode cX12_room 383 = .ok (.istore 13, 2) := by decide +kernel
theorem dX12_room_385 : decode cX12_room 385 = .ok (.aload_n 0, 1) := by decide +kernel
theorem dX12_room_386 : decode cX12_room 386 = .ok (.getfield 7, 3) := by decide +kernel
theorem dX12_room_389 : decode cX12_room 389 = .ok (.iload 11, 2) := by decide +kernel
theorem dX12_room_391 : decode cX12_room 391 = .ok (.iaload, 1) := by decide +kernel
theorem dX12_room_392 : decode cX12_room 392 = .ok (.istore 14, 2) := by decide +kernel
theorem dX12_room_394 : decode cX12_room 394 = .ok (.aload_n 0, 1) := by decide +kernel
theorem dX12_room_395 : decode cX12_room 395 = .ok (.getfield 19, 3) := by decide +kernel
theorem dX12_room_398 : decode cX12_room 398 = .ok (.iload 11, 2) := by decide +kernel
theorem dX12_room_400 : decode cX12_room 400 = .ok (.iaload, 1) := by decide +kernel
theorem dX12_room_401 : decode cX12_room 401 = .ok (.istore 15, 2) := by decide +kernel
theorem dX12_room_403 : decode cX12_room 403 = .ok (.iconst 0, 1) := by decide +kernel
theorem dX12_room_404 : decode cX12_room 404 = .ok (.istore 16, 2) := by decide +kernel
theorem dX12_room_406 : decode cX12_room 406 = .ok (.iload 16, 2) := by decide +kernel
theorem dX12_room_408 : decode cX12_room 408 = .ok (.iload 13, 2) := by decide +kernel
theorem dX12_room_410 : decode cX12_room 410 = .ok (.if_icmp .ge 81, 3) := by decide +kernel
theorem dX12_room_413 : decode cX12_room 413 = .ok (.aload 9, 2) := by decide +kernel
theorem dX12_room_415 : decode cX12_room 415 = .ok (.iload 10, 2) := by decide +kernel
theorem dX12_room_417 : decode cX12_room 417 = .ok (.iload 16, 2) := by decide +kernel
theorem dX12_room_419 : decode cX12_room 419 = .ok (.iadd, 1) := by decide +kernel
theorem dX12_room_420 : decode cX12_room 420 = .ok (.iload 14, 2) := by decide +kernel
theorem dX12_room_422 : decode cX12_room 422 = .ok (.bipush 8, 2) := by decide +kernel
theorem dX12_room_424 : decode cX12_room 424 = .ok (.if_icmp .lt 10, 3) := by decide +kernel
theorem dX12_room_427 : decode cX12_room 427 = .ok (.iload 14, 2) := by decide +kernel
theorem dX12_room_429 : decode cX12_room 429 = .ok (.bipush 11, 2) := by decide +kernel
theorem dX12_room_431 : decode cX12_room 431 = .ok (.if_icmp .le 23, 3) := by decide +kernel
theorem dX12_room_434 : decode cX12_room 434 = .ok (.iload 14, 2) := by decide +kernel
theorem dX12_room_436 : decode cX12_room 436 = .ok (.bipush 12, 2) := by decide +kernel
theorem dX12_room_438 : decode cX12_room 438 = .ok (.if_icmp .lt 36, 3) := by decide +kernel
theorem dX12_room_441 : decode cX12_room 441 = .ok (.iload 14, 2) := by decide +kernel
theorem dX12_room_443 : decode cX12_room 443 = .ok (.bipush 14, 2) := by decide +kernel
theorem dX12_room_445 : decode cX12_room 445 = .ok (.if_icmp .gt 29, 3) := by decide +kernel
theorem dX12_room_448 : decode cX12_room 448 = .ok (.iload 16, 2) := by decide +kernel
theorem dX12_room_450 : decode cX12_room 450 = .ok (.iconst 1, 1) := by decide +kernel
theorem dX12_room_451 : decode cX12_room 451 = .ok (.if_icmp .ne 23, 3) := by decide +kernel
theorem dX12_room_454 : decode cX12_room 454 = .ok (.aload_n 0, 1) := by decide +kernel
theorem dX12_room_455 : decode cX12_room 455 = .ok (.getfield 19, 3) := by decide +kernel
theorem dX12_room_458 : decode cX12_room 458 = .ok (.aload_n 0, 1) := by decide +kernel
theorem dX12_room_459 : decode cX12_room 459 = .ok (.getfield 26, 3) := by decide +kernel
theorem dX12_room_462 : decode cX12_room 462 = .ok (.iload 12, 2) := by decide +kernel
theorem dX12_room_464 : decode cX12_room 464 = .ok (.iload 16, 2) := by decide +kernel
theorem dX12_room_466 : decode cX12_room 466 = .ok (.iadd, 1) := by decide +kernel
theorem dX12_room_467 : decode cX12_room 467 = .ok (.laload, 1) := by decide +kernel
theorem dX12_room_468 : decode cX12_room 468 = .ok (.l2i, 1) := by decide +kernel
theorem dX12_room_469 : decode cX12_room 469 = .ok (.iaload, 1) := by decide +kernel
theorem dX12_room_470 : decode cX12_room 470 = .ok (.i2l, 1) := by decide +kernel
theorem dX12_room_471 : decode cX12_room 471 = .ok (.goto 13, 3) := by decide +kernel
theorem dX12_room_474 : decode cX12_room 474 = .ok (.aload_n 0, 1) := by decide +kernel
theorem dX12_room_475 : decode cX12_room 475 = .ok (.getfield 26, 3) := by decide +kernel
theorem dX12_room_478 : decode cX12_room 478 = .ok (.iload 12, 2) := by decide +kernel
theorem dX12_room_480 : decode cX12_room 480 = .ok (.iload 16, 2) := by decide +kernel
theorem dX12_room_482 : decode cX12_room 482 = .ok (.iadd, 1) := by decide +kernel
theorem dX12_room_483 : decode cX12_room 483 = .ok (.laload, 1) := by decide +kernel
theorem dX12_room_484 : decode cX12_room 484 = .ok (.lastore, 1) := by decide +kernel
theorem dX12_room_485 : decode cX12_room 485 = .ok (.iinc 16 1, 3) := by decide +kernel
theorem dX12_room_488 : decode cX12_room 488 = .ok (.goto (-82), 3) := by decide +kernel
theorem dX12_room_491 : decode cX12_room 491 = .ok (.aload 6, 2) := by decide +kernel
theorem dX12_room_493 : decode cX12_room 493 = .ok (.iload 15, 2) := by decide +kernel
theorem dX12_room_495 : decode cX12_room 495 = .ok (.iload 14, 2) := by decide +kernel
theorem dX12_room_497 : decode cX12_room 497 = .ok (.iastore, 1) := by decide +kernel
theorem dX12_room_498 : decode cX12_room 498 = .ok (.aload 7, 2) := by decide +kernel
theorem dX12_room_500 : decode cX12_room 500 = .ok (.iload 15, 2) := by decide +kernel
theorem dX12_room_502 : decode cX12_room 502 = .ok (.iload 10, 2) := by decide +kernel
theorem dX12_room_504 : decode cX12_room 504 = .ok (.iastore, 1) := by decide +kernel
theorem dX12_room_505 : decode cX12_room 505 = .ok (.aload 8, 2) := by decide +kernel
theorem dX12_room_507 : decode cX12_room 507 = .ok (.iload 15, 2) := by decide +kernel
theorem dX12_room_509 : decode cX12_room 509 = .ok (.iload 13, 2) := by decide +kernel
theorem dX12_room_511 : decode cX12_room 511 = .ok (.iastore, 1) := by decide +kernel
theorem dX12_room_512 : decode cX12_room 512 = .ok (.iload 10, 2) := by decide +kernel
theorem dX12_room_514 : decode cX12_room 514 = .ok (.iload 13, 2) := by decide +kernel
theorem dX12_room_516 : decode cX12_room 516 = .ok (.iadd, 1) := by decide +kernel
theorem dX12_room_517 : decode cX12_room 517 = .ok (.istore 10, 2) := by decide +kernel
theorem dX12_room_519 : decode cX12_room 519 = .ok (.iinc 11 1, 3) := by decide +kernel
theorem dX12_room_522 : decode cX12_room 522 = .ok (.goto (-177), 3) := by decide +kernel
theorem dX12_room_525 : decode cX12_room 525 = .ok (.iconst 0, 1) := by decide +kernel
theorem dX12_room_526 : decode cX12_room 526 = .ok (.istore 11, 2) := by decide +kernel
theorem dX12_room_528 : decode cX12_room 528 = .ok (.iload 11, 2) := by decide +kernel
theorem dX12_room_530 : decode cX12_room 530 = .ok (.bipush 32, 2) := by decide +kernel
theorem dX12_room_532 : decode cX12_room 532 = .ok (.if_icmp .ge 28, 3) := by decide +kernel
theorem dX12_room_535 : decode cX12_room 535 = .ok (.aload_n 0, 1) := by decide +kernel
theorem dX12_room_536 : decode cX12_room 536 = .ok (.getfield 34, 3) := by decide +kernel
theorem dX12_room_539 : decode cX12_room 539 = .ok (.iload 11, 2) := by decide +kernel
theorem dX12_room_541 : decode cX12_room 541 = .ok (.aload_n 0, 1) := by decide +kernel
theorem dX12_room_542 : decode cX12_room 542 = .ok (.getfield 19, 3) := by decide +kernel
theorem dX12_room_545 : decode cX12_room 545 = .ok (.aload_n 0, 1) := by decide +kernel
theorem dX12_room_546 : decode cX12_room 546 = .ok (.getfield 34, 3) := by decide +kernel
theorem dX12_room_549 : decode cX12_room 549 = .ok (.iload 11, 2) := by decide +kernel
theorem dX12_room_551 : decode cX12_room 551 = .ok (.iaload, 1) := by decide +kernel
theorem dX12_room_552 : decode cX12_room 552 = .ok (.iaload, 1) := by decide +kernel
theorem dX12_room_553 : decode cX12_room 553 = .ok (.iastore, 1) := by decide +kernel
theorem dX12_room_554 : decode cX12_room 554 = .ok (.iinc 11 1, 3) := by decide +kernel
theorem dX12_room_557 : decode cX12_room 557 = .ok (.goto (-29), 3) := by decide +kernel
theorem dX12_room_560 : decode cX12_room 560 = .ok (.iconst 0, 1) := by decide +kernel
theorem dX12_room_561 : decode cX12_room 561 = .ok (.istore 11, 2) := by decide +kernel
theorem dX12_room_563 : decode cX12_room 563 = .ok (.iload 11, 2) := by decide +kernel
theorem dX12_room_565 : decode cX12_room 565 = .ok (.aload_n 0, 1) := by decide +kernel
theorem dX12_room_566 : decode cX12_room 566 = .ok (.getfield 69, 3) := by decide +kernel
theorem dX12_room_569 : decode cX12_room 569 = .ok (.if_icmp .ge 28, 3) := by decide +kernel
theorem dX12_room_572 : decode cX12_room 572 = .ok (.aload_n 0, 1) := by decide +kernel
theorem dX12_room_573 : decode cX12_room 573 = .ok (.getfield 52, 3) := by decide +kernel
theorem dX12_room_576 : decode cX12_room 576 = .ok (.iload 11, 2) := by decide +kernel
theorem dX12_room_578 : decode cX12_room 578 = .ok (.aload_n 0, 1) := by decide +kernel
theorem dX12_room_579 : decode cX12_room 579 = .ok (.getfield 19, 3) := by decide +kernel
theorem dX12_room_582 : decode cX12_room 582 = .ok (.aload_n 0, 1) := by decide +kernel
theorem dX12_room_583 : decode cX12_room 583 = .ok (.getfield 52, 3) := by decide +kernel
theorem dX12_room_586 : decode cX12_room 586 = .ok (.iload 11, 2) := by decide +kernel
theorem dX12_room_588 : decode cX12_room 588 = .ok (.iaload, 1) := by decide +kernel
theorem dX12_room_589 : decode cX12_room 589 = .ok (.iaload, 1) := by decide +kernel
theorem dX12_room_590 : decode cX12_room 590 = .ok (.iastore, 1) := by decide +kernel
theorem dX12_room_591 : decode cX12_room 591 = .ok (.iinc 11 1, 3) := by decide +kernel
theorem dX12_room_594 : decode cX12_room 594 = .ok (.goto (-31), 3) := by decide +kernel
theorem dX12_room_597 : decode cX12_room 597 = .ok (.aload_n 0, 1) := by decide +kernel
theorem dX12_room_598 : decode cX12_room 598 = .ok (.iload_n 3, 1) := by decide +kernel
theorem dX12_room_599 : decode cX12_room 599 = .ok (.putfield 30, 3) := by decide +kernel
theorem dX12_room_602 : decode cX12_room 602 = .ok (.aload_n 0, 1) := by decide +kernel
theorem dX12_room_603 : decode cX12_room 603 = .ok (.iload 10, 2) := by decide +kernel
theorem dX12_room_605 : decode cX12_room 605 = .ok (.putfield 58, 3) := by decide +kernel
theorem dX12_room_608 : decode cX12_room 608 = .ok (.aload_n 0, 1) := by decide +kernel
theorem dX12_room_609 : decode cX12_room 609 = .ok (.aload 6, 2) := by decide +kernel
theorem dX12_room_611 : decode cX12_room 611 = .ok (.putfield 7, 3) := by decide +kernel
theorem dX12_room_614 : decode cX12_room 614 = .ok (.aload_n 0, 1) := by decide +kernel
theorem dX12_room_615 : decode cX12_room 615 = .ok (.aload 7, 2) := by decide +kernel
theorem dX12_room_617 : decode cX12_room 617 = .ok (.putfield 13, 3) := by decide +kernel
theorem dX12_room_620 : decode cX12_room 620 = .ok (.aload_n 0, 1) := by decide +kernel
theorem dX12_room_621 : decode cX12_room 621 = .ok (.aload 8, 2) := by decide +kernel
theorem dX12_room_623 : decode cX12_room 623 = .ok (.putfield 16, 3) := by decide +kernel
theorem dX12_room_626 : decode cX12_room 626 = .ok (.aload_n 0, 1) := by decide +kernel
theorem dX12_room_627 : decode cX12_room 627 = .ok (.aload 9, 2) := by decide +kernel
theorem dX12_room_629 : decode cX12_room 629 = .ok (.putfield 26, 3) := by decide +kernel
theorem dX12_room_632 : decode cX12_room 632 = .ok (.iload 5, 2) := by decide +kernel
theorem dX12_room_634 : decode cX12_room 634 = .ok (.ifCond .eq 25, 3) := by decide +kernel
theorem dX12_room_637 : decode cX12_room 637 = .ok (.aload_n 0, 1) := by decide +kernel
theorem dX12_room_638 : decode cX12_room 638 = .ok (.aload_n 0, 1) := by decide +kernel
theorem dX12_room_639 : decode cX12_room 639 = .ok (.getfield 7, 3) := by decide +kernel
theorem dX12_room_642 : decode cX12_room 642 = .ok (.arraylength, 1) := by decide +kernel
theorem dX12_room_643 : decode cX12_room 643 = .ok (.newarray .int, 2) := by decide +kernel
theorem dX12_room_645 : decode cX12_room 645 = .ok (.putfield 19, 3) := by decide +kernel
theorem dX12_room_648 : decode cX12_room 648 = .ok (.aload_n 0, 1) := by decide +kernel
theorem dX12_room_649 : decode cX12_room 649 = .ok (.aload_n 0, 1) := by decide +kernel
theorem dX12_room_650 : decode cX12_room 650 = .ok (.getfield 7, 3) := by decide +kernel
theorem dX12_room_653 : decode cX12_room 653 = .ok (.arraylength, 1) := by decide +kernel
theorem dX12_room_654 : decode cX12_room 654 = .ok (.newarray .boolean, 2) := by decide +kernel
theorem dX12_room_656 : decode cX12_room 656 = .ok (.putfield 22, 3) := by decide +kernel
theorem dX12_room_659 : decode cX12_room 659 = .ok (.return_, 1) := by decide +kernel
theorem dX12_reach_0 : decode cX12_reach 0 = .ok (.iload_n 1, 1) := by decide +kernel
theorem dX12_reach_1 : decode cX12_reach 1 = .ok (.ifCond .eq 12, 3) := by decide +kernel
theorem dX12_reach_4 : decode cX12_reach 4 = .ok (.aload_n 0, 1) := by decide +kernel
theorem dX12_reach_5 : decode cX12_reach 5 = .ok (.getfield 22, 3) := by decide +kernel
theorem dX12_reach_8 : decode cX12_reach 8 = .ok (.iload_n 1, 1) := by decide +kernel
theorem dX12_reach_9 : decode cX12_reach 9 = .ok (.baload, 1) := by decide +kernel
theorem dX12_reach_10 : decode cX12_reach 10 = .ok (.ifCond .eq 5, 3) := by decide +kernel
theorem dX12_reach_13 : decode cX12_reach 13 = .ok (.iload_n 2, 1) := by decide +kernel
theorem dX12_reach_14 : decode cX12_reach 14 = .ok (.ireturn, 1) := by decide +kernel
theorem dX12_reach_15 : decode cX12_reach 15 = .ok (.aload_n 0, 1) := by decide +kernel
theorem dX12_reach_16 : decode cX12_reach 16 = .ok (.getfield 22, 3) := by decide +kernel
theorem dX12_reach_19 : decode cX12_reach 19 = .ok (.iload_n 1, 1) := by decide +kernel
theorem dX12_reach_20 : decode cX12_reach 20 = .ok (.iconst 1, 1) := by decide +kernel
theorem dX12_reach_21 : decode cX12_reach 21 = .ok (.bastore, 1) := by decide +kernel
theorem dX12_reach_22 : decode cX12_reach 22 = .ok (.aload_n 0, 1) := by decide +kernel
theorem dX12_reach_23 : decode cX12_reach 23 = .ok (.getfield 19, 3) := by decide +kernel
theorem dX12_reach_26 : decode cX12_reach 26 = .ok (.iload_n 2, 1) := by decide +kernel
theorem dX12_reach_27 : decode cX12_reach 27 = .ok (.iload_n 1, 1) := by decide +kernel
theorem dX12_reach_28 : decode cX12_reach 28 = .ok (.iastore, 1) := by decide +kernel
theorem dX12_reach_29 : decode cX12_reach 29 = .ok (.iload_n 2, 1) := by decide +kernel
theorem dX12_reach_30 : decode cX12_reach 30 = .ok (.iconst 1, 1) := by decide +kernel
theorem dX12_reach_31 : decode cX12_reach 31 = .ok (.iadd, 1) := by decide +kernel
theorem dX12_reach_32 : decode cX12_reach 32 = .ok (.ireturn, 1) := by decide +kernel
theorem dX12_cell_0 : decode cX12_cell 0 = .ok (.aload_n 0, 1) := by decide +kernel
theorem dX12_cell_1 : decode cX12_cell 1 = .ok (.getfield 26, 3) := by decide +kernel
theorem dX12_cell_4 : decode cX12_cell 4 = .ok (.aload_n 0, 1) := by decide +kernel
theorem dX12_cell_5 : decode cX12_cell 5 = .ok (.getfield 13, 3) := by decide +kernel
theorem dX12_cell_8 : decode cX12_cell 8 = .ok (.iload_n 1, 1) := by decide +kernel
theorem dX12_cell_9 : decode cX12_cell 9 = .ok (.iaload, 1) := by decide +kernel
theorem dX12_cell_10 : decode cX12_cell 10 = .ok (.iload_n 2, 1) := by decide +kernel
theorem dX12_cell_11 : decode cX12_cell 11 = .ok (.iadd, 1) := by decide +kernel
theorem dX12_cell_12 : decode cX12_cell 12 = .ok (.laload, 1) := by decide +kernel
theorem dX12_cell_13 : decode cX12_cell 13 = .ok (.lreturn, 1) := by decide +kernel
theorem dX12_put_0 : decode cX12_put 0 = .ok (.aload_n 0, 1) := by decide +kernel
theorem dX12_put_1 : decode cX12_put 1 = .ok (.getfield 26, 3) := by decide +kernel
theorem dX12_put_4 : decode cX12_put 4 = .ok (.aload_n 0, 1) := by decide +kernel
theorem dX12_put_5 : decode cX12_put 5 = .ok (.getfield 13, 3) := by decide +kernel
theorem dX12_put_8 : decode cX12_put 8 = .ok (.iload_n 1, 1) := by decide +kernel
theorem dX12_put_9 : decode cX12_put 9 = .ok (.iaload, 1) := by decide +kernel
theorem dX12_put_10 : decode cX12_put 10 = .ok (.iload_n 2, 1) := by decide +kernel
theorem dX12_put_11 : decode cX12_put 11 = .ok (.iadd, 1) := by decide +kernel
theorem dX12_put_12 : decode cX12_put 12 = .ok (.lload_n 3, 1) := by decide +kernel
theorem dX12_put_13 : decode cX12_put 13 = .ok (.lastore, 1) := by decide +kernel
theorem dX12_put_14 : decode cX12_put 14 = .ok (.return_, 1) := by decide +kernel
theorem dX12_fails_0 : decode cX12_fails 0 = .ok (.aload_n 0, 1) := by decide +kernel
theorem dX12_fails_1 : decode cX12_fails 1 = .ok (.iload_n 1, 1) := by decide +kernel
theorem dX12_fails_2 : decode cX12_fails 2 = .ok (.putfield 76, 3) := by decide +kernel
theorem dX12_fails_5 : decode cX12_fails 5 = .ok (.iconst 0, 1) := by decide +kernel
theorem dX12_fails_6 : decode cX12_fails 6 = .ok (.ireturn, 1) := by decide +kernel
theorem dX12_place_0 : decode cX12_place 0 = .ok (.iload_n 1, 1) := by decide +kernel
theorem dX12_place_1 : decode cX12_place 1 = .ok (.ifCond .lt 9, 3) := by decide +kernel
theorem dX12_place_4 : decode cX12_place 4 = .ok (.iload_n 1, 1) := by decide +kernel
theorem dX12_place_5 : decode cX12_place 5 = .ok (.bipush 32, 2) := by decide +kernel
theorem dX12_place_7 : decode cX12_place 7 = .ok (.if_icmp .lt 11, 3) := by decide +kernel
theorem dX12_place_10 : decode cX12_place 10 = .ok (.aload_n 0, 1) := by decide +kernel
theorem dX12_place_11 : decode cX12_place 11 = .ok (.iconst 2, 1) := by decide +kernel
theorem dX12_place_12 : decode cX12_place 12 = .ok (.invokevirtual 79, 3) := by decide +kernel
theorem dX12_place_15 : decode cX12_place 15 = .ok (.ifCond .eq 7, 3) := by decide +kernel
theorem dX12_place_18 : decode cX12_place 18 = .ok (.iconst 1, 1) := by decide +kernel
theorem dX12_place_19 : decode cX12_place 19 = .ok (.goto 4, 3) := by decide +kernel
theorem dX12_place_22 : decode cX12_place 22 = .ok (.iconst 0, 1) := by decide +kernel
theorem dX12_place_23 : decode cX12_place 23 = .ok (.ireturn, 1) := by decide +kernel
theorem dX12_need_0 : decode cX12_need 0 = .ok (.aload_n 0, 1) := by decide +kernel
theorem dX12_need_1 : decode cX12_need 1 = .ok (.getfield 34, 3) := by decide +kernel
theorem dX12_need_4 : decode cX12_need 4 = .ok (.iload_n 1, 1) := by decide +kernel
theorem dX12_need_5 : decode cX12_need 5 = .ok (.iaload, 1) := by decide +kernel
theorem dX12_need_6 : decode cX12_need 6 = .ok (.ifCond .ne 11, 3) := by decide +kernel
theorem dX12_need_9 : decode cX12_need 9 = .ok (.aload_n 0, 1) := by decide +kernel
theorem dX12_need_10 : decode cX12_need 10 = .ok (.iconst 1, 1) := by decide +kernel
theorem dX12_need_11 : decode cX12_need 11 = .ok (.invokevirtual 79, 3) := by decide +kernel
theorem dX12_need_14 : decode cX12_need 14 = .ok (.ifCond .eq 7, 3) := by decide +kernel
theorem dX12_need_17 : decode cX12_need 17 = .ok (.iconst 1, 1) := by decide +kernel
theorem dX12_need_18 : decode cX12_need 18 = .ok (.goto 4, 3) := by decide +kernel
theorem dX12_need_21 : decode cX12_need 21 = .ok (.iconst 0, 1) := by decide +kernel
theorem dX12_need_22 : decode cX12_need 22 = .ok (.ireturn, 1) := by decide +kernel
theorem dX12_index_0 : decode cX12_index 0 = .ok (.iload_n 2, 1) := by decide +kernel
theorem dX12_index_1 : decode cX12_index 1 = .ok (.ifCond .lt 13, 3) := by decide +kernel
theorem dX12_index_4 : decode cX12_index 4 = .ok (.iload_n 2, 1) := by decide +kernel
theorem dX12_index_5 : decode cX12_index 5 = .ok (.aload_n 0, 1) := by decide +kernel
theorem dX12_index_6 : decode cX12_index 6 = .ok (.getfield 16, 3) := by decide +kernel
theorem dX12_index_9 : decode cX12_index 9 = .ok (.iload_n 1, 1) := by decide +kernel
theorem dX12_index_10 : decode cX12_index 10 = .ok (.iaload, 1) := by decide +kernel
theorem dX12_index_11 : decode cX12_index 11 = .ok (.if_icmp .lt 11, 3) := by decide +kernel
theorem dX12_index_14 : decode cX12_index 14 = .ok (.aload_n 0, 1) := by decide +kernel
theorem dX12_index_15 : decode cX12_index 15 = .ok (.iconst 2, 1) := by decide +kernel
theorem dX12_index_16 : decode cX12_index 16 = .ok (.invokevirtual 79, 3) := by decide +kernel
theorem dX12_index_19 : decode cX12_index 19 = .ok (.ifCond .eq 7, 3) := by decide +kernel
theorem dX12_index_22 : decode cX12_index 22 = .ok (.iconst 1, 1) := by decide +kernel
theorem dX12_index_23 : decode cX12_index 23 = .ok (.goto 4, 3) := by decide +kernel
theorem dX12_index_26 : decode cX12_index 26 = .ok (.iconst 0, 1) := by decide +kernel
theorem dX12_index_27 : decode cX12_index 27 = .ok (.ireturn, 1) := by decide +kernel
theorem dX12_size_0 : decode cX12_size 0 = .ok (.iload_n 1, 1) := by decide +kernel
theorem dX12_size_1 : decode cX12_size 1 = .ok (.ifCond .ge 11, 3) := by decide +kernel
theorem dX12_size_4 : decode cX12_size 4 = .ok (.aload_n 0, 1) := by decide +kernel
theorem dX12_size_5 : decode cX12_size 5 = .ok (.iconst 4, 1) := by decide +kernel
theorem dX12_size_6 : decode cX12_size 6 = .ok (.invokevirtual 79, 3) := by decide +kernel
theorem dX12_size_9 : decode cX12_size 9 = .ok (.ifCond .eq 7, 3) := by decide +kernel
theorem dX12_size_12 : decode cX12_size 12 = .ok (.iconst 1, 1) := by decide +kernel
theorem dX12_size_13 : decode cX12_size 13 = .ok (.goto 4, 3) := by decide +kernel
theorem dX12_size_16 : decode cX12_size 16 = .ok (.iconst 0, 1) := by decide +kernel
theorem dX12_size_17 : decode cX12_size 17 = .ok (.ireturn, 1) := by decide +kernel
theorem dX12_is_0 : decode cX12_is 0 = .ok (.iload_n 1, 1) := by decide +kernel
theorem dX12_is_1 : decode cX12_is 1 = .ok (.ifCond .ne 5, 3) := by decide +kernel
theorem dX12_is_4 : decode cX12_is 4 = .ok (.iconst 0, 1) := by decide +kernel
theorem dX12_is_5 : decode cX12_is 5 = .ok (.ireturn, 1) := by decide +kernel
theorem dX12_is_6 : decode cX12_is 6 = .ok (.aload_n 0, 1) := by decide +kernel
theorem dX12_is_7 : decode cX12_is 7 = .ok (.getfield 7, 3) := by decide +kernel
theorem dX12_is_10 : decode cX12_is 10 = .ok (.iload_n 1, 1) := by decide +kernel
theorem dX12_is_11 : decode cX12_is 11 = .ok (.iaload, 1) := by decide +kernel
theorem dX12_is_12 : decode cX12_is 12 = .ok (.istore_n 3, 1) := by decide +kernel
theorem dX12_is_13 : decode cX12_is 13 = .ok (.iload_n 2, 1) := by decide +kernel
theorem dX12_is_14 : decode cX12_is 14 = .ok (.tableswitch 126 9 15 #[42, 126, 126, 60, 78, 96, 114], 42) := by decide +kernel
theorem dX12_is_56 : decode cX12_is 56 = .ok (.iload_n 3, 1) := by decide +kernel
theorem dX12_is_57 : decode cX12_is 57 = .ok (.bipush 9, 2) := by decide +kernel
theorem dX12_is_59 : decode cX12_is 59 = .ok (.if_icmp .eq 9, 3) := by decide +kernel
theorem dX12_is_62 : decode cX12_is 62 = .ok (.iload_n 3, 1) := by decide +kernel
theorem dX12_is_63 : decode cX12_is 63 = .ok (.bipush 10, 2) := by decide +kernel
theorem dX12_is_65 : decode cX12_is 65 = .ok (.if_icmp .ne 7, 3) := by decide +kernel
theorem dX12_is_68 : decode cX12_is 68 = .ok (.iconst 1, 1) := by decide +kernel
theorem dX12_is_69 : decode cX12_is 69 = .ok (.goto 4, 3) := by decide +kernel
theorem dX12_is_72 : decode cX12_is 72 = .ok (.iconst 0, 1) := by decide +kernel
theorem dX12_is_73 : decode cX12_is 73 = .ok (.ireturn, 1) := by decide +kernel
theorem dX12_is_74 : decode cX12_is 74 = .ok (.iload_n 3, 1) := by decide +kernel
theorem dX12_is_75 : decode cX12_is 75 = .ok (.bipush 12, 2) := by decide +kernel
theorem dX12_is_77 : decode cX12_is 77 = .ok (.if_icmp .lt 13, 3) := by decide +kernel
theorem dX12_is_80 : decode cX12_is 80 = .ok (.iload_n 3, 1) := by decide +kernel
theorem dX12_is_81 : decode cX12_is 81 = .ok (.bipush 14, 2) := by decide +kernel
theorem dX12_is_83 : decode cX12_is 83 = .ok (.if_icmp .gt 7, 3) := by decide +kernel
theorem dX12_is_86 : decode cX12_is 86 = .ok (.iconst 1, 1) := by decide +kernel
theorem dX12_is_87 : decode cX12_is 87 = .ok (.goto 4, 3) := by decide +kernel
theorem dX12_is_90 : decode cX12_is 90 = .ok (.iconst 0, 1) := by decide +kernel
theorem dX12_is_91 : decode cX12_is 91 = .ok (.ireturn, 1) := by decide +kernel
theorem dX12_is_92 : decode cX12_is 92 = .ok (.iload_n 3, 1) := by decide +kernel
theorem dX12_is_93 : decode cX12_is 93 = .ok (.bipush 13, 2) := by decide +kernel
theorem dX12_is_95 : decode cX12_is 95 = .ok (.if_icmp .eq 9, 3) := by decide +kernel
theorem dX12_is_98 : decode cX12_is 98 = .ok (.iload_n 3, 1) := by decide +kernel
theorem dX12_is_99 : decode cX12_is 99 = .ok (.bipush 14, 2) := by decide +kernel
theorem dX12_is_101 : decode cX12_is 101 = .ok (.if_icmp .ne 7, 3) := by decide +kernel
theorem dX12_is_104 : decode cX12_is 104 = .ok (.iconst 1, 1) := by decide +kernel
theorem dX12_is_105 : decode cX12_is 105 = .ok (.goto 4, 3) := by decide +kernel
theorem dX12_is_108 : decode cX12_is 108 = .ok (.iconst 0, 1) := by decide +kernel
theorem dX12_is_109 : decode cX12_is 109 = .ok (.ireturn, 1) := by decide +kernel
theorem dX12_is_110 : decode cX12_is 110 = .ok (.iload_n 3, 1) := by decide +kernel
theorem dX12_is_111 : decode cX12_is 111 = .ok (.bipush 13, 2) := by decide +kernel
theorem dX12_is_113 : decode cX12_is 113 = .ok (.if_icmp .lt 13, 3) := by decide +kernel
theorem dX12_is_116 : decode cX12_is 116 = .ok (.iload_n 3, 1) := by decide +kernel
theorem dX12_is_117 : decode cX12_is 117 = .ok (.bipush 15, 2) := by decide +kernel
theorem dX12_is_119 : decode cX12_is 119 = .ok (.if_icmp .gt 7, 3) := by decide +kernel
theorem dX12_is_122 : decode cX12_is 122 = .ok (.iconst 1, 1) := by decide +kernel
theorem dX12_is_123 : decode cX12_is 123 = .ok (.goto 4, 3) := by decide +kernel
theorem dX12_is_126 : decode cX12_is 126 = .ok (.iconst 0, 1) := by decide +kernel
theorem dX12_is_127 : decode cX12_is 127 = .ok (.ireturn, 1) := by decide +kernel
theorem dX12_is_128 : decode cX12_is 128 = .ok (.iload_n 3, 1) := by decide +kernel
theorem dX12_is_129 : decode cX12_is 129 = .ok (.bipush 16, 2) := by decide +kernel
theorem dX12_is_131 : decode cX12_is 131 = .ok (.if_icmp .lt 7, 3) := by decide +kernel
theorem dX12_is_134 : decode cX12_is 134 = .ok (.iconst 1, 1) := by decide +kernel
theorem dX12_is_135 : decode cX12_is 135 = .ok (.goto 4, 3) := by decide +kernel
theorem dX12_is_138 : decode cX12_is 138 = .ok (.iconst 0, 1) := by decide +kernel
theorem dX12_is_139 : decode cX12_is 139 = .ok (.ireturn, 1) := by decide +kernel
theorem dX12_is_140 : decode cX12_is 140 = .ok (.iload_n 3, 1) := by decide +kernel
theorem dX12_is_141 : decode cX12_is 141 = .ok (.iload_n 2, 1) := by decide +kernel
theorem dX12_is_142 : decode cX12_is 142 = .ok (.if_icmp .ne 7, 3) := by decide +kernel
theorem dX12_is_145 : decode cX12_is 145 = .ok (.iconst 1, 1) := by decide +kernel
theorem dX12_is_146 : decode cX12_is 146 = .ok (.goto 4, 3) := by decide +kernel
theorem dX12_is_149 : decode cX12_is 149 = .ok (.iconst 0, 1) := by decide +kernel
theorem dX12_is_150 : decode cX12_is 150 = .ok (.ireturn, 1) := by decide +kernel
theorem dX12_thing_0 : decode cX12_thing 0 = .ok (.aload_n 0, 1) := by decide +kernel
theorem dX12_thing_1 : decode cX12_thing 1 = .ok (.iload_n 1, 1) := by decide +kernel
theorem dX12_thing_2 : decode cX12_thing 2 = .ok (.invokevirtual 83, 3) := by decide +kernel
theorem dX12_thing_5 : decode cX12_thing 5 = .ok (.ifCond .ne 5, 3) := by decide +kernel
theorem dX12_thing_8 : decode cX12_thing 8 = .ok (.iconst 0, 1) := by decide +kernel
theorem dX12_thing_9 : decode cX12_thing 9 = .ok (.ireturn, 1) := by decide +kernel
theorem dX12_thing_10 : decode cX12_thing 10 = .ok (.aload_n 0, 1) := by decide +kernel
theorem dX12_thing_11 : decode cX12_thing 11 = .ok (.getfield 34, 3) := by decide +kernel
theorem dX12_thing_14 : decode cX12_thing 14 = .ok (.iload_n 1, 1) := by decide +kernel
theorem dX12_thing_15 : decode cX12_thing 15 = .ok (.iaload, 1) := by decide +kernel
theorem dX12_thing_16 : decode cX12_thing 16 = .ok (.ifCond .eq 25, 3) := by decide +kernel
theorem dX12_thing_19 : decode cX12_thing 19 = .ok (.aload_n 0, 1) := by decide +kernel
theorem dX12_thing_20 : decode cX12_thing 20 = .ok (.aload_n 0, 1) := by decide +kernel
theorem dX12_thing_21 : decode cX12_thing 21 = .ok (.getfield 34, 3) := by decide +kernel
theorem dX12_thing_24 : decode cX12_thing 24 = .ok (.iload_n 1, 1) := by decide +kernel
theorem dX12_thing_25 : decode cX12_thing 25 = .ok (.iaload, 1) := by decide +kernel
theorem dX12_thing_26 : decode cX12_thing 26 = .ok (.iload_n 2, 1) := by decide +kernel
theorem dX12_thing_27 : decode cX12_thing 27 = .ok (.invokevirtual 86, 3) := by decide +kernel
theorem dX12_thing_30 : decode cX12_thing 30 = .ok (.ifCond .ne 11, 3) := by decide +kernel
theorem dX12_thing_33 : decode cX12_thing 33 = .ok (.aload_n 0, 1) := by decide +kernel
theorem dX12_thing_34 : decode cX12_thing 34 = .ok (.iconst 3, 1) := by decide +kernel
theorem dX12_thing_35 : decode cX12_thing 35 = .ok (.invokevirtual 79, 3) := by decide +kernel
theorem dX12_thing_38 : decode cX12_thing 38 = .ok (.ifCond .eq 7, 3) := by decide +kernel
theorem dX12_thing_41 : decode cX12_thing 41 = .ok (.iconst 1, 1) := by decide +kernel
theorem dX12_thing_42 : decode cX12_thing 42 = .ok (.goto 4, 3) := by decide +kernel
theorem dX12_thing_45 : decode cX12_thing 45 = .ok (.iconst 0, 1) := by decide +kernel
theorem dX12_thing_46 : decode cX12_thing 46 = .ok (.ireturn, 1) := by decide +kernel
theorem dX12_nearest_0 : decode cX12_nearest 0 = .ok (.lload_n 0, 1) := by decide +kernel
theorem dX12_nearest_1 : decode cX12_nearest 1 = .ok (.ldc2_w 91, 3) := by decide +kernel
theorem dX12_nearest_4 : decode cX12_nearest 4 = .ok (.lcmp, 1) := by decide +kernel
theorem dX12_nearest_5 : decode cX12_nearest 5 = .ok (.ifCond .ne 5, 3) := by decide +kernel
theorem dX12_nearest_8 : decode cX12_nearest 8 = .ok (.lload_n 0, 1) := by decide +kernel
theorem dX12_nearest_9 : decode cX12_nearest 9 = .ok (.lreturn, 1) := by decide +kernel
theorem dX12_nearest_10 : decode cX12_nearest 10 = .ok (.lload_n 0, 1) := by decide +kernel
theorem dX12_nearest_11 : decode cX12_nearest 11 = .ok (.lconst 0, 1) := by decide +kernel
theorem dX12_nearest_12 : decode cX12_nearest 12 = .ok (.lcmp, 1) := by decide +kernel
theorem dX12_nearest_13 : decode cX12_nearest 13 = .ok (.ifCond .ge 8, 3) := by decide +kernel
theorem dX12_nearest_16 : decode cX12_nearest 16 = .ok (.lload_n 0, 1) := by decide +kernel
theorem dX12_nearest_17 : decode cX12_nearest 17 = .ok (.lneg, 1) := by decide +kernel
theorem dX12_nearest_18 : decode cX12_nearest 18 = .ok (.goto 4, 3) := by decide +kernel
theorem dX12_nearest_21 : decode cX12_nearest 21 = .ok (.lload_n 0, 1) := by decide +kernel
theorem dX12_nearest_22 : decode cX12_nearest 22 = .ok (.lstore_n 3, 1) := by decide +kernel
theorem dX12_nearest_23 : decode cX12_nearest 23 = .ok (.iconst 0, 1) := by decide +kernel
theorem dX12_nearest_24 : decode cX12_nearest 24 = .ok (.istore 5, 2) := by decide +kernel
theorem dX12_nearest_26 : decode cX12_nearest 26 = .ok (.lload_n 3, 1) := by decide +kernel
theorem dX12_nearest_27 : decode cX12_nearest 27 = .ok (.iload 5, 2) := by decide +kernel
theorem dX12_nearest_29 : decode cX12_nearest 29 = .ok (.lushr, 1) := by decide +kernel
theorem dX12_nearest_30 : decode cX12_nearest 30 = .ok (.lconst 1, 1) := by decide +kernel
theorem dX12_nearest_31 : decode cX12_nearest 31 = .ok (.iload_n 2, 1) := by decide +kernel
theorem dX12_nearest_32 : decode cX12_nearest 32 = .ok (.lshl, 1) := by decide +kernel
theorem dX12_nearest_33 : decode cX12_nearest 33 = .ok (.lcmp, 1) := by decide +kernel
theorem dX12_nearest_34 : decode cX12_nearest 34 = .ok (.ifCond .lt 9, 3) := by decide +kernel
theorem dX12_nearest_37 : decode cX12_nearest 37 = .ok (.iinc 5 1, 3) := by decide +kernel
theorem dX12_nearest_40 : decode cX12_nearest 40 = .ok (.goto (-14), 3) := by decide +kernel
theorem dX12_nearest_43 : decode cX12_nearest 43 = .ok (.iload 5, 2) := by decide +kernel
theorem dX12_nearest_45 : decode cX12_nearest 45 = .ok (.ifCond .ne 5, 3) := by decide +kernel
theorem dX12_nearest_48 : decode cX12_nearest 48 = .ok (.lload_n 0, 1) := by decide +kernel
theorem dX12_nearest_49 : decode cX12_nearest 49 = .ok (.lreturn, 1) := by decide +kernel
theorem dX12_nearest_50 : decode cX12_nearest 50 = .ok (.lload_n 3, 1) := by decide +kernel
theorem dX12_nearest_51 : decode cX12_nearest 51 = .ok (.iload 5, 2) := by decide +kernel
theorem dX12_nearest_53 : decode cX12_nearest 53 = .ok (.lushr, 1) := by decide +kernel
theorem dX12_nearest_54 : decode cX12_nearest 54 = .ok (.lstore 6, 2) := by decide +kernel
theorem dX12_nearest_56 : decode cX12_nearest 56 = .ok (.lload_n 3, 1) := by decide +kernel
theorem dX12_nearest_57 : decode cX12_nearest 57 = .ok (.lload 6, 2) := by decide +kernel
theorem dX12_nearest_59 : decode cX12_nearest 59 = .ok (.iload 5, 2) := by decide +kernel
theorem dX12_nearest_61 : decode cX12_nearest 61 = .ok (.lshl, 1) := by decide +kernel
theorem dX12_nearest_62 : decode cX12_nearest 62 = .ok (.lsub, 1) := by decide +kernel
theorem dX12_nearest_63 : decode cX12_nearest 63 = .ok (.lstore 8, 2) := by decide +kernel
theorem dX12_nearest_65 : decode cX12_nearest 65 = .ok (.lconst 1, 1) := by decide +kernel
theorem dX12_nearest_66 : decode cX12_nearest 66 = .ok (.iload 5, 2) := by decide +kernel
theorem dX12_nearest_68 : decode cX12_nearest 68 = .ok (.iconst 1, 1) := by decide +kernel
theorem dX12_nearest_69 : decode cX12_nearest 69 = .ok (.isub, 1) := by decide +kernel
theorem dX12_nearest_70 : decode cX12_nearest 70 = .ok (.lshl, 1) := by decide +kernel
theorem dX12_nearest_71 : decode cX12_nearest 71 = .ok (.lstore 10, 2) := by decide +kernel
theorem dX12_nearest_73 : decode cX12_nearest 73 = .ok (.lload 8, 2) := by decide +kernel
theorem dX12_nearest_75 : decode cX12_nearest 75 = .ok (.lload 10, 2) := by decide +kernel
theorem dX12_nearest_77 : decode cX12_nearest 77 = .ok (.lcmp, 1) := by decide +kernel
theorem dX12_nearest_78 : decode cX12_nearest 78 = .ok (.ifCond .gt 20, 3) := by decide +kernel
theorem dX12_nearest_81 : decode cX12_nearest 81 = .ok (.lload 8, 2) := by decide +kernel
theorem dX12_nearest_83 : decode cX12_nearest 83 = .ok (.lload 10, 2) := by decide +kernel
theorem dX12_nearest_85 : decode cX12_nearest 85 = .ok (.lcmp, 1) := by decide +kernel
theorem dX12_nearest_86 : decode cX12_nearest 86 = .ok (.ifCond .ne 18, 3) := by decide +kernel
theorem dX12_nearest_89 : decode cX12_nearest 89 = .ok (.lload 6, 2) := by decide +kernel
theorem dX12_nearest_91 : decode cX12_nearest 91 = .ok (.lconst 1, 1) := by decide +kernel
theorem dX12_nearest_92 : decode cX12_nearest 92 = .ok (.land, 1) := by decide +kernel
theorem dX12_nearest_93 : decode cX12_nearest 93 = .ok (.lconst 1, 1) := by decide +kernel
theorem dX12_nearest_94 : decode cX12_nearest 94 = .ok (.lcmp, 1) := by decide +kernel
theorem dX12_nearest_95 : decode cX12_nearest 95 = .ok (.ifCond .ne 9, 3) := by decide +kernel
theorem dX12_nearest_98 : decode cX12_nearest 98 = .ok (.lload 6, 2) := by decide +kernel
theorem dX12_nearest_100 : decode cX12_nearest 100 = .ok (.lconst 1, 1) := by decide +kernel
theorem dX12_nearest_101 : decode cX12_nearest 101 = .ok (.ladd, 1) := by decide +kernel
theorem dX12_nearest_102 : decode cX12_nearest 102 = .ok (.lstore 6, 2) := by decide +kernel
theorem dX12_nearest_104 : decode cX12_nearest 104 = .ok (.lload 6, 2) := by decide +kernel
theorem dX12_nearest_106 : decode cX12_nearest 106 = .ok (.lconst 1, 1) := by decide +kernel
theorem dX12_nearest_107 : decode cX12_nearest 107 = .ok (.bipush 63, 2) := by decide +kernel
theorem dX12_nearest_109 : decode cX12_nearest 109 = .ok (.iload 5, 2) := by decide +kernel
theorem dX12_nearest_111 : decode cX12_nearest 111 = .ok (.isub, 1) := by decide +kernel
theorem dX12_nearest_112 : decode cX12_nearest 112 = .ok (.lshl, 1) := by decide +kernel
theorem dX12_nearest_113 : decode cX12_nearest 113 = .ok (.lcmp, 1) := by decide +kernel
theorem dX12_nearest_114 : decode cX12_nearest 114 = .ok (.ifCond .lt 19, 3) := by decide +kernel
theorem dX12_nearest_117 : decode cX12_nearest 117 = .ok (.lload_n 0, 1) := by decide +kernel
theorem dX12_nearest_118 : decode cX12_nearest 118 = .ok (.lconst 0, 1) := by decide +kernel
theorem dX12_nearest_119 : decode cX12_nearest 119 = .ok (.lcmp, 1) := by decide +kernel
theorem dX12_nearest_120 : decode cX12_nearest 120 = .ok (.ifCond .ge 9, 3) := by decide +kernel
theorem dX12_nearest_123 : decode cX12_nearest 123 = .ok (.ldc2_w 91, 3) := by decide +kernel
theorem dX12_nearest_126 : decode cX12_nearest 126 = .ok (.goto 6, 3) := by decide +kernel
theorem dX12_nearest_129 : decode cX12_nearest 129 = .ok (.ldc2_w 93, 3) := by decide +kernel
theorem dX12_nearest_132 : decode cX12_nearest 132 = .ok (.lreturn, 1) := by decide +kernel
theorem dX12_nearest_133 : decode cX12_nearest 133 = .ok (.lload_n 0, 1) := by decide +kernel
theorem dX12_nearest_134 : decode cX12_nearest 134 = .ok (.lconst 0, 1) := by decide +kernel
theorem dX12_nearest_135 : decode cX12_nearest 135 = .ok (.lcmp, 1) := by decide +kernel
theorem dX12_nearest_136 : decode cX12_nearest 136 = .ok (.ifCond .ge 12, 3) := by decide +kernel
theorem dX12_nearest_139 : decode cX12_nearest 139 = .ok (.lload 6, 2) := by decide +kernel
theorem dX12_nearest_141 : decode cX12_nearest 141 = .ok (.iload 5, 2) := by decide +kernel
theorem dX12_nearest_143 : decode cX12_nearest 143 = .ok (.lshl, 1) := by decide +kernel
theorem dX12_nearest_144 : decode cX12_nearest 144 = .ok (.lneg, 1) := by decide +kernel
theorem dX12_nearest_145 : decode cX12_nearest 145 = .ok (.goto 8, 3) := by decide +kernel
theorem dX12_nearest_148 : decode cX12_nearest 148 = .ok (.lload 6, 2) := by decide +kernel
theorem dX12_nearest_150 : decode cX12_nearest 150 = .ok (.iload 5, 2) := by decide +kernel
theorem dX12_nearest_152 : decode cX12_nearest 152 = .ok (.lshl, 1) := by decide +kernel
theorem dX12_nearest_153 : decode cX12_nearest 153 = .ok (.lreturn, 1) := by decide +kernel
theorem dX12_as_0 : decode cX12_as 0 = .ok (.iload_n 0, 1) := by decide +kernel
theorem dX12_as_1 : decode cX12_as 1 = .ok (.tableswitch 93 0 7 #[47, 93, 51, 56, 61, 67, 79, 86], 47) := by decide +kernel
theorem dX12_as_48 : decode cX12_as 48 = .ok (.lload_n 1, 1) := by decide +kernel
theorem dX12_as_49 : decode cX12_as 49 = .ok (.l2i, 1) := by decide +kernel
theorem dX12_as_50 : decode cX12_as 50 = .ok (.i2l, 1) := by decide +kernel
theorem dX12_as_51 : decode cX12_as 51 = .ok (.lreturn, 1) := by decide +kernel
theorem dX12_as_52 : decode cX12_as 52 = .ok (.lload_n 1, 1) := by decide +kernel
theorem dX12_as_53 : decode cX12_as 53 = .ok (.l2i, 1) := by decide +kernel
theorem dX12_as_54 : decode cX12_as 54 = .ok (.i2s, 1) := by decide +kernel
theorem dX12_as_55 : decode cX12_as 55 = .ok (.i2l, 1) := by decide +kernel
theorem dX12_as_56 : decode cX12_as 56 = .ok (.lreturn, 1) := by decide +kernel
theorem dX12_as_57 : decode cX12_as 57 = .ok (.lload_n 1, 1) := by decide +kernel
theorem dX12_as_58 : decode cX12_as 58 = .ok (.l2i, 1) := by decide +kernel
theorem dX12_as_59 : decode cX12_as 59 = .ok (.i2b, 1) := by decide +kernel
theorem dX12_as_60 : decode cX12_as 60 = .ok (.i2l, 1) := by decide +kernel
theorem dX12_as_61 : decode cX12_as 61 = .ok (.lreturn, 1) := by decide +kernel
theorem dX12_as_62 : decode cX12_as 62 = .ok (.lload_n 1, 1) := by decide +kernel
theorem dX12_as_63 : decode cX12_as 63 = .ok (.ldc2_w 95, 3) := by decide +kernel
theorem dX12_as_66 : decode cX12_as 66 = .ok (.land, 1) := by decide +kernel
theorem dX12_as_67 : decode cX12_as 67 = .ok (.lreturn, 1) := by decide +kernel
theorem dX12_as_68 : decode cX12_as 68 = .ok (.lload_n 1, 1) := by decide +kernel
theorem dX12_as_69 : decode cX12_as 69 = .ok (.lconst 0, 1) := by decide +kernel
theorem dX12_as_70 : decode cX12_as 70 = .ok (.lcmp, 1) := by decide +kernel
theorem dX12_as_71 : decode cX12_as 71 = .ok (.ifCond .eq 7, 3) := by decide +kernel
theorem dX12_as_74 : decode cX12_as 74 = .ok (.lconst 1, 1) := by decide +kernel
theorem dX12_as_75 : decode cX12_as 75 = .ok (.goto 4, 3) := by decide +kernel
theorem dX12_as_78 : decode cX12_as 78 = .ok (.lconst 0, 1) := by decide +kernel
theorem dX12_as_79 : decode cX12_as 79 = .ok (.lreturn, 1) := by decide +kernel
theorem dX12_as_80 : decode cX12_as 80 = .ok (.lload_n 1, 1) := by decide +kernel
theorem dX12_as_81 : decode cX12_as 81 = .ok (.bipush 24, 2) := by decide +kernel
theorem dX12_as_83 : decode cX12_as 83 = .ok (.invokestatic 97, 3) := by decide +kernel
theorem dX12_as_86 : decode cX12_as 86 = .ok (.lreturn, 1) := by decide +kernel
theorem dX12_as_87 : decode cX12_as 87 = .ok (.lload_n 1, 1) := by decide +kernel
theorem dX12_as_88 : decode cX12_as 88 = .ok (.bipush 53, 2) := by decide +kernel
theorem dX12_as_90 : decode cX12_as 90 = .ok (.invokestatic 97, 3) := by decide +kernel
theorem dX12_as_93 : decode cX12_as 93 = .ok (.lreturn, 1) := by decide +kernel
theorem dX12_as_94 : decode cX12_as 94 = .ok (.lload_n 1, 1) := by decide +kernel
theorem dX12_as_95 : decode cX12_as 95 = .ok (.lreturn, 1) := by decide +kernel
theorem dX12_no_0 : decode cX12_no 0 = .ok (.aload_n 0, 1) := by decide +kernel
theorem dX12_no_1 : decode cX12_no 1 = .ok (.iconst 1, 1) := by decide +kernel
theorem dX12_no_2 : decode cX12_no 2 = .ok (.putfield 101, 3) := by decide +kernel
theorem dX12_no_5 : decode cX12_no 5 = .ok (.lconst 0, 1) := by decide +kernel
theorem dX12_no_6 : decode cX12_no 6 = .ok (.lreturn, 1) := by decide +kernel
theorem dX12_done_0 : decode cX12_done 0 = .ok (.aload_n 0, 1) := by decide +kernel
theorem dX12_done_1 : decode cX12_done 1 = .ok (.iconst 0, 1) := by decide +kernel
theorem dX12_done_2 : decode cX12_done 2 = .ok (.putfield 101, 3) := by decide +kernel
theorem dX12_done_5 : decode cX12_done 5 = .ok (.iload_n 1, 1) := by decide +kernel
theorem dX12_done_6 : decode cX12_done 6 = .ok (.ifCond .lt 9, 3) := by decide +kernel
theorem dX12_done_9 : decode cX12_done 9 = .ok (.iload_n 1, 1) := by decide +kernel
theorem dX12_done_10 : decode cX12_done 10 = .ok (.bipush 31, 2) := by decide +kernel
theorem dX12_done_12 : decode cX12_done 12 = .ok (.if_icmp .le 7, 3) := by decide +kernel
theorem dX12_done_15 : decode cX12_done 15 = .ok (.ldc2_w 105, 3) := by decide +kernel
theorem dX12_done_18 : decode cX12_done 18 = .ok (.lreturn, 1) := by decide +kernel
theorem dX12_done_19 : decode cX12_done 19 = .ok (.iload_n 1, 1) := by decide +kernel
theorem dX12_done_20 : decode cX12_done 20 = .ok (.ifCond .eq 26, 3) := by decide +kernel
theorem dX12_done_23 : decode cX12_done 23 = .ok (.iload_n 1, 1) := by decide +kernel
theorem dX12_done_24 : decode cX12_done 24 = .ok (.iconst 4, 1) := by decide +kernel
theorem dX12_done_25 : decode cX12_done 25 = .ok (.if_icmp .eq 21, 3) := by decide +kernel
theorem dX12_done_28 : decode cX12_done 28 = .ok (.iload_n 1, 1) := by decide +kernel
theorem dX12_done_29 : decode cX12_done 29 = .ok (.bipush 9, 2) := by decide +kernel
theorem dX12_done_31 : decode cX12_done 31 = .ok (.if_icmp .eq 15, 3) := by decide +kernel
theorem dX12_done_34 : decode cX12_done 34 = .ok (.iload_n 1, 1) := by decide +kernel
theorem dX12_done_35 : decode cX12_done 35 = .ok (.bipush 13, 2) := by decide +kernel
theorem dX12_done_37 : decode cX12_done 37 = .ok (.if_icmp .eq 9, 3) := by decide +kernel
theorem dX12_done_40 : decode cX12_done 40 = .ok (.iload_n 1, 1) := by decide +kernel
theorem dX12_done_41 : decode cX12_done 41 = .ok (.bipush 14, 2) := by decide +kernel
theorem dX12_done_43 : decode cX12_done 43 = .ok (.if_icmp .ne 27, 3) := by decide +kernel
theorem dX12_done_46 : decode cX12_done 46 = .ok (.aload_n 0, 1) := by decide +kernel
theorem dX12_done_47 : decode cX12_done 47 = .ok (.getfield 49, 3) := by decide +kernel
theorem dX12_done_50 : decode cX12_done 50 = .ok (.iconst 5, 1) := by decide +kernel
theorem dX12_done_51 : decode cX12_done 51 = .ok (.iaload, 1) := by decide +kernel
theorem dX12_done_52 : decode cX12_done 52 = .ok (.sipush 6000, 3) := by decide +kernel
theorem dX12_done_55 : decode cX12_done 55 = .ok (.if_icmp .lt 15, 3) := by decide +kernel
theorem dX12_done_58 : decode cX12_done 58 = .ok (.aload_n 0, 1) := by decide +kernel
theorem dX12_done_59 : decode cX12_done 59 = .ok (.bipush 6, 2) := by decide +kernel
theorem dX12_done_61 : decode cX12_done 61 = .ok (.invokevirtual 79, 3) := by decide +kernel
theorem dX12_done_64 : decode cX12_done 64 = .ok (.pop, 1) := by decide +kernel
theorem dX12_done_65 : decode cX12_done 65 = .ok (.aload_n 0, 1) := by decide +kernel
theorem dX12_done_66 : decode cX12_done 66 = .ok (.invokevirtual 107, 3) := by decide +kernel
theorem dX12_done_69 : decode cX12_done 69 = .ok (.lreturn, 1) := by decide +kernel
theorem dX12_done_70 : decode cX12_done 70 = .ok (.iload_n 1, 1) := by decide +kernel
theorem dX12_done_71 : decode cX12_done 71 = .ok (.bipush 8, 2) := by decide +kernel
theorem dX12_done_73 : decode cX12_done 73 = .ok (.if_icmp .gt 13, 3) := by decide +kernel
theorem dX12_done_76 : decode cX12_done 76 = .ok (.aload_n 0, 1) := by decide +kernel
theorem dX12_done_77 : decode cX12_done 77 = .ok (.iload_n 1, 1) := by decide +kernel
theorem dX12_done_78 : decode cX12_done 78 = .ok (.iload_n 2, 1) := by decide +kernel
theorem dX12_done_79 : decode cX12_done 79 = .ok (.iload_n 3, 1) := by decide +kernel
theorem dX12_done_80 : decode cX12_done 80 = .ok (.iload 4, 2) := by decide +kernel
theorem dX12_done_82 : decode cX12_done 82 = .ok (.invokevirtual 111, 3) := by decide +kernel
theorem dX12_done_85 : decode cX12_done 85 = .ok (.lreturn, 1) := by decide +kernel
theorem dX12_done_86 : decode cX12_done 86 = .ok (.iload_n 1, 1) := by decide +kernel
theorem dX12_done_87 : decode cX12_done 87 = .ok (.bipush 21, 2) := by decide +kernel
theorem dX12_done_89 : decode cX12_done 89 = .ok (.if_icmp .gt 13, 3) := by decide +kernel
theorem dX12_done_92 : decode cX12_done 92 = .ok (.aload_n 0, 1) := by decide +kernel
theorem dX12_done_93 : decode cX12_done 93 = .ok (.iload_n 1, 1) := by decide +kernel
theorem dX12_done_94 : decode cX12_done 94 = .ok (.iload_n 2, 1) := by decide +kernel
theorem dX12_done_95 : decode cX12_done 95 = .ok (.iload_n 3, 1) := by decide +kernel
theorem dX12_done_96 : decode cX12_done 96 = .ok (.iload 4, 2) := by decide +kernel
theorem dX12_done_98 : decode cX12_done 98 = .ok (.invokevirtual 115, 3) := by decide +kernel
theorem dX12_done_101 : decode cX12_done 101 = .ok (.lreturn, 1) := by decide +kernel
theorem dX12_done_102 : decode cX12_done 102 = .ok (.iload_n 1, 1) := by decide +kernel
theorem dX12_done_103 : decode cX12_done 103 = .ok (.bipush 25, 2) := by decide +kernel
theorem dX12_done_105 : decode cX12_done 105 = .ok (.if_icmp .gt 10, 3) := by decide +kernel
theorem dX12_done_108 : decode cX12_done 108 = .ok (.aload_n 0, 1) := by decide +kernel
theorem dX12_done_109 : decode cX12_done 109 = .ok (.iload_n 1, 1) := by decide +kernel
theorem dX12_done_110 : decode cX12_done 110 = .ok (.iload_n 3, 1) := by decide +kernel
theorem dX12_done_111 : decode cX12_done 111 = .ok (.invokevirtual 118, 3) := by decide +kernel
theorem dX12_done_114 : decode cX12_done 114 = .ok (.lreturn, 1) := by decide +kernel
theorem dX12_done_115 : decode cX12_done 115 = .ok (.aload_n 0, 1) := by decide +kernel
theorem dX12_done_116 : decode cX12_done 116 = .ok (.iload_n 1, 1) := by decide +kernel
theorem dX12_done_117 : decode cX12_done 117 = .ok (.iload_n 2, 1) := by decide +kernel
theorem dX12_done_118 : decode cX12_done 118 = .ok (.iload_n 3, 1) := by decide +kernel
theorem dX12_done_119 : decode cX12_done 119 = .ok (.iload 4, 2) := by decide +kernel
theorem dX12_done_121 : decode cX12_done 121 = .ok (.invokevirtual 122, 3) := by decide +kernel
theorem dX12_done_124 : decode cX12_done 124 = .ok (.lreturn, 1) := by decide +kernel
theorem dX12_rows_0 : decode cX12_rows 0 = .ok (.iload_n 3, 1) := by decide +kernel
theorem dX12_rows_1 : decode cX12_rows 1 = .ok (.bipush 7, 2) := by decide +kernel
theorem dX12_rows_3 : decode cX12_rows 3 = .ok (.iand, 1) := by decide +kernel
theorem dX12_rows_4 : decode cX12_rows 4 = .ok (.istore 5, 2) := by decide +kernel
theorem dX12_rows_6 : decode cX12_rows 6 = .ok (.iload_n 1, 1) := by decide +kernel
theorem dX12_rows_7 : decode cX12_rows 7 = .ok (.tableswitch 539 0 7 #[45, 110, 110, 192, 228, 359, 359, 472], 45) := by decide +kernel
theorem dX12_rows_52 : decode cX12_rows 52 = .ok (.aload_n 0, 1) := by decide +kernel
theorem dX12_rows_53 : decode cX12_rows 53 = .ok (.iload_n 2, 1) := by decide +kernel
theorem dX12_rows_54 : decode cX12_rows 54 = .ok (.invokevirtual 83, 3) := by decide +kernel
theorem dX12_rows_57 : decode cX12_rows 57 = .ok (.ifCond .eq 15, 3) := by decide +kernel
theorem dX12_rows_60 : decode cX12_rows 60 = .ok (.aload_n 0, 1) := by decide +kernel
theorem dX12_rows_61 : decode cX12_rows 61 = .ok (.iload 4, 2) := by decide +kernel
theorem dX12_rows_63 : decode cX12_rows 63 = .ok (.bipush 100, 2) := by decide +kernel
theorem dX12_rows_65 : decode cX12_rows 65 = .ok (.irem, 1) := by decide +kernel
theorem dX12_rows_66 : decode cX12_rows 66 = .ok (.invokevirtual 125, 3) := by decide +kernel
theorem dX12_rows_69 : decode cX12_rows 69 = .ok (.ifCond .ne 8, 3) := by decide +kernel
theorem dX12_rows_72 : decode cX12_rows 72 = .ok (.aload_n 0, 1) := by decide +kernel
theorem dX12_rows_73 : decode cX12_rows 73 = .ok (.invokevirtual 107, 3) := by decide +kernel
theorem dX12_rows_76 : decode cX12_rows 76 = .ok (.lreturn, 1) := by decide +kernel
theorem dX12_rows_77 : decode cX12_rows 77 = .ok (.aload_n 0, 1) := by decide +kernel
theorem dX12_rows_78 : decode cX12_rows 78 = .ok (.getfield 34, 3) := by decide +kernel
theorem dX12_rows_81 : decode cX12_rows 81 = .ok (.iload_n 2, 1) := by decide +kernel
theorem dX12_rows_82 : decode cX12_rows 82 = .ok (.aload_n 0, 1) := by decide +kernel
theorem dX12_rows_83 : decode cX12_rows 83 = .ok (.iload 5, 2) := by decide +kernel
theorem dX12_rows_85 : decode cX12_rows 85 = .ok (.iload 4, 2) := by decide +kernel
theorem dX12_rows_87 : decode cX12_rows 87 = .ok (.bipush 100, 2) := by decide +kernel
theorem dX12_rows_89 : decode cX12_rows 89 = .ok (.irem, 1) := by decide +kernel
theorem dX12_rows_90 : decode cX12_rows 90 = .ok (.invokevirtual 128, 3) := by decide +kernel
theorem dX12_rows_93 : decode cX12_rows 93 = .ok (.iastore, 1) := by decide +kernel
theorem dX12_rows_94 : decode cX12_rows 94 = .ok (.aload_n 0, 1) := by decide +kernel
theorem dX12_rows_95 : decode cX12_rows 95 = .ok (.getfield 49, 3) := by decide +kernel
theorem dX12_rows_98 : decode cX12_rows 98 = .ok (.iconst 5, 1) := by decide +kernel
theorem dX12_rows_99 : decode cX12_rows 99 = .ok (.dup2, 1) := by decide +kernel
theorem dX12_rows_100 : decode cX12_rows 100 = .ok (.iaload, 1) := by decide +kernel
theorem dX12_rows_101 : decode cX12_rows 101 = .ok (.iconst 1, 1) := by decide +kernel
theorem dX12_rows_102 : decode cX12_rows 102 = .ok (.iadd, 1) := by decide +kernel
theorem dX12_rows_103 : decode cX12_rows 103 = .ok (.iastore, 1) := by decide +kernel
theorem dX12_rows_104 : decode cX12_rows 104 = .ok (.aload_n 0, 1) := by decide +kernel
theorem dX12_rows_105 : decode cX12_rows 105 = .ok (.getfield 16, 3) := by decide +kernel
theorem dX12_rows_108 : decode cX12_rows 108 = .ok (.aload_n 0, 1) := by decide +kernel
theorem dX12_rows_109 : decode cX12_rows 109 = .ok (.getfield 34, 3) := by decide +kernel
theorem dX12_rows_112 : decode cX12_rows 112 = .ok (.iload_n 2, 1) := by decide +kernel
theorem dX12_rows_113 : decode cX12_rows 113 = .ok (.iaload, 1) := by decide +kernel
theorem dX12_rows_114 : decode cX12_rows 114 = .ok (.iaload, 1) := by decide +kernel
theorem dX12_rows_115 : decode cX12_rows 115 = .ok (.i2l, 1) := by decide +kernel
theorem dX12_rows_116 : decode cX12_rows 116 = .ok (.lreturn, 1) := by decide +kernel
theorem dX12_rows_117 : decode cX12_rows 117 = .ok (.aload_n 0, 1) := by decide +kernel
theorem dX12_rows_118 : decode cX12_rows 118 = .ok (.iload_n 2, 1) := by decide +kernel
theorem dX12_rows_119 : decode cX12_rows 119 = .ok (.iload 5, 2) := by decide +kernel
theorem dX12_rows_121 : decode cX12_rows 121 = .ok (.invokevirtual 131, 3) := by decide +kernel
theorem dX12_rows_124 : decode cX12_rows 124 = .ok (.ifCond .eq 26, 3) := by decide +kernel
theorem dX12_rows_127 : decode cX12_rows 127 = .ok (.aload_n 0, 1) := by decide +kernel
theorem dX12_rows_128 : decode cX12_rows 128 = .ok (.iload_n 2, 1) := by decide +kernel
theorem dX12_rows_129 : decode cX12_rows 129 = .ok (.invokevirtual 134, 3) := by decide +kernel
theorem dX12_rows_132 : decode cX12_rows 132 = .ok (.ifCond .eq 18, 3) := by decide +kernel
theorem dX12_rows_135 : decode cX12_rows 135 = .ok (.aload_n 0, 1) := by decide +kernel
theorem dX12_rows_136 : decode cX12_rows 136 = .ok (.aload_n 0, 1) := by decide +kernel
theorem dX12_rows_137 : decode cX12_rows 137 = .ok (.getfield 34, 3) := by decide +kernel
theorem dX12_rows_140 : decode cX12_rows 140 = .ok (.iload_n 2, 1) := by decide +kernel
theorem dX12_rows_141 : decode cX12_rows 141 = .ok (.iaload, 1) := by decide +kernel
theorem dX12_rows_142 : decode cX12_rows 142 = .ok (.iload 4, 2) := by decide +kernel
theorem dX12_rows_144 : decode cX12_rows 144 = .ok (.invokevirtual 137, 3) := by decide +kernel
theorem dX12_rows_147 : decode cX12_rows 147 = .ok (.ifCond .ne 8, 3) := by decide +kernel
theorem dX12_rows_150 : decode cX12_rows 150 = .ok (.aload_n 0, 1) := by decide +kernel
theorem dX12_rows_151 : decode cX12_rows 151 = .ok (.invokevirtual 107, 3) := by decide +kernel
theorem dX12_rows_154 : decode cX12_rows 154 = .ok (.lreturn, 1) := by decide +kernel
theorem dX12_rows_155 : decode cX12_rows 155 = .ok (.iload_n 1, 1) := by decide +kernel
theorem dX12_rows_156 : decode cX12_rows 156 = .ok (.iconst 1, 1) := by decide +kernel
theorem dX12_rows_157 : decode cX12_rows 157 = .ok (.if_icmp .ne 16, 3) := by decide +kernel
theorem dX12_rows_160 : decode cX12_rows 160 = .ok (.aload_n 0, 1) := by decide +kernel
theorem dX12_rows_161 : decode cX12_rows 161 = .ok (.aload_n 0, 1) := by decide +kernel
theorem dX12_rows_162 : decode cX12_rows 162 = .ok (.getfield 34, 3) := by decide +kernel
theorem dX12_rows_165 : decode cX12_rows 165 = .ok (.iload_n 2, 1) := by decide +kernel
