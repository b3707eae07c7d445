theorem dX11_reckon_7 : decode cX11_reckon 7 = .ok (.ifCond .eq 33, 3) := by decide +kernel
theorem dX11_reckon_10 : decode cX11_reckon 10 = .ok (.aload_n 0, 1) := by decide +kernel
theorem dX11_reckon_11 : decode cX11_reckon 11 = .ok (.getfield 10, 3) := by decide +kernel
theorem dX11_reckon_14 : decode cX11_reckon 14 = .ok (.iload_n 2, 1) := by decide +kernel
theorem dX11_reckon_15 : decode cX11_reckon 15 = .ok (.invokevirtual 97, 3) := by decide +kernel
theorem dX11_reckon_18 : decode cX11_reckon 18 = .ok (.ifCond .eq 22, 3) := by decide +kernel
theorem dX11_reckon_21 : decode cX11_reckon 21 = .ok (.aload_n 0, 1) := by decide +kernel
theorem dX11_reckon_22 : decode cX11_reckon 22 = .ok (.getfield 10, 3) := by decide +kernel
theorem dX11_reckon_25 : decode cX11_reckon 25 = .ok (.iload_n 3, 1) := by decide +kernel
theorem dX11_reckon_26 : decode cX11_reckon 26 = .ok (.invokevirtual 97, 3) := by decide +kernel
theorem dX11_reckon_29 : decode cX11_reckon 29 = .ok (.ifCond .eq 11, 3) := by decide +kernel
theorem dX11_reckon_32 : decode cX11_reckon 32 = .ok (.iload 4, 2) := by decide +kernel
theorem dX11_reckon_34 : decode cX11_reckon 34 = .ok (.invokestatic 72, 3) := by decide +kernel
theorem dX11_reckon_37 : decode cX11_reckon 37 = .ok (.ifCond .ne 5, 3) := by decide +kernel
theorem dX11_reckon_40 : decode cX11_reckon 40 = .ok (.iconst (-1), 1) := by decide +kernel
theorem dX11_reckon_41 : decode cX11_reckon 41 = .ok (.ireturn, 1) := by decide +kernel
theorem dX11_reckon_42 : decode cX11_reckon 42 = .ok (.aload_n 0, 1) := by decide +kernel
theorem dX11_reckon_43 : decode cX11_reckon 43 = .ok (.getfield 10, 3) := by decide +kernel
theorem dX11_reckon_46 : decode cX11_reckon 46 = .ok (.iload_n 2, 1) := by decide +kernel
theorem dX11_reckon_47 : decode cX11_reckon 47 = .ok (.invokevirtual 104, 3) := by decide +kernel
theorem dX11_reckon_50 : decode cX11_reckon 50 = .ok (.getfield 108, 3) := by decide +kernel
theorem dX11_reckon_53 : decode cX11_reckon 53 = .ok (.iload_n 1, 1) := by decide +kernel
theorem dX11_reckon_54 : decode cX11_reckon 54 = .ok (.aload_n 0, 1) := by decide +kernel
theorem dX11_reckon_55 : decode cX11_reckon 55 = .ok (.getfield 10, 3) := by decide +kernel
theorem dX11_reckon_58 : decode cX11_reckon 58 = .ok (.iload_n 3, 1) := by decide +kernel
theorem dX11_reckon_59 : decode cX11_reckon 59 = .ok (.invokevirtual 104, 3) := by decide +kernel
theorem dX11_reckon_62 : decode cX11_reckon 62 = .ok (.getfield 108, 3) := by decide +kernel
theorem dX11_reckon_65 : decode cX11_reckon 65 = .ok (.invokevirtual 119, 3) := by decide +kernel
theorem dX11_reckon_68 : decode cX11_reckon 68 = .ok (.iload 4, 2) := by decide +kernel
theorem dX11_reckon_70 : decode cX11_reckon 70 = .ok (.invokevirtual 112, 3) := by decide +kernel
theorem dX11_reckon_73 : decode cX11_reckon 73 = .ok (.astore 5, 2) := by decide +kernel
theorem dX11_reckon_75 : decode cX11_reckon 75 = .ok (.aload_n 0, 1) := by decide +kernel
theorem dX11_reckon_76 : decode cX11_reckon 76 = .ok (.new 80, 3) := by decide +kernel
theorem dX11_reckon_79 : decode cX11_reckon 79 = .ok (.dup, 1) := by decide +kernel
theorem dX11_reckon_80 : decode cX11_reckon 80 = .ok (.iload_n 1, 1) := by decide +kernel
theorem dX11_reckon_81 : decode cX11_reckon 81 = .ok (.iload 4, 2) := by decide +kernel
theorem dX11_reckon_83 : decode cX11_reckon 83 = .ok (.bipush (-2), 2) := by decide +kernel
theorem dX11_reckon_85 : decode cX11_reckon 85 = .ok (.iload_n 2, 1) := by decide +kernel
theorem dX11_reckon_86 : decode cX11_reckon 86 = .ok (.iload_n 3, 1) := by decide +kernel
theorem dX11_reckon_87 : decode cX11_reckon 87 = .ok (.bipush (-2), 2) := by decide +kernel
theorem dX11_reckon_89 : decode cX11_reckon 89 = .ok (.aload 5, 2) := by decide +kernel
theorem dX11_reckon_91 : decode cX11_reckon 91 = .ok (.invokespecial 87, 3) := by decide +kernel
theorem dX11_reckon_94 : decode cX11_reckon 94 = .ok (.invokevirtual 90, 3) := by decide +kernel
theorem dX11_reckon_97 : decode cX11_reckon 97 = .ok (.ireturn, 1) := by decide +kernel
theorem dX11_pick_0 : decode cX11_pick 0 = .ok (.aload_n 0, 1) := by decide +kernel
theorem dX11_pick_1 : decode cX11_pick 1 = .ok (.getfield 10, 3) := by decide +kernel
theorem dX11_pick_4 : decode cX11_pick 4 = .ok (.iload_n 1, 1) := by decide +kernel
theorem dX11_pick_5 : decode cX11_pick 5 = .ok (.invokevirtual 97, 3) := by decide +kernel
theorem dX11_pick_8 : decode cX11_pick 8 = .ok (.ifCond .eq 33, 3) := by decide +kernel
theorem dX11_pick_11 : decode cX11_pick 11 = .ok (.aload_n 0, 1) := by decide +kernel
theorem dX11_pick_12 : decode cX11_pick 12 = .ok (.getfield 10, 3) := by decide +kernel
theorem dX11_pick_15 : decode cX11_pick 15 = .ok (.iload_n 2, 1) := by decide +kernel
theorem dX11_pick_16 : decode cX11_pick 16 = .ok (.invokevirtual 97, 3) := by decide +kernel
theorem dX11_pick_19 : decode cX11_pick 19 = .ok (.ifCond .eq 22, 3) := by decide +kernel
theorem dX11_pick_22 : decode cX11_pick 22 = .ok (.aload_n 0, 1) := by decide +kernel
theorem dX11_pick_23 : decode cX11_pick 23 = .ok (.getfield 10, 3) := by decide +kernel
theorem dX11_pick_26 : decode cX11_pick 26 = .ok (.iload_n 3, 1) := by decide +kernel
theorem dX11_pick_27 : decode cX11_pick 27 = .ok (.invokevirtual 97, 3) := by decide +kernel
theorem dX11_pick_30 : decode cX11_pick 30 = .ok (.ifCond .eq 11, 3) := by decide +kernel
theorem dX11_pick_33 : decode cX11_pick 33 = .ok (.iload 4, 2) := by decide +kernel
theorem dX11_pick_35 : decode cX11_pick 35 = .ok (.invokestatic 72, 3) := by decide +kernel
theorem dX11_pick_38 : decode cX11_pick 38 = .ok (.ifCond .ne 5, 3) := by decide +kernel
theorem dX11_pick_41 : decode cX11_pick 41 = .ok (.iconst (-1), 1) := by decide +kernel
theorem dX11_pick_42 : decode cX11_pick 42 = .ok (.ireturn, 1) := by decide +kernel
theorem dX11_pick_43 : decode cX11_pick 43 = .ok (.aload_n 0, 1) := by decide +kernel
theorem dX11_pick_44 : decode cX11_pick 44 = .ok (.getfield 10, 3) := by decide +kernel
theorem dX11_pick_47 : decode cX11_pick 47 = .ok (.iload_n 1, 1) := by decide +kernel
theorem dX11_pick_48 : decode cX11_pick 48 = .ok (.invokevirtual 104, 3) := by decide +kernel
theorem dX11_pick_51 : decode cX11_pick 51 = .ok (.getfield 108, 3) := by decide +kernel
theorem dX11_pick_54 : decode cX11_pick 54 = .ok (.aload_n 0, 1) := by decide +kernel
theorem dX11_pick_55 : decode cX11_pick 55 = .ok (.getfield 10, 3) := by decide +kernel
theorem dX11_pick_58 : decode cX11_pick 58 = .ok (.iload_n 2, 1) := by decide +kernel
theorem dX11_pick_59 : decode cX11_pick 59 = .ok (.invokevirtual 104, 3) := by decide +kernel
theorem dX11_pick_62 : decode cX11_pick 62 = .ok (.getfield 108, 3) := by decide +kernel
theorem dX11_pick_65 : decode cX11_pick 65 = .ok (.aload_n 0, 1) := by decide +kernel
theorem dX11_pick_66 : decode cX11_pick 66 = .ok (.getfield 10, 3) := by decide +kernel
theorem dX11_pick_69 : decode cX11_pick 69 = .ok (.iload_n 3, 1) := by decide +kernel
theorem dX11_pick_70 : decode cX11_pick 70 = .ok (.invokevirtual 104, 3) := by decide +kernel
theorem dX11_pick_73 : decode cX11_pick 73 = .ok (.getfield 108, 3) := by decide +kernel
theorem dX11_pick_76 : decode cX11_pick 76 = .ok (.invokevirtual 123, 3) := by decide +kernel
theorem dX11_pick_79 : decode cX11_pick 79 = .ok (.iload 4, 2) := by decide +kernel
theorem dX11_pick_81 : decode cX11_pick 81 = .ok (.invokevirtual 112, 3) := by decide +kernel
theorem dX11_pick_84 : decode cX11_pick 84 = .ok (.astore 5, 2) := by decide +kernel
theorem dX11_pick_86 : decode cX11_pick 86 = .ok (.aload_n 0, 1) := by decide +kernel
theorem dX11_pick_87 : decode cX11_pick 87 = .ok (.new 80, 3) := by decide +kernel
theorem dX11_pick_90 : decode cX11_pick 90 = .ok (.dup, 1) := by decide +kernel
theorem dX11_pick_91 : decode cX11_pick 91 = .ok (.bipush 7, 2) := by decide +kernel
theorem dX11_pick_93 : decode cX11_pick 93 = .ok (.iload 4, 2) := by decide +kernel
theorem dX11_pick_95 : decode cX11_pick 95 = .ok (.bipush (-2), 2) := by decide +kernel
theorem dX11_pick_97 : decode cX11_pick 97 = .ok (.iload_n 1, 1) := by decide +kernel
theorem dX11_pick_98 : decode cX11_pick 98 = .ok (.iload_n 2, 1) := by decide +kernel
theorem dX11_pick_99 : decode cX11_pick 99 = .ok (.iload_n 3, 1) := by decide +kernel
theorem dX11_pick_100 : decode cX11_pick 100 = .ok (.aload 5, 2) := by decide +kernel
theorem dX11_pick_102 : decode cX11_pick 102 = .ok (.invokespecial 87, 3) := by decide +kernel
theorem dX11_pick_105 : decode cX11_pick 105 = .ok (.invokevirtual 90, 3) := by decide +kernel
theorem dX11_pick_108 : decode cX11_pick 108 = .ok (.ireturn, 1) := by decide +kernel
theorem dX11_touch_0 : decode cX11_touch 0 = .ok (.iload_n 2, 1) := by decide +kernel
theorem dX11_touch_1 : decode cX11_touch 1 = .ok (.iconst (-1), 1) := by decide +kernel
theorem dX11_touch_2 : decode cX11_touch 2 = .ok (.if_icmp .ne 7, 3) := by decide +kernel
theorem dX11_touch_5 : decode cX11_touch 5 = .ok (.iconst 1, 1) := by decide +kernel
theorem dX11_touch_6 : decode cX11_touch 6 = .ok (.goto 4, 3) := by decide +kernel
theorem dX11_touch_9 : decode cX11_touch 9 = .ok (.iconst 0, 1) := by decide +kernel
theorem dX11_touch_10 : decode cX11_touch 10 = .ok (.istore 4, 2) := by decide +kernel
theorem dX11_touch_12 : decode cX11_touch 12 = .ok (.aload_n 0, 1) := by decide +kernel
theorem dX11_touch_13 : decode cX11_touch 13 = .ok (.getfield 10, 3) := by decide +kernel
theorem dX11_touch_16 : decode cX11_touch 16 = .ok (.iload_n 1, 1) := by decide +kernel
theorem dX11_touch_17 : decode cX11_touch 17 = .ok (.invokevirtual 97, 3) := by decide +kernel
theorem dX11_touch_20 : decode cX11_touch 20 = .ok (.ifCond .eq 26, 3) := by decide +kernel
theorem dX11_touch_23 : decode cX11_touch 23 = .ok (.iload 4, 2) := by decide +kernel
theorem dX11_touch_25 : decode cX11_touch 25 = .ok (.ifCond .ne 14, 3) := by decide +kernel
theorem dX11_touch_28 : decode cX11_touch 28 = .ok (.aload_n 0, 1) := by decide +kernel
theorem dX11_touch_29 : decode cX11_touch 29 = .ok (.getfield 10, 3) := by decide +kernel
theorem dX11_touch_32 : decode cX11_touch 32 = .ok (.iload_n 2, 1) := by decide +kernel
theorem dX11_touch_33 : decode cX11_touch 33 = .ok (.invokevirtual 97, 3) := by decide +kernel
theorem dX11_touch_36 : decode cX11_touch 36 = .ok (.ifCond .eq 10, 3) := by decide +kernel
theorem dX11_touch_39 : decode cX11_touch 39 = .ok (.iload_n 3, 1) := by decide +kernel
theorem dX11_touch_40 : decode cX11_touch 40 = .ok (.invokestatic 72, 3) := by decide +kernel
theorem dX11_touch_43 : decode cX11_touch 43 = .ok (.ifCond .ne 5, 3) := by decide +kernel
theorem dX11_touch_46 : decode cX11_touch 46 = .ok (.iconst (-1), 1) := by decide +kernel
theorem dX11_touch_47 : decode cX11_touch 47 = .ok (.ireturn, 1) := by decide +kernel
theorem dX11_touch_48 : decode cX11_touch 48 = .ok (.iload 4, 2) := by decide +kernel
theorem dX11_touch_50 : decode cX11_touch 50 = .ok (.ifCond .eq 29, 3) := by decide +kernel
theorem dX11_touch_53 : decode cX11_touch 53 = .ok (.aload_n 0, 1) := by decide +kernel
theorem dX11_touch_54 : decode cX11_touch 54 = .ok (.new 80, 3) := by decide +kernel
theorem dX11_touch_57 : decode cX11_touch 57 = .ok (.dup, 1) := by decide +kernel
theorem dX11_touch_58 : decode cX11_touch 58 = .ok (.bipush 8, 2) := by decide +kernel
theorem dX11_touch_60 : decode cX11_touch 60 = .ok (.iload_n 3, 1) := by decide +kernel
theorem dX11_touch_61 : decode cX11_touch 61 = .ok (.bipush (-2), 2) := by decide +kernel
theorem dX11_touch_63 : decode cX11_touch 63 = .ok (.iload_n 1, 1) := by decide +kernel
theorem dX11_touch_64 : decode cX11_touch 64 = .ok (.bipush (-2), 2) := by decide +kernel
theorem dX11_touch_66 : decode cX11_touch 66 = .ok (.bipush (-2), 2) := by decide +kernel
theorem dX11_touch_68 : decode cX11_touch 68 = .ok (.iload_n 3, 1) := by decide +kernel
theorem dX11_touch_69 : decode cX11_touch 69 = .ok (.invokestatic 100, 3) := by decide +kernel
theorem dX11_touch_72 : decode cX11_touch 72 = .ok (.invokespecial 87, 3) := by decide +kernel
theorem dX11_touch_75 : decode cX11_touch 75 = .ok (.invokevirtual 90, 3) := by decide +kernel
theorem dX11_touch_78 : decode cX11_touch 78 = .ok (.ireturn, 1) := by decide +kernel
theorem dX11_touch_79 : decode cX11_touch 79 = .ok (.aload_n 0, 1) := by decide +kernel
theorem dX11_touch_80 : decode cX11_touch 80 = .ok (.getfield 10, 3) := by decide +kernel
theorem dX11_touch_83 : decode cX11_touch 83 = .ok (.iload_n 2, 1) := by decide +kernel
theorem dX11_touch_84 : decode cX11_touch 84 = .ok (.invokevirtual 104, 3) := by decide +kernel
theorem dX11_touch_87 : decode cX11_touch 87 = .ok (.getfield 108, 3) := by decide +kernel
theorem dX11_touch_90 : decode cX11_touch 90 = .ok (.iload_n 3, 1) := by decide +kernel
theorem dX11_touch_91 : decode cX11_touch 91 = .ok (.invokevirtual 112, 3) := by decide +kernel
theorem dX11_touch_94 : decode cX11_touch 94 = .ok (.astore 5, 2) := by decide +kernel
theorem dX11_touch_96 : decode cX11_touch 96 = .ok (.aload_n 0, 1) := by decide +kernel
theorem dX11_touch_97 : decode cX11_touch 97 = .ok (.new 80, 3) := by decide +kernel
theorem dX11_touch_100 : decode cX11_touch 100 = .ok (.dup, 1) := by decide +kernel
theorem dX11_touch_101 : decode cX11_touch 101 = .ok (.bipush 9, 2) := by decide +kernel
theorem dX11_touch_103 : decode cX11_touch 103 = .ok (.iload_n 3, 1) := by decide +kernel
theorem dX11_touch_104 : decode cX11_touch 104 = .ok (.bipush (-2), 2) := by decide +kernel
theorem dX11_touch_106 : decode cX11_touch 106 = .ok (.iload_n 1, 1) := by decide +kernel
theorem dX11_touch_107 : decode cX11_touch 107 = .ok (.iload_n 2, 1) := by decide +kernel
theorem dX11_touch_108 : decode cX11_touch 108 = .ok (.bipush (-2), 2) := by decide +kernel
theorem dX11_touch_110 : decode cX11_touch 110 = .ok (.aload 5, 2) := by decide +kernel
theorem dX11_touch_112 : decode cX11_touch 112 = .ok (.invokespecial 87, 3) := by decide +kernel
theorem dX11_touch_115 : decode cX11_touch 115 = .ok (.invokevirtual 90, 3) := by decide +kernel
theorem dX11_touch_118 : decode cX11_touch 118 = .ok (.ireturn, 1) := by decide +kernel
theorem dX11_drop_0 : decode cX11_drop 0 = .ok (.aload_n 0, 1) := by decide +kernel
theorem dX11_drop_1 : decode cX11_drop 1 = .ok (.getfield 10, 3) := by decide +kernel
theorem dX11_drop_4 : decode cX11_drop 4 = .ok (.invokevirtual 127, 3) := by decide +kernel
theorem dX11_drop_7 : decode cX11_drop 7 = .ok (.ifCond .ne 6, 3) := by decide +kernel
theorem dX11_drop_10 : decode cX11_drop 10 = .ok (.bipush (-2), 2) := by decide +kernel
theorem dX11_drop_12 : decode cX11_drop 12 = .ok (.ireturn, 1) := by decide +kernel
theorem dX11_drop_13 : decode cX11_drop 13 = .ok (.aload_n 0, 1) := by decide +kernel
theorem dX11_drop_14 : decode cX11_drop 14 = .ok (.invokevirtual 131, 3) := by decide +kernel
theorem dX11_drop_17 : decode cX11_drop 17 = .ok (.aload_n 0, 1) := by decide +kernel
theorem dX11_drop_18 : decode cX11_drop 18 = .ok (.getfield 10, 3) := by decide +kernel
theorem dX11_drop_21 : decode cX11_drop 21 = .ok (.invokevirtual 134, 3) := by decide +kernel
theorem dX11_drop_24 : decode cX11_drop 24 = .ok (.aload_n 0, 1) := by decide +kernel
theorem dX11_drop_25 : decode cX11_drop 25 = .ok (.getfield 10, 3) := by decide +kernel
theorem dX11_drop_28 : decode cX11_drop 28 = .ok (.invokevirtual 127, 3) := by decide +kernel
theorem dX11_drop_31 : decode cX11_drop 31 = .ok (.ireturn, 1) := by decide +kernel
theorem dX11_parts_0 : decode cX11_parts 0 = .ok (.iload_n 1, 1) := by decide +kernel
theorem dX11_parts_1 : decode cX11_parts 1 = .ok (.invokestatic 137, 3) := by decide +kernel
theorem dX11_parts_4 : decode cX11_parts 4 = .ok (.ifCond .eq 12, 3) := by decide +kernel
theorem dX11_parts_7 : decode cX11_parts 7 = .ok (.iload_n 2, 1) := by decide +kernel
theorem dX11_parts_8 : decode cX11_parts 8 = .ok (.iconst 1, 1) := by decide +kernel
theorem dX11_parts_9 : decode cX11_parts 9 = .ok (.iconst 4, 1) := by decide +kernel
theorem dX11_parts_10 : decode cX11_parts 10 = .ok (.invokestatic 115, 3) := by decide +kernel
theorem dX11_parts_13 : decode cX11_parts 13 = .ok (.ifCond .ne 5, 3) := by decide +kernel
theorem dX11_parts_16 : decode cX11_parts 16 = .ok (.iconst (-1), 1) := by decide +kernel
theorem dX11_parts_17 : decode cX11_parts 17 = .ok (.ireturn, 1) := by decide +kernel
theorem dX11_parts_18 : decode cX11_parts 18 = .ok (.aload_n 0, 1) := by decide +kernel
theorem dX11_parts_19 : decode cX11_parts 19 = .ok (.invokevirtual 131, 3) := by decide +kernel
theorem dX11_parts_22 : decode cX11_parts 22 = .ok (.aload_n 0, 1) := by decide +kernel
theorem dX11_parts_23 : decode cX11_parts 23 = .ok (.getfield 19, 3) := by decide +kernel
theorem dX11_parts_26 : decode cX11_parts 26 = .ok (.getfield 140, 3) := by decide +kernel
theorem dX11_parts_29 : decode cX11_parts 29 = .ok (.iload_n 1, 1) := by decide +kernel
theorem dX11_parts_30 : decode cX11_parts 30 = .ok (.iaload, 1) := by decide +kernel
theorem dX11_parts_31 : decode cX11_parts 31 = .ok (.istore_n 3, 1) := by decide +kernel
theorem dX11_parts_32 : decode cX11_parts 32 = .ok (.aload_n 0, 1) := by decide +kernel
theorem dX11_parts_33 : decode cX11_parts 33 = .ok (.getfield 19, 3) := by decide +kernel
theorem dX11_parts_36 : decode cX11_parts 36 = .ok (.getfield 140, 3) := by decide +kernel
theorem dX11_parts_39 : decode cX11_parts 39 = .ok (.iload_n 1, 1) := by decide +kernel
theorem dX11_parts_40 : decode cX11_parts 40 = .ok (.iload_n 2, 1) := by decide +kernel
theorem dX11_parts_41 : decode cX11_parts 41 = .ok (.iastore, 1) := by decide +kernel
theorem dX11_parts_42 : decode cX11_parts 42 = .ok (.iload_n 3, 1) := by decide +kernel
theorem dX11_parts_43 : decode cX11_parts 43 = .ok (.ireturn, 1) := by decide +kernel
theorem dX11_length_0 : decode cX11_length 0 = .ok (.iload_n 1, 1) := by decide +kernel
theorem dX11_length_1 : decode cX11_length 1 = .ok (.invokestatic 137, 3) := by decide +kernel
theorem dX11_length_4 : decode cX11_length 4 = .ok (.ifCond .eq 13, 3) := by decide +kernel
theorem dX11_length_7 : decode cX11_length 7 = .ok (.iload_n 2, 1) := by decide +kernel
theorem dX11_length_8 : decode cX11_length 8 = .ok (.iconst 1, 1) := by decide +kernel
theorem dX11_length_9 : decode cX11_length 9 = .ok (.bipush 8, 2) := by decide +kernel
theorem dX11_length_11 : decode cX11_length 11 = .ok (.invokestatic 115, 3) := by decide +kernel
theorem dX11_length_14 : decode cX11_length 14 = .ok (.ifCond .ne 5, 3) := by decide +kernel
theorem dX11_length_17 : decode cX11_length 17 = .ok (.iconst (-1), 1) := by decide +kernel
theorem dX11_length_18 : decode cX11_length 18 = .ok (.ireturn, 1) := by decide +kernel
theorem dX11_length_19 : decode cX11_length 19 = .ok (.aload_n 0, 1) := by decide +kernel
theorem dX11_length_20 : decode cX11_length 20 = .ok (.invokevirtual 131, 3) := by decide +kernel
theorem dX11_length_23 : decode cX11_length 23 = .ok (.aload_n 0, 1) := by decide +kernel
theorem dX11_length_24 : decode cX11_length 24 = .ok (.getfield 19, 3) := by decide +kernel
theorem dX11_length_27 : decode cX11_length 27 = .ok (.getfield 144, 3) := by decide +kernel
theorem dX11_length_30 : decode cX11_length 30 = .ok (.iload_n 1, 1) := by decide +kernel
theorem dX11_length_31 : decode cX11_length 31 = .ok (.iaload, 1) := by decide +kernel
theorem dX11_length_32 : decode cX11_length 32 = .ok (.istore 4, 2) := by decide +kernel
theorem dX11_length_34 : decode cX11_length 34 = .ok (.aload_n 0, 1) := by decide +kernel
theorem dX11_length_35 : decode cX11_length 35 = .ok (.getfield 19, 3) := by decide +kernel
theorem dX11_length_38 : decode cX11_length 38 = .ok (.getfield 144, 3) := by decide +kernel
theorem dX11_length_41 : decode cX11_length 41 = .ok (.iload_n 1, 1) := by decide +kernel
theorem dX11_length_42 : decode cX11_length 42 = .ok (.iload_n 2, 1) := by decide +kernel
theorem dX11_length_43 : decode cX11_length 43 = .ok (.iastore, 1) := by decide +kernel
theorem dX11_length_44 : decode cX11_length 44 = .ok (.aload_n 0, 1) := by decide +kernel
theorem dX11_length_45 : decode cX11_length 45 = .ok (.getfield 19, 3) := by decide +kernel
theorem dX11_length_48 : decode cX11_length 48 = .ok (.getfield 147, 3) := by decide +kernel
theorem dX11_length_51 : decode cX11_length 51 = .ok (.iload_n 1, 1) := by decide +kernel
theorem dX11_length_52 : decode cX11_length 52 = .ok (.iload_n 3, 1) := by decide +kernel
theorem dX11_length_53 : decode cX11_length 53 = .ok (.bastore, 1) := by decide +kernel
theorem dX11_length_54 : decode cX11_length 54 = .ok (.iload 4, 2) := by decide +kernel
theorem dX11_length_56 : decode cX11_length 56 = .ok (.ireturn, 1) := by decide +kernel
theorem dX11_feed_0 : decode cX11_feed 0 = .ok (.iload_n 1, 1) := by decide +kernel
theorem dX11_feed_1 : decode cX11_feed 1 = .ok (.invokestatic 94, 3) := by decide +kernel
theorem dX11_feed_4 : decode cX11_feed 4 = .ok (.ifCond .ne 5, 3) := by decide +kernel
theorem dX11_feed_7 : decode cX11_feed 7 = .ok (.iconst (-1), 1) := by decide +kernel
theorem dX11_feed_8 : decode cX11_feed 8 = .ok (.ireturn, 1) := by decide +kernel
theorem dX11_feed_9 : decode cX11_feed 9 = .ok (.aload_n 0, 1) := by decide +kernel
theorem dX11_feed_10 : decode cX11_feed 10 = .ok (.getfield 55, 3) := by decide +kernel
theorem dX11_feed_13 : decode cX11_feed 13 = .ok (.getfield 151, 3) := by decide +kernel
theorem dX11_feed_16 : decode cX11_feed 16 = .ok (.iload_n 1, 1) := by decide +kernel
theorem dX11_feed_17 : decode cX11_feed 17 = .ok (.aaload, 1) := by decide +kernel
theorem dX11_feed_18 : decode cX11_feed 18 = .ok (.astore 4, 2) := by decide +kernel
theorem dX11_feed_20 : decode cX11_feed 20 = .ok (.aload 4, 2) := by decide +kernel
theorem dX11_feed_22 : decode cX11_feed 22 = .ok (.invokevirtual 155, 3) := by decide +kernel
theorem dX11_feed_25 : decode cX11_feed 25 = .ok (.ifCond .eq 6, 3) := by decide +kernel
theorem dX11_feed_28 : decode cX11_feed 28 = .ok (.bipush (-2), 2) := by decide +kernel
theorem dX11_feed_30 : decode cX11_feed 30 = .ok (.ireturn, 1) := by decide +kernel
theorem dX11_feed_31 : decode cX11_feed 31 = .ok (.aload 4, 2) := by decide +kernel
theorem dX11_feed_33 : decode cX11_feed 33 = .ok (.lload_n 2, 1) := by decide +kernel
theorem dX11_feed_34 : decode cX11_feed 34 = .ok (.invokevirtual 161, 3) := by decide +kernel
theorem dX11_feed_37 : decode cX11_feed 37 = .ok (.aload 4, 2) := by decide +kernel
theorem dX11_feed_39 : decode cX11_feed 39 = .ok (.invokevirtual 164, 3) := by decide +kernel
theorem dX11_feed_42 : decode cX11_feed 42 = .ok (.ireturn, 1) := by decide +kernel
theorem dX11_place_0 : decode cX11_place 0 = .ok (.iload_n 1, 1) := by decide +kernel
theorem dX11_place_1 : decode cX11_place 1 = .ok (.i2l, 1) := by decide +kernel
theorem dX11_place_2 : decode cX11_place 2 = .ok (.invokestatic 165, 3) := by decide +kernel
theorem dX11_place_5 : decode cX11_place 5 = .ok (.ifCond .ne 5, 3) := by decide +kernel
theorem dX11_place_8 : decode cX11_place 8 = .ok (.iconst (-1), 1) := by decide +kernel
theorem dX11_place_9 : decode cX11_place 9 = .ok (.ireturn, 1) := by decide +kernel
theorem dX11_place_10 : decode cX11_place 10 = .ok (.aload_n 0, 1) := by decide +kernel
theorem dX11_place_11 : decode cX11_place 11 = .ok (.getfield 55, 3) := by decide +kernel
theorem dX11_place_14 : decode cX11_place 14 = .ok (.getfield 169, 3) := by decide +kernel
theorem dX11_place_17 : decode cX11_place 17 = .ok (.iload_n 1, 1) := by decide +kernel
theorem dX11_place_18 : decode cX11_place 18 = .ok (.lload_n 2, 1) := by decide +kernel
theorem dX11_place_19 : decode cX11_place 19 = .ok (.lastore, 1) := by decide +kernel
theorem dX11_place_20 : decode cX11_place 20 = .ok (.iconst 0, 1) := by decide +kernel
theorem dX11_place_21 : decode cX11_place 21 = .ok (.ireturn, 1) := by decide +kernel
theorem dX11_act_0 : decode cX11_act 0 = .ok (.aload_n 0, 1) := by decide +kernel
theorem dX11_act_1 : decode cX11_act 1 = .ok (.getfield 10, 3) := by decide +kernel
theorem dX11_act_4 : decode cX11_act 4 = .ok (.iload_n 1, 1) := by decide +kernel
theorem dX11_act_5 : decode cX11_act 5 = .ok (.invokevirtual 97, 3) := by decide +kernel
theorem dX11_act_8 : decode cX11_act 8 = .ok (.ifCond .ne 5, 3) := by decide +kernel
theorem dX11_act_11 : decode cX11_act 11 = .ok (.iconst (-1), 1) := by decide +kernel
theorem dX11_act_12 : decode cX11_act 12 = .ok (.ireturn, 1) := by decide +kernel
theorem dX11_act_13 : decode cX11_act 13 = .ok (.aload_n 0, 1) := by decide +kernel
theorem dX11_act_14 : decode cX11_act 14 = .ok (.getfield 10, 3) := by decide +kernel
theorem dX11_act_17 : decode cX11_act 17 = .ok (.iload_n 1, 1) := by decide +kernel
theorem dX11_act_18 : decode cX11_act 18 = .ok (.invokevirtual 104, 3) := by decide +kernel
theorem dX11_act_21 : decode cX11_act 21 = .ok (.astore_n 3, 1) := by decide +kernel
theorem dX11_act_22 : decode cX11_act 22 = .ok (.iload_n 2, 1) := by decide +kernel
theorem dX11_act_23 : decode cX11_act 23 = .ok (.tableswitch 101 0 8 #[49, 54, 59, 64, 69, 74, 79, 88, 96], 49) := by decide +kernel
theorem dX11_act_72 : decode cX11_act 72 = .ok (.aload_n 3, 1) := by decide +kernel
theorem dX11_act_73 : decode cX11_act 73 = .ok (.getfield 173, 3) := by decide +kernel
theorem dX11_act_76 : decode cX11_act 76 = .ok (.ireturn, 1) := by decide +kernel
theorem dX11_act_77 : decode cX11_act 77 = .ok (.aload_n 3, 1) := by decide +kernel
theorem dX11_act_78 : decode cX11_act 78 = .ok (.getfield 177, 3) := by decide +kernel
theorem dX11_act_81 : decode cX11_act 81 = .ok (.ireturn, 1) := by decide +kernel
theorem dX11_act_82 : decode cX11_act 82 = .ok (.aload_n 3, 1) := by decide +kernel
theorem dX11_act_83 : decode cX11_act 83 = .ok (.getfield 180, 3) := by decide +kernel
theorem dX11_act_86 : decode cX11_act 86 = .ok (.ireturn, 1) := by decide +kernel
theorem dX11_act_87 : decode cX11_act 87 = .ok (.aload_n 3, 1) := by decide +kernel
theorem dX11_act_88 : decode cX11_act 88 = .ok (.getfield 183, 3) := by decide +kernel
theorem dX11_act_91 : decode cX11_act 91 = .ok (.ireturn, 1) := by decide +kernel
theorem dX11_act_92 : decode cX11_act 92 = .ok (.aload_n 3, 1) := by decide +kernel
theorem dX11_act_93 : decode cX11_act 93 = .ok (.getfield 186, 3) := by decide +kernel
theorem dX11_act_96 : decode cX11_act 96 = .ok (.ireturn, 1) := by decide +kernel
theorem dX11_act_97 : decode cX11_act 97 = .ok (.aload_n 3, 1) := by decide +kernel
theorem dX11_act_98 : decode cX11_act 98 = .ok (.getfield 189, 3) := by decide +kernel
theorem dX11_act_101 : decode cX11_act 101 = .ok (.ireturn, 1) := by decide +kernel
theorem dX11_act_102 : decode cX11_act 102 = .ok (.aload_n 0, 1) := by decide +kernel
theorem dX11_act_103 : decode cX11_act 103 = .ok (.getfield 19, 3) := by decide +kernel
theorem dX11_act_106 : decode cX11_act 106 = .ok (.aload_n 3, 1) := by decide +kernel
theorem dX11_act_107 : decode cX11_act 107 = .ok (.invokevirtual 192, 3) := by decide +kernel
theorem dX11_act_110 : decode cX11_act 110 = .ok (.ireturn, 1) := by decide +kernel
theorem dX11_act_111 : decode cX11_act 111 = .ok (.aload_n 3, 1) := by decide +kernel
theorem dX11_act_112 : decode cX11_act 112 = .ok (.getfield 108, 3) := by decide +kernel
theorem dX11_act_115 : decode cX11_act 115 = .ok (.invokevirtual 195, 3) := by decide +kernel
theorem dX11_act_118 : decode cX11_act 118 = .ok (.ireturn, 1) := by decide +kernel
theorem dX11_act_119 : decode cX11_act 119 = .ok (.aload_n 3, 1) := by decide +kernel
theorem dX11_act_120 : decode cX11_act 120 = .ok (.invokevirtual 198, 3) := by decide +kernel
theorem dX11_act_123 : decode cX11_act 123 = .ok (.ireturn, 1) := by decide +kernel
theorem dX11_act_124 : decode cX11_act 124 = .ok (.iconst (-1), 1) := by decide +kernel
theorem dX11_act_125 : decode cX11_act 125 = .ok (.ireturn, 1) := by decide +kernel
theorem dX11_span_0 : decode cX11_span 0 = .ok (.aload_n 0, 1) := by decide +kernel
theorem dX11_span_1 : decode cX11_span 1 = .ok (.getfield 10, 3) := by decide +kernel
theorem dX11_span_4 : decode cX11_span 4 = .ok (.iload_n 1, 1) := by decide +kernel
theorem dX11_span_5 : decode cX11_span 5 = .ok (.invokevirtual 97, 3) := by decide +kernel
theorem dX11_span_8 : decode cX11_span 8 = .ok (.ifCond .ne 13, 3) := by decide +kernel
theorem dX11_span_11 : decode cX11_span 11 = .ok (.new 201, 3) := by decide +kernel
theorem dX11_span_14 : decode cX11_span 14 = .ok (.dup, 1) := by decide +kernel
theorem dX11_span_15 : decode cX11_span 15 = .ok (.ldc 203, 2) := by decide +kernel
theorem dX11_span_17 : decode cX11_span 17 = .ok (.invokespecial 205, 3) := by decide +kernel
theorem dX11_span_20 : decode cX11_span 20 = .ok (.athrow, 1) := by decide +kernel
theorem dX11_span_21 : decode cX11_span 21 = .ok (.aload_n 0, 1) := by decide +kernel
theorem dX11_span_22 : decode cX11_span 22 = .ok (.getfield 10, 3) := by decide +kernel
theorem dX11_span_25 : decode cX11_span 25 = .ok (.iload_n 1, 1) := by decide +kernel
theorem dX11_span_26 : decode cX11_span 26 = .ok (.invokevirtual 104, 3) := by decide +kernel
theorem dX11_span_29 : decode cX11_span 29 = .ok (.getfield 108, 3) := by decide +kernel
theorem dX11_span_32 : decode cX11_span 32 = .ok (.astore_n 3, 1) := by decide +kernel
theorem dX11_span_33 : decode cX11_span 33 = .ok (.iload_n 2, 1) := by decide +kernel
theorem dX11_span_34 : decode cX11_span 34 = .ok (.ifCond .eq 10, 3) := by decide +kernel
theorem dX11_span_37 : decode cX11_span 37 = .ok (.aload_n 3, 1) := by decide +kernel
theorem dX11_span_38 : decode cX11_span 38 = .ok (.getfield 208, 3) := by decide +kernel
theorem dX11_span_41 : decode cX11_span 41 = .ok (.goto 7, 3) := by decide +kernel
theorem dX11_span_44 : decode cX11_span 44 = .ok (.aload_n 3, 1) := by decide +kernel
theorem dX11_span_45 : decode cX11_span 45 = .ok (.getfield 212, 3) := by decide +kernel
theorem dX11_span_48 : decode cX11_span 48 = .ok (.lreturn, 1) := by decide +kernel
theorem dX11_needs_0 : decode cX11_needs 0 = .ok (.aload_n 0, 1) := by decide +kernel
theorem dX11_needs_1 : decode cX11_needs 1 = .ok (.getfield 10, 3) := by decide +kernel
theorem dX11_needs_4 : decode cX11_needs 4 = .ok (.iload_n 1, 1) := by decide +kernel
theorem dX11_needs_5 : decode cX11_needs 5 = .ok (.invokevirtual 97, 3) := by decide +kernel
theorem dX11_needs_8 : decode cX11_needs 8 = .ok (.ifCond .eq 19, 3) := by decide +kernel
theorem dX11_needs_11 : decode cX11_needs 11 = .ok (.aload_n 0, 1) := by decide +kernel
theorem dX11_needs_12 : decode cX11_needs 12 = .ok (.getfield 10, 3) := by decide +kernel
theorem dX11_needs_15 : decode cX11_needs 15 = .ok (.iload_n 2, 1) := by decide +kernel
theorem dX11_needs_16 : decode cX11_needs 16 = .ok (.invokevirtual 97, 3) := by decide +kernel
theorem dX11_needs_19 : decode cX11_needs 19 = .ok (.ifCond .eq 8, 3) := by decide +kernel
theorem dX11_needs_22 : decode cX11_needs 22 = .ok (.iload_n 1, 1) := by decide +kernel
theorem dX11_needs_23 : decode cX11_needs 23 = .ok (.iload_n 2, 1) := by decide +kernel
theorem dX11_needs_24 : decode cX11_needs 24 = .ok (.if_icmp .lt 5, 3) := by decide +kernel
theorem dX11_needs_27 : decode cX11_needs 27 = .ok (.iconst (-1), 1) := by decide +kernel
theorem dX11_needs_28 : decode cX11_needs 28 = .ok (.ireturn, 1) := by decide +kernel
theorem dX11_needs_29 : decode cX11_needs 29 = .ok (.aload_n 0, 1) := by decide +kernel
theorem dX11_needs_30 : decode cX11_needs 30 = .ok (.getfield 28, 3) := by decide +kernel
theorem dX11_needs_33 : decode cX11_needs 33 = .ok (.iload_n 1, 1) := by decide +kernel
theorem dX11_needs_34 : decode cX11_needs 34 = .ok (.iload_n 2, 1) := by decide +kernel
theorem dX11_needs_35 : decode cX11_needs 35 = .ok (.invokevirtual 215, 3) := by decide +kernel
theorem dX11_needs_38 : decode cX11_needs 38 = .ok (.ireturn, 1) := by decide +kernel
theorem dX11_lay_0 : decode cX11_lay 0 = .ok (.aload_n 0, 1) := by decide +kernel
theorem dX11_lay_1 : decode cX11_lay 1 = .ok (.getfield 10, 3) := by decide +kernel
theorem dX11_lay_4 : decode cX11_lay 4 = .ok (.invokevirtual 127, 3) := by decide +kernel
theorem dX11_lay_7 : decode cX11_lay 7 = .ok (.ifCond .ne 6, 3) := by decide +kernel
theorem dX11_lay_10 : decode cX11_lay 10 = .ok (.bipush (-2), 2) := by decide +kernel
theorem dX11_lay_12 : decode cX11_lay 12 = .ok (.ireturn, 1) := by decide +kernel
theorem dX11_lay_13 : decode cX11_lay 13 = .ok (.aload_n 0, 1) := by decide +kernel
theorem dX11_lay_14 : decode cX11_lay 14 = .ok (.getfield 65, 3) := by decide +kernel
theorem dX11_lay_17 : decode cX11_lay 17 = .ok (.ifCond .ne 22, 3) := by decide +kernel
theorem dX11_lay_20 : decode cX11_lay 20 = .ok (.aload_n 0, 1) := by decide +kernel
theorem dX11_lay_21 : decode cX11_lay 21 = .ok (.getfield 37, 3) := by decide +kernel
theorem dX11_lay_24 : decode cX11_lay 24 = .ok (.invokevirtual 219, 3) := by decide +kernel
theorem dX11_lay_27 : decode cX11_lay 27 = .ok (.aload_n 0, 1) := by decide +kernel
theorem dX11_lay_28 : decode cX11_lay 28 = .ok (.getfield 46, 3) := by decide +kernel
theorem dX11_lay_31 : decode cX11_lay 31 = .ok (.invokevirtual 222, 3) := by decide +kernel
theorem dX11_lay_34 : decode cX11_lay 34 = .ok (.aload_n 0, 1) := by decide +kernel
theorem dX11_lay_35 : decode cX11_lay 35 = .ok (.iconst 1, 1) := by decide +kernel
theorem dX11_lay_36 : decode cX11_lay 36 = .ok (.putfield 65, 3) := by decide +kernel
theorem dX11_lay_39 : decode cX11_lay 39 = .ok (.aload_n 0, 1) := by decide +kernel
theorem dX11_lay_40 : decode cX11_lay 40 = .ok (.getfield 37, 3) := by decide +kernel
theorem dX11_lay_43 : decode cX11_lay 43 = .ok (.getfield 225, 3) := by decide +kernel
theorem dX11_lay_46 : decode cX11_lay 46 = .ok (.ireturn, 1) := by decide +kernel
theorem dX11_tick_0 : decode cX11_tick 0 = .ok (.aload_n 0, 1) := by decide +kernel
theorem dX11_tick_1 : decode cX11_tick 1 = .ok (.getfield 10, 3) := by decide +kernel
theorem dX11_tick_4 : decode cX11_tick 4 = .ok (.iload_n 1, 1) := by decide +kernel
theorem dX11_tick_5 : decode cX11_tick 5 = .ok (.invokevirtual 97, 3) := by decide +kernel
theorem dX11_tick_8 : decode cX11_tick 8 = .ok (.ifCond .eq 13, 3) := by decide +kernel
theorem dX11_tick_11 : decode cX11_tick 11 = .ok (.iload_n 2, 1) := by decide +kernel
theorem dX11_tick_12 : decode cX11_tick 12 = .ok (.iconst 0, 1) := by decide +kernel
theorem dX11_tick_13 : decode cX11_tick 13 = .ok (.bipush 6, 2) := by decide +kernel
theorem dX11_tick_15 : decode cX11_tick 15 = .ok (.invokestatic 115, 3) := by decide +kernel
theorem dX11_tick_18 : decode cX11_tick 18 = .ok (.ifCond .ne 5, 3) := by decide +kernel
theorem dX11_tick_21 : decode cX11_tick 21 = .ok (.iconst (-1), 1) := by decide +kernel
theorem dX11_tick_22 : decode cX11_tick 22 = .ok (.ireturn, 1) := by decide +kernel
theorem dX11_tick_23 : decode cX11_tick 23 = .ok (.aload_n 0, 1) := by decide +kernel
theorem dX11_tick_24 : decode cX11_tick 24 = .ok (.getfield 65, 3) := by decide +kernel
theorem dX11_tick_27 : decode cX11_tick 27 = .ok (.ifCond .ne 6, 3) := by decide +kernel
theorem dX11_tick_30 : decode cX11_tick 30 = .ok (.bipush (-3), 2) := by decide +kernel
theorem dX11_tick_32 : decode cX11_tick 32 = .ok (.ireturn, 1) := by decide +kernel
theorem dX11_tick_33 : decode cX11_tick 33 = .ok (.iload_n 2, 1) := by decide +kernel
theorem dX11_tick_34 : decode cX11_tick 34 = .ok (.tableswitch 127 0 5 #[38, 48, 58, 74, 107, 117], 38) := by decide +kernel
theorem dX11_tick_72 : decode cX11_tick 72 = .ok (.aload_n 0, 1) := by decide +kernel
theorem dX11_tick_73 : decode cX11_tick 73 = .ok (.getfield 37, 3) := by decide +kernel
theorem dX11_tick_76 : decode cX11_tick 76 = .ok (.getfield 228, 3) := by decide +kernel
theorem dX11_tick_79 : decode cX11_tick 79 = .ok (.iload_n 1, 1) := by decide +kernel
theorem dX11_tick_80 : decode cX11_tick 80 = .ok (.iaload, 1) := by decide +kernel
theorem dX11_tick_81 : decode cX11_tick 81 = .ok (.ireturn, 1) := by decide +kernel
theorem dX11_tick_82 : decode cX11_tick 82 = .ok (.aload_n 0, 1) := by decide +kernel
theorem dX11_tick_83 : decode cX11_tick 83 = .ok (.getfield 37, 3) := by decide +kernel
theorem dX11_tick_86 : decode cX11_tick 86 = .ok (.getfield 231, 3) := by decide +kernel
theorem dX11_tick_89 : decode cX11_tick 89 = .ok (.iload_n 1, 1) := by decide +kernel
theorem dX11_tick_90 : decode cX11_tick 90 = .ok (.iaload, 1) := by decide +kernel
theorem dX11_tick_91 : decode cX11_tick 91 = .ok (.ireturn, 1) := by decide +kernel
theorem dX11_tick_92 : decode cX11_tick 92 = .ok (.aload_n 0, 1) := by decide +kernel
theorem dX11_tick_93 : decode cX11_tick 93 = .ok (.getfield 28, 3) := by decide +kernel
theorem dX11_tick_96 : decode cX11_tick 96 = .ok (.iload_n 1, 1) := by decide +kernel
theorem dX11_tick_97 : decode cX11_tick 97 = .ok (.aload_n 0, 1) := by decide +kernel
theorem dX11_tick_98 : decode cX11_tick 98 = .ok (.getfield 37, 3) := by decide +kernel
theorem dX11_tick_101 : decode cX11_tick 101 = .ok (.getfield 228, 3) := by decide +kernel
theorem dX11_tick_104 : decode cX11_tick 104 = .ok (.invokevirtual 234, 3) := by decide +kernel
theorem dX11_tick_107 : decode cX11_tick 107 = .ok (.ireturn, 1) := by decide +kernel
theorem dX11_tick_108 : decode cX11_tick 108 = .ok (.aload_n 0, 1) := by decide +kernel
theorem dX11_tick_109 : decode cX11_tick 109 = .ok (.getfield 37, 3) := by decide +kernel
theorem dX11_tick_112 : decode cX11_tick 112 = .ok (.getfield 228, 3) := by decide +kernel
theorem dX11_tick_115 : decode cX11_tick 115 = .ok (.iload_n 1, 1) := by decide +kernel
theorem dX11_tick_116 : decode cX11_tick 116 = .ok (.iaload, 1) := by decide +kernel
theorem dX11_tick_117 : decode cX11_tick 117 = .ok (.aload_n 0, 1) := by decide +kernel
theorem dX11_tick_118 : decode cX11_tick 118 = .ok (.getfield 28, 3) := by decide +kernel
theorem dX11_tick_121 : decode cX11_tick 121 = .ok (.iload_n 1, 1) := by decide +kernel
theorem dX11_tick_122 : decode cX11_tick 122 = .ok (.aload_n 0, 1) := by decide +kernel
theorem dX11_tick_123 : decode cX11_tick 123 = .ok (.getfield 37, 3) := by decide +kernel
theorem dX11_tick_126 : decode cX11_tick 126 = .ok (.getfield 228, 3) := by decide +kernel
theorem dX11_tick_129 : decode cX11_tick 129 = .ok (.invokevirtual 238, 3) := by decide +kernel
theorem dX11_tick_132 : decode cX11_tick 132 = .ok (.if_icmp .le 7, 3) := by decide +kernel
theorem dX11_tick_135 : decode cX11_tick 135 = .ok (.iconst 1, 1) := by decide +kernel
theorem dX11_tick_136 : decode cX11_tick 136 = .ok (.goto 4, 3) := by decide +kernel
theorem dX11_tick_139 : decode cX11_tick 139 = .ok (.iconst 0, 1) := by decide +kernel
theorem dX11_tick_140 : decode cX11_tick 140 = .ok (.ireturn, 1) := by decide +kernel
theorem dX11_tick_141 : decode cX11_tick 141 = .ok (.aload_n 0, 1) := by decide +kernel
theorem dX11_tick_142 : decode cX11_tick 142 = .ok (.getfield 46, 3) := by decide +kernel
theorem dX11_tick_145 : decode cX11_tick 145 = .ok (.getfield 241, 3) := by decide +kernel
theorem dX11_tick_148 : decode cX11_tick 148 = .ok (.iload_n 1, 1) := by decide +kernel
theorem dX11_tick_149 : decode cX11_tick 149 = .ok (.iaload, 1) := by decide +kernel
theorem dX11_tick_150 : decode cX11_tick 150 = .ok (.ireturn, 1) := by decide +kernel
theorem dX11_tick_151 : decode cX11_tick 151 = .ok (.aload_n 0, 1) := by decide +kernel
theorem dX11_tick_152 : decode cX11_tick 152 = .ok (.getfield 46, 3) := by decide +kernel
theorem dX11_tick_155 : decode cX11_tick 155 = .ok (.getfield 244, 3) := by decide +kernel
theorem dX11_tick_158 : decode cX11_tick 158 = .ok (.iload_n 1, 1) := by decide +kernel
theorem dX11_tick_159 : decode cX11_tick 159 = .ok (.iaload, 1) := by decide +kernel
theorem dX11_tick_160 : decode cX11_tick 160 = .ok (.ireturn, 1) := by decide +kernel
theorem dX11_tick_161 : decode cX11_tick 161 = .ok (.aload_n 0, 1) := by decide +kernel
theorem dX11_tick_162 : decode cX11_tick 162 = .ok (.getfield 46, 3) := by decide +kernel
theorem dX11_tick_165 : decode cX11_tick 165 = .ok (.getfield 247, 3) := by decide +kernel
theorem dX11_tick_168 : decode cX11_tick 168 = .ok (.iload_n 1, 1) := by decide +kernel
theorem dX11_tick_169 : decode cX11_tick 169 = .ok (.iaload, 1) := by decide +kernel
theorem dX11_tick_170 : decode cX11_tick 170 = .ok (.ireturn, 1) := by decide +kernel
theorem dX11_bound_0 : decode cX11_bound 0 = .ok (.iload_n 1, 1) := by decide +kernel
theorem dX11_bound_1 : decode cX11_bound 1 = .ok (.iconst 0, 1) := by decide +kernel
theorem dX11_bound_2 : decode cX11_bound 2 = .ok (.iconst 5, 1) := by decide +kernel
theorem dX11_bound_3 : decode cX11_bound 3 = .ok (.invokestatic 115, 3) := by decide +kernel
theorem dX11_bound_6 : decode cX11_bound 6 = .ok (.ifCond .ne 5, 3) := by decide +kernel
theorem dX11_bound_9 : decode cX11_bound 9 = .ok (.iconst (-1), 1) := by decide +kernel
theorem dX11_bound_10 : decode cX11_bound 10 = .ok (.ireturn, 1) := by decide +kernel
theorem dX11_bound_11 : decode cX11_bound 11 = .ok (.iload_n 1, 1) := by decide +kernel
theorem dX11_bound_12 : decode cX11_bound 12 = .ok (.ifCond .ne 11, 3) := by decide +kernel
theorem dX11_bound_15 : decode cX11_bound 15 = .ok (.aload_n 0, 1) := by decide +kernel
theorem dX11_bound_16 : decode cX11_bound 16 = .ok (.getfield 28, 3) := by decide +kernel
theorem dX11_bound_19 : decode cX11_bound 19 = .ok (.invokevirtual 250, 3) := by decide +kernel
theorem dX11_bound_22 : decode cX11_bound 22 = .ok (.ireturn, 1) := by decide +kernel
theorem dX11_bound_23 : decode cX11_bound 23 = .ok (.iload_n 1, 1) := by decide +kernel
theorem dX11_bound_24 : decode cX11_bound 24 = .ok (.iconst 4, 1) := by decide +kernel
theorem dX11_bound_25 : decode cX11_bound 25 = .ok (.if_icmp .gt 18, 3) := by decide +kernel
theorem dX11_bound_28 : decode cX11_bound 28 = .ok (.aload_n 0, 1) := by decide +kernel
theorem dX11_bound_29 : decode cX11_bound 29 = .ok (.getfield 19, 3) := by decide +kernel
theorem dX11_bound_32 : decode cX11_bound 32 = .ok (.iload_n 1, 1) := by decide +kernel
theorem dX11_bound_33 : decode cX11_bound 33 = .ok (.iconst 1, 1) := by decide +kernel
theorem dX11_bound_34 : decode cX11_bound 34 = .ok (.isub, 1) := by decide +kernel
theorem dX11_bound_35 : decode cX11_bound 35 = .ok (.aload_n 0, 1) := by decide +kernel
theorem dX11_bound_36 : decode cX11_bound 36 = .ok (.getfield 10, 3) := by decide +kernel
theorem dX11_bound_39 : decode cX11_bound 39 = .ok (.invokevirtual 253, 3) := by decide +kernel
theorem dX11_bound_42 : decode cX11_bound 42 = .ok (.ireturn, 1) := by decide +kernel
theorem dX11_bound_43 : decode cX11_bound 43 = .ok (.aload_n 0, 1) := by decide +kernel
theorem dX11_bound_44 : decode cX11_bound 44 = .ok (.getfield 28, 3) := by decide +kernel
theorem dX11_bound_47 : decode cX11_bound 47 = .ok (.invokevirtual 250, 3) := by decide +kernel
theorem dX11_bound_50 : decode cX11_bound 50 = .ok (.istore_n 2, 1) := by decide +kernel
theorem dX11_bound_51 : decode cX11_bound 51 = .ok (.iconst 0, 1) := by decide +kernel
theorem dX11_bound_52 : decode cX11_bound 52 = .ok (.istore_n 3, 1) := by decide +kernel
theorem dX11_bound_53 : decode cX11_bound 53 = .ok (.iload_n 3, 1) := by decide +kernel
theorem dX11_bound_54 : decode cX11_bound 54 = .ok (.iconst 4, 1) := by decide +kernel
theorem dX11_bound_55 : decode cX11_bound 55 = .ok (.if_icmp .ge 26, 3) := by decide +kernel
theorem dX11_bound_58 : decode cX11_bound 58 = .ok (.iload_n 2, 1) := by decide +kernel
theorem dX11_bound_59 : decode cX11_bound 59 = .ok (.aload_n 0, 1) := by decide +kernel
theorem dX11_bound_60 : decode cX11_bound 60 = .ok (.getfield 19, 3) := by decide +kernel
theorem dX11_bound_63 : decode cX11_bound 63 = .ok (.iload_n 3, 1) := by decide +kernel
theorem dX11_bound_64 : decode cX11_bound 64 = .ok (.aload_n 0, 1) := by decide +kernel
theorem dX11_bound_65 : decode cX11_bound 65 = .ok (.getfield 10, 3) := by decide +kernel
theorem dX11_bound_68 : decode cX11_bound 68 = .ok (.invokevirtual 253, 3) := by decide +kernel
theorem dX11_bound_71 : decode cX11_bound 71 = .ok (.invokestatic 257, 3) := by decide +kernel
theorem dX11_bound_74 : decode cX11_bound 74 = .ok (.istore_n 2, 1) := by decide +kernel
theorem dX11_bound_75 : decode cX11_bound 75 = .ok (.iinc 3 1, 3) := by decide +kernel
theorem dX11_bound_78 : decode cX11_bound 78 = .ok (.goto (-25), 3) := by decide +kernel
theorem dX11_bound_81 : decode cX11_bound 81 = .ok (.iload_n 2, 1) := by decide +kernel
theorem dX11_bound_82 : decode cX11_bound 82 = .ok (.ireturn, 1) := by decide +kernel
theorem dX11_registers_0 : decode cX11_registers 0 = .ok (.aload_n 0, 1) := by decide +kernel
theorem dX11_registers_1 : decode cX11_registers 1 = .ok (.getfield 65, 3) := by decide +kernel
theorem dX11_registers_4 : decode cX11_registers 4 = .ok (.ifCond .eq 13, 3) := by decide +kernel
theorem dX11_registers_7 : decode cX11_registers 7 = .ok (.aload_n 0, 1) := by decide +kernel
theorem dX11_registers_8 : decode cX11_registers 8 = .ok (.getfield 46, 3) := by decide +kernel
theorem dX11_registers_11 : decode cX11_registers 11 = .ok (.getfield 262, 3) := by decide +kernel
theorem dX11_registers_14 : decode cX11_registers 14 = .ok (.goto 5, 3) := by decide +kernel
theorem dX11_registers_17 : decode cX11_registers 17 = .ok (.bipush (-3), 2) := by decide +kernel
theorem dX11_registers_19 : decode cX11_registers 19 = .ok (.ireturn, 1) := by decide +kernel
theorem dX11_chooser_0 : decode cX11_chooser 0 = .ok (.iload_n 1, 1) := by decide +kernel
theorem dX11_chooser_1 : decode cX11_chooser 1 = .ok (.invokestatic 137, 3) := by decide +kernel
theorem dX11_chooser_4 : decode cX11_chooser 4 = .ok (.ifCond .eq 20, 3) := by decide +kernel
theorem dX11_chooser_7 : decode cX11_chooser 7 = .ok (.iload_n 2, 1) := by decide +kernel
theorem dX11_chooser_8 : decode cX11_chooser 8 = .ok (.ifCond .lt 16, 3) := by decide +kernel
theorem dX11_chooser_11 : decode cX11_chooser 11 = .ok (.iload_n 2, 1) := by decide +kernel
theorem dX11_chooser_12 : decode cX11_chooser 12 = .ok (.aload_n 0, 1) := by decide +kernel
theorem dX11_chooser_13 : decode cX11_chooser 13 = .ok (.getfield 19, 3) := by decide +kernel
theorem dX11_chooser_16 : decode cX11_chooser 16 = .ok (.getfield 140, 3) := by decide +kernel
theorem dX11_chooser_19 : decode cX11_chooser 19 = .ok (.iload_n 1, 1) := by decide +kernel
theorem dX11_chooser_20 : decode cX11_chooser 20 = .ok (.iaload, 1) := by decide +kernel
theorem dX11_chooser_21 : decode cX11_chooser 21 = .ok (.if_icmp .lt 5, 3) := by decide +kernel
theorem dX11_chooser_24 : decode cX11_chooser 24 = .ok (.iconst (-1), 1) := by decide +kernel
theorem dX11_chooser_25 : decode cX11_chooser 25 = .ok (.ireturn, 1) := by decide +kernel
theorem dX11_chooser_26 : decode cX11_chooser 26 = .ok (.aload_n 0, 1) := by decide +kernel
theorem dX11_chooser_27 : decode cX11_chooser 27 = .ok (.getfield 65, 3) := by decide +kernel
theorem dX11_chooser_30 : decode cX11_chooser 30 = .ok (.ifCond .ne 6, 3) := by decide +kernel
theorem dX11_chooser_33 : decode cX11_chooser 33 = .ok (.bipush (-3), 2) := by decide +kernel
theorem dX11_chooser_35 : decode cX11_chooser 35 = .ok (.ireturn, 1) := by decide +kernel
theorem dX11_chooser_36 : decode cX11_chooser 36 = .ok (.aload_n 0, 1) := by decide +kernel
theorem dX11_chooser_37 : decode cX11_chooser 37 = .ok (.getfield 46, 3) := by decide +kernel
theorem dX11_chooser_40 : decode cX11_chooser 40 = .ok (.iload_n 1, 1) := by decide +kernel
theorem dX11_chooser_41 : decode cX11_chooser 41 = .ok (.iload_n 2, 1) := by decide +kernel
theorem dX11_chooser_42 : decode cX11_chooser 42 = .ok (.iload_n 3, 1) := by decide +kernel
theorem dX11_chooser_43 : decode cX11_chooser 43 = .ok (.invokevirtual 265, 3) := by decide +kernel
theorem dX11_chooser_46 : decode cX11_chooser 46 = .ok (.ireturn, 1) := by decide +kernel
theorem dX11_at_0 : decode cX11_at 0 = .ok (.iload_n 1, 1) := by decide +kernel
theorem dX11_at_1 : decode cX11_at 1 = .ok (.ifCond .lt 7, 3) := by decide +kernel
theorem dX11_at_4 : decode cX11_at 4 = .ok (.iload_n 2, 1) := by decide +kernel
theorem dX11_at_5 : decode cX11_at 5 = .ok (.ifCond .ge 5, 3) := by decide +kernel
theorem dX11_at_8 : decode cX11_at 8 = .ok (.iconst (-1), 1) := by decide +kernel
theorem dX11_at_9 : decode cX11_at 9 = .ok (.ireturn, 1) := by decide +kernel
theorem dX11_at_10 : decode cX11_at 10 = .ok (.aload_n 0, 1) := by decide +kernel
theorem dX11_at_11 : decode cX11_at 11 = .ok (.getfield 65, 3) := by decide +kernel
theorem dX11_at_14 : decode cX11_at 14 = .ok (.ifCond .ne 6, 3) := by decide +kernel
theorem dX11_at_17 : decode cX11_at 17 = .ok (.bipush (-3), 2) := by decide +kernel
theorem dX11_at_19 : decode cX11_at 19 = .ok (.ireturn, 1) := by decide +kernel
theorem dX11_at_20 : decode cX11_at 20 = .ok (.aload_n 0, 1) := by decide +kernel
theorem dX11_at_21 : decode cX11_at 21 = .ok (.getfield 37, 3) := by decide +kernel
theorem dX11_at_24 : decode cX11_at 24 = .ok (.iload_n 1, 1) := by decide +kernel
theorem dX11_at_25 : decode cX11_at 25 = .ok (.iload_n 2, 1) := by decide +kernel
theorem dX11_at_26 : decode cX11_at 26 = .ok (.invokevirtual 269, 3) := by decide +kernel
theorem dX11_at_29 : decode cX11_at 29 = .ok (.ireturn, 1) := by decide +kernel
theorem dX11_run_0 : decode cX11_run 0 = .ok (.aload_n 0, 1) := by decide +kernel
theorem dX11_run_1 : decode cX11_run 1 = .ok (.getfield 10, 3) := by decide +kernel
theorem dX11_run_4 : decode cX11_run 4 = .ok (.invokevirtual 127, 3) := by decide +kernel
theorem dX11_run_7 : decode cX11_run 7 = .ok (.ifCond .ne 6, 3) := by decide +kernel
theorem dX11_run_10 : decode cX11_run 10 = .ok (.bipush (-2), 2) := by decide +kernel
theorem dX11_run_12 : decode cX11_run 12 = .ok (.ireturn, 1) := by decide +kernel
theorem dX11_run_13 : decode cX11_run 13 = .ok (.iload_n 1, 1) := by decide +kernel
theorem dX11_run_14 : decode cX11_run 14 = .ok (.ifCond .eq 13, 3) := by decide +kernel
theorem dX11_run_17 : decode cX11_run 17 = .ok (.aload_n 0, 1) := by decide +kernel
theorem dX11_run_18 : decode cX11_run 18 = .ok (.getfield 65, 3) := by decide +kernel
theorem dX11_run_21 : decode cX11_run 21 = .ok (.ifCond .ne 6, 3) := by decide +kernel
theorem dX11_run_24 : decode cX11_run 24 = .ok (.bipush (-3), 2) := by decide +kernel
theorem dX11_run_26 : decode cX11_run 26 = .ok (.ireturn, 1) := by decide +kernel
theorem dX11_run_27 : decode cX11_run 27 = .ok (.iload_n 1, 1) := by decide +kernel
theorem dX11_run_28 : decode cX11_run 28 = .ok (.ifCond .eq 17, 3) := by decide +kernel
theorem dX11_run_31 : decode cX11_run 31 = .ok (.aload_n 0, 1) := by decide +kernel
theorem dX11_run_32 : decode cX11_run 32 = .ok (.getfield 55, 3) := by decide +kernel
theorem dX11_run_35 : decode cX11_run 35 = .ok (.aload_n 0, 1) := by decide +kernel
theorem dX11_run_36 : decode cX11_run 36 = .ok (.getfield 37, 3) := by decide +kernel
theorem dX11_run_39 : decode cX11_run 39 = .ok (.invokevirtual 272, 3) := by decide +kernel
theorem dX11_run_42 : decode cX11_run 42 = .ok (.goto 10, 3) := by decide +kernel
theorem dX11_run_45 : decode cX11_run 45 = .ok (.aload_n 0, 1) := by decide +kernel
theorem dX11_run_46 : decode cX11_run 46 = .ok (.getfield 55, 3) := by decide +kernel
theorem dX11_run_49 : decode cX11_run 49 = .ok (.invokevirtual 276, 3) := by decide +kernel
theorem dX11_run_52 : decode cX11_run 52 = .ok (.aload_n 0, 1) := by decide +kernel
theorem dX11_run_53 : decode cX11_run 53 = .ok (.iconst 1, 1) := by decide +kernel
theorem dX11_run_54 : decode cX11_run 54 = .ok (.putfield 69, 3) := by decide +kernel
theorem dX11_run_57 : decode cX11_run 57 = .ok (.aload_n 0, 1) := by decide +kernel
theorem dX11_run_58 : decode cX11_run 58 = .ok (.getfield 55, 3) := by decide +kernel
theorem dX11_run_61 : decode cX11_run 61 = .ok (.getfield 279, 3) := by decide +kernel
theorem dX11_run_64 : decode cX11_run 64 = .ok (.ireturn, 1) := by decide +kernel
theorem dX11_told_0 : decode cX11_told 0 = .ok (.iload_n 1, 1) := by decide +kernel
theorem dX11_told_1 : decode cX11_told 1 = .ok (.iconst 0, 1) := by decide +kernel
theorem dX11_told_2 : decode cX11_told 2 = .ok (.iconst 4, 1) := by decide +kernel
theorem dX11_told_3 : decode cX11_told 3 = .ok (.invokestatic 115, 3) := by decide +kernel
theorem dX11_told_6 : decode cX11_told 6 = .ok (.ifCond .ne 5, 3) := by decide +kernel
theorem dX11_told_9 : decode cX11_told 9 = .ok (.iconst (-1), 1) := by decide +kernel
theorem dX11_told_10 : decode cX11_told 10 = .ok (.ireturn, 1) := by decide +kernel
theorem dX11_told_11 : decode cX11_told 11 = .ok (.aload_n 0, 1) := by decide +kernel
theorem dX11_told_12 : decode cX11_told 12 = .ok (.getfield 69, 3) := by decide +kernel
theorem dX11_told_15 : decode cX11_told 15 = .ok (.ifCond .ne 6, 3) := by decide +kernel
theorem dX11_told_18 : decode cX11_told 18 = .ok (.bipush (-3), 2) := by decide +kernel
theorem dX11_told_20 : decode cX11_told 20 = .ok (.ireturn, 1) := by decide +kernel
theorem dX11_told_21 : decode cX11_told 21 = .ok (.iload_n 1, 1) := by decide +kernel
theorem dX11_told_22 : decode cX11_told 22 = .ok (.tableswitch 62 0 3 #[30, 38, 46, 54], 30) := by decide +kernel
theorem dX11_told_52 : decode cX11_told 52 = .ok (.aload_n 0, 1) := by decide +kernel
theorem dX11_told_53 : decode cX11_told 53 = .ok (.getfield 55, 3) := by decide +kernel
theorem dX11_told_56 : decode cX11_told 56 = .ok (.getfield 279, 3) := by decide +kernel
theorem dX11_told_59 : decode cX11_told 59 = .ok (.ireturn, 1) := by decide +kernel
theorem dX11_told_60 : decode cX11_told 60 = .ok (.aload_n 0, 1) := by decide +kernel
theorem dX11_told_61 : decode cX11_told 61 = .ok (.getfield 55, 3) := by decide +kernel
theorem dX11_told_64 : decode cX11_told 64 = .ok (.getfield 282, 3) := by decide +kernel
theorem dX11_told_67 : decode cX11_told 67 = .ok (.ireturn, 1) := by decide +kernel
theorem dX11_told_68 : decode cX11_told 68 = .ok (.aload_n 0, 1) := by decide +kernel
theorem dX11_told_69 : decode cX11_told 69 = .ok (.getfield 55, 3) := by decide +kernel
theorem dX11_told_72 : decode cX11_told 72 = .ok (.getfield 285, 3) := by decide +kernel
theorem dX11_told_75 : decode cX11_told 75 = .ok (.ireturn, 1) := by decide +kernel
theorem dX11_told_76 : decode cX11_told 76 = .ok (.aload_n 0, 1) := by decide +kernel
theorem dX11_told_77 : decode cX11_told 77 = .ok (.getfield 55, 3) := by decide +kernel
theorem dX11_told_80 : decode cX11_told 80 = .ok (.getfield 288, 3) := by decide +kernel
theorem dX11_told_83 : decode cX11_told 83 = .ok (.ireturn, 1) := by decide +kernel
theorem dX11_told_84 : decode cX11_told 84 = .ok (.aload_n 0, 1) := by decide +kernel
theorem dX11_told_85 : decode cX11_told 85 = .ok (.getfield 55, 3) := by decide +kernel
theorem dX11_told_88 : decode cX11_told 88 = .ok (.getfield 291, 3) := by decide +kernel
theorem dX11_told_91 : decode cX11_told 91 = .ok (.invokestatic 294, 3) := by decide +kernel
theorem dX11_told_94 : decode cX11_told 94 = .ok (.ireturn, 1) := by decide +kernel
theorem dX11_out_0 : decode cX11_out 0 = .ok (.iload_n 1, 1) := by decide +kernel
theorem dX11_out_1 : decode cX11_out 1 = .ok (.invokestatic 94, 3) := by decide +kernel
theorem dX11_out_4 : decode cX11_out 4 = .ok (.ifCond .eq 7, 3) := by decide +kernel
theorem dX11_out_7 : decode cX11_out 7 = .ok (.iload_n 2, 1) := by decide +kernel
theorem dX11_out_8 : decode cX11_out 8 = .ok (.ifCond .ge 14, 3) := by decide +kernel
theorem dX11_out_11 : decode cX11_out 11 = .ok (.new 201, 3) := by decide +kernel
theorem dX11_out_14 : decode cX11_out 14 = .ok (.dup, 1) := by decide +kernel
theorem dX11_out_15 : decode cX11_out 15 = .ok (.ldc_w 297, 3) := by decide +kernel
theorem dX11_out_18 : decode cX11_out 18 = .ok (.invokespecial 205, 3) := by decide +kernel
theorem dX11_out_21 : decode cX11_out 21 = .ok (.athrow, 1) := by decide +kernel
theorem dX11_out_22 : decode cX11_out 22 = .ok (.aload_n 0, 1) := by decide +kernel
theorem dX11_out_23 : decode cX11_out 23 = .ok (.getfield 69, 3) := by decide +kernel
theorem dX11_out_26 : decode cX11_out 26 = .ok (.ifCond .ne 14, 3) := by decide +kernel
theorem dX11_out_29 : decode cX11_out 29 = .ok (.new 299, 3) := by decide +kernel
theorem dX11_out_32 : decode cX11_out 32 = .ok (.dup, 1) := by decide +kernel
theorem dX11_out_33 : decode cX11_out 33 = .ok (.ldc_w 301, 3) := by decide +kernel
theorem dX11_out_36 : decode cX11_out 36 = .ok (.invokespecial 303, 3) := by decide +kernel
theorem dX11_out_39 : decode cX11_out 39 = .ok (.athrow, 1) := by decide +kernel
theorem dX11_out_40 : decode cX11_out 40 = .ok (.aload_n 0, 1) := by decide +kernel
theorem dX11_out_41 : decode cX11_out 41 = .ok (.getfield 55, 3) := by decide +kernel
theorem dX11_out_44 : decode cX11_out 44 = .ok (.getfield 291, 3) := by decide +kernel
theorem dX11_out_47 : decode cX11_out 47 = .ok (.iload_n 1, 1) := by decide +kernel
theorem dX11_out_48 : decode cX11_out 48 = .ok (.aaload, 1) := by decide +kernel
theorem dX11_out_49 : decode cX11_out 49 = .ok (.astore_n 3, 1) := by decide +kernel
theorem dX11_out_50 : decode cX11_out 50 = .ok (.iload_n 2, 1) := by decide +kernel
theorem dX11_out_51 : decode cX11_out 51 = .ok (.aload_n 3, 1) := by decide +kernel
theorem dX11_out_52 : decode cX11_out 52 = .ok (.invokevirtual 164, 3) := by decide +kernel
theorem dX11_out_55 : decode cX11_out 55 = .ok (.if_icmp .lt 14, 3) := by decide +kernel
theorem dX11_out_58 : decode cX11_out 58 = .ok (.new 201, 3) := by decide +kernel
theorem dX11_out_61 : decode cX11_out 61 = .ok (.dup, 1) := by decide +kernel
theorem dX11_out_62 : decode cX11_out 62 = .ok (.ldc_w 304, 3) := by decide +kernel
theorem dX11_out_65 : decode cX11_out 65 = .ok (.invokespecial 205, 3) := by decide +kernel
theorem dX11_out_68 : decode cX11_out 68 = .ok (.athrow, 1) := by decide +kernel
theorem dX11_out_69 : decode cX11_out 69 = .ok (.aload_n 3, 1) := by decide +kernel
theorem dX11_out_70 : decode cX11_out 70 = .ok (.iload_n 2, 1) := by decide +kernel
theorem dX11_out_71 : decode cX11_out 71 = .ok (.invokevirtual 306, 3) := by decide +kernel
theorem dX11_out_74 : decode cX11_out 74 = .ok (.lreturn, 1) := by decide +kernel
theorem dX11_outs_0 : decode cX11_outs 0 = .ok (.iload_n 1, 1) := by decide +kernel
theorem dX11_outs_1 : decode cX11_outs 1 = .ok (.invokestatic 94, 3) := by decide +kernel
theorem dX11_outs_4 : decode cX11_outs 4 = .ok (.ifCond .ne 5, 3) := by decide +kernel
theorem dX11_outs_7 : decode cX11_outs 7 = .ok (.iconst (-1), 1) := by decide +kernel
theorem dX11_outs_8 : decode cX11_outs 8 = .ok (.ireturn, 1) := by decide +kernel
theorem dX11_outs_9 : decode cX11_outs 9 = .ok (.aload_n 0, 1) := by decide +kernel
theorem dX11_outs_10 : decode cX11_outs 10 = .ok (.getfield 69, 3) := by decide +kernel
theorem dX11_outs_13 : decode cX11_outs 13 = .ok (.ifCond .eq 18, 3) := by decide +kernel
theorem dX11_outs_16 : decode cX11_outs 16 = .ok (.aload_n 0, 1) := by decide +kernel
theorem dX11_outs_17 : decode cX11_outs 17 = .ok (.getfield 55, 3) := by decide +kernel
theorem dX11_outs_20 : decode cX11_outs 20 = .ok (.getfield 291, 3) := by decide +kernel
theorem dX11_outs_23 : decode cX11_outs 23 = .ok (.iload_n 1, 1) := by decide +kernel
theorem dX11_outs_24 : decode cX11_outs 24 = .ok (.aaload, 1) := by decide +kernel
theorem dX11_outs_25 : decode cX11_outs 25 = .ok (.invokevirtual 164, 3) := by decide +kernel
theorem dX11_outs_28 : decode cX11_outs 28 = .ok (.goto 5, 3) := by decide +kernel
theorem dX11_outs_31 : decode cX11_outs 31 = .ok (.bipush (-3), 2) := by decide +kernel
theorem dX11_outs_33 : decode cX11_outs 33 = .ok (.ireturn, 1) := by decide +kernel
theorem dX11_row_0 : decode cX11_row 0 = .ok (.iload_n 1, 1) := by decide +kernel
theorem dX11_row_1 : decode cX11_row 1 = .ok (.i2l, 1) := by decide +kernel
theorem dX11_row_2 : decode cX11_row 2 = .ok (.invokestatic 165, 3) := by decide +kernel
theorem dX11_row_5 : decode cX11_row 5 = .ok (.ifCond .ne 14, 3) := by decide +kernel
theorem dX11_row_8 : decode cX11_row 8 = .ok (.new 201, 3) := by decide +kernel
theorem dX11_row_11 : decode cX11_row 11 = .ok (.dup, 1) := by decide +kernel
theorem dX11_row_12 : decode cX11_row 12 = .ok (.ldc_w 309, 3) := by decide +kernel
theorem dX11_row_15 : decode cX11_row 15 = .ok (.invokespecial 205, 3) := by decide +kernel
theorem dX11_row_18 : decode cX11_row 18 = .ok (.athrow, 1) := by decide +kernel
theorem dX11_row_19 : decode cX11_row 19 = .ok (.aload_n 0, 1) := by decide +kernel
theorem dX11_row_20 : decode cX11_row 20 = .ok (.getfield 69, 3) := by decide +kernel
theorem dX11_row_23 : decode cX11_row 23 = .ok (.ifCond .ne 14, 3) := by decide +kernel
theorem dX11_row_26 : decode cX11_row 26 = .ok (.new 299, 3) := by decide +kernel
theorem dX11_row_29 : decode cX11_row 29 = .ok (.dup, 1) := by decide +kernel
theorem dX11_row_30 : decode cX11_row 30 = .ok (.ldc_w 301, 3) := by decide +kernel
theorem dX11_row_33 : decode cX11_row 33 = .ok (.invokespecial 303, 3) := by decide +kernel
theorem dX11_row_36 : decode cX11_row 36 = .ok (.athrow, 1) := by decide +kernel
theorem dX11_row_37 : decode cX11_row 37 = .ok (.aload_n 0, 1) := by decide +kernel
theorem dX11_row_38 : decode cX11_row 38 = .ok (.getfield 55, 3) := by decide +kernel
theorem dX11_row_41 : decode cX11_row 41 = .ok (.getfield 311, 3) := by decide +kernel
theorem dX11_row_44 : decode cX11_row 44 = .ok (.iload_n 1, 1) := by decide +kernel
theorem dX11_row_45 : decode cX11_row 45 = .ok (.laload, 1) := by decide +kernel
theorem dX11_row_46 : decode cX11_row 46 = .ok (.lreturn, 1) := by decide +kernel
theorem dX11_count_0 : decode cX11_count 0 = .ok (.iload_n 1, 1) := by decide +kernel
theorem dX11_count_1 : decode cX11_count 1 = .ok (.tableswitch 54 0 2 #[27, 35, 43], 27) := by decide +kernel
theorem dX11_count_28 : decode cX11_count 28 = .ok (.aload_n 0, 1) := by decide +kernel
theorem dX11_count_29 : decode cX11_count 29 = .ok (.getfield 10, 3) := by decide +kernel
theorem dX11_count_32 : decode cX11_count 32 = .ok (.invokevirtual 127, 3) := by decide +kernel
theorem dX11_count_35 : decode cX11_count 35 = .ok (.ireturn, 1) := by decide +kernel
theorem dX11_count_36 : decode cX11_count 36 = .ok (.aload_n 0, 1) := by decide +kernel
theorem dX11_count_37 : decode cX11_count 37 = .ok (.getfield 10, 3) := by decide +kernel
theorem dX11_count_40 : decode cX11_count 40 = .ok (.invokevirtual 314, 3) := by decide +kernel
theorem dX11_count_43 : decode cX11_count 43 = .ok (.ireturn, 1) := by decide +kernel
theorem dX11_count_44 : decode cX11_count 44 = .ok (.aload_n 0, 1) := by decide +kernel
theorem dX11_count_45 : decode cX11_count 45 = .ok (.getfield 55, 3) := by decide +kernel
theorem dX11_count_48 : decode cX11_count 48 = .ok (.getfield 151, 3) := by decide +kernel
theorem dX11_count_51 : decode cX11_count 51 = .ok (.invokestatic 294, 3) := by decide +kernel
theorem dX11_count_54 : decode cX11_count 54 = .ok (.ireturn, 1) := by decide +kernel
theorem dX11_count_55 : decode cX11_count 55 = .ok (.iload_n 1, 1) := by decide +kernel
theorem dX11_count_56 : decode cX11_count 56 = .ok (.iconst 3, 1) := by decide +kernel
theorem dX11_count_57 : decode cX11_count 57 = .ok (.isub, 1) := by decide +kernel
theorem dX11_count_58 : decode cX11_count 58 = .ok (.invokestatic 137, 3) := by decide +kernel
theorem dX11_count_61 : decode cX11_count 61 = .ok (.ifCond .eq 17, 3) := by decide +kernel
theorem dX11_count_64 : decode cX11_count 64 = .ok (.aload_n 0, 1) := by decide +kernel
theorem dX11_count_65 : decode cX11_count 65 = .ok (.getfield 19, 3) := by decide +kernel
theorem dX11_count_68 : decode cX11_count 68 = .ok (.getfield 140, 3) := by decide +kernel
theorem dX11_count_71 : decode cX11_count 71 = .ok (.iload_n 1, 1) := by decide +kernel
theorem dX11_count_72 : decode cX11_count 72 = .ok (.iconst 3, 1) := by decide +kernel
theorem dX11_count_73 : decode cX11_count 73 = .ok (.isub, 1) := by decide +kernel
theorem dX11_count_74 : decode cX11_count 74 = .ok (.iaload, 1) := by decide +kernel
theorem dX11_count_75 : decode cX11_count 75 = .ok (.goto 4, 3) := by decide +kernel
theorem dX11_count_78 : decode cX11_count 78 = .ok (.iconst (-1), 1) := by decide +kernel
theorem dX11_count_79 : decode cX11_count 79 = .ok (.ireturn, 1) := by decide +kernel
theorem dX11_keep_0 : decode cX11_keep 0 = .ok (.iload_n 1, 1) := by decide +kernel
theorem dX11_keep_1 : decode cX11_keep 1 = .ok (.invokestatic 317, 3) := by decide +kernel
theorem dX11_keep_4 : decode cX11_keep 4 = .ok (.ifCond .ne 5, 3) := by decide +kernel
theorem dX11_keep_7 : decode cX11_keep 7 = .ok (.iconst (-1), 1) := by decide +kernel
theorem dX11_keep_8 : decode cX11_keep 8 = .ok (.ireturn, 1) := by decide +kernel
theorem dX11_keep_9 : decode cX11_keep 9 = .ok (.iload_n 2, 1) := by decide +kernel
theorem dX11_keep_10 : decode cX11_keep 10 = .ok (.tableswitch 85 0 4 #[34, 43, 85, 50, 56], 34) := by decide +kernel
theorem dX11_keep_44 : decode cX11_keep 44 = .ok (.aload_n 0, 1) := by decide +kernel
theorem dX11_keep_45 : decode cX11_keep 45 = .ok (.getfield 61, 3) := by decide +kernel
theorem dX11_keep_48 : decode cX11_keep 48 = .ok (.iload_n 1, 1) := by decide +kernel
theorem dX11_keep_49 : decode cX11_keep 49 = .ok (.aconst_null, 1) := by decide +kernel
theorem dX11_keep_50 : decode cX11_keep 50 = .ok (.aastore, 1) := by decide +kernel
theorem dX11_keep_51 : decode cX11_keep 51 = .ok (.iconst 0, 1) := by decide +kernel
theorem dX11_keep_52 : decode cX11_keep 52 = .ok (.ireturn, 1) := by decide +kernel
theorem dX11_keep_53 : decode cX11_keep 53 = .ok (.aload_n 0, 1) := by decide +kernel
theorem dX11_keep_54 : decode cX11_keep 54 = .ok (.iload_n 1, 1) := by decide +kernel
theorem dX11_keep_55 : decode cX11_keep 55 = .ok (.iload_n 3, 1) := by decide +kernel
theorem dX11_keep_56 : decode cX11_keep 56 = .ok (.invokevirtual 320, 3) := by decide +kernel
theorem dX11_keep_59 : decode cX11_keep 59 = .ok (.ireturn, 1) := by decide +kernel
theorem dX11_keep_60 : decode cX11_keep 60 = .ok (.aload_n 0, 1) := by decide +kernel
theorem dX11_keep_61 : decode cX11_keep 61 = .ok (.iload_n 1, 1) := by decide +kernel
theorem dX11_keep_62 : decode cX11_keep 62 = .ok (.invokevirtual 323, 3) := by decide +kernel
theorem dX11_keep_65 : decode cX11_keep 65 = .ok (.ireturn, 1) := by decide +kernel
theorem dX11_keep_66 : decode cX11_keep 66 = .ok (.aload_n 0, 1) := by decide +kernel
theorem dX11_keep_67 : decode cX11_keep 67 = .ok (.getfield 61, 3) := by decide +kernel
theorem dX11_keep_70 : decode cX11_keep 70 = .ok (.iload_n 1, 1) := by decide +kernel
theorem dX11_keep_71 : decode cX11_keep 71 = .ok (.new 327, 3) := by decide +kernel
theorem dX11_keep_74 : decode cX11_keep 74 = .ok (.dup, 1) := by decide +kernel
theorem dX11_keep_75 : decode cX11_keep 75 = .ok (.iconst 4, 1) := by decide +kernel
theorem dX11_keep_76 : decode cX11_keep 76 = .ok (.aload_n 0, 1) := by decide +kernel
theorem dX11_keep_77 : decode cX11_keep 77 = .ok (.getfield 55, 3) := by decide +kernel
theorem dX11_keep_80 : decode cX11_keep 80 = .ok (.getfield 169, 3) := by decide +kernel
theorem dX11_keep_83 : decode cX11_keep 83 = .ok (.invokevirtual 329, 3) := by decide +kernel
theorem dX11_keep_86 : decode cX11_keep 86 = .ok (.checkcast 330, 3) := by decide +kernel
theorem dX11_keep_89 : decode cX11_keep 89 = .ok (.invokespecial 334, 3) := by decide +kernel
theorem dX11_keep_92 : decode cX11_keep 92 = .ok (.aastore, 1) := by decide +kernel
theorem dX11_keep_93 : decode cX11_keep 93 = .ok (.iconst 0, 1) := by decide +kernel
theorem dX11_keep_94 : decode cX11_keep 94 = .ok (.ireturn, 1) := by decide +kernel
theorem dX11_keep_95 : decode cX11_keep 95 = .ok (.iconst (-1), 1) := by decide +kernel
theorem dX11_keep_96 : decode cX11_keep 96 = .ok (.ireturn, 1) := by decide +kernel
theorem dX11_make_0 : decode cX11_make 0 = .ok (.iload_n 1, 1) := by decide +kernel
theorem dX11_make_1 : decode cX11_make 1 = .ok (.invokestatic 317, 3) := by decide +kernel
theorem dX11_make_4 : decode cX11_make 4 = .ok (.ifCond .eq 18, 3) := by decide +kernel
theorem dX11_make_7 : decode cX11_make 7 = .ok (.iload_n 2, 1) := by decide +kernel
theorem dX11_make_8 : decode cX11_make 8 = .ok (.iconst 3, 1) := by decide +kernel
theorem dX11_make_9 : decode cX11_make 9 = .ok (.iconst 4, 1) := by decide +kernel
theorem dX11_make_10 : decode cX11_make 10 = .ok (.invokestatic 115, 3) := by decide +kernel
theorem dX11_make_13 : decode cX11_make 13 = .ok (.ifCond .eq 9, 3) := by decide +kernel
theorem dX11_make_16 : decode cX11_make 16 = .ok (.iload_n 3, 1) := by decide +kernel
theorem dX11_make_17 : decode cX11_make 17 = .ok (.bipush 60, 2) := by decide +kernel
theorem dX11_make_19 : decode cX11_make 19 = .ok (.if_icmp .le 5, 3) := by decide +kernel
theorem dX11_make_22 : decode cX11_make 22 = .ok (.iconst (-1), 1) := by decide +kernel
theorem dX11_make_23 : decode cX11_make 23 = .ok (.ireturn, 1) := by decide +kernel
theorem dX11_make_24 : decode cX11_make 24 = .ok (.iload_n 3, 1) := by decide +kernel
theorem dX11_make_25 : decode cX11_make 25 = .ok (.ifCond .ge 6, 3) := by decide +kernel
theorem dX11_make_28 : decode cX11_make 28 = .ok (.bipush (-14), 2) := by decide +kernel
theorem dX11_make_30 : decode cX11_make 30 = .ok (.ireturn, 1) := by decide +kernel
theorem dX11_make_31 : decode cX11_make 31 = .ok (.aload_n 0, 1) := by decide +kernel
theorem dX11_make_32 : decode cX11_make 32 = .ok (.getfield 61, 3) := by decide +kernel
theorem dX11_make_35 : decode cX11_make 35 = .ok (.iload_n 1, 1) := by decide +kernel
theorem dX11_make_36 : decode cX11_make 36 = .ok (.new 327, 3) := by decide +kernel
theorem dX11_make_39 : decode cX11_make 39 = .ok (.dup, 1) := by decide +kernel
theorem dX11_make_40 : decode cX11_make 40 = .ok (.iload_n 2, 1) := by decide +kernel
theorem dX11_make_41 : decode cX11_make 41 = .ok (.iload_n 3, 1) := by decide +kernel
theorem dX11_make_42 : decode cX11_make 42 = .ok (.newarray .long, 2) := by decide +kernel
theorem dX11_make_44 : decode cX11_make 44 = .ok (.invokespecial 334, 3) := by decide +kernel
theorem dX11_make_47 : decode cX11_make 47 = .ok (.aastore, 1) := by decide +kernel
theorem dX11_make_48 : decode cX11_make 48 = .ok (.iconst 0, 1) := by decide +kernel
theorem dX11_make_49 : decode cX11_make 49 = .ok (.ireturn, 1) := by decide +kernel
theorem dX11_element_0 : decode cX11_element 0 = .ok (.iload_n 1, 1) := by decide +kernel
theorem dX11_element_1 : decode cX11_element 1 = .ok (.invokestatic 317, 3) := by decide +kernel
theorem dX11_element_4 : decode cX11_element 4 = .ok (.ifCond .ne 14, 3) := by decide +kernel
theorem dX11_element_7 : decode cX11_element 7 = .ok (.new 201, 3) := by decide +kernel
theorem dX11_element_10 : decode cX11_element 10 = .ok (.dup, 1) := by decide +kernel
theorem dX11_element_11 : decode cX11_element 11 = .ok (.ldc_w 337, 3) := by decide +kernel
theorem dX11_element_14 : decode cX11_element 14 = .ok (.invokespecial 205, 3) := by decide +kernel
theorem dX11_element_17 : decode cX11_element 17 = .ok (.athrow, 1) := by decide +kernel
theorem dX11_element_18 : decode cX11_element 18 = .ok (.aload_n 0, 1) := by decide +kernel
theorem dX11_element_19 : decode cX11_element 19 = .ok (.getfield 61, 3) := by decide +kernel
theorem dX11_element_22 : decode cX11_element 22 = .ok (.iload_n 1, 1) := by decide +kernel
theorem dX11_element_23 : decode cX11_element 23 = .ok (.aaload, 1) := by decide +kernel
theorem dX11_element_24 : decode cX11_element 24 = .ok (.astore 4, 2) := by decide +kernel
theorem dX11_element_26 : decode cX11_element 26 = .ok (.aload 4, 2) := by decide +kernel
theorem dX11_element_28 : decode cX11_element 28 = .ok (.instanceof 327, 3) := by decide +kernel
theorem dX11_element_31 : decode cX11_element 31 = .ok (.ifCond .eq 25, 3) := by decide +kernel
theorem dX11_element_34 : decode cX11_element 34 = .ok (.aload 4, 2) := by decide +kernel
theorem dX11_element_36 : decode cX11_element 36 = .ok (.checkcast 327, 3) := by decide +kernel
theorem dX11_element_39 : decode cX11_element 39 = .ok (.astore_n 3, 1) := by decide +kernel
theorem dX11_element_40 : decode cX11_element 40 = .ok (.aload_n 3, 1) := by decide +kernel
theorem dX11_element_41 : decode cX11_element 41 = .ok (.iload_n 2, 1) := by decide +kernel
theorem dX11_element_42 : decode cX11_element 42 = .ok (.iconst 1, 1) := by decide +kernel
theorem dX11_element_43 : decode cX11_element 43 = .ok (.invokevirtual 339, 3) := by decide +kernel
theorem dX11_element_46 : decode cX11_element 46 = .ok (.ifCond .eq 10, 3) := by decide +kernel
theorem dX11_element_49 : decode cX11_element 49 = .ok (.aload_n 3, 1) := by decide +kernel
theorem dX11_element_50 : decode cX11_element 50 = .ok (.getfield 343, 3) := by decide +kernel
theorem dX11_element_53 : decode cX11_element 53 = .ok (.iload_n 2, 1) := by decide +kernel
theorem dX11_element_54 : decode cX11_element 54 = .ok (.laload, 1) := by decide +kernel
theorem dX11_element_55 : decode cX11_element 55 = .ok (.lreturn, 1) := by decide +kernel
theorem dX11_element_56 : decode cX11_element 56 = .ok (.new 299, 3) := by decide +kernel
theorem dX11_element_59 : decode cX11_element 59 = .ok (.dup, 1) := by decide +kernel
theorem dX11_element_60 : decode cX11_element 60 = .ok (.ldc_w 346, 3) := by decide +kernel
theorem dX11_element_63 : decode cX11_element 63 = .ok (.invokespecial 303, 3) := by decide +kernel
theorem dX11_element_66 : decode cX11_element 66 = .ok (.athrow, 1) := by decide +kernel
theorem dX11_copy_0 : decode cX11_copy 0 = .ok (.iload_n 1, 1) := by decide +kernel
theorem dX11_copy_1 : decode cX11_copy 1 = .ok (.invokestatic 317, 3) := by decide +kernel
theorem dX11_copy_4 : decode cX11_copy 4 = .ok (.ifCond .eq 10, 3) := by decide +kernel
theorem dX11_copy_7 : decode cX11_copy 7 = .ok (.iload_n 3, 1) := by decide +kernel
theorem dX11_copy_8 : decode cX11_copy 8 = .ok (.invokestatic 317, 3) := by decide +kernel
theorem dX11_copy_11 : decode cX11_copy 11 = .ok (.ifCond .ne 5, 3) := by decide +kernel
theorem dX11_copy_14 : decode cX11_copy 14 = .ok (.iconst (-1), 1) := by decide +kernel
theorem dX11_copy_15 : decode cX11_copy 15 = .ok (.ireturn, 1) := by decide +kernel
theorem dX11_copy_16 : decode cX11_copy 16 = .ok (.aload_n 0, 1) := by decide +kernel
theorem dX11_copy_17 : decode cX11_copy 17 = .ok (.getfield 61, 3) := by decide +kernel
theorem dX11_copy_20 : decode cX11_copy 20 = .ok (.iload_n 1, 1) := by decide +kernel
theorem dX11_copy_21 : decode cX11_copy 21 = .ok (.aaload, 1) := by decide +kernel
theorem dX11_copy_22 : decode cX11_copy 22 = .ok (.ifnull 12, 3) := by decide +kernel
theorem dX11_copy_25 : decode cX11_copy 25 = .ok (.aload_n 0, 1) := by decide +kernel
theorem dX11_copy_26 : decode cX11_copy 26 = .ok (.getfield 61, 3) := by decide +kernel
theorem dX11_copy_29 : decode cX11_copy 29 = .ok (.iload_n 3, 1) := by decide +kernel
theorem dX11_copy_30 : decode cX11_copy 30 = .ok (.aaload, 1) := by decide +kernel
theorem dX11_copy_31 : decode cX11_copy 31 = .ok (.ifnonnull 6, 3) := by decide +kernel
theorem dX11_copy_34 : decode cX11_copy 34 = .ok (.bipush (-11), 2) := by decide +kernel
theorem dX11_copy_36 : decode cX11_copy 36 = .ok (.ireturn, 1) := by decide +kernel
theorem dX11_copy_37 : decode cX11_copy 37 = .ok (.aload_n 0, 1) := by decide +kernel
theorem dX11_copy_38 : decode cX11_copy 38 = .ok (.getfield 61, 3) := by decide +kernel
theorem dX11_copy_41 : decode cX11_copy 41 = .ok (.iload_n 1, 1) := by decide +kernel
theorem dX11_copy_42 : decode cX11_copy 42 = .ok (.aaload, 1) := by decide +kernel
theorem dX11_copy_43 : decode cX11_copy 43 = .ok (.astore 8, 2) := by decide +kernel
theorem dX11_copy_45 : decode cX11_copy 45 = .ok (.aload 8, 2) := by decide +kernel
theorem dX11_copy_47 : decode cX11_copy 47 = .ok (.instanceof 327, 3) := by decide +kernel
theorem dX11_copy_50 : decode cX11_copy 50 = .ok (.ifCond .eq 59, 3) := by decide +kernel
theorem dX11_copy_53 : decode cX11_copy 53 = .ok (.aload 8, 2) := by decide +kernel
theorem dX11_copy_55 : decode cX11_copy 55 = .ok (.checkcast 327, 3) := by decide +kernel
theorem dX11_copy_58 : decode cX11_copy 58 = .ok (.astore 6, 2) := by decide +kernel
theorem dX11_copy_60 : decode cX11_copy 60 = .ok (.aload_n 0, 1) := by decide +kernel
theorem dX11_copy_61 : decode cX11_copy 61 = .ok (.getfield 61, 3) := by decide +kernel
theorem dX11_copy_64 : decode cX11_copy 64 = .ok (.iload_n 3, 1) := by decide +kernel
theorem dX11_copy_65 : decode cX11_copy 65 = .ok (.aaload, 1) := by decide +kernel
theorem dX11_copy_66 : decode cX11_copy 66 = .ok (.astore 8, 2) := by decide +kernel
theorem dX11_copy_68 : decode cX11_copy 68 = .ok (.aload 8, 2) := by decide +kernel
theorem dX11_copy_70 : decode cX11_copy 70 = .ok (.instanceof 327, 3) := by decide +kernel
theorem dX11_copy_73 : decode cX11_copy 73 = .ok (.ifCond .eq 36, 3) := by decide +kernel
theorem dX11_copy_76 : decode cX11_copy 76 = .ok (.aload 8, 2) := by decide +kernel
theorem dX11_copy_78 : decode cX11_copy 78 = .ok (.checkcast 327, 3) := by decide +kernel
theorem dX11_copy_81 : decode cX11_copy 81 = .ok (.astore 7, 2) := by decide +kernel
theorem dX11_copy_83 : decode cX11_copy 83 = .ok (.aload 6, 2) := by decide +kernel
theorem dX11_copy_85 : decode cX11_copy 85 = .ok (.getfield 348, 3) := by decide +kernel
theorem dX11_copy_88 : decode cX11_copy 88 = .ok (.aload 7, 2) := by decide +kernel
theorem dX11_copy_90 : decode cX11_copy 90 = .ok (.getfield 348, 3) := by decide +kernel
theorem dX11_copy_93 : decode cX11_copy 93 = .ok (.if_icmp .ne 16, 3) := by decide +kernel
theorem dX11_copy_96 : decode cX11_copy 96 = .ok (.aload 6, 2) := by decide +kernel
theorem dX11_copy_98 : decode cX11_copy 98 = .ok (.iload_n 2, 1) := by decide +kernel
theorem dX11_copy_99 : decode cX11_copy 99 = .ok (.aload 7, 2) := by decide +kernel
theorem dX11_copy_101 : decode cX11_copy 101 = .ok (.iload 4, 2) := by decide +kernel
theorem dX11_copy_103 : decode cX11_copy 103 = .ok (.iload 5, 2) := by decide +kernel
theorem dX11_copy_105 : decode cX11_copy 105 = .ok (.invokestatic 351, 3) := by decide +kernel
theorem dX11_copy_108 : decode cX11_copy 108 = .ok (.ireturn, 1) := by decide +kernel
theorem dX11_copy_109 : decode cX11_copy 109 = .ok (.bipush (-12), 2) := by decide +kernel
theorem dX11_copy_111 : decode cX11_copy 111 = .ok (.ireturn, 1) := by decide +kernel
theorem dX11_weight_0 : decode cX11_weight 0 = .ok (.iload_n 1, 1) := by decide +kernel
theorem dX11_weight_1 : decode cX11_weight 1 = .ok (.invokestatic 317, 3) := by decide +kernel
theorem dX11_weight_4 : decode cX11_weight 4 = .ok (.ifCond .ne 5, 3) := by decide +kernel
theorem dX11_weight_7 : decode cX11_weight 7 = .ok (.iconst (-1), 1) := by decide +kernel
theorem dX11_weight_8 : decode cX11_weight 8 = .ok (.ireturn, 1) := by decide +kernel
theorem dX11_weight_9 : decode cX11_weight 9 = .ok (.aload_n 0, 1) := by decide +kernel
theorem dX11_weight_10 : decode cX11_weight 10 = .ok (.getfield 61, 3) := by decide +kernel
theorem dX11_weight_13 : decode cX11_weight 13 = .ok (.iload_n 1, 1) := by decide +kernel
theorem dX11_weight_14 : decode cX11_weight 14 = .ok (.aaload, 1) := by decide +kernel
theorem dX11_weight_15 : decode cX11_weight 15 = .ok (.astore_n 3, 1) := by decide +kernel
theorem dX11_weight_16 : decode cX11_weight 16 = .ok (.aload_n 3, 1) := by decide +kernel
theorem dX11_weight_17 : decode cX11_weight 17 = .ok (.instanceof 80, 3) := by decide +kernel
theorem dX11_weight_20 : decode cX11_weight 20 = .ok (.ifCond .eq 13, 3) := by decide +kernel
theorem dX11_weight_23 : decode cX11_weight 23 = .ok (.aload_n 3, 1) := by decide +kernel
theorem dX11_weight_24 : decode cX11_weight 24 = .ok (.checkcast 80, 3) := by decide +kernel
theorem dX11_weight_27 : decode cX11_weight 27 = .ok (.astore_n 2, 1) := by decide +kernel
theorem dX11_weight_28 : decode cX11_weight 28 = .ok (.aload_n 2, 1) := by decide +kernel
theorem dX11_weight_29 : decode cX11_weight 29 = .ok (.invokevirtual 355, 3) := by decide +kernel
theorem dX11_weight_32 : decode cX11_weight 32 = .ok (.ireturn, 1) := by decide +kernel
theorem dX11_weight_33 : decode cX11_weight 33 = .ok (.aload_n 0, 1) := by decide +kernel
theorem dX11_weight_34 : decode cX11_weight 34 = .ok (.getfield 61, 3) := by decide +kernel
theorem dX11_weight_37 : decode cX11_weight 37 = .ok (.iload_n 1, 1) := by decide +kernel
theorem dX11_weight_38 : decode cX11_weight 38 = .ok (.aaload, 1) := by decide +kernel
theorem dX11_weight_39 : decode cX11_weight 39 = .ok (.ifnonnull 8, 3) := by decide +kernel
theorem dX11_weight_42 : decode cX11_weight 42 = .ok (.bipush (-11), 2) := by decide +kernel
theorem dX11_weight_44 : decode cX11_weight 44 = .ok (.goto 5, 3) := by decide +kernel
theorem dX11_weight_47 : decode cX11_weight 47 = .ok (.bipush (-12), 2) := by decide +kernel
theorem dX11_weight_49 : decode cX11_weight 49 = .ok (.ireturn, 1) := by decide +kernel
theorem dX11_toss_0 : decode cX11_toss 0 = .ok (.iload_n 1, 1) := by decide +kernel
theorem dX11_toss_1 : decode cX11_toss 1 = .ok (.invokestatic 317, 3) := by decide +kernel
theorem dX11_toss_4 : decode cX11_toss 4 = .ok (.ifCond .ne 5, 3) := by decide +kernel
theorem dX11_toss_7 : decode cX11_toss 7 = .ok (.iconst (-1), 1) := by decide +kernel
theorem dX11_toss_8 : decode cX11_toss 8 = .ok (.ireturn, 1) := by decide +kernel
theorem dX11_toss_9 : decode cX11_toss 9 = .ok (.aload_n 0, 1) := by decide +kernel
theorem dX11_toss_10 : decode cX11_toss 10 = .ok (.getfield 61, 3) := by decide +kernel
theorem dX11_toss_13 : decode cX11_toss 13 = .ok (.iload_n 1, 1) := by decide +kernel
theorem dX11_toss_14 : decode cX11_toss 14 = .ok (.aaload, 1) := by decide +kernel
theorem dX11_toss_15 : decode cX11_toss 15 = .ok (.astore_n 3, 1) := by decide +kernel
theorem dX11_toss_16 : decode cX11_toss 16 = .ok (.aload_n 3, 1) := by decide +kernel
theorem dX11_toss_17 : decode cX11_toss 17 = .ok (.instanceof 80, 3) := by decide +kernel
theorem dX11_toss_20 : decode cX11_toss 20 = .ok (.ifCond .eq 13, 3) := by decide +kernel
theorem dX11_toss_23 : decode cX11_toss 23 = .ok (.aload_n 3, 1) := by decide +kernel
theorem dX11_toss_24 : decode cX11_toss 24 = .ok (.checkcast 80, 3) := by decide +kernel
theorem dX11_toss_27 : decode cX11_toss 27 = .ok (.astore_n 2, 1) := by decide +kernel
theorem dX11_toss_28 : decode cX11_toss 28 = .ok (.aload_n 2, 1) := by decide +kernel
theorem dX11_toss_29 : decode cX11_toss 29 = .ok (.invokestatic 358, 3) := by decide +kernel
theorem dX11_toss_32 : decode cX11_toss 32 = .ok (.ireturn, 1) := by decide +kernel
theorem dX11_toss_33 : decode cX11_toss 33 = .ok (.aload_n 0, 1) := by decide +kernel
theorem dX11_toss_34 : decode cX11_toss 34 = .ok (.getfield 61, 3) := by decide +kernel
theorem dX11_toss_37 : decode cX11_toss 37 = .ok (.iload_n 1, 1) := by decide +kernel
theorem dX11_toss_38 : decode cX11_toss 38 = .ok (.aaload, 1) := by decide +kernel
theorem dX11_toss_39 : decode cX11_toss 39 = .ok (.ifnonnull 8, 3) := by decide +kernel
theorem dX11_toss_42 : decode cX11_toss 42 = .ok (.bipush (-11), 2) := by decide +kernel
theorem dX11_toss_44 : decode cX11_toss 44 = .ok (.goto 5, 3) := by decide +kernel
theorem dX11_toss_47 : decode cX11_toss 47 = .ok (.bipush (-12), 2) := by decide +kernel
theorem dX11_toss_49 : decode cX11_toss 49 = .ok (.ireturn, 1) := by decide +kernel
theorem dX11_append_0 : decode cX11_append 0 = .ok (.aload_n 0, 1) := by decide +kernel
theorem dX11_append_1 : decode cX11_append 1 = .ok (.getfield 10, 3) := by decide +kernel
theorem dX11_append_4 : decode cX11_append 4 = .ok (.invokevirtual 361, 3) := by decide +kernel
theorem dX11_append_7 : decode cX11_append 7 = .ok (.ifCond .eq 6, 3) := by decide +kernel
theorem dX11_append_10 : decode cX11_append 10 = .ok (.bipush (-2), 2) := by decide +kernel
theorem dX11_append_12 : decode cX11_append 12 = .ok (.ireturn, 1) := by decide +kernel
theorem dX11_append_13 : decode cX11_append 13 = .ok (.aload_n 0, 1) := by decide +kernel
theorem dX11_append_14 : decode cX11_append 14 = .ok (.invokevirtual 131, 3) := by decide +kernel
theorem dX11_append_17 : decode cX11_append 17 = .ok (.aload_n 0, 1) := by decide +kernel
theorem dX11_append_18 : decode cX11_append 18 = .ok (.getfield 10, 3) := by decide +kernel
theorem dX11_append_21 : decode cX11_append 21 = .ok (.aload_n 1, 1) := by decide +kernel
theorem dX11_append_22 : decode cX11_append 22 = .ok (.invokevirtual 362, 3) := by decide +kernel
theorem dX11_append_25 : decode cX11_append 25 = .ok (.aload_n 0, 1) := by decide +kernel
theorem dX11_append_26 : decode cX11_append 26 = .ok (.getfield 10, 3) := by decide +kernel
theorem dX11_append_29 : decode cX11_append 29 = .ok (.invokevirtual 127, 3) := by decide +kernel
theorem dX11_append_32 : decode cX11_append 32 = .ok (.iconst 1, 1) := by decide +kernel
theorem dX11_append_33 : decode cX11_append 33 = .ok (.isub, 1) := by decide +kernel
theorem dX11_append_34 : decode cX11_append 34 = .ok (.ireturn, 1) := by decide +kernel
theorem dX11_forget_0 : decode cX11_forget 0 = .ok (.aload_n 0, 1) := by decide +kernel
theorem dX11_forget_1 : decode cX11_forget 1 = .ok (.iconst 0, 1) := by decide +kernel
theorem dX11_forget_2 : decode cX11_forget 2 = .ok (.putfield 65, 3) := by decide +kernel
theorem dX11_forget_5 : decode cX11_forget 5 = .ok (.aload_n 0, 1) := by decide +kernel
theorem dX11_forget_6 : decode cX11_forget 6 = .ok (.iconst 0, 1) := by decide +kernel
theorem dX11_forget_7 : decode cX11_forget 7 = .ok (.putfield 69, 3) := by decide +kernel
theorem dX11_forget_10 : decode cX11_forget 10 = .ok (.return_, 1) := by decide +kernel
theorem dX11_keepAct_0 : decode cX11_keepAct 0 = .ok (.aload_n 0, 1) := by decide +kernel
theorem dX11_keepAct_1 : decode cX11_keepAct 1 = .ok (.getfield 10, 3) := by decide +kernel
theorem dX11_keepAct_4 : decode cX11_keepAct 4 = .ok (.iload_n 2, 1) := by decide +kernel
theorem dX11_keepAct_5 : decode cX11_keepAct 5 = .ok (.invokevirtual 97, 3) := by decide +kernel
theorem dX11_keepAct_8 : decode cX11_keepAct 8 = .ok (.ifCond .ne 5, 3) := by decide +kernel
theorem dX11_keepAct_11 : decode cX11_keepAct 11 = .ok (.iconst (-1), 1) := by decide +kernel
theorem dX11_keepAct_12 : decode cX11_keepAct 12 = .ok (.ireturn, 1) := by decide +kernel
theorem dX11_keepAct_13 : decode cX11_keepAct 13 = .ok (.aload_n 0, 1) := by decide +kernel
theorem dX11_keepAct_14 : decode cX11_keepAct 14 = .ok (.getfield 61, 3) := by decide +kernel
theorem dX11_keepAct_17 : decode cX11_keepAct 17 = .ok (.iload_n 1, 1) := by decide +kernel
theorem dX11_keepAct_18 : decode cX11_keepAct 18 = .ok (.aload_n 0, 1) := by decide +kernel
theorem dX11_keepAct_19 : decode cX11_keepAct 19 = .ok (.getfield 10, 3) := by decide +kernel
theorem dX11_keepAct_22 : decode cX11_keepAct 22 = .ok (.iload_n 2, 1) := by decide +kernel
theorem dX11_keepAct_23 : decode cX11_keepAct 23 = .ok (.invokevirtual 104, 3) := by decide +kernel
theorem dX11_keepAct_26 : decode cX11_keepAct 26 = .ok (.aastore, 1) := by decide +kernel
theorem dX11_keepAct_27 : decode cX11_keepAct 27 = .ok (.iconst 0, 1) := by decide +kernel
theorem dX11_keepAct_28 : decode cX11_keepAct 28 = .ok (.ireturn, 1) := by decide +kernel
theorem dX11_keepTicks_0 : decode cX11_keepTicks 0 = .ok (.aload_n 0, 1) := by decide +kernel
theorem dX11_keepTicks_1 : decode cX11_keepTicks 1 = .ok (.getfield 65, 3) := by decide +kernel
theorem dX11_keepTicks_4 : decode cX11_keepTicks 4 = .ok (.ifCond .ne 6, 3) := by decide +kernel
theorem dX11_keepTicks_7 : decode cX11_keepTicks 7 = .ok (.bipush (-3), 2) := by decide +kernel
theorem dX11_keepTicks_9 : decode cX11_keepTicks 9 = .ok (.ireturn, 1) := by decide +kernel
theorem dX11_keepTicks_10 : decode cX11_keepTicks 10 = .ok (.aload_n 0, 1) := by decide +kernel
theorem dX11_keepTicks_11 : decode cX11_keepTicks 11 = .ok (.getfield 10, 3) := by decide +kernel
theorem dX11_keepTicks_14 : decode cX11_keepTicks 14 = .ok (.invokevirtual 127, 3) := by decide +kernel
theorem dX11_keepTicks_17 : decode cX11_keepTicks 17 = .ok (.newarray .long, 2) := by decide +kernel
theorem dX11_keepTicks_19 : decode cX11_keepTicks 19 = .ok (.astore_n 2, 1) := by decide +kernel
theorem dX11_keepTicks_20 : decode cX11_keepTicks 20 = .ok (.iconst 0, 1) := by decide +kernel
theorem dX11_keepTicks_21 : decode cX11_keepTicks 21 = .ok (.istore_n 3, 1) := by decide +kernel
theorem dX11_keepTicks_22 : decode cX11_keepTicks 22 = .ok (.iload_n 3, 1) := by decide +kernel
theorem dX11_keepTicks_23 : decode cX11_keepTicks 23 = .ok (.aload_n 2, 1) := by decide +kernel
theorem dX11_keepTicks_24 : decode cX11_keepTicks 24 = .ok (.arraylength, 1) := by decide +kernel
theorem dX11_keepTicks_25 : decode cX11_keepTicks 25 = .ok (.if_icmp .ge 22, 3) := by decide +kernel
theorem dX11_keepTicks_28 : decode cX11_keepTicks 28 = .ok (.aload_n 2, 1) := by decide +kernel
theorem dX11_keepTicks_29 : decode cX11_keepTicks 29 = .ok (.iload_n 3, 1) := by decide +kernel
theorem dX11_keepTicks_30 : decode cX11_keepTicks 30 = .ok (.aload_n 0, 1) := by decide +kernel
theorem dX11_keepTicks_31 : decode cX11_keepTicks 31 = .ok (.getfield 37, 3) := by decide +kernel
theorem dX11_keepTicks_34 : decode cX11_keepTicks 34 = .ok (.getfield 228, 3) := by decide +kernel
theorem dX11_keepTicks_37 : decode cX11_keepTicks 37 = .ok (.iload_n 3, 1) := by decide +kernel
theorem dX11_keepTicks_38 : decode cX11_keepTicks 38 = .ok (.iaload, 1) := by decide +kernel
theorem dX11_keepTicks_39 : decode cX11_keepTicks 39 = .ok (.i2l, 1) := by decide +kernel
theorem dX11_keepTicks_40 : decode cX11_keepTicks 40 = .ok (.lastore, 1) := by decide +kernel
theorem dX11_keepTicks_41 : decode cX11_keepTicks 41 = .ok (.iinc 3 1, 3) := by decide +kernel
theorem dX11_keepTicks_44 : decode cX11_keepTicks 44 = .ok (.goto (-22), 3) := by decide +kernel
theorem dX11_keepTicks_47 : decode cX11_keepTicks 47 = .ok (.aload_n 0, 1) := by decide +kernel
theorem dX11_keepTicks_48 : decode cX11_keepTicks 48 = .ok (.getfield 61, 3) := by decide +kernel
theorem dX11_keepTicks_51 : decode cX11_keepTicks 51 = .ok (.iload_n 1, 1) := by decide +kernel
theorem dX11_keepTicks_52 : decode cX11_keepTicks 52 = .ok (.new 327, 3) := by decide +kernel
theorem dX11_keepTicks_55 : decode cX11_keepTicks 55 = .ok (.dup, 1) := by decide +kernel
theorem dX11_keepTicks_56 : decode cX11_keepTicks 56 = .ok (.iconst 3, 1) := by decide +kernel
theorem dX11_keepTicks_57 : decode cX11_keepTicks 57 = .ok (.aload_n 2, 1) := by decide +kernel
theorem dX11_keepTicks_58 : decode cX11_keepTicks 58 = .ok (.invokespecial 334, 3) := by decide +kernel
theorem dX11_keepTicks_61 : decode cX11_keepTicks 61 = .ok (.aastore, 1) := by decide +kernel
theorem dX11_keepTicks_62 : decode cX11_keepTicks 62 = .ok (.iconst 0, 1) := by decide +kernel
theorem dX11_keepTicks_63 : decode cX11_keepTicks 63 = .ok (.ireturn, 1) := by decide +kernel
theorem dX11_copyCells_0 : decode cX11_copyCells 0 = .ok (.aload_n 0, 1) := by decide +kernel
theorem dX11_copyCells_1 : decode cX11_copyCells 1 = .ok (.iload_n 1, 1) := by decide +kernel
theorem dX11_copyCells_2 : decode cX11_copyCells 2 = .ok (.iload 4, 2) := by decide +kernel
theorem dX11_copyCells_4 : decode cX11_copyCells 4 = .ok (.invokevirtual 339, 3) := by decide +kernel
theorem dX11_copyCells_7 : decode cX11_copyCells 7 = .ok (.ifCond .eq 13, 3) := by decide +kernel
theorem dX11_copyCells_10 : decode cX11_copyCells 10 = .ok (.aload_n 2, 1) := by decide +kernel
theorem dX11_copyCells_11 : decode cX11_copyCells 11 = .ok (.iload_n 3, 1) := by decide +kernel
theorem dX11_copyCells_12 : decode cX11_copyCells 12 = .ok (.iload 4, 2) := by decide +kernel
theorem dX11_copyCells_14 : decode cX11_copyCells 14 = .ok (.invokevirtual 339, 3) := by decide +kernel
theorem dX11_copyCells_17 : decode cX11_copyCells 17 = .ok (.ifCond .ne 6, 3) := by decide +kernel
theorem dX11_copyCells_20 : decode cX11_copyCells 20 = .ok (.bipush (-13), 2) := by decide +kernel
theorem dX11_copyCells_22 : decode cX11_copyCells 22 = .ok (.ireturn, 1) := by decide +kernel
theorem dX11_copyCells_23 : decode cX11_copyCells 23 = .ok (.aload_n 0, 1) := by decide +kernel
theorem dX11_copyCells_24 : decode cX11_copyCells 24 = .ok (.getfield 343, 3) := by decide +kernel
theorem dX11_copyCells_27 : decode cX11_copyCells 27 = .ok (.iload_n 1, 1) := by decide +kernel
theorem dX11_copyCells_28 : decode cX11_copyCells 28 = .ok (.aload_n 2, 1) := by decide +kernel
theorem dX11_copyCells_29 : decode cX11_copyCells 29 = .ok (.getfield 343, 3) := by decide +kernel
theorem dX11_copyCells_32 : decode cX11_copyCells 32 = .ok (.iload_n 3, 1) := by decide +kernel
theorem dX11_copyCells_33 : decode cX11_copyCells 33 = .ok (.iload 4, 2) := by decide +kernel
theorem dX11_copyCells_35 : decode cX11_copyCells 35 = .ok (.invokestatic 366, 3) := by decide +kernel
theorem dX11_copyCells_38 : decode cX11_copyCells 38 = .ok (.iload 4, 2) := by decide +kernel
theorem dX11_copyCells_40 : decode cX11_copyCells 40 = .ok (.ireturn, 1) := by decide +kernel
theorem dX11_caughtFailure_0 : decode cX11_caughtFailure 0 = .ok (.aload_n 0, 1) := by decide +kernel
theorem dX11_caughtFailure_1 : decode cX11_caughtFailure 1 = .ok (.invokevirtual 372, 3) := by decide +kernel
theorem dX11_caughtFailure_4 : decode cX11_caughtFailure 4 = .ok (.bipush (-15), 2) := by decide +kernel
theorem dX11_caughtFailure_6 : decode cX11_caughtFailure 6 = .ok (.ireturn, 1) := by decide +kernel
theorem dX11_caughtFailure_7 : decode cX11_caughtFailure 7 = .ok (.astore_n 1, 1) := by decide +kernel
theorem dX11_caughtFailure_8 : decode cX11_caughtFailure 8 = .ok (.iconst 1, 1) := by decide +kernel
theorem dX11_caughtFailure_9 : decode cX11_caughtFailure 9 = .ok (.ireturn, 1) := by decide +kernel
theorem dX11_caughtFailure_10 : decode cX11_caughtFailure 10 = .ok (.astore_n 1, 1) := by decide +kernel
theorem dX11_caughtFailure_11 : decode cX11_caughtFailure 11 = .ok (.iconst 2, 1) := by decide +kernel
theorem dX11_caughtFailure_12 : decode cX11_caughtFailure 12 = .ok (.ireturn, 1) := by decide +kernel
theorem dX11_caughtFailure_13 : decode cX11_caughtFailure 13 = .ok (.astore_n 1, 1) := by decide +kernel
theorem dX11_caughtFailure_14 : decode cX11_caughtFailure 14 = .ok (.iconst 3, 1) := by decide +kernel
theorem dX11_caughtFailure_15 : decode cX11_caughtFailure 15 = .ok (.ireturn, 1) := by decide +kernel
theorem dX11_total_0 : decode cX11_total 0 = .ok (.iconst 0, 1) := by decide +kernel
theorem dX11_total_1 : decode cX11_total 1 = .ok (.istore_n 1, 1) := by decide +kernel
theorem dX11_total_2 : decode cX11_total 2 = .ok (.aload_n 0, 1) := by decide +kernel
theorem dX11_total_3 : decode cX11_total 3 = .ok (.astore_n 2, 1) := by decide +kernel
theorem dX11_total_4 : decode cX11_total 4 = .ok (.aload_n 2, 1) := by decide +kernel
theorem dX11_total_5 : decode cX11_total 5 = .ok (.arraylength, 1) := by decide +kernel
theorem dX11_total_6 : decode cX11_total 6 = .ok (.istore_n 3, 1) := by decide +kernel
theorem dX11_total_7 : decode cX11_total 7 = .ok (.iconst 0, 1) := by decide +kernel
theorem dX11_total_8 : decode cX11_total 8 = .ok (.istore 4, 2) := by decide +kernel
theorem dX11_total_10 : decode cX11_total 10 = .ok (.iload 4, 2) := by decide +kernel
theorem dX11_total_12 : decode cX11_total 12 = .ok (.iload_n 3, 1) := by decide +kernel
theorem dX11_total_13 : decode cX11_total 13 = .ok (.if_icmp .ge 23, 3) := by decide +kernel
theorem dX11_total_16 : decode cX11_total 16 = .ok (.aload_n 2, 1) := by decide +kernel
theorem dX11_total_17 : decode cX11_total 17 = .ok (.iload 4, 2) := by decide +kernel
theorem dX11_total_19 : decode cX11_total 19 = .ok (.aaload, 1) := by decide +kernel
theorem dX11_total_20 : decode cX11_total 20 = .ok (.astore 5, 2) := by decide +kernel
theorem dX11_total_22 : decode cX11_total 22 = .ok (.iload_n 1, 1) := by decide +kernel
theorem dX11_total_23 : decode cX11_total 23 = .ok (.aload 5, 2) := by decide +kernel
theorem dX11_total_25 : decode cX11_total 25 = .ok (.invokevirtual 164, 3) := by decide +kernel
theorem dX11_total_28 : decode cX11_total 28 = .ok (.iadd, 1) := by decide +kernel
theorem dX11_total_29 : decode cX11_total 29 = .ok (.istore_n 1, 1) := by decide +kernel
theorem dX11_total_30 : decode cX11_total 30 = .ok (.iinc 4 1, 3) := by decide +kernel
theorem dX11_total_33 : decode cX11_total 33 = .ok (.goto (-23), 3) := by decide +kernel
theorem dX11_total_36 : decode cX11_total 36 = .ok (.iload_n 1, 1) := by decide +kernel
theorem dX11_total_37 : decode cX11_total 37 = .ok (.ireturn, 1) := by decide +kernel
theorem dX11_cut_0 : decode cX11_cut 0 = .ok (.bipush 64, 2) := by decide +kernel
theorem dX11_cut_2 : decode cX11_cut 2 = .ok (.iload_n 2, 1) := by decide +kernel
theorem dX11_cut_3 : decode cX11_cut 3 = .ok (.isub, 1) := by decide +kernel
theorem dX11_cut_4 : decode cX11_cut 4 = .ok (.istore_n 3, 1) := by decide +kernel
theorem dX11_cut_5 : decode cX11_cut 5 = .ok (.lload_n 0, 1) := by decide +kernel
theorem dX11_cut_6 : decode cX11_cut 6 = .ok (.iload_n 3, 1) := by decide +kernel
theorem dX11_cut_7 : decode cX11_cut 7 = .ok (.lshl, 1) := by decide +kernel
theorem dX11_cut_8 : decode cX11_cut 8 = .ok (.iload_n 3, 1) := by decide +kernel
theorem dX11_cut_9 : decode cX11_cut 9 = .ok (.lshr, 1) := by decide +kernel
theorem dX11_cut_10 : decode cX11_cut 10 = .ok (.lreturn, 1) := by decide +kernel
theorem dX11_within_0 : decode cX11_within 0 = .ok (.iload_n 0, 1) := by decide +kernel
theorem dX11_within_1 : decode cX11_within 1 = .ok (.iload_n 1, 1) := by decide +kernel
theorem dX11_within_2 : decode cX11_within 2 = .ok (.if_icmp .lt 12, 3) := by decide +kernel
theorem dX11_within_5 : decode cX11_within 5 = .ok (.iload_n 0, 1) := by decide +kernel
theorem dX11_within_6 : decode cX11_within 6 = .ok (.iload_n 2, 1) := by decide +kernel
theorem dX11_within_7 : decode cX11_within 7 = .ok (.if_icmp .gt 7, 3) := by decide +kernel
theorem dX11_within_10 : decode cX11_within 10 = .ok (.iconst 1, 1) := by decide +kernel
theorem dX11_within_11 : decode cX11_within 11 = .ok (.goto 4, 3) := by decide +kernel
theorem dX11_within_14 : decode cX11_within 14 = .ok (.iconst 0, 1) := by decide +kernel
theorem dX11_within_15 : decode cX11_within 15 = .ok (.ireturn, 1) := by decide +kernel
theorem dX11_isWidth_0 : decode cX11_isWidth 0 = .ok (.iload_n 0, 1) := by decide +kernel
theorem dX11_isWidth_1 : decode cX11_isWidth 1 = .ok (.iconst 1, 1) := by decide +kernel
theorem dX11_isWidth_2 : decode cX11_isWidth 2 = .ok (.bipush 32, 2) := by decide +kernel
theorem dX11_isWidth_4 : decode cX11_isWidth 4 = .ok (.invokestatic 115, 3) := by decide +kernel
theorem dX11_isWidth_7 : decode cX11_isWidth 7 = .ok (.ireturn, 1) := by decide +kernel
theorem dX11_isPort_0 : decode cX11_isPort 0 = .ok (.iload_n 0, 1) := by decide +kernel
theorem dX11_isPort_1 : decode cX11_isPort 1 = .ok (.iconst 0, 1) := by decide +kernel
theorem dX11_isPort_2 : decode cX11_isPort 2 = .ok (.iconst 3, 1) := by decide +kernel
theorem dX11_isPort_3 : decode cX11_isPort 3 = .ok (.invokestatic 115, 3) := by decide +kernel
theorem dX11_isPort_6 : decode cX11_isPort 6 = .ok (.ireturn, 1) := by decide +kernel
theorem dX11_isKind_0 : decode cX11_isKind 0 = .ok (.iload_n 0, 1) := by decide +kernel
theorem dX11_isKind_1 : decode cX11_isKind 1 = .ok (.iconst 0, 1) := by decide +kernel
theorem dX11_isKind_2 : decode cX11_isKind 2 = .ok (.iconst 3, 1) := by decide +kernel
theorem dX11_isKind_3 : decode cX11_isKind 3 = .ok (.invokestatic 115, 3) := by decide +kernel
theorem dX11_isKind_6 : decode cX11_isKind 6 = .ok (.ireturn, 1) := by decide +kernel
theorem dX11_isPlace_0 : decode cX11_isPlace 0 = .ok (.lload_n 0, 1) := by decide +kernel
theorem dX11_isPlace_1 : decode cX11_isPlace 1 = .ok (.lconst 0, 1) := by decide +kernel
theorem dX11_isPlace_2 : decode cX11_isPlace 2 = .ok (.lcmp, 1) := by decide +kernel
theorem dX11_isPlace_3 : decode cX11_isPlace 3 = .ok (.ifCond .lt 15, 3) := by decide +kernel
theorem dX11_isPlace_6 : decode cX11_isPlace 6 = .ok (.lload_n 0, 1) := by decide +kernel
theorem dX11_isPlace_7 : decode cX11_isPlace 7 = .ok (.ldc2_w 377, 3) := by decide +kernel
theorem dX11_isPlace_10 : decode cX11_isPlace 10 = .ok (.lcmp, 1) := by decide +kernel
theorem dX11_isPlace_11 : decode cX11_isPlace 11 = .ok (.ifCond .ge 7, 3) := by decide +kernel
theorem dX11_isPlace_14 : decode cX11_isPlace 14 = .ok (.iconst 1, 1) := by decide +kernel
theorem dX11_isPlace_15 : decode cX11_isPlace 15 = .ok (.goto 4, 3) := by decide +kernel
theorem dX11_isPlace_18 : decode cX11_isPlace 18 = .ok (.iconst 0, 1) := by decide +kernel
theorem dX11_isPlace_19 : decode cX11_isPlace 19 = .ok (.ireturn, 1) := by decide +kernel
theorem dX11_isShelf_0 : decode cX11_isShelf 0 = .ok (.iload_n 0, 1) := by decide +kernel
theorem dX11_isShelf_1 : decode cX11_isShelf 1 = .ok (.iconst 0, 1) := by decide +kernel
theorem dX11_isShelf_2 : decode cX11_isShelf 2 = .ok (.bipush 7, 2) := by decide +kernel
theorem dX11_isShelf_4 : decode cX11_isShelf 4 = .ok (.invokestatic 115, 3) := by decide +kernel
theorem dX11_isShelf_7 : decode cX11_isShelf 7 = .ok (.ireturn, 1) := by decide +kernel
theorem dX12_init_0 : decode cX12_init 0 = .ok (.aload_n 0, 1) := by decide +kernel
theorem dX12_init_1 : decode cX12_init 1 = .ok (.invokespecial 1, 3) := by decide +kernel
theorem dX12_init_4 : decode cX12_init 4 = .ok (.aload_n 0, 1) := by decide +kernel
theorem dX12_init_5 : decode cX12_init 5 = .ok (.bipush 16, 2) := by decide +kernel
theorem dX12_init_7 : decode cX12_init 7 = .ok (.newarray .int, 2) := by decide +kernel
theorem dX12_init_9 : decode cX12_init 9 = .ok (.putfield 7, 3) := by decide +kernel
theorem dX12_init_12 : decode cX12_init 12 = .ok (.aload_n 0, 1) := by decide +kernel
theorem dX12_init_13 : decode cX12_init 13 = .ok (.bipush 16, 2) := by decide +kernel
theorem dX12_init_15 : decode cX12_init 15 = .ok (.newarray .int, 2) := by decide +kernel
theorem dX12_init_17 : decode cX12_init 17 = .ok (.putfield 13, 3) := by decide +kernel
theorem dX12_init_20 : decode cX12_init 20 = .ok (.aload_n 0, 1) := by decide +kernel
theorem dX12_init_21 : decode cX12_init 21 = .ok (.bipush 48, 2) := by decide +kernel
theorem dX12_init_23 : decode cX12_init 23 = .ok (.newarray .int, 2) := by decide +kernel
theorem dX12_init_25 : decode cX12_init 25 = .ok (.putfield 16, 3) := by decide +kernel
theorem dX12_init_28 : decode cX12_init 28 = .ok (.aload_n 0, 1) := by decide +kernel
theorem dX12_init_29 : decode cX12_init 29 = .ok (.bipush 16, 2) := by decide +kernel
theorem dX12_init_31 : decode cX12_init 31 = .ok (.newarray .int, 2) := by decide +kernel
theorem dX12_init_33 : decode cX12_init 33 = .ok (.putfield 19, 3) := by decide +kernel
theorem dX12_init_36 : decode cX12_init 36 = .ok (.aload_n 0, 1) := by decide +kernel
theorem dX12_init_37 : decode cX12_init 37 = .ok (.bipush 16, 2) := by decide +kernel
theorem dX12_init_39 : decode cX12_init 39 = .ok (.newarray .long, 2) := by decide +kernel
theorem dX12_init_41 : decode cX12_init 41 = .ok (.putfield 22, 3) := by decide +kernel
theorem dX12_init_44 : decode cX12_init 44 = .ok (.aload_n 0, 1) := by decide +kernel
theorem dX12_init_45 : decode cX12_init 45 = .ok (.iconst 4, 1) := by decide +kernel
theorem dX12_init_46 : decode cX12_init 46 = .ok (.newarray .int, 2) := by decide +kernel
theorem dX12_init_48 : decode cX12_init 48 = .ok (.dup, 1) := by decide +kernel
theorem dX12_init_49 : decode cX12_init 49 = .ok (.iconst 0, 1) := by decide +kernel
theorem dX12_init_50 : decode cX12_init 50 = .ok (.iconst 1, 1) := by decide +kernel
theorem dX12_init_51 : decode cX12_init 51 = .ok (.iastore, 1) := by decide +kernel
theorem dX12_init_52 : decode cX12_init 52 = .ok (.dup, 1) := by decide +kernel
theorem dX12_init_53 : decode cX12_init 53 = .ok (.iconst 1, 1) := by decide +kernel
theorem dX12_init_54 : decode cX12_init 54 = .ok (.iconst 1, 1) := by decide +kernel
theorem dX12_init_55 : decode cX12_init 55 = .ok (.iastore, 1) := by decide +kernel
theorem dX12_init_56 : decode cX12_init 56 = .ok (.dup, 1) := by decide +kernel
theorem dX12_init_57 : decode cX12_init 57 = .ok (.iconst 2, 1) := by decide +kernel
theorem dX12_init_58 : decode cX12_init 58 = .ok (.iconst 1, 1) := by decide +kernel
theorem dX12_init_59 : decode cX12_init 59 = .ok (.iastore, 1) := by decide +kernel
theorem dX12_init_60 : decode cX12_init 60 = .ok (.dup, 1) := by decide +kernel
theorem dX12_init_61 : decode cX12_init 61 = .ok (.iconst 3, 1) := by decide +kernel
theorem dX12_init_62 : decode cX12_init 62 = .ok (.iconst 1, 1) := by decide +kernel
theorem dX12_init_63 : decode cX12_init 63 = .ok (.iastore, 1) := by decide +kernel
theorem dX12_init_64 : decode cX12_init 64 = .ok (.putfield 26, 3) := by decide +kernel
theorem dX12_init_67 : decode cX12_init 67 = .ok (.aload_n 0, 1) := by decide +kernel
theorem dX12_init_68 : decode cX12_init 68 = .ok (.iconst 4, 1) := by decide +kernel
theorem dX12_init_69 : decode cX12_init 69 = .ok (.newarray .int, 2) := by decide +kernel
theorem dX12_init_71 : decode cX12_init 71 = .ok (.dup, 1) := by decide +kernel
theorem dX12_init_72 : decode cX12_init 72 = .ok (.iconst 0, 1) := by decide +kernel
theorem dX12_init_73 : decode cX12_init 73 = .ok (.iconst 1, 1) := by decide +kernel
theorem dX12_init_74 : decode cX12_init 74 = .ok (.iastore, 1) := by decide +kernel
theorem dX12_init_75 : decode cX12_init 75 = .ok (.dup, 1) := by decide +kernel
theorem dX12_init_76 : decode cX12_init 76 = .ok (.iconst 1, 1) := by decide +kernel
theorem dX12_init_77 : decode cX12_init 77 = .ok (.iconst 2, 1) := by decide +kernel
theorem dX12_init_78 : decode cX12_init 78 = .ok (.iastore, 1) := by decide +kernel
theorem dX12_init_79 : decode cX12_init 79 = .ok (.dup, 1) := by decide +kernel
theorem dX12_init_80 : decode cX12_init 80 = .ok (.iconst 2, 1) := by decide +kernel
theorem dX12_init_81 : decode cX12_init 81 = .ok (.iconst 4, 1) := by decide +kernel
theorem dX12_init_82 : decode cX12_init 82 = .ok (.iastore, 1) := by decide +kernel
theorem dX12_init_83 : decode cX12_init 83 = .ok (.dup, 1) := by decide +kernel
theorem dX12_init_84 : decode cX12_init 84 = .ok (.iconst 3, 1) := by decide +kernel
theorem dX12_init_85 : decode cX12_init 85 = .ok (.iconst 1, 1) := by decide +kernel
theorem dX12_init_86 : decode cX12_init 86 = .ok (.iastore, 1) := by decide +kernel
theorem dX12_init_87 : decode cX12_init 87 = .ok (.putfield 29, 3) := by decide +kernel
theorem dX12_init_90 : decode cX12_init 90 = .ok (.aload_n 0, 1) := by decide +kernel
theorem dX12_init_91 : decode cX12_init 91 = .ok (.iconst 4, 1) := by decide +kernel
theorem dX12_init_92 : decode cX12_init 92 = .ok (.newarray .boolean, 2) := by decide +kernel
theorem dX12_init_94 : decode cX12_init 94 = .ok (.putfield 32, 3) := by decide +kernel
theorem dX12_init_97 : decode cX12_init 97 = .ok (.aload_n 0, 1) := by decide +kernel
theorem dX12_init_98 : decode cX12_init 98 = .ok (.iconst 4, 1) := by decide +kernel
theorem dX12_init_99 : decode cX12_init 99 = .ok (.newarray .int, 2) := by decide +kernel
theorem dX12_init_101 : decode cX12_init 101 = .ok (.putfield 36, 3) := by decide +kernel
theorem dX12_init_104 : decode cX12_init 104 = .ok (.aload_n 0, 1) := by decide +kernel
theorem dX12_init_105 : decode cX12_init 105 = .ok (.bipush 80, 2) := by decide +kernel
theorem dX12_init_107 : decode cX12_init 107 = .ok (.newarray .long, 2) := by decide +kernel
theorem dX12_init_109 : decode cX12_init 109 = .ok (.putfield 39, 3) := by decide +kernel
theorem dX12_init_112 : decode cX12_init 112 = .ok (.aload_n 0, 1) := by decide +kernel
theorem dX12_init_113 : decode cX12_init 113 = .ok (.bipush 16, 2) := by decide +kernel
theorem dX12_init_115 : decode cX12_init 115 = .ok (.newarray .long, 2) := by decide +kernel
theorem dX12_init_117 : decode cX12_init 117 = .ok (.putfield 42, 3) := by decide +kernel
theorem dX12_init_120 : decode cX12_init 120 = .ok (.aload_n 0, 1) := by decide +kernel
theorem dX12_init_121 : decode cX12_init 121 = .ok (.bipush 16, 2) := by decide +kernel
theorem dX12_init_123 : decode cX12_init 123 = .ok (.newarray .int, 2) := by decide +kernel
theorem dX12_init_125 : decode cX12_init 125 = .ok (.putfield 45, 3) := by decide +kernel
theorem dX12_init_128 : decode cX12_init 128 = .ok (.aload_n 0, 1) := by decide +kernel
theorem dX12_init_129 : decode cX12_init 129 = .ok (.bipush 16, 2) := by decide +kernel
theorem dX12_init_131 : decode cX12_init 131 = .ok (.newarray .int, 2) := by decide +kernel
theorem dX12_init_133 : decode cX12_init 133 = .ok (.putfield 48, 3) := by decide +kernel
theorem dX12_init_136 : decode cX12_init 136 = .ok (.aload_n 0, 1) := by decide +kernel
theorem dX12_init_137 : decode cX12_init 137 = .ok (.bipush 16, 2) := by decide +kernel
theorem dX12_init_139 : decode cX12_init 139 = .ok (.newarray .int, 2) := by decide +kernel
theorem dX12_init_141 : decode cX12_init 141 = .ok (.putfield 51, 3) := by decide +kernel
theorem dX12_init_144 : decode cX12_init 144 = .ok (.aload_n 0, 1) := by decide +kernel
theorem dX12_init_145 : decode cX12_init 145 = .ok (.iconst 4, 1) := by decide +kernel
theorem dX12_init_146 : decode cX12_init 146 = .ok (.newarray .int, 2) := by decide +kernel
theorem dX12_init_148 : decode cX12_init 148 = .ok (.putfield 54, 3) := by decide +kernel
theorem dX12_init_151 : decode cX12_init 151 = .ok (.aload_n 0, 1) := by decide +kernel
theorem dX12_init_152 : decode cX12_init 152 = .ok (.bipush 64, 2) := by decide +kernel
theorem dX12_init_154 : decode cX12_init 154 = .ok (.newarray .long, 2) := by decide +kernel
theorem dX12_init_156 : decode cX12_init 156 = .ok (.putfield 57, 3) := by decide +kernel
theorem dX12_init_159 : decode cX12_init 159 = .ok (.aload_n 0, 1) := by decide +kernel
theorem dX12_init_160 : decode cX12_init 160 = .ok (.bipush 16, 2) := by decide +kernel
theorem dX12_init_162 : decode cX12_init 162 = .ok (.newarray .long, 2) := by decide +kernel
theorem dX12_init_164 : decode cX12_init 164 = .ok (.putfield 60, 3) := by decide +kernel
theorem dX12_init_167 : decode cX12_init 167 = .ok (.aload_n 0, 1) := by decide +kernel
theorem dX12_init_168 : decode cX12_init 168 = .ok (.bipush 16, 2) := by decide +kernel
theorem dX12_init_170 : decode cX12_init 170 = .ok (.newarray .long, 2) := by decide +kernel
theorem dX12_init_172 : decode cX12_init 172 = .ok (.putfield 63, 3) := by decide +kernel
theorem dX12_init_175 : decode cX12_init 175 = .ok (.aload_n 0, 1) := by decide +kernel
theorem dX12_init_176 : decode cX12_init 176 = .ok (.bipush 16, 2) := by decide +kernel
theorem dX12_init_178 : decode cX12_init 178 = .ok (.newarray .long, 2) := by decide +kernel
theorem dX12_init_180 : decode cX12_init 180 = .ok (.putfield 66, 3) := by decide +kernel
theorem dX12_init_183 : decode cX12_init 183 = .ok (.aload_n 0, 1) := by decide +kernel
theorem dX12_init_184 : decode cX12_init 184 = .ok (.bipush 16, 2) := by decide +kernel
theorem dX12_init_186 : decode cX12_init 186 = .ok (.newarray .int, 2) := by decide +kernel
theorem dX12_init_188 : decode cX12_init 188 = .ok (.putfield 69, 3) := by decide +kernel
theorem dX12_init_191 : decode cX12_init 191 = .ok (.aload_n 0, 1) := by decide +kernel
theorem dX12_init_192 : decode cX12_init 192 = .ok (.bipush 16, 2) := by decide +kernel
theorem dX12_init_194 : decode cX12_init 194 = .ok (.newarray .int, 2) := by decide +kernel
theorem dX12_init_196 : decode cX12_init 196 = .ok (.putfield 72, 3) := by decide +kernel
theorem dX12_init_199 : decode cX12_init 199 = .ok (.aload_n 0, 1) := by decide +kernel
theorem dX12_init_200 : decode cX12_init 200 = .ok (.bipush 16, 2) := by decide +kernel
theorem dX12_init_202 : decode cX12_init 202 = .ok (.newarray .long, 2) := by decide +kernel
theorem dX12_init_204 : decode cX12_init 204 = .ok (.putfield 75, 3) := by decide +kernel
theorem dX12_init_207 : decode cX12_init 207 = .ok (.aload_n 0, 1) := by decide +kernel
theorem dX12_init_208 : decode cX12_init 208 = .ok (.iconst 4, 1) := by decide +kernel
theorem dX12_init_209 : decode cX12_init 209 = .ok (.newarray .int, 2) := by decide +kernel
theorem dX12_init_211 : decode cX12_init 211 = .ok (.putfield 78, 3) := by decide +kernel
theorem dX12_init_214 : decode cX12_init 214 = .ok (.aload_n 0, 1) := by decide +kernel
theorem dX12_init_215 : decode cX12_init 215 = .ok (.bipush 8, 2) := by decide +kernel
theorem dX12_init_217 : decode cX12_init 217 = .ok (.newarray .int, 2) := by decide +kernel
theorem dX12_init_219 : decode cX12_init 219 = .ok (.putfield 81, 3) := by decide +kernel
theorem dX12_init_222 : decode cX12_init 222 = .ok (.aload_n 0, 1) := by decide +kernel
theorem dX12_init_223 : decode cX12_init 223 = .ok (.bipush 8, 2) := by decide +kernel
theorem dX12_init_225 : decode cX12_init 225 = .ok (.newarray .int, 2) := by decide +kernel
theorem dX12_init_227 : decode cX12_init 227 = .ok (.putfield 84, 3) := by decide +kernel
theorem dX12_init_230 : decode cX12_init 230 = .ok (.aload_n 0, 1) := by decide +kernel
theorem dX12_init_231 : decode cX12_init 231 = .ok (.bipush 8, 2) := by decide +kernel
theorem dX12_init_233 : decode cX12_init 233 = .ok (.newarray .int, 2) := by decide +kernel
theorem dX12_init_235 : decode cX12_init 235 = .ok (.putfield 87, 3) := by decide +kernel
theorem dX12_init_238 : decode cX12_init 238 = .ok (.aload_n 0, 1) := by decide +kernel
theorem dX12_init_239 : decode cX12_init 239 = .ok (.bipush 8, 2) := by decide +kernel
theorem dX12_init_241 : decode cX12_init 241 = .ok (.newarray .int, 2) := by decide +kernel
theorem dX12_init_243 : decode cX12_init 243 = .ok (.putfield 90, 3) := by decide +kernel
theorem dX12_init_246 : decode cX12_init 246 = .ok (.aload_n 0, 1) := by decide +kernel
theorem dX12_init_247 : decode cX12_init 247 = .ok (.sipush 480, 3) := by decide +kernel
theorem dX12_init_250 : decode cX12_init 250 = .ok (.newarray .long, 2) := by decide +kernel
theorem dX12_init_252 : decode cX12_init 252 = .ok (.putfield 93, 3) := by decide +kernel
theorem dX12_init_255 : decode cX12_init 255 = .ok (.aload_n 0, 1) := by decide +kernel
theorem dX12_init_256 : decode cX12_init 256 = .ok (.bipush 60, 2) := by decide +kernel
theorem dX12_init_258 : decode cX12_init 258 = .ok (.newarray .long, 2) := by decide +kernel
theorem dX12_init_260 : decode cX12_init 260 = .ok (.putfield 96, 3) := by decide +kernel
theorem dX12_init_263 : decode cX12_init 263 = .ok (.return_, 1) := by decide +kernel
theorem dX12_thrown_0 : decode cX12_thrown 0 = .ok (.aload_n 0, 1) := by decide +kernel
theorem dX12_thrown_1 : decode cX12_thrown 1 = .ok (.getfield 99, 3) := by decide +kernel
theorem dX12_thrown_4 : decode cX12_thrown 4 = .ok (.ireturn, 1) := by decide +kernel
theorem dX12_isIn_0 : decode cX12_isIn 0 = .ok (.lload_n 0, 1) := by decide +kernel
theorem dX12_isIn_1 : decode cX12_isIn 1 = .ok (.lload_n 2, 1) := by decide +kernel
theorem dX12_isIn_2 : decode cX12_isIn 2 = .ok (.lcmp, 1) := by decide +kernel
theorem dX12_isIn_3 : decode cX12_isIn 3 = .ok (.ifCond .lt 14, 3) := by decide +kernel
theorem dX12_isIn_6 : decode cX12_isIn 6 = .ok (.lload_n 0, 1) := by decide +kernel
theorem dX12_isIn_7 : decode cX12_isIn 7 = .ok (.lload 4, 2) := by decide +kernel
theorem dX12_isIn_9 : decode cX12_isIn 9 = .ok (.lcmp, 1) := by decide +kernel
theorem dX12_isIn_10 : decode cX12_isIn 10 = .ok (.ifCond .gt 7, 3) := by decide +kernel
theorem dX12_isIn_13 : decode cX12_isIn 13 = .ok (.iconst 1, 1) := by decide +kernel
theorem dX12_isIn_14 : decode cX12_isIn 14 = .ok (.goto 4, 3) := by decide +kernel
theorem dX12_isIn_17 : decode cX12_isIn 17 = .ok (.iconst 0, 1) := by decide +kernel
theorem dX12_isIn_18 : decode cX12_isIn 18 = .ok (.ireturn, 1) := by decide +kernel
theorem dX12_isAct_0 : decode cX12_isAct 0 = .ok (.iload_n 1, 1) := by decide +kernel
theorem dX12_isAct_1 : decode cX12_isAct 1 = .ok (.ifCond .lt 15, 3) := by decide +kernel
theorem dX12_isAct_4 : decode cX12_isAct 4 = .ok (.iload_n 1, 1) := by decide +kernel
theorem dX12_isAct_5 : decode cX12_isAct 5 = .ok (.aload_n 0, 1) := by decide +kernel
theorem dX12_isAct_6 : decode cX12_isAct 6 = .ok (.getfield 103, 3) := by decide +kernel
theorem dX12_isAct_9 : decode cX12_isAct 9 = .ok (.if_icmp .ge 7, 3) := by decide +kernel
theorem dX12_isAct_12 : decode cX12_isAct 12 = .ok (.iconst 1, 1) := by decide +kernel
theorem dX12_isAct_13 : decode cX12_isAct 13 = .ok (.goto 4, 3) := by decide +kernel
theorem dX12_isAct_16 : decode cX12_isAct 16 = .ok (.iconst 0, 1) := by decide +kernel
theorem dX12_isAct_17 : decode cX12_isAct 17 = .ok (.ireturn, 1) := by decide +kernel
theorem dX12_cut_0 : decode cX12_cut 0 = .ok (.lload_n 0, 1) := by decide +kernel
theorem dX12_cut_1 : decode cX12_cut 1 = .ok (.bipush 64, 2) := by decide +kernel
theorem dX12_cut_3 : decode cX12_cut 3 = .ok (.iload_n 2, 1) := by decide +kernel
theorem dX12_cut_4 : decode cX12_cut 4 = .ok (.isub, 1) := by decide +kernel
theorem dX12_cut_5 : decode cX12_cut 5 = .ok (.lshl, 1) := by decide +kernel
theorem dX12_cut_6 : decode cX12_cut 6 = .ok (.bipush 64, 2) := by decide +kernel
theorem dX12_cut_8 : decode cX12_cut 8 = .ok (.iload_n 2, 1) := by decide +kernel
theorem dX12_cut_9 : decode cX12_cut 9 = .ok (.isub, 1) := by decide +kernel
theorem dX12_cut_10 : decode cX12_cut 10 = .ok (.lshr, 1) := by decide +kernel
theorem dX12_cut_11 : decode cX12_cut 11 = .ok (.lreturn, 1) := by decide +kernel
theorem dX12_changed_0 : decode cX12_changed 0 = .ok (.aload_n 0, 1) := by decide +kernel
theorem dX12_changed_1 : decode cX12_changed 1 = .ok (.iconst 0, 1) := by decide +kernel
theorem dX12_changed_2 : decode cX12_changed 2 = .ok (.putfield 106, 3) := by decide +kernel
theorem dX12_changed_5 : decode cX12_changed 5 = .ok (.aload_n 0, 1) := by decide +kernel
theorem dX12_changed_6 : decode cX12_changed 6 = .ok (.iconst 0, 1) := by decide +kernel
theorem dX12_changed_7 : decode cX12_changed 7 = .ok (.putfield 110, 3) := by decide +kernel
theorem dX12_changed_10 : decode cX12_changed 10 = .ok (.return_, 1) := by decide +kernel
theorem dX12_added_0 : decode cX12_added 0 = .ok (.aload_n 0, 1) := by decide +kernel
theorem dX12_added_1 : decode cX12_added 1 = .ok (.getfield 103, 3) := by decide +kernel
theorem dX12_added_4 : decode cX12_added 4 = .ok (.bipush 16, 2) := by decide +kernel
theorem dX12_added_6 : decode cX12_added 6 = .ok (.if_icmp .ne 6, 3) := by decide +kernel
theorem dX12_added_9 : decode cX12_added 9 = .ok (.bipush (-2), 2) := by decide +kernel
theorem dX12_added_11 : decode cX12_added 11 = .ok (.ireturn, 1) := by decide +kernel
theorem dX12_added_12 : decode cX12_added 12 = .ok (.aload_n 0, 1) := by decide +kernel
theorem dX12_added_13 : decode cX12_added 13 = .ok (.getfield 7, 3) := by decide +kernel
theorem dX12_added_16 : decode cX12_added 16 = .ok (.aload_n 0, 1) := by decide +kernel
theorem dX12_added_17 : decode cX12_added 17 = .ok (.getfield 103, 3) := by decide +kernel
theorem dX12_added_20 : decode cX12_added 20 = .ok (.iload_n 1, 1) := by decide +kernel
theorem dX12_added_21 : decode cX12_added 21 = .ok (.iastore, 1) := by decide +kernel
theorem dX12_added_22 : decode cX12_added 22 = .ok (.aload_n 0, 1) := by decide +kernel
theorem dX12_added_23 : decode cX12_added 23 = .ok (.getfield 13, 3) := by decide +kernel
theorem dX12_added_26 : decode cX12_added 26 = .ok (.aload_n 0, 1) := by decide +kernel
theorem dX12_added_27 : decode cX12_added 27 = .ok (.getfield 103, 3) := by decide +kernel
theorem dX12_added_30 : decode cX12_added 30 = .ok (.iload_n 2, 1) := by decide +kernel
theorem dX12_added_31 : decode cX12_added 31 = .ok (.iastore, 1) := by decide +kernel
theorem dX12_added_32 : decode cX12_added 32 = .ok (.aload_n 0, 1) := by decide +kernel
theorem dX12_added_33 : decode cX12_added 33 = .ok (.getfield 16, 3) := by decide +kernel
theorem dX12_added_36 : decode cX12_added 36 = .ok (.iconst 3, 1) := by decide +kernel
theorem dX12_added_37 : decode cX12_added 37 = .ok (.aload_n 0, 1) := by decide +kernel
theorem dX12_added_38 : decode cX12_added 38 = .ok (.getfield 103, 3) := by decide +kernel
theorem dX12_added_41 : decode cX12_added 41 = .ok (.imul, 1) := by decide +kernel
theorem dX12_added_42 : decode cX12_added 42 = .ok (.iload_n 3, 1) := by decide +kernel
theorem dX12_added_43 : decode cX12_added 43 = .ok (.iastore, 1) := by decide +kernel
theorem dX12_added_44 : decode cX12_added 44 = .ok (.aload_n 0, 1) := by decide +kernel
theorem dX12_added_45 : decode cX12_added 45 = .ok (.getfield 16, 3) := by decide +kernel
theorem dX12_added_48 : decode cX12_added 48 = .ok (.iconst 3, 1) := by decide +kernel
theorem dX12_added_49 : decode cX12_added 49 = .ok (.aload_n 0, 1) := by decide +kernel
theorem dX12_added_50 : decode cX12_added 50 = .ok (.getfield 103, 3) := by decide +kernel
theorem dX12_added_53 : decode cX12_added 53 = .ok (.imul, 1) := by decide +kernel
theorem dX12_added_54 : decode cX12_added 54 = .ok (.iconst 1, 1) := by decide +kernel
theorem dX12_added_55 : decode cX12_added 55 = .ok (.iadd, 1) := by decide +kernel
theorem dX12_added_56 : decode cX12_added 56 = .ok (.iload 4, 2) := by decide +kernel
theorem dX12_added_58 : decode cX12_added 58 = .ok (.iastore, 1) := by decide +kernel
theorem dX12_added_59 : decode cX12_added 59 = .ok (.aload_n 0, 1) := by decide +kernel
theorem dX12_added_60 : decode cX12_added 60 = .ok (.getfield 16, 3) := by decide +kernel
theorem dX12_added_63 : decode cX12_added 63 = .ok (.iconst 3, 1) := by decide +kernel
theorem dX12_added_64 : decode cX12_added 64 = .ok (.aload_n 0, 1) := by decide +kernel
theorem dX12_added_65 : decode cX12_added 65 = .ok (.getfield 103, 3) := by decide +kernel
theorem dX12_added_68 : decode cX12_added 68 = .ok (.imul, 1) := by decide +kernel
theorem dX12_added_69 : decode cX12_added 69 = .ok (.iconst 2, 1) := by decide +kernel
theorem dX12_added_70 : decode cX12_added 70 = .ok (.iadd, 1) := by decide +kernel
theorem dX12_added_71 : decode cX12_added 71 = .ok (.iload 5, 2) := by decide +kernel
theorem dX12_added_73 : decode cX12_added 73 = .ok (.iastore, 1) := by decide +kernel
theorem dX12_added_74 : decode cX12_added 74 = .ok (.aload_n 0, 1) := by decide +kernel
theorem dX12_added_75 : decode cX12_added 75 = .ok (.getfield 19, 3) := by decide +kernel
theorem dX12_added_78 : decode cX12_added 78 = .ok (.aload_n 0, 1) := by decide +kernel
theorem dX12_added_79 : decode cX12_added 79 = .ok (.getfield 103, 3) := by decide +kernel
theorem dX12_added_82 : decode cX12_added 82 = .ok (.bipush (-2), 2) := by decide +kernel
theorem dX12_added_84 : decode cX12_added 84 = .ok (.iastore, 1) := by decide +kernel
theorem dX12_added_85 : decode cX12_added 85 = .ok (.aload_n 0, 1) := by decide +kernel
theorem dX12_added_86 : decode cX12_added 86 = .ok (.dup, 1) := by decide +kernel
theorem dX12_added_87 : decode cX12_added 87 = .ok (.getfield 103, 3) := by decide +kernel
theorem dX12_added_90 : decode cX12_added 90 = .ok (.iconst 1, 1) := by decide +kernel
theorem dX12_added_91 : decode cX12_added 91 = .ok (.iadd, 1) := by decide +kernel
theorem dX12_added_92 : decode cX12_added 92 = .ok (.putfield 103, 3) := by decide +kernel
theorem dX12_added_95 : decode cX12_added 95 = .ok (.aload_n 0, 1) := by decide +kernel
theorem dX12_added_96 : decode cX12_added 96 = .ok (.invokevirtual 113, 3) := by decide +kernel
theorem dX12_added_99 : decode cX12_added 99 = .ok (.aload_n 0, 1) := by decide +kernel
theorem dX12_added_100 : decode cX12_added 100 = .ok (.getfield 103, 3) := by decide +kernel
theorem dX12_added_103 : decode cX12_added 103 = .ok (.iconst 1, 1) := by decide +kernel
theorem dX12_added_104 : decode cX12_added 104 = .ok (.isub, 1) := by decide +kernel
theorem dX12_added_105 : decode cX12_added 105 = .ok (.ireturn, 1) := by decide +kernel
theorem dX12_constant_0 : decode cX12_constant 0 = .ok (.aload_n 0, 1) := by decide +kernel
theorem dX12_constant_1 : decode cX12_constant 1 = .ok (.iconst 0, 1) := by decide +kernel
theorem dX12_constant_2 : decode cX12_constant 2 = .ok (.putfield 99, 3) := by decide +kernel
theorem dX12_constant_5 : decode cX12_constant 5 = .ok (.iload_n 3, 1) := by decide +kernel
theorem dX12_constant_6 : decode cX12_constant 6 = .ok (.i2l, 1) := by decide +kernel
theorem dX12_constant_7 : decode cX12_constant 7 = .ok (.lconst 1, 1) := by decide +kernel
theorem dX12_constant_8 : decode cX12_constant 8 = .ok (.ldc2_w 116, 3) := by decide +kernel
theorem dX12_constant_11 : decode cX12_constant 11 = .ok (.invokestatic 118, 3) := by decide +kernel
theorem dX12_constant_14 : decode cX12_constant 14 = .ok (.ifCond .ne 5, 3) := by decide +kernel
theorem dX12_constant_17 : decode cX12_constant 17 = .ok (.iconst (-1), 1) := by decide +kernel
theorem dX12_constant_18 : decode cX12_constant 18 = .ok (.ireturn, 1) := by decide +kernel
theorem dX12_constant_19 : decode cX12_constant 19 = .ok (.aload_n 0, 1) := by decide +kernel
theorem dX12_constant_20 : decode cX12_constant 20 = .ok (.iconst 0, 1) := by decide +kernel
theorem dX12_constant_21 : decode cX12_constant 21 = .ok (.iload_n 3, 1) := by decide +kernel
theorem dX12_constant_22 : decode cX12_constant 22 = .ok (.iconst (-1), 1) := by decide +kernel
theorem dX12_constant_23 : decode cX12_constant 23 = .ok (.iconst (-1), 1) := by decide +kernel
theorem dX12_constant_24 : decode cX12_constant 24 = .ok (.iconst (-1), 1) := by decide +kernel
theorem dX12_constant_25 : decode cX12_constant 25 = .ok (.invokevirtual 122, 3) := by decide +kernel
theorem dX12_constant_28 : decode cX12_constant 28 = .ok (.istore 4, 2) := by decide +kernel
theorem dX12_constant_30 : decode cX12_constant 30 = .ok (.iload 4, 2) := by decide +kernel
theorem dX12_constant_32 : decode cX12_constant 32 = .ok (.ifCond .lt 15, 3) := by decide +kernel
theorem dX12_constant_35 : decode cX12_constant 35 = .ok (.aload_n 0, 1) := by decide +kernel
theorem dX12_constant_36 : decode cX12_constant 36 = .ok (.getfield 22, 3) := by decide +kernel
theorem dX12_constant_39 : decode cX12_constant 39 = .ok (.iload 4, 2) := by decide +kernel
theorem dX12_constant_41 : decode cX12_constant 41 = .ok (.lload_n 1, 1) := by decide +kernel
theorem dX12_constant_42 : decode cX12_constant 42 = .ok (.iload_n 3, 1) := by decide +kernel
theorem dX12_constant_43 : decode cX12_constant 43 = .ok (.invokestatic 126, 3) := by decide +kernel
theorem dX12_constant_46 : decode cX12_constant 46 = .ok (.lastore, 1) := by decide +kernel
theorem dX12_constant_47 : decode cX12_constant 47 = .ok (.iload 4, 2) := by decide +kernel
theorem dX12_constant_49 : decode cX12_constant 49 = .ok (.ireturn, 1) := by decide +kernel
theorem dX12_port_0 : decode cX12_port 0 = .ok (.aload_n 0, 1) := by decide +kernel
theorem dX12_port_1 : decode cX12_port 1 = .ok (.iconst 0, 1) := by decide +kernel
theorem dX12_port_2 : decode cX12_port 2 = .ok (.putfield 99, 3) := by decide +kernel
theorem dX12_port_5 : decode cX12_port 5 = .ok (.iload_n 1, 1) := by decide +kernel
theorem dX12_port_6 : decode cX12_port 6 = .ok (.i2l, 1) := by decide +kernel
theorem dX12_port_7 : decode cX12_port 7 = .ok (.lconst 0, 1) := by decide +kernel
theorem dX12_port_8 : decode cX12_port 8 = .ok (.ldc2_w 130, 3) := by decide +kernel
theorem dX12_port_11 : decode cX12_port 11 = .ok (.invokestatic 118, 3) := by decide +kernel
theorem dX12_port_14 : decode cX12_port 14 = .ok (.ifCond .eq 28, 3) := by decide +kernel
theorem dX12_port_17 : decode cX12_port 17 = .ok (.iload_n 2, 1) := by decide +kernel
theorem dX12_port_18 : decode cX12_port 18 = .ok (.iconst (-1), 1) := by decide +kernel
theorem dX12_port_19 : decode cX12_port 19 = .ok (.if_icmp .eq 11, 3) := by decide +kernel
theorem dX12_port_22 : decode cX12_port 22 = .ok (.aload_n 0, 1) := by decide +kernel
theorem dX12_port_23 : decode cX12_port 23 = .ok (.iload_n 2, 1) := by decide +kernel
theorem dX12_port_24 : decode cX12_port 24 = .ok (.invokevirtual 132, 3) := by decide +kernel
theorem dX12_port_27 : decode cX12_port 27 = .ok (.ifCond .eq 15, 3) := by decide +kernel
theorem dX12_port_30 : decode cX12_port 30 = .ok (.iload_n 3, 1) := by decide +kernel
theorem dX12_port_31 : decode cX12_port 31 = .ok (.i2l, 1) := by decide +kernel
theorem dX12_port_32 : decode cX12_port 32 = .ok (.lconst 1, 1) := by decide +kernel
theorem dX12_port_33 : decode cX12_port 33 = .ok (.ldc2_w 116, 3) := by decide +kernel
theorem dX12_port_36 : decode cX12_port 36 = .ok (.invokestatic 118, 3) := by decide +kernel
theorem dX12_port_39 : decode cX12_port 39 = .ok (.ifCond .ne 5, 3) := by decide +kernel
theorem dX12_port_42 : decode cX12_port 42 = .ok (.iconst (-1), 1) := by decide +kernel
theorem dX12_port_43 : decode cX12_port 43 = .ok (.ireturn, 1) := by decide +kernel
theorem dX12_port_44 : decode cX12_port 44 = .ok (.aload_n 0, 1) := by decide +kernel
theorem dX12_port_45 : decode cX12_port 45 = .ok (.iload_n 2, 1) := by decide +kernel
theorem dX12_port_46 : decode cX12_port 46 = .ok (.ifCond .ge 7, 3) := by decide +kernel
theorem dX12_port_49 : decode cX12_port 49 = .ok (.iconst 1, 1) := by decide +kernel
theorem dX12_port_50 : decode cX12_port 50 = .ok (.goto 5, 3) := by decide +kernel
theorem dX12_port_53 : decode cX12_port 53 = .ok (.bipush 10, 2) := by decide +kernel
theorem dX12_port_55 : decode cX12_port 55 = .ok (.iload_n 3, 1) := by decide +kernel
theorem dX12_port_56 : decode cX12_port 56 = .ok (.iload_n 2, 1) := by decide +kernel
theorem dX12_port_57 : decode cX12_port 57 = .ok (.iconst (-1), 1) := by decide +kernel
theorem dX12_port_58 : decode cX12_port 58 = .ok (.iconst (-1), 1) := by decide +kernel
theorem dX12_port_59 : decode cX12_port 59 = .ok (.invokevirtual 122, 3) := by decide +kernel
theorem dX12_port_62 : decode cX12_port 62 = .ok (.istore 4, 2) := by decide +kernel
theorem dX12_port_64 : decode cX12_port 64 = .ok (.iload 4, 2) := by decide +kernel
theorem dX12_port_66 : decode cX12_port 66 = .ok (.ifCond .lt 11, 3) := by decide +kernel
theorem dX12_port_69 : decode cX12_port 69 = .ok (.aload_n 0, 1) := by decide +kernel
theorem dX12_port_70 : decode cX12_port 70 = .ok (.getfield 19, 3) := by decide +kernel
theorem dX12_port_73 : decode cX12_port 73 = .ok (.iload 4, 2) := by decide +kernel
theorem dX12_port_75 : decode cX12_port 75 = .ok (.iload_n 1, 1) := by decide +kernel
theorem dX12_port_76 : decode cX12_port 76 = .ok (.iastore, 1) := by decide +kernel
theorem dX12_port_77 : decode cX12_port 77 = .ok (.iload 4, 2) := by decide +kernel
theorem dX12_port_79 : decode cX12_port 79 = .ok (.ireturn, 1) := by decide +kernel
theorem dX12_reckon_0 : decode cX12_reckon 0 = .ok (.aload_n 0, 1) := by decide +kernel
theorem dX12_reckon_1 : decode cX12_reckon 1 = .ok (.iconst 0, 1) := by decide +kernel
theorem dX12_reckon_2 : decode cX12_reckon 2 = .ok (.putfield 99, 3) := by decide +kernel
theorem dX12_reckon_5 : decode cX12_reckon 5 = .ok (.iload_n 1, 1) := by decide +kernel
theorem dX12_reckon_6 : decode cX12_reckon 6 = .ok (.i2l, 1) := by decide +kernel
theorem dX12_reckon_7 : decode cX12_reckon 7 = .ok (.ldc2_w 136, 3) := by decide +kernel
theorem dX12_reckon_10 : decode cX12_reckon 10 = .ok (.ldc2_w 138, 3) := by decide +kernel
theorem dX12_reckon_13 : decode cX12_reckon 13 = .ok (.invokestatic 118, 3) := by decide +kernel
theorem dX12_reckon_16 : decode cX12_reckon 16 = .ok (.ifCond .eq 32, 3) := by decide +kernel
theorem dX12_reckon_19 : decode cX12_reckon 19 = .ok (.aload_n 0, 1) := by decide +kernel
theorem dX12_reckon_20 : decode cX12_reckon 20 = .ok (.iload_n 2, 1) := by decide +kernel
theorem dX12_reckon_21 : decode cX12_reckon 21 = .ok (.invokevirtual 132, 3) := by decide +kernel
theorem dX12_reckon_24 : decode cX12_reckon 24 = .ok (.ifCond .eq 24, 3) := by decide +kernel
theorem dX12_reckon_27 : decode cX12_reckon 27 = .ok (.aload_n 0, 1) := by decide +kernel
theorem dX12_reckon_28 : decode cX12_reckon 28 = .ok (.iload_n 3, 1) := by decide +kernel
theorem dX12_reckon_29 : decode cX12_reckon 29 = .ok (.invokevirtual 132, 3) := by decide +kernel
theorem dX12_reckon_32 : decode cX12_reckon 32 = .ok (.ifCond .eq 16, 3) := by decide +kernel
theorem dX12_reckon_35 : decode cX12_reckon 35 = .ok (.iload 4, 2) := by decide +kernel
theorem dX12_reckon_37 : decode cX12_reckon 37 = .ok (.i2l, 1) := by decide +kernel
theorem dX12_reckon_38 : decode cX12_reckon 38 = .ok (.lconst 1, 1) := by decide +kernel
theorem dX12_reckon_39 : decode cX12_reckon 39 = .ok (.ldc2_w 116, 3) := by decide +kernel
theorem dX12_reckon_42 : decode cX12_reckon 42 = .ok (.invokestatic 118, 3) := by decide +kernel
theorem dX12_reckon_45 : decode cX12_reckon 45 = .ok (.ifCond .ne 7, 3) := by decide +kernel
theorem dX12_reckon_48 : decode cX12_reckon 48 = .ok (.iconst (-1), 1) := by decide +kernel
theorem dX12_reckon_49 : decode cX12_reckon 49 = .ok (.goto 13, 3) := by decide +kernel
theorem dX12_reckon_52 : decode cX12_reckon 52 = .ok (.aload_n 0, 1) := by decide +kernel
theorem dX12_reckon_53 : decode cX12_reckon 53 = .ok (.iload_n 1, 1) := by decide +kernel
theorem dX12_reckon_54 : decode cX12_reckon 54 = .ok (.iload 4, 2) := by decide +kernel
theorem dX12_reckon_56 : decode cX12_reckon 56 = .ok (.iload_n 2, 1) := by decide +kernel
theorem dX12_reckon_57 : decode cX12_reckon 57 = .ok (.iload_n 3, 1) := by decide +kernel
theorem dX12_reckon_58 : decode cX12_reckon 58 = .ok (.iconst (-1), 1) := by decide +kernel
theorem dX12_reckon_59 : decode cX12_reckon 59 = .ok (.invokevirtual 122, 3) := by decide +kernel
theorem dX12_reckon_62 : decode cX12_reckon 62 = .ok (.ireturn, 1) := by decide +kernel
theorem dX12_pick_0 : decode cX12_pick 0 = .ok (.aload_n 0, 1) := by decide +kernel
theorem dX12_pick_1 : decode cX12_pick 1 = .ok (.iconst 0, 1) := by decide +kernel
theorem dX12_pick_2 : decode cX12_pick 2 = .ok (.putfield 99, 3) := by decide +kernel
theorem dX12_pick_5 : decode cX12_pick 5 = .ok (.aload_n 0, 1) := by decide +kernel
theorem dX12_pick_6 : decode cX12_pick 6 = .ok (.iload_n 1, 1) := by decide +kernel
theorem dX12_pick_7 : decode cX12_pick 7 = .ok (.invokevirtual 132, 3) := by decide +kernel
theorem dX12_pick_10 : decode cX12_pick 10 = .ok (.ifCond .eq 32, 3) := by decide +kernel
theorem dX12_pick_13 : decode cX12_pick 13 = .ok (.aload_n 0, 1) := by decide +kernel
theorem dX12_pick_14 : decode cX12_pick 14 = .ok (.iload_n 2, 1) := by decide +kernel
theorem dX12_pick_15 : decode cX12_pick 15 = .ok (.invokevirtual 132, 3) := by decide +kernel
theorem dX12_pick_18 : decode cX12_pick 18 = .ok (.ifCond .eq 24, 3) := by decide +kernel
theorem dX12_pick_21 : decode cX12_pick 21 = .ok (.aload_n 0, 1) := by decide +kernel
theorem dX12_pick_22 : decode cX12_pick 22 = .ok (.iload_n 3, 1) := by decide +kernel
theorem dX12_pick_23 : decode cX12_pick 23 = .ok (.invokevirtual 132, 3) := by decide +kernel
theorem dX12_pick_26 : decode cX12_pick 26 = .ok (.ifCond .eq 16, 3) := by decide +kernel
theorem dX12_pick_29 : decode cX12_pick 29 = .ok (.iload 4, 2) := by decide +kernel
theorem dX12_pick_31 : decode cX12_pick 31 = .ok (.i2l, 1) := by decide +kernel
theorem dX12_pick_32 : decode cX12_pick 32 = .ok (.lconst 1, 1) := by decide +kernel
theorem dX12_pick_33 : decode cX12_pick 33 = .ok (.ldc2_w 116, 3) := by decide +kernel
theorem dX12_pick_36 : decode cX12_pick 36 = .ok (.invokestatic 118, 3) := by decide +kernel
theorem dX12_pick_39 : decode cX12_pick 39 = .ok (.ifCond .ne 7, 3) := by decide +kernel
theorem dX12_pick_42 : decode cX12_pick 42 = .ok (.iconst (-1), 1) := by decide +kernel
theorem dX12_pick_43 : decode cX12_pick 43 = .ok (.goto 14, 3) := by decide +kernel
theorem dX12_pick_46 : decode cX12_pick 46 = .ok (.aload_n 0, 1) := by decide +kernel
theorem dX12_pick_47 : decode cX12_pick 47 = .ok (.bipush 7, 2) := by decide +kernel
theorem dX12_pick_49 : decode cX12_pick 49 = .ok (.iload 4, 2) := by decide +kernel
theorem dX12_pick_51 : decode cX12_pick 51 = .ok (.iload_n 1, 1) := by decide +kernel
theorem dX12_pick_52 : decode cX12_pick 52 = .ok (.iload_n 2, 1) := by decide +kernel
theorem dX12_pick_53 : decode cX12_pick 53 = .ok (.iload_n 3, 1) := by decide +kernel
theorem dX12_pick_54 : decode cX12_pick 54 = .ok (.invokevirtual 122, 3) := by decide +kernel
theorem dX12_pick_57 : decode cX12_pick 57 = .ok (.ireturn, 1) := by decide +kernel
theorem dX12_touch_0 : decode cX12_touch 0 = .ok (.aload_n 0, 1) := by decide +kernel
theorem dX12_touch_1 : decode cX12_touch 1 = .ok (.iconst 0, 1) := by decide +kernel
theorem dX12_touch_2 : decode cX12_touch 2 = .ok (.putfield 99, 3) := by decide +kernel
theorem dX12_touch_5 : decode cX12_touch 5 = .ok (.aload_n 0, 1) := by decide +kernel
theorem dX12_touch_6 : decode cX12_touch 6 = .ok (.iload_n 1, 1) := by decide +kernel
theorem dX12_touch_7 : decode cX12_touch 7 = .ok (.invokevirtual 132, 3) := by decide +kernel
theorem dX12_touch_10 : decode cX12_touch 10 = .ok (.ifCond .eq 28, 3) := by decide +kernel
theorem dX12_touch_13 : decode cX12_touch 13 = .ok (.iload_n 2, 1) := by decide +kernel
theorem dX12_touch_14 : decode cX12_touch 14 = .ok (.iconst (-1), 1) := by decide +kernel
theorem dX12_touch_15 : decode cX12_touch 15 = .ok (.if_icmp .eq 11, 3) := by decide +kernel
theorem dX12_touch_18 : decode cX12_touch 18 = .ok (.aload_n 0, 1) := by decide +kernel
theorem dX12_touch_19 : decode cX12_touch 19 = .ok (.iload_n 2, 1) := by decide +kernel
theorem dX12_touch_20 : decode cX12_touch 20 = .ok (.invokevirtual 132, 3) := by decide +kernel
theorem dX12_touch_23 : decode cX12_touch 23 = .ok (.ifCond .eq 15, 3) := by decide +kernel
theorem dX12_touch_26 : decode cX12_touch 26 = .ok (.iload_n 3, 1) := by decide +kernel
theorem dX12_touch_27 : decode cX12_touch 27 = .ok (.i2l, 1) := by decide +kernel
theorem dX12_touch_28 : decode cX12_touch 28 = .ok (.lconst 1, 1) := by decide +kernel
theorem dX12_touch_29 : decode cX12_touch 29 = .ok (.ldc2_w 116, 3) := by decide +kernel
theorem dX12_touch_32 : decode cX12_touch 32 = .ok (.invokestatic 118, 3) := by decide +kernel
theorem dX12_touch_35 : decode cX12_touch 35 = .ok (.ifCond .ne 7, 3) := by decide +kernel
theorem dX12_touch_38 : decode cX12_touch 38 = .ok (.iconst (-1), 1) := by decide +kernel
theorem dX12_touch_39 : decode cX12_touch 39 = .ok (.goto 22, 3) := by decide +kernel
theorem dX12_touch_42 : decode cX12_touch 42 = .ok (.aload_n 0, 1) := by decide +kernel
theorem dX12_touch_43 : decode cX12_touch 43 = .ok (.iload_n 2, 1) := by decide +kernel
theorem dX12_touch_44 : decode cX12_touch 44 = .ok (.ifCond .ge 8, 3) := by decide +kernel
theorem dX12_touch_47 : decode cX12_touch 47 = .ok (.bipush 8, 2) := by decide +kernel
theorem dX12_touch_49 : decode cX12_touch 49 = .ok (.goto 5, 3) := by decide +kernel
theorem dX12_touch_52 : decode cX12_touch 52 = .ok (.bipush 9, 2) := by decide +kernel
theorem dX12_touch_54 : decode cX12_touch 54 = .ok (.iload_n 3, 1) := by decide +kernel
theorem dX12_touch_55 : decode cX12_touch 55 = .ok (.iload_n 1, 1) := by decide +kernel
theorem dX12_touch_56 : decode cX12_touch 56 = .ok (.iload_n 2, 1) := by decide +kernel
theorem dX12_touch_57 : decode cX12_touch 57 = .ok (.iconst (-1), 1) := by decide +kernel
theorem dX12_touch_58 : decode cX12_touch 58 = .ok (.invokevirtual 122, 3) := by decide +kernel
theorem dX12_touch_61 : decode cX12_touch 61 = .ok (.ireturn, 1) := by decide +kernel
theorem dX12_drop_0 : decode cX12_drop 0 = .ok (.aload_n 0, 1) := by decide +kernel
theorem dX12_drop_1 : decode cX12_drop 1 = .ok (.iconst 0, 1) := by decide +kernel
theorem dX12_drop_2 : decode cX12_drop 2 = .ok (.putfield 99, 3) := by decide +kernel
theorem dX12_drop_5 : decode cX12_drop 5 = .ok (.aload_n 0, 1) := by decide +kernel
theorem dX12_drop_6 : decode cX12_drop 6 = .ok (.getfield 103, 3) := by decide +kernel
theorem dX12_drop_9 : decode cX12_drop 9 = .ok (.ifCond .ne 6, 3) := by decide +kernel
theorem dX12_drop_12 : decode cX12_drop 12 = .ok (.bipush (-2), 2) := by decide +kernel
theorem dX12_drop_14 : decode cX12_drop 14 = .ok (.ireturn, 1) := by decide +kernel
theorem dX12_drop_15 : decode cX12_drop 15 = .ok (.aload_n 0, 1) := by decide +kernel
theorem dX12_drop_16 : decode cX12_drop 16 = .ok (.dup, 1) := by decide +kernel
theorem dX12_drop_17 : decode cX12_drop 17 = .ok (.getfield 103, 3) := by decide +kernel
theorem dX12_drop_20 : decode cX12_drop 20 = .ok (.iconst 1, 1) := by decide +kernel
theorem dX12_drop_21 : decode cX12_drop 21 = .ok (.isub, 1) := by decide +kernel
theorem dX12_drop_22 : decode cX12_drop 22 = .ok (.putfield 103, 3) := by decide +kernel
theorem dX12_drop_25 : decode cX12_drop 25 = .ok (.aload_n 0, 1) := by decide +kernel
theorem dX12_drop_26 : decode cX12_drop 26 = .ok (.invokevirtual 113, 3) := by decide +kernel
theorem dX12_drop_29 : decode cX12_drop 29 = .ok (.aload_n 0, 1) := by decide +kernel
theorem dX12_drop_30 : decode cX12_drop 30 = .ok (.getfield 103, 3) := by decide +kernel
theorem dX12_drop_33 : decode cX12_drop 33 = .ok (.ireturn, 1) := by decide +kernel
theorem dX12_parts_0 : decode cX12_parts 0 = .ok (.aload_n 0, 1) := by decide +kernel
theorem dX12_parts_1 : decode cX12_parts 1 = .ok (.iconst 0, 1) := by decide +kernel
theorem dX12_parts_2 : decode cX12_parts 2 = .ok (.putfield 99, 3) := by decide +kernel
theorem dX12_parts_5 : decode cX12_parts 5 = .ok (.iload_n 1, 1) := by decide +kernel
theorem dX12_parts_6 : decode cX12_parts 6 = .ok (.i2l, 1) := by decide +kernel
theorem dX12_parts_7 : decode cX12_parts 7 = .ok (.lconst 0, 1) := by decide +kernel
theorem dX12_parts_8 : decode cX12_parts 8 = .ok (.ldc2_w 130, 3) := by decide +kernel
theorem dX12_parts_11 : decode cX12_parts 11 = .ok (.invokestatic 118, 3) := by decide +kernel
theorem dX12_parts_14 : decode cX12_parts 14 = .ok (.ifCond .eq 15, 3) := by decide +kernel
theorem dX12_parts_17 : decode cX12_parts 17 = .ok (.iload_n 2, 1) := by decide +kernel
theorem dX12_parts_18 : decode cX12_parts 18 = .ok (.i2l, 1) := by decide +kernel
theorem dX12_parts_19 : decode cX12_parts 19 = .ok (.lconst 1, 1) := by decide +kernel
theorem dX12_parts_20 : decode cX12_parts 20 = .ok (.ldc2_w 140, 3) := by decide +kernel
theorem dX12_parts_23 : decode cX12_parts 23 = .ok (.invokestatic 118, 3) := by decide +kernel
theorem dX12_parts_26 : decode cX12_parts 26 = .ok (.ifCond .ne 5, 3) := by decide +kernel
theorem dX12_parts_29 : decode cX12_parts 29 = .ok (.iconst (-1), 1) := by decide +kernel
theorem dX12_parts_30 : decode cX12_parts 30 = .ok (.ireturn, 1) := by decide +kernel
theorem dX12_parts_31 : decode cX12_parts 31 = .ok (.aload_n 0, 1) := by decide +kernel
theorem dX12_parts_32 : decode cX12_parts 32 = .ok (.getfield 26, 3) := by decide +kernel
theorem dX12_parts_35 : decode cX12_parts 35 = .ok (.iload_n 1, 1) := by decide +kernel
theorem dX12_parts_36 : decode cX12_parts 36 = .ok (.iaload, 1) := by decide +kernel
theorem dX12_parts_37 : decode cX12_parts 37 = .ok (.istore_n 3, 1) := by decide +kernel
theorem dX12_parts_38 : decode cX12_parts 38 = .ok (.aload_n 0, 1) := by decide +kernel
theorem dX12_parts_39 : decode cX12_parts 39 = .ok (.getfield 26, 3) := by decide +kernel
theorem dX12_parts_42 : decode cX12_parts 42 = .ok (.iload_n 1, 1) := by decide +kernel
theorem dX12_parts_43 : decode cX12_parts 43 = .ok (.iload_n 2, 1) := by decide +kernel
theorem dX12_parts_44 : decode cX12_parts 44 = .ok (.iastore, 1) := by decide +kernel
theorem dX12_parts_45 : decode cX12_parts 45 = .ok (.aload_n 0, 1) := by decide +kernel
theorem dX12_parts_46 : decode cX12_parts 46 = .ok (.invokevirtual 113, 3) := by decide +kernel
theorem dX12_parts_49 : decode cX12_parts 49 = .ok (.iload_n 3, 1) := by decide +kernel
theorem dX12_parts_50 : decode cX12_parts 50 = .ok (.ireturn, 1) := by decide +kernel
theorem dX12_length_0 : decode cX12_length 0 = .ok (.aload_n 0, 1) := by decide +kernel
theorem dX12_length_1 : decode cX12_length 1 = .ok (.iconst 0, 1) := by decide +kernel
theorem dX12_length_2 : decode cX12_length 2 = .ok (.putfield 99, 3) := by decide +kernel
theorem dX12_length_5 : decode cX12_length 5 = .ok (.iload_n 1, 1) := by decide +kernel
theorem dX12_length_6 : decode cX12_length 6 = .ok (.i2l, 1) := by decide +kernel
theorem dX12_length_7 : decode cX12_length 7 = .ok (.lconst 0, 1) := by decide +kernel
theorem dX12_length_8 : decode cX12_length 8 = .ok (.ldc2_w 130, 3) := by decide +kernel
theorem dX12_length_11 : decode cX12_length 11 = .ok (.invokestatic 118, 3) := by decide +kernel
theorem dX12_length_14 : decode cX12_length 14 = .ok (.ifCond .eq 15, 3) := by decide +kernel
theorem dX12_length_17 : decode cX12_length 17 = .ok (.iload_n 2, 1) := by decide +kernel
theorem dX12_length_18 : decode cX12_length 18 = .ok (.i2l, 1) := by decide +kernel
theorem dX12_length_19 : decode cX12_length 19 = .ok (.lconst 1, 1) := by decide +kernel
theorem dX12_length_20 : decode cX12_length 20 = .ok (.ldc2_w 142, 3) := by decide +kernel
theorem dX12_length_23 : decode cX12_length 23 = .ok (.invokestatic 118, 3) := by decide +kernel
theorem dX12_length_26 : decode cX12_length 26 = .ok (.ifCond .ne 5, 3) := by decide +kernel
theorem dX12_length_29 : decode cX12_length 29 = .ok (.iconst (-1), 1) := by decide +kernel
theorem dX12_length_30 : decode cX12_length 30 = .ok (.ireturn, 1) := by decide +kernel
theorem dX12_length_31 : decode cX12_length 31 = .ok (.aload_n 0, 1) := by decide +kernel
theorem dX12_length_32 : decode cX12_length 32 = .ok (.getfield 29, 3) := by decide +kernel
theorem dX12_length_35 : decode cX12_length 35 = .ok (.iload_n 1, 1) := by decide +kernel
theorem dX12_length_36 : decode cX12_length 36 = .ok (.iaload, 1) := by decide +kernel
theorem dX12_length_37 : decode cX12_length 37 = .ok (.istore 4, 2) := by decide +kernel
theorem dX12_length_39 : decode cX12_length 39 = .ok (.aload_n 0, 1) := by decide +kernel
theorem dX12_length_40 : decode cX12_length 40 = .ok (.getfield 29, 3) := by decide +kernel
theorem dX12_length_43 : decode cX12_length 43 = .ok (.iload_n 1, 1) := by decide +kernel
theorem dX12_length_44 : decode cX12_length 44 = .ok (.iload_n 2, 1) := by decide +kernel
theorem dX12_length_45 : decode cX12_length 45 = .ok (.iastore, 1) := by decide +kernel
theorem dX12_length_46 : decode cX12_length 46 = .ok (.aload_n 0, 1) := by decide +kernel
theorem dX12_length_47 : decode cX12_length 47 = .ok (.getfield 32, 3) := by decide +kernel
theorem dX12_length_50 : decode cX12_length 50 = .ok (.iload_n 1, 1) := by decide +kernel
theorem dX12_length_51 : decode cX12_length 51 = .ok (.iload_n 3, 1) := by decide +kernel
theorem dX12_length_52 : decode cX12_length 52 = .ok (.bastore, 1) := by decide +kernel
theorem dX12_length_53 : decode cX12_length 53 = .ok (.aload_n 0, 1) := by decide +kernel
theorem dX12_length_54 : decode cX12_length 54 = .ok (.invokevirtual 113, 3) := by decide +kernel
theorem dX12_length_57 : decode cX12_length 57 = .ok (.iload 4, 2) := by decide +kernel
theorem dX12_length_59 : decode cX12_length 59 = .ok (.ireturn, 1) := by decide +kernel
theorem dX12_feed_0 : decode cX12_feed 0 = .ok (.aload_n 0, 1) := by decide +kernel
theorem dX12_feed_1 : decode cX12_feed 1 = .ok (.iconst 0, 1) := by decide +kernel
theorem dX12_feed_2 : decode cX12_feed 2 = .ok (.putfield 99, 3) := by decide +kernel
theorem dX12_feed_5 : decode cX12_feed 5 = .ok (.iload_n 1, 1) := by decide +kernel
theorem dX12_feed_6 : decode cX12_feed 6 = .ok (.i2l, 1) := by decide +kernel
theorem dX12_feed_7 : decode cX12_feed 7 = .ok (.lconst 0, 1) := by decide +kernel
theorem dX12_feed_8 : decode cX12_feed 8 = .ok (.ldc2_w 130, 3) := by decide +kernel
theorem dX12_feed_11 : decode cX12_feed 11 = .ok (.invokestatic 118, 3) := by decide +kernel
theorem dX12_feed_14 : decode cX12_feed 14 = .ok (.ifCond .ne 5, 3) := by decide +kernel
theorem dX12_feed_17 : decode cX12_feed 17 = .ok (.iconst (-1), 1) := by decide +kernel
theorem dX12_feed_18 : decode cX12_feed 18 = .ok (.ireturn, 1) := by decide +kernel
theorem dX12_feed_19 : decode cX12_feed 19 = .ok (.aload_n 0, 1) := by decide +kernel
theorem dX12_feed_20 : decode cX12_feed 20 = .ok (.getfield 36, 3) := by decide +kernel
theorem dX12_feed_23 : decode cX12_feed 23 = .ok (.iload_n 1, 1) := by decide +kernel
theorem dX12_feed_24 : decode cX12_feed 24 = .ok (.iaload, 1) := by decide +kernel
theorem dX12_feed_25 : decode cX12_feed 25 = .ok (.bipush 20, 2) := by decide +kernel
theorem dX12_feed_27 : decode cX12_feed 27 = .ok (.if_icmp .ne 6, 3) := by decide +kernel
theorem dX12_feed_30 : decode cX12_feed 30 = .ok (.bipush (-2), 2) := by decide +kernel
theorem dX12_feed_32 : decode cX12_feed 32 = .ok (.ireturn, 1) := by decide +kernel
theorem dX12_feed_33 : decode cX12_feed 33 = .ok (.aload_n 0, 1) := by decide +kernel
theorem dX12_feed_34 : decode cX12_feed 34 = .ok (.getfield 39, 3) := by decide +kernel
theorem dX12_feed_37 : decode cX12_feed 37 = .ok (.bipush 20, 2) := by decide +kernel
theorem dX12_feed_39 : decode cX12_feed 39 = .ok (.iload_n 1, 1) := by decide +kernel
theorem dX12_feed_40 : decode cX12_feed 40 = .ok (.imul, 1) := by decide +kernel
theorem dX12_feed_41 : decode cX12_feed 41 = .ok (.aload_n 0, 1) := by decide +kernel
theorem dX12_feed_42 : decode cX12_feed 42 = .ok (.getfield 36, 3) := by decide +kernel
theorem dX12_feed_45 : decode cX12_feed 45 = .ok (.iload_n 1, 1) := by decide +kernel
theorem dX12_feed_46 : decode cX12_feed 46 = .ok (.iaload, 1) := by decide +kernel
theorem dX12_feed_47 : decode cX12_feed 47 = .ok (.iadd, 1) := by decide +kernel
theorem dX12_feed_48 : decode cX12_feed 48 = .ok (.lload_n 2, 1) := by decide +kernel
theorem dX12_feed_49 : decode cX12_feed 49 = .ok (.lastore, 1) := by decide +kernel
theorem dX12_feed_50 : decode cX12_feed 50 = .ok (.aload_n 0, 1) := by decide +kernel
theorem dX12_feed_51 : decode cX12_feed 51 = .ok (.getfield 36, 3) := by decide +kernel
theorem dX12_feed_54 : decode cX12_feed 54 = .ok (.iload_n 1, 1) := by decide +kernel
theorem dX12_feed_55 : decode cX12_feed 55 = .ok (.dup2, 1) := by decide +kernel
theorem dX12_feed_56 : decode cX12_feed 56 = .ok (.iaload, 1) := by decide +kernel
theorem dX12_feed_57 : decode cX12_feed 57 = .ok (.iconst 1, 1) := by decide +kernel
theorem dX12_feed_58 : decode cX12_feed 58 = .ok (.iadd, 1) := by decide +kernel
theorem dX12_feed_59 : decode cX12_feed 59 = .ok (.iastore, 1) := by decide +kernel
theorem dX12_feed_60 : decode cX12_feed 60 = .ok (.aload_n 0, 1) := by decide +kernel
theorem dX12_feed_61 : decode cX12_feed 61 = .ok (.getfield 36, 3) := by decide +kernel
theorem dX12_feed_64 : decode cX12_feed 64 = .ok (.iload_n 1, 1) := by decide +kernel
theorem dX12_feed_65 : decode cX12_feed 65 = .ok (.iaload, 1) := by decide +kernel
theorem dX12_feed_66 : decode cX12_feed 66 = .ok (.ireturn, 1) := by decide +kernel
theorem dX12_place_0 : decode cX12_place 0 = .ok (.aload_n 0, 1) := by decide +kernel
theorem dX12_place_1 : decode cX12_place 1 = .ok (.iconst 0, 1) := by decide +kernel
theorem dX12_place_2 : decode cX12_place 2 = .ok (.putfield 99, 3) := by decide +kernel
theorem dX12_place_5 : decode cX12_place 5 = .ok (.iload_n 1, 1) := by decide +kernel
theorem dX12_place_6 : decode cX12_place 6 = .ok (.i2l, 1) := by decide +kernel
theorem dX12_place_7 : decode cX12_place 7 = .ok (.lconst 0, 1) := by decide +kernel
theorem dX12_place_8 : decode cX12_place 8 = .ok (.ldc2_w 144, 3) := by decide +kernel
theorem dX12_place_11 : decode cX12_place 11 = .ok (.invokestatic 118, 3) := by decide +kernel
theorem dX12_place_14 : decode cX12_place 14 = .ok (.ifCond .ne 5, 3) := by decide +kernel
theorem dX12_place_17 : decode cX12_place 17 = .ok (.iconst (-1), 1) := by decide +kernel
theorem dX12_place_18 : decode cX12_place 18 = .ok (.ireturn, 1) := by decide +kernel
theorem dX12_place_19 : decode cX12_place 19 = .ok (.aload_n 0, 1) := by decide +kernel
theorem dX12_place_20 : decode cX12_place 20 = .ok (.getfield 42, 3) := by decide +kernel
theorem dX12_place_23 : decode cX12_place 23 = .ok (.iload_n 1, 1) := by decide +kernel
theorem dX12_place_24 : decode cX12_place 24 = .ok (.lload_n 2, 1) := by decide +kernel
theorem dX12_place_25 : decode cX12_place 25 = .ok (.lastore, 1) := by decide +kernel
theorem dX12_place_26 : decode cX12_place 26 = .ok (.iconst 0, 1) := by decide +kernel
theorem dX12_place_27 : decode cX12_place 27 = .ok (.ireturn, 1) := by decide +kernel
theorem dX12_kindOf_0 : decode cX12_kindOf 0 = .ok (.aload_n 0, 1) := by decide +kernel
theorem dX12_kindOf_1 : decode cX12_kindOf 1 = .ok (.getfield 7, 3) := by decide +kernel
theorem dX12_kindOf_4 : decode cX12_kindOf 4 = .ok (.iload_n 1, 1) := by decide +kernel
theorem dX12_kindOf_5 : decode cX12_kindOf 5 = .ok (.iaload, 1) := by decide +kernel
theorem dX12_kindOf_6 : decode cX12_kindOf 6 = .ok (.tableswitch 54 2 9 #[46, 46, 48, 50, 46, 54, 52, 52], 46) := by decide +kernel
theorem dX12_kindOf_52 : decode cX12_kindOf 52 = .ok (.iconst 0, 1) := by decide +kernel
theorem dX12_kindOf_53 : decode cX12_kindOf 53 = .ok (.ireturn, 1) := by decide +kernel
theorem dX12_kindOf_54 : decode cX12_kindOf 54 = .ok (.iconst 1, 1) := by decide +kernel
theorem dX12_kindOf_55 : decode cX12_kindOf 55 = .ok (.ireturn, 1) := by decide +kernel
theorem dX12_kindOf_56 : decode cX12_kindOf 56 = .ok (.iconst 2, 1) := by decide +kernel
theorem dX12_kindOf_57 : decode cX12_kindOf 57 = .ok (.ireturn, 1) := by decide +kernel
theorem dX12_kindOf_58 : decode cX12_kindOf 58 = .ok (.iconst 3, 1) := by decide +kernel
theorem dX12_kindOf_59 : decode cX12_kindOf 59 = .ok (.ireturn, 1) := by decide +kernel
theorem dX12_kindOf_60 : decode cX12_kindOf 60 = .ok (.bipush (-2), 2) := by decide +kernel
theorem dX12_kindOf_62 : decode cX12_kindOf 62 = .ok (.ireturn, 1) := by decide +kernel
theorem dX12_lengthOf_0 : decode cX12_lengthOf 0 = .ok (.aload_n 0, 1) := by decide +kernel
theorem dX12_lengthOf_1 : decode cX12_lengthOf 1 = .ok (.iload_n 1, 1) := by decide +kernel
theorem dX12_lengthOf_2 : decode cX12_lengthOf 2 = .ok (.invokevirtual 146, 3) := by decide +kernel
theorem dX12_lengthOf_5 : decode cX12_lengthOf 5 = .ok (.istore_n 2, 1) := by decide +kernel
theorem dX12_lengthOf_6 : decode cX12_lengthOf 6 = .ok (.iload_n 2, 1) := by decide +kernel
theorem dX12_lengthOf_7 : decode cX12_lengthOf 7 = .ok (.ifCond .lt 12, 3) := by decide +kernel
theorem dX12_lengthOf_10 : decode cX12_lengthOf 10 = .ok (.aload_n 0, 1) := by decide +kernel
theorem dX12_lengthOf_11 : decode cX12_lengthOf 11 = .ok (.getfield 29, 3) := by decide +kernel
theorem dX12_lengthOf_14 : decode cX12_lengthOf 14 = .ok (.iload_n 2, 1) := by decide +kernel
theorem dX12_lengthOf_15 : decode cX12_lengthOf 15 = .ok (.iaload, 1) := by decide +kernel
theorem dX12_lengthOf_16 : decode cX12_lengthOf 16 = .ok (.goto 17, 3) := by decide +kernel
theorem dX12_lengthOf_19 : decode cX12_lengthOf 19 = .ok (.aload_n 0, 1) := by decide +kernel
theorem dX12_lengthOf_20 : decode cX12_lengthOf 20 = .ok (.getfield 7, 3) := by decide +kernel
theorem dX12_lengthOf_23 : decode cX12_lengthOf 23 = .ok (.iload_n 1, 1) := by decide +kernel
theorem dX12_lengthOf_24 : decode cX12_lengthOf 24 = .ok (.iaload, 1) := by decide +kernel
theorem dX12_lengthOf_25 : decode cX12_lengthOf 25 = .ok (.ifCond .ne 7, 3) := by decide +kernel
theorem dX12_lengthOf_28 : decode cX12_lengthOf 28 = .ok (.iconst 0, 1) := by decide +kernel
theorem dX12_lengthOf_29 : decode cX12_lengthOf 29 = .ok (.goto 4, 3) := by decide +kernel
theorem dX12_lengthOf_32 : decode cX12_lengthOf 32 = .ok (.iconst 1, 1) := by decide +kernel
theorem dX12_lengthOf_33 : decode cX12_lengthOf 33 = .ok (.ireturn, 1) := by decide +kernel
theorem dX12_fills_0 : decode cX12_fills 0 = .ok (.aload_n 0, 1) := by decide +kernel
theorem dX12_fills_1 : decode cX12_fills 1 = .ok (.iload_n 1, 1) := by decide +kernel
theorem dX12_fills_2 : decode cX12_fills 2 = .ok (.invokevirtual 146, 3) := by decide +kernel
theorem dX12_fills_5 : decode cX12_fills 5 = .ok (.istore_n 2, 1) := by decide +kernel
theorem dX12_fills_6 : decode cX12_fills 6 = .ok (.iload_n 2, 1) := by decide +kernel
theorem dX12_fills_7 : decode cX12_fills 7 = .ok (.ifCond .ge 7, 3) := by decide +kernel
theorem dX12_fills_10 : decode cX12_fills 10 = .ok (.iconst 0, 1) := by decide +kernel
theorem dX12_fills_11 : decode cX12_fills 11 = .ok (.goto 22, 3) := by decide +kernel
theorem dX12_fills_14 : decode cX12_fills 14 = .ok (.aload_n 0, 1) := by decide +kernel
theorem dX12_fills_15 : decode cX12_fills 15 = .ok (.getfield 32, 3) := by decide +kernel
theorem dX12_fills_18 : decode cX12_fills 18 = .ok (.iload_n 2, 1) := by decide +kernel
theorem dX12_fills_19 : decode cX12_fills 19 = .ok (.baload, 1) := by decide +kernel
theorem dX12_fills_20 : decode cX12_fills 20 = .ok (.ifCond .eq 7, 3) := by decide +kernel
theorem dX12_fills_23 : decode cX12_fills 23 = .ok (.iconst 1, 1) := by decide +kernel
theorem dX12_fills_24 : decode cX12_fills 24 = .ok (.goto 9, 3) := by decide +kernel
theorem dX12_fills_27 : decode cX12_fills 27 = .ok (.aload_n 0, 1) := by decide +kernel
theorem dX12_fills_28 : decode cX12_fills 28 = .ok (.getfield 29, 3) := by decide +kernel
theorem dX12_fills_31 : decode cX12_fills 31 = .ok (.iload_n 2, 1) := by decide +kernel
theorem dX12_fills_32 : decode cX12_fills 32 = .ok (.iaload, 1) := by decide +kernel
theorem dX12_fills_33 : decode cX12_fills 33 = .ok (.ireturn, 1) := by decide +kernel
theorem dX12_lesser_0 : decode cX12_lesser 0 = .ok (.lload_n 0, 1) := by decide +kernel
theorem dX12_lesser_1 : decode cX12_lesser 1 = .ok (.lload_n 2, 1) := by decide +kernel
theorem dX12_lesser_2 : decode cX12_lesser 2 = .ok (.lcmp, 1) := by decide +kernel
theorem dX12_lesser_3 : decode cX12_lesser 3 = .ok (.ifCond .ge 7, 3) := by decide +kernel
theorem dX12_lesser_6 : decode cX12_lesser 6 = .ok (.lload_n 0, 1) := by decide +kernel
theorem dX12_lesser_7 : decode cX12_lesser 7 = .ok (.goto 4, 3) := by decide +kernel
theorem dX12_lesser_10 : decode cX12_lesser 10 = .ok (.lload_n 2, 1) := by decide +kernel
theorem dX12_lesser_11 : decode cX12_lesser 11 = .ok (.lreturn, 1) := by decide +kernel
theorem dX12_greater_0 : decode cX12_greater 0 = .ok (.lload_n 0, 1) := by decide +kernel
theorem dX12_greater_1 : decode cX12_greater 1 = .ok (.lload_n 2, 1) := by decide +kernel
theorem dX12_greater_2 : decode cX12_greater 2 = .ok (.lcmp, 1) := by decide +kernel
theorem dX12_greater_3 : decode cX12_greater 3 = .ok (.ifCond .le 7, 3) := by decide +kernel
theorem dX12_greater_6 : decode cX12_greater 6 = .ok (.lload_n 0, 1) := by decide +kernel
theorem dX12_greater_7 : decode cX12_greater 7 = .ok (.goto 4, 3) := by decide +kernel
theorem dX12_greater_10 : decode cX12_greater 10 = .ok (.lload_n 2, 1) := by decide +kernel
theorem dX12_greater_11 : decode cX12_greater 11 = .ok (.lreturn, 1) := by decide +kernel
theorem dX12_spanOf_0 : decode cX12_spanOf 0 = .ok (.aload_n 0, 1) := by decide +kernel
theorem dX12_spanOf_1 : decode cX12_spanOf 1 = .ok (.getfield 16, 3) := by decide +kernel
theorem dX12_spanOf_4 : decode cX12_spanOf 4 = .ok (.iconst 3, 1) := by decide +kernel
theorem dX12_spanOf_5 : decode cX12_spanOf 5 = .ok (.iload_n 1, 1) := by decide +kernel
theorem dX12_spanOf_6 : decode cX12_spanOf 6 = .ok (.imul, 1) := by decide +kernel
theorem dX12_spanOf_7 : decode cX12_spanOf 7 = .ok (.iaload, 1) := by decide +kernel
theorem dX12_spanOf_8 : decode cX12_spanOf 8 = .ok (.istore 4, 2) := by decide +kernel
theorem dX12_spanOf_10 : decode cX12_spanOf 10 = .ok (.aload_n 0, 1) := by decide +kernel
theorem dX12_spanOf_11 : decode cX12_spanOf 11 = .ok (.getfield 16, 3) := by decide +kernel
theorem dX12_spanOf_14 : decode cX12_spanOf 14 = .ok (.iconst 3, 1) := by decide +kernel
theorem dX12_spanOf_15 : decode cX12_spanOf 15 = .ok (.iload_n 1, 1) := by decide +kernel
theorem dX12_spanOf_16 : decode cX12_spanOf 16 = .ok (.imul, 1) := by decide +kernel
theorem dX12_spanOf_17 : decode cX12_spanOf 17 = .ok (.iconst 1, 1) := by decide +kernel
theorem dX12_spanOf_18 : decode cX12_spanOf 18 = .ok (.iadd, 1) := by decide +kernel
theorem dX12_spanOf_19 : decode cX12_spanOf 19 = .ok (.iaload, 1) := by decide +kernel
theorem dX12_spanOf_20 : decode cX12_spanOf 20 = .ok (.istore 5, 2) := by decide +kernel
theorem dX12_spanOf_22 : decode cX12_spanOf 22 = .ok (.aload_n 0, 1) := by decide +kernel
theorem dX12_spanOf_23 : decode cX12_spanOf 23 = .ok (.getfield 16, 3) := by decide +kernel
theorem dX12_spanOf_26 : decode cX12_spanOf 26 = .ok (.iconst 3, 1) := by decide +kernel
theorem dX12_spanOf_27 : decode cX12_spanOf 27 = .ok (.iload_n 1, 1) := by decide +kernel
theorem dX12_spanOf_28 : decode cX12_spanOf 28 = .ok (.imul, 1) := by decide +kernel
theorem dX12_spanOf_29 : decode cX12_spanOf 29 = .ok (.iconst 2, 1) := by decide +kernel
theorem dX12_spanOf_30 : decode cX12_spanOf 30 = .ok (.iadd, 1) := by decide +kernel
theorem dX12_spanOf_31 : decode cX12_spanOf 31 = .ok (.iaload, 1) := by decide +kernel
theorem dX12_spanOf_32 : decode cX12_spanOf 32 = .ok (.istore 6, 2) := by decide +kernel
theorem dX12_spanOf_34 : decode cX12_spanOf 34 = .ok (.aload_n 0, 1) := by decide +kernel
theorem dX12_spanOf_35 : decode cX12_spanOf 35 = .ok (.getfield 7, 3) := by decide +kernel
theorem dX12_spanOf_38 : decode cX12_spanOf 38 = .ok (.iload_n 1, 1) := by decide +kernel
theorem dX12_spanOf_39 : decode cX12_spanOf 39 = .ok (.iaload, 1) := by decide +kernel
theorem dX12_spanOf_40 : decode cX12_spanOf 40 = .ok (.tableswitch 607 0 10 #[60, 607, 83, 124, 165, 278, 333, 390, 607, 557, 582], 60) := by decide +kernel
theorem dX12_spanOf_100 : decode cX12_spanOf 100 = .ok (.aload_n 0, 1) := by decide +kernel
theorem dX12_spanOf_101 : decode cX12_spanOf 101 = .ok (.aload_n 0, 1) := by decide +kernel
theorem dX12_spanOf_102 : decode cX12_spanOf 102 = .ok (.getfield 22, 3) := by decide +kernel
theorem dX12_spanOf_105 : decode cX12_spanOf 105 = .ok (.iload_n 1, 1) := by decide +kernel
theorem dX12_spanOf_106 : decode cX12_spanOf 106 = .ok (.laload, 1) := by decide +kernel
theorem dX12_spanOf_107 : decode cX12_spanOf 107 = .ok (.putfield 150, 3) := by decide +kernel
theorem dX12_spanOf_110 : decode cX12_spanOf 110 = .ok (.aload_n 0, 1) := by decide +kernel
theorem dX12_spanOf_111 : decode cX12_spanOf 111 = .ok (.aload_n 0, 1) := by decide +kernel
theorem dX12_spanOf_112 : decode cX12_spanOf 112 = .ok (.getfield 22, 3) := by decide +kernel
theorem dX12_spanOf_115 : decode cX12_spanOf 115 = .ok (.iload_n 1, 1) := by decide +kernel
theorem dX12_spanOf_116 : decode cX12_spanOf 116 = .ok (.laload, 1) := by decide +kernel
theorem dX12_spanOf_117 : decode cX12_spanOf 117 = .ok (.putfield 154, 3) := by decide +kernel
theorem dX12_spanOf_120 : decode cX12_spanOf 120 = .ok (.goto 540, 3) := by decide +kernel
theorem dX12_spanOf_123 : decode cX12_spanOf 123 = .ok (.aload_n 0, 1) := by decide +kernel
theorem dX12_spanOf_124 : decode cX12_spanOf 124 = .ok (.aload_n 0, 1) := by decide +kernel
theorem dX12_spanOf_125 : decode cX12_spanOf 125 = .ok (.getfield 63, 3) := by decide +kernel
theorem dX12_spanOf_128 : decode cX12_spanOf 128 = .ok (.iload 4, 2) := by decide +kernel
theorem dX12_spanOf_130 : decode cX12_spanOf 130 = .ok (.laload, 1) := by decide +kernel
theorem dX12_spanOf_131 : decode cX12_spanOf 131 = .ok (.aload_n 0, 1) := by decide +kernel
theorem dX12_spanOf_132 : decode cX12_spanOf 132 = .ok (.getfield 63, 3) := by decide +kernel
theorem dX12_spanOf_135 : decode cX12_spanOf 135 = .ok (.iload 5, 2) := by decide +kernel
theorem dX12_spanOf_137 : decode cX12_spanOf 137 = .ok (.laload, 1) := by decide +kernel
theorem dX12_spanOf_138 : decode cX12_spanOf 138 = .ok (.ladd, 1) := by decide +kernel
theorem dX12_spanOf_139 : decode cX12_spanOf 139 = .ok (.putfield 150, 3) := by decide +kernel
theorem dX12_spanOf_142 : decode cX12_spanOf 142 = .ok (.aload_n 0, 1) := by decide +kernel
theorem dX12_spanOf_143 : decode cX12_spanOf 143 = .ok (.aload_n 0, 1) := by decide +kernel
theorem dX12_spanOf_144 : decode cX12_spanOf 144 = .ok (.getfield 66, 3) := by decide +kernel
theorem dX12_spanOf_147 : decode cX12_spanOf 147 = .ok (.iload 4, 2) := by decide +kernel
theorem dX12_spanOf_149 : decode cX12_spanOf 149 = .ok (.laload, 1) := by decide +kernel
theorem dX12_spanOf_150 : decode cX12_spanOf 150 = .ok (.aload_n 0, 1) := by decide +kernel
theorem dX12_spanOf_151 : decode cX12_spanOf 151 = .ok (.getfield 66, 3) := by decide +kernel
theorem dX12_spanOf_154 : decode cX12_spanOf 154 = .ok (.iload 5, 2) := by decide +kernel
theorem dX12_spanOf_156 : decode cX12_spanOf 156 = .ok (.laload, 1) := by decide +kernel
theorem dX12_spanOf_157 : decode cX12_spanOf 157 = .ok (.ladd, 1) := by decide +kernel
theorem dX12_spanOf_158 : decode cX12_spanOf 158 = .ok (.putfield 154, 3) := by decide +kernel
theorem dX12_spanOf_161 : decode cX12_spanOf 161 = .ok (.goto 499, 3) := by decide +kernel
theorem dX12_spanOf_164 : decode cX12_spanOf 164 = .ok (.aload_n 0, 1) := by decide +kernel
theorem dX12_spanOf_165 : decode cX12_spanOf 165 = .ok (.aload_n 0, 1) := by decide +kernel
theorem dX12_spanOf_166 : decode cX12_spanOf 166 = .ok (.getfield 63, 3) := by decide +kernel
theorem dX12_spanOf_169 : decode cX12_spanOf 169 = .ok (.iload 4, 2) := by decide +kernel
theorem dX12_spanOf_171 : decode cX12_spanOf 171 = .ok (.laload, 1) := by decide +kernel
theorem dX12_spanOf_172 : decode cX12_spanOf 172 = .ok (.aload_n 0, 1) := by decide +kernel
theorem dX12_spanOf_173 : decode cX12_spanOf 173 = .ok (.getfield 66, 3) := by decide +kernel
theorem dX12_spanOf_176 : decode cX12_spanOf 176 = .ok (.iload 5, 2) := by decide +kernel
theorem dX12_spanOf_178 : decode cX12_spanOf 178 = .ok (.laload, 1) := by decide +kernel
theorem dX12_spanOf_179 : decode cX12_spanOf 179 = .ok (.lsub, 1) := by decide +kernel
theorem dX12_spanOf_180 : decode cX12_spanOf 180 = .ok (.putfield 150, 3) := by decide +kernel
theorem dX12_spanOf_183 : decode cX12_spanOf 183 = .ok (.aload_n 0, 1) := by decide +kernel
theorem dX12_spanOf_184 : decode cX12_spanOf 184 = .ok (.aload_n 0, 1) := by decide +kernel
theorem dX12_spanOf_185 : decode cX12_spanOf 185 = .ok (.getfield 66, 3) := by decide +kernel
theorem dX12_spanOf_188 : decode cX12_spanOf 188 = .ok (.iload 4, 2) := by decide +kernel
theorem dX12_spanOf_190 : decode cX12_spanOf 190 = .ok (.laload, 1) := by decide +kernel
theorem dX12_spanOf_191 : decode cX12_spanOf 191 = .ok (.aload_n 0, 1) := by decide +kernel
theorem dX12_spanOf_192 : decode cX12_spanOf 192 = .ok (.getfield 63, 3) := by decide +kernel
theorem dX12_spanOf_195 : decode cX12_spanOf 195 = .ok (.iload 5, 2) := by decide +kernel
theorem dX12_spanOf_197 : decode cX12_spanOf 197 = .ok (.laload, 1) := by decide +kernel
theorem dX12_spanOf_198 : decode cX12_spanOf 198 = .ok (.lsub, 1) := by decide +kernel
theorem dX12_spanOf_199 : decode cX12_spanOf 199 = .ok (.putfield 154, 3) := by decide +kernel
theorem dX12_spanOf_202 : decode cX12_spanOf 202 = .ok (.goto 458, 3) := by decide +kernel
theorem dX12_spanOf_205 : decode cX12_spanOf 205 = .ok (.aload_n 0, 1) := by decide +kernel
theorem dX12_spanOf_206 : decode cX12_spanOf 206 = .ok (.getfield 63, 3) := by decide +kernel
theorem dX12_spanOf_209 : decode cX12_spanOf 209 = .ok (.iload 4, 2) := by decide +kernel
theorem dX12_spanOf_211 : decode cX12_spanOf 211 = .ok (.laload, 1) := by decide +kernel
theorem dX12_spanOf_212 : decode cX12_spanOf 212 = .ok (.aload_n 0, 1) := by decide +kernel
theorem dX12_spanOf_213 : decode cX12_spanOf 213 = .ok (.getfield 63, 3) := by decide +kernel
theorem dX12_spanOf_216 : decode cX12_spanOf 216 = .ok (.iload 5, 2) := by decide +kernel
theorem dX12_spanOf_218 : decode cX12_spanOf 218 = .ok (.laload, 1) := by decide +kernel
theorem dX12_spanOf_219 : decode cX12_spanOf 219 = .ok (.lmul, 1) := by decide +kernel
theorem dX12_spanOf_220 : decode cX12_spanOf 220 = .ok (.lstore 7, 2) := by decide +kernel
theorem dX12_spanOf_222 : decode cX12_spanOf 222 = .ok (.aload_n 0, 1) := by decide +kernel
theorem dX12_spanOf_223 : decode cX12_spanOf 223 = .ok (.getfield 63, 3) := by decide +kernel
theorem dX12_spanOf_226 : decode cX12_spanOf 226 = .ok (.iload 4, 2) := by decide +kernel
theorem dX12_spanOf_228 : decode cX12_spanOf 228 = .ok (.laload, 1) := by decide +kernel
theorem dX12_spanOf_229 : decode cX12_spanOf 229 = .ok (.aload_n 0, 1) := by decide +kernel
theorem dX12_spanOf_230 : decode cX12_spanOf 230 = .ok (.getfield 66, 3) := by decide +kernel
theorem dX12_spanOf_233 : decode cX12_spanOf 233 = .ok (.iload 5, 2) := by decide +kernel
theorem dX12_spanOf_235 : decode cX12_spanOf 235 = .ok (.laload, 1) := by decide +kernel
theorem dX12_spanOf_236 : decode cX12_spanOf 236 = .ok (.lmul, 1) := by decide +kernel
theorem dX12_spanOf_237 : decode cX12_spanOf 237 = .ok (.lstore 9, 2) := by decide +kernel
theorem dX12_spanOf_239 : decode cX12_spanOf 239 = .ok (.aload_n 0, 1) := by decide +kernel
theorem dX12_spanOf_240 : decode cX12_spanOf 240 = .ok (.getfield 66, 3) := by decide +kernel
theorem dX12_spanOf_243 : decode cX12_spanOf 243 = .ok (.iload 4, 2) := by decide +kernel
theorem dX12_spanOf_245 : decode cX12_spanOf 245 = .ok (.laload, 1) := by decide +kernel
theorem dX12_spanOf_246 : decode cX12_spanOf 246 = .ok (.aload_n 0, 1) := by decide +kernel
theorem dX12_spanOf_247 : decode cX12_spanOf 247 = .ok (.getfield 63, 3) := by decide +kernel
theorem dX12_spanOf_250 : decode cX12_spanOf 250 = .ok (.iload 5, 2) := by decide +kernel
theorem dX12_spanOf_252 : decode cX12_spanOf 252 = .ok (.laload, 1) := by decide +kernel
theorem dX12_spanOf_253 : decode cX12_spanOf 253 = .ok (.lmul, 1) := by decide +kernel
theorem dX12_spanOf_254 : decode cX12_spanOf 254 = .ok (.lstore 11, 2) := by decide +kernel
theorem dX12_spanOf_256 : decode cX12_spanOf 256 = .ok (.aload_n 0, 1) := by decide +kernel
theorem dX12_spanOf_257 : decode cX12_spanOf 257 = .ok (.getfield 66, 3) := by decide +kernel
theorem dX12_spanOf_260 : decode cX12_spanOf 260 = .ok (.iload 4, 2) := by decide +kernel
theorem dX12_spanOf_262 : decode cX12_spanOf 262 = .ok (.laload, 1) := by decide +kernel
theorem dX12_spanOf_263 : decode cX12_spanOf 263 = .ok (.aload_n 0, 1) := by decide +kernel
theorem dX12_spanOf_264 : decode cX12_spanOf 264 = .ok (.getfield 66, 3) := by decide +kernel
theorem dX12_spanOf_267 : decode cX12_spanOf 267 = .ok (.iload 5, 2) := by decide +kernel
theorem dX12_spanOf_269 : decode cX12_spanOf 269 = .ok (.laload, 1) := by decide +kernel
theorem dX12_spanOf_270 : decode cX12_spanOf 270 = .ok (.lmul, 1) := by decide +kernel
theorem dX12_spanOf_271 : decode cX12_spanOf 271 = .ok (.lstore 13, 2) := by decide +kernel
theorem dX12_spanOf_273 : decode cX12_spanOf 273 = .ok (.aload_n 0, 1) := by decide +kernel
theorem dX12_spanOf_274 : decode cX12_spanOf 274 = .ok (.lload 7, 2) := by decide +kernel
theorem dX12_spanOf_276 : decode cX12_spanOf 276 = .ok (.lload 9, 2) := by decide +kernel
theorem dX12_spanOf_278 : decode cX12_spanOf 278 = .ok (.invokestatic 157, 3) := by decide +kernel
theorem dX12_spanOf_281 : decode cX12_spanOf 281 = .ok (.lload 11, 2) := by decide +kernel
theorem dX12_spanOf_283 : decode cX12_spanOf 283 = .ok (.lload 13, 2) := by decide +kernel
theorem dX12_spanOf_285 : decode cX12_spanOf 285 = .ok (.invokestatic 157, 3) := by decide +kernel
theorem dX12_spanOf_288 : decode cX12_spanOf 288 = .ok (.invokestatic 157, 3) := by decide +kernel
theorem dX12_spanOf_291 : decode cX12_spanOf 291 = .ok (.putfield 150, 3) := by decide +kernel
theorem dX12_spanOf_294 : decode cX12_spanOf 294 = .ok (.aload_n 0, 1) := by decide +kernel
theorem dX12_spanOf_295 : decode cX12_spanOf 295 = .ok (.lload 7, 2) := by decide +kernel
theorem dX12_spanOf_297 : decode cX12_spanOf 297 = .ok (.lload 9, 2) := by decide +kernel
theorem dX12_spanOf_299 : decode cX12_spanOf 299 = .ok (.invokestatic 161, 3) := by decide +kernel
theorem dX12_spanOf_302 : decode cX12_spanOf 302 = .ok (.lload 11, 2) := by decide +kernel
theorem dX12_spanOf_304 : decode cX12_spanOf 304 = .ok (.lload 13, 2) := by decide +kernel
theorem dX12_spanOf_306 : decode cX12_spanOf 306 = .ok (.invokestatic 161, 3) := by decide +kernel
theorem dX12_spanOf_309 : decode cX12_spanOf 309 = .ok (.invokestatic 161, 3) := by decide +kernel
theorem dX12_spanOf_312 : decode cX12_spanOf 312 = .ok (.putfield 154, 3) := by decide +kernel
theorem dX12_spanOf_315 : decode cX12_spanOf 315 = .ok (.goto 345, 3) := by decide +kernel
theorem dX12_spanOf_318 : decode cX12_spanOf 318 = .ok (.aload_n 0, 1) := by decide +kernel
theorem dX12_spanOf_319 : decode cX12_spanOf 319 = .ok (.aload_n 0, 1) := by decide +kernel
theorem dX12_spanOf_320 : decode cX12_spanOf 320 = .ok (.getfield 63, 3) := by decide +kernel
theorem dX12_spanOf_323 : decode cX12_spanOf 323 = .ok (.iload 4, 2) := by decide +kernel
theorem dX12_spanOf_325 : decode cX12_spanOf 325 = .ok (.laload, 1) := by decide +kernel
theorem dX12_spanOf_326 : decode cX12_spanOf 326 = .ok (.aload_n 0, 1) := by decide +kernel
theorem dX12_spanOf_327 : decode cX12_spanOf 327 = .ok (.getfield 63, 3) := by decide +kernel
theorem dX12_spanOf_330 : decode cX12_spanOf 330 = .ok (.iload 4, 2) := by decide +kernel
theorem dX12_spanOf_332 : decode cX12_spanOf 332 = .ok (.laload, 1) := by decide +kernel
theorem dX12_spanOf_333 : decode cX12_spanOf 333 = .ok (.lneg, 1) := by decide +kernel
theorem dX12_spanOf_334 : decode cX12_spanOf 334 = .ok (.invokestatic 161, 3) := by decide +kernel
theorem dX12_spanOf_337 : decode cX12_spanOf 337 = .ok (.aload_n 0, 1) := by decide +kernel
theorem dX12_spanOf_338 : decode cX12_spanOf 338 = .ok (.getfield 66, 3) := by decide +kernel
theorem dX12_spanOf_341 : decode cX12_spanOf 341 = .ok (.iload 4, 2) := by decide +kernel
theorem dX12_spanOf_343 : decode cX12_spanOf 343 = .ok (.laload, 1) := by decide +kernel
theorem dX12_spanOf_344 : decode cX12_spanOf 344 = .ok (.aload_n 0, 1) := by decide +kernel
theorem dX12_spanOf_345 : decode cX12_spanOf 345 = .ok (.getfield 66, 3) := by decide +kernel
theorem dX12_spanOf_348 : decode cX12_spanOf 348 = .ok (.iload 4, 2) := by decide +kernel
theorem dX12_spanOf_350 : decode cX12_spanOf 350 = .ok (.laload, 1) := by decide +kernel
theorem dX12_spanOf_351 : decode cX12_spanOf 351 = .ok (.lneg, 1) := by decide +kernel
theorem dX12_spanOf_352 : decode cX12_spanOf 352 = .ok (.invokestatic 161, 3) := by decide +kernel
theorem dX12_spanOf_355 : decode cX12_spanOf 355 = .ok (.invokestatic 161, 3) := by decide +kernel
theorem dX12_spanOf_358 : decode cX12_spanOf 358 = .ok (.putfield 154, 3) := by decide +kernel
theorem dX12_spanOf_361 : decode cX12_spanOf 361 = .ok (.aload_n 0, 1) := by decide +kernel
theorem dX12_spanOf_362 : decode cX12_spanOf 362 = .ok (.aload_n 0, 1) := by decide +kernel
theorem dX12_spanOf_363 : decode cX12_spanOf 363 = .ok (.getfield 154, 3) := by decide +kernel
theorem dX12_spanOf_366 : decode cX12_spanOf 366 = .ok (.lneg, 1) := by decide +kernel
theorem dX12_spanOf_367 : decode cX12_spanOf 367 = .ok (.putfield 150, 3) := by decide +kernel
theorem dX12_spanOf_370 : decode cX12_spanOf 370 = .ok (.goto 290, 3) := by decide +kernel
theorem dX12_spanOf_373 : decode cX12_spanOf 373 = .ok (.aload_n 0, 1) := by decide +kernel
theorem dX12_spanOf_374 : decode cX12_spanOf 374 = .ok (.aload_n 0, 1) := by decide +kernel
theorem dX12_spanOf_375 : decode cX12_spanOf 375 = .ok (.getfield 66, 3) := by decide +kernel
theorem dX12_spanOf_378 : decode cX12_spanOf 378 = .ok (.iload 4, 2) := by decide +kernel
theorem dX12_spanOf_380 : decode cX12_spanOf 380 = .ok (.laload, 1) := by decide +kernel
theorem dX12_spanOf_381 : decode cX12_spanOf 381 = .ok (.aload_n 0, 1) := by decide +kernel
theorem dX12_spanOf_382 : decode cX12_spanOf 382 = .ok (.getfield 63, 3) := by decide +kernel
theorem dX12_spanOf_385 : decode cX12_spanOf 385 = .ok (.iload 5, 2) := by decide +kernel
theorem dX12_spanOf_387 : decode cX12_spanOf 387 = .ok (.laload, 1) := by decide +kernel
theorem dX12_spanOf_388 : decode cX12_spanOf 388 = .ok (.lcmp, 1) := by decide +kernel
theorem dX12_spanOf_389 : decode cX12_spanOf 389 = .ok (.ifCond .ge 7, 3) := by decide +kernel
theorem dX12_spanOf_392 : decode cX12_spanOf 392 = .ok (.lconst 1, 1) := by decide +kernel
theorem dX12_spanOf_393 : decode cX12_spanOf 393 = .ok (.goto 4, 3) := by decide +kernel
theorem dX12_spanOf_396 : decode cX12_spanOf 396 = .ok (.lconst 0, 1) := by decide +kernel
theorem dX12_spanOf_397 : decode cX12_spanOf 397 = .ok (.putfield 150, 3) := by decide +kernel
theorem dX12_spanOf_400 : decode cX12_spanOf 400 = .ok (.aload_n 0, 1) := by decide +kernel
theorem dX12_spanOf_401 : decode cX12_spanOf 401 = .ok (.aload_n 0, 1) := by decide +kernel
theorem dX12_spanOf_402 : decode cX12_spanOf 402 = .ok (.getfield 63, 3) := by decide +kernel
theorem dX12_spanOf_405 : decode cX12_spanOf 405 = .ok (.iload 4, 2) := by decide +kernel
theorem dX12_spanOf_407 : decode cX12_spanOf 407 = .ok (.laload, 1) := by decide +kernel
theorem dX12_spanOf_408 : decode cX12_spanOf 408 = .ok (.aload_n 0, 1) := by decide +kernel
theorem dX12_spanOf_409 : decode cX12_spanOf 409 = .ok (.getfield 66, 3) := by decide +kernel
theorem dX12_spanOf_412 : decode cX12_spanOf 412 = .ok (.iload 5, 2) := by decide +kernel
theorem dX12_spanOf_414 : decode cX12_spanOf 414 = .ok (.laload, 1) := by decide +kernel
theorem dX12_spanOf_415 : decode cX12_spanOf 415 = .ok (.lcmp, 1) := by decide +kernel
theorem dX12_spanOf_416 : decode cX12_spanOf 416 = .ok (.ifCond .lt 7, 3) := by decide +kernel
theorem dX12_spanOf_419 : decode cX12_spanOf 419 = .ok (.lconst 0, 1) := by decide +kernel
theorem dX12_spanOf_420 : decode cX12_spanOf 420 = .ok (.goto 4, 3) := by decide +kernel
theorem dX12_spanOf_423 : decode cX12_spanOf 423 = .ok (.lconst 1, 1) := by decide +kernel
theorem dX12_spanOf_424 : decode cX12_spanOf 424 = .ok (.putfield 154, 3) := by decide +kernel
theorem dX12_spanOf_427 : decode cX12_spanOf 427 = .ok (.goto 233, 3) := by decide +kernel
theorem dX12_spanOf_430 : decode cX12_spanOf 430 = .ok (.aload_n 0, 1) := by decide +kernel
theorem dX12_spanOf_431 : decode cX12_spanOf 431 = .ok (.getfield 63, 3) := by decide +kernel
theorem dX12_spanOf_434 : decode cX12_spanOf 434 = .ok (.iload 4, 2) := by decide +kernel
theorem dX12_spanOf_436 : decode cX12_spanOf 436 = .ok (.laload, 1) := by decide +kernel
theorem dX12_spanOf_437 : decode cX12_spanOf 437 = .ok (.lconst 0, 1) := by decide +kernel
theorem dX12_spanOf_438 : decode cX12_spanOf 438 = .ok (.lcmp, 1) := by decide +kernel
theorem dX12_spanOf_439 : decode cX12_spanOf 439 = .ok (.ifCond .ne 19, 3) := by decide +kernel
theorem dX12_spanOf_442 : decode cX12_spanOf 442 = .ok (.aload_n 0, 1) := by decide +kernel
theorem dX12_spanOf_443 : decode cX12_spanOf 443 = .ok (.getfield 66, 3) := by decide +kernel
theorem dX12_spanOf_446 : decode cX12_spanOf 446 = .ok (.iload 4, 2) := by decide +kernel
