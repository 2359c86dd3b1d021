theorem dX0_init_0 : decode cX0_init 0 = .ok (.aload_n 0, 1) := by decide +kernel
theorem dX0_init_1 : decode cX0_init 1 = .ok (.invokespecial 3, 3) := by decide +kernel
theorem dX0_init_4 : decode cX0_init 4 = .ok (.aload_n 0, 1) := by decide +kernel
theorem dX0_init_5 : decode cX0_init 5 = .ok (.iconst 0, 1) := by decide +kernel
theorem dX0_init_6 : decode cX0_init 6 = .ok (.putfield 9, 3) := by decide +kernel
theorem dX0_init_9 : decode cX0_init 9 = .ok (.aload_n 0, 1) := by decide +kernel
theorem dX0_init_10 : decode cX0_init 10 = .ok (.iconst 0, 1) := by decide +kernel
theorem dX0_init_11 : decode cX0_init 11 = .ok (.putfield 15, 3) := by decide +kernel
theorem dX0_init_14 : decode cX0_init 14 = .ok (.aload_n 0, 1) := by decide +kernel
theorem dX0_init_15 : decode cX0_init 15 = .ok (.iconst 0, 1) := by decide +kernel
theorem dX0_init_16 : decode cX0_init 16 = .ok (.putfield 18, 3) := by decide +kernel
theorem dX0_init_19 : decode cX0_init 19 = .ok (.aload_n 0, 1) := by decide +kernel
theorem dX0_init_20 : decode cX0_init 20 = .ok (.iconst 0, 1) := by decide +kernel
theorem dX0_init_21 : decode cX0_init 21 = .ok (.putfield 21, 3) := by decide +kernel
theorem dX0_init_24 : decode cX0_init 24 = .ok (.aload_n 0, 1) := by decide +kernel
theorem dX0_init_25 : decode cX0_init 25 = .ok (.aload_n 1, 1) := by decide +kernel
theorem dX0_init_26 : decode cX0_init 26 = .ok (.putfield 24, 3) := by decide +kernel
theorem dX0_init_29 : decode cX0_init 29 = .ok (.return_, 1) := by decide +kernel
theorem dX0_look_0 : decode cX0_look 0 = .ok (.aload_n 0, 1) := by decide +kernel
theorem dX0_look_1 : decode cX0_look 1 = .ok (.aload_n 0, 1) := by decide +kernel
theorem dX0_look_2 : decode cX0_look 2 = .ok (.getfield 24, 3) := by decide +kernel
theorem dX0_look_5 : decode cX0_look 5 = .ok (.invokevirtual 28, 3) := by decide +kernel
theorem dX0_look_8 : decode cX0_look 8 = .ok (.putfield 9, 3) := by decide +kernel
theorem dX0_look_11 : decode cX0_look 11 = .ok (.aload_n 0, 1) := by decide +kernel
theorem dX0_look_12 : decode cX0_look 12 = .ok (.aload_n 0, 1) := by decide +kernel
theorem dX0_look_13 : decode cX0_look 13 = .ok (.getfield 24, 3) := by decide +kernel
theorem dX0_look_16 : decode cX0_look 16 = .ok (.getfield 34, 3) := by decide +kernel
theorem dX0_look_19 : decode cX0_look 19 = .ok (.iconst (-1), 1) := by decide +kernel
theorem dX0_look_20 : decode cX0_look 20 = .ok (.if_icmp .ne 10, 3) := by decide +kernel
theorem dX0_look_23 : decode cX0_look 23 = .ok (.aload_n 0, 1) := by decide +kernel
theorem dX0_look_24 : decode cX0_look 24 = .ok (.getfield 9, 3) := by decide +kernel
theorem dX0_look_27 : decode cX0_look 27 = .ok (.goto 17, 3) := by decide +kernel
theorem dX0_look_30 : decode cX0_look 30 = .ok (.aload_n 0, 1) := by decide +kernel
theorem dX0_look_31 : decode cX0_look 31 = .ok (.getfield 24, 3) := by decide +kernel
theorem dX0_look_34 : decode cX0_look 34 = .ok (.aload_n 0, 1) := by decide +kernel
theorem dX0_look_35 : decode cX0_look 35 = .ok (.getfield 24, 3) := by decide +kernel
theorem dX0_look_38 : decode cX0_look 38 = .ok (.getfield 34, 3) := by decide +kernel
theorem dX0_look_41 : decode cX0_look 41 = .ok (.invokevirtual 37, 3) := by decide +kernel
theorem dX0_look_44 : decode cX0_look 44 = .ok (.putfield 21, 3) := by decide +kernel
theorem dX0_look_47 : decode cX0_look 47 = .ok (.aload_n 0, 1) := by decide +kernel
theorem dX0_look_48 : decode cX0_look 48 = .ok (.aload_n 0, 1) := by decide +kernel
theorem dX0_look_49 : decode cX0_look 49 = .ok (.aload_n 0, 1) := by decide +kernel
theorem dX0_look_50 : decode cX0_look 50 = .ok (.getfield 9, 3) := by decide +kernel
theorem dX0_look_53 : decode cX0_look 53 = .ok (.invokevirtual 41, 3) := by decide +kernel
theorem dX0_look_56 : decode cX0_look 56 = .ok (.putfield 15, 3) := by decide +kernel
theorem dX0_look_59 : decode cX0_look 59 = .ok (.return_, 1) := by decide +kernel
theorem dX0_onSomeWay_0 : decode cX0_onSomeWay 0 = .ok (.iload_n 1, 1) := by decide +kernel
theorem dX0_onSomeWay_1 : decode cX0_onSomeWay 1 = .ok (.lookupswitch 65 #[(70, 49), (71, 59), (88, 35)], 35) := by decide +kernel
theorem dX0_onSomeWay_36 : decode cX0_onSomeWay 36 = .ok (.aload_n 0, 1) := by decide +kernel
theorem dX0_onSomeWay_37 : decode cX0_onSomeWay 37 = .ok (.getfield 24, 3) := by decide +kernel
theorem dX0_onSomeWay_40 : decode cX0_onSomeWay 40 = .ok (.iload_n 2, 1) := by decide +kernel
theorem dX0_onSomeWay_41 : decode cX0_onSomeWay 41 = .ok (.aload_n 0, 1) := by decide +kernel
theorem dX0_onSomeWay_42 : decode cX0_onSomeWay 42 = .ok (.getfield 15, 3) := by decide +kernel
theorem dX0_onSomeWay_45 : decode cX0_onSomeWay 45 = .ok (.iand, 1) := by decide +kernel
theorem dX0_onSomeWay_46 : decode cX0_onSomeWay 46 = .ok (.invokevirtual 44, 3) := by decide +kernel
theorem dX0_onSomeWay_49 : decode cX0_onSomeWay 49 = .ok (.ireturn, 1) := by decide +kernel
theorem dX0_onSomeWay_50 : decode cX0_onSomeWay 50 = .ok (.aload_n 0, 1) := by decide +kernel
theorem dX0_onSomeWay_51 : decode cX0_onSomeWay 51 = .ok (.aload_n 0, 1) := by decide +kernel
theorem dX0_onSomeWay_52 : decode cX0_onSomeWay 52 = .ok (.getfield 9, 3) := by decide +kernel
theorem dX0_onSomeWay_55 : decode cX0_onSomeWay 55 = .ok (.iload_n 2, 1) := by decide +kernel
theorem dX0_onSomeWay_56 : decode cX0_onSomeWay 56 = .ok (.invokevirtual 47, 3) := by decide +kernel
theorem dX0_onSomeWay_59 : decode cX0_onSomeWay 59 = .ok (.ireturn, 1) := by decide +kernel
theorem dX0_onSomeWay_60 : decode cX0_onSomeWay 60 = .ok (.aload_n 0, 1) := by decide +kernel
theorem dX0_onSomeWay_61 : decode cX0_onSomeWay 61 = .ok (.iload_n 2, 1) := by decide +kernel
theorem dX0_onSomeWay_62 : decode cX0_onSomeWay 62 = .ok (.invokevirtual 41, 3) := by decide +kernel
theorem dX0_onSomeWay_65 : decode cX0_onSomeWay 65 = .ok (.ireturn, 1) := by decide +kernel
theorem dX0_onSomeWay_66 : decode cX0_onSomeWay 66 = .ok (.aload_n 0, 1) := by decide +kernel
theorem dX0_onSomeWay_67 : decode cX0_onSomeWay 67 = .ok (.iload_n 2, 1) := by decide +kernel
theorem dX0_onSomeWay_68 : decode cX0_onSomeWay 68 = .ok (.iload_n 3, 1) := by decide +kernel
theorem dX0_onSomeWay_69 : decode cX0_onSomeWay 69 = .ok (.invokevirtual 47, 3) := by decide +kernel
theorem dX0_onSomeWay_72 : decode cX0_onSomeWay 72 = .ok (.ireturn, 1) := by decide +kernel
theorem dX0_onSomeWayNot_0 : decode cX0_onSomeWayNot 0 = .ok (.aload_n 0, 1) := by decide +kernel
theorem dX0_onSomeWayNot_1 : decode cX0_onSomeWayNot 1 = .ok (.getfield 9, 3) := by decide +kernel
theorem dX0_onSomeWayNot_4 : decode cX0_onSomeWayNot 4 = .ok (.iload_n 2, 1) := by decide +kernel
theorem dX0_onSomeWayNot_5 : decode cX0_onSomeWayNot 5 = .ok (.iconst (-1), 1) := by decide +kernel
theorem dX0_onSomeWayNot_6 : decode cX0_onSomeWayNot 6 = .ok (.ixor, 1) := by decide +kernel
theorem dX0_onSomeWayNot_7 : decode cX0_onSomeWayNot 7 = .ok (.iand, 1) := by decide +kernel
theorem dX0_onSomeWayNot_8 : decode cX0_onSomeWayNot 8 = .ok (.istore 4, 2) := by decide +kernel
theorem dX0_onSomeWayNot_10 : decode cX0_onSomeWayNot 10 = .ok (.aload_n 0, 1) := by decide +kernel
theorem dX0_onSomeWayNot_11 : decode cX0_onSomeWayNot 11 = .ok (.getfield 9, 3) := by decide +kernel
theorem dX0_onSomeWayNot_14 : decode cX0_onSomeWayNot 14 = .ok (.iload_n 3, 1) := by decide +kernel
theorem dX0_onSomeWayNot_15 : decode cX0_onSomeWayNot 15 = .ok (.iconst (-1), 1) := by decide +kernel
theorem dX0_onSomeWayNot_16 : decode cX0_onSomeWayNot 16 = .ok (.ixor, 1) := by decide +kernel
theorem dX0_onSomeWayNot_17 : decode cX0_onSomeWayNot 17 = .ok (.iand, 1) := by decide +kernel
theorem dX0_onSomeWayNot_18 : decode cX0_onSomeWayNot 18 = .ok (.istore 5, 2) := by decide +kernel
theorem dX0_onSomeWayNot_20 : decode cX0_onSomeWayNot 20 = .ok (.iload_n 1, 1) := by decide +kernel
theorem dX0_onSomeWayNot_21 : decode cX0_onSomeWayNot 21 = .ok (.lookupswitch 68 #[(70, 50), (71, 57), (88, 35)], 35) := by decide +kernel
theorem dX0_onSomeWayNot_56 : decode cX0_onSomeWayNot 56 = .ok (.aload_n 0, 1) := by decide +kernel
theorem dX0_onSomeWayNot_57 : decode cX0_onSomeWayNot 57 = .ok (.getfield 24, 3) := by decide +kernel
theorem dX0_onSomeWayNot_60 : decode cX0_onSomeWayNot 60 = .ok (.iload 4, 2) := by decide +kernel
theorem dX0_onSomeWayNot_62 : decode cX0_onSomeWayNot 62 = .ok (.aload_n 0, 1) := by decide +kernel
theorem dX0_onSomeWayNot_63 : decode cX0_onSomeWayNot 63 = .ok (.getfield 15, 3) := by decide +kernel
theorem dX0_onSomeWayNot_66 : decode cX0_onSomeWayNot 66 = .ok (.iand, 1) := by decide +kernel
theorem dX0_onSomeWayNot_67 : decode cX0_onSomeWayNot 67 = .ok (.invokevirtual 44, 3) := by decide +kernel
theorem dX0_onSomeWayNot_70 : decode cX0_onSomeWayNot 70 = .ok (.ireturn, 1) := by decide +kernel
theorem dX0_onSomeWayNot_71 : decode cX0_onSomeWayNot 71 = .ok (.aload_n 0, 1) := by decide +kernel
theorem dX0_onSomeWayNot_72 : decode cX0_onSomeWayNot 72 = .ok (.iload 4, 2) := by decide +kernel
theorem dX0_onSomeWayNot_74 : decode cX0_onSomeWayNot 74 = .ok (.invokevirtual 41, 3) := by decide +kernel
theorem dX0_onSomeWayNot_77 : decode cX0_onSomeWayNot 77 = .ok (.ireturn, 1) := by decide +kernel
theorem dX0_onSomeWayNot_78 : decode cX0_onSomeWayNot 78 = .ok (.aload_n 0, 1) := by decide +kernel
theorem dX0_onSomeWayNot_79 : decode cX0_onSomeWayNot 79 = .ok (.aload_n 0, 1) := by decide +kernel
theorem dX0_onSomeWayNot_80 : decode cX0_onSomeWayNot 80 = .ok (.getfield 9, 3) := by decide +kernel
theorem dX0_onSomeWayNot_83 : decode cX0_onSomeWayNot 83 = .ok (.iload 4, 2) := by decide +kernel
theorem dX0_onSomeWayNot_85 : decode cX0_onSomeWayNot 85 = .ok (.invokevirtual 47, 3) := by decide +kernel
theorem dX0_onSomeWayNot_88 : decode cX0_onSomeWayNot 88 = .ok (.ireturn, 1) := by decide +kernel
theorem dX0_onSomeWayNot_89 : decode cX0_onSomeWayNot 89 = .ok (.aload_n 0, 1) := by decide +kernel
theorem dX0_onSomeWayNot_90 : decode cX0_onSomeWayNot 90 = .ok (.iload 5, 2) := by decide +kernel
theorem dX0_onSomeWayNot_92 : decode cX0_onSomeWayNot 92 = .ok (.iload 5, 2) := by decide +kernel
theorem dX0_onSomeWayNot_94 : decode cX0_onSomeWayNot 94 = .ok (.iload 4, 2) := by decide +kernel
theorem dX0_onSomeWayNot_96 : decode cX0_onSomeWayNot 96 = .ok (.iand, 1) := by decide +kernel
theorem dX0_onSomeWayNot_97 : decode cX0_onSomeWayNot 97 = .ok (.invokevirtual 47, 3) := by decide +kernel
theorem dX0_onSomeWayNot_100 : decode cX0_onSomeWayNot 100 = .ok (.aload_n 0, 1) := by decide +kernel
theorem dX0_onSomeWayNot_101 : decode cX0_onSomeWayNot 101 = .ok (.iload 5, 2) := by decide +kernel
theorem dX0_onSomeWayNot_103 : decode cX0_onSomeWayNot 103 = .ok (.invokevirtual 41, 3) := by decide +kernel
theorem dX0_onSomeWayNot_106 : decode cX0_onSomeWayNot 106 = .ok (.ior, 1) := by decide +kernel
theorem dX0_onSomeWayNot_107 : decode cX0_onSomeWayNot 107 = .ok (.ireturn, 1) := by decide +kernel
theorem dX0_until_0 : decode cX0_until 0 = .ok (.iload_n 2, 1) := by decide +kernel
theorem dX0_until_1 : decode cX0_until 1 = .ok (.aload_n 0, 1) := by decide +kernel
theorem dX0_until_2 : decode cX0_until 2 = .ok (.getfield 15, 3) := by decide +kernel
theorem dX0_until_5 : decode cX0_until 5 = .ok (.iand, 1) := by decide +kernel
theorem dX0_until_6 : decode cX0_until 6 = .ok (.istore_n 3, 1) := by decide +kernel
theorem dX0_until_7 : decode cX0_until 7 = .ok (.iconst 0, 1) := by decide +kernel
theorem dX0_until_8 : decode cX0_until 8 = .ok (.istore 4, 2) := by decide +kernel
theorem dX0_until_10 : decode cX0_until 10 = .ok (.iload 4, 2) := by decide +kernel
theorem dX0_until_12 : decode cX0_until 12 = .ok (.bipush 10, 2) := by decide +kernel
theorem dX0_until_14 : decode cX0_until 14 = .ok (.if_icmp .gt 44, 3) := by decide +kernel
theorem dX0_until_17 : decode cX0_until 17 = .ok (.iload_n 3, 1) := by decide +kernel
theorem dX0_until_18 : decode cX0_until 18 = .ok (.iload_n 1, 1) := by decide +kernel
theorem dX0_until_19 : decode cX0_until 19 = .ok (.aload_n 0, 1) := by decide +kernel
theorem dX0_until_20 : decode cX0_until 20 = .ok (.getfield 24, 3) := by decide +kernel
theorem dX0_until_23 : decode cX0_until 23 = .ok (.iload_n 3, 1) := by decide +kernel
theorem dX0_until_24 : decode cX0_until 24 = .ok (.invokevirtual 44, 3) := by decide +kernel
theorem dX0_until_27 : decode cX0_until 27 = .ok (.iand, 1) := by decide +kernel
theorem dX0_until_28 : decode cX0_until 28 = .ok (.ior, 1) := by decide +kernel
theorem dX0_until_29 : decode cX0_until 29 = .ok (.istore 5, 2) := by decide +kernel
theorem dX0_until_31 : decode cX0_until 31 = .ok (.iload 5, 2) := by decide +kernel
theorem dX0_until_33 : decode cX0_until 33 = .ok (.iload_n 3, 1) := by decide +kernel
theorem dX0_until_34 : decode cX0_until 34 = .ok (.if_icmp .ne 5, 3) := by decide +kernel
theorem dX0_until_37 : decode cX0_until 37 = .ok (.iload_n 3, 1) := by decide +kernel
theorem dX0_until_38 : decode cX0_until 38 = .ok (.ireturn, 1) := by decide +kernel
theorem dX0_until_39 : decode cX0_until 39 = .ok (.iload 5, 2) := by decide +kernel
theorem dX0_until_41 : decode cX0_until 41 = .ok (.istore_n 3, 1) := by decide +kernel
theorem dX0_until_42 : decode cX0_until 42 = .ok (.aload_n 0, 1) := by decide +kernel
theorem dX0_until_43 : decode cX0_until 43 = .ok (.dup, 1) := by decide +kernel
theorem dX0_until_44 : decode cX0_until 44 = .ok (.getfield 18, 3) := by decide +kernel
theorem dX0_until_47 : decode cX0_until 47 = .ok (.iconst 1, 1) := by decide +kernel
theorem dX0_until_48 : decode cX0_until 48 = .ok (.iadd, 1) := by decide +kernel
theorem dX0_until_49 : decode cX0_until 49 = .ok (.putfield 18, 3) := by decide +kernel
theorem dX0_until_52 : decode cX0_until 52 = .ok (.iinc 4 1, 3) := by decide +kernel
theorem dX0_until_55 : decode cX0_until 55 = .ok (.goto (-45), 3) := by decide +kernel
theorem dX0_until_58 : decode cX0_until 58 = .ok (.iload_n 3, 1) := by decide +kernel
theorem dX0_until_59 : decode cX0_until 59 = .ok (.ireturn, 1) := by decide +kernel
theorem dX0_always_0 : decode cX0_always 0 = .ok (.iload_n 1, 1) := by decide +kernel
theorem dX0_always_1 : decode cX0_always 1 = .ok (.istore_n 2, 1) := by decide +kernel
theorem dX0_always_2 : decode cX0_always 2 = .ok (.iconst 0, 1) := by decide +kernel
theorem dX0_always_3 : decode cX0_always 3 = .ok (.istore_n 3, 1) := by decide +kernel
theorem dX0_always_4 : decode cX0_always 4 = .ok (.iload_n 3, 1) := by decide +kernel
theorem dX0_always_5 : decode cX0_always 5 = .ok (.bipush 10, 2) := by decide +kernel
theorem dX0_always_7 : decode cX0_always 7 = .ok (.if_icmp .gt 87, 3) := by decide +kernel
theorem dX0_always_10 : decode cX0_always 10 = .ok (.iload_n 2, 1) := by decide +kernel
theorem dX0_always_11 : decode cX0_always 11 = .ok (.aload_n 0, 1) := by decide +kernel
theorem dX0_always_12 : decode cX0_always 12 = .ok (.getfield 21, 3) := by decide +kernel
theorem dX0_always_15 : decode cX0_always 15 = .ok (.iand, 1) := by decide +kernel
theorem dX0_always_16 : decode cX0_always 16 = .ok (.istore 4, 2) := by decide +kernel
theorem dX0_always_18 : decode cX0_always 18 = .ok (.iconst 0, 1) := by decide +kernel
theorem dX0_always_19 : decode cX0_always 19 = .ok (.istore 5, 2) := by decide +kernel
theorem dX0_always_21 : decode cX0_always 21 = .ok (.iconst (-1), 1) := by decide +kernel
theorem dX0_always_22 : decode cX0_always 22 = .ok (.istore 6, 2) := by decide +kernel
theorem dX0_always_24 : decode cX0_always 24 = .ok (.iconst 0, 1) := by decide +kernel
theorem dX0_always_25 : decode cX0_always 25 = .ok (.istore 7, 2) := by decide +kernel
theorem dX0_always_27 : decode cX0_always 27 = .ok (.iload 7, 2) := by decide +kernel
theorem dX0_always_29 : decode cX0_always 29 = .ok (.bipush 10, 2) := by decide +kernel
theorem dX0_always_31 : decode cX0_always 31 = .ok (.if_icmp .gt 36, 3) := by decide +kernel
theorem dX0_always_34 : decode cX0_always 34 = .ok (.iload 5, 2) := by decide +kernel
theorem dX0_always_36 : decode cX0_always 36 = .ok (.iload 6, 2) := by decide +kernel
theorem dX0_always_38 : decode cX0_always 38 = .ok (.if_icmp .eq 29, 3) := by decide +kernel
theorem dX0_always_41 : decode cX0_always 41 = .ok (.iload 5, 2) := by decide +kernel
theorem dX0_always_43 : decode cX0_always 43 = .ok (.istore 6, 2) := by decide +kernel
theorem dX0_always_45 : decode cX0_always 45 = .ok (.iload_n 2, 1) := by decide +kernel
theorem dX0_always_46 : decode cX0_always 46 = .ok (.aload_n 0, 1) := by decide +kernel
theorem dX0_always_47 : decode cX0_always 47 = .ok (.getfield 24, 3) := by decide +kernel
theorem dX0_always_50 : decode cX0_always 50 = .ok (.iload 4, 2) := by decide +kernel
theorem dX0_always_52 : decode cX0_always 52 = .ok (.iload 5, 2) := by decide +kernel
theorem dX0_always_54 : decode cX0_always 54 = .ok (.ior, 1) := by decide +kernel
theorem dX0_always_55 : decode cX0_always 55 = .ok (.invokevirtual 44, 3) := by decide +kernel
theorem dX0_always_58 : decode cX0_always 58 = .ok (.iand, 1) := by decide +kernel
theorem dX0_always_59 : decode cX0_always 59 = .ok (.istore 5, 2) := by decide +kernel
theorem dX0_always_61 : decode cX0_always 61 = .ok (.iinc 7 1, 3) := by decide +kernel
theorem dX0_always_64 : decode cX0_always 64 = .ok (.goto (-37), 3) := by decide +kernel
theorem dX0_always_67 : decode cX0_always 67 = .ok (.iload 5, 2) := by decide +kernel
theorem dX0_always_69 : decode cX0_always 69 = .ok (.iload_n 2, 1) := by decide +kernel
theorem dX0_always_70 : decode cX0_always 70 = .ok (.if_icmp .ne 5, 3) := by decide +kernel
theorem dX0_always_73 : decode cX0_always 73 = .ok (.iload_n 2, 1) := by decide +kernel
theorem dX0_always_74 : decode cX0_always 74 = .ok (.ireturn, 1) := by decide +kernel
theorem dX0_always_75 : decode cX0_always 75 = .ok (.iload 5, 2) := by decide +kernel
theorem dX0_always_77 : decode cX0_always 77 = .ok (.istore_n 2, 1) := by decide +kernel
theorem dX0_always_78 : decode cX0_always 78 = .ok (.aload_n 0, 1) := by decide +kernel
theorem dX0_always_79 : decode cX0_always 79 = .ok (.dup, 1) := by decide +kernel
theorem dX0_always_80 : decode cX0_always 80 = .ok (.getfield 18, 3) := by decide +kernel
theorem dX0_always_83 : decode cX0_always 83 = .ok (.iconst 1, 1) := by decide +kernel
theorem dX0_always_84 : decode cX0_always 84 = .ok (.iadd, 1) := by decide +kernel
theorem dX0_always_85 : decode cX0_always 85 = .ok (.putfield 18, 3) := by decide +kernel
theorem dX0_always_88 : decode cX0_always 88 = .ok (.iinc 3 1, 3) := by decide +kernel
theorem dX0_always_91 : decode cX0_always 91 = .ok (.goto (-87), 3) := by decide +kernel
theorem dX0_always_94 : decode cX0_always 94 = .ok (.iload_n 2, 1) := by decide +kernel
theorem dX0_always_95 : decode cX0_always 95 = .ok (.ireturn, 1) := by decide +kernel
theorem dX1_init_0 : decode cX1_init 0 = .ok (.aload_n 0, 1) := by decide +kernel
theorem dX1_init_1 : decode cX1_init 1 = .ok (.invokespecial 3, 3) := by decide +kernel
theorem dX1_init_4 : decode cX1_init 4 = .ok (.aload_n 0, 1) := by decide +kernel
theorem dX1_init_5 : decode cX1_init 5 = .ok (.iconst 0, 1) := by decide +kernel
theorem dX1_init_6 : decode cX1_init 6 = .ok (.putfield 9, 3) := by decide +kernel
theorem dX1_init_9 : decode cX1_init 9 = .ok (.aload_n 0, 1) := by decide +kernel
theorem dX1_init_10 : decode cX1_init 10 = .ok (.iconst 0, 1) := by decide +kernel
theorem dX1_init_11 : decode cX1_init 11 = .ok (.putfield 15, 3) := by decide +kernel
theorem dX1_init_14 : decode cX1_init 14 = .ok (.aload_n 0, 1) := by decide +kernel
theorem dX1_init_15 : decode cX1_init 15 = .ok (.bipush 6, 2) := by decide +kernel
theorem dX1_init_17 : decode cX1_init 17 = .ok (.anewarray 18, 3) := by decide +kernel
theorem dX1_init_20 : decode cX1_init 20 = .ok (.putfield 20, 3) := by decide +kernel
theorem dX1_init_23 : decode cX1_init 23 = .ok (.iconst 0, 1) := by decide +kernel
theorem dX1_init_24 : decode cX1_init 24 = .ok (.istore_n 1, 1) := by decide +kernel
theorem dX1_init_25 : decode cX1_init 25 = .ok (.iload_n 1, 1) := by decide +kernel
theorem dX1_init_26 : decode cX1_init 26 = .ok (.bipush 6, 2) := by decide +kernel
theorem dX1_init_28 : decode cX1_init 28 = .ok (.if_icmp .ge 22, 3) := by decide +kernel
theorem dX1_init_31 : decode cX1_init 31 = .ok (.aload_n 0, 1) := by decide +kernel
theorem dX1_init_32 : decode cX1_init 32 = .ok (.getfield 20, 3) := by decide +kernel
theorem dX1_init_35 : decode cX1_init 35 = .ok (.iload_n 1, 1) := by decide +kernel
theorem dX1_init_36 : decode cX1_init 36 = .ok (.new 18, 3) := by decide +kernel
theorem dX1_init_39 : decode cX1_init 39 = .ok (.dup, 1) := by decide +kernel
theorem dX1_init_40 : decode cX1_init 40 = .ok (.invokespecial 24, 3) := by decide +kernel
theorem dX1_init_43 : decode cX1_init 43 = .ok (.aastore, 1) := by decide +kernel
theorem dX1_init_44 : decode cX1_init 44 = .ok (.iinc 1 1, 3) := by decide +kernel
theorem dX1_init_47 : decode cX1_init 47 = .ok (.goto (-22), 3) := by decide +kernel
theorem dX1_init_50 : decode cX1_init 50 = .ok (.return_, 1) := by decide +kernel
theorem dX1_save_0 : decode cX1_save 0 = .ok (.aload_n 0, 1) := by decide +kernel
theorem dX1_save_1 : decode cX1_save 1 = .ok (.getfield 9, 3) := by decide +kernel
theorem dX1_save_4 : decode cX1_save 4 = .ok (.bipush 6, 2) := by decide +kernel
theorem dX1_save_6 : decode cX1_save 6 = .ok (.if_icmp .ne 26, 3) := by decide +kernel
theorem dX1_save_9 : decode cX1_save 9 = .ok (.aload_n 0, 1) := by decide +kernel
theorem dX1_save_10 : decode cX1_save 10 = .ok (.aload_n 0, 1) := by decide +kernel
theorem dX1_save_11 : decode cX1_save 11 = .ok (.getfield 15, 3) := by decide +kernel
theorem dX1_save_14 : decode cX1_save 14 = .ok (.iconst 1, 1) := by decide +kernel
theorem dX1_save_15 : decode cX1_save 15 = .ok (.iadd, 1) := by decide +kernel
theorem dX1_save_16 : decode cX1_save 16 = .ok (.bipush 6, 2) := by decide +kernel
theorem dX1_save_18 : decode cX1_save 18 = .ok (.irem, 1) := by decide +kernel
theorem dX1_save_19 : decode cX1_save 19 = .ok (.putfield 15, 3) := by decide +kernel
theorem dX1_save_22 : decode cX1_save 22 = .ok (.aload_n 0, 1) := by decide +kernel
theorem dX1_save_23 : decode cX1_save 23 = .ok (.dup, 1) := by decide +kernel
theorem dX1_save_24 : decode cX1_save 24 = .ok (.getfield 9, 3) := by decide +kernel
theorem dX1_save_27 : decode cX1_save 27 = .ok (.iconst 1, 1) := by decide +kernel
theorem dX1_save_28 : decode cX1_save 28 = .ok (.isub, 1) := by decide +kernel
theorem dX1_save_29 : decode cX1_save 29 = .ok (.putfield 9, 3) := by decide +kernel
theorem dX1_save_32 : decode cX1_save 32 = .ok (.aload_n 0, 1) := by decide +kernel
theorem dX1_save_33 : decode cX1_save 33 = .ok (.getfield 20, 3) := by decide +kernel
theorem dX1_save_36 : decode cX1_save 36 = .ok (.aload_n 0, 1) := by decide +kernel
theorem dX1_save_37 : decode cX1_save 37 = .ok (.getfield 15, 3) := by decide +kernel
theorem dX1_save_40 : decode cX1_save 40 = .ok (.aload_n 0, 1) := by decide +kernel
theorem dX1_save_41 : decode cX1_save 41 = .ok (.getfield 9, 3) := by decide +kernel
theorem dX1_save_44 : decode cX1_save 44 = .ok (.iadd, 1) := by decide +kernel
theorem dX1_save_45 : decode cX1_save 45 = .ok (.bipush 6, 2) := by decide +kernel
theorem dX1_save_47 : decode cX1_save 47 = .ok (.irem, 1) := by decide +kernel
theorem dX1_save_48 : decode cX1_save 48 = .ok (.aaload, 1) := by decide +kernel
theorem dX1_save_49 : decode cX1_save 49 = .ok (.aload_n 1, 1) := by decide +kernel
theorem dX1_save_50 : decode cX1_save 50 = .ok (.invokevirtual 25, 3) := by decide +kernel
theorem dX1_save_53 : decode cX1_save 53 = .ok (.aload_n 0, 1) := by decide +kernel
theorem dX1_save_54 : decode cX1_save 54 = .ok (.dup, 1) := by decide +kernel
theorem dX1_save_55 : decode cX1_save 55 = .ok (.getfield 9, 3) := by decide +kernel
theorem dX1_save_58 : decode cX1_save 58 = .ok (.iconst 1, 1) := by decide +kernel
theorem dX1_save_59 : decode cX1_save 59 = .ok (.iadd, 1) := by decide +kernel
theorem dX1_save_60 : decode cX1_save 60 = .ok (.putfield 9, 3) := by decide +kernel
theorem dX1_save_63 : decode cX1_save 63 = .ok (.return_, 1) := by decide +kernel
theorem dX1_restore_0 : decode cX1_restore 0 = .ok (.aload_n 0, 1) := by decide +kernel
theorem dX1_restore_1 : decode cX1_restore 1 = .ok (.getfield 9, 3) := by decide +kernel
theorem dX1_restore_4 : decode cX1_restore 4 = .ok (.ifCond .le 34, 3) := by decide +kernel
theorem dX1_restore_7 : decode cX1_restore 7 = .ok (.aload_n 0, 1) := by decide +kernel
theorem dX1_restore_8 : decode cX1_restore 8 = .ok (.dup, 1) := by decide +kernel
theorem dX1_restore_9 : decode cX1_restore 9 = .ok (.getfield 9, 3) := by decide +kernel
theorem dX1_restore_12 : decode cX1_restore 12 = .ok (.iconst 1, 1) := by decide +kernel
theorem dX1_restore_13 : decode cX1_restore 13 = .ok (.isub, 1) := by decide +kernel
theorem dX1_restore_14 : decode cX1_restore 14 = .ok (.putfield 9, 3) := by decide +kernel
theorem dX1_restore_17 : decode cX1_restore 17 = .ok (.aload_n 1, 1) := by decide +kernel
theorem dX1_restore_18 : decode cX1_restore 18 = .ok (.aload_n 0, 1) := by decide +kernel
theorem dX1_restore_19 : decode cX1_restore 19 = .ok (.getfield 20, 3) := by decide +kernel
theorem dX1_restore_22 : decode cX1_restore 22 = .ok (.aload_n 0, 1) := by decide +kernel
theorem dX1_restore_23 : decode cX1_restore 23 = .ok (.getfield 15, 3) := by decide +kernel
theorem dX1_restore_26 : decode cX1_restore 26 = .ok (.aload_n 0, 1) := by decide +kernel
theorem dX1_restore_27 : decode cX1_restore 27 = .ok (.getfield 9, 3) := by decide +kernel
theorem dX1_restore_30 : decode cX1_restore 30 = .ok (.iadd, 1) := by decide +kernel
theorem dX1_restore_31 : decode cX1_restore 31 = .ok (.bipush 6, 2) := by decide +kernel
theorem dX1_restore_33 : decode cX1_restore 33 = .ok (.irem, 1) := by decide +kernel
theorem dX1_restore_34 : decode cX1_restore 34 = .ok (.aaload, 1) := by decide +kernel
theorem dX1_restore_35 : decode cX1_restore 35 = .ok (.invokevirtual 25, 3) := by decide +kernel
theorem dX1_restore_38 : decode cX1_restore 38 = .ok (.return_, 1) := by decide +kernel
theorem dX2_init_0 : decode cX2_init 0 = .ok (.aload_n 0, 1) := by decide +kernel
theorem dX2_init_1 : decode cX2_init 1 = .ok (.invokespecial 3, 3) := by decide +kernel
theorem dX2_init_4 : decode cX2_init 4 = .ok (.aload_n 0, 1) := by decide +kernel
theorem dX2_init_5 : decode cX2_init 5 = .ok (.iconst 0, 1) := by decide +kernel
theorem dX2_init_6 : decode cX2_init 6 = .ok (.putfield 9, 3) := by decide +kernel
theorem dX2_init_9 : decode cX2_init 9 = .ok (.aload_n 0, 1) := by decide +kernel
theorem dX2_init_10 : decode cX2_init 10 = .ok (.bipush 40, 2) := by decide +kernel
theorem dX2_init_12 : decode cX2_init 12 = .ok (.newarray .char, 2) := by decide +kernel
theorem dX2_init_14 : decode cX2_init 14 = .ok (.putfield 15, 3) := by decide +kernel
theorem dX2_init_17 : decode cX2_init 17 = .ok (.aload_n 0, 1) := by decide +kernel
theorem dX2_init_18 : decode cX2_init 18 = .ok (.bipush 40, 2) := by decide +kernel
theorem dX2_init_20 : decode cX2_init 20 = .ok (.newarray .int, 2) := by decide +kernel
theorem dX2_init_22 : decode cX2_init 22 = .ok (.putfield 19, 3) := by decide +kernel
theorem dX2_init_25 : decode cX2_init 25 = .ok (.aload_n 0, 1) := by decide +kernel
theorem dX2_init_26 : decode cX2_init 26 = .ok (.bipush 40, 2) := by decide +kernel
theorem dX2_init_28 : decode cX2_init 28 = .ok (.newarray .int, 2) := by decide +kernel
theorem dX2_init_30 : decode cX2_init 30 = .ok (.putfield 23, 3) := by decide +kernel
theorem dX2_init_33 : decode cX2_init 33 = .ok (.aload_n 0, 1) := by decide +kernel
theorem dX2_init_34 : decode cX2_init 34 = .ok (.bipush 40, 2) := by decide +kernel
theorem dX2_init_36 : decode cX2_init 36 = .ok (.newarray .int, 2) := by decide +kernel
theorem dX2_init_38 : decode cX2_init 38 = .ok (.putfield 26, 3) := by decide +kernel
theorem dX2_init_41 : decode cX2_init 41 = .ok (.aload_n 0, 1) := by decide +kernel
theorem dX2_init_42 : decode cX2_init 42 = .ok (.bipush 40, 2) := by decide +kernel
theorem dX2_init_44 : decode cX2_init 44 = .ok (.newarray .int, 2) := by decide +kernel
theorem dX2_init_46 : decode cX2_init 46 = .ok (.putfield 29, 3) := by decide +kernel
theorem dX2_init_49 : decode cX2_init 49 = .ok (.aload_n 0, 1) := by decide +kernel
theorem dX2_init_50 : decode cX2_init 50 = .ok (.aload_n 1, 1) := by decide +kernel
theorem dX2_init_51 : decode cX2_init 51 = .ok (.putfield 32, 3) := by decide +kernel
theorem dX2_init_54 : decode cX2_init 54 = .ok (.aload_n 0, 1) := by decide +kernel
theorem dX2_init_55 : decode cX2_init 55 = .ok (.new 36, 3) := by decide +kernel
theorem dX2_init_58 : decode cX2_init 58 = .ok (.dup, 1) := by decide +kernel
theorem dX2_init_59 : decode cX2_init 59 = .ok (.aload_n 1, 1) := by decide +kernel
theorem dX2_init_60 : decode cX2_init 60 = .ok (.invokespecial 38, 3) := by decide +kernel
theorem dX2_init_63 : decode cX2_init 63 = .ok (.putfield 41, 3) := by decide +kernel
theorem dX2_init_66 : decode cX2_init 66 = .ok (.return_, 1) := by decide +kernel
theorem dX2_live_0 : decode cX2_live 0 = .ok (.aload_n 0, 1) := by decide +kernel
theorem dX2_live_1 : decode cX2_live 1 = .ok (.getfield 41, 3) := by decide +kernel
theorem dX2_live_4 : decode cX2_live 4 = .ok (.invokevirtual 45, 3) := by decide +kernel
theorem dX2_live_7 : decode cX2_live 7 = .ok (.aload_n 0, 1) := by decide +kernel
theorem dX2_live_8 : decode cX2_live 8 = .ok (.getfield 41, 3) := by decide +kernel
theorem dX2_live_11 : decode cX2_live 11 = .ok (.getfield 48, 3) := by decide +kernel
theorem dX2_live_14 : decode cX2_live 14 = .ok (.ireturn, 1) := by decide +kernel
theorem dX2_find_0 : decode cX2_find 0 = .ok (.aload_n 0, 1) := by decide +kernel
theorem dX2_find_1 : decode cX2_find 1 = .ok (.iload_n 1, 1) := by decide +kernel
theorem dX2_find_2 : decode cX2_find 2 = .ok (.invokevirtual 51, 3) := by decide +kernel
theorem dX2_find_5 : decode cX2_find 5 = .ok (.aload_n 0, 1) := by decide +kernel
theorem dX2_find_6 : decode cX2_find 6 = .ok (.invokevirtual 55, 3) := by decide +kernel
theorem dX2_find_9 : decode cX2_find 9 = .ok (.aload_n 0, 1) := by decide +kernel
theorem dX2_find_10 : decode cX2_find 10 = .ok (.iconst 0, 1) := by decide +kernel
theorem dX2_find_11 : decode cX2_find 11 = .ok (.invokevirtual 58, 3) := by decide +kernel
theorem dX2_find_14 : decode cX2_find 14 = .ok (.ireturn, 1) := by decide +kernel
theorem dX2_readSigns_0 : decode cX2_readSigns 0 = .ok (.aload_n 0, 1) := by decide +kernel
theorem dX2_readSigns_1 : decode cX2_readSigns 1 = .ok (.aload_n 0, 1) := by decide +kernel
theorem dX2_readSigns_2 : decode cX2_readSigns 2 = .ok (.getfield 32, 3) := by decide +kernel
theorem dX2_readSigns_5 : decode cX2_readSigns 5 = .ok (.iload_n 1, 1) := by decide +kernel
theorem dX2_readSigns_6 : decode cX2_readSigns 6 = .ok (.invokevirtual 62, 3) := by decide +kernel
theorem dX2_readSigns_9 : decode cX2_readSigns 9 = .ok (.putfield 9, 3) := by decide +kernel
theorem dX2_readSigns_12 : decode cX2_readSigns 12 = .ok (.aload_n 0, 1) := by decide +kernel
theorem dX2_readSigns_13 : decode cX2_readSigns 13 = .ok (.getfield 9, 3) := by decide +kernel
theorem dX2_readSigns_16 : decode cX2_readSigns 16 = .ok (.iconst 1, 1) := by decide +kernel
theorem dX2_readSigns_17 : decode cX2_readSigns 17 = .ok (.isub, 1) := by decide +kernel
theorem dX2_readSigns_18 : decode cX2_readSigns 18 = .ok (.istore_n 2, 1) := by decide +kernel
theorem dX2_readSigns_19 : decode cX2_readSigns 19 = .ok (.iload_n 2, 1) := by decide +kernel
theorem dX2_readSigns_20 : decode cX2_readSigns 20 = .ok (.ifCond .lt 192, 3) := by decide +kernel
theorem dX2_readSigns_23 : decode cX2_readSigns 23 = .ok (.aload_n 0, 1) := by decide +kernel
theorem dX2_readSigns_24 : decode cX2_readSigns 24 = .ok (.getfield 15, 3) := by decide +kernel
theorem dX2_readSigns_27 : decode cX2_readSigns 27 = .ok (.iload_n 2, 1) := by decide +kernel
theorem dX2_readSigns_28 : decode cX2_readSigns 28 = .ok (.aload_n 0, 1) := by decide +kernel
theorem dX2_readSigns_29 : decode cX2_readSigns 29 = .ok (.getfield 32, 3) := by decide +kernel
theorem dX2_readSigns_32 : decode cX2_readSigns 32 = .ok (.iload_n 1, 1) := by decide +kernel
theorem dX2_readSigns_33 : decode cX2_readSigns 33 = .ok (.iload_n 2, 1) := by decide +kernel
theorem dX2_readSigns_34 : decode cX2_readSigns 34 = .ok (.invokevirtual 67, 3) := by decide +kernel
theorem dX2_readSigns_37 : decode cX2_readSigns 37 = .ok (.castore, 1) := by decide +kernel
theorem dX2_readSigns_38 : decode cX2_readSigns 38 = .ok (.aload_n 0, 1) := by decide +kernel
theorem dX2_readSigns_39 : decode cX2_readSigns 39 = .ok (.getfield 15, 3) := by decide +kernel
theorem dX2_readSigns_42 : decode cX2_readSigns 42 = .ok (.iload_n 2, 1) := by decide +kernel
theorem dX2_readSigns_43 : decode cX2_readSigns 43 = .ok (.caload, 1) := by decide +kernel
theorem dX2_readSigns_44 : decode cX2_readSigns 44 = .ok (.lookupswitch 153 #[(33, 101), (38, 113), (65, 125), (69, 125), (70, 84), (71, 84), (85, 84), (88, 84), (124, 113)], 84) := by decide +kernel
theorem dX2_readSigns_128 : decode cX2_readSigns 128 = .ok (.aload_n 0, 1) := by decide +kernel
theorem dX2_readSigns_129 : decode cX2_readSigns 129 = .ok (.getfield 19, 3) := by decide +kernel
theorem dX2_readSigns_132 : decode cX2_readSigns 132 = .ok (.iload_n 2, 1) := by decide +kernel
theorem dX2_readSigns_133 : decode cX2_readSigns 133 = .ok (.iconst (-1), 1) := by decide +kernel
theorem dX2_readSigns_134 : decode cX2_readSigns 134 = .ok (.iastore, 1) := by decide +kernel
theorem dX2_readSigns_135 : decode cX2_readSigns 135 = .ok (.aload_n 0, 1) := by decide +kernel
theorem dX2_readSigns_136 : decode cX2_readSigns 136 = .ok (.getfield 23, 3) := by decide +kernel
theorem dX2_readSigns_139 : decode cX2_readSigns 139 = .ok (.iload_n 2, 1) := by decide +kernel
theorem dX2_readSigns_140 : decode cX2_readSigns 140 = .ok (.iconst 0, 1) := by decide +kernel
theorem dX2_readSigns_141 : decode cX2_readSigns 141 = .ok (.iastore, 1) := by decide +kernel
theorem dX2_readSigns_142 : decode cX2_readSigns 142 = .ok (.goto 64, 3) := by decide +kernel
theorem dX2_readSigns_145 : decode cX2_readSigns 145 = .ok (.aload_n 0, 1) := by decide +kernel
theorem dX2_readSigns_146 : decode cX2_readSigns 146 = .ok (.iload_n 2, 1) := by decide +kernel
theorem dX2_readSigns_147 : decode cX2_readSigns 147 = .ok (.iload_n 2, 1) := by decide +kernel
theorem dX2_readSigns_148 : decode cX2_readSigns 148 = .ok (.iconst 1, 1) := by decide +kernel
theorem dX2_readSigns_149 : decode cX2_readSigns 149 = .ok (.iadd, 1) := by decide +kernel
theorem dX2_readSigns_150 : decode cX2_readSigns 150 = .ok (.iconst 1, 1) := by decide +kernel
theorem dX2_readSigns_151 : decode cX2_readSigns 151 = .ok (.invokevirtual 71, 3) := by decide +kernel
theorem dX2_readSigns_154 : decode cX2_readSigns 154 = .ok (.goto 52, 3) := by decide +kernel
theorem dX2_readSigns_157 : decode cX2_readSigns 157 = .ok (.aload_n 0, 1) := by decide +kernel
theorem dX2_readSigns_158 : decode cX2_readSigns 158 = .ok (.iload_n 2, 1) := by decide +kernel
theorem dX2_readSigns_159 : decode cX2_readSigns 159 = .ok (.iload_n 2, 1) := by decide +kernel
theorem dX2_readSigns_160 : decode cX2_readSigns 160 = .ok (.iconst 1, 1) := by decide +kernel
theorem dX2_readSigns_161 : decode cX2_readSigns 161 = .ok (.iadd, 1) := by decide +kernel
theorem dX2_readSigns_162 : decode cX2_readSigns 162 = .ok (.iconst 2, 1) := by decide +kernel
theorem dX2_readSigns_163 : decode cX2_readSigns 163 = .ok (.invokevirtual 71, 3) := by decide +kernel
theorem dX2_readSigns_166 : decode cX2_readSigns 166 = .ok (.goto 40, 3) := by decide +kernel
theorem dX2_readSigns_169 : decode cX2_readSigns 169 = .ok (.aload_n 0, 1) := by decide +kernel
theorem dX2_readSigns_170 : decode cX2_readSigns 170 = .ok (.iload_n 2, 1) := by decide +kernel
theorem dX2_readSigns_171 : decode cX2_readSigns 171 = .ok (.iload_n 2, 1) := by decide +kernel
theorem dX2_readSigns_172 : decode cX2_readSigns 172 = .ok (.iconst 2, 1) := by decide +kernel
theorem dX2_readSigns_173 : decode cX2_readSigns 173 = .ok (.iadd, 1) := by decide +kernel
theorem dX2_readSigns_174 : decode cX2_readSigns 174 = .ok (.aload_n 0, 1) := by decide +kernel
theorem dX2_readSigns_175 : decode cX2_readSigns 175 = .ok (.iload_n 2, 1) := by decide +kernel
theorem dX2_readSigns_176 : decode cX2_readSigns 176 = .ok (.iconst 1, 1) := by decide +kernel
theorem dX2_readSigns_177 : decode cX2_readSigns 177 = .ok (.iadd, 1) := by decide +kernel
theorem dX2_readSigns_178 : decode cX2_readSigns 178 = .ok (.invokevirtual 75, 3) := by decide +kernel
theorem dX2_readSigns_181 : decode cX2_readSigns 181 = .ok (.bipush 85, 2) := by decide +kernel
theorem dX2_readSigns_183 : decode cX2_readSigns 183 = .ok (.if_icmp .ne 7, 3) := by decide +kernel
theorem dX2_readSigns_186 : decode cX2_readSigns 186 = .ok (.iconst 2, 1) := by decide +kernel
theorem dX2_readSigns_187 : decode cX2_readSigns 187 = .ok (.goto 4, 3) := by decide +kernel
theorem dX2_readSigns_190 : decode cX2_readSigns 190 = .ok (.iconst 1, 1) := by decide +kernel
theorem dX2_readSigns_191 : decode cX2_readSigns 191 = .ok (.invokevirtual 71, 3) := by decide +kernel
theorem dX2_readSigns_194 : decode cX2_readSigns 194 = .ok (.goto 12, 3) := by decide +kernel
theorem dX2_readSigns_197 : decode cX2_readSigns 197 = .ok (.aload_n 0, 1) := by decide +kernel
theorem dX2_readSigns_198 : decode cX2_readSigns 198 = .ok (.iload_n 2, 1) := by decide +kernel
theorem dX2_readSigns_199 : decode cX2_readSigns 199 = .ok (.iload_n 2, 1) := by decide +kernel
theorem dX2_readSigns_200 : decode cX2_readSigns 200 = .ok (.iconst 1, 1) := by decide +kernel
theorem dX2_readSigns_201 : decode cX2_readSigns 201 = .ok (.iadd, 1) := by decide +kernel
theorem dX2_readSigns_202 : decode cX2_readSigns 202 = .ok (.iconst 0, 1) := by decide +kernel
theorem dX2_readSigns_203 : decode cX2_readSigns 203 = .ok (.invokevirtual 71, 3) := by decide +kernel
theorem dX2_readSigns_206 : decode cX2_readSigns 206 = .ok (.iinc 2 (-1), 3) := by decide +kernel
theorem dX2_readSigns_209 : decode cX2_readSigns 209 = .ok (.goto (-190), 3) := by decide +kernel
theorem dX2_readSigns_212 : decode cX2_readSigns 212 = .ok (.return_, 1) := by decide +kernel
theorem dX2_putShape_0 : decode cX2_putShape 0 = .ok (.iload_n 2, 1) := by decide +kernel
theorem dX2_putShape_1 : decode cX2_putShape 1 = .ok (.istore 4, 2) := by decide +kernel
theorem dX2_putShape_3 : decode cX2_putShape 3 = .ok (.iconst 0, 1) := by decide +kernel
theorem dX2_putShape_4 : decode cX2_putShape 4 = .ok (.istore 5, 2) := by decide +kernel
theorem dX2_putShape_6 : decode cX2_putShape 6 = .ok (.iconst 0, 1) := by decide +kernel
theorem dX2_putShape_7 : decode cX2_putShape 7 = .ok (.istore 6, 2) := by decide +kernel
theorem dX2_putShape_9 : decode cX2_putShape 9 = .ok (.iload 6, 2) := by decide +kernel
theorem dX2_putShape_11 : decode cX2_putShape 11 = .ok (.iload_n 3, 1) := by decide +kernel
theorem dX2_putShape_12 : decode cX2_putShape 12 = .ok (.if_icmp .ge 30, 3) := by decide +kernel
theorem dX2_putShape_15 : decode cX2_putShape 15 = .ok (.iload 5, 2) := by decide +kernel
theorem dX2_putShape_17 : decode cX2_putShape 17 = .ok (.aload_n 0, 1) := by decide +kernel
theorem dX2_putShape_18 : decode cX2_putShape 18 = .ok (.iload 4, 2) := by decide +kernel
theorem dX2_putShape_20 : decode cX2_putShape 20 = .ok (.invokevirtual 78, 3) := by decide +kernel
theorem dX2_putShape_23 : decode cX2_putShape 23 = .ok (.invokestatic 81, 3) := by decide +kernel
theorem dX2_putShape_26 : decode cX2_putShape 26 = .ok (.istore 5, 2) := by decide +kernel
theorem dX2_putShape_28 : decode cX2_putShape 28 = .ok (.aload_n 0, 1) := by decide +kernel
theorem dX2_putShape_29 : decode cX2_putShape 29 = .ok (.iload 4, 2) := by decide +kernel
theorem dX2_putShape_31 : decode cX2_putShape 31 = .ok (.invokevirtual 87, 3) := by decide +kernel
theorem dX2_putShape_34 : decode cX2_putShape 34 = .ok (.istore 4, 2) := by decide +kernel
theorem dX2_putShape_36 : decode cX2_putShape 36 = .ok (.iinc 6 1, 3) := by decide +kernel
theorem dX2_putShape_39 : decode cX2_putShape 39 = .ok (.goto (-30), 3) := by decide +kernel
theorem dX2_putShape_42 : decode cX2_putShape 42 = .ok (.aload_n 0, 1) := by decide +kernel
theorem dX2_putShape_43 : decode cX2_putShape 43 = .ok (.getfield 19, 3) := by decide +kernel
theorem dX2_putShape_46 : decode cX2_putShape 46 = .ok (.iload_n 1, 1) := by decide +kernel
theorem dX2_putShape_47 : decode cX2_putShape 47 = .ok (.iload 4, 2) := by decide +kernel
theorem dX2_putShape_49 : decode cX2_putShape 49 = .ok (.iload_n 1, 1) := by decide +kernel
theorem dX2_putShape_50 : decode cX2_putShape 50 = .ok (.isub, 1) := by decide +kernel
theorem dX2_putShape_51 : decode cX2_putShape 51 = .ok (.iastore, 1) := by decide +kernel
theorem dX2_putShape_52 : decode cX2_putShape 52 = .ok (.aload_n 0, 1) := by decide +kernel
theorem dX2_putShape_53 : decode cX2_putShape 53 = .ok (.getfield 23, 3) := by decide +kernel
theorem dX2_putShape_56 : decode cX2_putShape 56 = .ok (.iload_n 1, 1) := by decide +kernel
theorem dX2_putShape_57 : decode cX2_putShape 57 = .ok (.iconst 1, 1) := by decide +kernel
theorem dX2_putShape_58 : decode cX2_putShape 58 = .ok (.iload 5, 2) := by decide +kernel
theorem dX2_putShape_60 : decode cX2_putShape 60 = .ok (.iadd, 1) := by decide +kernel
theorem dX2_putShape_61 : decode cX2_putShape 61 = .ok (.iastore, 1) := by decide +kernel
theorem dX2_putShape_62 : decode cX2_putShape 62 = .ok (.return_, 1) := by decide +kernel
theorem dX2_findSets_0 : decode cX2_findSets 0 = .ok (.aload_n 0, 1) := by decide +kernel
theorem dX2_findSets_1 : decode cX2_findSets 1 = .ok (.getfield 41, 3) := by decide +kernel
theorem dX2_findSets_4 : decode cX2_findSets 4 = .ok (.invokevirtual 45, 3) := by decide +kernel
theorem dX2_findSets_7 : decode cX2_findSets 7 = .ok (.aload_n 0, 1) := by decide +kernel
theorem dX2_findSets_8 : decode cX2_findSets 8 = .ok (.getfield 9, 3) := by decide +kernel
theorem dX2_findSets_11 : decode cX2_findSets 11 = .ok (.iconst 1, 1) := by decide +kernel
theorem dX2_findSets_12 : decode cX2_findSets 12 = .ok (.isub, 1) := by decide +kernel
theorem dX2_findSets_13 : decode cX2_findSets 13 = .ok (.istore_n 1, 1) := by decide +kernel
theorem dX2_findSets_14 : decode cX2_findSets 14 = .ok (.iload_n 1, 1) := by decide +kernel
theorem dX2_findSets_15 : decode cX2_findSets 15 = .ok (.ifCond .lt 354, 3) := by decide +kernel
theorem dX2_findSets_18 : decode cX2_findSets 18 = .ok (.iload_n 1, 1) := by decide +kernel
theorem dX2_findSets_19 : decode cX2_findSets 19 = .ok (.iconst 1, 1) := by decide +kernel
theorem dX2_findSets_20 : decode cX2_findSets 20 = .ok (.iadd, 1) := by decide +kernel
theorem dX2_findSets_21 : decode cX2_findSets 21 = .ok (.istore_n 2, 1) := by decide +kernel
theorem dX2_findSets_22 : decode cX2_findSets 22 = .ok (.aload_n 0, 1) := by decide +kernel
theorem dX2_findSets_23 : decode cX2_findSets 23 = .ok (.getfield 41, 3) := by decide +kernel
theorem dX2_findSets_26 : decode cX2_findSets 26 = .ok (.iconst 0, 1) := by decide +kernel
theorem dX2_findSets_27 : decode cX2_findSets 27 = .ok (.putfield 90, 3) := by decide +kernel
theorem dX2_findSets_30 : decode cX2_findSets 30 = .ok (.aload_n 0, 1) := by decide +kernel
theorem dX2_findSets_31 : decode cX2_findSets 31 = .ok (.getfield 15, 3) := by decide +kernel
theorem dX2_findSets_34 : decode cX2_findSets 34 = .ok (.iload_n 1, 1) := by decide +kernel
theorem dX2_findSets_35 : decode cX2_findSets 35 = .ok (.caload, 1) := by decide +kernel
theorem dX2_findSets_36 : decode cX2_findSets 36 = .ok (.lookupswitch 278 #[(33, 190), (38, 214), (65, 141), (69, 102), (70, 92), (71, 92), (85, 92), (88, 92), (116, 262), (124, 238)], 92) := by decide +kernel
theorem dX2_findSets_128 : decode cX2_findSets 128 = .ok (.aload_n 0, 1) := by decide +kernel
theorem dX2_findSets_129 : decode cX2_findSets 129 = .ok (.getfield 26, 3) := by decide +kernel
theorem dX2_findSets_132 : decode cX2_findSets 132 = .ok (.iload_n 1, 1) := by decide +kernel
theorem dX2_findSets_133 : decode cX2_findSets 133 = .ok (.iconst (-1), 1) := by decide +kernel
theorem dX2_findSets_134 : decode cX2_findSets 134 = .ok (.iastore, 1) := by decide +kernel
theorem dX2_findSets_135 : decode cX2_findSets 135 = .ok (.goto 201, 3) := by decide +kernel
theorem dX2_findSets_138 : decode cX2_findSets 138 = .ok (.aload_n 0, 1) := by decide +kernel
theorem dX2_findSets_139 : decode cX2_findSets 139 = .ok (.getfield 26, 3) := by decide +kernel
theorem dX2_findSets_142 : decode cX2_findSets 142 = .ok (.iload_n 1, 1) := by decide +kernel
theorem dX2_findSets_143 : decode cX2_findSets 143 = .ok (.aload_n 0, 1) := by decide +kernel
theorem dX2_findSets_144 : decode cX2_findSets 144 = .ok (.getfield 41, 3) := by decide +kernel
theorem dX2_findSets_147 : decode cX2_findSets 147 = .ok (.aload_n 0, 1) := by decide +kernel
theorem dX2_findSets_148 : decode cX2_findSets 148 = .ok (.iload_n 2, 1) := by decide +kernel
theorem dX2_findSets_149 : decode cX2_findSets 149 = .ok (.invokevirtual 75, 3) := by decide +kernel
theorem dX2_findSets_152 : decode cX2_findSets 152 = .ok (.aload_n 0, 1) := by decide +kernel
theorem dX2_findSets_153 : decode cX2_findSets 153 = .ok (.iload_n 2, 1) := by decide +kernel
theorem dX2_findSets_154 : decode cX2_findSets 154 = .ok (.iconst 1, 1) := by decide +kernel
theorem dX2_findSets_155 : decode cX2_findSets 155 = .ok (.iadd, 1) := by decide +kernel
theorem dX2_findSets_156 : decode cX2_findSets 156 = .ok (.invokevirtual 58, 3) := by decide +kernel
theorem dX2_findSets_159 : decode cX2_findSets 159 = .ok (.aload_n 0, 1) := by decide +kernel
theorem dX2_findSets_160 : decode cX2_findSets 160 = .ok (.aload_n 0, 1) := by decide +kernel
theorem dX2_findSets_161 : decode cX2_findSets 161 = .ok (.iload_n 2, 1) := by decide +kernel
theorem dX2_findSets_162 : decode cX2_findSets 162 = .ok (.iconst 1, 1) := by decide +kernel
theorem dX2_findSets_163 : decode cX2_findSets 163 = .ok (.iadd, 1) := by decide +kernel
theorem dX2_findSets_164 : decode cX2_findSets 164 = .ok (.invokevirtual 87, 3) := by decide +kernel
theorem dX2_findSets_167 : decode cX2_findSets 167 = .ok (.invokevirtual 58, 3) := by decide +kernel
theorem dX2_findSets_170 : decode cX2_findSets 170 = .ok (.invokevirtual 92, 3) := by decide +kernel
theorem dX2_findSets_173 : decode cX2_findSets 173 = .ok (.iastore, 1) := by decide +kernel
theorem dX2_findSets_174 : decode cX2_findSets 174 = .ok (.goto 162, 3) := by decide +kernel
theorem dX2_findSets_177 : decode cX2_findSets 177 = .ok (.aload_n 0, 1) := by decide +kernel
theorem dX2_findSets_178 : decode cX2_findSets 178 = .ok (.getfield 26, 3) := by decide +kernel
theorem dX2_findSets_181 : decode cX2_findSets 181 = .ok (.iload_n 1, 1) := by decide +kernel
theorem dX2_findSets_182 : decode cX2_findSets 182 = .ok (.aload_n 0, 1) := by decide +kernel
theorem dX2_findSets_183 : decode cX2_findSets 183 = .ok (.getfield 41, 3) := by decide +kernel
theorem dX2_findSets_186 : decode cX2_findSets 186 = .ok (.getfield 96, 3) := by decide +kernel
theorem dX2_findSets_189 : decode cX2_findSets 189 = .ok (.aload_n 0, 1) := by decide +kernel
theorem dX2_findSets_190 : decode cX2_findSets 190 = .ok (.getfield 41, 3) := by decide +kernel
theorem dX2_findSets_193 : decode cX2_findSets 193 = .ok (.aload_n 0, 1) := by decide +kernel
theorem dX2_findSets_194 : decode cX2_findSets 194 = .ok (.iload_n 2, 1) := by decide +kernel
theorem dX2_findSets_195 : decode cX2_findSets 195 = .ok (.invokevirtual 75, 3) := by decide +kernel
theorem dX2_findSets_198 : decode cX2_findSets 198 = .ok (.aload_n 0, 1) := by decide +kernel
theorem dX2_findSets_199 : decode cX2_findSets 199 = .ok (.iload_n 2, 1) := by decide +kernel
theorem dX2_findSets_200 : decode cX2_findSets 200 = .ok (.iconst 1, 1) := by decide +kernel
theorem dX2_findSets_201 : decode cX2_findSets 201 = .ok (.iadd, 1) := by decide +kernel
theorem dX2_findSets_202 : decode cX2_findSets 202 = .ok (.invokevirtual 58, 3) := by decide +kernel
theorem dX2_findSets_205 : decode cX2_findSets 205 = .ok (.aload_n 0, 1) := by decide +kernel
theorem dX2_findSets_206 : decode cX2_findSets 206 = .ok (.aload_n 0, 1) := by decide +kernel
theorem dX2_findSets_207 : decode cX2_findSets 207 = .ok (.iload_n 2, 1) := by decide +kernel
theorem dX2_findSets_208 : decode cX2_findSets 208 = .ok (.iconst 1, 1) := by decide +kernel
theorem dX2_findSets_209 : decode cX2_findSets 209 = .ok (.iadd, 1) := by decide +kernel
theorem dX2_findSets_210 : decode cX2_findSets 210 = .ok (.invokevirtual 87, 3) := by decide +kernel
theorem dX2_findSets_213 : decode cX2_findSets 213 = .ok (.invokevirtual 58, 3) := by decide +kernel
theorem dX2_findSets_216 : decode cX2_findSets 216 = .ok (.invokevirtual 99, 3) := by decide +kernel
theorem dX2_findSets_219 : decode cX2_findSets 219 = .ok (.iconst (-1), 1) := by decide +kernel
theorem dX2_findSets_220 : decode cX2_findSets 220 = .ok (.ixor, 1) := by decide +kernel
theorem dX2_findSets_221 : decode cX2_findSets 221 = .ok (.iand, 1) := by decide +kernel
theorem dX2_findSets_222 : decode cX2_findSets 222 = .ok (.iastore, 1) := by decide +kernel
theorem dX2_findSets_223 : decode cX2_findSets 223 = .ok (.goto 113, 3) := by decide +kernel
theorem dX2_findSets_226 : decode cX2_findSets 226 = .ok (.aload_n 0, 1) := by decide +kernel
theorem dX2_findSets_227 : decode cX2_findSets 227 = .ok (.getfield 26, 3) := by decide +kernel
theorem dX2_findSets_230 : decode cX2_findSets 230 = .ok (.iload_n 1, 1) := by decide +kernel
theorem dX2_findSets_231 : decode cX2_findSets 231 = .ok (.aload_n 0, 1) := by decide +kernel
theorem dX2_findSets_232 : decode cX2_findSets 232 = .ok (.getfield 41, 3) := by decide +kernel
theorem dX2_findSets_235 : decode cX2_findSets 235 = .ok (.getfield 96, 3) := by decide +kernel
theorem dX2_findSets_238 : decode cX2_findSets 238 = .ok (.aload_n 0, 1) := by decide +kernel
theorem dX2_findSets_239 : decode cX2_findSets 239 = .ok (.iload_n 2, 1) := by decide +kernel
theorem dX2_findSets_240 : decode cX2_findSets 240 = .ok (.invokevirtual 58, 3) := by decide +kernel
theorem dX2_findSets_243 : decode cX2_findSets 243 = .ok (.iconst (-1), 1) := by decide +kernel
theorem dX2_findSets_244 : decode cX2_findSets 244 = .ok (.ixor, 1) := by decide +kernel
theorem dX2_findSets_245 : decode cX2_findSets 245 = .ok (.iand, 1) := by decide +kernel
theorem dX2_findSets_246 : decode cX2_findSets 246 = .ok (.iastore, 1) := by decide +kernel
theorem dX2_findSets_247 : decode cX2_findSets 247 = .ok (.goto 89, 3) := by decide +kernel
theorem dX2_findSets_250 : decode cX2_findSets 250 = .ok (.aload_n 0, 1) := by decide +kernel
theorem dX2_findSets_251 : decode cX2_findSets 251 = .ok (.getfield 26, 3) := by decide +kernel
theorem dX2_findSets_254 : decode cX2_findSets 254 = .ok (.iload_n 1, 1) := by decide +kernel
theorem dX2_findSets_255 : decode cX2_findSets 255 = .ok (.aload_n 0, 1) := by decide +kernel
theorem dX2_findSets_256 : decode cX2_findSets 256 = .ok (.iload_n 2, 1) := by decide +kernel
theorem dX2_findSets_257 : decode cX2_findSets 257 = .ok (.invokevirtual 58, 3) := by decide +kernel
theorem dX2_findSets_260 : decode cX2_findSets 260 = .ok (.aload_n 0, 1) := by decide +kernel
theorem dX2_findSets_261 : decode cX2_findSets 261 = .ok (.aload_n 0, 1) := by decide +kernel
theorem dX2_findSets_262 : decode cX2_findSets 262 = .ok (.iload_n 2, 1) := by decide +kernel
theorem dX2_findSets_263 : decode cX2_findSets 263 = .ok (.invokevirtual 87, 3) := by decide +kernel
theorem dX2_findSets_266 : decode cX2_findSets 266 = .ok (.invokevirtual 58, 3) := by decide +kernel
theorem dX2_findSets_269 : decode cX2_findSets 269 = .ok (.iand, 1) := by decide +kernel
theorem dX2_findSets_270 : decode cX2_findSets 270 = .ok (.iastore, 1) := by decide +kernel
theorem dX2_findSets_271 : decode cX2_findSets 271 = .ok (.goto 65, 3) := by decide +kernel
theorem dX2_findSets_274 : decode cX2_findSets 274 = .ok (.aload_n 0, 1) := by decide +kernel
theorem dX2_findSets_275 : decode cX2_findSets 275 = .ok (.getfield 26, 3) := by decide +kernel
theorem dX2_findSets_278 : decode cX2_findSets 278 = .ok (.iload_n 1, 1) := by decide +kernel
theorem dX2_findSets_279 : decode cX2_findSets 279 = .ok (.aload_n 0, 1) := by decide +kernel
theorem dX2_findSets_280 : decode cX2_findSets 280 = .ok (.iload_n 2, 1) := by decide +kernel
theorem dX2_findSets_281 : decode cX2_findSets 281 = .ok (.invokevirtual 58, 3) := by decide +kernel
theorem dX2_findSets_284 : decode cX2_findSets 284 = .ok (.aload_n 0, 1) := by decide +kernel
theorem dX2_findSets_285 : decode cX2_findSets 285 = .ok (.aload_n 0, 1) := by decide +kernel
theorem dX2_findSets_286 : decode cX2_findSets 286 = .ok (.iload_n 2, 1) := by decide +kernel
theorem dX2_findSets_287 : decode cX2_findSets 287 = .ok (.invokevirtual 87, 3) := by decide +kernel
theorem dX2_findSets_290 : decode cX2_findSets 290 = .ok (.invokevirtual 58, 3) := by decide +kernel
theorem dX2_findSets_293 : decode cX2_findSets 293 = .ok (.ior, 1) := by decide +kernel
theorem dX2_findSets_294 : decode cX2_findSets 294 = .ok (.iastore, 1) := by decide +kernel
theorem dX2_findSets_295 : decode cX2_findSets 295 = .ok (.goto 41, 3) := by decide +kernel
theorem dX2_findSets_298 : decode cX2_findSets 298 = .ok (.aload_n 0, 1) := by decide +kernel
theorem dX2_findSets_299 : decode cX2_findSets 299 = .ok (.getfield 26, 3) := by decide +kernel
theorem dX2_findSets_302 : decode cX2_findSets 302 = .ok (.iload_n 1, 1) := by decide +kernel
theorem dX2_findSets_303 : decode cX2_findSets 303 = .ok (.aload_n 0, 1) := by decide +kernel
theorem dX2_findSets_304 : decode cX2_findSets 304 = .ok (.getfield 41, 3) := by decide +kernel
theorem dX2_findSets_307 : decode cX2_findSets 307 = .ok (.getfield 96, 3) := by decide +kernel
theorem dX2_findSets_310 : decode cX2_findSets 310 = .ok (.iastore, 1) := by decide +kernel
theorem dX2_findSets_311 : decode cX2_findSets 311 = .ok (.goto 25, 3) := by decide +kernel
theorem dX2_findSets_314 : decode cX2_findSets 314 = .ok (.aload_n 0, 1) := by decide +kernel
theorem dX2_findSets_315 : decode cX2_findSets 315 = .ok (.getfield 26, 3) := by decide +kernel
theorem dX2_findSets_318 : decode cX2_findSets 318 = .ok (.iload_n 1, 1) := by decide +kernel
theorem dX2_findSets_319 : decode cX2_findSets 319 = .ok (.aload_n 0, 1) := by decide +kernel
theorem dX2_findSets_320 : decode cX2_findSets 320 = .ok (.getfield 32, 3) := by decide +kernel
theorem dX2_findSets_323 : decode cX2_findSets 323 = .ok (.aload_n 0, 1) := by decide +kernel
theorem dX2_findSets_324 : decode cX2_findSets 324 = .ok (.getfield 15, 3) := by decide +kernel
theorem dX2_findSets_327 : decode cX2_findSets 327 = .ok (.iload_n 1, 1) := by decide +kernel
theorem dX2_findSets_328 : decode cX2_findSets 328 = .ok (.caload, 1) := by decide +kernel
theorem dX2_findSets_329 : decode cX2_findSets 329 = .ok (.bipush 97, 2) := by decide +kernel
theorem dX2_findSets_331 : decode cX2_findSets 331 = .ok (.isub, 1) := by decide +kernel
theorem dX2_findSets_332 : decode cX2_findSets 332 = .ok (.invokevirtual 102, 3) := by decide +kernel
theorem dX2_findSets_335 : decode cX2_findSets 335 = .ok (.iastore, 1) := by decide +kernel
theorem dX2_findSets_336 : decode cX2_findSets 336 = .ok (.aload_n 0, 1) := by decide +kernel
theorem dX2_findSets_337 : decode cX2_findSets 337 = .ok (.getfield 29, 3) := by decide +kernel
theorem dX2_findSets_340 : decode cX2_findSets 340 = .ok (.iload_n 1, 1) := by decide +kernel
theorem dX2_findSets_341 : decode cX2_findSets 341 = .ok (.aload_n 0, 1) := by decide +kernel
theorem dX2_findSets_342 : decode cX2_findSets 342 = .ok (.getfield 26, 3) := by decide +kernel
theorem dX2_findSets_345 : decode cX2_findSets 345 = .ok (.iload_n 1, 1) := by decide +kernel
theorem dX2_findSets_346 : decode cX2_findSets 346 = .ok (.iaload, 1) := by decide +kernel
theorem dX2_findSets_347 : decode cX2_findSets 347 = .ok (.iconst (-1), 1) := by decide +kernel
theorem dX2_findSets_348 : decode cX2_findSets 348 = .ok (.if_icmp .ne 7, 3) := by decide +kernel
theorem dX2_findSets_351 : decode cX2_findSets 351 = .ok (.iconst (-1), 1) := by decide +kernel
theorem dX2_findSets_352 : decode cX2_findSets 352 = .ok (.goto 10, 3) := by decide +kernel
theorem dX2_findSets_355 : decode cX2_findSets 355 = .ok (.aload_n 0, 1) := by decide +kernel
theorem dX2_findSets_356 : decode cX2_findSets 356 = .ok (.getfield 41, 3) := by decide +kernel
theorem dX2_findSets_359 : decode cX2_findSets 359 = .ok (.getfield 90, 3) := by decide +kernel
theorem dX2_findSets_362 : decode cX2_findSets 362 = .ok (.iastore, 1) := by decide +kernel
theorem dX2_findSets_363 : decode cX2_findSets 363 = .ok (.iinc 1 (-1), 3) := by decide +kernel
theorem dX2_findSets_366 : decode cX2_findSets 366 = .ok (.goto (-352), 3) := by decide +kernel
theorem dX2_findSets_369 : decode cX2_findSets 369 = .ok (.return_, 1) := by decide +kernel
theorem dX2_ofWish_0 : decode cX2_ofWish 0 = .ok (.aload_n 0, 1) := by decide +kernel
theorem dX2_ofWish_1 : decode cX2_ofWish 1 = .ok (.getfield 9, 3) := by decide +kernel
theorem dX2_ofWish_4 : decode cX2_ofWish 4 = .ok (.ifCond .ne 5, 3) := by decide +kernel
theorem dX2_ofWish_7 : decode cX2_ofWish 7 = .ok (.iconst (-1), 1) := by decide +kernel
theorem dX2_ofWish_8 : decode cX2_ofWish 8 = .ok (.ireturn, 1) := by decide +kernel
theorem dX2_ofWish_9 : decode cX2_ofWish 9 = .ok (.iload_n 1, 1) := by decide +kernel
theorem dX2_ofWish_10 : decode cX2_ofWish 10 = .ok (.tableswitch 42 0 2 #[26, 31, 37], 26) := by decide +kernel
theorem dX2_ofWish_36 : decode cX2_ofWish 36 = .ok (.aload_n 0, 1) := by decide +kernel
theorem dX2_ofWish_37 : decode cX2_ofWish 37 = .ok (.getfield 9, 3) := by decide +kernel
theorem dX2_ofWish_40 : decode cX2_ofWish 40 = .ok (.ireturn, 1) := by decide +kernel
theorem dX2_ofWish_41 : decode cX2_ofWish 41 = .ok (.aload_n 0, 1) := by decide +kernel
theorem dX2_ofWish_42 : decode cX2_ofWish 42 = .ok (.iconst 0, 1) := by decide +kernel
theorem dX2_ofWish_43 : decode cX2_ofWish 43 = .ok (.invokevirtual 58, 3) := by decide +kernel
theorem dX2_ofWish_46 : decode cX2_ofWish 46 = .ok (.ireturn, 1) := by decide +kernel
theorem dX2_ofWish_47 : decode cX2_ofWish 47 = .ok (.aload_n 0, 1) := by decide +kernel
theorem dX2_ofWish_48 : decode cX2_ofWish 48 = .ok (.invokevirtual 105, 3) := by decide +kernel
theorem dX2_ofWish_51 : decode cX2_ofWish 51 = .ok (.ireturn, 1) := by decide +kernel
theorem dX2_ofWish_52 : decode cX2_ofWish 52 = .ok (.aload_n 0, 1) := by decide +kernel
theorem dX2_ofWish_53 : decode cX2_ofWish 53 = .ok (.iconst 0, 1) := by decide +kernel
theorem dX2_ofWish_54 : decode cX2_ofWish 54 = .ok (.invokevirtual 78, 3) := by decide +kernel
theorem dX2_ofWish_57 : decode cX2_ofWish 57 = .ok (.ireturn, 1) := by decide +kernel
theorem dX2_ofSign_0 : decode cX2_ofSign 0 = .ok (.iload_n 1, 1) := by decide +kernel
theorem dX2_ofSign_1 : decode cX2_ofSign 1 = .ok (.ifCond .lt 11, 3) := by decide +kernel
theorem dX2_ofSign_4 : decode cX2_ofSign 4 = .ok (.iload_n 1, 1) := by decide +kernel
theorem dX2_ofSign_5 : decode cX2_ofSign 5 = .ok (.aload_n 0, 1) := by decide +kernel
theorem dX2_ofSign_6 : decode cX2_ofSign 6 = .ok (.getfield 9, 3) := by decide +kernel
theorem dX2_ofSign_9 : decode cX2_ofSign 9 = .ok (.if_icmp .lt 5, 3) := by decide +kernel
theorem dX2_ofSign_12 : decode cX2_ofSign 12 = .ok (.iconst (-1), 1) := by decide +kernel
theorem dX2_ofSign_13 : decode cX2_ofSign 13 = .ok (.ireturn, 1) := by decide +kernel
theorem dX2_ofSign_14 : decode cX2_ofSign 14 = .ok (.iload_n 2, 1) := by decide +kernel
theorem dX2_ofSign_15 : decode cX2_ofSign 15 = .ok (.tableswitch 46 0 2 #[25, 32, 39], 25) := by decide +kernel
theorem dX2_ofSign_40 : decode cX2_ofSign 40 = .ok (.aload_n 0, 1) := by decide +kernel
theorem dX2_ofSign_41 : decode cX2_ofSign 41 = .ok (.getfield 15, 3) := by decide +kernel
theorem dX2_ofSign_44 : decode cX2_ofSign 44 = .ok (.iload_n 1, 1) := by decide +kernel
theorem dX2_ofSign_45 : decode cX2_ofSign 45 = .ok (.caload, 1) := by decide +kernel
theorem dX2_ofSign_46 : decode cX2_ofSign 46 = .ok (.ireturn, 1) := by decide +kernel
theorem dX2_ofSign_47 : decode cX2_ofSign 47 = .ok (.aload_n 0, 1) := by decide +kernel
theorem dX2_ofSign_48 : decode cX2_ofSign 48 = .ok (.getfield 26, 3) := by decide +kernel
theorem dX2_ofSign_51 : decode cX2_ofSign 51 = .ok (.iload_n 1, 1) := by decide +kernel
theorem dX2_ofSign_52 : decode cX2_ofSign 52 = .ok (.iaload, 1) := by decide +kernel
theorem dX2_ofSign_53 : decode cX2_ofSign 53 = .ok (.ireturn, 1) := by decide +kernel
theorem dX2_ofSign_54 : decode cX2_ofSign 54 = .ok (.aload_n 0, 1) := by decide +kernel
theorem dX2_ofSign_55 : decode cX2_ofSign 55 = .ok (.getfield 29, 3) := by decide +kernel
theorem dX2_ofSign_58 : decode cX2_ofSign 58 = .ok (.iload_n 1, 1) := by decide +kernel
theorem dX2_ofSign_59 : decode cX2_ofSign 59 = .ok (.iaload, 1) := by decide +kernel
theorem dX2_ofSign_60 : decode cX2_ofSign 60 = .ok (.ireturn, 1) := by decide +kernel
theorem dX2_ofSign_61 : decode cX2_ofSign 61 = .ok (.aload_n 0, 1) := by decide +kernel
theorem dX2_ofSign_62 : decode cX2_ofSign 62 = .ok (.getfield 19, 3) := by decide +kernel
theorem dX2_ofSign_65 : decode cX2_ofSign 65 = .ok (.iload_n 1, 1) := by decide +kernel
theorem dX2_ofSign_66 : decode cX2_ofSign 66 = .ok (.iaload, 1) := by decide +kernel
theorem dX2_ofSign_67 : decode cX2_ofSign 67 = .ok (.ireturn, 1) := by decide +kernel
theorem dX2_signAt_0 : decode cX2_signAt 0 = .ok (.iload_n 1, 1) := by decide +kernel
theorem dX2_signAt_1 : decode cX2_signAt 1 = .ok (.ifCond .lt 20, 3) := by decide +kernel
theorem dX2_signAt_4 : decode cX2_signAt 4 = .ok (.iload_n 1, 1) := by decide +kernel
theorem dX2_signAt_5 : decode cX2_signAt 5 = .ok (.aload_n 0, 1) := by decide +kernel
theorem dX2_signAt_6 : decode cX2_signAt 6 = .ok (.getfield 9, 3) := by decide +kernel
theorem dX2_signAt_9 : decode cX2_signAt 9 = .ok (.if_icmp .ge 12, 3) := by decide +kernel
theorem dX2_signAt_12 : decode cX2_signAt 12 = .ok (.aload_n 0, 1) := by decide +kernel
theorem dX2_signAt_13 : decode cX2_signAt 13 = .ok (.getfield 15, 3) := by decide +kernel
theorem dX2_signAt_16 : decode cX2_signAt 16 = .ok (.iload_n 1, 1) := by decide +kernel
theorem dX2_signAt_17 : decode cX2_signAt 17 = .ok (.caload, 1) := by decide +kernel
theorem dX2_signAt_18 : decode cX2_signAt 18 = .ok (.goto 4, 3) := by decide +kernel
theorem dX2_signAt_21 : decode cX2_signAt 21 = .ok (.iconst 0, 1) := by decide +kernel
theorem dX2_signAt_22 : decode cX2_signAt 22 = .ok (.ireturn, 1) := by decide +kernel
theorem dX2_setAt_0 : decode cX2_setAt 0 = .ok (.iload_n 1, 1) := by decide +kernel
theorem dX2_setAt_1 : decode cX2_setAt 1 = .ok (.ifCond .lt 20, 3) := by decide +kernel
theorem dX2_setAt_4 : decode cX2_setAt 4 = .ok (.iload_n 1, 1) := by decide +kernel
theorem dX2_setAt_5 : decode cX2_setAt 5 = .ok (.aload_n 0, 1) := by decide +kernel
theorem dX2_setAt_6 : decode cX2_setAt 6 = .ok (.getfield 9, 3) := by decide +kernel
theorem dX2_setAt_9 : decode cX2_setAt 9 = .ok (.if_icmp .ge 12, 3) := by decide +kernel
theorem dX2_setAt_12 : decode cX2_setAt 12 = .ok (.aload_n 0, 1) := by decide +kernel
theorem dX2_setAt_13 : decode cX2_setAt 13 = .ok (.getfield 26, 3) := by decide +kernel
theorem dX2_setAt_16 : decode cX2_setAt 16 = .ok (.iload_n 1, 1) := by decide +kernel
theorem dX2_setAt_17 : decode cX2_setAt 17 = .ok (.iaload, 1) := by decide +kernel
theorem dX2_setAt_18 : decode cX2_setAt 18 = .ok (.goto 4, 3) := by decide +kernel
theorem dX2_setAt_21 : decode cX2_setAt 21 = .ok (.iconst 0, 1) := by decide +kernel
theorem dX2_setAt_22 : decode cX2_setAt 22 = .ok (.ireturn, 1) := by decide +kernel
theorem dX2_behind_0 : decode cX2_behind 0 = .ok (.iload_n 1, 1) := by decide +kernel
theorem dX2_behind_1 : decode cX2_behind 1 = .ok (.ifCond .lt 22, 3) := by decide +kernel
theorem dX2_behind_4 : decode cX2_behind 4 = .ok (.iload_n 1, 1) := by decide +kernel
theorem dX2_behind_5 : decode cX2_behind 5 = .ok (.aload_n 0, 1) := by decide +kernel
theorem dX2_behind_6 : decode cX2_behind 6 = .ok (.getfield 9, 3) := by decide +kernel
theorem dX2_behind_9 : decode cX2_behind 9 = .ok (.if_icmp .ge 14, 3) := by decide +kernel
theorem dX2_behind_12 : decode cX2_behind 12 = .ok (.iload_n 1, 1) := by decide +kernel
theorem dX2_behind_13 : decode cX2_behind 13 = .ok (.aload_n 0, 1) := by decide +kernel
theorem dX2_behind_14 : decode cX2_behind 14 = .ok (.getfield 19, 3) := by decide +kernel
theorem dX2_behind_17 : decode cX2_behind 17 = .ok (.iload_n 1, 1) := by decide +kernel
theorem dX2_behind_18 : decode cX2_behind 18 = .ok (.iaload, 1) := by decide +kernel
theorem dX2_behind_19 : decode cX2_behind 19 = .ok (.iadd, 1) := by decide +kernel
theorem dX2_behind_20 : decode cX2_behind 20 = .ok (.goto 7, 3) := by decide +kernel
theorem dX2_behind_23 : decode cX2_behind 23 = .ok (.aload_n 0, 1) := by decide +kernel
theorem dX2_behind_24 : decode cX2_behind 24 = .ok (.getfield 9, 3) := by decide +kernel
theorem dX2_behind_27 : decode cX2_behind 27 = .ok (.ireturn, 1) := by decide +kernel
theorem dX2_depthAt_0 : decode cX2_depthAt 0 = .ok (.iload_n 1, 1) := by decide +kernel
theorem dX2_depthAt_1 : decode cX2_depthAt 1 = .ok (.ifCond .lt 20, 3) := by decide +kernel
theorem dX2_depthAt_4 : decode cX2_depthAt 4 = .ok (.iload_n 1, 1) := by decide +kernel
theorem dX2_depthAt_5 : decode cX2_depthAt 5 = .ok (.aload_n 0, 1) := by decide +kernel
theorem dX2_depthAt_6 : decode cX2_depthAt 6 = .ok (.getfield 9, 3) := by decide +kernel
theorem dX2_depthAt_9 : decode cX2_depthAt 9 = .ok (.if_icmp .ge 12, 3) := by decide +kernel
theorem dX2_depthAt_12 : decode cX2_depthAt 12 = .ok (.aload_n 0, 1) := by decide +kernel
theorem dX2_depthAt_13 : decode cX2_depthAt 13 = .ok (.getfield 23, 3) := by decide +kernel
theorem dX2_depthAt_16 : decode cX2_depthAt 16 = .ok (.iload_n 1, 1) := by decide +kernel
theorem dX2_depthAt_17 : decode cX2_depthAt 17 = .ok (.iaload, 1) := by decide +kernel
theorem dX2_depthAt_18 : decode cX2_depthAt 18 = .ok (.goto 4, 3) := by decide +kernel
theorem dX2_depthAt_21 : decode cX2_depthAt 21 = .ok (.iconst 0, 1) := by decide +kernel
theorem dX2_depthAt_22 : decode cX2_depthAt 22 = .ok (.ireturn, 1) := by decide +kernel
theorem dX2_allRounds_0 : decode cX2_allRounds 0 = .ok (.iconst 0, 1) := by decide +kernel
theorem dX2_allRounds_1 : decode cX2_allRounds 1 = .ok (.istore_n 1, 1) := by decide +kernel
theorem dX2_allRounds_2 : decode cX2_allRounds 2 = .ok (.iconst 0, 1) := by decide +kernel
theorem dX2_allRounds_3 : decode cX2_allRounds 3 = .ok (.istore_n 2, 1) := by decide +kernel
theorem dX2_allRounds_4 : decode cX2_allRounds 4 = .ok (.iload_n 2, 1) := by decide +kernel
theorem dX2_allRounds_5 : decode cX2_allRounds 5 = .ok (.aload_n 0, 1) := by decide +kernel
theorem dX2_allRounds_6 : decode cX2_allRounds 6 = .ok (.getfield 9, 3) := by decide +kernel
theorem dX2_allRounds_9 : decode cX2_allRounds 9 = .ok (.if_icmp .ge 22, 3) := by decide +kernel
theorem dX2_allRounds_12 : decode cX2_allRounds 12 = .ok (.iload_n 1, 1) := by decide +kernel
theorem dX2_allRounds_13 : decode cX2_allRounds 13 = .ok (.iconst 0, 1) := by decide +kernel
theorem dX2_allRounds_14 : decode cX2_allRounds 14 = .ok (.aload_n 0, 1) := by decide +kernel
theorem dX2_allRounds_15 : decode cX2_allRounds 15 = .ok (.getfield 29, 3) := by decide +kernel
theorem dX2_allRounds_18 : decode cX2_allRounds 18 = .ok (.iload_n 2, 1) := by decide +kernel
theorem dX2_allRounds_19 : decode cX2_allRounds 19 = .ok (.iaload, 1) := by decide +kernel
theorem dX2_allRounds_20 : decode cX2_allRounds 20 = .ok (.invokestatic 81, 3) := by decide +kernel
theorem dX2_allRounds_23 : decode cX2_allRounds 23 = .ok (.iadd, 1) := by decide +kernel
theorem dX2_allRounds_24 : decode cX2_allRounds 24 = .ok (.istore_n 1, 1) := by decide +kernel
theorem dX2_allRounds_25 : decode cX2_allRounds 25 = .ok (.iinc 2 1, 3) := by decide +kernel
theorem dX2_allRounds_28 : decode cX2_allRounds 28 = .ok (.goto (-24), 3) := by decide +kernel
theorem dX2_allRounds_31 : decode cX2_allRounds 31 = .ok (.iload_n 1, 1) := by decide +kernel
theorem dX2_allRounds_32 : decode cX2_allRounds 32 = .ok (.ireturn, 1) := by decide +kernel
theorem dX3_init_0 : decode cX3_init 0 = .ok (.aload_n 0, 1) := by decide +kernel
theorem dX3_init_1 : decode cX3_init 1 = .ok (.invokespecial 3, 3) := by decide +kernel
theorem dX3_init_4 : decode cX3_init 4 = .ok (.aload_n 0, 1) := by decide +kernel
theorem dX3_init_5 : decode cX3_init 5 = .ok (.iconst 0, 1) := by decide +kernel
theorem dX3_init_6 : decode cX3_init 6 = .ok (.putfield 9, 3) := by decide +kernel
theorem dX3_init_9 : decode cX3_init 9 = .ok (.aload_n 0, 1) := by decide +kernel
theorem dX3_init_10 : decode cX3_init 10 = .ok (.iconst (-1), 1) := by decide +kernel
theorem dX3_init_11 : decode cX3_init 11 = .ok (.putfield 15, 3) := by decide +kernel
theorem dX3_init_14 : decode cX3_init 14 = .ok (.aload_n 0, 1) := by decide +kernel
theorem dX3_init_15 : decode cX3_init 15 = .ok (.bipush 10, 2) := by decide +kernel
theorem dX3_init_17 : decode cX3_init 17 = .ok (.newarray .int, 2) := by decide +kernel
theorem dX3_init_19 : decode cX3_init 19 = .ok (.putfield 18, 3) := by decide +kernel
theorem dX3_init_22 : decode cX3_init 22 = .ok (.aload_n 0, 1) := by decide +kernel
theorem dX3_init_23 : decode cX3_init 23 = .ok (.bipush 10, 2) := by decide +kernel
theorem dX3_init_25 : decode cX3_init 25 = .ok (.newarray .int, 2) := by decide +kernel
theorem dX3_init_27 : decode cX3_init 27 = .ok (.putfield 22, 3) := by decide +kernel
theorem dX3_init_30 : decode cX3_init 30 = .ok (.aload_n 0, 1) := by decide +kernel
theorem dX3_init_31 : decode cX3_init 31 = .ok (.iconst 4, 1) := by decide +kernel
theorem dX3_init_32 : decode cX3_init 32 = .ok (.newarray .int, 2) := by decide +kernel
theorem dX3_init_34 : decode cX3_init 34 = .ok (.putfield 25, 3) := by decide +kernel
theorem dX3_init_37 : decode cX3_init 37 = .ok (.aload_n 0, 1) := by decide +kernel
theorem dX3_init_38 : decode cX3_init 38 = .ok (.sipush 160, 3) := by decide +kernel
theorem dX3_init_41 : decode cX3_init 41 = .ok (.newarray .char, 2) := by decide +kernel
theorem dX3_init_43 : decode cX3_init 43 = .ok (.putfield 28, 3) := by decide +kernel
theorem dX3_init_46 : decode cX3_init 46 = .ok (.return_, 1) := by decide +kernel
theorem dX3_copyFrom_0 : decode cX3_copyFrom 0 = .ok (.aload_n 0, 1) := by decide +kernel
theorem dX3_copyFrom_1 : decode cX3_copyFrom 1 = .ok (.aload_n 1, 1) := by decide +kernel
theorem dX3_copyFrom_2 : decode cX3_copyFrom 2 = .ok (.getfield 9, 3) := by decide +kernel
theorem dX3_copyFrom_5 : decode cX3_copyFrom 5 = .ok (.putfield 9, 3) := by decide +kernel
theorem dX3_copyFrom_8 : decode cX3_copyFrom 8 = .ok (.aload_n 0, 1) := by decide +kernel
theorem dX3_copyFrom_9 : decode cX3_copyFrom 9 = .ok (.aload_n 1, 1) := by decide +kernel
theorem dX3_copyFrom_10 : decode cX3_copyFrom 10 = .ok (.getfield 15, 3) := by decide +kernel
theorem dX3_copyFrom_13 : decode cX3_copyFrom 13 = .ok (.putfield 15, 3) := by decide +kernel
theorem dX3_copyFrom_16 : decode cX3_copyFrom 16 = .ok (.aload_n 1, 1) := by decide +kernel
theorem dX3_copyFrom_17 : decode cX3_copyFrom 17 = .ok (.getfield 18, 3) := by decide +kernel
theorem dX3_copyFrom_20 : decode cX3_copyFrom 20 = .ok (.iconst 0, 1) := by decide +kernel
theorem dX3_copyFrom_21 : decode cX3_copyFrom 21 = .ok (.aload_n 0, 1) := by decide +kernel
theorem dX3_copyFrom_22 : decode cX3_copyFrom 22 = .ok (.getfield 18, 3) := by decide +kernel
theorem dX3_copyFrom_25 : decode cX3_copyFrom 25 = .ok (.iconst 0, 1) := by decide +kernel
theorem dX3_copyFrom_26 : decode cX3_copyFrom 26 = .ok (.bipush 10, 2) := by decide +kernel
theorem dX3_copyFrom_28 : decode cX3_copyFrom 28 = .ok (.invokestatic 32, 3) := by decide +kernel
theorem dX3_copyFrom_31 : decode cX3_copyFrom 31 = .ok (.aload_n 1, 1) := by decide +kernel
theorem dX3_copyFrom_32 : decode cX3_copyFrom 32 = .ok (.getfield 22, 3) := by decide +kernel
theorem dX3_copyFrom_35 : decode cX3_copyFrom 35 = .ok (.iconst 0, 1) := by decide +kernel
theorem dX3_copyFrom_36 : decode cX3_copyFrom 36 = .ok (.aload_n 0, 1) := by decide +kernel
theorem dX3_copyFrom_37 : decode cX3_copyFrom 37 = .ok (.getfield 22, 3) := by decide +kernel
theorem dX3_copyFrom_40 : decode cX3_copyFrom 40 = .ok (.iconst 0, 1) := by decide +kernel
theorem dX3_copyFrom_41 : decode cX3_copyFrom 41 = .ok (.bipush 10, 2) := by decide +kernel
theorem dX3_copyFrom_43 : decode cX3_copyFrom 43 = .ok (.invokestatic 32, 3) := by decide +kernel
theorem dX3_copyFrom_46 : decode cX3_copyFrom 46 = .ok (.aload_n 1, 1) := by decide +kernel
theorem dX3_copyFrom_47 : decode cX3_copyFrom 47 = .ok (.getfield 25, 3) := by decide +kernel
theorem dX3_copyFrom_50 : decode cX3_copyFrom 50 = .ok (.iconst 0, 1) := by decide +kernel
theorem dX3_copyFrom_51 : decode cX3_copyFrom 51 = .ok (.aload_n 0, 1) := by decide +kernel
theorem dX3_copyFrom_52 : decode cX3_copyFrom 52 = .ok (.getfield 25, 3) := by decide +kernel
theorem dX3_copyFrom_55 : decode cX3_copyFrom 55 = .ok (.iconst 0, 1) := by decide +kernel
theorem dX3_copyFrom_56 : decode cX3_copyFrom 56 = .ok (.iconst 4, 1) := by decide +kernel
theorem dX3_copyFrom_57 : decode cX3_copyFrom 57 = .ok (.invokestatic 32, 3) := by decide +kernel
theorem dX3_copyFrom_60 : decode cX3_copyFrom 60 = .ok (.aload_n 1, 1) := by decide +kernel
theorem dX3_copyFrom_61 : decode cX3_copyFrom 61 = .ok (.getfield 28, 3) := by decide +kernel
theorem dX3_copyFrom_64 : decode cX3_copyFrom 64 = .ok (.iconst 0, 1) := by decide +kernel
theorem dX3_copyFrom_65 : decode cX3_copyFrom 65 = .ok (.aload_n 0, 1) := by decide +kernel
theorem dX3_copyFrom_66 : decode cX3_copyFrom 66 = .ok (.getfield 28, 3) := by decide +kernel
theorem dX3_copyFrom_69 : decode cX3_copyFrom 69 = .ok (.iconst 0, 1) := by decide +kernel
theorem dX3_copyFrom_70 : decode cX3_copyFrom 70 = .ok (.sipush 160, 3) := by decide +kernel
theorem dX3_copyFrom_73 : decode cX3_copyFrom 73 = .ok (.invokestatic 32, 3) := by decide +kernel
theorem dX3_copyFrom_76 : decode cX3_copyFrom 76 = .ok (.return_, 1) := by decide +kernel
theorem dX3_hasWorld_0 : decode cX3_hasWorld 0 = .ok (.iload_n 1, 1) := by decide +kernel
theorem dX3_hasWorld_1 : decode cX3_hasWorld 1 = .ok (.ifCond .lt 15, 3) := by decide +kernel
theorem dX3_hasWorld_4 : decode cX3_hasWorld 4 = .ok (.iload_n 1, 1) := by decide +kernel
theorem dX3_hasWorld_5 : decode cX3_hasWorld 5 = .ok (.aload_n 0, 1) := by decide +kernel
theorem dX3_hasWorld_6 : decode cX3_hasWorld 6 = .ok (.getfield 9, 3) := by decide +kernel
theorem dX3_hasWorld_9 : decode cX3_hasWorld 9 = .ok (.if_icmp .ge 7, 3) := by decide +kernel
theorem dX3_hasWorld_12 : decode cX3_hasWorld 12 = .ok (.iconst 1, 1) := by decide +kernel
theorem dX3_hasWorld_13 : decode cX3_hasWorld 13 = .ok (.goto 4, 3) := by decide +kernel
theorem dX3_hasWorld_16 : decode cX3_hasWorld 16 = .ok (.iconst 0, 1) := by decide +kernel
theorem dX3_hasWorld_17 : decode cX3_hasWorld 17 = .ok (.ireturn, 1) := by decide +kernel
theorem dX3_allWorlds_0 : decode cX3_allWorlds 0 = .ok (.iconst 1, 1) := by decide +kernel
theorem dX3_allWorlds_1 : decode cX3_allWorlds 1 = .ok (.aload_n 0, 1) := by decide +kernel
theorem dX3_allWorlds_2 : decode cX3_allWorlds 2 = .ok (.getfield 9, 3) := by decide +kernel
theorem dX3_allWorlds_5 : decode cX3_allWorlds 5 = .ok (.ishl, 1) := by decide +kernel
theorem dX3_allWorlds_6 : decode cX3_allWorlds 6 = .ok (.iconst 1, 1) := by decide +kernel
theorem dX3_allWorlds_7 : decode cX3_allWorlds 7 = .ok (.isub, 1) := by decide +kernel
theorem dX3_allWorlds_8 : decode cX3_allWorlds 8 = .ok (.ireturn, 1) := by decide +kernel
theorem dX3_lettersOf_0 : decode cX3_lettersOf 0 = .ok (.iload_n 1, 1) := by decide +kernel
theorem dX3_lettersOf_1 : decode cX3_lettersOf 1 = .ok (.ifCond .lt 20, 3) := by decide +kernel
theorem dX3_lettersOf_4 : decode cX3_lettersOf 4 = .ok (.iload_n 1, 1) := by decide +kernel
theorem dX3_lettersOf_5 : decode cX3_lettersOf 5 = .ok (.aload_n 0, 1) := by decide +kernel
theorem dX3_lettersOf_6 : decode cX3_lettersOf 6 = .ok (.getfield 9, 3) := by decide +kernel
theorem dX3_lettersOf_9 : decode cX3_lettersOf 9 = .ok (.if_icmp .ge 12, 3) := by decide +kernel
theorem dX3_lettersOf_12 : decode cX3_lettersOf 12 = .ok (.aload_n 0, 1) := by decide +kernel
theorem dX3_lettersOf_13 : decode cX3_lettersOf 13 = .ok (.getfield 18, 3) := by decide +kernel
theorem dX3_lettersOf_16 : decode cX3_lettersOf 16 = .ok (.iload_n 1, 1) := by decide +kernel
theorem dX3_lettersOf_17 : decode cX3_lettersOf 17 = .ok (.iaload, 1) := by decide +kernel
theorem dX3_lettersOf_18 : decode cX3_lettersOf 18 = .ok (.goto 4, 3) := by decide +kernel
theorem dX3_lettersOf_21 : decode cX3_lettersOf 21 = .ok (.iconst 0, 1) := by decide +kernel
theorem dX3_lettersOf_22 : decode cX3_lettersOf 22 = .ok (.ireturn, 1) := by decide +kernel
theorem dX3_stepsFrom_0 : decode cX3_stepsFrom 0 = .ok (.iload_n 1, 1) := by decide +kernel
theorem dX3_stepsFrom_1 : decode cX3_stepsFrom 1 = .ok (.ifCond .lt 20, 3) := by decide +kernel
theorem dX3_stepsFrom_4 : decode cX3_stepsFrom 4 = .ok (.iload_n 1, 1) := by decide +kernel
theorem dX3_stepsFrom_5 : decode cX3_stepsFrom 5 = .ok (.aload_n 0, 1) := by decide +kernel
theorem dX3_stepsFrom_6 : decode cX3_stepsFrom 6 = .ok (.getfield 9, 3) := by decide +kernel
theorem dX3_stepsFrom_9 : decode cX3_stepsFrom 9 = .ok (.if_icmp .ge 12, 3) := by decide +kernel
theorem dX3_stepsFrom_12 : decode cX3_stepsFrom 12 = .ok (.aload_n 0, 1) := by decide +kernel
theorem dX3_stepsFrom_13 : decode cX3_stepsFrom 13 = .ok (.getfield 22, 3) := by decide +kernel
theorem dX3_stepsFrom_16 : decode cX3_stepsFrom 16 = .ok (.iload_n 1, 1) := by decide +kernel
theorem dX3_stepsFrom_17 : decode cX3_stepsFrom 17 = .ok (.iaload, 1) := by decide +kernel
theorem dX3_stepsFrom_18 : decode cX3_stepsFrom 18 = .ok (.goto 4, 3) := by decide +kernel
theorem dX3_stepsFrom_21 : decode cX3_stepsFrom 21 = .ok (.iconst 0, 1) := by decide +kernel
theorem dX3_stepsFrom_22 : decode cX3_stepsFrom 22 = .ok (.ireturn, 1) := by decide +kernel
theorem dX3_withLetter_0 : decode cX3_withLetter 0 = .ok (.iconst 0, 1) := by decide +kernel
theorem dX3_withLetter_1 : decode cX3_withLetter 1 = .ok (.istore_n 2, 1) := by decide +kernel
theorem dX3_withLetter_2 : decode cX3_withLetter 2 = .ok (.iconst 0, 1) := by decide +kernel
theorem dX3_withLetter_3 : decode cX3_withLetter 3 = .ok (.istore_n 3, 1) := by decide +kernel
theorem dX3_withLetter_4 : decode cX3_withLetter 4 = .ok (.iload_n 3, 1) := by decide +kernel
theorem dX3_withLetter_5 : decode cX3_withLetter 5 = .ok (.aload_n 0, 1) := by decide +kernel
theorem dX3_withLetter_6 : decode cX3_withLetter 6 = .ok (.getfield 9, 3) := by decide +kernel
theorem dX3_withLetter_9 : decode cX3_withLetter 9 = .ok (.if_icmp .ge 24, 3) := by decide +kernel
theorem dX3_withLetter_12 : decode cX3_withLetter 12 = .ok (.iload_n 2, 1) := by decide +kernel
theorem dX3_withLetter_13 : decode cX3_withLetter 13 = .ok (.aload_n 0, 1) := by decide +kernel
theorem dX3_withLetter_14 : decode cX3_withLetter 14 = .ok (.getfield 18, 3) := by decide +kernel
theorem dX3_withLetter_17 : decode cX3_withLetter 17 = .ok (.iload_n 3, 1) := by decide +kernel
theorem dX3_withLetter_18 : decode cX3_withLetter 18 = .ok (.iaload, 1) := by decide +kernel
theorem dX3_withLetter_19 : decode cX3_withLetter 19 = .ok (.iload_n 1, 1) := by decide +kernel
theorem dX3_withLetter_20 : decode cX3_withLetter 20 = .ok (.ishr, 1) := by decide +kernel
theorem dX3_withLetter_21 : decode cX3_withLetter 21 = .ok (.iconst 1, 1) := by decide +kernel
theorem dX3_withLetter_22 : decode cX3_withLetter 22 = .ok (.iand, 1) := by decide +kernel
theorem dX3_withLetter_23 : decode cX3_withLetter 23 = .ok (.iload_n 3, 1) := by decide +kernel
theorem dX3_withLetter_24 : decode cX3_withLetter 24 = .ok (.ishl, 1) := by decide +kernel
theorem dX3_withLetter_25 : decode cX3_withLetter 25 = .ok (.ior, 1) := by decide +kernel
theorem dX3_withLetter_26 : decode cX3_withLetter 26 = .ok (.istore_n 2, 1) := by decide +kernel
theorem dX3_withLetter_27 : decode cX3_withLetter 27 = .ok (.iinc 3 1, 3) := by decide +kernel
theorem dX3_withLetter_30 : decode cX3_withLetter 30 = .ok (.goto (-26), 3) := by decide +kernel
theorem dX3_withLetter_33 : decode cX3_withLetter 33 = .ok (.iload_n 2, 1) := by decide +kernel
theorem dX3_withLetter_34 : decode cX3_withLetter 34 = .ok (.ireturn, 1) := by decide +kernel
theorem dX3_leadingInto_0 : decode cX3_leadingInto 0 = .ok (.iconst 0, 1) := by decide +kernel
theorem dX3_leadingInto_1 : decode cX3_leadingInto 1 = .ok (.istore_n 2, 1) := by decide +kernel
theorem dX3_leadingInto_2 : decode cX3_leadingInto 2 = .ok (.iconst 0, 1) := by decide +kernel
theorem dX3_leadingInto_3 : decode cX3_leadingInto 3 = .ok (.istore_n 3, 1) := by decide +kernel
theorem dX3_leadingInto_4 : decode cX3_leadingInto 4 = .ok (.iload_n 3, 1) := by decide +kernel
theorem dX3_leadingInto_5 : decode cX3_leadingInto 5 = .ok (.aload_n 0, 1) := by decide +kernel
theorem dX3_leadingInto_6 : decode cX3_leadingInto 6 = .ok (.getfield 9, 3) := by decide +kernel
theorem dX3_leadingInto_9 : decode cX3_leadingInto 9 = .ok (.if_icmp .ge 26, 3) := by decide +kernel
theorem dX3_leadingInto_12 : decode cX3_leadingInto 12 = .ok (.aload_n 0, 1) := by decide +kernel
theorem dX3_leadingInto_13 : decode cX3_leadingInto 13 = .ok (.getfield 22, 3) := by decide +kernel
theorem dX3_leadingInto_16 : decode cX3_leadingInto 16 = .ok (.iload_n 3, 1) := by decide +kernel
theorem dX3_leadingInto_17 : decode cX3_leadingInto 17 = .ok (.iaload, 1) := by decide +kernel
theorem dX3_leadingInto_18 : decode cX3_leadingInto 18 = .ok (.iload_n 1, 1) := by decide +kernel
theorem dX3_leadingInto_19 : decode cX3_leadingInto 19 = .ok (.iand, 1) := by decide +kernel
theorem dX3_leadingInto_20 : decode cX3_leadingInto 20 = .ok (.ifCond .eq 9, 3) := by decide +kernel
theorem dX3_leadingInto_23 : decode cX3_leadingInto 23 = .ok (.iload_n 2, 1) := by decide +kernel
theorem dX3_leadingInto_24 : decode cX3_leadingInto 24 = .ok (.iconst 1, 1) := by decide +kernel
theorem dX3_leadingInto_25 : decode cX3_leadingInto 25 = .ok (.iload_n 3, 1) := by decide +kernel
theorem dX3_leadingInto_26 : decode cX3_leadingInto 26 = .ok (.ishl, 1) := by decide +kernel
theorem dX3_leadingInto_27 : decode cX3_leadingInto 27 = .ok (.ior, 1) := by decide +kernel
theorem dX3_leadingInto_28 : decode cX3_leadingInto 28 = .ok (.istore_n 2, 1) := by decide +kernel
theorem dX3_leadingInto_29 : decode cX3_leadingInto 29 = .ok (.iinc 3 1, 3) := by decide +kernel
theorem dX3_leadingInto_32 : decode cX3_leadingInto 32 = .ok (.goto (-28), 3) := by decide +kernel
theorem dX3_leadingInto_35 : decode cX3_leadingInto 35 = .ok (.iload_n 2, 1) := by decide +kernel
theorem dX3_leadingInto_36 : decode cX3_leadingInto 36 = .ok (.ireturn, 1) := by decide +kernel
theorem dX3_countSteps_0 : decode cX3_countSteps 0 = .ok (.iconst 0, 1) := by decide +kernel
theorem dX3_countSteps_1 : decode cX3_countSteps 1 = .ok (.istore_n 1, 1) := by decide +kernel
theorem dX3_countSteps_2 : decode cX3_countSteps 2 = .ok (.iconst 0, 1) := by decide +kernel
theorem dX3_countSteps_3 : decode cX3_countSteps 3 = .ok (.istore_n 2, 1) := by decide +kernel
theorem dX3_countSteps_4 : decode cX3_countSteps 4 = .ok (.iload_n 2, 1) := by decide +kernel
theorem dX3_countSteps_5 : decode cX3_countSteps 5 = .ok (.aload_n 0, 1) := by decide +kernel
theorem dX3_countSteps_6 : decode cX3_countSteps 6 = .ok (.getfield 9, 3) := by decide +kernel
theorem dX3_countSteps_9 : decode cX3_countSteps 9 = .ok (.if_icmp .ge 21, 3) := by decide +kernel
theorem dX3_countSteps_12 : decode cX3_countSteps 12 = .ok (.iload_n 1, 1) := by decide +kernel
theorem dX3_countSteps_13 : decode cX3_countSteps 13 = .ok (.aload_n 0, 1) := by decide +kernel
theorem dX3_countSteps_14 : decode cX3_countSteps 14 = .ok (.getfield 22, 3) := by decide +kernel
theorem dX3_countSteps_17 : decode cX3_countSteps 17 = .ok (.iload_n 2, 1) := by decide +kernel
theorem dX3_countSteps_18 : decode cX3_countSteps 18 = .ok (.iaload, 1) := by decide +kernel
theorem dX3_countSteps_19 : decode cX3_countSteps 19 = .ok (.invokestatic 38, 3) := by decide +kernel
theorem dX3_countSteps_22 : decode cX3_countSteps 22 = .ok (.iadd, 1) := by decide +kernel
theorem dX3_countSteps_23 : decode cX3_countSteps 23 = .ok (.istore_n 1, 1) := by decide +kernel
theorem dX3_countSteps_24 : decode cX3_countSteps 24 = .ok (.iinc 2 1, 3) := by decide +kernel
theorem dX3_countSteps_27 : decode cX3_countSteps 27 = .ok (.goto (-23), 3) := by decide +kernel
theorem dX3_countSteps_30 : decode cX3_countSteps 30 = .ok (.iload_n 1, 1) := by decide +kernel
theorem dX3_countSteps_31 : decode cX3_countSteps 31 = .ok (.ireturn, 1) := by decide +kernel
theorem dX3_putWorld_0 : decode cX3_putWorld 0 = .ok (.aload_n 0, 1) := by decide +kernel
theorem dX3_putWorld_1 : decode cX3_putWorld 1 = .ok (.getfield 9, 3) := by decide +kernel
theorem dX3_putWorld_4 : decode cX3_putWorld 4 = .ok (.istore_n 2, 1) := by decide +kernel
theorem dX3_putWorld_5 : decode cX3_putWorld 5 = .ok (.iload_n 2, 1) := by decide +kernel
theorem dX3_putWorld_6 : decode cX3_putWorld 6 = .ok (.bipush 10, 2) := by decide +kernel
theorem dX3_putWorld_8 : decode cX3_putWorld 8 = .ok (.if_icmp .ge 24, 3) := by decide +kernel
theorem dX3_putWorld_11 : decode cX3_putWorld 11 = .ok (.aload_n 0, 1) := by decide +kernel
theorem dX3_putWorld_12 : decode cX3_putWorld 12 = .ok (.getfield 18, 3) := by decide +kernel
theorem dX3_putWorld_15 : decode cX3_putWorld 15 = .ok (.iload_n 2, 1) := by decide +kernel
theorem dX3_putWorld_16 : decode cX3_putWorld 16 = .ok (.iload_n 1, 1) := by decide +kernel
theorem dX3_putWorld_17 : decode cX3_putWorld 17 = .ok (.iastore, 1) := by decide +kernel
theorem dX3_putWorld_18 : decode cX3_putWorld 18 = .ok (.aload_n 0, 1) := by decide +kernel
theorem dX3_putWorld_19 : decode cX3_putWorld 19 = .ok (.getfield 22, 3) := by decide +kernel
theorem dX3_putWorld_22 : decode cX3_putWorld 22 = .ok (.iload_n 2, 1) := by decide +kernel
theorem dX3_putWorld_23 : decode cX3_putWorld 23 = .ok (.iconst 0, 1) := by decide +kernel
theorem dX3_putWorld_24 : decode cX3_putWorld 24 = .ok (.iastore, 1) := by decide +kernel
theorem dX3_putWorld_25 : decode cX3_putWorld 25 = .ok (.aload_n 0, 1) := by decide +kernel
theorem dX3_putWorld_26 : decode cX3_putWorld 26 = .ok (.iload_n 2, 1) := by decide +kernel
theorem dX3_putWorld_27 : decode cX3_putWorld 27 = .ok (.iconst 1, 1) := by decide +kernel
theorem dX3_putWorld_28 : decode cX3_putWorld 28 = .ok (.iadd, 1) := by decide +kernel
theorem dX3_putWorld_29 : decode cX3_putWorld 29 = .ok (.putfield 9, 3) := by decide +kernel
theorem dX3_putWorld_32 : decode cX3_putWorld 32 = .ok (.iload_n 2, 1) := by decide +kernel
theorem dX3_putWorld_33 : decode cX3_putWorld 33 = .ok (.ireturn, 1) := by decide +kernel
theorem dX3_turnStep_0 : decode cX3_turnStep 0 = .ok (.aload_n 0, 1) := by decide +kernel
theorem dX3_turnStep_1 : decode cX3_turnStep 1 = .ok (.iload_n 1, 1) := by decide +kernel
theorem dX3_turnStep_2 : decode cX3_turnStep 2 = .ok (.invokevirtual 44, 3) := by decide +kernel
theorem dX3_turnStep_5 : decode cX3_turnStep 5 = .ok (.ifCond .eq 23, 3) := by decide +kernel
theorem dX3_turnStep_8 : decode cX3_turnStep 8 = .ok (.aload_n 0, 1) := by decide +kernel
theorem dX3_turnStep_9 : decode cX3_turnStep 9 = .ok (.iload_n 2, 1) := by decide +kernel
theorem dX3_turnStep_10 : decode cX3_turnStep 10 = .ok (.invokevirtual 44, 3) := by decide +kernel
theorem dX3_turnStep_13 : decode cX3_turnStep 13 = .ok (.ifCond .eq 15, 3) := by decide +kernel
theorem dX3_turnStep_16 : decode cX3_turnStep 16 = .ok (.aload_n 0, 1) := by decide +kernel
theorem dX3_turnStep_17 : decode cX3_turnStep 17 = .ok (.getfield 22, 3) := by decide +kernel
theorem dX3_turnStep_20 : decode cX3_turnStep 20 = .ok (.iload_n 1, 1) := by decide +kernel
theorem dX3_turnStep_21 : decode cX3_turnStep 21 = .ok (.dup2, 1) := by decide +kernel
theorem dX3_turnStep_22 : decode cX3_turnStep 22 = .ok (.iaload, 1) := by decide +kernel
theorem dX3_turnStep_23 : decode cX3_turnStep 23 = .ok (.iconst 1, 1) := by decide +kernel
theorem dX3_turnStep_24 : decode cX3_turnStep 24 = .ok (.iload_n 2, 1) := by decide +kernel
theorem dX3_turnStep_25 : decode cX3_turnStep 25 = .ok (.ishl, 1) := by decide +kernel
theorem dX3_turnStep_26 : decode cX3_turnStep 26 = .ok (.ixor, 1) := by decide +kernel
theorem dX3_turnStep_27 : decode cX3_turnStep 27 = .ok (.iastore, 1) := by decide +kernel
theorem dX3_turnStep_28 : decode cX3_turnStep 28 = .ok (.return_, 1) := by decide +kernel
theorem dX3_lengthOf_0 : decode cX3_lengthOf 0 = .ok (.iload_n 1, 1) := by decide +kernel
theorem dX3_lengthOf_1 : decode cX3_lengthOf 1 = .ok (.ifCond .lt 17, 3) := by decide +kernel
theorem dX3_lengthOf_4 : decode cX3_lengthOf 4 = .ok (.iload_n 1, 1) := by decide +kernel
theorem dX3_lengthOf_5 : decode cX3_lengthOf 5 = .ok (.iconst 4, 1) := by decide +kernel
theorem dX3_lengthOf_6 : decode cX3_lengthOf 6 = .ok (.if_icmp .ge 12, 3) := by decide +kernel
theorem dX3_lengthOf_9 : decode cX3_lengthOf 9 = .ok (.aload_n 0, 1) := by decide +kernel
theorem dX3_lengthOf_10 : decode cX3_lengthOf 10 = .ok (.getfield 25, 3) := by decide +kernel
theorem dX3_lengthOf_13 : decode cX3_lengthOf 13 = .ok (.iload_n 1, 1) := by decide +kernel
theorem dX3_lengthOf_14 : decode cX3_lengthOf 14 = .ok (.iaload, 1) := by decide +kernel
theorem dX3_lengthOf_15 : decode cX3_lengthOf 15 = .ok (.goto 4, 3) := by decide +kernel
theorem dX3_lengthOf_18 : decode cX3_lengthOf 18 = .ok (.iconst 0, 1) := by decide +kernel
theorem dX3_lengthOf_19 : decode cX3_lengthOf 19 = .ok (.ireturn, 1) := by decide +kernel
theorem dX3_signAt_0 : decode cX3_signAt 0 = .ok (.iload_n 2, 1) := by decide +kernel
theorem dX3_signAt_1 : decode cX3_signAt 1 = .ok (.ifCond .lt 26, 3) := by decide +kernel
theorem dX3_signAt_4 : decode cX3_signAt 4 = .ok (.iload_n 2, 1) := by decide +kernel
theorem dX3_signAt_5 : decode cX3_signAt 5 = .ok (.aload_n 0, 1) := by decide +kernel
theorem dX3_signAt_6 : decode cX3_signAt 6 = .ok (.iload_n 1, 1) := by decide +kernel
theorem dX3_signAt_7 : decode cX3_signAt 7 = .ok (.invokevirtual 48, 3) := by decide +kernel
theorem dX3_signAt_10 : decode cX3_signAt 10 = .ok (.if_icmp .ge 17, 3) := by decide +kernel
theorem dX3_signAt_13 : decode cX3_signAt 13 = .ok (.aload_n 0, 1) := by decide +kernel
theorem dX3_signAt_14 : decode cX3_signAt 14 = .ok (.getfield 28, 3) := by decide +kernel
theorem dX3_signAt_17 : decode cX3_signAt 17 = .ok (.iload_n 1, 1) := by decide +kernel
theorem dX3_signAt_18 : decode cX3_signAt 18 = .ok (.bipush 40, 2) := by decide +kernel
theorem dX3_signAt_20 : decode cX3_signAt 20 = .ok (.imul, 1) := by decide +kernel
theorem dX3_signAt_21 : decode cX3_signAt 21 = .ok (.iload_n 2, 1) := by decide +kernel
theorem dX3_signAt_22 : decode cX3_signAt 22 = .ok (.iadd, 1) := by decide +kernel
theorem dX3_signAt_23 : decode cX3_signAt 23 = .ok (.caload, 1) := by decide +kernel
theorem dX3_signAt_24 : decode cX3_signAt 24 = .ok (.goto 4, 3) := by decide +kernel
theorem dX3_signAt_27 : decode cX3_signAt 27 = .ok (.iconst 0, 1) := by decide +kernel
theorem dX3_signAt_28 : decode cX3_signAt 28 = .ok (.ireturn, 1) := by decide +kernel
theorem dX3_putSign_0 : decode cX3_putSign 0 = .ok (.iload_n 1, 1) := by decide +kernel
theorem dX3_putSign_1 : decode cX3_putSign 1 = .ok (.ifCond .lt 30, 3) := by decide +kernel
theorem dX3_putSign_4 : decode cX3_putSign 4 = .ok (.iload_n 1, 1) := by decide +kernel
theorem dX3_putSign_5 : decode cX3_putSign 5 = .ok (.iconst 4, 1) := by decide +kernel
theorem dX3_putSign_6 : decode cX3_putSign 6 = .ok (.if_icmp .ge 25, 3) := by decide +kernel
theorem dX3_putSign_9 : decode cX3_putSign 9 = .ok (.iload_n 2, 1) := by decide +kernel
theorem dX3_putSign_10 : decode cX3_putSign 10 = .ok (.ifCond .lt 21, 3) := by decide +kernel
theorem dX3_putSign_13 : decode cX3_putSign 13 = .ok (.iload_n 2, 1) := by decide +kernel
theorem dX3_putSign_14 : decode cX3_putSign 14 = .ok (.bipush 40, 2) := by decide +kernel
theorem dX3_putSign_16 : decode cX3_putSign 16 = .ok (.if_icmp .ge 15, 3) := by decide +kernel
theorem dX3_putSign_19 : decode cX3_putSign 19 = .ok (.aload_n 0, 1) := by decide +kernel
theorem dX3_putSign_20 : decode cX3_putSign 20 = .ok (.getfield 28, 3) := by decide +kernel
theorem dX3_putSign_23 : decode cX3_putSign 23 = .ok (.iload_n 1, 1) := by decide +kernel
theorem dX3_putSign_24 : decode cX3_putSign 24 = .ok (.bipush 40, 2) := by decide +kernel
theorem dX3_putSign_26 : decode cX3_putSign 26 = .ok (.imul, 1) := by decide +kernel
theorem dX3_putSign_27 : decode cX3_putSign 27 = .ok (.iload_n 2, 1) := by decide +kernel
theorem dX3_putSign_28 : decode cX3_putSign 28 = .ok (.iadd, 1) := by decide +kernel
theorem dX3_putSign_29 : decode cX3_putSign 29 = .ok (.iload_n 3, 1) := by decide +kernel
theorem dX3_putSign_30 : decode cX3_putSign 30 = .ok (.castore, 1) := by decide +kernel
theorem dX3_putSign_31 : decode cX3_putSign 31 = .ok (.return_, 1) := by decide +kernel
theorem dX3_putLength_0 : decode cX3_putLength 0 = .ok (.iload_n 1, 1) := by decide +kernel
theorem dX3_putLength_1 : decode cX3_putLength 1 = .ok (.ifCond .lt 25, 3) := by decide +kernel
theorem dX3_putLength_4 : decode cX3_putLength 4 = .ok (.iload_n 1, 1) := by decide +kernel
theorem dX3_putLength_5 : decode cX3_putLength 5 = .ok (.iconst 4, 1) := by decide +kernel
theorem dX3_putLength_6 : decode cX3_putLength 6 = .ok (.if_icmp .ge 20, 3) := by decide +kernel
theorem dX3_putLength_9 : decode cX3_putLength 9 = .ok (.iload_n 2, 1) := by decide +kernel
theorem dX3_putLength_10 : decode cX3_putLength 10 = .ok (.ifCond .lt 16, 3) := by decide +kernel
theorem dX3_putLength_13 : decode cX3_putLength 13 = .ok (.iload_n 2, 1) := by decide +kernel
theorem dX3_putLength_14 : decode cX3_putLength 14 = .ok (.bipush 40, 2) := by decide +kernel
theorem dX3_putLength_16 : decode cX3_putLength 16 = .ok (.if_icmp .gt 10, 3) := by decide +kernel
theorem dX3_putLength_19 : decode cX3_putLength 19 = .ok (.aload_n 0, 1) := by decide +kernel
theorem dX3_putLength_20 : decode cX3_putLength 20 = .ok (.getfield 25, 3) := by decide +kernel
theorem dX3_putLength_23 : decode cX3_putLength 23 = .ok (.iload_n 1, 1) := by decide +kernel
theorem dX3_putLength_24 : decode cX3_putLength 24 = .ok (.iload_n 2, 1) := by decide +kernel
theorem dX3_putLength_25 : decode cX3_putLength 25 = .ok (.iastore, 1) := by decide +kernel
theorem dX3_putLength_26 : decode cX3_putLength 26 = .ok (.return_, 1) := by decide +kernel
theorem dX3_putWish_0 : decode cX3_putWish 0 = .ok (.iconst 0, 1) := by decide +kernel
theorem dX3_putWish_1 : decode cX3_putWish 1 = .ok (.istore_n 3, 1) := by decide +kernel
theorem dX3_putWish_2 : decode cX3_putWish 2 = .ok (.iload_n 3, 1) := by decide +kernel
theorem dX3_putWish_3 : decode cX3_putWish 3 = .ok (.aload_n 2, 1) := by decide +kernel
theorem dX3_putWish_4 : decode cX3_putWish 4 = .ok (.getfield 51, 3) := by decide +kernel
theorem dX3_putWish_7 : decode cX3_putWish 7 = .ok (.if_icmp .ge 20, 3) := by decide +kernel
theorem dX3_putWish_10 : decode cX3_putWish 10 = .ok (.aload_n 0, 1) := by decide +kernel
theorem dX3_putWish_11 : decode cX3_putWish 11 = .ok (.iload_n 1, 1) := by decide +kernel
theorem dX3_putWish_12 : decode cX3_putWish 12 = .ok (.iload_n 3, 1) := by decide +kernel
theorem dX3_putWish_13 : decode cX3_putWish 13 = .ok (.aload_n 2, 1) := by decide +kernel
theorem dX3_putWish_14 : decode cX3_putWish 14 = .ok (.iload_n 3, 1) := by decide +kernel
theorem dX3_putWish_15 : decode cX3_putWish 15 = .ok (.invokevirtual 56, 3) := by decide +kernel
theorem dX3_putWish_18 : decode cX3_putWish 18 = .ok (.invokevirtual 60, 3) := by decide +kernel
theorem dX3_putWish_21 : decode cX3_putWish 21 = .ok (.iinc 3 1, 3) := by decide +kernel
theorem dX3_putWish_24 : decode cX3_putWish 24 = .ok (.goto (-22), 3) := by decide +kernel
theorem dX3_putWish_27 : decode cX3_putWish 27 = .ok (.aload_n 0, 1) := by decide +kernel
theorem dX3_putWish_28 : decode cX3_putWish 28 = .ok (.iload_n 1, 1) := by decide +kernel
theorem dX3_putWish_29 : decode cX3_putWish 29 = .ok (.aload_n 2, 1) := by decide +kernel
theorem dX3_putWish_30 : decode cX3_putWish 30 = .ok (.getfield 51, 3) := by decide +kernel
theorem dX3_putWish_33 : decode cX3_putWish 33 = .ok (.invokevirtual 64, 3) := by decide +kernel
theorem dX3_putWish_36 : decode cX3_putWish 36 = .ok (.return_, 1) := by decide +kernel
theorem dX3_putNot_0 : decode cX3_putNot 0 = .ok (.aload_n 0, 1) := by decide +kernel
theorem dX3_putNot_1 : decode cX3_putNot 1 = .ok (.iload_n 1, 1) := by decide +kernel
theorem dX3_putNot_2 : decode cX3_putNot 2 = .ok (.invokevirtual 48, 3) := by decide +kernel
theorem dX3_putNot_5 : decode cX3_putNot 5 = .ok (.istore_n 2, 1) := by decide +kernel
theorem dX3_putNot_6 : decode cX3_putNot 6 = .ok (.iload_n 2, 1) := by decide +kernel
theorem dX3_putNot_7 : decode cX3_putNot 7 = .ok (.istore_n 3, 1) := by decide +kernel
theorem dX3_putNot_8 : decode cX3_putNot 8 = .ok (.iload_n 3, 1) := by decide +kernel
theorem dX3_putNot_9 : decode cX3_putNot 9 = .ok (.ifCond .le 23, 3) := by decide +kernel
theorem dX3_putNot_12 : decode cX3_putNot 12 = .ok (.aload_n 0, 1) := by decide +kernel
theorem dX3_putNot_13 : decode cX3_putNot 13 = .ok (.iload_n 1, 1) := by decide +kernel
theorem dX3_putNot_14 : decode cX3_putNot 14 = .ok (.iload_n 3, 1) := by decide +kernel
theorem dX3_putNot_15 : decode cX3_putNot 15 = .ok (.aload_n 0, 1) := by decide +kernel
theorem dX3_putNot_16 : decode cX3_putNot 16 = .ok (.iload_n 1, 1) := by decide +kernel
theorem dX3_putNot_17 : decode cX3_putNot 17 = .ok (.iload_n 3, 1) := by decide +kernel
theorem dX3_putNot_18 : decode cX3_putNot 18 = .ok (.iconst 1, 1) := by decide +kernel
theorem dX3_putNot_19 : decode cX3_putNot 19 = .ok (.isub, 1) := by decide +kernel
theorem dX3_putNot_20 : decode cX3_putNot 20 = .ok (.invokevirtual 68, 3) := by decide +kernel
theorem dX3_putNot_23 : decode cX3_putNot 23 = .ok (.invokevirtual 60, 3) := by decide +kernel
theorem dX3_putNot_26 : decode cX3_putNot 26 = .ok (.iinc 3 (-1), 3) := by decide +kernel
theorem dX3_putNot_29 : decode cX3_putNot 29 = .ok (.goto (-21), 3) := by decide +kernel
theorem dX3_putNot_32 : decode cX3_putNot 32 = .ok (.aload_n 0, 1) := by decide +kernel
theorem dX3_putNot_33 : decode cX3_putNot 33 = .ok (.iload_n 1, 1) := by decide +kernel
theorem dX3_putNot_34 : decode cX3_putNot 34 = .ok (.iconst 0, 1) := by decide +kernel
theorem dX3_putNot_35 : decode cX3_putNot 35 = .ok (.bipush 33, 2) := by decide +kernel
theorem dX3_putNot_37 : decode cX3_putNot 37 = .ok (.invokevirtual 60, 3) := by decide +kernel
theorem dX3_putNot_40 : decode cX3_putNot 40 = .ok (.aload_n 0, 1) := by decide +kernel
theorem dX3_putNot_41 : decode cX3_putNot 41 = .ok (.iload_n 1, 1) := by decide +kernel
theorem dX3_putNot_42 : decode cX3_putNot 42 = .ok (.iload_n 2, 1) := by decide +kernel
theorem dX3_putNot_43 : decode cX3_putNot 43 = .ok (.iconst 1, 1) := by decide +kernel
theorem dX3_putNot_44 : decode cX3_putNot 44 = .ok (.iadd, 1) := by decide +kernel
theorem dX3_putNot_45 : decode cX3_putNot 45 = .ok (.invokevirtual 64, 3) := by decide +kernel
theorem dX3_putNot_48 : decode cX3_putNot 48 = .ok (.return_, 1) := by decide +kernel
theorem dX3_dropNot_0 : decode cX3_dropNot 0 = .ok (.aload_n 0, 1) := by decide +kernel
theorem dX3_dropNot_1 : decode cX3_dropNot 1 = .ok (.iload_n 1, 1) := by decide +kernel
theorem dX3_dropNot_2 : decode cX3_dropNot 2 = .ok (.invokevirtual 48, 3) := by decide +kernel
theorem dX3_dropNot_5 : decode cX3_dropNot 5 = .ok (.istore_n 2, 1) := by decide +kernel
theorem dX3_dropNot_6 : decode cX3_dropNot 6 = .ok (.iconst 1, 1) := by decide +kernel
theorem dX3_dropNot_7 : decode cX3_dropNot 7 = .ok (.istore_n 3, 1) := by decide +kernel
theorem dX3_dropNot_8 : decode cX3_dropNot 8 = .ok (.iload_n 3, 1) := by decide +kernel
theorem dX3_dropNot_9 : decode cX3_dropNot 9 = .ok (.iload_n 2, 1) := by decide +kernel
theorem dX3_dropNot_10 : decode cX3_dropNot 10 = .ok (.if_icmp .ge 23, 3) := by decide +kernel
theorem dX3_dropNot_13 : decode cX3_dropNot 13 = .ok (.aload_n 0, 1) := by decide +kernel
theorem dX3_dropNot_14 : decode cX3_dropNot 14 = .ok (.iload_n 1, 1) := by decide +kernel
theorem dX3_dropNot_15 : decode cX3_dropNot 15 = .ok (.iload_n 3, 1) := by decide +kernel
theorem dX3_dropNot_16 : decode cX3_dropNot 16 = .ok (.iconst 1, 1) := by decide +kernel
theorem dX3_dropNot_17 : decode cX3_dropNot 17 = .ok (.isub, 1) := by decide +kernel
theorem dX3_dropNot_18 : decode cX3_dropNot 18 = .ok (.aload_n 0, 1) := by decide +kernel
theorem dX3_dropNot_19 : decode cX3_dropNot 19 = .ok (.iload_n 1, 1) := by decide +kernel
theorem dX3_dropNot_20 : decode cX3_dropNot 20 = .ok (.iload_n 3, 1) := by decide +kernel
theorem dX3_dropNot_21 : decode cX3_dropNot 21 = .ok (.invokevirtual 68, 3) := by decide +kernel
theorem dX3_dropNot_24 : decode cX3_dropNot 24 = .ok (.invokevirtual 60, 3) := by decide +kernel
theorem dX3_dropNot_27 : decode cX3_dropNot 27 = .ok (.iinc 3 1, 3) := by decide +kernel
theorem dX3_dropNot_30 : decode cX3_dropNot 30 = .ok (.goto (-22), 3) := by decide +kernel
theorem dX3_dropNot_33 : decode cX3_dropNot 33 = .ok (.aload_n 0, 1) := by decide +kernel
theorem dX3_dropNot_34 : decode cX3_dropNot 34 = .ok (.iload_n 1, 1) := by decide +kernel
theorem dX3_dropNot_35 : decode cX3_dropNot 35 = .ok (.iload_n 2, 1) := by decide +kernel
theorem dX3_dropNot_36 : decode cX3_dropNot 36 = .ok (.iconst 1, 1) := by decide +kernel
theorem dX3_dropNot_37 : decode cX3_dropNot 37 = .ok (.isub, 1) := by decide +kernel
theorem dX3_dropNot_38 : decode cX3_dropNot 38 = .ok (.invokevirtual 64, 3) := by decide +kernel
theorem dX3_dropNot_41 : decode cX3_dropNot 41 = .ok (.return_, 1) := by decide +kernel
theorem dX3_countWishes_0 : decode cX3_countWishes 0 = .ok (.iconst 0, 1) := by decide +kernel
theorem dX3_countWishes_1 : decode cX3_countWishes 1 = .ok (.istore_n 1, 1) := by decide +kernel
theorem dX3_countWishes_2 : decode cX3_countWishes 2 = .ok (.iconst 0, 1) := by decide +kernel
theorem dX3_countWishes_3 : decode cX3_countWishes 3 = .ok (.istore_n 2, 1) := by decide +kernel
theorem dX3_countWishes_4 : decode cX3_countWishes 4 = .ok (.iload_n 2, 1) := by decide +kernel
theorem dX3_countWishes_5 : decode cX3_countWishes 5 = .ok (.iconst 4, 1) := by decide +kernel
theorem dX3_countWishes_6 : decode cX3_countWishes 6 = .ok (.if_icmp .ge 25, 3) := by decide +kernel
theorem dX3_countWishes_9 : decode cX3_countWishes 9 = .ok (.iload_n 1, 1) := by decide +kernel
theorem dX3_countWishes_10 : decode cX3_countWishes 10 = .ok (.aload_n 0, 1) := by decide +kernel
theorem dX3_countWishes_11 : decode cX3_countWishes 11 = .ok (.iload_n 2, 1) := by decide +kernel
theorem dX3_countWishes_12 : decode cX3_countWishes 12 = .ok (.invokevirtual 48, 3) := by decide +kernel
theorem dX3_countWishes_15 : decode cX3_countWishes 15 = .ok (.ifCond .le 7, 3) := by decide +kernel
theorem dX3_countWishes_18 : decode cX3_countWishes 18 = .ok (.iconst 1, 1) := by decide +kernel
theorem dX3_countWishes_19 : decode cX3_countWishes 19 = .ok (.goto 4, 3) := by decide +kernel
theorem dX3_countWishes_22 : decode cX3_countWishes 22 = .ok (.iconst 0, 1) := by decide +kernel
theorem dX3_countWishes_23 : decode cX3_countWishes 23 = .ok (.iadd, 1) := by decide +kernel
theorem dX3_countWishes_24 : decode cX3_countWishes 24 = .ok (.istore_n 1, 1) := by decide +kernel
theorem dX3_countWishes_25 : decode cX3_countWishes 25 = .ok (.iinc 2 1, 3) := by decide +kernel
theorem dX3_countWishes_28 : decode cX3_countWishes 28 = .ok (.goto (-24), 3) := by decide +kernel
theorem dX3_countWishes_31 : decode cX3_countWishes 31 = .ok (.iload_n 1, 1) := by decide +kernel
theorem dX3_countWishes_32 : decode cX3_countWishes 32 = .ok (.ireturn, 1) := by decide +kernel
theorem dX3_countSigns_0 : decode cX3_countSigns 0 = .ok (.iconst 0, 1) := by decide +kernel
theorem dX3_countSigns_1 : decode cX3_countSigns 1 = .ok (.istore_n 1, 1) := by decide +kernel
theorem dX3_countSigns_2 : decode cX3_countSigns 2 = .ok (.iconst 0, 1) := by decide +kernel
theorem dX3_countSigns_3 : decode cX3_countSigns 3 = .ok (.istore_n 2, 1) := by decide +kernel
theorem dX3_countSigns_4 : decode cX3_countSigns 4 = .ok (.iload_n 2, 1) := by decide +kernel
theorem dX3_countSigns_5 : decode cX3_countSigns 5 = .ok (.iconst 4, 1) := by decide +kernel
theorem dX3_countSigns_6 : decode cX3_countSigns 6 = .ok (.if_icmp .ge 17, 3) := by decide +kernel
theorem dX3_countSigns_9 : decode cX3_countSigns 9 = .ok (.iload_n 1, 1) := by decide +kernel
theorem dX3_countSigns_10 : decode cX3_countSigns 10 = .ok (.aload_n 0, 1) := by decide +kernel
theorem dX3_countSigns_11 : decode cX3_countSigns 11 = .ok (.iload_n 2, 1) := by decide +kernel
theorem dX3_countSigns_12 : decode cX3_countSigns 12 = .ok (.invokevirtual 48, 3) := by decide +kernel
theorem dX3_countSigns_15 : decode cX3_countSigns 15 = .ok (.iadd, 1) := by decide +kernel
theorem dX3_countSigns_16 : decode cX3_countSigns 16 = .ok (.istore_n 1, 1) := by decide +kernel
theorem dX3_countSigns_17 : decode cX3_countSigns 17 = .ok (.iinc 2 1, 3) := by decide +kernel
theorem dX3_countSigns_20 : decode cX3_countSigns 20 = .ok (.goto (-16), 3) := by decide +kernel
theorem dX3_countSigns_23 : decode cX3_countSigns 23 = .ok (.iload_n 1, 1) := by decide +kernel
theorem dX3_countSigns_24 : decode cX3_countSigns 24 = .ok (.ireturn, 1) := by decide +kernel
theorem dX4_init_0 : decode cX4_init 0 = .ok (.aload_n 0, 1) := by decide +kernel
theorem dX4_init_1 : decode cX4_init 1 = .ok (.invokespecial 3, 3) := by decide +kernel
theorem dX4_init_4 : decode cX4_init 4 = .ok (.aload_n 0, 1) := by decide +kernel
theorem dX4_init_5 : decode cX4_init 5 = .ok (.iconst 0, 1) := by decide +kernel
theorem dX4_init_6 : decode cX4_init 6 = .ok (.putfield 9, 3) := by decide +kernel
theorem dX4_init_9 : decode cX4_init 9 = .ok (.aload_n 0, 1) := by decide +kernel
theorem dX4_init_10 : decode cX4_init 10 = .ok (.bipush 60, 2) := by decide +kernel
theorem dX4_init_12 : decode cX4_init 12 = .ok (.newarray .char, 2) := by decide +kernel
theorem dX4_init_14 : decode cX4_init 14 = .ok (.putfield 15, 3) := by decide +kernel
theorem dX4_init_17 : decode cX4_init 17 = .ok (.aload_n 0, 1) := by decide +kernel
theorem dX4_init_18 : decode cX4_init 18 = .ok (.iconst 1, 1) := by decide +kernel
theorem dX4_init_19 : decode cX4_init 19 = .ok (.putfield 19, 3) := by decide +kernel
theorem dX4_init_22 : decode cX4_init 22 = .ok (.aload_n 0, 1) := by decide +kernel
theorem dX4_init_23 : decode cX4_init 23 = .ok (.iconst 0, 1) := by decide +kernel
theorem dX4_init_24 : decode cX4_init 24 = .ok (.putfield 22, 3) := by decide +kernel
theorem dX4_init_27 : decode cX4_init 27 = .ok (.return_, 1) := by decide +kernel
theorem dX4_put_0 : decode cX4_put 0 = .ok (.aload_n 0, 1) := by decide +kernel
theorem dX4_put_1 : decode cX4_put 1 = .ok (.getfield 9, 3) := by decide +kernel
theorem dX4_put_4 : decode cX4_put 4 = .ok (.ifCond .lt 32, 3) := by decide +kernel
theorem dX4_put_7 : decode cX4_put 7 = .ok (.aload_n 0, 1) := by decide +kernel
theorem dX4_put_8 : decode cX4_put 8 = .ok (.getfield 9, 3) := by decide +kernel
theorem dX4_put_11 : decode cX4_put 11 = .ok (.bipush 60, 2) := by decide +kernel
theorem dX4_put_13 : decode cX4_put 13 = .ok (.if_icmp .ge 23, 3) := by decide +kernel
theorem dX4_put_16 : decode cX4_put 16 = .ok (.aload_n 0, 1) := by decide +kernel
theorem dX4_put_17 : decode cX4_put 17 = .ok (.getfield 15, 3) := by decide +kernel
theorem dX4_put_20 : decode cX4_put 20 = .ok (.aload_n 0, 1) := by decide +kernel
theorem dX4_put_21 : decode cX4_put 21 = .ok (.getfield 9, 3) := by decide +kernel
theorem dX4_put_24 : decode cX4_put 24 = .ok (.iload_n 1, 1) := by decide +kernel
theorem dX4_put_25 : decode cX4_put 25 = .ok (.castore, 1) := by decide +kernel
theorem dX4_put_26 : decode cX4_put 26 = .ok (.aload_n 0, 1) := by decide +kernel
theorem dX4_put_27 : decode cX4_put 27 = .ok (.dup, 1) := by decide +kernel
theorem dX4_put_28 : decode cX4_put 28 = .ok (.getfield 9, 3) := by decide +kernel
theorem dX4_put_31 : decode cX4_put 31 = .ok (.iconst 1, 1) := by decide +kernel
theorem dX4_put_32 : decode cX4_put 32 = .ok (.iadd, 1) := by decide +kernel
theorem dX4_put_33 : decode cX4_put 33 = .ok (.putfield 9, 3) := by decide +kernel
theorem dX4_put_36 : decode cX4_put 36 = .ok (.return_, 1) := by decide +kernel
theorem dX4_at_0 : decode cX4_at 0 = .ok (.iload_n 1, 1) := by decide +kernel
theorem dX4_at_1 : decode cX4_at 1 = .ok (.ifCond .lt 20, 3) := by decide +kernel
theorem dX4_at_4 : decode cX4_at 4 = .ok (.iload_n 1, 1) := by decide +kernel
theorem dX4_at_5 : decode cX4_at 5 = .ok (.aload_n 0, 1) := by decide +kernel
theorem dX4_at_6 : decode cX4_at 6 = .ok (.getfield 9, 3) := by decide +kernel
theorem dX4_at_9 : decode cX4_at 9 = .ok (.if_icmp .ge 12, 3) := by decide +kernel
theorem dX4_at_12 : decode cX4_at 12 = .ok (.aload_n 0, 1) := by decide +kernel
theorem dX4_at_13 : decode cX4_at 13 = .ok (.getfield 15, 3) := by decide +kernel
theorem dX4_at_16 : decode cX4_at 16 = .ok (.iload_n 1, 1) := by decide +kernel
theorem dX4_at_17 : decode cX4_at 17 = .ok (.caload, 1) := by decide +kernel
theorem dX4_at_18 : decode cX4_at 18 = .ok (.goto 4, 3) := by decide +kernel
theorem dX4_at_21 : decode cX4_at 21 = .ok (.iconst 0, 1) := by decide +kernel
theorem dX4_at_22 : decode cX4_at 22 = .ok (.ireturn, 1) := by decide +kernel
theorem dX4_isWish_0 : decode cX4_isWish 0 = .ok (.aload_n 0, 1) := by decide +kernel
theorem dX4_isWish_1 : decode cX4_isWish 1 = .ok (.invokevirtual 26, 3) := by decide +kernel
theorem dX4_isWish_4 : decode cX4_isWish 4 = .ok (.aload_n 0, 1) := by decide +kernel
theorem dX4_isWish_5 : decode cX4_isWish 5 = .ok (.getfield 9, 3) := by decide +kernel
theorem dX4_isWish_8 : decode cX4_isWish 8 = .ok (.if_icmp .ne 14, 3) := by decide +kernel
theorem dX4_isWish_11 : decode cX4_isWish 11 = .ok (.aload_n 0, 1) := by decide +kernel
theorem dX4_isWish_12 : decode cX4_isWish 12 = .ok (.getfield 19, 3) := by decide +kernel
theorem dX4_isWish_15 : decode cX4_isWish 15 = .ok (.ifCond .ne 7, 3) := by decide +kernel
theorem dX4_isWish_18 : decode cX4_isWish 18 = .ok (.iconst 1, 1) := by decide +kernel
theorem dX4_isWish_19 : decode cX4_isWish 19 = .ok (.goto 4, 3) := by decide +kernel
theorem dX4_isWish_22 : decode cX4_isWish 22 = .ok (.iconst 0, 1) := by decide +kernel
theorem dX4_isWish_23 : decode cX4_isWish 23 = .ok (.ireturn, 1) := by decide +kernel
theorem dX4_firstFault_0 : decode cX4_firstFault 0 = .ok (.aload_n 0, 1) := by decide +kernel
theorem dX4_firstFault_1 : decode cX4_firstFault 1 = .ok (.iconst 1, 1) := by decide +kernel
theorem dX4_firstFault_2 : decode cX4_firstFault 2 = .ok (.putfield 19, 3) := by decide +kernel
theorem dX4_firstFault_5 : decode cX4_firstFault 5 = .ok (.aload_n 0, 1) := by decide +kernel
theorem dX4_firstFault_6 : decode cX4_firstFault 6 = .ok (.iconst 0, 1) := by decide +kernel
theorem dX4_firstFault_7 : decode cX4_firstFault 7 = .ok (.putfield 22, 3) := by decide +kernel
theorem dX4_firstFault_10 : decode cX4_firstFault 10 = .ok (.iconst 0, 1) := by decide +kernel
theorem dX4_firstFault_11 : decode cX4_firstFault 11 = .ok (.istore_n 1, 1) := by decide +kernel
theorem dX4_firstFault_12 : decode cX4_firstFault 12 = .ok (.iload_n 1, 1) := by decide +kernel
theorem dX4_firstFault_13 : decode cX4_firstFault 13 = .ok (.aload_n 0, 1) := by decide +kernel
theorem dX4_firstFault_14 : decode cX4_firstFault 14 = .ok (.getfield 9, 3) := by decide +kernel
theorem dX4_firstFault_17 : decode cX4_firstFault 17 = .ok (.if_icmp .ge 36, 3) := by decide +kernel
theorem dX4_firstFault_20 : decode cX4_firstFault 20 = .ok (.aload_n 0, 1) := by decide +kernel
theorem dX4_firstFault_21 : decode cX4_firstFault 21 = .ok (.aload_n 0, 1) := by decide +kernel
theorem dX4_firstFault_22 : decode cX4_firstFault 22 = .ok (.iload_n 1, 1) := by decide +kernel
theorem dX4_firstFault_23 : decode cX4_firstFault 23 = .ok (.invokevirtual 30, 3) := by decide +kernel
theorem dX4_firstFault_26 : decode cX4_firstFault 26 = .ok (.invokevirtual 34, 3) := by decide +kernel
theorem dX4_firstFault_29 : decode cX4_firstFault 29 = .ok (.ifCond .eq 16, 3) := by decide +kernel
theorem dX4_firstFault_32 : decode cX4_firstFault 32 = .ok (.iload_n 1, 1) := by decide +kernel
theorem dX4_firstFault_33 : decode cX4_firstFault 33 = .ok (.iconst 1, 1) := by decide +kernel
theorem dX4_firstFault_34 : decode cX4_firstFault 34 = .ok (.iadd, 1) := by decide +kernel
theorem dX4_firstFault_35 : decode cX4_firstFault 35 = .ok (.aload_n 0, 1) := by decide +kernel
theorem dX4_firstFault_36 : decode cX4_firstFault 36 = .ok (.invokevirtual 38, 3) := by decide +kernel
theorem dX4_firstFault_39 : decode cX4_firstFault 39 = .ok (.iadd, 1) := by decide +kernel
theorem dX4_firstFault_40 : decode cX4_firstFault 40 = .ok (.bipush 40, 2) := by decide +kernel
theorem dX4_firstFault_42 : decode cX4_firstFault 42 = .ok (.if_icmp .le 5, 3) := by decide +kernel
theorem dX4_firstFault_45 : decode cX4_firstFault 45 = .ok (.iload_n 1, 1) := by decide +kernel
theorem dX4_firstFault_46 : decode cX4_firstFault 46 = .ok (.ireturn, 1) := by decide +kernel
theorem dX4_firstFault_47 : decode cX4_firstFault 47 = .ok (.iinc 1 1, 3) := by decide +kernel
theorem dX4_firstFault_50 : decode cX4_firstFault 50 = .ok (.goto (-38), 3) := by decide +kernel
theorem dX4_firstFault_53 : decode cX4_firstFault 53 = .ok (.aload_n 0, 1) := by decide +kernel
theorem dX4_firstFault_54 : decode cX4_firstFault 54 = .ok (.getfield 9, 3) := by decide +kernel
theorem dX4_firstFault_57 : decode cX4_firstFault 57 = .ok (.ireturn, 1) := by decide +kernel
theorem dX4_leastRest_0 : decode cX4_leastRest 0 = .ok (.aload_n 0, 1) := by decide +kernel
theorem dX4_leastRest_1 : decode cX4_leastRest 1 = .ok (.getfield 19, 3) := by decide +kernel
theorem dX4_leastRest_4 : decode cX4_leastRest 4 = .ok (.aload_n 0, 1) := by decide +kernel
theorem dX4_leastRest_5 : decode cX4_leastRest 5 = .ok (.getfield 22, 3) := by decide +kernel
theorem dX4_leastRest_8 : decode cX4_leastRest 8 = .ok (.ifCond .eq 7, 3) := by decide +kernel
theorem dX4_leastRest_11 : decode cX4_leastRest 11 = .ok (.iconst 1, 1) := by decide +kernel
theorem dX4_leastRest_12 : decode cX4_leastRest 12 = .ok (.goto 4, 3) := by decide +kernel
theorem dX4_leastRest_15 : decode cX4_leastRest 15 = .ok (.iconst 0, 1) := by decide +kernel
theorem dX4_leastRest_16 : decode cX4_leastRest 16 = .ok (.iadd, 1) := by decide +kernel
theorem dX4_leastRest_17 : decode cX4_leastRest 17 = .ok (.ireturn, 1) := by decide +kernel
theorem dX4_takes_0 : decode cX4_takes 0 = .ok (.aload_n 0, 1) := by decide +kernel
theorem dX4_takes_1 : decode cX4_takes 1 = .ok (.getfield 22, 3) := by decide +kernel
theorem dX4_takes_4 : decode cX4_takes 4 = .ok (.ifCond .eq 9, 3) := by decide +kernel
theorem dX4_takes_7 : decode cX4_takes 7 = .ok (.aload_n 0, 1) := by decide +kernel
theorem dX4_takes_8 : decode cX4_takes 8 = .ok (.iload_n 1, 1) := by decide +kernel
theorem dX4_takes_9 : decode cX4_takes 9 = .ok (.invokevirtual 41, 3) := by decide +kernel
theorem dX4_takes_12 : decode cX4_takes 12 = .ok (.ireturn, 1) := by decide +kernel
theorem dX4_takes_13 : decode cX4_takes 13 = .ok (.aload_n 0, 1) := by decide +kernel
theorem dX4_takes_14 : decode cX4_takes 14 = .ok (.getfield 19, 3) := by decide +kernel
theorem dX4_takes_17 : decode cX4_takes 17 = .ok (.ifCond .le 15, 3) := by decide +kernel
theorem dX4_takes_20 : decode cX4_takes 20 = .ok (.aload_n 0, 1) := by decide +kernel
theorem dX4_takes_21 : decode cX4_takes 21 = .ok (.iload_n 1, 1) := by decide +kernel
theorem dX4_takes_22 : decode cX4_takes 22 = .ok (.invokevirtual 44, 3) := by decide +kernel
theorem dX4_takes_25 : decode cX4_takes 25 = .ok (.ifCond .eq 7, 3) := by decide +kernel
theorem dX4_takes_28 : decode cX4_takes 28 = .ok (.iconst 1, 1) := by decide +kernel
theorem dX4_takes_29 : decode cX4_takes 29 = .ok (.goto 4, 3) := by decide +kernel
theorem dX4_takes_32 : decode cX4_takes 32 = .ok (.iconst 0, 1) := by decide +kernel
theorem dX4_takes_33 : decode cX4_takes 33 = .ok (.ireturn, 1) := by decide +kernel
theorem dX4_takesSecond_0 : decode cX4_takesSecond 0 = .ok (.aload_n 0, 1) := by decide +kernel
theorem dX4_takesSecond_1 : decode cX4_takesSecond 1 = .ok (.iconst 0, 1) := by decide +kernel
theorem dX4_takesSecond_2 : decode cX4_takesSecond 2 = .ok (.putfield 22, 3) := by decide +kernel
theorem dX4_takesSecond_5 : decode cX4_takesSecond 5 = .ok (.iload_n 1, 1) := by decide +kernel
theorem dX4_takesSecond_6 : decode cX4_takesSecond 6 = .ok (.lookupswitch 56 #[(70, 54), (71, 54), (85, 42), (88, 54)], 42) := by decide +kernel
theorem dX4_takesSecond_48 : decode cX4_takesSecond 48 = .ok (.aload_n 0, 1) := by decide +kernel
theorem dX4_takesSecond_49 : decode cX4_takesSecond 49 = .ok (.dup, 1) := by decide +kernel
theorem dX4_takesSecond_50 : decode cX4_takesSecond 50 = .ok (.getfield 19, 3) := by decide +kernel
theorem dX4_takesSecond_53 : decode cX4_takesSecond 53 = .ok (.iconst 1, 1) := by decide +kernel
theorem dX4_takesSecond_54 : decode cX4_takesSecond 54 = .ok (.iadd, 1) := by decide +kernel
theorem dX4_takesSecond_55 : decode cX4_takesSecond 55 = .ok (.putfield 19, 3) := by decide +kernel
theorem dX4_takesSecond_58 : decode cX4_takesSecond 58 = .ok (.iconst 1, 1) := by decide +kernel
theorem dX4_takesSecond_59 : decode cX4_takesSecond 59 = .ok (.ireturn, 1) := by decide +kernel
theorem dX4_takesSecond_60 : decode cX4_takesSecond 60 = .ok (.iconst 1, 1) := by decide +kernel
theorem dX4_takesSecond_61 : decode cX4_takesSecond 61 = .ok (.ireturn, 1) := by decide +kernel
theorem dX4_takesSecond_62 : decode cX4_takesSecond 62 = .ok (.iconst 0, 1) := by decide +kernel
theorem dX4_takesSecond_63 : decode cX4_takesSecond 63 = .ok (.ireturn, 1) := by decide +kernel
theorem dX4_takesFirst_0 : decode cX4_takesFirst 0 = .ok (.iload_n 1, 1) := by decide +kernel
theorem dX4_takesFirst_1 : decode cX4_takesFirst 1 = .ok (.lookupswitch 124 #[(33, 103), (38, 105), (65, 117), (69, 117), (97, 91), (98, 91), (99, 91), (100, 91), (116, 91), (124, 105)], 91) := by decide +kernel
theorem dX4_takesFirst_92 : decode cX4_takesFirst 92 = .ok (.aload_n 0, 1) := by decide +kernel
theorem dX4_takesFirst_93 : decode cX4_takesFirst 93 = .ok (.dup, 1) := by decide +kernel
theorem dX4_takesFirst_94 : decode cX4_takesFirst 94 = .ok (.getfield 19, 3) := by decide +kernel
theorem dX4_takesFirst_97 : decode cX4_takesFirst 97 = .ok (.iconst 1, 1) := by decide +kernel
theorem dX4_takesFirst_98 : decode cX4_takesFirst 98 = .ok (.isub, 1) := by decide +kernel
theorem dX4_takesFirst_99 : decode cX4_takesFirst 99 = .ok (.putfield 19, 3) := by decide +kernel
theorem dX4_takesFirst_102 : decode cX4_takesFirst 102 = .ok (.iconst 1, 1) := by decide +kernel
theorem dX4_takesFirst_103 : decode cX4_takesFirst 103 = .ok (.ireturn, 1) := by decide +kernel
theorem dX4_takesFirst_104 : decode cX4_takesFirst 104 = .ok (.iconst 1, 1) := by decide +kernel
theorem dX4_takesFirst_105 : decode cX4_takesFirst 105 = .ok (.ireturn, 1) := by decide +kernel
theorem dX4_takesFirst_106 : decode cX4_takesFirst 106 = .ok (.aload_n 0, 1) := by decide +kernel
theorem dX4_takesFirst_107 : decode cX4_takesFirst 107 = .ok (.dup, 1) := by decide +kernel
theorem dX4_takesFirst_108 : decode cX4_takesFirst 108 = .ok (.getfield 19, 3) := by decide +kernel
theorem dX4_takesFirst_111 : decode cX4_takesFirst 111 = .ok (.iconst 1, 1) := by decide +kernel
theorem dX4_takesFirst_112 : decode cX4_takesFirst 112 = .ok (.iadd, 1) := by decide +kernel
theorem dX4_takesFirst_113 : decode cX4_takesFirst 113 = .ok (.putfield 19, 3) := by decide +kernel
theorem dX4_takesFirst_116 : decode cX4_takesFirst 116 = .ok (.iconst 1, 1) := by decide +kernel
theorem dX4_takesFirst_117 : decode cX4_takesFirst 117 = .ok (.ireturn, 1) := by decide +kernel
theorem dX4_takesFirst_118 : decode cX4_takesFirst 118 = .ok (.aload_n 0, 1) := by decide +kernel
theorem dX4_takesFirst_119 : decode cX4_takesFirst 119 = .ok (.iconst 1, 1) := by decide +kernel
theorem dX4_takesFirst_120 : decode cX4_takesFirst 120 = .ok (.putfield 22, 3) := by decide +kernel
theorem dX4_takesFirst_123 : decode cX4_takesFirst 123 = .ok (.iconst 1, 1) := by decide +kernel
theorem dX4_takesFirst_124 : decode cX4_takesFirst 124 = .ok (.ireturn, 1) := by decide +kernel
theorem dX4_takesFirst_125 : decode cX4_takesFirst 125 = .ok (.iconst 0, 1) := by decide +kernel
theorem dX4_takesFirst_126 : decode cX4_takesFirst 126 = .ok (.ireturn, 1) := by decide +kernel
theorem dX5_init_0 : decode cX5_init 0 = .ok (.aload_n 0, 1) := by decide +kernel
theorem dX5_init_1 : decode cX5_init 1 = .ok (.invokespecial 3, 3) := by decide +kernel
theorem dX5_init_4 : decode cX5_init 4 = .ok (.aload_n 0, 1) := by decide +kernel
theorem dX5_init_5 : decode cX5_init 5 = .ok (.iconst (-1), 1) := by decide +kernel
theorem dX5_init_6 : decode cX5_init 6 = .ok (.putfield 9, 3) := by decide +kernel
theorem dX5_init_9 : decode cX5_init 9 = .ok (.aload_n 0, 1) := by decide +kernel
theorem dX5_init_10 : decode cX5_init 10 = .ok (.iconst (-1), 1) := by decide +kernel
theorem dX5_init_11 : decode cX5_init 11 = .ok (.putfield 15, 3) := by decide +kernel
theorem dX5_init_14 : decode cX5_init 14 = .ok (.aload_n 0, 1) := by decide +kernel
theorem dX5_init_15 : decode cX5_init 15 = .ok (.new 18, 3) := by decide +kernel
theorem dX5_init_18 : decode cX5_init 18 = .ok (.dup, 1) := by decide +kernel
theorem dX5_init_19 : decode cX5_init 19 = .ok (.invokespecial 20, 3) := by decide +kernel
theorem dX5_init_22 : decode cX5_init 22 = .ok (.putfield 21, 3) := by decide +kernel
theorem dX5_init_25 : decode cX5_init 25 = .ok (.aload_n 0, 1) := by decide +kernel
theorem dX5_init_26 : decode cX5_init 26 = .ok (.new 25, 3) := by decide +kernel
theorem dX5_init_29 : decode cX5_init 29 = .ok (.dup, 1) := by decide +kernel
theorem dX5_init_30 : decode cX5_init 30 = .ok (.aload_n 0, 1) := by decide +kernel
theorem dX5_init_31 : decode cX5_init 31 = .ok (.getfield 21, 3) := by decide +kernel
theorem dX5_init_34 : decode cX5_init 34 = .ok (.invokespecial 27, 3) := by decide +kernel
theorem dX5_init_37 : decode cX5_init 37 = .ok (.putfield 30, 3) := by decide +kernel
theorem dX5_init_40 : decode cX5_init 40 = .ok (.return_, 1) := by decide +kernel
theorem dX5_worldsIfFair_0 : decode cX5_worldsIfFair 0 = .ok (.aload_n 0, 1) := by decide +kernel
theorem dX5_worldsIfFair_1 : decode cX5_worldsIfFair 1 = .ok (.aload_n 1, 1) := by decide +kernel
theorem dX5_worldsIfFair_2 : decode cX5_worldsIfFair 2 = .ok (.iload_n 2, 1) := by decide +kernel
theorem dX5_worldsIfFair_3 : decode cX5_worldsIfFair 3 = .ok (.invokevirtual 34, 3) := by decide +kernel
theorem dX5_worldsIfFair_6 : decode cX5_worldsIfFair 6 = .ok (.aload_n 0, 1) := by decide +kernel
theorem dX5_worldsIfFair_7 : decode cX5_worldsIfFair 7 = .ok (.getfield 21, 3) := by decide +kernel
theorem dX5_worldsIfFair_10 : decode cX5_worldsIfFair 10 = .ok (.iload_n 3, 1) := by decide +kernel
theorem dX5_worldsIfFair_11 : decode cX5_worldsIfFair 11 = .ok (.putfield 57, 3) := by decide +kernel
theorem dX5_worldsIfFair_14 : decode cX5_worldsIfFair 14 = .ok (.aload_n 0, 1) := by decide +kernel
theorem dX5_worldsIfFair_15 : decode cX5_worldsIfFair 15 = .ok (.getfield 30, 3) := by decide +kernel
theorem dX5_worldsIfFair_18 : decode cX5_worldsIfFair 18 = .ok (.invokevirtual 48, 3) := by decide +kernel
theorem dX5_worldsIfFair_21 : decode cX5_worldsIfFair 21 = .ok (.aload_n 0, 1) := by decide +kernel
theorem dX5_worldsIfFair_22 : decode cX5_worldsIfFair 22 = .ok (.getfield 30, 3) := by decide +kernel
theorem dX5_worldsIfFair_25 : decode cX5_worldsIfFair 25 = .ok (.getfield 38, 3) := by decide +kernel
theorem dX5_worldsIfFair_28 : decode cX5_worldsIfFair 28 = .ok (.ifCond .ne 7, 3) := by decide +kernel
theorem dX5_worldsIfFair_31 : decode cX5_worldsIfFair 31 = .ok (.iconst (-1), 1) := by decide +kernel
theorem dX5_worldsIfFair_32 : decode cX5_worldsIfFair 32 = .ok (.goto 11, 3) := by decide +kernel
theorem dX5_worldsIfFair_35 : decode cX5_worldsIfFair 35 = .ok (.aload_n 0, 1) := by decide +kernel
theorem dX5_worldsIfFair_36 : decode cX5_worldsIfFair 36 = .ok (.getfield 30, 3) := by decide +kernel
theorem dX5_worldsIfFair_39 : decode cX5_worldsIfFair 39 = .ok (.iconst 0, 1) := by decide +kernel
theorem dX5_worldsIfFair_40 : decode cX5_worldsIfFair 40 = .ok (.invokevirtual 60, 3) := by decide +kernel
theorem dX5_worldsIfFair_43 : decode cX5_worldsIfFair 43 = .ok (.ireturn, 1) := by decide +kernel
theorem dX5_begin_0 : decode cX5_begin 0 = .ok (.aload_n 0, 1) := by decide +kernel
theorem dX5_begin_1 : decode cX5_begin 1 = .ok (.getfield 21, 3) := by decide +kernel
theorem dX5_begin_4 : decode cX5_begin 4 = .ok (.aload_n 1, 1) := by decide +kernel
theorem dX5_begin_5 : decode cX5_begin 5 = .ok (.invokevirtual 64, 3) := by decide +kernel
theorem dX5_begin_8 : decode cX5_begin 8 = .ok (.aload_n 0, 1) := by decide +kernel
theorem dX5_begin_9 : decode cX5_begin 9 = .ok (.getfield 30, 3) := by decide +kernel
theorem dX5_begin_12 : decode cX5_begin 12 = .ok (.iload_n 2, 1) := by decide +kernel
theorem dX5_begin_13 : decode cX5_begin 13 = .ok (.invokevirtual 67, 3) := by decide +kernel
theorem dX5_begin_16 : decode cX5_begin 16 = .ok (.aload_n 0, 1) := by decide +kernel
theorem dX5_begin_17 : decode cX5_begin 17 = .ok (.aload_n 0, 1) := by decide +kernel
theorem dX5_begin_18 : decode cX5_begin 18 = .ok (.getfield 30, 3) := by decide +kernel
theorem dX5_begin_21 : decode cX5_begin 21 = .ok (.getfield 38, 3) := by decide +kernel
theorem dX5_begin_24 : decode cX5_begin 24 = .ok (.ifCond .ne 7, 3) := by decide +kernel
theorem dX5_begin_27 : decode cX5_begin 27 = .ok (.iconst (-1), 1) := by decide +kernel
theorem dX5_begin_28 : decode cX5_begin 28 = .ok (.goto 4, 3) := by decide +kernel
theorem dX5_begin_31 : decode cX5_begin 31 = .ok (.iconst 0, 1) := by decide +kernel
theorem dX5_begin_32 : decode cX5_begin 32 = .ok (.putfield 9, 3) := by decide +kernel
theorem dX5_begin_35 : decode cX5_begin 35 = .ok (.aload_n 0, 1) := by decide +kernel
theorem dX5_begin_36 : decode cX5_begin 36 = .ok (.iconst (-1), 1) := by decide +kernel
theorem dX5_begin_37 : decode cX5_begin 37 = .ok (.putfield 15, 3) := by decide +kernel
theorem dX5_begin_40 : decode cX5_begin 40 = .ok (.return_, 1) := by decide +kernel
theorem dX6_init_0 : decode cX6_init 0 = .ok (.aload_n 0, 1) := by decide +kernel
theorem dX6_init_1 : decode cX6_init 1 = .ok (.invokespecial 3, 3) := by decide +kernel
theorem dX6_init_4 : decode cX6_init 4 = .ok (.aload_n 0, 1) := by decide +kernel
theorem dX6_init_5 : decode cX6_init 5 = .ok (.bipush 111, 2) := by decide +kernel
theorem dX6_init_7 : decode cX6_init 7 = .ok (.newarray .int, 2) := by decide +kernel
theorem dX6_init_9 : decode cX6_init 9 = .ok (.putfield 9, 3) := by decide +kernel
theorem dX6_init_12 : decode cX6_init 12 = .ok (.aload_n 0, 1) := by decide +kernel
theorem dX6_init_13 : decode cX6_init 13 = .ok (.iconst 0, 1) := by decide +kernel
theorem dX6_init_14 : decode cX6_init 14 = .ok (.putfield 15, 3) := by decide +kernel
theorem dX6_init_17 : decode cX6_init 17 = .ok (.aload_n 0, 1) := by decide +kernel
theorem dX6_init_18 : decode cX6_init 18 = .ok (.bipush 11, 2) := by decide +kernel
theorem dX6_init_20 : decode cX6_init 20 = .ok (.newarray .int, 2) := by decide +kernel
theorem dX6_init_22 : decode cX6_init 22 = .ok (.putfield 19, 3) := by decide +kernel
theorem dX6_init_25 : decode cX6_init 25 = .ok (.aload_n 0, 1) := by decide +kernel
theorem dX6_init_26 : decode cX6_init 26 = .ok (.aload_n 1, 1) := by decide +kernel
theorem dX6_init_27 : decode cX6_init 27 = .ok (.putfield 22, 3) := by decide +kernel
theorem dX6_init_30 : decode cX6_init 30 = .ok (.aload_n 0, 1) := by decide +kernel
theorem dX6_init_31 : decode cX6_init 31 = .ok (.aload_n 1, 1) := by decide +kernel
theorem dX6_init_32 : decode cX6_init 32 = .ok (.getfield 26, 3) := by decide +kernel
theorem dX6_init_35 : decode cX6_init 35 = .ok (.putfield 32, 3) := by decide +kernel
theorem dX6_init_38 : decode cX6_init 38 = .ok (.return_, 1) := by decide +kernel
theorem dX7_init_0 : decode cX7_init 0 = .ok (.aload_n 0, 1) := by decide +kernel
theorem dX7_init_1 : decode cX7_init 1 = .ok (.invokespecial 1, 3) := by decide +kernel
theorem dX7_init_4 : decode cX7_init 4 = .ok (.aload_n 0, 1) := by decide +kernel
theorem dX7_init_5 : decode cX7_init 5 = .ok (.new 7, 3) := by decide +kernel
theorem dX7_init_8 : decode cX7_init 8 = .ok (.dup, 1) := by decide +kernel
theorem dX7_init_9 : decode cX7_init 9 = .ok (.invokespecial 9, 3) := by decide +kernel
theorem dX7_init_12 : decode cX7_init 12 = .ok (.putfield 10, 3) := by decide +kernel
theorem dX7_init_15 : decode cX7_init 15 = .ok (.aload_n 0, 1) := by decide +kernel
theorem dX7_init_16 : decode cX7_init 16 = .ok (.new 16, 3) := by decide +kernel
theorem dX7_init_19 : decode cX7_init 19 = .ok (.dup, 1) := by decide +kernel
theorem dX7_init_20 : decode cX7_init 20 = .ok (.invokespecial 18, 3) := by decide +kernel
theorem dX7_init_23 : decode cX7_init 23 = .ok (.putfield 19, 3) := by decide +kernel
theorem dX7_init_26 : decode cX7_init 26 = .ok (.aload_n 0, 1) := by decide +kernel
theorem dX7_init_27 : decode cX7_init 27 = .ok (.new 23, 3) := by decide +kernel
theorem dX7_init_30 : decode cX7_init 30 = .ok (.dup, 1) := by decide +kernel
theorem dX7_init_31 : decode cX7_init 31 = .ok (.invokespecial 25, 3) := by decide +kernel
theorem dX7_init_34 : decode cX7_init 34 = .ok (.putfield 26, 3) := by decide +kernel
theorem dX7_init_37 : decode cX7_init 37 = .ok (.aload_n 0, 1) := by decide +kernel
theorem dX7_init_38 : decode cX7_init 38 = .ok (.new 30, 3) := by decide +kernel
theorem dX7_init_41 : decode cX7_init 41 = .ok (.dup, 1) := by decide +kernel
theorem dX7_init_42 : decode cX7_init 42 = .ok (.aload_n 0, 1) := by decide +kernel
theorem dX7_init_43 : decode cX7_init 43 = .ok (.getfield 10, 3) := by decide +kernel
theorem dX7_init_46 : decode cX7_init 46 = .ok (.invokespecial 32, 3) := by decide +kernel
theorem dX7_init_49 : decode cX7_init 49 = .ok (.putfield 35, 3) := by decide +kernel
theorem dX7_init_52 : decode cX7_init 52 = .ok (.aload_n 0, 1) := by decide +kernel
theorem dX7_init_53 : decode cX7_init 53 = .ok (.new 39, 3) := by decide +kernel
theorem dX7_init_56 : decode cX7_init 56 = .ok (.dup, 1) := by decide +kernel
theorem dX7_init_57 : decode cX7_init 57 = .ok (.aload_n 0, 1) := by decide +kernel
theorem dX7_init_58 : decode cX7_init 58 = .ok (.getfield 35, 3) := by decide +kernel
theorem dX7_init_61 : decode cX7_init 61 = .ok (.invokespecial 41, 3) := by decide +kernel
theorem dX7_init_64 : decode cX7_init 64 = .ok (.putfield 44, 3) := by decide +kernel
theorem dX7_init_67 : decode cX7_init 67 = .ok (.aload_n 0, 1) := by decide +kernel
theorem dX7_init_68 : decode cX7_init 68 = .ok (.new 48, 3) := by decide +kernel
theorem dX7_init_71 : decode cX7_init 71 = .ok (.dup, 1) := by decide +kernel
theorem dX7_init_72 : decode cX7_init 72 = .ok (.invokespecial 50, 3) := by decide +kernel
theorem dX7_init_75 : decode cX7_init 75 = .ok (.putfield 51, 3) := by decide +kernel
theorem dX7_init_78 : decode cX7_init 78 = .ok (.return_, 1) := by decide +kernel
theorem dX7_addWorld_0 : decode cX7_addWorld 0 = .ok (.iload_n 1, 1) := by decide +kernel
theorem dX7_addWorld_1 : decode cX7_addWorld 1 = .ok (.ifCond .lt 9, 3) := by decide +kernel
theorem dX7_addWorld_4 : decode cX7_addWorld 4 = .ok (.iload_n 1, 1) := by decide +kernel
theorem dX7_addWorld_5 : decode cX7_addWorld 5 = .ok (.bipush 15, 2) := by decide +kernel
theorem dX7_addWorld_7 : decode cX7_addWorld 7 = .ok (.if_icmp .le 13, 3) := by decide +kernel
theorem dX7_addWorld_10 : decode cX7_addWorld 10 = .ok (.new 55, 3) := by decide +kernel
theorem dX7_addWorld_13 : decode cX7_addWorld 13 = .ok (.dup, 1) := by decide +kernel
theorem dX7_addWorld_14 : decode cX7_addWorld 14 = .ok (.ldc 57, 2) := by decide +kernel
theorem dX7_addWorld_16 : decode cX7_addWorld 16 = .ok (.invokespecial 59, 3) := by decide +kernel
theorem dX7_addWorld_19 : decode cX7_addWorld 19 = .ok (.athrow, 1) := by decide +kernel
theorem dX7_addWorld_20 : decode cX7_addWorld 20 = .ok (.aload_n 0, 1) := by decide +kernel
theorem dX7_addWorld_21 : decode cX7_addWorld 21 = .ok (.getfield 10, 3) := by decide +kernel
theorem dX7_addWorld_24 : decode cX7_addWorld 24 = .ok (.getfield 62, 3) := by decide +kernel
theorem dX7_addWorld_27 : decode cX7_addWorld 27 = .ok (.bipush 10, 2) := by decide +kernel
theorem dX7_addWorld_29 : decode cX7_addWorld 29 = .ok (.if_icmp .lt 13, 3) := by decide +kernel
theorem dX7_addWorld_32 : decode cX7_addWorld 32 = .ok (.new 66, 3) := by decide +kernel
theorem dX7_addWorld_35 : decode cX7_addWorld 35 = .ok (.dup, 1) := by decide +kernel
theorem dX7_addWorld_36 : decode cX7_addWorld 36 = .ok (.ldc 68, 2) := by decide +kernel
theorem dX7_addWorld_38 : decode cX7_addWorld 38 = .ok (.invokespecial 70, 3) := by decide +kernel
theorem dX7_addWorld_41 : decode cX7_addWorld 41 = .ok (.athrow, 1) := by decide +kernel
theorem dX7_addWorld_42 : decode cX7_addWorld 42 = .ok (.aload_n 0, 1) := by decide +kernel
theorem dX7_addWorld_43 : decode cX7_addWorld 43 = .ok (.getfield 19, 3) := by decide +kernel
theorem dX7_addWorld_46 : decode cX7_addWorld 46 = .ok (.aload_n 0, 1) := by decide +kernel
theorem dX7_addWorld_47 : decode cX7_addWorld 47 = .ok (.getfield 10, 3) := by decide +kernel
theorem dX7_addWorld_50 : decode cX7_addWorld 50 = .ok (.invokevirtual 71, 3) := by decide +kernel
theorem dX7_addWorld_53 : decode cX7_addWorld 53 = .ok (.aload_n 0, 1) := by decide +kernel
theorem dX7_addWorld_54 : decode cX7_addWorld 54 = .ok (.getfield 10, 3) := by decide +kernel
theorem dX7_addWorld_57 : decode cX7_addWorld 57 = .ok (.iload_n 1, 1) := by decide +kernel
theorem dX7_addWorld_58 : decode cX7_addWorld 58 = .ok (.invokevirtual 74, 3) := by decide +kernel
theorem dX7_addWorld_61 : decode cX7_addWorld 61 = .ok (.ireturn, 1) := by decide +kernel
theorem dX7_step_0 : decode cX7_step 0 = .ok (.aload_n 0, 1) := by decide +kernel
theorem dX7_step_1 : decode cX7_step 1 = .ok (.iload_n 1, 1) := by decide +kernel
theorem dX7_step_2 : decode cX7_step 2 = .ok (.invokevirtual 78, 3) := by decide +kernel
theorem dX7_step_5 : decode cX7_step 5 = .ok (.aload_n 0, 1) := by decide +kernel
theorem dX7_step_6 : decode cX7_step 6 = .ok (.iload_n 2, 1) := by decide +kernel
theorem dX7_step_7 : decode cX7_step 7 = .ok (.invokevirtual 78, 3) := by decide +kernel
theorem dX7_step_10 : decode cX7_step 10 = .ok (.aload_n 0, 1) := by decide +kernel
theorem dX7_step_11 : decode cX7_step 11 = .ok (.getfield 19, 3) := by decide +kernel
theorem dX7_step_14 : decode cX7_step 14 = .ok (.aload_n 0, 1) := by decide +kernel
theorem dX7_step_15 : decode cX7_step 15 = .ok (.getfield 10, 3) := by decide +kernel
theorem dX7_step_18 : decode cX7_step 18 = .ok (.invokevirtual 71, 3) := by decide +kernel
theorem dX7_step_21 : decode cX7_step 21 = .ok (.aload_n 0, 1) := by decide +kernel
theorem dX7_step_22 : decode cX7_step 22 = .ok (.getfield 10, 3) := by decide +kernel
theorem dX7_step_25 : decode cX7_step 25 = .ok (.iload_n 1, 1) := by decide +kernel
theorem dX7_step_26 : decode cX7_step 26 = .ok (.iload_n 2, 1) := by decide +kernel
theorem dX7_step_27 : decode cX7_step 27 = .ok (.invokevirtual 85, 3) := by decide +kernel
theorem dX7_step_30 : decode cX7_step 30 = .ok (.aload_n 0, 1) := by decide +kernel
theorem dX7_step_31 : decode cX7_step 31 = .ok (.getfield 10, 3) := by decide +kernel
theorem dX7_step_34 : decode cX7_step 34 = .ok (.iload_n 1, 1) := by decide +kernel
theorem dX7_step_35 : decode cX7_step 35 = .ok (.invokevirtual 89, 3) := by decide +kernel
theorem dX7_step_38 : decode cX7_step 38 = .ok (.iload_n 2, 1) := by decide +kernel
theorem dX7_step_39 : decode cX7_step 39 = .ok (.ishr, 1) := by decide +kernel
theorem dX7_step_40 : decode cX7_step 40 = .ok (.iconst 1, 1) := by decide +kernel
theorem dX7_step_41 : decode cX7_step 41 = .ok (.iand, 1) := by decide +kernel
theorem dX7_step_42 : decode cX7_step 42 = .ok (.ireturn, 1) := by decide +kernel
theorem dX7_fair_0 : decode cX7_fair 0 = .ok (.iload_n 1, 1) := by decide +kernel
theorem dX7_fair_1 : decode cX7_fair 1 = .ok (.invokestatic 100, 3) := by decide +kernel
theorem dX7_fair_4 : decode cX7_fair 4 = .ok (.aload_n 0, 1) := by decide +kernel
theorem dX7_fair_5 : decode cX7_fair 5 = .ok (.getfield 19, 3) := by decide +kernel
theorem dX7_fair_8 : decode cX7_fair 8 = .ok (.aload_n 0, 1) := by decide +kernel
theorem dX7_fair_9 : decode cX7_fair 9 = .ok (.getfield 10, 3) := by decide +kernel
theorem dX7_fair_12 : decode cX7_fair 12 = .ok (.invokevirtual 71, 3) := by decide +kernel
theorem dX7_fair_15 : decode cX7_fair 15 = .ok (.aload_n 0, 1) := by decide +kernel
theorem dX7_fair_16 : decode cX7_fair 16 = .ok (.getfield 10, 3) := by decide +kernel
theorem dX7_fair_19 : decode cX7_fair 19 = .ok (.getfield 103, 3) := by decide +kernel
theorem dX7_fair_22 : decode cX7_fair 22 = .ok (.istore_n 2, 1) := by decide +kernel
theorem dX7_fair_23 : decode cX7_fair 23 = .ok (.aload_n 0, 1) := by decide +kernel
theorem dX7_fair_24 : decode cX7_fair 24 = .ok (.getfield 10, 3) := by decide +kernel
theorem dX7_fair_27 : decode cX7_fair 27 = .ok (.iload_n 1, 1) := by decide +kernel
theorem dX7_fair_28 : decode cX7_fair 28 = .ok (.putfield 103, 3) := by decide +kernel
theorem dX7_fair_31 : decode cX7_fair 31 = .ok (.iload_n 2, 1) := by decide +kernel
theorem dX7_fair_32 : decode cX7_fair 32 = .ok (.ireturn, 1) := by decide +kernel
theorem dX7_append_0 : decode cX7_append 0 = .ok (.iload_n 1, 1) := by decide +kernel
theorem dX7_append_1 : decode cX7_append 1 = .ok (.bipush 33, 2) := by decide +kernel
theorem dX7_append_3 : decode cX7_append 3 = .ok (.if_icmp .lt 9, 3) := by decide +kernel
theorem dX7_append_6 : decode cX7_append 6 = .ok (.iload_n 1, 1) := by decide +kernel
theorem dX7_append_7 : decode cX7_append 7 = .ok (.bipush 126, 2) := by decide +kernel
theorem dX7_append_9 : decode cX7_append 9 = .ok (.if_icmp .le 13, 3) := by decide +kernel
theorem dX7_append_12 : decode cX7_append 12 = .ok (.new 55, 3) := by decide +kernel
theorem dX7_append_15 : decode cX7_append 15 = .ok (.dup, 1) := by decide +kernel
theorem dX7_append_16 : decode cX7_append 16 = .ok (.ldc 113, 2) := by decide +kernel
theorem dX7_append_18 : decode cX7_append 18 = .ok (.invokespecial 59, 3) := by decide +kernel
theorem dX7_append_21 : decode cX7_append 21 = .ok (.athrow, 1) := by decide +kernel
theorem dX7_append_22 : decode cX7_append 22 = .ok (.aload_n 0, 1) := by decide +kernel
theorem dX7_append_23 : decode cX7_append 23 = .ok (.getfield 26, 3) := by decide +kernel
theorem dX7_append_26 : decode cX7_append 26 = .ok (.getfield 115, 3) := by decide +kernel
theorem dX7_append_29 : decode cX7_append 29 = .ok (.bipush 60, 2) := by decide +kernel
theorem dX7_append_31 : decode cX7_append 31 = .ok (.if_icmp .lt 13, 3) := by decide +kernel
theorem dX7_append_34 : decode cX7_append 34 = .ok (.new 66, 3) := by decide +kernel
theorem dX7_append_37 : decode cX7_append 37 = .ok (.dup, 1) := by decide +kernel
theorem dX7_append_38 : decode cX7_append 38 = .ok (.ldc 118, 2) := by decide +kernel
theorem dX7_append_40 : decode cX7_append 40 = .ok (.invokespecial 70, 3) := by decide +kernel
theorem dX7_append_43 : decode cX7_append 43 = .ok (.athrow, 1) := by decide +kernel
theorem dX7_append_44 : decode cX7_append 44 = .ok (.aload_n 0, 1) := by decide +kernel
theorem dX7_append_45 : decode cX7_append 45 = .ok (.getfield 26, 3) := by decide +kernel
theorem dX7_append_48 : decode cX7_append 48 = .ok (.iload_n 1, 1) := by decide +kernel
theorem dX7_append_49 : decode cX7_append 49 = .ok (.i2c, 1) := by decide +kernel
theorem dX7_append_50 : decode cX7_append 50 = .ok (.invokevirtual 120, 3) := by decide +kernel
theorem dX7_append_53 : decode cX7_append 53 = .ok (.aload_n 0, 1) := by decide +kernel
theorem dX7_append_54 : decode cX7_append 54 = .ok (.getfield 26, 3) := by decide +kernel
theorem dX7_append_57 : decode cX7_append 57 = .ok (.getfield 115, 3) := by decide +kernel
theorem dX7_append_60 : decode cX7_append 60 = .ok (.ireturn, 1) := by decide +kernel
theorem dX7_firstError_0 : decode cX7_firstError 0 = .ok (.aload_n 0, 1) := by decide +kernel
theorem dX7_firstError_1 : decode cX7_firstError 1 = .ok (.getfield 26, 3) := by decide +kernel
theorem dX7_firstError_4 : decode cX7_firstError 4 = .ok (.invokevirtual 124, 3) := by decide +kernel
theorem dX7_firstError_7 : decode cX7_firstError 7 = .ok (.ireturn, 1) := by decide +kernel
theorem dX7_read_0 : decode cX7_read 0 = .ok (.iload_n 1, 1) := by decide +kernel
theorem dX7_read_1 : decode cX7_read 1 = .ok (.invokestatic 127, 3) := by decide +kernel
theorem dX7_read_4 : decode cX7_read 4 = .ok (.aload_n 0, 1) := by decide +kernel
theorem dX7_read_5 : decode cX7_read 5 = .ok (.getfield 26, 3) := by decide +kernel
theorem dX7_read_8 : decode cX7_read 8 = .ok (.invokevirtual 130, 3) := by decide +kernel
theorem dX7_read_11 : decode cX7_read 11 = .ok (.ifCond .ne 13, 3) := by decide +kernel
theorem dX7_read_14 : decode cX7_read 14 = .ok (.new 55, 3) := by decide +kernel
theorem dX7_read_17 : decode cX7_read 17 = .ok (.dup, 1) := by decide +kernel
theorem dX7_read_18 : decode cX7_read 18 = .ok (.ldc 134, 2) := by decide +kernel
theorem dX7_read_20 : decode cX7_read 20 = .ok (.invokespecial 59, 3) := by decide +kernel
theorem dX7_read_23 : decode cX7_read 23 = .ok (.athrow, 1) := by decide +kernel
theorem dX7_read_24 : decode cX7_read 24 = .ok (.aload_n 0, 1) := by decide +kernel
theorem dX7_read_25 : decode cX7_read 25 = .ok (.getfield 19, 3) := by decide +kernel
theorem dX7_read_28 : decode cX7_read 28 = .ok (.aload_n 0, 1) := by decide +kernel
theorem dX7_read_29 : decode cX7_read 29 = .ok (.getfield 10, 3) := by decide +kernel
theorem dX7_read_32 : decode cX7_read 32 = .ok (.invokevirtual 71, 3) := by decide +kernel
theorem dX7_read_35 : decode cX7_read 35 = .ok (.aload_n 0, 1) := by decide +kernel
theorem dX7_read_36 : decode cX7_read 36 = .ok (.getfield 10, 3) := by decide +kernel
theorem dX7_read_39 : decode cX7_read 39 = .ok (.iload_n 1, 1) := by decide +kernel
theorem dX7_read_40 : decode cX7_read 40 = .ok (.aload_n 0, 1) := by decide +kernel
theorem dX7_read_41 : decode cX7_read 41 = .ok (.getfield 26, 3) := by decide +kernel
theorem dX7_read_44 : decode cX7_read 44 = .ok (.invokevirtual 136, 3) := by decide +kernel
theorem dX7_read_47 : decode cX7_read 47 = .ok (.aload_n 0, 1) := by decide +kernel
theorem dX7_read_48 : decode cX7_read 48 = .ok (.getfield 26, 3) := by decide +kernel
theorem dX7_read_51 : decode cX7_read 51 = .ok (.iconst 0, 1) := by decide +kernel
theorem dX7_read_52 : decode cX7_read 52 = .ok (.putfield 115, 3) := by decide +kernel
theorem dX7_read_55 : decode cX7_read 55 = .ok (.aload_n 0, 1) := by decide +kernel
theorem dX7_read_56 : decode cX7_read 56 = .ok (.getfield 10, 3) := by decide +kernel
theorem dX7_read_59 : decode cX7_read 59 = .ok (.iload_n 1, 1) := by decide +kernel
theorem dX7_read_60 : decode cX7_read 60 = .ok (.invokevirtual 140, 3) := by decide +kernel
theorem dX7_read_63 : decode cX7_read 63 = .ok (.ireturn, 1) := by decide +kernel
theorem dX7_negate_0 : decode cX7_negate 0 = .ok (.iload_n 1, 1) := by decide +kernel
theorem dX7_negate_1 : decode cX7_negate 1 = .ok (.invokestatic 127, 3) := by decide +kernel
theorem dX7_negate_4 : decode cX7_negate 4 = .ok (.aload_n 0, 1) := by decide +kernel
theorem dX7_negate_5 : decode cX7_negate 5 = .ok (.getfield 10, 3) := by decide +kernel
theorem dX7_negate_8 : decode cX7_negate 8 = .ok (.iload_n 1, 1) := by decide +kernel
theorem dX7_negate_9 : decode cX7_negate 9 = .ok (.iconst 0, 1) := by decide +kernel
theorem dX7_negate_10 : decode cX7_negate 10 = .ok (.invokevirtual 143, 3) := by decide +kernel
theorem dX7_negate_13 : decode cX7_negate 13 = .ok (.bipush 33, 2) := by decide +kernel
theorem dX7_negate_15 : decode cX7_negate 15 = .ok (.if_icmp .ne 7, 3) := by decide +kernel
theorem dX7_negate_18 : decode cX7_negate 18 = .ok (.iconst 1, 1) := by decide +kernel
theorem dX7_negate_19 : decode cX7_negate 19 = .ok (.goto 4, 3) := by decide +kernel
theorem dX7_negate_22 : decode cX7_negate 22 = .ok (.iconst 0, 1) := by decide +kernel
theorem dX7_negate_23 : decode cX7_negate 23 = .ok (.istore_n 2, 1) := by decide +kernel
theorem dX7_negate_24 : decode cX7_negate 24 = .ok (.aload_n 0, 1) := by decide +kernel
theorem dX7_negate_25 : decode cX7_negate 25 = .ok (.getfield 10, 3) := by decide +kernel
theorem dX7_negate_28 : decode cX7_negate 28 = .ok (.iload_n 1, 1) := by decide +kernel
theorem dX7_negate_29 : decode cX7_negate 29 = .ok (.invokevirtual 140, 3) := by decide +kernel
theorem dX7_negate_32 : decode cX7_negate 32 = .ok (.istore_n 3, 1) := by decide +kernel
theorem dX7_negate_33 : decode cX7_negate 33 = .ok (.iload_n 3, 1) := by decide +kernel
theorem dX7_negate_34 : decode cX7_negate 34 = .ok (.ifCond .eq 13, 3) := by decide +kernel
theorem dX7_negate_37 : decode cX7_negate 37 = .ok (.iload_n 2, 1) := by decide +kernel
theorem dX7_negate_38 : decode cX7_negate 38 = .ok (.ifCond .ne 19, 3) := by decide +kernel
theorem dX7_negate_41 : decode cX7_negate 41 = .ok (.iload_n 3, 1) := by decide +kernel
theorem dX7_negate_42 : decode cX7_negate 42 = .ok (.bipush 40, 2) := by decide +kernel
theorem dX7_negate_44 : decode cX7_negate 44 = .ok (.if_icmp .lt 13, 3) := by decide +kernel
theorem dX7_negate_47 : decode cX7_negate 47 = .ok (.new 66, 3) := by decide +kernel
theorem dX7_negate_50 : decode cX7_negate 50 = .ok (.dup, 1) := by decide +kernel
theorem dX7_negate_51 : decode cX7_negate 51 = .ok (.ldc 147, 2) := by decide +kernel
theorem dX7_negate_53 : decode cX7_negate 53 = .ok (.invokespecial 70, 3) := by decide +kernel
theorem dX7_negate_56 : decode cX7_negate 56 = .ok (.athrow, 1) := by decide +kernel
theorem dX7_negate_57 : decode cX7_negate 57 = .ok (.aload_n 0, 1) := by decide +kernel
theorem dX7_negate_58 : decode cX7_negate 58 = .ok (.getfield 19, 3) := by decide +kernel
theorem dX7_negate_61 : decode cX7_negate 61 = .ok (.aload_n 0, 1) := by decide +kernel
theorem dX7_negate_62 : decode cX7_negate 62 = .ok (.getfield 10, 3) := by decide +kernel
theorem dX7_negate_65 : decode cX7_negate 65 = .ok (.invokevirtual 71, 3) := by decide +kernel
theorem dX7_negate_68 : decode cX7_negate 68 = .ok (.iload_n 2, 1) := by decide +kernel
theorem dX7_negate_69 : decode cX7_negate 69 = .ok (.ifCond .eq 14, 3) := by decide +kernel
theorem dX7_negate_72 : decode cX7_negate 72 = .ok (.aload_n 0, 1) := by decide +kernel
theorem dX7_negate_73 : decode cX7_negate 73 = .ok (.getfield 10, 3) := by decide +kernel
theorem dX7_negate_76 : decode cX7_negate 76 = .ok (.iload_n 1, 1) := by decide +kernel
theorem dX7_negate_77 : decode cX7_negate 77 = .ok (.invokevirtual 149, 3) := by decide +kernel
theorem dX7_negate_80 : decode cX7_negate 80 = .ok (.goto 11, 3) := by decide +kernel
theorem dX7_negate_83 : decode cX7_negate 83 = .ok (.aload_n 0, 1) := by decide +kernel
theorem dX7_negate_84 : decode cX7_negate 84 = .ok (.getfield 10, 3) := by decide +kernel
theorem dX7_negate_87 : decode cX7_negate 87 = .ok (.iload_n 1, 1) := by decide +kernel
theorem dX7_negate_88 : decode cX7_negate 88 = .ok (.invokevirtual 152, 3) := by decide +kernel
theorem dX7_negate_91 : decode cX7_negate 91 = .ok (.aload_n 0, 1) := by decide +kernel
theorem dX7_negate_92 : decode cX7_negate 92 = .ok (.getfield 10, 3) := by decide +kernel
theorem dX7_negate_95 : decode cX7_negate 95 = .ok (.iload_n 1, 1) := by decide +kernel
theorem dX7_negate_96 : decode cX7_negate 96 = .ok (.invokevirtual 140, 3) := by decide +kernel
theorem dX7_negate_99 : decode cX7_negate 99 = .ok (.ireturn, 1) := by decide +kernel
theorem dX7_undo_0 : decode cX7_undo 0 = .ok (.aload_n 0, 1) := by decide +kernel
theorem dX7_undo_1 : decode cX7_undo 1 = .ok (.getfield 19, 3) := by decide +kernel
theorem dX7_undo_4 : decode cX7_undo 4 = .ok (.getfield 158, 3) := by decide +kernel
theorem dX7_undo_7 : decode cX7_undo 7 = .ok (.ifCond .ne 13, 3) := by decide +kernel
theorem dX7_undo_10 : decode cX7_undo 10 = .ok (.new 66, 3) := by decide +kernel
theorem dX7_undo_13 : decode cX7_undo 13 = .ok (.dup, 1) := by decide +kernel
theorem dX7_undo_14 : decode cX7_undo 14 = .ok (.ldc 161, 2) := by decide +kernel
theorem dX7_undo_16 : decode cX7_undo 16 = .ok (.invokespecial 70, 3) := by decide +kernel
theorem dX7_undo_19 : decode cX7_undo 19 = .ok (.athrow, 1) := by decide +kernel
theorem dX7_undo_20 : decode cX7_undo 20 = .ok (.aload_n 0, 1) := by decide +kernel
theorem dX7_undo_21 : decode cX7_undo 21 = .ok (.getfield 19, 3) := by decide +kernel
theorem dX7_undo_24 : decode cX7_undo 24 = .ok (.aload_n 0, 1) := by decide +kernel
theorem dX7_undo_25 : decode cX7_undo 25 = .ok (.getfield 10, 3) := by decide +kernel
theorem dX7_undo_28 : decode cX7_undo 28 = .ok (.invokevirtual 163, 3) := by decide +kernel
theorem dX7_undo_31 : decode cX7_undo 31 = .ok (.aload_n 0, 1) := by decide +kernel
theorem dX7_undo_32 : decode cX7_undo 32 = .ok (.getfield 19, 3) := by decide +kernel
theorem dX7_undo_35 : decode cX7_undo 35 = .ok (.getfield 158, 3) := by decide +kernel
theorem dX7_undo_38 : decode cX7_undo 38 = .ok (.ireturn, 1) := by decide +kernel
theorem dX7_world_0 : decode cX7_world 0 = .ok (.aload_n 0, 1) := by decide +kernel
theorem dX7_world_1 : decode cX7_world 1 = .ok (.iload_n 1, 1) := by decide +kernel
theorem dX7_world_2 : decode cX7_world 2 = .ok (.invokevirtual 78, 3) := by decide +kernel
theorem dX7_world_5 : decode cX7_world 5 = .ok (.iload_n 2, 1) := by decide +kernel
theorem dX7_world_6 : decode cX7_world 6 = .ok (.iconst 4, 1) := by decide +kernel
theorem dX7_world_7 : decode cX7_world 7 = .ok (.invokestatic 166, 3) := by decide +kernel
theorem dX7_world_10 : decode cX7_world 10 = .ok (.iload_n 2, 1) := by decide +kernel
theorem dX7_world_11 : decode cX7_world 11 = .ok (.tableswitch 70 0 3 #[29, 38, 47, 58], 29) := by decide +kernel
theorem dX7_world_40 : decode cX7_world 40 = .ok (.aload_n 0, 1) := by decide +kernel
theorem dX7_world_41 : decode cX7_world 41 = .ok (.getfield 10, 3) := by decide +kernel
theorem dX7_world_44 : decode cX7_world 44 = .ok (.iload_n 1, 1) := by decide +kernel
theorem dX7_world_45 : decode cX7_world 45 = .ok (.invokevirtual 97, 3) := by decide +kernel
theorem dX7_world_48 : decode cX7_world 48 = .ok (.ireturn, 1) := by decide +kernel
theorem dX7_world_49 : decode cX7_world 49 = .ok (.aload_n 0, 1) := by decide +kernel
theorem dX7_world_50 : decode cX7_world 50 = .ok (.getfield 10, 3) := by decide +kernel
theorem dX7_world_53 : decode cX7_world 53 = .ok (.iload_n 1, 1) := by decide +kernel
theorem dX7_world_54 : decode cX7_world 54 = .ok (.invokevirtual 89, 3) := by decide +kernel
theorem dX7_world_57 : decode cX7_world 57 = .ok (.ireturn, 1) := by decide +kernel
theorem dX7_world_58 : decode cX7_world 58 = .ok (.aload_n 0, 1) := by decide +kernel
theorem dX7_world_59 : decode cX7_world 59 = .ok (.getfield 10, 3) := by decide +kernel
theorem dX7_world_62 : decode cX7_world 62 = .ok (.iconst 1, 1) := by decide +kernel
theorem dX7_world_63 : decode cX7_world 63 = .ok (.iload_n 1, 1) := by decide +kernel
theorem dX7_world_64 : decode cX7_world 64 = .ok (.ishl, 1) := by decide +kernel
theorem dX7_world_65 : decode cX7_world 65 = .ok (.invokevirtual 169, 3) := by decide +kernel
theorem dX7_world_68 : decode cX7_world 68 = .ok (.ireturn, 1) := by decide +kernel
theorem dX7_world_69 : decode cX7_world 69 = .ok (.aload_n 0, 1) := by decide +kernel
theorem dX7_world_70 : decode cX7_world 70 = .ok (.getfield 35, 3) := by decide +kernel
theorem dX7_world_73 : decode cX7_world 73 = .ok (.invokevirtual 172, 3) := by decide +kernel
theorem dX7_world_76 : decode cX7_world 76 = .ok (.iload_n 1, 1) := by decide +kernel
theorem dX7_world_77 : decode cX7_world 77 = .ok (.ishr, 1) := by decide +kernel
theorem dX7_world_78 : decode cX7_world 78 = .ok (.iconst 1, 1) := by decide +kernel
theorem dX7_world_79 : decode cX7_world 79 = .ok (.iand, 1) := by decide +kernel
theorem dX7_world_80 : decode cX7_world 80 = .ok (.ireturn, 1) := by decide +kernel
theorem dX7_world_81 : decode cX7_world 81 = .ok (.aload_n 0, 1) := by decide +kernel
theorem dX7_world_82 : decode cX7_world 82 = .ok (.iload_n 1, 1) := by decide +kernel
theorem dX7_world_83 : decode cX7_world 83 = .ok (.invokevirtual 175, 3) := by decide +kernel
theorem dX7_world_86 : decode cX7_world 86 = .ok (.ireturn, 1) := by decide +kernel
theorem dX7_wish_0 : decode cX7_wish 0 = .ok (.iload_n 1, 1) := by decide +kernel
theorem dX7_wish_1 : decode cX7_wish 1 = .ok (.invokestatic 127, 3) := by decide +kernel
theorem dX7_wish_4 : decode cX7_wish 4 = .ok (.iload_n 2, 1) := by decide +kernel
theorem dX7_wish_5 : decode cX7_wish 5 = .ok (.iconst 3, 1) := by decide +kernel
theorem dX7_wish_6 : decode cX7_wish 6 = .ok (.invokestatic 166, 3) := by decide +kernel
theorem dX7_wish_9 : decode cX7_wish 9 = .ok (.aload_n 0, 1) := by decide +kernel
theorem dX7_wish_10 : decode cX7_wish 10 = .ok (.getfield 35, 3) := by decide +kernel
theorem dX7_wish_13 : decode cX7_wish 13 = .ok (.iload_n 1, 1) := by decide +kernel
theorem dX7_wish_14 : decode cX7_wish 14 = .ok (.invokevirtual 178, 3) := by decide +kernel
theorem dX7_wish_17 : decode cX7_wish 17 = .ok (.pop, 1) := by decide +kernel
theorem dX7_wish_18 : decode cX7_wish 18 = .ok (.aload_n 0, 1) := by decide +kernel
theorem dX7_wish_19 : decode cX7_wish 19 = .ok (.getfield 35, 3) := by decide +kernel
theorem dX7_wish_22 : decode cX7_wish 22 = .ok (.iload_n 2, 1) := by decide +kernel
theorem dX7_wish_23 : decode cX7_wish 23 = .ok (.invokevirtual 181, 3) := by decide +kernel
theorem dX7_wish_26 : decode cX7_wish 26 = .ok (.ireturn, 1) := by decide +kernel
theorem dX7_sign_0 : decode cX7_sign 0 = .ok (.iload_n 1, 1) := by decide +kernel
theorem dX7_sign_1 : decode cX7_sign 1 = .ok (.invokestatic 127, 3) := by decide +kernel
theorem dX7_sign_4 : decode cX7_sign 4 = .ok (.iload_n 2, 1) := by decide +kernel
theorem dX7_sign_5 : decode cX7_sign 5 = .ok (.ifCond .lt 15, 3) := by decide +kernel
theorem dX7_sign_8 : decode cX7_sign 8 = .ok (.iload_n 2, 1) := by decide +kernel
theorem dX7_sign_9 : decode cX7_sign 9 = .ok (.aload_n 0, 1) := by decide +kernel
theorem dX7_sign_10 : decode cX7_sign 10 = .ok (.getfield 10, 3) := by decide +kernel
theorem dX7_sign_13 : decode cX7_sign 13 = .ok (.iload_n 1, 1) := by decide +kernel
theorem dX7_sign_14 : decode cX7_sign 14 = .ok (.invokevirtual 140, 3) := by decide +kernel
theorem dX7_sign_17 : decode cX7_sign 17 = .ok (.if_icmp .lt 13, 3) := by decide +kernel
theorem dX7_sign_20 : decode cX7_sign 20 = .ok (.new 184, 3) := by decide +kernel
theorem dX7_sign_23 : decode cX7_sign 23 = .ok (.dup, 1) := by decide +kernel
theorem dX7_sign_24 : decode cX7_sign 24 = .ok (.ldc 186, 2) := by decide +kernel
theorem dX7_sign_26 : decode cX7_sign 26 = .ok (.invokespecial 188, 3) := by decide +kernel
theorem dX7_sign_29 : decode cX7_sign 29 = .ok (.athrow, 1) := by decide +kernel
theorem dX7_sign_30 : decode cX7_sign 30 = .ok (.iload_n 3, 1) := by decide +kernel
theorem dX7_sign_31 : decode cX7_sign 31 = .ok (.iconst 3, 1) := by decide +kernel
theorem dX7_sign_32 : decode cX7_sign 32 = .ok (.invokestatic 166, 3) := by decide +kernel
theorem dX7_sign_35 : decode cX7_sign 35 = .ok (.aload_n 0, 1) := by decide +kernel
theorem dX7_sign_36 : decode cX7_sign 36 = .ok (.getfield 35, 3) := by decide +kernel
theorem dX7_sign_39 : decode cX7_sign 39 = .ok (.iload_n 1, 1) := by decide +kernel
theorem dX7_sign_40 : decode cX7_sign 40 = .ok (.invokevirtual 178, 3) := by decide +kernel
theorem dX7_sign_43 : decode cX7_sign 43 = .ok (.pop, 1) := by decide +kernel
theorem dX7_sign_44 : decode cX7_sign 44 = .ok (.aload_n 0, 1) := by decide +kernel
theorem dX7_sign_45 : decode cX7_sign 45 = .ok (.getfield 35, 3) := by decide +kernel
theorem dX7_sign_48 : decode cX7_sign 48 = .ok (.iload_n 2, 1) := by decide +kernel
theorem dX7_sign_49 : decode cX7_sign 49 = .ok (.iload_n 3, 1) := by decide +kernel
theorem dX7_sign_50 : decode cX7_sign 50 = .ok (.invokevirtual 189, 3) := by decide +kernel
theorem dX7_sign_53 : decode cX7_sign 53 = .ok (.ireturn, 1) := by decide +kernel
theorem dX7_compare_0 : decode cX7_compare 0 = .ok (.iload_n 1, 1) := by decide +kernel
theorem dX7_compare_1 : decode cX7_compare 1 = .ok (.invokestatic 127, 3) := by decide +kernel
theorem dX7_compare_4 : decode cX7_compare 4 = .ok (.iload_n 2, 1) := by decide +kernel
theorem dX7_compare_5 : decode cX7_compare 5 = .ok (.invokestatic 127, 3) := by decide +kernel
theorem dX7_compare_8 : decode cX7_compare 8 = .ok (.aload_n 0, 1) := by decide +kernel
theorem dX7_compare_9 : decode cX7_compare 9 = .ok (.getfield 10, 3) := by decide +kernel
theorem dX7_compare_12 : decode cX7_compare 12 = .ok (.iload_n 1, 1) := by decide +kernel
theorem dX7_compare_13 : decode cX7_compare 13 = .ok (.invokevirtual 140, 3) := by decide +kernel
theorem dX7_compare_16 : decode cX7_compare 16 = .ok (.ifCond .eq 14, 3) := by decide +kernel
theorem dX7_compare_19 : decode cX7_compare 19 = .ok (.aload_n 0, 1) := by decide +kernel
theorem dX7_compare_20 : decode cX7_compare 20 = .ok (.getfield 10, 3) := by decide +kernel
theorem dX7_compare_23 : decode cX7_compare 23 = .ok (.iload_n 2, 1) := by decide +kernel
theorem dX7_compare_24 : decode cX7_compare 24 = .ok (.invokevirtual 140, 3) := by decide +kernel
theorem dX7_compare_27 : decode cX7_compare 27 = .ok (.ifCond .ne 5, 3) := by decide +kernel
theorem dX7_compare_30 : decode cX7_compare 30 = .ok (.iconst (-1), 1) := by decide +kernel
theorem dX7_compare_31 : decode cX7_compare 31 = .ok (.ireturn, 1) := by decide +kernel
theorem dX7_compare_32 : decode cX7_compare 32 = .ok (.aload_n 0, 1) := by decide +kernel
theorem dX7_compare_33 : decode cX7_compare 33 = .ok (.getfield 35, 3) := by decide +kernel
theorem dX7_compare_36 : decode cX7_compare 36 = .ok (.iload_n 1, 1) := by decide +kernel
theorem dX7_compare_37 : decode cX7_compare 37 = .ok (.invokevirtual 178, 3) := by decide +kernel
theorem dX7_compare_40 : decode cX7_compare 40 = .ok (.istore_n 3, 1) := by decide +kernel
theorem dX7_compare_41 : decode cX7_compare 41 = .ok (.aload_n 0, 1) := by decide +kernel
theorem dX7_compare_42 : decode cX7_compare 42 = .ok (.getfield 35, 3) := by decide +kernel
theorem dX7_compare_45 : decode cX7_compare 45 = .ok (.iload_n 2, 1) := by decide +kernel
theorem dX7_compare_46 : decode cX7_compare 46 = .ok (.invokevirtual 178, 3) := by decide +kernel
theorem dX7_compare_49 : decode cX7_compare 49 = .ok (.istore 4, 2) := by decide +kernel
theorem dX7_compare_51 : decode cX7_compare 51 = .ok (.iload_n 3, 1) := by decide +kernel
theorem dX7_compare_52 : decode cX7_compare 52 = .ok (.iload 4, 2) := by decide +kernel
theorem dX7_compare_54 : decode cX7_compare 54 = .ok (.if_icmp .ne 5, 3) := by decide +kernel
theorem dX7_compare_57 : decode cX7_compare 57 = .ok (.iconst 0, 1) := by decide +kernel
theorem dX7_compare_58 : decode cX7_compare 58 = .ok (.ireturn, 1) := by decide +kernel
theorem dX7_compare_59 : decode cX7_compare 59 = .ok (.iload_n 3, 1) := by decide +kernel
theorem dX7_compare_60 : decode cX7_compare 60 = .ok (.iload 4, 2) := by decide +kernel
theorem dX7_compare_62 : decode cX7_compare 62 = .ok (.iand, 1) := by decide +kernel
theorem dX7_compare_63 : decode cX7_compare 63 = .ok (.iload_n 3, 1) := by decide +kernel
theorem dX7_compare_64 : decode cX7_compare 64 = .ok (.if_icmp .ne 5, 3) := by decide +kernel
theorem dX7_compare_67 : decode cX7_compare 67 = .ok (.iconst 1, 1) := by decide +kernel
theorem dX7_compare_68 : decode cX7_compare 68 = .ok (.ireturn, 1) := by decide +kernel
theorem dX7_compare_69 : decode cX7_compare 69 = .ok (.iload_n 3, 1) := by decide +kernel
theorem dX7_compare_70 : decode cX7_compare 70 = .ok (.iload 4, 2) := by decide +kernel
theorem dX7_compare_72 : decode cX7_compare 72 = .ok (.iand, 1) := by decide +kernel
theorem dX7_compare_73 : decode cX7_compare 73 = .ok (.iload 4, 2) := by decide +kernel
theorem dX7_compare_75 : decode cX7_compare 75 = .ok (.if_icmp .ne 7, 3) := by decide +kernel
theorem dX7_compare_78 : decode cX7_compare 78 = .ok (.iconst 2, 1) := by decide +kernel
theorem dX7_compare_79 : decode cX7_compare 79 = .ok (.goto 4, 3) := by decide +kernel
theorem dX7_compare_82 : decode cX7_compare 82 = .ok (.iconst 3, 1) := by decide +kernel
theorem dX7_compare_83 : decode cX7_compare 83 = .ok (.ireturn, 1) := by decide +kernel
theorem dX7_count_0 : decode cX7_count 0 = .ok (.iload_n 1, 1) := by decide +kernel
theorem dX7_count_1 : decode cX7_count 1 = .ok (.bipush 8, 2) := by decide +kernel
theorem dX7_count_3 : decode cX7_count 3 = .ok (.invokestatic 166, 3) := by decide +kernel
theorem dX7_count_6 : decode cX7_count 6 = .ok (.iload_n 1, 1) := by decide +kernel
theorem dX7_count_7 : decode cX7_count 7 = .ok (.tableswitch 130 0 7 #[45, 53, 61, 72, 98, 106, 114, 122], 45) := by decide +kernel
theorem dX7_count_52 : decode cX7_count 52 = .ok (.aload_n 0, 1) := by decide +kernel
theorem dX7_count_53 : decode cX7_count 53 = .ok (.getfield 10, 3) := by decide +kernel
theorem dX7_count_56 : decode cX7_count 56 = .ok (.getfield 62, 3) := by decide +kernel
theorem dX7_count_59 : decode cX7_count 59 = .ok (.ireturn, 1) := by decide +kernel
theorem dX7_count_60 : decode cX7_count 60 = .ok (.aload_n 0, 1) := by decide +kernel
theorem dX7_count_61 : decode cX7_count 61 = .ok (.getfield 10, 3) := by decide +kernel
theorem dX7_count_64 : decode cX7_count 64 = .ok (.invokevirtual 109, 3) := by decide +kernel
theorem dX7_count_67 : decode cX7_count 67 = .ok (.ireturn, 1) := by decide +kernel
theorem dX7_count_68 : decode cX7_count 68 = .ok (.aload_n 0, 1) := by decide +kernel
theorem dX7_count_69 : decode cX7_count 69 = .ok (.getfield 35, 3) := by decide +kernel
theorem dX7_count_72 : decode cX7_count 72 = .ok (.invokevirtual 172, 3) := by decide +kernel
theorem dX7_count_75 : decode cX7_count 75 = .ok (.invokestatic 200, 3) := by decide +kernel
theorem dX7_count_78 : decode cX7_count 78 = .ok (.ireturn, 1) := by decide +kernel
theorem dX7_count_79 : decode cX7_count 79 = .ok (.aload_n 0, 1) := by decide +kernel
theorem dX7_count_80 : decode cX7_count 80 = .ok (.getfield 10, 3) := by decide +kernel
theorem dX7_count_83 : decode cX7_count 83 = .ok (.getfield 62, 3) := by decide +kernel
theorem dX7_count_86 : decode cX7_count 86 = .ok (.aload_n 0, 1) := by decide +kernel
theorem dX7_count_87 : decode cX7_count 87 = .ok (.getfield 10, 3) := by decide +kernel
theorem dX7_count_90 : decode cX7_count 90 = .ok (.aload_n 0, 1) := by decide +kernel
theorem dX7_count_91 : decode cX7_count 91 = .ok (.getfield 10, 3) := by decide +kernel
theorem dX7_count_94 : decode cX7_count 94 = .ok (.invokevirtual 205, 3) := by decide +kernel
theorem dX7_count_97 : decode cX7_count 97 = .ok (.invokevirtual 169, 3) := by decide +kernel
theorem dX7_count_100 : decode cX7_count 100 = .ok (.invokestatic 200, 3) := by decide +kernel
theorem dX7_count_103 : decode cX7_count 103 = .ok (.isub, 1) := by decide +kernel
theorem dX7_count_104 : decode cX7_count 104 = .ok (.ireturn, 1) := by decide +kernel
theorem dX7_count_105 : decode cX7_count 105 = .ok (.aload_n 0, 1) := by decide +kernel
theorem dX7_count_106 : decode cX7_count 106 = .ok (.getfield 10, 3) := by decide +kernel
theorem dX7_count_109 : decode cX7_count 109 = .ok (.getfield 103, 3) := by decide +kernel
theorem dX7_count_112 : decode cX7_count 112 = .ok (.ireturn, 1) := by decide +kernel
theorem dX7_count_113 : decode cX7_count 113 = .ok (.aload_n 0, 1) := by decide +kernel
theorem dX7_count_114 : decode cX7_count 114 = .ok (.getfield 10, 3) := by decide +kernel
theorem dX7_count_117 : decode cX7_count 117 = .ok (.invokevirtual 208, 3) := by decide +kernel
theorem dX7_count_120 : decode cX7_count 120 = .ok (.ireturn, 1) := by decide +kernel
theorem dX7_count_121 : decode cX7_count 121 = .ok (.aload_n 0, 1) := by decide +kernel
theorem dX7_count_122 : decode cX7_count 122 = .ok (.getfield 10, 3) := by decide +kernel
theorem dX7_count_125 : decode cX7_count 125 = .ok (.invokevirtual 211, 3) := by decide +kernel
theorem dX7_count_128 : decode cX7_count 128 = .ok (.ireturn, 1) := by decide +kernel
theorem dX7_count_129 : decode cX7_count 129 = .ok (.aload_n 0, 1) := by decide +kernel
theorem dX7_count_130 : decode cX7_count 130 = .ok (.invokevirtual 214, 3) := by decide +kernel
theorem dX7_count_133 : decode cX7_count 133 = .ok (.invokestatic 200, 3) := by decide +kernel
theorem dX7_count_136 : decode cX7_count 136 = .ok (.ireturn, 1) := by decide +kernel
theorem dX7_count_137 : decode cX7_count 137 = .ok (.aload_n 0, 1) := by decide +kernel
theorem dX7_count_138 : decode cX7_count 138 = .ok (.getfield 19, 3) := by decide +kernel
theorem dX7_count_141 : decode cX7_count 141 = .ok (.getfield 158, 3) := by decide +kernel
theorem dX7_count_144 : decode cX7_count 144 = .ok (.ireturn, 1) := by decide +kernel
theorem dX7_ifFair_0 : decode cX7_ifFair 0 = .ok (.iload_n 1, 1) := by decide +kernel
theorem dX7_ifFair_1 : decode cX7_ifFair 1 = .ok (.invokestatic 127, 3) := by decide +kernel
theorem dX7_ifFair_4 : decode cX7_ifFair 4 = .ok (.iload_n 2, 1) := by decide +kernel
theorem dX7_ifFair_5 : decode cX7_ifFair 5 = .ok (.invokestatic 100, 3) := by decide +kernel
theorem dX7_ifFair_8 : decode cX7_ifFair 8 = .ok (.aload_n 0, 1) := by decide +kernel
theorem dX7_ifFair_9 : decode cX7_ifFair 9 = .ok (.getfield 51, 3) := by decide +kernel
theorem dX7_ifFair_12 : decode cX7_ifFair 12 = .ok (.aload_n 0, 1) := by decide +kernel
theorem dX7_ifFair_13 : decode cX7_ifFair 13 = .ok (.getfield 10, 3) := by decide +kernel
theorem dX7_ifFair_16 : decode cX7_ifFair 16 = .ok (.iload_n 1, 1) := by decide +kernel
theorem dX7_ifFair_17 : decode cX7_ifFair 17 = .ok (.iload_n 2, 1) := by decide +kernel
theorem dX7_ifFair_18 : decode cX7_ifFair 18 = .ok (.invokevirtual 230, 3) := by decide +kernel
theorem dX7_ifFair_21 : decode cX7_ifFair 21 = .ok (.ireturn, 1) := by decide +kernel
theorem dX7_fulfilled_0 : decode cX7_fulfilled 0 = .ok (.iconst 0, 1) := by decide +kernel
theorem dX7_fulfilled_1 : decode cX7_fulfilled 1 = .ok (.istore_n 1, 1) := by decide +kernel
theorem dX7_fulfilled_2 : decode cX7_fulfilled 2 = .ok (.iconst 0, 1) := by decide +kernel
theorem dX7_fulfilled_3 : decode cX7_fulfilled 3 = .ok (.istore_n 2, 1) := by decide +kernel
theorem dX7_fulfilled_4 : decode cX7_fulfilled 4 = .ok (.iconst 0, 1) := by decide +kernel
theorem dX7_fulfilled_5 : decode cX7_fulfilled 5 = .ok (.istore_n 3, 1) := by decide +kernel
theorem dX7_fulfilled_6 : decode cX7_fulfilled 6 = .ok (.iload_n 3, 1) := by decide +kernel
theorem dX7_fulfilled_7 : decode cX7_fulfilled 7 = .ok (.iconst 4, 1) := by decide +kernel
theorem dX7_fulfilled_8 : decode cX7_fulfilled 8 = .ok (.if_icmp .ge 44, 3) := by decide +kernel
theorem dX7_fulfilled_11 : decode cX7_fulfilled 11 = .ok (.aload_n 0, 1) := by decide +kernel
theorem dX7_fulfilled_12 : decode cX7_fulfilled 12 = .ok (.getfield 10, 3) := by decide +kernel
theorem dX7_fulfilled_15 : decode cX7_fulfilled 15 = .ok (.iload_n 3, 1) := by decide +kernel
theorem dX7_fulfilled_16 : decode cX7_fulfilled 16 = .ok (.invokevirtual 140, 3) := by decide +kernel
theorem dX7_fulfilled_19 : decode cX7_fulfilled 19 = .ok (.ifCond .le 27, 3) := by decide +kernel
theorem dX7_fulfilled_22 : decode cX7_fulfilled 22 = .ok (.iload_n 1, 1) := by decide +kernel
theorem dX7_fulfilled_23 : decode cX7_fulfilled 23 = .ok (.aload_n 0, 1) := by decide +kernel
theorem dX7_fulfilled_24 : decode cX7_fulfilled 24 = .ok (.getfield 10, 3) := by decide +kernel
theorem dX7_fulfilled_27 : decode cX7_fulfilled 27 = .ok (.getfield 62, 3) := by decide +kernel
theorem dX7_fulfilled_30 : decode cX7_fulfilled 30 = .ok (.iadd, 1) := by decide +kernel
theorem dX7_fulfilled_31 : decode cX7_fulfilled 31 = .ok (.istore_n 1, 1) := by decide +kernel
theorem dX7_fulfilled_32 : decode cX7_fulfilled 32 = .ok (.iload_n 2, 1) := by decide +kernel
theorem dX7_fulfilled_33 : decode cX7_fulfilled 33 = .ok (.aload_n 0, 1) := by decide +kernel
theorem dX7_fulfilled_34 : decode cX7_fulfilled 34 = .ok (.getfield 35, 3) := by decide +kernel
theorem dX7_fulfilled_37 : decode cX7_fulfilled 37 = .ok (.iload_n 3, 1) := by decide +kernel
theorem dX7_fulfilled_38 : decode cX7_fulfilled 38 = .ok (.invokevirtual 178, 3) := by decide +kernel
theorem dX7_fulfilled_41 : decode cX7_fulfilled 41 = .ok (.invokestatic 200, 3) := by decide +kernel
theorem dX7_fulfilled_44 : decode cX7_fulfilled 44 = .ok (.iadd, 1) := by decide +kernel
theorem dX7_fulfilled_45 : decode cX7_fulfilled 45 = .ok (.istore_n 2, 1) := by decide +kernel
theorem dX7_fulfilled_46 : decode cX7_fulfilled 46 = .ok (.iinc 3 1, 3) := by decide +kernel
theorem dX7_fulfilled_49 : decode cX7_fulfilled 49 = .ok (.goto (-43), 3) := by decide +kernel
theorem dX7_fulfilled_52 : decode cX7_fulfilled 52 = .ok (.iload_n 1, 1) := by decide +kernel
theorem dX7_fulfilled_53 : decode cX7_fulfilled 53 = .ok (.ifCond .ne 7, 3) := by decide +kernel
theorem dX7_fulfilled_56 : decode cX7_fulfilled 56 = .ok (.dconst 1, 1) := by decide +kernel
theorem dX7_fulfilled_57 : decode cX7_fulfilled 57 = .ok (.goto 8, 3) := by decide +kernel
theorem dX7_fulfilled_60 : decode cX7_fulfilled 60 = .ok (.iload_n 2, 1) := by decide +kernel
theorem dX7_fulfilled_61 : decode cX7_fulfilled 61 = .ok (.i2d, 1) := by decide +kernel
theorem dX7_fulfilled_62 : decode cX7_fulfilled 62 = .ok (.iload_n 1, 1) := by decide +kernel
theorem dX7_fulfilled_63 : decode cX7_fulfilled 63 = .ok (.i2d, 1) := by decide +kernel
theorem dX7_fulfilled_64 : decode cX7_fulfilled 64 = .ok (.ddiv, 1) := by decide +kernel
theorem dX7_fulfilled_65 : decode cX7_fulfilled 65 = .ok (.dreturn, 1) := by decide +kernel
theorem dX7_needWorld_0 : decode cX7_needWorld 0 = .ok (.aload_n 0, 1) := by decide +kernel
theorem dX7_needWorld_1 : decode cX7_needWorld 1 = .ok (.getfield 10, 3) := by decide +kernel
theorem dX7_needWorld_4 : decode cX7_needWorld 4 = .ok (.iload_n 1, 1) := by decide +kernel
theorem dX7_needWorld_5 : decode cX7_needWorld 5 = .ok (.invokevirtual 274, 3) := by decide +kernel
theorem dX7_needWorld_8 : decode cX7_needWorld 8 = .ok (.ifCond .ne 14, 3) := by decide +kernel
theorem dX7_needWorld_11 : decode cX7_needWorld 11 = .ok (.new 184, 3) := by decide +kernel
theorem dX7_needWorld_14 : decode cX7_needWorld 14 = .ok (.dup, 1) := by decide +kernel
theorem dX7_needWorld_15 : decode cX7_needWorld 15 = .ok (.ldc_w 278, 3) := by decide +kernel
theorem dX7_needWorld_18 : decode cX7_needWorld 18 = .ok (.invokespecial 188, 3) := by decide +kernel
theorem dX7_needWorld_21 : decode cX7_needWorld 21 = .ok (.athrow, 1) := by decide +kernel
theorem dX7_needWorld_22 : decode cX7_needWorld 22 = .ok (.return_, 1) := by decide +kernel
theorem dX7_needWish_0 : decode cX7_needWish 0 = .ok (.iload_n 0, 1) := by decide +kernel
theorem dX7_needWish_1 : decode cX7_needWish 1 = .ok (.ifCond .lt 8, 3) := by decide +kernel
theorem dX7_needWish_4 : decode cX7_needWish 4 = .ok (.iload_n 0, 1) := by decide +kernel
theorem dX7_needWish_5 : decode cX7_needWish 5 = .ok (.iconst 4, 1) := by decide +kernel
theorem dX7_needWish_6 : decode cX7_needWish 6 = .ok (.if_icmp .lt 14, 3) := by decide +kernel
theorem dX7_needWish_9 : decode cX7_needWish 9 = .ok (.new 184, 3) := by decide +kernel
theorem dX7_needWish_12 : decode cX7_needWish 12 = .ok (.dup, 1) := by decide +kernel
theorem dX7_needWish_13 : decode cX7_needWish 13 = .ok (.ldc_w 280, 3) := by decide +kernel
theorem dX7_needWish_16 : decode cX7_needWish 16 = .ok (.invokespecial 188, 3) := by decide +kernel
theorem dX7_needWish_19 : decode cX7_needWish 19 = .ok (.athrow, 1) := by decide +kernel
theorem dX7_needWish_20 : decode cX7_needWish 20 = .ok (.return_, 1) := by decide +kernel
theorem dX7_needLetterOrNone_0 : decode cX7_needLetterOrNone 0 = .ok (.iload_n 0, 1) := by decide +kernel
theorem dX7_needLetterOrNone_1 : decode cX7_needLetterOrNone 1 = .ok (.iconst (-1), 1) := by decide +kernel
theorem dX7_needLetterOrNone_2 : decode cX7_needLetterOrNone 2 = .ok (.if_icmp .eq 23, 3) := by decide +kernel
theorem dX7_needLetterOrNone_5 : decode cX7_needLetterOrNone 5 = .ok (.iload_n 0, 1) := by decide +kernel
theorem dX7_needLetterOrNone_6 : decode cX7_needLetterOrNone 6 = .ok (.ifCond .lt 8, 3) := by decide +kernel
theorem dX7_needLetterOrNone_9 : decode cX7_needLetterOrNone 9 = .ok (.iload_n 0, 1) := by decide +kernel
theorem dX7_needLetterOrNone_10 : decode cX7_needLetterOrNone 10 = .ok (.iconst 4, 1) := by decide +kernel
theorem dX7_needLetterOrNone_11 : decode cX7_needLetterOrNone 11 = .ok (.if_icmp .lt 14, 3) := by decide +kernel
theorem dX7_needLetterOrNone_14 : decode cX7_needLetterOrNone 14 = .ok (.new 55, 3) := by decide +kernel
theorem dX7_needLetterOrNone_17 : decode cX7_needLetterOrNone 17 = .ok (.dup, 1) := by decide +kernel
theorem dX7_needLetterOrNone_18 : decode cX7_needLetterOrNone 18 = .ok (.ldc_w 282, 3) := by decide +kernel
theorem dX7_needLetterOrNone_21 : decode cX7_needLetterOrNone 21 = .ok (.invokespecial 59, 3) := by decide +kernel
theorem dX7_needLetterOrNone_24 : decode cX7_needLetterOrNone 24 = .ok (.athrow, 1) := by decide +kernel
theorem dX7_needLetterOrNone_25 : decode cX7_needLetterOrNone 25 = .ok (.return_, 1) := by decide +kernel
theorem dX7_needLook_0 : decode cX7_needLook 0 = .ok (.iload_n 0, 1) := by decide +kernel
theorem dX7_needLook_1 : decode cX7_needLook 1 = .ok (.ifCond .lt 8, 3) := by decide +kernel
theorem dX7_needLook_4 : decode cX7_needLook 4 = .ok (.iload_n 0, 1) := by decide +kernel
theorem dX7_needLook_5 : decode cX7_needLook 5 = .ok (.iload_n 1, 1) := by decide +kernel
theorem dX7_needLook_6 : decode cX7_needLook 6 = .ok (.if_icmp .le 14, 3) := by decide +kernel
theorem dX7_needLook_9 : decode cX7_needLook 9 = .ok (.new 55, 3) := by decide +kernel
theorem dX7_needLook_12 : decode cX7_needLook 12 = .ok (.dup, 1) := by decide +kernel
theorem dX7_needLook_13 : decode cX7_needLook 13 = .ok (.ldc_w 284, 3) := by decide +kernel
theorem dX7_needLook_16 : decode cX7_needLook 16 = .ok (.invokespecial 59, 3) := by decide +kernel
theorem dX7_needLook_19 : decode cX7_needLook 19 = .ok (.athrow, 1) := by decide +kernel
theorem dX7_needLook_20 : decode cX7_needLook 20 = .ok (.return_, 1) := by decide +kernel
theorem dX7_wishesHoldingIn_0 : decode cX7_wishesHoldingIn 0 = .ok (.iconst 0, 1) := by decide +kernel
theorem dX7_wishesHoldingIn_1 : decode cX7_wishesHoldingIn 1 = .ok (.istore_n 2, 1) := by decide +kernel
theorem dX7_wishesHoldingIn_2 : decode cX7_wishesHoldingIn 2 = .ok (.iconst 0, 1) := by decide +kernel
theorem dX7_wishesHoldingIn_3 : decode cX7_wishesHoldingIn 3 = .ok (.istore_n 3, 1) := by decide +kernel
theorem dX7_wishesHoldingIn_4 : decode cX7_wishesHoldingIn 4 = .ok (.iload_n 3, 1) := by decide +kernel
theorem dX7_wishesHoldingIn_5 : decode cX7_wishesHoldingIn 5 = .ok (.iconst 4, 1) := by decide +kernel
theorem dX7_wishesHoldingIn_6 : decode cX7_wishesHoldingIn 6 = .ok (.if_icmp .ge 37, 3) := by decide +kernel
theorem dX7_wishesHoldingIn_9 : decode cX7_wishesHoldingIn 9 = .ok (.aload_n 0, 1) := by decide +kernel
theorem dX7_wishesHoldingIn_10 : decode cX7_wishesHoldingIn 10 = .ok (.getfield 10, 3) := by decide +kernel
theorem dX7_wishesHoldingIn_13 : decode cX7_wishesHoldingIn 13 = .ok (.iload_n 3, 1) := by decide +kernel
theorem dX7_wishesHoldingIn_14 : decode cX7_wishesHoldingIn 14 = .ok (.invokevirtual 140, 3) := by decide +kernel
theorem dX7_wishesHoldingIn_17 : decode cX7_wishesHoldingIn 17 = .ok (.ifCond .le 20, 3) := by decide +kernel
theorem dX7_wishesHoldingIn_20 : decode cX7_wishesHoldingIn 20 = .ok (.iload_n 2, 1) := by decide +kernel
theorem dX7_wishesHoldingIn_21 : decode cX7_wishesHoldingIn 21 = .ok (.aload_n 0, 1) := by decide +kernel
theorem dX7_wishesHoldingIn_22 : decode cX7_wishesHoldingIn 22 = .ok (.getfield 35, 3) := by decide +kernel
theorem dX7_wishesHoldingIn_25 : decode cX7_wishesHoldingIn 25 = .ok (.iload_n 3, 1) := by decide +kernel
theorem dX7_wishesHoldingIn_26 : decode cX7_wishesHoldingIn 26 = .ok (.invokevirtual 178, 3) := by decide +kernel
theorem dX7_wishesHoldingIn_29 : decode cX7_wishesHoldingIn 29 = .ok (.iload_n 1, 1) := by decide +kernel
theorem dX7_wishesHoldingIn_30 : decode cX7_wishesHoldingIn 30 = .ok (.ishr, 1) := by decide +kernel
theorem dX7_wishesHoldingIn_31 : decode cX7_wishesHoldingIn 31 = .ok (.iconst 1, 1) := by decide +kernel
theorem dX7_wishesHoldingIn_32 : decode cX7_wishesHoldingIn 32 = .ok (.iand, 1) := by decide +kernel
theorem dX7_wishesHoldingIn_33 : decode cX7_wishesHoldingIn 33 = .ok (.iload_n 3, 1) := by decide +kernel
theorem dX7_wishesHoldingIn_34 : decode cX7_wishesHoldingIn 34 = .ok (.ishl, 1) := by decide +kernel
theorem dX7_wishesHoldingIn_35 : decode cX7_wishesHoldingIn 35 = .ok (.ior, 1) := by decide +kernel
theorem dX7_wishesHoldingIn_36 : decode cX7_wishesHoldingIn 36 = .ok (.istore_n 2, 1) := by decide +kernel
theorem dX7_wishesHoldingIn_37 : decode cX7_wishesHoldingIn 37 = .ok (.iinc 3 1, 3) := by decide +kernel
theorem dX7_wishesHoldingIn_40 : decode cX7_wishesHoldingIn 40 = .ok (.goto (-36), 3) := by decide +kernel
theorem dX7_wishesHoldingIn_43 : decode cX7_wishesHoldingIn 43 = .ok (.iload_n 2, 1) := by decide +kernel
theorem dX7_wishesHoldingIn_44 : decode cX7_wishesHoldingIn 44 = .ok (.ireturn, 1) := by decide +kernel
theorem dX7_worldsOfAllWishes_0 : decode cX7_worldsOfAllWishes 0 = .ok (.aload_n 0, 1) := by decide +kernel
theorem dX7_worldsOfAllWishes_1 : decode cX7_worldsOfAllWishes 1 = .ok (.getfield 10, 3) := by decide +kernel
theorem dX7_worldsOfAllWishes_4 : decode cX7_worldsOfAllWishes 4 = .ok (.invokevirtual 205, 3) := by decide +kernel
theorem dX7_worldsOfAllWishes_7 : decode cX7_worldsOfAllWishes 7 = .ok (.istore_n 1, 1) := by decide +kernel
theorem dX7_worldsOfAllWishes_8 : decode cX7_worldsOfAllWishes 8 = .ok (.iconst 0, 1) := by decide +kernel
theorem dX7_worldsOfAllWishes_9 : decode cX7_worldsOfAllWishes 9 = .ok (.istore_n 2, 1) := by decide +kernel
theorem dX7_worldsOfAllWishes_10 : decode cX7_worldsOfAllWishes 10 = .ok (.iload_n 2, 1) := by decide +kernel
theorem dX7_worldsOfAllWishes_11 : decode cX7_worldsOfAllWishes 11 = .ok (.iconst 4, 1) := by decide +kernel
theorem dX7_worldsOfAllWishes_12 : decode cX7_worldsOfAllWishes 12 = .ok (.if_icmp .ge 31, 3) := by decide +kernel
theorem dX7_worldsOfAllWishes_15 : decode cX7_worldsOfAllWishes 15 = .ok (.aload_n 0, 1) := by decide +kernel
theorem dX7_worldsOfAllWishes_16 : decode cX7_worldsOfAllWishes 16 = .ok (.getfield 10, 3) := by decide +kernel
theorem dX7_worldsOfAllWishes_19 : decode cX7_worldsOfAllWishes 19 = .ok (.iload_n 2, 1) := by decide +kernel
theorem dX7_worldsOfAllWishes_20 : decode cX7_worldsOfAllWishes 20 = .ok (.invokevirtual 140, 3) := by decide +kernel
theorem dX7_worldsOfAllWishes_23 : decode cX7_worldsOfAllWishes 23 = .ok (.ifCond .le 14, 3) := by decide +kernel
theorem dX7_worldsOfAllWishes_26 : decode cX7_worldsOfAllWishes 26 = .ok (.iload_n 1, 1) := by decide +kernel
theorem dX7_worldsOfAllWishes_27 : decode cX7_worldsOfAllWishes 27 = .ok (.aload_n 0, 1) := by decide +kernel
theorem dX7_worldsOfAllWishes_28 : decode cX7_worldsOfAllWishes 28 = .ok (.getfield 35, 3) := by decide +kernel
theorem dX7_worldsOfAllWishes_31 : decode cX7_worldsOfAllWishes 31 = .ok (.iload_n 2, 1) := by decide +kernel
theorem dX7_worldsOfAllWishes_32 : decode cX7_worldsOfAllWishes 32 = .ok (.invokevirtual 178, 3) := by decide +kernel
theorem dX7_worldsOfAllWishes_35 : decode cX7_worldsOfAllWishes 35 = .ok (.iand, 1) := by decide +kernel
theorem dX7_worldsOfAllWishes_36 : decode cX7_worldsOfAllWishes 36 = .ok (.istore_n 1, 1) := by decide +kernel
theorem dX7_worldsOfAllWishes_37 : decode cX7_worldsOfAllWishes 37 = .ok (.iinc 2 1, 3) := by decide +kernel
theorem dX7_worldsOfAllWishes_40 : decode cX7_worldsOfAllWishes 40 = .ok (.goto (-30), 3) := by decide +kernel
theorem dX7_worldsOfAllWishes_43 : decode cX7_worldsOfAllWishes 43 = .ok (.iload_n 1, 1) := by decide +kernel
theorem dX7_worldsOfAllWishes_44 : decode cX7_worldsOfAllWishes 44 = .ok (.ireturn, 1) := by decide +kernel
theorem dJ6_bitCount_0f7a4_0 : decode cJ6_bitCount_0f7a4 0 = .ok (.iload_n 0, 1) := by decide +kernel
theorem dJ6_bitCount_0f7a4_1 : decode cJ6_bitCount_0f7a4 1 = .ok (.iload_n 0, 1) := by decide +kernel
theorem dJ6_bitCount_0f7a4_2 : decode cJ6_bitCount_0f7a4 2 = .ok (.iconst 1, 1) := by decide +kernel
theorem dJ6_bitCount_0f7a4_3 : decode cJ6_bitCount_0f7a4 3 = .ok (.iushr, 1) := by decide +kernel
theorem dJ6_bitCount_0f7a4_4 : decode cJ6_bitCount_0f7a4 4 = .ok (.ldc_w 265, 3) := by decide +kernel
theorem dJ6_bitCount_0f7a4_7 : decode cJ6_bitCount_0f7a4 7 = .ok (.iand, 1) := by decide +kernel
theorem dJ6_bitCount_0f7a4_8 : decode cJ6_bitCount_0f7a4 8 = .ok (.isub, 1) := by decide +kernel
theorem dJ6_bitCount_0f7a4_9 : decode cJ6_bitCount_0f7a4 9 = .ok (.istore_n 0, 1) := by decide +kernel
theorem dJ6_bitCount_0f7a4_10 : decode cJ6_bitCount_0f7a4 10 = .ok (.iload_n 0, 1) := by decide +kernel
theorem dJ6_bitCount_0f7a4_11 : decode cJ6_bitCount_0f7a4 11 = .ok (.ldc_w 266, 3) := by decide +kernel
theorem dJ6_bitCount_0f7a4_14 : decode cJ6_bitCount_0f7a4 14 = .ok (.iand, 1) := by decide +kernel
theorem dJ6_bitCount_0f7a4_15 : decode cJ6_bitCount_0f7a4 15 = .ok (.iload_n 0, 1) := by decide +kernel
theorem dJ6_bitCount_0f7a4_16 : decode cJ6_bitCount_0f7a4 16 = .ok (.iconst 2, 1) := by decide +kernel
theorem dJ6_bitCount_0f7a4_17 : decode cJ6_bitCount_0f7a4 17 = .ok (.iushr, 1) := by decide +kernel
theorem dJ6_bitCount_0f7a4_18 : decode cJ6_bitCount_0f7a4 18 = .ok (.ldc_w 266, 3) := by decide +kernel
theorem dJ6_bitCount_0f7a4_21 : decode cJ6_bitCount_0f7a4 21 = .ok (.iand, 1) := by decide +kernel
theorem dJ6_bitCount_0f7a4_22 : decode cJ6_bitCount_0f7a4 22 = .ok (.iadd, 1) := by decide +kernel
theorem dJ6_bitCount_0f7a4_23 : decode cJ6_bitCount_0f7a4 23 = .ok (.istore_n 0, 1) := by decide +kernel
theorem dJ6_bitCount_0f7a4_24 : decode cJ6_bitCount_0f7a4 24 = .ok (.iload_n 0, 1) := by decide +kernel
theorem dJ6_bitCount_0f7a4_25 : decode cJ6_bitCount_0f7a4 25 = .ok (.iload_n 0, 1) := by decide +kernel
theorem dJ6_bitCount_0f7a4_26 : decode cJ6_bitCount_0f7a4 26 = .ok (.iconst 4, 1) := by decide +kernel
theorem dJ6_bitCount_0f7a4_27 : decode cJ6_bitCount_0f7a4 27 = .ok (.iushr, 1) := by decide +kernel
theorem dJ6_bitCount_0f7a4_28 : decode cJ6_bitCount_0f7a4 28 = .ok (.iadd, 1) := by decide +kernel
theorem dJ6_bitCount_0f7a4_29 : decode cJ6_bitCount_0f7a4 29 = .ok (.ldc_w 267, 3) := by decide +kernel
theorem dJ6_bitCount_0f7a4_32 : decode cJ6_bitCount_0f7a4 32 = .ok (.iand, 1) := by decide +kernel
theorem dJ6_bitCount_0f7a4_33 : decode cJ6_bitCount_0f7a4 33 = .ok (.istore_n 0, 1) := by decide +kernel
theorem dJ6_bitCount_0f7a4_34 : decode cJ6_bitCount_0f7a4 34 = .ok (.iload_n 0, 1) := by decide +kernel
theorem dJ6_bitCount_0f7a4_35 : decode cJ6_bitCount_0f7a4 35 = .ok (.iload_n 0, 1) := by decide +kernel
theorem dJ6_bitCount_0f7a4_36 : decode cJ6_bitCount_0f7a4 36 = .ok (.bipush 8, 2) := by decide +kernel
theorem dJ6_bitCount_0f7a4_38 : decode cJ6_bitCount_0f7a4 38 = .ok (.iushr, 1) := by decide +kernel
theorem dJ6_bitCount_0f7a4_39 : decode cJ6_bitCount_0f7a4 39 = .ok (.iadd, 1) := by decide +kernel
theorem dJ6_bitCount_0f7a4_40 : decode cJ6_bitCount_0f7a4 40 = .ok (.istore_n 0, 1) := by decide +kernel
theorem dJ6_bitCount_0f7a4_41 : decode cJ6_bitCount_0f7a4 41 = .ok (.iload_n 0, 1) := by decide +kernel
theorem dJ6_bitCount_0f7a4_42 : decode cJ6_bitCount_0f7a4 42 = .ok (.iload_n 0, 1) := by decide +kernel
theorem dJ6_bitCount_0f7a4_43 : decode cJ6_bitCount_0f7a4 43 = .ok (.bipush 16, 2) := by decide +kernel
theorem dJ6_bitCount_0f7a4_45 : decode cJ6_bitCount_0f7a4 45 = .ok (.iushr, 1) := by decide +kernel
theorem dJ6_bitCount_0f7a4_46 : decode cJ6_bitCount_0f7a4 46 = .ok (.iadd, 1) := by decide +kernel
theorem dJ6_bitCount_0f7a4_47 : decode cJ6_bitCount_0f7a4 47 = .ok (.istore_n 0, 1) := by decide +kernel
theorem dJ6_bitCount_0f7a4_48 : decode cJ6_bitCount_0f7a4 48 = .ok (.iload_n 0, 1) := by decide +kernel
theorem dJ6_bitCount_0f7a4_49 : decode cJ6_bitCount_0f7a4 49 = .ok (.bipush 63, 2) := by decide +kernel
theorem dJ6_bitCount_0f7a4_51 : decode cJ6_bitCount_0f7a4 51 = .ok (.iand, 1) := by decide +kernel
theorem dJ6_bitCount_0f7a4_52 : decode cJ6_bitCount_0f7a4 52 = .ok (.ireturn, 1) := by decide +kernel
theorem dJ9_max_7cf53_0 : decode cJ9_max_7cf53 0 = .ok (.iload_n 0, 1) := by decide +kernel
theorem dJ9_max_7cf53_1 : decode cJ9_max_7cf53 1 = .ok (.iload_n 1, 1) := by decide +kernel
theorem dJ9_max_7cf53_2 : decode cJ9_max_7cf53 2 = .ok (.if_icmp .lt 7, 3) := by decide +kernel
theorem dJ9_max_7cf53_5 : decode cJ9_max_7cf53 5 = .ok (.iload_n 0, 1) := by decide +kernel
theorem dJ9_max_7cf53_6 : decode cJ9_max_7cf53 6 = .ok (.goto 4, 3) := by decide +kernel
theorem dJ9_max_7cf53_9 : decode cJ9_max_7cf53 9 = .ok (.iload_n 1, 1) := by decide +kernel
theorem dJ9_max_7cf53_10 : decode cJ9_max_7cf53 10 = .ok (.ireturn, 1) := by decide +kernel
theorem dL_cell_0 : decode cL_cell 0 = .ok (.iload_n 1, 1) := by decide +kernel
theorem dL_cell_1 : decode cL_cell 1 = .ok (.aload_n 0, 1) := by decide +kernel
theorem dL_cell_2 : decode cL_cell 2 = .ok (.arraylength, 1) := by decide +kernel
theorem dL_cell_3 : decode cL_cell 3 = .ok (.if_icmp .ge 9, 3) := by decide +kernel
theorem dL_cell_6 : decode cL_cell 6 = .ok (.aload_n 0, 1) := by decide +kernel
theorem dL_cell_7 : decode cL_cell 7 = .ok (.iload_n 1, 1) := by decide +kernel
theorem dL_cell_8 : decode cL_cell 8 = .ok (.iaload, 1) := by decide +kernel
theorem dL_cell_9 : decode cL_cell 9 = .ok (.goto 10, 3) := by decide +kernel
theorem dL_cell_12 : decode cL_cell 12 = .ok (.ldc 7, 2) := by decide +kernel
theorem dL_cell_14 : decode cL_cell 14 = .ok (.iload_n 1, 1) := by decide +kernel
theorem dL_cell_15 : decode cL_cell 15 = .ok (.imul, 1) := by decide +kernel
theorem dL_cell_16 : decode cL_cell 16 = .ok (.ldc 8, 2) := by decide +kernel
theorem dL_cell_18 : decode cL_cell 18 = .ok (.iadd, 1) := by decide +kernel
theorem dL_cell_19 : decode cL_cell 19 = .ok (.ireturn, 1) := by decide +kernel
theorem dL_low_0 : decode cL_low 0 = .ok (.iload_n 0, 1) := by decide +kernel
theorem dL_low_1 : decode cL_low 1 = .ok (.ldc 9, 2) := by decide +kernel
theorem dL_low_3 : decode cL_low 3 = .ok (.iand, 1) := by decide +kernel
theorem dL_low_4 : decode cL_low 4 = .ok (.iload_n 1, 1) := by decide +kernel
theorem dL_low_5 : decode cL_low 5 = .ok (.irem, 1) := by decide +kernel
theorem dL_low_6 : decode cL_low 6 = .ok (.ireturn, 1) := by decide +kernel
theorem dL_sign_0 : decode cL_sign 0 = .ok (.iload_n 0, 1) := by decide +kernel
theorem dL_sign_1 : decode cL_sign 1 = .ok (.bipush 16, 2) := by decide +kernel
theorem dL_sign_3 : decode cL_sign 3 = .ok (.invokestatic 10, 3) := by decide +kernel
theorem dL_sign_6 : decode cL_sign 6 = .ok (.istore_n 3, 1) := by decide +kernel
theorem dL_sign_7 : decode cL_sign 7 = .ok (.iload_n 1, 1) := by decide +kernel
theorem dL_sign_8 : decode cL_sign 8 = .ok (.iload_n 2, 1) := by decide +kernel
theorem dL_sign_9 : decode cL_sign 9 = .ok (.isub, 1) := by decide +kernel
theorem dL_sign_10 : decode cL_sign 10 = .ok (.istore 4, 2) := by decide +kernel
theorem dL_sign_12 : decode cL_sign 12 = .ok (.iload 4, 2) := by decide +kernel
theorem dL_sign_14 : decode cL_sign 14 = .ok (.iconst 2, 1) := by decide +kernel
theorem dL_sign_15 : decode cL_sign 15 = .ok (.if_icmp .lt 8, 3) := by decide +kernel
theorem dL_sign_18 : decode cL_sign 18 = .ok (.iload_n 3, 1) := by decide +kernel
theorem dL_sign_19 : decode cL_sign 19 = .ok (.iconst 3, 1) := by decide +kernel
theorem dL_sign_20 : decode cL_sign 20 = .ok (.if_icmp .ge 26, 3) := by decide +kernel
theorem dL_sign_23 : decode cL_sign 23 = .ok (.iload_n 3, 1) := by decide +kernel
theorem dL_sign_24 : decode cL_sign 24 = .ok (.iconst 5, 1) := by decide +kernel
theorem dL_sign_25 : decode cL_sign 25 = .ok (.irem, 1) := by decide +kernel
theorem dL_sign_26 : decode cL_sign 26 = .ok (.iconst 4, 1) := by decide +kernel
theorem dL_sign_27 : decode cL_sign 27 = .ok (.if_icmp .ne 8, 3) := by decide +kernel
theorem dL_sign_30 : decode cL_sign 30 = .ok (.bipush 116, 2) := by decide +kernel
theorem dL_sign_32 : decode cL_sign 32 = .ok (.goto 13, 3) := by decide +kernel
theorem dL_sign_35 : decode cL_sign 35 = .ok (.bipush 97, 2) := by decide +kernel
theorem dL_sign_37 : decode cL_sign 37 = .ok (.iload_n 0, 1) := by decide +kernel
theorem dL_sign_38 : decode cL_sign 38 = .ok (.iconst 4, 1) := by decide +kernel
theorem dL_sign_39 : decode cL_sign 39 = .ok (.ishr, 1) := by decide +kernel
theorem dL_sign_40 : decode cL_sign 40 = .ok (.iconst 4, 1) := by decide +kernel
theorem dL_sign_41 : decode cL_sign 41 = .ok (.invokestatic 10, 3) := by decide +kernel
theorem dL_sign_44 : decode cL_sign 44 = .ok (.iadd, 1) := by decide +kernel
theorem dL_sign_45 : decode cL_sign 45 = .ok (.ireturn, 1) := by decide +kernel
theorem dL_sign_46 : decode cL_sign 46 = .ok (.iload_n 3, 1) := by decide +kernel
theorem dL_sign_47 : decode cL_sign 47 = .ok (.bipush 6, 2) := by decide +kernel
theorem dL_sign_49 : decode cL_sign 49 = .ok (.if_icmp .ge 8, 3) := by decide +kernel
theorem dL_sign_52 : decode cL_sign 52 = .ok (.bipush 33, 2) := by decide +kernel
theorem dL_sign_54 : decode cL_sign 54 = .ok (.goto 38, 3) := by decide +kernel
theorem dL_sign_57 : decode cL_sign 57 = .ok (.iload_n 3, 1) := by decide +kernel
theorem dL_sign_58 : decode cL_sign 58 = .ok (.bipush 8, 2) := by decide +kernel
theorem dL_sign_60 : decode cL_sign 60 = .ok (.if_icmp .ge 8, 3) := by decide +kernel
theorem dL_sign_63 : decode cL_sign 63 = .ok (.bipush 38, 2) := by decide +kernel
theorem dL_sign_65 : decode cL_sign 65 = .ok (.goto 27, 3) := by decide +kernel
theorem dL_sign_68 : decode cL_sign 68 = .ok (.iload_n 3, 1) := by decide +kernel
theorem dL_sign_69 : decode cL_sign 69 = .ok (.bipush 9, 2) := by decide +kernel
theorem dL_sign_71 : decode cL_sign 71 = .ok (.if_icmp .ge 8, 3) := by decide +kernel
theorem dL_sign_74 : decode cL_sign 74 = .ok (.bipush 124, 2) := by decide +kernel
theorem dL_sign_76 : decode cL_sign 76 = .ok (.goto 16, 3) := by decide +kernel
theorem dL_sign_79 : decode cL_sign 79 = .ok (.iload_n 3, 1) := by decide +kernel
theorem dL_sign_80 : decode cL_sign 80 = .ok (.bipush 13, 2) := by decide +kernel
theorem dL_sign_82 : decode cL_sign 82 = .ok (.if_icmp .ge 8, 3) := by decide +kernel
theorem dL_sign_85 : decode cL_sign 85 = .ok (.bipush 69, 2) := by decide +kernel
theorem dL_sign_87 : decode cL_sign 87 = .ok (.goto 5, 3) := by decide +kernel
theorem dL_sign_90 : decode cL_sign 90 = .ok (.bipush 65, 2) := by decide +kernel
theorem dL_sign_92 : decode cL_sign 92 = .ok (.ireturn, 1) := by decide +kernel
theorem dL_way_0 : decode cL_way 0 = .ok (.iload_n 0, 1) := by decide +kernel
theorem dL_way_1 : decode cL_way 1 = .ok (.iconst 4, 1) := by decide +kernel
theorem dL_way_2 : decode cL_way 2 = .ok (.invokestatic 10, 3) := by decide +kernel
theorem dL_way_5 : decode cL_way 5 = .ok (.istore_n 3, 1) := by decide +kernel
theorem dL_way_6 : decode cL_way 6 = .ok (.iload_n 3, 1) := by decide +kernel
theorem dL_way_7 : decode cL_way 7 = .ok (.ifCond .ne 8, 3) := by decide +kernel
theorem dL_way_10 : decode cL_way 10 = .ok (.bipush 88, 2) := by decide +kernel
theorem dL_way_12 : decode cL_way 12 = .ok (.goto 37, 3) := by decide +kernel
theorem dL_way_15 : decode cL_way 15 = .ok (.iload_n 3, 1) := by decide +kernel
theorem dL_way_16 : decode cL_way 16 = .ok (.iconst 1, 1) := by decide +kernel
theorem dL_way_17 : decode cL_way 17 = .ok (.if_icmp .ne 8, 3) := by decide +kernel
theorem dL_way_20 : decode cL_way 20 = .ok (.bipush 70, 2) := by decide +kernel
theorem dL_way_22 : decode cL_way 22 = .ok (.goto 27, 3) := by decide +kernel
theorem dL_way_25 : decode cL_way 25 = .ok (.iload_n 3, 1) := by decide +kernel
theorem dL_way_26 : decode cL_way 26 = .ok (.iconst 2, 1) := by decide +kernel
theorem dL_way_27 : decode cL_way 27 = .ok (.if_icmp .ne 8, 3) := by decide +kernel
theorem dL_way_30 : decode cL_way 30 = .ok (.bipush 71, 2) := by decide +kernel
theorem dL_way_32 : decode cL_way 32 = .ok (.goto 17, 3) := by decide +kernel
theorem dL_way_35 : decode cL_way 35 = .ok (.iload_n 1, 1) := by decide +kernel
theorem dL_way_36 : decode cL_way 36 = .ok (.iload_n 2, 1) := by decide +kernel
theorem dL_way_37 : decode cL_way 37 = .ok (.isub, 1) := by decide +kernel
theorem dL_way_38 : decode cL_way 38 = .ok (.iconst 2, 1) := by decide +kernel
theorem dL_way_39 : decode cL_way 39 = .ok (.if_icmp .ge 8, 3) := by decide +kernel
theorem dL_way_42 : decode cL_way 42 = .ok (.bipush 71, 2) := by decide +kernel
theorem dL_way_44 : decode cL_way 44 = .ok (.goto 5, 3) := by decide +kernel
theorem dL_way_47 : decode cL_way 47 = .ok (.bipush 85, 2) := by decide +kernel
theorem dL_way_49 : decode cL_way 49 = .ok (.ireturn, 1) := by decide +kernel
theorem dL_write_0 : decode cL_write 0 = .ok (.iconst 0, 1) := by decide +kernel
theorem dL_write_1 : decode cL_write 1 = .ok (.istore 4, 2) := by decide +kernel
theorem dL_write_3 : decode cL_write 3 = .ok (.iconst 1, 1) := by decide +kernel
theorem dL_write_4 : decode cL_write 4 = .ok (.istore 5, 2) := by decide +kernel
theorem dL_write_6 : decode cL_write 6 = .ok (.iconst 0, 1) := by decide +kernel
theorem dL_write_7 : decode cL_write 7 = .ok (.istore 6, 2) := by decide +kernel
theorem dL_write_9 : decode cL_write 9 = .ok (.iload 5, 2) := by decide +kernel
theorem dL_write_11 : decode cL_write 11 = .ok (.ifCond .le 168, 3) := by decide +kernel
theorem dL_write_14 : decode cL_write 14 = .ok (.aload_n 1, 1) := by decide +kernel
theorem dL_write_15 : decode cL_write 15 = .ok (.iload_n 2, 1) := by decide +kernel
theorem dL_write_16 : decode cL_write 16 = .ok (.iload 4, 2) := by decide +kernel
theorem dL_write_18 : decode cL_write 18 = .ok (.iadd, 1) := by decide +kernel
theorem dL_write_19 : decode cL_write 19 = .ok (.invokestatic 16, 3) := by decide +kernel
theorem dL_write_22 : decode cL_write 22 = .ok (.istore 7, 2) := by decide +kernel
theorem dL_write_24 : decode cL_write 24 = .ok (.iload 6, 2) := by decide +kernel
theorem dL_write_26 : decode cL_write 26 = .ok (.ifCond .eq 17, 3) := by decide +kernel
theorem dL_write_29 : decode cL_write 29 = .ok (.iload 7, 2) := by decide +kernel
theorem dL_write_31 : decode cL_write 31 = .ok (.iload_n 3, 1) := by decide +kernel
theorem dL_write_32 : decode cL_write 32 = .ok (.iload 4, 2) := by decide +kernel
theorem dL_write_34 : decode cL_write 34 = .ok (.isub, 1) := by decide +kernel
theorem dL_write_35 : decode cL_write 35 = .ok (.iload 5, 2) := by decide +kernel
theorem dL_write_37 : decode cL_write 37 = .ok (.invokestatic 20, 3) := by decide +kernel
theorem dL_write_40 : decode cL_write 40 = .ok (.goto 14, 3) := by decide +kernel
theorem dL_write_43 : decode cL_write 43 = .ok (.iload 7, 2) := by decide +kernel
theorem dL_write_45 : decode cL_write 45 = .ok (.iload_n 3, 1) := by decide +kernel
theorem dL_write_46 : decode cL_write 46 = .ok (.iload 4, 2) := by decide +kernel
theorem dL_write_48 : decode cL_write 48 = .ok (.isub, 1) := by decide +kernel
theorem dL_write_49 : decode cL_write 49 = .ok (.iload 5, 2) := by decide +kernel
theorem dL_write_51 : decode cL_write 51 = .ok (.invokestatic 24, 3) := by decide +kernel
theorem dL_write_54 : decode cL_write 54 = .ok (.istore 8, 2) := by decide +kernel
theorem dL_write_56 : decode cL_write 56 = .ok (.iload 5, 2) := by decide +kernel
theorem dL_write_58 : decode cL_write 58 = .ok (.iload 6, 2) := by decide +kernel
theorem dL_write_60 : decode cL_write 60 = .ok (.ifCond .eq 18, 3) := by decide +kernel
theorem dL_write_63 : decode cL_write 63 = .ok (.iload 8, 2) := by decide +kernel
theorem dL_write_65 : decode cL_write 65 = .ok (.bipush 85, 2) := by decide +kernel
theorem dL_write_67 : decode cL_write 67 = .ok (.if_icmp .ne 7, 3) := by decide +kernel
theorem dL_write_70 : decode cL_write 70 = .ok (.iconst 1, 1) := by decide +kernel
theorem dL_write_71 : decode cL_write 71 = .ok (.goto 51, 3) := by decide +kernel
theorem dL_write_74 : decode cL_write 74 = .ok (.iconst 0, 1) := by decide +kernel
theorem dL_write_75 : decode cL_write 75 = .ok (.goto 47, 3) := by decide +kernel
theorem dL_write_78 : decode cL_write 78 = .ok (.iload 8, 2) := by decide +kernel
theorem dL_write_80 : decode cL_write 80 = .ok (.bipush 38, 2) := by decide +kernel
theorem dL_write_82 : decode cL_write 82 = .ok (.if_icmp .eq 10, 3) := by decide +kernel
theorem dL_write_85 : decode cL_write 85 = .ok (.iload 8, 2) := by decide +kernel
theorem dL_write_87 : decode cL_write 87 = .ok (.bipush 124, 2) := by decide +kernel
theorem dL_write_89 : decode cL_write 89 = .ok (.if_icmp .ne 7, 3) := by decide +kernel
theorem dL_write_92 : decode cL_write 92 = .ok (.iconst 1, 1) := by decide +kernel
theorem dL_write_93 : decode cL_write 93 = .ok (.goto 29, 3) := by decide +kernel
theorem dL_write_96 : decode cL_write 96 = .ok (.iload 8, 2) := by decide +kernel
theorem dL_write_98 : decode cL_write 98 = .ok (.bipush 33, 2) := by decide +kernel
theorem dL_write_100 : decode cL_write 100 = .ok (.if_icmp .eq 17, 3) := by decide +kernel
theorem dL_write_103 : decode cL_write 103 = .ok (.iload 8, 2) := by decide +kernel
theorem dL_write_105 : decode cL_write 105 = .ok (.bipush 69, 2) := by decide +kernel
theorem dL_write_107 : decode cL_write 107 = .ok (.if_icmp .eq 10, 3) := by decide +kernel
theorem dL_write_110 : decode cL_write 110 = .ok (.iload 8, 2) := by decide +kernel
theorem dL_write_112 : decode cL_write 112 = .ok (.bipush 65, 2) := by decide +kernel
theorem dL_write_114 : decode cL_write 114 = .ok (.if_icmp .ne 7, 3) := by decide +kernel
theorem dL_write_117 : decode cL_write 117 = .ok (.iconst 0, 1) := by decide +kernel
theorem dL_write_118 : decode cL_write 118 = .ok (.goto 4, 3) := by decide +kernel
theorem dL_write_121 : decode cL_write 121 = .ok (.iconst (-1), 1) := by decide +kernel
theorem dL_write_122 : decode cL_write 122 = .ok (.iadd, 1) := by decide +kernel
theorem dL_write_123 : decode cL_write 123 = .ok (.istore 5, 2) := by decide +kernel
theorem dL_write_125 : decode cL_write 125 = .ok (.iload 6, 2) := by decide +kernel
theorem dL_write_127 : decode cL_write 127 = .ok (.ifCond .ne 21, 3) := by decide +kernel
theorem dL_write_130 : decode cL_write 130 = .ok (.iload 8, 2) := by decide +kernel
theorem dL_write_132 : decode cL_write 132 = .ok (.bipush 69, 2) := by decide +kernel
theorem dL_write_134 : decode cL_write 134 = .ok (.if_icmp .eq 10, 3) := by decide +kernel
theorem dL_write_137 : decode cL_write 137 = .ok (.iload 8, 2) := by decide +kernel
theorem dL_write_139 : decode cL_write 139 = .ok (.bipush 65, 2) := by decide +kernel
theorem dL_write_141 : decode cL_write 141 = .ok (.if_icmp .ne 7, 3) := by decide +kernel
theorem dL_write_144 : decode cL_write 144 = .ok (.iconst 1, 1) := by decide +kernel
theorem dL_write_145 : decode cL_write 145 = .ok (.goto 4, 3) := by decide +kernel
theorem dL_write_148 : decode cL_write 148 = .ok (.iconst 0, 1) := by decide +kernel
theorem dL_write_149 : decode cL_write 149 = .ok (.istore 6, 2) := by decide +kernel
theorem dL_write_151 : decode cL_write 151 = .ok (.aload_n 0, 1) := by decide +kernel
theorem dL_write_152 : decode cL_write 152 = .ok (.iload 8, 2) := by decide +kernel
theorem dL_write_154 : decode cL_write 154 = .ok (.invokevirtual 27, 3) := by decide +kernel
theorem dL_write_157 : decode cL_write 157 = .ok (.iload 4, 2) := by decide +kernel
theorem dL_write_159 : decode cL_write 159 = .ok (.iconst 1, 1) := by decide +kernel
theorem dL_write_160 : decode cL_write 160 = .ok (.iadd, 1) := by decide +kernel
theorem dL_write_161 : decode cL_write 161 = .ok (.if_icmp .ne 10, 3) := by decide +kernel
theorem dL_write_164 : decode cL_write 164 = .ok (.iload 4, 2) := by decide +kernel
theorem dL_write_166 : decode cL_write 166 = .ok (.iconst 1, 1) := by decide +kernel
theorem dL_write_167 : decode cL_write 167 = .ok (.iadd, 1) := by decide +kernel
theorem dL_write_168 : decode cL_write 168 = .ok (.goto 6, 3) := by decide +kernel
theorem dL_write_171 : decode cL_write 171 = .ok (.sipush 1000, 3) := by decide +kernel
theorem dL_write_174 : decode cL_write 174 = .ok (.istore 4, 2) := by decide +kernel
theorem dL_write_176 : decode cL_write 176 = .ok (.goto (-167), 3) := by decide +kernel
theorem dL_write_179 : decode cL_write 179 = .ok (.iload 4, 2) := by decide +kernel
theorem dL_write_181 : decode cL_write 181 = .ok (.ireturn, 1) := by decide +kernel
theorem dL_build_0 : decode cL_build 0 = .ok (.iconst 1, 1) := by decide +kernel
theorem dL_build_1 : decode cL_build 1 = .ok (.aload_n 1, 1) := by decide +kernel
theorem dL_build_2 : decode cL_build 2 = .ok (.iload_n 2, 1) := by decide +kernel
theorem dL_build_3 : decode cL_build 3 = .ok (.invokestatic 16, 3) := by decide +kernel
theorem dL_build_6 : decode cL_build 6 = .ok (.bipush 8, 2) := by decide +kernel
theorem dL_build_8 : decode cL_build 8 = .ok (.invokestatic 10, 3) := by decide +kernel
theorem dL_build_11 : decode cL_build 11 = .ok (.iadd, 1) := by decide +kernel
theorem dL_build_12 : decode cL_build 12 = .ok (.istore_n 3, 1) := by decide +kernel
theorem dL_build_13 : decode cL_build 13 = .ok (.iconst 0, 1) := by decide +kernel
theorem dL_build_14 : decode cL_build 14 = .ok (.istore 4, 2) := by decide +kernel
theorem dL_build_16 : decode cL_build 16 = .ok (.iload 4, 2) := by decide +kernel
theorem dL_build_18 : decode cL_build 18 = .ok (.iload_n 3, 1) := by decide +kernel
theorem dL_build_19 : decode cL_build 19 = .ok (.if_icmp .ge 39, 3) := by decide +kernel
theorem dL_build_22 : decode cL_build 22 = .ok (.aload_n 1, 1) := by decide +kernel
theorem dL_build_23 : decode cL_build 23 = .ok (.iload_n 2, 1) := by decide +kernel
theorem dL_build_24 : decode cL_build 24 = .ok (.iconst 1, 1) := by decide +kernel
theorem dL_build_25 : decode cL_build 25 = .ok (.iadd, 1) := by decide +kernel
theorem dL_build_26 : decode cL_build 26 = .ok (.iload 4, 2) := by decide +kernel
theorem dL_build_28 : decode cL_build 28 = .ok (.iadd, 1) := by decide +kernel
theorem dL_build_29 : decode cL_build 29 = .ok (.invokestatic 16, 3) := by decide +kernel
theorem dL_build_32 : decode cL_build 32 = .ok (.istore 5, 2) := by decide +kernel
theorem dL_build_34 : decode cL_build 34 = .ok (.aload_n 0, 1) := by decide +kernel
theorem dL_build_35 : decode cL_build 35 = .ok (.iload 5, 2) := by decide +kernel
theorem dL_build_37 : decode cL_build 37 = .ok (.bipush 16, 2) := by decide +kernel
theorem dL_build_39 : decode cL_build 39 = .ok (.invokestatic 10, 3) := by decide +kernel
theorem dL_build_42 : decode cL_build 42 = .ok (.invokevirtual 33, 3) := by decide +kernel
theorem dL_build_45 : decode cL_build 45 = .ok (.iload 4, 2) := by decide +kernel
theorem dL_build_47 : decode cL_build 47 = .ok (.if_icmp .eq 5, 3) := by decide +kernel
theorem dL_build_50 : decode cL_build 50 = .ok (.iconst (-1), 1) := by decide +kernel
theorem dL_build_51 : decode cL_build 51 = .ok (.ireturn, 1) := by decide +kernel
theorem dL_build_52 : decode cL_build 52 = .ok (.iinc 4 1, 3) := by decide +kernel
theorem dL_build_55 : decode cL_build 55 = .ok (.goto (-39), 3) := by decide +kernel
theorem dL_build_58 : decode cL_build 58 = .ok (.iconst 0, 1) := by decide +kernel
theorem dL_build_59 : decode cL_build 59 = .ok (.istore 4, 2) := by decide +kernel
theorem dL_build_61 : decode cL_build 61 = .ok (.iload 4, 2) := by decide +kernel
theorem dL_build_63 : decode cL_build 63 = .ok (.iload_n 3, 1) := by decide +kernel
theorem dL_build_64 : decode cL_build 64 = .ok (.if_icmp .ge 92, 3) := by decide +kernel
theorem dL_build_67 : decode cL_build 67 = .ok (.aload_n 1, 1) := by decide +kernel
theorem dL_build_68 : decode cL_build 68 = .ok (.iload_n 2, 1) := by decide +kernel
theorem dL_build_69 : decode cL_build 69 = .ok (.iconst 1, 1) := by decide +kernel
theorem dL_build_70 : decode cL_build 70 = .ok (.iadd, 1) := by decide +kernel
theorem dL_build_71 : decode cL_build 71 = .ok (.iload 4, 2) := by decide +kernel
theorem dL_build_73 : decode cL_build 73 = .ok (.iadd, 1) := by decide +kernel
theorem dL_build_74 : decode cL_build 74 = .ok (.invokestatic 16, 3) := by decide +kernel
theorem dL_build_77 : decode cL_build 77 = .ok (.istore 5, 2) := by decide +kernel
theorem dL_build_79 : decode cL_build 79 = .ok (.iload 5, 2) := by decide +kernel
theorem dL_build_81 : decode cL_build 81 = .ok (.iconst 4, 1) := by decide +kernel
theorem dL_build_82 : decode cL_build 82 = .ok (.ishr, 1) := by decide +kernel
theorem dL_build_83 : decode cL_build 83 = .ok (.iconst 4, 1) := by decide +kernel
theorem dL_build_84 : decode cL_build 84 = .ok (.invokestatic 10, 3) := by decide +kernel
theorem dL_build_87 : decode cL_build 87 = .ok (.istore 6, 2) := by decide +kernel
theorem dL_build_89 : decode cL_build 89 = .ok (.iconst 0, 1) := by decide +kernel
theorem dL_build_90 : decode cL_build 90 = .ok (.istore 7, 2) := by decide +kernel
theorem dL_build_92 : decode cL_build 92 = .ok (.iload 7, 2) := by decide +kernel
theorem dL_build_94 : decode cL_build 94 = .ok (.iload 6, 2) := by decide +kernel
theorem dL_build_96 : decode cL_build 96 = .ok (.if_icmp .ge 54, 3) := by decide +kernel
theorem dL_build_99 : decode cL_build 99 = .ok (.iload 5, 2) := by decide +kernel
theorem dL_build_101 : decode cL_build 101 = .ok (.bipush 6, 2) := by decide +kernel
theorem dL_build_103 : decode cL_build 103 = .ok (.iconst 4, 1) := by decide +kernel
theorem dL_build_104 : decode cL_build 104 = .ok (.iload 7, 2) := by decide +kernel
theorem dL_build_106 : decode cL_build 106 = .ok (.imul, 1) := by decide +kernel
theorem dL_build_107 : decode cL_build 107 = .ok (.iadd, 1) := by decide +kernel
theorem dL_build_108 : decode cL_build 108 = .ok (.ishr, 1) := by decide +kernel
theorem dL_build_109 : decode cL_build 109 = .ok (.iload_n 3, 1) := by decide +kernel
theorem dL_build_110 : decode cL_build 110 = .ok (.invokestatic 10, 3) := by decide +kernel
theorem dL_build_113 : decode cL_build 113 = .ok (.istore 8, 2) := by decide +kernel
theorem dL_build_115 : decode cL_build 115 = .ok (.aload_n 0, 1) := by decide +kernel
theorem dL_build_116 : decode cL_build 116 = .ok (.iload 4, 2) := by decide +kernel
theorem dL_build_118 : decode cL_build 118 = .ok (.iconst 1, 1) := by decide +kernel
theorem dL_build_119 : decode cL_build 119 = .ok (.invokevirtual 36, 3) := by decide +kernel
theorem dL_build_122 : decode cL_build 122 = .ok (.iload 8, 2) := by decide +kernel
theorem dL_build_124 : decode cL_build 124 = .ok (.ishr, 1) := by decide +kernel
theorem dL_build_125 : decode cL_build 125 = .ok (.iconst 1, 1) := by decide +kernel
theorem dL_build_126 : decode cL_build 126 = .ok (.iand, 1) := by decide +kernel
theorem dL_build_127 : decode cL_build 127 = .ok (.ifCond .ne 17, 3) := by decide +kernel
theorem dL_build_130 : decode cL_build 130 = .ok (.aload_n 0, 1) := by decide +kernel
theorem dL_build_131 : decode cL_build 131 = .ok (.iload 4, 2) := by decide +kernel
theorem dL_build_133 : decode cL_build 133 = .ok (.iload 8, 2) := by decide +kernel
theorem dL_build_135 : decode cL_build 135 = .ok (.invokevirtual 39, 3) := by decide +kernel
theorem dL_build_138 : decode cL_build 138 = .ok (.iconst 1, 1) := by decide +kernel
theorem dL_build_139 : decode cL_build 139 = .ok (.if_icmp .eq 5, 3) := by decide +kernel
theorem dL_build_142 : decode cL_build 142 = .ok (.iconst (-1), 1) := by decide +kernel
theorem dL_build_143 : decode cL_build 143 = .ok (.ireturn, 1) := by decide +kernel
theorem dL_build_144 : decode cL_build 144 = .ok (.iinc 7 1, 3) := by decide +kernel
theorem dL_build_147 : decode cL_build 147 = .ok (.goto (-55), 3) := by decide +kernel
theorem dL_build_150 : decode cL_build 150 = .ok (.iinc 4 1, 3) := by decide +kernel
theorem dL_build_153 : decode cL_build 153 = .ok (.goto (-92), 3) := by decide +kernel
theorem dL_build_156 : decode cL_build 156 = .ok (.aload_n 1, 1) := by decide +kernel
theorem dL_build_157 : decode cL_build 157 = .ok (.iload_n 2, 1) := by decide +kernel
theorem dL_build_158 : decode cL_build 158 = .ok (.bipush 9, 2) := by decide +kernel
theorem dL_build_160 : decode cL_build 160 = .ok (.iadd, 1) := by decide +kernel
theorem dL_build_161 : decode cL_build 161 = .ok (.invokestatic 16, 3) := by decide +kernel
theorem dL_build_164 : decode cL_build 164 = .ok (.bipush 8, 2) := by decide +kernel
theorem dL_build_166 : decode cL_build 166 = .ok (.invokestatic 10, 3) := by decide +kernel
theorem dL_build_169 : decode cL_build 169 = .ok (.iconst 1, 1) := by decide +kernel
theorem dL_build_170 : decode cL_build 170 = .ok (.isub, 1) := by decide +kernel
theorem dL_build_171 : decode cL_build 171 = .ok (.istore 4, 2) := by decide +kernel
theorem dL_build_173 : decode cL_build 173 = .ok (.aload_n 0, 1) := by decide +kernel
theorem dL_build_174 : decode cL_build 174 = .ok (.iload 4, 2) := by decide +kernel
theorem dL_build_176 : decode cL_build 176 = .ok (.iconst 3, 1) := by decide +kernel
theorem dL_build_177 : decode cL_build 177 = .ok (.if_icmp .le 7, 3) := by decide +kernel
theorem dL_build_180 : decode cL_build 180 = .ok (.iconst (-1), 1) := by decide +kernel
theorem dL_build_181 : decode cL_build 181 = .ok (.goto 5, 3) := by decide +kernel
theorem dL_build_184 : decode cL_build 184 = .ok (.iload 4, 2) := by decide +kernel
theorem dL_build_186 : decode cL_build 186 = .ok (.invokevirtual 42, 3) := by decide +kernel
theorem dL_build_189 : decode cL_build 189 = .ok (.iconst (-1), 1) := by decide +kernel
theorem dL_build_190 : decode cL_build 190 = .ok (.if_icmp .ne 7, 3) := by decide +kernel
theorem dL_build_193 : decode cL_build 193 = .ok (.iload_n 3, 1) := by decide +kernel
theorem dL_build_194 : decode cL_build 194 = .ok (.goto 4, 3) := by decide +kernel
theorem dL_build_197 : decode cL_build 197 = .ok (.iconst (-1), 1) := by decide +kernel
theorem dL_build_198 : decode cL_build 198 = .ok (.ireturn, 1) := by decide +kernel
theorem dL_into_0 : decode cL_into 0 = .ok (.iconst 0, 1) := by decide +kernel
theorem dL_into_1 : decode cL_into 1 = .ok (.istore_n 2, 1) := by decide +kernel
theorem dL_into_2 : decode cL_into 2 = .ok (.iconst 0, 1) := by decide +kernel
theorem dL_into_3 : decode cL_into 3 = .ok (.istore_n 3, 1) := by decide +kernel
theorem dL_into_4 : decode cL_into 4 = .ok (.iload_n 3, 1) := by decide +kernel
theorem dL_into_5 : decode cL_into 5 = .ok (.aload_n 0, 1) := by decide +kernel
theorem dL_into_6 : decode cL_into 6 = .ok (.iconst 0, 1) := by decide +kernel
theorem dL_into_7 : decode cL_into 7 = .ok (.invokevirtual 45, 3) := by decide +kernel
theorem dL_into_10 : decode cL_into 10 = .ok (.if_icmp .ge 30, 3) := by decide +kernel
theorem dL_into_13 : decode cL_into 13 = .ok (.iload_n 2, 1) := by decide +kernel
theorem dL_into_14 : decode cL_into 14 = .ok (.aload_n 0, 1) := by decide +kernel
theorem dL_into_15 : decode cL_into 15 = .ok (.iload_n 3, 1) := by decide +kernel
theorem dL_into_16 : decode cL_into 16 = .ok (.iconst 1, 1) := by decide +kernel
theorem dL_into_17 : decode cL_into 17 = .ok (.invokevirtual 36, 3) := by decide +kernel
theorem dL_into_20 : decode cL_into 20 = .ok (.iload_n 1, 1) := by decide +kernel
theorem dL_into_21 : decode cL_into 21 = .ok (.iand, 1) := by decide +kernel
theorem dL_into_22 : decode cL_into 22 = .ok (.ifCond .eq 9, 3) := by decide +kernel
theorem dL_into_25 : decode cL_into 25 = .ok (.iconst 1, 1) := by decide +kernel
theorem dL_into_26 : decode cL_into 26 = .ok (.iload_n 3, 1) := by decide +kernel
theorem dL_into_27 : decode cL_into 27 = .ok (.ishl, 1) := by decide +kernel
theorem dL_into_28 : decode cL_into 28 = .ok (.goto 4, 3) := by decide +kernel
theorem dL_into_31 : decode cL_into 31 = .ok (.iconst 0, 1) := by decide +kernel
theorem dL_into_32 : decode cL_into 32 = .ok (.ior, 1) := by decide +kernel
theorem dL_into_33 : decode cL_into 33 = .ok (.istore_n 2, 1) := by decide +kernel
theorem dL_into_34 : decode cL_into 34 = .ok (.iinc 3 1, 3) := by decide +kernel
theorem dL_into_37 : decode cL_into 37 = .ok (.goto (-33), 3) := by decide +kernel
theorem dL_into_40 : decode cL_into 40 = .ok (.iload_n 2, 1) := by decide +kernel
theorem dL_into_41 : decode cL_into 41 = .ok (.ireturn, 1) := by decide +kernel
theorem dL_reached_0 : decode cL_reached 0 = .ok (.aload_n 0, 1) := by decide +kernel
theorem dL_reached_1 : decode cL_reached 1 = .ok (.iload_n 1, 1) := by decide +kernel
theorem dL_reached_2 : decode cL_reached 2 = .ok (.iconst 1, 1) := by decide +kernel
theorem dL_reached_3 : decode cL_reached 3 = .ok (.invokevirtual 36, 3) := by decide +kernel
theorem dL_reached_6 : decode cL_reached 6 = .ok (.iload_n 2, 1) := by decide +kernel
theorem dL_reached_7 : decode cL_reached 7 = .ok (.iand, 1) := by decide +kernel
theorem dL_reached_8 : decode cL_reached 8 = .ok (.istore_n 3, 1) := by decide +kernel
theorem dL_reached_9 : decode cL_reached 9 = .ok (.iload_n 3, 1) := by decide +kernel
theorem dL_reached_10 : decode cL_reached 10 = .ok (.istore 4, 2) := by decide +kernel
theorem dL_reached_12 : decode cL_reached 12 = .ok (.iload 4, 2) := by decide +kernel
theorem dL_reached_14 : decode cL_reached 14 = .ok (.istore_n 3, 1) := by decide +kernel
theorem dL_reached_15 : decode cL_reached 15 = .ok (.iconst 0, 1) := by decide +kernel
theorem dL_reached_16 : decode cL_reached 16 = .ok (.istore 5, 2) := by decide +kernel
theorem dL_reached_18 : decode cL_reached 18 = .ok (.iload 5, 2) := by decide +kernel
theorem dL_reached_20 : decode cL_reached 20 = .ok (.aload_n 0, 1) := by decide +kernel
theorem dL_reached_21 : decode cL_reached 21 = .ok (.iconst 0, 1) := by decide +kernel
theorem dL_reached_22 : decode cL_reached 22 = .ok (.invokevirtual 45, 3) := by decide +kernel
theorem dL_reached_25 : decode cL_reached 25 = .ok (.if_icmp .ge 37, 3) := by decide +kernel
theorem dL_reached_28 : decode cL_reached 28 = .ok (.iload 4, 2) := by decide +kernel
theorem dL_reached_30 : decode cL_reached 30 = .ok (.iload_n 3, 1) := by decide +kernel
theorem dL_reached_31 : decode cL_reached 31 = .ok (.iload 5, 2) := by decide +kernel
theorem dL_reached_33 : decode cL_reached 33 = .ok (.ishr, 1) := by decide +kernel
theorem dL_reached_34 : decode cL_reached 34 = .ok (.iconst 1, 1) := by decide +kernel
theorem dL_reached_35 : decode cL_reached 35 = .ok (.iand, 1) := by decide +kernel
theorem dL_reached_36 : decode cL_reached 36 = .ok (.iconst 1, 1) := by decide +kernel
theorem dL_reached_37 : decode cL_reached 37 = .ok (.if_icmp .ne 15, 3) := by decide +kernel
theorem dL_reached_40 : decode cL_reached 40 = .ok (.aload_n 0, 1) := by decide +kernel
theorem dL_reached_41 : decode cL_reached 41 = .ok (.iload 5, 2) := by decide +kernel
theorem dL_reached_43 : decode cL_reached 43 = .ok (.iconst 1, 1) := by decide +kernel
theorem dL_reached_44 : decode cL_reached 44 = .ok (.invokevirtual 36, 3) := by decide +kernel
theorem dL_reached_47 : decode cL_reached 47 = .ok (.iload_n 2, 1) := by decide +kernel
theorem dL_reached_48 : decode cL_reached 48 = .ok (.iand, 1) := by decide +kernel
theorem dL_reached_49 : decode cL_reached 49 = .ok (.goto 4, 3) := by decide +kernel
theorem dL_reached_52 : decode cL_reached 52 = .ok (.iconst 0, 1) := by decide +kernel
theorem dL_reached_53 : decode cL_reached 53 = .ok (.ior, 1) := by decide +kernel
theorem dL_reached_54 : decode cL_reached 54 = .ok (.istore 4, 2) := by decide +kernel
theorem dL_reached_56 : decode cL_reached 56 = .ok (.iinc 5 1, 3) := by decide +kernel
theorem dL_reached_59 : decode cL_reached 59 = .ok (.goto (-41), 3) := by decide +kernel
theorem dL_reached_62 : decode cL_reached 62 = .ok (.iload 4, 2) := by decide +kernel
theorem dL_reached_64 : decode cL_reached 64 = .ok (.iload_n 3, 1) := by decide +kernel
theorem dL_reached_65 : decode cL_reached 65 = .ok (.if_icmp .ne (-53), 3) := by decide +kernel
theorem dL_reached_68 : decode cL_reached 68 = .ok (.iload_n 3, 1) := by decide +kernel
theorem dL_reached_69 : decode cL_reached 69 = .ok (.ireturn, 1) := by decide +kernel
theorem dL_stays_0 : decode cL_stays 0 = .ok (.iconst 0, 1) := by decide +kernel
theorem dL_stays_1 : decode cL_stays 1 = .ok (.istore_n 2, 1) := by decide +kernel
theorem dL_stays_2 : decode cL_stays 2 = .ok (.aload_n 0, 1) := by decide +kernel
theorem dL_stays_3 : decode cL_stays 3 = .ok (.iconst 4, 1) := by decide +kernel
theorem dL_stays_4 : decode cL_stays 4 = .ok (.invokevirtual 45, 3) := by decide +kernel
theorem dL_stays_7 : decode cL_stays 7 = .ok (.istore_n 3, 1) := by decide +kernel
theorem dL_stays_8 : decode cL_stays 8 = .ok (.iconst 0, 1) := by decide +kernel
theorem dL_stays_9 : decode cL_stays 9 = .ok (.istore 4, 2) := by decide +kernel
theorem dL_stays_11 : decode cL_stays 11 = .ok (.iload 4, 2) := by decide +kernel
theorem dL_stays_13 : decode cL_stays 13 = .ok (.aload_n 0, 1) := by decide +kernel
theorem dL_stays_14 : decode cL_stays 14 = .ok (.iconst 0, 1) := by decide +kernel
theorem dL_stays_15 : decode cL_stays 15 = .ok (.invokevirtual 45, 3) := by decide +kernel
theorem dL_stays_18 : decode cL_stays 18 = .ok (.if_icmp .ge 78, 3) := by decide +kernel
theorem dL_stays_21 : decode cL_stays 21 = .ok (.iload_n 1, 1) := by decide +kernel
theorem dL_stays_22 : decode cL_stays 22 = .ok (.iload 4, 2) := by decide +kernel
theorem dL_stays_24 : decode cL_stays 24 = .ok (.ishr, 1) := by decide +kernel
theorem dL_stays_25 : decode cL_stays 25 = .ok (.iconst 1, 1) := by decide +kernel
theorem dL_stays_26 : decode cL_stays 26 = .ok (.iand, 1) := by decide +kernel
theorem dL_stays_27 : decode cL_stays 27 = .ok (.iconst 1, 1) := by decide +kernel
theorem dL_stays_28 : decode cL_stays 28 = .ok (.if_icmp .ne 27, 3) := by decide +kernel
theorem dL_stays_31 : decode cL_stays 31 = .ok (.iload_n 3, 1) := by decide +kernel
theorem dL_stays_32 : decode cL_stays 32 = .ok (.iconst (-1), 1) := by decide +kernel
theorem dL_stays_33 : decode cL_stays 33 = .ok (.if_icmp .eq 18, 3) := by decide +kernel
theorem dL_stays_36 : decode cL_stays 36 = .ok (.aload_n 0, 1) := by decide +kernel
theorem dL_stays_37 : decode cL_stays 37 = .ok (.iload 4, 2) := by decide +kernel
theorem dL_stays_39 : decode cL_stays 39 = .ok (.iconst 0, 1) := by decide +kernel
theorem dL_stays_40 : decode cL_stays 40 = .ok (.invokevirtual 36, 3) := by decide +kernel
theorem dL_stays_43 : decode cL_stays 43 = .ok (.iload_n 3, 1) := by decide +kernel
theorem dL_stays_44 : decode cL_stays 44 = .ok (.ishr, 1) := by decide +kernel
theorem dL_stays_45 : decode cL_stays 45 = .ok (.iconst 1, 1) := by decide +kernel
theorem dL_stays_46 : decode cL_stays 46 = .ok (.iand, 1) := by decide +kernel
theorem dL_stays_47 : decode cL_stays 47 = .ok (.iconst 1, 1) := by decide +kernel
theorem dL_stays_48 : decode cL_stays 48 = .ok (.if_icmp .ne 7, 3) := by decide +kernel
theorem dL_stays_51 : decode cL_stays 51 = .ok (.iconst 1, 1) := by decide +kernel
theorem dL_stays_52 : decode cL_stays 52 = .ok (.goto 4, 3) := by decide +kernel
theorem dL_stays_55 : decode cL_stays 55 = .ok (.iconst 0, 1) := by decide +kernel
theorem dL_stays_56 : decode cL_stays 56 = .ok (.istore 5, 2) := by decide +kernel
theorem dL_stays_58 : decode cL_stays 58 = .ok (.iload_n 2, 1) := by decide +kernel
theorem dL_stays_59 : decode cL_stays 59 = .ok (.iload 5, 2) := by decide +kernel
theorem dL_stays_61 : decode cL_stays 61 = .ok (.ifCond .eq 26, 3) := by decide +kernel
theorem dL_stays_64 : decode cL_stays 64 = .ok (.aload_n 0, 1) := by decide +kernel
theorem dL_stays_65 : decode cL_stays 65 = .ok (.iload 4, 2) := by decide +kernel
theorem dL_stays_67 : decode cL_stays 67 = .ok (.iload_n 1, 1) := by decide +kernel
theorem dL_stays_68 : decode cL_stays 68 = .ok (.invokestatic 48, 3) := by decide +kernel
theorem dL_stays_71 : decode cL_stays 71 = .ok (.iload 4, 2) := by decide +kernel
theorem dL_stays_73 : decode cL_stays 73 = .ok (.ishr, 1) := by decide +kernel
theorem dL_stays_74 : decode cL_stays 74 = .ok (.iconst 1, 1) := by decide +kernel
theorem dL_stays_75 : decode cL_stays 75 = .ok (.iand, 1) := by decide +kernel
theorem dL_stays_76 : decode cL_stays 76 = .ok (.iconst 1, 1) := by decide +kernel
theorem dL_stays_77 : decode cL_stays 77 = .ok (.if_icmp .ne 10, 3) := by decide +kernel
theorem dL_stays_80 : decode cL_stays 80 = .ok (.iconst 1, 1) := by decide +kernel
theorem dL_stays_81 : decode cL_stays 81 = .ok (.iload 4, 2) := by decide +kernel
theorem dL_stays_83 : decode cL_stays 83 = .ok (.ishl, 1) := by decide +kernel
theorem dL_stays_84 : decode cL_stays 84 = .ok (.goto 4, 3) := by decide +kernel
theorem dL_stays_87 : decode cL_stays 87 = .ok (.iconst 0, 1) := by decide +kernel
theorem dL_stays_88 : decode cL_stays 88 = .ok (.ior, 1) := by decide +kernel
theorem dL_stays_89 : decode cL_stays 89 = .ok (.istore_n 2, 1) := by decide +kernel
theorem dL_stays_90 : decode cL_stays 90 = .ok (.iinc 4 1, 3) := by decide +kernel
theorem dL_stays_93 : decode cL_stays 93 = .ok (.goto (-82), 3) := by decide +kernel
theorem dL_stays_96 : decode cL_stays 96 = .ok (.iconst 0, 1) := by decide +kernel
theorem dL_stays_97 : decode cL_stays 97 = .ok (.istore 4, 2) := by decide +kernel
theorem dL_stays_99 : decode cL_stays 99 = .ok (.iconst 0, 1) := by decide +kernel
theorem dL_stays_100 : decode cL_stays 100 = .ok (.istore 5, 2) := by decide +kernel
theorem dL_stays_102 : decode cL_stays 102 = .ok (.iload 5, 2) := by decide +kernel
theorem dL_stays_104 : decode cL_stays 104 = .ok (.aload_n 0, 1) := by decide +kernel
theorem dL_stays_105 : decode cL_stays 105 = .ok (.iconst 0, 1) := by decide +kernel
theorem dL_stays_106 : decode cL_stays 106 = .ok (.invokevirtual 45, 3) := by decide +kernel
theorem dL_stays_109 : decode cL_stays 109 = .ok (.if_icmp .ge 66, 3) := by decide +kernel
theorem dL_stays_112 : decode cL_stays 112 = .ok (.iload_n 1, 1) := by decide +kernel
theorem dL_stays_113 : decode cL_stays 113 = .ok (.iload 5, 2) := by decide +kernel
theorem dL_stays_115 : decode cL_stays 115 = .ok (.ishr, 1) := by decide +kernel
theorem dL_stays_116 : decode cL_stays 116 = .ok (.iconst 1, 1) := by decide +kernel
theorem dL_stays_117 : decode cL_stays 117 = .ok (.iand, 1) := by decide +kernel
theorem dL_stays_118 : decode cL_stays 118 = .ok (.iconst 1, 1) := by decide +kernel
theorem dL_stays_119 : decode cL_stays 119 = .ok (.if_icmp .ne 29, 3) := by decide +kernel
theorem dL_stays_122 : decode cL_stays 122 = .ok (.iload_n 2, 1) := by decide +kernel
theorem dL_stays_123 : decode cL_stays 123 = .ok (.iload 5, 2) := by decide +kernel
theorem dL_stays_125 : decode cL_stays 125 = .ok (.ishr, 1) := by decide +kernel
theorem dL_stays_126 : decode cL_stays 126 = .ok (.iconst 1, 1) := by decide +kernel
theorem dL_stays_127 : decode cL_stays 127 = .ok (.iand, 1) := by decide +kernel
theorem dL_stays_128 : decode cL_stays 128 = .ok (.iconst 1, 1) := by decide +kernel
theorem dL_stays_129 : decode cL_stays 129 = .ok (.if_icmp .eq 15, 3) := by decide +kernel
theorem dL_stays_132 : decode cL_stays 132 = .ok (.aload_n 0, 1) := by decide +kernel
theorem dL_stays_133 : decode cL_stays 133 = .ok (.iload 5, 2) := by decide +kernel
theorem dL_stays_135 : decode cL_stays 135 = .ok (.iload_n 1, 1) := by decide +kernel
theorem dL_stays_136 : decode cL_stays 136 = .ok (.invokestatic 48, 3) := by decide +kernel
theorem dL_stays_139 : decode cL_stays 139 = .ok (.iload_n 2, 1) := by decide +kernel
theorem dL_stays_140 : decode cL_stays 140 = .ok (.iand, 1) := by decide +kernel
theorem dL_stays_141 : decode cL_stays 141 = .ok (.ifCond .eq 7, 3) := by decide +kernel
theorem dL_stays_144 : decode cL_stays 144 = .ok (.iconst 1, 1) := by decide +kernel
theorem dL_stays_145 : decode cL_stays 145 = .ok (.goto 4, 3) := by decide +kernel
theorem dL_stays_148 : decode cL_stays 148 = .ok (.iconst 0, 1) := by decide +kernel
theorem dL_stays_149 : decode cL_stays 149 = .ok (.istore 6, 2) := by decide +kernel
theorem dL_stays_151 : decode cL_stays 151 = .ok (.iload 4, 2) := by decide +kernel
theorem dL_stays_153 : decode cL_stays 153 = .ok (.iload 6, 2) := by decide +kernel
theorem dL_stays_155 : decode cL_stays 155 = .ok (.ifCond .eq 10, 3) := by decide +kernel
theorem dL_stays_158 : decode cL_stays 158 = .ok (.iconst 1, 1) := by decide +kernel
theorem dL_stays_159 : decode cL_stays 159 = .ok (.iload 5, 2) := by decide +kernel
theorem dL_stays_161 : decode cL_stays 161 = .ok (.ishl, 1) := by decide +kernel
theorem dL_stays_162 : decode cL_stays 162 = .ok (.goto 4, 3) := by decide +kernel
theorem dL_stays_165 : decode cL_stays 165 = .ok (.iconst 0, 1) := by decide +kernel
theorem dL_stays_166 : decode cL_stays 166 = .ok (.ior, 1) := by decide +kernel
theorem dL_stays_167 : decode cL_stays 167 = .ok (.istore 4, 2) := by decide +kernel
theorem dL_stays_169 : decode cL_stays 169 = .ok (.iinc 5 1, 3) := by decide +kernel
theorem dL_stays_172 : decode cL_stays 172 = .ok (.goto (-70), 3) := by decide +kernel
theorem dL_stays_175 : decode cL_stays 175 = .ok (.iload 4, 2) := by decide +kernel
theorem dL_stays_177 : decode cL_stays 177 = .ok (.ireturn, 1) := by decide +kernel
theorem dL_comes_0 : decode cL_comes 0 = .ok (.iload_n 2, 1) := by decide +kernel
theorem dL_comes_1 : decode cL_comes 1 = .ok (.iload_n 3, 1) := by decide +kernel
theorem dL_comes_2 : decode cL_comes 2 = .ok (.iand, 1) := by decide +kernel
theorem dL_comes_3 : decode cL_comes 3 = .ok (.istore 4, 2) := by decide +kernel
theorem dL_comes_5 : decode cL_comes 5 = .ok (.iload 4, 2) := by decide +kernel
theorem dL_comes_7 : decode cL_comes 7 = .ok (.istore 5, 2) := by decide +kernel
theorem dL_comes_9 : decode cL_comes 9 = .ok (.iconst 0, 1) := by decide +kernel
theorem dL_comes_10 : decode cL_comes 10 = .ok (.istore 6, 2) := by decide +kernel
theorem dL_comes_12 : decode cL_comes 12 = .ok (.iload 6, 2) := by decide +kernel
theorem dL_comes_14 : decode cL_comes 14 = .ok (.aload_n 0, 1) := by decide +kernel
theorem dL_comes_15 : decode cL_comes 15 = .ok (.iconst 0, 1) := by decide +kernel
theorem dL_comes_16 : decode cL_comes 16 = .ok (.invokevirtual 45, 3) := by decide +kernel
theorem dL_comes_19 : decode cL_comes 19 = .ok (.if_icmp .ge 35, 3) := by decide +kernel
theorem dL_comes_22 : decode cL_comes 22 = .ok (.iload_n 1, 1) := by decide +kernel
theorem dL_comes_23 : decode cL_comes 23 = .ok (.aload_n 0, 1) := by decide +kernel
theorem dL_comes_24 : decode cL_comes 24 = .ok (.iload 4, 2) := by decide +kernel
theorem dL_comes_26 : decode cL_comes 26 = .ok (.invokestatic 52, 3) := by decide +kernel
theorem dL_comes_29 : decode cL_comes 29 = .ok (.iand, 1) := by decide +kernel
theorem dL_comes_30 : decode cL_comes 30 = .ok (.iload 5, 2) := by decide +kernel
theorem dL_comes_32 : decode cL_comes 32 = .ok (.iconst (-1), 1) := by decide +kernel
theorem dL_comes_33 : decode cL_comes 33 = .ok (.ixor, 1) := by decide +kernel
theorem dL_comes_34 : decode cL_comes 34 = .ok (.iand, 1) := by decide +kernel
theorem dL_comes_35 : decode cL_comes 35 = .ok (.istore 7, 2) := by decide +kernel
theorem dL_comes_37 : decode cL_comes 37 = .ok (.iload 5, 2) := by decide +kernel
theorem dL_comes_39 : decode cL_comes 39 = .ok (.iload 7, 2) := by decide +kernel
theorem dL_comes_41 : decode cL_comes 41 = .ok (.ior, 1) := by decide +kernel
theorem dL_comes_42 : decode cL_comes 42 = .ok (.istore 5, 2) := by decide +kernel
theorem dL_comes_44 : decode cL_comes 44 = .ok (.iload 7, 2) := by decide +kernel
theorem dL_comes_46 : decode cL_comes 46 = .ok (.istore 4, 2) := by decide +kernel
theorem dL_comes_48 : decode cL_comes 48 = .ok (.iinc 6 1, 3) := by decide +kernel
theorem dL_comes_51 : decode cL_comes 51 = .ok (.goto (-39), 3) := by decide +kernel
theorem dL_comes_54 : decode cL_comes 54 = .ok (.iload 5, 2) := by decide +kernel
theorem dL_comes_56 : decode cL_comes 56 = .ok (.ireturn, 1) := by decide +kernel
theorem dL_due_0 : decode cL_due 0 = .ok (.iconst 1, 1) := by decide +kernel
theorem dL_due_1 : decode cL_due 1 = .ok (.aload_n 0, 1) := by decide +kernel
theorem dL_due_2 : decode cL_due 2 = .ok (.iconst 0, 1) := by decide +kernel
theorem dL_due_3 : decode cL_due 3 = .ok (.invokevirtual 45, 3) := by decide +kernel
theorem dL_due_6 : decode cL_due 6 = .ok (.ishl, 1) := by decide +kernel
theorem dL_due_7 : decode cL_due 7 = .ok (.iconst 1, 1) := by decide +kernel
theorem dL_due_8 : decode cL_due 8 = .ok (.isub, 1) := by decide +kernel
theorem dL_due_9 : decode cL_due 9 = .ok (.istore 6, 2) := by decide +kernel
theorem dL_due_11 : decode cL_due 11 = .ok (.iload 6, 2) := by decide +kernel
theorem dL_due_13 : decode cL_due 13 = .ok (.iload_n 3, 1) := by decide +kernel
theorem dL_due_14 : decode cL_due 14 = .ok (.iconst (-1), 1) := by decide +kernel
theorem dL_due_15 : decode cL_due 15 = .ok (.ixor, 1) := by decide +kernel
theorem dL_due_16 : decode cL_due 16 = .ok (.iand, 1) := by decide +kernel
theorem dL_due_17 : decode cL_due 17 = .ok (.istore 7, 2) := by decide +kernel
theorem dL_due_19 : decode cL_due 19 = .ok (.iload 6, 2) := by decide +kernel
theorem dL_due_21 : decode cL_due 21 = .ok (.iload 4, 2) := by decide +kernel
theorem dL_due_23 : decode cL_due 23 = .ok (.iconst (-1), 1) := by decide +kernel
theorem dL_due_24 : decode cL_due 24 = .ok (.ixor, 1) := by decide +kernel
theorem dL_due_25 : decode cL_due 25 = .ok (.iand, 1) := by decide +kernel
theorem dL_due_26 : decode cL_due 26 = .ok (.istore 8, 2) := by decide +kernel
theorem dL_due_28 : decode cL_due 28 = .ok (.iload_n 1, 1) := by decide +kernel
theorem dL_due_29 : decode cL_due 29 = .ok (.bipush 69, 2) := by decide +kernel
theorem dL_due_31 : decode cL_due 31 = .ok (.if_icmp .ne 62, 3) := by decide +kernel
theorem dL_due_34 : decode cL_due 34 = .ok (.iload_n 2, 1) := by decide +kernel
theorem dL_due_35 : decode cL_due 35 = .ok (.bipush 88, 2) := by decide +kernel
theorem dL_due_37 : decode cL_due 37 = .ok (.if_icmp .ne 14, 3) := by decide +kernel
theorem dL_due_40 : decode cL_due 40 = .ok (.aload_n 0, 1) := by decide +kernel
theorem dL_due_41 : decode cL_due 41 = .ok (.iload_n 3, 1) := by decide +kernel
theorem dL_due_42 : decode cL_due 42 = .ok (.iload 5, 2) := by decide +kernel
theorem dL_due_44 : decode cL_due 44 = .ok (.iand, 1) := by decide +kernel
theorem dL_due_45 : decode cL_due 45 = .ok (.invokestatic 52, 3) := by decide +kernel
theorem dL_due_48 : decode cL_due 48 = .ok (.goto 44, 3) := by decide +kernel
theorem dL_due_51 : decode cL_due 51 = .ok (.iload_n 2, 1) := by decide +kernel
theorem dL_due_52 : decode cL_due 52 = .ok (.bipush 70, 2) := by decide +kernel
theorem dL_due_54 : decode cL_due 54 = .ok (.if_icmp .ne 15, 3) := by decide +kernel
theorem dL_due_57 : decode cL_due 57 = .ok (.aload_n 0, 1) := by decide +kernel
theorem dL_due_58 : decode cL_due 58 = .ok (.iload 6, 2) := by decide +kernel
theorem dL_due_60 : decode cL_due 60 = .ok (.iload_n 3, 1) := by decide +kernel
theorem dL_due_61 : decode cL_due 61 = .ok (.iload 5, 2) := by decide +kernel
theorem dL_due_63 : decode cL_due 63 = .ok (.invokestatic 56, 3) := by decide +kernel
theorem dL_due_66 : decode cL_due 66 = .ok (.goto 26, 3) := by decide +kernel
theorem dL_due_69 : decode cL_due 69 = .ok (.iload_n 2, 1) := by decide +kernel
theorem dL_due_70 : decode cL_due 70 = .ok (.bipush 71, 2) := by decide +kernel
theorem dL_due_72 : decode cL_due 72 = .ok (.if_icmp .ne 11, 3) := by decide +kernel
theorem dL_due_75 : decode cL_due 75 = .ok (.aload_n 0, 1) := by decide +kernel
theorem dL_due_76 : decode cL_due 76 = .ok (.iload_n 3, 1) := by decide +kernel
theorem dL_due_77 : decode cL_due 77 = .ok (.invokestatic 60, 3) := by decide +kernel
theorem dL_due_80 : decode cL_due 80 = .ok (.goto 12, 3) := by decide +kernel
theorem dL_due_83 : decode cL_due 83 = .ok (.aload_n 0, 1) := by decide +kernel
theorem dL_due_84 : decode cL_due 84 = .ok (.iload_n 3, 1) := by decide +kernel
theorem dL_due_85 : decode cL_due 85 = .ok (.iload 4, 2) := by decide +kernel
theorem dL_due_87 : decode cL_due 87 = .ok (.iload 5, 2) := by decide +kernel
theorem dL_due_89 : decode cL_due 89 = .ok (.invokestatic 56, 3) := by decide +kernel
theorem dL_due_92 : decode cL_due 92 = .ok (.ireturn, 1) := by decide +kernel
theorem dL_due_93 : decode cL_due 93 = .ok (.iload_n 2, 1) := by decide +kernel
theorem dL_due_94 : decode cL_due 94 = .ok (.bipush 88, 2) := by decide +kernel
theorem dL_due_96 : decode cL_due 96 = .ok (.if_icmp .ne 15, 3) := by decide +kernel
theorem dL_due_99 : decode cL_due 99 = .ok (.aload_n 0, 1) := by decide +kernel
theorem dL_due_100 : decode cL_due 100 = .ok (.iload 7, 2) := by decide +kernel
theorem dL_due_102 : decode cL_due 102 = .ok (.iload 5, 2) := by decide +kernel
theorem dL_due_104 : decode cL_due 104 = .ok (.iand, 1) := by decide +kernel
theorem dL_due_105 : decode cL_due 105 = .ok (.invokestatic 52, 3) := by decide +kernel
theorem dL_due_108 : decode cL_due 108 = .ok (.goto 57, 3) := by decide +kernel
theorem dL_due_111 : decode cL_due 111 = .ok (.iload_n 2, 1) := by decide +kernel
theorem dL_due_112 : decode cL_due 112 = .ok (.bipush 70, 2) := by decide +kernel
theorem dL_due_114 : decode cL_due 114 = .ok (.if_icmp .ne 12, 3) := by decide +kernel
theorem dL_due_117 : decode cL_due 117 = .ok (.aload_n 0, 1) := by decide +kernel
theorem dL_due_118 : decode cL_due 118 = .ok (.iload 7, 2) := by decide +kernel
theorem dL_due_120 : decode cL_due 120 = .ok (.invokestatic 60, 3) := by decide +kernel
theorem dL_due_123 : decode cL_due 123 = .ok (.goto 42, 3) := by decide +kernel
theorem dL_due_126 : decode cL_due 126 = .ok (.iload_n 2, 1) := by decide +kernel
theorem dL_due_127 : decode cL_due 127 = .ok (.bipush 71, 2) := by decide +kernel
theorem dL_due_129 : decode cL_due 129 = .ok (.if_icmp .ne 16, 3) := by decide +kernel
theorem dL_due_132 : decode cL_due 132 = .ok (.aload_n 0, 1) := by decide +kernel
theorem dL_due_133 : decode cL_due 133 = .ok (.iload 6, 2) := by decide +kernel
theorem dL_due_135 : decode cL_due 135 = .ok (.iload 7, 2) := by decide +kernel
theorem dL_due_137 : decode cL_due 137 = .ok (.iload 5, 2) := by decide +kernel
theorem dL_due_139 : decode cL_due 139 = .ok (.invokestatic 56, 3) := by decide +kernel
theorem dL_due_142 : decode cL_due 142 = .ok (.goto 23, 3) := by decide +kernel
theorem dL_due_145 : decode cL_due 145 = .ok (.aload_n 0, 1) := by decide +kernel
theorem dL_due_146 : decode cL_due 146 = .ok (.iload 8, 2) := by decide +kernel
theorem dL_due_148 : decode cL_due 148 = .ok (.iload 7, 2) := by decide +kernel
theorem dL_due_150 : decode cL_due 150 = .ok (.iload 8, 2) := by decide +kernel
theorem dL_due_152 : decode cL_due 152 = .ok (.iand, 1) := by decide +kernel
theorem dL_due_153 : decode cL_due 153 = .ok (.iload 5, 2) := by decide +kernel
theorem dL_due_155 : decode cL_due 155 = .ok (.invokestatic 56, 3) := by decide +kernel
theorem dL_due_158 : decode cL_due 158 = .ok (.aload_n 0, 1) := by decide +kernel
theorem dL_due_159 : decode cL_due 159 = .ok (.iload 8, 2) := by decide +kernel
theorem dL_due_161 : decode cL_due 161 = .ok (.invokestatic 60, 3) := by decide +kernel
theorem dL_due_164 : decode cL_due 164 = .ok (.ior, 1) := by decide +kernel
theorem dL_due_165 : decode cL_due 165 = .ok (.istore 9, 2) := by decide +kernel
theorem dL_due_167 : decode cL_due 167 = .ok (.iload 6, 2) := by decide +kernel
theorem dL_due_169 : decode cL_due 169 = .ok (.iload 9, 2) := by decide +kernel
theorem dL_due_171 : decode cL_due 171 = .ok (.iconst (-1), 1) := by decide +kernel
theorem dL_due_172 : decode cL_due 172 = .ok (.ixor, 1) := by decide +kernel
theorem dL_due_173 : decode cL_due 173 = .ok (.iand, 1) := by decide +kernel
theorem dL_due_174 : decode cL_due 174 = .ok (.ireturn, 1) := by decide +kernel
theorem dL_isPart_0 : decode cL_isPart 0 = .ok (.aload_n 0, 1) := by decide +kernel
theorem dL_isPart_1 : decode cL_isPart 1 = .ok (.iload_n 1, 1) := by decide +kernel
theorem dL_isPart_2 : decode cL_isPart 2 = .ok (.iload_n 2, 1) := by decide +kernel
theorem dL_isPart_3 : decode cL_isPart 3 = .ok (.iconst 0, 1) := by decide +kernel
theorem dL_isPart_4 : decode cL_isPart 4 = .ok (.invokevirtual 63, 3) := by decide +kernel
theorem dL_isPart_7 : decode cL_isPart 7 = .ok (.istore 4, 2) := by decide +kernel
theorem dL_isPart_9 : decode cL_isPart 9 = .ok (.iconst 1, 1) := by decide +kernel
theorem dL_isPart_10 : decode cL_isPart 10 = .ok (.aload_n 0, 1) := by decide +kernel
theorem dL_isPart_11 : decode cL_isPart 11 = .ok (.iconst 0, 1) := by decide +kernel
theorem dL_isPart_12 : decode cL_isPart 12 = .ok (.invokevirtual 45, 3) := by decide +kernel
theorem dL_isPart_15 : decode cL_isPart 15 = .ok (.ishl, 1) := by decide +kernel
theorem dL_isPart_16 : decode cL_isPart 16 = .ok (.iconst 1, 1) := by decide +kernel
theorem dL_isPart_17 : decode cL_isPart 17 = .ok (.isub, 1) := by decide +kernel
theorem dL_isPart_18 : decode cL_isPart 18 = .ok (.istore 5, 2) := by decide +kernel
theorem dL_isPart_20 : decode cL_isPart 20 = .ok (.aload_n 0, 1) := by decide +kernel
theorem dL_isPart_21 : decode cL_isPart 21 = .ok (.iload_n 1, 1) := by decide +kernel
theorem dL_isPart_22 : decode cL_isPart 22 = .ok (.iload_n 2, 1) := by decide +kernel
theorem dL_isPart_23 : decode cL_isPart 23 = .ok (.iconst 1, 1) := by decide +kernel
theorem dL_isPart_24 : decode cL_isPart 24 = .ok (.invokevirtual 63, 3) := by decide +kernel
theorem dL_isPart_27 : decode cL_isPart 27 = .ok (.istore 6, 2) := by decide +kernel
theorem dL_isPart_29 : decode cL_isPart 29 = .ok (.aload_n 0, 1) := by decide +kernel
theorem dL_isPart_30 : decode cL_isPart 30 = .ok (.iload_n 1, 1) := by decide +kernel
theorem dL_isPart_31 : decode cL_isPart 31 = .ok (.iload_n 2, 1) := by decide +kernel
theorem dL_isPart_32 : decode cL_isPart 32 = .ok (.iconst 3, 1) := by decide +kernel
theorem dL_isPart_33 : decode cL_isPart 33 = .ok (.invokevirtual 63, 3) := by decide +kernel
theorem dL_isPart_36 : decode cL_isPart 36 = .ok (.istore 7, 2) := by decide +kernel
theorem dL_isPart_38 : decode cL_isPart 38 = .ok (.iload 4, 2) := by decide +kernel
theorem dL_isPart_40 : decode cL_isPart 40 = .ok (.bipush 88, 2) := by decide +kernel
theorem dL_isPart_42 : decode cL_isPart 42 = .ok (.if_icmp .eq 24, 3) := by decide +kernel
theorem dL_isPart_45 : decode cL_isPart 45 = .ok (.iload 4, 2) := by decide +kernel
theorem dL_isPart_47 : decode cL_isPart 47 = .ok (.bipush 70, 2) := by decide +kernel
theorem dL_isPart_49 : decode cL_isPart 49 = .ok (.if_icmp .eq 17, 3) := by decide +kernel
theorem dL_isPart_52 : decode cL_isPart 52 = .ok (.iload 4, 2) := by decide +kernel
theorem dL_isPart_54 : decode cL_isPart 54 = .ok (.bipush 71, 2) := by decide +kernel
theorem dL_isPart_56 : decode cL_isPart 56 = .ok (.if_icmp .eq 10, 3) := by decide +kernel
theorem dL_isPart_59 : decode cL_isPart 59 = .ok (.iload 4, 2) := by decide +kernel
theorem dL_isPart_61 : decode cL_isPart 61 = .ok (.bipush 85, 2) := by decide +kernel
theorem dL_isPart_63 : decode cL_isPart 63 = .ok (.if_icmp .ne 64, 3) := by decide +kernel
theorem dL_isPart_66 : decode cL_isPart 66 = .ok (.iload 6, 2) := by decide +kernel
theorem dL_isPart_68 : decode cL_isPart 68 = .ok (.iconst (-1), 1) := by decide +kernel
theorem dL_isPart_69 : decode cL_isPart 69 = .ok (.if_icmp .ne 56, 3) := by decide +kernel
theorem dL_isPart_72 : decode cL_isPart 72 = .ok (.iload 7, 2) := by decide +kernel
theorem dL_isPart_74 : decode cL_isPart 74 = .ok (.iconst (-1), 1) := by decide +kernel
theorem dL_isPart_75 : decode cL_isPart 75 = .ok (.if_icmp .ne 50, 3) := by decide +kernel
theorem dL_isPart_78 : decode cL_isPart 78 = .ok (.aload_n 0, 1) := by decide +kernel
theorem dL_isPart_79 : decode cL_isPart 79 = .ok (.iload_n 1, 1) := by decide +kernel
theorem dL_isPart_80 : decode cL_isPart 80 = .ok (.iload_n 2, 1) := by decide +kernel
theorem dL_isPart_81 : decode cL_isPart 81 = .ok (.iconst 2, 1) := by decide +kernel
theorem dL_isPart_82 : decode cL_isPart 82 = .ok (.invokevirtual 63, 3) := by decide +kernel
theorem dL_isPart_85 : decode cL_isPart 85 = .ok (.iconst (-1), 1) := by decide +kernel
theorem dL_isPart_86 : decode cL_isPart 86 = .ok (.if_icmp .ne 39, 3) := by decide +kernel
theorem dL_isPart_89 : decode cL_isPart 89 = .ok (.iload_n 2, 1) := by decide +kernel
theorem dL_isPart_90 : decode cL_isPart 90 = .ok (.ifCond .le 35, 3) := by decide +kernel
theorem dL_isPart_93 : decode cL_isPart 93 = .ok (.aload_n 0, 1) := by decide +kernel
theorem dL_isPart_94 : decode cL_isPart 94 = .ok (.iload_n 1, 1) := by decide +kernel
theorem dL_isPart_95 : decode cL_isPart 95 = .ok (.iload_n 2, 1) := by decide +kernel
theorem dL_isPart_96 : decode cL_isPart 96 = .ok (.iconst 1, 1) := by decide +kernel
theorem dL_isPart_97 : decode cL_isPart 97 = .ok (.isub, 1) := by decide +kernel
theorem dL_isPart_98 : decode cL_isPart 98 = .ok (.iconst 0, 1) := by decide +kernel
theorem dL_isPart_99 : decode cL_isPart 99 = .ok (.invokevirtual 63, 3) := by decide +kernel
theorem dL_isPart_102 : decode cL_isPart 102 = .ok (.bipush 69, 2) := by decide +kernel
theorem dL_isPart_104 : decode cL_isPart 104 = .ok (.if_icmp .eq 17, 3) := by decide +kernel
theorem dL_isPart_107 : decode cL_isPart 107 = .ok (.aload_n 0, 1) := by decide +kernel
theorem dL_isPart_108 : decode cL_isPart 108 = .ok (.iload_n 1, 1) := by decide +kernel
theorem dL_isPart_109 : decode cL_isPart 109 = .ok (.iload_n 2, 1) := by decide +kernel
theorem dL_isPart_110 : decode cL_isPart 110 = .ok (.iconst 1, 1) := by decide +kernel
theorem dL_isPart_111 : decode cL_isPart 111 = .ok (.isub, 1) := by decide +kernel
theorem dL_isPart_112 : decode cL_isPart 112 = .ok (.iconst 0, 1) := by decide +kernel
theorem dL_isPart_113 : decode cL_isPart 113 = .ok (.invokevirtual 63, 3) := by decide +kernel
theorem dL_isPart_116 : decode cL_isPart 116 = .ok (.bipush 65, 2) := by decide +kernel
theorem dL_isPart_118 : decode cL_isPart 118 = .ok (.if_icmp .ne 7, 3) := by decide +kernel
theorem dL_isPart_121 : decode cL_isPart 121 = .ok (.iconst 1, 1) := by decide +kernel
theorem dL_isPart_122 : decode cL_isPart 122 = .ok (.goto 4, 3) := by decide +kernel
theorem dL_isPart_125 : decode cL_isPart 125 = .ok (.iconst 0, 1) := by decide +kernel
theorem dL_isPart_126 : decode cL_isPart 126 = .ok (.ireturn, 1) := by decide +kernel
theorem dL_isPart_127 : decode cL_isPart 127 = .ok (.iload 4, 2) := by decide +kernel
theorem dL_isPart_129 : decode cL_isPart 129 = .ok (.bipush 69, 2) := by decide +kernel
theorem dL_isPart_131 : decode cL_isPart 131 = .ok (.if_icmp .eq 10, 3) := by decide +kernel
theorem dL_isPart_134 : decode cL_isPart 134 = .ok (.iload 4, 2) := by decide +kernel
theorem dL_isPart_136 : decode cL_isPart 136 = .ok (.bipush 65, 2) := by decide +kernel
theorem dL_isPart_138 : decode cL_isPart 138 = .ok (.if_icmp .ne 7, 3) := by decide +kernel
theorem dL_isPart_141 : decode cL_isPart 141 = .ok (.iconst 1, 1) := by decide +kernel
theorem dL_isPart_142 : decode cL_isPart 142 = .ok (.goto 4, 3) := by decide +kernel
theorem dL_isPart_145 : decode cL_isPart 145 = .ok (.iconst 0, 1) := by decide +kernel
theorem dL_isPart_146 : decode cL_isPart 146 = .ok (.istore 8, 2) := by decide +kernel
theorem dL_isPart_148 : decode cL_isPart 148 = .ok (.iload 8, 2) := by decide +kernel
theorem dL_isPart_150 : decode cL_isPart 150 = .ok (.ifCond .eq 15, 3) := by decide +kernel
theorem dL_isPart_153 : decode cL_isPart 153 = .ok (.aload_n 0, 1) := by decide +kernel
theorem dL_isPart_154 : decode cL_isPart 154 = .ok (.iload_n 1, 1) := by decide +kernel
theorem dL_isPart_155 : decode cL_isPart 155 = .ok (.iload_n 2, 1) := by decide +kernel
theorem dL_isPart_156 : decode cL_isPart 156 = .ok (.iconst 1, 1) := by decide +kernel
theorem dL_isPart_157 : decode cL_isPart 157 = .ok (.iadd, 1) := by decide +kernel
theorem dL_isPart_158 : decode cL_isPart 158 = .ok (.iconst 0, 1) := by decide +kernel
theorem dL_isPart_159 : decode cL_isPart 159 = .ok (.invokevirtual 63, 3) := by decide +kernel
theorem dL_isPart_162 : decode cL_isPart 162 = .ok (.goto 4, 3) := by decide +kernel
theorem dL_isPart_165 : decode cL_isPart 165 = .ok (.iconst 0, 1) := by decide +kernel
theorem dL_isPart_166 : decode cL_isPart 166 = .ok (.istore 9, 2) := by decide +kernel
theorem dL_isPart_168 : decode cL_isPart 168 = .ok (.iload 4, 2) := by decide +kernel
theorem dL_isPart_170 : decode cL_isPart 170 = .ok (.bipush 38, 2) := by decide +kernel
theorem dL_isPart_172 : decode cL_isPart 172 = .ok (.if_icmp .eq 17, 3) := by decide +kernel
theorem dL_isPart_175 : decode cL_isPart 175 = .ok (.iload 4, 2) := by decide +kernel
theorem dL_isPart_177 : decode cL_isPart 177 = .ok (.bipush 124, 2) := by decide +kernel
theorem dL_isPart_179 : decode cL_isPart 179 = .ok (.if_icmp .eq 10, 3) := by decide +kernel
theorem dL_isPart_182 : decode cL_isPart 182 = .ok (.iload 9, 2) := by decide +kernel
theorem dL_isPart_184 : decode cL_isPart 184 = .ok (.bipush 85, 2) := by decide +kernel
theorem dL_isPart_186 : decode cL_isPart 186 = .ok (.if_icmp .ne 7, 3) := by decide +kernel
theorem dL_isPart_189 : decode cL_isPart 189 = .ok (.iconst 1, 1) := by decide +kernel
theorem dL_isPart_190 : decode cL_isPart 190 = .ok (.goto 4, 3) := by decide +kernel
theorem dL_isPart_193 : decode cL_isPart 193 = .ok (.iconst 0, 1) := by decide +kernel
theorem dL_isPart_194 : decode cL_isPart 194 = .ok (.istore 10, 2) := by decide +kernel
theorem dL_isPart_196 : decode cL_isPart 196 = .ok (.iload 4, 2) := by decide +kernel
theorem dL_isPart_198 : decode cL_isPart 198 = .ok (.bipush 116, 2) := by decide +kernel
theorem dL_isPart_200 : decode cL_isPart 200 = .ok (.if_icmp .eq 17, 3) := by decide +kernel
theorem dL_isPart_203 : decode cL_isPart 203 = .ok (.iload 4, 2) := by decide +kernel
theorem dL_isPart_205 : decode cL_isPart 205 = .ok (.bipush 97, 2) := by decide +kernel
theorem dL_isPart_207 : decode cL_isPart 207 = .ok (.if_icmp .lt 14, 3) := by decide +kernel
theorem dL_isPart_210 : decode cL_isPart 210 = .ok (.iload 4, 2) := by decide +kernel
theorem dL_isPart_212 : decode cL_isPart 212 = .ok (.bipush 100, 2) := by decide +kernel
theorem dL_isPart_214 : decode cL_isPart 214 = .ok (.if_icmp .gt 7, 3) := by decide +kernel
theorem dL_isPart_217 : decode cL_isPart 217 = .ok (.iconst 1, 1) := by decide +kernel
theorem dL_isPart_218 : decode cL_isPart 218 = .ok (.goto 4, 3) := by decide +kernel
theorem dL_isPart_221 : decode cL_isPart 221 = .ok (.iconst 0, 1) := by decide +kernel
theorem dL_isPart_222 : decode cL_isPart 222 = .ok (.istore 11, 2) := by decide +kernel
theorem dL_isPart_224 : decode cL_isPart 224 = .ok (.iload_n 2, 1) := by decide +kernel
theorem dL_isPart_225 : decode cL_isPart 225 = .ok (.iload 8, 2) := by decide +kernel
theorem dL_isPart_227 : decode cL_isPart 227 = .ok (.ifCond .eq 7, 3) := by decide +kernel
theorem dL_isPart_230 : decode cL_isPart 230 = .ok (.iconst 2, 1) := by decide +kernel
theorem dL_isPart_231 : decode cL_isPart 231 = .ok (.goto 4, 3) := by decide +kernel
theorem dL_isPart_234 : decode cL_isPart 234 = .ok (.iconst 1, 1) := by decide +kernel
theorem dL_isPart_235 : decode cL_isPart 235 = .ok (.iadd, 1) := by decide +kernel
theorem dL_isPart_236 : decode cL_isPart 236 = .ok (.istore 12, 2) := by decide +kernel
theorem dL_isPart_238 : decode cL_isPart 238 = .ok (.iload 11, 2) := by decide +kernel
theorem dL_isPart_240 : decode cL_isPart 240 = .ok (.ifCond .eq 7, 3) := by decide +kernel
theorem dL_isPart_243 : decode cL_isPart 243 = .ok (.iconst 0, 1) := by decide +kernel
theorem dL_isPart_244 : decode cL_isPart 244 = .ok (.goto 11, 3) := by decide +kernel
theorem dL_isPart_247 : decode cL_isPart 247 = .ok (.aload_n 0, 1) := by decide +kernel
theorem dL_isPart_248 : decode cL_isPart 248 = .ok (.iload_n 1, 1) := by decide +kernel
theorem dL_isPart_249 : decode cL_isPart 249 = .ok (.iload 12, 2) := by decide +kernel
theorem dL_isPart_251 : decode cL_isPart 251 = .ok (.iconst 1, 1) := by decide +kernel
theorem dL_isPart_252 : decode cL_isPart 252 = .ok (.invokevirtual 63, 3) := by decide +kernel
theorem dL_isPart_255 : decode cL_isPart 255 = .ok (.istore 13, 2) := by decide +kernel
theorem dL_isPart_257 : decode cL_isPart 257 = .ok (.iload 11, 2) := by decide +kernel
theorem dL_isPart_259 : decode cL_isPart 259 = .ok (.ifCond .eq 7, 3) := by decide +kernel
theorem dL_isPart_262 : decode cL_isPart 262 = .ok (.iconst 0, 1) := by decide +kernel
theorem dL_isPart_263 : decode cL_isPart 263 = .ok (.goto 11, 3) := by decide +kernel
theorem dL_isPart_266 : decode cL_isPart 266 = .ok (.aload_n 0, 1) := by decide +kernel
theorem dL_isPart_267 : decode cL_isPart 267 = .ok (.iload_n 1, 1) := by decide +kernel
theorem dL_isPart_268 : decode cL_isPart 268 = .ok (.iload 12, 2) := by decide +kernel
theorem dL_isPart_270 : decode cL_isPart 270 = .ok (.iconst 3, 1) := by decide +kernel
theorem dL_isPart_271 : decode cL_isPart 271 = .ok (.invokevirtual 63, 3) := by decide +kernel
theorem dL_isPart_274 : decode cL_isPart 274 = .ok (.istore 14, 2) := by decide +kernel
theorem dL_isPart_276 : decode cL_isPart 276 = .ok (.iload 10, 2) := by decide +kernel
theorem dL_isPart_278 : decode cL_isPart 278 = .ok (.ifCond .eq 17, 3) := by decide +kernel
theorem dL_isPart_281 : decode cL_isPart 281 = .ok (.aload_n 0, 1) := by decide +kernel
theorem dL_isPart_282 : decode cL_isPart 282 = .ok (.iload_n 1, 1) := by decide +kernel
theorem dL_isPart_283 : decode cL_isPart 283 = .ok (.iload 12, 2) := by decide +kernel
theorem dL_isPart_285 : decode cL_isPart 285 = .ok (.iload 14, 2) := by decide +kernel
theorem dL_isPart_287 : decode cL_isPart 287 = .ok (.iadd, 1) := by decide +kernel
theorem dL_isPart_288 : decode cL_isPart 288 = .ok (.iconst 1, 1) := by decide +kernel
theorem dL_isPart_289 : decode cL_isPart 289 = .ok (.invokevirtual 63, 3) := by decide +kernel
theorem dL_isPart_292 : decode cL_isPart 292 = .ok (.goto 4, 3) := by decide +kernel
theorem dL_isPart_295 : decode cL_isPart 295 = .ok (.iconst 0, 1) := by decide +kernel
theorem dL_isPart_296 : decode cL_isPart 296 = .ok (.istore 15, 2) := by decide +kernel
theorem dL_isPart_298 : decode cL_isPart 298 = .ok (.iload 8, 2) := by decide +kernel
theorem dL_isPart_300 : decode cL_isPart 300 = .ok (.ifCond .eq 7, 3) := by decide +kernel
theorem dL_isPart_303 : decode cL_isPart 303 = .ok (.iconst 2, 1) := by decide +kernel
theorem dL_isPart_304 : decode cL_isPart 304 = .ok (.goto 4, 3) := by decide +kernel
theorem dL_isPart_307 : decode cL_isPart 307 = .ok (.iconst 1, 1) := by decide +kernel
theorem dL_isPart_308 : decode cL_isPart 308 = .ok (.iload 14, 2) := by decide +kernel
theorem dL_isPart_310 : decode cL_isPart 310 = .ok (.iadd, 1) := by decide +kernel
theorem dL_isPart_311 : decode cL_isPart 311 = .ok (.iload 10, 2) := by decide +kernel
theorem dL_isPart_313 : decode cL_isPart 313 = .ok (.ifCond .eq 17, 3) := by decide +kernel
theorem dL_isPart_316 : decode cL_isPart 316 = .ok (.aload_n 0, 1) := by decide +kernel
theorem dL_isPart_317 : decode cL_isPart 317 = .ok (.iload_n 1, 1) := by decide +kernel
theorem dL_isPart_318 : decode cL_isPart 318 = .ok (.iload 12, 2) := by decide +kernel
theorem dL_isPart_320 : decode cL_isPart 320 = .ok (.iload 14, 2) := by decide +kernel
theorem dL_isPart_322 : decode cL_isPart 322 = .ok (.iadd, 1) := by decide +kernel
theorem dL_isPart_323 : decode cL_isPart 323 = .ok (.iconst 3, 1) := by decide +kernel
theorem dL_isPart_324 : decode cL_isPart 324 = .ok (.invokevirtual 63, 3) := by decide +kernel
theorem dL_isPart_327 : decode cL_isPart 327 = .ok (.goto 4, 3) := by decide +kernel
theorem dL_isPart_330 : decode cL_isPart 330 = .ok (.iconst 0, 1) := by decide +kernel
theorem dL_isPart_331 : decode cL_isPart 331 = .ok (.iadd, 1) := by decide +kernel
theorem dL_isPart_332 : decode cL_isPart 332 = .ok (.istore 16, 2) := by decide +kernel
theorem dL_isPart_334 : decode cL_isPart 334 = .ok (.iload 4, 2) := by decide +kernel
theorem dL_isPart_336 : decode cL_isPart 336 = .ok (.bipush 116, 2) := by decide +kernel
theorem dL_isPart_338 : decode cL_isPart 338 = .ok (.if_icmp .ne 8, 3) := by decide +kernel
theorem dL_isPart_341 : decode cL_isPart 341 = .ok (.iload 5, 2) := by decide +kernel
theorem dL_isPart_343 : decode cL_isPart 343 = .ok (.goto 40, 3) := by decide +kernel
theorem dL_isPart_346 : decode cL_isPart 346 = .ok (.iload 4, 2) := by decide +kernel
theorem dL_isPart_348 : decode cL_isPart 348 = .ok (.bipush 33, 2) := by decide +kernel
theorem dL_isPart_350 : decode cL_isPart 350 = .ok (.if_icmp .ne 13, 3) := by decide +kernel
theorem dL_isPart_353 : decode cL_isPart 353 = .ok (.iload 5, 2) := by decide +kernel
theorem dL_isPart_355 : decode cL_isPart 355 = .ok (.iload 13, 2) := by decide +kernel
theorem dL_isPart_357 : decode cL_isPart 357 = .ok (.iconst (-1), 1) := by decide +kernel
theorem dL_isPart_358 : decode cL_isPart 358 = .ok (.ixor, 1) := by decide +kernel
theorem dL_isPart_359 : decode cL_isPart 359 = .ok (.iand, 1) := by decide +kernel
theorem dL_isPart_360 : decode cL_isPart 360 = .ok (.goto 23, 3) := by decide +kernel
theorem dL_isPart_363 : decode cL_isPart 363 = .ok (.iload 4, 2) := by decide +kernel
theorem dL_isPart_365 : decode cL_isPart 365 = .ok (.bipush 38, 2) := by decide +kernel
theorem dL_isPart_367 : decode cL_isPart 367 = .ok (.if_icmp .ne 11, 3) := by decide +kernel
theorem dL_isPart_370 : decode cL_isPart 370 = .ok (.iload 13, 2) := by decide +kernel
theorem dL_isPart_372 : decode cL_isPart 372 = .ok (.iload 15, 2) := by decide +kernel
theorem dL_isPart_374 : decode cL_isPart 374 = .ok (.iand, 1) := by decide +kernel
theorem dL_isPart_375 : decode cL_isPart 375 = .ok (.goto 8, 3) := by decide +kernel
theorem dL_isPart_378 : decode cL_isPart 378 = .ok (.iload 13, 2) := by decide +kernel
theorem dL_isPart_380 : decode cL_isPart 380 = .ok (.iload 15, 2) := by decide +kernel
theorem dL_isPart_382 : decode cL_isPart 382 = .ok (.ior, 1) := by decide +kernel
theorem dL_isPart_383 : decode cL_isPart 383 = .ok (.istore 17, 2) := by decide +kernel
theorem dL_isPart_385 : decode cL_isPart 385 = .ok (.iload 11, 2) := by decide +kernel
theorem dL_isPart_387 : decode cL_isPart 387 = .ok (.ifCond .eq 55, 3) := by decide +kernel
theorem dL_isPart_390 : decode cL_isPart 390 = .ok (.iload 4, 2) := by decide +kernel
theorem dL_isPart_392 : decode cL_isPart 392 = .ok (.bipush 116, 2) := by decide +kernel
theorem dL_isPart_394 : decode cL_isPart 394 = .ok (.if_icmp .eq 48, 3) := by decide +kernel
theorem dL_isPart_397 : decode cL_isPart 397 = .ok (.iconst 0, 1) := by decide +kernel
theorem dL_isPart_398 : decode cL_isPart 398 = .ok (.istore 17, 2) := by decide +kernel
theorem dL_isPart_400 : decode cL_isPart 400 = .ok (.iconst 0, 1) := by decide +kernel
theorem dL_isPart_401 : decode cL_isPart 401 = .ok (.istore 18, 2) := by decide +kernel
theorem dL_isPart_403 : decode cL_isPart 403 = .ok (.iload 18, 2) := by decide +kernel
theorem dL_isPart_405 : decode cL_isPart 405 = .ok (.aload_n 0, 1) := by decide +kernel
theorem dL_isPart_406 : decode cL_isPart 406 = .ok (.iconst 0, 1) := by decide +kernel
theorem dL_isPart_407 : decode cL_isPart 407 = .ok (.invokevirtual 45, 3) := by decide +kernel
theorem dL_isPart_410 : decode cL_isPart 410 = .ok (.if_icmp .ge 32, 3) := by decide +kernel
theorem dL_isPart_413 : decode cL_isPart 413 = .ok (.iload 17, 2) := by decide +kernel
theorem dL_isPart_415 : decode cL_isPart 415 = .ok (.aload_n 0, 1) := by decide +kernel
theorem dL_isPart_416 : decode cL_isPart 416 = .ok (.iload 18, 2) := by decide +kernel
theorem dL_isPart_418 : decode cL_isPart 418 = .ok (.iconst 0, 1) := by decide +kernel
theorem dL_isPart_419 : decode cL_isPart 419 = .ok (.invokevirtual 36, 3) := by decide +kernel
theorem dL_isPart_422 : decode cL_isPart 422 = .ok (.iload 4, 2) := by decide +kernel
theorem dL_isPart_424 : decode cL_isPart 424 = .ok (.bipush 97, 2) := by decide +kernel
theorem dL_isPart_426 : decode cL_isPart 426 = .ok (.isub, 1) := by decide +kernel
theorem dL_isPart_427 : decode cL_isPart 427 = .ok (.ishr, 1) := by decide +kernel
theorem dL_isPart_428 : decode cL_isPart 428 = .ok (.iconst 1, 1) := by decide +kernel
theorem dL_isPart_429 : decode cL_isPart 429 = .ok (.iand, 1) := by decide +kernel
theorem dL_isPart_430 : decode cL_isPart 430 = .ok (.iload 18, 2) := by decide +kernel
theorem dL_isPart_432 : decode cL_isPart 432 = .ok (.ishl, 1) := by decide +kernel
theorem dL_isPart_433 : decode cL_isPart 433 = .ok (.ior, 1) := by decide +kernel
theorem dL_isPart_434 : decode cL_isPart 434 = .ok (.istore 17, 2) := by decide +kernel
theorem dL_isPart_436 : decode cL_isPart 436 = .ok (.iinc 18 1, 3) := by decide +kernel
theorem dL_isPart_439 : decode cL_isPart 439 = .ok (.goto (-36), 3) := by decide +kernel
theorem dL_isPart_442 : decode cL_isPart 442 = .ok (.iload 8, 2) := by decide +kernel
theorem dL_isPart_444 : decode cL_isPart 444 = .ok (.ifCond .eq 19, 3) := by decide +kernel
theorem dL_isPart_447 : decode cL_isPart 447 = .ok (.aload_n 0, 1) := by decide +kernel
theorem dL_isPart_448 : decode cL_isPart 448 = .ok (.iload 4, 2) := by decide +kernel
theorem dL_isPart_450 : decode cL_isPart 450 = .ok (.iload 9, 2) := by decide +kernel
theorem dL_isPart_452 : decode cL_isPart 452 = .ok (.iload 13, 2) := by decide +kernel
theorem dL_isPart_454 : decode cL_isPart 454 = .ok (.iload 15, 2) := by decide +kernel
theorem dL_isPart_456 : decode cL_isPart 456 = .ok (.iload_n 3, 1) := by decide +kernel
theorem dL_isPart_457 : decode cL_isPart 457 = .ok (.invokestatic 64, 3) := by decide +kernel
theorem dL_isPart_460 : decode cL_isPart 460 = .ok (.goto 5, 3) := by decide +kernel
theorem dL_isPart_463 : decode cL_isPart 463 = .ok (.iload 17, 2) := by decide +kernel
theorem dL_isPart_465 : decode cL_isPart 465 = .ok (.istore 17, 2) := by decide +kernel
theorem dL_isPart_467 : decode cL_isPart 467 = .ok (.aload_n 0, 1) := by decide +kernel
theorem dL_isPart_468 : decode cL_isPart 468 = .ok (.iload_n 1, 1) := by decide +kernel
theorem dL_isPart_469 : decode cL_isPart 469 = .ok (.iload_n 2, 1) := by decide +kernel
theorem dL_isPart_470 : decode cL_isPart 470 = .ok (.iconst 2, 1) := by decide +kernel
theorem dL_isPart_471 : decode cL_isPart 471 = .ok (.invokevirtual 63, 3) := by decide +kernel
theorem dL_isPart_474 : decode cL_isPart 474 = .ok (.istore 18, 2) := by decide +kernel
theorem dL_isPart_476 : decode cL_isPart 476 = .ok (.iload 8, 2) := by decide +kernel
theorem dL_isPart_478 : decode cL_isPart 478 = .ok (.ifCond .eq 14, 3) := by decide +kernel
theorem dL_isPart_481 : decode cL_isPart 481 = .ok (.iload 9, 2) := by decide +kernel
theorem dL_isPart_483 : decode cL_isPart 483 = .ok (.bipush 88, 2) := by decide +kernel
theorem dL_isPart_485 : decode cL_isPart 485 = .ok (.if_icmp .eq 7, 3) := by decide +kernel
theorem dL_isPart_488 : decode cL_isPart 488 = .ok (.iconst 1, 1) := by decide +kernel
theorem dL_isPart_489 : decode cL_isPart 489 = .ok (.goto 4, 3) := by decide +kernel
theorem dL_isPart_492 : decode cL_isPart 492 = .ok (.iconst 0, 1) := by decide +kernel
theorem dL_isPart_493 : decode cL_isPart 493 = .ok (.istore 19, 2) := by decide +kernel
theorem dL_isPart_495 : decode cL_isPart 495 = .ok (.iload 6, 2) := by decide +kernel
theorem dL_isPart_497 : decode cL_isPart 497 = .ok (.iload 17, 2) := by decide +kernel
theorem dL_isPart_499 : decode cL_isPart 499 = .ok (.if_icmp .ne 36, 3) := by decide +kernel
theorem dL_isPart_502 : decode cL_isPart 502 = .ok (.iload 7, 2) := by decide +kernel
theorem dL_isPart_504 : decode cL_isPart 504 = .ok (.iload 16, 2) := by decide +kernel
theorem dL_isPart_506 : decode cL_isPart 506 = .ok (.if_icmp .ne 29, 3) := by decide +kernel
theorem dL_isPart_509 : decode cL_isPart 509 = .ok (.iload 18, 2) := by decide +kernel
theorem dL_isPart_511 : decode cL_isPart 511 = .ok (.ifCond .lt 24, 3) := by decide +kernel
theorem dL_isPart_514 : decode cL_isPart 514 = .ok (.iload 18, 2) := by decide +kernel
theorem dL_isPart_516 : decode cL_isPart 516 = .ok (.bipush 20, 2) := by decide +kernel
theorem dL_isPart_518 : decode cL_isPart 518 = .ok (.if_icmp .gt 17, 3) := by decide +kernel
theorem dL_isPart_521 : decode cL_isPart 521 = .ok (.iload 19, 2) := by decide +kernel
theorem dL_isPart_523 : decode cL_isPart 523 = .ok (.ifCond .ne 8, 3) := by decide +kernel
theorem dL_isPart_526 : decode cL_isPart 526 = .ok (.iload 18, 2) := by decide +kernel
theorem dL_isPart_528 : decode cL_isPart 528 = .ok (.ifCond .ne 7, 3) := by decide +kernel
theorem dL_isPart_531 : decode cL_isPart 531 = .ok (.iconst 1, 1) := by decide +kernel
theorem dL_isPart_532 : decode cL_isPart 532 = .ok (.goto 4, 3) := by decide +kernel
theorem dL_isPart_535 : decode cL_isPart 535 = .ok (.iconst 0, 1) := by decide +kernel
theorem dL_isPart_536 : decode cL_isPart 536 = .ok (.ireturn, 1) := by decide +kernel
theorem dL_isWish_0 : decode cL_isWish 0 = .ok (.iconst 0, 1) := by decide +kernel
theorem dL_isWish_1 : decode cL_isWish 1 = .ok (.istore_n 3, 1) := by decide +kernel
theorem dL_isWish_2 : decode cL_isWish 2 = .ok (.aload_n 0, 1) := by decide +kernel
theorem dL_isWish_3 : decode cL_isWish 3 = .ok (.iload_n 1, 1) := by decide +kernel
theorem dL_isWish_4 : decode cL_isWish 4 = .ok (.iconst 0, 1) := by decide +kernel
theorem dL_isWish_5 : decode cL_isWish 5 = .ok (.invokevirtual 68, 3) := by decide +kernel
theorem dL_isWish_8 : decode cL_isWish 8 = .ok (.istore 4, 2) := by decide +kernel
theorem dL_isWish_10 : decode cL_isWish 10 = .ok (.iconst 0, 1) := by decide +kernel
theorem dL_isWish_11 : decode cL_isWish 11 = .ok (.istore 5, 2) := by decide +kernel
theorem dL_isWish_13 : decode cL_isWish 13 = .ok (.iload 5, 2) := by decide +kernel
theorem dL_isWish_15 : decode cL_isWish 15 = .ok (.iload 4, 2) := by decide +kernel
theorem dL_isWish_17 : decode cL_isWish 17 = .ok (.if_icmp .ge 48, 3) := by decide +kernel
theorem dL_isWish_20 : decode cL_isWish 20 = .ok (.aload_n 0, 1) := by decide +kernel
theorem dL_isWish_21 : decode cL_isWish 21 = .ok (.iload_n 1, 1) := by decide +kernel
theorem dL_isWish_22 : decode cL_isWish 22 = .ok (.iload 5, 2) := by decide +kernel
theorem dL_isWish_24 : decode cL_isWish 24 = .ok (.iload_n 2, 1) := by decide +kernel
theorem dL_isWish_25 : decode cL_isWish 25 = .ok (.invokestatic 71, 3) := by decide +kernel
theorem dL_isWish_28 : decode cL_isWish 28 = .ok (.ifCond .ne 5, 3) := by decide +kernel
theorem dL_isWish_31 : decode cL_isWish 31 = .ok (.iconst 0, 1) := by decide +kernel
theorem dL_isWish_32 : decode cL_isWish 32 = .ok (.ireturn, 1) := by decide +kernel
theorem dL_isWish_33 : decode cL_isWish 33 = .ok (.iload_n 3, 1) := by decide +kernel
theorem dL_isWish_34 : decode cL_isWish 34 = .ok (.aload_n 0, 1) := by decide +kernel
theorem dL_isWish_35 : decode cL_isWish 35 = .ok (.iload_n 1, 1) := by decide +kernel
theorem dL_isWish_36 : decode cL_isWish 36 = .ok (.iload 5, 2) := by decide +kernel
theorem dL_isWish_38 : decode cL_isWish 38 = .ok (.iconst 2, 1) := by decide +kernel
theorem dL_isWish_39 : decode cL_isWish 39 = .ok (.invokevirtual 63, 3) := by decide +kernel
theorem dL_isWish_42 : decode cL_isWish 42 = .ok (.ifCond .le 14, 3) := by decide +kernel
theorem dL_isWish_45 : decode cL_isWish 45 = .ok (.aload_n 0, 1) := by decide +kernel
theorem dL_isWish_46 : decode cL_isWish 46 = .ok (.iload_n 1, 1) := by decide +kernel
theorem dL_isWish_47 : decode cL_isWish 47 = .ok (.iload 5, 2) := by decide +kernel
theorem dL_isWish_49 : decode cL_isWish 49 = .ok (.iconst 2, 1) := by decide +kernel
theorem dL_isWish_50 : decode cL_isWish 50 = .ok (.invokevirtual 63, 3) := by decide +kernel
theorem dL_isWish_53 : decode cL_isWish 53 = .ok (.goto 4, 3) := by decide +kernel
theorem dL_isWish_56 : decode cL_isWish 56 = .ok (.iconst 0, 1) := by decide +kernel
theorem dL_isWish_57 : decode cL_isWish 57 = .ok (.iadd, 1) := by decide +kernel
theorem dL_isWish_58 : decode cL_isWish 58 = .ok (.istore_n 3, 1) := by decide +kernel
theorem dL_isWish_59 : decode cL_isWish 59 = .ok (.iinc 5 1, 3) := by decide +kernel
theorem dL_isWish_62 : decode cL_isWish 62 = .ok (.goto (-49), 3) := by decide +kernel
theorem dL_isWish_65 : decode cL_isWish 65 = .ok (.aload_n 0, 1) := by decide +kernel
theorem dL_isWish_66 : decode cL_isWish 66 = .ok (.iload_n 1, 1) := by decide +kernel
theorem dL_isWish_67 : decode cL_isWish 67 = .ok (.iconst 3, 1) := by decide +kernel
theorem dL_isWish_68 : decode cL_isWish 68 = .ok (.invokevirtual 68, 3) := by decide +kernel
theorem dL_isWish_71 : decode cL_isWish 71 = .ok (.istore 5, 2) := by decide +kernel
theorem dL_isWish_73 : decode cL_isWish 73 = .ok (.iload 4, 2) := by decide +kernel
theorem dL_isWish_75 : decode cL_isWish 75 = .ok (.iconst 1, 1) := by decide +kernel
theorem dL_isWish_76 : decode cL_isWish 76 = .ok (.if_icmp .lt 58, 3) := by decide +kernel
theorem dL_isWish_79 : decode cL_isWish 79 = .ok (.aload_n 0, 1) := by decide +kernel
theorem dL_isWish_80 : decode cL_isWish 80 = .ok (.iload_n 1, 1) := by decide +kernel
theorem dL_isWish_81 : decode cL_isWish 81 = .ok (.iconst 0, 1) := by decide +kernel
theorem dL_isWish_82 : decode cL_isWish 82 = .ok (.iconst 3, 1) := by decide +kernel
theorem dL_isWish_83 : decode cL_isWish 83 = .ok (.invokevirtual 63, 3) := by decide +kernel
theorem dL_isWish_86 : decode cL_isWish 86 = .ok (.iload 4, 2) := by decide +kernel
theorem dL_isWish_88 : decode cL_isWish 88 = .ok (.if_icmp .ne 46, 3) := by decide +kernel
theorem dL_isWish_91 : decode cL_isWish 91 = .ok (.aload_n 0, 1) := by decide +kernel
theorem dL_isWish_92 : decode cL_isWish 92 = .ok (.iload_n 1, 1) := by decide +kernel
theorem dL_isWish_93 : decode cL_isWish 93 = .ok (.iconst 1, 1) := by decide +kernel
theorem dL_isWish_94 : decode cL_isWish 94 = .ok (.invokevirtual 68, 3) := by decide +kernel
theorem dL_isWish_97 : decode cL_isWish 97 = .ok (.aload_n 0, 1) := by decide +kernel
theorem dL_isWish_98 : decode cL_isWish 98 = .ok (.iload_n 1, 1) := by decide +kernel
theorem dL_isWish_99 : decode cL_isWish 99 = .ok (.iconst 0, 1) := by decide +kernel
theorem dL_isWish_100 : decode cL_isWish 100 = .ok (.iconst 1, 1) := by decide +kernel
theorem dL_isWish_101 : decode cL_isWish 101 = .ok (.invokevirtual 63, 3) := by decide +kernel
theorem dL_isWish_104 : decode cL_isWish 104 = .ok (.if_icmp .ne 30, 3) := by decide +kernel
theorem dL_isWish_107 : decode cL_isWish 107 = .ok (.aload_n 0, 1) := by decide +kernel
theorem dL_isWish_108 : decode cL_isWish 108 = .ok (.iload_n 1, 1) := by decide +kernel
theorem dL_isWish_109 : decode cL_isWish 109 = .ok (.iconst 2, 1) := by decide +kernel
theorem dL_isWish_110 : decode cL_isWish 110 = .ok (.invokevirtual 68, 3) := by decide +kernel
theorem dL_isWish_113 : decode cL_isWish 113 = .ok (.iload_n 3, 1) := by decide +kernel
theorem dL_isWish_114 : decode cL_isWish 114 = .ok (.if_icmp .ne 20, 3) := by decide +kernel
theorem dL_isWish_117 : decode cL_isWish 117 = .ok (.iload 5, 2) := by decide +kernel
theorem dL_isWish_119 : decode cL_isWish 119 = .ok (.iconst 1, 1) := by decide +kernel
theorem dL_isWish_120 : decode cL_isWish 120 = .ok (.if_icmp .lt 14, 3) := by decide +kernel
theorem dL_isWish_123 : decode cL_isWish 123 = .ok (.iload 5, 2) := by decide +kernel
theorem dL_isWish_125 : decode cL_isWish 125 = .ok (.iload 4, 2) := by decide +kernel
theorem dL_isWish_127 : decode cL_isWish 127 = .ok (.if_icmp .gt 7, 3) := by decide +kernel
theorem dL_isWish_130 : decode cL_isWish 130 = .ok (.iconst 1, 1) := by decide +kernel
theorem dL_isWish_131 : decode cL_isWish 131 = .ok (.goto 4, 3) := by decide +kernel
theorem dL_isWish_134 : decode cL_isWish 134 = .ok (.iconst 0, 1) := by decide +kernel
theorem dL_isWish_135 : decode cL_isWish 135 = .ok (.ireturn, 1) := by decide +kernel
theorem dL_law_0 : decode cL_law 0 = .ok (.new 28, 3) := by decide +kernel
theorem dL_law_3 : decode cL_law 3 = .ok (.dup, 1) := by decide +kernel
theorem dL_law_4 : decode cL_law 4 = .ok (.invokespecial 75, 3) := by decide +kernel
theorem dL_law_7 : decode cL_law 7 = .ok (.astore_n 1, 1) := by decide +kernel
theorem dL_law_8 : decode cL_law 8 = .ok (.aload_n 1, 1) := by decide +kernel
theorem dL_law_9 : decode cL_law 9 = .ok (.aload_n 0, 1) := by decide +kernel
theorem dL_law_10 : decode cL_law 10 = .ok (.iconst 0, 1) := by decide +kernel
theorem dL_law_11 : decode cL_law 11 = .ok (.invokestatic 76, 3) := by decide +kernel
theorem dL_law_14 : decode cL_law 14 = .ok (.istore_n 2, 1) := by decide +kernel
theorem dL_law_15 : decode cL_law 15 = .ok (.iload_n 2, 1) := by decide +kernel
theorem dL_law_16 : decode cL_law 16 = .ok (.ifCond .ge 5, 3) := by decide +kernel
theorem dL_law_19 : decode cL_law 19 = .ok (.iconst 0, 1) := by decide +kernel
theorem dL_law_20 : decode cL_law 20 = .ok (.ireturn, 1) := by decide +kernel
theorem dL_law_21 : decode cL_law 21 = .ok (.iconst 1, 1) := by decide +kernel
theorem dL_law_22 : decode cL_law 22 = .ok (.iload_n 2, 1) := by decide +kernel
theorem dL_law_23 : decode cL_law 23 = .ok (.ishl, 1) := by decide +kernel
theorem dL_law_24 : decode cL_law 24 = .ok (.iconst 1, 1) := by decide +kernel
theorem dL_law_25 : decode cL_law 25 = .ok (.isub, 1) := by decide +kernel
theorem dL_law_26 : decode cL_law 26 = .ok (.istore_n 3, 1) := by decide +kernel
theorem dL_law_27 : decode cL_law 27 = .ok (.aload_n 1, 1) := by decide +kernel
theorem dL_law_28 : decode cL_law 28 = .ok (.iload_n 3, 1) := by decide +kernel
theorem dL_law_29 : decode cL_law 29 = .ok (.invokestatic 60, 3) := by decide +kernel
theorem dL_law_32 : decode cL_law 32 = .ok (.istore 4, 2) := by decide +kernel
theorem dL_law_34 : decode cL_law 34 = .ok (.iconst 0, 1) := by decide +kernel
theorem dL_law_35 : decode cL_law 35 = .ok (.istore 5, 2) := by decide +kernel
theorem dL_law_37 : decode cL_law 37 = .ok (.iconst 0, 1) := by decide +kernel
theorem dL_law_38 : decode cL_law 38 = .ok (.istore 6, 2) := by decide +kernel
theorem dL_law_40 : decode cL_law 40 = .ok (.iload 6, 2) := by decide +kernel
theorem dL_law_42 : decode cL_law 42 = .ok (.iload_n 2, 1) := by decide +kernel
theorem dL_law_43 : decode cL_law 43 = .ok (.if_icmp .ge 58, 3) := by decide +kernel
theorem dL_law_46 : decode cL_law 46 = .ok (.iload 5, 2) := by decide +kernel
theorem dL_law_48 : decode cL_law 48 = .ok (.iload 4, 2) := by decide +kernel
theorem dL_law_50 : decode cL_law 50 = .ok (.iload 6, 2) := by decide +kernel
theorem dL_law_52 : decode cL_law 52 = .ok (.ishr, 1) := by decide +kernel
theorem dL_law_53 : decode cL_law 53 = .ok (.iconst 1, 1) := by decide +kernel
theorem dL_law_54 : decode cL_law 54 = .ok (.iand, 1) := by decide +kernel
theorem dL_law_55 : decode cL_law 55 = .ok (.iadd, 1) := by decide +kernel
theorem dL_law_56 : decode cL_law 56 = .ok (.istore 5, 2) := by decide +kernel
theorem dL_law_58 : decode cL_law 58 = .ok (.aload_n 1, 1) := by decide +kernel
theorem dL_law_59 : decode cL_law 59 = .ok (.iload 6, 2) := by decide +kernel
theorem dL_law_61 : decode cL_law 61 = .ok (.iconst 3, 1) := by decide +kernel
theorem dL_law_62 : decode cL_law 62 = .ok (.invokevirtual 36, 3) := by decide +kernel
theorem dL_law_65 : decode cL_law 65 = .ok (.iload 4, 2) := by decide +kernel
theorem dL_law_67 : decode cL_law 67 = .ok (.iload 6, 2) := by decide +kernel
theorem dL_law_69 : decode cL_law 69 = .ok (.ishr, 1) := by decide +kernel
theorem dL_law_70 : decode cL_law 70 = .ok (.iconst 1, 1) := by decide +kernel
theorem dL_law_71 : decode cL_law 71 = .ok (.iand, 1) := by decide +kernel
theorem dL_law_72 : decode cL_law 72 = .ok (.if_icmp .ne 21, 3) := by decide +kernel
theorem dL_law_75 : decode cL_law 75 = .ok (.aload_n 1, 1) := by decide +kernel
theorem dL_law_76 : decode cL_law 76 = .ok (.iload 6, 2) := by decide +kernel
theorem dL_law_78 : decode cL_law 78 = .ok (.iconst 2, 1) := by decide +kernel
theorem dL_law_79 : decode cL_law 79 = .ok (.invokevirtual 36, 3) := by decide +kernel
theorem dL_law_82 : decode cL_law 82 = .ok (.aload_n 1, 1) := by decide +kernel
theorem dL_law_83 : decode cL_law 83 = .ok (.iconst 1, 1) := by decide +kernel
theorem dL_law_84 : decode cL_law 84 = .ok (.iload 6, 2) := by decide +kernel
theorem dL_law_86 : decode cL_law 86 = .ok (.ishl, 1) := by decide +kernel
theorem dL_law_87 : decode cL_law 87 = .ok (.invokestatic 52, 3) := by decide +kernel
theorem dL_law_90 : decode cL_law 90 = .ok (.if_icmp .eq 5, 3) := by decide +kernel
theorem dL_law_93 : decode cL_law 93 = .ok (.iconst 0, 1) := by decide +kernel
theorem dL_law_94 : decode cL_law 94 = .ok (.ireturn, 1) := by decide +kernel
theorem dL_law_95 : decode cL_law 95 = .ok (.iinc 6 1, 3) := by decide +kernel
theorem dL_law_98 : decode cL_law 98 = .ok (.goto (-58), 3) := by decide +kernel
theorem dL_law_101 : decode cL_law 101 = .ok (.aload_n 1, 1) := by decide +kernel
theorem dL_law_102 : decode cL_law 102 = .ok (.iconst 2, 1) := by decide +kernel
theorem dL_law_103 : decode cL_law 103 = .ok (.invokevirtual 45, 3) := by decide +kernel
theorem dL_law_106 : decode cL_law 106 = .ok (.iload 5, 2) := by decide +kernel
theorem dL_law_108 : decode cL_law 108 = .ok (.if_icmp .eq 5, 3) := by decide +kernel
theorem dL_law_111 : decode cL_law 111 = .ok (.iconst 0, 1) := by decide +kernel
theorem dL_law_112 : decode cL_law 112 = .ok (.ireturn, 1) := by decide +kernel
theorem dL_law_113 : decode cL_law 113 = .ok (.iconst 0, 1) := by decide +kernel
theorem dL_law_114 : decode cL_law 114 = .ok (.istore 6, 2) := by decide +kernel
theorem dL_law_116 : decode cL_law 116 = .ok (.iload 6, 2) := by decide +kernel
theorem dL_law_118 : decode cL_law 118 = .ok (.iconst 3, 1) := by decide +kernel
theorem dL_law_119 : decode cL_law 119 = .ok (.if_icmp .ge 198, 3) := by decide +kernel
theorem dL_law_122 : decode cL_law 122 = .ok (.aload_n 1, 1) := by decide +kernel
theorem dL_law_123 : decode cL_law 123 = .ok (.aload_n 0, 1) := by decide +kernel
theorem dL_law_124 : decode cL_law 124 = .ok (.bipush 12, 2) := by decide +kernel
theorem dL_law_126 : decode cL_law 126 = .ok (.bipush 12, 2) := by decide +kernel
theorem dL_law_128 : decode cL_law 128 = .ok (.iload 6, 2) := by decide +kernel
theorem dL_law_130 : decode cL_law 130 = .ok (.imul, 1) := by decide +kernel
theorem dL_law_131 : decode cL_law 131 = .ok (.iadd, 1) := by decide +kernel
theorem dL_law_132 : decode cL_law 132 = .ok (.iconst 3, 1) := by decide +kernel
theorem dL_law_133 : decode cL_law 133 = .ok (.aload_n 0, 1) := by decide +kernel
theorem dL_law_134 : decode cL_law 134 = .ok (.bipush 10, 2) := by decide +kernel
theorem dL_law_136 : decode cL_law 136 = .ok (.iload 6, 2) := by decide +kernel
theorem dL_law_138 : decode cL_law 138 = .ok (.iadd, 1) := by decide +kernel
theorem dL_law_139 : decode cL_law 139 = .ok (.invokestatic 16, 3) := by decide +kernel
theorem dL_law_142 : decode cL_law 142 = .ok (.bipush 14, 2) := by decide +kernel
theorem dL_law_144 : decode cL_law 144 = .ok (.invokestatic 10, 3) := by decide +kernel
theorem dL_law_147 : decode cL_law 147 = .ok (.iadd, 1) := by decide +kernel
theorem dL_law_148 : decode cL_law 148 = .ok (.invokestatic 80, 3) := by decide +kernel
theorem dL_law_151 : decode cL_law 151 = .ok (.istore 7, 2) := by decide +kernel
theorem dL_law_153 : decode cL_law 153 = .ok (.iload 7, 2) := by decide +kernel
theorem dL_law_155 : decode cL_law 155 = .ok (.bipush 40, 2) := by decide +kernel
theorem dL_law_157 : decode cL_law 157 = .ok (.if_icmp .gt 46, 3) := by decide +kernel
theorem dL_law_160 : decode cL_law 160 = .ok (.aload_n 1, 1) := by decide +kernel
theorem dL_law_161 : decode cL_law 161 = .ok (.invokevirtual 84, 3) := by decide +kernel
theorem dL_law_164 : decode cL_law 164 = .ok (.iload 7, 2) := by decide +kernel
theorem dL_law_166 : decode cL_law 166 = .ok (.if_icmp .ne 37, 3) := by decide +kernel
theorem dL_law_169 : decode cL_law 169 = .ok (.aload_n 1, 1) := by decide +kernel
theorem dL_law_170 : decode cL_law 170 = .ok (.iload 6, 2) := by decide +kernel
theorem dL_law_172 : decode cL_law 172 = .ok (.invokevirtual 88, 3) := by decide +kernel
theorem dL_law_175 : decode cL_law 175 = .ok (.iload 7, 2) := by decide +kernel
theorem dL_law_177 : decode cL_law 177 = .ok (.if_icmp .ne 26, 3) := by decide +kernel
theorem dL_law_180 : decode cL_law 180 = .ok (.aload_n 1, 1) := by decide +kernel
theorem dL_law_181 : decode cL_law 181 = .ok (.iload 6, 2) := by decide +kernel
theorem dL_law_183 : decode cL_law 183 = .ok (.iconst 0, 1) := by decide +kernel
theorem dL_law_184 : decode cL_law 184 = .ok (.invokevirtual 68, 3) := by decide +kernel
theorem dL_law_187 : decode cL_law 187 = .ok (.iload 7, 2) := by decide +kernel
theorem dL_law_189 : decode cL_law 189 = .ok (.if_icmp .ne 14, 3) := by decide +kernel
theorem dL_law_192 : decode cL_law 192 = .ok (.aload_n 1, 1) := by decide +kernel
theorem dL_law_193 : decode cL_law 193 = .ok (.iload 6, 2) := by decide +kernel
theorem dL_law_195 : decode cL_law 195 = .ok (.iload 4, 2) := by decide +kernel
theorem dL_law_197 : decode cL_law 197 = .ok (.invokestatic 91, 3) := by decide +kernel
theorem dL_law_200 : decode cL_law 200 = .ok (.ifCond .ne 5, 3) := by decide +kernel
theorem dL_law_203 : decode cL_law 203 = .ok (.iconst 0, 1) := by decide +kernel
theorem dL_law_204 : decode cL_law 204 = .ok (.ireturn, 1) := by decide +kernel
theorem dL_law_205 : decode cL_law 205 = .ok (.aload_n 1, 1) := by decide +kernel
theorem dL_law_206 : decode cL_law 206 = .ok (.iload 6, 2) := by decide +kernel
theorem dL_law_208 : decode cL_law 208 = .ok (.iconst 1, 1) := by decide +kernel
theorem dL_law_209 : decode cL_law 209 = .ok (.invokevirtual 68, 3) := by decide +kernel
theorem dL_law_212 : decode cL_law 212 = .ok (.istore 8, 2) := by decide +kernel
theorem dL_law_214 : decode cL_law 214 = .ok (.aload_n 1, 1) := by decide +kernel
theorem dL_law_215 : decode cL_law 215 = .ok (.iload 6, 2) := by decide +kernel
theorem dL_law_217 : decode cL_law 217 = .ok (.iconst 0, 1) := by decide +kernel
theorem dL_law_218 : decode cL_law 218 = .ok (.iconst 0, 1) := by decide +kernel
theorem dL_law_219 : decode cL_law 219 = .ok (.invokevirtual 63, 3) := by decide +kernel
theorem dL_law_222 : decode cL_law 222 = .ok (.bipush 33, 2) := by decide +kernel
theorem dL_law_224 : decode cL_law 224 = .ok (.if_icmp .ne 7, 3) := by decide +kernel
theorem dL_law_227 : decode cL_law 227 = .ok (.iconst 1, 1) := by decide +kernel
theorem dL_law_228 : decode cL_law 228 = .ok (.goto 4, 3) := by decide +kernel
theorem dL_law_231 : decode cL_law 231 = .ok (.iconst 0, 1) := by decide +kernel
theorem dL_law_232 : decode cL_law 232 = .ok (.istore 9, 2) := by decide +kernel
theorem dL_law_234 : decode cL_law 234 = .ok (.aload_n 1, 1) := by decide +kernel
theorem dL_law_235 : decode cL_law 235 = .ok (.iload 6, 2) := by decide +kernel
theorem dL_law_237 : decode cL_law 237 = .ok (.invokevirtual 95, 3) := by decide +kernel
theorem dL_law_240 : decode cL_law 240 = .ok (.istore 10, 2) := by decide +kernel
theorem dL_law_242 : decode cL_law 242 = .ok (.iload 10, 2) := by decide +kernel
theorem dL_law_244 : decode cL_law 244 = .ok (.iload 9, 2) := by decide +kernel
theorem dL_law_246 : decode cL_law 246 = .ok (.ifCond .eq 10, 3) := by decide +kernel
theorem dL_law_249 : decode cL_law 249 = .ok (.iload 7, 2) := by decide +kernel
theorem dL_law_251 : decode cL_law 251 = .ok (.iconst 1, 1) := by decide +kernel
theorem dL_law_252 : decode cL_law 252 = .ok (.isub, 1) := by decide +kernel
theorem dL_law_253 : decode cL_law 253 = .ok (.goto 7, 3) := by decide +kernel
theorem dL_law_256 : decode cL_law 256 = .ok (.iload 7, 2) := by decide +kernel
theorem dL_law_258 : decode cL_law 258 = .ok (.iconst 1, 1) := by decide +kernel
theorem dL_law_259 : decode cL_law 259 = .ok (.iadd, 1) := by decide +kernel
theorem dL_law_260 : decode cL_law 260 = .ok (.if_icmp .ne 49, 3) := by decide +kernel
theorem dL_law_263 : decode cL_law 263 = .ok (.aload_n 1, 1) := by decide +kernel
theorem dL_law_264 : decode cL_law 264 = .ok (.iload 6, 2) := by decide +kernel
theorem dL_law_266 : decode cL_law 266 = .ok (.iconst 1, 1) := by decide +kernel
theorem dL_law_267 : decode cL_law 267 = .ok (.invokevirtual 68, 3) := by decide +kernel
theorem dL_law_270 : decode cL_law 270 = .ok (.iload_n 3, 1) := by decide +kernel
theorem dL_law_271 : decode cL_law 271 = .ok (.iload 8, 2) := by decide +kernel
theorem dL_law_273 : decode cL_law 273 = .ok (.iconst (-1), 1) := by decide +kernel
theorem dL_law_274 : decode cL_law 274 = .ok (.ixor, 1) := by decide +kernel
theorem dL_law_275 : decode cL_law 275 = .ok (.iand, 1) := by decide +kernel
theorem dL_law_276 : decode cL_law 276 = .ok (.if_icmp .ne 33, 3) := by decide +kernel
theorem dL_law_279 : decode cL_law 279 = .ok (.aload_n 1, 1) := by decide +kernel
theorem dL_law_280 : decode cL_law 280 = .ok (.iload 6, 2) := by decide +kernel
theorem dL_law_282 : decode cL_law 282 = .ok (.iload 4, 2) := by decide +kernel
theorem dL_law_284 : decode cL_law 284 = .ok (.invokestatic 91, 3) := by decide +kernel
theorem dL_law_287 : decode cL_law 287 = .ok (.ifCond .eq 22, 3) := by decide +kernel
theorem dL_law_290 : decode cL_law 290 = .ok (.aload_n 1, 1) := by decide +kernel
theorem dL_law_291 : decode cL_law 291 = .ok (.invokevirtual 98, 3) := by decide +kernel
theorem dL_law_294 : decode cL_law 294 = .ok (.ifCond .lt 15, 3) := by decide +kernel
theorem dL_law_297 : decode cL_law 297 = .ok (.aload_n 1, 1) := by decide +kernel
theorem dL_law_298 : decode cL_law 298 = .ok (.iload 6, 2) := by decide +kernel
theorem dL_law_300 : decode cL_law 300 = .ok (.iconst 1, 1) := by decide +kernel
theorem dL_law_301 : decode cL_law 301 = .ok (.invokevirtual 68, 3) := by decide +kernel
theorem dL_law_304 : decode cL_law 304 = .ok (.iload 8, 2) := by decide +kernel
theorem dL_law_306 : decode cL_law 306 = .ok (.if_icmp .eq 5, 3) := by decide +kernel
theorem dL_law_309 : decode cL_law 309 = .ok (.iconst 0, 1) := by decide +kernel
theorem dL_law_310 : decode cL_law 310 = .ok (.ireturn, 1) := by decide +kernel
theorem dL_law_311 : decode cL_law 311 = .ok (.iinc 6 1, 3) := by decide +kernel
theorem dL_law_314 : decode cL_law 314 = .ok (.goto (-198), 3) := by decide +kernel
theorem dL_law_317 : decode cL_law 317 = .ok (.aload_n 0, 1) := by decide +kernel
theorem dL_law_318 : decode cL_law 318 = .ok (.bipush 48, 2) := by decide +kernel
theorem dL_law_320 : decode cL_law 320 = .ok (.invokestatic 16, 3) := by decide +kernel
theorem dL_law_323 : decode cL_law 323 = .ok (.iconst 5, 1) := by decide +kernel
theorem dL_law_324 : decode cL_law 324 = .ok (.invokestatic 10, 3) := by decide +kernel
theorem dL_law_327 : decode cL_law 327 = .ok (.iconst 1, 1) := by decide +kernel
theorem dL_law_328 : decode cL_law 328 = .ok (.isub, 1) := by decide +kernel
theorem dL_law_329 : decode cL_law 329 = .ok (.istore 6, 2) := by decide +kernel
theorem dL_law_331 : decode cL_law 331 = .ok (.aload_n 1, 1) := by decide +kernel
theorem dL_law_332 : decode cL_law 332 = .ok (.iconst 4, 1) := by decide +kernel
theorem dL_law_333 : decode cL_law 333 = .ok (.invokevirtual 45, 3) := by decide +kernel
theorem dL_law_336 : decode cL_law 336 = .ok (.istore 7, 2) := by decide +kernel
theorem dL_law_338 : decode cL_law 338 = .ok (.aload_n 1, 1) := by decide +kernel
theorem dL_law_339 : decode cL_law 339 = .ok (.iconst 1, 1) := by decide +kernel
theorem dL_law_340 : decode cL_law 340 = .ok (.iload 6, 2) := by decide +kernel
theorem dL_law_342 : decode cL_law 342 = .ok (.invokevirtual 101, 3) := by decide +kernel
theorem dL_law_345 : decode cL_law 345 = .ok (.istore 8, 2) := by decide +kernel
theorem dL_law_347 : decode cL_law 347 = .ok (.aload_n 1, 1) := by decide +kernel
theorem dL_law_348 : decode cL_law 348 = .ok (.iload 6, 2) := by decide +kernel
theorem dL_law_350 : decode cL_law 350 = .ok (.invokevirtual 42, 3) := by decide +kernel
theorem dL_law_353 : decode cL_law 353 = .ok (.iload 7, 2) := by decide +kernel
theorem dL_law_355 : decode cL_law 355 = .ok (.if_icmp .ne 44, 3) := by decide +kernel
theorem dL_law_358 : decode cL_law 358 = .ok (.aload_n 1, 1) := by decide +kernel
theorem dL_law_359 : decode cL_law 359 = .ok (.iconst 1, 1) := by decide +kernel
theorem dL_law_360 : decode cL_law 360 = .ok (.iconst 1, 1) := by decide +kernel
theorem dL_law_361 : decode cL_law 361 = .ok (.invokevirtual 68, 3) := by decide +kernel
theorem dL_law_364 : decode cL_law 364 = .ok (.iload 8, 2) := by decide +kernel
theorem dL_law_366 : decode cL_law 366 = .ok (.if_icmp .ne 33, 3) := by decide +kernel
theorem dL_law_369 : decode cL_law 369 = .ok (.aload_n 1, 1) := by decide +kernel
theorem dL_law_370 : decode cL_law 370 = .ok (.iconst 1, 1) := by decide +kernel
theorem dL_law_371 : decode cL_law 371 = .ok (.aload_n 1, 1) := by decide +kernel
theorem dL_law_372 : decode cL_law 372 = .ok (.iload_n 3, 1) := by decide +kernel
theorem dL_law_373 : decode cL_law 373 = .ok (.invokestatic 60, 3) := by decide +kernel
theorem dL_law_376 : decode cL_law 376 = .ok (.invokestatic 91, 3) := by decide +kernel
theorem dL_law_379 : decode cL_law 379 = .ok (.ifCond .eq 20, 3) := by decide +kernel
theorem dL_law_382 : decode cL_law 382 = .ok (.aload_n 1, 1) := by decide +kernel
theorem dL_law_383 : decode cL_law 383 = .ok (.invokevirtual 98, 3) := by decide +kernel
theorem dL_law_386 : decode cL_law 386 = .ok (.ifCond .lt 13, 3) := by decide +kernel
theorem dL_law_389 : decode cL_law 389 = .ok (.aload_n 1, 1) := by decide +kernel
theorem dL_law_390 : decode cL_law 390 = .ok (.iconst 4, 1) := by decide +kernel
theorem dL_law_391 : decode cL_law 391 = .ok (.invokevirtual 45, 3) := by decide +kernel
theorem dL_law_394 : decode cL_law 394 = .ok (.iload 7, 2) := by decide +kernel
theorem dL_law_396 : decode cL_law 396 = .ok (.if_icmp .eq 5, 3) := by decide +kernel
theorem dL_law_399 : decode cL_law 399 = .ok (.iconst 0, 1) := by decide +kernel
theorem dL_law_400 : decode cL_law 400 = .ok (.ireturn, 1) := by decide +kernel
theorem dL_law_401 : decode cL_law 401 = .ok (.iconst 0, 1) := by decide +kernel
theorem dL_law_402 : decode cL_law 402 = .ok (.istore 9, 2) := by decide +kernel
theorem dL_law_404 : decode cL_law 404 = .ok (.iload_n 3, 1) := by decide +kernel
theorem dL_law_405 : decode cL_law 405 = .ok (.istore 10, 2) := by decide +kernel
theorem dL_law_407 : decode cL_law 407 = .ok (.iconst 0, 1) := by decide +kernel
theorem dL_law_408 : decode cL_law 408 = .ok (.istore 11, 2) := by decide +kernel
theorem dL_law_410 : decode cL_law 410 = .ok (.iload 11, 2) := by decide +kernel
theorem dL_law_412 : decode cL_law 412 = .ok (.iconst 3, 1) := by decide +kernel
theorem dL_law_413 : decode cL_law 413 = .ok (.if_icmp .ge 82, 3) := by decide +kernel
theorem dL_law_416 : decode cL_law 416 = .ok (.iload 10, 2) := by decide +kernel
theorem dL_law_418 : decode cL_law 418 = .ok (.aload_n 1, 1) := by decide +kernel
theorem dL_law_419 : decode cL_law 419 = .ok (.iload 11, 2) := by decide +kernel
theorem dL_law_421 : decode cL_law 421 = .ok (.iconst 1, 1) := by decide +kernel
theorem dL_law_422 : decode cL_law 422 = .ok (.invokevirtual 68, 3) := by decide +kernel
theorem dL_law_425 : decode cL_law 425 = .ok (.iand, 1) := by decide +kernel
theorem dL_law_426 : decode cL_law 426 = .ok (.istore 10, 2) := by decide +kernel
theorem dL_law_428 : decode cL_law 428 = .ok (.iconst 0, 1) := by decide +kernel
theorem dL_law_429 : decode cL_law 429 = .ok (.istore 12, 2) := by decide +kernel
theorem dL_law_431 : decode cL_law 431 = .ok (.iload 12, 2) := by decide +kernel
theorem dL_law_433 : decode cL_law 433 = .ok (.iload_n 2, 1) := by decide +kernel
theorem dL_law_434 : decode cL_law 434 = .ok (.if_icmp .ge 55, 3) := by decide +kernel
theorem dL_law_437 : decode cL_law 437 = .ok (.iload 9, 2) := by decide +kernel
theorem dL_law_439 : decode cL_law 439 = .ok (.aload_n 1, 1) := by decide +kernel
theorem dL_law_440 : decode cL_law 440 = .ok (.iload 12, 2) := by decide +kernel
theorem dL_law_442 : decode cL_law 442 = .ok (.iconst 4, 1) := by decide +kernel
theorem dL_law_443 : decode cL_law 443 = .ok (.invokevirtual 36, 3) := by decide +kernel
theorem dL_law_446 : decode cL_law 446 = .ok (.iload 11, 2) := by decide +kernel
theorem dL_law_448 : decode cL_law 448 = .ok (.ishr, 1) := by decide +kernel
theorem dL_law_449 : decode cL_law 449 = .ok (.iconst 1, 1) := by decide +kernel
theorem dL_law_450 : decode cL_law 450 = .ok (.iand, 1) := by decide +kernel
theorem dL_law_451 : decode cL_law 451 = .ok (.iadd, 1) := by decide +kernel
theorem dL_law_452 : decode cL_law 452 = .ok (.istore 9, 2) := by decide +kernel
theorem dL_law_454 : decode cL_law 454 = .ok (.aload_n 1, 1) := by decide +kernel
theorem dL_law_455 : decode cL_law 455 = .ok (.iload 12, 2) := by decide +kernel
theorem dL_law_457 : decode cL_law 457 = .ok (.iconst 4, 1) := by decide +kernel
theorem dL_law_458 : decode cL_law 458 = .ok (.invokevirtual 36, 3) := by decide +kernel
theorem dL_law_461 : decode cL_law 461 = .ok (.iload 11, 2) := by decide +kernel
theorem dL_law_463 : decode cL_law 463 = .ok (.ishr, 1) := by decide +kernel
theorem dL_law_464 : decode cL_law 464 = .ok (.iconst 1, 1) := by decide +kernel
theorem dL_law_465 : decode cL_law 465 = .ok (.iand, 1) := by decide +kernel
theorem dL_law_466 : decode cL_law 466 = .ok (.aload_n 1, 1) := by decide +kernel
theorem dL_law_467 : decode cL_law 467 = .ok (.iload 11, 2) := by decide +kernel
theorem dL_law_469 : decode cL_law 469 = .ok (.iconst 1, 1) := by decide +kernel
theorem dL_law_470 : decode cL_law 470 = .ok (.invokevirtual 68, 3) := by decide +kernel
theorem dL_law_473 : decode cL_law 473 = .ok (.iload 12, 2) := by decide +kernel
theorem dL_law_475 : decode cL_law 475 = .ok (.ishr, 1) := by decide +kernel
theorem dL_law_476 : decode cL_law 476 = .ok (.iconst 1, 1) := by decide +kernel
theorem dL_law_477 : decode cL_law 477 = .ok (.iand, 1) := by decide +kernel
theorem dL_law_478 : decode cL_law 478 = .ok (.if_icmp .eq 5, 3) := by decide +kernel
theorem dL_law_481 : decode cL_law 481 = .ok (.iconst 0, 1) := by decide +kernel
theorem dL_law_482 : decode cL_law 482 = .ok (.ireturn, 1) := by decide +kernel
theorem dL_law_483 : decode cL_law 483 = .ok (.iinc 12 1, 3) := by decide +kernel
theorem dL_law_486 : decode cL_law 486 = .ok (.goto (-55), 3) := by decide +kernel
theorem dL_law_489 : decode cL_law 489 = .ok (.iinc 11 1, 3) := by decide +kernel
theorem dL_law_492 : decode cL_law 492 = .ok (.goto (-82), 3) := by decide +kernel
theorem dL_law_495 : decode cL_law 495 = .ok (.aload_n 1, 1) := by decide +kernel
theorem dL_law_496 : decode cL_law 496 = .ok (.iconst 0, 1) := by decide +kernel
theorem dL_law_497 : decode cL_law 497 = .ok (.iconst 1, 1) := by decide +kernel
theorem dL_law_498 : decode cL_law 498 = .ok (.invokevirtual 68, 3) := by decide +kernel
theorem dL_law_501 : decode cL_law 501 = .ok (.istore 11, 2) := by decide +kernel
theorem dL_law_503 : decode cL_law 503 = .ok (.aload_n 1, 1) := by decide +kernel
theorem dL_law_504 : decode cL_law 504 = .ok (.iconst 1, 1) := by decide +kernel
theorem dL_law_505 : decode cL_law 505 = .ok (.iconst 1, 1) := by decide +kernel
theorem dL_law_506 : decode cL_law 506 = .ok (.invokevirtual 68, 3) := by decide +kernel
theorem dL_law_509 : decode cL_law 509 = .ok (.istore 12, 2) := by decide +kernel
theorem dL_law_511 : decode cL_law 511 = .ok (.iload 11, 2) := by decide +kernel
theorem dL_law_513 : decode cL_law 513 = .ok (.iload 12, 2) := by decide +kernel
theorem dL_law_515 : decode cL_law 515 = .ok (.if_icmp .ne 7, 3) := by decide +kernel
theorem dL_law_518 : decode cL_law 518 = .ok (.iconst 0, 1) := by decide +kernel
theorem dL_law_519 : decode cL_law 519 = .ok (.goto 32, 3) := by decide +kernel
theorem dL_law_522 : decode cL_law 522 = .ok (.iload 11, 2) := by decide +kernel
theorem dL_law_524 : decode cL_law 524 = .ok (.iload 12, 2) := by decide +kernel
theorem dL_law_526 : decode cL_law 526 = .ok (.ior, 1) := by decide +kernel
theorem dL_law_527 : decode cL_law 527 = .ok (.iload 12, 2) := by decide +kernel
theorem dL_law_529 : decode cL_law 529 = .ok (.if_icmp .ne 7, 3) := by decide +kernel
theorem dL_law_532 : decode cL_law 532 = .ok (.iconst 1, 1) := by decide +kernel
theorem dL_law_533 : decode cL_law 533 = .ok (.goto 18, 3) := by decide +kernel
theorem dL_law_536 : decode cL_law 536 = .ok (.iload 11, 2) := by decide +kernel
theorem dL_law_538 : decode cL_law 538 = .ok (.iload 12, 2) := by decide +kernel
theorem dL_law_540 : decode cL_law 540 = .ok (.ior, 1) := by decide +kernel
theorem dL_law_541 : decode cL_law 541 = .ok (.iload 11, 2) := by decide +kernel
theorem dL_law_543 : decode cL_law 543 = .ok (.if_icmp .ne 7, 3) := by decide +kernel
theorem dL_law_546 : decode cL_law 546 = .ok (.iconst 2, 1) := by decide +kernel
theorem dL_law_547 : decode cL_law 547 = .ok (.goto 4, 3) := by decide +kernel
theorem dL_law_550 : decode cL_law 550 = .ok (.iconst 3, 1) := by decide +kernel
theorem dL_law_551 : decode cL_law 551 = .ok (.istore 13, 2) := by decide +kernel
theorem dL_law_553 : decode cL_law 553 = .ok (.iconst 0, 1) := by decide +kernel
theorem dL_law_554 : decode cL_law 554 = .ok (.istore 14, 2) := by decide +kernel
theorem dL_law_556 : decode cL_law 556 = .ok (.iconst 0, 1) := by decide +kernel
theorem dL_law_557 : decode cL_law 557 = .ok (.istore 15, 2) := by decide +kernel
theorem dL_law_559 : decode cL_law 559 = .ok (.iload 15, 2) := by decide +kernel
theorem dL_law_561 : decode cL_law 561 = .ok (.iload_n 2, 1) := by decide +kernel
theorem dL_law_562 : decode cL_law 562 = .ok (.if_icmp .ge 21, 3) := by decide +kernel
theorem dL_law_565 : decode cL_law 565 = .ok (.iload 14, 2) := by decide +kernel
theorem dL_law_567 : decode cL_law 567 = .ok (.iload 10, 2) := by decide +kernel
theorem dL_law_569 : decode cL_law 569 = .ok (.iload 15, 2) := by decide +kernel
theorem dL_law_571 : decode cL_law 571 = .ok (.ishr, 1) := by decide +kernel
theorem dL_law_572 : decode cL_law 572 = .ok (.iconst 1, 1) := by decide +kernel
theorem dL_law_573 : decode cL_law 573 = .ok (.iand, 1) := by decide +kernel
theorem dL_law_574 : decode cL_law 574 = .ok (.iadd, 1) := by decide +kernel
theorem dL_law_575 : decode cL_law 575 = .ok (.istore 14, 2) := by decide +kernel
theorem dL_law_577 : decode cL_law 577 = .ok (.iinc 15 1, 3) := by decide +kernel
theorem dL_law_580 : decode cL_law 580 = .ok (.goto (-21), 3) := by decide +kernel
theorem dL_law_583 : decode cL_law 583 = .ok (.aload_n 1, 1) := by decide +kernel
theorem dL_law_584 : decode cL_law 584 = .ok (.iconst 0, 1) := by decide +kernel
theorem dL_law_585 : decode cL_law 585 = .ok (.iconst 1, 1) := by decide +kernel
theorem dL_law_586 : decode cL_law 586 = .ok (.invokevirtual 104, 3) := by decide +kernel
theorem dL_law_589 : decode cL_law 589 = .ok (.iload 13, 2) := by decide +kernel
theorem dL_law_591 : decode cL_law 591 = .ok (.if_icmp .ne 53, 3) := by decide +kernel
theorem dL_law_594 : decode cL_law 594 = .ok (.aload_n 1, 1) := by decide +kernel
theorem dL_law_595 : decode cL_law 595 = .ok (.iconst 0, 1) := by decide +kernel
theorem dL_law_596 : decode cL_law 596 = .ok (.iconst 3, 1) := by decide +kernel
theorem dL_law_597 : decode cL_law 597 = .ok (.invokevirtual 104, 3) := by decide +kernel
theorem dL_law_600 : decode cL_law 600 = .ok (.iconst (-1), 1) := by decide +kernel
theorem dL_law_601 : decode cL_law 601 = .ok (.if_icmp .ne 43, 3) := by decide +kernel
theorem dL_law_604 : decode cL_law 604 = .ok (.aload_n 1, 1) := by decide +kernel
theorem dL_law_605 : decode cL_law 605 = .ok (.iconst 5, 1) := by decide +kernel
theorem dL_law_606 : decode cL_law 606 = .ok (.invokevirtual 45, 3) := by decide +kernel
theorem dL_law_609 : decode cL_law 609 = .ok (.iconst 3, 1) := by decide +kernel
theorem dL_law_610 : decode cL_law 610 = .ok (.if_icmp .ne 34, 3) := by decide +kernel
theorem dL_law_613 : decode cL_law 613 = .ok (.aload_n 1, 1) := by decide +kernel
theorem dL_law_614 : decode cL_law 614 = .ok (.bipush 7, 2) := by decide +kernel
theorem dL_law_616 : decode cL_law 616 = .ok (.invokevirtual 45, 3) := by decide +kernel
theorem dL_law_619 : decode cL_law 619 = .ok (.iload 14, 2) := by decide +kernel
theorem dL_law_621 : decode cL_law 621 = .ok (.if_icmp .ne 23, 3) := by decide +kernel
theorem dL_law_624 : decode cL_law 624 = .ok (.aload_n 1, 1) := by decide +kernel
theorem dL_law_625 : decode cL_law 625 = .ok (.invokevirtual 107, 3) := by decide +kernel
theorem dL_law_628 : decode cL_law 628 = .ok (.iload 9, 2) := by decide +kernel
theorem dL_law_630 : decode cL_law 630 = .ok (.i2d, 1) := by decide +kernel
theorem dL_law_631 : decode cL_law 631 = .ok (.iconst 3, 1) := by decide +kernel
theorem dL_law_632 : decode cL_law 632 = .ok (.iload_n 2, 1) := by decide +kernel
theorem dL_law_633 : decode cL_law 633 = .ok (.imul, 1) := by decide +kernel
theorem dL_law_634 : decode cL_law 634 = .ok (.i2d, 1) := by decide +kernel
theorem dL_law_635 : decode cL_law 635 = .ok (.ddiv, 1) := by decide +kernel
theorem dL_law_636 : decode cL_law 636 = .ok (.dcmp .l, 1) := by decide +kernel
theorem dL_law_637 : decode cL_law 637 = .ok (.ifCond .ne 7, 3) := by decide +kernel
theorem dL_law_640 : decode cL_law 640 = .ok (.iconst 1, 1) := by decide +kernel
theorem dL_law_641 : decode cL_law 641 = .ok (.goto 4, 3) := by decide +kernel
theorem dL_law_644 : decode cL_law 644 = .ok (.iconst 0, 1) := by decide +kernel
theorem dL_law_645 : decode cL_law 645 = .ok (.ireturn, 1) := by decide +kernel
