theorem dX0_init_0 : decode cX0_init 0 = .ok (.aload_n 0, 1) := by decide +kernel
theorem dX0_init_1 : decode cX0_init 1 = .ok (.invokespecial 3, 3) := by decide +kernel
theorem dX0_init_4 : decode cX0_init 4 = .ok (.return_, 1) := by decide +kernel
theorem dX0_begin_0 : decode cX0_begin 0 = .ok (.aload_n 0, 1) := by decide +kernel
theorem dX0_begin_1 : decode cX0_begin 1 = .ok (.iconst 0, 1) := by decide +kernel
theorem dX0_begin_2 : decode cX0_begin 2 = .ok (.putfield 9, 3) := by decide +kernel
theorem dX0_begin_5 : decode cX0_begin 5 = .ok (.aload_n 0, 1) := by decide +kernel
theorem dX0_begin_6 : decode cX0_begin 6 = .ok (.iconst 0, 1) := by decide +kernel
theorem dX0_begin_7 : decode cX0_begin 7 = .ok (.putfield 15, 3) := by decide +kernel
theorem dX0_begin_10 : decode cX0_begin 10 = .ok (.return_, 1) := by decide +kernel
theorem dX0_mayEnd_0 : decode cX0_mayEnd 0 = .ok (.aload_n 0, 1) := by decide +kernel
theorem dX0_mayEnd_1 : decode cX0_mayEnd 1 = .ok (.getfield 9, 3) := by decide +kernel
theorem dX0_mayEnd_4 : decode cX0_mayEnd 4 = .ok (.ifCond .ne 14, 3) := by decide +kernel
theorem dX0_mayEnd_7 : decode cX0_mayEnd 7 = .ok (.aload_n 0, 1) := by decide +kernel
theorem dX0_mayEnd_8 : decode cX0_mayEnd 8 = .ok (.getfield 15, 3) := by decide +kernel
theorem dX0_mayEnd_11 : decode cX0_mayEnd 11 = .ok (.ifCond .le 7, 3) := by decide +kernel
theorem dX0_mayEnd_14 : decode cX0_mayEnd 14 = .ok (.iconst 1, 1) := by decide +kernel
theorem dX0_mayEnd_15 : decode cX0_mayEnd 15 = .ok (.goto 4, 3) := by decide +kernel
theorem dX0_mayEnd_18 : decode cX0_mayEnd 18 = .ok (.iconst 0, 1) := by decide +kernel
theorem dX0_mayEnd_19 : decode cX0_mayEnd 19 = .ok (.ireturn, 1) := by decide +kernel
theorem dX0_take_0 : decode cX0_take 0 = .ok (.iload_n 1, 1) := by decide +kernel
theorem dX0_take_1 : decode cX0_take 1 = .ok (.bipush 32, 2) := by decide +kernel
theorem dX0_take_3 : decode cX0_take 3 = .ok (.if_icmp .ne 10, 3) := by decide +kernel
theorem dX0_take_6 : decode cX0_take 6 = .ok (.aload_n 0, 1) := by decide +kernel
theorem dX0_take_7 : decode cX0_take 7 = .ok (.iconst 0, 1) := by decide +kernel
theorem dX0_take_8 : decode cX0_take 8 = .ok (.putfield 19, 3) := by decide +kernel
theorem dX0_take_11 : decode cX0_take 11 = .ok (.iconst 1, 1) := by decide +kernel
theorem dX0_take_12 : decode cX0_take 12 = .ok (.ireturn, 1) := by decide +kernel
theorem dX0_take_13 : decode cX0_take 13 = .ok (.aload_n 0, 1) := by decide +kernel
theorem dX0_take_14 : decode cX0_take 14 = .ok (.getfield 9, 3) := by decide +kernel
theorem dX0_take_17 : decode cX0_take 17 = .ok (.ifCond .ne 9, 3) := by decide +kernel
theorem dX0_take_20 : decode cX0_take 20 = .ok (.aload_n 0, 1) := by decide +kernel
theorem dX0_take_21 : decode cX0_take 21 = .ok (.iload_n 1, 1) := by decide +kernel
theorem dX0_take_22 : decode cX0_take 22 = .ok (.invokevirtual 22, 3) := by decide +kernel
theorem dX0_take_25 : decode cX0_take 25 = .ok (.ireturn, 1) := by decide +kernel
theorem dX0_take_26 : decode cX0_take 26 = .ok (.iload_n 1, 1) := by decide +kernel
theorem dX0_take_27 : decode cX0_take 27 = .ok (.bipush 48, 2) := by decide +kernel
theorem dX0_take_29 : decode cX0_take 29 = .ok (.if_icmp .lt 18, 3) := by decide +kernel
theorem dX0_take_32 : decode cX0_take 32 = .ok (.iload_n 1, 1) := by decide +kernel
theorem dX0_take_33 : decode cX0_take 33 = .ok (.bipush 57, 2) := by decide +kernel
theorem dX0_take_35 : decode cX0_take 35 = .ok (.if_icmp .gt 12, 3) := by decide +kernel
theorem dX0_take_38 : decode cX0_take 38 = .ok (.aload_n 0, 1) := by decide +kernel
theorem dX0_take_39 : decode cX0_take 39 = .ok (.iload_n 1, 1) := by decide +kernel
theorem dX0_take_40 : decode cX0_take 40 = .ok (.bipush 48, 2) := by decide +kernel
theorem dX0_take_42 : decode cX0_take 42 = .ok (.isub, 1) := by decide +kernel
theorem dX0_take_43 : decode cX0_take 43 = .ok (.invokevirtual 26, 3) := by decide +kernel
theorem dX0_take_46 : decode cX0_take 46 = .ok (.ireturn, 1) := by decide +kernel
theorem dX0_take_47 : decode cX0_take 47 = .ok (.iload_n 1, 1) := by decide +kernel
theorem dX0_take_48 : decode cX0_take 48 = .ok (.bipush 59, 2) := by decide +kernel
theorem dX0_take_50 : decode cX0_take 50 = .ok (.if_icmp .ne 17, 3) := by decide +kernel
theorem dX0_take_53 : decode cX0_take 53 = .ok (.aload_n 0, 1) := by decide +kernel
theorem dX0_take_54 : decode cX0_take 54 = .ok (.getfield 29, 3) := by decide +kernel
theorem dX0_take_57 : decode cX0_take 57 = .ok (.aload_n 0, 1) := by decide +kernel
theorem dX0_take_58 : decode cX0_take 58 = .ok (.getfield 32, 3) := by decide +kernel
theorem dX0_take_61 : decode cX0_take 61 = .ok (.invokestatic 35, 3) := by decide +kernel
theorem dX0_take_64 : decode cX0_take 64 = .ok (.if_icmp .eq 5, 3) := by decide +kernel
theorem dX0_take_67 : decode cX0_take 67 = .ok (.iconst 0, 1) := by decide +kernel
theorem dX0_take_68 : decode cX0_take 68 = .ok (.ireturn, 1) := by decide +kernel
theorem dX0_take_69 : decode cX0_take 69 = .ok (.aload_n 0, 1) := by decide +kernel
theorem dX0_take_70 : decode cX0_take 70 = .ok (.iconst 0, 1) := by decide +kernel
theorem dX0_take_71 : decode cX0_take 71 = .ok (.putfield 9, 3) := by decide +kernel
theorem dX0_take_74 : decode cX0_take 74 = .ok (.aload_n 0, 1) := by decide +kernel
theorem dX0_take_75 : decode cX0_take 75 = .ok (.dup, 1) := by decide +kernel
theorem dX0_take_76 : decode cX0_take 76 = .ok (.getfield 15, 3) := by decide +kernel
theorem dX0_take_79 : decode cX0_take 79 = .ok (.iconst 1, 1) := by decide +kernel
theorem dX0_take_80 : decode cX0_take 80 = .ok (.iadd, 1) := by decide +kernel
theorem dX0_take_81 : decode cX0_take 81 = .ok (.putfield 15, 3) := by decide +kernel
theorem dX0_take_84 : decode cX0_take 84 = .ok (.iconst 2, 1) := by decide +kernel
theorem dX0_take_85 : decode cX0_take 85 = .ok (.ireturn, 1) := by decide +kernel
theorem dX0_takeKind_0 : decode cX0_takeKind 0 = .ok (.iload_n 1, 1) := by decide +kernel
theorem dX0_takeKind_1 : decode cX0_takeKind 1 = .ok (.invokestatic 35, 3) := by decide +kernel
theorem dX0_takeKind_4 : decode cX0_takeKind 4 = .ok (.ifCond .ne 5, 3) := by decide +kernel
theorem dX0_takeKind_7 : decode cX0_takeKind 7 = .ok (.iconst 0, 1) := by decide +kernel
theorem dX0_takeKind_8 : decode cX0_takeKind 8 = .ok (.ireturn, 1) := by decide +kernel
theorem dX0_takeKind_9 : decode cX0_takeKind 9 = .ok (.aload_n 0, 1) := by decide +kernel
theorem dX0_takeKind_10 : decode cX0_takeKind 10 = .ok (.iconst 1, 1) := by decide +kernel
theorem dX0_takeKind_11 : decode cX0_takeKind 11 = .ok (.putfield 9, 3) := by decide +kernel
theorem dX0_takeKind_14 : decode cX0_takeKind 14 = .ok (.aload_n 0, 1) := by decide +kernel
theorem dX0_takeKind_15 : decode cX0_takeKind 15 = .ok (.iload_n 1, 1) := by decide +kernel
theorem dX0_takeKind_16 : decode cX0_takeKind 16 = .ok (.putfield 32, 3) := by decide +kernel
theorem dX0_takeKind_19 : decode cX0_takeKind 19 = .ok (.aload_n 0, 1) := by decide +kernel
theorem dX0_takeKind_20 : decode cX0_takeKind 20 = .ok (.iconst 0, 1) := by decide +kernel
theorem dX0_takeKind_21 : decode cX0_takeKind 21 = .ok (.putfield 38, 3) := by decide +kernel
theorem dX0_takeKind_24 : decode cX0_takeKind 24 = .ok (.aload_n 0, 1) := by decide +kernel
theorem dX0_takeKind_25 : decode cX0_takeKind 25 = .ok (.iconst 0, 1) := by decide +kernel
theorem dX0_takeKind_26 : decode cX0_takeKind 26 = .ok (.putfield 41, 3) := by decide +kernel
theorem dX0_takeKind_29 : decode cX0_takeKind 29 = .ok (.aload_n 0, 1) := by decide +kernel
theorem dX0_takeKind_30 : decode cX0_takeKind 30 = .ok (.iconst 0, 1) := by decide +kernel
theorem dX0_takeKind_31 : decode cX0_takeKind 31 = .ok (.putfield 29, 3) := by decide +kernel
theorem dX0_takeKind_34 : decode cX0_takeKind 34 = .ok (.aload_n 0, 1) := by decide +kernel
theorem dX0_takeKind_35 : decode cX0_takeKind 35 = .ok (.iconst 0, 1) := by decide +kernel
theorem dX0_takeKind_36 : decode cX0_takeKind 36 = .ok (.putfield 19, 3) := by decide +kernel
theorem dX0_takeKind_39 : decode cX0_takeKind 39 = .ok (.iconst 1, 1) := by decide +kernel
theorem dX0_takeKind_40 : decode cX0_takeKind 40 = .ok (.ireturn, 1) := by decide +kernel
theorem dX0_takeFigure_0 : decode cX0_takeFigure 0 = .ok (.aload_n 0, 1) := by decide +kernel
theorem dX0_takeFigure_1 : decode cX0_takeFigure 1 = .ok (.getfield 19, 3) := by decide +kernel
theorem dX0_takeFigure_4 : decode cX0_takeFigure 4 = .ok (.ifCond .ne 29, 3) := by decide +kernel
theorem dX0_takeFigure_7 : decode cX0_takeFigure 7 = .ok (.aload_n 0, 1) := by decide +kernel
theorem dX0_takeFigure_8 : decode cX0_takeFigure 8 = .ok (.getfield 29, 3) := by decide +kernel
theorem dX0_takeFigure_11 : decode cX0_takeFigure 11 = .ok (.aload_n 0, 1) := by decide +kernel
theorem dX0_takeFigure_12 : decode cX0_takeFigure 12 = .ok (.getfield 32, 3) := by decide +kernel
theorem dX0_takeFigure_15 : decode cX0_takeFigure 15 = .ok (.invokestatic 35, 3) := by decide +kernel
theorem dX0_takeFigure_18 : decode cX0_takeFigure 18 = .ok (.if_icmp .ne 5, 3) := by decide +kernel
theorem dX0_takeFigure_21 : decode cX0_takeFigure 21 = .ok (.iconst 0, 1) := by decide +kernel
theorem dX0_takeFigure_22 : decode cX0_takeFigure 22 = .ok (.ireturn, 1) := by decide +kernel
theorem dX0_takeFigure_23 : decode cX0_takeFigure 23 = .ok (.aload_n 0, 1) := by decide +kernel
theorem dX0_takeFigure_24 : decode cX0_takeFigure 24 = .ok (.dup, 1) := by decide +kernel
theorem dX0_takeFigure_25 : decode cX0_takeFigure 25 = .ok (.getfield 29, 3) := by decide +kernel
theorem dX0_takeFigure_28 : decode cX0_takeFigure 28 = .ok (.iconst 1, 1) := by decide +kernel
theorem dX0_takeFigure_29 : decode cX0_takeFigure 29 = .ok (.iadd, 1) := by decide +kernel
theorem dX0_takeFigure_30 : decode cX0_takeFigure 30 = .ok (.putfield 29, 3) := by decide +kernel
theorem dX0_takeFigure_33 : decode cX0_takeFigure 33 = .ok (.aload_n 0, 1) := by decide +kernel
theorem dX0_takeFigure_34 : decode cX0_takeFigure 34 = .ok (.getfield 19, 3) := by decide +kernel
theorem dX0_takeFigure_37 : decode cX0_takeFigure 37 = .ok (.iconst 3, 1) := by decide +kernel
theorem dX0_takeFigure_38 : decode cX0_takeFigure 38 = .ok (.if_icmp .ne 5, 3) := by decide +kernel
theorem dX0_takeFigure_41 : decode cX0_takeFigure 41 = .ok (.iconst 0, 1) := by decide +kernel
theorem dX0_takeFigure_42 : decode cX0_takeFigure 42 = .ok (.ireturn, 1) := by decide +kernel
theorem dX0_takeFigure_43 : decode cX0_takeFigure 43 = .ok (.aload_n 0, 1) := by decide +kernel
theorem dX0_takeFigure_44 : decode cX0_takeFigure 44 = .ok (.dup, 1) := by decide +kernel
theorem dX0_takeFigure_45 : decode cX0_takeFigure 45 = .ok (.getfield 19, 3) := by decide +kernel
theorem dX0_takeFigure_48 : decode cX0_takeFigure 48 = .ok (.iconst 1, 1) := by decide +kernel
theorem dX0_takeFigure_49 : decode cX0_takeFigure 49 = .ok (.iadd, 1) := by decide +kernel
theorem dX0_takeFigure_50 : decode cX0_takeFigure 50 = .ok (.putfield 19, 3) := by decide +kernel
theorem dX0_takeFigure_53 : decode cX0_takeFigure 53 = .ok (.aload_n 0, 1) := by decide +kernel
theorem dX0_takeFigure_54 : decode cX0_takeFigure 54 = .ok (.getfield 29, 3) := by decide +kernel
theorem dX0_takeFigure_57 : decode cX0_takeFigure 57 = .ok (.iconst 1, 1) := by decide +kernel
theorem dX0_takeFigure_58 : decode cX0_takeFigure 58 = .ok (.if_icmp .ne 19, 3) := by decide +kernel
theorem dX0_takeFigure_61 : decode cX0_takeFigure 61 = .ok (.aload_n 0, 1) := by decide +kernel
theorem dX0_takeFigure_62 : decode cX0_takeFigure 62 = .ok (.bipush 10, 2) := by decide +kernel
theorem dX0_takeFigure_64 : decode cX0_takeFigure 64 = .ok (.aload_n 0, 1) := by decide +kernel
theorem dX0_takeFigure_65 : decode cX0_takeFigure 65 = .ok (.getfield 38, 3) := by decide +kernel
theorem dX0_takeFigure_68 : decode cX0_takeFigure 68 = .ok (.imul, 1) := by decide +kernel
theorem dX0_takeFigure_69 : decode cX0_takeFigure 69 = .ok (.iload_n 1, 1) := by decide +kernel
theorem dX0_takeFigure_70 : decode cX0_takeFigure 70 = .ok (.iadd, 1) := by decide +kernel
theorem dX0_takeFigure_71 : decode cX0_takeFigure 71 = .ok (.putfield 38, 3) := by decide +kernel
theorem dX0_takeFigure_74 : decode cX0_takeFigure 74 = .ok (.goto 16, 3) := by decide +kernel
theorem dX0_takeFigure_77 : decode cX0_takeFigure 77 = .ok (.aload_n 0, 1) := by decide +kernel
theorem dX0_takeFigure_78 : decode cX0_takeFigure 78 = .ok (.bipush 10, 2) := by decide +kernel
theorem dX0_takeFigure_80 : decode cX0_takeFigure 80 = .ok (.aload_n 0, 1) := by decide +kernel
theorem dX0_takeFigure_81 : decode cX0_takeFigure 81 = .ok (.getfield 41, 3) := by decide +kernel
theorem dX0_takeFigure_84 : decode cX0_takeFigure 84 = .ok (.imul, 1) := by decide +kernel
theorem dX0_takeFigure_85 : decode cX0_takeFigure 85 = .ok (.iload_n 1, 1) := by decide +kernel
theorem dX0_takeFigure_86 : decode cX0_takeFigure 86 = .ok (.iadd, 1) := by decide +kernel
theorem dX0_takeFigure_87 : decode cX0_takeFigure 87 = .ok (.putfield 41, 3) := by decide +kernel
theorem dX0_takeFigure_90 : decode cX0_takeFigure 90 = .ok (.iconst 1, 1) := by decide +kernel
theorem dX0_takeFigure_91 : decode cX0_takeFigure 91 = .ok (.ireturn, 1) := by decide +kernel
theorem dX0_numbersOf_0 : decode cX0_numbersOf 0 = .ok (.iload_n 0, 1) := by decide +kernel
theorem dX0_numbersOf_1 : decode cX0_numbersOf 1 = .ok (.lookupswitch 47 #[(100, 43), (109, 45), (112, 43), (116, 45)], 43) := by decide +kernel
theorem dX0_numbersOf_44 : decode cX0_numbersOf 44 = .ok (.iconst 2, 1) := by decide +kernel
theorem dX0_numbersOf_45 : decode cX0_numbersOf 45 = .ok (.ireturn, 1) := by decide +kernel
theorem dX0_numbersOf_46 : decode cX0_numbersOf 46 = .ok (.iconst 1, 1) := by decide +kernel
theorem dX0_numbersOf_47 : decode cX0_numbersOf 47 = .ok (.ireturn, 1) := by decide +kernel
theorem dX0_numbersOf_48 : decode cX0_numbersOf 48 = .ok (.iconst 0, 1) := by decide +kernel
theorem dX0_numbersOf_49 : decode cX0_numbersOf 49 = .ok (.ireturn, 1) := by decide +kernel
theorem dX1_init_0 : decode cX1_init 0 = .ok (.aload_n 0, 1) := by decide +kernel
theorem dX1_init_1 : decode cX1_init 1 = .ok (.invokespecial 3, 3) := by decide +kernel
theorem dX1_init_4 : decode cX1_init 4 = .ok (.aload_n 0, 1) := by decide +kernel
theorem dX1_init_5 : decode cX1_init 5 = .ok (.bipush 16, 2) := by decide +kernel
theorem dX1_init_7 : decode cX1_init 7 = .ok (.putfield 9, 3) := by decide +kernel
theorem dX1_init_10 : decode cX1_init 10 = .ok (.aload_n 0, 1) := by decide +kernel
theorem dX1_init_11 : decode cX1_init 11 = .ok (.bipush 64, 2) := by decide +kernel
theorem dX1_init_13 : decode cX1_init 13 = .ok (.newarray .int, 2) := by decide +kernel
theorem dX1_init_15 : decode cX1_init 15 = .ok (.putfield 15, 3) := by decide +kernel
theorem dX1_init_18 : decode cX1_init 18 = .ok (.aload_n 0, 1) := by decide +kernel
theorem dX1_init_19 : decode cX1_init 19 = .ok (.bipush 64, 2) := by decide +kernel
theorem dX1_init_21 : decode cX1_init 21 = .ok (.newarray .int, 2) := by decide +kernel
theorem dX1_init_23 : decode cX1_init 23 = .ok (.putfield 19, 3) := by decide +kernel
theorem dX1_init_26 : decode cX1_init 26 = .ok (.aload_n 0, 1) := by decide +kernel
theorem dX1_init_27 : decode cX1_init 27 = .ok (.bipush 8, 2) := by decide +kernel
theorem dX1_init_29 : decode cX1_init 29 = .ok (.newarray .int, 2) := by decide +kernel
theorem dX1_init_31 : decode cX1_init 31 = .ok (.putfield 22, 3) := by decide +kernel
theorem dX1_init_34 : decode cX1_init 34 = .ok (.aload_n 0, 1) := by decide +kernel
theorem dX1_init_35 : decode cX1_init 35 = .ok (.bipush 8, 2) := by decide +kernel
theorem dX1_init_37 : decode cX1_init 37 = .ok (.newarray .int, 2) := by decide +kernel
theorem dX1_init_39 : decode cX1_init 39 = .ok (.putfield 25, 3) := by decide +kernel
theorem dX1_init_42 : decode cX1_init 42 = .ok (.aload_n 0, 1) := by decide +kernel
theorem dX1_init_43 : decode cX1_init 43 = .ok (.bipush 8, 2) := by decide +kernel
theorem dX1_init_45 : decode cX1_init 45 = .ok (.newarray .int, 2) := by decide +kernel
theorem dX1_init_47 : decode cX1_init 47 = .ok (.putfield 28, 3) := by decide +kernel
theorem dX1_init_50 : decode cX1_init 50 = .ok (.iconst 0, 1) := by decide +kernel
theorem dX1_init_51 : decode cX1_init 51 = .ok (.istore_n 1, 1) := by decide +kernel
theorem dX1_init_52 : decode cX1_init 52 = .ok (.iload_n 1, 1) := by decide +kernel
theorem dX1_init_53 : decode cX1_init 53 = .ok (.bipush 64, 2) := by decide +kernel
theorem dX1_init_55 : decode cX1_init 55 = .ok (.if_icmp .ge 16, 3) := by decide +kernel
theorem dX1_init_58 : decode cX1_init 58 = .ok (.aload_n 0, 1) := by decide +kernel
theorem dX1_init_59 : decode cX1_init 59 = .ok (.getfield 15, 3) := by decide +kernel
theorem dX1_init_62 : decode cX1_init 62 = .ok (.iload_n 1, 1) := by decide +kernel
theorem dX1_init_63 : decode cX1_init 63 = .ok (.iconst (-1), 1) := by decide +kernel
theorem dX1_init_64 : decode cX1_init 64 = .ok (.iastore, 1) := by decide +kernel
theorem dX1_init_65 : decode cX1_init 65 = .ok (.iinc 1 1, 3) := by decide +kernel
theorem dX1_init_68 : decode cX1_init 68 = .ok (.goto (-16), 3) := by decide +kernel
theorem dX1_init_71 : decode cX1_init 71 = .ok (.return_, 1) := by decide +kernel
theorem dX1_copyOf_0 : decode cX1_copyOf 0 = .ok (.aload_n 0, 1) := by decide +kernel
theorem dX1_copyOf_1 : decode cX1_copyOf 1 = .ok (.aload_n 1, 1) := by decide +kernel
theorem dX1_copyOf_2 : decode cX1_copyOf 2 = .ok (.getfield 9, 3) := by decide +kernel
theorem dX1_copyOf_5 : decode cX1_copyOf 5 = .ok (.putfield 9, 3) := by decide +kernel
theorem dX1_copyOf_8 : decode cX1_copyOf 8 = .ok (.aload_n 0, 1) := by decide +kernel
theorem dX1_copyOf_9 : decode cX1_copyOf 9 = .ok (.aload_n 1, 1) := by decide +kernel
theorem dX1_copyOf_10 : decode cX1_copyOf 10 = .ok (.getfield 31, 3) := by decide +kernel
theorem dX1_copyOf_13 : decode cX1_copyOf 13 = .ok (.putfield 31, 3) := by decide +kernel
theorem dX1_copyOf_16 : decode cX1_copyOf 16 = .ok (.aload_n 0, 1) := by decide +kernel
theorem dX1_copyOf_17 : decode cX1_copyOf 17 = .ok (.aload_n 1, 1) := by decide +kernel
theorem dX1_copyOf_18 : decode cX1_copyOf 18 = .ok (.getfield 34, 3) := by decide +kernel
theorem dX1_copyOf_21 : decode cX1_copyOf 21 = .ok (.putfield 34, 3) := by decide +kernel
theorem dX1_copyOf_24 : decode cX1_copyOf 24 = .ok (.aload_n 0, 1) := by decide +kernel
theorem dX1_copyOf_25 : decode cX1_copyOf 25 = .ok (.aload_n 1, 1) := by decide +kernel
theorem dX1_copyOf_26 : decode cX1_copyOf 26 = .ok (.getfield 37, 3) := by decide +kernel
theorem dX1_copyOf_29 : decode cX1_copyOf 29 = .ok (.putfield 37, 3) := by decide +kernel
theorem dX1_copyOf_32 : decode cX1_copyOf 32 = .ok (.aload_n 0, 1) := by decide +kernel
theorem dX1_copyOf_33 : decode cX1_copyOf 33 = .ok (.aload_n 1, 1) := by decide +kernel
theorem dX1_copyOf_34 : decode cX1_copyOf 34 = .ok (.getfield 40, 3) := by decide +kernel
theorem dX1_copyOf_37 : decode cX1_copyOf 37 = .ok (.putfield 40, 3) := by decide +kernel
theorem dX1_copyOf_40 : decode cX1_copyOf 40 = .ok (.aload_n 0, 1) := by decide +kernel
theorem dX1_copyOf_41 : decode cX1_copyOf 41 = .ok (.aload_n 1, 1) := by decide +kernel
theorem dX1_copyOf_42 : decode cX1_copyOf 42 = .ok (.getfield 43, 3) := by decide +kernel
theorem dX1_copyOf_45 : decode cX1_copyOf 45 = .ok (.putfield 43, 3) := by decide +kernel
theorem dX1_copyOf_48 : decode cX1_copyOf 48 = .ok (.aload_n 0, 1) := by decide +kernel
theorem dX1_copyOf_49 : decode cX1_copyOf 49 = .ok (.aload_n 1, 1) := by decide +kernel
theorem dX1_copyOf_50 : decode cX1_copyOf 50 = .ok (.getfield 46, 3) := by decide +kernel
theorem dX1_copyOf_53 : decode cX1_copyOf 53 = .ok (.putfield 46, 3) := by decide +kernel
theorem dX1_copyOf_56 : decode cX1_copyOf 56 = .ok (.iconst 0, 1) := by decide +kernel
theorem dX1_copyOf_57 : decode cX1_copyOf 57 = .ok (.istore_n 2, 1) := by decide +kernel
theorem dX1_copyOf_58 : decode cX1_copyOf 58 = .ok (.iload_n 2, 1) := by decide +kernel
theorem dX1_copyOf_59 : decode cX1_copyOf 59 = .ok (.bipush 64, 2) := by decide +kernel
theorem dX1_copyOf_61 : decode cX1_copyOf 61 = .ok (.if_icmp .ge 33, 3) := by decide +kernel
theorem dX1_copyOf_64 : decode cX1_copyOf 64 = .ok (.aload_n 0, 1) := by decide +kernel
theorem dX1_copyOf_65 : decode cX1_copyOf 65 = .ok (.getfield 15, 3) := by decide +kernel
theorem dX1_copyOf_68 : decode cX1_copyOf 68 = .ok (.iload_n 2, 1) := by decide +kernel
theorem dX1_copyOf_69 : decode cX1_copyOf 69 = .ok (.aload_n 1, 1) := by decide +kernel
theorem dX1_copyOf_70 : decode cX1_copyOf 70 = .ok (.getfield 15, 3) := by decide +kernel
theorem dX1_copyOf_73 : decode cX1_copyOf 73 = .ok (.iload_n 2, 1) := by decide +kernel
theorem dX1_copyOf_74 : decode cX1_copyOf 74 = .ok (.iaload, 1) := by decide +kernel
theorem dX1_copyOf_75 : decode cX1_copyOf 75 = .ok (.iastore, 1) := by decide +kernel
theorem dX1_copyOf_76 : decode cX1_copyOf 76 = .ok (.aload_n 0, 1) := by decide +kernel
theorem dX1_copyOf_77 : decode cX1_copyOf 77 = .ok (.getfield 19, 3) := by decide +kernel
theorem dX1_copyOf_80 : decode cX1_copyOf 80 = .ok (.iload_n 2, 1) := by decide +kernel
theorem dX1_copyOf_81 : decode cX1_copyOf 81 = .ok (.aload_n 1, 1) := by decide +kernel
theorem dX1_copyOf_82 : decode cX1_copyOf 82 = .ok (.getfield 19, 3) := by decide +kernel
theorem dX1_copyOf_85 : decode cX1_copyOf 85 = .ok (.iload_n 2, 1) := by decide +kernel
theorem dX1_copyOf_86 : decode cX1_copyOf 86 = .ok (.iaload, 1) := by decide +kernel
theorem dX1_copyOf_87 : decode cX1_copyOf 87 = .ok (.iastore, 1) := by decide +kernel
theorem dX1_copyOf_88 : decode cX1_copyOf 88 = .ok (.iinc 2 1, 3) := by decide +kernel
theorem dX1_copyOf_91 : decode cX1_copyOf 91 = .ok (.goto (-33), 3) := by decide +kernel
theorem dX1_copyOf_94 : decode cX1_copyOf 94 = .ok (.iconst 0, 1) := by decide +kernel
theorem dX1_copyOf_95 : decode cX1_copyOf 95 = .ok (.istore_n 2, 1) := by decide +kernel
theorem dX1_copyOf_96 : decode cX1_copyOf 96 = .ok (.iload_n 2, 1) := by decide +kernel
theorem dX1_copyOf_97 : decode cX1_copyOf 97 = .ok (.bipush 8, 2) := by decide +kernel
theorem dX1_copyOf_99 : decode cX1_copyOf 99 = .ok (.if_icmp .ge 45, 3) := by decide +kernel
theorem dX1_copyOf_102 : decode cX1_copyOf 102 = .ok (.aload_n 0, 1) := by decide +kernel
theorem dX1_copyOf_103 : decode cX1_copyOf 103 = .ok (.getfield 22, 3) := by decide +kernel
theorem dX1_copyOf_106 : decode cX1_copyOf 106 = .ok (.iload_n 2, 1) := by decide +kernel
theorem dX1_copyOf_107 : decode cX1_copyOf 107 = .ok (.aload_n 1, 1) := by decide +kernel
theorem dX1_copyOf_108 : decode cX1_copyOf 108 = .ok (.getfield 22, 3) := by decide +kernel
theorem dX1_copyOf_111 : decode cX1_copyOf 111 = .ok (.iload_n 2, 1) := by decide +kernel
theorem dX1_copyOf_112 : decode cX1_copyOf 112 = .ok (.iaload, 1) := by decide +kernel
theorem dX1_copyOf_113 : decode cX1_copyOf 113 = .ok (.iastore, 1) := by decide +kernel
theorem dX1_copyOf_114 : decode cX1_copyOf 114 = .ok (.aload_n 0, 1) := by decide +kernel
theorem dX1_copyOf_115 : decode cX1_copyOf 115 = .ok (.getfield 25, 3) := by decide +kernel
theorem dX1_copyOf_118 : decode cX1_copyOf 118 = .ok (.iload_n 2, 1) := by decide +kernel
theorem dX1_copyOf_119 : decode cX1_copyOf 119 = .ok (.aload_n 1, 1) := by decide +kernel
theorem dX1_copyOf_120 : decode cX1_copyOf 120 = .ok (.getfield 25, 3) := by decide +kernel
theorem dX1_copyOf_123 : decode cX1_copyOf 123 = .ok (.iload_n 2, 1) := by decide +kernel
theorem dX1_copyOf_124 : decode cX1_copyOf 124 = .ok (.iaload, 1) := by decide +kernel
theorem dX1_copyOf_125 : decode cX1_copyOf 125 = .ok (.iastore, 1) := by decide +kernel
theorem dX1_copyOf_126 : decode cX1_copyOf 126 = .ok (.aload_n 0, 1) := by decide +kernel
theorem dX1_copyOf_127 : decode cX1_copyOf 127 = .ok (.getfield 28, 3) := by decide +kernel
theorem dX1_copyOf_130 : decode cX1_copyOf 130 = .ok (.iload_n 2, 1) := by decide +kernel
theorem dX1_copyOf_131 : decode cX1_copyOf 131 = .ok (.aload_n 1, 1) := by decide +kernel
theorem dX1_copyOf_132 : decode cX1_copyOf 132 = .ok (.getfield 28, 3) := by decide +kernel
theorem dX1_copyOf_135 : decode cX1_copyOf 135 = .ok (.iload_n 2, 1) := by decide +kernel
theorem dX1_copyOf_136 : decode cX1_copyOf 136 = .ok (.iaload, 1) := by decide +kernel
theorem dX1_copyOf_137 : decode cX1_copyOf 137 = .ok (.iastore, 1) := by decide +kernel
theorem dX1_copyOf_138 : decode cX1_copyOf 138 = .ok (.iinc 2 1, 3) := by decide +kernel
theorem dX1_copyOf_141 : decode cX1_copyOf 141 = .ok (.goto (-45), 3) := by decide +kernel
theorem dX1_copyOf_144 : decode cX1_copyOf 144 = .ok (.return_, 1) := by decide +kernel
theorem dX1_keyIn_0 : decode cX1_keyIn 0 = .ok (.iload_n 1, 1) := by decide +kernel
theorem dX1_keyIn_1 : decode cX1_keyIn 1 = .ok (.ifCond .lt 21, 3) := by decide +kernel
theorem dX1_keyIn_4 : decode cX1_keyIn 4 = .ok (.iload_n 1, 1) := by decide +kernel
theorem dX1_keyIn_5 : decode cX1_keyIn 5 = .ok (.aload_n 0, 1) := by decide +kernel
theorem dX1_keyIn_6 : decode cX1_keyIn 6 = .ok (.getfield 15, 3) := by decide +kernel
theorem dX1_keyIn_9 : decode cX1_keyIn 9 = .ok (.arraylength, 1) := by decide +kernel
theorem dX1_keyIn_10 : decode cX1_keyIn 10 = .ok (.if_icmp .ge 12, 3) := by decide +kernel
theorem dX1_keyIn_13 : decode cX1_keyIn 13 = .ok (.aload_n 0, 1) := by decide +kernel
theorem dX1_keyIn_14 : decode cX1_keyIn 14 = .ok (.getfield 15, 3) := by decide +kernel
theorem dX1_keyIn_17 : decode cX1_keyIn 17 = .ok (.iload_n 1, 1) := by decide +kernel
theorem dX1_keyIn_18 : decode cX1_keyIn 18 = .ok (.iaload, 1) := by decide +kernel
theorem dX1_keyIn_19 : decode cX1_keyIn 19 = .ok (.goto 4, 3) := by decide +kernel
theorem dX1_keyIn_22 : decode cX1_keyIn 22 = .ok (.iconst (-1), 1) := by decide +kernel
theorem dX1_keyIn_23 : decode cX1_keyIn 23 = .ok (.ireturn, 1) := by decide +kernel
theorem dX1_valueIn_0 : decode cX1_valueIn 0 = .ok (.iload_n 1, 1) := by decide +kernel
theorem dX1_valueIn_1 : decode cX1_valueIn 1 = .ok (.ifCond .lt 21, 3) := by decide +kernel
theorem dX1_valueIn_4 : decode cX1_valueIn 4 = .ok (.iload_n 1, 1) := by decide +kernel
theorem dX1_valueIn_5 : decode cX1_valueIn 5 = .ok (.aload_n 0, 1) := by decide +kernel
theorem dX1_valueIn_6 : decode cX1_valueIn 6 = .ok (.getfield 19, 3) := by decide +kernel
theorem dX1_valueIn_9 : decode cX1_valueIn 9 = .ok (.arraylength, 1) := by decide +kernel
theorem dX1_valueIn_10 : decode cX1_valueIn 10 = .ok (.if_icmp .ge 12, 3) := by decide +kernel
theorem dX1_valueIn_13 : decode cX1_valueIn 13 = .ok (.aload_n 0, 1) := by decide +kernel
theorem dX1_valueIn_14 : decode cX1_valueIn 14 = .ok (.getfield 19, 3) := by decide +kernel
theorem dX1_valueIn_17 : decode cX1_valueIn 17 = .ok (.iload_n 1, 1) := by decide +kernel
theorem dX1_valueIn_18 : decode cX1_valueIn 18 = .ok (.iaload, 1) := by decide +kernel
theorem dX1_valueIn_19 : decode cX1_valueIn 19 = .ok (.goto 4, 3) := by decide +kernel
theorem dX1_valueIn_22 : decode cX1_valueIn 22 = .ok (.iconst (-1), 1) := by decide +kernel
theorem dX1_valueIn_23 : decode cX1_valueIn 23 = .ok (.ireturn, 1) := by decide +kernel
theorem dX1_fill_0 : decode cX1_fill 0 = .ok (.iload_n 1, 1) := by decide +kernel
theorem dX1_fill_1 : decode cX1_fill 1 = .ok (.ifCond .lt 35, 3) := by decide +kernel
theorem dX1_fill_4 : decode cX1_fill 4 = .ok (.iload_n 1, 1) := by decide +kernel
theorem dX1_fill_5 : decode cX1_fill 5 = .ok (.aload_n 0, 1) := by decide +kernel
theorem dX1_fill_6 : decode cX1_fill 6 = .ok (.getfield 15, 3) := by decide +kernel
theorem dX1_fill_9 : decode cX1_fill 9 = .ok (.arraylength, 1) := by decide +kernel
theorem dX1_fill_10 : decode cX1_fill 10 = .ok (.if_icmp .ge 26, 3) := by decide +kernel
theorem dX1_fill_13 : decode cX1_fill 13 = .ok (.iload_n 1, 1) := by decide +kernel
theorem dX1_fill_14 : decode cX1_fill 14 = .ok (.aload_n 0, 1) := by decide +kernel
theorem dX1_fill_15 : decode cX1_fill 15 = .ok (.getfield 19, 3) := by decide +kernel
theorem dX1_fill_18 : decode cX1_fill 18 = .ok (.arraylength, 1) := by decide +kernel
theorem dX1_fill_19 : decode cX1_fill 19 = .ok (.if_icmp .ge 17, 3) := by decide +kernel
theorem dX1_fill_22 : decode cX1_fill 22 = .ok (.aload_n 0, 1) := by decide +kernel
theorem dX1_fill_23 : decode cX1_fill 23 = .ok (.getfield 15, 3) := by decide +kernel
theorem dX1_fill_26 : decode cX1_fill 26 = .ok (.iload_n 1, 1) := by decide +kernel
theorem dX1_fill_27 : decode cX1_fill 27 = .ok (.iload_n 2, 1) := by decide +kernel
theorem dX1_fill_28 : decode cX1_fill 28 = .ok (.iastore, 1) := by decide +kernel
theorem dX1_fill_29 : decode cX1_fill 29 = .ok (.aload_n 0, 1) := by decide +kernel
theorem dX1_fill_30 : decode cX1_fill 30 = .ok (.getfield 19, 3) := by decide +kernel
theorem dX1_fill_33 : decode cX1_fill 33 = .ok (.iload_n 1, 1) := by decide +kernel
theorem dX1_fill_34 : decode cX1_fill 34 = .ok (.iload_n 3, 1) := by decide +kernel
theorem dX1_fill_35 : decode cX1_fill 35 = .ok (.iastore, 1) := by decide +kernel
theorem dX1_fill_36 : decode cX1_fill 36 = .ok (.return_, 1) := by decide +kernel
theorem dX1_cellOf_0 : decode cX1_cellOf 0 = .ok (.iconst 0, 1) := by decide +kernel
theorem dX1_cellOf_1 : decode cX1_cellOf 1 = .ok (.istore_n 2, 1) := by decide +kernel
theorem dX1_cellOf_2 : decode cX1_cellOf 2 = .ok (.iload_n 2, 1) := by decide +kernel
theorem dX1_cellOf_3 : decode cX1_cellOf 3 = .ok (.aload_n 0, 1) := by decide +kernel
theorem dX1_cellOf_4 : decode cX1_cellOf 4 = .ok (.getfield 9, 3) := by decide +kernel
theorem dX1_cellOf_7 : decode cX1_cellOf 7 = .ok (.if_icmp .ge 20, 3) := by decide +kernel
theorem dX1_cellOf_10 : decode cX1_cellOf 10 = .ok (.aload_n 0, 1) := by decide +kernel
theorem dX1_cellOf_11 : decode cX1_cellOf 11 = .ok (.iload_n 2, 1) := by decide +kernel
theorem dX1_cellOf_12 : decode cX1_cellOf 12 = .ok (.invokevirtual 49, 3) := by decide +kernel
theorem dX1_cellOf_15 : decode cX1_cellOf 15 = .ok (.iload_n 1, 1) := by decide +kernel
theorem dX1_cellOf_16 : decode cX1_cellOf 16 = .ok (.if_icmp .ne 5, 3) := by decide +kernel
theorem dX1_cellOf_19 : decode cX1_cellOf 19 = .ok (.iload_n 2, 1) := by decide +kernel
theorem dX1_cellOf_20 : decode cX1_cellOf 20 = .ok (.ireturn, 1) := by decide +kernel
theorem dX1_cellOf_21 : decode cX1_cellOf 21 = .ok (.iinc 2 1, 3) := by decide +kernel
theorem dX1_cellOf_24 : decode cX1_cellOf 24 = .ok (.goto (-22), 3) := by decide +kernel
theorem dX1_cellOf_27 : decode cX1_cellOf 27 = .ok (.iconst (-1), 1) := by decide +kernel
theorem dX1_cellOf_28 : decode cX1_cellOf 28 = .ok (.ireturn, 1) := by decide +kernel
theorem dX1_cellNumber_0 : decode cX1_cellNumber 0 = .ok (.iconst 0, 1) := by decide +kernel
theorem dX1_cellNumber_1 : decode cX1_cellNumber 1 = .ok (.istore_n 2, 1) := by decide +kernel
theorem dX1_cellNumber_2 : decode cX1_cellNumber 2 = .ok (.iconst 0, 1) := by decide +kernel
theorem dX1_cellNumber_3 : decode cX1_cellNumber 3 = .ok (.istore_n 3, 1) := by decide +kernel
theorem dX1_cellNumber_4 : decode cX1_cellNumber 4 = .ok (.iload_n 3, 1) := by decide +kernel
theorem dX1_cellNumber_5 : decode cX1_cellNumber 5 = .ok (.aload_n 0, 1) := by decide +kernel
theorem dX1_cellNumber_6 : decode cX1_cellNumber 6 = .ok (.getfield 9, 3) := by decide +kernel
theorem dX1_cellNumber_9 : decode cX1_cellNumber 9 = .ok (.if_icmp .ge 31, 3) := by decide +kernel
theorem dX1_cellNumber_12 : decode cX1_cellNumber 12 = .ok (.aload_n 0, 1) := by decide +kernel
theorem dX1_cellNumber_13 : decode cX1_cellNumber 13 = .ok (.iload_n 3, 1) := by decide +kernel
theorem dX1_cellNumber_14 : decode cX1_cellNumber 14 = .ok (.invokevirtual 49, 3) := by decide +kernel
theorem dX1_cellNumber_17 : decode cX1_cellNumber 17 = .ok (.iconst (-1), 1) := by decide +kernel
theorem dX1_cellNumber_18 : decode cX1_cellNumber 18 = .ok (.if_icmp .ne 6, 3) := by decide +kernel
theorem dX1_cellNumber_21 : decode cX1_cellNumber 21 = .ok (.goto 13, 3) := by decide +kernel
theorem dX1_cellNumber_24 : decode cX1_cellNumber 24 = .ok (.iload_n 2, 1) := by decide +kernel
theorem dX1_cellNumber_25 : decode cX1_cellNumber 25 = .ok (.iload_n 1, 1) := by decide +kernel
theorem dX1_cellNumber_26 : decode cX1_cellNumber 26 = .ok (.if_icmp .ne 5, 3) := by decide +kernel
theorem dX1_cellNumber_29 : decode cX1_cellNumber 29 = .ok (.iload_n 3, 1) := by decide +kernel
theorem dX1_cellNumber_30 : decode cX1_cellNumber 30 = .ok (.ireturn, 1) := by decide +kernel
theorem dX1_cellNumber_31 : decode cX1_cellNumber 31 = .ok (.iinc 2 1, 3) := by decide +kernel
theorem dX1_cellNumber_34 : decode cX1_cellNumber 34 = .ok (.iinc 3 1, 3) := by decide +kernel
theorem dX1_cellNumber_37 : decode cX1_cellNumber 37 = .ok (.goto (-33), 3) := by decide +kernel
theorem dX1_cellNumber_40 : decode cX1_cellNumber 40 = .ok (.iconst (-1), 1) := by decide +kernel
theorem dX1_cellNumber_41 : decode cX1_cellNumber 41 = .ok (.ireturn, 1) := by decide +kernel
theorem dX1_keyNumber_0 : decode cX1_keyNumber 0 = .ok (.aload_n 0, 1) := by decide +kernel
theorem dX1_keyNumber_1 : decode cX1_keyNumber 1 = .ok (.aload_n 0, 1) := by decide +kernel
theorem dX1_keyNumber_2 : decode cX1_keyNumber 2 = .ok (.iload_n 1, 1) := by decide +kernel
theorem dX1_keyNumber_3 : decode cX1_keyNumber 3 = .ok (.invokevirtual 53, 3) := by decide +kernel
theorem dX1_keyNumber_6 : decode cX1_keyNumber 6 = .ok (.invokevirtual 49, 3) := by decide +kernel
theorem dX1_keyNumber_9 : decode cX1_keyNumber 9 = .ok (.ireturn, 1) := by decide +kernel
theorem dX1_keysBelow_0 : decode cX1_keysBelow 0 = .ok (.iconst 0, 1) := by decide +kernel
theorem dX1_keysBelow_1 : decode cX1_keysBelow 1 = .ok (.istore_n 2, 1) := by decide +kernel
theorem dX1_keysBelow_2 : decode cX1_keysBelow 2 = .ok (.iconst 0, 1) := by decide +kernel
theorem dX1_keysBelow_3 : decode cX1_keysBelow 3 = .ok (.istore_n 3, 1) := by decide +kernel
theorem dX1_keysBelow_4 : decode cX1_keysBelow 4 = .ok (.iload_n 3, 1) := by decide +kernel
theorem dX1_keysBelow_5 : decode cX1_keysBelow 5 = .ok (.aload_n 0, 1) := by decide +kernel
theorem dX1_keysBelow_6 : decode cX1_keysBelow 6 = .ok (.getfield 9, 3) := by decide +kernel
theorem dX1_keysBelow_9 : decode cX1_keysBelow 9 = .ok (.if_icmp .ge 30, 3) := by decide +kernel
theorem dX1_keysBelow_12 : decode cX1_keysBelow 12 = .ok (.aload_n 0, 1) := by decide +kernel
theorem dX1_keysBelow_13 : decode cX1_keysBelow 13 = .ok (.iload_n 3, 1) := by decide +kernel
theorem dX1_keysBelow_14 : decode cX1_keysBelow 14 = .ok (.invokevirtual 49, 3) := by decide +kernel
theorem dX1_keysBelow_17 : decode cX1_keysBelow 17 = .ok (.iconst (-1), 1) := by decide +kernel
theorem dX1_keysBelow_18 : decode cX1_keysBelow 18 = .ok (.if_icmp .eq 15, 3) := by decide +kernel
theorem dX1_keysBelow_21 : decode cX1_keysBelow 21 = .ok (.aload_n 0, 1) := by decide +kernel
theorem dX1_keysBelow_22 : decode cX1_keysBelow 22 = .ok (.iload_n 3, 1) := by decide +kernel
theorem dX1_keysBelow_23 : decode cX1_keysBelow 23 = .ok (.invokevirtual 49, 3) := by decide +kernel
theorem dX1_keysBelow_26 : decode cX1_keysBelow 26 = .ok (.iload_n 1, 1) := by decide +kernel
theorem dX1_keysBelow_27 : decode cX1_keysBelow 27 = .ok (.if_icmp .ge 6, 3) := by decide +kernel
theorem dX1_keysBelow_30 : decode cX1_keysBelow 30 = .ok (.iinc 2 1, 3) := by decide +kernel
theorem dX1_keysBelow_33 : decode cX1_keysBelow 33 = .ok (.iinc 3 1, 3) := by decide +kernel
theorem dX1_keysBelow_36 : decode cX1_keysBelow 36 = .ok (.goto (-32), 3) := by decide +kernel
theorem dX1_keysBelow_39 : decode cX1_keysBelow 39 = .ok (.iload_n 2, 1) := by decide +kernel
theorem dX1_keysBelow_40 : decode cX1_keysBelow 40 = .ok (.ireturn, 1) := by decide +kernel
theorem dX1_keysIn_0 : decode cX1_keysIn 0 = .ok (.iconst 0, 1) := by decide +kernel
theorem dX1_keysIn_1 : decode cX1_keysIn 1 = .ok (.istore_n 3, 1) := by decide +kernel
theorem dX1_keysIn_2 : decode cX1_keysIn 2 = .ok (.iload_n 1, 1) := by decide +kernel
theorem dX1_keysIn_3 : decode cX1_keysIn 3 = .ok (.istore 4, 2) := by decide +kernel
theorem dX1_keysIn_5 : decode cX1_keysIn 5 = .ok (.iload 4, 2) := by decide +kernel
theorem dX1_keysIn_7 : decode cX1_keysIn 7 = .ok (.iload_n 1, 1) := by decide +kernel
theorem dX1_keysIn_8 : decode cX1_keysIn 8 = .ok (.iload_n 2, 1) := by decide +kernel
theorem dX1_keysIn_9 : decode cX1_keysIn 9 = .ok (.iadd, 1) := by decide +kernel
theorem dX1_keysIn_10 : decode cX1_keysIn 10 = .ok (.if_icmp .ge 22, 3) := by decide +kernel
theorem dX1_keysIn_13 : decode cX1_keysIn 13 = .ok (.aload_n 0, 1) := by decide +kernel
theorem dX1_keysIn_14 : decode cX1_keysIn 14 = .ok (.iload 4, 2) := by decide +kernel
theorem dX1_keysIn_16 : decode cX1_keysIn 16 = .ok (.invokevirtual 49, 3) := by decide +kernel
theorem dX1_keysIn_19 : decode cX1_keysIn 19 = .ok (.iconst (-1), 1) := by decide +kernel
theorem dX1_keysIn_20 : decode cX1_keysIn 20 = .ok (.if_icmp .eq 6, 3) := by decide +kernel
theorem dX1_keysIn_23 : decode cX1_keysIn 23 = .ok (.iinc 3 1, 3) := by decide +kernel
theorem dX1_keysIn_26 : decode cX1_keysIn 26 = .ok (.iinc 4 1, 3) := by decide +kernel
theorem dX1_keysIn_29 : decode cX1_keysIn 29 = .ok (.goto (-24), 3) := by decide +kernel
theorem dX1_keysIn_32 : decode cX1_keysIn 32 = .ok (.iload_n 3, 1) := by decide +kernel
theorem dX1_keysIn_33 : decode cX1_keysIn 33 = .ok (.ireturn, 1) := by decide +kernel
theorem dX1_valuesFrom_0 : decode cX1_valuesFrom 0 = .ok (.iconst 0, 1) := by decide +kernel
theorem dX1_valuesFrom_1 : decode cX1_valuesFrom 1 = .ok (.istore_n 3, 1) := by decide +kernel
theorem dX1_valuesFrom_2 : decode cX1_valuesFrom 2 = .ok (.iconst 0, 1) := by decide +kernel
theorem dX1_valuesFrom_3 : decode cX1_valuesFrom 3 = .ok (.istore 4, 2) := by decide +kernel
theorem dX1_valuesFrom_5 : decode cX1_valuesFrom 5 = .ok (.iload 4, 2) := by decide +kernel
theorem dX1_valuesFrom_7 : decode cX1_valuesFrom 7 = .ok (.aload_n 0, 1) := by decide +kernel
theorem dX1_valuesFrom_8 : decode cX1_valuesFrom 8 = .ok (.getfield 9, 3) := by decide +kernel
theorem dX1_valuesFrom_11 : decode cX1_valuesFrom 11 = .ok (.if_icmp .ge 38, 3) := by decide +kernel
theorem dX1_valuesFrom_14 : decode cX1_valuesFrom 14 = .ok (.aload_n 0, 1) := by decide +kernel
theorem dX1_valuesFrom_15 : decode cX1_valuesFrom 15 = .ok (.iload 4, 2) := by decide +kernel
theorem dX1_valuesFrom_17 : decode cX1_valuesFrom 17 = .ok (.invokevirtual 49, 3) := by decide +kernel
theorem dX1_valuesFrom_20 : decode cX1_valuesFrom 20 = .ok (.iload_n 1, 1) := by decide +kernel
theorem dX1_valuesFrom_21 : decode cX1_valuesFrom 21 = .ok (.if_icmp .lt 22, 3) := by decide +kernel
theorem dX1_valuesFrom_24 : decode cX1_valuesFrom 24 = .ok (.aload_n 0, 1) := by decide +kernel
theorem dX1_valuesFrom_25 : decode cX1_valuesFrom 25 = .ok (.iload 4, 2) := by decide +kernel
theorem dX1_valuesFrom_27 : decode cX1_valuesFrom 27 = .ok (.invokevirtual 49, 3) := by decide +kernel
theorem dX1_valuesFrom_30 : decode cX1_valuesFrom 30 = .ok (.iload_n 2, 1) := by decide +kernel
theorem dX1_valuesFrom_31 : decode cX1_valuesFrom 31 = .ok (.if_icmp .gt 12, 3) := by decide +kernel
theorem dX1_valuesFrom_34 : decode cX1_valuesFrom 34 = .ok (.iload_n 3, 1) := by decide +kernel
theorem dX1_valuesFrom_35 : decode cX1_valuesFrom 35 = .ok (.aload_n 0, 1) := by decide +kernel
theorem dX1_valuesFrom_36 : decode cX1_valuesFrom 36 = .ok (.iload 4, 2) := by decide +kernel
theorem dX1_valuesFrom_38 : decode cX1_valuesFrom 38 = .ok (.invokevirtual 56, 3) := by decide +kernel
theorem dX1_valuesFrom_41 : decode cX1_valuesFrom 41 = .ok (.iadd, 1) := by decide +kernel
theorem dX1_valuesFrom_42 : decode cX1_valuesFrom 42 = .ok (.istore_n 3, 1) := by decide +kernel
theorem dX1_valuesFrom_43 : decode cX1_valuesFrom 43 = .ok (.iinc 4 1, 3) := by decide +kernel
theorem dX1_valuesFrom_46 : decode cX1_valuesFrom 46 = .ok (.goto (-41), 3) := by decide +kernel
theorem dX1_valuesFrom_49 : decode cX1_valuesFrom 49 = .ok (.iload_n 3, 1) := by decide +kernel
theorem dX1_valuesFrom_50 : decode cX1_valuesFrom 50 = .ok (.ireturn, 1) := by decide +kernel
theorem dX1_cellsRead_0 : decode cX1_cellsRead 0 = .ok (.aload_n 0, 1) := by decide +kernel
theorem dX1_cellsRead_1 : decode cX1_cellsRead 1 = .ok (.iload_n 1, 1) := by decide +kernel
theorem dX1_cellsRead_2 : decode cX1_cellsRead 2 = .ok (.invokevirtual 59, 3) := by decide +kernel
theorem dX1_cellsRead_5 : decode cX1_cellsRead 5 = .ok (.istore_n 3, 1) := by decide +kernel
theorem dX1_cellsRead_6 : decode cX1_cellsRead 6 = .ok (.aload_n 0, 1) := by decide +kernel
theorem dX1_cellsRead_7 : decode cX1_cellsRead 7 = .ok (.iload_n 2, 1) := by decide +kernel
theorem dX1_cellsRead_8 : decode cX1_cellsRead 8 = .ok (.iconst 1, 1) := by decide +kernel
theorem dX1_cellsRead_9 : decode cX1_cellsRead 9 = .ok (.iadd, 1) := by decide +kernel
theorem dX1_cellsRead_10 : decode cX1_cellsRead 10 = .ok (.invokevirtual 59, 3) := by decide +kernel
theorem dX1_cellsRead_13 : decode cX1_cellsRead 13 = .ok (.istore 4, 2) := by decide +kernel
theorem dX1_cellsRead_15 : decode cX1_cellsRead 15 = .ok (.iload_n 3, 1) := by decide +kernel
theorem dX1_cellsRead_16 : decode cX1_cellsRead 16 = .ok (.iload 4, 2) := by decide +kernel
theorem dX1_cellsRead_18 : decode cX1_cellsRead 18 = .ok (.if_icmp .ne 7, 3) := by decide +kernel
theorem dX1_cellsRead_21 : decode cX1_cellsRead 21 = .ok (.iconst 0, 1) := by decide +kernel
theorem dX1_cellsRead_22 : decode cX1_cellsRead 22 = .ok (.goto 19, 3) := by decide +kernel
theorem dX1_cellsRead_25 : decode cX1_cellsRead 25 = .ok (.aload_n 0, 1) := by decide +kernel
theorem dX1_cellsRead_26 : decode cX1_cellsRead 26 = .ok (.iload 4, 2) := by decide +kernel
theorem dX1_cellsRead_28 : decode cX1_cellsRead 28 = .ok (.iconst 1, 1) := by decide +kernel
theorem dX1_cellsRead_29 : decode cX1_cellsRead 29 = .ok (.isub, 1) := by decide +kernel
theorem dX1_cellsRead_30 : decode cX1_cellsRead 30 = .ok (.invokevirtual 53, 3) := by decide +kernel
theorem dX1_cellsRead_33 : decode cX1_cellsRead 33 = .ok (.aload_n 0, 1) := by decide +kernel
theorem dX1_cellsRead_34 : decode cX1_cellsRead 34 = .ok (.iload_n 3, 1) := by decide +kernel
theorem dX1_cellsRead_35 : decode cX1_cellsRead 35 = .ok (.invokevirtual 53, 3) := by decide +kernel
theorem dX1_cellsRead_38 : decode cX1_cellsRead 38 = .ok (.isub, 1) := by decide +kernel
theorem dX1_cellsRead_39 : decode cX1_cellsRead 39 = .ok (.iconst 1, 1) := by decide +kernel
theorem dX1_cellsRead_40 : decode cX1_cellsRead 40 = .ok (.iadd, 1) := by decide +kernel
theorem dX1_cellsRead_41 : decode cX1_cellsRead 41 = .ok (.ireturn, 1) := by decide +kernel
theorem dX1_leastKeyOf_0 : decode cX1_leastKeyOf 0 = .ok (.iload_n 1, 1) := by decide +kernel
theorem dX1_leastKeyOf_1 : decode cX1_leastKeyOf 1 = .ok (.iconst 4, 1) := by decide +kernel
theorem dX1_leastKeyOf_2 : decode cX1_leastKeyOf 2 = .ok (.imul, 1) := by decide +kernel
theorem dX1_leastKeyOf_3 : decode cX1_leastKeyOf 3 = .ok (.istore_n 2, 1) := by decide +kernel
theorem dX1_leastKeyOf_4 : decode cX1_leastKeyOf 4 = .ok (.iload_n 2, 1) := by decide +kernel
theorem dX1_leastKeyOf_5 : decode cX1_leastKeyOf 5 = .ok (.istore_n 3, 1) := by decide +kernel
theorem dX1_leastKeyOf_6 : decode cX1_leastKeyOf 6 = .ok (.iload_n 3, 1) := by decide +kernel
theorem dX1_leastKeyOf_7 : decode cX1_leastKeyOf 7 = .ok (.iload_n 2, 1) := by decide +kernel
theorem dX1_leastKeyOf_8 : decode cX1_leastKeyOf 8 = .ok (.iconst 4, 1) := by decide +kernel
theorem dX1_leastKeyOf_9 : decode cX1_leastKeyOf 9 = .ok (.iadd, 1) := by decide +kernel
theorem dX1_leastKeyOf_10 : decode cX1_leastKeyOf 10 = .ok (.if_icmp .ge 24, 3) := by decide +kernel
theorem dX1_leastKeyOf_13 : decode cX1_leastKeyOf 13 = .ok (.aload_n 0, 1) := by decide +kernel
theorem dX1_leastKeyOf_14 : decode cX1_leastKeyOf 14 = .ok (.iload_n 3, 1) := by decide +kernel
theorem dX1_leastKeyOf_15 : decode cX1_leastKeyOf 15 = .ok (.invokevirtual 49, 3) := by decide +kernel
theorem dX1_leastKeyOf_18 : decode cX1_leastKeyOf 18 = .ok (.iconst (-1), 1) := by decide +kernel
theorem dX1_leastKeyOf_19 : decode cX1_leastKeyOf 19 = .ok (.if_icmp .eq 9, 3) := by decide +kernel
theorem dX1_leastKeyOf_22 : decode cX1_leastKeyOf 22 = .ok (.aload_n 0, 1) := by decide +kernel
theorem dX1_leastKeyOf_23 : decode cX1_leastKeyOf 23 = .ok (.iload_n 3, 1) := by decide +kernel
theorem dX1_leastKeyOf_24 : decode cX1_leastKeyOf 24 = .ok (.invokevirtual 49, 3) := by decide +kernel
theorem dX1_leastKeyOf_27 : decode cX1_leastKeyOf 27 = .ok (.ireturn, 1) := by decide +kernel
theorem dX1_leastKeyOf_28 : decode cX1_leastKeyOf 28 = .ok (.iinc 3 1, 3) := by decide +kernel
theorem dX1_leastKeyOf_31 : decode cX1_leastKeyOf 31 = .ok (.goto (-25), 3) := by decide +kernel
theorem dX1_leastKeyOf_34 : decode cX1_leastKeyOf 34 = .ok (.iconst (-1), 1) := by decide +kernel
theorem dX1_leastKeyOf_35 : decode cX1_leastKeyOf 35 = .ok (.ireturn, 1) := by decide +kernel
theorem dX1_top_0 : decode cX1_top 0 = .ok (.aload_n 0, 1) := by decide +kernel
theorem dX1_top_1 : decode cX1_top 1 = .ok (.getfield 9, 3) := by decide +kernel
theorem dX1_top_4 : decode cX1_top 4 = .ok (.bipush 16, 2) := by decide +kernel
theorem dX1_top_6 : decode cX1_top 6 = .ok (.if_icmp .ne 5, 3) := by decide +kernel
theorem dX1_top_9 : decode cX1_top 9 = .ok (.iconst 2, 1) := by decide +kernel
theorem dX1_top_10 : decode cX1_top 10 = .ok (.ireturn, 1) := by decide +kernel
theorem dX1_top_11 : decode cX1_top 11 = .ok (.aload_n 0, 1) := by decide +kernel
theorem dX1_top_12 : decode cX1_top 12 = .ok (.getfield 9, 3) := by decide +kernel
theorem dX1_top_15 : decode cX1_top 15 = .ok (.bipush 64, 2) := by decide +kernel
theorem dX1_top_17 : decode cX1_top 17 = .ok (.if_icmp .ne 7, 3) := by decide +kernel
theorem dX1_top_20 : decode cX1_top 20 = .ok (.iconst 4, 1) := by decide +kernel
theorem dX1_top_21 : decode cX1_top 21 = .ok (.goto 4, 3) := by decide +kernel
theorem dX1_top_24 : decode cX1_top 24 = .ok (.iconst 3, 1) := by decide +kernel
theorem dX1_top_25 : decode cX1_top 25 = .ok (.ireturn, 1) := by decide +kernel
theorem dX1_most_0 : decode cX1_most 0 = .ok (.iload_n 1, 1) := by decide +kernel
theorem dX1_most_1 : decode cX1_most 1 = .ok (.invokestatic 62, 3) := by decide +kernel
theorem dX1_most_4 : decode cX1_most 4 = .ok (.bipush 100, 2) := by decide +kernel
theorem dX1_most_6 : decode cX1_most 6 = .ok (.bipush 25, 2) := by decide +kernel
theorem dX1_most_8 : decode cX1_most 8 = .ok (.iload_n 1, 1) := by decide +kernel
theorem dX1_most_9 : decode cX1_most 9 = .ok (.imul, 1) := by decide +kernel
theorem dX1_most_10 : decode cX1_most 10 = .ok (.aload_n 0, 1) := by decide +kernel
theorem dX1_most_11 : decode cX1_most 11 = .ok (.invokevirtual 65, 3) := by decide +kernel
theorem dX1_most_14 : decode cX1_most 14 = .ok (.idiv, 1) := by decide +kernel
theorem dX1_most_15 : decode cX1_most 15 = .ok (.isub, 1) := by decide +kernel
theorem dX1_most_16 : decode cX1_most 16 = .ok (.imul, 1) := by decide +kernel
theorem dX1_most_17 : decode cX1_most 17 = .ok (.bipush 100, 2) := by decide +kernel
theorem dX1_most_19 : decode cX1_most 19 = .ok (.idiv, 1) := by decide +kernel
theorem dX1_most_20 : decode cX1_most 20 = .ok (.ireturn, 1) := by decide +kernel
theorem dX1_least_0 : decode cX1_least 0 = .ok (.iload_n 1, 1) := by decide +kernel
theorem dX1_least_1 : decode cX1_least 1 = .ok (.invokestatic 62, 3) := by decide +kernel
theorem dX1_least_4 : decode cX1_least 4 = .ok (.bipush 25, 2) := by decide +kernel
theorem dX1_least_6 : decode cX1_least 6 = .ok (.iconst 5, 1) := by decide +kernel
theorem dX1_least_7 : decode cX1_least 7 = .ok (.iload_n 1, 1) := by decide +kernel
theorem dX1_least_8 : decode cX1_least 8 = .ok (.imul, 1) := by decide +kernel
theorem dX1_least_9 : decode cX1_least 9 = .ok (.aload_n 0, 1) := by decide +kernel
theorem dX1_least_10 : decode cX1_least 10 = .ok (.invokevirtual 65, 3) := by decide +kernel
theorem dX1_least_13 : decode cX1_least 13 = .ok (.idiv, 1) := by decide +kernel
theorem dX1_least_14 : decode cX1_least 14 = .ok (.iadd, 1) := by decide +kernel
theorem dX1_least_15 : decode cX1_least 15 = .ok (.imul, 1) := by decide +kernel
theorem dX1_least_16 : decode cX1_least 16 = .ok (.bipush 100, 2) := by decide +kernel
theorem dX1_least_18 : decode cX1_least 18 = .ok (.idiv, 1) := by decide +kernel
theorem dX1_least_19 : decode cX1_least 19 = .ok (.ireturn, 1) := by decide +kernel
theorem dX1_logged_0 : decode cX1_logged 0 = .ok (.iload_n 1, 1) := by decide +kernel
theorem dX1_logged_1 : decode cX1_logged 1 = .ok (.aload_n 0, 1) := by decide +kernel
theorem dX1_logged_2 : decode cX1_logged 2 = .ok (.getfield 46, 3) := by decide +kernel
theorem dX1_logged_5 : decode cX1_logged 5 = .ok (.iconst 1, 1) := by decide +kernel
theorem dX1_logged_6 : decode cX1_logged 6 = .ok (.isub, 1) := by decide +kernel
theorem dX1_logged_7 : decode cX1_logged 7 = .ok (.invokestatic 69, 3) := by decide +kernel
theorem dX1_logged_10 : decode cX1_logged 10 = .ok (.ifCond .eq 12, 3) := by decide +kernel
theorem dX1_logged_13 : decode cX1_logged 13 = .ok (.iload_n 1, 1) := by decide +kernel
theorem dX1_logged_14 : decode cX1_logged 14 = .ok (.bipush 7, 2) := by decide +kernel
theorem dX1_logged_16 : decode cX1_logged 16 = .ok (.invokestatic 69, 3) := by decide +kernel
theorem dX1_logged_19 : decode cX1_logged 19 = .ok (.ifCond .ne 5, 3) := by decide +kernel
theorem dX1_logged_22 : decode cX1_logged 22 = .ok (.iconst (-1), 1) := by decide +kernel
theorem dX1_logged_23 : decode cX1_logged 23 = .ok (.ireturn, 1) := by decide +kernel
theorem dX1_logged_24 : decode cX1_logged 24 = .ok (.iload_n 2, 1) := by decide +kernel
theorem dX1_logged_25 : decode cX1_logged 25 = .ok (.ifCond .ne 10, 3) := by decide +kernel
theorem dX1_logged_28 : decode cX1_logged 28 = .ok (.aload_n 0, 1) := by decide +kernel
theorem dX1_logged_29 : decode cX1_logged 29 = .ok (.getfield 22, 3) := by decide +kernel
theorem dX1_logged_32 : decode cX1_logged 32 = .ok (.iload_n 1, 1) := by decide +kernel
theorem dX1_logged_33 : decode cX1_logged 33 = .ok (.iaload, 1) := by decide +kernel
theorem dX1_logged_34 : decode cX1_logged 34 = .ok (.ireturn, 1) := by decide +kernel
theorem dX1_logged_35 : decode cX1_logged 35 = .ok (.iload_n 2, 1) := by decide +kernel
theorem dX1_logged_36 : decode cX1_logged 36 = .ok (.iconst 1, 1) := by decide +kernel
theorem dX1_logged_37 : decode cX1_logged 37 = .ok (.if_icmp .ne 12, 3) := by decide +kernel
theorem dX1_logged_40 : decode cX1_logged 40 = .ok (.aload_n 0, 1) := by decide +kernel
theorem dX1_logged_41 : decode cX1_logged 41 = .ok (.getfield 25, 3) := by decide +kernel
theorem dX1_logged_44 : decode cX1_logged 44 = .ok (.iload_n 1, 1) := by decide +kernel
theorem dX1_logged_45 : decode cX1_logged 45 = .ok (.iaload, 1) := by decide +kernel
theorem dX1_logged_46 : decode cX1_logged 46 = .ok (.goto 9, 3) := by decide +kernel
theorem dX1_logged_49 : decode cX1_logged 49 = .ok (.aload_n 0, 1) := by decide +kernel
theorem dX1_logged_50 : decode cX1_logged 50 = .ok (.getfield 28, 3) := by decide +kernel
theorem dX1_logged_53 : decode cX1_logged 53 = .ok (.iload_n 1, 1) := by decide +kernel
theorem dX1_logged_54 : decode cX1_logged 54 = .ok (.iaload, 1) := by decide +kernel
theorem dX1_logged_55 : decode cX1_logged 55 = .ok (.ireturn, 1) := by decide +kernel
theorem dX1_note_0 : decode cX1_note 0 = .ok (.bipush 7, 2) := by decide +kernel
theorem dX1_note_2 : decode cX1_note 2 = .ok (.istore 4, 2) := by decide +kernel
theorem dX1_note_4 : decode cX1_note 4 = .ok (.iload 4, 2) := by decide +kernel
theorem dX1_note_6 : decode cX1_note 6 = .ok (.ifCond .le 57, 3) := by decide +kernel
theorem dX1_note_9 : decode cX1_note 9 = .ok (.aload_n 0, 1) := by decide +kernel
theorem dX1_note_10 : decode cX1_note 10 = .ok (.getfield 22, 3) := by decide +kernel
theorem dX1_note_13 : decode cX1_note 13 = .ok (.iload 4, 2) := by decide +kernel
theorem dX1_note_15 : decode cX1_note 15 = .ok (.aload_n 0, 1) := by decide +kernel
theorem dX1_note_16 : decode cX1_note 16 = .ok (.getfield 22, 3) := by decide +kernel
theorem dX1_note_19 : decode cX1_note 19 = .ok (.iload 4, 2) := by decide +kernel
theorem dX1_note_21 : decode cX1_note 21 = .ok (.iconst 1, 1) := by decide +kernel
theorem dX1_note_22 : decode cX1_note 22 = .ok (.isub, 1) := by decide +kernel
theorem dX1_note_23 : decode cX1_note 23 = .ok (.iaload, 1) := by decide +kernel
theorem dX1_note_24 : decode cX1_note 24 = .ok (.iastore, 1) := by decide +kernel
theorem dX1_note_25 : decode cX1_note 25 = .ok (.aload_n 0, 1) := by decide +kernel
theorem dX1_note_26 : decode cX1_note 26 = .ok (.getfield 25, 3) := by decide +kernel
theorem dX1_note_29 : decode cX1_note 29 = .ok (.iload 4, 2) := by decide +kernel
theorem dX1_note_31 : decode cX1_note 31 = .ok (.aload_n 0, 1) := by decide +kernel
theorem dX1_note_32 : decode cX1_note 32 = .ok (.getfield 25, 3) := by decide +kernel
theorem dX1_note_35 : decode cX1_note 35 = .ok (.iload 4, 2) := by decide +kernel
theorem dX1_note_37 : decode cX1_note 37 = .ok (.iconst 1, 1) := by decide +kernel
theorem dX1_note_38 : decode cX1_note 38 = .ok (.isub, 1) := by decide +kernel
theorem dX1_note_39 : decode cX1_note 39 = .ok (.iaload, 1) := by decide +kernel
theorem dX1_note_40 : decode cX1_note 40 = .ok (.iastore, 1) := by decide +kernel
theorem dX1_note_41 : decode cX1_note 41 = .ok (.aload_n 0, 1) := by decide +kernel
theorem dX1_note_42 : decode cX1_note 42 = .ok (.getfield 28, 3) := by decide +kernel
theorem dX1_note_45 : decode cX1_note 45 = .ok (.iload 4, 2) := by decide +kernel
theorem dX1_note_47 : decode cX1_note 47 = .ok (.aload_n 0, 1) := by decide +kernel
theorem dX1_note_48 : decode cX1_note 48 = .ok (.getfield 28, 3) := by decide +kernel
theorem dX1_note_51 : decode cX1_note 51 = .ok (.iload 4, 2) := by decide +kernel
theorem dX1_note_53 : decode cX1_note 53 = .ok (.iconst 1, 1) := by decide +kernel
theorem dX1_note_54 : decode cX1_note 54 = .ok (.isub, 1) := by decide +kernel
theorem dX1_note_55 : decode cX1_note 55 = .ok (.iaload, 1) := by decide +kernel
theorem dX1_note_56 : decode cX1_note 56 = .ok (.iastore, 1) := by decide +kernel
theorem dX1_note_57 : decode cX1_note 57 = .ok (.iinc 4 (-1), 3) := by decide +kernel
theorem dX1_note_60 : decode cX1_note 60 = .ok (.goto (-56), 3) := by decide +kernel
theorem dX1_note_63 : decode cX1_note 63 = .ok (.aload_n 0, 1) := by decide +kernel
theorem dX1_note_64 : decode cX1_note 64 = .ok (.getfield 22, 3) := by decide +kernel
theorem dX1_note_67 : decode cX1_note 67 = .ok (.iconst 0, 1) := by decide +kernel
theorem dX1_note_68 : decode cX1_note 68 = .ok (.iload_n 1, 1) := by decide +kernel
theorem dX1_note_69 : decode cX1_note 69 = .ok (.iastore, 1) := by decide +kernel
theorem dX1_note_70 : decode cX1_note 70 = .ok (.aload_n 0, 1) := by decide +kernel
theorem dX1_note_71 : decode cX1_note 71 = .ok (.getfield 25, 3) := by decide +kernel
theorem dX1_note_74 : decode cX1_note 74 = .ok (.iconst 0, 1) := by decide +kernel
theorem dX1_note_75 : decode cX1_note 75 = .ok (.iload_n 2, 1) := by decide +kernel
theorem dX1_note_76 : decode cX1_note 76 = .ok (.iastore, 1) := by decide +kernel
theorem dX1_note_77 : decode cX1_note 77 = .ok (.aload_n 0, 1) := by decide +kernel
theorem dX1_note_78 : decode cX1_note 78 = .ok (.getfield 28, 3) := by decide +kernel
theorem dX1_note_81 : decode cX1_note 81 = .ok (.iconst 0, 1) := by decide +kernel
theorem dX1_note_82 : decode cX1_note 82 = .ok (.iload_n 3, 1) := by decide +kernel
theorem dX1_note_83 : decode cX1_note 83 = .ok (.iastore, 1) := by decide +kernel
theorem dX1_note_84 : decode cX1_note 84 = .ok (.aload_n 0, 1) := by decide +kernel
theorem dX1_note_85 : decode cX1_note 85 = .ok (.getfield 46, 3) := by decide +kernel
theorem dX1_note_88 : decode cX1_note 88 = .ok (.bipush 8, 2) := by decide +kernel
theorem dX1_note_90 : decode cX1_note 90 = .ok (.if_icmp .ge 13, 3) := by decide +kernel
theorem dX1_note_93 : decode cX1_note 93 = .ok (.aload_n 0, 1) := by decide +kernel
theorem dX1_note_94 : decode cX1_note 94 = .ok (.dup, 1) := by decide +kernel
theorem dX1_note_95 : decode cX1_note 95 = .ok (.getfield 46, 3) := by decide +kernel
theorem dX1_note_98 : decode cX1_note 98 = .ok (.iconst 1, 1) := by decide +kernel
theorem dX1_note_99 : decode cX1_note 99 = .ok (.iadd, 1) := by decide +kernel
theorem dX1_note_100 : decode cX1_note 100 = .ok (.putfield 46, 3) := by decide +kernel
theorem dX1_note_103 : decode cX1_note 103 = .ok (.aload_n 0, 1) := by decide +kernel
theorem dX1_note_104 : decode cX1_note 104 = .ok (.dup, 1) := by decide +kernel
theorem dX1_note_105 : decode cX1_note 105 = .ok (.getfield 34, 3) := by decide +kernel
theorem dX1_note_108 : decode cX1_note 108 = .ok (.iconst 1, 1) := by decide +kernel
theorem dX1_note_109 : decode cX1_note 109 = .ok (.iadd, 1) := by decide +kernel
theorem dX1_note_110 : decode cX1_note 110 = .ok (.putfield 34, 3) := by decide +kernel
theorem dX1_note_113 : decode cX1_note 113 = .ok (.aload_n 0, 1) := by decide +kernel
theorem dX1_note_114 : decode cX1_note 114 = .ok (.dup, 1) := by decide +kernel
theorem dX1_note_115 : decode cX1_note 115 = .ok (.getfield 37, 3) := by decide +kernel
theorem dX1_note_118 : decode cX1_note 118 = .ok (.iload_n 3, 1) := by decide +kernel
theorem dX1_note_119 : decode cX1_note 119 = .ok (.iadd, 1) := by decide +kernel
theorem dX1_note_120 : decode cX1_note 120 = .ok (.putfield 37, 3) := by decide +kernel
theorem dX1_note_123 : decode cX1_note 123 = .ok (.return_, 1) := by decide +kernel
theorem dX2_init_0 : decode cX2_init 0 = .ok (.aload_n 0, 1) := by decide +kernel
theorem dX2_init_1 : decode cX2_init 1 = .ok (.invokespecial 3, 3) := by decide +kernel
theorem dX2_init_4 : decode cX2_init 4 = .ok (.aload_n 0, 1) := by decide +kernel
theorem dX2_init_5 : decode cX2_init 5 = .ok (.bipush 64, 2) := by decide +kernel
theorem dX2_init_7 : decode cX2_init 7 = .ok (.newarray .int, 2) := by decide +kernel
theorem dX2_init_9 : decode cX2_init 9 = .ok (.putfield 9, 3) := by decide +kernel
theorem dX2_init_12 : decode cX2_init 12 = .ok (.aload_n 0, 1) := by decide +kernel
theorem dX2_init_13 : decode cX2_init 13 = .ok (.bipush 64, 2) := by decide +kernel
theorem dX2_init_15 : decode cX2_init 15 = .ok (.newarray .int, 2) := by decide +kernel
theorem dX2_init_17 : decode cX2_init 17 = .ok (.putfield 15, 3) := by decide +kernel
theorem dX2_init_20 : decode cX2_init 20 = .ok (.aload_n 0, 1) := by decide +kernel
theorem dX2_init_21 : decode cX2_init 21 = .ok (.bipush 64, 2) := by decide +kernel
theorem dX2_init_23 : decode cX2_init 23 = .ok (.newarray .int, 2) := by decide +kernel
theorem dX2_init_25 : decode cX2_init 25 = .ok (.putfield 18, 3) := by decide +kernel
theorem dX2_init_28 : decode cX2_init 28 = .ok (.return_, 1) := by decide +kernel
theorem dX2_hasRoom_0 : decode cX2_hasRoom 0 = .ok (.aload_n 0, 1) := by decide +kernel
theorem dX2_hasRoom_1 : decode cX2_hasRoom 1 = .ok (.getfield 21, 3) := by decide +kernel
theorem dX2_hasRoom_4 : decode cX2_hasRoom 4 = .ok (.bipush 64, 2) := by decide +kernel
theorem dX2_hasRoom_6 : decode cX2_hasRoom 6 = .ok (.if_icmp .lt 16, 3) := by decide +kernel
theorem dX2_hasRoom_9 : decode cX2_hasRoom 9 = .ok (.aload_n 0, 1) := by decide +kernel
theorem dX2_hasRoom_10 : decode cX2_hasRoom 10 = .ok (.aload_n 0, 1) := by decide +kernel
theorem dX2_hasRoom_11 : decode cX2_hasRoom 11 = .ok (.iload_n 1, 1) := by decide +kernel
theorem dX2_hasRoom_12 : decode cX2_hasRoom 12 = .ok (.invokestatic 27, 3) := by decide +kernel
theorem dX2_hasRoom_15 : decode cX2_hasRoom 15 = .ok (.invokestatic 31, 3) := by decide +kernel
theorem dX2_hasRoom_18 : decode cX2_hasRoom 18 = .ok (.iconst (-1), 1) := by decide +kernel
theorem dX2_hasRoom_19 : decode cX2_hasRoom 19 = .ok (.if_icmp .eq 7, 3) := by decide +kernel
theorem dX2_hasRoom_22 : decode cX2_hasRoom 22 = .ok (.iconst 1, 1) := by decide +kernel
theorem dX2_hasRoom_23 : decode cX2_hasRoom 23 = .ok (.goto 4, 3) := by decide +kernel
theorem dX2_hasRoom_26 : decode cX2_hasRoom 26 = .ok (.iconst 0, 1) := by decide +kernel
theorem dX2_hasRoom_27 : decode cX2_hasRoom 27 = .ok (.ireturn, 1) := by decide +kernel
theorem dX2_segmentFor_0 : decode cX2_segmentFor 0 = .ok (.aload_n 0, 1) := by decide +kernel
theorem dX2_segmentFor_1 : decode cX2_segmentFor 1 = .ok (.iload_n 1, 1) := by decide +kernel
theorem dX2_segmentFor_2 : decode cX2_segmentFor 2 = .ok (.invokevirtual 34, 3) := by decide +kernel
theorem dX2_segmentFor_5 : decode cX2_segmentFor 5 = .ok (.istore_n 2, 1) := by decide +kernel
theorem dX2_segmentFor_6 : decode cX2_segmentFor 6 = .ok (.iload_n 2, 1) := by decide +kernel
theorem dX2_segmentFor_7 : decode cX2_segmentFor 7 = .ok (.ifCond .ne 7, 3) := by decide +kernel
theorem dX2_segmentFor_10 : decode cX2_segmentFor 10 = .ok (.iconst 0, 1) := by decide +kernel
theorem dX2_segmentFor_11 : decode cX2_segmentFor 11 = .ok (.goto 12, 3) := by decide +kernel
theorem dX2_segmentFor_14 : decode cX2_segmentFor 14 = .ok (.aload_n 0, 1) := by decide +kernel
theorem dX2_segmentFor_15 : decode cX2_segmentFor 15 = .ok (.iload_n 2, 1) := by decide +kernel
theorem dX2_segmentFor_16 : decode cX2_segmentFor 16 = .ok (.iconst 1, 1) := by decide +kernel
theorem dX2_segmentFor_17 : decode cX2_segmentFor 17 = .ok (.isub, 1) := by decide +kernel
theorem dX2_segmentFor_18 : decode cX2_segmentFor 18 = .ok (.invokevirtual 38, 3) := by decide +kernel
theorem dX2_segmentFor_21 : decode cX2_segmentFor 21 = .ok (.iconst 4, 1) := by decide +kernel
theorem dX2_segmentFor_22 : decode cX2_segmentFor 22 = .ok (.idiv, 1) := by decide +kernel
theorem dX2_segmentFor_23 : decode cX2_segmentFor 23 = .ok (.ireturn, 1) := by decide +kernel
theorem dX2_levelFor_0 : decode cX2_levelFor 0 = .ok (.iconst 0, 1) := by decide +kernel
theorem dX2_levelFor_1 : decode cX2_levelFor 1 = .ok (.istore_n 2, 1) := by decide +kernel
theorem dX2_levelFor_2 : decode cX2_levelFor 2 = .ok (.iload_n 2, 1) := by decide +kernel
theorem dX2_levelFor_3 : decode cX2_levelFor 3 = .ok (.aload_n 0, 1) := by decide +kernel
theorem dX2_levelFor_4 : decode cX2_levelFor 4 = .ok (.invokevirtual 41, 3) := by decide +kernel
theorem dX2_levelFor_7 : decode cX2_levelFor 7 = .ok (.if_icmp .gt 34, 3) := by decide +kernel
theorem dX2_levelFor_10 : decode cX2_levelFor 10 = .ok (.aload_n 0, 1) := by decide +kernel
theorem dX2_levelFor_11 : decode cX2_levelFor 11 = .ok (.iload_n 1, 1) := by decide +kernel
theorem dX2_levelFor_12 : decode cX2_levelFor 12 = .ok (.iload_n 2, 1) := by decide +kernel
theorem dX2_levelFor_13 : decode cX2_levelFor 13 = .ok (.invokestatic 45, 3) := by decide +kernel
theorem dX2_levelFor_16 : decode cX2_levelFor 16 = .ok (.iload_n 2, 1) := by decide +kernel
theorem dX2_levelFor_17 : decode cX2_levelFor 17 = .ok (.invokestatic 49, 3) := by decide +kernel
theorem dX2_levelFor_20 : decode cX2_levelFor 20 = .ok (.invokevirtual 52, 3) := by decide +kernel
theorem dX2_levelFor_23 : decode cX2_levelFor 23 = .ok (.iconst 1, 1) := by decide +kernel
theorem dX2_levelFor_24 : decode cX2_levelFor 24 = .ok (.iadd, 1) := by decide +kernel
theorem dX2_levelFor_25 : decode cX2_levelFor 25 = .ok (.aload_n 0, 1) := by decide +kernel
theorem dX2_levelFor_26 : decode cX2_levelFor 26 = .ok (.iload_n 2, 1) := by decide +kernel
theorem dX2_levelFor_27 : decode cX2_levelFor 27 = .ok (.invokevirtual 55, 3) := by decide +kernel
theorem dX2_levelFor_30 : decode cX2_levelFor 30 = .ok (.if_icmp .gt 5, 3) := by decide +kernel
theorem dX2_levelFor_33 : decode cX2_levelFor 33 = .ok (.iload_n 2, 1) := by decide +kernel
theorem dX2_levelFor_34 : decode cX2_levelFor 34 = .ok (.ireturn, 1) := by decide +kernel
theorem dX2_levelFor_35 : decode cX2_levelFor 35 = .ok (.iinc 2 1, 3) := by decide +kernel
theorem dX2_levelFor_38 : decode cX2_levelFor 38 = .ok (.goto (-36), 3) := by decide +kernel
theorem dX2_levelFor_41 : decode cX2_levelFor 41 = .ok (.iconst (-1), 1) := by decide +kernel
theorem dX2_levelFor_42 : decode cX2_levelFor 42 = .ok (.ireturn, 1) := by decide +kernel
theorem dX2_windowStart_0 : decode cX2_windowStart 0 = .ok (.iload_n 0, 1) := by decide +kernel
theorem dX2_windowStart_1 : decode cX2_windowStart 1 = .ok (.iload_n 1, 1) := by decide +kernel
theorem dX2_windowStart_2 : decode cX2_windowStart 2 = .ok (.ishr, 1) := by decide +kernel
theorem dX2_windowStart_3 : decode cX2_windowStart 3 = .ok (.iload_n 1, 1) := by decide +kernel
theorem dX2_windowStart_4 : decode cX2_windowStart 4 = .ok (.invokestatic 49, 3) := by decide +kernel
theorem dX2_windowStart_7 : decode cX2_windowStart 7 = .ok (.imul, 1) := by decide +kernel
theorem dX2_windowStart_8 : decode cX2_windowStart 8 = .ok (.ireturn, 1) := by decide +kernel
theorem dX2_come_0 : decode cX2_come 0 = .ok (.aload_n 1, 1) := by decide +kernel
theorem dX2_come_1 : decode cX2_come 1 = .ok (.iload_n 2, 1) := by decide +kernel
theorem dX2_come_2 : decode cX2_come 2 = .ok (.invokestatic 27, 3) := by decide +kernel
theorem dX2_come_5 : decode cX2_come 5 = .ok (.istore 4, 2) := by decide +kernel
theorem dX2_come_7 : decode cX2_come 7 = .ok (.aload_n 1, 1) := by decide +kernel
theorem dX2_come_8 : decode cX2_come 8 = .ok (.iload 4, 2) := by decide +kernel
theorem dX2_come_10 : decode cX2_come 10 = .ok (.invokestatic 31, 3) := by decide +kernel
theorem dX2_come_13 : decode cX2_come 13 = .ok (.istore 5, 2) := by decide +kernel
theorem dX2_come_15 : decode cX2_come 15 = .ok (.iload 5, 2) := by decide +kernel
theorem dX2_come_17 : decode cX2_come 17 = .ok (.iconst (-1), 1) := by decide +kernel
theorem dX2_come_18 : decode cX2_come 18 = .ok (.if_icmp .ne 55, 3) := by decide +kernel
theorem dX2_come_21 : decode cX2_come 21 = .ok (.aload_n 0, 1) := by decide +kernel
theorem dX2_come_22 : decode cX2_come 22 = .ok (.aload_n 1, 1) := by decide +kernel
theorem dX2_come_23 : decode cX2_come 23 = .ok (.iconst 0, 1) := by decide +kernel
theorem dX2_come_24 : decode cX2_come 24 = .ok (.aload_n 1, 1) := by decide +kernel
theorem dX2_come_25 : decode cX2_come 25 = .ok (.getfield 21, 3) := by decide +kernel
theorem dX2_come_28 : decode cX2_come 28 = .ok (.invokevirtual 58, 3) := by decide +kernel
theorem dX2_come_31 : decode cX2_come 31 = .ok (.aload_n 1, 1) := by decide +kernel
theorem dX2_come_32 : decode cX2_come 32 = .ok (.iconst 2, 1) := by decide +kernel
theorem dX2_come_33 : decode cX2_come 33 = .ok (.aload_n 1, 1) := by decide +kernel
theorem dX2_come_34 : decode cX2_come 34 = .ok (.getfield 21, 3) := by decide +kernel
theorem dX2_come_37 : decode cX2_come 37 = .ok (.imul, 1) := by decide +kernel
theorem dX2_come_38 : decode cX2_come 38 = .ok (.bipush 64, 2) := by decide +kernel
theorem dX2_come_40 : decode cX2_come 40 = .ok (.invokestatic 62, 3) := by decide +kernel
theorem dX2_come_43 : decode cX2_come 43 = .ok (.putfield 21, 3) := by decide +kernel
theorem dX2_come_46 : decode cX2_come 46 = .ok (.aload_n 1, 1) := by decide +kernel
theorem dX2_come_47 : decode cX2_come 47 = .ok (.dup, 1) := by decide +kernel
theorem dX2_come_48 : decode cX2_come 48 = .ok (.getfield 67, 3) := by decide +kernel
theorem dX2_come_51 : decode cX2_come 51 = .ok (.iconst 1, 1) := by decide +kernel
theorem dX2_come_52 : decode cX2_come 52 = .ok (.iadd, 1) := by decide +kernel
theorem dX2_come_53 : decode cX2_come 53 = .ok (.putfield 67, 3) := by decide +kernel
theorem dX2_come_56 : decode cX2_come 56 = .ok (.aload_n 0, 1) := by decide +kernel
theorem dX2_come_57 : decode cX2_come 57 = .ok (.iload_n 2, 1) := by decide +kernel
theorem dX2_come_58 : decode cX2_come 58 = .ok (.iload_n 3, 1) := by decide +kernel
theorem dX2_come_59 : decode cX2_come 59 = .ok (.invokevirtual 70, 3) := by decide +kernel
theorem dX2_come_62 : decode cX2_come 62 = .ok (.aload_n 0, 1) := by decide +kernel
theorem dX2_come_63 : decode cX2_come 63 = .ok (.aload_n 1, 1) := by decide +kernel
theorem dX2_come_64 : decode cX2_come 64 = .ok (.iconst 0, 1) := by decide +kernel
theorem dX2_come_65 : decode cX2_come 65 = .ok (.aload_n 1, 1) := by decide +kernel
theorem dX2_come_66 : decode cX2_come 66 = .ok (.getfield 21, 3) := by decide +kernel
theorem dX2_come_69 : decode cX2_come 69 = .ok (.invokevirtual 74, 3) := by decide +kernel
theorem dX2_come_72 : decode cX2_come 72 = .ok (.ireturn, 1) := by decide +kernel
theorem dX2_come_73 : decode cX2_come 73 = .ok (.iload 4, 2) := by decide +kernel
theorem dX2_come_75 : decode cX2_come 75 = .ok (.iload 5, 2) := by decide +kernel
theorem dX2_come_77 : decode cX2_come 77 = .ok (.invokestatic 45, 3) := by decide +kernel
theorem dX2_come_80 : decode cX2_come 80 = .ok (.istore 6, 2) := by decide +kernel
theorem dX2_come_82 : decode cX2_come 82 = .ok (.aload_n 0, 1) := by decide +kernel
theorem dX2_come_83 : decode cX2_come 83 = .ok (.aload_n 1, 1) := by decide +kernel
theorem dX2_come_84 : decode cX2_come 84 = .ok (.iload 6, 2) := by decide +kernel
theorem dX2_come_86 : decode cX2_come 86 = .ok (.iload 5, 2) := by decide +kernel
theorem dX2_come_88 : decode cX2_come 88 = .ok (.invokestatic 49, 3) := by decide +kernel
theorem dX2_come_91 : decode cX2_come 91 = .ok (.invokevirtual 58, 3) := by decide +kernel
theorem dX2_come_94 : decode cX2_come 94 = .ok (.aload_n 0, 1) := by decide +kernel
theorem dX2_come_95 : decode cX2_come 95 = .ok (.iload_n 2, 1) := by decide +kernel
theorem dX2_come_96 : decode cX2_come 96 = .ok (.iload_n 3, 1) := by decide +kernel
theorem dX2_come_97 : decode cX2_come 97 = .ok (.invokevirtual 70, 3) := by decide +kernel
theorem dX2_come_100 : decode cX2_come 100 = .ok (.aload_n 0, 1) := by decide +kernel
theorem dX2_come_101 : decode cX2_come 101 = .ok (.aload_n 1, 1) := by decide +kernel
theorem dX2_come_102 : decode cX2_come 102 = .ok (.iload 6, 2) := by decide +kernel
theorem dX2_come_104 : decode cX2_come 104 = .ok (.iload 5, 2) := by decide +kernel
theorem dX2_come_106 : decode cX2_come 106 = .ok (.invokestatic 49, 3) := by decide +kernel
theorem dX2_come_109 : decode cX2_come 109 = .ok (.invokevirtual 74, 3) := by decide +kernel
theorem dX2_come_112 : decode cX2_come 112 = .ok (.ireturn, 1) := by decide +kernel
theorem dX2_go_0 : decode cX2_go 0 = .ok (.aload_n 1, 1) := by decide +kernel
theorem dX2_go_1 : decode cX2_go 1 = .ok (.iload_n 2, 1) := by decide +kernel
theorem dX2_go_2 : decode cX2_go 2 = .ok (.invokevirtual 78, 3) := by decide +kernel
theorem dX2_go_5 : decode cX2_go 5 = .ok (.istore_n 3, 1) := by decide +kernel
theorem dX2_go_6 : decode cX2_go 6 = .ok (.aload_n 1, 1) := by decide +kernel
theorem dX2_go_7 : decode cX2_go 7 = .ok (.iload_n 2, 1) := by decide +kernel
theorem dX2_go_8 : decode cX2_go 8 = .ok (.iconst (-1), 1) := by decide +kernel
theorem dX2_go_9 : decode cX2_go 9 = .ok (.iconst 0, 1) := by decide +kernel
theorem dX2_go_10 : decode cX2_go 10 = .ok (.invokevirtual 81, 3) := by decide +kernel
theorem dX2_go_13 : decode cX2_go 13 = .ok (.iload_n 2, 1) := by decide +kernel
theorem dX2_go_14 : decode cX2_go 14 = .ok (.iconst 4, 1) := by decide +kernel
theorem dX2_go_15 : decode cX2_go 15 = .ok (.idiv, 1) := by decide +kernel
theorem dX2_go_16 : decode cX2_go 16 = .ok (.istore 4, 2) := by decide +kernel
theorem dX2_go_18 : decode cX2_go 18 = .ok (.aload_n 1, 1) := by decide +kernel
theorem dX2_go_19 : decode cX2_go 19 = .ok (.iload 4, 2) := by decide +kernel
theorem dX2_go_21 : decode cX2_go 21 = .ok (.iconst 0, 1) := by decide +kernel
theorem dX2_go_22 : decode cX2_go 22 = .ok (.invokestatic 45, 3) := by decide +kernel
theorem dX2_go_25 : decode cX2_go 25 = .ok (.iconst 4, 1) := by decide +kernel
theorem dX2_go_26 : decode cX2_go 26 = .ok (.invokevirtual 52, 3) := by decide +kernel
theorem dX2_go_29 : decode cX2_go 29 = .ok (.aload_n 1, 1) := by decide +kernel
theorem dX2_go_30 : decode cX2_go 30 = .ok (.iconst 0, 1) := by decide +kernel
theorem dX2_go_31 : decode cX2_go 31 = .ok (.invokevirtual 85, 3) := by decide +kernel
theorem dX2_go_34 : decode cX2_go 34 = .ok (.if_icmp .lt 5, 3) := by decide +kernel
theorem dX2_go_37 : decode cX2_go 37 = .ok (.iload_n 3, 1) := by decide +kernel
theorem dX2_go_38 : decode cX2_go 38 = .ok (.ireturn, 1) := by decide +kernel
theorem dX2_go_39 : decode cX2_go 39 = .ok (.iconst 1, 1) := by decide +kernel
theorem dX2_go_40 : decode cX2_go 40 = .ok (.istore 5, 2) := by decide +kernel
theorem dX2_go_42 : decode cX2_go 42 = .ok (.iload 5, 2) := by decide +kernel
theorem dX2_go_44 : decode cX2_go 44 = .ok (.aload_n 1, 1) := by decide +kernel
theorem dX2_go_45 : decode cX2_go 45 = .ok (.invokevirtual 41, 3) := by decide +kernel
theorem dX2_go_48 : decode cX2_go 48 = .ok (.if_icmp .gt 53, 3) := by decide +kernel
theorem dX2_go_51 : decode cX2_go 51 = .ok (.iload 4, 2) := by decide +kernel
theorem dX2_go_53 : decode cX2_go 53 = .ok (.iload 5, 2) := by decide +kernel
theorem dX2_go_55 : decode cX2_go 55 = .ok (.invokestatic 45, 3) := by decide +kernel
theorem dX2_go_58 : decode cX2_go 58 = .ok (.istore 6, 2) := by decide +kernel
theorem dX2_go_60 : decode cX2_go 60 = .ok (.aload_n 1, 1) := by decide +kernel
theorem dX2_go_61 : decode cX2_go 61 = .ok (.iload 6, 2) := by decide +kernel
theorem dX2_go_63 : decode cX2_go 63 = .ok (.iload 5, 2) := by decide +kernel
theorem dX2_go_65 : decode cX2_go 65 = .ok (.invokestatic 49, 3) := by decide +kernel
theorem dX2_go_68 : decode cX2_go 68 = .ok (.invokevirtual 52, 3) := by decide +kernel
theorem dX2_go_71 : decode cX2_go 71 = .ok (.aload_n 1, 1) := by decide +kernel
theorem dX2_go_72 : decode cX2_go 72 = .ok (.iload 5, 2) := by decide +kernel
theorem dX2_go_74 : decode cX2_go 74 = .ok (.invokevirtual 85, 3) := by decide +kernel
theorem dX2_go_77 : decode cX2_go 77 = .ok (.if_icmp .lt 18, 3) := by decide +kernel
theorem dX2_go_80 : decode cX2_go 80 = .ok (.aload_n 0, 1) := by decide +kernel
theorem dX2_go_81 : decode cX2_go 81 = .ok (.aload_n 1, 1) := by decide +kernel
theorem dX2_go_82 : decode cX2_go 82 = .ok (.iload 6, 2) := by decide +kernel
theorem dX2_go_84 : decode cX2_go 84 = .ok (.iload 5, 2) := by decide +kernel
theorem dX2_go_86 : decode cX2_go 86 = .ok (.invokestatic 49, 3) := by decide +kernel
theorem dX2_go_89 : decode cX2_go 89 = .ok (.invokevirtual 88, 3) := by decide +kernel
theorem dX2_go_92 : decode cX2_go 92 = .ok (.pop, 1) := by decide +kernel
theorem dX2_go_93 : decode cX2_go 93 = .ok (.iload_n 3, 1) := by decide +kernel
theorem dX2_go_94 : decode cX2_go 94 = .ok (.ireturn, 1) := by decide +kernel
theorem dX2_go_95 : decode cX2_go 95 = .ok (.iinc 5 1, 3) := by decide +kernel
theorem dX2_go_98 : decode cX2_go 98 = .ok (.goto (-56), 3) := by decide +kernel
theorem dX2_go_101 : decode cX2_go 101 = .ok (.aload_n 0, 1) := by decide +kernel
theorem dX2_go_102 : decode cX2_go 102 = .ok (.aload_n 1, 1) := by decide +kernel
theorem dX2_go_103 : decode cX2_go 103 = .ok (.invokevirtual 91, 3) := by decide +kernel
theorem dX2_go_106 : decode cX2_go 106 = .ok (.iload_n 3, 1) := by decide +kernel
theorem dX2_go_107 : decode cX2_go 107 = .ok (.ireturn, 1) := by decide +kernel
theorem dX2_shrink_0 : decode cX2_shrink 0 = .ok (.aload_n 0, 1) := by decide +kernel
theorem dX2_shrink_1 : decode cX2_shrink 1 = .ok (.aload_n 1, 1) := by decide +kernel
theorem dX2_shrink_2 : decode cX2_shrink 2 = .ok (.iconst 0, 1) := by decide +kernel
theorem dX2_shrink_3 : decode cX2_shrink 3 = .ok (.aload_n 1, 1) := by decide +kernel
theorem dX2_shrink_4 : decode cX2_shrink 4 = .ok (.getfield 21, 3) := by decide +kernel
theorem dX2_shrink_7 : decode cX2_shrink 7 = .ok (.invokevirtual 58, 3) := by decide +kernel
theorem dX2_shrink_10 : decode cX2_shrink 10 = .ok (.aload_n 1, 1) := by decide +kernel
theorem dX2_shrink_11 : decode cX2_shrink 11 = .ok (.getfield 21, 3) := by decide +kernel
theorem dX2_shrink_14 : decode cX2_shrink 14 = .ok (.bipush 16, 2) := by decide +kernel
theorem dX2_shrink_16 : decode cX2_shrink 16 = .ok (.if_icmp .le 23, 3) := by decide +kernel
theorem dX2_shrink_19 : decode cX2_shrink 19 = .ok (.aload_n 1, 1) := by decide +kernel
theorem dX2_shrink_20 : decode cX2_shrink 20 = .ok (.dup, 1) := by decide +kernel
theorem dX2_shrink_21 : decode cX2_shrink 21 = .ok (.getfield 21, 3) := by decide +kernel
theorem dX2_shrink_24 : decode cX2_shrink 24 = .ok (.iconst 2, 1) := by decide +kernel
theorem dX2_shrink_25 : decode cX2_shrink 25 = .ok (.idiv, 1) := by decide +kernel
theorem dX2_shrink_26 : decode cX2_shrink 26 = .ok (.putfield 21, 3) := by decide +kernel
theorem dX2_shrink_29 : decode cX2_shrink 29 = .ok (.aload_n 1, 1) := by decide +kernel
theorem dX2_shrink_30 : decode cX2_shrink 30 = .ok (.dup, 1) := by decide +kernel
theorem dX2_shrink_31 : decode cX2_shrink 31 = .ok (.getfield 95, 3) := by decide +kernel
theorem dX2_shrink_34 : decode cX2_shrink 34 = .ok (.iconst 1, 1) := by decide +kernel
theorem dX2_shrink_35 : decode cX2_shrink 35 = .ok (.iadd, 1) := by decide +kernel
theorem dX2_shrink_36 : decode cX2_shrink 36 = .ok (.putfield 95, 3) := by decide +kernel
theorem dX2_shrink_39 : decode cX2_shrink 39 = .ok (.aload_n 0, 1) := by decide +kernel
theorem dX2_shrink_40 : decode cX2_shrink 40 = .ok (.aload_n 1, 1) := by decide +kernel
theorem dX2_shrink_41 : decode cX2_shrink 41 = .ok (.iconst 0, 1) := by decide +kernel
theorem dX2_shrink_42 : decode cX2_shrink 42 = .ok (.aload_n 1, 1) := by decide +kernel
theorem dX2_shrink_43 : decode cX2_shrink 43 = .ok (.getfield 21, 3) := by decide +kernel
theorem dX2_shrink_46 : decode cX2_shrink 46 = .ok (.invokevirtual 74, 3) := by decide +kernel
theorem dX2_shrink_49 : decode cX2_shrink 49 = .ok (.pop, 1) := by decide +kernel
theorem dX2_shrink_50 : decode cX2_shrink 50 = .ok (.return_, 1) := by decide +kernel
theorem dX2_space_0 : decode cX2_space 0 = .ok (.aload_n 0, 1) := by decide +kernel
theorem dX2_space_1 : decode cX2_space 1 = .ok (.aload_n 1, 1) := by decide +kernel
theorem dX2_space_2 : decode cX2_space 2 = .ok (.iload_n 2, 1) := by decide +kernel
theorem dX2_space_3 : decode cX2_space 3 = .ok (.iload_n 3, 1) := by decide +kernel
theorem dX2_space_4 : decode cX2_space 4 = .ok (.invokevirtual 58, 3) := by decide +kernel
theorem dX2_space_7 : decode cX2_space 7 = .ok (.aload_n 0, 1) := by decide +kernel
theorem dX2_space_8 : decode cX2_space 8 = .ok (.aload_n 1, 1) := by decide +kernel
theorem dX2_space_9 : decode cX2_space 9 = .ok (.iload_n 2, 1) := by decide +kernel
theorem dX2_space_10 : decode cX2_space 10 = .ok (.iload_n 3, 1) := by decide +kernel
theorem dX2_space_11 : decode cX2_space 11 = .ok (.invokevirtual 74, 3) := by decide +kernel
theorem dX2_space_14 : decode cX2_space 14 = .ok (.ireturn, 1) := by decide +kernel
theorem dX2_takeUp_0 : decode cX2_takeUp 0 = .ok (.aload_n 0, 1) := by decide +kernel
theorem dX2_takeUp_1 : decode cX2_takeUp 1 = .ok (.iconst 0, 1) := by decide +kernel
theorem dX2_takeUp_2 : decode cX2_takeUp 2 = .ok (.putfield 98, 3) := by decide +kernel
theorem dX2_takeUp_5 : decode cX2_takeUp 5 = .ok (.aload_n 0, 1) := by decide +kernel
theorem dX2_takeUp_6 : decode cX2_takeUp 6 = .ok (.iconst (-1), 1) := by decide +kernel
theorem dX2_takeUp_7 : decode cX2_takeUp 7 = .ok (.putfield 101, 3) := by decide +kernel
theorem dX2_takeUp_10 : decode cX2_takeUp 10 = .ok (.iload_n 2, 1) := by decide +kernel
theorem dX2_takeUp_11 : decode cX2_takeUp 11 = .ok (.istore 4, 2) := by decide +kernel
theorem dX2_takeUp_13 : decode cX2_takeUp 13 = .ok (.iload 4, 2) := by decide +kernel
theorem dX2_takeUp_15 : decode cX2_takeUp 15 = .ok (.iload_n 2, 1) := by decide +kernel
theorem dX2_takeUp_16 : decode cX2_takeUp 16 = .ok (.iload_n 3, 1) := by decide +kernel
theorem dX2_takeUp_17 : decode cX2_takeUp 17 = .ok (.iadd, 1) := by decide +kernel
theorem dX2_takeUp_18 : decode cX2_takeUp 18 = .ok (.if_icmp .ge 87, 3) := by decide +kernel
theorem dX2_takeUp_21 : decode cX2_takeUp 21 = .ok (.aload_n 0, 1) := by decide +kernel
theorem dX2_takeUp_22 : decode cX2_takeUp 22 = .ok (.getfield 98, 3) := by decide +kernel
theorem dX2_takeUp_25 : decode cX2_takeUp 25 = .ok (.bipush 64, 2) := by decide +kernel
theorem dX2_takeUp_27 : decode cX2_takeUp 27 = .ok (.if_icmp .ge 78, 3) := by decide +kernel
theorem dX2_takeUp_30 : decode cX2_takeUp 30 = .ok (.aload_n 1, 1) := by decide +kernel
theorem dX2_takeUp_31 : decode cX2_takeUp 31 = .ok (.iload 4, 2) := by decide +kernel
theorem dX2_takeUp_33 : decode cX2_takeUp 33 = .ok (.invokevirtual 104, 3) := by decide +kernel
theorem dX2_takeUp_36 : decode cX2_takeUp 36 = .ok (.iconst (-1), 1) := by decide +kernel
theorem dX2_takeUp_37 : decode cX2_takeUp 37 = .ok (.if_icmp .eq 62, 3) := by decide +kernel
theorem dX2_takeUp_40 : decode cX2_takeUp 40 = .ok (.aload_n 0, 1) := by decide +kernel
theorem dX2_takeUp_41 : decode cX2_takeUp 41 = .ok (.getfield 9, 3) := by decide +kernel
theorem dX2_takeUp_44 : decode cX2_takeUp 44 = .ok (.aload_n 0, 1) := by decide +kernel
theorem dX2_takeUp_45 : decode cX2_takeUp 45 = .ok (.getfield 98, 3) := by decide +kernel
theorem dX2_takeUp_48 : decode cX2_takeUp 48 = .ok (.aload_n 1, 1) := by decide +kernel
theorem dX2_takeUp_49 : decode cX2_takeUp 49 = .ok (.iload 4, 2) := by decide +kernel
theorem dX2_takeUp_51 : decode cX2_takeUp 51 = .ok (.invokevirtual 104, 3) := by decide +kernel
theorem dX2_takeUp_54 : decode cX2_takeUp 54 = .ok (.iastore, 1) := by decide +kernel
theorem dX2_takeUp_55 : decode cX2_takeUp 55 = .ok (.aload_n 0, 1) := by decide +kernel
theorem dX2_takeUp_56 : decode cX2_takeUp 56 = .ok (.getfield 15, 3) := by decide +kernel
theorem dX2_takeUp_59 : decode cX2_takeUp 59 = .ok (.aload_n 0, 1) := by decide +kernel
theorem dX2_takeUp_60 : decode cX2_takeUp 60 = .ok (.getfield 98, 3) := by decide +kernel
theorem dX2_takeUp_63 : decode cX2_takeUp 63 = .ok (.aload_n 1, 1) := by decide +kernel
theorem dX2_takeUp_64 : decode cX2_takeUp 64 = .ok (.iload 4, 2) := by decide +kernel
theorem dX2_takeUp_66 : decode cX2_takeUp 66 = .ok (.invokevirtual 78, 3) := by decide +kernel
theorem dX2_takeUp_69 : decode cX2_takeUp 69 = .ok (.iastore, 1) := by decide +kernel
theorem dX2_takeUp_70 : decode cX2_takeUp 70 = .ok (.aload_n 0, 1) := by decide +kernel
theorem dX2_takeUp_71 : decode cX2_takeUp 71 = .ok (.getfield 18, 3) := by decide +kernel
theorem dX2_takeUp_74 : decode cX2_takeUp 74 = .ok (.aload_n 0, 1) := by decide +kernel
theorem dX2_takeUp_75 : decode cX2_takeUp 75 = .ok (.getfield 98, 3) := by decide +kernel
theorem dX2_takeUp_78 : decode cX2_takeUp 78 = .ok (.iload 4, 2) := by decide +kernel
theorem dX2_takeUp_80 : decode cX2_takeUp 80 = .ok (.iastore, 1) := by decide +kernel
theorem dX2_takeUp_81 : decode cX2_takeUp 81 = .ok (.aload_n 0, 1) := by decide +kernel
theorem dX2_takeUp_82 : decode cX2_takeUp 82 = .ok (.dup, 1) := by decide +kernel
theorem dX2_takeUp_83 : decode cX2_takeUp 83 = .ok (.getfield 98, 3) := by decide +kernel
theorem dX2_takeUp_86 : decode cX2_takeUp 86 = .ok (.iconst 1, 1) := by decide +kernel
theorem dX2_takeUp_87 : decode cX2_takeUp 87 = .ok (.iadd, 1) := by decide +kernel
theorem dX2_takeUp_88 : decode cX2_takeUp 88 = .ok (.putfield 98, 3) := by decide +kernel
theorem dX2_takeUp_91 : decode cX2_takeUp 91 = .ok (.aload_n 1, 1) := by decide +kernel
theorem dX2_takeUp_92 : decode cX2_takeUp 92 = .ok (.iload 4, 2) := by decide +kernel
theorem dX2_takeUp_94 : decode cX2_takeUp 94 = .ok (.iconst (-1), 1) := by decide +kernel
theorem dX2_takeUp_95 : decode cX2_takeUp 95 = .ok (.iconst 0, 1) := by decide +kernel
theorem dX2_takeUp_96 : decode cX2_takeUp 96 = .ok (.invokevirtual 81, 3) := by decide +kernel
theorem dX2_takeUp_99 : decode cX2_takeUp 99 = .ok (.iinc 4 1, 3) := by decide +kernel
theorem dX2_takeUp_102 : decode cX2_takeUp 102 = .ok (.goto (-89), 3) := by decide +kernel
theorem dX2_takeUp_105 : decode cX2_takeUp 105 = .ok (.return_, 1) := by decide +kernel
theorem dX2_takeIn_0 : decode cX2_takeIn 0 = .ok (.aload_n 0, 1) := by decide +kernel
theorem dX2_takeIn_1 : decode cX2_takeIn 1 = .ok (.getfield 98, 3) := by decide +kernel
theorem dX2_takeIn_4 : decode cX2_takeIn 4 = .ok (.bipush 64, 2) := by decide +kernel
theorem dX2_takeIn_6 : decode cX2_takeIn 6 = .ok (.if_icmp .lt 4, 3) := by decide +kernel
theorem dX2_takeIn_9 : decode cX2_takeIn 9 = .ok (.return_, 1) := by decide +kernel
theorem dX2_takeIn_10 : decode cX2_takeIn 10 = .ok (.aload_n 0, 1) := by decide +kernel
theorem dX2_takeIn_11 : decode cX2_takeIn 11 = .ok (.getfield 98, 3) := by decide +kernel
theorem dX2_takeIn_14 : decode cX2_takeIn 14 = .ok (.istore_n 3, 1) := by decide +kernel
theorem dX2_takeIn_15 : decode cX2_takeIn 15 = .ok (.iload_n 3, 1) := by decide +kernel
theorem dX2_takeIn_16 : decode cX2_takeIn 16 = .ok (.ifCond .le 63, 3) := by decide +kernel
theorem dX2_takeIn_19 : decode cX2_takeIn 19 = .ok (.aload_n 0, 1) := by decide +kernel
theorem dX2_takeIn_20 : decode cX2_takeIn 20 = .ok (.getfield 9, 3) := by decide +kernel
theorem dX2_takeIn_23 : decode cX2_takeIn 23 = .ok (.iload_n 3, 1) := by decide +kernel
theorem dX2_takeIn_24 : decode cX2_takeIn 24 = .ok (.iconst 1, 1) := by decide +kernel
theorem dX2_takeIn_25 : decode cX2_takeIn 25 = .ok (.isub, 1) := by decide +kernel
theorem dX2_takeIn_26 : decode cX2_takeIn 26 = .ok (.iaload, 1) := by decide +kernel
theorem dX2_takeIn_27 : decode cX2_takeIn 27 = .ok (.iload_n 1, 1) := by decide +kernel
theorem dX2_takeIn_28 : decode cX2_takeIn 28 = .ok (.if_icmp .le 51, 3) := by decide +kernel
theorem dX2_takeIn_31 : decode cX2_takeIn 31 = .ok (.aload_n 0, 1) := by decide +kernel
theorem dX2_takeIn_32 : decode cX2_takeIn 32 = .ok (.getfield 9, 3) := by decide +kernel
theorem dX2_takeIn_35 : decode cX2_takeIn 35 = .ok (.iload_n 3, 1) := by decide +kernel
theorem dX2_takeIn_36 : decode cX2_takeIn 36 = .ok (.aload_n 0, 1) := by decide +kernel
theorem dX2_takeIn_37 : decode cX2_takeIn 37 = .ok (.getfield 9, 3) := by decide +kernel
theorem dX2_takeIn_40 : decode cX2_takeIn 40 = .ok (.iload_n 3, 1) := by decide +kernel
theorem dX2_takeIn_41 : decode cX2_takeIn 41 = .ok (.iconst 1, 1) := by decide +kernel
theorem dX2_takeIn_42 : decode cX2_takeIn 42 = .ok (.isub, 1) := by decide +kernel
theorem dX2_takeIn_43 : decode cX2_takeIn 43 = .ok (.iaload, 1) := by decide +kernel
theorem dX2_takeIn_44 : decode cX2_takeIn 44 = .ok (.iastore, 1) := by decide +kernel
theorem dX2_takeIn_45 : decode cX2_takeIn 45 = .ok (.aload_n 0, 1) := by decide +kernel
theorem dX2_takeIn_46 : decode cX2_takeIn 46 = .ok (.getfield 15, 3) := by decide +kernel
theorem dX2_takeIn_49 : decode cX2_takeIn 49 = .ok (.iload_n 3, 1) := by decide +kernel
theorem dX2_takeIn_50 : decode cX2_takeIn 50 = .ok (.aload_n 0, 1) := by decide +kernel
theorem dX2_takeIn_51 : decode cX2_takeIn 51 = .ok (.getfield 15, 3) := by decide +kernel
theorem dX2_takeIn_54 : decode cX2_takeIn 54 = .ok (.iload_n 3, 1) := by decide +kernel
theorem dX2_takeIn_55 : decode cX2_takeIn 55 = .ok (.iconst 1, 1) := by decide +kernel
theorem dX2_takeIn_56 : decode cX2_takeIn 56 = .ok (.isub, 1) := by decide +kernel
theorem dX2_takeIn_57 : decode cX2_takeIn 57 = .ok (.iaload, 1) := by decide +kernel
theorem dX2_takeIn_58 : decode cX2_takeIn 58 = .ok (.iastore, 1) := by decide +kernel
theorem dX2_takeIn_59 : decode cX2_takeIn 59 = .ok (.aload_n 0, 1) := by decide +kernel
theorem dX2_takeIn_60 : decode cX2_takeIn 60 = .ok (.getfield 18, 3) := by decide +kernel
theorem dX2_takeIn_63 : decode cX2_takeIn 63 = .ok (.iload_n 3, 1) := by decide +kernel
theorem dX2_takeIn_64 : decode cX2_takeIn 64 = .ok (.aload_n 0, 1) := by decide +kernel
theorem dX2_takeIn_65 : decode cX2_takeIn 65 = .ok (.getfield 18, 3) := by decide +kernel
theorem dX2_takeIn_68 : decode cX2_takeIn 68 = .ok (.iload_n 3, 1) := by decide +kernel
theorem dX2_takeIn_69 : decode cX2_takeIn 69 = .ok (.iconst 1, 1) := by decide +kernel
theorem dX2_takeIn_70 : decode cX2_takeIn 70 = .ok (.isub, 1) := by decide +kernel
theorem dX2_takeIn_71 : decode cX2_takeIn 71 = .ok (.iaload, 1) := by decide +kernel
theorem dX2_takeIn_72 : decode cX2_takeIn 72 = .ok (.iastore, 1) := by decide +kernel
theorem dX2_takeIn_73 : decode cX2_takeIn 73 = .ok (.iinc 3 (-1), 3) := by decide +kernel
theorem dX2_takeIn_76 : decode cX2_takeIn 76 = .ok (.goto (-61), 3) := by decide +kernel
theorem dX2_takeIn_79 : decode cX2_takeIn 79 = .ok (.aload_n 0, 1) := by decide +kernel
theorem dX2_takeIn_80 : decode cX2_takeIn 80 = .ok (.getfield 9, 3) := by decide +kernel
theorem dX2_takeIn_83 : decode cX2_takeIn 83 = .ok (.iload_n 3, 1) := by decide +kernel
theorem dX2_takeIn_84 : decode cX2_takeIn 84 = .ok (.iload_n 1, 1) := by decide +kernel
theorem dX2_takeIn_85 : decode cX2_takeIn 85 = .ok (.iastore, 1) := by decide +kernel
theorem dX2_takeIn_86 : decode cX2_takeIn 86 = .ok (.aload_n 0, 1) := by decide +kernel
theorem dX2_takeIn_87 : decode cX2_takeIn 87 = .ok (.getfield 15, 3) := by decide +kernel
theorem dX2_takeIn_90 : decode cX2_takeIn 90 = .ok (.iload_n 3, 1) := by decide +kernel
theorem dX2_takeIn_91 : decode cX2_takeIn 91 = .ok (.iload_n 2, 1) := by decide +kernel
theorem dX2_takeIn_92 : decode cX2_takeIn 92 = .ok (.iastore, 1) := by decide +kernel
theorem dX2_takeIn_93 : decode cX2_takeIn 93 = .ok (.aload_n 0, 1) := by decide +kernel
theorem dX2_takeIn_94 : decode cX2_takeIn 94 = .ok (.getfield 18, 3) := by decide +kernel
theorem dX2_takeIn_97 : decode cX2_takeIn 97 = .ok (.iload_n 3, 1) := by decide +kernel
theorem dX2_takeIn_98 : decode cX2_takeIn 98 = .ok (.iconst (-1), 1) := by decide +kernel
theorem dX2_takeIn_99 : decode cX2_takeIn 99 = .ok (.iastore, 1) := by decide +kernel
theorem dX2_takeIn_100 : decode cX2_takeIn 100 = .ok (.aload_n 0, 1) := by decide +kernel
theorem dX2_takeIn_101 : decode cX2_takeIn 101 = .ok (.iload_n 3, 1) := by decide +kernel
theorem dX2_takeIn_102 : decode cX2_takeIn 102 = .ok (.putfield 101, 3) := by decide +kernel
theorem dX2_takeIn_105 : decode cX2_takeIn 105 = .ok (.aload_n 0, 1) := by decide +kernel
theorem dX2_takeIn_106 : decode cX2_takeIn 106 = .ok (.dup, 1) := by decide +kernel
theorem dX2_takeIn_107 : decode cX2_takeIn 107 = .ok (.getfield 98, 3) := by decide +kernel
theorem dX2_takeIn_110 : decode cX2_takeIn 110 = .ok (.iconst 1, 1) := by decide +kernel
theorem dX2_takeIn_111 : decode cX2_takeIn 111 = .ok (.iadd, 1) := by decide +kernel
theorem dX2_takeIn_112 : decode cX2_takeIn 112 = .ok (.putfield 98, 3) := by decide +kernel
theorem dX2_takeIn_115 : decode cX2_takeIn 115 = .ok (.return_, 1) := by decide +kernel
theorem dX2_layDown_0 : decode cX2_layDown 0 = .ok (.aload_n 1, 1) := by decide +kernel
theorem dX2_layDown_1 : decode cX2_layDown 1 = .ok (.getfield 107, 3) := by decide +kernel
theorem dX2_layDown_4 : decode cX2_layDown 4 = .ok (.iconst 1, 1) := by decide +kernel
theorem dX2_layDown_5 : decode cX2_layDown 5 = .ok (.if_icmp .ne 15, 3) := by decide +kernel
theorem dX2_layDown_8 : decode cX2_layDown 8 = .ok (.aload_n 0, 1) := by decide +kernel
theorem dX2_layDown_9 : decode cX2_layDown 9 = .ok (.getfield 101, 3) := by decide +kernel
theorem dX2_layDown_12 : decode cX2_layDown 12 = .ok (.iconst (-1), 1) := by decide +kernel
theorem dX2_layDown_13 : decode cX2_layDown 13 = .ok (.if_icmp .eq 7, 3) := by decide +kernel
theorem dX2_layDown_16 : decode cX2_layDown 16 = .ok (.iconst 1, 1) := by decide +kernel
theorem dX2_layDown_17 : decode cX2_layDown 17 = .ok (.goto 4, 3) := by decide +kernel
theorem dX2_layDown_20 : decode cX2_layDown 20 = .ok (.iconst 0, 1) := by decide +kernel
theorem dX2_layDown_21 : decode cX2_layDown 21 = .ok (.istore 4, 2) := by decide +kernel
theorem dX2_layDown_23 : decode cX2_layDown 23 = .ok (.iload 4, 2) := by decide +kernel
theorem dX2_layDown_25 : decode cX2_layDown 25 = .ok (.ifCond .eq 14, 3) := by decide +kernel
theorem dX2_layDown_28 : decode cX2_layDown 28 = .ok (.iload_n 3, 1) := by decide +kernel
theorem dX2_layDown_29 : decode cX2_layDown 29 = .ok (.aload_n 0, 1) := by decide +kernel
theorem dX2_layDown_30 : decode cX2_layDown 30 = .ok (.getfield 98, 3) := by decide +kernel
theorem dX2_layDown_33 : decode cX2_layDown 33 = .ok (.isub, 1) := by decide +kernel
theorem dX2_layDown_34 : decode cX2_layDown 34 = .ok (.iconst 2, 1) := by decide +kernel
theorem dX2_layDown_35 : decode cX2_layDown 35 = .ok (.idiv, 1) := by decide +kernel
theorem dX2_layDown_36 : decode cX2_layDown 36 = .ok (.goto 4, 3) := by decide +kernel
theorem dX2_layDown_39 : decode cX2_layDown 39 = .ok (.iconst 0, 1) := by decide +kernel
theorem dX2_layDown_40 : decode cX2_layDown 40 = .ok (.istore 5, 2) := by decide +kernel
theorem dX2_layDown_42 : decode cX2_layDown 42 = .ok (.iconst 0, 1) := by decide +kernel
theorem dX2_layDown_43 : decode cX2_layDown 43 = .ok (.istore 6, 2) := by decide +kernel
theorem dX2_layDown_45 : decode cX2_layDown 45 = .ok (.iconst 0, 1) := by decide +kernel
theorem dX2_layDown_46 : decode cX2_layDown 46 = .ok (.istore 7, 2) := by decide +kernel
theorem dX2_layDown_48 : decode cX2_layDown 48 = .ok (.iload 7, 2) := by decide +kernel
theorem dX2_layDown_50 : decode cX2_layDown 50 = .ok (.aload_n 0, 1) := by decide +kernel
theorem dX2_layDown_51 : decode cX2_layDown 51 = .ok (.getfield 98, 3) := by decide +kernel
theorem dX2_layDown_54 : decode cX2_layDown 54 = .ok (.if_icmp .ge 88, 3) := by decide +kernel
theorem dX2_layDown_57 : decode cX2_layDown 57 = .ok (.iload 7, 2) := by decide +kernel
theorem dX2_layDown_59 : decode cX2_layDown 59 = .ok (.bipush 64, 2) := by decide +kernel
theorem dX2_layDown_61 : decode cX2_layDown 61 = .ok (.if_icmp .ge 81, 3) := by decide +kernel
theorem dX2_layDown_64 : decode cX2_layDown 64 = .ok (.iload_n 2, 1) := by decide +kernel
theorem dX2_layDown_65 : decode cX2_layDown 65 = .ok (.iload 7, 2) := by decide +kernel
theorem dX2_layDown_67 : decode cX2_layDown 67 = .ok (.iload_n 3, 1) := by decide +kernel
theorem dX2_layDown_68 : decode cX2_layDown 68 = .ok (.iload 5, 2) := by decide +kernel
theorem dX2_layDown_70 : decode cX2_layDown 70 = .ok (.isub, 1) := by decide +kernel
theorem dX2_layDown_71 : decode cX2_layDown 71 = .ok (.imul, 1) := by decide +kernel
theorem dX2_layDown_72 : decode cX2_layDown 72 = .ok (.aload_n 0, 1) := by decide +kernel
theorem dX2_layDown_73 : decode cX2_layDown 73 = .ok (.getfield 98, 3) := by decide +kernel
theorem dX2_layDown_76 : decode cX2_layDown 76 = .ok (.idiv, 1) := by decide +kernel
theorem dX2_layDown_77 : decode cX2_layDown 77 = .ok (.iadd, 1) := by decide +kernel
theorem dX2_layDown_78 : decode cX2_layDown 78 = .ok (.istore 8, 2) := by decide +kernel
theorem dX2_layDown_80 : decode cX2_layDown 80 = .ok (.iload 4, 2) := by decide +kernel
theorem dX2_layDown_82 : decode cX2_layDown 82 = .ok (.ifCond .eq 19, 3) := by decide +kernel
theorem dX2_layDown_85 : decode cX2_layDown 85 = .ok (.iload 7, 2) := by decide +kernel
theorem dX2_layDown_87 : decode cX2_layDown 87 = .ok (.aload_n 0, 1) := by decide +kernel
theorem dX2_layDown_88 : decode cX2_layDown 88 = .ok (.getfield 101, 3) := by decide +kernel
theorem dX2_layDown_91 : decode cX2_layDown 91 = .ok (.if_icmp .le 10, 3) := by decide +kernel
theorem dX2_layDown_94 : decode cX2_layDown 94 = .ok (.iload 8, 2) := by decide +kernel
theorem dX2_layDown_96 : decode cX2_layDown 96 = .ok (.iload 5, 2) := by decide +kernel
theorem dX2_layDown_98 : decode cX2_layDown 98 = .ok (.iadd, 1) := by decide +kernel
theorem dX2_layDown_99 : decode cX2_layDown 99 = .ok (.istore 8, 2) := by decide +kernel
theorem dX2_layDown_101 : decode cX2_layDown 101 = .ok (.aload_n 1, 1) := by decide +kernel
theorem dX2_layDown_102 : decode cX2_layDown 102 = .ok (.iload 8, 2) := by decide +kernel
theorem dX2_layDown_104 : decode cX2_layDown 104 = .ok (.aload_n 0, 1) := by decide +kernel
theorem dX2_layDown_105 : decode cX2_layDown 105 = .ok (.getfield 9, 3) := by decide +kernel
theorem dX2_layDown_108 : decode cX2_layDown 108 = .ok (.iload 7, 2) := by decide +kernel
theorem dX2_layDown_110 : decode cX2_layDown 110 = .ok (.iaload, 1) := by decide +kernel
theorem dX2_layDown_111 : decode cX2_layDown 111 = .ok (.aload_n 0, 1) := by decide +kernel
theorem dX2_layDown_112 : decode cX2_layDown 112 = .ok (.getfield 15, 3) := by decide +kernel
theorem dX2_layDown_115 : decode cX2_layDown 115 = .ok (.iload 7, 2) := by decide +kernel
theorem dX2_layDown_117 : decode cX2_layDown 117 = .ok (.iaload, 1) := by decide +kernel
theorem dX2_layDown_118 : decode cX2_layDown 118 = .ok (.invokevirtual 81, 3) := by decide +kernel
theorem dX2_layDown_121 : decode cX2_layDown 121 = .ok (.iload 8, 2) := by decide +kernel
theorem dX2_layDown_123 : decode cX2_layDown 123 = .ok (.aload_n 0, 1) := by decide +kernel
theorem dX2_layDown_124 : decode cX2_layDown 124 = .ok (.getfield 18, 3) := by decide +kernel
theorem dX2_layDown_127 : decode cX2_layDown 127 = .ok (.iload 7, 2) := by decide +kernel
theorem dX2_layDown_129 : decode cX2_layDown 129 = .ok (.iaload, 1) := by decide +kernel
theorem dX2_layDown_130 : decode cX2_layDown 130 = .ok (.if_icmp .eq 6, 3) := by decide +kernel
theorem dX2_layDown_133 : decode cX2_layDown 133 = .ok (.iinc 6 1, 3) := by decide +kernel
theorem dX2_layDown_136 : decode cX2_layDown 136 = .ok (.iinc 7 1, 3) := by decide +kernel
theorem dX2_layDown_139 : decode cX2_layDown 139 = .ok (.goto (-91), 3) := by decide +kernel
theorem dX2_layDown_142 : decode cX2_layDown 142 = .ok (.aload_n 1, 1) := by decide +kernel
theorem dX2_layDown_143 : decode cX2_layDown 143 = .ok (.iload_n 2, 1) := by decide +kernel
theorem dX2_layDown_144 : decode cX2_layDown 144 = .ok (.iload_n 3, 1) := by decide +kernel
theorem dX2_layDown_145 : decode cX2_layDown 145 = .ok (.iload 6, 2) := by decide +kernel
theorem dX2_layDown_147 : decode cX2_layDown 147 = .ok (.invokevirtual 110, 3) := by decide +kernel
theorem dX2_layDown_150 : decode cX2_layDown 150 = .ok (.iload 6, 2) := by decide +kernel
theorem dX2_layDown_152 : decode cX2_layDown 152 = .ok (.ireturn, 1) := by decide +kernel
theorem dX3_init_0 : decode cX3_init 0 = .ok (.aload_n 0, 1) := by decide +kernel
theorem dX3_init_1 : decode cX3_init 1 = .ok (.invokespecial 3, 3) := by decide +kernel
theorem dX3_init_4 : decode cX3_init 4 = .ok (.aload_n 0, 1) := by decide +kernel
theorem dX3_init_5 : decode cX3_init 5 = .ok (.bipush 6, 2) := by decide +kernel
theorem dX3_init_7 : decode cX3_init 7 = .ok (.anewarray 9, 3) := by decide +kernel
theorem dX3_init_10 : decode cX3_init 10 = .ok (.putfield 11, 3) := by decide +kernel
theorem dX3_init_13 : decode cX3_init 13 = .ok (.iconst 0, 1) := by decide +kernel
theorem dX3_init_14 : decode cX3_init 14 = .ok (.istore_n 1, 1) := by decide +kernel
theorem dX3_init_15 : decode cX3_init 15 = .ok (.iload_n 1, 1) := by decide +kernel
theorem dX3_init_16 : decode cX3_init 16 = .ok (.aload_n 0, 1) := by decide +kernel
theorem dX3_init_17 : decode cX3_init 17 = .ok (.getfield 11, 3) := by decide +kernel
theorem dX3_init_20 : decode cX3_init 20 = .ok (.arraylength, 1) := by decide +kernel
theorem dX3_init_21 : decode cX3_init 21 = .ok (.if_icmp .ge 22, 3) := by decide +kernel
theorem dX3_init_24 : decode cX3_init 24 = .ok (.aload_n 0, 1) := by decide +kernel
theorem dX3_init_25 : decode cX3_init 25 = .ok (.getfield 11, 3) := by decide +kernel
theorem dX3_init_28 : decode cX3_init 28 = .ok (.iload_n 1, 1) := by decide +kernel
theorem dX3_init_29 : decode cX3_init 29 = .ok (.new 9, 3) := by decide +kernel
theorem dX3_init_32 : decode cX3_init 32 = .ok (.dup, 1) := by decide +kernel
theorem dX3_init_33 : decode cX3_init 33 = .ok (.invokespecial 17, 3) := by decide +kernel
theorem dX3_init_36 : decode cX3_init 36 = .ok (.aastore, 1) := by decide +kernel
theorem dX3_init_37 : decode cX3_init 37 = .ok (.iinc 1 1, 3) := by decide +kernel
theorem dX3_init_40 : decode cX3_init 40 = .ok (.goto (-25), 3) := by decide +kernel
theorem dX3_init_43 : decode cX3_init 43 = .ok (.return_, 1) := by decide +kernel
theorem dX3_keep_0 : decode cX3_keep 0 = .ok (.aload_n 0, 1) := by decide +kernel
theorem dX3_keep_1 : decode cX3_keep 1 = .ok (.aload_n 1, 1) := by decide +kernel
theorem dX3_keep_2 : decode cX3_keep 2 = .ok (.invokevirtual 18, 3) := by decide +kernel
theorem dX3_keep_5 : decode cX3_keep 5 = .ok (.aload_n 0, 1) := by decide +kernel
theorem dX3_keep_6 : decode cX3_keep 6 = .ok (.invokevirtual 22, 3) := by decide +kernel
theorem dX3_keep_9 : decode cX3_keep 9 = .ok (.return_, 1) := by decide +kernel
theorem dX3_mark_0 : decode cX3_mark 0 = .ok (.aload_n 0, 1) := by decide +kernel
theorem dX3_mark_1 : decode cX3_mark 1 = .ok (.getfield 25, 3) := by decide +kernel
theorem dX3_mark_4 : decode cX3_mark 4 = .ok (.iconst 5, 1) := by decide +kernel
theorem dX3_mark_5 : decode cX3_mark 5 = .ok (.invokestatic 29, 3) := by decide +kernel
theorem dX3_mark_8 : decode cX3_mark 8 = .ok (.ifCond .eq 16, 3) := by decide +kernel
theorem dX3_mark_11 : decode cX3_mark 11 = .ok (.aload_n 0, 1) := by decide +kernel
theorem dX3_mark_12 : decode cX3_mark 12 = .ok (.getfield 11, 3) := by decide +kernel
theorem dX3_mark_15 : decode cX3_mark 15 = .ok (.aload_n 0, 1) := by decide +kernel
theorem dX3_mark_16 : decode cX3_mark 16 = .ok (.getfield 25, 3) := by decide +kernel
theorem dX3_mark_19 : decode cX3_mark 19 = .ok (.aaload, 1) := by decide +kernel
theorem dX3_mark_20 : decode cX3_mark 20 = .ok (.aload_n 1, 1) := by decide +kernel
theorem dX3_mark_21 : decode cX3_mark 21 = .ok (.invokevirtual 33, 3) := by decide +kernel
theorem dX3_mark_24 : decode cX3_mark 24 = .ok (.return_, 1) := by decide +kernel
theorem dX3_returnToMark_0 : decode cX3_returnToMark 0 = .ok (.aload_n 0, 1) := by decide +kernel
theorem dX3_returnToMark_1 : decode cX3_returnToMark 1 = .ok (.getfield 25, 3) := by decide +kernel
theorem dX3_returnToMark_4 : decode cX3_returnToMark 4 = .ok (.iconst 5, 1) := by decide +kernel
theorem dX3_returnToMark_5 : decode cX3_returnToMark 5 = .ok (.invokestatic 29, 3) := by decide +kernel
theorem dX3_returnToMark_8 : decode cX3_returnToMark 8 = .ok (.ifCond .eq 16, 3) := by decide +kernel
theorem dX3_returnToMark_11 : decode cX3_returnToMark 11 = .ok (.aload_n 1, 1) := by decide +kernel
theorem dX3_returnToMark_12 : decode cX3_returnToMark 12 = .ok (.aload_n 0, 1) := by decide +kernel
theorem dX3_returnToMark_13 : decode cX3_returnToMark 13 = .ok (.getfield 11, 3) := by decide +kernel
theorem dX3_returnToMark_16 : decode cX3_returnToMark 16 = .ok (.aload_n 0, 1) := by decide +kernel
theorem dX3_returnToMark_17 : decode cX3_returnToMark 17 = .ok (.getfield 25, 3) := by decide +kernel
theorem dX3_returnToMark_20 : decode cX3_returnToMark 20 = .ok (.aaload, 1) := by decide +kernel
theorem dX3_returnToMark_21 : decode cX3_returnToMark 21 = .ok (.invokevirtual 33, 3) := by decide +kernel
theorem dX3_returnToMark_24 : decode cX3_returnToMark 24 = .ok (.return_, 1) := by decide +kernel
theorem dX3_keepMark_0 : decode cX3_keepMark 0 = .ok (.aload_n 0, 1) := by decide +kernel
theorem dX3_keepMark_1 : decode cX3_keepMark 1 = .ok (.getfield 25, 3) := by decide +kernel
theorem dX3_keepMark_4 : decode cX3_keepMark 4 = .ok (.iconst 5, 1) := by decide +kernel
theorem dX3_keepMark_5 : decode cX3_keepMark 5 = .ok (.if_icmp .ge 14, 3) := by decide +kernel
theorem dX3_keepMark_8 : decode cX3_keepMark 8 = .ok (.aload_n 0, 1) := by decide +kernel
theorem dX3_keepMark_9 : decode cX3_keepMark 9 = .ok (.dup, 1) := by decide +kernel
theorem dX3_keepMark_10 : decode cX3_keepMark 10 = .ok (.getfield 25, 3) := by decide +kernel
theorem dX3_keepMark_13 : decode cX3_keepMark 13 = .ok (.iconst 1, 1) := by decide +kernel
theorem dX3_keepMark_14 : decode cX3_keepMark 14 = .ok (.iadd, 1) := by decide +kernel
theorem dX3_keepMark_15 : decode cX3_keepMark 15 = .ok (.putfield 25, 3) := by decide +kernel
theorem dX3_keepMark_18 : decode cX3_keepMark 18 = .ok (.return_, 1) := by decide +kernel
theorem dX3_keepMark_19 : decode cX3_keepMark 19 = .ok (.aload_n 0, 1) := by decide +kernel
theorem dX3_keepMark_20 : decode cX3_keepMark 20 = .ok (.getfield 11, 3) := by decide +kernel
theorem dX3_keepMark_23 : decode cX3_keepMark 23 = .ok (.iconst 0, 1) := by decide +kernel
theorem dX3_keepMark_24 : decode cX3_keepMark 24 = .ok (.aaload, 1) := by decide +kernel
theorem dX3_keepMark_25 : decode cX3_keepMark 25 = .ok (.astore_n 1, 1) := by decide +kernel
theorem dX3_keepMark_26 : decode cX3_keepMark 26 = .ok (.iconst 0, 1) := by decide +kernel
theorem dX3_keepMark_27 : decode cX3_keepMark 27 = .ok (.istore_n 2, 1) := by decide +kernel
theorem dX3_keepMark_28 : decode cX3_keepMark 28 = .ok (.iload_n 2, 1) := by decide +kernel
theorem dX3_keepMark_29 : decode cX3_keepMark 29 = .ok (.iconst 5, 1) := by decide +kernel
theorem dX3_keepMark_30 : decode cX3_keepMark 30 = .ok (.if_icmp .ge 23, 3) := by decide +kernel
theorem dX3_keepMark_33 : decode cX3_keepMark 33 = .ok (.aload_n 0, 1) := by decide +kernel
theorem dX3_keepMark_34 : decode cX3_keepMark 34 = .ok (.getfield 11, 3) := by decide +kernel
theorem dX3_keepMark_37 : decode cX3_keepMark 37 = .ok (.iload_n 2, 1) := by decide +kernel
theorem dX3_keepMark_38 : decode cX3_keepMark 38 = .ok (.aload_n 0, 1) := by decide +kernel
theorem dX3_keepMark_39 : decode cX3_keepMark 39 = .ok (.getfield 11, 3) := by decide +kernel
theorem dX3_keepMark_42 : decode cX3_keepMark 42 = .ok (.iload_n 2, 1) := by decide +kernel
theorem dX3_keepMark_43 : decode cX3_keepMark 43 = .ok (.iconst 1, 1) := by decide +kernel
theorem dX3_keepMark_44 : decode cX3_keepMark 44 = .ok (.iadd, 1) := by decide +kernel
theorem dX3_keepMark_45 : decode cX3_keepMark 45 = .ok (.aaload, 1) := by decide +kernel
theorem dX3_keepMark_46 : decode cX3_keepMark 46 = .ok (.aastore, 1) := by decide +kernel
theorem dX3_keepMark_47 : decode cX3_keepMark 47 = .ok (.iinc 2 1, 3) := by decide +kernel
theorem dX3_keepMark_50 : decode cX3_keepMark 50 = .ok (.goto (-22), 3) := by decide +kernel
theorem dX3_keepMark_53 : decode cX3_keepMark 53 = .ok (.aload_n 0, 1) := by decide +kernel
theorem dX3_keepMark_54 : decode cX3_keepMark 54 = .ok (.getfield 11, 3) := by decide +kernel
theorem dX3_keepMark_57 : decode cX3_keepMark 57 = .ok (.iconst 5, 1) := by decide +kernel
theorem dX3_keepMark_58 : decode cX3_keepMark 58 = .ok (.aload_n 1, 1) := by decide +kernel
theorem dX3_keepMark_59 : decode cX3_keepMark 59 = .ok (.aastore, 1) := by decide +kernel
theorem dX3_keepMark_60 : decode cX3_keepMark 60 = .ok (.return_, 1) := by decide +kernel
theorem dX3_goBack_0 : decode cX3_goBack 0 = .ok (.aload_n 0, 1) := by decide +kernel
theorem dX3_goBack_1 : decode cX3_goBack 1 = .ok (.getfield 25, 3) := by decide +kernel
theorem dX3_goBack_4 : decode cX3_goBack 4 = .ok (.ifCond .ne 5, 3) := by decide +kernel
theorem dX3_goBack_7 : decode cX3_goBack 7 = .ok (.iconst 0, 1) := by decide +kernel
theorem dX3_goBack_8 : decode cX3_goBack 8 = .ok (.ireturn, 1) := by decide +kernel
theorem dX3_goBack_9 : decode cX3_goBack 9 = .ok (.aload_n 0, 1) := by decide +kernel
