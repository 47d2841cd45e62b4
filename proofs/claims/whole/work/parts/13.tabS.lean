/-! the methods' tables -/
def tS_init : TB := [(0, .aload_n 0, 1), (1, .invokespecial 3, 3), (4, .aload_n 0, 1), (5, .new 9, 3), (8, .dup, 1), (9, .invokespecial 11, 3), (12, .putfield 12, 3), (15, .aload_n 0, 1), (16, .new 16, 3), (19, .dup, 1), (20, .invokespecial 18, 3), (23, .putfield 19, 3), (26, .aload_n 0, 1), (27, .new 23, 3), (30, .dup, 1), (31, .invokespecial 25, 3), (34, .putfield 26, 3), (37, .aload_n 0, 1), (38, .new 30, 3), (41, .dup, 1), (42, .invokespecial 32, 3), (45, .putfield 33, 3), (48, .aload_n 0, 1), (49, .new 37, 3), (52, .dup, 1), (53, .invokespecial 39, 3), (56, .putfield 40, 3), (59, .aload_n 0, 1), (60, .new 44, 3), (63, .dup, 1), (64, .aload_n 0, 1), (65, .getfield 12, 3), (68, .invokespecial 46, 3), (71, .putfield 49, 3), (74, .aload_n 0, 1), (75, .new 53, 3), (78, .dup, 1), (79, .invokespecial 55, 3), (82, .putfield 56, 3), (85, .aload_n 0, 1), (86, .new 60, 3), (89, .dup, 1), (90, .invokespecial 62, 3), (93, .putfield 63, 3), (96, .aload_n 0, 1), (97, .bipush 9, 2), (99, .newarray .int, 2), (101, .putfield 67, 3), (104, .aload_n 0, 1), (105, .iconst 0, 1), (106, .putfield 71, 3), (109, .return_, 1)]
set_option maxRecDepth 100000 in
theorem kS_init : tbOk (mB mS_init) tS_init = true := by decide +kernel
theorem pS_init_0 : alk tS_init 0 = some (.aload_n 0, 1) := rfl
theorem pS_init_1 : alk tS_init 1 = some (.invokespecial 3, 3) := rfl
theorem pS_init_4 : alk tS_init 4 = some (.aload_n 0, 1) := rfl
theorem pS_init_5 : alk tS_init 5 = some (.new 9, 3) := rfl
theorem pS_init_8 : alk tS_init 8 = some (.dup, 1) := rfl
theorem pS_init_9 : alk tS_init 9 = some (.invokespecial 11, 3) := rfl
theorem pS_init_12 : alk tS_init 12 = some (.putfield 12, 3) := rfl
theorem pS_init_15 : alk tS_init 15 = some (.aload_n 0, 1) := rfl
theorem pS_init_16 : alk tS_init 16 = some (.new 16, 3) := rfl
theorem pS_init_19 : alk tS_init 19 = some (.dup, 1) := rfl
theorem pS_init_20 : alk tS_init 20 = some (.invokespecial 18, 3) := rfl
theorem pS_init_23 : alk tS_init 23 = some (.putfield 19, 3) := rfl
theorem pS_init_26 : alk tS_init 26 = some (.aload_n 0, 1) := rfl
theorem pS_init_27 : alk tS_init 27 = some (.new 23, 3) := rfl
theorem pS_init_30 : alk tS_init 30 = some (.dup, 1) := rfl
theorem pS_init_31 : alk tS_init 31 = some (.invokespecial 25, 3) := rfl
theorem pS_init_34 : alk tS_init 34 = some (.putfield 26, 3) := rfl
theorem pS_init_37 : alk tS_init 37 = some (.aload_n 0, 1) := rfl
theorem pS_init_38 : alk tS_init 38 = some (.new 30, 3) := rfl
theorem pS_init_41 : alk tS_init 41 = some (.dup, 1) := rfl
theorem pS_init_42 : alk tS_init 42 = some (.invokespecial 32, 3) := rfl
theorem pS_init_45 : alk tS_init 45 = some (.putfield 33, 3) := rfl
theorem pS_init_48 : alk tS_init 48 = some (.aload_n 0, 1) := rfl
theorem pS_init_49 : alk tS_init 49 = some (.new 37, 3) := rfl
theorem pS_init_52 : alk tS_init 52 = some (.dup, 1) := rfl
theorem pS_init_53 : alk tS_init 53 = some (.invokespecial 39, 3) := rfl
theorem pS_init_56 : alk tS_init 56 = some (.putfield 40, 3) := rfl
theorem pS_init_59 : alk tS_init 59 = some (.aload_n 0, 1) := rfl
theorem pS_init_60 : alk tS_init 60 = some (.new 44, 3) := rfl
theorem pS_init_63 : alk tS_init 63 = some (.dup, 1) := rfl
theorem pS_init_64 : alk tS_init 64 = some (.aload_n 0, 1) := rfl
theorem pS_init_65 : alk tS_init 65 = some (.getfield 12, 3) := rfl
theorem pS_init_68 : alk tS_init 68 = some (.invokespecial 46, 3) := rfl
theorem pS_init_71 : alk tS_init 71 = some (.putfield 49, 3) := rfl
theorem pS_init_74 : alk tS_init 74 = some (.aload_n 0, 1) := rfl
theorem pS_init_75 : alk tS_init 75 = some (.new 53, 3) := rfl
theorem pS_init_78 : alk tS_init 78 = some (.dup, 1) := rfl
theorem pS_init_79 : alk tS_init 79 = some (.invokespecial 55, 3) := rfl
theorem pS_init_82 : alk tS_init 82 = some (.putfield 56, 3) := rfl
theorem pS_init_85 : alk tS_init 85 = some (.aload_n 0, 1) := rfl
theorem pS_init_86 : alk tS_init 86 = some (.new 60, 3) := rfl
theorem pS_init_89 : alk tS_init 89 = some (.dup, 1) := rfl
theorem pS_init_90 : alk tS_init 90 = some (.invokespecial 62, 3) := rfl
theorem pS_init_93 : alk tS_init 93 = some (.putfield 63, 3) := rfl
theorem pS_init_96 : alk tS_init 96 = some (.aload_n 0, 1) := rfl
theorem pS_init_97 : alk tS_init 97 = some (.bipush 9, 2) := rfl
theorem pS_init_99 : alk tS_init 99 = some (.newarray .int, 2) := rfl
theorem pS_init_101 : alk tS_init 101 = some (.putfield 67, 3) := rfl
theorem pS_init_104 : alk tS_init 104 = some (.aload_n 0, 1) := rfl
theorem pS_init_105 : alk tS_init 105 = some (.iconst 0, 1) := rfl
theorem pS_init_106 : alk tS_init 106 = some (.putfield 71, 3) := rfl
theorem pS_init_109 : alk tS_init 109 = some (.return_, 1) := rfl
def tY_init : TB := [(0, .aload_n 0, 1), (1, .invokespecial 3, 3), (4, .aload_n 0, 1), (5, .new 9, 3), (8, .dup, 1), (9, .invokespecial 11, 3), (12, .putfield 12, 3), (15, .aload_n 0, 1), (16, .bipush 14, 2), (18, .newarray .int, 2), (20, .putfield 18, 3), (23, .aload_n 0, 1), (24, .bipush 14, 2), (26, .newarray .int, 2), (28, .putfield 22, 3), (31, .aload_n 0, 1), (32, .bipush 14, 2), (34, .bipush 14, 2), (36, .multianewarray 25 2, 4), (40, .putfield 27, 3), (43, .aload_n 0, 1), (44, .iconst 0, 1), (45, .putfield 30, 3), (48, .return_, 1)]
set_option maxRecDepth 100000 in
theorem kY_init : tbOk (mB mY_init) tY_init = true := by decide +kernel
theorem pY_init_0 : alk tY_init 0 = some (.aload_n 0, 1) := rfl
theorem pY_init_1 : alk tY_init 1 = some (.invokespecial 3, 3) := rfl
theorem pY_init_4 : alk tY_init 4 = some (.aload_n 0, 1) := rfl
theorem pY_init_5 : alk tY_init 5 = some (.new 9, 3) := rfl
theorem pY_init_8 : alk tY_init 8 = some (.dup, 1) := rfl
theorem pY_init_9 : alk tY_init 9 = some (.invokespecial 11, 3) := rfl
theorem pY_init_12 : alk tY_init 12 = some (.putfield 12, 3) := rfl
theorem pY_init_15 : alk tY_init 15 = some (.aload_n 0, 1) := rfl
theorem pY_init_16 : alk tY_init 16 = some (.bipush 14, 2) := rfl
theorem pY_init_18 : alk tY_init 18 = some (.newarray .int, 2) := rfl
theorem pY_init_20 : alk tY_init 20 = some (.putfield 18, 3) := rfl
theorem pY_init_23 : alk tY_init 23 = some (.aload_n 0, 1) := rfl
theorem pY_init_24 : alk tY_init 24 = some (.bipush 14, 2) := rfl
theorem pY_init_26 : alk tY_init 26 = some (.newarray .int, 2) := rfl
theorem pY_init_28 : alk tY_init 28 = some (.putfield 22, 3) := rfl
theorem pY_init_31 : alk tY_init 31 = some (.aload_n 0, 1) := rfl
theorem pY_init_32 : alk tY_init 32 = some (.bipush 14, 2) := rfl
theorem pY_init_34 : alk tY_init 34 = some (.bipush 14, 2) := rfl
theorem pY_init_36 : alk tY_init 36 = some (.multianewarray 25 2, 4) := rfl
theorem pY_init_40 : alk tY_init 40 = some (.putfield 27, 3) := rfl
theorem pY_init_43 : alk tY_init 43 = some (.aload_n 0, 1) := rfl
theorem pY_init_44 : alk tY_init 44 = some (.iconst 0, 1) := rfl
theorem pY_init_45 : alk tY_init 45 = some (.putfield 30, 3) := rfl
theorem pY_init_48 : alk tY_init 48 = some (.return_, 1) := rfl
def tT_init : TB := [(0, .aload_n 0, 1), (1, .invokespecial 3, 3), (4, .aload_n 0, 1), (5, .bipush 80, 2), (7, .newarray .int, 2), (9, .putfield 9, 3), (12, .aload_n 0, 1), (13, .iconst 0, 1), (14, .putfield 15, 3), (17, .aload_n 0, 1), (18, .iconst 0, 1), (19, .putfield 19, 3), (22, .return_, 1)]
set_option maxRecDepth 100000 in
theorem kT_init : tbOk (mB mT_init) tT_init = true := by decide +kernel
theorem pT_init_0 : alk tT_init 0 = some (.aload_n 0, 1) := rfl
theorem pT_init_1 : alk tT_init 1 = some (.invokespecial 3, 3) := rfl
theorem pT_init_4 : alk tT_init 4 = some (.aload_n 0, 1) := rfl
theorem pT_init_5 : alk tT_init 5 = some (.bipush 80, 2) := rfl
theorem pT_init_7 : alk tT_init 7 = some (.newarray .int, 2) := rfl
theorem pT_init_9 : alk tT_init 9 = some (.putfield 9, 3) := rfl
theorem pT_init_12 : alk tT_init 12 = some (.aload_n 0, 1) := rfl
theorem pT_init_13 : alk tT_init 13 = some (.iconst 0, 1) := rfl
theorem pT_init_14 : alk tT_init 14 = some (.putfield 15, 3) := rfl
theorem pT_init_17 : alk tT_init 17 = some (.aload_n 0, 1) := rfl
theorem pT_init_18 : alk tT_init 18 = some (.iconst 0, 1) := rfl
theorem pT_init_19 : alk tT_init 19 = some (.putfield 19, 3) := rfl
theorem pT_init_22 : alk tT_init 22 = some (.return_, 1) := rfl
def tB_init : TB := [(0, .aload_n 0, 1), (1, .invokespecial 3, 3), (4, .aload_n 0, 1), (5, .new 9, 3), (8, .dup, 1), (9, .invokespecial 11, 3), (12, .putfield 12, 3), (15, .return_, 1)]
set_option maxRecDepth 100000 in
theorem kB_init : tbOk (mB mB_init) tB_init = true := by decide +kernel
theorem pB_init_0 : alk tB_init 0 = some (.aload_n 0, 1) := rfl
theorem pB_init_1 : alk tB_init 1 = some (.invokespecial 3, 3) := rfl
theorem pB_init_4 : alk tB_init 4 = some (.aload_n 0, 1) := rfl
theorem pB_init_5 : alk tB_init 5 = some (.new 9, 3) := rfl
theorem pB_init_8 : alk tB_init 8 = some (.dup, 1) := rfl
theorem pB_init_9 : alk tB_init 9 = some (.invokespecial 11, 3) := rfl
theorem pB_init_12 : alk tB_init 12 = some (.putfield 12, 3) := rfl
theorem pB_init_15 : alk tB_init 15 = some (.return_, 1) := rfl
def tK_init : TB := [(0, .aload_n 0, 1), (1, .invokespecial 3, 3), (4, .aload_n 0, 1), (5, .bipush 20, 2), (7, .newarray .int, 2), (9, .putfield 9, 3), (12, .aload_n 0, 1), (13, .bipush 20, 2), (15, .newarray .int, 2), (17, .putfield 15, 3), (20, .aload_n 0, 1), (21, .iconst 0, 1), (22, .putfield 18, 3), (25, .return_, 1)]
set_option maxRecDepth 100000 in
theorem kK_init : tbOk (mB mK_init) tK_init = true := by decide +kernel
theorem pK_init_0 : alk tK_init 0 = some (.aload_n 0, 1) := rfl
theorem pK_init_1 : alk tK_init 1 = some (.invokespecial 3, 3) := rfl
theorem pK_init_4 : alk tK_init 4 = some (.aload_n 0, 1) := rfl
theorem pK_init_5 : alk tK_init 5 = some (.bipush 20, 2) := rfl
theorem pK_init_7 : alk tK_init 7 = some (.newarray .int, 2) := rfl
theorem pK_init_9 : alk tK_init 9 = some (.putfield 9, 3) := rfl
theorem pK_init_12 : alk tK_init 12 = some (.aload_n 0, 1) := rfl
theorem pK_init_13 : alk tK_init 13 = some (.bipush 20, 2) := rfl
theorem pK_init_15 : alk tK_init 15 = some (.newarray .int, 2) := rfl
theorem pK_init_17 : alk tK_init 17 = some (.putfield 15, 3) := rfl
theorem pK_init_20 : alk tK_init 20 = some (.aload_n 0, 1) := rfl
theorem pK_init_21 : alk tK_init 21 = some (.iconst 0, 1) := rfl
theorem pK_init_22 : alk tK_init 22 = some (.putfield 18, 3) := rfl
theorem pK_init_25 : alk tK_init 25 = some (.return_, 1) := rfl
def tP_init : TB := [(0, .aload_n 0, 1), (1, .invokespecial 3, 3), (4, .aload_n 0, 1), (5, .iconst 4, 1), (6, .newarray .int, 2), (8, .putfield 9, 3), (11, .aload_n 0, 1), (12, .iconst 4, 1), (13, .newarray .int, 2), (15, .putfield 15, 3), (18, .aload_n 0, 1), (19, .bipush 16, 2), (21, .anewarray 18, 3), (24, .putfield 20, 3), (27, .aload_n 0, 1), (28, .iconst 4, 1), (29, .newarray .int, 2), (31, .putfield 24, 3), (34, .aload_n 0, 1), (35, .iconst 4, 1), (36, .newarray .int, 2), (38, .putfield 27, 3), (41, .aload_n 0, 1), (42, .iconst 4, 1), (43, .newarray .int, 2), (45, .putfield 30, 3), (48, .aload_n 0, 1), (49, .iconst 4, 1), (50, .newarray .int, 2), (52, .putfield 33, 3), (55, .aload_n 0, 1), (56, .iconst 0, 1), (57, .putfield 36, 3), (60, .aload_n 0, 1), (61, .iconst 0, 1), (62, .putfield 40, 3), (65, .aload_n 0, 1), (66, .iconst 0, 1), (67, .putfield 43, 3), (70, .aload_n 0, 1), (71, .iconst 0, 1), (72, .putfield 46, 3), (75, .aload_n 0, 1), (76, .iconst 0, 1), (77, .putfield 49, 3), (80, .aload_n 0, 1), (81, .iconst 0, 1), (82, .putfield 52, 3), (85, .aload_n 0, 1), (86, .iconst 0, 1), (87, .putfield 55, 3), (90, .aload_n 0, 1), (91, .aload_n 1, 1), (92, .putfield 58, 3), (95, .iconst 0, 1), (96, .istore_n 2, 1), (97, .iload_n 2, 1), (98, .aload_n 0, 1), (99, .getfield 20, 3), (102, .arraylength, 1), (103, .if_icmp .ge 22, 3), (106, .aload_n 0, 1), (107, .getfield 20, 3), (110, .iload_n 2, 1), (111, .new 18, 3), (114, .dup, 1), (115, .invokespecial 62, 3), (118, .aastore, 1), (119, .iinc 2 1, 3), (122, .goto (-25), 3), (125, .return_, 1)]
set_option maxRecDepth 100000 in
theorem kP_init : tbOk (mB mP_init) tP_init = true := by decide +kernel
theorem pP_init_0 : alk tP_init 0 = some (.aload_n 0, 1) := rfl
theorem pP_init_1 : alk tP_init 1 = some (.invokespecial 3, 3) := rfl
theorem pP_init_4 : alk tP_init 4 = some (.aload_n 0, 1) := rfl
theorem pP_init_5 : alk tP_init 5 = some (.iconst 4, 1) := rfl
theorem pP_init_6 : alk tP_init 6 = some (.newarray .int, 2) := rfl
theorem pP_init_8 : alk tP_init 8 = some (.putfield 9, 3) := rfl
theorem pP_init_11 : alk tP_init 11 = some (.aload_n 0, 1) := rfl
theorem pP_init_12 : alk tP_init 12 = some (.iconst 4, 1) := rfl
theorem pP_init_13 : alk tP_init 13 = some (.newarray .int, 2) := rfl
theorem pP_init_15 : alk tP_init 15 = some (.putfield 15, 3) := rfl
theorem pP_init_18 : alk tP_init 18 = some (.aload_n 0, 1) := rfl
theorem pP_init_19 : alk tP_init 19 = some (.bipush 16, 2) := rfl
theorem pP_init_21 : alk tP_init 21 = some (.anewarray 18, 3) := rfl
theorem pP_init_24 : alk tP_init 24 = some (.putfield 20, 3) := rfl
theorem pP_init_27 : alk tP_init 27 = some (.aload_n 0, 1) := rfl
theorem pP_init_28 : alk tP_init 28 = some (.iconst 4, 1) := rfl
theorem pP_init_29 : alk tP_init 29 = some (.newarray .int, 2) := rfl
theorem pP_init_31 : alk tP_init 31 = some (.putfield 24, 3) := rfl
theorem pP_init_34 : alk tP_init 34 = some (.aload_n 0, 1) := rfl
theorem pP_init_35 : alk tP_init 35 = some (.iconst 4, 1) := rfl
theorem pP_init_36 : alk tP_init 36 = some (.newarray .int, 2) := rfl
theorem pP_init_38 : alk tP_init 38 = some (.putfield 27, 3) := rfl
theorem pP_init_41 : alk tP_init 41 = some (.aload_n 0, 1) := rfl
theorem pP_init_42 : alk tP_init 42 = some (.iconst 4, 1) := rfl
theorem pP_init_43 : alk tP_init 43 = some (.newarray .int, 2) := rfl
theorem pP_init_45 : alk tP_init 45 = some (.putfield 30, 3) := rfl
theorem pP_init_48 : alk tP_init 48 = some (.aload_n 0, 1) := rfl
theorem pP_init_49 : alk tP_init 49 = some (.iconst 4, 1) := rfl
theorem pP_init_50 : alk tP_init 50 = some (.newarray .int, 2) := rfl
theorem pP_init_52 : alk tP_init 52 = some (.putfield 33, 3) := rfl
theorem pP_init_55 : alk tP_init 55 = some (.aload_n 0, 1) := rfl
theorem pP_init_56 : alk tP_init 56 = some (.iconst 0, 1) := rfl
theorem pP_init_57 : alk tP_init 57 = some (.putfield 36, 3) := rfl
theorem pP_init_60 : alk tP_init 60 = some (.aload_n 0, 1) := rfl
theorem pP_init_61 : alk tP_init 61 = some (.iconst 0, 1) := rfl
theorem pP_init_62 : alk tP_init 62 = some (.putfield 40, 3) := rfl
theorem pP_init_65 : alk tP_init 65 = some (.aload_n 0, 1) := rfl
theorem pP_init_66 : alk tP_init 66 = some (.iconst 0, 1) := rfl
theorem pP_init_67 : alk tP_init 67 = some (.putfield 43, 3) := rfl
theorem pP_init_70 : alk tP_init 70 = some (.aload_n 0, 1) := rfl
theorem pP_init_71 : alk tP_init 71 = some (.iconst 0, 1) := rfl
theorem pP_init_72 : alk tP_init 72 = some (.putfield 46, 3) := rfl
theorem pP_init_75 : alk tP_init 75 = some (.aload_n 0, 1) := rfl
theorem pP_init_76 : alk tP_init 76 = some (.iconst 0, 1) := rfl
theorem pP_init_77 : alk tP_init 77 = some (.putfield 49, 3) := rfl
theorem pP_init_80 : alk tP_init 80 = some (.aload_n 0, 1) := rfl
theorem pP_init_81 : alk tP_init 81 = some (.iconst 0, 1) := rfl
theorem pP_init_82 : alk tP_init 82 = some (.putfield 52, 3) := rfl
theorem pP_init_85 : alk tP_init 85 = some (.aload_n 0, 1) := rfl
theorem pP_init_86 : alk tP_init 86 = some (.iconst 0, 1) := rfl
theorem pP_init_87 : alk tP_init 87 = some (.putfield 55, 3) := rfl
theorem pP_init_90 : alk tP_init 90 = some (.aload_n 0, 1) := rfl
theorem pP_init_91 : alk tP_init 91 = some (.aload_n 1, 1) := rfl
theorem pP_init_92 : alk tP_init 92 = some (.putfield 58, 3) := rfl
theorem pP_init_95 : alk tP_init 95 = some (.iconst 0, 1) := rfl
theorem pP_init_96 : alk tP_init 96 = some (.istore_n 2, 1) := rfl
theorem pP_init_97 : alk tP_init 97 = some (.iload_n 2, 1) := rfl
theorem pP_init_98 : alk tP_init 98 = some (.aload_n 0, 1) := rfl
theorem pP_init_99 : alk tP_init 99 = some (.getfield 20, 3) := rfl
theorem pP_init_102 : alk tP_init 102 = some (.arraylength, 1) := rfl
theorem pP_init_103 : alk tP_init 103 = some (.if_icmp .ge 22, 3) := rfl
set_option maxRecDepth 20000 in
theorem pP_init_106 : alk tP_init 106 = some (.aload_n 0, 1) := rfl
set_option maxRecDepth 20000 in
theorem pP_init_107 : alk tP_init 107 = some (.getfield 20, 3) := rfl
set_option maxRecDepth 20000 in
theorem pP_init_110 : alk tP_init 110 = some (.iload_n 2, 1) := rfl
set_option maxRecDepth 20000 in
theorem pP_init_111 : alk tP_init 111 = some (.new 18, 3) := rfl
set_option maxRecDepth 20000 in
theorem pP_init_114 : alk tP_init 114 = some (.dup, 1) := rfl
set_option maxRecDepth 20000 in
theorem pP_init_115 : alk tP_init 115 = some (.invokespecial 62, 3) := rfl
set_option maxRecDepth 20000 in
theorem pP_init_118 : alk tP_init 118 = some (.aastore, 1) := rfl
set_option maxRecDepth 20000 in
theorem pP_init_119 : alk tP_init 119 = some (.iinc 2 1, 3) := rfl
set_option maxRecDepth 20000 in
theorem pP_init_122 : alk tP_init 122 = some (.goto (-25), 3) := rfl
set_option maxRecDepth 20000 in
theorem pP_init_125 : alk tP_init 125 = some (.return_, 1) := rfl
def tW_init : TB := [(0, .aload_n 0, 1), (1, .invokespecial 3, 3), (4, .aload_n 0, 1), (5, .bipush 13, 2), (7, .newarray .int, 2), (9, .putfield 9, 3), (12, .aload_n 0, 1), (13, .bipush 13, 2), (15, .newarray .int, 2), (17, .putfield 15, 3), (20, .aload_n 0, 1), (21, .iconst 0, 1), (22, .putfield 18, 3), (25, .aload_n 0, 1), (26, .iconst 0, 1), (27, .putfield 22, 3), (30, .return_, 1)]
set_option maxRecDepth 100000 in
theorem kW_init : tbOk (mB mW_init) tW_init = true := by decide +kernel
theorem pW_init_0 : alk tW_init 0 = some (.aload_n 0, 1) := rfl
theorem pW_init_1 : alk tW_init 1 = some (.invokespecial 3, 3) := rfl
theorem pW_init_4 : alk tW_init 4 = some (.aload_n 0, 1) := rfl
theorem pW_init_5 : alk tW_init 5 = some (.bipush 13, 2) := rfl
theorem pW_init_7 : alk tW_init 7 = some (.newarray .int, 2) := rfl
theorem pW_init_9 : alk tW_init 9 = some (.putfield 9, 3) := rfl
theorem pW_init_12 : alk tW_init 12 = some (.aload_n 0, 1) := rfl
theorem pW_init_13 : alk tW_init 13 = some (.bipush 13, 2) := rfl
theorem pW_init_15 : alk tW_init 15 = some (.newarray .int, 2) := rfl
theorem pW_init_17 : alk tW_init 17 = some (.putfield 15, 3) := rfl
theorem pW_init_20 : alk tW_init 20 = some (.aload_n 0, 1) := rfl
theorem pW_init_21 : alk tW_init 21 = some (.iconst 0, 1) := rfl
theorem pW_init_22 : alk tW_init 22 = some (.putfield 18, 3) := rfl
theorem pW_init_25 : alk tW_init 25 = some (.aload_n 0, 1) := rfl
theorem pW_init_26 : alk tW_init 26 = some (.iconst 0, 1) := rfl
theorem pW_init_27 : alk tW_init 27 = some (.putfield 22, 3) := rfl
theorem pW_init_30 : alk tW_init 30 = some (.return_, 1) := rfl
def tR_init : TB := [(0, .aload_n 0, 1), (1, .invokespecial 3, 3), (4, .aload_n 0, 1), (5, .bipush 14, 2), (7, .newarray .int, 2), (9, .putfield 9, 3), (12, .aload_n 0, 1), (13, .iconst 0, 1), (14, .putfield 15, 3), (17, .aload_n 0, 1), (18, .iconst 0, 1), (19, .putfield 19, 3), (22, .return_, 1)]
set_option maxRecDepth 100000 in
theorem kR_init : tbOk (mB mR_init) tR_init = true := by decide +kernel
theorem pR_init_0 : alk tR_init 0 = some (.aload_n 0, 1) := rfl
theorem pR_init_1 : alk tR_init 1 = some (.invokespecial 3, 3) := rfl
theorem pR_init_4 : alk tR_init 4 = some (.aload_n 0, 1) := rfl
theorem pR_init_5 : alk tR_init 5 = some (.bipush 14, 2) := rfl
theorem pR_init_7 : alk tR_init 7 = some (.newarray .int, 2) := rfl
theorem pR_init_9 : alk tR_init 9 = some (.putfield 9, 3) := rfl
theorem pR_init_12 : alk tR_init 12 = some (.aload_n 0, 1) := rfl
theorem pR_init_13 : alk tR_init 13 = some (.iconst 0, 1) := rfl
theorem pR_init_14 : alk tR_init 14 = some (.putfield 15, 3) := rfl
theorem pR_init_17 : alk tR_init 17 = some (.aload_n 0, 1) := rfl
theorem pR_init_18 : alk tR_init 18 = some (.iconst 0, 1) := rfl
theorem pR_init_19 : alk tR_init 19 = some (.putfield 19, 3) := rfl
theorem pR_init_22 : alk tR_init 22 = some (.return_, 1) := rfl
def tS_place : TB := [(0, .iload_n 1, 1), (1, .iconst 0, 1), (2, .iconst 3, 1), (3, .invokestatic 75, 3), (6, .ifCond .ne 10, 3), (9, .aload_n 0, 1), (10, .bipush (-7), 2), (12, .invokevirtual 79, 3), (15, .ireturn, 1), (16, .aload_n 0, 1), (17, .getfield 12, 3), (20, .getfield 83, 3), (23, .bipush 14, 2), (25, .if_icmp .lt 10, 3), (28, .aload_n 0, 1), (29, .bipush (-8), 2), (31, .invokevirtual 79, 3), (34, .ireturn, 1), (35, .aload_n 0, 1), (36, .getfield 12, 3), (39, .iload_n 1, 1), (40, .invokevirtual 86, 3), (43, .ireturn, 1)]
set_option maxRecDepth 100000 in
theorem kS_place : tbOk (mB mS_place) tS_place = true := by decide +kernel
theorem pS_place_0 : alk tS_place 0 = some (.iload_n 1, 1) := rfl
theorem pS_place_1 : alk tS_place 1 = some (.iconst 0, 1) := rfl
theorem pS_place_2 : alk tS_place 2 = some (.iconst 3, 1) := rfl
theorem pS_place_3 : alk tS_place 3 = some (.invokestatic 75, 3) := rfl
theorem pS_place_6 : alk tS_place 6 = some (.ifCond .ne 10, 3) := rfl
theorem pS_place_9 : alk tS_place 9 = some (.aload_n 0, 1) := rfl
theorem pS_place_10 : alk tS_place 10 = some (.bipush (-7), 2) := rfl
theorem pS_place_12 : alk tS_place 12 = some (.invokevirtual 79, 3) := rfl
theorem pS_place_15 : alk tS_place 15 = some (.ireturn, 1) := rfl
theorem pS_place_16 : alk tS_place 16 = some (.aload_n 0, 1) := rfl
theorem pS_place_17 : alk tS_place 17 = some (.getfield 12, 3) := rfl
theorem pS_place_20 : alk tS_place 20 = some (.getfield 83, 3) := rfl
theorem pS_place_23 : alk tS_place 23 = some (.bipush 14, 2) := rfl
theorem pS_place_25 : alk tS_place 25 = some (.if_icmp .lt 10, 3) := rfl
theorem pS_place_28 : alk tS_place 28 = some (.aload_n 0, 1) := rfl
theorem pS_place_29 : alk tS_place 29 = some (.bipush (-8), 2) := rfl
theorem pS_place_31 : alk tS_place 31 = some (.invokevirtual 79, 3) := rfl
theorem pS_place_34 : alk tS_place 34 = some (.ireturn, 1) := rfl
theorem pS_place_35 : alk tS_place 35 = some (.aload_n 0, 1) := rfl
theorem pS_place_36 : alk tS_place 36 = some (.getfield 12, 3) := rfl
theorem pS_place_39 : alk tS_place 39 = some (.iload_n 1, 1) := rfl
theorem pS_place_40 : alk tS_place 40 = some (.invokevirtual 86, 3) := rfl
theorem pS_place_43 : alk tS_place 43 = some (.ireturn, 1) := rfl
def tS_within : TB := [(0, .iload_n 0, 1), (1, .iload_n 1, 1), (2, .if_icmp .lt 12, 3), (5, .iload_n 0, 1), (6, .iload_n 2, 1), (7, .if_icmp .gt 7, 3), (10, .iconst 1, 1), (11, .goto 4, 3), (14, .iconst 0, 1), (15, .ireturn, 1)]
set_option maxRecDepth 100000 in
theorem kS_within : tbOk (mB mS_within) tS_within = true := by decide +kernel
theorem pS_within_0 : alk tS_within 0 = some (.iload_n 0, 1) := rfl
theorem pS_within_1 : alk tS_within 1 = some (.iload_n 1, 1) := rfl
theorem pS_within_2 : alk tS_within 2 = some (.if_icmp .lt 12, 3) := rfl
theorem pS_within_5 : alk tS_within 5 = some (.iload_n 0, 1) := rfl
theorem pS_within_6 : alk tS_within 6 = some (.iload_n 2, 1) := rfl
theorem pS_within_7 : alk tS_within 7 = some (.if_icmp .gt 7, 3) := rfl
theorem pS_within_10 : alk tS_within 10 = some (.iconst 1, 1) := rfl
theorem pS_within_11 : alk tS_within 11 = some (.goto 4, 3) := rfl
theorem pS_within_14 : alk tS_within 14 = some (.iconst 0, 1) := rfl
theorem pS_within_15 : alk tS_within 15 = some (.ireturn, 1) := rfl
def tS_refuse : TB := [(0, .iload_n 1, 1), (1, .bipush (-8), 2), (3, .bipush (-2), 2), (5, .invokestatic 75, 3), (8, .ifCond .eq 14, 3), (11, .aload_n 0, 1), (12, .getfield 67, 3), (15, .iload_n 1, 1), (16, .ineg, 1), (17, .dup2, 1), (18, .iaload, 1), (19, .iconst 1, 1), (20, .iadd, 1), (21, .iastore, 1), (22, .iload_n 1, 1), (23, .ireturn, 1)]
set_option maxRecDepth 100000 in
theorem kS_refuse : tbOk (mB mS_refuse) tS_refuse = true := by decide +kernel
theorem pS_refuse_0 : alk tS_refuse 0 = some (.iload_n 1, 1) := rfl
theorem pS_refuse_1 : alk tS_refuse 1 = some (.bipush (-8), 2) := rfl
theorem pS_refuse_3 : alk tS_refuse 3 = some (.bipush (-2), 2) := rfl
theorem pS_refuse_5 : alk tS_refuse 5 = some (.invokestatic 75, 3) := rfl
theorem pS_refuse_8 : alk tS_refuse 8 = some (.ifCond .eq 14, 3) := rfl
theorem pS_refuse_11 : alk tS_refuse 11 = some (.aload_n 0, 1) := rfl
theorem pS_refuse_12 : alk tS_refuse 12 = some (.getfield 67, 3) := rfl
theorem pS_refuse_15 : alk tS_refuse 15 = some (.iload_n 1, 1) := rfl
theorem pS_refuse_16 : alk tS_refuse 16 = some (.ineg, 1) := rfl
theorem pS_refuse_17 : alk tS_refuse 17 = some (.dup2, 1) := rfl
theorem pS_refuse_18 : alk tS_refuse 18 = some (.iaload, 1) := rfl
theorem pS_refuse_19 : alk tS_refuse 19 = some (.iconst 1, 1) := rfl
theorem pS_refuse_20 : alk tS_refuse 20 = some (.iadd, 1) := rfl
theorem pS_refuse_21 : alk tS_refuse 21 = some (.iastore, 1) := rfl
theorem pS_refuse_22 : alk tS_refuse 22 = some (.iload_n 1, 1) := rfl
theorem pS_refuse_23 : alk tS_refuse 23 = some (.ireturn, 1) := rfl
def tY_addPlace : TB := [(0, .aload_n 0, 1), (1, .getfield 30, 3), (4, .bipush 14, 2), (6, .if_icmp .lt 6, 3), (9, .bipush (-8), 2), (11, .ireturn, 1), (12, .aload_n 0, 1), (13, .getfield 30, 3), (16, .istore_n 2, 1), (17, .aload_n 0, 1), (18, .getfield 18, 3), (21, .iload_n 2, 1), (22, .iload_n 1, 1), (23, .iastore, 1), (24, .iconst 0, 1), (25, .istore_n 3, 1), (26, .iload_n 3, 1), (27, .iload_n 2, 1), (28, .if_icmp .ge 29, 3), (31, .aload_n 0, 1), (32, .getfield 27, 3), (35, .iload_n 2, 1), (36, .aaload, 1), (37, .iload_n 3, 1), (38, .ldc 38, 2), (40, .iastore, 1), (41, .aload_n 0, 1), (42, .getfield 27, 3), (45, .iload_n 3, 1), (46, .aaload, 1), (47, .iload_n 2, 1), (48, .ldc 38, 2), (50, .iastore, 1), (51, .iinc 3 1, 3), (54, .goto (-28), 3), (57, .aload_n 0, 1), (58, .dup, 1), (59, .getfield 30, 3), (62, .iconst 1, 1), (63, .iadd, 1), (64, .putfield 30, 3), (67, .iload_n 2, 1), (68, .ireturn, 1)]
set_option maxRecDepth 100000 in
theorem kY_addPlace : tbOk (mB mY_addPlace) tY_addPlace = true := by decide +kernel
theorem pY_addPlace_0 : alk tY_addPlace 0 = some (.aload_n 0, 1) := rfl
theorem pY_addPlace_1 : alk tY_addPlace 1 = some (.getfield 30, 3) := rfl
theorem pY_addPlace_4 : alk tY_addPlace 4 = some (.bipush 14, 2) := rfl
theorem pY_addPlace_6 : alk tY_addPlace 6 = some (.if_icmp .lt 6, 3) := rfl
theorem pY_addPlace_9 : alk tY_addPlace 9 = some (.bipush (-8), 2) := rfl
theorem pY_addPlace_11 : alk tY_addPlace 11 = some (.ireturn, 1) := rfl
theorem pY_addPlace_12 : alk tY_addPlace 12 = some (.aload_n 0, 1) := rfl
theorem pY_addPlace_13 : alk tY_addPlace 13 = some (.getfield 30, 3) := rfl
theorem pY_addPlace_16 : alk tY_addPlace 16 = some (.istore_n 2, 1) := rfl
theorem pY_addPlace_17 : alk tY_addPlace 17 = some (.aload_n 0, 1) := rfl
theorem pY_addPlace_18 : alk tY_addPlace 18 = some (.getfield 18, 3) := rfl
theorem pY_addPlace_21 : alk tY_addPlace 21 = some (.iload_n 2, 1) := rfl
theorem pY_addPlace_22 : alk tY_addPlace 22 = some (.iload_n 1, 1) := rfl
theorem pY_addPlace_23 : alk tY_addPlace 23 = some (.iastore, 1) := rfl
theorem pY_addPlace_24 : alk tY_addPlace 24 = some (.iconst 0, 1) := rfl
theorem pY_addPlace_25 : alk tY_addPlace 25 = some (.istore_n 3, 1) := rfl
theorem pY_addPlace_26 : alk tY_addPlace 26 = some (.iload_n 3, 1) := rfl
theorem pY_addPlace_27 : alk tY_addPlace 27 = some (.iload_n 2, 1) := rfl
theorem pY_addPlace_28 : alk tY_addPlace 28 = some (.if_icmp .ge 29, 3) := rfl
theorem pY_addPlace_31 : alk tY_addPlace 31 = some (.aload_n 0, 1) := rfl
theorem pY_addPlace_32 : alk tY_addPlace 32 = some (.getfield 27, 3) := rfl
theorem pY_addPlace_35 : alk tY_addPlace 35 = some (.iload_n 2, 1) := rfl
theorem pY_addPlace_36 : alk tY_addPlace 36 = some (.aaload, 1) := rfl
theorem pY_addPlace_37 : alk tY_addPlace 37 = some (.iload_n 3, 1) := rfl
theorem pY_addPlace_38 : alk tY_addPlace 38 = some (.ldc 38, 2) := rfl
theorem pY_addPlace_40 : alk tY_addPlace 40 = some (.iastore, 1) := rfl
theorem pY_addPlace_41 : alk tY_addPlace 41 = some (.aload_n 0, 1) := rfl
theorem pY_addPlace_42 : alk tY_addPlace 42 = some (.getfield 27, 3) := rfl
theorem pY_addPlace_45 : alk tY_addPlace 45 = some (.iload_n 3, 1) := rfl
theorem pY_addPlace_46 : alk tY_addPlace 46 = some (.aaload, 1) := rfl
theorem pY_addPlace_47 : alk tY_addPlace 47 = some (.iload_n 2, 1) := rfl
theorem pY_addPlace_48 : alk tY_addPlace 48 = some (.ldc 38, 2) := rfl
theorem pY_addPlace_50 : alk tY_addPlace 50 = some (.iastore, 1) := rfl
theorem pY_addPlace_51 : alk tY_addPlace 51 = some (.iinc 3 1, 3) := rfl
theorem pY_addPlace_54 : alk tY_addPlace 54 = some (.goto (-28), 3) := rfl
theorem pY_addPlace_57 : alk tY_addPlace 57 = some (.aload_n 0, 1) := rfl
theorem pY_addPlace_58 : alk tY_addPlace 58 = some (.dup, 1) := rfl
theorem pY_addPlace_59 : alk tY_addPlace 59 = some (.getfield 30, 3) := rfl
theorem pY_addPlace_62 : alk tY_addPlace 62 = some (.iconst 1, 1) := rfl
theorem pY_addPlace_63 : alk tY_addPlace 63 = some (.iadd, 1) := rfl
theorem pY_addPlace_64 : alk tY_addPlace 64 = some (.putfield 30, 3) := rfl
theorem pY_addPlace_67 : alk tY_addPlace 67 = some (.iload_n 2, 1) := rfl
theorem pY_addPlace_68 : alk tY_addPlace 68 = some (.ireturn, 1) := rfl
def tS_alley : TB := [(0, .aload_n 0, 1), (1, .getfield 12, 3), (4, .iload_n 1, 1), (5, .invokevirtual 89, 3), (8, .ifCond .eq 14, 3), (11, .aload_n 0, 1), (12, .getfield 12, 3), (15, .iload_n 2, 1), (16, .invokevirtual 89, 3), (19, .ifCond .ne 10, 3), (22, .aload_n 0, 1), (23, .bipush (-3), 2), (25, .invokevirtual 79, 3), (28, .ireturn, 1), (29, .iload_n 1, 1), (30, .iload_n 2, 1), (31, .if_icmp .eq 13, 3), (34, .iload_n 3, 1), (35, .iconst 1, 1), (36, .bipush 30, 2), (38, .invokestatic 75, 3), (41, .ifCond .ne 10, 3), (44, .aload_n 0, 1), (45, .bipush (-7), 2), (47, .invokevirtual 79, 3), (50, .ireturn, 1), (51, .aload_n 0, 1), (52, .getfield 12, 3), (55, .getfield 93, 3), (58, .invokevirtual 96, 3), (61, .bipush 20, 2), (63, .if_icmp .lt 10, 3), (66, .aload_n 0, 1), (67, .bipush (-8), 2), (69, .invokevirtual 79, 3), (72, .ireturn, 1), (73, .aload_n 0, 1), (74, .getfield 12, 3), (77, .iload_n 1, 1), (78, .iload_n 2, 1), (79, .iload_n 3, 1), (80, .invokevirtual 100, 3), (83, .ireturn, 1)]
set_option maxRecDepth 100000 in
theorem kS_alley : tbOk (mB mS_alley) tS_alley = true := by decide +kernel
theorem pS_alley_0 : alk tS_alley 0 = some (.aload_n 0, 1) := rfl
theorem pS_alley_1 : alk tS_alley 1 = some (.getfield 12, 3) := rfl
theorem pS_alley_4 : alk tS_alley 4 = some (.iload_n 1, 1) := rfl
theorem pS_alley_5 : alk tS_alley 5 = some (.invokevirtual 89, 3) := rfl
theorem pS_alley_8 : alk tS_alley 8 = some (.ifCond .eq 14, 3) := rfl
theorem pS_alley_11 : alk tS_alley 11 = some (.aload_n 0, 1) := rfl
theorem pS_alley_12 : alk tS_alley 12 = some (.getfield 12, 3) := rfl
theorem pS_alley_15 : alk tS_alley 15 = some (.iload_n 2, 1) := rfl
theorem pS_alley_16 : alk tS_alley 16 = some (.invokevirtual 89, 3) := rfl
theorem pS_alley_19 : alk tS_alley 19 = some (.ifCond .ne 10, 3) := rfl
theorem pS_alley_22 : alk tS_alley 22 = some (.aload_n 0, 1) := rfl
theorem pS_alley_23 : alk tS_alley 23 = some (.bipush (-3), 2) := rfl
theorem pS_alley_25 : alk tS_alley 25 = some (.invokevirtual 79, 3) := rfl
theorem pS_alley_28 : alk tS_alley 28 = some (.ireturn, 1) := rfl
theorem pS_alley_29 : alk tS_alley 29 = some (.iload_n 1, 1) := rfl
theorem pS_alley_30 : alk tS_alley 30 = some (.iload_n 2, 1) := rfl
theorem pS_alley_31 : alk tS_alley 31 = some (.if_icmp .eq 13, 3) := rfl
theorem pS_alley_34 : alk tS_alley 34 = some (.iload_n 3, 1) := rfl
theorem pS_alley_35 : alk tS_alley 35 = some (.iconst 1, 1) := rfl
theorem pS_alley_36 : alk tS_alley 36 = some (.bipush 30, 2) := rfl
theorem pS_alley_38 : alk tS_alley 38 = some (.invokestatic 75, 3) := rfl
theorem pS_alley_41 : alk tS_alley 41 = some (.ifCond .ne 10, 3) := rfl
theorem pS_alley_44 : alk tS_alley 44 = some (.aload_n 0, 1) := rfl
theorem pS_alley_45 : alk tS_alley 45 = some (.bipush (-7), 2) := rfl
theorem pS_alley_47 : alk tS_alley 47 = some (.invokevirtual 79, 3) := rfl
theorem pS_alley_50 : alk tS_alley 50 = some (.ireturn, 1) := rfl
theorem pS_alley_51 : alk tS_alley 51 = some (.aload_n 0, 1) := rfl
theorem pS_alley_52 : alk tS_alley 52 = some (.getfield 12, 3) := rfl
theorem pS_alley_55 : alk tS_alley 55 = some (.getfield 93, 3) := rfl
theorem pS_alley_58 : alk tS_alley 58 = some (.invokevirtual 96, 3) := rfl
theorem pS_alley_61 : alk tS_alley 61 = some (.bipush 20, 2) := rfl
theorem pS_alley_63 : alk tS_alley 63 = some (.if_icmp .lt 10, 3) := rfl
theorem pS_alley_66 : alk tS_alley 66 = some (.aload_n 0, 1) := rfl
theorem pS_alley_67 : alk tS_alley 67 = some (.bipush (-8), 2) := rfl
theorem pS_alley_69 : alk tS_alley 69 = some (.invokevirtual 79, 3) := rfl
theorem pS_alley_72 : alk tS_alley 72 = some (.ireturn, 1) := rfl
theorem pS_alley_73 : alk tS_alley 73 = some (.aload_n 0, 1) := rfl
theorem pS_alley_74 : alk tS_alley 74 = some (.getfield 12, 3) := rfl
theorem pS_alley_77 : alk tS_alley 77 = some (.iload_n 1, 1) := rfl
theorem pS_alley_78 : alk tS_alley 78 = some (.iload_n 2, 1) := rfl
theorem pS_alley_79 : alk tS_alley 79 = some (.iload_n 3, 1) := rfl
theorem pS_alley_80 : alk tS_alley 80 = some (.invokevirtual 100, 3) := rfl
theorem pS_alley_83 : alk tS_alley 83 = some (.ireturn, 1) := rfl
def tY_hasPlace : TB := [(0, .iload_n 1, 1), (1, .ifCond .lt 15, 3), (4, .iload_n 1, 1), (5, .aload_n 0, 1), (6, .getfield 30, 3), (9, .if_icmp .ge 7, 3), (12, .iconst 1, 1), (13, .goto 4, 3), (16, .iconst 0, 1), (17, .ireturn, 1)]
set_option maxRecDepth 100000 in
theorem kY_hasPlace : tbOk (mB mY_hasPlace) tY_hasPlace = true := by decide +kernel
theorem pY_hasPlace_0 : alk tY_hasPlace 0 = some (.iload_n 1, 1) := rfl
theorem pY_hasPlace_1 : alk tY_hasPlace 1 = some (.ifCond .lt 15, 3) := rfl
theorem pY_hasPlace_4 : alk tY_hasPlace 4 = some (.iload_n 1, 1) := rfl
theorem pY_hasPlace_5 : alk tY_hasPlace 5 = some (.aload_n 0, 1) := rfl
theorem pY_hasPlace_6 : alk tY_hasPlace 6 = some (.getfield 30, 3) := rfl
theorem pY_hasPlace_9 : alk tY_hasPlace 9 = some (.if_icmp .ge 7, 3) := rfl
theorem pY_hasPlace_12 : alk tY_hasPlace 12 = some (.iconst 1, 1) := rfl
theorem pY_hasPlace_13 : alk tY_hasPlace 13 = some (.goto 4, 3) := rfl
theorem pY_hasPlace_16 : alk tY_hasPlace 16 = some (.iconst 0, 1) := rfl
theorem pY_hasPlace_17 : alk tY_hasPlace 17 = some (.ireturn, 1) := rfl
def tY_addAlley : TB := [(0, .aload_n 0, 1), (1, .getfield 12, 3), (4, .new 39, 3), (7, .dup, 1), (8, .iload_n 1, 1), (9, .iload_n 2, 1), (10, .iload_n 3, 1), (11, .invokespecial 41, 3), (14, .invokevirtual 44, 3), (17, .pop, 1), (18, .iconst 0, 1), (19, .istore 4, 2), (21, .iload 4, 2), (23, .aload_n 0, 1), (24, .getfield 30, 3), (27, .if_icmp .ge 95, 3), (30, .iconst 0, 1), (31, .istore 5, 2), (33, .iload 5, 2), (35, .aload_n 0, 1), (36, .getfield 30, 3), (39, .if_icmp .ge 77, 3), (42, .aload_n 0, 1), (43, .iload 4, 2), (45, .iload_n 1, 1), (46, .invokevirtual 48, 3), (49, .iload_n 3, 1), (50, .iadd, 1), (51, .aload_n 0, 1), (52, .iload_n 2, 1), (53, .iload 5, 2), (55, .invokevirtual 48, 3), (58, .iadd, 1), (59, .istore 6, 2), (61, .aload_n 0, 1), (62, .iload 4, 2), (64, .iload_n 2, 1), (65, .invokevirtual 48, 3), (68, .iload_n 3, 1), (69, .iadd, 1), (70, .aload_n 0, 1), (71, .iload_n 1, 1), (72, .iload 5, 2), (74, .invokevirtual 48, 3), (77, .iadd, 1), (78, .istore 7, 2), (80, .aload_n 0, 1), (81, .getfield 27, 3), (84, .iload 4, 2), (86, .aaload, 1), (87, .iload 5, 2), (89, .aload_n 0, 1), (90, .getfield 27, 3), (93, .iload 4, 2), (95, .aaload, 1), (96, .iload 5, 2), (98, .iaload, 1), (99, .iload 6, 2), (101, .iload 7, 2), (103, .invokestatic 52, 3), (106, .invokestatic 52, 3), (109, .iastore, 1), (110, .iinc 5 1, 3), (113, .goto (-80), 3), (116, .iinc 4 1, 3), (119, .goto (-98), 3), (122, .aload_n 0, 1), (123, .getfield 12, 3), (126, .invokevirtual 57, 3), (129, .iconst 1, 1), (130, .isub, 1), (131, .ireturn, 1)]
set_option maxRecDepth 100000 in
theorem kY_addAlley : tbOk (mB mY_addAlley) tY_addAlley = true := by decide +kernel
theorem pY_addAlley_0 : alk tY_addAlley 0 = some (.aload_n 0, 1) := rfl
theorem pY_addAlley_1 : alk tY_addAlley 1 = some (.getfield 12, 3) := rfl
theorem pY_addAlley_4 : alk tY_addAlley 4 = some (.new 39, 3) := rfl
theorem pY_addAlley_7 : alk tY_addAlley 7 = some (.dup, 1) := rfl
theorem pY_addAlley_8 : alk tY_addAlley 8 = some (.iload_n 1, 1) := rfl
theorem pY_addAlley_9 : alk tY_addAlley 9 = some (.iload_n 2, 1) := rfl
theorem pY_addAlley_10 : alk tY_addAlley 10 = some (.iload_n 3, 1) := rfl
theorem pY_addAlley_11 : alk tY_addAlley 11 = some (.invokespecial 41, 3) := rfl
theorem pY_addAlley_14 : alk tY_addAlley 14 = some (.invokevirtual 44, 3) := rfl
theorem pY_addAlley_17 : alk tY_addAlley 17 = some (.pop, 1) := rfl
theorem pY_addAlley_18 : alk tY_addAlley 18 = some (.iconst 0, 1) := rfl
theorem pY_addAlley_19 : alk tY_addAlley 19 = some (.istore 4, 2) := rfl
theorem pY_addAlley_21 : alk tY_addAlley 21 = some (.iload 4, 2) := rfl
theorem pY_addAlley_23 : alk tY_addAlley 23 = some (.aload_n 0, 1) := rfl
theorem pY_addAlley_24 : alk tY_addAlley 24 = some (.getfield 30, 3) := rfl
theorem pY_addAlley_27 : alk tY_addAlley 27 = some (.if_icmp .ge 95, 3) := rfl
theorem pY_addAlley_30 : alk tY_addAlley 30 = some (.iconst 0, 1) := rfl
theorem pY_addAlley_31 : alk tY_addAlley 31 = some (.istore 5, 2) := rfl
theorem pY_addAlley_33 : alk tY_addAlley 33 = some (.iload 5, 2) := rfl
theorem pY_addAlley_35 : alk tY_addAlley 35 = some (.aload_n 0, 1) := rfl
theorem pY_addAlley_36 : alk tY_addAlley 36 = some (.getfield 30, 3) := rfl
theorem pY_addAlley_39 : alk tY_addAlley 39 = some (.if_icmp .ge 77, 3) := rfl
theorem pY_addAlley_42 : alk tY_addAlley 42 = some (.aload_n 0, 1) := rfl
theorem pY_addAlley_43 : alk tY_addAlley 43 = some (.iload 4, 2) := rfl
theorem pY_addAlley_45 : alk tY_addAlley 45 = some (.iload_n 1, 1) := rfl
theorem pY_addAlley_46 : alk tY_addAlley 46 = some (.invokevirtual 48, 3) := rfl
theorem pY_addAlley_49 : alk tY_addAlley 49 = some (.iload_n 3, 1) := rfl
theorem pY_addAlley_50 : alk tY_addAlley 50 = some (.iadd, 1) := rfl
theorem pY_addAlley_51 : alk tY_addAlley 51 = some (.aload_n 0, 1) := rfl
theorem pY_addAlley_52 : alk tY_addAlley 52 = some (.iload_n 2, 1) := rfl
theorem pY_addAlley_53 : alk tY_addAlley 53 = some (.iload 5, 2) := rfl
theorem pY_addAlley_55 : alk tY_addAlley 55 = some (.invokevirtual 48, 3) := rfl
theorem pY_addAlley_58 : alk tY_addAlley 58 = some (.iadd, 1) := rfl
theorem pY_addAlley_59 : alk tY_addAlley 59 = some (.istore 6, 2) := rfl
theorem pY_addAlley_61 : alk tY_addAlley 61 = some (.aload_n 0, 1) := rfl
theorem pY_addAlley_62 : alk tY_addAlley 62 = some (.iload 4, 2) := rfl
theorem pY_addAlley_64 : alk tY_addAlley 64 = some (.iload_n 2, 1) := rfl
theorem pY_addAlley_65 : alk tY_addAlley 65 = some (.invokevirtual 48, 3) := rfl
theorem pY_addAlley_68 : alk tY_addAlley 68 = some (.iload_n 3, 1) := rfl
theorem pY_addAlley_69 : alk tY_addAlley 69 = some (.iadd, 1) := rfl
theorem pY_addAlley_70 : alk tY_addAlley 70 = some (.aload_n 0, 1) := rfl
theorem pY_addAlley_71 : alk tY_addAlley 71 = some (.iload_n 1, 1) := rfl
theorem pY_addAlley_72 : alk tY_addAlley 72 = some (.iload 5, 2) := rfl
theorem pY_addAlley_74 : alk tY_addAlley 74 = some (.invokevirtual 48, 3) := rfl
theorem pY_addAlley_77 : alk tY_addAlley 77 = some (.iadd, 1) := rfl
theorem pY_addAlley_78 : alk tY_addAlley 78 = some (.istore 7, 2) := rfl
theorem pY_addAlley_80 : alk tY_addAlley 80 = some (.aload_n 0, 1) := rfl
theorem pY_addAlley_81 : alk tY_addAlley 81 = some (.getfield 27, 3) := rfl
theorem pY_addAlley_84 : alk tY_addAlley 84 = some (.iload 4, 2) := rfl
theorem pY_addAlley_86 : alk tY_addAlley 86 = some (.aaload, 1) := rfl
theorem pY_addAlley_87 : alk tY_addAlley 87 = some (.iload 5, 2) := rfl
theorem pY_addAlley_89 : alk tY_addAlley 89 = some (.aload_n 0, 1) := rfl
theorem pY_addAlley_90 : alk tY_addAlley 90 = some (.getfield 27, 3) := rfl
theorem pY_addAlley_93 : alk tY_addAlley 93 = some (.iload 4, 2) := rfl
theorem pY_addAlley_95 : alk tY_addAlley 95 = some (.aaload, 1) := rfl
theorem pY_addAlley_96 : alk tY_addAlley 96 = some (.iload 5, 2) := rfl
theorem pY_addAlley_98 : alk tY_addAlley 98 = some (.iaload, 1) := rfl
theorem pY_addAlley_99 : alk tY_addAlley 99 = some (.iload 6, 2) := rfl
theorem pY_addAlley_101 : alk tY_addAlley 101 = some (.iload 7, 2) := rfl
theorem pY_addAlley_103 : alk tY_addAlley 103 = some (.invokestatic 52, 3) := rfl
theorem pY_addAlley_106 : alk tY_addAlley 106 = some (.invokestatic 52, 3) := rfl
set_option maxRecDepth 20000 in
theorem pY_addAlley_109 : alk tY_addAlley 109 = some (.iastore, 1) := rfl
set_option maxRecDepth 20000 in
theorem pY_addAlley_110 : alk tY_addAlley 110 = some (.iinc 5 1, 3) := rfl
set_option maxRecDepth 20000 in
theorem pY_addAlley_113 : alk tY_addAlley 113 = some (.goto (-80), 3) := rfl
set_option maxRecDepth 20000 in
theorem pY_addAlley_116 : alk tY_addAlley 116 = some (.iinc 4 1, 3) := rfl
set_option maxRecDepth 20000 in
theorem pY_addAlley_119 : alk tY_addAlley 119 = some (.goto (-98), 3) := rfl
set_option maxRecDepth 20000 in
theorem pY_addAlley_122 : alk tY_addAlley 122 = some (.aload_n 0, 1) := rfl
set_option maxRecDepth 20000 in
theorem pY_addAlley_123 : alk tY_addAlley 123 = some (.getfield 12, 3) := rfl
set_option maxRecDepth 20000 in
theorem pY_addAlley_126 : alk tY_addAlley 126 = some (.invokevirtual 57, 3) := rfl
set_option maxRecDepth 20000 in
theorem pY_addAlley_129 : alk tY_addAlley 129 = some (.iconst 1, 1) := rfl
set_option maxRecDepth 20000 in
theorem pY_addAlley_130 : alk tY_addAlley 130 = some (.isub, 1) := rfl
set_option maxRecDepth 20000 in
theorem pY_addAlley_131 : alk tY_addAlley 131 = some (.ireturn, 1) := rfl
def tA_init : TB := [(0, .aload_n 0, 1), (1, .invokespecial 3, 3), (4, .aload_n 0, 1), (5, .bipush 24, 2), (7, .newarray .int, 2), (9, .putfield 9, 3), (12, .aload_n 0, 1), (13, .iconst 0, 1), (14, .putfield 15, 3), (17, .aload_n 0, 1), (18, .iload_n 1, 1), (19, .putfield 19, 3), (22, .aload_n 0, 1), (23, .iload_n 2, 1), (24, .putfield 22, 3), (27, .aload_n 0, 1), (28, .iload_n 3, 1), (29, .putfield 25, 3), (32, .return_, 1)]
set_option maxRecDepth 100000 in
theorem kA_init : tbOk (mB mA_init) tA_init = true := by decide +kernel
theorem pA_init_0 : alk tA_init 0 = some (.aload_n 0, 1) := rfl
theorem pA_init_1 : alk tA_init 1 = some (.invokespecial 3, 3) := rfl
theorem pA_init_4 : alk tA_init 4 = some (.aload_n 0, 1) := rfl
theorem pA_init_5 : alk tA_init 5 = some (.bipush 24, 2) := rfl
theorem pA_init_7 : alk tA_init 7 = some (.newarray .int, 2) := rfl
theorem pA_init_9 : alk tA_init 9 = some (.putfield 9, 3) := rfl
theorem pA_init_12 : alk tA_init 12 = some (.aload_n 0, 1) := rfl
theorem pA_init_13 : alk tA_init 13 = some (.iconst 0, 1) := rfl
theorem pA_init_14 : alk tA_init 14 = some (.putfield 15, 3) := rfl
theorem pA_init_17 : alk tA_init 17 = some (.aload_n 0, 1) := rfl
theorem pA_init_18 : alk tA_init 18 = some (.iload_n 1, 1) := rfl
theorem pA_init_19 : alk tA_init 19 = some (.putfield 19, 3) := rfl
theorem pA_init_22 : alk tA_init 22 = some (.aload_n 0, 1) := rfl
theorem pA_init_23 : alk tA_init 23 = some (.iload_n 2, 1) := rfl
theorem pA_init_24 : alk tA_init 24 = some (.putfield 22, 3) := rfl
theorem pA_init_27 : alk tA_init 27 = some (.aload_n 0, 1) := rfl
theorem pA_init_28 : alk tA_init 28 = some (.iload_n 3, 1) := rfl
theorem pA_init_29 : alk tA_init 29 = some (.putfield 25, 3) := rfl
theorem pA_init_32 : alk tA_init 32 = some (.return_, 1) := rfl
def tY_minutesBetween : TB := [(0, .aload_n 0, 1), (1, .iload_n 1, 1), (2, .invokevirtual 34, 3), (5, .ifCond .eq 22, 3), (8, .aload_n 0, 1), (9, .iload_n 2, 1), (10, .invokevirtual 34, 3), (13, .ifCond .eq 14, 3), (16, .aload_n 0, 1), (17, .getfield 27, 3), (20, .iload_n 1, 1), (21, .aaload, 1), (22, .iload_n 2, 1), (23, .iaload, 1), (24, .goto 5, 3), (27, .ldc 38, 2), (29, .ireturn, 1)]
set_option maxRecDepth 100000 in
theorem kY_minutesBetween : tbOk (mB mY_minutesBetween) tY_minutesBetween = true := by decide +kernel
theorem pY_minutesBetween_0 : alk tY_minutesBetween 0 = some (.aload_n 0, 1) := rfl
theorem pY_minutesBetween_1 : alk tY_minutesBetween 1 = some (.iload_n 1, 1) := rfl
theorem pY_minutesBetween_2 : alk tY_minutesBetween 2 = some (.invokevirtual 34, 3) := rfl
theorem pY_minutesBetween_5 : alk tY_minutesBetween 5 = some (.ifCond .eq 22, 3) := rfl
theorem pY_minutesBetween_8 : alk tY_minutesBetween 8 = some (.aload_n 0, 1) := rfl
theorem pY_minutesBetween_9 : alk tY_minutesBetween 9 = some (.iload_n 2, 1) := rfl
theorem pY_minutesBetween_10 : alk tY_minutesBetween 10 = some (.invokevirtual 34, 3) := rfl
theorem pY_minutesBetween_13 : alk tY_minutesBetween 13 = some (.ifCond .eq 14, 3) := rfl
theorem pY_minutesBetween_16 : alk tY_minutesBetween 16 = some (.aload_n 0, 1) := rfl
theorem pY_minutesBetween_17 : alk tY_minutesBetween 17 = some (.getfield 27, 3) := rfl
theorem pY_minutesBetween_20 : alk tY_minutesBetween 20 = some (.iload_n 1, 1) := rfl
theorem pY_minutesBetween_21 : alk tY_minutesBetween 21 = some (.aaload, 1) := rfl
theorem pY_minutesBetween_22 : alk tY_minutesBetween 22 = some (.iload_n 2, 1) := rfl
theorem pY_minutesBetween_23 : alk tY_minutesBetween 23 = some (.iaload, 1) := rfl
theorem pY_minutesBetween_24 : alk tY_minutesBetween 24 = some (.goto 5, 3) := rfl
theorem pY_minutesBetween_27 : alk tY_minutesBetween 27 = some (.ldc 38, 2) := rfl
theorem pY_minutesBetween_29 : alk tY_minutesBetween 29 = some (.ireturn, 1) := rfl
def tS_way : TB := [(0, .aload_n 0, 1), (1, .getfield 12, 3), (4, .iload_n 1, 1), (5, .invokevirtual 89, 3), (8, .ifCond .eq 14, 3), (11, .aload_n 0, 1), (12, .getfield 12, 3), (15, .iload_n 2, 1), (16, .invokevirtual 89, 3), (19, .ifCond .ne 10, 3), (22, .aload_n 0, 1), (23, .bipush (-3), 2), (25, .invokevirtual 79, 3), (28, .ireturn, 1), (29, .aload_n 0, 1), (30, .getfield 12, 3), (33, .iload_n 1, 1), (34, .iload_n 2, 1), (35, .aload_n 0, 1), (36, .getfield 63, 3), (39, .invokevirtual 104, 3), (42, .ifCond .eq 13, 3), (45, .aload_n 0, 1), (46, .getfield 63, 3), (49, .getfield 108, 3), (52, .goto 4, 3), (55, .iconst (-1), 1), (56, .ireturn, 1)]
set_option maxRecDepth 100000 in
theorem kS_way : tbOk (mB mS_way) tS_way = true := by decide +kernel
theorem pS_way_0 : alk tS_way 0 = some (.aload_n 0, 1) := rfl
theorem pS_way_1 : alk tS_way 1 = some (.getfield 12, 3) := rfl
theorem pS_way_4 : alk tS_way 4 = some (.iload_n 1, 1) := rfl
theorem pS_way_5 : alk tS_way 5 = some (.invokevirtual 89, 3) := rfl
theorem pS_way_8 : alk tS_way 8 = some (.ifCond .eq 14, 3) := rfl
theorem pS_way_11 : alk tS_way 11 = some (.aload_n 0, 1) := rfl
theorem pS_way_12 : alk tS_way 12 = some (.getfield 12, 3) := rfl
theorem pS_way_15 : alk tS_way 15 = some (.iload_n 2, 1) := rfl
theorem pS_way_16 : alk tS_way 16 = some (.invokevirtual 89, 3) := rfl
theorem pS_way_19 : alk tS_way 19 = some (.ifCond .ne 10, 3) := rfl
theorem pS_way_22 : alk tS_way 22 = some (.aload_n 0, 1) := rfl
theorem pS_way_23 : alk tS_way 23 = some (.bipush (-3), 2) := rfl
theorem pS_way_25 : alk tS_way 25 = some (.invokevirtual 79, 3) := rfl
theorem pS_way_28 : alk tS_way 28 = some (.ireturn, 1) := rfl
theorem pS_way_29 : alk tS_way 29 = some (.aload_n 0, 1) := rfl
theorem pS_way_30 : alk tS_way 30 = some (.getfield 12, 3) := rfl
theorem pS_way_33 : alk tS_way 33 = some (.iload_n 1, 1) := rfl
theorem pS_way_34 : alk tS_way 34 = some (.iload_n 2, 1) := rfl
theorem pS_way_35 : alk tS_way 35 = some (.aload_n 0, 1) := rfl
theorem pS_way_36 : alk tS_way 36 = some (.getfield 63, 3) := rfl
theorem pS_way_39 : alk tS_way 39 = some (.invokevirtual 104, 3) := rfl
theorem pS_way_42 : alk tS_way 42 = some (.ifCond .eq 13, 3) := rfl
theorem pS_way_45 : alk tS_way 45 = some (.aload_n 0, 1) := rfl
theorem pS_way_46 : alk tS_way 46 = some (.getfield 63, 3) := rfl
theorem pS_way_49 : alk tS_way 49 = some (.getfield 108, 3) := rfl
theorem pS_way_52 : alk tS_way 52 = some (.goto 4, 3) := rfl
theorem pS_way_55 : alk tS_way 55 = some (.iconst (-1), 1) := rfl
theorem pS_way_56 : alk tS_way 56 = some (.ireturn, 1) := rfl
def tY_find : TB := [(0, .aload_n 3, 1), (1, .invokevirtual 61, 3), (4, .aload_n 0, 1), (5, .iload_n 1, 1), (6, .iload_n 2, 1), (7, .invokevirtual 48, 3), (10, .ldc 38, 2), (12, .if_icmp .lt 5, 3), (15, .iconst 0, 1), (16, .ireturn, 1), (17, .iload_n 1, 1), (18, .istore 4, 2), (20, .iconst 0, 1), (21, .istore 5, 2), (23, .iload 5, 2), (25, .bipush 13, 2), (27, .if_icmp .ge 72, 3), (30, .iload 4, 2), (32, .iload_n 2, 1), (33, .if_icmp .eq 66, 3), (36, .aload_n 0, 1), (37, .iload 4, 2), (39, .iload_n 2, 1), (40, .invokevirtual 66, 3), (43, .istore 6, 2), (45, .iload 6, 2), (47, .iconst (-1), 1), (48, .if_icmp .ne 5, 3), (51, .iconst 0, 1), (52, .ireturn, 1), (53, .aload_n 3, 1), (54, .iload 6, 2), (56, .aload_n 0, 1), (57, .getfield 12, 3), (60, .iload 6, 2), (62, .invokevirtual 69, 3), (65, .checkcast 39, 3), (68, .getfield 73, 3), (71, .invokevirtual 75, 3), (74, .aload_n 0, 1), (75, .getfield 12, 3), (78, .iload 6, 2), (80, .invokevirtual 69, 3), (83, .checkcast 39, 3), (86, .iload 4, 2), (88, .invokevirtual 78, 3), (91, .istore 4, 2), (93, .iinc 5 1, 3), (96, .goto (-73), 3), (99, .iload 4, 2), (101, .iload_n 2, 1), (102, .if_icmp .ne 7, 3), (105, .iconst 1, 1), (106, .goto 4, 3), (109, .iconst 0, 1), (110, .ireturn, 1)]
set_option maxRecDepth 100000 in
theorem kY_find : tbOk (mB mY_find) tY_find = true := by decide +kernel
theorem pY_find_0 : alk tY_find 0 = some (.aload_n 3, 1) := rfl
theorem pY_find_1 : alk tY_find 1 = some (.invokevirtual 61, 3) := rfl
theorem pY_find_4 : alk tY_find 4 = some (.aload_n 0, 1) := rfl
theorem pY_find_5 : alk tY_find 5 = some (.iload_n 1, 1) := rfl
theorem pY_find_6 : alk tY_find 6 = some (.iload_n 2, 1) := rfl
theorem pY_find_7 : alk tY_find 7 = some (.invokevirtual 48, 3) := rfl
theorem pY_find_10 : alk tY_find 10 = some (.ldc 38, 2) := rfl
theorem pY_find_12 : alk tY_find 12 = some (.if_icmp .lt 5, 3) := rfl
theorem pY_find_15 : alk tY_find 15 = some (.iconst 0, 1) := rfl
theorem pY_find_16 : alk tY_find 16 = some (.ireturn, 1) := rfl
theorem pY_find_17 : alk tY_find 17 = some (.iload_n 1, 1) := rfl
theorem pY_find_18 : alk tY_find 18 = some (.istore 4, 2) := rfl
theorem pY_find_20 : alk tY_find 20 = some (.iconst 0, 1) := rfl
theorem pY_find_21 : alk tY_find 21 = some (.istore 5, 2) := rfl
theorem pY_find_23 : alk tY_find 23 = some (.iload 5, 2) := rfl
theorem pY_find_25 : alk tY_find 25 = some (.bipush 13, 2) := rfl
theorem pY_find_27 : alk tY_find 27 = some (.if_icmp .ge 72, 3) := rfl
theorem pY_find_30 : alk tY_find 30 = some (.iload 4, 2) := rfl
theorem pY_find_32 : alk tY_find 32 = some (.iload_n 2, 1) := rfl
theorem pY_find_33 : alk tY_find 33 = some (.if_icmp .eq 66, 3) := rfl
theorem pY_find_36 : alk tY_find 36 = some (.aload_n 0, 1) := rfl
theorem pY_find_37 : alk tY_find 37 = some (.iload 4, 2) := rfl
theorem pY_find_39 : alk tY_find 39 = some (.iload_n 2, 1) := rfl
theorem pY_find_40 : alk tY_find 40 = some (.invokevirtual 66, 3) := rfl
theorem pY_find_43 : alk tY_find 43 = some (.istore 6, 2) := rfl
theorem pY_find_45 : alk tY_find 45 = some (.iload 6, 2) := rfl
theorem pY_find_47 : alk tY_find 47 = some (.iconst (-1), 1) := rfl
theorem pY_find_48 : alk tY_find 48 = some (.if_icmp .ne 5, 3) := rfl
theorem pY_find_51 : alk tY_find 51 = some (.iconst 0, 1) := rfl
theorem pY_find_52 : alk tY_find 52 = some (.ireturn, 1) := rfl
theorem pY_find_53 : alk tY_find 53 = some (.aload_n 3, 1) := rfl
theorem pY_find_54 : alk tY_find 54 = some (.iload 6, 2) := rfl
theorem pY_find_56 : alk tY_find 56 = some (.aload_n 0, 1) := rfl
theorem pY_find_57 : alk tY_find 57 = some (.getfield 12, 3) := rfl
theorem pY_find_60 : alk tY_find 60 = some (.iload 6, 2) := rfl
theorem pY_find_62 : alk tY_find 62 = some (.invokevirtual 69, 3) := rfl
theorem pY_find_65 : alk tY_find 65 = some (.checkcast 39, 3) := rfl
theorem pY_find_68 : alk tY_find 68 = some (.getfield 73, 3) := rfl
theorem pY_find_71 : alk tY_find 71 = some (.invokevirtual 75, 3) := rfl
theorem pY_find_74 : alk tY_find 74 = some (.aload_n 0, 1) := rfl
theorem pY_find_75 : alk tY_find 75 = some (.getfield 12, 3) := rfl
theorem pY_find_78 : alk tY_find 78 = some (.iload 6, 2) := rfl
theorem pY_find_80 : alk tY_find 80 = some (.invokevirtual 69, 3) := rfl
theorem pY_find_83 : alk tY_find 83 = some (.checkcast 39, 3) := rfl
theorem pY_find_86 : alk tY_find 86 = some (.iload 4, 2) := rfl
theorem pY_find_88 : alk tY_find 88 = some (.invokevirtual 78, 3) := rfl
theorem pY_find_91 : alk tY_find 91 = some (.istore 4, 2) := rfl
theorem pY_find_93 : alk tY_find 93 = some (.iinc 5 1, 3) := rfl
theorem pY_find_96 : alk tY_find 96 = some (.goto (-73), 3) := rfl
theorem pY_find_99 : alk tY_find 99 = some (.iload 4, 2) := rfl
theorem pY_find_101 : alk tY_find 101 = some (.iload_n 2, 1) := rfl
theorem pY_find_102 : alk tY_find 102 = some (.if_icmp .ne 7, 3) := rfl
theorem pY_find_105 : alk tY_find 105 = some (.iconst 1, 1) := rfl
theorem pY_find_106 : alk tY_find 106 = some (.goto 4, 3) := rfl
theorem pY_find_109 : alk tY_find 109 = some (.iconst 0, 1) := rfl
theorem pY_find_110 : alk tY_find 110 = some (.ireturn, 1) := rfl
def tW_clear : TB := [(0, .aload_n 0, 1), (1, .iconst 0, 1), (2, .putfield 18, 3), (5, .aload_n 0, 1), (6, .iconst 0, 1), (7, .putfield 22, 3), (10, .return_, 1)]
set_option maxRecDepth 100000 in
theorem kW_clear : tbOk (mB mW_clear) tW_clear = true := by decide +kernel
theorem pW_clear_0 : alk tW_clear 0 = some (.aload_n 0, 1) := rfl
theorem pW_clear_1 : alk tW_clear 1 = some (.iconst 0, 1) := rfl
theorem pW_clear_2 : alk tW_clear 2 = some (.putfield 18, 3) := rfl
theorem pW_clear_5 : alk tW_clear 5 = some (.aload_n 0, 1) := rfl
theorem pW_clear_6 : alk tW_clear 6 = some (.iconst 0, 1) := rfl
theorem pW_clear_7 : alk tW_clear 7 = some (.putfield 22, 3) := rfl
theorem pW_clear_10 : alk tW_clear 10 = some (.return_, 1) := rfl
def tY_leastAlleyToward : TB := [(0, .aload_n 0, 1), (1, .iload_n 1, 1), (2, .iload_n 2, 1), (3, .invokevirtual 48, 3), (6, .istore_n 3, 1), (7, .iconst 0, 1), (8, .istore 4, 2), (10, .iload 4, 2), (12, .aload_n 0, 1), (13, .getfield 12, 3), (16, .invokevirtual 57, 3), (19, .if_icmp .ge 56, 3), (22, .aload_n 0, 1), (23, .getfield 12, 3), (26, .iload 4, 2), (28, .invokevirtual 69, 3), (31, .checkcast 39, 3), (34, .astore 5, 2), (36, .aload 5, 2), (38, .iload_n 1, 1), (39, .invokevirtual 82, 3), (42, .ifCond .eq 27, 3), (45, .aload 5, 2), (47, .getfield 73, 3), (50, .aload_n 0, 1), (51, .aload 5, 2), (53, .iload_n 1, 1), (54, .invokevirtual 78, 3), (57, .iload_n 2, 1), (58, .invokevirtual 48, 3), (61, .iadd, 1), (62, .iload_n 3, 1), (63, .if_icmp .ne 6, 3), (66, .iload 4, 2), (68, .ireturn, 1), (69, .iinc 4 1, 3), (72, .goto (-62), 3), (75, .iconst (-1), 1), (76, .ireturn, 1)]
set_option maxRecDepth 100000 in
theorem kY_leastAlleyToward : tbOk (mB mY_leastAlleyToward) tY_leastAlleyToward = true := by decide +kernel
theorem pY_leastAlleyToward_0 : alk tY_leastAlleyToward 0 = some (.aload_n 0, 1) := rfl
theorem pY_leastAlleyToward_1 : alk tY_leastAlleyToward 1 = some (.iload_n 1, 1) := rfl
theorem pY_leastAlleyToward_2 : alk tY_leastAlleyToward 2 = some (.iload_n 2, 1) := rfl
theorem pY_leastAlleyToward_3 : alk tY_leastAlleyToward 3 = some (.invokevirtual 48, 3) := rfl
theorem pY_leastAlleyToward_6 : alk tY_leastAlleyToward 6 = some (.istore_n 3, 1) := rfl
theorem pY_leastAlleyToward_7 : alk tY_leastAlleyToward 7 = some (.iconst 0, 1) := rfl
theorem pY_leastAlleyToward_8 : alk tY_leastAlleyToward 8 = some (.istore 4, 2) := rfl
theorem pY_leastAlleyToward_10 : alk tY_leastAlleyToward 10 = some (.iload 4, 2) := rfl
theorem pY_leastAlleyToward_12 : alk tY_leastAlleyToward 12 = some (.aload_n 0, 1) := rfl
theorem pY_leastAlleyToward_13 : alk tY_leastAlleyToward 13 = some (.getfield 12, 3) := rfl
theorem pY_leastAlleyToward_16 : alk tY_leastAlleyToward 16 = some (.invokevirtual 57, 3) := rfl
theorem pY_leastAlleyToward_19 : alk tY_leastAlleyToward 19 = some (.if_icmp .ge 56, 3) := rfl
theorem pY_leastAlleyToward_22 : alk tY_leastAlleyToward 22 = some (.aload_n 0, 1) := rfl
theorem pY_leastAlleyToward_23 : alk tY_leastAlleyToward 23 = some (.getfield 12, 3) := rfl
theorem pY_leastAlleyToward_26 : alk tY_leastAlleyToward 26 = some (.iload 4, 2) := rfl
theorem pY_leastAlleyToward_28 : alk tY_leastAlleyToward 28 = some (.invokevirtual 69, 3) := rfl
theorem pY_leastAlleyToward_31 : alk tY_leastAlleyToward 31 = some (.checkcast 39, 3) := rfl
theorem pY_leastAlleyToward_34 : alk tY_leastAlleyToward 34 = some (.astore 5, 2) := rfl
theorem pY_leastAlleyToward_36 : alk tY_leastAlleyToward 36 = some (.aload 5, 2) := rfl
theorem pY_leastAlleyToward_38 : alk tY_leastAlleyToward 38 = some (.iload_n 1, 1) := rfl
theorem pY_leastAlleyToward_39 : alk tY_leastAlleyToward 39 = some (.invokevirtual 82, 3) := rfl
theorem pY_leastAlleyToward_42 : alk tY_leastAlleyToward 42 = some (.ifCond .eq 27, 3) := rfl
theorem pY_leastAlleyToward_45 : alk tY_leastAlleyToward 45 = some (.aload 5, 2) := rfl
theorem pY_leastAlleyToward_47 : alk tY_leastAlleyToward 47 = some (.getfield 73, 3) := rfl
theorem pY_leastAlleyToward_50 : alk tY_leastAlleyToward 50 = some (.aload_n 0, 1) := rfl
theorem pY_leastAlleyToward_51 : alk tY_leastAlleyToward 51 = some (.aload 5, 2) := rfl
theorem pY_leastAlleyToward_53 : alk tY_leastAlleyToward 53 = some (.iload_n 1, 1) := rfl
theorem pY_leastAlleyToward_54 : alk tY_leastAlleyToward 54 = some (.invokevirtual 78, 3) := rfl
theorem pY_leastAlleyToward_57 : alk tY_leastAlleyToward 57 = some (.iload_n 2, 1) := rfl
theorem pY_leastAlleyToward_58 : alk tY_leastAlleyToward 58 = some (.invokevirtual 48, 3) := rfl
theorem pY_leastAlleyToward_61 : alk tY_leastAlleyToward 61 = some (.iadd, 1) := rfl
theorem pY_leastAlleyToward_62 : alk tY_leastAlleyToward 62 = some (.iload_n 3, 1) := rfl
theorem pY_leastAlleyToward_63 : alk tY_leastAlleyToward 63 = some (.if_icmp .ne 6, 3) := rfl
theorem pY_leastAlleyToward_66 : alk tY_leastAlleyToward 66 = some (.iload 4, 2) := rfl
theorem pY_leastAlleyToward_68 : alk tY_leastAlleyToward 68 = some (.ireturn, 1) := rfl
theorem pY_leastAlleyToward_69 : alk tY_leastAlleyToward 69 = some (.iinc 4 1, 3) := rfl
theorem pY_leastAlleyToward_72 : alk tY_leastAlleyToward 72 = some (.goto (-62), 3) := rfl
theorem pY_leastAlleyToward_75 : alk tY_leastAlleyToward 75 = some (.iconst (-1), 1) := rfl
theorem pY_leastAlleyToward_76 : alk tY_leastAlleyToward 76 = some (.ireturn, 1) := rfl
def tA_touches : TB := [(0, .aload_n 0, 1), (1, .getfield 19, 3), (4, .iload_n 1, 1), (5, .if_icmp .eq 11, 3), (8, .aload_n 0, 1), (9, .getfield 22, 3), (12, .iload_n 1, 1), (13, .if_icmp .ne 7, 3), (16, .iconst 1, 1), (17, .goto 4, 3), (20, .iconst 0, 1), (21, .ireturn, 1)]
set_option maxRecDepth 100000 in
theorem kA_touches : tbOk (mB mA_touches) tA_touches = true := by decide +kernel
theorem pA_touches_0 : alk tA_touches 0 = some (.aload_n 0, 1) := rfl
theorem pA_touches_1 : alk tA_touches 1 = some (.getfield 19, 3) := rfl
theorem pA_touches_4 : alk tA_touches 4 = some (.iload_n 1, 1) := rfl
theorem pA_touches_5 : alk tA_touches 5 = some (.if_icmp .eq 11, 3) := rfl
theorem pA_touches_8 : alk tA_touches 8 = some (.aload_n 0, 1) := rfl
theorem pA_touches_9 : alk tA_touches 9 = some (.getfield 22, 3) := rfl
theorem pA_touches_12 : alk tA_touches 12 = some (.iload_n 1, 1) := rfl
theorem pA_touches_13 : alk tA_touches 13 = some (.if_icmp .ne 7, 3) := rfl
theorem pA_touches_16 : alk tA_touches 16 = some (.iconst 1, 1) := rfl
theorem pA_touches_17 : alk tA_touches 17 = some (.goto 4, 3) := rfl
theorem pA_touches_20 : alk tA_touches 20 = some (.iconst 0, 1) := rfl
theorem pA_touches_21 : alk tA_touches 21 = some (.ireturn, 1) := rfl
def tA_otherEnd : TB := [(0, .aload_n 0, 1), (1, .getfield 19, 3), (4, .iload_n 1, 1), (5, .if_icmp .ne 10, 3), (8, .aload_n 0, 1), (9, .getfield 22, 3), (12, .goto 7, 3), (15, .aload_n 0, 1), (16, .getfield 19, 3), (19, .ireturn, 1)]
set_option maxRecDepth 100000 in
theorem kA_otherEnd : tbOk (mB mA_otherEnd) tA_otherEnd = true := by decide +kernel
theorem pA_otherEnd_0 : alk tA_otherEnd 0 = some (.aload_n 0, 1) := rfl
theorem pA_otherEnd_1 : alk tA_otherEnd 1 = some (.getfield 19, 3) := rfl
theorem pA_otherEnd_4 : alk tA_otherEnd 4 = some (.iload_n 1, 1) := rfl
theorem pA_otherEnd_5 : alk tA_otherEnd 5 = some (.if_icmp .ne 10, 3) := rfl
theorem pA_otherEnd_8 : alk tA_otherEnd 8 = some (.aload_n 0, 1) := rfl
theorem pA_otherEnd_9 : alk tA_otherEnd 9 = some (.getfield 22, 3) := rfl
theorem pA_otherEnd_12 : alk tA_otherEnd 12 = some (.goto 7, 3) := rfl
theorem pA_otherEnd_15 : alk tA_otherEnd 15 = some (.aload_n 0, 1) := rfl
theorem pA_otherEnd_16 : alk tA_otherEnd 16 = some (.getfield 19, 3) := rfl
theorem pA_otherEnd_19 : alk tA_otherEnd 19 = some (.ireturn, 1) := rfl
def tW_add : TB := [(0, .aload_n 0, 1), (1, .getfield 18, 3), (4, .bipush 13, 2), (6, .if_icmp .ge 46, 3), (9, .aload_n 0, 1), (10, .getfield 9, 3), (13, .aload_n 0, 1), (14, .getfield 18, 3), (17, .iload_n 1, 1), (18, .iastore, 1), (19, .aload_n 0, 1), (20, .getfield 15, 3), (23, .aload_n 0, 1), (24, .getfield 18, 3), (27, .aload_n 0, 1), (28, .getfield 22, 3), (31, .iastore, 1), (32, .aload_n 0, 1), (33, .dup, 1), (34, .getfield 18, 3), (37, .iconst 1, 1), (38, .iadd, 1), (39, .putfield 18, 3), (42, .aload_n 0, 1), (43, .dup, 1), (44, .getfield 22, 3), (47, .iload_n 2, 1), (48, .iadd, 1), (49, .putfield 22, 3), (52, .return_, 1)]
set_option maxRecDepth 100000 in
theorem kW_add : tbOk (mB mW_add) tW_add = true := by decide +kernel
theorem pW_add_0 : alk tW_add 0 = some (.aload_n 0, 1) := rfl
theorem pW_add_1 : alk tW_add 1 = some (.getfield 18, 3) := rfl
theorem pW_add_4 : alk tW_add 4 = some (.bipush 13, 2) := rfl
theorem pW_add_6 : alk tW_add 6 = some (.if_icmp .ge 46, 3) := rfl
theorem pW_add_9 : alk tW_add 9 = some (.aload_n 0, 1) := rfl
theorem pW_add_10 : alk tW_add 10 = some (.getfield 9, 3) := rfl
theorem pW_add_13 : alk tW_add 13 = some (.aload_n 0, 1) := rfl
theorem pW_add_14 : alk tW_add 14 = some (.getfield 18, 3) := rfl
theorem pW_add_17 : alk tW_add 17 = some (.iload_n 1, 1) := rfl
theorem pW_add_18 : alk tW_add 18 = some (.iastore, 1) := rfl
theorem pW_add_19 : alk tW_add 19 = some (.aload_n 0, 1) := rfl
theorem pW_add_20 : alk tW_add 20 = some (.getfield 15, 3) := rfl
theorem pW_add_23 : alk tW_add 23 = some (.aload_n 0, 1) := rfl
theorem pW_add_24 : alk tW_add 24 = some (.getfield 18, 3) := rfl
theorem pW_add_27 : alk tW_add 27 = some (.aload_n 0, 1) := rfl
theorem pW_add_28 : alk tW_add 28 = some (.getfield 22, 3) := rfl
theorem pW_add_31 : alk tW_add 31 = some (.iastore, 1) := rfl
theorem pW_add_32 : alk tW_add 32 = some (.aload_n 0, 1) := rfl
theorem pW_add_33 : alk tW_add 33 = some (.dup, 1) := rfl
theorem pW_add_34 : alk tW_add 34 = some (.getfield 18, 3) := rfl
theorem pW_add_37 : alk tW_add 37 = some (.iconst 1, 1) := rfl
theorem pW_add_38 : alk tW_add 38 = some (.iadd, 1) := rfl
theorem pW_add_39 : alk tW_add 39 = some (.putfield 18, 3) := rfl
theorem pW_add_42 : alk tW_add 42 = some (.aload_n 0, 1) := rfl
theorem pW_add_43 : alk tW_add 43 = some (.dup, 1) := rfl
theorem pW_add_44 : alk tW_add 44 = some (.getfield 22, 3) := rfl
theorem pW_add_47 : alk tW_add 47 = some (.iload_n 2, 1) := rfl
theorem pW_add_48 : alk tW_add 48 = some (.iadd, 1) := rfl
theorem pW_add_49 : alk tW_add 49 = some (.putfield 22, 3) := rfl
theorem pW_add_52 : alk tW_add 52 = some (.return_, 1) := rfl
def tS_by : TB := [(0, .aload_n 0, 1), (1, .getfield 12, 3), (4, .iload_n 1, 1), (5, .invokevirtual 89, 3), (8, .ifCond .eq 14, 3), (11, .aload_n 0, 1), (12, .getfield 12, 3), (15, .iload_n 2, 1), (16, .invokevirtual 89, 3), (19, .ifCond .ne 10, 3), (22, .aload_n 0, 1), (23, .bipush (-3), 2), (25, .invokevirtual 79, 3), (28, .ireturn, 1), (29, .aload_n 0, 1), (30, .getfield 12, 3), (33, .iload_n 1, 1), (34, .iload_n 2, 1), (35, .aload_n 0, 1), (36, .getfield 63, 3), (39, .invokevirtual 104, 3), (42, .ifCond .eq 18, 3), (45, .iload_n 3, 1), (46, .ifCond .lt 14, 3), (49, .iload_n 3, 1), (50, .aload_n 0, 1), (51, .getfield 63, 3), (54, .getfield 111, 3), (57, .if_icmp .lt 10, 3), (60, .aload_n 0, 1), (61, .bipush (-3), 2), (63, .invokevirtual 79, 3), (66, .ireturn, 1), (67, .aload_n 0, 1), (68, .getfield 63, 3), (71, .iload_n 3, 1), (72, .invokevirtual 114, 3), (75, .ireturn, 1)]
set_option maxRecDepth 100000 in
theorem kS_by : tbOk (mB mS_by) tS_by = true := by decide +kernel
theorem pS_by_0 : alk tS_by 0 = some (.aload_n 0, 1) := rfl
theorem pS_by_1 : alk tS_by 1 = some (.getfield 12, 3) := rfl
theorem pS_by_4 : alk tS_by 4 = some (.iload_n 1, 1) := rfl
theorem pS_by_5 : alk tS_by 5 = some (.invokevirtual 89, 3) := rfl
theorem pS_by_8 : alk tS_by 8 = some (.ifCond .eq 14, 3) := rfl
theorem pS_by_11 : alk tS_by 11 = some (.aload_n 0, 1) := rfl
theorem pS_by_12 : alk tS_by 12 = some (.getfield 12, 3) := rfl
theorem pS_by_15 : alk tS_by 15 = some (.iload_n 2, 1) := rfl
theorem pS_by_16 : alk tS_by 16 = some (.invokevirtual 89, 3) := rfl
theorem pS_by_19 : alk tS_by 19 = some (.ifCond .ne 10, 3) := rfl
theorem pS_by_22 : alk tS_by 22 = some (.aload_n 0, 1) := rfl
theorem pS_by_23 : alk tS_by 23 = some (.bipush (-3), 2) := rfl
theorem pS_by_25 : alk tS_by 25 = some (.invokevirtual 79, 3) := rfl
theorem pS_by_28 : alk tS_by 28 = some (.ireturn, 1) := rfl
theorem pS_by_29 : alk tS_by 29 = some (.aload_n 0, 1) := rfl
theorem pS_by_30 : alk tS_by 30 = some (.getfield 12, 3) := rfl
theorem pS_by_33 : alk tS_by 33 = some (.iload_n 1, 1) := rfl
theorem pS_by_34 : alk tS_by 34 = some (.iload_n 2, 1) := rfl
theorem pS_by_35 : alk tS_by 35 = some (.aload_n 0, 1) := rfl
theorem pS_by_36 : alk tS_by 36 = some (.getfield 63, 3) := rfl
theorem pS_by_39 : alk tS_by 39 = some (.invokevirtual 104, 3) := rfl
theorem pS_by_42 : alk tS_by 42 = some (.ifCond .eq 18, 3) := rfl
theorem pS_by_45 : alk tS_by 45 = some (.iload_n 3, 1) := rfl
theorem pS_by_46 : alk tS_by 46 = some (.ifCond .lt 14, 3) := rfl
theorem pS_by_49 : alk tS_by 49 = some (.iload_n 3, 1) := rfl
theorem pS_by_50 : alk tS_by 50 = some (.aload_n 0, 1) := rfl
theorem pS_by_51 : alk tS_by 51 = some (.getfield 63, 3) := rfl
theorem pS_by_54 : alk tS_by 54 = some (.getfield 111, 3) := rfl
theorem pS_by_57 : alk tS_by 57 = some (.if_icmp .lt 10, 3) := rfl
theorem pS_by_60 : alk tS_by 60 = some (.aload_n 0, 1) := rfl
theorem pS_by_61 : alk tS_by 61 = some (.bipush (-3), 2) := rfl
theorem pS_by_63 : alk tS_by 63 = some (.invokevirtual 79, 3) := rfl
theorem pS_by_66 : alk tS_by 66 = some (.ireturn, 1) := rfl
theorem pS_by_67 : alk tS_by 67 = some (.aload_n 0, 1) := rfl
theorem pS_by_68 : alk tS_by 68 = some (.getfield 63, 3) := rfl
theorem pS_by_71 : alk tS_by 71 = some (.iload_n 3, 1) := rfl
theorem pS_by_72 : alk tS_by 72 = some (.invokevirtual 114, 3) := rfl
theorem pS_by_75 : alk tS_by 75 = some (.ireturn, 1) := rfl
def tW_alleyAt : TB := [(0, .iload_n 1, 1), (1, .ifCond .lt 20, 3), (4, .iload_n 1, 1), (5, .aload_n 0, 1), (6, .getfield 18, 3), (9, .if_icmp .ge 12, 3), (12, .aload_n 0, 1), (13, .getfield 9, 3), (16, .iload_n 1, 1), (17, .iaload, 1), (18, .goto 4, 3), (21, .iconst (-1), 1), (22, .ireturn, 1)]
set_option maxRecDepth 100000 in
theorem kW_alleyAt : tbOk (mB mW_alleyAt) tW_alleyAt = true := by decide +kernel
theorem pW_alleyAt_0 : alk tW_alleyAt 0 = some (.iload_n 1, 1) := rfl
theorem pW_alleyAt_1 : alk tW_alleyAt 1 = some (.ifCond .lt 20, 3) := rfl
theorem pW_alleyAt_4 : alk tW_alleyAt 4 = some (.iload_n 1, 1) := rfl
theorem pW_alleyAt_5 : alk tW_alleyAt 5 = some (.aload_n 0, 1) := rfl
theorem pW_alleyAt_6 : alk tW_alleyAt 6 = some (.getfield 18, 3) := rfl
theorem pW_alleyAt_9 : alk tW_alleyAt 9 = some (.if_icmp .ge 12, 3) := rfl
theorem pW_alleyAt_12 : alk tW_alleyAt 12 = some (.aload_n 0, 1) := rfl
theorem pW_alleyAt_13 : alk tW_alleyAt 13 = some (.getfield 9, 3) := rfl
theorem pW_alleyAt_16 : alk tW_alleyAt 16 = some (.iload_n 1, 1) := rfl
theorem pW_alleyAt_17 : alk tW_alleyAt 17 = some (.iaload, 1) := rfl
theorem pW_alleyAt_18 : alk tW_alleyAt 18 = some (.goto 4, 3) := rfl
theorem pW_alleyAt_21 : alk tW_alleyAt 21 = some (.iconst (-1), 1) := rfl
theorem pW_alleyAt_22 : alk tW_alleyAt 22 = some (.ireturn, 1) := rfl
def tS_lot : TB := [(0, .aload_n 0, 1), (1, .getfield 12, 3), (4, .iload_n 1, 1), (5, .invokevirtual 89, 3), (8, .ifCond .eq 10, 3), (11, .iload_n 2, 1), (12, .invokestatic 117, 3), (15, .ifCond .ne 10, 3), (18, .aload_n 0, 1), (19, .bipush (-3), 2), (21, .invokevirtual 79, 3), (24, .ireturn, 1), (25, .aload_n 0, 1), (26, .getfield 12, 3), (29, .iload_n 1, 1), (30, .invokevirtual 120, 3), (33, .ifCond .eq 10, 3), (36, .aload_n 0, 1), (37, .bipush (-5), 2), (39, .invokevirtual 79, 3), (42, .ireturn, 1), (43, .iload_n 2, 1), (44, .bipush 10, 2), (46, .idiv, 1), (47, .istore 6, 2), (49, .iload 6, 2), (51, .iconst 0, 1), (52, .iconst 3, 1), (53, .invokestatic 75, 3), (56, .ifCond .eq 18, 3), (59, .iload_n 3, 1), (60, .invokestatic 123, 3), (63, .ifCond .eq 11, 3), (66, .iload 4, 2), (68, .invokestatic 126, 3), (71, .ifCond .ne 10, 3), (74, .aload_n 0, 1), (75, .bipush (-7), 2), (77, .invokevirtual 79, 3), (80, .ireturn, 1), (81, .iload 5, 2), (83, .iconst 0, 1), (84, .sipush 5000, 3), (87, .invokestatic 75, 3), (90, .ifCond .eq 11, 3), (93, .aload_n 0, 1), (94, .iload_n 1, 1), (95, .invokevirtual 129, 3), (98, .ifCond .eq 10, 3), (101, .aload_n 0, 1), (102, .bipush (-7), 2), (104, .invokevirtual 79, 3), (107, .ireturn, 1), (108, .aload_n 0, 1), (109, .getfield 19, 3), (112, .invokevirtual 96, 3), (115, .bipush 24, 2), (117, .if_icmp .lt 10, 3), (120, .aload_n 0, 1), (121, .bipush (-8), 2), (123, .invokevirtual 79, 3), (126, .ireturn, 1), (127, .aload_n 0, 1), (128, .new 132, 3), (131, .dup, 1), (132, .iload 6, 2), (134, .iload_n 2, 1), (135, .bipush 10, 2), (137, .irem, 1), (138, .iload_n 3, 1), (139, .sipush 10000, 3), (142, .idiv, 1), (143, .iload_n 3, 1), (144, .sipush 10000, 3), (147, .irem, 1), (148, .iload 4, 2), (150, .aload_n 0, 1), (151, .getfield 71, 3), (154, .iload 5, 2), (156, .isub, 1), (157, .iload_n 1, 1), (158, .invokespecial 134, 3), (161, .invokevirtual 137, 3), (164, .ireturn, 1)]
set_option maxRecDepth 100000 in
theorem kS_lot : tbOk (mB mS_lot) tS_lot = true := by decide +kernel
theorem pS_lot_0 : alk tS_lot 0 = some (.aload_n 0, 1) := rfl
theorem pS_lot_1 : alk tS_lot 1 = some (.getfield 12, 3) := rfl
theorem pS_lot_4 : alk tS_lot 4 = some (.iload_n 1, 1) := rfl
theorem pS_lot_5 : alk tS_lot 5 = some (.invokevirtual 89, 3) := rfl
theorem pS_lot_8 : alk tS_lot 8 = some (.ifCond .eq 10, 3) := rfl
theorem pS_lot_11 : alk tS_lot 11 = some (.iload_n 2, 1) := rfl
theorem pS_lot_12 : alk tS_lot 12 = some (.invokestatic 117, 3) := rfl
theorem pS_lot_15 : alk tS_lot 15 = some (.ifCond .ne 10, 3) := rfl
theorem pS_lot_18 : alk tS_lot 18 = some (.aload_n 0, 1) := rfl
theorem pS_lot_19 : alk tS_lot 19 = some (.bipush (-3), 2) := rfl
theorem pS_lot_21 : alk tS_lot 21 = some (.invokevirtual 79, 3) := rfl
theorem pS_lot_24 : alk tS_lot 24 = some (.ireturn, 1) := rfl
theorem pS_lot_25 : alk tS_lot 25 = some (.aload_n 0, 1) := rfl
theorem pS_lot_26 : alk tS_lot 26 = some (.getfield 12, 3) := rfl
theorem pS_lot_29 : alk tS_lot 29 = some (.iload_n 1, 1) := rfl
theorem pS_lot_30 : alk tS_lot 30 = some (.invokevirtual 120, 3) := rfl
theorem pS_lot_33 : alk tS_lot 33 = some (.ifCond .eq 10, 3) := rfl
theorem pS_lot_36 : alk tS_lot 36 = some (.aload_n 0, 1) := rfl
theorem pS_lot_37 : alk tS_lot 37 = some (.bipush (-5), 2) := rfl
theorem pS_lot_39 : alk tS_lot 39 = some (.invokevirtual 79, 3) := rfl
theorem pS_lot_42 : alk tS_lot 42 = some (.ireturn, 1) := rfl
theorem pS_lot_43 : alk tS_lot 43 = some (.iload_n 2, 1) := rfl
theorem pS_lot_44 : alk tS_lot 44 = some (.bipush 10, 2) := rfl
theorem pS_lot_46 : alk tS_lot 46 = some (.idiv, 1) := rfl
theorem pS_lot_47 : alk tS_lot 47 = some (.istore 6, 2) := rfl
theorem pS_lot_49 : alk tS_lot 49 = some (.iload 6, 2) := rfl
theorem pS_lot_51 : alk tS_lot 51 = some (.iconst 0, 1) := rfl
theorem pS_lot_52 : alk tS_lot 52 = some (.iconst 3, 1) := rfl
theorem pS_lot_53 : alk tS_lot 53 = some (.invokestatic 75, 3) := rfl
theorem pS_lot_56 : alk tS_lot 56 = some (.ifCond .eq 18, 3) := rfl
theorem pS_lot_59 : alk tS_lot 59 = some (.iload_n 3, 1) := rfl
theorem pS_lot_60 : alk tS_lot 60 = some (.invokestatic 123, 3) := rfl
theorem pS_lot_63 : alk tS_lot 63 = some (.ifCond .eq 11, 3) := rfl
theorem pS_lot_66 : alk tS_lot 66 = some (.iload 4, 2) := rfl
theorem pS_lot_68 : alk tS_lot 68 = some (.invokestatic 126, 3) := rfl
theorem pS_lot_71 : alk tS_lot 71 = some (.ifCond .ne 10, 3) := rfl
theorem pS_lot_74 : alk tS_lot 74 = some (.aload_n 0, 1) := rfl
theorem pS_lot_75 : alk tS_lot 75 = some (.bipush (-7), 2) := rfl
theorem pS_lot_77 : alk tS_lot 77 = some (.invokevirtual 79, 3) := rfl
theorem pS_lot_80 : alk tS_lot 80 = some (.ireturn, 1) := rfl
theorem pS_lot_81 : alk tS_lot 81 = some (.iload 5, 2) := rfl
theorem pS_lot_83 : alk tS_lot 83 = some (.iconst 0, 1) := rfl
theorem pS_lot_84 : alk tS_lot 84 = some (.sipush 5000, 3) := rfl
theorem pS_lot_87 : alk tS_lot 87 = some (.invokestatic 75, 3) := rfl
theorem pS_lot_90 : alk tS_lot 90 = some (.ifCond .eq 11, 3) := rfl
theorem pS_lot_93 : alk tS_lot 93 = some (.aload_n 0, 1) := rfl
theorem pS_lot_94 : alk tS_lot 94 = some (.iload_n 1, 1) := rfl
theorem pS_lot_95 : alk tS_lot 95 = some (.invokevirtual 129, 3) := rfl
theorem pS_lot_98 : alk tS_lot 98 = some (.ifCond .eq 10, 3) := rfl
theorem pS_lot_101 : alk tS_lot 101 = some (.aload_n 0, 1) := rfl
theorem pS_lot_102 : alk tS_lot 102 = some (.bipush (-7), 2) := rfl
theorem pS_lot_104 : alk tS_lot 104 = some (.invokevirtual 79, 3) := rfl
theorem pS_lot_107 : alk tS_lot 107 = some (.ireturn, 1) := rfl
theorem pS_lot_108 : alk tS_lot 108 = some (.aload_n 0, 1) := rfl
theorem pS_lot_109 : alk tS_lot 109 = some (.getfield 19, 3) := rfl
theorem pS_lot_112 : alk tS_lot 112 = some (.invokevirtual 96, 3) := rfl
theorem pS_lot_115 : alk tS_lot 115 = some (.bipush 24, 2) := rfl
theorem pS_lot_117 : alk tS_lot 117 = some (.if_icmp .lt 10, 3) := rfl
theorem pS_lot_120 : alk tS_lot 120 = some (.aload_n 0, 1) := rfl
theorem pS_lot_121 : alk tS_lot 121 = some (.bipush (-8), 2) := rfl
theorem pS_lot_123 : alk tS_lot 123 = some (.invokevirtual 79, 3) := rfl
set_option maxRecDepth 20000 in
theorem pS_lot_126 : alk tS_lot 126 = some (.ireturn, 1) := rfl
set_option maxRecDepth 20000 in
theorem pS_lot_127 : alk tS_lot 127 = some (.aload_n 0, 1) := rfl
set_option maxRecDepth 20000 in
theorem pS_lot_128 : alk tS_lot 128 = some (.new 132, 3) := rfl
set_option maxRecDepth 20000 in
theorem pS_lot_131 : alk tS_lot 131 = some (.dup, 1) := rfl
set_option maxRecDepth 20000 in
theorem pS_lot_132 : alk tS_lot 132 = some (.iload 6, 2) := rfl
set_option maxRecDepth 20000 in
theorem pS_lot_134 : alk tS_lot 134 = some (.iload_n 2, 1) := rfl
set_option maxRecDepth 20000 in
theorem pS_lot_135 : alk tS_lot 135 = some (.bipush 10, 2) := rfl
set_option maxRecDepth 20000 in
theorem pS_lot_137 : alk tS_lot 137 = some (.irem, 1) := rfl
set_option maxRecDepth 20000 in
theorem pS_lot_138 : alk tS_lot 138 = some (.iload_n 3, 1) := rfl
set_option maxRecDepth 20000 in
theorem pS_lot_139 : alk tS_lot 139 = some (.sipush 10000, 3) := rfl
set_option maxRecDepth 20000 in
theorem pS_lot_142 : alk tS_lot 142 = some (.idiv, 1) := rfl
set_option maxRecDepth 20000 in
theorem pS_lot_143 : alk tS_lot 143 = some (.iload_n 3, 1) := rfl
set_option maxRecDepth 20000 in
theorem pS_lot_144 : alk tS_lot 144 = some (.sipush 10000, 3) := rfl
set_option maxRecDepth 20000 in
theorem pS_lot_147 : alk tS_lot 147 = some (.irem, 1) := rfl
set_option maxRecDepth 20000 in
theorem pS_lot_148 : alk tS_lot 148 = some (.iload 4, 2) := rfl
set_option maxRecDepth 20000 in
theorem pS_lot_150 : alk tS_lot 150 = some (.aload_n 0, 1) := rfl
set_option maxRecDepth 20000 in
theorem pS_lot_151 : alk tS_lot 151 = some (.getfield 71, 3) := rfl
set_option maxRecDepth 20000 in
theorem pS_lot_154 : alk tS_lot 154 = some (.iload 5, 2) := rfl
set_option maxRecDepth 20000 in
theorem pS_lot_156 : alk tS_lot 156 = some (.isub, 1) := rfl
set_option maxRecDepth 20000 in
theorem pS_lot_157 : alk tS_lot 157 = some (.iload_n 1, 1) := rfl
set_option maxRecDepth 20000 in
theorem pS_lot_158 : alk tS_lot 158 = some (.invokespecial 134, 3) := rfl
set_option maxRecDepth 20000 in
theorem pS_lot_161 : alk tS_lot 161 = some (.invokevirtual 137, 3) := rfl
set_option maxRecDepth 20000 in
theorem pS_lot_164 : alk tS_lot 164 = some (.ireturn, 1) := rfl
def tS_tellsOwner : TB := [(0, .iload_n 0, 1), (1, .ifCond .lt 17, 3), (4, .iload_n 0, 1), (5, .bipush 10, 2), (7, .irem, 1), (8, .invokestatic 328, 3), (11, .ifCond .eq 7, 3), (14, .iconst 1, 1), (15, .goto 4, 3), (18, .iconst 0, 1), (19, .ireturn, 1)]
set_option maxRecDepth 100000 in
theorem kS_tellsOwner : tbOk (mB mS_tellsOwner) tS_tellsOwner = true := by decide +kernel
theorem pS_tellsOwner_0 : alk tS_tellsOwner 0 = some (.iload_n 0, 1) := rfl
theorem pS_tellsOwner_1 : alk tS_tellsOwner 1 = some (.ifCond .lt 17, 3) := rfl
theorem pS_tellsOwner_4 : alk tS_tellsOwner 4 = some (.iload_n 0, 1) := rfl
theorem pS_tellsOwner_5 : alk tS_tellsOwner 5 = some (.bipush 10, 2) := rfl
theorem pS_tellsOwner_7 : alk tS_tellsOwner 7 = some (.irem, 1) := rfl
theorem pS_tellsOwner_8 : alk tS_tellsOwner 8 = some (.invokestatic 328, 3) := rfl
theorem pS_tellsOwner_11 : alk tS_tellsOwner 11 = some (.ifCond .eq 7, 3) := rfl
theorem pS_tellsOwner_14 : alk tS_tellsOwner 14 = some (.iconst 1, 1) := rfl
theorem pS_tellsOwner_15 : alk tS_tellsOwner 15 = some (.goto 4, 3) := rfl
theorem pS_tellsOwner_18 : alk tS_tellsOwner 18 = some (.iconst 0, 1) := rfl
theorem pS_tellsOwner_19 : alk tS_tellsOwner 19 = some (.ireturn, 1) := rfl
def tS_isOwner : TB := [(0, .iload_n 0, 1), (1, .iconst 0, 1), (2, .iconst 5, 1), (3, .invokestatic 75, 3), (6, .ireturn, 1)]
set_option maxRecDepth 100000 in
theorem kS_isOwner : tbOk (mB mS_isOwner) tS_isOwner = true := by decide +kernel
theorem pS_isOwner_0 : alk tS_isOwner 0 = some (.iload_n 0, 1) := rfl
theorem pS_isOwner_1 : alk tS_isOwner 1 = some (.iconst 0, 1) := rfl
theorem pS_isOwner_2 : alk tS_isOwner 2 = some (.iconst 5, 1) := rfl
theorem pS_isOwner_3 : alk tS_isOwner 3 = some (.invokestatic 75, 3) := rfl
theorem pS_isOwner_6 : alk tS_isOwner 6 = some (.ireturn, 1) := rfl
def tY_kindOf : TB := [(0, .aload_n 0, 1), (1, .iload_n 1, 1), (2, .invokevirtual 34, 3), (5, .ifCond .eq 12, 3), (8, .aload_n 0, 1), (9, .getfield 18, 3), (12, .iload_n 1, 1), (13, .iaload, 1), (14, .goto 4, 3), (17, .iconst (-1), 1), (18, .ireturn, 1)]
set_option maxRecDepth 100000 in
theorem kY_kindOf : tbOk (mB mY_kindOf) tY_kindOf = true := by decide +kernel
theorem pY_kindOf_0 : alk tY_kindOf 0 = some (.aload_n 0, 1) := rfl
theorem pY_kindOf_1 : alk tY_kindOf 1 = some (.iload_n 1, 1) := rfl
theorem pY_kindOf_2 : alk tY_kindOf 2 = some (.invokevirtual 34, 3) := rfl
theorem pY_kindOf_5 : alk tY_kindOf 5 = some (.ifCond .eq 12, 3) := rfl
theorem pY_kindOf_8 : alk tY_kindOf 8 = some (.aload_n 0, 1) := rfl
theorem pY_kindOf_9 : alk tY_kindOf 9 = some (.getfield 18, 3) := rfl
theorem pY_kindOf_12 : alk tY_kindOf 12 = some (.iload_n 1, 1) := rfl
theorem pY_kindOf_13 : alk tY_kindOf 13 = some (.iaload, 1) := rfl
theorem pY_kindOf_14 : alk tY_kindOf 14 = some (.goto 4, 3) := rfl
theorem pY_kindOf_17 : alk tY_kindOf 17 = some (.iconst (-1), 1) := rfl
theorem pY_kindOf_18 : alk tY_kindOf 18 = some (.ireturn, 1) := rfl
def tS_tellsHeads : TB := [(0, .iload_n 0, 1), (1, .sipush 10000, 3), (4, .idiv, 1), (5, .iconst 1, 1), (6, .sipush 200, 3), (9, .invokestatic 75, 3), (12, .ifCond .eq 23, 3), (15, .iload_n 0, 1), (16, .sipush 10000, 3), (19, .irem, 1), (20, .bipush 100, 2), (22, .sipush 2000, 3), (25, .invokestatic 75, 3), (28, .ifCond .eq 7, 3), (31, .iconst 1, 1), (32, .goto 4, 3), (35, .iconst 0, 1), (36, .ireturn, 1)]
set_option maxRecDepth 100000 in
theorem kS_tellsHeads : tbOk (mB mS_tellsHeads) tS_tellsHeads = true := by decide +kernel
theorem pS_tellsHeads_0 : alk tS_tellsHeads 0 = some (.iload_n 0, 1) := rfl
theorem pS_tellsHeads_1 : alk tS_tellsHeads 1 = some (.sipush 10000, 3) := rfl
theorem pS_tellsHeads_4 : alk tS_tellsHeads 4 = some (.idiv, 1) := rfl
theorem pS_tellsHeads_5 : alk tS_tellsHeads 5 = some (.iconst 1, 1) := rfl
theorem pS_tellsHeads_6 : alk tS_tellsHeads 6 = some (.sipush 200, 3) := rfl
theorem pS_tellsHeads_9 : alk tS_tellsHeads 9 = some (.invokestatic 75, 3) := rfl
theorem pS_tellsHeads_12 : alk tS_tellsHeads 12 = some (.ifCond .eq 23, 3) := rfl
theorem pS_tellsHeads_15 : alk tS_tellsHeads 15 = some (.iload_n 0, 1) := rfl
theorem pS_tellsHeads_16 : alk tS_tellsHeads 16 = some (.sipush 10000, 3) := rfl
theorem pS_tellsHeads_19 : alk tS_tellsHeads 19 = some (.irem, 1) := rfl
theorem pS_tellsHeads_20 : alk tS_tellsHeads 20 = some (.bipush 100, 2) := rfl
theorem pS_tellsHeads_22 : alk tS_tellsHeads 22 = some (.sipush 2000, 3) := rfl
theorem pS_tellsHeads_25 : alk tS_tellsHeads 25 = some (.invokestatic 75, 3) := rfl
theorem pS_tellsHeads_28 : alk tS_tellsHeads 28 = some (.ifCond .eq 7, 3) := rfl
theorem pS_tellsHeads_31 : alk tS_tellsHeads 31 = some (.iconst 1, 1) := rfl
theorem pS_tellsHeads_32 : alk tS_tellsHeads 32 = some (.goto 4, 3) := rfl
theorem pS_tellsHeads_35 : alk tS_tellsHeads 35 = some (.iconst 0, 1) := rfl
theorem pS_tellsHeads_36 : alk tS_tellsHeads 36 = some (.ireturn, 1) := rfl
def tS_isMark : TB := [(0, .iload_n 0, 1), (1, .iconst 0, 1), (2, .sipush 9999, 3), (5, .invokestatic 75, 3), (8, .ireturn, 1)]
set_option maxRecDepth 100000 in
theorem kS_isMark : tbOk (mB mS_isMark) tS_isMark = true := by decide +kernel
theorem pS_isMark_0 : alk tS_isMark 0 = some (.iload_n 0, 1) := rfl
theorem pS_isMark_1 : alk tS_isMark 1 = some (.iconst 0, 1) := rfl
theorem pS_isMark_2 : alk tS_isMark 2 = some (.sipush 9999, 3) := rfl
theorem pS_isMark_5 : alk tS_isMark 5 = some (.invokestatic 75, 3) := rfl
theorem pS_isMark_8 : alk tS_isMark 8 = some (.ireturn, 1) := rfl
def tS_hasLot : TB := [(0, .aload_n 0, 1), (1, .getfield 12, 3), (4, .iload_n 1, 1), (5, .invokevirtual 120, 3), (8, .iconst 3, 1), (9, .if_icmp .ne 5, 3), (12, .iconst 0, 1), (13, .ireturn, 1), (14, .iconst 0, 1), (15, .istore_n 2, 1), (16, .iload_n 2, 1), (17, .aload_n 0, 1), (18, .getfield 19, 3), (21, .invokevirtual 96, 3), (24, .if_icmp .ge 47, 3), (27, .aload_n 0, 1), (28, .getfield 19, 3), (31, .iload_n 2, 1), (32, .invokevirtual 277, 3), (35, .checkcast 132, 3), (38, .getfield 167, 3), (41, .iload_n 1, 1), (42, .if_icmp .eq 21, 3), (45, .aload_n 0, 1), (46, .getfield 19, 3), (49, .iload_n 2, 1), (50, .invokevirtual 277, 3), (53, .checkcast 132, 3), (56, .getfield 170, 3), (59, .iload_n 1, 1), (60, .if_icmp .ne 5, 3), (63, .iconst 1, 1), (64, .ireturn, 1), (65, .iinc 2 1, 3), (68, .goto (-52), 3), (71, .iconst 0, 1), (72, .ireturn, 1)]
set_option maxRecDepth 100000 in
theorem kS_hasLot : tbOk (mB mS_hasLot) tS_hasLot = true := by decide +kernel
theorem pS_hasLot_0 : alk tS_hasLot 0 = some (.aload_n 0, 1) := rfl
theorem pS_hasLot_1 : alk tS_hasLot 1 = some (.getfield 12, 3) := rfl
theorem pS_hasLot_4 : alk tS_hasLot 4 = some (.iload_n 1, 1) := rfl
theorem pS_hasLot_5 : alk tS_hasLot 5 = some (.invokevirtual 120, 3) := rfl
theorem pS_hasLot_8 : alk tS_hasLot 8 = some (.iconst 3, 1) := rfl
theorem pS_hasLot_9 : alk tS_hasLot 9 = some (.if_icmp .ne 5, 3) := rfl
theorem pS_hasLot_12 : alk tS_hasLot 12 = some (.iconst 0, 1) := rfl
theorem pS_hasLot_13 : alk tS_hasLot 13 = some (.ireturn, 1) := rfl
theorem pS_hasLot_14 : alk tS_hasLot 14 = some (.iconst 0, 1) := rfl
theorem pS_hasLot_15 : alk tS_hasLot 15 = some (.istore_n 2, 1) := rfl
theorem pS_hasLot_16 : alk tS_hasLot 16 = some (.iload_n 2, 1) := rfl
theorem pS_hasLot_17 : alk tS_hasLot 17 = some (.aload_n 0, 1) := rfl
theorem pS_hasLot_18 : alk tS_hasLot 18 = some (.getfield 19, 3) := rfl
theorem pS_hasLot_21 : alk tS_hasLot 21 = some (.invokevirtual 96, 3) := rfl
theorem pS_hasLot_24 : alk tS_hasLot 24 = some (.if_icmp .ge 47, 3) := rfl
theorem pS_hasLot_27 : alk tS_hasLot 27 = some (.aload_n 0, 1) := rfl
theorem pS_hasLot_28 : alk tS_hasLot 28 = some (.getfield 19, 3) := rfl
theorem pS_hasLot_31 : alk tS_hasLot 31 = some (.iload_n 2, 1) := rfl
theorem pS_hasLot_32 : alk tS_hasLot 32 = some (.invokevirtual 277, 3) := rfl
theorem pS_hasLot_35 : alk tS_hasLot 35 = some (.checkcast 132, 3) := rfl
theorem pS_hasLot_38 : alk tS_hasLot 38 = some (.getfield 167, 3) := rfl
theorem pS_hasLot_41 : alk tS_hasLot 41 = some (.iload_n 1, 1) := rfl
theorem pS_hasLot_42 : alk tS_hasLot 42 = some (.if_icmp .eq 21, 3) := rfl
theorem pS_hasLot_45 : alk tS_hasLot 45 = some (.aload_n 0, 1) := rfl
theorem pS_hasLot_46 : alk tS_hasLot 46 = some (.getfield 19, 3) := rfl
theorem pS_hasLot_49 : alk tS_hasLot 49 = some (.iload_n 2, 1) := rfl
theorem pS_hasLot_50 : alk tS_hasLot 50 = some (.invokevirtual 277, 3) := rfl
theorem pS_hasLot_53 : alk tS_hasLot 53 = some (.checkcast 132, 3) := rfl
theorem pS_hasLot_56 : alk tS_hasLot 56 = some (.getfield 170, 3) := rfl
theorem pS_hasLot_59 : alk tS_hasLot 59 = some (.iload_n 1, 1) := rfl
theorem pS_hasLot_60 : alk tS_hasLot 60 = some (.if_icmp .ne 5, 3) := rfl
theorem pS_hasLot_63 : alk tS_hasLot 63 = some (.iconst 1, 1) := rfl
theorem pS_hasLot_64 : alk tS_hasLot 64 = some (.ireturn, 1) := rfl
theorem pS_hasLot_65 : alk tS_hasLot 65 = some (.iinc 2 1, 3) := rfl
theorem pS_hasLot_68 : alk tS_hasLot 68 = some (.goto (-52), 3) := rfl
theorem pS_hasLot_71 : alk tS_hasLot 71 = some (.iconst 0, 1) := rfl
theorem pS_hasLot_72 : alk tS_hasLot 72 = some (.ireturn, 1) := rfl
def tO_init : TB := [(0, .aload_n 0, 1), (1, .invokespecial 3, 3), (4, .aload_n 0, 1), (5, .new 9, 3), (8, .dup, 1), (9, .invokespecial 11, 3), (12, .putfield 12, 3), (15, .aload_n 0, 1), (16, .iconst (-1), 1), (17, .putfield 18, 3), (20, .aload_n 0, 1), (21, .iconst (-1), 1), (22, .putfield 22, 3), (25, .aload_n 0, 1), (26, .iconst 0, 1), (27, .putfield 25, 3), (30, .aload_n 0, 1), (31, .iload_n 1, 1), (32, .putfield 29, 3), (35, .aload_n 0, 1), (36, .iload_n 2, 1), (37, .putfield 32, 3), (40, .aload_n 0, 1), (41, .iload_n 3, 1), (42, .putfield 35, 3), (45, .aload_n 0, 1), (46, .iload 4, 2), (48, .putfield 38, 3), (51, .aload_n 0, 1), (52, .iload 5, 2), (54, .putfield 41, 3), (57, .aload_n 0, 1), (58, .iload 6, 2), (60, .putfield 44, 3), (63, .aload_n 0, 1), (64, .iload 7, 2), (66, .putfield 47, 3), (69, .return_, 1)]
set_option maxRecDepth 100000 in
theorem kO_init : tbOk (mB mO_init) tO_init = true := by decide +kernel
theorem pO_init_0 : alk tO_init 0 = some (.aload_n 0, 1) := rfl
theorem pO_init_1 : alk tO_init 1 = some (.invokespecial 3, 3) := rfl
theorem pO_init_4 : alk tO_init 4 = some (.aload_n 0, 1) := rfl
theorem pO_init_5 : alk tO_init 5 = some (.new 9, 3) := rfl
theorem pO_init_8 : alk tO_init 8 = some (.dup, 1) := rfl
theorem pO_init_9 : alk tO_init 9 = some (.invokespecial 11, 3) := rfl
theorem pO_init_12 : alk tO_init 12 = some (.putfield 12, 3) := rfl
theorem pO_init_15 : alk tO_init 15 = some (.aload_n 0, 1) := rfl
theorem pO_init_16 : alk tO_init 16 = some (.iconst (-1), 1) := rfl
theorem pO_init_17 : alk tO_init 17 = some (.putfield 18, 3) := rfl
theorem pO_init_20 : alk tO_init 20 = some (.aload_n 0, 1) := rfl
theorem pO_init_21 : alk tO_init 21 = some (.iconst (-1), 1) := rfl
theorem pO_init_22 : alk tO_init 22 = some (.putfield 22, 3) := rfl
theorem pO_init_25 : alk tO_init 25 = some (.aload_n 0, 1) := rfl
theorem pO_init_26 : alk tO_init 26 = some (.iconst 0, 1) := rfl
theorem pO_init_27 : alk tO_init 27 = some (.putfield 25, 3) := rfl
theorem pO_init_30 : alk tO_init 30 = some (.aload_n 0, 1) := rfl
theorem pO_init_31 : alk tO_init 31 = some (.iload_n 1, 1) := rfl
theorem pO_init_32 : alk tO_init 32 = some (.putfield 29, 3) := rfl
theorem pO_init_35 : alk tO_init 35 = some (.aload_n 0, 1) := rfl
theorem pO_init_36 : alk tO_init 36 = some (.iload_n 2, 1) := rfl
theorem pO_init_37 : alk tO_init 37 = some (.putfield 32, 3) := rfl
theorem pO_init_40 : alk tO_init 40 = some (.aload_n 0, 1) := rfl
theorem pO_init_41 : alk tO_init 41 = some (.iload_n 3, 1) := rfl
theorem pO_init_42 : alk tO_init 42 = some (.putfield 35, 3) := rfl
theorem pO_init_45 : alk tO_init 45 = some (.aload_n 0, 1) := rfl
theorem pO_init_46 : alk tO_init 46 = some (.iload 4, 2) := rfl
theorem pO_init_48 : alk tO_init 48 = some (.putfield 38, 3) := rfl
theorem pO_init_51 : alk tO_init 51 = some (.aload_n 0, 1) := rfl
theorem pO_init_52 : alk tO_init 52 = some (.iload 5, 2) := rfl
theorem pO_init_54 : alk tO_init 54 = some (.putfield 41, 3) := rfl
theorem pO_init_57 : alk tO_init 57 = some (.aload_n 0, 1) := rfl
theorem pO_init_58 : alk tO_init 58 = some (.iload 6, 2) := rfl
theorem pO_init_60 : alk tO_init 60 = some (.putfield 44, 3) := rfl
theorem pO_init_63 : alk tO_init 63 = some (.aload_n 0, 1) := rfl
theorem pO_init_64 : alk tO_init 64 = some (.iload 7, 2) := rfl
theorem pO_init_66 : alk tO_init 66 = some (.putfield 47, 3) := rfl
theorem pO_init_69 : alk tO_init 69 = some (.return_, 1) := rfl
def tE_init : TB := [(0, .aload_n 0, 1), (1, .invokespecial 3, 3), (4, .aload_n 0, 1), (5, .iconst 5, 1), (6, .newarray .int, 2), (8, .putfield 9, 3), (11, .aload_n 0, 1), (12, .iconst 5, 1), (13, .newarray .int, 2), (15, .putfield 15, 3), (18, .aload_n 0, 1), (19, .iconst 0, 1), (20, .putfield 18, 3), (23, .aload_n 0, 1), (24, .iconst 0, 1), (25, .putfield 22, 3), (28, .aload_n 0, 1), (29, .iconst 0, 1), (30, .putfield 25, 3), (33, .aload_n 0, 1), (34, .iconst 0, 1), (35, .putfield 28, 3), (38, .aload_n 0, 1), (39, .iconst 0, 1), (40, .putfield 31, 3), (43, .aload_n 0, 1), (44, .iconst (-1), 1), (45, .putfield 34, 3), (48, .aload_n 0, 1), (49, .iconst 0, 1), (50, .putfield 37, 3), (53, .aload_n 0, 1), (54, .iconst 0, 1), (55, .putfield 40, 3), (58, .aload_n 0, 1), (59, .iconst (-1), 1), (60, .putfield 44, 3), (63, .return_, 1)]
set_option maxRecDepth 100000 in
theorem kE_init : tbOk (mB mE_init) tE_init = true := by decide +kernel
theorem pE_init_0 : alk tE_init 0 = some (.aload_n 0, 1) := rfl
theorem pE_init_1 : alk tE_init 1 = some (.invokespecial 3, 3) := rfl
theorem pE_init_4 : alk tE_init 4 = some (.aload_n 0, 1) := rfl
theorem pE_init_5 : alk tE_init 5 = some (.iconst 5, 1) := rfl
theorem pE_init_6 : alk tE_init 6 = some (.newarray .int, 2) := rfl
theorem pE_init_8 : alk tE_init 8 = some (.putfield 9, 3) := rfl
theorem pE_init_11 : alk tE_init 11 = some (.aload_n 0, 1) := rfl
theorem pE_init_12 : alk tE_init 12 = some (.iconst 5, 1) := rfl
theorem pE_init_13 : alk tE_init 13 = some (.newarray .int, 2) := rfl
theorem pE_init_15 : alk tE_init 15 = some (.putfield 15, 3) := rfl
theorem pE_init_18 : alk tE_init 18 = some (.aload_n 0, 1) := rfl
theorem pE_init_19 : alk tE_init 19 = some (.iconst 0, 1) := rfl
theorem pE_init_20 : alk tE_init 20 = some (.putfield 18, 3) := rfl
theorem pE_init_23 : alk tE_init 23 = some (.aload_n 0, 1) := rfl
theorem pE_init_24 : alk tE_init 24 = some (.iconst 0, 1) := rfl
theorem pE_init_25 : alk tE_init 25 = some (.putfield 22, 3) := rfl
theorem pE_init_28 : alk tE_init 28 = some (.aload_n 0, 1) := rfl
theorem pE_init_29 : alk tE_init 29 = some (.iconst 0, 1) := rfl
theorem pE_init_30 : alk tE_init 30 = some (.putfield 25, 3) := rfl
theorem pE_init_33 : alk tE_init 33 = some (.aload_n 0, 1) := rfl
theorem pE_init_34 : alk tE_init 34 = some (.iconst 0, 1) := rfl
theorem pE_init_35 : alk tE_init 35 = some (.putfield 28, 3) := rfl
theorem pE_init_38 : alk tE_init 38 = some (.aload_n 0, 1) := rfl
theorem pE_init_39 : alk tE_init 39 = some (.iconst 0, 1) := rfl
theorem pE_init_40 : alk tE_init 40 = some (.putfield 31, 3) := rfl
theorem pE_init_43 : alk tE_init 43 = some (.aload_n 0, 1) := rfl
theorem pE_init_44 : alk tE_init 44 = some (.iconst (-1), 1) := rfl
theorem pE_init_45 : alk tE_init 45 = some (.putfield 34, 3) := rfl
theorem pE_init_48 : alk tE_init 48 = some (.aload_n 0, 1) := rfl
theorem pE_init_49 : alk tE_init 49 = some (.iconst 0, 1) := rfl
theorem pE_init_50 : alk tE_init 50 = some (.putfield 37, 3) := rfl
theorem pE_init_53 : alk tE_init 53 = some (.aload_n 0, 1) := rfl
theorem pE_init_54 : alk tE_init 54 = some (.iconst 0, 1) := rfl
theorem pE_init_55 : alk tE_init 55 = some (.putfield 40, 3) := rfl
theorem pE_init_58 : alk tE_init 58 = some (.aload_n 0, 1) := rfl
theorem pE_init_59 : alk tE_init 59 = some (.iconst (-1), 1) := rfl
theorem pE_init_60 : alk tE_init 60 = some (.putfield 44, 3) := rfl
theorem pE_init_63 : alk tE_init 63 = some (.return_, 1) := rfl
def tS_admit : TB := [(0, .aload_n 0, 1), (1, .getfield 19, 3), (4, .aload_n 1, 1), (5, .invokevirtual 274, 3), (8, .pop, 1), (9, .aload_n 0, 1), (10, .getfield 19, 3), (13, .invokevirtual 96, 3), (16, .iconst 1, 1), (17, .isub, 1), (18, .ireturn, 1)]
set_option maxRecDepth 100000 in
theorem kS_admit : tbOk (mB mS_admit) tS_admit = true := by decide +kernel
theorem pS_admit_0 : alk tS_admit 0 = some (.aload_n 0, 1) := rfl
theorem pS_admit_1 : alk tS_admit 1 = some (.getfield 19, 3) := rfl
theorem pS_admit_4 : alk tS_admit 4 = some (.aload_n 1, 1) := rfl
theorem pS_admit_5 : alk tS_admit 5 = some (.invokevirtual 274, 3) := rfl
theorem pS_admit_8 : alk tS_admit 8 = some (.pop, 1) := rfl
theorem pS_admit_9 : alk tS_admit 9 = some (.aload_n 0, 1) := rfl
theorem pS_admit_10 : alk tS_admit 10 = some (.getfield 19, 3) := rfl
theorem pS_admit_13 : alk tS_admit 13 = some (.invokevirtual 96, 3) := rfl
theorem pS_admit_16 : alk tS_admit 16 = some (.iconst 1, 1) := rfl
theorem pS_admit_17 : alk tS_admit 17 = some (.isub, 1) := rfl
theorem pS_admit_18 : alk tS_admit 18 = some (.ireturn, 1) := rfl
def tS_sort : TB := [(0, .aload_n 0, 1), (1, .iload_n 1, 1), (2, .invokevirtual 141, 3), (5, .astore 5, 2), (7, .aload 5, 2), (9, .ifnull 24, 3), (12, .iload_n 3, 1), (13, .invokestatic 117, 3), (16, .ifCond .eq 17, 3), (19, .aload_n 0, 1), (20, .getfield 12, 3), (23, .iload_n 3, 1), (24, .bipush 10, 2), (26, .idiv, 1), (27, .invokevirtual 89, 3), (30, .ifCond .ne 10, 3), (33, .aload_n 0, 1), (34, .bipush (-3), 2), (36, .invokevirtual 79, 3), (39, .ireturn, 1), (40, .iload_n 3, 1), (41, .bipush 10, 2), (43, .idiv, 1), (44, .istore 6, 2), (46, .aload 5, 2), (48, .getfield 145, 3), (51, .iconst 3, 1), (52, .if_icmp .ne 16, 3), (55, .aload_n 0, 1), (56, .getfield 12, 3), (59, .iload 6, 2), (61, .invokevirtual 120, 3), (64, .iconst 1, 1), (65, .if_icmp .eq 10, 3), (68, .aload_n 0, 1), (69, .bipush (-5), 2), (71, .invokevirtual 79, 3), (74, .ireturn, 1), (75, .aload_n 0, 1), (76, .aload 5, 2), (78, .iconst 1, 1), (79, .invokevirtual 148, 3), (82, .ifCond .eq 35, 3), (85, .iload_n 2, 1), (86, .iconst 1, 1), (87, .aload 5, 2), (89, .getfield 152, 3), (92, .iconst 1, 1), (93, .isub, 1), (94, .invokestatic 75, 3), (97, .ifCond .eq 20, 3), (100, .iload 4, 2), (102, .invokestatic 126, 3), (105, .ifCond .eq 12, 3), (108, .aload_n 0, 1), (109, .iload 6, 2), (111, .invokevirtual 129, 3), (114, .ifCond .eq 10, 3), (117, .aload_n 0, 1), (118, .bipush (-7), 2), (120, .invokevirtual 79, 3), (123, .ireturn, 1), (124, .aload_n 0, 1), (125, .getfield 19, 3), (128, .invokevirtual 96, 3), (131, .bipush 24, 2), (133, .if_icmp .lt 10, 3), (136, .aload_n 0, 1), (137, .bipush (-8), 2), (139, .invokevirtual 79, 3), (142, .ireturn, 1), (143, .aload 5, 2), (145, .dup, 1), (146, .getfield 152, 3), (149, .iload_n 2, 1), (150, .isub, 1), (151, .putfield 152, 3), (154, .aload_n 0, 1), (155, .new 132, 3), (158, .dup, 1), (159, .iconst 0, 1), (160, .iload_n 3, 1), (161, .bipush 10, 2), (163, .irem, 1), (164, .iload_n 2, 1), (165, .aload 5, 2), (167, .getfield 155, 3), (170, .iload 4, 2), (172, .aload 5, 2), (174, .getfield 158, 3), (177, .iload 6, 2), (179, .invokespecial 134, 3), (182, .invokevirtual 137, 3), (185, .ireturn, 1)]
set_option maxRecDepth 100000 in
theorem kS_sort : tbOk (mB mS_sort) tS_sort = true := by decide +kernel
theorem pS_sort_0 : alk tS_sort 0 = some (.aload_n 0, 1) := rfl
theorem pS_sort_1 : alk tS_sort 1 = some (.iload_n 1, 1) := rfl
theorem pS_sort_2 : alk tS_sort 2 = some (.invokevirtual 141, 3) := rfl
theorem pS_sort_5 : alk tS_sort 5 = some (.astore 5, 2) := rfl
theorem pS_sort_7 : alk tS_sort 7 = some (.aload 5, 2) := rfl
theorem pS_sort_9 : alk tS_sort 9 = some (.ifnull 24, 3) := rfl
theorem pS_sort_12 : alk tS_sort 12 = some (.iload_n 3, 1) := rfl
theorem pS_sort_13 : alk tS_sort 13 = some (.invokestatic 117, 3) := rfl
theorem pS_sort_16 : alk tS_sort 16 = some (.ifCond .eq 17, 3) := rfl
theorem pS_sort_19 : alk tS_sort 19 = some (.aload_n 0, 1) := rfl
theorem pS_sort_20 : alk tS_sort 20 = some (.getfield 12, 3) := rfl
theorem pS_sort_23 : alk tS_sort 23 = some (.iload_n 3, 1) := rfl
theorem pS_sort_24 : alk tS_sort 24 = some (.bipush 10, 2) := rfl
theorem pS_sort_26 : alk tS_sort 26 = some (.idiv, 1) := rfl
theorem pS_sort_27 : alk tS_sort 27 = some (.invokevirtual 89, 3) := rfl
theorem pS_sort_30 : alk tS_sort 30 = some (.ifCond .ne 10, 3) := rfl
theorem pS_sort_33 : alk tS_sort 33 = some (.aload_n 0, 1) := rfl
theorem pS_sort_34 : alk tS_sort 34 = some (.bipush (-3), 2) := rfl
theorem pS_sort_36 : alk tS_sort 36 = some (.invokevirtual 79, 3) := rfl
theorem pS_sort_39 : alk tS_sort 39 = some (.ireturn, 1) := rfl
theorem pS_sort_40 : alk tS_sort 40 = some (.iload_n 3, 1) := rfl
theorem pS_sort_41 : alk tS_sort 41 = some (.bipush 10, 2) := rfl
theorem pS_sort_43 : alk tS_sort 43 = some (.idiv, 1) := rfl
theorem pS_sort_44 : alk tS_sort 44 = some (.istore 6, 2) := rfl
theorem pS_sort_46 : alk tS_sort 46 = some (.aload 5, 2) := rfl
theorem pS_sort_48 : alk tS_sort 48 = some (.getfield 145, 3) := rfl
theorem pS_sort_51 : alk tS_sort 51 = some (.iconst 3, 1) := rfl
theorem pS_sort_52 : alk tS_sort 52 = some (.if_icmp .ne 16, 3) := rfl
theorem pS_sort_55 : alk tS_sort 55 = some (.aload_n 0, 1) := rfl
theorem pS_sort_56 : alk tS_sort 56 = some (.getfield 12, 3) := rfl
theorem pS_sort_59 : alk tS_sort 59 = some (.iload 6, 2) := rfl
theorem pS_sort_61 : alk tS_sort 61 = some (.invokevirtual 120, 3) := rfl
theorem pS_sort_64 : alk tS_sort 64 = some (.iconst 1, 1) := rfl
theorem pS_sort_65 : alk tS_sort 65 = some (.if_icmp .eq 10, 3) := rfl
theorem pS_sort_68 : alk tS_sort 68 = some (.aload_n 0, 1) := rfl
theorem pS_sort_69 : alk tS_sort 69 = some (.bipush (-5), 2) := rfl
theorem pS_sort_71 : alk tS_sort 71 = some (.invokevirtual 79, 3) := rfl
theorem pS_sort_74 : alk tS_sort 74 = some (.ireturn, 1) := rfl
theorem pS_sort_75 : alk tS_sort 75 = some (.aload_n 0, 1) := rfl
theorem pS_sort_76 : alk tS_sort 76 = some (.aload 5, 2) := rfl
theorem pS_sort_78 : alk tS_sort 78 = some (.iconst 1, 1) := rfl
theorem pS_sort_79 : alk tS_sort 79 = some (.invokevirtual 148, 3) := rfl
theorem pS_sort_82 : alk tS_sort 82 = some (.ifCond .eq 35, 3) := rfl
theorem pS_sort_85 : alk tS_sort 85 = some (.iload_n 2, 1) := rfl
theorem pS_sort_86 : alk tS_sort 86 = some (.iconst 1, 1) := rfl
theorem pS_sort_87 : alk tS_sort 87 = some (.aload 5, 2) := rfl
theorem pS_sort_89 : alk tS_sort 89 = some (.getfield 152, 3) := rfl
theorem pS_sort_92 : alk tS_sort 92 = some (.iconst 1, 1) := rfl
theorem pS_sort_93 : alk tS_sort 93 = some (.isub, 1) := rfl
theorem pS_sort_94 : alk tS_sort 94 = some (.invokestatic 75, 3) := rfl
theorem pS_sort_97 : alk tS_sort 97 = some (.ifCond .eq 20, 3) := rfl
theorem pS_sort_100 : alk tS_sort 100 = some (.iload 4, 2) := rfl
theorem pS_sort_102 : alk tS_sort 102 = some (.invokestatic 126, 3) := rfl
theorem pS_sort_105 : alk tS_sort 105 = some (.ifCond .eq 12, 3) := rfl
theorem pS_sort_108 : alk tS_sort 108 = some (.aload_n 0, 1) := rfl
theorem pS_sort_109 : alk tS_sort 109 = some (.iload 6, 2) := rfl
theorem pS_sort_111 : alk tS_sort 111 = some (.invokevirtual 129, 3) := rfl
theorem pS_sort_114 : alk tS_sort 114 = some (.ifCond .eq 10, 3) := rfl
theorem pS_sort_117 : alk tS_sort 117 = some (.aload_n 0, 1) := rfl
theorem pS_sort_118 : alk tS_sort 118 = some (.bipush (-7), 2) := rfl
theorem pS_sort_120 : alk tS_sort 120 = some (.invokevirtual 79, 3) := rfl
set_option maxRecDepth 20000 in
theorem pS_sort_123 : alk tS_sort 123 = some (.ireturn, 1) := rfl
set_option maxRecDepth 20000 in
theorem pS_sort_124 : alk tS_sort 124 = some (.aload_n 0, 1) := rfl
set_option maxRecDepth 20000 in
theorem pS_sort_125 : alk tS_sort 125 = some (.getfield 19, 3) := rfl
set_option maxRecDepth 20000 in
theorem pS_sort_128 : alk tS_sort 128 = some (.invokevirtual 96, 3) := rfl
set_option maxRecDepth 20000 in
theorem pS_sort_131 : alk tS_sort 131 = some (.bipush 24, 2) := rfl
set_option maxRecDepth 20000 in
theorem pS_sort_133 : alk tS_sort 133 = some (.if_icmp .lt 10, 3) := rfl
set_option maxRecDepth 20000 in
theorem pS_sort_136 : alk tS_sort 136 = some (.aload_n 0, 1) := rfl
set_option maxRecDepth 20000 in
theorem pS_sort_137 : alk tS_sort 137 = some (.bipush (-8), 2) := rfl
set_option maxRecDepth 20000 in
theorem pS_sort_139 : alk tS_sort 139 = some (.invokevirtual 79, 3) := rfl
set_option maxRecDepth 20000 in
theorem pS_sort_142 : alk tS_sort 142 = some (.ireturn, 1) := rfl
set_option maxRecDepth 20000 in
theorem pS_sort_143 : alk tS_sort 143 = some (.aload 5, 2) := rfl
set_option maxRecDepth 20000 in
theorem pS_sort_145 : alk tS_sort 145 = some (.dup, 1) := rfl
set_option maxRecDepth 20000 in
theorem pS_sort_146 : alk tS_sort 146 = some (.getfield 152, 3) := rfl
set_option maxRecDepth 20000 in
theorem pS_sort_149 : alk tS_sort 149 = some (.iload_n 2, 1) := rfl
set_option maxRecDepth 20000 in
theorem pS_sort_150 : alk tS_sort 150 = some (.isub, 1) := rfl
set_option maxRecDepth 20000 in
theorem pS_sort_151 : alk tS_sort 151 = some (.putfield 152, 3) := rfl
set_option maxRecDepth 20000 in
theorem pS_sort_154 : alk tS_sort 154 = some (.aload_n 0, 1) := rfl
set_option maxRecDepth 20000 in
theorem pS_sort_155 : alk tS_sort 155 = some (.new 132, 3) := rfl
set_option maxRecDepth 20000 in
theorem pS_sort_158 : alk tS_sort 158 = some (.dup, 1) := rfl
set_option maxRecDepth 20000 in
theorem pS_sort_159 : alk tS_sort 159 = some (.iconst 0, 1) := rfl
set_option maxRecDepth 20000 in
theorem pS_sort_160 : alk tS_sort 160 = some (.iload_n 3, 1) := rfl
set_option maxRecDepth 20000 in
theorem pS_sort_161 : alk tS_sort 161 = some (.bipush 10, 2) := rfl
set_option maxRecDepth 20000 in
theorem pS_sort_163 : alk tS_sort 163 = some (.irem, 1) := rfl
set_option maxRecDepth 20000 in
theorem pS_sort_164 : alk tS_sort 164 = some (.iload_n 2, 1) := rfl
set_option maxRecDepth 20000 in
theorem pS_sort_165 : alk tS_sort 165 = some (.aload 5, 2) := rfl
set_option maxRecDepth 20000 in
theorem pS_sort_167 : alk tS_sort 167 = some (.getfield 155, 3) := rfl
set_option maxRecDepth 20000 in
theorem pS_sort_170 : alk tS_sort 170 = some (.iload 4, 2) := rfl
set_option maxRecDepth 20000 in
theorem pS_sort_172 : alk tS_sort 172 = some (.aload 5, 2) := rfl
set_option maxRecDepth 20000 in
theorem pS_sort_174 : alk tS_sort 174 = some (.getfield 158, 3) := rfl
set_option maxRecDepth 20000 in
theorem pS_sort_177 : alk tS_sort 177 = some (.iload 6, 2) := rfl
set_option maxRecDepth 20000 in
theorem pS_sort_179 : alk tS_sort 179 = some (.invokespecial 134, 3) := rfl
set_option maxRecDepth 20000 in
theorem pS_sort_182 : alk tS_sort 182 = some (.invokevirtual 137, 3) := rfl
set_option maxRecDepth 20000 in
theorem pS_sort_185 : alk tS_sort 185 = some (.ireturn, 1) := rfl
def tS_lotAt : TB := [(0, .iload_n 1, 1), (1, .ifCond .lt 28, 3), (4, .iload_n 1, 1), (5, .aload_n 0, 1), (6, .getfield 19, 3), (9, .invokevirtual 96, 3), (12, .if_icmp .ge 17, 3), (15, .aload_n 0, 1), (16, .getfield 19, 3), (19, .iload_n 1, 1), (20, .invokevirtual 277, 3), (23, .checkcast 132, 3), (26, .goto 4, 3), (29, .aconst_null, 1), (30, .areturn, 1)]
set_option maxRecDepth 100000 in
theorem kS_lotAt : tbOk (mB mS_lotAt) tS_lotAt = true := by decide +kernel
theorem pS_lotAt_0 : alk tS_lotAt 0 = some (.iload_n 1, 1) := rfl
theorem pS_lotAt_1 : alk tS_lotAt 1 = some (.ifCond .lt 28, 3) := rfl
theorem pS_lotAt_4 : alk tS_lotAt 4 = some (.iload_n 1, 1) := rfl
theorem pS_lotAt_5 : alk tS_lotAt 5 = some (.aload_n 0, 1) := rfl
theorem pS_lotAt_6 : alk tS_lotAt 6 = some (.getfield 19, 3) := rfl
theorem pS_lotAt_9 : alk tS_lotAt 9 = some (.invokevirtual 96, 3) := rfl
theorem pS_lotAt_12 : alk tS_lotAt 12 = some (.if_icmp .ge 17, 3) := rfl
theorem pS_lotAt_15 : alk tS_lotAt 15 = some (.aload_n 0, 1) := rfl
theorem pS_lotAt_16 : alk tS_lotAt 16 = some (.getfield 19, 3) := rfl
theorem pS_lotAt_19 : alk tS_lotAt 19 = some (.iload_n 1, 1) := rfl
theorem pS_lotAt_20 : alk tS_lotAt 20 = some (.invokevirtual 277, 3) := rfl
theorem pS_lotAt_23 : alk tS_lotAt 23 = some (.checkcast 132, 3) := rfl
theorem pS_lotAt_26 : alk tS_lotAt 26 = some (.goto 4, 3) := rfl
theorem pS_lotAt_29 : alk tS_lotAt 29 = some (.aconst_null, 1) := rfl
theorem pS_lotAt_30 : alk tS_lotAt 30 = some (.areturn, 1) := rfl
def tS_isIn : TB := [(0, .aload_n 0, 1), (1, .getfield 12, 3), (4, .aload_n 1, 1), (5, .getfield 167, 3), (8, .invokevirtual 120, 3), (11, .iload_n 2, 1), (12, .if_icmp .ne 7, 3), (15, .iconst 1, 1), (16, .goto 4, 3), (19, .iconst 0, 1), (20, .ireturn, 1)]
set_option maxRecDepth 100000 in
theorem kS_isIn : tbOk (mB mS_isIn) tS_isIn = true := by decide +kernel
theorem pS_isIn_0 : alk tS_isIn 0 = some (.aload_n 0, 1) := rfl
theorem pS_isIn_1 : alk tS_isIn 1 = some (.getfield 12, 3) := rfl
theorem pS_isIn_4 : alk tS_isIn 4 = some (.aload_n 1, 1) := rfl
theorem pS_isIn_5 : alk tS_isIn 5 = some (.getfield 167, 3) := rfl
theorem pS_isIn_8 : alk tS_isIn 8 = some (.invokevirtual 120, 3) := rfl
theorem pS_isIn_11 : alk tS_isIn 11 = some (.iload_n 2, 1) := rfl
theorem pS_isIn_12 : alk tS_isIn 12 = some (.if_icmp .ne 7, 3) := rfl
theorem pS_isIn_15 : alk tS_isIn 15 = some (.iconst 1, 1) := rfl
theorem pS_isIn_16 : alk tS_isIn 16 = some (.goto 4, 3) := rfl
theorem pS_isIn_19 : alk tS_isIn 19 = some (.iconst 0, 1) := rfl
theorem pS_isIn_20 : alk tS_isIn 20 = some (.ireturn, 1) := rfl
def tS_look : TB := [(0, .aload_n 0, 1), (1, .iload_n 1, 1), (2, .invokevirtual 141, 3), (5, .astore_n 3, 1), (6, .aload_n 3, 1), (7, .ifnonnull 10, 3), (10, .aload_n 0, 1), (11, .bipush (-3), 2), (13, .invokevirtual 79, 3), (16, .ireturn, 1), (17, .iload_n 2, 1), (18, .tableswitch 180 0 12 #[66, 71, 76, 81, 86, 91, 96, 101, 106, 115, 136, 150, 158], 66), (84, .aload_n 3, 1), (85, .getfield 145, 3), (88, .ireturn, 1), (89, .aload_n 3, 1), (90, .getfield 161, 3), (93, .ireturn, 1), (94, .aload_n 3, 1), (95, .getfield 152, 3), (98, .ireturn, 1), (99, .aload_n 3, 1), (100, .getfield 155, 3), (103, .ireturn, 1), (104, .aload_n 3, 1), (105, .getfield 164, 3), (108, .ireturn, 1), (109, .aload_n 3, 1), (110, .getfield 167, 3), (113, .ireturn, 1), (114, .aload_n 3, 1), (115, .getfield 170, 3), (118, .ireturn, 1), (119, .aload_n 3, 1), (120, .getfield 173, 3), (123, .ireturn, 1), (124, .aload_n 3, 1), (125, .aload_n 0, 1), (126, .getfield 71, 3), (129, .invokevirtual 176, 3), (132, .ireturn, 1), (133, .aload_n 0, 1), (134, .getfield 33, 3), (137, .aload_n 3, 1), (138, .aload_n 0, 1), (139, .getfield 71, 3), (142, .invokevirtual 179, 3), (145, .ifCond .eq 7, 3), (148, .iconst 1, 1), (149, .goto 4, 3), (152, .iconst 0, 1), (153, .ireturn, 1), (154, .aload_n 0, 1), (155, .aload_n 3, 1), (156, .invokevirtual 182, 3), (159, .ifCond .eq 7, 3), (162, .iconst 1, 1), (163, .goto 4, 3), (166, .iconst 0, 1), (167, .ireturn, 1), (168, .aload_n 3, 1), (169, .getfield 186, 3), (172, .getfield 190, 3), (175, .ireturn, 1), (176, .aload_n 3, 1), (177, .getfield 186, 3), (180, .getfield 195, 3), (183, .ifCond .eq 13, 3), (186, .aload_n 3, 1), (187, .getfield 186, 3), (190, .getfield 199, 3), (193, .goto 4, 3), (196, .iconst (-1), 1), (197, .ireturn, 1), (198, .aload_n 0, 1), (199, .bipush (-7), 2), (201, .invokevirtual 79, 3), (204, .ireturn, 1)]
set_option maxRecDepth 100000 in
theorem kS_look : tbOk (mB mS_look) tS_look = true := by decide +kernel
theorem pS_look_0 : alk tS_look 0 = some (.aload_n 0, 1) := rfl
theorem pS_look_1 : alk tS_look 1 = some (.iload_n 1, 1) := rfl
theorem pS_look_2 : alk tS_look 2 = some (.invokevirtual 141, 3) := rfl
theorem pS_look_5 : alk tS_look 5 = some (.astore_n 3, 1) := rfl
theorem pS_look_6 : alk tS_look 6 = some (.aload_n 3, 1) := rfl
theorem pS_look_7 : alk tS_look 7 = some (.ifnonnull 10, 3) := rfl
theorem pS_look_10 : alk tS_look 10 = some (.aload_n 0, 1) := rfl
theorem pS_look_11 : alk tS_look 11 = some (.bipush (-3), 2) := rfl
theorem pS_look_13 : alk tS_look 13 = some (.invokevirtual 79, 3) := rfl
theorem pS_look_16 : alk tS_look 16 = some (.ireturn, 1) := rfl
theorem pS_look_17 : alk tS_look 17 = some (.iload_n 2, 1) := rfl
theorem pS_look_18 : alk tS_look 18 = some (.tableswitch 180 0 12 #[66, 71, 76, 81, 86, 91, 96, 101, 106, 115, 136, 150, 158], 66) := rfl
theorem pS_look_84 : alk tS_look 84 = some (.aload_n 3, 1) := rfl
theorem pS_look_85 : alk tS_look 85 = some (.getfield 145, 3) := rfl
theorem pS_look_88 : alk tS_look 88 = some (.ireturn, 1) := rfl
theorem pS_look_89 : alk tS_look 89 = some (.aload_n 3, 1) := rfl
theorem pS_look_90 : alk tS_look 90 = some (.getfield 161, 3) := rfl
theorem pS_look_93 : alk tS_look 93 = some (.ireturn, 1) := rfl
theorem pS_look_94 : alk tS_look 94 = some (.aload_n 3, 1) := rfl
theorem pS_look_95 : alk tS_look 95 = some (.getfield 152, 3) := rfl
theorem pS_look_98 : alk tS_look 98 = some (.ireturn, 1) := rfl
theorem pS_look_99 : alk tS_look 99 = some (.aload_n 3, 1) := rfl
theorem pS_look_100 : alk tS_look 100 = some (.getfield 155, 3) := rfl
theorem pS_look_103 : alk tS_look 103 = some (.ireturn, 1) := rfl
theorem pS_look_104 : alk tS_look 104 = some (.aload_n 3, 1) := rfl
theorem pS_look_105 : alk tS_look 105 = some (.getfield 164, 3) := rfl
theorem pS_look_108 : alk tS_look 108 = some (.ireturn, 1) := rfl
theorem pS_look_109 : alk tS_look 109 = some (.aload_n 3, 1) := rfl
theorem pS_look_110 : alk tS_look 110 = some (.getfield 167, 3) := rfl
theorem pS_look_113 : alk tS_look 113 = some (.ireturn, 1) := rfl
theorem pS_look_114 : alk tS_look 114 = some (.aload_n 3, 1) := rfl
theorem pS_look_115 : alk tS_look 115 = some (.getfield 170, 3) := rfl
theorem pS_look_118 : alk tS_look 118 = some (.ireturn, 1) := rfl
theorem pS_look_119 : alk tS_look 119 = some (.aload_n 3, 1) := rfl
theorem pS_look_120 : alk tS_look 120 = some (.getfield 173, 3) := rfl
theorem pS_look_123 : alk tS_look 123 = some (.ireturn, 1) := rfl
theorem pS_look_124 : alk tS_look 124 = some (.aload_n 3, 1) := rfl
theorem pS_look_125 : alk tS_look 125 = some (.aload_n 0, 1) := rfl
theorem pS_look_126 : alk tS_look 126 = some (.getfield 71, 3) := rfl
theorem pS_look_129 : alk tS_look 129 = some (.invokevirtual 176, 3) := rfl
theorem pS_look_132 : alk tS_look 132 = some (.ireturn, 1) := rfl
theorem pS_look_133 : alk tS_look 133 = some (.aload_n 0, 1) := rfl
theorem pS_look_134 : alk tS_look 134 = some (.getfield 33, 3) := rfl
theorem pS_look_137 : alk tS_look 137 = some (.aload_n 3, 1) := rfl
theorem pS_look_138 : alk tS_look 138 = some (.aload_n 0, 1) := rfl
theorem pS_look_139 : alk tS_look 139 = some (.getfield 71, 3) := rfl
theorem pS_look_142 : alk tS_look 142 = some (.invokevirtual 179, 3) := rfl
theorem pS_look_145 : alk tS_look 145 = some (.ifCond .eq 7, 3) := rfl
theorem pS_look_148 : alk tS_look 148 = some (.iconst 1, 1) := rfl
theorem pS_look_149 : alk tS_look 149 = some (.goto 4, 3) := rfl
theorem pS_look_152 : alk tS_look 152 = some (.iconst 0, 1) := rfl
theorem pS_look_153 : alk tS_look 153 = some (.ireturn, 1) := rfl
theorem pS_look_154 : alk tS_look 154 = some (.aload_n 0, 1) := rfl
theorem pS_look_155 : alk tS_look 155 = some (.aload_n 3, 1) := rfl
theorem pS_look_156 : alk tS_look 156 = some (.invokevirtual 182, 3) := rfl
theorem pS_look_159 : alk tS_look 159 = some (.ifCond .eq 7, 3) := rfl
theorem pS_look_162 : alk tS_look 162 = some (.iconst 1, 1) := rfl
theorem pS_look_163 : alk tS_look 163 = some (.goto 4, 3) := rfl
theorem pS_look_166 : alk tS_look 166 = some (.iconst 0, 1) := rfl
theorem pS_look_167 : alk tS_look 167 = some (.ireturn, 1) := rfl
theorem pS_look_168 : alk tS_look 168 = some (.aload_n 3, 1) := rfl
set_option maxRecDepth 20000 in
theorem pS_look_169 : alk tS_look 169 = some (.getfield 186, 3) := rfl
set_option maxRecDepth 20000 in
theorem pS_look_172 : alk tS_look 172 = some (.getfield 190, 3) := rfl
set_option maxRecDepth 20000 in
theorem pS_look_175 : alk tS_look 175 = some (.ireturn, 1) := rfl
set_option maxRecDepth 20000 in
theorem pS_look_176 : alk tS_look 176 = some (.aload_n 3, 1) := rfl
set_option maxRecDepth 20000 in
theorem pS_look_177 : alk tS_look 177 = some (.getfield 186, 3) := rfl
set_option maxRecDepth 20000 in
theorem pS_look_180 : alk tS_look 180 = some (.getfield 195, 3) := rfl
set_option maxRecDepth 20000 in
theorem pS_look_183 : alk tS_look 183 = some (.ifCond .eq 13, 3) := rfl
set_option maxRecDepth 20000 in
theorem pS_look_186 : alk tS_look 186 = some (.aload_n 3, 1) := rfl
set_option maxRecDepth 20000 in
theorem pS_look_187 : alk tS_look 187 = some (.getfield 186, 3) := rfl
set_option maxRecDepth 20000 in
theorem pS_look_190 : alk tS_look 190 = some (.getfield 199, 3) := rfl
set_option maxRecDepth 20000 in
theorem pS_look_193 : alk tS_look 193 = some (.goto 4, 3) := rfl
set_option maxRecDepth 20000 in
theorem pS_look_196 : alk tS_look 196 = some (.iconst (-1), 1) := rfl
set_option maxRecDepth 20000 in
theorem pS_look_197 : alk tS_look 197 = some (.ireturn, 1) := rfl
set_option maxRecDepth 20000 in
theorem pS_look_198 : alk tS_look 198 = some (.aload_n 0, 1) := rfl
set_option maxRecDepth 20000 in
theorem pS_look_199 : alk tS_look 199 = some (.bipush (-7), 2) := rfl
set_option maxRecDepth 20000 in
theorem pS_look_201 : alk tS_look 201 = some (.invokevirtual 79, 3) := rfl
set_option maxRecDepth 20000 in
theorem pS_look_204 : alk tS_look 204 = some (.ireturn, 1) := rfl
def tO_thirst : TB := [(0, .iload_n 1, 1), (1, .aload_n 0, 1), (2, .getfield 44, 3), (5, .isub, 1), (6, .ireturn, 1)]
set_option maxRecDepth 100000 in
theorem kO_thirst : tbOk (mB mO_thirst) tO_thirst = true := by decide +kernel
theorem pO_thirst_0 : alk tO_thirst 0 = some (.iload_n 1, 1) := rfl
theorem pO_thirst_1 : alk tO_thirst 1 = some (.aload_n 0, 1) := rfl
theorem pO_thirst_2 : alk tO_thirst 2 = some (.getfield 44, 3) := rfl
theorem pO_thirst_5 : alk tO_thirst 5 = some (.isub, 1) := rfl
theorem pO_thirst_6 : alk tO_thirst 6 = some (.ireturn, 1) := rfl
def tB_isDry : TB := [(0, .aload_n 1, 1), (1, .iload_n 2, 1), (2, .invokevirtual 39, 3), (5, .aload_n 0, 1), (6, .iconst 2, 1), (7, .aload_n 1, 1), (8, .iconst (-1), 1), (9, .iload_n 2, 1), (10, .invokevirtual 45, 3), (13, .if_icmp .le 7, 3), (16, .iconst 1, 1), (17, .goto 4, 3), (20, .iconst 0, 1), (21, .ireturn, 1)]
set_option maxRecDepth 100000 in
theorem kB_isDry : tbOk (mB mB_isDry) tB_isDry = true := by decide +kernel
theorem pB_isDry_0 : alk tB_isDry 0 = some (.aload_n 1, 1) := rfl
theorem pB_isDry_1 : alk tB_isDry 1 = some (.iload_n 2, 1) := rfl
theorem pB_isDry_2 : alk tB_isDry 2 = some (.invokevirtual 39, 3) := rfl
theorem pB_isDry_5 : alk tB_isDry 5 = some (.aload_n 0, 1) := rfl
theorem pB_isDry_6 : alk tB_isDry 6 = some (.iconst 2, 1) := rfl
theorem pB_isDry_7 : alk tB_isDry 7 = some (.aload_n 1, 1) := rfl
theorem pB_isDry_8 : alk tB_isDry 8 = some (.iconst (-1), 1) := rfl
theorem pB_isDry_9 : alk tB_isDry 9 = some (.iload_n 2, 1) := rfl
theorem pB_isDry_10 : alk tB_isDry 10 = some (.invokevirtual 45, 3) := rfl
theorem pB_isDry_13 : alk tB_isDry 13 = some (.if_icmp .le 7, 3) := rfl
theorem pB_isDry_16 : alk tB_isDry 16 = some (.iconst 1, 1) := rfl
theorem pB_isDry_17 : alk tB_isDry 17 = some (.goto 4, 3) := rfl
theorem pB_isDry_20 : alk tB_isDry 20 = some (.iconst 0, 1) := rfl
theorem pB_isDry_21 : alk tB_isDry 21 = some (.ireturn, 1) := rfl
def tB_saying : TB := [(0, .aload_n 0, 1), (1, .getfield 12, 3), (4, .invokevirtual 18, 3), (7, .iconst 1, 1), (8, .isub, 1), (9, .istore 5, 2), (11, .iload 5, 2), (13, .ifCond .lt 50, 3), (16, .aload_n 0, 1), (17, .getfield 12, 3), (20, .iload 5, 2), (22, .invokevirtual 22, 3), (25, .checkcast 26, 3), (28, .astore 6, 2), (30, .aload 6, 2), (32, .getfield 28, 3), (35, .iload_n 1, 1), (36, .if_icmp .ne 21, 3), (39, .aload 6, 2), (41, .aload_n 2, 1), (42, .iload_n 3, 1), (43, .iload 4, 2), (45, .invokevirtual 32, 3), (48, .ifCond .eq 9, 3), (51, .aload 6, 2), (53, .getfield 36, 3), (56, .ireturn, 1), (57, .iinc 5 (-1), 3), (60, .goto (-49), 3), (63, .iload_n 1, 1), (64, .iconst 2, 1), (65, .if_icmp .ne 9, 3), (68, .sipush 1440, 3), (71, .goto 4, 3), (74, .iconst 0, 1), (75, .ireturn, 1)]
set_option maxRecDepth 100000 in
theorem kB_saying : tbOk (mB mB_saying) tB_saying = true := by decide +kernel
theorem pB_saying_0 : alk tB_saying 0 = some (.aload_n 0, 1) := rfl
theorem pB_saying_1 : alk tB_saying 1 = some (.getfield 12, 3) := rfl
theorem pB_saying_4 : alk tB_saying 4 = some (.invokevirtual 18, 3) := rfl
theorem pB_saying_7 : alk tB_saying 7 = some (.iconst 1, 1) := rfl
theorem pB_saying_8 : alk tB_saying 8 = some (.isub, 1) := rfl
theorem pB_saying_9 : alk tB_saying 9 = some (.istore 5, 2) := rfl
theorem pB_saying_11 : alk tB_saying 11 = some (.iload 5, 2) := rfl
theorem pB_saying_13 : alk tB_saying 13 = some (.ifCond .lt 50, 3) := rfl
theorem pB_saying_16 : alk tB_saying 16 = some (.aload_n 0, 1) := rfl
theorem pB_saying_17 : alk tB_saying 17 = some (.getfield 12, 3) := rfl
theorem pB_saying_20 : alk tB_saying 20 = some (.iload 5, 2) := rfl
theorem pB_saying_22 : alk tB_saying 22 = some (.invokevirtual 22, 3) := rfl
theorem pB_saying_25 : alk tB_saying 25 = some (.checkcast 26, 3) := rfl
theorem pB_saying_28 : alk tB_saying 28 = some (.astore 6, 2) := rfl
theorem pB_saying_30 : alk tB_saying 30 = some (.aload 6, 2) := rfl
theorem pB_saying_32 : alk tB_saying 32 = some (.getfield 28, 3) := rfl
theorem pB_saying_35 : alk tB_saying 35 = some (.iload_n 1, 1) := rfl
theorem pB_saying_36 : alk tB_saying 36 = some (.if_icmp .ne 21, 3) := rfl
theorem pB_saying_39 : alk tB_saying 39 = some (.aload 6, 2) := rfl
theorem pB_saying_41 : alk tB_saying 41 = some (.aload_n 2, 1) := rfl
theorem pB_saying_42 : alk tB_saying 42 = some (.iload_n 3, 1) := rfl
theorem pB_saying_43 : alk tB_saying 43 = some (.iload 4, 2) := rfl
theorem pB_saying_45 : alk tB_saying 45 = some (.invokevirtual 32, 3) := rfl
theorem pB_saying_48 : alk tB_saying 48 = some (.ifCond .eq 9, 3) := rfl
theorem pB_saying_51 : alk tB_saying 51 = some (.aload 6, 2) := rfl
theorem pB_saying_53 : alk tB_saying 53 = some (.getfield 36, 3) := rfl
theorem pB_saying_56 : alk tB_saying 56 = some (.ireturn, 1) := rfl
theorem pB_saying_57 : alk tB_saying 57 = some (.iinc 5 (-1), 3) := rfl
theorem pB_saying_60 : alk tB_saying 60 = some (.goto (-49), 3) := rfl
theorem pB_saying_63 : alk tB_saying 63 = some (.iload_n 1, 1) := rfl
theorem pB_saying_64 : alk tB_saying 64 = some (.iconst 2, 1) := rfl
theorem pB_saying_65 : alk tB_saying 65 = some (.if_icmp .ne 9, 3) := rfl
theorem pB_saying_68 : alk tB_saying 68 = some (.sipush 1440, 3) := rfl
theorem pB_saying_71 : alk tB_saying 71 = some (.goto 4, 3) := rfl
theorem pB_saying_74 : alk tB_saying 74 = some (.iconst 0, 1) := rfl
theorem pB_saying_75 : alk tB_saying 75 = some (.ireturn, 1) := rfl
def tU_appliesTo : TB := [(0, .iload_n 3, 1), (1, .aload_n 0, 1), (2, .getfield 35, 3), (5, .if_icmp .lt 11, 3), (8, .iload_n 3, 1), (9, .aload_n 0, 1), (10, .getfield 38, 3), (13, .if_icmp .lt 5, 3), (16, .iconst 0, 1), (17, .ireturn, 1), (18, .iconst 0, 1), (19, .istore 4, 2), (21, .iload 4, 2), (23, .aload_n 0, 1), (24, .getfield 25, 3), (27, .if_icmp .ge 29, 3), (30, .iload 4, 2), (32, .iconst 3, 1), (33, .if_icmp .ge 23, 3), (36, .aload_n 0, 1), (37, .iload 4, 2), (39, .aload_n 1, 1), (40, .iload_n 2, 1), (41, .iload_n 3, 1), (42, .invokevirtual 41, 3), (45, .ifCond .eq 5, 3), (48, .iconst 1, 1), (49, .ireturn, 1), (50, .iinc 4 1, 3), (53, .goto (-32), 3), (56, .aload_n 0, 1), (57, .getfield 25, 3), (60, .ifCond .ne 7, 3), (63, .iconst 1, 1), (64, .goto 4, 3), (67, .iconst 0, 1), (68, .ireturn, 1)]
set_option maxRecDepth 100000 in
theorem kU_appliesTo : tbOk (mB mU_appliesTo) tU_appliesTo = true := by decide +kernel
theorem pU_appliesTo_0 : alk tU_appliesTo 0 = some (.iload_n 3, 1) := rfl
theorem pU_appliesTo_1 : alk tU_appliesTo 1 = some (.aload_n 0, 1) := rfl
theorem pU_appliesTo_2 : alk tU_appliesTo 2 = some (.getfield 35, 3) := rfl
theorem pU_appliesTo_5 : alk tU_appliesTo 5 = some (.if_icmp .lt 11, 3) := rfl
theorem pU_appliesTo_8 : alk tU_appliesTo 8 = some (.iload_n 3, 1) := rfl
theorem pU_appliesTo_9 : alk tU_appliesTo 9 = some (.aload_n 0, 1) := rfl
theorem pU_appliesTo_10 : alk tU_appliesTo 10 = some (.getfield 38, 3) := rfl
theorem pU_appliesTo_13 : alk tU_appliesTo 13 = some (.if_icmp .lt 5, 3) := rfl
theorem pU_appliesTo_16 : alk tU_appliesTo 16 = some (.iconst 0, 1) := rfl
theorem pU_appliesTo_17 : alk tU_appliesTo 17 = some (.ireturn, 1) := rfl
theorem pU_appliesTo_18 : alk tU_appliesTo 18 = some (.iconst 0, 1) := rfl
theorem pU_appliesTo_19 : alk tU_appliesTo 19 = some (.istore 4, 2) := rfl
theorem pU_appliesTo_21 : alk tU_appliesTo 21 = some (.iload 4, 2) := rfl
theorem pU_appliesTo_23 : alk tU_appliesTo 23 = some (.aload_n 0, 1) := rfl
theorem pU_appliesTo_24 : alk tU_appliesTo 24 = some (.getfield 25, 3) := rfl
theorem pU_appliesTo_27 : alk tU_appliesTo 27 = some (.if_icmp .ge 29, 3) := rfl
theorem pU_appliesTo_30 : alk tU_appliesTo 30 = some (.iload 4, 2) := rfl
theorem pU_appliesTo_32 : alk tU_appliesTo 32 = some (.iconst 3, 1) := rfl
theorem pU_appliesTo_33 : alk tU_appliesTo 33 = some (.if_icmp .ge 23, 3) := rfl
theorem pU_appliesTo_36 : alk tU_appliesTo 36 = some (.aload_n 0, 1) := rfl
theorem pU_appliesTo_37 : alk tU_appliesTo 37 = some (.iload 4, 2) := rfl
theorem pU_appliesTo_39 : alk tU_appliesTo 39 = some (.aload_n 1, 1) := rfl
theorem pU_appliesTo_40 : alk tU_appliesTo 40 = some (.iload_n 2, 1) := rfl
theorem pU_appliesTo_41 : alk tU_appliesTo 41 = some (.iload_n 3, 1) := rfl
theorem pU_appliesTo_42 : alk tU_appliesTo 42 = some (.invokevirtual 41, 3) := rfl
theorem pU_appliesTo_45 : alk tU_appliesTo 45 = some (.ifCond .eq 5, 3) := rfl
theorem pU_appliesTo_48 : alk tU_appliesTo 48 = some (.iconst 1, 1) := rfl
theorem pU_appliesTo_49 : alk tU_appliesTo 49 = some (.ireturn, 1) := rfl
theorem pU_appliesTo_50 : alk tU_appliesTo 50 = some (.iinc 4 1, 3) := rfl
theorem pU_appliesTo_53 : alk tU_appliesTo 53 = some (.goto (-32), 3) := rfl
theorem pU_appliesTo_56 : alk tU_appliesTo 56 = some (.aload_n 0, 1) := rfl
theorem pU_appliesTo_57 : alk tU_appliesTo 57 = some (.getfield 25, 3) := rfl
theorem pU_appliesTo_60 : alk tU_appliesTo 60 = some (.ifCond .ne 7, 3) := rfl
theorem pU_appliesTo_63 : alk tU_appliesTo 63 = some (.iconst 1, 1) := rfl
theorem pU_appliesTo_64 : alk tU_appliesTo 64 = some (.goto 4, 3) := rfl
theorem pU_appliesTo_67 : alk tU_appliesTo 67 = some (.iconst 0, 1) := rfl
theorem pU_appliesTo_68 : alk tU_appliesTo 68 = some (.ireturn, 1) := rfl
def tU_isMet : TB := [(0, .iload_n 1, 1), (1, .ifCond .lt 26, 3), (4, .iload_n 1, 1), (5, .aload_n 0, 1), (6, .getfield 25, 3), (9, .if_icmp .ge 18, 3), (12, .aload_n 0, 1), (13, .getfield 15, 3), (16, .iload_n 1, 1), (17, .iaload, 1), (18, .iconst 4, 1), (19, .if_icmp .ne 10, 3), (22, .iload_n 3, 1), (23, .iconst (-1), 1), (24, .if_icmp .ne 5, 3), (27, .iconst 0, 1), (28, .ireturn, 1), (29, .aload_n 0, 1), (30, .getfield 15, 3), (33, .iload_n 1, 1), (34, .iaload, 1), (35, .aload_n 2, 1), (36, .iload_n 3, 1), (37, .iload 4, 2), (39, .invokestatic 45, 3), (42, .istore 5, 2), (44, .aload_n 0, 1), (45, .getfield 19, 3), (48, .iload_n 1, 1), (49, .iaload, 1), (50, .lookupswitch 68 #[(60, 26), (62, 47)], 26), (76, .iload 5, 2), (78, .aload_n 0, 1), (79, .getfield 22, 3), (82, .iload_n 1, 1), (83, .iaload, 1), (84, .if_icmp .ge 7, 3), (87, .iconst 1, 1), (88, .goto 4, 3), (91, .iconst 0, 1), (92, .istore 6, 2), (94, .goto 42, 3), (97, .iload 5, 2), (99, .aload_n 0, 1), (100, .getfield 22, 3), (103, .iload_n 1, 1), (104, .iaload, 1), (105, .if_icmp .le 7, 3), (108, .iconst 1, 1), (109, .goto 4, 3), (112, .iconst 0, 1), (113, .istore 6, 2), (115, .goto 21, 3), (118, .iload 5, 2), (120, .aload_n 0, 1), (121, .getfield 22, 3), (124, .iload_n 1, 1), (125, .iaload, 1), (126, .if_icmp .ne 7, 3), (129, .iconst 1, 1), (130, .goto 4, 3), (133, .iconst 0, 1), (134, .istore 6, 2), (136, .iload 6, 2), (138, .aload_n 0, 1), (139, .getfield 9, 3), (142, .iload_n 1, 1), (143, .baload, 1), (144, .if_icmp .eq 7, 3), (147, .iconst 1, 1), (148, .goto 4, 3), (151, .iconst 0, 1), (152, .ireturn, 1)]
set_option maxRecDepth 100000 in
theorem kU_isMet : tbOk (mB mU_isMet) tU_isMet = true := by decide +kernel
theorem pU_isMet_0 : alk tU_isMet 0 = some (.iload_n 1, 1) := rfl
theorem pU_isMet_1 : alk tU_isMet 1 = some (.ifCond .lt 26, 3) := rfl
theorem pU_isMet_4 : alk tU_isMet 4 = some (.iload_n 1, 1) := rfl
theorem pU_isMet_5 : alk tU_isMet 5 = some (.aload_n 0, 1) := rfl
theorem pU_isMet_6 : alk tU_isMet 6 = some (.getfield 25, 3) := rfl
theorem pU_isMet_9 : alk tU_isMet 9 = some (.if_icmp .ge 18, 3) := rfl
theorem pU_isMet_12 : alk tU_isMet 12 = some (.aload_n 0, 1) := rfl
theorem pU_isMet_13 : alk tU_isMet 13 = some (.getfield 15, 3) := rfl
theorem pU_isMet_16 : alk tU_isMet 16 = some (.iload_n 1, 1) := rfl
theorem pU_isMet_17 : alk tU_isMet 17 = some (.iaload, 1) := rfl
theorem pU_isMet_18 : alk tU_isMet 18 = some (.iconst 4, 1) := rfl
theorem pU_isMet_19 : alk tU_isMet 19 = some (.if_icmp .ne 10, 3) := rfl
theorem pU_isMet_22 : alk tU_isMet 22 = some (.iload_n 3, 1) := rfl
theorem pU_isMet_23 : alk tU_isMet 23 = some (.iconst (-1), 1) := rfl
theorem pU_isMet_24 : alk tU_isMet 24 = some (.if_icmp .ne 5, 3) := rfl
theorem pU_isMet_27 : alk tU_isMet 27 = some (.iconst 0, 1) := rfl
theorem pU_isMet_28 : alk tU_isMet 28 = some (.ireturn, 1) := rfl
theorem pU_isMet_29 : alk tU_isMet 29 = some (.aload_n 0, 1) := rfl
theorem pU_isMet_30 : alk tU_isMet 30 = some (.getfield 15, 3) := rfl
theorem pU_isMet_33 : alk tU_isMet 33 = some (.iload_n 1, 1) := rfl
theorem pU_isMet_34 : alk tU_isMet 34 = some (.iaload, 1) := rfl
theorem pU_isMet_35 : alk tU_isMet 35 = some (.aload_n 2, 1) := rfl
theorem pU_isMet_36 : alk tU_isMet 36 = some (.iload_n 3, 1) := rfl
theorem pU_isMet_37 : alk tU_isMet 37 = some (.iload 4, 2) := rfl
theorem pU_isMet_39 : alk tU_isMet 39 = some (.invokestatic 45, 3) := rfl
theorem pU_isMet_42 : alk tU_isMet 42 = some (.istore 5, 2) := rfl
theorem pU_isMet_44 : alk tU_isMet 44 = some (.aload_n 0, 1) := rfl
theorem pU_isMet_45 : alk tU_isMet 45 = some (.getfield 19, 3) := rfl
theorem pU_isMet_48 : alk tU_isMet 48 = some (.iload_n 1, 1) := rfl
theorem pU_isMet_49 : alk tU_isMet 49 = some (.iaload, 1) := rfl
theorem pU_isMet_50 : alk tU_isMet 50 = some (.lookupswitch 68 #[(60, 26), (62, 47)], 26) := rfl
theorem pU_isMet_76 : alk tU_isMet 76 = some (.iload 5, 2) := rfl
theorem pU_isMet_78 : alk tU_isMet 78 = some (.aload_n 0, 1) := rfl
theorem pU_isMet_79 : alk tU_isMet 79 = some (.getfield 22, 3) := rfl
theorem pU_isMet_82 : alk tU_isMet 82 = some (.iload_n 1, 1) := rfl
theorem pU_isMet_83 : alk tU_isMet 83 = some (.iaload, 1) := rfl
theorem pU_isMet_84 : alk tU_isMet 84 = some (.if_icmp .ge 7, 3) := rfl
theorem pU_isMet_87 : alk tU_isMet 87 = some (.iconst 1, 1) := rfl
theorem pU_isMet_88 : alk tU_isMet 88 = some (.goto 4, 3) := rfl
theorem pU_isMet_91 : alk tU_isMet 91 = some (.iconst 0, 1) := rfl
theorem pU_isMet_92 : alk tU_isMet 92 = some (.istore 6, 2) := rfl
theorem pU_isMet_94 : alk tU_isMet 94 = some (.goto 42, 3) := rfl
theorem pU_isMet_97 : alk tU_isMet 97 = some (.iload 5, 2) := rfl
theorem pU_isMet_99 : alk tU_isMet 99 = some (.aload_n 0, 1) := rfl
theorem pU_isMet_100 : alk tU_isMet 100 = some (.getfield 22, 3) := rfl
theorem pU_isMet_103 : alk tU_isMet 103 = some (.iload_n 1, 1) := rfl
theorem pU_isMet_104 : alk tU_isMet 104 = some (.iaload, 1) := rfl
theorem pU_isMet_105 : alk tU_isMet 105 = some (.if_icmp .le 7, 3) := rfl
theorem pU_isMet_108 : alk tU_isMet 108 = some (.iconst 1, 1) := rfl
theorem pU_isMet_109 : alk tU_isMet 109 = some (.goto 4, 3) := rfl
theorem pU_isMet_112 : alk tU_isMet 112 = some (.iconst 0, 1) := rfl
theorem pU_isMet_113 : alk tU_isMet 113 = some (.istore 6, 2) := rfl
theorem pU_isMet_115 : alk tU_isMet 115 = some (.goto 21, 3) := rfl
theorem pU_isMet_118 : alk tU_isMet 118 = some (.iload 5, 2) := rfl
theorem pU_isMet_120 : alk tU_isMet 120 = some (.aload_n 0, 1) := rfl
theorem pU_isMet_121 : alk tU_isMet 121 = some (.getfield 22, 3) := rfl
theorem pU_isMet_124 : alk tU_isMet 124 = some (.iload_n 1, 1) := rfl
theorem pU_isMet_125 : alk tU_isMet 125 = some (.iaload, 1) := rfl
theorem pU_isMet_126 : alk tU_isMet 126 = some (.if_icmp .ne 7, 3) := rfl
theorem pU_isMet_129 : alk tU_isMet 129 = some (.iconst 1, 1) := rfl
theorem pU_isMet_130 : alk tU_isMet 130 = some (.goto 4, 3) := rfl
set_option maxRecDepth 20000 in
theorem pU_isMet_133 : alk tU_isMet 133 = some (.iconst 0, 1) := rfl
set_option maxRecDepth 20000 in
theorem pU_isMet_134 : alk tU_isMet 134 = some (.istore 6, 2) := rfl
set_option maxRecDepth 20000 in
theorem pU_isMet_136 : alk tU_isMet 136 = some (.iload 6, 2) := rfl
set_option maxRecDepth 20000 in
theorem pU_isMet_138 : alk tU_isMet 138 = some (.aload_n 0, 1) := rfl
set_option maxRecDepth 20000 in
theorem pU_isMet_139 : alk tU_isMet 139 = some (.getfield 9, 3) := rfl
set_option maxRecDepth 20000 in
theorem pU_isMet_142 : alk tU_isMet 142 = some (.iload_n 1, 1) := rfl
set_option maxRecDepth 20000 in
theorem pU_isMet_143 : alk tU_isMet 143 = some (.baload, 1) := rfl
set_option maxRecDepth 20000 in
theorem pU_isMet_144 : alk tU_isMet 144 = some (.if_icmp .eq 7, 3) := rfl
set_option maxRecDepth 20000 in
theorem pU_isMet_147 : alk tU_isMet 147 = some (.iconst 1, 1) := rfl
set_option maxRecDepth 20000 in
theorem pU_isMet_148 : alk tU_isMet 148 = some (.goto 4, 3) := rfl
set_option maxRecDepth 20000 in
theorem pU_isMet_151 : alk tU_isMet 151 = some (.iconst 0, 1) := rfl
set_option maxRecDepth 20000 in
theorem pU_isMet_152 : alk tU_isMet 152 = some (.ireturn, 1) := rfl
def tU_valueOf : TB := [(0, .iload_n 0, 1), (1, .tableswitch 52 0 3 #[31, 36, 41, 46], 31), (32, .aload_n 1, 1), (33, .getfield 49, 3), (36, .ireturn, 1), (37, .aload_n 1, 1), (38, .getfield 54, 3), (41, .ireturn, 1), (42, .aload_n 1, 1), (43, .getfield 57, 3), (46, .ireturn, 1), (47, .aload_n 1, 1), (48, .iload_n 3, 1), (49, .invokevirtual 60, 3), (52, .ireturn, 1), (53, .iload_n 2, 1), (54, .ireturn, 1)]
set_option maxRecDepth 100000 in
theorem kU_valueOf : tbOk (mB mU_valueOf) tU_valueOf = true := by decide +kernel
theorem pU_valueOf_0 : alk tU_valueOf 0 = some (.iload_n 0, 1) := rfl
theorem pU_valueOf_1 : alk tU_valueOf 1 = some (.tableswitch 52 0 3 #[31, 36, 41, 46], 31) := rfl
theorem pU_valueOf_32 : alk tU_valueOf 32 = some (.aload_n 1, 1) := rfl
theorem pU_valueOf_33 : alk tU_valueOf 33 = some (.getfield 49, 3) := rfl
theorem pU_valueOf_36 : alk tU_valueOf 36 = some (.ireturn, 1) := rfl
theorem pU_valueOf_37 : alk tU_valueOf 37 = some (.aload_n 1, 1) := rfl
theorem pU_valueOf_38 : alk tU_valueOf 38 = some (.getfield 54, 3) := rfl
theorem pU_valueOf_41 : alk tU_valueOf 41 = some (.ireturn, 1) := rfl
theorem pU_valueOf_42 : alk tU_valueOf 42 = some (.aload_n 1, 1) := rfl
theorem pU_valueOf_43 : alk tU_valueOf 43 = some (.getfield 57, 3) := rfl
theorem pU_valueOf_46 : alk tU_valueOf 46 = some (.ireturn, 1) := rfl
theorem pU_valueOf_47 : alk tU_valueOf 47 = some (.aload_n 1, 1) := rfl
theorem pU_valueOf_48 : alk tU_valueOf 48 = some (.iload_n 3, 1) := rfl
theorem pU_valueOf_49 : alk tU_valueOf 49 = some (.invokevirtual 60, 3) := rfl
theorem pU_valueOf_52 : alk tU_valueOf 52 = some (.ireturn, 1) := rfl
theorem pU_valueOf_53 : alk tU_valueOf 53 = some (.iload_n 2, 1) := rfl
theorem pU_valueOf_54 : alk tU_valueOf 54 = some (.ireturn, 1) := rfl
def tS_isInDoubt : TB := [(0, .aload_n 1, 1), (1, .getfield 340, 3), (4, .ifCond .ne 25, 3), (7, .aload_n 0, 1), (8, .getfield 40, 3), (11, .aload_n 1, 1), (12, .getfield 164, 3), (15, .aload_n 1, 1), (16, .getfield 161, 3), (19, .invokevirtual 383, 3), (22, .ifCond .eq 7, 3), (25, .iconst 1, 1), (26, .goto 4, 3), (29, .iconst 0, 1), (30, .ireturn, 1)]
set_option maxRecDepth 100000 in
theorem kS_isInDoubt : tbOk (mB mS_isInDoubt) tS_isInDoubt = true := by decide +kernel
theorem pS_isInDoubt_0 : alk tS_isInDoubt 0 = some (.aload_n 1, 1) := rfl
theorem pS_isInDoubt_1 : alk tS_isInDoubt 1 = some (.getfield 340, 3) := rfl
theorem pS_isInDoubt_4 : alk tS_isInDoubt 4 = some (.ifCond .ne 25, 3) := rfl
theorem pS_isInDoubt_7 : alk tS_isInDoubt 7 = some (.aload_n 0, 1) := rfl
theorem pS_isInDoubt_8 : alk tS_isInDoubt 8 = some (.getfield 40, 3) := rfl
theorem pS_isInDoubt_11 : alk tS_isInDoubt 11 = some (.aload_n 1, 1) := rfl
theorem pS_isInDoubt_12 : alk tS_isInDoubt 12 = some (.getfield 164, 3) := rfl
theorem pS_isInDoubt_15 : alk tS_isInDoubt 15 = some (.aload_n 1, 1) := rfl
theorem pS_isInDoubt_16 : alk tS_isInDoubt 16 = some (.getfield 161, 3) := rfl
theorem pS_isInDoubt_19 : alk tS_isInDoubt 19 = some (.invokevirtual 383, 3) := rfl
theorem pS_isInDoubt_22 : alk tS_isInDoubt 22 = some (.ifCond .eq 7, 3) := rfl
theorem pS_isInDoubt_25 : alk tS_isInDoubt 25 = some (.iconst 1, 1) := rfl
theorem pS_isInDoubt_26 : alk tS_isInDoubt 26 = some (.goto 4, 3) := rfl
theorem pS_isInDoubt_29 : alk tS_isInDoubt 29 = some (.iconst 0, 1) := rfl
theorem pS_isInDoubt_30 : alk tS_isInDoubt 30 = some (.ireturn, 1) := rfl
def tK_doubt : TB := [(0, .aload_n 0, 1), (1, .iload_n 1, 1), (2, .invokevirtual 26, 3), (5, .iload_n 2, 1), (6, .if_icmp .eq 5, 3), (9, .iconst 1, 1), (10, .ireturn, 1), (11, .iconst 0, 1), (12, .istore_n 3, 1), (13, .iload_n 3, 1), (14, .aload_n 0, 1), (15, .getfield 18, 3), (18, .if_icmp .ge 40, 3), (21, .iload_n 3, 1), (22, .bipush 20, 2), (24, .if_icmp .ge 34, 3), (27, .aload_n 0, 1), (28, .getfield 15, 3), (31, .iload_n 3, 1), (32, .iaload, 1), (33, .iload_n 2, 1), (34, .if_icmp .eq 18, 3), (37, .aload_n 0, 1), (38, .getfield 9, 3), (41, .iload_n 3, 1), (42, .iaload, 1), (43, .iload_n 1, 1), (44, .invokestatic 22, 3), (47, .ifCond .eq 5, 3), (50, .iconst 1, 1), (51, .ireturn, 1), (52, .iinc 3 1, 3), (55, .goto (-42), 3), (58, .iconst 0, 1), (59, .ireturn, 1)]
set_option maxRecDepth 100000 in
theorem kK_doubt : tbOk (mB mK_doubt) tK_doubt = true := by decide +kernel
theorem pK_doubt_0 : alk tK_doubt 0 = some (.aload_n 0, 1) := rfl
theorem pK_doubt_1 : alk tK_doubt 1 = some (.iload_n 1, 1) := rfl
theorem pK_doubt_2 : alk tK_doubt 2 = some (.invokevirtual 26, 3) := rfl
theorem pK_doubt_5 : alk tK_doubt 5 = some (.iload_n 2, 1) := rfl
theorem pK_doubt_6 : alk tK_doubt 6 = some (.if_icmp .eq 5, 3) := rfl
theorem pK_doubt_9 : alk tK_doubt 9 = some (.iconst 1, 1) := rfl
theorem pK_doubt_10 : alk tK_doubt 10 = some (.ireturn, 1) := rfl
theorem pK_doubt_11 : alk tK_doubt 11 = some (.iconst 0, 1) := rfl
theorem pK_doubt_12 : alk tK_doubt 12 = some (.istore_n 3, 1) := rfl
theorem pK_doubt_13 : alk tK_doubt 13 = some (.iload_n 3, 1) := rfl
theorem pK_doubt_14 : alk tK_doubt 14 = some (.aload_n 0, 1) := rfl
theorem pK_doubt_15 : alk tK_doubt 15 = some (.getfield 18, 3) := rfl
theorem pK_doubt_18 : alk tK_doubt 18 = some (.if_icmp .ge 40, 3) := rfl
theorem pK_doubt_21 : alk tK_doubt 21 = some (.iload_n 3, 1) := rfl
theorem pK_doubt_22 : alk tK_doubt 22 = some (.bipush 20, 2) := rfl
theorem pK_doubt_24 : alk tK_doubt 24 = some (.if_icmp .ge 34, 3) := rfl
theorem pK_doubt_27 : alk tK_doubt 27 = some (.aload_n 0, 1) := rfl
theorem pK_doubt_28 : alk tK_doubt 28 = some (.getfield 15, 3) := rfl
theorem pK_doubt_31 : alk tK_doubt 31 = some (.iload_n 3, 1) := rfl
theorem pK_doubt_32 : alk tK_doubt 32 = some (.iaload, 1) := rfl
theorem pK_doubt_33 : alk tK_doubt 33 = some (.iload_n 2, 1) := rfl
theorem pK_doubt_34 : alk tK_doubt 34 = some (.if_icmp .eq 18, 3) := rfl
theorem pK_doubt_37 : alk tK_doubt 37 = some (.aload_n 0, 1) := rfl
theorem pK_doubt_38 : alk tK_doubt 38 = some (.getfield 9, 3) := rfl
theorem pK_doubt_41 : alk tK_doubt 41 = some (.iload_n 3, 1) := rfl
theorem pK_doubt_42 : alk tK_doubt 42 = some (.iaload, 1) := rfl
theorem pK_doubt_43 : alk tK_doubt 43 = some (.iload_n 1, 1) := rfl
theorem pK_doubt_44 : alk tK_doubt 44 = some (.invokestatic 22, 3) := rfl
theorem pK_doubt_47 : alk tK_doubt 47 = some (.ifCond .eq 5, 3) := rfl
theorem pK_doubt_50 : alk tK_doubt 50 = some (.iconst 1, 1) := rfl
theorem pK_doubt_51 : alk tK_doubt 51 = some (.ireturn, 1) := rfl
theorem pK_doubt_52 : alk tK_doubt 52 = some (.iinc 3 1, 3) := rfl
theorem pK_doubt_55 : alk tK_doubt 55 = some (.goto (-42), 3) := rfl
theorem pK_doubt_58 : alk tK_doubt 58 = some (.iconst 0, 1) := rfl
theorem pK_doubt_59 : alk tK_doubt 59 = some (.ireturn, 1) := rfl
def tK_ownerOf : TB := [(0, .iconst 0, 1), (1, .istore_n 2, 1), (2, .iload_n 2, 1), (3, .aload_n 0, 1), (4, .getfield 18, 3), (7, .if_icmp .ge 32, 3), (10, .iload_n 2, 1), (11, .bipush 20, 2), (13, .if_icmp .ge 26, 3), (16, .aload_n 0, 1), (17, .getfield 9, 3), (20, .iload_n 2, 1), (21, .iaload, 1), (22, .iload_n 1, 1), (23, .if_icmp .ne 10, 3), (26, .aload_n 0, 1), (27, .getfield 15, 3), (30, .iload_n 2, 1), (31, .iaload, 1), (32, .ireturn, 1), (33, .iinc 2 1, 3), (36, .goto (-34), 3), (39, .iconst (-1), 1), (40, .ireturn, 1)]
set_option maxRecDepth 100000 in
theorem kK_ownerOf : tbOk (mB mK_ownerOf) tK_ownerOf = true := by decide +kernel
theorem pK_ownerOf_0 : alk tK_ownerOf 0 = some (.iconst 0, 1) := rfl
theorem pK_ownerOf_1 : alk tK_ownerOf 1 = some (.istore_n 2, 1) := rfl
theorem pK_ownerOf_2 : alk tK_ownerOf 2 = some (.iload_n 2, 1) := rfl
theorem pK_ownerOf_3 : alk tK_ownerOf 3 = some (.aload_n 0, 1) := rfl
theorem pK_ownerOf_4 : alk tK_ownerOf 4 = some (.getfield 18, 3) := rfl
theorem pK_ownerOf_7 : alk tK_ownerOf 7 = some (.if_icmp .ge 32, 3) := rfl
theorem pK_ownerOf_10 : alk tK_ownerOf 10 = some (.iload_n 2, 1) := rfl
theorem pK_ownerOf_11 : alk tK_ownerOf 11 = some (.bipush 20, 2) := rfl
theorem pK_ownerOf_13 : alk tK_ownerOf 13 = some (.if_icmp .ge 26, 3) := rfl
theorem pK_ownerOf_16 : alk tK_ownerOf 16 = some (.aload_n 0, 1) := rfl
theorem pK_ownerOf_17 : alk tK_ownerOf 17 = some (.getfield 9, 3) := rfl
theorem pK_ownerOf_20 : alk tK_ownerOf 20 = some (.iload_n 2, 1) := rfl
theorem pK_ownerOf_21 : alk tK_ownerOf 21 = some (.iaload, 1) := rfl
theorem pK_ownerOf_22 : alk tK_ownerOf 22 = some (.iload_n 1, 1) := rfl
theorem pK_ownerOf_23 : alk tK_ownerOf 23 = some (.if_icmp .ne 10, 3) := rfl
theorem pK_ownerOf_26 : alk tK_ownerOf 26 = some (.aload_n 0, 1) := rfl
theorem pK_ownerOf_27 : alk tK_ownerOf 27 = some (.getfield 15, 3) := rfl
theorem pK_ownerOf_30 : alk tK_ownerOf 30 = some (.iload_n 2, 1) := rfl
theorem pK_ownerOf_31 : alk tK_ownerOf 31 = some (.iaload, 1) := rfl
theorem pK_ownerOf_32 : alk tK_ownerOf 32 = some (.ireturn, 1) := rfl
theorem pK_ownerOf_33 : alk tK_ownerOf 33 = some (.iinc 2 1, 3) := rfl
theorem pK_ownerOf_36 : alk tK_ownerOf 36 = some (.goto (-34), 3) := rfl
theorem pK_ownerOf_39 : alk tK_ownerOf 39 = some (.iconst (-1), 1) := rfl
theorem pK_ownerOf_40 : alk tK_ownerOf 40 = some (.ireturn, 1) := rfl
def tK_areNear : TB := [(0, .iconst 0, 1), (1, .istore_n 2, 1), (2, .iload_n 0, 1), (3, .istore_n 3, 1), (4, .iload_n 1, 1), (5, .istore 4, 2), (7, .iconst 0, 1), (8, .istore 5, 2), (10, .iload 5, 2), (12, .iconst 4, 1), (13, .if_icmp .ge 41, 3), (16, .iload_n 2, 1), (17, .iload_n 3, 1), (18, .bipush 10, 2), (20, .irem, 1), (21, .iload 4, 2), (23, .bipush 10, 2), (25, .irem, 1), (26, .if_icmp .eq 7, 3), (29, .iconst 1, 1), (30, .goto 4, 3), (33, .iconst 0, 1), (34, .iadd, 1), (35, .istore_n 2, 1), (36, .iload_n 3, 1), (37, .bipush 10, 2), (39, .idiv, 1), (40, .istore_n 3, 1), (41, .iload 4, 2), (43, .bipush 10, 2), (45, .idiv, 1), (46, .istore 4, 2), (48, .iinc 5 1, 3), (51, .goto (-41), 3), (54, .iload_n 2, 1), (55, .iconst 1, 1), (56, .if_icmp .ne 7, 3), (59, .iconst 1, 1), (60, .goto 4, 3), (63, .iconst 0, 1), (64, .ireturn, 1)]
set_option maxRecDepth 100000 in
theorem kK_areNear : tbOk (mB mK_areNear) tK_areNear = true := by decide +kernel
theorem pK_areNear_0 : alk tK_areNear 0 = some (.iconst 0, 1) := rfl
theorem pK_areNear_1 : alk tK_areNear 1 = some (.istore_n 2, 1) := rfl
theorem pK_areNear_2 : alk tK_areNear 2 = some (.iload_n 0, 1) := rfl
theorem pK_areNear_3 : alk tK_areNear 3 = some (.istore_n 3, 1) := rfl
theorem pK_areNear_4 : alk tK_areNear 4 = some (.iload_n 1, 1) := rfl
theorem pK_areNear_5 : alk tK_areNear 5 = some (.istore 4, 2) := rfl
theorem pK_areNear_7 : alk tK_areNear 7 = some (.iconst 0, 1) := rfl
theorem pK_areNear_8 : alk tK_areNear 8 = some (.istore 5, 2) := rfl
theorem pK_areNear_10 : alk tK_areNear 10 = some (.iload 5, 2) := rfl
theorem pK_areNear_12 : alk tK_areNear 12 = some (.iconst 4, 1) := rfl
theorem pK_areNear_13 : alk tK_areNear 13 = some (.if_icmp .ge 41, 3) := rfl
theorem pK_areNear_16 : alk tK_areNear 16 = some (.iload_n 2, 1) := rfl
theorem pK_areNear_17 : alk tK_areNear 17 = some (.iload_n 3, 1) := rfl
theorem pK_areNear_18 : alk tK_areNear 18 = some (.bipush 10, 2) := rfl
theorem pK_areNear_20 : alk tK_areNear 20 = some (.irem, 1) := rfl
theorem pK_areNear_21 : alk tK_areNear 21 = some (.iload 4, 2) := rfl
theorem pK_areNear_23 : alk tK_areNear 23 = some (.bipush 10, 2) := rfl
theorem pK_areNear_25 : alk tK_areNear 25 = some (.irem, 1) := rfl
theorem pK_areNear_26 : alk tK_areNear 26 = some (.if_icmp .eq 7, 3) := rfl
theorem pK_areNear_29 : alk tK_areNear 29 = some (.iconst 1, 1) := rfl
theorem pK_areNear_30 : alk tK_areNear 30 = some (.goto 4, 3) := rfl
theorem pK_areNear_33 : alk tK_areNear 33 = some (.iconst 0, 1) := rfl
theorem pK_areNear_34 : alk tK_areNear 34 = some (.iadd, 1) := rfl
theorem pK_areNear_35 : alk tK_areNear 35 = some (.istore_n 2, 1) := rfl
theorem pK_areNear_36 : alk tK_areNear 36 = some (.iload_n 3, 1) := rfl
theorem pK_areNear_37 : alk tK_areNear 37 = some (.bipush 10, 2) := rfl
theorem pK_areNear_39 : alk tK_areNear 39 = some (.idiv, 1) := rfl
theorem pK_areNear_40 : alk tK_areNear 40 = some (.istore_n 3, 1) := rfl
theorem pK_areNear_41 : alk tK_areNear 41 = some (.iload 4, 2) := rfl
theorem pK_areNear_43 : alk tK_areNear 43 = some (.bipush 10, 2) := rfl
theorem pK_areNear_45 : alk tK_areNear 45 = some (.idiv, 1) := rfl
theorem pK_areNear_46 : alk tK_areNear 46 = some (.istore 4, 2) := rfl
theorem pK_areNear_48 : alk tK_areNear 48 = some (.iinc 5 1, 3) := rfl
theorem pK_areNear_51 : alk tK_areNear 51 = some (.goto (-41), 3) := rfl
theorem pK_areNear_54 : alk tK_areNear 54 = some (.iload_n 2, 1) := rfl
theorem pK_areNear_55 : alk tK_areNear 55 = some (.iconst 1, 1) := rfl
theorem pK_areNear_56 : alk tK_areNear 56 = some (.if_icmp .ne 7, 3) := rfl
theorem pK_areNear_59 : alk tK_areNear 59 = some (.iconst 1, 1) := rfl
theorem pK_areNear_60 : alk tK_areNear 60 = some (.goto 4, 3) := rfl
theorem pK_areNear_63 : alk tK_areNear 63 = some (.iconst 0, 1) := rfl
theorem pK_areNear_64 : alk tK_areNear 64 = some (.ireturn, 1) := rfl
def tS_drive : TB := [(0, .aload_n 0, 1), (1, .iload_n 1, 1), (2, .invokevirtual 141, 3), (5, .astore_n 3, 1), (6, .aload_n 3, 1), (7, .ifnull 14, 3), (10, .aload_n 0, 1), (11, .getfield 12, 3), (14, .iload_n 2, 1), (15, .invokevirtual 89, 3), (18, .ifCond .ne 10, 3), (21, .aload_n 0, 1), (22, .bipush (-3), 2), (24, .invokevirtual 79, 3), (27, .ireturn, 1), (28, .aload_n 0, 1), (29, .aload_n 3, 1), (30, .invokevirtual 202, 3), (33, .ifCond .eq 19, 3), (36, .aload_n 3, 1), (37, .getfield 167, 3), (40, .iload_n 2, 1), (41, .if_icmp .eq 11, 3), (44, .aload_n 0, 1), (45, .iload_n 2, 1), (46, .invokevirtual 129, 3), (49, .ifCond .eq 10, 3), (52, .aload_n 0, 1), (53, .bipush (-7), 2), (55, .invokevirtual 79, 3), (58, .ireturn, 1), (59, .aload_n 0, 1), (60, .getfield 12, 3), (63, .aload_n 3, 1), (64, .getfield 167, 3), (67, .iload_n 2, 1), (68, .aload_n 0, 1), (69, .getfield 63, 3), (72, .invokevirtual 104, 3), (75, .ifCond .ne 10, 3), (78, .aload_n 0, 1), (79, .bipush (-2), 2), (81, .invokevirtual 79, 3), (84, .ireturn, 1), (85, .aload_n 0, 1), (86, .getfield 12, 3), (89, .aload_n 0, 1), (90, .getfield 63, 3), (93, .aload_n 0, 1), (94, .getfield 71, 3), (97, .invokevirtual 205, 3), (100, .istore 4, 2), (102, .aload_n 0, 1), (103, .getfield 12, 3), (106, .aload_n 0, 1), (107, .getfield 63, 3), (110, .iload 4, 2), (112, .invokevirtual 209, 3), (115, .aload_n 3, 1), (116, .iload_n 2, 1), (117, .iload 4, 2), (119, .aload_n 0, 1), (120, .getfield 63, 3), (123, .getfield 108, 3), (126, .iadd, 1), (127, .invokevirtual 213, 3), (130, .aload_n 3, 1), (131, .getfield 173, 3), (134, .ireturn, 1)]
set_option maxRecDepth 100000 in
theorem kS_drive : tbOk (mB mS_drive) tS_drive = true := by decide +kernel
theorem pS_drive_0 : alk tS_drive 0 = some (.aload_n 0, 1) := rfl
theorem pS_drive_1 : alk tS_drive 1 = some (.iload_n 1, 1) := rfl
theorem pS_drive_2 : alk tS_drive 2 = some (.invokevirtual 141, 3) := rfl
theorem pS_drive_5 : alk tS_drive 5 = some (.astore_n 3, 1) := rfl
theorem pS_drive_6 : alk tS_drive 6 = some (.aload_n 3, 1) := rfl
theorem pS_drive_7 : alk tS_drive 7 = some (.ifnull 14, 3) := rfl
theorem pS_drive_10 : alk tS_drive 10 = some (.aload_n 0, 1) := rfl
theorem pS_drive_11 : alk tS_drive 11 = some (.getfield 12, 3) := rfl
theorem pS_drive_14 : alk tS_drive 14 = some (.iload_n 2, 1) := rfl
theorem pS_drive_15 : alk tS_drive 15 = some (.invokevirtual 89, 3) := rfl
theorem pS_drive_18 : alk tS_drive 18 = some (.ifCond .ne 10, 3) := rfl
theorem pS_drive_21 : alk tS_drive 21 = some (.aload_n 0, 1) := rfl
theorem pS_drive_22 : alk tS_drive 22 = some (.bipush (-3), 2) := rfl
theorem pS_drive_24 : alk tS_drive 24 = some (.invokevirtual 79, 3) := rfl
theorem pS_drive_27 : alk tS_drive 27 = some (.ireturn, 1) := rfl
theorem pS_drive_28 : alk tS_drive 28 = some (.aload_n 0, 1) := rfl
theorem pS_drive_29 : alk tS_drive 29 = some (.aload_n 3, 1) := rfl
theorem pS_drive_30 : alk tS_drive 30 = some (.invokevirtual 202, 3) := rfl
theorem pS_drive_33 : alk tS_drive 33 = some (.ifCond .eq 19, 3) := rfl
theorem pS_drive_36 : alk tS_drive 36 = some (.aload_n 3, 1) := rfl
theorem pS_drive_37 : alk tS_drive 37 = some (.getfield 167, 3) := rfl
theorem pS_drive_40 : alk tS_drive 40 = some (.iload_n 2, 1) := rfl
theorem pS_drive_41 : alk tS_drive 41 = some (.if_icmp .eq 11, 3) := rfl
theorem pS_drive_44 : alk tS_drive 44 = some (.aload_n 0, 1) := rfl
theorem pS_drive_45 : alk tS_drive 45 = some (.iload_n 2, 1) := rfl
theorem pS_drive_46 : alk tS_drive 46 = some (.invokevirtual 129, 3) := rfl
theorem pS_drive_49 : alk tS_drive 49 = some (.ifCond .eq 10, 3) := rfl
theorem pS_drive_52 : alk tS_drive 52 = some (.aload_n 0, 1) := rfl
theorem pS_drive_53 : alk tS_drive 53 = some (.bipush (-7), 2) := rfl
theorem pS_drive_55 : alk tS_drive 55 = some (.invokevirtual 79, 3) := rfl
theorem pS_drive_58 : alk tS_drive 58 = some (.ireturn, 1) := rfl
theorem pS_drive_59 : alk tS_drive 59 = some (.aload_n 0, 1) := rfl
theorem pS_drive_60 : alk tS_drive 60 = some (.getfield 12, 3) := rfl
theorem pS_drive_63 : alk tS_drive 63 = some (.aload_n 3, 1) := rfl
theorem pS_drive_64 : alk tS_drive 64 = some (.getfield 167, 3) := rfl
theorem pS_drive_67 : alk tS_drive 67 = some (.iload_n 2, 1) := rfl
theorem pS_drive_68 : alk tS_drive 68 = some (.aload_n 0, 1) := rfl
theorem pS_drive_69 : alk tS_drive 69 = some (.getfield 63, 3) := rfl
theorem pS_drive_72 : alk tS_drive 72 = some (.invokevirtual 104, 3) := rfl
theorem pS_drive_75 : alk tS_drive 75 = some (.ifCond .ne 10, 3) := rfl
theorem pS_drive_78 : alk tS_drive 78 = some (.aload_n 0, 1) := rfl
theorem pS_drive_79 : alk tS_drive 79 = some (.bipush (-2), 2) := rfl
theorem pS_drive_81 : alk tS_drive 81 = some (.invokevirtual 79, 3) := rfl
theorem pS_drive_84 : alk tS_drive 84 = some (.ireturn, 1) := rfl
theorem pS_drive_85 : alk tS_drive 85 = some (.aload_n 0, 1) := rfl
theorem pS_drive_86 : alk tS_drive 86 = some (.getfield 12, 3) := rfl
theorem pS_drive_89 : alk tS_drive 89 = some (.aload_n 0, 1) := rfl
theorem pS_drive_90 : alk tS_drive 90 = some (.getfield 63, 3) := rfl
theorem pS_drive_93 : alk tS_drive 93 = some (.aload_n 0, 1) := rfl
theorem pS_drive_94 : alk tS_drive 94 = some (.getfield 71, 3) := rfl
theorem pS_drive_97 : alk tS_drive 97 = some (.invokevirtual 205, 3) := rfl
theorem pS_drive_100 : alk tS_drive 100 = some (.istore 4, 2) := rfl
theorem pS_drive_102 : alk tS_drive 102 = some (.aload_n 0, 1) := rfl
theorem pS_drive_103 : alk tS_drive 103 = some (.getfield 12, 3) := rfl
theorem pS_drive_106 : alk tS_drive 106 = some (.aload_n 0, 1) := rfl
theorem pS_drive_107 : alk tS_drive 107 = some (.getfield 63, 3) := rfl
theorem pS_drive_110 : alk tS_drive 110 = some (.iload 4, 2) := rfl
theorem pS_drive_112 : alk tS_drive 112 = some (.invokevirtual 209, 3) := rfl
theorem pS_drive_115 : alk tS_drive 115 = some (.aload_n 3, 1) := rfl
theorem pS_drive_116 : alk tS_drive 116 = some (.iload_n 2, 1) := rfl
theorem pS_drive_117 : alk tS_drive 117 = some (.iload 4, 2) := rfl
set_option maxRecDepth 20000 in
theorem pS_drive_119 : alk tS_drive 119 = some (.aload_n 0, 1) := rfl
set_option maxRecDepth 20000 in
theorem pS_drive_120 : alk tS_drive 120 = some (.getfield 63, 3) := rfl
set_option maxRecDepth 20000 in
theorem pS_drive_123 : alk tS_drive 123 = some (.getfield 108, 3) := rfl
set_option maxRecDepth 20000 in
theorem pS_drive_126 : alk tS_drive 126 = some (.iadd, 1) := rfl
set_option maxRecDepth 20000 in
theorem pS_drive_127 : alk tS_drive 127 = some (.invokevirtual 213, 3) := rfl
set_option maxRecDepth 20000 in
theorem pS_drive_130 : alk tS_drive 130 = some (.aload_n 3, 1) := rfl
set_option maxRecDepth 20000 in
theorem pS_drive_131 : alk tS_drive 131 = some (.getfield 173, 3) := rfl
set_option maxRecDepth 20000 in
theorem pS_drive_134 : alk tS_drive 134 = some (.ireturn, 1) := rfl
def tS_mayBeDriven : TB := [(0, .aload_n 1, 1), (1, .invokevirtual 380, 3), (4, .ifCond .ne 16, 3), (7, .aload_n 0, 1), (8, .aload_n 1, 1), (9, .iconst 3, 1), (10, .invokevirtual 148, 3), (13, .ifCond .ne 7, 3), (16, .iconst 1, 1), (17, .goto 4, 3), (20, .iconst 0, 1), (21, .ireturn, 1)]
set_option maxRecDepth 100000 in
theorem kS_mayBeDriven : tbOk (mB mS_mayBeDriven) tS_mayBeDriven = true := by decide +kernel
theorem pS_mayBeDriven_0 : alk tS_mayBeDriven 0 = some (.aload_n 1, 1) := rfl
theorem pS_mayBeDriven_1 : alk tS_mayBeDriven 1 = some (.invokevirtual 380, 3) := rfl
theorem pS_mayBeDriven_4 : alk tS_mayBeDriven 4 = some (.ifCond .ne 16, 3) := rfl
theorem pS_mayBeDriven_7 : alk tS_mayBeDriven 7 = some (.aload_n 0, 1) := rfl
theorem pS_mayBeDriven_8 : alk tS_mayBeDriven 8 = some (.aload_n 1, 1) := rfl
theorem pS_mayBeDriven_9 : alk tS_mayBeDriven 9 = some (.iconst 3, 1) := rfl
theorem pS_mayBeDriven_10 : alk tS_mayBeDriven 10 = some (.invokevirtual 148, 3) := rfl
theorem pS_mayBeDriven_13 : alk tS_mayBeDriven 13 = some (.ifCond .ne 7, 3) := rfl
theorem pS_mayBeDriven_16 : alk tS_mayBeDriven 16 = some (.iconst 1, 1) := rfl
theorem pS_mayBeDriven_17 : alk tS_mayBeDriven 17 = some (.goto 4, 3) := rfl
theorem pS_mayBeDriven_20 : alk tS_mayBeDriven 20 = some (.iconst 0, 1) := rfl
theorem pS_mayBeDriven_21 : alk tS_mayBeDriven 21 = some (.ireturn, 1) := rfl
def tO_isOnWay : TB := [(0, .aload_n 0, 1), (1, .getfield 18, 3), (4, .iconst (-1), 1), (5, .if_icmp .eq 7, 3), (8, .iconst 1, 1), (9, .goto 4, 3), (12, .iconst 0, 1), (13, .ireturn, 1)]
set_option maxRecDepth 100000 in
theorem kO_isOnWay : tbOk (mB mO_isOnWay) tO_isOnWay = true := by decide +kernel
theorem pO_isOnWay_0 : alk tO_isOnWay 0 = some (.aload_n 0, 1) := rfl
theorem pO_isOnWay_1 : alk tO_isOnWay 1 = some (.getfield 18, 3) := rfl
theorem pO_isOnWay_4 : alk tO_isOnWay 4 = some (.iconst (-1), 1) := rfl
theorem pO_isOnWay_5 : alk tO_isOnWay 5 = some (.if_icmp .eq 7, 3) := rfl
theorem pO_isOnWay_8 : alk tO_isOnWay 8 = some (.iconst 1, 1) := rfl
theorem pO_isOnWay_9 : alk tO_isOnWay 9 = some (.goto 4, 3) := rfl
theorem pO_isOnWay_12 : alk tO_isOnWay 12 = some (.iconst 0, 1) := rfl
theorem pO_isOnWay_13 : alk tO_isOnWay 13 = some (.ireturn, 1) := rfl
def tY_firstFree : TB := [(0, .iload_n 2, 1), (1, .istore_n 3, 1), (2, .iconst 0, 1), (3, .istore 4, 2), (5, .iload 4, 2), (7, .sipush 10000, 3), (10, .if_icmp .ge 28, 3), (13, .aload_n 0, 1), (14, .aload_n 1, 1), (15, .iload_n 3, 1), (16, .invokevirtual 85, 3), (19, .istore 5, 2), (21, .iload 5, 2), (23, .iload_n 3, 1), (24, .if_icmp .ne 5, 3), (27, .iload_n 3, 1), (28, .ireturn, 1), (29, .iload 5, 2), (31, .istore_n 3, 1), (32, .iinc 4 1, 3), (35, .goto (-30), 3), (38, .iload_n 3, 1), (39, .ireturn, 1)]
set_option maxRecDepth 100000 in
theorem kY_firstFree : tbOk (mB mY_firstFree) tY_firstFree = true := by decide +kernel
theorem pY_firstFree_0 : alk tY_firstFree 0 = some (.iload_n 2, 1) := rfl
theorem pY_firstFree_1 : alk tY_firstFree 1 = some (.istore_n 3, 1) := rfl
theorem pY_firstFree_2 : alk tY_firstFree 2 = some (.iconst 0, 1) := rfl
theorem pY_firstFree_3 : alk tY_firstFree 3 = some (.istore 4, 2) := rfl
theorem pY_firstFree_5 : alk tY_firstFree 5 = some (.iload 4, 2) := rfl
theorem pY_firstFree_7 : alk tY_firstFree 7 = some (.sipush 10000, 3) := rfl
theorem pY_firstFree_10 : alk tY_firstFree 10 = some (.if_icmp .ge 28, 3) := rfl
theorem pY_firstFree_13 : alk tY_firstFree 13 = some (.aload_n 0, 1) := rfl
theorem pY_firstFree_14 : alk tY_firstFree 14 = some (.aload_n 1, 1) := rfl
theorem pY_firstFree_15 : alk tY_firstFree 15 = some (.iload_n 3, 1) := rfl
theorem pY_firstFree_16 : alk tY_firstFree 16 = some (.invokevirtual 85, 3) := rfl
theorem pY_firstFree_19 : alk tY_firstFree 19 = some (.istore 5, 2) := rfl
theorem pY_firstFree_21 : alk tY_firstFree 21 = some (.iload 5, 2) := rfl
theorem pY_firstFree_23 : alk tY_firstFree 23 = some (.iload_n 3, 1) := rfl
theorem pY_firstFree_24 : alk tY_firstFree 24 = some (.if_icmp .ne 5, 3) := rfl
theorem pY_firstFree_27 : alk tY_firstFree 27 = some (.iload_n 3, 1) := rfl
theorem pY_firstFree_28 : alk tY_firstFree 28 = some (.ireturn, 1) := rfl
theorem pY_firstFree_29 : alk tY_firstFree 29 = some (.iload 5, 2) := rfl
theorem pY_firstFree_31 : alk tY_firstFree 31 = some (.istore_n 3, 1) := rfl
theorem pY_firstFree_32 : alk tY_firstFree 32 = some (.iinc 4 1, 3) := rfl
theorem pY_firstFree_35 : alk tY_firstFree 35 = some (.goto (-30), 3) := rfl
theorem pY_firstFree_38 : alk tY_firstFree 38 = some (.iload_n 3, 1) := rfl
theorem pY_firstFree_39 : alk tY_firstFree 39 = some (.ireturn, 1) := rfl
def tY_putOff : TB := [(0, .iload_n 2, 1), (1, .istore_n 3, 1), (2, .iconst 0, 1), (3, .istore 4, 2), (5, .iload 4, 2), (7, .aload_n 1, 1), (8, .getfield 89, 3), (11, .if_icmp .ge 65, 3), (14, .aload_n 1, 1), (15, .iload 4, 2), (17, .invokevirtual 92, 3), (20, .istore 5, 2), (22, .iload 5, 2), (24, .ifCond .lt 46, 3), (27, .iload 5, 2), (29, .aload_n 0, 1), (30, .getfield 12, 3), (33, .invokevirtual 57, 3), (36, .if_icmp .ge 34, 3), (39, .aload_n 0, 1), (40, .getfield 12, 3), (43, .iload 5, 2), (45, .invokevirtual 69, 3), (48, .checkcast 39, 3), (51, .iload_n 3, 1), (52, .aload_n 1, 1), (53, .iload 4, 2), (55, .invokevirtual 95, 3), (58, .iadd, 1), (59, .invokevirtual 98, 3), (62, .aload_n 1, 1), (63, .iload 4, 2), (65, .invokevirtual 95, 3), (68, .isub, 1), (69, .istore_n 3, 1), (70, .iinc 4 1, 3), (73, .goto (-68), 3), (76, .iload_n 3, 1), (77, .ireturn, 1)]
set_option maxRecDepth 100000 in
theorem kY_putOff : tbOk (mB mY_putOff) tY_putOff = true := by decide +kernel
theorem pY_putOff_0 : alk tY_putOff 0 = some (.iload_n 2, 1) := rfl
theorem pY_putOff_1 : alk tY_putOff 1 = some (.istore_n 3, 1) := rfl
theorem pY_putOff_2 : alk tY_putOff 2 = some (.iconst 0, 1) := rfl
theorem pY_putOff_3 : alk tY_putOff 3 = some (.istore 4, 2) := rfl
theorem pY_putOff_5 : alk tY_putOff 5 = some (.iload 4, 2) := rfl
theorem pY_putOff_7 : alk tY_putOff 7 = some (.aload_n 1, 1) := rfl
theorem pY_putOff_8 : alk tY_putOff 8 = some (.getfield 89, 3) := rfl
theorem pY_putOff_11 : alk tY_putOff 11 = some (.if_icmp .ge 65, 3) := rfl
theorem pY_putOff_14 : alk tY_putOff 14 = some (.aload_n 1, 1) := rfl
theorem pY_putOff_15 : alk tY_putOff 15 = some (.iload 4, 2) := rfl
theorem pY_putOff_17 : alk tY_putOff 17 = some (.invokevirtual 92, 3) := rfl
theorem pY_putOff_20 : alk tY_putOff 20 = some (.istore 5, 2) := rfl
theorem pY_putOff_22 : alk tY_putOff 22 = some (.iload 5, 2) := rfl
theorem pY_putOff_24 : alk tY_putOff 24 = some (.ifCond .lt 46, 3) := rfl
theorem pY_putOff_27 : alk tY_putOff 27 = some (.iload 5, 2) := rfl
theorem pY_putOff_29 : alk tY_putOff 29 = some (.aload_n 0, 1) := rfl
theorem pY_putOff_30 : alk tY_putOff 30 = some (.getfield 12, 3) := rfl
theorem pY_putOff_33 : alk tY_putOff 33 = some (.invokevirtual 57, 3) := rfl
theorem pY_putOff_36 : alk tY_putOff 36 = some (.if_icmp .ge 34, 3) := rfl
theorem pY_putOff_39 : alk tY_putOff 39 = some (.aload_n 0, 1) := rfl
theorem pY_putOff_40 : alk tY_putOff 40 = some (.getfield 12, 3) := rfl
theorem pY_putOff_43 : alk tY_putOff 43 = some (.iload 5, 2) := rfl
theorem pY_putOff_45 : alk tY_putOff 45 = some (.invokevirtual 69, 3) := rfl
theorem pY_putOff_48 : alk tY_putOff 48 = some (.checkcast 39, 3) := rfl
theorem pY_putOff_51 : alk tY_putOff 51 = some (.iload_n 3, 1) := rfl
theorem pY_putOff_52 : alk tY_putOff 52 = some (.aload_n 1, 1) := rfl
theorem pY_putOff_53 : alk tY_putOff 53 = some (.iload 4, 2) := rfl
theorem pY_putOff_55 : alk tY_putOff 55 = some (.invokevirtual 95, 3) := rfl
theorem pY_putOff_58 : alk tY_putOff 58 = some (.iadd, 1) := rfl
theorem pY_putOff_59 : alk tY_putOff 59 = some (.invokevirtual 98, 3) := rfl
theorem pY_putOff_62 : alk tY_putOff 62 = some (.aload_n 1, 1) := rfl
theorem pY_putOff_63 : alk tY_putOff 63 = some (.iload 4, 2) := rfl
theorem pY_putOff_65 : alk tY_putOff 65 = some (.invokevirtual 95, 3) := rfl
theorem pY_putOff_68 : alk tY_putOff 68 = some (.isub, 1) := rfl
theorem pY_putOff_69 : alk tY_putOff 69 = some (.istore_n 3, 1) := rfl
theorem pY_putOff_70 : alk tY_putOff 70 = some (.iinc 4 1, 3) := rfl
theorem pY_putOff_73 : alk tY_putOff 73 = some (.goto (-68), 3) := rfl
theorem pY_putOff_76 : alk tY_putOff 76 = some (.iload_n 3, 1) := rfl
theorem pY_putOff_77 : alk tY_putOff 77 = some (.ireturn, 1) := rfl
def tW_aheadOf : TB := [(0, .iload_n 1, 1), (1, .ifCond .lt 20, 3), (4, .iload_n 1, 1), (5, .aload_n 0, 1), (6, .getfield 18, 3), (9, .if_icmp .ge 12, 3), (12, .aload_n 0, 1), (13, .getfield 15, 3), (16, .iload_n 1, 1), (17, .iaload, 1), (18, .goto 4, 3), (21, .iconst 0, 1), (22, .ireturn, 1)]
set_option maxRecDepth 100000 in
theorem kW_aheadOf : tbOk (mB mW_aheadOf) tW_aheadOf = true := by decide +kernel
theorem pW_aheadOf_0 : alk tW_aheadOf 0 = some (.iload_n 1, 1) := rfl
theorem pW_aheadOf_1 : alk tW_aheadOf 1 = some (.ifCond .lt 20, 3) := rfl
theorem pW_aheadOf_4 : alk tW_aheadOf 4 = some (.iload_n 1, 1) := rfl
theorem pW_aheadOf_5 : alk tW_aheadOf 5 = some (.aload_n 0, 1) := rfl
theorem pW_aheadOf_6 : alk tW_aheadOf 6 = some (.getfield 18, 3) := rfl
theorem pW_aheadOf_9 : alk tW_aheadOf 9 = some (.if_icmp .ge 12, 3) := rfl
theorem pW_aheadOf_12 : alk tW_aheadOf 12 = some (.aload_n 0, 1) := rfl
theorem pW_aheadOf_13 : alk tW_aheadOf 13 = some (.getfield 15, 3) := rfl
theorem pW_aheadOf_16 : alk tW_aheadOf 16 = some (.iload_n 1, 1) := rfl
theorem pW_aheadOf_17 : alk tW_aheadOf 17 = some (.iaload, 1) := rfl
theorem pW_aheadOf_18 : alk tW_aheadOf 18 = some (.goto 4, 3) := rfl
theorem pW_aheadOf_21 : alk tW_aheadOf 21 = some (.iconst 0, 1) := rfl
theorem pW_aheadOf_22 : alk tW_aheadOf 22 = some (.ireturn, 1) := rfl
def tA_freeFrom : TB := [(0, .iload_n 1, 1), (1, .istore_n 2, 1), (2, .iconst 0, 1), (3, .istore_n 3, 1), (4, .iload_n 3, 1), (5, .aload_n 0, 1), (6, .getfield 15, 3), (9, .if_icmp .gt 32, 3), (12, .aload_n 0, 1), (13, .iload_n 2, 1), (14, .invokevirtual 28, 3), (17, .istore 4, 2), (19, .iload 4, 2), (21, .iconst (-1), 1), (22, .if_icmp .ne 5, 3), (25, .iload_n 2, 1), (26, .ireturn, 1), (27, .iload 4, 2), (29, .aload_n 0, 1), (30, .getfield 25, 3), (33, .iadd, 1), (34, .istore_n 2, 1), (35, .iinc 3 1, 3), (38, .goto (-34), 3), (41, .iload_n 2, 1), (42, .ireturn, 1)]
set_option maxRecDepth 100000 in
theorem kA_freeFrom : tbOk (mB mA_freeFrom) tA_freeFrom = true := by decide +kernel
theorem pA_freeFrom_0 : alk tA_freeFrom 0 = some (.iload_n 1, 1) := rfl
theorem pA_freeFrom_1 : alk tA_freeFrom 1 = some (.istore_n 2, 1) := rfl
theorem pA_freeFrom_2 : alk tA_freeFrom 2 = some (.iconst 0, 1) := rfl
theorem pA_freeFrom_3 : alk tA_freeFrom 3 = some (.istore_n 3, 1) := rfl
theorem pA_freeFrom_4 : alk tA_freeFrom 4 = some (.iload_n 3, 1) := rfl
theorem pA_freeFrom_5 : alk tA_freeFrom 5 = some (.aload_n 0, 1) := rfl
theorem pA_freeFrom_6 : alk tA_freeFrom 6 = some (.getfield 15, 3) := rfl
theorem pA_freeFrom_9 : alk tA_freeFrom 9 = some (.if_icmp .gt 32, 3) := rfl
theorem pA_freeFrom_12 : alk tA_freeFrom 12 = some (.aload_n 0, 1) := rfl
theorem pA_freeFrom_13 : alk tA_freeFrom 13 = some (.iload_n 2, 1) := rfl
theorem pA_freeFrom_14 : alk tA_freeFrom 14 = some (.invokevirtual 28, 3) := rfl
theorem pA_freeFrom_17 : alk tA_freeFrom 17 = some (.istore 4, 2) := rfl
theorem pA_freeFrom_19 : alk tA_freeFrom 19 = some (.iload 4, 2) := rfl
theorem pA_freeFrom_21 : alk tA_freeFrom 21 = some (.iconst (-1), 1) := rfl
theorem pA_freeFrom_22 : alk tA_freeFrom 22 = some (.if_icmp .ne 5, 3) := rfl
theorem pA_freeFrom_25 : alk tA_freeFrom 25 = some (.iload_n 2, 1) := rfl
theorem pA_freeFrom_26 : alk tA_freeFrom 26 = some (.ireturn, 1) := rfl
theorem pA_freeFrom_27 : alk tA_freeFrom 27 = some (.iload 4, 2) := rfl
theorem pA_freeFrom_29 : alk tA_freeFrom 29 = some (.aload_n 0, 1) := rfl
theorem pA_freeFrom_30 : alk tA_freeFrom 30 = some (.getfield 25, 3) := rfl
theorem pA_freeFrom_33 : alk tA_freeFrom 33 = some (.iadd, 1) := rfl
theorem pA_freeFrom_34 : alk tA_freeFrom 34 = some (.istore_n 2, 1) := rfl
theorem pA_freeFrom_35 : alk tA_freeFrom 35 = some (.iinc 3 1, 3) := rfl
theorem pA_freeFrom_38 : alk tA_freeFrom 38 = some (.goto (-34), 3) := rfl
theorem pA_freeFrom_41 : alk tA_freeFrom 41 = some (.iload_n 2, 1) := rfl
theorem pA_freeFrom_42 : alk tA_freeFrom 42 = some (.ireturn, 1) := rfl
def tA_meets : TB := [(0, .iconst 0, 1), (1, .istore_n 2, 1), (2, .iload_n 2, 1), (3, .aload_n 0, 1), (4, .getfield 15, 3), (7, .if_icmp .ge 55, 3), (10, .iload_n 2, 1), (11, .aload_n 0, 1), (12, .getfield 9, 3), (15, .arraylength, 1), (16, .if_icmp .ge 46, 3), (19, .iload_n 1, 1), (20, .aload_n 0, 1), (21, .getfield 9, 3), (24, .iload_n 2, 1), (25, .iaload, 1), (26, .aload_n 0, 1), (27, .getfield 25, 3), (30, .iadd, 1), (31, .if_icmp .ge 25, 3), (34, .aload_n 0, 1), (35, .getfield 9, 3), (38, .iload_n 2, 1), (39, .iaload, 1), (40, .iload_n 1, 1), (41, .aload_n 0, 1), (42, .getfield 25, 3), (45, .iadd, 1), (46, .if_icmp .ge 10, 3), (49, .aload_n 0, 1), (50, .getfield 9, 3), (53, .iload_n 2, 1), (54, .iaload, 1), (55, .ireturn, 1), (56, .iinc 2 1, 3), (59, .goto (-57), 3), (62, .iconst (-1), 1), (63, .ireturn, 1)]
set_option maxRecDepth 100000 in
theorem kA_meets : tbOk (mB mA_meets) tA_meets = true := by decide +kernel
theorem pA_meets_0 : alk tA_meets 0 = some (.iconst 0, 1) := rfl
theorem pA_meets_1 : alk tA_meets 1 = some (.istore_n 2, 1) := rfl
theorem pA_meets_2 : alk tA_meets 2 = some (.iload_n 2, 1) := rfl
theorem pA_meets_3 : alk tA_meets 3 = some (.aload_n 0, 1) := rfl
theorem pA_meets_4 : alk tA_meets 4 = some (.getfield 15, 3) := rfl
theorem pA_meets_7 : alk tA_meets 7 = some (.if_icmp .ge 55, 3) := rfl
theorem pA_meets_10 : alk tA_meets 10 = some (.iload_n 2, 1) := rfl
theorem pA_meets_11 : alk tA_meets 11 = some (.aload_n 0, 1) := rfl
theorem pA_meets_12 : alk tA_meets 12 = some (.getfield 9, 3) := rfl
theorem pA_meets_15 : alk tA_meets 15 = some (.arraylength, 1) := rfl
theorem pA_meets_16 : alk tA_meets 16 = some (.if_icmp .ge 46, 3) := rfl
theorem pA_meets_19 : alk tA_meets 19 = some (.iload_n 1, 1) := rfl
theorem pA_meets_20 : alk tA_meets 20 = some (.aload_n 0, 1) := rfl
theorem pA_meets_21 : alk tA_meets 21 = some (.getfield 9, 3) := rfl
theorem pA_meets_24 : alk tA_meets 24 = some (.iload_n 2, 1) := rfl
theorem pA_meets_25 : alk tA_meets 25 = some (.iaload, 1) := rfl
theorem pA_meets_26 : alk tA_meets 26 = some (.aload_n 0, 1) := rfl
theorem pA_meets_27 : alk tA_meets 27 = some (.getfield 25, 3) := rfl
theorem pA_meets_30 : alk tA_meets 30 = some (.iadd, 1) := rfl
theorem pA_meets_31 : alk tA_meets 31 = some (.if_icmp .ge 25, 3) := rfl
theorem pA_meets_34 : alk tA_meets 34 = some (.aload_n 0, 1) := rfl
theorem pA_meets_35 : alk tA_meets 35 = some (.getfield 9, 3) := rfl
theorem pA_meets_38 : alk tA_meets 38 = some (.iload_n 2, 1) := rfl
theorem pA_meets_39 : alk tA_meets 39 = some (.iaload, 1) := rfl
theorem pA_meets_40 : alk tA_meets 40 = some (.iload_n 1, 1) := rfl
theorem pA_meets_41 : alk tA_meets 41 = some (.aload_n 0, 1) := rfl
theorem pA_meets_42 : alk tA_meets 42 = some (.getfield 25, 3) := rfl
theorem pA_meets_45 : alk tA_meets 45 = some (.iadd, 1) := rfl
theorem pA_meets_46 : alk tA_meets 46 = some (.if_icmp .ge 10, 3) := rfl
theorem pA_meets_49 : alk tA_meets 49 = some (.aload_n 0, 1) := rfl
theorem pA_meets_50 : alk tA_meets 50 = some (.getfield 9, 3) := rfl
theorem pA_meets_53 : alk tA_meets 53 = some (.iload_n 2, 1) := rfl
theorem pA_meets_54 : alk tA_meets 54 = some (.iaload, 1) := rfl
theorem pA_meets_55 : alk tA_meets 55 = some (.ireturn, 1) := rfl
theorem pA_meets_56 : alk tA_meets 56 = some (.iinc 2 1, 3) := rfl
theorem pA_meets_59 : alk tA_meets 59 = some (.goto (-57), 3) := rfl
theorem pA_meets_62 : alk tA_meets 62 = some (.iconst (-1), 1) := rfl
theorem pA_meets_63 : alk tA_meets 63 = some (.ireturn, 1) := rfl
def tY_take : TB := [(0, .iconst 0, 1), (1, .istore_n 3, 1), (2, .iload_n 3, 1), (3, .aload_n 1, 1), (4, .getfield 89, 3), (7, .if_icmp .ge 55, 3), (10, .aload_n 1, 1), (11, .iload_n 3, 1), (12, .invokevirtual 92, 3), (15, .istore 4, 2), (17, .iload 4, 2), (19, .ifCond .lt 37, 3), (22, .iload 4, 2), (24, .aload_n 0, 1), (25, .getfield 12, 3), (28, .invokevirtual 57, 3), (31, .if_icmp .ge 25, 3), (34, .aload_n 0, 1), (35, .getfield 12, 3), (38, .iload 4, 2), (40, .invokevirtual 69, 3), (43, .checkcast 39, 3), (46, .iload_n 2, 1), (47, .aload_n 1, 1), (48, .iload_n 3, 1), (49, .invokevirtual 95, 3), (52, .iadd, 1), (53, .invokevirtual 101, 3), (56, .iinc 3 1, 3), (59, .goto (-57), 3), (62, .return_, 1)]
set_option maxRecDepth 100000 in
theorem kY_take : tbOk (mB mY_take) tY_take = true := by decide +kernel
theorem pY_take_0 : alk tY_take 0 = some (.iconst 0, 1) := rfl
theorem pY_take_1 : alk tY_take 1 = some (.istore_n 3, 1) := rfl
theorem pY_take_2 : alk tY_take 2 = some (.iload_n 3, 1) := rfl
theorem pY_take_3 : alk tY_take 3 = some (.aload_n 1, 1) := rfl
theorem pY_take_4 : alk tY_take 4 = some (.getfield 89, 3) := rfl
theorem pY_take_7 : alk tY_take 7 = some (.if_icmp .ge 55, 3) := rfl
theorem pY_take_10 : alk tY_take 10 = some (.aload_n 1, 1) := rfl
theorem pY_take_11 : alk tY_take 11 = some (.iload_n 3, 1) := rfl
theorem pY_take_12 : alk tY_take 12 = some (.invokevirtual 92, 3) := rfl
theorem pY_take_15 : alk tY_take 15 = some (.istore 4, 2) := rfl
theorem pY_take_17 : alk tY_take 17 = some (.iload 4, 2) := rfl
theorem pY_take_19 : alk tY_take 19 = some (.ifCond .lt 37, 3) := rfl
theorem pY_take_22 : alk tY_take 22 = some (.iload 4, 2) := rfl
theorem pY_take_24 : alk tY_take 24 = some (.aload_n 0, 1) := rfl
theorem pY_take_25 : alk tY_take 25 = some (.getfield 12, 3) := rfl
theorem pY_take_28 : alk tY_take 28 = some (.invokevirtual 57, 3) := rfl
theorem pY_take_31 : alk tY_take 31 = some (.if_icmp .ge 25, 3) := rfl
theorem pY_take_34 : alk tY_take 34 = some (.aload_n 0, 1) := rfl
theorem pY_take_35 : alk tY_take 35 = some (.getfield 12, 3) := rfl
theorem pY_take_38 : alk tY_take 38 = some (.iload 4, 2) := rfl
theorem pY_take_40 : alk tY_take 40 = some (.invokevirtual 69, 3) := rfl
theorem pY_take_43 : alk tY_take 43 = some (.checkcast 39, 3) := rfl
theorem pY_take_46 : alk tY_take 46 = some (.iload_n 2, 1) := rfl
theorem pY_take_47 : alk tY_take 47 = some (.aload_n 1, 1) := rfl
theorem pY_take_48 : alk tY_take 48 = some (.iload_n 3, 1) := rfl
theorem pY_take_49 : alk tY_take 49 = some (.invokevirtual 95, 3) := rfl
theorem pY_take_52 : alk tY_take 52 = some (.iadd, 1) := rfl
theorem pY_take_53 : alk tY_take 53 = some (.invokevirtual 101, 3) := rfl
theorem pY_take_56 : alk tY_take 56 = some (.iinc 3 1, 3) := rfl
theorem pY_take_59 : alk tY_take 59 = some (.goto (-57), 3) := rfl
theorem pY_take_62 : alk tY_take 62 = some (.return_, 1) := rfl
def tA_take : TB := [(0, .aload_n 0, 1), (1, .getfield 15, 3), (4, .aload_n 0, 1), (5, .getfield 9, 3), (8, .arraylength, 1), (9, .if_icmp .ge 23, 3), (12, .aload_n 0, 1), (13, .getfield 9, 3), (16, .aload_n 0, 1), (17, .getfield 15, 3), (20, .iload_n 1, 1), (21, .iastore, 1), (22, .aload_n 0, 1), (23, .dup, 1), (24, .getfield 15, 3), (27, .iconst 1, 1), (28, .iadd, 1), (29, .putfield 15, 3), (32, .return_, 1)]
set_option maxRecDepth 100000 in
theorem kA_take : tbOk (mB mA_take) tA_take = true := by decide +kernel
theorem pA_take_0 : alk tA_take 0 = some (.aload_n 0, 1) := rfl
theorem pA_take_1 : alk tA_take 1 = some (.getfield 15, 3) := rfl
theorem pA_take_4 : alk tA_take 4 = some (.aload_n 0, 1) := rfl
theorem pA_take_5 : alk tA_take 5 = some (.getfield 9, 3) := rfl
theorem pA_take_8 : alk tA_take 8 = some (.arraylength, 1) := rfl
theorem pA_take_9 : alk tA_take 9 = some (.if_icmp .ge 23, 3) := rfl
theorem pA_take_12 : alk tA_take 12 = some (.aload_n 0, 1) := rfl
theorem pA_take_13 : alk tA_take 13 = some (.getfield 9, 3) := rfl
theorem pA_take_16 : alk tA_take 16 = some (.aload_n 0, 1) := rfl
theorem pA_take_17 : alk tA_take 17 = some (.getfield 15, 3) := rfl
theorem pA_take_20 : alk tA_take 20 = some (.iload_n 1, 1) := rfl
theorem pA_take_21 : alk tA_take 21 = some (.iastore, 1) := rfl
theorem pA_take_22 : alk tA_take 22 = some (.aload_n 0, 1) := rfl
theorem pA_take_23 : alk tA_take 23 = some (.dup, 1) := rfl
theorem pA_take_24 : alk tA_take 24 = some (.getfield 15, 3) := rfl
theorem pA_take_27 : alk tA_take 27 = some (.iconst 1, 1) := rfl
theorem pA_take_28 : alk tA_take 28 = some (.iadd, 1) := rfl
theorem pA_take_29 : alk tA_take 29 = some (.putfield 15, 3) := rfl
theorem pA_take_32 : alk tA_take 32 = some (.return_, 1) := rfl
def tO_leave : TB := [(0, .aload_n 0, 1), (1, .iconst (-1), 1), (2, .putfield 47, 3), (5, .aload_n 0, 1), (6, .iload_n 1, 1), (7, .putfield 18, 3), (10, .aload_n 0, 1), (11, .iload_n 2, 1), (12, .putfield 22, 3), (15, .return_, 1)]
set_option maxRecDepth 100000 in
theorem kO_leave : tbOk (mB mO_leave) tO_leave = true := by decide +kernel
theorem pO_leave_0 : alk tO_leave 0 = some (.aload_n 0, 1) := rfl
theorem pO_leave_1 : alk tO_leave 1 = some (.iconst (-1), 1) := rfl
theorem pO_leave_2 : alk tO_leave 2 = some (.putfield 47, 3) := rfl
theorem pO_leave_5 : alk tO_leave 5 = some (.aload_n 0, 1) := rfl
theorem pO_leave_6 : alk tO_leave 6 = some (.iload_n 1, 1) := rfl
theorem pO_leave_7 : alk tO_leave 7 = some (.putfield 18, 3) := rfl
theorem pO_leave_10 : alk tO_leave 10 = some (.aload_n 0, 1) := rfl
theorem pO_leave_11 : alk tO_leave 11 = some (.iload_n 2, 1) := rfl
theorem pO_leave_12 : alk tO_leave 12 = some (.putfield 22, 3) := rfl
theorem pO_leave_15 : alk tO_leave 15 = some (.return_, 1) := rfl
def tS_water : TB := [(0, .aload_n 0, 1), (1, .iload_n 1, 1), (2, .invokevirtual 141, 3), (5, .astore_n 2, 1), (6, .aload_n 2, 1), (7, .ifnonnull 10, 3), (10, .aload_n 0, 1), (11, .bipush (-3), 2), (13, .invokevirtual 79, 3), (16, .ireturn, 1), (17, .aload_n 0, 1), (18, .aload_n 2, 1), (19, .iconst 1, 1), (20, .invokevirtual 148, 3), (23, .ifCond .ne 10, 3), (26, .aload_n 0, 1), (27, .bipush (-7), 2), (29, .invokevirtual 79, 3), (32, .ireturn, 1), (33, .aload_n 2, 1), (34, .aload_n 0, 1), (35, .getfield 71, 3), (38, .invokevirtual 176, 3), (41, .istore_n 3, 1), (42, .aload_n 2, 1), (43, .aload_n 0, 1), (44, .getfield 71, 3), (47, .putfield 158, 3), (50, .iload_n 3, 1), (51, .ireturn, 1)]
set_option maxRecDepth 100000 in
theorem kS_water : tbOk (mB mS_water) tS_water = true := by decide +kernel
theorem pS_water_0 : alk tS_water 0 = some (.aload_n 0, 1) := rfl
theorem pS_water_1 : alk tS_water 1 = some (.iload_n 1, 1) := rfl
theorem pS_water_2 : alk tS_water 2 = some (.invokevirtual 141, 3) := rfl
theorem pS_water_5 : alk tS_water 5 = some (.astore_n 2, 1) := rfl
theorem pS_water_6 : alk tS_water 6 = some (.aload_n 2, 1) := rfl
theorem pS_water_7 : alk tS_water 7 = some (.ifnonnull 10, 3) := rfl
theorem pS_water_10 : alk tS_water 10 = some (.aload_n 0, 1) := rfl
theorem pS_water_11 : alk tS_water 11 = some (.bipush (-3), 2) := rfl
theorem pS_water_13 : alk tS_water 13 = some (.invokevirtual 79, 3) := rfl
theorem pS_water_16 : alk tS_water 16 = some (.ireturn, 1) := rfl
theorem pS_water_17 : alk tS_water 17 = some (.aload_n 0, 1) := rfl
theorem pS_water_18 : alk tS_water 18 = some (.aload_n 2, 1) := rfl
theorem pS_water_19 : alk tS_water 19 = some (.iconst 1, 1) := rfl
theorem pS_water_20 : alk tS_water 20 = some (.invokevirtual 148, 3) := rfl
theorem pS_water_23 : alk tS_water 23 = some (.ifCond .ne 10, 3) := rfl
theorem pS_water_26 : alk tS_water 26 = some (.aload_n 0, 1) := rfl
theorem pS_water_27 : alk tS_water 27 = some (.bipush (-7), 2) := rfl
theorem pS_water_29 : alk tS_water 29 = some (.invokevirtual 79, 3) := rfl
theorem pS_water_32 : alk tS_water 32 = some (.ireturn, 1) := rfl
theorem pS_water_33 : alk tS_water 33 = some (.aload_n 2, 1) := rfl
theorem pS_water_34 : alk tS_water 34 = some (.aload_n 0, 1) := rfl
theorem pS_water_35 : alk tS_water 35 = some (.getfield 71, 3) := rfl
theorem pS_water_38 : alk tS_water 38 = some (.invokevirtual 176, 3) := rfl
theorem pS_water_41 : alk tS_water 41 = some (.istore_n 3, 1) := rfl
theorem pS_water_42 : alk tS_water 42 = some (.aload_n 2, 1) := rfl
theorem pS_water_43 : alk tS_water 43 = some (.aload_n 0, 1) := rfl
theorem pS_water_44 : alk tS_water 44 = some (.getfield 71, 3) := rfl
theorem pS_water_47 : alk tS_water 47 = some (.putfield 158, 3) := rfl
theorem pS_water_50 : alk tS_water 50 = some (.iload_n 3, 1) := rfl
theorem pS_water_51 : alk tS_water 51 = some (.ireturn, 1) := rfl
def tS_hold : TB := [(0, .aload_n 0, 1), (1, .iload_n 1, 1), (2, .invokevirtual 141, 3), (5, .astore_n 3, 1), (6, .aload_n 3, 1), (7, .ifnonnull 10, 3), (10, .aload_n 0, 1), (11, .bipush (-3), 2), (13, .invokevirtual 79, 3), (16, .ireturn, 1), (17, .aload_n 3, 1), (18, .getfield 145, 3), (21, .ifCond .eq 18, 3), (24, .aload_n 3, 1), (25, .getfield 145, 3), (28, .iconst 1, 1), (29, .if_icmp .eq 10, 3), (32, .aload_n 0, 1), (33, .bipush (-5), 2), (35, .invokevirtual 79, 3), (38, .ireturn, 1), (39, .iload_n 2, 1), (40, .ifCond .eq 8, 3), (43, .iload_n 2, 1), (44, .iconst 1, 1), (45, .if_icmp .ne 13, 3), (48, .aload_n 3, 1), (49, .getfield 186, 3), (52, .invokevirtual 217, 3), (55, .ifCond .eq 10, 3), (58, .aload_n 0, 1), (59, .bipush (-7), 2), (61, .invokevirtual 79, 3), (64, .ireturn, 1), (65, .aload_n 3, 1), (66, .getfield 145, 3), (69, .istore 4, 2), (71, .aload_n 3, 1), (72, .iload_n 2, 1), (73, .putfield 145, 3), (76, .iload 4, 2), (78, .ireturn, 1)]
set_option maxRecDepth 100000 in
theorem kS_hold : tbOk (mB mS_hold) tS_hold = true := by decide +kernel
theorem pS_hold_0 : alk tS_hold 0 = some (.aload_n 0, 1) := rfl
theorem pS_hold_1 : alk tS_hold 1 = some (.iload_n 1, 1) := rfl
theorem pS_hold_2 : alk tS_hold 2 = some (.invokevirtual 141, 3) := rfl
theorem pS_hold_5 : alk tS_hold 5 = some (.astore_n 3, 1) := rfl
theorem pS_hold_6 : alk tS_hold 6 = some (.aload_n 3, 1) := rfl
theorem pS_hold_7 : alk tS_hold 7 = some (.ifnonnull 10, 3) := rfl
theorem pS_hold_10 : alk tS_hold 10 = some (.aload_n 0, 1) := rfl
theorem pS_hold_11 : alk tS_hold 11 = some (.bipush (-3), 2) := rfl
theorem pS_hold_13 : alk tS_hold 13 = some (.invokevirtual 79, 3) := rfl
theorem pS_hold_16 : alk tS_hold 16 = some (.ireturn, 1) := rfl
theorem pS_hold_17 : alk tS_hold 17 = some (.aload_n 3, 1) := rfl
theorem pS_hold_18 : alk tS_hold 18 = some (.getfield 145, 3) := rfl
theorem pS_hold_21 : alk tS_hold 21 = some (.ifCond .eq 18, 3) := rfl
theorem pS_hold_24 : alk tS_hold 24 = some (.aload_n 3, 1) := rfl
theorem pS_hold_25 : alk tS_hold 25 = some (.getfield 145, 3) := rfl
theorem pS_hold_28 : alk tS_hold 28 = some (.iconst 1, 1) := rfl
theorem pS_hold_29 : alk tS_hold 29 = some (.if_icmp .eq 10, 3) := rfl
theorem pS_hold_32 : alk tS_hold 32 = some (.aload_n 0, 1) := rfl
theorem pS_hold_33 : alk tS_hold 33 = some (.bipush (-5), 2) := rfl
theorem pS_hold_35 : alk tS_hold 35 = some (.invokevirtual 79, 3) := rfl
theorem pS_hold_38 : alk tS_hold 38 = some (.ireturn, 1) := rfl
theorem pS_hold_39 : alk tS_hold 39 = some (.iload_n 2, 1) := rfl
theorem pS_hold_40 : alk tS_hold 40 = some (.ifCond .eq 8, 3) := rfl
theorem pS_hold_43 : alk tS_hold 43 = some (.iload_n 2, 1) := rfl
theorem pS_hold_44 : alk tS_hold 44 = some (.iconst 1, 1) := rfl
theorem pS_hold_45 : alk tS_hold 45 = some (.if_icmp .ne 13, 3) := rfl
theorem pS_hold_48 : alk tS_hold 48 = some (.aload_n 3, 1) := rfl
theorem pS_hold_49 : alk tS_hold 49 = some (.getfield 186, 3) := rfl
theorem pS_hold_52 : alk tS_hold 52 = some (.invokevirtual 217, 3) := rfl
theorem pS_hold_55 : alk tS_hold 55 = some (.ifCond .eq 10, 3) := rfl
theorem pS_hold_58 : alk tS_hold 58 = some (.aload_n 0, 1) := rfl
theorem pS_hold_59 : alk tS_hold 59 = some (.bipush (-7), 2) := rfl
theorem pS_hold_61 : alk tS_hold 61 = some (.invokevirtual 79, 3) := rfl
theorem pS_hold_64 : alk tS_hold 64 = some (.ireturn, 1) := rfl
theorem pS_hold_65 : alk tS_hold 65 = some (.aload_n 3, 1) := rfl
theorem pS_hold_66 : alk tS_hold 66 = some (.getfield 145, 3) := rfl
theorem pS_hold_69 : alk tS_hold 69 = some (.istore 4, 2) := rfl
theorem pS_hold_71 : alk tS_hold 71 = some (.aload_n 3, 1) := rfl
theorem pS_hold_72 : alk tS_hold 72 = some (.iload_n 2, 1) := rfl
theorem pS_hold_73 : alk tS_hold 73 = some (.putfield 145, 3) := rfl
theorem pS_hold_76 : alk tS_hold 76 = some (.iload 4, 2) := rfl
theorem pS_hold_78 : alk tS_hold 78 = some (.ireturn, 1) := rfl
def tE_isSold : TB := [(0, .aload_n 0, 1), (1, .getfield 34, 3), (4, .iconst (-1), 1), (5, .if_icmp .eq 7, 3), (8, .iconst 1, 1), (9, .goto 4, 3), (12, .iconst 0, 1), (13, .ireturn, 1)]
set_option maxRecDepth 100000 in
theorem kE_isSold : tbOk (mB mE_isSold) tE_isSold = true := by decide +kernel
theorem pE_isSold_0 : alk tE_isSold 0 = some (.aload_n 0, 1) := rfl
theorem pE_isSold_1 : alk tE_isSold 1 = some (.getfield 34, 3) := rfl
theorem pE_isSold_4 : alk tE_isSold 4 = some (.iconst (-1), 1) := rfl
theorem pE_isSold_5 : alk tE_isSold 5 = some (.if_icmp .eq 7, 3) := rfl
theorem pE_isSold_8 : alk tE_isSold 8 = some (.iconst 1, 1) := rfl
theorem pE_isSold_9 : alk tE_isSold 9 = some (.goto 4, 3) := rfl
theorem pE_isSold_12 : alk tE_isSold 12 = some (.iconst 0, 1) := rfl
theorem pE_isSold_13 : alk tE_isSold 13 = some (.ireturn, 1) := rfl
def tS_plan : TB := [(0, .iload_n 1, 1), (1, .aload_n 0, 1), (2, .getfield 19, 3), (5, .invokevirtual 96, 3), (8, .iushr, 1), (9, .ifCond .ne 15, 3), (12, .iload_n 2, 1), (13, .aload_n 0, 1), (14, .getfield 12, 3), (17, .getfield 83, 3), (20, .iushr, 1), (21, .ifCond .eq 10, 3), (24, .aload_n 0, 1), (25, .bipush (-3), 2), (27, .invokevirtual 79, 3), (30, .ireturn, 1), (31, .aload_n 0, 1), (32, .iload_n 2, 1), (33, .invokevirtual 221, 3), (36, .ifCond .ne 10, 3), (39, .aload_n 0, 1), (40, .bipush (-5), 2), (42, .invokevirtual 79, 3), (45, .ireturn, 1), (46, .iload_n 1, 1), (47, .invokestatic 224, 3), (50, .istore_n 3, 1), (51, .iload_n 3, 1), (52, .iconst 1, 1), (53, .iconst 4, 1), (54, .invokestatic 75, 3), (57, .ifCond .eq 11, 3), (60, .iload_n 2, 1), (61, .invokestatic 224, 3), (64, .iload_n 3, 1), (65, .if_icmp .eq 10, 3), (68, .aload_n 0, 1), (69, .bipush (-7), 2), (71, .invokevirtual 79, 3), (74, .ireturn, 1), (75, .aload_n 0, 1), (76, .iload_n 1, 1), (77, .invokevirtual 229, 3), (80, .ifCond .eq 11, 3), (83, .aload_n 0, 1), (84, .iload_n 2, 1), (85, .invokevirtual 232, 3), (88, .ifCond .eq 10, 3), (91, .aload_n 0, 1), (92, .bipush (-7), 2), (94, .invokevirtual 79, 3), (97, .ireturn, 1), (98, .aload_n 0, 1), (99, .iload_n 1, 1), (100, .iload_n 2, 1), (101, .invokevirtual 235, 3), (104, .aload_n 0, 1), (105, .getfield 49, 3), (108, .aload_n 0, 1), (109, .getfield 71, 3), (112, .invokevirtual 238, 3), (115, .ifCond .eq 13, 3), (118, .aload_n 0, 1), (119, .getfield 49, 3), (122, .getfield 241, 3), (125, .goto 9, 3), (128, .aload_n 0, 1), (129, .bipush (-2), 2), (131, .invokevirtual 79, 3), (134, .ireturn, 1)]
set_option maxRecDepth 100000 in
theorem kS_plan : tbOk (mB mS_plan) tS_plan = true := by decide +kernel
theorem pS_plan_0 : alk tS_plan 0 = some (.iload_n 1, 1) := rfl
theorem pS_plan_1 : alk tS_plan 1 = some (.aload_n 0, 1) := rfl
theorem pS_plan_2 : alk tS_plan 2 = some (.getfield 19, 3) := rfl
theorem pS_plan_5 : alk tS_plan 5 = some (.invokevirtual 96, 3) := rfl
theorem pS_plan_8 : alk tS_plan 8 = some (.iushr, 1) := rfl
theorem pS_plan_9 : alk tS_plan 9 = some (.ifCond .ne 15, 3) := rfl
theorem pS_plan_12 : alk tS_plan 12 = some (.iload_n 2, 1) := rfl
theorem pS_plan_13 : alk tS_plan 13 = some (.aload_n 0, 1) := rfl
theorem pS_plan_14 : alk tS_plan 14 = some (.getfield 12, 3) := rfl
theorem pS_plan_17 : alk tS_plan 17 = some (.getfield 83, 3) := rfl
theorem pS_plan_20 : alk tS_plan 20 = some (.iushr, 1) := rfl
theorem pS_plan_21 : alk tS_plan 21 = some (.ifCond .eq 10, 3) := rfl
theorem pS_plan_24 : alk tS_plan 24 = some (.aload_n 0, 1) := rfl
theorem pS_plan_25 : alk tS_plan 25 = some (.bipush (-3), 2) := rfl
theorem pS_plan_27 : alk tS_plan 27 = some (.invokevirtual 79, 3) := rfl
theorem pS_plan_30 : alk tS_plan 30 = some (.ireturn, 1) := rfl
theorem pS_plan_31 : alk tS_plan 31 = some (.aload_n 0, 1) := rfl
theorem pS_plan_32 : alk tS_plan 32 = some (.iload_n 2, 1) := rfl
theorem pS_plan_33 : alk tS_plan 33 = some (.invokevirtual 221, 3) := rfl
theorem pS_plan_36 : alk tS_plan 36 = some (.ifCond .ne 10, 3) := rfl
theorem pS_plan_39 : alk tS_plan 39 = some (.aload_n 0, 1) := rfl
theorem pS_plan_40 : alk tS_plan 40 = some (.bipush (-5), 2) := rfl
theorem pS_plan_42 : alk tS_plan 42 = some (.invokevirtual 79, 3) := rfl
theorem pS_plan_45 : alk tS_plan 45 = some (.ireturn, 1) := rfl
theorem pS_plan_46 : alk tS_plan 46 = some (.iload_n 1, 1) := rfl
theorem pS_plan_47 : alk tS_plan 47 = some (.invokestatic 224, 3) := rfl
theorem pS_plan_50 : alk tS_plan 50 = some (.istore_n 3, 1) := rfl
theorem pS_plan_51 : alk tS_plan 51 = some (.iload_n 3, 1) := rfl
theorem pS_plan_52 : alk tS_plan 52 = some (.iconst 1, 1) := rfl
theorem pS_plan_53 : alk tS_plan 53 = some (.iconst 4, 1) := rfl
theorem pS_plan_54 : alk tS_plan 54 = some (.invokestatic 75, 3) := rfl
theorem pS_plan_57 : alk tS_plan 57 = some (.ifCond .eq 11, 3) := rfl
theorem pS_plan_60 : alk tS_plan 60 = some (.iload_n 2, 1) := rfl
theorem pS_plan_61 : alk tS_plan 61 = some (.invokestatic 224, 3) := rfl
theorem pS_plan_64 : alk tS_plan 64 = some (.iload_n 3, 1) := rfl
theorem pS_plan_65 : alk tS_plan 65 = some (.if_icmp .eq 10, 3) := rfl
theorem pS_plan_68 : alk tS_plan 68 = some (.aload_n 0, 1) := rfl
theorem pS_plan_69 : alk tS_plan 69 = some (.bipush (-7), 2) := rfl
theorem pS_plan_71 : alk tS_plan 71 = some (.invokevirtual 79, 3) := rfl
theorem pS_plan_74 : alk tS_plan 74 = some (.ireturn, 1) := rfl
theorem pS_plan_75 : alk tS_plan 75 = some (.aload_n 0, 1) := rfl
theorem pS_plan_76 : alk tS_plan 76 = some (.iload_n 1, 1) := rfl
theorem pS_plan_77 : alk tS_plan 77 = some (.invokevirtual 229, 3) := rfl
theorem pS_plan_80 : alk tS_plan 80 = some (.ifCond .eq 11, 3) := rfl
theorem pS_plan_83 : alk tS_plan 83 = some (.aload_n 0, 1) := rfl
theorem pS_plan_84 : alk tS_plan 84 = some (.iload_n 2, 1) := rfl
theorem pS_plan_85 : alk tS_plan 85 = some (.invokevirtual 232, 3) := rfl
theorem pS_plan_88 : alk tS_plan 88 = some (.ifCond .eq 10, 3) := rfl
theorem pS_plan_91 : alk tS_plan 91 = some (.aload_n 0, 1) := rfl
theorem pS_plan_92 : alk tS_plan 92 = some (.bipush (-7), 2) := rfl
theorem pS_plan_94 : alk tS_plan 94 = some (.invokevirtual 79, 3) := rfl
theorem pS_plan_97 : alk tS_plan 97 = some (.ireturn, 1) := rfl
theorem pS_plan_98 : alk tS_plan 98 = some (.aload_n 0, 1) := rfl
theorem pS_plan_99 : alk tS_plan 99 = some (.iload_n 1, 1) := rfl
theorem pS_plan_100 : alk tS_plan 100 = some (.iload_n 2, 1) := rfl
theorem pS_plan_101 : alk tS_plan 101 = some (.invokevirtual 235, 3) := rfl
theorem pS_plan_104 : alk tS_plan 104 = some (.aload_n 0, 1) := rfl
theorem pS_plan_105 : alk tS_plan 105 = some (.getfield 49, 3) := rfl
theorem pS_plan_108 : alk tS_plan 108 = some (.aload_n 0, 1) := rfl
theorem pS_plan_109 : alk tS_plan 109 = some (.getfield 71, 3) := rfl
theorem pS_plan_112 : alk tS_plan 112 = some (.invokevirtual 238, 3) := rfl
set_option maxRecDepth 20000 in
theorem pS_plan_115 : alk tS_plan 115 = some (.ifCond .eq 13, 3) := rfl
set_option maxRecDepth 20000 in
theorem pS_plan_118 : alk tS_plan 118 = some (.aload_n 0, 1) := rfl
set_option maxRecDepth 20000 in
theorem pS_plan_119 : alk tS_plan 119 = some (.getfield 49, 3) := rfl
set_option maxRecDepth 20000 in
theorem pS_plan_122 : alk tS_plan 122 = some (.getfield 241, 3) := rfl
set_option maxRecDepth 20000 in
theorem pS_plan_125 : alk tS_plan 125 = some (.goto 9, 3) := rfl
set_option maxRecDepth 20000 in
theorem pS_plan_128 : alk tS_plan 128 = some (.aload_n 0, 1) := rfl
set_option maxRecDepth 20000 in
theorem pS_plan_129 : alk tS_plan 129 = some (.bipush (-2), 2) := rfl
set_option maxRecDepth 20000 in
theorem pS_plan_131 : alk tS_plan 131 = some (.invokevirtual 79, 3) := rfl
set_option maxRecDepth 20000 in
theorem pS_plan_134 : alk tS_plan 134 = some (.ireturn, 1) := rfl
def tS_arePens : TB := [(0, .iconst 0, 1), (1, .istore_n 2, 1), (2, .iload_n 2, 1), (3, .aload_n 0, 1), (4, .getfield 12, 3), (7, .getfield 83, 3), (10, .if_icmp .ge 31, 3), (13, .iload_n 1, 1), (14, .iload_n 2, 1), (15, .invokestatic 397, 3), (18, .ifCond .eq 17, 3), (21, .aload_n 0, 1), (22, .getfield 12, 3), (25, .iload_n 2, 1), (26, .invokevirtual 120, 3), (29, .iconst 1, 1), (30, .if_icmp .eq 5, 3), (33, .iconst 0, 1), (34, .ireturn, 1), (35, .iinc 2 1, 3), (38, .goto (-36), 3), (41, .iconst 1, 1), (42, .ireturn, 1)]
set_option maxRecDepth 100000 in
theorem kS_arePens : tbOk (mB mS_arePens) tS_arePens = true := by decide +kernel
theorem pS_arePens_0 : alk tS_arePens 0 = some (.iconst 0, 1) := rfl
theorem pS_arePens_1 : alk tS_arePens 1 = some (.istore_n 2, 1) := rfl
theorem pS_arePens_2 : alk tS_arePens 2 = some (.iload_n 2, 1) := rfl
theorem pS_arePens_3 : alk tS_arePens 3 = some (.aload_n 0, 1) := rfl
theorem pS_arePens_4 : alk tS_arePens 4 = some (.getfield 12, 3) := rfl
theorem pS_arePens_7 : alk tS_arePens 7 = some (.getfield 83, 3) := rfl
theorem pS_arePens_10 : alk tS_arePens 10 = some (.if_icmp .ge 31, 3) := rfl
theorem pS_arePens_13 : alk tS_arePens 13 = some (.iload_n 1, 1) := rfl
theorem pS_arePens_14 : alk tS_arePens 14 = some (.iload_n 2, 1) := rfl
theorem pS_arePens_15 : alk tS_arePens 15 = some (.invokestatic 397, 3) := rfl
theorem pS_arePens_18 : alk tS_arePens 18 = some (.ifCond .eq 17, 3) := rfl
theorem pS_arePens_21 : alk tS_arePens 21 = some (.aload_n 0, 1) := rfl
theorem pS_arePens_22 : alk tS_arePens 22 = some (.getfield 12, 3) := rfl
theorem pS_arePens_25 : alk tS_arePens 25 = some (.iload_n 2, 1) := rfl
theorem pS_arePens_26 : alk tS_arePens 26 = some (.invokevirtual 120, 3) := rfl
theorem pS_arePens_29 : alk tS_arePens 29 = some (.iconst 1, 1) := rfl
theorem pS_arePens_30 : alk tS_arePens 30 = some (.if_icmp .eq 5, 3) := rfl
theorem pS_arePens_33 : alk tS_arePens 33 = some (.iconst 0, 1) := rfl
theorem pS_arePens_34 : alk tS_arePens 34 = some (.ireturn, 1) := rfl
theorem pS_arePens_35 : alk tS_arePens 35 = some (.iinc 2 1, 3) := rfl
theorem pS_arePens_38 : alk tS_arePens 38 = some (.goto (-36), 3) := rfl
theorem pS_arePens_41 : alk tS_arePens 41 = some (.iconst 1, 1) := rfl
theorem pS_arePens_42 : alk tS_arePens 42 = some (.ireturn, 1) := rfl
def tS_inSet : TB := [(0, .iload_n 0, 1), (1, .iload_n 1, 1), (2, .iushr, 1), (3, .iconst 1, 1), (4, .iand, 1), (5, .iconst 1, 1), (6, .if_icmp .ne 7, 3), (9, .iconst 1, 1), (10, .goto 4, 3), (13, .iconst 0, 1), (14, .ireturn, 1)]
set_option maxRecDepth 100000 in
theorem kS_inSet : tbOk (mB mS_inSet) tS_inSet = true := by decide +kernel
theorem pS_inSet_0 : alk tS_inSet 0 = some (.iload_n 0, 1) := rfl
theorem pS_inSet_1 : alk tS_inSet 1 = some (.iload_n 1, 1) := rfl
theorem pS_inSet_2 : alk tS_inSet 2 = some (.iushr, 1) := rfl
theorem pS_inSet_3 : alk tS_inSet 3 = some (.iconst 1, 1) := rfl
theorem pS_inSet_4 : alk tS_inSet 4 = some (.iand, 1) := rfl
theorem pS_inSet_5 : alk tS_inSet 5 = some (.iconst 1, 1) := rfl
theorem pS_inSet_6 : alk tS_inSet 6 = some (.if_icmp .ne 7, 3) := rfl
theorem pS_inSet_9 : alk tS_inSet 9 = some (.iconst 1, 1) := rfl
theorem pS_inSet_10 : alk tS_inSet 10 = some (.goto 4, 3) := rfl
theorem pS_inSet_13 : alk tS_inSet 13 = some (.iconst 0, 1) := rfl
theorem pS_inSet_14 : alk tS_inSet 14 = some (.ireturn, 1) := rfl
def tS_mayAllBeDriven : TB := [(0, .iconst 0, 1), (1, .istore_n 2, 1), (2, .iload_n 2, 1), (3, .aload_n 0, 1), (4, .getfield 19, 3), (7, .invokevirtual 96, 3), (10, .if_icmp .ge 37, 3), (13, .iload_n 1, 1), (14, .iload_n 2, 1), (15, .invokestatic 397, 3), (18, .ifCond .eq 23, 3), (21, .aload_n 0, 1), (22, .aload_n 0, 1), (23, .getfield 19, 3), (26, .iload_n 2, 1), (27, .invokevirtual 277, 3), (30, .checkcast 132, 3), (33, .invokevirtual 202, 3), (36, .ifCond .ne 5, 3), (39, .iconst 0, 1), (40, .ireturn, 1), (41, .iinc 2 1, 3), (44, .goto (-42), 3), (47, .iconst 1, 1), (48, .ireturn, 1)]
set_option maxRecDepth 100000 in
theorem kS_mayAllBeDriven : tbOk (mB mS_mayAllBeDriven) tS_mayAllBeDriven = true := by decide +kernel
theorem pS_mayAllBeDriven_0 : alk tS_mayAllBeDriven 0 = some (.iconst 0, 1) := rfl
theorem pS_mayAllBeDriven_1 : alk tS_mayAllBeDriven 1 = some (.istore_n 2, 1) := rfl
theorem pS_mayAllBeDriven_2 : alk tS_mayAllBeDriven 2 = some (.iload_n 2, 1) := rfl
theorem pS_mayAllBeDriven_3 : alk tS_mayAllBeDriven 3 = some (.aload_n 0, 1) := rfl
theorem pS_mayAllBeDriven_4 : alk tS_mayAllBeDriven 4 = some (.getfield 19, 3) := rfl
theorem pS_mayAllBeDriven_7 : alk tS_mayAllBeDriven 7 = some (.invokevirtual 96, 3) := rfl
theorem pS_mayAllBeDriven_10 : alk tS_mayAllBeDriven 10 = some (.if_icmp .ge 37, 3) := rfl
theorem pS_mayAllBeDriven_13 : alk tS_mayAllBeDriven 13 = some (.iload_n 1, 1) := rfl
theorem pS_mayAllBeDriven_14 : alk tS_mayAllBeDriven 14 = some (.iload_n 2, 1) := rfl
theorem pS_mayAllBeDriven_15 : alk tS_mayAllBeDriven 15 = some (.invokestatic 397, 3) := rfl
theorem pS_mayAllBeDriven_18 : alk tS_mayAllBeDriven 18 = some (.ifCond .eq 23, 3) := rfl
theorem pS_mayAllBeDriven_21 : alk tS_mayAllBeDriven 21 = some (.aload_n 0, 1) := rfl
theorem pS_mayAllBeDriven_22 : alk tS_mayAllBeDriven 22 = some (.aload_n 0, 1) := rfl
theorem pS_mayAllBeDriven_23 : alk tS_mayAllBeDriven 23 = some (.getfield 19, 3) := rfl
theorem pS_mayAllBeDriven_26 : alk tS_mayAllBeDriven 26 = some (.iload_n 2, 1) := rfl
theorem pS_mayAllBeDriven_27 : alk tS_mayAllBeDriven 27 = some (.invokevirtual 277, 3) := rfl
theorem pS_mayAllBeDriven_30 : alk tS_mayAllBeDriven 30 = some (.checkcast 132, 3) := rfl
theorem pS_mayAllBeDriven_33 : alk tS_mayAllBeDriven 33 = some (.invokevirtual 202, 3) := rfl
theorem pS_mayAllBeDriven_36 : alk tS_mayAllBeDriven 36 = some (.ifCond .ne 5, 3) := rfl
theorem pS_mayAllBeDriven_39 : alk tS_mayAllBeDriven 39 = some (.iconst 0, 1) := rfl
theorem pS_mayAllBeDriven_40 : alk tS_mayAllBeDriven 40 = some (.ireturn, 1) := rfl
theorem pS_mayAllBeDriven_41 : alk tS_mayAllBeDriven 41 = some (.iinc 2 1, 3) := rfl
theorem pS_mayAllBeDriven_44 : alk tS_mayAllBeDriven 44 = some (.goto (-42), 3) := rfl
theorem pS_mayAllBeDriven_47 : alk tS_mayAllBeDriven 47 = some (.iconst 1, 1) := rfl
theorem pS_mayAllBeDriven_48 : alk tS_mayAllBeDriven 48 = some (.ireturn, 1) := rfl
def tS_hasLotInOne : TB := [(0, .iconst 0, 1), (1, .istore_n 2, 1), (2, .iload_n 2, 1), (3, .aload_n 0, 1), (4, .getfield 12, 3), (7, .getfield 83, 3), (10, .if_icmp .ge 27, 3), (13, .iload_n 1, 1), (14, .iload_n 2, 1), (15, .invokestatic 397, 3), (18, .ifCond .eq 13, 3), (21, .aload_n 0, 1), (22, .iload_n 2, 1), (23, .invokevirtual 129, 3), (26, .ifCond .eq 5, 3), (29, .iconst 1, 1), (30, .ireturn, 1), (31, .iinc 2 1, 3), (34, .goto (-32), 3), (37, .iconst 0, 1), (38, .ireturn, 1)]
set_option maxRecDepth 100000 in
theorem kS_hasLotInOne : tbOk (mB mS_hasLotInOne) tS_hasLotInOne = true := by decide +kernel
theorem pS_hasLotInOne_0 : alk tS_hasLotInOne 0 = some (.iconst 0, 1) := rfl
theorem pS_hasLotInOne_1 : alk tS_hasLotInOne 1 = some (.istore_n 2, 1) := rfl
theorem pS_hasLotInOne_2 : alk tS_hasLotInOne 2 = some (.iload_n 2, 1) := rfl
theorem pS_hasLotInOne_3 : alk tS_hasLotInOne 3 = some (.aload_n 0, 1) := rfl
theorem pS_hasLotInOne_4 : alk tS_hasLotInOne 4 = some (.getfield 12, 3) := rfl
theorem pS_hasLotInOne_7 : alk tS_hasLotInOne 7 = some (.getfield 83, 3) := rfl
theorem pS_hasLotInOne_10 : alk tS_hasLotInOne 10 = some (.if_icmp .ge 27, 3) := rfl
theorem pS_hasLotInOne_13 : alk tS_hasLotInOne 13 = some (.iload_n 1, 1) := rfl
theorem pS_hasLotInOne_14 : alk tS_hasLotInOne 14 = some (.iload_n 2, 1) := rfl
theorem pS_hasLotInOne_15 : alk tS_hasLotInOne 15 = some (.invokestatic 397, 3) := rfl
theorem pS_hasLotInOne_18 : alk tS_hasLotInOne 18 = some (.ifCond .eq 13, 3) := rfl
theorem pS_hasLotInOne_21 : alk tS_hasLotInOne 21 = some (.aload_n 0, 1) := rfl
theorem pS_hasLotInOne_22 : alk tS_hasLotInOne 22 = some (.iload_n 2, 1) := rfl
theorem pS_hasLotInOne_23 : alk tS_hasLotInOne 23 = some (.invokevirtual 129, 3) := rfl
theorem pS_hasLotInOne_26 : alk tS_hasLotInOne 26 = some (.ifCond .eq 5, 3) := rfl
theorem pS_hasLotInOne_29 : alk tS_hasLotInOne 29 = some (.iconst 1, 1) := rfl
theorem pS_hasLotInOne_30 : alk tS_hasLotInOne 30 = some (.ireturn, 1) := rfl
theorem pS_hasLotInOne_31 : alk tS_hasLotInOne 31 = some (.iinc 2 1, 3) := rfl
theorem pS_hasLotInOne_34 : alk tS_hasLotInOne 34 = some (.goto (-32), 3) := rfl
theorem pS_hasLotInOne_37 : alk tS_hasLotInOne 37 = some (.iconst 0, 1) := rfl
theorem pS_hasLotInOne_38 : alk tS_hasLotInOne 38 = some (.ireturn, 1) := rfl
def tS_readyPlanner : TB := [(0, .aload_n 0, 1), (1, .getfield 49, 3), (4, .invokevirtual 400, 3), (7, .iconst 0, 1), (8, .istore_n 3, 1), (9, .iload_n 3, 1), (10, .aload_n 0, 1), (11, .getfield 12, 3), (14, .getfield 83, 3), (17, .if_icmp .ge 25, 3), (20, .iload_n 2, 1), (21, .iload_n 3, 1), (22, .invokestatic 397, 3), (25, .ifCond .eq 11, 3), (28, .aload_n 0, 1), (29, .getfield 49, 3), (32, .iload_n 3, 1), (33, .invokevirtual 403, 3), (36, .iinc 3 1, 3), (39, .goto (-30), 3), (42, .iconst 0, 1), (43, .istore_n 3, 1), (44, .iload_n 3, 1), (45, .aload_n 0, 1), (46, .getfield 19, 3), (49, .invokevirtual 96, 3), (52, .if_icmp .ge 39, 3), (55, .iload_n 1, 1), (56, .iload_n 3, 1), (57, .invokestatic 397, 3), (60, .ifCond .eq 25, 3), (63, .aload_n 0, 1), (64, .getfield 49, 3), (67, .iload_n 3, 1), (68, .aload_n 0, 1), (69, .getfield 19, 3), (72, .iload_n 3, 1), (73, .invokevirtual 277, 3), (76, .checkcast 132, 3), (79, .getfield 167, 3), (82, .invokevirtual 406, 3), (85, .iinc 3 1, 3), (88, .goto (-44), 3), (91, .return_, 1)]
set_option maxRecDepth 100000 in
theorem kS_readyPlanner : tbOk (mB mS_readyPlanner) tS_readyPlanner = true := by decide +kernel
theorem pS_readyPlanner_0 : alk tS_readyPlanner 0 = some (.aload_n 0, 1) := rfl
theorem pS_readyPlanner_1 : alk tS_readyPlanner 1 = some (.getfield 49, 3) := rfl
theorem pS_readyPlanner_4 : alk tS_readyPlanner 4 = some (.invokevirtual 400, 3) := rfl
theorem pS_readyPlanner_7 : alk tS_readyPlanner 7 = some (.iconst 0, 1) := rfl
theorem pS_readyPlanner_8 : alk tS_readyPlanner 8 = some (.istore_n 3, 1) := rfl
theorem pS_readyPlanner_9 : alk tS_readyPlanner 9 = some (.iload_n 3, 1) := rfl
theorem pS_readyPlanner_10 : alk tS_readyPlanner 10 = some (.aload_n 0, 1) := rfl
theorem pS_readyPlanner_11 : alk tS_readyPlanner 11 = some (.getfield 12, 3) := rfl
theorem pS_readyPlanner_14 : alk tS_readyPlanner 14 = some (.getfield 83, 3) := rfl
theorem pS_readyPlanner_17 : alk tS_readyPlanner 17 = some (.if_icmp .ge 25, 3) := rfl
theorem pS_readyPlanner_20 : alk tS_readyPlanner 20 = some (.iload_n 2, 1) := rfl
theorem pS_readyPlanner_21 : alk tS_readyPlanner 21 = some (.iload_n 3, 1) := rfl
theorem pS_readyPlanner_22 : alk tS_readyPlanner 22 = some (.invokestatic 397, 3) := rfl
theorem pS_readyPlanner_25 : alk tS_readyPlanner 25 = some (.ifCond .eq 11, 3) := rfl
theorem pS_readyPlanner_28 : alk tS_readyPlanner 28 = some (.aload_n 0, 1) := rfl
theorem pS_readyPlanner_29 : alk tS_readyPlanner 29 = some (.getfield 49, 3) := rfl
theorem pS_readyPlanner_32 : alk tS_readyPlanner 32 = some (.iload_n 3, 1) := rfl
theorem pS_readyPlanner_33 : alk tS_readyPlanner 33 = some (.invokevirtual 403, 3) := rfl
theorem pS_readyPlanner_36 : alk tS_readyPlanner 36 = some (.iinc 3 1, 3) := rfl
theorem pS_readyPlanner_39 : alk tS_readyPlanner 39 = some (.goto (-30), 3) := rfl
theorem pS_readyPlanner_42 : alk tS_readyPlanner 42 = some (.iconst 0, 1) := rfl
theorem pS_readyPlanner_43 : alk tS_readyPlanner 43 = some (.istore_n 3, 1) := rfl
theorem pS_readyPlanner_44 : alk tS_readyPlanner 44 = some (.iload_n 3, 1) := rfl
theorem pS_readyPlanner_45 : alk tS_readyPlanner 45 = some (.aload_n 0, 1) := rfl
theorem pS_readyPlanner_46 : alk tS_readyPlanner 46 = some (.getfield 19, 3) := rfl
theorem pS_readyPlanner_49 : alk tS_readyPlanner 49 = some (.invokevirtual 96, 3) := rfl
theorem pS_readyPlanner_52 : alk tS_readyPlanner 52 = some (.if_icmp .ge 39, 3) := rfl
theorem pS_readyPlanner_55 : alk tS_readyPlanner 55 = some (.iload_n 1, 1) := rfl
theorem pS_readyPlanner_56 : alk tS_readyPlanner 56 = some (.iload_n 3, 1) := rfl
theorem pS_readyPlanner_57 : alk tS_readyPlanner 57 = some (.invokestatic 397, 3) := rfl
theorem pS_readyPlanner_60 : alk tS_readyPlanner 60 = some (.ifCond .eq 25, 3) := rfl
theorem pS_readyPlanner_63 : alk tS_readyPlanner 63 = some (.aload_n 0, 1) := rfl
theorem pS_readyPlanner_64 : alk tS_readyPlanner 64 = some (.getfield 49, 3) := rfl
theorem pS_readyPlanner_67 : alk tS_readyPlanner 67 = some (.iload_n 3, 1) := rfl
theorem pS_readyPlanner_68 : alk tS_readyPlanner 68 = some (.aload_n 0, 1) := rfl
theorem pS_readyPlanner_69 : alk tS_readyPlanner 69 = some (.getfield 19, 3) := rfl
theorem pS_readyPlanner_72 : alk tS_readyPlanner 72 = some (.iload_n 3, 1) := rfl
theorem pS_readyPlanner_73 : alk tS_readyPlanner 73 = some (.invokevirtual 277, 3) := rfl
theorem pS_readyPlanner_76 : alk tS_readyPlanner 76 = some (.checkcast 132, 3) := rfl
theorem pS_readyPlanner_79 : alk tS_readyPlanner 79 = some (.getfield 167, 3) := rfl
theorem pS_readyPlanner_82 : alk tS_readyPlanner 82 = some (.invokevirtual 406, 3) := rfl
theorem pS_readyPlanner_85 : alk tS_readyPlanner 85 = some (.iinc 3 1, 3) := rfl
theorem pS_readyPlanner_88 : alk tS_readyPlanner 88 = some (.goto (-44), 3) := rfl
theorem pS_readyPlanner_91 : alk tS_readyPlanner 91 = some (.return_, 1) := rfl
def tP_clear : TB := [(0, .aload_n 0, 1), (1, .iconst 0, 1), (2, .putfield 36, 3), (5, .aload_n 0, 1), (6, .iconst 0, 1), (7, .putfield 40, 3), (10, .return_, 1)]
set_option maxRecDepth 100000 in
theorem kP_clear : tbOk (mB mP_clear) tP_clear = true := by decide +kernel
theorem pP_clear_0 : alk tP_clear 0 = some (.aload_n 0, 1) := rfl
theorem pP_clear_1 : alk tP_clear 1 = some (.iconst 0, 1) := rfl
theorem pP_clear_2 : alk tP_clear 2 = some (.putfield 36, 3) := rfl
theorem pP_clear_5 : alk tP_clear 5 = some (.aload_n 0, 1) := rfl
theorem pP_clear_6 : alk tP_clear 6 = some (.iconst 0, 1) := rfl
theorem pP_clear_7 : alk tP_clear 7 = some (.putfield 40, 3) := rfl
theorem pP_clear_10 : alk tP_clear 10 = some (.return_, 1) := rfl
def tP_addPen : TB := [(0, .aload_n 0, 1), (1, .getfield 40, 3), (4, .iconst 4, 1), (5, .if_icmp .ge 23, 3), (8, .aload_n 0, 1), (9, .getfield 15, 3), (12, .aload_n 0, 1), (13, .getfield 40, 3), (16, .iload_n 1, 1), (17, .iastore, 1), (18, .aload_n 0, 1), (19, .dup, 1), (20, .getfield 40, 3), (23, .iconst 1, 1), (24, .iadd, 1), (25, .putfield 40, 3), (28, .return_, 1)]
set_option maxRecDepth 100000 in
theorem kP_addPen : tbOk (mB mP_addPen) tP_addPen = true := by decide +kernel
theorem pP_addPen_0 : alk tP_addPen 0 = some (.aload_n 0, 1) := rfl
theorem pP_addPen_1 : alk tP_addPen 1 = some (.getfield 40, 3) := rfl
theorem pP_addPen_4 : alk tP_addPen 4 = some (.iconst 4, 1) := rfl
theorem pP_addPen_5 : alk tP_addPen 5 = some (.if_icmp .ge 23, 3) := rfl
theorem pP_addPen_8 : alk tP_addPen 8 = some (.aload_n 0, 1) := rfl
theorem pP_addPen_9 : alk tP_addPen 9 = some (.getfield 15, 3) := rfl
theorem pP_addPen_12 : alk tP_addPen 12 = some (.aload_n 0, 1) := rfl
theorem pP_addPen_13 : alk tP_addPen 13 = some (.getfield 40, 3) := rfl
theorem pP_addPen_16 : alk tP_addPen 16 = some (.iload_n 1, 1) := rfl
theorem pP_addPen_17 : alk tP_addPen 17 = some (.iastore, 1) := rfl
theorem pP_addPen_18 : alk tP_addPen 18 = some (.aload_n 0, 1) := rfl
theorem pP_addPen_19 : alk tP_addPen 19 = some (.dup, 1) := rfl
theorem pP_addPen_20 : alk tP_addPen 20 = some (.getfield 40, 3) := rfl
theorem pP_addPen_23 : alk tP_addPen 23 = some (.iconst 1, 1) := rfl
theorem pP_addPen_24 : alk tP_addPen 24 = some (.iadd, 1) := rfl
theorem pP_addPen_25 : alk tP_addPen 25 = some (.putfield 40, 3) := rfl
theorem pP_addPen_28 : alk tP_addPen 28 = some (.return_, 1) := rfl
def tP_addLot : TB := [(0, .aload_n 0, 1), (1, .getfield 36, 3), (4, .iconst 4, 1), (5, .if_icmp .ge 72, 3), (8, .aload_n 0, 1), (9, .getfield 9, 3), (12, .aload_n 0, 1), (13, .getfield 36, 3), (16, .iload_n 1, 1), (17, .iastore, 1), (18, .iconst 0, 1), (19, .istore_n 3, 1), (20, .iload_n 3, 1), (21, .aload_n 0, 1), (22, .getfield 40, 3), (25, .if_icmp .ge 42, 3), (28, .iload_n 3, 1), (29, .iconst 4, 1), (30, .if_icmp .ge 37, 3), (33, .aload_n 0, 1), (34, .getfield 58, 3), (37, .iload_n 2, 1), (38, .aload_n 0, 1), (39, .getfield 15, 3), (42, .iload_n 3, 1), (43, .iaload, 1), (44, .aload_n 0, 1), (45, .getfield 20, 3), (48, .aload_n 0, 1), (49, .getfield 36, 3), (52, .iconst 4, 1), (53, .imul, 1), (54, .iload_n 3, 1), (55, .iadd, 1), (56, .aaload, 1), (57, .invokevirtual 63, 3), (60, .pop, 1), (61, .iinc 3 1, 3), (64, .goto (-44), 3), (67, .aload_n 0, 1), (68, .dup, 1), (69, .getfield 36, 3), (72, .iconst 1, 1), (73, .iadd, 1), (74, .putfield 36, 3), (77, .return_, 1)]
set_option maxRecDepth 100000 in
theorem kP_addLot : tbOk (mB mP_addLot) tP_addLot = true := by decide +kernel
theorem pP_addLot_0 : alk tP_addLot 0 = some (.aload_n 0, 1) := rfl
theorem pP_addLot_1 : alk tP_addLot 1 = some (.getfield 36, 3) := rfl
theorem pP_addLot_4 : alk tP_addLot 4 = some (.iconst 4, 1) := rfl
theorem pP_addLot_5 : alk tP_addLot 5 = some (.if_icmp .ge 72, 3) := rfl
theorem pP_addLot_8 : alk tP_addLot 8 = some (.aload_n 0, 1) := rfl
theorem pP_addLot_9 : alk tP_addLot 9 = some (.getfield 9, 3) := rfl
theorem pP_addLot_12 : alk tP_addLot 12 = some (.aload_n 0, 1) := rfl
theorem pP_addLot_13 : alk tP_addLot 13 = some (.getfield 36, 3) := rfl
theorem pP_addLot_16 : alk tP_addLot 16 = some (.iload_n 1, 1) := rfl
theorem pP_addLot_17 : alk tP_addLot 17 = some (.iastore, 1) := rfl
theorem pP_addLot_18 : alk tP_addLot 18 = some (.iconst 0, 1) := rfl
theorem pP_addLot_19 : alk tP_addLot 19 = some (.istore_n 3, 1) := rfl
theorem pP_addLot_20 : alk tP_addLot 20 = some (.iload_n 3, 1) := rfl
theorem pP_addLot_21 : alk tP_addLot 21 = some (.aload_n 0, 1) := rfl
theorem pP_addLot_22 : alk tP_addLot 22 = some (.getfield 40, 3) := rfl
theorem pP_addLot_25 : alk tP_addLot 25 = some (.if_icmp .ge 42, 3) := rfl
theorem pP_addLot_28 : alk tP_addLot 28 = some (.iload_n 3, 1) := rfl
theorem pP_addLot_29 : alk tP_addLot 29 = some (.iconst 4, 1) := rfl
theorem pP_addLot_30 : alk tP_addLot 30 = some (.if_icmp .ge 37, 3) := rfl
theorem pP_addLot_33 : alk tP_addLot 33 = some (.aload_n 0, 1) := rfl
theorem pP_addLot_34 : alk tP_addLot 34 = some (.getfield 58, 3) := rfl
theorem pP_addLot_37 : alk tP_addLot 37 = some (.iload_n 2, 1) := rfl
theorem pP_addLot_38 : alk tP_addLot 38 = some (.aload_n 0, 1) := rfl
theorem pP_addLot_39 : alk tP_addLot 39 = some (.getfield 15, 3) := rfl
theorem pP_addLot_42 : alk tP_addLot 42 = some (.iload_n 3, 1) := rfl
theorem pP_addLot_43 : alk tP_addLot 43 = some (.iaload, 1) := rfl
theorem pP_addLot_44 : alk tP_addLot 44 = some (.aload_n 0, 1) := rfl
theorem pP_addLot_45 : alk tP_addLot 45 = some (.getfield 20, 3) := rfl
theorem pP_addLot_48 : alk tP_addLot 48 = some (.aload_n 0, 1) := rfl
theorem pP_addLot_49 : alk tP_addLot 49 = some (.getfield 36, 3) := rfl
theorem pP_addLot_52 : alk tP_addLot 52 = some (.iconst 4, 1) := rfl
theorem pP_addLot_53 : alk tP_addLot 53 = some (.imul, 1) := rfl
theorem pP_addLot_54 : alk tP_addLot 54 = some (.iload_n 3, 1) := rfl
theorem pP_addLot_55 : alk tP_addLot 55 = some (.iadd, 1) := rfl
theorem pP_addLot_56 : alk tP_addLot 56 = some (.aaload, 1) := rfl
theorem pP_addLot_57 : alk tP_addLot 57 = some (.invokevirtual 63, 3) := rfl
theorem pP_addLot_60 : alk tP_addLot 60 = some (.pop, 1) := rfl
theorem pP_addLot_61 : alk tP_addLot 61 = some (.iinc 3 1, 3) := rfl
theorem pP_addLot_64 : alk tP_addLot 64 = some (.goto (-44), 3) := rfl
theorem pP_addLot_67 : alk tP_addLot 67 = some (.aload_n 0, 1) := rfl
theorem pP_addLot_68 : alk tP_addLot 68 = some (.dup, 1) := rfl
theorem pP_addLot_69 : alk tP_addLot 69 = some (.getfield 36, 3) := rfl
theorem pP_addLot_72 : alk tP_addLot 72 = some (.iconst 1, 1) := rfl
theorem pP_addLot_73 : alk tP_addLot 73 = some (.iadd, 1) := rfl
theorem pP_addLot_74 : alk tP_addLot 74 = some (.putfield 36, 3) := rfl
theorem pP_addLot_77 : alk tP_addLot 77 = some (.return_, 1) := rfl
def tP_search : TB := [(0, .aload_n 0, 1), (1, .iload_n 1, 1), (2, .putfield 49, 3), (5, .aload_n 0, 1), (6, .ldc 69, 2), (8, .putfield 52, 3), (11, .aload_n 0, 1), (12, .iconst 0, 1), (13, .putfield 43, 3), (16, .aload_n 0, 1), (17, .iconst 0, 1), (18, .putfield 46, 3), (21, .aload_n 0, 1), (22, .iconst 0, 1), (23, .iload_n 1, 1), (24, .invokevirtual 70, 3), (27, .aload_n 0, 1), (28, .getfield 52, 3), (31, .ldc 69, 2), (33, .if_icmp .eq 7, 3), (36, .iconst 1, 1), (37, .goto 4, 3), (40, .iconst 0, 1), (41, .ireturn, 1)]
set_option maxRecDepth 100000 in
theorem kP_search : tbOk (mB mP_search) tP_search = true := by decide +kernel
theorem pP_search_0 : alk tP_search 0 = some (.aload_n 0, 1) := rfl
theorem pP_search_1 : alk tP_search 1 = some (.iload_n 1, 1) := rfl
theorem pP_search_2 : alk tP_search 2 = some (.putfield 49, 3) := rfl
theorem pP_search_5 : alk tP_search 5 = some (.aload_n 0, 1) := rfl
theorem pP_search_6 : alk tP_search 6 = some (.ldc 69, 2) := rfl
theorem pP_search_8 : alk tP_search 8 = some (.putfield 52, 3) := rfl
theorem pP_search_11 : alk tP_search 11 = some (.aload_n 0, 1) := rfl
theorem pP_search_12 : alk tP_search 12 = some (.iconst 0, 1) := rfl
theorem pP_search_13 : alk tP_search 13 = some (.putfield 43, 3) := rfl
theorem pP_search_16 : alk tP_search 16 = some (.aload_n 0, 1) := rfl
theorem pP_search_17 : alk tP_search 17 = some (.iconst 0, 1) := rfl
theorem pP_search_18 : alk tP_search 18 = some (.putfield 46, 3) := rfl
theorem pP_search_21 : alk tP_search 21 = some (.aload_n 0, 1) := rfl
theorem pP_search_22 : alk tP_search 22 = some (.iconst 0, 1) := rfl
theorem pP_search_23 : alk tP_search 23 = some (.iload_n 1, 1) := rfl
theorem pP_search_24 : alk tP_search 24 = some (.invokevirtual 70, 3) := rfl
theorem pP_search_27 : alk tP_search 27 = some (.aload_n 0, 1) := rfl
theorem pP_search_28 : alk tP_search 28 = some (.getfield 52, 3) := rfl
theorem pP_search_31 : alk tP_search 31 = some (.ldc 69, 2) := rfl
theorem pP_search_33 : alk tP_search 33 = some (.if_icmp .eq 7, 3) := rfl
theorem pP_search_36 : alk tP_search 36 = some (.iconst 1, 1) := rfl
theorem pP_search_37 : alk tP_search 37 = some (.goto 4, 3) := rfl
theorem pP_search_40 : alk tP_search 40 = some (.iconst 0, 1) := rfl
theorem pP_search_41 : alk tP_search 41 = some (.ireturn, 1) := rfl
def tP_tell : TB := [(0, .iload_n 1, 1), (1, .aload_n 0, 1), (2, .getfield 36, 3), (5, .if_icmp .lt 9, 3), (8, .aload_n 0, 1), (9, .iload_n 2, 1), (10, .invokevirtual 74, 3), (13, .return_, 1), (14, .iconst 0, 1), (15, .istore_n 3, 1), (16, .iload_n 3, 1), (17, .aload_n 0, 1), (18, .getfield 36, 3), (21, .if_icmp .ge 59, 3), (24, .iconst 0, 1), (25, .istore 4, 2), (27, .iload 4, 2), (29, .aload_n 0, 1), (30, .getfield 40, 3), (33, .if_icmp .ge 41, 3), (36, .aload_n 0, 1), (37, .getfield 43, 3), (40, .iload_n 3, 1), (41, .invokestatic 78, 3), (44, .ifCond .ne 24, 3), (47, .aload_n 0, 1), (48, .getfield 46, 3), (51, .iload 4, 2), (53, .invokestatic 78, 3), (56, .ifCond .ne 12, 3), (59, .aload_n 0, 1), (60, .iload_n 1, 1), (61, .iload_n 2, 1), (62, .iload_n 3, 1), (63, .iload 4, 2), (65, .invokevirtual 82, 3), (68, .iinc 4 1, 3), (71, .goto (-44), 3), (74, .iinc 3 1, 3), (77, .goto (-61), 3), (80, .return_, 1)]
set_option maxRecDepth 100000 in
theorem kP_tell : tbOk (mB mP_tell) tP_tell = true := by decide +kernel
theorem pP_tell_0 : alk tP_tell 0 = some (.iload_n 1, 1) := rfl
theorem pP_tell_1 : alk tP_tell 1 = some (.aload_n 0, 1) := rfl
theorem pP_tell_2 : alk tP_tell 2 = some (.getfield 36, 3) := rfl
theorem pP_tell_5 : alk tP_tell 5 = some (.if_icmp .lt 9, 3) := rfl
theorem pP_tell_8 : alk tP_tell 8 = some (.aload_n 0, 1) := rfl
theorem pP_tell_9 : alk tP_tell 9 = some (.iload_n 2, 1) := rfl
theorem pP_tell_10 : alk tP_tell 10 = some (.invokevirtual 74, 3) := rfl
theorem pP_tell_13 : alk tP_tell 13 = some (.return_, 1) := rfl
theorem pP_tell_14 : alk tP_tell 14 = some (.iconst 0, 1) := rfl
theorem pP_tell_15 : alk tP_tell 15 = some (.istore_n 3, 1) := rfl
theorem pP_tell_16 : alk tP_tell 16 = some (.iload_n 3, 1) := rfl
theorem pP_tell_17 : alk tP_tell 17 = some (.aload_n 0, 1) := rfl
theorem pP_tell_18 : alk tP_tell 18 = some (.getfield 36, 3) := rfl
theorem pP_tell_21 : alk tP_tell 21 = some (.if_icmp .ge 59, 3) := rfl
theorem pP_tell_24 : alk tP_tell 24 = some (.iconst 0, 1) := rfl
theorem pP_tell_25 : alk tP_tell 25 = some (.istore 4, 2) := rfl
theorem pP_tell_27 : alk tP_tell 27 = some (.iload 4, 2) := rfl
theorem pP_tell_29 : alk tP_tell 29 = some (.aload_n 0, 1) := rfl
theorem pP_tell_30 : alk tP_tell 30 = some (.getfield 40, 3) := rfl
theorem pP_tell_33 : alk tP_tell 33 = some (.if_icmp .ge 41, 3) := rfl
theorem pP_tell_36 : alk tP_tell 36 = some (.aload_n 0, 1) := rfl
theorem pP_tell_37 : alk tP_tell 37 = some (.getfield 43, 3) := rfl
theorem pP_tell_40 : alk tP_tell 40 = some (.iload_n 3, 1) := rfl
theorem pP_tell_41 : alk tP_tell 41 = some (.invokestatic 78, 3) := rfl
theorem pP_tell_44 : alk tP_tell 44 = some (.ifCond .ne 24, 3) := rfl
theorem pP_tell_47 : alk tP_tell 47 = some (.aload_n 0, 1) := rfl
theorem pP_tell_48 : alk tP_tell 48 = some (.getfield 46, 3) := rfl
theorem pP_tell_51 : alk tP_tell 51 = some (.iload 4, 2) := rfl
theorem pP_tell_53 : alk tP_tell 53 = some (.invokestatic 78, 3) := rfl
theorem pP_tell_56 : alk tP_tell 56 = some (.ifCond .ne 12, 3) := rfl
theorem pP_tell_59 : alk tP_tell 59 = some (.aload_n 0, 1) := rfl
theorem pP_tell_60 : alk tP_tell 60 = some (.iload_n 1, 1) := rfl
theorem pP_tell_61 : alk tP_tell 61 = some (.iload_n 2, 1) := rfl
theorem pP_tell_62 : alk tP_tell 62 = some (.iload_n 3, 1) := rfl
theorem pP_tell_63 : alk tP_tell 63 = some (.iload 4, 2) := rfl
theorem pP_tell_65 : alk tP_tell 65 = some (.invokevirtual 82, 3) := rfl
theorem pP_tell_68 : alk tP_tell 68 = some (.iinc 4 1, 3) := rfl
theorem pP_tell_71 : alk tP_tell 71 = some (.goto (-44), 3) := rfl
theorem pP_tell_74 : alk tP_tell 74 = some (.iinc 3 1, 3) := rfl
theorem pP_tell_77 : alk tP_tell 77 = some (.goto (-61), 3) := rfl
theorem pP_tell_80 : alk tP_tell 80 = some (.return_, 1) := rfl
def tP_keep : TB := [(0, .aload_n 0, 1), (1, .iload_n 1, 1), (2, .putfield 52, 3), (5, .aload_n 0, 1), (6, .aload_n 0, 1), (7, .getfield 36, 3), (10, .putfield 55, 3), (13, .iconst 0, 1), (14, .istore_n 2, 1), (15, .iload_n 2, 1), (16, .iconst 4, 1), (17, .if_icmp .ge 33, 3), (20, .aload_n 0, 1), (21, .getfield 30, 3), (24, .iload_n 2, 1), (25, .aload_n 0, 1), (26, .getfield 24, 3), (29, .iload_n 2, 1), (30, .iaload, 1), (31, .iastore, 1), (32, .aload_n 0, 1), (33, .getfield 33, 3), (36, .iload_n 2, 1), (37, .aload_n 0, 1), (38, .getfield 27, 3), (41, .iload_n 2, 1), (42, .iaload, 1), (43, .iastore, 1), (44, .iinc 2 1, 3), (47, .goto (-32), 3), (50, .return_, 1)]
set_option maxRecDepth 100000 in
theorem kP_keep : tbOk (mB mP_keep) tP_keep = true := by decide +kernel
theorem pP_keep_0 : alk tP_keep 0 = some (.aload_n 0, 1) := rfl
theorem pP_keep_1 : alk tP_keep 1 = some (.iload_n 1, 1) := rfl
theorem pP_keep_2 : alk tP_keep 2 = some (.putfield 52, 3) := rfl
theorem pP_keep_5 : alk tP_keep 5 = some (.aload_n 0, 1) := rfl
theorem pP_keep_6 : alk tP_keep 6 = some (.aload_n 0, 1) := rfl
theorem pP_keep_7 : alk tP_keep 7 = some (.getfield 36, 3) := rfl
theorem pP_keep_10 : alk tP_keep 10 = some (.putfield 55, 3) := rfl
theorem pP_keep_13 : alk tP_keep 13 = some (.iconst 0, 1) := rfl
theorem pP_keep_14 : alk tP_keep 14 = some (.istore_n 2, 1) := rfl
theorem pP_keep_15 : alk tP_keep 15 = some (.iload_n 2, 1) := rfl
theorem pP_keep_16 : alk tP_keep 16 = some (.iconst 4, 1) := rfl
theorem pP_keep_17 : alk tP_keep 17 = some (.if_icmp .ge 33, 3) := rfl
theorem pP_keep_20 : alk tP_keep 20 = some (.aload_n 0, 1) := rfl
theorem pP_keep_21 : alk tP_keep 21 = some (.getfield 30, 3) := rfl
theorem pP_keep_24 : alk tP_keep 24 = some (.iload_n 2, 1) := rfl
theorem pP_keep_25 : alk tP_keep 25 = some (.aload_n 0, 1) := rfl
theorem pP_keep_26 : alk tP_keep 26 = some (.getfield 24, 3) := rfl
theorem pP_keep_29 : alk tP_keep 29 = some (.iload_n 2, 1) := rfl
theorem pP_keep_30 : alk tP_keep 30 = some (.iaload, 1) := rfl
theorem pP_keep_31 : alk tP_keep 31 = some (.iastore, 1) := rfl
theorem pP_keep_32 : alk tP_keep 32 = some (.aload_n 0, 1) := rfl
theorem pP_keep_33 : alk tP_keep 33 = some (.getfield 33, 3) := rfl
theorem pP_keep_36 : alk tP_keep 36 = some (.iload_n 2, 1) := rfl
theorem pP_keep_37 : alk tP_keep 37 = some (.aload_n 0, 1) := rfl
theorem pP_keep_38 : alk tP_keep 38 = some (.getfield 27, 3) := rfl
theorem pP_keep_41 : alk tP_keep 41 = some (.iload_n 2, 1) := rfl
theorem pP_keep_42 : alk tP_keep 42 = some (.iaload, 1) := rfl
theorem pP_keep_43 : alk tP_keep 43 = some (.iastore, 1) := rfl
theorem pP_keep_44 : alk tP_keep 44 = some (.iinc 2 1, 3) := rfl
theorem pP_keep_47 : alk tP_keep 47 = some (.goto (-32), 3) := rfl
theorem pP_keep_50 : alk tP_keep 50 = some (.return_, 1) := rfl
def tP_tellOne : TB := [(0, .iload_n 1, 1), (1, .ifCond .lt 8, 3), (4, .iload_n 1, 1), (5, .iconst 4, 1), (6, .if_icmp .lt 4, 3), (9, .return_, 1), (10, .aload_n 0, 1), (11, .getfield 20, 3), (14, .iload_n 3, 1), (15, .iconst 4, 1), (16, .imul, 1), (17, .iload 4, 2), (19, .iadd, 1), (20, .aaload, 1), (21, .astore 5, 2), (23, .aload 5, 2), (25, .getfield 86, 3), (28, .ifCond .eq 20, 3), (31, .aload_n 0, 1), (32, .getfield 49, 3), (35, .aload 5, 2), (37, .getfield 89, 3), (40, .iadd, 1), (41, .aload_n 0, 1), (42, .getfield 52, 3), (45, .if_icmp .lt 4, 3), (48, .return_, 1), (49, .aload_n 0, 1), (50, .getfield 58, 3), (53, .aload 5, 2), (55, .aload_n 0, 1), (56, .getfield 49, 3), (59, .invokevirtual 92, 3), (62, .istore 6, 2), (64, .iload_n 2, 1), (65, .iload 6, 2), (67, .aload 5, 2), (69, .getfield 89, 3), (72, .iadd, 1), (73, .invokestatic 96, 3), (76, .istore 7, 2), (78, .iload 7, 2), (80, .aload_n 0, 1), (81, .getfield 52, 3), (84, .if_icmp .lt 4, 3), (87, .return_, 1), (88, .aload_n 0, 1), (89, .getfield 24, 3), (92, .iload_n 1, 1), (93, .aload_n 0, 1), (94, .getfield 9, 3), (97, .iload_n 3, 1), (98, .iaload, 1), (99, .iastore, 1), (100, .aload_n 0, 1), (101, .getfield 27, 3), (104, .iload_n 1, 1), (105, .aload_n 0, 1), (106, .getfield 15, 3), (109, .iload 4, 2), (111, .iaload, 1), (112, .iastore, 1), (113, .aload_n 0, 1), (114, .dup, 1), (115, .getfield 43, 3), (118, .iconst 1, 1), (119, .iload_n 3, 1), (120, .ishl, 1), (121, .ior, 1), (122, .putfield 43, 3), (125, .aload_n 0, 1), (126, .dup, 1), (127, .getfield 46, 3), (130, .iconst 1, 1), (131, .iload 4, 2), (133, .ishl, 1), (134, .ior, 1), (135, .putfield 46, 3), (138, .aload_n 0, 1), (139, .getfield 58, 3), (142, .aload 5, 2), (144, .iload 6, 2), (146, .invokevirtual 102, 3), (149, .aload_n 0, 1), (150, .iload_n 1, 1), (151, .iconst 1, 1), (152, .iadd, 1), (153, .iload 7, 2), (155, .invokevirtual 70, 3), (158, .aload_n 0, 1), (159, .getfield 58, 3), (162, .aload 5, 2), (164, .invokevirtual 106, 3), (167, .aload_n 0, 1), (168, .dup, 1), (169, .getfield 43, 3), (172, .iconst 1, 1), (173, .iload_n 3, 1), (174, .ishl, 1), (175, .iconst (-1), 1), (176, .ixor, 1), (177, .iand, 1), (178, .putfield 43, 3), (181, .aload_n 0, 1), (182, .dup, 1), (183, .getfield 46, 3), (186, .iconst 1, 1), (187, .iload 4, 2), (189, .ishl, 1), (190, .iconst (-1), 1), (191, .ixor, 1), (192, .iand, 1), (193, .putfield 46, 3), (196, .return_, 1)]
set_option maxRecDepth 100000 in
theorem kP_tellOne : tbOk (mB mP_tellOne) tP_tellOne = true := by decide +kernel
theorem pP_tellOne_0 : alk tP_tellOne 0 = some (.iload_n 1, 1) := rfl
theorem pP_tellOne_1 : alk tP_tellOne 1 = some (.ifCond .lt 8, 3) := rfl
theorem pP_tellOne_4 : alk tP_tellOne 4 = some (.iload_n 1, 1) := rfl
theorem pP_tellOne_5 : alk tP_tellOne 5 = some (.iconst 4, 1) := rfl
theorem pP_tellOne_6 : alk tP_tellOne 6 = some (.if_icmp .lt 4, 3) := rfl
theorem pP_tellOne_9 : alk tP_tellOne 9 = some (.return_, 1) := rfl
theorem pP_tellOne_10 : alk tP_tellOne 10 = some (.aload_n 0, 1) := rfl
theorem pP_tellOne_11 : alk tP_tellOne 11 = some (.getfield 20, 3) := rfl
theorem pP_tellOne_14 : alk tP_tellOne 14 = some (.iload_n 3, 1) := rfl
theorem pP_tellOne_15 : alk tP_tellOne 15 = some (.iconst 4, 1) := rfl
theorem pP_tellOne_16 : alk tP_tellOne 16 = some (.imul, 1) := rfl
theorem pP_tellOne_17 : alk tP_tellOne 17 = some (.iload 4, 2) := rfl
theorem pP_tellOne_19 : alk tP_tellOne 19 = some (.iadd, 1) := rfl
theorem pP_tellOne_20 : alk tP_tellOne 20 = some (.aaload, 1) := rfl
theorem pP_tellOne_21 : alk tP_tellOne 21 = some (.astore 5, 2) := rfl
theorem pP_tellOne_23 : alk tP_tellOne 23 = some (.aload 5, 2) := rfl
theorem pP_tellOne_25 : alk tP_tellOne 25 = some (.getfield 86, 3) := rfl
theorem pP_tellOne_28 : alk tP_tellOne 28 = some (.ifCond .eq 20, 3) := rfl
theorem pP_tellOne_31 : alk tP_tellOne 31 = some (.aload_n 0, 1) := rfl
theorem pP_tellOne_32 : alk tP_tellOne 32 = some (.getfield 49, 3) := rfl
theorem pP_tellOne_35 : alk tP_tellOne 35 = some (.aload 5, 2) := rfl
theorem pP_tellOne_37 : alk tP_tellOne 37 = some (.getfield 89, 3) := rfl
theorem pP_tellOne_40 : alk tP_tellOne 40 = some (.iadd, 1) := rfl
theorem pP_tellOne_41 : alk tP_tellOne 41 = some (.aload_n 0, 1) := rfl
theorem pP_tellOne_42 : alk tP_tellOne 42 = some (.getfield 52, 3) := rfl
theorem pP_tellOne_45 : alk tP_tellOne 45 = some (.if_icmp .lt 4, 3) := rfl
theorem pP_tellOne_48 : alk tP_tellOne 48 = some (.return_, 1) := rfl
theorem pP_tellOne_49 : alk tP_tellOne 49 = some (.aload_n 0, 1) := rfl
theorem pP_tellOne_50 : alk tP_tellOne 50 = some (.getfield 58, 3) := rfl
theorem pP_tellOne_53 : alk tP_tellOne 53 = some (.aload 5, 2) := rfl
theorem pP_tellOne_55 : alk tP_tellOne 55 = some (.aload_n 0, 1) := rfl
theorem pP_tellOne_56 : alk tP_tellOne 56 = some (.getfield 49, 3) := rfl
theorem pP_tellOne_59 : alk tP_tellOne 59 = some (.invokevirtual 92, 3) := rfl
theorem pP_tellOne_62 : alk tP_tellOne 62 = some (.istore 6, 2) := rfl
theorem pP_tellOne_64 : alk tP_tellOne 64 = some (.iload_n 2, 1) := rfl
theorem pP_tellOne_65 : alk tP_tellOne 65 = some (.iload 6, 2) := rfl
theorem pP_tellOne_67 : alk tP_tellOne 67 = some (.aload 5, 2) := rfl
theorem pP_tellOne_69 : alk tP_tellOne 69 = some (.getfield 89, 3) := rfl
theorem pP_tellOne_72 : alk tP_tellOne 72 = some (.iadd, 1) := rfl
theorem pP_tellOne_73 : alk tP_tellOne 73 = some (.invokestatic 96, 3) := rfl
theorem pP_tellOne_76 : alk tP_tellOne 76 = some (.istore 7, 2) := rfl
theorem pP_tellOne_78 : alk tP_tellOne 78 = some (.iload 7, 2) := rfl
theorem pP_tellOne_80 : alk tP_tellOne 80 = some (.aload_n 0, 1) := rfl
theorem pP_tellOne_81 : alk tP_tellOne 81 = some (.getfield 52, 3) := rfl
theorem pP_tellOne_84 : alk tP_tellOne 84 = some (.if_icmp .lt 4, 3) := rfl
theorem pP_tellOne_87 : alk tP_tellOne 87 = some (.return_, 1) := rfl
theorem pP_tellOne_88 : alk tP_tellOne 88 = some (.aload_n 0, 1) := rfl
theorem pP_tellOne_89 : alk tP_tellOne 89 = some (.getfield 24, 3) := rfl
theorem pP_tellOne_92 : alk tP_tellOne 92 = some (.iload_n 1, 1) := rfl
theorem pP_tellOne_93 : alk tP_tellOne 93 = some (.aload_n 0, 1) := rfl
theorem pP_tellOne_94 : alk tP_tellOne 94 = some (.getfield 9, 3) := rfl
theorem pP_tellOne_97 : alk tP_tellOne 97 = some (.iload_n 3, 1) := rfl
theorem pP_tellOne_98 : alk tP_tellOne 98 = some (.iaload, 1) := rfl
theorem pP_tellOne_99 : alk tP_tellOne 99 = some (.iastore, 1) := rfl
theorem pP_tellOne_100 : alk tP_tellOne 100 = some (.aload_n 0, 1) := rfl
theorem pP_tellOne_101 : alk tP_tellOne 101 = some (.getfield 27, 3) := rfl
theorem pP_tellOne_104 : alk tP_tellOne 104 = some (.iload_n 1, 1) := rfl
theorem pP_tellOne_105 : alk tP_tellOne 105 = some (.aload_n 0, 1) := rfl
theorem pP_tellOne_106 : alk tP_tellOne 106 = some (.getfield 15, 3) := rfl
theorem pP_tellOne_109 : alk tP_tellOne 109 = some (.iload 4, 2) := rfl
theorem pP_tellOne_111 : alk tP_tellOne 111 = some (.iaload, 1) := rfl
set_option maxRecDepth 20000 in
theorem pP_tellOne_112 : alk tP_tellOne 112 = some (.iastore, 1) := rfl
set_option maxRecDepth 20000 in
theorem pP_tellOne_113 : alk tP_tellOne 113 = some (.aload_n 0, 1) := rfl
set_option maxRecDepth 20000 in
theorem pP_tellOne_114 : alk tP_tellOne 114 = some (.dup, 1) := rfl
set_option maxRecDepth 20000 in
theorem pP_tellOne_115 : alk tP_tellOne 115 = some (.getfield 43, 3) := rfl
set_option maxRecDepth 20000 in
theorem pP_tellOne_118 : alk tP_tellOne 118 = some (.iconst 1, 1) := rfl
set_option maxRecDepth 20000 in
theorem pP_tellOne_119 : alk tP_tellOne 119 = some (.iload_n 3, 1) := rfl
set_option maxRecDepth 20000 in
theorem pP_tellOne_120 : alk tP_tellOne 120 = some (.ishl, 1) := rfl
set_option maxRecDepth 20000 in
theorem pP_tellOne_121 : alk tP_tellOne 121 = some (.ior, 1) := rfl
set_option maxRecDepth 20000 in
theorem pP_tellOne_122 : alk tP_tellOne 122 = some (.putfield 43, 3) := rfl
set_option maxRecDepth 20000 in
theorem pP_tellOne_125 : alk tP_tellOne 125 = some (.aload_n 0, 1) := rfl
set_option maxRecDepth 20000 in
theorem pP_tellOne_126 : alk tP_tellOne 126 = some (.dup, 1) := rfl
set_option maxRecDepth 20000 in
theorem pP_tellOne_127 : alk tP_tellOne 127 = some (.getfield 46, 3) := rfl
set_option maxRecDepth 20000 in
theorem pP_tellOne_130 : alk tP_tellOne 130 = some (.iconst 1, 1) := rfl
set_option maxRecDepth 20000 in
theorem pP_tellOne_131 : alk tP_tellOne 131 = some (.iload 4, 2) := rfl
set_option maxRecDepth 20000 in
theorem pP_tellOne_133 : alk tP_tellOne 133 = some (.ishl, 1) := rfl
set_option maxRecDepth 20000 in
theorem pP_tellOne_134 : alk tP_tellOne 134 = some (.ior, 1) := rfl
set_option maxRecDepth 20000 in
theorem pP_tellOne_135 : alk tP_tellOne 135 = some (.putfield 46, 3) := rfl
set_option maxRecDepth 20000 in
theorem pP_tellOne_138 : alk tP_tellOne 138 = some (.aload_n 0, 1) := rfl
set_option maxRecDepth 20000 in
theorem pP_tellOne_139 : alk tP_tellOne 139 = some (.getfield 58, 3) := rfl
set_option maxRecDepth 20000 in
theorem pP_tellOne_142 : alk tP_tellOne 142 = some (.aload 5, 2) := rfl
set_option maxRecDepth 20000 in
theorem pP_tellOne_144 : alk tP_tellOne 144 = some (.iload 6, 2) := rfl
set_option maxRecDepth 20000 in
theorem pP_tellOne_146 : alk tP_tellOne 146 = some (.invokevirtual 102, 3) := rfl
set_option maxRecDepth 20000 in
theorem pP_tellOne_149 : alk tP_tellOne 149 = some (.aload_n 0, 1) := rfl
set_option maxRecDepth 20000 in
theorem pP_tellOne_150 : alk tP_tellOne 150 = some (.iload_n 1, 1) := rfl
set_option maxRecDepth 20000 in
theorem pP_tellOne_151 : alk tP_tellOne 151 = some (.iconst 1, 1) := rfl
set_option maxRecDepth 20000 in
theorem pP_tellOne_152 : alk tP_tellOne 152 = some (.iadd, 1) := rfl
set_option maxRecDepth 20000 in
theorem pP_tellOne_153 : alk tP_tellOne 153 = some (.iload 7, 2) := rfl
set_option maxRecDepth 20000 in
theorem pP_tellOne_155 : alk tP_tellOne 155 = some (.invokevirtual 70, 3) := rfl
set_option maxRecDepth 20000 in
theorem pP_tellOne_158 : alk tP_tellOne 158 = some (.aload_n 0, 1) := rfl
set_option maxRecDepth 20000 in
theorem pP_tellOne_159 : alk tP_tellOne 159 = some (.getfield 58, 3) := rfl
set_option maxRecDepth 20000 in
theorem pP_tellOne_162 : alk tP_tellOne 162 = some (.aload 5, 2) := rfl
set_option maxRecDepth 20000 in
theorem pP_tellOne_164 : alk tP_tellOne 164 = some (.invokevirtual 106, 3) := rfl
set_option maxRecDepth 20000 in
theorem pP_tellOne_167 : alk tP_tellOne 167 = some (.aload_n 0, 1) := rfl
set_option maxRecDepth 20000 in
theorem pP_tellOne_168 : alk tP_tellOne 168 = some (.dup, 1) := rfl
set_option maxRecDepth 20000 in
theorem pP_tellOne_169 : alk tP_tellOne 169 = some (.getfield 43, 3) := rfl
set_option maxRecDepth 20000 in
theorem pP_tellOne_172 : alk tP_tellOne 172 = some (.iconst 1, 1) := rfl
set_option maxRecDepth 20000 in
theorem pP_tellOne_173 : alk tP_tellOne 173 = some (.iload_n 3, 1) := rfl
set_option maxRecDepth 20000 in
theorem pP_tellOne_174 : alk tP_tellOne 174 = some (.ishl, 1) := rfl
set_option maxRecDepth 20000 in
theorem pP_tellOne_175 : alk tP_tellOne 175 = some (.iconst (-1), 1) := rfl
set_option maxRecDepth 20000 in
theorem pP_tellOne_176 : alk tP_tellOne 176 = some (.ixor, 1) := rfl
set_option maxRecDepth 20000 in
theorem pP_tellOne_177 : alk tP_tellOne 177 = some (.iand, 1) := rfl
set_option maxRecDepth 20000 in
theorem pP_tellOne_178 : alk tP_tellOne 178 = some (.putfield 43, 3) := rfl
set_option maxRecDepth 20000 in
theorem pP_tellOne_181 : alk tP_tellOne 181 = some (.aload_n 0, 1) := rfl
set_option maxRecDepth 20000 in
theorem pP_tellOne_182 : alk tP_tellOne 182 = some (.dup, 1) := rfl
set_option maxRecDepth 20000 in
theorem pP_tellOne_183 : alk tP_tellOne 183 = some (.getfield 46, 3) := rfl
set_option maxRecDepth 20000 in
theorem pP_tellOne_186 : alk tP_tellOne 186 = some (.iconst 1, 1) := rfl
set_option maxRecDepth 20000 in
theorem pP_tellOne_187 : alk tP_tellOne 187 = some (.iload 4, 2) := rfl
set_option maxRecDepth 20000 in
theorem pP_tellOne_189 : alk tP_tellOne 189 = some (.ishl, 1) := rfl
set_option maxRecDepth 20000 in
theorem pP_tellOne_190 : alk tP_tellOne 190 = some (.iconst (-1), 1) := rfl
set_option maxRecDepth 20000 in
theorem pP_tellOne_191 : alk tP_tellOne 191 = some (.ixor, 1) := rfl
set_option maxRecDepth 20000 in
theorem pP_tellOne_192 : alk tP_tellOne 192 = some (.iand, 1) := rfl
set_option maxRecDepth 20000 in
theorem pP_tellOne_193 : alk tP_tellOne 193 = some (.putfield 46, 3) := rfl
set_option maxRecDepth 20000 in
theorem pP_tellOne_196 : alk tP_tellOne 196 = some (.return_, 1) := rfl
def tY_giveBack : TB := [(0, .iconst 0, 1), (1, .istore_n 2, 1), (2, .iload_n 2, 1), (3, .aload_n 1, 1), (4, .getfield 89, 3), (7, .if_icmp .ge 44, 3), (10, .aload_n 1, 1), (11, .iload_n 2, 1), (12, .invokevirtual 92, 3), (15, .istore_n 3, 1), (16, .iload_n 3, 1), (17, .ifCond .lt 28, 3), (20, .iload_n 3, 1), (21, .aload_n 0, 1), (22, .getfield 12, 3), (25, .invokevirtual 57, 3), (28, .if_icmp .ge 17, 3), (31, .aload_n 0, 1), (32, .getfield 12, 3), (35, .iload_n 3, 1), (36, .invokevirtual 69, 3), (39, .checkcast 39, 3), (42, .invokevirtual 105, 3), (45, .iinc 2 1, 3), (48, .goto (-46), 3), (51, .return_, 1)]
set_option maxRecDepth 100000 in
theorem kY_giveBack : tbOk (mB mY_giveBack) tY_giveBack = true := by decide +kernel
theorem pY_giveBack_0 : alk tY_giveBack 0 = some (.iconst 0, 1) := rfl
theorem pY_giveBack_1 : alk tY_giveBack 1 = some (.istore_n 2, 1) := rfl
theorem pY_giveBack_2 : alk tY_giveBack 2 = some (.iload_n 2, 1) := rfl
theorem pY_giveBack_3 : alk tY_giveBack 3 = some (.aload_n 1, 1) := rfl
theorem pY_giveBack_4 : alk tY_giveBack 4 = some (.getfield 89, 3) := rfl
theorem pY_giveBack_7 : alk tY_giveBack 7 = some (.if_icmp .ge 44, 3) := rfl
theorem pY_giveBack_10 : alk tY_giveBack 10 = some (.aload_n 1, 1) := rfl
theorem pY_giveBack_11 : alk tY_giveBack 11 = some (.iload_n 2, 1) := rfl
theorem pY_giveBack_12 : alk tY_giveBack 12 = some (.invokevirtual 92, 3) := rfl
theorem pY_giveBack_15 : alk tY_giveBack 15 = some (.istore_n 3, 1) := rfl
theorem pY_giveBack_16 : alk tY_giveBack 16 = some (.iload_n 3, 1) := rfl
theorem pY_giveBack_17 : alk tY_giveBack 17 = some (.ifCond .lt 28, 3) := rfl
theorem pY_giveBack_20 : alk tY_giveBack 20 = some (.iload_n 3, 1) := rfl
theorem pY_giveBack_21 : alk tY_giveBack 21 = some (.aload_n 0, 1) := rfl
theorem pY_giveBack_22 : alk tY_giveBack 22 = some (.getfield 12, 3) := rfl
theorem pY_giveBack_25 : alk tY_giveBack 25 = some (.invokevirtual 57, 3) := rfl
theorem pY_giveBack_28 : alk tY_giveBack 28 = some (.if_icmp .ge 17, 3) := rfl
theorem pY_giveBack_31 : alk tY_giveBack 31 = some (.aload_n 0, 1) := rfl
theorem pY_giveBack_32 : alk tY_giveBack 32 = some (.getfield 12, 3) := rfl
theorem pY_giveBack_35 : alk tY_giveBack 35 = some (.iload_n 3, 1) := rfl
theorem pY_giveBack_36 : alk tY_giveBack 36 = some (.invokevirtual 69, 3) := rfl
theorem pY_giveBack_39 : alk tY_giveBack 39 = some (.checkcast 39, 3) := rfl
theorem pY_giveBack_42 : alk tY_giveBack 42 = some (.invokevirtual 105, 3) := rfl
theorem pY_giveBack_45 : alk tY_giveBack 45 = some (.iinc 2 1, 3) := rfl
theorem pY_giveBack_48 : alk tY_giveBack 48 = some (.goto (-46), 3) := rfl
theorem pY_giveBack_51 : alk tY_giveBack 51 = some (.return_, 1) := rfl
def tA_giveBack : TB := [(0, .aload_n 0, 1), (1, .getfield 15, 3), (4, .ifCond .le 13, 3), (7, .aload_n 0, 1), (8, .dup, 1), (9, .getfield 15, 3), (12, .iconst 1, 1), (13, .isub, 1), (14, .putfield 15, 3), (17, .return_, 1)]
set_option maxRecDepth 100000 in
theorem kA_giveBack : tbOk (mB mA_giveBack) tA_giveBack = true := by decide +kernel
theorem pA_giveBack_0 : alk tA_giveBack 0 = some (.aload_n 0, 1) := rfl
theorem pA_giveBack_1 : alk tA_giveBack 1 = some (.getfield 15, 3) := rfl
theorem pA_giveBack_4 : alk tA_giveBack 4 = some (.ifCond .le 13, 3) := rfl
theorem pA_giveBack_7 : alk tA_giveBack 7 = some (.aload_n 0, 1) := rfl
theorem pA_giveBack_8 : alk tA_giveBack 8 = some (.dup, 1) := rfl
theorem pA_giveBack_9 : alk tA_giveBack 9 = some (.getfield 15, 3) := rfl
theorem pA_giveBack_12 : alk tA_giveBack 12 = some (.iconst 1, 1) := rfl
theorem pA_giveBack_13 : alk tA_giveBack 13 = some (.isub, 1) := rfl
theorem pA_giveBack_14 : alk tA_giveBack 14 = some (.putfield 15, 3) := rfl
theorem pA_giveBack_17 : alk tA_giveBack 17 = some (.return_, 1) := rfl
def tS_planned : TB := [(0, .aload_n 0, 1), (1, .getfield 49, 3), (4, .getfield 244, 3), (7, .ifCond .ne 10, 3), (10, .aload_n 0, 1), (11, .bipush (-2), 2), (13, .invokevirtual 79, 3), (16, .ireturn, 1), (17, .iload_n 1, 1), (18, .ifCond .lt 14, 3), (21, .iload_n 1, 1), (22, .aload_n 0, 1), (23, .getfield 49, 3), (26, .getfield 244, 3), (29, .if_icmp .lt 10, 3), (32, .aload_n 0, 1), (33, .bipush (-3), 2), (35, .invokevirtual 79, 3), (38, .ireturn, 1), (39, .iload_n 2, 1), (40, .lookupswitch 46 #[(0, 28), (1, 37)], 28), (68, .aload_n 0, 1), (69, .getfield 49, 3), (72, .iload_n 1, 1), (73, .invokevirtual 247, 3), (76, .ireturn, 1), (77, .aload_n 0, 1), (78, .getfield 49, 3), (81, .iload_n 1, 1), (82, .invokevirtual 250, 3), (85, .ireturn, 1), (86, .aload_n 0, 1), (87, .bipush (-7), 2), (89, .invokevirtual 79, 3), (92, .ireturn, 1)]
set_option maxRecDepth 100000 in
theorem kS_planned : tbOk (mB mS_planned) tS_planned = true := by decide +kernel
theorem pS_planned_0 : alk tS_planned 0 = some (.aload_n 0, 1) := rfl
theorem pS_planned_1 : alk tS_planned 1 = some (.getfield 49, 3) := rfl
theorem pS_planned_4 : alk tS_planned 4 = some (.getfield 244, 3) := rfl
theorem pS_planned_7 : alk tS_planned 7 = some (.ifCond .ne 10, 3) := rfl
theorem pS_planned_10 : alk tS_planned 10 = some (.aload_n 0, 1) := rfl
theorem pS_planned_11 : alk tS_planned 11 = some (.bipush (-2), 2) := rfl
theorem pS_planned_13 : alk tS_planned 13 = some (.invokevirtual 79, 3) := rfl
theorem pS_planned_16 : alk tS_planned 16 = some (.ireturn, 1) := rfl
theorem pS_planned_17 : alk tS_planned 17 = some (.iload_n 1, 1) := rfl
theorem pS_planned_18 : alk tS_planned 18 = some (.ifCond .lt 14, 3) := rfl
theorem pS_planned_21 : alk tS_planned 21 = some (.iload_n 1, 1) := rfl
theorem pS_planned_22 : alk tS_planned 22 = some (.aload_n 0, 1) := rfl
theorem pS_planned_23 : alk tS_planned 23 = some (.getfield 49, 3) := rfl
theorem pS_planned_26 : alk tS_planned 26 = some (.getfield 244, 3) := rfl
theorem pS_planned_29 : alk tS_planned 29 = some (.if_icmp .lt 10, 3) := rfl
theorem pS_planned_32 : alk tS_planned 32 = some (.aload_n 0, 1) := rfl
theorem pS_planned_33 : alk tS_planned 33 = some (.bipush (-3), 2) := rfl
theorem pS_planned_35 : alk tS_planned 35 = some (.invokevirtual 79, 3) := rfl
theorem pS_planned_38 : alk tS_planned 38 = some (.ireturn, 1) := rfl
theorem pS_planned_39 : alk tS_planned 39 = some (.iload_n 2, 1) := rfl
theorem pS_planned_40 : alk tS_planned 40 = some (.lookupswitch 46 #[(0, 28), (1, 37)], 28) := rfl
theorem pS_planned_68 : alk tS_planned 68 = some (.aload_n 0, 1) := rfl
theorem pS_planned_69 : alk tS_planned 69 = some (.getfield 49, 3) := rfl
theorem pS_planned_72 : alk tS_planned 72 = some (.iload_n 1, 1) := rfl
theorem pS_planned_73 : alk tS_planned 73 = some (.invokevirtual 247, 3) := rfl
theorem pS_planned_76 : alk tS_planned 76 = some (.ireturn, 1) := rfl
theorem pS_planned_77 : alk tS_planned 77 = some (.aload_n 0, 1) := rfl
theorem pS_planned_78 : alk tS_planned 78 = some (.getfield 49, 3) := rfl
theorem pS_planned_81 : alk tS_planned 81 = some (.iload_n 1, 1) := rfl
theorem pS_planned_82 : alk tS_planned 82 = some (.invokevirtual 250, 3) := rfl
theorem pS_planned_85 : alk tS_planned 85 = some (.ireturn, 1) := rfl
theorem pS_planned_86 : alk tS_planned 86 = some (.aload_n 0, 1) := rfl
theorem pS_planned_87 : alk tS_planned 87 = some (.bipush (-7), 2) := rfl
theorem pS_planned_89 : alk tS_planned 89 = some (.invokevirtual 79, 3) := rfl
theorem pS_planned_92 : alk tS_planned 92 = some (.ireturn, 1) := rfl
def tP_plannedLot : TB := [(0, .iload_n 1, 1), (1, .ifCond .lt 25, 3), (4, .iload_n 1, 1), (5, .aload_n 0, 1), (6, .getfield 55, 3), (9, .if_icmp .ge 17, 3), (12, .iload_n 1, 1), (13, .iconst 4, 1), (14, .if_icmp .ge 12, 3), (17, .aload_n 0, 1), (18, .getfield 30, 3), (21, .iload_n 1, 1), (22, .iaload, 1), (23, .goto 4, 3), (26, .iconst (-1), 1), (27, .ireturn, 1)]
set_option maxRecDepth 100000 in
theorem kP_plannedLot : tbOk (mB mP_plannedLot) tP_plannedLot = true := by decide +kernel
theorem pP_plannedLot_0 : alk tP_plannedLot 0 = some (.iload_n 1, 1) := rfl
theorem pP_plannedLot_1 : alk tP_plannedLot 1 = some (.ifCond .lt 25, 3) := rfl
theorem pP_plannedLot_4 : alk tP_plannedLot 4 = some (.iload_n 1, 1) := rfl
theorem pP_plannedLot_5 : alk tP_plannedLot 5 = some (.aload_n 0, 1) := rfl
theorem pP_plannedLot_6 : alk tP_plannedLot 6 = some (.getfield 55, 3) := rfl
theorem pP_plannedLot_9 : alk tP_plannedLot 9 = some (.if_icmp .ge 17, 3) := rfl
theorem pP_plannedLot_12 : alk tP_plannedLot 12 = some (.iload_n 1, 1) := rfl
theorem pP_plannedLot_13 : alk tP_plannedLot 13 = some (.iconst 4, 1) := rfl
theorem pP_plannedLot_14 : alk tP_plannedLot 14 = some (.if_icmp .ge 12, 3) := rfl
theorem pP_plannedLot_17 : alk tP_plannedLot 17 = some (.aload_n 0, 1) := rfl
theorem pP_plannedLot_18 : alk tP_plannedLot 18 = some (.getfield 30, 3) := rfl
theorem pP_plannedLot_21 : alk tP_plannedLot 21 = some (.iload_n 1, 1) := rfl
theorem pP_plannedLot_22 : alk tP_plannedLot 22 = some (.iaload, 1) := rfl
theorem pP_plannedLot_23 : alk tP_plannedLot 23 = some (.goto 4, 3) := rfl
theorem pP_plannedLot_26 : alk tP_plannedLot 26 = some (.iconst (-1), 1) := rfl
theorem pP_plannedLot_27 : alk tP_plannedLot 27 = some (.ireturn, 1) := rfl
def tP_plannedPen : TB := [(0, .iload_n 1, 1), (1, .ifCond .lt 25, 3), (4, .iload_n 1, 1), (5, .aload_n 0, 1), (6, .getfield 55, 3), (9, .if_icmp .ge 17, 3), (12, .iload_n 1, 1), (13, .iconst 4, 1), (14, .if_icmp .ge 12, 3), (17, .aload_n 0, 1), (18, .getfield 33, 3), (21, .iload_n 1, 1), (22, .iaload, 1), (23, .goto 4, 3), (26, .iconst (-1), 1), (27, .ireturn, 1)]
set_option maxRecDepth 100000 in
theorem kP_plannedPen : tbOk (mB mP_plannedPen) tP_plannedPen = true := by decide +kernel
theorem pP_plannedPen_0 : alk tP_plannedPen 0 = some (.iload_n 1, 1) := rfl
theorem pP_plannedPen_1 : alk tP_plannedPen 1 = some (.ifCond .lt 25, 3) := rfl
theorem pP_plannedPen_4 : alk tP_plannedPen 4 = some (.iload_n 1, 1) := rfl
theorem pP_plannedPen_5 : alk tP_plannedPen 5 = some (.aload_n 0, 1) := rfl
theorem pP_plannedPen_6 : alk tP_plannedPen 6 = some (.getfield 55, 3) := rfl
theorem pP_plannedPen_9 : alk tP_plannedPen 9 = some (.if_icmp .ge 17, 3) := rfl
theorem pP_plannedPen_12 : alk tP_plannedPen 12 = some (.iload_n 1, 1) := rfl
theorem pP_plannedPen_13 : alk tP_plannedPen 13 = some (.iconst 4, 1) := rfl
theorem pP_plannedPen_14 : alk tP_plannedPen 14 = some (.if_icmp .ge 12, 3) := rfl
theorem pP_plannedPen_17 : alk tP_plannedPen 17 = some (.aload_n 0, 1) := rfl
theorem pP_plannedPen_18 : alk tP_plannedPen 18 = some (.getfield 33, 3) := rfl
theorem pP_plannedPen_21 : alk tP_plannedPen 21 = some (.iload_n 1, 1) := rfl
theorem pP_plannedPen_22 : alk tP_plannedPen 22 = some (.iaload, 1) := rfl
theorem pP_plannedPen_23 : alk tP_plannedPen 23 = some (.goto 4, 3) := rfl
theorem pP_plannedPen_26 : alk tP_plannedPen 26 = some (.iconst (-1), 1) := rfl
theorem pP_plannedPen_27 : alk tP_plannedPen 27 = some (.ireturn, 1) := rfl
def tS_feed : TB := [(0, .iload_n 2, 1), (1, .ifCond .ge 10, 3), (4, .aload_n 0, 1), (5, .bipush (-4), 2), (7, .invokevirtual 79, 3), (10, .ireturn, 1), (11, .iload_n 2, 1), (12, .iconst 4, 1), (13, .if_icmp .le 10, 3), (16, .aload_n 0, 1), (17, .bipush (-7), 2), (19, .invokevirtual 79, 3), (22, .ireturn, 1), (23, .aload_n 0, 1), (24, .getfield 26, 3), (27, .getfield 253, 3), (30, .iload_n 2, 1), (31, .iadd, 1), (32, .bipush 80, 2), (34, .if_icmp .le 10, 3), (37, .aload_n 0, 1), (38, .bipush (-8), 2), (40, .invokevirtual 79, 3), (43, .ireturn, 1), (44, .iload_n 2, 1), (45, .iconst 1, 1), (46, .isub, 1), (47, .istore_n 3, 1), (48, .iload_n 3, 1), (49, .ifCond .lt 26, 3), (52, .aload_n 0, 1), (53, .getfield 26, 3), (56, .iload_n 1, 1), (57, .bipush 8, 2), (59, .iload_n 3, 1), (60, .imul, 1), (61, .iushr, 1), (62, .sipush 255, 3), (65, .iand, 1), (66, .invokevirtual 255, 3), (69, .iinc 3 (-1), 3), (72, .goto (-24), 3), (75, .aload_n 0, 1), (76, .getfield 26, 3), (79, .getfield 253, 3), (82, .ireturn, 1)]
set_option maxRecDepth 100000 in
theorem kS_feed : tbOk (mB mS_feed) tS_feed = true := by decide +kernel
theorem pS_feed_0 : alk tS_feed 0 = some (.iload_n 2, 1) := rfl
theorem pS_feed_1 : alk tS_feed 1 = some (.ifCond .ge 10, 3) := rfl
theorem pS_feed_4 : alk tS_feed 4 = some (.aload_n 0, 1) := rfl
theorem pS_feed_5 : alk tS_feed 5 = some (.bipush (-4), 2) := rfl
theorem pS_feed_7 : alk tS_feed 7 = some (.invokevirtual 79, 3) := rfl
theorem pS_feed_10 : alk tS_feed 10 = some (.ireturn, 1) := rfl
theorem pS_feed_11 : alk tS_feed 11 = some (.iload_n 2, 1) := rfl
theorem pS_feed_12 : alk tS_feed 12 = some (.iconst 4, 1) := rfl
theorem pS_feed_13 : alk tS_feed 13 = some (.if_icmp .le 10, 3) := rfl
theorem pS_feed_16 : alk tS_feed 16 = some (.aload_n 0, 1) := rfl
theorem pS_feed_17 : alk tS_feed 17 = some (.bipush (-7), 2) := rfl
theorem pS_feed_19 : alk tS_feed 19 = some (.invokevirtual 79, 3) := rfl
theorem pS_feed_22 : alk tS_feed 22 = some (.ireturn, 1) := rfl
theorem pS_feed_23 : alk tS_feed 23 = some (.aload_n 0, 1) := rfl
theorem pS_feed_24 : alk tS_feed 24 = some (.getfield 26, 3) := rfl
theorem pS_feed_27 : alk tS_feed 27 = some (.getfield 253, 3) := rfl
theorem pS_feed_30 : alk tS_feed 30 = some (.iload_n 2, 1) := rfl
theorem pS_feed_31 : alk tS_feed 31 = some (.iadd, 1) := rfl
theorem pS_feed_32 : alk tS_feed 32 = some (.bipush 80, 2) := rfl
theorem pS_feed_34 : alk tS_feed 34 = some (.if_icmp .le 10, 3) := rfl
theorem pS_feed_37 : alk tS_feed 37 = some (.aload_n 0, 1) := rfl
theorem pS_feed_38 : alk tS_feed 38 = some (.bipush (-8), 2) := rfl
theorem pS_feed_40 : alk tS_feed 40 = some (.invokevirtual 79, 3) := rfl
theorem pS_feed_43 : alk tS_feed 43 = some (.ireturn, 1) := rfl
theorem pS_feed_44 : alk tS_feed 44 = some (.iload_n 2, 1) := rfl
theorem pS_feed_45 : alk tS_feed 45 = some (.iconst 1, 1) := rfl
theorem pS_feed_46 : alk tS_feed 46 = some (.isub, 1) := rfl
theorem pS_feed_47 : alk tS_feed 47 = some (.istore_n 3, 1) := rfl
theorem pS_feed_48 : alk tS_feed 48 = some (.iload_n 3, 1) := rfl
theorem pS_feed_49 : alk tS_feed 49 = some (.ifCond .lt 26, 3) := rfl
theorem pS_feed_52 : alk tS_feed 52 = some (.aload_n 0, 1) := rfl
theorem pS_feed_53 : alk tS_feed 53 = some (.getfield 26, 3) := rfl
theorem pS_feed_56 : alk tS_feed 56 = some (.iload_n 1, 1) := rfl
theorem pS_feed_57 : alk tS_feed 57 = some (.bipush 8, 2) := rfl
theorem pS_feed_59 : alk tS_feed 59 = some (.iload_n 3, 1) := rfl
theorem pS_feed_60 : alk tS_feed 60 = some (.imul, 1) := rfl
theorem pS_feed_61 : alk tS_feed 61 = some (.iushr, 1) := rfl
theorem pS_feed_62 : alk tS_feed 62 = some (.sipush 255, 3) := rfl
theorem pS_feed_65 : alk tS_feed 65 = some (.iand, 1) := rfl
theorem pS_feed_66 : alk tS_feed 66 = some (.invokevirtual 255, 3) := rfl
theorem pS_feed_69 : alk tS_feed 69 = some (.iinc 3 (-1), 3) := rfl
theorem pS_feed_72 : alk tS_feed 72 = some (.goto (-24), 3) := rfl
theorem pS_feed_75 : alk tS_feed 75 = some (.aload_n 0, 1) := rfl
theorem pS_feed_76 : alk tS_feed 76 = some (.getfield 26, 3) := rfl
theorem pS_feed_79 : alk tS_feed 79 = some (.getfield 253, 3) := rfl
theorem pS_feed_82 : alk tS_feed 82 = some (.ireturn, 1) := rfl
def tT_add : TB := [(0, .aload_n 0, 1), (1, .getfield 15, 3), (4, .bipush 80, 2), (6, .if_icmp .ge 23, 3), (9, .aload_n 0, 1), (10, .getfield 9, 3), (13, .aload_n 0, 1), (14, .getfield 15, 3), (17, .iload_n 1, 1), (18, .iastore, 1), (19, .aload_n 0, 1), (20, .dup, 1), (21, .getfield 15, 3), (24, .iconst 1, 1), (25, .iadd, 1), (26, .putfield 15, 3), (29, .return_, 1)]
set_option maxRecDepth 100000 in
theorem kT_add : tbOk (mB mT_add) tT_add = true := by decide +kernel
theorem pT_add_0 : alk tT_add 0 = some (.aload_n 0, 1) := rfl
theorem pT_add_1 : alk tT_add 1 = some (.getfield 15, 3) := rfl
theorem pT_add_4 : alk tT_add 4 = some (.bipush 80, 2) := rfl
theorem pT_add_6 : alk tT_add 6 = some (.if_icmp .ge 23, 3) := rfl
theorem pT_add_9 : alk tT_add 9 = some (.aload_n 0, 1) := rfl
theorem pT_add_10 : alk tT_add 10 = some (.getfield 9, 3) := rfl
theorem pT_add_13 : alk tT_add 13 = some (.aload_n 0, 1) := rfl
theorem pT_add_14 : alk tT_add 14 = some (.getfield 15, 3) := rfl
theorem pT_add_17 : alk tT_add 17 = some (.iload_n 1, 1) := rfl
theorem pT_add_18 : alk tT_add 18 = some (.iastore, 1) := rfl
theorem pT_add_19 : alk tT_add 19 = some (.aload_n 0, 1) := rfl
theorem pT_add_20 : alk tT_add 20 = some (.dup, 1) := rfl
theorem pT_add_21 : alk tT_add 21 = some (.getfield 15, 3) := rfl
theorem pT_add_24 : alk tT_add 24 = some (.iconst 1, 1) := rfl
theorem pT_add_25 : alk tT_add 25 = some (.iadd, 1) := rfl
theorem pT_add_26 : alk tT_add 26 = some (.putfield 15, 3) := rfl
theorem pT_add_29 : alk tT_add 29 = some (.return_, 1) := rfl
def tS_wipe : TB := [(0, .aload_n 0, 1), (1, .getfield 26, 3), (4, .getfield 253, 3), (7, .istore_n 1, 1), (8, .aload_n 0, 1), (9, .getfield 26, 3), (12, .iconst 0, 1), (13, .putfield 253, 3), (16, .iload_n 1, 1), (17, .ireturn, 1)]
set_option maxRecDepth 100000 in
theorem kS_wipe : tbOk (mB mS_wipe) tS_wipe = true := by decide +kernel
theorem pS_wipe_0 : alk tS_wipe 0 = some (.aload_n 0, 1) := rfl
theorem pS_wipe_1 : alk tS_wipe 1 = some (.getfield 26, 3) := rfl
theorem pS_wipe_4 : alk tS_wipe 4 = some (.getfield 253, 3) := rfl
theorem pS_wipe_7 : alk tS_wipe 7 = some (.istore_n 1, 1) := rfl
theorem pS_wipe_8 : alk tS_wipe 8 = some (.aload_n 0, 1) := rfl
theorem pS_wipe_9 : alk tS_wipe 9 = some (.getfield 26, 3) := rfl
theorem pS_wipe_12 : alk tS_wipe 12 = some (.iconst 0, 1) := rfl
theorem pS_wipe_13 : alk tS_wipe 13 = some (.putfield 253, 3) := rfl
theorem pS_wipe_16 : alk tS_wipe 16 = some (.iload_n 1, 1) := rfl
theorem pS_wipe_17 : alk tS_wipe 17 = some (.ireturn, 1) := rfl
def tS_rule : TB := [(0, .iload_n 1, 1), (1, .iconst 0, 1), (2, .ldc_w 259, 3), (5, .invokestatic 75, 3), (8, .ifCond .eq 19, 3), (11, .iload_n 2, 1), (12, .iconst 0, 1), (13, .ldc_w 259, 3), (16, .invokestatic 75, 3), (19, .ifCond .eq 8, 3), (22, .iload_n 1, 1), (23, .iload_n 2, 1), (24, .if_icmp .lt 10, 3), (27, .aload_n 0, 1), (28, .bipush (-7), 2), (30, .invokevirtual 79, 3), (33, .ireturn, 1), (34, .aload_n 0, 1), (35, .getfield 33, 3), (38, .getfield 260, 3), (41, .invokevirtual 96, 3), (44, .bipush 10, 2), (46, .if_icmp .lt 10, 3), (49, .aload_n 0, 1), (50, .bipush (-8), 2), (52, .invokevirtual 79, 3), (55, .ireturn, 1), (56, .new 263, 3), (59, .dup, 1), (60, .iload_n 1, 1), (61, .iload_n 2, 1), (62, .invokespecial 265, 3), (65, .astore_n 3, 1), (66, .aload_n 0, 1), (67, .getfield 26, 3), (70, .aload_n 3, 1), (71, .invokevirtual 267, 3), (74, .ifCond .ne 14, 3), (77, .bipush (-10), 2), (79, .aload_n 0, 1), (80, .getfield 26, 3), (83, .getfield 271, 3), (86, .isub, 1), (87, .ireturn, 1), (88, .aload_n 0, 1), (89, .getfield 26, 3), (92, .iconst 0, 1), (93, .putfield 253, 3), (96, .aload_n 0, 1), (97, .getfield 33, 3), (100, .getfield 260, 3), (103, .aload_n 3, 1), (104, .invokevirtual 274, 3), (107, .pop, 1), (108, .aload_n 0, 1), (109, .getfield 33, 3), (112, .getfield 260, 3), (115, .invokevirtual 96, 3), (118, .iconst 1, 1), (119, .isub, 1), (120, .ireturn, 1)]
set_option maxRecDepth 100000 in
theorem kS_rule : tbOk (mB mS_rule) tS_rule = true := by decide +kernel
theorem pS_rule_0 : alk tS_rule 0 = some (.iload_n 1, 1) := rfl
theorem pS_rule_1 : alk tS_rule 1 = some (.iconst 0, 1) := rfl
theorem pS_rule_2 : alk tS_rule 2 = some (.ldc_w 259, 3) := rfl
theorem pS_rule_5 : alk tS_rule 5 = some (.invokestatic 75, 3) := rfl
theorem pS_rule_8 : alk tS_rule 8 = some (.ifCond .eq 19, 3) := rfl
theorem pS_rule_11 : alk tS_rule 11 = some (.iload_n 2, 1) := rfl
theorem pS_rule_12 : alk tS_rule 12 = some (.iconst 0, 1) := rfl
theorem pS_rule_13 : alk tS_rule 13 = some (.ldc_w 259, 3) := rfl
theorem pS_rule_16 : alk tS_rule 16 = some (.invokestatic 75, 3) := rfl
theorem pS_rule_19 : alk tS_rule 19 = some (.ifCond .eq 8, 3) := rfl
theorem pS_rule_22 : alk tS_rule 22 = some (.iload_n 1, 1) := rfl
theorem pS_rule_23 : alk tS_rule 23 = some (.iload_n 2, 1) := rfl
theorem pS_rule_24 : alk tS_rule 24 = some (.if_icmp .lt 10, 3) := rfl
theorem pS_rule_27 : alk tS_rule 27 = some (.aload_n 0, 1) := rfl
theorem pS_rule_28 : alk tS_rule 28 = some (.bipush (-7), 2) := rfl
theorem pS_rule_30 : alk tS_rule 30 = some (.invokevirtual 79, 3) := rfl
theorem pS_rule_33 : alk tS_rule 33 = some (.ireturn, 1) := rfl
theorem pS_rule_34 : alk tS_rule 34 = some (.aload_n 0, 1) := rfl
theorem pS_rule_35 : alk tS_rule 35 = some (.getfield 33, 3) := rfl
theorem pS_rule_38 : alk tS_rule 38 = some (.getfield 260, 3) := rfl
theorem pS_rule_41 : alk tS_rule 41 = some (.invokevirtual 96, 3) := rfl
theorem pS_rule_44 : alk tS_rule 44 = some (.bipush 10, 2) := rfl
theorem pS_rule_46 : alk tS_rule 46 = some (.if_icmp .lt 10, 3) := rfl
theorem pS_rule_49 : alk tS_rule 49 = some (.aload_n 0, 1) := rfl
theorem pS_rule_50 : alk tS_rule 50 = some (.bipush (-8), 2) := rfl
theorem pS_rule_52 : alk tS_rule 52 = some (.invokevirtual 79, 3) := rfl
theorem pS_rule_55 : alk tS_rule 55 = some (.ireturn, 1) := rfl
theorem pS_rule_56 : alk tS_rule 56 = some (.new 263, 3) := rfl
theorem pS_rule_59 : alk tS_rule 59 = some (.dup, 1) := rfl
theorem pS_rule_60 : alk tS_rule 60 = some (.iload_n 1, 1) := rfl
theorem pS_rule_61 : alk tS_rule 61 = some (.iload_n 2, 1) := rfl
theorem pS_rule_62 : alk tS_rule 62 = some (.invokespecial 265, 3) := rfl
theorem pS_rule_65 : alk tS_rule 65 = some (.astore_n 3, 1) := rfl
theorem pS_rule_66 : alk tS_rule 66 = some (.aload_n 0, 1) := rfl
theorem pS_rule_67 : alk tS_rule 67 = some (.getfield 26, 3) := rfl
theorem pS_rule_70 : alk tS_rule 70 = some (.aload_n 3, 1) := rfl
theorem pS_rule_71 : alk tS_rule 71 = some (.invokevirtual 267, 3) := rfl
theorem pS_rule_74 : alk tS_rule 74 = some (.ifCond .ne 14, 3) := rfl
theorem pS_rule_77 : alk tS_rule 77 = some (.bipush (-10), 2) := rfl
theorem pS_rule_79 : alk tS_rule 79 = some (.aload_n 0, 1) := rfl
theorem pS_rule_80 : alk tS_rule 80 = some (.getfield 26, 3) := rfl
theorem pS_rule_83 : alk tS_rule 83 = some (.getfield 271, 3) := rfl
theorem pS_rule_86 : alk tS_rule 86 = some (.isub, 1) := rfl
theorem pS_rule_87 : alk tS_rule 87 = some (.ireturn, 1) := rfl
theorem pS_rule_88 : alk tS_rule 88 = some (.aload_n 0, 1) := rfl
theorem pS_rule_89 : alk tS_rule 89 = some (.getfield 26, 3) := rfl
theorem pS_rule_92 : alk tS_rule 92 = some (.iconst 0, 1) := rfl
theorem pS_rule_93 : alk tS_rule 93 = some (.putfield 253, 3) := rfl
theorem pS_rule_96 : alk tS_rule 96 = some (.aload_n 0, 1) := rfl
theorem pS_rule_97 : alk tS_rule 97 = some (.getfield 33, 3) := rfl
theorem pS_rule_100 : alk tS_rule 100 = some (.getfield 260, 3) := rfl
theorem pS_rule_103 : alk tS_rule 103 = some (.aload_n 3, 1) := rfl
theorem pS_rule_104 : alk tS_rule 104 = some (.invokevirtual 274, 3) := rfl
theorem pS_rule_107 : alk tS_rule 107 = some (.pop, 1) := rfl
theorem pS_rule_108 : alk tS_rule 108 = some (.aload_n 0, 1) := rfl
theorem pS_rule_109 : alk tS_rule 109 = some (.getfield 33, 3) := rfl
theorem pS_rule_112 : alk tS_rule 112 = some (.getfield 260, 3) := rfl
theorem pS_rule_115 : alk tS_rule 115 = some (.invokevirtual 96, 3) := rfl
theorem pS_rule_118 : alk tS_rule 118 = some (.iconst 1, 1) := rfl
theorem pS_rule_119 : alk tS_rule 119 = some (.isub, 1) := rfl
theorem pS_rule_120 : alk tS_rule 120 = some (.ireturn, 1) := rfl
def tU_init : TB := [(0, .aload_n 0, 1), (1, .invokespecial 3, 3), (4, .aload_n 0, 1), (5, .iconst 3, 1), (6, .newarray .boolean, 2), (8, .putfield 9, 3), (11, .aload_n 0, 1), (12, .iconst 3, 1), (13, .newarray .int, 2), (15, .putfield 15, 3), (18, .aload_n 0, 1), (19, .iconst 3, 1), (20, .newarray .int, 2), (22, .putfield 19, 3), (25, .aload_n 0, 1), (26, .iconst 3, 1), (27, .newarray .int, 2), (29, .putfield 22, 3), (32, .aload_n 0, 1), (33, .iconst 0, 1), (34, .putfield 25, 3), (37, .aload_n 0, 1), (38, .iconst (-1), 1), (39, .putfield 29, 3), (42, .aload_n 0, 1), (43, .iconst 0, 1), (44, .putfield 32, 3), (47, .aload_n 0, 1), (48, .iload_n 1, 1), (49, .putfield 35, 3), (52, .aload_n 0, 1), (53, .iload_n 2, 1), (54, .putfield 38, 3), (57, .return_, 1)]
set_option maxRecDepth 100000 in
theorem kU_init : tbOk (mB mU_init) tU_init = true := by decide +kernel
theorem pU_init_0 : alk tU_init 0 = some (.aload_n 0, 1) := rfl
theorem pU_init_1 : alk tU_init 1 = some (.invokespecial 3, 3) := rfl
theorem pU_init_4 : alk tU_init 4 = some (.aload_n 0, 1) := rfl
theorem pU_init_5 : alk tU_init 5 = some (.iconst 3, 1) := rfl
theorem pU_init_6 : alk tU_init 6 = some (.newarray .boolean, 2) := rfl
theorem pU_init_8 : alk tU_init 8 = some (.putfield 9, 3) := rfl
theorem pU_init_11 : alk tU_init 11 = some (.aload_n 0, 1) := rfl
theorem pU_init_12 : alk tU_init 12 = some (.iconst 3, 1) := rfl
theorem pU_init_13 : alk tU_init 13 = some (.newarray .int, 2) := rfl
theorem pU_init_15 : alk tU_init 15 = some (.putfield 15, 3) := rfl
theorem pU_init_18 : alk tU_init 18 = some (.aload_n 0, 1) := rfl
theorem pU_init_19 : alk tU_init 19 = some (.iconst 3, 1) := rfl
theorem pU_init_20 : alk tU_init 20 = some (.newarray .int, 2) := rfl
theorem pU_init_22 : alk tU_init 22 = some (.putfield 19, 3) := rfl
theorem pU_init_25 : alk tU_init 25 = some (.aload_n 0, 1) := rfl
theorem pU_init_26 : alk tU_init 26 = some (.iconst 3, 1) := rfl
theorem pU_init_27 : alk tU_init 27 = some (.newarray .int, 2) := rfl
theorem pU_init_29 : alk tU_init 29 = some (.putfield 22, 3) := rfl
theorem pU_init_32 : alk tU_init 32 = some (.aload_n 0, 1) := rfl
theorem pU_init_33 : alk tU_init 33 = some (.iconst 0, 1) := rfl
theorem pU_init_34 : alk tU_init 34 = some (.putfield 25, 3) := rfl
theorem pU_init_37 : alk tU_init 37 = some (.aload_n 0, 1) := rfl
theorem pU_init_38 : alk tU_init 38 = some (.iconst (-1), 1) := rfl
theorem pU_init_39 : alk tU_init 39 = some (.putfield 29, 3) := rfl
theorem pU_init_42 : alk tU_init 42 = some (.aload_n 0, 1) := rfl
theorem pU_init_43 : alk tU_init 43 = some (.iconst 0, 1) := rfl
theorem pU_init_44 : alk tU_init 44 = some (.putfield 32, 3) := rfl
theorem pU_init_47 : alk tU_init 47 = some (.aload_n 0, 1) := rfl
theorem pU_init_48 : alk tU_init 48 = some (.iload_n 1, 1) := rfl
theorem pU_init_49 : alk tU_init 49 = some (.putfield 35, 3) := rfl
theorem pU_init_52 : alk tU_init 52 = some (.aload_n 0, 1) := rfl
theorem pU_init_53 : alk tU_init 53 = some (.iload_n 2, 1) := rfl
theorem pU_init_54 : alk tU_init 54 = some (.putfield 38, 3) := rfl
theorem pU_init_57 : alk tU_init 57 = some (.return_, 1) := rfl
def tT_readRule : TB := [(0, .aload_n 0, 1), (1, .iconst 0, 1), (2, .putfield 19, 3), (5, .aload_n 1, 1), (6, .aload_n 0, 1), (7, .iconst 1, 1), (8, .invokevirtual 22, 3), (11, .putfield 26, 3), (14, .aload_n 1, 1), (15, .getfield 26, 3), (18, .iconst (-1), 1), (19, .if_icmp .eq 12, 3), (22, .aload_n 0, 1), (23, .bipush 32, 2), (25, .invokevirtual 31, 3), (28, .ifCond .ne 5, 3), (31, .iconst 0, 1), (32, .ireturn, 1), (33, .aload_n 1, 1), (34, .aload_n 0, 1), (35, .invokevirtual 35, 3), (38, .putfield 39, 3), (41, .aload_n 1, 1), (42, .getfield 39, 3), (45, .iconst (-1), 1), (46, .if_icmp .ne 5, 3), (49, .iconst 0, 1), (50, .ireturn, 1), (51, .aload_n 0, 1), (52, .getfield 19, 3), (55, .aload_n 0, 1), (56, .getfield 15, 3), (59, .if_icmp .eq 20, 3), (62, .aload_n 0, 1), (63, .ldc 42, 2), (65, .invokevirtual 44, 3), (68, .ifCond .eq 15, 3), (71, .aload_n 0, 1), (72, .aload_n 1, 1), (73, .invokevirtual 48, 3), (76, .ifCond .eq 7, 3), (79, .iconst 1, 1), (80, .goto 4, 3), (83, .iconst 0, 1), (84, .ireturn, 1)]
set_option maxRecDepth 100000 in
theorem kT_readRule : tbOk (mB mT_readRule) tT_readRule = true := by decide +kernel
theorem pT_readRule_0 : alk tT_readRule 0 = some (.aload_n 0, 1) := rfl
theorem pT_readRule_1 : alk tT_readRule 1 = some (.iconst 0, 1) := rfl
theorem pT_readRule_2 : alk tT_readRule 2 = some (.putfield 19, 3) := rfl
theorem pT_readRule_5 : alk tT_readRule 5 = some (.aload_n 1, 1) := rfl
theorem pT_readRule_6 : alk tT_readRule 6 = some (.aload_n 0, 1) := rfl
theorem pT_readRule_7 : alk tT_readRule 7 = some (.iconst 1, 1) := rfl
theorem pT_readRule_8 : alk tT_readRule 8 = some (.invokevirtual 22, 3) := rfl
theorem pT_readRule_11 : alk tT_readRule 11 = some (.putfield 26, 3) := rfl
theorem pT_readRule_14 : alk tT_readRule 14 = some (.aload_n 1, 1) := rfl
theorem pT_readRule_15 : alk tT_readRule 15 = some (.getfield 26, 3) := rfl
theorem pT_readRule_18 : alk tT_readRule 18 = some (.iconst (-1), 1) := rfl
theorem pT_readRule_19 : alk tT_readRule 19 = some (.if_icmp .eq 12, 3) := rfl
theorem pT_readRule_22 : alk tT_readRule 22 = some (.aload_n 0, 1) := rfl
theorem pT_readRule_23 : alk tT_readRule 23 = some (.bipush 32, 2) := rfl
theorem pT_readRule_25 : alk tT_readRule 25 = some (.invokevirtual 31, 3) := rfl
theorem pT_readRule_28 : alk tT_readRule 28 = some (.ifCond .ne 5, 3) := rfl
theorem pT_readRule_31 : alk tT_readRule 31 = some (.iconst 0, 1) := rfl
theorem pT_readRule_32 : alk tT_readRule 32 = some (.ireturn, 1) := rfl
theorem pT_readRule_33 : alk tT_readRule 33 = some (.aload_n 1, 1) := rfl
theorem pT_readRule_34 : alk tT_readRule 34 = some (.aload_n 0, 1) := rfl
theorem pT_readRule_35 : alk tT_readRule 35 = some (.invokevirtual 35, 3) := rfl
theorem pT_readRule_38 : alk tT_readRule 38 = some (.putfield 39, 3) := rfl
theorem pT_readRule_41 : alk tT_readRule 41 = some (.aload_n 1, 1) := rfl
theorem pT_readRule_42 : alk tT_readRule 42 = some (.getfield 39, 3) := rfl
theorem pT_readRule_45 : alk tT_readRule 45 = some (.iconst (-1), 1) := rfl
theorem pT_readRule_46 : alk tT_readRule 46 = some (.if_icmp .ne 5, 3) := rfl
theorem pT_readRule_49 : alk tT_readRule 49 = some (.iconst 0, 1) := rfl
theorem pT_readRule_50 : alk tT_readRule 50 = some (.ireturn, 1) := rfl
theorem pT_readRule_51 : alk tT_readRule 51 = some (.aload_n 0, 1) := rfl
theorem pT_readRule_52 : alk tT_readRule 52 = some (.getfield 19, 3) := rfl
theorem pT_readRule_55 : alk tT_readRule 55 = some (.aload_n 0, 1) := rfl
theorem pT_readRule_56 : alk tT_readRule 56 = some (.getfield 15, 3) := rfl
theorem pT_readRule_59 : alk tT_readRule 59 = some (.if_icmp .eq 20, 3) := rfl
theorem pT_readRule_62 : alk tT_readRule 62 = some (.aload_n 0, 1) := rfl
theorem pT_readRule_63 : alk tT_readRule 63 = some (.ldc 42, 2) := rfl
theorem pT_readRule_65 : alk tT_readRule 65 = some (.invokevirtual 44, 3) := rfl
theorem pT_readRule_68 : alk tT_readRule 68 = some (.ifCond .eq 15, 3) := rfl
theorem pT_readRule_71 : alk tT_readRule 71 = some (.aload_n 0, 1) := rfl
theorem pT_readRule_72 : alk tT_readRule 72 = some (.aload_n 1, 1) := rfl
theorem pT_readRule_73 : alk tT_readRule 73 = some (.invokevirtual 48, 3) := rfl
theorem pT_readRule_76 : alk tT_readRule 76 = some (.ifCond .eq 7, 3) := rfl
theorem pT_readRule_79 : alk tT_readRule 79 = some (.iconst 1, 1) := rfl
theorem pT_readRule_80 : alk tT_readRule 80 = some (.goto 4, 3) := rfl
theorem pT_readRule_83 : alk tT_readRule 83 = some (.iconst 0, 1) := rfl
theorem pT_readRule_84 : alk tT_readRule 84 = some (.ireturn, 1) := rfl
def tT_readWord : TB := [(0, .iload_n 1, 1), (1, .ifCond .eq 7, 3), (4, .iconst 4, 1), (5, .goto 4, 3), (8, .iconst 5, 1), (9, .istore_n 2, 1), (10, .iconst 0, 1), (11, .istore_n 3, 1), (12, .iload_n 3, 1), (13, .iload_n 2, 1), (14, .if_icmp .ge 70, 3), (17, .iload_n 1, 1), (18, .ifCond .eq 10, 3), (21, .iload_n 3, 1), (22, .invokestatic 70, 3), (25, .goto 7, 3), (28, .iload_n 3, 1), (29, .invokestatic 74, 3), (32, .astore 4, 2), (34, .aload_n 0, 1), (35, .getfield 19, 3), (38, .aload_n 0, 1), (39, .getfield 15, 3), (42, .if_icmp .ge 36, 3), (45, .aload_n 0, 1), (46, .getfield 9, 3), (49, .aload_n 0, 1), (50, .getfield 19, 3), (53, .iaload, 1), (54, .aload 4, 2), (56, .iconst 0, 1), (57, .invokevirtual 66, 3), (60, .if_icmp .ne 18, 3), (63, .aload_n 0, 1), (64, .aload 4, 2), (66, .invokevirtual 44, 3), (69, .ifCond .eq 7, 3), (72, .iload_n 3, 1), (73, .goto 4, 3), (76, .iconst (-1), 1), (77, .ireturn, 1), (78, .iinc 3 1, 3), (81, .goto (-69), 3), (84, .iconst (-1), 1), (85, .ireturn, 1)]
set_option maxRecDepth 100000 in
theorem kT_readWord : tbOk (mB mT_readWord) tT_readWord = true := by decide +kernel
theorem pT_readWord_0 : alk tT_readWord 0 = some (.iload_n 1, 1) := rfl
theorem pT_readWord_1 : alk tT_readWord 1 = some (.ifCond .eq 7, 3) := rfl
theorem pT_readWord_4 : alk tT_readWord 4 = some (.iconst 4, 1) := rfl
theorem pT_readWord_5 : alk tT_readWord 5 = some (.goto 4, 3) := rfl
theorem pT_readWord_8 : alk tT_readWord 8 = some (.iconst 5, 1) := rfl
theorem pT_readWord_9 : alk tT_readWord 9 = some (.istore_n 2, 1) := rfl
theorem pT_readWord_10 : alk tT_readWord 10 = some (.iconst 0, 1) := rfl
theorem pT_readWord_11 : alk tT_readWord 11 = some (.istore_n 3, 1) := rfl
theorem pT_readWord_12 : alk tT_readWord 12 = some (.iload_n 3, 1) := rfl
theorem pT_readWord_13 : alk tT_readWord 13 = some (.iload_n 2, 1) := rfl
theorem pT_readWord_14 : alk tT_readWord 14 = some (.if_icmp .ge 70, 3) := rfl
theorem pT_readWord_17 : alk tT_readWord 17 = some (.iload_n 1, 1) := rfl
theorem pT_readWord_18 : alk tT_readWord 18 = some (.ifCond .eq 10, 3) := rfl
theorem pT_readWord_21 : alk tT_readWord 21 = some (.iload_n 3, 1) := rfl
theorem pT_readWord_22 : alk tT_readWord 22 = some (.invokestatic 70, 3) := rfl
theorem pT_readWord_25 : alk tT_readWord 25 = some (.goto 7, 3) := rfl
theorem pT_readWord_28 : alk tT_readWord 28 = some (.iload_n 3, 1) := rfl
theorem pT_readWord_29 : alk tT_readWord 29 = some (.invokestatic 74, 3) := rfl
theorem pT_readWord_32 : alk tT_readWord 32 = some (.astore 4, 2) := rfl
theorem pT_readWord_34 : alk tT_readWord 34 = some (.aload_n 0, 1) := rfl
theorem pT_readWord_35 : alk tT_readWord 35 = some (.getfield 19, 3) := rfl
theorem pT_readWord_38 : alk tT_readWord 38 = some (.aload_n 0, 1) := rfl
theorem pT_readWord_39 : alk tT_readWord 39 = some (.getfield 15, 3) := rfl
theorem pT_readWord_42 : alk tT_readWord 42 = some (.if_icmp .ge 36, 3) := rfl
theorem pT_readWord_45 : alk tT_readWord 45 = some (.aload_n 0, 1) := rfl
theorem pT_readWord_46 : alk tT_readWord 46 = some (.getfield 9, 3) := rfl
theorem pT_readWord_49 : alk tT_readWord 49 = some (.aload_n 0, 1) := rfl
theorem pT_readWord_50 : alk tT_readWord 50 = some (.getfield 19, 3) := rfl
theorem pT_readWord_53 : alk tT_readWord 53 = some (.iaload, 1) := rfl
theorem pT_readWord_54 : alk tT_readWord 54 = some (.aload 4, 2) := rfl
theorem pT_readWord_56 : alk tT_readWord 56 = some (.iconst 0, 1) := rfl
theorem pT_readWord_57 : alk tT_readWord 57 = some (.invokevirtual 66, 3) := rfl
theorem pT_readWord_60 : alk tT_readWord 60 = some (.if_icmp .ne 18, 3) := rfl
theorem pT_readWord_63 : alk tT_readWord 63 = some (.aload_n 0, 1) := rfl
theorem pT_readWord_64 : alk tT_readWord 64 = some (.aload 4, 2) := rfl
theorem pT_readWord_66 : alk tT_readWord 66 = some (.invokevirtual 44, 3) := rfl
theorem pT_readWord_69 : alk tT_readWord 69 = some (.ifCond .eq 7, 3) := rfl
theorem pT_readWord_72 : alk tT_readWord 72 = some (.iload_n 3, 1) := rfl
theorem pT_readWord_73 : alk tT_readWord 73 = some (.goto 4, 3) := rfl
theorem pT_readWord_76 : alk tT_readWord 76 = some (.iconst (-1), 1) := rfl
theorem pT_readWord_77 : alk tT_readWord 77 = some (.ireturn, 1) := rfl
theorem pT_readWord_78 : alk tT_readWord 78 = some (.iinc 3 1, 3) := rfl
theorem pT_readWord_81 : alk tT_readWord 81 = some (.goto (-69), 3) := rfl
theorem pT_readWord_84 : alk tT_readWord 84 = some (.iconst (-1), 1) := rfl
theorem pT_readWord_85 : alk tT_readWord 85 = some (.ireturn, 1) := rfl
def tT_keyName : TB := [(0, .iload_n 0, 1), (1, .tableswitch 36 0 2 #[27, 30, 33], 27), (28, .ldc 83, 2), (30, .areturn, 1), (31, .ldc 85, 2), (33, .areturn, 1), (34, .ldc 87, 2), (36, .areturn, 1), (37, .ldc 89, 2), (39, .areturn, 1)]
set_option maxRecDepth 100000 in
theorem kT_keyName : tbOk (mB mT_keyName) tT_keyName = true := by decide +kernel
theorem pT_keyName_0 : alk tT_keyName 0 = some (.iload_n 0, 1) := rfl
theorem pT_keyName_1 : alk tT_keyName 1 = some (.tableswitch 36 0 2 #[27, 30, 33], 27) := rfl
theorem pT_keyName_28 : alk tT_keyName 28 = some (.ldc 83, 2) := rfl
theorem pT_keyName_30 : alk tT_keyName 30 = some (.areturn, 1) := rfl
theorem pT_keyName_31 : alk tT_keyName 31 = some (.ldc 85, 2) := rfl
theorem pT_keyName_33 : alk tT_keyName 33 = some (.areturn, 1) := rfl
theorem pT_keyName_34 : alk tT_keyName 34 = some (.ldc 87, 2) := rfl
theorem pT_keyName_36 : alk tT_keyName 36 = some (.areturn, 1) := rfl
theorem pT_keyName_37 : alk tT_keyName 37 = some (.ldc 89, 2) := rfl
theorem pT_keyName_39 : alk tT_keyName 39 = some (.areturn, 1) := rfl
def tT_fieldName : TB := [(0, .iload_n 0, 1), (1, .tableswitch 43 0 3 #[31, 34, 37, 40], 31), (32, .ldc 91, 2), (34, .areturn, 1), (35, .ldc 93, 2), (37, .areturn, 1), (38, .ldc 95, 2), (40, .areturn, 1), (41, .ldc 97, 2), (43, .areturn, 1), (44, .ldc 99, 2), (46, .areturn, 1)]
set_option maxRecDepth 100000 in
theorem kT_fieldName : tbOk (mB mT_fieldName) tT_fieldName = true := by decide +kernel
theorem pT_fieldName_0 : alk tT_fieldName 0 = some (.iload_n 0, 1) := rfl
theorem pT_fieldName_1 : alk tT_fieldName 1 = some (.tableswitch 43 0 3 #[31, 34, 37, 40], 31) := rfl
theorem pT_fieldName_32 : alk tT_fieldName 32 = some (.ldc 91, 2) := rfl
theorem pT_fieldName_34 : alk tT_fieldName 34 = some (.areturn, 1) := rfl
theorem pT_fieldName_35 : alk tT_fieldName 35 = some (.ldc 93, 2) := rfl
theorem pT_fieldName_37 : alk tT_fieldName 37 = some (.areturn, 1) := rfl
theorem pT_fieldName_38 : alk tT_fieldName 38 = some (.ldc 95, 2) := rfl
theorem pT_fieldName_40 : alk tT_fieldName 40 = some (.areturn, 1) := rfl
theorem pT_fieldName_41 : alk tT_fieldName 41 = some (.ldc 97, 2) := rfl
theorem pT_fieldName_43 : alk tT_fieldName 43 = some (.areturn, 1) := rfl
theorem pT_fieldName_44 : alk tT_fieldName 44 = some (.ldc 99, 2) := rfl
theorem pT_fieldName_46 : alk tT_fieldName 46 = some (.areturn, 1) := rfl
def tT_readText : TB := [(0, .iconst 0, 1), (1, .istore_n 2, 1), (2, .iload_n 2, 1), (3, .aload_n 1, 1), (4, .invokevirtual 61, 3), (7, .if_icmp .ge 23, 3), (10, .aload_n 0, 1), (11, .aload_n 1, 1), (12, .iload_n 2, 1), (13, .invokevirtual 66, 3), (16, .invokevirtual 31, 3), (19, .ifCond .ne 5, 3), (22, .iconst 0, 1), (23, .ireturn, 1), (24, .iinc 2 1, 3), (27, .goto (-25), 3), (30, .iconst 1, 1), (31, .ireturn, 1)]
set_option maxRecDepth 100000 in
theorem kT_readText : tbOk (mB mT_readText) tT_readText = true := by decide +kernel
theorem pT_readText_0 : alk tT_readText 0 = some (.iconst 0, 1) := rfl
theorem pT_readText_1 : alk tT_readText 1 = some (.istore_n 2, 1) := rfl
theorem pT_readText_2 : alk tT_readText 2 = some (.iload_n 2, 1) := rfl
theorem pT_readText_3 : alk tT_readText 3 = some (.aload_n 1, 1) := rfl
theorem pT_readText_4 : alk tT_readText 4 = some (.invokevirtual 61, 3) := rfl
theorem pT_readText_7 : alk tT_readText 7 = some (.if_icmp .ge 23, 3) := rfl
theorem pT_readText_10 : alk tT_readText 10 = some (.aload_n 0, 1) := rfl
theorem pT_readText_11 : alk tT_readText 11 = some (.aload_n 1, 1) := rfl
theorem pT_readText_12 : alk tT_readText 12 = some (.iload_n 2, 1) := rfl
theorem pT_readText_13 : alk tT_readText 13 = some (.invokevirtual 66, 3) := rfl
theorem pT_readText_16 : alk tT_readText 16 = some (.invokevirtual 31, 3) := rfl
theorem pT_readText_19 : alk tT_readText 19 = some (.ifCond .ne 5, 3) := rfl
theorem pT_readText_22 : alk tT_readText 22 = some (.iconst 0, 1) := rfl
theorem pT_readText_23 : alk tT_readText 23 = some (.ireturn, 1) := rfl
theorem pT_readText_24 : alk tT_readText 24 = some (.iinc 2 1, 3) := rfl
theorem pT_readText_27 : alk tT_readText 27 = some (.goto (-25), 3) := rfl
theorem pT_readText_30 : alk tT_readText 30 = some (.iconst 1, 1) := rfl
theorem pT_readText_31 : alk tT_readText 31 = some (.ireturn, 1) := rfl
def tT_readSign : TB := [(0, .aload_n 0, 1), (1, .getfield 19, 3), (4, .aload_n 0, 1), (5, .getfield 15, 3), (8, .if_icmp .ge 25, 3), (11, .aload_n 0, 1), (12, .getfield 19, 3), (15, .bipush 80, 2), (17, .if_icmp .ge 16, 3), (20, .aload_n 0, 1), (21, .getfield 9, 3), (24, .aload_n 0, 1), (25, .getfield 19, 3), (28, .iaload, 1), (29, .iload_n 1, 1), (30, .if_icmp .eq 5, 3), (33, .iconst 0, 1), (34, .ireturn, 1), (35, .aload_n 0, 1), (36, .dup, 1), (37, .getfield 19, 3), (40, .iconst 1, 1), (41, .iadd, 1), (42, .putfield 19, 3), (45, .iconst 1, 1), (46, .ireturn, 1)]
set_option maxRecDepth 100000 in
theorem kT_readSign : tbOk (mB mT_readSign) tT_readSign = true := by decide +kernel
theorem pT_readSign_0 : alk tT_readSign 0 = some (.aload_n 0, 1) := rfl
theorem pT_readSign_1 : alk tT_readSign 1 = some (.getfield 19, 3) := rfl
theorem pT_readSign_4 : alk tT_readSign 4 = some (.aload_n 0, 1) := rfl
theorem pT_readSign_5 : alk tT_readSign 5 = some (.getfield 15, 3) := rfl
theorem pT_readSign_8 : alk tT_readSign 8 = some (.if_icmp .ge 25, 3) := rfl
theorem pT_readSign_11 : alk tT_readSign 11 = some (.aload_n 0, 1) := rfl
theorem pT_readSign_12 : alk tT_readSign 12 = some (.getfield 19, 3) := rfl
theorem pT_readSign_15 : alk tT_readSign 15 = some (.bipush 80, 2) := rfl
theorem pT_readSign_17 : alk tT_readSign 17 = some (.if_icmp .ge 16, 3) := rfl
theorem pT_readSign_20 : alk tT_readSign 20 = some (.aload_n 0, 1) := rfl
theorem pT_readSign_21 : alk tT_readSign 21 = some (.getfield 9, 3) := rfl
theorem pT_readSign_24 : alk tT_readSign 24 = some (.aload_n 0, 1) := rfl
theorem pT_readSign_25 : alk tT_readSign 25 = some (.getfield 19, 3) := rfl
theorem pT_readSign_28 : alk tT_readSign 28 = some (.iaload, 1) := rfl
theorem pT_readSign_29 : alk tT_readSign 29 = some (.iload_n 1, 1) := rfl
theorem pT_readSign_30 : alk tT_readSign 30 = some (.if_icmp .eq 5, 3) := rfl
theorem pT_readSign_33 : alk tT_readSign 33 = some (.iconst 0, 1) := rfl
theorem pT_readSign_34 : alk tT_readSign 34 = some (.ireturn, 1) := rfl
theorem pT_readSign_35 : alk tT_readSign 35 = some (.aload_n 0, 1) := rfl
theorem pT_readSign_36 : alk tT_readSign 36 = some (.dup, 1) := rfl
theorem pT_readSign_37 : alk tT_readSign 37 = some (.getfield 19, 3) := rfl
theorem pT_readSign_40 : alk tT_readSign 40 = some (.iconst 1, 1) := rfl
theorem pT_readSign_41 : alk tT_readSign 41 = some (.iadd, 1) := rfl
theorem pT_readSign_42 : alk tT_readSign 42 = some (.putfield 19, 3) := rfl
theorem pT_readSign_45 : alk tT_readSign 45 = some (.iconst 1, 1) := rfl
theorem pT_readSign_46 : alk tT_readSign 46 = some (.ireturn, 1) := rfl
def tT_readNumber : TB := [(0, .iconst (-1), 1), (1, .istore_n 1, 1), (2, .iconst 0, 1), (3, .istore_n 2, 1), (4, .iload_n 2, 1), (5, .iconst 4, 1), (6, .if_icmp .ge 82, 3), (9, .aload_n 0, 1), (10, .getfield 19, 3), (13, .aload_n 0, 1), (14, .getfield 15, 3), (17, .if_icmp .ge 31, 3), (20, .aload_n 0, 1), (21, .getfield 9, 3), (24, .aload_n 0, 1), (25, .getfield 19, 3), (28, .iaload, 1), (29, .bipush 48, 2), (31, .if_icmp .lt 17, 3), (34, .aload_n 0, 1), (35, .getfield 9, 3), (38, .aload_n 0, 1), (39, .getfield 19, 3), (42, .iaload, 1), (43, .bipush 57, 2), (45, .if_icmp .le 5, 3), (48, .iload_n 1, 1), (49, .ireturn, 1), (50, .iconst 0, 1), (51, .iload_n 1, 1), (52, .invokestatic 77, 3), (55, .bipush 10, 2), (57, .imul, 1), (58, .aload_n 0, 1), (59, .getfield 9, 3), (62, .aload_n 0, 1), (63, .getfield 19, 3), (66, .iaload, 1), (67, .iadd, 1), (68, .bipush 48, 2), (70, .isub, 1), (71, .istore_n 1, 1), (72, .aload_n 0, 1), (73, .dup, 1), (74, .getfield 19, 3), (77, .iconst 1, 1), (78, .iadd, 1), (79, .putfield 19, 3), (82, .iinc 2 1, 3), (85, .goto (-81), 3), (88, .iload_n 1, 1), (89, .ireturn, 1)]
set_option maxRecDepth 100000 in
theorem kT_readNumber : tbOk (mB mT_readNumber) tT_readNumber = true := by decide +kernel
theorem pT_readNumber_0 : alk tT_readNumber 0 = some (.iconst (-1), 1) := rfl
theorem pT_readNumber_1 : alk tT_readNumber 1 = some (.istore_n 1, 1) := rfl
theorem pT_readNumber_2 : alk tT_readNumber 2 = some (.iconst 0, 1) := rfl
theorem pT_readNumber_3 : alk tT_readNumber 3 = some (.istore_n 2, 1) := rfl
theorem pT_readNumber_4 : alk tT_readNumber 4 = some (.iload_n 2, 1) := rfl
theorem pT_readNumber_5 : alk tT_readNumber 5 = some (.iconst 4, 1) := rfl
theorem pT_readNumber_6 : alk tT_readNumber 6 = some (.if_icmp .ge 82, 3) := rfl
theorem pT_readNumber_9 : alk tT_readNumber 9 = some (.aload_n 0, 1) := rfl
theorem pT_readNumber_10 : alk tT_readNumber 10 = some (.getfield 19, 3) := rfl
theorem pT_readNumber_13 : alk tT_readNumber 13 = some (.aload_n 0, 1) := rfl
theorem pT_readNumber_14 : alk tT_readNumber 14 = some (.getfield 15, 3) := rfl
theorem pT_readNumber_17 : alk tT_readNumber 17 = some (.if_icmp .ge 31, 3) := rfl
theorem pT_readNumber_20 : alk tT_readNumber 20 = some (.aload_n 0, 1) := rfl
theorem pT_readNumber_21 : alk tT_readNumber 21 = some (.getfield 9, 3) := rfl
theorem pT_readNumber_24 : alk tT_readNumber 24 = some (.aload_n 0, 1) := rfl
theorem pT_readNumber_25 : alk tT_readNumber 25 = some (.getfield 19, 3) := rfl
theorem pT_readNumber_28 : alk tT_readNumber 28 = some (.iaload, 1) := rfl
theorem pT_readNumber_29 : alk tT_readNumber 29 = some (.bipush 48, 2) := rfl
theorem pT_readNumber_31 : alk tT_readNumber 31 = some (.if_icmp .lt 17, 3) := rfl
theorem pT_readNumber_34 : alk tT_readNumber 34 = some (.aload_n 0, 1) := rfl
theorem pT_readNumber_35 : alk tT_readNumber 35 = some (.getfield 9, 3) := rfl
theorem pT_readNumber_38 : alk tT_readNumber 38 = some (.aload_n 0, 1) := rfl
theorem pT_readNumber_39 : alk tT_readNumber 39 = some (.getfield 19, 3) := rfl
theorem pT_readNumber_42 : alk tT_readNumber 42 = some (.iaload, 1) := rfl
theorem pT_readNumber_43 : alk tT_readNumber 43 = some (.bipush 57, 2) := rfl
theorem pT_readNumber_45 : alk tT_readNumber 45 = some (.if_icmp .le 5, 3) := rfl
theorem pT_readNumber_48 : alk tT_readNumber 48 = some (.iload_n 1, 1) := rfl
theorem pT_readNumber_49 : alk tT_readNumber 49 = some (.ireturn, 1) := rfl
theorem pT_readNumber_50 : alk tT_readNumber 50 = some (.iconst 0, 1) := rfl
theorem pT_readNumber_51 : alk tT_readNumber 51 = some (.iload_n 1, 1) := rfl
theorem pT_readNumber_52 : alk tT_readNumber 52 = some (.invokestatic 77, 3) := rfl
theorem pT_readNumber_55 : alk tT_readNumber 55 = some (.bipush 10, 2) := rfl
theorem pT_readNumber_57 : alk tT_readNumber 57 = some (.imul, 1) := rfl
theorem pT_readNumber_58 : alk tT_readNumber 58 = some (.aload_n 0, 1) := rfl
theorem pT_readNumber_59 : alk tT_readNumber 59 = some (.getfield 9, 3) := rfl
theorem pT_readNumber_62 : alk tT_readNumber 62 = some (.aload_n 0, 1) := rfl
theorem pT_readNumber_63 : alk tT_readNumber 63 = some (.getfield 19, 3) := rfl
theorem pT_readNumber_66 : alk tT_readNumber 66 = some (.iaload, 1) := rfl
theorem pT_readNumber_67 : alk tT_readNumber 67 = some (.iadd, 1) := rfl
theorem pT_readNumber_68 : alk tT_readNumber 68 = some (.bipush 48, 2) := rfl
theorem pT_readNumber_70 : alk tT_readNumber 70 = some (.isub, 1) := rfl
theorem pT_readNumber_71 : alk tT_readNumber 71 = some (.istore_n 1, 1) := rfl
theorem pT_readNumber_72 : alk tT_readNumber 72 = some (.aload_n 0, 1) := rfl
theorem pT_readNumber_73 : alk tT_readNumber 73 = some (.dup, 1) := rfl
theorem pT_readNumber_74 : alk tT_readNumber 74 = some (.getfield 19, 3) := rfl
theorem pT_readNumber_77 : alk tT_readNumber 77 = some (.iconst 1, 1) := rfl
theorem pT_readNumber_78 : alk tT_readNumber 78 = some (.iadd, 1) := rfl
theorem pT_readNumber_79 : alk tT_readNumber 79 = some (.putfield 19, 3) := rfl
theorem pT_readNumber_82 : alk tT_readNumber 82 = some (.iinc 2 1, 3) := rfl
theorem pT_readNumber_85 : alk tT_readNumber 85 = some (.goto (-81), 3) := rfl
theorem pT_readNumber_88 : alk tT_readNumber 88 = some (.iload_n 1, 1) := rfl
theorem pT_readNumber_89 : alk tT_readNumber 89 = some (.ireturn, 1) := rfl
def tT_readTests : TB := [(0, .iconst 0, 1), (1, .istore_n 2, 1), (2, .iload_n 2, 1), (3, .iconst 3, 1), (4, .if_icmp .ge 50, 3), (7, .aload_n 0, 1), (8, .aload_n 1, 1), (9, .invokevirtual 52, 3), (12, .ifCond .ne 5, 3), (15, .iconst 0, 1), (16, .ireturn, 1), (17, .aload_n 0, 1), (18, .getfield 19, 3), (21, .aload_n 0, 1), (22, .getfield 15, 3), (25, .if_icmp .ne 5, 3), (28, .iconst 1, 1), (29, .ireturn, 1), (30, .iload_n 2, 1), (31, .iconst 1, 1), (32, .iadd, 1), (33, .iconst 3, 1), (34, .if_icmp .ge 14, 3), (37, .aload_n 0, 1), (38, .ldc 55, 2), (40, .invokevirtual 44, 3), (43, .ifCond .ne 5, 3), (46, .iconst 0, 1), (47, .ireturn, 1), (48, .iinc 2 1, 3), (51, .goto (-49), 3), (54, .iconst 0, 1), (55, .ireturn, 1)]
set_option maxRecDepth 100000 in
theorem kT_readTests : tbOk (mB mT_readTests) tT_readTests = true := by decide +kernel
theorem pT_readTests_0 : alk tT_readTests 0 = some (.iconst 0, 1) := rfl
theorem pT_readTests_1 : alk tT_readTests 1 = some (.istore_n 2, 1) := rfl
theorem pT_readTests_2 : alk tT_readTests 2 = some (.iload_n 2, 1) := rfl
theorem pT_readTests_3 : alk tT_readTests 3 = some (.iconst 3, 1) := rfl
theorem pT_readTests_4 : alk tT_readTests 4 = some (.if_icmp .ge 50, 3) := rfl
theorem pT_readTests_7 : alk tT_readTests 7 = some (.aload_n 0, 1) := rfl
theorem pT_readTests_8 : alk tT_readTests 8 = some (.aload_n 1, 1) := rfl
theorem pT_readTests_9 : alk tT_readTests 9 = some (.invokevirtual 52, 3) := rfl
theorem pT_readTests_12 : alk tT_readTests 12 = some (.ifCond .ne 5, 3) := rfl
theorem pT_readTests_15 : alk tT_readTests 15 = some (.iconst 0, 1) := rfl
theorem pT_readTests_16 : alk tT_readTests 16 = some (.ireturn, 1) := rfl
theorem pT_readTests_17 : alk tT_readTests 17 = some (.aload_n 0, 1) := rfl
theorem pT_readTests_18 : alk tT_readTests 18 = some (.getfield 19, 3) := rfl
theorem pT_readTests_21 : alk tT_readTests 21 = some (.aload_n 0, 1) := rfl
theorem pT_readTests_22 : alk tT_readTests 22 = some (.getfield 15, 3) := rfl
theorem pT_readTests_25 : alk tT_readTests 25 = some (.if_icmp .ne 5, 3) := rfl
theorem pT_readTests_28 : alk tT_readTests 28 = some (.iconst 1, 1) := rfl
theorem pT_readTests_29 : alk tT_readTests 29 = some (.ireturn, 1) := rfl
theorem pT_readTests_30 : alk tT_readTests 30 = some (.iload_n 2, 1) := rfl
theorem pT_readTests_31 : alk tT_readTests 31 = some (.iconst 1, 1) := rfl
theorem pT_readTests_32 : alk tT_readTests 32 = some (.iadd, 1) := rfl
theorem pT_readTests_33 : alk tT_readTests 33 = some (.iconst 3, 1) := rfl
theorem pT_readTests_34 : alk tT_readTests 34 = some (.if_icmp .ge 14, 3) := rfl
theorem pT_readTests_37 : alk tT_readTests 37 = some (.aload_n 0, 1) := rfl
theorem pT_readTests_38 : alk tT_readTests 38 = some (.ldc 55, 2) := rfl
theorem pT_readTests_40 : alk tT_readTests 40 = some (.invokevirtual 44, 3) := rfl
theorem pT_readTests_43 : alk tT_readTests 43 = some (.ifCond .ne 5, 3) := rfl
theorem pT_readTests_46 : alk tT_readTests 46 = some (.iconst 0, 1) := rfl
theorem pT_readTests_47 : alk tT_readTests 47 = some (.ireturn, 1) := rfl
theorem pT_readTests_48 : alk tT_readTests 48 = some (.iinc 2 1, 3) := rfl
theorem pT_readTests_51 : alk tT_readTests 51 = some (.goto (-49), 3) := rfl
theorem pT_readTests_54 : alk tT_readTests 54 = some (.iconst 0, 1) := rfl
theorem pT_readTests_55 : alk tT_readTests 55 = some (.ireturn, 1) := rfl
def tT_readTest : TB := [(0, .aload_n 0, 1), (1, .bipush 33, 2), (3, .invokevirtual 31, 3), (6, .istore_n 2, 1), (7, .aload_n 0, 1), (8, .iconst 0, 1), (9, .invokevirtual 22, 3), (12, .istore_n 3, 1), (13, .iload_n 3, 1), (14, .iconst (-1), 1), (15, .if_icmp .ne 5, 3), (18, .iconst 0, 1), (19, .ireturn, 1), (20, .aload_n 0, 1), (21, .getfield 19, 3), (24, .aload_n 0, 1), (25, .getfield 15, 3), (28, .if_icmp .ge 15, 3), (31, .aload_n 0, 1), (32, .getfield 9, 3), (35, .aload_n 0, 1), (36, .getfield 19, 3), (39, .iaload, 1), (40, .goto 4, 3), (43, .iconst (-1), 1), (44, .istore 4, 2), (46, .aload_n 0, 1), (47, .bipush 61, 2), (49, .invokevirtual 31, 3), (52, .ifCond .ne 23, 3), (55, .aload_n 0, 1), (56, .bipush 60, 2), (58, .invokevirtual 31, 3), (61, .ifCond .ne 14, 3), (64, .aload_n 0, 1), (65, .bipush 62, 2), (67, .invokevirtual 31, 3), (70, .ifCond .ne 5, 3), (73, .iconst 0, 1), (74, .ireturn, 1), (75, .aload_n 0, 1), (76, .invokevirtual 35, 3), (79, .istore 5, 2), (81, .iload 5, 2), (83, .iconst (-1), 1), (84, .if_icmp .ne 5, 3), (87, .iconst 0, 1), (88, .ireturn, 1), (89, .aload_n 1, 1), (90, .iload_n 2, 1), (91, .iload_n 3, 1), (92, .iload 4, 2), (94, .iload 5, 2), (96, .invokevirtual 57, 3), (99, .iconst 1, 1), (100, .ireturn, 1)]
set_option maxRecDepth 100000 in
theorem kT_readTest : tbOk (mB mT_readTest) tT_readTest = true := by decide +kernel
theorem pT_readTest_0 : alk tT_readTest 0 = some (.aload_n 0, 1) := rfl
theorem pT_readTest_1 : alk tT_readTest 1 = some (.bipush 33, 2) := rfl
theorem pT_readTest_3 : alk tT_readTest 3 = some (.invokevirtual 31, 3) := rfl
theorem pT_readTest_6 : alk tT_readTest 6 = some (.istore_n 2, 1) := rfl
theorem pT_readTest_7 : alk tT_readTest 7 = some (.aload_n 0, 1) := rfl
theorem pT_readTest_8 : alk tT_readTest 8 = some (.iconst 0, 1) := rfl
theorem pT_readTest_9 : alk tT_readTest 9 = some (.invokevirtual 22, 3) := rfl
theorem pT_readTest_12 : alk tT_readTest 12 = some (.istore_n 3, 1) := rfl
theorem pT_readTest_13 : alk tT_readTest 13 = some (.iload_n 3, 1) := rfl
theorem pT_readTest_14 : alk tT_readTest 14 = some (.iconst (-1), 1) := rfl
theorem pT_readTest_15 : alk tT_readTest 15 = some (.if_icmp .ne 5, 3) := rfl
theorem pT_readTest_18 : alk tT_readTest 18 = some (.iconst 0, 1) := rfl
theorem pT_readTest_19 : alk tT_readTest 19 = some (.ireturn, 1) := rfl
theorem pT_readTest_20 : alk tT_readTest 20 = some (.aload_n 0, 1) := rfl
theorem pT_readTest_21 : alk tT_readTest 21 = some (.getfield 19, 3) := rfl
theorem pT_readTest_24 : alk tT_readTest 24 = some (.aload_n 0, 1) := rfl
theorem pT_readTest_25 : alk tT_readTest 25 = some (.getfield 15, 3) := rfl
theorem pT_readTest_28 : alk tT_readTest 28 = some (.if_icmp .ge 15, 3) := rfl
theorem pT_readTest_31 : alk tT_readTest 31 = some (.aload_n 0, 1) := rfl
theorem pT_readTest_32 : alk tT_readTest 32 = some (.getfield 9, 3) := rfl
theorem pT_readTest_35 : alk tT_readTest 35 = some (.aload_n 0, 1) := rfl
theorem pT_readTest_36 : alk tT_readTest 36 = some (.getfield 19, 3) := rfl
theorem pT_readTest_39 : alk tT_readTest 39 = some (.iaload, 1) := rfl
theorem pT_readTest_40 : alk tT_readTest 40 = some (.goto 4, 3) := rfl
theorem pT_readTest_43 : alk tT_readTest 43 = some (.iconst (-1), 1) := rfl
theorem pT_readTest_44 : alk tT_readTest 44 = some (.istore 4, 2) := rfl
theorem pT_readTest_46 : alk tT_readTest 46 = some (.aload_n 0, 1) := rfl
theorem pT_readTest_47 : alk tT_readTest 47 = some (.bipush 61, 2) := rfl
theorem pT_readTest_49 : alk tT_readTest 49 = some (.invokevirtual 31, 3) := rfl
theorem pT_readTest_52 : alk tT_readTest 52 = some (.ifCond .ne 23, 3) := rfl
theorem pT_readTest_55 : alk tT_readTest 55 = some (.aload_n 0, 1) := rfl
theorem pT_readTest_56 : alk tT_readTest 56 = some (.bipush 60, 2) := rfl
theorem pT_readTest_58 : alk tT_readTest 58 = some (.invokevirtual 31, 3) := rfl
theorem pT_readTest_61 : alk tT_readTest 61 = some (.ifCond .ne 14, 3) := rfl
theorem pT_readTest_64 : alk tT_readTest 64 = some (.aload_n 0, 1) := rfl
theorem pT_readTest_65 : alk tT_readTest 65 = some (.bipush 62, 2) := rfl
theorem pT_readTest_67 : alk tT_readTest 67 = some (.invokevirtual 31, 3) := rfl
theorem pT_readTest_70 : alk tT_readTest 70 = some (.ifCond .ne 5, 3) := rfl
theorem pT_readTest_73 : alk tT_readTest 73 = some (.iconst 0, 1) := rfl
theorem pT_readTest_74 : alk tT_readTest 74 = some (.ireturn, 1) := rfl
theorem pT_readTest_75 : alk tT_readTest 75 = some (.aload_n 0, 1) := rfl
theorem pT_readTest_76 : alk tT_readTest 76 = some (.invokevirtual 35, 3) := rfl
theorem pT_readTest_79 : alk tT_readTest 79 = some (.istore 5, 2) := rfl
theorem pT_readTest_81 : alk tT_readTest 81 = some (.iload 5, 2) := rfl
theorem pT_readTest_83 : alk tT_readTest 83 = some (.iconst (-1), 1) := rfl
theorem pT_readTest_84 : alk tT_readTest 84 = some (.if_icmp .ne 5, 3) := rfl
theorem pT_readTest_87 : alk tT_readTest 87 = some (.iconst 0, 1) := rfl
theorem pT_readTest_88 : alk tT_readTest 88 = some (.ireturn, 1) := rfl
theorem pT_readTest_89 : alk tT_readTest 89 = some (.aload_n 1, 1) := rfl
theorem pT_readTest_90 : alk tT_readTest 90 = some (.iload_n 2, 1) := rfl
theorem pT_readTest_91 : alk tT_readTest 91 = some (.iload_n 3, 1) := rfl
theorem pT_readTest_92 : alk tT_readTest 92 = some (.iload 4, 2) := rfl
theorem pT_readTest_94 : alk tT_readTest 94 = some (.iload 5, 2) := rfl
theorem pT_readTest_96 : alk tT_readTest 96 = some (.invokevirtual 57, 3) := rfl
theorem pT_readTest_99 : alk tT_readTest 99 = some (.iconst 1, 1) := rfl
theorem pT_readTest_100 : alk tT_readTest 100 = some (.ireturn, 1) := rfl
def tU_addTest : TB := [(0, .aload_n 0, 1), (1, .getfield 25, 3), (4, .iconst 3, 1), (5, .if_icmp .ge 54, 3), (8, .aload_n 0, 1), (9, .getfield 9, 3), (12, .aload_n 0, 1), (13, .getfield 25, 3), (16, .iload_n 1, 1), (17, .bastore, 1), (18, .aload_n 0, 1), (19, .getfield 15, 3), (22, .aload_n 0, 1), (23, .getfield 25, 3), (26, .iload_n 2, 1), (27, .iastore, 1), (28, .aload_n 0, 1), (29, .getfield 19, 3), (32, .aload_n 0, 1), (33, .getfield 25, 3), (36, .iload_n 3, 1), (37, .iastore, 1), (38, .aload_n 0, 1), (39, .getfield 22, 3), (42, .aload_n 0, 1), (43, .getfield 25, 3), (46, .iload 4, 2), (48, .iastore, 1), (49, .aload_n 0, 1), (50, .dup, 1), (51, .getfield 25, 3), (54, .iconst 1, 1), (55, .iadd, 1), (56, .putfield 25, 3), (59, .return_, 1)]
set_option maxRecDepth 100000 in
theorem kU_addTest : tbOk (mB mU_addTest) tU_addTest = true := by decide +kernel
theorem pU_addTest_0 : alk tU_addTest 0 = some (.aload_n 0, 1) := rfl
theorem pU_addTest_1 : alk tU_addTest 1 = some (.getfield 25, 3) := rfl
theorem pU_addTest_4 : alk tU_addTest 4 = some (.iconst 3, 1) := rfl
theorem pU_addTest_5 : alk tU_addTest 5 = some (.if_icmp .ge 54, 3) := rfl
theorem pU_addTest_8 : alk tU_addTest 8 = some (.aload_n 0, 1) := rfl
theorem pU_addTest_9 : alk tU_addTest 9 = some (.getfield 9, 3) := rfl
theorem pU_addTest_12 : alk tU_addTest 12 = some (.aload_n 0, 1) := rfl
theorem pU_addTest_13 : alk tU_addTest 13 = some (.getfield 25, 3) := rfl
theorem pU_addTest_16 : alk tU_addTest 16 = some (.iload_n 1, 1) := rfl
theorem pU_addTest_17 : alk tU_addTest 17 = some (.bastore, 1) := rfl
theorem pU_addTest_18 : alk tU_addTest 18 = some (.aload_n 0, 1) := rfl
theorem pU_addTest_19 : alk tU_addTest 19 = some (.getfield 15, 3) := rfl
theorem pU_addTest_22 : alk tU_addTest 22 = some (.aload_n 0, 1) := rfl
theorem pU_addTest_23 : alk tU_addTest 23 = some (.getfield 25, 3) := rfl
theorem pU_addTest_26 : alk tU_addTest 26 = some (.iload_n 2, 1) := rfl
theorem pU_addTest_27 : alk tU_addTest 27 = some (.iastore, 1) := rfl
theorem pU_addTest_28 : alk tU_addTest 28 = some (.aload_n 0, 1) := rfl
theorem pU_addTest_29 : alk tU_addTest 29 = some (.getfield 19, 3) := rfl
theorem pU_addTest_32 : alk tU_addTest 32 = some (.aload_n 0, 1) := rfl
theorem pU_addTest_33 : alk tU_addTest 33 = some (.getfield 25, 3) := rfl
theorem pU_addTest_36 : alk tU_addTest 36 = some (.iload_n 3, 1) := rfl
theorem pU_addTest_37 : alk tU_addTest 37 = some (.iastore, 1) := rfl
theorem pU_addTest_38 : alk tU_addTest 38 = some (.aload_n 0, 1) := rfl
theorem pU_addTest_39 : alk tU_addTest 39 = some (.getfield 22, 3) := rfl
theorem pU_addTest_42 : alk tU_addTest 42 = some (.aload_n 0, 1) := rfl
theorem pU_addTest_43 : alk tU_addTest 43 = some (.getfield 25, 3) := rfl
theorem pU_addTest_46 : alk tU_addTest 46 = some (.iload 4, 2) := rfl
theorem pU_addTest_48 : alk tU_addTest 48 = some (.iastore, 1) := rfl
theorem pU_addTest_49 : alk tU_addTest 49 = some (.aload_n 0, 1) := rfl
theorem pU_addTest_50 : alk tU_addTest 50 = some (.dup, 1) := rfl
theorem pU_addTest_51 : alk tU_addTest 51 = some (.getfield 25, 3) := rfl
theorem pU_addTest_54 : alk tU_addTest 54 = some (.iconst 1, 1) := rfl
theorem pU_addTest_55 : alk tU_addTest 55 = some (.iadd, 1) := rfl
theorem pU_addTest_56 : alk tU_addTest 56 = some (.putfield 25, 3) := rfl
theorem pU_addTest_59 : alk tU_addTest 59 = some (.return_, 1) := rfl
def tS_holds : TB := [(0, .aload_n 0, 1), (1, .iload_n 2, 1), (2, .invokevirtual 141, 3), (5, .astore 4, 2), (7, .iload_n 1, 1), (8, .ifCond .lt 31, 3), (11, .iload_n 1, 1), (12, .aload_n 0, 1), (13, .getfield 33, 3), (16, .getfield 260, 3), (19, .invokevirtual 96, 3), (22, .if_icmp .ge 17, 3), (25, .aload 4, 2), (27, .ifnull 12, 3), (30, .iload_n 3, 1), (31, .iconst (-1), 1), (32, .iconst 4, 1), (33, .invokestatic 75, 3), (36, .ifCond .ne 10, 3), (39, .aload_n 0, 1), (40, .bipush (-3), 2), (42, .invokevirtual 79, 3), (45, .ireturn, 1), (46, .aload_n 0, 1), (47, .getfield 33, 3), (50, .getfield 260, 3), (53, .iload_n 1, 1), (54, .invokevirtual 277, 3), (57, .checkcast 263, 3), (60, .aload 4, 2), (62, .iload_n 3, 1), (63, .aload_n 0, 1), (64, .getfield 71, 3), (67, .invokevirtual 281, 3), (70, .ifCond .eq 7, 3), (73, .iconst 1, 1), (74, .goto 4, 3), (77, .iconst 0, 1), (78, .ireturn, 1)]
set_option maxRecDepth 100000 in
theorem kS_holds : tbOk (mB mS_holds) tS_holds = true := by decide +kernel
theorem pS_holds_0 : alk tS_holds 0 = some (.aload_n 0, 1) := rfl
theorem pS_holds_1 : alk tS_holds 1 = some (.iload_n 2, 1) := rfl
theorem pS_holds_2 : alk tS_holds 2 = some (.invokevirtual 141, 3) := rfl
theorem pS_holds_5 : alk tS_holds 5 = some (.astore 4, 2) := rfl
theorem pS_holds_7 : alk tS_holds 7 = some (.iload_n 1, 1) := rfl
theorem pS_holds_8 : alk tS_holds 8 = some (.ifCond .lt 31, 3) := rfl
theorem pS_holds_11 : alk tS_holds 11 = some (.iload_n 1, 1) := rfl
theorem pS_holds_12 : alk tS_holds 12 = some (.aload_n 0, 1) := rfl
theorem pS_holds_13 : alk tS_holds 13 = some (.getfield 33, 3) := rfl
theorem pS_holds_16 : alk tS_holds 16 = some (.getfield 260, 3) := rfl
theorem pS_holds_19 : alk tS_holds 19 = some (.invokevirtual 96, 3) := rfl
theorem pS_holds_22 : alk tS_holds 22 = some (.if_icmp .ge 17, 3) := rfl
theorem pS_holds_25 : alk tS_holds 25 = some (.aload 4, 2) := rfl
theorem pS_holds_27 : alk tS_holds 27 = some (.ifnull 12, 3) := rfl
theorem pS_holds_30 : alk tS_holds 30 = some (.iload_n 3, 1) := rfl
theorem pS_holds_31 : alk tS_holds 31 = some (.iconst (-1), 1) := rfl
theorem pS_holds_32 : alk tS_holds 32 = some (.iconst 4, 1) := rfl
theorem pS_holds_33 : alk tS_holds 33 = some (.invokestatic 75, 3) := rfl
theorem pS_holds_36 : alk tS_holds 36 = some (.ifCond .ne 10, 3) := rfl
theorem pS_holds_39 : alk tS_holds 39 = some (.aload_n 0, 1) := rfl
theorem pS_holds_40 : alk tS_holds 40 = some (.bipush (-3), 2) := rfl
theorem pS_holds_42 : alk tS_holds 42 = some (.invokevirtual 79, 3) := rfl
theorem pS_holds_45 : alk tS_holds 45 = some (.ireturn, 1) := rfl
theorem pS_holds_46 : alk tS_holds 46 = some (.aload_n 0, 1) := rfl
theorem pS_holds_47 : alk tS_holds 47 = some (.getfield 33, 3) := rfl
theorem pS_holds_50 : alk tS_holds 50 = some (.getfield 260, 3) := rfl
theorem pS_holds_53 : alk tS_holds 53 = some (.iload_n 1, 1) := rfl
theorem pS_holds_54 : alk tS_holds 54 = some (.invokevirtual 277, 3) := rfl
theorem pS_holds_57 : alk tS_holds 57 = some (.checkcast 263, 3) := rfl
theorem pS_holds_60 : alk tS_holds 60 = some (.aload 4, 2) := rfl
theorem pS_holds_62 : alk tS_holds 62 = some (.iload_n 3, 1) := rfl
theorem pS_holds_63 : alk tS_holds 63 = some (.aload_n 0, 1) := rfl
theorem pS_holds_64 : alk tS_holds 64 = some (.getfield 71, 3) := rfl
theorem pS_holds_67 : alk tS_holds 67 = some (.invokevirtual 281, 3) := rfl
theorem pS_holds_70 : alk tS_holds 70 = some (.ifCond .eq 7, 3) := rfl
theorem pS_holds_73 : alk tS_holds 73 = some (.iconst 1, 1) := rfl
theorem pS_holds_74 : alk tS_holds 74 = some (.goto 4, 3) := rfl
theorem pS_holds_77 : alk tS_holds 77 = some (.iconst 0, 1) := rfl
theorem pS_holds_78 : alk tS_holds 78 = some (.ireturn, 1) := rfl
def tS_said : TB := [(0, .aload_n 0, 1), (1, .iload_n 1, 1), (2, .invokevirtual 141, 3), (5, .astore_n 3, 1), (6, .aload_n 3, 1), (7, .ifnonnull 10, 3), (10, .aload_n 0, 1), (11, .bipush (-3), 2), (13, .invokevirtual 79, 3), (16, .ireturn, 1), (17, .iload_n 2, 1), (18, .iconst 0, 1), (19, .iconst 2, 1), (20, .invokestatic 75, 3), (23, .ifCond .ne 10, 3), (26, .aload_n 0, 1), (27, .bipush (-7), 2), (29, .invokevirtual 79, 3), (32, .ireturn, 1), (33, .aload_n 0, 1), (34, .getfield 33, 3), (37, .iload_n 2, 1), (38, .aload_n 3, 1), (39, .iconst (-1), 1), (40, .aload_n 0, 1), (41, .getfield 71, 3), (44, .invokevirtual 285, 3), (47, .ireturn, 1)]
set_option maxRecDepth 100000 in
theorem kS_said : tbOk (mB mS_said) tS_said = true := by decide +kernel
theorem pS_said_0 : alk tS_said 0 = some (.aload_n 0, 1) := rfl
theorem pS_said_1 : alk tS_said 1 = some (.iload_n 1, 1) := rfl
theorem pS_said_2 : alk tS_said 2 = some (.invokevirtual 141, 3) := rfl
theorem pS_said_5 : alk tS_said 5 = some (.astore_n 3, 1) := rfl
theorem pS_said_6 : alk tS_said 6 = some (.aload_n 3, 1) := rfl
theorem pS_said_7 : alk tS_said 7 = some (.ifnonnull 10, 3) := rfl
theorem pS_said_10 : alk tS_said 10 = some (.aload_n 0, 1) := rfl
theorem pS_said_11 : alk tS_said 11 = some (.bipush (-3), 2) := rfl
theorem pS_said_13 : alk tS_said 13 = some (.invokevirtual 79, 3) := rfl
theorem pS_said_16 : alk tS_said 16 = some (.ireturn, 1) := rfl
theorem pS_said_17 : alk tS_said 17 = some (.iload_n 2, 1) := rfl
theorem pS_said_18 : alk tS_said 18 = some (.iconst 0, 1) := rfl
theorem pS_said_19 : alk tS_said 19 = some (.iconst 2, 1) := rfl
theorem pS_said_20 : alk tS_said 20 = some (.invokestatic 75, 3) := rfl
theorem pS_said_23 : alk tS_said 23 = some (.ifCond .ne 10, 3) := rfl
theorem pS_said_26 : alk tS_said 26 = some (.aload_n 0, 1) := rfl
theorem pS_said_27 : alk tS_said 27 = some (.bipush (-7), 2) := rfl
theorem pS_said_29 : alk tS_said 29 = some (.invokevirtual 79, 3) := rfl
theorem pS_said_32 : alk tS_said 32 = some (.ireturn, 1) := rfl
theorem pS_said_33 : alk tS_said 33 = some (.aload_n 0, 1) := rfl
theorem pS_said_34 : alk tS_said 34 = some (.getfield 33, 3) := rfl
theorem pS_said_37 : alk tS_said 37 = some (.iload_n 2, 1) := rfl
theorem pS_said_38 : alk tS_said 38 = some (.aload_n 3, 1) := rfl
theorem pS_said_39 : alk tS_said 39 = some (.iconst (-1), 1) := rfl
theorem pS_said_40 : alk tS_said 40 = some (.aload_n 0, 1) := rfl
theorem pS_said_41 : alk tS_said 41 = some (.getfield 71, 3) := rfl
theorem pS_said_44 : alk tS_said 44 = some (.invokevirtual 285, 3) := rfl
theorem pS_said_47 : alk tS_said 47 = some (.ireturn, 1) := rfl
def tS_see : TB := [(0, .aload_n 0, 1), (1, .iload_n 2, 1), (2, .invokevirtual 141, 3), (5, .astore_n 3, 1), (6, .iload_n 1, 1), (7, .invokestatic 289, 3), (10, .ifCond .eq 7, 3), (13, .aload_n 3, 1), (14, .ifnonnull 10, 3), (17, .aload_n 0, 1), (18, .bipush (-3), 2), (20, .invokevirtual 79, 3), (23, .ireturn, 1), (24, .aload_n 0, 1), (25, .aload_n 3, 1), (26, .iconst 1, 1), (27, .invokevirtual 148, 3), (30, .ifCond .ne 10, 3), (33, .aload_n 0, 1), (34, .bipush (-7), 2), (36, .invokevirtual 79, 3), (39, .ireturn, 1), (40, .aload_n 3, 1), (41, .getfield 186, 3), (44, .iload_n 1, 1), (45, .invokevirtual 292, 3), (48, .ifCond .eq 5, 3), (51, .iconst 0, 1), (52, .ireturn, 1), (53, .aload_n 3, 1), (54, .getfield 186, 3), (57, .iload_n 1, 1), (58, .invokevirtual 295, 3), (61, .iconst 1, 1), (62, .ireturn, 1)]
set_option maxRecDepth 100000 in
theorem kS_see : tbOk (mB mS_see) tS_see = true := by decide +kernel
theorem pS_see_0 : alk tS_see 0 = some (.aload_n 0, 1) := rfl
theorem pS_see_1 : alk tS_see 1 = some (.iload_n 2, 1) := rfl
theorem pS_see_2 : alk tS_see 2 = some (.invokevirtual 141, 3) := rfl
theorem pS_see_5 : alk tS_see 5 = some (.astore_n 3, 1) := rfl
theorem pS_see_6 : alk tS_see 6 = some (.iload_n 1, 1) := rfl
theorem pS_see_7 : alk tS_see 7 = some (.invokestatic 289, 3) := rfl
theorem pS_see_10 : alk tS_see 10 = some (.ifCond .eq 7, 3) := rfl
theorem pS_see_13 : alk tS_see 13 = some (.aload_n 3, 1) := rfl
theorem pS_see_14 : alk tS_see 14 = some (.ifnonnull 10, 3) := rfl
theorem pS_see_17 : alk tS_see 17 = some (.aload_n 0, 1) := rfl
theorem pS_see_18 : alk tS_see 18 = some (.bipush (-3), 2) := rfl
theorem pS_see_20 : alk tS_see 20 = some (.invokevirtual 79, 3) := rfl
theorem pS_see_23 : alk tS_see 23 = some (.ireturn, 1) := rfl
theorem pS_see_24 : alk tS_see 24 = some (.aload_n 0, 1) := rfl
theorem pS_see_25 : alk tS_see 25 = some (.aload_n 3, 1) := rfl
theorem pS_see_26 : alk tS_see 26 = some (.iconst 1, 1) := rfl
theorem pS_see_27 : alk tS_see 27 = some (.invokevirtual 148, 3) := rfl
theorem pS_see_30 : alk tS_see 30 = some (.ifCond .ne 10, 3) := rfl
theorem pS_see_33 : alk tS_see 33 = some (.aload_n 0, 1) := rfl
theorem pS_see_34 : alk tS_see 34 = some (.bipush (-7), 2) := rfl
theorem pS_see_36 : alk tS_see 36 = some (.invokevirtual 79, 3) := rfl
theorem pS_see_39 : alk tS_see 39 = some (.ireturn, 1) := rfl
theorem pS_see_40 : alk tS_see 40 = some (.aload_n 3, 1) := rfl
theorem pS_see_41 : alk tS_see 41 = some (.getfield 186, 3) := rfl
theorem pS_see_44 : alk tS_see 44 = some (.iload_n 1, 1) := rfl
theorem pS_see_45 : alk tS_see 45 = some (.invokevirtual 292, 3) := rfl
theorem pS_see_48 : alk tS_see 48 = some (.ifCond .eq 5, 3) := rfl
theorem pS_see_51 : alk tS_see 51 = some (.iconst 0, 1) := rfl
theorem pS_see_52 : alk tS_see 52 = some (.ireturn, 1) := rfl
theorem pS_see_53 : alk tS_see 53 = some (.aload_n 3, 1) := rfl
theorem pS_see_54 : alk tS_see 54 = some (.getfield 186, 3) := rfl
theorem pS_see_57 : alk tS_see 57 = some (.iload_n 1, 1) := rfl
theorem pS_see_58 : alk tS_see 58 = some (.invokevirtual 295, 3) := rfl
theorem pS_see_61 : alk tS_see 61 = some (.iconst 1, 1) := rfl
theorem pS_see_62 : alk tS_see 62 = some (.ireturn, 1) := rfl
def tS_isBuyer : TB := [(0, .iload_n 0, 1), (1, .iconst 0, 1), (2, .iconst 4, 1), (3, .invokestatic 75, 3), (6, .ireturn, 1)]
set_option maxRecDepth 100000 in
theorem kS_isBuyer : tbOk (mB mS_isBuyer) tS_isBuyer = true := by decide +kernel
theorem pS_isBuyer_0 : alk tS_isBuyer 0 = some (.iload_n 0, 1) := rfl
theorem pS_isBuyer_1 : alk tS_isBuyer 1 = some (.iconst 0, 1) := rfl
theorem pS_isBuyer_2 : alk tS_isBuyer 2 = some (.iconst 4, 1) := rfl
theorem pS_isBuyer_3 : alk tS_isBuyer 3 = some (.invokestatic 75, 3) := rfl
theorem pS_isBuyer_6 : alk tS_isBuyer 6 = some (.ireturn, 1) := rfl
def tE_wasSeenBy : TB := [(0, .iload_n 1, 1), (1, .invokestatic 47, 3), (4, .ifCond .eq 18, 3), (7, .aload_n 0, 1), (8, .getfield 22, 3), (11, .iload_n 1, 1), (12, .invokestatic 51, 3), (15, .ifCond .eq 7, 3), (18, .iconst 1, 1), (19, .goto 4, 3), (22, .iconst 0, 1), (23, .ireturn, 1)]
set_option maxRecDepth 100000 in
theorem kE_wasSeenBy : tbOk (mB mE_wasSeenBy) tE_wasSeenBy = true := by decide +kernel
theorem pE_wasSeenBy_0 : alk tE_wasSeenBy 0 = some (.iload_n 1, 1) := rfl
theorem pE_wasSeenBy_1 : alk tE_wasSeenBy 1 = some (.invokestatic 47, 3) := rfl
theorem pE_wasSeenBy_4 : alk tE_wasSeenBy 4 = some (.ifCond .eq 18, 3) := rfl
theorem pE_wasSeenBy_7 : alk tE_wasSeenBy 7 = some (.aload_n 0, 1) := rfl
theorem pE_wasSeenBy_8 : alk tE_wasSeenBy 8 = some (.getfield 22, 3) := rfl
theorem pE_wasSeenBy_11 : alk tE_wasSeenBy 11 = some (.iload_n 1, 1) := rfl
theorem pE_wasSeenBy_12 : alk tE_wasSeenBy 12 = some (.invokestatic 51, 3) := rfl
theorem pE_wasSeenBy_15 : alk tE_wasSeenBy 15 = some (.ifCond .eq 7, 3) := rfl
theorem pE_wasSeenBy_18 : alk tE_wasSeenBy 18 = some (.iconst 1, 1) := rfl
theorem pE_wasSeenBy_19 : alk tE_wasSeenBy 19 = some (.goto 4, 3) := rfl
theorem pE_wasSeenBy_22 : alk tE_wasSeenBy 22 = some (.iconst 0, 1) := rfl
theorem pE_wasSeenBy_23 : alk tE_wasSeenBy 23 = some (.ireturn, 1) := rfl
def tE_show : TB := [(0, .iload_n 1, 1), (1, .invokestatic 47, 3), (4, .ifCond .eq 15, 3), (7, .aload_n 0, 1), (8, .dup, 1), (9, .getfield 22, 3), (12, .iconst 1, 1), (13, .iload_n 1, 1), (14, .ishl, 1), (15, .ior, 1), (16, .putfield 22, 3), (19, .return_, 1)]
set_option maxRecDepth 100000 in
theorem kE_show : tbOk (mB mE_show) tE_show = true := by decide +kernel
theorem pE_show_0 : alk tE_show 0 = some (.iload_n 1, 1) := rfl
theorem pE_show_1 : alk tE_show 1 = some (.invokestatic 47, 3) := rfl
theorem pE_show_4 : alk tE_show 4 = some (.ifCond .eq 15, 3) := rfl
theorem pE_show_7 : alk tE_show 7 = some (.aload_n 0, 1) := rfl
theorem pE_show_8 : alk tE_show 8 = some (.dup, 1) := rfl
theorem pE_show_9 : alk tE_show 9 = some (.getfield 22, 3) := rfl
theorem pE_show_12 : alk tE_show 12 = some (.iconst 1, 1) := rfl
theorem pE_show_13 : alk tE_show 13 = some (.iload_n 1, 1) := rfl
theorem pE_show_14 : alk tE_show 14 = some (.ishl, 1) := rfl
theorem pE_show_15 : alk tE_show 15 = some (.ior, 1) := rfl
theorem pE_show_16 : alk tE_show 16 = some (.putfield 22, 3) := rfl
theorem pE_show_19 : alk tE_show 19 = some (.return_, 1) := rfl
def tS_bid : TB := [(0, .aload_n 0, 1), (1, .iload_n 2, 1), (2, .invokevirtual 141, 3), (5, .astore 4, 2), (7, .iload_n 1, 1), (8, .invokestatic 289, 3), (11, .ifCond .eq 8, 3), (14, .aload 4, 2), (16, .ifnonnull 10, 3), (19, .aload_n 0, 1), (20, .bipush (-3), 2), (22, .invokevirtual 79, 3), (25, .ireturn, 1), (26, .aload 4, 2), (28, .getfield 145, 3), (31, .ifCond .eq 10, 3), (34, .aload_n 0, 1), (35, .bipush (-5), 2), (37, .invokevirtual 79, 3), (40, .ireturn, 1), (41, .iload_n 3, 1), (42, .iconst 1, 1), (43, .sipush 9999, 3), (46, .invokestatic 75, 3), (49, .ifCond .eq 25, 3), (52, .aload 4, 2), (54, .getfield 186, 3), (57, .iload_n 1, 1), (58, .invokevirtual 292, 3), (61, .ifCond .eq 13, 3), (64, .aload_n 0, 1), (65, .aload 4, 2), (67, .iconst 1, 1), (68, .invokevirtual 148, 3), (71, .ifCond .ne 10, 3), (74, .aload_n 0, 1), (75, .bipush (-7), 2), (77, .invokevirtual 79, 3), (80, .ireturn, 1), (81, .aload 4, 2), (83, .getfield 186, 3), (86, .invokevirtual 217, 3), (89, .ifCond .ne 20, 3), (92, .aload_n 0, 1), (93, .getfield 33, 3), (96, .iload_n 1, 1), (97, .aload 4, 2), (99, .aload_n 0, 1), (100, .getfield 71, 3), (103, .invokevirtual 298, 3), (106, .ifCond .eq 10, 3), (109, .aload_n 0, 1), (110, .bipush (-7), 2), (112, .invokevirtual 79, 3), (115, .ireturn, 1), (116, .aload 4, 2), (118, .getfield 186, 3), (121, .iload_n 1, 1), (122, .iload_n 3, 1), (123, .invokevirtual 302, 3), (126, .aload 4, 2), (128, .getfield 186, 3), (131, .invokevirtual 305, 3), (134, .ireturn, 1)]
set_option maxRecDepth 100000 in
theorem kS_bid : tbOk (mB mS_bid) tS_bid = true := by decide +kernel
theorem pS_bid_0 : alk tS_bid 0 = some (.aload_n 0, 1) := rfl
theorem pS_bid_1 : alk tS_bid 1 = some (.iload_n 2, 1) := rfl
theorem pS_bid_2 : alk tS_bid 2 = some (.invokevirtual 141, 3) := rfl
theorem pS_bid_5 : alk tS_bid 5 = some (.astore 4, 2) := rfl
theorem pS_bid_7 : alk tS_bid 7 = some (.iload_n 1, 1) := rfl
theorem pS_bid_8 : alk tS_bid 8 = some (.invokestatic 289, 3) := rfl
theorem pS_bid_11 : alk tS_bid 11 = some (.ifCond .eq 8, 3) := rfl
theorem pS_bid_14 : alk tS_bid 14 = some (.aload 4, 2) := rfl
theorem pS_bid_16 : alk tS_bid 16 = some (.ifnonnull 10, 3) := rfl
theorem pS_bid_19 : alk tS_bid 19 = some (.aload_n 0, 1) := rfl
theorem pS_bid_20 : alk tS_bid 20 = some (.bipush (-3), 2) := rfl
theorem pS_bid_22 : alk tS_bid 22 = some (.invokevirtual 79, 3) := rfl
theorem pS_bid_25 : alk tS_bid 25 = some (.ireturn, 1) := rfl
theorem pS_bid_26 : alk tS_bid 26 = some (.aload 4, 2) := rfl
theorem pS_bid_28 : alk tS_bid 28 = some (.getfield 145, 3) := rfl
theorem pS_bid_31 : alk tS_bid 31 = some (.ifCond .eq 10, 3) := rfl
theorem pS_bid_34 : alk tS_bid 34 = some (.aload_n 0, 1) := rfl
theorem pS_bid_35 : alk tS_bid 35 = some (.bipush (-5), 2) := rfl
theorem pS_bid_37 : alk tS_bid 37 = some (.invokevirtual 79, 3) := rfl
theorem pS_bid_40 : alk tS_bid 40 = some (.ireturn, 1) := rfl
theorem pS_bid_41 : alk tS_bid 41 = some (.iload_n 3, 1) := rfl
theorem pS_bid_42 : alk tS_bid 42 = some (.iconst 1, 1) := rfl
theorem pS_bid_43 : alk tS_bid 43 = some (.sipush 9999, 3) := rfl
theorem pS_bid_46 : alk tS_bid 46 = some (.invokestatic 75, 3) := rfl
theorem pS_bid_49 : alk tS_bid 49 = some (.ifCond .eq 25, 3) := rfl
theorem pS_bid_52 : alk tS_bid 52 = some (.aload 4, 2) := rfl
theorem pS_bid_54 : alk tS_bid 54 = some (.getfield 186, 3) := rfl
theorem pS_bid_57 : alk tS_bid 57 = some (.iload_n 1, 1) := rfl
theorem pS_bid_58 : alk tS_bid 58 = some (.invokevirtual 292, 3) := rfl
theorem pS_bid_61 : alk tS_bid 61 = some (.ifCond .eq 13, 3) := rfl
theorem pS_bid_64 : alk tS_bid 64 = some (.aload_n 0, 1) := rfl
theorem pS_bid_65 : alk tS_bid 65 = some (.aload 4, 2) := rfl
theorem pS_bid_67 : alk tS_bid 67 = some (.iconst 1, 1) := rfl
theorem pS_bid_68 : alk tS_bid 68 = some (.invokevirtual 148, 3) := rfl
theorem pS_bid_71 : alk tS_bid 71 = some (.ifCond .ne 10, 3) := rfl
theorem pS_bid_74 : alk tS_bid 74 = some (.aload_n 0, 1) := rfl
theorem pS_bid_75 : alk tS_bid 75 = some (.bipush (-7), 2) := rfl
theorem pS_bid_77 : alk tS_bid 77 = some (.invokevirtual 79, 3) := rfl
theorem pS_bid_80 : alk tS_bid 80 = some (.ireturn, 1) := rfl
theorem pS_bid_81 : alk tS_bid 81 = some (.aload 4, 2) := rfl
theorem pS_bid_83 : alk tS_bid 83 = some (.getfield 186, 3) := rfl
theorem pS_bid_86 : alk tS_bid 86 = some (.invokevirtual 217, 3) := rfl
theorem pS_bid_89 : alk tS_bid 89 = some (.ifCond .ne 20, 3) := rfl
theorem pS_bid_92 : alk tS_bid 92 = some (.aload_n 0, 1) := rfl
theorem pS_bid_93 : alk tS_bid 93 = some (.getfield 33, 3) := rfl
theorem pS_bid_96 : alk tS_bid 96 = some (.iload_n 1, 1) := rfl
theorem pS_bid_97 : alk tS_bid 97 = some (.aload 4, 2) := rfl
theorem pS_bid_99 : alk tS_bid 99 = some (.aload_n 0, 1) := rfl
theorem pS_bid_100 : alk tS_bid 100 = some (.getfield 71, 3) := rfl
theorem pS_bid_103 : alk tS_bid 103 = some (.invokevirtual 298, 3) := rfl
theorem pS_bid_106 : alk tS_bid 106 = some (.ifCond .eq 10, 3) := rfl
theorem pS_bid_109 : alk tS_bid 109 = some (.aload_n 0, 1) := rfl
theorem pS_bid_110 : alk tS_bid 110 = some (.bipush (-7), 2) := rfl
theorem pS_bid_112 : alk tS_bid 112 = some (.invokevirtual 79, 3) := rfl
theorem pS_bid_115 : alk tS_bid 115 = some (.ireturn, 1) := rfl
theorem pS_bid_116 : alk tS_bid 116 = some (.aload 4, 2) := rfl
theorem pS_bid_118 : alk tS_bid 118 = some (.getfield 186, 3) := rfl
theorem pS_bid_121 : alk tS_bid 121 = some (.iload_n 1, 1) := rfl
theorem pS_bid_122 : alk tS_bid 122 = some (.iload_n 3, 1) := rfl
theorem pS_bid_123 : alk tS_bid 123 = some (.invokevirtual 302, 3) := rfl
theorem pS_bid_126 : alk tS_bid 126 = some (.aload 4, 2) := rfl
set_option maxRecDepth 20000 in
theorem pS_bid_128 : alk tS_bid 128 = some (.getfield 186, 3) := rfl
set_option maxRecDepth 20000 in
theorem pS_bid_131 : alk tS_bid 131 = some (.invokevirtual 305, 3) := rfl
set_option maxRecDepth 20000 in
theorem pS_bid_134 : alk tS_bid 134 = some (.ireturn, 1) := rfl
def tB_bars : TB := [(0, .iconst 0, 1), (1, .istore 4, 2), (3, .iload 4, 2), (5, .aload_n 0, 1), (6, .getfield 12, 3), (9, .invokevirtual 18, 3), (12, .if_icmp .ge 54, 3), (15, .aload_n 0, 1), (16, .getfield 12, 3), (19, .iload 4, 2), (21, .invokevirtual 22, 3), (24, .checkcast 26, 3), (27, .astore 5, 2), (29, .aload 5, 2), (31, .getfield 28, 3), (34, .iconst 3, 1), (35, .if_icmp .ne 25, 3), (38, .aload 5, 2), (40, .getfield 36, 3), (43, .iload_n 1, 1), (44, .if_icmp .ne 16, 3), (47, .aload 5, 2), (49, .aload_n 2, 1), (50, .iload_n 1, 1), (51, .iload_n 3, 1), (52, .invokevirtual 32, 3), (55, .ifCond .eq 5, 3), (58, .iconst 1, 1), (59, .ireturn, 1), (60, .iinc 4 1, 3), (63, .goto (-60), 3), (66, .iconst 0, 1), (67, .ireturn, 1)]
set_option maxRecDepth 100000 in
theorem kB_bars : tbOk (mB mB_bars) tB_bars = true := by decide +kernel
theorem pB_bars_0 : alk tB_bars 0 = some (.iconst 0, 1) := rfl
theorem pB_bars_1 : alk tB_bars 1 = some (.istore 4, 2) := rfl
theorem pB_bars_3 : alk tB_bars 3 = some (.iload 4, 2) := rfl
theorem pB_bars_5 : alk tB_bars 5 = some (.aload_n 0, 1) := rfl
theorem pB_bars_6 : alk tB_bars 6 = some (.getfield 12, 3) := rfl
theorem pB_bars_9 : alk tB_bars 9 = some (.invokevirtual 18, 3) := rfl
theorem pB_bars_12 : alk tB_bars 12 = some (.if_icmp .ge 54, 3) := rfl
theorem pB_bars_15 : alk tB_bars 15 = some (.aload_n 0, 1) := rfl
theorem pB_bars_16 : alk tB_bars 16 = some (.getfield 12, 3) := rfl
theorem pB_bars_19 : alk tB_bars 19 = some (.iload 4, 2) := rfl
theorem pB_bars_21 : alk tB_bars 21 = some (.invokevirtual 22, 3) := rfl
theorem pB_bars_24 : alk tB_bars 24 = some (.checkcast 26, 3) := rfl
theorem pB_bars_27 : alk tB_bars 27 = some (.astore 5, 2) := rfl
theorem pB_bars_29 : alk tB_bars 29 = some (.aload 5, 2) := rfl
theorem pB_bars_31 : alk tB_bars 31 = some (.getfield 28, 3) := rfl
theorem pB_bars_34 : alk tB_bars 34 = some (.iconst 3, 1) := rfl
theorem pB_bars_35 : alk tB_bars 35 = some (.if_icmp .ne 25, 3) := rfl
theorem pB_bars_38 : alk tB_bars 38 = some (.aload 5, 2) := rfl
theorem pB_bars_40 : alk tB_bars 40 = some (.getfield 36, 3) := rfl
theorem pB_bars_43 : alk tB_bars 43 = some (.iload_n 1, 1) := rfl
theorem pB_bars_44 : alk tB_bars 44 = some (.if_icmp .ne 16, 3) := rfl
theorem pB_bars_47 : alk tB_bars 47 = some (.aload 5, 2) := rfl
theorem pB_bars_49 : alk tB_bars 49 = some (.aload_n 2, 1) := rfl
theorem pB_bars_50 : alk tB_bars 50 = some (.iload_n 1, 1) := rfl
theorem pB_bars_51 : alk tB_bars 51 = some (.iload_n 3, 1) := rfl
theorem pB_bars_52 : alk tB_bars 52 = some (.invokevirtual 32, 3) := rfl
theorem pB_bars_55 : alk tB_bars 55 = some (.ifCond .eq 5, 3) := rfl
theorem pB_bars_58 : alk tB_bars 58 = some (.iconst 1, 1) := rfl
theorem pB_bars_59 : alk tB_bars 59 = some (.ireturn, 1) := rfl
theorem pB_bars_60 : alk tB_bars 60 = some (.iinc 4 1, 3) := rfl
theorem pB_bars_63 : alk tB_bars 63 = some (.goto (-60), 3) := rfl
theorem pB_bars_66 : alk tB_bars 66 = some (.iconst 0, 1) := rfl
theorem pB_bars_67 : alk tB_bars 67 = some (.ireturn, 1) := rfl
def tE_offer : TB := [(0, .iload_n 1, 1), (1, .invokestatic 47, 3), (4, .ifCond .eq 30, 3), (7, .aload_n 0, 1), (8, .dup, 1), (9, .getfield 18, 3), (12, .iconst 1, 1), (13, .iadd, 1), (14, .putfield 18, 3), (17, .aload_n 0, 1), (18, .getfield 9, 3), (21, .iload_n 1, 1), (22, .iload_n 2, 1), (23, .iastore, 1), (24, .aload_n 0, 1), (25, .getfield 15, 3), (28, .iload_n 1, 1), (29, .aload_n 0, 1), (30, .getfield 18, 3), (33, .iastore, 1), (34, .return_, 1)]
set_option maxRecDepth 100000 in
theorem kE_offer : tbOk (mB mE_offer) tE_offer = true := by decide +kernel
theorem pE_offer_0 : alk tE_offer 0 = some (.iload_n 1, 1) := rfl
theorem pE_offer_1 : alk tE_offer 1 = some (.invokestatic 47, 3) := rfl
theorem pE_offer_4 : alk tE_offer 4 = some (.ifCond .eq 30, 3) := rfl
theorem pE_offer_7 : alk tE_offer 7 = some (.aload_n 0, 1) := rfl
theorem pE_offer_8 : alk tE_offer 8 = some (.dup, 1) := rfl
theorem pE_offer_9 : alk tE_offer 9 = some (.getfield 18, 3) := rfl
theorem pE_offer_12 : alk tE_offer 12 = some (.iconst 1, 1) := rfl
theorem pE_offer_13 : alk tE_offer 13 = some (.iadd, 1) := rfl
theorem pE_offer_14 : alk tE_offer 14 = some (.putfield 18, 3) := rfl
theorem pE_offer_17 : alk tE_offer 17 = some (.aload_n 0, 1) := rfl
theorem pE_offer_18 : alk tE_offer 18 = some (.getfield 9, 3) := rfl
theorem pE_offer_21 : alk tE_offer 21 = some (.iload_n 1, 1) := rfl
theorem pE_offer_22 : alk tE_offer 22 = some (.iload_n 2, 1) := rfl
theorem pE_offer_23 : alk tE_offer 23 = some (.iastore, 1) := rfl
theorem pE_offer_24 : alk tE_offer 24 = some (.aload_n 0, 1) := rfl
theorem pE_offer_25 : alk tE_offer 25 = some (.getfield 15, 3) := rfl
theorem pE_offer_28 : alk tE_offer 28 = some (.iload_n 1, 1) := rfl
theorem pE_offer_29 : alk tE_offer 29 = some (.aload_n 0, 1) := rfl
theorem pE_offer_30 : alk tE_offer 30 = some (.getfield 18, 3) := rfl
theorem pE_offer_33 : alk tE_offer 33 = some (.iastore, 1) := rfl
theorem pE_offer_34 : alk tE_offer 34 = some (.return_, 1) := rfl
def tE_offers : TB := [(0, .iconst 0, 1), (1, .istore_n 1, 1), (2, .iconst 0, 1), (3, .istore_n 2, 1), (4, .iload_n 2, 1), (5, .iconst 5, 1), (6, .if_icmp .ge 26, 3), (9, .iload_n 1, 1), (10, .aload_n 0, 1), (11, .getfield 9, 3), (14, .iload_n 2, 1), (15, .iaload, 1), (16, .ifCond .le 7, 3), (19, .iconst 1, 1), (20, .goto 4, 3), (23, .iconst 0, 1), (24, .iadd, 1), (25, .istore_n 1, 1), (26, .iinc 2 1, 3), (29, .goto (-25), 3), (32, .iload_n 1, 1), (33, .ireturn, 1)]
set_option maxRecDepth 100000 in
theorem kE_offers : tbOk (mB mE_offers) tE_offers = true := by decide +kernel
theorem pE_offers_0 : alk tE_offers 0 = some (.iconst 0, 1) := rfl
theorem pE_offers_1 : alk tE_offers 1 = some (.istore_n 1, 1) := rfl
theorem pE_offers_2 : alk tE_offers 2 = some (.iconst 0, 1) := rfl
theorem pE_offers_3 : alk tE_offers 3 = some (.istore_n 2, 1) := rfl
theorem pE_offers_4 : alk tE_offers 4 = some (.iload_n 2, 1) := rfl
theorem pE_offers_5 : alk tE_offers 5 = some (.iconst 5, 1) := rfl
theorem pE_offers_6 : alk tE_offers 6 = some (.if_icmp .ge 26, 3) := rfl
theorem pE_offers_9 : alk tE_offers 9 = some (.iload_n 1, 1) := rfl
theorem pE_offers_10 : alk tE_offers 10 = some (.aload_n 0, 1) := rfl
theorem pE_offers_11 : alk tE_offers 11 = some (.getfield 9, 3) := rfl
theorem pE_offers_14 : alk tE_offers 14 = some (.iload_n 2, 1) := rfl
theorem pE_offers_15 : alk tE_offers 15 = some (.iaload, 1) := rfl
theorem pE_offers_16 : alk tE_offers 16 = some (.ifCond .le 7, 3) := rfl
theorem pE_offers_19 : alk tE_offers 19 = some (.iconst 1, 1) := rfl
theorem pE_offers_20 : alk tE_offers 20 = some (.goto 4, 3) := rfl
theorem pE_offers_23 : alk tE_offers 23 = some (.iconst 0, 1) := rfl
theorem pE_offers_24 : alk tE_offers 24 = some (.iadd, 1) := rfl
theorem pE_offers_25 : alk tE_offers 25 = some (.istore_n 1, 1) := rfl
theorem pE_offers_26 : alk tE_offers 26 = some (.iinc 2 1, 3) := rfl
theorem pE_offers_29 : alk tE_offers 29 = some (.goto (-25), 3) := rfl
theorem pE_offers_32 : alk tE_offers 32 = some (.iload_n 1, 1) := rfl
theorem pE_offers_33 : alk tE_offers 33 = some (.ireturn, 1) := rfl
def tS_sell : TB := [(0, .aload_n 0, 1), (1, .iload_n 1, 1), (2, .invokevirtual 141, 3), (5, .astore_n 2, 1), (6, .aload_n 2, 1), (7, .ifnonnull 10, 3), (10, .aload_n 0, 1), (11, .bipush (-3), 2), (13, .invokevirtual 79, 3), (16, .ireturn, 1), (17, .aload_n 2, 1), (18, .getfield 145, 3), (21, .ifCond .eq 10, 3), (24, .aload_n 0, 1), (25, .bipush (-5), 2), (27, .invokevirtual 79, 3), (30, .ireturn, 1), (31, .aload_n 2, 1), (32, .getfield 186, 3), (35, .invokevirtual 217, 3), (38, .ifCond .eq 10, 3), (41, .aload_n 0, 1), (42, .bipush (-7), 2), (44, .invokevirtual 79, 3), (47, .ireturn, 1), (48, .aload_n 2, 1), (49, .getfield 186, 3), (52, .invokevirtual 305, 3), (55, .ifCond .ne 10, 3), (58, .aload_n 0, 1), (59, .bipush (-2), 2), (61, .invokevirtual 79, 3), (64, .ireturn, 1), (65, .aload_n 2, 1), (66, .getfield 186, 3), (69, .invokevirtual 308, 3), (72, .aload_n 2, 1), (73, .getfield 186, 3), (76, .getfield 190, 3), (79, .ireturn, 1)]
set_option maxRecDepth 100000 in
theorem kS_sell : tbOk (mB mS_sell) tS_sell = true := by decide +kernel
theorem pS_sell_0 : alk tS_sell 0 = some (.aload_n 0, 1) := rfl
theorem pS_sell_1 : alk tS_sell 1 = some (.iload_n 1, 1) := rfl
theorem pS_sell_2 : alk tS_sell 2 = some (.invokevirtual 141, 3) := rfl
theorem pS_sell_5 : alk tS_sell 5 = some (.astore_n 2, 1) := rfl
theorem pS_sell_6 : alk tS_sell 6 = some (.aload_n 2, 1) := rfl
theorem pS_sell_7 : alk tS_sell 7 = some (.ifnonnull 10, 3) := rfl
theorem pS_sell_10 : alk tS_sell 10 = some (.aload_n 0, 1) := rfl
theorem pS_sell_11 : alk tS_sell 11 = some (.bipush (-3), 2) := rfl
theorem pS_sell_13 : alk tS_sell 13 = some (.invokevirtual 79, 3) := rfl
theorem pS_sell_16 : alk tS_sell 16 = some (.ireturn, 1) := rfl
theorem pS_sell_17 : alk tS_sell 17 = some (.aload_n 2, 1) := rfl
theorem pS_sell_18 : alk tS_sell 18 = some (.getfield 145, 3) := rfl
theorem pS_sell_21 : alk tS_sell 21 = some (.ifCond .eq 10, 3) := rfl
theorem pS_sell_24 : alk tS_sell 24 = some (.aload_n 0, 1) := rfl
theorem pS_sell_25 : alk tS_sell 25 = some (.bipush (-5), 2) := rfl
theorem pS_sell_27 : alk tS_sell 27 = some (.invokevirtual 79, 3) := rfl
theorem pS_sell_30 : alk tS_sell 30 = some (.ireturn, 1) := rfl
theorem pS_sell_31 : alk tS_sell 31 = some (.aload_n 2, 1) := rfl
theorem pS_sell_32 : alk tS_sell 32 = some (.getfield 186, 3) := rfl
theorem pS_sell_35 : alk tS_sell 35 = some (.invokevirtual 217, 3) := rfl
theorem pS_sell_38 : alk tS_sell 38 = some (.ifCond .eq 10, 3) := rfl
theorem pS_sell_41 : alk tS_sell 41 = some (.aload_n 0, 1) := rfl
theorem pS_sell_42 : alk tS_sell 42 = some (.bipush (-7), 2) := rfl
theorem pS_sell_44 : alk tS_sell 44 = some (.invokevirtual 79, 3) := rfl
theorem pS_sell_47 : alk tS_sell 47 = some (.ireturn, 1) := rfl
theorem pS_sell_48 : alk tS_sell 48 = some (.aload_n 2, 1) := rfl
theorem pS_sell_49 : alk tS_sell 49 = some (.getfield 186, 3) := rfl
theorem pS_sell_52 : alk tS_sell 52 = some (.invokevirtual 305, 3) := rfl
theorem pS_sell_55 : alk tS_sell 55 = some (.ifCond .ne 10, 3) := rfl
theorem pS_sell_58 : alk tS_sell 58 = some (.aload_n 0, 1) := rfl
theorem pS_sell_59 : alk tS_sell 59 = some (.bipush (-2), 2) := rfl
theorem pS_sell_61 : alk tS_sell 61 = some (.invokevirtual 79, 3) := rfl
theorem pS_sell_64 : alk tS_sell 64 = some (.ireturn, 1) := rfl
theorem pS_sell_65 : alk tS_sell 65 = some (.aload_n 2, 1) := rfl
theorem pS_sell_66 : alk tS_sell 66 = some (.getfield 186, 3) := rfl
theorem pS_sell_69 : alk tS_sell 69 = some (.invokevirtual 308, 3) := rfl
theorem pS_sell_72 : alk tS_sell 72 = some (.aload_n 2, 1) := rfl
theorem pS_sell_73 : alk tS_sell 73 = some (.getfield 186, 3) := rfl
theorem pS_sell_76 : alk tS_sell 76 = some (.getfield 190, 3) := rfl
theorem pS_sell_79 : alk tS_sell 79 = some (.ireturn, 1) := rfl
def tE_close : TB := [(0, .iconst 0, 1), (1, .istore_n 1, 1), (2, .iconst 1, 1), (3, .istore_n 2, 1), (4, .iload_n 2, 1), (5, .iconst 5, 1), (6, .if_icmp .ge 66, 3), (9, .aload_n 0, 1), (10, .getfield 9, 3), (13, .iload_n 2, 1), (14, .iaload, 1), (15, .aload_n 0, 1), (16, .getfield 9, 3), (19, .iload_n 1, 1), (20, .iaload, 1), (21, .if_icmp .ne 22, 3), (24, .aload_n 0, 1), (25, .getfield 15, 3), (28, .iload_n 2, 1), (29, .iaload, 1), (30, .aload_n 0, 1), (31, .getfield 15, 3), (34, .iload_n 1, 1), (35, .iaload, 1), (36, .if_icmp .ge 7, 3), (39, .iconst 1, 1), (40, .goto 4, 3), (43, .iconst 0, 1), (44, .istore_n 3, 1), (45, .aload_n 0, 1), (46, .getfield 9, 3), (49, .iload_n 2, 1), (50, .iaload, 1), (51, .aload_n 0, 1), (52, .getfield 9, 3), (55, .iload_n 1, 1), (56, .iaload, 1), (57, .if_icmp .gt 7, 3), (60, .iload_n 3, 1), (61, .ifCond .eq 5, 3), (64, .iload_n 2, 1), (65, .istore_n 1, 1), (66, .iinc 2 1, 3), (69, .goto (-65), 3), (72, .aload_n 0, 1), (73, .iload_n 1, 1), (74, .putfield 34, 3), (77, .aload_n 0, 1), (78, .aload_n 0, 1), (79, .getfield 9, 3), (82, .iload_n 1, 1), (83, .iaload, 1), (84, .putfield 25, 3), (87, .return_, 1)]
set_option maxRecDepth 100000 in
theorem kE_close : tbOk (mB mE_close) tE_close = true := by decide +kernel
theorem pE_close_0 : alk tE_close 0 = some (.iconst 0, 1) := rfl
theorem pE_close_1 : alk tE_close 1 = some (.istore_n 1, 1) := rfl
theorem pE_close_2 : alk tE_close 2 = some (.iconst 1, 1) := rfl
theorem pE_close_3 : alk tE_close 3 = some (.istore_n 2, 1) := rfl
theorem pE_close_4 : alk tE_close 4 = some (.iload_n 2, 1) := rfl
theorem pE_close_5 : alk tE_close 5 = some (.iconst 5, 1) := rfl
theorem pE_close_6 : alk tE_close 6 = some (.if_icmp .ge 66, 3) := rfl
theorem pE_close_9 : alk tE_close 9 = some (.aload_n 0, 1) := rfl
theorem pE_close_10 : alk tE_close 10 = some (.getfield 9, 3) := rfl
theorem pE_close_13 : alk tE_close 13 = some (.iload_n 2, 1) := rfl
theorem pE_close_14 : alk tE_close 14 = some (.iaload, 1) := rfl
theorem pE_close_15 : alk tE_close 15 = some (.aload_n 0, 1) := rfl
theorem pE_close_16 : alk tE_close 16 = some (.getfield 9, 3) := rfl
theorem pE_close_19 : alk tE_close 19 = some (.iload_n 1, 1) := rfl
theorem pE_close_20 : alk tE_close 20 = some (.iaload, 1) := rfl
theorem pE_close_21 : alk tE_close 21 = some (.if_icmp .ne 22, 3) := rfl
theorem pE_close_24 : alk tE_close 24 = some (.aload_n 0, 1) := rfl
theorem pE_close_25 : alk tE_close 25 = some (.getfield 15, 3) := rfl
theorem pE_close_28 : alk tE_close 28 = some (.iload_n 2, 1) := rfl
theorem pE_close_29 : alk tE_close 29 = some (.iaload, 1) := rfl
theorem pE_close_30 : alk tE_close 30 = some (.aload_n 0, 1) := rfl
theorem pE_close_31 : alk tE_close 31 = some (.getfield 15, 3) := rfl
theorem pE_close_34 : alk tE_close 34 = some (.iload_n 1, 1) := rfl
theorem pE_close_35 : alk tE_close 35 = some (.iaload, 1) := rfl
theorem pE_close_36 : alk tE_close 36 = some (.if_icmp .ge 7, 3) := rfl
theorem pE_close_39 : alk tE_close 39 = some (.iconst 1, 1) := rfl
theorem pE_close_40 : alk tE_close 40 = some (.goto 4, 3) := rfl
theorem pE_close_43 : alk tE_close 43 = some (.iconst 0, 1) := rfl
theorem pE_close_44 : alk tE_close 44 = some (.istore_n 3, 1) := rfl
theorem pE_close_45 : alk tE_close 45 = some (.aload_n 0, 1) := rfl
theorem pE_close_46 : alk tE_close 46 = some (.getfield 9, 3) := rfl
theorem pE_close_49 : alk tE_close 49 = some (.iload_n 2, 1) := rfl
theorem pE_close_50 : alk tE_close 50 = some (.iaload, 1) := rfl
theorem pE_close_51 : alk tE_close 51 = some (.aload_n 0, 1) := rfl
theorem pE_close_52 : alk tE_close 52 = some (.getfield 9, 3) := rfl
theorem pE_close_55 : alk tE_close 55 = some (.iload_n 1, 1) := rfl
theorem pE_close_56 : alk tE_close 56 = some (.iaload, 1) := rfl
theorem pE_close_57 : alk tE_close 57 = some (.if_icmp .gt 7, 3) := rfl
theorem pE_close_60 : alk tE_close 60 = some (.iload_n 3, 1) := rfl
theorem pE_close_61 : alk tE_close 61 = some (.ifCond .eq 5, 3) := rfl
theorem pE_close_64 : alk tE_close 64 = some (.iload_n 2, 1) := rfl
theorem pE_close_65 : alk tE_close 65 = some (.istore_n 1, 1) := rfl
theorem pE_close_66 : alk tE_close 66 = some (.iinc 2 1, 3) := rfl
theorem pE_close_69 : alk tE_close 69 = some (.goto (-65), 3) := rfl
theorem pE_close_72 : alk tE_close 72 = some (.aload_n 0, 1) := rfl
theorem pE_close_73 : alk tE_close 73 = some (.iload_n 1, 1) := rfl
theorem pE_close_74 : alk tE_close 74 = some (.putfield 34, 3) := rfl
theorem pE_close_77 : alk tE_close 77 = some (.aload_n 0, 1) := rfl
theorem pE_close_78 : alk tE_close 78 = some (.aload_n 0, 1) := rfl
theorem pE_close_79 : alk tE_close 79 = some (.getfield 9, 3) := rfl
theorem pE_close_82 : alk tE_close 82 = some (.iload_n 1, 1) := rfl
theorem pE_close_83 : alk tE_close 83 = some (.iaload, 1) := rfl
theorem pE_close_84 : alk tE_close 84 = some (.putfield 25, 3) := rfl
theorem pE_close_87 : alk tE_close 87 = some (.return_, 1) := rfl
def tS_weigh : TB := [(0, .aload_n 0, 1), (1, .iload_n 1, 1), (2, .invokevirtual 141, 3), (5, .astore_n 2, 1), (6, .aload_n 2, 1), (7, .ifnonnull 10, 3), (10, .aload_n 0, 1), (11, .bipush (-3), 2), (13, .invokevirtual 79, 3), (16, .ireturn, 1), (17, .aload_n 0, 1), (18, .aload_n 2, 1), (19, .iconst 2, 1), (20, .invokevirtual 148, 3), (23, .ifCond .ne 10, 3), (26, .aload_n 0, 1), (27, .bipush (-7), 2), (29, .invokevirtual 79, 3), (32, .ireturn, 1), (33, .aload_n 0, 1), (34, .aload_n 2, 1), (35, .invokevirtual 311, 3), (38, .istore_n 3, 1), (39, .aload_n 2, 1), (40, .getfield 186, 3), (43, .invokevirtual 217, 3), (46, .ifCond .eq 54, 3), (49, .aload_n 2, 1), (50, .getfield 186, 3), (53, .getfield 195, 3), (56, .ifCond .ne 44, 3), (59, .aload_n 0, 1), (60, .getfield 33, 3), (63, .iconst 1, 1), (64, .aload_n 2, 1), (65, .aload_n 2, 1), (66, .getfield 186, 3), (69, .getfield 190, 3), (72, .aload_n 0, 1), (73, .getfield 71, 3), (76, .invokevirtual 285, 3), (79, .istore 4, 2), (81, .aload_n 2, 1), (82, .getfield 186, 3), (85, .iload_n 3, 1), (86, .aload_n 2, 1), (87, .getfield 152, 3), (90, .iload 4, 2), (92, .imul, 1), (93, .aload_n 2, 1), (94, .getfield 167, 3), (97, .invokevirtual 314, 3), (100, .iload_n 3, 1), (101, .ireturn, 1)]
set_option maxRecDepth 100000 in
theorem kS_weigh : tbOk (mB mS_weigh) tS_weigh = true := by decide +kernel
theorem pS_weigh_0 : alk tS_weigh 0 = some (.aload_n 0, 1) := rfl
theorem pS_weigh_1 : alk tS_weigh 1 = some (.iload_n 1, 1) := rfl
theorem pS_weigh_2 : alk tS_weigh 2 = some (.invokevirtual 141, 3) := rfl
theorem pS_weigh_5 : alk tS_weigh 5 = some (.astore_n 2, 1) := rfl
theorem pS_weigh_6 : alk tS_weigh 6 = some (.aload_n 2, 1) := rfl
theorem pS_weigh_7 : alk tS_weigh 7 = some (.ifnonnull 10, 3) := rfl
theorem pS_weigh_10 : alk tS_weigh 10 = some (.aload_n 0, 1) := rfl
theorem pS_weigh_11 : alk tS_weigh 11 = some (.bipush (-3), 2) := rfl
theorem pS_weigh_13 : alk tS_weigh 13 = some (.invokevirtual 79, 3) := rfl
theorem pS_weigh_16 : alk tS_weigh 16 = some (.ireturn, 1) := rfl
theorem pS_weigh_17 : alk tS_weigh 17 = some (.aload_n 0, 1) := rfl
theorem pS_weigh_18 : alk tS_weigh 18 = some (.aload_n 2, 1) := rfl
theorem pS_weigh_19 : alk tS_weigh 19 = some (.iconst 2, 1) := rfl
theorem pS_weigh_20 : alk tS_weigh 20 = some (.invokevirtual 148, 3) := rfl
theorem pS_weigh_23 : alk tS_weigh 23 = some (.ifCond .ne 10, 3) := rfl
theorem pS_weigh_26 : alk tS_weigh 26 = some (.aload_n 0, 1) := rfl
theorem pS_weigh_27 : alk tS_weigh 27 = some (.bipush (-7), 2) := rfl
theorem pS_weigh_29 : alk tS_weigh 29 = some (.invokevirtual 79, 3) := rfl
theorem pS_weigh_32 : alk tS_weigh 32 = some (.ireturn, 1) := rfl
theorem pS_weigh_33 : alk tS_weigh 33 = some (.aload_n 0, 1) := rfl
theorem pS_weigh_34 : alk tS_weigh 34 = some (.aload_n 2, 1) := rfl
theorem pS_weigh_35 : alk tS_weigh 35 = some (.invokevirtual 311, 3) := rfl
theorem pS_weigh_38 : alk tS_weigh 38 = some (.istore_n 3, 1) := rfl
theorem pS_weigh_39 : alk tS_weigh 39 = some (.aload_n 2, 1) := rfl
theorem pS_weigh_40 : alk tS_weigh 40 = some (.getfield 186, 3) := rfl
theorem pS_weigh_43 : alk tS_weigh 43 = some (.invokevirtual 217, 3) := rfl
theorem pS_weigh_46 : alk tS_weigh 46 = some (.ifCond .eq 54, 3) := rfl
theorem pS_weigh_49 : alk tS_weigh 49 = some (.aload_n 2, 1) := rfl
theorem pS_weigh_50 : alk tS_weigh 50 = some (.getfield 186, 3) := rfl
theorem pS_weigh_53 : alk tS_weigh 53 = some (.getfield 195, 3) := rfl
theorem pS_weigh_56 : alk tS_weigh 56 = some (.ifCond .ne 44, 3) := rfl
theorem pS_weigh_59 : alk tS_weigh 59 = some (.aload_n 0, 1) := rfl
theorem pS_weigh_60 : alk tS_weigh 60 = some (.getfield 33, 3) := rfl
theorem pS_weigh_63 : alk tS_weigh 63 = some (.iconst 1, 1) := rfl
theorem pS_weigh_64 : alk tS_weigh 64 = some (.aload_n 2, 1) := rfl
theorem pS_weigh_65 : alk tS_weigh 65 = some (.aload_n 2, 1) := rfl
theorem pS_weigh_66 : alk tS_weigh 66 = some (.getfield 186, 3) := rfl
theorem pS_weigh_69 : alk tS_weigh 69 = some (.getfield 190, 3) := rfl
theorem pS_weigh_72 : alk tS_weigh 72 = some (.aload_n 0, 1) := rfl
theorem pS_weigh_73 : alk tS_weigh 73 = some (.getfield 71, 3) := rfl
theorem pS_weigh_76 : alk tS_weigh 76 = some (.invokevirtual 285, 3) := rfl
theorem pS_weigh_79 : alk tS_weigh 79 = some (.istore 4, 2) := rfl
theorem pS_weigh_81 : alk tS_weigh 81 = some (.aload_n 2, 1) := rfl
theorem pS_weigh_82 : alk tS_weigh 82 = some (.getfield 186, 3) := rfl
theorem pS_weigh_85 : alk tS_weigh 85 = some (.iload_n 3, 1) := rfl
theorem pS_weigh_86 : alk tS_weigh 86 = some (.aload_n 2, 1) := rfl
theorem pS_weigh_87 : alk tS_weigh 87 = some (.getfield 152, 3) := rfl
theorem pS_weigh_90 : alk tS_weigh 90 = some (.iload 4, 2) := rfl
theorem pS_weigh_92 : alk tS_weigh 92 = some (.imul, 1) := rfl
theorem pS_weigh_93 : alk tS_weigh 93 = some (.aload_n 2, 1) := rfl
theorem pS_weigh_94 : alk tS_weigh 94 = some (.getfield 167, 3) := rfl
theorem pS_weigh_97 : alk tS_weigh 97 = some (.invokevirtual 314, 3) := rfl
theorem pS_weigh_100 : alk tS_weigh 100 = some (.iload_n 3, 1) := rfl
theorem pS_weigh_101 : alk tS_weigh 101 = some (.ireturn, 1) := rfl
def tS_weightOf : TB := [(0, .aload_n 0, 1), (1, .getfield 33, 3), (4, .iconst 0, 1), (5, .aload_n 1, 1), (6, .iconst (-1), 1), (7, .aload_n 0, 1), (8, .getfield 71, 3), (11, .invokevirtual 285, 3), (14, .istore_n 2, 1), (15, .iconst 1, 1), (16, .aload_n 1, 1), (17, .getfield 155, 3), (20, .aload_n 1, 1), (21, .aload_n 0, 1), (22, .getfield 71, 3), (25, .invokevirtual 176, 3), (28, .bipush 60, 2), (30, .idiv, 1), (31, .isub, 1), (32, .iload_n 2, 1), (33, .isub, 1), (34, .invokestatic 386, 3), (37, .istore_n 3, 1), (38, .iconst 1, 1), (39, .aload_n 1, 1), (40, .getfield 152, 3), (43, .iload_n 3, 1), (44, .imul, 1), (45, .aload_n 0, 1), (46, .getfield 12, 3), (49, .aload_n 1, 1), (50, .getfield 167, 3), (53, .invokevirtual 318, 3), (56, .iadd, 1), (57, .invokestatic 386, 3), (60, .ireturn, 1)]
set_option maxRecDepth 100000 in
theorem kS_weightOf : tbOk (mB mS_weightOf) tS_weightOf = true := by decide +kernel
theorem pS_weightOf_0 : alk tS_weightOf 0 = some (.aload_n 0, 1) := rfl
theorem pS_weightOf_1 : alk tS_weightOf 1 = some (.getfield 33, 3) := rfl
theorem pS_weightOf_4 : alk tS_weightOf 4 = some (.iconst 0, 1) := rfl
theorem pS_weightOf_5 : alk tS_weightOf 5 = some (.aload_n 1, 1) := rfl
theorem pS_weightOf_6 : alk tS_weightOf 6 = some (.iconst (-1), 1) := rfl
theorem pS_weightOf_7 : alk tS_weightOf 7 = some (.aload_n 0, 1) := rfl
theorem pS_weightOf_8 : alk tS_weightOf 8 = some (.getfield 71, 3) := rfl
theorem pS_weightOf_11 : alk tS_weightOf 11 = some (.invokevirtual 285, 3) := rfl
theorem pS_weightOf_14 : alk tS_weightOf 14 = some (.istore_n 2, 1) := rfl
theorem pS_weightOf_15 : alk tS_weightOf 15 = some (.iconst 1, 1) := rfl
theorem pS_weightOf_16 : alk tS_weightOf 16 = some (.aload_n 1, 1) := rfl
theorem pS_weightOf_17 : alk tS_weightOf 17 = some (.getfield 155, 3) := rfl
theorem pS_weightOf_20 : alk tS_weightOf 20 = some (.aload_n 1, 1) := rfl
theorem pS_weightOf_21 : alk tS_weightOf 21 = some (.aload_n 0, 1) := rfl
theorem pS_weightOf_22 : alk tS_weightOf 22 = some (.getfield 71, 3) := rfl
theorem pS_weightOf_25 : alk tS_weightOf 25 = some (.invokevirtual 176, 3) := rfl
theorem pS_weightOf_28 : alk tS_weightOf 28 = some (.bipush 60, 2) := rfl
theorem pS_weightOf_30 : alk tS_weightOf 30 = some (.idiv, 1) := rfl
theorem pS_weightOf_31 : alk tS_weightOf 31 = some (.isub, 1) := rfl
theorem pS_weightOf_32 : alk tS_weightOf 32 = some (.iload_n 2, 1) := rfl
theorem pS_weightOf_33 : alk tS_weightOf 33 = some (.isub, 1) := rfl
theorem pS_weightOf_34 : alk tS_weightOf 34 = some (.invokestatic 386, 3) := rfl
theorem pS_weightOf_37 : alk tS_weightOf 37 = some (.istore_n 3, 1) := rfl
theorem pS_weightOf_38 : alk tS_weightOf 38 = some (.iconst 1, 1) := rfl
theorem pS_weightOf_39 : alk tS_weightOf 39 = some (.aload_n 1, 1) := rfl
theorem pS_weightOf_40 : alk tS_weightOf 40 = some (.getfield 152, 3) := rfl
theorem pS_weightOf_43 : alk tS_weightOf 43 = some (.iload_n 3, 1) := rfl
theorem pS_weightOf_44 : alk tS_weightOf 44 = some (.imul, 1) := rfl
theorem pS_weightOf_45 : alk tS_weightOf 45 = some (.aload_n 0, 1) := rfl
theorem pS_weightOf_46 : alk tS_weightOf 46 = some (.getfield 12, 3) := rfl
theorem pS_weightOf_49 : alk tS_weightOf 49 = some (.aload_n 1, 1) := rfl
theorem pS_weightOf_50 : alk tS_weightOf 50 = some (.getfield 167, 3) := rfl
theorem pS_weightOf_53 : alk tS_weightOf 53 = some (.invokevirtual 318, 3) := rfl
theorem pS_weightOf_56 : alk tS_weightOf 56 = some (.iadd, 1) := rfl
theorem pS_weightOf_57 : alk tS_weightOf 57 = some (.invokestatic 386, 3) := rfl
theorem pS_weightOf_60 : alk tS_weightOf 60 = some (.ireturn, 1) := rfl
def tY_offOf : TB := [(0, .aload_n 0, 1), (1, .iload_n 1, 1), (2, .invokevirtual 34, 3), (5, .ifCond .eq 12, 3), (8, .aload_n 0, 1), (9, .getfield 22, 3), (12, .iload_n 1, 1), (13, .iaload, 1), (14, .goto 4, 3), (17, .iconst 0, 1), (18, .ireturn, 1)]
set_option maxRecDepth 100000 in
theorem kY_offOf : tbOk (mB mY_offOf) tY_offOf = true := by decide +kernel
theorem pY_offOf_0 : alk tY_offOf 0 = some (.aload_n 0, 1) := rfl
theorem pY_offOf_1 : alk tY_offOf 1 = some (.iload_n 1, 1) := rfl
theorem pY_offOf_2 : alk tY_offOf 2 = some (.invokevirtual 34, 3) := rfl
theorem pY_offOf_5 : alk tY_offOf 5 = some (.ifCond .eq 12, 3) := rfl
theorem pY_offOf_8 : alk tY_offOf 8 = some (.aload_n 0, 1) := rfl
theorem pY_offOf_9 : alk tY_offOf 9 = some (.getfield 22, 3) := rfl
theorem pY_offOf_12 : alk tY_offOf 12 = some (.iload_n 1, 1) := rfl
theorem pY_offOf_13 : alk tY_offOf 13 = some (.iaload, 1) := rfl
theorem pY_offOf_14 : alk tY_offOf 14 = some (.goto 4, 3) := rfl
theorem pY_offOf_17 : alk tY_offOf 17 = some (.iconst 0, 1) := rfl
theorem pY_offOf_18 : alk tY_offOf 18 = some (.ireturn, 1) := rfl
def tE_pay : TB := [(0, .aload_n 0, 1), (1, .iload_n 1, 1), (2, .putfield 28, 3), (5, .aload_n 0, 1), (6, .iload_n 2, 1), (7, .putfield 31, 3), (10, .aload_n 0, 1), (11, .iload_n 3, 1), (12, .putfield 44, 3), (15, .aload_n 0, 1), (16, .iconst 1, 1), (17, .putfield 40, 3), (20, .aload_n 0, 1), (21, .aload_n 0, 1), (22, .aload_n 0, 1), (23, .getfield 28, 3), (26, .invokevirtual 55, 3), (29, .putfield 37, 3), (32, .return_, 1)]
set_option maxRecDepth 100000 in
theorem kE_pay : tbOk (mB mE_pay) tE_pay = true := by decide +kernel
theorem pE_pay_0 : alk tE_pay 0 = some (.aload_n 0, 1) := rfl
theorem pE_pay_1 : alk tE_pay 1 = some (.iload_n 1, 1) := rfl
theorem pE_pay_2 : alk tE_pay 2 = some (.putfield 28, 3) := rfl
theorem pE_pay_5 : alk tE_pay 5 = some (.aload_n 0, 1) := rfl
theorem pE_pay_6 : alk tE_pay 6 = some (.iload_n 2, 1) := rfl
theorem pE_pay_7 : alk tE_pay 7 = some (.putfield 31, 3) := rfl
theorem pE_pay_10 : alk tE_pay 10 = some (.aload_n 0, 1) := rfl
theorem pE_pay_11 : alk tE_pay 11 = some (.iload_n 3, 1) := rfl
theorem pE_pay_12 : alk tE_pay 12 = some (.putfield 44, 3) := rfl
theorem pE_pay_15 : alk tE_pay 15 = some (.aload_n 0, 1) := rfl
theorem pE_pay_16 : alk tE_pay 16 = some (.iconst 1, 1) := rfl
theorem pE_pay_17 : alk tE_pay 17 = some (.putfield 40, 3) := rfl
theorem pE_pay_20 : alk tE_pay 20 = some (.aload_n 0, 1) := rfl
theorem pE_pay_21 : alk tE_pay 21 = some (.aload_n 0, 1) := rfl
theorem pE_pay_22 : alk tE_pay 22 = some (.aload_n 0, 1) := rfl
theorem pE_pay_23 : alk tE_pay 23 = some (.getfield 28, 3) := rfl
theorem pE_pay_26 : alk tE_pay 26 = some (.invokevirtual 55, 3) := rfl
theorem pE_pay_29 : alk tE_pay 29 = some (.putfield 37, 3) := rfl
theorem pE_pay_32 : alk tE_pay 32 = some (.return_, 1) := rfl
def tE_moneyFor : TB := [(0, .aload_n 0, 1), (1, .getfield 25, 3), (4, .i2l, 1), (5, .iload_n 1, 1), (6, .i2l, 1), (7, .lmul, 1), (8, .ldc2_w 65, 3), (11, .ldiv, 1), (12, .l2i, 1), (13, .aload_n 0, 1), (14, .getfield 31, 3), (17, .isub, 1), (18, .ireturn, 1)]
set_option maxRecDepth 100000 in
theorem kE_moneyFor : tbOk (mB mE_moneyFor) tE_moneyFor = true := by decide +kernel
theorem pE_moneyFor_0 : alk tE_moneyFor 0 = some (.aload_n 0, 1) := rfl
theorem pE_moneyFor_1 : alk tE_moneyFor 1 = some (.getfield 25, 3) := rfl
theorem pE_moneyFor_4 : alk tE_moneyFor 4 = some (.i2l, 1) := rfl
theorem pE_moneyFor_5 : alk tE_moneyFor 5 = some (.iload_n 1, 1) := rfl
theorem pE_moneyFor_6 : alk tE_moneyFor 6 = some (.i2l, 1) := rfl
theorem pE_moneyFor_7 : alk tE_moneyFor 7 = some (.lmul, 1) := rfl
theorem pE_moneyFor_8 : alk tE_moneyFor 8 = some (.ldc2_w 65, 3) := rfl
theorem pE_moneyFor_11 : alk tE_moneyFor 11 = some (.ldiv, 1) := rfl
theorem pE_moneyFor_12 : alk tE_moneyFor 12 = some (.l2i, 1) := rfl
theorem pE_moneyFor_13 : alk tE_moneyFor 13 = some (.aload_n 0, 1) := rfl
theorem pE_moneyFor_14 : alk tE_moneyFor 14 = some (.getfield 31, 3) := rfl
theorem pE_moneyFor_17 : alk tE_moneyFor 17 = some (.isub, 1) := rfl
theorem pE_moneyFor_18 : alk tE_moneyFor 18 = some (.ireturn, 1) := rfl
def tS_off : TB := [(0, .aload_n 0, 1), (1, .getfield 12, 3), (4, .iload_n 1, 1), (5, .invokevirtual 89, 3), (8, .ifCond .ne 12, 3), (11, .aload_n 0, 1), (12, .bipush (-3), 2), (14, .invokevirtual 79, 3), (17, .pop, 1), (18, .iconst 0, 1), (19, .ireturn, 1), (20, .aload_n 0, 1), (21, .getfield 12, 3), (24, .iload_n 1, 1), (25, .invokevirtual 120, 3), (28, .iconst 2, 1), (29, .if_icmp .eq 12, 3), (32, .aload_n 0, 1), (33, .bipush (-5), 2), (35, .invokevirtual 79, 3), (38, .pop, 1), (39, .iconst 0, 1), (40, .ireturn, 1), (41, .iload_n 2, 1), (42, .bipush (-99), 2), (44, .bipush 99, 2), (46, .invokestatic 75, 3), (49, .ifCond .ne 12, 3), (52, .aload_n 0, 1), (53, .bipush (-7), 2), (55, .invokevirtual 79, 3), (58, .pop, 1), (59, .iconst 0, 1), (60, .ireturn, 1), (61, .aload_n 0, 1), (62, .getfield 12, 3), (65, .iload_n 1, 1), (66, .invokevirtual 318, 3), (69, .istore_n 3, 1), (70, .aload_n 0, 1), (71, .getfield 12, 3), (74, .iload_n 1, 1), (75, .iload_n 2, 1), (76, .invokevirtual 321, 3), (79, .iload_n 3, 1), (80, .ireturn, 1)]
set_option maxRecDepth 100000 in
theorem kS_off : tbOk (mB mS_off) tS_off = true := by decide +kernel
theorem pS_off_0 : alk tS_off 0 = some (.aload_n 0, 1) := rfl
theorem pS_off_1 : alk tS_off 1 = some (.getfield 12, 3) := rfl
theorem pS_off_4 : alk tS_off 4 = some (.iload_n 1, 1) := rfl
theorem pS_off_5 : alk tS_off 5 = some (.invokevirtual 89, 3) := rfl
theorem pS_off_8 : alk tS_off 8 = some (.ifCond .ne 12, 3) := rfl
theorem pS_off_11 : alk tS_off 11 = some (.aload_n 0, 1) := rfl
theorem pS_off_12 : alk tS_off 12 = some (.bipush (-3), 2) := rfl
theorem pS_off_14 : alk tS_off 14 = some (.invokevirtual 79, 3) := rfl
theorem pS_off_17 : alk tS_off 17 = some (.pop, 1) := rfl
theorem pS_off_18 : alk tS_off 18 = some (.iconst 0, 1) := rfl
theorem pS_off_19 : alk tS_off 19 = some (.ireturn, 1) := rfl
theorem pS_off_20 : alk tS_off 20 = some (.aload_n 0, 1) := rfl
theorem pS_off_21 : alk tS_off 21 = some (.getfield 12, 3) := rfl
theorem pS_off_24 : alk tS_off 24 = some (.iload_n 1, 1) := rfl
theorem pS_off_25 : alk tS_off 25 = some (.invokevirtual 120, 3) := rfl
theorem pS_off_28 : alk tS_off 28 = some (.iconst 2, 1) := rfl
theorem pS_off_29 : alk tS_off 29 = some (.if_icmp .eq 12, 3) := rfl
theorem pS_off_32 : alk tS_off 32 = some (.aload_n 0, 1) := rfl
theorem pS_off_33 : alk tS_off 33 = some (.bipush (-5), 2) := rfl
theorem pS_off_35 : alk tS_off 35 = some (.invokevirtual 79, 3) := rfl
theorem pS_off_38 : alk tS_off 38 = some (.pop, 1) := rfl
theorem pS_off_39 : alk tS_off 39 = some (.iconst 0, 1) := rfl
theorem pS_off_40 : alk tS_off 40 = some (.ireturn, 1) := rfl
theorem pS_off_41 : alk tS_off 41 = some (.iload_n 2, 1) := rfl
theorem pS_off_42 : alk tS_off 42 = some (.bipush (-99), 2) := rfl
theorem pS_off_44 : alk tS_off 44 = some (.bipush 99, 2) := rfl
theorem pS_off_46 : alk tS_off 46 = some (.invokestatic 75, 3) := rfl
theorem pS_off_49 : alk tS_off 49 = some (.ifCond .ne 12, 3) := rfl
theorem pS_off_52 : alk tS_off 52 = some (.aload_n 0, 1) := rfl
theorem pS_off_53 : alk tS_off 53 = some (.bipush (-7), 2) := rfl
theorem pS_off_55 : alk tS_off 55 = some (.invokevirtual 79, 3) := rfl
theorem pS_off_58 : alk tS_off 58 = some (.pop, 1) := rfl
theorem pS_off_59 : alk tS_off 59 = some (.iconst 0, 1) := rfl
theorem pS_off_60 : alk tS_off 60 = some (.ireturn, 1) := rfl
theorem pS_off_61 : alk tS_off 61 = some (.aload_n 0, 1) := rfl
theorem pS_off_62 : alk tS_off 62 = some (.getfield 12, 3) := rfl
theorem pS_off_65 : alk tS_off 65 = some (.iload_n 1, 1) := rfl
theorem pS_off_66 : alk tS_off 66 = some (.invokevirtual 318, 3) := rfl
theorem pS_off_69 : alk tS_off 69 = some (.istore_n 3, 1) := rfl
theorem pS_off_70 : alk tS_off 70 = some (.aload_n 0, 1) := rfl
theorem pS_off_71 : alk tS_off 71 = some (.getfield 12, 3) := rfl
theorem pS_off_74 : alk tS_off 74 = some (.iload_n 1, 1) := rfl
theorem pS_off_75 : alk tS_off 75 = some (.iload_n 2, 1) := rfl
theorem pS_off_76 : alk tS_off 76 = some (.invokevirtual 321, 3) := rfl
theorem pS_off_79 : alk tS_off 79 = some (.iload_n 3, 1) := rfl
theorem pS_off_80 : alk tS_off 80 = some (.ireturn, 1) := rfl
def tY_setOff : TB := [(0, .aload_n 0, 1), (1, .iload_n 1, 1), (2, .invokevirtual 34, 3), (5, .ifCond .eq 10, 3), (8, .aload_n 0, 1), (9, .getfield 22, 3), (12, .iload_n 1, 1), (13, .iload_n 2, 1), (14, .iastore, 1), (15, .return_, 1)]
set_option maxRecDepth 100000 in
theorem kY_setOff : tbOk (mB mY_setOff) tY_setOff = true := by decide +kernel
theorem pY_setOff_0 : alk tY_setOff 0 = some (.aload_n 0, 1) := rfl
theorem pY_setOff_1 : alk tY_setOff 1 = some (.iload_n 1, 1) := rfl
theorem pY_setOff_2 : alk tY_setOff 2 = some (.invokevirtual 34, 3) := rfl
theorem pY_setOff_5 : alk tY_setOff 5 = some (.ifCond .eq 10, 3) := rfl
theorem pY_setOff_8 : alk tY_setOff 8 = some (.aload_n 0, 1) := rfl
theorem pY_setOff_9 : alk tY_setOff 9 = some (.getfield 22, 3) := rfl
theorem pY_setOff_12 : alk tY_setOff 12 = some (.iload_n 1, 1) := rfl
theorem pY_setOff_13 : alk tY_setOff 13 = some (.iload_n 2, 1) := rfl
theorem pY_setOff_14 : alk tY_setOff 14 = some (.iastore, 1) := rfl
theorem pY_setOff_15 : alk tY_setOff 15 = some (.return_, 1) := rfl
def tS_test : TB := [(0, .aload_n 0, 1), (1, .getfield 12, 3), (4, .iload_n 1, 1), (5, .invokevirtual 89, 3), (8, .ifCond .ne 10, 3), (11, .aload_n 0, 1), (12, .bipush (-3), 2), (14, .invokevirtual 79, 3), (17, .ireturn, 1), (18, .aload_n 0, 1), (19, .getfield 12, 3), (22, .iload_n 1, 1), (23, .invokevirtual 120, 3), (26, .iconst 2, 1), (27, .if_icmp .eq 10, 3), (30, .aload_n 0, 1), (31, .bipush (-5), 2), (33, .invokevirtual 79, 3), (36, .ireturn, 1), (37, .aload_n 0, 1), (38, .iload_n 1, 1), (39, .aload_n 0, 1), (40, .getfield 12, 3), (43, .iload_n 1, 1), (44, .invokevirtual 318, 3), (47, .invokevirtual 324, 3), (50, .istore_n 2, 1), (51, .aload_n 0, 1), (52, .getfield 12, 3), (55, .iload_n 1, 1), (56, .iconst 0, 1), (57, .invokevirtual 321, 3), (60, .iload_n 2, 1), (61, .ireturn, 1)]
set_option maxRecDepth 100000 in
theorem kS_test : tbOk (mB mS_test) tS_test = true := by decide +kernel
theorem pS_test_0 : alk tS_test 0 = some (.aload_n 0, 1) := rfl
theorem pS_test_1 : alk tS_test 1 = some (.getfield 12, 3) := rfl
theorem pS_test_4 : alk tS_test 4 = some (.iload_n 1, 1) := rfl
theorem pS_test_5 : alk tS_test 5 = some (.invokevirtual 89, 3) := rfl
theorem pS_test_8 : alk tS_test 8 = some (.ifCond .ne 10, 3) := rfl
theorem pS_test_11 : alk tS_test 11 = some (.aload_n 0, 1) := rfl
theorem pS_test_12 : alk tS_test 12 = some (.bipush (-3), 2) := rfl
theorem pS_test_14 : alk tS_test 14 = some (.invokevirtual 79, 3) := rfl
theorem pS_test_17 : alk tS_test 17 = some (.ireturn, 1) := rfl
theorem pS_test_18 : alk tS_test 18 = some (.aload_n 0, 1) := rfl
theorem pS_test_19 : alk tS_test 19 = some (.getfield 12, 3) := rfl
theorem pS_test_22 : alk tS_test 22 = some (.iload_n 1, 1) := rfl
theorem pS_test_23 : alk tS_test 23 = some (.invokevirtual 120, 3) := rfl
theorem pS_test_26 : alk tS_test 26 = some (.iconst 2, 1) := rfl
theorem pS_test_27 : alk tS_test 27 = some (.if_icmp .eq 10, 3) := rfl
theorem pS_test_30 : alk tS_test 30 = some (.aload_n 0, 1) := rfl
theorem pS_test_31 : alk tS_test 31 = some (.bipush (-5), 2) := rfl
theorem pS_test_33 : alk tS_test 33 = some (.invokevirtual 79, 3) := rfl
theorem pS_test_36 : alk tS_test 36 = some (.ireturn, 1) := rfl
theorem pS_test_37 : alk tS_test 37 = some (.aload_n 0, 1) := rfl
theorem pS_test_38 : alk tS_test 38 = some (.iload_n 1, 1) := rfl
theorem pS_test_39 : alk tS_test 39 = some (.aload_n 0, 1) := rfl
theorem pS_test_40 : alk tS_test 40 = some (.getfield 12, 3) := rfl
theorem pS_test_43 : alk tS_test 43 = some (.iload_n 1, 1) := rfl
theorem pS_test_44 : alk tS_test 44 = some (.invokevirtual 318, 3) := rfl
theorem pS_test_47 : alk tS_test 47 = some (.invokevirtual 324, 3) := rfl
theorem pS_test_50 : alk tS_test 50 = some (.istore_n 2, 1) := rfl
theorem pS_test_51 : alk tS_test 51 = some (.aload_n 0, 1) := rfl
theorem pS_test_52 : alk tS_test 52 = some (.getfield 12, 3) := rfl
theorem pS_test_55 : alk tS_test 55 = some (.iload_n 1, 1) := rfl
theorem pS_test_56 : alk tS_test 56 = some (.iconst 0, 1) := rfl
theorem pS_test_57 : alk tS_test 57 = some (.invokevirtual 321, 3) := rfl
theorem pS_test_60 : alk tS_test 60 = some (.iload_n 2, 1) := rfl
theorem pS_test_61 : alk tS_test 61 = some (.ireturn, 1) := rfl
def tS_settle : TB := [(0, .iconst 0, 1), (1, .istore_n 3, 1), (2, .iconst 0, 1), (3, .istore 4, 2), (5, .iload 4, 2), (7, .aload_n 0, 1), (8, .getfield 19, 3), (11, .invokevirtual 96, 3), (14, .if_icmp .ge 44, 3), (17, .aload_n 0, 1), (18, .getfield 19, 3), (21, .iload 4, 2), (23, .invokevirtual 277, 3), (26, .checkcast 132, 3), (29, .getfield 186, 3), (32, .astore 5, 2), (34, .aload 5, 2), (36, .getfield 391, 3), (39, .iload_n 1, 1), (40, .if_icmp .ne 12, 3), (43, .aload 5, 2), (45, .iload_n 2, 1), (46, .invokevirtual 394, 3), (49, .iinc 3 1, 3), (52, .iinc 4 1, 3), (55, .goto (-50), 3), (58, .iload_n 2, 1), (59, .ifCond .ne 7, 3), (62, .iconst 0, 1), (63, .goto 4, 3), (66, .iload_n 3, 1), (67, .ireturn, 1)]
set_option maxRecDepth 100000 in
theorem kS_settle : tbOk (mB mS_settle) tS_settle = true := by decide +kernel
theorem pS_settle_0 : alk tS_settle 0 = some (.iconst 0, 1) := rfl
theorem pS_settle_1 : alk tS_settle 1 = some (.istore_n 3, 1) := rfl
theorem pS_settle_2 : alk tS_settle 2 = some (.iconst 0, 1) := rfl
theorem pS_settle_3 : alk tS_settle 3 = some (.istore 4, 2) := rfl
theorem pS_settle_5 : alk tS_settle 5 = some (.iload 4, 2) := rfl
theorem pS_settle_7 : alk tS_settle 7 = some (.aload_n 0, 1) := rfl
theorem pS_settle_8 : alk tS_settle 8 = some (.getfield 19, 3) := rfl
theorem pS_settle_11 : alk tS_settle 11 = some (.invokevirtual 96, 3) := rfl
theorem pS_settle_14 : alk tS_settle 14 = some (.if_icmp .ge 44, 3) := rfl
theorem pS_settle_17 : alk tS_settle 17 = some (.aload_n 0, 1) := rfl
theorem pS_settle_18 : alk tS_settle 18 = some (.getfield 19, 3) := rfl
theorem pS_settle_21 : alk tS_settle 21 = some (.iload 4, 2) := rfl
theorem pS_settle_23 : alk tS_settle 23 = some (.invokevirtual 277, 3) := rfl
theorem pS_settle_26 : alk tS_settle 26 = some (.checkcast 132, 3) := rfl
theorem pS_settle_29 : alk tS_settle 29 = some (.getfield 186, 3) := rfl
theorem pS_settle_32 : alk tS_settle 32 = some (.astore 5, 2) := rfl
theorem pS_settle_34 : alk tS_settle 34 = some (.aload 5, 2) := rfl
theorem pS_settle_36 : alk tS_settle 36 = some (.getfield 391, 3) := rfl
theorem pS_settle_39 : alk tS_settle 39 = some (.iload_n 1, 1) := rfl
theorem pS_settle_40 : alk tS_settle 40 = some (.if_icmp .ne 12, 3) := rfl
theorem pS_settle_43 : alk tS_settle 43 = some (.aload 5, 2) := rfl
theorem pS_settle_45 : alk tS_settle 45 = some (.iload_n 2, 1) := rfl
theorem pS_settle_46 : alk tS_settle 46 = some (.invokevirtual 394, 3) := rfl
theorem pS_settle_49 : alk tS_settle 49 = some (.iinc 3 1, 3) := rfl
theorem pS_settle_52 : alk tS_settle 52 = some (.iinc 4 1, 3) := rfl
theorem pS_settle_55 : alk tS_settle 55 = some (.goto (-50), 3) := rfl
theorem pS_settle_58 : alk tS_settle 58 = some (.iload_n 2, 1) := rfl
theorem pS_settle_59 : alk tS_settle 59 = some (.ifCond .ne 7, 3) := rfl
theorem pS_settle_62 : alk tS_settle 62 = some (.iconst 0, 1) := rfl
theorem pS_settle_63 : alk tS_settle 63 = some (.goto 4, 3) := rfl
theorem pS_settle_66 : alk tS_settle 66 = some (.iload_n 3, 1) := rfl
theorem pS_settle_67 : alk tS_settle 67 = some (.ireturn, 1) := rfl
def tE_correct : TB := [(0, .aload_n 0, 1), (1, .aload_n 0, 1), (2, .iconst 1, 1), (3, .aload_n 0, 1), (4, .getfield 28, 3), (7, .iload_n 1, 1), (8, .isub, 1), (9, .invokestatic 59, 3), (12, .invokevirtual 55, 3), (15, .putfield 37, 3), (18, .aload_n 0, 1), (19, .iconst (-1), 1), (20, .putfield 44, 3), (23, .return_, 1)]
set_option maxRecDepth 100000 in
theorem kE_correct : tbOk (mB mE_correct) tE_correct = true := by decide +kernel
theorem pE_correct_0 : alk tE_correct 0 = some (.aload_n 0, 1) := rfl
theorem pE_correct_1 : alk tE_correct 1 = some (.aload_n 0, 1) := rfl
theorem pE_correct_2 : alk tE_correct 2 = some (.iconst 1, 1) := rfl
theorem pE_correct_3 : alk tE_correct 3 = some (.aload_n 0, 1) := rfl
theorem pE_correct_4 : alk tE_correct 4 = some (.getfield 28, 3) := rfl
theorem pE_correct_7 : alk tE_correct 7 = some (.iload_n 1, 1) := rfl
theorem pE_correct_8 : alk tE_correct 8 = some (.isub, 1) := rfl
theorem pE_correct_9 : alk tE_correct 9 = some (.invokestatic 59, 3) := rfl
theorem pE_correct_12 : alk tE_correct 12 = some (.invokevirtual 55, 3) := rfl
theorem pE_correct_15 : alk tE_correct 15 = some (.putfield 37, 3) := rfl
theorem pE_correct_18 : alk tE_correct 18 = some (.aload_n 0, 1) := rfl
theorem pE_correct_19 : alk tE_correct 19 = some (.iconst (-1), 1) := rfl
theorem pE_correct_20 : alk tE_correct 20 = some (.putfield 44, 3) := rfl
theorem pE_correct_23 : alk tE_correct 23 = some (.return_, 1) := rfl
def tS_account : TB := [(0, .iload_n 1, 1), (1, .invokestatic 328, 3), (4, .ifCond .ne 12, 3), (7, .aload_n 0, 1), (8, .bipush (-3), 2), (10, .invokevirtual 79, 3), (13, .pop, 1), (14, .lconst 0, 1), (15, .lreturn, 1), (16, .lconst 0, 1), (17, .lstore_n 2, 1), (18, .iconst 0, 1), (19, .istore 4, 2), (21, .iload 4, 2), (23, .aload_n 0, 1), (24, .getfield 19, 3), (27, .invokevirtual 96, 3), (30, .if_icmp .ge 64, 3), (33, .aload_n 0, 1), (34, .getfield 19, 3), (37, .iload 4, 2), (39, .invokevirtual 277, 3), (42, .checkcast 132, 3), (45, .astore 5, 2), (47, .aload 5, 2), (49, .getfield 161, 3), (52, .iload_n 1, 1), (53, .if_icmp .ne 35, 3), (56, .aload 5, 2), (58, .getfield 186, 3), (61, .getfield 195, 3), (64, .ifCond .eq 24, 3), (67, .aload_n 0, 1), (68, .aload 5, 2), (70, .invokevirtual 182, 3), (73, .ifCond .ne 15, 3), (76, .lload_n 2, 1), (77, .aload 5, 2), (79, .getfield 186, 3), (82, .getfield 199, 3), (85, .i2l, 1), (86, .ladd, 1), (87, .lstore_n 2, 1), (88, .iinc 4 1, 3), (91, .goto (-70), 3), (94, .lload_n 2, 1), (95, .lreturn, 1)]
set_option maxRecDepth 100000 in
theorem kS_account : tbOk (mB mS_account) tS_account = true := by decide +kernel
theorem pS_account_0 : alk tS_account 0 = some (.iload_n 1, 1) := rfl
theorem pS_account_1 : alk tS_account 1 = some (.invokestatic 328, 3) := rfl
theorem pS_account_4 : alk tS_account 4 = some (.ifCond .ne 12, 3) := rfl
theorem pS_account_7 : alk tS_account 7 = some (.aload_n 0, 1) := rfl
theorem pS_account_8 : alk tS_account 8 = some (.bipush (-3), 2) := rfl
theorem pS_account_10 : alk tS_account 10 = some (.invokevirtual 79, 3) := rfl
theorem pS_account_13 : alk tS_account 13 = some (.pop, 1) := rfl
theorem pS_account_14 : alk tS_account 14 = some (.lconst 0, 1) := rfl
theorem pS_account_15 : alk tS_account 15 = some (.lreturn, 1) := rfl
theorem pS_account_16 : alk tS_account 16 = some (.lconst 0, 1) := rfl
theorem pS_account_17 : alk tS_account 17 = some (.lstore_n 2, 1) := rfl
theorem pS_account_18 : alk tS_account 18 = some (.iconst 0, 1) := rfl
theorem pS_account_19 : alk tS_account 19 = some (.istore 4, 2) := rfl
theorem pS_account_21 : alk tS_account 21 = some (.iload 4, 2) := rfl
theorem pS_account_23 : alk tS_account 23 = some (.aload_n 0, 1) := rfl
theorem pS_account_24 : alk tS_account 24 = some (.getfield 19, 3) := rfl
theorem pS_account_27 : alk tS_account 27 = some (.invokevirtual 96, 3) := rfl
theorem pS_account_30 : alk tS_account 30 = some (.if_icmp .ge 64, 3) := rfl
theorem pS_account_33 : alk tS_account 33 = some (.aload_n 0, 1) := rfl
theorem pS_account_34 : alk tS_account 34 = some (.getfield 19, 3) := rfl
theorem pS_account_37 : alk tS_account 37 = some (.iload 4, 2) := rfl
theorem pS_account_39 : alk tS_account 39 = some (.invokevirtual 277, 3) := rfl
theorem pS_account_42 : alk tS_account 42 = some (.checkcast 132, 3) := rfl
theorem pS_account_45 : alk tS_account 45 = some (.astore 5, 2) := rfl
theorem pS_account_47 : alk tS_account 47 = some (.aload 5, 2) := rfl
theorem pS_account_49 : alk tS_account 49 = some (.getfield 161, 3) := rfl
theorem pS_account_52 : alk tS_account 52 = some (.iload_n 1, 1) := rfl
theorem pS_account_53 : alk tS_account 53 = some (.if_icmp .ne 35, 3) := rfl
theorem pS_account_56 : alk tS_account 56 = some (.aload 5, 2) := rfl
theorem pS_account_58 : alk tS_account 58 = some (.getfield 186, 3) := rfl
theorem pS_account_61 : alk tS_account 61 = some (.getfield 195, 3) := rfl
theorem pS_account_64 : alk tS_account 64 = some (.ifCond .eq 24, 3) := rfl
theorem pS_account_67 : alk tS_account 67 = some (.aload_n 0, 1) := rfl
theorem pS_account_68 : alk tS_account 68 = some (.aload 5, 2) := rfl
theorem pS_account_70 : alk tS_account 70 = some (.invokevirtual 182, 3) := rfl
theorem pS_account_73 : alk tS_account 73 = some (.ifCond .ne 15, 3) := rfl
theorem pS_account_76 : alk tS_account 76 = some (.lload_n 2, 1) := rfl
theorem pS_account_77 : alk tS_account 77 = some (.aload 5, 2) := rfl
theorem pS_account_79 : alk tS_account 79 = some (.getfield 186, 3) := rfl
theorem pS_account_82 : alk tS_account 82 = some (.getfield 199, 3) := rfl
theorem pS_account_85 : alk tS_account 85 = some (.i2l, 1) := rfl
theorem pS_account_86 : alk tS_account 86 = some (.ladd, 1) := rfl
theorem pS_account_87 : alk tS_account 87 = some (.lstore_n 2, 1) := rfl
theorem pS_account_88 : alk tS_account 88 = some (.iinc 4 1, 3) := rfl
theorem pS_account_91 : alk tS_account 91 = some (.goto (-70), 3) := rfl
theorem pS_account_94 : alk tS_account 94 = some (.lload_n 2, 1) := rfl
theorem pS_account_95 : alk tS_account 95 = some (.lreturn, 1) := rfl
def tS_write : TB := [(0, .iload_n 2, 1), (1, .invokestatic 328, 3), (4, .ifCond .ne 10, 3), (7, .aload_n 0, 1), (8, .bipush (-3), 2), (10, .invokevirtual 79, 3), (13, .ireturn, 1), (14, .iload_n 1, 1), (15, .invokestatic 126, 3), (18, .ifCond .eq 15, 3), (21, .aload_n 0, 1), (22, .getfield 40, 3), (25, .iload_n 1, 1), (26, .invokevirtual 331, 3), (29, .iconst (-1), 1), (30, .if_icmp .eq 10, 3), (33, .aload_n 0, 1), (34, .bipush (-7), 2), (36, .invokevirtual 79, 3), (39, .ireturn, 1), (40, .aload_n 0, 1), (41, .getfield 40, 3), (44, .getfield 334, 3), (47, .bipush 20, 2), (49, .if_icmp .lt 10, 3), (52, .aload_n 0, 1), (53, .bipush (-8), 2), (55, .invokevirtual 79, 3), (58, .ireturn, 1), (59, .aload_n 0, 1), (60, .getfield 40, 3), (63, .iload_n 1, 1), (64, .iload_n 2, 1), (65, .invokevirtual 335, 3), (68, .aload_n 0, 1), (69, .getfield 40, 3), (72, .getfield 334, 3), (75, .ireturn, 1)]
set_option maxRecDepth 100000 in
theorem kS_write : tbOk (mB mS_write) tS_write = true := by decide +kernel
theorem pS_write_0 : alk tS_write 0 = some (.iload_n 2, 1) := rfl
theorem pS_write_1 : alk tS_write 1 = some (.invokestatic 328, 3) := rfl
theorem pS_write_4 : alk tS_write 4 = some (.ifCond .ne 10, 3) := rfl
theorem pS_write_7 : alk tS_write 7 = some (.aload_n 0, 1) := rfl
theorem pS_write_8 : alk tS_write 8 = some (.bipush (-3), 2) := rfl
theorem pS_write_10 : alk tS_write 10 = some (.invokevirtual 79, 3) := rfl
theorem pS_write_13 : alk tS_write 13 = some (.ireturn, 1) := rfl
theorem pS_write_14 : alk tS_write 14 = some (.iload_n 1, 1) := rfl
theorem pS_write_15 : alk tS_write 15 = some (.invokestatic 126, 3) := rfl
theorem pS_write_18 : alk tS_write 18 = some (.ifCond .eq 15, 3) := rfl
theorem pS_write_21 : alk tS_write 21 = some (.aload_n 0, 1) := rfl
theorem pS_write_22 : alk tS_write 22 = some (.getfield 40, 3) := rfl
theorem pS_write_25 : alk tS_write 25 = some (.iload_n 1, 1) := rfl
theorem pS_write_26 : alk tS_write 26 = some (.invokevirtual 331, 3) := rfl
theorem pS_write_29 : alk tS_write 29 = some (.iconst (-1), 1) := rfl
theorem pS_write_30 : alk tS_write 30 = some (.if_icmp .eq 10, 3) := rfl
theorem pS_write_33 : alk tS_write 33 = some (.aload_n 0, 1) := rfl
theorem pS_write_34 : alk tS_write 34 = some (.bipush (-7), 2) := rfl
theorem pS_write_36 : alk tS_write 36 = some (.invokevirtual 79, 3) := rfl
theorem pS_write_39 : alk tS_write 39 = some (.ireturn, 1) := rfl
theorem pS_write_40 : alk tS_write 40 = some (.aload_n 0, 1) := rfl
theorem pS_write_41 : alk tS_write 41 = some (.getfield 40, 3) := rfl
theorem pS_write_44 : alk tS_write 44 = some (.getfield 334, 3) := rfl
theorem pS_write_47 : alk tS_write 47 = some (.bipush 20, 2) := rfl
theorem pS_write_49 : alk tS_write 49 = some (.if_icmp .lt 10, 3) := rfl
theorem pS_write_52 : alk tS_write 52 = some (.aload_n 0, 1) := rfl
theorem pS_write_53 : alk tS_write 53 = some (.bipush (-8), 2) := rfl
theorem pS_write_55 : alk tS_write 55 = some (.invokevirtual 79, 3) := rfl
theorem pS_write_58 : alk tS_write 58 = some (.ireturn, 1) := rfl
theorem pS_write_59 : alk tS_write 59 = some (.aload_n 0, 1) := rfl
theorem pS_write_60 : alk tS_write 60 = some (.getfield 40, 3) := rfl
theorem pS_write_63 : alk tS_write 63 = some (.iload_n 1, 1) := rfl
theorem pS_write_64 : alk tS_write 64 = some (.iload_n 2, 1) := rfl
theorem pS_write_65 : alk tS_write 65 = some (.invokevirtual 335, 3) := rfl
theorem pS_write_68 : alk tS_write 68 = some (.aload_n 0, 1) := rfl
theorem pS_write_69 : alk tS_write 69 = some (.getfield 40, 3) := rfl
theorem pS_write_72 : alk tS_write 72 = some (.getfield 334, 3) := rfl
theorem pS_write_75 : alk tS_write 75 = some (.ireturn, 1) := rfl
def tK_add : TB := [(0, .aload_n 0, 1), (1, .getfield 18, 3), (4, .bipush 20, 2), (6, .if_icmp .ge 33, 3), (9, .aload_n 0, 1), (10, .getfield 9, 3), (13, .aload_n 0, 1), (14, .getfield 18, 3), (17, .iload_n 1, 1), (18, .iastore, 1), (19, .aload_n 0, 1), (20, .getfield 15, 3), (23, .aload_n 0, 1), (24, .getfield 18, 3), (27, .iload_n 2, 1), (28, .iastore, 1), (29, .aload_n 0, 1), (30, .dup, 1), (31, .getfield 18, 3), (34, .iconst 1, 1), (35, .iadd, 1), (36, .putfield 18, 3), (39, .return_, 1)]
set_option maxRecDepth 100000 in
theorem kK_add : tbOk (mB mK_add) tK_add = true := by decide +kernel
theorem pK_add_0 : alk tK_add 0 = some (.aload_n 0, 1) := rfl
theorem pK_add_1 : alk tK_add 1 = some (.getfield 18, 3) := rfl
theorem pK_add_4 : alk tK_add 4 = some (.bipush 20, 2) := rfl
theorem pK_add_6 : alk tK_add 6 = some (.if_icmp .ge 33, 3) := rfl
theorem pK_add_9 : alk tK_add 9 = some (.aload_n 0, 1) := rfl
theorem pK_add_10 : alk tK_add 10 = some (.getfield 9, 3) := rfl
theorem pK_add_13 : alk tK_add 13 = some (.aload_n 0, 1) := rfl
theorem pK_add_14 : alk tK_add 14 = some (.getfield 18, 3) := rfl
theorem pK_add_17 : alk tK_add 17 = some (.iload_n 1, 1) := rfl
theorem pK_add_18 : alk tK_add 18 = some (.iastore, 1) := rfl
theorem pK_add_19 : alk tK_add 19 = some (.aload_n 0, 1) := rfl
theorem pK_add_20 : alk tK_add 20 = some (.getfield 15, 3) := rfl
theorem pK_add_23 : alk tK_add 23 = some (.aload_n 0, 1) := rfl
theorem pK_add_24 : alk tK_add 24 = some (.getfield 18, 3) := rfl
theorem pK_add_27 : alk tK_add 27 = some (.iload_n 2, 1) := rfl
theorem pK_add_28 : alk tK_add 28 = some (.iastore, 1) := rfl
theorem pK_add_29 : alk tK_add 29 = some (.aload_n 0, 1) := rfl
theorem pK_add_30 : alk tK_add 30 = some (.dup, 1) := rfl
theorem pK_add_31 : alk tK_add 31 = some (.getfield 18, 3) := rfl
theorem pK_add_34 : alk tK_add 34 = some (.iconst 1, 1) := rfl
theorem pK_add_35 : alk tK_add 35 = some (.iadd, 1) := rfl
theorem pK_add_36 : alk tK_add 36 = some (.putfield 18, 3) := rfl
theorem pK_add_39 : alk tK_add 39 = some (.return_, 1) := rfl
def tS_whose : TB := [(0, .iload_n 1, 1), (1, .invokestatic 126, 3), (4, .ifCond .eq 14, 3), (7, .aload_n 0, 1), (8, .getfield 40, 3), (11, .iload_n 1, 1), (12, .invokevirtual 331, 3), (15, .goto 9, 3), (18, .aload_n 0, 1), (19, .bipush (-7), 2), (21, .invokevirtual 79, 3), (24, .ireturn, 1)]
set_option maxRecDepth 100000 in
theorem kS_whose : tbOk (mB mS_whose) tS_whose = true := by decide +kernel
theorem pS_whose_0 : alk tS_whose 0 = some (.iload_n 1, 1) := rfl
theorem pS_whose_1 : alk tS_whose 1 = some (.invokestatic 126, 3) := rfl
theorem pS_whose_4 : alk tS_whose 4 = some (.ifCond .eq 14, 3) := rfl
theorem pS_whose_7 : alk tS_whose 7 = some (.aload_n 0, 1) := rfl
theorem pS_whose_8 : alk tS_whose 8 = some (.getfield 40, 3) := rfl
theorem pS_whose_11 : alk tS_whose 11 = some (.iload_n 1, 1) := rfl
theorem pS_whose_12 : alk tS_whose 12 = some (.invokevirtual 331, 3) := rfl
theorem pS_whose_15 : alk tS_whose 15 = some (.goto 9, 3) := rfl
theorem pS_whose_18 : alk tS_whose 18 = some (.aload_n 0, 1) := rfl
theorem pS_whose_19 : alk tS_whose 19 = some (.bipush (-7), 2) := rfl
theorem pS_whose_21 : alk tS_whose 21 = some (.invokevirtual 79, 3) := rfl
theorem pS_whose_24 : alk tS_whose 24 = some (.ireturn, 1) := rfl
def tS_near : TB := [(0, .iload_n 1, 1), (1, .invokestatic 126, 3), (4, .ifCond .eq 14, 3), (7, .aload_n 0, 1), (8, .getfield 40, 3), (11, .iload_n 1, 1), (12, .invokevirtual 337, 3), (15, .goto 9, 3), (18, .aload_n 0, 1), (19, .bipush (-7), 2), (21, .invokevirtual 79, 3), (24, .ireturn, 1)]
set_option maxRecDepth 100000 in
theorem kS_near : tbOk (mB mS_near) tS_near = true := by decide +kernel
theorem pS_near_0 : alk tS_near 0 = some (.iload_n 1, 1) := rfl
theorem pS_near_1 : alk tS_near 1 = some (.invokestatic 126, 3) := rfl
theorem pS_near_4 : alk tS_near 4 = some (.ifCond .eq 14, 3) := rfl
theorem pS_near_7 : alk tS_near 7 = some (.aload_n 0, 1) := rfl
theorem pS_near_8 : alk tS_near 8 = some (.getfield 40, 3) := rfl
theorem pS_near_11 : alk tS_near 11 = some (.iload_n 1, 1) := rfl
theorem pS_near_12 : alk tS_near 12 = some (.invokevirtual 337, 3) := rfl
theorem pS_near_15 : alk tS_near 15 = some (.goto 9, 3) := rfl
theorem pS_near_18 : alk tS_near 18 = some (.aload_n 0, 1) := rfl
theorem pS_near_19 : alk tS_near 19 = some (.bipush (-7), 2) := rfl
theorem pS_near_21 : alk tS_near 21 = some (.invokevirtual 79, 3) := rfl
theorem pS_near_24 : alk tS_near 24 = some (.ireturn, 1) := rfl
def tK_countNear : TB := [(0, .iconst 0, 1), (1, .istore_n 2, 1), (2, .iconst 0, 1), (3, .istore_n 3, 1), (4, .iload_n 3, 1), (5, .aload_n 0, 1), (6, .getfield 18, 3), (9, .if_icmp .ge 36, 3), (12, .iload_n 3, 1), (13, .bipush 20, 2), (15, .if_icmp .ge 30, 3), (18, .iload_n 2, 1), (19, .aload_n 0, 1), (20, .getfield 9, 3), (23, .iload_n 3, 1), (24, .iaload, 1), (25, .iload_n 1, 1), (26, .invokestatic 22, 3), (29, .ifCond .eq 7, 3), (32, .iconst 1, 1), (33, .goto 4, 3), (36, .iconst 0, 1), (37, .iadd, 1), (38, .istore_n 2, 1), (39, .iinc 3 1, 3), (42, .goto (-38), 3), (45, .iload_n 2, 1), (46, .ireturn, 1)]
set_option maxRecDepth 100000 in
theorem kK_countNear : tbOk (mB mK_countNear) tK_countNear = true := by decide +kernel
theorem pK_countNear_0 : alk tK_countNear 0 = some (.iconst 0, 1) := rfl
theorem pK_countNear_1 : alk tK_countNear 1 = some (.istore_n 2, 1) := rfl
theorem pK_countNear_2 : alk tK_countNear 2 = some (.iconst 0, 1) := rfl
theorem pK_countNear_3 : alk tK_countNear 3 = some (.istore_n 3, 1) := rfl
theorem pK_countNear_4 : alk tK_countNear 4 = some (.iload_n 3, 1) := rfl
theorem pK_countNear_5 : alk tK_countNear 5 = some (.aload_n 0, 1) := rfl
theorem pK_countNear_6 : alk tK_countNear 6 = some (.getfield 18, 3) := rfl
theorem pK_countNear_9 : alk tK_countNear 9 = some (.if_icmp .ge 36, 3) := rfl
theorem pK_countNear_12 : alk tK_countNear 12 = some (.iload_n 3, 1) := rfl
theorem pK_countNear_13 : alk tK_countNear 13 = some (.bipush 20, 2) := rfl
theorem pK_countNear_15 : alk tK_countNear 15 = some (.if_icmp .ge 30, 3) := rfl
theorem pK_countNear_18 : alk tK_countNear 18 = some (.iload_n 2, 1) := rfl
theorem pK_countNear_19 : alk tK_countNear 19 = some (.aload_n 0, 1) := rfl
theorem pK_countNear_20 : alk tK_countNear 20 = some (.getfield 9, 3) := rfl
theorem pK_countNear_23 : alk tK_countNear 23 = some (.iload_n 3, 1) := rfl
theorem pK_countNear_24 : alk tK_countNear 24 = some (.iaload, 1) := rfl
theorem pK_countNear_25 : alk tK_countNear 25 = some (.iload_n 1, 1) := rfl
theorem pK_countNear_26 : alk tK_countNear 26 = some (.invokestatic 22, 3) := rfl
theorem pK_countNear_29 : alk tK_countNear 29 = some (.ifCond .eq 7, 3) := rfl
theorem pK_countNear_32 : alk tK_countNear 32 = some (.iconst 1, 1) := rfl
theorem pK_countNear_33 : alk tK_countNear 33 = some (.goto 4, 3) := rfl
theorem pK_countNear_36 : alk tK_countNear 36 = some (.iconst 0, 1) := rfl
theorem pK_countNear_37 : alk tK_countNear 37 = some (.iadd, 1) := rfl
theorem pK_countNear_38 : alk tK_countNear 38 = some (.istore_n 2, 1) := rfl
theorem pK_countNear_39 : alk tK_countNear 39 = some (.iinc 3 1, 3) := rfl
theorem pK_countNear_42 : alk tK_countNear 42 = some (.goto (-38), 3) := rfl
theorem pK_countNear_45 : alk tK_countNear 45 = some (.iload_n 2, 1) := rfl
theorem pK_countNear_46 : alk tK_countNear 46 = some (.ireturn, 1) := rfl
def tS_judge : TB := [(0, .aload_n 0, 1), (1, .iload_n 1, 1), (2, .invokevirtual 141, 3), (5, .astore_n 3, 1), (6, .aload_n 3, 1), (7, .ifnull 10, 3), (10, .iload_n 2, 1), (11, .invokestatic 328, 3), (14, .ifCond .ne 10, 3), (17, .aload_n 0, 1), (18, .bipush (-3), 2), (20, .invokevirtual 79, 3), (23, .ireturn, 1), (24, .aload_n 0, 1), (25, .aload_n 3, 1), (26, .invokevirtual 182, 3), (29, .ifCond .eq 7, 3), (32, .iconst 1, 1), (33, .goto 4, 3), (36, .iconst 0, 1), (37, .istore 4, 2), (39, .aload_n 3, 1), (40, .iload_n 2, 1), (41, .putfield 161, 3), (44, .aload_n 3, 1), (45, .iconst 1, 1), (46, .putfield 340, 3), (49, .iload 4, 2), (51, .ireturn, 1)]
set_option maxRecDepth 100000 in
theorem kS_judge : tbOk (mB mS_judge) tS_judge = true := by decide +kernel
theorem pS_judge_0 : alk tS_judge 0 = some (.aload_n 0, 1) := rfl
theorem pS_judge_1 : alk tS_judge 1 = some (.iload_n 1, 1) := rfl
theorem pS_judge_2 : alk tS_judge 2 = some (.invokevirtual 141, 3) := rfl
theorem pS_judge_5 : alk tS_judge 5 = some (.astore_n 3, 1) := rfl
theorem pS_judge_6 : alk tS_judge 6 = some (.aload_n 3, 1) := rfl
theorem pS_judge_7 : alk tS_judge 7 = some (.ifnull 10, 3) := rfl
theorem pS_judge_10 : alk tS_judge 10 = some (.iload_n 2, 1) := rfl
theorem pS_judge_11 : alk tS_judge 11 = some (.invokestatic 328, 3) := rfl
theorem pS_judge_14 : alk tS_judge 14 = some (.ifCond .ne 10, 3) := rfl
theorem pS_judge_17 : alk tS_judge 17 = some (.aload_n 0, 1) := rfl
theorem pS_judge_18 : alk tS_judge 18 = some (.bipush (-3), 2) := rfl
theorem pS_judge_20 : alk tS_judge 20 = some (.invokevirtual 79, 3) := rfl
theorem pS_judge_23 : alk tS_judge 23 = some (.ireturn, 1) := rfl
theorem pS_judge_24 : alk tS_judge 24 = some (.aload_n 0, 1) := rfl
theorem pS_judge_25 : alk tS_judge 25 = some (.aload_n 3, 1) := rfl
theorem pS_judge_26 : alk tS_judge 26 = some (.invokevirtual 182, 3) := rfl
theorem pS_judge_29 : alk tS_judge 29 = some (.ifCond .eq 7, 3) := rfl
theorem pS_judge_32 : alk tS_judge 32 = some (.iconst 1, 1) := rfl
theorem pS_judge_33 : alk tS_judge 33 = some (.goto 4, 3) := rfl
theorem pS_judge_36 : alk tS_judge 36 = some (.iconst 0, 1) := rfl
theorem pS_judge_37 : alk tS_judge 37 = some (.istore 4, 2) := rfl
theorem pS_judge_39 : alk tS_judge 39 = some (.aload_n 3, 1) := rfl
theorem pS_judge_40 : alk tS_judge 40 = some (.iload_n 2, 1) := rfl
theorem pS_judge_41 : alk tS_judge 41 = some (.putfield 161, 3) := rfl
theorem pS_judge_44 : alk tS_judge 44 = some (.aload_n 3, 1) := rfl
theorem pS_judge_45 : alk tS_judge 45 = some (.iconst 1, 1) := rfl
theorem pS_judge_46 : alk tS_judge 46 = some (.putfield 340, 3) := rfl
theorem pS_judge_49 : alk tS_judge 49 = some (.iload 4, 2) := rfl
theorem pS_judge_51 : alk tS_judge 51 = some (.ireturn, 1) := rfl
def tS_run : TB := [(0, .iload_n 1, 1), (1, .ifCond .ge 10, 3), (4, .aload_n 0, 1), (5, .bipush (-4), 2), (7, .invokevirtual 79, 3), (10, .ireturn, 1), (11, .iload_n 1, 1), (12, .iconst 1, 1), (13, .sipush 1000, 3), (16, .invokestatic 75, 3), (19, .ifCond .ne 10, 3), (22, .aload_n 0, 1), (23, .bipush (-7), 2), (25, .invokevirtual 79, 3), (28, .ireturn, 1), (29, .aload_n 0, 1), (30, .dup, 1), (31, .getfield 71, 3), (34, .iload_n 1, 1), (35, .iadd, 1), (36, .putfield 71, 3), (39, .aload_n 0, 1), (40, .getfield 12, 3), (43, .aload_n 0, 1), (44, .getfield 71, 3), (47, .invokevirtual 343, 3), (50, .iconst 0, 1), (51, .istore_n 2, 1), (52, .iconst 0, 1), (53, .istore_n 3, 1), (54, .iload_n 3, 1), (55, .aload_n 0, 1), (56, .getfield 19, 3), (59, .invokevirtual 96, 3), (62, .if_icmp .ge 33, 3), (65, .aload_n 0, 1), (66, .getfield 19, 3), (69, .iload_n 3, 1), (70, .invokevirtual 277, 3), (73, .checkcast 132, 3), (76, .aload_n 0, 1), (77, .getfield 71, 3), (80, .invokevirtual 346, 3), (83, .ifCond .eq 6, 3), (86, .iinc 2 1, 3), (89, .iinc 3 1, 3), (92, .goto (-38), 3), (95, .iload_n 2, 1), (96, .ireturn, 1)]
set_option maxRecDepth 100000 in
theorem kS_run : tbOk (mB mS_run) tS_run = true := by decide +kernel
theorem pS_run_0 : alk tS_run 0 = some (.iload_n 1, 1) := rfl
theorem pS_run_1 : alk tS_run 1 = some (.ifCond .ge 10, 3) := rfl
theorem pS_run_4 : alk tS_run 4 = some (.aload_n 0, 1) := rfl
theorem pS_run_5 : alk tS_run 5 = some (.bipush (-4), 2) := rfl
theorem pS_run_7 : alk tS_run 7 = some (.invokevirtual 79, 3) := rfl
theorem pS_run_10 : alk tS_run 10 = some (.ireturn, 1) := rfl
theorem pS_run_11 : alk tS_run 11 = some (.iload_n 1, 1) := rfl
theorem pS_run_12 : alk tS_run 12 = some (.iconst 1, 1) := rfl
theorem pS_run_13 : alk tS_run 13 = some (.sipush 1000, 3) := rfl
theorem pS_run_16 : alk tS_run 16 = some (.invokestatic 75, 3) := rfl
theorem pS_run_19 : alk tS_run 19 = some (.ifCond .ne 10, 3) := rfl
theorem pS_run_22 : alk tS_run 22 = some (.aload_n 0, 1) := rfl
theorem pS_run_23 : alk tS_run 23 = some (.bipush (-7), 2) := rfl
theorem pS_run_25 : alk tS_run 25 = some (.invokevirtual 79, 3) := rfl
theorem pS_run_28 : alk tS_run 28 = some (.ireturn, 1) := rfl
theorem pS_run_29 : alk tS_run 29 = some (.aload_n 0, 1) := rfl
theorem pS_run_30 : alk tS_run 30 = some (.dup, 1) := rfl
theorem pS_run_31 : alk tS_run 31 = some (.getfield 71, 3) := rfl
theorem pS_run_34 : alk tS_run 34 = some (.iload_n 1, 1) := rfl
theorem pS_run_35 : alk tS_run 35 = some (.iadd, 1) := rfl
theorem pS_run_36 : alk tS_run 36 = some (.putfield 71, 3) := rfl
theorem pS_run_39 : alk tS_run 39 = some (.aload_n 0, 1) := rfl
theorem pS_run_40 : alk tS_run 40 = some (.getfield 12, 3) := rfl
theorem pS_run_43 : alk tS_run 43 = some (.aload_n 0, 1) := rfl
theorem pS_run_44 : alk tS_run 44 = some (.getfield 71, 3) := rfl
theorem pS_run_47 : alk tS_run 47 = some (.invokevirtual 343, 3) := rfl
theorem pS_run_50 : alk tS_run 50 = some (.iconst 0, 1) := rfl
theorem pS_run_51 : alk tS_run 51 = some (.istore_n 2, 1) := rfl
theorem pS_run_52 : alk tS_run 52 = some (.iconst 0, 1) := rfl
theorem pS_run_53 : alk tS_run 53 = some (.istore_n 3, 1) := rfl
theorem pS_run_54 : alk tS_run 54 = some (.iload_n 3, 1) := rfl
theorem pS_run_55 : alk tS_run 55 = some (.aload_n 0, 1) := rfl
theorem pS_run_56 : alk tS_run 56 = some (.getfield 19, 3) := rfl
theorem pS_run_59 : alk tS_run 59 = some (.invokevirtual 96, 3) := rfl
theorem pS_run_62 : alk tS_run 62 = some (.if_icmp .ge 33, 3) := rfl
theorem pS_run_65 : alk tS_run 65 = some (.aload_n 0, 1) := rfl
theorem pS_run_66 : alk tS_run 66 = some (.getfield 19, 3) := rfl
theorem pS_run_69 : alk tS_run 69 = some (.iload_n 3, 1) := rfl
theorem pS_run_70 : alk tS_run 70 = some (.invokevirtual 277, 3) := rfl
theorem pS_run_73 : alk tS_run 73 = some (.checkcast 132, 3) := rfl
theorem pS_run_76 : alk tS_run 76 = some (.aload_n 0, 1) := rfl
theorem pS_run_77 : alk tS_run 77 = some (.getfield 71, 3) := rfl
theorem pS_run_80 : alk tS_run 80 = some (.invokevirtual 346, 3) := rfl
theorem pS_run_83 : alk tS_run 83 = some (.ifCond .eq 6, 3) := rfl
theorem pS_run_86 : alk tS_run 86 = some (.iinc 2 1, 3) := rfl
theorem pS_run_89 : alk tS_run 89 = some (.iinc 3 1, 3) := rfl
theorem pS_run_92 : alk tS_run 92 = some (.goto (-38), 3) := rfl
theorem pS_run_95 : alk tS_run 95 = some (.iload_n 2, 1) := rfl
theorem pS_run_96 : alk tS_run 96 = some (.ireturn, 1) := rfl
def tY_forgetBefore : TB := [(0, .iconst 0, 1), (1, .istore_n 2, 1), (2, .iload_n 2, 1), (3, .aload_n 0, 1), (4, .getfield 12, 3), (7, .invokevirtual 57, 3), (10, .if_icmp .ge 24, 3), (13, .aload_n 0, 1), (14, .getfield 12, 3), (17, .iload_n 2, 1), (18, .invokevirtual 69, 3), (21, .checkcast 39, 3), (24, .iload_n 1, 1), (25, .invokevirtual 108, 3), (28, .iinc 2 1, 3), (31, .goto (-29), 3), (34, .return_, 1)]
set_option maxRecDepth 100000 in
theorem kY_forgetBefore : tbOk (mB mY_forgetBefore) tY_forgetBefore = true := by decide +kernel
theorem pY_forgetBefore_0 : alk tY_forgetBefore 0 = some (.iconst 0, 1) := rfl
theorem pY_forgetBefore_1 : alk tY_forgetBefore 1 = some (.istore_n 2, 1) := rfl
theorem pY_forgetBefore_2 : alk tY_forgetBefore 2 = some (.iload_n 2, 1) := rfl
theorem pY_forgetBefore_3 : alk tY_forgetBefore 3 = some (.aload_n 0, 1) := rfl
theorem pY_forgetBefore_4 : alk tY_forgetBefore 4 = some (.getfield 12, 3) := rfl
theorem pY_forgetBefore_7 : alk tY_forgetBefore 7 = some (.invokevirtual 57, 3) := rfl
theorem pY_forgetBefore_10 : alk tY_forgetBefore 10 = some (.if_icmp .ge 24, 3) := rfl
theorem pY_forgetBefore_13 : alk tY_forgetBefore 13 = some (.aload_n 0, 1) := rfl
theorem pY_forgetBefore_14 : alk tY_forgetBefore 14 = some (.getfield 12, 3) := rfl
theorem pY_forgetBefore_17 : alk tY_forgetBefore 17 = some (.iload_n 2, 1) := rfl
theorem pY_forgetBefore_18 : alk tY_forgetBefore 18 = some (.invokevirtual 69, 3) := rfl
theorem pY_forgetBefore_21 : alk tY_forgetBefore 21 = some (.checkcast 39, 3) := rfl
theorem pY_forgetBefore_24 : alk tY_forgetBefore 24 = some (.iload_n 1, 1) := rfl
theorem pY_forgetBefore_25 : alk tY_forgetBefore 25 = some (.invokevirtual 108, 3) := rfl
theorem pY_forgetBefore_28 : alk tY_forgetBefore 28 = some (.iinc 2 1, 3) := rfl
theorem pY_forgetBefore_31 : alk tY_forgetBefore 31 = some (.goto (-29), 3) := rfl
theorem pY_forgetBefore_34 : alk tY_forgetBefore 34 = some (.return_, 1) := rfl
def tA_forgetBefore : TB := [(0, .iconst 0, 1), (1, .istore_n 2, 1), (2, .iconst 0, 1), (3, .istore_n 3, 1), (4, .iload_n 3, 1), (5, .aload_n 0, 1), (6, .getfield 15, 3), (9, .if_icmp .ge 48, 3), (12, .iload_n 3, 1), (13, .aload_n 0, 1), (14, .getfield 9, 3), (17, .arraylength, 1), (18, .if_icmp .ge 39, 3), (21, .aload_n 0, 1), (22, .getfield 9, 3), (25, .iload_n 3, 1), (26, .iaload, 1), (27, .aload_n 0, 1), (28, .getfield 25, 3), (31, .iadd, 1), (32, .iload_n 1, 1), (33, .if_icmp .le 18, 3), (36, .aload_n 0, 1), (37, .getfield 9, 3), (40, .iload_n 2, 1), (41, .aload_n 0, 1), (42, .getfield 9, 3), (45, .iload_n 3, 1), (46, .iaload, 1), (47, .iastore, 1), (48, .iinc 2 1, 3), (51, .iinc 3 1, 3), (54, .goto (-50), 3), (57, .aload_n 0, 1), (58, .iload_n 2, 1), (59, .putfield 15, 3), (62, .return_, 1)]
set_option maxRecDepth 100000 in
theorem kA_forgetBefore : tbOk (mB mA_forgetBefore) tA_forgetBefore = true := by decide +kernel
theorem pA_forgetBefore_0 : alk tA_forgetBefore 0 = some (.iconst 0, 1) := rfl
theorem pA_forgetBefore_1 : alk tA_forgetBefore 1 = some (.istore_n 2, 1) := rfl
theorem pA_forgetBefore_2 : alk tA_forgetBefore 2 = some (.iconst 0, 1) := rfl
theorem pA_forgetBefore_3 : alk tA_forgetBefore 3 = some (.istore_n 3, 1) := rfl
theorem pA_forgetBefore_4 : alk tA_forgetBefore 4 = some (.iload_n 3, 1) := rfl
theorem pA_forgetBefore_5 : alk tA_forgetBefore 5 = some (.aload_n 0, 1) := rfl
theorem pA_forgetBefore_6 : alk tA_forgetBefore 6 = some (.getfield 15, 3) := rfl
theorem pA_forgetBefore_9 : alk tA_forgetBefore 9 = some (.if_icmp .ge 48, 3) := rfl
theorem pA_forgetBefore_12 : alk tA_forgetBefore 12 = some (.iload_n 3, 1) := rfl
theorem pA_forgetBefore_13 : alk tA_forgetBefore 13 = some (.aload_n 0, 1) := rfl
theorem pA_forgetBefore_14 : alk tA_forgetBefore 14 = some (.getfield 9, 3) := rfl
theorem pA_forgetBefore_17 : alk tA_forgetBefore 17 = some (.arraylength, 1) := rfl
theorem pA_forgetBefore_18 : alk tA_forgetBefore 18 = some (.if_icmp .ge 39, 3) := rfl
theorem pA_forgetBefore_21 : alk tA_forgetBefore 21 = some (.aload_n 0, 1) := rfl
theorem pA_forgetBefore_22 : alk tA_forgetBefore 22 = some (.getfield 9, 3) := rfl
theorem pA_forgetBefore_25 : alk tA_forgetBefore 25 = some (.iload_n 3, 1) := rfl
theorem pA_forgetBefore_26 : alk tA_forgetBefore 26 = some (.iaload, 1) := rfl
theorem pA_forgetBefore_27 : alk tA_forgetBefore 27 = some (.aload_n 0, 1) := rfl
theorem pA_forgetBefore_28 : alk tA_forgetBefore 28 = some (.getfield 25, 3) := rfl
theorem pA_forgetBefore_31 : alk tA_forgetBefore 31 = some (.iadd, 1) := rfl
theorem pA_forgetBefore_32 : alk tA_forgetBefore 32 = some (.iload_n 1, 1) := rfl
theorem pA_forgetBefore_33 : alk tA_forgetBefore 33 = some (.if_icmp .le 18, 3) := rfl
theorem pA_forgetBefore_36 : alk tA_forgetBefore 36 = some (.aload_n 0, 1) := rfl
theorem pA_forgetBefore_37 : alk tA_forgetBefore 37 = some (.getfield 9, 3) := rfl
theorem pA_forgetBefore_40 : alk tA_forgetBefore 40 = some (.iload_n 2, 1) := rfl
theorem pA_forgetBefore_41 : alk tA_forgetBefore 41 = some (.aload_n 0, 1) := rfl
theorem pA_forgetBefore_42 : alk tA_forgetBefore 42 = some (.getfield 9, 3) := rfl
theorem pA_forgetBefore_45 : alk tA_forgetBefore 45 = some (.iload_n 3, 1) := rfl
theorem pA_forgetBefore_46 : alk tA_forgetBefore 46 = some (.iaload, 1) := rfl
theorem pA_forgetBefore_47 : alk tA_forgetBefore 47 = some (.iastore, 1) := rfl
theorem pA_forgetBefore_48 : alk tA_forgetBefore 48 = some (.iinc 2 1, 3) := rfl
theorem pA_forgetBefore_51 : alk tA_forgetBefore 51 = some (.iinc 3 1, 3) := rfl
theorem pA_forgetBefore_54 : alk tA_forgetBefore 54 = some (.goto (-50), 3) := rfl
theorem pA_forgetBefore_57 : alk tA_forgetBefore 57 = some (.aload_n 0, 1) := rfl
theorem pA_forgetBefore_58 : alk tA_forgetBefore 58 = some (.iload_n 2, 1) := rfl
theorem pA_forgetBefore_59 : alk tA_forgetBefore 59 = some (.putfield 15, 3) := rfl
theorem pA_forgetBefore_62 : alk tA_forgetBefore 62 = some (.return_, 1) := rfl
def tO_arrive : TB := [(0, .aload_n 0, 1), (1, .invokevirtual 50, 3), (4, .ifCond .eq 11, 3), (7, .aload_n 0, 1), (8, .getfield 22, 3), (11, .iload_n 1, 1), (12, .if_icmp .le 5, 3), (15, .iconst 0, 1), (16, .ireturn, 1), (17, .aload_n 0, 1), (18, .aload_n 0, 1), (19, .getfield 18, 3), (22, .putfield 47, 3), (25, .aload_n 0, 1), (26, .iconst (-1), 1), (27, .putfield 18, 3), (30, .aload_n 0, 1), (31, .iconst (-1), 1), (32, .putfield 22, 3), (35, .iconst 1, 1), (36, .ireturn, 1)]
set_option maxRecDepth 100000 in
theorem kO_arrive : tbOk (mB mO_arrive) tO_arrive = true := by decide +kernel
theorem pO_arrive_0 : alk tO_arrive 0 = some (.aload_n 0, 1) := rfl
theorem pO_arrive_1 : alk tO_arrive 1 = some (.invokevirtual 50, 3) := rfl
theorem pO_arrive_4 : alk tO_arrive 4 = some (.ifCond .eq 11, 3) := rfl
theorem pO_arrive_7 : alk tO_arrive 7 = some (.aload_n 0, 1) := rfl
theorem pO_arrive_8 : alk tO_arrive 8 = some (.getfield 22, 3) := rfl
theorem pO_arrive_11 : alk tO_arrive 11 = some (.iload_n 1, 1) := rfl
theorem pO_arrive_12 : alk tO_arrive 12 = some (.if_icmp .le 5, 3) := rfl
theorem pO_arrive_15 : alk tO_arrive 15 = some (.iconst 0, 1) := rfl
theorem pO_arrive_16 : alk tO_arrive 16 = some (.ireturn, 1) := rfl
theorem pO_arrive_17 : alk tO_arrive 17 = some (.aload_n 0, 1) := rfl
theorem pO_arrive_18 : alk tO_arrive 18 = some (.aload_n 0, 1) := rfl
theorem pO_arrive_19 : alk tO_arrive 19 = some (.getfield 18, 3) := rfl
theorem pO_arrive_22 : alk tO_arrive 22 = some (.putfield 47, 3) := rfl
theorem pO_arrive_25 : alk tO_arrive 25 = some (.aload_n 0, 1) := rfl
theorem pO_arrive_26 : alk tO_arrive 26 = some (.iconst (-1), 1) := rfl
theorem pO_arrive_27 : alk tO_arrive 27 = some (.putfield 18, 3) := rfl
theorem pO_arrive_30 : alk tO_arrive 30 = some (.aload_n 0, 1) := rfl
theorem pO_arrive_31 : alk tO_arrive 31 = some (.iconst (-1), 1) := rfl
theorem pO_arrive_32 : alk tO_arrive 32 = some (.putfield 22, 3) := rfl
theorem pO_arrive_35 : alk tO_arrive 35 = some (.iconst 1, 1) := rfl
theorem pO_arrive_36 : alk tO_arrive 36 = some (.ireturn, 1) := rfl
def tS_count : TB := [(0, .iload_n 1, 1), (1, .tableswitch 138 0 10 #[59, 64, 72, 83, 91, 102, 107, 112, 117, 122, 130], 59), (60, .aload_n 0, 1), (61, .getfield 71, 3), (64, .ireturn, 1), (65, .aload_n 0, 1), (66, .getfield 12, 3), (69, .getfield 83, 3), (72, .ireturn, 1), (73, .aload_n 0, 1), (74, .getfield 12, 3), (77, .getfield 93, 3), (80, .invokevirtual 96, 3), (83, .ireturn, 1), (84, .aload_n 0, 1), (85, .getfield 19, 3), (88, .invokevirtual 96, 3), (91, .ireturn, 1), (92, .aload_n 0, 1), (93, .getfield 33, 3), (96, .getfield 260, 3), (99, .invokevirtual 96, 3), (102, .ireturn, 1), (103, .aload_n 0, 1), (104, .invokevirtual 349, 3), (107, .ireturn, 1), (108, .aload_n 0, 1), (109, .invokevirtual 352, 3), (112, .ireturn, 1), (113, .aload_n 0, 1), (114, .invokevirtual 355, 3), (117, .ireturn, 1), (118, .aload_n 0, 1), (119, .invokevirtual 358, 3), (122, .ireturn, 1), (123, .aload_n 0, 1), (124, .getfield 26, 3), (127, .getfield 253, 3), (130, .ireturn, 1), (131, .aload_n 0, 1), (132, .getfield 40, 3), (135, .getfield 334, 3), (138, .ireturn, 1), (139, .aload_n 0, 1), (140, .bipush (-7), 2), (142, .invokevirtual 79, 3), (145, .ireturn, 1)]
set_option maxRecDepth 100000 in
theorem kS_count : tbOk (mB mS_count) tS_count = true := by decide +kernel
theorem pS_count_0 : alk tS_count 0 = some (.iload_n 1, 1) := rfl
theorem pS_count_1 : alk tS_count 1 = some (.tableswitch 138 0 10 #[59, 64, 72, 83, 91, 102, 107, 112, 117, 122, 130], 59) := rfl
theorem pS_count_60 : alk tS_count 60 = some (.aload_n 0, 1) := rfl
theorem pS_count_61 : alk tS_count 61 = some (.getfield 71, 3) := rfl
theorem pS_count_64 : alk tS_count 64 = some (.ireturn, 1) := rfl
theorem pS_count_65 : alk tS_count 65 = some (.aload_n 0, 1) := rfl
theorem pS_count_66 : alk tS_count 66 = some (.getfield 12, 3) := rfl
theorem pS_count_69 : alk tS_count 69 = some (.getfield 83, 3) := rfl
theorem pS_count_72 : alk tS_count 72 = some (.ireturn, 1) := rfl
theorem pS_count_73 : alk tS_count 73 = some (.aload_n 0, 1) := rfl
theorem pS_count_74 : alk tS_count 74 = some (.getfield 12, 3) := rfl
theorem pS_count_77 : alk tS_count 77 = some (.getfield 93, 3) := rfl
theorem pS_count_80 : alk tS_count 80 = some (.invokevirtual 96, 3) := rfl
theorem pS_count_83 : alk tS_count 83 = some (.ireturn, 1) := rfl
theorem pS_count_84 : alk tS_count 84 = some (.aload_n 0, 1) := rfl
theorem pS_count_85 : alk tS_count 85 = some (.getfield 19, 3) := rfl
theorem pS_count_88 : alk tS_count 88 = some (.invokevirtual 96, 3) := rfl
theorem pS_count_91 : alk tS_count 91 = some (.ireturn, 1) := rfl
theorem pS_count_92 : alk tS_count 92 = some (.aload_n 0, 1) := rfl
theorem pS_count_93 : alk tS_count 93 = some (.getfield 33, 3) := rfl
theorem pS_count_96 : alk tS_count 96 = some (.getfield 260, 3) := rfl
theorem pS_count_99 : alk tS_count 99 = some (.invokevirtual 96, 3) := rfl
theorem pS_count_102 : alk tS_count 102 = some (.ireturn, 1) := rfl
theorem pS_count_103 : alk tS_count 103 = some (.aload_n 0, 1) := rfl
theorem pS_count_104 : alk tS_count 104 = some (.invokevirtual 349, 3) := rfl
theorem pS_count_107 : alk tS_count 107 = some (.ireturn, 1) := rfl
theorem pS_count_108 : alk tS_count 108 = some (.aload_n 0, 1) := rfl
theorem pS_count_109 : alk tS_count 109 = some (.invokevirtual 352, 3) := rfl
theorem pS_count_112 : alk tS_count 112 = some (.ireturn, 1) := rfl
theorem pS_count_113 : alk tS_count 113 = some (.aload_n 0, 1) := rfl
theorem pS_count_114 : alk tS_count 114 = some (.invokevirtual 355, 3) := rfl
theorem pS_count_117 : alk tS_count 117 = some (.ireturn, 1) := rfl
theorem pS_count_118 : alk tS_count 118 = some (.aload_n 0, 1) := rfl
theorem pS_count_119 : alk tS_count 119 = some (.invokevirtual 358, 3) := rfl
theorem pS_count_122 : alk tS_count 122 = some (.ireturn, 1) := rfl
theorem pS_count_123 : alk tS_count 123 = some (.aload_n 0, 1) := rfl
theorem pS_count_124 : alk tS_count 124 = some (.getfield 26, 3) := rfl
theorem pS_count_127 : alk tS_count 127 = some (.getfield 253, 3) := rfl
theorem pS_count_130 : alk tS_count 130 = some (.ireturn, 1) := rfl
theorem pS_count_131 : alk tS_count 131 = some (.aload_n 0, 1) := rfl
theorem pS_count_132 : alk tS_count 132 = some (.getfield 40, 3) := rfl
theorem pS_count_135 : alk tS_count 135 = some (.getfield 334, 3) := rfl
theorem pS_count_138 : alk tS_count 138 = some (.ireturn, 1) := rfl
theorem pS_count_139 : alk tS_count 139 = some (.aload_n 0, 1) := rfl
theorem pS_count_140 : alk tS_count 140 = some (.bipush (-7), 2) := rfl
theorem pS_count_142 : alk tS_count 142 = some (.invokevirtual 79, 3) := rfl
theorem pS_count_145 : alk tS_count 145 = some (.ireturn, 1) := rfl
def tS_lotsOnWay : TB := [(0, .iconst 0, 1), (1, .istore_n 1, 1), (2, .iconst 0, 1), (3, .istore_n 2, 1), (4, .iload_n 2, 1), (5, .aload_n 0, 1), (6, .getfield 19, 3), (9, .invokevirtual 96, 3), (12, .if_icmp .ge 34, 3), (15, .iload_n 1, 1), (16, .aload_n 0, 1), (17, .getfield 19, 3), (20, .iload_n 2, 1), (21, .invokevirtual 277, 3), (24, .checkcast 132, 3), (27, .invokevirtual 380, 3), (30, .ifCond .eq 7, 3), (33, .iconst 1, 1), (34, .goto 4, 3), (37, .iconst 0, 1), (38, .iadd, 1), (39, .istore_n 1, 1), (40, .iinc 2 1, 3), (43, .goto (-39), 3), (46, .iload_n 1, 1), (47, .ireturn, 1)]
set_option maxRecDepth 100000 in
theorem kS_lotsOnWay : tbOk (mB mS_lotsOnWay) tS_lotsOnWay = true := by decide +kernel
theorem pS_lotsOnWay_0 : alk tS_lotsOnWay 0 = some (.iconst 0, 1) := rfl
theorem pS_lotsOnWay_1 : alk tS_lotsOnWay 1 = some (.istore_n 1, 1) := rfl
theorem pS_lotsOnWay_2 : alk tS_lotsOnWay 2 = some (.iconst 0, 1) := rfl
theorem pS_lotsOnWay_3 : alk tS_lotsOnWay 3 = some (.istore_n 2, 1) := rfl
theorem pS_lotsOnWay_4 : alk tS_lotsOnWay 4 = some (.iload_n 2, 1) := rfl
theorem pS_lotsOnWay_5 : alk tS_lotsOnWay 5 = some (.aload_n 0, 1) := rfl
theorem pS_lotsOnWay_6 : alk tS_lotsOnWay 6 = some (.getfield 19, 3) := rfl
theorem pS_lotsOnWay_9 : alk tS_lotsOnWay 9 = some (.invokevirtual 96, 3) := rfl
theorem pS_lotsOnWay_12 : alk tS_lotsOnWay 12 = some (.if_icmp .ge 34, 3) := rfl
theorem pS_lotsOnWay_15 : alk tS_lotsOnWay 15 = some (.iload_n 1, 1) := rfl
theorem pS_lotsOnWay_16 : alk tS_lotsOnWay 16 = some (.aload_n 0, 1) := rfl
theorem pS_lotsOnWay_17 : alk tS_lotsOnWay 17 = some (.getfield 19, 3) := rfl
theorem pS_lotsOnWay_20 : alk tS_lotsOnWay 20 = some (.iload_n 2, 1) := rfl
theorem pS_lotsOnWay_21 : alk tS_lotsOnWay 21 = some (.invokevirtual 277, 3) := rfl
theorem pS_lotsOnWay_24 : alk tS_lotsOnWay 24 = some (.checkcast 132, 3) := rfl
theorem pS_lotsOnWay_27 : alk tS_lotsOnWay 27 = some (.invokevirtual 380, 3) := rfl
theorem pS_lotsOnWay_30 : alk tS_lotsOnWay 30 = some (.ifCond .eq 7, 3) := rfl
theorem pS_lotsOnWay_33 : alk tS_lotsOnWay 33 = some (.iconst 1, 1) := rfl
theorem pS_lotsOnWay_34 : alk tS_lotsOnWay 34 = some (.goto 4, 3) := rfl
theorem pS_lotsOnWay_37 : alk tS_lotsOnWay 37 = some (.iconst 0, 1) := rfl
theorem pS_lotsOnWay_38 : alk tS_lotsOnWay 38 = some (.iadd, 1) := rfl
theorem pS_lotsOnWay_39 : alk tS_lotsOnWay 39 = some (.istore_n 1, 1) := rfl
theorem pS_lotsOnWay_40 : alk tS_lotsOnWay 40 = some (.iinc 2 1, 3) := rfl
theorem pS_lotsOnWay_43 : alk tS_lotsOnWay 43 = some (.goto (-39), 3) := rfl
theorem pS_lotsOnWay_46 : alk tS_lotsOnWay 46 = some (.iload_n 1, 1) := rfl
theorem pS_lotsOnWay_47 : alk tS_lotsOnWay 47 = some (.ireturn, 1) := rfl
def tS_dryLots : TB := [(0, .iconst 0, 1), (1, .istore_n 1, 1), (2, .iconst 0, 1), (3, .istore_n 2, 1), (4, .iload_n 2, 1), (5, .aload_n 0, 1), (6, .getfield 19, 3), (9, .invokevirtual 96, 3), (12, .if_icmp .ge 42, 3), (15, .iload_n 1, 1), (16, .aload_n 0, 1), (17, .getfield 33, 3), (20, .aload_n 0, 1), (21, .getfield 19, 3), (24, .iload_n 2, 1), (25, .invokevirtual 277, 3), (28, .checkcast 132, 3), (31, .aload_n 0, 1), (32, .getfield 71, 3), (35, .invokevirtual 179, 3), (38, .ifCond .eq 7, 3), (41, .iconst 1, 1), (42, .goto 4, 3), (45, .iconst 0, 1), (46, .iadd, 1), (47, .istore_n 1, 1), (48, .iinc 2 1, 3), (51, .goto (-47), 3), (54, .iload_n 1, 1), (55, .ireturn, 1)]
set_option maxRecDepth 100000 in
theorem kS_dryLots : tbOk (mB mS_dryLots) tS_dryLots = true := by decide +kernel
theorem pS_dryLots_0 : alk tS_dryLots 0 = some (.iconst 0, 1) := rfl
theorem pS_dryLots_1 : alk tS_dryLots 1 = some (.istore_n 1, 1) := rfl
theorem pS_dryLots_2 : alk tS_dryLots 2 = some (.iconst 0, 1) := rfl
theorem pS_dryLots_3 : alk tS_dryLots 3 = some (.istore_n 2, 1) := rfl
theorem pS_dryLots_4 : alk tS_dryLots 4 = some (.iload_n 2, 1) := rfl
theorem pS_dryLots_5 : alk tS_dryLots 5 = some (.aload_n 0, 1) := rfl
theorem pS_dryLots_6 : alk tS_dryLots 6 = some (.getfield 19, 3) := rfl
theorem pS_dryLots_9 : alk tS_dryLots 9 = some (.invokevirtual 96, 3) := rfl
theorem pS_dryLots_12 : alk tS_dryLots 12 = some (.if_icmp .ge 42, 3) := rfl
theorem pS_dryLots_15 : alk tS_dryLots 15 = some (.iload_n 1, 1) := rfl
theorem pS_dryLots_16 : alk tS_dryLots 16 = some (.aload_n 0, 1) := rfl
theorem pS_dryLots_17 : alk tS_dryLots 17 = some (.getfield 33, 3) := rfl
theorem pS_dryLots_20 : alk tS_dryLots 20 = some (.aload_n 0, 1) := rfl
theorem pS_dryLots_21 : alk tS_dryLots 21 = some (.getfield 19, 3) := rfl
theorem pS_dryLots_24 : alk tS_dryLots 24 = some (.iload_n 2, 1) := rfl
theorem pS_dryLots_25 : alk tS_dryLots 25 = some (.invokevirtual 277, 3) := rfl
theorem pS_dryLots_28 : alk tS_dryLots 28 = some (.checkcast 132, 3) := rfl
theorem pS_dryLots_31 : alk tS_dryLots 31 = some (.aload_n 0, 1) := rfl
theorem pS_dryLots_32 : alk tS_dryLots 32 = some (.getfield 71, 3) := rfl
theorem pS_dryLots_35 : alk tS_dryLots 35 = some (.invokevirtual 179, 3) := rfl
theorem pS_dryLots_38 : alk tS_dryLots 38 = some (.ifCond .eq 7, 3) := rfl
theorem pS_dryLots_41 : alk tS_dryLots 41 = some (.iconst 1, 1) := rfl
theorem pS_dryLots_42 : alk tS_dryLots 42 = some (.goto 4, 3) := rfl
theorem pS_dryLots_45 : alk tS_dryLots 45 = some (.iconst 0, 1) := rfl
theorem pS_dryLots_46 : alk tS_dryLots 46 = some (.iadd, 1) := rfl
theorem pS_dryLots_47 : alk tS_dryLots 47 = some (.istore_n 1, 1) := rfl
theorem pS_dryLots_48 : alk tS_dryLots 48 = some (.iinc 2 1, 3) := rfl
theorem pS_dryLots_51 : alk tS_dryLots 51 = some (.goto (-47), 3) := rfl
theorem pS_dryLots_54 : alk tS_dryLots 54 = some (.iload_n 1, 1) := rfl
theorem pS_dryLots_55 : alk tS_dryLots 55 = some (.ireturn, 1) := rfl
def tS_soldLots : TB := [(0, .iconst 0, 1), (1, .istore_n 1, 1), (2, .iconst 0, 1), (3, .istore_n 2, 1), (4, .iload_n 2, 1), (5, .aload_n 0, 1), (6, .getfield 19, 3), (9, .invokevirtual 96, 3), (12, .if_icmp .ge 37, 3), (15, .iload_n 1, 1), (16, .aload_n 0, 1), (17, .getfield 19, 3), (20, .iload_n 2, 1), (21, .invokevirtual 277, 3), (24, .checkcast 132, 3), (27, .getfield 186, 3), (30, .invokevirtual 217, 3), (33, .ifCond .eq 7, 3), (36, .iconst 1, 1), (37, .goto 4, 3), (40, .iconst 0, 1), (41, .iadd, 1), (42, .istore_n 1, 1), (43, .iinc 2 1, 3), (46, .goto (-42), 3), (49, .iload_n 1, 1), (50, .ireturn, 1)]
set_option maxRecDepth 100000 in
theorem kS_soldLots : tbOk (mB mS_soldLots) tS_soldLots = true := by decide +kernel
theorem pS_soldLots_0 : alk tS_soldLots 0 = some (.iconst 0, 1) := rfl
theorem pS_soldLots_1 : alk tS_soldLots 1 = some (.istore_n 1, 1) := rfl
theorem pS_soldLots_2 : alk tS_soldLots 2 = some (.iconst 0, 1) := rfl
theorem pS_soldLots_3 : alk tS_soldLots 3 = some (.istore_n 2, 1) := rfl
theorem pS_soldLots_4 : alk tS_soldLots 4 = some (.iload_n 2, 1) := rfl
theorem pS_soldLots_5 : alk tS_soldLots 5 = some (.aload_n 0, 1) := rfl
theorem pS_soldLots_6 : alk tS_soldLots 6 = some (.getfield 19, 3) := rfl
theorem pS_soldLots_9 : alk tS_soldLots 9 = some (.invokevirtual 96, 3) := rfl
theorem pS_soldLots_12 : alk tS_soldLots 12 = some (.if_icmp .ge 37, 3) := rfl
theorem pS_soldLots_15 : alk tS_soldLots 15 = some (.iload_n 1, 1) := rfl
theorem pS_soldLots_16 : alk tS_soldLots 16 = some (.aload_n 0, 1) := rfl
theorem pS_soldLots_17 : alk tS_soldLots 17 = some (.getfield 19, 3) := rfl
theorem pS_soldLots_20 : alk tS_soldLots 20 = some (.iload_n 2, 1) := rfl
theorem pS_soldLots_21 : alk tS_soldLots 21 = some (.invokevirtual 277, 3) := rfl
theorem pS_soldLots_24 : alk tS_soldLots 24 = some (.checkcast 132, 3) := rfl
theorem pS_soldLots_27 : alk tS_soldLots 27 = some (.getfield 186, 3) := rfl
theorem pS_soldLots_30 : alk tS_soldLots 30 = some (.invokevirtual 217, 3) := rfl
theorem pS_soldLots_33 : alk tS_soldLots 33 = some (.ifCond .eq 7, 3) := rfl
theorem pS_soldLots_36 : alk tS_soldLots 36 = some (.iconst 1, 1) := rfl
theorem pS_soldLots_37 : alk tS_soldLots 37 = some (.goto 4, 3) := rfl
theorem pS_soldLots_40 : alk tS_soldLots 40 = some (.iconst 0, 1) := rfl
theorem pS_soldLots_41 : alk tS_soldLots 41 = some (.iadd, 1) := rfl
theorem pS_soldLots_42 : alk tS_soldLots 42 = some (.istore_n 1, 1) := rfl
theorem pS_soldLots_43 : alk tS_soldLots 43 = some (.iinc 2 1, 3) := rfl
theorem pS_soldLots_46 : alk tS_soldLots 46 = some (.goto (-42), 3) := rfl
theorem pS_soldLots_49 : alk tS_soldLots 49 = some (.iload_n 1, 1) := rfl
theorem pS_soldLots_50 : alk tS_soldLots 50 = some (.ireturn, 1) := rfl
def tS_headsAtHooks : TB := [(0, .iconst 0, 1), (1, .istore_n 1, 1), (2, .iconst 0, 1), (3, .istore_n 2, 1), (4, .iload_n 2, 1), (5, .aload_n 0, 1), (6, .getfield 19, 3), (9, .invokevirtual 96, 3), (12, .if_icmp .ge 49, 3), (15, .iload_n 1, 1), (16, .aload_n 0, 1), (17, .aload_n 0, 1), (18, .getfield 19, 3), (21, .iload_n 2, 1), (22, .invokevirtual 277, 3), (25, .checkcast 132, 3), (28, .iconst 3, 1), (29, .invokevirtual 148, 3), (32, .ifCond .eq 20, 3), (35, .aload_n 0, 1), (36, .getfield 19, 3), (39, .iload_n 2, 1), (40, .invokevirtual 277, 3), (43, .checkcast 132, 3), (46, .getfield 152, 3), (49, .goto 4, 3), (52, .iconst 0, 1), (53, .iadd, 1), (54, .istore_n 1, 1), (55, .iinc 2 1, 3), (58, .goto (-54), 3), (61, .iload_n 1, 1), (62, .ireturn, 1)]
set_option maxRecDepth 100000 in
theorem kS_headsAtHooks : tbOk (mB mS_headsAtHooks) tS_headsAtHooks = true := by decide +kernel
theorem pS_headsAtHooks_0 : alk tS_headsAtHooks 0 = some (.iconst 0, 1) := rfl
theorem pS_headsAtHooks_1 : alk tS_headsAtHooks 1 = some (.istore_n 1, 1) := rfl
theorem pS_headsAtHooks_2 : alk tS_headsAtHooks 2 = some (.iconst 0, 1) := rfl
theorem pS_headsAtHooks_3 : alk tS_headsAtHooks 3 = some (.istore_n 2, 1) := rfl
theorem pS_headsAtHooks_4 : alk tS_headsAtHooks 4 = some (.iload_n 2, 1) := rfl
theorem pS_headsAtHooks_5 : alk tS_headsAtHooks 5 = some (.aload_n 0, 1) := rfl
theorem pS_headsAtHooks_6 : alk tS_headsAtHooks 6 = some (.getfield 19, 3) := rfl
theorem pS_headsAtHooks_9 : alk tS_headsAtHooks 9 = some (.invokevirtual 96, 3) := rfl
theorem pS_headsAtHooks_12 : alk tS_headsAtHooks 12 = some (.if_icmp .ge 49, 3) := rfl
theorem pS_headsAtHooks_15 : alk tS_headsAtHooks 15 = some (.iload_n 1, 1) := rfl
theorem pS_headsAtHooks_16 : alk tS_headsAtHooks 16 = some (.aload_n 0, 1) := rfl
theorem pS_headsAtHooks_17 : alk tS_headsAtHooks 17 = some (.aload_n 0, 1) := rfl
theorem pS_headsAtHooks_18 : alk tS_headsAtHooks 18 = some (.getfield 19, 3) := rfl
theorem pS_headsAtHooks_21 : alk tS_headsAtHooks 21 = some (.iload_n 2, 1) := rfl
theorem pS_headsAtHooks_22 : alk tS_headsAtHooks 22 = some (.invokevirtual 277, 3) := rfl
theorem pS_headsAtHooks_25 : alk tS_headsAtHooks 25 = some (.checkcast 132, 3) := rfl
theorem pS_headsAtHooks_28 : alk tS_headsAtHooks 28 = some (.iconst 3, 1) := rfl
theorem pS_headsAtHooks_29 : alk tS_headsAtHooks 29 = some (.invokevirtual 148, 3) := rfl
theorem pS_headsAtHooks_32 : alk tS_headsAtHooks 32 = some (.ifCond .eq 20, 3) := rfl
theorem pS_headsAtHooks_35 : alk tS_headsAtHooks 35 = some (.aload_n 0, 1) := rfl
theorem pS_headsAtHooks_36 : alk tS_headsAtHooks 36 = some (.getfield 19, 3) := rfl
theorem pS_headsAtHooks_39 : alk tS_headsAtHooks 39 = some (.iload_n 2, 1) := rfl
theorem pS_headsAtHooks_40 : alk tS_headsAtHooks 40 = some (.invokevirtual 277, 3) := rfl
theorem pS_headsAtHooks_43 : alk tS_headsAtHooks 43 = some (.checkcast 132, 3) := rfl
theorem pS_headsAtHooks_46 : alk tS_headsAtHooks 46 = some (.getfield 152, 3) := rfl
theorem pS_headsAtHooks_49 : alk tS_headsAtHooks 49 = some (.goto 4, 3) := rfl
theorem pS_headsAtHooks_52 : alk tS_headsAtHooks 52 = some (.iconst 0, 1) := rfl
theorem pS_headsAtHooks_53 : alk tS_headsAtHooks 53 = some (.iadd, 1) := rfl
theorem pS_headsAtHooks_54 : alk tS_headsAtHooks 54 = some (.istore_n 1, 1) := rfl
theorem pS_headsAtHooks_55 : alk tS_headsAtHooks 55 = some (.iinc 2 1, 3) := rfl
theorem pS_headsAtHooks_58 : alk tS_headsAtHooks 58 = some (.goto (-54), 3) := rfl
theorem pS_headsAtHooks_61 : alk tS_headsAtHooks 61 = some (.iload_n 1, 1) := rfl
theorem pS_headsAtHooks_62 : alk tS_headsAtHooks 62 = some (.ireturn, 1) := rfl
def tS_lay : TB := [(0, .aload_n 0, 1), (1, .getfield 56, 3), (4, .aload_n 0, 1), (5, .getfield 12, 3), (8, .getfield 83, 3), (11, .invokevirtual 361, 3), (14, .iconst 0, 1), (15, .istore_n 1, 1), (16, .iload_n 1, 1), (17, .aload_n 0, 1), (18, .getfield 19, 3), (21, .invokevirtual 96, 3), (24, .if_icmp .ge 44, 3), (27, .aload_n 0, 1), (28, .getfield 56, 3), (31, .aload_n 0, 1), (32, .getfield 19, 3), (35, .iload_n 1, 1), (36, .invokevirtual 277, 3), (39, .checkcast 132, 3), (42, .getfield 167, 3), (45, .aload_n 0, 1), (46, .getfield 19, 3), (49, .iload_n 1, 1), (50, .invokevirtual 277, 3), (53, .checkcast 132, 3), (56, .getfield 152, 3), (59, .invokevirtual 364, 3), (62, .iinc 1 1, 3), (65, .goto (-49), 3), (68, .aload_n 0, 1), (69, .getfield 12, 3), (72, .getfield 83, 3), (75, .ireturn, 1)]
set_option maxRecDepth 100000 in
theorem kS_lay : tbOk (mB mS_lay) tS_lay = true := by decide +kernel
theorem pS_lay_0 : alk tS_lay 0 = some (.aload_n 0, 1) := rfl
theorem pS_lay_1 : alk tS_lay 1 = some (.getfield 56, 3) := rfl
theorem pS_lay_4 : alk tS_lay 4 = some (.aload_n 0, 1) := rfl
theorem pS_lay_5 : alk tS_lay 5 = some (.getfield 12, 3) := rfl
theorem pS_lay_8 : alk tS_lay 8 = some (.getfield 83, 3) := rfl
theorem pS_lay_11 : alk tS_lay 11 = some (.invokevirtual 361, 3) := rfl
theorem pS_lay_14 : alk tS_lay 14 = some (.iconst 0, 1) := rfl
theorem pS_lay_15 : alk tS_lay 15 = some (.istore_n 1, 1) := rfl
theorem pS_lay_16 : alk tS_lay 16 = some (.iload_n 1, 1) := rfl
theorem pS_lay_17 : alk tS_lay 17 = some (.aload_n 0, 1) := rfl
theorem pS_lay_18 : alk tS_lay 18 = some (.getfield 19, 3) := rfl
theorem pS_lay_21 : alk tS_lay 21 = some (.invokevirtual 96, 3) := rfl
theorem pS_lay_24 : alk tS_lay 24 = some (.if_icmp .ge 44, 3) := rfl
theorem pS_lay_27 : alk tS_lay 27 = some (.aload_n 0, 1) := rfl
theorem pS_lay_28 : alk tS_lay 28 = some (.getfield 56, 3) := rfl
theorem pS_lay_31 : alk tS_lay 31 = some (.aload_n 0, 1) := rfl
theorem pS_lay_32 : alk tS_lay 32 = some (.getfield 19, 3) := rfl
theorem pS_lay_35 : alk tS_lay 35 = some (.iload_n 1, 1) := rfl
theorem pS_lay_36 : alk tS_lay 36 = some (.invokevirtual 277, 3) := rfl
theorem pS_lay_39 : alk tS_lay 39 = some (.checkcast 132, 3) := rfl
theorem pS_lay_42 : alk tS_lay 42 = some (.getfield 167, 3) := rfl
theorem pS_lay_45 : alk tS_lay 45 = some (.aload_n 0, 1) := rfl
theorem pS_lay_46 : alk tS_lay 46 = some (.getfield 19, 3) := rfl
theorem pS_lay_49 : alk tS_lay 49 = some (.iload_n 1, 1) := rfl
theorem pS_lay_50 : alk tS_lay 50 = some (.invokevirtual 277, 3) := rfl
theorem pS_lay_53 : alk tS_lay 53 = some (.checkcast 132, 3) := rfl
theorem pS_lay_56 : alk tS_lay 56 = some (.getfield 152, 3) := rfl
theorem pS_lay_59 : alk tS_lay 59 = some (.invokevirtual 364, 3) := rfl
theorem pS_lay_62 : alk tS_lay 62 = some (.iinc 1 1, 3) := rfl
theorem pS_lay_65 : alk tS_lay 65 = some (.goto (-49), 3) := rfl
theorem pS_lay_68 : alk tS_lay 68 = some (.aload_n 0, 1) := rfl
theorem pS_lay_69 : alk tS_lay 69 = some (.getfield 12, 3) := rfl
theorem pS_lay_72 : alk tS_lay 72 = some (.getfield 83, 3) := rfl
theorem pS_lay_75 : alk tS_lay 75 = some (.ireturn, 1) := rfl
def tR_begin : TB := [(0, .aload_n 0, 1), (1, .iconst 1, 1), (2, .putfield 19, 3), (5, .aload_n 0, 1), (6, .iload_n 1, 1), (7, .bipush 14, 2), (9, .invokestatic 23, 3), (12, .putfield 15, 3), (15, .iconst 0, 1), (16, .istore_n 2, 1), (17, .iload_n 2, 1), (18, .aload_n 0, 1), (19, .getfield 15, 3), (22, .if_icmp .ge 16, 3), (25, .aload_n 0, 1), (26, .getfield 9, 3), (29, .iload_n 2, 1), (30, .iconst 0, 1), (31, .iastore, 1), (32, .iinc 2 1, 3), (35, .goto (-18), 3), (38, .return_, 1)]
set_option maxRecDepth 100000 in
theorem kR_begin : tbOk (mB mR_begin) tR_begin = true := by decide +kernel
theorem pR_begin_0 : alk tR_begin 0 = some (.aload_n 0, 1) := rfl
theorem pR_begin_1 : alk tR_begin 1 = some (.iconst 1, 1) := rfl
theorem pR_begin_2 : alk tR_begin 2 = some (.putfield 19, 3) := rfl
theorem pR_begin_5 : alk tR_begin 5 = some (.aload_n 0, 1) := rfl
theorem pR_begin_6 : alk tR_begin 6 = some (.iload_n 1, 1) := rfl
theorem pR_begin_7 : alk tR_begin 7 = some (.bipush 14, 2) := rfl
theorem pR_begin_9 : alk tR_begin 9 = some (.invokestatic 23, 3) := rfl
theorem pR_begin_12 : alk tR_begin 12 = some (.putfield 15, 3) := rfl
theorem pR_begin_15 : alk tR_begin 15 = some (.iconst 0, 1) := rfl
theorem pR_begin_16 : alk tR_begin 16 = some (.istore_n 2, 1) := rfl
theorem pR_begin_17 : alk tR_begin 17 = some (.iload_n 2, 1) := rfl
theorem pR_begin_18 : alk tR_begin 18 = some (.aload_n 0, 1) := rfl
theorem pR_begin_19 : alk tR_begin 19 = some (.getfield 15, 3) := rfl
theorem pR_begin_22 : alk tR_begin 22 = some (.if_icmp .ge 16, 3) := rfl
theorem pR_begin_25 : alk tR_begin 25 = some (.aload_n 0, 1) := rfl
theorem pR_begin_26 : alk tR_begin 26 = some (.getfield 9, 3) := rfl
theorem pR_begin_29 : alk tR_begin 29 = some (.iload_n 2, 1) := rfl
theorem pR_begin_30 : alk tR_begin 30 = some (.iconst 0, 1) := rfl
theorem pR_begin_31 : alk tR_begin 31 = some (.iastore, 1) := rfl
theorem pR_begin_32 : alk tR_begin 32 = some (.iinc 2 1, 3) := rfl
theorem pR_begin_35 : alk tR_begin 35 = some (.goto (-18), 3) := rfl
theorem pR_begin_38 : alk tR_begin 38 = some (.return_, 1) := rfl
def tR_addAt : TB := [(0, .iload_n 1, 1), (1, .ifCond .lt 21, 3), (4, .iload_n 1, 1), (5, .aload_n 0, 1), (6, .getfield 15, 3), (9, .if_icmp .ge 13, 3), (12, .aload_n 0, 1), (13, .getfield 9, 3), (16, .iload_n 1, 1), (17, .dup2, 1), (18, .iaload, 1), (19, .iload_n 2, 1), (20, .iadd, 1), (21, .iastore, 1), (22, .return_, 1)]
set_option maxRecDepth 100000 in
theorem kR_addAt : tbOk (mB mR_addAt) tR_addAt = true := by decide +kernel
theorem pR_addAt_0 : alk tR_addAt 0 = some (.iload_n 1, 1) := rfl
theorem pR_addAt_1 : alk tR_addAt 1 = some (.ifCond .lt 21, 3) := rfl
theorem pR_addAt_4 : alk tR_addAt 4 = some (.iload_n 1, 1) := rfl
theorem pR_addAt_5 : alk tR_addAt 5 = some (.aload_n 0, 1) := rfl
theorem pR_addAt_6 : alk tR_addAt 6 = some (.getfield 15, 3) := rfl
theorem pR_addAt_9 : alk tR_addAt 9 = some (.if_icmp .ge 13, 3) := rfl
theorem pR_addAt_12 : alk tR_addAt 12 = some (.aload_n 0, 1) := rfl
theorem pR_addAt_13 : alk tR_addAt 13 = some (.getfield 9, 3) := rfl
theorem pR_addAt_16 : alk tR_addAt 16 = some (.iload_n 1, 1) := rfl
theorem pR_addAt_17 : alk tR_addAt 17 = some (.dup2, 1) := rfl
theorem pR_addAt_18 : alk tR_addAt 18 = some (.iaload, 1) := rfl
theorem pR_addAt_19 : alk tR_addAt 19 = some (.iload_n 2, 1) := rfl
theorem pR_addAt_20 : alk tR_addAt 20 = some (.iadd, 1) := rfl
theorem pR_addAt_21 : alk tR_addAt 21 = some (.iastore, 1) := rfl
theorem pR_addAt_22 : alk tR_addAt 22 = some (.return_, 1) := rfl
def tS_tear : TB := [(0, .aload_n 0, 1), (1, .getfield 56, 3), (4, .getfield 367, 3), (7, .ifCond .eq 7, 3), (10, .iconst 1, 1), (11, .goto 4, 3), (14, .iconst 0, 1), (15, .istore_n 1, 1), (16, .aload_n 0, 1), (17, .getfield 56, 3), (20, .iconst 0, 1), (21, .putfield 367, 3), (24, .iload_n 1, 1), (25, .ireturn, 1)]
set_option maxRecDepth 100000 in
theorem kS_tear : tbOk (mB mS_tear) tS_tear = true := by decide +kernel
theorem pS_tear_0 : alk tS_tear 0 = some (.aload_n 0, 1) := rfl
theorem pS_tear_1 : alk tS_tear 1 = some (.getfield 56, 3) := rfl
theorem pS_tear_4 : alk tS_tear 4 = some (.getfield 367, 3) := rfl
theorem pS_tear_7 : alk tS_tear 7 = some (.ifCond .eq 7, 3) := rfl
theorem pS_tear_10 : alk tS_tear 10 = some (.iconst 1, 1) := rfl
theorem pS_tear_11 : alk tS_tear 11 = some (.goto 4, 3) := rfl
theorem pS_tear_14 : alk tS_tear 14 = some (.iconst 0, 1) := rfl
theorem pS_tear_15 : alk tS_tear 15 = some (.istore_n 1, 1) := rfl
theorem pS_tear_16 : alk tS_tear 16 = some (.aload_n 0, 1) := rfl
theorem pS_tear_17 : alk tS_tear 17 = some (.getfield 56, 3) := rfl
theorem pS_tear_20 : alk tS_tear 20 = some (.iconst 0, 1) := rfl
theorem pS_tear_21 : alk tS_tear 21 = some (.putfield 367, 3) := rfl
theorem pS_tear_24 : alk tS_tear 24 = some (.iload_n 1, 1) := rfl
theorem pS_tear_25 : alk tS_tear 25 = some (.ireturn, 1) := rfl
def tS_row : TB := [(0, .aload_n 0, 1), (1, .getfield 56, 3), (4, .getfield 367, 3), (7, .ifCond .ne 10, 3), (10, .aload_n 0, 1), (11, .bipush (-2), 2), (13, .invokevirtual 79, 3), (16, .ireturn, 1), (17, .iload_n 1, 1), (18, .ifCond .lt 25, 3), (21, .iload_n 1, 1), (22, .aload_n 0, 1), (23, .getfield 56, 3), (26, .getfield 370, 3), (29, .if_icmp .ge 14, 3), (32, .aload_n 0, 1), (33, .getfield 56, 3), (36, .iload_n 1, 1), (37, .invokevirtual 371, 3), (40, .goto 9, 3), (43, .aload_n 0, 1), (44, .bipush (-3), 2), (46, .invokevirtual 79, 3), (49, .ireturn, 1)]
set_option maxRecDepth 100000 in
theorem kS_row : tbOk (mB mS_row) tS_row = true := by decide +kernel
theorem pS_row_0 : alk tS_row 0 = some (.aload_n 0, 1) := rfl
theorem pS_row_1 : alk tS_row 1 = some (.getfield 56, 3) := rfl
theorem pS_row_4 : alk tS_row 4 = some (.getfield 367, 3) := rfl
theorem pS_row_7 : alk tS_row 7 = some (.ifCond .ne 10, 3) := rfl
theorem pS_row_10 : alk tS_row 10 = some (.aload_n 0, 1) := rfl
theorem pS_row_11 : alk tS_row 11 = some (.bipush (-2), 2) := rfl
theorem pS_row_13 : alk tS_row 13 = some (.invokevirtual 79, 3) := rfl
theorem pS_row_16 : alk tS_row 16 = some (.ireturn, 1) := rfl
theorem pS_row_17 : alk tS_row 17 = some (.iload_n 1, 1) := rfl
theorem pS_row_18 : alk tS_row 18 = some (.ifCond .lt 25, 3) := rfl
theorem pS_row_21 : alk tS_row 21 = some (.iload_n 1, 1) := rfl
theorem pS_row_22 : alk tS_row 22 = some (.aload_n 0, 1) := rfl
theorem pS_row_23 : alk tS_row 23 = some (.getfield 56, 3) := rfl
theorem pS_row_26 : alk tS_row 26 = some (.getfield 370, 3) := rfl
theorem pS_row_29 : alk tS_row 29 = some (.if_icmp .ge 14, 3) := rfl
theorem pS_row_32 : alk tS_row 32 = some (.aload_n 0, 1) := rfl
theorem pS_row_33 : alk tS_row 33 = some (.getfield 56, 3) := rfl
theorem pS_row_36 : alk tS_row 36 = some (.iload_n 1, 1) := rfl
theorem pS_row_37 : alk tS_row 37 = some (.invokevirtual 371, 3) := rfl
theorem pS_row_40 : alk tS_row 40 = some (.goto 9, 3) := rfl
theorem pS_row_43 : alk tS_row 43 = some (.aload_n 0, 1) := rfl
theorem pS_row_44 : alk tS_row 44 = some (.bipush (-3), 2) := rfl
theorem pS_row_46 : alk tS_row 46 = some (.invokevirtual 79, 3) := rfl
theorem pS_row_49 : alk tS_row 49 = some (.ireturn, 1) := rfl
def tR_at : TB := [(0, .iload_n 1, 1), (1, .ifCond .lt 20, 3), (4, .iload_n 1, 1), (5, .aload_n 0, 1), (6, .getfield 15, 3), (9, .if_icmp .ge 12, 3), (12, .aload_n 0, 1), (13, .getfield 9, 3), (16, .iload_n 1, 1), (17, .iaload, 1), (18, .goto 4, 3), (21, .iconst (-1), 1), (22, .ireturn, 1)]
set_option maxRecDepth 100000 in
theorem kR_at : tbOk (mB mR_at) tR_at = true := by decide +kernel
theorem pR_at_0 : alk tR_at 0 = some (.iload_n 1, 1) := rfl
theorem pR_at_1 : alk tR_at 1 = some (.ifCond .lt 20, 3) := rfl
theorem pR_at_4 : alk tR_at 4 = some (.iload_n 1, 1) := rfl
theorem pR_at_5 : alk tR_at 5 = some (.aload_n 0, 1) := rfl
theorem pR_at_6 : alk tR_at 6 = some (.getfield 15, 3) := rfl
theorem pR_at_9 : alk tR_at 9 = some (.if_icmp .ge 12, 3) := rfl
theorem pR_at_12 : alk tR_at 12 = some (.aload_n 0, 1) := rfl
theorem pR_at_13 : alk tR_at 13 = some (.getfield 9, 3) := rfl
theorem pR_at_16 : alk tR_at 16 = some (.iload_n 1, 1) := rfl
theorem pR_at_17 : alk tR_at 17 = some (.iaload, 1) := rfl
theorem pR_at_18 : alk tR_at 18 = some (.goto 4, 3) := rfl
theorem pR_at_21 : alk tR_at 21 = some (.iconst (-1), 1) := rfl
theorem pR_at_22 : alk tR_at 22 = some (.ireturn, 1) := rfl
def tS_copy : TB := [(0, .aload_n 0, 1), (1, .getfield 56, 3), (4, .getfield 367, 3), (7, .ifCond .ne 10, 3), (10, .aload_n 0, 1), (11, .bipush (-2), 2), (13, .invokevirtual 79, 3), (16, .ireturn, 1), (17, .iload_n 3, 1), (18, .ifCond .ge 10, 3), (21, .aload_n 0, 1), (22, .bipush (-4), 2), (24, .invokevirtual 79, 3), (27, .ireturn, 1), (28, .aload_n 0, 1), (29, .getfield 56, 3), (32, .iload_n 1, 1), (33, .iload_n 3, 1), (34, .invokevirtual 373, 3), (37, .ifCond .eq 15, 3), (40, .aload_n 0, 1), (41, .getfield 56, 3), (44, .iload_n 2, 1), (45, .iload_n 3, 1), (46, .invokevirtual 373, 3), (49, .ifCond .ne 10, 3), (52, .aload_n 0, 1), (53, .bipush (-6), 2), (55, .invokevirtual 79, 3), (58, .ireturn, 1), (59, .aload_n 0, 1), (60, .getfield 56, 3), (63, .iload_n 1, 1), (64, .iload_n 2, 1), (65, .iload_n 3, 1), (66, .invokevirtual 377, 3), (69, .iload_n 3, 1), (70, .ireturn, 1)]
set_option maxRecDepth 100000 in
theorem kS_copy : tbOk (mB mS_copy) tS_copy = true := by decide +kernel
theorem pS_copy_0 : alk tS_copy 0 = some (.aload_n 0, 1) := rfl
theorem pS_copy_1 : alk tS_copy 1 = some (.getfield 56, 3) := rfl
theorem pS_copy_4 : alk tS_copy 4 = some (.getfield 367, 3) := rfl
theorem pS_copy_7 : alk tS_copy 7 = some (.ifCond .ne 10, 3) := rfl
theorem pS_copy_10 : alk tS_copy 10 = some (.aload_n 0, 1) := rfl
theorem pS_copy_11 : alk tS_copy 11 = some (.bipush (-2), 2) := rfl
theorem pS_copy_13 : alk tS_copy 13 = some (.invokevirtual 79, 3) := rfl
theorem pS_copy_16 : alk tS_copy 16 = some (.ireturn, 1) := rfl
theorem pS_copy_17 : alk tS_copy 17 = some (.iload_n 3, 1) := rfl
theorem pS_copy_18 : alk tS_copy 18 = some (.ifCond .ge 10, 3) := rfl
theorem pS_copy_21 : alk tS_copy 21 = some (.aload_n 0, 1) := rfl
theorem pS_copy_22 : alk tS_copy 22 = some (.bipush (-4), 2) := rfl
theorem pS_copy_24 : alk tS_copy 24 = some (.invokevirtual 79, 3) := rfl
theorem pS_copy_27 : alk tS_copy 27 = some (.ireturn, 1) := rfl
theorem pS_copy_28 : alk tS_copy 28 = some (.aload_n 0, 1) := rfl
theorem pS_copy_29 : alk tS_copy 29 = some (.getfield 56, 3) := rfl
theorem pS_copy_32 : alk tS_copy 32 = some (.iload_n 1, 1) := rfl
theorem pS_copy_33 : alk tS_copy 33 = some (.iload_n 3, 1) := rfl
theorem pS_copy_34 : alk tS_copy 34 = some (.invokevirtual 373, 3) := rfl
theorem pS_copy_37 : alk tS_copy 37 = some (.ifCond .eq 15, 3) := rfl
theorem pS_copy_40 : alk tS_copy 40 = some (.aload_n 0, 1) := rfl
theorem pS_copy_41 : alk tS_copy 41 = some (.getfield 56, 3) := rfl
theorem pS_copy_44 : alk tS_copy 44 = some (.iload_n 2, 1) := rfl
theorem pS_copy_45 : alk tS_copy 45 = some (.iload_n 3, 1) := rfl
theorem pS_copy_46 : alk tS_copy 46 = some (.invokevirtual 373, 3) := rfl
theorem pS_copy_49 : alk tS_copy 49 = some (.ifCond .ne 10, 3) := rfl
theorem pS_copy_52 : alk tS_copy 52 = some (.aload_n 0, 1) := rfl
theorem pS_copy_53 : alk tS_copy 53 = some (.bipush (-6), 2) := rfl
theorem pS_copy_55 : alk tS_copy 55 = some (.invokevirtual 79, 3) := rfl
theorem pS_copy_58 : alk tS_copy 58 = some (.ireturn, 1) := rfl
theorem pS_copy_59 : alk tS_copy 59 = some (.aload_n 0, 1) := rfl
theorem pS_copy_60 : alk tS_copy 60 = some (.getfield 56, 3) := rfl
theorem pS_copy_63 : alk tS_copy 63 = some (.iload_n 1, 1) := rfl
theorem pS_copy_64 : alk tS_copy 64 = some (.iload_n 2, 1) := rfl
theorem pS_copy_65 : alk tS_copy 65 = some (.iload_n 3, 1) := rfl
theorem pS_copy_66 : alk tS_copy 66 = some (.invokevirtual 377, 3) := rfl
theorem pS_copy_69 : alk tS_copy 69 = some (.iload_n 3, 1) := rfl
theorem pS_copy_70 : alk tS_copy 70 = some (.ireturn, 1) := rfl
def tR_spans : TB := [(0, .iload_n 1, 1), (1, .ifCond .lt 25, 3), (4, .iload_n 2, 1), (5, .ifCond .lt 21, 3), (8, .iload_n 1, 1), (9, .i2l, 1), (10, .iload_n 2, 1), (11, .i2l, 1), (12, .ladd, 1), (13, .aload_n 0, 1), (14, .getfield 15, 3), (17, .i2l, 1), (18, .lcmp, 1), (19, .ifCond .gt 7, 3), (22, .iconst 1, 1), (23, .goto 4, 3), (26, .iconst 0, 1), (27, .ireturn, 1)]
set_option maxRecDepth 100000 in
theorem kR_spans : tbOk (mB mR_spans) tR_spans = true := by decide +kernel
theorem pR_spans_0 : alk tR_spans 0 = some (.iload_n 1, 1) := rfl
theorem pR_spans_1 : alk tR_spans 1 = some (.ifCond .lt 25, 3) := rfl
theorem pR_spans_4 : alk tR_spans 4 = some (.iload_n 2, 1) := rfl
theorem pR_spans_5 : alk tR_spans 5 = some (.ifCond .lt 21, 3) := rfl
theorem pR_spans_8 : alk tR_spans 8 = some (.iload_n 1, 1) := rfl
theorem pR_spans_9 : alk tR_spans 9 = some (.i2l, 1) := rfl
theorem pR_spans_10 : alk tR_spans 10 = some (.iload_n 2, 1) := rfl
theorem pR_spans_11 : alk tR_spans 11 = some (.i2l, 1) := rfl
theorem pR_spans_12 : alk tR_spans 12 = some (.ladd, 1) := rfl
theorem pR_spans_13 : alk tR_spans 13 = some (.aload_n 0, 1) := rfl
theorem pR_spans_14 : alk tR_spans 14 = some (.getfield 15, 3) := rfl
theorem pR_spans_17 : alk tR_spans 17 = some (.i2l, 1) := rfl
theorem pR_spans_18 : alk tR_spans 18 = some (.lcmp, 1) := rfl
theorem pR_spans_19 : alk tR_spans 19 = some (.ifCond .gt 7, 3) := rfl
theorem pR_spans_22 : alk tR_spans 22 = some (.iconst 1, 1) := rfl
theorem pR_spans_23 : alk tR_spans 23 = some (.goto 4, 3) := rfl
theorem pR_spans_26 : alk tR_spans 26 = some (.iconst 0, 1) := rfl
theorem pR_spans_27 : alk tR_spans 27 = some (.ireturn, 1) := rfl
def tR_move : TB := [(0, .aload_n 0, 1), (1, .iload_n 1, 1), (2, .iload_n 3, 1), (3, .invokevirtual 29, 3), (6, .ifCond .eq 26, 3), (9, .aload_n 0, 1), (10, .iload_n 2, 1), (11, .iload_n 3, 1), (12, .invokevirtual 29, 3), (15, .ifCond .eq 17, 3), (18, .aload_n 0, 1), (19, .getfield 9, 3), (22, .iload_n 1, 1), (23, .aload_n 0, 1), (24, .getfield 9, 3), (27, .iload_n 2, 1), (28, .iload_n 3, 1), (29, .invokestatic 33, 3), (32, .return_, 1)]
set_option maxRecDepth 100000 in
theorem kR_move : tbOk (mB mR_move) tR_move = true := by decide +kernel
theorem pR_move_0 : alk tR_move 0 = some (.aload_n 0, 1) := rfl
theorem pR_move_1 : alk tR_move 1 = some (.iload_n 1, 1) := rfl
theorem pR_move_2 : alk tR_move 2 = some (.iload_n 3, 1) := rfl
theorem pR_move_3 : alk tR_move 3 = some (.invokevirtual 29, 3) := rfl
theorem pR_move_6 : alk tR_move 6 = some (.ifCond .eq 26, 3) := rfl
theorem pR_move_9 : alk tR_move 9 = some (.aload_n 0, 1) := rfl
theorem pR_move_10 : alk tR_move 10 = some (.iload_n 2, 1) := rfl
theorem pR_move_11 : alk tR_move 11 = some (.iload_n 3, 1) := rfl
theorem pR_move_12 : alk tR_move 12 = some (.invokevirtual 29, 3) := rfl
theorem pR_move_15 : alk tR_move 15 = some (.ifCond .eq 17, 3) := rfl
theorem pR_move_18 : alk tR_move 18 = some (.aload_n 0, 1) := rfl
theorem pR_move_19 : alk tR_move 19 = some (.getfield 9, 3) := rfl
theorem pR_move_22 : alk tR_move 22 = some (.iload_n 1, 1) := rfl
theorem pR_move_23 : alk tR_move 23 = some (.aload_n 0, 1) := rfl
theorem pR_move_24 : alk tR_move 24 = some (.getfield 9, 3) := rfl
theorem pR_move_27 : alk tR_move 27 = some (.iload_n 2, 1) := rfl
theorem pR_move_28 : alk tR_move 28 = some (.iload_n 3, 1) := rfl
theorem pR_move_29 : alk tR_move 29 = some (.invokestatic 33, 3) := rfl
theorem pR_move_32 : alk tR_move 32 = some (.return_, 1) := rfl
def tS_status : TB := [(0, .iload_n 1, 1), (1, .bipush (-8), 2), (3, .bipush (-2), 2), (5, .invokestatic 75, 3), (8, .ifCond .eq 13, 3), (11, .aload_n 0, 1), (12, .getfield 67, 3), (15, .iload_n 1, 1), (16, .ineg, 1), (17, .iaload, 1), (18, .goto 9, 3), (21, .aload_n 0, 1), (22, .bipush (-7), 2), (24, .invokevirtual 79, 3), (27, .ireturn, 1)]
set_option maxRecDepth 100000 in
theorem kS_status : tbOk (mB mS_status) tS_status = true := by decide +kernel
theorem pS_status_0 : alk tS_status 0 = some (.iload_n 1, 1) := rfl
theorem pS_status_1 : alk tS_status 1 = some (.bipush (-8), 2) := rfl
theorem pS_status_3 : alk tS_status 3 = some (.bipush (-2), 2) := rfl
theorem pS_status_5 : alk tS_status 5 = some (.invokestatic 75, 3) := rfl
theorem pS_status_8 : alk tS_status 8 = some (.ifCond .eq 13, 3) := rfl
theorem pS_status_11 : alk tS_status 11 = some (.aload_n 0, 1) := rfl
theorem pS_status_12 : alk tS_status 12 = some (.getfield 67, 3) := rfl
theorem pS_status_15 : alk tS_status 15 = some (.iload_n 1, 1) := rfl
theorem pS_status_16 : alk tS_status 16 = some (.ineg, 1) := rfl
theorem pS_status_17 : alk tS_status 17 = some (.iaload, 1) := rfl
theorem pS_status_18 : alk tS_status 18 = some (.goto 9, 3) := rfl
theorem pS_status_21 : alk tS_status 21 = some (.aload_n 0, 1) := rfl
theorem pS_status_22 : alk tS_status 22 = some (.bipush (-7), 2) := rfl
theorem pS_status_24 : alk tS_status 24 = some (.invokevirtual 79, 3) := rfl
theorem pS_status_27 : alk tS_status 27 = some (.ireturn, 1) := rfl
