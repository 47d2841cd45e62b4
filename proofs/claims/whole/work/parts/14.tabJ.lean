/-! the methods' tables -/
def tJq_init : TB := [(0, .return_, 1)]
set_option maxRecDepth 100000 in
theorem kJq_init : tbOk (mB mJq_init) tJq_init = true := by decide +kernel
theorem pJq_init_0 : alk tJq_init 0 = some (.return_, 1) := (rfl)
def tL_init : TB := [(0, .aload_n 0, 1), (1, .invokespecial 1, 3), (4, .aload_n 0, 1), (5, .getstatic 39, 3), (8, .putfield 9, 3), (11, .return_, 1)]
set_option maxRecDepth 100000 in
theorem kL_init : tbOk (mB mL_init) tL_init = true := by decide +kernel
theorem pL_init_0 : alk tL_init 0 = some (.aload_n 0, 1) := (rfl)
theorem pL_init_1 : alk tL_init 1 = some (.invokespecial 1, 3) := (rfl)
theorem pL_init_4 : alk tL_init 4 = some (.aload_n 0, 1) := (rfl)
theorem pL_init_5 : alk tL_init 5 = some (.getstatic 39, 3) := (rfl)
theorem pL_init_8 : alk tL_init 8 = some (.putfield 9, 3) := (rfl)
theorem pL_init_11 : alk tL_init 11 = some (.return_, 1) := (rfl)
def tJa_init : TB := [(0, .aload_n 0, 1), (1, .invokespecial 1, 3), (4, .aload_n 0, 1), (5, .iconst 0, 1), (6, .putfield 7, 3), (9, .return_, 1)]
set_option maxRecDepth 100000 in
theorem kJa_init : tbOk (mB mJa_init) tJa_init = true := by decide +kernel
theorem pJa_init_0 : alk tJa_init 0 = some (.aload_n 0, 1) := (rfl)
theorem pJa_init_1 : alk tJa_init 1 = some (.invokespecial 1, 3) := (rfl)
theorem pJa_init_4 : alk tJa_init 4 = some (.aload_n 0, 1) := (rfl)
theorem pJa_init_5 : alk tJa_init 5 = some (.iconst 0, 1) := (rfl)
theorem pJa_init_6 : alk tJa_init 6 = some (.putfield 7, 3) := (rfl)
theorem pJa_init_9 : alk tJa_init 9 = some (.return_, 1) := (rfl)
def tJc_init : TB := [(0, .aload_n 0, 1), (1, .invokespecial 1, 3), (4, .return_, 1)]
set_option maxRecDepth 100000 in
theorem kJc_init : tbOk (mB mJc_init) tJc_init = true := by decide +kernel
theorem pJc_init_0 : alk tJc_init 0 = some (.aload_n 0, 1) := (rfl)
theorem pJc_init_1 : alk tJc_init 1 = some (.invokespecial 1, 3) := (rfl)
theorem pJc_init_4 : alk tJc_init 4 = some (.return_, 1) := (rfl)
def tL_size : TB := [(0, .aload_n 0, 1), (1, .getfield 48, 3), (4, .ireturn, 1)]
set_option maxRecDepth 100000 in
theorem kL_size : tbOk (mB mL_size) tL_size = true := by decide +kernel
theorem pL_size_0 : alk tL_size 0 = some (.aload_n 0, 1) := (rfl)
theorem pL_size_1 : alk tL_size 1 = some (.getfield 48, 3) := (rfl)
theorem pL_size_4 : alk tL_size 4 = some (.ireturn, 1) := (rfl)
def tL_add1z : TB := [(0, .aload_n 0, 1), (1, .dup, 1), (2, .getfield 63, 3), (5, .iconst 1, 1), (6, .iadd, 1), (7, .putfield 63, 3), (10, .aload_n 0, 1), (11, .aload_n 1, 1), (12, .aload_n 0, 1), (13, .getfield 9, 3), (16, .aload_n 0, 1), (17, .getfield 48, 3), (20, .invokevirtual 131, 3), (23, .iconst 1, 1), (24, .ireturn, 1)]
set_option maxRecDepth 100000 in
theorem kL_add1z : tbOk (mB mL_add1z) tL_add1z = true := by decide +kernel
theorem pL_add1z_0 : alk tL_add1z 0 = some (.aload_n 0, 1) := (rfl)
theorem pL_add1z_1 : alk tL_add1z 1 = some (.dup, 1) := (rfl)
theorem pL_add1z_2 : alk tL_add1z 2 = some (.getfield 63, 3) := (rfl)
theorem pL_add1z_5 : alk tL_add1z 5 = some (.iconst 1, 1) := (rfl)
theorem pL_add1z_6 : alk tL_add1z 6 = some (.iadd, 1) := (rfl)
theorem pL_add1z_7 : alk tL_add1z 7 = some (.putfield 63, 3) := (rfl)
theorem pL_add1z_10 : alk tL_add1z 10 = some (.aload_n 0, 1) := (rfl)
theorem pL_add1z_11 : alk tL_add1z 11 = some (.aload_n 1, 1) := (rfl)
theorem pL_add1z_12 : alk tL_add1z 12 = some (.aload_n 0, 1) := (rfl)
theorem pL_add1z_13 : alk tL_add1z 13 = some (.getfield 9, 3) := (rfl)
theorem pL_add1z_16 : alk tL_add1z 16 = some (.aload_n 0, 1) := (rfl)
theorem pL_add1z_17 : alk tL_add1z 17 = some (.getfield 48, 3) := (rfl)
theorem pL_add1z_20 : alk tL_add1z 20 = some (.invokevirtual 131, 3) := (rfl)
theorem pL_add1z_23 : alk tL_add1z 23 = some (.iconst 1, 1) := (rfl)
theorem pL_add1z_24 : alk tL_add1z 24 = some (.ireturn, 1) := (rfl)
def tL_add3v : TB := [(0, .iload_n 3, 1), (1, .aload_n 2, 1), (2, .arraylength, 1), (3, .if_icmp .ne 8, 3), (6, .aload_n 0, 1), (7, .invokevirtual 129, 3), (10, .astore_n 2, 1), (11, .aload_n 2, 1), (12, .iload_n 3, 1), (13, .aload_n 1, 1), (14, .aastore, 1), (15, .aload_n 0, 1), (16, .iload_n 3, 1), (17, .iconst 1, 1), (18, .iadd, 1), (19, .putfield 48, 3), (22, .return_, 1)]
set_option maxRecDepth 100000 in
theorem kL_add3v : tbOk (mB mL_add3v) tL_add3v = true := by decide +kernel
theorem pL_add3v_0 : alk tL_add3v 0 = some (.iload_n 3, 1) := (rfl)
theorem pL_add3v_1 : alk tL_add3v 1 = some (.aload_n 2, 1) := (rfl)
theorem pL_add3v_2 : alk tL_add3v 2 = some (.arraylength, 1) := (rfl)
theorem pL_add3v_3 : alk tL_add3v 3 = some (.if_icmp .ne 8, 3) := (rfl)
theorem pL_add3v_6 : alk tL_add3v 6 = some (.aload_n 0, 1) := (rfl)
theorem pL_add3v_7 : alk tL_add3v 7 = some (.invokevirtual 129, 3) := (rfl)
theorem pL_add3v_10 : alk tL_add3v 10 = some (.astore_n 2, 1) := (rfl)
theorem pL_add3v_11 : alk tL_add3v 11 = some (.aload_n 2, 1) := (rfl)
theorem pL_add3v_12 : alk tL_add3v 12 = some (.iload_n 3, 1) := (rfl)
theorem pL_add3v_13 : alk tL_add3v 13 = some (.aload_n 1, 1) := (rfl)
theorem pL_add3v_14 : alk tL_add3v 14 = some (.aastore, 1) := (rfl)
theorem pL_add3v_15 : alk tL_add3v 15 = some (.aload_n 0, 1) := (rfl)
theorem pL_add3v_16 : alk tL_add3v 16 = some (.iload_n 3, 1) := (rfl)
theorem pL_add3v_17 : alk tL_add3v 17 = some (.iconst 1, 1) := (rfl)
theorem pL_add3v_18 : alk tL_add3v 18 = some (.iadd, 1) := (rfl)
theorem pL_add3v_19 : alk tL_add3v 19 = some (.putfield 48, 3) := (rfl)
theorem pL_add3v_22 : alk tL_add3v 22 = some (.return_, 1) := (rfl)
def tL_grow0 : TB := [(0, .aload_n 0, 1), (1, .aload_n 0, 1), (2, .getfield 48, 3), (5, .iconst 1, 1), (6, .iadd, 1), (7, .invokevirtual 69, 3), (10, .areturn, 1)]
set_option maxRecDepth 100000 in
theorem kL_grow0 : tbOk (mB mL_grow0) tL_grow0 = true := by decide +kernel
theorem pL_grow0_0 : alk tL_grow0 0 = some (.aload_n 0, 1) := (rfl)
theorem pL_grow0_1 : alk tL_grow0 1 = some (.aload_n 0, 1) := (rfl)
theorem pL_grow0_2 : alk tL_grow0 2 = some (.getfield 48, 3) := (rfl)
theorem pL_grow0_5 : alk tL_grow0 5 = some (.iconst 1, 1) := (rfl)
theorem pL_grow0_6 : alk tL_grow0 6 = some (.iadd, 1) := (rfl)
theorem pL_grow0_7 : alk tL_grow0 7 = some (.invokevirtual 69, 3) := (rfl)
theorem pL_grow0_10 : alk tL_grow0 10 = some (.areturn, 1) := (rfl)
def tL_grow1 : TB := [(0, .aload_n 0, 1), (1, .getfield 9, 3), (4, .arraylength, 1), (5, .istore_n 2, 1), (6, .iload_n 2, 1), (7, .ifCond .gt 13, 3), (10, .aload_n 0, 1), (11, .getfield 9, 3), (14, .getstatic 39, 3), (17, .if_acmp .eq 28, 3), (20, .iload_n 2, 1), (21, .iload_n 1, 1), (22, .iload_n 2, 1), (23, .isub, 1), (24, .iload_n 2, 1), (25, .iconst 1, 1), (26, .ishr, 1), (27, .invokestatic 73, 3), (30, .istore_n 3, 1), (31, .aload_n 0, 1), (32, .aload_n 0, 1), (33, .getfield 9, 3), (36, .iload_n 3, 1), (37, .invokestatic 66, 3), (40, .dup_x1, 1), (41, .putfield 9, 3), (44, .areturn, 1), (45, .aload_n 0, 1), (46, .bipush 10, 2), (48, .iload_n 1, 1), (49, .invokestatic 79, 3), (52, .anewarray 7, 3), (55, .dup_x1, 1), (56, .putfield 9, 3), (59, .areturn, 1)]
set_option maxRecDepth 100000 in
theorem kL_grow1 : tbOk (mB mL_grow1) tL_grow1 = true := by decide +kernel
theorem pL_grow1_0 : alk tL_grow1 0 = some (.aload_n 0, 1) := (rfl)
theorem pL_grow1_1 : alk tL_grow1 1 = some (.getfield 9, 3) := (rfl)
theorem pL_grow1_4 : alk tL_grow1 4 = some (.arraylength, 1) := (rfl)
theorem pL_grow1_5 : alk tL_grow1 5 = some (.istore_n 2, 1) := (rfl)
theorem pL_grow1_6 : alk tL_grow1 6 = some (.iload_n 2, 1) := (rfl)
theorem pL_grow1_7 : alk tL_grow1 7 = some (.ifCond .gt 13, 3) := (rfl)
theorem pL_grow1_10 : alk tL_grow1 10 = some (.aload_n 0, 1) := (rfl)
theorem pL_grow1_11 : alk tL_grow1 11 = some (.getfield 9, 3) := (rfl)
theorem pL_grow1_14 : alk tL_grow1 14 = some (.getstatic 39, 3) := (rfl)
theorem pL_grow1_17 : alk tL_grow1 17 = some (.if_acmp .eq 28, 3) := (rfl)
theorem pL_grow1_20 : alk tL_grow1 20 = some (.iload_n 2, 1) := (rfl)
theorem pL_grow1_21 : alk tL_grow1 21 = some (.iload_n 1, 1) := (rfl)
theorem pL_grow1_22 : alk tL_grow1 22 = some (.iload_n 2, 1) := (rfl)
theorem pL_grow1_23 : alk tL_grow1 23 = some (.isub, 1) := (rfl)
theorem pL_grow1_24 : alk tL_grow1 24 = some (.iload_n 2, 1) := (rfl)
theorem pL_grow1_25 : alk tL_grow1 25 = some (.iconst 1, 1) := (rfl)
theorem pL_grow1_26 : alk tL_grow1 26 = some (.ishr, 1) := (rfl)
theorem pL_grow1_27 : alk tL_grow1 27 = some (.invokestatic 73, 3) := (rfl)
theorem pL_grow1_30 : alk tL_grow1 30 = some (.istore_n 3, 1) := (rfl)
theorem pL_grow1_31 : alk tL_grow1 31 = some (.aload_n 0, 1) := (rfl)
theorem pL_grow1_32 : alk tL_grow1 32 = some (.aload_n 0, 1) := (rfl)
theorem pL_grow1_33 : alk tL_grow1 33 = some (.getfield 9, 3) := (rfl)
theorem pL_grow1_36 : alk tL_grow1 36 = some (.iload_n 3, 1) := (rfl)
theorem pL_grow1_37 : alk tL_grow1 37 = some (.invokestatic 66, 3) := (rfl)
theorem pL_grow1_40 : alk tL_grow1 40 = some (.dup_x1, 1) := (rfl)
theorem pL_grow1_41 : alk tL_grow1 41 = some (.putfield 9, 3) := (rfl)
theorem pL_grow1_44 : alk tL_grow1 44 = some (.areturn, 1) := (rfl)
theorem pL_grow1_45 : alk tL_grow1 45 = some (.aload_n 0, 1) := (rfl)
theorem pL_grow1_46 : alk tL_grow1 46 = some (.bipush 10, 2) := (rfl)
theorem pL_grow1_48 : alk tL_grow1 48 = some (.iload_n 1, 1) := (rfl)
theorem pL_grow1_49 : alk tL_grow1 49 = some (.invokestatic 79, 3) := (rfl)
theorem pL_grow1_52 : alk tL_grow1 52 = some (.anewarray 7, 3) := (rfl)
theorem pL_grow1_55 : alk tL_grow1 55 = some (.dup_x1, 1) := (rfl)
theorem pL_grow1_56 : alk tL_grow1 56 = some (.putfield 9, 3) := (rfl)
theorem pL_grow1_59 : alk tL_grow1 59 = some (.areturn, 1) := (rfl)
def tJx_newLength : TB := [(0, .iload_n 0, 1), (1, .iload_n 1, 1), (2, .iload_n 2, 1), (3, .invokestatic 194, 3), (6, .iadd, 1), (7, .istore_n 3, 1), (8, .iconst 0, 1), (9, .iload_n 3, 1), (10, .if_icmp .ge 11, 3), (13, .iload_n 3, 1), (14, .ldc 200, 2), (16, .if_icmp .gt 5, 3), (19, .iload_n 3, 1), (20, .ireturn, 1), (21, .iload_n 0, 1), (22, .iload_n 1, 1), (23, .invokestatic 201, 3), (26, .ireturn, 1)]
set_option maxRecDepth 100000 in
theorem kJx_newLength : tbOk (mB mJx_newLength) tJx_newLength = true := by decide +kernel
theorem pJx_newLength_0 : alk tJx_newLength 0 = some (.iload_n 0, 1) := (rfl)
theorem pJx_newLength_1 : alk tJx_newLength 1 = some (.iload_n 1, 1) := (rfl)
theorem pJx_newLength_2 : alk tJx_newLength 2 = some (.iload_n 2, 1) := (rfl)
theorem pJx_newLength_3 : alk tJx_newLength 3 = some (.invokestatic 194, 3) := (rfl)
theorem pJx_newLength_6 : alk tJx_newLength 6 = some (.iadd, 1) := (rfl)
theorem pJx_newLength_7 : alk tJx_newLength 7 = some (.istore_n 3, 1) := (rfl)
theorem pJx_newLength_8 : alk tJx_newLength 8 = some (.iconst 0, 1) := (rfl)
theorem pJx_newLength_9 : alk tJx_newLength 9 = some (.iload_n 3, 1) := (rfl)
theorem pJx_newLength_10 : alk tJx_newLength 10 = some (.if_icmp .ge 11, 3) := (rfl)
theorem pJx_newLength_13 : alk tJx_newLength 13 = some (.iload_n 3, 1) := (rfl)
theorem pJx_newLength_14 : alk tJx_newLength 14 = some (.ldc 200, 2) := (rfl)
theorem pJx_newLength_16 : alk tJx_newLength 16 = some (.if_icmp .gt 5, 3) := (rfl)
theorem pJx_newLength_19 : alk tJx_newLength 19 = some (.iload_n 3, 1) := (rfl)
theorem pJx_newLength_20 : alk tJx_newLength 20 = some (.ireturn, 1) := (rfl)
theorem pJx_newLength_21 : alk tJx_newLength 21 = some (.iload_n 0, 1) := (rfl)
theorem pJx_newLength_22 : alk tJx_newLength 22 = some (.iload_n 1, 1) := (rfl)
theorem pJx_newLength_23 : alk tJx_newLength 23 = some (.invokestatic 201, 3) := (rfl)
theorem pJx_newLength_26 : alk tJx_newLength 26 = some (.ireturn, 1) := (rfl)
def tJm_max : TB := [(0, .iload_n 0, 1), (1, .iload_n 1, 1), (2, .if_icmp .lt 7, 3), (5, .iload_n 0, 1), (6, .goto 4, 3), (9, .iload_n 1, 1), (10, .ireturn, 1)]
set_option maxRecDepth 100000 in
theorem kJm_max : tbOk (mB mJm_max) tJm_max = true := by decide +kernel
theorem pJm_max_0 : alk tJm_max 0 = some (.iload_n 0, 1) := (rfl)
theorem pJm_max_1 : alk tJm_max 1 = some (.iload_n 1, 1) := (rfl)
theorem pJm_max_2 : alk tJm_max 2 = some (.if_icmp .lt 7, 3) := (rfl)
theorem pJm_max_5 : alk tJm_max 5 = some (.iload_n 0, 1) := (rfl)
theorem pJm_max_6 : alk tJm_max 6 = some (.goto 4, 3) := (rfl)
theorem pJm_max_9 : alk tJm_max 9 = some (.iload_n 1, 1) := (rfl)
theorem pJm_max_10 : alk tJm_max 10 = some (.ireturn, 1) := (rfl)
def tJx_hugeLength : TB := [(0, .iload_n 0, 1), (1, .iload_n 1, 1), (2, .iadd, 1), (3, .istore_n 2, 1), (4, .iload_n 2, 1), (5, .ifCond .ge 44, 3), (8, .new 204, 3), (11, .dup, 1), (12, .new 89, 3), (15, .dup, 1), (16, .invokespecial 91, 3), (19, .ldc 206, 2), (21, .invokevirtual 94, 3), (24, .iload_n 0, 1), (25, .invokevirtual 98, 3), (28, .ldc 208, 2), (30, .invokevirtual 94, 3), (33, .iload_n 1, 1), (34, .invokevirtual 98, 3), (37, .ldc 210, 2), (39, .invokevirtual 94, 3), (42, .invokevirtual 101, 3), (45, .invokespecial 212, 3), (48, .athrow, 1), (49, .iload_n 2, 1), (50, .ldc 200, 2), (52, .if_icmp .gt 6, 3), (55, .ldc 200, 2), (57, .ireturn, 1), (58, .iload_n 2, 1), (59, .ireturn, 1)]
set_option maxRecDepth 100000 in
theorem kJx_hugeLength : tbOk (mB mJx_hugeLength) tJx_hugeLength = true := by decide +kernel
theorem pJx_hugeLength_0 : alk tJx_hugeLength 0 = some (.iload_n 0, 1) := (rfl)
theorem pJx_hugeLength_1 : alk tJx_hugeLength 1 = some (.iload_n 1, 1) := (rfl)
theorem pJx_hugeLength_2 : alk tJx_hugeLength 2 = some (.iadd, 1) := (rfl)
theorem pJx_hugeLength_3 : alk tJx_hugeLength 3 = some (.istore_n 2, 1) := (rfl)
theorem pJx_hugeLength_4 : alk tJx_hugeLength 4 = some (.iload_n 2, 1) := (rfl)
theorem pJx_hugeLength_5 : alk tJx_hugeLength 5 = some (.ifCond .ge 44, 3) := (rfl)
theorem pJx_hugeLength_8 : alk tJx_hugeLength 8 = some (.new 204, 3) := (rfl)
theorem pJx_hugeLength_11 : alk tJx_hugeLength 11 = some (.dup, 1) := (rfl)
theorem pJx_hugeLength_12 : alk tJx_hugeLength 12 = some (.new 89, 3) := (rfl)
theorem pJx_hugeLength_15 : alk tJx_hugeLength 15 = some (.dup, 1) := (rfl)
theorem pJx_hugeLength_16 : alk tJx_hugeLength 16 = some (.invokespecial 91, 3) := (rfl)
theorem pJx_hugeLength_19 : alk tJx_hugeLength 19 = some (.ldc 206, 2) := (rfl)
theorem pJx_hugeLength_21 : alk tJx_hugeLength 21 = some (.invokevirtual 94, 3) := (rfl)
theorem pJx_hugeLength_24 : alk tJx_hugeLength 24 = some (.iload_n 0, 1) := (rfl)
theorem pJx_hugeLength_25 : alk tJx_hugeLength 25 = some (.invokevirtual 98, 3) := (rfl)
theorem pJx_hugeLength_28 : alk tJx_hugeLength 28 = some (.ldc 208, 2) := (rfl)
theorem pJx_hugeLength_30 : alk tJx_hugeLength 30 = some (.invokevirtual 94, 3) := (rfl)
theorem pJx_hugeLength_33 : alk tJx_hugeLength 33 = some (.iload_n 1, 1) := (rfl)
theorem pJx_hugeLength_34 : alk tJx_hugeLength 34 = some (.invokevirtual 98, 3) := (rfl)
theorem pJx_hugeLength_37 : alk tJx_hugeLength 37 = some (.ldc 210, 2) := (rfl)
theorem pJx_hugeLength_39 : alk tJx_hugeLength 39 = some (.invokevirtual 94, 3) := (rfl)
theorem pJx_hugeLength_42 : alk tJx_hugeLength 42 = some (.invokevirtual 101, 3) := (rfl)
theorem pJx_hugeLength_45 : alk tJx_hugeLength 45 = some (.invokespecial 212, 3) := (rfl)
theorem pJx_hugeLength_48 : alk tJx_hugeLength 48 = some (.athrow, 1) := (rfl)
theorem pJx_hugeLength_49 : alk tJx_hugeLength 49 = some (.iload_n 2, 1) := (rfl)
theorem pJx_hugeLength_50 : alk tJx_hugeLength 50 = some (.ldc 200, 2) := (rfl)
theorem pJx_hugeLength_52 : alk tJx_hugeLength 52 = some (.if_icmp .gt 6, 3) := (rfl)
theorem pJx_hugeLength_55 : alk tJx_hugeLength 55 = some (.ldc 200, 2) := (rfl)
theorem pJx_hugeLength_57 : alk tJx_hugeLength 57 = some (.ireturn, 1) := (rfl)
theorem pJx_hugeLength_58 : alk tJx_hugeLength 58 = some (.iload_n 2, 1) := (rfl)
theorem pJx_hugeLength_59 : alk tJx_hugeLength 59 = some (.ireturn, 1) := (rfl)
def tJr_copyOf2 : TB := [(0, .aload_n 0, 1), (1, .iload_n 1, 1), (2, .aload_n 0, 1), (3, .invokevirtual 86, 3), (6, .invokestatic 300, 3), (9, .areturn, 1)]
set_option maxRecDepth 100000 in
theorem kJr_copyOf2 : tbOk (mB mJr_copyOf2) tJr_copyOf2 = true := by decide +kernel
theorem pJr_copyOf2_0 : alk tJr_copyOf2 0 = some (.aload_n 0, 1) := (rfl)
theorem pJr_copyOf2_1 : alk tJr_copyOf2 1 = some (.iload_n 1, 1) := (rfl)
theorem pJr_copyOf2_2 : alk tJr_copyOf2 2 = some (.aload_n 0, 1) := (rfl)
theorem pJr_copyOf2_3 : alk tJr_copyOf2 3 = some (.invokevirtual 86, 3) := (rfl)
theorem pJr_copyOf2_6 : alk tJr_copyOf2 6 = some (.invokestatic 300, 3) := (rfl)
theorem pJr_copyOf2_9 : alk tJr_copyOf2 9 = some (.areturn, 1) := (rfl)
def tJr_copyOf3 : TB := [(0, .aload_n 2, 1), (1, .ldc 110, 2), (3, .if_acmp .ne 10, 3), (6, .iload_n 1, 1), (7, .anewarray 2, 3), (10, .goto 14, 3), (13, .aload_n 2, 1), (14, .invokevirtual 90, 3), (17, .iload_n 1, 1), (18, .invokestatic 95, 3), (21, .checkcast 110, 3), (24, .astore_n 3, 1), (25, .aload_n 0, 1), (26, .iconst 0, 1), (27, .aload_n 3, 1), (28, .iconst 0, 1), (29, .aload_n 0, 1), (30, .arraylength, 1), (31, .iload_n 1, 1), (32, .invokestatic 304, 3), (35, .invokestatic 150, 3), (38, .aload_n 3, 1), (39, .areturn, 1)]
set_option maxRecDepth 100000 in
theorem kJr_copyOf3 : tbOk (mB mJr_copyOf3) tJr_copyOf3 = true := by decide +kernel
theorem pJr_copyOf3_0 : alk tJr_copyOf3 0 = some (.aload_n 2, 1) := (rfl)
theorem pJr_copyOf3_1 : alk tJr_copyOf3 1 = some (.ldc 110, 2) := (rfl)
theorem pJr_copyOf3_3 : alk tJr_copyOf3 3 = some (.if_acmp .ne 10, 3) := (rfl)
theorem pJr_copyOf3_6 : alk tJr_copyOf3 6 = some (.iload_n 1, 1) := (rfl)
theorem pJr_copyOf3_7 : alk tJr_copyOf3 7 = some (.anewarray 2, 3) := (rfl)
theorem pJr_copyOf3_10 : alk tJr_copyOf3 10 = some (.goto 14, 3) := (rfl)
theorem pJr_copyOf3_13 : alk tJr_copyOf3 13 = some (.aload_n 2, 1) := (rfl)
theorem pJr_copyOf3_14 : alk tJr_copyOf3 14 = some (.invokevirtual 90, 3) := (rfl)
theorem pJr_copyOf3_17 : alk tJr_copyOf3 17 = some (.iload_n 1, 1) := (rfl)
theorem pJr_copyOf3_18 : alk tJr_copyOf3 18 = some (.invokestatic 95, 3) := (rfl)
theorem pJr_copyOf3_21 : alk tJr_copyOf3 21 = some (.checkcast 110, 3) := (rfl)
theorem pJr_copyOf3_24 : alk tJr_copyOf3 24 = some (.astore_n 3, 1) := (rfl)
theorem pJr_copyOf3_25 : alk tJr_copyOf3 25 = some (.aload_n 0, 1) := (rfl)
theorem pJr_copyOf3_26 : alk tJr_copyOf3 26 = some (.iconst 0, 1) := (rfl)
theorem pJr_copyOf3_27 : alk tJr_copyOf3 27 = some (.aload_n 3, 1) := (rfl)
theorem pJr_copyOf3_28 : alk tJr_copyOf3 28 = some (.iconst 0, 1) := (rfl)
theorem pJr_copyOf3_29 : alk tJr_copyOf3 29 = some (.aload_n 0, 1) := (rfl)
theorem pJr_copyOf3_30 : alk tJr_copyOf3 30 = some (.arraylength, 1) := (rfl)
theorem pJr_copyOf3_31 : alk tJr_copyOf3 31 = some (.iload_n 1, 1) := (rfl)
theorem pJr_copyOf3_32 : alk tJr_copyOf3 32 = some (.invokestatic 304, 3) := (rfl)
theorem pJr_copyOf3_35 : alk tJr_copyOf3 35 = some (.invokestatic 150, 3) := (rfl)
theorem pJr_copyOf3_38 : alk tJr_copyOf3 38 = some (.aload_n 3, 1) := (rfl)
theorem pJr_copyOf3_39 : alk tJr_copyOf3 39 = some (.areturn, 1) := (rfl)
def tJm_min : TB := [(0, .iload_n 0, 1), (1, .iload_n 1, 1), (2, .if_icmp .gt 7, 3), (5, .iload_n 0, 1), (6, .goto 4, 3), (9, .iload_n 1, 1), (10, .ireturn, 1)]
set_option maxRecDepth 100000 in
theorem kJm_min : tbOk (mB mJm_min) tJm_min = true := by decide +kernel
theorem pJm_min_0 : alk tJm_min 0 = some (.iload_n 0, 1) := (rfl)
theorem pJm_min_1 : alk tJm_min 1 = some (.iload_n 1, 1) := (rfl)
theorem pJm_min_2 : alk tJm_min 2 = some (.if_icmp .gt 7, 3) := (rfl)
theorem pJm_min_5 : alk tJm_min 5 = some (.iload_n 0, 1) := (rfl)
theorem pJm_min_6 : alk tJm_min 6 = some (.goto 4, 3) := (rfl)
theorem pJm_min_9 : alk tJm_min 9 = some (.iload_n 1, 1) := (rfl)
theorem pJm_min_10 : alk tJm_min 10 = some (.ireturn, 1) := (rfl)
def tL_get : TB := [(0, .iload_n 1, 1), (1, .aload_n 0, 1), (2, .getfield 48, 3), (5, .invokestatic 118, 3), (8, .pop, 1), (9, .aload_n 0, 1), (10, .iload_n 1, 1), (11, .invokevirtual 123, 3), (14, .areturn, 1)]
set_option maxRecDepth 100000 in
theorem kL_get : tbOk (mB mL_get) tL_get = true := by decide +kernel
theorem pL_get_0 : alk tL_get 0 = some (.iload_n 1, 1) := (rfl)
theorem pL_get_1 : alk tL_get 1 = some (.aload_n 0, 1) := (rfl)
theorem pL_get_2 : alk tL_get 2 = some (.getfield 48, 3) := (rfl)
theorem pL_get_5 : alk tL_get 5 = some (.invokestatic 118, 3) := (rfl)
theorem pL_get_8 : alk tL_get 8 = some (.pop, 1) := (rfl)
theorem pL_get_9 : alk tL_get 9 = some (.aload_n 0, 1) := (rfl)
theorem pL_get_10 : alk tL_get 10 = some (.iload_n 1, 1) := (rfl)
theorem pL_get_11 : alk tL_get 11 = some (.invokevirtual 123, 3) := (rfl)
theorem pL_get_14 : alk tL_get 14 = some (.areturn, 1) := (rfl)
def tJo_checkIndex : TB := [(0, .iload_n 0, 1), (1, .iload_n 1, 1), (2, .aconst_null, 1), (3, .invokestatic 105, 3), (6, .ireturn, 1)]
set_option maxRecDepth 100000 in
theorem kJo_checkIndex : tbOk (mB mJo_checkIndex) tJo_checkIndex = true := by decide +kernel
theorem pJo_checkIndex_0 : alk tJo_checkIndex 0 = some (.iload_n 0, 1) := (rfl)
theorem pJo_checkIndex_1 : alk tJo_checkIndex 1 = some (.iload_n 1, 1) := (rfl)
theorem pJo_checkIndex_2 : alk tJo_checkIndex 2 = some (.aconst_null, 1) := (rfl)
theorem pJo_checkIndex_3 : alk tJo_checkIndex 3 = some (.invokestatic 105, 3) := (rfl)
theorem pJo_checkIndex_6 : alk tJo_checkIndex 6 = some (.ireturn, 1) := (rfl)
def tJp_checkIndex : TB := [(0, .iload_n 0, 1), (1, .ifCond .lt 8, 3), (4, .iload_n 0, 1), (5, .iload_n 1, 1), (6, .if_icmp .lt 10, 3), (9, .aload_n 2, 1), (10, .iload_n 0, 1), (11, .iload_n 1, 1), (12, .invokestatic 95, 3), (15, .athrow, 1), (16, .iload_n 0, 1), (17, .ireturn, 1)]
set_option maxRecDepth 100000 in
theorem kJp_checkIndex : tbOk (mB mJp_checkIndex) tJp_checkIndex = true := by decide +kernel
theorem pJp_checkIndex_0 : alk tJp_checkIndex 0 = some (.iload_n 0, 1) := (rfl)
theorem pJp_checkIndex_1 : alk tJp_checkIndex 1 = some (.ifCond .lt 8, 3) := (rfl)
theorem pJp_checkIndex_4 : alk tJp_checkIndex 4 = some (.iload_n 0, 1) := (rfl)
theorem pJp_checkIndex_5 : alk tJp_checkIndex 5 = some (.iload_n 1, 1) := (rfl)
theorem pJp_checkIndex_6 : alk tJp_checkIndex 6 = some (.if_icmp .lt 10, 3) := (rfl)
theorem pJp_checkIndex_9 : alk tJp_checkIndex 9 = some (.aload_n 2, 1) := (rfl)
theorem pJp_checkIndex_10 : alk tJp_checkIndex 10 = some (.iload_n 0, 1) := (rfl)
theorem pJp_checkIndex_11 : alk tJp_checkIndex 11 = some (.iload_n 1, 1) := (rfl)
theorem pJp_checkIndex_12 : alk tJp_checkIndex 12 = some (.invokestatic 95, 3) := (rfl)
theorem pJp_checkIndex_15 : alk tJp_checkIndex 15 = some (.athrow, 1) := (rfl)
theorem pJp_checkIndex_16 : alk tJp_checkIndex 16 = some (.iload_n 0, 1) := (rfl)
theorem pJp_checkIndex_17 : alk tJp_checkIndex 17 = some (.ireturn, 1) := (rfl)
def tL_elementData : TB := [(0, .aload_n 0, 1), (1, .getfield 9, 3), (4, .iload_n 1, 1), (5, .aaload, 1), (6, .areturn, 1)]
set_option maxRecDepth 100000 in
theorem kL_elementData : tbOk (mB mL_elementData) tL_elementData = true := by decide +kernel
theorem pL_elementData_0 : alk tL_elementData 0 = some (.aload_n 0, 1) := (rfl)
theorem pL_elementData_1 : alk tL_elementData 1 = some (.getfield 9, 3) := (rfl)
theorem pL_elementData_4 : alk tL_elementData 4 = some (.iload_n 1, 1) := (rfl)
theorem pL_elementData_5 : alk tL_elementData 5 = some (.aaload, 1) := (rfl)
theorem pL_elementData_6 : alk tL_elementData 6 = some (.areturn, 1) := (rfl)
def tJi_bitCount : TB := [(0, .iload_n 0, 1), (1, .iload_n 0, 1), (2, .iconst 1, 1), (3, .iushr, 1), (4, .ldc_w 265, 3), (7, .iand, 1), (8, .isub, 1), (9, .istore_n 0, 1), (10, .iload_n 0, 1), (11, .ldc_w 266, 3), (14, .iand, 1), (15, .iload_n 0, 1), (16, .iconst 2, 1), (17, .iushr, 1), (18, .ldc_w 266, 3), (21, .iand, 1), (22, .iadd, 1), (23, .istore_n 0, 1), (24, .iload_n 0, 1), (25, .iload_n 0, 1), (26, .iconst 4, 1), (27, .iushr, 1), (28, .iadd, 1), (29, .ldc_w 267, 3), (32, .iand, 1), (33, .istore_n 0, 1), (34, .iload_n 0, 1), (35, .iload_n 0, 1), (36, .bipush 8, 2), (38, .iushr, 1), (39, .iadd, 1), (40, .istore_n 0, 1), (41, .iload_n 0, 1), (42, .iload_n 0, 1), (43, .bipush 16, 2), (45, .iushr, 1), (46, .iadd, 1), (47, .istore_n 0, 1), (48, .iload_n 0, 1), (49, .bipush 63, 2), (51, .iand, 1), (52, .ireturn, 1)]
set_option maxRecDepth 100000 in
theorem kJi_bitCount : tbOk (mB mJi_bitCount) tJi_bitCount = true := by decide +kernel
theorem pJi_bitCount_0 : alk tJi_bitCount 0 = some (.iload_n 0, 1) := (rfl)
theorem pJi_bitCount_1 : alk tJi_bitCount 1 = some (.iload_n 0, 1) := (rfl)
theorem pJi_bitCount_2 : alk tJi_bitCount 2 = some (.iconst 1, 1) := (rfl)
theorem pJi_bitCount_3 : alk tJi_bitCount 3 = some (.iushr, 1) := (rfl)
theorem pJi_bitCount_4 : alk tJi_bitCount 4 = some (.ldc_w 265, 3) := (rfl)
theorem pJi_bitCount_7 : alk tJi_bitCount 7 = some (.iand, 1) := (rfl)
theorem pJi_bitCount_8 : alk tJi_bitCount 8 = some (.isub, 1) := (rfl)
theorem pJi_bitCount_9 : alk tJi_bitCount 9 = some (.istore_n 0, 1) := (rfl)
theorem pJi_bitCount_10 : alk tJi_bitCount 10 = some (.iload_n 0, 1) := (rfl)
theorem pJi_bitCount_11 : alk tJi_bitCount 11 = some (.ldc_w 266, 3) := (rfl)
theorem pJi_bitCount_14 : alk tJi_bitCount 14 = some (.iand, 1) := (rfl)
theorem pJi_bitCount_15 : alk tJi_bitCount 15 = some (.iload_n 0, 1) := (rfl)
theorem pJi_bitCount_16 : alk tJi_bitCount 16 = some (.iconst 2, 1) := (rfl)
theorem pJi_bitCount_17 : alk tJi_bitCount 17 = some (.iushr, 1) := (rfl)
theorem pJi_bitCount_18 : alk tJi_bitCount 18 = some (.ldc_w 266, 3) := (rfl)
theorem pJi_bitCount_21 : alk tJi_bitCount 21 = some (.iand, 1) := (rfl)
theorem pJi_bitCount_22 : alk tJi_bitCount 22 = some (.iadd, 1) := (rfl)
theorem pJi_bitCount_23 : alk tJi_bitCount 23 = some (.istore_n 0, 1) := (rfl)
theorem pJi_bitCount_24 : alk tJi_bitCount 24 = some (.iload_n 0, 1) := (rfl)
theorem pJi_bitCount_25 : alk tJi_bitCount 25 = some (.iload_n 0, 1) := (rfl)
theorem pJi_bitCount_26 : alk tJi_bitCount 26 = some (.iconst 4, 1) := (rfl)
theorem pJi_bitCount_27 : alk tJi_bitCount 27 = some (.iushr, 1) := (rfl)
theorem pJi_bitCount_28 : alk tJi_bitCount 28 = some (.iadd, 1) := (rfl)
theorem pJi_bitCount_29 : alk tJi_bitCount 29 = some (.ldc_w 267, 3) := (rfl)
theorem pJi_bitCount_32 : alk tJi_bitCount 32 = some (.iand, 1) := (rfl)
theorem pJi_bitCount_33 : alk tJi_bitCount 33 = some (.istore_n 0, 1) := (rfl)
theorem pJi_bitCount_34 : alk tJi_bitCount 34 = some (.iload_n 0, 1) := (rfl)
theorem pJi_bitCount_35 : alk tJi_bitCount 35 = some (.iload_n 0, 1) := (rfl)
theorem pJi_bitCount_36 : alk tJi_bitCount 36 = some (.bipush 8, 2) := (rfl)
theorem pJi_bitCount_38 : alk tJi_bitCount 38 = some (.iushr, 1) := (rfl)
theorem pJi_bitCount_39 : alk tJi_bitCount 39 = some (.iadd, 1) := (rfl)
theorem pJi_bitCount_40 : alk tJi_bitCount 40 = some (.istore_n 0, 1) := (rfl)
theorem pJi_bitCount_41 : alk tJi_bitCount 41 = some (.iload_n 0, 1) := (rfl)
theorem pJi_bitCount_42 : alk tJi_bitCount 42 = some (.iload_n 0, 1) := (rfl)
theorem pJi_bitCount_43 : alk tJi_bitCount 43 = some (.bipush 16, 2) := (rfl)
theorem pJi_bitCount_45 : alk tJi_bitCount 45 = some (.iushr, 1) := (rfl)
theorem pJi_bitCount_46 : alk tJi_bitCount 46 = some (.iadd, 1) := (rfl)
theorem pJi_bitCount_47 : alk tJi_bitCount 47 = some (.istore_n 0, 1) := (rfl)
theorem pJi_bitCount_48 : alk tJi_bitCount 48 = some (.iload_n 0, 1) := (rfl)
theorem pJi_bitCount_49 : alk tJi_bitCount 49 = some (.bipush 63, 2) := (rfl)
theorem pJi_bitCount_51 : alk tJi_bitCount 51 = some (.iand, 1) := (rfl)
theorem pJi_bitCount_52 : alk tJi_bitCount 52 = some (.ireturn, 1) := (rfl)
def tJs_charAt : TB := [(0, .aload_n 0, 1), (1, .invokevirtual 492, 3), (4, .ifCond .eq 12, 3), (7, .aload_n 0, 1), (8, .getfield 9, 3), (11, .iload_n 1, 1), (12, .invokestatic 495, 3), (15, .ireturn, 1), (16, .aload_n 0, 1), (17, .getfield 9, 3), (20, .iload_n 1, 1), (21, .invokestatic 498, 3), (24, .ireturn, 1)]
set_option maxRecDepth 100000 in
theorem kJs_charAt : tbOk (mB mJs_charAt) tJs_charAt = true := by decide +kernel
theorem pJs_charAt_0 : alk tJs_charAt 0 = some (.aload_n 0, 1) := (rfl)
theorem pJs_charAt_1 : alk tJs_charAt 1 = some (.invokevirtual 492, 3) := (rfl)
theorem pJs_charAt_4 : alk tJs_charAt 4 = some (.ifCond .eq 12, 3) := (rfl)
theorem pJs_charAt_7 : alk tJs_charAt 7 = some (.aload_n 0, 1) := (rfl)
theorem pJs_charAt_8 : alk tJs_charAt 8 = some (.getfield 9, 3) := (rfl)
theorem pJs_charAt_11 : alk tJs_charAt 11 = some (.iload_n 1, 1) := (rfl)
theorem pJs_charAt_12 : alk tJs_charAt 12 = some (.invokestatic 495, 3) := (rfl)
theorem pJs_charAt_15 : alk tJs_charAt 15 = some (.ireturn, 1) := (rfl)
theorem pJs_charAt_16 : alk tJs_charAt 16 = some (.aload_n 0, 1) := (rfl)
theorem pJs_charAt_17 : alk tJs_charAt 17 = some (.getfield 9, 3) := (rfl)
theorem pJs_charAt_20 : alk tJs_charAt 20 = some (.iload_n 1, 1) := (rfl)
theorem pJs_charAt_21 : alk tJs_charAt 21 = some (.invokestatic 498, 3) := (rfl)
theorem pJs_charAt_24 : alk tJs_charAt 24 = some (.ireturn, 1) := (rfl)
def tJs_isLatin1 : TB := [(0, .getstatic 38, 3), (3, .ifCond .eq 14, 3), (6, .aload_n 0, 1), (7, .getfield 15, 3), (10, .ifCond .ne 7, 3), (13, .iconst 1, 1), (14, .goto 4, 3), (17, .iconst 0, 1), (18, .ireturn, 1)]
set_option maxRecDepth 100000 in
theorem kJs_isLatin1 : tbOk (mB mJs_isLatin1) tJs_isLatin1 = true := by decide +kernel
theorem pJs_isLatin1_0 : alk tJs_isLatin1 0 = some (.getstatic 38, 3) := (rfl)
theorem pJs_isLatin1_3 : alk tJs_isLatin1 3 = some (.ifCond .eq 14, 3) := (rfl)
theorem pJs_isLatin1_6 : alk tJs_isLatin1 6 = some (.aload_n 0, 1) := (rfl)
theorem pJs_isLatin1_7 : alk tJs_isLatin1 7 = some (.getfield 15, 3) := (rfl)
theorem pJs_isLatin1_10 : alk tJs_isLatin1 10 = some (.ifCond .ne 7, 3) := (rfl)
theorem pJs_isLatin1_13 : alk tJs_isLatin1 13 = some (.iconst 1, 1) := (rfl)
theorem pJs_isLatin1_14 : alk tJs_isLatin1 14 = some (.goto 4, 3) := (rfl)
theorem pJs_isLatin1_17 : alk tJs_isLatin1 17 = some (.iconst 0, 1) := (rfl)
theorem pJs_isLatin1_18 : alk tJs_isLatin1 18 = some (.ireturn, 1) := (rfl)
def tJl_charAt : TB := [(0, .iload_n 1, 1), (1, .aload_n 0, 1), (2, .arraylength, 1), (3, .invokestatic 9, 3), (6, .aload_n 0, 1), (7, .iload_n 1, 1), (8, .baload, 1), (9, .sipush 255, 3), (12, .iand, 1), (13, .i2c, 1), (14, .ireturn, 1)]
set_option maxRecDepth 100000 in
theorem kJl_charAt : tbOk (mB mJl_charAt) tJl_charAt = true := by decide +kernel
theorem pJl_charAt_0 : alk tJl_charAt 0 = some (.iload_n 1, 1) := (rfl)
theorem pJl_charAt_1 : alk tJl_charAt 1 = some (.aload_n 0, 1) := (rfl)
theorem pJl_charAt_2 : alk tJl_charAt 2 = some (.arraylength, 1) := (rfl)
theorem pJl_charAt_3 : alk tJl_charAt 3 = some (.invokestatic 9, 3) := (rfl)
theorem pJl_charAt_6 : alk tJl_charAt 6 = some (.aload_n 0, 1) := (rfl)
theorem pJl_charAt_7 : alk tJl_charAt 7 = some (.iload_n 1, 1) := (rfl)
theorem pJl_charAt_8 : alk tJl_charAt 8 = some (.baload, 1) := (rfl)
theorem pJl_charAt_9 : alk tJl_charAt 9 = some (.sipush 255, 3) := (rfl)
theorem pJl_charAt_12 : alk tJl_charAt 12 = some (.iand, 1) := (rfl)
theorem pJl_charAt_13 : alk tJl_charAt 13 = some (.i2c, 1) := (rfl)
theorem pJl_charAt_14 : alk tJl_charAt 14 = some (.ireturn, 1) := (rfl)
def tJs_checkIndex : TB := [(0, .iload_n 0, 1), (1, .iload_n 1, 1), (2, .getstatic 1053, 3), (5, .invokestatic 1059, 3), (8, .pop, 1), (9, .return_, 1)]
set_option maxRecDepth 100000 in
theorem kJs_checkIndex : tbOk (mB mJs_checkIndex) tJs_checkIndex = true := by decide +kernel
theorem pJs_checkIndex_0 : alk tJs_checkIndex 0 = some (.iload_n 0, 1) := (rfl)
theorem pJs_checkIndex_1 : alk tJs_checkIndex 1 = some (.iload_n 1, 1) := (rfl)
theorem pJs_checkIndex_2 : alk tJs_checkIndex 2 = some (.getstatic 1053, 3) := (rfl)
theorem pJs_checkIndex_5 : alk tJs_checkIndex 5 = some (.invokestatic 1059, 3) := (rfl)
theorem pJs_checkIndex_8 : alk tJs_checkIndex 8 = some (.pop, 1) := (rfl)
theorem pJs_checkIndex_9 : alk tJs_checkIndex 9 = some (.return_, 1) := (rfl)
def tJu_charAt : TB := [(0, .iload_n 1, 1), (1, .aload_n 0, 1), (2, .invokestatic 67, 3), (5, .aload_n 0, 1), (6, .iload_n 1, 1), (7, .invokestatic 71, 3), (10, .ireturn, 1)]
set_option maxRecDepth 100000 in
theorem kJu_charAt : tbOk (mB mJu_charAt) tJu_charAt = true := by decide +kernel
theorem pJu_charAt_0 : alk tJu_charAt 0 = some (.iload_n 1, 1) := (rfl)
theorem pJu_charAt_1 : alk tJu_charAt 1 = some (.aload_n 0, 1) := (rfl)
theorem pJu_charAt_2 : alk tJu_charAt 2 = some (.invokestatic 67, 3) := (rfl)
theorem pJu_charAt_5 : alk tJu_charAt 5 = some (.aload_n 0, 1) := (rfl)
theorem pJu_charAt_6 : alk tJu_charAt 6 = some (.iload_n 1, 1) := (rfl)
theorem pJu_charAt_7 : alk tJu_charAt 7 = some (.invokestatic 71, 3) := (rfl)
theorem pJu_charAt_10 : alk tJu_charAt 10 = some (.ireturn, 1) := (rfl)
def tJu_checkIndex : TB := [(0, .iload_n 0, 1), (1, .aload_n 1, 1), (2, .invokestatic 48, 3), (5, .invokestatic 414, 3), (8, .return_, 1)]
set_option maxRecDepth 100000 in
theorem kJu_checkIndex : tbOk (mB mJu_checkIndex) tJu_checkIndex = true := by decide +kernel
theorem pJu_checkIndex_0 : alk tJu_checkIndex 0 = some (.iload_n 0, 1) := (rfl)
theorem pJu_checkIndex_1 : alk tJu_checkIndex 1 = some (.aload_n 1, 1) := (rfl)
theorem pJu_checkIndex_2 : alk tJu_checkIndex 2 = some (.invokestatic 48, 3) := (rfl)
theorem pJu_checkIndex_5 : alk tJu_checkIndex 5 = some (.invokestatic 414, 3) := (rfl)
theorem pJu_checkIndex_8 : alk tJu_checkIndex 8 = some (.return_, 1) := (rfl)
def tJu_length : TB := [(0, .aload_n 0, 1), (1, .arraylength, 1), (2, .iconst 1, 1), (3, .ishr, 1), (4, .ireturn, 1)]
set_option maxRecDepth 100000 in
theorem kJu_length : tbOk (mB mJu_length) tJu_length = true := by decide +kernel
theorem pJu_length_0 : alk tJu_length 0 = some (.aload_n 0, 1) := (rfl)
theorem pJu_length_1 : alk tJu_length 1 = some (.arraylength, 1) := (rfl)
theorem pJu_length_2 : alk tJu_length 2 = some (.iconst 1, 1) := (rfl)
theorem pJu_length_3 : alk tJu_length 3 = some (.ishr, 1) := (rfl)
theorem pJu_length_4 : alk tJu_length 4 = some (.ireturn, 1) := (rfl)
def tJu_getChar : TB := [(0, .getstatic 44, 3), (3, .ifCond .ne 25, 3), (6, .iload_n 1, 1), (7, .ifCond .lt 11, 3), (10, .iload_n 1, 1), (11, .aload_n 0, 1), (12, .invokestatic 48, 3), (15, .if_icmp .lt 13, 3), (18, .new 52, 3), (21, .dup, 1), (22, .ldc 54, 2), (24, .invokespecial 56, 3), (27, .athrow, 1), (28, .iload_n 1, 1), (29, .iconst 1, 1), (30, .ishl, 1), (31, .istore_n 1, 1), (32, .aload_n 0, 1), (33, .iload_n 1, 1), (34, .iinc 1 1, 3), (37, .baload, 1), (38, .sipush 255, 3), (41, .iand, 1), (42, .getstatic 59, 3), (45, .ishl, 1), (46, .aload_n 0, 1), (47, .iload_n 1, 1), (48, .baload, 1), (49, .sipush 255, 3), (52, .iand, 1), (53, .getstatic 63, 3), (56, .ishl, 1), (57, .ior, 1), (58, .i2c, 1), (59, .ireturn, 1)]
set_option maxRecDepth 100000 in
theorem kJu_getChar : tbOk (mB mJu_getChar) tJu_getChar = true := by decide +kernel
theorem pJu_getChar_0 : alk tJu_getChar 0 = some (.getstatic 44, 3) := (rfl)
theorem pJu_getChar_3 : alk tJu_getChar 3 = some (.ifCond .ne 25, 3) := (rfl)
theorem pJu_getChar_6 : alk tJu_getChar 6 = some (.iload_n 1, 1) := (rfl)
theorem pJu_getChar_7 : alk tJu_getChar 7 = some (.ifCond .lt 11, 3) := (rfl)
theorem pJu_getChar_10 : alk tJu_getChar 10 = some (.iload_n 1, 1) := (rfl)
theorem pJu_getChar_11 : alk tJu_getChar 11 = some (.aload_n 0, 1) := (rfl)
theorem pJu_getChar_12 : alk tJu_getChar 12 = some (.invokestatic 48, 3) := (rfl)
theorem pJu_getChar_15 : alk tJu_getChar 15 = some (.if_icmp .lt 13, 3) := (rfl)
theorem pJu_getChar_18 : alk tJu_getChar 18 = some (.new 52, 3) := (rfl)
theorem pJu_getChar_21 : alk tJu_getChar 21 = some (.dup, 1) := (rfl)
theorem pJu_getChar_22 : alk tJu_getChar 22 = some (.ldc 54, 2) := (rfl)
theorem pJu_getChar_24 : alk tJu_getChar 24 = some (.invokespecial 56, 3) := (rfl)
theorem pJu_getChar_27 : alk tJu_getChar 27 = some (.athrow, 1) := (rfl)
theorem pJu_getChar_28 : alk tJu_getChar 28 = some (.iload_n 1, 1) := (rfl)
theorem pJu_getChar_29 : alk tJu_getChar 29 = some (.iconst 1, 1) := (rfl)
theorem pJu_getChar_30 : alk tJu_getChar 30 = some (.ishl, 1) := (rfl)
theorem pJu_getChar_31 : alk tJu_getChar 31 = some (.istore_n 1, 1) := (rfl)
theorem pJu_getChar_32 : alk tJu_getChar 32 = some (.aload_n 0, 1) := (rfl)
theorem pJu_getChar_33 : alk tJu_getChar 33 = some (.iload_n 1, 1) := (rfl)
theorem pJu_getChar_34 : alk tJu_getChar 34 = some (.iinc 1 1, 3) := (rfl)
theorem pJu_getChar_37 : alk tJu_getChar 37 = some (.baload, 1) := (rfl)
theorem pJu_getChar_38 : alk tJu_getChar 38 = some (.sipush 255, 3) := (rfl)
theorem pJu_getChar_41 : alk tJu_getChar 41 = some (.iand, 1) := (rfl)
theorem pJu_getChar_42 : alk tJu_getChar 42 = some (.getstatic 59, 3) := (rfl)
theorem pJu_getChar_45 : alk tJu_getChar 45 = some (.ishl, 1) := (rfl)
theorem pJu_getChar_46 : alk tJu_getChar 46 = some (.aload_n 0, 1) := (rfl)
theorem pJu_getChar_47 : alk tJu_getChar 47 = some (.iload_n 1, 1) := (rfl)
theorem pJu_getChar_48 : alk tJu_getChar 48 = some (.baload, 1) := (rfl)
theorem pJu_getChar_49 : alk tJu_getChar 49 = some (.sipush 255, 3) := (rfl)
theorem pJu_getChar_52 : alk tJu_getChar 52 = some (.iand, 1) := (rfl)
theorem pJu_getChar_53 : alk tJu_getChar 53 = some (.getstatic 63, 3) := (rfl)
theorem pJu_getChar_56 : alk tJu_getChar 56 = some (.ishl, 1) := (rfl)
theorem pJu_getChar_57 : alk tJu_getChar 57 = some (.ior, 1) := (rfl)
theorem pJu_getChar_58 : alk tJu_getChar 58 = some (.i2c, 1) := (rfl)
theorem pJu_getChar_59 : alk tJu_getChar 59 = some (.ireturn, 1) := (rfl)
def tJs_length : TB := [(0, .aload_n 0, 1), (1, .getfield 9, 3), (4, .arraylength, 1), (5, .aload_n 0, 1), (6, .invokevirtual 335, 3), (9, .ishr, 1), (10, .ireturn, 1)]
set_option maxRecDepth 100000 in
theorem kJs_length : tbOk (mB mJs_length) tJs_length = true := by decide +kernel
theorem pJs_length_0 : alk tJs_length 0 = some (.aload_n 0, 1) := (rfl)
theorem pJs_length_1 : alk tJs_length 1 = some (.getfield 9, 3) := (rfl)
theorem pJs_length_4 : alk tJs_length 4 = some (.arraylength, 1) := (rfl)
theorem pJs_length_5 : alk tJs_length 5 = some (.aload_n 0, 1) := (rfl)
theorem pJs_length_6 : alk tJs_length 6 = some (.invokevirtual 335, 3) := (rfl)
theorem pJs_length_9 : alk tJs_length 9 = some (.ishr, 1) := (rfl)
theorem pJs_length_10 : alk tJs_length 10 = some (.ireturn, 1) := (rfl)
def tJs_coder : TB := [(0, .getstatic 38, 3), (3, .ifCond .eq 10, 3), (6, .aload_n 0, 1), (7, .getfield 15, 3), (10, .goto 4, 3), (13, .iconst 1, 1), (14, .ireturn, 1)]
set_option maxRecDepth 100000 in
theorem kJs_coder : tbOk (mB mJs_coder) tJs_coder = true := by decide +kernel
theorem pJs_coder_0 : alk tJs_coder 0 = some (.getstatic 38, 3) := (rfl)
theorem pJs_coder_3 : alk tJs_coder 3 = some (.ifCond .eq 10, 3) := (rfl)
theorem pJs_coder_6 : alk tJs_coder 6 = some (.aload_n 0, 1) := (rfl)
theorem pJs_coder_7 : alk tJs_coder 7 = some (.getfield 15, 3) := (rfl)
theorem pJs_coder_10 : alk tJs_coder 10 = some (.goto 4, 3) := (rfl)
theorem pJs_coder_13 : alk tJs_coder 13 = some (.iconst 1, 1) := (rfl)
theorem pJs_coder_14 : alk tJs_coder 14 = some (.ireturn, 1) := (rfl)
