/-! the reference in the world: one object (13, 0), its arrays -/
def mdl : List (Nat × (Nat × Nat)) := [(1, 101, 9), (4, 104, 14), (5, 105, 14), (7, 107, 20), (8, 108, 20), (9, 109, 20), (10, 110, 14), (11, 111, 14), (14, 114, 500), (15, 115, 500), (16, 116, 500), (18, 118, 24), (19, 119, 24), (20, 120, 24), (21, 121, 24), (22, 122, 24), (23, 123, 24), (24, 124, 24), (25, 125, 24), (26, 126, 24), (27, 227, 24), (28, 128, 24), (29, 129, 24), (30, 230, 24), (31, 131, 24), (32, 132, 24), (33, 133, 24), (34, 134, 24), (35, 235, 120), (36, 136, 120), (37, 137, 120), (39, 239, 24), (41, 141, 4), (42, 142, 4), (43, 143, 4), (44, 144, 4), (49, 149, 11), (50, 150, 11), (51, 151, 11), (52, 152, 11), (53, 153, 11), (54, 254, 33), (55, 155, 33), (56, 156, 33), (57, 157, 33), (59, 159, 80), (64, 164, 20), (65, 165, 20), (68, 168, 14)]
/-- the reference stands in the world -/
def MSh (w : Wd) : Prop := wC w 13 = 1 ∧ ∀ q ∈ mdl, wR w 13 0 q.1 = some (q.2.1, 0) ∧ wC w q.2.1 = 1 ∧ wN w q.2.1 0 = q.2.2
theorem ms_C13 {w : Wd} (h : MSh w) : wC w 13 = 1 := h.1
theorem ms_1 {w : Wd} (h : MSh w) : wR w 13 0 1 = some (101, 0) ∧ wC w 101 = 1 ∧ wN w 101 0 = 9 := h.2 (1, 101, 9) (List.mem_of_getElem? (i := 0) rfl)
theorem ms_R1 {w : Wd} (h : MSh w) : wR w 13 0 1 = some (101, 0) := (ms_1 h).1
theorem ms_C101 {w : Wd} (h : MSh w) : wC w 101 = 1 := (ms_1 h).2.1
theorem ms_N101 {w : Wd} (h : MSh w) : wN w 101 0 = 9 := (ms_1 h).2.2
theorem ms_4 {w : Wd} (h : MSh w) : wR w 13 0 4 = some (104, 0) ∧ wC w 104 = 1 ∧ wN w 104 0 = 14 := h.2 (4, 104, 14) (List.mem_of_getElem? (i := 1) rfl)
theorem ms_R4 {w : Wd} (h : MSh w) : wR w 13 0 4 = some (104, 0) := (ms_4 h).1
theorem ms_C104 {w : Wd} (h : MSh w) : wC w 104 = 1 := (ms_4 h).2.1
theorem ms_N104 {w : Wd} (h : MSh w) : wN w 104 0 = 14 := (ms_4 h).2.2
theorem ms_5 {w : Wd} (h : MSh w) : wR w 13 0 5 = some (105, 0) ∧ wC w 105 = 1 ∧ wN w 105 0 = 14 := h.2 (5, 105, 14) (List.mem_of_getElem? (i := 2) rfl)
theorem ms_R5 {w : Wd} (h : MSh w) : wR w 13 0 5 = some (105, 0) := (ms_5 h).1
theorem ms_C105 {w : Wd} (h : MSh w) : wC w 105 = 1 := (ms_5 h).2.1
theorem ms_N105 {w : Wd} (h : MSh w) : wN w 105 0 = 14 := (ms_5 h).2.2
theorem ms_7 {w : Wd} (h : MSh w) : wR w 13 0 7 = some (107, 0) ∧ wC w 107 = 1 ∧ wN w 107 0 = 20 := h.2 (7, 107, 20) (List.mem_of_getElem? (i := 3) rfl)
theorem ms_R7 {w : Wd} (h : MSh w) : wR w 13 0 7 = some (107, 0) := (ms_7 h).1
theorem ms_C107 {w : Wd} (h : MSh w) : wC w 107 = 1 := (ms_7 h).2.1
theorem ms_N107 {w : Wd} (h : MSh w) : wN w 107 0 = 20 := (ms_7 h).2.2
theorem ms_8 {w : Wd} (h : MSh w) : wR w 13 0 8 = some (108, 0) ∧ wC w 108 = 1 ∧ wN w 108 0 = 20 := h.2 (8, 108, 20) (List.mem_of_getElem? (i := 4) rfl)
theorem ms_R8 {w : Wd} (h : MSh w) : wR w 13 0 8 = some (108, 0) := (ms_8 h).1
theorem ms_C108 {w : Wd} (h : MSh w) : wC w 108 = 1 := (ms_8 h).2.1
theorem ms_N108 {w : Wd} (h : MSh w) : wN w 108 0 = 20 := (ms_8 h).2.2
theorem ms_9 {w : Wd} (h : MSh w) : wR w 13 0 9 = some (109, 0) ∧ wC w 109 = 1 ∧ wN w 109 0 = 20 := h.2 (9, 109, 20) (List.mem_of_getElem? (i := 5) rfl)
theorem ms_R9 {w : Wd} (h : MSh w) : wR w 13 0 9 = some (109, 0) := (ms_9 h).1
theorem ms_C109 {w : Wd} (h : MSh w) : wC w 109 = 1 := (ms_9 h).2.1
theorem ms_N109 {w : Wd} (h : MSh w) : wN w 109 0 = 20 := (ms_9 h).2.2
theorem ms_10 {w : Wd} (h : MSh w) : wR w 13 0 10 = some (110, 0) ∧ wC w 110 = 1 ∧ wN w 110 0 = 14 := h.2 (10, 110, 14) (List.mem_of_getElem? (i := 6) rfl)
theorem ms_R10 {w : Wd} (h : MSh w) : wR w 13 0 10 = some (110, 0) := (ms_10 h).1
theorem ms_C110 {w : Wd} (h : MSh w) : wC w 110 = 1 := (ms_10 h).2.1
theorem ms_N110 {w : Wd} (h : MSh w) : wN w 110 0 = 14 := (ms_10 h).2.2
theorem ms_11 {w : Wd} (h : MSh w) : wR w 13 0 11 = some (111, 0) ∧ wC w 111 = 1 ∧ wN w 111 0 = 14 := h.2 (11, 111, 14) (List.mem_of_getElem? (i := 7) rfl)
theorem ms_R11 {w : Wd} (h : MSh w) : wR w 13 0 11 = some (111, 0) := (ms_11 h).1
theorem ms_C111 {w : Wd} (h : MSh w) : wC w 111 = 1 := (ms_11 h).2.1
theorem ms_N111 {w : Wd} (h : MSh w) : wN w 111 0 = 14 := (ms_11 h).2.2
theorem ms_14 {w : Wd} (h : MSh w) : wR w 13 0 14 = some (114, 0) ∧ wC w 114 = 1 ∧ wN w 114 0 = 500 := h.2 (14, 114, 500) (List.mem_of_getElem? (i := 8) rfl)
theorem ms_R14 {w : Wd} (h : MSh w) : wR w 13 0 14 = some (114, 0) := (ms_14 h).1
theorem ms_C114 {w : Wd} (h : MSh w) : wC w 114 = 1 := (ms_14 h).2.1
theorem ms_N114 {w : Wd} (h : MSh w) : wN w 114 0 = 500 := (ms_14 h).2.2
theorem ms_15 {w : Wd} (h : MSh w) : wR w 13 0 15 = some (115, 0) ∧ wC w 115 = 1 ∧ wN w 115 0 = 500 := h.2 (15, 115, 500) (List.mem_of_getElem? (i := 9) rfl)
theorem ms_R15 {w : Wd} (h : MSh w) : wR w 13 0 15 = some (115, 0) := (ms_15 h).1
theorem ms_C115 {w : Wd} (h : MSh w) : wC w 115 = 1 := (ms_15 h).2.1
theorem ms_N115 {w : Wd} (h : MSh w) : wN w 115 0 = 500 := (ms_15 h).2.2
theorem ms_16 {w : Wd} (h : MSh w) : wR w 13 0 16 = some (116, 0) ∧ wC w 116 = 1 ∧ wN w 116 0 = 500 := h.2 (16, 116, 500) (List.mem_of_getElem? (i := 10) rfl)
theorem ms_R16 {w : Wd} (h : MSh w) : wR w 13 0 16 = some (116, 0) := (ms_16 h).1
theorem ms_C116 {w : Wd} (h : MSh w) : wC w 116 = 1 := (ms_16 h).2.1
theorem ms_N116 {w : Wd} (h : MSh w) : wN w 116 0 = 500 := (ms_16 h).2.2
theorem ms_18 {w : Wd} (h : MSh w) : wR w 13 0 18 = some (118, 0) ∧ wC w 118 = 1 ∧ wN w 118 0 = 24 := h.2 (18, 118, 24) (List.mem_of_getElem? (i := 11) rfl)
theorem ms_R18 {w : Wd} (h : MSh w) : wR w 13 0 18 = some (118, 0) := (ms_18 h).1
theorem ms_C118 {w : Wd} (h : MSh w) : wC w 118 = 1 := (ms_18 h).2.1
theorem ms_N118 {w : Wd} (h : MSh w) : wN w 118 0 = 24 := (ms_18 h).2.2
theorem ms_19 {w : Wd} (h : MSh w) : wR w 13 0 19 = some (119, 0) ∧ wC w 119 = 1 ∧ wN w 119 0 = 24 := h.2 (19, 119, 24) (List.mem_of_getElem? (i := 12) rfl)
theorem ms_R19 {w : Wd} (h : MSh w) : wR w 13 0 19 = some (119, 0) := (ms_19 h).1
theorem ms_C119 {w : Wd} (h : MSh w) : wC w 119 = 1 := (ms_19 h).2.1
theorem ms_N119 {w : Wd} (h : MSh w) : wN w 119 0 = 24 := (ms_19 h).2.2
theorem ms_20 {w : Wd} (h : MSh w) : wR w 13 0 20 = some (120, 0) ∧ wC w 120 = 1 ∧ wN w 120 0 = 24 := h.2 (20, 120, 24) (List.mem_of_getElem? (i := 13) rfl)
theorem ms_R20 {w : Wd} (h : MSh w) : wR w 13 0 20 = some (120, 0) := (ms_20 h).1
theorem ms_C120 {w : Wd} (h : MSh w) : wC w 120 = 1 := (ms_20 h).2.1
theorem ms_N120 {w : Wd} (h : MSh w) : wN w 120 0 = 24 := (ms_20 h).2.2
theorem ms_21 {w : Wd} (h : MSh w) : wR w 13 0 21 = some (121, 0) ∧ wC w 121 = 1 ∧ wN w 121 0 = 24 := h.2 (21, 121, 24) (List.mem_of_getElem? (i := 14) rfl)
theorem ms_R21 {w : Wd} (h : MSh w) : wR w 13 0 21 = some (121, 0) := (ms_21 h).1
theorem ms_C121 {w : Wd} (h : MSh w) : wC w 121 = 1 := (ms_21 h).2.1
theorem ms_N121 {w : Wd} (h : MSh w) : wN w 121 0 = 24 := (ms_21 h).2.2
theorem ms_22 {w : Wd} (h : MSh w) : wR w 13 0 22 = some (122, 0) ∧ wC w 122 = 1 ∧ wN w 122 0 = 24 := h.2 (22, 122, 24) (List.mem_of_getElem? (i := 15) rfl)
theorem ms_R22 {w : Wd} (h : MSh w) : wR w 13 0 22 = some (122, 0) := (ms_22 h).1
theorem ms_C122 {w : Wd} (h : MSh w) : wC w 122 = 1 := (ms_22 h).2.1
theorem ms_N122 {w : Wd} (h : MSh w) : wN w 122 0 = 24 := (ms_22 h).2.2
theorem ms_23 {w : Wd} (h : MSh w) : wR w 13 0 23 = some (123, 0) ∧ wC w 123 = 1 ∧ wN w 123 0 = 24 := h.2 (23, 123, 24) (List.mem_of_getElem? (i := 16) rfl)
theorem ms_R23 {w : Wd} (h : MSh w) : wR w 13 0 23 = some (123, 0) := (ms_23 h).1
theorem ms_C123 {w : Wd} (h : MSh w) : wC w 123 = 1 := (ms_23 h).2.1
theorem ms_N123 {w : Wd} (h : MSh w) : wN w 123 0 = 24 := (ms_23 h).2.2
theorem ms_24 {w : Wd} (h : MSh w) : wR w 13 0 24 = some (124, 0) ∧ wC w 124 = 1 ∧ wN w 124 0 = 24 := h.2 (24, 124, 24) (List.mem_of_getElem? (i := 17) rfl)
theorem ms_R24 {w : Wd} (h : MSh w) : wR w 13 0 24 = some (124, 0) := (ms_24 h).1
theorem ms_C124 {w : Wd} (h : MSh w) : wC w 124 = 1 := (ms_24 h).2.1
theorem ms_N124 {w : Wd} (h : MSh w) : wN w 124 0 = 24 := (ms_24 h).2.2
theorem ms_25 {w : Wd} (h : MSh w) : wR w 13 0 25 = some (125, 0) ∧ wC w 125 = 1 ∧ wN w 125 0 = 24 := h.2 (25, 125, 24) (List.mem_of_getElem? (i := 18) rfl)
theorem ms_R25 {w : Wd} (h : MSh w) : wR w 13 0 25 = some (125, 0) := (ms_25 h).1
theorem ms_C125 {w : Wd} (h : MSh w) : wC w 125 = 1 := (ms_25 h).2.1
theorem ms_N125 {w : Wd} (h : MSh w) : wN w 125 0 = 24 := (ms_25 h).2.2
theorem ms_26 {w : Wd} (h : MSh w) : wR w 13 0 26 = some (126, 0) ∧ wC w 126 = 1 ∧ wN w 126 0 = 24 := h.2 (26, 126, 24) (List.mem_of_getElem? (i := 19) rfl)
theorem ms_R26 {w : Wd} (h : MSh w) : wR w 13 0 26 = some (126, 0) := (ms_26 h).1
theorem ms_C126 {w : Wd} (h : MSh w) : wC w 126 = 1 := (ms_26 h).2.1
theorem ms_N126 {w : Wd} (h : MSh w) : wN w 126 0 = 24 := (ms_26 h).2.2
theorem ms_27 {w : Wd} (h : MSh w) : wR w 13 0 27 = some (227, 0) ∧ wC w 227 = 1 ∧ wN w 227 0 = 24 := h.2 (27, 227, 24) (List.mem_of_getElem? (i := 20) rfl)
theorem ms_R27 {w : Wd} (h : MSh w) : wR w 13 0 27 = some (227, 0) := (ms_27 h).1
theorem ms_C227 {w : Wd} (h : MSh w) : wC w 227 = 1 := (ms_27 h).2.1
theorem ms_N227 {w : Wd} (h : MSh w) : wN w 227 0 = 24 := (ms_27 h).2.2
theorem ms_28 {w : Wd} (h : MSh w) : wR w 13 0 28 = some (128, 0) ∧ wC w 128 = 1 ∧ wN w 128 0 = 24 := h.2 (28, 128, 24) (List.mem_of_getElem? (i := 21) rfl)
theorem ms_R28 {w : Wd} (h : MSh w) : wR w 13 0 28 = some (128, 0) := (ms_28 h).1
theorem ms_C128 {w : Wd} (h : MSh w) : wC w 128 = 1 := (ms_28 h).2.1
theorem ms_N128 {w : Wd} (h : MSh w) : wN w 128 0 = 24 := (ms_28 h).2.2
theorem ms_29 {w : Wd} (h : MSh w) : wR w 13 0 29 = some (129, 0) ∧ wC w 129 = 1 ∧ wN w 129 0 = 24 := h.2 (29, 129, 24) (List.mem_of_getElem? (i := 22) rfl)
theorem ms_R29 {w : Wd} (h : MSh w) : wR w 13 0 29 = some (129, 0) := (ms_29 h).1
theorem ms_C129 {w : Wd} (h : MSh w) : wC w 129 = 1 := (ms_29 h).2.1
theorem ms_N129 {w : Wd} (h : MSh w) : wN w 129 0 = 24 := (ms_29 h).2.2
theorem ms_30 {w : Wd} (h : MSh w) : wR w 13 0 30 = some (230, 0) ∧ wC w 230 = 1 ∧ wN w 230 0 = 24 := h.2 (30, 230, 24) (List.mem_of_getElem? (i := 23) rfl)
theorem ms_R30 {w : Wd} (h : MSh w) : wR w 13 0 30 = some (230, 0) := (ms_30 h).1
theorem ms_C230 {w : Wd} (h : MSh w) : wC w 230 = 1 := (ms_30 h).2.1
theorem ms_N230 {w : Wd} (h : MSh w) : wN w 230 0 = 24 := (ms_30 h).2.2
theorem ms_31 {w : Wd} (h : MSh w) : wR w 13 0 31 = some (131, 0) ∧ wC w 131 = 1 ∧ wN w 131 0 = 24 := h.2 (31, 131, 24) (List.mem_of_getElem? (i := 24) rfl)
theorem ms_R31 {w : Wd} (h : MSh w) : wR w 13 0 31 = some (131, 0) := (ms_31 h).1
theorem ms_C131 {w : Wd} (h : MSh w) : wC w 131 = 1 := (ms_31 h).2.1
theorem ms_N131 {w : Wd} (h : MSh w) : wN w 131 0 = 24 := (ms_31 h).2.2
theorem ms_32 {w : Wd} (h : MSh w) : wR w 13 0 32 = some (132, 0) ∧ wC w 132 = 1 ∧ wN w 132 0 = 24 := h.2 (32, 132, 24) (List.mem_of_getElem? (i := 25) rfl)
theorem ms_R32 {w : Wd} (h : MSh w) : wR w 13 0 32 = some (132, 0) := (ms_32 h).1
theorem ms_C132 {w : Wd} (h : MSh w) : wC w 132 = 1 := (ms_32 h).2.1
theorem ms_N132 {w : Wd} (h : MSh w) : wN w 132 0 = 24 := (ms_32 h).2.2
theorem ms_33 {w : Wd} (h : MSh w) : wR w 13 0 33 = some (133, 0) ∧ wC w 133 = 1 ∧ wN w 133 0 = 24 := h.2 (33, 133, 24) (List.mem_of_getElem? (i := 26) rfl)
theorem ms_R33 {w : Wd} (h : MSh w) : wR w 13 0 33 = some (133, 0) := (ms_33 h).1
theorem ms_C133 {w : Wd} (h : MSh w) : wC w 133 = 1 := (ms_33 h).2.1
theorem ms_N133 {w : Wd} (h : MSh w) : wN w 133 0 = 24 := (ms_33 h).2.2
theorem ms_34 {w : Wd} (h : MSh w) : wR w 13 0 34 = some (134, 0) ∧ wC w 134 = 1 ∧ wN w 134 0 = 24 := h.2 (34, 134, 24) (List.mem_of_getElem? (i := 27) rfl)
theorem ms_R34 {w : Wd} (h : MSh w) : wR w 13 0 34 = some (134, 0) := (ms_34 h).1
theorem ms_C134 {w : Wd} (h : MSh w) : wC w 134 = 1 := (ms_34 h).2.1
theorem ms_N134 {w : Wd} (h : MSh w) : wN w 134 0 = 24 := (ms_34 h).2.2
theorem ms_35 {w : Wd} (h : MSh w) : wR w 13 0 35 = some (235, 0) ∧ wC w 235 = 1 ∧ wN w 235 0 = 120 := h.2 (35, 235, 120) (List.mem_of_getElem? (i := 28) rfl)
theorem ms_R35 {w : Wd} (h : MSh w) : wR w 13 0 35 = some (235, 0) := (ms_35 h).1
theorem ms_C235 {w : Wd} (h : MSh w) : wC w 235 = 1 := (ms_35 h).2.1
theorem ms_N235 {w : Wd} (h : MSh w) : wN w 235 0 = 120 := (ms_35 h).2.2
theorem ms_36 {w : Wd} (h : MSh w) : wR w 13 0 36 = some (136, 0) ∧ wC w 136 = 1 ∧ wN w 136 0 = 120 := h.2 (36, 136, 120) (List.mem_of_getElem? (i := 29) rfl)
theorem ms_R36 {w : Wd} (h : MSh w) : wR w 13 0 36 = some (136, 0) := (ms_36 h).1
theorem ms_C136 {w : Wd} (h : MSh w) : wC w 136 = 1 := (ms_36 h).2.1
theorem ms_N136 {w : Wd} (h : MSh w) : wN w 136 0 = 120 := (ms_36 h).2.2
theorem ms_37 {w : Wd} (h : MSh w) : wR w 13 0 37 = some (137, 0) ∧ wC w 137 = 1 ∧ wN w 137 0 = 120 := h.2 (37, 137, 120) (List.mem_of_getElem? (i := 30) rfl)
theorem ms_R37 {w : Wd} (h : MSh w) : wR w 13 0 37 = some (137, 0) := (ms_37 h).1
theorem ms_C137 {w : Wd} (h : MSh w) : wC w 137 = 1 := (ms_37 h).2.1
theorem ms_N137 {w : Wd} (h : MSh w) : wN w 137 0 = 120 := (ms_37 h).2.2
theorem ms_39 {w : Wd} (h : MSh w) : wR w 13 0 39 = some (239, 0) ∧ wC w 239 = 1 ∧ wN w 239 0 = 24 := h.2 (39, 239, 24) (List.mem_of_getElem? (i := 31) rfl)
theorem ms_R39 {w : Wd} (h : MSh w) : wR w 13 0 39 = some (239, 0) := (ms_39 h).1
theorem ms_C239 {w : Wd} (h : MSh w) : wC w 239 = 1 := (ms_39 h).2.1
theorem ms_N239 {w : Wd} (h : MSh w) : wN w 239 0 = 24 := (ms_39 h).2.2
theorem ms_41 {w : Wd} (h : MSh w) : wR w 13 0 41 = some (141, 0) ∧ wC w 141 = 1 ∧ wN w 141 0 = 4 := h.2 (41, 141, 4) (List.mem_of_getElem? (i := 32) rfl)
theorem ms_R41 {w : Wd} (h : MSh w) : wR w 13 0 41 = some (141, 0) := (ms_41 h).1
theorem ms_C141 {w : Wd} (h : MSh w) : wC w 141 = 1 := (ms_41 h).2.1
theorem ms_N141 {w : Wd} (h : MSh w) : wN w 141 0 = 4 := (ms_41 h).2.2
theorem ms_42 {w : Wd} (h : MSh w) : wR w 13 0 42 = some (142, 0) ∧ wC w 142 = 1 ∧ wN w 142 0 = 4 := h.2 (42, 142, 4) (List.mem_of_getElem? (i := 33) rfl)
theorem ms_R42 {w : Wd} (h : MSh w) : wR w 13 0 42 = some (142, 0) := (ms_42 h).1
theorem ms_C142 {w : Wd} (h : MSh w) : wC w 142 = 1 := (ms_42 h).2.1
theorem ms_N142 {w : Wd} (h : MSh w) : wN w 142 0 = 4 := (ms_42 h).2.2
theorem ms_43 {w : Wd} (h : MSh w) : wR w 13 0 43 = some (143, 0) ∧ wC w 143 = 1 ∧ wN w 143 0 = 4 := h.2 (43, 143, 4) (List.mem_of_getElem? (i := 34) rfl)
theorem ms_R43 {w : Wd} (h : MSh w) : wR w 13 0 43 = some (143, 0) := (ms_43 h).1
theorem ms_C143 {w : Wd} (h : MSh w) : wC w 143 = 1 := (ms_43 h).2.1
theorem ms_N143 {w : Wd} (h : MSh w) : wN w 143 0 = 4 := (ms_43 h).2.2
theorem ms_44 {w : Wd} (h : MSh w) : wR w 13 0 44 = some (144, 0) ∧ wC w 144 = 1 ∧ wN w 144 0 = 4 := h.2 (44, 144, 4) (List.mem_of_getElem? (i := 35) rfl)
theorem ms_R44 {w : Wd} (h : MSh w) : wR w 13 0 44 = some (144, 0) := (ms_44 h).1
theorem ms_C144 {w : Wd} (h : MSh w) : wC w 144 = 1 := (ms_44 h).2.1
theorem ms_N144 {w : Wd} (h : MSh w) : wN w 144 0 = 4 := (ms_44 h).2.2
theorem ms_49 {w : Wd} (h : MSh w) : wR w 13 0 49 = some (149, 0) ∧ wC w 149 = 1 ∧ wN w 149 0 = 11 := h.2 (49, 149, 11) (List.mem_of_getElem? (i := 36) rfl)
theorem ms_R49 {w : Wd} (h : MSh w) : wR w 13 0 49 = some (149, 0) := (ms_49 h).1
theorem ms_C149 {w : Wd} (h : MSh w) : wC w 149 = 1 := (ms_49 h).2.1
theorem ms_N149 {w : Wd} (h : MSh w) : wN w 149 0 = 11 := (ms_49 h).2.2
theorem ms_50 {w : Wd} (h : MSh w) : wR w 13 0 50 = some (150, 0) ∧ wC w 150 = 1 ∧ wN w 150 0 = 11 := h.2 (50, 150, 11) (List.mem_of_getElem? (i := 37) rfl)
theorem ms_R50 {w : Wd} (h : MSh w) : wR w 13 0 50 = some (150, 0) := (ms_50 h).1
theorem ms_C150 {w : Wd} (h : MSh w) : wC w 150 = 1 := (ms_50 h).2.1
theorem ms_N150 {w : Wd} (h : MSh w) : wN w 150 0 = 11 := (ms_50 h).2.2
theorem ms_51 {w : Wd} (h : MSh w) : wR w 13 0 51 = some (151, 0) ∧ wC w 151 = 1 ∧ wN w 151 0 = 11 := h.2 (51, 151, 11) (List.mem_of_getElem? (i := 38) rfl)
theorem ms_R51 {w : Wd} (h : MSh w) : wR w 13 0 51 = some (151, 0) := (ms_51 h).1
theorem ms_C151 {w : Wd} (h : MSh w) : wC w 151 = 1 := (ms_51 h).2.1
theorem ms_N151 {w : Wd} (h : MSh w) : wN w 151 0 = 11 := (ms_51 h).2.2
theorem ms_52 {w : Wd} (h : MSh w) : wR w 13 0 52 = some (152, 0) ∧ wC w 152 = 1 ∧ wN w 152 0 = 11 := h.2 (52, 152, 11) (List.mem_of_getElem? (i := 39) rfl)
theorem ms_R52 {w : Wd} (h : MSh w) : wR w 13 0 52 = some (152, 0) := (ms_52 h).1
theorem ms_C152 {w : Wd} (h : MSh w) : wC w 152 = 1 := (ms_52 h).2.1
theorem ms_N152 {w : Wd} (h : MSh w) : wN w 152 0 = 11 := (ms_52 h).2.2
theorem ms_53 {w : Wd} (h : MSh w) : wR w 13 0 53 = some (153, 0) ∧ wC w 153 = 1 ∧ wN w 153 0 = 11 := h.2 (53, 153, 11) (List.mem_of_getElem? (i := 40) rfl)
theorem ms_R53 {w : Wd} (h : MSh w) : wR w 13 0 53 = some (153, 0) := (ms_53 h).1
theorem ms_C153 {w : Wd} (h : MSh w) : wC w 153 = 1 := (ms_53 h).2.1
theorem ms_N153 {w : Wd} (h : MSh w) : wN w 153 0 = 11 := (ms_53 h).2.2
theorem ms_54 {w : Wd} (h : MSh w) : wR w 13 0 54 = some (254, 0) ∧ wC w 254 = 1 ∧ wN w 254 0 = 33 := h.2 (54, 254, 33) (List.mem_of_getElem? (i := 41) rfl)
theorem ms_R54 {w : Wd} (h : MSh w) : wR w 13 0 54 = some (254, 0) := (ms_54 h).1
theorem ms_C254 {w : Wd} (h : MSh w) : wC w 254 = 1 := (ms_54 h).2.1
theorem ms_N254 {w : Wd} (h : MSh w) : wN w 254 0 = 33 := (ms_54 h).2.2
theorem ms_55 {w : Wd} (h : MSh w) : wR w 13 0 55 = some (155, 0) ∧ wC w 155 = 1 ∧ wN w 155 0 = 33 := h.2 (55, 155, 33) (List.mem_of_getElem? (i := 42) rfl)
theorem ms_R55 {w : Wd} (h : MSh w) : wR w 13 0 55 = some (155, 0) := (ms_55 h).1
theorem ms_C155 {w : Wd} (h : MSh w) : wC w 155 = 1 := (ms_55 h).2.1
theorem ms_N155 {w : Wd} (h : MSh w) : wN w 155 0 = 33 := (ms_55 h).2.2
theorem ms_56 {w : Wd} (h : MSh w) : wR w 13 0 56 = some (156, 0) ∧ wC w 156 = 1 ∧ wN w 156 0 = 33 := h.2 (56, 156, 33) (List.mem_of_getElem? (i := 43) rfl)
theorem ms_R56 {w : Wd} (h : MSh w) : wR w 13 0 56 = some (156, 0) := (ms_56 h).1
theorem ms_C156 {w : Wd} (h : MSh w) : wC w 156 = 1 := (ms_56 h).2.1
theorem ms_N156 {w : Wd} (h : MSh w) : wN w 156 0 = 33 := (ms_56 h).2.2
theorem ms_57 {w : Wd} (h : MSh w) : wR w 13 0 57 = some (157, 0) ∧ wC w 157 = 1 ∧ wN w 157 0 = 33 := h.2 (57, 157, 33) (List.mem_of_getElem? (i := 44) rfl)
theorem ms_R57 {w : Wd} (h : MSh w) : wR w 13 0 57 = some (157, 0) := (ms_57 h).1
theorem ms_C157 {w : Wd} (h : MSh w) : wC w 157 = 1 := (ms_57 h).2.1
theorem ms_N157 {w : Wd} (h : MSh w) : wN w 157 0 = 33 := (ms_57 h).2.2
theorem ms_59 {w : Wd} (h : MSh w) : wR w 13 0 59 = some (159, 0) ∧ wC w 159 = 1 ∧ wN w 159 0 = 80 := h.2 (59, 159, 80) (List.mem_of_getElem? (i := 45) rfl)
theorem ms_R59 {w : Wd} (h : MSh w) : wR w 13 0 59 = some (159, 0) := (ms_59 h).1
theorem ms_C159 {w : Wd} (h : MSh w) : wC w 159 = 1 := (ms_59 h).2.1
theorem ms_N159 {w : Wd} (h : MSh w) : wN w 159 0 = 80 := (ms_59 h).2.2
theorem ms_64 {w : Wd} (h : MSh w) : wR w 13 0 64 = some (164, 0) ∧ wC w 164 = 1 ∧ wN w 164 0 = 20 := h.2 (64, 164, 20) (List.mem_of_getElem? (i := 46) rfl)
theorem ms_R64 {w : Wd} (h : MSh w) : wR w 13 0 64 = some (164, 0) := (ms_64 h).1
theorem ms_C164 {w : Wd} (h : MSh w) : wC w 164 = 1 := (ms_64 h).2.1
theorem ms_N164 {w : Wd} (h : MSh w) : wN w 164 0 = 20 := (ms_64 h).2.2
theorem ms_65 {w : Wd} (h : MSh w) : wR w 13 0 65 = some (165, 0) ∧ wC w 165 = 1 ∧ wN w 165 0 = 20 := h.2 (65, 165, 20) (List.mem_of_getElem? (i := 47) rfl)
theorem ms_R65 {w : Wd} (h : MSh w) : wR w 13 0 65 = some (165, 0) := (ms_65 h).1
theorem ms_C165 {w : Wd} (h : MSh w) : wC w 165 = 1 := (ms_65 h).2.1
theorem ms_N165 {w : Wd} (h : MSh w) : wN w 165 0 = 20 := (ms_65 h).2.2
theorem ms_68 {w : Wd} (h : MSh w) : wR w 13 0 68 = some (168, 0) ∧ wC w 168 = 1 ∧ wN w 168 0 = 14 := h.2 (68, 168, 14) (List.mem_of_getElem? (i := 48) rfl)
theorem ms_R68 {w : Wd} (h : MSh w) : wR w 13 0 68 = some (168, 0) := (ms_68 h).1
theorem ms_C168 {w : Wd} (h : MSh w) : wC w 168 = 1 := (ms_68 h).2.1
theorem ms_N168 {w : Wd} (h : MSh w) : wN w 168 0 = 14 := (ms_68 h).2.2
theorem MSh_sI {w : Wd} {t k i : Nat} {v : Int32} (h : MSh w) : MSh (sI w t k i v) := h
