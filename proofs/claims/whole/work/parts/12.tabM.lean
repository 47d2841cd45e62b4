/-! the methods' tables -/
def tM_init : TB := [(0, .aload_n 0, 1), (1, .invokespecial 1, 3), (4, .aload_n 0, 1), (5, .bipush 9, 2), (7, .newarray .int, 2), (9, .putfield 7, 3), (12, .aload_n 0, 1), (13, .bipush 14, 2), (15, .newarray .int, 2), (17, .putfield 13, 3), (20, .aload_n 0, 1), (21, .bipush 14, 2), (23, .newarray .int, 2), (25, .putfield 16, 3), (28, .aload_n 0, 1), (29, .bipush 20, 2), (31, .newarray .int, 2), (33, .putfield 19, 3), (36, .aload_n 0, 1), (37, .bipush 20, 2), (39, .newarray .int, 2), (41, .putfield 22, 3), (44, .aload_n 0, 1), (45, .bipush 20, 2), (47, .newarray .int, 2), (49, .putfield 25, 3), (52, .aload_n 0, 1), (53, .bipush 14, 2), (55, .newarray .int, 2), (57, .putfield 28, 3), (60, .aload_n 0, 1), (61, .bipush 14, 2), (63, .newarray .int, 2), (65, .putfield 31, 3), (68, .aload_n 0, 1), (69, .sipush 500, 3), (72, .newarray .int, 2), (74, .putfield 34, 3), (77, .aload_n 0, 1), (78, .sipush 500, 3), (81, .newarray .int, 2), (83, .putfield 37, 3), (86, .aload_n 0, 1), (87, .sipush 500, 3), (90, .newarray .int, 2), (92, .putfield 40, 3), (95, .aload_n 0, 1), (96, .bipush 24, 2), (98, .newarray .int, 2), (100, .putfield 43, 3), (103, .aload_n 0, 1), (104, .bipush 24, 2), (106, .newarray .int, 2), (108, .putfield 46, 3), (111, .aload_n 0, 1), (112, .bipush 24, 2), (114, .newarray .int, 2), (116, .putfield 49, 3), (119, .aload_n 0, 1), (120, .bipush 24, 2), (122, .newarray .int, 2), (124, .putfield 52, 3), (127, .aload_n 0, 1), (128, .bipush 24, 2), (130, .newarray .int, 2), (132, .putfield 55, 3), (135, .aload_n 0, 1), (136, .bipush 24, 2), (138, .newarray .int, 2), (140, .putfield 58, 3), (143, .aload_n 0, 1), (144, .bipush 24, 2), (146, .newarray .int, 2), (148, .putfield 61, 3), (151, .aload_n 0, 1), (152, .bipush 24, 2), (154, .newarray .int, 2), (156, .putfield 64, 3), (159, .aload_n 0, 1), (160, .bipush 24, 2), (162, .newarray .int, 2), (164, .putfield 67, 3), (167, .aload_n 0, 1), (168, .bipush 24, 2), (170, .newarray .boolean, 2), (172, .putfield 70, 3), (175, .aload_n 0, 1), (176, .bipush 24, 2), (178, .newarray .int, 2), (180, .putfield 74, 3), (183, .aload_n 0, 1), (184, .bipush 24, 2), (186, .newarray .int, 2), (188, .putfield 77, 3), (191, .aload_n 0, 1), (192, .bipush 24, 2), (194, .newarray .boolean, 2), (196, .putfield 80, 3), (199, .aload_n 0, 1), (200, .bipush 24, 2), (202, .newarray .int, 2), (204, .putfield 83, 3), (207, .aload_n 0, 1), (208, .bipush 24, 2), (210, .newarray .int, 2), (212, .putfield 86, 3), (215, .aload_n 0, 1), (216, .bipush 24, 2), (218, .newarray .int, 2), (220, .putfield 89, 3), (223, .aload_n 0, 1), (224, .bipush 24, 2), (226, .newarray .int, 2), (228, .putfield 92, 3), (231, .aload_n 0, 1), (232, .bipush 120, 2), (234, .newarray .boolean, 2), (236, .putfield 95, 3), (239, .aload_n 0, 1), (240, .bipush 120, 2), (242, .newarray .int, 2), (244, .putfield 98, 3), (247, .aload_n 0, 1), (248, .bipush 120, 2), (250, .newarray .int, 2), (252, .putfield 101, 3), (255, .aload_n 0, 1), (256, .bipush 24, 2), (258, .newarray .boolean, 2), (260, .putfield 104, 3), (263, .aload_n 0, 1), (264, .iconst 4, 1), (265, .newarray .int, 2), (267, .putfield 107, 3), (270, .aload_n 0, 1), (271, .iconst 4, 1), (272, .newarray .int, 2), (274, .putfield 110, 3), (277, .aload_n 0, 1), (278, .iconst 4, 1), (279, .newarray .int, 2), (281, .putfield 113, 3), (284, .aload_n 0, 1), (285, .iconst 4, 1), (286, .newarray .int, 2), (288, .putfield 116, 3), (291, .aload_n 0, 1), (292, .iconst (-1), 1), (293, .putfield 119, 3), (296, .aload_n 0, 1), (297, .bipush 11, 2), (299, .newarray .int, 2), (301, .putfield 123, 3), (304, .aload_n 0, 1), (305, .bipush 11, 2), (307, .newarray .int, 2), (309, .putfield 126, 3), (312, .aload_n 0, 1), (313, .bipush 11, 2), (315, .newarray .int, 2), (317, .putfield 129, 3), (320, .aload_n 0, 1), (321, .bipush 11, 2), (323, .newarray .int, 2), (325, .putfield 132, 3), (328, .aload_n 0, 1), (329, .bipush 11, 2), (331, .newarray .int, 2), (333, .putfield 135, 3), (336, .aload_n 0, 1), (337, .bipush 33, 2), (339, .newarray .boolean, 2), (341, .putfield 138, 3), (344, .aload_n 0, 1), (345, .bipush 33, 2), (347, .newarray .int, 2), (349, .putfield 141, 3), (352, .aload_n 0, 1), (353, .bipush 33, 2), (355, .newarray .int, 2), (357, .putfield 144, 3), (360, .aload_n 0, 1), (361, .bipush 33, 2), (363, .newarray .int, 2), (365, .putfield 147, 3), (368, .aload_n 0, 1), (369, .bipush 80, 2), (371, .newarray .int, 2), (373, .putfield 150, 3), (376, .aload_n 0, 1), (377, .bipush 20, 2), (379, .newarray .int, 2), (381, .putfield 153, 3), (384, .aload_n 0, 1), (385, .bipush 20, 2), (387, .newarray .int, 2), (389, .putfield 156, 3), (392, .aload_n 0, 1), (393, .bipush 14, 2), (395, .newarray .int, 2), (397, .putfield 159, 3), (400, .return_, 1)]
set_option maxRecDepth 100000 in
theorem kM_init : tbOk (mB mM_init) tM_init = true := by decide +kernel
theorem pM_init_0 : alk tM_init 0 = some (.aload_n 0, 1) := (rfl)
theorem pM_init_1 : alk tM_init 1 = some (.invokespecial 1, 3) := (rfl)
theorem pM_init_4 : alk tM_init 4 = some (.aload_n 0, 1) := (rfl)
theorem pM_init_5 : alk tM_init 5 = some (.bipush 9, 2) := (rfl)
theorem pM_init_7 : alk tM_init 7 = some (.newarray .int, 2) := (rfl)
theorem pM_init_9 : alk tM_init 9 = some (.putfield 7, 3) := (rfl)
theorem pM_init_12 : alk tM_init 12 = some (.aload_n 0, 1) := (rfl)
theorem pM_init_13 : alk tM_init 13 = some (.bipush 14, 2) := (rfl)
theorem pM_init_15 : alk tM_init 15 = some (.newarray .int, 2) := (rfl)
theorem pM_init_17 : alk tM_init 17 = some (.putfield 13, 3) := (rfl)
theorem pM_init_20 : alk tM_init 20 = some (.aload_n 0, 1) := (rfl)
theorem pM_init_21 : alk tM_init 21 = some (.bipush 14, 2) := (rfl)
theorem pM_init_23 : alk tM_init 23 = some (.newarray .int, 2) := (rfl)
theorem pM_init_25 : alk tM_init 25 = some (.putfield 16, 3) := (rfl)
theorem pM_init_28 : alk tM_init 28 = some (.aload_n 0, 1) := (rfl)
theorem pM_init_29 : alk tM_init 29 = some (.bipush 20, 2) := (rfl)
theorem pM_init_31 : alk tM_init 31 = some (.newarray .int, 2) := (rfl)
theorem pM_init_33 : alk tM_init 33 = some (.putfield 19, 3) := (rfl)
theorem pM_init_36 : alk tM_init 36 = some (.aload_n 0, 1) := (rfl)
theorem pM_init_37 : alk tM_init 37 = some (.bipush 20, 2) := (rfl)
theorem pM_init_39 : alk tM_init 39 = some (.newarray .int, 2) := (rfl)
theorem pM_init_41 : alk tM_init 41 = some (.putfield 22, 3) := (rfl)
theorem pM_init_44 : alk tM_init 44 = some (.aload_n 0, 1) := (rfl)
theorem pM_init_45 : alk tM_init 45 = some (.bipush 20, 2) := (rfl)
theorem pM_init_47 : alk tM_init 47 = some (.newarray .int, 2) := (rfl)
theorem pM_init_49 : alk tM_init 49 = some (.putfield 25, 3) := (rfl)
theorem pM_init_52 : alk tM_init 52 = some (.aload_n 0, 1) := (rfl)
theorem pM_init_53 : alk tM_init 53 = some (.bipush 14, 2) := (rfl)
theorem pM_init_55 : alk tM_init 55 = some (.newarray .int, 2) := (rfl)
theorem pM_init_57 : alk tM_init 57 = some (.putfield 28, 3) := (rfl)
theorem pM_init_60 : alk tM_init 60 = some (.aload_n 0, 1) := (rfl)
theorem pM_init_61 : alk tM_init 61 = some (.bipush 14, 2) := (rfl)
theorem pM_init_63 : alk tM_init 63 = some (.newarray .int, 2) := (rfl)
theorem pM_init_65 : alk tM_init 65 = some (.putfield 31, 3) := (rfl)
theorem pM_init_68 : alk tM_init 68 = some (.aload_n 0, 1) := (rfl)
theorem pM_init_69 : alk tM_init 69 = some (.sipush 500, 3) := (rfl)
theorem pM_init_72 : alk tM_init 72 = some (.newarray .int, 2) := (rfl)
theorem pM_init_74 : alk tM_init 74 = some (.putfield 34, 3) := (rfl)
theorem pM_init_77 : alk tM_init 77 = some (.aload_n 0, 1) := (rfl)
theorem pM_init_78 : alk tM_init 78 = some (.sipush 500, 3) := (rfl)
theorem pM_init_81 : alk tM_init 81 = some (.newarray .int, 2) := (rfl)
theorem pM_init_83 : alk tM_init 83 = some (.putfield 37, 3) := (rfl)
theorem pM_init_86 : alk tM_init 86 = some (.aload_n 0, 1) := (rfl)
theorem pM_init_87 : alk tM_init 87 = some (.sipush 500, 3) := (rfl)
theorem pM_init_90 : alk tM_init 90 = some (.newarray .int, 2) := (rfl)
theorem pM_init_92 : alk tM_init 92 = some (.putfield 40, 3) := (rfl)
theorem pM_init_95 : alk tM_init 95 = some (.aload_n 0, 1) := (rfl)
theorem pM_init_96 : alk tM_init 96 = some (.bipush 24, 2) := (rfl)
theorem pM_init_98 : alk tM_init 98 = some (.newarray .int, 2) := (rfl)
theorem pM_init_100 : alk tM_init 100 = some (.putfield 43, 3) := (rfl)
theorem pM_init_103 : alk tM_init 103 = some (.aload_n 0, 1) := (rfl)
theorem pM_init_104 : alk tM_init 104 = some (.bipush 24, 2) := (rfl)
theorem pM_init_106 : alk tM_init 106 = some (.newarray .int, 2) := (rfl)
theorem pM_init_108 : alk tM_init 108 = some (.putfield 46, 3) := (rfl)
theorem pM_init_111 : alk tM_init 111 = some (.aload_n 0, 1) := (rfl)
theorem pM_init_112 : alk tM_init 112 = some (.bipush 24, 2) := (rfl)
theorem pM_init_114 : alk tM_init 114 = some (.newarray .int, 2) := (rfl)
theorem pM_init_116 : alk tM_init 116 = some (.putfield 49, 3) := (rfl)
theorem pM_init_119 : alk tM_init 119 = some (.aload_n 0, 1) := (rfl)
theorem pM_init_120 : alk tM_init 120 = some (.bipush 24, 2) := (rfl)
theorem pM_init_122 : alk tM_init 122 = some (.newarray .int, 2) := (rfl)
set_option maxRecDepth 20000 in
theorem pM_init_124 : alk tM_init 124 = some (.putfield 52, 3) := (rfl)
set_option maxRecDepth 20000 in
theorem pM_init_127 : alk tM_init 127 = some (.aload_n 0, 1) := (rfl)
set_option maxRecDepth 20000 in
theorem pM_init_128 : alk tM_init 128 = some (.bipush 24, 2) := (rfl)
set_option maxRecDepth 20000 in
theorem pM_init_130 : alk tM_init 130 = some (.newarray .int, 2) := (rfl)
set_option maxRecDepth 20000 in
theorem pM_init_132 : alk tM_init 132 = some (.putfield 55, 3) := (rfl)
set_option maxRecDepth 20000 in
theorem pM_init_135 : alk tM_init 135 = some (.aload_n 0, 1) := (rfl)
set_option maxRecDepth 20000 in
theorem pM_init_136 : alk tM_init 136 = some (.bipush 24, 2) := (rfl)
set_option maxRecDepth 20000 in
theorem pM_init_138 : alk tM_init 138 = some (.newarray .int, 2) := (rfl)
set_option maxRecDepth 20000 in
theorem pM_init_140 : alk tM_init 140 = some (.putfield 58, 3) := (rfl)
set_option maxRecDepth 20000 in
theorem pM_init_143 : alk tM_init 143 = some (.aload_n 0, 1) := (rfl)
set_option maxRecDepth 20000 in
theorem pM_init_144 : alk tM_init 144 = some (.bipush 24, 2) := (rfl)
set_option maxRecDepth 20000 in
theorem pM_init_146 : alk tM_init 146 = some (.newarray .int, 2) := (rfl)
set_option maxRecDepth 20000 in
theorem pM_init_148 : alk tM_init 148 = some (.putfield 61, 3) := (rfl)
set_option maxRecDepth 20000 in
theorem pM_init_151 : alk tM_init 151 = some (.aload_n 0, 1) := (rfl)
set_option maxRecDepth 20000 in
theorem pM_init_152 : alk tM_init 152 = some (.bipush 24, 2) := (rfl)
set_option maxRecDepth 20000 in
theorem pM_init_154 : alk tM_init 154 = some (.newarray .int, 2) := (rfl)
set_option maxRecDepth 20000 in
theorem pM_init_156 : alk tM_init 156 = some (.putfield 64, 3) := (rfl)
set_option maxRecDepth 20000 in
theorem pM_init_159 : alk tM_init 159 = some (.aload_n 0, 1) := (rfl)
set_option maxRecDepth 20000 in
theorem pM_init_160 : alk tM_init 160 = some (.bipush 24, 2) := (rfl)
set_option maxRecDepth 20000 in
theorem pM_init_162 : alk tM_init 162 = some (.newarray .int, 2) := (rfl)
set_option maxRecDepth 20000 in
theorem pM_init_164 : alk tM_init 164 = some (.putfield 67, 3) := (rfl)
set_option maxRecDepth 20000 in
theorem pM_init_167 : alk tM_init 167 = some (.aload_n 0, 1) := (rfl)
set_option maxRecDepth 20000 in
theorem pM_init_168 : alk tM_init 168 = some (.bipush 24, 2) := (rfl)
set_option maxRecDepth 20000 in
theorem pM_init_170 : alk tM_init 170 = some (.newarray .boolean, 2) := (rfl)
set_option maxRecDepth 20000 in
theorem pM_init_172 : alk tM_init 172 = some (.putfield 70, 3) := (rfl)
set_option maxRecDepth 20000 in
theorem pM_init_175 : alk tM_init 175 = some (.aload_n 0, 1) := (rfl)
set_option maxRecDepth 20000 in
theorem pM_init_176 : alk tM_init 176 = some (.bipush 24, 2) := (rfl)
set_option maxRecDepth 20000 in
theorem pM_init_178 : alk tM_init 178 = some (.newarray .int, 2) := (rfl)
set_option maxRecDepth 20000 in
theorem pM_init_180 : alk tM_init 180 = some (.putfield 74, 3) := (rfl)
set_option maxRecDepth 20000 in
theorem pM_init_183 : alk tM_init 183 = some (.aload_n 0, 1) := (rfl)
set_option maxRecDepth 20000 in
theorem pM_init_184 : alk tM_init 184 = some (.bipush 24, 2) := (rfl)
set_option maxRecDepth 20000 in
theorem pM_init_186 : alk tM_init 186 = some (.newarray .int, 2) := (rfl)
set_option maxRecDepth 20000 in
theorem pM_init_188 : alk tM_init 188 = some (.putfield 77, 3) := (rfl)
set_option maxRecDepth 20000 in
theorem pM_init_191 : alk tM_init 191 = some (.aload_n 0, 1) := (rfl)
set_option maxRecDepth 20000 in
theorem pM_init_192 : alk tM_init 192 = some (.bipush 24, 2) := (rfl)
set_option maxRecDepth 20000 in
theorem pM_init_194 : alk tM_init 194 = some (.newarray .boolean, 2) := (rfl)
set_option maxRecDepth 20000 in
theorem pM_init_196 : alk tM_init 196 = some (.putfield 80, 3) := (rfl)
set_option maxRecDepth 20000 in
theorem pM_init_199 : alk tM_init 199 = some (.aload_n 0, 1) := (rfl)
set_option maxRecDepth 20000 in
theorem pM_init_200 : alk tM_init 200 = some (.bipush 24, 2) := (rfl)
set_option maxRecDepth 20000 in
theorem pM_init_202 : alk tM_init 202 = some (.newarray .int, 2) := (rfl)
set_option maxRecDepth 20000 in
theorem pM_init_204 : alk tM_init 204 = some (.putfield 83, 3) := (rfl)
set_option maxRecDepth 20000 in
theorem pM_init_207 : alk tM_init 207 = some (.aload_n 0, 1) := (rfl)
set_option maxRecDepth 20000 in
theorem pM_init_208 : alk tM_init 208 = some (.bipush 24, 2) := (rfl)
set_option maxRecDepth 20000 in
theorem pM_init_210 : alk tM_init 210 = some (.newarray .int, 2) := (rfl)
set_option maxRecDepth 20000 in
theorem pM_init_212 : alk tM_init 212 = some (.putfield 86, 3) := (rfl)
set_option maxRecDepth 20000 in
theorem pM_init_215 : alk tM_init 215 = some (.aload_n 0, 1) := (rfl)
set_option maxRecDepth 20000 in
theorem pM_init_216 : alk tM_init 216 = some (.bipush 24, 2) := (rfl)
set_option maxRecDepth 20000 in
theorem pM_init_218 : alk tM_init 218 = some (.newarray .int, 2) := (rfl)
set_option maxRecDepth 20000 in
theorem pM_init_220 : alk tM_init 220 = some (.putfield 89, 3) := (rfl)
set_option maxRecDepth 20000 in
theorem pM_init_223 : alk tM_init 223 = some (.aload_n 0, 1) := (rfl)
set_option maxRecDepth 20000 in
theorem pM_init_224 : alk tM_init 224 = some (.bipush 24, 2) := (rfl)
set_option maxRecDepth 20000 in
theorem pM_init_226 : alk tM_init 226 = some (.newarray .int, 2) := (rfl)
set_option maxRecDepth 20000 in
theorem pM_init_228 : alk tM_init 228 = some (.putfield 92, 3) := (rfl)
set_option maxRecDepth 20000 in
theorem pM_init_231 : alk tM_init 231 = some (.aload_n 0, 1) := (rfl)
set_option maxRecDepth 20000 in
theorem pM_init_232 : alk tM_init 232 = some (.bipush 120, 2) := (rfl)
set_option maxRecDepth 20000 in
theorem pM_init_234 : alk tM_init 234 = some (.newarray .boolean, 2) := (rfl)
set_option maxRecDepth 20000 in
theorem pM_init_236 : alk tM_init 236 = some (.putfield 95, 3) := (rfl)
set_option maxRecDepth 20000 in
theorem pM_init_239 : alk tM_init 239 = some (.aload_n 0, 1) := (rfl)
set_option maxRecDepth 20000 in
theorem pM_init_240 : alk tM_init 240 = some (.bipush 120, 2) := (rfl)
set_option maxRecDepth 20000 in
theorem pM_init_242 : alk tM_init 242 = some (.newarray .int, 2) := (rfl)
set_option maxRecDepth 20000 in
theorem pM_init_244 : alk tM_init 244 = some (.putfield 98, 3) := (rfl)
set_option maxRecDepth 20000 in
theorem pM_init_247 : alk tM_init 247 = some (.aload_n 0, 1) := (rfl)
set_option maxRecDepth 20000 in
theorem pM_init_248 : alk tM_init 248 = some (.bipush 120, 2) := (rfl)
set_option maxRecDepth 20000 in
theorem pM_init_250 : alk tM_init 250 = some (.newarray .int, 2) := (rfl)
set_option maxRecDepth 20000 in
theorem pM_init_252 : alk tM_init 252 = some (.putfield 101, 3) := (rfl)
set_option maxRecDepth 20000 in
theorem pM_init_255 : alk tM_init 255 = some (.aload_n 0, 1) := (rfl)
set_option maxRecDepth 20000 in
theorem pM_init_256 : alk tM_init 256 = some (.bipush 24, 2) := (rfl)
set_option maxRecDepth 20000 in
theorem pM_init_258 : alk tM_init 258 = some (.newarray .boolean, 2) := (rfl)
set_option maxRecDepth 20000 in
theorem pM_init_260 : alk tM_init 260 = some (.putfield 104, 3) := (rfl)
set_option maxRecDepth 20000 in
theorem pM_init_263 : alk tM_init 263 = some (.aload_n 0, 1) := (rfl)
set_option maxRecDepth 20000 in
theorem pM_init_264 : alk tM_init 264 = some (.iconst 4, 1) := (rfl)
set_option maxRecDepth 20000 in
theorem pM_init_265 : alk tM_init 265 = some (.newarray .int, 2) := (rfl)
set_option maxRecDepth 20000 in
theorem pM_init_267 : alk tM_init 267 = some (.putfield 107, 3) := (rfl)
set_option maxRecDepth 20000 in
theorem pM_init_270 : alk tM_init 270 = some (.aload_n 0, 1) := (rfl)
set_option maxRecDepth 20000 in
theorem pM_init_271 : alk tM_init 271 = some (.iconst 4, 1) := (rfl)
set_option maxRecDepth 20000 in
theorem pM_init_272 : alk tM_init 272 = some (.newarray .int, 2) := (rfl)
set_option maxRecDepth 20000 in
theorem pM_init_274 : alk tM_init 274 = some (.putfield 110, 3) := (rfl)
set_option maxRecDepth 20000 in
theorem pM_init_277 : alk tM_init 277 = some (.aload_n 0, 1) := (rfl)
set_option maxRecDepth 20000 in
theorem pM_init_278 : alk tM_init 278 = some (.iconst 4, 1) := (rfl)
set_option maxRecDepth 20000 in
theorem pM_init_279 : alk tM_init 279 = some (.newarray .int, 2) := (rfl)
set_option maxRecDepth 20000 in
theorem pM_init_281 : alk tM_init 281 = some (.putfield 113, 3) := (rfl)
set_option maxRecDepth 20000 in
theorem pM_init_284 : alk tM_init 284 = some (.aload_n 0, 1) := (rfl)
set_option maxRecDepth 20000 in
theorem pM_init_285 : alk tM_init 285 = some (.iconst 4, 1) := (rfl)
set_option maxRecDepth 20000 in
theorem pM_init_286 : alk tM_init 286 = some (.newarray .int, 2) := (rfl)
set_option maxRecDepth 20000 in
theorem pM_init_288 : alk tM_init 288 = some (.putfield 116, 3) := (rfl)
set_option maxRecDepth 20000 in
theorem pM_init_291 : alk tM_init 291 = some (.aload_n 0, 1) := (rfl)
set_option maxRecDepth 20000 in
theorem pM_init_292 : alk tM_init 292 = some (.iconst (-1), 1) := (rfl)
set_option maxRecDepth 20000 in
theorem pM_init_293 : alk tM_init 293 = some (.putfield 119, 3) := (rfl)
set_option maxRecDepth 20000 in
theorem pM_init_296 : alk tM_init 296 = some (.aload_n 0, 1) := (rfl)
set_option maxRecDepth 20000 in
theorem pM_init_297 : alk tM_init 297 = some (.bipush 11, 2) := (rfl)
set_option maxRecDepth 20000 in
theorem pM_init_299 : alk tM_init 299 = some (.newarray .int, 2) := (rfl)
set_option maxRecDepth 20000 in
theorem pM_init_301 : alk tM_init 301 = some (.putfield 123, 3) := (rfl)
set_option maxRecDepth 20000 in
theorem pM_init_304 : alk tM_init 304 = some (.aload_n 0, 1) := (rfl)
set_option maxRecDepth 20000 in
theorem pM_init_305 : alk tM_init 305 = some (.bipush 11, 2) := (rfl)
set_option maxRecDepth 20000 in
theorem pM_init_307 : alk tM_init 307 = some (.newarray .int, 2) := (rfl)
set_option maxRecDepth 20000 in
theorem pM_init_309 : alk tM_init 309 = some (.putfield 126, 3) := (rfl)
set_option maxRecDepth 20000 in
theorem pM_init_312 : alk tM_init 312 = some (.aload_n 0, 1) := (rfl)
set_option maxRecDepth 20000 in
theorem pM_init_313 : alk tM_init 313 = some (.bipush 11, 2) := (rfl)
set_option maxRecDepth 20000 in
theorem pM_init_315 : alk tM_init 315 = some (.newarray .int, 2) := (rfl)
set_option maxRecDepth 20000 in
theorem pM_init_317 : alk tM_init 317 = some (.putfield 129, 3) := (rfl)
set_option maxRecDepth 20000 in
theorem pM_init_320 : alk tM_init 320 = some (.aload_n 0, 1) := (rfl)
set_option maxRecDepth 20000 in
theorem pM_init_321 : alk tM_init 321 = some (.bipush 11, 2) := (rfl)
set_option maxRecDepth 20000 in
theorem pM_init_323 : alk tM_init 323 = some (.newarray .int, 2) := (rfl)
set_option maxRecDepth 20000 in
theorem pM_init_325 : alk tM_init 325 = some (.putfield 132, 3) := (rfl)
set_option maxRecDepth 20000 in
theorem pM_init_328 : alk tM_init 328 = some (.aload_n 0, 1) := (rfl)
set_option maxRecDepth 20000 in
theorem pM_init_329 : alk tM_init 329 = some (.bipush 11, 2) := (rfl)
set_option maxRecDepth 20000 in
theorem pM_init_331 : alk tM_init 331 = some (.newarray .int, 2) := (rfl)
set_option maxRecDepth 20000 in
theorem pM_init_333 : alk tM_init 333 = some (.putfield 135, 3) := (rfl)
set_option maxRecDepth 20000 in
theorem pM_init_336 : alk tM_init 336 = some (.aload_n 0, 1) := (rfl)
set_option maxRecDepth 20000 in
theorem pM_init_337 : alk tM_init 337 = some (.bipush 33, 2) := (rfl)
set_option maxRecDepth 20000 in
theorem pM_init_339 : alk tM_init 339 = some (.newarray .boolean, 2) := (rfl)
set_option maxRecDepth 20000 in
theorem pM_init_341 : alk tM_init 341 = some (.putfield 138, 3) := (rfl)
set_option maxRecDepth 20000 in
theorem pM_init_344 : alk tM_init 344 = some (.aload_n 0, 1) := (rfl)
set_option maxRecDepth 20000 in
theorem pM_init_345 : alk tM_init 345 = some (.bipush 33, 2) := (rfl)
set_option maxRecDepth 20000 in
theorem pM_init_347 : alk tM_init 347 = some (.newarray .int, 2) := (rfl)
set_option maxRecDepth 20000 in
theorem pM_init_349 : alk tM_init 349 = some (.putfield 141, 3) := (rfl)
set_option maxRecDepth 20000 in
theorem pM_init_352 : alk tM_init 352 = some (.aload_n 0, 1) := (rfl)
set_option maxRecDepth 20000 in
theorem pM_init_353 : alk tM_init 353 = some (.bipush 33, 2) := (rfl)
set_option maxRecDepth 20000 in
theorem pM_init_355 : alk tM_init 355 = some (.newarray .int, 2) := (rfl)
set_option maxRecDepth 20000 in
theorem pM_init_357 : alk tM_init 357 = some (.putfield 144, 3) := (rfl)
set_option maxRecDepth 20000 in
theorem pM_init_360 : alk tM_init 360 = some (.aload_n 0, 1) := (rfl)
set_option maxRecDepth 20000 in
theorem pM_init_361 : alk tM_init 361 = some (.bipush 33, 2) := (rfl)
set_option maxRecDepth 20000 in
theorem pM_init_363 : alk tM_init 363 = some (.newarray .int, 2) := (rfl)
set_option maxRecDepth 20000 in
theorem pM_init_365 : alk tM_init 365 = some (.putfield 147, 3) := (rfl)
set_option maxRecDepth 20000 in
theorem pM_init_368 : alk tM_init 368 = some (.aload_n 0, 1) := (rfl)
set_option maxRecDepth 20000 in
theorem pM_init_369 : alk tM_init 369 = some (.bipush 80, 2) := (rfl)
set_option maxRecDepth 20000 in
theorem pM_init_371 : alk tM_init 371 = some (.newarray .int, 2) := (rfl)
set_option maxRecDepth 20000 in
theorem pM_init_373 : alk tM_init 373 = some (.putfield 150, 3) := (rfl)
set_option maxRecDepth 20000 in
theorem pM_init_376 : alk tM_init 376 = some (.aload_n 0, 1) := (rfl)
set_option maxRecDepth 20000 in
theorem pM_init_377 : alk tM_init 377 = some (.bipush 20, 2) := (rfl)
set_option maxRecDepth 20000 in
theorem pM_init_379 : alk tM_init 379 = some (.newarray .int, 2) := (rfl)
set_option maxRecDepth 20000 in
theorem pM_init_381 : alk tM_init 381 = some (.putfield 153, 3) := (rfl)
set_option maxRecDepth 20000 in
theorem pM_init_384 : alk tM_init 384 = some (.aload_n 0, 1) := (rfl)
set_option maxRecDepth 20000 in
theorem pM_init_385 : alk tM_init 385 = some (.bipush 20, 2) := (rfl)
set_option maxRecDepth 20000 in
theorem pM_init_387 : alk tM_init 387 = some (.newarray .int, 2) := (rfl)
set_option maxRecDepth 20000 in
theorem pM_init_389 : alk tM_init 389 = some (.putfield 156, 3) := (rfl)
set_option maxRecDepth 20000 in
theorem pM_init_392 : alk tM_init 392 = some (.aload_n 0, 1) := (rfl)
set_option maxRecDepth 20000 in
theorem pM_init_393 : alk tM_init 393 = some (.bipush 14, 2) := (rfl)
set_option maxRecDepth 20000 in
theorem pM_init_395 : alk tM_init 395 = some (.newarray .int, 2) := (rfl)
set_option maxRecDepth 20000 in
theorem pM_init_397 : alk tM_init 397 = some (.putfield 159, 3) := (rfl)
set_option maxRecDepth 20000 in
theorem pM_init_400 : alk tM_init 400 = some (.return_, 1) := (rfl)
def tM_status : TB := [(0, .iload_n 1, 1), (1, .bipush (-8), 2), (3, .bipush (-2), 2), (5, .invokestatic 165, 3), (8, .ifCond .eq 13, 3), (11, .aload_n 0, 1), (12, .getfield 7, 3), (15, .iload_n 1, 1), (16, .ineg, 1), (17, .iaload, 1), (18, .goto 9, 3), (21, .aload_n 0, 1), (22, .bipush (-7), 2), (24, .invokevirtual 169, 3), (27, .ireturn, 1)]
set_option maxRecDepth 100000 in
theorem kM_status : tbOk (mB mM_status) tM_status = true := by decide +kernel
theorem pM_status_0 : alk tM_status 0 = some (.iload_n 1, 1) := (rfl)
theorem pM_status_1 : alk tM_status 1 = some (.bipush (-8), 2) := (rfl)
theorem pM_status_3 : alk tM_status 3 = some (.bipush (-2), 2) := (rfl)
theorem pM_status_5 : alk tM_status 5 = some (.invokestatic 165, 3) := (rfl)
theorem pM_status_8 : alk tM_status 8 = some (.ifCond .eq 13, 3) := (rfl)
theorem pM_status_11 : alk tM_status 11 = some (.aload_n 0, 1) := (rfl)
theorem pM_status_12 : alk tM_status 12 = some (.getfield 7, 3) := (rfl)
theorem pM_status_15 : alk tM_status 15 = some (.iload_n 1, 1) := (rfl)
theorem pM_status_16 : alk tM_status 16 = some (.ineg, 1) := (rfl)
theorem pM_status_17 : alk tM_status 17 = some (.iaload, 1) := (rfl)
theorem pM_status_18 : alk tM_status 18 = some (.goto 9, 3) := (rfl)
theorem pM_status_21 : alk tM_status 21 = some (.aload_n 0, 1) := (rfl)
theorem pM_status_22 : alk tM_status 22 = some (.bipush (-7), 2) := (rfl)
theorem pM_status_24 : alk tM_status 24 = some (.invokevirtual 169, 3) := (rfl)
theorem pM_status_27 : alk tM_status 27 = some (.ireturn, 1) := (rfl)
def tM_in : TB := [(0, .iload_n 0, 1), (1, .iload_n 1, 1), (2, .if_icmp .lt 12, 3), (5, .iload_n 0, 1), (6, .iload_n 2, 1), (7, .if_icmp .gt 7, 3), (10, .iconst 1, 1), (11, .goto 4, 3), (14, .iconst 0, 1), (15, .ireturn, 1)]
set_option maxRecDepth 100000 in
theorem kM_in : tbOk (mB mM_in) tM_in = true := by decide +kernel
theorem pM_in_0 : alk tM_in 0 = some (.iload_n 0, 1) := (rfl)
theorem pM_in_1 : alk tM_in 1 = some (.iload_n 1, 1) := (rfl)
theorem pM_in_2 : alk tM_in 2 = some (.if_icmp .lt 12, 3) := (rfl)
theorem pM_in_5 : alk tM_in 5 = some (.iload_n 0, 1) := (rfl)
theorem pM_in_6 : alk tM_in 6 = some (.iload_n 2, 1) := (rfl)
theorem pM_in_7 : alk tM_in 7 = some (.if_icmp .gt 7, 3) := (rfl)
theorem pM_in_10 : alk tM_in 10 = some (.iconst 1, 1) := (rfl)
theorem pM_in_11 : alk tM_in 11 = some (.goto 4, 3) := (rfl)
theorem pM_in_14 : alk tM_in 14 = some (.iconst 0, 1) := (rfl)
theorem pM_in_15 : alk tM_in 15 = some (.ireturn, 1) := (rfl)
def tM_refused : TB := [(0, .aload_n 0, 1), (1, .getfield 7, 3), (4, .iload_n 1, 1), (5, .ineg, 1), (6, .dup2, 1), (7, .iaload, 1), (8, .iconst 1, 1), (9, .iadd, 1), (10, .iastore, 1), (11, .iload_n 1, 1), (12, .ireturn, 1)]
set_option maxRecDepth 100000 in
theorem kM_refused : tbOk (mB mM_refused) tM_refused = true := by decide +kernel
theorem pM_refused_0 : alk tM_refused 0 = some (.aload_n 0, 1) := (rfl)
theorem pM_refused_1 : alk tM_refused 1 = some (.getfield 7, 3) := (rfl)
theorem pM_refused_4 : alk tM_refused 4 = some (.iload_n 1, 1) := (rfl)
theorem pM_refused_5 : alk tM_refused 5 = some (.ineg, 1) := (rfl)
theorem pM_refused_6 : alk tM_refused 6 = some (.dup2, 1) := (rfl)
theorem pM_refused_7 : alk tM_refused 7 = some (.iaload, 1) := (rfl)
theorem pM_refused_8 : alk tM_refused 8 = some (.iconst 1, 1) := (rfl)
theorem pM_refused_9 : alk tM_refused 9 = some (.iadd, 1) := (rfl)
theorem pM_refused_10 : alk tM_refused 10 = some (.iastore, 1) := (rfl)
theorem pM_refused_11 : alk tM_refused 11 = some (.iload_n 1, 1) := (rfl)
theorem pM_refused_12 : alk tM_refused 12 = some (.ireturn, 1) := (rfl)
def tM_place : TB := [(0, .iload_n 1, 1), (1, .iconst 0, 1), (2, .iconst 3, 1), (3, .invokestatic 165, 3), (6, .ifCond .ne 10, 3), (9, .aload_n 0, 1), (10, .bipush (-7), 2), (12, .invokevirtual 169, 3), (15, .ireturn, 1), (16, .aload_n 0, 1), (17, .getfield 173, 3), (20, .bipush 14, 2), (22, .if_icmp .ne 10, 3), (25, .aload_n 0, 1), (26, .bipush (-8), 2), (28, .invokevirtual 169, 3), (31, .ireturn, 1), (32, .aload_n 0, 1), (33, .getfield 13, 3), (36, .aload_n 0, 1), (37, .getfield 173, 3), (40, .iload_n 1, 1), (41, .iastore, 1), (42, .aload_n 0, 1), (43, .getfield 16, 3), (46, .aload_n 0, 1), (47, .getfield 173, 3), (50, .iconst 0, 1), (51, .iastore, 1), (52, .aload_n 0, 1), (53, .dup, 1), (54, .getfield 173, 3), (57, .iconst 1, 1), (58, .iadd, 1), (59, .putfield 173, 3), (62, .aload_n 0, 1), (63, .getfield 173, 3), (66, .iconst 1, 1), (67, .isub, 1), (68, .ireturn, 1)]
set_option maxRecDepth 100000 in
theorem kM_place : tbOk (mB mM_place) tM_place = true := by decide +kernel
theorem pM_place_0 : alk tM_place 0 = some (.iload_n 1, 1) := (rfl)
theorem pM_place_1 : alk tM_place 1 = some (.iconst 0, 1) := (rfl)
theorem pM_place_2 : alk tM_place 2 = some (.iconst 3, 1) := (rfl)
theorem pM_place_3 : alk tM_place 3 = some (.invokestatic 165, 3) := (rfl)
theorem pM_place_6 : alk tM_place 6 = some (.ifCond .ne 10, 3) := (rfl)
theorem pM_place_9 : alk tM_place 9 = some (.aload_n 0, 1) := (rfl)
theorem pM_place_10 : alk tM_place 10 = some (.bipush (-7), 2) := (rfl)
theorem pM_place_12 : alk tM_place 12 = some (.invokevirtual 169, 3) := (rfl)
theorem pM_place_15 : alk tM_place 15 = some (.ireturn, 1) := (rfl)
theorem pM_place_16 : alk tM_place 16 = some (.aload_n 0, 1) := (rfl)
theorem pM_place_17 : alk tM_place 17 = some (.getfield 173, 3) := (rfl)
theorem pM_place_20 : alk tM_place 20 = some (.bipush 14, 2) := (rfl)
theorem pM_place_22 : alk tM_place 22 = some (.if_icmp .ne 10, 3) := (rfl)
theorem pM_place_25 : alk tM_place 25 = some (.aload_n 0, 1) := (rfl)
theorem pM_place_26 : alk tM_place 26 = some (.bipush (-8), 2) := (rfl)
theorem pM_place_28 : alk tM_place 28 = some (.invokevirtual 169, 3) := (rfl)
theorem pM_place_31 : alk tM_place 31 = some (.ireturn, 1) := (rfl)
theorem pM_place_32 : alk tM_place 32 = some (.aload_n 0, 1) := (rfl)
theorem pM_place_33 : alk tM_place 33 = some (.getfield 13, 3) := (rfl)
theorem pM_place_36 : alk tM_place 36 = some (.aload_n 0, 1) := (rfl)
theorem pM_place_37 : alk tM_place 37 = some (.getfield 173, 3) := (rfl)
theorem pM_place_40 : alk tM_place 40 = some (.iload_n 1, 1) := (rfl)
theorem pM_place_41 : alk tM_place 41 = some (.iastore, 1) := (rfl)
theorem pM_place_42 : alk tM_place 42 = some (.aload_n 0, 1) := (rfl)
theorem pM_place_43 : alk tM_place 43 = some (.getfield 16, 3) := (rfl)
theorem pM_place_46 : alk tM_place 46 = some (.aload_n 0, 1) := (rfl)
theorem pM_place_47 : alk tM_place 47 = some (.getfield 173, 3) := (rfl)
theorem pM_place_50 : alk tM_place 50 = some (.iconst 0, 1) := (rfl)
theorem pM_place_51 : alk tM_place 51 = some (.iastore, 1) := (rfl)
theorem pM_place_52 : alk tM_place 52 = some (.aload_n 0, 1) := (rfl)
theorem pM_place_53 : alk tM_place 53 = some (.dup, 1) := (rfl)
theorem pM_place_54 : alk tM_place 54 = some (.getfield 173, 3) := (rfl)
theorem pM_place_57 : alk tM_place 57 = some (.iconst 1, 1) := (rfl)
theorem pM_place_58 : alk tM_place 58 = some (.iadd, 1) := (rfl)
theorem pM_place_59 : alk tM_place 59 = some (.putfield 173, 3) := (rfl)
theorem pM_place_62 : alk tM_place 62 = some (.aload_n 0, 1) := (rfl)
theorem pM_place_63 : alk tM_place 63 = some (.getfield 173, 3) := (rfl)
theorem pM_place_66 : alk tM_place 66 = some (.iconst 1, 1) := (rfl)
theorem pM_place_67 : alk tM_place 67 = some (.isub, 1) := (rfl)
theorem pM_place_68 : alk tM_place 68 = some (.ireturn, 1) := (rfl)
def tM_alley : TB := [(0, .aload_n 0, 1), (1, .iload_n 1, 1), (2, .invokevirtual 176, 3), (5, .ifCond .eq 11, 3), (8, .aload_n 0, 1), (9, .iload_n 2, 1), (10, .invokevirtual 176, 3), (13, .ifCond .ne 10, 3), (16, .aload_n 0, 1), (17, .bipush (-3), 2), (19, .invokevirtual 169, 3), (22, .ireturn, 1), (23, .iload_n 1, 1), (24, .iload_n 2, 1), (25, .if_icmp .eq 13, 3), (28, .iload_n 3, 1), (29, .iconst 1, 1), (30, .bipush 30, 2), (32, .invokestatic 165, 3), (35, .ifCond .ne 10, 3), (38, .aload_n 0, 1), (39, .bipush (-7), 2), (41, .invokevirtual 169, 3), (44, .ireturn, 1), (45, .aload_n 0, 1), (46, .getfield 180, 3), (49, .bipush 20, 2), (51, .if_icmp .ne 10, 3), (54, .aload_n 0, 1), (55, .bipush (-8), 2), (57, .invokevirtual 169, 3), (60, .ireturn, 1), (61, .aload_n 0, 1), (62, .getfield 19, 3), (65, .aload_n 0, 1), (66, .getfield 180, 3), (69, .iload_n 1, 1), (70, .iastore, 1), (71, .aload_n 0, 1), (72, .getfield 22, 3), (75, .aload_n 0, 1), (76, .getfield 180, 3), (79, .iload_n 2, 1), (80, .iastore, 1), (81, .aload_n 0, 1), (82, .getfield 25, 3), (85, .aload_n 0, 1), (86, .getfield 180, 3), (89, .iload_n 3, 1), (90, .iastore, 1), (91, .aload_n 0, 1), (92, .dup, 1), (93, .getfield 180, 3), (96, .iconst 1, 1), (97, .iadd, 1), (98, .putfield 180, 3), (101, .aload_n 0, 1), (102, .getfield 180, 3), (105, .iconst 1, 1), (106, .isub, 1), (107, .ireturn, 1)]
set_option maxRecDepth 100000 in
theorem kM_alley : tbOk (mB mM_alley) tM_alley = true := by decide +kernel
theorem pM_alley_0 : alk tM_alley 0 = some (.aload_n 0, 1) := (rfl)
theorem pM_alley_1 : alk tM_alley 1 = some (.iload_n 1, 1) := (rfl)
theorem pM_alley_2 : alk tM_alley 2 = some (.invokevirtual 176, 3) := (rfl)
theorem pM_alley_5 : alk tM_alley 5 = some (.ifCond .eq 11, 3) := (rfl)
theorem pM_alley_8 : alk tM_alley 8 = some (.aload_n 0, 1) := (rfl)
theorem pM_alley_9 : alk tM_alley 9 = some (.iload_n 2, 1) := (rfl)
theorem pM_alley_10 : alk tM_alley 10 = some (.invokevirtual 176, 3) := (rfl)
theorem pM_alley_13 : alk tM_alley 13 = some (.ifCond .ne 10, 3) := (rfl)
theorem pM_alley_16 : alk tM_alley 16 = some (.aload_n 0, 1) := (rfl)
theorem pM_alley_17 : alk tM_alley 17 = some (.bipush (-3), 2) := (rfl)
theorem pM_alley_19 : alk tM_alley 19 = some (.invokevirtual 169, 3) := (rfl)
theorem pM_alley_22 : alk tM_alley 22 = some (.ireturn, 1) := (rfl)
theorem pM_alley_23 : alk tM_alley 23 = some (.iload_n 1, 1) := (rfl)
theorem pM_alley_24 : alk tM_alley 24 = some (.iload_n 2, 1) := (rfl)
theorem pM_alley_25 : alk tM_alley 25 = some (.if_icmp .eq 13, 3) := (rfl)
theorem pM_alley_28 : alk tM_alley 28 = some (.iload_n 3, 1) := (rfl)
theorem pM_alley_29 : alk tM_alley 29 = some (.iconst 1, 1) := (rfl)
theorem pM_alley_30 : alk tM_alley 30 = some (.bipush 30, 2) := (rfl)
theorem pM_alley_32 : alk tM_alley 32 = some (.invokestatic 165, 3) := (rfl)
theorem pM_alley_35 : alk tM_alley 35 = some (.ifCond .ne 10, 3) := (rfl)
theorem pM_alley_38 : alk tM_alley 38 = some (.aload_n 0, 1) := (rfl)
theorem pM_alley_39 : alk tM_alley 39 = some (.bipush (-7), 2) := (rfl)
theorem pM_alley_41 : alk tM_alley 41 = some (.invokevirtual 169, 3) := (rfl)
theorem pM_alley_44 : alk tM_alley 44 = some (.ireturn, 1) := (rfl)
theorem pM_alley_45 : alk tM_alley 45 = some (.aload_n 0, 1) := (rfl)
theorem pM_alley_46 : alk tM_alley 46 = some (.getfield 180, 3) := (rfl)
theorem pM_alley_49 : alk tM_alley 49 = some (.bipush 20, 2) := (rfl)
theorem pM_alley_51 : alk tM_alley 51 = some (.if_icmp .ne 10, 3) := (rfl)
theorem pM_alley_54 : alk tM_alley 54 = some (.aload_n 0, 1) := (rfl)
theorem pM_alley_55 : alk tM_alley 55 = some (.bipush (-8), 2) := (rfl)
theorem pM_alley_57 : alk tM_alley 57 = some (.invokevirtual 169, 3) := (rfl)
theorem pM_alley_60 : alk tM_alley 60 = some (.ireturn, 1) := (rfl)
theorem pM_alley_61 : alk tM_alley 61 = some (.aload_n 0, 1) := (rfl)
theorem pM_alley_62 : alk tM_alley 62 = some (.getfield 19, 3) := (rfl)
theorem pM_alley_65 : alk tM_alley 65 = some (.aload_n 0, 1) := (rfl)
theorem pM_alley_66 : alk tM_alley 66 = some (.getfield 180, 3) := (rfl)
theorem pM_alley_69 : alk tM_alley 69 = some (.iload_n 1, 1) := (rfl)
theorem pM_alley_70 : alk tM_alley 70 = some (.iastore, 1) := (rfl)
theorem pM_alley_71 : alk tM_alley 71 = some (.aload_n 0, 1) := (rfl)
theorem pM_alley_72 : alk tM_alley 72 = some (.getfield 22, 3) := (rfl)
theorem pM_alley_75 : alk tM_alley 75 = some (.aload_n 0, 1) := (rfl)
theorem pM_alley_76 : alk tM_alley 76 = some (.getfield 180, 3) := (rfl)
theorem pM_alley_79 : alk tM_alley 79 = some (.iload_n 2, 1) := (rfl)
theorem pM_alley_80 : alk tM_alley 80 = some (.iastore, 1) := (rfl)
theorem pM_alley_81 : alk tM_alley 81 = some (.aload_n 0, 1) := (rfl)
theorem pM_alley_82 : alk tM_alley 82 = some (.getfield 25, 3) := (rfl)
theorem pM_alley_85 : alk tM_alley 85 = some (.aload_n 0, 1) := (rfl)
theorem pM_alley_86 : alk tM_alley 86 = some (.getfield 180, 3) := (rfl)
theorem pM_alley_89 : alk tM_alley 89 = some (.iload_n 3, 1) := (rfl)
theorem pM_alley_90 : alk tM_alley 90 = some (.iastore, 1) := (rfl)
theorem pM_alley_91 : alk tM_alley 91 = some (.aload_n 0, 1) := (rfl)
theorem pM_alley_92 : alk tM_alley 92 = some (.dup, 1) := (rfl)
theorem pM_alley_93 : alk tM_alley 93 = some (.getfield 180, 3) := (rfl)
theorem pM_alley_96 : alk tM_alley 96 = some (.iconst 1, 1) := (rfl)
theorem pM_alley_97 : alk tM_alley 97 = some (.iadd, 1) := (rfl)
theorem pM_alley_98 : alk tM_alley 98 = some (.putfield 180, 3) := (rfl)
theorem pM_alley_101 : alk tM_alley 101 = some (.aload_n 0, 1) := (rfl)
theorem pM_alley_102 : alk tM_alley 102 = some (.getfield 180, 3) := (rfl)
theorem pM_alley_105 : alk tM_alley 105 = some (.iconst 1, 1) := (rfl)
theorem pM_alley_106 : alk tM_alley 106 = some (.isub, 1) := (rfl)
theorem pM_alley_107 : alk tM_alley 107 = some (.ireturn, 1) := (rfl)
def tM_isPlace : TB := [(0, .iload_n 1, 1), (1, .iconst 0, 1), (2, .aload_n 0, 1), (3, .getfield 173, 3), (6, .iconst 1, 1), (7, .isub, 1), (8, .invokestatic 165, 3), (11, .ireturn, 1)]
set_option maxRecDepth 100000 in
theorem kM_isPlace : tbOk (mB mM_isPlace) tM_isPlace = true := by decide +kernel
theorem pM_isPlace_0 : alk tM_isPlace 0 = some (.iload_n 1, 1) := (rfl)
theorem pM_isPlace_1 : alk tM_isPlace 1 = some (.iconst 0, 1) := (rfl)
theorem pM_isPlace_2 : alk tM_isPlace 2 = some (.aload_n 0, 1) := (rfl)
theorem pM_isPlace_3 : alk tM_isPlace 3 = some (.getfield 173, 3) := (rfl)
theorem pM_isPlace_6 : alk tM_isPlace 6 = some (.iconst 1, 1) := (rfl)
theorem pM_isPlace_7 : alk tM_isPlace 7 = some (.isub, 1) := (rfl)
theorem pM_isPlace_8 : alk tM_isPlace 8 = some (.invokestatic 165, 3) := (rfl)
theorem pM_isPlace_11 : alk tM_isPlace 11 = some (.ireturn, 1) := (rfl)
def tM_way : TB := [(0, .aload_n 0, 1), (1, .iload_n 1, 1), (2, .invokevirtual 176, 3), (5, .ifCond .eq 20, 3), (8, .aload_n 0, 1), (9, .iload_n 2, 1), (10, .invokevirtual 176, 3), (13, .ifCond .eq 12, 3), (16, .aload_n 0, 1), (17, .iload_n 1, 1), (18, .iload_n 2, 1), (19, .invokevirtual 191, 3), (22, .goto 9, 3), (25, .aload_n 0, 1), (26, .bipush (-3), 2), (28, .invokevirtual 169, 3), (31, .ireturn, 1)]
set_option maxRecDepth 100000 in
theorem kM_way : tbOk (mB mM_way) tM_way = true := by decide +kernel
theorem pM_way_0 : alk tM_way 0 = some (.aload_n 0, 1) := (rfl)
theorem pM_way_1 : alk tM_way 1 = some (.iload_n 1, 1) := (rfl)
theorem pM_way_2 : alk tM_way 2 = some (.invokevirtual 176, 3) := (rfl)
theorem pM_way_5 : alk tM_way 5 = some (.ifCond .eq 20, 3) := (rfl)
theorem pM_way_8 : alk tM_way 8 = some (.aload_n 0, 1) := (rfl)
theorem pM_way_9 : alk tM_way 9 = some (.iload_n 2, 1) := (rfl)
theorem pM_way_10 : alk tM_way 10 = some (.invokevirtual 176, 3) := (rfl)
theorem pM_way_13 : alk tM_way 13 = some (.ifCond .eq 12, 3) := (rfl)
theorem pM_way_16 : alk tM_way 16 = some (.aload_n 0, 1) := (rfl)
theorem pM_way_17 : alk tM_way 17 = some (.iload_n 1, 1) := (rfl)
theorem pM_way_18 : alk tM_way 18 = some (.iload_n 2, 1) := (rfl)
theorem pM_way_19 : alk tM_way 19 = some (.invokevirtual 191, 3) := (rfl)
theorem pM_way_22 : alk tM_way 22 = some (.goto 9, 3) := (rfl)
theorem pM_way_25 : alk tM_way 25 = some (.aload_n 0, 1) := (rfl)
theorem pM_way_26 : alk tM_way 26 = some (.bipush (-3), 2) := (rfl)
theorem pM_way_28 : alk tM_way 28 = some (.invokevirtual 169, 3) := (rfl)
theorem pM_way_31 : alk tM_way 31 = some (.ireturn, 1) := (rfl)
def tM_walk : TB := [(0, .iconst 0, 1), (1, .istore_n 3, 1), (2, .iload_n 3, 1), (3, .aload_n 0, 1), (4, .getfield 173, 3), (7, .if_icmp .ge 26, 3), (10, .aload_n 0, 1), (11, .getfield 28, 3), (14, .iload_n 3, 1), (15, .iload_n 3, 1), (16, .iload_n 2, 1), (17, .if_icmp .ne 7, 3), (20, .iconst 0, 1), (21, .goto 5, 3), (24, .ldc 183, 2), (26, .iastore, 1), (27, .iinc 3 1, 3), (30, .goto (-28), 3), (33, .iconst 1, 1), (34, .istore_n 3, 1), (35, .iload_n 3, 1), (36, .ifCond .eq 164, 3), (39, .iconst 0, 1), (40, .istore_n 3, 1), (41, .iconst 0, 1), (42, .istore 4, 2), (44, .iload 4, 2), (46, .aload_n 0, 1), (47, .getfield 180, 3), (50, .if_icmp .ge 147, 3), (53, .aload_n 0, 1), (54, .getfield 28, 3), (57, .aload_n 0, 1), (58, .getfield 22, 3), (61, .iload 4, 2), (63, .iaload, 1), (64, .iaload, 1), (65, .aload_n 0, 1), (66, .getfield 25, 3), (69, .iload 4, 2), (71, .iaload, 1), (72, .iadd, 1), (73, .aload_n 0, 1), (74, .getfield 28, 3), (77, .aload_n 0, 1), (78, .getfield 19, 3), (81, .iload 4, 2), (83, .iaload, 1), (84, .iaload, 1), (85, .if_icmp .ge 37, 3), (88, .aload_n 0, 1), (89, .getfield 28, 3), (92, .aload_n 0, 1), (93, .getfield 19, 3), (96, .iload 4, 2), (98, .iaload, 1), (99, .aload_n 0, 1), (100, .getfield 28, 3), (103, .aload_n 0, 1), (104, .getfield 22, 3), (107, .iload 4, 2), (109, .iaload, 1), (110, .iaload, 1), (111, .aload_n 0, 1), (112, .getfield 25, 3), (115, .iload 4, 2), (117, .iaload, 1), (118, .iadd, 1), (119, .iastore, 1), (120, .iconst 1, 1), (121, .istore_n 3, 1), (122, .aload_n 0, 1), (123, .getfield 28, 3), (126, .aload_n 0, 1), (127, .getfield 19, 3), (130, .iload 4, 2), (132, .iaload, 1), (133, .iaload, 1), (134, .aload_n 0, 1), (135, .getfield 25, 3), (138, .iload 4, 2), (140, .iaload, 1), (141, .iadd, 1), (142, .aload_n 0, 1), (143, .getfield 28, 3), (146, .aload_n 0, 1), (147, .getfield 22, 3), (150, .iload 4, 2), (152, .iaload, 1), (153, .iaload, 1), (154, .if_icmp .ge 37, 3), (157, .aload_n 0, 1), (158, .getfield 28, 3), (161, .aload_n 0, 1), (162, .getfield 22, 3), (165, .iload 4, 2), (167, .iaload, 1), (168, .aload_n 0, 1), (169, .getfield 28, 3), (172, .aload_n 0, 1), (173, .getfield 19, 3), (176, .iload 4, 2), (178, .iaload, 1), (179, .iaload, 1), (180, .aload_n 0, 1), (181, .getfield 25, 3), (184, .iload 4, 2), (186, .iaload, 1), (187, .iadd, 1), (188, .iastore, 1), (189, .iconst 1, 1), (190, .istore_n 3, 1), (191, .iinc 4 1, 3), (194, .goto (-150), 3), (197, .goto (-162), 3), (200, .aload_n 0, 1), (201, .iconst 0, 1), (202, .putfield 184, 3), (205, .aload_n 0, 1), (206, .getfield 28, 3), (209, .iload_n 1, 1), (210, .iaload, 1), (211, .ldc 183, 2), (213, .if_icmp .lt 5, 3), (216, .iconst (-1), 1), (217, .ireturn, 1), (218, .iload_n 1, 1), (219, .istore 4, 2), (221, .iload 4, 2), (223, .iload_n 2, 1), (224, .if_icmp .eq 89, 3), (227, .iconst 0, 1), (228, .istore 5, 2), (230, .aload_n 0, 1), (231, .iload 5, 2), (233, .iload 4, 2), (235, .invokevirtual 187, 3), (238, .iconst (-1), 1), (239, .if_icmp .eq 34, 3), (242, .aload_n 0, 1), (243, .getfield 28, 3), (246, .aload_n 0, 1), (247, .iload 5, 2), (249, .iload 4, 2), (251, .invokevirtual 187, 3), (254, .iaload, 1), (255, .aload_n 0, 1), (256, .getfield 25, 3), (259, .iload 5, 2), (261, .iaload, 1), (262, .iadd, 1), (263, .aload_n 0, 1), (264, .getfield 28, 3), (267, .iload 4, 2), (269, .iaload, 1), (270, .if_icmp .eq 9, 3), (273, .iinc 5 1, 3), (276, .goto (-46), 3), (279, .aload_n 0, 1), (280, .getfield 31, 3), (283, .aload_n 0, 1), (284, .getfield 184, 3), (287, .iload 5, 2), (289, .iastore, 1), (290, .aload_n 0, 1), (291, .dup, 1), (292, .getfield 184, 3), (295, .iconst 1, 1), (296, .iadd, 1), (297, .putfield 184, 3), (300, .aload_n 0, 1), (301, .iload 5, 2), (303, .iload 4, 2), (305, .invokevirtual 187, 3), (308, .istore 4, 2), (310, .goto (-89), 3), (313, .aload_n 0, 1), (314, .getfield 28, 3), (317, .iload_n 1, 1), (318, .iaload, 1), (319, .ireturn, 1)]
set_option maxRecDepth 100000 in
theorem kM_walk : tbOk (mB mM_walk) tM_walk = true := by decide +kernel
theorem pM_walk_0 : alk tM_walk 0 = some (.iconst 0, 1) := (rfl)
theorem pM_walk_1 : alk tM_walk 1 = some (.istore_n 3, 1) := (rfl)
theorem pM_walk_2 : alk tM_walk 2 = some (.iload_n 3, 1) := (rfl)
theorem pM_walk_3 : alk tM_walk 3 = some (.aload_n 0, 1) := (rfl)
theorem pM_walk_4 : alk tM_walk 4 = some (.getfield 173, 3) := (rfl)
theorem pM_walk_7 : alk tM_walk 7 = some (.if_icmp .ge 26, 3) := (rfl)
theorem pM_walk_10 : alk tM_walk 10 = some (.aload_n 0, 1) := (rfl)
theorem pM_walk_11 : alk tM_walk 11 = some (.getfield 28, 3) := (rfl)
theorem pM_walk_14 : alk tM_walk 14 = some (.iload_n 3, 1) := (rfl)
theorem pM_walk_15 : alk tM_walk 15 = some (.iload_n 3, 1) := (rfl)
theorem pM_walk_16 : alk tM_walk 16 = some (.iload_n 2, 1) := (rfl)
theorem pM_walk_17 : alk tM_walk 17 = some (.if_icmp .ne 7, 3) := (rfl)
theorem pM_walk_20 : alk tM_walk 20 = some (.iconst 0, 1) := (rfl)
theorem pM_walk_21 : alk tM_walk 21 = some (.goto 5, 3) := (rfl)
theorem pM_walk_24 : alk tM_walk 24 = some (.ldc 183, 2) := (rfl)
theorem pM_walk_26 : alk tM_walk 26 = some (.iastore, 1) := (rfl)
theorem pM_walk_27 : alk tM_walk 27 = some (.iinc 3 1, 3) := (rfl)
theorem pM_walk_30 : alk tM_walk 30 = some (.goto (-28), 3) := (rfl)
theorem pM_walk_33 : alk tM_walk 33 = some (.iconst 1, 1) := (rfl)
theorem pM_walk_34 : alk tM_walk 34 = some (.istore_n 3, 1) := (rfl)
theorem pM_walk_35 : alk tM_walk 35 = some (.iload_n 3, 1) := (rfl)
theorem pM_walk_36 : alk tM_walk 36 = some (.ifCond .eq 164, 3) := (rfl)
theorem pM_walk_39 : alk tM_walk 39 = some (.iconst 0, 1) := (rfl)
theorem pM_walk_40 : alk tM_walk 40 = some (.istore_n 3, 1) := (rfl)
theorem pM_walk_41 : alk tM_walk 41 = some (.iconst 0, 1) := (rfl)
theorem pM_walk_42 : alk tM_walk 42 = some (.istore 4, 2) := (rfl)
theorem pM_walk_44 : alk tM_walk 44 = some (.iload 4, 2) := (rfl)
theorem pM_walk_46 : alk tM_walk 46 = some (.aload_n 0, 1) := (rfl)
theorem pM_walk_47 : alk tM_walk 47 = some (.getfield 180, 3) := (rfl)
theorem pM_walk_50 : alk tM_walk 50 = some (.if_icmp .ge 147, 3) := (rfl)
theorem pM_walk_53 : alk tM_walk 53 = some (.aload_n 0, 1) := (rfl)
theorem pM_walk_54 : alk tM_walk 54 = some (.getfield 28, 3) := (rfl)
theorem pM_walk_57 : alk tM_walk 57 = some (.aload_n 0, 1) := (rfl)
theorem pM_walk_58 : alk tM_walk 58 = some (.getfield 22, 3) := (rfl)
theorem pM_walk_61 : alk tM_walk 61 = some (.iload 4, 2) := (rfl)
theorem pM_walk_63 : alk tM_walk 63 = some (.iaload, 1) := (rfl)
theorem pM_walk_64 : alk tM_walk 64 = some (.iaload, 1) := (rfl)
theorem pM_walk_65 : alk tM_walk 65 = some (.aload_n 0, 1) := (rfl)
theorem pM_walk_66 : alk tM_walk 66 = some (.getfield 25, 3) := (rfl)
theorem pM_walk_69 : alk tM_walk 69 = some (.iload 4, 2) := (rfl)
theorem pM_walk_71 : alk tM_walk 71 = some (.iaload, 1) := (rfl)
theorem pM_walk_72 : alk tM_walk 72 = some (.iadd, 1) := (rfl)
theorem pM_walk_73 : alk tM_walk 73 = some (.aload_n 0, 1) := (rfl)
theorem pM_walk_74 : alk tM_walk 74 = some (.getfield 28, 3) := (rfl)
theorem pM_walk_77 : alk tM_walk 77 = some (.aload_n 0, 1) := (rfl)
theorem pM_walk_78 : alk tM_walk 78 = some (.getfield 19, 3) := (rfl)
theorem pM_walk_81 : alk tM_walk 81 = some (.iload 4, 2) := (rfl)
theorem pM_walk_83 : alk tM_walk 83 = some (.iaload, 1) := (rfl)
theorem pM_walk_84 : alk tM_walk 84 = some (.iaload, 1) := (rfl)
theorem pM_walk_85 : alk tM_walk 85 = some (.if_icmp .ge 37, 3) := (rfl)
theorem pM_walk_88 : alk tM_walk 88 = some (.aload_n 0, 1) := (rfl)
theorem pM_walk_89 : alk tM_walk 89 = some (.getfield 28, 3) := (rfl)
theorem pM_walk_92 : alk tM_walk 92 = some (.aload_n 0, 1) := (rfl)
theorem pM_walk_93 : alk tM_walk 93 = some (.getfield 19, 3) := (rfl)
theorem pM_walk_96 : alk tM_walk 96 = some (.iload 4, 2) := (rfl)
theorem pM_walk_98 : alk tM_walk 98 = some (.iaload, 1) := (rfl)
theorem pM_walk_99 : alk tM_walk 99 = some (.aload_n 0, 1) := (rfl)
theorem pM_walk_100 : alk tM_walk 100 = some (.getfield 28, 3) := (rfl)
theorem pM_walk_103 : alk tM_walk 103 = some (.aload_n 0, 1) := (rfl)
theorem pM_walk_104 : alk tM_walk 104 = some (.getfield 22, 3) := (rfl)
theorem pM_walk_107 : alk tM_walk 107 = some (.iload 4, 2) := (rfl)
set_option maxRecDepth 20000 in
theorem pM_walk_109 : alk tM_walk 109 = some (.iaload, 1) := (rfl)
set_option maxRecDepth 20000 in
theorem pM_walk_110 : alk tM_walk 110 = some (.iaload, 1) := (rfl)
set_option maxRecDepth 20000 in
theorem pM_walk_111 : alk tM_walk 111 = some (.aload_n 0, 1) := (rfl)
set_option maxRecDepth 20000 in
theorem pM_walk_112 : alk tM_walk 112 = some (.getfield 25, 3) := (rfl)
set_option maxRecDepth 20000 in
theorem pM_walk_115 : alk tM_walk 115 = some (.iload 4, 2) := (rfl)
set_option maxRecDepth 20000 in
theorem pM_walk_117 : alk tM_walk 117 = some (.iaload, 1) := (rfl)
set_option maxRecDepth 20000 in
theorem pM_walk_118 : alk tM_walk 118 = some (.iadd, 1) := (rfl)
set_option maxRecDepth 20000 in
theorem pM_walk_119 : alk tM_walk 119 = some (.iastore, 1) := (rfl)
set_option maxRecDepth 20000 in
theorem pM_walk_120 : alk tM_walk 120 = some (.iconst 1, 1) := (rfl)
set_option maxRecDepth 20000 in
theorem pM_walk_121 : alk tM_walk 121 = some (.istore_n 3, 1) := (rfl)
set_option maxRecDepth 20000 in
theorem pM_walk_122 : alk tM_walk 122 = some (.aload_n 0, 1) := (rfl)
set_option maxRecDepth 20000 in
theorem pM_walk_123 : alk tM_walk 123 = some (.getfield 28, 3) := (rfl)
set_option maxRecDepth 20000 in
theorem pM_walk_126 : alk tM_walk 126 = some (.aload_n 0, 1) := (rfl)
set_option maxRecDepth 20000 in
theorem pM_walk_127 : alk tM_walk 127 = some (.getfield 19, 3) := (rfl)
set_option maxRecDepth 20000 in
theorem pM_walk_130 : alk tM_walk 130 = some (.iload 4, 2) := (rfl)
set_option maxRecDepth 20000 in
theorem pM_walk_132 : alk tM_walk 132 = some (.iaload, 1) := (rfl)
set_option maxRecDepth 20000 in
theorem pM_walk_133 : alk tM_walk 133 = some (.iaload, 1) := (rfl)
set_option maxRecDepth 20000 in
theorem pM_walk_134 : alk tM_walk 134 = some (.aload_n 0, 1) := (rfl)
set_option maxRecDepth 20000 in
theorem pM_walk_135 : alk tM_walk 135 = some (.getfield 25, 3) := (rfl)
set_option maxRecDepth 20000 in
theorem pM_walk_138 : alk tM_walk 138 = some (.iload 4, 2) := (rfl)
set_option maxRecDepth 20000 in
theorem pM_walk_140 : alk tM_walk 140 = some (.iaload, 1) := (rfl)
set_option maxRecDepth 20000 in
theorem pM_walk_141 : alk tM_walk 141 = some (.iadd, 1) := (rfl)
set_option maxRecDepth 20000 in
theorem pM_walk_142 : alk tM_walk 142 = some (.aload_n 0, 1) := (rfl)
set_option maxRecDepth 20000 in
theorem pM_walk_143 : alk tM_walk 143 = some (.getfield 28, 3) := (rfl)
set_option maxRecDepth 20000 in
theorem pM_walk_146 : alk tM_walk 146 = some (.aload_n 0, 1) := (rfl)
set_option maxRecDepth 20000 in
theorem pM_walk_147 : alk tM_walk 147 = some (.getfield 22, 3) := (rfl)
set_option maxRecDepth 20000 in
theorem pM_walk_150 : alk tM_walk 150 = some (.iload 4, 2) := (rfl)
set_option maxRecDepth 20000 in
theorem pM_walk_152 : alk tM_walk 152 = some (.iaload, 1) := (rfl)
set_option maxRecDepth 20000 in
theorem pM_walk_153 : alk tM_walk 153 = some (.iaload, 1) := (rfl)
set_option maxRecDepth 20000 in
theorem pM_walk_154 : alk tM_walk 154 = some (.if_icmp .ge 37, 3) := (rfl)
set_option maxRecDepth 20000 in
theorem pM_walk_157 : alk tM_walk 157 = some (.aload_n 0, 1) := (rfl)
set_option maxRecDepth 20000 in
theorem pM_walk_158 : alk tM_walk 158 = some (.getfield 28, 3) := (rfl)
set_option maxRecDepth 20000 in
theorem pM_walk_161 : alk tM_walk 161 = some (.aload_n 0, 1) := (rfl)
set_option maxRecDepth 20000 in
theorem pM_walk_162 : alk tM_walk 162 = some (.getfield 22, 3) := (rfl)
set_option maxRecDepth 20000 in
theorem pM_walk_165 : alk tM_walk 165 = some (.iload 4, 2) := (rfl)
set_option maxRecDepth 20000 in
theorem pM_walk_167 : alk tM_walk 167 = some (.iaload, 1) := (rfl)
set_option maxRecDepth 20000 in
theorem pM_walk_168 : alk tM_walk 168 = some (.aload_n 0, 1) := (rfl)
set_option maxRecDepth 20000 in
theorem pM_walk_169 : alk tM_walk 169 = some (.getfield 28, 3) := (rfl)
set_option maxRecDepth 20000 in
theorem pM_walk_172 : alk tM_walk 172 = some (.aload_n 0, 1) := (rfl)
set_option maxRecDepth 20000 in
theorem pM_walk_173 : alk tM_walk 173 = some (.getfield 19, 3) := (rfl)
set_option maxRecDepth 20000 in
theorem pM_walk_176 : alk tM_walk 176 = some (.iload 4, 2) := (rfl)
set_option maxRecDepth 20000 in
theorem pM_walk_178 : alk tM_walk 178 = some (.iaload, 1) := (rfl)
set_option maxRecDepth 20000 in
theorem pM_walk_179 : alk tM_walk 179 = some (.iaload, 1) := (rfl)
set_option maxRecDepth 20000 in
theorem pM_walk_180 : alk tM_walk 180 = some (.aload_n 0, 1) := (rfl)
set_option maxRecDepth 20000 in
theorem pM_walk_181 : alk tM_walk 181 = some (.getfield 25, 3) := (rfl)
set_option maxRecDepth 20000 in
theorem pM_walk_184 : alk tM_walk 184 = some (.iload 4, 2) := (rfl)
set_option maxRecDepth 20000 in
theorem pM_walk_186 : alk tM_walk 186 = some (.iaload, 1) := (rfl)
set_option maxRecDepth 20000 in
theorem pM_walk_187 : alk tM_walk 187 = some (.iadd, 1) := (rfl)
set_option maxRecDepth 20000 in
theorem pM_walk_188 : alk tM_walk 188 = some (.iastore, 1) := (rfl)
set_option maxRecDepth 20000 in
theorem pM_walk_189 : alk tM_walk 189 = some (.iconst 1, 1) := (rfl)
set_option maxRecDepth 20000 in
theorem pM_walk_190 : alk tM_walk 190 = some (.istore_n 3, 1) := (rfl)
set_option maxRecDepth 20000 in
theorem pM_walk_191 : alk tM_walk 191 = some (.iinc 4 1, 3) := (rfl)
set_option maxRecDepth 20000 in
theorem pM_walk_194 : alk tM_walk 194 = some (.goto (-150), 3) := (rfl)
set_option maxRecDepth 20000 in
theorem pM_walk_197 : alk tM_walk 197 = some (.goto (-162), 3) := (rfl)
set_option maxRecDepth 20000 in
theorem pM_walk_200 : alk tM_walk 200 = some (.aload_n 0, 1) := (rfl)
set_option maxRecDepth 20000 in
theorem pM_walk_201 : alk tM_walk 201 = some (.iconst 0, 1) := (rfl)
set_option maxRecDepth 20000 in
theorem pM_walk_202 : alk tM_walk 202 = some (.putfield 184, 3) := (rfl)
set_option maxRecDepth 20000 in
theorem pM_walk_205 : alk tM_walk 205 = some (.aload_n 0, 1) := (rfl)
set_option maxRecDepth 20000 in
theorem pM_walk_206 : alk tM_walk 206 = some (.getfield 28, 3) := (rfl)
set_option maxRecDepth 20000 in
theorem pM_walk_209 : alk tM_walk 209 = some (.iload_n 1, 1) := (rfl)
set_option maxRecDepth 20000 in
theorem pM_walk_210 : alk tM_walk 210 = some (.iaload, 1) := (rfl)
set_option maxRecDepth 20000 in
theorem pM_walk_211 : alk tM_walk 211 = some (.ldc 183, 2) := (rfl)
set_option maxRecDepth 20000 in
theorem pM_walk_213 : alk tM_walk 213 = some (.if_icmp .lt 5, 3) := (rfl)
set_option maxRecDepth 20000 in
theorem pM_walk_216 : alk tM_walk 216 = some (.iconst (-1), 1) := (rfl)
set_option maxRecDepth 20000 in
theorem pM_walk_217 : alk tM_walk 217 = some (.ireturn, 1) := (rfl)
set_option maxRecDepth 20000 in
theorem pM_walk_218 : alk tM_walk 218 = some (.iload_n 1, 1) := (rfl)
set_option maxRecDepth 20000 in
theorem pM_walk_219 : alk tM_walk 219 = some (.istore 4, 2) := (rfl)
set_option maxRecDepth 20000 in
theorem pM_walk_221 : alk tM_walk 221 = some (.iload 4, 2) := (rfl)
set_option maxRecDepth 20000 in
theorem pM_walk_223 : alk tM_walk 223 = some (.iload_n 2, 1) := (rfl)
set_option maxRecDepth 20000 in
theorem pM_walk_224 : alk tM_walk 224 = some (.if_icmp .eq 89, 3) := (rfl)
set_option maxRecDepth 20000 in
theorem pM_walk_227 : alk tM_walk 227 = some (.iconst 0, 1) := (rfl)
set_option maxRecDepth 20000 in
theorem pM_walk_228 : alk tM_walk 228 = some (.istore 5, 2) := (rfl)
set_option maxRecDepth 20000 in
theorem pM_walk_230 : alk tM_walk 230 = some (.aload_n 0, 1) := (rfl)
set_option maxRecDepth 20000 in
theorem pM_walk_231 : alk tM_walk 231 = some (.iload 5, 2) := (rfl)
set_option maxRecDepth 20000 in
theorem pM_walk_233 : alk tM_walk 233 = some (.iload 4, 2) := (rfl)
set_option maxRecDepth 20000 in
theorem pM_walk_235 : alk tM_walk 235 = some (.invokevirtual 187, 3) := (rfl)
set_option maxRecDepth 20000 in
theorem pM_walk_238 : alk tM_walk 238 = some (.iconst (-1), 1) := (rfl)
set_option maxRecDepth 20000 in
theorem pM_walk_239 : alk tM_walk 239 = some (.if_icmp .eq 34, 3) := (rfl)
set_option maxRecDepth 20000 in
theorem pM_walk_242 : alk tM_walk 242 = some (.aload_n 0, 1) := (rfl)
set_option maxRecDepth 20000 in
theorem pM_walk_243 : alk tM_walk 243 = some (.getfield 28, 3) := (rfl)
set_option maxRecDepth 20000 in
theorem pM_walk_246 : alk tM_walk 246 = some (.aload_n 0, 1) := (rfl)
set_option maxRecDepth 20000 in
theorem pM_walk_247 : alk tM_walk 247 = some (.iload 5, 2) := (rfl)
set_option maxRecDepth 20000 in
theorem pM_walk_249 : alk tM_walk 249 = some (.iload 4, 2) := (rfl)
set_option maxRecDepth 20000 in
theorem pM_walk_251 : alk tM_walk 251 = some (.invokevirtual 187, 3) := (rfl)
set_option maxRecDepth 20000 in
theorem pM_walk_254 : alk tM_walk 254 = some (.iaload, 1) := (rfl)
set_option maxRecDepth 20000 in
theorem pM_walk_255 : alk tM_walk 255 = some (.aload_n 0, 1) := (rfl)
set_option maxRecDepth 20000 in
theorem pM_walk_256 : alk tM_walk 256 = some (.getfield 25, 3) := (rfl)
set_option maxRecDepth 20000 in
theorem pM_walk_259 : alk tM_walk 259 = some (.iload 5, 2) := (rfl)
set_option maxRecDepth 20000 in
theorem pM_walk_261 : alk tM_walk 261 = some (.iaload, 1) := (rfl)
set_option maxRecDepth 20000 in
theorem pM_walk_262 : alk tM_walk 262 = some (.iadd, 1) := (rfl)
set_option maxRecDepth 20000 in
theorem pM_walk_263 : alk tM_walk 263 = some (.aload_n 0, 1) := (rfl)
set_option maxRecDepth 20000 in
theorem pM_walk_264 : alk tM_walk 264 = some (.getfield 28, 3) := (rfl)
set_option maxRecDepth 20000 in
theorem pM_walk_267 : alk tM_walk 267 = some (.iload 4, 2) := (rfl)
set_option maxRecDepth 20000 in
theorem pM_walk_269 : alk tM_walk 269 = some (.iaload, 1) := (rfl)
set_option maxRecDepth 20000 in
theorem pM_walk_270 : alk tM_walk 270 = some (.if_icmp .eq 9, 3) := (rfl)
set_option maxRecDepth 20000 in
theorem pM_walk_273 : alk tM_walk 273 = some (.iinc 5 1, 3) := (rfl)
set_option maxRecDepth 20000 in
theorem pM_walk_276 : alk tM_walk 276 = some (.goto (-46), 3) := (rfl)
set_option maxRecDepth 20000 in
theorem pM_walk_279 : alk tM_walk 279 = some (.aload_n 0, 1) := (rfl)
set_option maxRecDepth 20000 in
theorem pM_walk_280 : alk tM_walk 280 = some (.getfield 31, 3) := (rfl)
set_option maxRecDepth 20000 in
theorem pM_walk_283 : alk tM_walk 283 = some (.aload_n 0, 1) := (rfl)
set_option maxRecDepth 20000 in
theorem pM_walk_284 : alk tM_walk 284 = some (.getfield 184, 3) := (rfl)
set_option maxRecDepth 20000 in
theorem pM_walk_287 : alk tM_walk 287 = some (.iload 5, 2) := (rfl)
set_option maxRecDepth 20000 in
theorem pM_walk_289 : alk tM_walk 289 = some (.iastore, 1) := (rfl)
set_option maxRecDepth 20000 in
theorem pM_walk_290 : alk tM_walk 290 = some (.aload_n 0, 1) := (rfl)
set_option maxRecDepth 20000 in
theorem pM_walk_291 : alk tM_walk 291 = some (.dup, 1) := (rfl)
set_option maxRecDepth 20000 in
theorem pM_walk_292 : alk tM_walk 292 = some (.getfield 184, 3) := (rfl)
set_option maxRecDepth 20000 in
theorem pM_walk_295 : alk tM_walk 295 = some (.iconst 1, 1) := (rfl)
set_option maxRecDepth 20000 in
theorem pM_walk_296 : alk tM_walk 296 = some (.iadd, 1) := (rfl)
set_option maxRecDepth 20000 in
theorem pM_walk_297 : alk tM_walk 297 = some (.putfield 184, 3) := (rfl)
set_option maxRecDepth 20000 in
theorem pM_walk_300 : alk tM_walk 300 = some (.aload_n 0, 1) := (rfl)
set_option maxRecDepth 20000 in
theorem pM_walk_301 : alk tM_walk 301 = some (.iload 5, 2) := (rfl)
set_option maxRecDepth 20000 in
theorem pM_walk_303 : alk tM_walk 303 = some (.iload 4, 2) := (rfl)
set_option maxRecDepth 20000 in
theorem pM_walk_305 : alk tM_walk 305 = some (.invokevirtual 187, 3) := (rfl)
set_option maxRecDepth 20000 in
theorem pM_walk_308 : alk tM_walk 308 = some (.istore 4, 2) := (rfl)
set_option maxRecDepth 20000 in
theorem pM_walk_310 : alk tM_walk 310 = some (.goto (-89), 3) := (rfl)
set_option maxRecDepth 20000 in
theorem pM_walk_313 : alk tM_walk 313 = some (.aload_n 0, 1) := (rfl)
set_option maxRecDepth 20000 in
theorem pM_walk_314 : alk tM_walk 314 = some (.getfield 28, 3) := (rfl)
set_option maxRecDepth 20000 in
theorem pM_walk_317 : alk tM_walk 317 = some (.iload_n 1, 1) := (rfl)
set_option maxRecDepth 20000 in
theorem pM_walk_318 : alk tM_walk 318 = some (.iaload, 1) := (rfl)
set_option maxRecDepth 20000 in
theorem pM_walk_319 : alk tM_walk 319 = some (.ireturn, 1) := (rfl)
def tM_other : TB := [(0, .aload_n 0, 1), (1, .getfield 19, 3), (4, .iload_n 1, 1), (5, .iaload, 1), (6, .iload_n 2, 1), (7, .if_icmp .ne 12, 3), (10, .aload_n 0, 1), (11, .getfield 22, 3), (14, .iload_n 1, 1), (15, .iaload, 1), (16, .goto 23, 3), (19, .aload_n 0, 1), (20, .getfield 22, 3), (23, .iload_n 1, 1), (24, .iaload, 1), (25, .iload_n 2, 1), (26, .if_icmp .ne 12, 3), (29, .aload_n 0, 1), (30, .getfield 19, 3), (33, .iload_n 1, 1), (34, .iaload, 1), (35, .goto 4, 3), (38, .iconst (-1), 1), (39, .ireturn, 1)]
set_option maxRecDepth 100000 in
theorem kM_other : tbOk (mB mM_other) tM_other = true := by decide +kernel
theorem pM_other_0 : alk tM_other 0 = some (.aload_n 0, 1) := (rfl)
theorem pM_other_1 : alk tM_other 1 = some (.getfield 19, 3) := (rfl)
theorem pM_other_4 : alk tM_other 4 = some (.iload_n 1, 1) := (rfl)
theorem pM_other_5 : alk tM_other 5 = some (.iaload, 1) := (rfl)
theorem pM_other_6 : alk tM_other 6 = some (.iload_n 2, 1) := (rfl)
theorem pM_other_7 : alk tM_other 7 = some (.if_icmp .ne 12, 3) := (rfl)
theorem pM_other_10 : alk tM_other 10 = some (.aload_n 0, 1) := (rfl)
theorem pM_other_11 : alk tM_other 11 = some (.getfield 22, 3) := (rfl)
theorem pM_other_14 : alk tM_other 14 = some (.iload_n 1, 1) := (rfl)
theorem pM_other_15 : alk tM_other 15 = some (.iaload, 1) := (rfl)
theorem pM_other_16 : alk tM_other 16 = some (.goto 23, 3) := (rfl)
theorem pM_other_19 : alk tM_other 19 = some (.aload_n 0, 1) := (rfl)
theorem pM_other_20 : alk tM_other 20 = some (.getfield 22, 3) := (rfl)
theorem pM_other_23 : alk tM_other 23 = some (.iload_n 1, 1) := (rfl)
theorem pM_other_24 : alk tM_other 24 = some (.iaload, 1) := (rfl)
theorem pM_other_25 : alk tM_other 25 = some (.iload_n 2, 1) := (rfl)
theorem pM_other_26 : alk tM_other 26 = some (.if_icmp .ne 12, 3) := (rfl)
theorem pM_other_29 : alk tM_other 29 = some (.aload_n 0, 1) := (rfl)
theorem pM_other_30 : alk tM_other 30 = some (.getfield 19, 3) := (rfl)
theorem pM_other_33 : alk tM_other 33 = some (.iload_n 1, 1) := (rfl)
theorem pM_other_34 : alk tM_other 34 = some (.iaload, 1) := (rfl)
theorem pM_other_35 : alk tM_other 35 = some (.goto 4, 3) := (rfl)
theorem pM_other_38 : alk tM_other 38 = some (.iconst (-1), 1) := (rfl)
theorem pM_other_39 : alk tM_other 39 = some (.ireturn, 1) := (rfl)
def tM_by : TB := [(0, .aload_n 0, 1), (1, .iload_n 1, 1), (2, .invokevirtual 176, 3), (5, .ifCond .eq 35, 3), (8, .aload_n 0, 1), (9, .iload_n 2, 1), (10, .invokevirtual 176, 3), (13, .ifCond .eq 27, 3), (16, .aload_n 0, 1), (17, .iload_n 1, 1), (18, .iload_n 2, 1), (19, .invokevirtual 191, 3), (22, .iconst (-1), 1), (23, .if_icmp .eq 17, 3), (26, .iload_n 3, 1), (27, .iconst 0, 1), (28, .aload_n 0, 1), (29, .getfield 184, 3), (32, .iconst 1, 1), (33, .isub, 1), (34, .invokestatic 165, 3), (37, .ifCond .ne 10, 3), (40, .aload_n 0, 1), (41, .bipush (-3), 2), (43, .invokevirtual 169, 3), (46, .ireturn, 1), (47, .aload_n 0, 1), (48, .getfield 31, 3), (51, .iload_n 3, 1), (52, .iaload, 1), (53, .ireturn, 1)]
set_option maxRecDepth 100000 in
theorem kM_by : tbOk (mB mM_by) tM_by = true := by decide +kernel
theorem pM_by_0 : alk tM_by 0 = some (.aload_n 0, 1) := (rfl)
theorem pM_by_1 : alk tM_by 1 = some (.iload_n 1, 1) := (rfl)
theorem pM_by_2 : alk tM_by 2 = some (.invokevirtual 176, 3) := (rfl)
theorem pM_by_5 : alk tM_by 5 = some (.ifCond .eq 35, 3) := (rfl)
theorem pM_by_8 : alk tM_by 8 = some (.aload_n 0, 1) := (rfl)
theorem pM_by_9 : alk tM_by 9 = some (.iload_n 2, 1) := (rfl)
theorem pM_by_10 : alk tM_by 10 = some (.invokevirtual 176, 3) := (rfl)
theorem pM_by_13 : alk tM_by 13 = some (.ifCond .eq 27, 3) := (rfl)
theorem pM_by_16 : alk tM_by 16 = some (.aload_n 0, 1) := (rfl)
theorem pM_by_17 : alk tM_by 17 = some (.iload_n 1, 1) := (rfl)
theorem pM_by_18 : alk tM_by 18 = some (.iload_n 2, 1) := (rfl)
theorem pM_by_19 : alk tM_by 19 = some (.invokevirtual 191, 3) := (rfl)
theorem pM_by_22 : alk tM_by 22 = some (.iconst (-1), 1) := (rfl)
theorem pM_by_23 : alk tM_by 23 = some (.if_icmp .eq 17, 3) := (rfl)
theorem pM_by_26 : alk tM_by 26 = some (.iload_n 3, 1) := (rfl)
theorem pM_by_27 : alk tM_by 27 = some (.iconst 0, 1) := (rfl)
theorem pM_by_28 : alk tM_by 28 = some (.aload_n 0, 1) := (rfl)
theorem pM_by_29 : alk tM_by 29 = some (.getfield 184, 3) := (rfl)
theorem pM_by_32 : alk tM_by 32 = some (.iconst 1, 1) := (rfl)
theorem pM_by_33 : alk tM_by 33 = some (.isub, 1) := (rfl)
theorem pM_by_34 : alk tM_by 34 = some (.invokestatic 165, 3) := (rfl)
theorem pM_by_37 : alk tM_by 37 = some (.ifCond .ne 10, 3) := (rfl)
theorem pM_by_40 : alk tM_by 40 = some (.aload_n 0, 1) := (rfl)
theorem pM_by_41 : alk tM_by 41 = some (.bipush (-3), 2) := (rfl)
theorem pM_by_43 : alk tM_by 43 = some (.invokevirtual 169, 3) := (rfl)
theorem pM_by_46 : alk tM_by 46 = some (.ireturn, 1) := (rfl)
theorem pM_by_47 : alk tM_by 47 = some (.aload_n 0, 1) := (rfl)
theorem pM_by_48 : alk tM_by 48 = some (.getfield 31, 3) := (rfl)
theorem pM_by_51 : alk tM_by 51 = some (.iload_n 3, 1) := (rfl)
theorem pM_by_52 : alk tM_by 52 = some (.iaload, 1) := (rfl)
theorem pM_by_53 : alk tM_by 53 = some (.ireturn, 1) := (rfl)
def tM_lot : TB := [(0, .aload_n 0, 1), (1, .iload_n 1, 1), (2, .invokevirtual 176, 3), (5, .ifCond .eq 16, 3), (8, .iload_n 2, 1), (9, .ifCond .lt 12, 3), (12, .iload_n 2, 1), (13, .bipush 10, 2), (15, .irem, 1), (16, .bipush 6, 2), (18, .if_icmp .lt 10, 3), (21, .aload_n 0, 1), (22, .bipush (-3), 2), (24, .invokevirtual 169, 3), (27, .ireturn, 1), (28, .aload_n 0, 1), (29, .getfield 13, 3), (32, .iload_n 1, 1), (33, .iaload, 1), (34, .ifCond .eq 10, 3), (37, .aload_n 0, 1), (38, .bipush (-5), 2), (40, .invokevirtual 169, 3), (43, .ireturn, 1), (44, .iload_n 2, 1), (45, .bipush 10, 2), (47, .idiv, 1), (48, .iconst 3, 1), (49, .if_icmp .gt 66, 3), (52, .iload_n 3, 1), (53, .ifCond .lt 62, 3), (56, .iload_n 3, 1), (57, .sipush 10000, 3), (60, .idiv, 1), (61, .iconst 1, 1), (62, .sipush 200, 3), (65, .invokestatic 165, 3), (68, .ifCond .eq 47, 3), (71, .iload_n 3, 1), (72, .sipush 10000, 3), (75, .irem, 1), (76, .bipush 100, 2), (78, .sipush 2000, 3), (81, .invokestatic 165, 3), (84, .ifCond .eq 31, 3), (87, .iload 4, 2), (89, .invokestatic 209, 3), (92, .ifCond .eq 23, 3), (95, .iload 5, 2), (97, .iconst 0, 1), (98, .sipush 5000, 3), (101, .invokestatic 165, 3), (104, .ifCond .eq 11, 3), (107, .aload_n 0, 1), (108, .iload_n 1, 1), (109, .invokevirtual 212, 3), (112, .ifCond .eq 10, 3), (115, .aload_n 0, 1), (116, .bipush (-7), 2), (118, .invokevirtual 169, 3), (121, .ireturn, 1), (122, .aload_n 0, 1), (123, .getfield 206, 3), (126, .bipush 24, 2), (128, .if_icmp .ne 10, 3), (131, .aload_n 0, 1), (132, .bipush (-8), 2), (134, .invokevirtual 169, 3), (137, .ireturn, 1), (138, .aload_n 0, 1), (139, .iload_n 2, 1), (140, .bipush 10, 2), (142, .idiv, 1), (143, .iload_n 2, 1), (144, .bipush 10, 2), (146, .irem, 1), (147, .iload_n 3, 1), (148, .sipush 10000, 3), (151, .idiv, 1), (152, .iload_n 3, 1), (153, .sipush 10000, 3), (156, .irem, 1), (157, .iload 4, 2), (159, .iload_n 1, 1), (160, .aload_n 0, 1), (161, .getfield 200, 3), (164, .iload 5, 2), (166, .isub, 1), (167, .invokevirtual 215, 3), (170, .ireturn, 1)]
set_option maxRecDepth 100000 in
theorem kM_lot : tbOk (mB mM_lot) tM_lot = true := by decide +kernel
theorem pM_lot_0 : alk tM_lot 0 = some (.aload_n 0, 1) := (rfl)
theorem pM_lot_1 : alk tM_lot 1 = some (.iload_n 1, 1) := (rfl)
theorem pM_lot_2 : alk tM_lot 2 = some (.invokevirtual 176, 3) := (rfl)
theorem pM_lot_5 : alk tM_lot 5 = some (.ifCond .eq 16, 3) := (rfl)
theorem pM_lot_8 : alk tM_lot 8 = some (.iload_n 2, 1) := (rfl)
theorem pM_lot_9 : alk tM_lot 9 = some (.ifCond .lt 12, 3) := (rfl)
theorem pM_lot_12 : alk tM_lot 12 = some (.iload_n 2, 1) := (rfl)
theorem pM_lot_13 : alk tM_lot 13 = some (.bipush 10, 2) := (rfl)
theorem pM_lot_15 : alk tM_lot 15 = some (.irem, 1) := (rfl)
theorem pM_lot_16 : alk tM_lot 16 = some (.bipush 6, 2) := (rfl)
theorem pM_lot_18 : alk tM_lot 18 = some (.if_icmp .lt 10, 3) := (rfl)
theorem pM_lot_21 : alk tM_lot 21 = some (.aload_n 0, 1) := (rfl)
theorem pM_lot_22 : alk tM_lot 22 = some (.bipush (-3), 2) := (rfl)
theorem pM_lot_24 : alk tM_lot 24 = some (.invokevirtual 169, 3) := (rfl)
theorem pM_lot_27 : alk tM_lot 27 = some (.ireturn, 1) := (rfl)
theorem pM_lot_28 : alk tM_lot 28 = some (.aload_n 0, 1) := (rfl)
theorem pM_lot_29 : alk tM_lot 29 = some (.getfield 13, 3) := (rfl)
theorem pM_lot_32 : alk tM_lot 32 = some (.iload_n 1, 1) := (rfl)
theorem pM_lot_33 : alk tM_lot 33 = some (.iaload, 1) := (rfl)
theorem pM_lot_34 : alk tM_lot 34 = some (.ifCond .eq 10, 3) := (rfl)
theorem pM_lot_37 : alk tM_lot 37 = some (.aload_n 0, 1) := (rfl)
theorem pM_lot_38 : alk tM_lot 38 = some (.bipush (-5), 2) := (rfl)
theorem pM_lot_40 : alk tM_lot 40 = some (.invokevirtual 169, 3) := (rfl)
theorem pM_lot_43 : alk tM_lot 43 = some (.ireturn, 1) := (rfl)
theorem pM_lot_44 : alk tM_lot 44 = some (.iload_n 2, 1) := (rfl)
theorem pM_lot_45 : alk tM_lot 45 = some (.bipush 10, 2) := (rfl)
theorem pM_lot_47 : alk tM_lot 47 = some (.idiv, 1) := (rfl)
theorem pM_lot_48 : alk tM_lot 48 = some (.iconst 3, 1) := (rfl)
theorem pM_lot_49 : alk tM_lot 49 = some (.if_icmp .gt 66, 3) := (rfl)
theorem pM_lot_52 : alk tM_lot 52 = some (.iload_n 3, 1) := (rfl)
theorem pM_lot_53 : alk tM_lot 53 = some (.ifCond .lt 62, 3) := (rfl)
theorem pM_lot_56 : alk tM_lot 56 = some (.iload_n 3, 1) := (rfl)
theorem pM_lot_57 : alk tM_lot 57 = some (.sipush 10000, 3) := (rfl)
theorem pM_lot_60 : alk tM_lot 60 = some (.idiv, 1) := (rfl)
theorem pM_lot_61 : alk tM_lot 61 = some (.iconst 1, 1) := (rfl)
theorem pM_lot_62 : alk tM_lot 62 = some (.sipush 200, 3) := (rfl)
theorem pM_lot_65 : alk tM_lot 65 = some (.invokestatic 165, 3) := (rfl)
theorem pM_lot_68 : alk tM_lot 68 = some (.ifCond .eq 47, 3) := (rfl)
theorem pM_lot_71 : alk tM_lot 71 = some (.iload_n 3, 1) := (rfl)
theorem pM_lot_72 : alk tM_lot 72 = some (.sipush 10000, 3) := (rfl)
theorem pM_lot_75 : alk tM_lot 75 = some (.irem, 1) := (rfl)
theorem pM_lot_76 : alk tM_lot 76 = some (.bipush 100, 2) := (rfl)
theorem pM_lot_78 : alk tM_lot 78 = some (.sipush 2000, 3) := (rfl)
theorem pM_lot_81 : alk tM_lot 81 = some (.invokestatic 165, 3) := (rfl)
theorem pM_lot_84 : alk tM_lot 84 = some (.ifCond .eq 31, 3) := (rfl)
theorem pM_lot_87 : alk tM_lot 87 = some (.iload 4, 2) := (rfl)
theorem pM_lot_89 : alk tM_lot 89 = some (.invokestatic 209, 3) := (rfl)
theorem pM_lot_92 : alk tM_lot 92 = some (.ifCond .eq 23, 3) := (rfl)
theorem pM_lot_95 : alk tM_lot 95 = some (.iload 5, 2) := (rfl)
theorem pM_lot_97 : alk tM_lot 97 = some (.iconst 0, 1) := (rfl)
theorem pM_lot_98 : alk tM_lot 98 = some (.sipush 5000, 3) := (rfl)
theorem pM_lot_101 : alk tM_lot 101 = some (.invokestatic 165, 3) := (rfl)
theorem pM_lot_104 : alk tM_lot 104 = some (.ifCond .eq 11, 3) := (rfl)
theorem pM_lot_107 : alk tM_lot 107 = some (.aload_n 0, 1) := (rfl)
theorem pM_lot_108 : alk tM_lot 108 = some (.iload_n 1, 1) := (rfl)
theorem pM_lot_109 : alk tM_lot 109 = some (.invokevirtual 212, 3) := (rfl)
theorem pM_lot_112 : alk tM_lot 112 = some (.ifCond .eq 10, 3) := (rfl)
theorem pM_lot_115 : alk tM_lot 115 = some (.aload_n 0, 1) := (rfl)
theorem pM_lot_116 : alk tM_lot 116 = some (.bipush (-7), 2) := (rfl)
theorem pM_lot_118 : alk tM_lot 118 = some (.invokevirtual 169, 3) := (rfl)
theorem pM_lot_121 : alk tM_lot 121 = some (.ireturn, 1) := (rfl)
set_option maxRecDepth 20000 in
theorem pM_lot_122 : alk tM_lot 122 = some (.aload_n 0, 1) := (rfl)
set_option maxRecDepth 20000 in
theorem pM_lot_123 : alk tM_lot 123 = some (.getfield 206, 3) := (rfl)
set_option maxRecDepth 20000 in
theorem pM_lot_126 : alk tM_lot 126 = some (.bipush 24, 2) := (rfl)
set_option maxRecDepth 20000 in
theorem pM_lot_128 : alk tM_lot 128 = some (.if_icmp .ne 10, 3) := (rfl)
set_option maxRecDepth 20000 in
theorem pM_lot_131 : alk tM_lot 131 = some (.aload_n 0, 1) := (rfl)
set_option maxRecDepth 20000 in
theorem pM_lot_132 : alk tM_lot 132 = some (.bipush (-8), 2) := (rfl)
set_option maxRecDepth 20000 in
theorem pM_lot_134 : alk tM_lot 134 = some (.invokevirtual 169, 3) := (rfl)
set_option maxRecDepth 20000 in
theorem pM_lot_137 : alk tM_lot 137 = some (.ireturn, 1) := (rfl)
set_option maxRecDepth 20000 in
theorem pM_lot_138 : alk tM_lot 138 = some (.aload_n 0, 1) := (rfl)
set_option maxRecDepth 20000 in
theorem pM_lot_139 : alk tM_lot 139 = some (.iload_n 2, 1) := (rfl)
set_option maxRecDepth 20000 in
theorem pM_lot_140 : alk tM_lot 140 = some (.bipush 10, 2) := (rfl)
set_option maxRecDepth 20000 in
theorem pM_lot_142 : alk tM_lot 142 = some (.idiv, 1) := (rfl)
set_option maxRecDepth 20000 in
theorem pM_lot_143 : alk tM_lot 143 = some (.iload_n 2, 1) := (rfl)
set_option maxRecDepth 20000 in
theorem pM_lot_144 : alk tM_lot 144 = some (.bipush 10, 2) := (rfl)
set_option maxRecDepth 20000 in
theorem pM_lot_146 : alk tM_lot 146 = some (.irem, 1) := (rfl)
set_option maxRecDepth 20000 in
theorem pM_lot_147 : alk tM_lot 147 = some (.iload_n 3, 1) := (rfl)
set_option maxRecDepth 20000 in
theorem pM_lot_148 : alk tM_lot 148 = some (.sipush 10000, 3) := (rfl)
set_option maxRecDepth 20000 in
theorem pM_lot_151 : alk tM_lot 151 = some (.idiv, 1) := (rfl)
set_option maxRecDepth 20000 in
theorem pM_lot_152 : alk tM_lot 152 = some (.iload_n 3, 1) := (rfl)
set_option maxRecDepth 20000 in
theorem pM_lot_153 : alk tM_lot 153 = some (.sipush 10000, 3) := (rfl)
set_option maxRecDepth 20000 in
theorem pM_lot_156 : alk tM_lot 156 = some (.irem, 1) := (rfl)
set_option maxRecDepth 20000 in
theorem pM_lot_157 : alk tM_lot 157 = some (.iload 4, 2) := (rfl)
set_option maxRecDepth 20000 in
theorem pM_lot_159 : alk tM_lot 159 = some (.iload_n 1, 1) := (rfl)
set_option maxRecDepth 20000 in
theorem pM_lot_160 : alk tM_lot 160 = some (.aload_n 0, 1) := (rfl)
set_option maxRecDepth 20000 in
theorem pM_lot_161 : alk tM_lot 161 = some (.getfield 200, 3) := (rfl)
set_option maxRecDepth 20000 in
theorem pM_lot_164 : alk tM_lot 164 = some (.iload 5, 2) := (rfl)
set_option maxRecDepth 20000 in
theorem pM_lot_166 : alk tM_lot 166 = some (.isub, 1) := (rfl)
set_option maxRecDepth 20000 in
theorem pM_lot_167 : alk tM_lot 167 = some (.invokevirtual 215, 3) := (rfl)
set_option maxRecDepth 20000 in
theorem pM_lot_170 : alk tM_lot 170 = some (.ireturn, 1) := (rfl)
def tM_isMark : TB := [(0, .iload_n 0, 1), (1, .iconst 0, 1), (2, .sipush 9999, 3), (5, .invokestatic 165, 3), (8, .ireturn, 1)]
set_option maxRecDepth 100000 in
theorem kM_isMark : tbOk (mB mM_isMark) tM_isMark = true := by decide +kernel
theorem pM_isMark_0 : alk tM_isMark 0 = some (.iload_n 0, 1) := (rfl)
theorem pM_isMark_1 : alk tM_isMark 1 = some (.iconst 0, 1) := (rfl)
theorem pM_isMark_2 : alk tM_isMark 2 = some (.sipush 9999, 3) := (rfl)
theorem pM_isMark_5 : alk tM_isMark 5 = some (.invokestatic 165, 3) := (rfl)
theorem pM_isMark_8 : alk tM_isMark 8 = some (.ireturn, 1) := (rfl)
def tM_isTaken : TB := [(0, .iconst 0, 1), (1, .istore_n 2, 1), (2, .iconst 0, 1), (3, .istore_n 3, 1), (4, .iload_n 3, 1), (5, .aload_n 0, 1), (6, .getfield 206, 3), (9, .if_icmp .ge 49, 3), (12, .aload_n 0, 1), (13, .getfield 13, 3), (16, .iload_n 1, 1), (17, .iaload, 1), (18, .iconst 3, 1), (19, .if_icmp .eq 39, 3), (22, .iload_n 2, 1), (23, .ifCond .ne 23, 3), (26, .aload_n 0, 1), (27, .getfield 58, 3), (30, .iload_n 3, 1), (31, .iaload, 1), (32, .iload_n 1, 1), (33, .if_icmp .eq 13, 3), (36, .aload_n 0, 1), (37, .getfield 61, 3), (40, .iload_n 3, 1), (41, .iaload, 1), (42, .iload_n 1, 1), (43, .if_icmp .ne 7, 3), (46, .iconst 1, 1), (47, .goto 4, 3), (50, .iconst 0, 1), (51, .istore_n 2, 1), (52, .iinc 3 1, 3), (55, .goto (-51), 3), (58, .iload_n 2, 1), (59, .ireturn, 1)]
set_option maxRecDepth 100000 in
theorem kM_isTaken : tbOk (mB mM_isTaken) tM_isTaken = true := by decide +kernel
theorem pM_isTaken_0 : alk tM_isTaken 0 = some (.iconst 0, 1) := (rfl)
theorem pM_isTaken_1 : alk tM_isTaken 1 = some (.istore_n 2, 1) := (rfl)
theorem pM_isTaken_2 : alk tM_isTaken 2 = some (.iconst 0, 1) := (rfl)
theorem pM_isTaken_3 : alk tM_isTaken 3 = some (.istore_n 3, 1) := (rfl)
theorem pM_isTaken_4 : alk tM_isTaken 4 = some (.iload_n 3, 1) := (rfl)
theorem pM_isTaken_5 : alk tM_isTaken 5 = some (.aload_n 0, 1) := (rfl)
theorem pM_isTaken_6 : alk tM_isTaken 6 = some (.getfield 206, 3) := (rfl)
theorem pM_isTaken_9 : alk tM_isTaken 9 = some (.if_icmp .ge 49, 3) := (rfl)
theorem pM_isTaken_12 : alk tM_isTaken 12 = some (.aload_n 0, 1) := (rfl)
theorem pM_isTaken_13 : alk tM_isTaken 13 = some (.getfield 13, 3) := (rfl)
theorem pM_isTaken_16 : alk tM_isTaken 16 = some (.iload_n 1, 1) := (rfl)
theorem pM_isTaken_17 : alk tM_isTaken 17 = some (.iaload, 1) := (rfl)
theorem pM_isTaken_18 : alk tM_isTaken 18 = some (.iconst 3, 1) := (rfl)
theorem pM_isTaken_19 : alk tM_isTaken 19 = some (.if_icmp .eq 39, 3) := (rfl)
theorem pM_isTaken_22 : alk tM_isTaken 22 = some (.iload_n 2, 1) := (rfl)
theorem pM_isTaken_23 : alk tM_isTaken 23 = some (.ifCond .ne 23, 3) := (rfl)
theorem pM_isTaken_26 : alk tM_isTaken 26 = some (.aload_n 0, 1) := (rfl)
theorem pM_isTaken_27 : alk tM_isTaken 27 = some (.getfield 58, 3) := (rfl)
theorem pM_isTaken_30 : alk tM_isTaken 30 = some (.iload_n 3, 1) := (rfl)
theorem pM_isTaken_31 : alk tM_isTaken 31 = some (.iaload, 1) := (rfl)
theorem pM_isTaken_32 : alk tM_isTaken 32 = some (.iload_n 1, 1) := (rfl)
theorem pM_isTaken_33 : alk tM_isTaken 33 = some (.if_icmp .eq 13, 3) := (rfl)
theorem pM_isTaken_36 : alk tM_isTaken 36 = some (.aload_n 0, 1) := (rfl)
theorem pM_isTaken_37 : alk tM_isTaken 37 = some (.getfield 61, 3) := (rfl)
theorem pM_isTaken_40 : alk tM_isTaken 40 = some (.iload_n 3, 1) := (rfl)
theorem pM_isTaken_41 : alk tM_isTaken 41 = some (.iaload, 1) := (rfl)
theorem pM_isTaken_42 : alk tM_isTaken 42 = some (.iload_n 1, 1) := (rfl)
theorem pM_isTaken_43 : alk tM_isTaken 43 = some (.if_icmp .ne 7, 3) := (rfl)
theorem pM_isTaken_46 : alk tM_isTaken 46 = some (.iconst 1, 1) := (rfl)
theorem pM_isTaken_47 : alk tM_isTaken 47 = some (.goto 4, 3) := (rfl)
theorem pM_isTaken_50 : alk tM_isTaken 50 = some (.iconst 0, 1) := (rfl)
theorem pM_isTaken_51 : alk tM_isTaken 51 = some (.istore_n 2, 1) := (rfl)
theorem pM_isTaken_52 : alk tM_isTaken 52 = some (.iinc 3 1, 3) := (rfl)
theorem pM_isTaken_55 : alk tM_isTaken 55 = some (.goto (-51), 3) := (rfl)
theorem pM_isTaken_58 : alk tM_isTaken 58 = some (.iload_n 2, 1) := (rfl)
theorem pM_isTaken_59 : alk tM_isTaken 59 = some (.ireturn, 1) := (rfl)
def tM_comes : TB := [(0, .aload_n 0, 1), (1, .getfield 43, 3), (4, .aload_n 0, 1), (5, .getfield 206, 3), (8, .iload_n 1, 1), (9, .iastore, 1), (10, .aload_n 0, 1), (11, .getfield 46, 3), (14, .aload_n 0, 1), (15, .getfield 206, 3), (18, .iload_n 2, 1), (19, .iastore, 1), (20, .aload_n 0, 1), (21, .getfield 49, 3), (24, .aload_n 0, 1), (25, .getfield 206, 3), (28, .iload_n 3, 1), (29, .iastore, 1), (30, .aload_n 0, 1), (31, .getfield 52, 3), (34, .aload_n 0, 1), (35, .getfield 206, 3), (38, .iload 4, 2), (40, .iastore, 1), (41, .aload_n 0, 1), (42, .getfield 55, 3), (45, .aload_n 0, 1), (46, .getfield 206, 3), (49, .iload 5, 2), (51, .iastore, 1), (52, .aload_n 0, 1), (53, .getfield 58, 3), (56, .aload_n 0, 1), (57, .getfield 206, 3), (60, .iload 6, 2), (62, .iastore, 1), (63, .aload_n 0, 1), (64, .getfield 61, 3), (67, .aload_n 0, 1), (68, .getfield 206, 3), (71, .iconst (-1), 1), (72, .iastore, 1), (73, .aload_n 0, 1), (74, .getfield 64, 3), (77, .aload_n 0, 1), (78, .getfield 206, 3), (81, .iconst (-1), 1), (82, .iastore, 1), (83, .aload_n 0, 1), (84, .getfield 67, 3), (87, .aload_n 0, 1), (88, .getfield 206, 3), (91, .iload 7, 2), (93, .iastore, 1), (94, .aload_n 0, 1), (95, .getfield 70, 3), (98, .aload_n 0, 1), (99, .getfield 206, 3), (102, .iconst 0, 1), (103, .bastore, 1), (104, .aload_n 0, 1), (105, .getfield 74, 3), (108, .aload_n 0, 1), (109, .getfield 206, 3), (112, .iconst (-1), 1), (113, .iastore, 1), (114, .aload_n 0, 1), (115, .getfield 80, 3), (118, .aload_n 0, 1), (119, .getfield 206, 3), (122, .iconst 0, 1), (123, .bastore, 1), (124, .aload_n 0, 1), (125, .getfield 83, 3), (128, .aload_n 0, 1), (129, .getfield 206, 3), (132, .iconst (-1), 1), (133, .iastore, 1), (134, .aload_n 0, 1), (135, .getfield 92, 3), (138, .aload_n 0, 1), (139, .getfield 206, 3), (142, .iconst (-1), 1), (143, .iastore, 1), (144, .aload_n 0, 1), (145, .getfield 104, 3), (148, .aload_n 0, 1), (149, .getfield 206, 3), (152, .iconst 0, 1), (153, .bastore, 1), (154, .iconst 0, 1), (155, .istore 8, 2), (157, .iload 8, 2), (159, .iconst 5, 1), (160, .if_icmp .ge 39, 3), (163, .aload_n 0, 1), (164, .getfield 95, 3), (167, .iconst 5, 1), (168, .aload_n 0, 1), (169, .getfield 206, 3), (172, .imul, 1), (173, .iload 8, 2), (175, .iadd, 1), (176, .iconst 0, 1), (177, .bastore, 1), (178, .aload_n 0, 1), (179, .getfield 98, 3), (182, .iconst 5, 1), (183, .aload_n 0, 1), (184, .getfield 206, 3), (187, .imul, 1), (188, .iload 8, 2), (190, .iadd, 1), (191, .iconst 0, 1), (192, .iastore, 1), (193, .iinc 8 1, 3), (196, .goto (-39), 3), (199, .aload_n 0, 1), (200, .dup, 1), (201, .getfield 206, 3), (204, .iconst 1, 1), (205, .iadd, 1), (206, .putfield 206, 3), (209, .aload_n 0, 1), (210, .getfield 206, 3), (213, .iconst 1, 1), (214, .isub, 1), (215, .ireturn, 1)]
set_option maxRecDepth 100000 in
theorem kM_comes : tbOk (mB mM_comes) tM_comes = true := by decide +kernel
theorem pM_comes_0 : alk tM_comes 0 = some (.aload_n 0, 1) := (rfl)
theorem pM_comes_1 : alk tM_comes 1 = some (.getfield 43, 3) := (rfl)
theorem pM_comes_4 : alk tM_comes 4 = some (.aload_n 0, 1) := (rfl)
theorem pM_comes_5 : alk tM_comes 5 = some (.getfield 206, 3) := (rfl)
theorem pM_comes_8 : alk tM_comes 8 = some (.iload_n 1, 1) := (rfl)
theorem pM_comes_9 : alk tM_comes 9 = some (.iastore, 1) := (rfl)
theorem pM_comes_10 : alk tM_comes 10 = some (.aload_n 0, 1) := (rfl)
theorem pM_comes_11 : alk tM_comes 11 = some (.getfield 46, 3) := (rfl)
theorem pM_comes_14 : alk tM_comes 14 = some (.aload_n 0, 1) := (rfl)
theorem pM_comes_15 : alk tM_comes 15 = some (.getfield 206, 3) := (rfl)
theorem pM_comes_18 : alk tM_comes 18 = some (.iload_n 2, 1) := (rfl)
theorem pM_comes_19 : alk tM_comes 19 = some (.iastore, 1) := (rfl)
theorem pM_comes_20 : alk tM_comes 20 = some (.aload_n 0, 1) := (rfl)
theorem pM_comes_21 : alk tM_comes 21 = some (.getfield 49, 3) := (rfl)
theorem pM_comes_24 : alk tM_comes 24 = some (.aload_n 0, 1) := (rfl)
theorem pM_comes_25 : alk tM_comes 25 = some (.getfield 206, 3) := (rfl)
theorem pM_comes_28 : alk tM_comes 28 = some (.iload_n 3, 1) := (rfl)
theorem pM_comes_29 : alk tM_comes 29 = some (.iastore, 1) := (rfl)
theorem pM_comes_30 : alk tM_comes 30 = some (.aload_n 0, 1) := (rfl)
theorem pM_comes_31 : alk tM_comes 31 = some (.getfield 52, 3) := (rfl)
theorem pM_comes_34 : alk tM_comes 34 = some (.aload_n 0, 1) := (rfl)
theorem pM_comes_35 : alk tM_comes 35 = some (.getfield 206, 3) := (rfl)
theorem pM_comes_38 : alk tM_comes 38 = some (.iload 4, 2) := (rfl)
theorem pM_comes_40 : alk tM_comes 40 = some (.iastore, 1) := (rfl)
theorem pM_comes_41 : alk tM_comes 41 = some (.aload_n 0, 1) := (rfl)
theorem pM_comes_42 : alk tM_comes 42 = some (.getfield 55, 3) := (rfl)
theorem pM_comes_45 : alk tM_comes 45 = some (.aload_n 0, 1) := (rfl)
theorem pM_comes_46 : alk tM_comes 46 = some (.getfield 206, 3) := (rfl)
theorem pM_comes_49 : alk tM_comes 49 = some (.iload 5, 2) := (rfl)
theorem pM_comes_51 : alk tM_comes 51 = some (.iastore, 1) := (rfl)
theorem pM_comes_52 : alk tM_comes 52 = some (.aload_n 0, 1) := (rfl)
theorem pM_comes_53 : alk tM_comes 53 = some (.getfield 58, 3) := (rfl)
theorem pM_comes_56 : alk tM_comes 56 = some (.aload_n 0, 1) := (rfl)
theorem pM_comes_57 : alk tM_comes 57 = some (.getfield 206, 3) := (rfl)
theorem pM_comes_60 : alk tM_comes 60 = some (.iload 6, 2) := (rfl)
theorem pM_comes_62 : alk tM_comes 62 = some (.iastore, 1) := (rfl)
theorem pM_comes_63 : alk tM_comes 63 = some (.aload_n 0, 1) := (rfl)
theorem pM_comes_64 : alk tM_comes 64 = some (.getfield 61, 3) := (rfl)
theorem pM_comes_67 : alk tM_comes 67 = some (.aload_n 0, 1) := (rfl)
theorem pM_comes_68 : alk tM_comes 68 = some (.getfield 206, 3) := (rfl)
theorem pM_comes_71 : alk tM_comes 71 = some (.iconst (-1), 1) := (rfl)
theorem pM_comes_72 : alk tM_comes 72 = some (.iastore, 1) := (rfl)
theorem pM_comes_73 : alk tM_comes 73 = some (.aload_n 0, 1) := (rfl)
theorem pM_comes_74 : alk tM_comes 74 = some (.getfield 64, 3) := (rfl)
theorem pM_comes_77 : alk tM_comes 77 = some (.aload_n 0, 1) := (rfl)
theorem pM_comes_78 : alk tM_comes 78 = some (.getfield 206, 3) := (rfl)
theorem pM_comes_81 : alk tM_comes 81 = some (.iconst (-1), 1) := (rfl)
theorem pM_comes_82 : alk tM_comes 82 = some (.iastore, 1) := (rfl)
theorem pM_comes_83 : alk tM_comes 83 = some (.aload_n 0, 1) := (rfl)
theorem pM_comes_84 : alk tM_comes 84 = some (.getfield 67, 3) := (rfl)
theorem pM_comes_87 : alk tM_comes 87 = some (.aload_n 0, 1) := (rfl)
theorem pM_comes_88 : alk tM_comes 88 = some (.getfield 206, 3) := (rfl)
theorem pM_comes_91 : alk tM_comes 91 = some (.iload 7, 2) := (rfl)
theorem pM_comes_93 : alk tM_comes 93 = some (.iastore, 1) := (rfl)
theorem pM_comes_94 : alk tM_comes 94 = some (.aload_n 0, 1) := (rfl)
theorem pM_comes_95 : alk tM_comes 95 = some (.getfield 70, 3) := (rfl)
theorem pM_comes_98 : alk tM_comes 98 = some (.aload_n 0, 1) := (rfl)
theorem pM_comes_99 : alk tM_comes 99 = some (.getfield 206, 3) := (rfl)
theorem pM_comes_102 : alk tM_comes 102 = some (.iconst 0, 1) := (rfl)
theorem pM_comes_103 : alk tM_comes 103 = some (.bastore, 1) := (rfl)
theorem pM_comes_104 : alk tM_comes 104 = some (.aload_n 0, 1) := (rfl)
set_option maxRecDepth 20000 in
theorem pM_comes_105 : alk tM_comes 105 = some (.getfield 74, 3) := (rfl)
set_option maxRecDepth 20000 in
theorem pM_comes_108 : alk tM_comes 108 = some (.aload_n 0, 1) := (rfl)
set_option maxRecDepth 20000 in
theorem pM_comes_109 : alk tM_comes 109 = some (.getfield 206, 3) := (rfl)
set_option maxRecDepth 20000 in
theorem pM_comes_112 : alk tM_comes 112 = some (.iconst (-1), 1) := (rfl)
set_option maxRecDepth 20000 in
theorem pM_comes_113 : alk tM_comes 113 = some (.iastore, 1) := (rfl)
set_option maxRecDepth 20000 in
theorem pM_comes_114 : alk tM_comes 114 = some (.aload_n 0, 1) := (rfl)
set_option maxRecDepth 20000 in
theorem pM_comes_115 : alk tM_comes 115 = some (.getfield 80, 3) := (rfl)
set_option maxRecDepth 20000 in
theorem pM_comes_118 : alk tM_comes 118 = some (.aload_n 0, 1) := (rfl)
set_option maxRecDepth 20000 in
theorem pM_comes_119 : alk tM_comes 119 = some (.getfield 206, 3) := (rfl)
set_option maxRecDepth 20000 in
theorem pM_comes_122 : alk tM_comes 122 = some (.iconst 0, 1) := (rfl)
set_option maxRecDepth 20000 in
theorem pM_comes_123 : alk tM_comes 123 = some (.bastore, 1) := (rfl)
set_option maxRecDepth 20000 in
theorem pM_comes_124 : alk tM_comes 124 = some (.aload_n 0, 1) := (rfl)
set_option maxRecDepth 20000 in
theorem pM_comes_125 : alk tM_comes 125 = some (.getfield 83, 3) := (rfl)
set_option maxRecDepth 20000 in
theorem pM_comes_128 : alk tM_comes 128 = some (.aload_n 0, 1) := (rfl)
set_option maxRecDepth 20000 in
theorem pM_comes_129 : alk tM_comes 129 = some (.getfield 206, 3) := (rfl)
set_option maxRecDepth 20000 in
theorem pM_comes_132 : alk tM_comes 132 = some (.iconst (-1), 1) := (rfl)
set_option maxRecDepth 20000 in
theorem pM_comes_133 : alk tM_comes 133 = some (.iastore, 1) := (rfl)
set_option maxRecDepth 20000 in
theorem pM_comes_134 : alk tM_comes 134 = some (.aload_n 0, 1) := (rfl)
set_option maxRecDepth 20000 in
theorem pM_comes_135 : alk tM_comes 135 = some (.getfield 92, 3) := (rfl)
set_option maxRecDepth 20000 in
theorem pM_comes_138 : alk tM_comes 138 = some (.aload_n 0, 1) := (rfl)
set_option maxRecDepth 20000 in
theorem pM_comes_139 : alk tM_comes 139 = some (.getfield 206, 3) := (rfl)
set_option maxRecDepth 20000 in
theorem pM_comes_142 : alk tM_comes 142 = some (.iconst (-1), 1) := (rfl)
set_option maxRecDepth 20000 in
theorem pM_comes_143 : alk tM_comes 143 = some (.iastore, 1) := (rfl)
set_option maxRecDepth 20000 in
theorem pM_comes_144 : alk tM_comes 144 = some (.aload_n 0, 1) := (rfl)
set_option maxRecDepth 20000 in
theorem pM_comes_145 : alk tM_comes 145 = some (.getfield 104, 3) := (rfl)
set_option maxRecDepth 20000 in
theorem pM_comes_148 : alk tM_comes 148 = some (.aload_n 0, 1) := (rfl)
set_option maxRecDepth 20000 in
theorem pM_comes_149 : alk tM_comes 149 = some (.getfield 206, 3) := (rfl)
set_option maxRecDepth 20000 in
theorem pM_comes_152 : alk tM_comes 152 = some (.iconst 0, 1) := (rfl)
set_option maxRecDepth 20000 in
theorem pM_comes_153 : alk tM_comes 153 = some (.bastore, 1) := (rfl)
set_option maxRecDepth 20000 in
theorem pM_comes_154 : alk tM_comes 154 = some (.iconst 0, 1) := (rfl)
set_option maxRecDepth 20000 in
theorem pM_comes_155 : alk tM_comes 155 = some (.istore 8, 2) := (rfl)
set_option maxRecDepth 20000 in
theorem pM_comes_157 : alk tM_comes 157 = some (.iload 8, 2) := (rfl)
set_option maxRecDepth 20000 in
theorem pM_comes_159 : alk tM_comes 159 = some (.iconst 5, 1) := (rfl)
set_option maxRecDepth 20000 in
theorem pM_comes_160 : alk tM_comes 160 = some (.if_icmp .ge 39, 3) := (rfl)
set_option maxRecDepth 20000 in
theorem pM_comes_163 : alk tM_comes 163 = some (.aload_n 0, 1) := (rfl)
set_option maxRecDepth 20000 in
theorem pM_comes_164 : alk tM_comes 164 = some (.getfield 95, 3) := (rfl)
set_option maxRecDepth 20000 in
theorem pM_comes_167 : alk tM_comes 167 = some (.iconst 5, 1) := (rfl)
set_option maxRecDepth 20000 in
theorem pM_comes_168 : alk tM_comes 168 = some (.aload_n 0, 1) := (rfl)
set_option maxRecDepth 20000 in
theorem pM_comes_169 : alk tM_comes 169 = some (.getfield 206, 3) := (rfl)
set_option maxRecDepth 20000 in
theorem pM_comes_172 : alk tM_comes 172 = some (.imul, 1) := (rfl)
set_option maxRecDepth 20000 in
theorem pM_comes_173 : alk tM_comes 173 = some (.iload 8, 2) := (rfl)
set_option maxRecDepth 20000 in
theorem pM_comes_175 : alk tM_comes 175 = some (.iadd, 1) := (rfl)
set_option maxRecDepth 20000 in
theorem pM_comes_176 : alk tM_comes 176 = some (.iconst 0, 1) := (rfl)
set_option maxRecDepth 20000 in
theorem pM_comes_177 : alk tM_comes 177 = some (.bastore, 1) := (rfl)
set_option maxRecDepth 20000 in
theorem pM_comes_178 : alk tM_comes 178 = some (.aload_n 0, 1) := (rfl)
set_option maxRecDepth 20000 in
theorem pM_comes_179 : alk tM_comes 179 = some (.getfield 98, 3) := (rfl)
set_option maxRecDepth 20000 in
theorem pM_comes_182 : alk tM_comes 182 = some (.iconst 5, 1) := (rfl)
set_option maxRecDepth 20000 in
theorem pM_comes_183 : alk tM_comes 183 = some (.aload_n 0, 1) := (rfl)
set_option maxRecDepth 20000 in
theorem pM_comes_184 : alk tM_comes 184 = some (.getfield 206, 3) := (rfl)
set_option maxRecDepth 20000 in
theorem pM_comes_187 : alk tM_comes 187 = some (.imul, 1) := (rfl)
set_option maxRecDepth 20000 in
theorem pM_comes_188 : alk tM_comes 188 = some (.iload 8, 2) := (rfl)
set_option maxRecDepth 20000 in
theorem pM_comes_190 : alk tM_comes 190 = some (.iadd, 1) := (rfl)
set_option maxRecDepth 20000 in
theorem pM_comes_191 : alk tM_comes 191 = some (.iconst 0, 1) := (rfl)
set_option maxRecDepth 20000 in
theorem pM_comes_192 : alk tM_comes 192 = some (.iastore, 1) := (rfl)
set_option maxRecDepth 20000 in
theorem pM_comes_193 : alk tM_comes 193 = some (.iinc 8 1, 3) := (rfl)
set_option maxRecDepth 20000 in
theorem pM_comes_196 : alk tM_comes 196 = some (.goto (-39), 3) := (rfl)
set_option maxRecDepth 20000 in
theorem pM_comes_199 : alk tM_comes 199 = some (.aload_n 0, 1) := (rfl)
set_option maxRecDepth 20000 in
theorem pM_comes_200 : alk tM_comes 200 = some (.dup, 1) := (rfl)
set_option maxRecDepth 20000 in
theorem pM_comes_201 : alk tM_comes 201 = some (.getfield 206, 3) := (rfl)
set_option maxRecDepth 20000 in
theorem pM_comes_204 : alk tM_comes 204 = some (.iconst 1, 1) := (rfl)
set_option maxRecDepth 20000 in
theorem pM_comes_205 : alk tM_comes 205 = some (.iadd, 1) := (rfl)
set_option maxRecDepth 20000 in
theorem pM_comes_206 : alk tM_comes 206 = some (.putfield 206, 3) := (rfl)
set_option maxRecDepth 20000 in
theorem pM_comes_209 : alk tM_comes 209 = some (.aload_n 0, 1) := (rfl)
set_option maxRecDepth 20000 in
theorem pM_comes_210 : alk tM_comes 210 = some (.getfield 206, 3) := (rfl)
set_option maxRecDepth 20000 in
theorem pM_comes_213 : alk tM_comes 213 = some (.iconst 1, 1) := (rfl)
set_option maxRecDepth 20000 in
theorem pM_comes_214 : alk tM_comes 214 = some (.isub, 1) := (rfl)
set_option maxRecDepth 20000 in
theorem pM_comes_215 : alk tM_comes 215 = some (.ireturn, 1) := (rfl)
def tM_sort : TB := [(0, .aload_n 0, 1), (1, .iload_n 1, 1), (2, .invokevirtual 218, 3), (5, .ifCond .eq 27, 3), (8, .iload_n 3, 1), (9, .ifCond .lt 23, 3), (12, .aload_n 0, 1), (13, .iload_n 3, 1), (14, .bipush 10, 2), (16, .idiv, 1), (17, .invokevirtual 176, 3), (20, .ifCond .eq 12, 3), (23, .iload_n 3, 1), (24, .bipush 10, 2), (26, .irem, 1), (27, .bipush 6, 2), (29, .if_icmp .lt 10, 3), (32, .aload_n 0, 1), (33, .bipush (-3), 2), (35, .invokevirtual 169, 3), (38, .ireturn, 1), (39, .iload_n 3, 1), (40, .bipush 10, 2), (42, .idiv, 1), (43, .istore 5, 2), (45, .aload_n 0, 1), (46, .getfield 43, 3), (49, .iload_n 1, 1), (50, .iaload, 1), (51, .iconst 3, 1), (52, .if_icmp .ne 14, 3), (55, .aload_n 0, 1), (56, .getfield 13, 3), (59, .iload 5, 2), (61, .iaload, 1), (62, .iconst 1, 1), (63, .if_icmp .eq 10, 3), (66, .aload_n 0, 1), (67, .bipush (-5), 2), (69, .invokevirtual 169, 3), (72, .ireturn, 1), (73, .aload_n 0, 1), (74, .iload_n 1, 1), (75, .invokevirtual 221, 3), (78, .ifCond .eq 36, 3), (81, .iload_n 2, 1), (82, .iconst 1, 1), (83, .aload_n 0, 1), (84, .getfield 49, 3), (87, .iload_n 1, 1), (88, .iaload, 1), (89, .iconst 1, 1), (90, .isub, 1), (91, .invokestatic 165, 3), (94, .ifCond .eq 20, 3), (97, .iload 4, 2), (99, .invokestatic 209, 3), (102, .ifCond .eq 12, 3), (105, .aload_n 0, 1), (106, .iload 5, 2), (108, .invokevirtual 212, 3), (111, .ifCond .eq 10, 3), (114, .aload_n 0, 1), (115, .bipush (-7), 2), (117, .invokevirtual 169, 3), (120, .ireturn, 1), (121, .aload_n 0, 1), (122, .getfield 206, 3), (125, .bipush 24, 2), (127, .if_icmp .ne 10, 3), (130, .aload_n 0, 1), (131, .bipush (-8), 2), (133, .invokevirtual 169, 3), (136, .ireturn, 1), (137, .aload_n 0, 1), (138, .getfield 49, 3), (141, .iload_n 1, 1), (142, .dup2, 1), (143, .iaload, 1), (144, .iload_n 2, 1), (145, .isub, 1), (146, .iastore, 1), (147, .aload_n 0, 1), (148, .iconst 0, 1), (149, .iload_n 3, 1), (150, .bipush 10, 2), (152, .irem, 1), (153, .iload_n 2, 1), (154, .aload_n 0, 1), (155, .getfield 52, 3), (158, .iload_n 1, 1), (159, .iaload, 1), (160, .iload 4, 2), (162, .iload 5, 2), (164, .aload_n 0, 1), (165, .getfield 67, 3), (168, .iload_n 1, 1), (169, .iaload, 1), (170, .invokevirtual 215, 3), (173, .ireturn, 1)]
set_option maxRecDepth 100000 in
theorem kM_sort : tbOk (mB mM_sort) tM_sort = true := by decide +kernel
theorem pM_sort_0 : alk tM_sort 0 = some (.aload_n 0, 1) := (rfl)
theorem pM_sort_1 : alk tM_sort 1 = some (.iload_n 1, 1) := (rfl)
theorem pM_sort_2 : alk tM_sort 2 = some (.invokevirtual 218, 3) := (rfl)
theorem pM_sort_5 : alk tM_sort 5 = some (.ifCond .eq 27, 3) := (rfl)
theorem pM_sort_8 : alk tM_sort 8 = some (.iload_n 3, 1) := (rfl)
theorem pM_sort_9 : alk tM_sort 9 = some (.ifCond .lt 23, 3) := (rfl)
theorem pM_sort_12 : alk tM_sort 12 = some (.aload_n 0, 1) := (rfl)
theorem pM_sort_13 : alk tM_sort 13 = some (.iload_n 3, 1) := (rfl)
theorem pM_sort_14 : alk tM_sort 14 = some (.bipush 10, 2) := (rfl)
theorem pM_sort_16 : alk tM_sort 16 = some (.idiv, 1) := (rfl)
theorem pM_sort_17 : alk tM_sort 17 = some (.invokevirtual 176, 3) := (rfl)
theorem pM_sort_20 : alk tM_sort 20 = some (.ifCond .eq 12, 3) := (rfl)
theorem pM_sort_23 : alk tM_sort 23 = some (.iload_n 3, 1) := (rfl)
theorem pM_sort_24 : alk tM_sort 24 = some (.bipush 10, 2) := (rfl)
theorem pM_sort_26 : alk tM_sort 26 = some (.irem, 1) := (rfl)
theorem pM_sort_27 : alk tM_sort 27 = some (.bipush 6, 2) := (rfl)
theorem pM_sort_29 : alk tM_sort 29 = some (.if_icmp .lt 10, 3) := (rfl)
theorem pM_sort_32 : alk tM_sort 32 = some (.aload_n 0, 1) := (rfl)
theorem pM_sort_33 : alk tM_sort 33 = some (.bipush (-3), 2) := (rfl)
theorem pM_sort_35 : alk tM_sort 35 = some (.invokevirtual 169, 3) := (rfl)
theorem pM_sort_38 : alk tM_sort 38 = some (.ireturn, 1) := (rfl)
theorem pM_sort_39 : alk tM_sort 39 = some (.iload_n 3, 1) := (rfl)
theorem pM_sort_40 : alk tM_sort 40 = some (.bipush 10, 2) := (rfl)
theorem pM_sort_42 : alk tM_sort 42 = some (.idiv, 1) := (rfl)
theorem pM_sort_43 : alk tM_sort 43 = some (.istore 5, 2) := (rfl)
theorem pM_sort_45 : alk tM_sort 45 = some (.aload_n 0, 1) := (rfl)
theorem pM_sort_46 : alk tM_sort 46 = some (.getfield 43, 3) := (rfl)
theorem pM_sort_49 : alk tM_sort 49 = some (.iload_n 1, 1) := (rfl)
theorem pM_sort_50 : alk tM_sort 50 = some (.iaload, 1) := (rfl)
theorem pM_sort_51 : alk tM_sort 51 = some (.iconst 3, 1) := (rfl)
theorem pM_sort_52 : alk tM_sort 52 = some (.if_icmp .ne 14, 3) := (rfl)
theorem pM_sort_55 : alk tM_sort 55 = some (.aload_n 0, 1) := (rfl)
theorem pM_sort_56 : alk tM_sort 56 = some (.getfield 13, 3) := (rfl)
theorem pM_sort_59 : alk tM_sort 59 = some (.iload 5, 2) := (rfl)
theorem pM_sort_61 : alk tM_sort 61 = some (.iaload, 1) := (rfl)
theorem pM_sort_62 : alk tM_sort 62 = some (.iconst 1, 1) := (rfl)
theorem pM_sort_63 : alk tM_sort 63 = some (.if_icmp .eq 10, 3) := (rfl)
theorem pM_sort_66 : alk tM_sort 66 = some (.aload_n 0, 1) := (rfl)
theorem pM_sort_67 : alk tM_sort 67 = some (.bipush (-5), 2) := (rfl)
theorem pM_sort_69 : alk tM_sort 69 = some (.invokevirtual 169, 3) := (rfl)
theorem pM_sort_72 : alk tM_sort 72 = some (.ireturn, 1) := (rfl)
theorem pM_sort_73 : alk tM_sort 73 = some (.aload_n 0, 1) := (rfl)
theorem pM_sort_74 : alk tM_sort 74 = some (.iload_n 1, 1) := (rfl)
theorem pM_sort_75 : alk tM_sort 75 = some (.invokevirtual 221, 3) := (rfl)
theorem pM_sort_78 : alk tM_sort 78 = some (.ifCond .eq 36, 3) := (rfl)
theorem pM_sort_81 : alk tM_sort 81 = some (.iload_n 2, 1) := (rfl)
theorem pM_sort_82 : alk tM_sort 82 = some (.iconst 1, 1) := (rfl)
theorem pM_sort_83 : alk tM_sort 83 = some (.aload_n 0, 1) := (rfl)
theorem pM_sort_84 : alk tM_sort 84 = some (.getfield 49, 3) := (rfl)
theorem pM_sort_87 : alk tM_sort 87 = some (.iload_n 1, 1) := (rfl)
theorem pM_sort_88 : alk tM_sort 88 = some (.iaload, 1) := (rfl)
theorem pM_sort_89 : alk tM_sort 89 = some (.iconst 1, 1) := (rfl)
theorem pM_sort_90 : alk tM_sort 90 = some (.isub, 1) := (rfl)
theorem pM_sort_91 : alk tM_sort 91 = some (.invokestatic 165, 3) := (rfl)
theorem pM_sort_94 : alk tM_sort 94 = some (.ifCond .eq 20, 3) := (rfl)
theorem pM_sort_97 : alk tM_sort 97 = some (.iload 4, 2) := (rfl)
theorem pM_sort_99 : alk tM_sort 99 = some (.invokestatic 209, 3) := (rfl)
theorem pM_sort_102 : alk tM_sort 102 = some (.ifCond .eq 12, 3) := (rfl)
theorem pM_sort_105 : alk tM_sort 105 = some (.aload_n 0, 1) := (rfl)
theorem pM_sort_106 : alk tM_sort 106 = some (.iload 5, 2) := (rfl)
theorem pM_sort_108 : alk tM_sort 108 = some (.invokevirtual 212, 3) := (rfl)
set_option maxRecDepth 20000 in
theorem pM_sort_111 : alk tM_sort 111 = some (.ifCond .eq 10, 3) := (rfl)
set_option maxRecDepth 20000 in
theorem pM_sort_114 : alk tM_sort 114 = some (.aload_n 0, 1) := (rfl)
set_option maxRecDepth 20000 in
theorem pM_sort_115 : alk tM_sort 115 = some (.bipush (-7), 2) := (rfl)
set_option maxRecDepth 20000 in
theorem pM_sort_117 : alk tM_sort 117 = some (.invokevirtual 169, 3) := (rfl)
set_option maxRecDepth 20000 in
theorem pM_sort_120 : alk tM_sort 120 = some (.ireturn, 1) := (rfl)
set_option maxRecDepth 20000 in
theorem pM_sort_121 : alk tM_sort 121 = some (.aload_n 0, 1) := (rfl)
set_option maxRecDepth 20000 in
theorem pM_sort_122 : alk tM_sort 122 = some (.getfield 206, 3) := (rfl)
set_option maxRecDepth 20000 in
theorem pM_sort_125 : alk tM_sort 125 = some (.bipush 24, 2) := (rfl)
set_option maxRecDepth 20000 in
theorem pM_sort_127 : alk tM_sort 127 = some (.if_icmp .ne 10, 3) := (rfl)
set_option maxRecDepth 20000 in
theorem pM_sort_130 : alk tM_sort 130 = some (.aload_n 0, 1) := (rfl)
set_option maxRecDepth 20000 in
theorem pM_sort_131 : alk tM_sort 131 = some (.bipush (-8), 2) := (rfl)
set_option maxRecDepth 20000 in
theorem pM_sort_133 : alk tM_sort 133 = some (.invokevirtual 169, 3) := (rfl)
set_option maxRecDepth 20000 in
theorem pM_sort_136 : alk tM_sort 136 = some (.ireturn, 1) := (rfl)
set_option maxRecDepth 20000 in
theorem pM_sort_137 : alk tM_sort 137 = some (.aload_n 0, 1) := (rfl)
set_option maxRecDepth 20000 in
theorem pM_sort_138 : alk tM_sort 138 = some (.getfield 49, 3) := (rfl)
set_option maxRecDepth 20000 in
theorem pM_sort_141 : alk tM_sort 141 = some (.iload_n 1, 1) := (rfl)
set_option maxRecDepth 20000 in
theorem pM_sort_142 : alk tM_sort 142 = some (.dup2, 1) := (rfl)
set_option maxRecDepth 20000 in
theorem pM_sort_143 : alk tM_sort 143 = some (.iaload, 1) := (rfl)
set_option maxRecDepth 20000 in
theorem pM_sort_144 : alk tM_sort 144 = some (.iload_n 2, 1) := (rfl)
set_option maxRecDepth 20000 in
theorem pM_sort_145 : alk tM_sort 145 = some (.isub, 1) := (rfl)
set_option maxRecDepth 20000 in
theorem pM_sort_146 : alk tM_sort 146 = some (.iastore, 1) := (rfl)
set_option maxRecDepth 20000 in
theorem pM_sort_147 : alk tM_sort 147 = some (.aload_n 0, 1) := (rfl)
set_option maxRecDepth 20000 in
theorem pM_sort_148 : alk tM_sort 148 = some (.iconst 0, 1) := (rfl)
set_option maxRecDepth 20000 in
theorem pM_sort_149 : alk tM_sort 149 = some (.iload_n 3, 1) := (rfl)
set_option maxRecDepth 20000 in
theorem pM_sort_150 : alk tM_sort 150 = some (.bipush 10, 2) := (rfl)
set_option maxRecDepth 20000 in
theorem pM_sort_152 : alk tM_sort 152 = some (.irem, 1) := (rfl)
set_option maxRecDepth 20000 in
theorem pM_sort_153 : alk tM_sort 153 = some (.iload_n 2, 1) := (rfl)
set_option maxRecDepth 20000 in
theorem pM_sort_154 : alk tM_sort 154 = some (.aload_n 0, 1) := (rfl)
set_option maxRecDepth 20000 in
theorem pM_sort_155 : alk tM_sort 155 = some (.getfield 52, 3) := (rfl)
set_option maxRecDepth 20000 in
theorem pM_sort_158 : alk tM_sort 158 = some (.iload_n 1, 1) := (rfl)
set_option maxRecDepth 20000 in
theorem pM_sort_159 : alk tM_sort 159 = some (.iaload, 1) := (rfl)
set_option maxRecDepth 20000 in
theorem pM_sort_160 : alk tM_sort 160 = some (.iload 4, 2) := (rfl)
set_option maxRecDepth 20000 in
theorem pM_sort_162 : alk tM_sort 162 = some (.iload 5, 2) := (rfl)
set_option maxRecDepth 20000 in
theorem pM_sort_164 : alk tM_sort 164 = some (.aload_n 0, 1) := (rfl)
set_option maxRecDepth 20000 in
theorem pM_sort_165 : alk tM_sort 165 = some (.getfield 67, 3) := (rfl)
set_option maxRecDepth 20000 in
theorem pM_sort_168 : alk tM_sort 168 = some (.iload_n 1, 1) := (rfl)
set_option maxRecDepth 20000 in
theorem pM_sort_169 : alk tM_sort 169 = some (.iaload, 1) := (rfl)
set_option maxRecDepth 20000 in
theorem pM_sort_170 : alk tM_sort 170 = some (.invokevirtual 215, 3) := (rfl)
set_option maxRecDepth 20000 in
theorem pM_sort_173 : alk tM_sort 173 = some (.ireturn, 1) := (rfl)
def tM_isLot : TB := [(0, .iload_n 1, 1), (1, .iconst 0, 1), (2, .aload_n 0, 1), (3, .getfield 206, 3), (6, .iconst 1, 1), (7, .isub, 1), (8, .invokestatic 165, 3), (11, .ireturn, 1)]
set_option maxRecDepth 100000 in
theorem kM_isLot : tbOk (mB mM_isLot) tM_isLot = true := by decide +kernel
theorem pM_isLot_0 : alk tM_isLot 0 = some (.iload_n 1, 1) := (rfl)
theorem pM_isLot_1 : alk tM_isLot 1 = some (.iconst 0, 1) := (rfl)
theorem pM_isLot_2 : alk tM_isLot 2 = some (.aload_n 0, 1) := (rfl)
theorem pM_isLot_3 : alk tM_isLot 3 = some (.getfield 206, 3) := (rfl)
theorem pM_isLot_6 : alk tM_isLot 6 = some (.iconst 1, 1) := (rfl)
theorem pM_isLot_7 : alk tM_isLot 7 = some (.isub, 1) := (rfl)
theorem pM_isLot_8 : alk tM_isLot 8 = some (.invokestatic 165, 3) := (rfl)
theorem pM_isLot_11 : alk tM_isLot 11 = some (.ireturn, 1) := (rfl)
def tM_isInPen : TB := [(0, .aload_n 0, 1), (1, .getfield 58, 3), (4, .iload_n 1, 1), (5, .iaload, 1), (6, .iconst (-1), 1), (7, .if_icmp .eq 22, 3), (10, .aload_n 0, 1), (11, .getfield 13, 3), (14, .aload_n 0, 1), (15, .getfield 58, 3), (18, .iload_n 1, 1), (19, .iaload, 1), (20, .iaload, 1), (21, .iconst 1, 1), (22, .if_icmp .ne 7, 3), (25, .iconst 1, 1), (26, .goto 4, 3), (29, .iconst 0, 1), (30, .ireturn, 1)]
set_option maxRecDepth 100000 in
theorem kM_isInPen : tbOk (mB mM_isInPen) tM_isInPen = true := by decide +kernel
theorem pM_isInPen_0 : alk tM_isInPen 0 = some (.aload_n 0, 1) := (rfl)
theorem pM_isInPen_1 : alk tM_isInPen 1 = some (.getfield 58, 3) := (rfl)
theorem pM_isInPen_4 : alk tM_isInPen 4 = some (.iload_n 1, 1) := (rfl)
theorem pM_isInPen_5 : alk tM_isInPen 5 = some (.iaload, 1) := (rfl)
theorem pM_isInPen_6 : alk tM_isInPen 6 = some (.iconst (-1), 1) := (rfl)
theorem pM_isInPen_7 : alk tM_isInPen 7 = some (.if_icmp .eq 22, 3) := (rfl)
theorem pM_isInPen_10 : alk tM_isInPen 10 = some (.aload_n 0, 1) := (rfl)
theorem pM_isInPen_11 : alk tM_isInPen 11 = some (.getfield 13, 3) := (rfl)
theorem pM_isInPen_14 : alk tM_isInPen 14 = some (.aload_n 0, 1) := (rfl)
theorem pM_isInPen_15 : alk tM_isInPen 15 = some (.getfield 58, 3) := (rfl)
theorem pM_isInPen_18 : alk tM_isInPen 18 = some (.iload_n 1, 1) := (rfl)
theorem pM_isInPen_19 : alk tM_isInPen 19 = some (.iaload, 1) := (rfl)
theorem pM_isInPen_20 : alk tM_isInPen 20 = some (.iaload, 1) := (rfl)
theorem pM_isInPen_21 : alk tM_isInPen 21 = some (.iconst 1, 1) := (rfl)
theorem pM_isInPen_22 : alk tM_isInPen 22 = some (.if_icmp .ne 7, 3) := (rfl)
theorem pM_isInPen_25 : alk tM_isInPen 25 = some (.iconst 1, 1) := (rfl)
theorem pM_isInPen_26 : alk tM_isInPen 26 = some (.goto 4, 3) := (rfl)
theorem pM_isInPen_29 : alk tM_isInPen 29 = some (.iconst 0, 1) := (rfl)
theorem pM_isInPen_30 : alk tM_isInPen 30 = some (.ireturn, 1) := (rfl)
def tM_look : TB := [(0, .aload_n 0, 1), (1, .iload_n 1, 1), (2, .invokevirtual 218, 3), (5, .ifCond .ne 10, 3), (8, .aload_n 0, 1), (9, .bipush (-3), 2), (11, .invokevirtual 169, 3), (14, .ireturn, 1), (15, .iload_n 2, 1), (16, .tableswitch 185 0 12 #[68, 75, 82, 89, 96, 103, 110, 117, 124, 130, 144, 158, 165], 68), (84, .aload_n 0, 1), (85, .getfield 43, 3), (88, .iload_n 1, 1), (89, .iaload, 1), (90, .ireturn, 1), (91, .aload_n 0, 1), (92, .getfield 46, 3), (95, .iload_n 1, 1), (96, .iaload, 1), (97, .ireturn, 1), (98, .aload_n 0, 1), (99, .getfield 49, 3), (102, .iload_n 1, 1), (103, .iaload, 1), (104, .ireturn, 1), (105, .aload_n 0, 1), (106, .getfield 52, 3), (109, .iload_n 1, 1), (110, .iaload, 1), (111, .ireturn, 1), (112, .aload_n 0, 1), (113, .getfield 55, 3), (116, .iload_n 1, 1), (117, .iaload, 1), (118, .ireturn, 1), (119, .aload_n 0, 1), (120, .getfield 58, 3), (123, .iload_n 1, 1), (124, .iaload, 1), (125, .ireturn, 1), (126, .aload_n 0, 1), (127, .getfield 61, 3), (130, .iload_n 1, 1), (131, .iaload, 1), (132, .ireturn, 1), (133, .aload_n 0, 1), (134, .getfield 64, 3), (137, .iload_n 1, 1), (138, .iaload, 1), (139, .ireturn, 1), (140, .aload_n 0, 1), (141, .iload_n 1, 1), (142, .invokevirtual 224, 3), (145, .ireturn, 1), (146, .aload_n 0, 1), (147, .iload_n 1, 1), (148, .invokevirtual 227, 3), (151, .ifCond .eq 7, 3), (154, .iconst 1, 1), (155, .goto 4, 3), (158, .iconst 0, 1), (159, .ireturn, 1), (160, .aload_n 0, 1), (161, .iload_n 1, 1), (162, .invokevirtual 230, 3), (165, .ifCond .eq 7, 3), (168, .iconst 1, 1), (169, .goto 4, 3), (172, .iconst 0, 1), (173, .ireturn, 1), (174, .aload_n 0, 1), (175, .getfield 74, 3), (178, .iload_n 1, 1), (179, .iaload, 1), (180, .ireturn, 1), (181, .aload_n 0, 1), (182, .getfield 104, 3), (185, .iload_n 1, 1), (186, .baload, 1), (187, .ifCond .eq 12, 3), (190, .aload_n 0, 1), (191, .getfield 83, 3), (194, .iload_n 1, 1), (195, .iaload, 1), (196, .goto 4, 3), (199, .iconst (-1), 1), (200, .ireturn, 1), (201, .aload_n 0, 1), (202, .bipush (-7), 2), (204, .invokevirtual 169, 3), (207, .ireturn, 1)]
set_option maxRecDepth 100000 in
theorem kM_look : tbOk (mB mM_look) tM_look = true := by decide +kernel
theorem pM_look_0 : alk tM_look 0 = some (.aload_n 0, 1) := (rfl)
theorem pM_look_1 : alk tM_look 1 = some (.iload_n 1, 1) := (rfl)
theorem pM_look_2 : alk tM_look 2 = some (.invokevirtual 218, 3) := (rfl)
theorem pM_look_5 : alk tM_look 5 = some (.ifCond .ne 10, 3) := (rfl)
theorem pM_look_8 : alk tM_look 8 = some (.aload_n 0, 1) := (rfl)
theorem pM_look_9 : alk tM_look 9 = some (.bipush (-3), 2) := (rfl)
theorem pM_look_11 : alk tM_look 11 = some (.invokevirtual 169, 3) := (rfl)
theorem pM_look_14 : alk tM_look 14 = some (.ireturn, 1) := (rfl)
theorem pM_look_15 : alk tM_look 15 = some (.iload_n 2, 1) := (rfl)
theorem pM_look_16 : alk tM_look 16 = some (.tableswitch 185 0 12 #[68, 75, 82, 89, 96, 103, 110, 117, 124, 130, 144, 158, 165], 68) := (rfl)
theorem pM_look_84 : alk tM_look 84 = some (.aload_n 0, 1) := (rfl)
theorem pM_look_85 : alk tM_look 85 = some (.getfield 43, 3) := (rfl)
theorem pM_look_88 : alk tM_look 88 = some (.iload_n 1, 1) := (rfl)
theorem pM_look_89 : alk tM_look 89 = some (.iaload, 1) := (rfl)
theorem pM_look_90 : alk tM_look 90 = some (.ireturn, 1) := (rfl)
theorem pM_look_91 : alk tM_look 91 = some (.aload_n 0, 1) := (rfl)
theorem pM_look_92 : alk tM_look 92 = some (.getfield 46, 3) := (rfl)
theorem pM_look_95 : alk tM_look 95 = some (.iload_n 1, 1) := (rfl)
theorem pM_look_96 : alk tM_look 96 = some (.iaload, 1) := (rfl)
theorem pM_look_97 : alk tM_look 97 = some (.ireturn, 1) := (rfl)
theorem pM_look_98 : alk tM_look 98 = some (.aload_n 0, 1) := (rfl)
theorem pM_look_99 : alk tM_look 99 = some (.getfield 49, 3) := (rfl)
theorem pM_look_102 : alk tM_look 102 = some (.iload_n 1, 1) := (rfl)
theorem pM_look_103 : alk tM_look 103 = some (.iaload, 1) := (rfl)
theorem pM_look_104 : alk tM_look 104 = some (.ireturn, 1) := (rfl)
theorem pM_look_105 : alk tM_look 105 = some (.aload_n 0, 1) := (rfl)
theorem pM_look_106 : alk tM_look 106 = some (.getfield 52, 3) := (rfl)
theorem pM_look_109 : alk tM_look 109 = some (.iload_n 1, 1) := (rfl)
theorem pM_look_110 : alk tM_look 110 = some (.iaload, 1) := (rfl)
theorem pM_look_111 : alk tM_look 111 = some (.ireturn, 1) := (rfl)
theorem pM_look_112 : alk tM_look 112 = some (.aload_n 0, 1) := (rfl)
theorem pM_look_113 : alk tM_look 113 = some (.getfield 55, 3) := (rfl)
theorem pM_look_116 : alk tM_look 116 = some (.iload_n 1, 1) := (rfl)
theorem pM_look_117 : alk tM_look 117 = some (.iaload, 1) := (rfl)
theorem pM_look_118 : alk tM_look 118 = some (.ireturn, 1) := (rfl)
theorem pM_look_119 : alk tM_look 119 = some (.aload_n 0, 1) := (rfl)
theorem pM_look_120 : alk tM_look 120 = some (.getfield 58, 3) := (rfl)
theorem pM_look_123 : alk tM_look 123 = some (.iload_n 1, 1) := (rfl)
theorem pM_look_124 : alk tM_look 124 = some (.iaload, 1) := (rfl)
theorem pM_look_125 : alk tM_look 125 = some (.ireturn, 1) := (rfl)
theorem pM_look_126 : alk tM_look 126 = some (.aload_n 0, 1) := (rfl)
theorem pM_look_127 : alk tM_look 127 = some (.getfield 61, 3) := (rfl)
theorem pM_look_130 : alk tM_look 130 = some (.iload_n 1, 1) := (rfl)
theorem pM_look_131 : alk tM_look 131 = some (.iaload, 1) := (rfl)
theorem pM_look_132 : alk tM_look 132 = some (.ireturn, 1) := (rfl)
theorem pM_look_133 : alk tM_look 133 = some (.aload_n 0, 1) := (rfl)
theorem pM_look_134 : alk tM_look 134 = some (.getfield 64, 3) := (rfl)
theorem pM_look_137 : alk tM_look 137 = some (.iload_n 1, 1) := (rfl)
theorem pM_look_138 : alk tM_look 138 = some (.iaload, 1) := (rfl)
theorem pM_look_139 : alk tM_look 139 = some (.ireturn, 1) := (rfl)
theorem pM_look_140 : alk tM_look 140 = some (.aload_n 0, 1) := (rfl)
theorem pM_look_141 : alk tM_look 141 = some (.iload_n 1, 1) := (rfl)
theorem pM_look_142 : alk tM_look 142 = some (.invokevirtual 224, 3) := (rfl)
theorem pM_look_145 : alk tM_look 145 = some (.ireturn, 1) := (rfl)
theorem pM_look_146 : alk tM_look 146 = some (.aload_n 0, 1) := (rfl)
theorem pM_look_147 : alk tM_look 147 = some (.iload_n 1, 1) := (rfl)
theorem pM_look_148 : alk tM_look 148 = some (.invokevirtual 227, 3) := (rfl)
theorem pM_look_151 : alk tM_look 151 = some (.ifCond .eq 7, 3) := (rfl)
theorem pM_look_154 : alk tM_look 154 = some (.iconst 1, 1) := (rfl)
theorem pM_look_155 : alk tM_look 155 = some (.goto 4, 3) := (rfl)
theorem pM_look_158 : alk tM_look 158 = some (.iconst 0, 1) := (rfl)
set_option maxRecDepth 20000 in
theorem pM_look_159 : alk tM_look 159 = some (.ireturn, 1) := (rfl)
set_option maxRecDepth 20000 in
theorem pM_look_160 : alk tM_look 160 = some (.aload_n 0, 1) := (rfl)
set_option maxRecDepth 20000 in
theorem pM_look_161 : alk tM_look 161 = some (.iload_n 1, 1) := (rfl)
set_option maxRecDepth 20000 in
theorem pM_look_162 : alk tM_look 162 = some (.invokevirtual 230, 3) := (rfl)
set_option maxRecDepth 20000 in
theorem pM_look_165 : alk tM_look 165 = some (.ifCond .eq 7, 3) := (rfl)
set_option maxRecDepth 20000 in
theorem pM_look_168 : alk tM_look 168 = some (.iconst 1, 1) := (rfl)
set_option maxRecDepth 20000 in
theorem pM_look_169 : alk tM_look 169 = some (.goto 4, 3) := (rfl)
set_option maxRecDepth 20000 in
theorem pM_look_172 : alk tM_look 172 = some (.iconst 0, 1) := (rfl)
set_option maxRecDepth 20000 in
theorem pM_look_173 : alk tM_look 173 = some (.ireturn, 1) := (rfl)
set_option maxRecDepth 20000 in
theorem pM_look_174 : alk tM_look 174 = some (.aload_n 0, 1) := (rfl)
set_option maxRecDepth 20000 in
theorem pM_look_175 : alk tM_look 175 = some (.getfield 74, 3) := (rfl)
set_option maxRecDepth 20000 in
theorem pM_look_178 : alk tM_look 178 = some (.iload_n 1, 1) := (rfl)
set_option maxRecDepth 20000 in
theorem pM_look_179 : alk tM_look 179 = some (.iaload, 1) := (rfl)
set_option maxRecDepth 20000 in
theorem pM_look_180 : alk tM_look 180 = some (.ireturn, 1) := (rfl)
set_option maxRecDepth 20000 in
theorem pM_look_181 : alk tM_look 181 = some (.aload_n 0, 1) := (rfl)
set_option maxRecDepth 20000 in
theorem pM_look_182 : alk tM_look 182 = some (.getfield 104, 3) := (rfl)
set_option maxRecDepth 20000 in
theorem pM_look_185 : alk tM_look 185 = some (.iload_n 1, 1) := (rfl)
set_option maxRecDepth 20000 in
theorem pM_look_186 : alk tM_look 186 = some (.baload, 1) := (rfl)
set_option maxRecDepth 20000 in
theorem pM_look_187 : alk tM_look 187 = some (.ifCond .eq 12, 3) := (rfl)
set_option maxRecDepth 20000 in
theorem pM_look_190 : alk tM_look 190 = some (.aload_n 0, 1) := (rfl)
set_option maxRecDepth 20000 in
theorem pM_look_191 : alk tM_look 191 = some (.getfield 83, 3) := (rfl)
set_option maxRecDepth 20000 in
theorem pM_look_194 : alk tM_look 194 = some (.iload_n 1, 1) := (rfl)
set_option maxRecDepth 20000 in
theorem pM_look_195 : alk tM_look 195 = some (.iaload, 1) := (rfl)
set_option maxRecDepth 20000 in
theorem pM_look_196 : alk tM_look 196 = some (.goto 4, 3) := (rfl)
set_option maxRecDepth 20000 in
theorem pM_look_199 : alk tM_look 199 = some (.iconst (-1), 1) := (rfl)
set_option maxRecDepth 20000 in
theorem pM_look_200 : alk tM_look 200 = some (.ireturn, 1) := (rfl)
set_option maxRecDepth 20000 in
theorem pM_look_201 : alk tM_look 201 = some (.aload_n 0, 1) := (rfl)
set_option maxRecDepth 20000 in
theorem pM_look_202 : alk tM_look 202 = some (.bipush (-7), 2) := (rfl)
set_option maxRecDepth 20000 in
theorem pM_look_204 : alk tM_look 204 = some (.invokevirtual 169, 3) := (rfl)
set_option maxRecDepth 20000 in
theorem pM_look_207 : alk tM_look 207 = some (.ireturn, 1) := (rfl)
def tM_thirst : TB := [(0, .aload_n 0, 1), (1, .getfield 200, 3), (4, .aload_n 0, 1), (5, .getfield 67, 3), (8, .iload_n 1, 1), (9, .iaload, 1), (10, .isub, 1), (11, .ireturn, 1)]
set_option maxRecDepth 100000 in
theorem kM_thirst : tbOk (mB mM_thirst) tM_thirst = true := by decide +kernel
theorem pM_thirst_0 : alk tM_thirst 0 = some (.aload_n 0, 1) := (rfl)
theorem pM_thirst_1 : alk tM_thirst 1 = some (.getfield 200, 3) := (rfl)
theorem pM_thirst_4 : alk tM_thirst 4 = some (.aload_n 0, 1) := (rfl)
theorem pM_thirst_5 : alk tM_thirst 5 = some (.getfield 67, 3) := (rfl)
theorem pM_thirst_8 : alk tM_thirst 8 = some (.iload_n 1, 1) := (rfl)
theorem pM_thirst_9 : alk tM_thirst 9 = some (.iaload, 1) := (rfl)
theorem pM_thirst_10 : alk tM_thirst 10 = some (.isub, 1) := (rfl)
theorem pM_thirst_11 : alk tM_thirst 11 = some (.ireturn, 1) := (rfl)
def tM_isDry : TB := [(0, .aload_n 0, 1), (1, .iload_n 1, 1), (2, .invokevirtual 224, 3), (5, .aload_n 0, 1), (6, .iconst 3, 1), (7, .iload_n 1, 1), (8, .iconst (-1), 1), (9, .invokevirtual 311, 3), (12, .if_icmp .le 7, 3), (15, .iconst 1, 1), (16, .goto 4, 3), (19, .iconst 0, 1), (20, .ireturn, 1)]
set_option maxRecDepth 100000 in
theorem kM_isDry : tbOk (mB mM_isDry) tM_isDry = true := by decide +kernel
theorem pM_isDry_0 : alk tM_isDry 0 = some (.aload_n 0, 1) := (rfl)
theorem pM_isDry_1 : alk tM_isDry 1 = some (.iload_n 1, 1) := (rfl)
theorem pM_isDry_2 : alk tM_isDry 2 = some (.invokevirtual 224, 3) := (rfl)
theorem pM_isDry_5 : alk tM_isDry 5 = some (.aload_n 0, 1) := (rfl)
theorem pM_isDry_6 : alk tM_isDry 6 = some (.iconst 3, 1) := (rfl)
theorem pM_isDry_7 : alk tM_isDry 7 = some (.iload_n 1, 1) := (rfl)
theorem pM_isDry_8 : alk tM_isDry 8 = some (.iconst (-1), 1) := (rfl)
theorem pM_isDry_9 : alk tM_isDry 9 = some (.invokevirtual 311, 3) := (rfl)
theorem pM_isDry_12 : alk tM_isDry 12 = some (.if_icmp .le 7, 3) := (rfl)
theorem pM_isDry_15 : alk tM_isDry 15 = some (.iconst 1, 1) := (rfl)
theorem pM_isDry_16 : alk tM_isDry 16 = some (.goto 4, 3) := (rfl)
theorem pM_isDry_19 : alk tM_isDry 19 = some (.iconst 0, 1) := (rfl)
theorem pM_isDry_20 : alk tM_isDry 20 = some (.ireturn, 1) := (rfl)
def tM_saidBy : TB := [(0, .aload_n 0, 1), (1, .getfield 288, 3), (4, .iconst 1, 1), (5, .isub, 1), (6, .istore 4, 2), (8, .iload 4, 2), (10, .ifCond .lt 39, 3), (13, .aload_n 0, 1), (14, .getfield 123, 3), (17, .iload 4, 2), (19, .iaload, 1), (20, .iload_n 1, 1), (21, .if_icmp .ne 22, 3), (24, .aload_n 0, 1), (25, .iload 4, 2), (27, .iload_n 2, 1), (28, .iload_n 3, 1), (29, .invokevirtual 308, 3), (32, .ifCond .eq 11, 3), (35, .aload_n 0, 1), (36, .getfield 126, 3), (39, .iload 4, 2), (41, .iaload, 1), (42, .ireturn, 1), (43, .iinc 4 (-1), 3), (46, .goto (-38), 3), (49, .iload_n 1, 1), (50, .iconst 3, 1), (51, .if_icmp .ne 9, 3), (54, .sipush 1440, 3), (57, .goto 4, 3), (60, .iconst 0, 1), (61, .ireturn, 1)]
set_option maxRecDepth 100000 in
theorem kM_saidBy : tbOk (mB mM_saidBy) tM_saidBy = true := by decide +kernel
theorem pM_saidBy_0 : alk tM_saidBy 0 = some (.aload_n 0, 1) := (rfl)
theorem pM_saidBy_1 : alk tM_saidBy 1 = some (.getfield 288, 3) := (rfl)
theorem pM_saidBy_4 : alk tM_saidBy 4 = some (.iconst 1, 1) := (rfl)
theorem pM_saidBy_5 : alk tM_saidBy 5 = some (.isub, 1) := (rfl)
theorem pM_saidBy_6 : alk tM_saidBy 6 = some (.istore 4, 2) := (rfl)
theorem pM_saidBy_8 : alk tM_saidBy 8 = some (.iload 4, 2) := (rfl)
theorem pM_saidBy_10 : alk tM_saidBy 10 = some (.ifCond .lt 39, 3) := (rfl)
theorem pM_saidBy_13 : alk tM_saidBy 13 = some (.aload_n 0, 1) := (rfl)
theorem pM_saidBy_14 : alk tM_saidBy 14 = some (.getfield 123, 3) := (rfl)
theorem pM_saidBy_17 : alk tM_saidBy 17 = some (.iload 4, 2) := (rfl)
theorem pM_saidBy_19 : alk tM_saidBy 19 = some (.iaload, 1) := (rfl)
theorem pM_saidBy_20 : alk tM_saidBy 20 = some (.iload_n 1, 1) := (rfl)
theorem pM_saidBy_21 : alk tM_saidBy 21 = some (.if_icmp .ne 22, 3) := (rfl)
theorem pM_saidBy_24 : alk tM_saidBy 24 = some (.aload_n 0, 1) := (rfl)
theorem pM_saidBy_25 : alk tM_saidBy 25 = some (.iload 4, 2) := (rfl)
theorem pM_saidBy_27 : alk tM_saidBy 27 = some (.iload_n 2, 1) := (rfl)
theorem pM_saidBy_28 : alk tM_saidBy 28 = some (.iload_n 3, 1) := (rfl)
theorem pM_saidBy_29 : alk tM_saidBy 29 = some (.invokevirtual 308, 3) := (rfl)
theorem pM_saidBy_32 : alk tM_saidBy 32 = some (.ifCond .eq 11, 3) := (rfl)
theorem pM_saidBy_35 : alk tM_saidBy 35 = some (.aload_n 0, 1) := (rfl)
theorem pM_saidBy_36 : alk tM_saidBy 36 = some (.getfield 126, 3) := (rfl)
theorem pM_saidBy_39 : alk tM_saidBy 39 = some (.iload 4, 2) := (rfl)
theorem pM_saidBy_41 : alk tM_saidBy 41 = some (.iaload, 1) := (rfl)
theorem pM_saidBy_42 : alk tM_saidBy 42 = some (.ireturn, 1) := (rfl)
theorem pM_saidBy_43 : alk tM_saidBy 43 = some (.iinc 4 (-1), 3) := (rfl)
theorem pM_saidBy_46 : alk tM_saidBy 46 = some (.goto (-38), 3) := (rfl)
theorem pM_saidBy_49 : alk tM_saidBy 49 = some (.iload_n 1, 1) := (rfl)
theorem pM_saidBy_50 : alk tM_saidBy 50 = some (.iconst 3, 1) := (rfl)
theorem pM_saidBy_51 : alk tM_saidBy 51 = some (.if_icmp .ne 9, 3) := (rfl)
theorem pM_saidBy_54 : alk tM_saidBy 54 = some (.sipush 1440, 3) := (rfl)
theorem pM_saidBy_57 : alk tM_saidBy 57 = some (.goto 4, 3) := (rfl)
theorem pM_saidBy_60 : alk tM_saidBy 60 = some (.iconst 0, 1) := (rfl)
theorem pM_saidBy_61 : alk tM_saidBy 61 = some (.ireturn, 1) := (rfl)
def tM_holdsFor : TB := [(0, .aload_n 0, 1), (1, .getfield 200, 3), (4, .aload_n 0, 1), (5, .getfield 129, 3), (8, .iload_n 1, 1), (9, .iaload, 1), (10, .if_icmp .lt 16, 3), (13, .aload_n 0, 1), (14, .getfield 200, 3), (17, .aload_n 0, 1), (18, .getfield 132, 3), (21, .iload_n 1, 1), (22, .iaload, 1), (23, .if_icmp .lt 5, 3), (26, .iconst 0, 1), (27, .ireturn, 1), (28, .aload_n 0, 1), (29, .getfield 135, 3), (32, .iload_n 1, 1), (33, .iaload, 1), (34, .ifCond .ne 7, 3), (37, .iconst 1, 1), (38, .goto 4, 3), (41, .iconst 0, 1), (42, .istore 4, 2), (44, .iconst 3, 1), (45, .iload_n 1, 1), (46, .imul, 1), (47, .istore 5, 2), (49, .iload 5, 2), (51, .iconst 3, 1), (52, .iload_n 1, 1), (53, .imul, 1), (54, .aload_n 0, 1), (55, .getfield 135, 3), (58, .iload_n 1, 1), (59, .iaload, 1), (60, .iadd, 1), (61, .if_icmp .ge 32, 3), (64, .iload 4, 2), (66, .ifCond .ne 14, 3), (69, .aload_n 0, 1), (70, .iload 5, 2), (72, .iload_n 2, 1), (73, .iload_n 3, 1), (74, .invokevirtual 305, 3), (77, .ifCond .eq 7, 3), (80, .iconst 1, 1), (81, .goto 4, 3), (84, .iconst 0, 1), (85, .istore 4, 2), (87, .iinc 5 1, 3), (90, .goto (-41), 3), (93, .iload 4, 2), (95, .ireturn, 1)]
set_option maxRecDepth 100000 in
theorem kM_holdsFor : tbOk (mB mM_holdsFor) tM_holdsFor = true := by decide +kernel
theorem pM_holdsFor_0 : alk tM_holdsFor 0 = some (.aload_n 0, 1) := (rfl)
theorem pM_holdsFor_1 : alk tM_holdsFor 1 = some (.getfield 200, 3) := (rfl)
theorem pM_holdsFor_4 : alk tM_holdsFor 4 = some (.aload_n 0, 1) := (rfl)
theorem pM_holdsFor_5 : alk tM_holdsFor 5 = some (.getfield 129, 3) := (rfl)
theorem pM_holdsFor_8 : alk tM_holdsFor 8 = some (.iload_n 1, 1) := (rfl)
theorem pM_holdsFor_9 : alk tM_holdsFor 9 = some (.iaload, 1) := (rfl)
theorem pM_holdsFor_10 : alk tM_holdsFor 10 = some (.if_icmp .lt 16, 3) := (rfl)
theorem pM_holdsFor_13 : alk tM_holdsFor 13 = some (.aload_n 0, 1) := (rfl)
theorem pM_holdsFor_14 : alk tM_holdsFor 14 = some (.getfield 200, 3) := (rfl)
theorem pM_holdsFor_17 : alk tM_holdsFor 17 = some (.aload_n 0, 1) := (rfl)
theorem pM_holdsFor_18 : alk tM_holdsFor 18 = some (.getfield 132, 3) := (rfl)
theorem pM_holdsFor_21 : alk tM_holdsFor 21 = some (.iload_n 1, 1) := (rfl)
theorem pM_holdsFor_22 : alk tM_holdsFor 22 = some (.iaload, 1) := (rfl)
theorem pM_holdsFor_23 : alk tM_holdsFor 23 = some (.if_icmp .lt 5, 3) := (rfl)
theorem pM_holdsFor_26 : alk tM_holdsFor 26 = some (.iconst 0, 1) := (rfl)
theorem pM_holdsFor_27 : alk tM_holdsFor 27 = some (.ireturn, 1) := (rfl)
theorem pM_holdsFor_28 : alk tM_holdsFor 28 = some (.aload_n 0, 1) := (rfl)
theorem pM_holdsFor_29 : alk tM_holdsFor 29 = some (.getfield 135, 3) := (rfl)
theorem pM_holdsFor_32 : alk tM_holdsFor 32 = some (.iload_n 1, 1) := (rfl)
theorem pM_holdsFor_33 : alk tM_holdsFor 33 = some (.iaload, 1) := (rfl)
theorem pM_holdsFor_34 : alk tM_holdsFor 34 = some (.ifCond .ne 7, 3) := (rfl)
theorem pM_holdsFor_37 : alk tM_holdsFor 37 = some (.iconst 1, 1) := (rfl)
theorem pM_holdsFor_38 : alk tM_holdsFor 38 = some (.goto 4, 3) := (rfl)
theorem pM_holdsFor_41 : alk tM_holdsFor 41 = some (.iconst 0, 1) := (rfl)
theorem pM_holdsFor_42 : alk tM_holdsFor 42 = some (.istore 4, 2) := (rfl)
theorem pM_holdsFor_44 : alk tM_holdsFor 44 = some (.iconst 3, 1) := (rfl)
theorem pM_holdsFor_45 : alk tM_holdsFor 45 = some (.iload_n 1, 1) := (rfl)
theorem pM_holdsFor_46 : alk tM_holdsFor 46 = some (.imul, 1) := (rfl)
theorem pM_holdsFor_47 : alk tM_holdsFor 47 = some (.istore 5, 2) := (rfl)
theorem pM_holdsFor_49 : alk tM_holdsFor 49 = some (.iload 5, 2) := (rfl)
theorem pM_holdsFor_51 : alk tM_holdsFor 51 = some (.iconst 3, 1) := (rfl)
theorem pM_holdsFor_52 : alk tM_holdsFor 52 = some (.iload_n 1, 1) := (rfl)
theorem pM_holdsFor_53 : alk tM_holdsFor 53 = some (.imul, 1) := (rfl)
theorem pM_holdsFor_54 : alk tM_holdsFor 54 = some (.aload_n 0, 1) := (rfl)
theorem pM_holdsFor_55 : alk tM_holdsFor 55 = some (.getfield 135, 3) := (rfl)
theorem pM_holdsFor_58 : alk tM_holdsFor 58 = some (.iload_n 1, 1) := (rfl)
theorem pM_holdsFor_59 : alk tM_holdsFor 59 = some (.iaload, 1) := (rfl)
theorem pM_holdsFor_60 : alk tM_holdsFor 60 = some (.iadd, 1) := (rfl)
theorem pM_holdsFor_61 : alk tM_holdsFor 61 = some (.if_icmp .ge 32, 3) := (rfl)
theorem pM_holdsFor_64 : alk tM_holdsFor 64 = some (.iload 4, 2) := (rfl)
theorem pM_holdsFor_66 : alk tM_holdsFor 66 = some (.ifCond .ne 14, 3) := (rfl)
theorem pM_holdsFor_69 : alk tM_holdsFor 69 = some (.aload_n 0, 1) := (rfl)
theorem pM_holdsFor_70 : alk tM_holdsFor 70 = some (.iload 5, 2) := (rfl)
theorem pM_holdsFor_72 : alk tM_holdsFor 72 = some (.iload_n 2, 1) := (rfl)
theorem pM_holdsFor_73 : alk tM_holdsFor 73 = some (.iload_n 3, 1) := (rfl)
theorem pM_holdsFor_74 : alk tM_holdsFor 74 = some (.invokevirtual 305, 3) := (rfl)
theorem pM_holdsFor_77 : alk tM_holdsFor 77 = some (.ifCond .eq 7, 3) := (rfl)
theorem pM_holdsFor_80 : alk tM_holdsFor 80 = some (.iconst 1, 1) := (rfl)
theorem pM_holdsFor_81 : alk tM_holdsFor 81 = some (.goto 4, 3) := (rfl)
theorem pM_holdsFor_84 : alk tM_holdsFor 84 = some (.iconst 0, 1) := (rfl)
theorem pM_holdsFor_85 : alk tM_holdsFor 85 = some (.istore 4, 2) := (rfl)
theorem pM_holdsFor_87 : alk tM_holdsFor 87 = some (.iinc 5 1, 3) := (rfl)
theorem pM_holdsFor_90 : alk tM_holdsFor 90 = some (.goto (-41), 3) := (rfl)
theorem pM_holdsFor_93 : alk tM_holdsFor 93 = some (.iload 4, 2) := (rfl)
theorem pM_holdsFor_95 : alk tM_holdsFor 95 = some (.ireturn, 1) := (rfl)
def tM_isSo : TB := [(0, .aload_n 0, 1), (1, .getfield 141, 3), (4, .iload_n 1, 1), (5, .iaload, 1), (6, .iconst 4, 1), (7, .if_icmp .ne 10, 3), (10, .iload_n 3, 1), (11, .iconst (-1), 1), (12, .if_icmp .ne 5, 3), (15, .iconst 0, 1), (16, .ireturn, 1), (17, .aload_n 0, 1), (18, .aload_n 0, 1), (19, .getfield 141, 3), (22, .iload_n 1, 1), (23, .iaload, 1), (24, .iload_n 2, 1), (25, .iload_n 3, 1), (26, .invokevirtual 301, 3), (29, .istore 4, 2), (31, .aload_n 0, 1), (32, .getfield 144, 3), (35, .iload_n 1, 1), (36, .iaload, 1), (37, .bipush 61, 2), (39, .if_icmp .ne 22, 3), (42, .iload 4, 2), (44, .aload_n 0, 1), (45, .getfield 147, 3), (48, .iload_n 1, 1), (49, .iaload, 1), (50, .if_icmp .ne 7, 3), (53, .iconst 1, 1), (54, .goto 53, 3), (57, .iconst 0, 1), (58, .goto 49, 3), (61, .aload_n 0, 1), (62, .getfield 144, 3), (65, .iload_n 1, 1), (66, .iaload, 1), (67, .bipush 60, 2), (69, .if_icmp .ne 22, 3), (72, .iload 4, 2), (74, .aload_n 0, 1), (75, .getfield 147, 3), (78, .iload_n 1, 1), (79, .iaload, 1), (80, .if_icmp .ge 7, 3), (83, .iconst 1, 1), (84, .goto 23, 3), (87, .iconst 0, 1), (88, .goto 19, 3), (91, .iload 4, 2), (93, .aload_n 0, 1), (94, .getfield 147, 3), (97, .iload_n 1, 1), (98, .iaload, 1), (99, .if_icmp .le 7, 3), (102, .iconst 1, 1), (103, .goto 4, 3), (106, .iconst 0, 1), (107, .aload_n 0, 1), (108, .getfield 138, 3), (111, .iload_n 1, 1), (112, .baload, 1), (113, .if_icmp .eq 7, 3), (116, .iconst 1, 1), (117, .goto 4, 3), (120, .iconst 0, 1), (121, .ireturn, 1)]
set_option maxRecDepth 100000 in
theorem kM_isSo : tbOk (mB mM_isSo) tM_isSo = true := by decide +kernel
theorem pM_isSo_0 : alk tM_isSo 0 = some (.aload_n 0, 1) := (rfl)
theorem pM_isSo_1 : alk tM_isSo 1 = some (.getfield 141, 3) := (rfl)
theorem pM_isSo_4 : alk tM_isSo 4 = some (.iload_n 1, 1) := (rfl)
theorem pM_isSo_5 : alk tM_isSo 5 = some (.iaload, 1) := (rfl)
theorem pM_isSo_6 : alk tM_isSo 6 = some (.iconst 4, 1) := (rfl)
theorem pM_isSo_7 : alk tM_isSo 7 = some (.if_icmp .ne 10, 3) := (rfl)
theorem pM_isSo_10 : alk tM_isSo 10 = some (.iload_n 3, 1) := (rfl)
theorem pM_isSo_11 : alk tM_isSo 11 = some (.iconst (-1), 1) := (rfl)
theorem pM_isSo_12 : alk tM_isSo 12 = some (.if_icmp .ne 5, 3) := (rfl)
theorem pM_isSo_15 : alk tM_isSo 15 = some (.iconst 0, 1) := (rfl)
theorem pM_isSo_16 : alk tM_isSo 16 = some (.ireturn, 1) := (rfl)
theorem pM_isSo_17 : alk tM_isSo 17 = some (.aload_n 0, 1) := (rfl)
theorem pM_isSo_18 : alk tM_isSo 18 = some (.aload_n 0, 1) := (rfl)
theorem pM_isSo_19 : alk tM_isSo 19 = some (.getfield 141, 3) := (rfl)
theorem pM_isSo_22 : alk tM_isSo 22 = some (.iload_n 1, 1) := (rfl)
theorem pM_isSo_23 : alk tM_isSo 23 = some (.iaload, 1) := (rfl)
theorem pM_isSo_24 : alk tM_isSo 24 = some (.iload_n 2, 1) := (rfl)
theorem pM_isSo_25 : alk tM_isSo 25 = some (.iload_n 3, 1) := (rfl)
theorem pM_isSo_26 : alk tM_isSo 26 = some (.invokevirtual 301, 3) := (rfl)
theorem pM_isSo_29 : alk tM_isSo 29 = some (.istore 4, 2) := (rfl)
theorem pM_isSo_31 : alk tM_isSo 31 = some (.aload_n 0, 1) := (rfl)
theorem pM_isSo_32 : alk tM_isSo 32 = some (.getfield 144, 3) := (rfl)
theorem pM_isSo_35 : alk tM_isSo 35 = some (.iload_n 1, 1) := (rfl)
theorem pM_isSo_36 : alk tM_isSo 36 = some (.iaload, 1) := (rfl)
theorem pM_isSo_37 : alk tM_isSo 37 = some (.bipush 61, 2) := (rfl)
theorem pM_isSo_39 : alk tM_isSo 39 = some (.if_icmp .ne 22, 3) := (rfl)
theorem pM_isSo_42 : alk tM_isSo 42 = some (.iload 4, 2) := (rfl)
theorem pM_isSo_44 : alk tM_isSo 44 = some (.aload_n 0, 1) := (rfl)
theorem pM_isSo_45 : alk tM_isSo 45 = some (.getfield 147, 3) := (rfl)
theorem pM_isSo_48 : alk tM_isSo 48 = some (.iload_n 1, 1) := (rfl)
theorem pM_isSo_49 : alk tM_isSo 49 = some (.iaload, 1) := (rfl)
theorem pM_isSo_50 : alk tM_isSo 50 = some (.if_icmp .ne 7, 3) := (rfl)
theorem pM_isSo_53 : alk tM_isSo 53 = some (.iconst 1, 1) := (rfl)
theorem pM_isSo_54 : alk tM_isSo 54 = some (.goto 53, 3) := (rfl)
theorem pM_isSo_57 : alk tM_isSo 57 = some (.iconst 0, 1) := (rfl)
theorem pM_isSo_58 : alk tM_isSo 58 = some (.goto 49, 3) := (rfl)
theorem pM_isSo_61 : alk tM_isSo 61 = some (.aload_n 0, 1) := (rfl)
theorem pM_isSo_62 : alk tM_isSo 62 = some (.getfield 144, 3) := (rfl)
theorem pM_isSo_65 : alk tM_isSo 65 = some (.iload_n 1, 1) := (rfl)
theorem pM_isSo_66 : alk tM_isSo 66 = some (.iaload, 1) := (rfl)
theorem pM_isSo_67 : alk tM_isSo 67 = some (.bipush 60, 2) := (rfl)
theorem pM_isSo_69 : alk tM_isSo 69 = some (.if_icmp .ne 22, 3) := (rfl)
theorem pM_isSo_72 : alk tM_isSo 72 = some (.iload 4, 2) := (rfl)
theorem pM_isSo_74 : alk tM_isSo 74 = some (.aload_n 0, 1) := (rfl)
theorem pM_isSo_75 : alk tM_isSo 75 = some (.getfield 147, 3) := (rfl)
theorem pM_isSo_78 : alk tM_isSo 78 = some (.iload_n 1, 1) := (rfl)
theorem pM_isSo_79 : alk tM_isSo 79 = some (.iaload, 1) := (rfl)
theorem pM_isSo_80 : alk tM_isSo 80 = some (.if_icmp .ge 7, 3) := (rfl)
theorem pM_isSo_83 : alk tM_isSo 83 = some (.iconst 1, 1) := (rfl)
theorem pM_isSo_84 : alk tM_isSo 84 = some (.goto 23, 3) := (rfl)
theorem pM_isSo_87 : alk tM_isSo 87 = some (.iconst 0, 1) := (rfl)
theorem pM_isSo_88 : alk tM_isSo 88 = some (.goto 19, 3) := (rfl)
theorem pM_isSo_91 : alk tM_isSo 91 = some (.iload 4, 2) := (rfl)
theorem pM_isSo_93 : alk tM_isSo 93 = some (.aload_n 0, 1) := (rfl)
theorem pM_isSo_94 : alk tM_isSo 94 = some (.getfield 147, 3) := (rfl)
theorem pM_isSo_97 : alk tM_isSo 97 = some (.iload_n 1, 1) := (rfl)
theorem pM_isSo_98 : alk tM_isSo 98 = some (.iaload, 1) := (rfl)
theorem pM_isSo_99 : alk tM_isSo 99 = some (.if_icmp .le 7, 3) := (rfl)
theorem pM_isSo_102 : alk tM_isSo 102 = some (.iconst 1, 1) := (rfl)
theorem pM_isSo_103 : alk tM_isSo 103 = some (.goto 4, 3) := (rfl)
theorem pM_isSo_106 : alk tM_isSo 106 = some (.iconst 0, 1) := (rfl)
set_option maxRecDepth 20000 in
theorem pM_isSo_107 : alk tM_isSo 107 = some (.aload_n 0, 1) := (rfl)
set_option maxRecDepth 20000 in
theorem pM_isSo_108 : alk tM_isSo 108 = some (.getfield 138, 3) := (rfl)
set_option maxRecDepth 20000 in
theorem pM_isSo_111 : alk tM_isSo 111 = some (.iload_n 1, 1) := (rfl)
set_option maxRecDepth 20000 in
theorem pM_isSo_112 : alk tM_isSo 112 = some (.baload, 1) := (rfl)
set_option maxRecDepth 20000 in
theorem pM_isSo_113 : alk tM_isSo 113 = some (.if_icmp .eq 7, 3) := (rfl)
set_option maxRecDepth 20000 in
theorem pM_isSo_116 : alk tM_isSo 116 = some (.iconst 1, 1) := (rfl)
set_option maxRecDepth 20000 in
theorem pM_isSo_117 : alk tM_isSo 117 = some (.goto 4, 3) := (rfl)
set_option maxRecDepth 20000 in
theorem pM_isSo_120 : alk tM_isSo 120 = some (.iconst 0, 1) := (rfl)
set_option maxRecDepth 20000 in
theorem pM_isSo_121 : alk tM_isSo 121 = some (.ireturn, 1) := (rfl)
def tM_valueOf : TB := [(0, .iload_n 1, 1), (1, .tableswitch 58 0 3 #[31, 38, 45, 52], 31), (32, .aload_n 0, 1), (33, .getfield 43, 3), (36, .iload_n 2, 1), (37, .iaload, 1), (38, .ireturn, 1), (39, .aload_n 0, 1), (40, .getfield 46, 3), (43, .iload_n 2, 1), (44, .iaload, 1), (45, .ireturn, 1), (46, .aload_n 0, 1), (47, .getfield 49, 3), (50, .iload_n 2, 1), (51, .iaload, 1), (52, .ireturn, 1), (53, .aload_n 0, 1), (54, .iload_n 2, 1), (55, .invokevirtual 224, 3), (58, .ireturn, 1), (59, .iload_n 3, 1), (60, .ireturn, 1)]
set_option maxRecDepth 100000 in
theorem kM_valueOf : tbOk (mB mM_valueOf) tM_valueOf = true := by decide +kernel
theorem pM_valueOf_0 : alk tM_valueOf 0 = some (.iload_n 1, 1) := (rfl)
theorem pM_valueOf_1 : alk tM_valueOf 1 = some (.tableswitch 58 0 3 #[31, 38, 45, 52], 31) := (rfl)
theorem pM_valueOf_32 : alk tM_valueOf 32 = some (.aload_n 0, 1) := (rfl)
theorem pM_valueOf_33 : alk tM_valueOf 33 = some (.getfield 43, 3) := (rfl)
theorem pM_valueOf_36 : alk tM_valueOf 36 = some (.iload_n 2, 1) := (rfl)
theorem pM_valueOf_37 : alk tM_valueOf 37 = some (.iaload, 1) := (rfl)
theorem pM_valueOf_38 : alk tM_valueOf 38 = some (.ireturn, 1) := (rfl)
theorem pM_valueOf_39 : alk tM_valueOf 39 = some (.aload_n 0, 1) := (rfl)
theorem pM_valueOf_40 : alk tM_valueOf 40 = some (.getfield 46, 3) := (rfl)
theorem pM_valueOf_43 : alk tM_valueOf 43 = some (.iload_n 2, 1) := (rfl)
theorem pM_valueOf_44 : alk tM_valueOf 44 = some (.iaload, 1) := (rfl)
theorem pM_valueOf_45 : alk tM_valueOf 45 = some (.ireturn, 1) := (rfl)
theorem pM_valueOf_46 : alk tM_valueOf 46 = some (.aload_n 0, 1) := (rfl)
theorem pM_valueOf_47 : alk tM_valueOf 47 = some (.getfield 49, 3) := (rfl)
theorem pM_valueOf_50 : alk tM_valueOf 50 = some (.iload_n 2, 1) := (rfl)
theorem pM_valueOf_51 : alk tM_valueOf 51 = some (.iaload, 1) := (rfl)
theorem pM_valueOf_52 : alk tM_valueOf 52 = some (.ireturn, 1) := (rfl)
theorem pM_valueOf_53 : alk tM_valueOf 53 = some (.aload_n 0, 1) := (rfl)
theorem pM_valueOf_54 : alk tM_valueOf 54 = some (.iload_n 2, 1) := (rfl)
theorem pM_valueOf_55 : alk tM_valueOf 55 = some (.invokevirtual 224, 3) := (rfl)
theorem pM_valueOf_58 : alk tM_valueOf 58 = some (.ireturn, 1) := (rfl)
theorem pM_valueOf_59 : alk tM_valueOf 59 = some (.iload_n 3, 1) := (rfl)
theorem pM_valueOf_60 : alk tM_valueOf 60 = some (.ireturn, 1) := (rfl)
def tM_isInDoubt : TB := [(0, .aload_n 0, 1), (1, .getfield 70, 3), (4, .iload_n 1, 1), (5, .baload, 1), (6, .ifCond .eq 5, 3), (9, .iconst 0, 1), (10, .ireturn, 1), (11, .aload_n 0, 1), (12, .aload_n 0, 1), (13, .getfield 55, 3), (16, .iload_n 1, 1), (17, .iaload, 1), (18, .invokevirtual 335, 3), (21, .istore_n 2, 1), (22, .iload_n 2, 1), (23, .iconst (-1), 1), (24, .if_icmp .eq 18, 3), (27, .aload_n 0, 1), (28, .getfield 156, 3), (31, .iload_n 2, 1), (32, .iaload, 1), (33, .aload_n 0, 1), (34, .getfield 46, 3), (37, .iload_n 1, 1), (38, .iaload, 1), (39, .if_icmp .eq 7, 3), (42, .iconst 1, 1), (43, .goto 4, 3), (46, .iconst 0, 1), (47, .istore_n 3, 1), (48, .iconst 0, 1), (49, .istore 4, 2), (51, .iload 4, 2), (53, .aload_n 0, 1), (54, .getfield 332, 3), (57, .if_icmp .ge 54, 3), (60, .iload_n 3, 1), (61, .ifCond .ne 38, 3), (64, .aload_n 0, 1), (65, .getfield 156, 3), (68, .iload 4, 2), (70, .iaload, 1), (71, .aload_n 0, 1), (72, .getfield 46, 3), (75, .iload_n 1, 1), (76, .iaload, 1), (77, .if_icmp .eq 26, 3), (80, .aload_n 0, 1), (81, .getfield 153, 3), (84, .iload 4, 2), (86, .iaload, 1), (87, .aload_n 0, 1), (88, .getfield 55, 3), (91, .iload_n 1, 1), (92, .iaload, 1), (93, .invokestatic 338, 3), (96, .ifCond .eq 7, 3), (99, .iconst 1, 1), (100, .goto 4, 3), (103, .iconst 0, 1), (104, .istore_n 3, 1), (105, .iinc 4 1, 3), (108, .goto (-57), 3), (111, .iload_n 3, 1), (112, .ireturn, 1)]
set_option maxRecDepth 100000 in
theorem kM_isInDoubt : tbOk (mB mM_isInDoubt) tM_isInDoubt = true := by decide +kernel
theorem pM_isInDoubt_0 : alk tM_isInDoubt 0 = some (.aload_n 0, 1) := (rfl)
theorem pM_isInDoubt_1 : alk tM_isInDoubt 1 = some (.getfield 70, 3) := (rfl)
theorem pM_isInDoubt_4 : alk tM_isInDoubt 4 = some (.iload_n 1, 1) := (rfl)
theorem pM_isInDoubt_5 : alk tM_isInDoubt 5 = some (.baload, 1) := (rfl)
theorem pM_isInDoubt_6 : alk tM_isInDoubt 6 = some (.ifCond .eq 5, 3) := (rfl)
theorem pM_isInDoubt_9 : alk tM_isInDoubt 9 = some (.iconst 0, 1) := (rfl)
theorem pM_isInDoubt_10 : alk tM_isInDoubt 10 = some (.ireturn, 1) := (rfl)
theorem pM_isInDoubt_11 : alk tM_isInDoubt 11 = some (.aload_n 0, 1) := (rfl)
theorem pM_isInDoubt_12 : alk tM_isInDoubt 12 = some (.aload_n 0, 1) := (rfl)
theorem pM_isInDoubt_13 : alk tM_isInDoubt 13 = some (.getfield 55, 3) := (rfl)
theorem pM_isInDoubt_16 : alk tM_isInDoubt 16 = some (.iload_n 1, 1) := (rfl)
theorem pM_isInDoubt_17 : alk tM_isInDoubt 17 = some (.iaload, 1) := (rfl)
theorem pM_isInDoubt_18 : alk tM_isInDoubt 18 = some (.invokevirtual 335, 3) := (rfl)
theorem pM_isInDoubt_21 : alk tM_isInDoubt 21 = some (.istore_n 2, 1) := (rfl)
theorem pM_isInDoubt_22 : alk tM_isInDoubt 22 = some (.iload_n 2, 1) := (rfl)
theorem pM_isInDoubt_23 : alk tM_isInDoubt 23 = some (.iconst (-1), 1) := (rfl)
theorem pM_isInDoubt_24 : alk tM_isInDoubt 24 = some (.if_icmp .eq 18, 3) := (rfl)
theorem pM_isInDoubt_27 : alk tM_isInDoubt 27 = some (.aload_n 0, 1) := (rfl)
theorem pM_isInDoubt_28 : alk tM_isInDoubt 28 = some (.getfield 156, 3) := (rfl)
theorem pM_isInDoubt_31 : alk tM_isInDoubt 31 = some (.iload_n 2, 1) := (rfl)
theorem pM_isInDoubt_32 : alk tM_isInDoubt 32 = some (.iaload, 1) := (rfl)
theorem pM_isInDoubt_33 : alk tM_isInDoubt 33 = some (.aload_n 0, 1) := (rfl)
theorem pM_isInDoubt_34 : alk tM_isInDoubt 34 = some (.getfield 46, 3) := (rfl)
theorem pM_isInDoubt_37 : alk tM_isInDoubt 37 = some (.iload_n 1, 1) := (rfl)
theorem pM_isInDoubt_38 : alk tM_isInDoubt 38 = some (.iaload, 1) := (rfl)
theorem pM_isInDoubt_39 : alk tM_isInDoubt 39 = some (.if_icmp .eq 7, 3) := (rfl)
theorem pM_isInDoubt_42 : alk tM_isInDoubt 42 = some (.iconst 1, 1) := (rfl)
theorem pM_isInDoubt_43 : alk tM_isInDoubt 43 = some (.goto 4, 3) := (rfl)
theorem pM_isInDoubt_46 : alk tM_isInDoubt 46 = some (.iconst 0, 1) := (rfl)
theorem pM_isInDoubt_47 : alk tM_isInDoubt 47 = some (.istore_n 3, 1) := (rfl)
theorem pM_isInDoubt_48 : alk tM_isInDoubt 48 = some (.iconst 0, 1) := (rfl)
theorem pM_isInDoubt_49 : alk tM_isInDoubt 49 = some (.istore 4, 2) := (rfl)
theorem pM_isInDoubt_51 : alk tM_isInDoubt 51 = some (.iload 4, 2) := (rfl)
theorem pM_isInDoubt_53 : alk tM_isInDoubt 53 = some (.aload_n 0, 1) := (rfl)
theorem pM_isInDoubt_54 : alk tM_isInDoubt 54 = some (.getfield 332, 3) := (rfl)
theorem pM_isInDoubt_57 : alk tM_isInDoubt 57 = some (.if_icmp .ge 54, 3) := (rfl)
theorem pM_isInDoubt_60 : alk tM_isInDoubt 60 = some (.iload_n 3, 1) := (rfl)
theorem pM_isInDoubt_61 : alk tM_isInDoubt 61 = some (.ifCond .ne 38, 3) := (rfl)
theorem pM_isInDoubt_64 : alk tM_isInDoubt 64 = some (.aload_n 0, 1) := (rfl)
theorem pM_isInDoubt_65 : alk tM_isInDoubt 65 = some (.getfield 156, 3) := (rfl)
theorem pM_isInDoubt_68 : alk tM_isInDoubt 68 = some (.iload 4, 2) := (rfl)
theorem pM_isInDoubt_70 : alk tM_isInDoubt 70 = some (.iaload, 1) := (rfl)
theorem pM_isInDoubt_71 : alk tM_isInDoubt 71 = some (.aload_n 0, 1) := (rfl)
theorem pM_isInDoubt_72 : alk tM_isInDoubt 72 = some (.getfield 46, 3) := (rfl)
theorem pM_isInDoubt_75 : alk tM_isInDoubt 75 = some (.iload_n 1, 1) := (rfl)
theorem pM_isInDoubt_76 : alk tM_isInDoubt 76 = some (.iaload, 1) := (rfl)
theorem pM_isInDoubt_77 : alk tM_isInDoubt 77 = some (.if_icmp .eq 26, 3) := (rfl)
theorem pM_isInDoubt_80 : alk tM_isInDoubt 80 = some (.aload_n 0, 1) := (rfl)
theorem pM_isInDoubt_81 : alk tM_isInDoubt 81 = some (.getfield 153, 3) := (rfl)
theorem pM_isInDoubt_84 : alk tM_isInDoubt 84 = some (.iload 4, 2) := (rfl)
theorem pM_isInDoubt_86 : alk tM_isInDoubt 86 = some (.iaload, 1) := (rfl)
theorem pM_isInDoubt_87 : alk tM_isInDoubt 87 = some (.aload_n 0, 1) := (rfl)
theorem pM_isInDoubt_88 : alk tM_isInDoubt 88 = some (.getfield 55, 3) := (rfl)
theorem pM_isInDoubt_91 : alk tM_isInDoubt 91 = some (.iload_n 1, 1) := (rfl)
theorem pM_isInDoubt_92 : alk tM_isInDoubt 92 = some (.iaload, 1) := (rfl)
theorem pM_isInDoubt_93 : alk tM_isInDoubt 93 = some (.invokestatic 338, 3) := (rfl)
theorem pM_isInDoubt_96 : alk tM_isInDoubt 96 = some (.ifCond .eq 7, 3) := (rfl)
theorem pM_isInDoubt_99 : alk tM_isInDoubt 99 = some (.iconst 1, 1) := (rfl)
theorem pM_isInDoubt_100 : alk tM_isInDoubt 100 = some (.goto 4, 3) := (rfl)
theorem pM_isInDoubt_103 : alk tM_isInDoubt 103 = some (.iconst 0, 1) := (rfl)
theorem pM_isInDoubt_104 : alk tM_isInDoubt 104 = some (.istore_n 3, 1) := (rfl)
set_option maxRecDepth 20000 in
theorem pM_isInDoubt_105 : alk tM_isInDoubt 105 = some (.iinc 4 1, 3) := (rfl)
set_option maxRecDepth 20000 in
theorem pM_isInDoubt_108 : alk tM_isInDoubt 108 = some (.goto (-57), 3) := (rfl)
set_option maxRecDepth 20000 in
theorem pM_isInDoubt_111 : alk tM_isInDoubt 111 = some (.iload_n 3, 1) := (rfl)
set_option maxRecDepth 20000 in
theorem pM_isInDoubt_112 : alk tM_isInDoubt 112 = some (.ireturn, 1) := (rfl)
def tM_find : TB := [(0, .iconst 0, 1), (1, .istore_n 2, 1), (2, .iload_n 2, 1), (3, .aload_n 0, 1), (4, .getfield 332, 3), (7, .if_icmp .ge 21, 3), (10, .aload_n 0, 1), (11, .getfield 153, 3), (14, .iload_n 2, 1), (15, .iaload, 1), (16, .iload_n 1, 1), (17, .if_icmp .ne 5, 3), (20, .iload_n 2, 1), (21, .ireturn, 1), (22, .iinc 2 1, 3), (25, .goto (-23), 3), (28, .iconst (-1), 1), (29, .ireturn, 1)]
set_option maxRecDepth 100000 in
theorem kM_find : tbOk (mB mM_find) tM_find = true := by decide +kernel
theorem pM_find_0 : alk tM_find 0 = some (.iconst 0, 1) := (rfl)
theorem pM_find_1 : alk tM_find 1 = some (.istore_n 2, 1) := (rfl)
theorem pM_find_2 : alk tM_find 2 = some (.iload_n 2, 1) := (rfl)
theorem pM_find_3 : alk tM_find 3 = some (.aload_n 0, 1) := (rfl)
theorem pM_find_4 : alk tM_find 4 = some (.getfield 332, 3) := (rfl)
theorem pM_find_7 : alk tM_find 7 = some (.if_icmp .ge 21, 3) := (rfl)
theorem pM_find_10 : alk tM_find 10 = some (.aload_n 0, 1) := (rfl)
theorem pM_find_11 : alk tM_find 11 = some (.getfield 153, 3) := (rfl)
theorem pM_find_14 : alk tM_find 14 = some (.iload_n 2, 1) := (rfl)
theorem pM_find_15 : alk tM_find 15 = some (.iaload, 1) := (rfl)
theorem pM_find_16 : alk tM_find 16 = some (.iload_n 1, 1) := (rfl)
theorem pM_find_17 : alk tM_find 17 = some (.if_icmp .ne 5, 3) := (rfl)
theorem pM_find_20 : alk tM_find 20 = some (.iload_n 2, 1) := (rfl)
theorem pM_find_21 : alk tM_find 21 = some (.ireturn, 1) := (rfl)
theorem pM_find_22 : alk tM_find 22 = some (.iinc 2 1, 3) := (rfl)
theorem pM_find_25 : alk tM_find 25 = some (.goto (-23), 3) := (rfl)
theorem pM_find_28 : alk tM_find 28 = some (.iconst (-1), 1) := (rfl)
theorem pM_find_29 : alk tM_find 29 = some (.ireturn, 1) := (rfl)
def tM_isNear : TB := [(0, .iconst 0, 1), (1, .istore_n 2, 1), (2, .iload_n 0, 1), (3, .istore_n 3, 1), (4, .iload_n 1, 1), (5, .istore 4, 2), (7, .iconst 0, 1), (8, .istore 5, 2), (10, .iload 5, 2), (12, .iconst 4, 1), (13, .if_icmp .ge 41, 3), (16, .iload_n 2, 1), (17, .iload_n 3, 1), (18, .bipush 10, 2), (20, .irem, 1), (21, .iload 4, 2), (23, .bipush 10, 2), (25, .irem, 1), (26, .if_icmp .eq 7, 3), (29, .iconst 1, 1), (30, .goto 4, 3), (33, .iconst 0, 1), (34, .iadd, 1), (35, .istore_n 2, 1), (36, .iload_n 3, 1), (37, .bipush 10, 2), (39, .idiv, 1), (40, .istore_n 3, 1), (41, .iload 4, 2), (43, .bipush 10, 2), (45, .idiv, 1), (46, .istore 4, 2), (48, .iinc 5 1, 3), (51, .goto (-41), 3), (54, .iload_n 2, 1), (55, .iconst 1, 1), (56, .if_icmp .ne 7, 3), (59, .iconst 1, 1), (60, .goto 4, 3), (63, .iconst 0, 1), (64, .ireturn, 1)]
set_option maxRecDepth 100000 in
theorem kM_isNear : tbOk (mB mM_isNear) tM_isNear = true := by decide +kernel
theorem pM_isNear_0 : alk tM_isNear 0 = some (.iconst 0, 1) := (rfl)
theorem pM_isNear_1 : alk tM_isNear 1 = some (.istore_n 2, 1) := (rfl)
theorem pM_isNear_2 : alk tM_isNear 2 = some (.iload_n 0, 1) := (rfl)
theorem pM_isNear_3 : alk tM_isNear 3 = some (.istore_n 3, 1) := (rfl)
theorem pM_isNear_4 : alk tM_isNear 4 = some (.iload_n 1, 1) := (rfl)
theorem pM_isNear_5 : alk tM_isNear 5 = some (.istore 4, 2) := (rfl)
theorem pM_isNear_7 : alk tM_isNear 7 = some (.iconst 0, 1) := (rfl)
theorem pM_isNear_8 : alk tM_isNear 8 = some (.istore 5, 2) := (rfl)
theorem pM_isNear_10 : alk tM_isNear 10 = some (.iload 5, 2) := (rfl)
theorem pM_isNear_12 : alk tM_isNear 12 = some (.iconst 4, 1) := (rfl)
theorem pM_isNear_13 : alk tM_isNear 13 = some (.if_icmp .ge 41, 3) := (rfl)
theorem pM_isNear_16 : alk tM_isNear 16 = some (.iload_n 2, 1) := (rfl)
theorem pM_isNear_17 : alk tM_isNear 17 = some (.iload_n 3, 1) := (rfl)
theorem pM_isNear_18 : alk tM_isNear 18 = some (.bipush 10, 2) := (rfl)
theorem pM_isNear_20 : alk tM_isNear 20 = some (.irem, 1) := (rfl)
theorem pM_isNear_21 : alk tM_isNear 21 = some (.iload 4, 2) := (rfl)
theorem pM_isNear_23 : alk tM_isNear 23 = some (.bipush 10, 2) := (rfl)
theorem pM_isNear_25 : alk tM_isNear 25 = some (.irem, 1) := (rfl)
theorem pM_isNear_26 : alk tM_isNear 26 = some (.if_icmp .eq 7, 3) := (rfl)
theorem pM_isNear_29 : alk tM_isNear 29 = some (.iconst 1, 1) := (rfl)
theorem pM_isNear_30 : alk tM_isNear 30 = some (.goto 4, 3) := (rfl)
theorem pM_isNear_33 : alk tM_isNear 33 = some (.iconst 0, 1) := (rfl)
theorem pM_isNear_34 : alk tM_isNear 34 = some (.iadd, 1) := (rfl)
theorem pM_isNear_35 : alk tM_isNear 35 = some (.istore_n 2, 1) := (rfl)
theorem pM_isNear_36 : alk tM_isNear 36 = some (.iload_n 3, 1) := (rfl)
theorem pM_isNear_37 : alk tM_isNear 37 = some (.bipush 10, 2) := (rfl)
theorem pM_isNear_39 : alk tM_isNear 39 = some (.idiv, 1) := (rfl)
theorem pM_isNear_40 : alk tM_isNear 40 = some (.istore_n 3, 1) := (rfl)
theorem pM_isNear_41 : alk tM_isNear 41 = some (.iload 4, 2) := (rfl)
theorem pM_isNear_43 : alk tM_isNear 43 = some (.bipush 10, 2) := (rfl)
theorem pM_isNear_45 : alk tM_isNear 45 = some (.idiv, 1) := (rfl)
theorem pM_isNear_46 : alk tM_isNear 46 = some (.istore 4, 2) := (rfl)
theorem pM_isNear_48 : alk tM_isNear 48 = some (.iinc 5 1, 3) := (rfl)
theorem pM_isNear_51 : alk tM_isNear 51 = some (.goto (-41), 3) := (rfl)
theorem pM_isNear_54 : alk tM_isNear 54 = some (.iload_n 2, 1) := (rfl)
theorem pM_isNear_55 : alk tM_isNear 55 = some (.iconst 1, 1) := (rfl)
theorem pM_isNear_56 : alk tM_isNear 56 = some (.if_icmp .ne 7, 3) := (rfl)
theorem pM_isNear_59 : alk tM_isNear 59 = some (.iconst 1, 1) := (rfl)
theorem pM_isNear_60 : alk tM_isNear 60 = some (.goto 4, 3) := (rfl)
theorem pM_isNear_63 : alk tM_isNear 63 = some (.iconst 0, 1) := (rfl)
theorem pM_isNear_64 : alk tM_isNear 64 = some (.ireturn, 1) := (rfl)
def tM_drive : TB := [(0, .aload_n 0, 1), (1, .iload_n 1, 1), (2, .invokevirtual 218, 3), (5, .ifCond .eq 11, 3), (8, .aload_n 0, 1), (9, .iload_n 2, 1), (10, .invokevirtual 176, 3), (13, .ifCond .ne 10, 3), (16, .aload_n 0, 1), (17, .bipush (-3), 2), (19, .invokevirtual 169, 3), (22, .ireturn, 1), (23, .aload_n 0, 1), (24, .getfield 58, 3), (27, .iload_n 1, 1), (28, .iaload, 1), (29, .iconst (-1), 1), (30, .if_icmp .eq 36, 3), (33, .aload_n 0, 1), (34, .getfield 58, 3), (37, .iload_n 1, 1), (38, .iaload, 1), (39, .iload_n 2, 1), (40, .if_icmp .eq 26, 3), (43, .aload_n 0, 1), (44, .iload_n 2, 1), (45, .invokevirtual 212, 3), (48, .ifCond .ne 18, 3), (51, .aload_n 0, 1), (52, .getfield 13, 3), (55, .aload_n 0, 1), (56, .getfield 58, 3), (59, .iload_n 1, 1), (60, .iaload, 1), (61, .iaload, 1), (62, .iconst 3, 1), (63, .if_icmp .ne 10, 3), (66, .aload_n 0, 1), (67, .bipush (-7), 2), (69, .invokevirtual 169, 3), (72, .ireturn, 1), (73, .aload_n 0, 1), (74, .aload_n 0, 1), (75, .getfield 58, 3), (78, .iload_n 1, 1), (79, .iaload, 1), (80, .iload_n 2, 1), (81, .invokevirtual 191, 3), (84, .iconst (-1), 1), (85, .if_icmp .ne 10, 3), (88, .aload_n 0, 1), (89, .bipush (-2), 2), (91, .invokevirtual 169, 3), (94, .ireturn, 1), (95, .aload_n 0, 1), (96, .getfield 64, 3), (99, .iload_n 1, 1), (100, .aload_n 0, 1), (101, .invokevirtual 233, 3), (104, .iastore, 1), (105, .aload_n 0, 1), (106, .getfield 58, 3), (109, .iload_n 1, 1), (110, .iconst (-1), 1), (111, .iastore, 1), (112, .aload_n 0, 1), (113, .getfield 61, 3), (116, .iload_n 1, 1), (117, .iload_n 2, 1), (118, .iastore, 1), (119, .aload_n 0, 1), (120, .getfield 64, 3), (123, .iload_n 1, 1), (124, .iaload, 1), (125, .ireturn, 1)]
set_option maxRecDepth 100000 in
theorem kM_drive : tbOk (mB mM_drive) tM_drive = true := by decide +kernel
theorem pM_drive_0 : alk tM_drive 0 = some (.aload_n 0, 1) := (rfl)
theorem pM_drive_1 : alk tM_drive 1 = some (.iload_n 1, 1) := (rfl)
theorem pM_drive_2 : alk tM_drive 2 = some (.invokevirtual 218, 3) := (rfl)
theorem pM_drive_5 : alk tM_drive 5 = some (.ifCond .eq 11, 3) := (rfl)
theorem pM_drive_8 : alk tM_drive 8 = some (.aload_n 0, 1) := (rfl)
theorem pM_drive_9 : alk tM_drive 9 = some (.iload_n 2, 1) := (rfl)
theorem pM_drive_10 : alk tM_drive 10 = some (.invokevirtual 176, 3) := (rfl)
theorem pM_drive_13 : alk tM_drive 13 = some (.ifCond .ne 10, 3) := (rfl)
theorem pM_drive_16 : alk tM_drive 16 = some (.aload_n 0, 1) := (rfl)
theorem pM_drive_17 : alk tM_drive 17 = some (.bipush (-3), 2) := (rfl)
theorem pM_drive_19 : alk tM_drive 19 = some (.invokevirtual 169, 3) := (rfl)
theorem pM_drive_22 : alk tM_drive 22 = some (.ireturn, 1) := (rfl)
theorem pM_drive_23 : alk tM_drive 23 = some (.aload_n 0, 1) := (rfl)
theorem pM_drive_24 : alk tM_drive 24 = some (.getfield 58, 3) := (rfl)
theorem pM_drive_27 : alk tM_drive 27 = some (.iload_n 1, 1) := (rfl)
theorem pM_drive_28 : alk tM_drive 28 = some (.iaload, 1) := (rfl)
theorem pM_drive_29 : alk tM_drive 29 = some (.iconst (-1), 1) := (rfl)
theorem pM_drive_30 : alk tM_drive 30 = some (.if_icmp .eq 36, 3) := (rfl)
theorem pM_drive_33 : alk tM_drive 33 = some (.aload_n 0, 1) := (rfl)
theorem pM_drive_34 : alk tM_drive 34 = some (.getfield 58, 3) := (rfl)
theorem pM_drive_37 : alk tM_drive 37 = some (.iload_n 1, 1) := (rfl)
theorem pM_drive_38 : alk tM_drive 38 = some (.iaload, 1) := (rfl)
theorem pM_drive_39 : alk tM_drive 39 = some (.iload_n 2, 1) := (rfl)
theorem pM_drive_40 : alk tM_drive 40 = some (.if_icmp .eq 26, 3) := (rfl)
theorem pM_drive_43 : alk tM_drive 43 = some (.aload_n 0, 1) := (rfl)
theorem pM_drive_44 : alk tM_drive 44 = some (.iload_n 2, 1) := (rfl)
theorem pM_drive_45 : alk tM_drive 45 = some (.invokevirtual 212, 3) := (rfl)
theorem pM_drive_48 : alk tM_drive 48 = some (.ifCond .ne 18, 3) := (rfl)
theorem pM_drive_51 : alk tM_drive 51 = some (.aload_n 0, 1) := (rfl)
theorem pM_drive_52 : alk tM_drive 52 = some (.getfield 13, 3) := (rfl)
theorem pM_drive_55 : alk tM_drive 55 = some (.aload_n 0, 1) := (rfl)
theorem pM_drive_56 : alk tM_drive 56 = some (.getfield 58, 3) := (rfl)
theorem pM_drive_59 : alk tM_drive 59 = some (.iload_n 1, 1) := (rfl)
theorem pM_drive_60 : alk tM_drive 60 = some (.iaload, 1) := (rfl)
theorem pM_drive_61 : alk tM_drive 61 = some (.iaload, 1) := (rfl)
theorem pM_drive_62 : alk tM_drive 62 = some (.iconst 3, 1) := (rfl)
theorem pM_drive_63 : alk tM_drive 63 = some (.if_icmp .ne 10, 3) := (rfl)
theorem pM_drive_66 : alk tM_drive 66 = some (.aload_n 0, 1) := (rfl)
theorem pM_drive_67 : alk tM_drive 67 = some (.bipush (-7), 2) := (rfl)
theorem pM_drive_69 : alk tM_drive 69 = some (.invokevirtual 169, 3) := (rfl)
theorem pM_drive_72 : alk tM_drive 72 = some (.ireturn, 1) := (rfl)
theorem pM_drive_73 : alk tM_drive 73 = some (.aload_n 0, 1) := (rfl)
theorem pM_drive_74 : alk tM_drive 74 = some (.aload_n 0, 1) := (rfl)
theorem pM_drive_75 : alk tM_drive 75 = some (.getfield 58, 3) := (rfl)
theorem pM_drive_78 : alk tM_drive 78 = some (.iload_n 1, 1) := (rfl)
theorem pM_drive_79 : alk tM_drive 79 = some (.iaload, 1) := (rfl)
theorem pM_drive_80 : alk tM_drive 80 = some (.iload_n 2, 1) := (rfl)
theorem pM_drive_81 : alk tM_drive 81 = some (.invokevirtual 191, 3) := (rfl)
theorem pM_drive_84 : alk tM_drive 84 = some (.iconst (-1), 1) := (rfl)
theorem pM_drive_85 : alk tM_drive 85 = some (.if_icmp .ne 10, 3) := (rfl)
theorem pM_drive_88 : alk tM_drive 88 = some (.aload_n 0, 1) := (rfl)
theorem pM_drive_89 : alk tM_drive 89 = some (.bipush (-2), 2) := (rfl)
theorem pM_drive_91 : alk tM_drive 91 = some (.invokevirtual 169, 3) := (rfl)
theorem pM_drive_94 : alk tM_drive 94 = some (.ireturn, 1) := (rfl)
theorem pM_drive_95 : alk tM_drive 95 = some (.aload_n 0, 1) := (rfl)
theorem pM_drive_96 : alk tM_drive 96 = some (.getfield 64, 3) := (rfl)
theorem pM_drive_99 : alk tM_drive 99 = some (.iload_n 1, 1) := (rfl)
theorem pM_drive_100 : alk tM_drive 100 = some (.aload_n 0, 1) := (rfl)
theorem pM_drive_101 : alk tM_drive 101 = some (.invokevirtual 233, 3) := (rfl)
theorem pM_drive_104 : alk tM_drive 104 = some (.iastore, 1) := (rfl)
theorem pM_drive_105 : alk tM_drive 105 = some (.aload_n 0, 1) := (rfl)
set_option maxRecDepth 20000 in
theorem pM_drive_106 : alk tM_drive 106 = some (.getfield 58, 3) := (rfl)
set_option maxRecDepth 20000 in
theorem pM_drive_109 : alk tM_drive 109 = some (.iload_n 1, 1) := (rfl)
set_option maxRecDepth 20000 in
theorem pM_drive_110 : alk tM_drive 110 = some (.iconst (-1), 1) := (rfl)
set_option maxRecDepth 20000 in
theorem pM_drive_111 : alk tM_drive 111 = some (.iastore, 1) := (rfl)
set_option maxRecDepth 20000 in
theorem pM_drive_112 : alk tM_drive 112 = some (.aload_n 0, 1) := (rfl)
set_option maxRecDepth 20000 in
theorem pM_drive_113 : alk tM_drive 113 = some (.getfield 61, 3) := (rfl)
set_option maxRecDepth 20000 in
theorem pM_drive_116 : alk tM_drive 116 = some (.iload_n 1, 1) := (rfl)
set_option maxRecDepth 20000 in
theorem pM_drive_117 : alk tM_drive 117 = some (.iload_n 2, 1) := (rfl)
set_option maxRecDepth 20000 in
theorem pM_drive_118 : alk tM_drive 118 = some (.iastore, 1) := (rfl)
set_option maxRecDepth 20000 in
theorem pM_drive_119 : alk tM_drive 119 = some (.aload_n 0, 1) := (rfl)
set_option maxRecDepth 20000 in
theorem pM_drive_120 : alk tM_drive 120 = some (.getfield 64, 3) := (rfl)
set_option maxRecDepth 20000 in
theorem pM_drive_123 : alk tM_drive 123 = some (.iload_n 1, 1) := (rfl)
set_option maxRecDepth 20000 in
theorem pM_drive_124 : alk tM_drive 124 = some (.iaload, 1) := (rfl)
set_option maxRecDepth 20000 in
theorem pM_drive_125 : alk tM_drive 125 = some (.ireturn, 1) := (rfl)
def tM_goes : TB := [(0, .aload_n 0, 1), (1, .getfield 200, 3), (4, .istore_n 1, 1), (5, .aload_n 0, 1), (6, .iload_n 1, 1), (7, .invokevirtual 203, 3), (10, .ifCond .ne 9, 3), (13, .iinc 1 1, 3), (16, .goto (-11), 3), (19, .iconst 0, 1), (20, .istore_n 2, 1), (21, .iload_n 2, 1), (22, .aload_n 0, 1), (23, .getfield 184, 3), (26, .if_icmp .ge 68, 3), (29, .aload_n 0, 1), (30, .getfield 34, 3), (33, .aload_n 0, 1), (34, .getfield 194, 3), (37, .aload_n 0, 1), (38, .getfield 31, 3), (41, .iload_n 2, 1), (42, .iaload, 1), (43, .iastore, 1), (44, .aload_n 0, 1), (45, .getfield 37, 3), (48, .aload_n 0, 1), (49, .getfield 194, 3), (52, .iload_n 1, 1), (53, .iastore, 1), (54, .iload_n 1, 1), (55, .aload_n 0, 1), (56, .getfield 25, 3), (59, .aload_n 0, 1), (60, .getfield 31, 3), (63, .iload_n 2, 1), (64, .iaload, 1), (65, .iaload, 1), (66, .iadd, 1), (67, .istore_n 1, 1), (68, .aload_n 0, 1), (69, .getfield 40, 3), (72, .aload_n 0, 1), (73, .getfield 194, 3), (76, .iload_n 1, 1), (77, .iastore, 1), (78, .aload_n 0, 1), (79, .dup, 1), (80, .getfield 194, 3), (83, .iconst 1, 1), (84, .iadd, 1), (85, .putfield 194, 3), (88, .iinc 2 1, 3), (91, .goto (-70), 3), (94, .iload_n 1, 1), (95, .ireturn, 1)]
set_option maxRecDepth 100000 in
theorem kM_goes : tbOk (mB mM_goes) tM_goes = true := by decide +kernel
theorem pM_goes_0 : alk tM_goes 0 = some (.aload_n 0, 1) := (rfl)
theorem pM_goes_1 : alk tM_goes 1 = some (.getfield 200, 3) := (rfl)
theorem pM_goes_4 : alk tM_goes 4 = some (.istore_n 1, 1) := (rfl)
theorem pM_goes_5 : alk tM_goes 5 = some (.aload_n 0, 1) := (rfl)
theorem pM_goes_6 : alk tM_goes 6 = some (.iload_n 1, 1) := (rfl)
theorem pM_goes_7 : alk tM_goes 7 = some (.invokevirtual 203, 3) := (rfl)
theorem pM_goes_10 : alk tM_goes 10 = some (.ifCond .ne 9, 3) := (rfl)
theorem pM_goes_13 : alk tM_goes 13 = some (.iinc 1 1, 3) := (rfl)
theorem pM_goes_16 : alk tM_goes 16 = some (.goto (-11), 3) := (rfl)
theorem pM_goes_19 : alk tM_goes 19 = some (.iconst 0, 1) := (rfl)
theorem pM_goes_20 : alk tM_goes 20 = some (.istore_n 2, 1) := (rfl)
theorem pM_goes_21 : alk tM_goes 21 = some (.iload_n 2, 1) := (rfl)
theorem pM_goes_22 : alk tM_goes 22 = some (.aload_n 0, 1) := (rfl)
theorem pM_goes_23 : alk tM_goes 23 = some (.getfield 184, 3) := (rfl)
theorem pM_goes_26 : alk tM_goes 26 = some (.if_icmp .ge 68, 3) := (rfl)
theorem pM_goes_29 : alk tM_goes 29 = some (.aload_n 0, 1) := (rfl)
theorem pM_goes_30 : alk tM_goes 30 = some (.getfield 34, 3) := (rfl)
theorem pM_goes_33 : alk tM_goes 33 = some (.aload_n 0, 1) := (rfl)
theorem pM_goes_34 : alk tM_goes 34 = some (.getfield 194, 3) := (rfl)
theorem pM_goes_37 : alk tM_goes 37 = some (.aload_n 0, 1) := (rfl)
theorem pM_goes_38 : alk tM_goes 38 = some (.getfield 31, 3) := (rfl)
theorem pM_goes_41 : alk tM_goes 41 = some (.iload_n 2, 1) := (rfl)
theorem pM_goes_42 : alk tM_goes 42 = some (.iaload, 1) := (rfl)
theorem pM_goes_43 : alk tM_goes 43 = some (.iastore, 1) := (rfl)
theorem pM_goes_44 : alk tM_goes 44 = some (.aload_n 0, 1) := (rfl)
theorem pM_goes_45 : alk tM_goes 45 = some (.getfield 37, 3) := (rfl)
theorem pM_goes_48 : alk tM_goes 48 = some (.aload_n 0, 1) := (rfl)
theorem pM_goes_49 : alk tM_goes 49 = some (.getfield 194, 3) := (rfl)
theorem pM_goes_52 : alk tM_goes 52 = some (.iload_n 1, 1) := (rfl)
theorem pM_goes_53 : alk tM_goes 53 = some (.iastore, 1) := (rfl)
theorem pM_goes_54 : alk tM_goes 54 = some (.iload_n 1, 1) := (rfl)
theorem pM_goes_55 : alk tM_goes 55 = some (.aload_n 0, 1) := (rfl)
theorem pM_goes_56 : alk tM_goes 56 = some (.getfield 25, 3) := (rfl)
theorem pM_goes_59 : alk tM_goes 59 = some (.aload_n 0, 1) := (rfl)
theorem pM_goes_60 : alk tM_goes 60 = some (.getfield 31, 3) := (rfl)
theorem pM_goes_63 : alk tM_goes 63 = some (.iload_n 2, 1) := (rfl)
theorem pM_goes_64 : alk tM_goes 64 = some (.iaload, 1) := (rfl)
theorem pM_goes_65 : alk tM_goes 65 = some (.iaload, 1) := (rfl)
theorem pM_goes_66 : alk tM_goes 66 = some (.iadd, 1) := (rfl)
theorem pM_goes_67 : alk tM_goes 67 = some (.istore_n 1, 1) := (rfl)
theorem pM_goes_68 : alk tM_goes 68 = some (.aload_n 0, 1) := (rfl)
theorem pM_goes_69 : alk tM_goes 69 = some (.getfield 40, 3) := (rfl)
theorem pM_goes_72 : alk tM_goes 72 = some (.aload_n 0, 1) := (rfl)
theorem pM_goes_73 : alk tM_goes 73 = some (.getfield 194, 3) := (rfl)
theorem pM_goes_76 : alk tM_goes 76 = some (.iload_n 1, 1) := (rfl)
theorem pM_goes_77 : alk tM_goes 77 = some (.iastore, 1) := (rfl)
theorem pM_goes_78 : alk tM_goes 78 = some (.aload_n 0, 1) := (rfl)
theorem pM_goes_79 : alk tM_goes 79 = some (.dup, 1) := (rfl)
theorem pM_goes_80 : alk tM_goes 80 = some (.getfield 194, 3) := (rfl)
theorem pM_goes_83 : alk tM_goes 83 = some (.iconst 1, 1) := (rfl)
theorem pM_goes_84 : alk tM_goes 84 = some (.iadd, 1) := (rfl)
theorem pM_goes_85 : alk tM_goes 85 = some (.putfield 194, 3) := (rfl)
theorem pM_goes_88 : alk tM_goes 88 = some (.iinc 2 1, 3) := (rfl)
theorem pM_goes_91 : alk tM_goes 91 = some (.goto (-70), 3) := (rfl)
theorem pM_goes_94 : alk tM_goes 94 = some (.iload_n 1, 1) := (rfl)
theorem pM_goes_95 : alk tM_goes 95 = some (.ireturn, 1) := (rfl)
def tM_mayBegin : TB := [(0, .iload_n 1, 1), (1, .istore_n 2, 1), (2, .iconst 0, 1), (3, .istore_n 3, 1), (4, .iload_n 3, 1), (5, .aload_n 0, 1), (6, .getfield 184, 3), (9, .if_icmp .ge 52, 3), (12, .aload_n 0, 1), (13, .aload_n 0, 1), (14, .getfield 31, 3), (17, .iload_n 3, 1), (18, .iaload, 1), (19, .iload_n 2, 1), (20, .iload_n 2, 1), (21, .aload_n 0, 1), (22, .getfield 25, 3), (25, .aload_n 0, 1), (26, .getfield 31, 3), (29, .iload_n 3, 1), (30, .iaload, 1), (31, .iaload, 1), (32, .iadd, 1), (33, .invokevirtual 197, 3), (36, .ifCond .ne 5, 3), (39, .iconst 0, 1), (40, .ireturn, 1), (41, .iload_n 2, 1), (42, .aload_n 0, 1), (43, .getfield 25, 3), (46, .aload_n 0, 1), (47, .getfield 31, 3), (50, .iload_n 3, 1), (51, .iaload, 1), (52, .iaload, 1), (53, .iadd, 1), (54, .istore_n 2, 1), (55, .iinc 3 1, 3), (58, .goto (-54), 3), (61, .iconst 1, 1), (62, .ireturn, 1)]
set_option maxRecDepth 100000 in
theorem kM_mayBegin : tbOk (mB mM_mayBegin) tM_mayBegin = true := by decide +kernel
theorem pM_mayBegin_0 : alk tM_mayBegin 0 = some (.iload_n 1, 1) := (rfl)
theorem pM_mayBegin_1 : alk tM_mayBegin 1 = some (.istore_n 2, 1) := (rfl)
theorem pM_mayBegin_2 : alk tM_mayBegin 2 = some (.iconst 0, 1) := (rfl)
theorem pM_mayBegin_3 : alk tM_mayBegin 3 = some (.istore_n 3, 1) := (rfl)
theorem pM_mayBegin_4 : alk tM_mayBegin 4 = some (.iload_n 3, 1) := (rfl)
theorem pM_mayBegin_5 : alk tM_mayBegin 5 = some (.aload_n 0, 1) := (rfl)
theorem pM_mayBegin_6 : alk tM_mayBegin 6 = some (.getfield 184, 3) := (rfl)
theorem pM_mayBegin_9 : alk tM_mayBegin 9 = some (.if_icmp .ge 52, 3) := (rfl)
theorem pM_mayBegin_12 : alk tM_mayBegin 12 = some (.aload_n 0, 1) := (rfl)
theorem pM_mayBegin_13 : alk tM_mayBegin 13 = some (.aload_n 0, 1) := (rfl)
theorem pM_mayBegin_14 : alk tM_mayBegin 14 = some (.getfield 31, 3) := (rfl)
theorem pM_mayBegin_17 : alk tM_mayBegin 17 = some (.iload_n 3, 1) := (rfl)
theorem pM_mayBegin_18 : alk tM_mayBegin 18 = some (.iaload, 1) := (rfl)
theorem pM_mayBegin_19 : alk tM_mayBegin 19 = some (.iload_n 2, 1) := (rfl)
theorem pM_mayBegin_20 : alk tM_mayBegin 20 = some (.iload_n 2, 1) := (rfl)
theorem pM_mayBegin_21 : alk tM_mayBegin 21 = some (.aload_n 0, 1) := (rfl)
theorem pM_mayBegin_22 : alk tM_mayBegin 22 = some (.getfield 25, 3) := (rfl)
theorem pM_mayBegin_25 : alk tM_mayBegin 25 = some (.aload_n 0, 1) := (rfl)
theorem pM_mayBegin_26 : alk tM_mayBegin 26 = some (.getfield 31, 3) := (rfl)
theorem pM_mayBegin_29 : alk tM_mayBegin 29 = some (.iload_n 3, 1) := (rfl)
theorem pM_mayBegin_30 : alk tM_mayBegin 30 = some (.iaload, 1) := (rfl)
theorem pM_mayBegin_31 : alk tM_mayBegin 31 = some (.iaload, 1) := (rfl)
theorem pM_mayBegin_32 : alk tM_mayBegin 32 = some (.iadd, 1) := (rfl)
theorem pM_mayBegin_33 : alk tM_mayBegin 33 = some (.invokevirtual 197, 3) := (rfl)
theorem pM_mayBegin_36 : alk tM_mayBegin 36 = some (.ifCond .ne 5, 3) := (rfl)
theorem pM_mayBegin_39 : alk tM_mayBegin 39 = some (.iconst 0, 1) := (rfl)
theorem pM_mayBegin_40 : alk tM_mayBegin 40 = some (.ireturn, 1) := (rfl)
theorem pM_mayBegin_41 : alk tM_mayBegin 41 = some (.iload_n 2, 1) := (rfl)
theorem pM_mayBegin_42 : alk tM_mayBegin 42 = some (.aload_n 0, 1) := (rfl)
theorem pM_mayBegin_43 : alk tM_mayBegin 43 = some (.getfield 25, 3) := (rfl)
theorem pM_mayBegin_46 : alk tM_mayBegin 46 = some (.aload_n 0, 1) := (rfl)
theorem pM_mayBegin_47 : alk tM_mayBegin 47 = some (.getfield 31, 3) := (rfl)
theorem pM_mayBegin_50 : alk tM_mayBegin 50 = some (.iload_n 3, 1) := (rfl)
theorem pM_mayBegin_51 : alk tM_mayBegin 51 = some (.iaload, 1) := (rfl)
theorem pM_mayBegin_52 : alk tM_mayBegin 52 = some (.iaload, 1) := (rfl)
theorem pM_mayBegin_53 : alk tM_mayBegin 53 = some (.iadd, 1) := (rfl)
theorem pM_mayBegin_54 : alk tM_mayBegin 54 = some (.istore_n 2, 1) := (rfl)
theorem pM_mayBegin_55 : alk tM_mayBegin 55 = some (.iinc 3 1, 3) := (rfl)
theorem pM_mayBegin_58 : alk tM_mayBegin 58 = some (.goto (-54), 3) := (rfl)
theorem pM_mayBegin_61 : alk tM_mayBegin 61 = some (.iconst 1, 1) := (rfl)
theorem pM_mayBegin_62 : alk tM_mayBegin 62 = some (.ireturn, 1) := (rfl)
def tM_isFree : TB := [(0, .iconst 1, 1), (1, .istore 4, 2), (3, .iconst 0, 1), (4, .istore 5, 2), (6, .iload 5, 2), (8, .aload_n 0, 1), (9, .getfield 194, 3), (12, .if_icmp .ge 54, 3), (15, .iload 4, 2), (17, .ifCond .eq 40, 3), (20, .aload_n 0, 1), (21, .getfield 34, 3), (24, .iload 5, 2), (26, .iaload, 1), (27, .iload_n 1, 1), (28, .if_icmp .ne 25, 3), (31, .aload_n 0, 1), (32, .getfield 40, 3), (35, .iload 5, 2), (37, .iaload, 1), (38, .iload_n 2, 1), (39, .if_icmp .le 14, 3), (42, .aload_n 0, 1), (43, .getfield 37, 3), (46, .iload 5, 2), (48, .iaload, 1), (49, .iload_n 3, 1), (50, .if_icmp .lt 7, 3), (53, .iconst 1, 1), (54, .goto 4, 3), (57, .iconst 0, 1), (58, .istore 4, 2), (60, .iinc 5 1, 3), (63, .goto (-57), 3), (66, .iload 4, 2), (68, .ireturn, 1)]
set_option maxRecDepth 100000 in
theorem kM_isFree : tbOk (mB mM_isFree) tM_isFree = true := by decide +kernel
theorem pM_isFree_0 : alk tM_isFree 0 = some (.iconst 1, 1) := (rfl)
theorem pM_isFree_1 : alk tM_isFree 1 = some (.istore 4, 2) := (rfl)
theorem pM_isFree_3 : alk tM_isFree 3 = some (.iconst 0, 1) := (rfl)
theorem pM_isFree_4 : alk tM_isFree 4 = some (.istore 5, 2) := (rfl)
theorem pM_isFree_6 : alk tM_isFree 6 = some (.iload 5, 2) := (rfl)
theorem pM_isFree_8 : alk tM_isFree 8 = some (.aload_n 0, 1) := (rfl)
theorem pM_isFree_9 : alk tM_isFree 9 = some (.getfield 194, 3) := (rfl)
theorem pM_isFree_12 : alk tM_isFree 12 = some (.if_icmp .ge 54, 3) := (rfl)
theorem pM_isFree_15 : alk tM_isFree 15 = some (.iload 4, 2) := (rfl)
theorem pM_isFree_17 : alk tM_isFree 17 = some (.ifCond .eq 40, 3) := (rfl)
theorem pM_isFree_20 : alk tM_isFree 20 = some (.aload_n 0, 1) := (rfl)
theorem pM_isFree_21 : alk tM_isFree 21 = some (.getfield 34, 3) := (rfl)
theorem pM_isFree_24 : alk tM_isFree 24 = some (.iload 5, 2) := (rfl)
theorem pM_isFree_26 : alk tM_isFree 26 = some (.iaload, 1) := (rfl)
theorem pM_isFree_27 : alk tM_isFree 27 = some (.iload_n 1, 1) := (rfl)
theorem pM_isFree_28 : alk tM_isFree 28 = some (.if_icmp .ne 25, 3) := (rfl)
theorem pM_isFree_31 : alk tM_isFree 31 = some (.aload_n 0, 1) := (rfl)
theorem pM_isFree_32 : alk tM_isFree 32 = some (.getfield 40, 3) := (rfl)
theorem pM_isFree_35 : alk tM_isFree 35 = some (.iload 5, 2) := (rfl)
theorem pM_isFree_37 : alk tM_isFree 37 = some (.iaload, 1) := (rfl)
theorem pM_isFree_38 : alk tM_isFree 38 = some (.iload_n 2, 1) := (rfl)
theorem pM_isFree_39 : alk tM_isFree 39 = some (.if_icmp .le 14, 3) := (rfl)
theorem pM_isFree_42 : alk tM_isFree 42 = some (.aload_n 0, 1) := (rfl)
theorem pM_isFree_43 : alk tM_isFree 43 = some (.getfield 37, 3) := (rfl)
theorem pM_isFree_46 : alk tM_isFree 46 = some (.iload 5, 2) := (rfl)
theorem pM_isFree_48 : alk tM_isFree 48 = some (.iaload, 1) := (rfl)
theorem pM_isFree_49 : alk tM_isFree 49 = some (.iload_n 3, 1) := (rfl)
theorem pM_isFree_50 : alk tM_isFree 50 = some (.if_icmp .lt 7, 3) := (rfl)
theorem pM_isFree_53 : alk tM_isFree 53 = some (.iconst 1, 1) := (rfl)
theorem pM_isFree_54 : alk tM_isFree 54 = some (.goto 4, 3) := (rfl)
theorem pM_isFree_57 : alk tM_isFree 57 = some (.iconst 0, 1) := (rfl)
theorem pM_isFree_58 : alk tM_isFree 58 = some (.istore 4, 2) := (rfl)
theorem pM_isFree_60 : alk tM_isFree 60 = some (.iinc 5 1, 3) := (rfl)
theorem pM_isFree_63 : alk tM_isFree 63 = some (.goto (-57), 3) := (rfl)
theorem pM_isFree_66 : alk tM_isFree 66 = some (.iload 4, 2) := (rfl)
theorem pM_isFree_68 : alk tM_isFree 68 = some (.ireturn, 1) := (rfl)
def tM_water : TB := [(0, .aload_n 0, 1), (1, .iload_n 1, 1), (2, .invokevirtual 218, 3), (5, .ifCond .ne 10, 3), (8, .aload_n 0, 1), (9, .bipush (-3), 2), (11, .invokevirtual 169, 3), (14, .ireturn, 1), (15, .aload_n 0, 1), (16, .iload_n 1, 1), (17, .invokevirtual 221, 3), (20, .ifCond .ne 10, 3), (23, .aload_n 0, 1), (24, .bipush (-7), 2), (26, .invokevirtual 169, 3), (29, .ireturn, 1), (30, .aload_n 0, 1), (31, .iload_n 1, 1), (32, .invokevirtual 224, 3), (35, .istore_n 2, 1), (36, .aload_n 0, 1), (37, .getfield 67, 3), (40, .iload_n 1, 1), (41, .aload_n 0, 1), (42, .getfield 200, 3), (45, .iastore, 1), (46, .iload_n 2, 1), (47, .ireturn, 1)]
set_option maxRecDepth 100000 in
theorem kM_water : tbOk (mB mM_water) tM_water = true := by decide +kernel
theorem pM_water_0 : alk tM_water 0 = some (.aload_n 0, 1) := (rfl)
theorem pM_water_1 : alk tM_water 1 = some (.iload_n 1, 1) := (rfl)
theorem pM_water_2 : alk tM_water 2 = some (.invokevirtual 218, 3) := (rfl)
theorem pM_water_5 : alk tM_water 5 = some (.ifCond .ne 10, 3) := (rfl)
theorem pM_water_8 : alk tM_water 8 = some (.aload_n 0, 1) := (rfl)
theorem pM_water_9 : alk tM_water 9 = some (.bipush (-3), 2) := (rfl)
theorem pM_water_11 : alk tM_water 11 = some (.invokevirtual 169, 3) := (rfl)
theorem pM_water_14 : alk tM_water 14 = some (.ireturn, 1) := (rfl)
theorem pM_water_15 : alk tM_water 15 = some (.aload_n 0, 1) := (rfl)
theorem pM_water_16 : alk tM_water 16 = some (.iload_n 1, 1) := (rfl)
theorem pM_water_17 : alk tM_water 17 = some (.invokevirtual 221, 3) := (rfl)
theorem pM_water_20 : alk tM_water 20 = some (.ifCond .ne 10, 3) := (rfl)
theorem pM_water_23 : alk tM_water 23 = some (.aload_n 0, 1) := (rfl)
theorem pM_water_24 : alk tM_water 24 = some (.bipush (-7), 2) := (rfl)
theorem pM_water_26 : alk tM_water 26 = some (.invokevirtual 169, 3) := (rfl)
theorem pM_water_29 : alk tM_water 29 = some (.ireturn, 1) := (rfl)
theorem pM_water_30 : alk tM_water 30 = some (.aload_n 0, 1) := (rfl)
theorem pM_water_31 : alk tM_water 31 = some (.iload_n 1, 1) := (rfl)
theorem pM_water_32 : alk tM_water 32 = some (.invokevirtual 224, 3) := (rfl)
theorem pM_water_35 : alk tM_water 35 = some (.istore_n 2, 1) := (rfl)
theorem pM_water_36 : alk tM_water 36 = some (.aload_n 0, 1) := (rfl)
theorem pM_water_37 : alk tM_water 37 = some (.getfield 67, 3) := (rfl)
theorem pM_water_40 : alk tM_water 40 = some (.iload_n 1, 1) := (rfl)
theorem pM_water_41 : alk tM_water 41 = some (.aload_n 0, 1) := (rfl)
theorem pM_water_42 : alk tM_water 42 = some (.getfield 200, 3) := (rfl)
theorem pM_water_45 : alk tM_water 45 = some (.iastore, 1) := (rfl)
theorem pM_water_46 : alk tM_water 46 = some (.iload_n 2, 1) := (rfl)
theorem pM_water_47 : alk tM_water 47 = some (.ireturn, 1) := (rfl)
def tM_hold : TB := [(0, .aload_n 0, 1), (1, .iload_n 1, 1), (2, .invokevirtual 218, 3), (5, .ifCond .ne 10, 3), (8, .aload_n 0, 1), (9, .bipush (-3), 2), (11, .invokevirtual 169, 3), (14, .ireturn, 1), (15, .aload_n 0, 1), (16, .getfield 43, 3), (19, .iload_n 1, 1), (20, .iaload, 1), (21, .iconst 1, 1), (22, .if_icmp .le 10, 3), (25, .aload_n 0, 1), (26, .bipush (-5), 2), (28, .invokevirtual 169, 3), (31, .ireturn, 1), (32, .iload_n 2, 1), (33, .iconst 0, 1), (34, .iconst 1, 1), (35, .invokestatic 165, 3), (38, .ifCond .eq 13, 3), (41, .aload_n 0, 1), (42, .getfield 74, 3), (45, .iload_n 1, 1), (46, .iaload, 1), (47, .iconst (-1), 1), (48, .if_icmp .eq 10, 3), (51, .aload_n 0, 1), (52, .bipush (-7), 2), (54, .invokevirtual 169, 3), (57, .ireturn, 1), (58, .aload_n 0, 1), (59, .getfield 43, 3), (62, .iload_n 1, 1), (63, .iaload, 1), (64, .istore_n 3, 1), (65, .aload_n 0, 1), (66, .getfield 43, 3), (69, .iload_n 1, 1), (70, .iload_n 2, 1), (71, .iastore, 1), (72, .iload_n 3, 1), (73, .ireturn, 1)]
set_option maxRecDepth 100000 in
theorem kM_hold : tbOk (mB mM_hold) tM_hold = true := by decide +kernel
theorem pM_hold_0 : alk tM_hold 0 = some (.aload_n 0, 1) := (rfl)
theorem pM_hold_1 : alk tM_hold 1 = some (.iload_n 1, 1) := (rfl)
theorem pM_hold_2 : alk tM_hold 2 = some (.invokevirtual 218, 3) := (rfl)
theorem pM_hold_5 : alk tM_hold 5 = some (.ifCond .ne 10, 3) := (rfl)
theorem pM_hold_8 : alk tM_hold 8 = some (.aload_n 0, 1) := (rfl)
theorem pM_hold_9 : alk tM_hold 9 = some (.bipush (-3), 2) := (rfl)
theorem pM_hold_11 : alk tM_hold 11 = some (.invokevirtual 169, 3) := (rfl)
theorem pM_hold_14 : alk tM_hold 14 = some (.ireturn, 1) := (rfl)
theorem pM_hold_15 : alk tM_hold 15 = some (.aload_n 0, 1) := (rfl)
theorem pM_hold_16 : alk tM_hold 16 = some (.getfield 43, 3) := (rfl)
theorem pM_hold_19 : alk tM_hold 19 = some (.iload_n 1, 1) := (rfl)
theorem pM_hold_20 : alk tM_hold 20 = some (.iaload, 1) := (rfl)
theorem pM_hold_21 : alk tM_hold 21 = some (.iconst 1, 1) := (rfl)
theorem pM_hold_22 : alk tM_hold 22 = some (.if_icmp .le 10, 3) := (rfl)
theorem pM_hold_25 : alk tM_hold 25 = some (.aload_n 0, 1) := (rfl)
theorem pM_hold_26 : alk tM_hold 26 = some (.bipush (-5), 2) := (rfl)
theorem pM_hold_28 : alk tM_hold 28 = some (.invokevirtual 169, 3) := (rfl)
theorem pM_hold_31 : alk tM_hold 31 = some (.ireturn, 1) := (rfl)
theorem pM_hold_32 : alk tM_hold 32 = some (.iload_n 2, 1) := (rfl)
theorem pM_hold_33 : alk tM_hold 33 = some (.iconst 0, 1) := (rfl)
theorem pM_hold_34 : alk tM_hold 34 = some (.iconst 1, 1) := (rfl)
theorem pM_hold_35 : alk tM_hold 35 = some (.invokestatic 165, 3) := (rfl)
theorem pM_hold_38 : alk tM_hold 38 = some (.ifCond .eq 13, 3) := (rfl)
theorem pM_hold_41 : alk tM_hold 41 = some (.aload_n 0, 1) := (rfl)
theorem pM_hold_42 : alk tM_hold 42 = some (.getfield 74, 3) := (rfl)
theorem pM_hold_45 : alk tM_hold 45 = some (.iload_n 1, 1) := (rfl)
theorem pM_hold_46 : alk tM_hold 46 = some (.iaload, 1) := (rfl)
theorem pM_hold_47 : alk tM_hold 47 = some (.iconst (-1), 1) := (rfl)
theorem pM_hold_48 : alk tM_hold 48 = some (.if_icmp .eq 10, 3) := (rfl)
theorem pM_hold_51 : alk tM_hold 51 = some (.aload_n 0, 1) := (rfl)
theorem pM_hold_52 : alk tM_hold 52 = some (.bipush (-7), 2) := (rfl)
theorem pM_hold_54 : alk tM_hold 54 = some (.invokevirtual 169, 3) := (rfl)
theorem pM_hold_57 : alk tM_hold 57 = some (.ireturn, 1) := (rfl)
theorem pM_hold_58 : alk tM_hold 58 = some (.aload_n 0, 1) := (rfl)
theorem pM_hold_59 : alk tM_hold 59 = some (.getfield 43, 3) := (rfl)
theorem pM_hold_62 : alk tM_hold 62 = some (.iload_n 1, 1) := (rfl)
theorem pM_hold_63 : alk tM_hold 63 = some (.iaload, 1) := (rfl)
theorem pM_hold_64 : alk tM_hold 64 = some (.istore_n 3, 1) := (rfl)
theorem pM_hold_65 : alk tM_hold 65 = some (.aload_n 0, 1) := (rfl)
theorem pM_hold_66 : alk tM_hold 66 = some (.getfield 43, 3) := (rfl)
theorem pM_hold_69 : alk tM_hold 69 = some (.iload_n 1, 1) := (rfl)
theorem pM_hold_70 : alk tM_hold 70 = some (.iload_n 2, 1) := (rfl)
theorem pM_hold_71 : alk tM_hold 71 = some (.iastore, 1) := (rfl)
theorem pM_hold_72 : alk tM_hold 72 = some (.iload_n 3, 1) := (rfl)
theorem pM_hold_73 : alk tM_hold 73 = some (.ireturn, 1) := (rfl)
def tM_plan : TB := [(0, .iload_n 1, 1), (1, .ifCond .lt 25, 3), (4, .iload_n 1, 1), (5, .aload_n 0, 1), (6, .getfield 206, 3), (9, .ishr, 1), (10, .ifCond .ne 16, 3), (13, .iload_n 2, 1), (14, .ifCond .lt 12, 3), (17, .iload_n 2, 1), (18, .aload_n 0, 1), (19, .getfield 173, 3), (22, .ishr, 1), (23, .ifCond .eq 10, 3), (26, .aload_n 0, 1), (27, .bipush (-3), 2), (29, .invokevirtual 169, 3), (32, .ireturn, 1), (33, .iload_n 1, 1), (34, .invokestatic 247, 3), (37, .iconst 1, 1), (38, .iconst 4, 1), (39, .invokestatic 165, 3), (42, .ifCond .eq 14, 3), (45, .iload_n 1, 1), (46, .invokestatic 247, 3), (49, .iload_n 2, 1), (50, .invokestatic 247, 3), (53, .if_icmp .eq 7, 3), (56, .iconst 1, 1), (57, .goto 4, 3), (60, .iconst 0, 1), (61, .istore_n 3, 1), (62, .iconst 0, 1), (63, .istore 4, 2), (65, .iload 4, 2), (67, .aload_n 0, 1), (68, .getfield 173, 3), (71, .if_icmp .ge 66, 3), (74, .iload_n 2, 1), (75, .iload 4, 2), (77, .ishr, 1), (78, .iconst 1, 1), (79, .iand, 1), (80, .iconst 1, 1), (81, .if_icmp .ne 21, 3), (84, .aload_n 0, 1), (85, .getfield 13, 3), (88, .iload 4, 2), (90, .iaload, 1), (91, .iconst 1, 1), (92, .if_icmp .eq 10, 3), (95, .aload_n 0, 1), (96, .bipush (-5), 2), (98, .invokevirtual 169, 3), (101, .ireturn, 1), (102, .iload_n 3, 1), (103, .ifCond .ne 22, 3), (106, .iload_n 2, 1), (107, .iload 4, 2), (109, .ishr, 1), (110, .iconst 1, 1), (111, .iand, 1), (112, .iconst 1, 1), (113, .if_icmp .ne 16, 3), (116, .aload_n 0, 1), (117, .iload 4, 2), (119, .invokevirtual 212, 3), (122, .ifCond .eq 7, 3), (125, .iconst 1, 1), (126, .goto 4, 3), (129, .iconst 0, 1), (130, .istore_n 3, 1), (131, .iinc 4 1, 3), (134, .goto (-69), 3), (137, .iconst 0, 1), (138, .istore 4, 2), (140, .iload 4, 2), (142, .aload_n 0, 1), (143, .getfield 206, 3), (146, .if_icmp .ge 56, 3), (149, .iload_n 3, 1), (150, .ifCond .ne 40, 3), (153, .iload_n 1, 1), (154, .iload 4, 2), (156, .ishr, 1), (157, .iconst 1, 1), (158, .iand, 1), (159, .iconst 1, 1), (160, .if_icmp .ne 34, 3), (163, .aload_n 0, 1), (164, .getfield 58, 3), (167, .iload 4, 2), (169, .iaload, 1), (170, .iconst (-1), 1), (171, .if_icmp .eq 19, 3), (174, .aload_n 0, 1), (175, .getfield 13, 3), (178, .aload_n 0, 1), (179, .getfield 58, 3), (182, .iload 4, 2), (184, .iaload, 1), (185, .iaload, 1), (186, .iconst 3, 1), (187, .if_icmp .ne 7, 3), (190, .iconst 1, 1), (191, .goto 4, 3), (194, .iconst 0, 1), (195, .istore_n 3, 1), (196, .iinc 4 1, 3), (199, .goto (-59), 3), (202, .iload_n 3, 1), (203, .ifCond .eq 10, 3), (206, .aload_n 0, 1), (207, .bipush (-7), 2), (209, .invokevirtual 169, 3), (212, .ireturn, 1), (213, .aload_n 0, 1), (214, .iload_n 1, 1), (215, .invokestatic 247, 3), (218, .putfield 240, 3), (221, .aload_n 0, 1), (222, .iconst (-1), 1), (223, .putfield 237, 3), (226, .aload_n 0, 1), (227, .iconst 0, 1), (228, .iload_n 1, 1), (229, .iload_n 2, 1), (230, .aload_n 0, 1), (231, .getfield 200, 3), (234, .invokevirtual 243, 3), (237, .aload_n 0, 1), (238, .getfield 237, 3), (241, .iconst (-1), 1), (242, .if_icmp .ne 10, 3), (245, .aload_n 0, 1), (246, .bipush (-2), 2), (248, .invokevirtual 169, 3), (251, .ireturn, 1), (252, .aload_n 0, 1), (253, .aload_n 0, 1), (254, .getfield 240, 3), (257, .putfield 119, 3), (260, .aload_n 0, 1), (261, .getfield 237, 3), (264, .ireturn, 1)]
set_option maxRecDepth 100000 in
theorem kM_plan : tbOk (mB mM_plan) tM_plan = true := by decide +kernel
theorem pM_plan_0 : alk tM_plan 0 = some (.iload_n 1, 1) := (rfl)
theorem pM_plan_1 : alk tM_plan 1 = some (.ifCond .lt 25, 3) := (rfl)
theorem pM_plan_4 : alk tM_plan 4 = some (.iload_n 1, 1) := (rfl)
theorem pM_plan_5 : alk tM_plan 5 = some (.aload_n 0, 1) := (rfl)
theorem pM_plan_6 : alk tM_plan 6 = some (.getfield 206, 3) := (rfl)
theorem pM_plan_9 : alk tM_plan 9 = some (.ishr, 1) := (rfl)
theorem pM_plan_10 : alk tM_plan 10 = some (.ifCond .ne 16, 3) := (rfl)
theorem pM_plan_13 : alk tM_plan 13 = some (.iload_n 2, 1) := (rfl)
theorem pM_plan_14 : alk tM_plan 14 = some (.ifCond .lt 12, 3) := (rfl)
theorem pM_plan_17 : alk tM_plan 17 = some (.iload_n 2, 1) := (rfl)
theorem pM_plan_18 : alk tM_plan 18 = some (.aload_n 0, 1) := (rfl)
theorem pM_plan_19 : alk tM_plan 19 = some (.getfield 173, 3) := (rfl)
theorem pM_plan_22 : alk tM_plan 22 = some (.ishr, 1) := (rfl)
theorem pM_plan_23 : alk tM_plan 23 = some (.ifCond .eq 10, 3) := (rfl)
theorem pM_plan_26 : alk tM_plan 26 = some (.aload_n 0, 1) := (rfl)
theorem pM_plan_27 : alk tM_plan 27 = some (.bipush (-3), 2) := (rfl)
theorem pM_plan_29 : alk tM_plan 29 = some (.invokevirtual 169, 3) := (rfl)
theorem pM_plan_32 : alk tM_plan 32 = some (.ireturn, 1) := (rfl)
theorem pM_plan_33 : alk tM_plan 33 = some (.iload_n 1, 1) := (rfl)
theorem pM_plan_34 : alk tM_plan 34 = some (.invokestatic 247, 3) := (rfl)
theorem pM_plan_37 : alk tM_plan 37 = some (.iconst 1, 1) := (rfl)
theorem pM_plan_38 : alk tM_plan 38 = some (.iconst 4, 1) := (rfl)
theorem pM_plan_39 : alk tM_plan 39 = some (.invokestatic 165, 3) := (rfl)
theorem pM_plan_42 : alk tM_plan 42 = some (.ifCond .eq 14, 3) := (rfl)
theorem pM_plan_45 : alk tM_plan 45 = some (.iload_n 1, 1) := (rfl)
theorem pM_plan_46 : alk tM_plan 46 = some (.invokestatic 247, 3) := (rfl)
theorem pM_plan_49 : alk tM_plan 49 = some (.iload_n 2, 1) := (rfl)
theorem pM_plan_50 : alk tM_plan 50 = some (.invokestatic 247, 3) := (rfl)
theorem pM_plan_53 : alk tM_plan 53 = some (.if_icmp .eq 7, 3) := (rfl)
theorem pM_plan_56 : alk tM_plan 56 = some (.iconst 1, 1) := (rfl)
theorem pM_plan_57 : alk tM_plan 57 = some (.goto 4, 3) := (rfl)
theorem pM_plan_60 : alk tM_plan 60 = some (.iconst 0, 1) := (rfl)
theorem pM_plan_61 : alk tM_plan 61 = some (.istore_n 3, 1) := (rfl)
theorem pM_plan_62 : alk tM_plan 62 = some (.iconst 0, 1) := (rfl)
theorem pM_plan_63 : alk tM_plan 63 = some (.istore 4, 2) := (rfl)
theorem pM_plan_65 : alk tM_plan 65 = some (.iload 4, 2) := (rfl)
theorem pM_plan_67 : alk tM_plan 67 = some (.aload_n 0, 1) := (rfl)
theorem pM_plan_68 : alk tM_plan 68 = some (.getfield 173, 3) := (rfl)
theorem pM_plan_71 : alk tM_plan 71 = some (.if_icmp .ge 66, 3) := (rfl)
theorem pM_plan_74 : alk tM_plan 74 = some (.iload_n 2, 1) := (rfl)
theorem pM_plan_75 : alk tM_plan 75 = some (.iload 4, 2) := (rfl)
theorem pM_plan_77 : alk tM_plan 77 = some (.ishr, 1) := (rfl)
theorem pM_plan_78 : alk tM_plan 78 = some (.iconst 1, 1) := (rfl)
theorem pM_plan_79 : alk tM_plan 79 = some (.iand, 1) := (rfl)
theorem pM_plan_80 : alk tM_plan 80 = some (.iconst 1, 1) := (rfl)
theorem pM_plan_81 : alk tM_plan 81 = some (.if_icmp .ne 21, 3) := (rfl)
theorem pM_plan_84 : alk tM_plan 84 = some (.aload_n 0, 1) := (rfl)
theorem pM_plan_85 : alk tM_plan 85 = some (.getfield 13, 3) := (rfl)
theorem pM_plan_88 : alk tM_plan 88 = some (.iload 4, 2) := (rfl)
theorem pM_plan_90 : alk tM_plan 90 = some (.iaload, 1) := (rfl)
theorem pM_plan_91 : alk tM_plan 91 = some (.iconst 1, 1) := (rfl)
theorem pM_plan_92 : alk tM_plan 92 = some (.if_icmp .eq 10, 3) := (rfl)
theorem pM_plan_95 : alk tM_plan 95 = some (.aload_n 0, 1) := (rfl)
theorem pM_plan_96 : alk tM_plan 96 = some (.bipush (-5), 2) := (rfl)
theorem pM_plan_98 : alk tM_plan 98 = some (.invokevirtual 169, 3) := (rfl)
theorem pM_plan_101 : alk tM_plan 101 = some (.ireturn, 1) := (rfl)
theorem pM_plan_102 : alk tM_plan 102 = some (.iload_n 3, 1) := (rfl)
theorem pM_plan_103 : alk tM_plan 103 = some (.ifCond .ne 22, 3) := (rfl)
theorem pM_plan_106 : alk tM_plan 106 = some (.iload_n 2, 1) := (rfl)
theorem pM_plan_107 : alk tM_plan 107 = some (.iload 4, 2) := (rfl)
theorem pM_plan_109 : alk tM_plan 109 = some (.ishr, 1) := (rfl)
set_option maxRecDepth 20000 in
theorem pM_plan_110 : alk tM_plan 110 = some (.iconst 1, 1) := (rfl)
set_option maxRecDepth 20000 in
theorem pM_plan_111 : alk tM_plan 111 = some (.iand, 1) := (rfl)
set_option maxRecDepth 20000 in
theorem pM_plan_112 : alk tM_plan 112 = some (.iconst 1, 1) := (rfl)
set_option maxRecDepth 20000 in
theorem pM_plan_113 : alk tM_plan 113 = some (.if_icmp .ne 16, 3) := (rfl)
set_option maxRecDepth 20000 in
theorem pM_plan_116 : alk tM_plan 116 = some (.aload_n 0, 1) := (rfl)
set_option maxRecDepth 20000 in
theorem pM_plan_117 : alk tM_plan 117 = some (.iload 4, 2) := (rfl)
set_option maxRecDepth 20000 in
theorem pM_plan_119 : alk tM_plan 119 = some (.invokevirtual 212, 3) := (rfl)
set_option maxRecDepth 20000 in
theorem pM_plan_122 : alk tM_plan 122 = some (.ifCond .eq 7, 3) := (rfl)
set_option maxRecDepth 20000 in
theorem pM_plan_125 : alk tM_plan 125 = some (.iconst 1, 1) := (rfl)
set_option maxRecDepth 20000 in
theorem pM_plan_126 : alk tM_plan 126 = some (.goto 4, 3) := (rfl)
set_option maxRecDepth 20000 in
theorem pM_plan_129 : alk tM_plan 129 = some (.iconst 0, 1) := (rfl)
set_option maxRecDepth 20000 in
theorem pM_plan_130 : alk tM_plan 130 = some (.istore_n 3, 1) := (rfl)
set_option maxRecDepth 20000 in
theorem pM_plan_131 : alk tM_plan 131 = some (.iinc 4 1, 3) := (rfl)
set_option maxRecDepth 20000 in
theorem pM_plan_134 : alk tM_plan 134 = some (.goto (-69), 3) := (rfl)
set_option maxRecDepth 20000 in
theorem pM_plan_137 : alk tM_plan 137 = some (.iconst 0, 1) := (rfl)
set_option maxRecDepth 20000 in
theorem pM_plan_138 : alk tM_plan 138 = some (.istore 4, 2) := (rfl)
set_option maxRecDepth 20000 in
theorem pM_plan_140 : alk tM_plan 140 = some (.iload 4, 2) := (rfl)
set_option maxRecDepth 20000 in
theorem pM_plan_142 : alk tM_plan 142 = some (.aload_n 0, 1) := (rfl)
set_option maxRecDepth 20000 in
theorem pM_plan_143 : alk tM_plan 143 = some (.getfield 206, 3) := (rfl)
set_option maxRecDepth 20000 in
theorem pM_plan_146 : alk tM_plan 146 = some (.if_icmp .ge 56, 3) := (rfl)
set_option maxRecDepth 20000 in
theorem pM_plan_149 : alk tM_plan 149 = some (.iload_n 3, 1) := (rfl)
set_option maxRecDepth 20000 in
theorem pM_plan_150 : alk tM_plan 150 = some (.ifCond .ne 40, 3) := (rfl)
set_option maxRecDepth 20000 in
theorem pM_plan_153 : alk tM_plan 153 = some (.iload_n 1, 1) := (rfl)
set_option maxRecDepth 20000 in
theorem pM_plan_154 : alk tM_plan 154 = some (.iload 4, 2) := (rfl)
set_option maxRecDepth 20000 in
theorem pM_plan_156 : alk tM_plan 156 = some (.ishr, 1) := (rfl)
set_option maxRecDepth 20000 in
theorem pM_plan_157 : alk tM_plan 157 = some (.iconst 1, 1) := (rfl)
set_option maxRecDepth 20000 in
theorem pM_plan_158 : alk tM_plan 158 = some (.iand, 1) := (rfl)
set_option maxRecDepth 20000 in
theorem pM_plan_159 : alk tM_plan 159 = some (.iconst 1, 1) := (rfl)
set_option maxRecDepth 20000 in
theorem pM_plan_160 : alk tM_plan 160 = some (.if_icmp .ne 34, 3) := (rfl)
set_option maxRecDepth 20000 in
theorem pM_plan_163 : alk tM_plan 163 = some (.aload_n 0, 1) := (rfl)
set_option maxRecDepth 20000 in
theorem pM_plan_164 : alk tM_plan 164 = some (.getfield 58, 3) := (rfl)
set_option maxRecDepth 20000 in
theorem pM_plan_167 : alk tM_plan 167 = some (.iload 4, 2) := (rfl)
set_option maxRecDepth 20000 in
theorem pM_plan_169 : alk tM_plan 169 = some (.iaload, 1) := (rfl)
set_option maxRecDepth 20000 in
theorem pM_plan_170 : alk tM_plan 170 = some (.iconst (-1), 1) := (rfl)
set_option maxRecDepth 20000 in
theorem pM_plan_171 : alk tM_plan 171 = some (.if_icmp .eq 19, 3) := (rfl)
set_option maxRecDepth 20000 in
theorem pM_plan_174 : alk tM_plan 174 = some (.aload_n 0, 1) := (rfl)
set_option maxRecDepth 20000 in
theorem pM_plan_175 : alk tM_plan 175 = some (.getfield 13, 3) := (rfl)
set_option maxRecDepth 20000 in
theorem pM_plan_178 : alk tM_plan 178 = some (.aload_n 0, 1) := (rfl)
set_option maxRecDepth 20000 in
theorem pM_plan_179 : alk tM_plan 179 = some (.getfield 58, 3) := (rfl)
set_option maxRecDepth 20000 in
theorem pM_plan_182 : alk tM_plan 182 = some (.iload 4, 2) := (rfl)
set_option maxRecDepth 20000 in
theorem pM_plan_184 : alk tM_plan 184 = some (.iaload, 1) := (rfl)
set_option maxRecDepth 20000 in
theorem pM_plan_185 : alk tM_plan 185 = some (.iaload, 1) := (rfl)
set_option maxRecDepth 20000 in
theorem pM_plan_186 : alk tM_plan 186 = some (.iconst 3, 1) := (rfl)
set_option maxRecDepth 20000 in
theorem pM_plan_187 : alk tM_plan 187 = some (.if_icmp .ne 7, 3) := (rfl)
set_option maxRecDepth 20000 in
theorem pM_plan_190 : alk tM_plan 190 = some (.iconst 1, 1) := (rfl)
set_option maxRecDepth 20000 in
theorem pM_plan_191 : alk tM_plan 191 = some (.goto 4, 3) := (rfl)
set_option maxRecDepth 20000 in
theorem pM_plan_194 : alk tM_plan 194 = some (.iconst 0, 1) := (rfl)
set_option maxRecDepth 20000 in
theorem pM_plan_195 : alk tM_plan 195 = some (.istore_n 3, 1) := (rfl)
set_option maxRecDepth 20000 in
theorem pM_plan_196 : alk tM_plan 196 = some (.iinc 4 1, 3) := (rfl)
set_option maxRecDepth 20000 in
theorem pM_plan_199 : alk tM_plan 199 = some (.goto (-59), 3) := (rfl)
set_option maxRecDepth 20000 in
theorem pM_plan_202 : alk tM_plan 202 = some (.iload_n 3, 1) := (rfl)
set_option maxRecDepth 20000 in
theorem pM_plan_203 : alk tM_plan 203 = some (.ifCond .eq 10, 3) := (rfl)
set_option maxRecDepth 20000 in
theorem pM_plan_206 : alk tM_plan 206 = some (.aload_n 0, 1) := (rfl)
set_option maxRecDepth 20000 in
theorem pM_plan_207 : alk tM_plan 207 = some (.bipush (-7), 2) := (rfl)
set_option maxRecDepth 20000 in
theorem pM_plan_209 : alk tM_plan 209 = some (.invokevirtual 169, 3) := (rfl)
set_option maxRecDepth 20000 in
theorem pM_plan_212 : alk tM_plan 212 = some (.ireturn, 1) := (rfl)
set_option maxRecDepth 20000 in
theorem pM_plan_213 : alk tM_plan 213 = some (.aload_n 0, 1) := (rfl)
set_option maxRecDepth 20000 in
theorem pM_plan_214 : alk tM_plan 214 = some (.iload_n 1, 1) := (rfl)
set_option maxRecDepth 20000 in
theorem pM_plan_215 : alk tM_plan 215 = some (.invokestatic 247, 3) := (rfl)
set_option maxRecDepth 20000 in
theorem pM_plan_218 : alk tM_plan 218 = some (.putfield 240, 3) := (rfl)
set_option maxRecDepth 20000 in
theorem pM_plan_221 : alk tM_plan 221 = some (.aload_n 0, 1) := (rfl)
set_option maxRecDepth 20000 in
theorem pM_plan_222 : alk tM_plan 222 = some (.iconst (-1), 1) := (rfl)
set_option maxRecDepth 20000 in
theorem pM_plan_223 : alk tM_plan 223 = some (.putfield 237, 3) := (rfl)
set_option maxRecDepth 20000 in
theorem pM_plan_226 : alk tM_plan 226 = some (.aload_n 0, 1) := (rfl)
set_option maxRecDepth 20000 in
theorem pM_plan_227 : alk tM_plan 227 = some (.iconst 0, 1) := (rfl)
set_option maxRecDepth 20000 in
theorem pM_plan_228 : alk tM_plan 228 = some (.iload_n 1, 1) := (rfl)
set_option maxRecDepth 20000 in
theorem pM_plan_229 : alk tM_plan 229 = some (.iload_n 2, 1) := (rfl)
set_option maxRecDepth 20000 in
theorem pM_plan_230 : alk tM_plan 230 = some (.aload_n 0, 1) := (rfl)
set_option maxRecDepth 20000 in
theorem pM_plan_231 : alk tM_plan 231 = some (.getfield 200, 3) := (rfl)
set_option maxRecDepth 20000 in
theorem pM_plan_234 : alk tM_plan 234 = some (.invokevirtual 243, 3) := (rfl)
set_option maxRecDepth 20000 in
theorem pM_plan_237 : alk tM_plan 237 = some (.aload_n 0, 1) := (rfl)
set_option maxRecDepth 20000 in
theorem pM_plan_238 : alk tM_plan 238 = some (.getfield 237, 3) := (rfl)
set_option maxRecDepth 20000 in
theorem pM_plan_241 : alk tM_plan 241 = some (.iconst (-1), 1) := (rfl)
set_option maxRecDepth 20000 in
theorem pM_plan_242 : alk tM_plan 242 = some (.if_icmp .ne 10, 3) := (rfl)
set_option maxRecDepth 20000 in
theorem pM_plan_245 : alk tM_plan 245 = some (.aload_n 0, 1) := (rfl)
set_option maxRecDepth 20000 in
theorem pM_plan_246 : alk tM_plan 246 = some (.bipush (-2), 2) := (rfl)
set_option maxRecDepth 20000 in
theorem pM_plan_248 : alk tM_plan 248 = some (.invokevirtual 169, 3) := (rfl)
set_option maxRecDepth 20000 in
theorem pM_plan_251 : alk tM_plan 251 = some (.ireturn, 1) := (rfl)
set_option maxRecDepth 20000 in
theorem pM_plan_252 : alk tM_plan 252 = some (.aload_n 0, 1) := (rfl)
set_option maxRecDepth 20000 in
theorem pM_plan_253 : alk tM_plan 253 = some (.aload_n 0, 1) := (rfl)
set_option maxRecDepth 20000 in
theorem pM_plan_254 : alk tM_plan 254 = some (.getfield 240, 3) := (rfl)
set_option maxRecDepth 20000 in
theorem pM_plan_257 : alk tM_plan 257 = some (.putfield 119, 3) := (rfl)
set_option maxRecDepth 20000 in
theorem pM_plan_260 : alk tM_plan 260 = some (.aload_n 0, 1) := (rfl)
set_option maxRecDepth 20000 in
theorem pM_plan_261 : alk tM_plan 261 = some (.getfield 237, 3) := (rfl)
set_option maxRecDepth 20000 in
theorem pM_plan_264 : alk tM_plan 264 = some (.ireturn, 1) := (rfl)
def tM_bits : TB := [(0, .iconst 0, 1), (1, .istore_n 1, 1), (2, .iconst 0, 1), (3, .istore_n 2, 1), (4, .iload_n 2, 1), (5, .bipush 31, 2), (7, .if_icmp .ge 17, 3), (10, .iload_n 1, 1), (11, .iload_n 0, 1), (12, .iload_n 2, 1), (13, .ishr, 1), (14, .iconst 1, 1), (15, .iand, 1), (16, .iadd, 1), (17, .istore_n 1, 1), (18, .iinc 2 1, 3), (21, .goto (-17), 3), (24, .iload_n 1, 1), (25, .ireturn, 1)]
set_option maxRecDepth 100000 in
theorem kM_bits : tbOk (mB mM_bits) tM_bits = true := by decide +kernel
theorem pM_bits_0 : alk tM_bits 0 = some (.iconst 0, 1) := (rfl)
theorem pM_bits_1 : alk tM_bits 1 = some (.istore_n 1, 1) := (rfl)
theorem pM_bits_2 : alk tM_bits 2 = some (.iconst 0, 1) := (rfl)
theorem pM_bits_3 : alk tM_bits 3 = some (.istore_n 2, 1) := (rfl)
theorem pM_bits_4 : alk tM_bits 4 = some (.iload_n 2, 1) := (rfl)
theorem pM_bits_5 : alk tM_bits 5 = some (.bipush 31, 2) := (rfl)
theorem pM_bits_7 : alk tM_bits 7 = some (.if_icmp .ge 17, 3) := (rfl)
theorem pM_bits_10 : alk tM_bits 10 = some (.iload_n 1, 1) := (rfl)
theorem pM_bits_11 : alk tM_bits 11 = some (.iload_n 0, 1) := (rfl)
theorem pM_bits_12 : alk tM_bits 12 = some (.iload_n 2, 1) := (rfl)
theorem pM_bits_13 : alk tM_bits 13 = some (.ishr, 1) := (rfl)
theorem pM_bits_14 : alk tM_bits 14 = some (.iconst 1, 1) := (rfl)
theorem pM_bits_15 : alk tM_bits 15 = some (.iand, 1) := (rfl)
theorem pM_bits_16 : alk tM_bits 16 = some (.iadd, 1) := (rfl)
theorem pM_bits_17 : alk tM_bits 17 = some (.istore_n 1, 1) := (rfl)
theorem pM_bits_18 : alk tM_bits 18 = some (.iinc 2 1, 3) := (rfl)
theorem pM_bits_21 : alk tM_bits 21 = some (.goto (-17), 3) := (rfl)
theorem pM_bits_24 : alk tM_bits 24 = some (.iload_n 1, 1) := (rfl)
theorem pM_bits_25 : alk tM_bits 25 = some (.ireturn, 1) := (rfl)
def tM_tries : TB := [(0, .aload_n 0, 1), (1, .getfield 237, 3), (4, .iconst (-1), 1), (5, .if_icmp .eq 13, 3), (8, .iload 4, 2), (10, .aload_n 0, 1), (11, .getfield 237, 3), (14, .if_icmp .lt 4, 3), (17, .return_, 1), (18, .iload_n 1, 1), (19, .aload_n 0, 1), (20, .getfield 240, 3), (23, .if_icmp .ne 53, 3), (26, .aload_n 0, 1), (27, .iload 4, 2), (29, .putfield 237, 3), (32, .iconst 0, 1), (33, .istore 5, 2), (35, .iload 5, 2), (37, .iload_n 1, 1), (38, .if_icmp .ge 37, 3), (41, .aload_n 0, 1), (42, .getfield 113, 3), (45, .iload 5, 2), (47, .aload_n 0, 1), (48, .getfield 107, 3), (51, .iload 5, 2), (53, .iaload, 1), (54, .iastore, 1), (55, .aload_n 0, 1), (56, .getfield 116, 3), (59, .iload 5, 2), (61, .aload_n 0, 1), (62, .getfield 110, 3), (65, .iload 5, 2), (67, .iaload, 1), (68, .iastore, 1), (69, .iinc 5 1, 3), (72, .goto (-37), 3), (75, .return_, 1), (76, .iconst 0, 1), (77, .istore 5, 2), (79, .iload 5, 2), (81, .aload_n 0, 1), (82, .getfield 206, 3), (85, .if_icmp .ge 136, 3), (88, .iconst 0, 1), (89, .istore 6, 2), (91, .iload 6, 2), (93, .aload_n 0, 1), (94, .getfield 173, 3), (97, .if_icmp .ge 118, 3), (100, .iload_n 2, 1), (101, .iload 5, 2), (103, .ishr, 1), (104, .iconst 1, 1), (105, .iand, 1), (106, .ifCond .eq 103, 3), (109, .iload_n 3, 1), (110, .iload 6, 2), (112, .ishr, 1), (113, .iconst 1, 1), (114, .iand, 1), (115, .ifCond .eq 94, 3), (118, .aload_n 0, 1), (119, .aload_n 0, 1), (120, .getfield 58, 3), (123, .iload 5, 2), (125, .iaload, 1), (126, .iload 6, 2), (128, .invokevirtual 191, 3), (131, .iconst (-1), 1), (132, .if_icmp .ne 6, 3), (135, .goto 74, 3), (138, .aload_n 0, 1), (139, .getfield 194, 3), (142, .istore 7, 2), (144, .aload_n 0, 1), (145, .invokevirtual 233, 3), (148, .istore 8, 2), (150, .aload_n 0, 1), (151, .getfield 107, 3), (154, .iload_n 1, 1), (155, .iload 5, 2), (157, .iastore, 1), (158, .aload_n 0, 1), (159, .getfield 110, 3), (162, .iload_n 1, 1), (163, .iload 6, 2), (165, .iastore, 1), (166, .aload_n 0, 1), (167, .iload_n 1, 1), (168, .iconst 1, 1), (169, .iadd, 1), (170, .iload_n 2, 1), (171, .iconst 1, 1), (172, .iload 5, 2), (174, .ishl, 1), (175, .iconst (-1), 1), (176, .ixor, 1), (177, .iand, 1), (178, .iload_n 3, 1), (179, .iconst 1, 1), (180, .iload 6, 2), (182, .ishl, 1), (183, .iconst (-1), 1), (184, .ixor, 1), (185, .iand, 1), (186, .iload 8, 2), (188, .iload 4, 2), (190, .if_icmp .le 8, 3), (193, .iload 8, 2), (195, .goto 5, 3), (198, .iload 4, 2), (200, .invokevirtual 243, 3), (203, .aload_n 0, 1), (204, .iload 7, 2), (206, .putfield 194, 3), (209, .iinc 6 1, 3), (212, .goto (-121), 3), (215, .iinc 5 1, 3), (218, .goto (-139), 3), (221, .return_, 1)]
set_option maxRecDepth 100000 in
theorem kM_tries : tbOk (mB mM_tries) tM_tries = true := by decide +kernel
theorem pM_tries_0 : alk tM_tries 0 = some (.aload_n 0, 1) := (rfl)
theorem pM_tries_1 : alk tM_tries 1 = some (.getfield 237, 3) := (rfl)
theorem pM_tries_4 : alk tM_tries 4 = some (.iconst (-1), 1) := (rfl)
theorem pM_tries_5 : alk tM_tries 5 = some (.if_icmp .eq 13, 3) := (rfl)
theorem pM_tries_8 : alk tM_tries 8 = some (.iload 4, 2) := (rfl)
theorem pM_tries_10 : alk tM_tries 10 = some (.aload_n 0, 1) := (rfl)
theorem pM_tries_11 : alk tM_tries 11 = some (.getfield 237, 3) := (rfl)
theorem pM_tries_14 : alk tM_tries 14 = some (.if_icmp .lt 4, 3) := (rfl)
theorem pM_tries_17 : alk tM_tries 17 = some (.return_, 1) := (rfl)
theorem pM_tries_18 : alk tM_tries 18 = some (.iload_n 1, 1) := (rfl)
theorem pM_tries_19 : alk tM_tries 19 = some (.aload_n 0, 1) := (rfl)
theorem pM_tries_20 : alk tM_tries 20 = some (.getfield 240, 3) := (rfl)
theorem pM_tries_23 : alk tM_tries 23 = some (.if_icmp .ne 53, 3) := (rfl)
theorem pM_tries_26 : alk tM_tries 26 = some (.aload_n 0, 1) := (rfl)
theorem pM_tries_27 : alk tM_tries 27 = some (.iload 4, 2) := (rfl)
theorem pM_tries_29 : alk tM_tries 29 = some (.putfield 237, 3) := (rfl)
theorem pM_tries_32 : alk tM_tries 32 = some (.iconst 0, 1) := (rfl)
theorem pM_tries_33 : alk tM_tries 33 = some (.istore 5, 2) := (rfl)
theorem pM_tries_35 : alk tM_tries 35 = some (.iload 5, 2) := (rfl)
theorem pM_tries_37 : alk tM_tries 37 = some (.iload_n 1, 1) := (rfl)
theorem pM_tries_38 : alk tM_tries 38 = some (.if_icmp .ge 37, 3) := (rfl)
theorem pM_tries_41 : alk tM_tries 41 = some (.aload_n 0, 1) := (rfl)
theorem pM_tries_42 : alk tM_tries 42 = some (.getfield 113, 3) := (rfl)
theorem pM_tries_45 : alk tM_tries 45 = some (.iload 5, 2) := (rfl)
theorem pM_tries_47 : alk tM_tries 47 = some (.aload_n 0, 1) := (rfl)
theorem pM_tries_48 : alk tM_tries 48 = some (.getfield 107, 3) := (rfl)
theorem pM_tries_51 : alk tM_tries 51 = some (.iload 5, 2) := (rfl)
theorem pM_tries_53 : alk tM_tries 53 = some (.iaload, 1) := (rfl)
theorem pM_tries_54 : alk tM_tries 54 = some (.iastore, 1) := (rfl)
theorem pM_tries_55 : alk tM_tries 55 = some (.aload_n 0, 1) := (rfl)
theorem pM_tries_56 : alk tM_tries 56 = some (.getfield 116, 3) := (rfl)
theorem pM_tries_59 : alk tM_tries 59 = some (.iload 5, 2) := (rfl)
theorem pM_tries_61 : alk tM_tries 61 = some (.aload_n 0, 1) := (rfl)
theorem pM_tries_62 : alk tM_tries 62 = some (.getfield 110, 3) := (rfl)
theorem pM_tries_65 : alk tM_tries 65 = some (.iload 5, 2) := (rfl)
theorem pM_tries_67 : alk tM_tries 67 = some (.iaload, 1) := (rfl)
theorem pM_tries_68 : alk tM_tries 68 = some (.iastore, 1) := (rfl)
theorem pM_tries_69 : alk tM_tries 69 = some (.iinc 5 1, 3) := (rfl)
theorem pM_tries_72 : alk tM_tries 72 = some (.goto (-37), 3) := (rfl)
theorem pM_tries_75 : alk tM_tries 75 = some (.return_, 1) := (rfl)
theorem pM_tries_76 : alk tM_tries 76 = some (.iconst 0, 1) := (rfl)
theorem pM_tries_77 : alk tM_tries 77 = some (.istore 5, 2) := (rfl)
theorem pM_tries_79 : alk tM_tries 79 = some (.iload 5, 2) := (rfl)
theorem pM_tries_81 : alk tM_tries 81 = some (.aload_n 0, 1) := (rfl)
theorem pM_tries_82 : alk tM_tries 82 = some (.getfield 206, 3) := (rfl)
theorem pM_tries_85 : alk tM_tries 85 = some (.if_icmp .ge 136, 3) := (rfl)
theorem pM_tries_88 : alk tM_tries 88 = some (.iconst 0, 1) := (rfl)
theorem pM_tries_89 : alk tM_tries 89 = some (.istore 6, 2) := (rfl)
theorem pM_tries_91 : alk tM_tries 91 = some (.iload 6, 2) := (rfl)
theorem pM_tries_93 : alk tM_tries 93 = some (.aload_n 0, 1) := (rfl)
theorem pM_tries_94 : alk tM_tries 94 = some (.getfield 173, 3) := (rfl)
theorem pM_tries_97 : alk tM_tries 97 = some (.if_icmp .ge 118, 3) := (rfl)
theorem pM_tries_100 : alk tM_tries 100 = some (.iload_n 2, 1) := (rfl)
theorem pM_tries_101 : alk tM_tries 101 = some (.iload 5, 2) := (rfl)
theorem pM_tries_103 : alk tM_tries 103 = some (.ishr, 1) := (rfl)
theorem pM_tries_104 : alk tM_tries 104 = some (.iconst 1, 1) := (rfl)
theorem pM_tries_105 : alk tM_tries 105 = some (.iand, 1) := (rfl)
theorem pM_tries_106 : alk tM_tries 106 = some (.ifCond .eq 103, 3) := (rfl)
theorem pM_tries_109 : alk tM_tries 109 = some (.iload_n 3, 1) := (rfl)
theorem pM_tries_110 : alk tM_tries 110 = some (.iload 6, 2) := (rfl)
theorem pM_tries_112 : alk tM_tries 112 = some (.ishr, 1) := (rfl)
set_option maxRecDepth 20000 in
theorem pM_tries_113 : alk tM_tries 113 = some (.iconst 1, 1) := (rfl)
set_option maxRecDepth 20000 in
theorem pM_tries_114 : alk tM_tries 114 = some (.iand, 1) := (rfl)
set_option maxRecDepth 20000 in
theorem pM_tries_115 : alk tM_tries 115 = some (.ifCond .eq 94, 3) := (rfl)
set_option maxRecDepth 20000 in
theorem pM_tries_118 : alk tM_tries 118 = some (.aload_n 0, 1) := (rfl)
set_option maxRecDepth 20000 in
theorem pM_tries_119 : alk tM_tries 119 = some (.aload_n 0, 1) := (rfl)
set_option maxRecDepth 20000 in
theorem pM_tries_120 : alk tM_tries 120 = some (.getfield 58, 3) := (rfl)
set_option maxRecDepth 20000 in
theorem pM_tries_123 : alk tM_tries 123 = some (.iload 5, 2) := (rfl)
set_option maxRecDepth 20000 in
theorem pM_tries_125 : alk tM_tries 125 = some (.iaload, 1) := (rfl)
set_option maxRecDepth 20000 in
theorem pM_tries_126 : alk tM_tries 126 = some (.iload 6, 2) := (rfl)
set_option maxRecDepth 20000 in
theorem pM_tries_128 : alk tM_tries 128 = some (.invokevirtual 191, 3) := (rfl)
set_option maxRecDepth 20000 in
theorem pM_tries_131 : alk tM_tries 131 = some (.iconst (-1), 1) := (rfl)
set_option maxRecDepth 20000 in
theorem pM_tries_132 : alk tM_tries 132 = some (.if_icmp .ne 6, 3) := (rfl)
set_option maxRecDepth 20000 in
theorem pM_tries_135 : alk tM_tries 135 = some (.goto 74, 3) := (rfl)
set_option maxRecDepth 20000 in
theorem pM_tries_138 : alk tM_tries 138 = some (.aload_n 0, 1) := (rfl)
set_option maxRecDepth 20000 in
theorem pM_tries_139 : alk tM_tries 139 = some (.getfield 194, 3) := (rfl)
set_option maxRecDepth 20000 in
theorem pM_tries_142 : alk tM_tries 142 = some (.istore 7, 2) := (rfl)
set_option maxRecDepth 20000 in
theorem pM_tries_144 : alk tM_tries 144 = some (.aload_n 0, 1) := (rfl)
set_option maxRecDepth 20000 in
theorem pM_tries_145 : alk tM_tries 145 = some (.invokevirtual 233, 3) := (rfl)
set_option maxRecDepth 20000 in
theorem pM_tries_148 : alk tM_tries 148 = some (.istore 8, 2) := (rfl)
set_option maxRecDepth 20000 in
theorem pM_tries_150 : alk tM_tries 150 = some (.aload_n 0, 1) := (rfl)
set_option maxRecDepth 20000 in
theorem pM_tries_151 : alk tM_tries 151 = some (.getfield 107, 3) := (rfl)
set_option maxRecDepth 20000 in
theorem pM_tries_154 : alk tM_tries 154 = some (.iload_n 1, 1) := (rfl)
set_option maxRecDepth 20000 in
theorem pM_tries_155 : alk tM_tries 155 = some (.iload 5, 2) := (rfl)
set_option maxRecDepth 20000 in
theorem pM_tries_157 : alk tM_tries 157 = some (.iastore, 1) := (rfl)
set_option maxRecDepth 20000 in
theorem pM_tries_158 : alk tM_tries 158 = some (.aload_n 0, 1) := (rfl)
set_option maxRecDepth 20000 in
theorem pM_tries_159 : alk tM_tries 159 = some (.getfield 110, 3) := (rfl)
set_option maxRecDepth 20000 in
theorem pM_tries_162 : alk tM_tries 162 = some (.iload_n 1, 1) := (rfl)
set_option maxRecDepth 20000 in
theorem pM_tries_163 : alk tM_tries 163 = some (.iload 6, 2) := (rfl)
set_option maxRecDepth 20000 in
theorem pM_tries_165 : alk tM_tries 165 = some (.iastore, 1) := (rfl)
set_option maxRecDepth 20000 in
theorem pM_tries_166 : alk tM_tries 166 = some (.aload_n 0, 1) := (rfl)
set_option maxRecDepth 20000 in
theorem pM_tries_167 : alk tM_tries 167 = some (.iload_n 1, 1) := (rfl)
set_option maxRecDepth 20000 in
theorem pM_tries_168 : alk tM_tries 168 = some (.iconst 1, 1) := (rfl)
set_option maxRecDepth 20000 in
theorem pM_tries_169 : alk tM_tries 169 = some (.iadd, 1) := (rfl)
set_option maxRecDepth 20000 in
theorem pM_tries_170 : alk tM_tries 170 = some (.iload_n 2, 1) := (rfl)
set_option maxRecDepth 20000 in
theorem pM_tries_171 : alk tM_tries 171 = some (.iconst 1, 1) := (rfl)
set_option maxRecDepth 20000 in
theorem pM_tries_172 : alk tM_tries 172 = some (.iload 5, 2) := (rfl)
set_option maxRecDepth 20000 in
theorem pM_tries_174 : alk tM_tries 174 = some (.ishl, 1) := (rfl)
set_option maxRecDepth 20000 in
theorem pM_tries_175 : alk tM_tries 175 = some (.iconst (-1), 1) := (rfl)
set_option maxRecDepth 20000 in
theorem pM_tries_176 : alk tM_tries 176 = some (.ixor, 1) := (rfl)
set_option maxRecDepth 20000 in
theorem pM_tries_177 : alk tM_tries 177 = some (.iand, 1) := (rfl)
set_option maxRecDepth 20000 in
theorem pM_tries_178 : alk tM_tries 178 = some (.iload_n 3, 1) := (rfl)
set_option maxRecDepth 20000 in
theorem pM_tries_179 : alk tM_tries 179 = some (.iconst 1, 1) := (rfl)
set_option maxRecDepth 20000 in
theorem pM_tries_180 : alk tM_tries 180 = some (.iload 6, 2) := (rfl)
set_option maxRecDepth 20000 in
theorem pM_tries_182 : alk tM_tries 182 = some (.ishl, 1) := (rfl)
set_option maxRecDepth 20000 in
theorem pM_tries_183 : alk tM_tries 183 = some (.iconst (-1), 1) := (rfl)
set_option maxRecDepth 20000 in
theorem pM_tries_184 : alk tM_tries 184 = some (.ixor, 1) := (rfl)
set_option maxRecDepth 20000 in
theorem pM_tries_185 : alk tM_tries 185 = some (.iand, 1) := (rfl)
set_option maxRecDepth 20000 in
theorem pM_tries_186 : alk tM_tries 186 = some (.iload 8, 2) := (rfl)
set_option maxRecDepth 20000 in
theorem pM_tries_188 : alk tM_tries 188 = some (.iload 4, 2) := (rfl)
set_option maxRecDepth 20000 in
theorem pM_tries_190 : alk tM_tries 190 = some (.if_icmp .le 8, 3) := (rfl)
set_option maxRecDepth 20000 in
theorem pM_tries_193 : alk tM_tries 193 = some (.iload 8, 2) := (rfl)
set_option maxRecDepth 20000 in
theorem pM_tries_195 : alk tM_tries 195 = some (.goto 5, 3) := (rfl)
set_option maxRecDepth 20000 in
theorem pM_tries_198 : alk tM_tries 198 = some (.iload 4, 2) := (rfl)
set_option maxRecDepth 20000 in
theorem pM_tries_200 : alk tM_tries 200 = some (.invokevirtual 243, 3) := (rfl)
set_option maxRecDepth 20000 in
theorem pM_tries_203 : alk tM_tries 203 = some (.aload_n 0, 1) := (rfl)
set_option maxRecDepth 20000 in
theorem pM_tries_204 : alk tM_tries 204 = some (.iload 7, 2) := (rfl)
set_option maxRecDepth 20000 in
theorem pM_tries_206 : alk tM_tries 206 = some (.putfield 194, 3) := (rfl)
set_option maxRecDepth 20000 in
theorem pM_tries_209 : alk tM_tries 209 = some (.iinc 6 1, 3) := (rfl)
set_option maxRecDepth 20000 in
theorem pM_tries_212 : alk tM_tries 212 = some (.goto (-121), 3) := (rfl)
set_option maxRecDepth 20000 in
theorem pM_tries_215 : alk tM_tries 215 = some (.iinc 5 1, 3) := (rfl)
set_option maxRecDepth 20000 in
theorem pM_tries_218 : alk tM_tries 218 = some (.goto (-139), 3) := (rfl)
set_option maxRecDepth 20000 in
theorem pM_tries_221 : alk tM_tries 221 = some (.return_, 1) := (rfl)
def tM_planned : TB := [(0, .aload_n 0, 1), (1, .getfield 119, 3), (4, .iconst (-1), 1), (5, .if_icmp .ne 10, 3), (8, .aload_n 0, 1), (9, .bipush (-2), 2), (11, .invokevirtual 169, 3), (14, .ireturn, 1), (15, .iload_n 1, 1), (16, .iconst 0, 1), (17, .aload_n 0, 1), (18, .getfield 119, 3), (21, .iconst 1, 1), (22, .isub, 1), (23, .invokestatic 165, 3), (26, .ifCond .ne 10, 3), (29, .aload_n 0, 1), (30, .bipush (-3), 2), (32, .invokevirtual 169, 3), (35, .ireturn, 1), (36, .iload_n 2, 1), (37, .ifCond .ne 12, 3), (40, .aload_n 0, 1), (41, .getfield 113, 3), (44, .iload_n 1, 1), (45, .iaload, 1), (46, .goto 23, 3), (49, .iload_n 2, 1), (50, .iconst 1, 1), (51, .if_icmp .ne 12, 3), (54, .aload_n 0, 1), (55, .getfield 116, 3), (58, .iload_n 1, 1), (59, .iaload, 1), (60, .goto 9, 3), (63, .aload_n 0, 1), (64, .bipush (-7), 2), (66, .invokevirtual 169, 3), (69, .ireturn, 1)]
set_option maxRecDepth 100000 in
theorem kM_planned : tbOk (mB mM_planned) tM_planned = true := by decide +kernel
theorem pM_planned_0 : alk tM_planned 0 = some (.aload_n 0, 1) := (rfl)
theorem pM_planned_1 : alk tM_planned 1 = some (.getfield 119, 3) := (rfl)
theorem pM_planned_4 : alk tM_planned 4 = some (.iconst (-1), 1) := (rfl)
theorem pM_planned_5 : alk tM_planned 5 = some (.if_icmp .ne 10, 3) := (rfl)
theorem pM_planned_8 : alk tM_planned 8 = some (.aload_n 0, 1) := (rfl)
theorem pM_planned_9 : alk tM_planned 9 = some (.bipush (-2), 2) := (rfl)
theorem pM_planned_11 : alk tM_planned 11 = some (.invokevirtual 169, 3) := (rfl)
theorem pM_planned_14 : alk tM_planned 14 = some (.ireturn, 1) := (rfl)
theorem pM_planned_15 : alk tM_planned 15 = some (.iload_n 1, 1) := (rfl)
theorem pM_planned_16 : alk tM_planned 16 = some (.iconst 0, 1) := (rfl)
theorem pM_planned_17 : alk tM_planned 17 = some (.aload_n 0, 1) := (rfl)
theorem pM_planned_18 : alk tM_planned 18 = some (.getfield 119, 3) := (rfl)
theorem pM_planned_21 : alk tM_planned 21 = some (.iconst 1, 1) := (rfl)
theorem pM_planned_22 : alk tM_planned 22 = some (.isub, 1) := (rfl)
theorem pM_planned_23 : alk tM_planned 23 = some (.invokestatic 165, 3) := (rfl)
theorem pM_planned_26 : alk tM_planned 26 = some (.ifCond .ne 10, 3) := (rfl)
theorem pM_planned_29 : alk tM_planned 29 = some (.aload_n 0, 1) := (rfl)
theorem pM_planned_30 : alk tM_planned 30 = some (.bipush (-3), 2) := (rfl)
theorem pM_planned_32 : alk tM_planned 32 = some (.invokevirtual 169, 3) := (rfl)
theorem pM_planned_35 : alk tM_planned 35 = some (.ireturn, 1) := (rfl)
theorem pM_planned_36 : alk tM_planned 36 = some (.iload_n 2, 1) := (rfl)
theorem pM_planned_37 : alk tM_planned 37 = some (.ifCond .ne 12, 3) := (rfl)
theorem pM_planned_40 : alk tM_planned 40 = some (.aload_n 0, 1) := (rfl)
theorem pM_planned_41 : alk tM_planned 41 = some (.getfield 113, 3) := (rfl)
theorem pM_planned_44 : alk tM_planned 44 = some (.iload_n 1, 1) := (rfl)
theorem pM_planned_45 : alk tM_planned 45 = some (.iaload, 1) := (rfl)
theorem pM_planned_46 : alk tM_planned 46 = some (.goto 23, 3) := (rfl)
theorem pM_planned_49 : alk tM_planned 49 = some (.iload_n 2, 1) := (rfl)
theorem pM_planned_50 : alk tM_planned 50 = some (.iconst 1, 1) := (rfl)
theorem pM_planned_51 : alk tM_planned 51 = some (.if_icmp .ne 12, 3) := (rfl)
theorem pM_planned_54 : alk tM_planned 54 = some (.aload_n 0, 1) := (rfl)
theorem pM_planned_55 : alk tM_planned 55 = some (.getfield 116, 3) := (rfl)
theorem pM_planned_58 : alk tM_planned 58 = some (.iload_n 1, 1) := (rfl)
theorem pM_planned_59 : alk tM_planned 59 = some (.iaload, 1) := (rfl)
theorem pM_planned_60 : alk tM_planned 60 = some (.goto 9, 3) := (rfl)
theorem pM_planned_63 : alk tM_planned 63 = some (.aload_n 0, 1) := (rfl)
theorem pM_planned_64 : alk tM_planned 64 = some (.bipush (-7), 2) := (rfl)
theorem pM_planned_66 : alk tM_planned 66 = some (.invokevirtual 169, 3) := (rfl)
theorem pM_planned_69 : alk tM_planned 69 = some (.ireturn, 1) := (rfl)
def tM_feed : TB := [(0, .iload_n 2, 1), (1, .ifCond .ge 10, 3), (4, .aload_n 0, 1), (5, .bipush (-4), 2), (7, .invokevirtual 169, 3), (10, .ireturn, 1), (11, .iload_n 2, 1), (12, .iconst 4, 1), (13, .if_icmp .le 10, 3), (16, .aload_n 0, 1), (17, .bipush (-7), 2), (19, .invokevirtual 169, 3), (22, .ireturn, 1), (23, .aload_n 0, 1), (24, .getfield 250, 3), (27, .iload_n 2, 1), (28, .iadd, 1), (29, .bipush 80, 2), (31, .if_icmp .le 10, 3), (34, .aload_n 0, 1), (35, .bipush (-8), 2), (37, .invokevirtual 169, 3), (40, .ireturn, 1), (41, .iload_n 2, 1), (42, .iconst 1, 1), (43, .isub, 1), (44, .istore_n 3, 1), (45, .iload_n 3, 1), (46, .ifCond .lt 38, 3), (49, .aload_n 0, 1), (50, .getfield 150, 3), (53, .aload_n 0, 1), (54, .getfield 250, 3), (57, .iload_n 1, 1), (58, .bipush 8, 2), (60, .iload_n 3, 1), (61, .imul, 1), (62, .ishr, 1), (63, .sipush 255, 3), (66, .iand, 1), (67, .iastore, 1), (68, .aload_n 0, 1), (69, .dup, 1), (70, .getfield 250, 3), (73, .iconst 1, 1), (74, .iadd, 1), (75, .putfield 250, 3), (78, .iinc 3 (-1), 3), (81, .goto (-36), 3), (84, .aload_n 0, 1), (85, .getfield 250, 3), (88, .ireturn, 1)]
set_option maxRecDepth 100000 in
theorem kM_feed : tbOk (mB mM_feed) tM_feed = true := by decide +kernel
theorem pM_feed_0 : alk tM_feed 0 = some (.iload_n 2, 1) := (rfl)
theorem pM_feed_1 : alk tM_feed 1 = some (.ifCond .ge 10, 3) := (rfl)
theorem pM_feed_4 : alk tM_feed 4 = some (.aload_n 0, 1) := (rfl)
theorem pM_feed_5 : alk tM_feed 5 = some (.bipush (-4), 2) := (rfl)
theorem pM_feed_7 : alk tM_feed 7 = some (.invokevirtual 169, 3) := (rfl)
theorem pM_feed_10 : alk tM_feed 10 = some (.ireturn, 1) := (rfl)
theorem pM_feed_11 : alk tM_feed 11 = some (.iload_n 2, 1) := (rfl)
theorem pM_feed_12 : alk tM_feed 12 = some (.iconst 4, 1) := (rfl)
theorem pM_feed_13 : alk tM_feed 13 = some (.if_icmp .le 10, 3) := (rfl)
theorem pM_feed_16 : alk tM_feed 16 = some (.aload_n 0, 1) := (rfl)
theorem pM_feed_17 : alk tM_feed 17 = some (.bipush (-7), 2) := (rfl)
theorem pM_feed_19 : alk tM_feed 19 = some (.invokevirtual 169, 3) := (rfl)
theorem pM_feed_22 : alk tM_feed 22 = some (.ireturn, 1) := (rfl)
theorem pM_feed_23 : alk tM_feed 23 = some (.aload_n 0, 1) := (rfl)
theorem pM_feed_24 : alk tM_feed 24 = some (.getfield 250, 3) := (rfl)
theorem pM_feed_27 : alk tM_feed 27 = some (.iload_n 2, 1) := (rfl)
theorem pM_feed_28 : alk tM_feed 28 = some (.iadd, 1) := (rfl)
theorem pM_feed_29 : alk tM_feed 29 = some (.bipush 80, 2) := (rfl)
theorem pM_feed_31 : alk tM_feed 31 = some (.if_icmp .le 10, 3) := (rfl)
theorem pM_feed_34 : alk tM_feed 34 = some (.aload_n 0, 1) := (rfl)
theorem pM_feed_35 : alk tM_feed 35 = some (.bipush (-8), 2) := (rfl)
theorem pM_feed_37 : alk tM_feed 37 = some (.invokevirtual 169, 3) := (rfl)
theorem pM_feed_40 : alk tM_feed 40 = some (.ireturn, 1) := (rfl)
theorem pM_feed_41 : alk tM_feed 41 = some (.iload_n 2, 1) := (rfl)
theorem pM_feed_42 : alk tM_feed 42 = some (.iconst 1, 1) := (rfl)
theorem pM_feed_43 : alk tM_feed 43 = some (.isub, 1) := (rfl)
theorem pM_feed_44 : alk tM_feed 44 = some (.istore_n 3, 1) := (rfl)
theorem pM_feed_45 : alk tM_feed 45 = some (.iload_n 3, 1) := (rfl)
theorem pM_feed_46 : alk tM_feed 46 = some (.ifCond .lt 38, 3) := (rfl)
theorem pM_feed_49 : alk tM_feed 49 = some (.aload_n 0, 1) := (rfl)
theorem pM_feed_50 : alk tM_feed 50 = some (.getfield 150, 3) := (rfl)
theorem pM_feed_53 : alk tM_feed 53 = some (.aload_n 0, 1) := (rfl)
theorem pM_feed_54 : alk tM_feed 54 = some (.getfield 250, 3) := (rfl)
theorem pM_feed_57 : alk tM_feed 57 = some (.iload_n 1, 1) := (rfl)
theorem pM_feed_58 : alk tM_feed 58 = some (.bipush 8, 2) := (rfl)
theorem pM_feed_60 : alk tM_feed 60 = some (.iload_n 3, 1) := (rfl)
theorem pM_feed_61 : alk tM_feed 61 = some (.imul, 1) := (rfl)
theorem pM_feed_62 : alk tM_feed 62 = some (.ishr, 1) := (rfl)
theorem pM_feed_63 : alk tM_feed 63 = some (.sipush 255, 3) := (rfl)
theorem pM_feed_66 : alk tM_feed 66 = some (.iand, 1) := (rfl)
theorem pM_feed_67 : alk tM_feed 67 = some (.iastore, 1) := (rfl)
theorem pM_feed_68 : alk tM_feed 68 = some (.aload_n 0, 1) := (rfl)
theorem pM_feed_69 : alk tM_feed 69 = some (.dup, 1) := (rfl)
theorem pM_feed_70 : alk tM_feed 70 = some (.getfield 250, 3) := (rfl)
theorem pM_feed_73 : alk tM_feed 73 = some (.iconst 1, 1) := (rfl)
theorem pM_feed_74 : alk tM_feed 74 = some (.iadd, 1) := (rfl)
theorem pM_feed_75 : alk tM_feed 75 = some (.putfield 250, 3) := (rfl)
theorem pM_feed_78 : alk tM_feed 78 = some (.iinc 3 (-1), 3) := (rfl)
theorem pM_feed_81 : alk tM_feed 81 = some (.goto (-36), 3) := (rfl)
theorem pM_feed_84 : alk tM_feed 84 = some (.aload_n 0, 1) := (rfl)
theorem pM_feed_85 : alk tM_feed 85 = some (.getfield 250, 3) := (rfl)
theorem pM_feed_88 : alk tM_feed 88 = some (.ireturn, 1) := (rfl)
def tM_wipe : TB := [(0, .aload_n 0, 1), (1, .getfield 250, 3), (4, .istore_n 1, 1), (5, .aload_n 0, 1), (6, .iconst 0, 1), (7, .putfield 250, 3), (10, .iload_n 1, 1), (11, .ireturn, 1)]
set_option maxRecDepth 100000 in
theorem kM_wipe : tbOk (mB mM_wipe) tM_wipe = true := by decide +kernel
theorem pM_wipe_0 : alk tM_wipe 0 = some (.aload_n 0, 1) := (rfl)
theorem pM_wipe_1 : alk tM_wipe 1 = some (.getfield 250, 3) := (rfl)
theorem pM_wipe_4 : alk tM_wipe 4 = some (.istore_n 1, 1) := (rfl)
theorem pM_wipe_5 : alk tM_wipe 5 = some (.aload_n 0, 1) := (rfl)
theorem pM_wipe_6 : alk tM_wipe 6 = some (.iconst 0, 1) := (rfl)
theorem pM_wipe_7 : alk tM_wipe 7 = some (.putfield 250, 3) := (rfl)
theorem pM_wipe_10 : alk tM_wipe 10 = some (.iload_n 1, 1) := (rfl)
theorem pM_wipe_11 : alk tM_wipe 11 = some (.ireturn, 1) := (rfl)
def tM_rule : TB := [(0, .iload_n 1, 1), (1, .ifCond .lt 15, 3), (4, .iload_n 2, 1), (5, .ldc_w 297, 3), (8, .if_icmp .gt 8, 3), (11, .iload_n 1, 1), (12, .iload_n 2, 1), (13, .if_icmp .lt 10, 3), (16, .aload_n 0, 1), (17, .bipush (-7), 2), (19, .invokevirtual 169, 3), (22, .ireturn, 1), (23, .aload_n 0, 1), (24, .getfield 288, 3), (27, .bipush 10, 2), (29, .if_icmp .ne 10, 3), (32, .aload_n 0, 1), (33, .bipush (-8), 2), (35, .invokevirtual 169, 3), (38, .ireturn, 1), (39, .aload_n 0, 1), (40, .invokevirtual 298, 3), (43, .aload_n 0, 1), (44, .getfield 256, 3), (47, .ifCond .eq 11, 3), (50, .bipush (-10), 2), (52, .aload_n 0, 1), (53, .getfield 253, 3), (56, .isub, 1), (57, .ireturn, 1), (58, .aload_n 0, 1), (59, .getfield 129, 3), (62, .aload_n 0, 1), (63, .getfield 288, 3), (66, .iload_n 1, 1), (67, .iastore, 1), (68, .aload_n 0, 1), (69, .getfield 132, 3), (72, .aload_n 0, 1), (73, .getfield 288, 3), (76, .iload_n 2, 1), (77, .iastore, 1), (78, .aload_n 0, 1), (79, .iconst 0, 1), (80, .putfield 250, 3), (83, .aload_n 0, 1), (84, .dup, 1), (85, .getfield 288, 3), (88, .iconst 1, 1), (89, .iadd, 1), (90, .putfield 288, 3), (93, .aload_n 0, 1), (94, .getfield 288, 3), (97, .iconst 1, 1), (98, .isub, 1), (99, .ireturn, 1)]
set_option maxRecDepth 100000 in
theorem kM_rule : tbOk (mB mM_rule) tM_rule = true := by decide +kernel
theorem pM_rule_0 : alk tM_rule 0 = some (.iload_n 1, 1) := (rfl)
theorem pM_rule_1 : alk tM_rule 1 = some (.ifCond .lt 15, 3) := (rfl)
theorem pM_rule_4 : alk tM_rule 4 = some (.iload_n 2, 1) := (rfl)
theorem pM_rule_5 : alk tM_rule 5 = some (.ldc_w 297, 3) := (rfl)
theorem pM_rule_8 : alk tM_rule 8 = some (.if_icmp .gt 8, 3) := (rfl)
theorem pM_rule_11 : alk tM_rule 11 = some (.iload_n 1, 1) := (rfl)
theorem pM_rule_12 : alk tM_rule 12 = some (.iload_n 2, 1) := (rfl)
theorem pM_rule_13 : alk tM_rule 13 = some (.if_icmp .lt 10, 3) := (rfl)
theorem pM_rule_16 : alk tM_rule 16 = some (.aload_n 0, 1) := (rfl)
theorem pM_rule_17 : alk tM_rule 17 = some (.bipush (-7), 2) := (rfl)
theorem pM_rule_19 : alk tM_rule 19 = some (.invokevirtual 169, 3) := (rfl)
theorem pM_rule_22 : alk tM_rule 22 = some (.ireturn, 1) := (rfl)
theorem pM_rule_23 : alk tM_rule 23 = some (.aload_n 0, 1) := (rfl)
theorem pM_rule_24 : alk tM_rule 24 = some (.getfield 288, 3) := (rfl)
theorem pM_rule_27 : alk tM_rule 27 = some (.bipush 10, 2) := (rfl)
theorem pM_rule_29 : alk tM_rule 29 = some (.if_icmp .ne 10, 3) := (rfl)
theorem pM_rule_32 : alk tM_rule 32 = some (.aload_n 0, 1) := (rfl)
theorem pM_rule_33 : alk tM_rule 33 = some (.bipush (-8), 2) := (rfl)
theorem pM_rule_35 : alk tM_rule 35 = some (.invokevirtual 169, 3) := (rfl)
theorem pM_rule_38 : alk tM_rule 38 = some (.ireturn, 1) := (rfl)
theorem pM_rule_39 : alk tM_rule 39 = some (.aload_n 0, 1) := (rfl)
theorem pM_rule_40 : alk tM_rule 40 = some (.invokevirtual 298, 3) := (rfl)
theorem pM_rule_43 : alk tM_rule 43 = some (.aload_n 0, 1) := (rfl)
theorem pM_rule_44 : alk tM_rule 44 = some (.getfield 256, 3) := (rfl)
theorem pM_rule_47 : alk tM_rule 47 = some (.ifCond .eq 11, 3) := (rfl)
theorem pM_rule_50 : alk tM_rule 50 = some (.bipush (-10), 2) := (rfl)
theorem pM_rule_52 : alk tM_rule 52 = some (.aload_n 0, 1) := (rfl)
theorem pM_rule_53 : alk tM_rule 53 = some (.getfield 253, 3) := (rfl)
theorem pM_rule_56 : alk tM_rule 56 = some (.isub, 1) := (rfl)
theorem pM_rule_57 : alk tM_rule 57 = some (.ireturn, 1) := (rfl)
theorem pM_rule_58 : alk tM_rule 58 = some (.aload_n 0, 1) := (rfl)
theorem pM_rule_59 : alk tM_rule 59 = some (.getfield 129, 3) := (rfl)
theorem pM_rule_62 : alk tM_rule 62 = some (.aload_n 0, 1) := (rfl)
theorem pM_rule_63 : alk tM_rule 63 = some (.getfield 288, 3) := (rfl)
theorem pM_rule_66 : alk tM_rule 66 = some (.iload_n 1, 1) := (rfl)
theorem pM_rule_67 : alk tM_rule 67 = some (.iastore, 1) := (rfl)
theorem pM_rule_68 : alk tM_rule 68 = some (.aload_n 0, 1) := (rfl)
theorem pM_rule_69 : alk tM_rule 69 = some (.getfield 132, 3) := (rfl)
theorem pM_rule_72 : alk tM_rule 72 = some (.aload_n 0, 1) := (rfl)
theorem pM_rule_73 : alk tM_rule 73 = some (.getfield 288, 3) := (rfl)
theorem pM_rule_76 : alk tM_rule 76 = some (.iload_n 2, 1) := (rfl)
theorem pM_rule_77 : alk tM_rule 77 = some (.iastore, 1) := (rfl)
theorem pM_rule_78 : alk tM_rule 78 = some (.aload_n 0, 1) := (rfl)
theorem pM_rule_79 : alk tM_rule 79 = some (.iconst 0, 1) := (rfl)
theorem pM_rule_80 : alk tM_rule 80 = some (.putfield 250, 3) := (rfl)
theorem pM_rule_83 : alk tM_rule 83 = some (.aload_n 0, 1) := (rfl)
theorem pM_rule_84 : alk tM_rule 84 = some (.dup, 1) := (rfl)
theorem pM_rule_85 : alk tM_rule 85 = some (.getfield 288, 3) := (rfl)
theorem pM_rule_88 : alk tM_rule 88 = some (.iconst 1, 1) := (rfl)
theorem pM_rule_89 : alk tM_rule 89 = some (.iadd, 1) := (rfl)
theorem pM_rule_90 : alk tM_rule 90 = some (.putfield 288, 3) := (rfl)
theorem pM_rule_93 : alk tM_rule 93 = some (.aload_n 0, 1) := (rfl)
theorem pM_rule_94 : alk tM_rule 94 = some (.getfield 288, 3) := (rfl)
theorem pM_rule_97 : alk tM_rule 97 = some (.iconst 1, 1) := (rfl)
theorem pM_rule_98 : alk tM_rule 98 = some (.isub, 1) := (rfl)
theorem pM_rule_99 : alk tM_rule 99 = some (.ireturn, 1) := (rfl)
def tM_readRule : TB := [(0, .aload_n 0, 1), (1, .iconst 0, 1), (2, .putfield 253, 3), (5, .aload_n 0, 1), (6, .iconst 0, 1), (7, .putfield 256, 3), (10, .aload_n 0, 1), (11, .aload_n 0, 1), (12, .getfield 288, 3), (15, .putfield 279, 3), (18, .aload_n 0, 1), (19, .getfield 135, 3), (22, .aload_n 0, 1), (23, .getfield 279, 3), (26, .iconst 0, 1), (27, .iastore, 1), (28, .aload_n 0, 1), (29, .getfield 123, 3), (32, .aload_n 0, 1), (33, .getfield 279, 3), (36, .aload_n 0, 1), (37, .invokevirtual 291, 3), (40, .iastore, 1), (41, .aload_n 0, 1), (42, .bipush 32, 2), (44, .invokevirtual 265, 3), (47, .aload_n 0, 1), (48, .getfield 126, 3), (51, .aload_n 0, 1), (52, .getfield 279, 3), (55, .aload_n 0, 1), (56, .invokevirtual 285, 3), (59, .iastore, 1), (60, .aload_n 0, 1), (61, .getfield 256, 3), (64, .ifCond .ne 92, 3), (67, .aload_n 0, 1), (68, .getfield 253, 3), (71, .aload_n 0, 1), (72, .getfield 250, 3), (75, .if_icmp .ge 81, 3), (78, .aload_n 0, 1), (79, .getfield 135, 3), (82, .aload_n 0, 1), (83, .getfield 279, 3), (86, .iaload, 1), (87, .iconst 3, 1), (88, .if_icmp .ne 9, 3), (91, .aload_n 0, 1), (92, .iconst 1, 1), (93, .putfield 256, 3), (96, .return_, 1), (97, .aload_n 0, 1), (98, .aload_n 0, 1), (99, .getfield 135, 3), (102, .aload_n 0, 1), (103, .getfield 279, 3), (106, .iaload, 1), (107, .ifCond .ne 19, 3), (110, .iconst 0, 1), (111, .iconst 0, 1), (112, .bipush 27, 2), (114, .bipush 9, 2), (116, .bipush 6, 2), (118, .bipush 27, 2), (120, .invokestatic 271, 3), (123, .goto 16, 3), (126, .iconst 0, 1), (127, .iconst 0, 1), (128, .bipush 27, 2), (130, .bipush 15, 2), (132, .bipush 18, 2), (134, .bipush 27, 2), (136, .invokestatic 271, 3), (139, .invokevirtual 275, 3), (142, .aload_n 0, 1), (143, .getfield 256, 3), (146, .ifCond .ne (-86), 3), (149, .aload_n 0, 1), (150, .invokevirtual 294, 3), (153, .goto (-93), 3), (156, .return_, 1)]
set_option maxRecDepth 100000 in
theorem kM_readRule : tbOk (mB mM_readRule) tM_readRule = true := by decide +kernel
theorem pM_readRule_0 : alk tM_readRule 0 = some (.aload_n 0, 1) := (rfl)
theorem pM_readRule_1 : alk tM_readRule 1 = some (.iconst 0, 1) := (rfl)
theorem pM_readRule_2 : alk tM_readRule 2 = some (.putfield 253, 3) := (rfl)
theorem pM_readRule_5 : alk tM_readRule 5 = some (.aload_n 0, 1) := (rfl)
theorem pM_readRule_6 : alk tM_readRule 6 = some (.iconst 0, 1) := (rfl)
theorem pM_readRule_7 : alk tM_readRule 7 = some (.putfield 256, 3) := (rfl)
theorem pM_readRule_10 : alk tM_readRule 10 = some (.aload_n 0, 1) := (rfl)
theorem pM_readRule_11 : alk tM_readRule 11 = some (.aload_n 0, 1) := (rfl)
theorem pM_readRule_12 : alk tM_readRule 12 = some (.getfield 288, 3) := (rfl)
theorem pM_readRule_15 : alk tM_readRule 15 = some (.putfield 279, 3) := (rfl)
theorem pM_readRule_18 : alk tM_readRule 18 = some (.aload_n 0, 1) := (rfl)
theorem pM_readRule_19 : alk tM_readRule 19 = some (.getfield 135, 3) := (rfl)
theorem pM_readRule_22 : alk tM_readRule 22 = some (.aload_n 0, 1) := (rfl)
theorem pM_readRule_23 : alk tM_readRule 23 = some (.getfield 279, 3) := (rfl)
theorem pM_readRule_26 : alk tM_readRule 26 = some (.iconst 0, 1) := (rfl)
theorem pM_readRule_27 : alk tM_readRule 27 = some (.iastore, 1) := (rfl)
theorem pM_readRule_28 : alk tM_readRule 28 = some (.aload_n 0, 1) := (rfl)
theorem pM_readRule_29 : alk tM_readRule 29 = some (.getfield 123, 3) := (rfl)
theorem pM_readRule_32 : alk tM_readRule 32 = some (.aload_n 0, 1) := (rfl)
theorem pM_readRule_33 : alk tM_readRule 33 = some (.getfield 279, 3) := (rfl)
theorem pM_readRule_36 : alk tM_readRule 36 = some (.aload_n 0, 1) := (rfl)
theorem pM_readRule_37 : alk tM_readRule 37 = some (.invokevirtual 291, 3) := (rfl)
theorem pM_readRule_40 : alk tM_readRule 40 = some (.iastore, 1) := (rfl)
theorem pM_readRule_41 : alk tM_readRule 41 = some (.aload_n 0, 1) := (rfl)
theorem pM_readRule_42 : alk tM_readRule 42 = some (.bipush 32, 2) := (rfl)
theorem pM_readRule_44 : alk tM_readRule 44 = some (.invokevirtual 265, 3) := (rfl)
theorem pM_readRule_47 : alk tM_readRule 47 = some (.aload_n 0, 1) := (rfl)
theorem pM_readRule_48 : alk tM_readRule 48 = some (.getfield 126, 3) := (rfl)
theorem pM_readRule_51 : alk tM_readRule 51 = some (.aload_n 0, 1) := (rfl)
theorem pM_readRule_52 : alk tM_readRule 52 = some (.getfield 279, 3) := (rfl)
theorem pM_readRule_55 : alk tM_readRule 55 = some (.aload_n 0, 1) := (rfl)
theorem pM_readRule_56 : alk tM_readRule 56 = some (.invokevirtual 285, 3) := (rfl)
theorem pM_readRule_59 : alk tM_readRule 59 = some (.iastore, 1) := (rfl)
theorem pM_readRule_60 : alk tM_readRule 60 = some (.aload_n 0, 1) := (rfl)
theorem pM_readRule_61 : alk tM_readRule 61 = some (.getfield 256, 3) := (rfl)
theorem pM_readRule_64 : alk tM_readRule 64 = some (.ifCond .ne 92, 3) := (rfl)
theorem pM_readRule_67 : alk tM_readRule 67 = some (.aload_n 0, 1) := (rfl)
theorem pM_readRule_68 : alk tM_readRule 68 = some (.getfield 253, 3) := (rfl)
theorem pM_readRule_71 : alk tM_readRule 71 = some (.aload_n 0, 1) := (rfl)
theorem pM_readRule_72 : alk tM_readRule 72 = some (.getfield 250, 3) := (rfl)
theorem pM_readRule_75 : alk tM_readRule 75 = some (.if_icmp .ge 81, 3) := (rfl)
theorem pM_readRule_78 : alk tM_readRule 78 = some (.aload_n 0, 1) := (rfl)
theorem pM_readRule_79 : alk tM_readRule 79 = some (.getfield 135, 3) := (rfl)
theorem pM_readRule_82 : alk tM_readRule 82 = some (.aload_n 0, 1) := (rfl)
theorem pM_readRule_83 : alk tM_readRule 83 = some (.getfield 279, 3) := (rfl)
theorem pM_readRule_86 : alk tM_readRule 86 = some (.iaload, 1) := (rfl)
theorem pM_readRule_87 : alk tM_readRule 87 = some (.iconst 3, 1) := (rfl)
theorem pM_readRule_88 : alk tM_readRule 88 = some (.if_icmp .ne 9, 3) := (rfl)
theorem pM_readRule_91 : alk tM_readRule 91 = some (.aload_n 0, 1) := (rfl)
theorem pM_readRule_92 : alk tM_readRule 92 = some (.iconst 1, 1) := (rfl)
theorem pM_readRule_93 : alk tM_readRule 93 = some (.putfield 256, 3) := (rfl)
theorem pM_readRule_96 : alk tM_readRule 96 = some (.return_, 1) := (rfl)
theorem pM_readRule_97 : alk tM_readRule 97 = some (.aload_n 0, 1) := (rfl)
theorem pM_readRule_98 : alk tM_readRule 98 = some (.aload_n 0, 1) := (rfl)
theorem pM_readRule_99 : alk tM_readRule 99 = some (.getfield 135, 3) := (rfl)
theorem pM_readRule_102 : alk tM_readRule 102 = some (.aload_n 0, 1) := (rfl)
theorem pM_readRule_103 : alk tM_readRule 103 = some (.getfield 279, 3) := (rfl)
theorem pM_readRule_106 : alk tM_readRule 106 = some (.iaload, 1) := (rfl)
theorem pM_readRule_107 : alk tM_readRule 107 = some (.ifCond .ne 19, 3) := (rfl)
theorem pM_readRule_110 : alk tM_readRule 110 = some (.iconst 0, 1) := (rfl)
theorem pM_readRule_111 : alk tM_readRule 111 = some (.iconst 0, 1) := (rfl)
set_option maxRecDepth 20000 in
theorem pM_readRule_112 : alk tM_readRule 112 = some (.bipush 27, 2) := (rfl)
set_option maxRecDepth 20000 in
theorem pM_readRule_114 : alk tM_readRule 114 = some (.bipush 9, 2) := (rfl)
set_option maxRecDepth 20000 in
theorem pM_readRule_116 : alk tM_readRule 116 = some (.bipush 6, 2) := (rfl)
set_option maxRecDepth 20000 in
theorem pM_readRule_118 : alk tM_readRule 118 = some (.bipush 27, 2) := (rfl)
set_option maxRecDepth 20000 in
theorem pM_readRule_120 : alk tM_readRule 120 = some (.invokestatic 271, 3) := (rfl)
set_option maxRecDepth 20000 in
theorem pM_readRule_123 : alk tM_readRule 123 = some (.goto 16, 3) := (rfl)
set_option maxRecDepth 20000 in
theorem pM_readRule_126 : alk tM_readRule 126 = some (.iconst 0, 1) := (rfl)
set_option maxRecDepth 20000 in
theorem pM_readRule_127 : alk tM_readRule 127 = some (.iconst 0, 1) := (rfl)
set_option maxRecDepth 20000 in
theorem pM_readRule_128 : alk tM_readRule 128 = some (.bipush 27, 2) := (rfl)
set_option maxRecDepth 20000 in
theorem pM_readRule_130 : alk tM_readRule 130 = some (.bipush 15, 2) := (rfl)
set_option maxRecDepth 20000 in
theorem pM_readRule_132 : alk tM_readRule 132 = some (.bipush 18, 2) := (rfl)
set_option maxRecDepth 20000 in
theorem pM_readRule_134 : alk tM_readRule 134 = some (.bipush 27, 2) := (rfl)
set_option maxRecDepth 20000 in
theorem pM_readRule_136 : alk tM_readRule 136 = some (.invokestatic 271, 3) := (rfl)
set_option maxRecDepth 20000 in
theorem pM_readRule_139 : alk tM_readRule 139 = some (.invokevirtual 275, 3) := (rfl)
set_option maxRecDepth 20000 in
theorem pM_readRule_142 : alk tM_readRule 142 = some (.aload_n 0, 1) := (rfl)
set_option maxRecDepth 20000 in
theorem pM_readRule_143 : alk tM_readRule 143 = some (.getfield 256, 3) := (rfl)
set_option maxRecDepth 20000 in
theorem pM_readRule_146 : alk tM_readRule 146 = some (.ifCond .ne (-86), 3) := (rfl)
set_option maxRecDepth 20000 in
theorem pM_readRule_149 : alk tM_readRule 149 = some (.aload_n 0, 1) := (rfl)
set_option maxRecDepth 20000 in
theorem pM_readRule_150 : alk tM_readRule 150 = some (.invokevirtual 294, 3) := (rfl)
set_option maxRecDepth 20000 in
theorem pM_readRule_153 : alk tM_readRule 153 = some (.goto (-93), 3) := (rfl)
set_option maxRecDepth 20000 in
theorem pM_readRule_156 : alk tM_readRule 156 = some (.return_, 1) := (rfl)
def tM_keyHere : TB := [(0, .aload_n 0, 1), (1, .invokevirtual 260, 3), (4, .tableswitch 85 98 102 #[69, 85, 36, 85, 53], 36), (40, .aload_n 0, 1), (41, .iconst 0, 1), (42, .iconst 0, 1), (43, .iconst 4, 1), (44, .bipush 15, 2), (46, .iconst 3, 1), (47, .bipush 11, 2), (49, .invokestatic 271, 3), (52, .invokevirtual 275, 3), (55, .iconst 0, 1), (56, .ireturn, 1), (57, .aload_n 0, 1), (58, .iconst 0, 1), (59, .iconst 0, 1), (60, .iconst 0, 1), (61, .bipush 6, 2), (63, .iconst 5, 1), (64, .iconst 5, 1), (65, .invokestatic 271, 3), (68, .invokevirtual 275, 3), (71, .iconst 1, 1), (72, .ireturn, 1), (73, .aload_n 0, 1), (74, .iconst 0, 1), (75, .iconst 0, 1), (76, .iconst 0, 1), (77, .iconst 2, 1), (78, .iconst 1, 1), (79, .bipush 18, 2), (81, .invokestatic 271, 3), (84, .invokevirtual 275, 3), (87, .iconst 2, 1), (88, .ireturn, 1), (89, .aload_n 0, 1), (90, .iconst 0, 1), (91, .bipush 23, 2), (93, .iconst 1, 1), (94, .bipush 20, 2), (96, .iconst 5, 1), (97, .bipush 18, 2), (99, .invokestatic 271, 3), (102, .invokevirtual 275, 3), (105, .iconst 3, 1), (106, .ireturn, 1)]
set_option maxRecDepth 100000 in
theorem kM_keyHere : tbOk (mB mM_keyHere) tM_keyHere = true := by decide +kernel
theorem pM_keyHere_0 : alk tM_keyHere 0 = some (.aload_n 0, 1) := (rfl)
theorem pM_keyHere_1 : alk tM_keyHere 1 = some (.invokevirtual 260, 3) := (rfl)
theorem pM_keyHere_4 : alk tM_keyHere 4 = some (.tableswitch 85 98 102 #[69, 85, 36, 85, 53], 36) := (rfl)
theorem pM_keyHere_40 : alk tM_keyHere 40 = some (.aload_n 0, 1) := (rfl)
theorem pM_keyHere_41 : alk tM_keyHere 41 = some (.iconst 0, 1) := (rfl)
theorem pM_keyHere_42 : alk tM_keyHere 42 = some (.iconst 0, 1) := (rfl)
theorem pM_keyHere_43 : alk tM_keyHere 43 = some (.iconst 4, 1) := (rfl)
theorem pM_keyHere_44 : alk tM_keyHere 44 = some (.bipush 15, 2) := (rfl)
theorem pM_keyHere_46 : alk tM_keyHere 46 = some (.iconst 3, 1) := (rfl)
theorem pM_keyHere_47 : alk tM_keyHere 47 = some (.bipush 11, 2) := (rfl)
theorem pM_keyHere_49 : alk tM_keyHere 49 = some (.invokestatic 271, 3) := (rfl)
theorem pM_keyHere_52 : alk tM_keyHere 52 = some (.invokevirtual 275, 3) := (rfl)
theorem pM_keyHere_55 : alk tM_keyHere 55 = some (.iconst 0, 1) := (rfl)
theorem pM_keyHere_56 : alk tM_keyHere 56 = some (.ireturn, 1) := (rfl)
theorem pM_keyHere_57 : alk tM_keyHere 57 = some (.aload_n 0, 1) := (rfl)
theorem pM_keyHere_58 : alk tM_keyHere 58 = some (.iconst 0, 1) := (rfl)
theorem pM_keyHere_59 : alk tM_keyHere 59 = some (.iconst 0, 1) := (rfl)
theorem pM_keyHere_60 : alk tM_keyHere 60 = some (.iconst 0, 1) := (rfl)
theorem pM_keyHere_61 : alk tM_keyHere 61 = some (.bipush 6, 2) := (rfl)
theorem pM_keyHere_63 : alk tM_keyHere 63 = some (.iconst 5, 1) := (rfl)
theorem pM_keyHere_64 : alk tM_keyHere 64 = some (.iconst 5, 1) := (rfl)
theorem pM_keyHere_65 : alk tM_keyHere 65 = some (.invokestatic 271, 3) := (rfl)
theorem pM_keyHere_68 : alk tM_keyHere 68 = some (.invokevirtual 275, 3) := (rfl)
theorem pM_keyHere_71 : alk tM_keyHere 71 = some (.iconst 1, 1) := (rfl)
theorem pM_keyHere_72 : alk tM_keyHere 72 = some (.ireturn, 1) := (rfl)
theorem pM_keyHere_73 : alk tM_keyHere 73 = some (.aload_n 0, 1) := (rfl)
theorem pM_keyHere_74 : alk tM_keyHere 74 = some (.iconst 0, 1) := (rfl)
theorem pM_keyHere_75 : alk tM_keyHere 75 = some (.iconst 0, 1) := (rfl)
theorem pM_keyHere_76 : alk tM_keyHere 76 = some (.iconst 0, 1) := (rfl)
theorem pM_keyHere_77 : alk tM_keyHere 77 = some (.iconst 2, 1) := (rfl)
theorem pM_keyHere_78 : alk tM_keyHere 78 = some (.iconst 1, 1) := (rfl)
theorem pM_keyHere_79 : alk tM_keyHere 79 = some (.bipush 18, 2) := (rfl)
theorem pM_keyHere_81 : alk tM_keyHere 81 = some (.invokestatic 271, 3) := (rfl)
theorem pM_keyHere_84 : alk tM_keyHere 84 = some (.invokevirtual 275, 3) := (rfl)
theorem pM_keyHere_87 : alk tM_keyHere 87 = some (.iconst 2, 1) := (rfl)
theorem pM_keyHere_88 : alk tM_keyHere 88 = some (.ireturn, 1) := (rfl)
theorem pM_keyHere_89 : alk tM_keyHere 89 = some (.aload_n 0, 1) := (rfl)
theorem pM_keyHere_90 : alk tM_keyHere 90 = some (.iconst 0, 1) := (rfl)
theorem pM_keyHere_91 : alk tM_keyHere 91 = some (.bipush 23, 2) := (rfl)
theorem pM_keyHere_93 : alk tM_keyHere 93 = some (.iconst 1, 1) := (rfl)
theorem pM_keyHere_94 : alk tM_keyHere 94 = some (.bipush 20, 2) := (rfl)
theorem pM_keyHere_96 : alk tM_keyHere 96 = some (.iconst 5, 1) := (rfl)
theorem pM_keyHere_97 : alk tM_keyHere 97 = some (.bipush 18, 2) := (rfl)
theorem pM_keyHere_99 : alk tM_keyHere 99 = some (.invokestatic 271, 3) := (rfl)
theorem pM_keyHere_102 : alk tM_keyHere 102 = some (.invokevirtual 275, 3) := (rfl)
theorem pM_keyHere_105 : alk tM_keyHere 105 = some (.iconst 3, 1) := (rfl)
theorem pM_keyHere_106 : alk tM_keyHere 106 = some (.ireturn, 1) := (rfl)
def tM_here : TB := [(0, .aload_n 0, 1), (1, .getfield 253, 3), (4, .aload_n 0, 1), (5, .getfield 250, 3), (8, .if_icmp .ge 15, 3), (11, .aload_n 0, 1), (12, .getfield 150, 3), (15, .aload_n 0, 1), (16, .getfield 253, 3), (19, .iaload, 1), (20, .goto 4, 3), (23, .iconst (-1), 1), (24, .ireturn, 1)]
set_option maxRecDepth 100000 in
theorem kM_here : tbOk (mB mM_here) tM_here = true := by decide +kernel
theorem pM_here_0 : alk tM_here 0 = some (.aload_n 0, 1) := (rfl)
theorem pM_here_1 : alk tM_here 1 = some (.getfield 253, 3) := (rfl)
theorem pM_here_4 : alk tM_here 4 = some (.aload_n 0, 1) := (rfl)
theorem pM_here_5 : alk tM_here 5 = some (.getfield 250, 3) := (rfl)
theorem pM_here_8 : alk tM_here 8 = some (.if_icmp .ge 15, 3) := (rfl)
theorem pM_here_11 : alk tM_here 11 = some (.aload_n 0, 1) := (rfl)
theorem pM_here_12 : alk tM_here 12 = some (.getfield 150, 3) := (rfl)
theorem pM_here_15 : alk tM_here 15 = some (.aload_n 0, 1) := (rfl)
theorem pM_here_16 : alk tM_here 16 = some (.getfield 253, 3) := (rfl)
theorem pM_here_19 : alk tM_here 19 = some (.iaload, 1) := (rfl)
theorem pM_here_20 : alk tM_here 20 = some (.goto 4, 3) := (rfl)
theorem pM_here_23 : alk tM_here 23 = some (.iconst (-1), 1) := (rfl)
theorem pM_here_24 : alk tM_here 24 = some (.ireturn, 1) := (rfl)
def tM_named : TB := [(0, .ldc2_w 269, 3), (3, .iload_n 0, 1), (4, .i2l, 1), (5, .lmul, 1), (6, .iload_n 1, 1), (7, .i2l, 1), (8, .ladd, 1), (9, .ldc2_w 269, 3), (12, .lmul, 1), (13, .iload_n 2, 1), (14, .i2l, 1), (15, .ladd, 1), (16, .ldc2_w 269, 3), (19, .lmul, 1), (20, .iload_n 3, 1), (21, .i2l, 1), (22, .ladd, 1), (23, .ldc2_w 269, 3), (26, .lmul, 1), (27, .iload 4, 2), (29, .i2l, 1), (30, .ladd, 1), (31, .ldc2_w 269, 3), (34, .lmul, 1), (35, .iload 5, 2), (37, .i2l, 1), (38, .ladd, 1), (39, .lreturn, 1)]
set_option maxRecDepth 100000 in
theorem kM_named : tbOk (mB mM_named) tM_named = true := by decide +kernel
theorem pM_named_0 : alk tM_named 0 = some (.ldc2_w 269, 3) := (rfl)
theorem pM_named_3 : alk tM_named 3 = some (.iload_n 0, 1) := (rfl)
theorem pM_named_4 : alk tM_named 4 = some (.i2l, 1) := (rfl)
theorem pM_named_5 : alk tM_named 5 = some (.lmul, 1) := (rfl)
theorem pM_named_6 : alk tM_named 6 = some (.iload_n 1, 1) := (rfl)
theorem pM_named_7 : alk tM_named 7 = some (.i2l, 1) := (rfl)
theorem pM_named_8 : alk tM_named 8 = some (.ladd, 1) := (rfl)
theorem pM_named_9 : alk tM_named 9 = some (.ldc2_w 269, 3) := (rfl)
theorem pM_named_12 : alk tM_named 12 = some (.lmul, 1) := (rfl)
theorem pM_named_13 : alk tM_named 13 = some (.iload_n 2, 1) := (rfl)
theorem pM_named_14 : alk tM_named 14 = some (.i2l, 1) := (rfl)
theorem pM_named_15 : alk tM_named 15 = some (.ladd, 1) := (rfl)
theorem pM_named_16 : alk tM_named 16 = some (.ldc2_w 269, 3) := (rfl)
theorem pM_named_19 : alk tM_named 19 = some (.lmul, 1) := (rfl)
theorem pM_named_20 : alk tM_named 20 = some (.iload_n 3, 1) := (rfl)
theorem pM_named_21 : alk tM_named 21 = some (.i2l, 1) := (rfl)
theorem pM_named_22 : alk tM_named 22 = some (.ladd, 1) := (rfl)
theorem pM_named_23 : alk tM_named 23 = some (.ldc2_w 269, 3) := (rfl)
theorem pM_named_26 : alk tM_named 26 = some (.lmul, 1) := (rfl)
theorem pM_named_27 : alk tM_named 27 = some (.iload 4, 2) := (rfl)
theorem pM_named_29 : alk tM_named 29 = some (.i2l, 1) := (rfl)
theorem pM_named_30 : alk tM_named 30 = some (.ladd, 1) := (rfl)
theorem pM_named_31 : alk tM_named 31 = some (.ldc2_w 269, 3) := (rfl)
theorem pM_named_34 : alk tM_named 34 = some (.lmul, 1) := (rfl)
theorem pM_named_35 : alk tM_named 35 = some (.iload 5, 2) := (rfl)
theorem pM_named_37 : alk tM_named 37 = some (.i2l, 1) := (rfl)
theorem pM_named_38 : alk tM_named 38 = some (.ladd, 1) := (rfl)
theorem pM_named_39 : alk tM_named 39 = some (.lreturn, 1) := (rfl)
def tM_letters : TB := [(0, .bipush 25, 2), (2, .istore_n 3, 1), (3, .iload_n 3, 1), (4, .ifCond .lt 47, 3), (7, .lload_n 1, 1), (8, .iload_n 3, 1), (9, .lshr, 1), (10, .ldc2_w 263, 3), (13, .land, 1), (14, .l2i, 1), (15, .istore 4, 2), (17, .iload 4, 2), (19, .ifCond .le 26, 3), (22, .aload_n 0, 1), (23, .iload 4, 2), (25, .bipush 27, 2), (27, .if_icmp .ne 8, 3), (30, .bipush 32, 2), (32, .goto 10, 3), (35, .bipush 97, 2), (37, .iload 4, 2), (39, .iadd, 1), (40, .iconst 1, 1), (41, .isub, 1), (42, .invokevirtual 265, 3), (45, .iinc 3 (-5), 3), (48, .goto (-45), 3), (51, .return_, 1)]
set_option maxRecDepth 100000 in
theorem kM_letters : tbOk (mB mM_letters) tM_letters = true := by decide +kernel
theorem pM_letters_0 : alk tM_letters 0 = some (.bipush 25, 2) := (rfl)
theorem pM_letters_2 : alk tM_letters 2 = some (.istore_n 3, 1) := (rfl)
theorem pM_letters_3 : alk tM_letters 3 = some (.iload_n 3, 1) := (rfl)
theorem pM_letters_4 : alk tM_letters 4 = some (.ifCond .lt 47, 3) := (rfl)
theorem pM_letters_7 : alk tM_letters 7 = some (.lload_n 1, 1) := (rfl)
theorem pM_letters_8 : alk tM_letters 8 = some (.iload_n 3, 1) := (rfl)
theorem pM_letters_9 : alk tM_letters 9 = some (.lshr, 1) := (rfl)
theorem pM_letters_10 : alk tM_letters 10 = some (.ldc2_w 263, 3) := (rfl)
theorem pM_letters_13 : alk tM_letters 13 = some (.land, 1) := (rfl)
theorem pM_letters_14 : alk tM_letters 14 = some (.l2i, 1) := (rfl)
theorem pM_letters_15 : alk tM_letters 15 = some (.istore 4, 2) := (rfl)
theorem pM_letters_17 : alk tM_letters 17 = some (.iload 4, 2) := (rfl)
theorem pM_letters_19 : alk tM_letters 19 = some (.ifCond .le 26, 3) := (rfl)
theorem pM_letters_22 : alk tM_letters 22 = some (.aload_n 0, 1) := (rfl)
theorem pM_letters_23 : alk tM_letters 23 = some (.iload 4, 2) := (rfl)
theorem pM_letters_25 : alk tM_letters 25 = some (.bipush 27, 2) := (rfl)
theorem pM_letters_27 : alk tM_letters 27 = some (.if_icmp .ne 8, 3) := (rfl)
theorem pM_letters_30 : alk tM_letters 30 = some (.bipush 32, 2) := (rfl)
theorem pM_letters_32 : alk tM_letters 32 = some (.goto 10, 3) := (rfl)
theorem pM_letters_35 : alk tM_letters 35 = some (.bipush 97, 2) := (rfl)
theorem pM_letters_37 : alk tM_letters 37 = some (.iload 4, 2) := (rfl)
theorem pM_letters_39 : alk tM_letters 39 = some (.iadd, 1) := (rfl)
theorem pM_letters_40 : alk tM_letters 40 = some (.iconst 1, 1) := (rfl)
theorem pM_letters_41 : alk tM_letters 41 = some (.isub, 1) := (rfl)
theorem pM_letters_42 : alk tM_letters 42 = some (.invokevirtual 265, 3) := (rfl)
theorem pM_letters_45 : alk tM_letters 45 = some (.iinc 3 (-5), 3) := (rfl)
theorem pM_letters_48 : alk tM_letters 48 = some (.goto (-45), 3) := (rfl)
theorem pM_letters_51 : alk tM_letters 51 = some (.return_, 1) := (rfl)
def tM_one : TB := [(0, .aload_n 0, 1), (1, .getfield 256, 3), (4, .ifCond .eq 4, 3), (7, .return_, 1), (8, .aload_n 0, 1), (9, .invokevirtual 260, 3), (12, .iload_n 1, 1), (13, .if_icmp .ne 16, 3), (16, .aload_n 0, 1), (17, .dup, 1), (18, .getfield 253, 3), (21, .iconst 1, 1), (22, .iadd, 1), (23, .putfield 253, 3), (26, .goto 8, 3), (29, .aload_n 0, 1), (30, .iconst 1, 1), (31, .putfield 256, 3), (34, .return_, 1)]
set_option maxRecDepth 100000 in
theorem kM_one : tbOk (mB mM_one) tM_one = true := by decide +kernel
theorem pM_one_0 : alk tM_one 0 = some (.aload_n 0, 1) := (rfl)
theorem pM_one_1 : alk tM_one 1 = some (.getfield 256, 3) := (rfl)
theorem pM_one_4 : alk tM_one 4 = some (.ifCond .eq 4, 3) := (rfl)
theorem pM_one_7 : alk tM_one 7 = some (.return_, 1) := (rfl)
theorem pM_one_8 : alk tM_one 8 = some (.aload_n 0, 1) := (rfl)
theorem pM_one_9 : alk tM_one 9 = some (.invokevirtual 260, 3) := (rfl)
theorem pM_one_12 : alk tM_one 12 = some (.iload_n 1, 1) := (rfl)
theorem pM_one_13 : alk tM_one 13 = some (.if_icmp .ne 16, 3) := (rfl)
theorem pM_one_16 : alk tM_one 16 = some (.aload_n 0, 1) := (rfl)
theorem pM_one_17 : alk tM_one 17 = some (.dup, 1) := (rfl)
theorem pM_one_18 : alk tM_one 18 = some (.getfield 253, 3) := (rfl)
theorem pM_one_21 : alk tM_one 21 = some (.iconst 1, 1) := (rfl)
theorem pM_one_22 : alk tM_one 22 = some (.iadd, 1) := (rfl)
theorem pM_one_23 : alk tM_one 23 = some (.putfield 253, 3) := (rfl)
theorem pM_one_26 : alk tM_one 26 = some (.goto 8, 3) := (rfl)
theorem pM_one_29 : alk tM_one 29 = some (.aload_n 0, 1) := (rfl)
theorem pM_one_30 : alk tM_one 30 = some (.iconst 1, 1) := (rfl)
theorem pM_one_31 : alk tM_one 31 = some (.putfield 256, 3) := (rfl)
theorem pM_one_34 : alk tM_one 34 = some (.return_, 1) := (rfl)
def tM_numberHere : TB := [(0, .iconst 0, 1), (1, .istore_n 1, 1), (2, .iconst 0, 1), (3, .istore_n 2, 1), (4, .aload_n 0, 1), (5, .getfield 256, 3), (8, .ifCond .ne 51, 3), (11, .iload_n 2, 1), (12, .iconst 4, 1), (13, .if_icmp .ge 46, 3), (16, .aload_n 0, 1), (17, .invokevirtual 260, 3), (20, .bipush 48, 2), (22, .bipush 57, 2), (24, .invokestatic 165, 3), (27, .ifCond .eq 32, 3), (30, .bipush 10, 2), (32, .iload_n 1, 1), (33, .imul, 1), (34, .aload_n 0, 1), (35, .invokevirtual 260, 3), (38, .iadd, 1), (39, .bipush 48, 2), (41, .isub, 1), (42, .istore_n 1, 1), (43, .aload_n 0, 1), (44, .dup, 1), (45, .getfield 253, 3), (48, .iconst 1, 1), (49, .iadd, 1), (50, .putfield 253, 3), (53, .iinc 2 1, 3), (56, .goto (-52), 3), (59, .aload_n 0, 1), (60, .aload_n 0, 1), (61, .getfield 256, 3), (64, .ifCond .ne 7, 3), (67, .iload_n 2, 1), (68, .ifCond .ne 7, 3), (71, .iconst 1, 1), (72, .goto 4, 3), (75, .iconst 0, 1), (76, .putfield 256, 3), (79, .iload_n 1, 1), (80, .ireturn, 1)]
set_option maxRecDepth 100000 in
theorem kM_numberHere : tbOk (mB mM_numberHere) tM_numberHere = true := by decide +kernel
theorem pM_numberHere_0 : alk tM_numberHere 0 = some (.iconst 0, 1) := (rfl)
theorem pM_numberHere_1 : alk tM_numberHere 1 = some (.istore_n 1, 1) := (rfl)
theorem pM_numberHere_2 : alk tM_numberHere 2 = some (.iconst 0, 1) := (rfl)
theorem pM_numberHere_3 : alk tM_numberHere 3 = some (.istore_n 2, 1) := (rfl)
theorem pM_numberHere_4 : alk tM_numberHere 4 = some (.aload_n 0, 1) := (rfl)
theorem pM_numberHere_5 : alk tM_numberHere 5 = some (.getfield 256, 3) := (rfl)
theorem pM_numberHere_8 : alk tM_numberHere 8 = some (.ifCond .ne 51, 3) := (rfl)
theorem pM_numberHere_11 : alk tM_numberHere 11 = some (.iload_n 2, 1) := (rfl)
theorem pM_numberHere_12 : alk tM_numberHere 12 = some (.iconst 4, 1) := (rfl)
theorem pM_numberHere_13 : alk tM_numberHere 13 = some (.if_icmp .ge 46, 3) := (rfl)
theorem pM_numberHere_16 : alk tM_numberHere 16 = some (.aload_n 0, 1) := (rfl)
theorem pM_numberHere_17 : alk tM_numberHere 17 = some (.invokevirtual 260, 3) := (rfl)
theorem pM_numberHere_20 : alk tM_numberHere 20 = some (.bipush 48, 2) := (rfl)
theorem pM_numberHere_22 : alk tM_numberHere 22 = some (.bipush 57, 2) := (rfl)
theorem pM_numberHere_24 : alk tM_numberHere 24 = some (.invokestatic 165, 3) := (rfl)
theorem pM_numberHere_27 : alk tM_numberHere 27 = some (.ifCond .eq 32, 3) := (rfl)
theorem pM_numberHere_30 : alk tM_numberHere 30 = some (.bipush 10, 2) := (rfl)
theorem pM_numberHere_32 : alk tM_numberHere 32 = some (.iload_n 1, 1) := (rfl)
theorem pM_numberHere_33 : alk tM_numberHere 33 = some (.imul, 1) := (rfl)
theorem pM_numberHere_34 : alk tM_numberHere 34 = some (.aload_n 0, 1) := (rfl)
theorem pM_numberHere_35 : alk tM_numberHere 35 = some (.invokevirtual 260, 3) := (rfl)
theorem pM_numberHere_38 : alk tM_numberHere 38 = some (.iadd, 1) := (rfl)
theorem pM_numberHere_39 : alk tM_numberHere 39 = some (.bipush 48, 2) := (rfl)
theorem pM_numberHere_41 : alk tM_numberHere 41 = some (.isub, 1) := (rfl)
theorem pM_numberHere_42 : alk tM_numberHere 42 = some (.istore_n 1, 1) := (rfl)
theorem pM_numberHere_43 : alk tM_numberHere 43 = some (.aload_n 0, 1) := (rfl)
theorem pM_numberHere_44 : alk tM_numberHere 44 = some (.dup, 1) := (rfl)
theorem pM_numberHere_45 : alk tM_numberHere 45 = some (.getfield 253, 3) := (rfl)
theorem pM_numberHere_48 : alk tM_numberHere 48 = some (.iconst 1, 1) := (rfl)
theorem pM_numberHere_49 : alk tM_numberHere 49 = some (.iadd, 1) := (rfl)
theorem pM_numberHere_50 : alk tM_numberHere 50 = some (.putfield 253, 3) := (rfl)
theorem pM_numberHere_53 : alk tM_numberHere 53 = some (.iinc 2 1, 3) := (rfl)
theorem pM_numberHere_56 : alk tM_numberHere 56 = some (.goto (-52), 3) := (rfl)
theorem pM_numberHere_59 : alk tM_numberHere 59 = some (.aload_n 0, 1) := (rfl)
theorem pM_numberHere_60 : alk tM_numberHere 60 = some (.aload_n 0, 1) := (rfl)
theorem pM_numberHere_61 : alk tM_numberHere 61 = some (.getfield 256, 3) := (rfl)
theorem pM_numberHere_64 : alk tM_numberHere 64 = some (.ifCond .ne 7, 3) := (rfl)
theorem pM_numberHere_67 : alk tM_numberHere 67 = some (.iload_n 2, 1) := (rfl)
theorem pM_numberHere_68 : alk tM_numberHere 68 = some (.ifCond .ne 7, 3) := (rfl)
theorem pM_numberHere_71 : alk tM_numberHere 71 = some (.iconst 1, 1) := (rfl)
theorem pM_numberHere_72 : alk tM_numberHere 72 = some (.goto 4, 3) := (rfl)
theorem pM_numberHere_75 : alk tM_numberHere 75 = some (.iconst 0, 1) := (rfl)
theorem pM_numberHere_76 : alk tM_numberHere 76 = some (.putfield 256, 3) := (rfl)
theorem pM_numberHere_79 : alk tM_numberHere 79 = some (.iload_n 1, 1) := (rfl)
theorem pM_numberHere_80 : alk tM_numberHere 80 = some (.ireturn, 1) := (rfl)
def tM_testHere : TB := [(0, .iconst 3, 1), (1, .aload_n 0, 1), (2, .getfield 279, 3), (5, .imul, 1), (6, .aload_n 0, 1), (7, .getfield 135, 3), (10, .aload_n 0, 1), (11, .getfield 279, 3), (14, .iaload, 1), (15, .iadd, 1), (16, .istore_n 1, 1), (17, .aload_n 0, 1), (18, .getfield 138, 3), (21, .iload_n 1, 1), (22, .aload_n 0, 1), (23, .invokevirtual 260, 3), (26, .bipush 33, 2), (28, .if_icmp .ne 7, 3), (31, .iconst 1, 1), (32, .goto 4, 3), (35, .iconst 0, 1), (36, .bastore, 1), (37, .aload_n 0, 1), (38, .getfield 138, 3), (41, .iload_n 1, 1), (42, .baload, 1), (43, .ifCond .eq 13, 3), (46, .aload_n 0, 1), (47, .dup, 1), (48, .getfield 253, 3), (51, .iconst 1, 1), (52, .iadd, 1), (53, .putfield 253, 3), (56, .aload_n 0, 1), (57, .getfield 141, 3), (60, .iload_n 1, 1), (61, .aload_n 0, 1), (62, .invokevirtual 282, 3), (65, .iastore, 1), (66, .aload_n 0, 1), (67, .getfield 256, 3), (70, .ifCond .eq 4, 3), (73, .return_, 1), (74, .aload_n 0, 1), (75, .getfield 144, 3), (78, .iload_n 1, 1), (79, .aload_n 0, 1), (80, .invokevirtual 260, 3), (83, .iastore, 1), (84, .aload_n 0, 1), (85, .invokevirtual 260, 3), (88, .bipush 60, 2), (90, .if_icmp .eq 12, 3), (93, .aload_n 0, 1), (94, .invokevirtual 260, 3), (97, .bipush 62, 2), (99, .if_icmp .ne 16, 3), (102, .aload_n 0, 1), (103, .dup, 1), (104, .getfield 253, 3), (107, .iconst 1, 1), (108, .iadd, 1), (109, .putfield 253, 3), (112, .goto 9, 3), (115, .aload_n 0, 1), (116, .bipush 61, 2), (118, .invokevirtual 265, 3), (121, .aload_n 0, 1), (122, .getfield 147, 3), (125, .iload_n 1, 1), (126, .aload_n 0, 1), (127, .invokevirtual 285, 3), (130, .iastore, 1), (131, .aload_n 0, 1), (132, .getfield 135, 3), (135, .aload_n 0, 1), (136, .getfield 279, 3), (139, .dup2, 1), (140, .iaload, 1), (141, .iconst 1, 1), (142, .iadd, 1), (143, .iastore, 1), (144, .return_, 1)]
set_option maxRecDepth 100000 in
theorem kM_testHere : tbOk (mB mM_testHere) tM_testHere = true := by decide +kernel
theorem pM_testHere_0 : alk tM_testHere 0 = some (.iconst 3, 1) := (rfl)
theorem pM_testHere_1 : alk tM_testHere 1 = some (.aload_n 0, 1) := (rfl)
theorem pM_testHere_2 : alk tM_testHere 2 = some (.getfield 279, 3) := (rfl)
theorem pM_testHere_5 : alk tM_testHere 5 = some (.imul, 1) := (rfl)
theorem pM_testHere_6 : alk tM_testHere 6 = some (.aload_n 0, 1) := (rfl)
theorem pM_testHere_7 : alk tM_testHere 7 = some (.getfield 135, 3) := (rfl)
theorem pM_testHere_10 : alk tM_testHere 10 = some (.aload_n 0, 1) := (rfl)
theorem pM_testHere_11 : alk tM_testHere 11 = some (.getfield 279, 3) := (rfl)
theorem pM_testHere_14 : alk tM_testHere 14 = some (.iaload, 1) := (rfl)
theorem pM_testHere_15 : alk tM_testHere 15 = some (.iadd, 1) := (rfl)
theorem pM_testHere_16 : alk tM_testHere 16 = some (.istore_n 1, 1) := (rfl)
theorem pM_testHere_17 : alk tM_testHere 17 = some (.aload_n 0, 1) := (rfl)
theorem pM_testHere_18 : alk tM_testHere 18 = some (.getfield 138, 3) := (rfl)
theorem pM_testHere_21 : alk tM_testHere 21 = some (.iload_n 1, 1) := (rfl)
theorem pM_testHere_22 : alk tM_testHere 22 = some (.aload_n 0, 1) := (rfl)
theorem pM_testHere_23 : alk tM_testHere 23 = some (.invokevirtual 260, 3) := (rfl)
theorem pM_testHere_26 : alk tM_testHere 26 = some (.bipush 33, 2) := (rfl)
theorem pM_testHere_28 : alk tM_testHere 28 = some (.if_icmp .ne 7, 3) := (rfl)
theorem pM_testHere_31 : alk tM_testHere 31 = some (.iconst 1, 1) := (rfl)
theorem pM_testHere_32 : alk tM_testHere 32 = some (.goto 4, 3) := (rfl)
theorem pM_testHere_35 : alk tM_testHere 35 = some (.iconst 0, 1) := (rfl)
theorem pM_testHere_36 : alk tM_testHere 36 = some (.bastore, 1) := (rfl)
theorem pM_testHere_37 : alk tM_testHere 37 = some (.aload_n 0, 1) := (rfl)
theorem pM_testHere_38 : alk tM_testHere 38 = some (.getfield 138, 3) := (rfl)
theorem pM_testHere_41 : alk tM_testHere 41 = some (.iload_n 1, 1) := (rfl)
theorem pM_testHere_42 : alk tM_testHere 42 = some (.baload, 1) := (rfl)
theorem pM_testHere_43 : alk tM_testHere 43 = some (.ifCond .eq 13, 3) := (rfl)
theorem pM_testHere_46 : alk tM_testHere 46 = some (.aload_n 0, 1) := (rfl)
theorem pM_testHere_47 : alk tM_testHere 47 = some (.dup, 1) := (rfl)
theorem pM_testHere_48 : alk tM_testHere 48 = some (.getfield 253, 3) := (rfl)
theorem pM_testHere_51 : alk tM_testHere 51 = some (.iconst 1, 1) := (rfl)
theorem pM_testHere_52 : alk tM_testHere 52 = some (.iadd, 1) := (rfl)
theorem pM_testHere_53 : alk tM_testHere 53 = some (.putfield 253, 3) := (rfl)
theorem pM_testHere_56 : alk tM_testHere 56 = some (.aload_n 0, 1) := (rfl)
theorem pM_testHere_57 : alk tM_testHere 57 = some (.getfield 141, 3) := (rfl)
theorem pM_testHere_60 : alk tM_testHere 60 = some (.iload_n 1, 1) := (rfl)
theorem pM_testHere_61 : alk tM_testHere 61 = some (.aload_n 0, 1) := (rfl)
theorem pM_testHere_62 : alk tM_testHere 62 = some (.invokevirtual 282, 3) := (rfl)
theorem pM_testHere_65 : alk tM_testHere 65 = some (.iastore, 1) := (rfl)
theorem pM_testHere_66 : alk tM_testHere 66 = some (.aload_n 0, 1) := (rfl)
theorem pM_testHere_67 : alk tM_testHere 67 = some (.getfield 256, 3) := (rfl)
theorem pM_testHere_70 : alk tM_testHere 70 = some (.ifCond .eq 4, 3) := (rfl)
theorem pM_testHere_73 : alk tM_testHere 73 = some (.return_, 1) := (rfl)
theorem pM_testHere_74 : alk tM_testHere 74 = some (.aload_n 0, 1) := (rfl)
theorem pM_testHere_75 : alk tM_testHere 75 = some (.getfield 144, 3) := (rfl)
theorem pM_testHere_78 : alk tM_testHere 78 = some (.iload_n 1, 1) := (rfl)
theorem pM_testHere_79 : alk tM_testHere 79 = some (.aload_n 0, 1) := (rfl)
theorem pM_testHere_80 : alk tM_testHere 80 = some (.invokevirtual 260, 3) := (rfl)
theorem pM_testHere_83 : alk tM_testHere 83 = some (.iastore, 1) := (rfl)
theorem pM_testHere_84 : alk tM_testHere 84 = some (.aload_n 0, 1) := (rfl)
theorem pM_testHere_85 : alk tM_testHere 85 = some (.invokevirtual 260, 3) := (rfl)
theorem pM_testHere_88 : alk tM_testHere 88 = some (.bipush 60, 2) := (rfl)
theorem pM_testHere_90 : alk tM_testHere 90 = some (.if_icmp .eq 12, 3) := (rfl)
theorem pM_testHere_93 : alk tM_testHere 93 = some (.aload_n 0, 1) := (rfl)
theorem pM_testHere_94 : alk tM_testHere 94 = some (.invokevirtual 260, 3) := (rfl)
theorem pM_testHere_97 : alk tM_testHere 97 = some (.bipush 62, 2) := (rfl)
theorem pM_testHere_99 : alk tM_testHere 99 = some (.if_icmp .ne 16, 3) := (rfl)
theorem pM_testHere_102 : alk tM_testHere 102 = some (.aload_n 0, 1) := (rfl)
theorem pM_testHere_103 : alk tM_testHere 103 = some (.dup, 1) := (rfl)
theorem pM_testHere_104 : alk tM_testHere 104 = some (.getfield 253, 3) := (rfl)
theorem pM_testHere_107 : alk tM_testHere 107 = some (.iconst 1, 1) := (rfl)
set_option maxRecDepth 20000 in
theorem pM_testHere_108 : alk tM_testHere 108 = some (.iadd, 1) := (rfl)
set_option maxRecDepth 20000 in
theorem pM_testHere_109 : alk tM_testHere 109 = some (.putfield 253, 3) := (rfl)
set_option maxRecDepth 20000 in
theorem pM_testHere_112 : alk tM_testHere 112 = some (.goto 9, 3) := (rfl)
set_option maxRecDepth 20000 in
theorem pM_testHere_115 : alk tM_testHere 115 = some (.aload_n 0, 1) := (rfl)
set_option maxRecDepth 20000 in
theorem pM_testHere_116 : alk tM_testHere 116 = some (.bipush 61, 2) := (rfl)
set_option maxRecDepth 20000 in
theorem pM_testHere_118 : alk tM_testHere 118 = some (.invokevirtual 265, 3) := (rfl)
set_option maxRecDepth 20000 in
theorem pM_testHere_121 : alk tM_testHere 121 = some (.aload_n 0, 1) := (rfl)
set_option maxRecDepth 20000 in
theorem pM_testHere_122 : alk tM_testHere 122 = some (.getfield 147, 3) := (rfl)
set_option maxRecDepth 20000 in
theorem pM_testHere_125 : alk tM_testHere 125 = some (.iload_n 1, 1) := (rfl)
set_option maxRecDepth 20000 in
theorem pM_testHere_126 : alk tM_testHere 126 = some (.aload_n 0, 1) := (rfl)
set_option maxRecDepth 20000 in
theorem pM_testHere_127 : alk tM_testHere 127 = some (.invokevirtual 285, 3) := (rfl)
set_option maxRecDepth 20000 in
theorem pM_testHere_130 : alk tM_testHere 130 = some (.iastore, 1) := (rfl)
set_option maxRecDepth 20000 in
theorem pM_testHere_131 : alk tM_testHere 131 = some (.aload_n 0, 1) := (rfl)
set_option maxRecDepth 20000 in
theorem pM_testHere_132 : alk tM_testHere 132 = some (.getfield 135, 3) := (rfl)
set_option maxRecDepth 20000 in
theorem pM_testHere_135 : alk tM_testHere 135 = some (.aload_n 0, 1) := (rfl)
set_option maxRecDepth 20000 in
theorem pM_testHere_136 : alk tM_testHere 136 = some (.getfield 279, 3) := (rfl)
set_option maxRecDepth 20000 in
theorem pM_testHere_139 : alk tM_testHere 139 = some (.dup2, 1) := (rfl)
set_option maxRecDepth 20000 in
theorem pM_testHere_140 : alk tM_testHere 140 = some (.iaload, 1) := (rfl)
set_option maxRecDepth 20000 in
theorem pM_testHere_141 : alk tM_testHere 141 = some (.iconst 1, 1) := (rfl)
set_option maxRecDepth 20000 in
theorem pM_testHere_142 : alk tM_testHere 142 = some (.iadd, 1) := (rfl)
set_option maxRecDepth 20000 in
theorem pM_testHere_143 : alk tM_testHere 143 = some (.iastore, 1) := (rfl)
set_option maxRecDepth 20000 in
theorem pM_testHere_144 : alk tM_testHere 144 = some (.return_, 1) := (rfl)
def tM_fieldHere : TB := [(0, .aload_n 0, 1), (1, .invokevirtual 260, 3), (4, .lookupswitch 119 #[(104, 81), (107, 44), (111, 62), (116, 98)], 44), (48, .aload_n 0, 1), (49, .iconst 0, 1), (50, .iconst 0, 1), (51, .bipush 11, 2), (53, .bipush 9, 2), (55, .bipush 14, 2), (57, .iconst 4, 1), (58, .invokestatic 271, 3), (61, .invokevirtual 275, 3), (64, .iconst 0, 1), (65, .ireturn, 1), (66, .aload_n 0, 1), (67, .iconst 0, 1), (68, .bipush 15, 2), (70, .bipush 23, 2), (72, .bipush 14, 2), (74, .iconst 5, 1), (75, .bipush 18, 2), (77, .invokestatic 271, 3), (80, .invokevirtual 275, 3), (83, .iconst 1, 1), (84, .ireturn, 1), (85, .aload_n 0, 1), (86, .iconst 0, 1), (87, .bipush 8, 2), (89, .iconst 5, 1), (90, .iconst 1, 1), (91, .iconst 4, 1), (92, .bipush 19, 2), (94, .invokestatic 271, 3), (97, .invokevirtual 275, 3), (100, .iconst 2, 1), (101, .ireturn, 1), (102, .aload_n 0, 1), (103, .bipush 20, 2), (105, .bipush 8, 2), (107, .bipush 9, 2), (109, .bipush 18, 2), (111, .bipush 19, 2), (113, .bipush 20, 2), (115, .invokestatic 271, 3), (118, .invokevirtual 275, 3), (121, .iconst 3, 1), (122, .ireturn, 1), (123, .aload_n 0, 1), (124, .iconst 0, 1), (125, .iconst 2, 1), (126, .bipush 21, 2), (128, .bipush 25, 2), (130, .iconst 5, 1), (131, .bipush 18, 2), (133, .invokestatic 271, 3), (136, .invokevirtual 275, 3), (139, .iconst 4, 1), (140, .ireturn, 1)]
set_option maxRecDepth 100000 in
theorem kM_fieldHere : tbOk (mB mM_fieldHere) tM_fieldHere = true := by decide +kernel
theorem pM_fieldHere_0 : alk tM_fieldHere 0 = some (.aload_n 0, 1) := (rfl)
theorem pM_fieldHere_1 : alk tM_fieldHere 1 = some (.invokevirtual 260, 3) := (rfl)
theorem pM_fieldHere_4 : alk tM_fieldHere 4 = some (.lookupswitch 119 #[(104, 81), (107, 44), (111, 62), (116, 98)], 44) := (rfl)
theorem pM_fieldHere_48 : alk tM_fieldHere 48 = some (.aload_n 0, 1) := (rfl)
theorem pM_fieldHere_49 : alk tM_fieldHere 49 = some (.iconst 0, 1) := (rfl)
theorem pM_fieldHere_50 : alk tM_fieldHere 50 = some (.iconst 0, 1) := (rfl)
theorem pM_fieldHere_51 : alk tM_fieldHere 51 = some (.bipush 11, 2) := (rfl)
theorem pM_fieldHere_53 : alk tM_fieldHere 53 = some (.bipush 9, 2) := (rfl)
theorem pM_fieldHere_55 : alk tM_fieldHere 55 = some (.bipush 14, 2) := (rfl)
theorem pM_fieldHere_57 : alk tM_fieldHere 57 = some (.iconst 4, 1) := (rfl)
theorem pM_fieldHere_58 : alk tM_fieldHere 58 = some (.invokestatic 271, 3) := (rfl)
theorem pM_fieldHere_61 : alk tM_fieldHere 61 = some (.invokevirtual 275, 3) := (rfl)
theorem pM_fieldHere_64 : alk tM_fieldHere 64 = some (.iconst 0, 1) := (rfl)
theorem pM_fieldHere_65 : alk tM_fieldHere 65 = some (.ireturn, 1) := (rfl)
theorem pM_fieldHere_66 : alk tM_fieldHere 66 = some (.aload_n 0, 1) := (rfl)
theorem pM_fieldHere_67 : alk tM_fieldHere 67 = some (.iconst 0, 1) := (rfl)
theorem pM_fieldHere_68 : alk tM_fieldHere 68 = some (.bipush 15, 2) := (rfl)
theorem pM_fieldHere_70 : alk tM_fieldHere 70 = some (.bipush 23, 2) := (rfl)
theorem pM_fieldHere_72 : alk tM_fieldHere 72 = some (.bipush 14, 2) := (rfl)
theorem pM_fieldHere_74 : alk tM_fieldHere 74 = some (.iconst 5, 1) := (rfl)
theorem pM_fieldHere_75 : alk tM_fieldHere 75 = some (.bipush 18, 2) := (rfl)
theorem pM_fieldHere_77 : alk tM_fieldHere 77 = some (.invokestatic 271, 3) := (rfl)
theorem pM_fieldHere_80 : alk tM_fieldHere 80 = some (.invokevirtual 275, 3) := (rfl)
theorem pM_fieldHere_83 : alk tM_fieldHere 83 = some (.iconst 1, 1) := (rfl)
theorem pM_fieldHere_84 : alk tM_fieldHere 84 = some (.ireturn, 1) := (rfl)
theorem pM_fieldHere_85 : alk tM_fieldHere 85 = some (.aload_n 0, 1) := (rfl)
theorem pM_fieldHere_86 : alk tM_fieldHere 86 = some (.iconst 0, 1) := (rfl)
theorem pM_fieldHere_87 : alk tM_fieldHere 87 = some (.bipush 8, 2) := (rfl)
theorem pM_fieldHere_89 : alk tM_fieldHere 89 = some (.iconst 5, 1) := (rfl)
theorem pM_fieldHere_90 : alk tM_fieldHere 90 = some (.iconst 1, 1) := (rfl)
theorem pM_fieldHere_91 : alk tM_fieldHere 91 = some (.iconst 4, 1) := (rfl)
theorem pM_fieldHere_92 : alk tM_fieldHere 92 = some (.bipush 19, 2) := (rfl)
theorem pM_fieldHere_94 : alk tM_fieldHere 94 = some (.invokestatic 271, 3) := (rfl)
theorem pM_fieldHere_97 : alk tM_fieldHere 97 = some (.invokevirtual 275, 3) := (rfl)
theorem pM_fieldHere_100 : alk tM_fieldHere 100 = some (.iconst 2, 1) := (rfl)
theorem pM_fieldHere_101 : alk tM_fieldHere 101 = some (.ireturn, 1) := (rfl)
theorem pM_fieldHere_102 : alk tM_fieldHere 102 = some (.aload_n 0, 1) := (rfl)
theorem pM_fieldHere_103 : alk tM_fieldHere 103 = some (.bipush 20, 2) := (rfl)
theorem pM_fieldHere_105 : alk tM_fieldHere 105 = some (.bipush 8, 2) := (rfl)
theorem pM_fieldHere_107 : alk tM_fieldHere 107 = some (.bipush 9, 2) := (rfl)
theorem pM_fieldHere_109 : alk tM_fieldHere 109 = some (.bipush 18, 2) := (rfl)
theorem pM_fieldHere_111 : alk tM_fieldHere 111 = some (.bipush 19, 2) := (rfl)
theorem pM_fieldHere_113 : alk tM_fieldHere 113 = some (.bipush 20, 2) := (rfl)
theorem pM_fieldHere_115 : alk tM_fieldHere 115 = some (.invokestatic 271, 3) := (rfl)
theorem pM_fieldHere_118 : alk tM_fieldHere 118 = some (.invokevirtual 275, 3) := (rfl)
theorem pM_fieldHere_121 : alk tM_fieldHere 121 = some (.iconst 3, 1) := (rfl)
theorem pM_fieldHere_122 : alk tM_fieldHere 122 = some (.ireturn, 1) := (rfl)
theorem pM_fieldHere_123 : alk tM_fieldHere 123 = some (.aload_n 0, 1) := (rfl)
theorem pM_fieldHere_124 : alk tM_fieldHere 124 = some (.iconst 0, 1) := (rfl)
theorem pM_fieldHere_125 : alk tM_fieldHere 125 = some (.iconst 2, 1) := (rfl)
theorem pM_fieldHere_126 : alk tM_fieldHere 126 = some (.bipush 21, 2) := (rfl)
theorem pM_fieldHere_128 : alk tM_fieldHere 128 = some (.bipush 25, 2) := (rfl)
theorem pM_fieldHere_130 : alk tM_fieldHere 130 = some (.iconst 5, 1) := (rfl)
theorem pM_fieldHere_131 : alk tM_fieldHere 131 = some (.bipush 18, 2) := (rfl)
theorem pM_fieldHere_133 : alk tM_fieldHere 133 = some (.invokestatic 271, 3) := (rfl)
theorem pM_fieldHere_136 : alk tM_fieldHere 136 = some (.invokevirtual 275, 3) := (rfl)
theorem pM_fieldHere_139 : alk tM_fieldHere 139 = some (.iconst 4, 1) := (rfl)
theorem pM_fieldHere_140 : alk tM_fieldHere 140 = some (.ireturn, 1) := (rfl)
def tM_holds : TB := [(0, .iload_n 1, 1), (1, .iconst 0, 1), (2, .aload_n 0, 1), (3, .getfield 288, 3), (6, .iconst 1, 1), (7, .isub, 1), (8, .invokestatic 165, 3), (11, .ifCond .eq 20, 3), (14, .aload_n 0, 1), (15, .iload_n 2, 1), (16, .invokevirtual 218, 3), (19, .ifCond .eq 12, 3), (22, .iload_n 3, 1), (23, .iconst (-1), 1), (24, .iconst 4, 1), (25, .invokestatic 165, 3), (28, .ifCond .ne 10, 3), (31, .aload_n 0, 1), (32, .bipush (-3), 2), (34, .invokevirtual 169, 3), (37, .ireturn, 1), (38, .aload_n 0, 1), (39, .iload_n 1, 1), (40, .iload_n 2, 1), (41, .iload_n 3, 1), (42, .invokevirtual 308, 3), (45, .ifCond .eq 7, 3), (48, .iconst 1, 1), (49, .goto 4, 3), (52, .iconst 0, 1), (53, .ireturn, 1)]
set_option maxRecDepth 100000 in
theorem kM_holds : tbOk (mB mM_holds) tM_holds = true := by decide +kernel
theorem pM_holds_0 : alk tM_holds 0 = some (.iload_n 1, 1) := (rfl)
theorem pM_holds_1 : alk tM_holds 1 = some (.iconst 0, 1) := (rfl)
theorem pM_holds_2 : alk tM_holds 2 = some (.aload_n 0, 1) := (rfl)
theorem pM_holds_3 : alk tM_holds 3 = some (.getfield 288, 3) := (rfl)
theorem pM_holds_6 : alk tM_holds 6 = some (.iconst 1, 1) := (rfl)
theorem pM_holds_7 : alk tM_holds 7 = some (.isub, 1) := (rfl)
theorem pM_holds_8 : alk tM_holds 8 = some (.invokestatic 165, 3) := (rfl)
theorem pM_holds_11 : alk tM_holds 11 = some (.ifCond .eq 20, 3) := (rfl)
theorem pM_holds_14 : alk tM_holds 14 = some (.aload_n 0, 1) := (rfl)
theorem pM_holds_15 : alk tM_holds 15 = some (.iload_n 2, 1) := (rfl)
theorem pM_holds_16 : alk tM_holds 16 = some (.invokevirtual 218, 3) := (rfl)
theorem pM_holds_19 : alk tM_holds 19 = some (.ifCond .eq 12, 3) := (rfl)
theorem pM_holds_22 : alk tM_holds 22 = some (.iload_n 3, 1) := (rfl)
theorem pM_holds_23 : alk tM_holds 23 = some (.iconst (-1), 1) := (rfl)
theorem pM_holds_24 : alk tM_holds 24 = some (.iconst 4, 1) := (rfl)
theorem pM_holds_25 : alk tM_holds 25 = some (.invokestatic 165, 3) := (rfl)
theorem pM_holds_28 : alk tM_holds 28 = some (.ifCond .ne 10, 3) := (rfl)
theorem pM_holds_31 : alk tM_holds 31 = some (.aload_n 0, 1) := (rfl)
theorem pM_holds_32 : alk tM_holds 32 = some (.bipush (-3), 2) := (rfl)
theorem pM_holds_34 : alk tM_holds 34 = some (.invokevirtual 169, 3) := (rfl)
theorem pM_holds_37 : alk tM_holds 37 = some (.ireturn, 1) := (rfl)
theorem pM_holds_38 : alk tM_holds 38 = some (.aload_n 0, 1) := (rfl)
theorem pM_holds_39 : alk tM_holds 39 = some (.iload_n 1, 1) := (rfl)
theorem pM_holds_40 : alk tM_holds 40 = some (.iload_n 2, 1) := (rfl)
theorem pM_holds_41 : alk tM_holds 41 = some (.iload_n 3, 1) := (rfl)
theorem pM_holds_42 : alk tM_holds 42 = some (.invokevirtual 308, 3) := (rfl)
theorem pM_holds_45 : alk tM_holds 45 = some (.ifCond .eq 7, 3) := (rfl)
theorem pM_holds_48 : alk tM_holds 48 = some (.iconst 1, 1) := (rfl)
theorem pM_holds_49 : alk tM_holds 49 = some (.goto 4, 3) := (rfl)
theorem pM_holds_52 : alk tM_holds 52 = some (.iconst 0, 1) := (rfl)
theorem pM_holds_53 : alk tM_holds 53 = some (.ireturn, 1) := (rfl)
def tM_said : TB := [(0, .aload_n 0, 1), (1, .iload_n 1, 1), (2, .invokevirtual 218, 3), (5, .ifCond .ne 10, 3), (8, .aload_n 0, 1), (9, .bipush (-3), 2), (11, .invokevirtual 169, 3), (14, .ireturn, 1), (15, .iload_n 2, 1), (16, .iconst 0, 1), (17, .iconst 2, 1), (18, .invokestatic 165, 3), (21, .ifCond .eq 22, 3), (24, .aload_n 0, 1), (25, .iload_n 2, 1), (26, .iconst 2, 1), (27, .if_icmp .ne 7, 3), (30, .iconst 3, 1), (31, .goto 4, 3), (34, .iload_n 2, 1), (35, .iload_n 1, 1), (36, .iconst (-1), 1), (37, .invokevirtual 311, 3), (40, .goto 9, 3), (43, .aload_n 0, 1), (44, .bipush (-7), 2), (46, .invokevirtual 169, 3), (49, .ireturn, 1)]
set_option maxRecDepth 100000 in
theorem kM_said : tbOk (mB mM_said) tM_said = true := by decide +kernel
theorem pM_said_0 : alk tM_said 0 = some (.aload_n 0, 1) := (rfl)
theorem pM_said_1 : alk tM_said 1 = some (.iload_n 1, 1) := (rfl)
theorem pM_said_2 : alk tM_said 2 = some (.invokevirtual 218, 3) := (rfl)
theorem pM_said_5 : alk tM_said 5 = some (.ifCond .ne 10, 3) := (rfl)
theorem pM_said_8 : alk tM_said 8 = some (.aload_n 0, 1) := (rfl)
theorem pM_said_9 : alk tM_said 9 = some (.bipush (-3), 2) := (rfl)
theorem pM_said_11 : alk tM_said 11 = some (.invokevirtual 169, 3) := (rfl)
theorem pM_said_14 : alk tM_said 14 = some (.ireturn, 1) := (rfl)
theorem pM_said_15 : alk tM_said 15 = some (.iload_n 2, 1) := (rfl)
theorem pM_said_16 : alk tM_said 16 = some (.iconst 0, 1) := (rfl)
theorem pM_said_17 : alk tM_said 17 = some (.iconst 2, 1) := (rfl)
theorem pM_said_18 : alk tM_said 18 = some (.invokestatic 165, 3) := (rfl)
theorem pM_said_21 : alk tM_said 21 = some (.ifCond .eq 22, 3) := (rfl)
theorem pM_said_24 : alk tM_said 24 = some (.aload_n 0, 1) := (rfl)
theorem pM_said_25 : alk tM_said 25 = some (.iload_n 2, 1) := (rfl)
theorem pM_said_26 : alk tM_said 26 = some (.iconst 2, 1) := (rfl)
theorem pM_said_27 : alk tM_said 27 = some (.if_icmp .ne 7, 3) := (rfl)
theorem pM_said_30 : alk tM_said 30 = some (.iconst 3, 1) := (rfl)
theorem pM_said_31 : alk tM_said 31 = some (.goto 4, 3) := (rfl)
theorem pM_said_34 : alk tM_said 34 = some (.iload_n 2, 1) := (rfl)
theorem pM_said_35 : alk tM_said 35 = some (.iload_n 1, 1) := (rfl)
theorem pM_said_36 : alk tM_said 36 = some (.iconst (-1), 1) := (rfl)
theorem pM_said_37 : alk tM_said 37 = some (.invokevirtual 311, 3) := (rfl)
theorem pM_said_40 : alk tM_said 40 = some (.goto 9, 3) := (rfl)
theorem pM_said_43 : alk tM_said 43 = some (.aload_n 0, 1) := (rfl)
theorem pM_said_44 : alk tM_said 44 = some (.bipush (-7), 2) := (rfl)
theorem pM_said_46 : alk tM_said 46 = some (.invokevirtual 169, 3) := (rfl)
theorem pM_said_49 : alk tM_said 49 = some (.ireturn, 1) := (rfl)
def tM_see : TB := [(0, .iload_n 1, 1), (1, .invokestatic 314, 3), (4, .ifCond .eq 11, 3), (7, .aload_n 0, 1), (8, .iload_n 2, 1), (9, .invokevirtual 218, 3), (12, .ifCond .ne 10, 3), (15, .aload_n 0, 1), (16, .bipush (-3), 2), (18, .invokevirtual 169, 3), (21, .ireturn, 1), (22, .aload_n 0, 1), (23, .iload_n 2, 1), (24, .invokevirtual 221, 3), (27, .ifCond .ne 10, 3), (30, .aload_n 0, 1), (31, .bipush (-7), 2), (33, .invokevirtual 169, 3), (36, .ireturn, 1), (37, .aload_n 0, 1), (38, .getfield 95, 3), (41, .iconst 5, 1), (42, .iload_n 2, 1), (43, .imul, 1), (44, .iload_n 1, 1), (45, .iadd, 1), (46, .baload, 1), (47, .istore_n 3, 1), (48, .aload_n 0, 1), (49, .getfield 95, 3), (52, .iconst 5, 1), (53, .iload_n 2, 1), (54, .imul, 1), (55, .iload_n 1, 1), (56, .iadd, 1), (57, .iconst 1, 1), (58, .bastore, 1), (59, .iload_n 3, 1), (60, .ifCond .eq 7, 3), (63, .iconst 0, 1), (64, .goto 4, 3), (67, .iconst 1, 1), (68, .ireturn, 1)]
set_option maxRecDepth 100000 in
theorem kM_see : tbOk (mB mM_see) tM_see = true := by decide +kernel
theorem pM_see_0 : alk tM_see 0 = some (.iload_n 1, 1) := (rfl)
theorem pM_see_1 : alk tM_see 1 = some (.invokestatic 314, 3) := (rfl)
theorem pM_see_4 : alk tM_see 4 = some (.ifCond .eq 11, 3) := (rfl)
theorem pM_see_7 : alk tM_see 7 = some (.aload_n 0, 1) := (rfl)
theorem pM_see_8 : alk tM_see 8 = some (.iload_n 2, 1) := (rfl)
theorem pM_see_9 : alk tM_see 9 = some (.invokevirtual 218, 3) := (rfl)
theorem pM_see_12 : alk tM_see 12 = some (.ifCond .ne 10, 3) := (rfl)
theorem pM_see_15 : alk tM_see 15 = some (.aload_n 0, 1) := (rfl)
theorem pM_see_16 : alk tM_see 16 = some (.bipush (-3), 2) := (rfl)
theorem pM_see_18 : alk tM_see 18 = some (.invokevirtual 169, 3) := (rfl)
theorem pM_see_21 : alk tM_see 21 = some (.ireturn, 1) := (rfl)
theorem pM_see_22 : alk tM_see 22 = some (.aload_n 0, 1) := (rfl)
theorem pM_see_23 : alk tM_see 23 = some (.iload_n 2, 1) := (rfl)
theorem pM_see_24 : alk tM_see 24 = some (.invokevirtual 221, 3) := (rfl)
theorem pM_see_27 : alk tM_see 27 = some (.ifCond .ne 10, 3) := (rfl)
theorem pM_see_30 : alk tM_see 30 = some (.aload_n 0, 1) := (rfl)
theorem pM_see_31 : alk tM_see 31 = some (.bipush (-7), 2) := (rfl)
theorem pM_see_33 : alk tM_see 33 = some (.invokevirtual 169, 3) := (rfl)
theorem pM_see_36 : alk tM_see 36 = some (.ireturn, 1) := (rfl)
theorem pM_see_37 : alk tM_see 37 = some (.aload_n 0, 1) := (rfl)
theorem pM_see_38 : alk tM_see 38 = some (.getfield 95, 3) := (rfl)
theorem pM_see_41 : alk tM_see 41 = some (.iconst 5, 1) := (rfl)
theorem pM_see_42 : alk tM_see 42 = some (.iload_n 2, 1) := (rfl)
theorem pM_see_43 : alk tM_see 43 = some (.imul, 1) := (rfl)
theorem pM_see_44 : alk tM_see 44 = some (.iload_n 1, 1) := (rfl)
theorem pM_see_45 : alk tM_see 45 = some (.iadd, 1) := (rfl)
theorem pM_see_46 : alk tM_see 46 = some (.baload, 1) := (rfl)
theorem pM_see_47 : alk tM_see 47 = some (.istore_n 3, 1) := (rfl)
theorem pM_see_48 : alk tM_see 48 = some (.aload_n 0, 1) := (rfl)
theorem pM_see_49 : alk tM_see 49 = some (.getfield 95, 3) := (rfl)
theorem pM_see_52 : alk tM_see 52 = some (.iconst 5, 1) := (rfl)
theorem pM_see_53 : alk tM_see 53 = some (.iload_n 2, 1) := (rfl)
theorem pM_see_54 : alk tM_see 54 = some (.imul, 1) := (rfl)
theorem pM_see_55 : alk tM_see 55 = some (.iload_n 1, 1) := (rfl)
theorem pM_see_56 : alk tM_see 56 = some (.iadd, 1) := (rfl)
theorem pM_see_57 : alk tM_see 57 = some (.iconst 1, 1) := (rfl)
theorem pM_see_58 : alk tM_see 58 = some (.bastore, 1) := (rfl)
theorem pM_see_59 : alk tM_see 59 = some (.iload_n 3, 1) := (rfl)
theorem pM_see_60 : alk tM_see 60 = some (.ifCond .eq 7, 3) := (rfl)
theorem pM_see_63 : alk tM_see 63 = some (.iconst 0, 1) := (rfl)
theorem pM_see_64 : alk tM_see 64 = some (.goto 4, 3) := (rfl)
theorem pM_see_67 : alk tM_see 67 = some (.iconst 1, 1) := (rfl)
theorem pM_see_68 : alk tM_see 68 = some (.ireturn, 1) := (rfl)
def tM_isBuyer : TB := [(0, .iload_n 0, 1), (1, .iconst 0, 1), (2, .iconst 4, 1), (3, .invokestatic 165, 3), (6, .ireturn, 1)]
set_option maxRecDepth 100000 in
theorem kM_isBuyer : tbOk (mB mM_isBuyer) tM_isBuyer = true := by decide +kernel
theorem pM_isBuyer_0 : alk tM_isBuyer 0 = some (.iload_n 0, 1) := (rfl)
theorem pM_isBuyer_1 : alk tM_isBuyer 1 = some (.iconst 0, 1) := (rfl)
theorem pM_isBuyer_2 : alk tM_isBuyer 2 = some (.iconst 4, 1) := (rfl)
theorem pM_isBuyer_3 : alk tM_isBuyer 3 = some (.invokestatic 165, 3) := (rfl)
theorem pM_isBuyer_6 : alk tM_isBuyer 6 = some (.ireturn, 1) := (rfl)
def tM_bid : TB := [(0, .iload_n 1, 1), (1, .invokestatic 314, 3), (4, .ifCond .eq 11, 3), (7, .aload_n 0, 1), (8, .iload_n 2, 1), (9, .invokevirtual 218, 3), (12, .ifCond .ne 10, 3), (15, .aload_n 0, 1), (16, .bipush (-3), 2), (18, .invokevirtual 169, 3), (21, .ireturn, 1), (22, .aload_n 0, 1), (23, .getfield 43, 3), (26, .iload_n 2, 1), (27, .iaload, 1), (28, .ifCond .eq 10, 3), (31, .aload_n 0, 1), (32, .bipush (-5), 2), (34, .invokevirtual 169, 3), (37, .ireturn, 1), (38, .iconst 5, 1), (39, .iload_n 2, 1), (40, .imul, 1), (41, .iload_n 1, 1), (42, .iadd, 1), (43, .istore 4, 2), (45, .iload_n 3, 1), (46, .iconst 1, 1), (47, .sipush 9999, 3), (50, .invokestatic 165, 3), (53, .ifCond .eq 40, 3), (56, .aload_n 0, 1), (57, .getfield 95, 3), (60, .iload 4, 2), (62, .baload, 1), (63, .ifCond .eq 30, 3), (66, .aload_n 0, 1), (67, .iload_n 2, 1), (68, .invokevirtual 221, 3), (71, .ifCond .eq 22, 3), (74, .aload_n 0, 1), (75, .getfield 74, 3), (78, .iload_n 2, 1), (79, .iaload, 1), (80, .iconst (-1), 1), (81, .if_icmp .ne 12, 3), (84, .aload_n 0, 1), (85, .iload_n 1, 1), (86, .iload_n 2, 1), (87, .invokevirtual 317, 3), (90, .ifCond .eq 10, 3), (93, .aload_n 0, 1), (94, .bipush (-7), 2), (96, .invokevirtual 169, 3), (99, .ireturn, 1), (100, .aload_n 0, 1), (101, .getfield 98, 3), (104, .iload 4, 2), (106, .iload_n 3, 1), (107, .iastore, 1), (108, .aload_n 0, 1), (109, .getfield 101, 3), (112, .iload 4, 2), (114, .aload_n 0, 1), (115, .getfield 321, 3), (118, .iastore, 1), (119, .aload_n 0, 1), (120, .dup, 1), (121, .getfield 321, 3), (124, .iconst 1, 1), (125, .iadd, 1), (126, .putfield 321, 3), (129, .iconst 0, 1), (130, .istore 5, 2), (132, .iconst 5, 1), (133, .iload_n 2, 1), (134, .imul, 1), (135, .istore 6, 2), (137, .iload 6, 2), (139, .iconst 5, 1), (140, .iload_n 2, 1), (141, .imul, 1), (142, .iconst 5, 1), (143, .iadd, 1), (144, .if_icmp .ge 29, 3), (147, .iload 5, 2), (149, .aload_n 0, 1), (150, .getfield 98, 3), (153, .iload 6, 2), (155, .iaload, 1), (156, .ifCond .le 7, 3), (159, .iconst 1, 1), (160, .goto 4, 3), (163, .iconst 0, 1), (164, .iadd, 1), (165, .istore 5, 2), (167, .iinc 6 1, 3), (170, .goto (-33), 3), (173, .iload 5, 2), (175, .ireturn, 1)]
set_option maxRecDepth 100000 in
theorem kM_bid : tbOk (mB mM_bid) tM_bid = true := by decide +kernel
theorem pM_bid_0 : alk tM_bid 0 = some (.iload_n 1, 1) := (rfl)
theorem pM_bid_1 : alk tM_bid 1 = some (.invokestatic 314, 3) := (rfl)
theorem pM_bid_4 : alk tM_bid 4 = some (.ifCond .eq 11, 3) := (rfl)
theorem pM_bid_7 : alk tM_bid 7 = some (.aload_n 0, 1) := (rfl)
theorem pM_bid_8 : alk tM_bid 8 = some (.iload_n 2, 1) := (rfl)
theorem pM_bid_9 : alk tM_bid 9 = some (.invokevirtual 218, 3) := (rfl)
theorem pM_bid_12 : alk tM_bid 12 = some (.ifCond .ne 10, 3) := (rfl)
theorem pM_bid_15 : alk tM_bid 15 = some (.aload_n 0, 1) := (rfl)
theorem pM_bid_16 : alk tM_bid 16 = some (.bipush (-3), 2) := (rfl)
theorem pM_bid_18 : alk tM_bid 18 = some (.invokevirtual 169, 3) := (rfl)
theorem pM_bid_21 : alk tM_bid 21 = some (.ireturn, 1) := (rfl)
theorem pM_bid_22 : alk tM_bid 22 = some (.aload_n 0, 1) := (rfl)
theorem pM_bid_23 : alk tM_bid 23 = some (.getfield 43, 3) := (rfl)
theorem pM_bid_26 : alk tM_bid 26 = some (.iload_n 2, 1) := (rfl)
theorem pM_bid_27 : alk tM_bid 27 = some (.iaload, 1) := (rfl)
theorem pM_bid_28 : alk tM_bid 28 = some (.ifCond .eq 10, 3) := (rfl)
theorem pM_bid_31 : alk tM_bid 31 = some (.aload_n 0, 1) := (rfl)
theorem pM_bid_32 : alk tM_bid 32 = some (.bipush (-5), 2) := (rfl)
theorem pM_bid_34 : alk tM_bid 34 = some (.invokevirtual 169, 3) := (rfl)
theorem pM_bid_37 : alk tM_bid 37 = some (.ireturn, 1) := (rfl)
theorem pM_bid_38 : alk tM_bid 38 = some (.iconst 5, 1) := (rfl)
theorem pM_bid_39 : alk tM_bid 39 = some (.iload_n 2, 1) := (rfl)
theorem pM_bid_40 : alk tM_bid 40 = some (.imul, 1) := (rfl)
theorem pM_bid_41 : alk tM_bid 41 = some (.iload_n 1, 1) := (rfl)
theorem pM_bid_42 : alk tM_bid 42 = some (.iadd, 1) := (rfl)
theorem pM_bid_43 : alk tM_bid 43 = some (.istore 4, 2) := (rfl)
theorem pM_bid_45 : alk tM_bid 45 = some (.iload_n 3, 1) := (rfl)
theorem pM_bid_46 : alk tM_bid 46 = some (.iconst 1, 1) := (rfl)
theorem pM_bid_47 : alk tM_bid 47 = some (.sipush 9999, 3) := (rfl)
theorem pM_bid_50 : alk tM_bid 50 = some (.invokestatic 165, 3) := (rfl)
theorem pM_bid_53 : alk tM_bid 53 = some (.ifCond .eq 40, 3) := (rfl)
theorem pM_bid_56 : alk tM_bid 56 = some (.aload_n 0, 1) := (rfl)
theorem pM_bid_57 : alk tM_bid 57 = some (.getfield 95, 3) := (rfl)
theorem pM_bid_60 : alk tM_bid 60 = some (.iload 4, 2) := (rfl)
theorem pM_bid_62 : alk tM_bid 62 = some (.baload, 1) := (rfl)
theorem pM_bid_63 : alk tM_bid 63 = some (.ifCond .eq 30, 3) := (rfl)
theorem pM_bid_66 : alk tM_bid 66 = some (.aload_n 0, 1) := (rfl)
theorem pM_bid_67 : alk tM_bid 67 = some (.iload_n 2, 1) := (rfl)
theorem pM_bid_68 : alk tM_bid 68 = some (.invokevirtual 221, 3) := (rfl)
theorem pM_bid_71 : alk tM_bid 71 = some (.ifCond .eq 22, 3) := (rfl)
theorem pM_bid_74 : alk tM_bid 74 = some (.aload_n 0, 1) := (rfl)
theorem pM_bid_75 : alk tM_bid 75 = some (.getfield 74, 3) := (rfl)
theorem pM_bid_78 : alk tM_bid 78 = some (.iload_n 2, 1) := (rfl)
theorem pM_bid_79 : alk tM_bid 79 = some (.iaload, 1) := (rfl)
theorem pM_bid_80 : alk tM_bid 80 = some (.iconst (-1), 1) := (rfl)
theorem pM_bid_81 : alk tM_bid 81 = some (.if_icmp .ne 12, 3) := (rfl)
theorem pM_bid_84 : alk tM_bid 84 = some (.aload_n 0, 1) := (rfl)
theorem pM_bid_85 : alk tM_bid 85 = some (.iload_n 1, 1) := (rfl)
theorem pM_bid_86 : alk tM_bid 86 = some (.iload_n 2, 1) := (rfl)
theorem pM_bid_87 : alk tM_bid 87 = some (.invokevirtual 317, 3) := (rfl)
theorem pM_bid_90 : alk tM_bid 90 = some (.ifCond .eq 10, 3) := (rfl)
theorem pM_bid_93 : alk tM_bid 93 = some (.aload_n 0, 1) := (rfl)
theorem pM_bid_94 : alk tM_bid 94 = some (.bipush (-7), 2) := (rfl)
theorem pM_bid_96 : alk tM_bid 96 = some (.invokevirtual 169, 3) := (rfl)
theorem pM_bid_99 : alk tM_bid 99 = some (.ireturn, 1) := (rfl)
theorem pM_bid_100 : alk tM_bid 100 = some (.aload_n 0, 1) := (rfl)
theorem pM_bid_101 : alk tM_bid 101 = some (.getfield 98, 3) := (rfl)
theorem pM_bid_104 : alk tM_bid 104 = some (.iload 4, 2) := (rfl)
theorem pM_bid_106 : alk tM_bid 106 = some (.iload_n 3, 1) := (rfl)
theorem pM_bid_107 : alk tM_bid 107 = some (.iastore, 1) := (rfl)
theorem pM_bid_108 : alk tM_bid 108 = some (.aload_n 0, 1) := (rfl)
set_option maxRecDepth 20000 in
theorem pM_bid_109 : alk tM_bid 109 = some (.getfield 101, 3) := (rfl)
set_option maxRecDepth 20000 in
theorem pM_bid_112 : alk tM_bid 112 = some (.iload 4, 2) := (rfl)
set_option maxRecDepth 20000 in
theorem pM_bid_114 : alk tM_bid 114 = some (.aload_n 0, 1) := (rfl)
set_option maxRecDepth 20000 in
theorem pM_bid_115 : alk tM_bid 115 = some (.getfield 321, 3) := (rfl)
set_option maxRecDepth 20000 in
theorem pM_bid_118 : alk tM_bid 118 = some (.iastore, 1) := (rfl)
set_option maxRecDepth 20000 in
theorem pM_bid_119 : alk tM_bid 119 = some (.aload_n 0, 1) := (rfl)
set_option maxRecDepth 20000 in
theorem pM_bid_120 : alk tM_bid 120 = some (.dup, 1) := (rfl)
set_option maxRecDepth 20000 in
theorem pM_bid_121 : alk tM_bid 121 = some (.getfield 321, 3) := (rfl)
set_option maxRecDepth 20000 in
theorem pM_bid_124 : alk tM_bid 124 = some (.iconst 1, 1) := (rfl)
set_option maxRecDepth 20000 in
theorem pM_bid_125 : alk tM_bid 125 = some (.iadd, 1) := (rfl)
set_option maxRecDepth 20000 in
theorem pM_bid_126 : alk tM_bid 126 = some (.putfield 321, 3) := (rfl)
set_option maxRecDepth 20000 in
theorem pM_bid_129 : alk tM_bid 129 = some (.iconst 0, 1) := (rfl)
set_option maxRecDepth 20000 in
theorem pM_bid_130 : alk tM_bid 130 = some (.istore 5, 2) := (rfl)
set_option maxRecDepth 20000 in
theorem pM_bid_132 : alk tM_bid 132 = some (.iconst 5, 1) := (rfl)
set_option maxRecDepth 20000 in
theorem pM_bid_133 : alk tM_bid 133 = some (.iload_n 2, 1) := (rfl)
set_option maxRecDepth 20000 in
theorem pM_bid_134 : alk tM_bid 134 = some (.imul, 1) := (rfl)
set_option maxRecDepth 20000 in
theorem pM_bid_135 : alk tM_bid 135 = some (.istore 6, 2) := (rfl)
set_option maxRecDepth 20000 in
theorem pM_bid_137 : alk tM_bid 137 = some (.iload 6, 2) := (rfl)
set_option maxRecDepth 20000 in
theorem pM_bid_139 : alk tM_bid 139 = some (.iconst 5, 1) := (rfl)
set_option maxRecDepth 20000 in
theorem pM_bid_140 : alk tM_bid 140 = some (.iload_n 2, 1) := (rfl)
set_option maxRecDepth 20000 in
theorem pM_bid_141 : alk tM_bid 141 = some (.imul, 1) := (rfl)
set_option maxRecDepth 20000 in
theorem pM_bid_142 : alk tM_bid 142 = some (.iconst 5, 1) := (rfl)
set_option maxRecDepth 20000 in
theorem pM_bid_143 : alk tM_bid 143 = some (.iadd, 1) := (rfl)
set_option maxRecDepth 20000 in
theorem pM_bid_144 : alk tM_bid 144 = some (.if_icmp .ge 29, 3) := (rfl)
set_option maxRecDepth 20000 in
theorem pM_bid_147 : alk tM_bid 147 = some (.iload 5, 2) := (rfl)
set_option maxRecDepth 20000 in
theorem pM_bid_149 : alk tM_bid 149 = some (.aload_n 0, 1) := (rfl)
set_option maxRecDepth 20000 in
theorem pM_bid_150 : alk tM_bid 150 = some (.getfield 98, 3) := (rfl)
set_option maxRecDepth 20000 in
theorem pM_bid_153 : alk tM_bid 153 = some (.iload 6, 2) := (rfl)
set_option maxRecDepth 20000 in
theorem pM_bid_155 : alk tM_bid 155 = some (.iaload, 1) := (rfl)
set_option maxRecDepth 20000 in
theorem pM_bid_156 : alk tM_bid 156 = some (.ifCond .le 7, 3) := (rfl)
set_option maxRecDepth 20000 in
theorem pM_bid_159 : alk tM_bid 159 = some (.iconst 1, 1) := (rfl)
set_option maxRecDepth 20000 in
theorem pM_bid_160 : alk tM_bid 160 = some (.goto 4, 3) := (rfl)
set_option maxRecDepth 20000 in
theorem pM_bid_163 : alk tM_bid 163 = some (.iconst 0, 1) := (rfl)
set_option maxRecDepth 20000 in
theorem pM_bid_164 : alk tM_bid 164 = some (.iadd, 1) := (rfl)
set_option maxRecDepth 20000 in
theorem pM_bid_165 : alk tM_bid 165 = some (.istore 5, 2) := (rfl)
set_option maxRecDepth 20000 in
theorem pM_bid_167 : alk tM_bid 167 = some (.iinc 6 1, 3) := (rfl)
set_option maxRecDepth 20000 in
theorem pM_bid_170 : alk tM_bid 170 = some (.goto (-33), 3) := (rfl)
set_option maxRecDepth 20000 in
theorem pM_bid_173 : alk tM_bid 173 = some (.iload 5, 2) := (rfl)
set_option maxRecDepth 20000 in
theorem pM_bid_175 : alk tM_bid 175 = some (.ireturn, 1) := (rfl)
def tM_isBarred : TB := [(0, .iconst 0, 1), (1, .istore_n 3, 1), (2, .iconst 0, 1), (3, .istore 4, 2), (5, .iload 4, 2), (7, .aload_n 0, 1), (8, .getfield 288, 3), (11, .if_icmp .ge 52, 3), (14, .iload_n 3, 1), (15, .ifCond .ne 36, 3), (18, .aload_n 0, 1), (19, .getfield 123, 3), (22, .iload 4, 2), (24, .iaload, 1), (25, .iconst 2, 1), (26, .if_icmp .ne 29, 3), (29, .aload_n 0, 1), (30, .getfield 126, 3), (33, .iload 4, 2), (35, .iaload, 1), (36, .iload_n 1, 1), (37, .if_icmp .ne 18, 3), (40, .aload_n 0, 1), (41, .iload 4, 2), (43, .iload_n 2, 1), (44, .iload_n 1, 1), (45, .invokevirtual 308, 3), (48, .ifCond .eq 7, 3), (51, .iconst 1, 1), (52, .goto 4, 3), (55, .iconst 0, 1), (56, .istore_n 3, 1), (57, .iinc 4 1, 3), (60, .goto (-55), 3), (63, .iload_n 3, 1), (64, .ireturn, 1)]
set_option maxRecDepth 100000 in
theorem kM_isBarred : tbOk (mB mM_isBarred) tM_isBarred = true := by decide +kernel
theorem pM_isBarred_0 : alk tM_isBarred 0 = some (.iconst 0, 1) := (rfl)
theorem pM_isBarred_1 : alk tM_isBarred 1 = some (.istore_n 3, 1) := (rfl)
theorem pM_isBarred_2 : alk tM_isBarred 2 = some (.iconst 0, 1) := (rfl)
theorem pM_isBarred_3 : alk tM_isBarred 3 = some (.istore 4, 2) := (rfl)
theorem pM_isBarred_5 : alk tM_isBarred 5 = some (.iload 4, 2) := (rfl)
theorem pM_isBarred_7 : alk tM_isBarred 7 = some (.aload_n 0, 1) := (rfl)
theorem pM_isBarred_8 : alk tM_isBarred 8 = some (.getfield 288, 3) := (rfl)
theorem pM_isBarred_11 : alk tM_isBarred 11 = some (.if_icmp .ge 52, 3) := (rfl)
theorem pM_isBarred_14 : alk tM_isBarred 14 = some (.iload_n 3, 1) := (rfl)
theorem pM_isBarred_15 : alk tM_isBarred 15 = some (.ifCond .ne 36, 3) := (rfl)
theorem pM_isBarred_18 : alk tM_isBarred 18 = some (.aload_n 0, 1) := (rfl)
theorem pM_isBarred_19 : alk tM_isBarred 19 = some (.getfield 123, 3) := (rfl)
theorem pM_isBarred_22 : alk tM_isBarred 22 = some (.iload 4, 2) := (rfl)
theorem pM_isBarred_24 : alk tM_isBarred 24 = some (.iaload, 1) := (rfl)
theorem pM_isBarred_25 : alk tM_isBarred 25 = some (.iconst 2, 1) := (rfl)
theorem pM_isBarred_26 : alk tM_isBarred 26 = some (.if_icmp .ne 29, 3) := (rfl)
theorem pM_isBarred_29 : alk tM_isBarred 29 = some (.aload_n 0, 1) := (rfl)
theorem pM_isBarred_30 : alk tM_isBarred 30 = some (.getfield 126, 3) := (rfl)
theorem pM_isBarred_33 : alk tM_isBarred 33 = some (.iload 4, 2) := (rfl)
theorem pM_isBarred_35 : alk tM_isBarred 35 = some (.iaload, 1) := (rfl)
theorem pM_isBarred_36 : alk tM_isBarred 36 = some (.iload_n 1, 1) := (rfl)
theorem pM_isBarred_37 : alk tM_isBarred 37 = some (.if_icmp .ne 18, 3) := (rfl)
theorem pM_isBarred_40 : alk tM_isBarred 40 = some (.aload_n 0, 1) := (rfl)
theorem pM_isBarred_41 : alk tM_isBarred 41 = some (.iload 4, 2) := (rfl)
theorem pM_isBarred_43 : alk tM_isBarred 43 = some (.iload_n 2, 1) := (rfl)
theorem pM_isBarred_44 : alk tM_isBarred 44 = some (.iload_n 1, 1) := (rfl)
theorem pM_isBarred_45 : alk tM_isBarred 45 = some (.invokevirtual 308, 3) := (rfl)
theorem pM_isBarred_48 : alk tM_isBarred 48 = some (.ifCond .eq 7, 3) := (rfl)
theorem pM_isBarred_51 : alk tM_isBarred 51 = some (.iconst 1, 1) := (rfl)
theorem pM_isBarred_52 : alk tM_isBarred 52 = some (.goto 4, 3) := (rfl)
theorem pM_isBarred_55 : alk tM_isBarred 55 = some (.iconst 0, 1) := (rfl)
theorem pM_isBarred_56 : alk tM_isBarred 56 = some (.istore_n 3, 1) := (rfl)
theorem pM_isBarred_57 : alk tM_isBarred 57 = some (.iinc 4 1, 3) := (rfl)
theorem pM_isBarred_60 : alk tM_isBarred 60 = some (.goto (-55), 3) := (rfl)
theorem pM_isBarred_63 : alk tM_isBarred 63 = some (.iload_n 3, 1) := (rfl)
theorem pM_isBarred_64 : alk tM_isBarred 64 = some (.ireturn, 1) := (rfl)
def tM_sell : TB := [(0, .aload_n 0, 1), (1, .iload_n 1, 1), (2, .invokevirtual 218, 3), (5, .ifCond .ne 10, 3), (8, .aload_n 0, 1), (9, .bipush (-3), 2), (11, .invokevirtual 169, 3), (14, .ireturn, 1), (15, .aload_n 0, 1), (16, .getfield 43, 3), (19, .iload_n 1, 1), (20, .iaload, 1), (21, .ifCond .eq 10, 3), (24, .aload_n 0, 1), (25, .bipush (-5), 2), (27, .invokevirtual 169, 3), (30, .ireturn, 1), (31, .aload_n 0, 1), (32, .getfield 74, 3), (35, .iload_n 1, 1), (36, .iaload, 1), (37, .iconst (-1), 1), (38, .if_icmp .eq 10, 3), (41, .aload_n 0, 1), (42, .bipush (-7), 2), (44, .invokevirtual 169, 3), (47, .ireturn, 1), (48, .iconst (-1), 1), (49, .istore_n 2, 1), (50, .iconst 5, 1), (51, .iload_n 1, 1), (52, .imul, 1), (53, .istore_n 3, 1), (54, .iload_n 3, 1), (55, .iconst 5, 1), (56, .iload_n 1, 1), (57, .imul, 1), (58, .iconst 5, 1), (59, .iadd, 1), (60, .if_icmp .ge 70, 3), (63, .aload_n 0, 1), (64, .getfield 98, 3), (67, .iload_n 3, 1), (68, .iaload, 1), (69, .ifCond .le 55, 3), (72, .iload_n 2, 1), (73, .iconst (-1), 1), (74, .if_icmp .eq 48, 3), (77, .aload_n 0, 1), (78, .getfield 98, 3), (81, .iload_n 3, 1), (82, .iaload, 1), (83, .aload_n 0, 1), (84, .getfield 98, 3), (87, .iload_n 2, 1), (88, .iaload, 1), (89, .if_icmp .gt 33, 3), (92, .aload_n 0, 1), (93, .getfield 98, 3), (96, .iload_n 3, 1), (97, .iaload, 1), (98, .aload_n 0, 1), (99, .getfield 98, 3), (102, .iload_n 2, 1), (103, .iaload, 1), (104, .if_icmp .ne 20, 3), (107, .aload_n 0, 1), (108, .getfield 101, 3), (111, .iload_n 3, 1), (112, .iaload, 1), (113, .aload_n 0, 1), (114, .getfield 101, 3), (117, .iload_n 2, 1), (118, .iaload, 1), (119, .if_icmp .ge 5, 3), (122, .iload_n 3, 1), (123, .istore_n 2, 1), (124, .iinc 3 1, 3), (127, .goto (-73), 3), (130, .iload_n 2, 1), (131, .iconst (-1), 1), (132, .if_icmp .ne 10, 3), (135, .aload_n 0, 1), (136, .bipush (-2), 2), (138, .invokevirtual 169, 3), (141, .ireturn, 1), (142, .aload_n 0, 1), (143, .getfield 74, 3), (146, .iload_n 1, 1), (147, .iload_n 2, 1), (148, .iconst 5, 1), (149, .iload_n 1, 1), (150, .imul, 1), (151, .isub, 1), (152, .iastore, 1), (153, .aload_n 0, 1), (154, .getfield 77, 3), (157, .iload_n 1, 1), (158, .aload_n 0, 1), (159, .getfield 98, 3), (162, .iload_n 2, 1), (163, .iaload, 1), (164, .iastore, 1), (165, .aload_n 0, 1), (166, .getfield 74, 3), (169, .iload_n 1, 1), (170, .iaload, 1), (171, .ireturn, 1)]
set_option maxRecDepth 100000 in
theorem kM_sell : tbOk (mB mM_sell) tM_sell = true := by decide +kernel
theorem pM_sell_0 : alk tM_sell 0 = some (.aload_n 0, 1) := (rfl)
theorem pM_sell_1 : alk tM_sell 1 = some (.iload_n 1, 1) := (rfl)
theorem pM_sell_2 : alk tM_sell 2 = some (.invokevirtual 218, 3) := (rfl)
theorem pM_sell_5 : alk tM_sell 5 = some (.ifCond .ne 10, 3) := (rfl)
theorem pM_sell_8 : alk tM_sell 8 = some (.aload_n 0, 1) := (rfl)
theorem pM_sell_9 : alk tM_sell 9 = some (.bipush (-3), 2) := (rfl)
theorem pM_sell_11 : alk tM_sell 11 = some (.invokevirtual 169, 3) := (rfl)
theorem pM_sell_14 : alk tM_sell 14 = some (.ireturn, 1) := (rfl)
theorem pM_sell_15 : alk tM_sell 15 = some (.aload_n 0, 1) := (rfl)
theorem pM_sell_16 : alk tM_sell 16 = some (.getfield 43, 3) := (rfl)
theorem pM_sell_19 : alk tM_sell 19 = some (.iload_n 1, 1) := (rfl)
theorem pM_sell_20 : alk tM_sell 20 = some (.iaload, 1) := (rfl)
theorem pM_sell_21 : alk tM_sell 21 = some (.ifCond .eq 10, 3) := (rfl)
theorem pM_sell_24 : alk tM_sell 24 = some (.aload_n 0, 1) := (rfl)
theorem pM_sell_25 : alk tM_sell 25 = some (.bipush (-5), 2) := (rfl)
theorem pM_sell_27 : alk tM_sell 27 = some (.invokevirtual 169, 3) := (rfl)
theorem pM_sell_30 : alk tM_sell 30 = some (.ireturn, 1) := (rfl)
theorem pM_sell_31 : alk tM_sell 31 = some (.aload_n 0, 1) := (rfl)
theorem pM_sell_32 : alk tM_sell 32 = some (.getfield 74, 3) := (rfl)
theorem pM_sell_35 : alk tM_sell 35 = some (.iload_n 1, 1) := (rfl)
theorem pM_sell_36 : alk tM_sell 36 = some (.iaload, 1) := (rfl)
theorem pM_sell_37 : alk tM_sell 37 = some (.iconst (-1), 1) := (rfl)
theorem pM_sell_38 : alk tM_sell 38 = some (.if_icmp .eq 10, 3) := (rfl)
theorem pM_sell_41 : alk tM_sell 41 = some (.aload_n 0, 1) := (rfl)
theorem pM_sell_42 : alk tM_sell 42 = some (.bipush (-7), 2) := (rfl)
theorem pM_sell_44 : alk tM_sell 44 = some (.invokevirtual 169, 3) := (rfl)
theorem pM_sell_47 : alk tM_sell 47 = some (.ireturn, 1) := (rfl)
theorem pM_sell_48 : alk tM_sell 48 = some (.iconst (-1), 1) := (rfl)
theorem pM_sell_49 : alk tM_sell 49 = some (.istore_n 2, 1) := (rfl)
theorem pM_sell_50 : alk tM_sell 50 = some (.iconst 5, 1) := (rfl)
theorem pM_sell_51 : alk tM_sell 51 = some (.iload_n 1, 1) := (rfl)
theorem pM_sell_52 : alk tM_sell 52 = some (.imul, 1) := (rfl)
theorem pM_sell_53 : alk tM_sell 53 = some (.istore_n 3, 1) := (rfl)
theorem pM_sell_54 : alk tM_sell 54 = some (.iload_n 3, 1) := (rfl)
theorem pM_sell_55 : alk tM_sell 55 = some (.iconst 5, 1) := (rfl)
theorem pM_sell_56 : alk tM_sell 56 = some (.iload_n 1, 1) := (rfl)
theorem pM_sell_57 : alk tM_sell 57 = some (.imul, 1) := (rfl)
theorem pM_sell_58 : alk tM_sell 58 = some (.iconst 5, 1) := (rfl)
theorem pM_sell_59 : alk tM_sell 59 = some (.iadd, 1) := (rfl)
theorem pM_sell_60 : alk tM_sell 60 = some (.if_icmp .ge 70, 3) := (rfl)
theorem pM_sell_63 : alk tM_sell 63 = some (.aload_n 0, 1) := (rfl)
theorem pM_sell_64 : alk tM_sell 64 = some (.getfield 98, 3) := (rfl)
theorem pM_sell_67 : alk tM_sell 67 = some (.iload_n 3, 1) := (rfl)
theorem pM_sell_68 : alk tM_sell 68 = some (.iaload, 1) := (rfl)
theorem pM_sell_69 : alk tM_sell 69 = some (.ifCond .le 55, 3) := (rfl)
theorem pM_sell_72 : alk tM_sell 72 = some (.iload_n 2, 1) := (rfl)
theorem pM_sell_73 : alk tM_sell 73 = some (.iconst (-1), 1) := (rfl)
theorem pM_sell_74 : alk tM_sell 74 = some (.if_icmp .eq 48, 3) := (rfl)
theorem pM_sell_77 : alk tM_sell 77 = some (.aload_n 0, 1) := (rfl)
theorem pM_sell_78 : alk tM_sell 78 = some (.getfield 98, 3) := (rfl)
theorem pM_sell_81 : alk tM_sell 81 = some (.iload_n 3, 1) := (rfl)
theorem pM_sell_82 : alk tM_sell 82 = some (.iaload, 1) := (rfl)
theorem pM_sell_83 : alk tM_sell 83 = some (.aload_n 0, 1) := (rfl)
theorem pM_sell_84 : alk tM_sell 84 = some (.getfield 98, 3) := (rfl)
theorem pM_sell_87 : alk tM_sell 87 = some (.iload_n 2, 1) := (rfl)
theorem pM_sell_88 : alk tM_sell 88 = some (.iaload, 1) := (rfl)
theorem pM_sell_89 : alk tM_sell 89 = some (.if_icmp .gt 33, 3) := (rfl)
theorem pM_sell_92 : alk tM_sell 92 = some (.aload_n 0, 1) := (rfl)
theorem pM_sell_93 : alk tM_sell 93 = some (.getfield 98, 3) := (rfl)
theorem pM_sell_96 : alk tM_sell 96 = some (.iload_n 3, 1) := (rfl)
theorem pM_sell_97 : alk tM_sell 97 = some (.iaload, 1) := (rfl)
set_option maxRecDepth 20000 in
theorem pM_sell_98 : alk tM_sell 98 = some (.aload_n 0, 1) := (rfl)
set_option maxRecDepth 20000 in
theorem pM_sell_99 : alk tM_sell 99 = some (.getfield 98, 3) := (rfl)
set_option maxRecDepth 20000 in
theorem pM_sell_102 : alk tM_sell 102 = some (.iload_n 2, 1) := (rfl)
set_option maxRecDepth 20000 in
theorem pM_sell_103 : alk tM_sell 103 = some (.iaload, 1) := (rfl)
set_option maxRecDepth 20000 in
theorem pM_sell_104 : alk tM_sell 104 = some (.if_icmp .ne 20, 3) := (rfl)
set_option maxRecDepth 20000 in
theorem pM_sell_107 : alk tM_sell 107 = some (.aload_n 0, 1) := (rfl)
set_option maxRecDepth 20000 in
theorem pM_sell_108 : alk tM_sell 108 = some (.getfield 101, 3) := (rfl)
set_option maxRecDepth 20000 in
theorem pM_sell_111 : alk tM_sell 111 = some (.iload_n 3, 1) := (rfl)
set_option maxRecDepth 20000 in
theorem pM_sell_112 : alk tM_sell 112 = some (.iaload, 1) := (rfl)
set_option maxRecDepth 20000 in
theorem pM_sell_113 : alk tM_sell 113 = some (.aload_n 0, 1) := (rfl)
set_option maxRecDepth 20000 in
theorem pM_sell_114 : alk tM_sell 114 = some (.getfield 101, 3) := (rfl)
set_option maxRecDepth 20000 in
theorem pM_sell_117 : alk tM_sell 117 = some (.iload_n 2, 1) := (rfl)
set_option maxRecDepth 20000 in
theorem pM_sell_118 : alk tM_sell 118 = some (.iaload, 1) := (rfl)
set_option maxRecDepth 20000 in
theorem pM_sell_119 : alk tM_sell 119 = some (.if_icmp .ge 5, 3) := (rfl)
set_option maxRecDepth 20000 in
theorem pM_sell_122 : alk tM_sell 122 = some (.iload_n 3, 1) := (rfl)
set_option maxRecDepth 20000 in
theorem pM_sell_123 : alk tM_sell 123 = some (.istore_n 2, 1) := (rfl)
set_option maxRecDepth 20000 in
theorem pM_sell_124 : alk tM_sell 124 = some (.iinc 3 1, 3) := (rfl)
set_option maxRecDepth 20000 in
theorem pM_sell_127 : alk tM_sell 127 = some (.goto (-73), 3) := (rfl)
set_option maxRecDepth 20000 in
theorem pM_sell_130 : alk tM_sell 130 = some (.iload_n 2, 1) := (rfl)
set_option maxRecDepth 20000 in
theorem pM_sell_131 : alk tM_sell 131 = some (.iconst (-1), 1) := (rfl)
set_option maxRecDepth 20000 in
theorem pM_sell_132 : alk tM_sell 132 = some (.if_icmp .ne 10, 3) := (rfl)
set_option maxRecDepth 20000 in
theorem pM_sell_135 : alk tM_sell 135 = some (.aload_n 0, 1) := (rfl)
set_option maxRecDepth 20000 in
theorem pM_sell_136 : alk tM_sell 136 = some (.bipush (-2), 2) := (rfl)
set_option maxRecDepth 20000 in
theorem pM_sell_138 : alk tM_sell 138 = some (.invokevirtual 169, 3) := (rfl)
set_option maxRecDepth 20000 in
theorem pM_sell_141 : alk tM_sell 141 = some (.ireturn, 1) := (rfl)
set_option maxRecDepth 20000 in
theorem pM_sell_142 : alk tM_sell 142 = some (.aload_n 0, 1) := (rfl)
set_option maxRecDepth 20000 in
theorem pM_sell_143 : alk tM_sell 143 = some (.getfield 74, 3) := (rfl)
set_option maxRecDepth 20000 in
theorem pM_sell_146 : alk tM_sell 146 = some (.iload_n 1, 1) := (rfl)
set_option maxRecDepth 20000 in
theorem pM_sell_147 : alk tM_sell 147 = some (.iload_n 2, 1) := (rfl)
set_option maxRecDepth 20000 in
theorem pM_sell_148 : alk tM_sell 148 = some (.iconst 5, 1) := (rfl)
set_option maxRecDepth 20000 in
theorem pM_sell_149 : alk tM_sell 149 = some (.iload_n 1, 1) := (rfl)
set_option maxRecDepth 20000 in
theorem pM_sell_150 : alk tM_sell 150 = some (.imul, 1) := (rfl)
set_option maxRecDepth 20000 in
theorem pM_sell_151 : alk tM_sell 151 = some (.isub, 1) := (rfl)
set_option maxRecDepth 20000 in
theorem pM_sell_152 : alk tM_sell 152 = some (.iastore, 1) := (rfl)
set_option maxRecDepth 20000 in
theorem pM_sell_153 : alk tM_sell 153 = some (.aload_n 0, 1) := (rfl)
set_option maxRecDepth 20000 in
theorem pM_sell_154 : alk tM_sell 154 = some (.getfield 77, 3) := (rfl)
set_option maxRecDepth 20000 in
theorem pM_sell_157 : alk tM_sell 157 = some (.iload_n 1, 1) := (rfl)
set_option maxRecDepth 20000 in
theorem pM_sell_158 : alk tM_sell 158 = some (.aload_n 0, 1) := (rfl)
set_option maxRecDepth 20000 in
theorem pM_sell_159 : alk tM_sell 159 = some (.getfield 98, 3) := (rfl)
set_option maxRecDepth 20000 in
theorem pM_sell_162 : alk tM_sell 162 = some (.iload_n 2, 1) := (rfl)
set_option maxRecDepth 20000 in
theorem pM_sell_163 : alk tM_sell 163 = some (.iaload, 1) := (rfl)
set_option maxRecDepth 20000 in
theorem pM_sell_164 : alk tM_sell 164 = some (.iastore, 1) := (rfl)
set_option maxRecDepth 20000 in
theorem pM_sell_165 : alk tM_sell 165 = some (.aload_n 0, 1) := (rfl)
set_option maxRecDepth 20000 in
theorem pM_sell_166 : alk tM_sell 166 = some (.getfield 74, 3) := (rfl)
set_option maxRecDepth 20000 in
theorem pM_sell_169 : alk tM_sell 169 = some (.iload_n 1, 1) := (rfl)
set_option maxRecDepth 20000 in
theorem pM_sell_170 : alk tM_sell 170 = some (.iaload, 1) := (rfl)
set_option maxRecDepth 20000 in
theorem pM_sell_171 : alk tM_sell 171 = some (.ireturn, 1) := (rfl)
def tM_weigh : TB := [(0, .aload_n 0, 1), (1, .iload_n 1, 1), (2, .invokevirtual 218, 3), (5, .ifCond .ne 10, 3), (8, .aload_n 0, 1), (9, .bipush (-3), 2), (11, .invokevirtual 169, 3), (14, .ireturn, 1), (15, .aload_n 0, 1), (16, .getfield 58, 3), (19, .iload_n 1, 1), (20, .iaload, 1), (21, .iconst (-1), 1), (22, .if_icmp .eq 18, 3), (25, .aload_n 0, 1), (26, .getfield 13, 3), (29, .aload_n 0, 1), (30, .getfield 58, 3), (33, .iload_n 1, 1), (34, .iaload, 1), (35, .iaload, 1), (36, .iconst 2, 1), (37, .if_icmp .eq 10, 3), (40, .aload_n 0, 1), (41, .bipush (-7), 2), (43, .invokevirtual 169, 3), (46, .ireturn, 1), (47, .aload_n 0, 1), (48, .getfield 52, 3), (51, .iload_n 1, 1), (52, .iaload, 1), (53, .aload_n 0, 1), (54, .iload_n 1, 1), (55, .invokevirtual 224, 3), (58, .bipush 60, 2), (60, .idiv, 1), (61, .isub, 1), (62, .aload_n 0, 1), (63, .iconst 0, 1), (64, .iload_n 1, 1), (65, .iconst (-1), 1), (66, .invokevirtual 311, 3), (69, .isub, 1), (70, .istore_n 2, 1), (71, .aload_n 0, 1), (72, .getfield 49, 3), (75, .iload_n 1, 1), (76, .iaload, 1), (77, .iload_n 2, 1), (78, .iconst 1, 1), (79, .if_icmp .ge 7, 3), (82, .iconst 1, 1), (83, .goto 4, 3), (86, .iload_n 2, 1), (87, .imul, 1), (88, .aload_n 0, 1), (89, .getfield 16, 3), (92, .aload_n 0, 1), (93, .getfield 58, 3), (96, .iload_n 1, 1), (97, .iaload, 1), (98, .iaload, 1), (99, .iadd, 1), (100, .istore_n 3, 1), (101, .iload_n 3, 1), (102, .iconst 1, 1), (103, .if_icmp .ge 7, 3), (106, .iconst 1, 1), (107, .goto 4, 3), (110, .iload_n 3, 1), (111, .istore_n 3, 1), (112, .aload_n 0, 1), (113, .getfield 74, 3), (116, .iload_n 1, 1), (117, .iaload, 1), (118, .iconst (-1), 1), (119, .if_icmp .eq 75, 3), (122, .aload_n 0, 1), (123, .getfield 80, 3), (126, .iload_n 1, 1), (127, .baload, 1), (128, .ifCond .ne 66, 3), (131, .aload_n 0, 1), (132, .getfield 80, 3), (135, .iload_n 1, 1), (136, .iconst 1, 1), (137, .bastore, 1), (138, .aload_n 0, 1), (139, .getfield 86, 3), (142, .iload_n 1, 1), (143, .aload_n 0, 1), (144, .iconst 1, 1), (145, .iload_n 1, 1), (146, .aload_n 0, 1), (147, .getfield 74, 3), (150, .iload_n 1, 1), (151, .iaload, 1), (152, .invokevirtual 311, 3), (155, .iastore, 1), (156, .aload_n 0, 1), (157, .getfield 89, 3), (160, .iload_n 1, 1), (161, .iload_n 3, 1), (162, .iastore, 1), (163, .aload_n 0, 1), (164, .getfield 83, 3), (167, .iload_n 1, 1), (168, .aload_n 0, 1), (169, .iload_n 1, 1), (170, .iload_n 3, 1), (171, .invokevirtual 326, 3), (174, .iastore, 1), (175, .aload_n 0, 1), (176, .getfield 104, 3), (179, .iload_n 1, 1), (180, .iconst 1, 1), (181, .bastore, 1), (182, .aload_n 0, 1), (183, .getfield 92, 3), (186, .iload_n 1, 1), (187, .aload_n 0, 1), (188, .getfield 58, 3), (191, .iload_n 1, 1), (192, .iaload, 1), (193, .iastore, 1), (194, .iload_n 3, 1), (195, .ireturn, 1)]
set_option maxRecDepth 100000 in
theorem kM_weigh : tbOk (mB mM_weigh) tM_weigh = true := by decide +kernel
theorem pM_weigh_0 : alk tM_weigh 0 = some (.aload_n 0, 1) := (rfl)
theorem pM_weigh_1 : alk tM_weigh 1 = some (.iload_n 1, 1) := (rfl)
theorem pM_weigh_2 : alk tM_weigh 2 = some (.invokevirtual 218, 3) := (rfl)
theorem pM_weigh_5 : alk tM_weigh 5 = some (.ifCond .ne 10, 3) := (rfl)
theorem pM_weigh_8 : alk tM_weigh 8 = some (.aload_n 0, 1) := (rfl)
theorem pM_weigh_9 : alk tM_weigh 9 = some (.bipush (-3), 2) := (rfl)
theorem pM_weigh_11 : alk tM_weigh 11 = some (.invokevirtual 169, 3) := (rfl)
theorem pM_weigh_14 : alk tM_weigh 14 = some (.ireturn, 1) := (rfl)
theorem pM_weigh_15 : alk tM_weigh 15 = some (.aload_n 0, 1) := (rfl)
theorem pM_weigh_16 : alk tM_weigh 16 = some (.getfield 58, 3) := (rfl)
theorem pM_weigh_19 : alk tM_weigh 19 = some (.iload_n 1, 1) := (rfl)
theorem pM_weigh_20 : alk tM_weigh 20 = some (.iaload, 1) := (rfl)
theorem pM_weigh_21 : alk tM_weigh 21 = some (.iconst (-1), 1) := (rfl)
theorem pM_weigh_22 : alk tM_weigh 22 = some (.if_icmp .eq 18, 3) := (rfl)
theorem pM_weigh_25 : alk tM_weigh 25 = some (.aload_n 0, 1) := (rfl)
theorem pM_weigh_26 : alk tM_weigh 26 = some (.getfield 13, 3) := (rfl)
theorem pM_weigh_29 : alk tM_weigh 29 = some (.aload_n 0, 1) := (rfl)
theorem pM_weigh_30 : alk tM_weigh 30 = some (.getfield 58, 3) := (rfl)
theorem pM_weigh_33 : alk tM_weigh 33 = some (.iload_n 1, 1) := (rfl)
theorem pM_weigh_34 : alk tM_weigh 34 = some (.iaload, 1) := (rfl)
theorem pM_weigh_35 : alk tM_weigh 35 = some (.iaload, 1) := (rfl)
theorem pM_weigh_36 : alk tM_weigh 36 = some (.iconst 2, 1) := (rfl)
theorem pM_weigh_37 : alk tM_weigh 37 = some (.if_icmp .eq 10, 3) := (rfl)
theorem pM_weigh_40 : alk tM_weigh 40 = some (.aload_n 0, 1) := (rfl)
theorem pM_weigh_41 : alk tM_weigh 41 = some (.bipush (-7), 2) := (rfl)
theorem pM_weigh_43 : alk tM_weigh 43 = some (.invokevirtual 169, 3) := (rfl)
theorem pM_weigh_46 : alk tM_weigh 46 = some (.ireturn, 1) := (rfl)
theorem pM_weigh_47 : alk tM_weigh 47 = some (.aload_n 0, 1) := (rfl)
theorem pM_weigh_48 : alk tM_weigh 48 = some (.getfield 52, 3) := (rfl)
theorem pM_weigh_51 : alk tM_weigh 51 = some (.iload_n 1, 1) := (rfl)
theorem pM_weigh_52 : alk tM_weigh 52 = some (.iaload, 1) := (rfl)
theorem pM_weigh_53 : alk tM_weigh 53 = some (.aload_n 0, 1) := (rfl)
theorem pM_weigh_54 : alk tM_weigh 54 = some (.iload_n 1, 1) := (rfl)
theorem pM_weigh_55 : alk tM_weigh 55 = some (.invokevirtual 224, 3) := (rfl)
theorem pM_weigh_58 : alk tM_weigh 58 = some (.bipush 60, 2) := (rfl)
theorem pM_weigh_60 : alk tM_weigh 60 = some (.idiv, 1) := (rfl)
theorem pM_weigh_61 : alk tM_weigh 61 = some (.isub, 1) := (rfl)
theorem pM_weigh_62 : alk tM_weigh 62 = some (.aload_n 0, 1) := (rfl)
theorem pM_weigh_63 : alk tM_weigh 63 = some (.iconst 0, 1) := (rfl)
theorem pM_weigh_64 : alk tM_weigh 64 = some (.iload_n 1, 1) := (rfl)
theorem pM_weigh_65 : alk tM_weigh 65 = some (.iconst (-1), 1) := (rfl)
theorem pM_weigh_66 : alk tM_weigh 66 = some (.invokevirtual 311, 3) := (rfl)
theorem pM_weigh_69 : alk tM_weigh 69 = some (.isub, 1) := (rfl)
theorem pM_weigh_70 : alk tM_weigh 70 = some (.istore_n 2, 1) := (rfl)
theorem pM_weigh_71 : alk tM_weigh 71 = some (.aload_n 0, 1) := (rfl)
theorem pM_weigh_72 : alk tM_weigh 72 = some (.getfield 49, 3) := (rfl)
theorem pM_weigh_75 : alk tM_weigh 75 = some (.iload_n 1, 1) := (rfl)
theorem pM_weigh_76 : alk tM_weigh 76 = some (.iaload, 1) := (rfl)
theorem pM_weigh_77 : alk tM_weigh 77 = some (.iload_n 2, 1) := (rfl)
theorem pM_weigh_78 : alk tM_weigh 78 = some (.iconst 1, 1) := (rfl)
theorem pM_weigh_79 : alk tM_weigh 79 = some (.if_icmp .ge 7, 3) := (rfl)
theorem pM_weigh_82 : alk tM_weigh 82 = some (.iconst 1, 1) := (rfl)
theorem pM_weigh_83 : alk tM_weigh 83 = some (.goto 4, 3) := (rfl)
theorem pM_weigh_86 : alk tM_weigh 86 = some (.iload_n 2, 1) := (rfl)
theorem pM_weigh_87 : alk tM_weigh 87 = some (.imul, 1) := (rfl)
theorem pM_weigh_88 : alk tM_weigh 88 = some (.aload_n 0, 1) := (rfl)
theorem pM_weigh_89 : alk tM_weigh 89 = some (.getfield 16, 3) := (rfl)
theorem pM_weigh_92 : alk tM_weigh 92 = some (.aload_n 0, 1) := (rfl)
theorem pM_weigh_93 : alk tM_weigh 93 = some (.getfield 58, 3) := (rfl)
theorem pM_weigh_96 : alk tM_weigh 96 = some (.iload_n 1, 1) := (rfl)
theorem pM_weigh_97 : alk tM_weigh 97 = some (.iaload, 1) := (rfl)
set_option maxRecDepth 20000 in
theorem pM_weigh_98 : alk tM_weigh 98 = some (.iaload, 1) := (rfl)
set_option maxRecDepth 20000 in
theorem pM_weigh_99 : alk tM_weigh 99 = some (.iadd, 1) := (rfl)
set_option maxRecDepth 20000 in
theorem pM_weigh_100 : alk tM_weigh 100 = some (.istore_n 3, 1) := (rfl)
set_option maxRecDepth 20000 in
theorem pM_weigh_101 : alk tM_weigh 101 = some (.iload_n 3, 1) := (rfl)
set_option maxRecDepth 20000 in
theorem pM_weigh_102 : alk tM_weigh 102 = some (.iconst 1, 1) := (rfl)
set_option maxRecDepth 20000 in
theorem pM_weigh_103 : alk tM_weigh 103 = some (.if_icmp .ge 7, 3) := (rfl)
set_option maxRecDepth 20000 in
theorem pM_weigh_106 : alk tM_weigh 106 = some (.iconst 1, 1) := (rfl)
set_option maxRecDepth 20000 in
theorem pM_weigh_107 : alk tM_weigh 107 = some (.goto 4, 3) := (rfl)
set_option maxRecDepth 20000 in
theorem pM_weigh_110 : alk tM_weigh 110 = some (.iload_n 3, 1) := (rfl)
set_option maxRecDepth 20000 in
theorem pM_weigh_111 : alk tM_weigh 111 = some (.istore_n 3, 1) := (rfl)
set_option maxRecDepth 20000 in
theorem pM_weigh_112 : alk tM_weigh 112 = some (.aload_n 0, 1) := (rfl)
set_option maxRecDepth 20000 in
theorem pM_weigh_113 : alk tM_weigh 113 = some (.getfield 74, 3) := (rfl)
set_option maxRecDepth 20000 in
theorem pM_weigh_116 : alk tM_weigh 116 = some (.iload_n 1, 1) := (rfl)
set_option maxRecDepth 20000 in
theorem pM_weigh_117 : alk tM_weigh 117 = some (.iaload, 1) := (rfl)
set_option maxRecDepth 20000 in
theorem pM_weigh_118 : alk tM_weigh 118 = some (.iconst (-1), 1) := (rfl)
set_option maxRecDepth 20000 in
theorem pM_weigh_119 : alk tM_weigh 119 = some (.if_icmp .eq 75, 3) := (rfl)
set_option maxRecDepth 20000 in
theorem pM_weigh_122 : alk tM_weigh 122 = some (.aload_n 0, 1) := (rfl)
set_option maxRecDepth 20000 in
theorem pM_weigh_123 : alk tM_weigh 123 = some (.getfield 80, 3) := (rfl)
set_option maxRecDepth 20000 in
theorem pM_weigh_126 : alk tM_weigh 126 = some (.iload_n 1, 1) := (rfl)
set_option maxRecDepth 20000 in
theorem pM_weigh_127 : alk tM_weigh 127 = some (.baload, 1) := (rfl)
set_option maxRecDepth 20000 in
theorem pM_weigh_128 : alk tM_weigh 128 = some (.ifCond .ne 66, 3) := (rfl)
set_option maxRecDepth 20000 in
theorem pM_weigh_131 : alk tM_weigh 131 = some (.aload_n 0, 1) := (rfl)
set_option maxRecDepth 20000 in
theorem pM_weigh_132 : alk tM_weigh 132 = some (.getfield 80, 3) := (rfl)
set_option maxRecDepth 20000 in
theorem pM_weigh_135 : alk tM_weigh 135 = some (.iload_n 1, 1) := (rfl)
set_option maxRecDepth 20000 in
theorem pM_weigh_136 : alk tM_weigh 136 = some (.iconst 1, 1) := (rfl)
set_option maxRecDepth 20000 in
theorem pM_weigh_137 : alk tM_weigh 137 = some (.bastore, 1) := (rfl)
set_option maxRecDepth 20000 in
theorem pM_weigh_138 : alk tM_weigh 138 = some (.aload_n 0, 1) := (rfl)
set_option maxRecDepth 20000 in
theorem pM_weigh_139 : alk tM_weigh 139 = some (.getfield 86, 3) := (rfl)
set_option maxRecDepth 20000 in
theorem pM_weigh_142 : alk tM_weigh 142 = some (.iload_n 1, 1) := (rfl)
set_option maxRecDepth 20000 in
theorem pM_weigh_143 : alk tM_weigh 143 = some (.aload_n 0, 1) := (rfl)
set_option maxRecDepth 20000 in
theorem pM_weigh_144 : alk tM_weigh 144 = some (.iconst 1, 1) := (rfl)
set_option maxRecDepth 20000 in
theorem pM_weigh_145 : alk tM_weigh 145 = some (.iload_n 1, 1) := (rfl)
set_option maxRecDepth 20000 in
theorem pM_weigh_146 : alk tM_weigh 146 = some (.aload_n 0, 1) := (rfl)
set_option maxRecDepth 20000 in
theorem pM_weigh_147 : alk tM_weigh 147 = some (.getfield 74, 3) := (rfl)
set_option maxRecDepth 20000 in
theorem pM_weigh_150 : alk tM_weigh 150 = some (.iload_n 1, 1) := (rfl)
set_option maxRecDepth 20000 in
theorem pM_weigh_151 : alk tM_weigh 151 = some (.iaload, 1) := (rfl)
set_option maxRecDepth 20000 in
theorem pM_weigh_152 : alk tM_weigh 152 = some (.invokevirtual 311, 3) := (rfl)
set_option maxRecDepth 20000 in
theorem pM_weigh_155 : alk tM_weigh 155 = some (.iastore, 1) := (rfl)
set_option maxRecDepth 20000 in
theorem pM_weigh_156 : alk tM_weigh 156 = some (.aload_n 0, 1) := (rfl)
set_option maxRecDepth 20000 in
theorem pM_weigh_157 : alk tM_weigh 157 = some (.getfield 89, 3) := (rfl)
set_option maxRecDepth 20000 in
theorem pM_weigh_160 : alk tM_weigh 160 = some (.iload_n 1, 1) := (rfl)
set_option maxRecDepth 20000 in
theorem pM_weigh_161 : alk tM_weigh 161 = some (.iload_n 3, 1) := (rfl)
set_option maxRecDepth 20000 in
theorem pM_weigh_162 : alk tM_weigh 162 = some (.iastore, 1) := (rfl)
set_option maxRecDepth 20000 in
theorem pM_weigh_163 : alk tM_weigh 163 = some (.aload_n 0, 1) := (rfl)
set_option maxRecDepth 20000 in
theorem pM_weigh_164 : alk tM_weigh 164 = some (.getfield 83, 3) := (rfl)
set_option maxRecDepth 20000 in
theorem pM_weigh_167 : alk tM_weigh 167 = some (.iload_n 1, 1) := (rfl)
set_option maxRecDepth 20000 in
theorem pM_weigh_168 : alk tM_weigh 168 = some (.aload_n 0, 1) := (rfl)
set_option maxRecDepth 20000 in
theorem pM_weigh_169 : alk tM_weigh 169 = some (.iload_n 1, 1) := (rfl)
set_option maxRecDepth 20000 in
theorem pM_weigh_170 : alk tM_weigh 170 = some (.iload_n 3, 1) := (rfl)
set_option maxRecDepth 20000 in
theorem pM_weigh_171 : alk tM_weigh 171 = some (.invokevirtual 326, 3) := (rfl)
set_option maxRecDepth 20000 in
theorem pM_weigh_174 : alk tM_weigh 174 = some (.iastore, 1) := (rfl)
set_option maxRecDepth 20000 in
theorem pM_weigh_175 : alk tM_weigh 175 = some (.aload_n 0, 1) := (rfl)
set_option maxRecDepth 20000 in
theorem pM_weigh_176 : alk tM_weigh 176 = some (.getfield 104, 3) := (rfl)
set_option maxRecDepth 20000 in
theorem pM_weigh_179 : alk tM_weigh 179 = some (.iload_n 1, 1) := (rfl)
set_option maxRecDepth 20000 in
theorem pM_weigh_180 : alk tM_weigh 180 = some (.iconst 1, 1) := (rfl)
set_option maxRecDepth 20000 in
theorem pM_weigh_181 : alk tM_weigh 181 = some (.bastore, 1) := (rfl)
set_option maxRecDepth 20000 in
theorem pM_weigh_182 : alk tM_weigh 182 = some (.aload_n 0, 1) := (rfl)
set_option maxRecDepth 20000 in
theorem pM_weigh_183 : alk tM_weigh 183 = some (.getfield 92, 3) := (rfl)
set_option maxRecDepth 20000 in
theorem pM_weigh_186 : alk tM_weigh 186 = some (.iload_n 1, 1) := (rfl)
set_option maxRecDepth 20000 in
theorem pM_weigh_187 : alk tM_weigh 187 = some (.aload_n 0, 1) := (rfl)
set_option maxRecDepth 20000 in
theorem pM_weigh_188 : alk tM_weigh 188 = some (.getfield 58, 3) := (rfl)
set_option maxRecDepth 20000 in
theorem pM_weigh_191 : alk tM_weigh 191 = some (.iload_n 1, 1) := (rfl)
set_option maxRecDepth 20000 in
theorem pM_weigh_192 : alk tM_weigh 192 = some (.iaload, 1) := (rfl)
set_option maxRecDepth 20000 in
theorem pM_weigh_193 : alk tM_weigh 193 = some (.iastore, 1) := (rfl)
set_option maxRecDepth 20000 in
theorem pM_weigh_194 : alk tM_weigh 194 = some (.iload_n 3, 1) := (rfl)
set_option maxRecDepth 20000 in
theorem pM_weigh_195 : alk tM_weigh 195 = some (.ireturn, 1) := (rfl)
def tM_moneyFor : TB := [(0, .aload_n 0, 1), (1, .getfield 77, 3), (4, .iload_n 1, 1), (5, .iaload, 1), (6, .i2l, 1), (7, .iload_n 2, 1), (8, .i2l, 1), (9, .lmul, 1), (10, .ldc2_w 324, 3), (13, .ldiv, 1), (14, .l2i, 1), (15, .aload_n 0, 1), (16, .getfield 49, 3), (19, .iload_n 1, 1), (20, .iaload, 1), (21, .aload_n 0, 1), (22, .getfield 86, 3), (25, .iload_n 1, 1), (26, .iaload, 1), (27, .imul, 1), (28, .isub, 1), (29, .ireturn, 1)]
set_option maxRecDepth 100000 in
theorem kM_moneyFor : tbOk (mB mM_moneyFor) tM_moneyFor = true := by decide +kernel
theorem pM_moneyFor_0 : alk tM_moneyFor 0 = some (.aload_n 0, 1) := (rfl)
theorem pM_moneyFor_1 : alk tM_moneyFor 1 = some (.getfield 77, 3) := (rfl)
theorem pM_moneyFor_4 : alk tM_moneyFor 4 = some (.iload_n 1, 1) := (rfl)
theorem pM_moneyFor_5 : alk tM_moneyFor 5 = some (.iaload, 1) := (rfl)
theorem pM_moneyFor_6 : alk tM_moneyFor 6 = some (.i2l, 1) := (rfl)
theorem pM_moneyFor_7 : alk tM_moneyFor 7 = some (.iload_n 2, 1) := (rfl)
theorem pM_moneyFor_8 : alk tM_moneyFor 8 = some (.i2l, 1) := (rfl)
theorem pM_moneyFor_9 : alk tM_moneyFor 9 = some (.lmul, 1) := (rfl)
theorem pM_moneyFor_10 : alk tM_moneyFor 10 = some (.ldc2_w 324, 3) := (rfl)
theorem pM_moneyFor_13 : alk tM_moneyFor 13 = some (.ldiv, 1) := (rfl)
theorem pM_moneyFor_14 : alk tM_moneyFor 14 = some (.l2i, 1) := (rfl)
theorem pM_moneyFor_15 : alk tM_moneyFor 15 = some (.aload_n 0, 1) := (rfl)
theorem pM_moneyFor_16 : alk tM_moneyFor 16 = some (.getfield 49, 3) := (rfl)
theorem pM_moneyFor_19 : alk tM_moneyFor 19 = some (.iload_n 1, 1) := (rfl)
theorem pM_moneyFor_20 : alk tM_moneyFor 20 = some (.iaload, 1) := (rfl)
theorem pM_moneyFor_21 : alk tM_moneyFor 21 = some (.aload_n 0, 1) := (rfl)
theorem pM_moneyFor_22 : alk tM_moneyFor 22 = some (.getfield 86, 3) := (rfl)
theorem pM_moneyFor_25 : alk tM_moneyFor 25 = some (.iload_n 1, 1) := (rfl)
theorem pM_moneyFor_26 : alk tM_moneyFor 26 = some (.iaload, 1) := (rfl)
theorem pM_moneyFor_27 : alk tM_moneyFor 27 = some (.imul, 1) := (rfl)
theorem pM_moneyFor_28 : alk tM_moneyFor 28 = some (.isub, 1) := (rfl)
theorem pM_moneyFor_29 : alk tM_moneyFor 29 = some (.ireturn, 1) := (rfl)
def tM_off : TB := [(0, .aload_n 0, 1), (1, .iload_n 1, 1), (2, .iload_n 2, 1), (3, .invokevirtual 329, 3), (6, .istore_n 3, 1), (7, .iload_n 3, 1), (8, .ifCond .ne 7, 3), (11, .iconst 0, 1), (12, .goto 8, 3), (15, .aload_n 0, 1), (16, .iload_n 3, 1), (17, .invokevirtual 169, 3), (20, .istore 4, 2), (22, .iload_n 3, 1), (23, .ifCond .eq 5, 3), (26, .iconst 0, 1), (27, .ireturn, 1), (28, .aload_n 0, 1), (29, .getfield 16, 3), (32, .iload_n 1, 1), (33, .iaload, 1), (34, .istore 5, 2), (36, .aload_n 0, 1), (37, .getfield 16, 3), (40, .iload_n 1, 1), (41, .iload_n 2, 1), (42, .iastore, 1), (43, .iload 5, 2), (45, .ireturn, 1)]
set_option maxRecDepth 100000 in
theorem kM_off : tbOk (mB mM_off) tM_off = true := by decide +kernel
theorem pM_off_0 : alk tM_off 0 = some (.aload_n 0, 1) := (rfl)
theorem pM_off_1 : alk tM_off 1 = some (.iload_n 1, 1) := (rfl)
theorem pM_off_2 : alk tM_off 2 = some (.iload_n 2, 1) := (rfl)
theorem pM_off_3 : alk tM_off 3 = some (.invokevirtual 329, 3) := (rfl)
theorem pM_off_6 : alk tM_off 6 = some (.istore_n 3, 1) := (rfl)
theorem pM_off_7 : alk tM_off 7 = some (.iload_n 3, 1) := (rfl)
theorem pM_off_8 : alk tM_off 8 = some (.ifCond .ne 7, 3) := (rfl)
theorem pM_off_11 : alk tM_off 11 = some (.iconst 0, 1) := (rfl)
theorem pM_off_12 : alk tM_off 12 = some (.goto 8, 3) := (rfl)
theorem pM_off_15 : alk tM_off 15 = some (.aload_n 0, 1) := (rfl)
theorem pM_off_16 : alk tM_off 16 = some (.iload_n 3, 1) := (rfl)
theorem pM_off_17 : alk tM_off 17 = some (.invokevirtual 169, 3) := (rfl)
theorem pM_off_20 : alk tM_off 20 = some (.istore 4, 2) := (rfl)
theorem pM_off_22 : alk tM_off 22 = some (.iload_n 3, 1) := (rfl)
theorem pM_off_23 : alk tM_off 23 = some (.ifCond .eq 5, 3) := (rfl)
theorem pM_off_26 : alk tM_off 26 = some (.iconst 0, 1) := (rfl)
theorem pM_off_27 : alk tM_off 27 = some (.ireturn, 1) := (rfl)
theorem pM_off_28 : alk tM_off 28 = some (.aload_n 0, 1) := (rfl)
theorem pM_off_29 : alk tM_off 29 = some (.getfield 16, 3) := (rfl)
theorem pM_off_32 : alk tM_off 32 = some (.iload_n 1, 1) := (rfl)
theorem pM_off_33 : alk tM_off 33 = some (.iaload, 1) := (rfl)
theorem pM_off_34 : alk tM_off 34 = some (.istore 5, 2) := (rfl)
theorem pM_off_36 : alk tM_off 36 = some (.aload_n 0, 1) := (rfl)
theorem pM_off_37 : alk tM_off 37 = some (.getfield 16, 3) := (rfl)
theorem pM_off_40 : alk tM_off 40 = some (.iload_n 1, 1) := (rfl)
theorem pM_off_41 : alk tM_off 41 = some (.iload_n 2, 1) := (rfl)
theorem pM_off_42 : alk tM_off 42 = some (.iastore, 1) := (rfl)
theorem pM_off_43 : alk tM_off 43 = some (.iload 5, 2) := (rfl)
theorem pM_off_45 : alk tM_off 45 = some (.ireturn, 1) := (rfl)
def tM_noScale : TB := [(0, .aload_n 0, 1), (1, .iload_n 1, 1), (2, .invokevirtual 176, 3), (5, .ifCond .ne 8, 3), (8, .bipush (-3), 2), (10, .goto 35, 3), (13, .aload_n 0, 1), (14, .getfield 13, 3), (17, .iload_n 1, 1), (18, .iaload, 1), (19, .iconst 2, 1), (20, .if_icmp .eq 8, 3), (23, .bipush (-5), 2), (25, .goto 20, 3), (28, .iload_n 2, 1), (29, .bipush (-99), 2), (31, .bipush 99, 2), (33, .invokestatic 165, 3), (36, .ifCond .ne 8, 3), (39, .bipush (-7), 2), (41, .goto 4, 3), (44, .iconst 0, 1), (45, .ireturn, 1)]
set_option maxRecDepth 100000 in
theorem kM_noScale : tbOk (mB mM_noScale) tM_noScale = true := by decide +kernel
theorem pM_noScale_0 : alk tM_noScale 0 = some (.aload_n 0, 1) := (rfl)
theorem pM_noScale_1 : alk tM_noScale 1 = some (.iload_n 1, 1) := (rfl)
theorem pM_noScale_2 : alk tM_noScale 2 = some (.invokevirtual 176, 3) := (rfl)
theorem pM_noScale_5 : alk tM_noScale 5 = some (.ifCond .ne 8, 3) := (rfl)
theorem pM_noScale_8 : alk tM_noScale 8 = some (.bipush (-3), 2) := (rfl)
theorem pM_noScale_10 : alk tM_noScale 10 = some (.goto 35, 3) := (rfl)
theorem pM_noScale_13 : alk tM_noScale 13 = some (.aload_n 0, 1) := (rfl)
theorem pM_noScale_14 : alk tM_noScale 14 = some (.getfield 13, 3) := (rfl)
theorem pM_noScale_17 : alk tM_noScale 17 = some (.iload_n 1, 1) := (rfl)
theorem pM_noScale_18 : alk tM_noScale 18 = some (.iaload, 1) := (rfl)
theorem pM_noScale_19 : alk tM_noScale 19 = some (.iconst 2, 1) := (rfl)
theorem pM_noScale_20 : alk tM_noScale 20 = some (.if_icmp .eq 8, 3) := (rfl)
theorem pM_noScale_23 : alk tM_noScale 23 = some (.bipush (-5), 2) := (rfl)
theorem pM_noScale_25 : alk tM_noScale 25 = some (.goto 20, 3) := (rfl)
theorem pM_noScale_28 : alk tM_noScale 28 = some (.iload_n 2, 1) := (rfl)
theorem pM_noScale_29 : alk tM_noScale 29 = some (.bipush (-99), 2) := (rfl)
theorem pM_noScale_31 : alk tM_noScale 31 = some (.bipush 99, 2) := (rfl)
theorem pM_noScale_33 : alk tM_noScale 33 = some (.invokestatic 165, 3) := (rfl)
theorem pM_noScale_36 : alk tM_noScale 36 = some (.ifCond .ne 8, 3) := (rfl)
theorem pM_noScale_39 : alk tM_noScale 39 = some (.bipush (-7), 2) := (rfl)
theorem pM_noScale_41 : alk tM_noScale 41 = some (.goto 4, 3) := (rfl)
theorem pM_noScale_44 : alk tM_noScale 44 = some (.iconst 0, 1) := (rfl)
theorem pM_noScale_45 : alk tM_noScale 45 = some (.ireturn, 1) := (rfl)
def tM_test : TB := [(0, .aload_n 0, 1), (1, .iload_n 1, 1), (2, .iconst 0, 1), (3, .invokevirtual 329, 3), (6, .istore_n 2, 1), (7, .iload_n 2, 1), (8, .ifCond .eq 9, 3), (11, .aload_n 0, 1), (12, .iload_n 2, 1), (13, .invokevirtual 169, 3), (16, .ireturn, 1), (17, .iconst 0, 1), (18, .istore_n 3, 1), (19, .iconst 0, 1), (20, .istore 4, 2), (22, .iload 4, 2), (24, .aload_n 0, 1), (25, .getfield 206, 3), (28, .if_icmp .ge 87, 3), (31, .aload_n 0, 1), (32, .getfield 92, 3), (35, .iload 4, 2), (37, .iaload, 1), (38, .iload_n 1, 1), (39, .if_icmp .eq 6, 3), (42, .goto 67, 3), (45, .aload_n 0, 1), (46, .getfield 92, 3), (49, .iload 4, 2), (51, .iconst (-1), 1), (52, .iastore, 1), (53, .aload_n 0, 1), (54, .getfield 16, 3), (57, .iload_n 1, 1), (58, .iaload, 1), (59, .ifCond .ne 6, 3), (62, .goto 47, 3), (65, .aload_n 0, 1), (66, .getfield 89, 3), (69, .iload 4, 2), (71, .iaload, 1), (72, .aload_n 0, 1), (73, .getfield 16, 3), (76, .iload_n 1, 1), (77, .iaload, 1), (78, .isub, 1), (79, .istore 5, 2), (81, .aload_n 0, 1), (82, .getfield 83, 3), (85, .iload 4, 2), (87, .aload_n 0, 1), (88, .iload 4, 2), (90, .iload 5, 2), (92, .iconst 1, 1), (93, .if_icmp .ge 7, 3), (96, .iconst 1, 1), (97, .goto 5, 3), (100, .iload 5, 2), (102, .invokevirtual 326, 3), (105, .iastore, 1), (106, .iinc 3 1, 3), (109, .iinc 4 1, 3), (112, .goto (-90), 3), (115, .aload_n 0, 1), (116, .getfield 16, 3), (119, .iload_n 1, 1), (120, .iconst 0, 1), (121, .iastore, 1), (122, .iload_n 3, 1), (123, .ireturn, 1)]
set_option maxRecDepth 100000 in
theorem kM_test : tbOk (mB mM_test) tM_test = true := by decide +kernel
theorem pM_test_0 : alk tM_test 0 = some (.aload_n 0, 1) := (rfl)
theorem pM_test_1 : alk tM_test 1 = some (.iload_n 1, 1) := (rfl)
theorem pM_test_2 : alk tM_test 2 = some (.iconst 0, 1) := (rfl)
theorem pM_test_3 : alk tM_test 3 = some (.invokevirtual 329, 3) := (rfl)
theorem pM_test_6 : alk tM_test 6 = some (.istore_n 2, 1) := (rfl)
theorem pM_test_7 : alk tM_test 7 = some (.iload_n 2, 1) := (rfl)
theorem pM_test_8 : alk tM_test 8 = some (.ifCond .eq 9, 3) := (rfl)
theorem pM_test_11 : alk tM_test 11 = some (.aload_n 0, 1) := (rfl)
theorem pM_test_12 : alk tM_test 12 = some (.iload_n 2, 1) := (rfl)
theorem pM_test_13 : alk tM_test 13 = some (.invokevirtual 169, 3) := (rfl)
theorem pM_test_16 : alk tM_test 16 = some (.ireturn, 1) := (rfl)
theorem pM_test_17 : alk tM_test 17 = some (.iconst 0, 1) := (rfl)
theorem pM_test_18 : alk tM_test 18 = some (.istore_n 3, 1) := (rfl)
theorem pM_test_19 : alk tM_test 19 = some (.iconst 0, 1) := (rfl)
theorem pM_test_20 : alk tM_test 20 = some (.istore 4, 2) := (rfl)
theorem pM_test_22 : alk tM_test 22 = some (.iload 4, 2) := (rfl)
theorem pM_test_24 : alk tM_test 24 = some (.aload_n 0, 1) := (rfl)
theorem pM_test_25 : alk tM_test 25 = some (.getfield 206, 3) := (rfl)
theorem pM_test_28 : alk tM_test 28 = some (.if_icmp .ge 87, 3) := (rfl)
theorem pM_test_31 : alk tM_test 31 = some (.aload_n 0, 1) := (rfl)
theorem pM_test_32 : alk tM_test 32 = some (.getfield 92, 3) := (rfl)
theorem pM_test_35 : alk tM_test 35 = some (.iload 4, 2) := (rfl)
theorem pM_test_37 : alk tM_test 37 = some (.iaload, 1) := (rfl)
theorem pM_test_38 : alk tM_test 38 = some (.iload_n 1, 1) := (rfl)
theorem pM_test_39 : alk tM_test 39 = some (.if_icmp .eq 6, 3) := (rfl)
theorem pM_test_42 : alk tM_test 42 = some (.goto 67, 3) := (rfl)
theorem pM_test_45 : alk tM_test 45 = some (.aload_n 0, 1) := (rfl)
theorem pM_test_46 : alk tM_test 46 = some (.getfield 92, 3) := (rfl)
theorem pM_test_49 : alk tM_test 49 = some (.iload 4, 2) := (rfl)
theorem pM_test_51 : alk tM_test 51 = some (.iconst (-1), 1) := (rfl)
theorem pM_test_52 : alk tM_test 52 = some (.iastore, 1) := (rfl)
theorem pM_test_53 : alk tM_test 53 = some (.aload_n 0, 1) := (rfl)
theorem pM_test_54 : alk tM_test 54 = some (.getfield 16, 3) := (rfl)
theorem pM_test_57 : alk tM_test 57 = some (.iload_n 1, 1) := (rfl)
theorem pM_test_58 : alk tM_test 58 = some (.iaload, 1) := (rfl)
theorem pM_test_59 : alk tM_test 59 = some (.ifCond .ne 6, 3) := (rfl)
theorem pM_test_62 : alk tM_test 62 = some (.goto 47, 3) := (rfl)
theorem pM_test_65 : alk tM_test 65 = some (.aload_n 0, 1) := (rfl)
theorem pM_test_66 : alk tM_test 66 = some (.getfield 89, 3) := (rfl)
theorem pM_test_69 : alk tM_test 69 = some (.iload 4, 2) := (rfl)
theorem pM_test_71 : alk tM_test 71 = some (.iaload, 1) := (rfl)
theorem pM_test_72 : alk tM_test 72 = some (.aload_n 0, 1) := (rfl)
theorem pM_test_73 : alk tM_test 73 = some (.getfield 16, 3) := (rfl)
theorem pM_test_76 : alk tM_test 76 = some (.iload_n 1, 1) := (rfl)
theorem pM_test_77 : alk tM_test 77 = some (.iaload, 1) := (rfl)
theorem pM_test_78 : alk tM_test 78 = some (.isub, 1) := (rfl)
theorem pM_test_79 : alk tM_test 79 = some (.istore 5, 2) := (rfl)
theorem pM_test_81 : alk tM_test 81 = some (.aload_n 0, 1) := (rfl)
theorem pM_test_82 : alk tM_test 82 = some (.getfield 83, 3) := (rfl)
theorem pM_test_85 : alk tM_test 85 = some (.iload 4, 2) := (rfl)
theorem pM_test_87 : alk tM_test 87 = some (.aload_n 0, 1) := (rfl)
theorem pM_test_88 : alk tM_test 88 = some (.iload 4, 2) := (rfl)
theorem pM_test_90 : alk tM_test 90 = some (.iload 5, 2) := (rfl)
theorem pM_test_92 : alk tM_test 92 = some (.iconst 1, 1) := (rfl)
theorem pM_test_93 : alk tM_test 93 = some (.if_icmp .ge 7, 3) := (rfl)
theorem pM_test_96 : alk tM_test 96 = some (.iconst 1, 1) := (rfl)
theorem pM_test_97 : alk tM_test 97 = some (.goto 5, 3) := (rfl)
theorem pM_test_100 : alk tM_test 100 = some (.iload 5, 2) := (rfl)
theorem pM_test_102 : alk tM_test 102 = some (.invokevirtual 326, 3) := (rfl)
theorem pM_test_105 : alk tM_test 105 = some (.iastore, 1) := (rfl)
theorem pM_test_106 : alk tM_test 106 = some (.iinc 3 1, 3) := (rfl)
set_option maxRecDepth 20000 in
theorem pM_test_109 : alk tM_test 109 = some (.iinc 4 1, 3) := (rfl)
set_option maxRecDepth 20000 in
theorem pM_test_112 : alk tM_test 112 = some (.goto (-90), 3) := (rfl)
set_option maxRecDepth 20000 in
theorem pM_test_115 : alk tM_test 115 = some (.aload_n 0, 1) := (rfl)
set_option maxRecDepth 20000 in
theorem pM_test_116 : alk tM_test 116 = some (.getfield 16, 3) := (rfl)
set_option maxRecDepth 20000 in
theorem pM_test_119 : alk tM_test 119 = some (.iload_n 1, 1) := (rfl)
set_option maxRecDepth 20000 in
theorem pM_test_120 : alk tM_test 120 = some (.iconst 0, 1) := (rfl)
set_option maxRecDepth 20000 in
theorem pM_test_121 : alk tM_test 121 = some (.iastore, 1) := (rfl)
set_option maxRecDepth 20000 in
theorem pM_test_122 : alk tM_test 122 = some (.iload_n 3, 1) := (rfl)
set_option maxRecDepth 20000 in
theorem pM_test_123 : alk tM_test 123 = some (.ireturn, 1) := (rfl)
def tM_account : TB := [(0, .iload_n 1, 1), (1, .iconst 0, 1), (2, .iconst 5, 1), (3, .invokestatic 165, 3), (6, .ifCond .ne 12, 3), (9, .aload_n 0, 1), (10, .bipush (-3), 2), (12, .invokevirtual 169, 3), (15, .istore_n 2, 1), (16, .lconst 0, 1), (17, .lreturn, 1), (18, .lconst 0, 1), (19, .lstore_n 2, 1), (20, .iconst 0, 1), (21, .istore 4, 2), (23, .iload 4, 2), (25, .aload_n 0, 1), (26, .getfield 206, 3), (29, .if_icmp .ge 54, 3), (32, .lload_n 2, 1), (33, .aload_n 0, 1), (34, .getfield 46, 3), (37, .iload 4, 2), (39, .iaload, 1), (40, .iload_n 1, 1), (41, .if_icmp .ne 33, 3), (44, .aload_n 0, 1), (45, .getfield 104, 3), (48, .iload 4, 2), (50, .baload, 1), (51, .ifCond .eq 23, 3), (54, .aload_n 0, 1), (55, .iload 4, 2), (57, .invokevirtual 230, 3), (60, .ifCond .ne 14, 3), (63, .aload_n 0, 1), (64, .getfield 83, 3), (67, .iload 4, 2), (69, .iaload, 1), (70, .i2l, 1), (71, .goto 4, 3), (74, .lconst 0, 1), (75, .ladd, 1), (76, .lstore_n 2, 1), (77, .iinc 4 1, 3), (80, .goto (-57), 3), (83, .lload_n 2, 1), (84, .lreturn, 1)]
set_option maxRecDepth 100000 in
theorem kM_account : tbOk (mB mM_account) tM_account = true := by decide +kernel
theorem pM_account_0 : alk tM_account 0 = some (.iload_n 1, 1) := (rfl)
theorem pM_account_1 : alk tM_account 1 = some (.iconst 0, 1) := (rfl)
theorem pM_account_2 : alk tM_account 2 = some (.iconst 5, 1) := (rfl)
theorem pM_account_3 : alk tM_account 3 = some (.invokestatic 165, 3) := (rfl)
theorem pM_account_6 : alk tM_account 6 = some (.ifCond .ne 12, 3) := (rfl)
theorem pM_account_9 : alk tM_account 9 = some (.aload_n 0, 1) := (rfl)
theorem pM_account_10 : alk tM_account 10 = some (.bipush (-3), 2) := (rfl)
theorem pM_account_12 : alk tM_account 12 = some (.invokevirtual 169, 3) := (rfl)
theorem pM_account_15 : alk tM_account 15 = some (.istore_n 2, 1) := (rfl)
theorem pM_account_16 : alk tM_account 16 = some (.lconst 0, 1) := (rfl)
theorem pM_account_17 : alk tM_account 17 = some (.lreturn, 1) := (rfl)
theorem pM_account_18 : alk tM_account 18 = some (.lconst 0, 1) := (rfl)
theorem pM_account_19 : alk tM_account 19 = some (.lstore_n 2, 1) := (rfl)
theorem pM_account_20 : alk tM_account 20 = some (.iconst 0, 1) := (rfl)
theorem pM_account_21 : alk tM_account 21 = some (.istore 4, 2) := (rfl)
theorem pM_account_23 : alk tM_account 23 = some (.iload 4, 2) := (rfl)
theorem pM_account_25 : alk tM_account 25 = some (.aload_n 0, 1) := (rfl)
theorem pM_account_26 : alk tM_account 26 = some (.getfield 206, 3) := (rfl)
theorem pM_account_29 : alk tM_account 29 = some (.if_icmp .ge 54, 3) := (rfl)
theorem pM_account_32 : alk tM_account 32 = some (.lload_n 2, 1) := (rfl)
theorem pM_account_33 : alk tM_account 33 = some (.aload_n 0, 1) := (rfl)
theorem pM_account_34 : alk tM_account 34 = some (.getfield 46, 3) := (rfl)
theorem pM_account_37 : alk tM_account 37 = some (.iload 4, 2) := (rfl)
theorem pM_account_39 : alk tM_account 39 = some (.iaload, 1) := (rfl)
theorem pM_account_40 : alk tM_account 40 = some (.iload_n 1, 1) := (rfl)
theorem pM_account_41 : alk tM_account 41 = some (.if_icmp .ne 33, 3) := (rfl)
theorem pM_account_44 : alk tM_account 44 = some (.aload_n 0, 1) := (rfl)
theorem pM_account_45 : alk tM_account 45 = some (.getfield 104, 3) := (rfl)
theorem pM_account_48 : alk tM_account 48 = some (.iload 4, 2) := (rfl)
theorem pM_account_50 : alk tM_account 50 = some (.baload, 1) := (rfl)
theorem pM_account_51 : alk tM_account 51 = some (.ifCond .eq 23, 3) := (rfl)
theorem pM_account_54 : alk tM_account 54 = some (.aload_n 0, 1) := (rfl)
theorem pM_account_55 : alk tM_account 55 = some (.iload 4, 2) := (rfl)
theorem pM_account_57 : alk tM_account 57 = some (.invokevirtual 230, 3) := (rfl)
theorem pM_account_60 : alk tM_account 60 = some (.ifCond .ne 14, 3) := (rfl)
theorem pM_account_63 : alk tM_account 63 = some (.aload_n 0, 1) := (rfl)
theorem pM_account_64 : alk tM_account 64 = some (.getfield 83, 3) := (rfl)
theorem pM_account_67 : alk tM_account 67 = some (.iload 4, 2) := (rfl)
theorem pM_account_69 : alk tM_account 69 = some (.iaload, 1) := (rfl)
theorem pM_account_70 : alk tM_account 70 = some (.i2l, 1) := (rfl)
theorem pM_account_71 : alk tM_account 71 = some (.goto 4, 3) := (rfl)
theorem pM_account_74 : alk tM_account 74 = some (.lconst 0, 1) := (rfl)
theorem pM_account_75 : alk tM_account 75 = some (.ladd, 1) := (rfl)
theorem pM_account_76 : alk tM_account 76 = some (.lstore_n 2, 1) := (rfl)
theorem pM_account_77 : alk tM_account 77 = some (.iinc 4 1, 3) := (rfl)
theorem pM_account_80 : alk tM_account 80 = some (.goto (-57), 3) := (rfl)
theorem pM_account_83 : alk tM_account 83 = some (.lload_n 2, 1) := (rfl)
theorem pM_account_84 : alk tM_account 84 = some (.lreturn, 1) := (rfl)
def tM_write : TB := [(0, .iload_n 2, 1), (1, .iconst 0, 1), (2, .iconst 5, 1), (3, .invokestatic 165, 3), (6, .ifCond .ne 10, 3), (9, .aload_n 0, 1), (10, .bipush (-3), 2), (12, .invokevirtual 169, 3), (15, .ireturn, 1), (16, .iload_n 1, 1), (17, .invokestatic 209, 3), (20, .ifCond .eq 12, 3), (23, .aload_n 0, 1), (24, .iload_n 1, 1), (25, .invokevirtual 335, 3), (28, .iconst (-1), 1), (29, .if_icmp .eq 10, 3), (32, .aload_n 0, 1), (33, .bipush (-7), 2), (35, .invokevirtual 169, 3), (38, .ireturn, 1), (39, .aload_n 0, 1), (40, .getfield 332, 3), (43, .bipush 20, 2), (45, .if_icmp .ne 10, 3), (48, .aload_n 0, 1), (49, .bipush (-8), 2), (51, .invokevirtual 169, 3), (54, .ireturn, 1), (55, .aload_n 0, 1), (56, .getfield 153, 3), (59, .aload_n 0, 1), (60, .getfield 332, 3), (63, .iload_n 1, 1), (64, .iastore, 1), (65, .aload_n 0, 1), (66, .getfield 156, 3), (69, .aload_n 0, 1), (70, .getfield 332, 3), (73, .iload_n 2, 1), (74, .iastore, 1), (75, .aload_n 0, 1), (76, .dup, 1), (77, .getfield 332, 3), (80, .iconst 1, 1), (81, .iadd, 1), (82, .putfield 332, 3), (85, .aload_n 0, 1), (86, .getfield 332, 3), (89, .ireturn, 1)]
set_option maxRecDepth 100000 in
theorem kM_write : tbOk (mB mM_write) tM_write = true := by decide +kernel
theorem pM_write_0 : alk tM_write 0 = some (.iload_n 2, 1) := (rfl)
theorem pM_write_1 : alk tM_write 1 = some (.iconst 0, 1) := (rfl)
theorem pM_write_2 : alk tM_write 2 = some (.iconst 5, 1) := (rfl)
theorem pM_write_3 : alk tM_write 3 = some (.invokestatic 165, 3) := (rfl)
theorem pM_write_6 : alk tM_write 6 = some (.ifCond .ne 10, 3) := (rfl)
theorem pM_write_9 : alk tM_write 9 = some (.aload_n 0, 1) := (rfl)
theorem pM_write_10 : alk tM_write 10 = some (.bipush (-3), 2) := (rfl)
theorem pM_write_12 : alk tM_write 12 = some (.invokevirtual 169, 3) := (rfl)
theorem pM_write_15 : alk tM_write 15 = some (.ireturn, 1) := (rfl)
theorem pM_write_16 : alk tM_write 16 = some (.iload_n 1, 1) := (rfl)
theorem pM_write_17 : alk tM_write 17 = some (.invokestatic 209, 3) := (rfl)
theorem pM_write_20 : alk tM_write 20 = some (.ifCond .eq 12, 3) := (rfl)
theorem pM_write_23 : alk tM_write 23 = some (.aload_n 0, 1) := (rfl)
theorem pM_write_24 : alk tM_write 24 = some (.iload_n 1, 1) := (rfl)
theorem pM_write_25 : alk tM_write 25 = some (.invokevirtual 335, 3) := (rfl)
theorem pM_write_28 : alk tM_write 28 = some (.iconst (-1), 1) := (rfl)
theorem pM_write_29 : alk tM_write 29 = some (.if_icmp .eq 10, 3) := (rfl)
theorem pM_write_32 : alk tM_write 32 = some (.aload_n 0, 1) := (rfl)
theorem pM_write_33 : alk tM_write 33 = some (.bipush (-7), 2) := (rfl)
theorem pM_write_35 : alk tM_write 35 = some (.invokevirtual 169, 3) := (rfl)
theorem pM_write_38 : alk tM_write 38 = some (.ireturn, 1) := (rfl)
theorem pM_write_39 : alk tM_write 39 = some (.aload_n 0, 1) := (rfl)
theorem pM_write_40 : alk tM_write 40 = some (.getfield 332, 3) := (rfl)
theorem pM_write_43 : alk tM_write 43 = some (.bipush 20, 2) := (rfl)
theorem pM_write_45 : alk tM_write 45 = some (.if_icmp .ne 10, 3) := (rfl)
theorem pM_write_48 : alk tM_write 48 = some (.aload_n 0, 1) := (rfl)
theorem pM_write_49 : alk tM_write 49 = some (.bipush (-8), 2) := (rfl)
theorem pM_write_51 : alk tM_write 51 = some (.invokevirtual 169, 3) := (rfl)
theorem pM_write_54 : alk tM_write 54 = some (.ireturn, 1) := (rfl)
theorem pM_write_55 : alk tM_write 55 = some (.aload_n 0, 1) := (rfl)
theorem pM_write_56 : alk tM_write 56 = some (.getfield 153, 3) := (rfl)
theorem pM_write_59 : alk tM_write 59 = some (.aload_n 0, 1) := (rfl)
theorem pM_write_60 : alk tM_write 60 = some (.getfield 332, 3) := (rfl)
theorem pM_write_63 : alk tM_write 63 = some (.iload_n 1, 1) := (rfl)
theorem pM_write_64 : alk tM_write 64 = some (.iastore, 1) := (rfl)
theorem pM_write_65 : alk tM_write 65 = some (.aload_n 0, 1) := (rfl)
theorem pM_write_66 : alk tM_write 66 = some (.getfield 156, 3) := (rfl)
theorem pM_write_69 : alk tM_write 69 = some (.aload_n 0, 1) := (rfl)
theorem pM_write_70 : alk tM_write 70 = some (.getfield 332, 3) := (rfl)
theorem pM_write_73 : alk tM_write 73 = some (.iload_n 2, 1) := (rfl)
theorem pM_write_74 : alk tM_write 74 = some (.iastore, 1) := (rfl)
theorem pM_write_75 : alk tM_write 75 = some (.aload_n 0, 1) := (rfl)
theorem pM_write_76 : alk tM_write 76 = some (.dup, 1) := (rfl)
theorem pM_write_77 : alk tM_write 77 = some (.getfield 332, 3) := (rfl)
theorem pM_write_80 : alk tM_write 80 = some (.iconst 1, 1) := (rfl)
theorem pM_write_81 : alk tM_write 81 = some (.iadd, 1) := (rfl)
theorem pM_write_82 : alk tM_write 82 = some (.putfield 332, 3) := (rfl)
theorem pM_write_85 : alk tM_write 85 = some (.aload_n 0, 1) := (rfl)
theorem pM_write_86 : alk tM_write 86 = some (.getfield 332, 3) := (rfl)
theorem pM_write_89 : alk tM_write 89 = some (.ireturn, 1) := (rfl)
def tM_whose : TB := [(0, .iload_n 1, 1), (1, .invokestatic 209, 3), (4, .ifCond .ne 10, 3), (7, .aload_n 0, 1), (8, .bipush (-7), 2), (10, .invokevirtual 169, 3), (13, .ireturn, 1), (14, .aload_n 0, 1), (15, .iload_n 1, 1), (16, .invokevirtual 335, 3), (19, .istore_n 2, 1), (20, .iload_n 2, 1), (21, .iconst (-1), 1), (22, .if_icmp .ne 7, 3), (25, .iconst (-1), 1), (26, .goto 9, 3), (29, .aload_n 0, 1), (30, .getfield 156, 3), (33, .iload_n 2, 1), (34, .iaload, 1), (35, .ireturn, 1)]
set_option maxRecDepth 100000 in
theorem kM_whose : tbOk (mB mM_whose) tM_whose = true := by decide +kernel
theorem pM_whose_0 : alk tM_whose 0 = some (.iload_n 1, 1) := (rfl)
theorem pM_whose_1 : alk tM_whose 1 = some (.invokestatic 209, 3) := (rfl)
theorem pM_whose_4 : alk tM_whose 4 = some (.ifCond .ne 10, 3) := (rfl)
theorem pM_whose_7 : alk tM_whose 7 = some (.aload_n 0, 1) := (rfl)
theorem pM_whose_8 : alk tM_whose 8 = some (.bipush (-7), 2) := (rfl)
theorem pM_whose_10 : alk tM_whose 10 = some (.invokevirtual 169, 3) := (rfl)
theorem pM_whose_13 : alk tM_whose 13 = some (.ireturn, 1) := (rfl)
theorem pM_whose_14 : alk tM_whose 14 = some (.aload_n 0, 1) := (rfl)
theorem pM_whose_15 : alk tM_whose 15 = some (.iload_n 1, 1) := (rfl)
theorem pM_whose_16 : alk tM_whose 16 = some (.invokevirtual 335, 3) := (rfl)
theorem pM_whose_19 : alk tM_whose 19 = some (.istore_n 2, 1) := (rfl)
theorem pM_whose_20 : alk tM_whose 20 = some (.iload_n 2, 1) := (rfl)
theorem pM_whose_21 : alk tM_whose 21 = some (.iconst (-1), 1) := (rfl)
theorem pM_whose_22 : alk tM_whose 22 = some (.if_icmp .ne 7, 3) := (rfl)
theorem pM_whose_25 : alk tM_whose 25 = some (.iconst (-1), 1) := (rfl)
theorem pM_whose_26 : alk tM_whose 26 = some (.goto 9, 3) := (rfl)
theorem pM_whose_29 : alk tM_whose 29 = some (.aload_n 0, 1) := (rfl)
theorem pM_whose_30 : alk tM_whose 30 = some (.getfield 156, 3) := (rfl)
theorem pM_whose_33 : alk tM_whose 33 = some (.iload_n 2, 1) := (rfl)
theorem pM_whose_34 : alk tM_whose 34 = some (.iaload, 1) := (rfl)
theorem pM_whose_35 : alk tM_whose 35 = some (.ireturn, 1) := (rfl)
def tM_near : TB := [(0, .iload_n 1, 1), (1, .invokestatic 209, 3), (4, .ifCond .ne 10, 3), (7, .aload_n 0, 1), (8, .bipush (-7), 2), (10, .invokevirtual 169, 3), (13, .ireturn, 1), (14, .iconst 0, 1), (15, .istore_n 2, 1), (16, .iconst 0, 1), (17, .istore_n 3, 1), (18, .iload_n 3, 1), (19, .aload_n 0, 1), (20, .getfield 332, 3), (23, .if_icmp .ge 30, 3), (26, .iload_n 2, 1), (27, .aload_n 0, 1), (28, .getfield 153, 3), (31, .iload_n 3, 1), (32, .iaload, 1), (33, .iload_n 1, 1), (34, .invokestatic 338, 3), (37, .ifCond .eq 7, 3), (40, .iconst 1, 1), (41, .goto 4, 3), (44, .iconst 0, 1), (45, .iadd, 1), (46, .istore_n 2, 1), (47, .iinc 3 1, 3), (50, .goto (-32), 3), (53, .iload_n 2, 1), (54, .ireturn, 1)]
set_option maxRecDepth 100000 in
theorem kM_near : tbOk (mB mM_near) tM_near = true := by decide +kernel
theorem pM_near_0 : alk tM_near 0 = some (.iload_n 1, 1) := (rfl)
theorem pM_near_1 : alk tM_near 1 = some (.invokestatic 209, 3) := (rfl)
theorem pM_near_4 : alk tM_near 4 = some (.ifCond .ne 10, 3) := (rfl)
theorem pM_near_7 : alk tM_near 7 = some (.aload_n 0, 1) := (rfl)
theorem pM_near_8 : alk tM_near 8 = some (.bipush (-7), 2) := (rfl)
theorem pM_near_10 : alk tM_near 10 = some (.invokevirtual 169, 3) := (rfl)
theorem pM_near_13 : alk tM_near 13 = some (.ireturn, 1) := (rfl)
theorem pM_near_14 : alk tM_near 14 = some (.iconst 0, 1) := (rfl)
theorem pM_near_15 : alk tM_near 15 = some (.istore_n 2, 1) := (rfl)
theorem pM_near_16 : alk tM_near 16 = some (.iconst 0, 1) := (rfl)
theorem pM_near_17 : alk tM_near 17 = some (.istore_n 3, 1) := (rfl)
theorem pM_near_18 : alk tM_near 18 = some (.iload_n 3, 1) := (rfl)
theorem pM_near_19 : alk tM_near 19 = some (.aload_n 0, 1) := (rfl)
theorem pM_near_20 : alk tM_near 20 = some (.getfield 332, 3) := (rfl)
theorem pM_near_23 : alk tM_near 23 = some (.if_icmp .ge 30, 3) := (rfl)
theorem pM_near_26 : alk tM_near 26 = some (.iload_n 2, 1) := (rfl)
theorem pM_near_27 : alk tM_near 27 = some (.aload_n 0, 1) := (rfl)
theorem pM_near_28 : alk tM_near 28 = some (.getfield 153, 3) := (rfl)
theorem pM_near_31 : alk tM_near 31 = some (.iload_n 3, 1) := (rfl)
theorem pM_near_32 : alk tM_near 32 = some (.iaload, 1) := (rfl)
theorem pM_near_33 : alk tM_near 33 = some (.iload_n 1, 1) := (rfl)
theorem pM_near_34 : alk tM_near 34 = some (.invokestatic 338, 3) := (rfl)
theorem pM_near_37 : alk tM_near 37 = some (.ifCond .eq 7, 3) := (rfl)
theorem pM_near_40 : alk tM_near 40 = some (.iconst 1, 1) := (rfl)
theorem pM_near_41 : alk tM_near 41 = some (.goto 4, 3) := (rfl)
theorem pM_near_44 : alk tM_near 44 = some (.iconst 0, 1) := (rfl)
theorem pM_near_45 : alk tM_near 45 = some (.iadd, 1) := (rfl)
theorem pM_near_46 : alk tM_near 46 = some (.istore_n 2, 1) := (rfl)
theorem pM_near_47 : alk tM_near 47 = some (.iinc 3 1, 3) := (rfl)
theorem pM_near_50 : alk tM_near 50 = some (.goto (-32), 3) := (rfl)
theorem pM_near_53 : alk tM_near 53 = some (.iload_n 2, 1) := (rfl)
theorem pM_near_54 : alk tM_near 54 = some (.ireturn, 1) := (rfl)
def tM_judge : TB := [(0, .aload_n 0, 1), (1, .iload_n 1, 1), (2, .invokevirtual 218, 3), (5, .ifCond .eq 12, 3), (8, .iload_n 2, 1), (9, .iconst 0, 1), (10, .iconst 5, 1), (11, .invokestatic 165, 3), (14, .ifCond .ne 10, 3), (17, .aload_n 0, 1), (18, .bipush (-3), 2), (20, .invokevirtual 169, 3), (23, .ireturn, 1), (24, .aload_n 0, 1), (25, .iload_n 1, 1), (26, .invokevirtual 230, 3), (29, .ifCond .eq 7, 3), (32, .iconst 1, 1), (33, .goto 4, 3), (36, .iconst 0, 1), (37, .istore_n 3, 1), (38, .aload_n 0, 1), (39, .getfield 46, 3), (42, .iload_n 1, 1), (43, .iload_n 2, 1), (44, .iastore, 1), (45, .aload_n 0, 1), (46, .getfield 70, 3), (49, .iload_n 1, 1), (50, .iconst 1, 1), (51, .bastore, 1), (52, .iload_n 3, 1), (53, .ireturn, 1)]
set_option maxRecDepth 100000 in
theorem kM_judge : tbOk (mB mM_judge) tM_judge = true := by decide +kernel
theorem pM_judge_0 : alk tM_judge 0 = some (.aload_n 0, 1) := (rfl)
theorem pM_judge_1 : alk tM_judge 1 = some (.iload_n 1, 1) := (rfl)
theorem pM_judge_2 : alk tM_judge 2 = some (.invokevirtual 218, 3) := (rfl)
theorem pM_judge_5 : alk tM_judge 5 = some (.ifCond .eq 12, 3) := (rfl)
theorem pM_judge_8 : alk tM_judge 8 = some (.iload_n 2, 1) := (rfl)
theorem pM_judge_9 : alk tM_judge 9 = some (.iconst 0, 1) := (rfl)
theorem pM_judge_10 : alk tM_judge 10 = some (.iconst 5, 1) := (rfl)
theorem pM_judge_11 : alk tM_judge 11 = some (.invokestatic 165, 3) := (rfl)
theorem pM_judge_14 : alk tM_judge 14 = some (.ifCond .ne 10, 3) := (rfl)
theorem pM_judge_17 : alk tM_judge 17 = some (.aload_n 0, 1) := (rfl)
theorem pM_judge_18 : alk tM_judge 18 = some (.bipush (-3), 2) := (rfl)
theorem pM_judge_20 : alk tM_judge 20 = some (.invokevirtual 169, 3) := (rfl)
theorem pM_judge_23 : alk tM_judge 23 = some (.ireturn, 1) := (rfl)
theorem pM_judge_24 : alk tM_judge 24 = some (.aload_n 0, 1) := (rfl)
theorem pM_judge_25 : alk tM_judge 25 = some (.iload_n 1, 1) := (rfl)
theorem pM_judge_26 : alk tM_judge 26 = some (.invokevirtual 230, 3) := (rfl)
theorem pM_judge_29 : alk tM_judge 29 = some (.ifCond .eq 7, 3) := (rfl)
theorem pM_judge_32 : alk tM_judge 32 = some (.iconst 1, 1) := (rfl)
theorem pM_judge_33 : alk tM_judge 33 = some (.goto 4, 3) := (rfl)
theorem pM_judge_36 : alk tM_judge 36 = some (.iconst 0, 1) := (rfl)
theorem pM_judge_37 : alk tM_judge 37 = some (.istore_n 3, 1) := (rfl)
theorem pM_judge_38 : alk tM_judge 38 = some (.aload_n 0, 1) := (rfl)
theorem pM_judge_39 : alk tM_judge 39 = some (.getfield 46, 3) := (rfl)
theorem pM_judge_42 : alk tM_judge 42 = some (.iload_n 1, 1) := (rfl)
theorem pM_judge_43 : alk tM_judge 43 = some (.iload_n 2, 1) := (rfl)
theorem pM_judge_44 : alk tM_judge 44 = some (.iastore, 1) := (rfl)
theorem pM_judge_45 : alk tM_judge 45 = some (.aload_n 0, 1) := (rfl)
theorem pM_judge_46 : alk tM_judge 46 = some (.getfield 70, 3) := (rfl)
theorem pM_judge_49 : alk tM_judge 49 = some (.iload_n 1, 1) := (rfl)
theorem pM_judge_50 : alk tM_judge 50 = some (.iconst 1, 1) := (rfl)
theorem pM_judge_51 : alk tM_judge 51 = some (.bastore, 1) := (rfl)
theorem pM_judge_52 : alk tM_judge 52 = some (.iload_n 3, 1) := (rfl)
theorem pM_judge_53 : alk tM_judge 53 = some (.ireturn, 1) := (rfl)
def tM_run : TB := [(0, .iload_n 1, 1), (1, .ifCond .ge 10, 3), (4, .aload_n 0, 1), (5, .bipush (-4), 2), (7, .invokevirtual 169, 3), (10, .ireturn, 1), (11, .iload_n 1, 1), (12, .iconst 1, 1), (13, .sipush 1000, 3), (16, .invokestatic 165, 3), (19, .ifCond .ne 10, 3), (22, .aload_n 0, 1), (23, .bipush (-7), 2), (25, .invokevirtual 169, 3), (28, .ireturn, 1), (29, .aload_n 0, 1), (30, .dup, 1), (31, .getfield 200, 3), (34, .iload_n 1, 1), (35, .iadd, 1), (36, .putfield 200, 3), (39, .iconst 0, 1), (40, .istore_n 2, 1), (41, .iconst 0, 1), (42, .istore_n 3, 1), (43, .iload_n 3, 1), (44, .aload_n 0, 1), (45, .getfield 206, 3), (48, .if_icmp .ge 64, 3), (51, .aload_n 0, 1), (52, .getfield 64, 3), (55, .iload_n 3, 1), (56, .iaload, 1), (57, .iconst (-1), 1), (58, .if_icmp .eq 48, 3), (61, .aload_n 0, 1), (62, .getfield 64, 3), (65, .iload_n 3, 1), (66, .iaload, 1), (67, .aload_n 0, 1), (68, .getfield 200, 3), (71, .if_icmp .le 6, 3), (74, .goto 32, 3), (77, .aload_n 0, 1), (78, .getfield 58, 3), (81, .iload_n 3, 1), (82, .aload_n 0, 1), (83, .getfield 61, 3), (86, .iload_n 3, 1), (87, .iaload, 1), (88, .iastore, 1), (89, .aload_n 0, 1), (90, .getfield 61, 3), (93, .iload_n 3, 1), (94, .iconst (-1), 1), (95, .iastore, 1), (96, .aload_n 0, 1), (97, .getfield 64, 3), (100, .iload_n 3, 1), (101, .iconst (-1), 1), (102, .iastore, 1), (103, .iinc 2 1, 3), (106, .iinc 3 1, 3), (109, .goto (-66), 3), (112, .aload_n 0, 1), (113, .invokevirtual 341, 3), (116, .iload_n 2, 1), (117, .ireturn, 1)]
set_option maxRecDepth 100000 in
theorem kM_run : tbOk (mB mM_run) tM_run = true := by decide +kernel
theorem pM_run_0 : alk tM_run 0 = some (.iload_n 1, 1) := (rfl)
theorem pM_run_1 : alk tM_run 1 = some (.ifCond .ge 10, 3) := (rfl)
theorem pM_run_4 : alk tM_run 4 = some (.aload_n 0, 1) := (rfl)
theorem pM_run_5 : alk tM_run 5 = some (.bipush (-4), 2) := (rfl)
theorem pM_run_7 : alk tM_run 7 = some (.invokevirtual 169, 3) := (rfl)
theorem pM_run_10 : alk tM_run 10 = some (.ireturn, 1) := (rfl)
theorem pM_run_11 : alk tM_run 11 = some (.iload_n 1, 1) := (rfl)
theorem pM_run_12 : alk tM_run 12 = some (.iconst 1, 1) := (rfl)
theorem pM_run_13 : alk tM_run 13 = some (.sipush 1000, 3) := (rfl)
theorem pM_run_16 : alk tM_run 16 = some (.invokestatic 165, 3) := (rfl)
theorem pM_run_19 : alk tM_run 19 = some (.ifCond .ne 10, 3) := (rfl)
theorem pM_run_22 : alk tM_run 22 = some (.aload_n 0, 1) := (rfl)
theorem pM_run_23 : alk tM_run 23 = some (.bipush (-7), 2) := (rfl)
theorem pM_run_25 : alk tM_run 25 = some (.invokevirtual 169, 3) := (rfl)
theorem pM_run_28 : alk tM_run 28 = some (.ireturn, 1) := (rfl)
theorem pM_run_29 : alk tM_run 29 = some (.aload_n 0, 1) := (rfl)
theorem pM_run_30 : alk tM_run 30 = some (.dup, 1) := (rfl)
theorem pM_run_31 : alk tM_run 31 = some (.getfield 200, 3) := (rfl)
theorem pM_run_34 : alk tM_run 34 = some (.iload_n 1, 1) := (rfl)
theorem pM_run_35 : alk tM_run 35 = some (.iadd, 1) := (rfl)
theorem pM_run_36 : alk tM_run 36 = some (.putfield 200, 3) := (rfl)
theorem pM_run_39 : alk tM_run 39 = some (.iconst 0, 1) := (rfl)
theorem pM_run_40 : alk tM_run 40 = some (.istore_n 2, 1) := (rfl)
theorem pM_run_41 : alk tM_run 41 = some (.iconst 0, 1) := (rfl)
theorem pM_run_42 : alk tM_run 42 = some (.istore_n 3, 1) := (rfl)
theorem pM_run_43 : alk tM_run 43 = some (.iload_n 3, 1) := (rfl)
theorem pM_run_44 : alk tM_run 44 = some (.aload_n 0, 1) := (rfl)
theorem pM_run_45 : alk tM_run 45 = some (.getfield 206, 3) := (rfl)
theorem pM_run_48 : alk tM_run 48 = some (.if_icmp .ge 64, 3) := (rfl)
theorem pM_run_51 : alk tM_run 51 = some (.aload_n 0, 1) := (rfl)
theorem pM_run_52 : alk tM_run 52 = some (.getfield 64, 3) := (rfl)
theorem pM_run_55 : alk tM_run 55 = some (.iload_n 3, 1) := (rfl)
theorem pM_run_56 : alk tM_run 56 = some (.iaload, 1) := (rfl)
theorem pM_run_57 : alk tM_run 57 = some (.iconst (-1), 1) := (rfl)
theorem pM_run_58 : alk tM_run 58 = some (.if_icmp .eq 48, 3) := (rfl)
theorem pM_run_61 : alk tM_run 61 = some (.aload_n 0, 1) := (rfl)
theorem pM_run_62 : alk tM_run 62 = some (.getfield 64, 3) := (rfl)
theorem pM_run_65 : alk tM_run 65 = some (.iload_n 3, 1) := (rfl)
theorem pM_run_66 : alk tM_run 66 = some (.iaload, 1) := (rfl)
theorem pM_run_67 : alk tM_run 67 = some (.aload_n 0, 1) := (rfl)
theorem pM_run_68 : alk tM_run 68 = some (.getfield 200, 3) := (rfl)
theorem pM_run_71 : alk tM_run 71 = some (.if_icmp .le 6, 3) := (rfl)
theorem pM_run_74 : alk tM_run 74 = some (.goto 32, 3) := (rfl)
theorem pM_run_77 : alk tM_run 77 = some (.aload_n 0, 1) := (rfl)
theorem pM_run_78 : alk tM_run 78 = some (.getfield 58, 3) := (rfl)
theorem pM_run_81 : alk tM_run 81 = some (.iload_n 3, 1) := (rfl)
theorem pM_run_82 : alk tM_run 82 = some (.aload_n 0, 1) := (rfl)
theorem pM_run_83 : alk tM_run 83 = some (.getfield 61, 3) := (rfl)
theorem pM_run_86 : alk tM_run 86 = some (.iload_n 3, 1) := (rfl)
theorem pM_run_87 : alk tM_run 87 = some (.iaload, 1) := (rfl)
theorem pM_run_88 : alk tM_run 88 = some (.iastore, 1) := (rfl)
theorem pM_run_89 : alk tM_run 89 = some (.aload_n 0, 1) := (rfl)
theorem pM_run_90 : alk tM_run 90 = some (.getfield 61, 3) := (rfl)
theorem pM_run_93 : alk tM_run 93 = some (.iload_n 3, 1) := (rfl)
theorem pM_run_94 : alk tM_run 94 = some (.iconst (-1), 1) := (rfl)
theorem pM_run_95 : alk tM_run 95 = some (.iastore, 1) := (rfl)
theorem pM_run_96 : alk tM_run 96 = some (.aload_n 0, 1) := (rfl)
theorem pM_run_97 : alk tM_run 97 = some (.getfield 64, 3) := (rfl)
theorem pM_run_100 : alk tM_run 100 = some (.iload_n 3, 1) := (rfl)
theorem pM_run_101 : alk tM_run 101 = some (.iconst (-1), 1) := (rfl)
theorem pM_run_102 : alk tM_run 102 = some (.iastore, 1) := (rfl)
set_option maxRecDepth 20000 in
theorem pM_run_103 : alk tM_run 103 = some (.iinc 2 1, 3) := (rfl)
set_option maxRecDepth 20000 in
theorem pM_run_106 : alk tM_run 106 = some (.iinc 3 1, 3) := (rfl)
set_option maxRecDepth 20000 in
theorem pM_run_109 : alk tM_run 109 = some (.goto (-66), 3) := (rfl)
set_option maxRecDepth 20000 in
theorem pM_run_112 : alk tM_run 112 = some (.aload_n 0, 1) := (rfl)
set_option maxRecDepth 20000 in
theorem pM_run_113 : alk tM_run 113 = some (.invokevirtual 341, 3) := (rfl)
set_option maxRecDepth 20000 in
theorem pM_run_116 : alk tM_run 116 = some (.iload_n 2, 1) := (rfl)
set_option maxRecDepth 20000 in
theorem pM_run_117 : alk tM_run 117 = some (.ireturn, 1) := (rfl)
def tM_forget : TB := [(0, .iconst 0, 1), (1, .istore_n 1, 1), (2, .iconst 0, 1), (3, .istore_n 2, 1), (4, .iload_n 2, 1), (5, .aload_n 0, 1), (6, .getfield 194, 3), (9, .if_icmp .ge 64, 3), (12, .aload_n 0, 1), (13, .getfield 40, 3), (16, .iload_n 2, 1), (17, .iaload, 1), (18, .aload_n 0, 1), (19, .getfield 200, 3), (22, .if_icmp .gt 6, 3), (25, .goto 42, 3), (28, .aload_n 0, 1), (29, .getfield 34, 3), (32, .iload_n 1, 1), (33, .aload_n 0, 1), (34, .getfield 34, 3), (37, .iload_n 2, 1), (38, .iaload, 1), (39, .iastore, 1), (40, .aload_n 0, 1), (41, .getfield 37, 3), (44, .iload_n 1, 1), (45, .aload_n 0, 1), (46, .getfield 37, 3), (49, .iload_n 2, 1), (50, .iaload, 1), (51, .iastore, 1), (52, .aload_n 0, 1), (53, .getfield 40, 3), (56, .iload_n 1, 1), (57, .aload_n 0, 1), (58, .getfield 40, 3), (61, .iload_n 2, 1), (62, .iaload, 1), (63, .iastore, 1), (64, .iinc 1 1, 3), (67, .iinc 2 1, 3), (70, .goto (-66), 3), (73, .aload_n 0, 1), (74, .iload_n 1, 1), (75, .putfield 194, 3), (78, .return_, 1)]
set_option maxRecDepth 100000 in
theorem kM_forget : tbOk (mB mM_forget) tM_forget = true := by decide +kernel
theorem pM_forget_0 : alk tM_forget 0 = some (.iconst 0, 1) := (rfl)
theorem pM_forget_1 : alk tM_forget 1 = some (.istore_n 1, 1) := (rfl)
theorem pM_forget_2 : alk tM_forget 2 = some (.iconst 0, 1) := (rfl)
theorem pM_forget_3 : alk tM_forget 3 = some (.istore_n 2, 1) := (rfl)
theorem pM_forget_4 : alk tM_forget 4 = some (.iload_n 2, 1) := (rfl)
theorem pM_forget_5 : alk tM_forget 5 = some (.aload_n 0, 1) := (rfl)
theorem pM_forget_6 : alk tM_forget 6 = some (.getfield 194, 3) := (rfl)
theorem pM_forget_9 : alk tM_forget 9 = some (.if_icmp .ge 64, 3) := (rfl)
theorem pM_forget_12 : alk tM_forget 12 = some (.aload_n 0, 1) := (rfl)
theorem pM_forget_13 : alk tM_forget 13 = some (.getfield 40, 3) := (rfl)
theorem pM_forget_16 : alk tM_forget 16 = some (.iload_n 2, 1) := (rfl)
theorem pM_forget_17 : alk tM_forget 17 = some (.iaload, 1) := (rfl)
theorem pM_forget_18 : alk tM_forget 18 = some (.aload_n 0, 1) := (rfl)
theorem pM_forget_19 : alk tM_forget 19 = some (.getfield 200, 3) := (rfl)
theorem pM_forget_22 : alk tM_forget 22 = some (.if_icmp .gt 6, 3) := (rfl)
theorem pM_forget_25 : alk tM_forget 25 = some (.goto 42, 3) := (rfl)
theorem pM_forget_28 : alk tM_forget 28 = some (.aload_n 0, 1) := (rfl)
theorem pM_forget_29 : alk tM_forget 29 = some (.getfield 34, 3) := (rfl)
theorem pM_forget_32 : alk tM_forget 32 = some (.iload_n 1, 1) := (rfl)
theorem pM_forget_33 : alk tM_forget 33 = some (.aload_n 0, 1) := (rfl)
theorem pM_forget_34 : alk tM_forget 34 = some (.getfield 34, 3) := (rfl)
theorem pM_forget_37 : alk tM_forget 37 = some (.iload_n 2, 1) := (rfl)
theorem pM_forget_38 : alk tM_forget 38 = some (.iaload, 1) := (rfl)
theorem pM_forget_39 : alk tM_forget 39 = some (.iastore, 1) := (rfl)
theorem pM_forget_40 : alk tM_forget 40 = some (.aload_n 0, 1) := (rfl)
theorem pM_forget_41 : alk tM_forget 41 = some (.getfield 37, 3) := (rfl)
theorem pM_forget_44 : alk tM_forget 44 = some (.iload_n 1, 1) := (rfl)
theorem pM_forget_45 : alk tM_forget 45 = some (.aload_n 0, 1) := (rfl)
theorem pM_forget_46 : alk tM_forget 46 = some (.getfield 37, 3) := (rfl)
theorem pM_forget_49 : alk tM_forget 49 = some (.iload_n 2, 1) := (rfl)
theorem pM_forget_50 : alk tM_forget 50 = some (.iaload, 1) := (rfl)
theorem pM_forget_51 : alk tM_forget 51 = some (.iastore, 1) := (rfl)
theorem pM_forget_52 : alk tM_forget 52 = some (.aload_n 0, 1) := (rfl)
theorem pM_forget_53 : alk tM_forget 53 = some (.getfield 40, 3) := (rfl)
theorem pM_forget_56 : alk tM_forget 56 = some (.iload_n 1, 1) := (rfl)
theorem pM_forget_57 : alk tM_forget 57 = some (.aload_n 0, 1) := (rfl)
theorem pM_forget_58 : alk tM_forget 58 = some (.getfield 40, 3) := (rfl)
theorem pM_forget_61 : alk tM_forget 61 = some (.iload_n 2, 1) := (rfl)
theorem pM_forget_62 : alk tM_forget 62 = some (.iaload, 1) := (rfl)
theorem pM_forget_63 : alk tM_forget 63 = some (.iastore, 1) := (rfl)
theorem pM_forget_64 : alk tM_forget 64 = some (.iinc 1 1, 3) := (rfl)
theorem pM_forget_67 : alk tM_forget 67 = some (.iinc 2 1, 3) := (rfl)
theorem pM_forget_70 : alk tM_forget 70 = some (.goto (-66), 3) := (rfl)
theorem pM_forget_73 : alk tM_forget 73 = some (.aload_n 0, 1) := (rfl)
theorem pM_forget_74 : alk tM_forget 74 = some (.iload_n 1, 1) := (rfl)
theorem pM_forget_75 : alk tM_forget 75 = some (.putfield 194, 3) := (rfl)
theorem pM_forget_78 : alk tM_forget 78 = some (.return_, 1) := (rfl)
def tM_count : TB := [(0, .iconst 0, 1), (1, .istore_n 2, 1), (2, .iload_n 1, 1), (3, .tableswitch 254 0 10 #[57, 62, 67, 72, 77, 82, 118, 152, 188, 244, 249], 57), (60, .aload_n 0, 1), (61, .getfield 200, 3), (64, .ireturn, 1), (65, .aload_n 0, 1), (66, .getfield 173, 3), (69, .ireturn, 1), (70, .aload_n 0, 1), (71, .getfield 180, 3), (74, .ireturn, 1), (75, .aload_n 0, 1), (76, .getfield 206, 3), (79, .ireturn, 1), (80, .aload_n 0, 1), (81, .getfield 288, 3), (84, .ireturn, 1), (85, .iconst 0, 1), (86, .istore_n 3, 1), (87, .iload_n 3, 1), (88, .aload_n 0, 1), (89, .getfield 206, 3), (92, .if_icmp .ge 27, 3), (95, .iload_n 2, 1), (96, .aload_n 0, 1), (97, .getfield 58, 3), (100, .iload_n 3, 1), (101, .iaload, 1), (102, .iconst (-1), 1), (103, .if_icmp .ne 7, 3), (106, .iconst 1, 1), (107, .goto 4, 3), (110, .iconst 0, 1), (111, .iadd, 1), (112, .istore_n 2, 1), (113, .iinc 3 1, 3), (116, .goto (-29), 3), (119, .iload_n 2, 1), (120, .ireturn, 1), (121, .iconst 0, 1), (122, .istore_n 3, 1), (123, .iload_n 3, 1), (124, .aload_n 0, 1), (125, .getfield 206, 3), (128, .if_icmp .ge 25, 3), (131, .iload_n 2, 1), (132, .aload_n 0, 1), (133, .iload_n 3, 1), (134, .invokevirtual 227, 3), (137, .ifCond .eq 7, 3), (140, .iconst 1, 1), (141, .goto 4, 3), (144, .iconst 0, 1), (145, .iadd, 1), (146, .istore_n 2, 1), (147, .iinc 3 1, 3), (150, .goto (-27), 3), (153, .iload_n 2, 1), (154, .ireturn, 1), (155, .iconst 0, 1), (156, .istore_n 3, 1), (157, .iload_n 3, 1), (158, .aload_n 0, 1), (159, .getfield 206, 3), (162, .if_icmp .ge 27, 3), (165, .iload_n 2, 1), (166, .aload_n 0, 1), (167, .getfield 74, 3), (170, .iload_n 3, 1), (171, .iaload, 1), (172, .iconst (-1), 1), (173, .if_icmp .eq 7, 3), (176, .iconst 1, 1), (177, .goto 4, 3), (180, .iconst 0, 1), (181, .iadd, 1), (182, .istore_n 2, 1), (183, .iinc 3 1, 3), (186, .goto (-29), 3), (189, .iload_n 2, 1), (190, .ireturn, 1), (191, .iconst 0, 1), (192, .istore_n 3, 1), (193, .iload_n 3, 1), (194, .aload_n 0, 1), (195, .getfield 206, 3), (198, .if_icmp .ge 47, 3), (201, .iload_n 2, 1), (202, .aload_n 0, 1), (203, .getfield 58, 3), (206, .iload_n 3, 1), (207, .iaload, 1), (208, .iconst (-1), 1), (209, .if_icmp .eq 27, 3), (212, .aload_n 0, 1), (213, .getfield 13, 3), (216, .aload_n 0, 1), (217, .getfield 58, 3), (220, .iload_n 3, 1), (221, .iaload, 1), (222, .iaload, 1), (223, .iconst 3, 1), (224, .if_icmp .ne 12, 3), (227, .aload_n 0, 1), (228, .getfield 49, 3), (231, .iload_n 3, 1), (232, .iaload, 1), (233, .goto 4, 3), (236, .iconst 0, 1), (237, .iadd, 1), (238, .istore_n 2, 1), (239, .iinc 3 1, 3), (242, .goto (-49), 3), (245, .iload_n 2, 1), (246, .ireturn, 1), (247, .aload_n 0, 1), (248, .getfield 250, 3), (251, .ireturn, 1), (252, .aload_n 0, 1), (253, .getfield 332, 3), (256, .ireturn, 1), (257, .aload_n 0, 1), (258, .bipush (-7), 2), (260, .invokevirtual 169, 3), (263, .ireturn, 1)]
set_option maxRecDepth 100000 in
theorem kM_count : tbOk (mB mM_count) tM_count = true := by decide +kernel
theorem pM_count_0 : alk tM_count 0 = some (.iconst 0, 1) := (rfl)
theorem pM_count_1 : alk tM_count 1 = some (.istore_n 2, 1) := (rfl)
theorem pM_count_2 : alk tM_count 2 = some (.iload_n 1, 1) := (rfl)
theorem pM_count_3 : alk tM_count 3 = some (.tableswitch 254 0 10 #[57, 62, 67, 72, 77, 82, 118, 152, 188, 244, 249], 57) := (rfl)
theorem pM_count_60 : alk tM_count 60 = some (.aload_n 0, 1) := (rfl)
theorem pM_count_61 : alk tM_count 61 = some (.getfield 200, 3) := (rfl)
theorem pM_count_64 : alk tM_count 64 = some (.ireturn, 1) := (rfl)
theorem pM_count_65 : alk tM_count 65 = some (.aload_n 0, 1) := (rfl)
theorem pM_count_66 : alk tM_count 66 = some (.getfield 173, 3) := (rfl)
theorem pM_count_69 : alk tM_count 69 = some (.ireturn, 1) := (rfl)
theorem pM_count_70 : alk tM_count 70 = some (.aload_n 0, 1) := (rfl)
theorem pM_count_71 : alk tM_count 71 = some (.getfield 180, 3) := (rfl)
theorem pM_count_74 : alk tM_count 74 = some (.ireturn, 1) := (rfl)
theorem pM_count_75 : alk tM_count 75 = some (.aload_n 0, 1) := (rfl)
theorem pM_count_76 : alk tM_count 76 = some (.getfield 206, 3) := (rfl)
theorem pM_count_79 : alk tM_count 79 = some (.ireturn, 1) := (rfl)
theorem pM_count_80 : alk tM_count 80 = some (.aload_n 0, 1) := (rfl)
theorem pM_count_81 : alk tM_count 81 = some (.getfield 288, 3) := (rfl)
theorem pM_count_84 : alk tM_count 84 = some (.ireturn, 1) := (rfl)
theorem pM_count_85 : alk tM_count 85 = some (.iconst 0, 1) := (rfl)
theorem pM_count_86 : alk tM_count 86 = some (.istore_n 3, 1) := (rfl)
theorem pM_count_87 : alk tM_count 87 = some (.iload_n 3, 1) := (rfl)
theorem pM_count_88 : alk tM_count 88 = some (.aload_n 0, 1) := (rfl)
theorem pM_count_89 : alk tM_count 89 = some (.getfield 206, 3) := (rfl)
theorem pM_count_92 : alk tM_count 92 = some (.if_icmp .ge 27, 3) := (rfl)
theorem pM_count_95 : alk tM_count 95 = some (.iload_n 2, 1) := (rfl)
theorem pM_count_96 : alk tM_count 96 = some (.aload_n 0, 1) := (rfl)
theorem pM_count_97 : alk tM_count 97 = some (.getfield 58, 3) := (rfl)
theorem pM_count_100 : alk tM_count 100 = some (.iload_n 3, 1) := (rfl)
theorem pM_count_101 : alk tM_count 101 = some (.iaload, 1) := (rfl)
theorem pM_count_102 : alk tM_count 102 = some (.iconst (-1), 1) := (rfl)
theorem pM_count_103 : alk tM_count 103 = some (.if_icmp .ne 7, 3) := (rfl)
theorem pM_count_106 : alk tM_count 106 = some (.iconst 1, 1) := (rfl)
theorem pM_count_107 : alk tM_count 107 = some (.goto 4, 3) := (rfl)
theorem pM_count_110 : alk tM_count 110 = some (.iconst 0, 1) := (rfl)
theorem pM_count_111 : alk tM_count 111 = some (.iadd, 1) := (rfl)
theorem pM_count_112 : alk tM_count 112 = some (.istore_n 2, 1) := (rfl)
theorem pM_count_113 : alk tM_count 113 = some (.iinc 3 1, 3) := (rfl)
theorem pM_count_116 : alk tM_count 116 = some (.goto (-29), 3) := (rfl)
theorem pM_count_119 : alk tM_count 119 = some (.iload_n 2, 1) := (rfl)
theorem pM_count_120 : alk tM_count 120 = some (.ireturn, 1) := (rfl)
theorem pM_count_121 : alk tM_count 121 = some (.iconst 0, 1) := (rfl)
theorem pM_count_122 : alk tM_count 122 = some (.istore_n 3, 1) := (rfl)
theorem pM_count_123 : alk tM_count 123 = some (.iload_n 3, 1) := (rfl)
theorem pM_count_124 : alk tM_count 124 = some (.aload_n 0, 1) := (rfl)
theorem pM_count_125 : alk tM_count 125 = some (.getfield 206, 3) := (rfl)
theorem pM_count_128 : alk tM_count 128 = some (.if_icmp .ge 25, 3) := (rfl)
theorem pM_count_131 : alk tM_count 131 = some (.iload_n 2, 1) := (rfl)
theorem pM_count_132 : alk tM_count 132 = some (.aload_n 0, 1) := (rfl)
theorem pM_count_133 : alk tM_count 133 = some (.iload_n 3, 1) := (rfl)
theorem pM_count_134 : alk tM_count 134 = some (.invokevirtual 227, 3) := (rfl)
theorem pM_count_137 : alk tM_count 137 = some (.ifCond .eq 7, 3) := (rfl)
theorem pM_count_140 : alk tM_count 140 = some (.iconst 1, 1) := (rfl)
theorem pM_count_141 : alk tM_count 141 = some (.goto 4, 3) := (rfl)
theorem pM_count_144 : alk tM_count 144 = some (.iconst 0, 1) := (rfl)
theorem pM_count_145 : alk tM_count 145 = some (.iadd, 1) := (rfl)
theorem pM_count_146 : alk tM_count 146 = some (.istore_n 2, 1) := (rfl)
theorem pM_count_147 : alk tM_count 147 = some (.iinc 3 1, 3) := (rfl)
theorem pM_count_150 : alk tM_count 150 = some (.goto (-27), 3) := (rfl)
theorem pM_count_153 : alk tM_count 153 = some (.iload_n 2, 1) := (rfl)
theorem pM_count_154 : alk tM_count 154 = some (.ireturn, 1) := (rfl)
set_option maxRecDepth 20000 in
theorem pM_count_155 : alk tM_count 155 = some (.iconst 0, 1) := (rfl)
set_option maxRecDepth 20000 in
theorem pM_count_156 : alk tM_count 156 = some (.istore_n 3, 1) := (rfl)
set_option maxRecDepth 20000 in
theorem pM_count_157 : alk tM_count 157 = some (.iload_n 3, 1) := (rfl)
set_option maxRecDepth 20000 in
theorem pM_count_158 : alk tM_count 158 = some (.aload_n 0, 1) := (rfl)
set_option maxRecDepth 20000 in
theorem pM_count_159 : alk tM_count 159 = some (.getfield 206, 3) := (rfl)
set_option maxRecDepth 20000 in
theorem pM_count_162 : alk tM_count 162 = some (.if_icmp .ge 27, 3) := (rfl)
set_option maxRecDepth 20000 in
theorem pM_count_165 : alk tM_count 165 = some (.iload_n 2, 1) := (rfl)
set_option maxRecDepth 20000 in
theorem pM_count_166 : alk tM_count 166 = some (.aload_n 0, 1) := (rfl)
set_option maxRecDepth 20000 in
theorem pM_count_167 : alk tM_count 167 = some (.getfield 74, 3) := (rfl)
set_option maxRecDepth 20000 in
theorem pM_count_170 : alk tM_count 170 = some (.iload_n 3, 1) := (rfl)
set_option maxRecDepth 20000 in
theorem pM_count_171 : alk tM_count 171 = some (.iaload, 1) := (rfl)
set_option maxRecDepth 20000 in
theorem pM_count_172 : alk tM_count 172 = some (.iconst (-1), 1) := (rfl)
set_option maxRecDepth 20000 in
theorem pM_count_173 : alk tM_count 173 = some (.if_icmp .eq 7, 3) := (rfl)
set_option maxRecDepth 20000 in
theorem pM_count_176 : alk tM_count 176 = some (.iconst 1, 1) := (rfl)
set_option maxRecDepth 20000 in
theorem pM_count_177 : alk tM_count 177 = some (.goto 4, 3) := (rfl)
set_option maxRecDepth 20000 in
theorem pM_count_180 : alk tM_count 180 = some (.iconst 0, 1) := (rfl)
set_option maxRecDepth 20000 in
theorem pM_count_181 : alk tM_count 181 = some (.iadd, 1) := (rfl)
set_option maxRecDepth 20000 in
theorem pM_count_182 : alk tM_count 182 = some (.istore_n 2, 1) := (rfl)
set_option maxRecDepth 20000 in
theorem pM_count_183 : alk tM_count 183 = some (.iinc 3 1, 3) := (rfl)
set_option maxRecDepth 20000 in
theorem pM_count_186 : alk tM_count 186 = some (.goto (-29), 3) := (rfl)
set_option maxRecDepth 20000 in
theorem pM_count_189 : alk tM_count 189 = some (.iload_n 2, 1) := (rfl)
set_option maxRecDepth 20000 in
theorem pM_count_190 : alk tM_count 190 = some (.ireturn, 1) := (rfl)
set_option maxRecDepth 20000 in
theorem pM_count_191 : alk tM_count 191 = some (.iconst 0, 1) := (rfl)
set_option maxRecDepth 20000 in
theorem pM_count_192 : alk tM_count 192 = some (.istore_n 3, 1) := (rfl)
set_option maxRecDepth 20000 in
theorem pM_count_193 : alk tM_count 193 = some (.iload_n 3, 1) := (rfl)
set_option maxRecDepth 20000 in
theorem pM_count_194 : alk tM_count 194 = some (.aload_n 0, 1) := (rfl)
set_option maxRecDepth 20000 in
theorem pM_count_195 : alk tM_count 195 = some (.getfield 206, 3) := (rfl)
set_option maxRecDepth 20000 in
theorem pM_count_198 : alk tM_count 198 = some (.if_icmp .ge 47, 3) := (rfl)
set_option maxRecDepth 20000 in
theorem pM_count_201 : alk tM_count 201 = some (.iload_n 2, 1) := (rfl)
set_option maxRecDepth 20000 in
theorem pM_count_202 : alk tM_count 202 = some (.aload_n 0, 1) := (rfl)
set_option maxRecDepth 20000 in
theorem pM_count_203 : alk tM_count 203 = some (.getfield 58, 3) := (rfl)
set_option maxRecDepth 20000 in
theorem pM_count_206 : alk tM_count 206 = some (.iload_n 3, 1) := (rfl)
set_option maxRecDepth 20000 in
theorem pM_count_207 : alk tM_count 207 = some (.iaload, 1) := (rfl)
set_option maxRecDepth 20000 in
theorem pM_count_208 : alk tM_count 208 = some (.iconst (-1), 1) := (rfl)
set_option maxRecDepth 20000 in
theorem pM_count_209 : alk tM_count 209 = some (.if_icmp .eq 27, 3) := (rfl)
set_option maxRecDepth 20000 in
theorem pM_count_212 : alk tM_count 212 = some (.aload_n 0, 1) := (rfl)
set_option maxRecDepth 20000 in
theorem pM_count_213 : alk tM_count 213 = some (.getfield 13, 3) := (rfl)
set_option maxRecDepth 20000 in
theorem pM_count_216 : alk tM_count 216 = some (.aload_n 0, 1) := (rfl)
set_option maxRecDepth 20000 in
theorem pM_count_217 : alk tM_count 217 = some (.getfield 58, 3) := (rfl)
set_option maxRecDepth 20000 in
theorem pM_count_220 : alk tM_count 220 = some (.iload_n 3, 1) := (rfl)
set_option maxRecDepth 20000 in
theorem pM_count_221 : alk tM_count 221 = some (.iaload, 1) := (rfl)
set_option maxRecDepth 20000 in
theorem pM_count_222 : alk tM_count 222 = some (.iaload, 1) := (rfl)
set_option maxRecDepth 20000 in
theorem pM_count_223 : alk tM_count 223 = some (.iconst 3, 1) := (rfl)
set_option maxRecDepth 20000 in
theorem pM_count_224 : alk tM_count 224 = some (.if_icmp .ne 12, 3) := (rfl)
set_option maxRecDepth 20000 in
theorem pM_count_227 : alk tM_count 227 = some (.aload_n 0, 1) := (rfl)
set_option maxRecDepth 20000 in
theorem pM_count_228 : alk tM_count 228 = some (.getfield 49, 3) := (rfl)
set_option maxRecDepth 20000 in
theorem pM_count_231 : alk tM_count 231 = some (.iload_n 3, 1) := (rfl)
set_option maxRecDepth 20000 in
theorem pM_count_232 : alk tM_count 232 = some (.iaload, 1) := (rfl)
set_option maxRecDepth 20000 in
theorem pM_count_233 : alk tM_count 233 = some (.goto 4, 3) := (rfl)
set_option maxRecDepth 20000 in
theorem pM_count_236 : alk tM_count 236 = some (.iconst 0, 1) := (rfl)
set_option maxRecDepth 20000 in
theorem pM_count_237 : alk tM_count 237 = some (.iadd, 1) := (rfl)
set_option maxRecDepth 20000 in
theorem pM_count_238 : alk tM_count 238 = some (.istore_n 2, 1) := (rfl)
set_option maxRecDepth 20000 in
theorem pM_count_239 : alk tM_count 239 = some (.iinc 3 1, 3) := (rfl)
set_option maxRecDepth 20000 in
theorem pM_count_242 : alk tM_count 242 = some (.goto (-49), 3) := (rfl)
set_option maxRecDepth 20000 in
theorem pM_count_245 : alk tM_count 245 = some (.iload_n 2, 1) := (rfl)
set_option maxRecDepth 20000 in
theorem pM_count_246 : alk tM_count 246 = some (.ireturn, 1) := (rfl)
set_option maxRecDepth 20000 in
theorem pM_count_247 : alk tM_count 247 = some (.aload_n 0, 1) := (rfl)
set_option maxRecDepth 20000 in
theorem pM_count_248 : alk tM_count 248 = some (.getfield 250, 3) := (rfl)
set_option maxRecDepth 20000 in
theorem pM_count_251 : alk tM_count 251 = some (.ireturn, 1) := (rfl)
set_option maxRecDepth 20000 in
theorem pM_count_252 : alk tM_count 252 = some (.aload_n 0, 1) := (rfl)
set_option maxRecDepth 20000 in
theorem pM_count_253 : alk tM_count 253 = some (.getfield 332, 3) := (rfl)
set_option maxRecDepth 20000 in
theorem pM_count_256 : alk tM_count 256 = some (.ireturn, 1) := (rfl)
set_option maxRecDepth 20000 in
theorem pM_count_257 : alk tM_count 257 = some (.aload_n 0, 1) := (rfl)
set_option maxRecDepth 20000 in
theorem pM_count_258 : alk tM_count 258 = some (.bipush (-7), 2) := (rfl)
set_option maxRecDepth 20000 in
theorem pM_count_260 : alk tM_count 260 = some (.invokevirtual 169, 3) := (rfl)
set_option maxRecDepth 20000 in
theorem pM_count_263 : alk tM_count 263 = some (.ireturn, 1) := (rfl)
def tM_lay : TB := [(0, .aload_n 0, 1), (1, .iconst 1, 1), (2, .putfield 344, 3), (5, .aload_n 0, 1), (6, .aload_n 0, 1), (7, .getfield 173, 3), (10, .putfield 347, 3), (13, .iconst 0, 1), (14, .istore_n 1, 1), (15, .iload_n 1, 1), (16, .aload_n 0, 1), (17, .getfield 173, 3), (20, .if_icmp .ge 61, 3), (23, .aload_n 0, 1), (24, .getfield 159, 3), (27, .iload_n 1, 1), (28, .iconst 0, 1), (29, .iastore, 1), (30, .iconst 0, 1), (31, .istore_n 2, 1), (32, .iload_n 2, 1), (33, .aload_n 0, 1), (34, .getfield 206, 3), (37, .if_icmp .ge 38, 3), (40, .aload_n 0, 1), (41, .getfield 159, 3), (44, .iload_n 1, 1), (45, .dup2, 1), (46, .iaload, 1), (47, .aload_n 0, 1), (48, .getfield 58, 3), (51, .iload_n 2, 1), (52, .iaload, 1), (53, .iload_n 1, 1), (54, .if_icmp .ne 12, 3), (57, .aload_n 0, 1), (58, .getfield 49, 3), (61, .iload_n 2, 1), (62, .iaload, 1), (63, .goto 4, 3), (66, .iconst 0, 1), (67, .iadd, 1), (68, .iastore, 1), (69, .iinc 2 1, 3), (72, .goto (-40), 3), (75, .iinc 1 1, 3), (78, .goto (-63), 3), (81, .aload_n 0, 1), (82, .getfield 173, 3), (85, .ireturn, 1)]
set_option maxRecDepth 100000 in
theorem kM_lay : tbOk (mB mM_lay) tM_lay = true := by decide +kernel
theorem pM_lay_0 : alk tM_lay 0 = some (.aload_n 0, 1) := (rfl)
theorem pM_lay_1 : alk tM_lay 1 = some (.iconst 1, 1) := (rfl)
theorem pM_lay_2 : alk tM_lay 2 = some (.putfield 344, 3) := (rfl)
theorem pM_lay_5 : alk tM_lay 5 = some (.aload_n 0, 1) := (rfl)
theorem pM_lay_6 : alk tM_lay 6 = some (.aload_n 0, 1) := (rfl)
theorem pM_lay_7 : alk tM_lay 7 = some (.getfield 173, 3) := (rfl)
theorem pM_lay_10 : alk tM_lay 10 = some (.putfield 347, 3) := (rfl)
theorem pM_lay_13 : alk tM_lay 13 = some (.iconst 0, 1) := (rfl)
theorem pM_lay_14 : alk tM_lay 14 = some (.istore_n 1, 1) := (rfl)
theorem pM_lay_15 : alk tM_lay 15 = some (.iload_n 1, 1) := (rfl)
theorem pM_lay_16 : alk tM_lay 16 = some (.aload_n 0, 1) := (rfl)
theorem pM_lay_17 : alk tM_lay 17 = some (.getfield 173, 3) := (rfl)
theorem pM_lay_20 : alk tM_lay 20 = some (.if_icmp .ge 61, 3) := (rfl)
theorem pM_lay_23 : alk tM_lay 23 = some (.aload_n 0, 1) := (rfl)
theorem pM_lay_24 : alk tM_lay 24 = some (.getfield 159, 3) := (rfl)
theorem pM_lay_27 : alk tM_lay 27 = some (.iload_n 1, 1) := (rfl)
theorem pM_lay_28 : alk tM_lay 28 = some (.iconst 0, 1) := (rfl)
theorem pM_lay_29 : alk tM_lay 29 = some (.iastore, 1) := (rfl)
theorem pM_lay_30 : alk tM_lay 30 = some (.iconst 0, 1) := (rfl)
theorem pM_lay_31 : alk tM_lay 31 = some (.istore_n 2, 1) := (rfl)
theorem pM_lay_32 : alk tM_lay 32 = some (.iload_n 2, 1) := (rfl)
theorem pM_lay_33 : alk tM_lay 33 = some (.aload_n 0, 1) := (rfl)
theorem pM_lay_34 : alk tM_lay 34 = some (.getfield 206, 3) := (rfl)
theorem pM_lay_37 : alk tM_lay 37 = some (.if_icmp .ge 38, 3) := (rfl)
theorem pM_lay_40 : alk tM_lay 40 = some (.aload_n 0, 1) := (rfl)
theorem pM_lay_41 : alk tM_lay 41 = some (.getfield 159, 3) := (rfl)
theorem pM_lay_44 : alk tM_lay 44 = some (.iload_n 1, 1) := (rfl)
theorem pM_lay_45 : alk tM_lay 45 = some (.dup2, 1) := (rfl)
theorem pM_lay_46 : alk tM_lay 46 = some (.iaload, 1) := (rfl)
theorem pM_lay_47 : alk tM_lay 47 = some (.aload_n 0, 1) := (rfl)
theorem pM_lay_48 : alk tM_lay 48 = some (.getfield 58, 3) := (rfl)
theorem pM_lay_51 : alk tM_lay 51 = some (.iload_n 2, 1) := (rfl)
theorem pM_lay_52 : alk tM_lay 52 = some (.iaload, 1) := (rfl)
theorem pM_lay_53 : alk tM_lay 53 = some (.iload_n 1, 1) := (rfl)
theorem pM_lay_54 : alk tM_lay 54 = some (.if_icmp .ne 12, 3) := (rfl)
theorem pM_lay_57 : alk tM_lay 57 = some (.aload_n 0, 1) := (rfl)
theorem pM_lay_58 : alk tM_lay 58 = some (.getfield 49, 3) := (rfl)
theorem pM_lay_61 : alk tM_lay 61 = some (.iload_n 2, 1) := (rfl)
theorem pM_lay_62 : alk tM_lay 62 = some (.iaload, 1) := (rfl)
theorem pM_lay_63 : alk tM_lay 63 = some (.goto 4, 3) := (rfl)
theorem pM_lay_66 : alk tM_lay 66 = some (.iconst 0, 1) := (rfl)
theorem pM_lay_67 : alk tM_lay 67 = some (.iadd, 1) := (rfl)
theorem pM_lay_68 : alk tM_lay 68 = some (.iastore, 1) := (rfl)
theorem pM_lay_69 : alk tM_lay 69 = some (.iinc 2 1, 3) := (rfl)
theorem pM_lay_72 : alk tM_lay 72 = some (.goto (-40), 3) := (rfl)
theorem pM_lay_75 : alk tM_lay 75 = some (.iinc 1 1, 3) := (rfl)
theorem pM_lay_78 : alk tM_lay 78 = some (.goto (-63), 3) := (rfl)
theorem pM_lay_81 : alk tM_lay 81 = some (.aload_n 0, 1) := (rfl)
theorem pM_lay_82 : alk tM_lay 82 = some (.getfield 173, 3) := (rfl)
theorem pM_lay_85 : alk tM_lay 85 = some (.ireturn, 1) := (rfl)
def tM_tear : TB := [(0, .aload_n 0, 1), (1, .getfield 344, 3), (4, .ifCond .eq 7, 3), (7, .iconst 1, 1), (8, .goto 4, 3), (11, .iconst 0, 1), (12, .istore_n 1, 1), (13, .aload_n 0, 1), (14, .iconst 0, 1), (15, .putfield 344, 3), (18, .iload_n 1, 1), (19, .ireturn, 1)]
set_option maxRecDepth 100000 in
theorem kM_tear : tbOk (mB mM_tear) tM_tear = true := by decide +kernel
theorem pM_tear_0 : alk tM_tear 0 = some (.aload_n 0, 1) := (rfl)
theorem pM_tear_1 : alk tM_tear 1 = some (.getfield 344, 3) := (rfl)
theorem pM_tear_4 : alk tM_tear 4 = some (.ifCond .eq 7, 3) := (rfl)
theorem pM_tear_7 : alk tM_tear 7 = some (.iconst 1, 1) := (rfl)
theorem pM_tear_8 : alk tM_tear 8 = some (.goto 4, 3) := (rfl)
theorem pM_tear_11 : alk tM_tear 11 = some (.iconst 0, 1) := (rfl)
theorem pM_tear_12 : alk tM_tear 12 = some (.istore_n 1, 1) := (rfl)
theorem pM_tear_13 : alk tM_tear 13 = some (.aload_n 0, 1) := (rfl)
theorem pM_tear_14 : alk tM_tear 14 = some (.iconst 0, 1) := (rfl)
theorem pM_tear_15 : alk tM_tear 15 = some (.putfield 344, 3) := (rfl)
theorem pM_tear_18 : alk tM_tear 18 = some (.iload_n 1, 1) := (rfl)
theorem pM_tear_19 : alk tM_tear 19 = some (.ireturn, 1) := (rfl)
def tM_row : TB := [(0, .aload_n 0, 1), (1, .getfield 344, 3), (4, .ifCond .ne 10, 3), (7, .aload_n 0, 1), (8, .bipush (-2), 2), (10, .invokevirtual 169, 3), (13, .ireturn, 1), (14, .iload_n 1, 1), (15, .iconst 0, 1), (16, .aload_n 0, 1), (17, .getfield 347, 3), (20, .iconst 1, 1), (21, .isub, 1), (22, .invokestatic 165, 3), (25, .ifCond .eq 12, 3), (28, .aload_n 0, 1), (29, .getfield 159, 3), (32, .iload_n 1, 1), (33, .iaload, 1), (34, .goto 9, 3), (37, .aload_n 0, 1), (38, .bipush (-3), 2), (40, .invokevirtual 169, 3), (43, .ireturn, 1)]
set_option maxRecDepth 100000 in
theorem kM_row : tbOk (mB mM_row) tM_row = true := by decide +kernel
theorem pM_row_0 : alk tM_row 0 = some (.aload_n 0, 1) := (rfl)
theorem pM_row_1 : alk tM_row 1 = some (.getfield 344, 3) := (rfl)
theorem pM_row_4 : alk tM_row 4 = some (.ifCond .ne 10, 3) := (rfl)
theorem pM_row_7 : alk tM_row 7 = some (.aload_n 0, 1) := (rfl)
theorem pM_row_8 : alk tM_row 8 = some (.bipush (-2), 2) := (rfl)
theorem pM_row_10 : alk tM_row 10 = some (.invokevirtual 169, 3) := (rfl)
theorem pM_row_13 : alk tM_row 13 = some (.ireturn, 1) := (rfl)
theorem pM_row_14 : alk tM_row 14 = some (.iload_n 1, 1) := (rfl)
theorem pM_row_15 : alk tM_row 15 = some (.iconst 0, 1) := (rfl)
theorem pM_row_16 : alk tM_row 16 = some (.aload_n 0, 1) := (rfl)
theorem pM_row_17 : alk tM_row 17 = some (.getfield 347, 3) := (rfl)
theorem pM_row_20 : alk tM_row 20 = some (.iconst 1, 1) := (rfl)
theorem pM_row_21 : alk tM_row 21 = some (.isub, 1) := (rfl)
theorem pM_row_22 : alk tM_row 22 = some (.invokestatic 165, 3) := (rfl)
theorem pM_row_25 : alk tM_row 25 = some (.ifCond .eq 12, 3) := (rfl)
theorem pM_row_28 : alk tM_row 28 = some (.aload_n 0, 1) := (rfl)
theorem pM_row_29 : alk tM_row 29 = some (.getfield 159, 3) := (rfl)
theorem pM_row_32 : alk tM_row 32 = some (.iload_n 1, 1) := (rfl)
theorem pM_row_33 : alk tM_row 33 = some (.iaload, 1) := (rfl)
theorem pM_row_34 : alk tM_row 34 = some (.goto 9, 3) := (rfl)
theorem pM_row_37 : alk tM_row 37 = some (.aload_n 0, 1) := (rfl)
theorem pM_row_38 : alk tM_row 38 = some (.bipush (-3), 2) := (rfl)
theorem pM_row_40 : alk tM_row 40 = some (.invokevirtual 169, 3) := (rfl)
theorem pM_row_43 : alk tM_row 43 = some (.ireturn, 1) := (rfl)
def tM_copy : TB := [(0, .aload_n 0, 1), (1, .getfield 344, 3), (4, .ifCond .ne 10, 3), (7, .aload_n 0, 1), (8, .bipush (-2), 2), (10, .invokevirtual 169, 3), (13, .ireturn, 1), (14, .iload_n 3, 1), (15, .ifCond .ge 10, 3), (18, .aload_n 0, 1), (19, .bipush (-4), 2), (21, .invokevirtual 169, 3), (24, .ireturn, 1), (25, .iload_n 1, 1), (26, .ifCond .lt 27, 3), (29, .iload_n 2, 1), (30, .ifCond .lt 23, 3), (33, .iload_n 1, 1), (34, .aload_n 0, 1), (35, .getfield 347, 3), (38, .iload_n 3, 1), (39, .isub, 1), (40, .if_icmp .gt 13, 3), (43, .iload_n 2, 1), (44, .aload_n 0, 1), (45, .getfield 347, 3), (48, .iload_n 3, 1), (49, .isub, 1), (50, .if_icmp .le 10, 3), (53, .aload_n 0, 1), (54, .bipush (-6), 2), (56, .invokevirtual 169, 3), (59, .ireturn, 1), (60, .iconst 0, 1), (61, .istore 4, 2), (63, .iload 4, 2), (65, .iload_n 3, 1), (66, .if_icmp .ge 32, 3), (69, .iload_n 1, 1), (70, .iload_n 2, 1), (71, .if_icmp .lt 27, 3), (74, .aload_n 0, 1), (75, .getfield 159, 3), (78, .iload_n 2, 1), (79, .iload 4, 2), (81, .iadd, 1), (82, .aload_n 0, 1), (83, .getfield 159, 3), (86, .iload_n 1, 1), (87, .iload 4, 2), (89, .iadd, 1), (90, .iaload, 1), (91, .iastore, 1), (92, .iinc 4 1, 3), (95, .goto (-32), 3), (98, .iload_n 3, 1), (99, .iconst 1, 1), (100, .isub, 1), (101, .istore 4, 2), (103, .iload 4, 2), (105, .ifCond .lt 32, 3), (108, .iload_n 1, 1), (109, .iload_n 2, 1), (110, .if_icmp .ge 27, 3), (113, .aload_n 0, 1), (114, .getfield 159, 3), (117, .iload_n 2, 1), (118, .iload 4, 2), (120, .iadd, 1), (121, .aload_n 0, 1), (122, .getfield 159, 3), (125, .iload_n 1, 1), (126, .iload 4, 2), (128, .iadd, 1), (129, .iaload, 1), (130, .iastore, 1), (131, .iinc 4 (-1), 3), (134, .goto (-31), 3), (137, .iload_n 3, 1), (138, .ireturn, 1)]
set_option maxRecDepth 100000 in
theorem kM_copy : tbOk (mB mM_copy) tM_copy = true := by decide +kernel
theorem pM_copy_0 : alk tM_copy 0 = some (.aload_n 0, 1) := (rfl)
theorem pM_copy_1 : alk tM_copy 1 = some (.getfield 344, 3) := (rfl)
theorem pM_copy_4 : alk tM_copy 4 = some (.ifCond .ne 10, 3) := (rfl)
theorem pM_copy_7 : alk tM_copy 7 = some (.aload_n 0, 1) := (rfl)
theorem pM_copy_8 : alk tM_copy 8 = some (.bipush (-2), 2) := (rfl)
theorem pM_copy_10 : alk tM_copy 10 = some (.invokevirtual 169, 3) := (rfl)
theorem pM_copy_13 : alk tM_copy 13 = some (.ireturn, 1) := (rfl)
theorem pM_copy_14 : alk tM_copy 14 = some (.iload_n 3, 1) := (rfl)
theorem pM_copy_15 : alk tM_copy 15 = some (.ifCond .ge 10, 3) := (rfl)
theorem pM_copy_18 : alk tM_copy 18 = some (.aload_n 0, 1) := (rfl)
theorem pM_copy_19 : alk tM_copy 19 = some (.bipush (-4), 2) := (rfl)
theorem pM_copy_21 : alk tM_copy 21 = some (.invokevirtual 169, 3) := (rfl)
theorem pM_copy_24 : alk tM_copy 24 = some (.ireturn, 1) := (rfl)
theorem pM_copy_25 : alk tM_copy 25 = some (.iload_n 1, 1) := (rfl)
theorem pM_copy_26 : alk tM_copy 26 = some (.ifCond .lt 27, 3) := (rfl)
theorem pM_copy_29 : alk tM_copy 29 = some (.iload_n 2, 1) := (rfl)
theorem pM_copy_30 : alk tM_copy 30 = some (.ifCond .lt 23, 3) := (rfl)
theorem pM_copy_33 : alk tM_copy 33 = some (.iload_n 1, 1) := (rfl)
theorem pM_copy_34 : alk tM_copy 34 = some (.aload_n 0, 1) := (rfl)
theorem pM_copy_35 : alk tM_copy 35 = some (.getfield 347, 3) := (rfl)
theorem pM_copy_38 : alk tM_copy 38 = some (.iload_n 3, 1) := (rfl)
theorem pM_copy_39 : alk tM_copy 39 = some (.isub, 1) := (rfl)
theorem pM_copy_40 : alk tM_copy 40 = some (.if_icmp .gt 13, 3) := (rfl)
theorem pM_copy_43 : alk tM_copy 43 = some (.iload_n 2, 1) := (rfl)
theorem pM_copy_44 : alk tM_copy 44 = some (.aload_n 0, 1) := (rfl)
theorem pM_copy_45 : alk tM_copy 45 = some (.getfield 347, 3) := (rfl)
theorem pM_copy_48 : alk tM_copy 48 = some (.iload_n 3, 1) := (rfl)
theorem pM_copy_49 : alk tM_copy 49 = some (.isub, 1) := (rfl)
theorem pM_copy_50 : alk tM_copy 50 = some (.if_icmp .le 10, 3) := (rfl)
theorem pM_copy_53 : alk tM_copy 53 = some (.aload_n 0, 1) := (rfl)
theorem pM_copy_54 : alk tM_copy 54 = some (.bipush (-6), 2) := (rfl)
theorem pM_copy_56 : alk tM_copy 56 = some (.invokevirtual 169, 3) := (rfl)
theorem pM_copy_59 : alk tM_copy 59 = some (.ireturn, 1) := (rfl)
theorem pM_copy_60 : alk tM_copy 60 = some (.iconst 0, 1) := (rfl)
theorem pM_copy_61 : alk tM_copy 61 = some (.istore 4, 2) := (rfl)
theorem pM_copy_63 : alk tM_copy 63 = some (.iload 4, 2) := (rfl)
theorem pM_copy_65 : alk tM_copy 65 = some (.iload_n 3, 1) := (rfl)
theorem pM_copy_66 : alk tM_copy 66 = some (.if_icmp .ge 32, 3) := (rfl)
theorem pM_copy_69 : alk tM_copy 69 = some (.iload_n 1, 1) := (rfl)
theorem pM_copy_70 : alk tM_copy 70 = some (.iload_n 2, 1) := (rfl)
theorem pM_copy_71 : alk tM_copy 71 = some (.if_icmp .lt 27, 3) := (rfl)
theorem pM_copy_74 : alk tM_copy 74 = some (.aload_n 0, 1) := (rfl)
theorem pM_copy_75 : alk tM_copy 75 = some (.getfield 159, 3) := (rfl)
theorem pM_copy_78 : alk tM_copy 78 = some (.iload_n 2, 1) := (rfl)
theorem pM_copy_79 : alk tM_copy 79 = some (.iload 4, 2) := (rfl)
theorem pM_copy_81 : alk tM_copy 81 = some (.iadd, 1) := (rfl)
theorem pM_copy_82 : alk tM_copy 82 = some (.aload_n 0, 1) := (rfl)
theorem pM_copy_83 : alk tM_copy 83 = some (.getfield 159, 3) := (rfl)
theorem pM_copy_86 : alk tM_copy 86 = some (.iload_n 1, 1) := (rfl)
theorem pM_copy_87 : alk tM_copy 87 = some (.iload 4, 2) := (rfl)
theorem pM_copy_89 : alk tM_copy 89 = some (.iadd, 1) := (rfl)
theorem pM_copy_90 : alk tM_copy 90 = some (.iaload, 1) := (rfl)
theorem pM_copy_91 : alk tM_copy 91 = some (.iastore, 1) := (rfl)
theorem pM_copy_92 : alk tM_copy 92 = some (.iinc 4 1, 3) := (rfl)
theorem pM_copy_95 : alk tM_copy 95 = some (.goto (-32), 3) := (rfl)
theorem pM_copy_98 : alk tM_copy 98 = some (.iload_n 3, 1) := (rfl)
theorem pM_copy_99 : alk tM_copy 99 = some (.iconst 1, 1) := (rfl)
theorem pM_copy_100 : alk tM_copy 100 = some (.isub, 1) := (rfl)
theorem pM_copy_101 : alk tM_copy 101 = some (.istore 4, 2) := (rfl)
theorem pM_copy_103 : alk tM_copy 103 = some (.iload 4, 2) := (rfl)
theorem pM_copy_105 : alk tM_copy 105 = some (.ifCond .lt 32, 3) := (rfl)
set_option maxRecDepth 20000 in
theorem pM_copy_108 : alk tM_copy 108 = some (.iload_n 1, 1) := (rfl)
set_option maxRecDepth 20000 in
theorem pM_copy_109 : alk tM_copy 109 = some (.iload_n 2, 1) := (rfl)
set_option maxRecDepth 20000 in
theorem pM_copy_110 : alk tM_copy 110 = some (.if_icmp .ge 27, 3) := (rfl)
set_option maxRecDepth 20000 in
theorem pM_copy_113 : alk tM_copy 113 = some (.aload_n 0, 1) := (rfl)
set_option maxRecDepth 20000 in
theorem pM_copy_114 : alk tM_copy 114 = some (.getfield 159, 3) := (rfl)
set_option maxRecDepth 20000 in
theorem pM_copy_117 : alk tM_copy 117 = some (.iload_n 2, 1) := (rfl)
set_option maxRecDepth 20000 in
theorem pM_copy_118 : alk tM_copy 118 = some (.iload 4, 2) := (rfl)
set_option maxRecDepth 20000 in
theorem pM_copy_120 : alk tM_copy 120 = some (.iadd, 1) := (rfl)
set_option maxRecDepth 20000 in
theorem pM_copy_121 : alk tM_copy 121 = some (.aload_n 0, 1) := (rfl)
set_option maxRecDepth 20000 in
theorem pM_copy_122 : alk tM_copy 122 = some (.getfield 159, 3) := (rfl)
set_option maxRecDepth 20000 in
theorem pM_copy_125 : alk tM_copy 125 = some (.iload_n 1, 1) := (rfl)
set_option maxRecDepth 20000 in
theorem pM_copy_126 : alk tM_copy 126 = some (.iload 4, 2) := (rfl)
set_option maxRecDepth 20000 in
theorem pM_copy_128 : alk tM_copy 128 = some (.iadd, 1) := (rfl)
set_option maxRecDepth 20000 in
theorem pM_copy_129 : alk tM_copy 129 = some (.iaload, 1) := (rfl)
set_option maxRecDepth 20000 in
theorem pM_copy_130 : alk tM_copy 130 = some (.iastore, 1) := (rfl)
set_option maxRecDepth 20000 in
theorem pM_copy_131 : alk tM_copy 131 = some (.iinc 4 (-1), 3) := (rfl)
set_option maxRecDepth 20000 in
theorem pM_copy_134 : alk tM_copy 134 = some (.goto (-31), 3) := (rfl)
set_option maxRecDepth 20000 in
theorem pM_copy_137 : alk tM_copy 137 = some (.iload_n 3, 1) := (rfl)
set_option maxRecDepth 20000 in
theorem pM_copy_138 : alk tM_copy 138 = some (.ireturn, 1) := (rfl)
