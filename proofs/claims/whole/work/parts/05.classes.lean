/-! the classes in the tables -/
theorem gT_at {i : Nat} {w : Cond} (h : lw_tbl[i]? = some w) (hg : goodWord w = true) : w ∈ goodT := List.mem_filter.mpr ⟨List.mem_of_getElem? h, hg⟩
theorem gT_in (ws : List Cond) (ps : List Nat) (hp : ws = ps.filterMap (fun i => lw_tbl[i]?)) (hg : ws.all goodWord = true) : ∀ w ∈ ws, w ∈ goodT := by
  intro w hw
  have h1 := List.all_eq_true.mp hg w hw
  rw [hp] at hw
  obtain ⟨i, -, hi⟩ := List.mem_filterMap.mp hw
  exact gT_at hi h1
set_option maxRecDepth 100000 in
theorem clsIn_0 : ∀ w ∈ u_ws RX11 TX11 10, w ∈ goodT := gT_in _ [314, 316, 318, 320, 322, 324, 326, 328, 330, 332] (by decide +kernel) (by decide +kernel)
set_option maxRecDepth 100000 in
theorem clsIn_1 : ∀ w ∈ u_ws RX10 TX10 5, w ∈ goodT := gT_in _ [143, 145, 147, 149, 151] (by decide +kernel) (by decide +kernel)
set_option maxRecDepth 100000 in
theorem clsIn_2 : ∀ w ∈ u_ws RJx4a65c TJx4a65c 3, w ∈ goodT := gT_in _ [131, 127, 129] (by decide +kernel) (by decide +kernel)
set_option maxRecDepth 100000 in
theorem clsIn_3 : ∀ w ∈ u_ws RX8 TX8 3, w ∈ goodT := gT_in _ [168, 170, 172] (by decide +kernel) (by decide +kernel)
set_option maxRecDepth 100000 in
theorem clsIn_4 : ∀ w ∈ u_ws RX6 TX6 1, w ∈ goodT := gT_in _ [185] (by decide +kernel) (by decide +kernel)
set_option maxRecDepth 100000 in
theorem clsIn_5 : ∀ w ∈ u_ws RX2 TX2 3, w ∈ goodT := gT_in _ [198, 200, 202] (by decide +kernel) (by decide +kernel)
set_option maxRecDepth 100000 in
theorem clsIn_6 : ∀ w ∈ u_ws RX3 TX3 15, w ∈ goodT := gT_in _ [253, 255, 257, 259, 261, 263, 265, 267, 269, 271, 273, 275, 277, 279, 281] (by decide +kernel) (by decide +kernel)
set_option maxRecDepth 100000 in
theorem clsIn_7 : ∀ w ∈ u_ws RX4 TX4 3, w ∈ goodT := gT_in _ [295, 297, 299] (by decide +kernel) (by decide +kernel)
set_option maxRecDepth 100000 in
theorem clsIn_8 : ∀ w ∈ u_ws RX9 TX9 4, w ∈ goodT := gT_in _ [227, 229, 231, 233] (by decide +kernel) (by decide +kernel)
set_option maxRecDepth 100000 in
theorem clsIn_9 : ∀ w ∈ u_ws RX0 TX0 5, w ∈ goodT := gT_in _ [379, 381, 383, 385, 387] (by decide +kernel) (by decide +kernel)
set_option maxRecDepth 100000 in
theorem clsIn_10 : ∀ w ∈ u_ws RX1 TX1 11, w ∈ goodT := gT_in _ [608, 610, 612, 614, 616, 618, 620, 622, 624, 626, 628] (by decide +kernel) (by decide +kernel)
set_option maxRecDepth 100000 in
theorem clsIn_11 : ∀ w ∈ u_ws RX7 TX7 11, w ∈ goodT := gT_in _ [560, 562, 564, 566, 568, 570, 572, 574, 576, 578, 580] (by decide +kernel) (by decide +kernel)
set_option maxRecDepth 100000 in
theorem clsIn_12 : ∀ w ∈ u_ws RX5 TX5 9, w ∈ goodT := gT_in _ [871, 873, 875, 877, 879, 881, 883, 885, 887] (by decide +kernel) (by decide +kernel)
set_option maxRecDepth 100000 in
theorem clsIn_13 : ∀ w ∈ u_ws RX12 TX12 69, w ∈ goodT := gT_in _ [1264, 1266, 1268, 1270, 1272, 1274, 1276, 1278, 1280, 1282, 1284, 1286, 1288, 1290, 1292, 1294, 1296, 1298, 1300, 1302, 1304, 1306, 1308, 1310, 1312, 1314, 1316, 1318, 1320, 1322, 1324, 1326, 1328, 1330, 1332, 1334, 1336, 1338, 1340, 1342, 1344, 1346, 1348, 1350, 1352, 1354, 1356, 1358, 1360, 1362, 1364, 1366, 1368, 1370, 1372, 1374, 1376, 1378, 1380, 1382, 1384, 1386, 1388, 1390, 1392, 1394, 1396, 1398, 1400] (by decide +kernel) (by decide +kernel)
theorem clsIn {ci : Nat} (h : ci < 14) : ∀ w ∈ u_ws (clsN ci).1 (clsN ci).2.1 (clsN ci).2.2, w ∈ goodT := by
  match ci, h with
  | 0, _ => exact clsIn_0
  | 1, _ => exact clsIn_1
  | 2, _ => exact clsIn_2
  | 3, _ => exact clsIn_3
  | 4, _ => exact clsIn_4
  | 5, _ => exact clsIn_5
  | 6, _ => exact clsIn_6
  | 7, _ => exact clsIn_7
  | 8, _ => exact clsIn_8
  | 9, _ => exact clsIn_9
  | 10, _ => exact clsIn_10
  | 11, _ => exact clsIn_11
  | 12, _ => exact clsIn_12
  | 13, _ => exact clsIn_13
theorem clsTy {ci : Nat} (h : ci < 14) : ∀ k, k < (clsN ci).2.2 → parseFieldDescriptor ((clsN ci).2.1 k).2.2.1 = some (cTy ci k) := by
  match ci, h with
  | 0, _ => exact tyX11_ok
  | 1, _ => exact tyX10_ok
  | 2, _ => exact tyJx4a65c_ok
  | 3, _ => exact tyX8_ok
  | 4, _ => exact tyX6_ok
  | 5, _ => exact tyX2_ok
  | 6, _ => exact tyX3_ok
  | 7, _ => exact tyX4_ok
  | 8, _ => exact tyX9_ok
  | 9, _ => exact tyX0_ok
  | 10, _ => exact tyX1_ok
  | 11, _ => exact tyX7_ok
  | 12, _ => exact tyX5_ok
  | 13, _ => exact tyX12_ok
theorem clsNm {ci : Nat} (h : ci < 14) : ∀ a, a < (clsN ci).2.2 → ∀ b, b < (clsN ci).2.2 → a ≠ b → ((clsN ci).2.1 a).2.1 ≠ ((clsN ci).2.1 b).2.1 := by
  match ci, h with
  | 0, _ => exact nmX11
  | 1, _ => exact nmX10
  | 2, _ => exact nmJx4a65c
  | 3, _ => exact nmX8
  | 4, _ => exact nmX6
  | 5, _ => exact nmX2
  | 6, _ => exact nmX3
  | 7, _ => exact nmX4
  | 8, _ => exact nmX9
  | 9, _ => exact nmX0
  | 10, _ => exact nmX1
  | 11, _ => exact nmX7
  | 12, _ => exact nmX5
  | 13, _ => exact nmX12
theorem clsAt {ci : Nat} (h : ci < 14) : cls[ci]? = some (clsN ci) := by
  match ci, h with
  | 0, _ => rfl
  | 1, _ => rfl
  | 2, _ => rfl
  | 3, _ => rfl
  | 4, _ => rfl
  | 5, _ => rfl
  | 6, _ => rfl
  | 7, _ => rfl
  | 8, _ => rfl
  | 9, _ => rfl
  | 10, _ => rfl
  | 11, _ => rfl
  | 12, _ => rfl
  | 13, _ => rfl
