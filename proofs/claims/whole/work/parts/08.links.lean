/-! ===== the links of each class's code ===== -/
def lk_RX11 : ev_LK := ([(10, 11, 0), (19, 11, 1), (26, 11, 2), (32, 10, 0), (36, 10, 1), (40, 10, 2), (47, 11, 3), (59, 11, 4), (64, 10, 3), (71, 11, 5), (75, 11, 6), (78, 9, 0), (99, 9, 7), (103, 9, 1), (106, 9, 2), (109, 9, 3), (116, 9, 9), (119, 9, 12), (122, 9, 13), (136, 9, 4), (153, 4, 1), (159, 9, 5), (165, 4, 0), (174, 4, 2), (177, 4, 3), (180, 9, 10), (183, 9, 11), (193, 9, 8), (196, 0, 0), (202, 5, 0), (211, 9, 6), (228, 8, 0), (252, 8, 1), (261, 8, 5), (270, 8, 2), (279, 8, 3), (282, 6, 0), (288, 8, 4), (306, 8, 6), (328, 7, 0), (332, 1, 0), (335, 7, 1), (338, 7, 2), (341, 7, 3), (344, 2, 0)], [(239, 65535)])
set_option maxRecDepth 100000 in
theorem lkok_RX11 : ev_lkok RX11 lk_RX11 := ⟨goodIn_r _ [557, 558, 559, 405, 407, 409, 560, 561, 411, 562, 563, 183, 204, 186, 189, 192, 211, 221, 225, 195, 455, 198, 453, 457, 459, 214, 217, 208, 268, 500, 201, 371, 374, 385, 377, 380, 327, 383, 387, 340, 291, 343, 347, 351, 431] (by decide +kernel) (by decide +kernel), by decide +kernel, goodIn_r _ [1102] (by decide +kernel) (by decide +kernel)⟩
def lk_RX0 : ev_LK := ([(9, 0, 0), (21, 0, 1), (24, 0, 2)], [])
set_option maxRecDepth 100000 in
theorem lkok_RX0 : ev_lkok RX0 lk_RX0 := ⟨goodIn_r _ [266, 269, 270] (by decide +kernel) (by decide +kernel), by decide +kernel, goodIn_r _ [] (by decide +kernel) (by decide +kernel)⟩
def lk_RX1 : ev_LK := ([(11, 1, 0), (15, 1, 1), (18, 1, 2), (22, 1, 3), (25, 1, 4), (28, 1, 5), (31, 1, 6), (34, 1, 7)], [])
set_option maxRecDepth 100000 in
theorem lkok_RX1 : ev_lkok RX1 lk_RX1 := ⟨goodIn_r _ [290, 292, 293, 294, 295, 296, 297, 298] (by decide +kernel) (by decide +kernel), by decide +kernel, goodIn_r _ [] (by decide +kernel) (by decide +kernel)⟩
def lk_RX2 : ev_LK := ([(9, 2, 0), (15, 2, 1), (20, 2, 2), (24, 2, 3), (39, 0, 0)], [])
set_option maxRecDepth 100000 in
theorem lkok_RX2 : ev_lkok RX2 lk_RX2 := ⟨goodIn_r _ [430, 432, 433, 434, 267] (by decide +kernel) (by decide +kernel), by decide +kernel, goodIn_r _ [] (by decide +kernel) (by decide +kernel)⟩
def lk_RX3 : ev_LK := ([(9, 3, 3), (15, 3, 4), (18, 3, 5), (21, 3, 6), (24, 3, 7), (27, 3, 8), (30, 3, 9), (33, 3, 0), (37, 3, 1), (41, 3, 2), (49, 7, 3), (55, 6, 0), (83, 8, 0), (105, 8, 1), (114, 9, 5), (138, 8, 2), (148, 9, 7), (154, 8, 3), (157, 8, 4), (173, 9, 12), (176, 9, 11), (194, 8, 6), (208, 9, 13)], [])
set_option maxRecDepth 100000 in
theorem lkok_RX3 : ev_lkok RX3 lk_RX3 := ⟨goodIn_r _ [529, 530, 531, 532, 533, 534, 535, 526, 527, 528, 349, 324, 370, 373, 199, 376, 205, 379, 382, 222, 218, 388, 226] (by decide +kernel) (by decide +kernel), by decide +kernel, goodIn_r _ [] (by decide +kernel) (by decide +kernel)⟩
def lk_RX4 : ev_LK := ([(14, 4, 0), (18, 4, 1), (22, 4, 2), (25, 4, 3), (28, 4, 4), (32, 4, 5), (35, 4, 6), (38, 4, 7), (41, 4, 8), (44, 4, 9), (47, 4, 10), (50, 4, 11), (90, 7, 0), (99, 7, 1), (108, 7, 2), (111, 7, 3)], [])
set_option maxRecDepth 100000 in
theorem lkok_RX4 : ev_lkok RX4 lk_RX4 := ⟨goodIn_r _ [452, 454, 456, 458, 460, 461, 462, 463, 464, 465, 466, 467, 339, 342, 345, 350] (by decide +kernel) (by decide +kernel), by decide +kernel, goodIn_r _ [] (by decide +kernel) (by decide +kernel)⟩
def lk_RX5 : ev_LK := ([(11, 5, 3), (17, 5, 0), (21, 5, 1), (25, 5, 2), (33, 7, 0), (60, 9, 9), (63, 9, 10), (66, 9, 11), (69, 9, 12), (72, 9, 13), (75, 9, 7), (78, 9, 3), (82, 9, 1), (85, 9, 2), (88, 9, 4), (102, 9, 8), (128, 9, 5), (134, 7, 2), (138, 6, 0)], [])
set_option maxRecDepth 100000 in
theorem lkok_RX5 : ev_lkok RX5 lk_RX5 := ⟨goodIn_r _ [503, 499, 501, 502, 338, 210, 213, 216, 220, 224, 203, 191, 185, 188, 194, 207, 197, 346, 326] (by decide +kernel) (by decide +kernel), by decide +kernel, goodIn_r _ [] (by decide +kernel) (by decide +kernel)⟩
def lk_RX6 : ev_LK := ([(9, 6, 0), (21, 6, 1), (24, 6, 2)], [])
set_option maxRecDepth 100000 in
theorem lkok_RX6 : ev_lkok RX6 lk_RX6 := ⟨goodIn_r _ [323, 328, 329] (by decide +kernel) (by decide +kernel), by decide +kernel, goodIn_r _ [] (by decide +kernel) (by decide +kernel)⟩
def lk_RX7 : ev_LK := ([(12, 7, 0), (23, 7, 1), (27, 7, 2), (30, 7, 3), (40, 6, 0)], [])
set_option maxRecDepth 100000 in
theorem lkok_RX7 : ev_lkok RX7 lk_RX7 := ⟨goodIn_r _ [337, 341, 344, 348, 325] (by decide +kernel) (by decide +kernel), by decide +kernel, goodIn_r _ [] (by decide +kernel) (by decide +kernel)⟩
def lk_RX8 : ev_LK := ([(14, 8, 0), (20, 8, 1), (23, 8, 2), (26, 8, 3), (29, 8, 4), (32, 8, 5), (36, 8, 6)], [])
set_option maxRecDepth 100000 in
theorem lkok_RX8 : ev_lkok RX8 lk_RX8 := ⟨goodIn_r _ [369, 372, 375, 378, 381, 384, 386] (by decide +kernel) (by decide +kernel), by decide +kernel, goodIn_r _ [] (by decide +kernel) (by decide +kernel)⟩
def lk_RX9 : ev_LK := ([(9, 9, 0), (15, 9, 1), (18, 9, 2), (21, 9, 3), (24, 9, 4), (27, 9, 5), (30, 9, 6), (33, 9, 7), (37, 9, 8), (40, 9, 9), (43, 9, 10), (46, 9, 11), (49, 9, 12), (52, 9, 13)], [(77, 1664525), (78, 1013904223)])
set_option maxRecDepth 100000 in
theorem lkok_RX9 : ev_lkok RX9 lk_RX9 := ⟨goodIn_r _ [182, 184, 187, 190, 193, 196, 200, 202, 206, 209, 212, 215, 219, 223] (by decide +kernel) (by decide +kernel), by decide +kernel, goodIn_r _ [750, 751] (by decide +kernel) (by decide +kernel)⟩
def lk_RX10 : ev_LK := ([(12, 10, 0), (23, 10, 1), (30, 10, 2), (37, 10, 3)], [])
set_option maxRecDepth 100000 in
theorem lkok_RX10 : ev_lkok RX10 lk_RX10 := ⟨goodIn_r _ [404, 406, 408, 410] (by decide +kernel) (by decide +kernel), by decide +kernel, goodIn_r _ [] (by decide +kernel) (by decide +kernel)⟩
def lk_RX12 : ev_LK := ([(7, 12, 1), (13, 12, 2), (16, 12, 4), (19, 12, 6), (22, 12, 8), (25, 12, 9), (28, 12, 10), (31, 12, 11), (34, 12, 12), (37, 12, 18), (40, 12, 19), (43, 12, 20), (46, 12, 21), (49, 12, 22), (52, 12, 23), (55, 12, 24), (58, 12, 25), (61, 12, 29), (64, 12, 34), (68, 12, 36), (71, 12, 38), (74, 12, 40), (77, 12, 41), (80, 12, 42), (83, 12, 44), (86, 12, 46), (89, 12, 47), (92, 12, 49), (95, 12, 50), (98, 12, 51), (101, 12, 52), (104, 12, 54), (107, 12, 55), (110, 12, 56), (113, 12, 58), (116, 12, 60), (119, 12, 61), (122, 12, 62), (125, 12, 66), (128, 12, 0), (131, 12, 3), (134, 12, 5), (140, 12, 7), (160, 12, 13), (167, 12, 14), (174, 12, 15), (177, 12, 16), (180, 12, 17), (196, 12, 31), (199, 12, 32), (202, 12, 27), (231, 12, 30), (234, 12, 28), (256, 12, 26), (290, 12, 35), (293, 12, 37), (296, 12, 39), (299, 12, 33), (323, 12, 43), (406, 12, 45), (414, 12, 48), (426, 12, 53), (435, 12, 57), (441, 12, 59), (471, 12, 65), (474, 12, 63), (480, 12, 64)], [(138, 1664525), (139, 1013904223), (409, 65535), (410, 100000000)])
set_option maxRecDepth 100000 in
theorem lkok_RX12 : ev_lkok RX12 lk_RX12 := ⟨goodIn_r _ [1372, 1373, 1375, 1377, 1379, 1380, 1381, 1382, 1383, 1389, 1390, 1391, 1392, 1393, 1394, 1395, 1396, 1400, 1405, 1407, 1409, 1411, 1412, 1413, 1415, 1417, 1418, 1420, 1421, 1422, 1423, 1425, 1426, 1427, 1429, 1431, 1432, 1433, 1437, 1371, 1374, 1376, 1378, 1384, 1385, 1386, 1387, 1388, 1402, 1403, 1398, 1401, 1399, 1397, 1406, 1408, 1410, 1404, 1414, 1416, 1419, 1424, 1428, 1430, 1436, 1434, 1435] (by decide +kernel) (by decide +kernel), by decide +kernel, goodIn_r _ [1849, 1850, 1923, 1932] (by decide +kernel) (by decide +kernel)⟩
def lk_RJ11 : ev_LK := ([], [(76, 56320), (110, 55232)])
set_option maxRecDepth 100000 in
theorem lkok_RJ11 : ev_lkok RJ11 lk_RJ11 := ⟨goodIn_r _ [] (by decide +kernel) (by decide +kernel), by decide +kernel, goodIn_r _ [911, 907] (by decide +kernel) (by decide +kernel)⟩
def lk_RJ6 : ev_LK := ([], [(265, 1431655765), (266, 858993459), (267, 252645135)])
set_option maxRecDepth 100000 in
theorem lkok_RJ6 : ev_lkok RJ6 lk_RJ6 := ⟨goodIn_r _ [] (by decide +kernel) (by decide +kernel), by decide +kernel, goodIn_r _ [743, 744, 745] (by decide +kernel) (by decide +kernel)⟩
def lk_RJ9 : ev_LK := ([], [])
set_option maxRecDepth 100000 in
theorem lkok_RJ9 : ev_lkok RJ9 lk_RJ9 := ⟨goodIn_r _ [] (by decide +kernel) (by decide +kernel), by decide +kernel, goodIn_r _ [] (by decide +kernel) (by decide +kernel)⟩
def lk_RJ0 : ev_LK := ([], [])
set_option maxRecDepth 100000 in
theorem lkok_RJ0 : ev_lkok RJ0 lk_RJ0 := ⟨goodIn_r _ [] (by decide +kernel) (by decide +kernel), by decide +kernel, goodIn_r _ [] (by decide +kernel) (by decide +kernel)⟩
def lk_RJ1 : ev_LK := ([], [])
set_option maxRecDepth 100000 in
theorem lkok_RJ1 : ev_lkok RJ1 lk_RJ1 := ⟨goodIn_r _ [] (by decide +kernel) (by decide +kernel), by decide +kernel, goodIn_r _ [] (by decide +kernel) (by decide +kernel)⟩
def lk_RJ2 : ev_LK := ([], [(227, 65536)])
set_option maxRecDepth 100000 in
theorem lkok_RJ2 : ev_lkok RJ2 lk_RJ2 := ⟨goodIn_r _ [] (by decide +kernel) (by decide +kernel), by decide +kernel, goodIn_r _ [882] (by decide +kernel) (by decide +kernel)⟩
def lk_RJ7 : ev_LK := ([], [])
set_option maxRecDepth 100000 in
theorem lkok_RJ7 : ev_lkok RJ7 lk_RJ7 := ⟨goodIn_r _ [] (by decide +kernel) (by decide +kernel), by decide +kernel, goodIn_r _ [] (by decide +kernel) (by decide +kernel)⟩
def lk_RJ3 : ev_LK := ([], [])
set_option maxRecDepth 100000 in
theorem lkok_RJ3 : ev_lkok RJ3 lk_RJ3 := ⟨goodIn_r _ [] (by decide +kernel) (by decide +kernel), by decide +kernel, goodIn_r _ [] (by decide +kernel) (by decide +kernel)⟩
