set_option maxRecDepth 100000 in
theorem jX12_init_1101 : ev_jok cfX12_init RX12 cX12_init 1 1 true 1101 (9, (.putfield 71, 3, 0, 0, 0), 12, 38, 0) := ⟨71, (RX12, TX12, 67), rfl, by decide, (mt_6 (List.mem_of_getElem? (i := 73) rfl)), Or.inr ⟨rfl, rfl, rfl⟩, by decide +kernel⟩
set_option maxRecDepth 100000 in
theorem jX12_init_1107 : ev_jok cfX12_init RX12 cX12_init 1 1 true 1107 (7, (.newarray .int, 2, 0, 0, 0), 0, 0, 0) := ⟨ac_int, by decide +kernel⟩
set_option maxRecDepth 100000 in
theorem jX12_init_1109 : ev_jok cfX12_init RX12 cX12_init 1 1 true 1109 (9, (.putfield 74, 3, 0, 0, 0), 12, 40, 0) := ⟨74, (RX12, TX12, 67), rfl, by decide, (mt_6 (List.mem_of_getElem? (i := 75) rfl)), Or.inr ⟨rfl, rfl, rfl⟩, by decide +kernel⟩
set_option maxRecDepth 100000 in
theorem jX12_init_1115 : ev_jok cfX12_init RX12 cX12_init 1 1 true 1115 (7, (.newarray .int, 2, 0, 0, 0), 0, 0, 0) := ⟨ac_int, by decide +kernel⟩
set_option maxRecDepth 100000 in
theorem jX12_init_1117 : ev_jok cfX12_init RX12 cX12_init 1 1 true 1117 (9, (.putfield 77, 3, 0, 0, 0), 12, 41, 0) := ⟨77, (RX12, TX12, 67), rfl, by decide, (mt_6 (List.mem_of_getElem? (i := 76) rfl)), Or.inr ⟨rfl, rfl, rfl⟩, by decide +kernel⟩
set_option maxRecDepth 100000 in
theorem jX12_init_1124 : ev_jok cfX12_init RX12 cX12_init 1 1 true 1124 (7, (.newarray .int, 2, 0, 0, 0), 0, 0, 0) := ⟨ac_int, by decide +kernel⟩
set_option maxRecDepth 100000 in
theorem jX12_init_1126 : ev_jok cfX12_init RX12 cX12_init 1 1 true 1126 (9, (.putfield 80, 3, 0, 0, 0), 12, 42, 0) := ⟨80, (RX12, TX12, 67), rfl, by decide, (mt_6 (List.mem_of_getElem? (i := 77) rfl)), Or.inr ⟨rfl, rfl, rfl⟩, by decide +kernel⟩
set_option maxRecDepth 100000 in
theorem jX12_init_1133 : ev_jok cfX12_init RX12 cX12_init 1 1 true 1133 (7, (.newarray .int, 2, 0, 0, 0), 0, 0, 0) := ⟨ac_int, by decide +kernel⟩
set_option maxRecDepth 100000 in
theorem jX12_init_1135 : ev_jok cfX12_init RX12 cX12_init 1 1 true 1135 (9, (.putfield 83, 3, 0, 0, 0), 12, 44, 0) := ⟨83, (RX12, TX12, 67), rfl, by decide, (mt_6 (List.mem_of_getElem? (i := 79) rfl)), Or.inr ⟨rfl, rfl, rfl⟩, by decide +kernel⟩
set_option maxRecDepth 100000 in
theorem jX12_init_1141 : ev_jok cfX12_init RX12 cX12_init 1 1 true 1141 (7, (.newarray .int, 2, 0, 0, 0), 0, 0, 0) := ⟨ac_int, by decide +kernel⟩
set_option maxRecDepth 100000 in
theorem jX12_init_1143 : ev_jok cfX12_init RX12 cX12_init 1 1 true 1143 (9, (.putfield 86, 3, 0, 0, 0), 12, 46, 0) := ⟨86, (RX12, TX12, 67), rfl, by decide, (mt_6 (List.mem_of_getElem? (i := 81) rfl)), Or.inr ⟨rfl, rfl, rfl⟩, by decide +kernel⟩
set_option maxRecDepth 100000 in
theorem jX12_init_1149 : ev_jok cfX12_init RX12 cX12_init 1 1 true 1149 (7, (.newarray .int, 2, 0, 0, 0), 0, 0, 0) := ⟨ac_int, by decide +kernel⟩
set_option maxRecDepth 100000 in
theorem jX12_init_1151 : ev_jok cfX12_init RX12 cX12_init 1 1 true 1151 (9, (.putfield 89, 3, 0, 0, 0), 12, 47, 0) := ⟨89, (RX12, TX12, 67), rfl, by decide, (mt_6 (List.mem_of_getElem? (i := 82) rfl)), Or.inr ⟨rfl, rfl, rfl⟩, by decide +kernel⟩
set_option maxRecDepth 100000 in
theorem jX12_init_1157 : ev_jok cfX12_init RX12 cX12_init 1 1 true 1157 (7, (.newarray .int, 2, 0, 0, 0), 0, 0, 0) := ⟨ac_int, by decide +kernel⟩
set_option maxRecDepth 100000 in
theorem jX12_init_1159 : ev_jok cfX12_init RX12 cX12_init 1 1 true 1159 (9, (.putfield 92, 3, 0, 0, 0), 12, 49, 0) := ⟨92, (RX12, TX12, 67), rfl, by decide, (mt_6 (List.mem_of_getElem? (i := 84) rfl)), Or.inr ⟨rfl, rfl, rfl⟩, by decide +kernel⟩
set_option maxRecDepth 100000 in
theorem jX12_init_1165 : ev_jok cfX12_init RX12 cX12_init 1 1 true 1165 (7, (.newarray .int, 2, 0, 0, 0), 0, 0, 0) := ⟨ac_int, by decide +kernel⟩
set_option maxRecDepth 100000 in
theorem jX12_init_1167 : ev_jok cfX12_init RX12 cX12_init 1 1 true 1167 (9, (.putfield 95, 3, 0, 0, 0), 12, 50, 0) := ⟨95, (RX12, TX12, 67), rfl, by decide, (mt_6 (List.mem_of_getElem? (i := 85) rfl)), Or.inr ⟨rfl, rfl, rfl⟩, by decide +kernel⟩
set_option maxRecDepth 100000 in
theorem jX12_init_1173 : ev_jok cfX12_init RX12 cX12_init 1 1 true 1173 (7, (.newarray .int, 2, 0, 0, 0), 0, 0, 0) := ⟨ac_int, by decide +kernel⟩
set_option maxRecDepth 100000 in
theorem jX12_init_1175 : ev_jok cfX12_init RX12 cX12_init 1 1 true 1175 (9, (.putfield 98, 3, 0, 0, 0), 12, 51, 0) := ⟨98, (RX12, TX12, 67), rfl, by decide, (mt_6 (List.mem_of_getElem? (i := 86) rfl)), Or.inr ⟨rfl, rfl, rfl⟩, by decide +kernel⟩
set_option maxRecDepth 100000 in
theorem jX12_init_1182 : ev_jok cfX12_init RX12 cX12_init 1 1 true 1182 (7, (.newarray .int, 2, 0, 0, 0), 0, 0, 0) := ⟨ac_int, by decide +kernel⟩
set_option maxRecDepth 100000 in
theorem jX12_init_1184 : ev_jok cfX12_init RX12 cX12_init 1 1 true 1184 (9, (.putfield 101, 3, 0, 0, 0), 12, 52, 0) := ⟨101, (RX12, TX12, 67), rfl, by decide, (mt_6 (List.mem_of_getElem? (i := 87) rfl)), Or.inr ⟨rfl, rfl, rfl⟩, by decide +kernel⟩
set_option maxRecDepth 100000 in
theorem jX12_init_1190 : ev_jok cfX12_init RX12 cX12_init 1 1 true 1190 (7, (.newarray .int, 2, 0, 0, 0), 0, 0, 0) := ⟨ac_int, by decide +kernel⟩
set_option maxRecDepth 100000 in
theorem jX12_init_1192 : ev_jok cfX12_init RX12 cX12_init 1 1 true 1192 (9, (.putfield 104, 3, 0, 0, 0), 12, 54, 0) := ⟨104, (RX12, TX12, 67), rfl, by decide, (mt_6 (List.mem_of_getElem? (i := 89) rfl)), Or.inr ⟨rfl, rfl, rfl⟩, by decide +kernel⟩
set_option maxRecDepth 100000 in
theorem jX12_init_1198 : ev_jok cfX12_init RX12 cX12_init 1 1 true 1198 (7, (.newarray .int, 2, 0, 0, 0), 0, 0, 0) := ⟨ac_int, by decide +kernel⟩
set_option maxRecDepth 100000 in
theorem jX12_init_1200 : ev_jok cfX12_init RX12 cX12_init 1 1 true 1200 (9, (.putfield 107, 3, 0, 0, 0), 12, 55, 0) := ⟨107, (RX12, TX12, 67), rfl, by decide, (mt_6 (List.mem_of_getElem? (i := 90) rfl)), Or.inr ⟨rfl, rfl, rfl⟩, by decide +kernel⟩
set_option maxRecDepth 100000 in
theorem jX12_init_1206 : ev_jok cfX12_init RX12 cX12_init 1 1 true 1206 (7, (.newarray .int, 2, 0, 0, 0), 0, 0, 0) := ⟨ac_int, by decide +kernel⟩
set_option maxRecDepth 100000 in
theorem jX12_init_1208 : ev_jok cfX12_init RX12 cX12_init 1 1 true 1208 (9, (.putfield 110, 3, 0, 0, 0), 12, 56, 0) := ⟨110, (RX12, TX12, 67), rfl, by decide, (mt_6 (List.mem_of_getElem? (i := 91) rfl)), Or.inr ⟨rfl, rfl, rfl⟩, by decide +kernel⟩
set_option maxRecDepth 100000 in
theorem jX12_init_1214 : ev_jok cfX12_init RX12 cX12_init 1 1 true 1214 (7, (.newarray .int, 2, 0, 0, 0), 0, 0, 0) := ⟨ac_int, by decide +kernel⟩
set_option maxRecDepth 100000 in
theorem jX12_init_1216 : ev_jok cfX12_init RX12 cX12_init 1 1 true 1216 (9, (.putfield 113, 3, 0, 0, 0), 12, 58, 0) := ⟨113, (RX12, TX12, 67), rfl, by decide, (mt_6 (List.mem_of_getElem? (i := 93) rfl)), Or.inr ⟨rfl, rfl, rfl⟩, by decide +kernel⟩
set_option maxRecDepth 100000 in
theorem jX12_init_1222 : ev_jok cfX12_init RX12 cX12_init 1 1 true 1222 (7, (.newarray .int, 2, 0, 0, 0), 0, 0, 0) := ⟨ac_int, by decide +kernel⟩
set_option maxRecDepth 100000 in
theorem jX12_init_1224 : ev_jok cfX12_init RX12 cX12_init 1 1 true 1224 (9, (.putfield 116, 3, 0, 0, 0), 12, 60, 0) := ⟨116, (RX12, TX12, 67), rfl, by decide, (mt_6 (List.mem_of_getElem? (i := 95) rfl)), Or.inr ⟨rfl, rfl, rfl⟩, by decide +kernel⟩
set_option maxRecDepth 100000 in
theorem jX12_init_1230 : ev_jok cfX12_init RX12 cX12_init 1 1 true 1230 (7, (.newarray .int, 2, 0, 0, 0), 0, 0, 0) := ⟨ac_int, by decide +kernel⟩
set_option maxRecDepth 100000 in
theorem jX12_init_1232 : ev_jok cfX12_init RX12 cX12_init 1 1 true 1232 (9, (.putfield 119, 3, 0, 0, 0), 12, 61, 0) := ⟨119, (RX12, TX12, 67), rfl, by decide, (mt_6 (List.mem_of_getElem? (i := 96) rfl)), Or.inr ⟨rfl, rfl, rfl⟩, by decide +kernel⟩
set_option maxRecDepth 100000 in
theorem jX12_init_1238 : ev_jok cfX12_init RX12 cX12_init 1 1 true 1238 (7, (.newarray .int, 2, 0, 0, 0), 0, 0, 0) := ⟨ac_int, by decide +kernel⟩
set_option maxRecDepth 100000 in
theorem jX12_init_1240 : ev_jok cfX12_init RX12 cX12_init 1 1 true 1240 (9, (.putfield 122, 3, 0, 0, 0), 12, 62, 0) := ⟨122, (RX12, TX12, 67), rfl, by decide, (mt_6 (List.mem_of_getElem? (i := 97) rfl)), Or.inr ⟨rfl, rfl, rfl⟩, by decide +kernel⟩
set_option maxRecDepth 100000 in
theorem jX12_init_1247 : ev_jok cfX12_init RX12 cX12_init 1 1 true 1247 (7, (.newarray .int, 2, 0, 0, 0), 0, 0, 0) := ⟨ac_int, by decide +kernel⟩
set_option maxRecDepth 100000 in
theorem jX12_init_1249 : ev_jok cfX12_init RX12 cX12_init 1 1 true 1249 (9, (.putfield 125, 3, 0, 0, 0), 12, 66, 0) := ⟨125, (RX12, TX12, 67), rfl, by decide, (mt_6 (List.mem_of_getElem? (i := 101) rfl)), Or.inr ⟨rfl, rfl, rfl⟩, by decide +kernel⟩
set_option maxRecDepth 100000 in
theorem jX12_init_1252 : ev_jok cfX12_init RX12 cX12_init 1 1 true 1252 (4, (.return_, 1, 0, 0, 0), 0, 0, 0) := (show decode cX12_init 1252 = .ok (.return_, 1) by decide +kernel)
