set_option maxRecDepth 100000 in
theorem jX12_init_1 : ev_jok cfX12_init RX12 cX12_init 1 1 true 1 (12, (.invokespecial 1, 3, 0, 0, 0), 0, 0, 0) := ⟨1, (mt_6 (List.mem_of_getElem? (i := 34) rfl)), ac_oi, ac_oc, by decide, by decide +kernel⟩
set_option maxRecDepth 100000 in
theorem jX12_init_7 : ev_jok cfX12_init RX12 cX12_init 1 1 true 7 (7, (.newarray .int, 2, 0, 0, 0), 0, 0, 0) := ⟨ac_int, by decide +kernel⟩
set_option maxRecDepth 100000 in
theorem jX12_init_9 : ev_jok cfX12_init RX12 cX12_init 1 1 true 9 (9, (.putfield 7, 3, 0, 0, 0), 12, 1, 0) := ⟨7, (RX12, TX12, 67), rfl, by decide, (mt_6 (List.mem_of_getElem? (i := 36) rfl)), Or.inr ⟨rfl, rfl, rfl⟩, by decide +kernel⟩
set_option maxRecDepth 100000 in
theorem jX12_init_16 : ev_jok cfX12_init RX12 cX12_init 1 1 true 16 (7, (.newarray .int, 2, 0, 0, 0), 0, 0, 0) := ⟨ac_int, by decide +kernel⟩
set_option maxRecDepth 100000 in
theorem jX12_init_18 : ev_jok cfX12_init RX12 cX12_init 1 1 true 18 (9, (.putfield 13, 3, 0, 0, 0), 12, 2, 0) := ⟨13, (RX12, TX12, 67), rfl, by decide, (mt_6 (List.mem_of_getElem? (i := 37) rfl)), Or.inr ⟨rfl, rfl, rfl⟩, by decide +kernel⟩
set_option maxRecDepth 100000 in
theorem jX12_init_24 : ev_jok cfX12_init RX12 cX12_init 1 1 true 24 (7, (.newarray .int, 2, 0, 0, 0), 0, 0, 0) := ⟨ac_int, by decide +kernel⟩
set_option maxRecDepth 100000 in
theorem jX12_init_26 : ev_jok cfX12_init RX12 cX12_init 1 1 true 26 (9, (.putfield 16, 3, 0, 0, 0), 12, 4, 0) := ⟨16, (RX12, TX12, 67), rfl, by decide, (mt_6 (List.mem_of_getElem? (i := 39) rfl)), Or.inr ⟨rfl, rfl, rfl⟩, by decide +kernel⟩
set_option maxRecDepth 100000 in
theorem jX12_init_32 : ev_jok cfX12_init RX12 cX12_init 1 1 true 32 (7, (.newarray .int, 2, 0, 0, 0), 0, 0, 0) := ⟨ac_int, by decide +kernel⟩
set_option maxRecDepth 100000 in
theorem jX12_init_34 : ev_jok cfX12_init RX12 cX12_init 1 1 true 34 (9, (.putfield 19, 3, 0, 0, 0), 12, 6, 0) := ⟨19, (RX12, TX12, 67), rfl, by decide, (mt_6 (List.mem_of_getElem? (i := 41) rfl)), Or.inr ⟨rfl, rfl, rfl⟩, by decide +kernel⟩
set_option maxRecDepth 100000 in
theorem jX12_init_40 : ev_jok cfX12_init RX12 cX12_init 1 1 true 40 (7, (.newarray .int, 2, 0, 0, 0), 0, 0, 0) := ⟨ac_int, by decide +kernel⟩
set_option maxRecDepth 100000 in
theorem jX12_init_42 : ev_jok cfX12_init RX12 cX12_init 1 1 true 42 (9, (.putfield 22, 3, 0, 0, 0), 12, 8, 0) := ⟨22, (RX12, TX12, 67), rfl, by decide, (mt_6 (List.mem_of_getElem? (i := 43) rfl)), Or.inr ⟨rfl, rfl, rfl⟩, by decide +kernel⟩
set_option maxRecDepth 100000 in
theorem jX12_init_48 : ev_jok cfX12_init RX12 cX12_init 1 1 true 48 (7, (.newarray .int, 2, 0, 0, 0), 0, 0, 0) := ⟨ac_int, by decide +kernel⟩
set_option maxRecDepth 100000 in
theorem jX12_init_50 : ev_jok cfX12_init RX12 cX12_init 1 1 true 50 (9, (.putfield 25, 3, 0, 0, 0), 12, 9, 0) := ⟨25, (RX12, TX12, 67), rfl, by decide, (mt_6 (List.mem_of_getElem? (i := 44) rfl)), Or.inr ⟨rfl, rfl, rfl⟩, by decide +kernel⟩
set_option maxRecDepth 100000 in
theorem jX12_init_56 : ev_jok cfX12_init RX12 cX12_init 1 1 true 56 (7, (.newarray .int, 2, 0, 0, 0), 0, 0, 0) := ⟨ac_int, by decide +kernel⟩
set_option maxRecDepth 100000 in
theorem jX12_init_58 : ev_jok cfX12_init RX12 cX12_init 1 1 true 58 (9, (.putfield 28, 3, 0, 0, 0), 12, 10, 0) := ⟨28, (RX12, TX12, 67), rfl, by decide, (mt_6 (List.mem_of_getElem? (i := 45) rfl)), Or.inr ⟨rfl, rfl, rfl⟩, by decide +kernel⟩
set_option maxRecDepth 100000 in
theorem jX12_init_65 : ev_jok cfX12_init RX12 cX12_init 1 1 true 65 (7, (.newarray .int, 2, 0, 0, 0), 0, 0, 0) := ⟨ac_int, by decide +kernel⟩
set_option maxRecDepth 100000 in
theorem jX12_init_67 : ev_jok cfX12_init RX12 cX12_init 1 1 true 67 (9, (.putfield 31, 3, 0, 0, 0), 12, 11, 0) := ⟨31, (RX12, TX12, 67), rfl, by decide, (mt_6 (List.mem_of_getElem? (i := 46) rfl)), Or.inr ⟨rfl, rfl, rfl⟩, by decide +kernel⟩
set_option maxRecDepth 100000 in
theorem jX12_init_74 : ev_jok cfX12_init RX12 cX12_init 1 1 true 74 (7, (.newarray .int, 2, 0, 0, 0), 0, 0, 0) := ⟨ac_int, by decide +kernel⟩
set_option maxRecDepth 100000 in
theorem jX12_init_76 : ev_jok cfX12_init RX12 cX12_init 1 1 true 76 (9, (.putfield 34, 3, 0, 0, 0), 12, 12, 0) := ⟨34, (RX12, TX12, 67), rfl, by decide, (mt_6 (List.mem_of_getElem? (i := 47) rfl)), Or.inr ⟨rfl, rfl, rfl⟩, by decide +kernel⟩
set_option maxRecDepth 100000 in
theorem jX12_init_83 : ev_jok cfX12_init RX12 cX12_init 1 1 true 83 (7, (.newarray .int, 2, 0, 0, 0), 0, 0, 0) := ⟨ac_int, by decide +kernel⟩
set_option maxRecDepth 100000 in
theorem jX12_init_1015 : ev_jok cfX12_init RX12 cX12_init 1 1 true 1015 (9, (.putfield 37, 3, 0, 0, 0), 12, 18, 0) := ⟨37, (RX12, TX12, 67), rfl, by decide, (mt_6 (List.mem_of_getElem? (i := 53) rfl)), Or.inr ⟨rfl, rfl, rfl⟩, by decide +kernel⟩
set_option maxRecDepth 100000 in
theorem jX12_init_1020 : ev_jok cfX12_init RX12 cX12_init 1 1 true 1020 (7, (.newarray .int, 2, 0, 0, 0), 0, 0, 0) := ⟨ac_int, by decide +kernel⟩
set_option maxRecDepth 100000 in
theorem jX12_init_1022 : ev_jok cfX12_init RX12 cX12_init 1 1 true 1022 (9, (.putfield 40, 3, 0, 0, 0), 12, 19, 0) := ⟨40, (RX12, TX12, 67), rfl, by decide, (mt_6 (List.mem_of_getElem? (i := 54) rfl)), Or.inr ⟨rfl, rfl, rfl⟩, by decide +kernel⟩
set_option maxRecDepth 100000 in
theorem jX12_init_1028 : ev_jok cfX12_init RX12 cX12_init 1 1 true 1028 (7, (.newarray .int, 2, 0, 0, 0), 0, 0, 0) := ⟨ac_int, by decide +kernel⟩
set_option maxRecDepth 100000 in
theorem jX12_init_1030 : ev_jok cfX12_init RX12 cX12_init 1 1 true 1030 (9, (.putfield 43, 3, 0, 0, 0), 12, 20, 0) := ⟨43, (RX12, TX12, 67), rfl, by decide, (mt_6 (List.mem_of_getElem? (i := 55) rfl)), Or.inr ⟨rfl, rfl, rfl⟩, by decide +kernel⟩
set_option maxRecDepth 100000 in
theorem jX12_init_1036 : ev_jok cfX12_init RX12 cX12_init 1 1 true 1036 (7, (.newarray .int, 2, 0, 0, 0), 0, 0, 0) := ⟨ac_int, by decide +kernel⟩
set_option maxRecDepth 100000 in
theorem jX12_init_1038 : ev_jok cfX12_init RX12 cX12_init 1 1 true 1038 (9, (.putfield 46, 3, 0, 0, 0), 12, 21, 0) := ⟨46, (RX12, TX12, 67), rfl, by decide, (mt_6 (List.mem_of_getElem? (i := 56) rfl)), Or.inr ⟨rfl, rfl, rfl⟩, by decide +kernel⟩
set_option maxRecDepth 100000 in
theorem jX12_init_1044 : ev_jok cfX12_init RX12 cX12_init 1 1 true 1044 (7, (.newarray .int, 2, 0, 0, 0), 0, 0, 0) := ⟨ac_int, by decide +kernel⟩
set_option maxRecDepth 100000 in
theorem jX12_init_1046 : ev_jok cfX12_init RX12 cX12_init 1 1 true 1046 (9, (.putfield 49, 3, 0, 0, 0), 12, 22, 0) := ⟨49, (RX12, TX12, 67), rfl, by decide, (mt_6 (List.mem_of_getElem? (i := 57) rfl)), Or.inr ⟨rfl, rfl, rfl⟩, by decide +kernel⟩
set_option maxRecDepth 100000 in
theorem jX12_init_1052 : ev_jok cfX12_init RX12 cX12_init 1 1 true 1052 (7, (.newarray .int, 2, 0, 0, 0), 0, 0, 0) := ⟨ac_int, by decide +kernel⟩
set_option maxRecDepth 100000 in
theorem jX12_init_1054 : ev_jok cfX12_init RX12 cX12_init 1 1 true 1054 (9, (.putfield 52, 3, 0, 0, 0), 12, 23, 0) := ⟨52, (RX12, TX12, 67), rfl, by decide, (mt_6 (List.mem_of_getElem? (i := 58) rfl)), Or.inr ⟨rfl, rfl, rfl⟩, by decide +kernel⟩
set_option maxRecDepth 100000 in
theorem jX12_init_1061 : ev_jok cfX12_init RX12 cX12_init 1 1 true 1061 (7, (.newarray .int, 2, 0, 0, 0), 0, 0, 0) := ⟨ac_int, by decide +kernel⟩
set_option maxRecDepth 100000 in
theorem jX12_init_1063 : ev_jok cfX12_init RX12 cX12_init 1 1 true 1063 (9, (.putfield 55, 3, 0, 0, 0), 12, 24, 0) := ⟨55, (RX12, TX12, 67), rfl, by decide, (mt_6 (List.mem_of_getElem? (i := 59) rfl)), Or.inr ⟨rfl, rfl, rfl⟩, by decide +kernel⟩
set_option maxRecDepth 100000 in
theorem jX12_init_1070 : ev_jok cfX12_init RX12 cX12_init 1 1 true 1070 (7, (.newarray .int, 2, 0, 0, 0), 0, 0, 0) := ⟨ac_int, by decide +kernel⟩
set_option maxRecDepth 100000 in
theorem jX12_init_1072 : ev_jok cfX12_init RX12 cX12_init 1 1 true 1072 (9, (.putfield 58, 3, 0, 0, 0), 12, 25, 0) := ⟨58, (RX12, TX12, 67), rfl, by decide, (mt_6 (List.mem_of_getElem? (i := 60) rfl)), Or.inr ⟨rfl, rfl, rfl⟩, by decide +kernel⟩
set_option maxRecDepth 100000 in
theorem jX12_init_1078 : ev_jok cfX12_init RX12 cX12_init 1 1 true 1078 (7, (.newarray .int, 2, 0, 0, 0), 0, 0, 0) := ⟨ac_int, by decide +kernel⟩
set_option maxRecDepth 100000 in
theorem jX12_init_1080 : ev_jok cfX12_init RX12 cX12_init 1 1 true 1080 (9, (.putfield 61, 3, 0, 0, 0), 12, 29, 0) := ⟨61, (RX12, TX12, 67), rfl, by decide, (mt_6 (List.mem_of_getElem? (i := 64) rfl)), Or.inr ⟨rfl, rfl, rfl⟩, by decide +kernel⟩
set_option maxRecDepth 100000 in
theorem jX12_init_1091 : ev_jok cfX12_init RX12 cX12_init 1 1 true 1091 (7, (.newarray .int, 2, 0, 0, 0), 0, 0, 0) := ⟨ac_int, by decide +kernel⟩
set_option maxRecDepth 100000 in
theorem jX12_init_1093 : ev_jok cfX12_init RX12 cX12_init 1 1 true 1093 (9, (.putfield 68, 3, 0, 0, 0), 12, 36, 0) := ⟨68, (RX12, TX12, 67), rfl, by decide, (mt_6 (List.mem_of_getElem? (i := 71) rfl)), Or.inr ⟨rfl, rfl, rfl⟩, by decide +kernel⟩
set_option maxRecDepth 100000 in
theorem jX12_init_1099 : ev_jok cfX12_init RX12 cX12_init 1 1 true 1099 (7, (.newarray .int, 2, 0, 0, 0), 0, 0, 0) := ⟨ac_int, by decide +kernel⟩
