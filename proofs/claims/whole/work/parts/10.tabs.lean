/-! ===== called methods and links ===== -/
theorem mt_1 {w : Cond} (h : w ∈ tables_1_1) : w ∈ lw_tbl := by
  unfold lw_tbl tables_1
  simp only [List.mem_append]
  simp [h]
theorem mt_2 {w : Cond} (h : w ∈ tables_1_2) : w ∈ lw_tbl := by
  unfold lw_tbl tables_1
  simp only [List.mem_append]
  simp [h]
theorem mt_3 {w : Cond} (h : w ∈ tables_1_3) : w ∈ lw_tbl := by
  unfold lw_tbl tables_1
  simp only [List.mem_append]
  simp [h]
theorem mt_4 {w : Cond} (h : w ∈ tables_1_4) : w ∈ lw_tbl := by
  unfold lw_tbl tables_1
  simp only [List.mem_append]
  simp [h]
theorem mt_5 {w : Cond} (h : w ∈ tables_1_5) : w ∈ lw_tbl := by
  unfold lw_tbl tables_1
  simp only [List.mem_append]
  simp [h]
theorem mt_6 {w : Cond} (h : w ∈ tables_1_6) : w ∈ lw_tbl := by
  unfold lw_tbl tables_1
  simp only [List.mem_append]
  simp [h]
theorem mt_7 {w : Cond} (h : w ∈ tables_1_7) : w ∈ lw_tbl := by
  unfold lw_tbl tables_1
  simp only [List.mem_append]
  simp [h]
theorem mt_8 {w : Cond} (h : w ∈ tables_1_8) : w ∈ lw_tbl := by
  unfold lw_tbl tables_1
  simp only [List.mem_append]
  simp [h]
theorem mt_9 {w : Cond} (h : w ∈ tables_1_9) : w ∈ lw_tbl := by
  unfold lw_tbl tables_1
  simp only [List.mem_append]
  simp [h]
theorem ac_n : Cond.native arraycopyName ∈ lw_tbl := (mt_3 (List.mem_of_getElem? (i := 33) rfl))
theorem ac_s : Cond.static arraycopyName ∈ lw_tbl := (mt_3 (List.mem_of_getElem? (i := 32) rfl))
theorem ac_i : Cond.initialized "java/lang/System" ∈ lw_tbl := (mt_1 (List.mem_of_getElem? (i := 16) rfl))
theorem YX2_forget : ev_YV yX2_forget cX2_forget 1 none 0 := ⟨⟨(mt_2 (List.mem_of_getElem? (i := 210) rfl)), (mt_1 (List.mem_of_getElem? (i := 11) rfl)), by decide +kernel, by decide⟩, (mt_2 (List.mem_of_getElem? (i := 208) rfl)), (mt_2 (List.mem_of_getElem? (i := 209) rfl))⟩
theorem YX11_state : ev_YV yX11_state cX11_state 3 (some .int) 1 := ⟨⟨(mt_2 (List.mem_of_getElem? (i := 206) rfl)), (mt_1 (List.mem_of_getElem? (i := 1) rfl)), by decide +kernel, by decide⟩, (mt_2 (List.mem_of_getElem? (i := 204) rfl)), (mt_2 (List.mem_of_getElem? (i := 205) rfl))⟩
theorem YX11_within : ev_YS yX11_within cX11_within 3 (some .boolean) 3 := ⟨⟨(mt_2 (List.mem_of_getElem? (i := 217) rfl)), (mt_1 (List.mem_of_getElem? (i := 1) rfl)), by decide +kernel, by decide⟩, (mt_2 (List.mem_of_getElem? (i := 216) rfl))⟩
theorem YX9_wake : ev_YV yX9_wake cX9_wake 2 none 1 := ⟨⟨(mt_2 (List.mem_of_getElem? (i := 225) rfl)), (mt_1 (List.mem_of_getElem? (i := 3) rfl)), by decide +kernel, by decide⟩, (mt_2 (List.mem_of_getElem? (i := 223) rfl)), (mt_2 (List.mem_of_getElem? (i := 224) rfl))⟩
theorem YX9_come : ev_YV yX9_come cX9_come 5 (some .int) 3 := ⟨⟨(mt_2 (List.mem_of_getElem? (i := 221) rfl)), (mt_1 (List.mem_of_getElem? (i := 3) rfl)), by decide +kernel, by decide⟩, (mt_2 (List.mem_of_getElem? (i := 219) rfl)), (mt_2 (List.mem_of_getElem? (i := 220) rfl))⟩
theorem YX11_ringer : ev_YV yX11_ringer cX11_ringer 5 (some .int) 3 := ⟨⟨(mt_2 (List.mem_of_getElem? (i := 214) rfl)), (mt_1 (List.mem_of_getElem? (i := 1) rfl)), by decide +kernel, by decide⟩, (mt_2 (List.mem_of_getElem? (i := 212) rfl)), (mt_2 (List.mem_of_getElem? (i := 213) rfl))⟩
theorem YX9_has : ev_YV yX9_has cX9_has 2 (some .boolean) 1 := ⟨⟨(mt_3 (List.mem_of_getElem? (i := 1) rfl)), (mt_1 (List.mem_of_getElem? (i := 3) rfl)), by decide +kernel, by decide⟩, (mt_2 (List.mem_of_getElem? (i := 239) rfl)), (mt_3 (List.mem_of_getElem? (i := 0) rfl))⟩
theorem YX11_toldOfRinger : ev_YV yX11_toldOfRinger cX11_toldOfRinger 5 (some .boolean) 3 := ⟨⟨(mt_2 (List.mem_of_getElem? (i := 237) rfl)), (mt_1 (List.mem_of_getElem? (i := 1) rfl)), by decide +kernel, by decide⟩, (mt_2 (List.mem_of_getElem? (i := 236) rfl)), (List.mem_of_getElem? (i := 1) (by decide +kernel))⟩
theorem YX11_toldOfTower : ev_YV yX11_toldOfTower cX11_toldOfTower 5 (some .boolean) 3 := ⟨⟨(mt_2 (List.mem_of_getElem? (i := 233) rfl)), (mt_1 (List.mem_of_getElem? (i := 1) rfl)), by decide +kernel, by decide⟩, (mt_2 (List.mem_of_getElem? (i := 232) rfl)), (List.mem_of_getElem? (i := 0) (by decide +kernel))⟩
theorem YX11_set : ev_YV yX11_set cX11_set 5 (some .boolean) 3 := ⟨⟨(mt_2 (List.mem_of_getElem? (i := 229) rfl)), (mt_1 (List.mem_of_getElem? (i := 1) rfl)), by decide +kernel, by decide⟩, (mt_2 (List.mem_of_getElem? (i := 227) rfl)), (mt_2 (List.mem_of_getElem? (i := 228) rfl))⟩
theorem YJ9_min : ev_YS yJ9_min_7cf53 cJ9_min_7cf53 2 (some .int) 2 := ⟨⟨(mt_3 (List.mem_of_getElem? (i := 30) rfl)), (mt_1 (List.mem_of_getElem? (i := 6) rfl)), by decide +kernel, by decide⟩, (mt_3 (List.mem_of_getElem? (i := 29) rfl))⟩
theorem YX11_copy : ev_YS yX11_copy cX11_copy 2 none 2 := ⟨⟨(mt_3 (List.mem_of_getElem? (i := 27) rfl)), (mt_1 (List.mem_of_getElem? (i := 1) rfl)), by decide +kernel, by decide⟩, (mt_3 (List.mem_of_getElem? (i := 26) rfl))⟩
theorem YX9_become : ev_YV yX9_become cX9_become 2 none 1 := ⟨⟨(mt_3 (List.mem_of_getElem? (i := 24) rfl)), (mt_1 (List.mem_of_getElem? (i := 3) rfl)), by decide +kernel, by decide⟩, (mt_3 (List.mem_of_getElem? (i := 22) rfl)), (mt_3 (List.mem_of_getElem? (i := 23) rfl))⟩
theorem YJ9_floorMod : ev_YS yJ9_floorMod_7cf53 cJ9_floorMod_7cf53 3 (some .int) 2 := ⟨⟨(mt_3 (List.mem_of_getElem? (i := 20) rfl)), (mt_1 (List.mem_of_getElem? (i := 6) rfl)), by decide +kernel, by decide⟩, (mt_3 (List.mem_of_getElem? (i := 19) rfl))⟩
theorem YX2_keep : ev_YV yX2_keep cX2_keep 4 none 2 := ⟨⟨(mt_3 (List.mem_of_getElem? (i := 17) rfl)), (mt_1 (List.mem_of_getElem? (i := 11) rfl)), by decide +kernel, by decide⟩, (mt_3 (List.mem_of_getElem? (i := 15) rfl)), (mt_3 (List.mem_of_getElem? (i := 16) rfl))⟩
theorem YJ9_max : ev_YS yJ9_max_7cf53 cJ9_max_7cf53 2 (some .int) 2 := ⟨⟨(mt_1 (List.mem_of_getElem? (i := 129) rfl)), (mt_1 (List.mem_of_getElem? (i := 6) rfl)), by decide +kernel, by decide⟩, (mt_1 (List.mem_of_getElem? (i := 128) rfl))⟩
theorem YX11_held : ev_YS yX11_held cX11_held 3 (some .int) 3 := ⟨⟨(mt_3 (List.mem_of_getElem? (i := 51) rfl)), (mt_1 (List.mem_of_getElem? (i := 1) rfl)), by decide +kernel, by decide⟩, (mt_3 (List.mem_of_getElem? (i := 50) rfl))⟩
theorem YX0_write : ev_YV yX0_write cX0_write 6 none 4 := ⟨⟨(mt_3 (List.mem_of_getElem? (i := 82) rfl)), (mt_1 (List.mem_of_getElem? (i := 5) rfl)), by decide +kernel, by decide⟩, (mt_3 (List.mem_of_getElem? (i := 80) rfl)), (mt_3 (List.mem_of_getElem? (i := 81) rfl))⟩
theorem YX1_joined : ev_YS yX1_joined cX1_joined 3 (some .int) 3 := ⟨⟨(mt_3 (List.mem_of_getElem? (i := 68) rfl)), (mt_1 (List.mem_of_getElem? (i := 8) rfl)), by decide +kernel, by decide⟩, (mt_3 (List.mem_of_getElem? (i := 67) rfl))⟩
theorem YX1_valueOf : ev_YS yX1_valueOf cX1_valueOf 2 (some .int) 2 := ⟨⟨(mt_3 (List.mem_of_getElem? (i := 65) rfl)), (mt_1 (List.mem_of_getElem? (i := 8) rfl)), by decide +kernel, by decide⟩, (mt_3 (List.mem_of_getElem? (i := 64) rfl))⟩
theorem YX1_reckon : ev_YV yX1_reckon cX1_reckon 7 (some .int) 3 := ⟨⟨(mt_3 (List.mem_of_getElem? (i := 61) rfl)), (mt_1 (List.mem_of_getElem? (i := 8) rfl)), by decide +kernel, by decide⟩, (mt_3 (List.mem_of_getElem? (i := 60) rfl)), (List.mem_of_getElem? (i := 3) (by decide +kernel))⟩
theorem YX1_lineFor : ev_YV yX1_lineFor cX1_lineFor 4 (some .int) 2 := ⟨⟨(mt_3 (List.mem_of_getElem? (i := 57) rfl)), (mt_1 (List.mem_of_getElem? (i := 8) rfl)), by decide +kernel, by decide⟩, (mt_3 (List.mem_of_getElem? (i := 55) rfl)), (mt_3 (List.mem_of_getElem? (i := 56) rfl))⟩
theorem YX1_worth : ev_YV yX1_worth cX1_worth 3 (some .int) 2 := ⟨⟨(mt_3 (List.mem_of_getElem? (i := 76) rfl)), (mt_1 (List.mem_of_getElem? (i := 8) rfl)), by decide +kernel, by decide⟩, (mt_3 (List.mem_of_getElem? (i := 74) rfl)), (mt_3 (List.mem_of_getElem? (i := 75) rfl))⟩
theorem YX5_fillValues : ev_YV yX5_fillValues cX5_fillValues 5 none 2 := ⟨⟨(mt_3 (List.mem_of_getElem? (i := 47) rfl)), (mt_1 (List.mem_of_getElem? (i := 13) rfl)), by decide +kernel, by decide⟩, (mt_3 (List.mem_of_getElem? (i := 46) rfl)), (List.mem_of_getElem? (i := 2) (by decide +kernel))⟩
theorem YX5_usual : ev_YV yX5_usual cX5_usual 3 (some .int) 2 := ⟨⟨(mt_3 (List.mem_of_getElem? (i := 72) rfl)), (mt_1 (List.mem_of_getElem? (i := 13) rfl)), by decide +kernel, by decide⟩, (mt_3 (List.mem_of_getElem? (i := 71) rfl)), (List.mem_of_getElem? (i := 4) (by decide +kernel))⟩
theorem YX5_ask : ev_YV yX5_ask cX5_ask 6 (some .int) 3 := ⟨⟨(mt_3 (List.mem_of_getElem? (i := 43) rfl)), (mt_1 (List.mem_of_getElem? (i := 13) rfl)), by decide +kernel, by decide⟩, (mt_3 (List.mem_of_getElem? (i := 41) rfl)), (mt_3 (List.mem_of_getElem? (i := 42) rfl))⟩
theorem YX11_isIn : ev_YS yX11_isIn cX11_isIn 2 (some .boolean) 2 := ⟨⟨(mt_3 (List.mem_of_getElem? (i := 13) rfl)), (mt_1 (List.mem_of_getElem? (i := 1) rfl)), by decide +kernel, by decide⟩, (mt_3 (List.mem_of_getElem? (i := 12) rfl))⟩
theorem YX9_isAwake : ev_YV yX9_isAwake cX9_isAwake 2 (some .boolean) 1 := ⟨⟨(mt_3 (List.mem_of_getElem? (i := 9) rfl)), (mt_1 (List.mem_of_getElem? (i := 3) rfl)), by decide +kernel, by decide⟩, (mt_3 (List.mem_of_getElem? (i := 7) rfl)), (mt_3 (List.mem_of_getElem? (i := 8) rfl))⟩
theorem YX9_sleep : ev_YV yX9_sleep cX9_sleep 2 none 1 := ⟨⟨(mt_3 (List.mem_of_getElem? (i := 86) rfl)), (mt_1 (List.mem_of_getElem? (i := 3) rfl)), by decide +kernel, by decide⟩, (mt_3 (List.mem_of_getElem? (i := 84) rfl)), (mt_3 (List.mem_of_getElem? (i := 85) rfl))⟩
theorem YX5_strike : ev_YV yX5_strike cX5_strike 5 (some .int) 2 := ⟨⟨(mt_3 (List.mem_of_getElem? (i := 38) rfl)), (mt_1 (List.mem_of_getElem? (i := 13) rfl)), by decide +kernel, by decide⟩, (mt_3 (List.mem_of_getElem? (i := 36) rfl)), (mt_3 (List.mem_of_getElem? (i := 37) rfl))⟩
theorem YX11_pull : ev_YV yX11_pull cX11_pull 2 (some .int) 1 := ⟨⟨(mt_3 (List.mem_of_getElem? (i := 5) rfl)), (mt_1 (List.mem_of_getElem? (i := 1) rfl)), by decide +kernel, by decide⟩, (mt_3 (List.mem_of_getElem? (i := 3) rfl)), (mt_3 (List.mem_of_getElem? (i := 4) rfl))⟩
theorem YX11_act : ev_YV yX11_act cX11_act 4 (some .boolean) 2 := ⟨⟨(mt_3 (List.mem_of_getElem? (i := 90) rfl)), (mt_1 (List.mem_of_getElem? (i := 1) rfl)), by decide +kernel, by decide⟩, (mt_3 (List.mem_of_getElem? (i := 88) rfl)), (mt_3 (List.mem_of_getElem? (i := 89) rfl))⟩
theorem YX5_grow : ev_YV yX5_grow cX5_grow 2 none 1 := ⟨⟨(mt_3 (List.mem_of_getElem? (i := 140) rfl)), (mt_1 (List.mem_of_getElem? (i := 13) rfl)), by decide +kernel, by decide⟩, (mt_3 (List.mem_of_getElem? (i := 139) rfl)), (List.mem_of_getElem? (i := 8) (by decide +kernel))⟩
theorem YX5_happenOne : ev_YV yX5_happenOne cX5_happenOne 3 none 2 := ⟨⟨(mt_3 (List.mem_of_getElem? (i := 113) rfl)), (mt_1 (List.mem_of_getElem? (i := 13) rfl)), by decide +kernel, by decide⟩, (mt_3 (List.mem_of_getElem? (i := 112) rfl)), (List.mem_of_getElem? (i := 6) (by decide +kernel))⟩
theorem YX6_cell : ev_YV yX6_cell cX6_cell 4 (some .int) 2 := ⟨⟨(mt_3 (List.mem_of_getElem? (i := 109) rfl)), (mt_1 (List.mem_of_getElem? (i := 9) rfl)), by decide +kernel, by decide⟩, (mt_3 (List.mem_of_getElem? (i := 107) rfl)), (mt_3 (List.mem_of_getElem? (i := 108) rfl))⟩
theorem YX5_happen : ev_YV yX5_happen cX5_happen 3 none 0 := ⟨⟨(mt_3 (List.mem_of_getElem? (i := 105) rfl)), (mt_1 (List.mem_of_getElem? (i := 13) rfl)), by decide +kernel, by decide⟩, (mt_3 (List.mem_of_getElem? (i := 104) rfl)), (List.mem_of_getElem? (i := 5) (by decide +kernel))⟩
theorem YX7_feltBy : ev_YV yX7_feltBy cX7_feltBy 4 (some .int) 1 := ⟨⟨(mt_3 (List.mem_of_getElem? (i := 122) rfl)), (mt_1 (List.mem_of_getElem? (i := 7) rfl)), by decide +kernel, by decide⟩, (mt_3 (List.mem_of_getElem? (i := 120) rfl)), (mt_3 (List.mem_of_getElem? (i := 121) rfl))⟩
theorem YX9_draw : ev_YV yX9_draw cX9_draw 2 (some .int) 1 := ⟨⟨(mt_3 (List.mem_of_getElem? (i := 133) rfl)), (mt_1 (List.mem_of_getElem? (i := 3) rfl)), by decide +kernel, by decide⟩, (mt_3 (List.mem_of_getElem? (i := 131) rfl)), (mt_3 (List.mem_of_getElem? (i := 132) rfl))⟩
theorem YJ6_bitCount : ev_YS yJ6_bitCount_0f7a4 cJ6_bitCount_0f7a4 1 (some .int) 1 := ⟨⟨(mt_3 (List.mem_of_getElem? (i := 126) rfl)), (mt_1 (List.mem_of_getElem? (i := 17) rfl)), by decide +kernel, by decide⟩, (mt_3 (List.mem_of_getElem? (i := 125) rfl))⟩
theorem YX5_pullAll : ev_YV yX5_pullAll cX5_pullAll 6 (some .int) 1 := ⟨⟨(mt_3 (List.mem_of_getElem? (i := 118) rfl)), (mt_1 (List.mem_of_getElem? (i := 13) rfl)), by decide +kernel, by decide⟩, (mt_3 (List.mem_of_getElem? (i := 117) rfl)), (List.mem_of_getElem? (i := 7) (by decide +kernel))⟩
theorem YX5_pass : ev_YV yX5_pass cX5_pass 4 (some .int) 1 := ⟨⟨(mt_3 (List.mem_of_getElem? (i := 101) rfl)), (mt_1 (List.mem_of_getElem? (i := 13) rfl)), by decide +kernel, by decide⟩, (mt_3 (List.mem_of_getElem? (i := 99) rfl)), (mt_3 (List.mem_of_getElem? (i := 100) rfl))⟩
theorem YX11_hours : ev_YV yX11_hours cX11_hours 4 (some .int) 1 := ⟨⟨(mt_3 (List.mem_of_getElem? (i := 97) rfl)), (mt_1 (List.mem_of_getElem? (i := 1) rfl)), by decide +kernel, by decide⟩, (mt_3 (List.mem_of_getElem? (i := 95) rfl)), (mt_3 (List.mem_of_getElem? (i := 96) rfl))⟩
theorem YX4_append : ev_YV yX4_append cX4_append 3 none 1 := ⟨⟨(mt_3 (List.mem_of_getElem? (i := 149) rfl)), (mt_1 (List.mem_of_getElem? (i := 12) rfl)), by decide +kernel, by decide⟩, (mt_3 (List.mem_of_getElem? (i := 147) rfl)), (mt_3 (List.mem_of_getElem? (i := 148) rfl))⟩
theorem YX11_feed : ev_YV yX11_feed cX11_feed 6 (some .int) 5 := ⟨⟨(mt_3 (List.mem_of_getElem? (i := 145) rfl)), (mt_1 (List.mem_of_getElem? (i := 1) rfl)), by decide +kernel, by decide⟩, (mt_3 (List.mem_of_getElem? (i := 143) rfl)), (mt_3 (List.mem_of_getElem? (i := 144) rfl))⟩
theorem YX11_end : ev_YV yX11_end cX11_end 2 (some .boolean) 1 := ⟨⟨(mt_3 (List.mem_of_getElem? (i := 153) rfl)), (mt_1 (List.mem_of_getElem? (i := 1) rfl)), by decide +kernel, by decide⟩, (mt_3 (List.mem_of_getElem? (i := 151) rfl)), (mt_3 (List.mem_of_getElem? (i := 152) rfl))⟩
theorem YX1_clear : ev_YV yX1_clear cX1_clear 1 none 0 := ⟨⟨(mt_4 (List.mem_of_getElem? (i := 68) rfl)), (mt_1 (List.mem_of_getElem? (i := 8) rfl)), by decide +kernel, by decide⟩, (mt_4 (List.mem_of_getElem? (i := 66) rfl)), (mt_4 (List.mem_of_getElem? (i := 67) rfl))⟩
theorem YX6_empty : ev_YV yX6_empty cX6_empty 1 (some .int) 0 := ⟨⟨(mt_4 (List.mem_of_getElem? (i := 72) rfl)), (mt_1 (List.mem_of_getElem? (i := 9) rfl)), by decide +kernel, by decide⟩, (mt_4 (List.mem_of_getElem? (i := 70) rfl)), (mt_4 (List.mem_of_getElem? (i := 71) rfl))⟩
theorem YX4_kind : ev_YV yX4_kind cX4_kind 1 (some .int) 0 := ⟨⟨(mt_4 (List.mem_of_getElem? (i := 76) rfl)), (mt_1 (List.mem_of_getElem? (i := 12) rfl)), by decide +kernel, by decide⟩, (mt_4 (List.mem_of_getElem? (i := 75) rfl)), (List.mem_of_getElem? (i := 16) (by decide +kernel))⟩
theorem YX4_refuse : ev_YV yX4_refuse cX4_refuse 2 (some .boolean) 1 := ⟨⟨(mt_4 (List.mem_of_getElem? (i := 84) rfl)), (mt_1 (List.mem_of_getElem? (i := 12) rfl)), by decide +kernel, by decide⟩, (mt_4 (List.mem_of_getElem? (i := 83) rfl)), (List.mem_of_getElem? (i := 18) (by decide +kernel))⟩
theorem YX4_takeNumber : ev_YV yX4_takeNumber cX4_takeNumber 4 (some .boolean) 2 := ⟨⟨(mt_4 (List.mem_of_getElem? (i := 108) rfl)), (mt_1 (List.mem_of_getElem? (i := 12) rfl)), by decide +kernel, by decide⟩, (mt_4 (List.mem_of_getElem? (i := 107) rfl)), (List.mem_of_getElem? (i := 22) (by decide +kernel))⟩
theorem YX6_add : ev_YV yX6_add cX6_add 4 (some .int) 3 := ⟨⟨(mt_4 (List.mem_of_getElem? (i := 145) rfl)), (mt_1 (List.mem_of_getElem? (i := 9) rfl)), by decide +kernel, by decide⟩, (mt_4 (List.mem_of_getElem? (i := 143) rfl)), (mt_4 (List.mem_of_getElem? (i := 144) rfl))⟩
theorem YX1_begin : ev_YV yX1_begin cX1_begin 2 none 1 := ⟨⟨(mt_4 (List.mem_of_getElem? (i := 92) rfl)), (mt_1 (List.mem_of_getElem? (i := 8) rfl)), by decide +kernel, by decide⟩, (mt_4 (List.mem_of_getElem? (i := 90) rfl)), (mt_4 (List.mem_of_getElem? (i := 91) rfl))⟩
theorem YX1_finish : ev_YV yX1_finish cX1_finish 1 none 0 := ⟨⟨(mt_4 (List.mem_of_getElem? (i := 137) rfl)), (mt_1 (List.mem_of_getElem? (i := 8) rfl)), by decide +kernel, by decide⟩, (mt_4 (List.mem_of_getElem? (i := 135) rfl)), (mt_4 (List.mem_of_getElem? (i := 136) rfl))⟩
theorem YX1_markWhen : ev_YV yX1_markWhen cX1_markWhen 1 none 0 := ⟨⟨(mt_4 (List.mem_of_getElem? (i := 113) rfl)), (mt_1 (List.mem_of_getElem? (i := 8) rfl)), by decide +kernel, by decide⟩, (mt_4 (List.mem_of_getElem? (i := 111) rfl)), (mt_4 (List.mem_of_getElem? (i := 112) rfl))⟩
theorem YX1_add : ev_YV yX1_add cX1_add 2 none 1 := ⟨⟨(mt_4 (List.mem_of_getElem? (i := 104) rfl)), (mt_1 (List.mem_of_getElem? (i := 8) rfl)), by decide +kernel, by decide⟩, (mt_4 (List.mem_of_getElem? (i := 102) rfl)), (mt_4 (List.mem_of_getElem? (i := 103) rfl))⟩
theorem YX4_readUnit : ev_YV yX4_readUnit cX4_readUnit 2 (some .boolean) 0 := ⟨⟨(mt_4 (List.mem_of_getElem? (i := 100) rfl)), (mt_1 (List.mem_of_getElem? (i := 12) rfl)), by decide +kernel, by decide⟩, (mt_4 (List.mem_of_getElem? (i := 99) rfl)), (List.mem_of_getElem? (i := 21) (by decide +kernel))⟩
theorem YX4_readNumber : ev_YV yX4_readNumber cX4_readNumber 5 (some .boolean) 0 := ⟨⟨(mt_4 (List.mem_of_getElem? (i := 96) rfl)), (mt_1 (List.mem_of_getElem? (i := 12) rfl)), by decide +kernel, by decide⟩, (mt_4 (List.mem_of_getElem? (i := 95) rfl)), (List.mem_of_getElem? (i := 20) (by decide +kernel))⟩
theorem YX4_readComparison : ev_YV yX4_readComparison cX4_readComparison 2 (some .boolean) 0 := ⟨⟨(mt_4 (List.mem_of_getElem? (i := 133) rfl)), (mt_1 (List.mem_of_getElem? (i := 12) rfl)), by decide +kernel, by decide⟩, (mt_4 (List.mem_of_getElem? (i := 132) rfl)), (List.mem_of_getElem? (i := 27) (by decide +kernel))⟩
theorem YX4_take : ev_YV yX4_take cX4_take 2 (some .boolean) 1 := ⟨⟨(mt_4 (List.mem_of_getElem? (i := 129) rfl)), (mt_1 (List.mem_of_getElem? (i := 12) rfl)), by decide +kernel, by decide⟩, (mt_4 (List.mem_of_getElem? (i := 128) rfl)), (List.mem_of_getElem? (i := 26) (by decide +kernel))⟩
theorem YX4_takeNots : ev_YV yX4_takeNots cX4_takeNots 4 (some .int) 1 := ⟨⟨(mt_4 (List.mem_of_getElem? (i := 121) rfl)), (mt_1 (List.mem_of_getElem? (i := 12) rfl)), by decide +kernel, by decide⟩, (mt_4 (List.mem_of_getElem? (i := 120) rfl)), (List.mem_of_getElem? (i := 24) (by decide +kernel))⟩
theorem YX4_readInner : ev_YV yX4_readInner cX4_readInner 2 (some .boolean) 1 := ⟨⟨(mt_4 (List.mem_of_getElem? (i := 125) rfl)), (mt_1 (List.mem_of_getElem? (i := 12) rfl)), by decide +kernel, by decide⟩, (mt_4 (List.mem_of_getElem? (i := 124) rfl)), (List.mem_of_getElem? (i := 25) (by decide +kernel))⟩
theorem YX4_readTruth : ev_YV yX4_readTruth cX4_readTruth 6 (some .boolean) 1 := ⟨⟨(mt_4 (List.mem_of_getElem? (i := 117) rfl)), (mt_1 (List.mem_of_getElem? (i := 12) rfl)), by decide +kernel, by decide⟩, (mt_4 (List.mem_of_getElem? (i := 116) rfl)), (List.mem_of_getElem? (i := 23) (by decide +kernel))⟩
theorem YX4_isDigit : ev_YS yX4_isDigit cX4_isDigit 1 (some .boolean) 1 := ⟨⟨(mt_3 (List.mem_of_getElem? (i := 175) rfl)), (mt_1 (List.mem_of_getElem? (i := 12) rfl)), by decide +kernel, by decide⟩, (mt_3 (List.mem_of_getElem? (i := 174) rfl))⟩
theorem YX4_isLetter : ev_YS yX4_isLetter cX4_isLetter 1 (some .boolean) 1 := ⟨⟨(mt_3 (List.mem_of_getElem? (i := 172) rfl)), (mt_1 (List.mem_of_getElem? (i := 12) rfl)), by decide +kernel, by decide⟩, (mt_3 (List.mem_of_getElem? (i := 171) rfl))⟩
theorem YX11_fault : ev_YV yX11_fault cX11_fault 2 (some .int) 1 := ⟨⟨(mt_4 (List.mem_of_getElem? (i := 173) rfl)), (mt_1 (List.mem_of_getElem? (i := 1) rfl)), by decide +kernel, by decide⟩, (mt_4 (List.mem_of_getElem? (i := 171) rfl)), (mt_4 (List.mem_of_getElem? (i := 172) rfl))⟩
theorem YX11_of : ev_YV yX11_of cX11_of 4 (some .int) 2 := ⟨⟨(mt_4 (List.mem_of_getElem? (i := 177) rfl)), (mt_1 (List.mem_of_getElem? (i := 1) rfl)), by decide +kernel, by decide⟩, (mt_4 (List.mem_of_getElem? (i := 175) rfl)), (mt_4 (List.mem_of_getElem? (i := 176) rfl))⟩
theorem YX11_bell : ev_YV yX11_bell cX11_bell 3 (some .int) 2 := ⟨⟨(mt_4 (List.mem_of_getElem? (i := 183) rfl)), (mt_1 (List.mem_of_getElem? (i := 1) rfl)), by decide +kernel, by decide⟩, (mt_4 (List.mem_of_getElem? (i := 181) rfl)), (mt_4 (List.mem_of_getElem? (i := 182) rfl))⟩
theorem YX11_lost : ev_YV yX11_lost cX11_lost 1 (some .int) 0 := ⟨⟨(mt_4 (List.mem_of_getElem? (i := 187) rfl)), (mt_1 (List.mem_of_getElem? (i := 1) rfl)), by decide +kernel, by decide⟩, (mt_4 (List.mem_of_getElem? (i := 185) rfl)), (mt_4 (List.mem_of_getElem? (i := 186) rfl))⟩
theorem YX0_cell : ev_YV yX0_cell cX0_cell 4 (some .int) 2 := ⟨⟨(mt_4 (List.mem_of_getElem? (i := 195) rfl)), (mt_1 (List.mem_of_getElem? (i := 5) rfl)), by decide +kernel, by decide⟩, (mt_4 (List.mem_of_getElem? (i := 193) rfl)), (mt_4 (List.mem_of_getElem? (i := 194) rfl))⟩
theorem YX11_book : ev_YV yX11_book cX11_book 3 (some .int) 2 := ⟨⟨(mt_4 (List.mem_of_getElem? (i := 191) rfl)), (mt_1 (List.mem_of_getElem? (i := 1) rfl)), by decide +kernel, by decide⟩, (mt_4 (List.mem_of_getElem? (i := 189) rfl)), (mt_4 (List.mem_of_getElem? (i := 190) rfl))⟩
theorem YX9_allStrokes : ev_YV yX9_allStrokes cX9_allStrokes 3 (some .int) 0 := ⟨⟨(mt_4 (List.mem_of_getElem? (i := 204) rfl)), (mt_1 (List.mem_of_getElem? (i := 3) rfl)), by decide +kernel, by decide⟩, (mt_4 (List.mem_of_getElem? (i := 202) rfl)), (mt_4 (List.mem_of_getElem? (i := 203) rfl))⟩
theorem YX11_goes : ev_YV yX11_goes cX11_goes 5 (some .int) 2 := ⟨⟨(mt_4 (List.mem_of_getElem? (i := 199) rfl)), (mt_1 (List.mem_of_getElem? (i := 1) rfl)), by decide +kernel, by decide⟩, (mt_4 (List.mem_of_getElem? (i := 197) rfl)), (mt_4 (List.mem_of_getElem? (i := 198) rfl))⟩
theorem YX3_change : ev_YV yX3_change cX3_change 6 none 2 := ⟨⟨(mt_4 (List.mem_of_getElem? (i := 225) rfl)), (mt_1 (List.mem_of_getElem? (i := 14) rfl)), by decide +kernel, by decide⟩, (mt_4 (List.mem_of_getElem? (i := 224) rfl)), (List.mem_of_getElem? (i := 33) (by decide +kernel))⟩
theorem YX3_rowAsNumber : ev_YV yX3_rowAsNumber cX3_rowAsNumber 3 (some .int) 0 := ⟨⟨(mt_4 (List.mem_of_getElem? (i := 221) rfl)), (mt_1 (List.mem_of_getElem? (i := 14) rfl)), by decide +kernel, by decide⟩, (mt_4 (List.mem_of_getElem? (i := 220) rfl)), (List.mem_of_getElem? (i := 32) (by decide +kernel))⟩
theorem YX3_startRounds : ev_YV yX3_startRounds cX3_startRounds 2 none 0 := ⟨⟨(mt_4 (List.mem_of_getElem? (i := 217) rfl)), (mt_1 (List.mem_of_getElem? (i := 14) rfl)), by decide +kernel, by decide⟩, (mt_4 (List.mem_of_getElem? (i := 216) rfl)), (List.mem_of_getElem? (i := 31) (by decide +kernel))⟩
theorem YX3_rowsToRepeat : ev_YV yX3_rowsToRepeat cX3_rowsToRepeat 4 (some .int) 1 := ⟨⟨(mt_4 (List.mem_of_getElem? (i := 231) rfl)), (mt_1 (List.mem_of_getElem? (i := 14) rfl)), by decide +kernel, by decide⟩, (mt_4 (List.mem_of_getElem? (i := 229) rfl)), (mt_4 (List.mem_of_getElem? (i := 230) rfl))⟩
theorem YX3_rowsToRounds : ev_YV yX3_rowsToRounds cX3_rowsToRounds 4 (some .int) 1 := ⟨⟨(mt_4 (List.mem_of_getElem? (i := 213) rfl)), (mt_1 (List.mem_of_getElem? (i := 14) rfl)), by decide +kernel, by decide⟩, (mt_4 (List.mem_of_getElem? (i := 211) rfl)), (mt_4 (List.mem_of_getElem? (i := 212) rfl))⟩
theorem YX11_peal : ev_YV yX11_peal cX11_peal 3 (some .int) 2 := ⟨⟨(mt_4 (List.mem_of_getElem? (i := 209) rfl)), (mt_1 (List.mem_of_getElem? (i := 1) rfl)), by decide +kernel, by decide⟩, (mt_4 (List.mem_of_getElem? (i := 207) rfl)), (mt_4 (List.mem_of_getElem? (i := 208) rfl))⟩
theorem YX3_bellAt : ev_YV yX3_bellAt cX3_bellAt 5 (some .int) 3 := ⟨⟨(mt_4 (List.mem_of_getElem? (i := 239) rfl)), (mt_1 (List.mem_of_getElem? (i := 14) rfl)), by decide +kernel, by decide⟩, (mt_4 (List.mem_of_getElem? (i := 237) rfl)), (mt_4 (List.mem_of_getElem? (i := 238) rfl))⟩
theorem YX11_row : ev_YV yX11_row cX11_row 4 (some .int) 3 := ⟨⟨(mt_4 (List.mem_of_getElem? (i := 235) rfl)), (mt_1 (List.mem_of_getElem? (i := 1) rfl)), by decide +kernel, by decide⟩, (mt_4 (List.mem_of_getElem? (i := 233) rfl)), (mt_4 (List.mem_of_getElem? (i := 234) rfl))⟩
theorem YX11_sign : ev_YV yX11_sign cX11_sign 4 (some .int) 2 := ⟨⟨(mt_5 (List.mem_of_getElem? (i := 4) rfl)), (mt_1 (List.mem_of_getElem? (i := 1) rfl)), by decide +kernel, by decide⟩, (mt_5 (List.mem_of_getElem? (i := 2) rfl)), (mt_5 (List.mem_of_getElem? (i := 3) rfl))⟩
theorem YX3_apart : ev_YV yX3_apart cX3_apart 5 (some .int) 0 := ⟨⟨(mt_5 (List.mem_of_getElem? (i := 15) rfl)), (mt_1 (List.mem_of_getElem? (i := 14) rfl)), by decide +kernel, by decide⟩, (mt_5 (List.mem_of_getElem? (i := 13) rfl)), (mt_5 (List.mem_of_getElem? (i := 14) rfl))⟩
theorem YJ9_floorDiv : ev_YS yJ9_floorDiv_7cf53 cJ9_floorDiv_7cf53 3 (some .int) 2 := ⟨⟨(mt_5 (List.mem_of_getElem? (i := 24) rfl)), (mt_1 (List.mem_of_getElem? (i := 6) rfl)), by decide +kernel, by decide⟩, (mt_5 (List.mem_of_getElem? (i := 23) rfl))⟩
theorem YX3_canGoWrong : ev_YV yX3_canGoWrong cX3_canGoWrong 2 (some .int) 0 := ⟨⟨(mt_5 (List.mem_of_getElem? (i := 20) rfl)), (mt_1 (List.mem_of_getElem? (i := 14) rfl)), by decide +kernel, by decide⟩, (mt_5 (List.mem_of_getElem? (i := 18) rfl)), (mt_5 (List.mem_of_getElem? (i := 19) rfl))⟩
theorem YX3_nearestSign : ev_YV yX3_nearestSign cX3_nearestSign 7 (some .int) 2 := ⟨⟨(mt_5 (List.mem_of_getElem? (i := 29) rfl)), (mt_1 (List.mem_of_getElem? (i := 14) rfl)), by decide +kernel, by decide⟩, (mt_5 (List.mem_of_getElem? (i := 27) rfl)), (mt_5 (List.mem_of_getElem? (i := 28) rfl))⟩
theorem YX11_meant : ev_YV yX11_meant cX11_meant 3 (some .int) 2 := ⟨⟨(mt_5 (List.mem_of_getElem? (i := 11) rfl)), (mt_1 (List.mem_of_getElem? (i := 1) rfl)), by decide +kernel, by decide⟩, (mt_5 (List.mem_of_getElem? (i := 9) rfl)), (mt_5 (List.mem_of_getElem? (i := 10) rfl))⟩
theorem YX11_round : ev_YV yX11_round cX11_round 4 (some .int) 2 := ⟨⟨(mt_5 (List.mem_of_getElem? (i := 33) rfl)), (mt_1 (List.mem_of_getElem? (i := 1) rfl)), by decide +kernel, by decide⟩, (mt_5 (List.mem_of_getElem? (i := 31) rfl)), (mt_5 (List.mem_of_getElem? (i := 32) rfl))⟩
theorem YX3_leastCommon : ev_YS yX3_leastCommon cX3_leastCommon 4 (some .int) 2 := ⟨⟨(mt_5 (List.mem_of_getElem? (i := 48) rfl)), (mt_1 (List.mem_of_getElem? (i := 14) rfl)), by decide +kernel, by decide⟩, (mt_5 (List.mem_of_getElem? (i := 47) rfl))⟩
theorem YX3_ringsAt : ev_YV yX3_ringsAt cX3_ringsAt 4 (some .boolean) 2 := ⟨⟨(mt_5 (List.mem_of_getElem? (i := 45) rfl)), (mt_1 (List.mem_of_getElem? (i := 14) rfl)), by decide +kernel, by decide⟩, (mt_5 (List.mem_of_getElem? (i := 44) rfl)), (List.mem_of_getElem? (i := 34) (by decide +kernel))⟩
theorem YX3_firstTogether : ev_YV yX3_firstTogether cX3_firstTogether 6 (some .int) 0 := ⟨⟨(mt_5 (List.mem_of_getElem? (i := 41) rfl)), (mt_1 (List.mem_of_getElem? (i := 14) rfl)), by decide +kernel, by decide⟩, (mt_5 (List.mem_of_getElem? (i := 39) rfl)), (mt_5 (List.mem_of_getElem? (i := 40) rfl))⟩
theorem YX3_ringAt : ev_YV yX3_ringAt cX3_ringAt 4 (some .int) 1 := ⟨⟨(mt_5 (List.mem_of_getElem? (i := 52) rfl)), (mt_1 (List.mem_of_getElem? (i := 14) rfl)), by decide +kernel, by decide⟩, (mt_5 (List.mem_of_getElem? (i := 50) rfl)), (mt_5 (List.mem_of_getElem? (i := 51) rfl))⟩
theorem YX11_together : ev_YV yX11_together cX11_together 2 (some .int) 1 := ⟨⟨(mt_5 (List.mem_of_getElem? (i := 37) rfl)), (mt_1 (List.mem_of_getElem? (i := 1) rfl)), by decide +kernel, by decide⟩, (mt_5 (List.mem_of_getElem? (i := 35) rfl)), (mt_5 (List.mem_of_getElem? (i := 36) rfl))⟩
theorem YX11_hold : ev_YV yX11_hold cX11_hold 4 (some .boolean) 3 := ⟨⟨(mt_5 (List.mem_of_getElem? (i := 56) rfl)), (mt_1 (List.mem_of_getElem? (i := 1) rfl)), by decide +kernel, by decide⟩, (mt_5 (List.mem_of_getElem? (i := 54) rfl)), (mt_5 (List.mem_of_getElem? (i := 55) rfl))⟩
theorem YX8_holdOf : ev_YV yX8_holdOf cX8_holdOf 3 (some .int) 2 := ⟨⟨(mt_5 (List.mem_of_getElem? (i := 68) rfl)), (mt_1 (List.mem_of_getElem? (i := 10) rfl)), by decide +kernel, by decide⟩, (mt_5 (List.mem_of_getElem? (i := 66) rfl)), (mt_5 (List.mem_of_getElem? (i := 67) rfl))⟩
theorem YX3_firstBellFor : ev_YV yX3_firstBellFor cX3_firstBellFor 5 (some .int) 3 := ⟨⟨(mt_5 (List.mem_of_getElem? (i := 79) rfl)), (mt_1 (List.mem_of_getElem? (i := 14) rfl)), by decide +kernel, by decide⟩, (mt_5 (List.mem_of_getElem? (i := 78) rfl)), (List.mem_of_getElem? (i := 35) (by decide +kernel))⟩
theorem YX3_weakestHold : ev_YV yX3_weakestHold cX3_weakestHold 5 (some .int) 0 := ⟨⟨(mt_5 (List.mem_of_getElem? (i := 64) rfl)), (mt_1 (List.mem_of_getElem? (i := 14) rfl)), by decide +kernel, by decide⟩, (mt_5 (List.mem_of_getElem? (i := 62) rfl)), (mt_5 (List.mem_of_getElem? (i := 63) rfl))⟩
theorem YX3_heldBy : ev_YV yX3_heldBy cX3_heldBy 6 (some .int) 1 := ⟨⟨(mt_5 (List.mem_of_getElem? (i := 74) rfl)), (mt_1 (List.mem_of_getElem? (i := 14) rfl)), by decide +kernel, by decide⟩, (mt_5 (List.mem_of_getElem? (i := 72) rfl)), (mt_5 (List.mem_of_getElem? (i := 73) rfl))⟩
theorem YX11_holds : ev_YV yX11_holds cX11_holds 3 (some .int) 1 := ⟨⟨(mt_5 (List.mem_of_getElem? (i := 60) rfl)), (mt_1 (List.mem_of_getElem? (i := 1) rfl)), by decide +kernel, by decide⟩, (mt_5 (List.mem_of_getElem? (i := 58) rfl)), (mt_5 (List.mem_of_getElem? (i := 59) rfl))⟩
theorem YX11_see : ev_YV yX11_see cX11_see 4 (some .int) 2 := ⟨⟨(mt_5 (List.mem_of_getElem? (i := 83) rfl)), (mt_1 (List.mem_of_getElem? (i := 1) rfl)), by decide +kernel, by decide⟩, (mt_5 (List.mem_of_getElem? (i := 81) rfl)), (mt_5 (List.mem_of_getElem? (i := 82) rfl))⟩
theorem YJ7_fill : ev_YS yJ7_fill_53178 cJ7_fill_53178 4 none 2 := ⟨⟨(mt_1 (List.mem_of_getElem? (i := 45) rfl)), (mt_1 (List.mem_of_getElem? (i := 4) rfl)), by decide +kernel, by decide⟩, (mt_1 (List.mem_of_getElem? (i := 44) rfl))⟩
theorem YX3_fillNear : ev_YV yX3_fillNear cX3_fillNear 6 none 2 := ⟨⟨(mt_5 (List.mem_of_getElem? (i := 95) rfl)), (mt_1 (List.mem_of_getElem? (i := 14) rfl)), by decide +kernel, by decide⟩, (mt_5 (List.mem_of_getElem? (i := 94) rfl)), (List.mem_of_getElem? (i := 36) (by decide +kernel))⟩
theorem YX3_stepOn : ev_YV yX3_stepOn cX3_stepOn 6 (some .int) 2 := ⟨⟨(mt_5 (List.mem_of_getElem? (i := 100) rfl)), (mt_1 (List.mem_of_getElem? (i := 14) rfl)), by decide +kernel, by decide⟩, (mt_5 (List.mem_of_getElem? (i := 99) rfl)), (List.mem_of_getElem? (i := 37) (by decide +kernel))⟩
theorem YX3_wavesBetween : ev_YV yX3_wavesBetween cX3_wavesBetween 7 (some .int) 3 := ⟨⟨(mt_5 (List.mem_of_getElem? (i := 91) rfl)), (mt_1 (List.mem_of_getElem? (i := 14) rfl)), by decide +kernel, by decide⟩, (mt_5 (List.mem_of_getElem? (i := 89) rfl)), (mt_5 (List.mem_of_getElem? (i := 90) rfl))⟩
theorem YX11_waves : ev_YV yX11_waves cX11_waves 4 (some .int) 3 := ⟨⟨(mt_5 (List.mem_of_getElem? (i := 87) rfl)), (mt_1 (List.mem_of_getElem? (i := 1) rfl)), by decide +kernel, by decide⟩, (mt_5 (List.mem_of_getElem? (i := 85) rfl)), (mt_5 (List.mem_of_getElem? (i := 86) rfl))⟩
theorem YX3_heavyOf : ev_YV yX3_heavyOf cX3_heavyOf 4 (some .int) 1 := ⟨⟨(mt_5 (List.mem_of_getElem? (i := 112) rfl)), (mt_1 (List.mem_of_getElem? (i := 14) rfl)), by decide +kernel, by decide⟩, (mt_5 (List.mem_of_getElem? (i := 111) rfl)), (List.mem_of_getElem? (i := 38) (by decide +kernel))⟩
theorem YX3_borne : ev_YV yX3_borne cX3_borne 9 (some .int) 2 := ⟨⟨(mt_5 (List.mem_of_getElem? (i := 108) rfl)), (mt_1 (List.mem_of_getElem? (i := 14) rfl)), by decide +kernel, by decide⟩, (mt_5 (List.mem_of_getElem? (i := 106) rfl)), (mt_5 (List.mem_of_getElem? (i := 107) rfl))⟩
theorem YX11_bears : ev_YV yX11_bears cX11_bears 3 (some .int) 2 := ⟨⟨(mt_5 (List.mem_of_getElem? (i := 104) rfl)), (mt_1 (List.mem_of_getElem? (i := 1) rfl)), by decide +kernel, by decide⟩, (mt_5 (List.mem_of_getElem? (i := 102) rfl)), (mt_5 (List.mem_of_getElem? (i := 103) rfl))⟩
theorem YX11_pigeon : ev_YV yX11_pigeon cX11_pigeon 3 (some .int) 1 := ⟨⟨(mt_5 (List.mem_of_getElem? (i := 116) rfl)), (mt_1 (List.mem_of_getElem? (i := 1) rfl)), by decide +kernel, by decide⟩, (mt_5 (List.mem_of_getElem? (i := 114) rfl)), (mt_5 (List.mem_of_getElem? (i := 115) rfl))⟩
theorem YX3_bestHours : ev_YV yX3_bestHours cX3_bestHours 9 (some .int) 2 := ⟨⟨(mt_5 (List.mem_of_getElem? (i := 124) rfl)), (mt_1 (List.mem_of_getElem? (i := 14) rfl)), by decide +kernel, by decide⟩, (mt_5 (List.mem_of_getElem? (i := 122) rfl)), (mt_5 (List.mem_of_getElem? (i := 123) rfl))⟩
theorem YX11_best : ev_YV yX11_best cX11_best 4 (some .int) 2 := ⟨⟨(mt_5 (List.mem_of_getElem? (i := 120) rfl)), (mt_1 (List.mem_of_getElem? (i := 1) rfl)), by decide +kernel, by decide⟩, (mt_5 (List.mem_of_getElem? (i := 118) rfl)), (mt_5 (List.mem_of_getElem? (i := 119) rfl))⟩
theorem YX11_stranger : ev_YV yX11_stranger cX11_stranger 4 (some .int) 2 := ⟨⟨(mt_5 (List.mem_of_getElem? (i := 128) rfl)), (mt_1 (List.mem_of_getElem? (i := 1) rfl)), by decide +kernel, by decide⟩, (mt_5 (List.mem_of_getElem? (i := 126) rfl)), (mt_5 (List.mem_of_getElem? (i := 127) rfl))⟩
theorem YX3_knowNext : ev_YV yX3_knowNext cX3_knowNext 4 (some .int) 1 := ⟨⟨(mt_5 (List.mem_of_getElem? (i := 147) rfl)), (mt_1 (List.mem_of_getElem? (i := 14) rfl)), by decide +kernel, by decide⟩, (mt_5 (List.mem_of_getElem? (i := 146) rfl)), (List.mem_of_getElem? (i := 40) (by decide +kernel))⟩
theorem YX3_news : ev_YV yX3_news cX3_news 7 (some .int) 2 := ⟨⟨(mt_5 (List.mem_of_getElem? (i := 151) rfl)), (mt_1 (List.mem_of_getElem? (i := 14) rfl)), by decide +kernel, by decide⟩, (mt_5 (List.mem_of_getElem? (i := 149) rfl)), (mt_5 (List.mem_of_getElem? (i := 150) rfl))⟩
theorem YJ6_lowestOneBit : ev_YS yJ6_lowestOneBit_0f7a4 cJ6_lowestOneBit_0f7a4 1 (some .int) 1 := ⟨⟨(mt_5 (List.mem_of_getElem? (i := 143) rfl)), (mt_1 (List.mem_of_getElem? (i := 17) rfl)), by decide +kernel, by decide⟩, (mt_5 (List.mem_of_getElem? (i := 142) rfl))⟩
theorem YX3_knownWithout : ev_YV yX3_knownWithout cX3_knownWithout 4 (some .int) 1 := ⟨⟨(mt_5 (List.mem_of_getElem? (i := 140) rfl)), (mt_1 (List.mem_of_getElem? (i := 14) rfl)), by decide +kernel, by decide⟩, (mt_5 (List.mem_of_getElem? (i := 139) rfl)), (List.mem_of_getElem? (i := 39) (by decide +kernel))⟩
theorem YX3_splits : ev_YV yX3_splits cX3_splits 3 (some .int) 0 := ⟨⟨(mt_5 (List.mem_of_getElem? (i := 136) rfl)), (mt_1 (List.mem_of_getElem? (i := 14) rfl)), by decide +kernel, by decide⟩, (mt_5 (List.mem_of_getElem? (i := 134) rfl)), (mt_5 (List.mem_of_getElem? (i := 135) rfl))⟩
theorem YX11_heard : ev_YV yX11_heard cX11_heard 3 (some .int) 2 := ⟨⟨(mt_5 (List.mem_of_getElem? (i := 132) rfl)), (mt_1 (List.mem_of_getElem? (i := 1) rfl)), by decide +kernel, by decide⟩, (mt_5 (List.mem_of_getElem? (i := 130) rfl)), (mt_5 (List.mem_of_getElem? (i := 131) rfl))⟩
theorem YX3_weightOf : ev_YV yX3_weightOf cX3_weightOf 2 (some .int) 1 := ⟨⟨(mt_5 (List.mem_of_getElem? (i := 163) rfl)), (mt_1 (List.mem_of_getElem? (i := 14) rfl)), by decide +kernel, by decide⟩, (mt_5 (List.mem_of_getElem? (i := 162) rfl)), (List.mem_of_getElem? (i := 41) (by decide +kernel))⟩
theorem YX3_turnToBeFed : ev_YV yX3_turnToBeFed cX3_turnToBeFed 4 (some .int) 1 := ⟨⟨(mt_5 (List.mem_of_getElem? (i := 168) rfl)), (mt_1 (List.mem_of_getElem? (i := 14) rfl)), by decide +kernel, by decide⟩, (mt_5 (List.mem_of_getElem? (i := 167) rfl)), (List.mem_of_getElem? (i := 42) (by decide +kernel))⟩
theorem YX3_fedAt : ev_YV yX3_fedAt cX3_fedAt 3 (some .int) 1 := ⟨⟨(mt_5 (List.mem_of_getElem? (i := 172) rfl)), (mt_1 (List.mem_of_getElem? (i := 14) rfl)), by decide +kernel, by decide⟩, (mt_5 (List.mem_of_getElem? (i := 170) rfl)), (mt_5 (List.mem_of_getElem? (i := 171) rfl))⟩
theorem YX3_feedingSum : ev_YV yX3_feedingSum cX3_feedingSum 3 (some .int) 0 := ⟨⟨(mt_5 (List.mem_of_getElem? (i := 159) rfl)), (mt_1 (List.mem_of_getElem? (i := 14) rfl)), by decide +kernel, by decide⟩, (mt_5 (List.mem_of_getElem? (i := 157) rfl)), (mt_5 (List.mem_of_getElem? (i := 158) rfl))⟩
theorem YX11_feeds : ev_YV yX11_feeds cX11_feeds 2 (some .int) 1 := ⟨⟨(mt_5 (List.mem_of_getElem? (i := 155) rfl)), (mt_1 (List.mem_of_getElem? (i := 1) rfl)), by decide +kernel, by decide⟩, (mt_5 (List.mem_of_getElem? (i := 153) rfl)), (mt_5 (List.mem_of_getElem? (i := 154) rfl))⟩
theorem YX3_anyBeat : ev_YV yX3_anyBeat cX3_anyBeat 3 (some .boolean) 1 := ⟨⟨(mt_5 (List.mem_of_getElem? (i := 188) rfl)), (mt_1 (List.mem_of_getElem? (i := 14) rfl)), by decide +kernel, by decide⟩, (mt_5 (List.mem_of_getElem? (i := 187) rfl)), (List.mem_of_getElem? (i := 44) (by decide +kernel))⟩
theorem YX3_beat : ev_YV yX3_beat cX3_beat 5 (some .boolean) 2 := ⟨⟨(mt_5 (List.mem_of_getElem? (i := 184) rfl)), (mt_1 (List.mem_of_getElem? (i := 14) rfl)), by decide +kernel, by decide⟩, (mt_5 (List.mem_of_getElem? (i := 183) rfl)), (List.mem_of_getElem? (i := 43) (by decide +kernel))⟩
theorem YX3_castAnew : ev_YV yX3_castAnew cX3_castAnew 4 (some .int) 1 := ⟨⟨(mt_5 (List.mem_of_getElem? (i := 180) rfl)), (mt_1 (List.mem_of_getElem? (i := 14) rfl)), by decide +kernel, by decide⟩, (mt_5 (List.mem_of_getElem? (i := 178) rfl)), (mt_5 (List.mem_of_getElem? (i := 179) rfl))⟩
theorem YX11_casts : ev_YV yX11_casts cX11_casts 2 (some .int) 1 := ⟨⟨(mt_5 (List.mem_of_getElem? (i := 176) rfl)), (mt_1 (List.mem_of_getElem? (i := 1) rfl)), by decide +kernel, by decide⟩, (mt_5 (List.mem_of_getElem? (i := 174) rfl)), (mt_5 (List.mem_of_getElem? (i := 175) rfl))⟩
theorem YX11_opinion : ev_YV yX11_opinion cX11_opinion 3 (some .boolean) 2 := ⟨⟨(mt_5 (List.mem_of_getElem? (i := 192) rfl)), (mt_1 (List.mem_of_getElem? (i := 1) rfl)), by decide +kernel, by decide⟩, (mt_5 (List.mem_of_getElem? (i := 190) rfl)), (mt_5 (List.mem_of_getElem? (i := 191) rfl))⟩
theorem YX3_opinionOfAwake : ev_YV yX3_opinionOfAwake cX3_opinionOfAwake 3 (some .int) 0 := ⟨⟨(mt_5 (List.mem_of_getElem? (i := 200) rfl)), (mt_1 (List.mem_of_getElem? (i := 14) rfl)), by decide +kernel, by decide⟩, (mt_5 (List.mem_of_getElem? (i := 198) rfl)), (mt_5 (List.mem_of_getElem? (i := 199) rfl))⟩
theorem YX3_countSets : ev_YV yX3_countSets cX3_countSets 5 none 1 := ⟨⟨(mt_5 (List.mem_of_getElem? (i := 209) rfl)), (mt_1 (List.mem_of_getElem? (i := 14) rfl)), by decide +kernel, by decide⟩, (mt_5 (List.mem_of_getElem? (i := 208) rfl)), (List.mem_of_getElem? (i := 45) (by decide +kernel))⟩
theorem YX3_swings : ev_YV yX3_swings cX3_swings 3 (some .int) 0 := ⟨⟨(mt_5 (List.mem_of_getElem? (i := 205) rfl)), (mt_1 (List.mem_of_getElem? (i := 14) rfl)), by decide +kernel, by decide⟩, (mt_5 (List.mem_of_getElem? (i := 203) rfl)), (mt_5 (List.mem_of_getElem? (i := 204) rfl))⟩
theorem YX3_turns : ev_YV yX3_turns cX3_turns 4 (some .int) 1 := ⟨⟨(mt_5 (List.mem_of_getElem? (i := 214) rfl)), (mt_1 (List.mem_of_getElem? (i := 14) rfl)), by decide +kernel, by decide⟩, (mt_5 (List.mem_of_getElem? (i := 212) rfl)), (mt_5 (List.mem_of_getElem? (i := 213) rfl))⟩
theorem YX11_peals : ev_YV yX11_peals cX11_peals 2 (some .int) 1 := ⟨⟨(mt_5 (List.mem_of_getElem? (i := 196) rfl)), (mt_1 (List.mem_of_getElem? (i := 1) rfl)), by decide +kernel, by decide⟩, (mt_5 (List.mem_of_getElem? (i := 194) rfl)), (mt_5 (List.mem_of_getElem? (i := 195) rfl))⟩
theorem YX3_nimberOf : ev_YV yX3_nimberOf cX3_nimberOf 2 (some .int) 1 := ⟨⟨(mt_5 (List.mem_of_getElem? (i := 226) rfl)), (mt_1 (List.mem_of_getElem? (i := 14) rfl)), by decide +kernel, by decide⟩, (mt_5 (List.mem_of_getElem? (i := 225) rfl)), (List.mem_of_getElem? (i := 46) (by decide +kernel))⟩
theorem YX3_loosedWell : ev_YV yX3_loosedWell cX3_loosedWell 4 (some .int) 2 := ⟨⟨(mt_5 (List.mem_of_getElem? (i := 231) rfl)), (mt_1 (List.mem_of_getElem? (i := 14) rfl)), by decide +kernel, by decide⟩, (mt_5 (List.mem_of_getElem? (i := 230) rfl)), (List.mem_of_getElem? (i := 47) (by decide +kernel))⟩
theorem YX3_goodMove : ev_YV yX3_goodMove cX3_goodMove 5 (some .int) 1 := ⟨⟨(mt_5 (List.mem_of_getElem? (i := 222) rfl)), (mt_1 (List.mem_of_getElem? (i := 14) rfl)), by decide +kernel, by decide⟩, (mt_5 (List.mem_of_getElem? (i := 220) rfl)), (mt_5 (List.mem_of_getElem? (i := 221) rfl))⟩
theorem YX11_game : ev_YV yX11_game cX11_game 2 (some .int) 1 := ⟨⟨(mt_5 (List.mem_of_getElem? (i := 218) rfl)), (mt_1 (List.mem_of_getElem? (i := 1) rfl)), by decide +kernel, by decide⟩, (mt_5 (List.mem_of_getElem? (i := 216) rfl)), (mt_5 (List.mem_of_getElem? (i := 217) rfl))⟩
theorem YX2_goBack : ev_YV yX2_goBack cX2_goBack 3 (some .boolean) 2 := ⟨⟨(mt_5 (List.mem_of_getElem? (i := 239) rfl)), (mt_1 (List.mem_of_getElem? (i := 11) rfl)), by decide +kernel, by decide⟩, (mt_5 (List.mem_of_getElem? (i := 237) rfl)), (mt_5 (List.mem_of_getElem? (i := 238) rfl))⟩
theorem YX11_undo : ev_YV yX11_undo cX11_undo 1 (some .boolean) 0 := ⟨⟨(mt_5 (List.mem_of_getElem? (i := 235) rfl)), (mt_1 (List.mem_of_getElem? (i := 1) rfl)), by decide +kernel, by decide⟩, (mt_5 (List.mem_of_getElem? (i := 233) rfl)), (mt_5 (List.mem_of_getElem? (i := 234) rfl))⟩
theorem YX11_look : ev_YV yX11_look cX11_look 4 (some .int) 1 := ⟨⟨(mt_6 (List.mem_of_getElem? (i := 28) rfl)), (mt_1 (List.mem_of_getElem? (i := 1) rfl)), by decide +kernel, by decide⟩, (mt_6 (List.mem_of_getElem? (i := 26) rfl)), (mt_6 (List.mem_of_getElem? (i := 27) rfl))⟩
theorem YX12_undo : ev_YV yX12_undo cX12_undo 2 (some .boolean) 0 := ⟨⟨(mt_7 (List.mem_of_getElem? (i := 0) rfl)), (mt_1 (List.mem_of_getElem? (i := 15) rfl)), by decide +kernel, by decide⟩, (mt_6 (List.mem_of_getElem? (i := 238) rfl)), (mt_6 (List.mem_of_getElem? (i := 239) rfl))⟩
theorem YX12_state : ev_YV yX12_state cX12_state 3 (some .int) 1 := ⟨⟨(mt_7 (List.mem_of_getElem? (i := 4) rfl)), (mt_1 (List.mem_of_getElem? (i := 15) rfl)), by decide +kernel, by decide⟩, (mt_7 (List.mem_of_getElem? (i := 2) rfl)), (mt_7 (List.mem_of_getElem? (i := 3) rfl))⟩
theorem YX12_isBell : ev_YV yX12_isBell cX12_isBell 2 (some .boolean) 1 := ⟨⟨(mt_7 (List.mem_of_getElem? (i := 12) rfl)), (mt_1 (List.mem_of_getElem? (i := 15) rfl)), by decide +kernel, by decide⟩, (mt_7 (List.mem_of_getElem? (i := 11) rfl)), (List.mem_of_getElem? (i := 48) (by decide +kernel))⟩
theorem YX12_isIn : ev_YV yX12_isIn cX12_isIn 4 (some .boolean) 3 := ⟨⟨(mt_7 (List.mem_of_getElem? (i := 16) rfl)), (mt_1 (List.mem_of_getElem? (i := 15) rfl)), by decide +kernel, by decide⟩, (mt_7 (List.mem_of_getElem? (i := 15) rfl)), (List.mem_of_getElem? (i := 49) (by decide +kernel))⟩
theorem YX12_ringer : ev_YV yX12_ringer cX12_ringer 4 (some .int) 3 := ⟨⟨(mt_7 (List.mem_of_getElem? (i := 8) rfl)), (mt_1 (List.mem_of_getElem? (i := 15) rfl)), by decide +kernel, by decide⟩, (mt_7 (List.mem_of_getElem? (i := 6) rfl)), (mt_7 (List.mem_of_getElem? (i := 7) rfl))⟩
theorem YX12_isRinger : ev_YV yX12_isRinger cX12_isRinger 2 (some .boolean) 1 := ⟨⟨(mt_7 (List.mem_of_getElem? (i := 28) rfl)), (mt_1 (List.mem_of_getElem? (i := 15) rfl)), by decide +kernel, by decide⟩, (mt_7 (List.mem_of_getElem? (i := 27) rfl)), (List.mem_of_getElem? (i := 51) (by decide +kernel))⟩
theorem YX12_canSet : ev_YV yX12_canSet cX12_canSet 4 (some .boolean) 3 := ⟨⟨(mt_7 (List.mem_of_getElem? (i := 24) rfl)), (mt_1 (List.mem_of_getElem? (i := 15) rfl)), by decide +kernel, by decide⟩, (mt_7 (List.mem_of_getElem? (i := 23) rfl)), (List.mem_of_getElem? (i := 50) (by decide +kernel))⟩
theorem YX12_set : ev_YV yX12_set cX12_set 4 (some .boolean) 3 := ⟨⟨(mt_7 (List.mem_of_getElem? (i := 20) rfl)), (mt_1 (List.mem_of_getElem? (i := 15) rfl)), by decide +kernel, by decide⟩, (mt_7 (List.mem_of_getElem? (i := 18) rfl)), (mt_7 (List.mem_of_getElem? (i := 19) rfl))⟩
theorem YX12_types : ev_YV yX12_types cX12_types 3 none 1 := ⟨⟨(mt_7 (List.mem_of_getElem? (i := 36) rfl)), (mt_1 (List.mem_of_getElem? (i := 15) rfl)), by decide +kernel, by decide⟩, (mt_7 (List.mem_of_getElem? (i := 35) rfl)), (List.mem_of_getElem? (i := 52) (by decide +kernel))⟩
theorem YX12_feed : ev_YV yX12_feed cX12_feed 6 (some .int) 5 := ⟨⟨(mt_7 (List.mem_of_getElem? (i := 32) rfl)), (mt_1 (List.mem_of_getElem? (i := 15) rfl)), by decide +kernel, by decide⟩, (mt_7 (List.mem_of_getElem? (i := 30) rfl)), (mt_7 (List.mem_of_getElem? (i := 31) rfl))⟩
theorem YX12_end : ev_YV yX12_end cX12_end 2 (some .boolean) 1 := ⟨⟨(mt_7 (List.mem_of_getElem? (i := 40) rfl)), (mt_1 (List.mem_of_getElem? (i := 15) rfl)), by decide +kernel, by decide⟩, (mt_7 (List.mem_of_getElem? (i := 38) rfl)), (mt_7 (List.mem_of_getElem? (i := 39) rfl))⟩
theorem YX12_errs : ev_YV yX12_errs cX12_errs 2 (some .int) 1 := ⟨⟨(mt_7 (List.mem_of_getElem? (i := 84) rfl)), (mt_1 (List.mem_of_getElem? (i := 15) rfl)), by decide +kernel, by decide⟩, (mt_7 (List.mem_of_getElem? (i := 83) rfl)), (List.mem_of_getElem? (i := 62) (by decide +kernel))⟩
theorem YX12_isWord : ev_YV yX12_isWord cX12_isWord 2 (some .boolean) 1 := ⟨⟨(mt_7 (List.mem_of_getElem? (i := 80) rfl)), (mt_1 (List.mem_of_getElem? (i := 15) rfl)), by decide +kernel, by decide⟩, (mt_7 (List.mem_of_getElem? (i := 79) rfl)), (List.mem_of_getElem? (i := 61) (by decide +kernel))⟩
theorem YX12_isSign : ev_YV yX12_isSign cX12_isSign 2 (some .boolean) 1 := ⟨⟨(mt_7 (List.mem_of_getElem? (i := 104) rfl)), (mt_1 (List.mem_of_getElem? (i := 15) rfl)), by decide +kernel, by decide⟩, (mt_7 (List.mem_of_getElem? (i := 103) rfl)), (List.mem_of_getElem? (i := 67) (by decide +kernel))⟩
theorem YX12_isDigit : ev_YV yX12_isDigit cX12_isDigit 2 (some .boolean) 1 := ⟨⟨(mt_7 (List.mem_of_getElem? (i := 68) rfl)), (mt_1 (List.mem_of_getElem? (i := 15) rfl)), by decide +kernel, by decide⟩, (mt_7 (List.mem_of_getElem? (i := 67) rfl)), (List.mem_of_getElem? (i := 58) (by decide +kernel))⟩
theorem YX12_isLetter : ev_YV yX12_isLetter cX12_isLetter 2 (some .boolean) 1 := ⟨⟨(mt_7 (List.mem_of_getElem? (i := 60) rfl)), (mt_1 (List.mem_of_getElem? (i := 15) rfl)), by decide +kernel, by decide⟩, (mt_7 (List.mem_of_getElem? (i := 59) rfl)), (List.mem_of_getElem? (i := 56) (by decide +kernel))⟩
theorem YX12_isMarkSign : ev_YV yX12_isMarkSign cX12_isMarkSign 2 (some .boolean) 1 := ⟨⟨(mt_7 (List.mem_of_getElem? (i := 72) rfl)), (mt_1 (List.mem_of_getElem? (i := 15) rfl)), by decide +kernel, by decide⟩, (mt_7 (List.mem_of_getElem? (i := 71) rfl)), (List.mem_of_getElem? (i := 59) (by decide +kernel))⟩
theorem YX12_raw : ev_YV yX12_raw cX12_raw 2 (some .int) 1 := ⟨⟨(mt_7 (List.mem_of_getElem? (i := 56) rfl)), (mt_1 (List.mem_of_getElem? (i := 15) rfl)), by decide +kernel, by decide⟩, (mt_7 (List.mem_of_getElem? (i := 55) rfl)), (List.mem_of_getElem? (i := 55) (by decide +kernel))⟩
theorem YX12_wordAt : ev_YV yX12_wordAt cX12_wordAt 6 (some .int) 2 := ⟨⟨(mt_7 (List.mem_of_getElem? (i := 64) rfl)), (mt_1 (List.mem_of_getElem? (i := 15) rfl)), by decide +kernel, by decide⟩, (mt_7 (List.mem_of_getElem? (i := 63) rfl)), (List.mem_of_getElem? (i := 57) (by decide +kernel))⟩
theorem YX12_reads : ev_YV yX12_reads cX12_reads 2 none 0 := ⟨⟨(mt_7 (List.mem_of_getElem? (i := 52) rfl)), (mt_1 (List.mem_of_getElem? (i := 15) rfl)), by decide +kernel, by decide⟩, (mt_7 (List.mem_of_getElem? (i := 51) rfl)), (List.mem_of_getElem? (i := 54) (by decide +kernel))⟩
theorem YX12_readMark : ev_YV yX12_readMark cX12_readMark 2 (some .int) 1 := ⟨⟨(mt_7 (List.mem_of_getElem? (i := 100) rfl)), (mt_1 (List.mem_of_getElem? (i := 15) rfl)), by decide +kernel, by decide⟩, (mt_7 (List.mem_of_getElem? (i := 99) rfl)), (List.mem_of_getElem? (i := 66) (by decide +kernel))⟩
theorem YX12_readNumber : ev_YV yX12_readNumber cX12_readNumber 4 (some .int) 2 := ⟨⟨(mt_7 (List.mem_of_getElem? (i := 96) rfl)), (mt_1 (List.mem_of_getElem? (i := 15) rfl)), by decide +kernel, by decide⟩, (mt_7 (List.mem_of_getElem? (i := 95) rfl)), (List.mem_of_getElem? (i := 65) (by decide +kernel))⟩
theorem YX12_readChange : ev_YV yX12_readChange cX12_readChange 5 (some .int) 1 := ⟨⟨(mt_7 (List.mem_of_getElem? (i := 120) rfl)), (mt_1 (List.mem_of_getElem? (i := 15) rfl)), by decide +kernel, by decide⟩, (mt_7 (List.mem_of_getElem? (i := 119) rfl)), (List.mem_of_getElem? (i := 71) (by decide +kernel))⟩
theorem YX12_readChanges : ev_YV yX12_readChanges cX12_readChanges 2 (some .int) 0 := ⟨⟨(mt_7 (List.mem_of_getElem? (i := 116) rfl)), (mt_1 (List.mem_of_getElem? (i := 15) rfl)), by decide +kernel, by decide⟩, (mt_7 (List.mem_of_getElem? (i := 115) rfl)), (List.mem_of_getElem? (i := 70) (by decide +kernel))⟩
theorem YX12_readTold : ev_YV yX12_readTold cX12_readTold 4 (some .int) 3 := ⟨⟨(mt_7 (List.mem_of_getElem? (i := 92) rfl)), (mt_1 (List.mem_of_getElem? (i := 15) rfl)), by decide +kernel, by decide⟩, (mt_7 (List.mem_of_getElem? (i := 91) rfl)), (List.mem_of_getElem? (i := 64) (by decide +kernel))⟩
theorem YX12_readDay : ev_YV yX12_readDay cX12_readDay 3 (some .int) 1 := ⟨⟨(mt_7 (List.mem_of_getElem? (i := 112) rfl)), (mt_1 (List.mem_of_getElem? (i := 15) rfl)), by decide +kernel, by decide⟩, (mt_7 (List.mem_of_getElem? (i := 111) rfl)), (List.mem_of_getElem? (i := 69) (by decide +kernel))⟩
theorem YX12_readDays : ev_YV yX12_readDays cX12_readDays 2 (some .int) 0 := ⟨⟨(mt_7 (List.mem_of_getElem? (i := 108) rfl)), (mt_1 (List.mem_of_getElem? (i := 15) rfl)), by decide +kernel, by decide⟩, (mt_7 (List.mem_of_getElem? (i := 107) rfl)), (List.mem_of_getElem? (i := 68) (by decide +kernel))⟩
theorem YX12_isLineWord : ev_YV yX12_isLineWord cX12_isLineWord 1 (some .boolean) 0 := ⟨⟨(mt_7 (List.mem_of_getElem? (i := 128) rfl)), (mt_1 (List.mem_of_getElem? (i := 15) rfl)), by decide +kernel, by decide⟩, (mt_7 (List.mem_of_getElem? (i := 127) rfl)), (List.mem_of_getElem? (i := 73) (by decide +kernel))⟩
theorem YX12_emits : ev_YV yX12_emits cX12_emits 3 none 2 := ⟨⟨(mt_7 (List.mem_of_getElem? (i := 148) rfl)), (mt_1 (List.mem_of_getElem? (i := 15) rfl)), by decide +kernel, by decide⟩, (mt_7 (List.mem_of_getElem? (i := 147) rfl)), (List.mem_of_getElem? (i := 78) (by decide +kernel))⟩
theorem YX12_canAsk : ev_YV yX12_canAsk cX12_canAsk 2 (some .boolean) 1 := ⟨⟨(mt_7 (List.mem_of_getElem? (i := 144) rfl)), (mt_1 (List.mem_of_getElem? (i := 15) rfl)), by decide +kernel, by decide⟩, (mt_7 (List.mem_of_getElem? (i := 143) rfl)), (List.mem_of_getElem? (i := 77) (by decide +kernel))⟩
theorem YX12_readUnit : ev_YV yX12_readUnit cX12_readUnit 2 (some .int) 0 := ⟨⟨(mt_7 (List.mem_of_getElem? (i := 140) rfl)), (mt_1 (List.mem_of_getElem? (i := 15) rfl)), by decide +kernel, by decide⟩, (mt_7 (List.mem_of_getElem? (i := 139) rfl)), (List.mem_of_getElem? (i := 76) (by decide +kernel))⟩
theorem YX12_readProduct : ev_YV yX12_readProduct cX12_readProduct 2 (some .int) 0 := ⟨⟨(mt_7 (List.mem_of_getElem? (i := 136) rfl)), (mt_1 (List.mem_of_getElem? (i := 15) rfl)), by decide +kernel, by decide⟩, (mt_7 (List.mem_of_getElem? (i := 135) rfl)), (List.mem_of_getElem? (i := 75) (by decide +kernel))⟩
theorem YX12_readSum : ev_YV yX12_readSum cX12_readSum 2 (some .int) 0 := ⟨⟨(mt_7 (List.mem_of_getElem? (i := 132) rfl)), (mt_1 (List.mem_of_getElem? (i := 15) rfl)), by decide +kernel, by decide⟩, (mt_7 (List.mem_of_getElem? (i := 131) rfl)), (List.mem_of_getElem? (i := 74) (by decide +kernel))⟩
theorem YX12_readCompared : ev_YV yX12_readCompared cX12_readCompared 2 (some .int) 0 := ⟨⟨(mt_7 (List.mem_of_getElem? (i := 160) rfl)), (mt_1 (List.mem_of_getElem? (i := 15) rfl)), by decide +kernel, by decide⟩, (mt_7 (List.mem_of_getElem? (i := 159) rfl)), (List.mem_of_getElem? (i := 81) (by decide +kernel))⟩
theorem YX12_settles : ev_YV yX12_settles cX12_settles 2 none 1 := ⟨⟨(mt_7 (List.mem_of_getElem? (i := 164) rfl)), (mt_1 (List.mem_of_getElem? (i := 15) rfl)), by decide +kernel, by decide⟩, (mt_7 (List.mem_of_getElem? (i := 163) rfl)), (List.mem_of_getElem? (i := 82) (by decide +kernel))⟩
theorem YX12_waits : ev_YV yX12_waits cX12_waits 2 none 1 := ⟨⟨(mt_7 (List.mem_of_getElem? (i := 156) rfl)), (mt_1 (List.mem_of_getElem? (i := 15) rfl)), by decide +kernel, by decide⟩, (mt_7 (List.mem_of_getElem? (i := 155) rfl)), (List.mem_of_getElem? (i := 80) (by decide +kernel))⟩
theorem YX12_readAny : ev_YV yX12_readAny cX12_readAny 4 (some .int) 0 := ⟨⟨(mt_7 (List.mem_of_getElem? (i := 152) rfl)), (mt_1 (List.mem_of_getElem? (i := 15) rfl)), by decide +kernel, by decide⟩, (mt_7 (List.mem_of_getElem? (i := 151) rfl)), (List.mem_of_getElem? (i := 79) (by decide +kernel))⟩
theorem YX12_readLaw : ev_YV yX12_readLaw cX12_readLaw 3 (some .int) 0 := ⟨⟨(mt_7 (List.mem_of_getElem? (i := 124) rfl)), (mt_1 (List.mem_of_getElem? (i := 15) rfl)), by decide +kernel, by decide⟩, (mt_7 (List.mem_of_getElem? (i := 123) rfl)), (List.mem_of_getElem? (i := 72) (by decide +kernel))⟩
theorem YX12_readRope : ev_YV yX12_readRope cX12_readRope 3 (some .int) 0 := ⟨⟨(mt_7 (List.mem_of_getElem? (i := 88) rfl)), (mt_1 (List.mem_of_getElem? (i := 15) rfl)), by decide +kernel, by decide⟩, (mt_7 (List.mem_of_getElem? (i := 87) rfl)), (List.mem_of_getElem? (i := 63) (by decide +kernel))⟩
theorem YX12_readRopes : ev_YV yX12_readRopes cX12_readRopes 2 (some .int) 0 := ⟨⟨(mt_7 (List.mem_of_getElem? (i := 76) rfl)), (mt_1 (List.mem_of_getElem? (i := 15) rfl)), by decide +kernel, by decide⟩, (mt_7 (List.mem_of_getElem? (i := 75) rfl)), (List.mem_of_getElem? (i := 60) (by decide +kernel))⟩
theorem YX12_readsText : ev_YV yX12_readsText cX12_readsText 2 (some .int) 1 := ⟨⟨(mt_7 (List.mem_of_getElem? (i := 48) rfl)), (mt_1 (List.mem_of_getElem? (i := 15) rfl)), by decide +kernel, by decide⟩, (mt_7 (List.mem_of_getElem? (i := 47) rfl)), (List.mem_of_getElem? (i := 53) (by decide +kernel))⟩
theorem YX12_takesLaw : ev_YV yX12_takesLaw cX12_takesLaw 3 none 1 := ⟨⟨(mt_7 (List.mem_of_getElem? (i := 168) rfl)), (mt_1 (List.mem_of_getElem? (i := 15) rfl)), by decide +kernel, by decide⟩, (mt_7 (List.mem_of_getElem? (i := 167) rfl)), (List.mem_of_getElem? (i := 83) (by decide +kernel))⟩
theorem YX12_takesOther : ev_YV yX12_takesOther cX12_takesOther 4 none 2 := ⟨⟨(mt_7 (List.mem_of_getElem? (i := 172) rfl)), (mt_1 (List.mem_of_getElem? (i := 15) rfl)), by decide +kernel, by decide⟩, (mt_7 (List.mem_of_getElem? (i := 171) rfl)), (List.mem_of_getElem? (i := 84) (by decide +kernel))⟩
theorem YX12_text : ev_YV yX12_text cX12_text 3 (some .int) 1 := ⟨⟨(mt_7 (List.mem_of_getElem? (i := 44) rfl)), (mt_1 (List.mem_of_getElem? (i := 15) rfl)), by decide +kernel, by decide⟩, (mt_7 (List.mem_of_getElem? (i := 42) rfl)), (mt_7 (List.mem_of_getElem? (i := 43) rfl))⟩
theorem YX12_fault : ev_YV yX12_fault cX12_fault 2 (some .int) 1 := ⟨⟨(mt_7 (List.mem_of_getElem? (i := 176) rfl)), (mt_1 (List.mem_of_getElem? (i := 15) rfl)), by decide +kernel, by decide⟩, (mt_7 (List.mem_of_getElem? (i := 174) rfl)), (mt_7 (List.mem_of_getElem? (i := 175) rfl))⟩
theorem YX12_isAwake : ev_YV yX12_isAwake cX12_isAwake 2 (some .boolean) 1 := ⟨⟨(mt_7 (List.mem_of_getElem? (i := 184) rfl)), (mt_1 (List.mem_of_getElem? (i := 15) rfl)), by decide +kernel, by decide⟩, (mt_7 (List.mem_of_getElem? (i := 183) rfl)), (List.mem_of_getElem? (i := 85) (by decide +kernel))⟩
theorem YX12_keepsAhead : ev_YV yX12_keepsAhead cX12_keepsAhead 2 none 0 := ⟨⟨(mt_7 (List.mem_of_getElem? (i := 188) rfl)), (mt_1 (List.mem_of_getElem? (i := 15) rfl)), by decide +kernel, by decide⟩, (mt_7 (List.mem_of_getElem? (i := 187) rfl)), (List.mem_of_getElem? (i := 86) (by decide +kernel))⟩
theorem YX12_asksTower : ev_YV yX12_asksTower cX12_asksTower 2 none 0 := ⟨⟨(mt_7 (List.mem_of_getElem? (i := 204) rfl)), (mt_1 (List.mem_of_getElem? (i := 15) rfl)), by decide +kernel, by decide⟩, (mt_7 (List.mem_of_getElem? (i := 203) rfl)), (List.mem_of_getElem? (i := 90) (by decide +kernel))⟩
theorem YX12_heavy : ev_YV yX12_heavy cX12_heavy 2 (some .int) 1 := ⟨⟨(mt_7 (List.mem_of_getElem? (i := 208) rfl)), (mt_1 (List.mem_of_getElem? (i := 15) rfl)), by decide +kernel, by decide⟩, (mt_7 (List.mem_of_getElem? (i := 207) rfl)), (List.mem_of_getElem? (i := 91) (by decide +kernel))⟩
theorem YX12_onesOf : ev_YV yX12_onesOf cX12_onesOf 4 (some .int) 1 := ⟨⟨(mt_7 (List.mem_of_getElem? (i := 212) rfl)), (mt_1 (List.mem_of_getElem? (i := 15) rfl)), by decide +kernel, by decide⟩, (mt_7 (List.mem_of_getElem? (i := 211) rfl)), (List.mem_of_getElem? (i := 92) (by decide +kernel))⟩
theorem YX12_asks : ev_YV yX12_asks cX12_asks 2 none 1 := ⟨⟨(mt_7 (List.mem_of_getElem? (i := 200) rfl)), (mt_1 (List.mem_of_getElem? (i := 15) rfl)), by decide +kernel, by decide⟩, (mt_7 (List.mem_of_getElem? (i := 199) rfl)), (List.mem_of_getElem? (i := 89) (by decide +kernel))⟩
theorem YX12_held : ev_YV yX12_held cX12_held 4 (some .int) 3 := ⟨⟨(mt_7 (List.mem_of_getElem? (i := 232) rfl)), (mt_1 (List.mem_of_getElem? (i := 15) rfl)), by decide +kernel, by decide⟩, (mt_7 (List.mem_of_getElem? (i := 231) rfl)), (List.mem_of_getElem? (i := 97) (by decide +kernel))⟩
theorem YX12_twoOf : ev_YV yX12_twoOf cX12_twoOf 4 (some .int) 3 := ⟨⟨(mt_7 (List.mem_of_getElem? (i := 228) rfl)), (mt_1 (List.mem_of_getElem? (i := 15) rfl)), by decide +kernel, by decide⟩, (mt_7 (List.mem_of_getElem? (i := 227) rfl)), (List.mem_of_getElem? (i := 96) (by decide +kernel))⟩
theorem YX12_runs : ev_YV yX12_runs cX12_runs 6 (some .int) 3 := ⟨⟨(mt_7 (List.mem_of_getElem? (i := 224) rfl)), (mt_1 (List.mem_of_getElem? (i := 15) rfl)), by decide +kernel, by decide⟩, (mt_7 (List.mem_of_getElem? (i := 223) rfl)), (List.mem_of_getElem? (i := 95) (by decide +kernel))⟩
theorem YX12_lineOf : ev_YV yX12_lineOf cX12_lineOf 3 (some .int) 1 := ⟨⟨(mt_7 (List.mem_of_getElem? (i := 220) rfl)), (mt_1 (List.mem_of_getElem? (i := 15) rfl)), by decide +kernel, by decide⟩, (mt_7 (List.mem_of_getElem? (i := 219) rfl)), (List.mem_of_getElem? (i := 94) (by decide +kernel))⟩
theorem YX12_lawTells : ev_YV yX12_lawTells cX12_lawTells 5 (some .int) 3 := ⟨⟨(mt_7 (List.mem_of_getElem? (i := 216) rfl)), (mt_1 (List.mem_of_getElem? (i := 15) rfl)), by decide +kernel, by decide⟩, (mt_7 (List.mem_of_getElem? (i := 215) rfl)), (List.mem_of_getElem? (i := 93) (by decide +kernel))⟩
theorem YX12_hardOf : ev_YV yX12_hardOf cX12_hardOf 2 (some .int) 1 := ⟨⟨(mt_7 (List.mem_of_getElem? (i := 196) rfl)), (mt_1 (List.mem_of_getElem? (i := 15) rfl)), by decide +kernel, by decide⟩, (mt_7 (List.mem_of_getElem? (i := 195) rfl)), (List.mem_of_getElem? (i := 88) (by decide +kernel))⟩
theorem YX12_lesser : ev_YV yX12_lesser cX12_lesser 3 (some .int) 2 := ⟨⟨(mt_7 (List.mem_of_getElem? (i := 236) rfl)), (mt_1 (List.mem_of_getElem? (i := 15) rfl)), by decide +kernel, by decide⟩, (mt_7 (List.mem_of_getElem? (i := 235) rfl)), (List.mem_of_getElem? (i := 98) (by decide +kernel))⟩
theorem YX12_notes : ev_YV yX12_notes cX12_notes 5 none 3 := ⟨⟨(mt_8 (List.mem_of_getElem? (i := 0) rfl)), (mt_1 (List.mem_of_getElem? (i := 15) rfl)), by decide +kernel, by decide⟩, (mt_7 (List.mem_of_getElem? (i := 239) rfl)), (List.mem_of_getElem? (i := 99) (by decide +kernel))⟩
theorem YX12_pulls : ev_YV yX12_pulls cX12_pulls 4 (some .int) 1 := ⟨⟨(mt_7 (List.mem_of_getElem? (i := 192) rfl)), (mt_1 (List.mem_of_getElem? (i := 15) rfl)), by decide +kernel, by decide⟩, (mt_7 (List.mem_of_getElem? (i := 191) rfl)), (List.mem_of_getElem? (i := 87) (by decide +kernel))⟩
theorem YX12_pull : ev_YV yX12_pull cX12_pull 2 (some .int) 1 := ⟨⟨(mt_7 (List.mem_of_getElem? (i := 180) rfl)), (mt_1 (List.mem_of_getElem? (i := 15) rfl)), by decide +kernel, by decide⟩, (mt_7 (List.mem_of_getElem? (i := 178) rfl)), (mt_7 (List.mem_of_getElem? (i := 179) rfl))⟩
theorem YX12_act : ev_YV yX12_act cX12_act 3 (some .boolean) 2 := ⟨⟨(mt_8 (List.mem_of_getElem? (i := 4) rfl)), (mt_1 (List.mem_of_getElem? (i := 15) rfl)), by decide +kernel, by decide⟩, (mt_8 (List.mem_of_getElem? (i := 2) rfl)), (mt_8 (List.mem_of_getElem? (i := 3) rfl))⟩
theorem YX12_draw : ev_YV yX12_draw cX12_draw 2 (some .int) 1 := ⟨⟨(mt_8 (List.mem_of_getElem? (i := 32) rfl)), (mt_1 (List.mem_of_getElem? (i := 15) rfl)), by decide +kernel, by decide⟩, (mt_8 (List.mem_of_getElem? (i := 31) rfl)), (List.mem_of_getElem? (i := 105) (by decide +kernel))⟩
theorem YX12_pullOf : ev_YV yX12_pullOf cX12_pullOf 2 (some .int) 1 := ⟨⟨(mt_8 (List.mem_of_getElem? (i := 28) rfl)), (mt_1 (List.mem_of_getElem? (i := 15) rfl)), by decide +kernel, by decide⟩, (mt_8 (List.mem_of_getElem? (i := 27) rfl)), (List.mem_of_getElem? (i := 104) (by decide +kernel))⟩
theorem YX12_doesPull : ev_YV yX12_doesPull cX12_doesPull 3 (some .boolean) 1 := ⟨⟨(mt_8 (List.mem_of_getElem? (i := 24) rfl)), (mt_1 (List.mem_of_getElem? (i := 15) rfl)), by decide +kernel, by decide⟩, (mt_8 (List.mem_of_getElem? (i := 23) rfl)), (List.mem_of_getElem? (i := 103) (by decide +kernel))⟩
theorem YX12_greater : ev_YV yX12_greater cX12_greater 3 (some .int) 2 := ⟨⟨(mt_8 (List.mem_of_getElem? (i := 20) rfl)), (mt_1 (List.mem_of_getElem? (i := 15) rfl)), by decide +kernel, by decide⟩, (mt_8 (List.mem_of_getElem? (i := 19) rfl)), (List.mem_of_getElem? (i := 102) (by decide +kernel))⟩
theorem YX12_happens : ev_YV yX12_happens cX12_happens 3 none 2 := ⟨⟨(mt_8 (List.mem_of_getElem? (i := 16) rfl)), (mt_1 (List.mem_of_getElem? (i := 15) rfl)), by decide +kernel, by decide⟩, (mt_8 (List.mem_of_getElem? (i := 15) rfl)), (List.mem_of_getElem? (i := 101) (by decide +kernel))⟩
theorem YX12_lostNow : ev_YV yX12_lostNow cX12_lostNow 1 (some .int) 0 := ⟨⟨(mt_8 (List.mem_of_getElem? (i := 38) rfl)), (mt_1 (List.mem_of_getElem? (i := 15) rfl)), by decide +kernel, by decide⟩, (mt_8 (List.mem_of_getElem? (i := 37) rfl)), (List.mem_of_getElem? (i := 106) (by decide +kernel))⟩
theorem YX12_rests : ev_YV yX12_rests cX12_rests 2 none 1 := ⟨⟨(mt_8 (List.mem_of_getElem? (i := 42) rfl)), (mt_1 (List.mem_of_getElem? (i := 15) rfl)), by decide +kernel, by decide⟩, (mt_8 (List.mem_of_getElem? (i := 41) rfl)), (List.mem_of_getElem? (i := 107) (by decide +kernel))⟩
theorem YX12_goesBy : ev_YV yX12_goesBy cX12_goesBy 3 (some .int) 0 := ⟨⟨(mt_8 (List.mem_of_getElem? (i := 12) rfl)), (mt_1 (List.mem_of_getElem? (i := 15) rfl)), by decide +kernel, by decide⟩, (mt_8 (List.mem_of_getElem? (i := 11) rfl)), (List.mem_of_getElem? (i := 100) (by decide +kernel))⟩
theorem YX12_hours : ev_YV yX12_hours cX12_hours 4 (some .int) 1 := ⟨⟨(mt_8 (List.mem_of_getElem? (i := 8) rfl)), (mt_1 (List.mem_of_getElem? (i := 15) rfl)), by decide +kernel, by decide⟩, (mt_8 (List.mem_of_getElem? (i := 6) rfl)), (mt_8 (List.mem_of_getElem? (i := 7) rfl))⟩
theorem YX12_of : ev_YV yX12_of cX12_of 3 (some .int) 2 := ⟨⟨(mt_8 (List.mem_of_getElem? (i := 46) rfl)), (mt_1 (List.mem_of_getElem? (i := 15) rfl)), by decide +kernel, by decide⟩, (mt_8 (List.mem_of_getElem? (i := 44) rfl)), (mt_8 (List.mem_of_getElem? (i := 45) rfl))⟩
theorem YX12_bell : ev_YV yX12_bell cX12_bell 3 (some .int) 2 := ⟨⟨(mt_8 (List.mem_of_getElem? (i := 50) rfl)), (mt_1 (List.mem_of_getElem? (i := 15) rfl)), by decide +kernel, by decide⟩, (mt_8 (List.mem_of_getElem? (i := 48) rfl)), (mt_8 (List.mem_of_getElem? (i := 49) rfl))⟩
theorem YX12_lost : ev_YV yX12_lost cX12_lost 1 (some .int) 0 := ⟨⟨(mt_8 (List.mem_of_getElem? (i := 54) rfl)), (mt_1 (List.mem_of_getElem? (i := 15) rfl)), by decide +kernel, by decide⟩, (mt_8 (List.mem_of_getElem? (i := 52) rfl)), (mt_8 (List.mem_of_getElem? (i := 53) rfl))⟩
theorem YX12_book : ev_YV yX12_book cX12_book 3 (some .int) 2 := ⟨⟨(mt_8 (List.mem_of_getElem? (i := 58) rfl)), (mt_1 (List.mem_of_getElem? (i := 15) rfl)), by decide +kernel, by decide⟩, (mt_8 (List.mem_of_getElem? (i := 56) rfl)), (mt_8 (List.mem_of_getElem? (i := 57) rfl))⟩
theorem YX12_awakeSet : ev_YV yX12_awakeSet cX12_awakeSet 3 (some .int) 0 := ⟨⟨(mt_8 (List.mem_of_getElem? (i := 70) rfl)), (mt_1 (List.mem_of_getElem? (i := 15) rfl)), by decide +kernel, by decide⟩, (mt_8 (List.mem_of_getElem? (i := 69) rfl)), (List.mem_of_getElem? (i := 109) (by decide +kernel))⟩
theorem YX12_endsThought : ev_YV yX12_endsThought cX12_endsThought 2 none 0 := ⟨⟨(mt_8 (List.mem_of_getElem? (i := 74) rfl)), (mt_1 (List.mem_of_getElem? (i := 15) rfl)), by decide +kernel, by decide⟩, (mt_8 (List.mem_of_getElem? (i := 73) rfl)), (List.mem_of_getElem? (i := 110) (by decide +kernel))⟩
theorem YX12_thinks : ev_YV yX12_thinks cX12_thinks 2 none 0 := ⟨⟨(mt_8 (List.mem_of_getElem? (i := 66) rfl)), (mt_1 (List.mem_of_getElem? (i := 15) rfl)), by decide +kernel, by decide⟩, (mt_8 (List.mem_of_getElem? (i := 65) rfl)), (List.mem_of_getElem? (i := 108) (by decide +kernel))⟩
theorem YX12_goes : ev_YV yX12_goes cX12_goes 5 (some .int) 2 := ⟨⟨(mt_8 (List.mem_of_getElem? (i := 62) rfl)), (mt_1 (List.mem_of_getElem? (i := 15) rfl)), by decide +kernel, by decide⟩, (mt_8 (List.mem_of_getElem? (i := 60) rfl)), (mt_8 (List.mem_of_getElem? (i := 61) rfl))⟩
theorem YX12_has : ev_YV yX12_has cX12_has 3 (some .boolean) 2 := ⟨⟨(mt_8 (List.mem_of_getElem? (i := 86) rfl)), (mt_1 (List.mem_of_getElem? (i := 15) rfl)), by decide +kernel, by decide⟩, (mt_8 (List.mem_of_getElem? (i := 85) rfl)), (List.mem_of_getElem? (i := 112) (by decide +kernel))⟩
theorem YX12_findsRows : ev_YV yX12_findsRows cX12_findsRows 6 none 2 := ⟨⟨(mt_8 (List.mem_of_getElem? (i := 82) rfl)), (mt_1 (List.mem_of_getElem? (i := 15) rfl)), by decide +kernel, by decide⟩, (mt_8 (List.mem_of_getElem? (i := 81) rfl)), (List.mem_of_getElem? (i := 111) (by decide +kernel))⟩
theorem YX12_isSameRow : ev_YV yX12_isSameRow cX12_isSameRow 5 (some .boolean) 3 := ⟨⟨(mt_8 (List.mem_of_getElem? (i := 94) rfl)), (mt_1 (List.mem_of_getElem? (i := 15) rfl)), by decide +kernel, by decide⟩, (mt_8 (List.mem_of_getElem? (i := 93) rfl)), (List.mem_of_getElem? (i := 114) (by decide +kernel))⟩
theorem YX12_longOf : ev_YV yX12_longOf cX12_longOf 3 (some .int) 1 := ⟨⟨(mt_8 (List.mem_of_getElem? (i := 90) rfl)), (mt_1 (List.mem_of_getElem? (i := 15) rfl)), by decide +kernel, by decide⟩, (mt_8 (List.mem_of_getElem? (i := 89) rfl)), (List.mem_of_getElem? (i := 113) (by decide +kernel))⟩
theorem YX12_trueOf : ev_YV yX12_trueOf cX12_trueOf 4 (some .int) 1 := ⟨⟨(mt_8 (List.mem_of_getElem? (i := 98) rfl)), (mt_1 (List.mem_of_getElem? (i := 15) rfl)), by decide +kernel, by decide⟩, (mt_8 (List.mem_of_getElem? (i := 97) rfl)), (List.mem_of_getElem? (i := 115) (by decide +kernel))⟩
theorem YX12_peal : ev_YV yX12_peal cX12_peal 3 (some .int) 2 := ⟨⟨(mt_8 (List.mem_of_getElem? (i := 78) rfl)), (mt_1 (List.mem_of_getElem? (i := 15) rfl)), by decide +kernel, by decide⟩, (mt_8 (List.mem_of_getElem? (i := 76) rfl)), (mt_8 (List.mem_of_getElem? (i := 77) rfl))⟩
theorem YX12_row : ev_YV yX12_row cX12_row 4 (some .int) 3 := ⟨⟨(mt_8 (List.mem_of_getElem? (i := 102) rfl)), (mt_1 (List.mem_of_getElem? (i := 15) rfl)), by decide +kernel, by decide⟩, (mt_8 (List.mem_of_getElem? (i := 100) rfl)), (mt_8 (List.mem_of_getElem? (i := 101) rfl))⟩
theorem YX12_sign : ev_YV yX12_sign cX12_sign 3 (some .int) 2 := ⟨⟨(mt_8 (List.mem_of_getElem? (i := 106) rfl)), (mt_1 (List.mem_of_getElem? (i := 15) rfl)), by decide +kernel, by decide⟩, (mt_8 (List.mem_of_getElem? (i := 104) rfl)), (mt_8 (List.mem_of_getElem? (i := 105) rfl))⟩
theorem YX12_apart : ev_YV yX12_apart cX12_apart 4 (some .int) 0 := ⟨⟨(mt_8 (List.mem_of_getElem? (i := 115) rfl)), (mt_1 (List.mem_of_getElem? (i := 15) rfl)), by decide +kernel, by decide⟩, (mt_8 (List.mem_of_getElem? (i := 114) rfl)), (List.mem_of_getElem? (i := 116) (by decide +kernel))⟩
theorem YX12_meant : ev_YV yX12_meant cX12_meant 5 (some .int) 2 := ⟨⟨(mt_8 (List.mem_of_getElem? (i := 111) rfl)), (mt_1 (List.mem_of_getElem? (i := 15) rfl)), by decide +kernel, by decide⟩, (mt_8 (List.mem_of_getElem? (i := 109) rfl)), (mt_8 (List.mem_of_getElem? (i := 110) rfl))⟩
theorem YX12_round : ev_YV yX12_round cX12_round 3 (some .int) 2 := ⟨⟨(mt_8 (List.mem_of_getElem? (i := 120) rfl)), (mt_1 (List.mem_of_getElem? (i := 15) rfl)), by decide +kernel, by decide⟩, (mt_8 (List.mem_of_getElem? (i := 118) rfl)), (mt_8 (List.mem_of_getElem? (i := 119) rfl))⟩
theorem YX12_ringingAt : ev_YV yX12_ringingAt cX12_ringingAt 4 (some .int) 1 := ⟨⟨(mt_8 (List.mem_of_getElem? (i := 128) rfl)), (mt_1 (List.mem_of_getElem? (i := 15) rfl)), by decide +kernel, by decide⟩, (mt_8 (List.mem_of_getElem? (i := 127) rfl)), (List.mem_of_getElem? (i := 117) (by decide +kernel))⟩
theorem YX12_together : ev_YV yX12_together cX12_together 3 (some .int) 1 := ⟨⟨(mt_8 (List.mem_of_getElem? (i := 124) rfl)), (mt_1 (List.mem_of_getElem? (i := 15) rfl)), by decide +kernel, by decide⟩, (mt_8 (List.mem_of_getElem? (i := 122) rfl)), (mt_8 (List.mem_of_getElem? (i := 123) rfl))⟩
theorem YX12_hold : ev_YV yX12_hold cX12_hold 4 (some .boolean) 3 := ⟨⟨(mt_8 (List.mem_of_getElem? (i := 132) rfl)), (mt_1 (List.mem_of_getElem? (i := 15) rfl)), by decide +kernel, by decide⟩, (mt_8 (List.mem_of_getElem? (i := 130) rfl)), (mt_8 (List.mem_of_getElem? (i := 131) rfl))⟩
theorem YX12_heldBy : ev_YV yX12_heldBy cX12_heldBy 4 (some .int) 3 := ⟨⟨(mt_8 (List.mem_of_getElem? (i := 144) rfl)), (mt_1 (List.mem_of_getElem? (i := 15) rfl)), by decide +kernel, by decide⟩, (mt_8 (List.mem_of_getElem? (i := 143) rfl)), (List.mem_of_getElem? (i := 119) (by decide +kernel))⟩
theorem YX12_findsHeld : ev_YV yX12_findsHeld cX12_findsHeld 5 none 0 := ⟨⟨(mt_8 (List.mem_of_getElem? (i := 140) rfl)), (mt_1 (List.mem_of_getElem? (i := 15) rfl)), by decide +kernel, by decide⟩, (mt_8 (List.mem_of_getElem? (i := 139) rfl)), (List.mem_of_getElem? (i := 118) (by decide +kernel))⟩
theorem YX12_holds : ev_YV yX12_holds cX12_holds 5 (some .int) 1 := ⟨⟨(mt_8 (List.mem_of_getElem? (i := 136) rfl)), (mt_1 (List.mem_of_getElem? (i := 15) rfl)), by decide +kernel, by decide⟩, (mt_8 (List.mem_of_getElem? (i := 134) rfl)), (mt_8 (List.mem_of_getElem? (i := 135) rfl))⟩
theorem YX12_see : ev_YV yX12_see cX12_see 4 (some .int) 2 := ⟨⟨(mt_8 (List.mem_of_getElem? (i := 148) rfl)), (mt_1 (List.mem_of_getElem? (i := 15) rfl)), by decide +kernel, by decide⟩, (mt_8 (List.mem_of_getElem? (i := 146) rfl)), (mt_8 (List.mem_of_getElem? (i := 147) rfl))⟩
theorem YX12_looksOn : ev_YV yX12_looksOn cX12_looksOn 3 none 0 := ⟨⟨(mt_8 (List.mem_of_getElem? (i := 156) rfl)), (mt_1 (List.mem_of_getElem? (i := 15) rfl)), by decide +kernel, by decide⟩, (mt_8 (List.mem_of_getElem? (i := 155) rfl)), (List.mem_of_getElem? (i := 120) (by decide +kernel))⟩
theorem YX12_waves : ev_YV yX12_waves cX12_waves 5 (some .int) 3 := ⟨⟨(mt_8 (List.mem_of_getElem? (i := 152) rfl)), (mt_1 (List.mem_of_getElem? (i := 15) rfl)), by decide +kernel, by decide⟩, (mt_8 (List.mem_of_getElem? (i := 150) rfl)), (mt_8 (List.mem_of_getElem? (i := 151) rfl))⟩
theorem YX12_heavyOf : ev_YV yX12_heavyOf cX12_heavyOf 4 (some .int) 1 := ⟨⟨(mt_8 (List.mem_of_getElem? (i := 164) rfl)), (mt_1 (List.mem_of_getElem? (i := 15) rfl)), by decide +kernel, by decide⟩, (mt_8 (List.mem_of_getElem? (i := 163) rfl)), (List.mem_of_getElem? (i := 121) (by decide +kernel))⟩
theorem YX12_bears : ev_YV yX12_bears cX12_bears 7 (some .int) 2 := ⟨⟨(mt_8 (List.mem_of_getElem? (i := 160) rfl)), (mt_1 (List.mem_of_getElem? (i := 15) rfl)), by decide +kernel, by decide⟩, (mt_8 (List.mem_of_getElem? (i := 158) rfl)), (mt_8 (List.mem_of_getElem? (i := 159) rfl))⟩
theorem YX12_pigeon : ev_YV yX12_pigeon cX12_pigeon 2 (some .int) 1 := ⟨⟨(mt_8 (List.mem_of_getElem? (i := 168) rfl)), (mt_1 (List.mem_of_getElem? (i := 15) rfl)), by decide +kernel, by decide⟩, (mt_8 (List.mem_of_getElem? (i := 166) rfl)), (mt_8 (List.mem_of_getElem? (i := 167) rfl))⟩
theorem YX12_pigeonsFrom : ev_YV yX12_pigeonsFrom cX12_pigeonsFrom 5 (some .int) 2 := ⟨⟨(mt_8 (List.mem_of_getElem? (i := 176) rfl)), (mt_1 (List.mem_of_getElem? (i := 15) rfl)), by decide +kernel, by decide⟩, (mt_8 (List.mem_of_getElem? (i := 175) rfl)), (List.mem_of_getElem? (i := 122) (by decide +kernel))⟩
theorem YX12_best : ev_YV yX12_best cX12_best 5 (some .int) 2 := ⟨⟨(mt_8 (List.mem_of_getElem? (i := 172) rfl)), (mt_1 (List.mem_of_getElem? (i := 15) rfl)), by decide +kernel, by decide⟩, (mt_8 (List.mem_of_getElem? (i := 170) rfl)), (mt_8 (List.mem_of_getElem? (i := 171) rfl))⟩
theorem YX12_stranger : ev_YV yX12_stranger cX12_stranger 4 (some .int) 2 := ⟨⟨(mt_8 (List.mem_of_getElem? (i := 180) rfl)), (mt_1 (List.mem_of_getElem? (i := 15) rfl)), by decide +kernel, by decide⟩, (mt_8 (List.mem_of_getElem? (i := 178) rfl)), (mt_8 (List.mem_of_getElem? (i := 179) rfl))⟩
theorem YX12_toldBy : ev_YV yX12_toldBy cX12_toldBy 4 (some .int) 1 := ⟨⟨(mt_8 (List.mem_of_getElem? (i := 196) rfl)), (mt_1 (List.mem_of_getElem? (i := 15) rfl)), by decide +kernel, by decide⟩, (mt_8 (List.mem_of_getElem? (i := 195) rfl)), (List.mem_of_getElem? (i := 125) (by decide +kernel))⟩
theorem YX12_reachedFrom : ev_YV yX12_reachedFrom cX12_reachedFrom 5 (some .int) 2 := ⟨⟨(mt_8 (List.mem_of_getElem? (i := 192) rfl)), (mt_1 (List.mem_of_getElem? (i := 15) rfl)), by decide +kernel, by decide⟩, (mt_8 (List.mem_of_getElem? (i := 191) rfl)), (List.mem_of_getElem? (i := 124) (by decide +kernel))⟩
theorem YX12_doesSplit : ev_YV yX12_doesSplit cX12_doesSplit 4 (some .boolean) 1 := ⟨⟨(mt_8 (List.mem_of_getElem? (i := 188) rfl)), (mt_1 (List.mem_of_getElem? (i := 15) rfl)), by decide +kernel, by decide⟩, (mt_8 (List.mem_of_getElem? (i := 187) rfl)), (List.mem_of_getElem? (i := 123) (by decide +kernel))⟩
theorem YX12_heard : ev_YV yX12_heard cX12_heard 5 (some .int) 2 := ⟨⟨(mt_8 (List.mem_of_getElem? (i := 184) rfl)), (mt_1 (List.mem_of_getElem? (i := 15) rfl)), by decide +kernel, by decide⟩, (mt_8 (List.mem_of_getElem? (i := 182) rfl)), (mt_8 (List.mem_of_getElem? (i := 183) rfl))⟩
theorem YX12_needOf : ev_YV yX12_needOf cX12_needOf 2 (some .int) 1 := ⟨⟨(mt_8 (List.mem_of_getElem? (i := 208) rfl)), (mt_1 (List.mem_of_getElem? (i := 15) rfl)), by decide +kernel, by decide⟩, (mt_8 (List.mem_of_getElem? (i := 207) rfl)), (List.mem_of_getElem? (i := 127) (by decide +kernel))⟩
theorem YX12_fedAhead : ev_YV yX12_fedAhead cX12_fedAhead 4 (some .int) 1 := ⟨⟨(mt_8 (List.mem_of_getElem? (i := 204) rfl)), (mt_1 (List.mem_of_getElem? (i := 15) rfl)), by decide +kernel, by decide⟩, (mt_8 (List.mem_of_getElem? (i := 203) rfl)), (List.mem_of_getElem? (i := 126) (by decide +kernel))⟩
theorem YX12_feeds : ev_YV yX12_feeds cX12_feeds 4 (some .int) 1 := ⟨⟨(mt_8 (List.mem_of_getElem? (i := 200) rfl)), (mt_1 (List.mem_of_getElem? (i := 15) rfl)), by decide +kernel, by decide⟩, (mt_8 (List.mem_of_getElem? (i := 198) rfl)), (mt_8 (List.mem_of_getElem? (i := 199) rfl))⟩
theorem YX12_isBeating : ev_YV yX12_isBeating cX12_isBeating 4 (some .boolean) 1 := ⟨⟨(mt_8 (List.mem_of_getElem? (i := 216) rfl)), (mt_1 (List.mem_of_getElem? (i := 15) rfl)), by decide +kernel, by decide⟩, (mt_8 (List.mem_of_getElem? (i := 215) rfl)), (List.mem_of_getElem? (i := 128) (by decide +kernel))⟩
theorem YX12_casts : ev_YV yX12_casts cX12_casts 4 (some .int) 1 := ⟨⟨(mt_8 (List.mem_of_getElem? (i := 212) rfl)), (mt_1 (List.mem_of_getElem? (i := 15) rfl)), by decide +kernel, by decide⟩, (mt_8 (List.mem_of_getElem? (i := 210) rfl)), (mt_8 (List.mem_of_getElem? (i := 211) rfl))⟩
theorem YX12_opinion : ev_YV yX12_opinion cX12_opinion 3 (some .boolean) 2 := ⟨⟨(mt_8 (List.mem_of_getElem? (i := 220) rfl)), (mt_1 (List.mem_of_getElem? (i := 15) rfl)), by decide +kernel, by decide⟩, (mt_8 (List.mem_of_getElem? (i := 218) rfl)), (mt_8 (List.mem_of_getElem? (i := 219) rfl))⟩
theorem YX12_opinionOf : ev_YV yX12_opinionOf cX12_opinionOf 4 (some .int) 1 := ⟨⟨(mt_8 (List.mem_of_getElem? (i := 228) rfl)), (mt_1 (List.mem_of_getElem? (i := 15) rfl)), by decide +kernel, by decide⟩, (mt_8 (List.mem_of_getElem? (i := 227) rfl)), (List.mem_of_getElem? (i := 129) (by decide +kernel))⟩
theorem YX12_swings : ev_YV yX12_swings cX12_swings 5 (some .int) 1 := ⟨⟨(mt_8 (List.mem_of_getElem? (i := 232) rfl)), (mt_1 (List.mem_of_getElem? (i := 15) rfl)), by decide +kernel, by decide⟩, (mt_8 (List.mem_of_getElem? (i := 231) rfl)), (List.mem_of_getElem? (i := 130) (by decide +kernel))⟩
theorem YX12_peals : ev_YV yX12_peals cX12_peals 2 (some .int) 1 := ⟨⟨(mt_8 (List.mem_of_getElem? (i := 224) rfl)), (mt_1 (List.mem_of_getElem? (i := 15) rfl)), by decide +kernel, by decide⟩, (mt_8 (List.mem_of_getElem? (i := 222) rfl)), (mt_8 (List.mem_of_getElem? (i := 223) rfl))⟩
theorem YX12_findsNimbers : ev_YV yX12_findsNimbers cX12_findsNimbers 5 none 0 := ⟨⟨(mt_9 (List.mem_of_getElem? (i := 0) rfl)), (mt_1 (List.mem_of_getElem? (i := 15) rfl)), by decide +kernel, by decide⟩, (mt_8 (List.mem_of_getElem? (i := 239) rfl)), (List.mem_of_getElem? (i := 131) (by decide +kernel))⟩
theorem YX12_game : ev_YV yX12_game cX12_game 6 (some .int) 1 := ⟨⟨(mt_8 (List.mem_of_getElem? (i := 236) rfl)), (mt_1 (List.mem_of_getElem? (i := 15) rfl)), by decide +kernel, by decide⟩, (mt_8 (List.mem_of_getElem? (i := 234) rfl)), (mt_8 (List.mem_of_getElem? (i := 235) rfl))⟩
theorem YX12_keeps : ev_YV yX12_keeps cX12_keeps 2 (some .int) 1 := ⟨⟨(mt_9 (List.mem_of_getElem? (i := 8) rfl)), (mt_1 (List.mem_of_getElem? (i := 15) rfl)), by decide +kernel, by decide⟩, (mt_9 (List.mem_of_getElem? (i := 7) rfl)), (List.mem_of_getElem? (i := 132) (by decide +kernel))⟩
theorem YX12_keepsLaw : ev_YV yX12_keepsLaw cX12_keepsLaw 2 none 0 := ⟨⟨(mt_9 (List.mem_of_getElem? (i := 20) rfl)), (mt_1 (List.mem_of_getElem? (i := 15) rfl)), by decide +kernel, by decide⟩, (mt_9 (List.mem_of_getElem? (i := 19) rfl)), (List.mem_of_getElem? (i := 135) (by decide +kernel))⟩
theorem YX12_keepsMany : ev_YV yX12_keepsMany cX12_keepsMany 1 none 0 := ⟨⟨(mt_9 (List.mem_of_getElem? (i := 12) rfl)), (mt_1 (List.mem_of_getElem? (i := 15) rfl)), by decide +kernel, by decide⟩, (mt_9 (List.mem_of_getElem? (i := 11) rfl)), (List.mem_of_getElem? (i := 133) (by decide +kernel))⟩
theorem YX12_keepsTold : ev_YV yX12_keepsTold cX12_keepsTold 2 none 0 := ⟨⟨(mt_9 (List.mem_of_getElem? (i := 16) rfl)), (mt_1 (List.mem_of_getElem? (i := 15) rfl)), by decide +kernel, by decide⟩, (mt_9 (List.mem_of_getElem? (i := 15) rfl)), (List.mem_of_getElem? (i := 134) (by decide +kernel))⟩
theorem YX12_image : ev_YV yX12_image cX12_image 3 (some .boolean) 1 := ⟨⟨(mt_9 (List.mem_of_getElem? (i := 4) rfl)), (mt_1 (List.mem_of_getElem? (i := 15) rfl)), by decide +kernel, by decide⟩, (mt_9 (List.mem_of_getElem? (i := 2) rfl)), (mt_9 (List.mem_of_getElem? (i := 3) rfl))⟩
theorem YX12_look : ev_YV yX12_look cX12_look 2 (some .int) 1 := ⟨⟨(mt_9 (List.mem_of_getElem? (i := 24) rfl)), (mt_1 (List.mem_of_getElem? (i := 15) rfl)), by decide +kernel, by decide⟩, (mt_9 (List.mem_of_getElem? (i := 22) rfl)), (mt_9 (List.mem_of_getElem? (i := 23) rfl))⟩
theorem YX1_become : ev_YV yX1_become cX1_become 2 none 1 := ⟨⟨(mt_4 (List.mem_of_getElem? (i := 161) rfl)), (mt_1 (List.mem_of_getElem? (i := 8) rfl)), by decide +kernel, by decide⟩, (mt_4 (List.mem_of_getElem? (i := 159) rfl)), (mt_4 (List.mem_of_getElem? (i := 160) rfl))⟩
theorem YX6_become : ev_YV yX6_become cX6_become 2 none 1 := ⟨⟨(mt_4 (List.mem_of_getElem? (i := 166) rfl)), (mt_1 (List.mem_of_getElem? (i := 9) rfl)), by decide +kernel, by decide⟩, (mt_4 (List.mem_of_getElem? (i := 164) rfl)), (mt_4 (List.mem_of_getElem? (i := 165) rfl))⟩
theorem YX0_become : ev_YV yX0_become cX0_become 2 none 1 := ⟨⟨(mt_6 (List.mem_of_getElem? (i := 12) rfl)), (mt_1 (List.mem_of_getElem? (i := 5) rfl)), by decide +kernel, by decide⟩, (mt_6 (List.mem_of_getElem? (i := 10) rfl)), (mt_6 (List.mem_of_getElem? (i := 11) rfl))⟩
theorem YX7_become : ev_YV yX7_become cX7_become 2 none 1 := ⟨⟨(mt_6 (List.mem_of_getElem? (i := 18) rfl)), (mt_1 (List.mem_of_getElem? (i := 7) rfl)), by decide +kernel, by decide⟩, (mt_6 (List.mem_of_getElem? (i := 16) rfl)), (mt_6 (List.mem_of_getElem? (i := 17) rfl))⟩
theorem YX8_become : ev_YV yX8_become cX8_become 2 none 1 := ⟨⟨(mt_6 (List.mem_of_getElem? (i := 22) rfl)), (mt_1 (List.mem_of_getElem? (i := 10) rfl)), by decide +kernel, by decide⟩, (mt_6 (List.mem_of_getElem? (i := 20) rfl)), (mt_6 (List.mem_of_getElem? (i := 21) rfl))⟩
theorem ml_RX0_28 : Cond.methodLink RX0 28 yJ9_min_7cf53 ∈ lw_tbl := (mt_6 (List.mem_of_getElem? (i := 13) rfl))
theorem ml_RX0_31 : Cond.methodLinkNest RX0 31 yX11_copy "DeafBells" ∈ lw_tbl := (mt_6 (List.mem_of_getElem? (i := 14) rfl))
theorem ml_RX1_37 : Cond.methodLinkNest RX1 37 yX11_copy "DeafBells" ∈ lw_tbl := (mt_4 (List.mem_of_getElem? (i := 162) rfl))
theorem ml_RX1_41 : Cond.methodLink RX1 41 yX1_reckon ∈ lw_tbl := (mt_3 (List.mem_of_getElem? (i := 58) rfl))
theorem ml_RX1_45 : Cond.methodLinkNest RX1 45 yX11_within "DeafBells" ∈ lw_tbl := (mt_3 (List.mem_of_getElem? (i := 77) rfl))
theorem ml_RX1_49 : Cond.methodLink RX1 49 yJ9_max_7cf53 ∈ lw_tbl := (mt_3 (List.mem_of_getElem? (i := 62) rfl))
theorem ml_RX1_55 : Cond.methodLink RX1 55 yX1_valueOf ∈ lw_tbl := (mt_3 (List.mem_of_getElem? (i := 63) rfl))
theorem ml_RX1_59 : Cond.methodLink RX1 59 yX1_joined ∈ lw_tbl := (mt_3 (List.mem_of_getElem? (i := 66) rfl))
theorem ml_RX10_41 : Cond.methodLink RX10 41 yX9_become ∈ lw_tbl := (mt_6 (List.mem_of_getElem? (i := 8) rfl))
theorem ml_RX10_45 : Cond.methodLink RX10 45 yX0_become ∈ lw_tbl := (mt_6 (List.mem_of_getElem? (i := 9) rfl))
theorem ml_RX10_48 : Cond.methodLink RX10 48 yX7_become ∈ lw_tbl := (mt_6 (List.mem_of_getElem? (i := 15) rfl))
theorem ml_RX10_51 : Cond.methodLink RX10 51 yX8_become ∈ lw_tbl := (mt_6 (List.mem_of_getElem? (i := 19) rfl))
theorem ml_RX11_82 : Cond.methodLink RX11 82 yX2_forget ∈ lw_tbl := (mt_2 (List.mem_of_getElem? (i := 207) rfl))
theorem ml_RX11_85 : Cond.methodLink RX11 85 yX11_within ∈ lw_tbl := (mt_2 (List.mem_of_getElem? (i := 215) rfl))
theorem ml_RX11_89 : Cond.methodLink RX11 89 yX9_come ∈ lw_tbl := (mt_2 (List.mem_of_getElem? (i := 218) rfl))
theorem ml_RX11_93 : Cond.methodLink RX11 93 yX11_toldOfTower ∈ lw_tbl := (mt_2 (List.mem_of_getElem? (i := 230) rfl))
theorem ml_RX11_96 : Cond.methodLink RX11 96 yX11_toldOfRinger ∈ lw_tbl := (mt_2 (List.mem_of_getElem? (i := 234) rfl))
theorem ml_RX11_112 : Cond.methodLink RX11 112 yX9_has ∈ lw_tbl := (mt_2 (List.mem_of_getElem? (i := 238) rfl))
theorem ml_RX11_125 : Cond.methodLink RX11 125 yX9_isAwake ∈ lw_tbl := (mt_3 (List.mem_of_getElem? (i := 6) rfl))
theorem ml_RX11_128 : Cond.methodLink RX11 128 yX2_keep ∈ lw_tbl := (mt_3 (List.mem_of_getElem? (i := 14) rfl))
theorem ml_RX11_132 : Cond.methodLink RX11 132 yX5_strike ∈ lw_tbl := (mt_3 (List.mem_of_getElem? (i := 35) rfl))
theorem ml_RX11_139 : Cond.methodLink RX11 139 yX0_write ∈ lw_tbl := (mt_3 (List.mem_of_getElem? (i := 91) rfl))
theorem ml_RX11_143 : Cond.methodLink RX11 143 yX9_wake ∈ lw_tbl := (mt_3 (List.mem_of_getElem? (i := 92) rfl))
theorem ml_RX11_146 : Cond.methodLink RX11 146 yX9_sleep ∈ lw_tbl := (mt_3 (List.mem_of_getElem? (i := 93) rfl))
theorem ml_RX11_149 : Cond.methodLink RX11 149 yX5_pass ∈ lw_tbl := (mt_3 (List.mem_of_getElem? (i := 98) rfl))
theorem ml_RX11_156 : Cond.methodLink RX11 156 yX4_append ∈ lw_tbl := (mt_3 (List.mem_of_getElem? (i := 146) rfl))
theorem ml_RX11_186 : Cond.methodLink RX11 186 yX7_feltBy ∈ lw_tbl := (mt_4 (List.mem_of_getElem? (i := 178) rfl))
theorem ml_RX11_190 : Cond.methodLink RX11 190 yX5_ask ∈ lw_tbl := (mt_4 (List.mem_of_getElem? (i := 179) rfl))
theorem ml_RX11_199 : Cond.methodLink RX11 199 yX0_cell ∈ lw_tbl := (mt_4 (List.mem_of_getElem? (i := 192) rfl))
theorem ml_RX11_203 : Cond.methodLink RX11 203 yX9_become ∈ lw_tbl := (mt_4 (List.mem_of_getElem? (i := 200) rfl))
theorem ml_RX11_207 : Cond.methodLink RX11 207 yX9_allStrokes ∈ lw_tbl := (mt_4 (List.mem_of_getElem? (i := 201) rfl))
theorem ml_RX11_214 : Cond.methodLink RX11 214 yJ6_bitCount_0f7a4 ∈ lw_tbl := (mt_4 (List.mem_of_getElem? (i := 205) rfl))
theorem ml_RX11_219 : Cond.methodLink RX11 219 yX3_rowsToRounds ∈ lw_tbl := (mt_4 (List.mem_of_getElem? (i := 210) rfl))
theorem ml_RX11_222 : Cond.methodLink RX11 222 yX3_rowsToRepeat ∈ lw_tbl := (mt_4 (List.mem_of_getElem? (i := 228) rfl))
theorem ml_RX11_225 : Cond.methodLink RX11 225 yX3_bellAt ∈ lw_tbl := (mt_4 (List.mem_of_getElem? (i := 236) rfl))
theorem ml_RX11_234 : Cond.methodLink RX11 234 yX6_empty ∈ lw_tbl := (mt_5 (List.mem_of_getElem? (i := 5) rfl))
theorem ml_RX11_240 : Cond.methodLink RX11 240 yX6_add ∈ lw_tbl := (mt_5 (List.mem_of_getElem? (i := 7) rfl))
theorem ml_RX11_243 : Cond.methodLink RX11 243 yX3_apart ∈ lw_tbl := (mt_5 (List.mem_of_getElem? (i := 12) rfl))
theorem ml_RX11_246 : Cond.methodLink RX11 246 yX3_canGoWrong ∈ lw_tbl := (mt_5 (List.mem_of_getElem? (i := 17) rfl))
theorem ml_RX11_249 : Cond.methodLink RX11 249 yX3_nearestSign ∈ lw_tbl := (mt_5 (List.mem_of_getElem? (i := 26) rfl))
theorem ml_RX11_255 : Cond.methodLink RX11 255 yX3_firstTogether ∈ lw_tbl := (mt_5 (List.mem_of_getElem? (i := 38) rfl))
theorem ml_RX11_258 : Cond.methodLink RX11 258 yX3_ringAt ∈ lw_tbl := (mt_5 (List.mem_of_getElem? (i := 49) rfl))
theorem ml_RX11_264 : Cond.methodLink RX11 264 yX3_weakestHold ∈ lw_tbl := (mt_5 (List.mem_of_getElem? (i := 61) rfl))
theorem ml_RX11_267 : Cond.methodLink RX11 267 yX3_heldBy ∈ lw_tbl := (mt_5 (List.mem_of_getElem? (i := 71) rfl))
theorem ml_RX11_273 : Cond.methodLink RX11 273 yX3_wavesBetween ∈ lw_tbl := (mt_5 (List.mem_of_getElem? (i := 88) rfl))
theorem ml_RX11_276 : Cond.methodLink RX11 276 yX3_borne ∈ lw_tbl := (mt_5 (List.mem_of_getElem? (i := 105) rfl))
theorem ml_RX11_285 : Cond.methodLink RX11 285 yX3_bestHours ∈ lw_tbl := (mt_5 (List.mem_of_getElem? (i := 121) rfl))
theorem ml_RX11_291 : Cond.methodLink RX11 291 yX3_splits ∈ lw_tbl := (mt_5 (List.mem_of_getElem? (i := 133) rfl))
theorem ml_RX11_294 : Cond.methodLink RX11 294 yX3_news ∈ lw_tbl := (mt_5 (List.mem_of_getElem? (i := 148) rfl))
theorem ml_RX11_297 : Cond.methodLink RX11 297 yX3_feedingSum ∈ lw_tbl := (mt_5 (List.mem_of_getElem? (i := 156) rfl))
theorem ml_RX11_300 : Cond.methodLink RX11 300 yX3_fedAt ∈ lw_tbl := (mt_5 (List.mem_of_getElem? (i := 169) rfl))
theorem ml_RX11_303 : Cond.methodLink RX11 303 yX3_castAnew ∈ lw_tbl := (mt_5 (List.mem_of_getElem? (i := 177) rfl))
theorem ml_RX11_309 : Cond.methodLink RX11 309 yX3_opinionOfAwake ∈ lw_tbl := (mt_5 (List.mem_of_getElem? (i := 197) rfl))
theorem ml_RX11_312 : Cond.methodLink RX11 312 yX3_swings ∈ lw_tbl := (mt_5 (List.mem_of_getElem? (i := 202) rfl))
theorem ml_RX11_315 : Cond.methodLink RX11 315 yX3_turns ∈ lw_tbl := (mt_5 (List.mem_of_getElem? (i := 211) rfl))
theorem ml_RX11_318 : Cond.methodLink RX11 318 yX3_goodMove ∈ lw_tbl := (mt_5 (List.mem_of_getElem? (i := 219) rfl))
theorem ml_RX11_321 : Cond.methodLink RX11 321 yX2_goBack ∈ lw_tbl := (mt_5 (List.mem_of_getElem? (i := 236) rfl))
theorem ml_RX11_345 : Cond.methodLink RX11 345 yJ9_min_7cf53 ∈ lw_tbl := (mt_3 (List.mem_of_getElem? (i := 28) rfl))
theorem ml_RX11_350 : Cond.methodLink RX11 350 yJ9_max_7cf53 ∈ lw_tbl := (mt_3 (List.mem_of_getElem? (i := 52) rfl))
theorem ml_RX11_353 : Cond.methodLink RX11 353 arraycopyName ∈ lw_tbl := (mt_3 (List.mem_of_getElem? (i := 31) rfl))
theorem ml_RX12_143 : Cond.methodLink RX12 143 yX12_isAwake ∈ lw_tbl := (mt_7 (List.mem_of_getElem? (i := 181) rfl))
theorem ml_RX12_147 : Cond.methodLink RX12 147 yX12_isBell ∈ lw_tbl := (mt_7 (List.mem_of_getElem? (i := 9) rfl))
theorem ml_RX12_150 : Cond.methodLink RX12 150 yX12_isIn ∈ lw_tbl := (mt_7 (List.mem_of_getElem? (i := 13) rfl))
theorem ml_RX12_154 : Cond.methodLink RX12 154 yX12_isRinger ∈ lw_tbl := (mt_7 (List.mem_of_getElem? (i := 25) rfl))
theorem ml_RX12_157 : Cond.methodLink RX12 157 yX12_canSet ∈ lw_tbl := (mt_7 (List.mem_of_getElem? (i := 21) rfl))
theorem ml_RX12_163 : Cond.methodLink RX12 163 yX12_types ∈ lw_tbl := (mt_7 (List.mem_of_getElem? (i := 33) rfl))
theorem ml_RX12_170 : Cond.methodLink RX12 170 yX12_raw ∈ lw_tbl := (mt_7 (List.mem_of_getElem? (i := 53) rfl))
theorem ml_RX12_183 : Cond.methodLink RX12 183 yX12_isLetter ∈ lw_tbl := (mt_7 (List.mem_of_getElem? (i := 57) rfl))
theorem ml_RX12_186 : Cond.methodLink RX12 186 yX12_wordAt ∈ lw_tbl := (mt_7 (List.mem_of_getElem? (i := 61) rfl))
theorem ml_RX12_190 : Cond.methodLink RX12 190 yX12_isDigit ∈ lw_tbl := (mt_7 (List.mem_of_getElem? (i := 65) rfl))
theorem ml_RX12_193 : Cond.methodLink RX12 193 yX12_isMarkSign ∈ lw_tbl := (mt_7 (List.mem_of_getElem? (i := 69) rfl))
theorem ml_RX12_205 : Cond.methodLink RX12 205 yX12_canAsk ∈ lw_tbl := (mt_7 (List.mem_of_getElem? (i := 141) rfl))
theorem ml_RX12_208 : Cond.methodLink RX12 208 yX12_errs ∈ lw_tbl := (mt_7 (List.mem_of_getElem? (i := 81) rfl))
theorem ml_RX12_211 : Cond.methodLink RX12 211 yX12_emits ∈ lw_tbl := (mt_7 (List.mem_of_getElem? (i := 145) rfl))
theorem ml_RX12_215 : Cond.methodLink RX12 215 yX12_reads ∈ lw_tbl := (mt_7 (List.mem_of_getElem? (i := 49) rfl))
theorem ml_RX12_218 : Cond.methodLink RX12 218 yX12_readUnit ∈ lw_tbl := (mt_7 (List.mem_of_getElem? (i := 137) rfl))
theorem ml_RX12_222 : Cond.methodLink RX12 222 yX12_isSign ∈ lw_tbl := (mt_7 (List.mem_of_getElem? (i := 101) rfl))
theorem ml_RX12_225 : Cond.methodLink RX12 225 yX12_readProduct ∈ lw_tbl := (mt_7 (List.mem_of_getElem? (i := 133) rfl))
theorem ml_RX12_228 : Cond.methodLink RX12 228 yX12_readSum ∈ lw_tbl := (mt_7 (List.mem_of_getElem? (i := 129) rfl))
theorem ml_RX12_237 : Cond.methodLink RX12 237 yX12_isWord ∈ lw_tbl := (mt_7 (List.mem_of_getElem? (i := 77) rfl))
theorem ml_RX12_240 : Cond.methodLink RX12 240 yX12_waits ∈ lw_tbl := (mt_7 (List.mem_of_getElem? (i := 153) rfl))
theorem ml_RX12_243 : Cond.methodLink RX12 243 yX12_readCompared ∈ lw_tbl := (mt_7 (List.mem_of_getElem? (i := 157) rfl))
theorem ml_RX12_246 : Cond.methodLink RX12 246 yX12_settles ∈ lw_tbl := (mt_7 (List.mem_of_getElem? (i := 161) rfl))
theorem ml_RX12_249 : Cond.methodLink RX12 249 yX12_isLineWord ∈ lw_tbl := (mt_7 (List.mem_of_getElem? (i := 125) rfl))
theorem ml_RX12_253 : Cond.methodLink RX12 253 yX12_readAny ∈ lw_tbl := (mt_7 (List.mem_of_getElem? (i := 149) rfl))
theorem ml_RX12_259 : Cond.methodLink RX12 259 yX12_readNumber ∈ lw_tbl := (mt_7 (List.mem_of_getElem? (i := 93) rfl))
theorem ml_RX12_262 : Cond.methodLink RX12 262 yX12_readTold ∈ lw_tbl := (mt_7 (List.mem_of_getElem? (i := 89) rfl))
theorem ml_RX12_266 : Cond.methodLink RX12 266 yX12_readMark ∈ lw_tbl := (mt_7 (List.mem_of_getElem? (i := 97) rfl))
theorem ml_RX12_269 : Cond.methodLink RX12 269 yX12_readRope ∈ lw_tbl := (mt_7 (List.mem_of_getElem? (i := 85) rfl))
theorem ml_RX12_272 : Cond.methodLink RX12 272 yX12_readDay ∈ lw_tbl := (mt_7 (List.mem_of_getElem? (i := 109) rfl))
theorem ml_RX12_275 : Cond.methodLink RX12 275 yX12_readChange ∈ lw_tbl := (mt_7 (List.mem_of_getElem? (i := 117) rfl))
theorem ml_RX12_278 : Cond.methodLink RX12 278 yX12_readRopes ∈ lw_tbl := (mt_7 (List.mem_of_getElem? (i := 73) rfl))
theorem ml_RX12_281 : Cond.methodLink RX12 281 yX12_readDays ∈ lw_tbl := (mt_7 (List.mem_of_getElem? (i := 105) rfl))
theorem ml_RX12_284 : Cond.methodLink RX12 284 yX12_readChanges ∈ lw_tbl := (mt_7 (List.mem_of_getElem? (i := 113) rfl))
theorem ml_RX12_287 : Cond.methodLink RX12 287 yX12_readLaw ∈ lw_tbl := (mt_7 (List.mem_of_getElem? (i := 121) rfl))
theorem ml_RX12_302 : Cond.methodLink RX12 302 yX12_readsText ∈ lw_tbl := (mt_7 (List.mem_of_getElem? (i := 45) rfl))
theorem ml_RX12_305 : Cond.methodLink RX12 305 yX12_takesLaw ∈ lw_tbl := (mt_7 (List.mem_of_getElem? (i := 165) rfl))
theorem ml_RX12_308 : Cond.methodLink RX12 308 yX12_takesOther ∈ lw_tbl := (mt_7 (List.mem_of_getElem? (i := 169) rfl))
theorem ml_RX12_311 : Cond.methodLink RX12 311 yX12_twoOf ∈ lw_tbl := (mt_7 (List.mem_of_getElem? (i := 225) rfl))
theorem ml_RX12_314 : Cond.methodLink RX12 314 yX12_runs ∈ lw_tbl := (mt_7 (List.mem_of_getElem? (i := 221) rfl))
theorem ml_RX12_317 : Cond.methodLink RX12 317 yX12_asksTower ∈ lw_tbl := (mt_7 (List.mem_of_getElem? (i := 201) rfl))
theorem ml_RX12_320 : Cond.methodLink RX12 320 yX12_heavy ∈ lw_tbl := (mt_7 (List.mem_of_getElem? (i := 205) rfl))
theorem ml_RX12_326 : Cond.methodLink RX12 326 yX12_onesOf ∈ lw_tbl := (mt_7 (List.mem_of_getElem? (i := 209) rfl))
theorem ml_RX12_329 : Cond.methodLink RX12 329 yX12_lineOf ∈ lw_tbl := (mt_7 (List.mem_of_getElem? (i := 217) rfl))
theorem ml_RX12_332 : Cond.methodLink RX12 332 yX12_held ∈ lw_tbl := (mt_7 (List.mem_of_getElem? (i := 229) rfl))
theorem ml_RX12_335 : Cond.methodLink RX12 335 yX12_asks ∈ lw_tbl := (mt_7 (List.mem_of_getElem? (i := 197) rfl))
theorem ml_RX12_338 : Cond.methodLink RX12 338 yX12_lawTells ∈ lw_tbl := (mt_7 (List.mem_of_getElem? (i := 213) rfl))
theorem ml_RX12_341 : Cond.methodLink RX12 341 yX12_hardOf ∈ lw_tbl := (mt_7 (List.mem_of_getElem? (i := 193) rfl))
theorem ml_RX12_344 : Cond.methodLink RX12 344 yX12_lesser ∈ lw_tbl := (mt_7 (List.mem_of_getElem? (i := 233) rfl))
theorem ml_RX12_347 : Cond.methodLink RX12 347 yX12_notes ∈ lw_tbl := (mt_7 (List.mem_of_getElem? (i := 237) rfl))
theorem ml_RX12_351 : Cond.methodLink RX12 351 yX12_keepsAhead ∈ lw_tbl := (mt_7 (List.mem_of_getElem? (i := 185) rfl))
theorem ml_RX12_354 : Cond.methodLink RX12 354 yX12_pulls ∈ lw_tbl := (mt_7 (List.mem_of_getElem? (i := 189) rfl))
theorem ml_RX12_357 : Cond.methodLink RX12 357 yX12_greater ∈ lw_tbl := (mt_8 (List.mem_of_getElem? (i := 17) rfl))
theorem ml_RX12_360 : Cond.methodLink RX12 360 yX12_pullOf ∈ lw_tbl := (mt_8 (List.mem_of_getElem? (i := 25) rfl))
theorem ml_RX12_363 : Cond.methodLink RX12 363 yX12_draw ∈ lw_tbl := (mt_8 (List.mem_of_getElem? (i := 29) rfl))
theorem ml_RX12_366 : Cond.methodLink RX12 366 yX12_happens ∈ lw_tbl := (mt_8 (List.mem_of_getElem? (i := 13) rfl))
theorem ml_RX12_369 : Cond.methodLink RX12 369 yX12_doesPull ∈ lw_tbl := (mt_8 (List.mem_of_getElem? (i := 21) rfl))
theorem ml_RX12_372 : Cond.methodLink RX12 372 yX12_lostNow ∈ lw_tbl := (mt_8 (List.mem_of_getElem? (i := 35) rfl))
theorem ml_RX12_375 : Cond.methodLink RX12 375 yX12_rests ∈ lw_tbl := (mt_8 (List.mem_of_getElem? (i := 39) rfl))
theorem ml_RX12_378 : Cond.methodLink RX12 378 yX12_goesBy ∈ lw_tbl := (mt_8 (List.mem_of_getElem? (i := 9) rfl))
theorem ml_RX12_381 : Cond.methodLink RX12 381 yX12_thinks ∈ lw_tbl := (mt_8 (List.mem_of_getElem? (i := 63) rfl))
theorem ml_RX12_384 : Cond.methodLink RX12 384 yX12_awakeSet ∈ lw_tbl := (mt_8 (List.mem_of_getElem? (i := 67) rfl))
theorem ml_RX12_387 : Cond.methodLink RX12 387 yX12_endsThought ∈ lw_tbl := (mt_8 (List.mem_of_getElem? (i := 71) rfl))
theorem ml_RX12_390 : Cond.methodLink RX12 390 yX12_has ∈ lw_tbl := (mt_8 (List.mem_of_getElem? (i := 83) rfl))
theorem ml_RX12_394 : Cond.methodLink RX12 394 yX12_isSameRow ∈ lw_tbl := (mt_8 (List.mem_of_getElem? (i := 91) rfl))
theorem ml_RX12_397 : Cond.methodLink RX12 397 yX12_findsRows ∈ lw_tbl := (mt_8 (List.mem_of_getElem? (i := 79) rfl))
theorem ml_RX12_400 : Cond.methodLink RX12 400 yX12_longOf ∈ lw_tbl := (mt_8 (List.mem_of_getElem? (i := 87) rfl))
theorem ml_RX12_403 : Cond.methodLink RX12 403 yX12_trueOf ∈ lw_tbl := (mt_8 (List.mem_of_getElem? (i := 95) rfl))
theorem ml_RX12_411 : Cond.methodLink RX12 411 yX12_apart ∈ lw_tbl := (mt_8 (List.mem_of_getElem? (i := 112) rfl))
theorem ml_RX12_417 : Cond.methodLink RX12 417 yX12_ringingAt ∈ lw_tbl := (mt_8 (List.mem_of_getElem? (i := 125) rfl))
theorem ml_RX12_420 : Cond.methodLink RX12 420 yX12_heldBy ∈ lw_tbl := (mt_8 (List.mem_of_getElem? (i := 141) rfl))
theorem ml_RX12_423 : Cond.methodLink RX12 423 yX12_findsHeld ∈ lw_tbl := (mt_8 (List.mem_of_getElem? (i := 137) rfl))
theorem ml_RX12_429 : Cond.methodLink RX12 429 yX12_looksOn ∈ lw_tbl := (mt_8 (List.mem_of_getElem? (i := 153) rfl))
theorem ml_RX12_432 : Cond.methodLink RX12 432 yX12_heavyOf ∈ lw_tbl := (mt_8 (List.mem_of_getElem? (i := 161) rfl))
theorem ml_RX12_438 : Cond.methodLink RX12 438 yX12_pigeonsFrom ∈ lw_tbl := (mt_8 (List.mem_of_getElem? (i := 173) rfl))
theorem ml_RX12_444 : Cond.methodLink RX12 444 yX12_toldBy ∈ lw_tbl := (mt_8 (List.mem_of_getElem? (i := 193) rfl))
theorem ml_RX12_447 : Cond.methodLink RX12 447 yX12_reachedFrom ∈ lw_tbl := (mt_8 (List.mem_of_getElem? (i := 189) rfl))
theorem ml_RX12_450 : Cond.methodLink RX12 450 yX12_doesSplit ∈ lw_tbl := (mt_8 (List.mem_of_getElem? (i := 185) rfl))
theorem ml_RX12_453 : Cond.methodLink RX12 453 yX12_needOf ∈ lw_tbl := (mt_8 (List.mem_of_getElem? (i := 205) rfl))
theorem ml_RX12_456 : Cond.methodLink RX12 456 yX12_fedAhead ∈ lw_tbl := (mt_8 (List.mem_of_getElem? (i := 201) rfl))
theorem ml_RX12_459 : Cond.methodLink RX12 459 yX12_isBeating ∈ lw_tbl := (mt_8 (List.mem_of_getElem? (i := 213) rfl))
theorem ml_RX12_462 : Cond.methodLink RX12 462 yX12_opinionOf ∈ lw_tbl := (mt_8 (List.mem_of_getElem? (i := 225) rfl))
theorem ml_RX12_465 : Cond.methodLink RX12 465 yX12_swings ∈ lw_tbl := (mt_8 (List.mem_of_getElem? (i := 229) rfl))
theorem ml_RX12_468 : Cond.methodLink RX12 468 yX12_findsNimbers ∈ lw_tbl := (mt_8 (List.mem_of_getElem? (i := 237) rfl))
theorem ml_RX12_477 : Cond.methodLink RX12 477 yX12_keeps ∈ lw_tbl := (mt_9 (List.mem_of_getElem? (i := 5) rfl))
theorem ml_RX12_483 : Cond.methodLink RX12 483 yX12_keepsMany ∈ lw_tbl := (mt_9 (List.mem_of_getElem? (i := 9) rfl))
theorem ml_RX12_486 : Cond.methodLink RX12 486 yX12_keepsTold ∈ lw_tbl := (mt_9 (List.mem_of_getElem? (i := 13) rfl))
theorem ml_RX12_489 : Cond.methodLink RX12 489 yX12_keepsLaw ∈ lw_tbl := (mt_9 (List.mem_of_getElem? (i := 17) rfl))
theorem ml_RX2_29 : Cond.methodLink RX2 29 yJ9_floorMod_7cf53 ∈ lw_tbl := (mt_3 (List.mem_of_getElem? (i := 18) rfl))
theorem ml_RX2_35 : Cond.methodLink RX2 35 yX9_become ∈ lw_tbl := (mt_3 (List.mem_of_getElem? (i := 21) rfl))
theorem ml_RX2_43 : Cond.methodLink RX2 43 yJ9_min_7cf53 ∈ lw_tbl := (mt_3 (List.mem_of_getElem? (i := 34) rfl))
theorem ml_RX3_61 : Cond.methodLink RX3 61 yX6_cell ∈ lw_tbl := (mt_4 (List.mem_of_getElem? (i := 226) rfl))
theorem ml_RX3_64 : Cond.methodLinkNest RX3 64 yX11_isIn "DeafBells" ∈ lw_tbl := (mt_4 (List.mem_of_getElem? (i := 227) rfl))
theorem ml_RX3_68 : Cond.methodLink RX3 68 yX3_startRounds ∈ lw_tbl := (mt_4 (List.mem_of_getElem? (i := 214) rfl))
theorem ml_RX3_71 : Cond.methodLink RX3 71 yX3_rowAsNumber ∈ lw_tbl := (mt_4 (List.mem_of_getElem? (i := 218) rfl))
theorem ml_RX3_75 : Cond.methodLink RX3 75 yX3_change ∈ lw_tbl := (mt_4 (List.mem_of_getElem? (i := 222) rfl))
theorem ml_RX3_79 : Cond.methodLinkNest RX3 79 yX11_within "DeafBells" ∈ lw_tbl := (mt_5 (List.mem_of_getElem? (i := 0) rfl))
theorem ml_RX3_88 : Cond.methodLink RX3 88 yJ6_bitCount_0f7a4 ∈ lw_tbl := (mt_5 (List.mem_of_getElem? (i := 16) rfl))
theorem ml_RX3_94 : Cond.methodLink RX3 94 yX3_apart ∈ lw_tbl := (mt_5 (List.mem_of_getElem? (i := 21) rfl))
theorem ml_RX3_97 : Cond.methodLink RX3 97 yJ9_floorDiv_7cf53 ∈ lw_tbl := (mt_5 (List.mem_of_getElem? (i := 22) rfl))
theorem ml_RX3_102 : Cond.methodLink RX3 102 yJ9_max_7cf53 ∈ lw_tbl := (mt_5 (List.mem_of_getElem? (i := 25) rfl))
theorem ml_RX3_108 : Cond.methodLink RX3 108 yX3_ringsAt ∈ lw_tbl := (mt_5 (List.mem_of_getElem? (i := 42) rfl))
theorem ml_RX3_111 : Cond.methodLink RX3 111 yX3_leastCommon ∈ lw_tbl := (mt_5 (List.mem_of_getElem? (i := 46) rfl))
theorem ml_RX3_119 : Cond.methodLink RX3 119 yX8_holdOf ∈ lw_tbl := (mt_5 (List.mem_of_getElem? (i := 65) rfl))
theorem ml_RX3_122 : Cond.methodLink RX3 122 yJ9_min_7cf53 ∈ lw_tbl := (mt_5 (List.mem_of_getElem? (i := 70) rfl))
theorem ml_RX3_125 : Cond.methodLink RX3 125 yX3_weakestHold ∈ lw_tbl := (mt_5 (List.mem_of_getElem? (i := 75) rfl))
theorem ml_RX3_128 : Cond.methodLink RX3 128 yX3_firstBellFor ∈ lw_tbl := (mt_5 (List.mem_of_getElem? (i := 76) rfl))
theorem ml_RX3_132 : Cond.methodLink RX3 132 yJ7_fill_53178 ∈ lw_tbl := (mt_5 (List.mem_of_getElem? (i := 96) rfl))
theorem ml_RX3_141 : Cond.methodLink RX3 141 yX3_fillNear ∈ lw_tbl := (mt_5 (List.mem_of_getElem? (i := 92) rfl))
theorem ml_RX3_145 : Cond.methodLink RX3 145 yX3_stepOn ∈ lw_tbl := (mt_5 (List.mem_of_getElem? (i := 97) rfl))
theorem ml_RX3_151 : Cond.methodLink RX3 151 yX3_heavyOf ∈ lw_tbl := (mt_5 (List.mem_of_getElem? (i := 109) rfl))
theorem ml_RX3_160 : Cond.methodLink RX3 160 yX3_knowNext ∈ lw_tbl := (mt_5 (List.mem_of_getElem? (i := 144) rfl))
theorem ml_RX3_163 : Cond.methodLink RX3 163 yX3_knownWithout ∈ lw_tbl := (mt_5 (List.mem_of_getElem? (i := 137) rfl))
theorem ml_RX3_166 : Cond.methodLink RX3 166 yJ6_lowestOneBit_0f7a4 ∈ lw_tbl := (mt_5 (List.mem_of_getElem? (i := 141) rfl))
theorem ml_RX3_169 : Cond.methodLink RX3 169 yX9_has ∈ lw_tbl := (mt_5 (List.mem_of_getElem? (i := 164) rfl))
theorem ml_RX3_179 : Cond.methodLink RX3 179 yX3_weightOf ∈ lw_tbl := (mt_5 (List.mem_of_getElem? (i := 160) rfl))
theorem ml_RX3_182 : Cond.methodLink RX3 182 yX3_turnToBeFed ∈ lw_tbl := (mt_5 (List.mem_of_getElem? (i := 165) rfl))
theorem ml_RX3_185 : Cond.methodLink RX3 185 yX3_beat ∈ lw_tbl := (mt_5 (List.mem_of_getElem? (i := 181) rfl))
theorem ml_RX3_188 : Cond.methodLink RX3 188 yX3_anyBeat ∈ lw_tbl := (mt_5 (List.mem_of_getElem? (i := 185) rfl))
theorem ml_RX3_191 : Cond.methodLink RX3 191 yX9_isAwake ∈ lw_tbl := (mt_5 (List.mem_of_getElem? (i := 201) rfl))
theorem ml_RX3_197 : Cond.methodLinkNest RX3 197 yX11_copy "DeafBells" ∈ lw_tbl := (mt_5 (List.mem_of_getElem? (i := 210) rfl))
theorem ml_RX3_201 : Cond.methodLink RX3 201 yX3_countSets ∈ lw_tbl := (mt_5 (List.mem_of_getElem? (i := 206) rfl))
theorem ml_RX3_205 : Cond.methodLinkNest RX3 205 yX11_held "DeafBells" ∈ lw_tbl := (mt_5 (List.mem_of_getElem? (i := 227) rfl))
theorem ml_RX3_211 : Cond.methodLink RX3 211 yX3_nimberOf ∈ lw_tbl := (mt_5 (List.mem_of_getElem? (i := 223) rfl))
theorem ml_RX3_214 : Cond.methodLink RX3 214 yX3_loosedWell ∈ lw_tbl := (mt_5 (List.mem_of_getElem? (i := 228) rfl))
theorem ml_RX4_56 : Cond.methodLinkNest RX4 56 yX11_within "DeafBells" ∈ lw_tbl := (mt_4 (List.mem_of_getElem? (i := 60) rfl))
theorem ml_RX4_63 : Cond.methodLink RX4 63 yX4_kind ∈ lw_tbl := (mt_4 (List.mem_of_getElem? (i := 73) rfl))
theorem ml_RX4_71 : Cond.methodLink RX4 71 yX4_refuse ∈ lw_tbl := (mt_4 (List.mem_of_getElem? (i := 81) rfl))
theorem ml_RX4_87 : Cond.methodLink RX4 87 yX4_take ∈ lw_tbl := (mt_4 (List.mem_of_getElem? (i := 126) rfl))
theorem ml_RX4_94 : Cond.methodLink RX4 94 yX1_clear ∈ lw_tbl := (mt_4 (List.mem_of_getElem? (i := 65) rfl))
theorem ml_RX4_103 : Cond.methodLink RX4 103 yX6_empty ∈ lw_tbl := (mt_4 (List.mem_of_getElem? (i := 69) rfl))
theorem ml_RX4_129 : Cond.methodLink RX4 129 yX4_isLetter ∈ lw_tbl := (mt_3 (List.mem_of_getElem? (i := 170) rfl))
theorem ml_RX4_132 : Cond.methodLink RX4 132 yX4_isDigit ∈ lw_tbl := (mt_3 (List.mem_of_getElem? (i := 173) rfl))
theorem ml_RX4_156 : Cond.methodLinkNest RX4 156 yX11_isIn "DeafBells" ∈ lw_tbl := (mt_4 (List.mem_of_getElem? (i := 109) rfl))
theorem ml_RX4_160 : Cond.methodLink RX4 160 yX4_takeNumber ∈ lw_tbl := (mt_4 (List.mem_of_getElem? (i := 105) rfl))
theorem ml_RX4_163 : Cond.methodLink RX4 163 yX6_add ∈ lw_tbl := (mt_4 (List.mem_of_getElem? (i := 142) rfl))
theorem ml_RX4_167 : Cond.methodLink RX4 167 yX1_begin ∈ lw_tbl := (mt_4 (List.mem_of_getElem? (i := 89) rfl))
theorem ml_RX4_171 : Cond.methodLink RX4 171 yX4_readNumber ∈ lw_tbl := (mt_4 (List.mem_of_getElem? (i := 93) rfl))
theorem ml_RX4_174 : Cond.methodLink RX4 174 yX1_markWhen ∈ lw_tbl := (mt_4 (List.mem_of_getElem? (i := 110) rfl))
theorem ml_RX4_177 : Cond.methodLink RX4 177 yX4_readTruth ∈ lw_tbl := (mt_4 (List.mem_of_getElem? (i := 114) rfl))
theorem ml_RX4_180 : Cond.methodLink RX4 180 yX1_finish ∈ lw_tbl := (mt_4 (List.mem_of_getElem? (i := 134) rfl))
theorem ml_RX4_183 : Cond.methodLink RX4 183 yX4_takeNots ∈ lw_tbl := (mt_4 (List.mem_of_getElem? (i := 118) rfl))
theorem ml_RX4_186 : Cond.methodLink RX4 186 yX4_readInner ∈ lw_tbl := (mt_4 (List.mem_of_getElem? (i := 122) rfl))
theorem ml_RX4_189 : Cond.methodLink RX4 189 yX4_readComparison ∈ lw_tbl := (mt_4 (List.mem_of_getElem? (i := 130) rfl))
theorem ml_RX4_192 : Cond.methodLink RX4 192 yX1_add ∈ lw_tbl := (mt_4 (List.mem_of_getElem? (i := 101) rfl))
theorem ml_RX4_194 : Cond.methodLink RX4 194 yX4_readUnit ∈ lw_tbl := (mt_4 (List.mem_of_getElem? (i := 97) rfl))
theorem ml_RX5_29 : Cond.methodLink RX5 29 yX5_fillValues ∈ lw_tbl := (mt_3 (List.mem_of_getElem? (i := 44) rfl))
theorem ml_RX5_39 : Cond.methodLink RX5 39 yX1_lineFor ∈ lw_tbl := (mt_3 (List.mem_of_getElem? (i := 54) rfl))
theorem ml_RX5_43 : Cond.methodLink RX5 43 yX5_usual ∈ lw_tbl := (mt_3 (List.mem_of_getElem? (i := 69) rfl))
theorem ml_RX5_47 : Cond.methodLink RX5 47 yX1_worth ∈ lw_tbl := (mt_3 (List.mem_of_getElem? (i := 73) rfl))
theorem ml_RX5_50 : Cond.methodLinkNest RX5 50 yX11_held "DeafBells" ∈ lw_tbl := (mt_3 (List.mem_of_getElem? (i := 49) rfl))
theorem ml_RX5_54 : Cond.methodLink RX5 54 yX9_has ∈ lw_tbl := (mt_3 (List.mem_of_getElem? (i := 48) rfl))
theorem ml_RX5_91 : Cond.methodLink RX5 91 yJ9_floorMod_7cf53 ∈ lw_tbl := (mt_3 (List.mem_of_getElem? (i := 53) rfl))
theorem ml_RX5_96 : Cond.methodLink RX5 96 yX9_isAwake ∈ lw_tbl := (mt_3 (List.mem_of_getElem? (i := 39) rfl))
theorem ml_RX5_99 : Cond.methodLink RX5 99 yX5_ask ∈ lw_tbl := (mt_3 (List.mem_of_getElem? (i := 40) rfl))
theorem ml_RX5_105 : Cond.methodLink RX5 105 yJ9_min_7cf53 ∈ lw_tbl := (mt_3 (List.mem_of_getElem? (i := 78) rfl))
theorem ml_RX5_110 : Cond.methodLink RX5 110 yX0_write ∈ lw_tbl := (mt_3 (List.mem_of_getElem? (i := 79) rfl))
theorem ml_RX5_114 : Cond.methodLink RX5 114 yX9_sleep ∈ lw_tbl := (mt_3 (List.mem_of_getElem? (i := 83) rfl))
theorem ml_RX5_118 : Cond.methodLink RX5 118 yX5_happen ∈ lw_tbl := (mt_3 (List.mem_of_getElem? (i := 102) rfl))
theorem ml_RX5_121 : Cond.methodLink RX5 121 yX5_pullAll ∈ lw_tbl := (mt_3 (List.mem_of_getElem? (i := 115) rfl))
theorem ml_RX5_125 : Cond.methodLink RX5 125 yJ9_max_7cf53 ∈ lw_tbl := (mt_3 (List.mem_of_getElem? (i := 114) rfl))
theorem ml_RX5_131 : Cond.methodLink RX5 131 yX5_grow ∈ lw_tbl := (mt_3 (List.mem_of_getElem? (i := 137) rfl))
theorem ml_RX5_143 : Cond.methodLink RX5 143 yX6_cell ∈ lw_tbl := (mt_3 (List.mem_of_getElem? (i := 106) rfl))
theorem ml_RX5_146 : Cond.methodLink RX5 146 yX5_happenOne ∈ lw_tbl := (mt_3 (List.mem_of_getElem? (i := 110) rfl))
theorem ml_RX5_149 : Cond.methodLink RX5 149 yX7_feltBy ∈ lw_tbl := (mt_3 (List.mem_of_getElem? (i := 119) rfl))
theorem ml_RX5_153 : Cond.methodLink RX5 153 yJ6_bitCount_0f7a4 ∈ lw_tbl := (mt_3 (List.mem_of_getElem? (i := 124) rfl))
theorem ml_RX5_158 : Cond.methodLink RX5 158 yX9_draw ∈ lw_tbl := (mt_3 (List.mem_of_getElem? (i := 130) rfl))
theorem ml_RX5_161 : Cond.methodLink RX5 161 yX5_strike ∈ lw_tbl := (mt_3 (List.mem_of_getElem? (i := 136) rfl))
theorem ml_RX5_164 : Cond.methodLink RX5 164 yX9_wake ∈ lw_tbl := (mt_3 (List.mem_of_getElem? (i := 141) rfl))
theorem ml_RX6_28 : Cond.methodLink RX6 28 yJ9_min_7cf53 ∈ lw_tbl := (mt_4 (List.mem_of_getElem? (i := 167) rfl))
theorem ml_RX6_31 : Cond.methodLinkNest RX6 31 yX11_copy "DeafBells" ∈ lw_tbl := (mt_4 (List.mem_of_getElem? (i := 168) rfl))
theorem ml_RX7_33 : Cond.methodLink RX7 33 yX1_become ∈ lw_tbl := (mt_4 (List.mem_of_getElem? (i := 158) rfl))
theorem ml_RX7_37 : Cond.methodLink RX7 37 yX6_become ∈ lw_tbl := (mt_4 (List.mem_of_getElem? (i := 163) rfl))
theorem ml_RX7_44 : Cond.methodLink RX7 44 yX6_cell ∈ lw_tbl := (mt_3 (List.mem_of_getElem? (i := 123) rfl))
theorem ml_RX8_39 : Cond.methodLink RX8 39 yX6_become ∈ lw_tbl := (mt_6 (List.mem_of_getElem? (i := 23) rfl))
theorem ml_RX8_43 : Cond.methodLinkNest RX8 43 yX11_copy "DeafBells" ∈ lw_tbl := (mt_6 (List.mem_of_getElem? (i := 24) rfl))
theorem ml_RX8_47 : Cond.methodLinkNest RX8 47 yX11_within "DeafBells" ∈ lw_tbl := (mt_5 (List.mem_of_getElem? (i := 69) rfl))
theorem ml_RX9_61 : Cond.methodLinkNest RX9 61 yX11_copy "DeafBells" ∈ lw_tbl := (mt_3 (List.mem_of_getElem? (i := 25) rfl))
theorem ml_RX9_65 : Cond.methodLink RX9 65 yX9_wake ∈ lw_tbl := (mt_2 (List.mem_of_getElem? (i := 222) rfl))
theorem ml_RX9_69 : Cond.methodLink RX9 69 yX9_has ∈ lw_tbl := (mt_3 (List.mem_of_getElem? (i := 10) rfl))
theorem ml_RX9_73 : Cond.methodLinkNest RX9 73 yX11_isIn "DeafBells" ∈ lw_tbl := (mt_3 (List.mem_of_getElem? (i := 11) rfl))
