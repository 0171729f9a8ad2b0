/-! ===== image: the class's first one makes a world ===== -/
theorem YX11_image : ev_YV yX11_image cX11_image 2 (some .boolean) 1 := ⟨⟨(mt_6 (List.mem_of_getElem? (i := 3) rfl)), (mt_1 (List.mem_of_getElem? (i := 1) rfl)), by decide +kernel, by decide⟩, (mt_6 (List.mem_of_getElem? (i := 1) rfl)), (mt_6 (List.mem_of_getElem? (i := 2) rfl))⟩
theorem ml_RX11_325 : Cond.methodLink RX11 325 yX10_become ∈ lw_tbl := (mt_6 (List.mem_of_getElem? (i := 4) rfl))
theorem YX10_become : ev_YV yX10_become cX10_become 2 none 1 := ⟨⟨(mt_6 (List.mem_of_getElem? (i := 7) rfl)), (mt_1 (List.mem_of_getElem? (i := 2) rfl)), by decide +kernel, by decide⟩, (mt_6 (List.mem_of_getElem? (i := 5) rfl)), (mt_6 (List.mem_of_getElem? (i := 6) rfl))⟩
theorem ml_RL_166 : Cond.methodLink RL 166 yX11_image ∈ lw_tbl := (mt_6 (List.mem_of_getElem? (i := 0) rfl))
theorem ml_RL_170 : Cond.methodLink RL 170 yX12_image ∈ lw_tbl := (mt_9 (List.mem_of_getElem? (i := 1) rfl))
def im_S1 : ev_S := ev_nO 10 4 (sh_S 0)
def im_R (D : ev_D) : Option ev_Rs := gX10_init [.ref 171] im_S1 (ev_0 D 171)
def im_ck (S : ev_S) : Bool := st_c1 208 (ev_pS S 1 6 (.ref 171)) && (st_c2 171 208 (ev_pS S 1 6 (.ref 171)) && (decide (sC S ≤ 60) && decide (sA S ≤ 6000)))
set_option maxRecDepth 100000 in
set_option maxHeartbeats 8000000 in
theorem im_some (D : ev_D) : (match im_R D with
  | some (v, S, _) => im_ck S && (v == 0)
  | none => false) = true := by rfl
def im_D (D : ev_D) : ev_D := match im_R D with
  | some (_, _, D2) => D2
  | none => D
set_option maxRecDepth 100000 in
set_option maxHeartbeats 3000000 in
theorem im_old0 (D : ev_D) : (match im_R D with
  | some (_, _, D2) => (List.range 171).map D2
  | none => []) = (List.range 171).map D := by rfl
set_option maxRecDepth 100000 in
set_option maxHeartbeats 3000000 in
theorem im_most0 (D : ev_D) : (match im_R D with
  | some (_, _, D2) => [D2 180 1, D2 190 1, D2 192 1, D2 194 1, D2 197 1, D2 199 1, D2 201 1, D2 203 1, D2 205 1]
  | none => []) = [nI 150, nI 16, nI 16, nI 16, nI 10, nI 6, nI 16, nI 24, nI 20] := by rfl
