/-! ===== image at the machine ===== -/
theorem ev_shift {own : String} {cc : ByteArray} {nL d N NS pc : Nat} {ini : Bool} {F : ev_Fr} {S S' : ev_S} {D : ev_D} {lv : ev_V} {st : List Value} (hX : ev_X own cc nL d N NS ini F) (h : ∀ (G : ev_G) (H : Heap), ev_W G S D H → ev_W G S' D H) (h1 : sC S' = sC S) (h2 : sA S' = sA S) (kk : F S' D pc lv st) : F S D pc lv st := by
  obtain ⟨p, l, e, R, s, m, args, below, meth, c, G, Q, -, rfl⟩ := hX
  intro H locs ls hW hS hL
  have hk := kk H locs ls (h G H hW) hS hL
  rw [h1, h2] at hk
  exact hk
set_option maxHeartbeats 4000000 in
set_option maxRecDepth 100000 in
theorem mX11_imageA {D : ev_D} : ev_M 6 0 0 yX11_image cX11_image 2 (some .boolean) [.ref 1, .int 0] (sh_S 0) D (sh_S 0) (0, D) :=
  ev_met (ini := false) (plainFor_of_name (by decide)) (fun h => by cases h) rfl (Nat.le_of_ble_eq_true rfl) (fun F hR => by
    have hX := hR.X
    refine ev_blk hX lkok_RX11 [(.iload_n 1, 1, 0, 0, 0)] (by decide +kernel) (g := true) (lv' := [some (.ref 1), some (.int 0)]) (st' := [.int 0]) (D' := D) (pc' := 1) rfl rfl rfl ?_
    refine ev_if_eq hX (off := 34) 35 (by decide +kernel) (by decide) (fun _ => ?_) (fun h => absurd rfl h)
    refine ev_blk hX lkok_RX11 [(.aload_n 0, 1, 0, 0, 0), (.getfield 75, 3, 11, 6, 0)] (by decide +kernel) (g := true) (lv' := [some (.ref 1), some (.int 0)]) (st' := [.ref 0]) (D' := D) (pc' := 39) rfl rfl rfl ?_
    refine ev_nonnull hX (off := 5) 44 (by decide +kernel) (by decide) (fun h => absurd rfl h) (fun _ => ?_)
    refine ev_blk hX lkok_RX11 [(.iconst 0, 1, 0, 0, 0)] (by decide +kernel) (g := true) (lv' := [some (.ref 1), some (.int 0)]) (st' := [.int 0]) (D' := D) (pc' := 43) rfl rfl rfl ?_
    exact ev_zret hR ev_sm.rf (Or.inl rfl) rfl ⟨Nat.le_refl 0, Nat.le_refl 0⟩ (by decide +kernel))
set_option maxHeartbeats 4000000 in
set_option maxRecDepth 100000 in
theorem mX11_imageB {D D1 D2 : ev_D} {v1 v2 : Int32} {fu : Nat} (hc1 : fX10_become sh_L (sh_E 171) fu 2 171 D = some (v1, D1)) (hc2 : fX2_forget sh_L (sh_E 171) fu 40 D1 = some (v2, D2)) : ev_M 6 0 0 yX11_image cX11_image 2 (some .boolean) [.ref 1, .int 0] (sh_S 171) D (sh_S 171) (1, D2) :=
  ev_met (ini := false) (plainFor_of_name (by decide)) (fun h => by cases h) rfl (Nat.le_of_ble_eq_true rfl) (fun F hR => by
    have hX := hR.X
    have hT : ev_Ty (sh_S 171) := sh_ty (.inr rfl)
    show F (sh_S 171) D 0 [some (.ref 1), some (.int 0)] []
    refine ev_blk hX lkok_RX11 [(.iload_n 1, 1, 0, 0, 0)] (by decide +kernel) (g := true) (lv' := [some (.ref 1), some (.int 0)]) (st' := [.int 0]) (D' := D) (pc' := 1) rfl rfl rfl ?_
    refine ev_if_eq hX (off := 34) 35 (by decide +kernel) (by decide) (fun _ => ?_) (fun h => absurd rfl h)
    refine ev_blk hX lkok_RX11 [(.aload_n 0, 1, 0, 0, 0), (.getfield 75, 3, 11, 6, 0)] (by decide +kernel) (g := true) (lv' := [some (.ref 1), some (.int 0)]) (st' := [.ref 171]) (D' := D) (pc' := 39) rfl rfl rfl ?_
    refine ev_nonnull hX (off := 5) 44 (by decide +kernel) (by decide) (fun _ => ?_) (fun h => absurd h (by decide))
    refine ev_blk hX lkok_RX11 [(.aload_n 0, 1, 0, 0, 0), (.getfield 10, 3, 11, 0, 0), (.aload_n 0, 1, 0, 0, 0), (.getfield 75, 3, 11, 6, 0)] (by decide +kernel) (g := true) (lv' := [some (.ref 1), some (.int 0)]) (st' := [.ref 171, .ref 2]) (D' := D) (pc' := 52) rfl rfl rfl ?_
    refine ev_callV hX YX10_become ml_RX11_325 (mX10_become hT rfl rfl hc1) (vs := [.ref 171]) (st := []) (by decide) 10 rfl rfl rfl rfl (by decide +kernel) ⟨Nat.le_refl 0, Nat.le_refl 0⟩ ?_
    show F (sh_S 171) D1 55 [some (.ref 1), some (.int 0)] []
    refine ev_blk hX lkok_RX11 [(.aload_n 0, 1, 0, 0, 0), (.getfield 19, 3, 11, 1, 0)] (by decide +kernel) (g := true) (lv' := [some (.ref 1), some (.int 0)]) (st' := [.ref 40]) (D' := D1) (pc' := 59) rfl rfl rfl ?_
    refine ev_callV hX YX2_forget ml_RX11_82 (mX2_forget hT rfl hc2) (vs := []) (st := []) (by decide) 2 rfl rfl rfl rfl (by decide +kernel) ⟨Nat.le_refl 0, Nat.le_refl 0⟩ ?_
    show F (sh_S 171) D2 62 [some (.ref 1), some (.int 0)] []
    refine ev_blk hX lkok_RX11 [(.iconst 1, 1, 0, 0, 1)] (by decide +kernel) (g := true) (lv' := [some (.ref 1), some (.int 0)]) (st' := [.int 1]) (D' := D2) (pc' := 63) rfl rfl rfl ?_
    exact ev_zret hR ev_sm.rf (Or.inr rfl) rfl ⟨Nat.le_refl 0, Nat.le_refl 0⟩ (by decide +kernel))
set_option maxHeartbeats 4000000 in
set_option maxRecDepth 100000 in
theorem mX11_imageC {D D1 : ev_D} {v1 : Int32} {fu : Nat} (hc1 : fX10_become sh_L (sh_E 171) fu 171 2 D = some (v1, D1)) : ev_M 6 0 0 yX11_image cX11_image 2 (some .boolean) [.ref 1, .int 1] (sh_S 171) D (sh_S 171) (1, D1) :=
  ev_met (ini := false) (plainFor_of_name (by decide)) (fun h => by cases h) rfl (Nat.le_of_ble_eq_true rfl) (fun F hR => by
    have hX := hR.X
    have hT : ev_Ty (sh_S 171) := sh_ty (.inr rfl)
    show F (sh_S 171) D 0 [some (.ref 1), some (.int 1)] []
    refine ev_blk hX lkok_RX11 [(.iload_n 1, 1, 0, 0, 0)] (by decide +kernel) (g := true) (lv' := [some (.ref 1), some (.int 1)]) (st' := [.int 1]) (D' := D) (pc' := 1) rfl rfl rfl ?_
    refine ev_if_eq hX (off := 34) 35 (by decide +kernel) (by decide) (fun h => absurd h (by decide)) (fun _ => ?_)
    refine ev_blk hX lkok_RX11 [(.aload_n 0, 1, 0, 0, 0), (.getfield 75, 3, 11, 6, 0)] (by decide +kernel) (g := true) (lv' := [some (.ref 1), some (.int 1)]) (st' := [.ref 171]) (D' := D) (pc' := 8) rfl rfl rfl ?_
    refine ev_nonnull hX (off := 14) 22 (by decide +kernel) (by decide) (fun _ => ?_) (fun h => absurd h (by decide))
    refine ev_blk hX lkok_RX11 [(.aload_n 0, 1, 0, 0, 0), (.getfield 75, 3, 11, 6, 0), (.aload_n 0, 1, 0, 0, 0), (.getfield 10, 3, 11, 0, 0)] (by decide +kernel) (g := true) (lv' := [some (.ref 1), some (.int 1)]) (st' := [.ref 2, .ref 171]) (D' := D) (pc' := 30) rfl rfl rfl ?_
    refine ev_callV hX YX10_become ml_RX11_325 (mX10_become hT rfl rfl hc1) (vs := [.ref 2]) (st := []) (by decide) 10 rfl rfl rfl rfl (by decide +kernel) ⟨Nat.le_refl 0, Nat.le_refl 0⟩ ?_
    show F (sh_S 171) D1 33 [some (.ref 1), some (.int 1)] []
    refine ev_blk hX lkok_RX11 [(.iconst 1, 1, 0, 0, 1)] (by decide +kernel) (g := true) (lv' := [some (.ref 1), some (.int 1)]) (st' := [.int 1]) (D' := D1) (pc' := 34) rfl rfl rfl ?_
    exact ev_zret hR ev_sm.rf (Or.inr rfl) rfl ⟨Nat.le_refl 0, Nat.le_refl 0⟩ (by decide +kernel))
set_option maxHeartbeats 4000000 in
set_option maxRecDepth 100000 in
theorem mX11_imageD {D D1 D2 : ev_D} {v v1 : Int32} {S2 : ev_S} {fu : Nat} (hi : gX10_init [.ref 171] im_S1 (ev_0 D 171) = some (v, S2, D2)) (hck : im_ck S2 = true) (hc1 : fX10_become sh_L (sh_E 171) fu 171 2 D2 = some (v1, D1)) : ev_M 6 100 7000 yX11_image cX11_image 2 (some .boolean) [.ref 1, .int 1] (sh_S 0) D (sh_S 171) (1, D1) :=
  ev_met (ini := false) (plainFor_of_name (by decide)) (fun h => by cases h) rfl (Nat.le_of_ble_eq_true rfl) (fun F hR => by
    have hX := hR.X
    simp only [im_ck, Bool.and_eq_true, decide_eq_true_eq] at hck
    obtain ⟨k1, k2, k3, k4⟩ := hck
    have hsK : sK S2 1 = 14 := by
      have h1 := k1
      simp only [st_c1, Bool.and_eq_true, List.all_eq_true, List.mem_range, beq_iff_eq] at h1
      exact (h1.2 1 (by decide)).1
    refine ev_blk hX lkok_RX11 [(.iload_n 1, 1, 0, 0, 0)] (by decide +kernel) (g := true) (lv' := [some (.ref 1), some (.int 1)]) (st' := [.int 1]) (D' := D) (pc' := 1) rfl rfl rfl ?_
    refine ev_if_eq hX (off := 34) 35 (by decide +kernel) (by decide) (fun h => absurd h (by decide)) (fun _ => ?_)
    refine ev_blk hX lkok_RX11 [(.aload_n 0, 1, 0, 0, 0), (.getfield 75, 3, 11, 6, 0)] (by decide +kernel) (g := true) (lv' := [some (.ref 1), some (.int 1)]) (st' := [.ref 0]) (D' := D) (pc' := 8) rfl rfl rfl ?_
    refine ev_nonnull hX (off := 14) 22 (by decide +kernel) (by decide) (fun h => absurd rfl h) (fun _ => ?_)
    refine ev_blk hX lkok_RX11 [(.aload_n 0, 1, 0, 0, 0)] (by decide +kernel) (g := true) (lv' := [some (.ref 1), some (.int 1)]) (st' := [.ref 1]) (D' := D) (pc' := 12) rfl rfl rfl ?_
    refine ev_new hX (idx := 7) (c := 10) (rc := (RX10, TX10, 4)) rfl (mt_1 (List.mem_of_getElem? (i := 31) rfl)) (mt_1 (List.mem_of_getElem? (i := 32) rfl)) (mt_1 (List.mem_of_getElem? (i := 2) rfl)) (by decide +kernel) ⟨by decide, by decide⟩ ?_
    show F im_S1 (ev_0 D 171) 15 [some (.ref 1), some (.int 1)] [.ref 171, .ref 1]
    refine ev_blk hX lkok_RX11 [(.dup, 1, 0, 0, 0)] (by decide +kernel) (g := true) (lv' := [some (.ref 1), some (.int 1)]) (st' := [.ref 171, .ref 171, .ref 1]) (D' := ev_0 D 171) (pc' := 16) rfl rfl rfl ?_
    refine ev_callIN hX YcX10_init (mt_1 (List.mem_of_getElem? (i := 33) rfl)) (mgX10_init hi) (vs := []) (q := 171) (st := [.ref 171, .ref 1]) (by decide) (by decide) rfl rfl (by decide +kernel) ⟨by show 1 + sC S2 ≤ 100; omega, by show 4 + sA S2 ≤ 7000; omega⟩ ?_
    refine ev_putR hX (q := 1) (ci := 11) (i := 6) (idx := 75) (w := .ref 171) (rc := (RX11, TX11, 7)) hsK rfl (by decide) (mt_2 (List.mem_of_getElem? (i := 187) rfl)) rfl rfl (by decide +kernel) ?_
    refine ev_shift (S' := (208, sh_K 208, sh_L, sh_E 171, 1 + sC S2, 4 + sA S2)) hX (fun G H hW => st_c_s (S := ev_pS S2 1 6 (.ref 171)) k1 k2 rfl rfl rfl rfl (ev_sm.W ⟨rfl, rfl, rfl, rfl⟩ hW)) rfl rfl ?_
    have hT : ev_Ty ((208, sh_K 208, sh_L, sh_E 171, 1 + sC S2, 4 + sA S2) : ev_S) := sh_ty (.inr rfl)
    show F (208, sh_K 208, sh_L, sh_E 171, 1 + sC S2, 4 + sA S2) D2 22 [some (.ref 1), some (.int 1)] []
    refine ev_blk hX lkok_RX11 [(.aload_n 0, 1, 0, 0, 0), (.getfield 75, 3, 11, 6, 0), (.aload_n 0, 1, 0, 0, 0), (.getfield 10, 3, 11, 0, 0)] (by decide +kernel) (g := true) (lv' := [some (.ref 1), some (.int 1)]) (st' := [.ref 2, .ref 171]) (D' := D2) (pc' := 30) rfl rfl rfl ?_
    refine ev_callV hX YX10_become ml_RX11_325 (mX10_become hT rfl rfl hc1) (vs := [.ref 2]) (st := []) (by decide) 10 rfl rfl rfl rfl (by decide +kernel) ⟨by show 1 + sC S2 + 0 ≤ 100; omega, by show 4 + sA S2 + 0 ≤ 7000; omega⟩ ?_
    show F (208, sh_K 208, sh_L, sh_E 171, 1 + sC S2 + 0, 4 + sA S2 + 0) D1 33 [some (.ref 1), some (.int 1)] []
    refine ev_blk hX lkok_RX11 [(.iconst 1, 1, 0, 0, 1)] (by decide +kernel) (g := true) (lv' := [some (.ref 1), some (.int 1)]) (st' := [.int 1]) (D' := D1) (pc' := 34) rfl rfl rfl ?_
    exact ev_zret hR ⟨rfl, rfl, rfl, rfl⟩ (Or.inr rfl) rfl ⟨by show 1 + sC S2 + 0 ≤ 100; omega, by show 4 + sA S2 + 0 ≤ 7000; omega⟩ (by decide +kernel))
