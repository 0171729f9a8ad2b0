set_option maxHeartbeats 4000000 in
set_option maxRecDepth 100000 in
theorem tX2_forget {S : ev_S} {fu : Nat} {r : Int32 × ev_D} {F : ev_Fr} (hR : ev_R RX2 cX2_forget 1 0 0 0 false none S r F) (hT : ev_Ty S) (hC : sC S ≤ 0 ∧ sA S ≤ 0) {l0 : Nat} {D : ev_D} (hl0 : sK S l0 = 5) (hf : fX2_forget (sL S) (sE S) fu l0 D = some r) : F S D 0 [some (.ref l0)] [] := by
  have hX := hR.X
  unfold fX2_forget at hf
  refine ev_blk hX lkok_RX2 [(.aload_n 0, 1, 0, 0, 0), (.iconst 0, 1, 0, 0, 0), (.putfield 9, 3, 2, 0, 0)] (by decide +kernel) (g := (sK S l0 == 5) && (true)) (lv' := [some (.ref l0)]) (st' := []) (D' := (ev_up D l0 0 (0 : Int32))) (pc' := 5) rfl (ev_gk hl0 (rfl)) rfl ?_
  exact ev_vret hR ev_sm.rf (Option.some.inj hf) hC (by decide +kernel)
theorem mX2_forget {S : ev_S} {fu : Nat} {r : Int32 × ev_D} (hT : ev_Ty S) {l0 : Nat} {D : ev_D} (hl0 : sK S l0 = 5) (hf : fX2_forget (sL S) (sE S) fu l0 D = some r) : ev_M 0 0 0 yX2_forget cX2_forget 1 none [.ref l0] S D S r :=
  ev_met (ini := false) (plainFor_of_name (by decide)) (fun h => by cases h) rfl (Nat.le_of_ble_eq_true rfl) (fun F hR => tX2_forget (S := ev_z S) hR hT ⟨Nat.le_refl 0, Nat.le_refl 0⟩ hl0 hf)
set_option maxHeartbeats 4000000 in
set_option maxRecDepth 100000 in
theorem tX11_state {S : ev_S} {fu : Nat} {r : Int32 × ev_D} {F : ev_Fr} (hR : ev_R RX11 cX11_state 3 1 0 0 false (some .int) S r F) (hT : ev_Ty S) (hC : sC S ≤ 0 ∧ sA S ≤ 0) {l0 : Nat} {l1 : Int32} {D : ev_D} (hl0 : sK S l0 = 14) (hf : fX11_state (sL S) (sE S) fu l0 l1 D = some r) : F S D 0 [some (.ref l0), some (.int l1), none] [] := by
  have hX := hR.X
  unfold fX11_state at hf
  refine ev_blk hX lkok_RX11 [(.aload_n 0, 1, 0, 0, 0), (.getfield 10, 3, 11, 0, 0), (.getfield 32, 3, 10, 0, 0), (.getfield 78, 3, 9, 0, 0), (.istore_n 2, 1, 0, 0, 0), (.aload_n 0, 1, 0, 0, 0), (.getfield 10, 3, 11, 0, 0), (.getfield 32, 3, 10, 0, 0), (.iload_n 1, 1, 0, 0, 0), (.putfield 78, 3, 9, 0, 0), (.aload_n 0, 1, 0, 0, 0), (.getfield 19, 3, 11, 1, 0)] (by decide +kernel) (g := (sK S l0 == 14) && ((sK S ((sE S) l0 0) == 13) && ((sK S ((sE S) ((sE S) l0 0) 0) == 12) && ((sK S l0 == 14) && ((sK S ((sE S) l0 0) == 13) && ((sK S ((sE S) ((sE S) l0 0) 0) == 12) && ((sK S l0 == 14) && (true)))))))) (lv' := [some (.ref l0), some (.int l1), some (.int (D ((sE S) ((sE S) l0 0) 0) 0))]) (st' := [.ref ((sE S) l0 1)]) (D' := (ev_up D ((sE S) ((sE S) l0 0) 0) 0 l1)) (pc' := 26) rfl (ev_gk hl0 (ev_gk (ev_tyk hT hl0 rfl rfl) (ev_gk (ev_tyk hT (ev_tyk hT hl0 rfl rfl) rfl rfl) (ev_gk hl0 (ev_gk (ev_tyk hT hl0 rfl rfl) (ev_gk (ev_tyk hT (ev_tyk hT hl0 rfl rfl) rfl rfl) (ev_gk hl0 (rfl)))))))) rfl ?_
  obtain ⟨v1, D1, hc1, hf⟩ := ev_bd_s hf
  refine ev_callV hX YX2_forget ml_RX11_82 (mX2_forget hT (ev_tyk hT hl0 rfl rfl) hc1) (vs := []) (st := []) (by decide) 2 (ev_tyk hT hl0 rfl rfl) rfl rfl rfl (by decide +kernel) hC ?_
  show F S D1 29 [some (.ref l0), some (.int l1), some (.int (D ((sE S) ((sE S) l0 0) 0) 0))] []
  refine ev_blk hX lkok_RX11 [(.iload_n 2, 1, 0, 0, 0)] (by decide +kernel) (g := true) (lv' := [some (.ref l0), some (.int l1), some (.int (D ((sE S) ((sE S) l0 0) 0) 0))]) (st' := [.int (D ((sE S) ((sE S) l0 0) 0) 0)]) (D' := D1) (pc' := 30) rfl (rfl) rfl ?_
  exact ev_iret hR ev_sm.rf (Option.some.inj hf) hC (by decide +kernel)
theorem mX11_state {S : ev_S} {fu : Nat} {r : Int32 × ev_D} (hT : ev_Ty S) {l0 : Nat} {l1 : Int32} {D : ev_D} (hl0 : sK S l0 = 14) (hf : fX11_state (sL S) (sE S) fu l0 l1 D = some r) : ev_M 1 0 0 yX11_state cX11_state 3 (some .int) [.ref l0, .int l1] S D S r :=
  ev_met (ini := false) (plainFor_of_name (by decide)) (fun h => by cases h) rfl (Nat.le_of_ble_eq_true rfl) (fun F hR => tX11_state (S := ev_z S) hR hT ⟨Nat.le_refl 0, Nat.le_refl 0⟩ hl0 hf)
set_option maxHeartbeats 4000000 in
set_option maxRecDepth 100000 in
theorem tX11_within {S : ev_S} {fu : Nat} {r : Int32 × ev_D} {F : ev_Fr} (hR : ev_R RX11 cX11_within 3 0 0 0 false (some .boolean) S r F) (hT : ev_Ty S) (hC : sC S ≤ 0 ∧ sA S ≤ 0) {l0 : Int32} {l1 : Int32} {l2 : Int32} {D : ev_D}  (hf : fX11_within (sL S) (sE S) fu l0 l1 l2 D = some r) : F S D 0 [some (.int l0), some (.int l1), some (.int l2)] [] := by
  have hX := hR.X
  unfold fX11_within at hf
  refine ev_blk hX lkok_RX11 [(.iload_n 0, 1, 0, 0, 0), (.iload_n 1, 1, 0, 0, 0)] (by decide +kernel) (g := true) (lv' := [some (.int l0), some (.int l1), some (.int l2)]) (st' := [.int l1, .int l0]) (D' := D) (pc' := 2) rfl (rfl) rfl ?_
  refine ev_ic_lt hX (off := 12) 14 (by decide +kernel) (by decide) (fun h1 => ?_) (fun h1 => ?_)
  · have hf := ev_it h1 hf
    refine ev_blk hX lkok_RX11 [(.iconst 0, 1, 0, 0, 0)] (by decide +kernel) (g := true) (lv' := [some (.int l0), some (.int l1), some (.int l2)]) (st' := [.int (0 : Int32)]) (D' := D) (pc' := 15) rfl (rfl) rfl ?_
    exact ev_zret hR ev_sm.rf (Or.inl rfl) (Option.some.inj hf) hC (by decide +kernel)
  · have hf := ev_nf h1 hf
    refine ev_blk hX lkok_RX11 [(.iload_n 0, 1, 0, 0, 0), (.iload_n 2, 1, 0, 0, 0)] (by decide +kernel) (g := true) (lv' := [some (.int l0), some (.int l1), some (.int l2)]) (st' := [.int l2, .int l0]) (D' := D) (pc' := 7) rfl (rfl) rfl ?_
    refine ev_ic_gt hX (off := 7) 14 (by decide +kernel) (by decide) (fun h2 => ?_) (fun h2 => ?_)
    · have hf := ev_it h2 hf
      refine ev_blk hX lkok_RX11 [(.iconst 0, 1, 0, 0, 0)] (by decide +kernel) (g := true) (lv' := [some (.int l0), some (.int l1), some (.int l2)]) (st' := [.int (0 : Int32)]) (D' := D) (pc' := 15) rfl (rfl) rfl ?_
      exact ev_zret hR ev_sm.rf (Or.inl rfl) (Option.some.inj hf) hC (by decide +kernel)
    · have hf := ev_nf h2 hf
      refine ev_blk hX lkok_RX11 [(.iconst 1, 1, 0, 0, 1)] (by decide +kernel) (g := true) (lv' := [some (.int l0), some (.int l1), some (.int l2)]) (st' := [.int (1 : Int32)]) (D' := D) (pc' := 11) rfl (rfl) rfl ?_
      refine ev_goto hX (off := 4) 15 (by decide +kernel) (by decide) ?_
      exact ev_zret hR ev_sm.rf (Or.inr rfl) (Option.some.inj hf) hC (by decide +kernel)
theorem mX11_within {S : ev_S} {fu : Nat} {r : Int32 × ev_D} (hT : ev_Ty S) {l0 : Int32} {l1 : Int32} {l2 : Int32} {D : ev_D}  (hf : fX11_within (sL S) (sE S) fu l0 l1 l2 D = some r) : ev_M 0 0 0 yX11_within cX11_within 3 (some .boolean) [.int l0, .int l1, .int l2] S D S r :=
  ev_met (ini := false) (plainFor_of_name (by decide)) (fun h => by cases h) rfl (Nat.le_of_ble_eq_true rfl) (fun F hR => tX11_within (S := ev_z S) hR hT ⟨Nat.le_refl 0, Nat.le_refl 0⟩  hf)
set_option maxHeartbeats 4000000 in
set_option maxRecDepth 100000 in
theorem tX9_wake {S : ev_S} {fu : Nat} {r : Int32 × ev_D} {F : ev_Fr} (hR : ev_R RX9 cX9_wake 2 0 0 0 false none S r F) (hT : ev_Ty S) (hC : sC S ≤ 0 ∧ sA S ≤ 0) {l0 : Nat} {l1 : Int32} {D : ev_D} (hl0 : sK S l0 = 12) (hf : fX9_wake (sL S) (sE S) fu l0 l1 D = some r) : F S D 0 [some (.ref l0), some (.int l1)] [] := by
  have hX := hR.X
  unfold fX9_wake at hf
  refine ev_blk hX lkok_RX9 [(.aload_n 0, 1, 0, 0, 0), (.dup, 1, 0, 0, 0), (.getfield 30, 3, 9, 6, 0), (.iconst 1, 1, 0, 0, 1), (.iload_n 1, 1, 0, 0, 0), (.ishl, 1, 0, 0, 0), (.ior, 1, 0, 0, 0), (.putfield 30, 3, 9, 6, 0)] (by decide +kernel) (g := (sK S l0 == 12) && ((sK S l0 == 12) && (true))) (lv' := [some (.ref l0), some (.int l1)]) (st' := []) (D' := (ev_up D l0 6 ((D l0 6) ||| ((1 : Int32) <<< (l1 &&& 31))))) (pc' := 12) rfl (ev_gk hl0 (ev_gk hl0 (rfl))) rfl ?_
  exact ev_vret hR ev_sm.rf (Option.some.inj hf) hC (by decide +kernel)
theorem mX9_wake {S : ev_S} {fu : Nat} {r : Int32 × ev_D} (hT : ev_Ty S) {l0 : Nat} {l1 : Int32} {D : ev_D} (hl0 : sK S l0 = 12) (hf : fX9_wake (sL S) (sE S) fu l0 l1 D = some r) : ev_M 0 0 0 yX9_wake cX9_wake 2 none [.ref l0, .int l1] S D S r :=
  ev_met (ini := false) (plainFor_of_name (by decide)) (fun h => by cases h) rfl (Nat.le_of_ble_eq_true rfl) (fun F hR => tX9_wake (S := ev_z S) hR hT ⟨Nat.le_refl 0, Nat.le_refl 0⟩ hl0 hf)
set_option maxHeartbeats 4000000 in
set_option maxRecDepth 100000 in
theorem tX9_come {S : ev_S} {fu : Nat} {r : Int32 × ev_D} {F : ev_Fr} (hR : ev_R RX9 cX9_come 5 1 0 0 false (some .int) S r F) (hT : ev_Ty S) (hC : sC S ≤ 0 ∧ sA S ≤ 0) {l0 : Nat} {l1 : Int32} {l2 : Int32} {l3 : Int32} {D : ev_D} (hl0 : sK S l0 = 12) (hf : fX9_come (sL S) (sE S) fu l0 l1 l2 l3 D = some r) : F S D 0 [some (.ref l0), some (.int l1), some (.int l2), some (.int l3), none] [] := by
  have hX := hR.X
  unfold fX9_come at hf
  refine ev_blk hX lkok_RX9 [(.aload_n 0, 1, 0, 0, 0), (.getfield 27, 3, 9, 5, 0), (.bipush 10, 2, 0, 0, 10)] (by decide +kernel) (g := (sK S l0 == 12) && (true)) (lv' := [some (.ref l0), some (.int l1), some (.int l2), some (.int l3), none]) (st' := [.int (10 : Int32), .int (D l0 5)]) (D' := D) (pc' := 6) rfl (ev_gk hl0 (rfl)) rfl ?_
  refine ev_ic_lt hX (off := 5) 11 (by decide +kernel) (by decide) (fun h1 => ?_) (fun h1 => ?_)
  · have hf := ev_it h1 hf
    obtain ⟨hg3, hf⟩ := ev_gd_s hf
    obtain ⟨hg4, hf⟩ := ev_gd_s hf
    obtain ⟨hg5, hf⟩ := ev_gd_s hf
    obtain ⟨hg6, hf⟩ := ev_gd_s hf
    obtain ⟨hg7, hf⟩ := ev_gd_s hf
    refine ev_blk hX lkok_RX9 [(.aload_n 0, 1, 0, 0, 0), (.getfield 27, 3, 9, 5, 0), (.istore 4, 2, 0, 0, 0), (.aload_n 0, 1, 0, 0, 0), (.getfield 40, 3, 9, 9, 0), (.iload 4, 2, 0, 0, 0), (.iload_n 1, 1, 0, 0, 0), (.iastore, 1, 0, 0, 0), (.aload_n 0, 1, 0, 0, 0), (.getfield 43, 3, 9, 10, 0), (.iload 4, 2, 0, 0, 0), (.iload_n 2, 1, 0, 0, 0), (.iastore, 1, 0, 0, 0), (.aload_n 0, 1, 0, 0, 0), (.getfield 46, 3, 9, 11, 0), (.iload 4, 2, 0, 0, 0), (.iload_n 3, 1, 0, 0, 0), (.iastore, 1, 0, 0, 0), (.aload_n 0, 1, 0, 0, 0), (.getfield 49, 3, 9, 12, 0), (.iload 4, 2, 0, 0, 0), (.iconst 0, 1, 0, 0, 0), (.iastore, 1, 0, 0, 0), (.aload_n 0, 1, 0, 0, 0), (.getfield 52, 3, 9, 13, 0), (.iload 4, 2, 0, 0, 0), (.iconst 0, 1, 0, 0, 0), (.iastore, 1, 0, 0, 0), (.aload_n 0, 1, 0, 0, 0), (.iload 4, 2, 0, 0, 0)] (by decide +kernel) (g := (sK S l0 == 12) && ((sK S l0 == 12) && ((sK S ((sE S) l0 9) == 1 && ev_in (D l0 5) ((sL S) ((sE S) l0 9))) && ((sK S l0 == 12) && ((sK S ((sE S) l0 10) == 1 && ev_in (D l0 5) ((sL S) ((sE S) l0 10))) && ((sK S l0 == 12) && ((sK S ((sE S) l0 11) == 1 && ev_in (D l0 5) ((sL S) ((sE S) l0 11))) && ((sK S l0 == 12) && ((sK S ((sE S) l0 12) == 1 && ev_in (D l0 5) ((sL S) ((sE S) l0 12))) && ((sK S l0 == 12) && ((sK S ((sE S) l0 13) == 1 && ev_in (D l0 5) ((sL S) ((sE S) l0 13))) && (true)))))))))))) (lv' := [some (.ref l0), some (.int l1), some (.int l2), some (.int l3), some (.int (D l0 5))]) (st' := [.int (D l0 5), .ref l0]) (D' := (ev_up (ev_up (ev_up (ev_up (ev_up D ((sE S) l0 9) ((D l0 5)).toNatClampNeg l1) ((sE S) l0 10) ((D l0 5)).toNatClampNeg l2) ((sE S) l0 11) ((D l0 5)).toNatClampNeg l3) ((sE S) l0 12) ((D l0 5)).toNatClampNeg (0 : Int32)) ((sE S) l0 13) ((D l0 5)).toNatClampNeg (0 : Int32))) (pc' := 60) rfl (ev_gk hl0 (ev_gk hl0 (ev_gi (ev_tyk hT hl0 rfl rfl) hg3 (ev_gk hl0 (ev_gi (ev_tyk hT hl0 rfl rfl) hg4 (ev_gk hl0 (ev_gi (ev_tyk hT hl0 rfl rfl) hg5 (ev_gk hl0 (ev_gi (ev_tyk hT hl0 rfl rfl) hg6 (ev_gk hl0 (ev_gi (ev_tyk hT hl0 rfl rfl) hg7 (rfl)))))))))))) rfl ?_
    obtain ⟨v2, D2, hc2, hf⟩ := ev_bd_s hf
    refine ev_callV hX YX9_wake ml_RX9_65 (mX9_wake hT hl0 hc2) (vs := [.int (D l0 5)]) (st := []) (by decide) 9 hl0 rfl rfl rfl (by decide +kernel) hC ?_
    show F S D2 63 [some (.ref l0), some (.int l1), some (.int l2), some (.int l3), some (.int (D l0 5))] []
    refine ev_blk hX lkok_RX9 [(.aload_n 0, 1, 0, 0, 0), (.dup, 1, 0, 0, 0), (.getfield 27, 3, 9, 5, 0), (.iconst 1, 1, 0, 0, 1), (.iadd, 1, 0, 0, 0), (.putfield 27, 3, 9, 5, 0), (.iload 4, 2, 0, 0, 0)] (by decide +kernel) (g := (sK S l0 == 12) && ((sK S l0 == 12) && (true))) (lv' := [some (.ref l0), some (.int l1), some (.int l2), some (.int l3), some (.int (D l0 5))]) (st' := [.int (D l0 5)]) (D' := (ev_up D2 l0 5 ((D2 l0 5) + (1 : Int32)))) (pc' := 75) rfl (ev_gk hl0 (ev_gk hl0 (rfl))) rfl ?_
    exact ev_iret hR ev_sm.rf (Option.some.inj hf) hC (by decide +kernel)
  · have hf := ev_nf h1 hf
    refine ev_blk hX lkok_RX9 [(.iconst (-1), 1, 0, 0, (-1))] (by decide +kernel) (g := true) (lv' := [some (.ref l0), some (.int l1), some (.int l2), some (.int l3), none]) (st' := [.int (-1 : Int32)]) (D' := D) (pc' := 10) rfl (rfl) rfl ?_
    exact ev_iret hR ev_sm.rf (Option.some.inj hf) hC (by decide +kernel)
theorem mX9_come {S : ev_S} {fu : Nat} {r : Int32 × ev_D} (hT : ev_Ty S) {l0 : Nat} {l1 : Int32} {l2 : Int32} {l3 : Int32} {D : ev_D} (hl0 : sK S l0 = 12) (hf : fX9_come (sL S) (sE S) fu l0 l1 l2 l3 D = some r) : ev_M 1 0 0 yX9_come cX9_come 5 (some .int) [.ref l0, .int l1, .int l2, .int l3] S D S r :=
  ev_met (ini := false) (plainFor_of_name (by decide)) (fun h => by cases h) rfl (Nat.le_of_ble_eq_true rfl) (fun F hR => tX9_come (S := ev_z S) hR hT ⟨Nat.le_refl 0, Nat.le_refl 0⟩ hl0 hf)
set_option maxHeartbeats 4000000 in
set_option maxRecDepth 100000 in
theorem tX11_ringer {S : ev_S} {fu : Nat} {r : Int32 × ev_D} {F : ev_Fr} (hR : ev_R RX11 cX11_ringer 5 2 0 0 false (some .int) S r F) (hT : ev_Ty S) (hC : sC S ≤ 0 ∧ sA S ≤ 0) {l0 : Nat} {l1 : Int32} {l2 : Int32} {l3 : Int32} {D : ev_D} (hl0 : sK S l0 = 14) (hf : fX11_ringer (sL S) (sE S) fu l0 l1 l2 l3 D = some r) : F S D 0 [some (.ref l0), some (.int l1), some (.int l2), some (.int l3), none] [] := by
  have hX := hR.X
  unfold fX11_ringer at hf
  refine ev_blk hX lkok_RX11 [(.iload_n 1, 1, 0, 0, 0), (.iconst 0, 1, 0, 0, 0), (.bipush 7, 2, 0, 0, 7)] (by decide +kernel) (g := true) (lv' := [some (.ref l0), some (.int l1), some (.int l2), some (.int l3), none]) (st' := [.int (7 : Int32), .int (0 : Int32), .int l1]) (D' := D) (pc' := 4) rfl (rfl) rfl ?_
  obtain ⟨v1, D1, hc1, hf⟩ := ev_bd_s hf
  refine ev_callS hX YX11_within ml_RX11_85 (mX11_within hT  hc1) (vs := [.int l1, .int (0 : Int32), .int (7 : Int32)]) (st := []) (by decide) rfl rfl (by decide +kernel) hC ?_
  show F S D1 7 [some (.ref l0), some (.int l1), some (.int l2), some (.int l3), none] [.int v1]
  refine ev_if_eq hX (off := 23) 30 (by decide +kernel) (by decide) (fun h2 => ?_) (fun h2 => ?_)
  · have hf := ev_it h2 hf
    refine ev_blk hX lkok_RX11 [(.iconst (-1), 1, 0, 0, (-1))] (by decide +kernel) (g := true) (lv' := [some (.ref l0), some (.int l1), some (.int l2), some (.int l3), none]) (st' := [.int (-1 : Int32)]) (D' := D1) (pc' := 31) rfl (rfl) rfl ?_
    exact ev_iret hR ev_sm.rf (Option.some.inj hf) hC (by decide +kernel)
  · have hf := ev_nf h2 hf
    refine ev_blk hX lkok_RX11 [(.iload_n 2, 1, 0, 0, 0), (.iconst 0, 1, 0, 0, 0), (.bipush 9, 2, 0, 0, 9)] (by decide +kernel) (g := true) (lv' := [some (.ref l0), some (.int l1), some (.int l2), some (.int l3), none]) (st' := [.int (9 : Int32), .int (0 : Int32), .int l2]) (D' := D1) (pc' := 14) rfl (rfl) rfl ?_
    obtain ⟨v3, D3, hc3, hf⟩ := ev_bd_s hf
    refine ev_callS hX YX11_within ml_RX11_85 (mX11_within hT  hc3) (vs := [.int l2, .int (0 : Int32), .int (9 : Int32)]) (st := []) (by decide) rfl rfl (by decide +kernel) hC ?_
    show F S D3 17 [some (.ref l0), some (.int l1), some (.int l2), some (.int l3), none] [.int v3]
    refine ev_if_eq hX (off := 13) 30 (by decide +kernel) (by decide) (fun h4 => ?_) (fun h4 => ?_)
    · have hf := ev_it h4 hf
      refine ev_blk hX lkok_RX11 [(.iconst (-1), 1, 0, 0, (-1))] (by decide +kernel) (g := true) (lv' := [some (.ref l0), some (.int l1), some (.int l2), some (.int l3), none]) (st' := [.int (-1 : Int32)]) (D' := D3) (pc' := 31) rfl (rfl) rfl ?_
      exact ev_iret hR ev_sm.rf (Option.some.inj hf) hC (by decide +kernel)
    · have hf := ev_nf h4 hf
      refine ev_blk hX lkok_RX11 [(.iload_n 3, 1, 0, 0, 0), (.iconst 0, 1, 0, 0, 0), (.bipush 9, 2, 0, 0, 9)] (by decide +kernel) (g := true) (lv' := [some (.ref l0), some (.int l1), some (.int l2), some (.int l3), none]) (st' := [.int (9 : Int32), .int (0 : Int32), .int l3]) (D' := D3) (pc' := 24) rfl (rfl) rfl ?_
      obtain ⟨v5, D5, hc5, hf⟩ := ev_bd_s hf
      refine ev_callS hX YX11_within ml_RX11_85 (mX11_within hT  hc5) (vs := [.int l3, .int (0 : Int32), .int (9 : Int32)]) (st := []) (by decide) rfl rfl (by decide +kernel) hC ?_
      show F S D5 27 [some (.ref l0), some (.int l1), some (.int l2), some (.int l3), none] [.int v5]
      refine ev_if_ne hX (off := 5) 32 (by decide +kernel) (by decide) (fun h6 => ?_) (fun h6 => ?_)
      · have hf := ev_nf h6 hf
        refine ev_blk hX lkok_RX11 [(.aload_n 0, 1, 0, 0, 0), (.getfield 10, 3, 11, 0, 0), (.getfield 32, 3, 10, 0, 0), (.iload_n 1, 1, 0, 0, 0), (.iload_n 2, 1, 0, 0, 0), (.iload_n 3, 1, 0, 0, 0)] (by decide +kernel) (g := (sK S l0 == 14) && ((sK S ((sE S) l0 0) == 13) && (true))) (lv' := [some (.ref l0), some (.int l1), some (.int l2), some (.int l3), none]) (st' := [.int l3, .int l2, .int l1, .ref ((sE S) ((sE S) l0 0) 0)]) (D' := D5) (pc' := 42) rfl (ev_gk hl0 (ev_gk (ev_tyk hT hl0 rfl rfl) (rfl))) rfl ?_
        obtain ⟨v7, D7, hc7, hf⟩ := ev_bd_s hf
        refine ev_callV hX YX9_come ml_RX11_89 (mX9_come hT (ev_tyk hT (ev_tyk hT hl0 rfl rfl) rfl rfl) hc7) (vs := [.int l1, .int l2, .int l3]) (st := []) (by decide) 9 (ev_tyk hT (ev_tyk hT hl0 rfl rfl) rfl rfl) rfl rfl rfl (by decide +kernel) hC ?_
        show F S D7 45 [some (.ref l0), some (.int l1), some (.int l2), some (.int l3), none] [.int v7]
        refine ev_blk hX lkok_RX11 [(.istore 4, 2, 0, 0, 0), (.iload 4, 2, 0, 0, 0), (.iconst (-1), 1, 0, 0, (-1))] (by decide +kernel) (g := true) (lv' := [some (.ref l0), some (.int l1), some (.int l2), some (.int l3), some (.int v7)]) (st' := [.int (-1 : Int32), .int v7]) (D' := D7) (pc' := 50) rfl (rfl) rfl ?_
        refine ev_ic_eq hX (off := 10) 60 (by decide +kernel) (by decide) (fun h8 => ?_) (fun h8 => ?_)
        · have hf := ev_it h8 hf
          refine ev_blk hX lkok_RX11 [(.iload 4, 2, 0, 0, 0)] (by decide +kernel) (g := true) (lv' := [some (.ref l0), some (.int l1), some (.int l2), some (.int l3), some (.int v7)]) (st' := [.int v7]) (D' := D7) (pc' := 62) rfl (rfl) rfl ?_
          exact ev_iret hR ev_sm.rf (Option.some.inj hf) hC (by decide +kernel)
        · have hf := ev_nf h8 hf
          refine ev_blk hX lkok_RX11 [(.aload_n 0, 1, 0, 0, 0), (.getfield 19, 3, 11, 1, 0)] (by decide +kernel) (g := (sK S l0 == 14) && (true)) (lv' := [some (.ref l0), some (.int l1), some (.int l2), some (.int l3), some (.int v7)]) (st' := [.ref ((sE S) l0 1)]) (D' := D7) (pc' := 57) rfl (ev_gk hl0 (rfl)) rfl ?_
          obtain ⟨v9, D9, hc9, hf⟩ := ev_bd_s hf
          refine ev_callV hX YX2_forget ml_RX11_82 (mX2_forget hT (ev_tyk hT hl0 rfl rfl) hc9) (vs := []) (st := []) (by decide) 2 (ev_tyk hT hl0 rfl rfl) rfl rfl rfl (by decide +kernel) hC ?_
          show F S D9 60 [some (.ref l0), some (.int l1), some (.int l2), some (.int l3), some (.int v7)] []
          refine ev_blk hX lkok_RX11 [(.iload 4, 2, 0, 0, 0)] (by decide +kernel) (g := true) (lv' := [some (.ref l0), some (.int l1), some (.int l2), some (.int l3), some (.int v7)]) (st' := [.int v7]) (D' := D9) (pc' := 62) rfl (rfl) rfl ?_
          exact ev_iret hR ev_sm.rf (Option.some.inj hf) hC (by decide +kernel)
      · have hf := ev_it h6 hf
        refine ev_blk hX lkok_RX11 [(.iconst (-1), 1, 0, 0, (-1))] (by decide +kernel) (g := true) (lv' := [some (.ref l0), some (.int l1), some (.int l2), some (.int l3), none]) (st' := [.int (-1 : Int32)]) (D' := D5) (pc' := 31) rfl (rfl) rfl ?_
        exact ev_iret hR ev_sm.rf (Option.some.inj hf) hC (by decide +kernel)
theorem mX11_ringer {S : ev_S} {fu : Nat} {r : Int32 × ev_D} (hT : ev_Ty S) {l0 : Nat} {l1 : Int32} {l2 : Int32} {l3 : Int32} {D : ev_D} (hl0 : sK S l0 = 14) (hf : fX11_ringer (sL S) (sE S) fu l0 l1 l2 l3 D = some r) : ev_M 2 0 0 yX11_ringer cX11_ringer 5 (some .int) [.ref l0, .int l1, .int l2, .int l3] S D S r :=
  ev_met (ini := false) (plainFor_of_name (by decide)) (fun h => by cases h) rfl (Nat.le_of_ble_eq_true rfl) (fun F hR => tX11_ringer (S := ev_z S) hR hT ⟨Nat.le_refl 0, Nat.le_refl 0⟩ hl0 hf)
set_option maxHeartbeats 4000000 in
set_option maxRecDepth 100000 in
theorem tX9_has {S : ev_S} {fu : Nat} {r : Int32 × ev_D} {F : ev_Fr} (hR : ev_R RX9 cX9_has 2 0 0 0 false (some .boolean) S r F) (hT : ev_Ty S) (hC : sC S ≤ 0 ∧ sA S ≤ 0) {l0 : Nat} {l1 : Int32} {D : ev_D} (hl0 : sK S l0 = 12) (hf : fX9_has (sL S) (sE S) fu l0 l1 D = some r) : F S D 0 [some (.ref l0), some (.int l1)] [] := by
  have hX := hR.X
  unfold fX9_has at hf
  refine ev_blk hX lkok_RX9 [(.iload_n 1, 1, 0, 0, 0)] (by decide +kernel) (g := true) (lv' := [some (.ref l0), some (.int l1)]) (st' := [.int l1]) (D' := D) (pc' := 1) rfl (rfl) rfl ?_
  refine ev_if_lt hX (off := 21) 22 (by decide +kernel) (by decide) (fun h1 => ?_) (fun h1 => ?_)
  · have hf := ev_it h1 hf
    refine ev_blk hX lkok_RX9 [(.iconst 0, 1, 0, 0, 0)] (by decide +kernel) (g := true) (lv' := [some (.ref l0), some (.int l1)]) (st' := [.int (0 : Int32)]) (D' := D) (pc' := 23) rfl (rfl) rfl ?_
    exact ev_zret hR ev_sm.rf (Or.inl rfl) (Option.some.inj hf) hC (by decide +kernel)
  · have hf := ev_nf h1 hf
    refine ev_blk hX lkok_RX9 [(.iload_n 1, 1, 0, 0, 0), (.aload_n 0, 1, 0, 0, 0), (.getfield 27, 3, 9, 5, 0)] (by decide +kernel) (g := (sK S l0 == 12) && (true)) (lv' := [some (.ref l0), some (.int l1)]) (st' := [.int (D l0 5), .int l1]) (D' := D) (pc' := 9) rfl (ev_gk hl0 (rfl)) rfl ?_
    refine ev_ic_ge hX (off := 13) 22 (by decide +kernel) (by decide) (fun h2 => ?_) (fun h2 => ?_)
    · have hf := ev_it h2 hf
      refine ev_blk hX lkok_RX9 [(.iconst 0, 1, 0, 0, 0)] (by decide +kernel) (g := true) (lv' := [some (.ref l0), some (.int l1)]) (st' := [.int (0 : Int32)]) (D' := D) (pc' := 23) rfl (rfl) rfl ?_
      exact ev_zret hR ev_sm.rf (Or.inl rfl) (Option.some.inj hf) hC (by decide +kernel)
    · have hf := ev_nf h2 hf
      refine ev_blk hX lkok_RX9 [(.iload_n 1, 1, 0, 0, 0), (.bipush 10, 2, 0, 0, 10)] (by decide +kernel) (g := true) (lv' := [some (.ref l0), some (.int l1)]) (st' := [.int (10 : Int32), .int l1]) (D' := D) (pc' := 15) rfl (rfl) rfl ?_
      refine ev_ic_ge hX (off := 7) 22 (by decide +kernel) (by decide) (fun h3 => ?_) (fun h3 => ?_)
      · have hf := ev_it h3 hf
        refine ev_blk hX lkok_RX9 [(.iconst 0, 1, 0, 0, 0)] (by decide +kernel) (g := true) (lv' := [some (.ref l0), some (.int l1)]) (st' := [.int (0 : Int32)]) (D' := D) (pc' := 23) rfl (rfl) rfl ?_
        exact ev_zret hR ev_sm.rf (Or.inl rfl) (Option.some.inj hf) hC (by decide +kernel)
      · have hf := ev_nf h3 hf
        refine ev_blk hX lkok_RX9 [(.iconst 1, 1, 0, 0, 1)] (by decide +kernel) (g := true) (lv' := [some (.ref l0), some (.int l1)]) (st' := [.int (1 : Int32)]) (D' := D) (pc' := 19) rfl (rfl) rfl ?_
        refine ev_goto hX (off := 4) 23 (by decide +kernel) (by decide) ?_
        exact ev_zret hR ev_sm.rf (Or.inr rfl) (Option.some.inj hf) hC (by decide +kernel)
theorem mX9_has {S : ev_S} {fu : Nat} {r : Int32 × ev_D} (hT : ev_Ty S) {l0 : Nat} {l1 : Int32} {D : ev_D} (hl0 : sK S l0 = 12) (hf : fX9_has (sL S) (sE S) fu l0 l1 D = some r) : ev_M 0 0 0 yX9_has cX9_has 2 (some .boolean) [.ref l0, .int l1] S D S r :=
  ev_met (ini := false) (plainFor_of_name (by decide)) (fun h => by cases h) rfl (Nat.le_of_ble_eq_true rfl) (fun F hR => tX9_has (S := ev_z S) hR hT ⟨Nat.le_refl 0, Nat.le_refl 0⟩ hl0 hf)
set_option maxHeartbeats 4000000 in
set_option maxRecDepth 100000 in
theorem tX11_toldOfRinger_70 {S : ev_S} {fu : Nat} {r : Int32 × ev_D} {F : ev_Fr} (hR : ev_R RX11 cX11_toldOfRinger 5 1 0 0 false (some .boolean) S r F) (hT : ev_Ty S) (hC : sC S ≤ 0 ∧ sA S ≤ 0) {l1 : Int32} {l2 : Int32} {l3 : Int32} {l4 : Nat} {D : ev_D} (hl4 : sK S l4 = 12) (hf : fX11_toldOfRinger_70 (sL S) (sE S) fu l1 l2 l3 l4 D = some r) : F S D 70 [none, some (.int l1), some (.int l2), some (.int l3), some (.ref l4)] [] := by
  have hX := hR.X
  unfold fX11_toldOfRinger_70 at hf
  refine ev_blk hX lkok_RX11 [(.iload_n 1, 1, 0, 0, 0), (.bipush 6, 2, 0, 0, 6)] (by decide +kernel) (g := true) (lv' := [none, some (.int l1), some (.int l2), some (.int l3), some (.ref l4)]) (st' := [.int (6 : Int32), .int l1]) (D' := D) (pc' := 73) rfl (rfl) rfl ?_
  refine ev_ic_ne hX (off := 23) 96 (by decide +kernel) (by decide) (fun h1 => ?_) (fun h1 => ?_)
  · have hf := ev_nf h1 hf
    refine ev_blk hX lkok_RX11 [(.iconst 0, 1, 0, 0, 0)] (by decide +kernel) (g := true) (lv' := [none, some (.int l1), some (.int l2), some (.int l3), some (.ref l4)]) (st' := [.int (0 : Int32)]) (D' := D) (pc' := 97) rfl (rfl) rfl ?_
    exact ev_zret hR ev_sm.rf (Or.inl rfl) (Option.some.inj hf) hC (by decide +kernel)
  · have hf := ev_it h1 hf
    refine ev_blk hX lkok_RX11 [(.iload_n 3, 1, 0, 0, 0), (.iconst 0, 1, 0, 0, 0), (.bipush 98, 2, 0, 0, 98)] (by decide +kernel) (g := true) (lv' := [none, some (.int l1), some (.int l2), some (.int l3), some (.ref l4)]) (st' := [.int (98 : Int32), .int (0 : Int32), .int l3]) (D' := D) (pc' := 80) rfl (rfl) rfl ?_
    obtain ⟨v2, D2, hc2, hf⟩ := ev_bd_s hf
    refine ev_callS hX YX11_within ml_RX11_85 (mX11_within hT  hc2) (vs := [.int l3, .int (0 : Int32), .int (98 : Int32)]) (st := []) (by decide) rfl rfl (by decide +kernel) hC ?_
    show F S D2 83 [none, some (.int l1), some (.int l2), some (.int l3), some (.ref l4)] [.int v2]
    refine ev_if_eq hX (off := 13) 96 (by decide +kernel) (by decide) (fun h3 => ?_) (fun h3 => ?_)
    · have hf := ev_it h3 hf
      refine ev_blk hX lkok_RX11 [(.iconst 0, 1, 0, 0, 0)] (by decide +kernel) (g := true) (lv' := [none, some (.int l1), some (.int l2), some (.int l3), some (.ref l4)]) (st' := [.int (0 : Int32)]) (D' := D2) (pc' := 97) rfl (rfl) rfl ?_
      exact ev_zret hR ev_sm.rf (Or.inl rfl) (Option.some.inj hf) hC (by decide +kernel)
    · have hf := ev_nf h3 hf
      obtain ⟨hg4, hf⟩ := ev_gd_s hf
      refine ev_blk hX lkok_RX11 [(.aload 4, 2, 0, 0, 0), (.getfield 122, 3, 9, 13, 0), (.iload_n 2, 1, 0, 0, 0), (.iload_n 3, 1, 0, 0, 0), (.iastore, 1, 0, 0, 0), (.iconst 1, 1, 0, 0, 1)] (by decide +kernel) (g := (sK S l4 == 12) && ((sK S ((sE S) l4 13) == 1 && ev_in l2 ((sL S) ((sE S) l4 13))) && (true))) (lv' := [none, some (.int l1), some (.int l2), some (.int l3), some (.ref l4)]) (st' := [.int (1 : Int32)]) (D' := (ev_up D2 ((sE S) l4 13) (l2).toNatClampNeg l3)) (pc' := 95) rfl (ev_gk hl4 (ev_gi (ev_tyk hT hl4 rfl rfl) hg4 (rfl))) rfl ?_
      exact ev_zret hR ev_sm.rf (Or.inr rfl) (Option.some.inj hf) hC (by decide +kernel)
set_option maxHeartbeats 4000000 in
set_option maxRecDepth 100000 in
theorem tX11_toldOfRinger_45 {S : ev_S} {fu : Nat} {r : Int32 × ev_D} {F : ev_Fr} (hR : ev_R RX11 cX11_toldOfRinger 5 1 0 0 false (some .boolean) S r F) (hT : ev_Ty S) (hC : sC S ≤ 0 ∧ sA S ≤ 0) {l1 : Int32} {l2 : Int32} {l3 : Int32} {l4 : Nat} {D : ev_D} (hl4 : sK S l4 = 12) (hf : fX11_toldOfRinger_45 (sL S) (sE S) fu l1 l2 l3 l4 D = some r) : F S D 45 [none, some (.int l1), some (.int l2), some (.int l3), some (.ref l4)] [] := by
  have hX := hR.X
  unfold fX11_toldOfRinger_45 at hf
  refine ev_blk hX lkok_RX11 [(.iload_n 1, 1, 0, 0, 0), (.iconst 5, 1, 0, 0, 5)] (by decide +kernel) (g := true) (lv' := [none, some (.int l1), some (.int l2), some (.int l3), some (.ref l4)]) (st' := [.int (5 : Int32), .int l1]) (D' := D) (pc' := 47) rfl (rfl) rfl ?_
  refine ev_ic_ne hX (off := 23) 70 (by decide +kernel) (by decide) (fun h5 => ?_) (fun h5 => ?_)
  · have hf := ev_nf h5 hf
    exact ev_weak hX (ev_le_no (ev_le_eq (ev_le_eq (ev_le_eq (ev_le_eq ev_le_nil))))) (tX11_toldOfRinger_70 hR hT hC   hl4 hf)
  · have hf := ev_it h5 hf
    refine ev_blk hX lkok_RX11 [(.iload_n 3, 1, 0, 0, 0), (.iconst 0, 1, 0, 0, 0), (.bipush 99, 2, 0, 0, 99)] (by decide +kernel) (g := true) (lv' := [none, some (.int l1), some (.int l2), some (.int l3), some (.ref l4)]) (st' := [.int (99 : Int32), .int (0 : Int32), .int l3]) (D' := D) (pc' := 54) rfl (rfl) rfl ?_
    obtain ⟨v6, D6, hc6, hf⟩ := ev_bd_s hf
    refine ev_callS hX YX11_within ml_RX11_85 (mX11_within hT  hc6) (vs := [.int l3, .int (0 : Int32), .int (99 : Int32)]) (st := []) (by decide) rfl rfl (by decide +kernel) hC ?_
    show F S D6 57 [none, some (.int l1), some (.int l2), some (.int l3), some (.ref l4)] [.int v6]
    refine ev_if_eq hX (off := 13) 70 (by decide +kernel) (by decide) (fun h7 => ?_) (fun h7 => ?_)
    · have hf := ev_it h7 hf
      exact ev_weak hX (ev_le_no (ev_le_eq (ev_le_eq (ev_le_eq (ev_le_eq ev_le_nil))))) (tX11_toldOfRinger_70 hR hT hC   hl4 hf)
    · have hf := ev_nf h7 hf
      obtain ⟨hg8, hf⟩ := ev_gd_s hf
      refine ev_blk hX lkok_RX11 [(.aload 4, 2, 0, 0, 0), (.getfield 119, 3, 9, 12, 0), (.iload_n 2, 1, 0, 0, 0), (.iload_n 3, 1, 0, 0, 0), (.iastore, 1, 0, 0, 0), (.iconst 1, 1, 0, 0, 1)] (by decide +kernel) (g := (sK S l4 == 12) && ((sK S ((sE S) l4 12) == 1 && ev_in l2 ((sL S) ((sE S) l4 12))) && (true))) (lv' := [none, some (.int l1), some (.int l2), some (.int l3), some (.ref l4)]) (st' := [.int (1 : Int32)]) (D' := (ev_up D6 ((sE S) l4 12) (l2).toNatClampNeg l3)) (pc' := 69) rfl (ev_gk hl4 (ev_gi (ev_tyk hT hl4 rfl rfl) hg8 (rfl))) rfl ?_
      exact ev_zret hR ev_sm.rf (Or.inr rfl) (Option.some.inj hf) hC (by decide +kernel)
set_option maxHeartbeats 4000000 in
set_option maxRecDepth 100000 in
theorem tX11_toldOfRinger {S : ev_S} {fu : Nat} {r : Int32 × ev_D} {F : ev_Fr} (hR : ev_R RX11 cX11_toldOfRinger 5 1 0 0 false (some .boolean) S r F) (hT : ev_Ty S) (hC : sC S ≤ 0 ∧ sA S ≤ 0) {l0 : Nat} {l1 : Int32} {l2 : Int32} {l3 : Int32} {D : ev_D} (hl0 : sK S l0 = 14) (hf : fX11_toldOfRinger (sL S) (sE S) fu l0 l1 l2 l3 D = some r) : F S D 0 [some (.ref l0), some (.int l1), some (.int l2), some (.int l3), none] [] := by
  have hX := hR.X
  unfold fX11_toldOfRinger at hf
  refine ev_blk hX lkok_RX11 [(.aload_n 0, 1, 0, 0, 0), (.getfield 10, 3, 11, 0, 0), (.getfield 32, 3, 10, 0, 0), (.astore 4, 2, 0, 0, 0), (.aload 4, 2, 0, 0, 0), (.iload_n 2, 1, 0, 0, 0)] (by decide +kernel) (g := (sK S l0 == 14) && ((sK S ((sE S) l0 0) == 13) && (true))) (lv' := [some (.ref l0), some (.int l1), some (.int l2), some (.int l3), some (.ref ((sE S) ((sE S) l0 0) 0))]) (st' := [.int l2, .ref ((sE S) ((sE S) l0 0) 0)]) (D' := D) (pc' := 12) rfl (ev_gk hl0 (ev_gk (ev_tyk hT hl0 rfl rfl) (rfl))) rfl ?_
  obtain ⟨v9, D9, hc9, hf⟩ := ev_bd_s hf
  refine ev_callV hX YX9_has ml_RX11_112 (mX9_has hT (ev_tyk hT (ev_tyk hT hl0 rfl rfl) rfl rfl) hc9) (vs := [.int l2]) (st := []) (by decide) 9 (ev_tyk hT (ev_tyk hT hl0 rfl rfl) rfl rfl) rfl rfl rfl (by decide +kernel) hC ?_
  show F S D9 15 [some (.ref l0), some (.int l1), some (.int l2), some (.int l3), some (.ref ((sE S) ((sE S) l0 0) 0))] [.int v9]
  refine ev_if_ne hX (off := 5) 20 (by decide +kernel) (by decide) (fun h10 => ?_) (fun h10 => ?_)
  · have hf := ev_nf h10 hf
    refine ev_blk hX lkok_RX11 [(.iload_n 1, 1, 0, 0, 0), (.iconst 4, 1, 0, 0, 4)] (by decide +kernel) (g := true) (lv' := [some (.ref l0), some (.int l1), some (.int l2), some (.int l3), some (.ref ((sE S) ((sE S) l0 0) 0))]) (st' := [.int (4 : Int32), .int l1]) (D' := D9) (pc' := 22) rfl (rfl) rfl ?_
    refine ev_ic_ne hX (off := 23) 45 (by decide +kernel) (by decide) (fun h11 => ?_) (fun h11 => ?_)
    · have hf := ev_nf h11 hf
      exact ev_weak hX (ev_le_no (ev_le_eq (ev_le_eq (ev_le_eq (ev_le_eq ev_le_nil))))) (tX11_toldOfRinger_45 hR hT hC   (ev_tyk hT (ev_tyk hT hl0 rfl rfl) rfl rfl) hf)
    · have hf := ev_it h11 hf
      refine ev_blk hX lkok_RX11 [(.iload_n 3, 1, 0, 0, 0), (.iconst 0, 1, 0, 0, 0), (.bipush 7, 2, 0, 0, 7)] (by decide +kernel) (g := true) (lv' := [some (.ref l0), some (.int l1), some (.int l2), some (.int l3), some (.ref ((sE S) ((sE S) l0 0) 0))]) (st' := [.int (7 : Int32), .int (0 : Int32), .int l3]) (D' := D9) (pc' := 29) rfl (rfl) rfl ?_
      obtain ⟨v12, D12, hc12, hf⟩ := ev_bd_s hf
      refine ev_callS hX YX11_within ml_RX11_85 (mX11_within hT  hc12) (vs := [.int l3, .int (0 : Int32), .int (7 : Int32)]) (st := []) (by decide) rfl rfl (by decide +kernel) hC ?_
      show F S D12 32 [some (.ref l0), some (.int l1), some (.int l2), some (.int l3), some (.ref ((sE S) ((sE S) l0 0) 0))] [.int v12]
      refine ev_if_eq hX (off := 13) 45 (by decide +kernel) (by decide) (fun h13 => ?_) (fun h13 => ?_)
      · have hf := ev_it h13 hf
        exact ev_weak hX (ev_le_no (ev_le_eq (ev_le_eq (ev_le_eq (ev_le_eq ev_le_nil))))) (tX11_toldOfRinger_45 hR hT hC   (ev_tyk hT (ev_tyk hT hl0 rfl rfl) rfl rfl) hf)
      · have hf := ev_nf h13 hf
        obtain ⟨hg14, hf⟩ := ev_gd_s hf
        refine ev_blk hX lkok_RX11 [(.aload 4, 2, 0, 0, 0), (.getfield 116, 3, 9, 9, 0), (.iload_n 2, 1, 0, 0, 0), (.iload_n 3, 1, 0, 0, 0), (.iastore, 1, 0, 0, 0), (.iconst 1, 1, 0, 0, 1)] (by decide +kernel) (g := (sK S ((sE S) ((sE S) l0 0) 0) == 12) && ((sK S ((sE S) ((sE S) ((sE S) l0 0) 0) 9) == 1 && ev_in l2 ((sL S) ((sE S) ((sE S) ((sE S) l0 0) 0) 9))) && (true))) (lv' := [some (.ref l0), some (.int l1), some (.int l2), some (.int l3), some (.ref ((sE S) ((sE S) l0 0) 0))]) (st' := [.int (1 : Int32)]) (D' := (ev_up D12 ((sE S) ((sE S) ((sE S) l0 0) 0) 9) (l2).toNatClampNeg l3)) (pc' := 44) rfl (ev_gk (ev_tyk hT (ev_tyk hT hl0 rfl rfl) rfl rfl) (ev_gi (ev_tyk hT (ev_tyk hT (ev_tyk hT hl0 rfl rfl) rfl rfl) rfl rfl) hg14 (rfl))) rfl ?_
        exact ev_zret hR ev_sm.rf (Or.inr rfl) (Option.some.inj hf) hC (by decide +kernel)
  · have hf := ev_it h10 hf
    refine ev_blk hX lkok_RX11 [(.iconst 0, 1, 0, 0, 0)] (by decide +kernel) (g := true) (lv' := [some (.ref l0), some (.int l1), some (.int l2), some (.int l3), some (.ref ((sE S) ((sE S) l0 0) 0))]) (st' := [.int (0 : Int32)]) (D' := D9) (pc' := 19) rfl (rfl) rfl ?_
    exact ev_zret hR ev_sm.rf (Or.inl rfl) (Option.some.inj hf) hC (by decide +kernel)
theorem mX11_toldOfRinger {S : ev_S} {fu : Nat} {r : Int32 × ev_D} (hT : ev_Ty S) {l0 : Nat} {l1 : Int32} {l2 : Int32} {l3 : Int32} {D : ev_D} (hl0 : sK S l0 = 14) (hf : fX11_toldOfRinger (sL S) (sE S) fu l0 l1 l2 l3 D = some r) : ev_M 1 0 0 yX11_toldOfRinger cX11_toldOfRinger 5 (some .boolean) [.ref l0, .int l1, .int l2, .int l3] S D S r :=
  ev_met (ini := false) (plainFor_of_name (by decide)) (fun h => by cases h) rfl (Nat.le_of_ble_eq_true rfl) (fun F hR => tX11_toldOfRinger (S := ev_z S) hR hT ⟨Nat.le_refl 0, Nat.le_refl 0⟩ hl0 hf)
set_option maxHeartbeats 4000000 in
set_option maxRecDepth 100000 in
theorem tX11_toldOfTower_89 {S : ev_S} {fu : Nat} {r : Int32 × ev_D} {F : ev_Fr} (hR : ev_R RX11 cX11_toldOfTower 5 1 0 0 false (some .boolean) S r F) (hT : ev_Ty S) (hC : sC S ≤ 0 ∧ sA S ≤ 0) {l1 : Int32} {l3 : Int32} {l4 : Nat} {D : ev_D} (hl4 : sK S l4 = 12) (hf : fX11_toldOfTower_89 (sL S) (sE S) fu l1 l3 l4 D = some r) : F S D 89 [none, some (.int l1), none, some (.int l3), some (.ref l4)] [] := by
  have hX := hR.X
  unfold fX11_toldOfTower_89 at hf
  refine ev_blk hX lkok_RX11 [(.iload_n 1, 1, 0, 0, 0), (.iconst 3, 1, 0, 0, 3)] (by decide +kernel) (g := true) (lv' := [none, some (.int l1), none, some (.int l3), some (.ref l4)]) (st' := [.int (3 : Int32), .int l1]) (D' := D) (pc' := 91) rfl (rfl) rfl ?_
  refine ev_ic_ne hX (off := 22) 113 (by decide +kernel) (by decide) (fun h1 => ?_) (fun h1 => ?_)
  · have hf := ev_nf h1 hf
    refine ev_blk hX lkok_RX11 [(.iconst 0, 1, 0, 0, 0)] (by decide +kernel) (g := true) (lv' := [none, some (.int l1), none, some (.int l3), some (.ref l4)]) (st' := [.int (0 : Int32)]) (D' := D) (pc' := 114) rfl (rfl) rfl ?_
    exact ev_zret hR ev_sm.rf (Or.inl rfl) (Option.some.inj hf) hC (by decide +kernel)
  · have hf := ev_it h1 hf
    refine ev_blk hX lkok_RX11 [(.iload_n 3, 1, 0, 0, 0), (.iconst 0, 1, 0, 0, 0), (.sipush 9999, 3, 0, 0, 9999)] (by decide +kernel) (g := true) (lv' := [none, some (.int l1), none, some (.int l3), some (.ref l4)]) (st' := [.int (9999 : Int32), .int (0 : Int32), .int l3]) (D' := D) (pc' := 99) rfl (rfl) rfl ?_
    obtain ⟨v2, D2, hc2, hf⟩ := ev_bd_s hf
    refine ev_callS hX YX11_within ml_RX11_85 (mX11_within hT  hc2) (vs := [.int l3, .int (0 : Int32), .int (9999 : Int32)]) (st := []) (by decide) rfl rfl (by decide +kernel) hC ?_
    show F S D2 102 [none, some (.int l1), none, some (.int l3), some (.ref l4)] [.int v2]
    refine ev_if_eq hX (off := 11) 113 (by decide +kernel) (by decide) (fun h3 => ?_) (fun h3 => ?_)
    · have hf := ev_it h3 hf
      refine ev_blk hX lkok_RX11 [(.iconst 0, 1, 0, 0, 0)] (by decide +kernel) (g := true) (lv' := [none, some (.int l1), none, some (.int l3), some (.ref l4)]) (st' := [.int (0 : Int32)]) (D' := D2) (pc' := 114) rfl (rfl) rfl ?_
      exact ev_zret hR ev_sm.rf (Or.inl rfl) (Option.some.inj hf) hC (by decide +kernel)
    · have hf := ev_nf h3 hf
      refine ev_blk hX lkok_RX11 [(.aload 4, 2, 0, 0, 0), (.iload_n 3, 1, 0, 0, 0), (.putfield 109, 3, 9, 3, 0), (.iconst 1, 1, 0, 0, 1)] (by decide +kernel) (g := (sK S l4 == 12) && (true)) (lv' := [none, some (.int l1), none, some (.int l3), some (.ref l4)]) (st' := [.int (1 : Int32)]) (D' := (ev_up D2 l4 3 l3)) (pc' := 112) rfl (ev_gk hl4 (rfl)) rfl ?_
      exact ev_zret hR ev_sm.rf (Or.inr rfl) (Option.some.inj hf) hC (by decide +kernel)
set_option maxHeartbeats 4000000 in
set_option maxRecDepth 100000 in
theorem tX11_toldOfTower_66 {S : ev_S} {fu : Nat} {r : Int32 × ev_D} {F : ev_Fr} (hR : ev_R RX11 cX11_toldOfTower 5 1 0 0 false (some .boolean) S r F) (hT : ev_Ty S) (hC : sC S ≤ 0 ∧ sA S ≤ 0) {l1 : Int32} {l3 : Int32} {l4 : Nat} {D : ev_D} (hl4 : sK S l4 = 12) (hf : fX11_toldOfTower_66 (sL S) (sE S) fu l1 l3 l4 D = some r) : F S D 66 [none, some (.int l1), none, some (.int l3), some (.ref l4)] [] := by
  have hX := hR.X
  unfold fX11_toldOfTower_66 at hf
  refine ev_blk hX lkok_RX11 [(.iload_n 1, 1, 0, 0, 0), (.iconst 2, 1, 0, 0, 2)] (by decide +kernel) (g := true) (lv' := [none, some (.int l1), none, some (.int l3), some (.ref l4)]) (st' := [.int (2 : Int32), .int l1]) (D' := D) (pc' := 68) rfl (rfl) rfl ?_
  refine ev_ic_ne hX (off := 21) 89 (by decide +kernel) (by decide) (fun h4 => ?_) (fun h4 => ?_)
  · have hf := ev_nf h4 hf
    exact ev_weak hX (ev_le_no (ev_le_eq (ev_le_no (ev_le_eq (ev_le_eq ev_le_nil))))) (tX11_toldOfTower_89 hR hT hC   hl4 hf)
  · have hf := ev_it h4 hf
    refine ev_blk hX lkok_RX11 [(.iload_n 3, 1, 0, 0, 0), (.iconst 0, 1, 0, 0, 0), (.bipush 9, 2, 0, 0, 9)] (by decide +kernel) (g := true) (lv' := [none, some (.int l1), none, some (.int l3), some (.ref l4)]) (st' := [.int (9 : Int32), .int (0 : Int32), .int l3]) (D' := D) (pc' := 75) rfl (rfl) rfl ?_
    obtain ⟨v5, D5, hc5, hf⟩ := ev_bd_s hf
    refine ev_callS hX YX11_within ml_RX11_85 (mX11_within hT  hc5) (vs := [.int l3, .int (0 : Int32), .int (9 : Int32)]) (st := []) (by decide) rfl rfl (by decide +kernel) hC ?_
    show F S D5 78 [none, some (.int l1), none, some (.int l3), some (.ref l4)] [.int v5]
    refine ev_if_eq hX (off := 11) 89 (by decide +kernel) (by decide) (fun h6 => ?_) (fun h6 => ?_)
    · have hf := ev_it h6 hf
      exact ev_weak hX (ev_le_no (ev_le_eq (ev_le_no (ev_le_eq (ev_le_eq ev_le_nil))))) (tX11_toldOfTower_89 hR hT hC   hl4 hf)
    · have hf := ev_nf h6 hf
      refine ev_blk hX lkok_RX11 [(.aload 4, 2, 0, 0, 0), (.iload_n 3, 1, 0, 0, 0), (.putfield 106, 3, 9, 2, 0), (.iconst 1, 1, 0, 0, 1)] (by decide +kernel) (g := (sK S l4 == 12) && (true)) (lv' := [none, some (.int l1), none, some (.int l3), some (.ref l4)]) (st' := [.int (1 : Int32)]) (D' := (ev_up D5 l4 2 l3)) (pc' := 88) rfl (ev_gk hl4 (rfl)) rfl ?_
      exact ev_zret hR ev_sm.rf (Or.inr rfl) (Option.some.inj hf) hC (by decide +kernel)
set_option maxHeartbeats 4000000 in
set_option maxRecDepth 100000 in
theorem tX11_toldOfTower_43 {S : ev_S} {fu : Nat} {r : Int32 × ev_D} {F : ev_Fr} (hR : ev_R RX11 cX11_toldOfTower 5 1 0 0 false (some .boolean) S r F) (hT : ev_Ty S) (hC : sC S ≤ 0 ∧ sA S ≤ 0) {l1 : Int32} {l3 : Int32} {l4 : Nat} {D : ev_D} (hl4 : sK S l4 = 12) (hf : fX11_toldOfTower_43 (sL S) (sE S) fu l1 l3 l4 D = some r) : F S D 43 [none, some (.int l1), none, some (.int l3), some (.ref l4)] [] := by
  have hX := hR.X
  unfold fX11_toldOfTower_43 at hf
  refine ev_blk hX lkok_RX11 [(.iload_n 1, 1, 0, 0, 0), (.iconst 1, 1, 0, 0, 1)] (by decide +kernel) (g := true) (lv' := [none, some (.int l1), none, some (.int l3), some (.ref l4)]) (st' := [.int (1 : Int32), .int l1]) (D' := D) (pc' := 45) rfl (rfl) rfl ?_
  refine ev_ic_ne hX (off := 21) 66 (by decide +kernel) (by decide) (fun h7 => ?_) (fun h7 => ?_)
  · have hf := ev_nf h7 hf
    exact ev_weak hX (ev_le_no (ev_le_eq (ev_le_no (ev_le_eq (ev_le_eq ev_le_nil))))) (tX11_toldOfTower_66 hR hT hC   hl4 hf)
  · have hf := ev_it h7 hf
    refine ev_blk hX lkok_RX11 [(.iload_n 3, 1, 0, 0, 0), (.iconst 0, 1, 0, 0, 0), (.bipush 99, 2, 0, 0, 99)] (by decide +kernel) (g := true) (lv' := [none, some (.int l1), none, some (.int l3), some (.ref l4)]) (st' := [.int (99 : Int32), .int (0 : Int32), .int l3]) (D' := D) (pc' := 52) rfl (rfl) rfl ?_
    obtain ⟨v8, D8, hc8, hf⟩ := ev_bd_s hf
    refine ev_callS hX YX11_within ml_RX11_85 (mX11_within hT  hc8) (vs := [.int l3, .int (0 : Int32), .int (99 : Int32)]) (st := []) (by decide) rfl rfl (by decide +kernel) hC ?_
    show F S D8 55 [none, some (.int l1), none, some (.int l3), some (.ref l4)] [.int v8]
    refine ev_if_eq hX (off := 11) 66 (by decide +kernel) (by decide) (fun h9 => ?_) (fun h9 => ?_)
    · have hf := ev_it h9 hf
      exact ev_weak hX (ev_le_no (ev_le_eq (ev_le_no (ev_le_eq (ev_le_eq ev_le_nil))))) (tX11_toldOfTower_66 hR hT hC   hl4 hf)
    · have hf := ev_nf h9 hf
      refine ev_blk hX lkok_RX11 [(.aload 4, 2, 0, 0, 0), (.iload_n 3, 1, 0, 0, 0), (.putfield 103, 3, 9, 1, 0), (.iconst 1, 1, 0, 0, 1)] (by decide +kernel) (g := (sK S l4 == 12) && (true)) (lv' := [none, some (.int l1), none, some (.int l3), some (.ref l4)]) (st' := [.int (1 : Int32)]) (D' := (ev_up D8 l4 1 l3)) (pc' := 65) rfl (ev_gk hl4 (rfl)) rfl ?_
      exact ev_zret hR ev_sm.rf (Or.inr rfl) (Option.some.inj hf) hC (by decide +kernel)
set_option maxHeartbeats 4000000 in
set_option maxRecDepth 100000 in
theorem tX11_toldOfTower {S : ev_S} {fu : Nat} {r : Int32 × ev_D} {F : ev_Fr} (hR : ev_R RX11 cX11_toldOfTower 5 1 0 0 false (some .boolean) S r F) (hT : ev_Ty S) (hC : sC S ≤ 0 ∧ sA S ≤ 0) {l0 : Nat} {l1 : Int32} {l2 : Int32} {l3 : Int32} {D : ev_D} (hl0 : sK S l0 = 14) (hf : fX11_toldOfTower (sL S) (sE S) fu l0 l1 l2 l3 D = some r) : F S D 0 [some (.ref l0), some (.int l1), some (.int l2), some (.int l3), none] [] := by
  have hX := hR.X
  unfold fX11_toldOfTower at hf
  refine ev_blk hX lkok_RX11 [(.aload_n 0, 1, 0, 0, 0), (.getfield 10, 3, 11, 0, 0), (.getfield 32, 3, 10, 0, 0), (.astore 4, 2, 0, 0, 0), (.iload_n 1, 1, 0, 0, 0)] (by decide +kernel) (g := (sK S l0 == 14) && ((sK S ((sE S) l0 0) == 13) && (true))) (lv' := [some (.ref l0), some (.int l1), some (.int l2), some (.int l3), some (.ref ((sE S) ((sE S) l0 0) 0))]) (st' := [.int l1]) (D' := D) (pc' := 10) rfl (ev_gk hl0 (ev_gk (ev_tyk hT hl0 rfl rfl) (rfl))) rfl ?_
  refine ev_if_ne hX (off := 33) 43 (by decide +kernel) (by decide) (fun h10 => ?_) (fun h10 => ?_)
  · have hf := ev_nf h10 hf
    exact ev_weak hX (ev_le_no (ev_le_eq (ev_le_no (ev_le_eq (ev_le_eq ev_le_nil))))) (tX11_toldOfTower_43 hR hT hC   (ev_tyk hT (ev_tyk hT hl0 rfl rfl) rfl rfl) hf)
  · have hf := ev_it h10 hf
    refine ev_blk hX lkok_RX11 [(.iload_n 2, 1, 0, 0, 0), (.iconst 0, 1, 0, 0, 0), (.bipush 7, 2, 0, 0, 7)] (by decide +kernel) (g := true) (lv' := [some (.ref l0), some (.int l1), some (.int l2), some (.int l3), some (.ref ((sE S) ((sE S) l0 0) 0))]) (st' := [.int (7 : Int32), .int (0 : Int32), .int l2]) (D' := D) (pc' := 17) rfl (rfl) rfl ?_
    obtain ⟨v11, D11, hc11, hf⟩ := ev_bd_s hf
    refine ev_callS hX YX11_within ml_RX11_85 (mX11_within hT  hc11) (vs := [.int l2, .int (0 : Int32), .int (7 : Int32)]) (st := []) (by decide) rfl rfl (by decide +kernel) hC ?_
    show F S D11 20 [some (.ref l0), some (.int l1), some (.int l2), some (.int l3), some (.ref ((sE S) ((sE S) l0 0) 0))] [.int v11]
    refine ev_if_eq hX (off := 23) 43 (by decide +kernel) (by decide) (fun h12 => ?_) (fun h12 => ?_)
    · have hf := ev_it h12 hf
      exact ev_weak hX (ev_le_no (ev_le_eq (ev_le_no (ev_le_eq (ev_le_eq ev_le_nil))))) (tX11_toldOfTower_43 hR hT hC   (ev_tyk hT (ev_tyk hT hl0 rfl rfl) rfl rfl) hf)
    · have hf := ev_nf h12 hf
      refine ev_blk hX lkok_RX11 [(.iload_n 3, 1, 0, 0, 0), (.iconst 1, 1, 0, 0, 1), (.bipush 99, 2, 0, 0, 99)] (by decide +kernel) (g := true) (lv' := [some (.ref l0), some (.int l1), some (.int l2), some (.int l3), some (.ref ((sE S) ((sE S) l0 0) 0))]) (st' := [.int (99 : Int32), .int (1 : Int32), .int l3]) (D' := D11) (pc' := 27) rfl (rfl) rfl ?_
      obtain ⟨v13, D13, hc13, hf⟩ := ev_bd_s hf
      refine ev_callS hX YX11_within ml_RX11_85 (mX11_within hT  hc13) (vs := [.int l3, .int (1 : Int32), .int (99 : Int32)]) (st := []) (by decide) rfl rfl (by decide +kernel) hC ?_
      show F S D13 30 [some (.ref l0), some (.int l1), some (.int l2), some (.int l3), some (.ref ((sE S) ((sE S) l0 0) 0))] [.int v13]
      refine ev_if_eq hX (off := 13) 43 (by decide +kernel) (by decide) (fun h14 => ?_) (fun h14 => ?_)
      · have hf := ev_it h14 hf
        exact ev_weak hX (ev_le_no (ev_le_eq (ev_le_no (ev_le_eq (ev_le_eq ev_le_nil))))) (tX11_toldOfTower_43 hR hT hC   (ev_tyk hT (ev_tyk hT hl0 rfl rfl) rfl rfl) hf)
      · have hf := ev_nf h14 hf
        obtain ⟨hg15, hf⟩ := ev_gd_s hf
        refine ev_blk hX lkok_RX11 [(.aload 4, 2, 0, 0, 0), (.getfield 99, 3, 9, 7, 0), (.iload_n 2, 1, 0, 0, 0), (.iload_n 3, 1, 0, 0, 0), (.iastore, 1, 0, 0, 0), (.iconst 1, 1, 0, 0, 1)] (by decide +kernel) (g := (sK S ((sE S) ((sE S) l0 0) 0) == 12) && ((sK S ((sE S) ((sE S) ((sE S) l0 0) 0) 7) == 1 && ev_in l2 ((sL S) ((sE S) ((sE S) ((sE S) l0 0) 0) 7))) && (true))) (lv' := [some (.ref l0), some (.int l1), some (.int l2), some (.int l3), some (.ref ((sE S) ((sE S) l0 0) 0))]) (st' := [.int (1 : Int32)]) (D' := (ev_up D13 ((sE S) ((sE S) ((sE S) l0 0) 0) 7) (l2).toNatClampNeg l3)) (pc' := 42) rfl (ev_gk (ev_tyk hT (ev_tyk hT hl0 rfl rfl) rfl rfl) (ev_gi (ev_tyk hT (ev_tyk hT (ev_tyk hT hl0 rfl rfl) rfl rfl) rfl rfl) hg15 (rfl))) rfl ?_
        exact ev_zret hR ev_sm.rf (Or.inr rfl) (Option.some.inj hf) hC (by decide +kernel)
theorem mX11_toldOfTower {S : ev_S} {fu : Nat} {r : Int32 × ev_D} (hT : ev_Ty S) {l0 : Nat} {l1 : Int32} {l2 : Int32} {l3 : Int32} {D : ev_D} (hl0 : sK S l0 = 14) (hf : fX11_toldOfTower (sL S) (sE S) fu l0 l1 l2 l3 D = some r) : ev_M 1 0 0 yX11_toldOfTower cX11_toldOfTower 5 (some .boolean) [.ref l0, .int l1, .int l2, .int l3] S D S r :=
  ev_met (ini := false) (plainFor_of_name (by decide)) (fun h => by cases h) rfl (Nat.le_of_ble_eq_true rfl) (fun F hR => tX11_toldOfTower (S := ev_z S) hR hT ⟨Nat.le_refl 0, Nat.le_refl 0⟩ hl0 hf)
set_option maxHeartbeats 4000000 in
set_option maxRecDepth 100000 in
theorem tX11_set_22 {S : ev_S} {fu : Nat} {r : Int32 × ev_D} {F : ev_Fr} (hR : ev_R RX11 cX11_set 5 2 0 0 false (some .boolean) S r F) (hT : ev_Ty S) (hC : sC S ≤ 0 ∧ sA S ≤ 0) {l0 : Nat} {s0 : Int32} {D : ev_D} (hl0 : sK S l0 = 14) (hf : fX11_set_22 (sL S) (sE S) fu l0 s0 D = some r) : F S D 22 [some (.ref l0), none, none, none, none] [.int s0] := by
  have hX := hR.X
  unfold fX11_set_22 at hf
  refine ev_blk hX lkok_RX11 [(.istore 4, 2, 0, 0, 0), (.iload 4, 2, 0, 0, 0)] (by decide +kernel) (g := true) (lv' := [some (.ref l0), none, none, none, some (.int s0)]) (st' := [.int s0]) (D' := D) (pc' := 26) rfl (rfl) rfl ?_
  refine ev_if_eq hX (off := 10) 36 (by decide +kernel) (by decide) (fun h1 => ?_) (fun h1 => ?_)
  · have hf := ev_it h1 hf
    refine ev_blk hX lkok_RX11 [(.iload 4, 2, 0, 0, 0)] (by decide +kernel) (g := true) (lv' := [some (.ref l0), none, none, none, some (.int s0)]) (st' := [.int s0]) (D' := D) (pc' := 38) rfl (rfl) rfl ?_
    obtain ⟨hz, hf⟩ := ev_gd_s hf
    exact ev_zret hR ev_sm.rf (ev_z01 hz) (Option.some.inj hf) hC (by decide +kernel)
  · have hf := ev_nf h1 hf
    refine ev_blk hX lkok_RX11 [(.aload_n 0, 1, 0, 0, 0), (.getfield 19, 3, 11, 1, 0)] (by decide +kernel) (g := (sK S l0 == 14) && (true)) (lv' := [some (.ref l0), none, none, none, some (.int s0)]) (st' := [.ref ((sE S) l0 1)]) (D' := D) (pc' := 33) rfl (ev_gk hl0 (rfl)) rfl ?_
    obtain ⟨v2, D2, hc2, hf⟩ := ev_bd_s hf
    refine ev_callV hX YX2_forget ml_RX11_82 (mX2_forget hT (ev_tyk hT hl0 rfl rfl) hc2) (vs := []) (st := []) (by decide) 2 (ev_tyk hT hl0 rfl rfl) rfl rfl rfl (by decide +kernel) hC ?_
    show F S D2 36 [some (.ref l0), none, none, none, some (.int s0)] []
    refine ev_blk hX lkok_RX11 [(.iload 4, 2, 0, 0, 0)] (by decide +kernel) (g := true) (lv' := [some (.ref l0), none, none, none, some (.int s0)]) (st' := [.int s0]) (D' := D2) (pc' := 38) rfl (rfl) rfl ?_
    obtain ⟨hz, hf⟩ := ev_gd_s hf
    exact ev_zret hR ev_sm.rf (ev_z01 hz) (Option.some.inj hf) hC (by decide +kernel)
set_option maxHeartbeats 4000000 in
set_option maxRecDepth 100000 in
theorem tX11_set {S : ev_S} {fu : Nat} {r : Int32 × ev_D} {F : ev_Fr} (hR : ev_R RX11 cX11_set 5 2 0 0 false (some .boolean) S r F) (hT : ev_Ty S) (hC : sC S ≤ 0 ∧ sA S ≤ 0) {l0 : Nat} {l1 : Int32} {l2 : Int32} {l3 : Int32} {D : ev_D} (hl0 : sK S l0 = 14) (hf : fX11_set (sL S) (sE S) fu l0 l1 l2 l3 D = some r) : F S D 0 [some (.ref l0), some (.int l1), some (.int l2), some (.int l3), none] [] := by
  have hX := hR.X
  unfold fX11_set at hf
  refine ev_blk hX lkok_RX11 [(.iload_n 1, 1, 0, 0, 0), (.iconst 4, 1, 0, 0, 4)] (by decide +kernel) (g := true) (lv' := [some (.ref l0), some (.int l1), some (.int l2), some (.int l3), none]) (st' := [.int (4 : Int32), .int l1]) (D' := D) (pc' := 2) rfl (rfl) rfl ?_
  refine ev_ic_ge hX (off := 13) 15 (by decide +kernel) (by decide) (fun h3 => ?_) (fun h3 => ?_)
  · have hf := ev_it h3 hf
    refine ev_blk hX lkok_RX11 [(.aload_n 0, 1, 0, 0, 0), (.iload_n 1, 1, 0, 0, 0), (.iload_n 2, 1, 0, 0, 0), (.iload_n 3, 1, 0, 0, 0)] (by decide +kernel) (g := true) (lv' := [some (.ref l0), some (.int l1), some (.int l2), some (.int l3), none]) (st' := [.int l3, .int l2, .int l1, .ref l0]) (D' := D) (pc' := 19) rfl (rfl) rfl ?_
    obtain ⟨v4, D4, hc4, hf⟩ := ev_bd_s hf
    refine ev_callV hX YX11_toldOfRinger ml_RX11_96 (mX11_toldOfRinger hT hl0 hc4) (vs := [.int l1, .int l2, .int l3]) (st := []) (by decide) 11 hl0 rfl rfl rfl (by decide +kernel) hC ?_
    show F S D4 22 [some (.ref l0), some (.int l1), some (.int l2), some (.int l3), none] [.int v4]
    exact ev_weak hX (ev_le_eq (ev_le_no (ev_le_no (ev_le_no (ev_le_no ev_le_nil))))) (tX11_set_22 hR hT hC   hl0 hf)
  · have hf := ev_nf h3 hf
    refine ev_blk hX lkok_RX11 [(.aload_n 0, 1, 0, 0, 0), (.iload_n 1, 1, 0, 0, 0), (.iload_n 2, 1, 0, 0, 0), (.iload_n 3, 1, 0, 0, 0)] (by decide +kernel) (g := true) (lv' := [some (.ref l0), some (.int l1), some (.int l2), some (.int l3), none]) (st' := [.int l3, .int l2, .int l1, .ref l0]) (D' := D) (pc' := 9) rfl (rfl) rfl ?_
    obtain ⟨v5, D5, hc5, hf⟩ := ev_bd_s hf
    refine ev_callV hX YX11_toldOfTower ml_RX11_93 (mX11_toldOfTower hT hl0 hc5) (vs := [.int l1, .int l2, .int l3]) (st := []) (by decide) 11 hl0 rfl rfl rfl (by decide +kernel) hC ?_
    show F S D5 12 [some (.ref l0), some (.int l1), some (.int l2), some (.int l3), none] [.int v5]
    refine ev_goto hX (off := 10) 22 (by decide +kernel) (by decide) ?_
    exact ev_weak hX (ev_le_eq (ev_le_no (ev_le_no (ev_le_no (ev_le_no ev_le_nil))))) (tX11_set_22 hR hT hC   hl0 hf)
theorem mX11_set {S : ev_S} {fu : Nat} {r : Int32 × ev_D} (hT : ev_Ty S) {l0 : Nat} {l1 : Int32} {l2 : Int32} {l3 : Int32} {D : ev_D} (hl0 : sK S l0 = 14) (hf : fX11_set (sL S) (sE S) fu l0 l1 l2 l3 D = some r) : ev_M 2 0 0 yX11_set cX11_set 5 (some .boolean) [.ref l0, .int l1, .int l2, .int l3] S D S r :=
  ev_met (ini := false) (plainFor_of_name (by decide)) (fun h => by cases h) rfl (Nat.le_of_ble_eq_true rfl) (fun F hR => tX11_set (S := ev_z S) hR hT ⟨Nat.le_refl 0, Nat.le_refl 0⟩ hl0 hf)
set_option maxHeartbeats 4000000 in
set_option maxRecDepth 100000 in
theorem tJ9_min {S : ev_S} {fu : Nat} {r : Int32 × ev_D} {F : ev_Fr} (hR : ev_R RJ9 cJ9_min_7cf53 2 0 0 0 false (some .int) S r F) (hT : ev_Ty S) (hC : sC S ≤ 0 ∧ sA S ≤ 0) {l0 : Int32} {l1 : Int32} {D : ev_D}  (hf : fJ9_min (sL S) (sE S) fu l0 l1 D = some r) : F S D 0 [some (.int l0), some (.int l1)] [] := by
  have hX := hR.X
  unfold fJ9_min at hf
  refine ev_blk hX lkok_RJ9 [(.iload_n 0, 1, 0, 0, 0), (.iload_n 1, 1, 0, 0, 0)] (by decide +kernel) (g := true) (lv' := [some (.int l0), some (.int l1)]) (st' := [.int l1, .int l0]) (D' := D) (pc' := 2) rfl (rfl) rfl ?_
  refine ev_ic_gt hX (off := 7) 9 (by decide +kernel) (by decide) (fun h1 => ?_) (fun h1 => ?_)
  · have hf := ev_it h1 hf
    refine ev_blk hX lkok_RJ9 [(.iload_n 1, 1, 0, 0, 0)] (by decide +kernel) (g := true) (lv' := [some (.int l0), some (.int l1)]) (st' := [.int l1]) (D' := D) (pc' := 10) rfl (rfl) rfl ?_
    exact ev_iret hR ev_sm.rf (Option.some.inj hf) hC (by decide +kernel)
  · have hf := ev_nf h1 hf
    refine ev_blk hX lkok_RJ9 [(.iload_n 0, 1, 0, 0, 0)] (by decide +kernel) (g := true) (lv' := [some (.int l0), some (.int l1)]) (st' := [.int l0]) (D' := D) (pc' := 6) rfl (rfl) rfl ?_
    refine ev_goto hX (off := 4) 10 (by decide +kernel) (by decide) ?_
    exact ev_iret hR ev_sm.rf (Option.some.inj hf) hC (by decide +kernel)
theorem mJ9_min {S : ev_S} {fu : Nat} {r : Int32 × ev_D} (hT : ev_Ty S) {l0 : Int32} {l1 : Int32} {D : ev_D}  (hf : fJ9_min (sL S) (sE S) fu l0 l1 D = some r) : ev_M 0 0 0 yJ9_min_7cf53 cJ9_min_7cf53 2 (some .int) [.int l0, .int l1] S D S r :=
  ev_met (ini := false) (by decide +kernel) (fun h => by cases h) rfl (Nat.le_of_ble_eq_true rfl) (fun F hR => tJ9_min (S := ev_z S) hR hT ⟨Nat.le_refl 0, Nat.le_refl 0⟩  hf)
set_option maxHeartbeats 4000000 in
set_option maxRecDepth 100000 in
theorem tX11_copy {S : ev_S} {fu : Nat} {r : Int32 × ev_D} {F : ev_Fr} (hR : ev_R RX11 cX11_copy 2 1 0 0 false none S r F) (hT : ev_Ty S) (hC : sC S ≤ 0 ∧ sA S ≤ 0) {l0 : Nat} {l1 : Nat} {D : ev_D} (hl0 : sK S l0 = 1) (hl1 : sK S l1 = 1) (hf : fX11_copy (sL S) (sE S) fu l0 l1 D = some r) : F S D 0 [some (.ref l0), some (.ref l1)] [] := by
  have hX := hR.X
  unfold fX11_copy at hf
  refine ev_blk hX lkok_RX11 [(.aload_n 0, 1, 0, 0, 0), (.iconst 0, 1, 0, 0, 0), (.aload_n 1, 1, 0, 0, 0), (.iconst 0, 1, 0, 0, 0), (.aload_n 0, 1, 0, 0, 0), (.arraylength, 1, 0, 0, 0), (.aload_n 1, 1, 0, 0, 0), (.arraylength, 1, 0, 0, 0)] (by decide +kernel) (g := (sK S l0 == 1) && ((sK S l1 == 1) && (true))) (lv' := [some (.ref l0), some (.ref l1)]) (st' := [.int (Int32.ofNat ((sL S) l1)), .int (Int32.ofNat ((sL S) l0)), .int (0 : Int32), .ref l1, .int (0 : Int32), .ref l0]) (D' := D) (pc' := 8) rfl (ev_gk hl0 (ev_gk hl1 (rfl))) rfl ?_
  obtain ⟨v1, D1, hc1, hf⟩ := ev_bd_s hf
  refine ev_callS hX YJ9_min ml_RX11_345 (mJ9_min hT  hc1) (vs := [.int (Int32.ofNat ((sL S) l0)), .int (Int32.ofNat ((sL S) l1))]) (st := [.int (0 : Int32), .ref l1, .int (0 : Int32), .ref l0]) (by decide) rfl rfl (by decide +kernel) hC ?_
  show F S D1 11 [some (.ref l0), some (.ref l1)] [.int v1, .int (0 : Int32), .ref l1, .int (0 : Int32), .ref l0]
  obtain ⟨hg2, hf⟩ := ev_gd_s hf
  refine ev_copy hX ml_RX11_353 ac_n ac_s ac_i hl0 hl1 hg2 (by decide) rfl (by decide +kernel) ?_
  exact ev_vret hR ev_sm.rf (Option.some.inj hf) hC (by decide +kernel)
theorem mX11_copy {S : ev_S} {fu : Nat} {r : Int32 × ev_D} (hT : ev_Ty S) {l0 : Nat} {l1 : Nat} {D : ev_D} (hl0 : sK S l0 = 1) (hl1 : sK S l1 = 1) (hf : fX11_copy (sL S) (sE S) fu l0 l1 D = some r) : ev_M 1 0 0 yX11_copy cX11_copy 2 none [.ref l0, .ref l1] S D S r :=
  ev_met (ini := false) (plainFor_of_name (by decide)) (fun h => by cases h) rfl (Nat.le_of_ble_eq_true rfl) (fun F hR => tX11_copy (S := ev_z S) hR hT ⟨Nat.le_refl 0, Nat.le_refl 0⟩ hl0 hl1 hf)
set_option maxHeartbeats 4000000 in
set_option maxRecDepth 100000 in
theorem tX9_become_32 {S : ev_S} {fu : Nat} {r : Int32 × ev_D} {F : ev_Fr} (hR : ev_R RX9 cX9_become 2 2 0 0 false none S r F) (hT : ev_Ty S) (hC : sC S ≤ 0 ∧ sA S ≤ 0) {l0 : Nat} {l1 : Nat} {D : ev_D} (hl0 : sK S l0 = 12) (hl1 : sK S l1 = 12) (hf : fX9_become_32 (sL S) (sE S) fu l0 l1 D = some r) : F S D 32 [some (.ref l0), some (.ref l1)] [] := by
  have hX := hR.X
  unfold fX9_become_32 at hf
  refine ev_blk hX lkok_RX9 [(.aload_n 0, 1, 0, 0, 0), (.aload_n 1, 1, 0, 0, 0), (.getfield 24, 3, 9, 4, 0), (.putfield 24, 3, 9, 4, 0), (.aload_n 0, 1, 0, 0, 0), (.aload_n 1, 1, 0, 0, 0), (.getfield 27, 3, 9, 5, 0), (.putfield 27, 3, 9, 5, 0), (.aload_n 0, 1, 0, 0, 0), (.aload_n 1, 1, 0, 0, 0), (.getfield 30, 3, 9, 6, 0), (.putfield 30, 3, 9, 6, 0), (.aload_n 1, 1, 0, 0, 0), (.getfield 33, 3, 9, 7, 0), (.aload_n 0, 1, 0, 0, 0), (.getfield 33, 3, 9, 7, 0)] (by decide +kernel) (g := (sK S l1 == 12) && ((sK S l0 == 12) && ((sK S l1 == 12) && ((sK S l0 == 12) && ((sK S l1 == 12) && ((sK S l0 == 12) && ((sK S l1 == 12) && ((sK S l0 == 12) && (true))))))))) (lv' := [some (.ref l0), some (.ref l1)]) (st' := [.ref ((sE S) l0 7), .ref ((sE S) l1 7)]) (D' := (ev_up (ev_up (ev_up D l0 4 (D l1 4)) l0 5 ((ev_up D l0 4 (D l1 4)) l1 5)) l0 6 ((ev_up (ev_up D l0 4 (D l1 4)) l0 5 ((ev_up D l0 4 (D l1 4)) l1 5)) l1 6))) (pc' := 64) rfl (ev_gk hl1 (ev_gk hl0 (ev_gk hl1 (ev_gk hl0 (ev_gk hl1 (ev_gk hl0 (ev_gk hl1 (ev_gk hl0 (rfl))))))))) rfl ?_
  obtain ⟨v1, D1, hc1, hf⟩ := ev_bd_s hf
  refine ev_callSN hX YX11_copy ml_RX9_61 (mX11_copy hT (ev_tyk hT hl1 rfl rfl) (ev_tyk hT hl0 rfl rfl) hc1) (vs := [.ref ((sE S) l1 7), .ref ((sE S) l0 7)]) (st := []) (by decide) rfl rfl (by decide +kernel) hC ?_
  show F S D1 67 [some (.ref l0), some (.ref l1)] []
  refine ev_blk hX lkok_RX9 [(.aload_n 1, 1, 0, 0, 0), (.getfield 37, 3, 9, 8, 0), (.aload_n 0, 1, 0, 0, 0), (.getfield 37, 3, 9, 8, 0)] (by decide +kernel) (g := (sK S l1 == 12) && ((sK S l0 == 12) && (true))) (lv' := [some (.ref l0), some (.ref l1)]) (st' := [.ref ((sE S) l0 8), .ref ((sE S) l1 8)]) (D' := D1) (pc' := 75) rfl (ev_gk hl1 (ev_gk hl0 (rfl))) rfl ?_
  obtain ⟨v2, D2, hc2, hf⟩ := ev_bd_s hf
  refine ev_callSN hX YX11_copy ml_RX9_61 (mX11_copy hT (ev_tyk hT hl1 rfl rfl) (ev_tyk hT hl0 rfl rfl) hc2) (vs := [.ref ((sE S) l1 8), .ref ((sE S) l0 8)]) (st := []) (by decide) rfl rfl (by decide +kernel) hC ?_
  show F S D2 78 [some (.ref l0), some (.ref l1)] []
  refine ev_blk hX lkok_RX9 [(.aload_n 1, 1, 0, 0, 0), (.getfield 40, 3, 9, 9, 0), (.aload_n 0, 1, 0, 0, 0), (.getfield 40, 3, 9, 9, 0)] (by decide +kernel) (g := (sK S l1 == 12) && ((sK S l0 == 12) && (true))) (lv' := [some (.ref l0), some (.ref l1)]) (st' := [.ref ((sE S) l0 9), .ref ((sE S) l1 9)]) (D' := D2) (pc' := 86) rfl (ev_gk hl1 (ev_gk hl0 (rfl))) rfl ?_
  obtain ⟨v3, D3, hc3, hf⟩ := ev_bd_s hf
  refine ev_callSN hX YX11_copy ml_RX9_61 (mX11_copy hT (ev_tyk hT hl1 rfl rfl) (ev_tyk hT hl0 rfl rfl) hc3) (vs := [.ref ((sE S) l1 9), .ref ((sE S) l0 9)]) (st := []) (by decide) rfl rfl (by decide +kernel) hC ?_
  show F S D3 89 [some (.ref l0), some (.ref l1)] []
  refine ev_blk hX lkok_RX9 [(.aload_n 1, 1, 0, 0, 0), (.getfield 43, 3, 9, 10, 0), (.aload_n 0, 1, 0, 0, 0), (.getfield 43, 3, 9, 10, 0)] (by decide +kernel) (g := (sK S l1 == 12) && ((sK S l0 == 12) && (true))) (lv' := [some (.ref l0), some (.ref l1)]) (st' := [.ref ((sE S) l0 10), .ref ((sE S) l1 10)]) (D' := D3) (pc' := 97) rfl (ev_gk hl1 (ev_gk hl0 (rfl))) rfl ?_
  obtain ⟨v4, D4, hc4, hf⟩ := ev_bd_s hf
  refine ev_callSN hX YX11_copy ml_RX9_61 (mX11_copy hT (ev_tyk hT hl1 rfl rfl) (ev_tyk hT hl0 rfl rfl) hc4) (vs := [.ref ((sE S) l1 10), .ref ((sE S) l0 10)]) (st := []) (by decide) rfl rfl (by decide +kernel) hC ?_
  show F S D4 100 [some (.ref l0), some (.ref l1)] []
  refine ev_blk hX lkok_RX9 [(.aload_n 1, 1, 0, 0, 0), (.getfield 46, 3, 9, 11, 0), (.aload_n 0, 1, 0, 0, 0), (.getfield 46, 3, 9, 11, 0)] (by decide +kernel) (g := (sK S l1 == 12) && ((sK S l0 == 12) && (true))) (lv' := [some (.ref l0), some (.ref l1)]) (st' := [.ref ((sE S) l0 11), .ref ((sE S) l1 11)]) (D' := D4) (pc' := 108) rfl (ev_gk hl1 (ev_gk hl0 (rfl))) rfl ?_
  obtain ⟨v5, D5, hc5, hf⟩ := ev_bd_s hf
  refine ev_callSN hX YX11_copy ml_RX9_61 (mX11_copy hT (ev_tyk hT hl1 rfl rfl) (ev_tyk hT hl0 rfl rfl) hc5) (vs := [.ref ((sE S) l1 11), .ref ((sE S) l0 11)]) (st := []) (by decide) rfl rfl (by decide +kernel) hC ?_
  show F S D5 111 [some (.ref l0), some (.ref l1)] []
  refine ev_blk hX lkok_RX9 [(.aload_n 1, 1, 0, 0, 0), (.getfield 49, 3, 9, 12, 0), (.aload_n 0, 1, 0, 0, 0), (.getfield 49, 3, 9, 12, 0)] (by decide +kernel) (g := (sK S l1 == 12) && ((sK S l0 == 12) && (true))) (lv' := [some (.ref l0), some (.ref l1)]) (st' := [.ref ((sE S) l0 12), .ref ((sE S) l1 12)]) (D' := D5) (pc' := 119) rfl (ev_gk hl1 (ev_gk hl0 (rfl))) rfl ?_
  obtain ⟨v6, D6, hc6, hf⟩ := ev_bd_s hf
  refine ev_callSN hX YX11_copy ml_RX9_61 (mX11_copy hT (ev_tyk hT hl1 rfl rfl) (ev_tyk hT hl0 rfl rfl) hc6) (vs := [.ref ((sE S) l1 12), .ref ((sE S) l0 12)]) (st := []) (by decide) rfl rfl (by decide +kernel) hC ?_
  show F S D6 122 [some (.ref l0), some (.ref l1)] []
  refine ev_blk hX lkok_RX9 [(.aload_n 1, 1, 0, 0, 0), (.getfield 52, 3, 9, 13, 0), (.aload_n 0, 1, 0, 0, 0), (.getfield 52, 3, 9, 13, 0)] (by decide +kernel) (g := (sK S l1 == 12) && ((sK S l0 == 12) && (true))) (lv' := [some (.ref l0), some (.ref l1)]) (st' := [.ref ((sE S) l0 13), .ref ((sE S) l1 13)]) (D' := D6) (pc' := 130) rfl (ev_gk hl1 (ev_gk hl0 (rfl))) rfl ?_
  obtain ⟨v7, D7, hc7, hf⟩ := ev_bd_s hf
  refine ev_callSN hX YX11_copy ml_RX9_61 (mX11_copy hT (ev_tyk hT hl1 rfl rfl) (ev_tyk hT hl0 rfl rfl) hc7) (vs := [.ref ((sE S) l1 13), .ref ((sE S) l0 13)]) (st := []) (by decide) rfl rfl (by decide +kernel) hC ?_
  show F S D7 133 [some (.ref l0), some (.ref l1)] []
  exact ev_vret hR ev_sm.rf (Option.some.inj hf) hC (by decide +kernel)
set_option maxHeartbeats 4000000 in
set_option maxRecDepth 100000 in
theorem tX9_become {S : ev_S} {fu : Nat} {r : Int32 × ev_D} {F : ev_Fr} (hR : ev_R RX9 cX9_become 2 2 0 0 false none S r F) (hT : ev_Ty S) (hC : sC S ≤ 0 ∧ sA S ≤ 0) {l0 : Nat} {l1 : Nat} {D : ev_D} (hl0 : sK S l0 = 12) (hl1 : sK S l1 = 12) (hf : fX9_become (sL S) (sE S) fu l0 l1 D = some r) : F S D 0 [some (.ref l0), some (.ref l1)] [] := by
  have hX := hR.X
  unfold fX9_become at hf
  refine ev_blk hX lkok_RX9 [(.aload_n 0, 1, 0, 0, 0), (.aload_n 1, 1, 0, 0, 0), (.getfield 9, 3, 9, 0, 0), (.putfield 9, 3, 9, 0, 0), (.aload_n 0, 1, 0, 0, 0), (.aload_n 1, 1, 0, 0, 0), (.getfield 15, 3, 9, 1, 0), (.putfield 15, 3, 9, 1, 0), (.aload_n 0, 1, 0, 0, 0), (.aload_n 1, 1, 0, 0, 0), (.getfield 18, 3, 9, 2, 0), (.putfield 18, 3, 9, 2, 0), (.aload_n 0, 1, 0, 0, 0), (.aload_n 1, 1, 0, 0, 0), (.getfield 21, 3, 9, 3, 0), (.putfield 21, 3, 9, 3, 0)] (by decide +kernel) (g := (sK S l1 == 12) && ((sK S l0 == 12) && ((sK S l1 == 12) && ((sK S l0 == 12) && ((sK S l1 == 12) && ((sK S l0 == 12) && ((sK S l1 == 12) && ((sK S l0 == 12) && (true))))))))) (lv' := [some (.ref l0), some (.ref l1)]) (st' := []) (D' := (ev_up (ev_up (ev_up (ev_up D l0 0 (D l1 0)) l0 1 ((ev_up D l0 0 (D l1 0)) l1 1)) l0 2 ((ev_up (ev_up D l0 0 (D l1 0)) l0 1 ((ev_up D l0 0 (D l1 0)) l1 1)) l1 2)) l0 3 ((ev_up (ev_up (ev_up D l0 0 (D l1 0)) l0 1 ((ev_up D l0 0 (D l1 0)) l1 1)) l0 2 ((ev_up (ev_up D l0 0 (D l1 0)) l0 1 ((ev_up D l0 0 (D l1 0)) l1 1)) l1 2)) l1 3))) (pc' := 32) rfl (ev_gk hl1 (ev_gk hl0 (ev_gk hl1 (ev_gk hl0 (ev_gk hl1 (ev_gk hl0 (ev_gk hl1 (ev_gk hl0 (rfl))))))))) rfl ?_
  exact ev_weak hX (ev_le_eq (ev_le_eq ev_le_nil)) (tX9_become_32 hR hT hC   hl0 hl1 hf)
theorem mX9_become {S : ev_S} {fu : Nat} {r : Int32 × ev_D} (hT : ev_Ty S) {l0 : Nat} {l1 : Nat} {D : ev_D} (hl0 : sK S l0 = 12) (hl1 : sK S l1 = 12) (hf : fX9_become (sL S) (sE S) fu l0 l1 D = some r) : ev_M 2 0 0 yX9_become cX9_become 2 none [.ref l0, .ref l1] S D S r :=
  ev_met (ini := false) (plainFor_of_name (by decide)) (fun h => by cases h) rfl (Nat.le_of_ble_eq_true rfl) (fun F hR => tX9_become (S := ev_z S) hR hT ⟨Nat.le_refl 0, Nat.le_refl 0⟩ hl0 hl1 hf)
set_option maxHeartbeats 4000000 in
set_option maxRecDepth 100000 in
theorem tJ9_floorMod {S : ev_S} {fu : Nat} {r : Int32 × ev_D} {F : ev_Fr} (hR : ev_R RJ9 cJ9_floorMod_7cf53 3 0 0 0 false (some .int) S r F) (hT : ev_Ty S) (hC : sC S ≤ 0 ∧ sA S ≤ 0) {l0 : Int32} {l1 : Int32} {D : ev_D}  (hf : fJ9_floorMod (sL S) (sE S) fu l0 l1 D = some r) : F S D 0 [some (.int l0), some (.int l1), none] [] := by
  have hX := hR.X
  unfold fJ9_floorMod at hf
  obtain ⟨hg3, hf⟩ := ev_gd_s hf
  refine ev_blk hX lkok_RJ9 [(.iload_n 0, 1, 0, 0, 0), (.iload_n 1, 1, 0, 0, 0), (.irem, 1, 0, 0, 0), (.istore_n 2, 1, 0, 0, 0), (.iload_n 0, 1, 0, 0, 0), (.iload_n 1, 1, 0, 0, 0), (.ixor, 1, 0, 0, 0)] (by decide +kernel) (g := (!(decide (l1 = 0))) && (true)) (lv' := [some (.int l0), some (.int l1), some (.int (l0 - l0 / l1 * l1))]) (st' := [.int (l0 ^^^ l1)]) (D' := D) (pc' := 7) rfl (ev_g2 hg3 (rfl)) rfl ?_
  refine ev_if_ge hX (off := 11) 18 (by decide +kernel) (by decide) (fun h1 => ?_) (fun h1 => ?_)
  · have hf := ev_it h1 hf
    refine ev_blk hX lkok_RJ9 [(.iload_n 2, 1, 0, 0, 0)] (by decide +kernel) (g := true) (lv' := [some (.int l0), some (.int l1), some (.int (l0 - l0 / l1 * l1))]) (st' := [.int (l0 - l0 / l1 * l1)]) (D' := D) (pc' := 19) rfl (rfl) rfl ?_
    exact ev_iret hR ev_sm.rf (Option.some.inj hf) hC (by decide +kernel)
  · have hf := ev_nf h1 hf
    refine ev_blk hX lkok_RJ9 [(.iload_n 2, 1, 0, 0, 0)] (by decide +kernel) (g := true) (lv' := [some (.int l0), some (.int l1), some (.int (l0 - l0 / l1 * l1))]) (st' := [.int (l0 - l0 / l1 * l1)]) (D' := D) (pc' := 11) rfl (rfl) rfl ?_
    refine ev_if_eq hX (off := 7) 18 (by decide +kernel) (by decide) (fun h2 => ?_) (fun h2 => ?_)
    · have hf := ev_it h2 hf
      refine ev_blk hX lkok_RJ9 [(.iload_n 2, 1, 0, 0, 0)] (by decide +kernel) (g := true) (lv' := [some (.int l0), some (.int l1), some (.int (l0 - l0 / l1 * l1))]) (st' := [.int (l0 - l0 / l1 * l1)]) (D' := D) (pc' := 19) rfl (rfl) rfl ?_
      exact ev_iret hR ev_sm.rf (Option.some.inj hf) hC (by decide +kernel)
    · have hf := ev_nf h2 hf
      refine ev_blk hX lkok_RJ9 [(.iload_n 2, 1, 0, 0, 0), (.iload_n 1, 1, 0, 0, 0), (.iadd, 1, 0, 0, 0)] (by decide +kernel) (g := true) (lv' := [some (.int l0), some (.int l1), some (.int (l0 - l0 / l1 * l1))]) (st' := [.int ((l0 - l0 / l1 * l1) + l1)]) (D' := D) (pc' := 17) rfl (rfl) rfl ?_
      exact ev_iret hR ev_sm.rf (Option.some.inj hf) hC (by decide +kernel)
theorem mJ9_floorMod {S : ev_S} {fu : Nat} {r : Int32 × ev_D} (hT : ev_Ty S) {l0 : Int32} {l1 : Int32} {D : ev_D}  (hf : fJ9_floorMod (sL S) (sE S) fu l0 l1 D = some r) : ev_M 0 0 0 yJ9_floorMod_7cf53 cJ9_floorMod_7cf53 3 (some .int) [.int l0, .int l1] S D S r :=
  ev_met (ini := false) (by decide +kernel) (fun h => by cases h) rfl (Nat.le_of_ble_eq_true rfl) (fun F hR => tJ9_floorMod (S := ev_z S) hR hT ⟨Nat.le_refl 0, Nat.le_refl 0⟩  hf)
set_option maxHeartbeats 4000000 in
set_option maxRecDepth 100000 in
theorem tX2_keep {S : ev_S} {fu : Nat} {r : Int32 × ev_D} {F : ev_Fr} (hR : ev_R RX2 cX2_keep 4 3 0 0 false none S r F) (hT : ev_Ty S) (hC : sC S ≤ 0 ∧ sA S ≤ 0) {l0 : Nat} {l1 : Nat} {l2 : Nat} {D : ev_D} (hl0 : sK S l0 = 5) (hl1 : sK S l1 = 12) (hl2 : sK S l2 = 3) (hf : fX2_keep (sL S) (sE S) fu l0 l1 l2 D = some r) : F S D 0 [some (.ref l0), some (.ref l1), some (.ref l2), none] [] := by
  have hX := hR.X
  unfold fX2_keep at hf
  refine ev_blk hX lkok_RX2 [(.aload_n 0, 1, 0, 0, 0), (.getfield 15, 3, 2, 1, 0), (.bipush 6, 2, 0, 0, 6)] (by decide +kernel) (g := (sK S l0 == 5) && (true)) (lv' := [some (.ref l0), some (.ref l1), some (.ref l2), none]) (st' := [.int (6 : Int32), .int (D l0 1)]) (D' := D) (pc' := 6) rfl (ev_gk hl0 (rfl)) rfl ?_
  obtain ⟨v1, D1, hc1, hf⟩ := ev_bd_s hf
  refine ev_callS hX YJ9_floorMod ml_RX2_29 (mJ9_floorMod hT  hc1) (vs := [.int (D l0 1), .int (6 : Int32)]) (st := []) (by decide) rfl rfl (by decide +kernel) hC ?_
  show F S D1 9 [some (.ref l0), some (.ref l1), some (.ref l2), none] [.int v1]
  refine ev_blk hX lkok_RX2 [(.istore_n 3, 1, 0, 0, 0), (.aload_n 0, 1, 0, 0, 0), (.getfield 20, 3, 2, 2, 0), (.iload_n 3, 1, 0, 0, 0)] (by decide +kernel) (g := (sK S l0 == 5) && (true)) (lv' := [some (.ref l0), some (.ref l1), some (.ref l2), some (.int v1)]) (st' := [.int v1, .ref ((sE S) l0 2)]) (D' := D1) (pc' := 15) rfl (ev_gk hl0 (rfl)) rfl ?_
  obtain ⟨hg2, hf⟩ := ev_gd_s hf
  obtain ⟨hh2, hf⟩ := ev_gd_s hf
  refine ev_aald hX (ev_tyk hT hl0 rfl rfl) hg2 (by decide +kernel) ?_
  refine ev_blk hX lkok_RX2 [(.aload_n 1, 1, 0, 0, 0)] (by decide +kernel) (g := true) (lv' := [some (.ref l0), some (.ref l1), some (.ref l2), some (.int v1)]) (st' := [.ref l1, .ref ((sE S) ((sE S) l0 2) (v1).toNatClampNeg)]) (D' := D1) (pc' := 17) rfl (rfl) rfl ?_
  obtain ⟨v3, D3, hc3, hf⟩ := ev_bd_s hf
  refine ev_callV hX YX9_become ml_RX2_35 (mX9_become hT (ev_ty2 hT (ev_tyk hT hl0 rfl rfl) hh2) hl1 hc3) (vs := [.ref l1]) (st := []) (by decide) 9 (ev_ty2 hT (ev_tyk hT hl0 rfl rfl) hh2) rfl rfl rfl (by decide +kernel) hC ?_
  show F S D3 20 [some (.ref l0), some (.ref l1), some (.ref l2), some (.int v1)] []
  obtain ⟨hg5, hf⟩ := ev_gd_s hf
  refine ev_blk hX lkok_RX2 [(.aload_n 0, 1, 0, 0, 0), (.getfield 24, 3, 2, 3, 0), (.iload_n 3, 1, 0, 0, 0), (.aload_n 2, 1, 0, 0, 0), (.getfield 39, 3, 0, 0, 0), (.iastore, 1, 0, 0, 0), (.aload_n 0, 1, 0, 0, 0), (.iload_n 3, 1, 0, 0, 0), (.iconst 1, 1, 0, 0, 1), (.iadd, 1, 0, 0, 0), (.bipush 6, 2, 0, 0, 6), (.irem, 1, 0, 0, 0), (.putfield 15, 3, 2, 1, 0), (.aload_n 0, 1, 0, 0, 0), (.bipush 6, 2, 0, 0, 6), (.aload_n 0, 1, 0, 0, 0), (.getfield 9, 3, 2, 0, 0), (.iconst 1, 1, 0, 0, 1), (.iadd, 1, 0, 0, 0)] (by decide +kernel) (g := (sK S l0 == 5) && ((sK S l2 == 3) && ((sK S ((sE S) l0 3) == 1 && ev_in v1 ((sL S) ((sE S) l0 3))) && ((!(decide ((6 : Int32) = 0))) && ((sK S l0 == 5) && ((sK S l0 == 5) && (true))))))) (lv' := [some (.ref l0), some (.ref l1), some (.ref l2), some (.int v1)]) (st' := [.int (((ev_up (ev_up D3 ((sE S) l0 3) (v1).toNatClampNeg (D3 l2 0)) l0 1 ((v1 + (1 : Int32)) - (v1 + (1 : Int32)) / (6 : Int32) * (6 : Int32))) l0 0) + (1 : Int32)), .int (6 : Int32), .ref l0]) (D' := (ev_up (ev_up D3 ((sE S) l0 3) (v1).toNatClampNeg (D3 l2 0)) l0 1 ((v1 + (1 : Int32)) - (v1 + (1 : Int32)) / (6 : Int32) * (6 : Int32)))) (pc' := 49) rfl (ev_gk hl0 (ev_gk hl2 (ev_gi (ev_tyk hT hl0 rfl rfl) hg5 (ev_g2 rfl (ev_gk hl0 (ev_gk hl0 (rfl))))))) rfl ?_
  obtain ⟨v4, D4, hc4, hf⟩ := ev_bd_s hf
  refine ev_callS hX YJ9_min ml_RX2_43 (mJ9_min hT  hc4) (vs := [.int (6 : Int32), .int (((ev_up (ev_up D3 ((sE S) l0 3) (v1).toNatClampNeg (D3 l2 0)) l0 1 ((v1 + (1 : Int32)) - (v1 + (1 : Int32)) / (6 : Int32) * (6 : Int32))) l0 0) + (1 : Int32))]) (st := [.ref l0]) (by decide) rfl rfl (by decide +kernel) hC ?_
  show F S D4 52 [some (.ref l0), some (.ref l1), some (.ref l2), some (.int v1)] [.int v4, .ref l0]
  refine ev_blk hX lkok_RX2 [(.putfield 9, 3, 2, 0, 0)] (by decide +kernel) (g := (sK S l0 == 5) && (true)) (lv' := [some (.ref l0), some (.ref l1), some (.ref l2), some (.int v1)]) (st' := []) (D' := (ev_up D4 l0 0 v4)) (pc' := 55) rfl (ev_gk hl0 (rfl)) rfl ?_
  exact ev_vret hR ev_sm.rf (Option.some.inj hf) hC (by decide +kernel)
theorem mX2_keep {S : ev_S} {fu : Nat} {r : Int32 × ev_D} (hT : ev_Ty S) {l0 : Nat} {l1 : Nat} {l2 : Nat} {D : ev_D} (hl0 : sK S l0 = 5) (hl1 : sK S l1 = 12) (hl2 : sK S l2 = 3) (hf : fX2_keep (sL S) (sE S) fu l0 l1 l2 D = some r) : ev_M 3 0 0 yX2_keep cX2_keep 4 none [.ref l0, .ref l1, .ref l2] S D S r :=
  ev_met (ini := false) (plainFor_of_name (by decide)) (fun h => by cases h) rfl (Nat.le_of_ble_eq_true rfl) (fun F hR => tX2_keep (S := ev_z S) hR hT ⟨Nat.le_refl 0, Nat.le_refl 0⟩ hl0 hl1 hl2 hf)
set_option maxHeartbeats 4000000 in
set_option maxRecDepth 100000 in
theorem tJ9_max {S : ev_S} {fu : Nat} {r : Int32 × ev_D} {F : ev_Fr} (hR : ev_R RJ9 cJ9_max_7cf53 2 0 0 0 false (some .int) S r F) (hT : ev_Ty S) (hC : sC S ≤ 0 ∧ sA S ≤ 0) {l0 : Int32} {l1 : Int32} {D : ev_D}  (hf : fJ9_max (sL S) (sE S) fu l0 l1 D = some r) : F S D 0 [some (.int l0), some (.int l1)] [] := by
  have hX := hR.X
  unfold fJ9_max at hf
  refine ev_blk hX lkok_RJ9 [(.iload_n 0, 1, 0, 0, 0), (.iload_n 1, 1, 0, 0, 0)] (by decide +kernel) (g := true) (lv' := [some (.int l0), some (.int l1)]) (st' := [.int l1, .int l0]) (D' := D) (pc' := 2) rfl (rfl) rfl ?_
  refine ev_ic_lt hX (off := 7) 9 (by decide +kernel) (by decide) (fun h1 => ?_) (fun h1 => ?_)
  · have hf := ev_it h1 hf
    refine ev_blk hX lkok_RJ9 [(.iload_n 1, 1, 0, 0, 0)] (by decide +kernel) (g := true) (lv' := [some (.int l0), some (.int l1)]) (st' := [.int l1]) (D' := D) (pc' := 10) rfl (rfl) rfl ?_
    exact ev_iret hR ev_sm.rf (Option.some.inj hf) hC (by decide +kernel)
  · have hf := ev_nf h1 hf
    refine ev_blk hX lkok_RJ9 [(.iload_n 0, 1, 0, 0, 0)] (by decide +kernel) (g := true) (lv' := [some (.int l0), some (.int l1)]) (st' := [.int l0]) (D' := D) (pc' := 6) rfl (rfl) rfl ?_
    refine ev_goto hX (off := 4) 10 (by decide +kernel) (by decide) ?_
    exact ev_iret hR ev_sm.rf (Option.some.inj hf) hC (by decide +kernel)
theorem mJ9_max {S : ev_S} {fu : Nat} {r : Int32 × ev_D} (hT : ev_Ty S) {l0 : Int32} {l1 : Int32} {D : ev_D}  (hf : fJ9_max (sL S) (sE S) fu l0 l1 D = some r) : ev_M 0 0 0 yJ9_max_7cf53 cJ9_max_7cf53 2 (some .int) [.int l0, .int l1] S D S r :=
  ev_met (ini := false) (by decide +kernel) (fun h => by cases h) rfl (Nat.le_of_ble_eq_true rfl) (fun F hR => tJ9_max (S := ev_z S) hR hT ⟨Nat.le_refl 0, Nat.le_refl 0⟩  hf)
set_option maxHeartbeats 4000000 in
set_option maxRecDepth 100000 in
theorem tX11_held {S : ev_S} {fu : Nat} {r : Int32 × ev_D} {F : ev_Fr} (hR : ev_R RX11 cX11_held 3 1 0 0 false (some .int) S r F) (hT : ev_Ty S) (hC : sC S ≤ 0 ∧ sA S ≤ 0) {l0 : Int32} {l1 : Int32} {l2 : Int32} {D : ev_D}  (hf : fX11_held (sL S) (sE S) fu l0 l1 l2 D = some r) : F S D 0 [some (.int l0), some (.int l1), some (.int l2)] [] := by
  have hX := hR.X
  unfold fX11_held at hf
  refine ev_blk hX lkok_RX11 [(.iload_n 1, 1, 0, 0, 0), (.iload_n 2, 1, 0, 0, 0), (.iload_n 0, 1, 0, 0, 0)] (by decide +kernel) (g := true) (lv' := [some (.int l0), some (.int l1), some (.int l2)]) (st' := [.int l0, .int l2, .int l1]) (D' := D) (pc' := 3) rfl (rfl) rfl ?_
  obtain ⟨v1, D1, hc1, hf⟩ := ev_bd_s hf
  refine ev_callS hX YJ9_min ml_RX11_345 (mJ9_min hT  hc1) (vs := [.int l2, .int l0]) (st := [.int l1]) (by decide) rfl rfl (by decide +kernel) hC ?_
  show F S D1 6 [some (.int l0), some (.int l1), some (.int l2)] [.int v1, .int l1]
  obtain ⟨v2, D2, hc2, hf⟩ := ev_bd_s hf
  refine ev_callS hX YJ9_max ml_RX11_350 (mJ9_max hT  hc2) (vs := [.int l1, .int v1]) (st := []) (by decide) rfl rfl (by decide +kernel) hC ?_
  show F S D2 9 [some (.int l0), some (.int l1), some (.int l2)] [.int v2]
  exact ev_iret hR ev_sm.rf (Option.some.inj hf) hC (by decide +kernel)
theorem mX11_held {S : ev_S} {fu : Nat} {r : Int32 × ev_D} (hT : ev_Ty S) {l0 : Int32} {l1 : Int32} {l2 : Int32} {D : ev_D}  (hf : fX11_held (sL S) (sE S) fu l0 l1 l2 D = some r) : ev_M 1 0 0 yX11_held cX11_held 3 (some .int) [.int l0, .int l1, .int l2] S D S r :=
  ev_met (ini := false) (plainFor_of_name (by decide)) (fun h => by cases h) rfl (Nat.le_of_ble_eq_true rfl) (fun F hR => tX11_held (S := ev_z S) hR hT ⟨Nat.le_refl 0, Nat.le_refl 0⟩  hf)
set_option maxHeartbeats 4000000 in
set_option maxRecDepth 100000 in
theorem tX0_write_59 {S : ev_S} {fu : Nat} {r : Int32 × ev_D} {F : ev_Fr} (hR : ev_R RX0 cX0_write 6 0 0 0 false none S r F) (hT : ev_Ty S) (hC : sC S ≤ 0 ∧ sA S ≤ 0) {l0 : Nat} {D : ev_D} (hl0 : sK S l0 = 3) (hf : fX0_write_59 (sL S) (sE S) fu l0 D = some r) : F S D 59 [some (.ref l0), none, none, none, none, none] [] := by
  have hX := hR.X
  unfold fX0_write_59 at hf
  refine ev_blk hX lkok_RX0 [(.aload_n 0, 1, 0, 0, 0), (.dup, 1, 0, 0, 0), (.getfield 9, 3, 0, 0, 0), (.iconst 1, 1, 0, 0, 1), (.iadd, 1, 0, 0, 0), (.putfield 9, 3, 0, 0, 0)] (by decide +kernel) (g := (sK S l0 == 3) && ((sK S l0 == 3) && (true))) (lv' := [some (.ref l0), none, none, none, none, none]) (st' := []) (D' := (ev_up D l0 0 ((D l0 0) + (1 : Int32)))) (pc' := 69) rfl (ev_gk hl0 (ev_gk hl0 (rfl))) rfl ?_
  exact ev_vret hR ev_sm.rf (Option.some.inj hf) hC (by decide +kernel)
set_option maxHeartbeats 4000000 in
set_option maxRecDepth 100000 in
theorem tX0_write {S : ev_S} {fu : Nat} {r : Int32 × ev_D} {F : ev_Fr} (hR : ev_R RX0 cX0_write 6 0 0 0 false none S r F) (hT : ev_Ty S) (hC : sC S ≤ 0 ∧ sA S ≤ 0) {l0 : Nat} {l1 : Int32} {l2 : Int32} {l3 : Int32} {l4 : Int32} {D : ev_D} (hl0 : sK S l0 = 3) (hf : fX0_write (sL S) (sE S) fu l0 l1 l2 l3 l4 D = some r) : F S D 0 [some (.ref l0), some (.int l1), some (.int l2), some (.int l3), some (.int l4), none] [] := by
  have hX := hR.X
  unfold fX0_write at hf
  refine ev_blk hX lkok_RX0 [(.aload_n 0, 1, 0, 0, 0), (.getfield 9, 3, 0, 0, 0), (.aload_n 0, 1, 0, 0, 0), (.getfield 21, 3, 0, 1, 0)] (by decide +kernel) (g := (sK S l0 == 3) && ((sK S l0 == 3) && (true))) (lv' := [some (.ref l0), some (.int l1), some (.int l2), some (.int l3), some (.int l4), none]) (st' := [.int (D l0 1), .int (D l0 0)]) (D' := D) (pc' := 8) rfl (ev_gk hl0 (ev_gk hl0 (rfl))) rfl ?_
  refine ev_ic_lt hX (off := 4) 12 (by decide +kernel) (by decide) (fun h1 => ?_) (fun h1 => ?_)
  · have hf := ev_it h1 hf
    obtain ⟨hg2, hf⟩ := ev_gd_s hf
    obtain ⟨hg3, hf⟩ := ev_gd_s hf
    obtain ⟨hg4, hf⟩ := ev_gd_s hf
    obtain ⟨hg5, hf⟩ := ev_gd_s hf
    refine ev_blk hX lkok_RX0 [(.aload_n 0, 1, 0, 0, 0), (.getfield 9, 3, 0, 0, 0), (.iconst 4, 1, 0, 0, 4), (.imul, 1, 0, 0, 0), (.istore 5, 2, 0, 0, 0), (.aload_n 0, 1, 0, 0, 0), (.getfield 24, 3, 0, 2, 0), (.iload 5, 2, 0, 0, 0), (.iload_n 1, 1, 0, 0, 0), (.iastore, 1, 0, 0, 0), (.aload_n 0, 1, 0, 0, 0), (.getfield 24, 3, 0, 2, 0), (.iload 5, 2, 0, 0, 0), (.iconst 1, 1, 0, 0, 1), (.iadd, 1, 0, 0, 0), (.iload_n 2, 1, 0, 0, 0), (.iastore, 1, 0, 0, 0), (.aload_n 0, 1, 0, 0, 0), (.getfield 24, 3, 0, 2, 0), (.iload 5, 2, 0, 0, 0), (.iconst 2, 1, 0, 0, 2), (.iadd, 1, 0, 0, 0), (.iload_n 3, 1, 0, 0, 0), (.iastore, 1, 0, 0, 0), (.aload_n 0, 1, 0, 0, 0), (.getfield 24, 3, 0, 2, 0), (.iload 5, 2, 0, 0, 0), (.iconst 3, 1, 0, 0, 3), (.iadd, 1, 0, 0, 0), (.iload 4, 2, 0, 0, 0), (.iastore, 1, 0, 0, 0)] (by decide +kernel) (g := (sK S l0 == 3) && ((sK S l0 == 3) && ((sK S ((sE S) l0 2) == 1 && ev_in ((D l0 0) * (4 : Int32)) ((sL S) ((sE S) l0 2))) && ((sK S l0 == 3) && ((sK S ((sE S) l0 2) == 1 && ev_in (((D l0 0) * (4 : Int32)) + (1 : Int32)) ((sL S) ((sE S) l0 2))) && ((sK S l0 == 3) && ((sK S ((sE S) l0 2) == 1 && ev_in (((D l0 0) * (4 : Int32)) + (2 : Int32)) ((sL S) ((sE S) l0 2))) && ((sK S l0 == 3) && ((sK S ((sE S) l0 2) == 1 && ev_in (((D l0 0) * (4 : Int32)) + (3 : Int32)) ((sL S) ((sE S) l0 2))) && (true)))))))))) (lv' := [some (.ref l0), some (.int l1), some (.int l2), some (.int l3), some (.int l4), some (.int ((D l0 0) * (4 : Int32)))]) (st' := []) (D' := (ev_up (ev_up (ev_up (ev_up D ((sE S) l0 2) (((D l0 0) * (4 : Int32))).toNatClampNeg l1) ((sE S) l0 2) ((((D l0 0) * (4 : Int32)) + (1 : Int32))).toNatClampNeg l2) ((sE S) l0 2) ((((D l0 0) * (4 : Int32)) + (2 : Int32))).toNatClampNeg l3) ((sE S) l0 2) ((((D l0 0) * (4 : Int32)) + (3 : Int32))).toNatClampNeg l4)) (pc' := 59) rfl (ev_gk hl0 (ev_gk hl0 (ev_gi (ev_tyk hT hl0 rfl rfl) hg2 (ev_gk hl0 (ev_gi (ev_tyk hT hl0 rfl rfl) hg3 (ev_gk hl0 (ev_gi (ev_tyk hT hl0 rfl rfl) hg4 (ev_gk hl0 (ev_gi (ev_tyk hT hl0 rfl rfl) hg5 (rfl)))))))))) rfl ?_
    exact ev_weak hX (ev_le_eq (ev_le_no (ev_le_no (ev_le_no (ev_le_no (ev_le_no ev_le_nil)))))) (tX0_write_59 hR hT hC   hl0 hf)
  · have hf := ev_nf h1 hf
    exact ev_vret hR ev_sm.rf (Option.some.inj hf) hC (by decide +kernel)
theorem mX0_write {S : ev_S} {fu : Nat} {r : Int32 × ev_D} (hT : ev_Ty S) {l0 : Nat} {l1 : Int32} {l2 : Int32} {l3 : Int32} {l4 : Int32} {D : ev_D} (hl0 : sK S l0 = 3) (hf : fX0_write (sL S) (sE S) fu l0 l1 l2 l3 l4 D = some r) : ev_M 0 0 0 yX0_write cX0_write 6 none [.ref l0, .int l1, .int l2, .int l3, .int l4] S D S r :=
  ev_met (ini := false) (plainFor_of_name (by decide)) (fun h => by cases h) rfl (Nat.le_of_ble_eq_true rfl) (fun F hR => tX0_write (S := ev_z S) hR hT ⟨Nat.le_refl 0, Nat.le_refl 0⟩ hl0 hf)
theorem dX1_joined_1 : decode cX1_joined 1 = .ok (.tableswitch 108 10101 10108 #[47, 51, 55, 59, 71, 82, 93, 104], 47) := by decide +kernel
set_option maxHeartbeats 4000000 in
set_option maxRecDepth 100000 in
theorem tX1_joined {S : ev_S} {fu : Nat} {r : Int32 × ev_D} {F : ev_Fr} (hR : ev_R RX1 cX1_joined 3 0 0 0 false (some .int) S r F) (hT : ev_Ty S) (hC : sC S ≤ 0 ∧ sA S ≤ 0) {l0 : Int32} {l1 : Int32} {l2 : Int32} {D : ev_D}  (hf : fX1_joined (sL S) (sE S) fu l0 l1 l2 D = some r) : F S D 0 [some (.int l0), some (.int l1), some (.int l2)] [] := by
  have hX := hR.X
  unfold fX1_joined at hf
  refine ev_blk hX lkok_RX1 [(.iload_n 0, 1, 0, 0, 0)] (by decide +kernel) (g := true) (lv' := [some (.int l0), some (.int l1), some (.int l2)]) (st' := [.int l0]) (D' := D) (pc' := 1) rfl (rfl) rfl ?_
  by_cases h1 : l0 = (10101 : Int32)
  · have hf := ev_it h1 hf
    refine ev_tblIn hX (off := 47) 48 dX1_joined_1 (by rw [h1]; decide) (by rw [h1]; decide) (by rw [h1]; rfl) (by decide) ?_
    refine ev_blk hX lkok_RX1 [(.iload_n 1, 1, 0, 0, 0), (.iload_n 2, 1, 0, 0, 0), (.iadd, 1, 0, 0, 0)] (by decide +kernel) (g := true) (lv' := [some (.int l0), some (.int l1), some (.int l2)]) (st' := [.int (l1 + l2)]) (D' := D) (pc' := 51) rfl (rfl) rfl ?_
    exact ev_iret hR ev_sm.rf (Option.some.inj hf) hC (by decide +kernel)
  have hf := ev_nf h1 hf
  by_cases h2 : l0 = (10102 : Int32)
  · have hf := ev_it h2 hf
    refine ev_tblIn hX (off := 51) 52 dX1_joined_1 (by rw [h2]; decide) (by rw [h2]; decide) (by rw [h2]; rfl) (by decide) ?_
    refine ev_blk hX lkok_RX1 [(.iload_n 1, 1, 0, 0, 0), (.iload_n 2, 1, 0, 0, 0), (.isub, 1, 0, 0, 0)] (by decide +kernel) (g := true) (lv' := [some (.int l0), some (.int l1), some (.int l2)]) (st' := [.int (l1 - l2)]) (D' := D) (pc' := 55) rfl (rfl) rfl ?_
    exact ev_iret hR ev_sm.rf (Option.some.inj hf) hC (by decide +kernel)
  have hf := ev_nf h2 hf
  by_cases h3 : l0 = (10103 : Int32)
  · have hf := ev_it h3 hf
    refine ev_tblIn hX (off := 55) 56 dX1_joined_1 (by rw [h3]; decide) (by rw [h3]; decide) (by rw [h3]; rfl) (by decide) ?_
    refine ev_blk hX lkok_RX1 [(.iload_n 1, 1, 0, 0, 0), (.iload_n 2, 1, 0, 0, 0), (.imul, 1, 0, 0, 0)] (by decide +kernel) (g := true) (lv' := [some (.int l0), some (.int l1), some (.int l2)]) (st' := [.int (l1 * l2)]) (D' := D) (pc' := 59) rfl (rfl) rfl ?_
    exact ev_iret hR ev_sm.rf (Option.some.inj hf) hC (by decide +kernel)
  have hf := ev_nf h3 hf
  by_cases h4 : l0 = (10104 : Int32)
  · have hf := ev_it h4 hf
    refine ev_tblIn hX (off := 59) 60 dX1_joined_1 (by rw [h4]; decide) (by rw [h4]; decide) (by rw [h4]; rfl) (by decide) ?_
    refine ev_blk hX lkok_RX1 [(.iload_n 2, 1, 0, 0, 0)] (by decide +kernel) (g := true) (lv' := [some (.int l0), some (.int l1), some (.int l2)]) (st' := [.int l2]) (D' := D) (pc' := 61) rfl (rfl) rfl ?_
    refine ev_if_ne hX (off := 7) 68 (by decide +kernel) (by decide) (fun h5 => ?_) (fun h5 => ?_)
    · have hf := ev_nf h5 hf
      obtain ⟨hg6, hf⟩ := ev_gd_s hf
      refine ev_blk hX lkok_RX1 [(.iload_n 1, 1, 0, 0, 0), (.iload_n 2, 1, 0, 0, 0), (.idiv, 1, 0, 0, 0)] (by decide +kernel) (g := (!(decide (l2 = 0))) && (true)) (lv' := [some (.int l0), some (.int l1), some (.int l2)]) (st' := [.int (l1 / l2)]) (D' := D) (pc' := 71) rfl (ev_g2 hg6 (rfl)) rfl ?_
      exact ev_iret hR ev_sm.rf (Option.some.inj hf) hC (by decide +kernel)
    · have hf := ev_it h5 hf
      refine ev_blk hX lkok_RX1 [(.iconst 0, 1, 0, 0, 0)] (by decide +kernel) (g := true) (lv' := [some (.int l0), some (.int l1), some (.int l2)]) (st' := [.int (0 : Int32)]) (D' := D) (pc' := 65) rfl (rfl) rfl ?_
      refine ev_goto hX (off := 6) 71 (by decide +kernel) (by decide) ?_
      exact ev_iret hR ev_sm.rf (Option.some.inj hf) hC (by decide +kernel)
  have hf := ev_nf h4 hf
  by_cases h7 : l0 = (10105 : Int32)
  · have hf := ev_it h7 hf
    refine ev_tblIn hX (off := 71) 72 dX1_joined_1 (by rw [h7]; decide) (by rw [h7]; decide) (by rw [h7]; rfl) (by decide) ?_
    refine ev_blk hX lkok_RX1 [(.iload_n 1, 1, 0, 0, 0), (.iload_n 2, 1, 0, 0, 0)] (by decide +kernel) (g := true) (lv' := [some (.int l0), some (.int l1), some (.int l2)]) (st' := [.int l2, .int l1]) (D' := D) (pc' := 74) rfl (rfl) rfl ?_
    refine ev_ic_ge hX (off := 7) 81 (by decide +kernel) (by decide) (fun h8 => ?_) (fun h8 => ?_)
    · have hf := ev_it h8 hf
      refine ev_blk hX lkok_RX1 [(.iconst 0, 1, 0, 0, 0)] (by decide +kernel) (g := true) (lv' := [some (.int l0), some (.int l1), some (.int l2)]) (st' := [.int (0 : Int32)]) (D' := D) (pc' := 82) rfl (rfl) rfl ?_
      exact ev_iret hR ev_sm.rf (Option.some.inj hf) hC (by decide +kernel)
    · have hf := ev_nf h8 hf
      refine ev_blk hX lkok_RX1 [(.iconst 1, 1, 0, 0, 1)] (by decide +kernel) (g := true) (lv' := [some (.int l0), some (.int l1), some (.int l2)]) (st' := [.int (1 : Int32)]) (D' := D) (pc' := 78) rfl (rfl) rfl ?_
      refine ev_goto hX (off := 4) 82 (by decide +kernel) (by decide) ?_
      exact ev_iret hR ev_sm.rf (Option.some.inj hf) hC (by decide +kernel)
  have hf := ev_nf h7 hf
  by_cases h9 : l0 = (10106 : Int32)
  · have hf := ev_it h9 hf
    refine ev_tblIn hX (off := 82) 83 dX1_joined_1 (by rw [h9]; decide) (by rw [h9]; decide) (by rw [h9]; rfl) (by decide) ?_
    refine ev_blk hX lkok_RX1 [(.iload_n 1, 1, 0, 0, 0), (.iload_n 2, 1, 0, 0, 0)] (by decide +kernel) (g := true) (lv' := [some (.int l0), some (.int l1), some (.int l2)]) (st' := [.int l2, .int l1]) (D' := D) (pc' := 85) rfl (rfl) rfl ?_
    refine ev_ic_ne hX (off := 7) 92 (by decide +kernel) (by decide) (fun h10 => ?_) (fun h10 => ?_)
    · have hf := ev_nf h10 hf
      refine ev_blk hX lkok_RX1 [(.iconst 0, 1, 0, 0, 0)] (by decide +kernel) (g := true) (lv' := [some (.int l0), some (.int l1), some (.int l2)]) (st' := [.int (0 : Int32)]) (D' := D) (pc' := 93) rfl (rfl) rfl ?_
      exact ev_iret hR ev_sm.rf (Option.some.inj hf) hC (by decide +kernel)
    · have hf := ev_it h10 hf
      refine ev_blk hX lkok_RX1 [(.iconst 1, 1, 0, 0, 1)] (by decide +kernel) (g := true) (lv' := [some (.int l0), some (.int l1), some (.int l2)]) (st' := [.int (1 : Int32)]) (D' := D) (pc' := 89) rfl (rfl) rfl ?_
      refine ev_goto hX (off := 4) 93 (by decide +kernel) (by decide) ?_
      exact ev_iret hR ev_sm.rf (Option.some.inj hf) hC (by decide +kernel)
  have hf := ev_nf h9 hf
  by_cases h11 : l0 = (10107 : Int32)
  · have hf := ev_it h11 hf
    refine ev_tblIn hX (off := 93) 94 dX1_joined_1 (by rw [h11]; decide) (by rw [h11]; decide) (by rw [h11]; rfl) (by decide) ?_
    refine ev_blk hX lkok_RX1 [(.iload_n 1, 1, 0, 0, 0), (.iload_n 2, 1, 0, 0, 0)] (by decide +kernel) (g := true) (lv' := [some (.int l0), some (.int l1), some (.int l2)]) (st' := [.int l2, .int l1]) (D' := D) (pc' := 96) rfl (rfl) rfl ?_
    refine ev_ic_le hX (off := 7) 103 (by decide +kernel) (by decide) (fun h12 => ?_) (fun h12 => ?_)
    · have hf := ev_it h12 hf
      refine ev_blk hX lkok_RX1 [(.iconst 0, 1, 0, 0, 0)] (by decide +kernel) (g := true) (lv' := [some (.int l0), some (.int l1), some (.int l2)]) (st' := [.int (0 : Int32)]) (D' := D) (pc' := 104) rfl (rfl) rfl ?_
      exact ev_iret hR ev_sm.rf (Option.some.inj hf) hC (by decide +kernel)
    · have hf := ev_nf h12 hf
      refine ev_blk hX lkok_RX1 [(.iconst 1, 1, 0, 0, 1)] (by decide +kernel) (g := true) (lv' := [some (.int l0), some (.int l1), some (.int l2)]) (st' := [.int (1 : Int32)]) (D' := D) (pc' := 100) rfl (rfl) rfl ?_
      refine ev_goto hX (off := 4) 104 (by decide +kernel) (by decide) ?_
      exact ev_iret hR ev_sm.rf (Option.some.inj hf) hC (by decide +kernel)
  have hf := ev_nf h11 hf
  by_cases h13 : l0 = (10108 : Int32)
  · have hf := ev_it h13 hf
    refine ev_tblIn hX (off := 104) 105 dX1_joined_1 (by rw [h13]; decide) (by rw [h13]; decide) (by rw [h13]; rfl) (by decide) ?_
    refine ev_blk hX lkok_RX1 [(.iload_n 1, 1, 0, 0, 0), (.iload_n 2, 1, 0, 0, 0), (.iand, 1, 0, 0, 0)] (by decide +kernel) (g := true) (lv' := [some (.int l0), some (.int l1), some (.int l2)]) (st' := [.int (l1 &&& l2)]) (D' := D) (pc' := 108) rfl (rfl) rfl ?_
    exact ev_iret hR ev_sm.rf (Option.some.inj hf) hC (by decide +kernel)
  have hf := ev_nf h13 hf
  refine ev_tblOut hX 109 dX1_joined_1 (by have h1q : (l0).toInt ≠ 10101 := ev_ne h1; have h2q : (l0).toInt ≠ 10102 := ev_ne h2; have h3q : (l0).toInt ≠ 10103 := ev_ne h3; have h4q : (l0).toInt ≠ 10104 := ev_ne h4; have h7q : (l0).toInt ≠ 10105 := ev_ne h7; have h9q : (l0).toInt ≠ 10106 := ev_ne h9; have h11q : (l0).toInt ≠ 10107 := ev_ne h11; have h13q : (l0).toInt ≠ 10108 := ev_ne h13; omega) (by decide) ?_
  refine ev_blk hX lkok_RX1 [(.iload_n 1, 1, 0, 0, 0), (.iload_n 2, 1, 0, 0, 0), (.ior, 1, 0, 0, 0)] (by decide +kernel) (g := true) (lv' := [some (.int l0), some (.int l1), some (.int l2)]) (st' := [.int (l1 ||| l2)]) (D' := D) (pc' := 112) rfl (rfl) rfl ?_
  exact ev_iret hR ev_sm.rf (Option.some.inj hf) hC (by decide +kernel)
theorem mX1_joined {S : ev_S} {fu : Nat} {r : Int32 × ev_D} (hT : ev_Ty S) {l0 : Int32} {l1 : Int32} {l2 : Int32} {D : ev_D}  (hf : fX1_joined (sL S) (sE S) fu l0 l1 l2 D = some r) : ev_M 0 0 0 yX1_joined cX1_joined 3 (some .int) [.int l0, .int l1, .int l2] S D S r :=
  ev_met (ini := false) (plainFor_of_name (by decide)) (fun h => by cases h) rfl (Nat.le_of_ble_eq_true rfl) (fun F hR => tX1_joined (S := ev_z S) hR hT ⟨Nat.le_refl 0, Nat.le_refl 0⟩  hf)
set_option maxHeartbeats 4000000 in
set_option maxRecDepth 100000 in
theorem tX1_valueOf {S : ev_S} {fu : Nat} {r : Int32 × ev_D} {F : ev_Fr} (hR : ev_R RX1 cX1_valueOf 2 0 0 0 false (some .int) S r F) (hT : ev_Ty S) (hC : sC S ≤ 0 ∧ sA S ≤ 0) {l0 : Int32} {l1 : Nat} {D : ev_D} (hl1 : sK S l1 = 1) (hf : fX1_valueOf (sL S) (sE S) fu l0 l1 D = some r) : F S D 0 [some (.int l0), some (.ref l1)] [] := by
  have hX := hR.X
  unfold fX1_valueOf at hf
  refine ev_blk hX lkok_RX1 [(.iload_n 0, 1, 0, 0, 0)] (by decide +kernel) (g := true) (lv' := [some (.int l0), some (.ref l1)]) (st' := [.int l0]) (D' := D) (pc' := 1) rfl (rfl) rfl ?_
  refine ev_if_lt hX (off := 15) 16 (by decide +kernel) (by decide) (fun h1 => ?_) (fun h1 => ?_)
  · have hf := ev_it h1 hf
    refine ev_blk hX lkok_RX1 [(.iconst 0, 1, 0, 0, 0)] (by decide +kernel) (g := true) (lv' := [some (.int l0), some (.ref l1)]) (st' := [.int (0 : Int32)]) (D' := D) (pc' := 17) rfl (rfl) rfl ?_
    exact ev_iret hR ev_sm.rf (Option.some.inj hf) hC (by decide +kernel)
  · have hf := ev_nf h1 hf
    refine ev_blk hX lkok_RX1 [(.iload_n 0, 1, 0, 0, 0), (.aload_n 1, 1, 0, 0, 0), (.arraylength, 1, 0, 0, 0)] (by decide +kernel) (g := (sK S l1 == 1) && (true)) (lv' := [some (.int l0), some (.ref l1)]) (st' := [.int (Int32.ofNat ((sL S) l1)), .int l0]) (D' := D) (pc' := 7) rfl (ev_gk hl1 (rfl)) rfl ?_
    refine ev_ic_ge hX (off := 9) 16 (by decide +kernel) (by decide) (fun h2 => ?_) (fun h2 => ?_)
    · have hf := ev_it h2 hf
      refine ev_blk hX lkok_RX1 [(.iconst 0, 1, 0, 0, 0)] (by decide +kernel) (g := true) (lv' := [some (.int l0), some (.ref l1)]) (st' := [.int (0 : Int32)]) (D' := D) (pc' := 17) rfl (rfl) rfl ?_
      exact ev_iret hR ev_sm.rf (Option.some.inj hf) hC (by decide +kernel)
    · have hf := ev_nf h2 hf
      obtain ⟨hg3, hf⟩ := ev_gd_s hf
      refine ev_blk hX lkok_RX1 [(.aload_n 1, 1, 0, 0, 0), (.iload_n 0, 1, 0, 0, 0), (.iaload, 1, 0, 0, 0)] (by decide +kernel) (g := (sK S l1 == 1 && ev_in l0 ((sL S) l1)) && (true)) (lv' := [some (.int l0), some (.ref l1)]) (st' := [.int (D l1 (l0).toNatClampNeg)]) (D' := D) (pc' := 13) rfl (ev_gi hl1 hg3 (rfl)) rfl ?_
      refine ev_goto hX (off := 4) 17 (by decide +kernel) (by decide) ?_
      exact ev_iret hR ev_sm.rf (Option.some.inj hf) hC (by decide +kernel)
theorem mX1_valueOf {S : ev_S} {fu : Nat} {r : Int32 × ev_D} (hT : ev_Ty S) {l0 : Int32} {l1 : Nat} {D : ev_D} (hl1 : sK S l1 = 1) (hf : fX1_valueOf (sL S) (sE S) fu l0 l1 D = some r) : ev_M 0 0 0 yX1_valueOf cX1_valueOf 2 (some .int) [.int l0, .ref l1] S D S r :=
  ev_met (ini := false) (plainFor_of_name (by decide)) (fun h => by cases h) rfl (Nat.le_of_ble_eq_true rfl) (fun F hR => tX1_valueOf (S := ev_z S) hR hT ⟨Nat.le_refl 0, Nat.le_refl 0⟩ hl1 hf)
set_option maxHeartbeats 4000000 in
set_option maxRecDepth 100000 in
theorem tX1_reckon_10 {S : ev_S} {fu : Nat} {r : Int32 × ev_D} {F : ev_Fr} (hR : ev_R RX1 cX1_reckon 7 1 0 0 false (some .int) S r F) (hT : ev_Ty S) (hC : sC S ≤ 0 ∧ sA S ≤ 0) : ∀ (n : Nat) (l0 : Nat) (l2 : Int32) (l3 : Nat) (l4 : Int32) (l5 : Int32) (D : ev_D), sK S l0 = 4 → sK S l3 = 1 → fX1_reckon_10 (sL S) (sE S) fu n l0 l2 l3 l4 l5 D = some r → F S D 10 [some (.ref l0), none, some (.int l2), some (.ref l3), some (.int l4), some (.int l5), none] [] := by
  have hX := hR.X
  intro n
  induction n with
  | zero =>
    intro l0 l2 l3 l4 l5 D hl0 hl3 hf
    rw [fX1_reckon_10] at hf
    cases hf
  | succ n ih =>
    intro l0 l2 l3 l4 l5 D hl0 hl3 hf
    rw [fX1_reckon_10] at hf
    refine ev_blk hX lkok_RX1 [(.iload 5, 2, 0, 0, 0), (.iload_n 2, 1, 0, 0, 0)] (by decide +kernel) (g := true) (lv' := [some (.ref l0), none, some (.int l2), some (.ref l3), some (.int l4), some (.int l5), none]) (st' := [.int l2, .int l5]) (D' := D) (pc' := 13) rfl (rfl) rfl ?_
    refine ev_ic_ge hX (off := 157) 170 (by decide +kernel) (by decide) (fun h1 => ?_) (fun h1 => ?_)
    · have hf := ev_it h1 hf
      obtain ⟨hg2, hf⟩ := ev_gd_s hf
      refine ev_blk hX lkok_RX1 [(.aload_n 0, 1, 0, 0, 0), (.getfield 34, 3, 1, 7, 0), (.iconst 0, 1, 0, 0, 0), (.iaload, 1, 0, 0, 0)] (by decide +kernel) (g := (sK S l0 == 4) && ((sK S ((sE S) l0 7) == 1 && ev_in (0 : Int32) ((sL S) ((sE S) l0 7))) && (true))) (lv' := [some (.ref l0), none, some (.int l2), some (.ref l3), some (.int l4), some (.int l5), none]) (st' := [.int (D ((sE S) l0 7) ((0 : Int32)).toNatClampNeg)]) (D' := D) (pc' := 176) rfl (ev_gk hl0 (ev_gi (ev_tyk hT hl0 rfl rfl) hg2 (rfl))) rfl ?_
      exact ev_iret hR ev_sm.rf (Option.some.inj hf) hC (by decide +kernel)
    · have hf := ev_nf h1 hf
      refine ev_blk hX lkok_RX1 [(.iload 5, 2, 0, 0, 0), (.aload_n 0, 1, 0, 0, 0), (.getfield 31, 3, 1, 6, 0), (.arraylength, 1, 0, 0, 0)] (by decide +kernel) (g := (sK S l0 == 4) && ((sK S ((sE S) l0 6) == 1) && (true))) (lv' := [some (.ref l0), none, some (.int l2), some (.ref l3), some (.int l4), some (.int l5), none]) (st' := [.int (Int32.ofNat ((sL S) ((sE S) l0 6))), .int l5]) (D' := D) (pc' := 23) rfl (ev_gk hl0 (ev_gk (ev_tyk hT hl0 rfl rfl) (rfl))) rfl ?_
      refine ev_ic_ge hX (off := 147) 170 (by decide +kernel) (by decide) (fun h3 => ?_) (fun h3 => ?_)
      · have hf := ev_it h3 hf
        obtain ⟨hg4, hf⟩ := ev_gd_s hf
        refine ev_blk hX lkok_RX1 [(.aload_n 0, 1, 0, 0, 0), (.getfield 34, 3, 1, 7, 0), (.iconst 0, 1, 0, 0, 0), (.iaload, 1, 0, 0, 0)] (by decide +kernel) (g := (sK S l0 == 4) && ((sK S ((sE S) l0 7) == 1 && ev_in (0 : Int32) ((sL S) ((sE S) l0 7))) && (true))) (lv' := [some (.ref l0), none, some (.int l2), some (.ref l3), some (.int l4), some (.int l5), none]) (st' := [.int (D ((sE S) l0 7) ((0 : Int32)).toNatClampNeg)]) (D' := D) (pc' := 176) rfl (ev_gk hl0 (ev_gi (ev_tyk hT hl0 rfl rfl) hg4 (rfl))) rfl ?_
        exact ev_iret hR ev_sm.rf (Option.some.inj hf) hC (by decide +kernel)
      · have hf := ev_nf h3 hf
        obtain ⟨hg20, hf⟩ := ev_gd_s hf
        refine ev_blk hX lkok_RX1 [(.aload_n 0, 1, 0, 0, 0), (.getfield 31, 3, 1, 6, 0), (.iload 5, 2, 0, 0, 0), (.iaload, 1, 0, 0, 0), (.istore 6, 2, 0, 0, 0), (.iload 6, 2, 0, 0, 0), (.sipush 10100, 3, 0, 0, 10100)] (by decide +kernel) (g := (sK S l0 == 4) && ((sK S ((sE S) l0 6) == 1 && ev_in l5 ((sL S) ((sE S) l0 6))) && (true))) (lv' := [some (.ref l0), none, some (.int l2), some (.ref l3), some (.int l4), some (.int l5), some (.int (D ((sE S) l0 6) (l5).toNatClampNeg))]) (st' := [.int (10100 : Int32), .int (D ((sE S) l0 6) (l5).toNatClampNeg)]) (D' := D) (pc' := 40) rfl (ev_gk hl0 (ev_gi (ev_tyk hT hl0 rfl rfl) hg20 (rfl))) rfl ?_
        refine ev_ic_ge hX (off := 49) 89 (by decide +kernel) (by decide) (fun h5 => ?_) (fun h5 => ?_)
        · have hf := ev_it h5 hf
          refine ev_blk hX lkok_RX1 [(.iload 6, 2, 0, 0, 0), (.sipush 10100, 3, 0, 0, 10100)] (by decide +kernel) (g := true) (lv' := [some (.ref l0), none, some (.int l2), some (.ref l3), some (.int l4), some (.int l5), some (.int (D ((sE S) l0 6) (l5).toNatClampNeg))]) (st' := [.int (10100 : Int32), .int (D ((sE S) l0 6) (l5).toNatClampNeg)]) (D' := D) (pc' := 94) rfl (rfl) rfl ?_
          refine ev_ic_ne hX (off := 31) 125 (by decide +kernel) (by decide) (fun h6 => ?_) (fun h6 => ?_)
          · have hf := ev_nf h6 hf
            refine ev_blk hX lkok_RX1 [(.iload 4, 2, 0, 0, 0), (.iconst 1, 1, 0, 0, 1)] (by decide +kernel) (g := true) (lv' := [some (.ref l0), none, some (.int l2), some (.ref l3), some (.int l4), some (.int l5), some (.int (D ((sE S) l0 6) (l5).toNatClampNeg))]) (st' := [.int (1 : Int32), .int l4]) (D' := D) (pc' := 128) rfl (rfl) rfl ?_
            refine ev_ic_le hX (off := 36) 164 (by decide +kernel) (by decide) (fun h7 => ?_) (fun h7 => ?_)
            · have hf := ev_it h7 hf
              refine ev_blk hX lkok_RX1 [(.iinc 5 1, 3, 0, 0, 1)] (by decide +kernel) (g := true) (lv' := [some (.ref l0), none, some (.int l2), some (.ref l3), some (.int l4), some (.int (l5 + (1 : Int32))), some (.int (D ((sE S) l0 6) (l5).toNatClampNeg))]) (st' := []) (D' := D) (pc' := 167) rfl (rfl) rfl ?_
              refine ev_goto hX (off := (-157)) 10 (by decide +kernel) (by decide) ?_
              exact ev_weak hX (ev_le_eq (ev_le_no (ev_le_eq (ev_le_eq (ev_le_eq (ev_le_eq (ev_le_no ev_le_nil))))))) (ih _ _ _ _ _ _ hl0 hl3 hf)
            · have hf := ev_nf h7 hf
              obtain ⟨hg10, hf⟩ := ev_gd_s hf
              obtain ⟨hg11, hf⟩ := ev_gd_s hf
              refine ev_blk hX lkok_RX1 [(.iinc 4 (-1), 3, 0, 0, (-1)), (.aload_n 0, 1, 0, 0, 0), (.getfield 34, 3, 1, 7, 0), (.iload 4, 2, 0, 0, 0), (.iconst 1, 1, 0, 0, 1), (.isub, 1, 0, 0, 0), (.iload 6, 2, 0, 0, 0), (.aload_n 0, 1, 0, 0, 0), (.getfield 34, 3, 1, 7, 0), (.iload 4, 2, 0, 0, 0), (.iconst 1, 1, 0, 0, 1), (.isub, 1, 0, 0, 0), (.iaload, 1, 0, 0, 0), (.aload_n 0, 1, 0, 0, 0), (.getfield 34, 3, 1, 7, 0), (.iload 4, 2, 0, 0, 0), (.iaload, 1, 0, 0, 0)] (by decide +kernel) (g := (sK S l0 == 4) && ((sK S l0 == 4) && ((sK S ((sE S) l0 7) == 1 && ev_in ((l4 + (-1 : Int32)) - (1 : Int32)) ((sL S) ((sE S) l0 7))) && ((sK S l0 == 4) && ((sK S ((sE S) l0 7) == 1 && ev_in (l4 + (-1 : Int32)) ((sL S) ((sE S) l0 7))) && (true)))))) (lv' := [some (.ref l0), none, some (.int l2), some (.ref l3), some (.int (l4 + (-1 : Int32))), some (.int l5), some (.int (D ((sE S) l0 6) (l5).toNatClampNeg))]) (st' := [.int (D ((sE S) l0 7) ((l4 + (-1 : Int32))).toNatClampNeg), .int (D ((sE S) l0 7) (((l4 + (-1 : Int32)) - (1 : Int32))).toNatClampNeg), .int (D ((sE S) l0 6) (l5).toNatClampNeg), .int ((l4 + (-1 : Int32)) - (1 : Int32)), .ref ((sE S) l0 7)]) (D' := D) (pc' := 160) rfl (ev_gk hl0 (ev_gk hl0 (ev_gi (ev_tyk hT hl0 rfl rfl) hg10 (ev_gk hl0 (ev_gi (ev_tyk hT hl0 rfl rfl) hg11 (rfl)))))) rfl ?_
              obtain ⟨v8, D8, hc8, hf⟩ := ev_bd_s hf
              refine ev_callS hX YX1_joined ml_RX1_59 (mX1_joined hT  hc8) (vs := [.int (D ((sE S) l0 6) (l5).toNatClampNeg), .int (D ((sE S) l0 7) (((l4 + (-1 : Int32)) - (1 : Int32))).toNatClampNeg), .int (D ((sE S) l0 7) ((l4 + (-1 : Int32))).toNatClampNeg)]) (st := [.int ((l4 + (-1 : Int32)) - (1 : Int32)), .ref ((sE S) l0 7)]) (by decide) rfl rfl (by decide +kernel) hC ?_
              show F S D8 163 [some (.ref l0), none, some (.int l2), some (.ref l3), some (.int (l4 + (-1 : Int32))), some (.int l5), some (.int (D ((sE S) l0 6) (l5).toNatClampNeg))] [.int v8, .int ((l4 + (-1 : Int32)) - (1 : Int32)), .ref ((sE S) l0 7)]
              obtain ⟨hg9, hf⟩ := ev_gd_s hf
              refine ev_blk hX lkok_RX1 [(.iastore, 1, 0, 0, 0), (.iinc 5 1, 3, 0, 0, 1)] (by decide +kernel) (g := (sK S ((sE S) l0 7) == 1 && ev_in ((l4 + (-1 : Int32)) - (1 : Int32)) ((sL S) ((sE S) l0 7))) && (true)) (lv' := [some (.ref l0), none, some (.int l2), some (.ref l3), some (.int (l4 + (-1 : Int32))), some (.int (l5 + (1 : Int32))), some (.int (D ((sE S) l0 6) (l5).toNatClampNeg))]) (st' := []) (D' := (ev_up D8 ((sE S) l0 7) (((l4 + (-1 : Int32)) - (1 : Int32))).toNatClampNeg v8)) (pc' := 167) rfl (ev_gi (ev_tyk hT hl0 rfl rfl) hg9 (rfl)) rfl ?_
              refine ev_goto hX (off := (-157)) 10 (by decide +kernel) (by decide) ?_
              exact ev_weak hX (ev_le_eq (ev_le_no (ev_le_eq (ev_le_eq (ev_le_eq (ev_le_eq (ev_le_no ev_le_nil))))))) (ih _ _ _ _ _ _ hl0 hl3 hf)
          · have hf := ev_it h6 hf
            refine ev_blk hX lkok_RX1 [(.iload 4, 2, 0, 0, 0)] (by decide +kernel) (g := true) (lv' := [some (.ref l0), none, some (.int l2), some (.ref l3), some (.int l4), some (.int l5), some (.int (D ((sE S) l0 6) (l5).toNatClampNeg))]) (st' := [.int l4]) (D' := D) (pc' := 99) rfl (rfl) rfl ?_
            refine ev_if_le hX (off := 65) 164 (by decide +kernel) (by decide) (fun h12 => ?_) (fun h12 => ?_)
            · have hf := ev_it h12 hf
              refine ev_blk hX lkok_RX1 [(.iinc 5 1, 3, 0, 0, 1)] (by decide +kernel) (g := true) (lv' := [some (.ref l0), none, some (.int l2), some (.ref l3), some (.int l4), some (.int (l5 + (1 : Int32))), some (.int (D ((sE S) l0 6) (l5).toNatClampNeg))]) (st' := []) (D' := D) (pc' := 167) rfl (rfl) rfl ?_
              refine ev_goto hX (off := (-157)) 10 (by decide +kernel) (by decide) ?_
              exact ev_weak hX (ev_le_eq (ev_le_no (ev_le_eq (ev_le_eq (ev_le_eq (ev_le_eq (ev_le_no ev_le_nil))))))) (ih _ _ _ _ _ _ hl0 hl3 hf)
            · have hf := ev_nf h12 hf
              obtain ⟨hg13, hf⟩ := ev_gd_s hf
              obtain ⟨hg14, hf⟩ := ev_gd_s hf
              refine ev_blk hX lkok_RX1 [(.aload_n 0, 1, 0, 0, 0), (.getfield 34, 3, 1, 7, 0), (.iload 4, 2, 0, 0, 0), (.iconst 1, 1, 0, 0, 1), (.isub, 1, 0, 0, 0), (.iconst 1, 1, 0, 0, 1), (.aload_n 0, 1, 0, 0, 0), (.getfield 34, 3, 1, 7, 0), (.iload 4, 2, 0, 0, 0), (.iconst 1, 1, 0, 0, 1), (.isub, 1, 0, 0, 0), (.iaload, 1, 0, 0, 0), (.isub, 1, 0, 0, 0), (.iastore, 1, 0, 0, 0)] (by decide +kernel) (g := (sK S l0 == 4) && ((sK S l0 == 4) && ((sK S ((sE S) l0 7) == 1 && ev_in (l4 - (1 : Int32)) ((sL S) ((sE S) l0 7))) && ((sK S ((sE S) l0 7) == 1 && ev_in (l4 - (1 : Int32)) ((sL S) ((sE S) l0 7))) && (true))))) (lv' := [some (.ref l0), none, some (.int l2), some (.ref l3), some (.int l4), some (.int l5), some (.int (D ((sE S) l0 6) (l5).toNatClampNeg))]) (st' := []) (D' := (ev_up D ((sE S) l0 7) ((l4 - (1 : Int32))).toNatClampNeg ((1 : Int32) - (D ((sE S) l0 7) ((l4 - (1 : Int32))).toNatClampNeg)))) (pc' := 122) rfl (ev_gk hl0 (ev_gk hl0 (ev_gi (ev_tyk hT hl0 rfl rfl) hg13 (ev_gi (ev_tyk hT hl0 rfl rfl) hg14 (rfl))))) rfl ?_
              refine ev_goto hX (off := 42) 164 (by decide +kernel) (by decide) ?_
              refine ev_blk hX lkok_RX1 [(.iinc 5 1, 3, 0, 0, 1)] (by decide +kernel) (g := true) (lv' := [some (.ref l0), none, some (.int l2), some (.ref l3), some (.int l4), some (.int (l5 + (1 : Int32))), some (.int (D ((sE S) l0 6) (l5).toNatClampNeg))]) (st' := []) (D' := (ev_up D ((sE S) l0 7) ((l4 - (1 : Int32))).toNatClampNeg ((1 : Int32) - (D ((sE S) l0 7) ((l4 - (1 : Int32))).toNatClampNeg)))) (pc' := 167) rfl (rfl) rfl ?_
              refine ev_goto hX (off := (-157)) 10 (by decide +kernel) (by decide) ?_
              exact ev_weak hX (ev_le_eq (ev_le_no (ev_le_eq (ev_le_eq (ev_le_eq (ev_le_eq (ev_le_no ev_le_nil))))))) (ih _ _ _ _ _ _ hl0 hl3 hf)
        · have hf := ev_nf h5 hf
          refine ev_blk hX lkok_RX1 [(.iload 4, 2, 0, 0, 0), (.aload_n 0, 1, 0, 0, 0), (.getfield 34, 3, 1, 7, 0), (.arraylength, 1, 0, 0, 0)] (by decide +kernel) (g := (sK S l0 == 4) && ((sK S ((sE S) l0 7) == 1) && (true))) (lv' := [some (.ref l0), none, some (.int l2), some (.ref l3), some (.int l4), some (.int l5), some (.int (D ((sE S) l0 6) (l5).toNatClampNeg))]) (st' := [.int (Int32.ofNat ((sL S) ((sE S) l0 7))), .int l4]) (D' := D) (pc' := 50) rfl (ev_gk hl0 (ev_gk (ev_tyk hT hl0 rfl rfl) (rfl))) rfl ?_
          refine ev_ic_ge hX (off := 114) 164 (by decide +kernel) (by decide) (fun h15 => ?_) (fun h15 => ?_)
          · have hf := ev_it h15 hf
            refine ev_blk hX lkok_RX1 [(.iinc 5 1, 3, 0, 0, 1)] (by decide +kernel) (g := true) (lv' := [some (.ref l0), none, some (.int l2), some (.ref l3), some (.int l4), some (.int (l5 + (1 : Int32))), some (.int (D ((sE S) l0 6) (l5).toNatClampNeg))]) (st' := []) (D' := D) (pc' := 167) rfl (rfl) rfl ?_
            refine ev_goto hX (off := (-157)) 10 (by decide +kernel) (by decide) ?_
            exact ev_weak hX (ev_le_eq (ev_le_no (ev_le_eq (ev_le_eq (ev_le_eq (ev_le_eq (ev_le_no ev_le_nil))))))) (ih _ _ _ _ _ _ hl0 hl3 hf)
          · have hf := ev_nf h15 hf
            refine ev_blk hX lkok_RX1 [(.aload_n 0, 1, 0, 0, 0), (.getfield 34, 3, 1, 7, 0), (.iload 4, 2, 0, 0, 0), (.iload 6, 2, 0, 0, 0), (.sipush 10000, 3, 0, 0, 10000)] (by decide +kernel) (g := (sK S l0 == 4) && (true)) (lv' := [some (.ref l0), none, some (.int l2), some (.ref l3), some (.int l4), some (.int l5), some (.int (D ((sE S) l0 6) (l5).toNatClampNeg))]) (st' := [.int (10000 : Int32), .int (D ((sE S) l0 6) (l5).toNatClampNeg), .int l4, .ref ((sE S) l0 7)]) (D' := D) (pc' := 64) rfl (ev_gk hl0 (rfl)) rfl ?_
            refine ev_ic_ge hX (off := 8) 72 (by decide +kernel) (by decide) (fun h16 => ?_) (fun h16 => ?_)
            · have hf := ev_it h16 hf
              refine ev_blk hX lkok_RX1 [(.iload 6, 2, 0, 0, 0), (.sipush 10000, 3, 0, 0, 10000), (.isub, 1, 0, 0, 0), (.aload_n 3, 1, 0, 0, 0)] (by decide +kernel) (g := true) (lv' := [some (.ref l0), none, some (.int l2), some (.ref l3), some (.int l4), some (.int l5), some (.int (D ((sE S) l0 6) (l5).toNatClampNeg))]) (st' := [.ref l3, .int ((D ((sE S) l0 6) (l5).toNatClampNeg) - (10000 : Int32)), .int l4, .ref ((sE S) l0 7)]) (D' := D) (pc' := 79) rfl (rfl) rfl ?_
              obtain ⟨v17, D17, hc17, hf⟩ := ev_bd_s hf
              refine ev_callS hX YX1_valueOf ml_RX1_55 (mX1_valueOf hT hl3 hc17) (vs := [.int ((D ((sE S) l0 6) (l5).toNatClampNeg) - (10000 : Int32)), .ref l3]) (st := [.int l4, .ref ((sE S) l0 7)]) (by decide) rfl rfl (by decide +kernel) hC ?_
              show F S D17 82 [some (.ref l0), none, some (.int l2), some (.ref l3), some (.int l4), some (.int l5), some (.int (D ((sE S) l0 6) (l5).toNatClampNeg))] [.int v17, .int l4, .ref ((sE S) l0 7)]
              obtain ⟨hg18, hf⟩ := ev_gd_s hf
              refine ev_blk hX lkok_RX1 [(.iastore, 1, 0, 0, 0), (.iinc 4 1, 3, 0, 0, 1)] (by decide +kernel) (g := (sK S ((sE S) l0 7) == 1 && ev_in l4 ((sL S) ((sE S) l0 7))) && (true)) (lv' := [some (.ref l0), none, some (.int l2), some (.ref l3), some (.int (l4 + (1 : Int32))), some (.int l5), some (.int (D ((sE S) l0 6) (l5).toNatClampNeg))]) (st' := []) (D' := (ev_up D17 ((sE S) l0 7) (l4).toNatClampNeg v17)) (pc' := 86) rfl (ev_gi (ev_tyk hT hl0 rfl rfl) hg18 (rfl)) rfl ?_
              refine ev_goto hX (off := 78) 164 (by decide +kernel) (by decide) ?_
              refine ev_blk hX lkok_RX1 [(.iinc 5 1, 3, 0, 0, 1)] (by decide +kernel) (g := true) (lv' := [some (.ref l0), none, some (.int l2), some (.ref l3), some (.int (l4 + (1 : Int32))), some (.int (l5 + (1 : Int32))), some (.int (D ((sE S) l0 6) (l5).toNatClampNeg))]) (st' := []) (D' := (ev_up D17 ((sE S) l0 7) (l4).toNatClampNeg v17)) (pc' := 167) rfl (rfl) rfl ?_
              refine ev_goto hX (off := (-157)) 10 (by decide +kernel) (by decide) ?_
              exact ev_weak hX (ev_le_eq (ev_le_no (ev_le_eq (ev_le_eq (ev_le_eq (ev_le_eq (ev_le_no ev_le_nil))))))) (ih _ _ _ _ _ _ hl0 hl3 hf)
            · have hf := ev_nf h16 hf
              refine ev_blk hX lkok_RX1 [(.iload 6, 2, 0, 0, 0)] (by decide +kernel) (g := true) (lv' := [some (.ref l0), none, some (.int l2), some (.ref l3), some (.int l4), some (.int l5), some (.int (D ((sE S) l0 6) (l5).toNatClampNeg))]) (st' := [.int (D ((sE S) l0 6) (l5).toNatClampNeg), .int l4, .ref ((sE S) l0 7)]) (D' := D) (pc' := 69) rfl (rfl) rfl ?_
              refine ev_goto hX (off := 13) 82 (by decide +kernel) (by decide) ?_
              obtain ⟨hg19, hf⟩ := ev_gd_s hf
              refine ev_blk hX lkok_RX1 [(.iastore, 1, 0, 0, 0), (.iinc 4 1, 3, 0, 0, 1)] (by decide +kernel) (g := (sK S ((sE S) l0 7) == 1 && ev_in l4 ((sL S) ((sE S) l0 7))) && (true)) (lv' := [some (.ref l0), none, some (.int l2), some (.ref l3), some (.int (l4 + (1 : Int32))), some (.int l5), some (.int (D ((sE S) l0 6) (l5).toNatClampNeg))]) (st' := []) (D' := (ev_up D ((sE S) l0 7) (l4).toNatClampNeg (D ((sE S) l0 6) (l5).toNatClampNeg))) (pc' := 86) rfl (ev_gi (ev_tyk hT hl0 rfl rfl) hg19 (rfl)) rfl ?_
              refine ev_goto hX (off := 78) 164 (by decide +kernel) (by decide) ?_
              refine ev_blk hX lkok_RX1 [(.iinc 5 1, 3, 0, 0, 1)] (by decide +kernel) (g := true) (lv' := [some (.ref l0), none, some (.int l2), some (.ref l3), some (.int (l4 + (1 : Int32))), some (.int (l5 + (1 : Int32))), some (.int (D ((sE S) l0 6) (l5).toNatClampNeg))]) (st' := []) (D' := (ev_up D ((sE S) l0 7) (l4).toNatClampNeg (D ((sE S) l0 6) (l5).toNatClampNeg))) (pc' := 167) rfl (rfl) rfl ?_
              refine ev_goto hX (off := (-157)) 10 (by decide +kernel) (by decide) ?_
              exact ev_weak hX (ev_le_eq (ev_le_no (ev_le_eq (ev_le_eq (ev_le_eq (ev_le_eq (ev_le_no ev_le_nil))))))) (ih _ _ _ _ _ _ hl0 hl3 hf)
set_option maxHeartbeats 4000000 in
set_option maxRecDepth 100000 in
theorem tX1_reckon {S : ev_S} {fu : Nat} {r : Int32 × ev_D} {F : ev_Fr} (hR : ev_R RX1 cX1_reckon 7 1 0 0 false (some .int) S r F) (hT : ev_Ty S) (hC : sC S ≤ 0 ∧ sA S ≤ 0) {l0 : Nat} {l1 : Int32} {l2 : Int32} {l3 : Nat} {D : ev_D} (hl0 : sK S l0 = 4) (hl3 : sK S l3 = 1) (hf : fX1_reckon (sL S) (sE S) fu l0 l1 l2 l3 D = some r) : F S D 0 [some (.ref l0), some (.int l1), some (.int l2), some (.ref l3), none, none, none] [] := by
  have hX := hR.X
  unfold fX1_reckon at hf
  refine ev_blk hX lkok_RX1 [(.iconst 0, 1, 0, 0, 0), (.istore 4, 2, 0, 0, 0), (.iconst 0, 1, 0, 0, 0), (.iload_n 1, 1, 0, 0, 0)] (by decide +kernel) (g := true) (lv' := [some (.ref l0), some (.int l1), some (.int l2), some (.ref l3), some (.int (0 : Int32)), none, none]) (st' := [.int l1, .int (0 : Int32)]) (D' := D) (pc' := 5) rfl (rfl) rfl ?_
  obtain ⟨v21, D21, hc21, hf⟩ := ev_bd_s hf
  refine ev_callS hX YJ9_max ml_RX1_49 (mJ9_max hT  hc21) (vs := [.int (0 : Int32), .int l1]) (st := []) (by decide) rfl rfl (by decide +kernel) hC ?_
  show F S D21 8 [some (.ref l0), some (.int l1), some (.int l2), some (.ref l3), some (.int (0 : Int32)), none, none] [.int v21]
  refine ev_blk hX lkok_RX1 [(.istore 5, 2, 0, 0, 0)] (by decide +kernel) (g := true) (lv' := [some (.ref l0), some (.int l1), some (.int l2), some (.ref l3), some (.int (0 : Int32)), some (.int v21), none]) (st' := []) (D' := D21) (pc' := 10) rfl (rfl) rfl ?_
  exact ev_weak hX (ev_le_eq (ev_le_no (ev_le_eq (ev_le_eq (ev_le_eq (ev_le_eq (ev_le_no ev_le_nil))))))) (tX1_reckon_10 hR hT hC   fu _ _ _ _ _ _ hl0 hl3 hf)
theorem mX1_reckon {S : ev_S} {fu : Nat} {r : Int32 × ev_D} (hT : ev_Ty S) {l0 : Nat} {l1 : Int32} {l2 : Int32} {l3 : Nat} {D : ev_D} (hl0 : sK S l0 = 4) (hl3 : sK S l3 = 1) (hf : fX1_reckon (sL S) (sE S) fu l0 l1 l2 l3 D = some r) : ev_M 1 0 0 yX1_reckon cX1_reckon 7 (some .int) [.ref l0, .int l1, .int l2, .ref l3] S D S r :=
  ev_met (ini := false) (plainFor_of_name (by decide)) (fun h => by cases h) rfl (Nat.le_of_ble_eq_true rfl) (fun F hR => tX1_reckon (S := ev_z S) hR hT ⟨Nat.le_refl 0, Nat.le_refl 0⟩ hl0 hl3 hf)
set_option maxHeartbeats 4000000 in
set_option maxRecDepth 100000 in
theorem tX1_lineFor_2 {S : ev_S} {fu : Nat} {r : Int32 × ev_D} {F : ev_Fr} (hR : ev_R RX1 cX1_lineFor 4 2 0 0 false (some .int) S r F) (hT : ev_Ty S) (hC : sC S ≤ 0 ∧ sA S ≤ 0) : ∀ (n : Nat) (l0 : Nat) (l1 : Int32) (l2 : Nat) (l3 : Int32) (D : ev_D), sK S l0 = 4 → sK S l2 = 1 → fX1_lineFor_2 (sL S) (sE S) fu n l0 l1 l2 l3 D = some r → F S D 2 [some (.ref l0), some (.int l1), some (.ref l2), some (.int l3)] [] := by
  have hX := hR.X
  intro n
  induction n with
  | zero =>
    intro l0 l1 l2 l3 D hl0 hl2 hf
    rw [fX1_lineFor_2] at hf
    cases hf
  | succ n ih =>
    intro l0 l1 l2 l3 D hl0 hl2 hf
    rw [fX1_lineFor_2] at hf
    refine ev_blk hX lkok_RX1 [(.iload_n 3, 1, 0, 0, 0), (.aload_n 0, 1, 0, 0, 0), (.getfield 11, 3, 1, 0, 0)] (by decide +kernel) (g := (sK S l0 == 4) && (true)) (lv' := [some (.ref l0), some (.int l1), some (.ref l2), some (.int l3)]) (st' := [.int (D l0 0), .int l3]) (D' := D) (pc' := 7) rfl (ev_gk hl0 (rfl)) rfl ?_
    refine ev_ic_ge hX (off := 62) 69 (by decide +kernel) (by decide) (fun h1 => ?_) (fun h1 => ?_)
    · have hf := ev_it h1 hf
      refine ev_blk hX lkok_RX1 [(.iconst (-1), 1, 0, 0, (-1))] (by decide +kernel) (g := true) (lv' := [some (.ref l0), some (.int l1), some (.ref l2), some (.int l3)]) (st' := [.int (-1 : Int32)]) (D' := D) (pc' := 70) rfl (rfl) rfl ?_
      exact ev_iret hR ev_sm.rf (Option.some.inj hf) hC (by decide +kernel)
    · have hf := ev_nf h1 hf
      refine ev_blk hX lkok_RX1 [(.iload_n 3, 1, 0, 0, 0), (.bipush 16, 2, 0, 0, 16)] (by decide +kernel) (g := true) (lv' := [some (.ref l0), some (.int l1), some (.ref l2), some (.int l3)]) (st' := [.int (16 : Int32), .int l3]) (D' := D) (pc' := 13) rfl (rfl) rfl ?_
      refine ev_ic_ge hX (off := 56) 69 (by decide +kernel) (by decide) (fun h2 => ?_) (fun h2 => ?_)
      · have hf := ev_it h2 hf
        refine ev_blk hX lkok_RX1 [(.iconst (-1), 1, 0, 0, (-1))] (by decide +kernel) (g := true) (lv' := [some (.ref l0), some (.int l1), some (.ref l2), some (.int l3)]) (st' := [.int (-1 : Int32)]) (D' := D) (pc' := 70) rfl (rfl) rfl ?_
        exact ev_iret hR ev_sm.rf (Option.some.inj hf) hC (by decide +kernel)
      · have hf := ev_nf h2 hf
        obtain ⟨hg11, hf⟩ := ev_gd_s hf
        refine ev_blk hX lkok_RX1 [(.aload_n 0, 1, 0, 0, 0), (.getfield 18, 3, 1, 2, 0), (.iload_n 3, 1, 0, 0, 0), (.iaload, 1, 0, 0, 0), (.iload_n 1, 1, 0, 0, 0)] (by decide +kernel) (g := (sK S l0 == 4) && ((sK S ((sE S) l0 2) == 1 && ev_in l3 ((sL S) ((sE S) l0 2))) && (true))) (lv' := [some (.ref l0), some (.int l1), some (.ref l2), some (.int l3)]) (st' := [.int l1, .int (D ((sE S) l0 2) (l3).toNatClampNeg)]) (D' := D) (pc' := 23) rfl (ev_gk hl0 (ev_gi (ev_tyk hT hl0 rfl rfl) hg11 (rfl))) rfl ?_
        refine ev_ic_ne hX (off := 40) 63 (by decide +kernel) (by decide) (fun h3 => ?_) (fun h3 => ?_)
        · have hf := ev_nf h3 hf
          refine ev_blk hX lkok_RX1 [(.iinc 3 1, 3, 0, 0, 1)] (by decide +kernel) (g := true) (lv' := [some (.ref l0), some (.int l1), some (.ref l2), some (.int (l3 + (1 : Int32)))]) (st' := []) (D' := D) (pc' := 66) rfl (rfl) rfl ?_
          refine ev_goto hX (off := (-64)) 2 (by decide +kernel) (by decide) ?_
          exact ev_weak hX (ev_le_eq (ev_le_eq (ev_le_eq (ev_le_eq ev_le_nil)))) (ih _ _ _ _ _ hl0 hl2 hf)
        · have hf := ev_it h3 hf
          obtain ⟨hg9, hf⟩ := ev_gd_s hf
          obtain ⟨hg10, hf⟩ := ev_gd_s hf
          refine ev_blk hX lkok_RX1 [(.aload_n 0, 1, 0, 0, 0), (.getfield 25, 3, 1, 4, 0), (.iload_n 3, 1, 0, 0, 0), (.iaload, 1, 0, 0, 0), (.aload_n 0, 1, 0, 0, 0), (.getfield 28, 3, 1, 5, 0), (.iload_n 3, 1, 0, 0, 0), (.iaload, 1, 0, 0, 0)] (by decide +kernel) (g := (sK S l0 == 4) && ((sK S ((sE S) l0 4) == 1 && ev_in l3 ((sL S) ((sE S) l0 4))) && ((sK S l0 == 4) && ((sK S ((sE S) l0 5) == 1 && ev_in l3 ((sL S) ((sE S) l0 5))) && (true))))) (lv' := [some (.ref l0), some (.int l1), some (.ref l2), some (.int l3)]) (st' := [.int (D ((sE S) l0 5) (l3).toNatClampNeg), .int (D ((sE S) l0 4) (l3).toNatClampNeg)]) (D' := D) (pc' := 38) rfl (ev_gk hl0 (ev_gi (ev_tyk hT hl0 rfl rfl) hg9 (ev_gk hl0 (ev_gi (ev_tyk hT hl0 rfl rfl) hg10 (rfl))))) rfl ?_
          refine ev_ic_eq hX (off := 23) 61 (by decide +kernel) (by decide) (fun h4 => ?_) (fun h4 => ?_)
          · have hf := ev_it h4 hf
            refine ev_blk hX lkok_RX1 [(.iload_n 3, 1, 0, 0, 0)] (by decide +kernel) (g := true) (lv' := [some (.ref l0), some (.int l1), some (.ref l2), some (.int l3)]) (st' := [.int l3]) (D' := D) (pc' := 62) rfl (rfl) rfl ?_
            exact ev_iret hR ev_sm.rf (Option.some.inj hf) hC (by decide +kernel)
          · have hf := ev_nf h4 hf
            obtain ⟨hg7, hf⟩ := ev_gd_s hf
            obtain ⟨hg8, hf⟩ := ev_gd_s hf
            refine ev_blk hX lkok_RX1 [(.aload_n 0, 1, 0, 0, 0), (.aload_n 0, 1, 0, 0, 0), (.getfield 25, 3, 1, 4, 0), (.iload_n 3, 1, 0, 0, 0), (.iaload, 1, 0, 0, 0), (.aload_n 0, 1, 0, 0, 0), (.getfield 28, 3, 1, 5, 0), (.iload_n 3, 1, 0, 0, 0), (.iaload, 1, 0, 0, 0), (.aload_n 2, 1, 0, 0, 0)] (by decide +kernel) (g := (sK S l0 == 4) && ((sK S ((sE S) l0 4) == 1 && ev_in l3 ((sL S) ((sE S) l0 4))) && ((sK S l0 == 4) && ((sK S ((sE S) l0 5) == 1 && ev_in l3 ((sL S) ((sE S) l0 5))) && (true))))) (lv' := [some (.ref l0), some (.int l1), some (.ref l2), some (.int l3)]) (st' := [.ref l2, .int (D ((sE S) l0 5) (l3).toNatClampNeg), .int (D ((sE S) l0 4) (l3).toNatClampNeg), .ref l0]) (D' := D) (pc' := 55) rfl (ev_gk hl0 (ev_gi (ev_tyk hT hl0 rfl rfl) hg7 (ev_gk hl0 (ev_gi (ev_tyk hT hl0 rfl rfl) hg8 (rfl))))) rfl ?_
            obtain ⟨v5, D5, hc5, hf⟩ := ev_bd_s hf
            refine ev_callV hX YX1_reckon ml_RX1_41 (mX1_reckon hT hl0 hl2 hc5) (vs := [.int (D ((sE S) l0 4) (l3).toNatClampNeg), .int (D ((sE S) l0 5) (l3).toNatClampNeg), .ref l2]) (st := []) (by decide) 1 hl0 rfl rfl rfl (by decide +kernel) hC ?_
            show F S D5 58 [some (.ref l0), some (.int l1), some (.ref l2), some (.int l3)] [.int v5]
            refine ev_if_eq hX (off := 5) 63 (by decide +kernel) (by decide) (fun h6 => ?_) (fun h6 => ?_)
            · have hf := ev_it h6 hf
              refine ev_blk hX lkok_RX1 [(.iinc 3 1, 3, 0, 0, 1)] (by decide +kernel) (g := true) (lv' := [some (.ref l0), some (.int l1), some (.ref l2), some (.int (l3 + (1 : Int32)))]) (st' := []) (D' := D5) (pc' := 66) rfl (rfl) rfl ?_
              refine ev_goto hX (off := (-64)) 2 (by decide +kernel) (by decide) ?_
              exact ev_weak hX (ev_le_eq (ev_le_eq (ev_le_eq (ev_le_eq ev_le_nil)))) (ih _ _ _ _ _ hl0 hl2 hf)
            · have hf := ev_nf h6 hf
              refine ev_blk hX lkok_RX1 [(.iload_n 3, 1, 0, 0, 0)] (by decide +kernel) (g := true) (lv' := [some (.ref l0), some (.int l1), some (.ref l2), some (.int l3)]) (st' := [.int l3]) (D' := D5) (pc' := 62) rfl (rfl) rfl ?_
              exact ev_iret hR ev_sm.rf (Option.some.inj hf) hC (by decide +kernel)
set_option maxHeartbeats 4000000 in
set_option maxRecDepth 100000 in
theorem tX1_lineFor {S : ev_S} {fu : Nat} {r : Int32 × ev_D} {F : ev_Fr} (hR : ev_R RX1 cX1_lineFor 4 2 0 0 false (some .int) S r F) (hT : ev_Ty S) (hC : sC S ≤ 0 ∧ sA S ≤ 0) {l0 : Nat} {l1 : Int32} {l2 : Nat} {D : ev_D} (hl0 : sK S l0 = 4) (hl2 : sK S l2 = 1) (hf : fX1_lineFor (sL S) (sE S) fu l0 l1 l2 D = some r) : F S D 0 [some (.ref l0), some (.int l1), some (.ref l2), none] [] := by
  have hX := hR.X
  unfold fX1_lineFor at hf
  refine ev_blk hX lkok_RX1 [(.iconst 0, 1, 0, 0, 0), (.istore_n 3, 1, 0, 0, 0)] (by decide +kernel) (g := true) (lv' := [some (.ref l0), some (.int l1), some (.ref l2), some (.int (0 : Int32))]) (st' := []) (D' := D) (pc' := 2) rfl (rfl) rfl ?_
  exact ev_weak hX (ev_le_eq (ev_le_eq (ev_le_eq (ev_le_eq ev_le_nil)))) (tX1_lineFor_2 hR hT hC   fu _ _ _ _ _ hl0 hl2 hf)
theorem mX1_lineFor {S : ev_S} {fu : Nat} {r : Int32 × ev_D} (hT : ev_Ty S) {l0 : Nat} {l1 : Int32} {l2 : Nat} {D : ev_D} (hl0 : sK S l0 = 4) (hl2 : sK S l2 = 1) (hf : fX1_lineFor (sL S) (sE S) fu l0 l1 l2 D = some r) : ev_M 2 0 0 yX1_lineFor cX1_lineFor 4 (some .int) [.ref l0, .int l1, .ref l2] S D S r :=
  ev_met (ini := false) (plainFor_of_name (by decide)) (fun h => by cases h) rfl (Nat.le_of_ble_eq_true rfl) (fun F hR => tX1_lineFor (S := ev_z S) hR hT ⟨Nat.le_refl 0, Nat.le_refl 0⟩ hl0 hl2 hf)
set_option maxHeartbeats 4000000 in
set_option maxRecDepth 100000 in
theorem tX1_worth {S : ev_S} {fu : Nat} {r : Int32 × ev_D} {F : ev_Fr} (hR : ev_R RX1 cX1_worth 3 2 0 0 false (some .int) S r F) (hT : ev_Ty S) (hC : sC S ≤ 0 ∧ sA S ≤ 0) {l0 : Nat} {l1 : Int32} {l2 : Nat} {D : ev_D} (hl0 : sK S l0 = 4) (hl2 : sK S l2 = 1) (hf : fX1_worth (sL S) (sE S) fu l0 l1 l2 D = some r) : F S D 0 [some (.ref l0), some (.int l1), some (.ref l2)] [] := by
  have hX := hR.X
  unfold fX1_worth at hf
  refine ev_blk hX lkok_RX1 [(.iload_n 1, 1, 0, 0, 0), (.iconst 0, 1, 0, 0, 0), (.bipush 15, 2, 0, 0, 15)] (by decide +kernel) (g := true) (lv' := [some (.ref l0), some (.int l1), some (.ref l2)]) (st' := [.int (15 : Int32), .int (0 : Int32), .int l1]) (D' := D) (pc' := 4) rfl (rfl) rfl ?_
  obtain ⟨v1, D1, hc1, hf⟩ := ev_bd_s hf
  refine ev_callSN hX YX11_within ml_RX1_45 (mX11_within hT  hc1) (vs := [.int l1, .int (0 : Int32), .int (15 : Int32)]) (st := []) (by decide) rfl rfl (by decide +kernel) hC ?_
  show F S D1 7 [some (.ref l0), some (.int l1), some (.ref l2)] [.int v1]
  refine ev_if_eq hX (off := 23) 30 (by decide +kernel) (by decide) (fun h2 => ?_) (fun h2 => ?_)
  · have hf := ev_it h2 hf
    refine ev_blk hX lkok_RX1 [(.iconst 0, 1, 0, 0, 0)] (by decide +kernel) (g := true) (lv' := [some (.ref l0), some (.int l1), some (.ref l2)]) (st' := [.int (0 : Int32)]) (D' := D1) (pc' := 31) rfl (rfl) rfl ?_
    exact ev_iret hR ev_sm.rf (Option.some.inj hf) hC (by decide +kernel)
  · have hf := ev_nf h2 hf
    obtain ⟨hg4, hf⟩ := ev_gd_s hf
    obtain ⟨hg5, hf⟩ := ev_gd_s hf
    refine ev_blk hX lkok_RX1 [(.aload_n 0, 1, 0, 0, 0), (.aload_n 0, 1, 0, 0, 0), (.getfield 22, 3, 1, 3, 0), (.iload_n 1, 1, 0, 0, 0), (.iaload, 1, 0, 0, 0), (.aload_n 0, 1, 0, 0, 0), (.getfield 25, 3, 1, 4, 0), (.iload_n 1, 1, 0, 0, 0), (.iaload, 1, 0, 0, 0), (.aload_n 2, 1, 0, 0, 0)] (by decide +kernel) (g := (sK S l0 == 4) && ((sK S ((sE S) l0 3) == 1 && ev_in l1 ((sL S) ((sE S) l0 3))) && ((sK S l0 == 4) && ((sK S ((sE S) l0 4) == 1 && ev_in l1 ((sL S) ((sE S) l0 4))) && (true))))) (lv' := [some (.ref l0), some (.int l1), some (.ref l2)]) (st' := [.ref l2, .int (D1 ((sE S) l0 4) (l1).toNatClampNeg), .int (D1 ((sE S) l0 3) (l1).toNatClampNeg), .ref l0]) (D' := D1) (pc' := 24) rfl (ev_gk hl0 (ev_gi (ev_tyk hT hl0 rfl rfl) hg4 (ev_gk hl0 (ev_gi (ev_tyk hT hl0 rfl rfl) hg5 (rfl))))) rfl ?_
    obtain ⟨v3, D3, hc3, hf⟩ := ev_bd_s hf
    refine ev_callV hX YX1_reckon ml_RX1_41 (mX1_reckon hT hl0 hl2 hc3) (vs := [.int (D1 ((sE S) l0 3) (l1).toNatClampNeg), .int (D1 ((sE S) l0 4) (l1).toNatClampNeg), .ref l2]) (st := []) (by decide) 1 hl0 rfl rfl rfl (by decide +kernel) hC ?_
    show F S D3 27 [some (.ref l0), some (.int l1), some (.ref l2)] [.int v3]
    refine ev_goto hX (off := 4) 31 (by decide +kernel) (by decide) ?_
    exact ev_iret hR ev_sm.rf (Option.some.inj hf) hC (by decide +kernel)
theorem mX1_worth {S : ev_S} {fu : Nat} {r : Int32 × ev_D} (hT : ev_Ty S) {l0 : Nat} {l1 : Int32} {l2 : Nat} {D : ev_D} (hl0 : sK S l0 = 4) (hl2 : sK S l2 = 1) (hf : fX1_worth (sL S) (sE S) fu l0 l1 l2 D = some r) : ev_M 2 0 0 yX1_worth cX1_worth 3 (some .int) [.ref l0, .int l1, .ref l2] S D S r :=
  ev_met (ini := false) (plainFor_of_name (by decide)) (fun h => by cases h) rfl (Nat.le_of_ble_eq_true rfl) (fun F hR => tX1_worth (S := ev_z S) hR hT ⟨Nat.le_refl 0, Nat.le_refl 0⟩ hl0 hl2 hf)
set_option maxHeartbeats 4000000 in
set_option maxRecDepth 100000 in
theorem tX5_fillValues_186 {S : ev_S} {fu : Nat} {r : Int32 × ev_D} {F : ev_Fr} (hR : ev_R RX5 cX5_fillValues 5 2 0 0 false none S r F) (hT : ev_Ty S) (hC : sC S ≤ 0 ∧ sA S ≤ 0) {l0 : Nat} {l2 : Int32} {D : ev_D} (hl0 : sK S l0 = 8) (hf : fX5_fillValues_186 (sL S) (sE S) fu l0 l2 D = some r) : F S D 186 [some (.ref l0), none, some (.int l2), none, none] [] := by
  have hX := hR.X
  unfold fX5_fillValues_186 at hf
  obtain ⟨hg4, hf⟩ := ev_gd_s hf
  refine ev_blk hX lkok_RX5 [(.aload_n 0, 1, 0, 0, 0), (.getfield 11, 3, 5, 3, 0), (.bipush 8, 2, 0, 0, 8), (.aload_n 0, 1, 0, 0, 0), (.getfield 17, 3, 5, 0, 0), (.getfield 85, 3, 9, 2, 0), (.iastore, 1, 0, 0, 0), (.aload_n 0, 1, 0, 0, 0), (.getfield 11, 3, 5, 3, 0), (.bipush 9, 2, 0, 0, 9), (.aload_n 0, 1, 0, 0, 0), (.getfield 17, 3, 5, 0, 0), (.getfield 88, 3, 9, 4, 0), (.bipush 24, 2, 0, 0, 24)] (by decide +kernel) (g := (sK S l0 == 8) && ((sK S l0 == 8) && ((sK S ((sE S) l0 0) == 12) && ((sK S ((sE S) l0 3) == 1 && ev_in (8 : Int32) ((sL S) ((sE S) l0 3))) && ((sK S l0 == 8) && ((sK S l0 == 8) && ((sK S ((sE S) l0 0) == 12) && (true)))))))) (lv' := [some (.ref l0), none, some (.int l2), none, none]) (st' := [.int (24 : Int32), .int ((ev_up D ((sE S) l0 3) ((8 : Int32)).toNatClampNeg (D ((sE S) l0 0) 2)) ((sE S) l0 0) 4), .int (9 : Int32), .ref ((sE S) l0 3)]) (D' := (ev_up D ((sE S) l0 3) ((8 : Int32)).toNatClampNeg (D ((sE S) l0 0) 2))) (pc' := 215) rfl (ev_gk hl0 (ev_gk hl0 (ev_gk (ev_tyk hT hl0 rfl rfl) (ev_gi (ev_tyk hT hl0 rfl rfl) hg4 (ev_gk hl0 (ev_gk hl0 (ev_gk (ev_tyk hT hl0 rfl rfl) (rfl)))))))) rfl ?_
  obtain ⟨v1, D1, hc1, hf⟩ := ev_bd_s hf
  refine ev_callS hX YJ9_floorMod ml_RX5_91 (mJ9_floorMod hT  hc1) (vs := [.int ((ev_up D ((sE S) l0 3) ((8 : Int32)).toNatClampNeg (D ((sE S) l0 0) 2)) ((sE S) l0 0) 4), .int (24 : Int32)]) (st := [.int (9 : Int32), .ref ((sE S) l0 3)]) (by decide) rfl rfl (by decide +kernel) hC ?_
  show F S D1 218 [some (.ref l0), none, some (.int l2), none, none] [.int v1, .int (9 : Int32), .ref ((sE S) l0 3)]
  obtain ⟨hg2, hf⟩ := ev_gd_s hf
  obtain ⟨hg3, hf⟩ := ev_gd_s hf
  refine ev_blk hX lkok_RX5 [(.iastore, 1, 0, 0, 0), (.aload_n 0, 1, 0, 0, 0), (.getfield 11, 3, 5, 3, 0), (.bipush 10, 2, 0, 0, 10), (.iload_n 2, 1, 0, 0, 0), (.iastore, 1, 0, 0, 0)] (by decide +kernel) (g := (sK S ((sE S) l0 3) == 1 && ev_in (9 : Int32) ((sL S) ((sE S) l0 3))) && ((sK S l0 == 8) && ((sK S ((sE S) l0 3) == 1 && ev_in (10 : Int32) ((sL S) ((sE S) l0 3))) && (true)))) (lv' := [some (.ref l0), none, some (.int l2), none, none]) (st' := []) (D' := (ev_up (ev_up D1 ((sE S) l0 3) ((9 : Int32)).toNatClampNeg v1) ((sE S) l0 3) ((10 : Int32)).toNatClampNeg l2)) (pc' := 227) rfl (ev_gi (ev_tyk hT hl0 rfl rfl) hg2 (ev_gk hl0 (ev_gi (ev_tyk hT hl0 rfl rfl) hg3 (rfl)))) rfl ?_
  exact ev_vret hR ev_sm.rf (Option.some.inj hf) hC (by decide +kernel)
set_option maxHeartbeats 4000000 in
set_option maxRecDepth 100000 in
theorem tX5_fillValues_157 {S : ev_S} {fu : Nat} {r : Int32 × ev_D} {F : ev_Fr} (hR : ev_R RX5 cX5_fillValues 5 2 0 0 false none S r F) (hT : ev_Ty S) (hC : sC S ≤ 0 ∧ sA S ≤ 0) {l0 : Nat} {l2 : Int32} {s0 : Nat} {s1 : Int32} {s2 : Int32} {D : ev_D} (hl0 : sK S l0 = 8) (hs0 : sK S s0 = 1) (hf : fX5_fillValues_157 (sL S) (sE S) fu l0 l2 s0 s1 s2 D = some r) : F S D 157 [some (.ref l0), none, some (.int l2), none, none] [.int s2, .int s1, .ref s0] := by
  have hX := hR.X
  unfold fX5_fillValues_157 at hf
  obtain ⟨hg5, hf⟩ := ev_gd_s hf
  obtain ⟨hg6, hf⟩ := ev_gd_s hf
  obtain ⟨hg7, hf⟩ := ev_gd_s hf
  refine ev_blk hX lkok_RX5 [(.iastore, 1, 0, 0, 0), (.aload_n 0, 1, 0, 0, 0), (.getfield 11, 3, 5, 3, 0), (.bipush 6, 2, 0, 0, 6), (.aload_n 0, 1, 0, 0, 0), (.getfield 17, 3, 5, 0, 0), (.getfield 78, 3, 9, 3, 0), (.iastore, 1, 0, 0, 0), (.aload_n 0, 1, 0, 0, 0), (.getfield 11, 3, 5, 3, 0), (.bipush 7, 2, 0, 0, 7), (.aload_n 0, 1, 0, 0, 0), (.getfield 17, 3, 5, 0, 0), (.getfield 82, 3, 9, 1, 0), (.iastore, 1, 0, 0, 0)] (by decide +kernel) (g := (sK S s0 == 1 && ev_in s1 ((sL S) s0)) && ((sK S l0 == 8) && ((sK S l0 == 8) && ((sK S ((sE S) l0 0) == 12) && ((sK S ((sE S) l0 3) == 1 && ev_in (6 : Int32) ((sL S) ((sE S) l0 3))) && ((sK S l0 == 8) && ((sK S l0 == 8) && ((sK S ((sE S) l0 0) == 12) && ((sK S ((sE S) l0 3) == 1 && ev_in (7 : Int32) ((sL S) ((sE S) l0 3))) && (true)))))))))) (lv' := [some (.ref l0), none, some (.int l2), none, none]) (st' := []) (D' := (ev_up (ev_up (ev_up D s0 (s1).toNatClampNeg s2) ((sE S) l0 3) ((6 : Int32)).toNatClampNeg ((ev_up D s0 (s1).toNatClampNeg s2) ((sE S) l0 0) 3)) ((sE S) l0 3) ((7 : Int32)).toNatClampNeg ((ev_up (ev_up D s0 (s1).toNatClampNeg s2) ((sE S) l0 3) ((6 : Int32)).toNatClampNeg ((ev_up D s0 (s1).toNatClampNeg s2) ((sE S) l0 0) 3)) ((sE S) l0 0) 1))) (pc' := 186) rfl (ev_gi hs0 hg5 (ev_gk hl0 (ev_gk hl0 (ev_gk (ev_tyk hT hl0 rfl rfl) (ev_gi (ev_tyk hT hl0 rfl rfl) hg6 (ev_gk hl0 (ev_gk hl0 (ev_gk (ev_tyk hT hl0 rfl rfl) (ev_gi (ev_tyk hT hl0 rfl rfl) hg7 (rfl)))))))))) rfl ?_
  exact ev_weak hX (ev_le_eq (ev_le_no (ev_le_eq (ev_le_no (ev_le_no ev_le_nil))))) (tX5_fillValues_186 hR hT hC   hl0 hf)
set_option maxHeartbeats 4000000 in
set_option maxRecDepth 100000 in
theorem tX5_fillValues_125 {S : ev_S} {fu : Nat} {r : Int32 × ev_D} {F : ev_Fr} (hR : ev_R RX5 cX5_fillValues 5 2 0 0 false none S r F) (hT : ev_Ty S) (hC : sC S ≤ 0 ∧ sA S ≤ 0) {l0 : Nat} {l2 : Int32} {l3 : Int32} {l4 : Int32} {s0 : Nat} {s1 : Int32} {s2 : Int32} {D : ev_D} (hl0 : sK S l0 = 8) (hs0 : sK S s0 = 1) (hf : fX5_fillValues_125 (sL S) (sE S) fu l0 l2 l3 l4 s0 s1 s2 D = some r) : F S D 125 [some (.ref l0), none, some (.int l2), some (.int l3), some (.int l4)] [.int s2, .int s1, .ref s0] := by
  have hX := hR.X
  unfold fX5_fillValues_125 at hf
  obtain ⟨hg10, hf⟩ := ev_gd_s hf
  obtain ⟨hg11, hf⟩ := ev_gd_s hf
  refine ev_blk hX lkok_RX5 [(.iastore, 1, 0, 0, 0), (.aload_n 0, 1, 0, 0, 0), (.getfield 11, 3, 5, 3, 0), (.iconst 4, 1, 0, 0, 4), (.iload 4, 2, 0, 0, 0), (.iastore, 1, 0, 0, 0), (.aload_n 0, 1, 0, 0, 0), (.getfield 11, 3, 5, 3, 0), (.iconst 5, 1, 0, 0, 5), (.iload_n 3, 1, 0, 0, 0)] (by decide +kernel) (g := (sK S s0 == 1 && ev_in s1 ((sL S) s0)) && ((sK S l0 == 8) && ((sK S ((sE S) l0 3) == 1 && ev_in (4 : Int32) ((sL S) ((sE S) l0 3))) && ((sK S l0 == 8) && (true))))) (lv' := [some (.ref l0), none, some (.int l2), some (.int l3), some (.int l4)]) (st' := [.int l3, .int (5 : Int32), .ref ((sE S) l0 3)]) (D' := (ev_up (ev_up D s0 (s1).toNatClampNeg s2) ((sE S) l0 3) ((4 : Int32)).toNatClampNeg l4)) (pc' := 140) rfl (ev_gi hs0 hg10 (ev_gk hl0 (ev_gi (ev_tyk hT hl0 rfl rfl) hg11 (ev_gk hl0 (rfl))))) rfl ?_
  refine ev_if_eq hX (off := 16) 156 (by decide +kernel) (by decide) (fun h8 => ?_) (fun h8 => ?_)
  · have hf := ev_it h8 hf
    refine ev_blk hX lkok_RX5 [(.iconst 0, 1, 0, 0, 0)] (by decide +kernel) (g := true) (lv' := [some (.ref l0), none, some (.int l2), some (.int l3), some (.int l4)]) (st' := [.int (0 : Int32), .int (5 : Int32), .ref ((sE S) l0 3)]) (D' := (ev_up (ev_up D s0 (s1).toNatClampNeg s2) ((sE S) l0 3) ((4 : Int32)).toNatClampNeg l4)) (pc' := 157) rfl (rfl) rfl ?_
    exact ev_weak hX (ev_le_eq (ev_le_no (ev_le_eq (ev_le_no (ev_le_no ev_le_nil))))) (tX5_fillValues_157 hR hT hC   hl0 (ev_tyk hT hl0 rfl rfl) hf)
  · have hf := ev_nf h8 hf
    obtain ⟨hg9, hf⟩ := ev_gd_s hf
    refine ev_blk hX lkok_RX5 [(.aload_n 0, 1, 0, 0, 0), (.getfield 17, 3, 5, 0, 0), (.getfield 75, 3, 9, 7, 0), (.iload 4, 2, 0, 0, 0), (.iaload, 1, 0, 0, 0)] (by decide +kernel) (g := (sK S l0 == 8) && ((sK S ((sE S) l0 0) == 12) && ((sK S ((sE S) ((sE S) l0 0) 7) == 1 && ev_in l4 ((sL S) ((sE S) ((sE S) l0 0) 7))) && (true)))) (lv' := [some (.ref l0), none, some (.int l2), some (.int l3), some (.int l4)]) (st' := [.int ((ev_up (ev_up D s0 (s1).toNatClampNeg s2) ((sE S) l0 3) ((4 : Int32)).toNatClampNeg l4) ((sE S) ((sE S) l0 0) 7) (l4).toNatClampNeg), .int (5 : Int32), .ref ((sE S) l0 3)]) (D' := (ev_up (ev_up D s0 (s1).toNatClampNeg s2) ((sE S) l0 3) ((4 : Int32)).toNatClampNeg l4)) (pc' := 153) rfl (ev_gk hl0 (ev_gk (ev_tyk hT hl0 rfl rfl) (ev_gi (ev_tyk hT (ev_tyk hT hl0 rfl rfl) rfl rfl) hg9 (rfl)))) rfl ?_
    refine ev_goto hX (off := 4) 157 (by decide +kernel) (by decide) ?_
    exact ev_weak hX (ev_le_eq (ev_le_no (ev_le_eq (ev_le_no (ev_le_no ev_le_nil))))) (tX5_fillValues_157 hR hT hC   hl0 (ev_tyk hT hl0 rfl rfl) hf)
set_option maxHeartbeats 4000000 in
set_option maxRecDepth 100000 in
theorem tX5_fillValues_102 {S : ev_S} {fu : Nat} {r : Int32 × ev_D} {F : ev_Fr} (hR : ev_R RX5 cX5_fillValues 5 2 0 0 false none S r F) (hT : ev_Ty S) (hC : sC S ≤ 0 ∧ sA S ≤ 0) {l0 : Nat} {l1 : Int32} {l2 : Int32} {l3 : Int32} {l4 : Int32} {s0 : Nat} {s1 : Int32} {s2 : Int32} {D : ev_D} (hl0 : sK S l0 = 8) (hs0 : sK S s0 = 1) (hf : fX5_fillValues_102 (sL S) (sE S) fu l0 l1 l2 l3 l4 s0 s1 s2 D = some r) : F S D 102 [some (.ref l0), some (.int l1), some (.int l2), some (.int l3), some (.int l4)] [.int s2, .int s1, .ref s0] := by
  have hX := hR.X
  unfold fX5_fillValues_102 at hf
  obtain ⟨hg14, hf⟩ := ev_gd_s hf
  refine ev_blk hX lkok_RX5 [(.iastore, 1, 0, 0, 0), (.aload_n 0, 1, 0, 0, 0), (.getfield 11, 3, 5, 3, 0), (.iconst 3, 1, 0, 0, 3), (.iload_n 3, 1, 0, 0, 0)] (by decide +kernel) (g := (sK S s0 == 1 && ev_in s1 ((sL S) s0)) && ((sK S l0 == 8) && (true))) (lv' := [some (.ref l0), some (.int l1), some (.int l2), some (.int l3), some (.int l4)]) (st' := [.int l3, .int (3 : Int32), .ref ((sE S) l0 3)]) (D' := (ev_up D s0 (s1).toNatClampNeg s2)) (pc' := 109) rfl (ev_gi hs0 hg14 (ev_gk hl0 (rfl))) rfl ?_
  refine ev_if_eq hX (off := 15) 124 (by decide +kernel) (by decide) (fun h12 => ?_) (fun h12 => ?_)
  · have hf := ev_it h12 hf
    refine ev_blk hX lkok_RX5 [(.iconst 0, 1, 0, 0, 0)] (by decide +kernel) (g := true) (lv' := [some (.ref l0), some (.int l1), some (.int l2), some (.int l3), some (.int l4)]) (st' := [.int (0 : Int32), .int (3 : Int32), .ref ((sE S) l0 3)]) (D' := (ev_up D s0 (s1).toNatClampNeg s2)) (pc' := 125) rfl (rfl) rfl ?_
    exact ev_weak hX (ev_le_eq (ev_le_no (ev_le_eq (ev_le_eq (ev_le_eq ev_le_nil))))) (tX5_fillValues_125 hR hT hC   hl0 (ev_tyk hT hl0 rfl rfl) hf)
  · have hf := ev_nf h12 hf
    obtain ⟨hg13, hf⟩ := ev_gd_s hf
    refine ev_blk hX lkok_RX5 [(.aload_n 0, 1, 0, 0, 0), (.getfield 17, 3, 5, 0, 0), (.getfield 72, 3, 9, 13, 0), (.iload_n 1, 1, 0, 0, 0), (.iaload, 1, 0, 0, 0)] (by decide +kernel) (g := (sK S l0 == 8) && ((sK S ((sE S) l0 0) == 12) && ((sK S ((sE S) ((sE S) l0 0) 13) == 1 && ev_in l1 ((sL S) ((sE S) ((sE S) l0 0) 13))) && (true)))) (lv' := [some (.ref l0), some (.int l1), some (.int l2), some (.int l3), some (.int l4)]) (st' := [.int ((ev_up D s0 (s1).toNatClampNeg s2) ((sE S) ((sE S) l0 0) 13) (l1).toNatClampNeg), .int (3 : Int32), .ref ((sE S) l0 3)]) (D' := (ev_up D s0 (s1).toNatClampNeg s2)) (pc' := 121) rfl (ev_gk hl0 (ev_gk (ev_tyk hT hl0 rfl rfl) (ev_gi (ev_tyk hT (ev_tyk hT hl0 rfl rfl) rfl rfl) hg13 (rfl)))) rfl ?_
    refine ev_goto hX (off := 4) 125 (by decide +kernel) (by decide) ?_
    exact ev_weak hX (ev_le_eq (ev_le_no (ev_le_eq (ev_le_eq (ev_le_eq ev_le_nil))))) (tX5_fillValues_125 hR hT hC   hl0 (ev_tyk hT hl0 rfl rfl) hf)
set_option maxHeartbeats 4000000 in
set_option maxRecDepth 100000 in
theorem tX5_fillValues_79 {S : ev_S} {fu : Nat} {r : Int32 × ev_D} {F : ev_Fr} (hR : ev_R RX5 cX5_fillValues 5 2 0 0 false none S r F) (hT : ev_Ty S) (hC : sC S ≤ 0 ∧ sA S ≤ 0) {l0 : Nat} {l1 : Int32} {l2 : Int32} {l3 : Int32} {l4 : Int32} {s0 : Nat} {s1 : Int32} {s2 : Int32} {D : ev_D} (hl0 : sK S l0 = 8) (hs0 : sK S s0 = 1) (hf : fX5_fillValues_79 (sL S) (sE S) fu l0 l1 l2 l3 l4 s0 s1 s2 D = some r) : F S D 79 [some (.ref l0), some (.int l1), some (.int l2), some (.int l3), some (.int l4)] [.int s2, .int s1, .ref s0] := by
  have hX := hR.X
  unfold fX5_fillValues_79 at hf
  obtain ⟨hg17, hf⟩ := ev_gd_s hf
  refine ev_blk hX lkok_RX5 [(.iastore, 1, 0, 0, 0), (.aload_n 0, 1, 0, 0, 0), (.getfield 11, 3, 5, 3, 0), (.iconst 2, 1, 0, 0, 2), (.iload_n 3, 1, 0, 0, 0)] (by decide +kernel) (g := (sK S s0 == 1 && ev_in s1 ((sL S) s0)) && ((sK S l0 == 8) && (true))) (lv' := [some (.ref l0), some (.int l1), some (.int l2), some (.int l3), some (.int l4)]) (st' := [.int l3, .int (2 : Int32), .ref ((sE S) l0 3)]) (D' := (ev_up D s0 (s1).toNatClampNeg s2)) (pc' := 86) rfl (ev_gi hs0 hg17 (ev_gk hl0 (rfl))) rfl ?_
  refine ev_if_eq hX (off := 15) 101 (by decide +kernel) (by decide) (fun h15 => ?_) (fun h15 => ?_)
  · have hf := ev_it h15 hf
    refine ev_blk hX lkok_RX5 [(.iconst 0, 1, 0, 0, 0)] (by decide +kernel) (g := true) (lv' := [some (.ref l0), some (.int l1), some (.int l2), some (.int l3), some (.int l4)]) (st' := [.int (0 : Int32), .int (2 : Int32), .ref ((sE S) l0 3)]) (D' := (ev_up D s0 (s1).toNatClampNeg s2)) (pc' := 102) rfl (rfl) rfl ?_
    exact ev_weak hX (ev_le_eq (ev_le_eq (ev_le_eq (ev_le_eq (ev_le_eq ev_le_nil))))) (tX5_fillValues_102 hR hT hC   hl0 (ev_tyk hT hl0 rfl rfl) hf)
  · have hf := ev_nf h15 hf
    obtain ⟨hg16, hf⟩ := ev_gd_s hf
    refine ev_blk hX lkok_RX5 [(.aload_n 0, 1, 0, 0, 0), (.getfield 17, 3, 5, 0, 0), (.getfield 69, 3, 9, 12, 0), (.iload_n 1, 1, 0, 0, 0), (.iaload, 1, 0, 0, 0)] (by decide +kernel) (g := (sK S l0 == 8) && ((sK S ((sE S) l0 0) == 12) && ((sK S ((sE S) ((sE S) l0 0) 12) == 1 && ev_in l1 ((sL S) ((sE S) ((sE S) l0 0) 12))) && (true)))) (lv' := [some (.ref l0), some (.int l1), some (.int l2), some (.int l3), some (.int l4)]) (st' := [.int ((ev_up D s0 (s1).toNatClampNeg s2) ((sE S) ((sE S) l0 0) 12) (l1).toNatClampNeg), .int (2 : Int32), .ref ((sE S) l0 3)]) (D' := (ev_up D s0 (s1).toNatClampNeg s2)) (pc' := 98) rfl (ev_gk hl0 (ev_gk (ev_tyk hT hl0 rfl rfl) (ev_gi (ev_tyk hT (ev_tyk hT hl0 rfl rfl) rfl rfl) hg16 (rfl)))) rfl ?_
    refine ev_goto hX (off := 4) 102 (by decide +kernel) (by decide) ?_
    exact ev_weak hX (ev_le_eq (ev_le_eq (ev_le_eq (ev_le_eq (ev_le_eq ev_le_nil))))) (tX5_fillValues_102 hR hT hC   hl0 (ev_tyk hT hl0 rfl rfl) hf)
set_option maxHeartbeats 4000000 in
set_option maxRecDepth 100000 in
theorem tX5_fillValues_56 {S : ev_S} {fu : Nat} {r : Int32 × ev_D} {F : ev_Fr} (hR : ev_R RX5 cX5_fillValues 5 2 0 0 false none S r F) (hT : ev_Ty S) (hC : sC S ≤ 0 ∧ sA S ≤ 0) {l0 : Nat} {l1 : Int32} {l2 : Int32} {l3 : Int32} {l4 : Int32} {s0 : Nat} {s1 : Int32} {s2 : Int32} {D : ev_D} (hl0 : sK S l0 = 8) (hs0 : sK S s0 = 1) (hf : fX5_fillValues_56 (sL S) (sE S) fu l0 l1 l2 l3 l4 s0 s1 s2 D = some r) : F S D 56 [some (.ref l0), some (.int l1), some (.int l2), some (.int l3), some (.int l4)] [.int s2, .int s1, .ref s0] := by
  have hX := hR.X
  unfold fX5_fillValues_56 at hf
  obtain ⟨hg20, hf⟩ := ev_gd_s hf
  refine ev_blk hX lkok_RX5 [(.iastore, 1, 0, 0, 0), (.aload_n 0, 1, 0, 0, 0), (.getfield 11, 3, 5, 3, 0), (.iconst 1, 1, 0, 0, 1), (.iload_n 3, 1, 0, 0, 0)] (by decide +kernel) (g := (sK S s0 == 1 && ev_in s1 ((sL S) s0)) && ((sK S l0 == 8) && (true))) (lv' := [some (.ref l0), some (.int l1), some (.int l2), some (.int l3), some (.int l4)]) (st' := [.int l3, .int (1 : Int32), .ref ((sE S) l0 3)]) (D' := (ev_up D s0 (s1).toNatClampNeg s2)) (pc' := 63) rfl (ev_gi hs0 hg20 (ev_gk hl0 (rfl))) rfl ?_
  refine ev_if_eq hX (off := 15) 78 (by decide +kernel) (by decide) (fun h18 => ?_) (fun h18 => ?_)
  · have hf := ev_it h18 hf
    refine ev_blk hX lkok_RX5 [(.iconst 0, 1, 0, 0, 0)] (by decide +kernel) (g := true) (lv' := [some (.ref l0), some (.int l1), some (.int l2), some (.int l3), some (.int l4)]) (st' := [.int (0 : Int32), .int (1 : Int32), .ref ((sE S) l0 3)]) (D' := (ev_up D s0 (s1).toNatClampNeg s2)) (pc' := 79) rfl (rfl) rfl ?_
    exact ev_weak hX (ev_le_eq (ev_le_eq (ev_le_eq (ev_le_eq (ev_le_eq ev_le_nil))))) (tX5_fillValues_79 hR hT hC   hl0 (ev_tyk hT hl0 rfl rfl) hf)
  · have hf := ev_nf h18 hf
    obtain ⟨hg19, hf⟩ := ev_gd_s hf
    refine ev_blk hX lkok_RX5 [(.aload_n 0, 1, 0, 0, 0), (.getfield 17, 3, 5, 0, 0), (.getfield 66, 3, 9, 11, 0), (.iload_n 1, 1, 0, 0, 0), (.iaload, 1, 0, 0, 0)] (by decide +kernel) (g := (sK S l0 == 8) && ((sK S ((sE S) l0 0) == 12) && ((sK S ((sE S) ((sE S) l0 0) 11) == 1 && ev_in l1 ((sL S) ((sE S) ((sE S) l0 0) 11))) && (true)))) (lv' := [some (.ref l0), some (.int l1), some (.int l2), some (.int l3), some (.int l4)]) (st' := [.int ((ev_up D s0 (s1).toNatClampNeg s2) ((sE S) ((sE S) l0 0) 11) (l1).toNatClampNeg), .int (1 : Int32), .ref ((sE S) l0 3)]) (D' := (ev_up D s0 (s1).toNatClampNeg s2)) (pc' := 75) rfl (ev_gk hl0 (ev_gk (ev_tyk hT hl0 rfl rfl) (ev_gi (ev_tyk hT (ev_tyk hT hl0 rfl rfl) rfl rfl) hg19 (rfl)))) rfl ?_
    refine ev_goto hX (off := 4) 79 (by decide +kernel) (by decide) ?_
    exact ev_weak hX (ev_le_eq (ev_le_eq (ev_le_eq (ev_le_eq (ev_le_eq ev_le_nil))))) (tX5_fillValues_79 hR hT hC   hl0 (ev_tyk hT hl0 rfl rfl) hf)
set_option maxHeartbeats 4000000 in
set_option maxRecDepth 100000 in
theorem tX5_fillValues_32 {S : ev_S} {fu : Nat} {r : Int32 × ev_D} {F : ev_Fr} (hR : ev_R RX5 cX5_fillValues 5 2 0 0 false none S r F) (hT : ev_Ty S) (hC : sC S ≤ 0 ∧ sA S ≤ 0) {l0 : Nat} {l1 : Int32} {l2 : Int32} {l3 : Int32} {s0 : Int32} {D : ev_D} (hl0 : sK S l0 = 8) (hf : fX5_fillValues_32 (sL S) (sE S) fu l0 l1 l2 l3 s0 D = some r) : F S D 32 [some (.ref l0), some (.int l1), some (.int l2), some (.int l3), none] [.int s0] := by
  have hX := hR.X
  unfold fX5_fillValues_32 at hf
  refine ev_blk hX lkok_RX5 [(.istore 4, 2, 0, 0, 0), (.aload_n 0, 1, 0, 0, 0), (.getfield 11, 3, 5, 3, 0), (.iconst 0, 1, 0, 0, 0), (.iload_n 3, 1, 0, 0, 0)] (by decide +kernel) (g := (sK S l0 == 8) && (true)) (lv' := [some (.ref l0), some (.int l1), some (.int l2), some (.int l3), some (.int s0)]) (st' := [.int l3, .int (0 : Int32), .ref ((sE S) l0 3)]) (D' := D) (pc' := 40) rfl (ev_gk hl0 (rfl)) rfl ?_
  refine ev_if_eq hX (off := 15) 55 (by decide +kernel) (by decide) (fun h21 => ?_) (fun h21 => ?_)
  · have hf := ev_it h21 hf
    refine ev_blk hX lkok_RX5 [(.iconst 0, 1, 0, 0, 0)] (by decide +kernel) (g := true) (lv' := [some (.ref l0), some (.int l1), some (.int l2), some (.int l3), some (.int s0)]) (st' := [.int (0 : Int32), .int (0 : Int32), .ref ((sE S) l0 3)]) (D' := D) (pc' := 56) rfl (rfl) rfl ?_
    exact ev_weak hX (ev_le_eq (ev_le_eq (ev_le_eq (ev_le_eq (ev_le_eq ev_le_nil))))) (tX5_fillValues_56 hR hT hC   hl0 (ev_tyk hT hl0 rfl rfl) hf)
  · have hf := ev_nf h21 hf
    obtain ⟨hg22, hf⟩ := ev_gd_s hf
    refine ev_blk hX lkok_RX5 [(.aload_n 0, 1, 0, 0, 0), (.getfield 17, 3, 5, 0, 0), (.getfield 63, 3, 9, 10, 0), (.iload_n 1, 1, 0, 0, 0), (.iaload, 1, 0, 0, 0)] (by decide +kernel) (g := (sK S l0 == 8) && ((sK S ((sE S) l0 0) == 12) && ((sK S ((sE S) ((sE S) l0 0) 10) == 1 && ev_in l1 ((sL S) ((sE S) ((sE S) l0 0) 10))) && (true)))) (lv' := [some (.ref l0), some (.int l1), some (.int l2), some (.int l3), some (.int s0)]) (st' := [.int (D ((sE S) ((sE S) l0 0) 10) (l1).toNatClampNeg), .int (0 : Int32), .ref ((sE S) l0 3)]) (D' := D) (pc' := 52) rfl (ev_gk hl0 (ev_gk (ev_tyk hT hl0 rfl rfl) (ev_gi (ev_tyk hT (ev_tyk hT hl0 rfl rfl) rfl rfl) hg22 (rfl)))) rfl ?_
    refine ev_goto hX (off := 4) 56 (by decide +kernel) (by decide) ?_
    exact ev_weak hX (ev_le_eq (ev_le_eq (ev_le_eq (ev_le_eq (ev_le_eq ev_le_nil))))) (tX5_fillValues_56 hR hT hC   hl0 (ev_tyk hT hl0 rfl rfl) hf)
set_option maxHeartbeats 4000000 in
set_option maxRecDepth 100000 in
theorem tX5_fillValues {S : ev_S} {fu : Nat} {r : Int32 × ev_D} {F : ev_Fr} (hR : ev_R RX5 cX5_fillValues 5 2 0 0 false none S r F) (hT : ev_Ty S) (hC : sC S ≤ 0 ∧ sA S ≤ 0) {l0 : Nat} {l1 : Int32} {l2 : Int32} {D : ev_D} (hl0 : sK S l0 = 8) (hf : fX5_fillValues (sL S) (sE S) fu l0 l1 l2 D = some r) : F S D 0 [some (.ref l0), some (.int l1), some (.int l2), none, none] [] := by
  have hX := hR.X
  unfold fX5_fillValues at hf
  refine ev_blk hX lkok_RX5 [(.aload_n 0, 1, 0, 0, 0), (.getfield 17, 3, 5, 0, 0), (.iload_n 1, 1, 0, 0, 0)] (by decide +kernel) (g := (sK S l0 == 8) && (true)) (lv' := [some (.ref l0), some (.int l1), some (.int l2), none, none]) (st' := [.int l1, .ref ((sE S) l0 0)]) (D' := D) (pc' := 5) rfl (ev_gk hl0 (rfl)) rfl ?_
  obtain ⟨v23, D23, hc23, hf⟩ := ev_bd_s hf
  refine ev_callV hX YX9_has ml_RX5_54 (mX9_has hT (ev_tyk hT hl0 rfl rfl) hc23) (vs := [.int l1]) (st := []) (by decide) 9 (ev_tyk hT hl0 rfl rfl) rfl rfl rfl (by decide +kernel) hC ?_
  show F S D23 8 [some (.ref l0), some (.int l1), some (.int l2), none, none] [.int v23]
  refine ev_blk hX lkok_RX5 [(.istore_n 3, 1, 0, 0, 0), (.iload_n 3, 1, 0, 0, 0)] (by decide +kernel) (g := true) (lv' := [some (.ref l0), some (.int l1), some (.int l2), some (.int v23), none]) (st' := [.int v23]) (D' := D23) (pc' := 10) rfl (rfl) rfl ?_
  refine ev_if_eq hX (off := 21) 31 (by decide +kernel) (by decide) (fun h24 => ?_) (fun h24 => ?_)
  · have hf := ev_it h24 hf
    refine ev_blk hX lkok_RX5 [(.iconst 0, 1, 0, 0, 0)] (by decide +kernel) (g := true) (lv' := [some (.ref l0), some (.int l1), some (.int l2), some (.int v23), none]) (st' := [.int (0 : Int32)]) (D' := D23) (pc' := 32) rfl (rfl) rfl ?_
    exact ev_weak hX (ev_le_eq (ev_le_eq (ev_le_eq (ev_le_eq (ev_le_no ev_le_nil))))) (tX5_fillValues_32 hR hT hC   hl0 hf)
  · have hf := ev_nf h24 hf
    obtain ⟨hg26, hf⟩ := ev_gd_s hf
    refine ev_blk hX lkok_RX5 [(.aload_n 0, 1, 0, 0, 0), (.getfield 17, 3, 5, 0, 0), (.getfield 60, 3, 9, 9, 0), (.iload_n 1, 1, 0, 0, 0), (.iaload, 1, 0, 0, 0), (.iconst 0, 1, 0, 0, 0), (.bipush 7, 2, 0, 0, 7)] (by decide +kernel) (g := (sK S l0 == 8) && ((sK S ((sE S) l0 0) == 12) && ((sK S ((sE S) ((sE S) l0 0) 9) == 1 && ev_in l1 ((sL S) ((sE S) ((sE S) l0 0) 9))) && (true)))) (lv' := [some (.ref l0), some (.int l1), some (.int l2), some (.int v23), none]) (st' := [.int (7 : Int32), .int (0 : Int32), .int (D23 ((sE S) ((sE S) l0 0) 9) (l1).toNatClampNeg)]) (D' := D23) (pc' := 25) rfl (ev_gk hl0 (ev_gk (ev_tyk hT hl0 rfl rfl) (ev_gi (ev_tyk hT (ev_tyk hT hl0 rfl rfl) rfl rfl) hg26 (rfl)))) rfl ?_
    obtain ⟨v25, D25, hc25, hf⟩ := ev_bd_s hf
    refine ev_callSN hX YX11_held ml_RX5_50 (mX11_held hT  hc25) (vs := [.int (D23 ((sE S) ((sE S) l0 0) 9) (l1).toNatClampNeg), .int (0 : Int32), .int (7 : Int32)]) (st := []) (by decide) rfl rfl (by decide +kernel) hC ?_
    show F S D25 28 [some (.ref l0), some (.int l1), some (.int l2), some (.int v23), none] [.int v25]
    refine ev_goto hX (off := 4) 32 (by decide +kernel) (by decide) ?_
    exact ev_weak hX (ev_le_eq (ev_le_eq (ev_le_eq (ev_le_eq (ev_le_no ev_le_nil))))) (tX5_fillValues_32 hR hT hC   hl0 hf)
theorem mX5_fillValues {S : ev_S} {fu : Nat} {r : Int32 × ev_D} (hT : ev_Ty S) {l0 : Nat} {l1 : Int32} {l2 : Int32} {D : ev_D} (hl0 : sK S l0 = 8) (hf : fX5_fillValues (sL S) (sE S) fu l0 l1 l2 D = some r) : ev_M 2 0 0 yX5_fillValues cX5_fillValues 5 none [.ref l0, .int l1, .int l2] S D S r :=
  ev_met (ini := false) (plainFor_of_name (by decide)) (fun h => by cases h) rfl (Nat.le_of_ble_eq_true rfl) (fun F hR => tX5_fillValues (S := ev_z S) hR hT ⟨Nat.le_refl 0, Nat.le_refl 0⟩ hl0 hf)
set_option maxHeartbeats 4000000 in
set_option maxRecDepth 100000 in
theorem tX5_usual {S : ev_S} {fu : Nat} {r : Int32 × ev_D} {F : ev_Fr} (hR : ev_R RX5 cX5_usual 3 1 0 0 false (some .int) S r F) (hT : ev_Ty S) (hC : sC S ≤ 0 ∧ sA S ≤ 0) {l0 : Nat} {l1 : Int32} {l2 : Int32} {D : ev_D} (hl0 : sK S l0 = 8) (hf : fX5_usual (sL S) (sE S) fu l0 l1 l2 D = some r) : F S D 0 [some (.ref l0), some (.int l1), some (.int l2)] [] := by
  have hX := hR.X
  unfold fX5_usual at hf
  refine ev_blk hX lkok_RX5 [(.iload_n 1, 1, 0, 0, 0), (.iconst 2, 1, 0, 0, 2)] (by decide +kernel) (g := true) (lv' := [some (.ref l0), some (.int l1), some (.int l2)]) (st' := [.int (2 : Int32), .int l1]) (D' := D) (pc' := 2) rfl (rfl) rfl ?_
  refine ev_ic_eq hX (off := 14) 16 (by decide +kernel) (by decide) (fun h1 => ?_) (fun h1 => ?_)
  · have hf := ev_it h1 hf
    refine ev_blk hX lkok_RX5 [(.aload_n 0, 1, 0, 0, 0), (.getfield 17, 3, 5, 0, 0), (.getfield 78, 3, 9, 3, 0), (.iconst 4, 1, 0, 0, 4), (.idiv, 1, 0, 0, 0)] (by decide +kernel) (g := (sK S l0 == 8) && ((sK S ((sE S) l0 0) == 12) && ((!(decide ((4 : Int32) = 0))) && (true)))) (lv' := [some (.ref l0), some (.int l1), some (.int l2)]) (st' := [.int ((D ((sE S) l0 0) 3) / (4 : Int32))]) (D' := D) (pc' := 25) rfl (ev_gk hl0 (ev_gk (ev_tyk hT hl0 rfl rfl) (ev_g2 rfl (rfl)))) rfl ?_
    exact ev_iret hR ev_sm.rf (Option.some.inj hf) hC (by decide +kernel)
  · have hf := ev_nf h1 hf
    refine ev_blk hX lkok_RX5 [(.aload_n 0, 1, 0, 0, 0), (.getfield 17, 3, 5, 0, 0), (.iload_n 2, 1, 0, 0, 0)] (by decide +kernel) (g := (sK S l0 == 8) && (true)) (lv' := [some (.ref l0), some (.int l1), some (.int l2)]) (st' := [.int l2, .ref ((sE S) l0 0)]) (D' := D) (pc' := 10) rfl (ev_gk hl0 (rfl)) rfl ?_
    obtain ⟨v2, D2, hc2, hf⟩ := ev_bd_s hf
    refine ev_callV hX YX9_has ml_RX5_54 (mX9_has hT (ev_tyk hT hl0 rfl rfl) hc2) (vs := [.int l2]) (st := []) (by decide) 9 (ev_tyk hT hl0 rfl rfl) rfl rfl rfl (by decide +kernel) hC ?_
    show F S D2 13 [some (.ref l0), some (.int l1), some (.int l2)] [.int v2]
    refine ev_if_ne hX (off := 13) 26 (by decide +kernel) (by decide) (fun h3 => ?_) (fun h3 => ?_)
    · have hf := ev_nf h3 hf
      refine ev_blk hX lkok_RX5 [(.iload_n 1, 1, 0, 0, 0), (.iconst 1, 1, 0, 0, 1)] (by decide +kernel) (g := true) (lv' := [some (.ref l0), some (.int l1), some (.int l2)]) (st' := [.int (1 : Int32), .int l1]) (D' := D2) (pc' := 28) rfl (rfl) rfl ?_
      refine ev_ic_ne hX (off := 17) 45 (by decide +kernel) (by decide) (fun h4 => ?_) (fun h4 => ?_)
      · have hf := ev_nf h4 hf
        obtain ⟨hg5, hf⟩ := ev_gd_s hf
        refine ev_blk hX lkok_RX5 [(.bipush 100, 2, 0, 0, 100), (.bipush 9, 2, 0, 0, 9), (.aload_n 0, 1, 0, 0, 0), (.getfield 17, 3, 5, 0, 0), (.getfield 69, 3, 9, 12, 0), (.iload_n 2, 1, 0, 0, 0), (.iaload, 1, 0, 0, 0), (.imul, 1, 0, 0, 0), (.iadd, 1, 0, 0, 0), (.iconst 5, 1, 0, 0, 5), (.aload_n 0, 1, 0, 0, 0), (.getfield 17, 3, 5, 0, 0), (.getfield 82, 3, 9, 1, 0), (.imul, 1, 0, 0, 0), (.iadd, 1, 0, 0, 0)] (by decide +kernel) (g := (sK S l0 == 8) && ((sK S ((sE S) l0 0) == 12) && ((sK S ((sE S) ((sE S) l0 0) 12) == 1 && ev_in l2 ((sL S) ((sE S) ((sE S) l0 0) 12))) && ((sK S l0 == 8) && ((sK S ((sE S) l0 0) == 12) && (true)))))) (lv' := [some (.ref l0), some (.int l1), some (.int l2)]) (st' := [.int (((100 : Int32) + ((9 : Int32) * (D2 ((sE S) ((sE S) l0 0) 12) (l2).toNatClampNeg))) + ((5 : Int32) * (D2 ((sE S) l0 0) 1)))]) (D' := D2) (pc' := 70) rfl (ev_gk hl0 (ev_gk (ev_tyk hT hl0 rfl rfl) (ev_gi (ev_tyk hT (ev_tyk hT hl0 rfl rfl) rfl rfl) hg5 (ev_gk hl0 (ev_gk (ev_tyk hT hl0 rfl rfl) (rfl)))))) rfl ?_
        exact ev_iret hR ev_sm.rf (Option.some.inj hf) hC (by decide +kernel)
      · have hf := ev_it h4 hf
        obtain ⟨hg6, hf⟩ := ev_gd_s hf
        refine ev_blk hX lkok_RX5 [(.iconst 1, 1, 0, 0, 1), (.aload_n 0, 1, 0, 0, 0), (.getfield 17, 3, 5, 0, 0), (.getfield 66, 3, 9, 11, 0), (.iload_n 2, 1, 0, 0, 0), (.iaload, 1, 0, 0, 0), (.iconst 3, 1, 0, 0, 3), (.idiv, 1, 0, 0, 0), (.iadd, 1, 0, 0, 0)] (by decide +kernel) (g := (sK S l0 == 8) && ((sK S ((sE S) l0 0) == 12) && ((sK S ((sE S) ((sE S) l0 0) 11) == 1 && ev_in l2 ((sL S) ((sE S) ((sE S) l0 0) 11))) && ((!(decide ((3 : Int32) = 0))) && (true))))) (lv' := [some (.ref l0), some (.int l1), some (.int l2)]) (st' := [.int ((1 : Int32) + ((D2 ((sE S) ((sE S) l0 0) 11) (l2).toNatClampNeg) / (3 : Int32)))]) (D' := D2) (pc' := 44) rfl (ev_gk hl0 (ev_gk (ev_tyk hT hl0 rfl rfl) (ev_gi (ev_tyk hT (ev_tyk hT hl0 rfl rfl) rfl rfl) hg6 (ev_g2 rfl (rfl))))) rfl ?_
        exact ev_iret hR ev_sm.rf (Option.some.inj hf) hC (by decide +kernel)
    · have hf := ev_it h3 hf
      refine ev_blk hX lkok_RX5 [(.aload_n 0, 1, 0, 0, 0), (.getfield 17, 3, 5, 0, 0), (.getfield 78, 3, 9, 3, 0), (.iconst 4, 1, 0, 0, 4), (.idiv, 1, 0, 0, 0)] (by decide +kernel) (g := (sK S l0 == 8) && ((sK S ((sE S) l0 0) == 12) && ((!(decide ((4 : Int32) = 0))) && (true)))) (lv' := [some (.ref l0), some (.int l1), some (.int l2)]) (st' := [.int ((D2 ((sE S) l0 0) 3) / (4 : Int32))]) (D' := D2) (pc' := 25) rfl (ev_gk hl0 (ev_gk (ev_tyk hT hl0 rfl rfl) (ev_g2 rfl (rfl)))) rfl ?_
      exact ev_iret hR ev_sm.rf (Option.some.inj hf) hC (by decide +kernel)
theorem mX5_usual {S : ev_S} {fu : Nat} {r : Int32 × ev_D} (hT : ev_Ty S) {l0 : Nat} {l1 : Int32} {l2 : Int32} {D : ev_D} (hl0 : sK S l0 = 8) (hf : fX5_usual (sL S) (sE S) fu l0 l1 l2 D = some r) : ev_M 1 0 0 yX5_usual cX5_usual 3 (some .int) [.ref l0, .int l1, .int l2] S D S r :=
  ev_met (ini := false) (plainFor_of_name (by decide)) (fun h => by cases h) rfl (Nat.le_of_ble_eq_true rfl) (fun F hR => tX5_usual (S := ev_z S) hR hT ⟨Nat.le_refl 0, Nat.le_refl 0⟩ hl0 hf)
set_option maxHeartbeats 4000000 in
set_option maxRecDepth 100000 in
theorem tX5_ask_54 {S : ev_S} {fu : Nat} {r : Int32 × ev_D} {F : ev_Fr} (hR : ev_R RX5 cX5_ask 6 3 0 0 false (some .int) S r F) (hT : ev_Ty S) (hC : sC S ≤ 0 ∧ sA S ≤ 0) {l1 : Int32} {s0 : Int32} {D : ev_D}  (hf : fX5_ask_54 (sL S) (sE S) fu l1 s0 D = some r) : F S D 54 [none, some (.int l1), none, none, none, none] [.int s0] := by
  have hX := hR.X
  unfold fX5_ask_54 at hf
  refine ev_blk hX lkok_RX5 [(.istore 5, 2, 0, 0, 0), (.iload 5, 2, 0, 0, 0), (.iconst 0, 1, 0, 0, 0), (.iload_n 1, 1, 0, 0, 0)] (by decide +kernel) (g := true) (lv' := [none, some (.int l1), none, none, none, some (.int s0)]) (st' := [.int l1, .int (0 : Int32), .int s0]) (D' := D) (pc' := 60) rfl (rfl) rfl ?_
  refine ev_if_ne hX (off := 9) 69 (by decide +kernel) (by decide) (fun h1 => ?_) (fun h1 => ?_)
  · have hf := ev_nf h1 hf
    refine ev_blk hX lkok_RX5 [(.iload_n 1, 1, 0, 0, 0), (.iconst 1, 1, 0, 0, 1)] (by decide +kernel) (g := true) (lv' := [none, some (.int l1), none, none, none, some (.int s0)]) (st' := [.int (1 : Int32), .int l1, .int (0 : Int32), .int s0]) (D' := D) (pc' := 71) rfl (rfl) rfl ?_
    refine ev_ic_ne hX (off := 8) 79 (by decide +kernel) (by decide) (fun h2 => ?_) (fun h2 => ?_)
    · have hf := ev_nf h2 hf
      refine ev_blk hX lkok_RX5 [(.sipush 9999, 3, 0, 0, 9999)] (by decide +kernel) (g := true) (lv' := [none, some (.int l1), none, none, none, some (.int s0)]) (st' := [.int (9999 : Int32), .int (0 : Int32), .int s0]) (D' := D) (pc' := 82) rfl (rfl) rfl ?_
      obtain ⟨v3, D3, hc3, hf⟩ := ev_bd_s hf
      refine ev_callSN hX YX11_held ml_RX5_50 (mX11_held hT  hc3) (vs := [.int s0, .int (0 : Int32), .int (9999 : Int32)]) (st := []) (by decide) rfl rfl (by decide +kernel) hC ?_
      show F S D3 85 [none, some (.int l1), none, none, none, some (.int s0)] [.int v3]
      exact ev_iret hR ev_sm.rf (Option.some.inj hf) hC (by decide +kernel)
    · have hf := ev_it h2 hf
      refine ev_blk hX lkok_RX5 [(.bipush 9, 2, 0, 0, 9)] (by decide +kernel) (g := true) (lv' := [none, some (.int l1), none, none, none, some (.int s0)]) (st' := [.int (9 : Int32), .int (0 : Int32), .int s0]) (D' := D) (pc' := 76) rfl (rfl) rfl ?_
      refine ev_goto hX (off := 6) 82 (by decide +kernel) (by decide) ?_
      obtain ⟨v4, D4, hc4, hf⟩ := ev_bd_s hf
      refine ev_callSN hX YX11_held ml_RX5_50 (mX11_held hT  hc4) (vs := [.int s0, .int (0 : Int32), .int (9 : Int32)]) (st := []) (by decide) rfl rfl (by decide +kernel) hC ?_
      show F S D4 85 [none, some (.int l1), none, none, none, some (.int s0)] [.int v4]
      exact ev_iret hR ev_sm.rf (Option.some.inj hf) hC (by decide +kernel)
  · have hf := ev_it h1 hf
    refine ev_blk hX lkok_RX5 [(.sipush 1000, 3, 0, 0, 1000)] (by decide +kernel) (g := true) (lv' := [none, some (.int l1), none, none, none, some (.int s0)]) (st' := [.int (1000 : Int32), .int (0 : Int32), .int s0]) (D' := D) (pc' := 66) rfl (rfl) rfl ?_
    refine ev_goto hX (off := 16) 82 (by decide +kernel) (by decide) ?_
    obtain ⟨v5, D5, hc5, hf⟩ := ev_bd_s hf
    refine ev_callSN hX YX11_held ml_RX5_50 (mX11_held hT  hc5) (vs := [.int s0, .int (0 : Int32), .int (1000 : Int32)]) (st := []) (by decide) rfl rfl (by decide +kernel) hC ?_
    show F S D5 85 [none, some (.int l1), none, none, none, some (.int s0)] [.int v5]
    exact ev_iret hR ev_sm.rf (Option.some.inj hf) hC (by decide +kernel)
set_option maxHeartbeats 4000000 in
set_option maxRecDepth 100000 in
theorem tX5_ask {S : ev_S} {fu : Nat} {r : Int32 × ev_D} {F : ev_Fr} (hR : ev_R RX5 cX5_ask 6 3 0 0 false (some .int) S r F) (hT : ev_Ty S) (hC : sC S ≤ 0 ∧ sA S ≤ 0) {l0 : Nat} {l1 : Int32} {l2 : Int32} {l3 : Int32} {D : ev_D} (hl0 : sK S l0 = 8) (hf : fX5_ask (sL S) (sE S) fu l0 l1 l2 l3 D = some r) : F S D 0 [some (.ref l0), some (.int l1), some (.int l2), some (.int l3), none, none] [] := by
  have hX := hR.X
  unfold fX5_ask at hf
  refine ev_blk hX lkok_RX5 [(.aload_n 0, 1, 0, 0, 0), (.iload_n 2, 1, 0, 0, 0), (.iload_n 3, 1, 0, 0, 0)] (by decide +kernel) (g := true) (lv' := [some (.ref l0), some (.int l1), some (.int l2), some (.int l3), none, none]) (st' := [.int l3, .int l2, .ref l0]) (D' := D) (pc' := 3) rfl (rfl) rfl ?_
  obtain ⟨v6, D6, hc6, hf⟩ := ev_bd_s hf
  refine ev_callV hX YX5_fillValues ml_RX5_29 (mX5_fillValues hT hl0 hc6) (vs := [.int l2, .int l3]) (st := []) (by decide) 5 hl0 rfl rfl rfl (by decide +kernel) hC ?_
  show F S D6 6 [some (.ref l0), some (.int l1), some (.int l2), some (.int l3), none, none] []
  refine ev_blk hX lkok_RX5 [(.aload_n 0, 1, 0, 0, 0), (.getfield 25, 3, 5, 2, 0), (.getfield 33, 3, 7, 0, 0), (.iload_n 1, 1, 0, 0, 0), (.aload_n 0, 1, 0, 0, 0), (.getfield 11, 3, 5, 3, 0)] (by decide +kernel) (g := (sK S l0 == 8) && ((sK S ((sE S) l0 2) == 10) && ((sK S l0 == 8) && (true)))) (lv' := [some (.ref l0), some (.int l1), some (.int l2), some (.int l3), none, none]) (st' := [.ref ((sE S) l0 3), .int l1, .ref ((sE S) ((sE S) l0 2) 0)]) (D' := D6) (pc' := 18) rfl (ev_gk hl0 (ev_gk (ev_tyk hT hl0 rfl rfl) (ev_gk hl0 (rfl)))) rfl ?_
  obtain ⟨v7, D7, hc7, hf⟩ := ev_bd_s hf
  refine ev_callV hX YX1_lineFor ml_RX5_39 (mX1_lineFor hT (ev_tyk hT (ev_tyk hT hl0 rfl rfl) rfl rfl) (ev_tyk hT hl0 rfl rfl) hc7) (vs := [.int l1, .ref ((sE S) l0 3)]) (st := []) (by decide) 1 (ev_tyk hT (ev_tyk hT hl0 rfl rfl) rfl rfl) rfl rfl rfl (by decide +kernel) hC ?_
  show F S D7 21 [some (.ref l0), some (.int l1), some (.int l2), some (.int l3), none, none] [.int v7]
  refine ev_blk hX lkok_RX5 [(.istore 4, 2, 0, 0, 0), (.iload 4, 2, 0, 0, 0), (.iconst (-1), 1, 0, 0, (-1))] (by decide +kernel) (g := true) (lv' := [some (.ref l0), some (.int l1), some (.int l2), some (.int l3), some (.int v7), none]) (st' := [.int (-1 : Int32), .int v7]) (D' := D7) (pc' := 26) rfl (rfl) rfl ?_
  refine ev_ic_ne hX (off := 12) 38 (by decide +kernel) (by decide) (fun h8 => ?_) (fun h8 => ?_)
  · have hf := ev_nf h8 hf
    refine ev_blk hX lkok_RX5 [(.aload_n 0, 1, 0, 0, 0), (.getfield 25, 3, 5, 2, 0), (.getfield 33, 3, 7, 0, 0), (.iload 4, 2, 0, 0, 0), (.aload_n 0, 1, 0, 0, 0), (.getfield 11, 3, 5, 3, 0)] (by decide +kernel) (g := (sK S l0 == 8) && ((sK S ((sE S) l0 2) == 10) && ((sK S l0 == 8) && (true)))) (lv' := [some (.ref l0), some (.int l1), some (.int l2), some (.int l3), some (.int v7), none]) (st' := [.ref ((sE S) l0 3), .int v7, .ref ((sE S) ((sE S) l0 2) 0)]) (D' := D7) (pc' := 51) rfl (ev_gk hl0 (ev_gk (ev_tyk hT hl0 rfl rfl) (ev_gk hl0 (rfl)))) rfl ?_
    obtain ⟨v9, D9, hc9, hf⟩ := ev_bd_s hf
    refine ev_callV hX YX1_worth ml_RX5_47 (mX1_worth hT (ev_tyk hT (ev_tyk hT hl0 rfl rfl) rfl rfl) (ev_tyk hT hl0 rfl rfl) hc9) (vs := [.int v7, .ref ((sE S) l0 3)]) (st := []) (by decide) 1 (ev_tyk hT (ev_tyk hT hl0 rfl rfl) rfl rfl) rfl rfl rfl (by decide +kernel) hC ?_
    show F S D9 54 [some (.ref l0), some (.int l1), some (.int l2), some (.int l3), some (.int v7), none] [.int v9]
    exact ev_weak hX (ev_le_no (ev_le_eq (ev_le_no (ev_le_no (ev_le_no (ev_le_no ev_le_nil)))))) (tX5_ask_54 hR hT hC    hf)
  · have hf := ev_it h8 hf
    refine ev_blk hX lkok_RX5 [(.aload_n 0, 1, 0, 0, 0), (.iload_n 1, 1, 0, 0, 0), (.iload_n 2, 1, 0, 0, 0)] (by decide +kernel) (g := true) (lv' := [some (.ref l0), some (.int l1), some (.int l2), some (.int l3), some (.int v7), none]) (st' := [.int l2, .int l1, .ref l0]) (D' := D7) (pc' := 32) rfl (rfl) rfl ?_
    obtain ⟨v10, D10, hc10, hf⟩ := ev_bd_s hf
    refine ev_callV hX YX5_usual ml_RX5_43 (mX5_usual hT hl0 hc10) (vs := [.int l1, .int l2]) (st := []) (by decide) 5 hl0 rfl rfl rfl (by decide +kernel) hC ?_
    show F S D10 35 [some (.ref l0), some (.int l1), some (.int l2), some (.int l3), some (.int v7), none] [.int v10]
    refine ev_goto hX (off := 19) 54 (by decide +kernel) (by decide) ?_
    exact ev_weak hX (ev_le_no (ev_le_eq (ev_le_no (ev_le_no (ev_le_no (ev_le_no ev_le_nil)))))) (tX5_ask_54 hR hT hC    hf)
theorem mX5_ask {S : ev_S} {fu : Nat} {r : Int32 × ev_D} (hT : ev_Ty S) {l0 : Nat} {l1 : Int32} {l2 : Int32} {l3 : Int32} {D : ev_D} (hl0 : sK S l0 = 8) (hf : fX5_ask (sL S) (sE S) fu l0 l1 l2 l3 D = some r) : ev_M 3 0 0 yX5_ask cX5_ask 6 (some .int) [.ref l0, .int l1, .int l2, .int l3] S D S r :=
  ev_met (ini := false) (plainFor_of_name (by decide)) (fun h => by cases h) rfl (Nat.le_of_ble_eq_true rfl) (fun F hR => tX5_ask (S := ev_z S) hR hT ⟨Nat.le_refl 0, Nat.le_refl 0⟩ hl0 hf)
set_option maxHeartbeats 4000000 in
set_option maxRecDepth 100000 in
theorem tX11_isIn {S : ev_S} {fu : Nat} {r : Int32 × ev_D} {F : ev_Fr} (hR : ev_R RX11 cX11_isIn 2 0 0 0 false (some .boolean) S r F) (hT : ev_Ty S) (hC : sC S ≤ 0 ∧ sA S ≤ 0) {l0 : Int32} {l1 : Int32} {D : ev_D}  (hf : fX11_isIn (sL S) (sE S) fu l0 l1 D = some r) : F S D 0 [some (.int l0), some (.int l1)] [] := by
  have hX := hR.X
  unfold fX11_isIn at hf
  refine ev_blk hX lkok_RX11 [(.iload_n 0, 1, 0, 0, 0), (.iload_n 1, 1, 0, 0, 0), (.ishr, 1, 0, 0, 0), (.iconst 1, 1, 0, 0, 1), (.iand, 1, 0, 0, 0), (.iconst 1, 1, 0, 0, 1)] (by decide +kernel) (g := true) (lv' := [some (.int l0), some (.int l1)]) (st' := [.int (1 : Int32), .int ((l0 >>> (l1 &&& 31)) &&& (1 : Int32))]) (D' := D) (pc' := 6) rfl (rfl) rfl ?_
  refine ev_ic_ne hX (off := 7) 13 (by decide +kernel) (by decide) (fun h1 => ?_) (fun h1 => ?_)
  · have hf := ev_nf h1 hf
    refine ev_blk hX lkok_RX11 [(.iconst 0, 1, 0, 0, 0)] (by decide +kernel) (g := true) (lv' := [some (.int l0), some (.int l1)]) (st' := [.int (0 : Int32)]) (D' := D) (pc' := 14) rfl (rfl) rfl ?_
    exact ev_zret hR ev_sm.rf (Or.inl rfl) (Option.some.inj hf) hC (by decide +kernel)
  · have hf := ev_it h1 hf
    refine ev_blk hX lkok_RX11 [(.iconst 1, 1, 0, 0, 1)] (by decide +kernel) (g := true) (lv' := [some (.int l0), some (.int l1)]) (st' := [.int (1 : Int32)]) (D' := D) (pc' := 10) rfl (rfl) rfl ?_
    refine ev_goto hX (off := 4) 14 (by decide +kernel) (by decide) ?_
    exact ev_zret hR ev_sm.rf (Or.inr rfl) (Option.some.inj hf) hC (by decide +kernel)
theorem mX11_isIn {S : ev_S} {fu : Nat} {r : Int32 × ev_D} (hT : ev_Ty S) {l0 : Int32} {l1 : Int32} {D : ev_D}  (hf : fX11_isIn (sL S) (sE S) fu l0 l1 D = some r) : ev_M 0 0 0 yX11_isIn cX11_isIn 2 (some .boolean) [.int l0, .int l1] S D S r :=
  ev_met (ini := false) (plainFor_of_name (by decide)) (fun h => by cases h) rfl (Nat.le_of_ble_eq_true rfl) (fun F hR => tX11_isIn (S := ev_z S) hR hT ⟨Nat.le_refl 0, Nat.le_refl 0⟩  hf)
set_option maxHeartbeats 4000000 in
set_option maxRecDepth 100000 in
theorem tX9_isAwake {S : ev_S} {fu : Nat} {r : Int32 × ev_D} {F : ev_Fr} (hR : ev_R RX9 cX9_isAwake 2 1 0 0 false (some .boolean) S r F) (hT : ev_Ty S) (hC : sC S ≤ 0 ∧ sA S ≤ 0) {l0 : Nat} {l1 : Int32} {D : ev_D} (hl0 : sK S l0 = 12) (hf : fX9_isAwake (sL S) (sE S) fu l0 l1 D = some r) : F S D 0 [some (.ref l0), some (.int l1)] [] := by
  have hX := hR.X
  unfold fX9_isAwake at hf
  refine ev_blk hX lkok_RX9 [(.aload_n 0, 1, 0, 0, 0), (.iload_n 1, 1, 0, 0, 0)] (by decide +kernel) (g := true) (lv' := [some (.ref l0), some (.int l1)]) (st' := [.int l1, .ref l0]) (D' := D) (pc' := 2) rfl (rfl) rfl ?_
  obtain ⟨v1, D1, hc1, hf⟩ := ev_bd_s hf
  refine ev_callV hX YX9_has ml_RX9_69 (mX9_has hT hl0 hc1) (vs := [.int l1]) (st := []) (by decide) 9 hl0 rfl rfl rfl (by decide +kernel) hC ?_
  show F S D1 5 [some (.ref l0), some (.int l1)] [.int v1]
  refine ev_if_eq hX (off := 18) 23 (by decide +kernel) (by decide) (fun h2 => ?_) (fun h2 => ?_)
  · have hf := ev_it h2 hf
    refine ev_blk hX lkok_RX9 [(.iconst 0, 1, 0, 0, 0)] (by decide +kernel) (g := true) (lv' := [some (.ref l0), some (.int l1)]) (st' := [.int (0 : Int32)]) (D' := D1) (pc' := 24) rfl (rfl) rfl ?_
    exact ev_zret hR ev_sm.rf (Or.inl rfl) (Option.some.inj hf) hC (by decide +kernel)
  · have hf := ev_nf h2 hf
    refine ev_blk hX lkok_RX9 [(.aload_n 0, 1, 0, 0, 0), (.getfield 30, 3, 9, 6, 0), (.iload_n 1, 1, 0, 0, 0)] (by decide +kernel) (g := (sK S l0 == 12) && (true)) (lv' := [some (.ref l0), some (.int l1)]) (st' := [.int l1, .int (D1 l0 6)]) (D' := D1) (pc' := 13) rfl (ev_gk hl0 (rfl)) rfl ?_
    obtain ⟨v3, D3, hc3, hf⟩ := ev_bd_s hf
    refine ev_callSN hX YX11_isIn ml_RX9_73 (mX11_isIn hT  hc3) (vs := [.int (D1 l0 6), .int l1]) (st := []) (by decide) rfl rfl (by decide +kernel) hC ?_
    show F S D3 16 [some (.ref l0), some (.int l1)] [.int v3]
    refine ev_if_eq hX (off := 7) 23 (by decide +kernel) (by decide) (fun h4 => ?_) (fun h4 => ?_)
    · have hf := ev_it h4 hf
      refine ev_blk hX lkok_RX9 [(.iconst 0, 1, 0, 0, 0)] (by decide +kernel) (g := true) (lv' := [some (.ref l0), some (.int l1)]) (st' := [.int (0 : Int32)]) (D' := D3) (pc' := 24) rfl (rfl) rfl ?_
      exact ev_zret hR ev_sm.rf (Or.inl rfl) (Option.some.inj hf) hC (by decide +kernel)
    · have hf := ev_nf h4 hf
      refine ev_blk hX lkok_RX9 [(.iconst 1, 1, 0, 0, 1)] (by decide +kernel) (g := true) (lv' := [some (.ref l0), some (.int l1)]) (st' := [.int (1 : Int32)]) (D' := D3) (pc' := 20) rfl (rfl) rfl ?_
      refine ev_goto hX (off := 4) 24 (by decide +kernel) (by decide) ?_
      exact ev_zret hR ev_sm.rf (Or.inr rfl) (Option.some.inj hf) hC (by decide +kernel)
theorem mX9_isAwake {S : ev_S} {fu : Nat} {r : Int32 × ev_D} (hT : ev_Ty S) {l0 : Nat} {l1 : Int32} {D : ev_D} (hl0 : sK S l0 = 12) (hf : fX9_isAwake (sL S) (sE S) fu l0 l1 D = some r) : ev_M 1 0 0 yX9_isAwake cX9_isAwake 2 (some .boolean) [.ref l0, .int l1] S D S r :=
  ev_met (ini := false) (plainFor_of_name (by decide)) (fun h => by cases h) rfl (Nat.le_of_ble_eq_true rfl) (fun F hR => tX9_isAwake (S := ev_z S) hR hT ⟨Nat.le_refl 0, Nat.le_refl 0⟩ hl0 hf)
set_option maxHeartbeats 4000000 in
set_option maxRecDepth 100000 in
theorem tX9_sleep {S : ev_S} {fu : Nat} {r : Int32 × ev_D} {F : ev_Fr} (hR : ev_R RX9 cX9_sleep 2 0 0 0 false none S r F) (hT : ev_Ty S) (hC : sC S ≤ 0 ∧ sA S ≤ 0) {l0 : Nat} {l1 : Int32} {D : ev_D} (hl0 : sK S l0 = 12) (hf : fX9_sleep (sL S) (sE S) fu l0 l1 D = some r) : F S D 0 [some (.ref l0), some (.int l1)] [] := by
  have hX := hR.X
  unfold fX9_sleep at hf
  refine ev_blk hX lkok_RX9 [(.aload_n 0, 1, 0, 0, 0), (.dup, 1, 0, 0, 0), (.getfield 30, 3, 9, 6, 0), (.iconst 1, 1, 0, 0, 1), (.iload_n 1, 1, 0, 0, 0), (.ishl, 1, 0, 0, 0), (.iconst (-1), 1, 0, 0, (-1)), (.ixor, 1, 0, 0, 0), (.iand, 1, 0, 0, 0), (.putfield 30, 3, 9, 6, 0)] (by decide +kernel) (g := (sK S l0 == 12) && ((sK S l0 == 12) && (true))) (lv' := [some (.ref l0), some (.int l1)]) (st' := []) (D' := (ev_up D l0 6 ((D l0 6) &&& (((1 : Int32) <<< (l1 &&& 31)) ^^^ (-1 : Int32))))) (pc' := 14) rfl (ev_gk hl0 (ev_gk hl0 (rfl))) rfl ?_
  exact ev_vret hR ev_sm.rf (Option.some.inj hf) hC (by decide +kernel)
theorem mX9_sleep {S : ev_S} {fu : Nat} {r : Int32 × ev_D} (hT : ev_Ty S) {l0 : Nat} {l1 : Int32} {D : ev_D} (hl0 : sK S l0 = 12) (hf : fX9_sleep (sL S) (sE S) fu l0 l1 D = some r) : ev_M 0 0 0 yX9_sleep cX9_sleep 2 none [.ref l0, .int l1] S D S r :=
  ev_met (ini := false) (plainFor_of_name (by decide)) (fun h => by cases h) rfl (Nat.le_of_ble_eq_true rfl) (fun F hR => tX9_sleep (S := ev_z S) hR hT ⟨Nat.le_refl 0, Nat.le_refl 0⟩ hl0 hf)
set_option maxHeartbeats 4000000 in
set_option maxRecDepth 100000 in
theorem tX5_strike {S : ev_S} {fu : Nat} {r : Int32 × ev_D} {F : ev_Fr} (hR : ev_R RX5 cX5_strike 5 4 0 0 false (some .int) S r F) (hT : ev_Ty S) (hC : sC S ≤ 0 ∧ sA S ≤ 0) {l0 : Nat} {l1 : Int32} {l2 : Int32} {D : ev_D} (hl0 : sK S l0 = 8) (hf : fX5_strike (sL S) (sE S) fu l0 l1 l2 D = some r) : F S D 0 [some (.ref l0), some (.int l1), some (.int l2), none, none] [] := by
  have hX := hR.X
  unfold fX5_strike at hf
  refine ev_blk hX lkok_RX5 [(.aload_n 0, 1, 0, 0, 0), (.getfield 17, 3, 5, 0, 0), (.iload_n 1, 1, 0, 0, 0)] (by decide +kernel) (g := (sK S l0 == 8) && (true)) (lv' := [some (.ref l0), some (.int l1), some (.int l2), none, none]) (st' := [.int l1, .ref ((sE S) l0 0)]) (D' := D) (pc' := 5) rfl (ev_gk hl0 (rfl)) rfl ?_
  obtain ⟨v1, D1, hc1, hf⟩ := ev_bd_s hf
  refine ev_callV hX YX9_isAwake ml_RX5_96 (mX9_isAwake hT (ev_tyk hT hl0 rfl rfl) hc1) (vs := [.int l1]) (st := []) (by decide) 9 (ev_tyk hT hl0 rfl rfl) rfl rfl rfl (by decide +kernel) hC ?_
  show F S D1 8 [some (.ref l0), some (.int l1), some (.int l2), none, none] [.int v1]
  refine ev_if_ne hX (off := 5) 13 (by decide +kernel) (by decide) (fun h2 => ?_) (fun h2 => ?_)
  · have hf := ev_nf h2 hf
    refine ev_blk hX lkok_RX5 [(.aload_n 0, 1, 0, 0, 0), (.iconst 1, 1, 0, 0, 1), (.iload_n 1, 1, 0, 0, 0), (.iload_n 2, 1, 0, 0, 0)] (by decide +kernel) (g := true) (lv' := [some (.ref l0), some (.int l1), some (.int l2), none, none]) (st' := [.int l2, .int l1, .int (1 : Int32), .ref l0]) (D' := D1) (pc' := 17) rfl (rfl) rfl ?_
    obtain ⟨v3, D3, hc3, hf⟩ := ev_bd_s hf
    refine ev_callV hX YX5_ask ml_RX5_99 (mX5_ask hT hl0 hc3) (vs := [.int (1 : Int32), .int l1, .int l2]) (st := []) (by decide) 5 hl0 rfl rfl rfl (by decide +kernel) hC ?_
    show F S D3 20 [some (.ref l0), some (.int l1), some (.int l2), none, none] [.int v3]
    obtain ⟨hg18, hf⟩ := ev_gd_s hf
    refine ev_blk hX lkok_RX5 [(.istore_n 3, 1, 0, 0, 0), (.aload_n 0, 1, 0, 0, 0), (.getfield 17, 3, 5, 0, 0), (.getfield 60, 3, 9, 9, 0), (.iload_n 1, 1, 0, 0, 0), (.iaload, 1, 0, 0, 0), (.iconst 0, 1, 0, 0, 0), (.bipush 7, 2, 0, 0, 7)] (by decide +kernel) (g := (sK S l0 == 8) && ((sK S ((sE S) l0 0) == 12) && ((sK S ((sE S) ((sE S) l0 0) 9) == 1 && ev_in l1 ((sL S) ((sE S) ((sE S) l0 0) 9))) && (true)))) (lv' := [some (.ref l0), some (.int l1), some (.int l2), some (.int v3), none]) (st' := [.int (7 : Int32), .int (0 : Int32), .int (D3 ((sE S) ((sE S) l0 0) 9) (l1).toNatClampNeg)]) (D' := D3) (pc' := 33) rfl (ev_gk hl0 (ev_gk (ev_tyk hT hl0 rfl rfl) (ev_gi (ev_tyk hT (ev_tyk hT hl0 rfl rfl) rfl rfl) hg18 (rfl)))) rfl ?_
    obtain ⟨v4, D4, hc4, hf⟩ := ev_bd_s hf
    refine ev_callSN hX YX11_held ml_RX5_50 (mX11_held hT  hc4) (vs := [.int (D3 ((sE S) ((sE S) l0 0) 9) (l1).toNatClampNeg), .int (0 : Int32), .int (7 : Int32)]) (st := []) (by decide) rfl rfl (by decide +kernel) hC ?_
    show F S D4 36 [some (.ref l0), some (.int l1), some (.int l2), some (.int v3), none] [.int v4]
    obtain ⟨hg15, hf⟩ := ev_gd_s hf
    obtain ⟨hg16, hf⟩ := ev_gd_s hf
    obtain ⟨hg17, hf⟩ := ev_gd_s hf
    refine ev_blk hX lkok_RX5 [(.istore 4, 2, 0, 0, 0), (.aload_n 0, 1, 0, 0, 0), (.getfield 17, 3, 5, 0, 0), (.getfield 102, 3, 9, 8, 0), (.iload 4, 2, 0, 0, 0), (.dup2, 1, 0, 0, 0), (.iaload, 1, 0, 0, 0), (.iload_n 3, 1, 0, 0, 0), (.iadd, 1, 0, 0, 0), (.iastore, 1, 0, 0, 0), (.aload_n 0, 1, 0, 0, 0), (.getfield 17, 3, 5, 0, 0), (.sipush 9999, 3, 0, 0, 9999), (.aload_n 0, 1, 0, 0, 0), (.getfield 17, 3, 5, 0, 0), (.getfield 78, 3, 9, 3, 0), (.iload_n 3, 1, 0, 0, 0), (.aload_n 0, 1, 0, 0, 0), (.getfield 17, 3, 5, 0, 0), (.getfield 75, 3, 9, 7, 0), (.iload 4, 2, 0, 0, 0), (.iaload, 1, 0, 0, 0), (.imul, 1, 0, 0, 0), (.iadd, 1, 0, 0, 0)] (by decide +kernel) (g := (sK S l0 == 8) && ((sK S ((sE S) l0 0) == 12) && ((sK S ((sE S) ((sE S) l0 0) 8) == 1 && ev_in v4 ((sL S) ((sE S) ((sE S) l0 0) 8))) && ((sK S ((sE S) ((sE S) l0 0) 8) == 1 && ev_in v4 ((sL S) ((sE S) ((sE S) l0 0) 8))) && ((sK S l0 == 8) && ((sK S l0 == 8) && ((sK S ((sE S) l0 0) == 12) && ((sK S l0 == 8) && ((sK S ((sE S) l0 0) == 12) && ((sK S ((sE S) ((sE S) l0 0) 7) == 1 && ev_in v4 ((sL S) ((sE S) ((sE S) l0 0) 7))) && (true))))))))))) (lv' := [some (.ref l0), some (.int l1), some (.int l2), some (.int v3), some (.int v4)]) (st' := [.int (((ev_up D4 ((sE S) ((sE S) l0 0) 8) (v4).toNatClampNeg ((D4 ((sE S) ((sE S) l0 0) 8) (v4).toNatClampNeg) + v3)) ((sE S) l0 0) 3) + (v3 * ((ev_up D4 ((sE S) ((sE S) l0 0) 8) (v4).toNatClampNeg ((D4 ((sE S) ((sE S) l0 0) 8) (v4).toNatClampNeg) + v3)) ((sE S) ((sE S) l0 0) 7) (v4).toNatClampNeg))), .int (9999 : Int32), .ref ((sE S) l0 0)]) (D' := (ev_up D4 ((sE S) ((sE S) l0 0) 8) (v4).toNatClampNeg ((D4 ((sE S) ((sE S) l0 0) 8) (v4).toNatClampNeg) + v3))) (pc' := 79) rfl (ev_gk hl0 (ev_gk (ev_tyk hT hl0 rfl rfl) (ev_gi (ev_tyk hT (ev_tyk hT hl0 rfl rfl) rfl rfl) hg15 (ev_gi (ev_tyk hT (ev_tyk hT hl0 rfl rfl) rfl rfl) hg16 (ev_gk hl0 (ev_gk hl0 (ev_gk (ev_tyk hT hl0 rfl rfl) (ev_gk hl0 (ev_gk (ev_tyk hT hl0 rfl rfl) (ev_gi (ev_tyk hT (ev_tyk hT hl0 rfl rfl) rfl rfl) hg17 (rfl))))))))))) rfl ?_
    obtain ⟨v5, D5, hc5, hf⟩ := ev_bd_s hf
    refine ev_callS hX YJ9_min ml_RX5_105 (mJ9_min hT  hc5) (vs := [.int (9999 : Int32), .int (((ev_up D4 ((sE S) ((sE S) l0 0) 8) (v4).toNatClampNeg ((D4 ((sE S) ((sE S) l0 0) 8) (v4).toNatClampNeg) + v3)) ((sE S) l0 0) 3) + (v3 * ((ev_up D4 ((sE S) ((sE S) l0 0) 8) (v4).toNatClampNeg ((D4 ((sE S) ((sE S) l0 0) 8) (v4).toNatClampNeg) + v3)) ((sE S) ((sE S) l0 0) 7) (v4).toNatClampNeg)))]) (st := [.ref ((sE S) l0 0)]) (by decide) rfl rfl (by decide +kernel) hC ?_
    show F S D5 82 [some (.ref l0), some (.int l1), some (.int l2), some (.int v3), some (.int v4)] [.int v5, .ref ((sE S) l0 0)]
    obtain ⟨hg14, hf⟩ := ev_gd_s hf
    refine ev_blk hX lkok_RX5 [(.putfield 78, 3, 9, 3, 0), (.aload_n 0, 1, 0, 0, 0), (.getfield 17, 3, 5, 0, 0), (.getfield 72, 3, 9, 13, 0), (.iload_n 1, 1, 0, 0, 0), (.bipush 99, 2, 0, 0, 99), (.aload_n 0, 1, 0, 0, 0), (.getfield 17, 3, 5, 0, 0), (.getfield 72, 3, 9, 13, 0), (.iload_n 1, 1, 0, 0, 0), (.iaload, 1, 0, 0, 0), (.iload_n 3, 1, 0, 0, 0), (.iadd, 1, 0, 0, 0)] (by decide +kernel) (g := (sK S ((sE S) l0 0) == 12) && ((sK S l0 == 8) && ((sK S ((sE S) l0 0) == 12) && ((sK S l0 == 8) && ((sK S ((sE S) l0 0) == 12) && ((sK S ((sE S) ((sE S) l0 0) 13) == 1 && ev_in l1 ((sL S) ((sE S) ((sE S) l0 0) 13))) && (true))))))) (lv' := [some (.ref l0), some (.int l1), some (.int l2), some (.int v3), some (.int v4)]) (st' := [.int (((ev_up D5 ((sE S) l0 0) 3 v5) ((sE S) ((sE S) l0 0) 13) (l1).toNatClampNeg) + v3), .int (99 : Int32), .int l1, .ref ((sE S) ((sE S) l0 0) 13)]) (D' := (ev_up D5 ((sE S) l0 0) 3 v5)) (pc' := 106) rfl (ev_gk (ev_tyk hT hl0 rfl rfl) (ev_gk hl0 (ev_gk (ev_tyk hT hl0 rfl rfl) (ev_gk hl0 (ev_gk (ev_tyk hT hl0 rfl rfl) (ev_gi (ev_tyk hT (ev_tyk hT hl0 rfl rfl) rfl rfl) hg14 (rfl))))))) rfl ?_
    obtain ⟨v6, D6, hc6, hf⟩ := ev_bd_s hf
    refine ev_callS hX YJ9_min ml_RX5_105 (mJ9_min hT  hc6) (vs := [.int (99 : Int32), .int (((ev_up D5 ((sE S) l0 0) 3 v5) ((sE S) ((sE S) l0 0) 13) (l1).toNatClampNeg) + v3)]) (st := [.int l1, .ref ((sE S) ((sE S) l0 0) 13)]) (by decide) rfl rfl (by decide +kernel) hC ?_
    show F S D6 109 [some (.ref l0), some (.int l1), some (.int l2), some (.int v3), some (.int v4)] [.int v6, .int l1, .ref ((sE S) ((sE S) l0 0) 13)]
    obtain ⟨hg13, hf⟩ := ev_gd_s hf
    refine ev_blk hX lkok_RX5 [(.iastore, 1, 0, 0, 0), (.aload_n 0, 1, 0, 0, 0), (.getfield 21, 3, 5, 1, 0), (.aload_n 0, 1, 0, 0, 0), (.getfield 17, 3, 5, 0, 0), (.getfield 88, 3, 9, 4, 0), (.iconst 0, 1, 0, 0, 0), (.iload_n 1, 1, 0, 0, 0), (.iload_n 3, 1, 0, 0, 0)] (by decide +kernel) (g := (sK S ((sE S) ((sE S) l0 0) 13) == 1 && ev_in l1 ((sL S) ((sE S) ((sE S) l0 0) 13))) && ((sK S l0 == 8) && ((sK S l0 == 8) && ((sK S ((sE S) l0 0) == 12) && (true))))) (lv' := [some (.ref l0), some (.int l1), some (.int l2), some (.int v3), some (.int v4)]) (st' := [.int v3, .int l1, .int (0 : Int32), .int ((ev_up D6 ((sE S) ((sE S) l0 0) 13) (l1).toNatClampNeg v6) ((sE S) l0 0) 4), .ref ((sE S) l0 1)]) (D' := (ev_up D6 ((sE S) ((sE S) l0 0) 13) (l1).toNatClampNeg v6)) (pc' := 124) rfl (ev_gi (ev_tyk hT (ev_tyk hT hl0 rfl rfl) rfl rfl) hg13 (ev_gk hl0 (ev_gk hl0 (ev_gk (ev_tyk hT hl0 rfl rfl) (rfl))))) rfl ?_
    obtain ⟨v7, D7, hc7, hf⟩ := ev_bd_s hf
    refine ev_callV hX YX0_write ml_RX5_110 (mX0_write hT (ev_tyk hT hl0 rfl rfl) hc7) (vs := [.int ((ev_up D6 ((sE S) ((sE S) l0 0) 13) (l1).toNatClampNeg v6) ((sE S) l0 0) 4), .int (0 : Int32), .int l1, .int v3]) (st := []) (by decide) 0 (ev_tyk hT hl0 rfl rfl) rfl rfl rfl (by decide +kernel) hC ?_
    show F S D7 127 [some (.ref l0), some (.int l1), some (.int l2), some (.int v3), some (.int v4)] []
    obtain ⟨hg12, hf⟩ := ev_gd_s hf
    refine ev_blk hX lkok_RX5 [(.aload_n 0, 1, 0, 0, 0), (.getfield 17, 3, 5, 0, 0), (.getfield 72, 3, 9, 13, 0), (.iload_n 1, 1, 0, 0, 0), (.iaload, 1, 0, 0, 0), (.bipush 99, 2, 0, 0, 99)] (by decide +kernel) (g := (sK S l0 == 8) && ((sK S ((sE S) l0 0) == 12) && ((sK S ((sE S) ((sE S) l0 0) 13) == 1 && ev_in l1 ((sL S) ((sE S) ((sE S) l0 0) 13))) && (true)))) (lv' := [some (.ref l0), some (.int l1), some (.int l2), some (.int v3), some (.int v4)]) (st' := [.int (99 : Int32), .int (D7 ((sE S) ((sE S) l0 0) 13) (l1).toNatClampNeg)]) (D' := D7) (pc' := 138) rfl (ev_gk hl0 (ev_gk (ev_tyk hT hl0 rfl rfl) (ev_gi (ev_tyk hT (ev_tyk hT hl0 rfl rfl) rfl rfl) hg12 (rfl)))) rfl ?_
    refine ev_ic_ne hX (off := 37) 175 (by decide +kernel) (by decide) (fun h8 => ?_) (fun h8 => ?_)
    · have hf := ev_nf h8 hf
      refine ev_blk hX lkok_RX5 [(.iload_n 3, 1, 0, 0, 0)] (by decide +kernel) (g := true) (lv' := [some (.ref l0), some (.int l1), some (.int l2), some (.int v3), some (.int v4)]) (st' := [.int v3]) (D' := D7) (pc' := 176) rfl (rfl) rfl ?_
      exact ev_iret hR ev_sm.rf (Option.some.inj hf) hC (by decide +kernel)
    · have hf := ev_it h8 hf
      refine ev_blk hX lkok_RX5 [(.aload_n 0, 1, 0, 0, 0), (.getfield 17, 3, 5, 0, 0), (.iload_n 1, 1, 0, 0, 0)] (by decide +kernel) (g := (sK S l0 == 8) && (true)) (lv' := [some (.ref l0), some (.int l1), some (.int l2), some (.int v3), some (.int v4)]) (st' := [.int l1, .ref ((sE S) l0 0)]) (D' := D7) (pc' := 146) rfl (ev_gk hl0 (rfl)) rfl ?_
      obtain ⟨v9, D9, hc9, hf⟩ := ev_bd_s hf
      refine ev_callV hX YX9_sleep ml_RX5_114 (mX9_sleep hT (ev_tyk hT hl0 rfl rfl) hc9) (vs := [.int l1]) (st := []) (by decide) 9 (ev_tyk hT hl0 rfl rfl) rfl rfl rfl (by decide +kernel) hC ?_
      show F S D9 149 [some (.ref l0), some (.int l1), some (.int l2), some (.int v3), some (.int v4)] []
      obtain ⟨hg11, hf⟩ := ev_gd_s hf
      refine ev_blk hX lkok_RX5 [(.aload_n 0, 1, 0, 0, 0), (.getfield 21, 3, 5, 1, 0), (.aload_n 0, 1, 0, 0, 0), (.getfield 17, 3, 5, 0, 0), (.getfield 88, 3, 9, 4, 0), (.iconst 2, 1, 0, 0, 2), (.iload_n 1, 1, 0, 0, 0), (.aload_n 0, 1, 0, 0, 0), (.getfield 17, 3, 5, 0, 0), (.getfield 102, 3, 9, 8, 0), (.iload 4, 2, 0, 0, 0), (.iaload, 1, 0, 0, 0)] (by decide +kernel) (g := (sK S l0 == 8) && ((sK S l0 == 8) && ((sK S ((sE S) l0 0) == 12) && ((sK S l0 == 8) && ((sK S ((sE S) l0 0) == 12) && ((sK S ((sE S) ((sE S) l0 0) 8) == 1 && ev_in v4 ((sL S) ((sE S) ((sE S) l0 0) 8))) && (true))))))) (lv' := [some (.ref l0), some (.int l1), some (.int l2), some (.int v3), some (.int v4)]) (st' := [.int (D9 ((sE S) ((sE S) l0 0) 8) (v4).toNatClampNeg), .int l1, .int (2 : Int32), .int (D9 ((sE S) l0 0) 4), .ref ((sE S) l0 1)]) (D' := D9) (pc' := 172) rfl (ev_gk hl0 (ev_gk hl0 (ev_gk (ev_tyk hT hl0 rfl rfl) (ev_gk hl0 (ev_gk (ev_tyk hT hl0 rfl rfl) (ev_gi (ev_tyk hT (ev_tyk hT hl0 rfl rfl) rfl rfl) hg11 (rfl))))))) rfl ?_
      obtain ⟨v10, D10, hc10, hf⟩ := ev_bd_s hf
      refine ev_callV hX YX0_write ml_RX5_110 (mX0_write hT (ev_tyk hT hl0 rfl rfl) hc10) (vs := [.int (D9 ((sE S) l0 0) 4), .int (2 : Int32), .int l1, .int (D9 ((sE S) ((sE S) l0 0) 8) (v4).toNatClampNeg)]) (st := []) (by decide) 0 (ev_tyk hT hl0 rfl rfl) rfl rfl rfl (by decide +kernel) hC ?_
      show F S D10 175 [some (.ref l0), some (.int l1), some (.int l2), some (.int v3), some (.int v4)] []
      refine ev_blk hX lkok_RX5 [(.iload_n 3, 1, 0, 0, 0)] (by decide +kernel) (g := true) (lv' := [some (.ref l0), some (.int l1), some (.int l2), some (.int v3), some (.int v4)]) (st' := [.int v3]) (D' := D10) (pc' := 176) rfl (rfl) rfl ?_
      exact ev_iret hR ev_sm.rf (Option.some.inj hf) hC (by decide +kernel)
  · have hf := ev_it h2 hf
    refine ev_blk hX lkok_RX5 [(.iconst 0, 1, 0, 0, 0)] (by decide +kernel) (g := true) (lv' := [some (.ref l0), some (.int l1), some (.int l2), none, none]) (st' := [.int (0 : Int32)]) (D' := D1) (pc' := 12) rfl (rfl) rfl ?_
    exact ev_iret hR ev_sm.rf (Option.some.inj hf) hC (by decide +kernel)
theorem mX5_strike {S : ev_S} {fu : Nat} {r : Int32 × ev_D} (hT : ev_Ty S) {l0 : Nat} {l1 : Int32} {l2 : Int32} {D : ev_D} (hl0 : sK S l0 = 8) (hf : fX5_strike (sL S) (sE S) fu l0 l1 l2 D = some r) : ev_M 4 0 0 yX5_strike cX5_strike 5 (some .int) [.ref l0, .int l1, .int l2] S D S r :=
  ev_met (ini := false) (plainFor_of_name (by decide)) (fun h => by cases h) rfl (Nat.le_of_ble_eq_true rfl) (fun F hR => tX5_strike (S := ev_z S) hR hT ⟨Nat.le_refl 0, Nat.le_refl 0⟩ hl0 hf)
