set_option maxHeartbeats 4000000 in
set_option maxRecDepth 100000 in
theorem tX12_canAsk {S : ev_S} {fu : Nat} {r : Int32 × ev_D} {F : ev_Fr} (hR : ev_R RX12 cX12_canAsk 2 1 0 0 false (some .boolean) S r F) (hT : ev_Ty S) (hC : sC S ≤ 0 ∧ sA S ≤ 0) {l0 : Nat} {l1 : Int32} {D : ev_D} (hl0 : sK S l0 = 15) (hf : fX12_canAsk (sL S) (sE S) fu l0 l1 D = some r) : F S D 0 [some (.ref l0), some (.int l1)] [] := by
  have hX := hR.X
  unfold fX12_canAsk at hf
  refine ev_blk hX lkok_RX12 [(.aload_n 0, 1, 0, 0, 0), (.iload_n 1, 1, 0, 0, 0), (.bipush 7, 2, 0, 0, 7), (.bipush 17, 2, 0, 0, 17)] (by decide +kernel) (g := true) (lv' := [some (.ref l0), some (.int l1)]) (st' := [.int (17 : Int32), .int (7 : Int32), .int l1, .ref l0]) (D' := D) (pc' := 6) rfl (rfl) rfl ?_
  obtain ⟨v1, D1, hc1, hf⟩ := ev_bd_s hf
  refine ev_callV hX YX12_isIn ml_RX12_150 (mX12_isIn hT hl0 hc1) (vs := [.int l1, .int (7 : Int32), .int (17 : Int32)]) (st := []) (by decide) 12 hl0 rfl rfl rfl (by decide +kernel) hC ?_
  show F S D1 9 [some (.ref l0), some (.int l1)] [.int v1]
  obtain ⟨hz, hf⟩ := ev_gd_s hf
  exact ev_zret hR ev_sm.rf (ev_z01 hz) (Option.some.inj hf) hC (by decide +kernel)
theorem mX12_canAsk {S : ev_S} {fu : Nat} {r : Int32 × ev_D} (hT : ev_Ty S) {l0 : Nat} {l1 : Int32} {D : ev_D} (hl0 : sK S l0 = 15) (hf : fX12_canAsk (sL S) (sE S) fu l0 l1 D = some r) : ev_M 1 0 0 yX12_canAsk cX12_canAsk 2 (some .boolean) [.ref l0, .int l1] S D S r :=
  ev_met (ini := false) (plainFor_of_name (by decide)) (fun h => by cases h) rfl (Nat.le_of_ble_eq_true rfl) (fun F hR => tX12_canAsk (S := ev_z S) hR hT ⟨Nat.le_refl 0, Nat.le_refl 0⟩ hl0 hf)
set_option maxHeartbeats 4000000 in
set_option maxRecDepth 100000 in
theorem tX12_readUnit_71 {S : ev_S} {fu : Nat} {r : Int32 × ev_D} {F : ev_Fr} (hR : ev_R RX12 cX12_readUnit 2 3 0 0 false (some .int) S r F) (hT : ev_Ty S) (hC : sC S ≤ 0 ∧ sA S ≤ 0) {l0 : Nat} {s0 : Nat} {s1 : Int32} {s2 : Int32} {D : ev_D} (hl0 : sK S l0 = 15) (hs0 : sK S s0 = 15) (hf : fX12_readUnit_71 (sL S) (sE S) fu l0 s0 s1 s2 D = some r) : F S D 71 [some (.ref l0), none] [.int s2, .int s1, .ref s0] := by
  have hX := hR.X
  unfold fX12_readUnit_71 at hf
  obtain ⟨v1, D1, hc1, hf⟩ := ev_bd_s hf
  refine ev_callV hX YX12_emits ml_RX12_211 (mX12_emits hT hs0 hc1) (vs := [.int s1, .int s2]) (st := []) (by decide) 12 hs0 rfl rfl rfl (by decide +kernel) hC ?_
  show F S D1 74 [some (.ref l0), none] []
  refine ev_blk hX lkok_RX12 [(.aload_n 0, 1, 0, 0, 0)] (by decide +kernel) (g := true) (lv' := [some (.ref l0), none]) (st' := [.ref l0]) (D' := D1) (pc' := 75) rfl (rfl) rfl ?_
  obtain ⟨v2, D2, hc2, hf⟩ := ev_bd_s hf
  refine ev_callV hX YX12_reads ml_RX12_215 (mX12_reads hT hl0 hc2) (vs := []) (st := []) (by decide) 12 hl0 rfl rfl rfl (by decide +kernel) hC ?_
  show F S D2 78 [some (.ref l0), none] []
  refine ev_blk hX lkok_RX12 [(.iconst 0, 1, 0, 0, 0)] (by decide +kernel) (g := true) (lv' := [some (.ref l0), none]) (st' := [.int (0 : Int32)]) (D' := D2) (pc' := 79) rfl (rfl) rfl ?_
  exact ev_iret hR ev_sm.rf (Option.some.inj hf) hC (by decide +kernel)
set_option maxHeartbeats 4000000 in
set_option maxRecDepth 100000 in
theorem tX12_readUnit_53 {S : ev_S} {fu : Nat} {r : Int32 × ev_D} {F : ev_Fr} (hR : ev_R RX12 cX12_readUnit 2 3 0 0 false (some .int) S r F) (hT : ev_Ty S) (hC : sC S ≤ 0 ∧ sA S ≤ 0) {l0 : Nat} {l1 : Int32} {s0 : Nat} {s1 : Int32} {D : ev_D} (hl0 : sK S l0 = 15) (hs0 : sK S s0 = 15) (hf : fX12_readUnit_53 (sL S) (sE S) fu l0 l1 s0 s1 D = some r) : F S D 53 [some (.ref l0), some (.int l1)] [.int s1, .ref s0] := by
  have hX := hR.X
  unfold fX12_readUnit_53 at hf
  refine ev_blk hX lkok_RX12 [(.iload_n 1, 1, 0, 0, 0)] (by decide +kernel) (g := true) (lv' := [some (.ref l0), some (.int l1)]) (st' := [.int l1, .int s1, .ref s0]) (D' := D) (pc' := 54) rfl (rfl) rfl ?_
  refine ev_if_eq hX (off := 13) 67 (by decide +kernel) (by decide) (fun h3 => ?_) (fun h3 => ?_)
  · have hf := ev_it h3 hf
    refine ev_blk hX lkok_RX12 [(.aload_n 0, 1, 0, 0, 0), (.getfield 180, 3, 12, 17, 0)] (by decide +kernel) (g := (sK S l0 == 15) && (true)) (lv' := [some (.ref l0), some (.int l1)]) (st' := [.int (D l0 17), .int s1, .ref s0]) (D' := D) (pc' := 71) rfl (ev_gk hl0 (rfl)) rfl ?_
    exact ev_weak hX (ev_le_eq (ev_le_no ev_le_nil)) (tX12_readUnit_71 hR hT hC   hl0 hs0 hf)
  · have hf := ev_nf h3 hf
    refine ev_blk hX lkok_RX12 [(.aload_n 0, 1, 0, 0, 0), (.getfield 180, 3, 12, 17, 0), (.bipush 7, 2, 0, 0, 7), (.isub, 1, 0, 0, 0)] (by decide +kernel) (g := (sK S l0 == 15) && (true)) (lv' := [some (.ref l0), some (.int l1)]) (st' := [.int ((D l0 17) - (7 : Int32)), .int s1, .ref s0]) (D' := D) (pc' := 64) rfl (ev_gk hl0 (rfl)) rfl ?_
    refine ev_goto hX (off := 7) 71 (by decide +kernel) (by decide) ?_
    exact ev_weak hX (ev_le_eq (ev_le_no ev_le_nil)) (tX12_readUnit_71 hR hT hC   hl0 hs0 hf)
set_option maxHeartbeats 4000000 in
set_option maxRecDepth 100000 in
theorem tX12_readUnit_43 {S : ev_S} {fu : Nat} {r : Int32 × ev_D} {F : ev_Fr} (hR : ev_R RX12 cX12_readUnit 2 3 0 0 false (some .int) S r F) (hT : ev_Ty S) (hC : sC S ≤ 0 ∧ sA S ≤ 0) {l0 : Nat} {l1 : Int32} {D : ev_D} (hl0 : sK S l0 = 15) (hf : fX12_readUnit_43 (sL S) (sE S) fu l0 l1 D = some r) : F S D 43 [some (.ref l0), some (.int l1)] [] := by
  have hX := hR.X
  unfold fX12_readUnit_43 at hf
  refine ev_blk hX lkok_RX12 [(.aload_n 0, 1, 0, 0, 0), (.iload_n 1, 1, 0, 0, 0)] (by decide +kernel) (g := true) (lv' := [some (.ref l0), some (.int l1)]) (st' := [.int l1, .ref l0]) (D' := D) (pc' := 45) rfl (rfl) rfl ?_
  refine ev_if_eq hX (off := 7) 52 (by decide +kernel) (by decide) (fun h4 => ?_) (fun h4 => ?_)
  · have hf := ev_it h4 hf
    refine ev_blk hX lkok_RX12 [(.iconst 0, 1, 0, 0, 0)] (by decide +kernel) (g := true) (lv' := [some (.ref l0), some (.int l1)]) (st' := [.int (0 : Int32), .ref l0]) (D' := D) (pc' := 53) rfl (rfl) rfl ?_
    exact ev_weak hX (ev_le_eq (ev_le_eq ev_le_nil)) (tX12_readUnit_53 hR hT hC   hl0 hl0 hf)
  · have hf := ev_nf h4 hf
    refine ev_blk hX lkok_RX12 [(.iconst 1, 1, 0, 0, 1)] (by decide +kernel) (g := true) (lv' := [some (.ref l0), some (.int l1)]) (st' := [.int (1 : Int32), .ref l0]) (D' := D) (pc' := 49) rfl (rfl) rfl ?_
    refine ev_goto hX (off := 4) 53 (by decide +kernel) (by decide) ?_
    exact ev_weak hX (ev_le_eq (ev_le_eq ev_le_nil)) (tX12_readUnit_53 hR hT hC   hl0 hl0 hf)
set_option maxHeartbeats 4000000 in
set_option maxRecDepth 100000 in
theorem tX12_readUnit_24 {S : ev_S} {fu : Nat} {r : Int32 × ev_D} {F : ev_Fr} (hR : ev_R RX12 cX12_readUnit 2 3 0 0 false (some .int) S r F) (hT : ev_Ty S) (hC : sC S ≤ 0 ∧ sA S ≤ 0) {l0 : Nat} {s0 : Int32} {D : ev_D} (hl0 : sK S l0 = 15) (hf : fX12_readUnit_24 (sL S) (sE S) fu l0 s0 D = some r) : F S D 24 [some (.ref l0), none] [.int s0] := by
  have hX := hR.X
  unfold fX12_readUnit_24 at hf
  refine ev_blk hX lkok_RX12 [(.istore_n 1, 1, 0, 0, 0), (.iload_n 1, 1, 0, 0, 0)] (by decide +kernel) (g := true) (lv' := [some (.ref l0), some (.int s0)]) (st' := [.int s0]) (D' := D) (pc' := 26) rfl (rfl) rfl ?_
  refine ev_if_ne hX (off := 17) 43 (by decide +kernel) (by decide) (fun h5 => ?_) (fun h5 => ?_)
  · have hf := ev_nf h5 hf
    exact ev_weak hX (ev_le_eq (ev_le_eq ev_le_nil)) (tX12_readUnit_43 hR hT hC   hl0 hf)
  · have hf := ev_it h5 hf
    refine ev_blk hX lkok_RX12 [(.aload_n 0, 1, 0, 0, 0), (.getfield 177, 3, 12, 16, 0), (.iconst 3, 1, 0, 0, 3)] (by decide +kernel) (g := (sK S l0 == 15) && (true)) (lv' := [some (.ref l0), some (.int s0)]) (st' := [.int (3 : Int32), .int (D l0 16)]) (D' := D) (pc' := 34) rfl (ev_gk hl0 (rfl)) rfl ?_
    refine ev_ic_eq hX (off := 9) 43 (by decide +kernel) (by decide) (fun h6 => ?_) (fun h6 => ?_)
    · have hf := ev_it h6 hf
      exact ev_weak hX (ev_le_eq (ev_le_eq ev_le_nil)) (tX12_readUnit_43 hR hT hC   hl0 hf)
    · have hf := ev_nf h6 hf
      refine ev_blk hX lkok_RX12 [(.aload_n 0, 1, 0, 0, 0), (.iconst 1, 1, 0, 0, 1)] (by decide +kernel) (g := true) (lv' := [some (.ref l0), some (.int s0)]) (st' := [.int (1 : Int32), .ref l0]) (D' := D) (pc' := 39) rfl (rfl) rfl ?_
      obtain ⟨v7, D7, hc7, hf⟩ := ev_bd_s hf
      refine ev_callV hX YX12_errs ml_RX12_208 (mX12_errs hT hl0 hc7) (vs := [.int (1 : Int32)]) (st := []) (by decide) 12 hl0 rfl rfl rfl (by decide +kernel) hC ?_
      show F S D7 42 [some (.ref l0), some (.int s0)] [.int v7]
      exact ev_iret hR ev_sm.rf (Option.some.inj hf) hC (by decide +kernel)
set_option maxHeartbeats 4000000 in
set_option maxRecDepth 100000 in
theorem tX12_readUnit_23 {S : ev_S} {fu : Nat} {r : Int32 × ev_D} {F : ev_Fr} (hR : ev_R RX12 cX12_readUnit 2 3 0 0 false (some .int) S r F) (hT : ev_Ty S) (hC : sC S ≤ 0 ∧ sA S ≤ 0) {l0 : Nat} {D : ev_D} (hl0 : sK S l0 = 15) (hf : fX12_readUnit_23 (sL S) (sE S) fu l0 D = some r) : F S D 23 [some (.ref l0), none] [] := by
  have hX := hR.X
  unfold fX12_readUnit_23 at hf
  refine ev_blk hX lkok_RX12 [(.iconst 0, 1, 0, 0, 0)] (by decide +kernel) (g := true) (lv' := [some (.ref l0), none]) (st' := [.int (0 : Int32)]) (D' := D) (pc' := 24) rfl (rfl) rfl ?_
  exact ev_weak hX (ev_le_eq (ev_le_no ev_le_nil)) (tX12_readUnit_24 hR hT hC   hl0 hf)
set_option maxHeartbeats 4000000 in
set_option maxRecDepth 100000 in
theorem tX12_readUnit {S : ev_S} {fu : Nat} {r : Int32 × ev_D} {F : ev_Fr} (hR : ev_R RX12 cX12_readUnit 2 3 0 0 false (some .int) S r F) (hT : ev_Ty S) (hC : sC S ≤ 0 ∧ sA S ≤ 0) {l0 : Nat} {D : ev_D} (hl0 : sK S l0 = 15) (hf : fX12_readUnit (sL S) (sE S) fu l0 D = some r) : F S D 0 [some (.ref l0), none] [] := by
  have hX := hR.X
  unfold fX12_readUnit at hf
  refine ev_blk hX lkok_RX12 [(.aload_n 0, 1, 0, 0, 0), (.getfield 177, 3, 12, 16, 0), (.iconst 2, 1, 0, 0, 2)] (by decide +kernel) (g := (sK S l0 == 15) && (true)) (lv' := [some (.ref l0), none]) (st' := [.int (2 : Int32), .int (D l0 16)]) (D' := D) (pc' := 5) rfl (ev_gk hl0 (rfl)) rfl ?_
  refine ev_ic_ne hX (off := 18) 23 (by decide +kernel) (by decide) (fun h8 => ?_) (fun h8 => ?_)
  · have hf := ev_nf h8 hf
    exact ev_weak hX (ev_le_eq (ev_le_no ev_le_nil)) (tX12_readUnit_23 hR hT hC   hl0 hf)
  · have hf := ev_it h8 hf
    refine ev_blk hX lkok_RX12 [(.aload_n 0, 1, 0, 0, 0), (.aload_n 0, 1, 0, 0, 0), (.getfield 180, 3, 12, 17, 0)] (by decide +kernel) (g := (sK S l0 == 15) && (true)) (lv' := [some (.ref l0), none]) (st' := [.int (D l0 17), .ref l0]) (D' := D) (pc' := 13) rfl (ev_gk hl0 (rfl)) rfl ?_
    obtain ⟨v9, D9, hc9, hf⟩ := ev_bd_s hf
    refine ev_callV hX YX12_canAsk ml_RX12_205 (mX12_canAsk hT hl0 hc9) (vs := [.int (D l0 17)]) (st := []) (by decide) 12 hl0 rfl rfl rfl (by decide +kernel) hC ?_
    show F S D9 16 [some (.ref l0), none] [.int v9]
    refine ev_if_eq hX (off := 7) 23 (by decide +kernel) (by decide) (fun h10 => ?_) (fun h10 => ?_)
    · have hf := ev_it h10 hf
      exact ev_weak hX (ev_le_eq (ev_le_no ev_le_nil)) (tX12_readUnit_23 hR hT hC   hl0 hf)
    · have hf := ev_nf h10 hf
      refine ev_blk hX lkok_RX12 [(.iconst 1, 1, 0, 0, 1)] (by decide +kernel) (g := true) (lv' := [some (.ref l0), none]) (st' := [.int (1 : Int32)]) (D' := D9) (pc' := 20) rfl (rfl) rfl ?_
      refine ev_goto hX (off := 4) 24 (by decide +kernel) (by decide) ?_
      exact ev_weak hX (ev_le_eq (ev_le_no ev_le_nil)) (tX12_readUnit_24 hR hT hC   hl0 hf)
theorem mX12_readUnit {S : ev_S} {fu : Nat} {r : Int32 × ev_D} (hT : ev_Ty S) {l0 : Nat} {D : ev_D} (hl0 : sK S l0 = 15) (hf : fX12_readUnit (sL S) (sE S) fu l0 D = some r) : ev_M 3 0 0 yX12_readUnit cX12_readUnit 2 (some .int) [.ref l0] S D S r :=
  ev_met (ini := false) (plainFor_of_name (by decide)) (fun h => by cases h) rfl (Nat.le_of_ble_eq_true rfl) (fun F hR => tX12_readUnit (S := ev_z S) hR hT ⟨Nat.le_refl 0, Nat.le_refl 0⟩ hl0 hf)
set_option maxHeartbeats 4000000 in
set_option maxRecDepth 100000 in
theorem tX12_readProduct_94 {S : ev_S} {fu : Nat} {r : Int32 × ev_D} {F : ev_Fr} (hR : ev_R RX12 cX12_readProduct 2 4 0 0 false (some .int) S r F) (hT : ev_Ty S) (hC : sC S ≤ 0 ∧ sA S ≤ 0) {k10 : Nat → ev_D → ev_Op} (hk10 : ∀ (l0 : Nat) (D : ev_D), sK S l0 = 15 → k10 l0 D = some r → F S D 10 [some (.ref l0), none] []) {l0 : Nat} {s0 : Nat} {s1 : Int32} {D : ev_D} (hl0 : sK S l0 = 15) (hs0 : sK S s0 = 15) (hf : fX12_readProduct_94 (sL S) (sE S) fu k10 l0 s0 s1 D = some r) : F S D 94 [some (.ref l0), none] [.int s1, .ref s0] := by
  have hX := hR.X
  unfold fX12_readProduct_94 at hf
  refine ev_blk hX lkok_RX12 [(.iconst 0, 1, 0, 0, 0)] (by decide +kernel) (g := true) (lv' := [some (.ref l0), none]) (st' := [.int (0 : Int32), .int s1, .ref s0]) (D' := D) (pc' := 95) rfl (rfl) rfl ?_
  obtain ⟨v1, D1, hc1, hf⟩ := ev_bd_s hf
  refine ev_callV hX YX12_emits ml_RX12_211 (mX12_emits hT hs0 hc1) (vs := [.int s1, .int (0 : Int32)]) (st := []) (by decide) 12 hs0 rfl rfl rfl (by decide +kernel) hC ?_
  show F S D1 98 [some (.ref l0), none] []
  refine ev_goto hX (off := (-88)) 10 (by decide +kernel) (by decide) ?_
  exact ev_weak hX (ev_le_eq (ev_le_no ev_le_nil)) (hk10 _ _ hl0 hf)
set_option maxHeartbeats 4000000 in
set_option maxRecDepth 100000 in
theorem tX12_readProduct_74 {S : ev_S} {fu : Nat} {r : Int32 × ev_D} {F : ev_Fr} (hR : ev_R RX12 cX12_readProduct 2 4 0 0 false (some .int) S r F) (hT : ev_Ty S) (hC : sC S ≤ 0 ∧ sA S ≤ 0) {k10 : Nat → ev_D → ev_Op} (hk10 : ∀ (l0 : Nat) (D : ev_D), sK S l0 = 15 → k10 l0 D = some r → F S D 10 [some (.ref l0), none] []) {l0 : Nat} {l1 : Int32} {D : ev_D} (hl0 : sK S l0 = 15) (hf : fX12_readProduct_74 (sL S) (sE S) fu k10 l0 l1 D = some r) : F S D 74 [some (.ref l0), some (.int l1)] [] := by
  have hX := hR.X
  unfold fX12_readProduct_74 at hf
  refine ev_blk hX lkok_RX12 [(.aload_n 0, 1, 0, 0, 0)] (by decide +kernel) (g := true) (lv' := [some (.ref l0), some (.int l1)]) (st' := [.ref l0]) (D' := D) (pc' := 75) rfl (rfl) rfl ?_
  obtain ⟨v2, D2, hc2, hf⟩ := ev_bd_s hf
  refine ev_callV hX YX12_readUnit ml_RX12_218 (mX12_readUnit hT hl0 hc2) (vs := []) (st := []) (by decide) 12 hl0 rfl rfl rfl (by decide +kernel) hC ?_
  show F S D2 78 [some (.ref l0), some (.int l1)] [.int v2]
  refine ev_blk hX lkok_RX12 [(.iconst (-1), 1, 0, 0, (-1))] (by decide +kernel) (g := true) (lv' := [some (.ref l0), some (.int l1)]) (st' := [.int (-1 : Int32), .int v2]) (D' := D2) (pc' := 79) rfl (rfl) rfl ?_
  refine ev_ic_ne hX (off := 5) 84 (by decide +kernel) (by decide) (fun h3 => ?_) (fun h3 => ?_)
  · have hf := ev_nf h3 hf
    refine ev_blk hX lkok_RX12 [(.aload_n 0, 1, 0, 0, 0), (.iload_n 1, 1, 0, 0, 0)] (by decide +kernel) (g := true) (lv' := [some (.ref l0), some (.int l1)]) (st' := [.int l1, .ref l0]) (D' := D2) (pc' := 86) rfl (rfl) rfl ?_
    refine ev_if_eq hX (off := 7) 93 (by decide +kernel) (by decide) (fun h4 => ?_) (fun h4 => ?_)
    · have hf := ev_it h4 hf
      refine ev_blk hX lkok_RX12 [(.iconst 5, 1, 0, 0, 5)] (by decide +kernel) (g := true) (lv' := [some (.ref l0), some (.int l1)]) (st' := [.int (5 : Int32), .ref l0]) (D' := D2) (pc' := 94) rfl (rfl) rfl ?_
      exact ev_weak hX (ev_le_eq (ev_le_no ev_le_nil)) (tX12_readProduct_94 hR hT hC  hk10 hl0 hl0 hf)
    · have hf := ev_nf h4 hf
      refine ev_blk hX lkok_RX12 [(.iconst 4, 1, 0, 0, 4)] (by decide +kernel) (g := true) (lv' := [some (.ref l0), some (.int l1)]) (st' := [.int (4 : Int32), .ref l0]) (D' := D2) (pc' := 90) rfl (rfl) rfl ?_
      refine ev_goto hX (off := 4) 94 (by decide +kernel) (by decide) ?_
      exact ev_weak hX (ev_le_eq (ev_le_no ev_le_nil)) (tX12_readProduct_94 hR hT hC  hk10 hl0 hl0 hf)
  · have hf := ev_it h3 hf
    refine ev_blk hX lkok_RX12 [(.iconst (-1), 1, 0, 0, (-1))] (by decide +kernel) (g := true) (lv' := [some (.ref l0), some (.int l1)]) (st' := [.int (-1 : Int32)]) (D' := D2) (pc' := 83) rfl (rfl) rfl ?_
    exact ev_iret hR ev_sm.rf (Option.some.inj hf) hC (by decide +kernel)
set_option maxHeartbeats 4000000 in
set_option maxRecDepth 100000 in
theorem tX12_readProduct_57 {S : ev_S} {fu : Nat} {r : Int32 × ev_D} {F : ev_Fr} (hR : ev_R RX12 cX12_readProduct 2 4 0 0 false (some .int) S r F) (hT : ev_Ty S) (hC : sC S ≤ 0 ∧ sA S ≤ 0) {k10 : Nat → ev_D → ev_Op} (hk10 : ∀ (l0 : Nat) (D : ev_D), sK S l0 = 15 → k10 l0 D = some r → F S D 10 [some (.ref l0), none] []) {l0 : Nat} {l1 : Int32} {D : ev_D} (hl0 : sK S l0 = 15) (hf : fX12_readProduct_57 (sL S) (sE S) fu k10 l0 l1 D = some r) : F S D 57 [some (.ref l0), some (.int l1)] [] := by
  have hX := hR.X
  unfold fX12_readProduct_57 at hf
  refine ev_blk hX lkok_RX12 [(.iload_n 1, 1, 0, 0, 0)] (by decide +kernel) (g := true) (lv' := [some (.ref l0), some (.int l1)]) (st' := [.int l1]) (D' := D) (pc' := 58) rfl (rfl) rfl ?_
  refine ev_if_ne hX (off := 16) 74 (by decide +kernel) (by decide) (fun h5 => ?_) (fun h5 => ?_)
  · have hf := ev_nf h5 hf
    exact ev_weak hX (ev_le_eq (ev_le_eq ev_le_nil)) (tX12_readProduct_74 hR hT hC  hk10 hl0 hf)
  · have hf := ev_it h5 hf
    refine ev_blk hX lkok_RX12 [(.aload_n 0, 1, 0, 0, 0), (.getfield 180, 3, 12, 17, 0)] (by decide +kernel) (g := (sK S l0 == 15) && (true)) (lv' := [some (.ref l0), some (.int l1)]) (st' := [.int (D l0 17)]) (D' := D) (pc' := 65) rfl (ev_gk hl0 (rfl)) rfl ?_
    refine ev_if_ne hX (off := 9) 74 (by decide +kernel) (by decide) (fun h6 => ?_) (fun h6 => ?_)
    · have hf := ev_nf h6 hf
      exact ev_weak hX (ev_le_eq (ev_le_eq ev_le_nil)) (tX12_readProduct_74 hR hT hC  hk10 hl0 hf)
    · have hf := ev_it h6 hf
      refine ev_blk hX lkok_RX12 [(.aload_n 0, 1, 0, 0, 0), (.iconst 2, 1, 0, 0, 2)] (by decide +kernel) (g := true) (lv' := [some (.ref l0), some (.int l1)]) (st' := [.int (2 : Int32), .ref l0]) (D' := D) (pc' := 70) rfl (rfl) rfl ?_
      obtain ⟨v7, D7, hc7, hf⟩ := ev_bd_s hf
      refine ev_callV hX YX12_errs ml_RX12_208 (mX12_errs hT hl0 hc7) (vs := [.int (2 : Int32)]) (st := []) (by decide) 12 hl0 rfl rfl rfl (by decide +kernel) hC ?_
      show F S D7 73 [some (.ref l0), some (.int l1)] [.int v7]
      exact ev_iret hR ev_sm.rf (Option.some.inj hf) hC (by decide +kernel)
set_option maxHeartbeats 4000000 in
set_option maxRecDepth 100000 in
theorem tX12_readProduct_28 {S : ev_S} {fu : Nat} {r : Int32 × ev_D} {F : ev_Fr} (hR : ev_R RX12 cX12_readProduct 2 4 0 0 false (some .int) S r F) (hT : ev_Ty S) (hC : sC S ≤ 0 ∧ sA S ≤ 0) {k10 : Nat → ev_D → ev_Op} (hk10 : ∀ (l0 : Nat) (D : ev_D), sK S l0 = 15 → k10 l0 D = some r → F S D 10 [some (.ref l0), none] []) {l0 : Nat} {D : ev_D} (hl0 : sK S l0 = 15) (hf : fX12_readProduct_28 (sL S) (sE S) fu k10 l0 D = some r) : F S D 28 [some (.ref l0), none] [] := by
  have hX := hR.X
  unfold fX12_readProduct_28 at hf
  refine ev_blk hX lkok_RX12 [(.aload_n 0, 1, 0, 0, 0), (.bipush 42, 2, 0, 0, 42)] (by decide +kernel) (g := true) (lv' := [some (.ref l0), none]) (st' := [.int (42 : Int32), .ref l0]) (D' := D) (pc' := 31) rfl (rfl) rfl ?_
  obtain ⟨v8, D8, hc8, hf⟩ := ev_bd_s hf
  refine ev_callV hX YX12_isSign ml_RX12_222 (mX12_isSign hT hl0 hc8) (vs := [.int (42 : Int32)]) (st := []) (by decide) 12 hl0 rfl rfl rfl (by decide +kernel) hC ?_
  show F S D8 34 [some (.ref l0), none] [.int v8]
  refine ev_blk hX lkok_RX12 [(.istore_n 1, 1, 0, 0, 0), (.aload_n 0, 1, 0, 0, 0)] (by decide +kernel) (g := true) (lv' := [some (.ref l0), some (.int v8)]) (st' := [.ref l0]) (D' := D8) (pc' := 36) rfl (rfl) rfl ?_
  obtain ⟨v9, D9, hc9, hf⟩ := ev_bd_s hf
  refine ev_callV hX YX12_reads ml_RX12_215 (mX12_reads hT hl0 hc9) (vs := []) (st := []) (by decide) 12 hl0 rfl rfl rfl (by decide +kernel) hC ?_
  show F S D9 39 [some (.ref l0), some (.int v8)] []
  refine ev_blk hX lkok_RX12 [(.iload_n 1, 1, 0, 0, 0)] (by decide +kernel) (g := true) (lv' := [some (.ref l0), some (.int v8)]) (st' := [.int v8]) (D' := D9) (pc' := 40) rfl (rfl) rfl ?_
  refine ev_if_ne hX (off := 17) 57 (by decide +kernel) (by decide) (fun h10 => ?_) (fun h10 => ?_)
  · have hf := ev_nf h10 hf
    exact ev_weak hX (ev_le_eq (ev_le_eq ev_le_nil)) (tX12_readProduct_57 hR hT hC  hk10 hl0 hf)
  · have hf := ev_it h10 hf
    refine ev_blk hX lkok_RX12 [(.aload_n 0, 1, 0, 0, 0), (.getfield 177, 3, 12, 16, 0), (.iconst 3, 1, 0, 0, 3)] (by decide +kernel) (g := (sK S l0 == 15) && (true)) (lv' := [some (.ref l0), some (.int v8)]) (st' := [.int (3 : Int32), .int (D9 l0 16)]) (D' := D9) (pc' := 48) rfl (ev_gk hl0 (rfl)) rfl ?_
    refine ev_ic_eq hX (off := 9) 57 (by decide +kernel) (by decide) (fun h11 => ?_) (fun h11 => ?_)
    · have hf := ev_it h11 hf
      exact ev_weak hX (ev_le_eq (ev_le_eq ev_le_nil)) (tX12_readProduct_57 hR hT hC  hk10 hl0 hf)
    · have hf := ev_nf h11 hf
      refine ev_blk hX lkok_RX12 [(.aload_n 0, 1, 0, 0, 0), (.iconst 1, 1, 0, 0, 1)] (by decide +kernel) (g := true) (lv' := [some (.ref l0), some (.int v8)]) (st' := [.int (1 : Int32), .ref l0]) (D' := D9) (pc' := 53) rfl (rfl) rfl ?_
      obtain ⟨v12, D12, hc12, hf⟩ := ev_bd_s hf
      refine ev_callV hX YX12_errs ml_RX12_208 (mX12_errs hT hl0 hc12) (vs := [.int (1 : Int32)]) (st := []) (by decide) 12 hl0 rfl rfl rfl (by decide +kernel) hC ?_
      show F S D12 56 [some (.ref l0), some (.int v8)] [.int v12]
      exact ev_iret hR ev_sm.rf (Option.some.inj hf) hC (by decide +kernel)
set_option maxHeartbeats 4000000 in
set_option maxRecDepth 100000 in
theorem tX12_readProduct_10 {S : ev_S} {fu : Nat} {r : Int32 × ev_D} {F : ev_Fr} (hR : ev_R RX12 cX12_readProduct 2 4 0 0 false (some .int) S r F) (hT : ev_Ty S) (hC : sC S ≤ 0 ∧ sA S ≤ 0) : ∀ (n : Nat) (l0 : Nat) (D : ev_D), sK S l0 = 15 → fX12_readProduct_10 (sL S) (sE S) fu n l0 D = some r → F S D 10 [some (.ref l0), none] [] := by
  have hX := hR.X
  intro n
  induction n with
  | zero =>
    intro l0 D hl0 hf
    rw [fX12_readProduct_10] at hf
    cases hf
  | succ n ih =>
    intro l0 D hl0 hf
    rw [fX12_readProduct_10] at hf
    refine ev_blk hX lkok_RX12 [(.aload_n 0, 1, 0, 0, 0), (.bipush 42, 2, 0, 0, 42)] (by decide +kernel) (g := true) (lv' := [some (.ref l0), none]) (st' := [.int (42 : Int32), .ref l0]) (D' := D) (pc' := 13) rfl (rfl) rfl ?_
    obtain ⟨v13, D13, hc13, hf⟩ := ev_bd_s hf
    refine ev_callV hX YX12_isSign ml_RX12_222 (mX12_isSign hT hl0 hc13) (vs := [.int (42 : Int32)]) (st := []) (by decide) 12 hl0 rfl rfl rfl (by decide +kernel) hC ?_
    show F S D13 16 [some (.ref l0), none] [.int v13]
    refine ev_if_ne hX (off := 12) 28 (by decide +kernel) (by decide) (fun h14 => ?_) (fun h14 => ?_)
    · have hf := ev_nf h14 hf
      exact ev_weak hX (ev_le_eq (ev_le_no ev_le_nil)) (tX12_readProduct_28 hR hT hC  ih hl0 hf)
    · have hf := ev_it h14 hf
      refine ev_blk hX lkok_RX12 [(.aload_n 0, 1, 0, 0, 0), (.bipush 47, 2, 0, 0, 47)] (by decide +kernel) (g := true) (lv' := [some (.ref l0), none]) (st' := [.int (47 : Int32), .ref l0]) (D' := D13) (pc' := 22) rfl (rfl) rfl ?_
      obtain ⟨v15, D15, hc15, hf⟩ := ev_bd_s hf
      refine ev_callV hX YX12_isSign ml_RX12_222 (mX12_isSign hT hl0 hc15) (vs := [.int (47 : Int32)]) (st := []) (by decide) 12 hl0 rfl rfl rfl (by decide +kernel) hC ?_
      show F S D15 25 [some (.ref l0), none] [.int v15]
      refine ev_if_eq hX (off := 76) 101 (by decide +kernel) (by decide) (fun h16 => ?_) (fun h16 => ?_)
      · have hf := ev_it h16 hf
        refine ev_blk hX lkok_RX12 [(.iconst 0, 1, 0, 0, 0)] (by decide +kernel) (g := true) (lv' := [some (.ref l0), none]) (st' := [.int (0 : Int32)]) (D' := D15) (pc' := 102) rfl (rfl) rfl ?_
        exact ev_iret hR ev_sm.rf (Option.some.inj hf) hC (by decide +kernel)
      · have hf := ev_nf h16 hf
        exact ev_weak hX (ev_le_eq (ev_le_no ev_le_nil)) (tX12_readProduct_28 hR hT hC  ih hl0 hf)
set_option maxHeartbeats 4000000 in
set_option maxRecDepth 100000 in
theorem tX12_readProduct {S : ev_S} {fu : Nat} {r : Int32 × ev_D} {F : ev_Fr} (hR : ev_R RX12 cX12_readProduct 2 4 0 0 false (some .int) S r F) (hT : ev_Ty S) (hC : sC S ≤ 0 ∧ sA S ≤ 0) {l0 : Nat} {D : ev_D} (hl0 : sK S l0 = 15) (hf : fX12_readProduct (sL S) (sE S) fu l0 D = some r) : F S D 0 [some (.ref l0), none] [] := by
  have hX := hR.X
  unfold fX12_readProduct at hf
  refine ev_blk hX lkok_RX12 [(.aload_n 0, 1, 0, 0, 0)] (by decide +kernel) (g := true) (lv' := [some (.ref l0), none]) (st' := [.ref l0]) (D' := D) (pc' := 1) rfl (rfl) rfl ?_
  obtain ⟨v17, D17, hc17, hf⟩ := ev_bd_s hf
  refine ev_callV hX YX12_readUnit ml_RX12_218 (mX12_readUnit hT hl0 hc17) (vs := []) (st := []) (by decide) 12 hl0 rfl rfl rfl (by decide +kernel) hC ?_
  show F S D17 4 [some (.ref l0), none] [.int v17]
  refine ev_blk hX lkok_RX12 [(.iconst (-1), 1, 0, 0, (-1))] (by decide +kernel) (g := true) (lv' := [some (.ref l0), none]) (st' := [.int (-1 : Int32), .int v17]) (D' := D17) (pc' := 5) rfl (rfl) rfl ?_
  refine ev_ic_ne hX (off := 5) 10 (by decide +kernel) (by decide) (fun h18 => ?_) (fun h18 => ?_)
  · have hf := ev_nf h18 hf
    exact ev_weak hX (ev_le_eq (ev_le_no ev_le_nil)) (tX12_readProduct_10 hR hT hC   fu _ _ hl0 hf)
  · have hf := ev_it h18 hf
    refine ev_blk hX lkok_RX12 [(.iconst (-1), 1, 0, 0, (-1))] (by decide +kernel) (g := true) (lv' := [some (.ref l0), none]) (st' := [.int (-1 : Int32)]) (D' := D17) (pc' := 9) rfl (rfl) rfl ?_
    exact ev_iret hR ev_sm.rf (Option.some.inj hf) hC (by decide +kernel)
theorem mX12_readProduct {S : ev_S} {fu : Nat} {r : Int32 × ev_D} (hT : ev_Ty S) {l0 : Nat} {D : ev_D} (hl0 : sK S l0 = 15) (hf : fX12_readProduct (sL S) (sE S) fu l0 D = some r) : ev_M 4 0 0 yX12_readProduct cX12_readProduct 2 (some .int) [.ref l0] S D S r :=
  ev_met (ini := false) (plainFor_of_name (by decide)) (fun h => by cases h) rfl (Nat.le_of_ble_eq_true rfl) (fun F hR => tX12_readProduct (S := ev_z S) hR hT ⟨Nat.le_refl 0, Nat.le_refl 0⟩ hl0 hf)
set_option maxHeartbeats 4000000 in
set_option maxRecDepth 100000 in
theorem tX12_readSum_42 {S : ev_S} {fu : Nat} {r : Int32 × ev_D} {F : ev_Fr} (hR : ev_R RX12 cX12_readSum 2 5 0 0 false (some .int) S r F) (hT : ev_Ty S) (hC : sC S ≤ 0 ∧ sA S ≤ 0) {k10 : Nat → ev_D → ev_Op} (hk10 : ∀ (l0 : Nat) (D : ev_D), sK S l0 = 15 → k10 l0 D = some r → F S D 10 [some (.ref l0), none] []) {l0 : Nat} {s0 : Int32} {D : ev_D} (hl0 : sK S l0 = 15) (hf : fX12_readSum_42 (sL S) (sE S) fu k10 l0 s0 D = some r) : F S D 42 [some (.ref l0), none] [.int s0] := by
  have hX := hR.X
  unfold fX12_readSum_42 at hf
  refine ev_blk hX lkok_RX12 [(.istore_n 1, 1, 0, 0, 0), (.aload_n 0, 1, 0, 0, 0)] (by decide +kernel) (g := true) (lv' := [some (.ref l0), some (.int s0)]) (st' := [.ref l0]) (D' := D) (pc' := 44) rfl (rfl) rfl ?_
  obtain ⟨v1, D1, hc1, hf⟩ := ev_bd_s hf
  refine ev_callV hX YX12_reads ml_RX12_215 (mX12_reads hT hl0 hc1) (vs := []) (st := []) (by decide) 12 hl0 rfl rfl rfl (by decide +kernel) hC ?_
  show F S D1 47 [some (.ref l0), some (.int s0)] []
  refine ev_blk hX lkok_RX12 [(.aload_n 0, 1, 0, 0, 0)] (by decide +kernel) (g := true) (lv' := [some (.ref l0), some (.int s0)]) (st' := [.ref l0]) (D' := D1) (pc' := 48) rfl (rfl) rfl ?_
  obtain ⟨v2, D2, hc2, hf⟩ := ev_bd_s hf
  refine ev_callV hX YX12_readProduct ml_RX12_225 (mX12_readProduct hT hl0 hc2) (vs := []) (st := []) (by decide) 12 hl0 rfl rfl rfl (by decide +kernel) hC ?_
  show F S D2 51 [some (.ref l0), some (.int s0)] [.int v2]
  refine ev_blk hX lkok_RX12 [(.iconst (-1), 1, 0, 0, (-1))] (by decide +kernel) (g := true) (lv' := [some (.ref l0), some (.int s0)]) (st' := [.int (-1 : Int32), .int v2]) (D' := D2) (pc' := 52) rfl (rfl) rfl ?_
  refine ev_ic_ne hX (off := 5) 57 (by decide +kernel) (by decide) (fun h3 => ?_) (fun h3 => ?_)
  · have hf := ev_nf h3 hf
    refine ev_blk hX lkok_RX12 [(.aload_n 0, 1, 0, 0, 0), (.iload_n 1, 1, 0, 0, 0), (.iconst 0, 1, 0, 0, 0)] (by decide +kernel) (g := true) (lv' := [some (.ref l0), some (.int s0)]) (st' := [.int (0 : Int32), .int s0, .ref l0]) (D' := D2) (pc' := 60) rfl (rfl) rfl ?_
    obtain ⟨v4, D4, hc4, hf⟩ := ev_bd_s hf
    refine ev_callV hX YX12_emits ml_RX12_211 (mX12_emits hT hl0 hc4) (vs := [.int s0, .int (0 : Int32)]) (st := []) (by decide) 12 hl0 rfl rfl rfl (by decide +kernel) hC ?_
    show F S D4 63 [some (.ref l0), some (.int s0)] []
    refine ev_goto hX (off := (-53)) 10 (by decide +kernel) (by decide) ?_
    exact ev_weak hX (ev_le_eq (ev_le_no ev_le_nil)) (hk10 _ _ hl0 hf)
  · have hf := ev_it h3 hf
    refine ev_blk hX lkok_RX12 [(.iconst (-1), 1, 0, 0, (-1))] (by decide +kernel) (g := true) (lv' := [some (.ref l0), some (.int s0)]) (st' := [.int (-1 : Int32)]) (D' := D2) (pc' := 56) rfl (rfl) rfl ?_
    exact ev_iret hR ev_sm.rf (Option.some.inj hf) hC (by decide +kernel)
set_option maxHeartbeats 4000000 in
set_option maxRecDepth 100000 in
theorem tX12_readSum_28 {S : ev_S} {fu : Nat} {r : Int32 × ev_D} {F : ev_Fr} (hR : ev_R RX12 cX12_readSum 2 5 0 0 false (some .int) S r F) (hT : ev_Ty S) (hC : sC S ≤ 0 ∧ sA S ≤ 0) {k10 : Nat → ev_D → ev_Op} (hk10 : ∀ (l0 : Nat) (D : ev_D), sK S l0 = 15 → k10 l0 D = some r → F S D 10 [some (.ref l0), none] []) {l0 : Nat} {D : ev_D} (hl0 : sK S l0 = 15) (hf : fX12_readSum_28 (sL S) (sE S) fu k10 l0 D = some r) : F S D 28 [some (.ref l0), none] [] := by
  have hX := hR.X
  unfold fX12_readSum_28 at hf
  refine ev_blk hX lkok_RX12 [(.aload_n 0, 1, 0, 0, 0), (.getfield 180, 3, 12, 17, 0), (.bipush 43, 2, 0, 0, 43)] (by decide +kernel) (g := (sK S l0 == 15) && (true)) (lv' := [some (.ref l0), none]) (st' := [.int (43 : Int32), .int (D l0 17)]) (D' := D) (pc' := 34) rfl (ev_gk hl0 (rfl)) rfl ?_
  refine ev_ic_ne hX (off := 7) 41 (by decide +kernel) (by decide) (fun h5 => ?_) (fun h5 => ?_)
  · have hf := ev_nf h5 hf
    refine ev_blk hX lkok_RX12 [(.iconst 3, 1, 0, 0, 3)] (by decide +kernel) (g := true) (lv' := [some (.ref l0), none]) (st' := [.int (3 : Int32)]) (D' := D) (pc' := 42) rfl (rfl) rfl ?_
    exact ev_weak hX (ev_le_eq (ev_le_no ev_le_nil)) (tX12_readSum_42 hR hT hC  hk10 hl0 hf)
  · have hf := ev_it h5 hf
    refine ev_blk hX lkok_RX12 [(.iconst 2, 1, 0, 0, 2)] (by decide +kernel) (g := true) (lv' := [some (.ref l0), none]) (st' := [.int (2 : Int32)]) (D' := D) (pc' := 38) rfl (rfl) rfl ?_
    refine ev_goto hX (off := 4) 42 (by decide +kernel) (by decide) ?_
    exact ev_weak hX (ev_le_eq (ev_le_no ev_le_nil)) (tX12_readSum_42 hR hT hC  hk10 hl0 hf)
set_option maxHeartbeats 4000000 in
set_option maxRecDepth 100000 in
theorem tX12_readSum_10 {S : ev_S} {fu : Nat} {r : Int32 × ev_D} {F : ev_Fr} (hR : ev_R RX12 cX12_readSum 2 5 0 0 false (some .int) S r F) (hT : ev_Ty S) (hC : sC S ≤ 0 ∧ sA S ≤ 0) : ∀ (n : Nat) (l0 : Nat) (D : ev_D), sK S l0 = 15 → fX12_readSum_10 (sL S) (sE S) fu n l0 D = some r → F S D 10 [some (.ref l0), none] [] := by
  have hX := hR.X
  intro n
  induction n with
  | zero =>
    intro l0 D hl0 hf
    rw [fX12_readSum_10] at hf
    cases hf
  | succ n ih =>
    intro l0 D hl0 hf
    rw [fX12_readSum_10] at hf
    refine ev_blk hX lkok_RX12 [(.aload_n 0, 1, 0, 0, 0), (.bipush 43, 2, 0, 0, 43)] (by decide +kernel) (g := true) (lv' := [some (.ref l0), none]) (st' := [.int (43 : Int32), .ref l0]) (D' := D) (pc' := 13) rfl (rfl) rfl ?_
    obtain ⟨v6, D6, hc6, hf⟩ := ev_bd_s hf
    refine ev_callV hX YX12_isSign ml_RX12_222 (mX12_isSign hT hl0 hc6) (vs := [.int (43 : Int32)]) (st := []) (by decide) 12 hl0 rfl rfl rfl (by decide +kernel) hC ?_
    show F S D6 16 [some (.ref l0), none] [.int v6]
    refine ev_if_ne hX (off := 12) 28 (by decide +kernel) (by decide) (fun h7 => ?_) (fun h7 => ?_)
    · have hf := ev_nf h7 hf
      exact ev_weak hX (ev_le_eq (ev_le_no ev_le_nil)) (tX12_readSum_28 hR hT hC  ih hl0 hf)
    · have hf := ev_it h7 hf
      refine ev_blk hX lkok_RX12 [(.aload_n 0, 1, 0, 0, 0), (.bipush 45, 2, 0, 0, 45)] (by decide +kernel) (g := true) (lv' := [some (.ref l0), none]) (st' := [.int (45 : Int32), .ref l0]) (D' := D6) (pc' := 22) rfl (rfl) rfl ?_
      obtain ⟨v8, D8, hc8, hf⟩ := ev_bd_s hf
      refine ev_callV hX YX12_isSign ml_RX12_222 (mX12_isSign hT hl0 hc8) (vs := [.int (45 : Int32)]) (st := []) (by decide) 12 hl0 rfl rfl rfl (by decide +kernel) hC ?_
      show F S D8 25 [some (.ref l0), none] [.int v8]
      refine ev_if_eq hX (off := 41) 66 (by decide +kernel) (by decide) (fun h9 => ?_) (fun h9 => ?_)
      · have hf := ev_it h9 hf
        refine ev_blk hX lkok_RX12 [(.iconst 0, 1, 0, 0, 0)] (by decide +kernel) (g := true) (lv' := [some (.ref l0), none]) (st' := [.int (0 : Int32)]) (D' := D8) (pc' := 67) rfl (rfl) rfl ?_
        exact ev_iret hR ev_sm.rf (Option.some.inj hf) hC (by decide +kernel)
      · have hf := ev_nf h9 hf
        exact ev_weak hX (ev_le_eq (ev_le_no ev_le_nil)) (tX12_readSum_28 hR hT hC  ih hl0 hf)
set_option maxHeartbeats 4000000 in
set_option maxRecDepth 100000 in
theorem tX12_readSum {S : ev_S} {fu : Nat} {r : Int32 × ev_D} {F : ev_Fr} (hR : ev_R RX12 cX12_readSum 2 5 0 0 false (some .int) S r F) (hT : ev_Ty S) (hC : sC S ≤ 0 ∧ sA S ≤ 0) {l0 : Nat} {D : ev_D} (hl0 : sK S l0 = 15) (hf : fX12_readSum (sL S) (sE S) fu l0 D = some r) : F S D 0 [some (.ref l0), none] [] := by
  have hX := hR.X
  unfold fX12_readSum at hf
  refine ev_blk hX lkok_RX12 [(.aload_n 0, 1, 0, 0, 0)] (by decide +kernel) (g := true) (lv' := [some (.ref l0), none]) (st' := [.ref l0]) (D' := D) (pc' := 1) rfl (rfl) rfl ?_
  obtain ⟨v10, D10, hc10, hf⟩ := ev_bd_s hf
  refine ev_callV hX YX12_readProduct ml_RX12_225 (mX12_readProduct hT hl0 hc10) (vs := []) (st := []) (by decide) 12 hl0 rfl rfl rfl (by decide +kernel) hC ?_
  show F S D10 4 [some (.ref l0), none] [.int v10]
  refine ev_blk hX lkok_RX12 [(.iconst (-1), 1, 0, 0, (-1))] (by decide +kernel) (g := true) (lv' := [some (.ref l0), none]) (st' := [.int (-1 : Int32), .int v10]) (D' := D10) (pc' := 5) rfl (rfl) rfl ?_
  refine ev_ic_ne hX (off := 5) 10 (by decide +kernel) (by decide) (fun h11 => ?_) (fun h11 => ?_)
  · have hf := ev_nf h11 hf
    exact ev_weak hX (ev_le_eq (ev_le_no ev_le_nil)) (tX12_readSum_10 hR hT hC   fu _ _ hl0 hf)
  · have hf := ev_it h11 hf
    refine ev_blk hX lkok_RX12 [(.iconst (-1), 1, 0, 0, (-1))] (by decide +kernel) (g := true) (lv' := [some (.ref l0), none]) (st' := [.int (-1 : Int32)]) (D' := D10) (pc' := 9) rfl (rfl) rfl ?_
    exact ev_iret hR ev_sm.rf (Option.some.inj hf) hC (by decide +kernel)
theorem mX12_readSum {S : ev_S} {fu : Nat} {r : Int32 × ev_D} (hT : ev_Ty S) {l0 : Nat} {D : ev_D} (hl0 : sK S l0 = 15) (hf : fX12_readSum (sL S) (sE S) fu l0 D = some r) : ev_M 5 0 0 yX12_readSum cX12_readSum 2 (some .int) [.ref l0] S D S r :=
  ev_met (ini := false) (plainFor_of_name (by decide)) (fun h => by cases h) rfl (Nat.le_of_ble_eq_true rfl) (fun F hR => tX12_readSum (S := ev_z S) hR hT ⟨Nat.le_refl 0, Nat.le_refl 0⟩ hl0 hf)
set_option maxHeartbeats 4000000 in
set_option maxRecDepth 100000 in
theorem tX12_readCompared_73 {S : ev_S} {fu : Nat} {r : Int32 × ev_D} {F : ev_Fr} (hR : ev_R RX12 cX12_readCompared 2 6 0 0 false (some .int) S r F) (hT : ev_Ty S) (hC : sC S ≤ 0 ∧ sA S ≤ 0) {l0 : Nat} {s0 : Int32} {D : ev_D} (hl0 : sK S l0 = 15) (hf : fX12_readCompared_73 (sL S) (sE S) fu l0 s0 D = some r) : F S D 73 [some (.ref l0), none] [.int s0] := by
  have hX := hR.X
  unfold fX12_readCompared_73 at hf
  refine ev_blk hX lkok_RX12 [(.istore_n 1, 1, 0, 0, 0), (.aload_n 0, 1, 0, 0, 0)] (by decide +kernel) (g := true) (lv' := [some (.ref l0), some (.int s0)]) (st' := [.ref l0]) (D' := D) (pc' := 75) rfl (rfl) rfl ?_
  obtain ⟨v1, D1, hc1, hf⟩ := ev_bd_s hf
  refine ev_callV hX YX12_reads ml_RX12_215 (mX12_reads hT hl0 hc1) (vs := []) (st := []) (by decide) 12 hl0 rfl rfl rfl (by decide +kernel) hC ?_
  show F S D1 78 [some (.ref l0), some (.int s0)] []
  refine ev_blk hX lkok_RX12 [(.aload_n 0, 1, 0, 0, 0)] (by decide +kernel) (g := true) (lv' := [some (.ref l0), some (.int s0)]) (st' := [.ref l0]) (D' := D1) (pc' := 79) rfl (rfl) rfl ?_
  obtain ⟨v2, D2, hc2, hf⟩ := ev_bd_s hf
  refine ev_callV hX YX12_readSum ml_RX12_228 (mX12_readSum hT hl0 hc2) (vs := []) (st := []) (by decide) 12 hl0 rfl rfl rfl (by decide +kernel) hC ?_
  show F S D2 82 [some (.ref l0), some (.int s0)] [.int v2]
  refine ev_blk hX lkok_RX12 [(.iconst (-1), 1, 0, 0, (-1))] (by decide +kernel) (g := true) (lv' := [some (.ref l0), some (.int s0)]) (st' := [.int (-1 : Int32), .int v2]) (D' := D2) (pc' := 83) rfl (rfl) rfl ?_
  refine ev_ic_ne hX (off := 5) 88 (by decide +kernel) (by decide) (fun h3 => ?_) (fun h3 => ?_)
  · have hf := ev_nf h3 hf
    refine ev_blk hX lkok_RX12 [(.aload_n 0, 1, 0, 0, 0), (.iload_n 1, 1, 0, 0, 0), (.iconst 0, 1, 0, 0, 0)] (by decide +kernel) (g := true) (lv' := [some (.ref l0), some (.int s0)]) (st' := [.int (0 : Int32), .int s0, .ref l0]) (D' := D2) (pc' := 91) rfl (rfl) rfl ?_
    obtain ⟨v4, D4, hc4, hf⟩ := ev_bd_s hf
    refine ev_callV hX YX12_emits ml_RX12_211 (mX12_emits hT hl0 hc4) (vs := [.int s0, .int (0 : Int32)]) (st := []) (by decide) 12 hl0 rfl rfl rfl (by decide +kernel) hC ?_
    show F S D4 94 [some (.ref l0), some (.int s0)] []
    refine ev_blk hX lkok_RX12 [(.iconst 0, 1, 0, 0, 0)] (by decide +kernel) (g := true) (lv' := [some (.ref l0), some (.int s0)]) (st' := [.int (0 : Int32)]) (D' := D4) (pc' := 95) rfl (rfl) rfl ?_
    exact ev_iret hR ev_sm.rf (Option.some.inj hf) hC (by decide +kernel)
  · have hf := ev_it h3 hf
    refine ev_blk hX lkok_RX12 [(.iconst (-1), 1, 0, 0, (-1))] (by decide +kernel) (g := true) (lv' := [some (.ref l0), some (.int s0)]) (st' := [.int (-1 : Int32)]) (D' := D2) (pc' := 87) rfl (rfl) rfl ?_
    exact ev_iret hR ev_sm.rf (Option.some.inj hf) hC (by decide +kernel)
set_option maxHeartbeats 4000000 in
set_option maxRecDepth 100000 in
theorem tX12_readCompared_43 {S : ev_S} {fu : Nat} {r : Int32 × ev_D} {F : ev_Fr} (hR : ev_R RX12 cX12_readCompared 2 6 0 0 false (some .int) S r F) (hT : ev_Ty S) (hC : sC S ≤ 0 ∧ sA S ≤ 0) {l0 : Nat} {D : ev_D} (hl0 : sK S l0 = 15) (hf : fX12_readCompared_43 (sL S) (sE S) fu l0 D = some r) : F S D 43 [some (.ref l0), none] [] := by
  have hX := hR.X
  unfold fX12_readCompared_43 at hf
  refine ev_blk hX lkok_RX12 [(.aload_n 0, 1, 0, 0, 0), (.getfield 180, 3, 12, 17, 0), (.bipush 60, 2, 0, 0, 60)] (by decide +kernel) (g := (sK S l0 == 15) && (true)) (lv' := [some (.ref l0), none]) (st' := [.int (60 : Int32), .int (D l0 17)]) (D' := D) (pc' := 49) rfl (ev_gk hl0 (rfl)) rfl ?_
  refine ev_ic_ne hX (off := 8) 57 (by decide +kernel) (by decide) (fun h5 => ?_) (fun h5 => ?_)
  · have hf := ev_nf h5 hf
    refine ev_blk hX lkok_RX12 [(.aload_n 0, 1, 0, 0, 0), (.getfield 180, 3, 12, 17, 0), (.bipush 61, 2, 0, 0, 61)] (by decide +kernel) (g := (sK S l0 == 15) && (true)) (lv' := [some (.ref l0), none]) (st' := [.int (61 : Int32), .int (D l0 17)]) (D' := D) (pc' := 63) rfl (ev_gk hl0 (rfl)) rfl ?_
    refine ev_ic_ne hX (off := 8) 71 (by decide +kernel) (by decide) (fun h6 => ?_) (fun h6 => ?_)
    · have hf := ev_nf h6 hf
      refine ev_blk hX lkok_RX12 [(.bipush 8, 2, 0, 0, 8)] (by decide +kernel) (g := true) (lv' := [some (.ref l0), none]) (st' := [.int (8 : Int32)]) (D' := D) (pc' := 73) rfl (rfl) rfl ?_
      exact ev_weak hX (ev_le_eq (ev_le_no ev_le_nil)) (tX12_readCompared_73 hR hT hC   hl0 hf)
    · have hf := ev_it h6 hf
      refine ev_blk hX lkok_RX12 [(.bipush 7, 2, 0, 0, 7)] (by decide +kernel) (g := true) (lv' := [some (.ref l0), none]) (st' := [.int (7 : Int32)]) (D' := D) (pc' := 68) rfl (rfl) rfl ?_
      refine ev_goto hX (off := 5) 73 (by decide +kernel) (by decide) ?_
      exact ev_weak hX (ev_le_eq (ev_le_no ev_le_nil)) (tX12_readCompared_73 hR hT hC   hl0 hf)
  · have hf := ev_it h5 hf
    refine ev_blk hX lkok_RX12 [(.bipush 6, 2, 0, 0, 6)] (by decide +kernel) (g := true) (lv' := [some (.ref l0), none]) (st' := [.int (6 : Int32)]) (D' := D) (pc' := 54) rfl (rfl) rfl ?_
    refine ev_goto hX (off := 19) 73 (by decide +kernel) (by decide) ?_
    exact ev_weak hX (ev_le_eq (ev_le_no ev_le_nil)) (tX12_readCompared_73 hR hT hC   hl0 hf)
set_option maxHeartbeats 4000000 in
set_option maxRecDepth 100000 in
theorem tX12_readCompared {S : ev_S} {fu : Nat} {r : Int32 × ev_D} {F : ev_Fr} (hR : ev_R RX12 cX12_readCompared 2 6 0 0 false (some .int) S r F) (hT : ev_Ty S) (hC : sC S ≤ 0 ∧ sA S ≤ 0) {l0 : Nat} {D : ev_D} (hl0 : sK S l0 = 15) (hf : fX12_readCompared (sL S) (sE S) fu l0 D = some r) : F S D 0 [some (.ref l0), none] [] := by
  have hX := hR.X
  unfold fX12_readCompared at hf
  refine ev_blk hX lkok_RX12 [(.aload_n 0, 1, 0, 0, 0)] (by decide +kernel) (g := true) (lv' := [some (.ref l0), none]) (st' := [.ref l0]) (D' := D) (pc' := 1) rfl (rfl) rfl ?_
  obtain ⟨v7, D7, hc7, hf⟩ := ev_bd_s hf
  refine ev_callV hX YX12_readSum ml_RX12_228 (mX12_readSum hT hl0 hc7) (vs := []) (st := []) (by decide) 12 hl0 rfl rfl rfl (by decide +kernel) hC ?_
  show F S D7 4 [some (.ref l0), none] [.int v7]
  refine ev_blk hX lkok_RX12 [(.iconst (-1), 1, 0, 0, (-1))] (by decide +kernel) (g := true) (lv' := [some (.ref l0), none]) (st' := [.int (-1 : Int32), .int v7]) (D' := D7) (pc' := 5) rfl (rfl) rfl ?_
  refine ev_ic_ne hX (off := 5) 10 (by decide +kernel) (by decide) (fun h8 => ?_) (fun h8 => ?_)
  · have hf := ev_nf h8 hf
    refine ev_blk hX lkok_RX12 [(.aload_n 0, 1, 0, 0, 0), (.bipush 60, 2, 0, 0, 60)] (by decide +kernel) (g := true) (lv' := [some (.ref l0), none]) (st' := [.int (60 : Int32), .ref l0]) (D' := D7) (pc' := 13) rfl (rfl) rfl ?_
    obtain ⟨v9, D9, hc9, hf⟩ := ev_bd_s hf
    refine ev_callV hX YX12_isSign ml_RX12_222 (mX12_isSign hT hl0 hc9) (vs := [.int (60 : Int32)]) (st := []) (by decide) 12 hl0 rfl rfl rfl (by decide +kernel) hC ?_
    show F S D9 16 [some (.ref l0), none] [.int v9]
    refine ev_if_ne hX (off := 27) 43 (by decide +kernel) (by decide) (fun h10 => ?_) (fun h10 => ?_)
    · have hf := ev_nf h10 hf
      exact ev_weak hX (ev_le_eq (ev_le_no ev_le_nil)) (tX12_readCompared_43 hR hT hC   hl0 hf)
    · have hf := ev_it h10 hf
      refine ev_blk hX lkok_RX12 [(.aload_n 0, 1, 0, 0, 0), (.bipush 61, 2, 0, 0, 61)] (by decide +kernel) (g := true) (lv' := [some (.ref l0), none]) (st' := [.int (61 : Int32), .ref l0]) (D' := D9) (pc' := 22) rfl (rfl) rfl ?_
      obtain ⟨v11, D11, hc11, hf⟩ := ev_bd_s hf
      refine ev_callV hX YX12_isSign ml_RX12_222 (mX12_isSign hT hl0 hc11) (vs := [.int (61 : Int32)]) (st := []) (by decide) 12 hl0 rfl rfl rfl (by decide +kernel) hC ?_
      show F S D11 25 [some (.ref l0), none] [.int v11]
      refine ev_if_ne hX (off := 18) 43 (by decide +kernel) (by decide) (fun h12 => ?_) (fun h12 => ?_)
      · have hf := ev_nf h12 hf
        exact ev_weak hX (ev_le_eq (ev_le_no ev_le_nil)) (tX12_readCompared_43 hR hT hC   hl0 hf)
      · have hf := ev_it h12 hf
        refine ev_blk hX lkok_RX12 [(.aload_n 0, 1, 0, 0, 0), (.bipush 62, 2, 0, 0, 62)] (by decide +kernel) (g := true) (lv' := [some (.ref l0), none]) (st' := [.int (62 : Int32), .ref l0]) (D' := D11) (pc' := 31) rfl (rfl) rfl ?_
        obtain ⟨v13, D13, hc13, hf⟩ := ev_bd_s hf
        refine ev_callV hX YX12_isSign ml_RX12_222 (mX12_isSign hT hl0 hc13) (vs := [.int (62 : Int32)]) (st := []) (by decide) 12 hl0 rfl rfl rfl (by decide +kernel) hC ?_
        show F S D13 34 [some (.ref l0), none] [.int v13]
        refine ev_if_ne hX (off := 9) 43 (by decide +kernel) (by decide) (fun h14 => ?_) (fun h14 => ?_)
        · have hf := ev_nf h14 hf
          exact ev_weak hX (ev_le_eq (ev_le_no ev_le_nil)) (tX12_readCompared_43 hR hT hC   hl0 hf)
        · have hf := ev_it h14 hf
          refine ev_blk hX lkok_RX12 [(.aload_n 0, 1, 0, 0, 0), (.iconst 1, 1, 0, 0, 1)] (by decide +kernel) (g := true) (lv' := [some (.ref l0), none]) (st' := [.int (1 : Int32), .ref l0]) (D' := D13) (pc' := 39) rfl (rfl) rfl ?_
          obtain ⟨v15, D15, hc15, hf⟩ := ev_bd_s hf
          refine ev_callV hX YX12_errs ml_RX12_208 (mX12_errs hT hl0 hc15) (vs := [.int (1 : Int32)]) (st := []) (by decide) 12 hl0 rfl rfl rfl (by decide +kernel) hC ?_
          show F S D15 42 [some (.ref l0), none] [.int v15]
          exact ev_iret hR ev_sm.rf (Option.some.inj hf) hC (by decide +kernel)
  · have hf := ev_it h8 hf
    refine ev_blk hX lkok_RX12 [(.iconst (-1), 1, 0, 0, (-1))] (by decide +kernel) (g := true) (lv' := [some (.ref l0), none]) (st' := [.int (-1 : Int32)]) (D' := D7) (pc' := 9) rfl (rfl) rfl ?_
    exact ev_iret hR ev_sm.rf (Option.some.inj hf) hC (by decide +kernel)
theorem mX12_readCompared {S : ev_S} {fu : Nat} {r : Int32 × ev_D} (hT : ev_Ty S) {l0 : Nat} {D : ev_D} (hl0 : sK S l0 = 15) (hf : fX12_readCompared (sL S) (sE S) fu l0 D = some r) : ev_M 6 0 0 yX12_readCompared cX12_readCompared 2 (some .int) [.ref l0] S D S r :=
  ev_met (ini := false) (plainFor_of_name (by decide)) (fun h => by cases h) rfl (Nat.le_of_ble_eq_true rfl) (fun F hR => tX12_readCompared (S := ev_z S) hR hT ⟨Nat.le_refl 0, Nat.le_refl 0⟩ hl0 hf)
set_option maxHeartbeats 4000000 in
set_option maxRecDepth 100000 in
theorem tX12_settles_0 {S : ev_S} {fu : Nat} {r : Int32 × ev_D} {F : ev_Fr} (hR : ev_R RX12 cX12_settles 2 1 0 0 false none S r F) (hT : ev_Ty S) (hC : sC S ≤ 0 ∧ sA S ≤ 0) : ∀ (n : Nat) (l0 : Nat) (l1 : Int32) (D : ev_D), sK S l0 = 15 → fX12_settles_0 (sL S) (sE S) fu n l0 l1 D = some r → F S D 0 [some (.ref l0), some (.int l1)] [] := by
  have hX := hR.X
  intro n
  induction n with
  | zero =>
    intro l0 l1 D hl0 hf
    rw [fX12_settles_0] at hf
    cases hf
  | succ n ih =>
    intro l0 l1 D hl0 hf
    rw [fX12_settles_0] at hf
    refine ev_blk hX lkok_RX12 [(.aload_n 0, 1, 0, 0, 0), (.getfield 231, 3, 12, 30, 0)] (by decide +kernel) (g := (sK S l0 == 15) && (true)) (lv' := [some (.ref l0), some (.int l1)]) (st' := [.int (D l0 30)]) (D' := D) (pc' := 4) rfl (ev_gk hl0 (rfl)) rfl ?_
    refine ev_if_le hX (off := 53) 57 (by decide +kernel) (by decide) (fun h1 => ?_) (fun h1 => ?_)
    · have hf := ev_it h1 hf
      exact ev_vret hR ev_sm.rf (Option.some.inj hf) hC (by decide +kernel)
    · have hf := ev_nf h1 hf
      obtain ⟨hg5, hf⟩ := ev_gd_s hf
      refine ev_blk hX lkok_RX12 [(.aload_n 0, 1, 0, 0, 0), (.getfield 61, 3, 12, 29, 0), (.aload_n 0, 1, 0, 0, 0), (.getfield 231, 3, 12, 30, 0), (.iconst 1, 1, 0, 0, 1), (.isub, 1, 0, 0, 0), (.iaload, 1, 0, 0, 0), (.iload_n 1, 1, 0, 0, 0)] (by decide +kernel) (g := (sK S l0 == 15) && ((sK S l0 == 15) && ((sK S ((sE S) l0 29) == 1 && ev_in ((D l0 30) - (1 : Int32)) ((sL S) ((sE S) l0 29))) && (true)))) (lv' := [some (.ref l0), some (.int l1)]) (st' := [.int l1, .int (D ((sE S) l0 29) (((D l0 30) - (1 : Int32))).toNatClampNeg)]) (D' := D) (pc' := 19) rfl (ev_gk hl0 (ev_gk hl0 (ev_gi (ev_tyk hT hl0 rfl rfl) hg5 (rfl)))) rfl ?_
      refine ev_ic_ne hX (off := 38) 57 (by decide +kernel) (by decide) (fun h2 => ?_) (fun h2 => ?_)
      · have hf := ev_nf h2 hf
        exact ev_vret hR ev_sm.rf (Option.some.inj hf) hC (by decide +kernel)
      · have hf := ev_it h2 hf
        refine ev_blk hX lkok_RX12 [(.aload_n 0, 1, 0, 0, 0), (.aload_n 0, 1, 0, 0, 0), (.getfield 231, 3, 12, 30, 0), (.iconst 1, 1, 0, 0, 1), (.isub, 1, 0, 0, 0), (.putfield 231, 3, 12, 30, 0), (.aload_n 0, 1, 0, 0, 0), (.iload_n 1, 1, 0, 0, 0), (.iconst 0, 1, 0, 0, 0)] (by decide +kernel) (g := (sK S l0 == 15) && ((sK S l0 == 15) && (true))) (lv' := [some (.ref l0), some (.int l1)]) (st' := [.int (0 : Int32), .int l1, .ref l0]) (D' := (ev_up D l0 30 ((D l0 30) - (1 : Int32)))) (pc' := 35) rfl (ev_gk hl0 (ev_gk hl0 (rfl))) rfl ?_
        obtain ⟨v3, D3, hc3, hf⟩ := ev_bd_s hf
        refine ev_callV hX YX12_emits ml_RX12_211 (mX12_emits hT hl0 hc3) (vs := [.int l1, .int (0 : Int32)]) (st := []) (by decide) 12 hl0 rfl rfl rfl (by decide +kernel) hC ?_
        show F S D3 38 [some (.ref l0), some (.int l1)] []
        refine ev_blk hX lkok_RX12 [(.iload_n 1, 1, 0, 0, 0), (.bipush 9, 2, 0, 0, 9)] (by decide +kernel) (g := true) (lv' := [some (.ref l0), some (.int l1)]) (st' := [.int (9 : Int32), .int l1]) (D' := D3) (pc' := 41) rfl (rfl) rfl ?_
        refine ev_ic_ne hX (off := (-41)) 0 (by decide +kernel) (by decide) (fun h4 => ?_) (fun h4 => ?_)
        · have hf := ev_nf h4 hf
          exact ev_weak hX (ev_le_eq (ev_le_eq ev_le_nil)) (ih _ _ _ hl0 hf)
        · have hf := ev_it h4 hf
          refine ev_blk hX lkok_RX12 [(.aload_n 0, 1, 0, 0, 0), (.aload_n 0, 1, 0, 0, 0), (.getfield 234, 3, 12, 28, 0), (.iconst 1, 1, 0, 0, 1), (.isub, 1, 0, 0, 0), (.putfield 234, 3, 12, 28, 0)] (by decide +kernel) (g := (sK S l0 == 15) && ((sK S l0 == 15) && (true))) (lv' := [some (.ref l0), some (.int l1)]) (st' := []) (D' := (ev_up D3 l0 28 ((D3 l0 28) - (1 : Int32)))) (pc' := 54) rfl (ev_gk hl0 (ev_gk hl0 (rfl))) rfl ?_
          refine ev_goto hX (off := (-54)) 0 (by decide +kernel) (by decide) ?_
          exact ev_weak hX (ev_le_eq (ev_le_eq ev_le_nil)) (ih _ _ _ hl0 hf)
set_option maxHeartbeats 4000000 in
set_option maxRecDepth 100000 in
theorem tX12_settles {S : ev_S} {fu : Nat} {r : Int32 × ev_D} {F : ev_Fr} (hR : ev_R RX12 cX12_settles 2 1 0 0 false none S r F) (hT : ev_Ty S) (hC : sC S ≤ 0 ∧ sA S ≤ 0) {l0 : Nat} {l1 : Int32} {D : ev_D} (hl0 : sK S l0 = 15) (hf : fX12_settles (sL S) (sE S) fu l0 l1 D = some r) : F S D 0 [some (.ref l0), some (.int l1)] [] := by
  have hX := hR.X
  unfold fX12_settles at hf
  exact ev_weak hX (ev_le_eq (ev_le_eq ev_le_nil)) (tX12_settles_0 hR hT hC   fu _ _ _ hl0 hf)
theorem mX12_settles {S : ev_S} {fu : Nat} {r : Int32 × ev_D} (hT : ev_Ty S) {l0 : Nat} {l1 : Int32} {D : ev_D} (hl0 : sK S l0 = 15) (hf : fX12_settles (sL S) (sE S) fu l0 l1 D = some r) : ev_M 1 0 0 yX12_settles cX12_settles 2 none [.ref l0, .int l1] S D S r :=
  ev_met (ini := false) (plainFor_of_name (by decide)) (fun h => by cases h) rfl (Nat.le_of_ble_eq_true rfl) (fun F hR => tX12_settles (S := ev_z S) hR hT ⟨Nat.le_refl 0, Nat.le_refl 0⟩ hl0 hf)
set_option maxHeartbeats 4000000 in
set_option maxRecDepth 100000 in
theorem tX12_waits {S : ev_S} {fu : Nat} {r : Int32 × ev_D} {F : ev_Fr} (hR : ev_R RX12 cX12_waits 2 0 0 0 false none S r F) (hT : ev_Ty S) (hC : sC S ≤ 0 ∧ sA S ≤ 0) {l0 : Nat} {l1 : Int32} {D : ev_D} (hl0 : sK S l0 = 15) (hf : fX12_waits (sL S) (sE S) fu l0 l1 D = some r) : F S D 0 [some (.ref l0), some (.int l1)] [] := by
  have hX := hR.X
  unfold fX12_waits at hf
  obtain ⟨hg1, hf⟩ := ev_gd_s hf
  refine ev_blk hX lkok_RX12 [(.aload_n 0, 1, 0, 0, 0), (.getfield 61, 3, 12, 29, 0), (.aload_n 0, 1, 0, 0, 0), (.getfield 231, 3, 12, 30, 0), (.iload_n 1, 1, 0, 0, 0), (.iastore, 1, 0, 0, 0), (.aload_n 0, 1, 0, 0, 0), (.aload_n 0, 1, 0, 0, 0), (.getfield 231, 3, 12, 30, 0), (.iconst 1, 1, 0, 0, 1), (.iadd, 1, 0, 0, 0), (.putfield 231, 3, 12, 30, 0)] (by decide +kernel) (g := (sK S l0 == 15) && ((sK S l0 == 15) && ((sK S ((sE S) l0 29) == 1 && ev_in (D l0 30) ((sL S) ((sE S) l0 29))) && ((sK S l0 == 15) && ((sK S l0 == 15) && (true)))))) (lv' := [some (.ref l0), some (.int l1)]) (st' := []) (D' := (ev_up (ev_up D ((sE S) l0 29) ((D l0 30)).toNatClampNeg l1) l0 30 (((ev_up D ((sE S) l0 29) ((D l0 30)).toNatClampNeg l1) l0 30) + (1 : Int32)))) (pc' := 20) rfl (ev_gk hl0 (ev_gk hl0 (ev_gi (ev_tyk hT hl0 rfl rfl) hg1 (ev_gk hl0 (ev_gk hl0 (rfl)))))) rfl ?_
  exact ev_vret hR ev_sm.rf (Option.some.inj hf) hC (by decide +kernel)
theorem mX12_waits {S : ev_S} {fu : Nat} {r : Int32 × ev_D} (hT : ev_Ty S) {l0 : Nat} {l1 : Int32} {D : ev_D} (hl0 : sK S l0 = 15) (hf : fX12_waits (sL S) (sE S) fu l0 l1 D = some r) : ev_M 0 0 0 yX12_waits cX12_waits 2 none [.ref l0, .int l1] S D S r :=
  ev_met (ini := false) (plainFor_of_name (by decide)) (fun h => by cases h) rfl (Nat.le_of_ble_eq_true rfl) (fun F hR => tX12_waits (S := ev_z S) hR hT ⟨Nat.le_refl 0, Nat.le_refl 0⟩ hl0 hf)
set_option maxHeartbeats 4000000 in
set_option maxRecDepth 100000 in
theorem tX12_readAny_78 {S : ev_S} {fu : Nat} {r : Int32 × ev_D} {F : ev_Fr} (hR : ev_R RX12 cX12_readAny 4 7 0 0 false (some .int) S r F) (hT : ev_Ty S) (hC : sC S ≤ 0 ∧ sA S ≤ 0) {k9 : Nat → Int32 → Int32 → ev_D → ev_Op} (hk9 : ∀ (l0 : Nat) (l1 : Int32) (l2 : Int32) (D : ev_D), sK S l0 = 15 → k9 l0 l1 l2 D = some r → F S D 9 [some (.ref l0), some (.int l1), some (.int l2), none] []) {l0 : Nat} {l1 : Int32} {l2 : Int32} {s0 : Nat} {s1 : Int32} {D : ev_D} (hl0 : sK S l0 = 15) (hs0 : sK S s0 = 15) (hf : fX12_readAny_78 (sL S) (sE S) fu k9 l0 l1 l2 s0 s1 D = some r) : F S D 78 [some (.ref l0), some (.int l1), some (.int l2), none] [.int s1, .ref s0] := by
  have hX := hR.X
  unfold fX12_readAny_78 at hf
  obtain ⟨v1, D1, hc1, hf⟩ := ev_bd_s hf
  refine ev_callV hX YX12_waits ml_RX12_240 (mX12_waits hT hs0 hc1) (vs := [.int s1]) (st := []) (by decide) 12 hs0 rfl rfl rfl (by decide +kernel) hC ?_
  show F S D1 81 [some (.ref l0), some (.int l1), some (.int l2), none] []
  refine ev_blk hX lkok_RX12 [(.aload_n 0, 1, 0, 0, 0)] (by decide +kernel) (g := true) (lv' := [some (.ref l0), some (.int l1), some (.int l2), none]) (st' := [.ref l0]) (D' := D1) (pc' := 82) rfl (rfl) rfl ?_
  obtain ⟨v2, D2, hc2, hf⟩ := ev_bd_s hf
  refine ev_callV hX YX12_reads ml_RX12_215 (mX12_reads hT hl0 hc2) (vs := []) (st := []) (by decide) 12 hl0 rfl rfl rfl (by decide +kernel) hC ?_
  show F S D2 85 [some (.ref l0), some (.int l1), some (.int l2), none] []
  refine ev_goto hX (off := (-76)) 9 (by decide +kernel) (by decide) ?_
  exact ev_weak hX (ev_le_eq (ev_le_eq (ev_le_eq (ev_le_no ev_le_nil)))) (hk9 _ _ _ _ hl0 hf)
set_option maxHeartbeats 4000000 in
set_option maxRecDepth 100000 in
theorem tX12_readAny_66 {S : ev_S} {fu : Nat} {r : Int32 × ev_D} {F : ev_Fr} (hR : ev_R RX12 cX12_readAny 4 7 0 0 false (some .int) S r F) (hT : ev_Ty S) (hC : sC S ≤ 0 ∧ sA S ≤ 0) {k9 : Nat → Int32 → Int32 → ev_D → ev_Op} (hk9 : ∀ (l0 : Nat) (l1 : Int32) (l2 : Int32) (D : ev_D), sK S l0 = 15 → k9 l0 l1 l2 D = some r → F S D 9 [some (.ref l0), some (.int l1), some (.int l2), none] []) {l0 : Nat} {l1 : Int32} {l2 : Int32} {l3 : Int32} {D : ev_D} (hl0 : sK S l0 = 15) (hf : fX12_readAny_66 (sL S) (sE S) fu k9 l0 l1 l2 l3 D = some r) : F S D 66 [some (.ref l0), some (.int l1), some (.int l2), some (.int l3)] [] := by
  have hX := hR.X
  unfold fX12_readAny_66 at hf
  refine ev_blk hX lkok_RX12 [(.aload_n 0, 1, 0, 0, 0), (.iload_n 3, 1, 0, 0, 0)] (by decide +kernel) (g := true) (lv' := [some (.ref l0), some (.int l1), some (.int l2), some (.int l3)]) (st' := [.int l3, .ref l0]) (D' := D) (pc' := 68) rfl (rfl) rfl ?_
  refine ev_if_eq hX (off := 8) 76 (by decide +kernel) (by decide) (fun h3 => ?_) (fun h3 => ?_)
  · have hf := ev_it h3 hf
    refine ev_blk hX lkok_RX12 [(.bipush 12, 2, 0, 0, 12)] (by decide +kernel) (g := true) (lv' := [some (.ref l0), some (.int l1), some (.int l2), some (.int l3)]) (st' := [.int (12 : Int32), .ref l0]) (D' := D) (pc' := 78) rfl (rfl) rfl ?_
    exact ev_weak hX (ev_le_eq (ev_le_eq (ev_le_eq (ev_le_no ev_le_nil)))) (tX12_readAny_78 hR hT hC  hk9 hl0 hl0 hf)
  · have hf := ev_nf h3 hf
    refine ev_blk hX lkok_RX12 [(.bipush 9, 2, 0, 0, 9)] (by decide +kernel) (g := true) (lv' := [some (.ref l0), some (.int l1), some (.int l2), some (.int l3)]) (st' := [.int (9 : Int32), .ref l0]) (D' := D) (pc' := 73) rfl (rfl) rfl ?_
    refine ev_goto hX (off := 5) 78 (by decide +kernel) (by decide) ?_
    exact ev_weak hX (ev_le_eq (ev_le_eq (ev_le_eq (ev_le_no ev_le_nil)))) (tX12_readAny_78 hR hT hC  hk9 hl0 hl0 hf)
set_option maxHeartbeats 4000000 in
set_option maxRecDepth 100000 in
theorem tX12_readAny_33 {S : ev_S} {fu : Nat} {r : Int32 × ev_D} {F : ev_Fr} (hR : ev_R RX12 cX12_readAny 4 7 0 0 false (some .int) S r F) (hT : ev_Ty S) (hC : sC S ≤ 0 ∧ sA S ≤ 0) {k9 : Nat → Int32 → Int32 → ev_D → ev_Op} (hk9 : ∀ (l0 : Nat) (l1 : Int32) (l2 : Int32) (D : ev_D), sK S l0 = 15 → k9 l0 l1 l2 D = some r → F S D 9 [some (.ref l0), some (.int l1), some (.int l2), none] []) {l0 : Nat} {l1 : Int32} {l2 : Int32} {l3 : Int32} {D : ev_D} (hl0 : sK S l0 = 15) (hf : fX12_readAny_33 (sL S) (sE S) fu k9 l0 l1 l2 l3 D = some r) : F S D 33 [some (.ref l0), some (.int l1), some (.int l2), some (.int l3)] [] := by
  have hX := hR.X
  unfold fX12_readAny_33 at hf
  refine ev_blk hX lkok_RX12 [(.aload_n 0, 1, 0, 0, 0), (.getfield 234, 3, 12, 28, 0), (.bipush 8, 2, 0, 0, 8)] (by decide +kernel) (g := (sK S l0 == 15) && (true)) (lv' := [some (.ref l0), some (.int l1), some (.int l2), some (.int l3)]) (st' := [.int (8 : Int32), .int (D l0 28)]) (D' := D) (pc' := 39) rfl (ev_gk hl0 (rfl)) rfl ?_
  refine ev_ic_ne hX (off := 9) 48 (by decide +kernel) (by decide) (fun h4 => ?_) (fun h4 => ?_)
  · have hf := ev_nf h4 hf
    refine ev_blk hX lkok_RX12 [(.aload_n 0, 1, 0, 0, 0), (.aload_n 0, 1, 0, 0, 0), (.getfield 234, 3, 12, 28, 0), (.iconst 1, 1, 0, 0, 1), (.iadd, 1, 0, 0, 0), (.putfield 234, 3, 12, 28, 0), (.iload_n 3, 1, 0, 0, 0)] (by decide +kernel) (g := (sK S l0 == 15) && ((sK S l0 == 15) && (true))) (lv' := [some (.ref l0), some (.int l1), some (.int l2), some (.int l3)]) (st' := [.int l3]) (D' := (ev_up D l0 28 ((D l0 28) + (1 : Int32)))) (pc' := 59) rfl (ev_gk hl0 (ev_gk hl0 (rfl))) rfl ?_
    refine ev_if_ne hX (off := 7) 66 (by decide +kernel) (by decide) (fun h5 => ?_) (fun h5 => ?_)
    · have hf := ev_nf h5 hf
      exact ev_weak hX (ev_le_eq (ev_le_eq (ev_le_eq (ev_le_eq ev_le_nil)))) (tX12_readAny_66 hR hT hC  hk9 hl0 hf)
    · have hf := ev_it h5 hf
      refine ev_blk hX lkok_RX12 [(.iload_n 1, 1, 0, 0, 0), (.iconst 1, 1, 0, 0, 1), (.iadd, 1, 0, 0, 0), (.istore_n 1, 1, 0, 0, 0)] (by decide +kernel) (g := true) (lv' := [some (.ref l0), some (.int (l1 + (1 : Int32))), some (.int l2), some (.int l3)]) (st' := []) (D' := (ev_up D l0 28 ((D l0 28) + (1 : Int32)))) (pc' := 66) rfl (rfl) rfl ?_
      exact ev_weak hX (ev_le_eq (ev_le_eq (ev_le_eq (ev_le_eq ev_le_nil)))) (tX12_readAny_66 hR hT hC  hk9 hl0 hf)
  · have hf := ev_it h4 hf
    refine ev_blk hX lkok_RX12 [(.aload_n 0, 1, 0, 0, 0), (.iconst 3, 1, 0, 0, 3)] (by decide +kernel) (g := true) (lv' := [some (.ref l0), some (.int l1), some (.int l2), some (.int l3)]) (st' := [.int (3 : Int32), .ref l0]) (D' := D) (pc' := 44) rfl (rfl) rfl ?_
    obtain ⟨v6, D6, hc6, hf⟩ := ev_bd_s hf
    refine ev_callV hX YX12_errs ml_RX12_208 (mX12_errs hT hl0 hc6) (vs := [.int (3 : Int32)]) (st := []) (by decide) 12 hl0 rfl rfl rfl (by decide +kernel) hC ?_
    show F S D6 47 [some (.ref l0), some (.int l1), some (.int l2), some (.int l3)] [.int v6]
    exact ev_iret hR ev_sm.rf (Option.some.inj hf) hC (by decide +kernel)
set_option maxHeartbeats 4000000 in
set_option maxRecDepth 100000 in
theorem tX12_readAny_9 {S : ev_S} {fu : Nat} {r : Int32 × ev_D} {F : ev_Fr} (hR : ev_R RX12 cX12_readAny 4 7 0 0 false (some .int) S r F) (hT : ev_Ty S) (hC : sC S ≤ 0 ∧ sA S ≤ 0) : ∀ (n : Nat) (l0 : Nat) (l1 : Int32) (l2 : Int32) (D : ev_D), sK S l0 = 15 → fX12_readAny_9 (sL S) (sE S) fu n l0 l1 l2 D = some r → F S D 9 [some (.ref l0), some (.int l1), some (.int l2), none] [] := by
  have hX := hR.X
  intro n
  induction n with
  | zero =>
    intro l0 l1 l2 D hl0 hf
    rw [fX12_readAny_9] at hf
    cases hf
  | succ n ih =>
    intro l0 l1 l2 D hl0 hf
    rw [fX12_readAny_9] at hf
    refine ev_blk hX lkok_RX12 [(.iload_n 2, 1, 0, 0, 0)] (by decide +kernel) (g := true) (lv' := [some (.ref l0), some (.int l1), some (.int l2), none]) (st' := [.int l2]) (D' := D) (pc' := 10) rfl (rfl) rfl ?_
    refine ev_if_eq hX (off := 99) 109 (by decide +kernel) (by decide) (fun h7 => ?_) (fun h7 => ?_)
    · have hf := ev_it h7 hf
      refine ev_blk hX lkok_RX12 [(.aload_n 0, 1, 0, 0, 0), (.iconst 5, 1, 0, 0, 5)] (by decide +kernel) (g := true) (lv' := [some (.ref l0), some (.int l1), some (.int l2), none]) (st' := [.int (5 : Int32), .ref l0]) (D' := D) (pc' := 111) rfl (rfl) rfl ?_
      obtain ⟨v8, D8, hc8, hf⟩ := ev_bd_s hf
      refine ev_callV hX YX12_isWord ml_RX12_237 (mX12_isWord hT hl0 hc8) (vs := [.int (5 : Int32)]) (st := []) (by decide) 12 hl0 rfl rfl rfl (by decide +kernel) hC ?_
      show F S D8 114 [some (.ref l0), some (.int l1), some (.int l2), none] [.int v8]
      refine ev_if_eq hX (off := 24) 138 (by decide +kernel) (by decide) (fun h9 => ?_) (fun h9 => ?_)
      · have hf := ev_it h9 hf
        refine ev_blk hX lkok_RX12 [(.aload_n 0, 1, 0, 0, 0), (.iconst 4, 1, 0, 0, 4)] (by decide +kernel) (g := true) (lv' := [some (.ref l0), some (.int l1), some (.int l2), none]) (st' := [.int (4 : Int32), .ref l0]) (D' := D8) (pc' := 140) rfl (rfl) rfl ?_
        obtain ⟨v10, D10, hc10, hf⟩ := ev_bd_s hf
        refine ev_callV hX YX12_isWord ml_RX12_237 (mX12_isWord hT hl0 hc10) (vs := [.int (4 : Int32)]) (st := []) (by decide) 12 hl0 rfl rfl rfl (by decide +kernel) hC ?_
        show F S D10 143 [some (.ref l0), some (.int l1), some (.int l2), none] [.int v10]
        refine ev_if_eq hX (off := 30) 173 (by decide +kernel) (by decide) (fun h11 => ?_) (fun h11 => ?_)
        · have hf := ev_it h11 hf
          refine ev_blk hX lkok_RX12 [(.aload_n 0, 1, 0, 0, 0), (.bipush 10, 2, 0, 0, 10)] (by decide +kernel) (g := true) (lv' := [some (.ref l0), some (.int l1), some (.int l2), none]) (st' := [.int (10 : Int32), .ref l0]) (D' := D10) (pc' := 176) rfl (rfl) rfl ?_
          obtain ⟨v12, D12, hc12, hf⟩ := ev_bd_s hf
          refine ev_callV hX YX12_settles ml_RX12_246 (mX12_settles hT hl0 hc12) (vs := [.int (10 : Int32)]) (st := []) (by decide) 12 hl0 rfl rfl rfl (by decide +kernel) hC ?_
          show F S D12 179 [some (.ref l0), some (.int l1), some (.int l2), none] []
          refine ev_blk hX lkok_RX12 [(.aload_n 0, 1, 0, 0, 0), (.bipush 11, 2, 0, 0, 11)] (by decide +kernel) (g := true) (lv' := [some (.ref l0), some (.int l1), some (.int l2), none]) (st' := [.int (11 : Int32), .ref l0]) (D' := D12) (pc' := 182) rfl (rfl) rfl ?_
          obtain ⟨v13, D13, hc13, hf⟩ := ev_bd_s hf
          refine ev_callV hX YX12_settles ml_RX12_246 (mX12_settles hT hl0 hc13) (vs := [.int (11 : Int32)]) (st := []) (by decide) 12 hl0 rfl rfl rfl (by decide +kernel) hC ?_
          show F S D13 185 [some (.ref l0), some (.int l1), some (.int l2), none] []
          refine ev_blk hX lkok_RX12 [(.iload_n 1, 1, 0, 0, 0)] (by decide +kernel) (g := true) (lv' := [some (.ref l0), some (.int l1), some (.int l2), none]) (st' := [.int l1]) (D' := D13) (pc' := 186) rfl (rfl) rfl ?_
          refine ev_if_ne hX (off := 5) 191 (by decide +kernel) (by decide) (fun h14 => ?_) (fun h14 => ?_)
          · have hf := ev_nf h14 hf
            refine ev_blk hX lkok_RX12 [(.aload_n 0, 1, 0, 0, 0), (.bipush 41, 2, 0, 0, 41)] (by decide +kernel) (g := true) (lv' := [some (.ref l0), some (.int l1), some (.int l2), none]) (st' := [.int (41 : Int32), .ref l0]) (D' := D13) (pc' := 194) rfl (rfl) rfl ?_
            obtain ⟨v15, D15, hc15, hf⟩ := ev_bd_s hf
            refine ev_callV hX YX12_isSign ml_RX12_222 (mX12_isSign hT hl0 hc15) (vs := [.int (41 : Int32)]) (st := []) (by decide) 12 hl0 rfl rfl rfl (by decide +kernel) hC ?_
            show F S D15 197 [some (.ref l0), some (.int l1), some (.int l2), none] [.int v15]
            refine ev_if_ne hX (off := 9) 206 (by decide +kernel) (by decide) (fun h16 => ?_) (fun h16 => ?_)
            · have hf := ev_nf h16 hf
              refine ev_blk hX lkok_RX12 [(.aload_n 0, 1, 0, 0, 0), (.aload_n 0, 1, 0, 0, 0), (.getfield 231, 3, 12, 30, 0), (.iconst 1, 1, 0, 0, 1), (.isub, 1, 0, 0, 0), (.putfield 231, 3, 12, 30, 0), (.iload_n 1, 1, 0, 0, 0), (.iconst 1, 1, 0, 0, 1), (.isub, 1, 0, 0, 0), (.istore_n 1, 1, 0, 0, 0), (.aload_n 0, 1, 0, 0, 0), (.aload_n 0, 1, 0, 0, 0), (.getfield 234, 3, 12, 28, 0), (.iconst 1, 1, 0, 0, 1), (.isub, 1, 0, 0, 0), (.putfield 234, 3, 12, 28, 0), (.aload_n 0, 1, 0, 0, 0), (.bipush 9, 2, 0, 0, 9)] (by decide +kernel) (g := (sK S l0 == 15) && ((sK S l0 == 15) && ((sK S l0 == 15) && ((sK S l0 == 15) && (true))))) (lv' := [some (.ref l0), some (.int (l1 - (1 : Int32))), some (.int l2), none]) (st' := [.int (9 : Int32), .ref l0]) (D' := (ev_up (ev_up D15 l0 30 ((D15 l0 30) - (1 : Int32))) l0 28 (((ev_up D15 l0 30 ((D15 l0 30) - (1 : Int32))) l0 28) - (1 : Int32)))) (pc' := 233) rfl (ev_gk hl0 (ev_gk hl0 (ev_gk hl0 (ev_gk hl0 (rfl))))) rfl ?_
              obtain ⟨v17, D17, hc17, hf⟩ := ev_bd_s hf
              refine ev_callV hX YX12_settles ml_RX12_246 (mX12_settles hT hl0 hc17) (vs := [.int (9 : Int32)]) (st := []) (by decide) 12 hl0 rfl rfl rfl (by decide +kernel) hC ?_
              show F S D17 236 [some (.ref l0), some (.int (l1 - (1 : Int32))), some (.int l2), none] []
              refine ev_blk hX lkok_RX12 [(.aload_n 0, 1, 0, 0, 0)] (by decide +kernel) (g := true) (lv' := [some (.ref l0), some (.int (l1 - (1 : Int32))), some (.int l2), none]) (st' := [.ref l0]) (D' := D17) (pc' := 237) rfl (rfl) rfl ?_
              obtain ⟨v18, D18, hc18, hf⟩ := ev_bd_s hf
              refine ev_callV hX YX12_reads ml_RX12_215 (mX12_reads hT hl0 hc18) (vs := []) (st := []) (by decide) 12 hl0 rfl rfl rfl (by decide +kernel) hC ?_
              show F S D18 240 [some (.ref l0), some (.int (l1 - (1 : Int32))), some (.int l2), none] []
              refine ev_goto hX (off := (-231)) 9 (by decide +kernel) (by decide) ?_
              exact ev_weak hX (ev_le_eq (ev_le_eq (ev_le_eq (ev_le_no ev_le_nil)))) (ih _ _ _ _ hl0 hf)
            · have hf := ev_it h16 hf
              refine ev_blk hX lkok_RX12 [(.aload_n 0, 1, 0, 0, 0), (.iconst 1, 1, 0, 0, 1)] (by decide +kernel) (g := true) (lv' := [some (.ref l0), some (.int l1), some (.int l2), none]) (st' := [.int (1 : Int32), .ref l0]) (D' := D15) (pc' := 202) rfl (rfl) rfl ?_
              obtain ⟨v19, D19, hc19, hf⟩ := ev_bd_s hf
              refine ev_callV hX YX12_errs ml_RX12_208 (mX12_errs hT hl0 hc19) (vs := [.int (1 : Int32)]) (st := []) (by decide) 12 hl0 rfl rfl rfl (by decide +kernel) hC ?_
              show F S D19 205 [some (.ref l0), some (.int l1), some (.int l2), none] [.int v19]
              exact ev_iret hR ev_sm.rf (Option.some.inj hf) hC (by decide +kernel)
          · have hf := ev_it h14 hf
            refine ev_blk hX lkok_RX12 [(.iconst 0, 1, 0, 0, 0)] (by decide +kernel) (g := true) (lv' := [some (.ref l0), some (.int l1), some (.int l2), none]) (st' := [.int (0 : Int32)]) (D' := D13) (pc' := 190) rfl (rfl) rfl ?_
            exact ev_iret hR ev_sm.rf (Option.some.inj hf) hC (by decide +kernel)
        · have hf := ev_nf h11 hf
          refine ev_blk hX lkok_RX12 [(.aload_n 0, 1, 0, 0, 0), (.bipush 10, 2, 0, 0, 10)] (by decide +kernel) (g := true) (lv' := [some (.ref l0), some (.int l1), some (.int l2), none]) (st' := [.int (10 : Int32), .ref l0]) (D' := D10) (pc' := 149) rfl (rfl) rfl ?_
          obtain ⟨v20, D20, hc20, hf⟩ := ev_bd_s hf
          refine ev_callV hX YX12_settles ml_RX12_246 (mX12_settles hT hl0 hc20) (vs := [.int (10 : Int32)]) (st := []) (by decide) 12 hl0 rfl rfl rfl (by decide +kernel) hC ?_
          show F S D20 152 [some (.ref l0), some (.int l1), some (.int l2), none] []
          refine ev_blk hX lkok_RX12 [(.aload_n 0, 1, 0, 0, 0), (.bipush 11, 2, 0, 0, 11)] (by decide +kernel) (g := true) (lv' := [some (.ref l0), some (.int l1), some (.int l2), none]) (st' := [.int (11 : Int32), .ref l0]) (D' := D20) (pc' := 155) rfl (rfl) rfl ?_
          obtain ⟨v21, D21, hc21, hf⟩ := ev_bd_s hf
          refine ev_callV hX YX12_settles ml_RX12_246 (mX12_settles hT hl0 hc21) (vs := [.int (11 : Int32)]) (st := []) (by decide) 12 hl0 rfl rfl rfl (by decide +kernel) hC ?_
          show F S D21 158 [some (.ref l0), some (.int l1), some (.int l2), none] []
          refine ev_blk hX lkok_RX12 [(.aload_n 0, 1, 0, 0, 0), (.bipush 11, 2, 0, 0, 11)] (by decide +kernel) (g := true) (lv' := [some (.ref l0), some (.int l1), some (.int l2), none]) (st' := [.int (11 : Int32), .ref l0]) (D' := D21) (pc' := 161) rfl (rfl) rfl ?_
          obtain ⟨v22, D22, hc22, hf⟩ := ev_bd_s hf
          refine ev_callV hX YX12_waits ml_RX12_240 (mX12_waits hT hl0 hc22) (vs := [.int (11 : Int32)]) (st := []) (by decide) 12 hl0 rfl rfl rfl (by decide +kernel) hC ?_
          show F S D22 164 [some (.ref l0), some (.int l1), some (.int l2), none] []
          refine ev_blk hX lkok_RX12 [(.aload_n 0, 1, 0, 0, 0)] (by decide +kernel) (g := true) (lv' := [some (.ref l0), some (.int l1), some (.int l2), none]) (st' := [.ref l0]) (D' := D22) (pc' := 165) rfl (rfl) rfl ?_
          obtain ⟨v23, D23, hc23, hf⟩ := ev_bd_s hf
          refine ev_callV hX YX12_reads ml_RX12_215 (mX12_reads hT hl0 hc23) (vs := []) (st := []) (by decide) 12 hl0 rfl rfl rfl (by decide +kernel) hC ?_
          show F S D23 168 [some (.ref l0), some (.int l1), some (.int l2), none] []
          refine ev_blk hX lkok_RX12 [(.iconst 1, 1, 0, 0, 1), (.istore_n 2, 1, 0, 0, 0)] (by decide +kernel) (g := true) (lv' := [some (.ref l0), some (.int l1), some (.int (1 : Int32)), none]) (st' := []) (D' := D23) (pc' := 170) rfl (rfl) rfl ?_
          refine ev_goto hX (off := (-161)) 9 (by decide +kernel) (by decide) ?_
          exact ev_weak hX (ev_le_eq (ev_le_eq (ev_le_eq (ev_le_no ev_le_nil)))) (ih _ _ _ _ hl0 hf)
      · have hf := ev_nf h9 hf
        refine ev_blk hX lkok_RX12 [(.aload_n 0, 1, 0, 0, 0), (.bipush 10, 2, 0, 0, 10)] (by decide +kernel) (g := true) (lv' := [some (.ref l0), some (.int l1), some (.int l2), none]) (st' := [.int (10 : Int32), .ref l0]) (D' := D8) (pc' := 120) rfl (rfl) rfl ?_
        obtain ⟨v24, D24, hc24, hf⟩ := ev_bd_s hf
        refine ev_callV hX YX12_settles ml_RX12_246 (mX12_settles hT hl0 hc24) (vs := [.int (10 : Int32)]) (st := []) (by decide) 12 hl0 rfl rfl rfl (by decide +kernel) hC ?_
        show F S D24 123 [some (.ref l0), some (.int l1), some (.int l2), none] []
        refine ev_blk hX lkok_RX12 [(.aload_n 0, 1, 0, 0, 0), (.bipush 10, 2, 0, 0, 10)] (by decide +kernel) (g := true) (lv' := [some (.ref l0), some (.int l1), some (.int l2), none]) (st' := [.int (10 : Int32), .ref l0]) (D' := D24) (pc' := 126) rfl (rfl) rfl ?_
        obtain ⟨v25, D25, hc25, hf⟩ := ev_bd_s hf
        refine ev_callV hX YX12_waits ml_RX12_240 (mX12_waits hT hl0 hc25) (vs := [.int (10 : Int32)]) (st := []) (by decide) 12 hl0 rfl rfl rfl (by decide +kernel) hC ?_
        show F S D25 129 [some (.ref l0), some (.int l1), some (.int l2), none] []
        refine ev_blk hX lkok_RX12 [(.aload_n 0, 1, 0, 0, 0)] (by decide +kernel) (g := true) (lv' := [some (.ref l0), some (.int l1), some (.int l2), none]) (st' := [.ref l0]) (D' := D25) (pc' := 130) rfl (rfl) rfl ?_
        obtain ⟨v26, D26, hc26, hf⟩ := ev_bd_s hf
        refine ev_callV hX YX12_reads ml_RX12_215 (mX12_reads hT hl0 hc26) (vs := []) (st := []) (by decide) 12 hl0 rfl rfl rfl (by decide +kernel) hC ?_
        show F S D26 133 [some (.ref l0), some (.int l1), some (.int l2), none] []
        refine ev_blk hX lkok_RX12 [(.iconst 1, 1, 0, 0, 1), (.istore_n 2, 1, 0, 0, 0)] (by decide +kernel) (g := true) (lv' := [some (.ref l0), some (.int l1), some (.int (1 : Int32)), none]) (st' := []) (D' := D26) (pc' := 135) rfl (rfl) rfl ?_
        refine ev_goto hX (off := (-126)) 9 (by decide +kernel) (by decide) ?_
        exact ev_weak hX (ev_le_eq (ev_le_eq (ev_le_eq (ev_le_no ev_le_nil)))) (ih _ _ _ _ hl0 hf)
    · have hf := ev_nf h7 hf
      refine ev_blk hX lkok_RX12 [(.aload_n 0, 1, 0, 0, 0), (.bipush 6, 2, 0, 0, 6)] (by decide +kernel) (g := true) (lv' := [some (.ref l0), some (.int l1), some (.int l2), none]) (st' := [.int (6 : Int32), .ref l0]) (D' := D) (pc' := 16) rfl (rfl) rfl ?_
      obtain ⟨v27, D27, hc27, hf⟩ := ev_bd_s hf
      refine ev_callV hX YX12_isWord ml_RX12_237 (mX12_isWord hT hl0 hc27) (vs := [.int (6 : Int32)]) (st := []) (by decide) 12 hl0 rfl rfl rfl (by decide +kernel) hC ?_
      show F S D27 19 [some (.ref l0), some (.int l1), some (.int l2), none] [.int v27]
      refine ev_blk hX lkok_RX12 [(.istore_n 3, 1, 0, 0, 0), (.iload_n 3, 1, 0, 0, 0)] (by decide +kernel) (g := true) (lv' := [some (.ref l0), some (.int l1), some (.int l2), some (.int v27)]) (st' := [.int v27]) (D' := D27) (pc' := 21) rfl (rfl) rfl ?_
      refine ev_if_ne hX (off := 12) 33 (by decide +kernel) (by decide) (fun h28 => ?_) (fun h28 => ?_)
      · have hf := ev_nf h28 hf
        exact ev_weak hX (ev_le_eq (ev_le_eq (ev_le_eq (ev_le_eq ev_le_nil)))) (tX12_readAny_33 hR hT hC  ih hl0 hf)
      · have hf := ev_it h28 hf
        refine ev_blk hX lkok_RX12 [(.aload_n 0, 1, 0, 0, 0), (.bipush 40, 2, 0, 0, 40)] (by decide +kernel) (g := true) (lv' := [some (.ref l0), some (.int l1), some (.int l2), some (.int v27)]) (st' := [.int (40 : Int32), .ref l0]) (D' := D27) (pc' := 27) rfl (rfl) rfl ?_
        obtain ⟨v29, D29, hc29, hf⟩ := ev_bd_s hf
        refine ev_callV hX YX12_isSign ml_RX12_222 (mX12_isSign hT hl0 hc29) (vs := [.int (40 : Int32)]) (st := []) (by decide) 12 hl0 rfl rfl rfl (by decide +kernel) hC ?_
        show F S D29 30 [some (.ref l0), some (.int l1), some (.int l2), some (.int v27)] [.int v29]
        refine ev_if_eq hX (off := 58) 88 (by decide +kernel) (by decide) (fun h30 => ?_) (fun h30 => ?_)
        · have hf := ev_it h30 hf
          refine ev_blk hX lkok_RX12 [(.aload_n 0, 1, 0, 0, 0)] (by decide +kernel) (g := true) (lv' := [some (.ref l0), some (.int l1), some (.int l2), some (.int v27)]) (st' := [.ref l0]) (D' := D29) (pc' := 89) rfl (rfl) rfl ?_
          obtain ⟨v31, D31, hc31, hf⟩ := ev_bd_s hf
          refine ev_callV hX YX12_readCompared ml_RX12_243 (mX12_readCompared hT hl0 hc31) (vs := []) (st := []) (by decide) 12 hl0 rfl rfl rfl (by decide +kernel) hC ?_
          show F S D31 92 [some (.ref l0), some (.int l1), some (.int l2), some (.int v27)] [.int v31]
          refine ev_blk hX lkok_RX12 [(.iconst (-1), 1, 0, 0, (-1))] (by decide +kernel) (g := true) (lv' := [some (.ref l0), some (.int l1), some (.int l2), some (.int v27)]) (st' := [.int (-1 : Int32), .int v31]) (D' := D31) (pc' := 93) rfl (rfl) rfl ?_
          refine ev_ic_ne hX (off := 5) 98 (by decide +kernel) (by decide) (fun h32 => ?_) (fun h32 => ?_)
          · have hf := ev_nf h32 hf
            refine ev_blk hX lkok_RX12 [(.aload_n 0, 1, 0, 0, 0), (.bipush 9, 2, 0, 0, 9)] (by decide +kernel) (g := true) (lv' := [some (.ref l0), some (.int l1), some (.int l2), some (.int v27)]) (st' := [.int (9 : Int32), .ref l0]) (D' := D31) (pc' := 101) rfl (rfl) rfl ?_
            obtain ⟨v33, D33, hc33, hf⟩ := ev_bd_s hf
            refine ev_callV hX YX12_settles ml_RX12_246 (mX12_settles hT hl0 hc33) (vs := [.int (9 : Int32)]) (st := []) (by decide) 12 hl0 rfl rfl rfl (by decide +kernel) hC ?_
            show F S D33 104 [some (.ref l0), some (.int l1), some (.int l2), some (.int v27)] []
            refine ev_blk hX lkok_RX12 [(.iconst 0, 1, 0, 0, 0), (.istore_n 2, 1, 0, 0, 0)] (by decide +kernel) (g := true) (lv' := [some (.ref l0), some (.int l1), some (.int (0 : Int32)), some (.int v27)]) (st' := []) (D' := D33) (pc' := 106) rfl (rfl) rfl ?_
            refine ev_goto hX (off := (-97)) 9 (by decide +kernel) (by decide) ?_
            exact ev_weak hX (ev_le_eq (ev_le_eq (ev_le_eq (ev_le_no ev_le_nil)))) (ih _ _ _ _ hl0 hf)
          · have hf := ev_it h32 hf
            refine ev_blk hX lkok_RX12 [(.iconst (-1), 1, 0, 0, (-1))] (by decide +kernel) (g := true) (lv' := [some (.ref l0), some (.int l1), some (.int l2), some (.int v27)]) (st' := [.int (-1 : Int32)]) (D' := D31) (pc' := 97) rfl (rfl) rfl ?_
            exact ev_iret hR ev_sm.rf (Option.some.inj hf) hC (by decide +kernel)
        · have hf := ev_nf h30 hf
          exact ev_weak hX (ev_le_eq (ev_le_eq (ev_le_eq (ev_le_eq ev_le_nil)))) (tX12_readAny_33 hR hT hC  ih hl0 hf)
set_option maxHeartbeats 4000000 in
set_option maxRecDepth 100000 in
theorem tX12_readAny {S : ev_S} {fu : Nat} {r : Int32 × ev_D} {F : ev_Fr} (hR : ev_R RX12 cX12_readAny 4 7 0 0 false (some .int) S r F) (hT : ev_Ty S) (hC : sC S ≤ 0 ∧ sA S ≤ 0) {l0 : Nat} {D : ev_D} (hl0 : sK S l0 = 15) (hf : fX12_readAny (sL S) (sE S) fu l0 D = some r) : F S D 0 [some (.ref l0), none, none, none] [] := by
  have hX := hR.X
  unfold fX12_readAny at hf
  refine ev_blk hX lkok_RX12 [(.iconst 0, 1, 0, 0, 0), (.istore_n 1, 1, 0, 0, 0), (.aload_n 0, 1, 0, 0, 0), (.iconst 0, 1, 0, 0, 0), (.putfield 231, 3, 12, 30, 0), (.iconst 1, 1, 0, 0, 1), (.istore_n 2, 1, 0, 0, 0)] (by decide +kernel) (g := (sK S l0 == 15) && (true)) (lv' := [some (.ref l0), some (.int (0 : Int32)), some (.int (1 : Int32)), none]) (st' := []) (D' := (ev_up D l0 30 (0 : Int32))) (pc' := 9) rfl (ev_gk hl0 (rfl)) rfl ?_
  exact ev_weak hX (ev_le_eq (ev_le_eq (ev_le_eq (ev_le_no ev_le_nil)))) (tX12_readAny_9 hR hT hC   fu _ _ _ _ hl0 hf)
theorem mX12_readAny {S : ev_S} {fu : Nat} {r : Int32 × ev_D} (hT : ev_Ty S) {l0 : Nat} {D : ev_D} (hl0 : sK S l0 = 15) (hf : fX12_readAny (sL S) (sE S) fu l0 D = some r) : ev_M 7 0 0 yX12_readAny cX12_readAny 4 (some .int) [.ref l0] S D S r :=
  ev_met (ini := false) (plainFor_of_name (by decide)) (fun h => by cases h) rfl (Nat.le_of_ble_eq_true rfl) (fun F hR => tX12_readAny (S := ev_z S) hR hT ⟨Nat.le_refl 0, Nat.le_refl 0⟩ hl0 hf)
set_option maxHeartbeats 4000000 in
set_option maxRecDepth 100000 in
theorem tX12_readLaw_92 {S : ev_S} {fu : Nat} {r : Int32 × ev_D} {F : ev_Fr} (hR : ev_R RX12 cX12_readLaw 3 8 0 0 false (some .int) S r F) (hT : ev_Ty S) (hC : sC S ≤ 0 ∧ sA S ≤ 0) {k2 : Nat → Int32 → ev_D → ev_Op} (hk2 : ∀ (l0 : Nat) (l1 : Int32) (D : ev_D), sK S l0 = 15 → k2 l0 l1 D = some r → F S D 2 [some (.ref l0), some (.int l1), none] []) {l0 : Nat} {l1 : Int32} {l2 : Int32} {D : ev_D} (hl0 : sK S l0 = 15) (hf : fX12_readLaw_92 (sL S) (sE S) fu k2 l0 l1 l2 D = some r) : F S D 92 [some (.ref l0), some (.int l1), some (.int l2)] [] := by
  have hX := hR.X
  unfold fX12_readLaw_92 at hf
  obtain ⟨hg5, hf⟩ := ev_gd_s hf
  refine ev_blk hX lkok_RX12 [(.aload_n 0, 1, 0, 0, 0), (.getfield 52, 3, 12, 23, 0), (.iload_n 2, 1, 0, 0, 0), (.aload_n 0, 1, 0, 0, 0), (.getfield 202, 3, 12, 27, 0), (.iastore, 1, 0, 0, 0), (.aload_n 0, 1, 0, 0, 0), (.bipush 59, 2, 0, 0, 59)] (by decide +kernel) (g := (sK S l0 == 15) && ((sK S l0 == 15) && ((sK S ((sE S) l0 23) == 1 && ev_in l2 ((sL S) ((sE S) l0 23))) && (true)))) (lv' := [some (.ref l0), some (.int l1), some (.int l2)]) (st' := [.int (59 : Int32), .ref l0]) (D' := (ev_up D ((sE S) l0 23) (l2).toNatClampNeg (D l0 27))) (pc' := 105) rfl (ev_gk hl0 (ev_gk hl0 (ev_gi (ev_tyk hT hl0 rfl rfl) hg5 (rfl)))) rfl ?_
  obtain ⟨v1, D1, hc1, hf⟩ := ev_bd_s hf
  refine ev_callV hX YX12_isSign ml_RX12_222 (mX12_isSign hT hl0 hc1) (vs := [.int (59 : Int32)]) (st := []) (by decide) 12 hl0 rfl rfl rfl (by decide +kernel) hC ?_
  show F S D1 108 [some (.ref l0), some (.int l1), some (.int l2)] [.int v1]
  refine ev_if_ne hX (off := 9) 117 (by decide +kernel) (by decide) (fun h2 => ?_) (fun h2 => ?_)
  · have hf := ev_nf h2 hf
    refine ev_blk hX lkok_RX12 [(.aload_n 0, 1, 0, 0, 0)] (by decide +kernel) (g := true) (lv' := [some (.ref l0), some (.int l1), some (.int l2)]) (st' := [.ref l0]) (D' := D1) (pc' := 118) rfl (rfl) rfl ?_
    obtain ⟨v3, D3, hc3, hf⟩ := ev_bd_s hf
    refine ev_callV hX YX12_reads ml_RX12_215 (mX12_reads hT hl0 hc3) (vs := []) (st := []) (by decide) 12 hl0 rfl rfl rfl (by decide +kernel) hC ?_
    show F S D3 121 [some (.ref l0), some (.int l1), some (.int l2)] []
    refine ev_blk hX lkok_RX12 [(.iload_n 1, 1, 0, 0, 0), (.iconst 1, 1, 0, 0, 1), (.iadd, 1, 0, 0, 0), (.istore_n 1, 1, 0, 0, 0)] (by decide +kernel) (g := true) (lv' := [some (.ref l0), some (.int (l1 + (1 : Int32))), some (.int l2)]) (st' := []) (D' := D3) (pc' := 125) rfl (rfl) rfl ?_
    refine ev_goto hX (off := (-123)) 2 (by decide +kernel) (by decide) ?_
    exact ev_weak hX (ev_le_eq (ev_le_eq (ev_le_no ev_le_nil))) (hk2 _ _ _ hl0 hf)
  · have hf := ev_it h2 hf
    refine ev_blk hX lkok_RX12 [(.aload_n 0, 1, 0, 0, 0), (.iconst 1, 1, 0, 0, 1)] (by decide +kernel) (g := true) (lv' := [some (.ref l0), some (.int l1), some (.int l2)]) (st' := [.int (1 : Int32), .ref l0]) (D' := D1) (pc' := 113) rfl (rfl) rfl ?_
    obtain ⟨v4, D4, hc4, hf⟩ := ev_bd_s hf
    refine ev_callV hX YX12_errs ml_RX12_208 (mX12_errs hT hl0 hc4) (vs := [.int (1 : Int32)]) (st := []) (by decide) 12 hl0 rfl rfl rfl (by decide +kernel) hC ?_
    show F S D4 116 [some (.ref l0), some (.int l1), some (.int l2)] [.int v4]
    exact ev_iret hR ev_sm.rf (Option.some.inj hf) hC (by decide +kernel)
set_option maxHeartbeats 4000000 in
set_option maxRecDepth 100000 in
theorem tX12_readLaw_2 {S : ev_S} {fu : Nat} {r : Int32 × ev_D} {F : ev_Fr} (hR : ev_R RX12 cX12_readLaw 3 8 0 0 false (some .int) S r F) (hT : ev_Ty S) (hC : sC S ≤ 0 ∧ sA S ≤ 0) : ∀ (n : Nat) (l0 : Nat) (l1 : Int32) (D : ev_D), sK S l0 = 15 → fX12_readLaw_2 (sL S) (sE S) fu n l0 l1 D = some r → F S D 2 [some (.ref l0), some (.int l1), none] [] := by
  have hX := hR.X
  intro n
  induction n with
  | zero =>
    intro l0 l1 D hl0 hf
    rw [fX12_readLaw_2] at hf
    cases hf
  | succ n ih =>
    intro l0 l1 D hl0 hf
    rw [fX12_readLaw_2] at hf
    refine ev_blk hX lkok_RX12 [(.aload_n 0, 1, 0, 0, 0)] (by decide +kernel) (g := true) (lv' := [some (.ref l0), some (.int l1), none]) (st' := [.ref l0]) (D' := D) (pc' := 3) rfl (rfl) rfl ?_
    obtain ⟨v6, D6, hc6, hf⟩ := ev_bd_s hf
    refine ev_callV hX YX12_isLineWord ml_RX12_249 (mX12_isLineWord hT hl0 hc6) (vs := []) (st := []) (by decide) 12 hl0 rfl rfl rfl (by decide +kernel) hC ?_
    show F S D6 6 [some (.ref l0), some (.int l1), none] [.int v6]
    refine ev_if_eq hX (off := 122) 128 (by decide +kernel) (by decide) (fun h7 => ?_) (fun h7 => ?_)
    · have hf := ev_it h7 hf
      refine ev_blk hX lkok_RX12 [(.aload_n 0, 1, 0, 0, 0), (.getfield 177, 3, 12, 16, 0)] (by decide +kernel) (g := (sK S l0 == 15) && (true)) (lv' := [some (.ref l0), some (.int l1), none]) (st' := [.int (D6 l0 16)]) (D' := D6) (pc' := 132) rfl (ev_gk hl0 (rfl)) rfl ?_
      refine ev_if_ne hX (off := 7) 139 (by decide +kernel) (by decide) (fun h8 => ?_) (fun h8 => ?_)
      · have hf := ev_nf h8 hf
        refine ev_blk hX lkok_RX12 [(.aload_n 0, 1, 0, 0, 0), (.iconst 1, 1, 0, 0, 1)] (by decide +kernel) (g := true) (lv' := [some (.ref l0), some (.int l1), none]) (st' := [.int (1 : Int32), .ref l0]) (D' := D6) (pc' := 141) rfl (rfl) rfl ?_
        obtain ⟨v9, D9, hc9, hf⟩ := ev_bd_s hf
        refine ev_callV hX YX12_errs ml_RX12_208 (mX12_errs hT hl0 hc9) (vs := [.int (1 : Int32)]) (st := []) (by decide) 12 hl0 rfl rfl rfl (by decide +kernel) hC ?_
        show F S D9 144 [some (.ref l0), some (.int l1), none] [.int v9]
        exact ev_iret hR ev_sm.rf (Option.some.inj hf) hC (by decide +kernel)
      · have hf := ev_it h8 hf
        refine ev_blk hX lkok_RX12 [(.iload_n 1, 1, 0, 0, 0)] (by decide +kernel) (g := true) (lv' := [some (.ref l0), some (.int l1), none]) (st' := [.int l1]) (D' := D6) (pc' := 136) rfl (rfl) rfl ?_
        refine ev_goto hX (off := 8) 144 (by decide +kernel) (by decide) ?_
        exact ev_iret hR ev_sm.rf (Option.some.inj hf) hC (by decide +kernel)
    · have hf := ev_nf h7 hf
      refine ev_blk hX lkok_RX12 [(.iload_n 1, 1, 0, 0, 0), (.bipush 16, 2, 0, 0, 16)] (by decide +kernel) (g := true) (lv' := [some (.ref l0), some (.int l1), none]) (st' := [.int (16 : Int32), .int l1]) (D' := D6) (pc' := 12) rfl (rfl) rfl ?_
      refine ev_ic_ne hX (off := 9) 21 (by decide +kernel) (by decide) (fun h10 => ?_) (fun h10 => ?_)
      · have hf := ev_nf h10 hf
        obtain ⟨hg21, hf⟩ := ev_gd_s hf
        refine ev_blk hX lkok_RX12 [(.bipush 32, 2, 0, 0, 32), (.iload_n 1, 1, 0, 0, 0), (.iadd, 1, 0, 0, 0), (.istore_n 2, 1, 0, 0, 0), (.aload_n 0, 1, 0, 0, 0), (.getfield 43, 3, 12, 20, 0), (.iload_n 2, 1, 0, 0, 0), (.aload_n 0, 1, 0, 0, 0), (.getfield 180, 3, 12, 17, 0), (.iastore, 1, 0, 0, 0), (.aload_n 0, 1, 0, 0, 0)] (by decide +kernel) (g := (sK S l0 == 15) && ((sK S l0 == 15) && ((sK S ((sE S) l0 20) == 1 && ev_in ((32 : Int32) + l1) ((sL S) ((sE S) l0 20))) && (true)))) (lv' := [some (.ref l0), some (.int l1), some (.int ((32 : Int32) + l1))]) (st' := [.ref l0]) (D' := (ev_up D6 ((sE S) l0 20) (((32 : Int32) + l1)).toNatClampNeg (D6 l0 17))) (pc' := 37) rfl (ev_gk hl0 (ev_gk hl0 (ev_gi (ev_tyk hT hl0 rfl rfl) hg21 (rfl)))) rfl ?_
        obtain ⟨v11, D11, hc11, hf⟩ := ev_bd_s hf
        refine ev_callV hX YX12_reads ml_RX12_215 (mX12_reads hT hl0 hc11) (vs := []) (st := []) (by decide) 12 hl0 rfl rfl rfl (by decide +kernel) hC ?_
        show F S D11 40 [some (.ref l0), some (.int l1), some (.int ((32 : Int32) + l1))] []
        obtain ⟨hg20, hf⟩ := ev_gd_s hf
        refine ev_blk hX lkok_RX12 [(.aload_n 0, 1, 0, 0, 0), (.getfield 46, 3, 12, 21, 0), (.iload_n 2, 1, 0, 0, 0), (.aload_n 0, 1, 0, 0, 0), (.getfield 202, 3, 12, 27, 0), (.iastore, 1, 0, 0, 0), (.aload_n 0, 1, 0, 0, 0)] (by decide +kernel) (g := (sK S l0 == 15) && ((sK S l0 == 15) && ((sK S ((sE S) l0 21) == 1 && ev_in ((32 : Int32) + l1) ((sL S) ((sE S) l0 21))) && (true)))) (lv' := [some (.ref l0), some (.int l1), some (.int ((32 : Int32) + l1))]) (st' := [.ref l0]) (D' := (ev_up D11 ((sE S) l0 21) (((32 : Int32) + l1)).toNatClampNeg (D11 l0 27))) (pc' := 51) rfl (ev_gk hl0 (ev_gk hl0 (ev_gi (ev_tyk hT hl0 rfl rfl) hg20 (rfl)))) rfl ?_
        obtain ⟨v12, D12, hc12, hf⟩ := ev_bd_s hf
        refine ev_callV hX YX12_readSum ml_RX12_228 (mX12_readSum hT hl0 hc12) (vs := []) (st := []) (by decide) 12 hl0 rfl rfl rfl (by decide +kernel) hC ?_
        show F S D12 54 [some (.ref l0), some (.int l1), some (.int ((32 : Int32) + l1))] [.int v12]
        refine ev_blk hX lkok_RX12 [(.iconst (-1), 1, 0, 0, (-1))] (by decide +kernel) (g := true) (lv' := [some (.ref l0), some (.int l1), some (.int ((32 : Int32) + l1))]) (st' := [.int (-1 : Int32), .int v12]) (D' := D12) (pc' := 55) rfl (rfl) rfl ?_
        refine ev_ic_ne hX (off := 5) 60 (by decide +kernel) (by decide) (fun h13 => ?_) (fun h13 => ?_)
        · have hf := ev_nf h13 hf
          obtain ⟨hg19, hf⟩ := ev_gd_s hf
          refine ev_blk hX lkok_RX12 [(.aload_n 0, 1, 0, 0, 0), (.getfield 49, 3, 12, 22, 0), (.iload_n 2, 1, 0, 0, 0), (.aload_n 0, 1, 0, 0, 0), (.getfield 202, 3, 12, 27, 0), (.iastore, 1, 0, 0, 0), (.aload_n 0, 1, 0, 0, 0), (.iconst 3, 1, 0, 0, 3)] (by decide +kernel) (g := (sK S l0 == 15) && ((sK S l0 == 15) && ((sK S ((sE S) l0 22) == 1 && ev_in ((32 : Int32) + l1) ((sL S) ((sE S) l0 22))) && (true)))) (lv' := [some (.ref l0), some (.int l1), some (.int ((32 : Int32) + l1))]) (st' := [.int (3 : Int32), .ref l0]) (D' := (ev_up D12 ((sE S) l0 22) (((32 : Int32) + l1)).toNatClampNeg (D12 l0 27))) (pc' := 72) rfl (ev_gk hl0 (ev_gk hl0 (ev_gi (ev_tyk hT hl0 rfl rfl) hg19 (rfl)))) rfl ?_
          obtain ⟨v14, D14, hc14, hf⟩ := ev_bd_s hf
          refine ev_callV hX YX12_isWord ml_RX12_237 (mX12_isWord hT hl0 hc14) (vs := [.int (3 : Int32)]) (st := []) (by decide) 12 hl0 rfl rfl rfl (by decide +kernel) hC ?_
          show F S D14 75 [some (.ref l0), some (.int l1), some (.int ((32 : Int32) + l1))] [.int v14]
          refine ev_if_eq hX (off := 17) 92 (by decide +kernel) (by decide) (fun h15 => ?_) (fun h15 => ?_)
          · have hf := ev_it h15 hf
            exact ev_weak hX (ev_le_eq (ev_le_eq (ev_le_eq ev_le_nil))) (tX12_readLaw_92 hR hT hC  ih hl0 hf)
          · have hf := ev_nf h15 hf
            refine ev_blk hX lkok_RX12 [(.aload_n 0, 1, 0, 0, 0)] (by decide +kernel) (g := true) (lv' := [some (.ref l0), some (.int l1), some (.int ((32 : Int32) + l1))]) (st' := [.ref l0]) (D' := D14) (pc' := 79) rfl (rfl) rfl ?_
            obtain ⟨v16, D16, hc16, hf⟩ := ev_bd_s hf
            refine ev_callV hX YX12_reads ml_RX12_215 (mX12_reads hT hl0 hc16) (vs := []) (st := []) (by decide) 12 hl0 rfl rfl rfl (by decide +kernel) hC ?_
            show F S D16 82 [some (.ref l0), some (.int l1), some (.int ((32 : Int32) + l1))] []
            refine ev_blk hX lkok_RX12 [(.aload_n 0, 1, 0, 0, 0)] (by decide +kernel) (g := true) (lv' := [some (.ref l0), some (.int l1), some (.int ((32 : Int32) + l1))]) (st' := [.ref l0]) (D' := D16) (pc' := 83) rfl (rfl) rfl ?_
            obtain ⟨v17, D17, hc17, hf⟩ := ev_bd_s hf
            refine ev_callV hX YX12_readAny ml_RX12_253 (mX12_readAny hT hl0 hc17) (vs := []) (st := []) (by decide) 12 hl0 rfl rfl rfl (by decide +kernel) hC ?_
            show F S D17 86 [some (.ref l0), some (.int l1), some (.int ((32 : Int32) + l1))] [.int v17]
            refine ev_blk hX lkok_RX12 [(.iconst (-1), 1, 0, 0, (-1))] (by decide +kernel) (g := true) (lv' := [some (.ref l0), some (.int l1), some (.int ((32 : Int32) + l1))]) (st' := [.int (-1 : Int32), .int v17]) (D' := D17) (pc' := 87) rfl (rfl) rfl ?_
            refine ev_ic_ne hX (off := 5) 92 (by decide +kernel) (by decide) (fun h18 => ?_) (fun h18 => ?_)
            · have hf := ev_nf h18 hf
              exact ev_weak hX (ev_le_eq (ev_le_eq (ev_le_eq ev_le_nil))) (tX12_readLaw_92 hR hT hC  ih hl0 hf)
            · have hf := ev_it h18 hf
              refine ev_blk hX lkok_RX12 [(.iconst (-1), 1, 0, 0, (-1))] (by decide +kernel) (g := true) (lv' := [some (.ref l0), some (.int l1), some (.int ((32 : Int32) + l1))]) (st' := [.int (-1 : Int32)]) (D' := D17) (pc' := 91) rfl (rfl) rfl ?_
              exact ev_iret hR ev_sm.rf (Option.some.inj hf) hC (by decide +kernel)
        · have hf := ev_it h13 hf
          refine ev_blk hX lkok_RX12 [(.iconst (-1), 1, 0, 0, (-1))] (by decide +kernel) (g := true) (lv' := [some (.ref l0), some (.int l1), some (.int ((32 : Int32) + l1))]) (st' := [.int (-1 : Int32)]) (D' := D12) (pc' := 59) rfl (rfl) rfl ?_
          exact ev_iret hR ev_sm.rf (Option.some.inj hf) hC (by decide +kernel)
      · have hf := ev_it h10 hf
        refine ev_blk hX lkok_RX12 [(.aload_n 0, 1, 0, 0, 0), (.iconst 3, 1, 0, 0, 3)] (by decide +kernel) (g := true) (lv' := [some (.ref l0), some (.int l1), none]) (st' := [.int (3 : Int32), .ref l0]) (D' := D6) (pc' := 17) rfl (rfl) rfl ?_
        obtain ⟨v22, D22, hc22, hf⟩ := ev_bd_s hf
        refine ev_callV hX YX12_errs ml_RX12_208 (mX12_errs hT hl0 hc22) (vs := [.int (3 : Int32)]) (st := []) (by decide) 12 hl0 rfl rfl rfl (by decide +kernel) hC ?_
        show F S D22 20 [some (.ref l0), some (.int l1), none] [.int v22]
        exact ev_iret hR ev_sm.rf (Option.some.inj hf) hC (by decide +kernel)
set_option maxHeartbeats 4000000 in
set_option maxRecDepth 100000 in
theorem tX12_readLaw {S : ev_S} {fu : Nat} {r : Int32 × ev_D} {F : ev_Fr} (hR : ev_R RX12 cX12_readLaw 3 8 0 0 false (some .int) S r F) (hT : ev_Ty S) (hC : sC S ≤ 0 ∧ sA S ≤ 0) {l0 : Nat} {D : ev_D} (hl0 : sK S l0 = 15) (hf : fX12_readLaw (sL S) (sE S) fu l0 D = some r) : F S D 0 [some (.ref l0), none, none] [] := by
  have hX := hR.X
  unfold fX12_readLaw at hf
  refine ev_blk hX lkok_RX12 [(.iconst 0, 1, 0, 0, 0), (.istore_n 1, 1, 0, 0, 0)] (by decide +kernel) (g := true) (lv' := [some (.ref l0), some (.int (0 : Int32)), none]) (st' := []) (D' := D) (pc' := 2) rfl (rfl) rfl ?_
  exact ev_weak hX (ev_le_eq (ev_le_eq (ev_le_no ev_le_nil))) (tX12_readLaw_2 hR hT hC   fu _ _ _ hl0 hf)
theorem mX12_readLaw {S : ev_S} {fu : Nat} {r : Int32 × ev_D} (hT : ev_Ty S) {l0 : Nat} {D : ev_D} (hl0 : sK S l0 = 15) (hf : fX12_readLaw (sL S) (sE S) fu l0 D = some r) : ev_M 8 0 0 yX12_readLaw cX12_readLaw 3 (some .int) [.ref l0] S D S r :=
  ev_met (ini := false) (plainFor_of_name (by decide)) (fun h => by cases h) rfl (Nat.le_of_ble_eq_true rfl) (fun F hR => tX12_readLaw (S := ev_z S) hR hT ⟨Nat.le_refl 0, Nat.le_refl 0⟩ hl0 hf)
set_option maxHeartbeats 4000000 in
set_option maxRecDepth 100000 in
theorem tX12_readRope_62 {S : ev_S} {fu : Nat} {r : Int32 × ev_D} {F : ev_Fr} (hR : ev_R RX12 cX12_readRope 3 5 0 0 false (some .int) S r F) (hT : ev_Ty S) (hC : sC S ≤ 0 ∧ sA S ≤ 0) {l0 : Nat} {l1 : Int32} {D : ev_D} (hl0 : sK S l0 = 15) (hf : fX12_readRope_62 (sL S) (sE S) fu l0 l1 D = some r) : F S D 62 [some (.ref l0), some (.int l1), none] [] := by
  have hX := hR.X
  unfold fX12_readRope_62 at hf
  refine ev_blk hX lkok_RX12 [(.aload_n 0, 1, 0, 0, 0), (.iconst 0, 1, 0, 0, 0), (.aload_n 0, 1, 0, 0, 0), (.getfield 140, 3, 12, 7, 0), (.iconst 1, 1, 0, 0, 1), (.isub, 1, 0, 0, 0)] (by decide +kernel) (g := (sK S l0 == 15) && (true)) (lv' := [some (.ref l0), some (.int l1), none]) (st' := [.int ((D l0 7) - (1 : Int32)), .int (0 : Int32), .ref l0]) (D' := D) (pc' := 70) rfl (ev_gk hl0 (rfl)) rfl ?_
  obtain ⟨v1, D1, hc1, hf⟩ := ev_bd_s hf
  refine ev_callV hX YX12_readNumber ml_RX12_259 (mX12_readNumber hT hl0 hc1) (vs := [.int (0 : Int32), .int ((D l0 7) - (1 : Int32))]) (st := []) (by decide) 12 hl0 rfl rfl rfl (by decide +kernel) hC ?_
  show F S D1 73 [some (.ref l0), some (.int l1), none] [.int v1]
  refine ev_blk hX lkok_RX12 [(.istore_n 2, 1, 0, 0, 0), (.iload_n 2, 1, 0, 0, 0), (.iconst (-1), 1, 0, 0, (-1))] (by decide +kernel) (g := true) (lv' := [some (.ref l0), some (.int l1), some (.int v1)]) (st' := [.int (-1 : Int32), .int v1]) (D' := D1) (pc' := 76) rfl (rfl) rfl ?_
  refine ev_ic_ne hX (off := 5) 81 (by decide +kernel) (by decide) (fun h2 => ?_) (fun h2 => ?_)
  · have hf := ev_nf h2 hf
    obtain ⟨hg4, hf⟩ := ev_gd_s hf
    obtain ⟨hg5, hf⟩ := ev_gd_s hf
    refine ev_blk hX lkok_RX12 [(.aload_n 0, 1, 0, 0, 0), (.getfield 68, 3, 12, 36, 0), (.bipush 10, 2, 0, 0, 10), (.iload_n 1, 1, 0, 0, 0), (.iadd, 1, 0, 0, 0), (.aload_n 0, 1, 0, 0, 0), (.getfield 68, 3, 12, 36, 0), (.bipush 10, 2, 0, 0, 10), (.iload_n 1, 1, 0, 0, 0), (.iadd, 1, 0, 0, 0), (.iaload, 1, 0, 0, 0), (.iconst 1, 1, 0, 0, 1), (.iload_n 2, 1, 0, 0, 0), (.ishl, 1, 0, 0, 0), (.ior, 1, 0, 0, 0), (.iastore, 1, 0, 0, 0), (.aload_n 0, 1, 0, 0, 0), (.bipush 59, 2, 0, 0, 59)] (by decide +kernel) (g := (sK S l0 == 15) && ((sK S l0 == 15) && ((sK S ((sE S) l0 36) == 1 && ev_in ((10 : Int32) + l1) ((sL S) ((sE S) l0 36))) && ((sK S ((sE S) l0 36) == 1 && ev_in ((10 : Int32) + l1) ((sL S) ((sE S) l0 36))) && (true))))) (lv' := [some (.ref l0), some (.int l1), some (.int v1)]) (st' := [.int (59 : Int32), .ref l0]) (D' := (ev_up D1 ((sE S) l0 36) (((10 : Int32) + l1)).toNatClampNeg ((D1 ((sE S) l0 36) (((10 : Int32) + l1)).toNatClampNeg) ||| ((1 : Int32) <<< (v1 &&& 31))))) (pc' := 106) rfl (ev_gk hl0 (ev_gk hl0 (ev_gi (ev_tyk hT hl0 rfl rfl) hg4 (ev_gi (ev_tyk hT hl0 rfl rfl) hg5 (rfl))))) rfl ?_
    obtain ⟨v3, D3, hc3, hf⟩ := ev_bd_s hf
    refine ev_callV hX YX12_readMark ml_RX12_266 (mX12_readMark hT hl0 hc3) (vs := [.int (59 : Int32)]) (st := []) (by decide) 12 hl0 rfl rfl rfl (by decide +kernel) hC ?_
    show F S D3 109 [some (.ref l0), some (.int l1), some (.int v1)] [.int v3]
    exact ev_iret hR ev_sm.rf (Option.some.inj hf) hC (by decide +kernel)
  · have hf := ev_it h2 hf
    refine ev_blk hX lkok_RX12 [(.iconst (-1), 1, 0, 0, (-1))] (by decide +kernel) (g := true) (lv' := [some (.ref l0), some (.int l1), some (.int v1)]) (st' := [.int (-1 : Int32)]) (D' := D1) (pc' := 80) rfl (rfl) rfl ?_
    exact ev_iret hR ev_sm.rf (Option.some.inj hf) hC (by decide +kernel)
set_option maxHeartbeats 4000000 in
set_option maxRecDepth 100000 in
theorem tX12_readRope {S : ev_S} {fu : Nat} {r : Int32 × ev_D} {F : ev_Fr} (hR : ev_R RX12 cX12_readRope 3 5 0 0 false (some .int) S r F) (hT : ev_Ty S) (hC : sC S ≤ 0 ∧ sA S ≤ 0) {l0 : Nat} {D : ev_D} (hl0 : sK S l0 = 15) (hf : fX12_readRope (sL S) (sE S) fu l0 D = some r) : F S D 0 [some (.ref l0), none, none] [] := by
  have hX := hR.X
  unfold fX12_readRope at hf
  refine ev_blk hX lkok_RX12 [(.aload_n 0, 1, 0, 0, 0), (.bipush 18, 2, 0, 0, 18), (.iconst 0, 1, 0, 0, 0), (.aload_n 0, 1, 0, 0, 0), (.getfield 140, 3, 12, 7, 0), (.iconst 1, 1, 0, 0, 1), (.isub, 1, 0, 0, 0)] (by decide +kernel) (g := (sK S l0 == 15) && (true)) (lv' := [some (.ref l0), none, none]) (st' := [.int ((D l0 7) - (1 : Int32)), .int (0 : Int32), .int (18 : Int32), .ref l0]) (D' := D) (pc' := 10) rfl (ev_gk hl0 (rfl)) rfl ?_
  obtain ⟨v6, D6, hc6, hf⟩ := ev_bd_s hf
  refine ev_callV hX YX12_readTold ml_RX12_262 (mX12_readTold hT hl0 hc6) (vs := [.int (18 : Int32), .int (0 : Int32), .int ((D l0 7) - (1 : Int32))]) (st := []) (by decide) 12 hl0 rfl rfl rfl (by decide +kernel) hC ?_
  show F S D6 13 [some (.ref l0), none, none] [.int v6]
  refine ev_blk hX lkok_RX12 [(.istore_n 1, 1, 0, 0, 0), (.iload_n 1, 1, 0, 0, 0), (.iconst (-1), 1, 0, 0, (-1))] (by decide +kernel) (g := true) (lv' := [some (.ref l0), some (.int v6), none]) (st' := [.int (-1 : Int32), .int v6]) (D' := D6) (pc' := 16) rfl (rfl) rfl ?_
  refine ev_ic_ne hX (off := 5) 21 (by decide +kernel) (by decide) (fun h7 => ?_) (fun h7 => ?_)
  · have hf := ev_nf h7 hf
    refine ev_blk hX lkok_RX12 [(.aload_n 0, 1, 0, 0, 0), (.bipush 19, 2, 0, 0, 19)] (by decide +kernel) (g := true) (lv' := [some (.ref l0), some (.int v6), none]) (st' := [.int (19 : Int32), .ref l0]) (D' := D6) (pc' := 24) rfl (rfl) rfl ?_
    obtain ⟨v8, D8, hc8, hf⟩ := ev_bd_s hf
    refine ev_callV hX YX12_isWord ml_RX12_237 (mX12_isWord hT hl0 hc8) (vs := [.int (19 : Int32)]) (st := []) (by decide) 12 hl0 rfl rfl rfl (by decide +kernel) hC ?_
    show F S D8 27 [some (.ref l0), some (.int v6), none] [.int v8]
    refine ev_if_ne hX (off := 9) 36 (by decide +kernel) (by decide) (fun h9 => ?_) (fun h9 => ?_)
    · have hf := ev_nf h9 hf
      refine ev_blk hX lkok_RX12 [(.aload_n 0, 1, 0, 0, 0)] (by decide +kernel) (g := true) (lv' := [some (.ref l0), some (.int v6), none]) (st' := [.ref l0]) (D' := D8) (pc' := 37) rfl (rfl) rfl ?_
      obtain ⟨v10, D10, hc10, hf⟩ := ev_bd_s hf
      refine ev_callV hX YX12_reads ml_RX12_215 (mX12_reads hT hl0 hc10) (vs := []) (st := []) (by decide) 12 hl0 rfl rfl rfl (by decide +kernel) hC ?_
      show F S D10 40 [some (.ref l0), some (.int v6), none] []
      refine ev_blk hX lkok_RX12 [(.aload_n 0, 1, 0, 0, 0), (.getfield 177, 3, 12, 16, 0), (.iconst 3, 1, 0, 0, 3)] (by decide +kernel) (g := (sK S l0 == 15) && (true)) (lv' := [some (.ref l0), some (.int v6), none]) (st' := [.int (3 : Int32), .int (D10 l0 16)]) (D' := D10) (pc' := 45) rfl (ev_gk hl0 (rfl)) rfl ?_
      refine ev_ic_ne hX (off := 17) 62 (by decide +kernel) (by decide) (fun h11 => ?_) (fun h11 => ?_)
      · have hf := ev_nf h11 hf
        exact ev_weak hX (ev_le_eq (ev_le_eq (ev_le_no ev_le_nil))) (tX12_readRope_62 hR hT hC   hl0 hf)
      · have hf := ev_it h11 hf
        refine ev_blk hX lkok_RX12 [(.aload_n 0, 1, 0, 0, 0), (.getfield 180, 3, 12, 17, 0), (.iload_n 1, 1, 0, 0, 0)] (by decide +kernel) (g := (sK S l0 == 15) && (true)) (lv' := [some (.ref l0), some (.int v6), none]) (st' := [.int v6, .int (D10 l0 17)]) (D' := D10) (pc' := 53) rfl (ev_gk hl0 (rfl)) rfl ?_
        refine ev_ic_ne hX (off := 9) 62 (by decide +kernel) (by decide) (fun h12 => ?_) (fun h12 => ?_)
        · have hf := ev_nf h12 hf
          exact ev_weak hX (ev_le_eq (ev_le_eq (ev_le_no ev_le_nil))) (tX12_readRope_62 hR hT hC   hl0 hf)
        · have hf := ev_it h12 hf
          refine ev_blk hX lkok_RX12 [(.aload_n 0, 1, 0, 0, 0), (.iconst 2, 1, 0, 0, 2)] (by decide +kernel) (g := true) (lv' := [some (.ref l0), some (.int v6), none]) (st' := [.int (2 : Int32), .ref l0]) (D' := D10) (pc' := 58) rfl (rfl) rfl ?_
          obtain ⟨v13, D13, hc13, hf⟩ := ev_bd_s hf
          refine ev_callV hX YX12_errs ml_RX12_208 (mX12_errs hT hl0 hc13) (vs := [.int (2 : Int32)]) (st := []) (by decide) 12 hl0 rfl rfl rfl (by decide +kernel) hC ?_
          show F S D13 61 [some (.ref l0), some (.int v6), none] [.int v13]
          exact ev_iret hR ev_sm.rf (Option.some.inj hf) hC (by decide +kernel)
    · have hf := ev_it h9 hf
      refine ev_blk hX lkok_RX12 [(.aload_n 0, 1, 0, 0, 0), (.iconst 1, 1, 0, 0, 1)] (by decide +kernel) (g := true) (lv' := [some (.ref l0), some (.int v6), none]) (st' := [.int (1 : Int32), .ref l0]) (D' := D8) (pc' := 32) rfl (rfl) rfl ?_
      obtain ⟨v14, D14, hc14, hf⟩ := ev_bd_s hf
      refine ev_callV hX YX12_errs ml_RX12_208 (mX12_errs hT hl0 hc14) (vs := [.int (1 : Int32)]) (st := []) (by decide) 12 hl0 rfl rfl rfl (by decide +kernel) hC ?_
      show F S D14 35 [some (.ref l0), some (.int v6), none] [.int v14]
      exact ev_iret hR ev_sm.rf (Option.some.inj hf) hC (by decide +kernel)
  · have hf := ev_it h7 hf
    refine ev_blk hX lkok_RX12 [(.iconst (-1), 1, 0, 0, (-1))] (by decide +kernel) (g := true) (lv' := [some (.ref l0), some (.int v6), none]) (st' := [.int (-1 : Int32)]) (D' := D6) (pc' := 20) rfl (rfl) rfl ?_
    exact ev_iret hR ev_sm.rf (Option.some.inj hf) hC (by decide +kernel)
theorem mX12_readRope {S : ev_S} {fu : Nat} {r : Int32 × ev_D} (hT : ev_Ty S) {l0 : Nat} {D : ev_D} (hl0 : sK S l0 = 15) (hf : fX12_readRope (sL S) (sE S) fu l0 D = some r) : ev_M 5 0 0 yX12_readRope cX12_readRope 3 (some .int) [.ref l0] S D S r :=
  ev_met (ini := false) (plainFor_of_name (by decide)) (fun h => by cases h) rfl (Nat.le_of_ble_eq_true rfl) (fun F hR => tX12_readRope (S := ev_z S) hR hT ⟨Nat.le_refl 0, Nat.le_refl 0⟩ hl0 hf)
set_option maxHeartbeats 4000000 in
set_option maxRecDepth 100000 in
theorem tX12_readRopes_26 {S : ev_S} {fu : Nat} {r : Int32 × ev_D} {F : ev_Fr} (hR : ev_R RX12 cX12_readRopes 2 6 0 0 false (some .int) S r F) (hT : ev_Ty S) (hC : sC S ≤ 0 ∧ sA S ≤ 0) : ∀ (n : Nat) (l0 : Nat) (l1 : Int32) (D : ev_D), sK S l0 = 15 → fX12_readRopes_26 (sL S) (sE S) fu n l0 l1 D = some r → F S D 26 [some (.ref l0), some (.int l1)] [] := by
  have hX := hR.X
  intro n
  induction n with
  | zero =>
    intro l0 l1 D hl0 hf
    rw [fX12_readRopes_26] at hf
    cases hf
  | succ n ih =>
    intro l0 l1 D hl0 hf
    rw [fX12_readRopes_26] at hf
    refine ev_blk hX lkok_RX12 [(.aload_n 0, 1, 0, 0, 0), (.bipush 18, 2, 0, 0, 18)] (by decide +kernel) (g := true) (lv' := [some (.ref l0), some (.int l1)]) (st' := [.int (18 : Int32), .ref l0]) (D' := D) (pc' := 29) rfl (rfl) rfl ?_
    obtain ⟨v1, D1, hc1, hf⟩ := ev_bd_s hf
    refine ev_callV hX YX12_isWord ml_RX12_237 (mX12_isWord hT hl0 hc1) (vs := [.int (18 : Int32)]) (st := []) (by decide) 12 hl0 rfl rfl rfl (by decide +kernel) hC ?_
    show F S D1 32 [some (.ref l0), some (.int l1)] [.int v1]
    refine ev_if_eq hX (off := 32) 64 (by decide +kernel) (by decide) (fun h2 => ?_) (fun h2 => ?_)
    · have hf := ev_it h2 hf
      refine ev_blk hX lkok_RX12 [(.aload_n 0, 1, 0, 0, 0), (.getfield 177, 3, 12, 16, 0)] (by decide +kernel) (g := (sK S l0 == 15) && (true)) (lv' := [some (.ref l0), some (.int l1)]) (st' := [.int (D1 l0 16)]) (D' := D1) (pc' := 68) rfl (ev_gk hl0 (rfl)) rfl ?_
      refine ev_if_ne hX (off := 7) 75 (by decide +kernel) (by decide) (fun h3 => ?_) (fun h3 => ?_)
      · have hf := ev_nf h3 hf
        refine ev_blk hX lkok_RX12 [(.aload_n 0, 1, 0, 0, 0), (.iconst 1, 1, 0, 0, 1)] (by decide +kernel) (g := true) (lv' := [some (.ref l0), some (.int l1)]) (st' := [.int (1 : Int32), .ref l0]) (D' := D1) (pc' := 77) rfl (rfl) rfl ?_
        obtain ⟨v4, D4, hc4, hf⟩ := ev_bd_s hf
        refine ev_callV hX YX12_errs ml_RX12_208 (mX12_errs hT hl0 hc4) (vs := [.int (1 : Int32)]) (st := []) (by decide) 12 hl0 rfl rfl rfl (by decide +kernel) hC ?_
        show F S D4 80 [some (.ref l0), some (.int l1)] [.int v4]
        exact ev_iret hR ev_sm.rf (Option.some.inj hf) hC (by decide +kernel)
      · have hf := ev_it h3 hf
        refine ev_blk hX lkok_RX12 [(.iload_n 1, 1, 0, 0, 0)] (by decide +kernel) (g := true) (lv' := [some (.ref l0), some (.int l1)]) (st' := [.int l1]) (D' := D1) (pc' := 72) rfl (rfl) rfl ?_
        refine ev_goto hX (off := 8) 80 (by decide +kernel) (by decide) ?_
        exact ev_iret hR ev_sm.rf (Option.some.inj hf) hC (by decide +kernel)
    · have hf := ev_nf h2 hf
      refine ev_blk hX lkok_RX12 [(.iload_n 1, 1, 0, 0, 0), (.bipush 16, 2, 0, 0, 16)] (by decide +kernel) (g := true) (lv' := [some (.ref l0), some (.int l1)]) (st' := [.int (16 : Int32), .int l1]) (D' := D1) (pc' := 38) rfl (rfl) rfl ?_
      refine ev_ic_ne hX (off := 9) 47 (by decide +kernel) (by decide) (fun h5 => ?_) (fun h5 => ?_)
      · have hf := ev_nf h5 hf
        refine ev_blk hX lkok_RX12 [(.aload_n 0, 1, 0, 0, 0)] (by decide +kernel) (g := true) (lv' := [some (.ref l0), some (.int l1)]) (st' := [.ref l0]) (D' := D1) (pc' := 48) rfl (rfl) rfl ?_
        obtain ⟨v6, D6, hc6, hf⟩ := ev_bd_s hf
        refine ev_callV hX YX12_readRope ml_RX12_269 (mX12_readRope hT hl0 hc6) (vs := []) (st := []) (by decide) 12 hl0 rfl rfl rfl (by decide +kernel) hC ?_
        show F S D6 51 [some (.ref l0), some (.int l1)] [.int v6]
        refine ev_blk hX lkok_RX12 [(.iconst (-1), 1, 0, 0, (-1))] (by decide +kernel) (g := true) (lv' := [some (.ref l0), some (.int l1)]) (st' := [.int (-1 : Int32), .int v6]) (D' := D6) (pc' := 52) rfl (rfl) rfl ?_
        refine ev_ic_ne hX (off := 5) 57 (by decide +kernel) (by decide) (fun h7 => ?_) (fun h7 => ?_)
        · have hf := ev_nf h7 hf
          refine ev_blk hX lkok_RX12 [(.iload_n 1, 1, 0, 0, 0), (.iconst 1, 1, 0, 0, 1), (.iadd, 1, 0, 0, 0), (.istore_n 1, 1, 0, 0, 0)] (by decide +kernel) (g := true) (lv' := [some (.ref l0), some (.int (l1 + (1 : Int32)))]) (st' := []) (D' := D6) (pc' := 61) rfl (rfl) rfl ?_
          refine ev_goto hX (off := (-35)) 26 (by decide +kernel) (by decide) ?_
          exact ev_weak hX (ev_le_eq (ev_le_eq ev_le_nil)) (ih _ _ _ hl0 hf)
        · have hf := ev_it h7 hf
          refine ev_blk hX lkok_RX12 [(.iconst (-1), 1, 0, 0, (-1))] (by decide +kernel) (g := true) (lv' := [some (.ref l0), some (.int l1)]) (st' := [.int (-1 : Int32)]) (D' := D6) (pc' := 56) rfl (rfl) rfl ?_
          exact ev_iret hR ev_sm.rf (Option.some.inj hf) hC (by decide +kernel)
      · have hf := ev_it h5 hf
        refine ev_blk hX lkok_RX12 [(.aload_n 0, 1, 0, 0, 0), (.iconst 3, 1, 0, 0, 3)] (by decide +kernel) (g := true) (lv' := [some (.ref l0), some (.int l1)]) (st' := [.int (3 : Int32), .ref l0]) (D' := D1) (pc' := 43) rfl (rfl) rfl ?_
        obtain ⟨v8, D8, hc8, hf⟩ := ev_bd_s hf
        refine ev_callV hX YX12_errs ml_RX12_208 (mX12_errs hT hl0 hc8) (vs := [.int (3 : Int32)]) (st := []) (by decide) 12 hl0 rfl rfl rfl (by decide +kernel) hC ?_
        show F S D8 46 [some (.ref l0), some (.int l1)] [.int v8]
        exact ev_iret hR ev_sm.rf (Option.some.inj hf) hC (by decide +kernel)
set_option maxHeartbeats 4000000 in
set_option maxRecDepth 100000 in
theorem tX12_readRopes_2 {S : ev_S} {fu : Nat} {r : Int32 × ev_D} {F : ev_Fr} (hR : ev_R RX12 cX12_readRopes 2 6 0 0 false (some .int) S r F) (hT : ev_Ty S) (hC : sC S ≤ 0 ∧ sA S ≤ 0) : ∀ (n : Nat) (l0 : Nat) (l1 : Int32) (D : ev_D), sK S l0 = 15 → fX12_readRopes_2 (sL S) (sE S) fu n l0 l1 D = some r → F S D 2 [some (.ref l0), some (.int l1)] [] := by
  have hX := hR.X
  intro n
  induction n with
  | zero =>
    intro l0 l1 D hl0 hf
    rw [fX12_readRopes_2] at hf
    cases hf
  | succ n ih =>
    intro l0 l1 D hl0 hf
    rw [fX12_readRopes_2] at hf
    refine ev_blk hX lkok_RX12 [(.iload_n 1, 1, 0, 0, 0), (.bipush 10, 2, 0, 0, 10)] (by decide +kernel) (g := true) (lv' := [some (.ref l0), some (.int l1)]) (st' := [.int (10 : Int32), .int l1]) (D' := D) (pc' := 5) rfl (rfl) rfl ?_
    refine ev_ic_ge hX (off := 19) 24 (by decide +kernel) (by decide) (fun h9 => ?_) (fun h9 => ?_)
    · have hf := ev_it h9 hf
      refine ev_blk hX lkok_RX12 [(.iconst 0, 1, 0, 0, 0), (.istore_n 1, 1, 0, 0, 0)] (by decide +kernel) (g := true) (lv' := [some (.ref l0), some (.int (0 : Int32))]) (st' := []) (D' := D) (pc' := 26) rfl (rfl) rfl ?_
      exact ev_weak hX (ev_le_eq (ev_le_eq ev_le_nil)) (tX12_readRopes_26 hR hT hC   fu _ _ _ hl0 hf)
    · have hf := ev_nf h9 hf
      obtain ⟨hg10, hf⟩ := ev_gd_s hf
      refine ev_blk hX lkok_RX12 [(.aload_n 0, 1, 0, 0, 0), (.getfield 68, 3, 12, 36, 0), (.bipush 10, 2, 0, 0, 10), (.iload_n 1, 1, 0, 0, 0), (.iadd, 1, 0, 0, 0), (.iconst 0, 1, 0, 0, 0), (.iastore, 1, 0, 0, 0), (.iinc 1 1, 3, 0, 0, 1)] (by decide +kernel) (g := (sK S l0 == 15) && ((sK S ((sE S) l0 36) == 1 && ev_in ((10 : Int32) + l1) ((sL S) ((sE S) l0 36))) && (true))) (lv' := [some (.ref l0), some (.int (l1 + (1 : Int32)))]) (st' := []) (D' := (ev_up D ((sE S) l0 36) (((10 : Int32) + l1)).toNatClampNeg (0 : Int32))) (pc' := 21) rfl (ev_gk hl0 (ev_gi (ev_tyk hT hl0 rfl rfl) hg10 (rfl))) rfl ?_
      refine ev_goto hX (off := (-19)) 2 (by decide +kernel) (by decide) ?_
      exact ev_weak hX (ev_le_eq (ev_le_eq ev_le_nil)) (ih _ _ _ hl0 hf)
set_option maxHeartbeats 4000000 in
set_option maxRecDepth 100000 in
theorem tX12_readRopes {S : ev_S} {fu : Nat} {r : Int32 × ev_D} {F : ev_Fr} (hR : ev_R RX12 cX12_readRopes 2 6 0 0 false (some .int) S r F) (hT : ev_Ty S) (hC : sC S ≤ 0 ∧ sA S ≤ 0) {l0 : Nat} {D : ev_D} (hl0 : sK S l0 = 15) (hf : fX12_readRopes (sL S) (sE S) fu l0 D = some r) : F S D 0 [some (.ref l0), none] [] := by
  have hX := hR.X
  unfold fX12_readRopes at hf
  refine ev_blk hX lkok_RX12 [(.iconst 0, 1, 0, 0, 0), (.istore_n 1, 1, 0, 0, 0)] (by decide +kernel) (g := true) (lv' := [some (.ref l0), some (.int (0 : Int32))]) (st' := []) (D' := D) (pc' := 2) rfl (rfl) rfl ?_
  exact ev_weak hX (ev_le_eq (ev_le_eq ev_le_nil)) (tX12_readRopes_2 hR hT hC   fu _ _ _ hl0 hf)
theorem mX12_readRopes {S : ev_S} {fu : Nat} {r : Int32 × ev_D} (hT : ev_Ty S) {l0 : Nat} {D : ev_D} (hl0 : sK S l0 = 15) (hf : fX12_readRopes (sL S) (sE S) fu l0 D = some r) : ev_M 6 0 0 yX12_readRopes cX12_readRopes 2 (some .int) [.ref l0] S D S r :=
  ev_met (ini := false) (plainFor_of_name (by decide)) (fun h => by cases h) rfl (Nat.le_of_ble_eq_true rfl) (fun F hR => tX12_readRopes (S := ev_z S) hR hT ⟨Nat.le_refl 0, Nat.le_refl 0⟩ hl0 hf)
set_option maxHeartbeats 4000000 in
set_option maxRecDepth 100000 in
theorem tX12_readsText {S : ev_S} {fu : Nat} {r : Int32 × ev_D} {F : ev_Fr} (hR : ev_R RX12 cX12_readsText 2 9 0 0 false (some .int) S r F) (hT : ev_Ty S) (hC : sC S ≤ 0 ∧ sA S ≤ 0) {l0 : Nat} {l1 : Int32} {D : ev_D} (hl0 : sK S l0 = 15) (hf : fX12_readsText (sL S) (sE S) fu l0 l1 D = some r) : F S D 0 [some (.ref l0), some (.int l1)] [] := by
  have hX := hR.X
  unfold fX12_readsText at hf
  refine ev_blk hX lkok_RX12 [(.aload_n 0, 1, 0, 0, 0), (.iconst 0, 1, 0, 0, 0), (.putfield 256, 3, 12, 26, 0), (.aload_n 0, 1, 0, 0, 0)] (by decide +kernel) (g := (sK S l0 == 15) && (true)) (lv' := [some (.ref l0), some (.int l1)]) (st' := [.ref l0]) (D' := (ev_up D l0 26 (0 : Int32))) (pc' := 6) rfl (ev_gk hl0 (rfl)) rfl ?_
  obtain ⟨v1, D1, hc1, hf⟩ := ev_bd_s hf
  refine ev_callV hX YX12_reads ml_RX12_215 (mX12_reads hT hl0 hc1) (vs := []) (st := []) (by decide) 12 hl0 rfl rfl rfl (by decide +kernel) hC ?_
  show F S D1 9 [some (.ref l0), some (.int l1)] []
  refine ev_blk hX lkok_RX12 [(.iload_n 1, 1, 0, 0, 0), (.iconst 1, 1, 0, 0, 1)] (by decide +kernel) (g := true) (lv' := [some (.ref l0), some (.int l1)]) (st' := [.int (1 : Int32), .int l1]) (D' := D1) (pc' := 11) rfl (rfl) rfl ?_
  refine ev_ic_ne hX (off := 8) 19 (by decide +kernel) (by decide) (fun h2 => ?_) (fun h2 => ?_)
  · have hf := ev_nf h2 hf
    refine ev_blk hX lkok_RX12 [(.iload_n 1, 1, 0, 0, 0), (.iconst 2, 1, 0, 0, 2)] (by decide +kernel) (g := true) (lv' := [some (.ref l0), some (.int l1)]) (st' := [.int (2 : Int32), .int l1]) (D' := D1) (pc' := 21) rfl (rfl) rfl ?_
    refine ev_ic_ne hX (off := 8) 29 (by decide +kernel) (by decide) (fun h3 => ?_) (fun h3 => ?_)
    · have hf := ev_nf h3 hf
      refine ev_blk hX lkok_RX12 [(.iload_n 1, 1, 0, 0, 0), (.iconst 3, 1, 0, 0, 3)] (by decide +kernel) (g := true) (lv' := [some (.ref l0), some (.int l1)]) (st' := [.int (3 : Int32), .int l1]) (D' := D1) (pc' := 31) rfl (rfl) rfl ?_
      refine ev_ic_ne hX (off := 10) 41 (by decide +kernel) (by decide) (fun h4 => ?_) (fun h4 => ?_)
      · have hf := ev_nf h4 hf
        refine ev_blk hX lkok_RX12 [(.aload_n 0, 1, 0, 0, 0)] (by decide +kernel) (g := true) (lv' := [some (.ref l0), some (.int l1)]) (st' := [.ref l0]) (D' := D1) (pc' := 42) rfl (rfl) rfl ?_
        obtain ⟨v5, D5, hc5, hf⟩ := ev_bd_s hf
        refine ev_callV hX YX12_readLaw ml_RX12_287 (mX12_readLaw hT hl0 hc5) (vs := []) (st := []) (by decide) 12 hl0 rfl rfl rfl (by decide +kernel) hC ?_
        show F S D5 45 [some (.ref l0), some (.int l1)] [.int v5]
        exact ev_iret hR ev_sm.rf (Option.some.inj hf) hC (by decide +kernel)
      · have hf := ev_it h4 hf
        refine ev_blk hX lkok_RX12 [(.aload_n 0, 1, 0, 0, 0)] (by decide +kernel) (g := true) (lv' := [some (.ref l0), some (.int l1)]) (st' := [.ref l0]) (D' := D1) (pc' := 35) rfl (rfl) rfl ?_
        obtain ⟨v6, D6, hc6, hf⟩ := ev_bd_s hf
        refine ev_callV hX YX12_readChanges ml_RX12_284 (mX12_readChanges hT hl0 hc6) (vs := []) (st := []) (by decide) 12 hl0 rfl rfl rfl (by decide +kernel) hC ?_
        show F S D6 38 [some (.ref l0), some (.int l1)] [.int v6]
        refine ev_goto hX (off := 7) 45 (by decide +kernel) (by decide) ?_
        exact ev_iret hR ev_sm.rf (Option.some.inj hf) hC (by decide +kernel)
    · have hf := ev_it h3 hf
      refine ev_blk hX lkok_RX12 [(.aload_n 0, 1, 0, 0, 0)] (by decide +kernel) (g := true) (lv' := [some (.ref l0), some (.int l1)]) (st' := [.ref l0]) (D' := D1) (pc' := 25) rfl (rfl) rfl ?_
      obtain ⟨v7, D7, hc7, hf⟩ := ev_bd_s hf
      refine ev_callV hX YX12_readDays ml_RX12_281 (mX12_readDays hT hl0 hc7) (vs := []) (st := []) (by decide) 12 hl0 rfl rfl rfl (by decide +kernel) hC ?_
      show F S D7 28 [some (.ref l0), some (.int l1)] [.int v7]
      exact ev_iret hR ev_sm.rf (Option.some.inj hf) hC (by decide +kernel)
  · have hf := ev_it h2 hf
    refine ev_blk hX lkok_RX12 [(.aload_n 0, 1, 0, 0, 0)] (by decide +kernel) (g := true) (lv' := [some (.ref l0), some (.int l1)]) (st' := [.ref l0]) (D' := D1) (pc' := 15) rfl (rfl) rfl ?_
    obtain ⟨v8, D8, hc8, hf⟩ := ev_bd_s hf
    refine ev_callV hX YX12_readRopes ml_RX12_278 (mX12_readRopes hT hl0 hc8) (vs := []) (st := []) (by decide) 12 hl0 rfl rfl rfl (by decide +kernel) hC ?_
    show F S D8 18 [some (.ref l0), some (.int l1)] [.int v8]
    exact ev_iret hR ev_sm.rf (Option.some.inj hf) hC (by decide +kernel)
theorem mX12_readsText {S : ev_S} {fu : Nat} {r : Int32 × ev_D} (hT : ev_Ty S) {l0 : Nat} {l1 : Int32} {D : ev_D} (hl0 : sK S l0 = 15) (hf : fX12_readsText (sL S) (sE S) fu l0 l1 D = some r) : ev_M 9 0 0 yX12_readsText cX12_readsText 2 (some .int) [.ref l0, .int l1] S D S r :=
  ev_met (ini := false) (plainFor_of_name (by decide)) (fun h => by cases h) rfl (Nat.le_of_ble_eq_true rfl) (fun F hR => tX12_readsText (S := ev_z S) hR hT ⟨Nat.le_refl 0, Nat.le_refl 0⟩ hl0 hf)
set_option maxHeartbeats 4000000 in
set_option maxRecDepth 100000 in
theorem tX12_takesLaw_165 {S : ev_S} {fu : Nat} {r : Int32 × ev_D} {F : ev_Fr} (hR : ev_R RX12 cX12_takesLaw 3 0 0 0 false none S r F) (hT : ev_Ty S) (hC : sC S ≤ 0 ∧ sA S ≤ 0) {k107 : Nat → Int32 → Int32 → ev_D → ev_Op} (hk107 : ∀ (l0 : Nat) (l1 : Int32) (l2 : Int32) (D : ev_D), sK S l0 = 15 → k107 l0 l1 l2 D = some r → F S D 107 [some (.ref l0), some (.int l1), some (.int l2)] []) {l0 : Nat} {l1 : Int32} {l2 : Int32} {D : ev_D} (hl0 : sK S l0 = 15) (hf : fX12_takesLaw_165 (sL S) (sE S) fu k107 l0 l1 l2 D = some r) : F S D 165 [some (.ref l0), some (.int l1), some (.int l2)] [] := by
  have hX := hR.X
  unfold fX12_takesLaw_165 at hf
  refine ev_blk hX lkok_RX12 [(.iinc 2 1, 3, 0, 0, 1)] (by decide +kernel) (g := true) (lv' := [some (.ref l0), some (.int l1), some (.int (l2 + (1 : Int32)))]) (st' := []) (D' := D) (pc' := 168) rfl (rfl) rfl ?_
  refine ev_goto hX (off := (-61)) 107 (by decide +kernel) (by decide) ?_
  exact ev_weak hX (ev_le_eq (ev_le_eq (ev_le_eq ev_le_nil))) (hk107 _ _ _ _ hl0 hf)
set_option maxHeartbeats 4000000 in
set_option maxRecDepth 100000 in
theorem tX12_takesLaw_107 {S : ev_S} {fu : Nat} {r : Int32 × ev_D} {F : ev_Fr} (hR : ev_R RX12 cX12_takesLaw 3 0 0 0 false none S r F) (hT : ev_Ty S) (hC : sC S ≤ 0 ∧ sA S ≤ 0) : ∀ (n : Nat) (l0 : Nat) (l1 : Int32) (l2 : Int32) (D : ev_D), sK S l0 = 15 → fX12_takesLaw_107 (sL S) (sE S) fu n l0 l1 l2 D = some r → F S D 107 [some (.ref l0), some (.int l1), some (.int l2)] [] := by
  have hX := hR.X
  intro n
  induction n with
  | zero =>
    intro l0 l1 l2 D hl0 hf
    rw [fX12_takesLaw_107] at hf
    cases hf
  | succ n ih =>
    intro l0 l1 l2 D hl0 hf
    rw [fX12_takesLaw_107] at hf
    refine ev_blk hX lkok_RX12 [(.iload_n 2, 1, 0, 0, 0), (.aload_n 0, 1, 0, 0, 0), (.getfield 202, 3, 12, 27, 0)] (by decide +kernel) (g := (sK S l0 == 15) && (true)) (lv' := [some (.ref l0), some (.int l1), some (.int l2)]) (st' := [.int (D l0 27), .int l2]) (D' := D) (pc' := 112) rfl (ev_gk hl0 (rfl)) rfl ?_
    refine ev_ic_ge hX (off := 59) 171 (by decide +kernel) (by decide) (fun h1 => ?_) (fun h1 => ?_)
    · have hf := ev_it h1 hf
      obtain ⟨hg2, hf⟩ := ev_gd_s hf
      refine ev_blk hX lkok_RX12 [(.aload_n 0, 1, 0, 0, 0), (.getfield 40, 3, 12, 19, 0), (.aload_n 0, 1, 0, 0, 0), (.getfield 256, 3, 12, 26, 0), (.iload_n 1, 1, 0, 0, 0), (.iastore, 1, 0, 0, 0)] (by decide +kernel) (g := (sK S l0 == 15) && ((sK S l0 == 15) && ((sK S ((sE S) l0 19) == 1 && ev_in (D l0 26) ((sL S) ((sE S) l0 19))) && (true)))) (lv' := [some (.ref l0), some (.int l1), some (.int l2)]) (st' := []) (D' := (ev_up D ((sE S) l0 19) ((D l0 26)).toNatClampNeg l1)) (pc' := 181) rfl (ev_gk hl0 (ev_gk hl0 (ev_gi (ev_tyk hT hl0 rfl rfl) hg2 (rfl)))) rfl ?_
      exact ev_vret hR ev_sm.rf (Option.some.inj hf) hC (by decide +kernel)
    · have hf := ev_nf h1 hf
      obtain ⟨hg3, hf⟩ := ev_gd_s hf
      obtain ⟨hg4, hf⟩ := ev_gd_s hf
      obtain ⟨hg5, hf⟩ := ev_gd_s hf
      obtain ⟨hg6, hf⟩ := ev_gd_s hf
      refine ev_blk hX lkok_RX12 [(.aload_n 0, 1, 0, 0, 0), (.getfield 55, 3, 12, 24, 0), (.sipush 400, 3, 0, 0, 400), (.aload_n 0, 1, 0, 0, 0), (.getfield 256, 3, 12, 26, 0), (.imul, 1, 0, 0, 0), (.iload_n 2, 1, 0, 0, 0), (.iadd, 1, 0, 0, 0), (.aload_n 0, 1, 0, 0, 0), (.getfield 55, 3, 12, 24, 0), (.sipush 800, 3, 0, 0, 800), (.iload_n 2, 1, 0, 0, 0), (.iadd, 1, 0, 0, 0), (.iaload, 1, 0, 0, 0), (.iastore, 1, 0, 0, 0), (.aload_n 0, 1, 0, 0, 0), (.getfield 58, 3, 12, 25, 0), (.sipush 400, 3, 0, 0, 400), (.aload_n 0, 1, 0, 0, 0), (.getfield 256, 3, 12, 26, 0), (.imul, 1, 0, 0, 0), (.iload_n 2, 1, 0, 0, 0), (.iadd, 1, 0, 0, 0), (.aload_n 0, 1, 0, 0, 0), (.getfield 58, 3, 12, 25, 0), (.sipush 800, 3, 0, 0, 800), (.iload_n 2, 1, 0, 0, 0), (.iadd, 1, 0, 0, 0), (.iaload, 1, 0, 0, 0), (.iastore, 1, 0, 0, 0)] (by decide +kernel) (g := (sK S l0 == 15) && ((sK S l0 == 15) && ((sK S l0 == 15) && ((sK S ((sE S) l0 24) == 1 && ev_in ((800 : Int32) + l2) ((sL S) ((sE S) l0 24))) && ((sK S ((sE S) l0 24) == 1 && ev_in (((400 : Int32) * (D l0 26)) + l2) ((sL S) ((sE S) l0 24))) && ((sK S l0 == 15) && ((sK S l0 == 15) && ((sK S l0 == 15) && ((sK S ((sE S) l0 25) == 1 && ev_in ((800 : Int32) + l2) ((sL S) ((sE S) l0 25))) && ((sK S ((sE S) l0 25) == 1 && ev_in (((400 : Int32) * ((ev_up D ((sE S) l0 24) ((((400 : Int32) * (D l0 26)) + l2)).toNatClampNeg (D ((sE S) l0 24) (((800 : Int32) + l2)).toNatClampNeg)) l0 26)) + l2) ((sL S) ((sE S) l0 25))) && (true))))))))))) (lv' := [some (.ref l0), some (.int l1), some (.int l2)]) (st' := []) (D' := (ev_up (ev_up D ((sE S) l0 24) ((((400 : Int32) * (D l0 26)) + l2)).toNatClampNeg (D ((sE S) l0 24) (((800 : Int32) + l2)).toNatClampNeg)) ((sE S) l0 25) ((((400 : Int32) * ((ev_up D ((sE S) l0 24) ((((400 : Int32) * (D l0 26)) + l2)).toNatClampNeg (D ((sE S) l0 24) (((800 : Int32) + l2)).toNatClampNeg)) l0 26)) + l2)).toNatClampNeg ((ev_up D ((sE S) l0 24) ((((400 : Int32) * (D l0 26)) + l2)).toNatClampNeg (D ((sE S) l0 24) (((800 : Int32) + l2)).toNatClampNeg)) ((sE S) l0 25) (((800 : Int32) + l2)).toNatClampNeg))) (pc' := 165) rfl (ev_gk hl0 (ev_gk hl0 (ev_gk hl0 (ev_gi (ev_tyk hT hl0 rfl rfl) hg3 (ev_gi (ev_tyk hT hl0 rfl rfl) hg4 (ev_gk hl0 (ev_gk hl0 (ev_gk hl0 (ev_gi (ev_tyk hT hl0 rfl rfl) hg5 (ev_gi (ev_tyk hT hl0 rfl rfl) hg6 (rfl))))))))))) rfl ?_
      exact ev_weak hX (ev_le_eq (ev_le_eq (ev_le_eq ev_le_nil))) (tX12_takesLaw_165 hR hT hC  ih hl0 hf)
set_option maxHeartbeats 4000000 in
set_option maxRecDepth 100000 in
theorem tX12_takesLaw_99 {S : ev_S} {fu : Nat} {r : Int32 × ev_D} {F : ev_Fr} (hR : ev_R RX12 cX12_takesLaw 3 0 0 0 false none S r F) (hT : ev_Ty S) (hC : sC S ≤ 0 ∧ sA S ≤ 0) {k2 : Nat → Int32 → Int32 → ev_D → ev_Op} (hk2 : ∀ (l0 : Nat) (l1 : Int32) (l2 : Int32) (D : ev_D), sK S l0 = 15 → k2 l0 l1 l2 D = some r → F S D 2 [some (.ref l0), some (.int l1), some (.int l2)] []) {l0 : Nat} {l1 : Int32} {l2 : Int32} {D : ev_D} (hl0 : sK S l0 = 15) (hf : fX12_takesLaw_99 (sL S) (sE S) fu k2 l0 l1 l2 D = some r) : F S D 99 [some (.ref l0), some (.int l1), some (.int l2)] [] := by
  have hX := hR.X
  unfold fX12_takesLaw_99 at hf
  refine ev_blk hX lkok_RX12 [(.iinc 2 1, 3, 0, 0, 1)] (by decide +kernel) (g := true) (lv' := [some (.ref l0), some (.int l1), some (.int (l2 + (1 : Int32)))]) (st' := []) (D' := D) (pc' := 102) rfl (rfl) rfl ?_
  refine ev_goto hX (off := (-100)) 2 (by decide +kernel) (by decide) ?_
  exact ev_weak hX (ev_le_eq (ev_le_eq (ev_le_eq ev_le_nil))) (hk2 _ _ _ _ hl0 hf)
set_option maxHeartbeats 4000000 in
set_option maxRecDepth 100000 in
theorem tX12_takesLaw_53 {S : ev_S} {fu : Nat} {r : Int32 × ev_D} {F : ev_Fr} (hR : ev_R RX12 cX12_takesLaw 3 0 0 0 false none S r F) (hT : ev_Ty S) (hC : sC S ≤ 0 ∧ sA S ≤ 0) {k2 : Nat → Int32 → Int32 → ev_D → ev_Op} (hk2 : ∀ (l0 : Nat) (l1 : Int32) (l2 : Int32) (D : ev_D), sK S l0 = 15 → k2 l0 l1 l2 D = some r → F S D 2 [some (.ref l0), some (.int l1), some (.int l2)] []) {l0 : Nat} {l1 : Int32} {l2 : Int32} {D : ev_D} (hl0 : sK S l0 = 15) (hf : fX12_takesLaw_53 (sL S) (sE S) fu k2 l0 l1 l2 D = some r) : F S D 53 [some (.ref l0), some (.int l1), some (.int l2)] [] := by
  have hX := hR.X
  unfold fX12_takesLaw_53 at hf
  obtain ⟨hg7, hf⟩ := ev_gd_s hf
  obtain ⟨hg8, hf⟩ := ev_gd_s hf
  obtain ⟨hg9, hf⟩ := ev_gd_s hf
  obtain ⟨hg10, hf⟩ := ev_gd_s hf
  refine ev_blk hX lkok_RX12 [(.aload_n 0, 1, 0, 0, 0), (.getfield 49, 3, 12, 22, 0), (.bipush 16, 2, 0, 0, 16), (.aload_n 0, 1, 0, 0, 0), (.getfield 256, 3, 12, 26, 0), (.imul, 1, 0, 0, 0), (.iload_n 2, 1, 0, 0, 0), (.iadd, 1, 0, 0, 0), (.aload_n 0, 1, 0, 0, 0), (.getfield 49, 3, 12, 22, 0), (.bipush 32, 2, 0, 0, 32), (.iload_n 2, 1, 0, 0, 0), (.iadd, 1, 0, 0, 0), (.iaload, 1, 0, 0, 0), (.iastore, 1, 0, 0, 0), (.aload_n 0, 1, 0, 0, 0), (.getfield 52, 3, 12, 23, 0), (.bipush 16, 2, 0, 0, 16), (.aload_n 0, 1, 0, 0, 0), (.getfield 256, 3, 12, 26, 0), (.imul, 1, 0, 0, 0), (.iload_n 2, 1, 0, 0, 0), (.iadd, 1, 0, 0, 0), (.aload_n 0, 1, 0, 0, 0), (.getfield 52, 3, 12, 23, 0), (.bipush 32, 2, 0, 0, 32), (.iload_n 2, 1, 0, 0, 0), (.iadd, 1, 0, 0, 0), (.iaload, 1, 0, 0, 0), (.iastore, 1, 0, 0, 0)] (by decide +kernel) (g := (sK S l0 == 15) && ((sK S l0 == 15) && ((sK S l0 == 15) && ((sK S ((sE S) l0 22) == 1 && ev_in ((32 : Int32) + l2) ((sL S) ((sE S) l0 22))) && ((sK S ((sE S) l0 22) == 1 && ev_in (((16 : Int32) * (D l0 26)) + l2) ((sL S) ((sE S) l0 22))) && ((sK S l0 == 15) && ((sK S l0 == 15) && ((sK S l0 == 15) && ((sK S ((sE S) l0 23) == 1 && ev_in ((32 : Int32) + l2) ((sL S) ((sE S) l0 23))) && ((sK S ((sE S) l0 23) == 1 && ev_in (((16 : Int32) * ((ev_up D ((sE S) l0 22) ((((16 : Int32) * (D l0 26)) + l2)).toNatClampNeg (D ((sE S) l0 22) (((32 : Int32) + l2)).toNatClampNeg)) l0 26)) + l2) ((sL S) ((sE S) l0 23))) && (true))))))))))) (lv' := [some (.ref l0), some (.int l1), some (.int l2)]) (st' := []) (D' := (ev_up (ev_up D ((sE S) l0 22) ((((16 : Int32) * (D l0 26)) + l2)).toNatClampNeg (D ((sE S) l0 22) (((32 : Int32) + l2)).toNatClampNeg)) ((sE S) l0 23) ((((16 : Int32) * ((ev_up D ((sE S) l0 22) ((((16 : Int32) * (D l0 26)) + l2)).toNatClampNeg (D ((sE S) l0 22) (((32 : Int32) + l2)).toNatClampNeg)) l0 26)) + l2)).toNatClampNeg ((ev_up D ((sE S) l0 22) ((((16 : Int32) * (D l0 26)) + l2)).toNatClampNeg (D ((sE S) l0 22) (((32 : Int32) + l2)).toNatClampNeg)) ((sE S) l0 23) (((32 : Int32) + l2)).toNatClampNeg))) (pc' := 99) rfl (ev_gk hl0 (ev_gk hl0 (ev_gk hl0 (ev_gi (ev_tyk hT hl0 rfl rfl) hg7 (ev_gi (ev_tyk hT hl0 rfl rfl) hg8 (ev_gk hl0 (ev_gk hl0 (ev_gk hl0 (ev_gi (ev_tyk hT hl0 rfl rfl) hg9 (ev_gi (ev_tyk hT hl0 rfl rfl) hg10 (rfl))))))))))) rfl ?_
  exact ev_weak hX (ev_le_eq (ev_le_eq (ev_le_eq ev_le_nil))) (tX12_takesLaw_99 hR hT hC  hk2 hl0 hf)
set_option maxHeartbeats 4000000 in
set_option maxRecDepth 100000 in
theorem tX12_takesLaw_2 {S : ev_S} {fu : Nat} {r : Int32 × ev_D} {F : ev_Fr} (hR : ev_R RX12 cX12_takesLaw 3 0 0 0 false none S r F) (hT : ev_Ty S) (hC : sC S ≤ 0 ∧ sA S ≤ 0) : ∀ (n : Nat) (l0 : Nat) (l1 : Int32) (l2 : Int32) (D : ev_D), sK S l0 = 15 → fX12_takesLaw_2 (sL S) (sE S) fu n l0 l1 l2 D = some r → F S D 2 [some (.ref l0), some (.int l1), some (.int l2)] [] := by
  have hX := hR.X
  intro n
  induction n with
  | zero =>
    intro l0 l1 l2 D hl0 hf
    rw [fX12_takesLaw_2] at hf
    cases hf
  | succ n ih =>
    intro l0 l1 l2 D hl0 hf
    rw [fX12_takesLaw_2] at hf
    refine ev_blk hX lkok_RX12 [(.iload_n 2, 1, 0, 0, 0), (.iload_n 1, 1, 0, 0, 0)] (by decide +kernel) (g := true) (lv' := [some (.ref l0), some (.int l1), some (.int l2)]) (st' := [.int l1, .int l2]) (D' := D) (pc' := 4) rfl (rfl) rfl ?_
    refine ev_ic_ge hX (off := 101) 105 (by decide +kernel) (by decide) (fun h11 => ?_) (fun h11 => ?_)
    · have hf := ev_it h11 hf
      refine ev_blk hX lkok_RX12 [(.iconst 0, 1, 0, 0, 0), (.istore_n 2, 1, 0, 0, 0)] (by decide +kernel) (g := true) (lv' := [some (.ref l0), some (.int l1), some (.int (0 : Int32))]) (st' := []) (D' := D) (pc' := 107) rfl (rfl) rfl ?_
      exact ev_weak hX (ev_le_eq (ev_le_eq (ev_le_eq ev_le_nil))) (tX12_takesLaw_107 hR hT hC   fu _ _ _ _ hl0 hf)
    · have hf := ev_nf h11 hf
      obtain ⟨hg12, hf⟩ := ev_gd_s hf
      obtain ⟨hg13, hf⟩ := ev_gd_s hf
      obtain ⟨hg14, hf⟩ := ev_gd_s hf
      obtain ⟨hg15, hf⟩ := ev_gd_s hf
      refine ev_blk hX lkok_RX12 [(.aload_n 0, 1, 0, 0, 0), (.getfield 43, 3, 12, 20, 0), (.bipush 16, 2, 0, 0, 16), (.aload_n 0, 1, 0, 0, 0), (.getfield 256, 3, 12, 26, 0), (.imul, 1, 0, 0, 0), (.iload_n 2, 1, 0, 0, 0), (.iadd, 1, 0, 0, 0), (.aload_n 0, 1, 0, 0, 0), (.getfield 43, 3, 12, 20, 0), (.bipush 32, 2, 0, 0, 32), (.iload_n 2, 1, 0, 0, 0), (.iadd, 1, 0, 0, 0), (.iaload, 1, 0, 0, 0), (.iastore, 1, 0, 0, 0), (.aload_n 0, 1, 0, 0, 0), (.getfield 46, 3, 12, 21, 0), (.bipush 16, 2, 0, 0, 16), (.aload_n 0, 1, 0, 0, 0), (.getfield 256, 3, 12, 26, 0), (.imul, 1, 0, 0, 0), (.iload_n 2, 1, 0, 0, 0), (.iadd, 1, 0, 0, 0), (.aload_n 0, 1, 0, 0, 0), (.getfield 46, 3, 12, 21, 0), (.bipush 32, 2, 0, 0, 32), (.iload_n 2, 1, 0, 0, 0), (.iadd, 1, 0, 0, 0), (.iaload, 1, 0, 0, 0), (.iastore, 1, 0, 0, 0)] (by decide +kernel) (g := (sK S l0 == 15) && ((sK S l0 == 15) && ((sK S l0 == 15) && ((sK S ((sE S) l0 20) == 1 && ev_in ((32 : Int32) + l2) ((sL S) ((sE S) l0 20))) && ((sK S ((sE S) l0 20) == 1 && ev_in (((16 : Int32) * (D l0 26)) + l2) ((sL S) ((sE S) l0 20))) && ((sK S l0 == 15) && ((sK S l0 == 15) && ((sK S l0 == 15) && ((sK S ((sE S) l0 21) == 1 && ev_in ((32 : Int32) + l2) ((sL S) ((sE S) l0 21))) && ((sK S ((sE S) l0 21) == 1 && ev_in (((16 : Int32) * ((ev_up D ((sE S) l0 20) ((((16 : Int32) * (D l0 26)) + l2)).toNatClampNeg (D ((sE S) l0 20) (((32 : Int32) + l2)).toNatClampNeg)) l0 26)) + l2) ((sL S) ((sE S) l0 21))) && (true))))))))))) (lv' := [some (.ref l0), some (.int l1), some (.int l2)]) (st' := []) (D' := (ev_up (ev_up D ((sE S) l0 20) ((((16 : Int32) * (D l0 26)) + l2)).toNatClampNeg (D ((sE S) l0 20) (((32 : Int32) + l2)).toNatClampNeg)) ((sE S) l0 21) ((((16 : Int32) * ((ev_up D ((sE S) l0 20) ((((16 : Int32) * (D l0 26)) + l2)).toNatClampNeg (D ((sE S) l0 20) (((32 : Int32) + l2)).toNatClampNeg)) l0 26)) + l2)).toNatClampNeg ((ev_up D ((sE S) l0 20) ((((16 : Int32) * (D l0 26)) + l2)).toNatClampNeg (D ((sE S) l0 20) (((32 : Int32) + l2)).toNatClampNeg)) ((sE S) l0 21) (((32 : Int32) + l2)).toNatClampNeg))) (pc' := 53) rfl (ev_gk hl0 (ev_gk hl0 (ev_gk hl0 (ev_gi (ev_tyk hT hl0 rfl rfl) hg12 (ev_gi (ev_tyk hT hl0 rfl rfl) hg13 (ev_gk hl0 (ev_gk hl0 (ev_gk hl0 (ev_gi (ev_tyk hT hl0 rfl rfl) hg14 (ev_gi (ev_tyk hT hl0 rfl rfl) hg15 (rfl))))))))))) rfl ?_
      exact ev_weak hX (ev_le_eq (ev_le_eq (ev_le_eq ev_le_nil))) (tX12_takesLaw_53 hR hT hC  ih hl0 hf)
set_option maxHeartbeats 4000000 in
set_option maxRecDepth 100000 in
theorem tX12_takesLaw {S : ev_S} {fu : Nat} {r : Int32 × ev_D} {F : ev_Fr} (hR : ev_R RX12 cX12_takesLaw 3 0 0 0 false none S r F) (hT : ev_Ty S) (hC : sC S ≤ 0 ∧ sA S ≤ 0) {l0 : Nat} {l1 : Int32} {D : ev_D} (hl0 : sK S l0 = 15) (hf : fX12_takesLaw (sL S) (sE S) fu l0 l1 D = some r) : F S D 0 [some (.ref l0), some (.int l1), none] [] := by
  have hX := hR.X
  unfold fX12_takesLaw at hf
  refine ev_blk hX lkok_RX12 [(.iconst 0, 1, 0, 0, 0), (.istore_n 2, 1, 0, 0, 0)] (by decide +kernel) (g := true) (lv' := [some (.ref l0), some (.int l1), some (.int (0 : Int32))]) (st' := []) (D' := D) (pc' := 2) rfl (rfl) rfl ?_
  exact ev_weak hX (ev_le_eq (ev_le_eq (ev_le_eq ev_le_nil))) (tX12_takesLaw_2 hR hT hC   fu _ _ _ _ hl0 hf)
theorem mX12_takesLaw {S : ev_S} {fu : Nat} {r : Int32 × ev_D} (hT : ev_Ty S) {l0 : Nat} {l1 : Int32} {D : ev_D} (hl0 : sK S l0 = 15) (hf : fX12_takesLaw (sL S) (sE S) fu l0 l1 D = some r) : ev_M 0 0 0 yX12_takesLaw cX12_takesLaw 3 none [.ref l0, .int l1] S D S r :=
  ev_met (ini := false) (plainFor_of_name (by decide)) (fun h => by cases h) rfl (Nat.le_of_ble_eq_true rfl) (fun F hR => tX12_takesLaw (S := ev_z S) hR hT ⟨Nat.le_refl 0, Nat.le_refl 0⟩ hl0 hf)
set_option maxHeartbeats 4000000 in
set_option maxRecDepth 100000 in
theorem tX12_takesOther_92 {S : ev_S} {fu : Nat} {r : Int32 × ev_D} {F : ev_Fr} (hR : ev_R RX12 cX12_takesOther 4 0 0 0 false none S r F) (hT : ev_Ty S) (hC : sC S ≤ 0 ∧ sA S ≤ 0) : ∀ (n : Nat) (l0 : Nat) (l2 : Int32) (l3 : Int32) (D : ev_D), sK S l0 = 15 → fX12_takesOther_92 (sL S) (sE S) fu n l0 l2 l3 D = some r → F S D 92 [some (.ref l0), none, some (.int l2), some (.int l3)] [] := by
  have hX := hR.X
  intro n
  induction n with
  | zero =>
    intro l0 l2 l3 D hl0 hf
    rw [fX12_takesOther_92] at hf
    cases hf
  | succ n ih =>
    intro l0 l2 l3 D hl0 hf
    rw [fX12_takesOther_92] at hf
    refine ev_blk hX lkok_RX12 [(.iload_n 3, 1, 0, 0, 0), (.iload_n 2, 1, 0, 0, 0)] (by decide +kernel) (g := true) (lv' := [some (.ref l0), none, some (.int l2), some (.int l3)]) (st' := [.int l2, .int l3]) (D' := D) (pc' := 94) rfl (rfl) rfl ?_
    refine ev_ic_ge hX (off := 24) 118 (by decide +kernel) (by decide) (fun h1 => ?_) (fun h1 => ?_)
    · have hf := ev_it h1 hf
      refine ev_blk hX lkok_RX12 [(.aload_n 0, 1, 0, 0, 0), (.iload_n 2, 1, 0, 0, 0), (.putfield 296, 3, 12, 39, 0)] (by decide +kernel) (g := (sK S l0 == 15) && (true)) (lv' := [some (.ref l0), none, some (.int l2), some (.int l3)]) (st' := []) (D' := (ev_up D l0 39 l2)) (pc' := 123) rfl (ev_gk hl0 (rfl)) rfl ?_
      exact ev_vret hR ev_sm.rf (Option.some.inj hf) hC (by decide +kernel)
    · have hf := ev_nf h1 hf
      obtain ⟨hg2, hf⟩ := ev_gd_s hf
      obtain ⟨hg3, hf⟩ := ev_gd_s hf
      refine ev_blk hX lkok_RX12 [(.aload_n 0, 1, 0, 0, 0), (.getfield 74, 3, 12, 40, 0), (.iload_n 3, 1, 0, 0, 0), (.aload_n 0, 1, 0, 0, 0), (.getfield 74, 3, 12, 40, 0), (.bipush 16, 2, 0, 0, 16), (.iload_n 3, 1, 0, 0, 0), (.iadd, 1, 0, 0, 0), (.iaload, 1, 0, 0, 0), (.iastore, 1, 0, 0, 0), (.iinc 3 1, 3, 0, 0, 1)] (by decide +kernel) (g := (sK S l0 == 15) && ((sK S l0 == 15) && ((sK S ((sE S) l0 40) == 1 && ev_in ((16 : Int32) + l3) ((sL S) ((sE S) l0 40))) && ((sK S ((sE S) l0 40) == 1 && ev_in l3 ((sL S) ((sE S) l0 40))) && (true))))) (lv' := [some (.ref l0), none, some (.int l2), some (.int (l3 + (1 : Int32)))]) (st' := []) (D' := (ev_up D ((sE S) l0 40) (l3).toNatClampNeg (D ((sE S) l0 40) (((16 : Int32) + l3)).toNatClampNeg))) (pc' := 115) rfl (ev_gk hl0 (ev_gk hl0 (ev_gi (ev_tyk hT hl0 rfl rfl) hg2 (ev_gi (ev_tyk hT hl0 rfl rfl) hg3 (rfl))))) rfl ?_
      refine ev_goto hX (off := (-23)) 92 (by decide +kernel) (by decide) ?_
      exact ev_weak hX (ev_le_eq (ev_le_no (ev_le_eq (ev_le_eq ev_le_nil)))) (ih _ _ _ _ hl0 hf)
set_option maxHeartbeats 4000000 in
set_option maxRecDepth 100000 in
theorem tX12_takesOther_49 {S : ev_S} {fu : Nat} {r : Int32 × ev_D} {F : ev_Fr} (hR : ev_R RX12 cX12_takesOther 4 0 0 0 false none S r F) (hT : ev_Ty S) (hC : sC S ≤ 0 ∧ sA S ≤ 0) : ∀ (n : Nat) (l0 : Nat) (l2 : Int32) (l3 : Int32) (D : ev_D), sK S l0 = 15 → fX12_takesOther_49 (sL S) (sE S) fu n l0 l2 l3 D = some r → F S D 49 [some (.ref l0), none, some (.int l2), some (.int l3)] [] := by
  have hX := hR.X
  intro n
  induction n with
  | zero =>
    intro l0 l2 l3 D hl0 hf
    rw [fX12_takesOther_49] at hf
    cases hf
  | succ n ih =>
    intro l0 l2 l3 D hl0 hf
    rw [fX12_takesOther_49] at hf
    refine ev_blk hX lkok_RX12 [(.iload_n 3, 1, 0, 0, 0), (.iconst 3, 1, 0, 0, 3), (.iload_n 2, 1, 0, 0, 0), (.imul, 1, 0, 0, 0)] (by decide +kernel) (g := true) (lv' := [some (.ref l0), none, some (.int l2), some (.int l3)]) (st' := [.int ((3 : Int32) * l2), .int l3]) (D' := D) (pc' := 53) rfl (rfl) rfl ?_
    refine ev_ic_ge hX (off := 24) 77 (by decide +kernel) (by decide) (fun h4 => ?_) (fun h4 => ?_)
    · have hf := ev_it h4 hf
      refine ev_blk hX lkok_RX12 [(.aload_n 0, 1, 0, 0, 0), (.iload_n 2, 1, 0, 0, 0), (.putfield 293, 3, 12, 37, 0), (.aload_n 0, 1, 0, 0, 0), (.iconst 0, 1, 0, 0, 0), (.putfield 131, 3, 12, 3, 0)] (by decide +kernel) (g := (sK S l0 == 15) && ((sK S l0 == 15) && (true))) (lv' := [some (.ref l0), none, some (.int l2), some (.int l3)]) (st' := []) (D' := (ev_up (ev_up D l0 37 l2) l0 3 (0 : Int32))) (pc' := 87) rfl (ev_gk hl0 (ev_gk hl0 (rfl))) rfl ?_
      refine ev_goto hX (off := 36) 123 (by decide +kernel) (by decide) ?_
      exact ev_vret hR ev_sm.rf (Option.some.inj hf) hC (by decide +kernel)
    · have hf := ev_nf h4 hf
      obtain ⟨hg5, hf⟩ := ev_gd_s hf
      obtain ⟨hg6, hf⟩ := ev_gd_s hf
      refine ev_blk hX lkok_RX12 [(.aload_n 0, 1, 0, 0, 0), (.getfield 71, 3, 12, 38, 0), (.iload_n 3, 1, 0, 0, 0), (.aload_n 0, 1, 0, 0, 0), (.getfield 71, 3, 12, 38, 0), (.bipush 48, 2, 0, 0, 48), (.iload_n 3, 1, 0, 0, 0), (.iadd, 1, 0, 0, 0), (.iaload, 1, 0, 0, 0), (.iastore, 1, 0, 0, 0), (.iinc 3 1, 3, 0, 0, 1)] (by decide +kernel) (g := (sK S l0 == 15) && ((sK S l0 == 15) && ((sK S ((sE S) l0 38) == 1 && ev_in ((48 : Int32) + l3) ((sL S) ((sE S) l0 38))) && ((sK S ((sE S) l0 38) == 1 && ev_in l3 ((sL S) ((sE S) l0 38))) && (true))))) (lv' := [some (.ref l0), none, some (.int l2), some (.int (l3 + (1 : Int32)))]) (st' := []) (D' := (ev_up D ((sE S) l0 38) (l3).toNatClampNeg (D ((sE S) l0 38) (((48 : Int32) + l3)).toNatClampNeg))) (pc' := 74) rfl (ev_gk hl0 (ev_gk hl0 (ev_gi (ev_tyk hT hl0 rfl rfl) hg5 (ev_gi (ev_tyk hT hl0 rfl rfl) hg6 (rfl))))) rfl ?_
      refine ev_goto hX (off := (-25)) 49 (by decide +kernel) (by decide) ?_
      exact ev_weak hX (ev_le_eq (ev_le_no (ev_le_eq (ev_le_eq ev_le_nil)))) (ih _ _ _ _ hl0 hf)
set_option maxHeartbeats 4000000 in
set_option maxRecDepth 100000 in
theorem tX12_takesOther_7 {S : ev_S} {fu : Nat} {r : Int32 × ev_D} {F : ev_Fr} (hR : ev_R RX12 cX12_takesOther 4 0 0 0 false none S r F) (hT : ev_Ty S) (hC : sC S ≤ 0 ∧ sA S ≤ 0) : ∀ (n : Nat) (l0 : Nat) (l2 : Int32) (l3 : Int32) (D : ev_D), sK S l0 = 15 → fX12_takesOther_7 (sL S) (sE S) fu n l0 l2 l3 D = some r → F S D 7 [some (.ref l0), none, some (.int l2), some (.int l3)] [] := by
  have hX := hR.X
  intro n
  induction n with
  | zero =>
    intro l0 l2 l3 D hl0 hf
    rw [fX12_takesOther_7] at hf
    cases hf
  | succ n ih =>
    intro l0 l2 l3 D hl0 hf
    rw [fX12_takesOther_7] at hf
    refine ev_blk hX lkok_RX12 [(.iload_n 3, 1, 0, 0, 0), (.bipush 10, 2, 0, 0, 10)] (by decide +kernel) (g := true) (lv' := [some (.ref l0), none, some (.int l2), some (.int l3)]) (st' := [.int (10 : Int32), .int l3]) (D' := D) (pc' := 10) rfl (rfl) rfl ?_
    refine ev_ic_ge hX (off := 24) 34 (by decide +kernel) (by decide) (fun h7 => ?_) (fun h7 => ?_)
    · have hf := ev_it h7 hf
      refine ev_blk hX lkok_RX12 [(.aload_n 0, 1, 0, 0, 0), (.iload_n 2, 1, 0, 0, 0), (.putfield 290, 3, 12, 35, 0)] (by decide +kernel) (g := (sK S l0 == 15) && (true)) (lv' := [some (.ref l0), none, some (.int l2), some (.int l3)]) (st' := []) (D' := (ev_up D l0 35 l2)) (pc' := 39) rfl (ev_gk hl0 (rfl)) rfl ?_
      refine ev_goto hX (off := 84) 123 (by decide +kernel) (by decide) ?_
      exact ev_vret hR ev_sm.rf (Option.some.inj hf) hC (by decide +kernel)
    · have hf := ev_nf h7 hf
      obtain ⟨hg8, hf⟩ := ev_gd_s hf
      obtain ⟨hg9, hf⟩ := ev_gd_s hf
      refine ev_blk hX lkok_RX12 [(.aload_n 0, 1, 0, 0, 0), (.getfield 68, 3, 12, 36, 0), (.iload_n 3, 1, 0, 0, 0), (.aload_n 0, 1, 0, 0, 0), (.getfield 68, 3, 12, 36, 0), (.bipush 10, 2, 0, 0, 10), (.iload_n 3, 1, 0, 0, 0), (.iadd, 1, 0, 0, 0), (.iaload, 1, 0, 0, 0), (.iastore, 1, 0, 0, 0), (.iinc 3 1, 3, 0, 0, 1)] (by decide +kernel) (g := (sK S l0 == 15) && ((sK S l0 == 15) && ((sK S ((sE S) l0 36) == 1 && ev_in ((10 : Int32) + l3) ((sL S) ((sE S) l0 36))) && ((sK S ((sE S) l0 36) == 1 && ev_in l3 ((sL S) ((sE S) l0 36))) && (true))))) (lv' := [some (.ref l0), none, some (.int l2), some (.int (l3 + (1 : Int32)))]) (st' := []) (D' := (ev_up D ((sE S) l0 36) (l3).toNatClampNeg (D ((sE S) l0 36) (((10 : Int32) + l3)).toNatClampNeg))) (pc' := 31) rfl (ev_gk hl0 (ev_gk hl0 (ev_gi (ev_tyk hT hl0 rfl rfl) hg8 (ev_gi (ev_tyk hT hl0 rfl rfl) hg9 (rfl))))) rfl ?_
      refine ev_goto hX (off := (-24)) 7 (by decide +kernel) (by decide) ?_
      exact ev_weak hX (ev_le_eq (ev_le_no (ev_le_eq (ev_le_eq ev_le_nil)))) (ih _ _ _ _ hl0 hf)
set_option maxHeartbeats 4000000 in
set_option maxRecDepth 100000 in
theorem tX12_takesOther {S : ev_S} {fu : Nat} {r : Int32 × ev_D} {F : ev_Fr} (hR : ev_R RX12 cX12_takesOther 4 0 0 0 false none S r F) (hT : ev_Ty S) (hC : sC S ≤ 0 ∧ sA S ≤ 0) {l0 : Nat} {l1 : Int32} {l2 : Int32} {D : ev_D} (hl0 : sK S l0 = 15) (hf : fX12_takesOther (sL S) (sE S) fu l0 l1 l2 D = some r) : F S D 0 [some (.ref l0), some (.int l1), some (.int l2), none] [] := by
  have hX := hR.X
  unfold fX12_takesOther at hf
  refine ev_blk hX lkok_RX12 [(.iload_n 1, 1, 0, 0, 0), (.iconst 1, 1, 0, 0, 1)] (by decide +kernel) (g := true) (lv' := [some (.ref l0), some (.int l1), some (.int l2), none]) (st' := [.int (1 : Int32), .int l1]) (D' := D) (pc' := 2) rfl (rfl) rfl ?_
  refine ev_ic_ne hX (off := 40) 42 (by decide +kernel) (by decide) (fun h10 => ?_) (fun h10 => ?_)
  · have hf := ev_nf h10 hf
    refine ev_blk hX lkok_RX12 [(.iload_n 1, 1, 0, 0, 0), (.iconst 2, 1, 0, 0, 2)] (by decide +kernel) (g := true) (lv' := [some (.ref l0), some (.int l1), some (.int l2), none]) (st' := [.int (2 : Int32), .int l1]) (D' := D) (pc' := 44) rfl (rfl) rfl ?_
    refine ev_ic_ne hX (off := 46) 90 (by decide +kernel) (by decide) (fun h11 => ?_) (fun h11 => ?_)
    · have hf := ev_nf h11 hf
      refine ev_blk hX lkok_RX12 [(.iconst 0, 1, 0, 0, 0), (.istore_n 3, 1, 0, 0, 0)] (by decide +kernel) (g := true) (lv' := [some (.ref l0), some (.int l1), some (.int l2), some (.int (0 : Int32))]) (st' := []) (D' := D) (pc' := 92) rfl (rfl) rfl ?_
      exact ev_weak hX (ev_le_eq (ev_le_no (ev_le_eq (ev_le_eq ev_le_nil)))) (tX12_takesOther_92 hR hT hC   fu _ _ _ _ hl0 hf)
    · have hf := ev_it h11 hf
      refine ev_blk hX lkok_RX12 [(.iconst 0, 1, 0, 0, 0), (.istore_n 3, 1, 0, 0, 0)] (by decide +kernel) (g := true) (lv' := [some (.ref l0), some (.int l1), some (.int l2), some (.int (0 : Int32))]) (st' := []) (D' := D) (pc' := 49) rfl (rfl) rfl ?_
      exact ev_weak hX (ev_le_eq (ev_le_no (ev_le_eq (ev_le_eq ev_le_nil)))) (tX12_takesOther_49 hR hT hC   fu _ _ _ _ hl0 hf)
  · have hf := ev_it h10 hf
    refine ev_blk hX lkok_RX12 [(.iconst 0, 1, 0, 0, 0), (.istore_n 3, 1, 0, 0, 0)] (by decide +kernel) (g := true) (lv' := [some (.ref l0), some (.int l1), some (.int l2), some (.int (0 : Int32))]) (st' := []) (D' := D) (pc' := 7) rfl (rfl) rfl ?_
    exact ev_weak hX (ev_le_eq (ev_le_no (ev_le_eq (ev_le_eq ev_le_nil)))) (tX12_takesOther_7 hR hT hC   fu _ _ _ _ hl0 hf)
theorem mX12_takesOther {S : ev_S} {fu : Nat} {r : Int32 × ev_D} (hT : ev_Ty S) {l0 : Nat} {l1 : Int32} {l2 : Int32} {D : ev_D} (hl0 : sK S l0 = 15) (hf : fX12_takesOther (sL S) (sE S) fu l0 l1 l2 D = some r) : ev_M 0 0 0 yX12_takesOther cX12_takesOther 4 none [.ref l0, .int l1, .int l2] S D S r :=
  ev_met (ini := false) (plainFor_of_name (by decide)) (fun h => by cases h) rfl (Nat.le_of_ble_eq_true rfl) (fun F hR => tX12_takesOther (S := ev_z S) hR hT ⟨Nat.le_refl 0, Nat.le_refl 0⟩ hl0 hf)
set_option maxHeartbeats 4000000 in
set_option maxRecDepth 100000 in
theorem tX12_text_69 {S : ev_S} {fu : Nat} {r : Int32 × ev_D} {F : ev_Fr} (hR : ev_R RX12 cX12_text 3 10 0 0 false (some .int) S r F) (hT : ev_Ty S) (hC : sC S ≤ 0 ∧ sA S ≤ 0) {l0 : Nat} {l1 : Int32} {l2 : Int32} {D : ev_D} (hl0 : sK S l0 = 15) (hf : fX12_text_69 (sL S) (sE S) fu l0 l1 l2 D = some r) : F S D 69 [some (.ref l0), some (.int l1), some (.int l2)] [] := by
  have hX := hR.X
  unfold fX12_text_69 at hf
  refine ev_blk hX lkok_RX12 [(.aload_n 0, 1, 0, 0, 0), (.iconst 0, 1, 0, 0, 0), (.putfield 160, 3, 12, 13, 0), (.iload_n 2, 1, 0, 0, 0), (.iconst (-1), 1, 0, 0, (-1))] (by decide +kernel) (g := (sK S l0 == 15) && (true)) (lv' := [some (.ref l0), some (.int l1), some (.int l2)]) (st' := [.int (-1 : Int32), .int l2]) (D' := (ev_up D l0 13 (0 : Int32))) (pc' := 76) rfl (ev_gk hl0 (rfl)) rfl ?_
  refine ev_ic_ne hX (off := 5) 81 (by decide +kernel) (by decide) (fun h1 => ?_) (fun h1 => ?_)
  · have hf := ev_nf h1 hf
    refine ev_blk hX lkok_RX12 [(.iload_n 1, 1, 0, 0, 0)] (by decide +kernel) (g := true) (lv' := [some (.ref l0), some (.int l1), some (.int l2)]) (st' := [.int l1]) (D' := (ev_up D l0 13 (0 : Int32))) (pc' := 82) rfl (rfl) rfl ?_
    refine ev_if_ne hX (off := 11) 93 (by decide +kernel) (by decide) (fun h2 => ?_) (fun h2 => ?_)
    · have hf := ev_nf h2 hf
      refine ev_blk hX lkok_RX12 [(.aload_n 0, 1, 0, 0, 0), (.iload_n 1, 1, 0, 0, 0), (.iload_n 2, 1, 0, 0, 0)] (by decide +kernel) (g := true) (lv' := [some (.ref l0), some (.int l1), some (.int l2)]) (st' := [.int l2, .int l1, .ref l0]) (D' := (ev_up D l0 13 (0 : Int32))) (pc' := 96) rfl (rfl) rfl ?_
      obtain ⟨v3, D3, hc3, hf⟩ := ev_bd_s hf
      refine ev_callV hX YX12_takesOther ml_RX12_308 (mX12_takesOther hT hl0 hc3) (vs := [.int l1, .int l2]) (st := []) (by decide) 12 hl0 rfl rfl rfl (by decide +kernel) hC ?_
      show F S D3 99 [some (.ref l0), some (.int l1), some (.int l2)] []
      refine ev_blk hX lkok_RX12 [(.iload_n 2, 1, 0, 0, 0)] (by decide +kernel) (g := true) (lv' := [some (.ref l0), some (.int l1), some (.int l2)]) (st' := [.int l2]) (D' := D3) (pc' := 100) rfl (rfl) rfl ?_
      exact ev_iret hR ev_sm.rf (Option.some.inj hf) hC (by decide +kernel)
    · have hf := ev_it h2 hf
      refine ev_blk hX lkok_RX12 [(.aload_n 0, 1, 0, 0, 0), (.iload_n 2, 1, 0, 0, 0)] (by decide +kernel) (g := true) (lv' := [some (.ref l0), some (.int l1), some (.int l2)]) (st' := [.int l2, .ref l0]) (D' := (ev_up D l0 13 (0 : Int32))) (pc' := 87) rfl (rfl) rfl ?_
      obtain ⟨v4, D4, hc4, hf⟩ := ev_bd_s hf
      refine ev_callV hX YX12_takesLaw ml_RX12_305 (mX12_takesLaw hT hl0 hc4) (vs := [.int l2]) (st := []) (by decide) 12 hl0 rfl rfl rfl (by decide +kernel) hC ?_
      show F S D4 90 [some (.ref l0), some (.int l1), some (.int l2)] []
      refine ev_goto hX (off := 9) 99 (by decide +kernel) (by decide) ?_
      refine ev_blk hX lkok_RX12 [(.iload_n 2, 1, 0, 0, 0)] (by decide +kernel) (g := true) (lv' := [some (.ref l0), some (.int l1), some (.int l2)]) (st' := [.int l2]) (D' := D4) (pc' := 100) rfl (rfl) rfl ?_
      exact ev_iret hR ev_sm.rf (Option.some.inj hf) hC (by decide +kernel)
  · have hf := ev_it h1 hf
    refine ev_blk hX lkok_RX12 [(.iconst (-1), 1, 0, 0, (-1))] (by decide +kernel) (g := true) (lv' := [some (.ref l0), some (.int l1), some (.int l2)]) (st' := [.int (-1 : Int32)]) (D' := (ev_up D l0 13 (0 : Int32))) (pc' := 80) rfl (rfl) rfl ?_
    exact ev_iret hR ev_sm.rf (Option.some.inj hf) hC (by decide +kernel)
set_option maxHeartbeats 4000000 in
set_option maxRecDepth 100000 in
theorem tX12_text {S : ev_S} {fu : Nat} {r : Int32 × ev_D} {F : ev_Fr} (hR : ev_R RX12 cX12_text 3 10 0 0 false (some .int) S r F) (hT : ev_Ty S) (hC : sC S ≤ 0 ∧ sA S ≤ 0) {l0 : Nat} {l1 : Int32} {D : ev_D} (hl0 : sK S l0 = 15) (hf : fX12_text (sL S) (sE S) fu l0 l1 D = some r) : F S D 0 [some (.ref l0), some (.int l1), none] [] := by
  have hX := hR.X
  unfold fX12_text at hf
  refine ev_blk hX lkok_RX12 [(.aload_n 0, 1, 0, 0, 0), (.iconst 0, 1, 0, 0, 0), (.putfield 128, 3, 12, 0, 0), (.aload_n 0, 1, 0, 0, 0), (.iconst 0, 1, 0, 0, 0), (.putfield 299, 3, 12, 33, 0), (.aload_n 0, 1, 0, 0, 0), (.iconst (-1), 1, 0, 0, (-1)), (.putfield 64, 3, 12, 34, 0), (.aload_n 0, 1, 0, 0, 0), (.iconst 0, 1, 0, 0, 0), (.putfield 167, 3, 12, 14, 0), (.aload_n 0, 1, 0, 0, 0), (.iconst 0, 1, 0, 0, 0), (.putfield 202, 3, 12, 27, 0), (.aload_n 0, 1, 0, 0, 0), (.iconst 0, 1, 0, 0, 0), (.putfield 234, 3, 12, 28, 0), (.iconst (-1), 1, 0, 0, (-1)), (.istore_n 2, 1, 0, 0, 0), (.aload_n 0, 1, 0, 0, 0), (.iload_n 1, 1, 0, 0, 0), (.iconst 0, 1, 0, 0, 0), (.iconst 3, 1, 0, 0, 3)] (by decide +kernel) (g := (sK S l0 == 15) && ((sK S l0 == 15) && ((sK S l0 == 15) && ((sK S l0 == 15) && ((sK S l0 == 15) && ((sK S l0 == 15) && (true))))))) (lv' := [some (.ref l0), some (.int l1), some (.int (-1 : Int32))]) (st' := [.int (3 : Int32), .int (0 : Int32), .int l1, .ref l0]) (D' := (ev_up (ev_up (ev_up (ev_up (ev_up (ev_up D l0 0 (0 : Int32)) l0 33 (0 : Int32)) l0 34 (-1 : Int32)) l0 14 (0 : Int32)) l0 27 (0 : Int32)) l0 28 (0 : Int32))) (pc' := 36) rfl (ev_gk hl0 (ev_gk hl0 (ev_gk hl0 (ev_gk hl0 (ev_gk hl0 (ev_gk hl0 (rfl))))))) rfl ?_
  obtain ⟨v5, D5, hc5, hf⟩ := ev_bd_s hf
  refine ev_callV hX YX12_isIn ml_RX12_150 (mX12_isIn hT hl0 hc5) (vs := [.int l1, .int (0 : Int32), .int (3 : Int32)]) (st := []) (by decide) 12 hl0 rfl rfl rfl (by decide +kernel) hC ?_
  show F S D5 39 [some (.ref l0), some (.int l1), some (.int (-1 : Int32))] [.int v5]
  refine ev_if_eq hX (off := 30) 69 (by decide +kernel) (by decide) (fun h6 => ?_) (fun h6 => ?_)
  · have hf := ev_it h6 hf
    exact ev_weak hX (ev_le_eq (ev_le_eq (ev_le_eq ev_le_nil))) (tX12_text_69 hR hT hC   hl0 hf)
  · have hf := ev_nf h6 hf
    refine ev_blk hX lkok_RX12 [(.aload_n 0, 1, 0, 0, 0), (.iload_n 1, 1, 0, 0, 0)] (by decide +kernel) (g := true) (lv' := [some (.ref l0), some (.int l1), some (.int (-1 : Int32))]) (st' := [.int l1, .ref l0]) (D' := D5) (pc' := 44) rfl (rfl) rfl ?_
    obtain ⟨v7, D7, hc7, hf⟩ := ev_bd_s hf
    refine ev_callV hX YX12_readsText ml_RX12_302 (mX12_readsText hT hl0 hc7) (vs := [.int l1]) (st := []) (by decide) 12 hl0 rfl rfl rfl (by decide +kernel) hC ?_
    show F S D7 47 [some (.ref l0), some (.int l1), some (.int (-1 : Int32))] [.int v7]
    refine ev_blk hX lkok_RX12 [(.istore_n 2, 1, 0, 0, 0), (.iload_n 2, 1, 0, 0, 0), (.iconst (-1), 1, 0, 0, (-1))] (by decide +kernel) (g := true) (lv' := [some (.ref l0), some (.int l1), some (.int v7)]) (st' := [.int (-1 : Int32), .int v7]) (D' := D7) (pc' := 50) rfl (rfl) rfl ?_
    refine ev_ic_ne hX (off := 19) 69 (by decide +kernel) (by decide) (fun h8 => ?_) (fun h8 => ?_)
    · have hf := ev_nf h8 hf
      exact ev_weak hX (ev_le_eq (ev_le_eq (ev_le_eq ev_le_nil))) (tX12_text_69 hR hT hC   hl0 hf)
    · have hf := ev_it h8 hf
      refine ev_blk hX lkok_RX12 [(.aload_n 0, 1, 0, 0, 0), (.aload_n 0, 1, 0, 0, 0), (.getfield 196, 3, 12, 31, 0), (.putfield 299, 3, 12, 33, 0), (.aload_n 0, 1, 0, 0, 0), (.aload_n 0, 1, 0, 0, 0), (.getfield 199, 3, 12, 32, 0), (.putfield 64, 3, 12, 34, 0)] (by decide +kernel) (g := (sK S l0 == 15) && ((sK S l0 == 15) && ((sK S l0 == 15) && ((sK S l0 == 15) && (true))))) (lv' := [some (.ref l0), some (.int l1), some (.int v7)]) (st' := []) (D' := (ev_up (ev_up D7 l0 33 (D7 l0 31)) l0 34 ((ev_up D7 l0 33 (D7 l0 31)) l0 32))) (pc' := 69) rfl (ev_gk hl0 (ev_gk hl0 (ev_gk hl0 (ev_gk hl0 (rfl))))) rfl ?_
      exact ev_weak hX (ev_le_eq (ev_le_eq (ev_le_eq ev_le_nil))) (tX12_text_69 hR hT hC   hl0 hf)
theorem mX12_text {S : ev_S} {fu : Nat} {r : Int32 × ev_D} (hT : ev_Ty S) {l0 : Nat} {l1 : Int32} {D : ev_D} (hl0 : sK S l0 = 15) (hf : fX12_text (sL S) (sE S) fu l0 l1 D = some r) : ev_M 10 0 0 yX12_text cX12_text 3 (some .int) [.ref l0, .int l1] S D S r :=
  ev_met (ini := false) (plainFor_of_name (by decide)) (fun h => by cases h) rfl (Nat.le_of_ble_eq_true rfl) (fun F hR => tX12_text (S := ev_z S) hR hT ⟨Nat.le_refl 0, Nat.le_refl 0⟩ hl0 hf)
set_option maxHeartbeats 4000000 in
set_option maxRecDepth 100000 in
theorem tX12_fault {S : ev_S} {fu : Nat} {r : Int32 × ev_D} {F : ev_Fr} (hR : ev_R RX12 cX12_fault 2 0 0 0 false (some .int) S r F) (hT : ev_Ty S) (hC : sC S ≤ 0 ∧ sA S ≤ 0) {l0 : Nat} {l1 : Int32} {D : ev_D} (hl0 : sK S l0 = 15) (hf : fX12_fault (sL S) (sE S) fu l0 l1 D = some r) : F S D 0 [some (.ref l0), some (.int l1)] [] := by
  have hX := hR.X
  unfold fX12_fault at hf
  refine ev_blk hX lkok_RX12 [(.aload_n 0, 1, 0, 0, 0), (.iconst 0, 1, 0, 0, 0), (.putfield 128, 3, 12, 0, 0), (.iload_n 1, 1, 0, 0, 0)] (by decide +kernel) (g := (sK S l0 == 15) && (true)) (lv' := [some (.ref l0), some (.int l1)]) (st' := [.int l1]) (D' := (ev_up D l0 0 (0 : Int32))) (pc' := 6) rfl (ev_gk hl0 (rfl)) rfl ?_
  refine ev_if_ne hX (off := 10) 16 (by decide +kernel) (by decide) (fun h1 => ?_) (fun h1 => ?_)
  · have hf := ev_nf h1 hf
    refine ev_blk hX lkok_RX12 [(.iload_n 1, 1, 0, 0, 0), (.iconst 1, 1, 0, 0, 1)] (by decide +kernel) (g := true) (lv' := [some (.ref l0), some (.int l1)]) (st' := [.int (1 : Int32), .int l1]) (D' := (ev_up D l0 0 (0 : Int32))) (pc' := 18) rfl (rfl) rfl ?_
    refine ev_ic_ne hX (off := 10) 28 (by decide +kernel) (by decide) (fun h2 => ?_) (fun h2 => ?_)
    · have hf := ev_nf h2 hf
      refine ev_blk hX lkok_RX12 [(.iconst (-1), 1, 0, 0, (-1))] (by decide +kernel) (g := true) (lv' := [some (.ref l0), some (.int l1)]) (st' := [.int (-1 : Int32)]) (D' := (ev_up D l0 0 (0 : Int32))) (pc' := 29) rfl (rfl) rfl ?_
      exact ev_iret hR ev_sm.rf (Option.some.inj hf) hC (by decide +kernel)
    · have hf := ev_it h2 hf
      refine ev_blk hX lkok_RX12 [(.aload_n 0, 1, 0, 0, 0), (.getfield 64, 3, 12, 34, 0)] (by decide +kernel) (g := (sK S l0 == 15) && (true)) (lv' := [some (.ref l0), some (.int l1)]) (st' := [.int ((ev_up D l0 0 (0 : Int32)) l0 34)]) (D' := (ev_up D l0 0 (0 : Int32))) (pc' := 25) rfl (ev_gk hl0 (rfl)) rfl ?_
      refine ev_goto hX (off := 4) 29 (by decide +kernel) (by decide) ?_
      exact ev_iret hR ev_sm.rf (Option.some.inj hf) hC (by decide +kernel)
  · have hf := ev_it h1 hf
    refine ev_blk hX lkok_RX12 [(.aload_n 0, 1, 0, 0, 0), (.getfield 299, 3, 12, 33, 0)] (by decide +kernel) (g := (sK S l0 == 15) && (true)) (lv' := [some (.ref l0), some (.int l1)]) (st' := [.int ((ev_up D l0 0 (0 : Int32)) l0 33)]) (D' := (ev_up D l0 0 (0 : Int32))) (pc' := 13) rfl (ev_gk hl0 (rfl)) rfl ?_
    refine ev_goto hX (off := 16) 29 (by decide +kernel) (by decide) ?_
    exact ev_iret hR ev_sm.rf (Option.some.inj hf) hC (by decide +kernel)
theorem mX12_fault {S : ev_S} {fu : Nat} {r : Int32 × ev_D} (hT : ev_Ty S) {l0 : Nat} {l1 : Int32} {D : ev_D} (hl0 : sK S l0 = 15) (hf : fX12_fault (sL S) (sE S) fu l0 l1 D = some r) : ev_M 0 0 0 yX12_fault cX12_fault 2 (some .int) [.ref l0, .int l1] S D S r :=
  ev_met (ini := false) (plainFor_of_name (by decide)) (fun h => by cases h) rfl (Nat.le_of_ble_eq_true rfl) (fun F hR => tX12_fault (S := ev_z S) hR hT ⟨Nat.le_refl 0, Nat.le_refl 0⟩ hl0 hf)
set_option maxHeartbeats 4000000 in
set_option maxRecDepth 100000 in
theorem tX12_isAwake {S : ev_S} {fu : Nat} {r : Int32 × ev_D} {F : ev_Fr} (hR : ev_R RX12 cX12_isAwake 2 0 0 0 false (some .boolean) S r F) (hT : ev_Ty S) (hC : sC S ≤ 0 ∧ sA S ≤ 0) {l0 : Nat} {l1 : Int32} {D : ev_D} (hl0 : sK S l0 = 15) (hf : fX12_isAwake (sL S) (sE S) fu l0 l1 D = some r) : F S D 0 [some (.ref l0), some (.int l1)] [] := by
  have hX := hR.X
  unfold fX12_isAwake at hf
  obtain ⟨hg2, hf⟩ := ev_gd_s hf
  refine ev_blk hX lkok_RX12 [(.aload_n 0, 1, 0, 0, 0), (.getfield 7, 3, 12, 1, 0), (.bipush 34, 2, 0, 0, 34), (.iload_n 1, 1, 0, 0, 0), (.iadd, 1, 0, 0, 0), (.iaload, 1, 0, 0, 0)] (by decide +kernel) (g := (sK S l0 == 15) && ((sK S ((sE S) l0 1) == 1 && ev_in ((34 : Int32) + l1) ((sL S) ((sE S) l0 1))) && (true))) (lv' := [some (.ref l0), some (.int l1)]) (st' := [.int (D ((sE S) l0 1) (((34 : Int32) + l1)).toNatClampNeg)]) (D' := D) (pc' := 9) rfl (ev_gk hl0 (ev_gi (ev_tyk hT hl0 rfl rfl) hg2 (rfl))) rfl ?_
  refine ev_if_ne hX (off := 7) 16 (by decide +kernel) (by decide) (fun h1 => ?_) (fun h1 => ?_)
  · have hf := ev_nf h1 hf
    refine ev_blk hX lkok_RX12 [(.iconst 0, 1, 0, 0, 0)] (by decide +kernel) (g := true) (lv' := [some (.ref l0), some (.int l1)]) (st' := [.int (0 : Int32)]) (D' := D) (pc' := 17) rfl (rfl) rfl ?_
    exact ev_zret hR ev_sm.rf (Or.inl rfl) (Option.some.inj hf) hC (by decide +kernel)
  · have hf := ev_it h1 hf
    refine ev_blk hX lkok_RX12 [(.iconst 1, 1, 0, 0, 1)] (by decide +kernel) (g := true) (lv' := [some (.ref l0), some (.int l1)]) (st' := [.int (1 : Int32)]) (D' := D) (pc' := 13) rfl (rfl) rfl ?_
    refine ev_goto hX (off := 4) 17 (by decide +kernel) (by decide) ?_
    exact ev_zret hR ev_sm.rf (Or.inr rfl) (Option.some.inj hf) hC (by decide +kernel)
theorem mX12_isAwake {S : ev_S} {fu : Nat} {r : Int32 × ev_D} (hT : ev_Ty S) {l0 : Nat} {l1 : Int32} {D : ev_D} (hl0 : sK S l0 = 15) (hf : fX12_isAwake (sL S) (sE S) fu l0 l1 D = some r) : ev_M 0 0 0 yX12_isAwake cX12_isAwake 2 (some .boolean) [.ref l0, .int l1] S D S r :=
  ev_met (ini := false) (plainFor_of_name (by decide)) (fun h => by cases h) rfl (Nat.le_of_ble_eq_true rfl) (fun F hR => tX12_isAwake (S := ev_z S) hR hT ⟨Nat.le_refl 0, Nat.le_refl 0⟩ hl0 hf)
set_option maxHeartbeats 4000000 in
set_option maxRecDepth 100000 in
theorem tX12_keepsAhead_55 {S : ev_S} {fu : Nat} {r : Int32 × ev_D} {F : ev_Fr} (hR : ev_R RX12 cX12_keepsAhead 2 0 0 0 false none S r F) (hT : ev_Ty S) (hC : sC S ≤ 0 ∧ sA S ≤ 0) : ∀ (n : Nat) (l0 : Nat) (l1 : Int32) (D : ev_D), sK S l0 = 15 → fX12_keepsAhead_55 (sL S) (sE S) fu n l0 l1 D = some r → F S D 55 [some (.ref l0), some (.int l1)] [] := by
  have hX := hR.X
  intro n
  induction n with
  | zero =>
    intro l0 l1 D hl0 hf
    rw [fX12_keepsAhead_55] at hf
    cases hf
  | succ n ih =>
    intro l0 l1 D hl0 hf
    rw [fX12_keepsAhead_55] at hf
    refine ev_blk hX lkok_RX12 [(.iload_n 1, 1, 0, 0, 0), (.bipush 44, 2, 0, 0, 44)] (by decide +kernel) (g := true) (lv' := [some (.ref l0), some (.int l1)]) (st' := [.int (44 : Int32), .int l1]) (D' := D) (pc' := 58) rfl (rfl) rfl ?_
    refine ev_ic_ge hX (off := 29) 87 (by decide +kernel) (by decide) (fun h1 => ?_) (fun h1 => ?_)
    · have hf := ev_it h1 hf
      refine ev_blk hX lkok_RX12 [(.aload_n 0, 1, 0, 0, 0), (.aload_n 0, 1, 0, 0, 0), (.getfield 131, 3, 12, 3, 0), (.iconst 1, 1, 0, 0, 1), (.iadd, 1, 0, 0, 0), (.putfield 131, 3, 12, 3, 0)] (by decide +kernel) (g := (sK S l0 == 15) && ((sK S l0 == 15) && (true))) (lv' := [some (.ref l0), some (.int l1)]) (st' := []) (D' := (ev_up D l0 3 ((D l0 3) + (1 : Int32)))) (pc' := 97) rfl (ev_gk hl0 (ev_gk hl0 (rfl))) rfl ?_
      exact ev_vret hR ev_sm.rf (Option.some.inj hf) hC (by decide +kernel)
    · have hf := ev_nf h1 hf
      obtain ⟨hg2, hf⟩ := ev_gd_s hf
      obtain ⟨hg3, hf⟩ := ev_gd_s hf
      refine ev_blk hX lkok_RX12 [(.aload_n 0, 1, 0, 0, 0), (.getfield 13, 3, 12, 2, 0), (.bipush 44, 2, 0, 0, 44), (.aload_n 0, 1, 0, 0, 0), (.getfield 131, 3, 12, 3, 0), (.imul, 1, 0, 0, 0), (.iload_n 1, 1, 0, 0, 0), (.iadd, 1, 0, 0, 0), (.aload_n 0, 1, 0, 0, 0), (.getfield 7, 3, 12, 1, 0), (.iload_n 1, 1, 0, 0, 0), (.iaload, 1, 0, 0, 0), (.iastore, 1, 0, 0, 0), (.iinc 1 1, 3, 0, 0, 1)] (by decide +kernel) (g := (sK S l0 == 15) && ((sK S l0 == 15) && ((sK S l0 == 15) && ((sK S ((sE S) l0 1) == 1 && ev_in l1 ((sL S) ((sE S) l0 1))) && ((sK S ((sE S) l0 2) == 1 && ev_in (((44 : Int32) * (D l0 3)) + l1) ((sL S) ((sE S) l0 2))) && (true)))))) (lv' := [some (.ref l0), some (.int (l1 + (1 : Int32)))]) (st' := []) (D' := (ev_up D ((sE S) l0 2) ((((44 : Int32) * (D l0 3)) + l1)).toNatClampNeg (D ((sE S) l0 1) (l1).toNatClampNeg))) (pc' := 84) rfl (ev_gk hl0 (ev_gk hl0 (ev_gk hl0 (ev_gi (ev_tyk hT hl0 rfl rfl) hg2 (ev_gi (ev_tyk hT hl0 rfl rfl) hg3 (rfl)))))) rfl ?_
      refine ev_goto hX (off := (-29)) 55 (by decide +kernel) (by decide) ?_
      exact ev_weak hX (ev_le_eq (ev_le_eq ev_le_nil)) (ih _ _ _ hl0 hf)
set_option maxHeartbeats 4000000 in
set_option maxRecDepth 100000 in
theorem tX12_keepsAhead_21 {S : ev_S} {fu : Nat} {r : Int32 × ev_D} {F : ev_Fr} (hR : ev_R RX12 cX12_keepsAhead 2 0 0 0 false none S r F) (hT : ev_Ty S) (hC : sC S ≤ 0 ∧ sA S ≤ 0) : ∀ (n : Nat) (l0 : Nat) (l1 : Int32) (D : ev_D), sK S l0 = 15 → fX12_keepsAhead_21 (sL S) (sE S) fu n l0 l1 D = some r → F S D 21 [some (.ref l0), some (.int l1)] [] := by
  have hX := hR.X
  intro n
  induction n with
  | zero =>
    intro l0 l1 D hl0 hf
    rw [fX12_keepsAhead_21] at hf
    cases hf
  | succ n ih =>
    intro l0 l1 D hl0 hf
    rw [fX12_keepsAhead_21] at hf
    refine ev_blk hX lkok_RX12 [(.iload_n 1, 1, 0, 0, 0), (.bipush 44, 2, 0, 0, 44), (.aload_n 0, 1, 0, 0, 0), (.getfield 131, 3, 12, 3, 0), (.imul, 1, 0, 0, 0)] (by decide +kernel) (g := (sK S l0 == 15) && (true)) (lv' := [some (.ref l0), some (.int l1)]) (st' := [.int ((44 : Int32) * (D l0 3)), .int l1]) (D' := D) (pc' := 29) rfl (ev_gk hl0 (rfl)) rfl ?_
    refine ev_ic_ge hX (off := 24) 53 (by decide +kernel) (by decide) (fun h4 => ?_) (fun h4 => ?_)
    · have hf := ev_it h4 hf
      refine ev_blk hX lkok_RX12 [(.iconst 0, 1, 0, 0, 0), (.istore_n 1, 1, 0, 0, 0)] (by decide +kernel) (g := true) (lv' := [some (.ref l0), some (.int (0 : Int32))]) (st' := []) (D' := D) (pc' := 55) rfl (rfl) rfl ?_
      exact ev_weak hX (ev_le_eq (ev_le_eq ev_le_nil)) (tX12_keepsAhead_55 hR hT hC   fu _ _ _ hl0 hf)
    · have hf := ev_nf h4 hf
      obtain ⟨hg5, hf⟩ := ev_gd_s hf
      obtain ⟨hg6, hf⟩ := ev_gd_s hf
      refine ev_blk hX lkok_RX12 [(.aload_n 0, 1, 0, 0, 0), (.getfield 13, 3, 12, 2, 0), (.iload_n 1, 1, 0, 0, 0), (.aload_n 0, 1, 0, 0, 0), (.getfield 13, 3, 12, 2, 0), (.iload_n 1, 1, 0, 0, 0), (.bipush 44, 2, 0, 0, 44), (.iadd, 1, 0, 0, 0), (.iaload, 1, 0, 0, 0), (.iastore, 1, 0, 0, 0), (.iinc 1 1, 3, 0, 0, 1)] (by decide +kernel) (g := (sK S l0 == 15) && ((sK S l0 == 15) && ((sK S ((sE S) l0 2) == 1 && ev_in (l1 + (44 : Int32)) ((sL S) ((sE S) l0 2))) && ((sK S ((sE S) l0 2) == 1 && ev_in l1 ((sL S) ((sE S) l0 2))) && (true))))) (lv' := [some (.ref l0), some (.int (l1 + (1 : Int32)))]) (st' := []) (D' := (ev_up D ((sE S) l0 2) (l1).toNatClampNeg (D ((sE S) l0 2) ((l1 + (44 : Int32))).toNatClampNeg))) (pc' := 50) rfl (ev_gk hl0 (ev_gk hl0 (ev_gi (ev_tyk hT hl0 rfl rfl) hg5 (ev_gi (ev_tyk hT hl0 rfl rfl) hg6 (rfl))))) rfl ?_
      refine ev_goto hX (off := (-29)) 21 (by decide +kernel) (by decide) ?_
      exact ev_weak hX (ev_le_eq (ev_le_eq ev_le_nil)) (ih _ _ _ hl0 hf)
set_option maxHeartbeats 4000000 in
set_option maxRecDepth 100000 in
theorem tX12_keepsAhead {S : ev_S} {fu : Nat} {r : Int32 × ev_D} {F : ev_Fr} (hR : ev_R RX12 cX12_keepsAhead 2 0 0 0 false none S r F) (hT : ev_Ty S) (hC : sC S ≤ 0 ∧ sA S ≤ 0) {l0 : Nat} {D : ev_D} (hl0 : sK S l0 = 15) (hf : fX12_keepsAhead (sL S) (sE S) fu l0 D = some r) : F S D 0 [some (.ref l0), none] [] := by
  have hX := hR.X
  unfold fX12_keepsAhead at hf
  refine ev_blk hX lkok_RX12 [(.aload_n 0, 1, 0, 0, 0), (.getfield 131, 3, 12, 3, 0), (.bipush 6, 2, 0, 0, 6)] (by decide +kernel) (g := (sK S l0 == 15) && (true)) (lv' := [some (.ref l0), none]) (st' := [.int (6 : Int32), .int (D l0 3)]) (D' := D) (pc' := 6) rfl (ev_gk hl0 (rfl)) rfl ?_
  refine ev_ic_ne hX (off := 47) 53 (by decide +kernel) (by decide) (fun h7 => ?_) (fun h7 => ?_)
  · have hf := ev_nf h7 hf
    refine ev_blk hX lkok_RX12 [(.iconst 0, 1, 0, 0, 0), (.istore_n 1, 1, 0, 0, 0)] (by decide +kernel) (g := true) (lv' := [some (.ref l0), some (.int (0 : Int32))]) (st' := []) (D' := D) (pc' := 55) rfl (rfl) rfl ?_
    exact ev_weak hX (ev_le_eq (ev_le_eq ev_le_nil)) (tX12_keepsAhead_55 hR hT hC   fu _ _ _ hl0 hf)
  · have hf := ev_it h7 hf
    refine ev_blk hX lkok_RX12 [(.aload_n 0, 1, 0, 0, 0), (.aload_n 0, 1, 0, 0, 0), (.getfield 131, 3, 12, 3, 0), (.iconst 1, 1, 0, 0, 1), (.isub, 1, 0, 0, 0), (.putfield 131, 3, 12, 3, 0), (.iconst 0, 1, 0, 0, 0), (.istore_n 1, 1, 0, 0, 0)] (by decide +kernel) (g := (sK S l0 == 15) && ((sK S l0 == 15) && (true))) (lv' := [some (.ref l0), some (.int (0 : Int32))]) (st' := []) (D' := (ev_up D l0 3 ((D l0 3) - (1 : Int32)))) (pc' := 21) rfl (ev_gk hl0 (ev_gk hl0 (rfl))) rfl ?_
    exact ev_weak hX (ev_le_eq (ev_le_eq ev_le_nil)) (tX12_keepsAhead_21 hR hT hC   fu _ _ _ hl0 hf)
theorem mX12_keepsAhead {S : ev_S} {fu : Nat} {r : Int32 × ev_D} (hT : ev_Ty S) {l0 : Nat} {D : ev_D} (hl0 : sK S l0 = 15) (hf : fX12_keepsAhead (sL S) (sE S) fu l0 D = some r) : ev_M 0 0 0 yX12_keepsAhead cX12_keepsAhead 2 none [.ref l0] S D S r :=
  ev_met (ini := false) (plainFor_of_name (by decide)) (fun h => by cases h) rfl (Nat.le_of_ble_eq_true rfl) (fun F hR => tX12_keepsAhead (S := ev_z S) hR hT ⟨Nat.le_refl 0, Nat.le_refl 0⟩ hl0 hf)
set_option maxHeartbeats 4000000 in
set_option maxRecDepth 100000 in
theorem tX12_asksTower_76 {S : ev_S} {fu : Nat} {r : Int32 × ev_D} {F : ev_Fr} (hR : ev_R RX12 cX12_asksTower 2 0 0 0 false none S r F) (hT : ev_Ty S) (hC : sC S ≤ 0 ∧ sA S ≤ 0)  {D : ev_D}  (hf : fX12_asksTower_76 (sL S) (sE S) fu  D = some r) : F S D 76 [none, none] [] := by
  have hX := hR.X
  unfold fX12_asksTower_76 at hf
  exact ev_vret hR ev_sm.rf (Option.some.inj hf) hC (by decide +kernel)
set_option maxHeartbeats 4000000 in
set_option maxRecDepth 100000 in
theorem tX12_asksTower_47 {S : ev_S} {fu : Nat} {r : Int32 × ev_D} {F : ev_Fr} (hR : ev_R RX12 cX12_asksTower 2 0 0 0 false none S r F) (hT : ev_Ty S) (hC : sC S ≤ 0 ∧ sA S ≤ 0) {l0 : Nat} {D : ev_D} (hl0 : sK S l0 = 15) (hf : fX12_asksTower_47 (sL S) (sE S) fu l0 D = some r) : F S D 47 [some (.ref l0), none] [] := by
  have hX := hR.X
  unfold fX12_asksTower_47 at hf
  obtain ⟨hg1, hf⟩ := ev_gd_s hf
  obtain ⟨hg2, hf⟩ := ev_gd_s hf
  obtain ⟨hg3, hf⟩ := ev_gd_s hf
  obtain ⟨hg4, hf⟩ := ev_gd_s hf
  refine ev_blk hX lkok_RX12 [(.aload_n 0, 1, 0, 0, 0), (.getfield 77, 3, 12, 41, 0), (.bipush 8, 2, 0, 0, 8), (.aload_n 0, 1, 0, 0, 0), (.getfield 7, 3, 12, 1, 0), (.iconst 4, 1, 0, 0, 4), (.iaload, 1, 0, 0, 0), (.iastore, 1, 0, 0, 0), (.aload_n 0, 1, 0, 0, 0), (.getfield 77, 3, 12, 41, 0), (.bipush 9, 2, 0, 0, 9), (.aload_n 0, 1, 0, 0, 0), (.getfield 7, 3, 12, 1, 0), (.iconst 0, 1, 0, 0, 0), (.iaload, 1, 0, 0, 0), (.bipush 24, 2, 0, 0, 24), (.irem, 1, 0, 0, 0), (.iastore, 1, 0, 0, 0)] (by decide +kernel) (g := (sK S l0 == 15) && ((sK S l0 == 15) && ((sK S ((sE S) l0 1) == 1 && ev_in (4 : Int32) ((sL S) ((sE S) l0 1))) && ((sK S ((sE S) l0 41) == 1 && ev_in (8 : Int32) ((sL S) ((sE S) l0 41))) && ((sK S l0 == 15) && ((sK S l0 == 15) && ((sK S ((sE S) l0 1) == 1 && ev_in (0 : Int32) ((sL S) ((sE S) l0 1))) && ((!(decide ((24 : Int32) = 0))) && ((sK S ((sE S) l0 41) == 1 && ev_in (9 : Int32) ((sL S) ((sE S) l0 41))) && (true)))))))))) (lv' := [some (.ref l0), none]) (st' := []) (D' := (ev_up (ev_up D ((sE S) l0 41) ((8 : Int32)).toNatClampNeg (D ((sE S) l0 1) ((4 : Int32)).toNatClampNeg)) ((sE S) l0 41) ((9 : Int32)).toNatClampNeg (((ev_up D ((sE S) l0 41) ((8 : Int32)).toNatClampNeg (D ((sE S) l0 1) ((4 : Int32)).toNatClampNeg)) ((sE S) l0 1) ((0 : Int32)).toNatClampNeg) - ((ev_up D ((sE S) l0 41) ((8 : Int32)).toNatClampNeg (D ((sE S) l0 1) ((4 : Int32)).toNatClampNeg)) ((sE S) l0 1) ((0 : Int32)).toNatClampNeg) / (24 : Int32) * (24 : Int32)))) (pc' := 76) rfl (ev_gk hl0 (ev_gk hl0 (ev_gi (ev_tyk hT hl0 rfl rfl) hg1 (ev_gi (ev_tyk hT hl0 rfl rfl) hg2 (ev_gk hl0 (ev_gk hl0 (ev_gi (ev_tyk hT hl0 rfl rfl) hg3 (ev_g2 rfl (ev_gi (ev_tyk hT hl0 rfl rfl) hg4 (rfl)))))))))) rfl ?_
  exact ev_weak hX (ev_le_no (ev_le_no ev_le_nil)) (tX12_asksTower_76 hR hT hC    hf)
set_option maxHeartbeats 4000000 in
set_option maxRecDepth 100000 in
theorem tX12_asksTower_2 {S : ev_S} {fu : Nat} {r : Int32 × ev_D} {F : ev_Fr} (hR : ev_R RX12 cX12_asksTower 2 0 0 0 false none S r F) (hT : ev_Ty S) (hC : sC S ≤ 0 ∧ sA S ≤ 0) : ∀ (n : Nat) (l0 : Nat) (l1 : Int32) (D : ev_D), sK S l0 = 15 → fX12_asksTower_2 (sL S) (sE S) fu n l0 l1 D = some r → F S D 2 [some (.ref l0), some (.int l1)] [] := by
  have hX := hR.X
  intro n
  induction n with
  | zero =>
    intro l0 l1 D hl0 hf
    rw [fX12_asksTower_2] at hf
    cases hf
  | succ n ih =>
    intro l0 l1 D hl0 hf
    rw [fX12_asksTower_2] at hf
    refine ev_blk hX lkok_RX12 [(.iload_n 1, 1, 0, 0, 0), (.bipush 11, 2, 0, 0, 11)] (by decide +kernel) (g := true) (lv' := [some (.ref l0), some (.int l1)]) (st' := [.int (11 : Int32), .int l1]) (D' := D) (pc' := 5) rfl (rfl) rfl ?_
    refine ev_ic_ge hX (off := 16) 21 (by decide +kernel) (by decide) (fun h5 => ?_) (fun h5 => ?_)
    · have hf := ev_it h5 hf
      obtain ⟨hg6, hf⟩ := ev_gd_s hf
      obtain ⟨hg7, hf⟩ := ev_gd_s hf
      obtain ⟨hg8, hf⟩ := ev_gd_s hf
      obtain ⟨hg9, hf⟩ := ev_gd_s hf
      refine ev_blk hX lkok_RX12 [(.aload_n 0, 1, 0, 0, 0), (.getfield 77, 3, 12, 41, 0), (.bipush 6, 2, 0, 0, 6), (.aload_n 0, 1, 0, 0, 0), (.getfield 7, 3, 12, 1, 0), (.iconst 5, 1, 0, 0, 5), (.iaload, 1, 0, 0, 0), (.iastore, 1, 0, 0, 0), (.aload_n 0, 1, 0, 0, 0), (.getfield 77, 3, 12, 41, 0), (.bipush 7, 2, 0, 0, 7), (.aload_n 0, 1, 0, 0, 0), (.getfield 7, 3, 12, 1, 0), (.iconst 3, 1, 0, 0, 3), (.iaload, 1, 0, 0, 0), (.iastore, 1, 0, 0, 0)] (by decide +kernel) (g := (sK S l0 == 15) && ((sK S l0 == 15) && ((sK S ((sE S) l0 1) == 1 && ev_in (5 : Int32) ((sL S) ((sE S) l0 1))) && ((sK S ((sE S) l0 41) == 1 && ev_in (6 : Int32) ((sL S) ((sE S) l0 41))) && ((sK S l0 == 15) && ((sK S l0 == 15) && ((sK S ((sE S) l0 1) == 1 && ev_in (3 : Int32) ((sL S) ((sE S) l0 1))) && ((sK S ((sE S) l0 41) == 1 && ev_in (7 : Int32) ((sL S) ((sE S) l0 41))) && (true))))))))) (lv' := [some (.ref l0), some (.int l1)]) (st' := []) (D' := (ev_up (ev_up D ((sE S) l0 41) ((6 : Int32)).toNatClampNeg (D ((sE S) l0 1) ((5 : Int32)).toNatClampNeg)) ((sE S) l0 41) ((7 : Int32)).toNatClampNeg ((ev_up D ((sE S) l0 41) ((6 : Int32)).toNatClampNeg (D ((sE S) l0 1) ((5 : Int32)).toNatClampNeg)) ((sE S) l0 1) ((3 : Int32)).toNatClampNeg))) (pc' := 47) rfl (ev_gk hl0 (ev_gk hl0 (ev_gi (ev_tyk hT hl0 rfl rfl) hg6 (ev_gi (ev_tyk hT hl0 rfl rfl) hg7 (ev_gk hl0 (ev_gk hl0 (ev_gi (ev_tyk hT hl0 rfl rfl) hg8 (ev_gi (ev_tyk hT hl0 rfl rfl) hg9 (rfl))))))))) rfl ?_
      exact ev_weak hX (ev_le_eq (ev_le_no ev_le_nil)) (tX12_asksTower_47 hR hT hC   hl0 hf)
    · have hf := ev_nf h5 hf
      obtain ⟨hg10, hf⟩ := ev_gd_s hf
      refine ev_blk hX lkok_RX12 [(.aload_n 0, 1, 0, 0, 0), (.getfield 77, 3, 12, 41, 0), (.iload_n 1, 1, 0, 0, 0), (.iconst 0, 1, 0, 0, 0), (.iastore, 1, 0, 0, 0), (.iinc 1 1, 3, 0, 0, 1)] (by decide +kernel) (g := (sK S l0 == 15) && ((sK S ((sE S) l0 41) == 1 && ev_in l1 ((sL S) ((sE S) l0 41))) && (true))) (lv' := [some (.ref l0), some (.int (l1 + (1 : Int32)))]) (st' := []) (D' := (ev_up D ((sE S) l0 41) (l1).toNatClampNeg (0 : Int32))) (pc' := 18) rfl (ev_gk hl0 (ev_gi (ev_tyk hT hl0 rfl rfl) hg10 (rfl))) rfl ?_
      refine ev_goto hX (off := (-16)) 2 (by decide +kernel) (by decide) ?_
      exact ev_weak hX (ev_le_eq (ev_le_eq ev_le_nil)) (ih _ _ _ hl0 hf)
set_option maxHeartbeats 4000000 in
set_option maxRecDepth 100000 in
theorem tX12_asksTower {S : ev_S} {fu : Nat} {r : Int32 × ev_D} {F : ev_Fr} (hR : ev_R RX12 cX12_asksTower 2 0 0 0 false none S r F) (hT : ev_Ty S) (hC : sC S ≤ 0 ∧ sA S ≤ 0) {l0 : Nat} {D : ev_D} (hl0 : sK S l0 = 15) (hf : fX12_asksTower (sL S) (sE S) fu l0 D = some r) : F S D 0 [some (.ref l0), none] [] := by
  have hX := hR.X
  unfold fX12_asksTower at hf
  refine ev_blk hX lkok_RX12 [(.iconst 0, 1, 0, 0, 0), (.istore_n 1, 1, 0, 0, 0)] (by decide +kernel) (g := true) (lv' := [some (.ref l0), some (.int (0 : Int32))]) (st' := []) (D' := D) (pc' := 2) rfl (rfl) rfl ?_
  exact ev_weak hX (ev_le_eq (ev_le_eq ev_le_nil)) (tX12_asksTower_2 hR hT hC   fu _ _ _ hl0 hf)
theorem mX12_asksTower {S : ev_S} {fu : Nat} {r : Int32 × ev_D} (hT : ev_Ty S) {l0 : Nat} {D : ev_D} (hl0 : sK S l0 = 15) (hf : fX12_asksTower (sL S) (sE S) fu l0 D = some r) : ev_M 0 0 0 yX12_asksTower cX12_asksTower 2 none [.ref l0] S D S r :=
  ev_met (ini := false) (plainFor_of_name (by decide)) (fun h => by cases h) rfl (Nat.le_of_ble_eq_true rfl) (fun F hR => tX12_asksTower (S := ev_z S) hR hT ⟨Nat.le_refl 0, Nat.le_refl 0⟩ hl0 hf)
set_option maxHeartbeats 4000000 in
set_option maxRecDepth 100000 in
theorem tX12_heavy {S : ev_S} {fu : Nat} {r : Int32 × ev_D} {F : ev_Fr} (hR : ev_R RX12 cX12_heavy 2 0 0 0 false (some .int) S r F) (hT : ev_Ty S) (hC : sC S ≤ 0 ∧ sA S ≤ 0) {l0 : Nat} {l1 : Int32} {D : ev_D} (hl0 : sK S l0 = 15) (hf : fX12_heavy (sL S) (sE S) fu l0 l1 D = some r) : F S D 0 [some (.ref l0), some (.int l1)] [] := by
  have hX := hR.X
  unfold fX12_heavy at hf
  obtain ⟨hg1, hf⟩ := ev_gd_s hf
  refine ev_blk hX lkok_RX12 [(.aload_n 0, 1, 0, 0, 0), (.getfield 19, 3, 12, 6, 0), (.iload_n 1, 1, 0, 0, 0), (.iaload, 1, 0, 0, 0), (.iconst 1, 1, 0, 0, 1), (.iadd, 1, 0, 0, 0)] (by decide +kernel) (g := (sK S l0 == 15) && ((sK S ((sE S) l0 6) == 1 && ev_in l1 ((sL S) ((sE S) l0 6))) && (true))) (lv' := [some (.ref l0), some (.int l1)]) (st' := [.int ((D ((sE S) l0 6) (l1).toNatClampNeg) + (1 : Int32))]) (D' := D) (pc' := 8) rfl (ev_gk hl0 (ev_gi (ev_tyk hT hl0 rfl rfl) hg1 (rfl))) rfl ?_
  exact ev_iret hR ev_sm.rf (Option.some.inj hf) hC (by decide +kernel)
theorem mX12_heavy {S : ev_S} {fu : Nat} {r : Int32 × ev_D} (hT : ev_Ty S) {l0 : Nat} {l1 : Int32} {D : ev_D} (hl0 : sK S l0 = 15) (hf : fX12_heavy (sL S) (sE S) fu l0 l1 D = some r) : ev_M 0 0 0 yX12_heavy cX12_heavy 2 (some .int) [.ref l0, .int l1] S D S r :=
  ev_met (ini := false) (plainFor_of_name (by decide)) (fun h => by cases h) rfl (Nat.le_of_ble_eq_true rfl) (fun F hR => tX12_heavy (S := ev_z S) hR hT ⟨Nat.le_refl 0, Nat.le_refl 0⟩ hl0 hf)
set_option maxHeartbeats 4000000 in
set_option maxRecDepth 100000 in
theorem tX12_onesOf_4 {S : ev_S} {fu : Nat} {r : Int32 × ev_D} {F : ev_Fr} (hR : ev_R RX12 cX12_onesOf 4 0 0 0 false (some .int) S r F) (hT : ev_Ty S) (hC : sC S ≤ 0 ∧ sA S ≤ 0) : ∀ (n : Nat) (l2 : Int32) (l3 : Int32) (D : ev_D), fX12_onesOf_4 (sL S) (sE S) fu n l2 l3 D = some r → F S D 4 [none, none, some (.int l2), some (.int l3)] [] := by
  have hX := hR.X
  intro n
  induction n with
  | zero =>
    intro l2 l3 D  hf
    rw [fX12_onesOf_4] at hf
    cases hf
  | succ n ih =>
    intro l2 l3 D  hf
    rw [fX12_onesOf_4] at hf
    refine ev_blk hX lkok_RX12 [(.iload_n 3, 1, 0, 0, 0)] (by decide +kernel) (g := true) (lv' := [none, none, some (.int l2), some (.int l3)]) (st' := [.int l3]) (D' := D) (pc' := 5) rfl (rfl) rfl ?_
    refine ev_if_eq hX (off := 16) 21 (by decide +kernel) (by decide) (fun h1 => ?_) (fun h1 => ?_)
    · have hf := ev_it h1 hf
      refine ev_blk hX lkok_RX12 [(.iload_n 2, 1, 0, 0, 0)] (by decide +kernel) (g := true) (lv' := [none, none, some (.int l2), some (.int l3)]) (st' := [.int l2]) (D' := D) (pc' := 22) rfl (rfl) rfl ?_
      exact ev_iret hR ev_sm.rf (Option.some.inj hf) hC (by decide +kernel)
    · have hf := ev_nf h1 hf
      refine ev_blk hX lkok_RX12 [(.iload_n 2, 1, 0, 0, 0), (.iconst 1, 1, 0, 0, 1), (.iadd, 1, 0, 0, 0), (.istore_n 2, 1, 0, 0, 0), (.iload_n 3, 1, 0, 0, 0), (.iload_n 3, 1, 0, 0, 0), (.iconst 1, 1, 0, 0, 1), (.isub, 1, 0, 0, 0), (.iand, 1, 0, 0, 0), (.istore_n 3, 1, 0, 0, 0)] (by decide +kernel) (g := true) (lv' := [none, none, some (.int (l2 + (1 : Int32))), some (.int (l3 &&& (l3 - (1 : Int32))))]) (st' := []) (D' := D) (pc' := 18) rfl (rfl) rfl ?_
      refine ev_goto hX (off := (-14)) 4 (by decide +kernel) (by decide) ?_
      exact ev_weak hX (ev_le_no (ev_le_no (ev_le_eq (ev_le_eq ev_le_nil)))) (ih _ _ _  hf)
set_option maxHeartbeats 4000000 in
set_option maxRecDepth 100000 in
theorem tX12_onesOf {S : ev_S} {fu : Nat} {r : Int32 × ev_D} {F : ev_Fr} (hR : ev_R RX12 cX12_onesOf 4 0 0 0 false (some .int) S r F) (hT : ev_Ty S) (hC : sC S ≤ 0 ∧ sA S ≤ 0) {l0 : Nat} {l1 : Int32} {D : ev_D} (hl0 : sK S l0 = 15) (hf : fX12_onesOf (sL S) (sE S) fu l0 l1 D = some r) : F S D 0 [some (.ref l0), some (.int l1), none, none] [] := by
  have hX := hR.X
  unfold fX12_onesOf at hf
  refine ev_blk hX lkok_RX12 [(.iconst 0, 1, 0, 0, 0), (.istore_n 2, 1, 0, 0, 0), (.iload_n 1, 1, 0, 0, 0), (.istore_n 3, 1, 0, 0, 0)] (by decide +kernel) (g := true) (lv' := [some (.ref l0), some (.int l1), some (.int (0 : Int32)), some (.int l1)]) (st' := []) (D' := D) (pc' := 4) rfl (rfl) rfl ?_
  exact ev_weak hX (ev_le_no (ev_le_no (ev_le_eq (ev_le_eq ev_le_nil)))) (tX12_onesOf_4 hR hT hC   fu _ _ _  hf)
theorem mX12_onesOf {S : ev_S} {fu : Nat} {r : Int32 × ev_D} (hT : ev_Ty S) {l0 : Nat} {l1 : Int32} {D : ev_D} (hl0 : sK S l0 = 15) (hf : fX12_onesOf (sL S) (sE S) fu l0 l1 D = some r) : ev_M 0 0 0 yX12_onesOf cX12_onesOf 4 (some .int) [.ref l0, .int l1] S D S r :=
  ev_met (ini := false) (plainFor_of_name (by decide)) (fun h => by cases h) rfl (Nat.le_of_ble_eq_true rfl) (fun F hR => tX12_onesOf (S := ev_z S) hR hT ⟨Nat.le_refl 0, Nat.le_refl 0⟩ hl0 hf)
set_option maxHeartbeats 4000000 in
set_option maxRecDepth 100000 in
theorem tX12_asks_70 {S : ev_S} {fu : Nat} {r : Int32 × ev_D} {F : ev_Fr} (hR : ev_R RX12 cX12_asks 2 1 0 0 false none S r F) (hT : ev_Ty S) (hC : sC S ≤ 0 ∧ sA S ≤ 0) {l0 : Nat} {l1 : Int32} {D : ev_D} (hl0 : sK S l0 = 15) (hf : fX12_asks_70 (sL S) (sE S) fu l0 l1 D = some r) : F S D 70 [some (.ref l0), some (.int l1)] [] := by
  have hX := hR.X
  unfold fX12_asks_70 at hf
  obtain ⟨hg6, hf⟩ := ev_gd_s hf
  refine ev_blk hX lkok_RX12 [(.aload_n 0, 1, 0, 0, 0), (.getfield 77, 3, 12, 41, 0), (.iconst 5, 1, 0, 0, 5), (.aload_n 0, 1, 0, 0, 0), (.aload_n 0, 1, 0, 0, 0), (.getfield 22, 3, 12, 8, 0), (.iload_n 1, 1, 0, 0, 0), (.iaload, 1, 0, 0, 0)] (by decide +kernel) (g := (sK S l0 == 15) && ((sK S l0 == 15) && ((sK S ((sE S) l0 8) == 1 && ev_in l1 ((sL S) ((sE S) l0 8))) && (true)))) (lv' := [some (.ref l0), some (.int l1)]) (st' := [.int (D ((sE S) l0 8) (l1).toNatClampNeg), .ref l0, .int (5 : Int32), .ref ((sE S) l0 41)]) (D' := D) (pc' := 82) rfl (ev_gk hl0 (ev_gk hl0 (ev_gi (ev_tyk hT hl0 rfl rfl) hg6 (rfl)))) rfl ?_
  obtain ⟨v1, D1, hc1, hf⟩ := ev_bd_s hf
  refine ev_callV hX YX12_heavy ml_RX12_320 (mX12_heavy hT hl0 hc1) (vs := [.int (D ((sE S) l0 8) (l1).toNatClampNeg)]) (st := [.int (5 : Int32), .ref ((sE S) l0 41)]) (by decide) 12 hl0 rfl rfl rfl (by decide +kernel) hC ?_
  show F S D1 85 [some (.ref l0), some (.int l1)] [.int v1, .int (5 : Int32), .ref ((sE S) l0 41)]
  obtain ⟨hg4, hf⟩ := ev_gd_s hf
  obtain ⟨hg5, hf⟩ := ev_gd_s hf
  refine ev_blk hX lkok_RX12 [(.iastore, 1, 0, 0, 0), (.aload_n 0, 1, 0, 0, 0), (.getfield 77, 3, 12, 41, 0), (.bipush 10, 2, 0, 0, 10), (.aload_n 0, 1, 0, 0, 0), (.aload_n 0, 1, 0, 0, 0), (.getfield 68, 3, 12, 36, 0), (.iload_n 1, 1, 0, 0, 0), (.iaload, 1, 0, 0, 0), (.aload_n 0, 1, 0, 0, 0), (.getfield 323, 3, 12, 43, 0), (.iand, 1, 0, 0, 0)] (by decide +kernel) (g := (sK S ((sE S) l0 41) == 1 && ev_in (5 : Int32) ((sL S) ((sE S) l0 41))) && ((sK S l0 == 15) && ((sK S l0 == 15) && ((sK S ((sE S) l0 36) == 1 && ev_in l1 ((sL S) ((sE S) l0 36))) && ((sK S l0 == 15) && (true)))))) (lv' := [some (.ref l0), some (.int l1)]) (st' := [.int (((ev_up D1 ((sE S) l0 41) ((5 : Int32)).toNatClampNeg v1) ((sE S) l0 36) (l1).toNatClampNeg) &&& ((ev_up D1 ((sE S) l0 41) ((5 : Int32)).toNatClampNeg v1) l0 43)), .ref l0, .int (10 : Int32), .ref ((sE S) l0 41)]) (D' := (ev_up D1 ((sE S) l0 41) ((5 : Int32)).toNatClampNeg v1)) (pc' := 104) rfl (ev_gi (ev_tyk hT hl0 rfl rfl) hg4 (ev_gk hl0 (ev_gk hl0 (ev_gi (ev_tyk hT hl0 rfl rfl) hg5 (ev_gk hl0 (rfl)))))) rfl ?_
  obtain ⟨v2, D2, hc2, hf⟩ := ev_bd_s hf
  refine ev_callV hX YX12_onesOf ml_RX12_326 (mX12_onesOf hT hl0 hc2) (vs := [.int (((ev_up D1 ((sE S) l0 41) ((5 : Int32)).toNatClampNeg v1) ((sE S) l0 36) (l1).toNatClampNeg) &&& ((ev_up D1 ((sE S) l0 41) ((5 : Int32)).toNatClampNeg v1) l0 43))]) (st := [.int (10 : Int32), .ref ((sE S) l0 41)]) (by decide) 12 hl0 rfl rfl rfl (by decide +kernel) hC ?_
  show F S D2 107 [some (.ref l0), some (.int l1)] [.int v2, .int (10 : Int32), .ref ((sE S) l0 41)]
  obtain ⟨hg3, hf⟩ := ev_gd_s hf
  refine ev_blk hX lkok_RX12 [(.iastore, 1, 0, 0, 0)] (by decide +kernel) (g := (sK S ((sE S) l0 41) == 1 && ev_in (10 : Int32) ((sL S) ((sE S) l0 41))) && (true)) (lv' := [some (.ref l0), some (.int l1)]) (st' := []) (D' := (ev_up D2 ((sE S) l0 41) ((10 : Int32)).toNatClampNeg v2)) (pc' := 108) rfl (ev_gi (ev_tyk hT hl0 rfl rfl) hg3 (rfl)) rfl ?_
  exact ev_vret hR ev_sm.rf (Option.some.inj hf) hC (by decide +kernel)
set_option maxHeartbeats 4000000 in
set_option maxRecDepth 100000 in
theorem tX12_asks_43 {S : ev_S} {fu : Nat} {r : Int32 × ev_D} {F : ev_Fr} (hR : ev_R RX12 cX12_asks 2 1 0 0 false none S r F) (hT : ev_Ty S) (hC : sC S ≤ 0 ∧ sA S ≤ 0) {l0 : Nat} {l1 : Int32} {D : ev_D} (hl0 : sK S l0 = 15) (hf : fX12_asks_43 (sL S) (sE S) fu l0 l1 D = some r) : F S D 43 [some (.ref l0), some (.int l1)] [] := by
  have hX := hR.X
  unfold fX12_asks_43 at hf
  obtain ⟨hg7, hf⟩ := ev_gd_s hf
  obtain ⟨hg8, hf⟩ := ev_gd_s hf
  obtain ⟨hg9, hf⟩ := ev_gd_s hf
  obtain ⟨hg10, hf⟩ := ev_gd_s hf
  refine ev_blk hX lkok_RX12 [(.aload_n 0, 1, 0, 0, 0), (.getfield 77, 3, 12, 41, 0), (.iconst 3, 1, 0, 0, 3), (.aload_n 0, 1, 0, 0, 0), (.getfield 7, 3, 12, 1, 0), (.bipush 24, 2, 0, 0, 24), (.iload_n 1, 1, 0, 0, 0), (.iadd, 1, 0, 0, 0), (.iaload, 1, 0, 0, 0), (.iastore, 1, 0, 0, 0), (.aload_n 0, 1, 0, 0, 0), (.getfield 77, 3, 12, 41, 0), (.iconst 4, 1, 0, 0, 4), (.aload_n 0, 1, 0, 0, 0), (.getfield 22, 3, 12, 8, 0), (.iload_n 1, 1, 0, 0, 0), (.iaload, 1, 0, 0, 0), (.iastore, 1, 0, 0, 0)] (by decide +kernel) (g := (sK S l0 == 15) && ((sK S l0 == 15) && ((sK S ((sE S) l0 1) == 1 && ev_in ((24 : Int32) + l1) ((sL S) ((sE S) l0 1))) && ((sK S ((sE S) l0 41) == 1 && ev_in (3 : Int32) ((sL S) ((sE S) l0 41))) && ((sK S l0 == 15) && ((sK S l0 == 15) && ((sK S ((sE S) l0 8) == 1 && ev_in l1 ((sL S) ((sE S) l0 8))) && ((sK S ((sE S) l0 41) == 1 && ev_in (4 : Int32) ((sL S) ((sE S) l0 41))) && (true))))))))) (lv' := [some (.ref l0), some (.int l1)]) (st' := []) (D' := (ev_up (ev_up D ((sE S) l0 41) ((3 : Int32)).toNatClampNeg (D ((sE S) l0 1) (((24 : Int32) + l1)).toNatClampNeg)) ((sE S) l0 41) ((4 : Int32)).toNatClampNeg ((ev_up D ((sE S) l0 41) ((3 : Int32)).toNatClampNeg (D ((sE S) l0 1) (((24 : Int32) + l1)).toNatClampNeg)) ((sE S) l0 8) (l1).toNatClampNeg))) (pc' := 70) rfl (ev_gk hl0 (ev_gk hl0 (ev_gi (ev_tyk hT hl0 rfl rfl) hg7 (ev_gi (ev_tyk hT hl0 rfl rfl) hg8 (ev_gk hl0 (ev_gk hl0 (ev_gi (ev_tyk hT hl0 rfl rfl) hg9 (ev_gi (ev_tyk hT hl0 rfl rfl) hg10 (rfl))))))))) rfl ?_
  exact ev_weak hX (ev_le_eq (ev_le_eq ev_le_nil)) (tX12_asks_70 hR hT hC   hl0 hf)
set_option maxHeartbeats 4000000 in
set_option maxRecDepth 100000 in
theorem tX12_asks {S : ev_S} {fu : Nat} {r : Int32 × ev_D} {F : ev_Fr} (hR : ev_R RX12 cX12_asks 2 1 0 0 false none S r F) (hT : ev_Ty S) (hC : sC S ≤ 0 ∧ sA S ≤ 0) {l0 : Nat} {l1 : Int32} {D : ev_D} (hl0 : sK S l0 = 15) (hf : fX12_asks (sL S) (sE S) fu l0 l1 D = some r) : F S D 0 [some (.ref l0), some (.int l1)] [] := by
  have hX := hR.X
  unfold fX12_asks at hf
  refine ev_blk hX lkok_RX12 [(.aload_n 0, 1, 0, 0, 0)] (by decide +kernel) (g := true) (lv' := [some (.ref l0), some (.int l1)]) (st' := [.ref l0]) (D' := D) (pc' := 1) rfl (rfl) rfl ?_
  obtain ⟨v11, D11, hc11, hf⟩ := ev_bd_s hf
  refine ev_callV hX YX12_asksTower ml_RX12_317 (mX12_asksTower hT hl0 hc11) (vs := []) (st := []) (by decide) 12 hl0 rfl rfl rfl (by decide +kernel) hC ?_
  show F S D11 4 [some (.ref l0), some (.int l1)] []
  obtain ⟨hg12, hf⟩ := ev_gd_s hf
  obtain ⟨hg13, hf⟩ := ev_gd_s hf
  obtain ⟨hg14, hf⟩ := ev_gd_s hf
  obtain ⟨hg15, hf⟩ := ev_gd_s hf
  obtain ⟨hg16, hf⟩ := ev_gd_s hf
  obtain ⟨hg17, hf⟩ := ev_gd_s hf
  refine ev_blk hX lkok_RX12 [(.aload_n 0, 1, 0, 0, 0), (.getfield 77, 3, 12, 41, 0), (.iconst 0, 1, 0, 0, 0), (.aload_n 0, 1, 0, 0, 0), (.getfield 25, 3, 12, 9, 0), (.iload_n 1, 1, 0, 0, 0), (.iaload, 1, 0, 0, 0), (.iastore, 1, 0, 0, 0), (.aload_n 0, 1, 0, 0, 0), (.getfield 77, 3, 12, 41, 0), (.iconst 1, 1, 0, 0, 1), (.aload_n 0, 1, 0, 0, 0), (.getfield 28, 3, 12, 10, 0), (.iload_n 1, 1, 0, 0, 0), (.iaload, 1, 0, 0, 0), (.iastore, 1, 0, 0, 0), (.aload_n 0, 1, 0, 0, 0), (.getfield 77, 3, 12, 41, 0), (.iconst 2, 1, 0, 0, 2), (.aload_n 0, 1, 0, 0, 0), (.getfield 7, 3, 12, 1, 0), (.bipush 14, 2, 0, 0, 14), (.iload_n 1, 1, 0, 0, 0), (.iadd, 1, 0, 0, 0), (.iaload, 1, 0, 0, 0), (.iastore, 1, 0, 0, 0)] (by decide +kernel) (g := (sK S l0 == 15) && ((sK S l0 == 15) && ((sK S ((sE S) l0 9) == 1 && ev_in l1 ((sL S) ((sE S) l0 9))) && ((sK S ((sE S) l0 41) == 1 && ev_in (0 : Int32) ((sL S) ((sE S) l0 41))) && ((sK S l0 == 15) && ((sK S l0 == 15) && ((sK S ((sE S) l0 10) == 1 && ev_in l1 ((sL S) ((sE S) l0 10))) && ((sK S ((sE S) l0 41) == 1 && ev_in (1 : Int32) ((sL S) ((sE S) l0 41))) && ((sK S l0 == 15) && ((sK S l0 == 15) && ((sK S ((sE S) l0 1) == 1 && ev_in ((14 : Int32) + l1) ((sL S) ((sE S) l0 1))) && ((sK S ((sE S) l0 41) == 1 && ev_in (2 : Int32) ((sL S) ((sE S) l0 41))) && (true))))))))))))) (lv' := [some (.ref l0), some (.int l1)]) (st' := []) (D' := (ev_up (ev_up (ev_up D11 ((sE S) l0 41) ((0 : Int32)).toNatClampNeg (D11 ((sE S) l0 9) (l1).toNatClampNeg)) ((sE S) l0 41) ((1 : Int32)).toNatClampNeg ((ev_up D11 ((sE S) l0 41) ((0 : Int32)).toNatClampNeg (D11 ((sE S) l0 9) (l1).toNatClampNeg)) ((sE S) l0 10) (l1).toNatClampNeg)) ((sE S) l0 41) ((2 : Int32)).toNatClampNeg ((ev_up (ev_up D11 ((sE S) l0 41) ((0 : Int32)).toNatClampNeg (D11 ((sE S) l0 9) (l1).toNatClampNeg)) ((sE S) l0 41) ((1 : Int32)).toNatClampNeg ((ev_up D11 ((sE S) l0 41) ((0 : Int32)).toNatClampNeg (D11 ((sE S) l0 9) (l1).toNatClampNeg)) ((sE S) l0 10) (l1).toNatClampNeg)) ((sE S) l0 1) (((14 : Int32) + l1)).toNatClampNeg))) (pc' := 43) rfl (ev_gk hl0 (ev_gk hl0 (ev_gi (ev_tyk hT hl0 rfl rfl) hg12 (ev_gi (ev_tyk hT hl0 rfl rfl) hg13 (ev_gk hl0 (ev_gk hl0 (ev_gi (ev_tyk hT hl0 rfl rfl) hg14 (ev_gi (ev_tyk hT hl0 rfl rfl) hg15 (ev_gk hl0 (ev_gk hl0 (ev_gi (ev_tyk hT hl0 rfl rfl) hg16 (ev_gi (ev_tyk hT hl0 rfl rfl) hg17 (rfl))))))))))))) rfl ?_
  exact ev_weak hX (ev_le_eq (ev_le_eq ev_le_nil)) (tX12_asks_43 hR hT hC   hl0 hf)
theorem mX12_asks {S : ev_S} {fu : Nat} {r : Int32 × ev_D} (hT : ev_Ty S) {l0 : Nat} {l1 : Int32} {D : ev_D} (hl0 : sK S l0 = 15) (hf : fX12_asks (sL S) (sE S) fu l0 l1 D = some r) : ev_M 1 0 0 yX12_asks cX12_asks 2 none [.ref l0, .int l1] S D S r :=
  ev_met (ini := false) (plainFor_of_name (by decide)) (fun h => by cases h) rfl (Nat.le_of_ble_eq_true rfl) (fun F hR => tX12_asks (S := ev_z S) hR hT ⟨Nat.le_refl 0, Nat.le_refl 0⟩ hl0 hf)
