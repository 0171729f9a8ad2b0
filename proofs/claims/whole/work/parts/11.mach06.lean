set_option maxHeartbeats 4000000 in
set_option maxRecDepth 100000 in
theorem tX12_undo_26 {S : ev_S} {fu : Nat} {r : Int32 × ev_D} {F : ev_Fr} (hR : ev_R RX12 cX12_undo 2 0 0 0 false (some .boolean) S r F) (hT : ev_Ty S) (hC : sC S ≤ 0 ∧ sA S ≤ 0) : ∀ (n : Nat) (l0 : Nat) (l1 : Int32) (D : ev_D), sK S l0 = 15 → fX12_undo_26 (sL S) (sE S) fu n l0 l1 D = some r → F S D 26 [some (.ref l0), some (.int l1)] [] := by
  have hX := hR.X
  intro n
  induction n with
  | zero =>
    intro l0 l1 D hl0 hf
    rw [fX12_undo_26] at hf
    cases hf
  | succ n ih =>
    intro l0 l1 D hl0 hf
    rw [fX12_undo_26] at hf
    refine ev_blk hX lkok_RX12 [(.iload_n 1, 1, 0, 0, 0), (.bipush 44, 2, 0, 0, 44)] (by decide +kernel) (g := true) (lv' := [some (.ref l0), some (.int l1)]) (st' := [.int (44 : Int32), .int l1]) (D' := D) (pc' := 29) rfl (rfl) rfl ?_
    refine ev_ic_ge hX (off := 29) 58 (by decide +kernel) (by decide) (fun h1 => ?_) (fun h1 => ?_)
    · have hf := ev_it h1 hf
      refine ev_blk hX lkok_RX12 [(.iconst 1, 1, 0, 0, 1)] (by decide +kernel) (g := true) (lv' := [some (.ref l0), some (.int l1)]) (st' := [.int (1 : Int32)]) (D' := D) (pc' := 59) rfl (rfl) rfl ?_
      exact ev_zret hR ev_sm.rf (Or.inr rfl) (Option.some.inj hf) hC (by decide +kernel)
    · have hf := ev_nf h1 hf
      obtain ⟨hg2, hf⟩ := ev_gd_s hf
      obtain ⟨hg3, hf⟩ := ev_gd_s hf
      refine ev_blk hX lkok_RX12 [(.aload_n 0, 1, 0, 0, 0), (.getfield 7, 3, 12, 1, 0), (.iload_n 1, 1, 0, 0, 0), (.aload_n 0, 1, 0, 0, 0), (.getfield 13, 3, 12, 2, 0), (.bipush 44, 2, 0, 0, 44), (.aload_n 0, 1, 0, 0, 0), (.getfield 131, 3, 12, 3, 0), (.imul, 1, 0, 0, 0), (.iload_n 1, 1, 0, 0, 0), (.iadd, 1, 0, 0, 0), (.iaload, 1, 0, 0, 0), (.iastore, 1, 0, 0, 0), (.iinc 1 1, 3, 0, 0, 1)] (by decide +kernel) (g := (sK S l0 == 15) && ((sK S l0 == 15) && ((sK S l0 == 15) && ((sK S ((sE S) l0 2) == 1 && ev_in (((44 : Int32) * (D l0 3)) + l1) ((sL S) ((sE S) l0 2))) && ((sK S ((sE S) l0 1) == 1 && ev_in l1 ((sL S) ((sE S) l0 1))) && (true)))))) (lv' := [some (.ref l0), some (.int (l1 + (1 : Int32)))]) (st' := []) (D' := (ev_up D ((sE S) l0 1) (l1).toNatClampNeg (D ((sE S) l0 2) ((((44 : Int32) * (D l0 3)) + l1)).toNatClampNeg))) (pc' := 55) rfl (ev_gk hl0 (ev_gk hl0 (ev_gk hl0 (ev_gi (ev_tyk hT hl0 rfl rfl) hg2 (ev_gi (ev_tyk hT hl0 rfl rfl) hg3 (rfl)))))) rfl ?_
      refine ev_goto hX (off := (-29)) 26 (by decide +kernel) (by decide) ?_
      exact ev_weak hX (ev_le_eq (ev_le_eq ev_le_nil)) (ih _ _ _ hl0 hf)
set_option maxHeartbeats 4000000 in
set_option maxRecDepth 100000 in
theorem tX12_undo {S : ev_S} {fu : Nat} {r : Int32 × ev_D} {F : ev_Fr} (hR : ev_R RX12 cX12_undo 2 0 0 0 false (some .boolean) S r F) (hT : ev_Ty S) (hC : sC S ≤ 0 ∧ sA S ≤ 0) {l0 : Nat} {D : ev_D} (hl0 : sK S l0 = 15) (hf : fX12_undo (sL S) (sE S) fu l0 D = some r) : F S D 0 [some (.ref l0), none] [] := by
  have hX := hR.X
  unfold fX12_undo at hf
  refine ev_blk hX lkok_RX12 [(.aload_n 0, 1, 0, 0, 0), (.iconst 0, 1, 0, 0, 0), (.putfield 128, 3, 12, 0, 0), (.aload_n 0, 1, 0, 0, 0), (.getfield 131, 3, 12, 3, 0)] (by decide +kernel) (g := (sK S l0 == 15) && ((sK S l0 == 15) && (true))) (lv' := [some (.ref l0), none]) (st' := [.int ((ev_up D l0 0 (0 : Int32)) l0 3)]) (D' := (ev_up D l0 0 (0 : Int32))) (pc' := 9) rfl (ev_gk hl0 (ev_gk hl0 (rfl))) rfl ?_
  refine ev_if_ne hX (off := 5) 14 (by decide +kernel) (by decide) (fun h4 => ?_) (fun h4 => ?_)
  · have hf := ev_nf h4 hf
    refine ev_blk hX lkok_RX12 [(.aload_n 0, 1, 0, 0, 0), (.aload_n 0, 1, 0, 0, 0), (.getfield 131, 3, 12, 3, 0), (.iconst 1, 1, 0, 0, 1), (.isub, 1, 0, 0, 0), (.putfield 131, 3, 12, 3, 0), (.iconst 0, 1, 0, 0, 0), (.istore_n 1, 1, 0, 0, 0)] (by decide +kernel) (g := (sK S l0 == 15) && ((sK S l0 == 15) && (true))) (lv' := [some (.ref l0), some (.int (0 : Int32))]) (st' := []) (D' := (ev_up (ev_up D l0 0 (0 : Int32)) l0 3 (((ev_up D l0 0 (0 : Int32)) l0 3) - (1 : Int32)))) (pc' := 26) rfl (ev_gk hl0 (ev_gk hl0 (rfl))) rfl ?_
    exact ev_weak hX (ev_le_eq (ev_le_eq ev_le_nil)) (tX12_undo_26 hR hT hC   fu _ _ _ hl0 hf)
  · have hf := ev_it h4 hf
    refine ev_blk hX lkok_RX12 [(.iconst 0, 1, 0, 0, 0)] (by decide +kernel) (g := true) (lv' := [some (.ref l0), none]) (st' := [.int (0 : Int32)]) (D' := (ev_up D l0 0 (0 : Int32))) (pc' := 13) rfl (rfl) rfl ?_
    exact ev_zret hR ev_sm.rf (Or.inl rfl) (Option.some.inj hf) hC (by decide +kernel)
theorem mX12_undo {S : ev_S} {fu : Nat} {r : Int32 × ev_D} (hT : ev_Ty S) {l0 : Nat} {D : ev_D} (hl0 : sK S l0 = 15) (hf : fX12_undo (sL S) (sE S) fu l0 D = some r) : ev_M 0 0 0 yX12_undo cX12_undo 2 (some .boolean) [.ref l0] S D S r :=
  ev_met (ini := false) (plainFor_of_name (by decide)) (fun h => by cases h) rfl (Nat.le_of_ble_eq_true rfl) (fun F hR => tX12_undo (S := ev_z S) hR hT ⟨Nat.le_refl 0, Nat.le_refl 0⟩ hl0 hf)
set_option maxHeartbeats 4000000 in
set_option maxRecDepth 100000 in
theorem tX12_state {S : ev_S} {fu : Nat} {r : Int32 × ev_D} {F : ev_Fr} (hR : ev_R RX12 cX12_state 3 0 0 0 false (some .int) S r F) (hT : ev_Ty S) (hC : sC S ≤ 0 ∧ sA S ≤ 0) {l0 : Nat} {l1 : Int32} {D : ev_D} (hl0 : sK S l0 = 15) (hf : fX12_state (sL S) (sE S) fu l0 l1 D = some r) : F S D 0 [some (.ref l0), some (.int l1), none] [] := by
  have hX := hR.X
  unfold fX12_state at hf
  obtain ⟨hg1, hf⟩ := ev_gd_s hf
  obtain ⟨hg2, hf⟩ := ev_gd_s hf
  refine ev_blk hX lkok_RX12 [(.aload_n 0, 1, 0, 0, 0), (.iconst 0, 1, 0, 0, 0), (.putfield 128, 3, 12, 0, 0), (.aload_n 0, 1, 0, 0, 0), (.getfield 7, 3, 12, 1, 0), (.iconst 1, 1, 0, 0, 1), (.iaload, 1, 0, 0, 0), (.istore_n 2, 1, 0, 0, 0), (.aload_n 0, 1, 0, 0, 0), (.getfield 7, 3, 12, 1, 0), (.iconst 1, 1, 0, 0, 1), (.iload_n 1, 1, 0, 0, 0), (.iastore, 1, 0, 0, 0), (.aload_n 0, 1, 0, 0, 0), (.iconst 0, 1, 0, 0, 0), (.putfield 131, 3, 12, 3, 0), (.iload_n 2, 1, 0, 0, 0)] (by decide +kernel) (g := (sK S l0 == 15) && ((sK S l0 == 15) && ((sK S ((sE S) l0 1) == 1 && ev_in (1 : Int32) ((sL S) ((sE S) l0 1))) && ((sK S l0 == 15) && ((sK S ((sE S) l0 1) == 1 && ev_in (1 : Int32) ((sL S) ((sE S) l0 1))) && ((sK S l0 == 15) && (true))))))) (lv' := [some (.ref l0), some (.int l1), some (.int ((ev_up D l0 0 (0 : Int32)) ((sE S) l0 1) ((1 : Int32)).toNatClampNeg))]) (st' := [.int ((ev_up D l0 0 (0 : Int32)) ((sE S) l0 1) ((1 : Int32)).toNatClampNeg)]) (D' := (ev_up (ev_up (ev_up D l0 0 (0 : Int32)) ((sE S) l0 1) ((1 : Int32)).toNatClampNeg l1) l0 3 (0 : Int32))) (pc' := 25) rfl (ev_gk hl0 (ev_gk hl0 (ev_gi (ev_tyk hT hl0 rfl rfl) hg1 (ev_gk hl0 (ev_gi (ev_tyk hT hl0 rfl rfl) hg2 (ev_gk hl0 (rfl))))))) rfl ?_
  exact ev_iret hR ev_sm.rf (Option.some.inj hf) hC (by decide +kernel)
theorem mX12_state {S : ev_S} {fu : Nat} {r : Int32 × ev_D} (hT : ev_Ty S) {l0 : Nat} {l1 : Int32} {D : ev_D} (hl0 : sK S l0 = 15) (hf : fX12_state (sL S) (sE S) fu l0 l1 D = some r) : ev_M 0 0 0 yX12_state cX12_state 3 (some .int) [.ref l0, .int l1] S D S r :=
  ev_met (ini := false) (plainFor_of_name (by decide)) (fun h => by cases h) rfl (Nat.le_of_ble_eq_true rfl) (fun F hR => tX12_state (S := ev_z S) hR hT ⟨Nat.le_refl 0, Nat.le_refl 0⟩ hl0 hf)
set_option maxHeartbeats 4000000 in
set_option maxRecDepth 100000 in
theorem tX12_isBell {S : ev_S} {fu : Nat} {r : Int32 × ev_D} {F : ev_Fr} (hR : ev_R RX12 cX12_isBell 2 0 0 0 false (some .boolean) S r F) (hT : ev_Ty S) (hC : sC S ≤ 0 ∧ sA S ≤ 0) {l0 : Nat} {l1 : Int32} {D : ev_D} (hl0 : sK S l0 = 15) (hf : fX12_isBell (sL S) (sE S) fu l0 l1 D = some r) : F S D 0 [some (.ref l0), some (.int l1)] [] := by
  have hX := hR.X
  unfold fX12_isBell at hf
  refine ev_blk hX lkok_RX12 [(.iload_n 1, 1, 0, 0, 0)] (by decide +kernel) (g := true) (lv' := [some (.ref l0), some (.int l1)]) (st' := [.int l1]) (D' := D) (pc' := 1) rfl (rfl) rfl ?_
  refine ev_if_lt hX (off := 13) 14 (by decide +kernel) (by decide) (fun h1 => ?_) (fun h1 => ?_)
  · have hf := ev_it h1 hf
    refine ev_blk hX lkok_RX12 [(.iconst 0, 1, 0, 0, 0)] (by decide +kernel) (g := true) (lv' := [some (.ref l0), some (.int l1)]) (st' := [.int (0 : Int32)]) (D' := D) (pc' := 15) rfl (rfl) rfl ?_
    exact ev_zret hR ev_sm.rf (Or.inl rfl) (Option.some.inj hf) hC (by decide +kernel)
  · have hf := ev_nf h1 hf
    refine ev_blk hX lkok_RX12 [(.iload_n 1, 1, 0, 0, 0), (.bipush 8, 2, 0, 0, 8)] (by decide +kernel) (g := true) (lv' := [some (.ref l0), some (.int l1)]) (st' := [.int (8 : Int32), .int l1]) (D' := D) (pc' := 7) rfl (rfl) rfl ?_
    refine ev_ic_ge hX (off := 7) 14 (by decide +kernel) (by decide) (fun h2 => ?_) (fun h2 => ?_)
    · have hf := ev_it h2 hf
      refine ev_blk hX lkok_RX12 [(.iconst 0, 1, 0, 0, 0)] (by decide +kernel) (g := true) (lv' := [some (.ref l0), some (.int l1)]) (st' := [.int (0 : Int32)]) (D' := D) (pc' := 15) rfl (rfl) rfl ?_
      exact ev_zret hR ev_sm.rf (Or.inl rfl) (Option.some.inj hf) hC (by decide +kernel)
    · have hf := ev_nf h2 hf
      refine ev_blk hX lkok_RX12 [(.iconst 1, 1, 0, 0, 1)] (by decide +kernel) (g := true) (lv' := [some (.ref l0), some (.int l1)]) (st' := [.int (1 : Int32)]) (D' := D) (pc' := 11) rfl (rfl) rfl ?_
      refine ev_goto hX (off := 4) 15 (by decide +kernel) (by decide) ?_
      exact ev_zret hR ev_sm.rf (Or.inr rfl) (Option.some.inj hf) hC (by decide +kernel)
theorem mX12_isBell {S : ev_S} {fu : Nat} {r : Int32 × ev_D} (hT : ev_Ty S) {l0 : Nat} {l1 : Int32} {D : ev_D} (hl0 : sK S l0 = 15) (hf : fX12_isBell (sL S) (sE S) fu l0 l1 D = some r) : ev_M 0 0 0 yX12_isBell cX12_isBell 2 (some .boolean) [.ref l0, .int l1] S D S r :=
  ev_met (ini := false) (plainFor_of_name (by decide)) (fun h => by cases h) rfl (Nat.le_of_ble_eq_true rfl) (fun F hR => tX12_isBell (S := ev_z S) hR hT ⟨Nat.le_refl 0, Nat.le_refl 0⟩ hl0 hf)
set_option maxHeartbeats 4000000 in
set_option maxRecDepth 100000 in
theorem tX12_isIn {S : ev_S} {fu : Nat} {r : Int32 × ev_D} {F : ev_Fr} (hR : ev_R RX12 cX12_isIn 4 0 0 0 false (some .boolean) S r F) (hT : ev_Ty S) (hC : sC S ≤ 0 ∧ sA S ≤ 0) {l0 : Nat} {l1 : Int32} {l2 : Int32} {l3 : Int32} {D : ev_D} (hl0 : sK S l0 = 15) (hf : fX12_isIn (sL S) (sE S) fu l0 l1 l2 l3 D = some r) : F S D 0 [some (.ref l0), some (.int l1), some (.int l2), some (.int l3)] [] := by
  have hX := hR.X
  unfold fX12_isIn at hf
  refine ev_blk hX lkok_RX12 [(.iload_n 1, 1, 0, 0, 0), (.iload_n 2, 1, 0, 0, 0)] (by decide +kernel) (g := true) (lv' := [some (.ref l0), some (.int l1), some (.int l2), some (.int l3)]) (st' := [.int l2, .int l1]) (D' := D) (pc' := 2) rfl (rfl) rfl ?_
  refine ev_ic_lt hX (off := 12) 14 (by decide +kernel) (by decide) (fun h1 => ?_) (fun h1 => ?_)
  · have hf := ev_it h1 hf
    refine ev_blk hX lkok_RX12 [(.iconst 0, 1, 0, 0, 0)] (by decide +kernel) (g := true) (lv' := [some (.ref l0), some (.int l1), some (.int l2), some (.int l3)]) (st' := [.int (0 : Int32)]) (D' := D) (pc' := 15) rfl (rfl) rfl ?_
    exact ev_zret hR ev_sm.rf (Or.inl rfl) (Option.some.inj hf) hC (by decide +kernel)
  · have hf := ev_nf h1 hf
    refine ev_blk hX lkok_RX12 [(.iload_n 1, 1, 0, 0, 0), (.iload_n 3, 1, 0, 0, 0)] (by decide +kernel) (g := true) (lv' := [some (.ref l0), some (.int l1), some (.int l2), some (.int l3)]) (st' := [.int l3, .int l1]) (D' := D) (pc' := 7) rfl (rfl) rfl ?_
    refine ev_ic_gt hX (off := 7) 14 (by decide +kernel) (by decide) (fun h2 => ?_) (fun h2 => ?_)
    · have hf := ev_it h2 hf
      refine ev_blk hX lkok_RX12 [(.iconst 0, 1, 0, 0, 0)] (by decide +kernel) (g := true) (lv' := [some (.ref l0), some (.int l1), some (.int l2), some (.int l3)]) (st' := [.int (0 : Int32)]) (D' := D) (pc' := 15) rfl (rfl) rfl ?_
      exact ev_zret hR ev_sm.rf (Or.inl rfl) (Option.some.inj hf) hC (by decide +kernel)
    · have hf := ev_nf h2 hf
      refine ev_blk hX lkok_RX12 [(.iconst 1, 1, 0, 0, 1)] (by decide +kernel) (g := true) (lv' := [some (.ref l0), some (.int l1), some (.int l2), some (.int l3)]) (st' := [.int (1 : Int32)]) (D' := D) (pc' := 11) rfl (rfl) rfl ?_
      refine ev_goto hX (off := 4) 15 (by decide +kernel) (by decide) ?_
      exact ev_zret hR ev_sm.rf (Or.inr rfl) (Option.some.inj hf) hC (by decide +kernel)
theorem mX12_isIn {S : ev_S} {fu : Nat} {r : Int32 × ev_D} (hT : ev_Ty S) {l0 : Nat} {l1 : Int32} {l2 : Int32} {l3 : Int32} {D : ev_D} (hl0 : sK S l0 = 15) (hf : fX12_isIn (sL S) (sE S) fu l0 l1 l2 l3 D = some r) : ev_M 0 0 0 yX12_isIn cX12_isIn 4 (some .boolean) [.ref l0, .int l1, .int l2, .int l3] S D S r :=
  ev_met (ini := false) (plainFor_of_name (by decide)) (fun h => by cases h) rfl (Nat.le_of_ble_eq_true rfl) (fun F hR => tX12_isIn (S := ev_z S) hR hT ⟨Nat.le_refl 0, Nat.le_refl 0⟩ hl0 hf)
set_option maxHeartbeats 4000000 in
set_option maxRecDepth 100000 in
theorem tX12_ringer_115 {S : ev_S} {fu : Nat} {r : Int32 × ev_D} {F : ev_Fr} (hR : ev_R RX12 cX12_ringer 4 1 0 0 false (some .int) S r F) (hT : ev_Ty S) (hC : sC S ≤ 0 ∧ sA S ≤ 0) {l0 : Nat} {D : ev_D} (hl0 : sK S l0 = 15) (hf : fX12_ringer_115 (sL S) (sE S) fu l0 D = some r) : F S D 115 [some (.ref l0), none, none, none] [] := by
  have hX := hR.X
  unfold fX12_ringer_115 at hf
  refine ev_blk hX lkok_RX12 [(.aload_n 0, 1, 0, 0, 0), (.aload_n 0, 1, 0, 0, 0), (.getfield 140, 3, 12, 7, 0), (.iconst 1, 1, 0, 0, 1), (.iadd, 1, 0, 0, 0), (.putfield 140, 3, 12, 7, 0), (.aload_n 0, 1, 0, 0, 0), (.iconst 0, 1, 0, 0, 0), (.putfield 131, 3, 12, 3, 0), (.aload_n 0, 1, 0, 0, 0), (.getfield 140, 3, 12, 7, 0), (.iconst 1, 1, 0, 0, 1), (.isub, 1, 0, 0, 0)] (by decide +kernel) (g := (sK S l0 == 15) && ((sK S l0 == 15) && ((sK S l0 == 15) && ((sK S l0 == 15) && (true))))) (lv' := [some (.ref l0), none, none, none]) (st' := [.int (((ev_up (ev_up D l0 7 ((D l0 7) + (1 : Int32))) l0 3 (0 : Int32)) l0 7) - (1 : Int32))]) (D' := (ev_up (ev_up D l0 7 ((D l0 7) + (1 : Int32))) l0 3 (0 : Int32))) (pc' := 136) rfl (ev_gk hl0 (ev_gk hl0 (ev_gk hl0 (ev_gk hl0 (rfl))))) rfl ?_
  exact ev_iret hR ev_sm.rf (Option.some.inj hf) hC (by decide +kernel)
set_option maxHeartbeats 4000000 in
set_option maxRecDepth 100000 in
theorem tX12_ringer_76 {S : ev_S} {fu : Nat} {r : Int32 × ev_D} {F : ev_Fr} (hR : ev_R RX12 cX12_ringer 4 1 0 0 false (some .int) S r F) (hT : ev_Ty S) (hC : sC S ≤ 0 ∧ sA S ≤ 0) {l0 : Nat} {D : ev_D} (hl0 : sK S l0 = 15) (hf : fX12_ringer_76 (sL S) (sE S) fu l0 D = some r) : F S D 76 [some (.ref l0), none, none, none] [] := by
  have hX := hR.X
  unfold fX12_ringer_76 at hf
  obtain ⟨hg1, hf⟩ := ev_gd_s hf
  obtain ⟨hg2, hf⟩ := ev_gd_s hf
  obtain ⟨hg3, hf⟩ := ev_gd_s hf
  refine ev_blk hX lkok_RX12 [(.aload_n 0, 1, 0, 0, 0), (.getfield 7, 3, 12, 1, 0), (.bipush 14, 2, 0, 0, 14), (.aload_n 0, 1, 0, 0, 0), (.getfield 140, 3, 12, 7, 0), (.iadd, 1, 0, 0, 0), (.iconst 0, 1, 0, 0, 0), (.iastore, 1, 0, 0, 0), (.aload_n 0, 1, 0, 0, 0), (.getfield 7, 3, 12, 1, 0), (.bipush 24, 2, 0, 0, 24), (.aload_n 0, 1, 0, 0, 0), (.getfield 140, 3, 12, 7, 0), (.iadd, 1, 0, 0, 0), (.iconst 0, 1, 0, 0, 0), (.iastore, 1, 0, 0, 0), (.aload_n 0, 1, 0, 0, 0), (.getfield 7, 3, 12, 1, 0), (.bipush 34, 2, 0, 0, 34), (.aload_n 0, 1, 0, 0, 0), (.getfield 140, 3, 12, 7, 0), (.iadd, 1, 0, 0, 0), (.iconst 0, 1, 0, 0, 0), (.iastore, 1, 0, 0, 0)] (by decide +kernel) (g := (sK S l0 == 15) && ((sK S l0 == 15) && ((sK S ((sE S) l0 1) == 1 && ev_in ((14 : Int32) + (D l0 7)) ((sL S) ((sE S) l0 1))) && ((sK S l0 == 15) && ((sK S l0 == 15) && ((sK S ((sE S) l0 1) == 1 && ev_in ((24 : Int32) + ((ev_up D ((sE S) l0 1) (((14 : Int32) + (D l0 7))).toNatClampNeg (0 : Int32)) l0 7)) ((sL S) ((sE S) l0 1))) && ((sK S l0 == 15) && ((sK S l0 == 15) && ((sK S ((sE S) l0 1) == 1 && ev_in ((34 : Int32) + ((ev_up (ev_up D ((sE S) l0 1) (((14 : Int32) + (D l0 7))).toNatClampNeg (0 : Int32)) ((sE S) l0 1) (((24 : Int32) + ((ev_up D ((sE S) l0 1) (((14 : Int32) + (D l0 7))).toNatClampNeg (0 : Int32)) l0 7))).toNatClampNeg (0 : Int32)) l0 7)) ((sL S) ((sE S) l0 1))) && (true)))))))))) (lv' := [some (.ref l0), none, none, none]) (st' := []) (D' := (ev_up (ev_up (ev_up D ((sE S) l0 1) (((14 : Int32) + (D l0 7))).toNatClampNeg (0 : Int32)) ((sE S) l0 1) (((24 : Int32) + ((ev_up D ((sE S) l0 1) (((14 : Int32) + (D l0 7))).toNatClampNeg (0 : Int32)) l0 7))).toNatClampNeg (0 : Int32)) ((sE S) l0 1) (((34 : Int32) + ((ev_up (ev_up D ((sE S) l0 1) (((14 : Int32) + (D l0 7))).toNatClampNeg (0 : Int32)) ((sE S) l0 1) (((24 : Int32) + ((ev_up D ((sE S) l0 1) (((14 : Int32) + (D l0 7))).toNatClampNeg (0 : Int32)) l0 7))).toNatClampNeg (0 : Int32)) l0 7))).toNatClampNeg (0 : Int32))) (pc' := 115) rfl (ev_gk hl0 (ev_gk hl0 (ev_gi (ev_tyk hT hl0 rfl rfl) hg1 (ev_gk hl0 (ev_gk hl0 (ev_gi (ev_tyk hT hl0 rfl rfl) hg2 (ev_gk hl0 (ev_gk hl0 (ev_gi (ev_tyk hT hl0 rfl rfl) hg3 (rfl)))))))))) rfl ?_
  exact ev_weak hX (ev_le_eq (ev_le_no (ev_le_no (ev_le_no ev_le_nil)))) (tX12_ringer_115 hR hT hC   hl0 hf)
set_option maxHeartbeats 4000000 in
set_option maxRecDepth 100000 in
theorem tX12_ringer {S : ev_S} {fu : Nat} {r : Int32 × ev_D} {F : ev_Fr} (hR : ev_R RX12 cX12_ringer 4 1 0 0 false (some .int) S r F) (hT : ev_Ty S) (hC : sC S ≤ 0 ∧ sA S ≤ 0) {l0 : Nat} {l1 : Int32} {l2 : Int32} {l3 : Int32} {D : ev_D} (hl0 : sK S l0 = 15) (hf : fX12_ringer (sL S) (sE S) fu l0 l1 l2 l3 D = some r) : F S D 0 [some (.ref l0), some (.int l1), some (.int l2), some (.int l3)] [] := by
  have hX := hR.X
  unfold fX12_ringer at hf
  refine ev_blk hX lkok_RX12 [(.aload_n 0, 1, 0, 0, 0), (.iconst 0, 1, 0, 0, 0), (.putfield 128, 3, 12, 0, 0), (.aload_n 0, 1, 0, 0, 0), (.iload_n 1, 1, 0, 0, 0)] (by decide +kernel) (g := (sK S l0 == 15) && (true)) (lv' := [some (.ref l0), some (.int l1), some (.int l2), some (.int l3)]) (st' := [.int l1, .ref l0]) (D' := (ev_up D l0 0 (0 : Int32))) (pc' := 7) rfl (ev_gk hl0 (rfl)) rfl ?_
  obtain ⟨v4, D4, hc4, hf⟩ := ev_bd_s hf
  refine ev_callV hX YX12_isBell ml_RX12_147 (mX12_isBell hT hl0 hc4) (vs := [.int l1]) (st := []) (by decide) 12 hl0 rfl rfl rfl (by decide +kernel) hC ?_
  show F S D4 10 [some (.ref l0), some (.int l1), some (.int l2), some (.int l3)] [.int v4]
  refine ev_if_eq hX (off := 34) 44 (by decide +kernel) (by decide) (fun h5 => ?_) (fun h5 => ?_)
  · have hf := ev_it h5 hf
    refine ev_blk hX lkok_RX12 [(.iconst (-1), 1, 0, 0, (-1))] (by decide +kernel) (g := true) (lv' := [some (.ref l0), some (.int l1), some (.int l2), some (.int l3)]) (st' := [.int (-1 : Int32)]) (D' := D4) (pc' := 45) rfl (rfl) rfl ?_
    exact ev_iret hR ev_sm.rf (Option.some.inj hf) hC (by decide +kernel)
  · have hf := ev_nf h5 hf
    refine ev_blk hX lkok_RX12 [(.aload_n 0, 1, 0, 0, 0), (.iload_n 2, 1, 0, 0, 0), (.iconst 0, 1, 0, 0, 0), (.bipush 9, 2, 0, 0, 9)] (by decide +kernel) (g := true) (lv' := [some (.ref l0), some (.int l1), some (.int l2), some (.int l3)]) (st' := [.int (9 : Int32), .int (0 : Int32), .int l2, .ref l0]) (D' := D4) (pc' := 18) rfl (rfl) rfl ?_
    obtain ⟨v6, D6, hc6, hf⟩ := ev_bd_s hf
    refine ev_callV hX YX12_isIn ml_RX12_150 (mX12_isIn hT hl0 hc6) (vs := [.int l2, .int (0 : Int32), .int (9 : Int32)]) (st := []) (by decide) 12 hl0 rfl rfl rfl (by decide +kernel) hC ?_
    show F S D6 21 [some (.ref l0), some (.int l1), some (.int l2), some (.int l3)] [.int v6]
    refine ev_if_eq hX (off := 23) 44 (by decide +kernel) (by decide) (fun h7 => ?_) (fun h7 => ?_)
    · have hf := ev_it h7 hf
      refine ev_blk hX lkok_RX12 [(.iconst (-1), 1, 0, 0, (-1))] (by decide +kernel) (g := true) (lv' := [some (.ref l0), some (.int l1), some (.int l2), some (.int l3)]) (st' := [.int (-1 : Int32)]) (D' := D6) (pc' := 45) rfl (rfl) rfl ?_
      exact ev_iret hR ev_sm.rf (Option.some.inj hf) hC (by decide +kernel)
    · have hf := ev_nf h7 hf
      refine ev_blk hX lkok_RX12 [(.aload_n 0, 1, 0, 0, 0), (.iload_n 3, 1, 0, 0, 0), (.iconst 0, 1, 0, 0, 0), (.bipush 9, 2, 0, 0, 9)] (by decide +kernel) (g := true) (lv' := [some (.ref l0), some (.int l1), some (.int l2), some (.int l3)]) (st' := [.int (9 : Int32), .int (0 : Int32), .int l3, .ref l0]) (D' := D6) (pc' := 29) rfl (rfl) rfl ?_
      obtain ⟨v8, D8, hc8, hf⟩ := ev_bd_s hf
      refine ev_callV hX YX12_isIn ml_RX12_150 (mX12_isIn hT hl0 hc8) (vs := [.int l3, .int (0 : Int32), .int (9 : Int32)]) (st := []) (by decide) 12 hl0 rfl rfl rfl (by decide +kernel) hC ?_
      show F S D8 32 [some (.ref l0), some (.int l1), some (.int l2), some (.int l3)] [.int v8]
      refine ev_if_eq hX (off := 12) 44 (by decide +kernel) (by decide) (fun h9 => ?_) (fun h9 => ?_)
      · have hf := ev_it h9 hf
        refine ev_blk hX lkok_RX12 [(.iconst (-1), 1, 0, 0, (-1))] (by decide +kernel) (g := true) (lv' := [some (.ref l0), some (.int l1), some (.int l2), some (.int l3)]) (st' := [.int (-1 : Int32)]) (D' := D8) (pc' := 45) rfl (rfl) rfl ?_
        exact ev_iret hR ev_sm.rf (Option.some.inj hf) hC (by decide +kernel)
      · have hf := ev_nf h9 hf
        refine ev_blk hX lkok_RX12 [(.aload_n 0, 1, 0, 0, 0), (.getfield 140, 3, 12, 7, 0), (.bipush 10, 2, 0, 0, 10)] (by decide +kernel) (g := (sK S l0 == 15) && (true)) (lv' := [some (.ref l0), some (.int l1), some (.int l2), some (.int l3)]) (st' := [.int (10 : Int32), .int (D8 l0 7)]) (D' := D8) (pc' := 41) rfl (ev_gk hl0 (rfl)) rfl ?_
        refine ev_ic_ne hX (off := 5) 46 (by decide +kernel) (by decide) (fun h10 => ?_) (fun h10 => ?_)
        · have hf := ev_nf h10 hf
          obtain ⟨hg11, hf⟩ := ev_gd_s hf
          obtain ⟨hg12, hf⟩ := ev_gd_s hf
          obtain ⟨hg13, hf⟩ := ev_gd_s hf
          refine ev_blk hX lkok_RX12 [(.aload_n 0, 1, 0, 0, 0), (.getfield 22, 3, 12, 8, 0), (.aload_n 0, 1, 0, 0, 0), (.getfield 140, 3, 12, 7, 0), (.iload_n 1, 1, 0, 0, 0), (.iastore, 1, 0, 0, 0), (.aload_n 0, 1, 0, 0, 0), (.getfield 25, 3, 12, 9, 0), (.aload_n 0, 1, 0, 0, 0), (.getfield 140, 3, 12, 7, 0), (.iload_n 2, 1, 0, 0, 0), (.iastore, 1, 0, 0, 0), (.aload_n 0, 1, 0, 0, 0), (.getfield 28, 3, 12, 10, 0), (.aload_n 0, 1, 0, 0, 0), (.getfield 140, 3, 12, 7, 0), (.iload_n 3, 1, 0, 0, 0), (.iastore, 1, 0, 0, 0)] (by decide +kernel) (g := (sK S l0 == 15) && ((sK S l0 == 15) && ((sK S ((sE S) l0 8) == 1 && ev_in (D8 l0 7) ((sL S) ((sE S) l0 8))) && ((sK S l0 == 15) && ((sK S l0 == 15) && ((sK S ((sE S) l0 9) == 1 && ev_in ((ev_up D8 ((sE S) l0 8) ((D8 l0 7)).toNatClampNeg l1) l0 7) ((sL S) ((sE S) l0 9))) && ((sK S l0 == 15) && ((sK S l0 == 15) && ((sK S ((sE S) l0 10) == 1 && ev_in ((ev_up (ev_up D8 ((sE S) l0 8) ((D8 l0 7)).toNatClampNeg l1) ((sE S) l0 9) (((ev_up D8 ((sE S) l0 8) ((D8 l0 7)).toNatClampNeg l1) l0 7)).toNatClampNeg l2) l0 7) ((sL S) ((sE S) l0 10))) && (true)))))))))) (lv' := [some (.ref l0), some (.int l1), some (.int l2), some (.int l3)]) (st' := []) (D' := (ev_up (ev_up (ev_up D8 ((sE S) l0 8) ((D8 l0 7)).toNatClampNeg l1) ((sE S) l0 9) (((ev_up D8 ((sE S) l0 8) ((D8 l0 7)).toNatClampNeg l1) l0 7)).toNatClampNeg l2) ((sE S) l0 10) (((ev_up (ev_up D8 ((sE S) l0 8) ((D8 l0 7)).toNatClampNeg l1) ((sE S) l0 9) (((ev_up D8 ((sE S) l0 8) ((D8 l0 7)).toNatClampNeg l1) l0 7)).toNatClampNeg l2) l0 7)).toNatClampNeg l3)) (pc' := 76) rfl (ev_gk hl0 (ev_gk hl0 (ev_gi (ev_tyk hT hl0 rfl rfl) hg11 (ev_gk hl0 (ev_gk hl0 (ev_gi (ev_tyk hT hl0 rfl rfl) hg12 (ev_gk hl0 (ev_gk hl0 (ev_gi (ev_tyk hT hl0 rfl rfl) hg13 (rfl)))))))))) rfl ?_
          exact ev_weak hX (ev_le_eq (ev_le_no (ev_le_no (ev_le_no ev_le_nil)))) (tX12_ringer_76 hR hT hC   hl0 hf)
        · have hf := ev_it h10 hf
          refine ev_blk hX lkok_RX12 [(.iconst (-1), 1, 0, 0, (-1))] (by decide +kernel) (g := true) (lv' := [some (.ref l0), some (.int l1), some (.int l2), some (.int l3)]) (st' := [.int (-1 : Int32)]) (D' := D8) (pc' := 45) rfl (rfl) rfl ?_
          exact ev_iret hR ev_sm.rf (Option.some.inj hf) hC (by decide +kernel)
theorem mX12_ringer {S : ev_S} {fu : Nat} {r : Int32 × ev_D} (hT : ev_Ty S) {l0 : Nat} {l1 : Int32} {l2 : Int32} {l3 : Int32} {D : ev_D} (hl0 : sK S l0 = 15) (hf : fX12_ringer (sL S) (sE S) fu l0 l1 l2 l3 D = some r) : ev_M 1 0 0 yX12_ringer cX12_ringer 4 (some .int) [.ref l0, .int l1, .int l2, .int l3] S D S r :=
  ev_met (ini := false) (plainFor_of_name (by decide)) (fun h => by cases h) rfl (Nat.le_of_ble_eq_true rfl) (fun F hR => tX12_ringer (S := ev_z S) hR hT ⟨Nat.le_refl 0, Nat.le_refl 0⟩ hl0 hf)
set_option maxHeartbeats 4000000 in
set_option maxRecDepth 100000 in
theorem tX12_isRinger {S : ev_S} {fu : Nat} {r : Int32 × ev_D} {F : ev_Fr} (hR : ev_R RX12 cX12_isRinger 2 0 0 0 false (some .boolean) S r F) (hT : ev_Ty S) (hC : sC S ≤ 0 ∧ sA S ≤ 0) {l0 : Nat} {l1 : Int32} {D : ev_D} (hl0 : sK S l0 = 15) (hf : fX12_isRinger (sL S) (sE S) fu l0 l1 D = some r) : F S D 0 [some (.ref l0), some (.int l1)] [] := by
  have hX := hR.X
  unfold fX12_isRinger at hf
  refine ev_blk hX lkok_RX12 [(.iload_n 1, 1, 0, 0, 0)] (by decide +kernel) (g := true) (lv' := [some (.ref l0), some (.int l1)]) (st' := [.int l1]) (D' := D) (pc' := 1) rfl (rfl) rfl ?_
  refine ev_if_lt hX (off := 15) 16 (by decide +kernel) (by decide) (fun h1 => ?_) (fun h1 => ?_)
  · have hf := ev_it h1 hf
    refine ev_blk hX lkok_RX12 [(.iconst 0, 1, 0, 0, 0)] (by decide +kernel) (g := true) (lv' := [some (.ref l0), some (.int l1)]) (st' := [.int (0 : Int32)]) (D' := D) (pc' := 17) rfl (rfl) rfl ?_
    exact ev_zret hR ev_sm.rf (Or.inl rfl) (Option.some.inj hf) hC (by decide +kernel)
  · have hf := ev_nf h1 hf
    refine ev_blk hX lkok_RX12 [(.iload_n 1, 1, 0, 0, 0), (.aload_n 0, 1, 0, 0, 0), (.getfield 140, 3, 12, 7, 0)] (by decide +kernel) (g := (sK S l0 == 15) && (true)) (lv' := [some (.ref l0), some (.int l1)]) (st' := [.int (D l0 7), .int l1]) (D' := D) (pc' := 9) rfl (ev_gk hl0 (rfl)) rfl ?_
    refine ev_ic_ge hX (off := 7) 16 (by decide +kernel) (by decide) (fun h2 => ?_) (fun h2 => ?_)
    · have hf := ev_it h2 hf
      refine ev_blk hX lkok_RX12 [(.iconst 0, 1, 0, 0, 0)] (by decide +kernel) (g := true) (lv' := [some (.ref l0), some (.int l1)]) (st' := [.int (0 : Int32)]) (D' := D) (pc' := 17) rfl (rfl) rfl ?_
      exact ev_zret hR ev_sm.rf (Or.inl rfl) (Option.some.inj hf) hC (by decide +kernel)
    · have hf := ev_nf h2 hf
      refine ev_blk hX lkok_RX12 [(.iconst 1, 1, 0, 0, 1)] (by decide +kernel) (g := true) (lv' := [some (.ref l0), some (.int l1)]) (st' := [.int (1 : Int32)]) (D' := D) (pc' := 13) rfl (rfl) rfl ?_
      refine ev_goto hX (off := 4) 17 (by decide +kernel) (by decide) ?_
      exact ev_zret hR ev_sm.rf (Or.inr rfl) (Option.some.inj hf) hC (by decide +kernel)
theorem mX12_isRinger {S : ev_S} {fu : Nat} {r : Int32 × ev_D} (hT : ev_Ty S) {l0 : Nat} {l1 : Int32} {D : ev_D} (hl0 : sK S l0 = 15) (hf : fX12_isRinger (sL S) (sE S) fu l0 l1 D = some r) : ev_M 0 0 0 yX12_isRinger cX12_isRinger 2 (some .boolean) [.ref l0, .int l1] S D S r :=
  ev_met (ini := false) (plainFor_of_name (by decide)) (fun h => by cases h) rfl (Nat.le_of_ble_eq_true rfl) (fun F hR => tX12_isRinger (S := ev_z S) hR hT ⟨Nat.le_refl 0, Nat.le_refl 0⟩ hl0 hf)
set_option maxHeartbeats 4000000 in
set_option maxRecDepth 100000 in
theorem tX12_canSet_113 {S : ev_S} {fu : Nat} {r : Int32 × ev_D} {F : ev_Fr} (hR : ev_R RX12 cX12_canSet 4 1 0 0 false (some .boolean) S r F) (hT : ev_Ty S) (hC : sC S ≤ 0 ∧ sA S ≤ 0) {s0 : Nat} {s1 : Int32} {s2 : Int32} {s3 : Int32} {D : ev_D} (hs0 : sK S s0 = 15) (hf : fX12_canSet_113 (sL S) (sE S) fu s0 s1 s2 s3 D = some r) : F S D 113 [none, none, none, none] [.int s3, .int s2, .int s1, .ref s0] := by
  have hX := hR.X
  unfold fX12_canSet_113 at hf
  obtain ⟨v1, D1, hc1, hf⟩ := ev_bd_s hf
  refine ev_callV hX YX12_isIn ml_RX12_150 (mX12_isIn hT hs0 hc1) (vs := [.int s1, .int s2, .int s3]) (st := []) (by decide) 12 hs0 rfl rfl rfl (by decide +kernel) hC ?_
  show F S D1 116 [none, none, none, none] [.int v1]
  refine ev_if_eq hX (off := 7) 123 (by decide +kernel) (by decide) (fun h2 => ?_) (fun h2 => ?_)
  · have hf := ev_it h2 hf
    refine ev_blk hX lkok_RX12 [(.iconst 0, 1, 0, 0, 0)] (by decide +kernel) (g := true) (lv' := [none, none, none, none]) (st' := [.int (0 : Int32)]) (D' := D1) (pc' := 124) rfl (rfl) rfl ?_
    exact ev_zret hR ev_sm.rf (Or.inl rfl) (Option.some.inj hf) hC (by decide +kernel)
  · have hf := ev_nf h2 hf
    refine ev_blk hX lkok_RX12 [(.iconst 1, 1, 0, 0, 1)] (by decide +kernel) (g := true) (lv' := [none, none, none, none]) (st' := [.int (1 : Int32)]) (D' := D1) (pc' := 120) rfl (rfl) rfl ?_
    refine ev_goto hX (off := 4) 124 (by decide +kernel) (by decide) ?_
    exact ev_zret hR ev_sm.rf (Or.inr rfl) (Option.some.inj hf) hC (by decide +kernel)
set_option maxHeartbeats 4000000 in
set_option maxRecDepth 100000 in
theorem tX12_canSet {S : ev_S} {fu : Nat} {r : Int32 × ev_D} {F : ev_Fr} (hR : ev_R RX12 cX12_canSet 4 1 0 0 false (some .boolean) S r F) (hT : ev_Ty S) (hC : sC S ≤ 0 ∧ sA S ≤ 0) {l0 : Nat} {l1 : Int32} {l2 : Int32} {l3 : Int32} {D : ev_D} (hl0 : sK S l0 = 15) (hf : fX12_canSet (sL S) (sE S) fu l0 l1 l2 l3 D = some r) : F S D 0 [some (.ref l0), some (.int l1), some (.int l2), some (.int l3)] [] := by
  have hX := hR.X
  unfold fX12_canSet at hf
  refine ev_blk hX lkok_RX12 [(.iload_n 1, 1, 0, 0, 0)] (by decide +kernel) (g := true) (lv' := [some (.ref l0), some (.int l1), some (.int l2), some (.int l3)]) (st' := [.int l1]) (D' := D) (pc' := 1) rfl (rfl) rfl ?_
  refine ev_if_ne hX (off := 28) 29 (by decide +kernel) (by decide) (fun h3 => ?_) (fun h3 => ?_)
  · have hf := ev_nf h3 hf
    refine ev_blk hX lkok_RX12 [(.aload_n 0, 1, 0, 0, 0), (.iload_n 1, 1, 0, 0, 0), (.iconst 1, 1, 0, 0, 1), (.iconst 3, 1, 0, 0, 3)] (by decide +kernel) (g := true) (lv' := [some (.ref l0), some (.int l1), some (.int l2), some (.int l3)]) (st' := [.int (3 : Int32), .int (1 : Int32), .int l1, .ref l0]) (D' := D) (pc' := 33) rfl (rfl) rfl ?_
    obtain ⟨v4, D4, hc4, hf⟩ := ev_bd_s hf
    refine ev_callV hX YX12_isIn ml_RX12_150 (mX12_isIn hT hl0 hc4) (vs := [.int l1, .int (1 : Int32), .int (3 : Int32)]) (st := []) (by decide) 12 hl0 rfl rfl rfl (by decide +kernel) hC ?_
    show F S D4 36 [some (.ref l0), some (.int l1), some (.int l2), some (.int l3)] [.int v4]
    refine ev_if_eq hX (off := 33) 69 (by decide +kernel) (by decide) (fun h5 => ?_) (fun h5 => ?_)
    · have hf := ev_it h5 hf
      refine ev_blk hX lkok_RX12 [(.aload_n 0, 1, 0, 0, 0), (.iload_n 1, 1, 0, 0, 0), (.iconst 4, 1, 0, 0, 4), (.bipush 6, 2, 0, 0, 6)] (by decide +kernel) (g := true) (lv' := [some (.ref l0), some (.int l1), some (.int l2), some (.int l3)]) (st' := [.int (6 : Int32), .int (4 : Int32), .int l1, .ref l0]) (D' := D4) (pc' := 74) rfl (rfl) rfl ?_
      obtain ⟨v6, D6, hc6, hf⟩ := ev_bd_s hf
      refine ev_callV hX YX12_isIn ml_RX12_150 (mX12_isIn hT hl0 hc6) (vs := [.int l1, .int (4 : Int32), .int (6 : Int32)]) (st := []) (by decide) 12 hl0 rfl rfl rfl (by decide +kernel) hC ?_
      show F S D6 77 [some (.ref l0), some (.int l1), some (.int l2), some (.int l3)] [.int v6]
      refine ev_if_eq hX (off := 46) 123 (by decide +kernel) (by decide) (fun h7 => ?_) (fun h7 => ?_)
      · have hf := ev_it h7 hf
        refine ev_blk hX lkok_RX12 [(.iconst 0, 1, 0, 0, 0)] (by decide +kernel) (g := true) (lv' := [some (.ref l0), some (.int l1), some (.int l2), some (.int l3)]) (st' := [.int (0 : Int32)]) (D' := D6) (pc' := 124) rfl (rfl) rfl ?_
        exact ev_zret hR ev_sm.rf (Or.inl rfl) (Option.some.inj hf) hC (by decide +kernel)
      · have hf := ev_nf h7 hf
        refine ev_blk hX lkok_RX12 [(.aload_n 0, 1, 0, 0, 0), (.iload_n 2, 1, 0, 0, 0)] (by decide +kernel) (g := true) (lv' := [some (.ref l0), some (.int l1), some (.int l2), some (.int l3)]) (st' := [.int l2, .ref l0]) (D' := D6) (pc' := 82) rfl (rfl) rfl ?_
        obtain ⟨v8, D8, hc8, hf⟩ := ev_bd_s hf
        refine ev_callV hX YX12_isRinger ml_RX12_154 (mX12_isRinger hT hl0 hc8) (vs := [.int l2]) (st := []) (by decide) 12 hl0 rfl rfl rfl (by decide +kernel) hC ?_
        show F S D8 85 [some (.ref l0), some (.int l1), some (.int l2), some (.int l3)] [.int v8]
        refine ev_if_eq hX (off := 38) 123 (by decide +kernel) (by decide) (fun h9 => ?_) (fun h9 => ?_)
        · have hf := ev_it h9 hf
          refine ev_blk hX lkok_RX12 [(.iconst 0, 1, 0, 0, 0)] (by decide +kernel) (g := true) (lv' := [some (.ref l0), some (.int l1), some (.int l2), some (.int l3)]) (st' := [.int (0 : Int32)]) (D' := D8) (pc' := 124) rfl (rfl) rfl ?_
          exact ev_zret hR ev_sm.rf (Or.inl rfl) (Option.some.inj hf) hC (by decide +kernel)
        · have hf := ev_nf h9 hf
          refine ev_blk hX lkok_RX12 [(.aload_n 0, 1, 0, 0, 0), (.iload_n 3, 1, 0, 0, 0), (.iconst 0, 1, 0, 0, 0), (.iload_n 1, 1, 0, 0, 0), (.iconst 4, 1, 0, 0, 4)] (by decide +kernel) (g := true) (lv' := [some (.ref l0), some (.int l1), some (.int l2), some (.int l3)]) (st' := [.int (4 : Int32), .int l1, .int (0 : Int32), .int l3, .ref l0]) (D' := D8) (pc' := 93) rfl (rfl) rfl ?_
          refine ev_ic_ne hX (off := 8) 101 (by decide +kernel) (by decide) (fun h10 => ?_) (fun h10 => ?_)
          · have hf := ev_nf h10 hf
            refine ev_blk hX lkok_RX12 [(.iload_n 1, 1, 0, 0, 0), (.iconst 5, 1, 0, 0, 5)] (by decide +kernel) (g := true) (lv' := [some (.ref l0), some (.int l1), some (.int l2), some (.int l3)]) (st' := [.int (5 : Int32), .int l1, .int (0 : Int32), .int l3, .ref l0]) (D' := D8) (pc' := 103) rfl (rfl) rfl ?_
            refine ev_ic_ne hX (off := 8) 111 (by decide +kernel) (by decide) (fun h11 => ?_) (fun h11 => ?_)
            · have hf := ev_nf h11 hf
              refine ev_blk hX lkok_RX12 [(.bipush 98, 2, 0, 0, 98)] (by decide +kernel) (g := true) (lv' := [some (.ref l0), some (.int l1), some (.int l2), some (.int l3)]) (st' := [.int (98 : Int32), .int (0 : Int32), .int l3, .ref l0]) (D' := D8) (pc' := 113) rfl (rfl) rfl ?_
              exact ev_weak hX (ev_le_no (ev_le_no (ev_le_no (ev_le_no ev_le_nil)))) (tX12_canSet_113 hR hT hC   hl0 hf)
            · have hf := ev_it h11 hf
              refine ev_blk hX lkok_RX12 [(.bipush 99, 2, 0, 0, 99)] (by decide +kernel) (g := true) (lv' := [some (.ref l0), some (.int l1), some (.int l2), some (.int l3)]) (st' := [.int (99 : Int32), .int (0 : Int32), .int l3, .ref l0]) (D' := D8) (pc' := 108) rfl (rfl) rfl ?_
              refine ev_goto hX (off := 5) 113 (by decide +kernel) (by decide) ?_
              exact ev_weak hX (ev_le_no (ev_le_no (ev_le_no (ev_le_no ev_le_nil)))) (tX12_canSet_113 hR hT hC   hl0 hf)
          · have hf := ev_it h10 hf
            refine ev_blk hX lkok_RX12 [(.bipush 7, 2, 0, 0, 7)] (by decide +kernel) (g := true) (lv' := [some (.ref l0), some (.int l1), some (.int l2), some (.int l3)]) (st' := [.int (7 : Int32), .int (0 : Int32), .int l3, .ref l0]) (D' := D8) (pc' := 98) rfl (rfl) rfl ?_
            refine ev_goto hX (off := 15) 113 (by decide +kernel) (by decide) ?_
            exact ev_weak hX (ev_le_no (ev_le_no (ev_le_no (ev_le_no ev_le_nil)))) (tX12_canSet_113 hR hT hC   hl0 hf)
    · have hf := ev_nf h5 hf
      refine ev_blk hX lkok_RX12 [(.aload_n 0, 1, 0, 0, 0), (.iload_n 3, 1, 0, 0, 0), (.iconst 0, 1, 0, 0, 0), (.iload_n 1, 1, 0, 0, 0), (.iconst 1, 1, 0, 0, 1)] (by decide +kernel) (g := true) (lv' := [some (.ref l0), some (.int l1), some (.int l2), some (.int l3)]) (st' := [.int (1 : Int32), .int l1, .int (0 : Int32), .int l3, .ref l0]) (D' := D4) (pc' := 44) rfl (rfl) rfl ?_
      refine ev_ic_ne hX (off := 8) 52 (by decide +kernel) (by decide) (fun h12 => ?_) (fun h12 => ?_)
      · have hf := ev_nf h12 hf
        refine ev_blk hX lkok_RX12 [(.iload_n 1, 1, 0, 0, 0), (.iconst 2, 1, 0, 0, 2)] (by decide +kernel) (g := true) (lv' := [some (.ref l0), some (.int l1), some (.int l2), some (.int l3)]) (st' := [.int (2 : Int32), .int l1, .int (0 : Int32), .int l3, .ref l0]) (D' := D4) (pc' := 54) rfl (rfl) rfl ?_
        refine ev_ic_ne hX (off := 8) 62 (by decide +kernel) (by decide) (fun h13 => ?_) (fun h13 => ?_)
        · have hf := ev_nf h13 hf
          refine ev_blk hX lkok_RX12 [(.sipush 9999, 3, 0, 0, 9999)] (by decide +kernel) (g := true) (lv' := [some (.ref l0), some (.int l1), some (.int l2), some (.int l3)]) (st' := [.int (9999 : Int32), .int (0 : Int32), .int l3, .ref l0]) (D' := D4) (pc' := 65) rfl (rfl) rfl ?_
          obtain ⟨v14, D14, hc14, hf⟩ := ev_bd_s hf
          refine ev_callV hX YX12_isIn ml_RX12_150 (mX12_isIn hT hl0 hc14) (vs := [.int l3, .int (0 : Int32), .int (9999 : Int32)]) (st := []) (by decide) 12 hl0 rfl rfl rfl (by decide +kernel) hC ?_
          show F S D14 68 [some (.ref l0), some (.int l1), some (.int l2), some (.int l3)] [.int v14]
          obtain ⟨hz, hf⟩ := ev_gd_s hf
          exact ev_zret hR ev_sm.rf (ev_z01 hz) (Option.some.inj hf) hC (by decide +kernel)
        · have hf := ev_it h13 hf
          refine ev_blk hX lkok_RX12 [(.bipush 9, 2, 0, 0, 9)] (by decide +kernel) (g := true) (lv' := [some (.ref l0), some (.int l1), some (.int l2), some (.int l3)]) (st' := [.int (9 : Int32), .int (0 : Int32), .int l3, .ref l0]) (D' := D4) (pc' := 59) rfl (rfl) rfl ?_
          refine ev_goto hX (off := 6) 65 (by decide +kernel) (by decide) ?_
          obtain ⟨v15, D15, hc15, hf⟩ := ev_bd_s hf
          refine ev_callV hX YX12_isIn ml_RX12_150 (mX12_isIn hT hl0 hc15) (vs := [.int l3, .int (0 : Int32), .int (9 : Int32)]) (st := []) (by decide) 12 hl0 rfl rfl rfl (by decide +kernel) hC ?_
          show F S D15 68 [some (.ref l0), some (.int l1), some (.int l2), some (.int l3)] [.int v15]
          obtain ⟨hz, hf⟩ := ev_gd_s hf
          exact ev_zret hR ev_sm.rf (ev_z01 hz) (Option.some.inj hf) hC (by decide +kernel)
      · have hf := ev_it h12 hf
        refine ev_blk hX lkok_RX12 [(.bipush 99, 2, 0, 0, 99)] (by decide +kernel) (g := true) (lv' := [some (.ref l0), some (.int l1), some (.int l2), some (.int l3)]) (st' := [.int (99 : Int32), .int (0 : Int32), .int l3, .ref l0]) (D' := D4) (pc' := 49) rfl (rfl) rfl ?_
        refine ev_goto hX (off := 16) 65 (by decide +kernel) (by decide) ?_
        obtain ⟨v16, D16, hc16, hf⟩ := ev_bd_s hf
        refine ev_callV hX YX12_isIn ml_RX12_150 (mX12_isIn hT hl0 hc16) (vs := [.int l3, .int (0 : Int32), .int (99 : Int32)]) (st := []) (by decide) 12 hl0 rfl rfl rfl (by decide +kernel) hC ?_
        show F S D16 68 [some (.ref l0), some (.int l1), some (.int l2), some (.int l3)] [.int v16]
        obtain ⟨hz, hf⟩ := ev_gd_s hf
        exact ev_zret hR ev_sm.rf (ev_z01 hz) (Option.some.inj hf) hC (by decide +kernel)
  · have hf := ev_it h3 hf
    refine ev_blk hX lkok_RX12 [(.aload_n 0, 1, 0, 0, 0), (.iload_n 2, 1, 0, 0, 0)] (by decide +kernel) (g := true) (lv' := [some (.ref l0), some (.int l1), some (.int l2), some (.int l3)]) (st' := [.int l2, .ref l0]) (D' := D) (pc' := 6) rfl (rfl) rfl ?_
    obtain ⟨v17, D17, hc17, hf⟩ := ev_bd_s hf
    refine ev_callV hX YX12_isBell ml_RX12_147 (mX12_isBell hT hl0 hc17) (vs := [.int l2]) (st := []) (by decide) 12 hl0 rfl rfl rfl (by decide +kernel) hC ?_
    show F S D17 9 [some (.ref l0), some (.int l1), some (.int l2), some (.int l3)] [.int v17]
    refine ev_if_eq hX (off := 18) 27 (by decide +kernel) (by decide) (fun h18 => ?_) (fun h18 => ?_)
    · have hf := ev_it h18 hf
      refine ev_blk hX lkok_RX12 [(.iconst 0, 1, 0, 0, 0)] (by decide +kernel) (g := true) (lv' := [some (.ref l0), some (.int l1), some (.int l2), some (.int l3)]) (st' := [.int (0 : Int32)]) (D' := D17) (pc' := 28) rfl (rfl) rfl ?_
      exact ev_zret hR ev_sm.rf (Or.inl rfl) (Option.some.inj hf) hC (by decide +kernel)
    · have hf := ev_nf h18 hf
      refine ev_blk hX lkok_RX12 [(.aload_n 0, 1, 0, 0, 0), (.iload_n 3, 1, 0, 0, 0), (.iconst 1, 1, 0, 0, 1), (.bipush 99, 2, 0, 0, 99)] (by decide +kernel) (g := true) (lv' := [some (.ref l0), some (.int l1), some (.int l2), some (.int l3)]) (st' := [.int (99 : Int32), .int (1 : Int32), .int l3, .ref l0]) (D' := D17) (pc' := 17) rfl (rfl) rfl ?_
      obtain ⟨v19, D19, hc19, hf⟩ := ev_bd_s hf
      refine ev_callV hX YX12_isIn ml_RX12_150 (mX12_isIn hT hl0 hc19) (vs := [.int l3, .int (1 : Int32), .int (99 : Int32)]) (st := []) (by decide) 12 hl0 rfl rfl rfl (by decide +kernel) hC ?_
      show F S D19 20 [some (.ref l0), some (.int l1), some (.int l2), some (.int l3)] [.int v19]
      refine ev_if_eq hX (off := 7) 27 (by decide +kernel) (by decide) (fun h20 => ?_) (fun h20 => ?_)
      · have hf := ev_it h20 hf
        refine ev_blk hX lkok_RX12 [(.iconst 0, 1, 0, 0, 0)] (by decide +kernel) (g := true) (lv' := [some (.ref l0), some (.int l1), some (.int l2), some (.int l3)]) (st' := [.int (0 : Int32)]) (D' := D19) (pc' := 28) rfl (rfl) rfl ?_
        exact ev_zret hR ev_sm.rf (Or.inl rfl) (Option.some.inj hf) hC (by decide +kernel)
      · have hf := ev_nf h20 hf
        refine ev_blk hX lkok_RX12 [(.iconst 1, 1, 0, 0, 1)] (by decide +kernel) (g := true) (lv' := [some (.ref l0), some (.int l1), some (.int l2), some (.int l3)]) (st' := [.int (1 : Int32)]) (D' := D19) (pc' := 24) rfl (rfl) rfl ?_
        refine ev_goto hX (off := 4) 28 (by decide +kernel) (by decide) ?_
        exact ev_zret hR ev_sm.rf (Or.inr rfl) (Option.some.inj hf) hC (by decide +kernel)
theorem mX12_canSet {S : ev_S} {fu : Nat} {r : Int32 × ev_D} (hT : ev_Ty S) {l0 : Nat} {l1 : Int32} {l2 : Int32} {l3 : Int32} {D : ev_D} (hl0 : sK S l0 = 15) (hf : fX12_canSet (sL S) (sE S) fu l0 l1 l2 l3 D = some r) : ev_M 1 0 0 yX12_canSet cX12_canSet 4 (some .boolean) [.ref l0, .int l1, .int l2, .int l3] S D S r :=
  ev_met (ini := false) (plainFor_of_name (by decide)) (fun h => by cases h) rfl (Nat.le_of_ble_eq_true rfl) (fun F hR => tX12_canSet (S := ev_z S) hR hT ⟨Nat.le_refl 0, Nat.le_refl 0⟩ hl0 hf)
set_option maxHeartbeats 4000000 in
set_option maxRecDepth 100000 in
theorem tX12_set_93 {S : ev_S} {fu : Nat} {r : Int32 × ev_D} {F : ev_Fr} (hR : ev_R RX12 cX12_set 4 2 0 0 false (some .boolean) S r F) (hT : ev_Ty S) (hC : sC S ≤ 0 ∧ sA S ≤ 0) {l0 : Nat} {l1 : Int32} {l2 : Int32} {l3 : Int32} {D : ev_D} (hl0 : sK S l0 = 15) (hf : fX12_set_93 (sL S) (sE S) fu l0 l1 l2 l3 D = some r) : F S D 93 [some (.ref l0), some (.int l1), some (.int l2), some (.int l3)] [] := by
  have hX := hR.X
  unfold fX12_set_93 at hf
  refine ev_blk hX lkok_RX12 [(.iload_n 1, 1, 0, 0, 0), (.bipush 6, 2, 0, 0, 6)] (by decide +kernel) (g := true) (lv' := [some (.ref l0), some (.int l1), some (.int l2), some (.int l3)]) (st' := [.int (6 : Int32), .int l1]) (D' := D) (pc' := 96) rfl (rfl) rfl ?_
  refine ev_ic_ne hX (off := 13) 109 (by decide +kernel) (by decide) (fun h1 => ?_) (fun h1 => ?_)
  · have hf := ev_nf h1 hf
    refine ev_blk hX lkok_RX12 [(.aload_n 0, 1, 0, 0, 0), (.iconst 0, 1, 0, 0, 0), (.putfield 131, 3, 12, 3, 0), (.iconst 1, 1, 0, 0, 1)] (by decide +kernel) (g := (sK S l0 == 15) && (true)) (lv' := [some (.ref l0), some (.int l1), some (.int l2), some (.int l3)]) (st' := [.int (1 : Int32)]) (D' := (ev_up D l0 3 (0 : Int32))) (pc' := 115) rfl (ev_gk hl0 (rfl)) rfl ?_
    exact ev_zret hR ev_sm.rf (Or.inr rfl) (Option.some.inj hf) hC (by decide +kernel)
  · have hf := ev_it h1 hf
    obtain ⟨hg2, hf⟩ := ev_gd_s hf
    refine ev_blk hX lkok_RX12 [(.aload_n 0, 1, 0, 0, 0), (.getfield 7, 3, 12, 1, 0), (.bipush 24, 2, 0, 0, 24), (.iload_n 2, 1, 0, 0, 0), (.iadd, 1, 0, 0, 0), (.iload_n 3, 1, 0, 0, 0), (.iastore, 1, 0, 0, 0), (.aload_n 0, 1, 0, 0, 0), (.iconst 0, 1, 0, 0, 0), (.putfield 131, 3, 12, 3, 0), (.iconst 1, 1, 0, 0, 1)] (by decide +kernel) (g := (sK S l0 == 15) && ((sK S ((sE S) l0 1) == 1 && ev_in ((24 : Int32) + l2) ((sL S) ((sE S) l0 1))) && ((sK S l0 == 15) && (true)))) (lv' := [some (.ref l0), some (.int l1), some (.int l2), some (.int l3)]) (st' := [.int (1 : Int32)]) (D' := (ev_up (ev_up D ((sE S) l0 1) (((24 : Int32) + l2)).toNatClampNeg l3) l0 3 (0 : Int32))) (pc' := 115) rfl (ev_gk hl0 (ev_gi (ev_tyk hT hl0 rfl rfl) hg2 (ev_gk hl0 (rfl)))) rfl ?_
    exact ev_zret hR ev_sm.rf (Or.inr rfl) (Option.some.inj hf) hC (by decide +kernel)
set_option maxHeartbeats 4000000 in
set_option maxRecDepth 100000 in
theorem tX12_set_78 {S : ev_S} {fu : Nat} {r : Int32 × ev_D} {F : ev_Fr} (hR : ev_R RX12 cX12_set 4 2 0 0 false (some .boolean) S r F) (hT : ev_Ty S) (hC : sC S ≤ 0 ∧ sA S ≤ 0) {l0 : Nat} {l1 : Int32} {l2 : Int32} {l3 : Int32} {D : ev_D} (hl0 : sK S l0 = 15) (hf : fX12_set_78 (sL S) (sE S) fu l0 l1 l2 l3 D = some r) : F S D 78 [some (.ref l0), some (.int l1), some (.int l2), some (.int l3)] [] := by
  have hX := hR.X
  unfold fX12_set_78 at hf
  refine ev_blk hX lkok_RX12 [(.iload_n 1, 1, 0, 0, 0), (.iconst 5, 1, 0, 0, 5)] (by decide +kernel) (g := true) (lv' := [some (.ref l0), some (.int l1), some (.int l2), some (.int l3)]) (st' := [.int (5 : Int32), .int l1]) (D' := D) (pc' := 80) rfl (rfl) rfl ?_
  refine ev_ic_ne hX (off := 13) 93 (by decide +kernel) (by decide) (fun h3 => ?_) (fun h3 => ?_)
  · have hf := ev_nf h3 hf
    exact ev_weak hX (ev_le_eq (ev_le_eq (ev_le_eq (ev_le_eq ev_le_nil)))) (tX12_set_93 hR hT hC   hl0 hf)
  · have hf := ev_it h3 hf
    obtain ⟨hg4, hf⟩ := ev_gd_s hf
    refine ev_blk hX lkok_RX12 [(.aload_n 0, 1, 0, 0, 0), (.getfield 7, 3, 12, 1, 0), (.bipush 14, 2, 0, 0, 14), (.iload_n 2, 1, 0, 0, 0), (.iadd, 1, 0, 0, 0), (.iload_n 3, 1, 0, 0, 0), (.iastore, 1, 0, 0, 0)] (by decide +kernel) (g := (sK S l0 == 15) && ((sK S ((sE S) l0 1) == 1 && ev_in ((14 : Int32) + l2) ((sL S) ((sE S) l0 1))) && (true))) (lv' := [some (.ref l0), some (.int l1), some (.int l2), some (.int l3)]) (st' := []) (D' := (ev_up D ((sE S) l0 1) (((14 : Int32) + l2)).toNatClampNeg l3)) (pc' := 93) rfl (ev_gk hl0 (ev_gi (ev_tyk hT hl0 rfl rfl) hg4 (rfl))) rfl ?_
    exact ev_weak hX (ev_le_eq (ev_le_eq (ev_le_eq (ev_le_eq ev_le_nil)))) (tX12_set_93 hR hT hC   hl0 hf)
set_option maxHeartbeats 4000000 in
set_option maxRecDepth 100000 in
theorem tX12_set_66 {S : ev_S} {fu : Nat} {r : Int32 × ev_D} {F : ev_Fr} (hR : ev_R RX12 cX12_set 4 2 0 0 false (some .boolean) S r F) (hT : ev_Ty S) (hC : sC S ≤ 0 ∧ sA S ≤ 0) {l0 : Nat} {l1 : Int32} {l2 : Int32} {l3 : Int32} {D : ev_D} (hl0 : sK S l0 = 15) (hf : fX12_set_66 (sL S) (sE S) fu l0 l1 l2 l3 D = some r) : F S D 66 [some (.ref l0), some (.int l1), some (.int l2), some (.int l3)] [] := by
  have hX := hR.X
  unfold fX12_set_66 at hf
  refine ev_blk hX lkok_RX12 [(.iload_n 1, 1, 0, 0, 0), (.iconst 4, 1, 0, 0, 4)] (by decide +kernel) (g := true) (lv' := [some (.ref l0), some (.int l1), some (.int l2), some (.int l3)]) (st' := [.int (4 : Int32), .int l1]) (D' := D) (pc' := 68) rfl (rfl) rfl ?_
  refine ev_ic_ne hX (off := 10) 78 (by decide +kernel) (by decide) (fun h5 => ?_) (fun h5 => ?_)
  · have hf := ev_nf h5 hf
    exact ev_weak hX (ev_le_eq (ev_le_eq (ev_le_eq (ev_le_eq ev_le_nil)))) (tX12_set_78 hR hT hC   hl0 hf)
  · have hf := ev_it h5 hf
    obtain ⟨hg6, hf⟩ := ev_gd_s hf
    refine ev_blk hX lkok_RX12 [(.aload_n 0, 1, 0, 0, 0), (.getfield 22, 3, 12, 8, 0), (.iload_n 2, 1, 0, 0, 0), (.iload_n 3, 1, 0, 0, 0), (.iastore, 1, 0, 0, 0)] (by decide +kernel) (g := (sK S l0 == 15) && ((sK S ((sE S) l0 8) == 1 && ev_in l2 ((sL S) ((sE S) l0 8))) && (true))) (lv' := [some (.ref l0), some (.int l1), some (.int l2), some (.int l3)]) (st' := []) (D' := (ev_up D ((sE S) l0 8) (l2).toNatClampNeg l3)) (pc' := 78) rfl (ev_gk hl0 (ev_gi (ev_tyk hT hl0 rfl rfl) hg6 (rfl))) rfl ?_
    exact ev_weak hX (ev_le_eq (ev_le_eq (ev_le_eq (ev_le_eq ev_le_nil)))) (tX12_set_78 hR hT hC   hl0 hf)
set_option maxHeartbeats 4000000 in
set_option maxRecDepth 100000 in
theorem tX12_set_54 {S : ev_S} {fu : Nat} {r : Int32 × ev_D} {F : ev_Fr} (hR : ev_R RX12 cX12_set 4 2 0 0 false (some .boolean) S r F) (hT : ev_Ty S) (hC : sC S ≤ 0 ∧ sA S ≤ 0) {l0 : Nat} {l1 : Int32} {l2 : Int32} {l3 : Int32} {D : ev_D} (hl0 : sK S l0 = 15) (hf : fX12_set_54 (sL S) (sE S) fu l0 l1 l2 l3 D = some r) : F S D 54 [some (.ref l0), some (.int l1), some (.int l2), some (.int l3)] [] := by
  have hX := hR.X
  unfold fX12_set_54 at hf
  refine ev_blk hX lkok_RX12 [(.iload_n 1, 1, 0, 0, 0), (.iconst 3, 1, 0, 0, 3)] (by decide +kernel) (g := true) (lv' := [some (.ref l0), some (.int l1), some (.int l2), some (.int l3)]) (st' := [.int (3 : Int32), .int l1]) (D' := D) (pc' := 56) rfl (rfl) rfl ?_
  refine ev_ic_ne hX (off := 10) 66 (by decide +kernel) (by decide) (fun h7 => ?_) (fun h7 => ?_)
  · have hf := ev_nf h7 hf
    exact ev_weak hX (ev_le_eq (ev_le_eq (ev_le_eq (ev_le_eq ev_le_nil)))) (tX12_set_66 hR hT hC   hl0 hf)
  · have hf := ev_it h7 hf
    obtain ⟨hg8, hf⟩ := ev_gd_s hf
    refine ev_blk hX lkok_RX12 [(.aload_n 0, 1, 0, 0, 0), (.getfield 7, 3, 12, 1, 0), (.iconst 5, 1, 0, 0, 5), (.iload_n 3, 1, 0, 0, 0), (.iastore, 1, 0, 0, 0)] (by decide +kernel) (g := (sK S l0 == 15) && ((sK S ((sE S) l0 1) == 1 && ev_in (5 : Int32) ((sL S) ((sE S) l0 1))) && (true))) (lv' := [some (.ref l0), some (.int l1), some (.int l2), some (.int l3)]) (st' := []) (D' := (ev_up D ((sE S) l0 1) ((5 : Int32)).toNatClampNeg l3)) (pc' := 66) rfl (ev_gk hl0 (ev_gi (ev_tyk hT hl0 rfl rfl) hg8 (rfl))) rfl ?_
    exact ev_weak hX (ev_le_eq (ev_le_eq (ev_le_eq (ev_le_eq ev_le_nil)))) (tX12_set_66 hR hT hC   hl0 hf)
set_option maxHeartbeats 4000000 in
set_option maxRecDepth 100000 in
theorem tX12_set_42 {S : ev_S} {fu : Nat} {r : Int32 × ev_D} {F : ev_Fr} (hR : ev_R RX12 cX12_set 4 2 0 0 false (some .boolean) S r F) (hT : ev_Ty S) (hC : sC S ≤ 0 ∧ sA S ≤ 0) {l0 : Nat} {l1 : Int32} {l2 : Int32} {l3 : Int32} {D : ev_D} (hl0 : sK S l0 = 15) (hf : fX12_set_42 (sL S) (sE S) fu l0 l1 l2 l3 D = some r) : F S D 42 [some (.ref l0), some (.int l1), some (.int l2), some (.int l3)] [] := by
  have hX := hR.X
  unfold fX12_set_42 at hf
  refine ev_blk hX lkok_RX12 [(.iload_n 1, 1, 0, 0, 0), (.iconst 2, 1, 0, 0, 2)] (by decide +kernel) (g := true) (lv' := [some (.ref l0), some (.int l1), some (.int l2), some (.int l3)]) (st' := [.int (2 : Int32), .int l1]) (D' := D) (pc' := 44) rfl (rfl) rfl ?_
  refine ev_ic_ne hX (off := 10) 54 (by decide +kernel) (by decide) (fun h9 => ?_) (fun h9 => ?_)
  · have hf := ev_nf h9 hf
    exact ev_weak hX (ev_le_eq (ev_le_eq (ev_le_eq (ev_le_eq ev_le_nil)))) (tX12_set_54 hR hT hC   hl0 hf)
  · have hf := ev_it h9 hf
    obtain ⟨hg10, hf⟩ := ev_gd_s hf
    refine ev_blk hX lkok_RX12 [(.aload_n 0, 1, 0, 0, 0), (.getfield 7, 3, 12, 1, 0), (.iconst 4, 1, 0, 0, 4), (.iload_n 3, 1, 0, 0, 0), (.iastore, 1, 0, 0, 0)] (by decide +kernel) (g := (sK S l0 == 15) && ((sK S ((sE S) l0 1) == 1 && ev_in (4 : Int32) ((sL S) ((sE S) l0 1))) && (true))) (lv' := [some (.ref l0), some (.int l1), some (.int l2), some (.int l3)]) (st' := []) (D' := (ev_up D ((sE S) l0 1) ((4 : Int32)).toNatClampNeg l3)) (pc' := 54) rfl (ev_gk hl0 (ev_gi (ev_tyk hT hl0 rfl rfl) hg10 (rfl))) rfl ?_
    exact ev_weak hX (ev_le_eq (ev_le_eq (ev_le_eq (ev_le_eq ev_le_nil)))) (tX12_set_54 hR hT hC   hl0 hf)
set_option maxHeartbeats 4000000 in
set_option maxRecDepth 100000 in
theorem tX12_set_30 {S : ev_S} {fu : Nat} {r : Int32 × ev_D} {F : ev_Fr} (hR : ev_R RX12 cX12_set 4 2 0 0 false (some .boolean) S r F) (hT : ev_Ty S) (hC : sC S ≤ 0 ∧ sA S ≤ 0) {l0 : Nat} {l1 : Int32} {l2 : Int32} {l3 : Int32} {D : ev_D} (hl0 : sK S l0 = 15) (hf : fX12_set_30 (sL S) (sE S) fu l0 l1 l2 l3 D = some r) : F S D 30 [some (.ref l0), some (.int l1), some (.int l2), some (.int l3)] [] := by
  have hX := hR.X
  unfold fX12_set_30 at hf
  refine ev_blk hX lkok_RX12 [(.iload_n 1, 1, 0, 0, 0), (.iconst 1, 1, 0, 0, 1)] (by decide +kernel) (g := true) (lv' := [some (.ref l0), some (.int l1), some (.int l2), some (.int l3)]) (st' := [.int (1 : Int32), .int l1]) (D' := D) (pc' := 32) rfl (rfl) rfl ?_
  refine ev_ic_ne hX (off := 10) 42 (by decide +kernel) (by decide) (fun h11 => ?_) (fun h11 => ?_)
  · have hf := ev_nf h11 hf
    exact ev_weak hX (ev_le_eq (ev_le_eq (ev_le_eq (ev_le_eq ev_le_nil)))) (tX12_set_42 hR hT hC   hl0 hf)
  · have hf := ev_it h11 hf
    obtain ⟨hg12, hf⟩ := ev_gd_s hf
    refine ev_blk hX lkok_RX12 [(.aload_n 0, 1, 0, 0, 0), (.getfield 7, 3, 12, 1, 0), (.iconst 3, 1, 0, 0, 3), (.iload_n 3, 1, 0, 0, 0), (.iastore, 1, 0, 0, 0)] (by decide +kernel) (g := (sK S l0 == 15) && ((sK S ((sE S) l0 1) == 1 && ev_in (3 : Int32) ((sL S) ((sE S) l0 1))) && (true))) (lv' := [some (.ref l0), some (.int l1), some (.int l2), some (.int l3)]) (st' := []) (D' := (ev_up D ((sE S) l0 1) ((3 : Int32)).toNatClampNeg l3)) (pc' := 42) rfl (ev_gk hl0 (ev_gi (ev_tyk hT hl0 rfl rfl) hg12 (rfl))) rfl ?_
    exact ev_weak hX (ev_le_eq (ev_le_eq (ev_le_eq (ev_le_eq ev_le_nil)))) (tX12_set_42 hR hT hC   hl0 hf)
set_option maxHeartbeats 4000000 in
set_option maxRecDepth 100000 in
theorem tX12_set {S : ev_S} {fu : Nat} {r : Int32 × ev_D} {F : ev_Fr} (hR : ev_R RX12 cX12_set 4 2 0 0 false (some .boolean) S r F) (hT : ev_Ty S) (hC : sC S ≤ 0 ∧ sA S ≤ 0) {l0 : Nat} {l1 : Int32} {l2 : Int32} {l3 : Int32} {D : ev_D} (hl0 : sK S l0 = 15) (hf : fX12_set (sL S) (sE S) fu l0 l1 l2 l3 D = some r) : F S D 0 [some (.ref l0), some (.int l1), some (.int l2), some (.int l3)] [] := by
  have hX := hR.X
  unfold fX12_set at hf
  refine ev_blk hX lkok_RX12 [(.aload_n 0, 1, 0, 0, 0), (.iconst 0, 1, 0, 0, 0), (.putfield 128, 3, 12, 0, 0), (.aload_n 0, 1, 0, 0, 0), (.iload_n 1, 1, 0, 0, 0), (.iload_n 2, 1, 0, 0, 0), (.iload_n 3, 1, 0, 0, 0)] (by decide +kernel) (g := (sK S l0 == 15) && (true)) (lv' := [some (.ref l0), some (.int l1), some (.int l2), some (.int l3)]) (st' := [.int l3, .int l2, .int l1, .ref l0]) (D' := (ev_up D l0 0 (0 : Int32))) (pc' := 9) rfl (ev_gk hl0 (rfl)) rfl ?_
  obtain ⟨v13, D13, hc13, hf⟩ := ev_bd_s hf
  refine ev_callV hX YX12_canSet ml_RX12_157 (mX12_canSet hT hl0 hc13) (vs := [.int l1, .int l2, .int l3]) (st := []) (by decide) 12 hl0 rfl rfl rfl (by decide +kernel) hC ?_
  show F S D13 12 [some (.ref l0), some (.int l1), some (.int l2), some (.int l3)] [.int v13]
  refine ev_if_ne hX (off := 5) 17 (by decide +kernel) (by decide) (fun h14 => ?_) (fun h14 => ?_)
  · have hf := ev_nf h14 hf
    refine ev_blk hX lkok_RX12 [(.iload_n 1, 1, 0, 0, 0)] (by decide +kernel) (g := true) (lv' := [some (.ref l0), some (.int l1), some (.int l2), some (.int l3)]) (st' := [.int l1]) (D' := D13) (pc' := 18) rfl (rfl) rfl ?_
    refine ev_if_ne hX (off := 12) 30 (by decide +kernel) (by decide) (fun h15 => ?_) (fun h15 => ?_)
    · have hf := ev_nf h15 hf
      exact ev_weak hX (ev_le_eq (ev_le_eq (ev_le_eq (ev_le_eq ev_le_nil)))) (tX12_set_30 hR hT hC   hl0 hf)
    · have hf := ev_it h15 hf
      obtain ⟨hg16, hf⟩ := ev_gd_s hf
      refine ev_blk hX lkok_RX12 [(.aload_n 0, 1, 0, 0, 0), (.getfield 19, 3, 12, 6, 0), (.iload_n 2, 1, 0, 0, 0), (.iload_n 3, 1, 0, 0, 0), (.iconst 1, 1, 0, 0, 1), (.isub, 1, 0, 0, 0), (.iastore, 1, 0, 0, 0)] (by decide +kernel) (g := (sK S l0 == 15) && ((sK S ((sE S) l0 6) == 1 && ev_in l2 ((sL S) ((sE S) l0 6))) && (true))) (lv' := [some (.ref l0), some (.int l1), some (.int l2), some (.int l3)]) (st' := []) (D' := (ev_up D13 ((sE S) l0 6) (l2).toNatClampNeg (l3 - (1 : Int32)))) (pc' := 30) rfl (ev_gk hl0 (ev_gi (ev_tyk hT hl0 rfl rfl) hg16 (rfl))) rfl ?_
      exact ev_weak hX (ev_le_eq (ev_le_eq (ev_le_eq (ev_le_eq ev_le_nil)))) (tX12_set_30 hR hT hC   hl0 hf)
  · have hf := ev_it h14 hf
    refine ev_blk hX lkok_RX12 [(.iconst 0, 1, 0, 0, 0)] (by decide +kernel) (g := true) (lv' := [some (.ref l0), some (.int l1), some (.int l2), some (.int l3)]) (st' := [.int (0 : Int32)]) (D' := D13) (pc' := 16) rfl (rfl) rfl ?_
    exact ev_zret hR ev_sm.rf (Or.inl rfl) (Option.some.inj hf) hC (by decide +kernel)
theorem mX12_set {S : ev_S} {fu : Nat} {r : Int32 × ev_D} (hT : ev_Ty S) {l0 : Nat} {l1 : Int32} {l2 : Int32} {l3 : Int32} {D : ev_D} (hl0 : sK S l0 = 15) (hf : fX12_set (sL S) (sE S) fu l0 l1 l2 l3 D = some r) : ev_M 2 0 0 yX12_set cX12_set 4 (some .boolean) [.ref l0, .int l1, .int l2, .int l3] S D S r :=
  ev_met (ini := false) (plainFor_of_name (by decide)) (fun h => by cases h) rfl (Nat.le_of_ble_eq_true rfl) (fun F hR => tX12_set (S := ev_z S) hR hT ⟨Nat.le_refl 0, Nat.le_refl 0⟩ hl0 hf)
set_option maxHeartbeats 4000000 in
set_option maxRecDepth 100000 in
theorem tX12_types_3 {S : ev_S} {fu : Nat} {r : Int32 × ev_D} {F : ev_Fr} (hR : ev_R RX12 cX12_types 3 0 0 0 false none S r F) (hT : ev_Ty S) (hC : sC S ≤ 0 ∧ sA S ≤ 0) : ∀ (n : Nat) (l0 : Nat) (l1 : Int32) (l2 : Int32) (D : ev_D), sK S l0 = 15 → fX12_types_3 (sL S) (sE S) fu n l0 l1 l2 D = some r → F S D 3 [some (.ref l0), some (.int l1), some (.int l2)] [] := by
  have hX := hR.X
  intro n
  induction n with
  | zero =>
    intro l0 l1 l2 D hl0 hf
    rw [fX12_types_3] at hf
    cases hf
  | succ n ih =>
    intro l0 l1 l2 D hl0 hf
    rw [fX12_types_3] at hf
    refine ev_blk hX lkok_RX12 [(.iload_n 2, 1, 0, 0, 0)] (by decide +kernel) (g := true) (lv' := [some (.ref l0), some (.int l1), some (.int l2)]) (st' := [.int l2]) (D' := D) (pc' := 4) rfl (rfl) rfl ?_
    refine ev_if_lt hX (off := 35) 39 (by decide +kernel) (by decide) (fun h1 => ?_) (fun h1 => ?_)
    · have hf := ev_it h1 hf
      exact ev_vret hR ev_sm.rf (Option.some.inj hf) hC (by decide +kernel)
    · have hf := ev_nf h1 hf
      obtain ⟨hg2, hf⟩ := ev_gd_s hf
      refine ev_blk hX lkok_RX12 [(.aload_n 0, 1, 0, 0, 0), (.getfield 34, 3, 12, 12, 0), (.aload_n 0, 1, 0, 0, 0), (.getfield 160, 3, 12, 13, 0), (.iload_n 1, 1, 0, 0, 0), (.iload_n 2, 1, 0, 0, 0), (.ishr, 1, 0, 0, 0), (.sipush 255, 3, 0, 0, 255), (.iand, 1, 0, 0, 0), (.iastore, 1, 0, 0, 0), (.aload_n 0, 1, 0, 0, 0), (.aload_n 0, 1, 0, 0, 0), (.getfield 160, 3, 12, 13, 0), (.iconst 1, 1, 0, 0, 1), (.iadd, 1, 0, 0, 0), (.putfield 160, 3, 12, 13, 0), (.iinc 2 (-8), 3, 0, 0, (-8))] (by decide +kernel) (g := (sK S l0 == 15) && ((sK S l0 == 15) && ((sK S ((sE S) l0 12) == 1 && ev_in (D l0 13) ((sL S) ((sE S) l0 12))) && ((sK S l0 == 15) && ((sK S l0 == 15) && (true)))))) (lv' := [some (.ref l0), some (.int l1), some (.int (l2 + (-8 : Int32)))]) (st' := []) (D' := (ev_up (ev_up D ((sE S) l0 12) ((D l0 13)).toNatClampNeg ((l1 >>> (l2 &&& 31)) &&& (255 : Int32))) l0 13 (((ev_up D ((sE S) l0 12) ((D l0 13)).toNatClampNeg ((l1 >>> (l2 &&& 31)) &&& (255 : Int32))) l0 13) + (1 : Int32)))) (pc' := 36) rfl (ev_gk hl0 (ev_gk hl0 (ev_gi (ev_tyk hT hl0 rfl rfl) hg2 (ev_gk hl0 (ev_gk hl0 (rfl)))))) rfl ?_
      refine ev_goto hX (off := (-33)) 3 (by decide +kernel) (by decide) ?_
      exact ev_weak hX (ev_le_eq (ev_le_eq (ev_le_eq ev_le_nil))) (ih _ _ _ _ hl0 hf)
set_option maxHeartbeats 4000000 in
set_option maxRecDepth 100000 in
theorem tX12_types {S : ev_S} {fu : Nat} {r : Int32 × ev_D} {F : ev_Fr} (hR : ev_R RX12 cX12_types 3 0 0 0 false none S r F) (hT : ev_Ty S) (hC : sC S ≤ 0 ∧ sA S ≤ 0) {l0 : Nat} {l1 : Int32} {D : ev_D} (hl0 : sK S l0 = 15) (hf : fX12_types (sL S) (sE S) fu l0 l1 D = some r) : F S D 0 [some (.ref l0), some (.int l1), none] [] := by
  have hX := hR.X
  unfold fX12_types at hf
  refine ev_blk hX lkok_RX12 [(.bipush 24, 2, 0, 0, 24), (.istore_n 2, 1, 0, 0, 0)] (by decide +kernel) (g := true) (lv' := [some (.ref l0), some (.int l1), some (.int (24 : Int32))]) (st' := []) (D' := D) (pc' := 3) rfl (rfl) rfl ?_
  exact ev_weak hX (ev_le_eq (ev_le_eq (ev_le_eq ev_le_nil))) (tX12_types_3 hR hT hC   fu _ _ _ _ hl0 hf)
theorem mX12_types {S : ev_S} {fu : Nat} {r : Int32 × ev_D} (hT : ev_Ty S) {l0 : Nat} {l1 : Int32} {D : ev_D} (hl0 : sK S l0 = 15) (hf : fX12_types (sL S) (sE S) fu l0 l1 D = some r) : ev_M 0 0 0 yX12_types cX12_types 3 none [.ref l0, .int l1] S D S r :=
  ev_met (ini := false) (plainFor_of_name (by decide)) (fun h => by cases h) rfl (Nat.le_of_ble_eq_true rfl) (fun F hR => tX12_types (S := ev_z S) hR hT ⟨Nat.le_refl 0, Nat.le_refl 0⟩ hl0 hf)
set_option maxHeartbeats 4000000 in
set_option maxRecDepth 100000 in
theorem tX12_feed {S : ev_S} {fu : Nat} {r : Int32 × ev_D} {F : ev_Fr} (hR : ev_R RX12 cX12_feed 6 1 0 0 false (some .int) S r F) (hT : ev_Ty S) (hC : sC S ≤ 0 ∧ sA S ≤ 0) {l0 : Nat} {l1 : Int32} {l2 : Int32} {l3 : Int32} {l4 : Int32} {l5 : Int32} {D : ev_D} (hl0 : sK S l0 = 15) (hf : fX12_feed (sL S) (sE S) fu l0 l1 l2 l3 l4 l5 D = some r) : F S D 0 [some (.ref l0), some (.int l1), some (.int l2), some (.int l3), some (.int l4), some (.int l5)] [] := by
  have hX := hR.X
  unfold fX12_feed at hf
  refine ev_blk hX lkok_RX12 [(.aload_n 0, 1, 0, 0, 0), (.iconst 0, 1, 0, 0, 0), (.putfield 128, 3, 12, 0, 0), (.aload_n 0, 1, 0, 0, 0), (.getfield 160, 3, 12, 13, 0), (.sipush 380, 3, 0, 0, 380)] (by decide +kernel) (g := (sK S l0 == 15) && ((sK S l0 == 15) && (true))) (lv' := [some (.ref l0), some (.int l1), some (.int l2), some (.int l3), some (.int l4), some (.int l5)]) (st' := [.int (380 : Int32), .int ((ev_up D l0 0 (0 : Int32)) l0 13)]) (D' := (ev_up D l0 0 (0 : Int32))) (pc' := 12) rfl (ev_gk hl0 (ev_gk hl0 (rfl))) rfl ?_
  refine ev_ic_le hX (off := 5) 17 (by decide +kernel) (by decide) (fun h1 => ?_) (fun h1 => ?_)
  · have hf := ev_it h1 hf
    refine ev_blk hX lkok_RX12 [(.aload_n 0, 1, 0, 0, 0), (.iload_n 1, 1, 0, 0, 0)] (by decide +kernel) (g := true) (lv' := [some (.ref l0), some (.int l1), some (.int l2), some (.int l3), some (.int l4), some (.int l5)]) (st' := [.int l1, .ref l0]) (D' := (ev_up D l0 0 (0 : Int32))) (pc' := 19) rfl (rfl) rfl ?_
    obtain ⟨v2, D2, hc2, hf⟩ := ev_bd_s hf
    refine ev_callV hX YX12_types ml_RX12_163 (mX12_types hT hl0 hc2) (vs := [.int l1]) (st := []) (by decide) 12 hl0 rfl rfl rfl (by decide +kernel) hC ?_
    show F S D2 22 [some (.ref l0), some (.int l1), some (.int l2), some (.int l3), some (.int l4), some (.int l5)] []
    refine ev_blk hX lkok_RX12 [(.aload_n 0, 1, 0, 0, 0), (.iload_n 2, 1, 0, 0, 0)] (by decide +kernel) (g := true) (lv' := [some (.ref l0), some (.int l1), some (.int l2), some (.int l3), some (.int l4), some (.int l5)]) (st' := [.int l2, .ref l0]) (D' := D2) (pc' := 24) rfl (rfl) rfl ?_
    obtain ⟨v3, D3, hc3, hf⟩ := ev_bd_s hf
    refine ev_callV hX YX12_types ml_RX12_163 (mX12_types hT hl0 hc3) (vs := [.int l2]) (st := []) (by decide) 12 hl0 rfl rfl rfl (by decide +kernel) hC ?_
    show F S D3 27 [some (.ref l0), some (.int l1), some (.int l2), some (.int l3), some (.int l4), some (.int l5)] []
    refine ev_blk hX lkok_RX12 [(.aload_n 0, 1, 0, 0, 0), (.iload_n 3, 1, 0, 0, 0)] (by decide +kernel) (g := true) (lv' := [some (.ref l0), some (.int l1), some (.int l2), some (.int l3), some (.int l4), some (.int l5)]) (st' := [.int l3, .ref l0]) (D' := D3) (pc' := 29) rfl (rfl) rfl ?_
    obtain ⟨v4, D4, hc4, hf⟩ := ev_bd_s hf
    refine ev_callV hX YX12_types ml_RX12_163 (mX12_types hT hl0 hc4) (vs := [.int l3]) (st := []) (by decide) 12 hl0 rfl rfl rfl (by decide +kernel) hC ?_
    show F S D4 32 [some (.ref l0), some (.int l1), some (.int l2), some (.int l3), some (.int l4), some (.int l5)] []
    refine ev_blk hX lkok_RX12 [(.aload_n 0, 1, 0, 0, 0), (.iload 4, 2, 0, 0, 0)] (by decide +kernel) (g := true) (lv' := [some (.ref l0), some (.int l1), some (.int l2), some (.int l3), some (.int l4), some (.int l5)]) (st' := [.int l4, .ref l0]) (D' := D4) (pc' := 35) rfl (rfl) rfl ?_
    obtain ⟨v5, D5, hc5, hf⟩ := ev_bd_s hf
    refine ev_callV hX YX12_types ml_RX12_163 (mX12_types hT hl0 hc5) (vs := [.int l4]) (st := []) (by decide) 12 hl0 rfl rfl rfl (by decide +kernel) hC ?_
    show F S D5 38 [some (.ref l0), some (.int l1), some (.int l2), some (.int l3), some (.int l4), some (.int l5)] []
    refine ev_blk hX lkok_RX12 [(.aload_n 0, 1, 0, 0, 0), (.iload 5, 2, 0, 0, 0)] (by decide +kernel) (g := true) (lv' := [some (.ref l0), some (.int l1), some (.int l2), some (.int l3), some (.int l4), some (.int l5)]) (st' := [.int l5, .ref l0]) (D' := D5) (pc' := 41) rfl (rfl) rfl ?_
    obtain ⟨v6, D6, hc6, hf⟩ := ev_bd_s hf
    refine ev_callV hX YX12_types ml_RX12_163 (mX12_types hT hl0 hc6) (vs := [.int l5]) (st := []) (by decide) 12 hl0 rfl rfl rfl (by decide +kernel) hC ?_
    show F S D6 44 [some (.ref l0), some (.int l1), some (.int l2), some (.int l3), some (.int l4), some (.int l5)] []
    refine ev_blk hX lkok_RX12 [(.aload_n 0, 1, 0, 0, 0), (.getfield 160, 3, 12, 13, 0)] (by decide +kernel) (g := (sK S l0 == 15) && (true)) (lv' := [some (.ref l0), some (.int l1), some (.int l2), some (.int l3), some (.int l4), some (.int l5)]) (st' := [.int (D6 l0 13)]) (D' := D6) (pc' := 48) rfl (ev_gk hl0 (rfl)) rfl ?_
    exact ev_iret hR ev_sm.rf (Option.some.inj hf) hC (by decide +kernel)
  · have hf := ev_nf h1 hf
    refine ev_blk hX lkok_RX12 [(.iconst (-1), 1, 0, 0, (-1))] (by decide +kernel) (g := true) (lv' := [some (.ref l0), some (.int l1), some (.int l2), some (.int l3), some (.int l4), some (.int l5)]) (st' := [.int (-1 : Int32)]) (D' := (ev_up D l0 0 (0 : Int32))) (pc' := 16) rfl (rfl) rfl ?_
    exact ev_iret hR ev_sm.rf (Option.some.inj hf) hC (by decide +kernel)
theorem mX12_feed {S : ev_S} {fu : Nat} {r : Int32 × ev_D} (hT : ev_Ty S) {l0 : Nat} {l1 : Int32} {l2 : Int32} {l3 : Int32} {l4 : Int32} {l5 : Int32} {D : ev_D} (hl0 : sK S l0 = 15) (hf : fX12_feed (sL S) (sE S) fu l0 l1 l2 l3 l4 l5 D = some r) : ev_M 1 0 0 yX12_feed cX12_feed 6 (some .int) [.ref l0, .int l1, .int l2, .int l3, .int l4, .int l5] S D S r :=
  ev_met (ini := false) (plainFor_of_name (by decide)) (fun h => by cases h) rfl (Nat.le_of_ble_eq_true rfl) (fun F hR => tX12_feed (S := ev_z S) hR hT ⟨Nat.le_refl 0, Nat.le_refl 0⟩ hl0 hf)
set_option maxHeartbeats 4000000 in
set_option maxRecDepth 100000 in
theorem tX12_end {S : ev_S} {fu : Nat} {r : Int32 × ev_D} {F : ev_Fr} (hR : ev_R RX12 cX12_end 2 1 0 0 false (some .boolean) S r F) (hT : ev_Ty S) (hC : sC S ≤ 0 ∧ sA S ≤ 0) {l0 : Nat} {l1 : Int32} {D : ev_D} (hl0 : sK S l0 = 15) (hf : fX12_end (sL S) (sE S) fu l0 l1 D = some r) : F S D 0 [some (.ref l0), some (.int l1)] [] := by
  have hX := hR.X
  unfold fX12_end at hf
  refine ev_blk hX lkok_RX12 [(.aload_n 0, 1, 0, 0, 0), (.iconst 0, 1, 0, 0, 0), (.putfield 128, 3, 12, 0, 0), (.aload_n 0, 1, 0, 0, 0), (.iload_n 1, 1, 0, 0, 0), (.iconst 0, 1, 0, 0, 0), (.aload_n 0, 1, 0, 0, 0), (.getfield 160, 3, 12, 13, 0)] (by decide +kernel) (g := (sK S l0 == 15) && ((sK S l0 == 15) && (true))) (lv' := [some (.ref l0), some (.int l1)]) (st' := [.int ((ev_up D l0 0 (0 : Int32)) l0 13), .int (0 : Int32), .int l1, .ref l0]) (D' := (ev_up D l0 0 (0 : Int32))) (pc' := 12) rfl (ev_gk hl0 (ev_gk hl0 (rfl))) rfl ?_
  obtain ⟨v1, D1, hc1, hf⟩ := ev_bd_s hf
  refine ev_callV hX YX12_isIn ml_RX12_150 (mX12_isIn hT hl0 hc1) (vs := [.int l1, .int (0 : Int32), .int ((ev_up D l0 0 (0 : Int32)) l0 13)]) (st := []) (by decide) 12 hl0 rfl rfl rfl (by decide +kernel) hC ?_
  show F S D1 15 [some (.ref l0), some (.int l1)] [.int v1]
  refine ev_if_ne hX (off := 5) 20 (by decide +kernel) (by decide) (fun h2 => ?_) (fun h2 => ?_)
  · have hf := ev_nf h2 hf
    refine ev_blk hX lkok_RX12 [(.aload_n 0, 1, 0, 0, 0), (.iload_n 1, 1, 0, 0, 0), (.putfield 160, 3, 12, 13, 0), (.iconst 1, 1, 0, 0, 1)] (by decide +kernel) (g := (sK S l0 == 15) && (true)) (lv' := [some (.ref l0), some (.int l1)]) (st' := [.int (1 : Int32)]) (D' := (ev_up D1 l0 13 l1)) (pc' := 26) rfl (ev_gk hl0 (rfl)) rfl ?_
    exact ev_zret hR ev_sm.rf (Or.inr rfl) (Option.some.inj hf) hC (by decide +kernel)
  · have hf := ev_it h2 hf
    refine ev_blk hX lkok_RX12 [(.iconst 0, 1, 0, 0, 0)] (by decide +kernel) (g := true) (lv' := [some (.ref l0), some (.int l1)]) (st' := [.int (0 : Int32)]) (D' := D1) (pc' := 19) rfl (rfl) rfl ?_
    exact ev_zret hR ev_sm.rf (Or.inl rfl) (Option.some.inj hf) hC (by decide +kernel)
theorem mX12_end {S : ev_S} {fu : Nat} {r : Int32 × ev_D} (hT : ev_Ty S) {l0 : Nat} {l1 : Int32} {D : ev_D} (hl0 : sK S l0 = 15) (hf : fX12_end (sL S) (sE S) fu l0 l1 D = some r) : ev_M 1 0 0 yX12_end cX12_end 2 (some .boolean) [.ref l0, .int l1] S D S r :=
  ev_met (ini := false) (plainFor_of_name (by decide)) (fun h => by cases h) rfl (Nat.le_of_ble_eq_true rfl) (fun F hR => tX12_end (S := ev_z S) hR hT ⟨Nat.le_refl 0, Nat.le_refl 0⟩ hl0 hf)
set_option maxHeartbeats 4000000 in
set_option maxRecDepth 100000 in
theorem tX12_errs {S : ev_S} {fu : Nat} {r : Int32 × ev_D} {F : ev_Fr} (hR : ev_R RX12 cX12_errs 2 0 0 0 false (some .int) S r F) (hT : ev_Ty S) (hC : sC S ≤ 0 ∧ sA S ≤ 0) {l0 : Nat} {l1 : Int32} {D : ev_D} (hl0 : sK S l0 = 15) (hf : fX12_errs (sL S) (sE S) fu l0 l1 D = some r) : F S D 0 [some (.ref l0), some (.int l1)] [] := by
  have hX := hR.X
  unfold fX12_errs at hf
  refine ev_blk hX lkok_RX12 [(.aload_n 0, 1, 0, 0, 0), (.iload_n 1, 1, 0, 0, 0), (.putfield 196, 3, 12, 31, 0), (.aload_n 0, 1, 0, 0, 0), (.aload_n 0, 1, 0, 0, 0), (.getfield 174, 3, 12, 15, 0), (.putfield 199, 3, 12, 32, 0), (.iconst (-1), 1, 0, 0, (-1))] (by decide +kernel) (g := (sK S l0 == 15) && ((sK S l0 == 15) && ((sK S l0 == 15) && (true)))) (lv' := [some (.ref l0), some (.int l1)]) (st' := [.int (-1 : Int32)]) (D' := (ev_up (ev_up D l0 31 l1) l0 32 ((ev_up D l0 31 l1) l0 15))) (pc' := 14) rfl (ev_gk hl0 (ev_gk hl0 (ev_gk hl0 (rfl)))) rfl ?_
  exact ev_iret hR ev_sm.rf (Option.some.inj hf) hC (by decide +kernel)
theorem mX12_errs {S : ev_S} {fu : Nat} {r : Int32 × ev_D} (hT : ev_Ty S) {l0 : Nat} {l1 : Int32} {D : ev_D} (hl0 : sK S l0 = 15) (hf : fX12_errs (sL S) (sE S) fu l0 l1 D = some r) : ev_M 0 0 0 yX12_errs cX12_errs 2 (some .int) [.ref l0, .int l1] S D S r :=
  ev_met (ini := false) (plainFor_of_name (by decide)) (fun h => by cases h) rfl (Nat.le_of_ble_eq_true rfl) (fun F hR => tX12_errs (S := ev_z S) hR hT ⟨Nat.le_refl 0, Nat.le_refl 0⟩ hl0 hf)
set_option maxHeartbeats 4000000 in
set_option maxRecDepth 100000 in
theorem tX12_isWord {S : ev_S} {fu : Nat} {r : Int32 × ev_D} {F : ev_Fr} (hR : ev_R RX12 cX12_isWord 2 0 0 0 false (some .boolean) S r F) (hT : ev_Ty S) (hC : sC S ≤ 0 ∧ sA S ≤ 0) {l0 : Nat} {l1 : Int32} {D : ev_D} (hl0 : sK S l0 = 15) (hf : fX12_isWord (sL S) (sE S) fu l0 l1 D = some r) : F S D 0 [some (.ref l0), some (.int l1)] [] := by
  have hX := hR.X
  unfold fX12_isWord at hf
  refine ev_blk hX lkok_RX12 [(.aload_n 0, 1, 0, 0, 0), (.getfield 177, 3, 12, 16, 0), (.iconst 2, 1, 0, 0, 2)] (by decide +kernel) (g := (sK S l0 == 15) && (true)) (lv' := [some (.ref l0), some (.int l1)]) (st' := [.int (2 : Int32), .int (D l0 16)]) (D' := D) (pc' := 5) rfl (ev_gk hl0 (rfl)) rfl ?_
  refine ev_ic_ne hX (off := 15) 20 (by decide +kernel) (by decide) (fun h1 => ?_) (fun h1 => ?_)
  · have hf := ev_nf h1 hf
    refine ev_blk hX lkok_RX12 [(.iconst 0, 1, 0, 0, 0)] (by decide +kernel) (g := true) (lv' := [some (.ref l0), some (.int l1)]) (st' := [.int (0 : Int32)]) (D' := D) (pc' := 21) rfl (rfl) rfl ?_
    exact ev_zret hR ev_sm.rf (Or.inl rfl) (Option.some.inj hf) hC (by decide +kernel)
  · have hf := ev_it h1 hf
    refine ev_blk hX lkok_RX12 [(.aload_n 0, 1, 0, 0, 0), (.getfield 180, 3, 12, 17, 0), (.iload_n 1, 1, 0, 0, 0)] (by decide +kernel) (g := (sK S l0 == 15) && (true)) (lv' := [some (.ref l0), some (.int l1)]) (st' := [.int l1, .int (D l0 17)]) (D' := D) (pc' := 13) rfl (ev_gk hl0 (rfl)) rfl ?_
    refine ev_ic_ne hX (off := 7) 20 (by decide +kernel) (by decide) (fun h2 => ?_) (fun h2 => ?_)
    · have hf := ev_nf h2 hf
      refine ev_blk hX lkok_RX12 [(.iconst 0, 1, 0, 0, 0)] (by decide +kernel) (g := true) (lv' := [some (.ref l0), some (.int l1)]) (st' := [.int (0 : Int32)]) (D' := D) (pc' := 21) rfl (rfl) rfl ?_
      exact ev_zret hR ev_sm.rf (Or.inl rfl) (Option.some.inj hf) hC (by decide +kernel)
    · have hf := ev_it h2 hf
      refine ev_blk hX lkok_RX12 [(.iconst 1, 1, 0, 0, 1)] (by decide +kernel) (g := true) (lv' := [some (.ref l0), some (.int l1)]) (st' := [.int (1 : Int32)]) (D' := D) (pc' := 17) rfl (rfl) rfl ?_
      refine ev_goto hX (off := 4) 21 (by decide +kernel) (by decide) ?_
      exact ev_zret hR ev_sm.rf (Or.inr rfl) (Option.some.inj hf) hC (by decide +kernel)
theorem mX12_isWord {S : ev_S} {fu : Nat} {r : Int32 × ev_D} (hT : ev_Ty S) {l0 : Nat} {l1 : Int32} {D : ev_D} (hl0 : sK S l0 = 15) (hf : fX12_isWord (sL S) (sE S) fu l0 l1 D = some r) : ev_M 0 0 0 yX12_isWord cX12_isWord 2 (some .boolean) [.ref l0, .int l1] S D S r :=
  ev_met (ini := false) (plainFor_of_name (by decide)) (fun h => by cases h) rfl (Nat.le_of_ble_eq_true rfl) (fun F hR => tX12_isWord (S := ev_z S) hR hT ⟨Nat.le_refl 0, Nat.le_refl 0⟩ hl0 hf)
set_option maxHeartbeats 4000000 in
set_option maxRecDepth 100000 in
theorem tX12_isSign {S : ev_S} {fu : Nat} {r : Int32 × ev_D} {F : ev_Fr} (hR : ev_R RX12 cX12_isSign 2 0 0 0 false (some .boolean) S r F) (hT : ev_Ty S) (hC : sC S ≤ 0 ∧ sA S ≤ 0) {l0 : Nat} {l1 : Int32} {D : ev_D} (hl0 : sK S l0 = 15) (hf : fX12_isSign (sL S) (sE S) fu l0 l1 D = some r) : F S D 0 [some (.ref l0), some (.int l1)] [] := by
  have hX := hR.X
  unfold fX12_isSign at hf
  refine ev_blk hX lkok_RX12 [(.aload_n 0, 1, 0, 0, 0), (.getfield 177, 3, 12, 16, 0), (.iconst 4, 1, 0, 0, 4)] (by decide +kernel) (g := (sK S l0 == 15) && (true)) (lv' := [some (.ref l0), some (.int l1)]) (st' := [.int (4 : Int32), .int (D l0 16)]) (D' := D) (pc' := 5) rfl (ev_gk hl0 (rfl)) rfl ?_
  refine ev_ic_ne hX (off := 15) 20 (by decide +kernel) (by decide) (fun h1 => ?_) (fun h1 => ?_)
  · have hf := ev_nf h1 hf
    refine ev_blk hX lkok_RX12 [(.iconst 0, 1, 0, 0, 0)] (by decide +kernel) (g := true) (lv' := [some (.ref l0), some (.int l1)]) (st' := [.int (0 : Int32)]) (D' := D) (pc' := 21) rfl (rfl) rfl ?_
    exact ev_zret hR ev_sm.rf (Or.inl rfl) (Option.some.inj hf) hC (by decide +kernel)
  · have hf := ev_it h1 hf
    refine ev_blk hX lkok_RX12 [(.aload_n 0, 1, 0, 0, 0), (.getfield 180, 3, 12, 17, 0), (.iload_n 1, 1, 0, 0, 0)] (by decide +kernel) (g := (sK S l0 == 15) && (true)) (lv' := [some (.ref l0), some (.int l1)]) (st' := [.int l1, .int (D l0 17)]) (D' := D) (pc' := 13) rfl (ev_gk hl0 (rfl)) rfl ?_
    refine ev_ic_ne hX (off := 7) 20 (by decide +kernel) (by decide) (fun h2 => ?_) (fun h2 => ?_)
    · have hf := ev_nf h2 hf
      refine ev_blk hX lkok_RX12 [(.iconst 0, 1, 0, 0, 0)] (by decide +kernel) (g := true) (lv' := [some (.ref l0), some (.int l1)]) (st' := [.int (0 : Int32)]) (D' := D) (pc' := 21) rfl (rfl) rfl ?_
      exact ev_zret hR ev_sm.rf (Or.inl rfl) (Option.some.inj hf) hC (by decide +kernel)
    · have hf := ev_it h2 hf
      refine ev_blk hX lkok_RX12 [(.iconst 1, 1, 0, 0, 1)] (by decide +kernel) (g := true) (lv' := [some (.ref l0), some (.int l1)]) (st' := [.int (1 : Int32)]) (D' := D) (pc' := 17) rfl (rfl) rfl ?_
      refine ev_goto hX (off := 4) 21 (by decide +kernel) (by decide) ?_
      exact ev_zret hR ev_sm.rf (Or.inr rfl) (Option.some.inj hf) hC (by decide +kernel)
theorem mX12_isSign {S : ev_S} {fu : Nat} {r : Int32 × ev_D} (hT : ev_Ty S) {l0 : Nat} {l1 : Int32} {D : ev_D} (hl0 : sK S l0 = 15) (hf : fX12_isSign (sL S) (sE S) fu l0 l1 D = some r) : ev_M 0 0 0 yX12_isSign cX12_isSign 2 (some .boolean) [.ref l0, .int l1] S D S r :=
  ev_met (ini := false) (plainFor_of_name (by decide)) (fun h => by cases h) rfl (Nat.le_of_ble_eq_true rfl) (fun F hR => tX12_isSign (S := ev_z S) hR hT ⟨Nat.le_refl 0, Nat.le_refl 0⟩ hl0 hf)
set_option maxHeartbeats 4000000 in
set_option maxRecDepth 100000 in
theorem tX12_isDigit {S : ev_S} {fu : Nat} {r : Int32 × ev_D} {F : ev_Fr} (hR : ev_R RX12 cX12_isDigit 2 1 0 0 false (some .boolean) S r F) (hT : ev_Ty S) (hC : sC S ≤ 0 ∧ sA S ≤ 0) {l0 : Nat} {l1 : Int32} {D : ev_D} (hl0 : sK S l0 = 15) (hf : fX12_isDigit (sL S) (sE S) fu l0 l1 D = some r) : F S D 0 [some (.ref l0), some (.int l1)] [] := by
  have hX := hR.X
  unfold fX12_isDigit at hf
  refine ev_blk hX lkok_RX12 [(.aload_n 0, 1, 0, 0, 0), (.iload_n 1, 1, 0, 0, 0), (.bipush 48, 2, 0, 0, 48), (.bipush 57, 2, 0, 0, 57)] (by decide +kernel) (g := true) (lv' := [some (.ref l0), some (.int l1)]) (st' := [.int (57 : Int32), .int (48 : Int32), .int l1, .ref l0]) (D' := D) (pc' := 6) rfl (rfl) rfl ?_
  obtain ⟨v1, D1, hc1, hf⟩ := ev_bd_s hf
  refine ev_callV hX YX12_isIn ml_RX12_150 (mX12_isIn hT hl0 hc1) (vs := [.int l1, .int (48 : Int32), .int (57 : Int32)]) (st := []) (by decide) 12 hl0 rfl rfl rfl (by decide +kernel) hC ?_
  show F S D1 9 [some (.ref l0), some (.int l1)] [.int v1]
  obtain ⟨hz, hf⟩ := ev_gd_s hf
  exact ev_zret hR ev_sm.rf (ev_z01 hz) (Option.some.inj hf) hC (by decide +kernel)
theorem mX12_isDigit {S : ev_S} {fu : Nat} {r : Int32 × ev_D} (hT : ev_Ty S) {l0 : Nat} {l1 : Int32} {D : ev_D} (hl0 : sK S l0 = 15) (hf : fX12_isDigit (sL S) (sE S) fu l0 l1 D = some r) : ev_M 1 0 0 yX12_isDigit cX12_isDigit 2 (some .boolean) [.ref l0, .int l1] S D S r :=
  ev_met (ini := false) (plainFor_of_name (by decide)) (fun h => by cases h) rfl (Nat.le_of_ble_eq_true rfl) (fun F hR => tX12_isDigit (S := ev_z S) hR hT ⟨Nat.le_refl 0, Nat.le_refl 0⟩ hl0 hf)
set_option maxHeartbeats 4000000 in
set_option maxRecDepth 100000 in
theorem tX12_isLetter {S : ev_S} {fu : Nat} {r : Int32 × ev_D} {F : ev_Fr} (hR : ev_R RX12 cX12_isLetter 2 1 0 0 false (some .boolean) S r F) (hT : ev_Ty S) (hC : sC S ≤ 0 ∧ sA S ≤ 0) {l0 : Nat} {l1 : Int32} {D : ev_D} (hl0 : sK S l0 = 15) (hf : fX12_isLetter (sL S) (sE S) fu l0 l1 D = some r) : F S D 0 [some (.ref l0), some (.int l1)] [] := by
  have hX := hR.X
  unfold fX12_isLetter at hf
  refine ev_blk hX lkok_RX12 [(.aload_n 0, 1, 0, 0, 0), (.iload_n 1, 1, 0, 0, 0), (.bipush 97, 2, 0, 0, 97), (.bipush 122, 2, 0, 0, 122)] (by decide +kernel) (g := true) (lv' := [some (.ref l0), some (.int l1)]) (st' := [.int (122 : Int32), .int (97 : Int32), .int l1, .ref l0]) (D' := D) (pc' := 6) rfl (rfl) rfl ?_
  obtain ⟨v1, D1, hc1, hf⟩ := ev_bd_s hf
  refine ev_callV hX YX12_isIn ml_RX12_150 (mX12_isIn hT hl0 hc1) (vs := [.int l1, .int (97 : Int32), .int (122 : Int32)]) (st := []) (by decide) 12 hl0 rfl rfl rfl (by decide +kernel) hC ?_
  show F S D1 9 [some (.ref l0), some (.int l1)] [.int v1]
  refine ev_if_ne hX (off := 15) 24 (by decide +kernel) (by decide) (fun h2 => ?_) (fun h2 => ?_)
  · have hf := ev_nf h2 hf
    refine ev_blk hX lkok_RX12 [(.iconst 1, 1, 0, 0, 1)] (by decide +kernel) (g := true) (lv' := [some (.ref l0), some (.int l1)]) (st' := [.int (1 : Int32)]) (D' := D1) (pc' := 25) rfl (rfl) rfl ?_
    refine ev_goto hX (off := 4) 29 (by decide +kernel) (by decide) ?_
    exact ev_zret hR ev_sm.rf (Or.inr rfl) (Option.some.inj hf) hC (by decide +kernel)
  · have hf := ev_it h2 hf
    refine ev_blk hX lkok_RX12 [(.aload_n 0, 1, 0, 0, 0), (.iload_n 1, 1, 0, 0, 0), (.bipush 65, 2, 0, 0, 65), (.bipush 90, 2, 0, 0, 90)] (by decide +kernel) (g := true) (lv' := [some (.ref l0), some (.int l1)]) (st' := [.int (90 : Int32), .int (65 : Int32), .int l1, .ref l0]) (D' := D1) (pc' := 18) rfl (rfl) rfl ?_
    obtain ⟨v3, D3, hc3, hf⟩ := ev_bd_s hf
    refine ev_callV hX YX12_isIn ml_RX12_150 (mX12_isIn hT hl0 hc3) (vs := [.int l1, .int (65 : Int32), .int (90 : Int32)]) (st := []) (by decide) 12 hl0 rfl rfl rfl (by decide +kernel) hC ?_
    show F S D3 21 [some (.ref l0), some (.int l1)] [.int v3]
    refine ev_if_eq hX (off := 7) 28 (by decide +kernel) (by decide) (fun h4 => ?_) (fun h4 => ?_)
    · have hf := ev_it h4 hf
      refine ev_blk hX lkok_RX12 [(.iconst 0, 1, 0, 0, 0)] (by decide +kernel) (g := true) (lv' := [some (.ref l0), some (.int l1)]) (st' := [.int (0 : Int32)]) (D' := D3) (pc' := 29) rfl (rfl) rfl ?_
      exact ev_zret hR ev_sm.rf (Or.inl rfl) (Option.some.inj hf) hC (by decide +kernel)
    · have hf := ev_nf h4 hf
      refine ev_blk hX lkok_RX12 [(.iconst 1, 1, 0, 0, 1)] (by decide +kernel) (g := true) (lv' := [some (.ref l0), some (.int l1)]) (st' := [.int (1 : Int32)]) (D' := D3) (pc' := 25) rfl (rfl) rfl ?_
      refine ev_goto hX (off := 4) 29 (by decide +kernel) (by decide) ?_
      exact ev_zret hR ev_sm.rf (Or.inr rfl) (Option.some.inj hf) hC (by decide +kernel)
theorem mX12_isLetter {S : ev_S} {fu : Nat} {r : Int32 × ev_D} (hT : ev_Ty S) {l0 : Nat} {l1 : Int32} {D : ev_D} (hl0 : sK S l0 = 15) (hf : fX12_isLetter (sL S) (sE S) fu l0 l1 D = some r) : ev_M 1 0 0 yX12_isLetter cX12_isLetter 2 (some .boolean) [.ref l0, .int l1] S D S r :=
  ev_met (ini := false) (plainFor_of_name (by decide)) (fun h => by cases h) rfl (Nat.le_of_ble_eq_true rfl) (fun F hR => tX12_isLetter (S := ev_z S) hR hT ⟨Nat.le_refl 0, Nat.le_refl 0⟩ hl0 hf)
set_option maxHeartbeats 4000000 in
set_option maxRecDepth 100000 in
theorem tX12_isMarkSign {S : ev_S} {fu : Nat} {r : Int32 × ev_D} {F : ev_Fr} (hR : ev_R RX12 cX12_isMarkSign 2 0 0 0 false (some .boolean) S r F) (hT : ev_Ty S) (hC : sC S ≤ 0 ∧ sA S ≤ 0) {l0 : Nat} {l1 : Int32} {D : ev_D} (hl0 : sK S l0 = 15) (hf : fX12_isMarkSign (sL S) (sE S) fu l0 l1 D = some r) : F S D 0 [some (.ref l0), some (.int l1)] [] := by
  have hX := hR.X
  unfold fX12_isMarkSign at hf
  refine ev_blk hX lkok_RX12 [(.iload_n 1, 1, 0, 0, 0), (.bipush 59, 2, 0, 0, 59)] (by decide +kernel) (g := true) (lv' := [some (.ref l0), some (.int l1)]) (st' := [.int (59 : Int32), .int l1]) (D' := D) (pc' := 3) rfl (rfl) rfl ?_
  refine ev_ic_eq hX (off := 57) 60 (by decide +kernel) (by decide) (fun h1 => ?_) (fun h1 => ?_)
  · have hf := ev_it h1 hf
    refine ev_blk hX lkok_RX12 [(.iconst 1, 1, 0, 0, 1)] (by decide +kernel) (g := true) (lv' := [some (.ref l0), some (.int l1)]) (st' := [.int (1 : Int32)]) (D' := D) (pc' := 61) rfl (rfl) rfl ?_
    refine ev_goto hX (off := 4) 65 (by decide +kernel) (by decide) ?_
    exact ev_zret hR ev_sm.rf (Or.inr rfl) (Option.some.inj hf) hC (by decide +kernel)
  · have hf := ev_nf h1 hf
    refine ev_blk hX lkok_RX12 [(.iload_n 1, 1, 0, 0, 0), (.bipush 43, 2, 0, 0, 43)] (by decide +kernel) (g := true) (lv' := [some (.ref l0), some (.int l1)]) (st' := [.int (43 : Int32), .int l1]) (D' := D) (pc' := 9) rfl (rfl) rfl ?_
    refine ev_ic_eq hX (off := 51) 60 (by decide +kernel) (by decide) (fun h2 => ?_) (fun h2 => ?_)
    · have hf := ev_it h2 hf
      refine ev_blk hX lkok_RX12 [(.iconst 1, 1, 0, 0, 1)] (by decide +kernel) (g := true) (lv' := [some (.ref l0), some (.int l1)]) (st' := [.int (1 : Int32)]) (D' := D) (pc' := 61) rfl (rfl) rfl ?_
      refine ev_goto hX (off := 4) 65 (by decide +kernel) (by decide) ?_
      exact ev_zret hR ev_sm.rf (Or.inr rfl) (Option.some.inj hf) hC (by decide +kernel)
    · have hf := ev_nf h2 hf
      refine ev_blk hX lkok_RX12 [(.iload_n 1, 1, 0, 0, 0), (.bipush 45, 2, 0, 0, 45)] (by decide +kernel) (g := true) (lv' := [some (.ref l0), some (.int l1)]) (st' := [.int (45 : Int32), .int l1]) (D' := D) (pc' := 15) rfl (rfl) rfl ?_
      refine ev_ic_eq hX (off := 45) 60 (by decide +kernel) (by decide) (fun h3 => ?_) (fun h3 => ?_)
      · have hf := ev_it h3 hf
        refine ev_blk hX lkok_RX12 [(.iconst 1, 1, 0, 0, 1)] (by decide +kernel) (g := true) (lv' := [some (.ref l0), some (.int l1)]) (st' := [.int (1 : Int32)]) (D' := D) (pc' := 61) rfl (rfl) rfl ?_
        refine ev_goto hX (off := 4) 65 (by decide +kernel) (by decide) ?_
        exact ev_zret hR ev_sm.rf (Or.inr rfl) (Option.some.inj hf) hC (by decide +kernel)
      · have hf := ev_nf h3 hf
        refine ev_blk hX lkok_RX12 [(.iload_n 1, 1, 0, 0, 0), (.bipush 42, 2, 0, 0, 42)] (by decide +kernel) (g := true) (lv' := [some (.ref l0), some (.int l1)]) (st' := [.int (42 : Int32), .int l1]) (D' := D) (pc' := 21) rfl (rfl) rfl ?_
        refine ev_ic_eq hX (off := 39) 60 (by decide +kernel) (by decide) (fun h4 => ?_) (fun h4 => ?_)
        · have hf := ev_it h4 hf
          refine ev_blk hX lkok_RX12 [(.iconst 1, 1, 0, 0, 1)] (by decide +kernel) (g := true) (lv' := [some (.ref l0), some (.int l1)]) (st' := [.int (1 : Int32)]) (D' := D) (pc' := 61) rfl (rfl) rfl ?_
          refine ev_goto hX (off := 4) 65 (by decide +kernel) (by decide) ?_
          exact ev_zret hR ev_sm.rf (Or.inr rfl) (Option.some.inj hf) hC (by decide +kernel)
        · have hf := ev_nf h4 hf
          refine ev_blk hX lkok_RX12 [(.iload_n 1, 1, 0, 0, 0), (.bipush 47, 2, 0, 0, 47)] (by decide +kernel) (g := true) (lv' := [some (.ref l0), some (.int l1)]) (st' := [.int (47 : Int32), .int l1]) (D' := D) (pc' := 27) rfl (rfl) rfl ?_
          refine ev_ic_eq hX (off := 33) 60 (by decide +kernel) (by decide) (fun h5 => ?_) (fun h5 => ?_)
          · have hf := ev_it h5 hf
            refine ev_blk hX lkok_RX12 [(.iconst 1, 1, 0, 0, 1)] (by decide +kernel) (g := true) (lv' := [some (.ref l0), some (.int l1)]) (st' := [.int (1 : Int32)]) (D' := D) (pc' := 61) rfl (rfl) rfl ?_
            refine ev_goto hX (off := 4) 65 (by decide +kernel) (by decide) ?_
            exact ev_zret hR ev_sm.rf (Or.inr rfl) (Option.some.inj hf) hC (by decide +kernel)
          · have hf := ev_nf h5 hf
            refine ev_blk hX lkok_RX12 [(.iload_n 1, 1, 0, 0, 0), (.bipush 40, 2, 0, 0, 40)] (by decide +kernel) (g := true) (lv' := [some (.ref l0), some (.int l1)]) (st' := [.int (40 : Int32), .int l1]) (D' := D) (pc' := 33) rfl (rfl) rfl ?_
            refine ev_ic_eq hX (off := 27) 60 (by decide +kernel) (by decide) (fun h6 => ?_) (fun h6 => ?_)
            · have hf := ev_it h6 hf
              refine ev_blk hX lkok_RX12 [(.iconst 1, 1, 0, 0, 1)] (by decide +kernel) (g := true) (lv' := [some (.ref l0), some (.int l1)]) (st' := [.int (1 : Int32)]) (D' := D) (pc' := 61) rfl (rfl) rfl ?_
              refine ev_goto hX (off := 4) 65 (by decide +kernel) (by decide) ?_
              exact ev_zret hR ev_sm.rf (Or.inr rfl) (Option.some.inj hf) hC (by decide +kernel)
            · have hf := ev_nf h6 hf
              refine ev_blk hX lkok_RX12 [(.iload_n 1, 1, 0, 0, 0), (.bipush 41, 2, 0, 0, 41)] (by decide +kernel) (g := true) (lv' := [some (.ref l0), some (.int l1)]) (st' := [.int (41 : Int32), .int l1]) (D' := D) (pc' := 39) rfl (rfl) rfl ?_
              refine ev_ic_eq hX (off := 21) 60 (by decide +kernel) (by decide) (fun h7 => ?_) (fun h7 => ?_)
              · have hf := ev_it h7 hf
                refine ev_blk hX lkok_RX12 [(.iconst 1, 1, 0, 0, 1)] (by decide +kernel) (g := true) (lv' := [some (.ref l0), some (.int l1)]) (st' := [.int (1 : Int32)]) (D' := D) (pc' := 61) rfl (rfl) rfl ?_
                refine ev_goto hX (off := 4) 65 (by decide +kernel) (by decide) ?_
                exact ev_zret hR ev_sm.rf (Or.inr rfl) (Option.some.inj hf) hC (by decide +kernel)
              · have hf := ev_nf h7 hf
                refine ev_blk hX lkok_RX12 [(.iload_n 1, 1, 0, 0, 0), (.bipush 60, 2, 0, 0, 60)] (by decide +kernel) (g := true) (lv' := [some (.ref l0), some (.int l1)]) (st' := [.int (60 : Int32), .int l1]) (D' := D) (pc' := 45) rfl (rfl) rfl ?_
                refine ev_ic_eq hX (off := 15) 60 (by decide +kernel) (by decide) (fun h8 => ?_) (fun h8 => ?_)
                · have hf := ev_it h8 hf
                  refine ev_blk hX lkok_RX12 [(.iconst 1, 1, 0, 0, 1)] (by decide +kernel) (g := true) (lv' := [some (.ref l0), some (.int l1)]) (st' := [.int (1 : Int32)]) (D' := D) (pc' := 61) rfl (rfl) rfl ?_
                  refine ev_goto hX (off := 4) 65 (by decide +kernel) (by decide) ?_
                  exact ev_zret hR ev_sm.rf (Or.inr rfl) (Option.some.inj hf) hC (by decide +kernel)
                · have hf := ev_nf h8 hf
                  refine ev_blk hX lkok_RX12 [(.iload_n 1, 1, 0, 0, 0), (.bipush 61, 2, 0, 0, 61)] (by decide +kernel) (g := true) (lv' := [some (.ref l0), some (.int l1)]) (st' := [.int (61 : Int32), .int l1]) (D' := D) (pc' := 51) rfl (rfl) rfl ?_
                  refine ev_ic_eq hX (off := 9) 60 (by decide +kernel) (by decide) (fun h9 => ?_) (fun h9 => ?_)
                  · have hf := ev_it h9 hf
                    refine ev_blk hX lkok_RX12 [(.iconst 1, 1, 0, 0, 1)] (by decide +kernel) (g := true) (lv' := [some (.ref l0), some (.int l1)]) (st' := [.int (1 : Int32)]) (D' := D) (pc' := 61) rfl (rfl) rfl ?_
                    refine ev_goto hX (off := 4) 65 (by decide +kernel) (by decide) ?_
                    exact ev_zret hR ev_sm.rf (Or.inr rfl) (Option.some.inj hf) hC (by decide +kernel)
                  · have hf := ev_nf h9 hf
                    refine ev_blk hX lkok_RX12 [(.iload_n 1, 1, 0, 0, 0), (.bipush 62, 2, 0, 0, 62)] (by decide +kernel) (g := true) (lv' := [some (.ref l0), some (.int l1)]) (st' := [.int (62 : Int32), .int l1]) (D' := D) (pc' := 57) rfl (rfl) rfl ?_
                    refine ev_ic_ne hX (off := 7) 64 (by decide +kernel) (by decide) (fun h10 => ?_) (fun h10 => ?_)
                    · have hf := ev_nf h10 hf
                      refine ev_blk hX lkok_RX12 [(.iconst 0, 1, 0, 0, 0)] (by decide +kernel) (g := true) (lv' := [some (.ref l0), some (.int l1)]) (st' := [.int (0 : Int32)]) (D' := D) (pc' := 65) rfl (rfl) rfl ?_
                      exact ev_zret hR ev_sm.rf (Or.inl rfl) (Option.some.inj hf) hC (by decide +kernel)
                    · have hf := ev_it h10 hf
                      refine ev_blk hX lkok_RX12 [(.iconst 1, 1, 0, 0, 1)] (by decide +kernel) (g := true) (lv' := [some (.ref l0), some (.int l1)]) (st' := [.int (1 : Int32)]) (D' := D) (pc' := 61) rfl (rfl) rfl ?_
                      refine ev_goto hX (off := 4) 65 (by decide +kernel) (by decide) ?_
                      exact ev_zret hR ev_sm.rf (Or.inr rfl) (Option.some.inj hf) hC (by decide +kernel)
theorem mX12_isMarkSign {S : ev_S} {fu : Nat} {r : Int32 × ev_D} (hT : ev_Ty S) {l0 : Nat} {l1 : Int32} {D : ev_D} (hl0 : sK S l0 = 15) (hf : fX12_isMarkSign (sL S) (sE S) fu l0 l1 D = some r) : ev_M 0 0 0 yX12_isMarkSign cX12_isMarkSign 2 (some .boolean) [.ref l0, .int l1] S D S r :=
  ev_met (ini := false) (plainFor_of_name (by decide)) (fun h => by cases h) rfl (Nat.le_of_ble_eq_true rfl) (fun F hR => tX12_isMarkSign (S := ev_z S) hR hT ⟨Nat.le_refl 0, Nat.le_refl 0⟩ hl0 hf)
set_option maxHeartbeats 4000000 in
set_option maxRecDepth 100000 in
theorem tX12_raw {S : ev_S} {fu : Nat} {r : Int32 × ev_D} {F : ev_Fr} (hR : ev_R RX12 cX12_raw 2 0 0 0 false (some .int) S r F) (hT : ev_Ty S) (hC : sC S ≤ 0 ∧ sA S ≤ 0) {l0 : Nat} {l1 : Int32} {D : ev_D} (hl0 : sK S l0 = 15) (hf : fX12_raw (sL S) (sE S) fu l0 l1 D = some r) : F S D 0 [some (.ref l0), some (.int l1)] [] := by
  have hX := hR.X
  unfold fX12_raw at hf
  refine ev_blk hX lkok_RX12 [(.iload_n 1, 1, 0, 0, 0), (.aload_n 0, 1, 0, 0, 0), (.getfield 160, 3, 12, 13, 0)] (by decide +kernel) (g := (sK S l0 == 15) && (true)) (lv' := [some (.ref l0), some (.int l1)]) (st' := [.int (D l0 13), .int l1]) (D' := D) (pc' := 5) rfl (ev_gk hl0 (rfl)) rfl ?_
  refine ev_ic_ge hX (off := 12) 17 (by decide +kernel) (by decide) (fun h1 => ?_) (fun h1 => ?_)
  · have hf := ev_it h1 hf
    refine ev_blk hX lkok_RX12 [(.iconst (-1), 1, 0, 0, (-1))] (by decide +kernel) (g := true) (lv' := [some (.ref l0), some (.int l1)]) (st' := [.int (-1 : Int32)]) (D' := D) (pc' := 18) rfl (rfl) rfl ?_
    exact ev_iret hR ev_sm.rf (Option.some.inj hf) hC (by decide +kernel)
  · have hf := ev_nf h1 hf
    obtain ⟨hg2, hf⟩ := ev_gd_s hf
    refine ev_blk hX lkok_RX12 [(.aload_n 0, 1, 0, 0, 0), (.getfield 34, 3, 12, 12, 0), (.iload_n 1, 1, 0, 0, 0), (.iaload, 1, 0, 0, 0)] (by decide +kernel) (g := (sK S l0 == 15) && ((sK S ((sE S) l0 12) == 1 && ev_in l1 ((sL S) ((sE S) l0 12))) && (true))) (lv' := [some (.ref l0), some (.int l1)]) (st' := [.int (D ((sE S) l0 12) (l1).toNatClampNeg)]) (D' := D) (pc' := 14) rfl (ev_gk hl0 (ev_gi (ev_tyk hT hl0 rfl rfl) hg2 (rfl))) rfl ?_
    refine ev_goto hX (off := 4) 18 (by decide +kernel) (by decide) ?_
    exact ev_iret hR ev_sm.rf (Option.some.inj hf) hC (by decide +kernel)
theorem mX12_raw {S : ev_S} {fu : Nat} {r : Int32 × ev_D} (hT : ev_Ty S) {l0 : Nat} {l1 : Int32} {D : ev_D} (hl0 : sK S l0 = 15) (hf : fX12_raw (sL S) (sE S) fu l0 l1 D = some r) : ev_M 0 0 0 yX12_raw cX12_raw 2 (some .int) [.ref l0, .int l1] S D S r :=
  ev_met (ini := false) (plainFor_of_name (by decide)) (fun h => by cases h) rfl (Nat.le_of_ble_eq_true rfl) (fun F hR => tX12_raw (S := ev_z S) hR hT ⟨Nat.le_refl 0, Nat.le_refl 0⟩ hl0 hf)
set_option maxHeartbeats 4000000 in
set_option maxRecDepth 100000 in
theorem tX12_wordAt_94 {S : ev_S} {fu : Nat} {r : Int32 × ev_D} {F : ev_Fr} (hR : ev_R RX12 cX12_wordAt 6 0 0 0 false (some .int) S r F) (hT : ev_Ty S) (hC : sC S ≤ 0 ∧ sA S ≤ 0) {k5 : Nat → Int32 → Int32 → Int32 → Int32 → ev_D → ev_Op} (hk5 : ∀ (l0 : Nat) (l1 : Int32) (l2 : Int32) (l3 : Int32) (l4 : Int32) (D : ev_D), sK S l0 = 15 → k5 l0 l1 l2 l3 l4 D = some r → F S D 5 [some (.ref l0), some (.int l1), some (.int l2), some (.int l3), some (.int l4), none] []) : ∀ (n : Nat) (l0 : Nat) (l1 : Int32) (l2 : Int32) (l3 : Int32) (l4 : Int32) (D : ev_D), sK S l0 = 15 → fX12_wordAt_94 (sL S) (sE S) fu k5 n l0 l1 l2 l3 l4 D = some r → F S D 94 [some (.ref l0), some (.int l1), some (.int l2), some (.int l3), some (.int l4), none] [] := by
  have hX := hR.X
  intro n
  induction n with
  | zero =>
    intro l0 l1 l2 l3 l4 D hl0 hf
    rw [fX12_wordAt_94] at hf
    cases hf
  | succ n ih =>
    intro l0 l1 l2 l3 l4 D hl0 hf
    rw [fX12_wordAt_94] at hf
    obtain ⟨hg2, hf⟩ := ev_gd_s hf
    refine ev_blk hX lkok_RX12 [(.aload_n 0, 1, 0, 0, 0), (.getfield 37, 3, 12, 18, 0), (.iload 4, 2, 0, 0, 0), (.iaload, 1, 0, 0, 0), (.bipush 32, 2, 0, 0, 32)] (by decide +kernel) (g := (sK S l0 == 15) && ((sK S ((sE S) l0 18) == 1 && ev_in l4 ((sL S) ((sE S) l0 18))) && (true))) (lv' := [some (.ref l0), some (.int l1), some (.int l2), some (.int l3), some (.int l4), none]) (st' := [.int (32 : Int32), .int (D ((sE S) l0 18) (l4).toNatClampNeg)]) (D' := D) (pc' := 103) rfl (ev_gk hl0 (ev_gi (ev_tyk hT hl0 rfl rfl) hg2 (rfl))) rfl ?_
    refine ev_ic_eq hX (off := 12) 115 (by decide +kernel) (by decide) (fun h1 => ?_) (fun h1 => ?_)
    · have hf := ev_it h1 hf
      refine ev_goto hX (off := (-110)) 5 (by decide +kernel) (by decide) ?_
      exact ev_weak hX (ev_le_eq (ev_le_eq (ev_le_eq (ev_le_eq (ev_le_eq (ev_le_no ev_le_nil)))))) (hk5 _ _ _ _ _ _ hl0 hf)
    · have hf := ev_nf h1 hf
      refine ev_blk hX lkok_RX12 [(.iload 4, 2, 0, 0, 0), (.iconst 1, 1, 0, 0, 1), (.iadd, 1, 0, 0, 0), (.istore 4, 2, 0, 0, 0)] (by decide +kernel) (g := true) (lv' := [some (.ref l0), some (.int l1), some (.int l2), some (.int l3), some (.int (l4 + (1 : Int32))), none]) (st' := []) (D' := D) (pc' := 112) rfl (rfl) rfl ?_
      refine ev_goto hX (off := (-18)) 94 (by decide +kernel) (by decide) ?_
      exact ev_weak hX (ev_le_eq (ev_le_eq (ev_le_eq (ev_le_eq (ev_le_eq (ev_le_no ev_le_nil)))))) (ih _ _ _ _ _ _ hl0 hf)
set_option maxHeartbeats 4000000 in
set_option maxRecDepth 100000 in
theorem tX12_wordAt_61 {S : ev_S} {fu : Nat} {r : Int32 × ev_D} {F : ev_Fr} (hR : ev_R RX12 cX12_wordAt 6 0 0 0 false (some .int) S r F) (hT : ev_Ty S) (hC : sC S ≤ 0 ∧ sA S ≤ 0) {k5 : Nat → Int32 → Int32 → Int32 → Int32 → ev_D → ev_Op} (hk5 : ∀ (l0 : Nat) (l1 : Int32) (l2 : Int32) (l3 : Int32) (l4 : Int32) (D : ev_D), sK S l0 = 15 → k5 l0 l1 l2 l3 l4 D = some r → F S D 5 [some (.ref l0), some (.int l1), some (.int l2), some (.int l3), some (.int l4), none] []) {l0 : Nat} {l1 : Int32} {l2 : Int32} {l3 : Int32} {l4 : Int32} {l5 : Int32} {D : ev_D} (hl0 : sK S l0 = 15) (hf : fX12_wordAt_61 (sL S) (sE S) fu k5 l0 l1 l2 l3 l4 l5 D = some r) : F S D 61 [some (.ref l0), some (.int l1), some (.int l2), some (.int l3), some (.int l4), some (.int l5)] [] := by
  have hX := hR.X
  unfold fX12_wordAt_61 at hf
  refine ev_blk hX lkok_RX12 [(.iload_n 1, 1, 0, 0, 0), (.iload 5, 2, 0, 0, 0), (.iadd, 1, 0, 0, 0), (.iload_n 2, 1, 0, 0, 0)] (by decide +kernel) (g := true) (lv' := [some (.ref l0), some (.int l1), some (.int l2), some (.int l3), some (.int l4), some (.int l5)]) (st' := [.int l2, .int (l1 + l5)]) (D' := D) (pc' := 66) rfl (rfl) rfl ?_
  refine ev_ic_ne hX (off := 22) 88 (by decide +kernel) (by decide) (fun h3 => ?_) (fun h3 => ?_)
  · have hf := ev_nf h3 hf
    refine ev_blk hX lkok_RX12 [(.iload 4, 2, 0, 0, 0), (.iconst 1, 1, 0, 0, 1), (.iadd, 1, 0, 0, 0), (.istore 4, 2, 0, 0, 0)] (by decide +kernel) (g := true) (lv' := [some (.ref l0), some (.int l1), some (.int l2), some (.int l3), some (.int (l4 + (1 : Int32))), some (.int l5)]) (st' := []) (D' := D) (pc' := 94) rfl (rfl) rfl ?_
    exact ev_weak hX (ev_le_eq (ev_le_eq (ev_le_eq (ev_le_eq (ev_le_eq (ev_le_no ev_le_nil)))))) (tX12_wordAt_94 hR hT hC  hk5 fu _ _ _ _ _ _ hl0 hf)
  · have hf := ev_it h3 hf
    obtain ⟨hg5, hf⟩ := ev_gd_s hf
    refine ev_blk hX lkok_RX12 [(.aload_n 0, 1, 0, 0, 0), (.getfield 37, 3, 12, 18, 0), (.iload 4, 2, 0, 0, 0), (.iconst 1, 1, 0, 0, 1), (.iadd, 1, 0, 0, 0), (.iload 5, 2, 0, 0, 0), (.iadd, 1, 0, 0, 0), (.iaload, 1, 0, 0, 0), (.bipush 32, 2, 0, 0, 32)] (by decide +kernel) (g := (sK S l0 == 15) && ((sK S ((sE S) l0 18) == 1 && ev_in ((l4 + (1 : Int32)) + l5) ((sL S) ((sE S) l0 18))) && (true))) (lv' := [some (.ref l0), some (.int l1), some (.int l2), some (.int l3), some (.int l4), some (.int l5)]) (st' := [.int (32 : Int32), .int (D ((sE S) l0 18) (((l4 + (1 : Int32)) + l5)).toNatClampNeg)]) (D' := D) (pc' := 83) rfl (ev_gk hl0 (ev_gi (ev_tyk hT hl0 rfl rfl) hg5 (rfl))) rfl ?_
    refine ev_ic_ne hX (off := 5) 88 (by decide +kernel) (by decide) (fun h4 => ?_) (fun h4 => ?_)
    · have hf := ev_nf h4 hf
      refine ev_blk hX lkok_RX12 [(.iload 4, 2, 0, 0, 0), (.iconst 1, 1, 0, 0, 1), (.iadd, 1, 0, 0, 0), (.istore 4, 2, 0, 0, 0)] (by decide +kernel) (g := true) (lv' := [some (.ref l0), some (.int l1), some (.int l2), some (.int l3), some (.int (l4 + (1 : Int32))), some (.int l5)]) (st' := []) (D' := D) (pc' := 94) rfl (rfl) rfl ?_
      exact ev_weak hX (ev_le_eq (ev_le_eq (ev_le_eq (ev_le_eq (ev_le_eq (ev_le_no ev_le_nil)))))) (tX12_wordAt_94 hR hT hC  hk5 fu _ _ _ _ _ _ hl0 hf)
    · have hf := ev_it h4 hf
      refine ev_blk hX lkok_RX12 [(.iload_n 3, 1, 0, 0, 0)] (by decide +kernel) (g := true) (lv' := [some (.ref l0), some (.int l1), some (.int l2), some (.int l3), some (.int l4), some (.int l5)]) (st' := [.int l3]) (D' := D) (pc' := 87) rfl (rfl) rfl ?_
      exact ev_iret hR ev_sm.rf (Option.some.inj hf) hC (by decide +kernel)
set_option maxHeartbeats 4000000 in
set_option maxRecDepth 100000 in
theorem tX12_wordAt_20 {S : ev_S} {fu : Nat} {r : Int32 × ev_D} {F : ev_Fr} (hR : ev_R RX12 cX12_wordAt 6 0 0 0 false (some .int) S r F) (hT : ev_Ty S) (hC : sC S ≤ 0 ∧ sA S ≤ 0) {k5 : Nat → Int32 → Int32 → Int32 → Int32 → ev_D → ev_Op} (hk5 : ∀ (l0 : Nat) (l1 : Int32) (l2 : Int32) (l3 : Int32) (l4 : Int32) (D : ev_D), sK S l0 = 15 → k5 l0 l1 l2 l3 l4 D = some r → F S D 5 [some (.ref l0), some (.int l1), some (.int l2), some (.int l3), some (.int l4), none] []) : ∀ (n : Nat) (l0 : Nat) (l1 : Int32) (l2 : Int32) (l3 : Int32) (l4 : Int32) (l5 : Int32) (D : ev_D), sK S l0 = 15 → fX12_wordAt_20 (sL S) (sE S) fu k5 n l0 l1 l2 l3 l4 l5 D = some r → F S D 20 [some (.ref l0), some (.int l1), some (.int l2), some (.int l3), some (.int l4), some (.int l5)] [] := by
  have hX := hR.X
  intro n
  induction n with
  | zero =>
    intro l0 l1 l2 l3 l4 l5 D hl0 hf
    rw [fX12_wordAt_20] at hf
    cases hf
  | succ n ih =>
    intro l0 l1 l2 l3 l4 l5 D hl0 hf
    rw [fX12_wordAt_20] at hf
    refine ev_blk hX lkok_RX12 [(.iload_n 1, 1, 0, 0, 0), (.iload 5, 2, 0, 0, 0), (.iadd, 1, 0, 0, 0), (.iload_n 2, 1, 0, 0, 0)] (by decide +kernel) (g := true) (lv' := [some (.ref l0), some (.int l1), some (.int l2), some (.int l3), some (.int l4), some (.int l5)]) (st' := [.int l2, .int (l1 + l5)]) (D' := D) (pc' := 25) rfl (rfl) rfl ?_
    refine ev_ic_ge hX (off := 36) 61 (by decide +kernel) (by decide) (fun h6 => ?_) (fun h6 => ?_)
    · have hf := ev_it h6 hf
      exact ev_weak hX (ev_le_eq (ev_le_eq (ev_le_eq (ev_le_eq (ev_le_eq (ev_le_eq ev_le_nil)))))) (tX12_wordAt_61 hR hT hC  hk5 hl0 hf)
    · have hf := ev_nf h6 hf
      obtain ⟨hg8, hf⟩ := ev_gd_s hf
      obtain ⟨hg9, hf⟩ := ev_gd_s hf
      refine ev_blk hX lkok_RX12 [(.aload_n 0, 1, 0, 0, 0), (.getfield 37, 3, 12, 18, 0), (.iload 4, 2, 0, 0, 0), (.iconst 1, 1, 0, 0, 1), (.iadd, 1, 0, 0, 0), (.iload 5, 2, 0, 0, 0), (.iadd, 1, 0, 0, 0), (.iaload, 1, 0, 0, 0), (.aload_n 0, 1, 0, 0, 0), (.getfield 34, 3, 12, 12, 0), (.iload_n 1, 1, 0, 0, 0), (.iload 5, 2, 0, 0, 0), (.iadd, 1, 0, 0, 0), (.iaload, 1, 0, 0, 0)] (by decide +kernel) (g := (sK S l0 == 15) && ((sK S ((sE S) l0 18) == 1 && ev_in ((l4 + (1 : Int32)) + l5) ((sL S) ((sE S) l0 18))) && ((sK S l0 == 15) && ((sK S ((sE S) l0 12) == 1 && ev_in (l1 + l5) ((sL S) ((sE S) l0 12))) && (true))))) (lv' := [some (.ref l0), some (.int l1), some (.int l2), some (.int l3), some (.int l4), some (.int l5)]) (st' := [.int (D ((sE S) l0 12) ((l1 + l5)).toNatClampNeg), .int (D ((sE S) l0 18) (((l4 + (1 : Int32)) + l5)).toNatClampNeg)]) (D' := D) (pc' := 49) rfl (ev_gk hl0 (ev_gi (ev_tyk hT hl0 rfl rfl) hg8 (ev_gk hl0 (ev_gi (ev_tyk hT hl0 rfl rfl) hg9 (rfl))))) rfl ?_
      refine ev_ic_ne hX (off := 12) 61 (by decide +kernel) (by decide) (fun h7 => ?_) (fun h7 => ?_)
      · have hf := ev_nf h7 hf
        exact ev_weak hX (ev_le_eq (ev_le_eq (ev_le_eq (ev_le_eq (ev_le_eq (ev_le_eq ev_le_nil)))))) (tX12_wordAt_61 hR hT hC  hk5 hl0 hf)
      · have hf := ev_it h7 hf
        refine ev_blk hX lkok_RX12 [(.iload 5, 2, 0, 0, 0), (.iconst 1, 1, 0, 0, 1), (.iadd, 1, 0, 0, 0), (.istore 5, 2, 0, 0, 0)] (by decide +kernel) (g := true) (lv' := [some (.ref l0), some (.int l1), some (.int l2), some (.int l3), some (.int l4), some (.int (l5 + (1 : Int32)))]) (st' := []) (D' := D) (pc' := 58) rfl (rfl) rfl ?_
        refine ev_goto hX (off := (-38)) 20 (by decide +kernel) (by decide) ?_
        exact ev_weak hX (ev_le_eq (ev_le_eq (ev_le_eq (ev_le_eq (ev_le_eq (ev_le_eq ev_le_nil)))))) (ih _ _ _ _ _ _ _ hl0 hf)
set_option maxHeartbeats 4000000 in
set_option maxRecDepth 100000 in
theorem tX12_wordAt_5 {S : ev_S} {fu : Nat} {r : Int32 × ev_D} {F : ev_Fr} (hR : ev_R RX12 cX12_wordAt 6 0 0 0 false (some .int) S r F) (hT : ev_Ty S) (hC : sC S ≤ 0 ∧ sA S ≤ 0) : ∀ (n : Nat) (l0 : Nat) (l1 : Int32) (l2 : Int32) (l3 : Int32) (l4 : Int32) (D : ev_D), sK S l0 = 15 → fX12_wordAt_5 (sL S) (sE S) fu n l0 l1 l2 l3 l4 D = some r → F S D 5 [some (.ref l0), some (.int l1), some (.int l2), some (.int l3), some (.int l4), none] [] := by
  have hX := hR.X
  intro n
  induction n with
  | zero =>
    intro l0 l1 l2 l3 l4 D hl0 hf
    rw [fX12_wordAt_5] at hf
    cases hf
  | succ n ih =>
    intro l0 l1 l2 l3 l4 D hl0 hf
    rw [fX12_wordAt_5] at hf
    refine ev_blk hX lkok_RX12 [(.iload 4, 2, 0, 0, 0), (.sipush 151, 3, 0, 0, 151)] (by decide +kernel) (g := true) (lv' := [some (.ref l0), some (.int l1), some (.int l2), some (.int l3), some (.int l4), none]) (st' := [.int (151 : Int32), .int l4]) (D' := D) (pc' := 10) rfl (rfl) rfl ?_
    refine ev_ic_ge hX (off := 108) 118 (by decide +kernel) (by decide) (fun h10 => ?_) (fun h10 => ?_)
    · have hf := ev_it h10 hf
      refine ev_blk hX lkok_RX12 [(.iconst (-1), 1, 0, 0, (-1))] (by decide +kernel) (g := true) (lv' := [some (.ref l0), some (.int l1), some (.int l2), some (.int l3), some (.int l4), none]) (st' := [.int (-1 : Int32)]) (D' := D) (pc' := 119) rfl (rfl) rfl ?_
      exact ev_iret hR ev_sm.rf (Option.some.inj hf) hC (by decide +kernel)
    · have hf := ev_nf h10 hf
      refine ev_blk hX lkok_RX12 [(.iconst 0, 1, 0, 0, 0), (.istore 5, 2, 0, 0, 0), (.iload_n 3, 1, 0, 0, 0), (.iconst 1, 1, 0, 0, 1), (.iadd, 1, 0, 0, 0), (.istore_n 3, 1, 0, 0, 0)] (by decide +kernel) (g := true) (lv' := [some (.ref l0), some (.int l1), some (.int l2), some (.int (l3 + (1 : Int32))), some (.int l4), some (.int (0 : Int32))]) (st' := []) (D' := D) (pc' := 20) rfl (rfl) rfl ?_
      exact ev_weak hX (ev_le_eq (ev_le_eq (ev_le_eq (ev_le_eq (ev_le_eq (ev_le_eq ev_le_nil)))))) (tX12_wordAt_20 hR hT hC  ih fu _ _ _ _ _ _ _ hl0 hf)
set_option maxHeartbeats 4000000 in
set_option maxRecDepth 100000 in
theorem tX12_wordAt {S : ev_S} {fu : Nat} {r : Int32 × ev_D} {F : ev_Fr} (hR : ev_R RX12 cX12_wordAt 6 0 0 0 false (some .int) S r F) (hT : ev_Ty S) (hC : sC S ≤ 0 ∧ sA S ≤ 0) {l0 : Nat} {l1 : Int32} {l2 : Int32} {D : ev_D} (hl0 : sK S l0 = 15) (hf : fX12_wordAt (sL S) (sE S) fu l0 l1 l2 D = some r) : F S D 0 [some (.ref l0), some (.int l1), some (.int l2), none, none, none] [] := by
  have hX := hR.X
  unfold fX12_wordAt at hf
  refine ev_blk hX lkok_RX12 [(.iconst (-1), 1, 0, 0, (-1)), (.istore_n 3, 1, 0, 0, 0), (.iconst 0, 1, 0, 0, 0), (.istore 4, 2, 0, 0, 0)] (by decide +kernel) (g := true) (lv' := [some (.ref l0), some (.int l1), some (.int l2), some (.int (-1 : Int32)), some (.int (0 : Int32)), none]) (st' := []) (D' := D) (pc' := 5) rfl (rfl) rfl ?_
  exact ev_weak hX (ev_le_eq (ev_le_eq (ev_le_eq (ev_le_eq (ev_le_eq (ev_le_no ev_le_nil)))))) (tX12_wordAt_5 hR hT hC   fu _ _ _ _ _ _ hl0 hf)
theorem mX12_wordAt {S : ev_S} {fu : Nat} {r : Int32 × ev_D} (hT : ev_Ty S) {l0 : Nat} {l1 : Int32} {l2 : Int32} {D : ev_D} (hl0 : sK S l0 = 15) (hf : fX12_wordAt (sL S) (sE S) fu l0 l1 l2 D = some r) : ev_M 0 0 0 yX12_wordAt cX12_wordAt 6 (some .int) [.ref l0, .int l1, .int l2] S D S r :=
  ev_met (ini := false) (plainFor_of_name (by decide)) (fun h => by cases h) rfl (Nat.le_of_ble_eq_true rfl) (fun F hR => tX12_wordAt (S := ev_z S) hR hT ⟨Nat.le_refl 0, Nat.le_refl 0⟩ hl0 hf)
set_option maxHeartbeats 4000000 in
set_option maxRecDepth 100000 in
theorem tX12_reads_223 {S : ev_S} {fu : Nat} {r : Int32 × ev_D} {F : ev_Fr} (hR : ev_R RX12 cX12_reads 2 2 0 0 false none S r F) (hT : ev_Ty S) (hC : sC S ≤ 0 ∧ sA S ≤ 0) {k171 : Nat → ev_D → ev_Op} (hk171 : ∀ (l0 : Nat) (D : ev_D), sK S l0 = 15 → k171 l0 D = some r → F S D 171 [some (.ref l0), none] []) {l0 : Nat} {s0 : Nat} {s1 : Int32} {D : ev_D} (hl0 : sK S l0 = 15) (hs0 : sK S s0 = 15) (hf : fX12_reads_223 (sL S) (sE S) fu k171 l0 s0 s1 D = some r) : F S D 223 [some (.ref l0), none] [.int s1, .ref s0] := by
  have hX := hR.X
  unfold fX12_reads_223 at hf
  refine ev_blk hX lkok_RX12 [(.putfield 180, 3, 12, 17, 0), (.aload_n 0, 1, 0, 0, 0), (.aload_n 0, 1, 0, 0, 0), (.getfield 167, 3, 12, 14, 0), (.iconst 1, 1, 0, 0, 1), (.iadd, 1, 0, 0, 0), (.putfield 167, 3, 12, 14, 0)] (by decide +kernel) (g := (sK S s0 == 15) && ((sK S l0 == 15) && ((sK S l0 == 15) && (true)))) (lv' := [some (.ref l0), none]) (st' := []) (D' := (ev_up (ev_up D s0 17 s1) l0 14 (((ev_up D s0 17 s1) l0 14) + (1 : Int32)))) (pc' := 236) rfl (ev_gk hs0 (ev_gk hl0 (ev_gk hl0 (rfl)))) rfl ?_
  refine ev_goto hX (off := (-65)) 171 (by decide +kernel) (by decide) ?_
  exact ev_weak hX (ev_le_eq (ev_le_no ev_le_nil)) (hk171 _ _ hl0 hf)
set_option maxHeartbeats 4000000 in
set_option maxRecDepth 100000 in
theorem tX12_reads_171 {S : ev_S} {fu : Nat} {r : Int32 × ev_D} {F : ev_Fr} (hR : ev_R RX12 cX12_reads 2 2 0 0 false none S r F) (hT : ev_Ty S) (hC : sC S ≤ 0 ∧ sA S ≤ 0) : ∀ (n : Nat) (l0 : Nat) (D : ev_D), sK S l0 = 15 → fX12_reads_171 (sL S) (sE S) fu n l0 D = some r → F S D 171 [some (.ref l0), none] [] := by
  have hX := hR.X
  intro n
  induction n with
  | zero =>
    intro l0 D hl0 hf
    rw [fX12_reads_171] at hf
    cases hf
  | succ n ih =>
    intro l0 D hl0 hf
    rw [fX12_reads_171] at hf
    refine ev_blk hX lkok_RX12 [(.aload_n 0, 1, 0, 0, 0), (.aload_n 0, 1, 0, 0, 0), (.aload_n 0, 1, 0, 0, 0), (.getfield 167, 3, 12, 14, 0)] (by decide +kernel) (g := (sK S l0 == 15) && (true)) (lv' := [some (.ref l0), none]) (st' := [.int (D l0 14), .ref l0, .ref l0]) (D' := D) (pc' := 177) rfl (ev_gk hl0 (rfl)) rfl ?_
    obtain ⟨v1, D1, hc1, hf⟩ := ev_bd_s hf
    refine ev_callV hX YX12_raw ml_RX12_170 (mX12_raw hT hl0 hc1) (vs := [.int (D l0 14)]) (st := [.ref l0]) (by decide) 12 hl0 rfl rfl rfl (by decide +kernel) hC ?_
    show F S D1 180 [some (.ref l0), none] [.int v1, .ref l0]
    obtain ⟨v2, D2, hc2, hf⟩ := ev_bd_s hf
    refine ev_callV hX YX12_isDigit ml_RX12_190 (mX12_isDigit hT hl0 hc2) (vs := [.int v1]) (st := []) (by decide) 12 hl0 rfl rfl rfl (by decide +kernel) hC ?_
    show F S D2 183 [some (.ref l0), none] [.int v2]
    refine ev_if_eq hX (off := 56) 239 (by decide +kernel) (by decide) (fun h3 => ?_) (fun h3 => ?_)
    · have hf := ev_it h3 hf
      refine ev_blk hX lkok_RX12 [(.aload_n 0, 1, 0, 0, 0), (.getfield 167, 3, 12, 14, 0), (.aload_n 0, 1, 0, 0, 0), (.getfield 174, 3, 12, 15, 0), (.isub, 1, 0, 0, 0), (.iconst 5, 1, 0, 0, 5)] (by decide +kernel) (g := (sK S l0 == 15) && ((sK S l0 == 15) && (true))) (lv' := [some (.ref l0), none]) (st' := [.int (5 : Int32), .int ((D2 l0 14) - (D2 l0 15))]) (D' := D2) (pc' := 249) rfl (ev_gk hl0 (ev_gk hl0 (rfl))) rfl ?_
      refine ev_ic_ge hX (off := 24) 273 (by decide +kernel) (by decide) (fun h4 => ?_) (fun h4 => ?_)
      · have hf := ev_it h4 hf
        exact ev_vret hR ev_sm.rf (Option.some.inj hf) hC (by decide +kernel)
      · have hf := ev_nf h4 hf
        refine ev_blk hX lkok_RX12 [(.aload_n 0, 1, 0, 0, 0), (.iconst 3, 1, 0, 0, 3), (.putfield 177, 3, 12, 16, 0)] (by decide +kernel) (g := (sK S l0 == 15) && (true)) (lv' := [some (.ref l0), none]) (st' := []) (D' := (ev_up D2 l0 16 (3 : Int32))) (pc' := 257) rfl (ev_gk hl0 (rfl)) rfl ?_
        refine ev_goto hX (off := 16) 273 (by decide +kernel) (by decide) ?_
        exact ev_vret hR ev_sm.rf (Option.some.inj hf) hC (by decide +kernel)
    · have hf := ev_nf h3 hf
      refine ev_blk hX lkok_RX12 [(.aload_n 0, 1, 0, 0, 0), (.aload_n 0, 1, 0, 0, 0), (.getfield 180, 3, 12, 17, 0), (.sipush 10000, 3, 0, 0, 10000)] (by decide +kernel) (g := (sK S l0 == 15) && (true)) (lv' := [some (.ref l0), none]) (st' := [.int (10000 : Int32), .int (D2 l0 17), .ref l0]) (D' := D2) (pc' := 194) rfl (ev_gk hl0 (rfl)) rfl ?_
      refine ev_ic_ge hX (off := 25) 219 (by decide +kernel) (by decide) (fun h5 => ?_) (fun h5 => ?_)
      · have hf := ev_it h5 hf
        refine ev_blk hX lkok_RX12 [(.aload_n 0, 1, 0, 0, 0), (.getfield 180, 3, 12, 17, 0)] (by decide +kernel) (g := (sK S l0 == 15) && (true)) (lv' := [some (.ref l0), none]) (st' := [.int (D2 l0 17), .ref l0]) (D' := D2) (pc' := 223) rfl (ev_gk hl0 (rfl)) rfl ?_
        exact ev_weak hX (ev_le_eq (ev_le_no ev_le_nil)) (tX12_reads_223 hR hT hC  ih hl0 hl0 hf)
      · have hf := ev_nf h5 hf
        refine ev_blk hX lkok_RX12 [(.bipush 10, 2, 0, 0, 10), (.aload_n 0, 1, 0, 0, 0), (.getfield 180, 3, 12, 17, 0), (.imul, 1, 0, 0, 0), (.aload_n 0, 1, 0, 0, 0), (.aload_n 0, 1, 0, 0, 0), (.getfield 167, 3, 12, 14, 0)] (by decide +kernel) (g := (sK S l0 == 15) && ((sK S l0 == 15) && (true))) (lv' := [some (.ref l0), none]) (st' := [.int (D2 l0 14), .ref l0, .int ((10 : Int32) * (D2 l0 17)), .ref l0]) (D' := D2) (pc' := 209) rfl (ev_gk hl0 (ev_gk hl0 (rfl))) rfl ?_
        obtain ⟨v6, D6, hc6, hf⟩ := ev_bd_s hf
        refine ev_callV hX YX12_raw ml_RX12_170 (mX12_raw hT hl0 hc6) (vs := [.int (D2 l0 14)]) (st := [.int ((10 : Int32) * (D2 l0 17)), .ref l0]) (by decide) 12 hl0 rfl rfl rfl (by decide +kernel) hC ?_
        show F S D6 212 [some (.ref l0), none] [.int v6, .int ((10 : Int32) * (D2 l0 17)), .ref l0]
        refine ev_blk hX lkok_RX12 [(.iadd, 1, 0, 0, 0), (.bipush 48, 2, 0, 0, 48), (.isub, 1, 0, 0, 0)] (by decide +kernel) (g := true) (lv' := [some (.ref l0), none]) (st' := [.int ((((10 : Int32) * (D2 l0 17)) + v6) - (48 : Int32)), .ref l0]) (D' := D6) (pc' := 216) rfl (rfl) rfl ?_
        refine ev_goto hX (off := 7) 223 (by decide +kernel) (by decide) ?_
        exact ev_weak hX (ev_le_eq (ev_le_no ev_le_nil)) (tX12_reads_223 hR hT hC  ih hl0 hl0 hf)
set_option maxHeartbeats 4000000 in
set_option maxRecDepth 100000 in
theorem tX12_reads_95 {S : ev_S} {fu : Nat} {r : Int32 × ev_D} {F : ev_Fr} (hR : ev_R RX12 cX12_reads 2 2 0 0 false none S r F) (hT : ev_Ty S) (hC : sC S ≤ 0 ∧ sA S ≤ 0) : ∀ (n : Nat) (l0 : Nat) (D : ev_D), sK S l0 = 15 → fX12_reads_95 (sL S) (sE S) fu n l0 D = some r → F S D 95 [some (.ref l0), none] [] := by
  have hX := hR.X
  intro n
  induction n with
  | zero =>
    intro l0 D hl0 hf
    rw [fX12_reads_95] at hf
    cases hf
  | succ n ih =>
    intro l0 D hl0 hf
    rw [fX12_reads_95] at hf
    refine ev_blk hX lkok_RX12 [(.aload_n 0, 1, 0, 0, 0), (.aload_n 0, 1, 0, 0, 0), (.aload_n 0, 1, 0, 0, 0), (.getfield 167, 3, 12, 14, 0)] (by decide +kernel) (g := (sK S l0 == 15) && (true)) (lv' := [some (.ref l0), none]) (st' := [.int (D l0 14), .ref l0, .ref l0]) (D' := D) (pc' := 101) rfl (ev_gk hl0 (rfl)) rfl ?_
    obtain ⟨v7, D7, hc7, hf⟩ := ev_bd_s hf
    refine ev_callV hX YX12_raw ml_RX12_170 (mX12_raw hT hl0 hc7) (vs := [.int (D l0 14)]) (st := [.ref l0]) (by decide) 12 hl0 rfl rfl rfl (by decide +kernel) hC ?_
    show F S D7 104 [some (.ref l0), none] [.int v7, .ref l0]
    obtain ⟨v8, D8, hc8, hf⟩ := ev_bd_s hf
    refine ev_callV hX YX12_isLetter ml_RX12_183 (mX12_isLetter hT hl0 hc8) (vs := [.int v7]) (st := []) (by decide) 12 hl0 rfl rfl rfl (by decide +kernel) hC ?_
    show F S D8 107 [some (.ref l0), none] [.int v8]
    refine ev_if_eq hX (off := 16) 123 (by decide +kernel) (by decide) (fun h9 => ?_) (fun h9 => ?_)
    · have hf := ev_it h9 hf
      refine ev_blk hX lkok_RX12 [(.aload_n 0, 1, 0, 0, 0), (.aload_n 0, 1, 0, 0, 0), (.aload_n 0, 1, 0, 0, 0), (.getfield 174, 3, 12, 15, 0), (.aload_n 0, 1, 0, 0, 0), (.getfield 167, 3, 12, 14, 0)] (by decide +kernel) (g := (sK S l0 == 15) && ((sK S l0 == 15) && (true))) (lv' := [some (.ref l0), none]) (st' := [.int (D8 l0 14), .int (D8 l0 15), .ref l0, .ref l0]) (D' := D8) (pc' := 133) rfl (ev_gk hl0 (ev_gk hl0 (rfl))) rfl ?_
      obtain ⟨v10, D10, hc10, hf⟩ := ev_bd_s hf
      refine ev_callV hX YX12_wordAt ml_RX12_186 (mX12_wordAt hT hl0 hc10) (vs := [.int (D8 l0 15), .int (D8 l0 14)]) (st := [.ref l0]) (by decide) 12 hl0 rfl rfl rfl (by decide +kernel) hC ?_
      show F S D10 136 [some (.ref l0), none] [.int v10, .ref l0]
      refine ev_blk hX lkok_RX12 [(.putfield 180, 3, 12, 17, 0), (.aload_n 0, 1, 0, 0, 0), (.getfield 180, 3, 12, 17, 0), (.iconst (-1), 1, 0, 0, (-1))] (by decide +kernel) (g := (sK S l0 == 15) && ((sK S l0 == 15) && (true))) (lv' := [some (.ref l0), none]) (st' := [.int (-1 : Int32), .int ((ev_up D10 l0 17 v10) l0 17)]) (D' := (ev_up D10 l0 17 v10)) (pc' := 144) rfl (ev_gk hl0 (ev_gk hl0 (rfl))) rfl ?_
      refine ev_ic_eq hX (off := 129) 273 (by decide +kernel) (by decide) (fun h11 => ?_) (fun h11 => ?_)
      · have hf := ev_it h11 hf
        exact ev_vret hR ev_sm.rf (Option.some.inj hf) hC (by decide +kernel)
      · have hf := ev_nf h11 hf
        refine ev_blk hX lkok_RX12 [(.aload_n 0, 1, 0, 0, 0), (.iconst 2, 1, 0, 0, 2), (.putfield 177, 3, 12, 16, 0)] (by decide +kernel) (g := (sK S l0 == 15) && (true)) (lv' := [some (.ref l0), none]) (st' := []) (D' := (ev_up (ev_up D10 l0 17 v10) l0 16 (2 : Int32))) (pc' := 152) rfl (ev_gk hl0 (rfl)) rfl ?_
        refine ev_goto hX (off := 121) 273 (by decide +kernel) (by decide) ?_
        exact ev_vret hR ev_sm.rf (Option.some.inj hf) hC (by decide +kernel)
    · have hf := ev_nf h9 hf
      refine ev_blk hX lkok_RX12 [(.aload_n 0, 1, 0, 0, 0), (.aload_n 0, 1, 0, 0, 0), (.getfield 167, 3, 12, 14, 0), (.iconst 1, 1, 0, 0, 1), (.iadd, 1, 0, 0, 0), (.putfield 167, 3, 12, 14, 0)] (by decide +kernel) (g := (sK S l0 == 15) && ((sK S l0 == 15) && (true))) (lv' := [some (.ref l0), none]) (st' := []) (D' := (ev_up D8 l0 14 ((D8 l0 14) + (1 : Int32)))) (pc' := 120) rfl (ev_gk hl0 (ev_gk hl0 (rfl))) rfl ?_
      refine ev_goto hX (off := (-25)) 95 (by decide +kernel) (by decide) ?_
      exact ev_weak hX (ev_le_eq (ev_le_no ev_le_nil)) (ih _ _ hl0 hf)
set_option maxHeartbeats 4000000 in
set_option maxRecDepth 100000 in
theorem tX12_reads_0 {S : ev_S} {fu : Nat} {r : Int32 × ev_D} {F : ev_Fr} (hR : ev_R RX12 cX12_reads 2 2 0 0 false none S r F) (hT : ev_Ty S) (hC : sC S ≤ 0 ∧ sA S ≤ 0) : ∀ (n : Nat) (l0 : Nat) (D : ev_D), sK S l0 = 15 → fX12_reads_0 (sL S) (sE S) fu n l0 D = some r → F S D 0 [some (.ref l0), none] [] := by
  have hX := hR.X
  intro n
  induction n with
  | zero =>
    intro l0 D hl0 hf
    rw [fX12_reads_0] at hf
    cases hf
  | succ n ih =>
    intro l0 D hl0 hf
    rw [fX12_reads_0] at hf
    refine ev_blk hX lkok_RX12 [(.aload_n 0, 1, 0, 0, 0), (.aload_n 0, 1, 0, 0, 0), (.getfield 167, 3, 12, 14, 0)] (by decide +kernel) (g := (sK S l0 == 15) && (true)) (lv' := [some (.ref l0), none]) (st' := [.int (D l0 14), .ref l0]) (D' := D) (pc' := 5) rfl (ev_gk hl0 (rfl)) rfl ?_
    obtain ⟨v12, D12, hc12, hf⟩ := ev_bd_s hf
    refine ev_callV hX YX12_raw ml_RX12_170 (mX12_raw hT hl0 hc12) (vs := [.int (D l0 14)]) (st := []) (by decide) 12 hl0 rfl rfl rfl (by decide +kernel) hC ?_
    show F S D12 8 [some (.ref l0), none] [.int v12]
    refine ev_blk hX lkok_RX12 [(.bipush 32, 2, 0, 0, 32)] (by decide +kernel) (g := true) (lv' := [some (.ref l0), none]) (st' := [.int (32 : Int32), .int v12]) (D' := D12) (pc' := 10) rfl (rfl) rfl ?_
    refine ev_ic_eq hX (off := 16) 26 (by decide +kernel) (by decide) (fun h13 => ?_) (fun h13 => ?_)
    · have hf := ev_it h13 hf
      refine ev_blk hX lkok_RX12 [(.aload_n 0, 1, 0, 0, 0), (.aload_n 0, 1, 0, 0, 0), (.getfield 167, 3, 12, 14, 0), (.iconst 1, 1, 0, 0, 1), (.iadd, 1, 0, 0, 0), (.putfield 167, 3, 12, 14, 0)] (by decide +kernel) (g := (sK S l0 == 15) && ((sK S l0 == 15) && (true))) (lv' := [some (.ref l0), none]) (st' := []) (D' := (ev_up D12 l0 14 ((D12 l0 14) + (1 : Int32)))) (pc' := 36) rfl (ev_gk hl0 (ev_gk hl0 (rfl))) rfl ?_
      refine ev_goto hX (off := (-36)) 0 (by decide +kernel) (by decide) ?_
      exact ev_weak hX (ev_le_eq (ev_le_no ev_le_nil)) (ih _ _ hl0 hf)
    · have hf := ev_nf h13 hf
      refine ev_blk hX lkok_RX12 [(.aload_n 0, 1, 0, 0, 0), (.aload_n 0, 1, 0, 0, 0), (.getfield 167, 3, 12, 14, 0)] (by decide +kernel) (g := (sK S l0 == 15) && (true)) (lv' := [some (.ref l0), none]) (st' := [.int (D12 l0 14), .ref l0]) (D' := D12) (pc' := 18) rfl (ev_gk hl0 (rfl)) rfl ?_
      obtain ⟨v14, D14, hc14, hf⟩ := ev_bd_s hf
      refine ev_callV hX YX12_raw ml_RX12_170 (mX12_raw hT hl0 hc14) (vs := [.int (D12 l0 14)]) (st := []) (by decide) 12 hl0 rfl rfl rfl (by decide +kernel) hC ?_
      show F S D14 21 [some (.ref l0), none] [.int v14]
      refine ev_blk hX lkok_RX12 [(.bipush 10, 2, 0, 0, 10)] (by decide +kernel) (g := true) (lv' := [some (.ref l0), none]) (st' := [.int (10 : Int32), .int v14]) (D' := D14) (pc' := 23) rfl (rfl) rfl ?_
      refine ev_ic_ne hX (off := 16) 39 (by decide +kernel) (by decide) (fun h15 => ?_) (fun h15 => ?_)
      · have hf := ev_nf h15 hf
        refine ev_blk hX lkok_RX12 [(.aload_n 0, 1, 0, 0, 0), (.aload_n 0, 1, 0, 0, 0), (.getfield 167, 3, 12, 14, 0), (.putfield 174, 3, 12, 15, 0), (.aload_n 0, 1, 0, 0, 0), (.iconst 1, 1, 0, 0, 1), (.putfield 177, 3, 12, 16, 0), (.aload_n 0, 1, 0, 0, 0), (.aload_n 0, 1, 0, 0, 0), (.getfield 167, 3, 12, 14, 0)] (by decide +kernel) (g := (sK S l0 == 15) && ((sK S l0 == 15) && ((sK S l0 == 15) && ((sK S l0 == 15) && (true))))) (lv' := [some (.ref l0), none]) (st' := [.int ((ev_up (ev_up D14 l0 15 (D14 l0 14)) l0 16 (1 : Int32)) l0 14), .ref l0]) (D' := (ev_up (ev_up D14 l0 15 (D14 l0 14)) l0 16 (1 : Int32))) (pc' := 57) rfl (ev_gk hl0 (ev_gk hl0 (ev_gk hl0 (ev_gk hl0 (rfl))))) rfl ?_
        obtain ⟨v16, D16, hc16, hf⟩ := ev_bd_s hf
        refine ev_callV hX YX12_raw ml_RX12_170 (mX12_raw hT hl0 hc16) (vs := [.int ((ev_up (ev_up D14 l0 15 (D14 l0 14)) l0 16 (1 : Int32)) l0 14)]) (st := []) (by decide) 12 hl0 rfl rfl rfl (by decide +kernel) hC ?_
        show F S D16 60 [some (.ref l0), none] [.int v16]
        refine ev_blk hX lkok_RX12 [(.istore_n 1, 1, 0, 0, 0), (.iload_n 1, 1, 0, 0, 0), (.iconst (-1), 1, 0, 0, (-1))] (by decide +kernel) (g := true) (lv' := [some (.ref l0), some (.int v16)]) (st' := [.int (-1 : Int32), .int v16]) (D' := D16) (pc' := 63) rfl (rfl) rfl ?_
        refine ev_ic_ne hX (off := 9) 72 (by decide +kernel) (by decide) (fun h17 => ?_) (fun h17 => ?_)
        · have hf := ev_nf h17 hf
          refine ev_blk hX lkok_RX12 [(.aload_n 0, 1, 0, 0, 0), (.aload_n 0, 1, 0, 0, 0), (.getfield 167, 3, 12, 14, 0), (.iconst 1, 1, 0, 0, 1), (.iadd, 1, 0, 0, 0), (.putfield 167, 3, 12, 14, 0), (.aload_n 0, 1, 0, 0, 0), (.iload_n 1, 1, 0, 0, 0), (.putfield 180, 3, 12, 17, 0), (.aload_n 0, 1, 0, 0, 0), (.iload_n 1, 1, 0, 0, 0)] (by decide +kernel) (g := (sK S l0 == 15) && ((sK S l0 == 15) && ((sK S l0 == 15) && (true)))) (lv' := [some (.ref l0), some (.int v16)]) (st' := [.int v16, .ref l0]) (D' := (ev_up (ev_up D16 l0 14 ((D16 l0 14) + (1 : Int32))) l0 17 v16)) (pc' := 89) rfl (ev_gk hl0 (ev_gk hl0 (ev_gk hl0 (rfl)))) rfl ?_
          obtain ⟨v18, D18, hc18, hf⟩ := ev_bd_s hf
          refine ev_callV hX YX12_isLetter ml_RX12_183 (mX12_isLetter hT hl0 hc18) (vs := [.int v16]) (st := []) (by decide) 12 hl0 rfl rfl rfl (by decide +kernel) hC ?_
          show F S D18 92 [some (.ref l0), some (.int v16)] [.int v18]
          refine ev_if_eq hX (off := 63) 155 (by decide +kernel) (by decide) (fun h19 => ?_) (fun h19 => ?_)
          · have hf := ev_it h19 hf
            refine ev_blk hX lkok_RX12 [(.aload_n 0, 1, 0, 0, 0), (.iload_n 1, 1, 0, 0, 0)] (by decide +kernel) (g := true) (lv' := [some (.ref l0), some (.int v16)]) (st' := [.int v16, .ref l0]) (D' := D18) (pc' := 157) rfl (rfl) rfl ?_
            obtain ⟨v20, D20, hc20, hf⟩ := ev_bd_s hf
            refine ev_callV hX YX12_isDigit ml_RX12_190 (mX12_isDigit hT hl0 hc20) (vs := [.int v16]) (st := []) (by decide) 12 hl0 rfl rfl rfl (by decide +kernel) hC ?_
            show F S D20 160 [some (.ref l0), some (.int v16)] [.int v20]
            refine ev_if_eq hX (off := 100) 260 (by decide +kernel) (by decide) (fun h21 => ?_) (fun h21 => ?_)
            · have hf := ev_it h21 hf
              refine ev_blk hX lkok_RX12 [(.aload_n 0, 1, 0, 0, 0), (.iload_n 1, 1, 0, 0, 0)] (by decide +kernel) (g := true) (lv' := [some (.ref l0), some (.int v16)]) (st' := [.int v16, .ref l0]) (D' := D20) (pc' := 262) rfl (rfl) rfl ?_
              obtain ⟨v22, D22, hc22, hf⟩ := ev_bd_s hf
              refine ev_callV hX YX12_isMarkSign ml_RX12_193 (mX12_isMarkSign hT hl0 hc22) (vs := [.int v16]) (st := []) (by decide) 12 hl0 rfl rfl rfl (by decide +kernel) hC ?_
              show F S D22 265 [some (.ref l0), some (.int v16)] [.int v22]
              refine ev_if_eq hX (off := 8) 273 (by decide +kernel) (by decide) (fun h23 => ?_) (fun h23 => ?_)
              · have hf := ev_it h23 hf
                exact ev_vret hR ev_sm.rf (Option.some.inj hf) hC (by decide +kernel)
              · have hf := ev_nf h23 hf
                refine ev_blk hX lkok_RX12 [(.aload_n 0, 1, 0, 0, 0), (.iconst 4, 1, 0, 0, 4), (.putfield 177, 3, 12, 16, 0)] (by decide +kernel) (g := (sK S l0 == 15) && (true)) (lv' := [some (.ref l0), some (.int v16)]) (st' := []) (D' := (ev_up D22 l0 16 (4 : Int32))) (pc' := 273) rfl (ev_gk hl0 (rfl)) rfl ?_
                exact ev_vret hR ev_sm.rf (Option.some.inj hf) hC (by decide +kernel)
            · have hf := ev_nf h21 hf
              refine ev_blk hX lkok_RX12 [(.aload_n 0, 1, 0, 0, 0), (.iload_n 1, 1, 0, 0, 0), (.bipush 48, 2, 0, 0, 48), (.isub, 1, 0, 0, 0), (.putfield 180, 3, 12, 17, 0)] (by decide +kernel) (g := (sK S l0 == 15) && (true)) (lv' := [some (.ref l0), some (.int v16)]) (st' := []) (D' := (ev_up D20 l0 17 (v16 - (48 : Int32)))) (pc' := 171) rfl (ev_gk hl0 (rfl)) rfl ?_
              exact ev_weak hX (ev_le_eq (ev_le_no ev_le_nil)) (tX12_reads_171 hR hT hC   fu _ _ hl0 hf)
          · have hf := ev_nf h19 hf
            exact ev_weak hX (ev_le_eq (ev_le_no ev_le_nil)) (tX12_reads_95 hR hT hC   fu _ _ hl0 hf)
        · have hf := ev_it h17 hf
          refine ev_blk hX lkok_RX12 [(.aload_n 0, 1, 0, 0, 0), (.iconst 0, 1, 0, 0, 0), (.putfield 177, 3, 12, 16, 0)] (by decide +kernel) (g := (sK S l0 == 15) && (true)) (lv' := [some (.ref l0), some (.int v16)]) (st' := []) (D' := (ev_up D16 l0 16 (0 : Int32))) (pc' := 71) rfl (ev_gk hl0 (rfl)) rfl ?_
          exact ev_vret hR ev_sm.rf (Option.some.inj hf) hC (by decide +kernel)
      · have hf := ev_it h15 hf
        refine ev_blk hX lkok_RX12 [(.aload_n 0, 1, 0, 0, 0), (.aload_n 0, 1, 0, 0, 0), (.getfield 167, 3, 12, 14, 0), (.iconst 1, 1, 0, 0, 1), (.iadd, 1, 0, 0, 0), (.putfield 167, 3, 12, 14, 0)] (by decide +kernel) (g := (sK S l0 == 15) && ((sK S l0 == 15) && (true))) (lv' := [some (.ref l0), none]) (st' := []) (D' := (ev_up D14 l0 14 ((D14 l0 14) + (1 : Int32)))) (pc' := 36) rfl (ev_gk hl0 (ev_gk hl0 (rfl))) rfl ?_
        refine ev_goto hX (off := (-36)) 0 (by decide +kernel) (by decide) ?_
        exact ev_weak hX (ev_le_eq (ev_le_no ev_le_nil)) (ih _ _ hl0 hf)
set_option maxHeartbeats 4000000 in
set_option maxRecDepth 100000 in
theorem tX12_reads {S : ev_S} {fu : Nat} {r : Int32 × ev_D} {F : ev_Fr} (hR : ev_R RX12 cX12_reads 2 2 0 0 false none S r F) (hT : ev_Ty S) (hC : sC S ≤ 0 ∧ sA S ≤ 0) {l0 : Nat} {D : ev_D} (hl0 : sK S l0 = 15) (hf : fX12_reads (sL S) (sE S) fu l0 D = some r) : F S D 0 [some (.ref l0), none] [] := by
  have hX := hR.X
  unfold fX12_reads at hf
  exact ev_weak hX (ev_le_eq (ev_le_no ev_le_nil)) (tX12_reads_0 hR hT hC   fu _ _ hl0 hf)
theorem mX12_reads {S : ev_S} {fu : Nat} {r : Int32 × ev_D} (hT : ev_Ty S) {l0 : Nat} {D : ev_D} (hl0 : sK S l0 = 15) (hf : fX12_reads (sL S) (sE S) fu l0 D = some r) : ev_M 2 0 0 yX12_reads cX12_reads 2 none [.ref l0] S D S r :=
  ev_met (ini := false) (plainFor_of_name (by decide)) (fun h => by cases h) rfl (Nat.le_of_ble_eq_true rfl) (fun F hR => tX12_reads (S := ev_z S) hR hT ⟨Nat.le_refl 0, Nat.le_refl 0⟩ hl0 hf)
set_option maxHeartbeats 4000000 in
set_option maxRecDepth 100000 in
theorem tX12_readMark {S : ev_S} {fu : Nat} {r : Int32 × ev_D} {F : ev_Fr} (hR : ev_R RX12 cX12_readMark 2 3 0 0 false (some .int) S r F) (hT : ev_Ty S) (hC : sC S ≤ 0 ∧ sA S ≤ 0) {l0 : Nat} {l1 : Int32} {D : ev_D} (hl0 : sK S l0 = 15) (hf : fX12_readMark (sL S) (sE S) fu l0 l1 D = some r) : F S D 0 [some (.ref l0), some (.int l1)] [] := by
  have hX := hR.X
  unfold fX12_readMark at hf
  refine ev_blk hX lkok_RX12 [(.aload_n 0, 1, 0, 0, 0), (.iload_n 1, 1, 0, 0, 0)] (by decide +kernel) (g := true) (lv' := [some (.ref l0), some (.int l1)]) (st' := [.int l1, .ref l0]) (D' := D) (pc' := 2) rfl (rfl) rfl ?_
  obtain ⟨v1, D1, hc1, hf⟩ := ev_bd_s hf
  refine ev_callV hX YX12_isSign ml_RX12_222 (mX12_isSign hT hl0 hc1) (vs := [.int l1]) (st := []) (by decide) 12 hl0 rfl rfl rfl (by decide +kernel) hC ?_
  show F S D1 5 [some (.ref l0), some (.int l1)] [.int v1]
  refine ev_if_ne hX (off := 9) 14 (by decide +kernel) (by decide) (fun h2 => ?_) (fun h2 => ?_)
  · have hf := ev_nf h2 hf
    refine ev_blk hX lkok_RX12 [(.aload_n 0, 1, 0, 0, 0)] (by decide +kernel) (g := true) (lv' := [some (.ref l0), some (.int l1)]) (st' := [.ref l0]) (D' := D1) (pc' := 15) rfl (rfl) rfl ?_
    obtain ⟨v3, D3, hc3, hf⟩ := ev_bd_s hf
    refine ev_callV hX YX12_reads ml_RX12_215 (mX12_reads hT hl0 hc3) (vs := []) (st := []) (by decide) 12 hl0 rfl rfl rfl (by decide +kernel) hC ?_
    show F S D3 18 [some (.ref l0), some (.int l1)] []
    refine ev_blk hX lkok_RX12 [(.iconst 0, 1, 0, 0, 0)] (by decide +kernel) (g := true) (lv' := [some (.ref l0), some (.int l1)]) (st' := [.int (0 : Int32)]) (D' := D3) (pc' := 19) rfl (rfl) rfl ?_
    exact ev_iret hR ev_sm.rf (Option.some.inj hf) hC (by decide +kernel)
  · have hf := ev_it h2 hf
    refine ev_blk hX lkok_RX12 [(.aload_n 0, 1, 0, 0, 0), (.iconst 1, 1, 0, 0, 1)] (by decide +kernel) (g := true) (lv' := [some (.ref l0), some (.int l1)]) (st' := [.int (1 : Int32), .ref l0]) (D' := D1) (pc' := 10) rfl (rfl) rfl ?_
    obtain ⟨v4, D4, hc4, hf⟩ := ev_bd_s hf
    refine ev_callV hX YX12_errs ml_RX12_208 (mX12_errs hT hl0 hc4) (vs := [.int (1 : Int32)]) (st := []) (by decide) 12 hl0 rfl rfl rfl (by decide +kernel) hC ?_
    show F S D4 13 [some (.ref l0), some (.int l1)] [.int v4]
    exact ev_iret hR ev_sm.rf (Option.some.inj hf) hC (by decide +kernel)
theorem mX12_readMark {S : ev_S} {fu : Nat} {r : Int32 × ev_D} (hT : ev_Ty S) {l0 : Nat} {l1 : Int32} {D : ev_D} (hl0 : sK S l0 = 15) (hf : fX12_readMark (sL S) (sE S) fu l0 l1 D = some r) : ev_M 3 0 0 yX12_readMark cX12_readMark 2 (some .int) [.ref l0, .int l1] S D S r :=
  ev_met (ini := false) (plainFor_of_name (by decide)) (fun h => by cases h) rfl (Nat.le_of_ble_eq_true rfl) (fun F hR => tX12_readMark (S := ev_z S) hR hT ⟨Nat.le_refl 0, Nat.le_refl 0⟩ hl0 hf)
set_option maxHeartbeats 4000000 in
set_option maxRecDepth 100000 in
theorem tX12_readNumber {S : ev_S} {fu : Nat} {r : Int32 × ev_D} {F : ev_Fr} (hR : ev_R RX12 cX12_readNumber 4 3 0 0 false (some .int) S r F) (hT : ev_Ty S) (hC : sC S ≤ 0 ∧ sA S ≤ 0) {l0 : Nat} {l1 : Int32} {l2 : Int32} {D : ev_D} (hl0 : sK S l0 = 15) (hf : fX12_readNumber (sL S) (sE S) fu l0 l1 l2 D = some r) : F S D 0 [some (.ref l0), some (.int l1), some (.int l2), none] [] := by
  have hX := hR.X
  unfold fX12_readNumber at hf
  refine ev_blk hX lkok_RX12 [(.aload_n 0, 1, 0, 0, 0), (.getfield 177, 3, 12, 16, 0), (.iconst 3, 1, 0, 0, 3)] (by decide +kernel) (g := (sK S l0 == 15) && (true)) (lv' := [some (.ref l0), some (.int l1), some (.int l2), none]) (st' := [.int (3 : Int32), .int (D l0 16)]) (D' := D) (pc' := 5) rfl (ev_gk hl0 (rfl)) rfl ?_
  refine ev_ic_eq hX (off := 9) 14 (by decide +kernel) (by decide) (fun h1 => ?_) (fun h1 => ?_)
  · have hf := ev_it h1 hf
    refine ev_blk hX lkok_RX12 [(.aload_n 0, 1, 0, 0, 0), (.aload_n 0, 1, 0, 0, 0), (.getfield 180, 3, 12, 17, 0), (.iload_n 1, 1, 0, 0, 0), (.iload_n 2, 1, 0, 0, 0)] (by decide +kernel) (g := (sK S l0 == 15) && (true)) (lv' := [some (.ref l0), some (.int l1), some (.int l2), none]) (st' := [.int l2, .int l1, .int (D l0 17), .ref l0]) (D' := D) (pc' := 21) rfl (ev_gk hl0 (rfl)) rfl ?_
    obtain ⟨v2, D2, hc2, hf⟩ := ev_bd_s hf
    refine ev_callV hX YX12_isIn ml_RX12_150 (mX12_isIn hT hl0 hc2) (vs := [.int (D l0 17), .int l1, .int l2]) (st := []) (by decide) 12 hl0 rfl rfl rfl (by decide +kernel) hC ?_
    show F S D2 24 [some (.ref l0), some (.int l1), some (.int l2), none] [.int v2]
    refine ev_if_ne hX (off := 9) 33 (by decide +kernel) (by decide) (fun h3 => ?_) (fun h3 => ?_)
    · have hf := ev_nf h3 hf
      refine ev_blk hX lkok_RX12 [(.aload_n 0, 1, 0, 0, 0), (.getfield 180, 3, 12, 17, 0), (.istore_n 3, 1, 0, 0, 0), (.aload_n 0, 1, 0, 0, 0)] (by decide +kernel) (g := (sK S l0 == 15) && (true)) (lv' := [some (.ref l0), some (.int l1), some (.int l2), some (.int (D2 l0 17))]) (st' := [.ref l0]) (D' := D2) (pc' := 39) rfl (ev_gk hl0 (rfl)) rfl ?_
      obtain ⟨v4, D4, hc4, hf⟩ := ev_bd_s hf
      refine ev_callV hX YX12_reads ml_RX12_215 (mX12_reads hT hl0 hc4) (vs := []) (st := []) (by decide) 12 hl0 rfl rfl rfl (by decide +kernel) hC ?_
      show F S D4 42 [some (.ref l0), some (.int l1), some (.int l2), some (.int (D2 l0 17))] []
      refine ev_blk hX lkok_RX12 [(.iload_n 3, 1, 0, 0, 0)] (by decide +kernel) (g := true) (lv' := [some (.ref l0), some (.int l1), some (.int l2), some (.int (D2 l0 17))]) (st' := [.int (D2 l0 17)]) (D' := D4) (pc' := 43) rfl (rfl) rfl ?_
      exact ev_iret hR ev_sm.rf (Option.some.inj hf) hC (by decide +kernel)
    · have hf := ev_it h3 hf
      refine ev_blk hX lkok_RX12 [(.aload_n 0, 1, 0, 0, 0), (.iconst 2, 1, 0, 0, 2)] (by decide +kernel) (g := true) (lv' := [some (.ref l0), some (.int l1), some (.int l2), none]) (st' := [.int (2 : Int32), .ref l0]) (D' := D2) (pc' := 29) rfl (rfl) rfl ?_
      obtain ⟨v5, D5, hc5, hf⟩ := ev_bd_s hf
      refine ev_callV hX YX12_errs ml_RX12_208 (mX12_errs hT hl0 hc5) (vs := [.int (2 : Int32)]) (st := []) (by decide) 12 hl0 rfl rfl rfl (by decide +kernel) hC ?_
      show F S D5 32 [some (.ref l0), some (.int l1), some (.int l2), none] [.int v5]
      exact ev_iret hR ev_sm.rf (Option.some.inj hf) hC (by decide +kernel)
  · have hf := ev_nf h1 hf
    refine ev_blk hX lkok_RX12 [(.aload_n 0, 1, 0, 0, 0), (.iconst 1, 1, 0, 0, 1)] (by decide +kernel) (g := true) (lv' := [some (.ref l0), some (.int l1), some (.int l2), none]) (st' := [.int (1 : Int32), .ref l0]) (D' := D) (pc' := 10) rfl (rfl) rfl ?_
    obtain ⟨v6, D6, hc6, hf⟩ := ev_bd_s hf
    refine ev_callV hX YX12_errs ml_RX12_208 (mX12_errs hT hl0 hc6) (vs := [.int (1 : Int32)]) (st := []) (by decide) 12 hl0 rfl rfl rfl (by decide +kernel) hC ?_
    show F S D6 13 [some (.ref l0), some (.int l1), some (.int l2), none] [.int v6]
    exact ev_iret hR ev_sm.rf (Option.some.inj hf) hC (by decide +kernel)
theorem mX12_readNumber {S : ev_S} {fu : Nat} {r : Int32 × ev_D} (hT : ev_Ty S) {l0 : Nat} {l1 : Int32} {l2 : Int32} {D : ev_D} (hl0 : sK S l0 = 15) (hf : fX12_readNumber (sL S) (sE S) fu l0 l1 l2 D = some r) : ev_M 3 0 0 yX12_readNumber cX12_readNumber 4 (some .int) [.ref l0, .int l1, .int l2] S D S r :=
  ev_met (ini := false) (plainFor_of_name (by decide)) (fun h => by cases h) rfl (Nat.le_of_ble_eq_true rfl) (fun F hR => tX12_readNumber (S := ev_z S) hR hT ⟨Nat.le_refl 0, Nat.le_refl 0⟩ hl0 hf)
set_option maxHeartbeats 4000000 in
set_option maxRecDepth 100000 in
theorem tX12_readChange_68 {S : ev_S} {fu : Nat} {r : Int32 × ev_D} {F : ev_Fr} (hR : ev_R RX12 cX12_readChange 5 4 0 0 false (some .int) S r F) (hT : ev_Ty S) (hC : sC S ≤ 0 ∧ sA S ≤ 0) {k8 : Nat → Int32 → Int32 → Int32 → ev_D → ev_Op} (hk8 : ∀ (l0 : Nat) (l1 : Int32) (l2 : Int32) (l3 : Int32) (D : ev_D), sK S l0 = 15 → k8 l0 l1 l2 l3 D = some r → F S D 8 [some (.ref l0), some (.int l1), some (.int l2), some (.int l3), none] []) {l0 : Nat} {l1 : Int32} {l2 : Int32} {D : ev_D} (hl0 : sK S l0 = 15) (hf : fX12_readChange_68 (sL S) (sE S) fu k8 l0 l1 l2 D = some r) : F S D 68 [some (.ref l0), some (.int l1), some (.int l2), none, none] [] := by
  have hX := hR.X
  unfold fX12_readChange_68 at hf
  refine ev_blk hX lkok_RX12 [(.aload_n 0, 1, 0, 0, 0), (.iconst 0, 1, 0, 0, 0), (.bipush 6, 2, 0, 0, 6)] (by decide +kernel) (g := true) (lv' := [some (.ref l0), some (.int l1), some (.int l2), none, none]) (st' := [.int (6 : Int32), .int (0 : Int32), .ref l0]) (D' := D) (pc' := 72) rfl (rfl) rfl ?_
  obtain ⟨v1, D1, hc1, hf⟩ := ev_bd_s hf
  refine ev_callV hX YX12_readNumber ml_RX12_259 (mX12_readNumber hT hl0 hc1) (vs := [.int (0 : Int32), .int (6 : Int32)]) (st := []) (by decide) 12 hl0 rfl rfl rfl (by decide +kernel) hC ?_
  show F S D1 75 [some (.ref l0), some (.int l1), some (.int l2), none, none] [.int v1]
  refine ev_blk hX lkok_RX12 [(.istore 4, 2, 0, 0, 0), (.iload 4, 2, 0, 0, 0), (.iconst (-1), 1, 0, 0, (-1))] (by decide +kernel) (g := true) (lv' := [some (.ref l0), some (.int l1), some (.int l2), none, some (.int v1)]) (st' := [.int (-1 : Int32), .int v1]) (D' := D1) (pc' := 80) rfl (rfl) rfl ?_
  refine ev_ic_ne hX (off := 5) 85 (by decide +kernel) (by decide) (fun h2 => ?_) (fun h2 => ?_)
  · have hf := ev_nf h2 hf
    refine ev_blk hX lkok_RX12 [(.iload_n 2, 1, 0, 0, 0), (.iconst 1, 1, 0, 0, 1), (.iload 4, 2, 0, 0, 0), (.ishl, 1, 0, 0, 0), (.ior, 1, 0, 0, 0), (.istore_n 2, 1, 0, 0, 0), (.aload_n 0, 1, 0, 0, 0), (.getfield 177, 3, 12, 16, 0), (.iconst 3, 1, 0, 0, 3)] (by decide +kernel) (g := (sK S l0 == 15) && (true)) (lv' := [some (.ref l0), some (.int l1), some (.int (l2 ||| ((1 : Int32) <<< (v1 &&& 31)))), none, some (.int v1)]) (st' := [.int (3 : Int32), .int (D1 l0 16)]) (D' := D1) (pc' := 97) rfl (ev_gk hl0 (rfl)) rfl ?_
    refine ev_ic_ne hX (off := 7) 104 (by decide +kernel) (by decide) (fun h3 => ?_) (fun h3 => ?_)
    · have hf := ev_nf h3 hf
      refine ev_blk hX lkok_RX12 [(.iconst 0, 1, 0, 0, 0), (.istore_n 3, 1, 0, 0, 0)] (by decide +kernel) (g := true) (lv' := [some (.ref l0), some (.int l1), some (.int (l2 ||| ((1 : Int32) <<< (v1 &&& 31)))), some (.int (0 : Int32)), some (.int v1)]) (st' := []) (D' := D1) (pc' := 106) rfl (rfl) rfl ?_
      refine ev_goto hX (off := (-98)) 8 (by decide +kernel) (by decide) ?_
      exact ev_weak hX (ev_le_eq (ev_le_eq (ev_le_eq (ev_le_eq (ev_le_no ev_le_nil))))) (hk8 _ _ _ _ _ hl0 hf)
    · have hf := ev_it h3 hf
      refine ev_blk hX lkok_RX12 [(.iconst 1, 1, 0, 0, 1)] (by decide +kernel) (g := true) (lv' := [some (.ref l0), some (.int l1), some (.int (l2 ||| ((1 : Int32) <<< (v1 &&& 31)))), none, some (.int v1)]) (st' := [.int (1 : Int32)]) (D' := D1) (pc' := 101) rfl (rfl) rfl ?_
      refine ev_goto hX (off := 4) 105 (by decide +kernel) (by decide) ?_
      refine ev_blk hX lkok_RX12 [(.istore_n 3, 1, 0, 0, 0)] (by decide +kernel) (g := true) (lv' := [some (.ref l0), some (.int l1), some (.int (l2 ||| ((1 : Int32) <<< (v1 &&& 31)))), some (.int (1 : Int32)), some (.int v1)]) (st' := []) (D' := D1) (pc' := 106) rfl (rfl) rfl ?_
      refine ev_goto hX (off := (-98)) 8 (by decide +kernel) (by decide) ?_
      exact ev_weak hX (ev_le_eq (ev_le_eq (ev_le_eq (ev_le_eq (ev_le_no ev_le_nil))))) (hk8 _ _ _ _ _ hl0 hf)
  · have hf := ev_it h2 hf
    refine ev_blk hX lkok_RX12 [(.iconst (-1), 1, 0, 0, (-1))] (by decide +kernel) (g := true) (lv' := [some (.ref l0), some (.int l1), some (.int l2), none, some (.int v1)]) (st' := [.int (-1 : Int32)]) (D' := D1) (pc' := 84) rfl (rfl) rfl ?_
    exact ev_iret hR ev_sm.rf (Option.some.inj hf) hC (by decide +kernel)
set_option maxHeartbeats 4000000 in
set_option maxRecDepth 100000 in
theorem tX12_readChange_8 {S : ev_S} {fu : Nat} {r : Int32 × ev_D} {F : ev_Fr} (hR : ev_R RX12 cX12_readChange 5 4 0 0 false (some .int) S r F) (hT : ev_Ty S) (hC : sC S ≤ 0 ∧ sA S ≤ 0) : ∀ (n : Nat) (l0 : Nat) (l1 : Int32) (l2 : Int32) (l3 : Int32) (D : ev_D), sK S l0 = 15 → fX12_readChange_8 (sL S) (sE S) fu n l0 l1 l2 l3 D = some r → F S D 8 [some (.ref l0), some (.int l1), some (.int l2), some (.int l3), none] [] := by
  have hX := hR.X
  intro n
  induction n with
  | zero =>
    intro l0 l1 l2 l3 D hl0 hf
    rw [fX12_readChange_8] at hf
    cases hf
  | succ n ih =>
    intro l0 l1 l2 l3 D hl0 hf
    rw [fX12_readChange_8] at hf
    refine ev_blk hX lkok_RX12 [(.iload_n 3, 1, 0, 0, 0)] (by decide +kernel) (g := true) (lv' := [some (.ref l0), some (.int l1), some (.int l2), some (.int l3), none]) (st' := [.int l3]) (D' := D) (pc' := 9) rfl (rfl) rfl ?_
    refine ev_if_eq hX (off := 100) 109 (by decide +kernel) (by decide) (fun h4 => ?_) (fun h4 => ?_)
    · have hf := ev_it h4 hf
      obtain ⟨hg6, hf⟩ := ev_gd_s hf
      refine ev_blk hX lkok_RX12 [(.aload_n 0, 1, 0, 0, 0), (.getfield 74, 3, 12, 40, 0), (.iload_n 1, 1, 0, 0, 0), (.iload_n 2, 1, 0, 0, 0), (.iastore, 1, 0, 0, 0), (.aload_n 0, 1, 0, 0, 0), (.bipush 59, 2, 0, 0, 59)] (by decide +kernel) (g := (sK S l0 == 15) && ((sK S ((sE S) l0 40) == 1 && ev_in l1 ((sL S) ((sE S) l0 40))) && (true))) (lv' := [some (.ref l0), some (.int l1), some (.int l2), some (.int l3), none]) (st' := [.int (59 : Int32), .ref l0]) (D' := (ev_up D ((sE S) l0 40) (l1).toNatClampNeg l2)) (pc' := 119) rfl (ev_gk hl0 (ev_gi (ev_tyk hT hl0 rfl rfl) hg6 (rfl))) rfl ?_
      obtain ⟨v5, D5, hc5, hf⟩ := ev_bd_s hf
      refine ev_callV hX YX12_readMark ml_RX12_266 (mX12_readMark hT hl0 hc5) (vs := [.int (59 : Int32)]) (st := []) (by decide) 12 hl0 rfl rfl rfl (by decide +kernel) hC ?_
      show F S D5 122 [some (.ref l0), some (.int l1), some (.int l2), some (.int l3), none] [.int v5]
      exact ev_iret hR ev_sm.rf (Option.some.inj hf) hC (by decide +kernel)
    · have hf := ev_nf h4 hf
      refine ev_blk hX lkok_RX12 [(.aload_n 0, 1, 0, 0, 0), (.getfield 177, 3, 12, 16, 0), (.iconst 3, 1, 0, 0, 3)] (by decide +kernel) (g := (sK S l0 == 15) && (true)) (lv' := [some (.ref l0), some (.int l1), some (.int l2), some (.int l3), none]) (st' := [.int (3 : Int32), .int (D l0 16)]) (D' := D) (pc' := 17) rfl (ev_gk hl0 (rfl)) rfl ?_
      refine ev_ic_ne hX (off := 51) 68 (by decide +kernel) (by decide) (fun h7 => ?_) (fun h7 => ?_)
      · have hf := ev_nf h7 hf
        exact ev_weak hX (ev_le_eq (ev_le_eq (ev_le_eq (ev_le_no (ev_le_no ev_le_nil))))) (tX12_readChange_68 hR hT hC  ih hl0 hf)
      · have hf := ev_it h7 hf
        refine ev_blk hX lkok_RX12 [(.aload_n 0, 1, 0, 0, 0), (.getfield 180, 3, 12, 17, 0), (.bipush 7, 2, 0, 0, 7)] (by decide +kernel) (g := (sK S l0 == 15) && (true)) (lv' := [some (.ref l0), some (.int l1), some (.int l2), some (.int l3), none]) (st' := [.int (7 : Int32), .int (D l0 17)]) (D' := D) (pc' := 26) rfl (ev_gk hl0 (rfl)) rfl ?_
        refine ev_ic_ge hX (off := 42) 68 (by decide +kernel) (by decide) (fun h8 => ?_) (fun h8 => ?_)
        · have hf := ev_it h8 hf
          exact ev_weak hX (ev_le_eq (ev_le_eq (ev_le_eq (ev_le_no (ev_le_no ev_le_nil))))) (tX12_readChange_68 hR hT hC  ih hl0 hf)
        · have hf := ev_nf h8 hf
          refine ev_blk hX lkok_RX12 [(.iload_n 2, 1, 0, 0, 0), (.aload_n 0, 1, 0, 0, 0), (.getfield 180, 3, 12, 17, 0), (.ishr, 1, 0, 0, 0), (.iconst 1, 1, 0, 0, 1), (.iand, 1, 0, 0, 0), (.iload_n 2, 1, 0, 0, 0), (.iconst 1, 1, 0, 0, 1), (.ishl, 1, 0, 0, 0), (.aload_n 0, 1, 0, 0, 0), (.getfield 180, 3, 12, 17, 0), (.ishr, 1, 0, 0, 0), (.iconst 1, 1, 0, 0, 1), (.iand, 1, 0, 0, 0), (.iadd, 1, 0, 0, 0), (.iload_n 2, 1, 0, 0, 0), (.aload_n 0, 1, 0, 0, 0), (.getfield 180, 3, 12, 17, 0), (.iconst 1, 1, 0, 0, 1), (.iadd, 1, 0, 0, 0), (.ishr, 1, 0, 0, 0), (.iconst 1, 1, 0, 0, 1), (.iand, 1, 0, 0, 0), (.iadd, 1, 0, 0, 0)] (by decide +kernel) (g := (sK S l0 == 15) && ((sK S l0 == 15) && ((sK S l0 == 15) && (true)))) (lv' := [some (.ref l0), some (.int l1), some (.int l2), some (.int l3), none]) (st' := [.int ((((l2 >>> ((D l0 17) &&& 31)) &&& (1 : Int32)) + (((l2 <<< ((1 : Int32) &&& 31)) >>> ((D l0 17) &&& 31)) &&& (1 : Int32))) + ((l2 >>> (((D l0 17) + (1 : Int32)) &&& 31)) &&& (1 : Int32)))]) (D' := D) (pc' := 59) rfl (ev_gk hl0 (ev_gk hl0 (ev_gk hl0 (rfl)))) rfl ?_
          refine ev_if_le hX (off := 9) 68 (by decide +kernel) (by decide) (fun h9 => ?_) (fun h9 => ?_)
          · have hf := ev_it h9 hf
            exact ev_weak hX (ev_le_eq (ev_le_eq (ev_le_eq (ev_le_no (ev_le_no ev_le_nil))))) (tX12_readChange_68 hR hT hC  ih hl0 hf)
          · have hf := ev_nf h9 hf
            refine ev_blk hX lkok_RX12 [(.aload_n 0, 1, 0, 0, 0), (.iconst 2, 1, 0, 0, 2)] (by decide +kernel) (g := true) (lv' := [some (.ref l0), some (.int l1), some (.int l2), some (.int l3), none]) (st' := [.int (2 : Int32), .ref l0]) (D' := D) (pc' := 64) rfl (rfl) rfl ?_
            obtain ⟨v10, D10, hc10, hf⟩ := ev_bd_s hf
            refine ev_callV hX YX12_errs ml_RX12_208 (mX12_errs hT hl0 hc10) (vs := [.int (2 : Int32)]) (st := []) (by decide) 12 hl0 rfl rfl rfl (by decide +kernel) hC ?_
            show F S D10 67 [some (.ref l0), some (.int l1), some (.int l2), some (.int l3), none] [.int v10]
            exact ev_iret hR ev_sm.rf (Option.some.inj hf) hC (by decide +kernel)
set_option maxHeartbeats 4000000 in
set_option maxRecDepth 100000 in
theorem tX12_readChange {S : ev_S} {fu : Nat} {r : Int32 × ev_D} {F : ev_Fr} (hR : ev_R RX12 cX12_readChange 5 4 0 0 false (some .int) S r F) (hT : ev_Ty S) (hC : sC S ≤ 0 ∧ sA S ≤ 0) {l0 : Nat} {l1 : Int32} {D : ev_D} (hl0 : sK S l0 = 15) (hf : fX12_readChange (sL S) (sE S) fu l0 l1 D = some r) : F S D 0 [some (.ref l0), some (.int l1), none, none, none] [] := by
  have hX := hR.X
  unfold fX12_readChange at hf
  refine ev_blk hX lkok_RX12 [(.aload_n 0, 1, 0, 0, 0)] (by decide +kernel) (g := true) (lv' := [some (.ref l0), some (.int l1), none, none, none]) (st' := [.ref l0]) (D' := D) (pc' := 1) rfl (rfl) rfl ?_
  obtain ⟨v11, D11, hc11, hf⟩ := ev_bd_s hf
  refine ev_callV hX YX12_reads ml_RX12_215 (mX12_reads hT hl0 hc11) (vs := []) (st := []) (by decide) 12 hl0 rfl rfl rfl (by decide +kernel) hC ?_
  show F S D11 4 [some (.ref l0), some (.int l1), none, none, none] []
  refine ev_blk hX lkok_RX12 [(.iconst 0, 1, 0, 0, 0), (.istore_n 2, 1, 0, 0, 0), (.iconst 1, 1, 0, 0, 1), (.istore_n 3, 1, 0, 0, 0)] (by decide +kernel) (g := true) (lv' := [some (.ref l0), some (.int l1), some (.int (0 : Int32)), some (.int (1 : Int32)), none]) (st' := []) (D' := D11) (pc' := 8) rfl (rfl) rfl ?_
  exact ev_weak hX (ev_le_eq (ev_le_eq (ev_le_eq (ev_le_eq (ev_le_no ev_le_nil))))) (tX12_readChange_8 hR hT hC   fu _ _ _ _ _ hl0 hf)
theorem mX12_readChange {S : ev_S} {fu : Nat} {r : Int32 × ev_D} (hT : ev_Ty S) {l0 : Nat} {l1 : Int32} {D : ev_D} (hl0 : sK S l0 = 15) (hf : fX12_readChange (sL S) (sE S) fu l0 l1 D = some r) : ev_M 4 0 0 yX12_readChange cX12_readChange 5 (some .int) [.ref l0, .int l1] S D S r :=
  ev_met (ini := false) (plainFor_of_name (by decide)) (fun h => by cases h) rfl (Nat.le_of_ble_eq_true rfl) (fun F hR => tX12_readChange (S := ev_z S) hR hT ⟨Nat.le_refl 0, Nat.le_refl 0⟩ hl0 hf)
set_option maxHeartbeats 4000000 in
set_option maxRecDepth 100000 in
theorem tX12_readChanges_2 {S : ev_S} {fu : Nat} {r : Int32 × ev_D} {F : ev_Fr} (hR : ev_R RX12 cX12_readChanges 2 5 0 0 false (some .int) S r F) (hT : ev_Ty S) (hC : sC S ≤ 0 ∧ sA S ≤ 0) : ∀ (n : Nat) (l0 : Nat) (l1 : Int32) (D : ev_D), sK S l0 = 15 → fX12_readChanges_2 (sL S) (sE S) fu n l0 l1 D = some r → F S D 2 [some (.ref l0), some (.int l1)] [] := by
  have hX := hR.X
  intro n
  induction n with
  | zero =>
    intro l0 l1 D hl0 hf
    rw [fX12_readChanges_2] at hf
    cases hf
  | succ n ih =>
    intro l0 l1 D hl0 hf
    rw [fX12_readChanges_2] at hf
    refine ev_blk hX lkok_RX12 [(.aload_n 0, 1, 0, 0, 0), (.bipush 26, 2, 0, 0, 26)] (by decide +kernel) (g := true) (lv' := [some (.ref l0), some (.int l1)]) (st' := [.int (26 : Int32), .ref l0]) (D' := D) (pc' := 5) rfl (rfl) rfl ?_
    obtain ⟨v1, D1, hc1, hf⟩ := ev_bd_s hf
    refine ev_callV hX YX12_isWord ml_RX12_237 (mX12_isWord hT hl0 hc1) (vs := [.int (26 : Int32)]) (st := []) (by decide) 12 hl0 rfl rfl rfl (by decide +kernel) hC ?_
    show F S D1 8 [some (.ref l0), some (.int l1)] [.int v1]
    refine ev_if_eq hX (off := 36) 44 (by decide +kernel) (by decide) (fun h2 => ?_) (fun h2 => ?_)
    · have hf := ev_it h2 hf
      refine ev_blk hX lkok_RX12 [(.aload_n 0, 1, 0, 0, 0), (.getfield 177, 3, 12, 16, 0)] (by decide +kernel) (g := (sK S l0 == 15) && (true)) (lv' := [some (.ref l0), some (.int l1)]) (st' := [.int (D1 l0 16)]) (D' := D1) (pc' := 48) rfl (ev_gk hl0 (rfl)) rfl ?_
      refine ev_if_ne hX (off := 7) 55 (by decide +kernel) (by decide) (fun h3 => ?_) (fun h3 => ?_)
      · have hf := ev_nf h3 hf
        refine ev_blk hX lkok_RX12 [(.aload_n 0, 1, 0, 0, 0), (.iconst 1, 1, 0, 0, 1)] (by decide +kernel) (g := true) (lv' := [some (.ref l0), some (.int l1)]) (st' := [.int (1 : Int32), .ref l0]) (D' := D1) (pc' := 57) rfl (rfl) rfl ?_
        obtain ⟨v4, D4, hc4, hf⟩ := ev_bd_s hf
        refine ev_callV hX YX12_errs ml_RX12_208 (mX12_errs hT hl0 hc4) (vs := [.int (1 : Int32)]) (st := []) (by decide) 12 hl0 rfl rfl rfl (by decide +kernel) hC ?_
        show F S D4 60 [some (.ref l0), some (.int l1)] [.int v4]
        exact ev_iret hR ev_sm.rf (Option.some.inj hf) hC (by decide +kernel)
      · have hf := ev_it h3 hf
        refine ev_blk hX lkok_RX12 [(.iload_n 1, 1, 0, 0, 0)] (by decide +kernel) (g := true) (lv' := [some (.ref l0), some (.int l1)]) (st' := [.int l1]) (D' := D1) (pc' := 52) rfl (rfl) rfl ?_
        refine ev_goto hX (off := 8) 60 (by decide +kernel) (by decide) ?_
        exact ev_iret hR ev_sm.rf (Option.some.inj hf) hC (by decide +kernel)
    · have hf := ev_nf h2 hf
      refine ev_blk hX lkok_RX12 [(.iload_n 1, 1, 0, 0, 0), (.bipush 16, 2, 0, 0, 16)] (by decide +kernel) (g := true) (lv' := [some (.ref l0), some (.int l1)]) (st' := [.int (16 : Int32), .int l1]) (D' := D1) (pc' := 14) rfl (rfl) rfl ?_
      refine ev_ic_ne hX (off := 9) 23 (by decide +kernel) (by decide) (fun h5 => ?_) (fun h5 => ?_)
      · have hf := ev_nf h5 hf
        refine ev_blk hX lkok_RX12 [(.aload_n 0, 1, 0, 0, 0), (.bipush 16, 2, 0, 0, 16), (.iload_n 1, 1, 0, 0, 0), (.iadd, 1, 0, 0, 0)] (by decide +kernel) (g := true) (lv' := [some (.ref l0), some (.int l1)]) (st' := [.int ((16 : Int32) + l1), .ref l0]) (D' := D1) (pc' := 28) rfl (rfl) rfl ?_
        obtain ⟨v6, D6, hc6, hf⟩ := ev_bd_s hf
        refine ev_callV hX YX12_readChange ml_RX12_275 (mX12_readChange hT hl0 hc6) (vs := [.int ((16 : Int32) + l1)]) (st := []) (by decide) 12 hl0 rfl rfl rfl (by decide +kernel) hC ?_
        show F S D6 31 [some (.ref l0), some (.int l1)] [.int v6]
        refine ev_blk hX lkok_RX12 [(.iconst (-1), 1, 0, 0, (-1))] (by decide +kernel) (g := true) (lv' := [some (.ref l0), some (.int l1)]) (st' := [.int (-1 : Int32), .int v6]) (D' := D6) (pc' := 32) rfl (rfl) rfl ?_
        refine ev_ic_ne hX (off := 5) 37 (by decide +kernel) (by decide) (fun h7 => ?_) (fun h7 => ?_)
        · have hf := ev_nf h7 hf
          refine ev_blk hX lkok_RX12 [(.iload_n 1, 1, 0, 0, 0), (.iconst 1, 1, 0, 0, 1), (.iadd, 1, 0, 0, 0), (.istore_n 1, 1, 0, 0, 0)] (by decide +kernel) (g := true) (lv' := [some (.ref l0), some (.int (l1 + (1 : Int32)))]) (st' := []) (D' := D6) (pc' := 41) rfl (rfl) rfl ?_
          refine ev_goto hX (off := (-39)) 2 (by decide +kernel) (by decide) ?_
          exact ev_weak hX (ev_le_eq (ev_le_eq ev_le_nil)) (ih _ _ _ hl0 hf)
        · have hf := ev_it h7 hf
          refine ev_blk hX lkok_RX12 [(.iconst (-1), 1, 0, 0, (-1))] (by decide +kernel) (g := true) (lv' := [some (.ref l0), some (.int l1)]) (st' := [.int (-1 : Int32)]) (D' := D6) (pc' := 36) rfl (rfl) rfl ?_
          exact ev_iret hR ev_sm.rf (Option.some.inj hf) hC (by decide +kernel)
      · have hf := ev_it h5 hf
        refine ev_blk hX lkok_RX12 [(.aload_n 0, 1, 0, 0, 0), (.iconst 3, 1, 0, 0, 3)] (by decide +kernel) (g := true) (lv' := [some (.ref l0), some (.int l1)]) (st' := [.int (3 : Int32), .ref l0]) (D' := D1) (pc' := 19) rfl (rfl) rfl ?_
        obtain ⟨v8, D8, hc8, hf⟩ := ev_bd_s hf
        refine ev_callV hX YX12_errs ml_RX12_208 (mX12_errs hT hl0 hc8) (vs := [.int (3 : Int32)]) (st := []) (by decide) 12 hl0 rfl rfl rfl (by decide +kernel) hC ?_
        show F S D8 22 [some (.ref l0), some (.int l1)] [.int v8]
        exact ev_iret hR ev_sm.rf (Option.some.inj hf) hC (by decide +kernel)
set_option maxHeartbeats 4000000 in
set_option maxRecDepth 100000 in
theorem tX12_readChanges {S : ev_S} {fu : Nat} {r : Int32 × ev_D} {F : ev_Fr} (hR : ev_R RX12 cX12_readChanges 2 5 0 0 false (some .int) S r F) (hT : ev_Ty S) (hC : sC S ≤ 0 ∧ sA S ≤ 0) {l0 : Nat} {D : ev_D} (hl0 : sK S l0 = 15) (hf : fX12_readChanges (sL S) (sE S) fu l0 D = some r) : F S D 0 [some (.ref l0), none] [] := by
  have hX := hR.X
  unfold fX12_readChanges at hf
  refine ev_blk hX lkok_RX12 [(.iconst 0, 1, 0, 0, 0), (.istore_n 1, 1, 0, 0, 0)] (by decide +kernel) (g := true) (lv' := [some (.ref l0), some (.int (0 : Int32))]) (st' := []) (D' := D) (pc' := 2) rfl (rfl) rfl ?_
  exact ev_weak hX (ev_le_eq (ev_le_eq ev_le_nil)) (tX12_readChanges_2 hR hT hC   fu _ _ _ hl0 hf)
theorem mX12_readChanges {S : ev_S} {fu : Nat} {r : Int32 × ev_D} (hT : ev_Ty S) {l0 : Nat} {D : ev_D} (hl0 : sK S l0 = 15) (hf : fX12_readChanges (sL S) (sE S) fu l0 D = some r) : ev_M 5 0 0 yX12_readChanges cX12_readChanges 2 (some .int) [.ref l0] S D S r :=
  ev_met (ini := false) (plainFor_of_name (by decide)) (fun h => by cases h) rfl (Nat.le_of_ble_eq_true rfl) (fun F hR => tX12_readChanges (S := ev_z S) hR hT ⟨Nat.le_refl 0, Nat.le_refl 0⟩ hl0 hf)
set_option maxHeartbeats 4000000 in
set_option maxRecDepth 100000 in
theorem tX12_readTold {S : ev_S} {fu : Nat} {r : Int32 × ev_D} {F : ev_Fr} (hR : ev_R RX12 cX12_readTold 4 4 0 0 false (some .int) S r F) (hT : ev_Ty S) (hC : sC S ≤ 0 ∧ sA S ≤ 0) {l0 : Nat} {l1 : Int32} {l2 : Int32} {l3 : Int32} {D : ev_D} (hl0 : sK S l0 = 15) (hf : fX12_readTold (sL S) (sE S) fu l0 l1 l2 l3 D = some r) : F S D 0 [some (.ref l0), some (.int l1), some (.int l2), some (.int l3)] [] := by
  have hX := hR.X
  unfold fX12_readTold at hf
  refine ev_blk hX lkok_RX12 [(.aload_n 0, 1, 0, 0, 0), (.iload_n 1, 1, 0, 0, 0)] (by decide +kernel) (g := true) (lv' := [some (.ref l0), some (.int l1), some (.int l2), some (.int l3)]) (st' := [.int l1, .ref l0]) (D' := D) (pc' := 2) rfl (rfl) rfl ?_
  obtain ⟨v1, D1, hc1, hf⟩ := ev_bd_s hf
  refine ev_callV hX YX12_isWord ml_RX12_237 (mX12_isWord hT hl0 hc1) (vs := [.int l1]) (st := []) (by decide) 12 hl0 rfl rfl rfl (by decide +kernel) hC ?_
  show F S D1 5 [some (.ref l0), some (.int l1), some (.int l2), some (.int l3)] [.int v1]
  refine ev_if_ne hX (off := 9) 14 (by decide +kernel) (by decide) (fun h2 => ?_) (fun h2 => ?_)
  · have hf := ev_nf h2 hf
    refine ev_blk hX lkok_RX12 [(.aload_n 0, 1, 0, 0, 0)] (by decide +kernel) (g := true) (lv' := [some (.ref l0), some (.int l1), some (.int l2), some (.int l3)]) (st' := [.ref l0]) (D' := D1) (pc' := 15) rfl (rfl) rfl ?_
    obtain ⟨v3, D3, hc3, hf⟩ := ev_bd_s hf
    refine ev_callV hX YX12_reads ml_RX12_215 (mX12_reads hT hl0 hc3) (vs := []) (st := []) (by decide) 12 hl0 rfl rfl rfl (by decide +kernel) hC ?_
    show F S D3 18 [some (.ref l0), some (.int l1), some (.int l2), some (.int l3)] []
    refine ev_blk hX lkok_RX12 [(.aload_n 0, 1, 0, 0, 0), (.iload_n 2, 1, 0, 0, 0), (.iload_n 3, 1, 0, 0, 0)] (by decide +kernel) (g := true) (lv' := [some (.ref l0), some (.int l1), some (.int l2), some (.int l3)]) (st' := [.int l3, .int l2, .ref l0]) (D' := D3) (pc' := 21) rfl (rfl) rfl ?_
    obtain ⟨v4, D4, hc4, hf⟩ := ev_bd_s hf
    refine ev_callV hX YX12_readNumber ml_RX12_259 (mX12_readNumber hT hl0 hc4) (vs := [.int l2, .int l3]) (st := []) (by decide) 12 hl0 rfl rfl rfl (by decide +kernel) hC ?_
    show F S D4 24 [some (.ref l0), some (.int l1), some (.int l2), some (.int l3)] [.int v4]
    exact ev_iret hR ev_sm.rf (Option.some.inj hf) hC (by decide +kernel)
  · have hf := ev_it h2 hf
    refine ev_blk hX lkok_RX12 [(.aload_n 0, 1, 0, 0, 0), (.iconst 1, 1, 0, 0, 1)] (by decide +kernel) (g := true) (lv' := [some (.ref l0), some (.int l1), some (.int l2), some (.int l3)]) (st' := [.int (1 : Int32), .ref l0]) (D' := D1) (pc' := 10) rfl (rfl) rfl ?_
    obtain ⟨v5, D5, hc5, hf⟩ := ev_bd_s hf
    refine ev_callV hX YX12_errs ml_RX12_208 (mX12_errs hT hl0 hc5) (vs := [.int (1 : Int32)]) (st := []) (by decide) 12 hl0 rfl rfl rfl (by decide +kernel) hC ?_
    show F S D5 13 [some (.ref l0), some (.int l1), some (.int l2), some (.int l3)] [.int v5]
    exact ev_iret hR ev_sm.rf (Option.some.inj hf) hC (by decide +kernel)
theorem mX12_readTold {S : ev_S} {fu : Nat} {r : Int32 × ev_D} (hT : ev_Ty S) {l0 : Nat} {l1 : Int32} {l2 : Int32} {l3 : Int32} {D : ev_D} (hl0 : sK S l0 = 15) (hf : fX12_readTold (sL S) (sE S) fu l0 l1 l2 l3 D = some r) : ev_M 4 0 0 yX12_readTold cX12_readTold 4 (some .int) [.ref l0, .int l1, .int l2, .int l3] S D S r :=
  ev_met (ini := false) (plainFor_of_name (by decide)) (fun h => by cases h) rfl (Nat.le_of_ble_eq_true rfl) (fun F hR => tX12_readTold (S := ev_z S) hR hT ⟨Nat.le_refl 0, Nat.le_refl 0⟩ hl0 hf)
set_option maxHeartbeats 4000000 in
set_option maxRecDepth 100000 in
theorem tX12_readDay_122 {S : ev_S} {fu : Nat} {r : Int32 × ev_D} {F : ev_Fr} (hR : ev_R RX12 cX12_readDay 3 5 0 0 false (some .int) S r F) (hT : ev_Ty S) (hC : sC S ≤ 0 ∧ sA S ≤ 0) {l0 : Nat} {l1 : Int32} {s0 : Nat} {s1 : Int32} {s2 : Nat} {s3 : Int32} {s4 : Int32} {D : ev_D} (hl0 : sK S l0 = 15) (hs0 : sK S s0 = 1) (hs2 : sK S s2 = 15) (hf : fX12_readDay_122 (sL S) (sE S) fu l0 l1 s0 s1 s2 s3 s4 D = some r) : F S D 122 [some (.ref l0), some (.int l1), none] [.int s4, .int s3, .ref s2, .int s1, .ref s0] := by
  have hX := hR.X
  unfold fX12_readDay_122 at hf
  obtain ⟨v1, D1, hc1, hf⟩ := ev_bd_s hf
  refine ev_callV hX YX12_readNumber ml_RX12_259 (mX12_readNumber hT hs2 hc1) (vs := [.int s3, .int s4]) (st := [.int s1, .ref s0]) (by decide) 12 hs2 rfl rfl rfl (by decide +kernel) hC ?_
  show F S D1 125 [some (.ref l0), some (.int l1), none] [.int v1, .int s1, .ref s0]
  obtain ⟨hg4, hf⟩ := ev_gd_s hf
  obtain ⟨hg5, hf⟩ := ev_gd_s hf
  refine ev_blk hX lkok_RX12 [(.iastore, 1, 0, 0, 0), (.aload_n 0, 1, 0, 0, 0), (.getfield 71, 3, 12, 38, 0), (.iload_n 1, 1, 0, 0, 0), (.iconst 2, 1, 0, 0, 2), (.iadd, 1, 0, 0, 0), (.iaload, 1, 0, 0, 0), (.iconst (-1), 1, 0, 0, (-1))] (by decide +kernel) (g := (sK S s0 == 1 && ev_in s1 ((sL S) s0)) && ((sK S l0 == 15) && ((sK S ((sE S) l0 38) == 1 && ev_in (l1 + (2 : Int32)) ((sL S) ((sE S) l0 38))) && (true)))) (lv' := [some (.ref l0), some (.int l1), none]) (st' := [.int (-1 : Int32), .int ((ev_up D1 s0 (s1).toNatClampNeg v1) ((sE S) l0 38) ((l1 + (2 : Int32))).toNatClampNeg)]) (D' := (ev_up D1 s0 (s1).toNatClampNeg v1)) (pc' := 135) rfl (ev_gi hs0 hg4 (ev_gk hl0 (ev_gi (ev_tyk hT hl0 rfl rfl) hg5 (rfl)))) rfl ?_
  refine ev_ic_ne hX (off := 7) 142 (by decide +kernel) (by decide) (fun h2 => ?_) (fun h2 => ?_)
  · have hf := ev_nf h2 hf
    refine ev_blk hX lkok_RX12 [(.aload_n 0, 1, 0, 0, 0), (.bipush 59, 2, 0, 0, 59)] (by decide +kernel) (g := true) (lv' := [some (.ref l0), some (.int l1), none]) (st' := [.int (59 : Int32), .ref l0]) (D' := (ev_up D1 s0 (s1).toNatClampNeg v1)) (pc' := 145) rfl (rfl) rfl ?_
    obtain ⟨v3, D3, hc3, hf⟩ := ev_bd_s hf
    refine ev_callV hX YX12_readMark ml_RX12_266 (mX12_readMark hT hl0 hc3) (vs := [.int (59 : Int32)]) (st := []) (by decide) 12 hl0 rfl rfl rfl (by decide +kernel) hC ?_
    show F S D3 148 [some (.ref l0), some (.int l1), none] [.int v3]
    exact ev_iret hR ev_sm.rf (Option.some.inj hf) hC (by decide +kernel)
  · have hf := ev_it h2 hf
    refine ev_blk hX lkok_RX12 [(.iconst (-1), 1, 0, 0, (-1))] (by decide +kernel) (g := true) (lv' := [some (.ref l0), some (.int l1), none]) (st' := [.int (-1 : Int32)]) (D' := (ev_up D1 s0 (s1).toNatClampNeg v1)) (pc' := 139) rfl (rfl) rfl ?_
    refine ev_goto hX (off := 9) 148 (by decide +kernel) (by decide) ?_
    exact ev_iret hR ev_sm.rf (Option.some.inj hf) hC (by decide +kernel)
set_option maxHeartbeats 4000000 in
set_option maxRecDepth 100000 in
theorem tX12_readDay_97 {S : ev_S} {fu : Nat} {r : Int32 × ev_D} {F : ev_Fr} (hR : ev_R RX12 cX12_readDay 3 5 0 0 false (some .int) S r F) (hT : ev_Ty S) (hC : sC S ≤ 0 ∧ sA S ≤ 0) {l0 : Nat} {l1 : Int32} {l2 : Int32} {s0 : Nat} {s1 : Int32} {s2 : Int32} {D : ev_D} (hl0 : sK S l0 = 15) (hs0 : sK S s0 = 1) (hf : fX12_readDay_97 (sL S) (sE S) fu l0 l1 l2 s0 s1 s2 D = some r) : F S D 97 [some (.ref l0), some (.int l1), some (.int l2)] [.int s2, .int s1, .ref s0] := by
  have hX := hR.X
  unfold fX12_readDay_97 at hf
  obtain ⟨hg8, hf⟩ := ev_gd_s hf
  refine ev_blk hX lkok_RX12 [(.iastore, 1, 0, 0, 0), (.aload_n 0, 1, 0, 0, 0)] (by decide +kernel) (g := (sK S s0 == 1 && ev_in s1 ((sL S) s0)) && (true)) (lv' := [some (.ref l0), some (.int l1), some (.int l2)]) (st' := [.ref l0]) (D' := (ev_up D s0 (s1).toNatClampNeg s2)) (pc' := 99) rfl (ev_gi hs0 hg8 (rfl)) rfl ?_
  obtain ⟨v6, D6, hc6, hf⟩ := ev_bd_s hf
  refine ev_callV hX YX12_reads ml_RX12_215 (mX12_reads hT hl0 hc6) (vs := []) (st := []) (by decide) 12 hl0 rfl rfl rfl (by decide +kernel) hC ?_
  show F S D6 102 [some (.ref l0), some (.int l1), some (.int l2)] []
  refine ev_blk hX lkok_RX12 [(.aload_n 0, 1, 0, 0, 0), (.getfield 71, 3, 12, 38, 0), (.iload_n 1, 1, 0, 0, 0), (.iconst 2, 1, 0, 0, 2), (.iadd, 1, 0, 0, 0), (.aload_n 0, 1, 0, 0, 0), (.iconst 0, 1, 0, 0, 0), (.iload_n 2, 1, 0, 0, 0)] (by decide +kernel) (g := (sK S l0 == 15) && (true)) (lv' := [some (.ref l0), some (.int l1), some (.int l2)]) (st' := [.int l2, .int (0 : Int32), .ref l0, .int (l1 + (2 : Int32)), .ref ((sE S) l0 38)]) (D' := D6) (pc' := 112) rfl (ev_gk hl0 (rfl)) rfl ?_
  refine ev_if_eq hX (off := 8) 120 (by decide +kernel) (by decide) (fun h7 => ?_) (fun h7 => ?_)
  · have hf := ev_it h7 hf
    refine ev_blk hX lkok_RX12 [(.bipush 9, 2, 0, 0, 9)] (by decide +kernel) (g := true) (lv' := [some (.ref l0), some (.int l1), some (.int l2)]) (st' := [.int (9 : Int32), .int (0 : Int32), .ref l0, .int (l1 + (2 : Int32)), .ref ((sE S) l0 38)]) (D' := D6) (pc' := 122) rfl (rfl) rfl ?_
    exact ev_weak hX (ev_le_eq (ev_le_eq (ev_le_no ev_le_nil))) (tX12_readDay_122 hR hT hC   hl0 (ev_tyk hT hl0 rfl rfl) hl0 hf)
  · have hf := ev_nf h7 hf
    refine ev_blk hX lkok_RX12 [(.bipush 99, 2, 0, 0, 99)] (by decide +kernel) (g := true) (lv' := [some (.ref l0), some (.int l1), some (.int l2)]) (st' := [.int (99 : Int32), .int (0 : Int32), .ref l0, .int (l1 + (2 : Int32)), .ref ((sE S) l0 38)]) (D' := D6) (pc' := 117) rfl (rfl) rfl ?_
    refine ev_goto hX (off := 5) 122 (by decide +kernel) (by decide) ?_
    exact ev_weak hX (ev_le_eq (ev_le_eq (ev_le_no ev_le_nil))) (tX12_readDay_122 hR hT hC   hl0 (ev_tyk hT hl0 rfl rfl) hl0 hf)
set_option maxHeartbeats 4000000 in
set_option maxRecDepth 100000 in
theorem tX12_readDay_75 {S : ev_S} {fu : Nat} {r : Int32 × ev_D} {F : ev_Fr} (hR : ev_R RX12 cX12_readDay 3 5 0 0 false (some .int) S r F) (hT : ev_Ty S) (hC : sC S ≤ 0 ∧ sA S ≤ 0) {l0 : Nat} {l1 : Int32} {l2 : Int32} {D : ev_D} (hl0 : sK S l0 = 15) (hf : fX12_readDay_75 (sL S) (sE S) fu l0 l1 l2 D = some r) : F S D 75 [some (.ref l0), some (.int l1), some (.int l2)] [] := by
  have hX := hR.X
  unfold fX12_readDay_75 at hf
  refine ev_blk hX lkok_RX12 [(.aload_n 0, 1, 0, 0, 0), (.getfield 71, 3, 12, 38, 0), (.iload_n 1, 1, 0, 0, 0), (.iconst 1, 1, 0, 0, 1), (.iadd, 1, 0, 0, 0), (.iload_n 2, 1, 0, 0, 0)] (by decide +kernel) (g := (sK S l0 == 15) && (true)) (lv' := [some (.ref l0), some (.int l1), some (.int l2)]) (st' := [.int l2, .int (l1 + (1 : Int32)), .ref ((sE S) l0 38)]) (D' := D) (pc' := 83) rfl (ev_gk hl0 (rfl)) rfl ?_
  refine ev_if_eq hX (off := 13) 96 (by decide +kernel) (by decide) (fun h9 => ?_) (fun h9 => ?_)
  · have hf := ev_it h9 hf
    refine ev_blk hX lkok_RX12 [(.iconst 5, 1, 0, 0, 5)] (by decide +kernel) (g := true) (lv' := [some (.ref l0), some (.int l1), some (.int l2)]) (st' := [.int (5 : Int32), .int (l1 + (1 : Int32)), .ref ((sE S) l0 38)]) (D' := D) (pc' := 97) rfl (rfl) rfl ?_
    exact ev_weak hX (ev_le_eq (ev_le_eq (ev_le_eq ev_le_nil))) (tX12_readDay_97 hR hT hC   hl0 (ev_tyk hT hl0 rfl rfl) hf)
  · have hf := ev_nf h9 hf
    refine ev_blk hX lkok_RX12 [(.aload_n 0, 1, 0, 0, 0), (.getfield 180, 3, 12, 17, 0), (.bipush 21, 2, 0, 0, 21), (.isub, 1, 0, 0, 0)] (by decide +kernel) (g := (sK S l0 == 15) && (true)) (lv' := [some (.ref l0), some (.int l1), some (.int l2)]) (st' := [.int ((D l0 17) - (21 : Int32)), .int (l1 + (1 : Int32)), .ref ((sE S) l0 38)]) (D' := D) (pc' := 93) rfl (ev_gk hl0 (rfl)) rfl ?_
    refine ev_goto hX (off := 4) 97 (by decide +kernel) (by decide) ?_
    exact ev_weak hX (ev_le_eq (ev_le_eq (ev_le_eq ev_le_nil))) (tX12_readDay_97 hR hT hC   hl0 (ev_tyk hT hl0 rfl rfl) hf)
set_option maxHeartbeats 4000000 in
set_option maxRecDepth 100000 in
theorem tX12_readDay_55 {S : ev_S} {fu : Nat} {r : Int32 × ev_D} {F : ev_Fr} (hR : ev_R RX12 cX12_readDay 3 5 0 0 false (some .int) S r F) (hT : ev_Ty S) (hC : sC S ≤ 0 ∧ sA S ≤ 0) {l0 : Nat} {l1 : Int32} {s0 : Int32} {D : ev_D} (hl0 : sK S l0 = 15) (hf : fX12_readDay_55 (sL S) (sE S) fu l0 l1 s0 D = some r) : F S D 55 [some (.ref l0), some (.int l1), none] [.int s0] := by
  have hX := hR.X
  unfold fX12_readDay_55 at hf
  refine ev_blk hX lkok_RX12 [(.istore_n 2, 1, 0, 0, 0), (.iload_n 2, 1, 0, 0, 0)] (by decide +kernel) (g := true) (lv' := [some (.ref l0), some (.int l1), some (.int s0)]) (st' := [.int s0]) (D' := D) (pc' := 57) rfl (rfl) rfl ?_
  refine ev_if_ne hX (off := 18) 75 (by decide +kernel) (by decide) (fun h10 => ?_) (fun h10 => ?_)
  · have hf := ev_nf h10 hf
    exact ev_weak hX (ev_le_eq (ev_le_eq (ev_le_eq ev_le_nil))) (tX12_readDay_75 hR hT hC   hl0 hf)
  · have hf := ev_it h10 hf
    refine ev_blk hX lkok_RX12 [(.aload_n 0, 1, 0, 0, 0), (.bipush 15, 2, 0, 0, 15)] (by decide +kernel) (g := true) (lv' := [some (.ref l0), some (.int l1), some (.int s0)]) (st' := [.int (15 : Int32), .ref l0]) (D' := D) (pc' := 63) rfl (rfl) rfl ?_
    obtain ⟨v11, D11, hc11, hf⟩ := ev_bd_s hf
    refine ev_callV hX YX12_isWord ml_RX12_237 (mX12_isWord hT hl0 hc11) (vs := [.int (15 : Int32)]) (st := []) (by decide) 12 hl0 rfl rfl rfl (by decide +kernel) hC ?_
    show F S D11 66 [some (.ref l0), some (.int l1), some (.int s0)] [.int v11]
    refine ev_if_ne hX (off := 9) 75 (by decide +kernel) (by decide) (fun h12 => ?_) (fun h12 => ?_)
    · have hf := ev_nf h12 hf
      exact ev_weak hX (ev_le_eq (ev_le_eq (ev_le_eq ev_le_nil))) (tX12_readDay_75 hR hT hC   hl0 hf)
    · have hf := ev_it h12 hf
      refine ev_blk hX lkok_RX12 [(.aload_n 0, 1, 0, 0, 0), (.iconst 1, 1, 0, 0, 1)] (by decide +kernel) (g := true) (lv' := [some (.ref l0), some (.int l1), some (.int s0)]) (st' := [.int (1 : Int32), .ref l0]) (D' := D11) (pc' := 71) rfl (rfl) rfl ?_
      obtain ⟨v13, D13, hc13, hf⟩ := ev_bd_s hf
      refine ev_callV hX YX12_errs ml_RX12_208 (mX12_errs hT hl0 hc13) (vs := [.int (1 : Int32)]) (st := []) (by decide) 12 hl0 rfl rfl rfl (by decide +kernel) hC ?_
      show F S D13 74 [some (.ref l0), some (.int l1), some (.int s0)] [.int v13]
      exact ev_iret hR ev_sm.rf (Option.some.inj hf) hC (by decide +kernel)
set_option maxHeartbeats 4000000 in
set_option maxRecDepth 100000 in
theorem tX12_readDay_54 {S : ev_S} {fu : Nat} {r : Int32 × ev_D} {F : ev_Fr} (hR : ev_R RX12 cX12_readDay 3 5 0 0 false (some .int) S r F) (hT : ev_Ty S) (hC : sC S ≤ 0 ∧ sA S ≤ 0) {l0 : Nat} {l1 : Int32} {D : ev_D} (hl0 : sK S l0 = 15) (hf : fX12_readDay_54 (sL S) (sE S) fu l0 l1 D = some r) : F S D 54 [some (.ref l0), some (.int l1), none] [] := by
  have hX := hR.X
  unfold fX12_readDay_54 at hf
  refine ev_blk hX lkok_RX12 [(.iconst 0, 1, 0, 0, 0)] (by decide +kernel) (g := true) (lv' := [some (.ref l0), some (.int l1), none]) (st' := [.int (0 : Int32)]) (D' := D) (pc' := 55) rfl (rfl) rfl ?_
  exact ev_weak hX (ev_le_eq (ev_le_eq (ev_le_no ev_le_nil))) (tX12_readDay_55 hR hT hC   hl0 hf)
set_option maxHeartbeats 4000000 in
set_option maxRecDepth 100000 in
theorem tX12_readDay {S : ev_S} {fu : Nat} {r : Int32 × ev_D} {F : ev_Fr} (hR : ev_R RX12 cX12_readDay 3 5 0 0 false (some .int) S r F) (hT : ev_Ty S) (hC : sC S ≤ 0 ∧ sA S ≤ 0) {l0 : Nat} {l1 : Int32} {D : ev_D} (hl0 : sK S l0 = 15) (hf : fX12_readDay (sL S) (sE S) fu l0 l1 D = some r) : F S D 0 [some (.ref l0), some (.int l1), none] [] := by
  have hX := hR.X
  unfold fX12_readDay at hf
  refine ev_blk hX lkok_RX12 [(.aload_n 0, 1, 0, 0, 0), (.getfield 71, 3, 12, 38, 0), (.iload_n 1, 1, 0, 0, 0), (.aload_n 0, 1, 0, 0, 0), (.bipush 20, 2, 0, 0, 20), (.iconst 0, 1, 0, 0, 0), (.bipush 23, 2, 0, 0, 23)] (by decide +kernel) (g := (sK S l0 == 15) && (true)) (lv' := [some (.ref l0), some (.int l1), none]) (st' := [.int (23 : Int32), .int (0 : Int32), .int (20 : Int32), .ref l0, .int l1, .ref ((sE S) l0 38)]) (D' := D) (pc' := 11) rfl (ev_gk hl0 (rfl)) rfl ?_
  obtain ⟨v14, D14, hc14, hf⟩ := ev_bd_s hf
  refine ev_callV hX YX12_readTold ml_RX12_262 (mX12_readTold hT hl0 hc14) (vs := [.int (20 : Int32), .int (0 : Int32), .int (23 : Int32)]) (st := [.int l1, .ref ((sE S) l0 38)]) (by decide) 12 hl0 rfl rfl rfl (by decide +kernel) hC ?_
  show F S D14 14 [some (.ref l0), some (.int l1), none] [.int v14, .int l1, .ref ((sE S) l0 38)]
  obtain ⟨hg19, hf⟩ := ev_gd_s hf
  obtain ⟨hg20, hf⟩ := ev_gd_s hf
  refine ev_blk hX lkok_RX12 [(.iastore, 1, 0, 0, 0), (.aload_n 0, 1, 0, 0, 0), (.getfield 71, 3, 12, 38, 0), (.iload_n 1, 1, 0, 0, 0), (.iaload, 1, 0, 0, 0), (.iconst (-1), 1, 0, 0, (-1))] (by decide +kernel) (g := (sK S ((sE S) l0 38) == 1 && ev_in l1 ((sL S) ((sE S) l0 38))) && ((sK S l0 == 15) && ((sK S ((sE S) l0 38) == 1 && ev_in l1 ((sL S) ((sE S) l0 38))) && (true)))) (lv' := [some (.ref l0), some (.int l1), none]) (st' := [.int (-1 : Int32), .int ((ev_up D14 ((sE S) l0 38) (l1).toNatClampNeg v14) ((sE S) l0 38) (l1).toNatClampNeg)]) (D' := (ev_up D14 ((sE S) l0 38) (l1).toNatClampNeg v14)) (pc' := 22) rfl (ev_gi (ev_tyk hT hl0 rfl rfl) hg19 (ev_gk hl0 (ev_gi (ev_tyk hT hl0 rfl rfl) hg20 (rfl)))) rfl ?_
  refine ev_ic_ne hX (off := 5) 27 (by decide +kernel) (by decide) (fun h15 => ?_) (fun h15 => ?_)
  · have hf := ev_nf h15 hf
    refine ev_blk hX lkok_RX12 [(.aload_n 0, 1, 0, 0, 0), (.getfield 177, 3, 12, 16, 0), (.iconst 2, 1, 0, 0, 2)] (by decide +kernel) (g := (sK S l0 == 15) && (true)) (lv' := [some (.ref l0), some (.int l1), none]) (st' := [.int (2 : Int32), .int ((ev_up D14 ((sE S) l0 38) (l1).toNatClampNeg v14) l0 16)]) (D' := (ev_up D14 ((sE S) l0 38) (l1).toNatClampNeg v14)) (pc' := 32) rfl (ev_gk hl0 (rfl)) rfl ?_
    refine ev_ic_ne hX (off := 22) 54 (by decide +kernel) (by decide) (fun h16 => ?_) (fun h16 => ?_)
    · have hf := ev_nf h16 hf
      exact ev_weak hX (ev_le_eq (ev_le_eq (ev_le_no ev_le_nil))) (tX12_readDay_54 hR hT hC   hl0 hf)
    · have hf := ev_it h16 hf
      refine ev_blk hX lkok_RX12 [(.aload_n 0, 1, 0, 0, 0), (.aload_n 0, 1, 0, 0, 0), (.getfield 180, 3, 12, 17, 0), (.bipush 21, 2, 0, 0, 21), (.bipush 25, 2, 0, 0, 25)] (by decide +kernel) (g := (sK S l0 == 15) && (true)) (lv' := [some (.ref l0), some (.int l1), none]) (st' := [.int (25 : Int32), .int (21 : Int32), .int ((ev_up D14 ((sE S) l0 38) (l1).toNatClampNeg v14) l0 17), .ref l0]) (D' := (ev_up D14 ((sE S) l0 38) (l1).toNatClampNeg v14)) (pc' := 44) rfl (ev_gk hl0 (rfl)) rfl ?_
      obtain ⟨v17, D17, hc17, hf⟩ := ev_bd_s hf
      refine ev_callV hX YX12_isIn ml_RX12_150 (mX12_isIn hT hl0 hc17) (vs := [.int ((ev_up D14 ((sE S) l0 38) (l1).toNatClampNeg v14) l0 17), .int (21 : Int32), .int (25 : Int32)]) (st := []) (by decide) 12 hl0 rfl rfl rfl (by decide +kernel) hC ?_
      show F S D17 47 [some (.ref l0), some (.int l1), none] [.int v17]
      refine ev_if_eq hX (off := 7) 54 (by decide +kernel) (by decide) (fun h18 => ?_) (fun h18 => ?_)
      · have hf := ev_it h18 hf
        exact ev_weak hX (ev_le_eq (ev_le_eq (ev_le_no ev_le_nil))) (tX12_readDay_54 hR hT hC   hl0 hf)
      · have hf := ev_nf h18 hf
        refine ev_blk hX lkok_RX12 [(.iconst 1, 1, 0, 0, 1)] (by decide +kernel) (g := true) (lv' := [some (.ref l0), some (.int l1), none]) (st' := [.int (1 : Int32)]) (D' := D17) (pc' := 51) rfl (rfl) rfl ?_
        refine ev_goto hX (off := 4) 55 (by decide +kernel) (by decide) ?_
        exact ev_weak hX (ev_le_eq (ev_le_eq (ev_le_no ev_le_nil))) (tX12_readDay_55 hR hT hC   hl0 hf)
  · have hf := ev_it h15 hf
    refine ev_blk hX lkok_RX12 [(.iconst (-1), 1, 0, 0, (-1))] (by decide +kernel) (g := true) (lv' := [some (.ref l0), some (.int l1), none]) (st' := [.int (-1 : Int32)]) (D' := (ev_up D14 ((sE S) l0 38) (l1).toNatClampNeg v14)) (pc' := 26) rfl (rfl) rfl ?_
    exact ev_iret hR ev_sm.rf (Option.some.inj hf) hC (by decide +kernel)
theorem mX12_readDay {S : ev_S} {fu : Nat} {r : Int32 × ev_D} (hT : ev_Ty S) {l0 : Nat} {l1 : Int32} {D : ev_D} (hl0 : sK S l0 = 15) (hf : fX12_readDay (sL S) (sE S) fu l0 l1 D = some r) : ev_M 5 0 0 yX12_readDay cX12_readDay 3 (some .int) [.ref l0, .int l1] S D S r :=
  ev_met (ini := false) (plainFor_of_name (by decide)) (fun h => by cases h) rfl (Nat.le_of_ble_eq_true rfl) (fun F hR => tX12_readDay (S := ev_z S) hR hT ⟨Nat.le_refl 0, Nat.le_refl 0⟩ hl0 hf)
set_option maxHeartbeats 4000000 in
set_option maxRecDepth 100000 in
theorem tX12_readDays_2 {S : ev_S} {fu : Nat} {r : Int32 × ev_D} {F : ev_Fr} (hR : ev_R RX12 cX12_readDays 2 6 0 0 false (some .int) S r F) (hT : ev_Ty S) (hC : sC S ≤ 0 ∧ sA S ≤ 0) : ∀ (n : Nat) (l0 : Nat) (l1 : Int32) (D : ev_D), sK S l0 = 15 → fX12_readDays_2 (sL S) (sE S) fu n l0 l1 D = some r → F S D 2 [some (.ref l0), some (.int l1)] [] := by
  have hX := hR.X
  intro n
  induction n with
  | zero =>
    intro l0 l1 D hl0 hf
    rw [fX12_readDays_2] at hf
    cases hf
  | succ n ih =>
    intro l0 l1 D hl0 hf
    rw [fX12_readDays_2] at hf
    refine ev_blk hX lkok_RX12 [(.aload_n 0, 1, 0, 0, 0), (.bipush 20, 2, 0, 0, 20)] (by decide +kernel) (g := true) (lv' := [some (.ref l0), some (.int l1)]) (st' := [.int (20 : Int32), .ref l0]) (D' := D) (pc' := 5) rfl (rfl) rfl ?_
    obtain ⟨v1, D1, hc1, hf⟩ := ev_bd_s hf
    refine ev_callV hX YX12_isWord ml_RX12_237 (mX12_isWord hT hl0 hc1) (vs := [.int (20 : Int32)]) (st := []) (by decide) 12 hl0 rfl rfl rfl (by decide +kernel) hC ?_
    show F S D1 8 [some (.ref l0), some (.int l1)] [.int v1]
    refine ev_if_eq hX (off := 38) 46 (by decide +kernel) (by decide) (fun h2 => ?_) (fun h2 => ?_)
    · have hf := ev_it h2 hf
      refine ev_blk hX lkok_RX12 [(.aload_n 0, 1, 0, 0, 0), (.getfield 177, 3, 12, 16, 0)] (by decide +kernel) (g := (sK S l0 == 15) && (true)) (lv' := [some (.ref l0), some (.int l1)]) (st' := [.int (D1 l0 16)]) (D' := D1) (pc' := 50) rfl (ev_gk hl0 (rfl)) rfl ?_
      refine ev_if_ne hX (off := 7) 57 (by decide +kernel) (by decide) (fun h3 => ?_) (fun h3 => ?_)
      · have hf := ev_nf h3 hf
        refine ev_blk hX lkok_RX12 [(.aload_n 0, 1, 0, 0, 0), (.iconst 1, 1, 0, 0, 1)] (by decide +kernel) (g := true) (lv' := [some (.ref l0), some (.int l1)]) (st' := [.int (1 : Int32), .ref l0]) (D' := D1) (pc' := 59) rfl (rfl) rfl ?_
        obtain ⟨v4, D4, hc4, hf⟩ := ev_bd_s hf
        refine ev_callV hX YX12_errs ml_RX12_208 (mX12_errs hT hl0 hc4) (vs := [.int (1 : Int32)]) (st := []) (by decide) 12 hl0 rfl rfl rfl (by decide +kernel) hC ?_
        show F S D4 62 [some (.ref l0), some (.int l1)] [.int v4]
        exact ev_iret hR ev_sm.rf (Option.some.inj hf) hC (by decide +kernel)
      · have hf := ev_it h3 hf
        refine ev_blk hX lkok_RX12 [(.iload_n 1, 1, 0, 0, 0)] (by decide +kernel) (g := true) (lv' := [some (.ref l0), some (.int l1)]) (st' := [.int l1]) (D' := D1) (pc' := 54) rfl (rfl) rfl ?_
        refine ev_goto hX (off := 8) 62 (by decide +kernel) (by decide) ?_
        exact ev_iret hR ev_sm.rf (Option.some.inj hf) hC (by decide +kernel)
    · have hf := ev_nf h2 hf
      refine ev_blk hX lkok_RX12 [(.iload_n 1, 1, 0, 0, 0), (.bipush 16, 2, 0, 0, 16)] (by decide +kernel) (g := true) (lv' := [some (.ref l0), some (.int l1)]) (st' := [.int (16 : Int32), .int l1]) (D' := D1) (pc' := 14) rfl (rfl) rfl ?_
      refine ev_ic_ne hX (off := 9) 23 (by decide +kernel) (by decide) (fun h5 => ?_) (fun h5 => ?_)
      · have hf := ev_nf h5 hf
        refine ev_blk hX lkok_RX12 [(.aload_n 0, 1, 0, 0, 0), (.bipush 48, 2, 0, 0, 48), (.iconst 3, 1, 0, 0, 3), (.iload_n 1, 1, 0, 0, 0), (.imul, 1, 0, 0, 0), (.iadd, 1, 0, 0, 0)] (by decide +kernel) (g := true) (lv' := [some (.ref l0), some (.int l1)]) (st' := [.int ((48 : Int32) + ((3 : Int32) * l1)), .ref l0]) (D' := D1) (pc' := 30) rfl (rfl) rfl ?_
        obtain ⟨v6, D6, hc6, hf⟩ := ev_bd_s hf
        refine ev_callV hX YX12_readDay ml_RX12_272 (mX12_readDay hT hl0 hc6) (vs := [.int ((48 : Int32) + ((3 : Int32) * l1))]) (st := []) (by decide) 12 hl0 rfl rfl rfl (by decide +kernel) hC ?_
        show F S D6 33 [some (.ref l0), some (.int l1)] [.int v6]
        refine ev_blk hX lkok_RX12 [(.iconst (-1), 1, 0, 0, (-1))] (by decide +kernel) (g := true) (lv' := [some (.ref l0), some (.int l1)]) (st' := [.int (-1 : Int32), .int v6]) (D' := D6) (pc' := 34) rfl (rfl) rfl ?_
        refine ev_ic_ne hX (off := 5) 39 (by decide +kernel) (by decide) (fun h7 => ?_) (fun h7 => ?_)
        · have hf := ev_nf h7 hf
          refine ev_blk hX lkok_RX12 [(.iload_n 1, 1, 0, 0, 0), (.iconst 1, 1, 0, 0, 1), (.iadd, 1, 0, 0, 0), (.istore_n 1, 1, 0, 0, 0)] (by decide +kernel) (g := true) (lv' := [some (.ref l0), some (.int (l1 + (1 : Int32)))]) (st' := []) (D' := D6) (pc' := 43) rfl (rfl) rfl ?_
          refine ev_goto hX (off := (-41)) 2 (by decide +kernel) (by decide) ?_
          exact ev_weak hX (ev_le_eq (ev_le_eq ev_le_nil)) (ih _ _ _ hl0 hf)
        · have hf := ev_it h7 hf
          refine ev_blk hX lkok_RX12 [(.iconst (-1), 1, 0, 0, (-1))] (by decide +kernel) (g := true) (lv' := [some (.ref l0), some (.int l1)]) (st' := [.int (-1 : Int32)]) (D' := D6) (pc' := 38) rfl (rfl) rfl ?_
          exact ev_iret hR ev_sm.rf (Option.some.inj hf) hC (by decide +kernel)
      · have hf := ev_it h5 hf
        refine ev_blk hX lkok_RX12 [(.aload_n 0, 1, 0, 0, 0), (.iconst 3, 1, 0, 0, 3)] (by decide +kernel) (g := true) (lv' := [some (.ref l0), some (.int l1)]) (st' := [.int (3 : Int32), .ref l0]) (D' := D1) (pc' := 19) rfl (rfl) rfl ?_
        obtain ⟨v8, D8, hc8, hf⟩ := ev_bd_s hf
        refine ev_callV hX YX12_errs ml_RX12_208 (mX12_errs hT hl0 hc8) (vs := [.int (3 : Int32)]) (st := []) (by decide) 12 hl0 rfl rfl rfl (by decide +kernel) hC ?_
        show F S D8 22 [some (.ref l0), some (.int l1)] [.int v8]
        exact ev_iret hR ev_sm.rf (Option.some.inj hf) hC (by decide +kernel)
set_option maxHeartbeats 4000000 in
set_option maxRecDepth 100000 in
theorem tX12_readDays {S : ev_S} {fu : Nat} {r : Int32 × ev_D} {F : ev_Fr} (hR : ev_R RX12 cX12_readDays 2 6 0 0 false (some .int) S r F) (hT : ev_Ty S) (hC : sC S ≤ 0 ∧ sA S ≤ 0) {l0 : Nat} {D : ev_D} (hl0 : sK S l0 = 15) (hf : fX12_readDays (sL S) (sE S) fu l0 D = some r) : F S D 0 [some (.ref l0), none] [] := by
  have hX := hR.X
  unfold fX12_readDays at hf
  refine ev_blk hX lkok_RX12 [(.iconst 0, 1, 0, 0, 0), (.istore_n 1, 1, 0, 0, 0)] (by decide +kernel) (g := true) (lv' := [some (.ref l0), some (.int (0 : Int32))]) (st' := []) (D' := D) (pc' := 2) rfl (rfl) rfl ?_
  exact ev_weak hX (ev_le_eq (ev_le_eq ev_le_nil)) (tX12_readDays_2 hR hT hC   fu _ _ _ hl0 hf)
theorem mX12_readDays {S : ev_S} {fu : Nat} {r : Int32 × ev_D} (hT : ev_Ty S) {l0 : Nat} {D : ev_D} (hl0 : sK S l0 = 15) (hf : fX12_readDays (sL S) (sE S) fu l0 D = some r) : ev_M 6 0 0 yX12_readDays cX12_readDays 2 (some .int) [.ref l0] S D S r :=
  ev_met (ini := false) (plainFor_of_name (by decide)) (fun h => by cases h) rfl (Nat.le_of_ble_eq_true rfl) (fun F hR => tX12_readDays (S := ev_z S) hR hT ⟨Nat.le_refl 0, Nat.le_refl 0⟩ hl0 hf)
set_option maxHeartbeats 4000000 in
set_option maxRecDepth 100000 in
theorem tX12_isLineWord {S : ev_S} {fu : Nat} {r : Int32 × ev_D} {F : ev_Fr} (hR : ev_R RX12 cX12_isLineWord 1 1 0 0 false (some .boolean) S r F) (hT : ev_Ty S) (hC : sC S ≤ 0 ∧ sA S ≤ 0) {l0 : Nat} {D : ev_D} (hl0 : sK S l0 = 15) (hf : fX12_isLineWord (sL S) (sE S) fu l0 D = some r) : F S D 0 [some (.ref l0)] [] := by
  have hX := hR.X
  unfold fX12_isLineWord at hf
  refine ev_blk hX lkok_RX12 [(.aload_n 0, 1, 0, 0, 0), (.getfield 177, 3, 12, 16, 0), (.iconst 2, 1, 0, 0, 2)] (by decide +kernel) (g := (sK S l0 == 15) && (true)) (lv' := [some (.ref l0)]) (st' := [.int (2 : Int32), .int (D l0 16)]) (D' := D) (pc' := 5) rfl (ev_gk hl0 (rfl)) rfl ?_
  refine ev_ic_ne hX (off := 20) 25 (by decide +kernel) (by decide) (fun h1 => ?_) (fun h1 => ?_)
  · have hf := ev_nf h1 hf
    refine ev_blk hX lkok_RX12 [(.iconst 0, 1, 0, 0, 0)] (by decide +kernel) (g := true) (lv' := [some (.ref l0)]) (st' := [.int (0 : Int32)]) (D' := D) (pc' := 26) rfl (rfl) rfl ?_
    exact ev_zret hR ev_sm.rf (Or.inl rfl) (Option.some.inj hf) hC (by decide +kernel)
  · have hf := ev_it h1 hf
    refine ev_blk hX lkok_RX12 [(.aload_n 0, 1, 0, 0, 0), (.aload_n 0, 1, 0, 0, 0), (.getfield 180, 3, 12, 17, 0), (.iconst 0, 1, 0, 0, 0), (.iconst 2, 1, 0, 0, 2)] (by decide +kernel) (g := (sK S l0 == 15) && (true)) (lv' := [some (.ref l0)]) (st' := [.int (2 : Int32), .int (0 : Int32), .int (D l0 17), .ref l0]) (D' := D) (pc' := 15) rfl (ev_gk hl0 (rfl)) rfl ?_
    obtain ⟨v2, D2, hc2, hf⟩ := ev_bd_s hf
    refine ev_callV hX YX12_isIn ml_RX12_150 (mX12_isIn hT hl0 hc2) (vs := [.int (D l0 17), .int (0 : Int32), .int (2 : Int32)]) (st := []) (by decide) 12 hl0 rfl rfl rfl (by decide +kernel) hC ?_
    show F S D2 18 [some (.ref l0)] [.int v2]
    refine ev_if_eq hX (off := 7) 25 (by decide +kernel) (by decide) (fun h3 => ?_) (fun h3 => ?_)
    · have hf := ev_it h3 hf
      refine ev_blk hX lkok_RX12 [(.iconst 0, 1, 0, 0, 0)] (by decide +kernel) (g := true) (lv' := [some (.ref l0)]) (st' := [.int (0 : Int32)]) (D' := D2) (pc' := 26) rfl (rfl) rfl ?_
      exact ev_zret hR ev_sm.rf (Or.inl rfl) (Option.some.inj hf) hC (by decide +kernel)
    · have hf := ev_nf h3 hf
      refine ev_blk hX lkok_RX12 [(.iconst 1, 1, 0, 0, 1)] (by decide +kernel) (g := true) (lv' := [some (.ref l0)]) (st' := [.int (1 : Int32)]) (D' := D2) (pc' := 22) rfl (rfl) rfl ?_
      refine ev_goto hX (off := 4) 26 (by decide +kernel) (by decide) ?_
      exact ev_zret hR ev_sm.rf (Or.inr rfl) (Option.some.inj hf) hC (by decide +kernel)
theorem mX12_isLineWord {S : ev_S} {fu : Nat} {r : Int32 × ev_D} (hT : ev_Ty S) {l0 : Nat} {D : ev_D} (hl0 : sK S l0 = 15) (hf : fX12_isLineWord (sL S) (sE S) fu l0 D = some r) : ev_M 1 0 0 yX12_isLineWord cX12_isLineWord 1 (some .boolean) [.ref l0] S D S r :=
  ev_met (ini := false) (plainFor_of_name (by decide)) (fun h => by cases h) rfl (Nat.le_of_ble_eq_true rfl) (fun F hR => tX12_isLineWord (S := ev_z S) hR hT ⟨Nat.le_refl 0, Nat.le_refl 0⟩ hl0 hf)
set_option maxHeartbeats 4000000 in
set_option maxRecDepth 100000 in
theorem tX12_emits_38 {S : ev_S} {fu : Nat} {r : Int32 × ev_D} {F : ev_Fr} (hR : ev_R RX12 cX12_emits 3 0 0 0 false none S r F) (hT : ev_Ty S) (hC : sC S ≤ 0 ∧ sA S ≤ 0)  {D : ev_D}  (hf : fX12_emits_38 (sL S) (sE S) fu  D = some r) : F S D 38 [none, none, none] [] := by
  have hX := hR.X
  unfold fX12_emits_38 at hf
  exact ev_vret hR ev_sm.rf (Option.some.inj hf) hC (by decide +kernel)
set_option maxHeartbeats 4000000 in
set_option maxRecDepth 100000 in
theorem tX12_emits {S : ev_S} {fu : Nat} {r : Int32 × ev_D} {F : ev_Fr} (hR : ev_R RX12 cX12_emits 3 0 0 0 false none S r F) (hT : ev_Ty S) (hC : sC S ≤ 0 ∧ sA S ≤ 0) {l0 : Nat} {l1 : Int32} {l2 : Int32} {D : ev_D} (hl0 : sK S l0 = 15) (hf : fX12_emits (sL S) (sE S) fu l0 l1 l2 D = some r) : F S D 0 [some (.ref l0), some (.int l1), some (.int l2)] [] := by
  have hX := hR.X
  unfold fX12_emits at hf
  obtain ⟨hg1, hf⟩ := ev_gd_s hf
  obtain ⟨hg2, hf⟩ := ev_gd_s hf
  refine ev_blk hX lkok_RX12 [(.aload_n 0, 1, 0, 0, 0), (.getfield 55, 3, 12, 24, 0), (.sipush 800, 3, 0, 0, 800), (.aload_n 0, 1, 0, 0, 0), (.getfield 202, 3, 12, 27, 0), (.iadd, 1, 0, 0, 0), (.iload_n 1, 1, 0, 0, 0), (.iastore, 1, 0, 0, 0), (.aload_n 0, 1, 0, 0, 0), (.getfield 58, 3, 12, 25, 0), (.sipush 800, 3, 0, 0, 800), (.aload_n 0, 1, 0, 0, 0), (.getfield 202, 3, 12, 27, 0), (.iadd, 1, 0, 0, 0), (.iload_n 2, 1, 0, 0, 0), (.iastore, 1, 0, 0, 0), (.aload_n 0, 1, 0, 0, 0), (.aload_n 0, 1, 0, 0, 0), (.getfield 202, 3, 12, 27, 0), (.iconst 1, 1, 0, 0, 1), (.iadd, 1, 0, 0, 0), (.putfield 202, 3, 12, 27, 0)] (by decide +kernel) (g := (sK S l0 == 15) && ((sK S l0 == 15) && ((sK S ((sE S) l0 24) == 1 && ev_in ((800 : Int32) + (D l0 27)) ((sL S) ((sE S) l0 24))) && ((sK S l0 == 15) && ((sK S l0 == 15) && ((sK S ((sE S) l0 25) == 1 && ev_in ((800 : Int32) + ((ev_up D ((sE S) l0 24) (((800 : Int32) + (D l0 27))).toNatClampNeg l1) l0 27)) ((sL S) ((sE S) l0 25))) && ((sK S l0 == 15) && ((sK S l0 == 15) && (true))))))))) (lv' := [some (.ref l0), some (.int l1), some (.int l2)]) (st' := []) (D' := (ev_up (ev_up (ev_up D ((sE S) l0 24) (((800 : Int32) + (D l0 27))).toNatClampNeg l1) ((sE S) l0 25) (((800 : Int32) + ((ev_up D ((sE S) l0 24) (((800 : Int32) + (D l0 27))).toNatClampNeg l1) l0 27))).toNatClampNeg l2) l0 27 (((ev_up (ev_up D ((sE S) l0 24) (((800 : Int32) + (D l0 27))).toNatClampNeg l1) ((sE S) l0 25) (((800 : Int32) + ((ev_up D ((sE S) l0 24) (((800 : Int32) + (D l0 27))).toNatClampNeg l1) l0 27))).toNatClampNeg l2) l0 27) + (1 : Int32)))) (pc' := 38) rfl (ev_gk hl0 (ev_gk hl0 (ev_gi (ev_tyk hT hl0 rfl rfl) hg1 (ev_gk hl0 (ev_gk hl0 (ev_gi (ev_tyk hT hl0 rfl rfl) hg2 (ev_gk hl0 (ev_gk hl0 (rfl))))))))) rfl ?_
  exact ev_weak hX (ev_le_no (ev_le_no (ev_le_no ev_le_nil))) (tX12_emits_38 hR hT hC    hf)
theorem mX12_emits {S : ev_S} {fu : Nat} {r : Int32 × ev_D} (hT : ev_Ty S) {l0 : Nat} {l1 : Int32} {l2 : Int32} {D : ev_D} (hl0 : sK S l0 = 15) (hf : fX12_emits (sL S) (sE S) fu l0 l1 l2 D = some r) : ev_M 0 0 0 yX12_emits cX12_emits 3 none [.ref l0, .int l1, .int l2] S D S r :=
  ev_met (ini := false) (plainFor_of_name (by decide)) (fun h => by cases h) rfl (Nat.le_of_ble_eq_true rfl) (fun F hR => tX12_emits (S := ev_z S) hR hT ⟨Nat.le_refl 0, Nat.le_refl 0⟩ hl0 hf)
