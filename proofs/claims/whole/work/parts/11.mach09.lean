set_option maxHeartbeats 4000000 in
set_option maxRecDepth 100000 in
theorem tX12_has {S : ev_S} {fu : Nat} {r : Int32 × ev_D} {F : ev_Fr} (hR : ev_R RX12 cX12_has 3 0 0 0 false (some .boolean) S r F) (hT : ev_Ty S) (hC : sC S ≤ 0 ∧ sA S ≤ 0) {l0 : Nat} {l1 : Int32} {l2 : Int32} {D : ev_D} (hl0 : sK S l0 = 15) (hf : fX12_has (sL S) (sE S) fu l0 l1 l2 D = some r) : F S D 0 [some (.ref l0), some (.int l1), some (.int l2)] [] := by
  have hX := hR.X
  unfold fX12_has at hf
  refine ev_blk hX lkok_RX12 [(.iload_n 1, 1, 0, 0, 0), (.iload_n 2, 1, 0, 0, 0), (.ishr, 1, 0, 0, 0), (.iconst 1, 1, 0, 0, 1), (.iand, 1, 0, 0, 0), (.iconst 1, 1, 0, 0, 1)] (by decide +kernel) (g := true) (lv' := [some (.ref l0), some (.int l1), some (.int l2)]) (st' := [.int (1 : Int32), .int ((l1 >>> (l2 &&& 31)) &&& (1 : Int32))]) (D' := D) (pc' := 6) rfl (rfl) rfl ?_
  refine ev_ic_ne hX (off := 7) 13 (by decide +kernel) (by decide) (fun h1 => ?_) (fun h1 => ?_)
  · have hf := ev_nf h1 hf
    refine ev_blk hX lkok_RX12 [(.iconst 0, 1, 0, 0, 0)] (by decide +kernel) (g := true) (lv' := [some (.ref l0), some (.int l1), some (.int l2)]) (st' := [.int (0 : Int32)]) (D' := D) (pc' := 14) rfl (rfl) rfl ?_
    exact ev_zret hR ev_sm.rf (Or.inl rfl) (Option.some.inj hf) hC (by decide +kernel)
  · have hf := ev_it h1 hf
    refine ev_blk hX lkok_RX12 [(.iconst 1, 1, 0, 0, 1)] (by decide +kernel) (g := true) (lv' := [some (.ref l0), some (.int l1), some (.int l2)]) (st' := [.int (1 : Int32)]) (D' := D) (pc' := 10) rfl (rfl) rfl ?_
    refine ev_goto hX (off := 4) 14 (by decide +kernel) (by decide) ?_
    exact ev_zret hR ev_sm.rf (Or.inr rfl) (Option.some.inj hf) hC (by decide +kernel)
theorem mX12_has {S : ev_S} {fu : Nat} {r : Int32 × ev_D} (hT : ev_Ty S) {l0 : Nat} {l1 : Int32} {l2 : Int32} {D : ev_D} (hl0 : sK S l0 = 15) (hf : fX12_has (sL S) (sE S) fu l0 l1 l2 D = some r) : ev_M 0 0 0 yX12_has cX12_has 3 (some .boolean) [.ref l0, .int l1, .int l2] S D S r :=
  ev_met (ini := false) (plainFor_of_name (by decide)) (fun h => by cases h) rfl (Nat.le_of_ble_eq_true rfl) (fun F hR => tX12_has (S := ev_z S) hR hT ⟨Nat.le_refl 0, Nat.le_refl 0⟩ hl0 hf)
set_option maxHeartbeats 4000000 in
set_option maxRecDepth 100000 in
theorem tX12_findsRows_165 {S : ev_S} {fu : Nat} {r : Int32 × ev_D} {F : ev_Fr} (hR : ev_R RX12 cX12_findsRows 6 1 0 0 false none S r F) (hT : ev_Ty S) (hC : sC S ≤ 0 ∧ sA S ≤ 0) {k22 : Nat → Int32 → Int32 → Int32 → ev_D → ev_Op} (hk22 : ∀ (l0 : Nat) (l1 : Int32) (l2 : Int32) (l3 : Int32) (D : ev_D), sK S l0 = 15 → k22 l0 l1 l2 l3 D = some r → F S D 22 [some (.ref l0), some (.int l1), some (.int l2), some (.int l3), none, none] []) {k87 : Nat → Int32 → Int32 → Int32 → Int32 → Int32 → ev_D → ev_Op} (hk87 : ∀ (l0 : Nat) (l1 : Int32) (l2 : Int32) (l3 : Int32) (l4 : Int32) (l5 : Int32) (D : ev_D), sK S l0 = 15 → k87 l0 l1 l2 l3 l4 l5 D = some r → F S D 87 [some (.ref l0), some (.int l1), some (.int l2), some (.int l3), some (.int l4), some (.int l5)] []) {l0 : Nat} {l1 : Int32} {l2 : Int32} {l3 : Int32} {l4 : Int32} {l5 : Int32} {D : ev_D} (hl0 : sK S l0 = 15) (hf : fX12_findsRows_165 (sL S) (sE S) fu k22 k87 l0 l1 l2 l3 l4 l5 D = some r) : F S D 165 [some (.ref l0), some (.int l1), some (.int l2), some (.int l3), some (.int l4), some (.int l5)] [] := by
  have hX := hR.X
  unfold fX12_findsRows_165 at hf
  refine ev_blk hX lkok_RX12 [(.iinc 5 1, 3, 0, 0, 1)] (by decide +kernel) (g := true) (lv' := [some (.ref l0), some (.int l1), some (.int l2), some (.int l3), some (.int l4), some (.int (l5 + (1 : Int32)))]) (st' := []) (D' := D) (pc' := 168) rfl (rfl) rfl ?_
  refine ev_goto hX (off := (-81)) 87 (by decide +kernel) (by decide) ?_
  exact ev_weak hX (ev_le_eq (ev_le_eq (ev_le_eq (ev_le_eq (ev_le_eq (ev_le_eq ev_le_nil)))))) (hk87 _ _ _ _ _ _ _ hl0 hf)
set_option maxHeartbeats 4000000 in
set_option maxRecDepth 100000 in
theorem tX12_findsRows_87 {S : ev_S} {fu : Nat} {r : Int32 × ev_D} {F : ev_Fr} (hR : ev_R RX12 cX12_findsRows 6 1 0 0 false none S r F) (hT : ev_Ty S) (hC : sC S ≤ 0 ∧ sA S ≤ 0) {k22 : Nat → Int32 → Int32 → Int32 → ev_D → ev_Op} (hk22 : ∀ (l0 : Nat) (l1 : Int32) (l2 : Int32) (l3 : Int32) (D : ev_D), sK S l0 = 15 → k22 l0 l1 l2 l3 D = some r → F S D 22 [some (.ref l0), some (.int l1), some (.int l2), some (.int l3), none, none] []) : ∀ (n : Nat) (l0 : Nat) (l1 : Int32) (l2 : Int32) (l3 : Int32) (l4 : Int32) (l5 : Int32) (D : ev_D), sK S l0 = 15 → fX12_findsRows_87 (sL S) (sE S) fu k22 n l0 l1 l2 l3 l4 l5 D = some r → F S D 87 [some (.ref l0), some (.int l1), some (.int l2), some (.int l3), some (.int l4), some (.int l5)] [] := by
  have hX := hR.X
  intro n
  induction n with
  | zero =>
    intro l0 l1 l2 l3 l4 l5 D hl0 hf
    rw [fX12_findsRows_87] at hf
    cases hf
  | succ n ih =>
    intro l0 l1 l2 l3 l4 l5 D hl0 hf
    rw [fX12_findsRows_87] at hf
    refine ev_blk hX lkok_RX12 [(.iload 5, 2, 0, 0, 0), (.iconst 1, 1, 0, 0, 1), (.iadd, 1, 0, 0, 0), (.iload_n 1, 1, 0, 0, 0)] (by decide +kernel) (g := true) (lv' := [some (.ref l0), some (.int l1), some (.int l2), some (.int l3), some (.int l4), some (.int l5)]) (st' := [.int l1, .int (l5 + (1 : Int32))]) (D' := D) (pc' := 92) rfl (rfl) rfl ?_
    refine ev_ic_ge hX (off := 79) 171 (by decide +kernel) (by decide) (fun h1 => ?_) (fun h1 => ?_)
    · have hf := ev_it h1 hf
      refine ev_blk hX lkok_RX12 [(.iinc 3 1, 3, 0, 0, 1)] (by decide +kernel) (g := true) (lv' := [some (.ref l0), some (.int l1), some (.int l2), some (.int (l3 + (1 : Int32))), some (.int l4), some (.int l5)]) (st' := []) (D' := D) (pc' := 174) rfl (rfl) rfl ?_
      refine ev_goto hX (off := (-152)) 22 (by decide +kernel) (by decide) ?_
      exact ev_weak hX (ev_le_eq (ev_le_eq (ev_le_eq (ev_le_eq (ev_le_no (ev_le_no ev_le_nil)))))) (hk22 _ _ _ _ _ hl0 hf)
    · have hf := ev_nf h1 hf
      refine ev_blk hX lkok_RX12 [(.aload_n 0, 1, 0, 0, 0), (.iload 4, 2, 0, 0, 0), (.iload 5, 2, 0, 0, 0)] (by decide +kernel) (g := true) (lv' := [some (.ref l0), some (.int l1), some (.int l2), some (.int l3), some (.int l4), some (.int l5)]) (st' := [.int l5, .int l4, .ref l0]) (D' := D) (pc' := 100) rfl (rfl) rfl ?_
      obtain ⟨v2, D2, hc2, hf⟩ := ev_bd_s hf
      refine ev_callV hX YX12_has ml_RX12_390 (mX12_has hT hl0 hc2) (vs := [.int l4, .int l5]) (st := []) (by decide) 12 hl0 rfl rfl rfl (by decide +kernel) hC ?_
      show F S D2 103 [some (.ref l0), some (.int l1), some (.int l2), some (.int l3), some (.int l4), some (.int l5)] [.int v2]
      refine ev_if_ne hX (off := 6) 109 (by decide +kernel) (by decide) (fun h3 => ?_) (fun h3 => ?_)
      · have hf := ev_nf h3 hf
        obtain ⟨hg4, hf⟩ := ev_gd_s hf
        obtain ⟨hg5, hf⟩ := ev_gd_s hf
        obtain ⟨hg6, hf⟩ := ev_gd_s hf
        obtain ⟨hg7, hf⟩ := ev_gd_s hf
        refine ev_blk hX lkok_RX12 [(.aload_n 0, 1, 0, 0, 0), (.getfield 83, 3, 12, 44, 0), (.bipush 8, 2, 0, 0, 8), (.iload_n 3, 1, 0, 0, 0), (.imul, 1, 0, 0, 0), (.iload 5, 2, 0, 0, 0), (.iadd, 1, 0, 0, 0), (.aload_n 0, 1, 0, 0, 0), (.getfield 83, 3, 12, 44, 0), (.bipush 8, 2, 0, 0, 8), (.iload_n 3, 1, 0, 0, 0), (.imul, 1, 0, 0, 0), (.bipush 7, 2, 0, 0, 7), (.isub, 1, 0, 0, 0), (.iload 5, 2, 0, 0, 0), (.iadd, 1, 0, 0, 0), (.iaload, 1, 0, 0, 0), (.iastore, 1, 0, 0, 0), (.aload_n 0, 1, 0, 0, 0), (.getfield 83, 3, 12, 44, 0), (.bipush 8, 2, 0, 0, 8), (.iload_n 3, 1, 0, 0, 0), (.imul, 1, 0, 0, 0), (.iload 5, 2, 0, 0, 0), (.iadd, 1, 0, 0, 0), (.iconst 1, 1, 0, 0, 1), (.iadd, 1, 0, 0, 0), (.aload_n 0, 1, 0, 0, 0), (.getfield 83, 3, 12, 44, 0), (.bipush 8, 2, 0, 0, 8), (.iload_n 3, 1, 0, 0, 0), (.imul, 1, 0, 0, 0), (.bipush 8, 2, 0, 0, 8), (.isub, 1, 0, 0, 0), (.iload 5, 2, 0, 0, 0), (.iadd, 1, 0, 0, 0), (.iaload, 1, 0, 0, 0), (.iastore, 1, 0, 0, 0)] (by decide +kernel) (g := (sK S l0 == 15) && ((sK S l0 == 15) && ((sK S ((sE S) l0 44) == 1 && ev_in ((((8 : Int32) * l3) - (7 : Int32)) + l5) ((sL S) ((sE S) l0 44))) && ((sK S ((sE S) l0 44) == 1 && ev_in (((8 : Int32) * l3) + l5) ((sL S) ((sE S) l0 44))) && ((sK S l0 == 15) && ((sK S l0 == 15) && ((sK S ((sE S) l0 44) == 1 && ev_in ((((8 : Int32) * l3) - (8 : Int32)) + l5) ((sL S) ((sE S) l0 44))) && ((sK S ((sE S) l0 44) == 1 && ev_in ((((8 : Int32) * l3) + l5) + (1 : Int32)) ((sL S) ((sE S) l0 44))) && (true))))))))) (lv' := [some (.ref l0), some (.int l1), some (.int l2), some (.int l3), some (.int l4), some (.int l5)]) (st' := []) (D' := (ev_up (ev_up D2 ((sE S) l0 44) ((((8 : Int32) * l3) + l5)).toNatClampNeg (D2 ((sE S) l0 44) (((((8 : Int32) * l3) - (7 : Int32)) + l5)).toNatClampNeg)) ((sE S) l0 44) (((((8 : Int32) * l3) + l5) + (1 : Int32))).toNatClampNeg ((ev_up D2 ((sE S) l0 44) ((((8 : Int32) * l3) + l5)).toNatClampNeg (D2 ((sE S) l0 44) (((((8 : Int32) * l3) - (7 : Int32)) + l5)).toNatClampNeg)) ((sE S) l0 44) (((((8 : Int32) * l3) - (8 : Int32)) + l5)).toNatClampNeg))) (pc' := 165) rfl (ev_gk hl0 (ev_gk hl0 (ev_gi (ev_tyk hT hl0 rfl rfl) hg4 (ev_gi (ev_tyk hT hl0 rfl rfl) hg5 (ev_gk hl0 (ev_gk hl0 (ev_gi (ev_tyk hT hl0 rfl rfl) hg6 (ev_gi (ev_tyk hT hl0 rfl rfl) hg7 (rfl))))))))) rfl ?_
        exact ev_weak hX (ev_le_eq (ev_le_eq (ev_le_eq (ev_le_eq (ev_le_eq (ev_le_eq ev_le_nil)))))) (tX12_findsRows_165 hR hT hC  hk22 ih hl0 hf)
      · have hf := ev_it h3 hf
        refine ev_goto hX (off := 59) 165 (by decide +kernel) (by decide) ?_
        exact ev_weak hX (ev_le_eq (ev_le_eq (ev_le_eq (ev_le_eq (ev_le_eq (ev_le_eq ev_le_nil)))))) (tX12_findsRows_165 hR hT hC  hk22 ih hl0 hf)
set_option maxHeartbeats 4000000 in
set_option maxRecDepth 100000 in
theorem tX12_findsRows_45 {S : ev_S} {fu : Nat} {r : Int32 × ev_D} {F : ev_Fr} (hR : ev_R RX12 cX12_findsRows 6 1 0 0 false none S r F) (hT : ev_Ty S) (hC : sC S ≤ 0 ∧ sA S ≤ 0) {k22 : Nat → Int32 → Int32 → Int32 → ev_D → ev_Op} (hk22 : ∀ (l0 : Nat) (l1 : Int32) (l2 : Int32) (l3 : Int32) (D : ev_D), sK S l0 = 15 → k22 l0 l1 l2 l3 D = some r → F S D 22 [some (.ref l0), some (.int l1), some (.int l2), some (.int l3), none, none] []) : ∀ (n : Nat) (l0 : Nat) (l1 : Int32) (l2 : Int32) (l3 : Int32) (l4 : Int32) (l5 : Int32) (D : ev_D), sK S l0 = 15 → fX12_findsRows_45 (sL S) (sE S) fu k22 n l0 l1 l2 l3 l4 l5 D = some r → F S D 45 [some (.ref l0), some (.int l1), some (.int l2), some (.int l3), some (.int l4), some (.int l5)] [] := by
  have hX := hR.X
  intro n
  induction n with
  | zero =>
    intro l0 l1 l2 l3 l4 l5 D hl0 hf
    rw [fX12_findsRows_45] at hf
    cases hf
  | succ n ih =>
    intro l0 l1 l2 l3 l4 l5 D hl0 hf
    rw [fX12_findsRows_45] at hf
    refine ev_blk hX lkok_RX12 [(.iload 5, 2, 0, 0, 0), (.iload_n 1, 1, 0, 0, 0)] (by decide +kernel) (g := true) (lv' := [some (.ref l0), some (.int l1), some (.int l2), some (.int l3), some (.int l4), some (.int l5)]) (st' := [.int l1, .int l5]) (D' := D) (pc' := 48) rfl (rfl) rfl ?_
    refine ev_ic_ge hX (off := 36) 84 (by decide +kernel) (by decide) (fun h8 => ?_) (fun h8 => ?_)
    · have hf := ev_it h8 hf
      refine ev_blk hX lkok_RX12 [(.iconst 0, 1, 0, 0, 0), (.istore 5, 2, 0, 0, 0)] (by decide +kernel) (g := true) (lv' := [some (.ref l0), some (.int l1), some (.int l2), some (.int l3), some (.int l4), some (.int (0 : Int32))]) (st' := []) (D' := D) (pc' := 87) rfl (rfl) rfl ?_
      exact ev_weak hX (ev_le_eq (ev_le_eq (ev_le_eq (ev_le_eq (ev_le_eq (ev_le_eq ev_le_nil)))))) (tX12_findsRows_87 hR hT hC  hk22 fu _ _ _ _ _ _ _ hl0 hf)
    · have hf := ev_nf h8 hf
      obtain ⟨hg9, hf⟩ := ev_gd_s hf
      obtain ⟨hg10, hf⟩ := ev_gd_s hf
      refine ev_blk hX lkok_RX12 [(.aload_n 0, 1, 0, 0, 0), (.getfield 83, 3, 12, 44, 0), (.bipush 8, 2, 0, 0, 8), (.iload_n 3, 1, 0, 0, 0), (.imul, 1, 0, 0, 0), (.iload 5, 2, 0, 0, 0), (.iadd, 1, 0, 0, 0), (.aload_n 0, 1, 0, 0, 0), (.getfield 83, 3, 12, 44, 0), (.bipush 8, 2, 0, 0, 8), (.iload_n 3, 1, 0, 0, 0), (.imul, 1, 0, 0, 0), (.bipush 8, 2, 0, 0, 8), (.isub, 1, 0, 0, 0), (.iload 5, 2, 0, 0, 0), (.iadd, 1, 0, 0, 0), (.iaload, 1, 0, 0, 0), (.iastore, 1, 0, 0, 0), (.iinc 5 1, 3, 0, 0, 1)] (by decide +kernel) (g := (sK S l0 == 15) && ((sK S l0 == 15) && ((sK S ((sE S) l0 44) == 1 && ev_in ((((8 : Int32) * l3) - (8 : Int32)) + l5) ((sL S) ((sE S) l0 44))) && ((sK S ((sE S) l0 44) == 1 && ev_in (((8 : Int32) * l3) + l5) ((sL S) ((sE S) l0 44))) && (true))))) (lv' := [some (.ref l0), some (.int l1), some (.int l2), some (.int l3), some (.int l4), some (.int (l5 + (1 : Int32)))]) (st' := []) (D' := (ev_up D ((sE S) l0 44) ((((8 : Int32) * l3) + l5)).toNatClampNeg (D ((sE S) l0 44) (((((8 : Int32) * l3) - (8 : Int32)) + l5)).toNatClampNeg))) (pc' := 81) rfl (ev_gk hl0 (ev_gk hl0 (ev_gi (ev_tyk hT hl0 rfl rfl) hg9 (ev_gi (ev_tyk hT hl0 rfl rfl) hg10 (rfl))))) rfl ?_
      refine ev_goto hX (off := (-36)) 45 (by decide +kernel) (by decide) ?_
      exact ev_weak hX (ev_le_eq (ev_le_eq (ev_le_eq (ev_le_eq (ev_le_eq (ev_le_eq ev_le_nil)))))) (ih _ _ _ _ _ _ _ hl0 hf)
set_option maxHeartbeats 4000000 in
set_option maxRecDepth 100000 in
theorem tX12_findsRows_22 {S : ev_S} {fu : Nat} {r : Int32 × ev_D} {F : ev_Fr} (hR : ev_R RX12 cX12_findsRows 6 1 0 0 false none S r F) (hT : ev_Ty S) (hC : sC S ≤ 0 ∧ sA S ≤ 0) : ∀ (n : Nat) (l0 : Nat) (l1 : Int32) (l2 : Int32) (l3 : Int32) (D : ev_D), sK S l0 = 15 → fX12_findsRows_22 (sL S) (sE S) fu n l0 l1 l2 l3 D = some r → F S D 22 [some (.ref l0), some (.int l1), some (.int l2), some (.int l3), none, none] [] := by
  have hX := hR.X
  intro n
  induction n with
  | zero =>
    intro l0 l1 l2 l3 D hl0 hf
    rw [fX12_findsRows_22] at hf
    cases hf
  | succ n ih =>
    intro l0 l1 l2 l3 D hl0 hf
    rw [fX12_findsRows_22] at hf
    refine ev_blk hX lkok_RX12 [(.iload_n 3, 1, 0, 0, 0), (.iload_n 2, 1, 0, 0, 0)] (by decide +kernel) (g := true) (lv' := [some (.ref l0), some (.int l1), some (.int l2), some (.int l3), none, none]) (st' := [.int l2, .int l3]) (D' := D) (pc' := 24) rfl (rfl) rfl ?_
    refine ev_ic_ge hX (off := 153) 177 (by decide +kernel) (by decide) (fun h11 => ?_) (fun h11 => ?_)
    · have hf := ev_it h11 hf
      exact ev_vret hR ev_sm.rf (Option.some.inj hf) hC (by decide +kernel)
    · have hf := ev_nf h11 hf
      obtain ⟨hg12, hf⟩ := ev_gd_s hf
      obtain ⟨hg13, hf⟩ := ev_gd_s hf
      refine ev_blk hX lkok_RX12 [(.aload_n 0, 1, 0, 0, 0), (.getfield 74, 3, 12, 40, 0), (.iload_n 3, 1, 0, 0, 0), (.iconst 1, 1, 0, 0, 1), (.isub, 1, 0, 0, 0), (.aload_n 0, 1, 0, 0, 0), (.getfield 296, 3, 12, 39, 0), (.irem, 1, 0, 0, 0), (.iaload, 1, 0, 0, 0), (.istore 4, 2, 0, 0, 0), (.iconst 0, 1, 0, 0, 0), (.istore 5, 2, 0, 0, 0)] (by decide +kernel) (g := (sK S l0 == 15) && ((sK S l0 == 15) && ((!(decide ((D l0 39) = 0))) && ((sK S ((sE S) l0 40) == 1 && ev_in ((l3 - (1 : Int32)) - (l3 - (1 : Int32)) / (D l0 39) * (D l0 39)) ((sL S) ((sE S) l0 40))) && (true))))) (lv' := [some (.ref l0), some (.int l1), some (.int l2), some (.int l3), some (.int (D ((sE S) l0 40) (((l3 - (1 : Int32)) - (l3 - (1 : Int32)) / (D l0 39) * (D l0 39))).toNatClampNeg)), some (.int (0 : Int32))]) (st' := []) (D' := D) (pc' := 45) rfl (ev_gk hl0 (ev_gk hl0 (ev_g2 hg12 (ev_gi (ev_tyk hT hl0 rfl rfl) hg13 (rfl))))) rfl ?_
      exact ev_weak hX (ev_le_eq (ev_le_eq (ev_le_eq (ev_le_eq (ev_le_eq (ev_le_eq ev_le_nil)))))) (tX12_findsRows_45 hR hT hC  ih fu _ _ _ _ _ _ _ hl0 hf)
set_option maxHeartbeats 4000000 in
set_option maxRecDepth 100000 in
theorem tX12_findsRows_2 {S : ev_S} {fu : Nat} {r : Int32 × ev_D} {F : ev_Fr} (hR : ev_R RX12 cX12_findsRows 6 1 0 0 false none S r F) (hT : ev_Ty S) (hC : sC S ≤ 0 ∧ sA S ≤ 0) : ∀ (n : Nat) (l0 : Nat) (l1 : Int32) (l2 : Int32) (l3 : Int32) (D : ev_D), sK S l0 = 15 → fX12_findsRows_2 (sL S) (sE S) fu n l0 l1 l2 l3 D = some r → F S D 2 [some (.ref l0), some (.int l1), some (.int l2), some (.int l3), none, none] [] := by
  have hX := hR.X
  intro n
  induction n with
  | zero =>
    intro l0 l1 l2 l3 D hl0 hf
    rw [fX12_findsRows_2] at hf
    cases hf
  | succ n ih =>
    intro l0 l1 l2 l3 D hl0 hf
    rw [fX12_findsRows_2] at hf
    refine ev_blk hX lkok_RX12 [(.iload_n 3, 1, 0, 0, 0), (.iload_n 1, 1, 0, 0, 0)] (by decide +kernel) (g := true) (lv' := [some (.ref l0), some (.int l1), some (.int l2), some (.int l3), none, none]) (st' := [.int l1, .int l3]) (D' := D) (pc' := 4) rfl (rfl) rfl ?_
    refine ev_ic_ge hX (off := 16) 20 (by decide +kernel) (by decide) (fun h14 => ?_) (fun h14 => ?_)
    · have hf := ev_it h14 hf
      refine ev_blk hX lkok_RX12 [(.iconst 1, 1, 0, 0, 1), (.istore_n 3, 1, 0, 0, 0)] (by decide +kernel) (g := true) (lv' := [some (.ref l0), some (.int l1), some (.int l2), some (.int (1 : Int32)), none, none]) (st' := []) (D' := D) (pc' := 22) rfl (rfl) rfl ?_
      exact ev_weak hX (ev_le_eq (ev_le_eq (ev_le_eq (ev_le_eq (ev_le_no (ev_le_no ev_le_nil)))))) (tX12_findsRows_22 hR hT hC   fu _ _ _ _ _ hl0 hf)
    · have hf := ev_nf h14 hf
      obtain ⟨hg15, hf⟩ := ev_gd_s hf
      refine ev_blk hX lkok_RX12 [(.aload_n 0, 1, 0, 0, 0), (.getfield 83, 3, 12, 44, 0), (.iload_n 3, 1, 0, 0, 0), (.iload_n 3, 1, 0, 0, 0), (.iastore, 1, 0, 0, 0), (.iinc 3 1, 3, 0, 0, 1)] (by decide +kernel) (g := (sK S l0 == 15) && ((sK S ((sE S) l0 44) == 1 && ev_in l3 ((sL S) ((sE S) l0 44))) && (true))) (lv' := [some (.ref l0), some (.int l1), some (.int l2), some (.int (l3 + (1 : Int32))), none, none]) (st' := []) (D' := (ev_up D ((sE S) l0 44) (l3).toNatClampNeg l3)) (pc' := 17) rfl (ev_gk hl0 (ev_gi (ev_tyk hT hl0 rfl rfl) hg15 (rfl))) rfl ?_
      refine ev_goto hX (off := (-15)) 2 (by decide +kernel) (by decide) ?_
      exact ev_weak hX (ev_le_eq (ev_le_eq (ev_le_eq (ev_le_eq (ev_le_no (ev_le_no ev_le_nil)))))) (ih _ _ _ _ _ hl0 hf)
set_option maxHeartbeats 4000000 in
set_option maxRecDepth 100000 in
theorem tX12_findsRows {S : ev_S} {fu : Nat} {r : Int32 × ev_D} {F : ev_Fr} (hR : ev_R RX12 cX12_findsRows 6 1 0 0 false none S r F) (hT : ev_Ty S) (hC : sC S ≤ 0 ∧ sA S ≤ 0) {l0 : Nat} {l1 : Int32} {l2 : Int32} {D : ev_D} (hl0 : sK S l0 = 15) (hf : fX12_findsRows (sL S) (sE S) fu l0 l1 l2 D = some r) : F S D 0 [some (.ref l0), some (.int l1), some (.int l2), none, none, none] [] := by
  have hX := hR.X
  unfold fX12_findsRows at hf
  refine ev_blk hX lkok_RX12 [(.iconst 0, 1, 0, 0, 0), (.istore_n 3, 1, 0, 0, 0)] (by decide +kernel) (g := true) (lv' := [some (.ref l0), some (.int l1), some (.int l2), some (.int (0 : Int32)), none, none]) (st' := []) (D' := D) (pc' := 2) rfl (rfl) rfl ?_
  exact ev_weak hX (ev_le_eq (ev_le_eq (ev_le_eq (ev_le_eq (ev_le_no (ev_le_no ev_le_nil)))))) (tX12_findsRows_2 hR hT hC   fu _ _ _ _ _ hl0 hf)
theorem mX12_findsRows {S : ev_S} {fu : Nat} {r : Int32 × ev_D} (hT : ev_Ty S) {l0 : Nat} {l1 : Int32} {l2 : Int32} {D : ev_D} (hl0 : sK S l0 = 15) (hf : fX12_findsRows (sL S) (sE S) fu l0 l1 l2 D = some r) : ev_M 1 0 0 yX12_findsRows cX12_findsRows 6 none [.ref l0, .int l1, .int l2] S D S r :=
  ev_met (ini := false) (plainFor_of_name (by decide)) (fun h => by cases h) rfl (Nat.le_of_ble_eq_true rfl) (fun F hR => tX12_findsRows (S := ev_z S) hR hT ⟨Nat.le_refl 0, Nat.le_refl 0⟩ hl0 hf)
set_option maxHeartbeats 4000000 in
set_option maxRecDepth 100000 in
theorem tX12_isSameRow_3 {S : ev_S} {fu : Nat} {r : Int32 × ev_D} {F : ev_Fr} (hR : ev_R RX12 cX12_isSameRow 5 0 0 0 false (some .boolean) S r F) (hT : ev_Ty S) (hC : sC S ≤ 0 ∧ sA S ≤ 0) : ∀ (n : Nat) (l0 : Nat) (l1 : Int32) (l2 : Int32) (l3 : Int32) (l4 : Int32) (D : ev_D), sK S l0 = 15 → fX12_isSameRow_3 (sL S) (sE S) fu n l0 l1 l2 l3 l4 D = some r → F S D 3 [some (.ref l0), some (.int l1), some (.int l2), some (.int l3), some (.int l4)] [] := by
  have hX := hR.X
  intro n
  induction n with
  | zero =>
    intro l0 l1 l2 l3 l4 D hl0 hf
    rw [fX12_isSameRow_3] at hf
    cases hf
  | succ n ih =>
    intro l0 l1 l2 l3 l4 D hl0 hf
    rw [fX12_isSameRow_3] at hf
    refine ev_blk hX lkok_RX12 [(.iload 4, 2, 0, 0, 0), (.iload_n 3, 1, 0, 0, 0)] (by decide +kernel) (g := true) (lv' := [some (.ref l0), some (.int l1), some (.int l2), some (.int l3), some (.int l4)]) (st' := [.int l3, .int l4]) (D' := D) (pc' := 6) rfl (rfl) rfl ?_
    refine ev_ic_ge hX (off := 38) 44 (by decide +kernel) (by decide) (fun h1 => ?_) (fun h1 => ?_)
    · have hf := ev_it h1 hf
      refine ev_blk hX lkok_RX12 [(.iconst 1, 1, 0, 0, 1)] (by decide +kernel) (g := true) (lv' := [some (.ref l0), some (.int l1), some (.int l2), some (.int l3), some (.int l4)]) (st' := [.int (1 : Int32)]) (D' := D) (pc' := 45) rfl (rfl) rfl ?_
      exact ev_zret hR ev_sm.rf (Or.inr rfl) (Option.some.inj hf) hC (by decide +kernel)
    · have hf := ev_nf h1 hf
      obtain ⟨hg3, hf⟩ := ev_gd_s hf
      obtain ⟨hg4, hf⟩ := ev_gd_s hf
      refine ev_blk hX lkok_RX12 [(.aload_n 0, 1, 0, 0, 0), (.getfield 83, 3, 12, 44, 0), (.bipush 8, 2, 0, 0, 8), (.iload_n 1, 1, 0, 0, 0), (.imul, 1, 0, 0, 0), (.iload 4, 2, 0, 0, 0), (.iadd, 1, 0, 0, 0), (.iaload, 1, 0, 0, 0), (.aload_n 0, 1, 0, 0, 0), (.getfield 83, 3, 12, 44, 0), (.bipush 8, 2, 0, 0, 8), (.iload_n 2, 1, 0, 0, 0), (.imul, 1, 0, 0, 0), (.iload 4, 2, 0, 0, 0), (.iadd, 1, 0, 0, 0), (.iaload, 1, 0, 0, 0)] (by decide +kernel) (g := (sK S l0 == 15) && ((sK S ((sE S) l0 44) == 1 && ev_in (((8 : Int32) * l1) + l4) ((sL S) ((sE S) l0 44))) && ((sK S l0 == 15) && ((sK S ((sE S) l0 44) == 1 && ev_in (((8 : Int32) * l2) + l4) ((sL S) ((sE S) l0 44))) && (true))))) (lv' := [some (.ref l0), some (.int l1), some (.int l2), some (.int l3), some (.int l4)]) (st' := [.int (D ((sE S) l0 44) ((((8 : Int32) * l2) + l4)).toNatClampNeg), .int (D ((sE S) l0 44) ((((8 : Int32) * l1) + l4)).toNatClampNeg)]) (D' := D) (pc' := 33) rfl (ev_gk hl0 (ev_gi (ev_tyk hT hl0 rfl rfl) hg3 (ev_gk hl0 (ev_gi (ev_tyk hT hl0 rfl rfl) hg4 (rfl))))) rfl ?_
      refine ev_ic_eq hX (off := 5) 38 (by decide +kernel) (by decide) (fun h2 => ?_) (fun h2 => ?_)
      · have hf := ev_it h2 hf
        refine ev_blk hX lkok_RX12 [(.iinc 4 1, 3, 0, 0, 1)] (by decide +kernel) (g := true) (lv' := [some (.ref l0), some (.int l1), some (.int l2), some (.int l3), some (.int (l4 + (1 : Int32)))]) (st' := []) (D' := D) (pc' := 41) rfl (rfl) rfl ?_
        refine ev_goto hX (off := (-38)) 3 (by decide +kernel) (by decide) ?_
        exact ev_weak hX (ev_le_eq (ev_le_eq (ev_le_eq (ev_le_eq (ev_le_eq ev_le_nil))))) (ih _ _ _ _ _ _ hl0 hf)
      · have hf := ev_nf h2 hf
        refine ev_blk hX lkok_RX12 [(.iconst 0, 1, 0, 0, 0)] (by decide +kernel) (g := true) (lv' := [some (.ref l0), some (.int l1), some (.int l2), some (.int l3), some (.int l4)]) (st' := [.int (0 : Int32)]) (D' := D) (pc' := 37) rfl (rfl) rfl ?_
        exact ev_zret hR ev_sm.rf (Or.inl rfl) (Option.some.inj hf) hC (by decide +kernel)
set_option maxHeartbeats 4000000 in
set_option maxRecDepth 100000 in
theorem tX12_isSameRow {S : ev_S} {fu : Nat} {r : Int32 × ev_D} {F : ev_Fr} (hR : ev_R RX12 cX12_isSameRow 5 0 0 0 false (some .boolean) S r F) (hT : ev_Ty S) (hC : sC S ≤ 0 ∧ sA S ≤ 0) {l0 : Nat} {l1 : Int32} {l2 : Int32} {l3 : Int32} {D : ev_D} (hl0 : sK S l0 = 15) (hf : fX12_isSameRow (sL S) (sE S) fu l0 l1 l2 l3 D = some r) : F S D 0 [some (.ref l0), some (.int l1), some (.int l2), some (.int l3), none] [] := by
  have hX := hR.X
  unfold fX12_isSameRow at hf
  refine ev_blk hX lkok_RX12 [(.iconst 0, 1, 0, 0, 0), (.istore 4, 2, 0, 0, 0)] (by decide +kernel) (g := true) (lv' := [some (.ref l0), some (.int l1), some (.int l2), some (.int l3), some (.int (0 : Int32))]) (st' := []) (D' := D) (pc' := 3) rfl (rfl) rfl ?_
  exact ev_weak hX (ev_le_eq (ev_le_eq (ev_le_eq (ev_le_eq (ev_le_eq ev_le_nil))))) (tX12_isSameRow_3 hR hT hC   fu _ _ _ _ _ _ hl0 hf)
theorem mX12_isSameRow {S : ev_S} {fu : Nat} {r : Int32 × ev_D} (hT : ev_Ty S) {l0 : Nat} {l1 : Int32} {l2 : Int32} {l3 : Int32} {D : ev_D} (hl0 : sK S l0 = 15) (hf : fX12_isSameRow (sL S) (sE S) fu l0 l1 l2 l3 D = some r) : ev_M 0 0 0 yX12_isSameRow cX12_isSameRow 5 (some .boolean) [.ref l0, .int l1, .int l2, .int l3] S D S r :=
  ev_met (ini := false) (plainFor_of_name (by decide)) (fun h => by cases h) rfl (Nat.le_of_ble_eq_true rfl) (fun F hR => tX12_isSameRow (S := ev_z S) hR hT ⟨Nat.le_refl 0, Nat.le_refl 0⟩ hl0 hf)
set_option maxHeartbeats 4000000 in
set_option maxRecDepth 100000 in
theorem tX12_longOf_2 {S : ev_S} {fu : Nat} {r : Int32 × ev_D} {F : ev_Fr} (hR : ev_R RX12 cX12_longOf 3 1 0 0 false (some .int) S r F) (hT : ev_Ty S) (hC : sC S ≤ 0 ∧ sA S ≤ 0) : ∀ (n : Nat) (l0 : Nat) (l1 : Int32) (l2 : Int32) (D : ev_D), sK S l0 = 15 → fX12_longOf_2 (sL S) (sE S) fu n l0 l1 l2 D = some r → F S D 2 [some (.ref l0), some (.int l1), some (.int l2)] [] := by
  have hX := hR.X
  intro n
  induction n with
  | zero =>
    intro l0 l1 l2 D hl0 hf
    rw [fX12_longOf_2] at hf
    cases hf
  | succ n ih =>
    intro l0 l1 l2 D hl0 hf
    rw [fX12_longOf_2] at hf
    refine ev_blk hX lkok_RX12 [(.aload_n 0, 1, 0, 0, 0), (.iload_n 2, 1, 0, 0, 0), (.iconst 0, 1, 0, 0, 0), (.iload_n 1, 1, 0, 0, 0)] (by decide +kernel) (g := true) (lv' := [some (.ref l0), some (.int l1), some (.int l2)]) (st' := [.int l1, .int (0 : Int32), .int l2, .ref l0]) (D' := D) (pc' := 6) rfl (rfl) rfl ?_
    obtain ⟨v1, D1, hc1, hf⟩ := ev_bd_s hf
    refine ev_callV hX YX12_isSameRow ml_RX12_394 (mX12_isSameRow hT hl0 hc1) (vs := [.int l2, .int (0 : Int32), .int l1]) (st := []) (by decide) 12 hl0 rfl rfl rfl (by decide +kernel) hC ?_
    show F S D1 9 [some (.ref l0), some (.int l1), some (.int l2)] [.int v1]
    refine ev_if_ne hX (off := 10) 19 (by decide +kernel) (by decide) (fun h2 => ?_) (fun h2 => ?_)
    · have hf := ev_nf h2 hf
      refine ev_blk hX lkok_RX12 [(.iload_n 2, 1, 0, 0, 0)] (by decide +kernel) (g := true) (lv' := [some (.ref l0), some (.int l1), some (.int l2)]) (st' := [.int l2]) (D' := D1) (pc' := 20) rfl (rfl) rfl ?_
      exact ev_iret hR ev_sm.rf (Option.some.inj hf) hC (by decide +kernel)
    · have hf := ev_it h2 hf
      refine ev_blk hX lkok_RX12 [(.iload_n 2, 1, 0, 0, 0), (.iconst 1, 1, 0, 0, 1), (.iadd, 1, 0, 0, 0), (.istore_n 2, 1, 0, 0, 0)] (by decide +kernel) (g := true) (lv' := [some (.ref l0), some (.int l1), some (.int (l2 + (1 : Int32)))]) (st' := []) (D' := D1) (pc' := 16) rfl (rfl) rfl ?_
      refine ev_goto hX (off := (-14)) 2 (by decide +kernel) (by decide) ?_
      exact ev_weak hX (ev_le_eq (ev_le_eq (ev_le_eq ev_le_nil))) (ih _ _ _ _ hl0 hf)
set_option maxHeartbeats 4000000 in
set_option maxRecDepth 100000 in
theorem tX12_longOf {S : ev_S} {fu : Nat} {r : Int32 × ev_D} {F : ev_Fr} (hR : ev_R RX12 cX12_longOf 3 1 0 0 false (some .int) S r F) (hT : ev_Ty S) (hC : sC S ≤ 0 ∧ sA S ≤ 0) {l0 : Nat} {l1 : Int32} {D : ev_D} (hl0 : sK S l0 = 15) (hf : fX12_longOf (sL S) (sE S) fu l0 l1 D = some r) : F S D 0 [some (.ref l0), some (.int l1), none] [] := by
  have hX := hR.X
  unfold fX12_longOf at hf
  refine ev_blk hX lkok_RX12 [(.iconst 1, 1, 0, 0, 1), (.istore_n 2, 1, 0, 0, 0)] (by decide +kernel) (g := true) (lv' := [some (.ref l0), some (.int l1), some (.int (1 : Int32))]) (st' := []) (D' := D) (pc' := 2) rfl (rfl) rfl ?_
  exact ev_weak hX (ev_le_eq (ev_le_eq (ev_le_eq ev_le_nil))) (tX12_longOf_2 hR hT hC   fu _ _ _ _ hl0 hf)
theorem mX12_longOf {S : ev_S} {fu : Nat} {r : Int32 × ev_D} (hT : ev_Ty S) {l0 : Nat} {l1 : Int32} {D : ev_D} (hl0 : sK S l0 = 15) (hf : fX12_longOf (sL S) (sE S) fu l0 l1 D = some r) : ev_M 1 0 0 yX12_longOf cX12_longOf 3 (some .int) [.ref l0, .int l1] S D S r :=
  ev_met (ini := false) (plainFor_of_name (by decide)) (fun h => by cases h) rfl (Nat.le_of_ble_eq_true rfl) (fun F hR => tX12_longOf (S := ev_z S) hR hT ⟨Nat.le_refl 0, Nat.le_refl 0⟩ hl0 hf)
set_option maxHeartbeats 4000000 in
set_option maxRecDepth 100000 in
theorem tX12_trueOf_11 {S : ev_S} {fu : Nat} {r : Int32 × ev_D} {F : ev_Fr} (hR : ev_R RX12 cX12_trueOf 4 1 0 0 false (some .int) S r F) (hT : ev_Ty S) (hC : sC S ≤ 0 ∧ sA S ≤ 0) {k2 : Nat → Int32 → Int32 → ev_D → ev_Op} (hk2 : ∀ (l0 : Nat) (l1 : Int32) (l2 : Int32) (D : ev_D), sK S l0 = 15 → k2 l0 l1 l2 D = some r → F S D 2 [some (.ref l0), some (.int l1), some (.int l2), none] []) : ∀ (n : Nat) (l0 : Nat) (l1 : Int32) (l2 : Int32) (l3 : Int32) (D : ev_D), sK S l0 = 15 → fX12_trueOf_11 (sL S) (sE S) fu k2 n l0 l1 l2 l3 D = some r → F S D 11 [some (.ref l0), some (.int l1), some (.int l2), some (.int l3)] [] := by
  have hX := hR.X
  intro n
  induction n with
  | zero =>
    intro l0 l1 l2 l3 D hl0 hf
    rw [fX12_trueOf_11] at hf
    cases hf
  | succ n ih =>
    intro l0 l1 l2 l3 D hl0 hf
    rw [fX12_trueOf_11] at hf
    refine ev_blk hX lkok_RX12 [(.iload_n 3, 1, 0, 0, 0), (.iload_n 2, 1, 0, 0, 0)] (by decide +kernel) (g := true) (lv' := [some (.ref l0), some (.int l1), some (.int l2), some (.int l3)]) (st' := [.int l2, .int l3]) (D' := D) (pc' := 13) rfl (rfl) rfl ?_
    refine ev_ic_ge hX (off := 21) 34 (by decide +kernel) (by decide) (fun h1 => ?_) (fun h1 => ?_)
    · have hf := ev_it h1 hf
      refine ev_blk hX lkok_RX12 [(.iinc 2 1, 3, 0, 0, 1)] (by decide +kernel) (g := true) (lv' := [some (.ref l0), some (.int l1), some (.int (l2 + (1 : Int32))), some (.int l3)]) (st' := []) (D' := D) (pc' := 37) rfl (rfl) rfl ?_
      refine ev_goto hX (off := (-35)) 2 (by decide +kernel) (by decide) ?_
      exact ev_weak hX (ev_le_eq (ev_le_eq (ev_le_eq (ev_le_no ev_le_nil)))) (hk2 _ _ _ _ hl0 hf)
    · have hf := ev_nf h1 hf
      refine ev_blk hX lkok_RX12 [(.aload_n 0, 1, 0, 0, 0), (.iload_n 2, 1, 0, 0, 0), (.iload_n 3, 1, 0, 0, 0), (.iload_n 1, 1, 0, 0, 0)] (by decide +kernel) (g := true) (lv' := [some (.ref l0), some (.int l1), some (.int l2), some (.int l3)]) (st' := [.int l1, .int l3, .int l2, .ref l0]) (D' := D) (pc' := 20) rfl (rfl) rfl ?_
      obtain ⟨v2, D2, hc2, hf⟩ := ev_bd_s hf
      refine ev_callV hX YX12_isSameRow ml_RX12_394 (mX12_isSameRow hT hl0 hc2) (vs := [.int l2, .int l3, .int l1]) (st := []) (by decide) 12 hl0 rfl rfl rfl (by decide +kernel) hC ?_
      show F S D2 23 [some (.ref l0), some (.int l1), some (.int l2), some (.int l3)] [.int v2]
      refine ev_if_eq hX (off := 5) 28 (by decide +kernel) (by decide) (fun h3 => ?_) (fun h3 => ?_)
      · have hf := ev_it h3 hf
        refine ev_blk hX lkok_RX12 [(.iinc 3 1, 3, 0, 0, 1)] (by decide +kernel) (g := true) (lv' := [some (.ref l0), some (.int l1), some (.int l2), some (.int (l3 + (1 : Int32)))]) (st' := []) (D' := D2) (pc' := 31) rfl (rfl) rfl ?_
        refine ev_goto hX (off := (-20)) 11 (by decide +kernel) (by decide) ?_
        exact ev_weak hX (ev_le_eq (ev_le_eq (ev_le_eq (ev_le_eq ev_le_nil)))) (ih _ _ _ _ _ hl0 hf)
      · have hf := ev_nf h3 hf
        refine ev_blk hX lkok_RX12 [(.iload_n 2, 1, 0, 0, 0)] (by decide +kernel) (g := true) (lv' := [some (.ref l0), some (.int l1), some (.int l2), some (.int l3)]) (st' := [.int l2]) (D' := D2) (pc' := 27) rfl (rfl) rfl ?_
        exact ev_iret hR ev_sm.rf (Option.some.inj hf) hC (by decide +kernel)
set_option maxHeartbeats 4000000 in
set_option maxRecDepth 100000 in
theorem tX12_trueOf_2 {S : ev_S} {fu : Nat} {r : Int32 × ev_D} {F : ev_Fr} (hR : ev_R RX12 cX12_trueOf 4 1 0 0 false (some .int) S r F) (hT : ev_Ty S) (hC : sC S ≤ 0 ∧ sA S ≤ 0) : ∀ (n : Nat) (l0 : Nat) (l1 : Int32) (l2 : Int32) (D : ev_D), sK S l0 = 15 → fX12_trueOf_2 (sL S) (sE S) fu n l0 l1 l2 D = some r → F S D 2 [some (.ref l0), some (.int l1), some (.int l2), none] [] := by
  have hX := hR.X
  intro n
  induction n with
  | zero =>
    intro l0 l1 l2 D hl0 hf
    rw [fX12_trueOf_2] at hf
    cases hf
  | succ n ih =>
    intro l0 l1 l2 D hl0 hf
    rw [fX12_trueOf_2] at hf
    refine ev_blk hX lkok_RX12 [(.iload_n 2, 1, 0, 0, 0), (.sipush 1000, 3, 0, 0, 1000)] (by decide +kernel) (g := true) (lv' := [some (.ref l0), some (.int l1), some (.int l2), none]) (st' := [.int (1000 : Int32), .int l2]) (D' := D) (pc' := 6) rfl (rfl) rfl ?_
    refine ev_ic_ge hX (off := 34) 40 (by decide +kernel) (by decide) (fun h4 => ?_) (fun h4 => ?_)
    · have hf := ev_it h4 hf
      refine ev_blk hX lkok_RX12 [(.sipush 1000, 3, 0, 0, 1000)] (by decide +kernel) (g := true) (lv' := [some (.ref l0), some (.int l1), some (.int l2), none]) (st' := [.int (1000 : Int32)]) (D' := D) (pc' := 43) rfl (rfl) rfl ?_
      exact ev_iret hR ev_sm.rf (Option.some.inj hf) hC (by decide +kernel)
    · have hf := ev_nf h4 hf
      refine ev_blk hX lkok_RX12 [(.iconst 0, 1, 0, 0, 0), (.istore_n 3, 1, 0, 0, 0)] (by decide +kernel) (g := true) (lv' := [some (.ref l0), some (.int l1), some (.int l2), some (.int (0 : Int32))]) (st' := []) (D' := D) (pc' := 11) rfl (rfl) rfl ?_
      exact ev_weak hX (ev_le_eq (ev_le_eq (ev_le_eq (ev_le_eq ev_le_nil)))) (tX12_trueOf_11 hR hT hC  ih fu _ _ _ _ _ hl0 hf)
set_option maxHeartbeats 4000000 in
set_option maxRecDepth 100000 in
theorem tX12_trueOf {S : ev_S} {fu : Nat} {r : Int32 × ev_D} {F : ev_Fr} (hR : ev_R RX12 cX12_trueOf 4 1 0 0 false (some .int) S r F) (hT : ev_Ty S) (hC : sC S ≤ 0 ∧ sA S ≤ 0) {l0 : Nat} {l1 : Int32} {D : ev_D} (hl0 : sK S l0 = 15) (hf : fX12_trueOf (sL S) (sE S) fu l0 l1 D = some r) : F S D 0 [some (.ref l0), some (.int l1), none, none] [] := by
  have hX := hR.X
  unfold fX12_trueOf at hf
  refine ev_blk hX lkok_RX12 [(.iconst 1, 1, 0, 0, 1), (.istore_n 2, 1, 0, 0, 0)] (by decide +kernel) (g := true) (lv' := [some (.ref l0), some (.int l1), some (.int (1 : Int32)), none]) (st' := []) (D' := D) (pc' := 2) rfl (rfl) rfl ?_
  exact ev_weak hX (ev_le_eq (ev_le_eq (ev_le_eq (ev_le_no ev_le_nil)))) (tX12_trueOf_2 hR hT hC   fu _ _ _ _ hl0 hf)
theorem mX12_trueOf {S : ev_S} {fu : Nat} {r : Int32 × ev_D} (hT : ev_Ty S) {l0 : Nat} {l1 : Int32} {D : ev_D} (hl0 : sK S l0 = 15) (hf : fX12_trueOf (sL S) (sE S) fu l0 l1 D = some r) : ev_M 1 0 0 yX12_trueOf cX12_trueOf 4 (some .int) [.ref l0, .int l1] S D S r :=
  ev_met (ini := false) (plainFor_of_name (by decide)) (fun h => by cases h) rfl (Nat.le_of_ble_eq_true rfl) (fun F hR => tX12_trueOf (S := ev_z S) hR hT ⟨Nat.le_refl 0, Nat.le_refl 0⟩ hl0 hf)
set_option maxHeartbeats 4000000 in
set_option maxRecDepth 100000 in
theorem tX12_peal {S : ev_S} {fu : Nat} {r : Int32 × ev_D} {F : ev_Fr} (hR : ev_R RX12 cX12_peal 3 2 0 0 false (some .int) S r F) (hT : ev_Ty S) (hC : sC S ≤ 0 ∧ sA S ≤ 0) {l0 : Nat} {l1 : Int32} {l2 : Int32} {D : ev_D} (hl0 : sK S l0 = 15) (hf : fX12_peal (sL S) (sE S) fu l0 l1 l2 D = some r) : F S D 0 [some (.ref l0), some (.int l1), some (.int l2)] [] := by
  have hX := hR.X
  unfold fX12_peal at hf
  refine ev_blk hX lkok_RX12 [(.aload_n 0, 1, 0, 0, 0), (.iconst 0, 1, 0, 0, 0), (.putfield 128, 3, 12, 0, 0), (.aload_n 0, 1, 0, 0, 0), (.iload_n 1, 1, 0, 0, 0), (.iconst 2, 1, 0, 0, 2), (.bipush 8, 2, 0, 0, 8)] (by decide +kernel) (g := (sK S l0 == 15) && (true)) (lv' := [some (.ref l0), some (.int l1), some (.int l2)]) (st' := [.int (8 : Int32), .int (2 : Int32), .int l1, .ref l0]) (D' := (ev_up D l0 0 (0 : Int32))) (pc' := 10) rfl (ev_gk hl0 (rfl)) rfl ?_
  obtain ⟨v1, D1, hc1, hf⟩ := ev_bd_s hf
  refine ev_callV hX YX12_isIn ml_RX12_150 (mX12_isIn hT hl0 hc1) (vs := [.int l1, .int (2 : Int32), .int (8 : Int32)]) (st := []) (by decide) 12 hl0 rfl rfl rfl (by decide +kernel) hC ?_
  show F S D1 13 [some (.ref l0), some (.int l1), some (.int l2)] [.int v1]
  refine ev_if_eq hX (off := 13) 26 (by decide +kernel) (by decide) (fun h2 => ?_) (fun h2 => ?_)
  · have hf := ev_it h2 hf
    refine ev_blk hX lkok_RX12 [(.iconst (-1), 1, 0, 0, (-1))] (by decide +kernel) (g := true) (lv' := [some (.ref l0), some (.int l1), some (.int l2)]) (st' := [.int (-1 : Int32)]) (D' := D1) (pc' := 27) rfl (rfl) rfl ?_
    exact ev_iret hR ev_sm.rf (Option.some.inj hf) hC (by decide +kernel)
  · have hf := ev_nf h2 hf
    refine ev_blk hX lkok_RX12 [(.aload_n 0, 1, 0, 0, 0), (.iload_n 2, 1, 0, 0, 0), (.iconst 0, 1, 0, 0, 0), (.iconst 1, 1, 0, 0, 1)] (by decide +kernel) (g := true) (lv' := [some (.ref l0), some (.int l1), some (.int l2)]) (st' := [.int (1 : Int32), .int (0 : Int32), .int l2, .ref l0]) (D' := D1) (pc' := 20) rfl (rfl) rfl ?_
    obtain ⟨v3, D3, hc3, hf⟩ := ev_bd_s hf
    refine ev_callV hX YX12_isIn ml_RX12_150 (mX12_isIn hT hl0 hc3) (vs := [.int l2, .int (0 : Int32), .int (1 : Int32)]) (st := []) (by decide) 12 hl0 rfl rfl rfl (by decide +kernel) hC ?_
    show F S D3 23 [some (.ref l0), some (.int l1), some (.int l2)] [.int v3]
    refine ev_if_ne hX (off := 5) 28 (by decide +kernel) (by decide) (fun h4 => ?_) (fun h4 => ?_)
    · have hf := ev_nf h4 hf
      refine ev_blk hX lkok_RX12 [(.aload_n 0, 1, 0, 0, 0), (.getfield 296, 3, 12, 39, 0)] (by decide +kernel) (g := (sK S l0 == 15) && (true)) (lv' := [some (.ref l0), some (.int l1), some (.int l2)]) (st' := [.int (D3 l0 39)]) (D' := D3) (pc' := 32) rfl (ev_gk hl0 (rfl)) rfl ?_
      refine ev_if_ne hX (off := 13) 45 (by decide +kernel) (by decide) (fun h5 => ?_) (fun h5 => ?_)
      · have hf := ev_nf h5 hf
        refine ev_blk hX lkok_RX12 [(.aload_n 0, 1, 0, 0, 0), (.iload_n 1, 1, 0, 0, 0), (.sipush 1000, 3, 0, 0, 1000)] (by decide +kernel) (g := true) (lv' := [some (.ref l0), some (.int l1), some (.int l2)]) (st' := [.int (1000 : Int32), .int l1, .ref l0]) (D' := D3) (pc' := 50) rfl (rfl) rfl ?_
        obtain ⟨v6, D6, hc6, hf⟩ := ev_bd_s hf
        refine ev_callV hX YX12_findsRows ml_RX12_397 (mX12_findsRows hT hl0 hc6) (vs := [.int l1, .int (1000 : Int32)]) (st := []) (by decide) 12 hl0 rfl rfl rfl (by decide +kernel) hC ?_
        show F S D6 53 [some (.ref l0), some (.int l1), some (.int l2)] []
        refine ev_blk hX lkok_RX12 [(.iload_n 2, 1, 0, 0, 0)] (by decide +kernel) (g := true) (lv' := [some (.ref l0), some (.int l1), some (.int l2)]) (st' := [.int l2]) (D' := D6) (pc' := 54) rfl (rfl) rfl ?_
        refine ev_if_ne hX (off := 11) 65 (by decide +kernel) (by decide) (fun h7 => ?_) (fun h7 => ?_)
        · have hf := ev_nf h7 hf
          refine ev_blk hX lkok_RX12 [(.aload_n 0, 1, 0, 0, 0), (.iload_n 1, 1, 0, 0, 0)] (by decide +kernel) (g := true) (lv' := [some (.ref l0), some (.int l1), some (.int l2)]) (st' := [.int l1, .ref l0]) (D' := D6) (pc' := 67) rfl (rfl) rfl ?_
          obtain ⟨v8, D8, hc8, hf⟩ := ev_bd_s hf
          refine ev_callV hX YX12_trueOf ml_RX12_403 (mX12_trueOf hT hl0 hc8) (vs := [.int l1]) (st := []) (by decide) 12 hl0 rfl rfl rfl (by decide +kernel) hC ?_
          show F S D8 70 [some (.ref l0), some (.int l1), some (.int l2)] [.int v8]
          exact ev_iret hR ev_sm.rf (Option.some.inj hf) hC (by decide +kernel)
        · have hf := ev_it h7 hf
          refine ev_blk hX lkok_RX12 [(.aload_n 0, 1, 0, 0, 0), (.iload_n 1, 1, 0, 0, 0)] (by decide +kernel) (g := true) (lv' := [some (.ref l0), some (.int l1), some (.int l2)]) (st' := [.int l1, .ref l0]) (D' := D6) (pc' := 59) rfl (rfl) rfl ?_
          obtain ⟨v9, D9, hc9, hf⟩ := ev_bd_s hf
          refine ev_callV hX YX12_longOf ml_RX12_400 (mX12_longOf hT hl0 hc9) (vs := [.int l1]) (st := []) (by decide) 12 hl0 rfl rfl rfl (by decide +kernel) hC ?_
          show F S D9 62 [some (.ref l0), some (.int l1), some (.int l2)] [.int v9]
          refine ev_goto hX (off := 8) 70 (by decide +kernel) (by decide) ?_
          exact ev_iret hR ev_sm.rf (Option.some.inj hf) hC (by decide +kernel)
      · have hf := ev_it h5 hf
        refine ev_blk hX lkok_RX12 [(.iload_n 2, 1, 0, 0, 0)] (by decide +kernel) (g := true) (lv' := [some (.ref l0), some (.int l1), some (.int l2)]) (st' := [.int l2]) (D' := D3) (pc' := 36) rfl (rfl) rfl ?_
        refine ev_if_ne hX (off := 7) 43 (by decide +kernel) (by decide) (fun h10 => ?_) (fun h10 => ?_)
        · have hf := ev_nf h10 hf
          refine ev_blk hX lkok_RX12 [(.iconst 1, 1, 0, 0, 1)] (by decide +kernel) (g := true) (lv' := [some (.ref l0), some (.int l1), some (.int l2)]) (st' := [.int (1 : Int32)]) (D' := D3) (pc' := 44) rfl (rfl) rfl ?_
          exact ev_iret hR ev_sm.rf (Option.some.inj hf) hC (by decide +kernel)
        · have hf := ev_it h10 hf
          refine ev_blk hX lkok_RX12 [(.iconst (-1), 1, 0, 0, (-1))] (by decide +kernel) (g := true) (lv' := [some (.ref l0), some (.int l1), some (.int l2)]) (st' := [.int (-1 : Int32)]) (D' := D3) (pc' := 40) rfl (rfl) rfl ?_
          refine ev_goto hX (off := 4) 44 (by decide +kernel) (by decide) ?_
          exact ev_iret hR ev_sm.rf (Option.some.inj hf) hC (by decide +kernel)
    · have hf := ev_it h4 hf
      refine ev_blk hX lkok_RX12 [(.iconst (-1), 1, 0, 0, (-1))] (by decide +kernel) (g := true) (lv' := [some (.ref l0), some (.int l1), some (.int l2)]) (st' := [.int (-1 : Int32)]) (D' := D3) (pc' := 27) rfl (rfl) rfl ?_
      exact ev_iret hR ev_sm.rf (Option.some.inj hf) hC (by decide +kernel)
theorem mX12_peal {S : ev_S} {fu : Nat} {r : Int32 × ev_D} (hT : ev_Ty S) {l0 : Nat} {l1 : Int32} {l2 : Int32} {D : ev_D} (hl0 : sK S l0 = 15) (hf : fX12_peal (sL S) (sE S) fu l0 l1 l2 D = some r) : ev_M 2 0 0 yX12_peal cX12_peal 3 (some .int) [.ref l0, .int l1, .int l2] S D S r :=
  ev_met (ini := false) (plainFor_of_name (by decide)) (fun h => by cases h) rfl (Nat.le_of_ble_eq_true rfl) (fun F hR => tX12_peal (S := ev_z S) hR hT ⟨Nat.le_refl 0, Nat.le_refl 0⟩ hl0 hf)
set_option maxHeartbeats 4000000 in
set_option maxRecDepth 100000 in
theorem tX12_row_33 {S : ev_S} {fu : Nat} {r : Int32 × ev_D} {F : ev_Fr} (hR : ev_R RX12 cX12_row 4 2 0 0 false (some .int) S r F) (hT : ev_Ty S) (hC : sC S ≤ 0 ∧ sA S ≤ 0) {l0 : Nat} {l1 : Int32} {l2 : Int32} {l3 : Int32} {s0 : Nat} {s1 : Int32} {s2 : Int32} {s3 : Int32} {D : ev_D} (hl0 : sK S l0 = 15) (hs0 : sK S s0 = 15) (hf : fX12_row_33 (sL S) (sE S) fu l0 l1 l2 l3 s0 s1 s2 s3 D = some r) : F S D 33 [some (.ref l0), some (.int l1), some (.int l2), some (.int l3)] [.int s3, .int s2, .int s1, .ref s0] := by
  have hX := hR.X
  unfold fX12_row_33 at hf
  obtain ⟨v1, D1, hc1, hf⟩ := ev_bd_s hf
  refine ev_callV hX YX12_isIn ml_RX12_150 (mX12_isIn hT hs0 hc1) (vs := [.int s1, .int s2, .int s3]) (st := []) (by decide) 12 hs0 rfl rfl rfl (by decide +kernel) hC ?_
  show F S D1 36 [some (.ref l0), some (.int l1), some (.int l2), some (.int l3)] [.int v1]
  refine ev_if_eq hX (off := 15) 51 (by decide +kernel) (by decide) (fun h2 => ?_) (fun h2 => ?_)
  · have hf := ev_it h2 hf
    refine ev_blk hX lkok_RX12 [(.iconst (-1), 1, 0, 0, (-1))] (by decide +kernel) (g := true) (lv' := [some (.ref l0), some (.int l1), some (.int l2), some (.int l3)]) (st' := [.int (-1 : Int32)]) (D' := D1) (pc' := 52) rfl (rfl) rfl ?_
    exact ev_iret hR ev_sm.rf (Option.some.inj hf) hC (by decide +kernel)
  · have hf := ev_nf h2 hf
    refine ev_blk hX lkok_RX12 [(.aload_n 0, 1, 0, 0, 0), (.iload_n 3, 1, 0, 0, 0), (.iconst 0, 1, 0, 0, 0), (.iload_n 1, 1, 0, 0, 0), (.iconst 1, 1, 0, 0, 1), (.isub, 1, 0, 0, 0)] (by decide +kernel) (g := true) (lv' := [some (.ref l0), some (.int l1), some (.int l2), some (.int l3)]) (st' := [.int (l1 - (1 : Int32)), .int (0 : Int32), .int l3, .ref l0]) (D' := D1) (pc' := 45) rfl (rfl) rfl ?_
    obtain ⟨v3, D3, hc3, hf⟩ := ev_bd_s hf
    refine ev_callV hX YX12_isIn ml_RX12_150 (mX12_isIn hT hl0 hc3) (vs := [.int l3, .int (0 : Int32), .int (l1 - (1 : Int32))]) (st := []) (by decide) 12 hl0 rfl rfl rfl (by decide +kernel) hC ?_
    show F S D3 48 [some (.ref l0), some (.int l1), some (.int l2), some (.int l3)] [.int v3]
    refine ev_if_ne hX (off := 5) 53 (by decide +kernel) (by decide) (fun h4 => ?_) (fun h4 => ?_)
    · have hf := ev_nf h4 hf
      refine ev_blk hX lkok_RX12 [(.aload_n 0, 1, 0, 0, 0), (.iload_n 1, 1, 0, 0, 0), (.iload_n 2, 1, 0, 0, 0), (.iconst 1, 1, 0, 0, 1), (.iadd, 1, 0, 0, 0)] (by decide +kernel) (g := true) (lv' := [some (.ref l0), some (.int l1), some (.int l2), some (.int l3)]) (st' := [.int (l2 + (1 : Int32)), .int l1, .ref l0]) (D' := D3) (pc' := 58) rfl (rfl) rfl ?_
      obtain ⟨v5, D5, hc5, hf⟩ := ev_bd_s hf
      refine ev_callV hX YX12_findsRows ml_RX12_397 (mX12_findsRows hT hl0 hc5) (vs := [.int l1, .int (l2 + (1 : Int32))]) (st := []) (by decide) 12 hl0 rfl rfl rfl (by decide +kernel) hC ?_
      show F S D5 61 [some (.ref l0), some (.int l1), some (.int l2), some (.int l3)] []
      obtain ⟨hg6, hf⟩ := ev_gd_s hf
      refine ev_blk hX lkok_RX12 [(.aload_n 0, 1, 0, 0, 0), (.getfield 83, 3, 12, 44, 0), (.bipush 8, 2, 0, 0, 8), (.iload_n 2, 1, 0, 0, 0), (.imul, 1, 0, 0, 0), (.iload_n 3, 1, 0, 0, 0), (.iadd, 1, 0, 0, 0), (.iaload, 1, 0, 0, 0)] (by decide +kernel) (g := (sK S l0 == 15) && ((sK S ((sE S) l0 44) == 1 && ev_in (((8 : Int32) * l2) + l3) ((sL S) ((sE S) l0 44))) && (true))) (lv' := [some (.ref l0), some (.int l1), some (.int l2), some (.int l3)]) (st' := [.int (D5 ((sE S) l0 44) ((((8 : Int32) * l2) + l3)).toNatClampNeg)]) (D' := D5) (pc' := 72) rfl (ev_gk hl0 (ev_gi (ev_tyk hT hl0 rfl rfl) hg6 (rfl))) rfl ?_
      exact ev_iret hR ev_sm.rf (Option.some.inj hf) hC (by decide +kernel)
    · have hf := ev_it h4 hf
      refine ev_blk hX lkok_RX12 [(.iconst (-1), 1, 0, 0, (-1))] (by decide +kernel) (g := true) (lv' := [some (.ref l0), some (.int l1), some (.int l2), some (.int l3)]) (st' := [.int (-1 : Int32)]) (D' := D3) (pc' := 52) rfl (rfl) rfl ?_
      exact ev_iret hR ev_sm.rf (Option.some.inj hf) hC (by decide +kernel)
set_option maxHeartbeats 4000000 in
set_option maxRecDepth 100000 in
theorem tX12_row {S : ev_S} {fu : Nat} {r : Int32 × ev_D} {F : ev_Fr} (hR : ev_R RX12 cX12_row 4 2 0 0 false (some .int) S r F) (hT : ev_Ty S) (hC : sC S ≤ 0 ∧ sA S ≤ 0) {l0 : Nat} {l1 : Int32} {l2 : Int32} {l3 : Int32} {D : ev_D} (hl0 : sK S l0 = 15) (hf : fX12_row (sL S) (sE S) fu l0 l1 l2 l3 D = some r) : F S D 0 [some (.ref l0), some (.int l1), some (.int l2), some (.int l3)] [] := by
  have hX := hR.X
  unfold fX12_row at hf
  refine ev_blk hX lkok_RX12 [(.aload_n 0, 1, 0, 0, 0), (.iconst 0, 1, 0, 0, 0), (.putfield 128, 3, 12, 0, 0), (.aload_n 0, 1, 0, 0, 0), (.iload_n 1, 1, 0, 0, 0), (.iconst 2, 1, 0, 0, 2), (.bipush 8, 2, 0, 0, 8)] (by decide +kernel) (g := (sK S l0 == 15) && (true)) (lv' := [some (.ref l0), some (.int l1), some (.int l2), some (.int l3)]) (st' := [.int (8 : Int32), .int (2 : Int32), .int l1, .ref l0]) (D' := (ev_up D l0 0 (0 : Int32))) (pc' := 10) rfl (ev_gk hl0 (rfl)) rfl ?_
  obtain ⟨v7, D7, hc7, hf⟩ := ev_bd_s hf
  refine ev_callV hX YX12_isIn ml_RX12_150 (mX12_isIn hT hl0 hc7) (vs := [.int l1, .int (2 : Int32), .int (8 : Int32)]) (st := []) (by decide) 12 hl0 rfl rfl rfl (by decide +kernel) hC ?_
  show F S D7 13 [some (.ref l0), some (.int l1), some (.int l2), some (.int l3)] [.int v7]
  refine ev_if_eq hX (off := 38) 51 (by decide +kernel) (by decide) (fun h8 => ?_) (fun h8 => ?_)
  · have hf := ev_it h8 hf
    refine ev_blk hX lkok_RX12 [(.iconst (-1), 1, 0, 0, (-1))] (by decide +kernel) (g := true) (lv' := [some (.ref l0), some (.int l1), some (.int l2), some (.int l3)]) (st' := [.int (-1 : Int32)]) (D' := D7) (pc' := 52) rfl (rfl) rfl ?_
    exact ev_iret hR ev_sm.rf (Option.some.inj hf) hC (by decide +kernel)
  · have hf := ev_nf h8 hf
    refine ev_blk hX lkok_RX12 [(.aload_n 0, 1, 0, 0, 0), (.iload_n 2, 1, 0, 0, 0), (.iconst 0, 1, 0, 0, 0), (.aload_n 0, 1, 0, 0, 0), (.getfield 296, 3, 12, 39, 0)] (by decide +kernel) (g := (sK S l0 == 15) && (true)) (lv' := [some (.ref l0), some (.int l1), some (.int l2), some (.int l3)]) (st' := [.int (D7 l0 39), .int (0 : Int32), .int l2, .ref l0]) (D' := D7) (pc' := 23) rfl (ev_gk hl0 (rfl)) rfl ?_
    refine ev_if_ne hX (off := 7) 30 (by decide +kernel) (by decide) (fun h9 => ?_) (fun h9 => ?_)
    · have hf := ev_nf h9 hf
      refine ev_blk hX lkok_RX12 [(.sipush 999, 3, 0, 0, 999)] (by decide +kernel) (g := true) (lv' := [some (.ref l0), some (.int l1), some (.int l2), some (.int l3)]) (st' := [.int (999 : Int32), .int (0 : Int32), .int l2, .ref l0]) (D' := D7) (pc' := 33) rfl (rfl) rfl ?_
      exact ev_weak hX (ev_le_eq (ev_le_eq (ev_le_eq (ev_le_eq ev_le_nil)))) (tX12_row_33 hR hT hC   hl0 hl0 hf)
    · have hf := ev_it h9 hf
      refine ev_blk hX lkok_RX12 [(.iconst 0, 1, 0, 0, 0)] (by decide +kernel) (g := true) (lv' := [some (.ref l0), some (.int l1), some (.int l2), some (.int l3)]) (st' := [.int (0 : Int32), .int (0 : Int32), .int l2, .ref l0]) (D' := D7) (pc' := 27) rfl (rfl) rfl ?_
      refine ev_goto hX (off := 6) 33 (by decide +kernel) (by decide) ?_
      exact ev_weak hX (ev_le_eq (ev_le_eq (ev_le_eq (ev_le_eq ev_le_nil)))) (tX12_row_33 hR hT hC   hl0 hl0 hf)
theorem mX12_row {S : ev_S} {fu : Nat} {r : Int32 × ev_D} (hT : ev_Ty S) {l0 : Nat} {l1 : Int32} {l2 : Int32} {l3 : Int32} {D : ev_D} (hl0 : sK S l0 = 15) (hf : fX12_row (sL S) (sE S) fu l0 l1 l2 l3 D = some r) : ev_M 2 0 0 yX12_row cX12_row 4 (some .int) [.ref l0, .int l1, .int l2, .int l3] S D S r :=
  ev_met (ini := false) (plainFor_of_name (by decide)) (fun h => by cases h) rfl (Nat.le_of_ble_eq_true rfl) (fun F hR => tX12_row (S := ev_z S) hR hT ⟨Nat.le_refl 0, Nat.le_refl 0⟩ hl0 hf)
set_option maxHeartbeats 4000000 in
set_option maxRecDepth 100000 in
theorem tX12_sign_81 {S : ev_S} {fu : Nat} {r : Int32 × ev_D} {F : ev_Fr} (hR : ev_R RX12 cX12_sign 3 1 0 0 false (some .int) S r F) (hT : ev_Ty S) (hC : sC S ≤ 0 ∧ sA S ≤ 0) {l0 : Nat} {D : ev_D} (hl0 : sK S l0 = 15) (hf : fX12_sign_81 (sL S) (sE S) fu l0 D = some r) : F S D 81 [some (.ref l0), none, none] [] := by
  have hX := hR.X
  unfold fX12_sign_81 at hf
  refine ev_blk hX lkok_RX12 [(.aload_n 0, 1, 0, 0, 0), (.getfield 406, 3, 12, 45, 0)] (by decide +kernel) (g := (sK S l0 == 15) && (true)) (lv' := [some (.ref l0), none, none]) (st' := [.int (D l0 45)]) (D' := D) (pc' := 85) rfl (ev_gk hl0 (rfl)) rfl ?_
  exact ev_iret hR ev_sm.rf (Option.some.inj hf) hC (by decide +kernel)
set_option maxHeartbeats 4000000 in
set_option maxRecDepth 100000 in
theorem tX12_sign {S : ev_S} {fu : Nat} {r : Int32 × ev_D} {F : ev_Fr} (hR : ev_R RX12 cX12_sign 3 1 0 0 false (some .int) S r F) (hT : ev_Ty S) (hC : sC S ≤ 0 ∧ sA S ≤ 0) {l0 : Nat} {l1 : Int32} {l2 : Int32} {D : ev_D} (hl0 : sK S l0 = 15) (hf : fX12_sign (sL S) (sE S) fu l0 l1 l2 D = some r) : F S D 0 [some (.ref l0), some (.int l1), some (.int l2)] [] := by
  have hX := hR.X
  unfold fX12_sign at hf
  refine ev_blk hX lkok_RX12 [(.aload_n 0, 1, 0, 0, 0), (.iconst 0, 1, 0, 0, 0), (.putfield 128, 3, 12, 0, 0), (.iload_n 1, 1, 0, 0, 0), (.iconst (-1), 1, 0, 0, (-1))] (by decide +kernel) (g := (sK S l0 == 15) && (true)) (lv' := [some (.ref l0), some (.int l1), some (.int l2)]) (st' := [.int (-1 : Int32), .int l1]) (D' := (ev_up D l0 0 (0 : Int32))) (pc' := 7) rfl (ev_gk hl0 (rfl)) rfl ?_
  refine ev_ic_ne hX (off := 10) 17 (by decide +kernel) (by decide) (fun h1 => ?_) (fun h1 => ?_)
  · have hf := ev_nf h1 hf
    refine ev_blk hX lkok_RX12 [(.aload_n 0, 1, 0, 0, 0), (.iload_n 1, 1, 0, 0, 0), (.iconst 0, 1, 0, 0, 0), (.ldc_w 409, 3, 0, 0, 65535)] (by decide +kernel) (g := true) (lv' := [some (.ref l0), some (.int l1), some (.int l2)]) (st' := [.int (65535 : Int32), .int (0 : Int32), .int l1, .ref l0]) (D' := (ev_up D l0 0 (0 : Int32))) (pc' := 23) rfl (rfl) rfl ?_
    obtain ⟨v2, D2, hc2, hf⟩ := ev_bd_s hf
    refine ev_callV hX YX12_isIn ml_RX12_150 (mX12_isIn hT hl0 hc2) (vs := [.int l1, .int (0 : Int32), .int (65535 : Int32)]) (st := []) (by decide) 12 hl0 rfl rfl rfl (by decide +kernel) hC ?_
    show F S D2 26 [some (.ref l0), some (.int l1), some (.int l2)] [.int v2]
    refine ev_if_eq hX (off := 23) 49 (by decide +kernel) (by decide) (fun h3 => ?_) (fun h3 => ?_)
    · have hf := ev_it h3 hf
      refine ev_blk hX lkok_RX12 [(.iconst (-1), 1, 0, 0, (-1))] (by decide +kernel) (g := true) (lv' := [some (.ref l0), some (.int l1), some (.int l2)]) (st' := [.int (-1 : Int32)]) (D' := D2) (pc' := 50) rfl (rfl) rfl ?_
      exact ev_iret hR ev_sm.rf (Option.some.inj hf) hC (by decide +kernel)
    · have hf := ev_nf h3 hf
      refine ev_blk hX lkok_RX12 [(.aload_n 0, 1, 0, 0, 0), (.iload_n 2, 1, 0, 0, 0), (.iconst 0, 1, 0, 0, 0), (.bipush 99, 2, 0, 0, 99)] (by decide +kernel) (g := true) (lv' := [some (.ref l0), some (.int l1), some (.int l2)]) (st' := [.int (99 : Int32), .int (0 : Int32), .int l2, .ref l0]) (D' := D2) (pc' := 34) rfl (rfl) rfl ?_
      obtain ⟨v4, D4, hc4, hf⟩ := ev_bd_s hf
      refine ev_callV hX YX12_isIn ml_RX12_150 (mX12_isIn hT hl0 hc4) (vs := [.int l2, .int (0 : Int32), .int (99 : Int32)]) (st := []) (by decide) 12 hl0 rfl rfl rfl (by decide +kernel) hC ?_
      show F S D4 37 [some (.ref l0), some (.int l1), some (.int l2)] [.int v4]
      refine ev_if_eq hX (off := 12) 49 (by decide +kernel) (by decide) (fun h5 => ?_) (fun h5 => ?_)
      · have hf := ev_it h5 hf
        refine ev_blk hX lkok_RX12 [(.iconst (-1), 1, 0, 0, (-1))] (by decide +kernel) (g := true) (lv' := [some (.ref l0), some (.int l1), some (.int l2)]) (st' := [.int (-1 : Int32)]) (D' := D4) (pc' := 50) rfl (rfl) rfl ?_
        exact ev_iret hR ev_sm.rf (Option.some.inj hf) hC (by decide +kernel)
      · have hf := ev_nf h5 hf
        refine ev_blk hX lkok_RX12 [(.aload_n 0, 1, 0, 0, 0), (.getfield 406, 3, 12, 45, 0), (.bipush 10, 2, 0, 0, 10)] (by decide +kernel) (g := (sK S l0 == 15) && (true)) (lv' := [some (.ref l0), some (.int l1), some (.int l2)]) (st' := [.int (10 : Int32), .int (D4 l0 45)]) (D' := D4) (pc' := 46) rfl (ev_gk hl0 (rfl)) rfl ?_
        refine ev_ic_ne hX (off := 5) 51 (by decide +kernel) (by decide) (fun h6 => ?_) (fun h6 => ?_)
        · have hf := ev_nf h6 hf
          obtain ⟨hg7, hf⟩ := ev_gd_s hf
          obtain ⟨hg8, hf⟩ := ev_gd_s hf
          refine ev_blk hX lkok_RX12 [(.aload_n 0, 1, 0, 0, 0), (.getfield 86, 3, 12, 46, 0), (.aload_n 0, 1, 0, 0, 0), (.getfield 406, 3, 12, 45, 0), (.iload_n 1, 1, 0, 0, 0), (.iastore, 1, 0, 0, 0), (.aload_n 0, 1, 0, 0, 0), (.getfield 89, 3, 12, 47, 0), (.aload_n 0, 1, 0, 0, 0), (.getfield 406, 3, 12, 45, 0), (.iload_n 2, 1, 0, 0, 0), (.iastore, 1, 0, 0, 0), (.aload_n 0, 1, 0, 0, 0), (.aload_n 0, 1, 0, 0, 0), (.getfield 406, 3, 12, 45, 0), (.iconst 1, 1, 0, 0, 1), (.iadd, 1, 0, 0, 0), (.putfield 406, 3, 12, 45, 0)] (by decide +kernel) (g := (sK S l0 == 15) && ((sK S l0 == 15) && ((sK S ((sE S) l0 46) == 1 && ev_in (D4 l0 45) ((sL S) ((sE S) l0 46))) && ((sK S l0 == 15) && ((sK S l0 == 15) && ((sK S ((sE S) l0 47) == 1 && ev_in ((ev_up D4 ((sE S) l0 46) ((D4 l0 45)).toNatClampNeg l1) l0 45) ((sL S) ((sE S) l0 47))) && ((sK S l0 == 15) && ((sK S l0 == 15) && (true))))))))) (lv' := [some (.ref l0), some (.int l1), some (.int l2)]) (st' := []) (D' := (ev_up (ev_up (ev_up D4 ((sE S) l0 46) ((D4 l0 45)).toNatClampNeg l1) ((sE S) l0 47) (((ev_up D4 ((sE S) l0 46) ((D4 l0 45)).toNatClampNeg l1) l0 45)).toNatClampNeg l2) l0 45 (((ev_up (ev_up D4 ((sE S) l0 46) ((D4 l0 45)).toNatClampNeg l1) ((sE S) l0 47) (((ev_up D4 ((sE S) l0 46) ((D4 l0 45)).toNatClampNeg l1) l0 45)).toNatClampNeg l2) l0 45) + (1 : Int32)))) (pc' := 81) rfl (ev_gk hl0 (ev_gk hl0 (ev_gi (ev_tyk hT hl0 rfl rfl) hg7 (ev_gk hl0 (ev_gk hl0 (ev_gi (ev_tyk hT hl0 rfl rfl) hg8 (ev_gk hl0 (ev_gk hl0 (rfl))))))))) rfl ?_
          exact ev_weak hX (ev_le_eq (ev_le_no (ev_le_no ev_le_nil))) (tX12_sign_81 hR hT hC   hl0 hf)
        · have hf := ev_it h6 hf
          refine ev_blk hX lkok_RX12 [(.iconst (-1), 1, 0, 0, (-1))] (by decide +kernel) (g := true) (lv' := [some (.ref l0), some (.int l1), some (.int l2)]) (st' := [.int (-1 : Int32)]) (D' := D4) (pc' := 50) rfl (rfl) rfl ?_
          exact ev_iret hR ev_sm.rf (Option.some.inj hf) hC (by decide +kernel)
  · have hf := ev_it h1 hf
    refine ev_blk hX lkok_RX12 [(.aload_n 0, 1, 0, 0, 0), (.iconst 0, 1, 0, 0, 0), (.putfield 406, 3, 12, 45, 0), (.iconst 0, 1, 0, 0, 0)] (by decide +kernel) (g := (sK S l0 == 15) && (true)) (lv' := [some (.ref l0), some (.int l1), some (.int l2)]) (st' := [.int (0 : Int32)]) (D' := (ev_up (ev_up D l0 0 (0 : Int32)) l0 45 (0 : Int32))) (pc' := 16) rfl (ev_gk hl0 (rfl)) rfl ?_
    exact ev_iret hR ev_sm.rf (Option.some.inj hf) hC (by decide +kernel)
theorem mX12_sign {S : ev_S} {fu : Nat} {r : Int32 × ev_D} (hT : ev_Ty S) {l0 : Nat} {l1 : Int32} {l2 : Int32} {D : ev_D} (hl0 : sK S l0 = 15) (hf : fX12_sign (sL S) (sE S) fu l0 l1 l2 D = some r) : ev_M 1 0 0 yX12_sign cX12_sign 3 (some .int) [.ref l0, .int l1, .int l2] S D S r :=
  ev_met (ini := false) (plainFor_of_name (by decide)) (fun h => by cases h) rfl (Nat.le_of_ble_eq_true rfl) (fun F hR => tX12_sign (S := ev_z S) hR hT ⟨Nat.le_refl 0, Nat.le_refl 0⟩ hl0 hf)
set_option maxHeartbeats 4000000 in
set_option maxRecDepth 100000 in
theorem tX12_apart_16 {S : ev_S} {fu : Nat} {r : Int32 × ev_D} {F : ev_Fr} (hR : ev_R RX12 cX12_apart 4 1 0 0 false (some .int) S r F) (hT : ev_Ty S) (hC : sC S ≤ 0 ∧ sA S ≤ 0) {k6 : Nat → Int32 → Int32 → ev_D → ev_Op} (hk6 : ∀ (l0 : Nat) (l1 : Int32) (l2 : Int32) (D : ev_D), sK S l0 = 15 → k6 l0 l1 l2 D = some r → F S D 6 [some (.ref l0), some (.int l1), some (.int l2), none] []) : ∀ (n : Nat) (l0 : Nat) (l1 : Int32) (l2 : Int32) (l3 : Int32) (D : ev_D), sK S l0 = 15 → fX12_apart_16 (sL S) (sE S) fu k6 n l0 l1 l2 l3 D = some r → F S D 16 [some (.ref l0), some (.int l1), some (.int l2), some (.int l3)] [] := by
  have hX := hR.X
  intro n
  induction n with
  | zero =>
    intro l0 l1 l2 l3 D hl0 hf
    rw [fX12_apart_16] at hf
    cases hf
  | succ n ih =>
    intro l0 l1 l2 l3 D hl0 hf
    rw [fX12_apart_16] at hf
    refine ev_blk hX lkok_RX12 [(.iload_n 3, 1, 0, 0, 0), (.iload_n 2, 1, 0, 0, 0)] (by decide +kernel) (g := true) (lv' := [some (.ref l0), some (.int l1), some (.int l2), some (.int l3)]) (st' := [.int l2, .int l3]) (D' := D) (pc' := 18) rfl (rfl) rfl ?_
    refine ev_ic_ge hX (off := 32) 50 (by decide +kernel) (by decide) (fun h1 => ?_) (fun h1 => ?_)
    · have hf := ev_it h1 hf
      refine ev_blk hX lkok_RX12 [(.iinc 2 1, 3, 0, 0, 1)] (by decide +kernel) (g := true) (lv' := [some (.ref l0), some (.int l1), some (.int (l2 + (1 : Int32))), some (.int l3)]) (st' := []) (D' := D) (pc' := 53) rfl (rfl) rfl ?_
      refine ev_goto hX (off := (-47)) 6 (by decide +kernel) (by decide) ?_
      exact ev_weak hX (ev_le_eq (ev_le_eq (ev_le_eq (ev_le_no ev_le_nil)))) (hk6 _ _ _ _ hl0 hf)
    · have hf := ev_nf h1 hf
      obtain ⟨hg4, hf⟩ := ev_gd_s hf
      obtain ⟨hg5, hf⟩ := ev_gd_s hf
      refine ev_blk hX lkok_RX12 [(.aload_n 0, 1, 0, 0, 0), (.iload_n 1, 1, 0, 0, 0), (.aload_n 0, 1, 0, 0, 0), (.aload_n 0, 1, 0, 0, 0), (.getfield 86, 3, 12, 46, 0), (.iload_n 2, 1, 0, 0, 0), (.iaload, 1, 0, 0, 0), (.aload_n 0, 1, 0, 0, 0), (.getfield 86, 3, 12, 46, 0), (.iload_n 3, 1, 0, 0, 0), (.iaload, 1, 0, 0, 0), (.ixor, 1, 0, 0, 0)] (by decide +kernel) (g := (sK S l0 == 15) && ((sK S ((sE S) l0 46) == 1 && ev_in l2 ((sL S) ((sE S) l0 46))) && ((sK S l0 == 15) && ((sK S ((sE S) l0 46) == 1 && ev_in l3 ((sL S) ((sE S) l0 46))) && (true))))) (lv' := [some (.ref l0), some (.int l1), some (.int l2), some (.int l3)]) (st' := [.int ((D ((sE S) l0 46) (l2).toNatClampNeg) ^^^ (D ((sE S) l0 46) (l3).toNatClampNeg)), .ref l0, .int l1, .ref l0]) (D' := D) (pc' := 37) rfl (ev_gk hl0 (ev_gi (ev_tyk hT hl0 rfl rfl) hg4 (ev_gk hl0 (ev_gi (ev_tyk hT hl0 rfl rfl) hg5 (rfl))))) rfl ?_
      obtain ⟨v2, D2, hc2, hf⟩ := ev_bd_s hf
      refine ev_callV hX YX12_onesOf ml_RX12_326 (mX12_onesOf hT hl0 hc2) (vs := [.int ((D ((sE S) l0 46) (l2).toNatClampNeg) ^^^ (D ((sE S) l0 46) (l3).toNatClampNeg))]) (st := [.int l1, .ref l0]) (by decide) 12 hl0 rfl rfl rfl (by decide +kernel) hC ?_
      show F S D2 40 [some (.ref l0), some (.int l1), some (.int l2), some (.int l3)] [.int v2, .int l1, .ref l0]
      obtain ⟨v3, D3, hc3, hf⟩ := ev_bd_s hf
      refine ev_callV hX YX12_lesser ml_RX12_344 (mX12_lesser hT hl0 hc3) (vs := [.int l1, .int v2]) (st := []) (by decide) 12 hl0 rfl rfl rfl (by decide +kernel) hC ?_
      show F S D3 43 [some (.ref l0), some (.int l1), some (.int l2), some (.int l3)] [.int v3]
      refine ev_blk hX lkok_RX12 [(.istore_n 1, 1, 0, 0, 0), (.iinc 3 1, 3, 0, 0, 1)] (by decide +kernel) (g := true) (lv' := [some (.ref l0), some (.int v3), some (.int l2), some (.int (l3 + (1 : Int32)))]) (st' := []) (D' := D3) (pc' := 47) rfl (rfl) rfl ?_
      refine ev_goto hX (off := (-31)) 16 (by decide +kernel) (by decide) ?_
      exact ev_weak hX (ev_le_eq (ev_le_eq (ev_le_eq (ev_le_eq ev_le_nil)))) (ih _ _ _ _ _ hl0 hf)
set_option maxHeartbeats 4000000 in
set_option maxRecDepth 100000 in
theorem tX12_apart_6 {S : ev_S} {fu : Nat} {r : Int32 × ev_D} {F : ev_Fr} (hR : ev_R RX12 cX12_apart 4 1 0 0 false (some .int) S r F) (hT : ev_Ty S) (hC : sC S ≤ 0 ∧ sA S ≤ 0) : ∀ (n : Nat) (l0 : Nat) (l1 : Int32) (l2 : Int32) (D : ev_D), sK S l0 = 15 → fX12_apart_6 (sL S) (sE S) fu n l0 l1 l2 D = some r → F S D 6 [some (.ref l0), some (.int l1), some (.int l2), none] [] := by
  have hX := hR.X
  intro n
  induction n with
  | zero =>
    intro l0 l1 l2 D hl0 hf
    rw [fX12_apart_6] at hf
    cases hf
  | succ n ih =>
    intro l0 l1 l2 D hl0 hf
    rw [fX12_apart_6] at hf
    refine ev_blk hX lkok_RX12 [(.iload_n 2, 1, 0, 0, 0), (.aload_n 0, 1, 0, 0, 0), (.getfield 406, 3, 12, 45, 0)] (by decide +kernel) (g := (sK S l0 == 15) && (true)) (lv' := [some (.ref l0), some (.int l1), some (.int l2), none]) (st' := [.int (D l0 45), .int l2]) (D' := D) (pc' := 11) rfl (ev_gk hl0 (rfl)) rfl ?_
    refine ev_ic_ge hX (off := 45) 56 (by decide +kernel) (by decide) (fun h6 => ?_) (fun h6 => ?_)
    · have hf := ev_it h6 hf
      refine ev_blk hX lkok_RX12 [(.iload_n 1, 1, 0, 0, 0)] (by decide +kernel) (g := true) (lv' := [some (.ref l0), some (.int l1), some (.int l2), none]) (st' := [.int l1]) (D' := D) (pc' := 57) rfl (rfl) rfl ?_
      exact ev_iret hR ev_sm.rf (Option.some.inj hf) hC (by decide +kernel)
    · have hf := ev_nf h6 hf
      refine ev_blk hX lkok_RX12 [(.iconst 0, 1, 0, 0, 0), (.istore_n 3, 1, 0, 0, 0)] (by decide +kernel) (g := true) (lv' := [some (.ref l0), some (.int l1), some (.int l2), some (.int (0 : Int32))]) (st' := []) (D' := D) (pc' := 16) rfl (rfl) rfl ?_
      exact ev_weak hX (ev_le_eq (ev_le_eq (ev_le_eq (ev_le_eq ev_le_nil)))) (tX12_apart_16 hR hT hC  ih fu _ _ _ _ _ hl0 hf)
set_option maxHeartbeats 4000000 in
set_option maxRecDepth 100000 in
theorem tX12_apart {S : ev_S} {fu : Nat} {r : Int32 × ev_D} {F : ev_Fr} (hR : ev_R RX12 cX12_apart 4 1 0 0 false (some .int) S r F) (hT : ev_Ty S) (hC : sC S ≤ 0 ∧ sA S ≤ 0) {l0 : Nat} {D : ev_D} (hl0 : sK S l0 = 15) (hf : fX12_apart (sL S) (sE S) fu l0 D = some r) : F S D 0 [some (.ref l0), none, none, none] [] := by
  have hX := hR.X
  unfold fX12_apart at hf
  refine ev_blk hX lkok_RX12 [(.ldc_w 410, 3, 0, 0, 100000000), (.istore_n 1, 1, 0, 0, 0), (.iconst 0, 1, 0, 0, 0), (.istore_n 2, 1, 0, 0, 0)] (by decide +kernel) (g := true) (lv' := [some (.ref l0), some (.int (100000000 : Int32)), some (.int (0 : Int32)), none]) (st' := []) (D' := D) (pc' := 6) rfl (rfl) rfl ?_
  exact ev_weak hX (ev_le_eq (ev_le_eq (ev_le_eq (ev_le_no ev_le_nil)))) (tX12_apart_6 hR hT hC   fu _ _ _ _ hl0 hf)
theorem mX12_apart {S : ev_S} {fu : Nat} {r : Int32 × ev_D} (hT : ev_Ty S) {l0 : Nat} {D : ev_D} (hl0 : sK S l0 = 15) (hf : fX12_apart (sL S) (sE S) fu l0 D = some r) : ev_M 1 0 0 yX12_apart cX12_apart 4 (some .int) [.ref l0] S D S r :=
  ev_met (ini := false) (plainFor_of_name (by decide)) (fun h => by cases h) rfl (Nat.le_of_ble_eq_true rfl) (fun F hR => tX12_apart (S := ev_z S) hR hT ⟨Nat.le_refl 0, Nat.le_refl 0⟩ hl0 hf)
set_option maxHeartbeats 4000000 in
set_option maxRecDepth 100000 in
theorem tX12_meant_89 {S : ev_S} {fu : Nat} {r : Int32 × ev_D} {F : ev_Fr} (hR : ev_R RX12 cX12_meant 5 2 0 0 false (some .int) S r F) (hT : ev_Ty S) (hC : sC S ≤ 0 ∧ sA S ≤ 0) : ∀ (n : Nat) (l0 : Nat) (l1 : Int32) (l2 : Int32) (l3 : Int32) (l4 : Int32) (D : ev_D), sK S l0 = 15 → fX12_meant_89 (sL S) (sE S) fu n l0 l1 l2 l3 l4 D = some r → F S D 89 [some (.ref l0), some (.int l1), some (.int l2), some (.int l3), some (.int l4)] [] := by
  have hX := hR.X
  intro n
  induction n with
  | zero =>
    intro l0 l1 l2 l3 l4 D hl0 hf
    rw [fX12_meant_89] at hf
    cases hf
  | succ n ih =>
    intro l0 l1 l2 l3 l4 D hl0 hf
    rw [fX12_meant_89] at hf
    refine ev_blk hX lkok_RX12 [(.iload 4, 2, 0, 0, 0), (.aload_n 0, 1, 0, 0, 0), (.getfield 406, 3, 12, 45, 0)] (by decide +kernel) (g := (sK S l0 == 15) && (true)) (lv' := [some (.ref l0), some (.int l1), some (.int l2), some (.int l3), some (.int l4)]) (st' := [.int (D l0 45), .int l4]) (D' := D) (pc' := 95) rfl (ev_gk hl0 (rfl)) rfl ?_
    refine ev_ic_ge hX (off := 40) 135 (by decide +kernel) (by decide) (fun h1 => ?_) (fun h1 => ?_)
    · have hf := ev_it h1 hf
      refine ev_blk hX lkok_RX12 [(.iload_n 2, 1, 0, 0, 0)] (by decide +kernel) (g := true) (lv' := [some (.ref l0), some (.int l1), some (.int l2), some (.int l3), some (.int l4)]) (st' := [.int l2]) (D' := D) (pc' := 136) rfl (rfl) rfl ?_
      refine ev_if_ne hX (off := 12) 148 (by decide +kernel) (by decide) (fun h2 => ?_) (fun h2 => ?_)
      · have hf := ev_nf h2 hf
        obtain ⟨hg4, hf⟩ := ev_gd_s hf
        refine ev_blk hX lkok_RX12 [(.aload_n 0, 1, 0, 0, 0), (.aload_n 0, 1, 0, 0, 0), (.getfield 86, 3, 12, 46, 0), (.iload_n 3, 1, 0, 0, 0), (.iaload, 1, 0, 0, 0), (.iload_n 1, 1, 0, 0, 0), (.ixor, 1, 0, 0, 0)] (by decide +kernel) (g := (sK S l0 == 15) && ((sK S ((sE S) l0 46) == 1 && ev_in l3 ((sL S) ((sE S) l0 46))) && (true))) (lv' := [some (.ref l0), some (.int l1), some (.int l2), some (.int l3), some (.int l4)]) (st' := [.int ((D ((sE S) l0 46) (l3).toNatClampNeg) ^^^ l1), .ref l0]) (D' := D) (pc' := 157) rfl (ev_gk hl0 (ev_gi (ev_tyk hT hl0 rfl rfl) hg4 (rfl))) rfl ?_
        obtain ⟨v3, D3, hc3, hf⟩ := ev_bd_s hf
        refine ev_callV hX YX12_onesOf ml_RX12_326 (mX12_onesOf hT hl0 hc3) (vs := [.int ((D ((sE S) l0 46) (l3).toNatClampNeg) ^^^ l1)]) (st := []) (by decide) 12 hl0 rfl rfl rfl (by decide +kernel) hC ?_
        show F S D3 160 [some (.ref l0), some (.int l1), some (.int l2), some (.int l3), some (.int l4)] [.int v3]
        exact ev_iret hR ev_sm.rf (Option.some.inj hf) hC (by decide +kernel)
      · have hf := ev_it h2 hf
        obtain ⟨hg5, hf⟩ := ev_gd_s hf
        refine ev_blk hX lkok_RX12 [(.aload_n 0, 1, 0, 0, 0), (.getfield 89, 3, 12, 47, 0), (.iload_n 3, 1, 0, 0, 0), (.iaload, 1, 0, 0, 0)] (by decide +kernel) (g := (sK S l0 == 15) && ((sK S ((sE S) l0 47) == 1 && ev_in l3 ((sL S) ((sE S) l0 47))) && (true))) (lv' := [some (.ref l0), some (.int l1), some (.int l2), some (.int l3), some (.int l4)]) (st' := [.int (D ((sE S) l0 47) (l3).toNatClampNeg)]) (D' := D) (pc' := 145) rfl (ev_gk hl0 (ev_gi (ev_tyk hT hl0 rfl rfl) hg5 (rfl))) rfl ?_
        refine ev_goto hX (off := 15) 160 (by decide +kernel) (by decide) ?_
        exact ev_iret hR ev_sm.rf (Option.some.inj hf) hC (by decide +kernel)
    · have hf := ev_nf h1 hf
      obtain ⟨hg10, hf⟩ := ev_gd_s hf
      refine ev_blk hX lkok_RX12 [(.aload_n 0, 1, 0, 0, 0), (.aload_n 0, 1, 0, 0, 0), (.getfield 86, 3, 12, 46, 0), (.iload 4, 2, 0, 0, 0), (.iaload, 1, 0, 0, 0), (.iload_n 1, 1, 0, 0, 0), (.ixor, 1, 0, 0, 0)] (by decide +kernel) (g := (sK S l0 == 15) && ((sK S ((sE S) l0 46) == 1 && ev_in l4 ((sL S) ((sE S) l0 46))) && (true))) (lv' := [some (.ref l0), some (.int l1), some (.int l2), some (.int l3), some (.int l4)]) (st' := [.int ((D ((sE S) l0 46) (l4).toNatClampNeg) ^^^ l1), .ref l0]) (D' := D) (pc' := 108) rfl (ev_gk hl0 (ev_gi (ev_tyk hT hl0 rfl rfl) hg10 (rfl))) rfl ?_
      obtain ⟨v6, D6, hc6, hf⟩ := ev_bd_s hf
      refine ev_callV hX YX12_onesOf ml_RX12_326 (mX12_onesOf hT hl0 hc6) (vs := [.int ((D ((sE S) l0 46) (l4).toNatClampNeg) ^^^ l1)]) (st := []) (by decide) 12 hl0 rfl rfl rfl (by decide +kernel) hC ?_
      show F S D6 111 [some (.ref l0), some (.int l1), some (.int l2), some (.int l3), some (.int l4)] [.int v6]
      obtain ⟨hg9, hf⟩ := ev_gd_s hf
      refine ev_blk hX lkok_RX12 [(.aload_n 0, 1, 0, 0, 0), (.aload_n 0, 1, 0, 0, 0), (.getfield 86, 3, 12, 46, 0), (.iload_n 3, 1, 0, 0, 0), (.iaload, 1, 0, 0, 0), (.iload_n 1, 1, 0, 0, 0), (.ixor, 1, 0, 0, 0)] (by decide +kernel) (g := (sK S l0 == 15) && ((sK S ((sE S) l0 46) == 1 && ev_in l3 ((sL S) ((sE S) l0 46))) && (true))) (lv' := [some (.ref l0), some (.int l1), some (.int l2), some (.int l3), some (.int l4)]) (st' := [.int ((D6 ((sE S) l0 46) (l3).toNatClampNeg) ^^^ l1), .ref l0, .int v6]) (D' := D6) (pc' := 120) rfl (ev_gk hl0 (ev_gi (ev_tyk hT hl0 rfl rfl) hg9 (rfl))) rfl ?_
      obtain ⟨v7, D7, hc7, hf⟩ := ev_bd_s hf
      refine ev_callV hX YX12_onesOf ml_RX12_326 (mX12_onesOf hT hl0 hc7) (vs := [.int ((D6 ((sE S) l0 46) (l3).toNatClampNeg) ^^^ l1)]) (st := [.int v6]) (by decide) 12 hl0 rfl rfl rfl (by decide +kernel) hC ?_
      show F S D7 123 [some (.ref l0), some (.int l1), some (.int l2), some (.int l3), some (.int l4)] [.int v7, .int v6]
      refine ev_ic_ge hX (off := 6) 129 (by decide +kernel) (by decide) (fun h8 => ?_) (fun h8 => ?_)
      · have hf := ev_it h8 hf
        refine ev_blk hX lkok_RX12 [(.iinc 4 1, 3, 0, 0, 1)] (by decide +kernel) (g := true) (lv' := [some (.ref l0), some (.int l1), some (.int l2), some (.int l3), some (.int (l4 + (1 : Int32)))]) (st' := []) (D' := D7) (pc' := 132) rfl (rfl) rfl ?_
        refine ev_goto hX (off := (-43)) 89 (by decide +kernel) (by decide) ?_
        exact ev_weak hX (ev_le_eq (ev_le_eq (ev_le_eq (ev_le_eq (ev_le_eq ev_le_nil))))) (ih _ _ _ _ _ _ hl0 hf)
      · have hf := ev_nf h8 hf
        refine ev_blk hX lkok_RX12 [(.iload 4, 2, 0, 0, 0), (.istore_n 3, 1, 0, 0, 0), (.iinc 4 1, 3, 0, 0, 1)] (by decide +kernel) (g := true) (lv' := [some (.ref l0), some (.int l1), some (.int l2), some (.int l4), some (.int (l4 + (1 : Int32)))]) (st' := []) (D' := D7) (pc' := 132) rfl (rfl) rfl ?_
        refine ev_goto hX (off := (-43)) 89 (by decide +kernel) (by decide) ?_
        exact ev_weak hX (ev_le_eq (ev_le_eq (ev_le_eq (ev_le_eq (ev_le_eq ev_le_nil))))) (ih _ _ _ _ _ _ hl0 hf)
set_option maxHeartbeats 4000000 in
set_option maxRecDepth 100000 in
theorem tX12_meant_15 {S : ev_S} {fu : Nat} {r : Int32 × ev_D} {F : ev_Fr} (hR : ev_R RX12 cX12_meant 5 2 0 0 false (some .int) S r F) (hT : ev_Ty S) (hC : sC S ≤ 0 ∧ sA S ≤ 0) {l0 : Nat} {l2 : Int32} {D : ev_D} (hl0 : sK S l0 = 15) (hf : fX12_meant_15 (sL S) (sE S) fu l0 l2 D = some r) : F S D 15 [some (.ref l0), none, some (.int l2), none, none] [] := by
  have hX := hR.X
  unfold fX12_meant_15 at hf
  refine ev_blk hX lkok_RX12 [(.aload_n 0, 1, 0, 0, 0), (.getfield 406, 3, 12, 45, 0), (.iconst 2, 1, 0, 0, 2)] (by decide +kernel) (g := (sK S l0 == 15) && (true)) (lv' := [some (.ref l0), none, some (.int l2), none, none]) (st' := [.int (2 : Int32), .int (D l0 45)]) (D' := D) (pc' := 20) rfl (ev_gk hl0 (rfl)) rfl ?_
  refine ev_ic_ge hX (off := 7) 27 (by decide +kernel) (by decide) (fun h11 => ?_) (fun h11 => ?_)
  · have hf := ev_it h11 hf
    refine ev_blk hX lkok_RX12 [(.iload_n 2, 1, 0, 0, 0), (.iconst 2, 1, 0, 0, 2)] (by decide +kernel) (g := true) (lv' := [some (.ref l0), none, some (.int l2), none, none]) (st' := [.int (2 : Int32), .int l2]) (D' := D) (pc' := 29) rfl (rfl) rfl ?_
    refine ev_ic_ne hX (off := 10) 39 (by decide +kernel) (by decide) (fun h12 => ?_) (fun h12 => ?_)
    · have hf := ev_nf h12 hf
      refine ev_blk hX lkok_RX12 [(.aload_n 0, 1, 0, 0, 0), (.iconst 0, 1, 0, 0, 0), (.aload_n 0, 1, 0, 0, 0)] (by decide +kernel) (g := true) (lv' := [some (.ref l0), none, some (.int l2), none, none]) (st' := [.ref l0, .int (0 : Int32), .ref l0]) (D' := D) (pc' := 42) rfl (rfl) rfl ?_
      obtain ⟨v13, D13, hc13, hf⟩ := ev_bd_s hf
      refine ev_callV hX YX12_apart ml_RX12_411 (mX12_apart hT hl0 hc13) (vs := []) (st := [.int (0 : Int32), .ref l0]) (by decide) 12 hl0 rfl rfl rfl (by decide +kernel) hC ?_
      show F S D13 45 [some (.ref l0), none, some (.int l2), none, none] [.int v13, .int (0 : Int32), .ref l0]
      refine ev_blk hX lkok_RX12 [(.iconst 1, 1, 0, 0, 1), (.isub, 1, 0, 0, 0), (.iconst 2, 1, 0, 0, 2), (.idiv, 1, 0, 0, 0)] (by decide +kernel) (g := (!(decide ((2 : Int32) = 0))) && (true)) (lv' := [some (.ref l0), none, some (.int l2), none, none]) (st' := [.int ((v13 - (1 : Int32)) / (2 : Int32)), .int (0 : Int32), .ref l0]) (D' := D13) (pc' := 49) rfl (ev_g2 rfl (rfl)) rfl ?_
      obtain ⟨v14, D14, hc14, hf⟩ := ev_bd_s hf
      refine ev_callV hX YX12_greater ml_RX12_357 (mX12_greater hT hl0 hc14) (vs := [.int (0 : Int32), .int ((v13 - (1 : Int32)) / (2 : Int32))]) (st := []) (by decide) 12 hl0 rfl rfl rfl (by decide +kernel) hC ?_
      show F S D14 52 [some (.ref l0), none, some (.int l2), none, none] [.int v14]
      exact ev_iret hR ev_sm.rf (Option.some.inj hf) hC (by decide +kernel)
    · have hf := ev_it h12 hf
      refine ev_blk hX lkok_RX12 [(.aload_n 0, 1, 0, 0, 0)] (by decide +kernel) (g := true) (lv' := [some (.ref l0), none, some (.int l2), none, none]) (st' := [.ref l0]) (D' := D) (pc' := 33) rfl (rfl) rfl ?_
      obtain ⟨v15, D15, hc15, hf⟩ := ev_bd_s hf
      refine ev_callV hX YX12_apart ml_RX12_411 (mX12_apart hT hl0 hc15) (vs := []) (st := []) (by decide) 12 hl0 rfl rfl rfl (by decide +kernel) hC ?_
      show F S D15 36 [some (.ref l0), none, some (.int l2), none, none] [.int v15]
      refine ev_goto hX (off := 16) 52 (by decide +kernel) (by decide) ?_
      exact ev_iret hR ev_sm.rf (Option.some.inj hf) hC (by decide +kernel)
  · have hf := ev_nf h11 hf
    refine ev_blk hX lkok_RX12 [(.iconst (-1), 1, 0, 0, (-1))] (by decide +kernel) (g := true) (lv' := [some (.ref l0), none, some (.int l2), none, none]) (st' := [.int (-1 : Int32)]) (D' := D) (pc' := 24) rfl (rfl) rfl ?_
    refine ev_goto hX (off := 28) 52 (by decide +kernel) (by decide) ?_
    exact ev_iret hR ev_sm.rf (Option.some.inj hf) hC (by decide +kernel)
set_option maxHeartbeats 4000000 in
set_option maxRecDepth 100000 in
theorem tX12_meant {S : ev_S} {fu : Nat} {r : Int32 × ev_D} {F : ev_Fr} (hR : ev_R RX12 cX12_meant 5 2 0 0 false (some .int) S r F) (hT : ev_Ty S) (hC : sC S ≤ 0 ∧ sA S ≤ 0) {l0 : Nat} {l1 : Int32} {l2 : Int32} {D : ev_D} (hl0 : sK S l0 = 15) (hf : fX12_meant (sL S) (sE S) fu l0 l1 l2 D = some r) : F S D 0 [some (.ref l0), some (.int l1), some (.int l2), none, none] [] := by
  have hX := hR.X
  unfold fX12_meant at hf
  refine ev_blk hX lkok_RX12 [(.aload_n 0, 1, 0, 0, 0), (.iconst 0, 1, 0, 0, 0), (.putfield 128, 3, 12, 0, 0), (.iload_n 2, 1, 0, 0, 0), (.iconst 2, 1, 0, 0, 2)] (by decide +kernel) (g := (sK S l0 == 15) && (true)) (lv' := [some (.ref l0), some (.int l1), some (.int l2), none, none]) (st' := [.int (2 : Int32), .int l2]) (D' := (ev_up D l0 0 (0 : Int32))) (pc' := 7) rfl (ev_gk hl0 (rfl)) rfl ?_
  refine ev_ic_eq hX (off := 8) 15 (by decide +kernel) (by decide) (fun h16 => ?_) (fun h16 => ?_)
  · have hf := ev_it h16 hf
    exact ev_weak hX (ev_le_eq (ev_le_no (ev_le_eq (ev_le_no (ev_le_no ev_le_nil))))) (tX12_meant_15 hR hT hC   hl0 hf)
  · have hf := ev_nf h16 hf
    refine ev_blk hX lkok_RX12 [(.iload_n 2, 1, 0, 0, 0), (.iconst 3, 1, 0, 0, 3)] (by decide +kernel) (g := true) (lv' := [some (.ref l0), some (.int l1), some (.int l2), none, none]) (st' := [.int (3 : Int32), .int l2]) (D' := (ev_up D l0 0 (0 : Int32))) (pc' := 12) rfl (rfl) rfl ?_
    refine ev_ic_ne hX (off := 41) 53 (by decide +kernel) (by decide) (fun h17 => ?_) (fun h17 => ?_)
    · have hf := ev_nf h17 hf
      refine ev_blk hX lkok_RX12 [(.aload_n 0, 1, 0, 0, 0), (.iload_n 1, 1, 0, 0, 0), (.iconst 0, 1, 0, 0, 0), (.ldc_w 409, 3, 0, 0, 65535)] (by decide +kernel) (g := true) (lv' := [some (.ref l0), some (.int l1), some (.int l2), none, none]) (st' := [.int (65535 : Int32), .int (0 : Int32), .int l1, .ref l0]) (D' := (ev_up D l0 0 (0 : Int32))) (pc' := 59) rfl (rfl) rfl ?_
      obtain ⟨v18, D18, hc18, hf⟩ := ev_bd_s hf
      refine ev_callV hX YX12_isIn ml_RX12_150 (mX12_isIn hT hl0 hc18) (vs := [.int l1, .int (0 : Int32), .int (65535 : Int32)]) (st := []) (by decide) 12 hl0 rfl rfl rfl (by decide +kernel) hC ?_
      show F S D18 62 [some (.ref l0), some (.int l1), some (.int l2), none, none] [.int v18]
      refine ev_if_eq hX (off := 20) 82 (by decide +kernel) (by decide) (fun h19 => ?_) (fun h19 => ?_)
      · have hf := ev_it h19 hf
        refine ev_blk hX lkok_RX12 [(.iconst (-1), 1, 0, 0, (-1))] (by decide +kernel) (g := true) (lv' := [some (.ref l0), some (.int l1), some (.int l2), none, none]) (st' := [.int (-1 : Int32)]) (D' := D18) (pc' := 83) rfl (rfl) rfl ?_
        exact ev_iret hR ev_sm.rf (Option.some.inj hf) hC (by decide +kernel)
      · have hf := ev_nf h19 hf
        refine ev_blk hX lkok_RX12 [(.aload_n 0, 1, 0, 0, 0), (.iload_n 2, 1, 0, 0, 0), (.iconst 0, 1, 0, 0, 0), (.iconst 1, 1, 0, 0, 1)] (by decide +kernel) (g := true) (lv' := [some (.ref l0), some (.int l1), some (.int l2), none, none]) (st' := [.int (1 : Int32), .int (0 : Int32), .int l2, .ref l0]) (D' := D18) (pc' := 69) rfl (rfl) rfl ?_
        obtain ⟨v20, D20, hc20, hf⟩ := ev_bd_s hf
        refine ev_callV hX YX12_isIn ml_RX12_150 (mX12_isIn hT hl0 hc20) (vs := [.int l2, .int (0 : Int32), .int (1 : Int32)]) (st := []) (by decide) 12 hl0 rfl rfl rfl (by decide +kernel) hC ?_
        show F S D20 72 [some (.ref l0), some (.int l1), some (.int l2), none, none] [.int v20]
        refine ev_if_eq hX (off := 10) 82 (by decide +kernel) (by decide) (fun h21 => ?_) (fun h21 => ?_)
        · have hf := ev_it h21 hf
          refine ev_blk hX lkok_RX12 [(.iconst (-1), 1, 0, 0, (-1))] (by decide +kernel) (g := true) (lv' := [some (.ref l0), some (.int l1), some (.int l2), none, none]) (st' := [.int (-1 : Int32)]) (D' := D20) (pc' := 83) rfl (rfl) rfl ?_
          exact ev_iret hR ev_sm.rf (Option.some.inj hf) hC (by decide +kernel)
        · have hf := ev_nf h21 hf
          refine ev_blk hX lkok_RX12 [(.aload_n 0, 1, 0, 0, 0), (.getfield 406, 3, 12, 45, 0)] (by decide +kernel) (g := (sK S l0 == 15) && (true)) (lv' := [some (.ref l0), some (.int l1), some (.int l2), none, none]) (st' := [.int (D20 l0 45)]) (D' := D20) (pc' := 79) rfl (ev_gk hl0 (rfl)) rfl ?_
          refine ev_if_ne hX (off := 5) 84 (by decide +kernel) (by decide) (fun h22 => ?_) (fun h22 => ?_)
          · have hf := ev_nf h22 hf
            refine ev_blk hX lkok_RX12 [(.iconst 0, 1, 0, 0, 0), (.istore_n 3, 1, 0, 0, 0), (.iconst 1, 1, 0, 0, 1), (.istore 4, 2, 0, 0, 0)] (by decide +kernel) (g := true) (lv' := [some (.ref l0), some (.int l1), some (.int l2), some (.int (0 : Int32)), some (.int (1 : Int32))]) (st' := []) (D' := D20) (pc' := 89) rfl (rfl) rfl ?_
            exact ev_weak hX (ev_le_eq (ev_le_eq (ev_le_eq (ev_le_eq (ev_le_eq ev_le_nil))))) (tX12_meant_89 hR hT hC   fu _ _ _ _ _ _ hl0 hf)
          · have hf := ev_it h22 hf
            refine ev_blk hX lkok_RX12 [(.iconst (-1), 1, 0, 0, (-1))] (by decide +kernel) (g := true) (lv' := [some (.ref l0), some (.int l1), some (.int l2), none, none]) (st' := [.int (-1 : Int32)]) (D' := D20) (pc' := 83) rfl (rfl) rfl ?_
            exact ev_iret hR ev_sm.rf (Option.some.inj hf) hC (by decide +kernel)
    · have hf := ev_it h17 hf
      exact ev_weak hX (ev_le_eq (ev_le_no (ev_le_eq (ev_le_no (ev_le_no ev_le_nil))))) (tX12_meant_15 hR hT hC   hl0 hf)
theorem mX12_meant {S : ev_S} {fu : Nat} {r : Int32 × ev_D} (hT : ev_Ty S) {l0 : Nat} {l1 : Int32} {l2 : Int32} {D : ev_D} (hl0 : sK S l0 = 15) (hf : fX12_meant (sL S) (sE S) fu l0 l1 l2 D = some r) : ev_M 2 0 0 yX12_meant cX12_meant 5 (some .int) [.ref l0, .int l1, .int l2] S D S r :=
  ev_met (ini := false) (plainFor_of_name (by decide)) (fun h => by cases h) rfl (Nat.le_of_ble_eq_true rfl) (fun F hR => tX12_meant (S := ev_z S) hR hT ⟨Nat.le_refl 0, Nat.le_refl 0⟩ hl0 hf)
set_option maxHeartbeats 4000000 in
set_option maxRecDepth 100000 in
theorem tX12_round_81 {S : ev_S} {fu : Nat} {r : Int32 × ev_D} {F : ev_Fr} (hR : ev_R RX12 cX12_round 3 1 0 0 false (some .int) S r F) (hT : ev_Ty S) (hC : sC S ≤ 0 ∧ sA S ≤ 0) {l0 : Nat} {D : ev_D} (hl0 : sK S l0 = 15) (hf : fX12_round_81 (sL S) (sE S) fu l0 D = some r) : F S D 81 [some (.ref l0), none, none] [] := by
  have hX := hR.X
  unfold fX12_round_81 at hf
  refine ev_blk hX lkok_RX12 [(.aload_n 0, 1, 0, 0, 0), (.getfield 414, 3, 12, 48, 0)] (by decide +kernel) (g := (sK S l0 == 15) && (true)) (lv' := [some (.ref l0), none, none]) (st' := [.int (D l0 48)]) (D' := D) (pc' := 85) rfl (ev_gk hl0 (rfl)) rfl ?_
  exact ev_iret hR ev_sm.rf (Option.some.inj hf) hC (by decide +kernel)
set_option maxHeartbeats 4000000 in
set_option maxRecDepth 100000 in
theorem tX12_round {S : ev_S} {fu : Nat} {r : Int32 × ev_D} {F : ev_Fr} (hR : ev_R RX12 cX12_round 3 1 0 0 false (some .int) S r F) (hT : ev_Ty S) (hC : sC S ≤ 0 ∧ sA S ≤ 0) {l0 : Nat} {l1 : Int32} {l2 : Int32} {D : ev_D} (hl0 : sK S l0 = 15) (hf : fX12_round (sL S) (sE S) fu l0 l1 l2 D = some r) : F S D 0 [some (.ref l0), some (.int l1), some (.int l2)] [] := by
  have hX := hR.X
  unfold fX12_round at hf
  refine ev_blk hX lkok_RX12 [(.aload_n 0, 1, 0, 0, 0), (.iconst 0, 1, 0, 0, 0), (.putfield 128, 3, 12, 0, 0), (.iload_n 1, 1, 0, 0, 0), (.iconst (-1), 1, 0, 0, (-1))] (by decide +kernel) (g := (sK S l0 == 15) && (true)) (lv' := [some (.ref l0), some (.int l1), some (.int l2)]) (st' := [.int (-1 : Int32), .int l1]) (D' := (ev_up D l0 0 (0 : Int32))) (pc' := 7) rfl (ev_gk hl0 (rfl)) rfl ?_
  refine ev_ic_ne hX (off := 10) 17 (by decide +kernel) (by decide) (fun h1 => ?_) (fun h1 => ?_)
  · have hf := ev_nf h1 hf
    refine ev_blk hX lkok_RX12 [(.aload_n 0, 1, 0, 0, 0), (.iload_n 1, 1, 0, 0, 0), (.iconst 1, 1, 0, 0, 1), (.bipush 12, 2, 0, 0, 12)] (by decide +kernel) (g := true) (lv' := [some (.ref l0), some (.int l1), some (.int l2)]) (st' := [.int (12 : Int32), .int (1 : Int32), .int l1, .ref l0]) (D' := (ev_up D l0 0 (0 : Int32))) (pc' := 22) rfl (rfl) rfl ?_
    obtain ⟨v2, D2, hc2, hf⟩ := ev_bd_s hf
    refine ev_callV hX YX12_isIn ml_RX12_150 (mX12_isIn hT hl0 hc2) (vs := [.int l1, .int (1 : Int32), .int (12 : Int32)]) (st := []) (by decide) 12 hl0 rfl rfl rfl (by decide +kernel) hC ?_
    show F S D2 25 [some (.ref l0), some (.int l1), some (.int l2)] [.int v2]
    refine ev_if_eq hX (off := 24) 49 (by decide +kernel) (by decide) (fun h3 => ?_) (fun h3 => ?_)
    · have hf := ev_it h3 hf
      refine ev_blk hX lkok_RX12 [(.iconst (-1), 1, 0, 0, (-1))] (by decide +kernel) (g := true) (lv' := [some (.ref l0), some (.int l1), some (.int l2)]) (st' := [.int (-1 : Int32)]) (D' := D2) (pc' := 50) rfl (rfl) rfl ?_
      exact ev_iret hR ev_sm.rf (Option.some.inj hf) hC (by decide +kernel)
    · have hf := ev_nf h3 hf
      refine ev_blk hX lkok_RX12 [(.aload_n 0, 1, 0, 0, 0), (.iload_n 2, 1, 0, 0, 0), (.iconst 0, 1, 0, 0, 0), (.iload_n 1, 1, 0, 0, 0), (.iconst 1, 1, 0, 0, 1), (.isub, 1, 0, 0, 0)] (by decide +kernel) (g := true) (lv' := [some (.ref l0), some (.int l1), some (.int l2)]) (st' := [.int (l1 - (1 : Int32)), .int (0 : Int32), .int l2, .ref l0]) (D' := D2) (pc' := 34) rfl (rfl) rfl ?_
      obtain ⟨v4, D4, hc4, hf⟩ := ev_bd_s hf
      refine ev_callV hX YX12_isIn ml_RX12_150 (mX12_isIn hT hl0 hc4) (vs := [.int l2, .int (0 : Int32), .int (l1 - (1 : Int32))]) (st := []) (by decide) 12 hl0 rfl rfl rfl (by decide +kernel) hC ?_
      show F S D4 37 [some (.ref l0), some (.int l1), some (.int l2)] [.int v4]
      refine ev_if_eq hX (off := 12) 49 (by decide +kernel) (by decide) (fun h5 => ?_) (fun h5 => ?_)
      · have hf := ev_it h5 hf
        refine ev_blk hX lkok_RX12 [(.iconst (-1), 1, 0, 0, (-1))] (by decide +kernel) (g := true) (lv' := [some (.ref l0), some (.int l1), some (.int l2)]) (st' := [.int (-1 : Int32)]) (D' := D4) (pc' := 50) rfl (rfl) rfl ?_
        exact ev_iret hR ev_sm.rf (Option.some.inj hf) hC (by decide +kernel)
      · have hf := ev_nf h5 hf
        refine ev_blk hX lkok_RX12 [(.aload_n 0, 1, 0, 0, 0), (.getfield 414, 3, 12, 48, 0), (.bipush 6, 2, 0, 0, 6)] (by decide +kernel) (g := (sK S l0 == 15) && (true)) (lv' := [some (.ref l0), some (.int l1), some (.int l2)]) (st' := [.int (6 : Int32), .int (D4 l0 48)]) (D' := D4) (pc' := 46) rfl (ev_gk hl0 (rfl)) rfl ?_
        refine ev_ic_ne hX (off := 5) 51 (by decide +kernel) (by decide) (fun h6 => ?_) (fun h6 => ?_)
        · have hf := ev_nf h6 hf
          obtain ⟨hg7, hf⟩ := ev_gd_s hf
          obtain ⟨hg8, hf⟩ := ev_gd_s hf
          refine ev_blk hX lkok_RX12 [(.aload_n 0, 1, 0, 0, 0), (.getfield 92, 3, 12, 49, 0), (.aload_n 0, 1, 0, 0, 0), (.getfield 414, 3, 12, 48, 0), (.iload_n 1, 1, 0, 0, 0), (.iastore, 1, 0, 0, 0), (.aload_n 0, 1, 0, 0, 0), (.getfield 95, 3, 12, 50, 0), (.aload_n 0, 1, 0, 0, 0), (.getfield 414, 3, 12, 48, 0), (.iload_n 2, 1, 0, 0, 0), (.iastore, 1, 0, 0, 0), (.aload_n 0, 1, 0, 0, 0), (.aload_n 0, 1, 0, 0, 0), (.getfield 414, 3, 12, 48, 0), (.iconst 1, 1, 0, 0, 1), (.iadd, 1, 0, 0, 0), (.putfield 414, 3, 12, 48, 0)] (by decide +kernel) (g := (sK S l0 == 15) && ((sK S l0 == 15) && ((sK S ((sE S) l0 49) == 1 && ev_in (D4 l0 48) ((sL S) ((sE S) l0 49))) && ((sK S l0 == 15) && ((sK S l0 == 15) && ((sK S ((sE S) l0 50) == 1 && ev_in ((ev_up D4 ((sE S) l0 49) ((D4 l0 48)).toNatClampNeg l1) l0 48) ((sL S) ((sE S) l0 50))) && ((sK S l0 == 15) && ((sK S l0 == 15) && (true))))))))) (lv' := [some (.ref l0), some (.int l1), some (.int l2)]) (st' := []) (D' := (ev_up (ev_up (ev_up D4 ((sE S) l0 49) ((D4 l0 48)).toNatClampNeg l1) ((sE S) l0 50) (((ev_up D4 ((sE S) l0 49) ((D4 l0 48)).toNatClampNeg l1) l0 48)).toNatClampNeg l2) l0 48 (((ev_up (ev_up D4 ((sE S) l0 49) ((D4 l0 48)).toNatClampNeg l1) ((sE S) l0 50) (((ev_up D4 ((sE S) l0 49) ((D4 l0 48)).toNatClampNeg l1) l0 48)).toNatClampNeg l2) l0 48) + (1 : Int32)))) (pc' := 81) rfl (ev_gk hl0 (ev_gk hl0 (ev_gi (ev_tyk hT hl0 rfl rfl) hg7 (ev_gk hl0 (ev_gk hl0 (ev_gi (ev_tyk hT hl0 rfl rfl) hg8 (ev_gk hl0 (ev_gk hl0 (rfl))))))))) rfl ?_
          exact ev_weak hX (ev_le_eq (ev_le_no (ev_le_no ev_le_nil))) (tX12_round_81 hR hT hC   hl0 hf)
        · have hf := ev_it h6 hf
          refine ev_blk hX lkok_RX12 [(.iconst (-1), 1, 0, 0, (-1))] (by decide +kernel) (g := true) (lv' := [some (.ref l0), some (.int l1), some (.int l2)]) (st' := [.int (-1 : Int32)]) (D' := D4) (pc' := 50) rfl (rfl) rfl ?_
          exact ev_iret hR ev_sm.rf (Option.some.inj hf) hC (by decide +kernel)
  · have hf := ev_it h1 hf
    refine ev_blk hX lkok_RX12 [(.aload_n 0, 1, 0, 0, 0), (.iconst 0, 1, 0, 0, 0), (.putfield 414, 3, 12, 48, 0), (.iconst 0, 1, 0, 0, 0)] (by decide +kernel) (g := (sK S l0 == 15) && (true)) (lv' := [some (.ref l0), some (.int l1), some (.int l2)]) (st' := [.int (0 : Int32)]) (D' := (ev_up (ev_up D l0 0 (0 : Int32)) l0 48 (0 : Int32))) (pc' := 16) rfl (ev_gk hl0 (rfl)) rfl ?_
    exact ev_iret hR ev_sm.rf (Option.some.inj hf) hC (by decide +kernel)
theorem mX12_round {S : ev_S} {fu : Nat} {r : Int32 × ev_D} (hT : ev_Ty S) {l0 : Nat} {l1 : Int32} {l2 : Int32} {D : ev_D} (hl0 : sK S l0 = 15) (hf : fX12_round (sL S) (sE S) fu l0 l1 l2 D = some r) : ev_M 1 0 0 yX12_round cX12_round 3 (some .int) [.ref l0, .int l1, .int l2] S D S r :=
  ev_met (ini := false) (plainFor_of_name (by decide)) (fun h => by cases h) rfl (Nat.le_of_ble_eq_true rfl) (fun F hR => tX12_round (S := ev_z S) hR hT ⟨Nat.le_refl 0, Nat.le_refl 0⟩ hl0 hf)
set_option maxHeartbeats 4000000 in
set_option maxRecDepth 100000 in
theorem tX12_ringingAt_4 {S : ev_S} {fu : Nat} {r : Int32 × ev_D} {F : ev_Fr} (hR : ev_R RX12 cX12_ringingAt 4 0 0 0 false (some .int) S r F) (hT : ev_Ty S) (hC : sC S ≤ 0 ∧ sA S ≤ 0) : ∀ (n : Nat) (l0 : Nat) (l1 : Int32) (l2 : Int32) (l3 : Int32) (D : ev_D), sK S l0 = 15 → fX12_ringingAt_4 (sL S) (sE S) fu n l0 l1 l2 l3 D = some r → F S D 4 [some (.ref l0), some (.int l1), some (.int l2), some (.int l3)] [] := by
  have hX := hR.X
  intro n
  induction n with
  | zero =>
    intro l0 l1 l2 l3 D hl0 hf
    rw [fX12_ringingAt_4] at hf
    cases hf
  | succ n ih =>
    intro l0 l1 l2 l3 D hl0 hf
    rw [fX12_ringingAt_4] at hf
    refine ev_blk hX lkok_RX12 [(.iload_n 3, 1, 0, 0, 0), (.aload_n 0, 1, 0, 0, 0), (.getfield 414, 3, 12, 48, 0)] (by decide +kernel) (g := (sK S l0 == 15) && (true)) (lv' := [some (.ref l0), some (.int l1), some (.int l2), some (.int l3)]) (st' := [.int (D l0 48), .int l3]) (D' := D) (pc' := 9) rfl (ev_gk hl0 (rfl)) rfl ?_
    refine ev_ic_ge hX (off := 30) 39 (by decide +kernel) (by decide) (fun h1 => ?_) (fun h1 => ?_)
    · have hf := ev_it h1 hf
      refine ev_blk hX lkok_RX12 [(.iload_n 2, 1, 0, 0, 0)] (by decide +kernel) (g := true) (lv' := [some (.ref l0), some (.int l1), some (.int l2), some (.int l3)]) (st' := [.int l2]) (D' := D) (pc' := 40) rfl (rfl) rfl ?_
      exact ev_iret hR ev_sm.rf (Option.some.inj hf) hC (by decide +kernel)
    · have hf := ev_nf h1 hf
      obtain ⟨hg3, hf⟩ := ev_gd_s hf
      obtain ⟨hg4, hf⟩ := ev_gd_s hf
      obtain ⟨hg5, hf⟩ := ev_gd_s hf
      refine ev_blk hX lkok_RX12 [(.iload_n 1, 1, 0, 0, 0), (.aload_n 0, 1, 0, 0, 0), (.getfield 92, 3, 12, 49, 0), (.iload_n 3, 1, 0, 0, 0), (.iaload, 1, 0, 0, 0), (.irem, 1, 0, 0, 0), (.aload_n 0, 1, 0, 0, 0), (.getfield 95, 3, 12, 50, 0), (.iload_n 3, 1, 0, 0, 0), (.iaload, 1, 0, 0, 0)] (by decide +kernel) (g := (sK S l0 == 15) && ((sK S ((sE S) l0 49) == 1 && ev_in l3 ((sL S) ((sE S) l0 49))) && ((!(decide ((D ((sE S) l0 49) (l3).toNatClampNeg) = 0))) && ((sK S l0 == 15) && ((sK S ((sE S) l0 50) == 1 && ev_in l3 ((sL S) ((sE S) l0 50))) && (true)))))) (lv' := [some (.ref l0), some (.int l1), some (.int l2), some (.int l3)]) (st' := [.int (D ((sE S) l0 50) (l3).toNatClampNeg), .int (l1 - l1 / (D ((sE S) l0 49) (l3).toNatClampNeg) * (D ((sE S) l0 49) (l3).toNatClampNeg))]) (D' := D) (pc' := 26) rfl (ev_gk hl0 (ev_gi (ev_tyk hT hl0 rfl rfl) hg3 (ev_g2 hg4 (ev_gk hl0 (ev_gi (ev_tyk hT hl0 rfl rfl) hg5 (rfl)))))) rfl ?_
      refine ev_ic_ne hX (off := 7) 33 (by decide +kernel) (by decide) (fun h2 => ?_) (fun h2 => ?_)
      · have hf := ev_nf h2 hf
        refine ev_blk hX lkok_RX12 [(.iinc 3 1, 3, 0, 0, 1)] (by decide +kernel) (g := true) (lv' := [some (.ref l0), some (.int l1), some (.int l2), some (.int (l3 + (1 : Int32)))]) (st' := []) (D' := D) (pc' := 36) rfl (rfl) rfl ?_
        refine ev_goto hX (off := (-32)) 4 (by decide +kernel) (by decide) ?_
        exact ev_weak hX (ev_le_eq (ev_le_eq (ev_le_eq (ev_le_eq ev_le_nil)))) (ih _ _ _ _ _ hl0 hf)
      · have hf := ev_it h2 hf
        refine ev_blk hX lkok_RX12 [(.iload_n 2, 1, 0, 0, 0), (.iconst 1, 1, 0, 0, 1), (.iadd, 1, 0, 0, 0), (.istore_n 2, 1, 0, 0, 0), (.iinc 3 1, 3, 0, 0, 1)] (by decide +kernel) (g := true) (lv' := [some (.ref l0), some (.int l1), some (.int (l2 + (1 : Int32))), some (.int (l3 + (1 : Int32)))]) (st' := []) (D' := D) (pc' := 36) rfl (rfl) rfl ?_
        refine ev_goto hX (off := (-32)) 4 (by decide +kernel) (by decide) ?_
        exact ev_weak hX (ev_le_eq (ev_le_eq (ev_le_eq (ev_le_eq ev_le_nil)))) (ih _ _ _ _ _ hl0 hf)
set_option maxHeartbeats 4000000 in
set_option maxRecDepth 100000 in
theorem tX12_ringingAt {S : ev_S} {fu : Nat} {r : Int32 × ev_D} {F : ev_Fr} (hR : ev_R RX12 cX12_ringingAt 4 0 0 0 false (some .int) S r F) (hT : ev_Ty S) (hC : sC S ≤ 0 ∧ sA S ≤ 0) {l0 : Nat} {l1 : Int32} {D : ev_D} (hl0 : sK S l0 = 15) (hf : fX12_ringingAt (sL S) (sE S) fu l0 l1 D = some r) : F S D 0 [some (.ref l0), some (.int l1), none, none] [] := by
  have hX := hR.X
  unfold fX12_ringingAt at hf
  refine ev_blk hX lkok_RX12 [(.iconst 0, 1, 0, 0, 0), (.istore_n 2, 1, 0, 0, 0), (.iconst 0, 1, 0, 0, 0), (.istore_n 3, 1, 0, 0, 0)] (by decide +kernel) (g := true) (lv' := [some (.ref l0), some (.int l1), some (.int (0 : Int32)), some (.int (0 : Int32))]) (st' := []) (D' := D) (pc' := 4) rfl (rfl) rfl ?_
  exact ev_weak hX (ev_le_eq (ev_le_eq (ev_le_eq (ev_le_eq ev_le_nil)))) (tX12_ringingAt_4 hR hT hC   fu _ _ _ _ _ hl0 hf)
theorem mX12_ringingAt {S : ev_S} {fu : Nat} {r : Int32 × ev_D} (hT : ev_Ty S) {l0 : Nat} {l1 : Int32} {D : ev_D} (hl0 : sK S l0 = 15) (hf : fX12_ringingAt (sL S) (sE S) fu l0 l1 D = some r) : ev_M 0 0 0 yX12_ringingAt cX12_ringingAt 4 (some .int) [.ref l0, .int l1] S D S r :=
  ev_met (ini := false) (plainFor_of_name (by decide)) (fun h => by cases h) rfl (Nat.le_of_ble_eq_true rfl) (fun F hR => tX12_ringingAt (S := ev_z S) hR hT ⟨Nat.le_refl 0, Nat.le_refl 0⟩ hl0 hf)
set_option maxHeartbeats 4000000 in
set_option maxRecDepth 100000 in
theorem tX12_together_34 {S : ev_S} {fu : Nat} {r : Int32 × ev_D} {F : ev_Fr} (hR : ev_R RX12 cX12_together 3 1 0 0 false (some .int) S r F) (hT : ev_Ty S) (hC : sC S ≤ 0 ∧ sA S ≤ 0) : ∀ (n : Nat) (l0 : Nat) (l2 : Int32) (D : ev_D), sK S l0 = 15 → fX12_together_34 (sL S) (sE S) fu n l0 l2 D = some r → F S D 34 [some (.ref l0), none, some (.int l2)] [] := by
  have hX := hR.X
  intro n
  induction n with
  | zero =>
    intro l0 l2 D hl0 hf
    rw [fX12_together_34] at hf
    cases hf
  | succ n ih =>
    intro l0 l2 D hl0 hf
    rw [fX12_together_34] at hf
    refine ev_blk hX lkok_RX12 [(.iload_n 2, 1, 0, 0, 0), (.sipush 27720, 3, 0, 0, 27720)] (by decide +kernel) (g := true) (lv' := [some (.ref l0), none, some (.int l2)]) (st' := [.int (27720 : Int32), .int l2]) (D' := D) (pc' := 38) rfl (rfl) rfl ?_
    refine ev_ic_ge hX (off := 30) 68 (by decide +kernel) (by decide) (fun h1 => ?_) (fun h1 => ?_)
    · have hf := ev_it h1 hf
      refine ev_blk hX lkok_RX12 [(.iconst (-1), 1, 0, 0, (-1))] (by decide +kernel) (g := true) (lv' := [some (.ref l0), none, some (.int l2)]) (st' := [.int (-1 : Int32)]) (D' := D) (pc' := 69) rfl (rfl) rfl ?_
      exact ev_iret hR ev_sm.rf (Option.some.inj hf) hC (by decide +kernel)
    · have hf := ev_nf h1 hf
      refine ev_blk hX lkok_RX12 [(.aload_n 0, 1, 0, 0, 0), (.getfield 414, 3, 12, 48, 0)] (by decide +kernel) (g := (sK S l0 == 15) && (true)) (lv' := [some (.ref l0), none, some (.int l2)]) (st' := [.int (D l0 48)]) (D' := D) (pc' := 45) rfl (ev_gk hl0 (rfl)) rfl ?_
      refine ev_if_le hX (off := 23) 68 (by decide +kernel) (by decide) (fun h2 => ?_) (fun h2 => ?_)
      · have hf := ev_it h2 hf
        refine ev_blk hX lkok_RX12 [(.iconst (-1), 1, 0, 0, (-1))] (by decide +kernel) (g := true) (lv' := [some (.ref l0), none, some (.int l2)]) (st' := [.int (-1 : Int32)]) (D' := D) (pc' := 69) rfl (rfl) rfl ?_
        exact ev_iret hR ev_sm.rf (Option.some.inj hf) hC (by decide +kernel)
      · have hf := ev_nf h2 hf
        refine ev_blk hX lkok_RX12 [(.aload_n 0, 1, 0, 0, 0), (.iload_n 2, 1, 0, 0, 0)] (by decide +kernel) (g := true) (lv' := [some (.ref l0), none, some (.int l2)]) (st' := [.int l2, .ref l0]) (D' := D) (pc' := 50) rfl (rfl) rfl ?_
        obtain ⟨v3, D3, hc3, hf⟩ := ev_bd_s hf
        refine ev_callV hX YX12_ringingAt ml_RX12_417 (mX12_ringingAt hT hl0 hc3) (vs := [.int l2]) (st := []) (by decide) 12 hl0 rfl rfl rfl (by decide +kernel) hC ?_
        show F S D3 53 [some (.ref l0), none, some (.int l2)] [.int v3]
        refine ev_blk hX lkok_RX12 [(.aload_n 0, 1, 0, 0, 0), (.getfield 414, 3, 12, 48, 0)] (by decide +kernel) (g := (sK S l0 == 15) && (true)) (lv' := [some (.ref l0), none, some (.int l2)]) (st' := [.int (D3 l0 48), .int v3]) (D' := D3) (pc' := 57) rfl (ev_gk hl0 (rfl)) rfl ?_
        refine ev_ic_ne hX (off := 5) 62 (by decide +kernel) (by decide) (fun h4 => ?_) (fun h4 => ?_)
        · have hf := ev_nf h4 hf
          refine ev_blk hX lkok_RX12 [(.iinc 2 1, 3, 0, 0, 1)] (by decide +kernel) (g := true) (lv' := [some (.ref l0), none, some (.int (l2 + (1 : Int32)))]) (st' := []) (D' := D3) (pc' := 65) rfl (rfl) rfl ?_
          refine ev_goto hX (off := (-31)) 34 (by decide +kernel) (by decide) ?_
          exact ev_weak hX (ev_le_eq (ev_le_no (ev_le_eq ev_le_nil))) (ih _ _ _ hl0 hf)
        · have hf := ev_it h4 hf
          refine ev_blk hX lkok_RX12 [(.iload_n 2, 1, 0, 0, 0)] (by decide +kernel) (g := true) (lv' := [some (.ref l0), none, some (.int l2)]) (st' := [.int l2]) (D' := D3) (pc' := 61) rfl (rfl) rfl ?_
          exact ev_iret hR ev_sm.rf (Option.some.inj hf) hC (by decide +kernel)
set_option maxHeartbeats 4000000 in
set_option maxRecDepth 100000 in
theorem tX12_together {S : ev_S} {fu : Nat} {r : Int32 × ev_D} {F : ev_Fr} (hR : ev_R RX12 cX12_together 3 1 0 0 false (some .int) S r F) (hT : ev_Ty S) (hC : sC S ≤ 0 ∧ sA S ≤ 0) {l0 : Nat} {l1 : Int32} {D : ev_D} (hl0 : sK S l0 = 15) (hf : fX12_together (sL S) (sE S) fu l0 l1 D = some r) : F S D 0 [some (.ref l0), some (.int l1), none] [] := by
  have hX := hR.X
  unfold fX12_together at hf
  refine ev_blk hX lkok_RX12 [(.aload_n 0, 1, 0, 0, 0), (.iconst 0, 1, 0, 0, 0), (.putfield 128, 3, 12, 0, 0), (.iload_n 1, 1, 0, 0, 0), (.iconst (-1), 1, 0, 0, (-1))] (by decide +kernel) (g := (sK S l0 == 15) && (true)) (lv' := [some (.ref l0), some (.int l1), none]) (st' := [.int (-1 : Int32), .int l1]) (D' := (ev_up D l0 0 (0 : Int32))) (pc' := 7) rfl (ev_gk hl0 (rfl)) rfl ?_
  refine ev_ic_eq hX (off := 25) 32 (by decide +kernel) (by decide) (fun h5 => ?_) (fun h5 => ?_)
  · have hf := ev_it h5 hf
    refine ev_blk hX lkok_RX12 [(.iconst 0, 1, 0, 0, 0), (.istore_n 2, 1, 0, 0, 0)] (by decide +kernel) (g := true) (lv' := [some (.ref l0), some (.int l1), some (.int (0 : Int32))]) (st' := []) (D' := (ev_up D l0 0 (0 : Int32))) (pc' := 34) rfl (rfl) rfl ?_
    exact ev_weak hX (ev_le_eq (ev_le_no (ev_le_eq ev_le_nil))) (tX12_together_34 hR hT hC   fu _ _ _ hl0 hf)
  · have hf := ev_nf h5 hf
    refine ev_blk hX lkok_RX12 [(.aload_n 0, 1, 0, 0, 0), (.iload_n 1, 1, 0, 0, 0), (.iconst 0, 1, 0, 0, 0), (.sipush 9999, 3, 0, 0, 9999)] (by decide +kernel) (g := true) (lv' := [some (.ref l0), some (.int l1), none]) (st' := [.int (9999 : Int32), .int (0 : Int32), .int l1, .ref l0]) (D' := (ev_up D l0 0 (0 : Int32))) (pc' := 16) rfl (rfl) rfl ?_
    obtain ⟨v6, D6, hc6, hf⟩ := ev_bd_s hf
    refine ev_callV hX YX12_isIn ml_RX12_150 (mX12_isIn hT hl0 hc6) (vs := [.int l1, .int (0 : Int32), .int (9999 : Int32)]) (st := []) (by decide) 12 hl0 rfl rfl rfl (by decide +kernel) hC ?_
    show F S D6 19 [some (.ref l0), some (.int l1), none] [.int v6]
    refine ev_if_eq hX (off := 11) 30 (by decide +kernel) (by decide) (fun h7 => ?_) (fun h7 => ?_)
    · have hf := ev_it h7 hf
      refine ev_blk hX lkok_RX12 [(.iconst (-1), 1, 0, 0, (-1))] (by decide +kernel) (g := true) (lv' := [some (.ref l0), some (.int l1), none]) (st' := [.int (-1 : Int32)]) (D' := D6) (pc' := 31) rfl (rfl) rfl ?_
      exact ev_iret hR ev_sm.rf (Option.some.inj hf) hC (by decide +kernel)
    · have hf := ev_nf h7 hf
      refine ev_blk hX lkok_RX12 [(.aload_n 0, 1, 0, 0, 0), (.iload_n 1, 1, 0, 0, 0)] (by decide +kernel) (g := true) (lv' := [some (.ref l0), some (.int l1), none]) (st' := [.int l1, .ref l0]) (D' := D6) (pc' := 24) rfl (rfl) rfl ?_
      obtain ⟨v8, D8, hc8, hf⟩ := ev_bd_s hf
      refine ev_callV hX YX12_ringingAt ml_RX12_417 (mX12_ringingAt hT hl0 hc8) (vs := [.int l1]) (st := []) (by decide) 12 hl0 rfl rfl rfl (by decide +kernel) hC ?_
      show F S D8 27 [some (.ref l0), some (.int l1), none] [.int v8]
      refine ev_goto hX (off := 4) 31 (by decide +kernel) (by decide) ?_
      exact ev_iret hR ev_sm.rf (Option.some.inj hf) hC (by decide +kernel)
theorem mX12_together {S : ev_S} {fu : Nat} {r : Int32 × ev_D} (hT : ev_Ty S) {l0 : Nat} {l1 : Int32} {D : ev_D} (hl0 : sK S l0 = 15) (hf : fX12_together (sL S) (sE S) fu l0 l1 D = some r) : ev_M 1 0 0 yX12_together cX12_together 3 (some .int) [.ref l0, .int l1] S D S r :=
  ev_met (ini := false) (plainFor_of_name (by decide)) (fun h => by cases h) rfl (Nat.le_of_ble_eq_true rfl) (fun F hR => tX12_together (S := ev_z S) hR hT ⟨Nat.le_refl 0, Nat.le_refl 0⟩ hl0 hf)
set_option maxHeartbeats 4000000 in
set_option maxRecDepth 100000 in
theorem tX12_hold {S : ev_S} {fu : Nat} {r : Int32 × ev_D} {F : ev_Fr} (hR : ev_R RX12 cX12_hold 4 1 0 0 false (some .boolean) S r F) (hT : ev_Ty S) (hC : sC S ≤ 0 ∧ sA S ≤ 0) {l0 : Nat} {l1 : Int32} {l2 : Int32} {l3 : Int32} {D : ev_D} (hl0 : sK S l0 = 15) (hf : fX12_hold (sL S) (sE S) fu l0 l1 l2 l3 D = some r) : F S D 0 [some (.ref l0), some (.int l1), some (.int l2), some (.int l3)] [] := by
  have hX := hR.X
  unfold fX12_hold at hf
  refine ev_blk hX lkok_RX12 [(.aload_n 0, 1, 0, 0, 0), (.iconst 0, 1, 0, 0, 0), (.putfield 128, 3, 12, 0, 0), (.aload_n 0, 1, 0, 0, 0), (.iload_n 1, 1, 0, 0, 0), (.iconst 0, 1, 0, 0, 0), (.bipush 9, 2, 0, 0, 9)] (by decide +kernel) (g := (sK S l0 == 15) && (true)) (lv' := [some (.ref l0), some (.int l1), some (.int l2), some (.int l3)]) (st' := [.int (9 : Int32), .int (0 : Int32), .int l1, .ref l0]) (D' := (ev_up D l0 0 (0 : Int32))) (pc' := 10) rfl (ev_gk hl0 (rfl)) rfl ?_
  obtain ⟨v1, D1, hc1, hf⟩ := ev_bd_s hf
  refine ev_callV hX YX12_isIn ml_RX12_150 (mX12_isIn hT hl0 hc1) (vs := [.int l1, .int (0 : Int32), .int (9 : Int32)]) (st := []) (by decide) 12 hl0 rfl rfl rfl (by decide +kernel) hC ?_
  show F S D1 13 [some (.ref l0), some (.int l1), some (.int l2), some (.int l3)] [.int v1]
  refine ev_if_eq hX (off := 22) 35 (by decide +kernel) (by decide) (fun h2 => ?_) (fun h2 => ?_)
  · have hf := ev_it h2 hf
    refine ev_blk hX lkok_RX12 [(.iconst 0, 1, 0, 0, 0)] (by decide +kernel) (g := true) (lv' := [some (.ref l0), some (.int l1), some (.int l2), some (.int l3)]) (st' := [.int (0 : Int32)]) (D' := D1) (pc' := 36) rfl (rfl) rfl ?_
    exact ev_zret hR ev_sm.rf (Or.inl rfl) (Option.some.inj hf) hC (by decide +kernel)
  · have hf := ev_nf h2 hf
    refine ev_blk hX lkok_RX12 [(.aload_n 0, 1, 0, 0, 0), (.iload_n 2, 1, 0, 0, 0)] (by decide +kernel) (g := true) (lv' := [some (.ref l0), some (.int l1), some (.int l2), some (.int l3)]) (st' := [.int l2, .ref l0]) (D' := D1) (pc' := 18) rfl (rfl) rfl ?_
    obtain ⟨v3, D3, hc3, hf⟩ := ev_bd_s hf
    refine ev_callV hX YX12_isBell ml_RX12_147 (mX12_isBell hT hl0 hc3) (vs := [.int l2]) (st := []) (by decide) 12 hl0 rfl rfl rfl (by decide +kernel) hC ?_
    show F S D3 21 [some (.ref l0), some (.int l1), some (.int l2), some (.int l3)] [.int v3]
    refine ev_if_eq hX (off := 14) 35 (by decide +kernel) (by decide) (fun h4 => ?_) (fun h4 => ?_)
    · have hf := ev_it h4 hf
      refine ev_blk hX lkok_RX12 [(.iconst 0, 1, 0, 0, 0)] (by decide +kernel) (g := true) (lv' := [some (.ref l0), some (.int l1), some (.int l2), some (.int l3)]) (st' := [.int (0 : Int32)]) (D' := D3) (pc' := 36) rfl (rfl) rfl ?_
      exact ev_zret hR ev_sm.rf (Or.inl rfl) (Option.some.inj hf) hC (by decide +kernel)
    · have hf := ev_nf h4 hf
      refine ev_blk hX lkok_RX12 [(.aload_n 0, 1, 0, 0, 0), (.iload_n 3, 1, 0, 0, 0), (.iconst 0, 1, 0, 0, 0), (.bipush 99, 2, 0, 0, 99)] (by decide +kernel) (g := true) (lv' := [some (.ref l0), some (.int l1), some (.int l2), some (.int l3)]) (st' := [.int (99 : Int32), .int (0 : Int32), .int l3, .ref l0]) (D' := D3) (pc' := 29) rfl (rfl) rfl ?_
      obtain ⟨v5, D5, hc5, hf⟩ := ev_bd_s hf
      refine ev_callV hX YX12_isIn ml_RX12_150 (mX12_isIn hT hl0 hc5) (vs := [.int l3, .int (0 : Int32), .int (99 : Int32)]) (st := []) (by decide) 12 hl0 rfl rfl rfl (by decide +kernel) hC ?_
      show F S D5 32 [some (.ref l0), some (.int l1), some (.int l2), some (.int l3)] [.int v5]
      refine ev_if_ne hX (off := 5) 37 (by decide +kernel) (by decide) (fun h6 => ?_) (fun h6 => ?_)
      · have hf := ev_nf h6 hf
        obtain ⟨hg7, hf⟩ := ev_gd_s hf
        refine ev_blk hX lkok_RX12 [(.aload_n 0, 1, 0, 0, 0), (.getfield 98, 3, 12, 51, 0), (.bipush 8, 2, 0, 0, 8), (.iload_n 1, 1, 0, 0, 0), (.imul, 1, 0, 0, 0), (.iload_n 2, 1, 0, 0, 0), (.iadd, 1, 0, 0, 0), (.iload_n 3, 1, 0, 0, 0), (.iastore, 1, 0, 0, 0), (.iconst 1, 1, 0, 0, 1)] (by decide +kernel) (g := (sK S l0 == 15) && ((sK S ((sE S) l0 51) == 1 && ev_in (((8 : Int32) * l1) + l2) ((sL S) ((sE S) l0 51))) && (true))) (lv' := [some (.ref l0), some (.int l1), some (.int l2), some (.int l3)]) (st' := [.int (1 : Int32)]) (D' := (ev_up D5 ((sE S) l0 51) ((((8 : Int32) * l1) + l2)).toNatClampNeg l3)) (pc' := 50) rfl (ev_gk hl0 (ev_gi (ev_tyk hT hl0 rfl rfl) hg7 (rfl))) rfl ?_
        exact ev_zret hR ev_sm.rf (Or.inr rfl) (Option.some.inj hf) hC (by decide +kernel)
      · have hf := ev_it h6 hf
        refine ev_blk hX lkok_RX12 [(.iconst 0, 1, 0, 0, 0)] (by decide +kernel) (g := true) (lv' := [some (.ref l0), some (.int l1), some (.int l2), some (.int l3)]) (st' := [.int (0 : Int32)]) (D' := D5) (pc' := 36) rfl (rfl) rfl ?_
        exact ev_zret hR ev_sm.rf (Or.inl rfl) (Option.some.inj hf) hC (by decide +kernel)
theorem mX12_hold {S : ev_S} {fu : Nat} {r : Int32 × ev_D} (hT : ev_Ty S) {l0 : Nat} {l1 : Int32} {l2 : Int32} {l3 : Int32} {D : ev_D} (hl0 : sK S l0 = 15) (hf : fX12_hold (sL S) (sE S) fu l0 l1 l2 l3 D = some r) : ev_M 1 0 0 yX12_hold cX12_hold 4 (some .boolean) [.ref l0, .int l1, .int l2, .int l3] S D S r :=
  ev_met (ini := false) (plainFor_of_name (by decide)) (fun h => by cases h) rfl (Nat.le_of_ble_eq_true rfl) (fun F hR => tX12_hold (S := ev_z S) hR hT ⟨Nat.le_refl 0, Nat.le_refl 0⟩ hl0 hf)
set_option maxHeartbeats 4000000 in
set_option maxRecDepth 100000 in
theorem tX12_heldBy {S : ev_S} {fu : Nat} {r : Int32 × ev_D} {F : ev_Fr} (hR : ev_R RX12 cX12_heldBy 4 1 0 0 false (some .int) S r F) (hT : ev_Ty S) (hC : sC S ≤ 0 ∧ sA S ≤ 0) {l0 : Nat} {l1 : Int32} {l2 : Int32} {l3 : Int32} {D : ev_D} (hl0 : sK S l0 = 15) (hf : fX12_heldBy (sL S) (sE S) fu l0 l1 l2 l3 D = some r) : F S D 0 [some (.ref l0), some (.int l1), some (.int l2), some (.int l3)] [] := by
  have hX := hR.X
  unfold fX12_heldBy at hf
  obtain ⟨hg2, hf⟩ := ev_gd_s hf
  obtain ⟨hg3, hf⟩ := ev_gd_s hf
  refine ev_blk hX lkok_RX12 [(.aload_n 0, 1, 0, 0, 0), (.aload_n 0, 1, 0, 0, 0), (.getfield 98, 3, 12, 51, 0), (.bipush 8, 2, 0, 0, 8), (.iload_n 1, 1, 0, 0, 0), (.imul, 1, 0, 0, 0), (.iload_n 2, 1, 0, 0, 0), (.iadd, 1, 0, 0, 0), (.iaload, 1, 0, 0, 0), (.aload_n 0, 1, 0, 0, 0), (.getfield 101, 3, 12, 52, 0), (.iload_n 3, 1, 0, 0, 0), (.iconst 1, 1, 0, 0, 1), (.iload_n 2, 1, 0, 0, 0), (.ishl, 1, 0, 0, 0), (.ior, 1, 0, 0, 0), (.iaload, 1, 0, 0, 0)] (by decide +kernel) (g := (sK S l0 == 15) && ((sK S ((sE S) l0 51) == 1 && ev_in (((8 : Int32) * l1) + l2) ((sL S) ((sE S) l0 51))) && ((sK S l0 == 15) && ((sK S ((sE S) l0 52) == 1 && ev_in (l3 ||| ((1 : Int32) <<< (l2 &&& 31))) ((sL S) ((sE S) l0 52))) && (true))))) (lv' := [some (.ref l0), some (.int l1), some (.int l2), some (.int l3)]) (st' := [.int (D ((sE S) l0 52) ((l3 ||| ((1 : Int32) <<< (l2 &&& 31)))).toNatClampNeg), .int (D ((sE S) l0 51) ((((8 : Int32) * l1) + l2)).toNatClampNeg), .ref l0]) (D' := D) (pc' := 22) rfl (ev_gk hl0 (ev_gi (ev_tyk hT hl0 rfl rfl) hg2 (ev_gk hl0 (ev_gi (ev_tyk hT hl0 rfl rfl) hg3 (rfl))))) rfl ?_
  obtain ⟨v1, D1, hc1, hf⟩ := ev_bd_s hf
  refine ev_callV hX YX12_lesser ml_RX12_344 (mX12_lesser hT hl0 hc1) (vs := [.int (D ((sE S) l0 51) ((((8 : Int32) * l1) + l2)).toNatClampNeg), .int (D ((sE S) l0 52) ((l3 ||| ((1 : Int32) <<< (l2 &&& 31)))).toNatClampNeg)]) (st := []) (by decide) 12 hl0 rfl rfl rfl (by decide +kernel) hC ?_
  show F S D1 25 [some (.ref l0), some (.int l1), some (.int l2), some (.int l3)] [.int v1]
  exact ev_iret hR ev_sm.rf (Option.some.inj hf) hC (by decide +kernel)
theorem mX12_heldBy {S : ev_S} {fu : Nat} {r : Int32 × ev_D} (hT : ev_Ty S) {l0 : Nat} {l1 : Int32} {l2 : Int32} {l3 : Int32} {D : ev_D} (hl0 : sK S l0 = 15) (hf : fX12_heldBy (sL S) (sE S) fu l0 l1 l2 l3 D = some r) : ev_M 1 0 0 yX12_heldBy cX12_heldBy 4 (some .int) [.ref l0, .int l1, .int l2, .int l3] S D S r :=
  ev_met (ini := false) (plainFor_of_name (by decide)) (fun h => by cases h) rfl (Nat.le_of_ble_eq_true rfl) (fun F hR => tX12_heldBy (S := ev_z S) hR hT ⟨Nat.le_refl 0, Nat.le_refl 0⟩ hl0 hf)
set_option maxHeartbeats 4000000 in
set_option maxRecDepth 100000 in
theorem tX12_findsHeld_78 {S : ev_S} {fu : Nat} {r : Int32 × ev_D} {F : ev_Fr} (hR : ev_R RX12 cX12_findsHeld 5 2 0 0 false none S r F) (hT : ev_Ty S) (hC : sC S ≤ 0 ∧ sA S ≤ 0) {k4 : Nat → Int32 → ev_D → ev_Op} (hk4 : ∀ (l0 : Nat) (l1 : Int32) (D : ev_D), sK S l0 = 15 → k4 l0 l1 D = some r → F S D 4 [some (.ref l0), some (.int l1), none, none, none] []) {l0 : Nat} {l1 : Int32} {l3 : Int32} {D : ev_D} (hl0 : sK S l0 = 15) (hf : fX12_findsHeld_78 (sL S) (sE S) fu k4 l0 l1 l3 D = some r) : F S D 78 [some (.ref l0), some (.int l1), none, some (.int l3), none] [] := by
  have hX := hR.X
  unfold fX12_findsHeld_78 at hf
  obtain ⟨hg1, hf⟩ := ev_gd_s hf
  refine ev_blk hX lkok_RX12 [(.aload_n 0, 1, 0, 0, 0), (.getfield 101, 3, 12, 52, 0), (.iload_n 1, 1, 0, 0, 0), (.iload_n 3, 1, 0, 0, 0), (.iastore, 1, 0, 0, 0), (.iinc 1 (-1), 3, 0, 0, (-1))] (by decide +kernel) (g := (sK S l0 == 15) && ((sK S ((sE S) l0 52) == 1 && ev_in l1 ((sL S) ((sE S) l0 52))) && (true))) (lv' := [some (.ref l0), some (.int (l1 + (-1 : Int32))), none, some (.int l3), none]) (st' := []) (D' := (ev_up D ((sE S) l0 52) (l1).toNatClampNeg l3)) (pc' := 88) rfl (ev_gk hl0 (ev_gi (ev_tyk hT hl0 rfl rfl) hg1 (rfl))) rfl ?_
  refine ev_goto hX (off := (-84)) 4 (by decide +kernel) (by decide) ?_
  exact ev_weak hX (ev_le_eq (ev_le_eq (ev_le_no (ev_le_no (ev_le_no ev_le_nil))))) (hk4 _ _ _ hl0 hf)
set_option maxHeartbeats 4000000 in
set_option maxRecDepth 100000 in
theorem tX12_findsHeld_33 {S : ev_S} {fu : Nat} {r : Int32 × ev_D} {F : ev_Fr} (hR : ev_R RX12 cX12_findsHeld 5 2 0 0 false none S r F) (hT : ev_Ty S) (hC : sC S ≤ 0 ∧ sA S ≤ 0) {k4 : Nat → Int32 → ev_D → ev_Op} (hk4 : ∀ (l0 : Nat) (l1 : Int32) (D : ev_D), sK S l0 = 15 → k4 l0 l1 D = some r → F S D 4 [some (.ref l0), some (.int l1), none, none, none] []) : ∀ (n : Nat) (l0 : Nat) (l1 : Int32) (l2 : Int32) (l3 : Int32) (l4 : Int32) (D : ev_D), sK S l0 = 15 → fX12_findsHeld_33 (sL S) (sE S) fu k4 n l0 l1 l2 l3 l4 D = some r → F S D 33 [some (.ref l0), some (.int l1), some (.int l2), some (.int l3), some (.int l4)] [] := by
  have hX := hR.X
  intro n
  induction n with
  | zero =>
    intro l0 l1 l2 l3 l4 D hl0 hf
    rw [fX12_findsHeld_33] at hf
    cases hf
  | succ n ih =>
    intro l0 l1 l2 l3 l4 D hl0 hf
    rw [fX12_findsHeld_33] at hf
    refine ev_blk hX lkok_RX12 [(.iload 4, 2, 0, 0, 0), (.bipush 8, 2, 0, 0, 8)] (by decide +kernel) (g := true) (lv' := [some (.ref l0), some (.int l1), some (.int l2), some (.int l3), some (.int l4)]) (st' := [.int (8 : Int32), .int l4]) (D' := D) (pc' := 37) rfl (rfl) rfl ?_
    refine ev_ic_ge hX (off := 41) 78 (by decide +kernel) (by decide) (fun h2 => ?_) (fun h2 => ?_)
    · have hf := ev_it h2 hf
      exact ev_weak hX (ev_le_eq (ev_le_eq (ev_le_no (ev_le_eq (ev_le_no ev_le_nil))))) (tX12_findsHeld_78 hR hT hC  hk4 hl0 hf)
    · have hf := ev_nf h2 hf
      refine ev_blk hX lkok_RX12 [(.iload_n 2, 1, 0, 0, 0), (.aload_n 0, 1, 0, 0, 0), (.getfield 140, 3, 12, 7, 0)] (by decide +kernel) (g := (sK S l0 == 15) && (true)) (lv' := [some (.ref l0), some (.int l1), some (.int l2), some (.int l3), some (.int l4)]) (st' := [.int (D l0 7), .int l2]) (D' := D) (pc' := 45) rfl (ev_gk hl0 (rfl)) rfl ?_
      refine ev_ic_ge hX (off := 33) 78 (by decide +kernel) (by decide) (fun h3 => ?_) (fun h3 => ?_)
      · have hf := ev_it h3 hf
        exact ev_weak hX (ev_le_eq (ev_le_eq (ev_le_no (ev_le_eq (ev_le_no ev_le_nil))))) (tX12_findsHeld_78 hR hT hC  hk4 hl0 hf)
      · have hf := ev_nf h3 hf
        refine ev_blk hX lkok_RX12 [(.aload_n 0, 1, 0, 0, 0), (.iload_n 1, 1, 0, 0, 0), (.iload 4, 2, 0, 0, 0)] (by decide +kernel) (g := true) (lv' := [some (.ref l0), some (.int l1), some (.int l2), some (.int l3), some (.int l4)]) (st' := [.int l4, .int l1, .ref l0]) (D' := D) (pc' := 52) rfl (rfl) rfl ?_
        obtain ⟨v4, D4, hc4, hf⟩ := ev_bd_s hf
        refine ev_callV hX YX12_has ml_RX12_390 (mX12_has hT hl0 hc4) (vs := [.int l1, .int l4]) (st := []) (by decide) 12 hl0 rfl rfl rfl (by decide +kernel) hC ?_
        show F S D4 55 [some (.ref l0), some (.int l1), some (.int l2), some (.int l3), some (.int l4)] [.int v4]
        refine ev_if_ne hX (off := 17) 72 (by decide +kernel) (by decide) (fun h5 => ?_) (fun h5 => ?_)
        · have hf := ev_nf h5 hf
          refine ev_blk hX lkok_RX12 [(.iinc 4 1, 3, 0, 0, 1)] (by decide +kernel) (g := true) (lv' := [some (.ref l0), some (.int l1), some (.int l2), some (.int l3), some (.int (l4 + (1 : Int32)))]) (st' := []) (D' := D4) (pc' := 75) rfl (rfl) rfl ?_
          refine ev_goto hX (off := (-42)) 33 (by decide +kernel) (by decide) ?_
          exact ev_weak hX (ev_le_eq (ev_le_eq (ev_le_eq (ev_le_eq (ev_le_eq ev_le_nil))))) (ih _ _ _ _ _ _ hl0 hf)
        · have hf := ev_it h5 hf
          refine ev_blk hX lkok_RX12 [(.aload_n 0, 1, 0, 0, 0), (.iload_n 3, 1, 0, 0, 0), (.aload_n 0, 1, 0, 0, 0), (.iload_n 2, 1, 0, 0, 0), (.iload 4, 2, 0, 0, 0), (.iload_n 1, 1, 0, 0, 0)] (by decide +kernel) (g := true) (lv' := [some (.ref l0), some (.int l1), some (.int l2), some (.int l3), some (.int l4)]) (st' := [.int l1, .int l4, .int l2, .ref l0, .int l3, .ref l0]) (D' := D4) (pc' := 65) rfl (rfl) rfl ?_
          obtain ⟨v6, D6, hc6, hf⟩ := ev_bd_s hf
          refine ev_callV hX YX12_heldBy ml_RX12_420 (mX12_heldBy hT hl0 hc6) (vs := [.int l2, .int l4, .int l1]) (st := [.int l3, .ref l0]) (by decide) 12 hl0 rfl rfl rfl (by decide +kernel) hC ?_
          show F S D6 68 [some (.ref l0), some (.int l1), some (.int l2), some (.int l3), some (.int l4)] [.int v6, .int l3, .ref l0]
          obtain ⟨v7, D7, hc7, hf⟩ := ev_bd_s hf
          refine ev_callV hX YX12_greater ml_RX12_357 (mX12_greater hT hl0 hc7) (vs := [.int l3, .int v6]) (st := []) (by decide) 12 hl0 rfl rfl rfl (by decide +kernel) hC ?_
          show F S D7 71 [some (.ref l0), some (.int l1), some (.int l2), some (.int l3), some (.int l4)] [.int v7]
          refine ev_blk hX lkok_RX12 [(.istore_n 3, 1, 0, 0, 0), (.iinc 4 1, 3, 0, 0, 1)] (by decide +kernel) (g := true) (lv' := [some (.ref l0), some (.int l1), some (.int l2), some (.int v7), some (.int (l4 + (1 : Int32)))]) (st' := []) (D' := D7) (pc' := 75) rfl (rfl) rfl ?_
          refine ev_goto hX (off := (-42)) 33 (by decide +kernel) (by decide) ?_
          exact ev_weak hX (ev_le_eq (ev_le_eq (ev_le_eq (ev_le_eq (ev_le_eq ev_le_nil))))) (ih _ _ _ _ _ _ hl0 hf)
set_option maxHeartbeats 4000000 in
set_option maxRecDepth 100000 in
theorem tX12_findsHeld_4 {S : ev_S} {fu : Nat} {r : Int32 × ev_D} {F : ev_Fr} (hR : ev_R RX12 cX12_findsHeld 5 2 0 0 false none S r F) (hT : ev_Ty S) (hC : sC S ≤ 0 ∧ sA S ≤ 0) : ∀ (n : Nat) (l0 : Nat) (l1 : Int32) (D : ev_D), sK S l0 = 15 → fX12_findsHeld_4 (sL S) (sE S) fu n l0 l1 D = some r → F S D 4 [some (.ref l0), some (.int l1), none, none, none] [] := by
  have hX := hR.X
  intro n
  induction n with
  | zero =>
    intro l0 l1 D hl0 hf
    rw [fX12_findsHeld_4] at hf
    cases hf
  | succ n ih =>
    intro l0 l1 D hl0 hf
    rw [fX12_findsHeld_4] at hf
    refine ev_blk hX lkok_RX12 [(.iload_n 1, 1, 0, 0, 0)] (by decide +kernel) (g := true) (lv' := [some (.ref l0), some (.int l1), none, none, none]) (st' := [.int l1]) (D' := D) (pc' := 5) rfl (rfl) rfl ?_
    refine ev_if_lt hX (off := 86) 91 (by decide +kernel) (by decide) (fun h8 => ?_) (fun h8 => ?_)
    · have hf := ev_it h8 hf
      exact ev_vret hR ev_sm.rf (Option.some.inj hf) hC (by decide +kernel)
    · have hf := ev_nf h8 hf
      refine ev_blk hX lkok_RX12 [(.aload_n 0, 1, 0, 0, 0), (.iload_n 1, 1, 0, 0, 0)] (by decide +kernel) (g := true) (lv' := [some (.ref l0), some (.int l1), none, none, none]) (st' := [.int l1, .ref l0]) (D' := D) (pc' := 10) rfl (rfl) rfl ?_
      obtain ⟨v9, D9, hc9, hf⟩ := ev_bd_s hf
      refine ev_callV hX YX12_onesOf ml_RX12_326 (mX12_onesOf hT hl0 hc9) (vs := [.int l1]) (st := []) (by decide) 12 hl0 rfl rfl rfl (by decide +kernel) hC ?_
      show F S D9 13 [some (.ref l0), some (.int l1), none, none, none] [.int v9]
      refine ev_blk hX lkok_RX12 [(.istore_n 2, 1, 0, 0, 0), (.iload_n 2, 1, 0, 0, 0), (.aload_n 0, 1, 0, 0, 0), (.getfield 140, 3, 12, 7, 0)] (by decide +kernel) (g := (sK S l0 == 15) && (true)) (lv' := [some (.ref l0), some (.int l1), some (.int v9), none, none]) (st' := [.int (D9 l0 7), .int v9]) (D' := D9) (pc' := 19) rfl (ev_gk hl0 (rfl)) rfl ?_
      refine ev_ic_lt hX (off := 9) 28 (by decide +kernel) (by decide) (fun h10 => ?_) (fun h10 => ?_)
      · have hf := ev_it h10 hf
        refine ev_blk hX lkok_RX12 [(.iconst (-1), 1, 0, 0, (-1)), (.istore_n 3, 1, 0, 0, 0), (.iconst 0, 1, 0, 0, 0), (.istore 4, 2, 0, 0, 0)] (by decide +kernel) (g := true) (lv' := [some (.ref l0), some (.int l1), some (.int v9), some (.int (-1 : Int32)), some (.int (0 : Int32))]) (st' := []) (D' := D9) (pc' := 33) rfl (rfl) rfl ?_
        exact ev_weak hX (ev_le_eq (ev_le_eq (ev_le_eq (ev_le_eq (ev_le_eq ev_le_nil))))) (tX12_findsHeld_33 hR hT hC  ih fu _ _ _ _ _ _ hl0 hf)
      · have hf := ev_nf h10 hf
        refine ev_blk hX lkok_RX12 [(.ldc_w 410, 3, 0, 0, 100000000)] (by decide +kernel) (g := true) (lv' := [some (.ref l0), some (.int l1), some (.int v9), none, none]) (st' := [.int (100000000 : Int32)]) (D' := D9) (pc' := 25) rfl (rfl) rfl ?_
        refine ev_goto hX (off := 4) 29 (by decide +kernel) (by decide) ?_
        refine ev_blk hX lkok_RX12 [(.istore_n 3, 1, 0, 0, 0), (.iconst 0, 1, 0, 0, 0), (.istore 4, 2, 0, 0, 0)] (by decide +kernel) (g := true) (lv' := [some (.ref l0), some (.int l1), some (.int v9), some (.int (100000000 : Int32)), some (.int (0 : Int32))]) (st' := []) (D' := D9) (pc' := 33) rfl (rfl) rfl ?_
        exact ev_weak hX (ev_le_eq (ev_le_eq (ev_le_eq (ev_le_eq (ev_le_eq ev_le_nil))))) (tX12_findsHeld_33 hR hT hC  ih fu _ _ _ _ _ _ hl0 hf)
set_option maxHeartbeats 4000000 in
set_option maxRecDepth 100000 in
theorem tX12_findsHeld {S : ev_S} {fu : Nat} {r : Int32 × ev_D} {F : ev_Fr} (hR : ev_R RX12 cX12_findsHeld 5 2 0 0 false none S r F) (hT : ev_Ty S) (hC : sC S ≤ 0 ∧ sA S ≤ 0) {l0 : Nat} {D : ev_D} (hl0 : sK S l0 = 15) (hf : fX12_findsHeld (sL S) (sE S) fu l0 D = some r) : F S D 0 [some (.ref l0), none, none, none, none] [] := by
  have hX := hR.X
  unfold fX12_findsHeld at hf
  refine ev_blk hX lkok_RX12 [(.sipush 255, 3, 0, 0, 255), (.istore_n 1, 1, 0, 0, 0)] (by decide +kernel) (g := true) (lv' := [some (.ref l0), some (.int (255 : Int32)), none, none, none]) (st' := []) (D' := D) (pc' := 4) rfl (rfl) rfl ?_
  exact ev_weak hX (ev_le_eq (ev_le_eq (ev_le_no (ev_le_no (ev_le_no ev_le_nil))))) (tX12_findsHeld_4 hR hT hC   fu _ _ _ hl0 hf)
theorem mX12_findsHeld {S : ev_S} {fu : Nat} {r : Int32 × ev_D} (hT : ev_Ty S) {l0 : Nat} {D : ev_D} (hl0 : sK S l0 = 15) (hf : fX12_findsHeld (sL S) (sE S) fu l0 D = some r) : ev_M 2 0 0 yX12_findsHeld cX12_findsHeld 5 none [.ref l0] S D S r :=
  ev_met (ini := false) (plainFor_of_name (by decide)) (fun h => by cases h) rfl (Nat.le_of_ble_eq_true rfl) (fun F hR => tX12_findsHeld (S := ev_z S) hR hT ⟨Nat.le_refl 0, Nat.le_refl 0⟩ hl0 hf)
set_option maxHeartbeats 4000000 in
set_option maxRecDepth 100000 in
theorem tX12_holds_77 {S : ev_S} {fu : Nat} {r : Int32 × ev_D} {F : ev_Fr} (hR : ev_R RX12 cX12_holds 5 3 0 0 false (some .int) S r F) (hT : ev_Ty S) (hC : sC S ≤ 0 ∧ sA S ≤ 0) {k66 : Nat → Int32 → Int32 → Int32 → Int32 → ev_D → ev_Op} (hk66 : ∀ (l0 : Nat) (l1 : Int32) (l2 : Int32) (l3 : Int32) (l4 : Int32) (D : ev_D), sK S l0 = 15 → k66 l0 l1 l2 l3 l4 D = some r → F S D 66 [some (.ref l0), some (.int l1), some (.int l2), some (.int l3), some (.int l4)] []) : ∀ (n : Nat) (l0 : Nat) (l1 : Int32) (l2 : Int32) (l3 : Int32) (l4 : Int32) (D : ev_D), sK S l0 = 15 → fX12_holds_77 (sL S) (sE S) fu k66 n l0 l1 l2 l3 l4 D = some r → F S D 77 [some (.ref l0), some (.int l1), some (.int l2), some (.int l3), some (.int l4)] [] := by
  have hX := hR.X
  intro n
  induction n with
  | zero =>
    intro l0 l1 l2 l3 l4 D hl0 hf
    rw [fX12_holds_77] at hf
    cases hf
  | succ n ih =>
    intro l0 l1 l2 l3 l4 D hl0 hf
    rw [fX12_holds_77] at hf
    refine ev_blk hX lkok_RX12 [(.aload_n 0, 1, 0, 0, 0), (.iload_n 2, 1, 0, 0, 0), (.iload_n 3, 1, 0, 0, 0)] (by decide +kernel) (g := true) (lv' := [some (.ref l0), some (.int l1), some (.int l2), some (.int l3), some (.int l4)]) (st' := [.int l3, .int l2, .ref l0]) (D' := D) (pc' := 80) rfl (rfl) rfl ?_
    obtain ⟨v1, D1, hc1, hf⟩ := ev_bd_s hf
    refine ev_callV hX YX12_has ml_RX12_390 (mX12_has hT hl0 hc1) (vs := [.int l2, .int l3]) (st := []) (by decide) 12 hl0 rfl rfl rfl (by decide +kernel) hC ?_
    show F S D1 83 [some (.ref l0), some (.int l1), some (.int l2), some (.int l3), some (.int l4)] [.int v1]
    refine ev_if_ne hX (off := 20) 103 (by decide +kernel) (by decide) (fun h2 => ?_) (fun h2 => ?_)
    · have hf := ev_nf h2 hf
      refine ev_blk hX lkok_RX12 [(.iload_n 3, 1, 0, 0, 0), (.iconst 1, 1, 0, 0, 1), (.iadd, 1, 0, 0, 0), (.istore_n 3, 1, 0, 0, 0)] (by decide +kernel) (g := true) (lv' := [some (.ref l0), some (.int l1), some (.int l2), some (.int (l3 + (1 : Int32))), some (.int l4)]) (st' := []) (D' := D1) (pc' := 107) rfl (rfl) rfl ?_
      refine ev_goto hX (off := (-30)) 77 (by decide +kernel) (by decide) ?_
      exact ev_weak hX (ev_le_eq (ev_le_eq (ev_le_eq (ev_le_eq (ev_le_eq ev_le_nil))))) (ih _ _ _ _ _ _ hl0 hf)
    · have hf := ev_it h2 hf
      refine ev_blk hX lkok_RX12 [(.aload_n 0, 1, 0, 0, 0), (.iload 4, 2, 0, 0, 0), (.iload_n 3, 1, 0, 0, 0), (.iload_n 2, 1, 0, 0, 0)] (by decide +kernel) (g := true) (lv' := [some (.ref l0), some (.int l1), some (.int l2), some (.int l3), some (.int l4)]) (st' := [.int l2, .int l3, .int l4, .ref l0]) (D' := D1) (pc' := 91) rfl (rfl) rfl ?_
      obtain ⟨v3, D3, hc3, hf⟩ := ev_bd_s hf
      refine ev_callV hX YX12_heldBy ml_RX12_420 (mX12_heldBy hT hl0 hc3) (vs := [.int l4, .int l3, .int l2]) (st := []) (by decide) 12 hl0 rfl rfl rfl (by decide +kernel) hC ?_
      show F S D3 94 [some (.ref l0), some (.int l1), some (.int l2), some (.int l3), some (.int l4)] [.int v3]
      obtain ⟨hg5, hf⟩ := ev_gd_s hf
      refine ev_blk hX lkok_RX12 [(.aload_n 0, 1, 0, 0, 0), (.getfield 101, 3, 12, 52, 0), (.iconst 0, 1, 0, 0, 0), (.iaload, 1, 0, 0, 0)] (by decide +kernel) (g := (sK S l0 == 15) && ((sK S ((sE S) l0 52) == 1 && ev_in (0 : Int32) ((sL S) ((sE S) l0 52))) && (true))) (lv' := [some (.ref l0), some (.int l1), some (.int l2), some (.int l3), some (.int l4)]) (st' := [.int (D3 ((sE S) l0 52) ((0 : Int32)).toNatClampNeg), .int v3]) (D' := D3) (pc' := 100) rfl (ev_gk hl0 (ev_gi (ev_tyk hT hl0 rfl rfl) hg5 (rfl))) rfl ?_
      refine ev_ic_ge hX (off := 10) 110 (by decide +kernel) (by decide) (fun h4 => ?_) (fun h4 => ?_)
      · have hf := ev_it h4 hf
        refine ev_blk hX lkok_RX12 [(.iload_n 2, 1, 0, 0, 0), (.iconst 1, 1, 0, 0, 1), (.iload_n 3, 1, 0, 0, 0), (.ishl, 1, 0, 0, 0), (.ior, 1, 0, 0, 0), (.istore_n 2, 1, 0, 0, 0), (.iinc 4 1, 3, 0, 0, 1)] (by decide +kernel) (g := true) (lv' := [some (.ref l0), some (.int l1), some (.int (l2 ||| ((1 : Int32) <<< (l3 &&& 31)))), some (.int l3), some (.int (l4 + (1 : Int32)))]) (st' := []) (D' := D3) (pc' := 119) rfl (rfl) rfl ?_
        refine ev_goto hX (off := (-53)) 66 (by decide +kernel) (by decide) ?_
        exact ev_weak hX (ev_le_eq (ev_le_eq (ev_le_eq (ev_le_eq (ev_le_eq ev_le_nil))))) (hk66 _ _ _ _ _ _ hl0 hf)
      · have hf := ev_nf h4 hf
        refine ev_blk hX lkok_RX12 [(.iload_n 3, 1, 0, 0, 0), (.iconst 1, 1, 0, 0, 1), (.iadd, 1, 0, 0, 0), (.istore_n 3, 1, 0, 0, 0)] (by decide +kernel) (g := true) (lv' := [some (.ref l0), some (.int l1), some (.int l2), some (.int (l3 + (1 : Int32))), some (.int l4)]) (st' := []) (D' := D3) (pc' := 107) rfl (rfl) rfl ?_
        refine ev_goto hX (off := (-30)) 77 (by decide +kernel) (by decide) ?_
        exact ev_weak hX (ev_le_eq (ev_le_eq (ev_le_eq (ev_le_eq (ev_le_eq ev_le_nil))))) (ih _ _ _ _ _ _ hl0 hf)
set_option maxHeartbeats 4000000 in
set_option maxRecDepth 100000 in
theorem tX12_holds_66 {S : ev_S} {fu : Nat} {r : Int32 × ev_D} {F : ev_Fr} (hR : ev_R RX12 cX12_holds 5 3 0 0 false (some .int) S r F) (hT : ev_Ty S) (hC : sC S ≤ 0 ∧ sA S ≤ 0) : ∀ (n : Nat) (l0 : Nat) (l1 : Int32) (l2 : Int32) (l3 : Int32) (l4 : Int32) (D : ev_D), sK S l0 = 15 → fX12_holds_66 (sL S) (sE S) fu n l0 l1 l2 l3 l4 D = some r → F S D 66 [some (.ref l0), some (.int l1), some (.int l2), some (.int l3), some (.int l4)] [] := by
  have hX := hR.X
  intro n
  induction n with
  | zero =>
    intro l0 l1 l2 l3 l4 D hl0 hf
    rw [fX12_holds_66] at hf
    cases hf
  | succ n ih =>
    intro l0 l1 l2 l3 l4 D hl0 hf
    rw [fX12_holds_66] at hf
    refine ev_blk hX lkok_RX12 [(.iload 4, 2, 0, 0, 0), (.iload_n 1, 1, 0, 0, 0), (.bipush 10, 2, 0, 0, 10), (.isub, 1, 0, 0, 0)] (by decide +kernel) (g := true) (lv' := [some (.ref l0), some (.int l1), some (.int l2), some (.int l3), some (.int l4)]) (st' := [.int (l1 - (10 : Int32)), .int l4]) (D' := D) (pc' := 72) rfl (rfl) rfl ?_
    refine ev_ic_gt hX (off := 50) 122 (by decide +kernel) (by decide) (fun h6 => ?_) (fun h6 => ?_)
    · have hf := ev_it h6 hf
      refine ev_blk hX lkok_RX12 [(.iload_n 3, 1, 0, 0, 0)] (by decide +kernel) (g := true) (lv' := [some (.ref l0), some (.int l1), some (.int l2), some (.int l3), some (.int l4)]) (st' := [.int l3]) (D' := D) (pc' := 123) rfl (rfl) rfl ?_
      exact ev_iret hR ev_sm.rf (Option.some.inj hf) hC (by decide +kernel)
    · have hf := ev_nf h6 hf
      refine ev_blk hX lkok_RX12 [(.iconst 0, 1, 0, 0, 0), (.istore_n 3, 1, 0, 0, 0)] (by decide +kernel) (g := true) (lv' := [some (.ref l0), some (.int l1), some (.int l2), some (.int (0 : Int32)), some (.int l4)]) (st' := []) (D' := D) (pc' := 77) rfl (rfl) rfl ?_
      exact ev_weak hX (ev_le_eq (ev_le_eq (ev_le_eq (ev_le_eq (ev_le_eq ev_le_nil))))) (tX12_holds_77 hR hT hC  ih fu _ _ _ _ _ _ hl0 hf)
set_option maxHeartbeats 4000000 in
set_option maxRecDepth 100000 in
theorem tX12_holds_44 {S : ev_S} {fu : Nat} {r : Int32 × ev_D} {F : ev_Fr} (hR : ev_R RX12 cX12_holds 5 3 0 0 false (some .int) S r F) (hT : ev_Ty S) (hC : sC S ≤ 0 ∧ sA S ≤ 0) {l0 : Nat} {l1 : Int32} {D : ev_D} (hl0 : sK S l0 = 15) (hf : fX12_holds_44 (sL S) (sE S) fu l0 l1 D = some r) : F S D 44 [some (.ref l0), some (.int l1), none, none, none] [] := by
  have hX := hR.X
  unfold fX12_holds_44 at hf
  refine ev_blk hX lkok_RX12 [(.aload_n 0, 1, 0, 0, 0)] (by decide +kernel) (g := true) (lv' := [some (.ref l0), some (.int l1), none, none, none]) (st' := [.ref l0]) (D' := D) (pc' := 45) rfl (rfl) rfl ?_
  obtain ⟨v7, D7, hc7, hf⟩ := ev_bd_s hf
  refine ev_callV hX YX12_findsHeld ml_RX12_423 (mX12_findsHeld hT hl0 hc7) (vs := []) (st := []) (by decide) 12 hl0 rfl rfl rfl (by decide +kernel) hC ?_
  show F S D7 48 [some (.ref l0), some (.int l1), none, none, none] []
  refine ev_blk hX lkok_RX12 [(.iload_n 1, 1, 0, 0, 0)] (by decide +kernel) (g := true) (lv' := [some (.ref l0), some (.int l1), none, none, none]) (st' := [.int l1]) (D' := D7) (pc' := 49) rfl (rfl) rfl ?_
  refine ev_if_ne hX (off := 10) 59 (by decide +kernel) (by decide) (fun h8 => ?_) (fun h8 => ?_)
  · have hf := ev_nf h8 hf
    refine ev_blk hX lkok_RX12 [(.iconst 0, 1, 0, 0, 0), (.istore_n 2, 1, 0, 0, 0), (.iconst (-1), 1, 0, 0, (-1)), (.istore_n 3, 1, 0, 0, 0), (.iconst 0, 1, 0, 0, 0), (.istore 4, 2, 0, 0, 0)] (by decide +kernel) (g := true) (lv' := [some (.ref l0), some (.int l1), some (.int (0 : Int32)), some (.int (-1 : Int32)), some (.int (0 : Int32))]) (st' := []) (D' := D7) (pc' := 66) rfl (rfl) rfl ?_
    exact ev_weak hX (ev_le_eq (ev_le_eq (ev_le_eq (ev_le_eq (ev_le_eq ev_le_nil))))) (tX12_holds_66 hR hT hC   fu _ _ _ _ _ _ hl0 hf)
  · have hf := ev_it h8 hf
    obtain ⟨hg9, hf⟩ := ev_gd_s hf
    refine ev_blk hX lkok_RX12 [(.aload_n 0, 1, 0, 0, 0), (.getfield 101, 3, 12, 52, 0), (.iconst 0, 1, 0, 0, 0), (.iaload, 1, 0, 0, 0)] (by decide +kernel) (g := (sK S l0 == 15) && ((sK S ((sE S) l0 52) == 1 && ev_in (0 : Int32) ((sL S) ((sE S) l0 52))) && (true))) (lv' := [some (.ref l0), some (.int l1), none, none, none]) (st' := [.int (D7 ((sE S) l0 52) ((0 : Int32)).toNatClampNeg)]) (D' := D7) (pc' := 58) rfl (ev_gk hl0 (ev_gi (ev_tyk hT hl0 rfl rfl) hg9 (rfl))) rfl ?_
    exact ev_iret hR ev_sm.rf (Option.some.inj hf) hC (by decide +kernel)
set_option maxHeartbeats 4000000 in
set_option maxRecDepth 100000 in
theorem tX12_holds {S : ev_S} {fu : Nat} {r : Int32 × ev_D} {F : ev_Fr} (hR : ev_R RX12 cX12_holds 5 3 0 0 false (some .int) S r F) (hT : ev_Ty S) (hC : sC S ≤ 0 ∧ sA S ≤ 0) {l0 : Nat} {l1 : Int32} {D : ev_D} (hl0 : sK S l0 = 15) (hf : fX12_holds (sL S) (sE S) fu l0 l1 D = some r) : F S D 0 [some (.ref l0), some (.int l1), none, none, none] [] := by
  have hX := hR.X
  unfold fX12_holds at hf
  refine ev_blk hX lkok_RX12 [(.aload_n 0, 1, 0, 0, 0), (.iconst 0, 1, 0, 0, 0), (.putfield 128, 3, 12, 0, 0), (.aload_n 0, 1, 0, 0, 0), (.getfield 140, 3, 12, 7, 0)] (by decide +kernel) (g := (sK S l0 == 15) && ((sK S l0 == 15) && (true))) (lv' := [some (.ref l0), some (.int l1), none, none, none]) (st' := [.int ((ev_up D l0 0 (0 : Int32)) l0 7)]) (D' := (ev_up D l0 0 (0 : Int32))) (pc' := 9) rfl (ev_gk hl0 (ev_gk hl0 (rfl))) rfl ?_
  refine ev_if_eq hX (off := 33) 42 (by decide +kernel) (by decide) (fun h10 => ?_) (fun h10 => ?_)
  · have hf := ev_it h10 hf
    refine ev_blk hX lkok_RX12 [(.iconst (-1), 1, 0, 0, (-1))] (by decide +kernel) (g := true) (lv' := [some (.ref l0), some (.int l1), none, none, none]) (st' := [.int (-1 : Int32)]) (D' := (ev_up D l0 0 (0 : Int32))) (pc' := 43) rfl (rfl) rfl ?_
    exact ev_iret hR ev_sm.rf (Option.some.inj hf) hC (by decide +kernel)
  · have hf := ev_nf h10 hf
    refine ev_blk hX lkok_RX12 [(.aload_n 0, 1, 0, 0, 0), (.getfield 140, 3, 12, 7, 0), (.bipush 8, 2, 0, 0, 8)] (by decide +kernel) (g := (sK S l0 == 15) && (true)) (lv' := [some (.ref l0), some (.int l1), none, none, none]) (st' := [.int (8 : Int32), .int ((ev_up D l0 0 (0 : Int32)) l0 7)]) (D' := (ev_up D l0 0 (0 : Int32))) (pc' := 18) rfl (ev_gk hl0 (rfl)) rfl ?_
    refine ev_ic_gt hX (off := 24) 42 (by decide +kernel) (by decide) (fun h11 => ?_) (fun h11 => ?_)
    · have hf := ev_it h11 hf
      refine ev_blk hX lkok_RX12 [(.iconst (-1), 1, 0, 0, (-1))] (by decide +kernel) (g := true) (lv' := [some (.ref l0), some (.int l1), none, none, none]) (st' := [.int (-1 : Int32)]) (D' := (ev_up D l0 0 (0 : Int32))) (pc' := 43) rfl (rfl) rfl ?_
      exact ev_iret hR ev_sm.rf (Option.some.inj hf) hC (by decide +kernel)
    · have hf := ev_nf h11 hf
      refine ev_blk hX lkok_RX12 [(.iload_n 1, 1, 0, 0, 0)] (by decide +kernel) (g := true) (lv' := [some (.ref l0), some (.int l1), none, none, none]) (st' := [.int l1]) (D' := (ev_up D l0 0 (0 : Int32))) (pc' := 22) rfl (rfl) rfl ?_
      refine ev_if_eq hX (off := 22) 44 (by decide +kernel) (by decide) (fun h12 => ?_) (fun h12 => ?_)
      · have hf := ev_it h12 hf
        exact ev_weak hX (ev_le_eq (ev_le_eq (ev_le_no (ev_le_no (ev_le_no ev_le_nil))))) (tX12_holds_44 hR hT hC   hl0 hf)
      · have hf := ev_nf h12 hf
        refine ev_blk hX lkok_RX12 [(.aload_n 0, 1, 0, 0, 0), (.iload_n 1, 1, 0, 0, 0), (.bipush 10, 2, 0, 0, 10), (.bipush 9, 2, 0, 0, 9), (.aload_n 0, 1, 0, 0, 0), (.getfield 140, 3, 12, 7, 0), (.iadd, 1, 0, 0, 0)] (by decide +kernel) (g := (sK S l0 == 15) && (true)) (lv' := [some (.ref l0), some (.int l1), none, none, none]) (st' := [.int ((9 : Int32) + ((ev_up D l0 0 (0 : Int32)) l0 7)), .int (10 : Int32), .int l1, .ref l0]) (D' := (ev_up D l0 0 (0 : Int32))) (pc' := 36) rfl (ev_gk hl0 (rfl)) rfl ?_
        obtain ⟨v13, D13, hc13, hf⟩ := ev_bd_s hf
        refine ev_callV hX YX12_isIn ml_RX12_150 (mX12_isIn hT hl0 hc13) (vs := [.int l1, .int (10 : Int32), .int ((9 : Int32) + ((ev_up D l0 0 (0 : Int32)) l0 7))]) (st := []) (by decide) 12 hl0 rfl rfl rfl (by decide +kernel) hC ?_
        show F S D13 39 [some (.ref l0), some (.int l1), none, none, none] [.int v13]
        refine ev_if_ne hX (off := 5) 44 (by decide +kernel) (by decide) (fun h14 => ?_) (fun h14 => ?_)
        · have hf := ev_nf h14 hf
          exact ev_weak hX (ev_le_eq (ev_le_eq (ev_le_no (ev_le_no (ev_le_no ev_le_nil))))) (tX12_holds_44 hR hT hC   hl0 hf)
        · have hf := ev_it h14 hf
          refine ev_blk hX lkok_RX12 [(.iconst (-1), 1, 0, 0, (-1))] (by decide +kernel) (g := true) (lv' := [some (.ref l0), some (.int l1), none, none, none]) (st' := [.int (-1 : Int32)]) (D' := D13) (pc' := 43) rfl (rfl) rfl ?_
          exact ev_iret hR ev_sm.rf (Option.some.inj hf) hC (by decide +kernel)
theorem mX12_holds {S : ev_S} {fu : Nat} {r : Int32 × ev_D} (hT : ev_Ty S) {l0 : Nat} {l1 : Int32} {D : ev_D} (hl0 : sK S l0 = 15) (hf : fX12_holds (sL S) (sE S) fu l0 l1 D = some r) : ev_M 3 0 0 yX12_holds cX12_holds 5 (some .int) [.ref l0, .int l1] S D S r :=
  ev_met (ini := false) (plainFor_of_name (by decide)) (fun h => by cases h) rfl (Nat.le_of_ble_eq_true rfl) (fun F hR => tX12_holds (S := ev_z S) hR hT ⟨Nat.le_refl 0, Nat.le_refl 0⟩ hl0 hf)
set_option maxHeartbeats 4000000 in
set_option maxRecDepth 100000 in
theorem tX12_see_102 {S : ev_S} {fu : Nat} {r : Int32 × ev_D} {F : ev_Fr} (hR : ev_R RX12 cX12_see 4 1 0 0 false (some .int) S r F) (hT : ev_Ty S) (hC : sC S ≤ 0 ∧ sA S ≤ 0) {l0 : Nat} {D : ev_D} (hl0 : sK S l0 = 15) (hf : fX12_see_102 (sL S) (sE S) fu l0 D = some r) : F S D 102 [some (.ref l0), none, none, none] [] := by
  have hX := hR.X
  unfold fX12_see_102 at hf
  refine ev_blk hX lkok_RX12 [(.aload_n 0, 1, 0, 0, 0), (.getfield 426, 3, 12, 53, 0)] (by decide +kernel) (g := (sK S l0 == 15) && (true)) (lv' := [some (.ref l0), none, none, none]) (st' := [.int (D l0 53)]) (D' := D) (pc' := 106) rfl (ev_gk hl0 (rfl)) rfl ?_
  exact ev_iret hR ev_sm.rf (Option.some.inj hf) hC (by decide +kernel)
set_option maxHeartbeats 4000000 in
set_option maxRecDepth 100000 in
theorem tX12_see_17 {S : ev_S} {fu : Nat} {r : Int32 × ev_D} {F : ev_Fr} (hR : ev_R RX12 cX12_see 4 1 0 0 false (some .int) S r F) (hT : ev_Ty S) (hC : sC S ≤ 0 ∧ sA S ≤ 0) : ∀ (n : Nat) (l0 : Nat) (l3 : Int32) (D : ev_D), sK S l0 = 15 → fX12_see_17 (sL S) (sE S) fu n l0 l3 D = some r → F S D 17 [some (.ref l0), none, none, some (.int l3)] [] := by
  have hX := hR.X
  intro n
  induction n with
  | zero =>
    intro l0 l3 D hl0 hf
    rw [fX12_see_17] at hf
    cases hf
  | succ n ih =>
    intro l0 l3 D hl0 hf
    rw [fX12_see_17] at hf
    refine ev_blk hX lkok_RX12 [(.iload_n 3, 1, 0, 0, 0), (.bipush 12, 2, 0, 0, 12)] (by decide +kernel) (g := true) (lv' := [some (.ref l0), none, none, some (.int l3)]) (st' := [.int (12 : Int32), .int l3]) (D' := D) (pc' := 20) rfl (rfl) rfl ?_
    refine ev_ic_ge hX (off := 16) 36 (by decide +kernel) (by decide) (fun h1 => ?_) (fun h1 => ?_)
    · have hf := ev_it h1 hf
      refine ev_blk hX lkok_RX12 [(.iconst 0, 1, 0, 0, 0)] (by decide +kernel) (g := true) (lv' := [some (.ref l0), none, none, some (.int l3)]) (st' := [.int (0 : Int32)]) (D' := D) (pc' := 37) rfl (rfl) rfl ?_
      exact ev_iret hR ev_sm.rf (Option.some.inj hf) hC (by decide +kernel)
    · have hf := ev_nf h1 hf
      obtain ⟨hg2, hf⟩ := ev_gd_s hf
      refine ev_blk hX lkok_RX12 [(.aload_n 0, 1, 0, 0, 0), (.getfield 104, 3, 12, 54, 0), (.iload_n 3, 1, 0, 0, 0), (.iconst 0, 1, 0, 0, 0), (.iastore, 1, 0, 0, 0), (.iinc 3 1, 3, 0, 0, 1)] (by decide +kernel) (g := (sK S l0 == 15) && ((sK S ((sE S) l0 54) == 1 && ev_in l3 ((sL S) ((sE S) l0 54))) && (true))) (lv' := [some (.ref l0), none, none, some (.int (l3 + (1 : Int32)))]) (st' := []) (D' := (ev_up D ((sE S) l0 54) (l3).toNatClampNeg (0 : Int32))) (pc' := 33) rfl (ev_gk hl0 (ev_gi (ev_tyk hT hl0 rfl rfl) hg2 (rfl))) rfl ?_
      refine ev_goto hX (off := (-16)) 17 (by decide +kernel) (by decide) ?_
      exact ev_weak hX (ev_le_eq (ev_le_no (ev_le_no (ev_le_eq ev_le_nil)))) (ih _ _ _ hl0 hf)
set_option maxHeartbeats 4000000 in
set_option maxRecDepth 100000 in
theorem tX12_see {S : ev_S} {fu : Nat} {r : Int32 × ev_D} {F : ev_Fr} (hR : ev_R RX12 cX12_see 4 1 0 0 false (some .int) S r F) (hT : ev_Ty S) (hC : sC S ≤ 0 ∧ sA S ≤ 0) {l0 : Nat} {l1 : Int32} {l2 : Int32} {D : ev_D} (hl0 : sK S l0 = 15) (hf : fX12_see (sL S) (sE S) fu l0 l1 l2 D = some r) : F S D 0 [some (.ref l0), some (.int l1), some (.int l2), none] [] := by
  have hX := hR.X
  unfold fX12_see at hf
  refine ev_blk hX lkok_RX12 [(.aload_n 0, 1, 0, 0, 0), (.iconst 0, 1, 0, 0, 0), (.putfield 128, 3, 12, 0, 0), (.iload_n 1, 1, 0, 0, 0), (.iconst (-1), 1, 0, 0, (-1))] (by decide +kernel) (g := (sK S l0 == 15) && (true)) (lv' := [some (.ref l0), some (.int l1), some (.int l2), none]) (st' := [.int (-1 : Int32), .int l1]) (D' := (ev_up D l0 0 (0 : Int32))) (pc' := 7) rfl (ev_gk hl0 (rfl)) rfl ?_
  refine ev_ic_ne hX (off := 31) 38 (by decide +kernel) (by decide) (fun h3 => ?_) (fun h3 => ?_)
  · have hf := ev_nf h3 hf
    refine ev_blk hX lkok_RX12 [(.aload_n 0, 1, 0, 0, 0), (.iload_n 1, 1, 0, 0, 0), (.iconst 0, 1, 0, 0, 0), (.bipush 11, 2, 0, 0, 11)] (by decide +kernel) (g := true) (lv' := [some (.ref l0), some (.int l1), some (.int l2), none]) (st' := [.int (11 : Int32), .int (0 : Int32), .int l1, .ref l0]) (D' := (ev_up D l0 0 (0 : Int32))) (pc' := 43) rfl (rfl) rfl ?_
    obtain ⟨v4, D4, hc4, hf⟩ := ev_bd_s hf
    refine ev_callV hX YX12_isIn ml_RX12_150 (mX12_isIn hT hl0 hc4) (vs := [.int l1, .int (0 : Int32), .int (11 : Int32)]) (st := []) (by decide) 12 hl0 rfl rfl rfl (by decide +kernel) hC ?_
    show F S D4 46 [some (.ref l0), some (.int l1), some (.int l2), none] [.int v4]
    refine ev_if_eq hX (off := 28) 74 (by decide +kernel) (by decide) (fun h5 => ?_) (fun h5 => ?_)
    · have hf := ev_it h5 hf
      refine ev_blk hX lkok_RX12 [(.iconst (-1), 1, 0, 0, (-1))] (by decide +kernel) (g := true) (lv' := [some (.ref l0), some (.int l1), some (.int l2), none]) (st' := [.int (-1 : Int32)]) (D' := D4) (pc' := 75) rfl (rfl) rfl ?_
      exact ev_iret hR ev_sm.rf (Option.some.inj hf) hC (by decide +kernel)
    · have hf := ev_nf h5 hf
      refine ev_blk hX lkok_RX12 [(.aload_n 0, 1, 0, 0, 0), (.iload_n 2, 1, 0, 0, 0), (.iconst 0, 1, 0, 0, 0), (.bipush 11, 2, 0, 0, 11)] (by decide +kernel) (g := true) (lv' := [some (.ref l0), some (.int l1), some (.int l2), none]) (st' := [.int (11 : Int32), .int (0 : Int32), .int l2, .ref l0]) (D' := D4) (pc' := 54) rfl (rfl) rfl ?_
      obtain ⟨v6, D6, hc6, hf⟩ := ev_bd_s hf
      refine ev_callV hX YX12_isIn ml_RX12_150 (mX12_isIn hT hl0 hc6) (vs := [.int l2, .int (0 : Int32), .int (11 : Int32)]) (st := []) (by decide) 12 hl0 rfl rfl rfl (by decide +kernel) hC ?_
      show F S D6 57 [some (.ref l0), some (.int l1), some (.int l2), none] [.int v6]
      refine ev_if_eq hX (off := 17) 74 (by decide +kernel) (by decide) (fun h7 => ?_) (fun h7 => ?_)
      · have hf := ev_it h7 hf
        refine ev_blk hX lkok_RX12 [(.iconst (-1), 1, 0, 0, (-1))] (by decide +kernel) (g := true) (lv' := [some (.ref l0), some (.int l1), some (.int l2), none]) (st' := [.int (-1 : Int32)]) (D' := D6) (pc' := 75) rfl (rfl) rfl ?_
        exact ev_iret hR ev_sm.rf (Option.some.inj hf) hC (by decide +kernel)
      · have hf := ev_nf h7 hf
        refine ev_blk hX lkok_RX12 [(.iload_n 1, 1, 0, 0, 0), (.iload_n 2, 1, 0, 0, 0)] (by decide +kernel) (g := true) (lv' := [some (.ref l0), some (.int l1), some (.int l2), none]) (st' := [.int l2, .int l1]) (D' := D6) (pc' := 62) rfl (rfl) rfl ?_
        refine ev_ic_eq hX (off := 12) 74 (by decide +kernel) (by decide) (fun h8 => ?_) (fun h8 => ?_)
        · have hf := ev_it h8 hf
          refine ev_blk hX lkok_RX12 [(.iconst (-1), 1, 0, 0, (-1))] (by decide +kernel) (g := true) (lv' := [some (.ref l0), some (.int l1), some (.int l2), none]) (st' := [.int (-1 : Int32)]) (D' := D6) (pc' := 75) rfl (rfl) rfl ?_
          exact ev_iret hR ev_sm.rf (Option.some.inj hf) hC (by decide +kernel)
        · have hf := ev_nf h8 hf
          refine ev_blk hX lkok_RX12 [(.aload_n 0, 1, 0, 0, 0), (.getfield 426, 3, 12, 53, 0), (.bipush 16, 2, 0, 0, 16)] (by decide +kernel) (g := (sK S l0 == 15) && (true)) (lv' := [some (.ref l0), some (.int l1), some (.int l2), none]) (st' := [.int (16 : Int32), .int (D6 l0 53)]) (D' := D6) (pc' := 71) rfl (ev_gk hl0 (rfl)) rfl ?_
          refine ev_ic_ne hX (off := 5) 76 (by decide +kernel) (by decide) (fun h9 => ?_) (fun h9 => ?_)
          · have hf := ev_nf h9 hf
            obtain ⟨hg10, hf⟩ := ev_gd_s hf
            obtain ⟨hg11, hf⟩ := ev_gd_s hf
            refine ev_blk hX lkok_RX12 [(.aload_n 0, 1, 0, 0, 0), (.getfield 104, 3, 12, 54, 0), (.iload_n 1, 1, 0, 0, 0), (.aload_n 0, 1, 0, 0, 0), (.getfield 104, 3, 12, 54, 0), (.iload_n 1, 1, 0, 0, 0), (.iaload, 1, 0, 0, 0), (.iconst 1, 1, 0, 0, 1), (.iload_n 2, 1, 0, 0, 0), (.ishl, 1, 0, 0, 0), (.ior, 1, 0, 0, 0), (.iastore, 1, 0, 0, 0), (.aload_n 0, 1, 0, 0, 0), (.aload_n 0, 1, 0, 0, 0), (.getfield 426, 3, 12, 53, 0), (.iconst 1, 1, 0, 0, 1), (.iadd, 1, 0, 0, 0), (.putfield 426, 3, 12, 53, 0)] (by decide +kernel) (g := (sK S l0 == 15) && ((sK S l0 == 15) && ((sK S ((sE S) l0 54) == 1 && ev_in l1 ((sL S) ((sE S) l0 54))) && ((sK S ((sE S) l0 54) == 1 && ev_in l1 ((sL S) ((sE S) l0 54))) && ((sK S l0 == 15) && ((sK S l0 == 15) && (true))))))) (lv' := [some (.ref l0), some (.int l1), some (.int l2), none]) (st' := []) (D' := (ev_up (ev_up D6 ((sE S) l0 54) (l1).toNatClampNeg ((D6 ((sE S) l0 54) (l1).toNatClampNeg) ||| ((1 : Int32) <<< (l2 &&& 31)))) l0 53 (((ev_up D6 ((sE S) l0 54) (l1).toNatClampNeg ((D6 ((sE S) l0 54) (l1).toNatClampNeg) ||| ((1 : Int32) <<< (l2 &&& 31)))) l0 53) + (1 : Int32)))) (pc' := 102) rfl (ev_gk hl0 (ev_gk hl0 (ev_gi (ev_tyk hT hl0 rfl rfl) hg10 (ev_gi (ev_tyk hT hl0 rfl rfl) hg11 (ev_gk hl0 (ev_gk hl0 (rfl))))))) rfl ?_
            exact ev_weak hX (ev_le_eq (ev_le_no (ev_le_no (ev_le_no ev_le_nil)))) (tX12_see_102 hR hT hC   hl0 hf)
          · have hf := ev_it h9 hf
            refine ev_blk hX lkok_RX12 [(.iconst (-1), 1, 0, 0, (-1))] (by decide +kernel) (g := true) (lv' := [some (.ref l0), some (.int l1), some (.int l2), none]) (st' := [.int (-1 : Int32)]) (D' := D6) (pc' := 75) rfl (rfl) rfl ?_
            exact ev_iret hR ev_sm.rf (Option.some.inj hf) hC (by decide +kernel)
  · have hf := ev_it h3 hf
    refine ev_blk hX lkok_RX12 [(.aload_n 0, 1, 0, 0, 0), (.iconst 0, 1, 0, 0, 0), (.putfield 426, 3, 12, 53, 0), (.iconst 0, 1, 0, 0, 0), (.istore_n 3, 1, 0, 0, 0)] (by decide +kernel) (g := (sK S l0 == 15) && (true)) (lv' := [some (.ref l0), some (.int l1), some (.int l2), some (.int (0 : Int32))]) (st' := []) (D' := (ev_up (ev_up D l0 0 (0 : Int32)) l0 53 (0 : Int32))) (pc' := 17) rfl (ev_gk hl0 (rfl)) rfl ?_
    exact ev_weak hX (ev_le_eq (ev_le_no (ev_le_no (ev_le_eq ev_le_nil)))) (tX12_see_17 hR hT hC   fu _ _ _ hl0 hf)
theorem mX12_see {S : ev_S} {fu : Nat} {r : Int32 × ev_D} (hT : ev_Ty S) {l0 : Nat} {l1 : Int32} {l2 : Int32} {D : ev_D} (hl0 : sK S l0 = 15) (hf : fX12_see (sL S) (sE S) fu l0 l1 l2 D = some r) : ev_M 1 0 0 yX12_see cX12_see 4 (some .int) [.ref l0, .int l1, .int l2] S D S r :=
  ev_met (ini := false) (plainFor_of_name (by decide)) (fun h => by cases h) rfl (Nat.le_of_ble_eq_true rfl) (fun F hR => tX12_see (S := ev_z S) hR hT ⟨Nat.le_refl 0, Nat.le_refl 0⟩ hl0 hf)
set_option maxHeartbeats 4000000 in
set_option maxRecDepth 100000 in
theorem tX12_looksOn_84 {S : ev_S} {fu : Nat} {r : Int32 × ev_D} {F : ev_Fr} (hR : ev_R RX12 cX12_looksOn 3 1 0 0 false none S r F) (hT : ev_Ty S) (hC : sC S ≤ 0 ∧ sA S ≤ 0) : ∀ (n : Nat) (l0 : Nat) (l1 : Int32) (D : ev_D), sK S l0 = 15 → fX12_looksOn_84 (sL S) (sE S) fu n l0 l1 D = some r → F S D 84 [some (.ref l0), some (.int l1), none] [] := by
  have hX := hR.X
  intro n
  induction n with
  | zero =>
    intro l0 l1 D hl0 hf
    rw [fX12_looksOn_84] at hf
    cases hf
  | succ n ih =>
    intro l0 l1 D hl0 hf
    rw [fX12_looksOn_84] at hf
    refine ev_blk hX lkok_RX12 [(.iload_n 1, 1, 0, 0, 0), (.bipush 12, 2, 0, 0, 12)] (by decide +kernel) (g := true) (lv' := [some (.ref l0), some (.int l1), none]) (st' := [.int (12 : Int32), .int l1]) (D' := D) (pc' := 87) rfl (rfl) rfl ?_
    refine ev_ic_ge hX (off := 21) 108 (by decide +kernel) (by decide) (fun h1 => ?_) (fun h1 => ?_)
    · have hf := ev_it h1 hf
      exact ev_vret hR ev_sm.rf (Option.some.inj hf) hC (by decide +kernel)
    · have hf := ev_nf h1 hf
      obtain ⟨hg2, hf⟩ := ev_gd_s hf
      obtain ⟨hg3, hf⟩ := ev_gd_s hf
      refine ev_blk hX lkok_RX12 [(.aload_n 0, 1, 0, 0, 0), (.getfield 107, 3, 12, 55, 0), (.iload_n 1, 1, 0, 0, 0), (.aload_n 0, 1, 0, 0, 0), (.getfield 110, 3, 12, 56, 0), (.iload_n 1, 1, 0, 0, 0), (.iaload, 1, 0, 0, 0), (.iastore, 1, 0, 0, 0), (.iinc 1 1, 3, 0, 0, 1)] (by decide +kernel) (g := (sK S l0 == 15) && ((sK S l0 == 15) && ((sK S ((sE S) l0 56) == 1 && ev_in l1 ((sL S) ((sE S) l0 56))) && ((sK S ((sE S) l0 55) == 1 && ev_in l1 ((sL S) ((sE S) l0 55))) && (true))))) (lv' := [some (.ref l0), some (.int (l1 + (1 : Int32))), none]) (st' := []) (D' := (ev_up D ((sE S) l0 55) (l1).toNatClampNeg (D ((sE S) l0 56) (l1).toNatClampNeg))) (pc' := 105) rfl (ev_gk hl0 (ev_gk hl0 (ev_gi (ev_tyk hT hl0 rfl rfl) hg2 (ev_gi (ev_tyk hT hl0 rfl rfl) hg3 (rfl))))) rfl ?_
      refine ev_goto hX (off := (-21)) 84 (by decide +kernel) (by decide) ?_
      exact ev_weak hX (ev_le_eq (ev_le_eq (ev_le_no ev_le_nil))) (ih _ _ _ hl0 hf)
set_option maxHeartbeats 4000000 in
set_option maxRecDepth 100000 in
theorem tX12_looksOn_31 {S : ev_S} {fu : Nat} {r : Int32 × ev_D} {F : ev_Fr} (hR : ev_R RX12 cX12_looksOn 3 1 0 0 false none S r F) (hT : ev_Ty S) (hC : sC S ≤ 0 ∧ sA S ≤ 0) {k23 : Nat → Int32 → ev_D → ev_Op} (hk23 : ∀ (l0 : Nat) (l1 : Int32) (D : ev_D), sK S l0 = 15 → k23 l0 l1 D = some r → F S D 23 [some (.ref l0), some (.int l1), none] []) : ∀ (n : Nat) (l0 : Nat) (l1 : Int32) (l2 : Int32) (D : ev_D), sK S l0 = 15 → fX12_looksOn_31 (sL S) (sE S) fu k23 n l0 l1 l2 D = some r → F S D 31 [some (.ref l0), some (.int l1), some (.int l2)] [] := by
  have hX := hR.X
  intro n
  induction n with
  | zero =>
    intro l0 l1 l2 D hl0 hf
    rw [fX12_looksOn_31] at hf
    cases hf
  | succ n ih =>
    intro l0 l1 l2 D hl0 hf
    rw [fX12_looksOn_31] at hf
    refine ev_blk hX lkok_RX12 [(.iload_n 2, 1, 0, 0, 0), (.bipush 12, 2, 0, 0, 12)] (by decide +kernel) (g := true) (lv' := [some (.ref l0), some (.int l1), some (.int l2)]) (st' := [.int (12 : Int32), .int l2]) (D' := D) (pc' := 34) rfl (rfl) rfl ?_
    refine ev_ic_ge hX (off := 42) 76 (by decide +kernel) (by decide) (fun h4 => ?_) (fun h4 => ?_)
    · have hf := ev_it h4 hf
      refine ev_blk hX lkok_RX12 [(.iinc 1 1, 3, 0, 0, 1)] (by decide +kernel) (g := true) (lv' := [some (.ref l0), some (.int (l1 + (1 : Int32))), some (.int l2)]) (st' := []) (D' := D) (pc' := 79) rfl (rfl) rfl ?_
      refine ev_goto hX (off := (-56)) 23 (by decide +kernel) (by decide) ?_
      exact ev_weak hX (ev_le_eq (ev_le_eq (ev_le_no ev_le_nil))) (hk23 _ _ _ hl0 hf)
    · have hf := ev_nf h4 hf
      obtain ⟨hg10, hf⟩ := ev_gd_s hf
      refine ev_blk hX lkok_RX12 [(.aload_n 0, 1, 0, 0, 0), (.aload_n 0, 1, 0, 0, 0), (.getfield 104, 3, 12, 54, 0), (.iload_n 1, 1, 0, 0, 0), (.iaload, 1, 0, 0, 0), (.iload_n 2, 1, 0, 0, 0)] (by decide +kernel) (g := (sK S l0 == 15) && ((sK S ((sE S) l0 54) == 1 && ev_in l1 ((sL S) ((sE S) l0 54))) && (true))) (lv' := [some (.ref l0), some (.int l1), some (.int l2)]) (st' := [.int l2, .int (D ((sE S) l0 54) (l1).toNatClampNeg), .ref l0]) (D' := D) (pc' := 45) rfl (ev_gk hl0 (ev_gi (ev_tyk hT hl0 rfl rfl) hg10 (rfl))) rfl ?_
      obtain ⟨v5, D5, hc5, hf⟩ := ev_bd_s hf
      refine ev_callV hX YX12_has ml_RX12_390 (mX12_has hT hl0 hc5) (vs := [.int (D ((sE S) l0 54) (l1).toNatClampNeg), .int l2]) (st := []) (by decide) 12 hl0 rfl rfl rfl (by decide +kernel) hC ?_
      show F S D5 48 [some (.ref l0), some (.int l1), some (.int l2)] [.int v5]
      refine ev_if_eq hX (off := 22) 70 (by decide +kernel) (by decide) (fun h6 => ?_) (fun h6 => ?_)
      · have hf := ev_it h6 hf
        refine ev_blk hX lkok_RX12 [(.iinc 2 1, 3, 0, 0, 1)] (by decide +kernel) (g := true) (lv' := [some (.ref l0), some (.int l1), some (.int (l2 + (1 : Int32)))]) (st' := []) (D' := D5) (pc' := 73) rfl (rfl) rfl ?_
        refine ev_goto hX (off := (-42)) 31 (by decide +kernel) (by decide) ?_
        exact ev_weak hX (ev_le_eq (ev_le_eq (ev_le_eq ev_le_nil))) (ih _ _ _ _ hl0 hf)
      · have hf := ev_nf h6 hf
        obtain ⟨hg7, hf⟩ := ev_gd_s hf
        obtain ⟨hg8, hf⟩ := ev_gd_s hf
        obtain ⟨hg9, hf⟩ := ev_gd_s hf
        refine ev_blk hX lkok_RX12 [(.aload_n 0, 1, 0, 0, 0), (.getfield 110, 3, 12, 56, 0), (.iload_n 2, 1, 0, 0, 0), (.aload_n 0, 1, 0, 0, 0), (.getfield 110, 3, 12, 56, 0), (.iload_n 2, 1, 0, 0, 0), (.iaload, 1, 0, 0, 0), (.aload_n 0, 1, 0, 0, 0), (.getfield 107, 3, 12, 55, 0), (.iload_n 1, 1, 0, 0, 0), (.iaload, 1, 0, 0, 0), (.iadd, 1, 0, 0, 0), (.iastore, 1, 0, 0, 0), (.iinc 2 1, 3, 0, 0, 1)] (by decide +kernel) (g := (sK S l0 == 15) && ((sK S l0 == 15) && ((sK S ((sE S) l0 56) == 1 && ev_in l2 ((sL S) ((sE S) l0 56))) && ((sK S l0 == 15) && ((sK S ((sE S) l0 55) == 1 && ev_in l1 ((sL S) ((sE S) l0 55))) && ((sK S ((sE S) l0 56) == 1 && ev_in l2 ((sL S) ((sE S) l0 56))) && (true))))))) (lv' := [some (.ref l0), some (.int l1), some (.int (l2 + (1 : Int32)))]) (st' := []) (D' := (ev_up D5 ((sE S) l0 56) (l2).toNatClampNeg ((D5 ((sE S) l0 56) (l2).toNatClampNeg) + (D5 ((sE S) l0 55) (l1).toNatClampNeg)))) (pc' := 73) rfl (ev_gk hl0 (ev_gk hl0 (ev_gi (ev_tyk hT hl0 rfl rfl) hg7 (ev_gk hl0 (ev_gi (ev_tyk hT hl0 rfl rfl) hg8 (ev_gi (ev_tyk hT hl0 rfl rfl) hg9 (rfl))))))) rfl ?_
        refine ev_goto hX (off := (-42)) 31 (by decide +kernel) (by decide) ?_
        exact ev_weak hX (ev_le_eq (ev_le_eq (ev_le_eq ev_le_nil))) (ih _ _ _ _ hl0 hf)
set_option maxHeartbeats 4000000 in
set_option maxRecDepth 100000 in
theorem tX12_looksOn_23 {S : ev_S} {fu : Nat} {r : Int32 × ev_D} {F : ev_Fr} (hR : ev_R RX12 cX12_looksOn 3 1 0 0 false none S r F) (hT : ev_Ty S) (hC : sC S ≤ 0 ∧ sA S ≤ 0) : ∀ (n : Nat) (l0 : Nat) (l1 : Int32) (D : ev_D), sK S l0 = 15 → fX12_looksOn_23 (sL S) (sE S) fu n l0 l1 D = some r → F S D 23 [some (.ref l0), some (.int l1), none] [] := by
  have hX := hR.X
  intro n
  induction n with
  | zero =>
    intro l0 l1 D hl0 hf
    rw [fX12_looksOn_23] at hf
    cases hf
  | succ n ih =>
    intro l0 l1 D hl0 hf
    rw [fX12_looksOn_23] at hf
    refine ev_blk hX lkok_RX12 [(.iload_n 1, 1, 0, 0, 0), (.bipush 12, 2, 0, 0, 12)] (by decide +kernel) (g := true) (lv' := [some (.ref l0), some (.int l1), none]) (st' := [.int (12 : Int32), .int l1]) (D' := D) (pc' := 26) rfl (rfl) rfl ?_
    refine ev_ic_ge hX (off := 56) 82 (by decide +kernel) (by decide) (fun h11 => ?_) (fun h11 => ?_)
    · have hf := ev_it h11 hf
      refine ev_blk hX lkok_RX12 [(.iconst 0, 1, 0, 0, 0), (.istore_n 1, 1, 0, 0, 0)] (by decide +kernel) (g := true) (lv' := [some (.ref l0), some (.int (0 : Int32)), none]) (st' := []) (D' := D) (pc' := 84) rfl (rfl) rfl ?_
      exact ev_weak hX (ev_le_eq (ev_le_eq (ev_le_no ev_le_nil))) (tX12_looksOn_84 hR hT hC   fu _ _ _ hl0 hf)
    · have hf := ev_nf h11 hf
      refine ev_blk hX lkok_RX12 [(.iconst 0, 1, 0, 0, 0), (.istore_n 2, 1, 0, 0, 0)] (by decide +kernel) (g := true) (lv' := [some (.ref l0), some (.int l1), some (.int (0 : Int32))]) (st' := []) (D' := D) (pc' := 31) rfl (rfl) rfl ?_
      exact ev_weak hX (ev_le_eq (ev_le_eq (ev_le_eq ev_le_nil))) (tX12_looksOn_31 hR hT hC  ih fu _ _ _ _ hl0 hf)
set_option maxHeartbeats 4000000 in
set_option maxRecDepth 100000 in
theorem tX12_looksOn_2 {S : ev_S} {fu : Nat} {r : Int32 × ev_D} {F : ev_Fr} (hR : ev_R RX12 cX12_looksOn 3 1 0 0 false none S r F) (hT : ev_Ty S) (hC : sC S ≤ 0 ∧ sA S ≤ 0) : ∀ (n : Nat) (l0 : Nat) (l1 : Int32) (D : ev_D), sK S l0 = 15 → fX12_looksOn_2 (sL S) (sE S) fu n l0 l1 D = some r → F S D 2 [some (.ref l0), some (.int l1), none] [] := by
  have hX := hR.X
  intro n
  induction n with
  | zero =>
    intro l0 l1 D hl0 hf
    rw [fX12_looksOn_2] at hf
    cases hf
  | succ n ih =>
    intro l0 l1 D hl0 hf
    rw [fX12_looksOn_2] at hf
    refine ev_blk hX lkok_RX12 [(.iload_n 1, 1, 0, 0, 0), (.bipush 12, 2, 0, 0, 12)] (by decide +kernel) (g := true) (lv' := [some (.ref l0), some (.int l1), none]) (st' := [.int (12 : Int32), .int l1]) (D' := D) (pc' := 5) rfl (rfl) rfl ?_
    refine ev_ic_ge hX (off := 16) 21 (by decide +kernel) (by decide) (fun h12 => ?_) (fun h12 => ?_)
    · have hf := ev_it h12 hf
      refine ev_blk hX lkok_RX12 [(.iconst 0, 1, 0, 0, 0), (.istore_n 1, 1, 0, 0, 0)] (by decide +kernel) (g := true) (lv' := [some (.ref l0), some (.int (0 : Int32)), none]) (st' := []) (D' := D) (pc' := 23) rfl (rfl) rfl ?_
      exact ev_weak hX (ev_le_eq (ev_le_eq (ev_le_no ev_le_nil))) (tX12_looksOn_23 hR hT hC   fu _ _ _ hl0 hf)
    · have hf := ev_nf h12 hf
      obtain ⟨hg13, hf⟩ := ev_gd_s hf
      refine ev_blk hX lkok_RX12 [(.aload_n 0, 1, 0, 0, 0), (.getfield 110, 3, 12, 56, 0), (.iload_n 1, 1, 0, 0, 0), (.iconst 0, 1, 0, 0, 0), (.iastore, 1, 0, 0, 0), (.iinc 1 1, 3, 0, 0, 1)] (by decide +kernel) (g := (sK S l0 == 15) && ((sK S ((sE S) l0 56) == 1 && ev_in l1 ((sL S) ((sE S) l0 56))) && (true))) (lv' := [some (.ref l0), some (.int (l1 + (1 : Int32))), none]) (st' := []) (D' := (ev_up D ((sE S) l0 56) (l1).toNatClampNeg (0 : Int32))) (pc' := 18) rfl (ev_gk hl0 (ev_gi (ev_tyk hT hl0 rfl rfl) hg13 (rfl))) rfl ?_
      refine ev_goto hX (off := (-16)) 2 (by decide +kernel) (by decide) ?_
      exact ev_weak hX (ev_le_eq (ev_le_eq (ev_le_no ev_le_nil))) (ih _ _ _ hl0 hf)
set_option maxHeartbeats 4000000 in
set_option maxRecDepth 100000 in
theorem tX12_looksOn {S : ev_S} {fu : Nat} {r : Int32 × ev_D} {F : ev_Fr} (hR : ev_R RX12 cX12_looksOn 3 1 0 0 false none S r F) (hT : ev_Ty S) (hC : sC S ≤ 0 ∧ sA S ≤ 0) {l0 : Nat} {D : ev_D} (hl0 : sK S l0 = 15) (hf : fX12_looksOn (sL S) (sE S) fu l0 D = some r) : F S D 0 [some (.ref l0), none, none] [] := by
  have hX := hR.X
  unfold fX12_looksOn at hf
  refine ev_blk hX lkok_RX12 [(.iconst 0, 1, 0, 0, 0), (.istore_n 1, 1, 0, 0, 0)] (by decide +kernel) (g := true) (lv' := [some (.ref l0), some (.int (0 : Int32)), none]) (st' := []) (D' := D) (pc' := 2) rfl (rfl) rfl ?_
  exact ev_weak hX (ev_le_eq (ev_le_eq (ev_le_no ev_le_nil))) (tX12_looksOn_2 hR hT hC   fu _ _ _ hl0 hf)
theorem mX12_looksOn {S : ev_S} {fu : Nat} {r : Int32 × ev_D} (hT : ev_Ty S) {l0 : Nat} {D : ev_D} (hl0 : sK S l0 = 15) (hf : fX12_looksOn (sL S) (sE S) fu l0 D = some r) : ev_M 1 0 0 yX12_looksOn cX12_looksOn 3 none [.ref l0] S D S r :=
  ev_met (ini := false) (plainFor_of_name (by decide)) (fun h => by cases h) rfl (Nat.le_of_ble_eq_true rfl) (fun F hR => tX12_looksOn (S := ev_z S) hR hT ⟨Nat.le_refl 0, Nat.le_refl 0⟩ hl0 hf)
set_option maxHeartbeats 4000000 in
set_option maxRecDepth 100000 in
theorem tX12_waves_81 {S : ev_S} {fu : Nat} {r : Int32 × ev_D} {F : ev_Fr} (hR : ev_R RX12 cX12_waves 5 2 0 0 false (some .int) S r F) (hT : ev_Ty S) (hC : sC S ≤ 0 ∧ sA S ≤ 0) : ∀ (n : Nat) (l0 : Nat) (l2 : Int32) (l3 : Int32) (l4 : Int32) (D : ev_D), sK S l0 = 15 → fX12_waves_81 (sL S) (sE S) fu n l0 l2 l3 l4 D = some r → F S D 81 [some (.ref l0), none, some (.int l2), some (.int l3), some (.int l4)] [] := by
  have hX := hR.X
  intro n
  induction n with
  | zero =>
    intro l0 l2 l3 l4 D hl0 hf
    rw [fX12_waves_81] at hf
    cases hf
  | succ n ih =>
    intro l0 l2 l3 l4 D hl0 hf
    rw [fX12_waves_81] at hf
    refine ev_blk hX lkok_RX12 [(.iload 4, 2, 0, 0, 0), (.bipush 11, 2, 0, 0, 11)] (by decide +kernel) (g := true) (lv' := [some (.ref l0), none, some (.int l2), some (.int l3), some (.int l4)]) (st' := [.int (11 : Int32), .int l4]) (D' := D) (pc' := 85) rfl (rfl) rfl ?_
    refine ev_ic_ge hX (off := 38) 123 (by decide +kernel) (by decide) (fun h1 => ?_) (fun h1 => ?_)
    · have hf := ev_it h1 hf
      refine ev_blk hX lkok_RX12 [(.iconst (-1), 1, 0, 0, (-1))] (by decide +kernel) (g := true) (lv' := [some (.ref l0), none, some (.int l2), some (.int l3), some (.int l4)]) (st' := [.int (-1 : Int32)]) (D' := D) (pc' := 124) rfl (rfl) rfl ?_
      exact ev_iret hR ev_sm.rf (Option.some.inj hf) hC (by decide +kernel)
    · have hf := ev_nf h1 hf
      refine ev_blk hX lkok_RX12 [(.aload_n 0, 1, 0, 0, 0)] (by decide +kernel) (g := true) (lv' := [some (.ref l0), none, some (.int l2), some (.int l3), some (.int l4)]) (st' := [.ref l0]) (D' := D) (pc' := 89) rfl (rfl) rfl ?_
      obtain ⟨v2, D2, hc2, hf⟩ := ev_bd_s hf
      refine ev_callV hX YX12_looksOn ml_RX12_429 (mX12_looksOn hT hl0 hc2) (vs := []) (st := []) (by decide) 12 hl0 rfl rfl rfl (by decide +kernel) hC ?_
      show F S D2 92 [some (.ref l0), none, some (.int l2), some (.int l3), some (.int l4)] []
      obtain ⟨hg6, hf⟩ := ev_gd_s hf
      refine ev_blk hX lkok_RX12 [(.aload_n 0, 1, 0, 0, 0), (.getfield 107, 3, 12, 55, 0), (.iload_n 2, 1, 0, 0, 0), (.iaload, 1, 0, 0, 0)] (by decide +kernel) (g := (sK S l0 == 15) && ((sK S ((sE S) l0 55) == 1 && ev_in l2 ((sL S) ((sE S) l0 55))) && (true))) (lv' := [some (.ref l0), none, some (.int l2), some (.int l3), some (.int l4)]) (st' := [.int (D2 ((sE S) l0 55) (l2).toNatClampNeg)]) (D' := D2) (pc' := 98) rfl (ev_gk hl0 (ev_gi (ev_tyk hT hl0 rfl rfl) hg6 (rfl))) rfl ?_
      refine ev_if_le hX (off := 19) 117 (by decide +kernel) (by decide) (fun h3 => ?_) (fun h3 => ?_)
      · have hf := ev_it h3 hf
        refine ev_blk hX lkok_RX12 [(.iinc 4 1, 3, 0, 0, 1)] (by decide +kernel) (g := true) (lv' := [some (.ref l0), none, some (.int l2), some (.int l3), some (.int (l4 + (1 : Int32)))]) (st' := []) (D' := D2) (pc' := 120) rfl (rfl) rfl ?_
        refine ev_goto hX (off := (-39)) 81 (by decide +kernel) (by decide) ?_
        exact ev_weak hX (ev_le_eq (ev_le_no (ev_le_eq (ev_le_eq (ev_le_eq ev_le_nil))))) (ih _ _ _ _ _ hl0 hf)
      · have hf := ev_nf h3 hf
        refine ev_blk hX lkok_RX12 [(.iload_n 3, 1, 0, 0, 0)] (by decide +kernel) (g := true) (lv' := [some (.ref l0), none, some (.int l2), some (.int l3), some (.int l4)]) (st' := [.int l3]) (D' := D2) (pc' := 102) rfl (rfl) rfl ?_
        refine ev_if_ne hX (off := 8) 110 (by decide +kernel) (by decide) (fun h4 => ?_) (fun h4 => ?_)
        · have hf := ev_nf h4 hf
          obtain ⟨hg5, hf⟩ := ev_gd_s hf
          refine ev_blk hX lkok_RX12 [(.aload_n 0, 1, 0, 0, 0), (.getfield 107, 3, 12, 55, 0), (.iload_n 2, 1, 0, 0, 0), (.iaload, 1, 0, 0, 0)] (by decide +kernel) (g := (sK S l0 == 15) && ((sK S ((sE S) l0 55) == 1 && ev_in l2 ((sL S) ((sE S) l0 55))) && (true))) (lv' := [some (.ref l0), none, some (.int l2), some (.int l3), some (.int l4)]) (st' := [.int (D2 ((sE S) l0 55) (l2).toNatClampNeg)]) (D' := D2) (pc' := 116) rfl (ev_gk hl0 (ev_gi (ev_tyk hT hl0 rfl rfl) hg5 (rfl))) rfl ?_
          exact ev_iret hR ev_sm.rf (Option.some.inj hf) hC (by decide +kernel)
        · have hf := ev_it h4 hf
          refine ev_blk hX lkok_RX12 [(.iload 4, 2, 0, 0, 0)] (by decide +kernel) (g := true) (lv' := [some (.ref l0), none, some (.int l2), some (.int l3), some (.int l4)]) (st' := [.int l4]) (D' := D2) (pc' := 107) rfl (rfl) rfl ?_
          refine ev_goto hX (off := 9) 116 (by decide +kernel) (by decide) ?_
          exact ev_iret hR ev_sm.rf (Option.some.inj hf) hC (by decide +kernel)
set_option maxHeartbeats 4000000 in
set_option maxRecDepth 100000 in
theorem tX12_waves_47 {S : ev_S} {fu : Nat} {r : Int32 × ev_D} {F : ev_Fr} (hR : ev_R RX12 cX12_waves 5 2 0 0 false (some .int) S r F) (hT : ev_Ty S) (hC : sC S ≤ 0 ∧ sA S ≤ 0) : ∀ (n : Nat) (l0 : Nat) (l1 : Int32) (l2 : Int32) (l3 : Int32) (l4 : Int32) (D : ev_D), sK S l0 = 15 → fX12_waves_47 (sL S) (sE S) fu n l0 l1 l2 l3 l4 D = some r → F S D 47 [some (.ref l0), some (.int l1), some (.int l2), some (.int l3), some (.int l4)] [] := by
  have hX := hR.X
  intro n
  induction n with
  | zero =>
    intro l0 l1 l2 l3 l4 D hl0 hf
    rw [fX12_waves_47] at hf
    cases hf
  | succ n ih =>
    intro l0 l1 l2 l3 l4 D hl0 hf
    rw [fX12_waves_47] at hf
    refine ev_blk hX lkok_RX12 [(.iload 4, 2, 0, 0, 0), (.bipush 12, 2, 0, 0, 12)] (by decide +kernel) (g := true) (lv' := [some (.ref l0), some (.int l1), some (.int l2), some (.int l3), some (.int l4)]) (st' := [.int (12 : Int32), .int l4]) (D' := D) (pc' := 51) rfl (rfl) rfl ?_
    refine ev_ic_ge hX (off := 27) 78 (by decide +kernel) (by decide) (fun h7 => ?_) (fun h7 => ?_)
    · have hf := ev_it h7 hf
      refine ev_blk hX lkok_RX12 [(.iconst 0, 1, 0, 0, 0), (.istore 4, 2, 0, 0, 0)] (by decide +kernel) (g := true) (lv' := [some (.ref l0), some (.int l1), some (.int l2), some (.int l3), some (.int (0 : Int32))]) (st' := []) (D' := D) (pc' := 81) rfl (rfl) rfl ?_
      exact ev_weak hX (ev_le_eq (ev_le_no (ev_le_eq (ev_le_eq (ev_le_eq ev_le_nil))))) (tX12_waves_81 hR hT hC   fu _ _ _ _ _ hl0 hf)
    · have hf := ev_nf h7 hf
      refine ev_blk hX lkok_RX12 [(.aload_n 0, 1, 0, 0, 0), (.getfield 107, 3, 12, 55, 0), (.iload 4, 2, 0, 0, 0), (.iload 4, 2, 0, 0, 0), (.iload_n 1, 1, 0, 0, 0)] (by decide +kernel) (g := (sK S l0 == 15) && (true)) (lv' := [some (.ref l0), some (.int l1), some (.int l2), some (.int l3), some (.int l4)]) (st' := [.int l1, .int l4, .int l4, .ref ((sE S) l0 55)]) (D' := D) (pc' := 63) rfl (ev_gk hl0 (rfl)) rfl ?_
      refine ev_ic_ne hX (off := 7) 70 (by decide +kernel) (by decide) (fun h8 => ?_) (fun h8 => ?_)
      · have hf := ev_nf h8 hf
        obtain ⟨hg9, hf⟩ := ev_gd_s hf
        refine ev_blk hX lkok_RX12 [(.iconst 0, 1, 0, 0, 0), (.iastore, 1, 0, 0, 0), (.iinc 4 1, 3, 0, 0, 1)] (by decide +kernel) (g := (sK S ((sE S) l0 55) == 1 && ev_in l4 ((sL S) ((sE S) l0 55))) && (true)) (lv' := [some (.ref l0), some (.int l1), some (.int l2), some (.int l3), some (.int (l4 + (1 : Int32)))]) (st' := []) (D' := (ev_up D ((sE S) l0 55) (l4).toNatClampNeg (0 : Int32))) (pc' := 75) rfl (ev_gi (ev_tyk hT hl0 rfl rfl) hg9 (rfl)) rfl ?_
        refine ev_goto hX (off := (-28)) 47 (by decide +kernel) (by decide) ?_
        exact ev_weak hX (ev_le_eq (ev_le_eq (ev_le_eq (ev_le_eq (ev_le_eq ev_le_nil))))) (ih _ _ _ _ _ _ hl0 hf)
      · have hf := ev_it h8 hf
        refine ev_blk hX lkok_RX12 [(.iconst 1, 1, 0, 0, 1)] (by decide +kernel) (g := true) (lv' := [some (.ref l0), some (.int l1), some (.int l2), some (.int l3), some (.int l4)]) (st' := [.int (1 : Int32), .int l4, .ref ((sE S) l0 55)]) (D' := D) (pc' := 67) rfl (rfl) rfl ?_
        refine ev_goto hX (off := 4) 71 (by decide +kernel) (by decide) ?_
        obtain ⟨hg10, hf⟩ := ev_gd_s hf
        refine ev_blk hX lkok_RX12 [(.iastore, 1, 0, 0, 0), (.iinc 4 1, 3, 0, 0, 1)] (by decide +kernel) (g := (sK S ((sE S) l0 55) == 1 && ev_in l4 ((sL S) ((sE S) l0 55))) && (true)) (lv' := [some (.ref l0), some (.int l1), some (.int l2), some (.int l3), some (.int (l4 + (1 : Int32)))]) (st' := []) (D' := (ev_up D ((sE S) l0 55) (l4).toNatClampNeg (1 : Int32))) (pc' := 75) rfl (ev_gi (ev_tyk hT hl0 rfl rfl) hg10 (rfl)) rfl ?_
        refine ev_goto hX (off := (-28)) 47 (by decide +kernel) (by decide) ?_
        exact ev_weak hX (ev_le_eq (ev_le_eq (ev_le_eq (ev_le_eq (ev_le_eq ev_le_nil))))) (ih _ _ _ _ _ _ hl0 hf)
set_option maxHeartbeats 4000000 in
set_option maxRecDepth 100000 in
theorem tX12_waves {S : ev_S} {fu : Nat} {r : Int32 × ev_D} {F : ev_Fr} (hR : ev_R RX12 cX12_waves 5 2 0 0 false (some .int) S r F) (hT : ev_Ty S) (hC : sC S ≤ 0 ∧ sA S ≤ 0) {l0 : Nat} {l1 : Int32} {l2 : Int32} {l3 : Int32} {D : ev_D} (hl0 : sK S l0 = 15) (hf : fX12_waves (sL S) (sE S) fu l0 l1 l2 l3 D = some r) : F S D 0 [some (.ref l0), some (.int l1), some (.int l2), some (.int l3), none] [] := by
  have hX := hR.X
  unfold fX12_waves at hf
  refine ev_blk hX lkok_RX12 [(.aload_n 0, 1, 0, 0, 0), (.iconst 0, 1, 0, 0, 0), (.putfield 128, 3, 12, 0, 0), (.aload_n 0, 1, 0, 0, 0), (.iload_n 1, 1, 0, 0, 0), (.iconst 0, 1, 0, 0, 0), (.bipush 11, 2, 0, 0, 11)] (by decide +kernel) (g := (sK S l0 == 15) && (true)) (lv' := [some (.ref l0), some (.int l1), some (.int l2), some (.int l3), none]) (st' := [.int (11 : Int32), .int (0 : Int32), .int l1, .ref l0]) (D' := (ev_up D l0 0 (0 : Int32))) (pc' := 10) rfl (ev_gk hl0 (rfl)) rfl ?_
  obtain ⟨v11, D11, hc11, hf⟩ := ev_bd_s hf
  refine ev_callV hX YX12_isIn ml_RX12_150 (mX12_isIn hT hl0 hc11) (vs := [.int l1, .int (0 : Int32), .int (11 : Int32)]) (st := []) (by decide) 12 hl0 rfl rfl rfl (by decide +kernel) hC ?_
  show F S D11 13 [some (.ref l0), some (.int l1), some (.int l2), some (.int l3), none] [.int v11]
  refine ev_if_eq hX (off := 29) 42 (by decide +kernel) (by decide) (fun h12 => ?_) (fun h12 => ?_)
  · have hf := ev_it h12 hf
    refine ev_blk hX lkok_RX12 [(.iconst (-1), 1, 0, 0, (-1))] (by decide +kernel) (g := true) (lv' := [some (.ref l0), some (.int l1), some (.int l2), some (.int l3), none]) (st' := [.int (-1 : Int32)]) (D' := D11) (pc' := 43) rfl (rfl) rfl ?_
    exact ev_iret hR ev_sm.rf (Option.some.inj hf) hC (by decide +kernel)
  · have hf := ev_nf h12 hf
    refine ev_blk hX lkok_RX12 [(.aload_n 0, 1, 0, 0, 0), (.iload_n 2, 1, 0, 0, 0), (.iconst 0, 1, 0, 0, 0), (.bipush 11, 2, 0, 0, 11)] (by decide +kernel) (g := true) (lv' := [some (.ref l0), some (.int l1), some (.int l2), some (.int l3), none]) (st' := [.int (11 : Int32), .int (0 : Int32), .int l2, .ref l0]) (D' := D11) (pc' := 21) rfl (rfl) rfl ?_
    obtain ⟨v13, D13, hc13, hf⟩ := ev_bd_s hf
    refine ev_callV hX YX12_isIn ml_RX12_150 (mX12_isIn hT hl0 hc13) (vs := [.int l2, .int (0 : Int32), .int (11 : Int32)]) (st := []) (by decide) 12 hl0 rfl rfl rfl (by decide +kernel) hC ?_
    show F S D13 24 [some (.ref l0), some (.int l1), some (.int l2), some (.int l3), none] [.int v13]
    refine ev_if_eq hX (off := 18) 42 (by decide +kernel) (by decide) (fun h14 => ?_) (fun h14 => ?_)
    · have hf := ev_it h14 hf
      refine ev_blk hX lkok_RX12 [(.iconst (-1), 1, 0, 0, (-1))] (by decide +kernel) (g := true) (lv' := [some (.ref l0), some (.int l1), some (.int l2), some (.int l3), none]) (st' := [.int (-1 : Int32)]) (D' := D13) (pc' := 43) rfl (rfl) rfl ?_
      exact ev_iret hR ev_sm.rf (Option.some.inj hf) hC (by decide +kernel)
    · have hf := ev_nf h14 hf
      refine ev_blk hX lkok_RX12 [(.iload_n 1, 1, 0, 0, 0), (.iload_n 2, 1, 0, 0, 0)] (by decide +kernel) (g := true) (lv' := [some (.ref l0), some (.int l1), some (.int l2), some (.int l3), none]) (st' := [.int l2, .int l1]) (D' := D13) (pc' := 29) rfl (rfl) rfl ?_
      refine ev_ic_eq hX (off := 13) 42 (by decide +kernel) (by decide) (fun h15 => ?_) (fun h15 => ?_)
      · have hf := ev_it h15 hf
        refine ev_blk hX lkok_RX12 [(.iconst (-1), 1, 0, 0, (-1))] (by decide +kernel) (g := true) (lv' := [some (.ref l0), some (.int l1), some (.int l2), some (.int l3), none]) (st' := [.int (-1 : Int32)]) (D' := D13) (pc' := 43) rfl (rfl) rfl ?_
        exact ev_iret hR ev_sm.rf (Option.some.inj hf) hC (by decide +kernel)
      · have hf := ev_nf h15 hf
        refine ev_blk hX lkok_RX12 [(.aload_n 0, 1, 0, 0, 0), (.iload_n 3, 1, 0, 0, 0), (.iconst 0, 1, 0, 0, 0), (.iconst 1, 1, 0, 0, 1)] (by decide +kernel) (g := true) (lv' := [some (.ref l0), some (.int l1), some (.int l2), some (.int l3), none]) (st' := [.int (1 : Int32), .int (0 : Int32), .int l3, .ref l0]) (D' := D13) (pc' := 36) rfl (rfl) rfl ?_
        obtain ⟨v16, D16, hc16, hf⟩ := ev_bd_s hf
        refine ev_callV hX YX12_isIn ml_RX12_150 (mX12_isIn hT hl0 hc16) (vs := [.int l3, .int (0 : Int32), .int (1 : Int32)]) (st := []) (by decide) 12 hl0 rfl rfl rfl (by decide +kernel) hC ?_
        show F S D16 39 [some (.ref l0), some (.int l1), some (.int l2), some (.int l3), none] [.int v16]
        refine ev_if_ne hX (off := 5) 44 (by decide +kernel) (by decide) (fun h17 => ?_) (fun h17 => ?_)
        · have hf := ev_nf h17 hf
          refine ev_blk hX lkok_RX12 [(.iconst 0, 1, 0, 0, 0), (.istore 4, 2, 0, 0, 0)] (by decide +kernel) (g := true) (lv' := [some (.ref l0), some (.int l1), some (.int l2), some (.int l3), some (.int (0 : Int32))]) (st' := []) (D' := D16) (pc' := 47) rfl (rfl) rfl ?_
          exact ev_weak hX (ev_le_eq (ev_le_eq (ev_le_eq (ev_le_eq (ev_le_eq ev_le_nil))))) (tX12_waves_47 hR hT hC   fu _ _ _ _ _ _ hl0 hf)
        · have hf := ev_it h17 hf
          refine ev_blk hX lkok_RX12 [(.iconst (-1), 1, 0, 0, (-1))] (by decide +kernel) (g := true) (lv' := [some (.ref l0), some (.int l1), some (.int l2), some (.int l3), none]) (st' := [.int (-1 : Int32)]) (D' := D16) (pc' := 43) rfl (rfl) rfl ?_
          exact ev_iret hR ev_sm.rf (Option.some.inj hf) hC (by decide +kernel)
theorem mX12_waves {S : ev_S} {fu : Nat} {r : Int32 × ev_D} (hT : ev_Ty S) {l0 : Nat} {l1 : Int32} {l2 : Int32} {l3 : Int32} {D : ev_D} (hl0 : sK S l0 = 15) (hf : fX12_waves (sL S) (sE S) fu l0 l1 l2 l3 D = some r) : ev_M 2 0 0 yX12_waves cX12_waves 5 (some .int) [.ref l0, .int l1, .int l2, .int l3] S D S r :=
  ev_met (ini := false) (plainFor_of_name (by decide)) (fun h => by cases h) rfl (Nat.le_of_ble_eq_true rfl) (fun F hR => tX12_waves (S := ev_z S) hR hT ⟨Nat.le_refl 0, Nat.le_refl 0⟩ hl0 hf)
set_option maxHeartbeats 4000000 in
set_option maxRecDepth 100000 in
theorem tX12_heavyOf_4 {S : ev_S} {fu : Nat} {r : Int32 × ev_D} {F : ev_Fr} (hR : ev_R RX12 cX12_heavyOf 4 1 0 0 false (some .int) S r F) (hT : ev_Ty S) (hC : sC S ≤ 0 ∧ sA S ≤ 0) : ∀ (n : Nat) (l0 : Nat) (l1 : Int32) (l2 : Int32) (l3 : Int32) (D : ev_D), sK S l0 = 15 → fX12_heavyOf_4 (sL S) (sE S) fu n l0 l1 l2 l3 D = some r → F S D 4 [some (.ref l0), some (.int l1), some (.int l2), some (.int l3)] [] := by
  have hX := hR.X
  intro n
  induction n with
  | zero =>
    intro l0 l1 l2 l3 D hl0 hf
    rw [fX12_heavyOf_4] at hf
    cases hf
  | succ n ih =>
    intro l0 l1 l2 l3 D hl0 hf
    rw [fX12_heavyOf_4] at hf
    refine ev_blk hX lkok_RX12 [(.iload_n 3, 1, 0, 0, 0), (.bipush 8, 2, 0, 0, 8)] (by decide +kernel) (g := true) (lv' := [some (.ref l0), some (.int l1), some (.int l2), some (.int l3)]) (st' := [.int (8 : Int32), .int l3]) (D' := D) (pc' := 7) rfl (rfl) rfl ?_
    refine ev_ic_ge hX (off := 26) 33 (by decide +kernel) (by decide) (fun h1 => ?_) (fun h1 => ?_)
    · have hf := ev_it h1 hf
      refine ev_blk hX lkok_RX12 [(.iload_n 2, 1, 0, 0, 0)] (by decide +kernel) (g := true) (lv' := [some (.ref l0), some (.int l1), some (.int l2), some (.int l3)]) (st' := [.int l2]) (D' := D) (pc' := 34) rfl (rfl) rfl ?_
      exact ev_iret hR ev_sm.rf (Option.some.inj hf) hC (by decide +kernel)
    · have hf := ev_nf h1 hf
      refine ev_blk hX lkok_RX12 [(.aload_n 0, 1, 0, 0, 0), (.iload_n 1, 1, 0, 0, 0), (.iload_n 3, 1, 0, 0, 0)] (by decide +kernel) (g := true) (lv' := [some (.ref l0), some (.int l1), some (.int l2), some (.int l3)]) (st' := [.int l3, .int l1, .ref l0]) (D' := D) (pc' := 13) rfl (rfl) rfl ?_
      obtain ⟨v2, D2, hc2, hf⟩ := ev_bd_s hf
      refine ev_callV hX YX12_has ml_RX12_390 (mX12_has hT hl0 hc2) (vs := [.int l1, .int l3]) (st := []) (by decide) 12 hl0 rfl rfl rfl (by decide +kernel) hC ?_
      show F S D2 16 [some (.ref l0), some (.int l1), some (.int l2), some (.int l3)] [.int v2]
      refine ev_if_eq hX (off := 11) 27 (by decide +kernel) (by decide) (fun h3 => ?_) (fun h3 => ?_)
      · have hf := ev_it h3 hf
        refine ev_blk hX lkok_RX12 [(.iinc 3 1, 3, 0, 0, 1)] (by decide +kernel) (g := true) (lv' := [some (.ref l0), some (.int l1), some (.int l2), some (.int (l3 + (1 : Int32)))]) (st' := []) (D' := D2) (pc' := 30) rfl (rfl) rfl ?_
        refine ev_goto hX (off := (-26)) 4 (by decide +kernel) (by decide) ?_
        exact ev_weak hX (ev_le_eq (ev_le_eq (ev_le_eq (ev_le_eq ev_le_nil)))) (ih _ _ _ _ _ hl0 hf)
      · have hf := ev_nf h3 hf
        refine ev_blk hX lkok_RX12 [(.iload_n 2, 1, 0, 0, 0), (.aload_n 0, 1, 0, 0, 0), (.iload_n 3, 1, 0, 0, 0)] (by decide +kernel) (g := true) (lv' := [some (.ref l0), some (.int l1), some (.int l2), some (.int l3)]) (st' := [.int l3, .ref l0, .int l2]) (D' := D2) (pc' := 22) rfl (rfl) rfl ?_
        obtain ⟨v4, D4, hc4, hf⟩ := ev_bd_s hf
        refine ev_callV hX YX12_heavy ml_RX12_320 (mX12_heavy hT hl0 hc4) (vs := [.int l3]) (st := [.int l2]) (by decide) 12 hl0 rfl rfl rfl (by decide +kernel) hC ?_
        show F S D4 25 [some (.ref l0), some (.int l1), some (.int l2), some (.int l3)] [.int v4, .int l2]
        refine ev_blk hX lkok_RX12 [(.iadd, 1, 0, 0, 0), (.istore_n 2, 1, 0, 0, 0), (.iinc 3 1, 3, 0, 0, 1)] (by decide +kernel) (g := true) (lv' := [some (.ref l0), some (.int l1), some (.int (l2 + v4)), some (.int (l3 + (1 : Int32)))]) (st' := []) (D' := D4) (pc' := 30) rfl (rfl) rfl ?_
        refine ev_goto hX (off := (-26)) 4 (by decide +kernel) (by decide) ?_
        exact ev_weak hX (ev_le_eq (ev_le_eq (ev_le_eq (ev_le_eq ev_le_nil)))) (ih _ _ _ _ _ hl0 hf)
set_option maxHeartbeats 4000000 in
set_option maxRecDepth 100000 in
theorem tX12_heavyOf {S : ev_S} {fu : Nat} {r : Int32 × ev_D} {F : ev_Fr} (hR : ev_R RX12 cX12_heavyOf 4 1 0 0 false (some .int) S r F) (hT : ev_Ty S) (hC : sC S ≤ 0 ∧ sA S ≤ 0) {l0 : Nat} {l1 : Int32} {D : ev_D} (hl0 : sK S l0 = 15) (hf : fX12_heavyOf (sL S) (sE S) fu l0 l1 D = some r) : F S D 0 [some (.ref l0), some (.int l1), none, none] [] := by
  have hX := hR.X
  unfold fX12_heavyOf at hf
  refine ev_blk hX lkok_RX12 [(.iconst 0, 1, 0, 0, 0), (.istore_n 2, 1, 0, 0, 0), (.iconst 0, 1, 0, 0, 0), (.istore_n 3, 1, 0, 0, 0)] (by decide +kernel) (g := true) (lv' := [some (.ref l0), some (.int l1), some (.int (0 : Int32)), some (.int (0 : Int32))]) (st' := []) (D' := D) (pc' := 4) rfl (rfl) rfl ?_
  exact ev_weak hX (ev_le_eq (ev_le_eq (ev_le_eq (ev_le_eq ev_le_nil)))) (tX12_heavyOf_4 hR hT hC   fu _ _ _ _ _ hl0 hf)
theorem mX12_heavyOf {S : ev_S} {fu : Nat} {r : Int32 × ev_D} (hT : ev_Ty S) {l0 : Nat} {l1 : Int32} {D : ev_D} (hl0 : sK S l0 = 15) (hf : fX12_heavyOf (sL S) (sE S) fu l0 l1 D = some r) : ev_M 1 0 0 yX12_heavyOf cX12_heavyOf 4 (some .int) [.ref l0, .int l1] S D S r :=
  ev_met (ini := false) (plainFor_of_name (by decide)) (fun h => by cases h) rfl (Nat.le_of_ble_eq_true rfl) (fun F hR => tX12_heavyOf (S := ev_z S) hR hT ⟨Nat.le_refl 0, Nat.le_refl 0⟩ hl0 hf)
set_option maxHeartbeats 4000000 in
set_option maxRecDepth 100000 in
theorem tX12_bears_87 {S : ev_S} {fu : Nat} {r : Int32 × ev_D} {F : ev_Fr} (hR : ev_R RX12 cX12_bears 7 2 0 0 false (some .int) S r F) (hT : ev_Ty S) (hC : sC S ≤ 0 ∧ sA S ≤ 0) {k40 : Nat → Int32 → Int32 → Int32 → Int32 → Int32 → Int32 → ev_D → ev_Op} (hk40 : ∀ (l0 : Nat) (l1 : Int32) (l2 : Int32) (l3 : Int32) (l4 : Int32) (l5 : Int32) (l6 : Int32) (D : ev_D), sK S l0 = 15 → k40 l0 l1 l2 l3 l4 l5 l6 D = some r → F S D 40 [some (.ref l0), some (.int l1), some (.int l2), some (.int l3), some (.int l4), some (.int l5), some (.int l6)] []) {l0 : Nat} {l1 : Int32} {l2 : Int32} {l4 : Int32} {l5 : Int32} {l6 : Int32} {D : ev_D} (hl0 : sK S l0 = 15) (hf : fX12_bears_87 (sL S) (sE S) fu k40 l0 l1 l2 l4 l5 l6 D = some r) : F S D 87 [some (.ref l0), some (.int l1), some (.int l2), none, some (.int l4), some (.int l5), some (.int l6)] [] := by
  have hX := hR.X
  unfold fX12_bears_87 at hf
  refine ev_blk hX lkok_RX12 [(.aload_n 0, 1, 0, 0, 0), (.iload 6, 2, 0, 0, 0)] (by decide +kernel) (g := true) (lv' := [some (.ref l0), some (.int l1), some (.int l2), none, some (.int l4), some (.int l5), some (.int l6)]) (st' := [.int l6, .ref l0]) (D' := D) (pc' := 90) rfl (rfl) rfl ?_
  obtain ⟨v1, D1, hc1, hf⟩ := ev_bd_s hf
  refine ev_callV hX YX12_onesOf ml_RX12_326 (mX12_onesOf hT hl0 hc1) (vs := [.int l6]) (st := []) (by decide) 12 hl0 rfl rfl rfl (by decide +kernel) hC ?_
  show F S D1 93 [some (.ref l0), some (.int l1), some (.int l2), none, some (.int l4), some (.int l5), some (.int l6)] [.int v1]
  refine ev_blk hX lkok_RX12 [(.istore_n 3, 1, 0, 0, 0), (.iload 4, 2, 0, 0, 0), (.iconst 1, 1, 0, 0, 1), (.iadd, 1, 0, 0, 0), (.istore 4, 2, 0, 0, 0), (.aload_n 0, 1, 0, 0, 0), (.iload 5, 2, 0, 0, 0), (.aload_n 0, 1, 0, 0, 0), (.iload 6, 2, 0, 0, 0)] (by decide +kernel) (g := true) (lv' := [some (.ref l0), some (.int l1), some (.int l2), some (.int v1), some (.int (l4 + (1 : Int32))), some (.int l5), some (.int l6)]) (st' := [.int l6, .ref l0, .int l5, .ref l0]) (D' := D1) (pc' := 106) rfl (rfl) rfl ?_
  obtain ⟨v2, D2, hc2, hf⟩ := ev_bd_s hf
  refine ev_callV hX YX12_heavyOf ml_RX12_432 (mX12_heavyOf hT hl0 hc2) (vs := [.int l6]) (st := [.int l5, .ref l0]) (by decide) 12 hl0 rfl rfl rfl (by decide +kernel) hC ?_
  show F S D2 109 [some (.ref l0), some (.int l1), some (.int l2), some (.int v1), some (.int (l4 + (1 : Int32))), some (.int l5), some (.int l6)] [.int v2, .int l5, .ref l0]
  obtain ⟨v3, D3, hc3, hf⟩ := ev_bd_s hf
  refine ev_callV hX YX12_greater ml_RX12_357 (mX12_greater hT hl0 hc3) (vs := [.int l5, .int v2]) (st := []) (by decide) 12 hl0 rfl rfl rfl (by decide +kernel) hC ?_
  show F S D3 112 [some (.ref l0), some (.int l1), some (.int l2), some (.int v1), some (.int (l4 + (1 : Int32))), some (.int l5), some (.int l6)] [.int v3]
  refine ev_blk hX lkok_RX12 [(.istore 5, 2, 0, 0, 0), (.iinc 6 1, 3, 0, 0, 1)] (by decide +kernel) (g := true) (lv' := [some (.ref l0), some (.int l1), some (.int l2), some (.int v1), some (.int (l4 + (1 : Int32))), some (.int v3), some (.int (l6 + (1 : Int32)))]) (st' := []) (D' := D3) (pc' := 117) rfl (rfl) rfl ?_
  refine ev_goto hX (off := (-77)) 40 (by decide +kernel) (by decide) ?_
  exact ev_weak hX (ev_le_eq (ev_le_eq (ev_le_eq (ev_le_eq (ev_le_eq (ev_le_eq (ev_le_eq ev_le_nil))))))) (hk40 _ _ _ _ _ _ _ _ hl0 hf)
set_option maxHeartbeats 4000000 in
set_option maxRecDepth 100000 in
theorem tX12_bears_40 {S : ev_S} {fu : Nat} {r : Int32 × ev_D} {F : ev_Fr} (hR : ev_R RX12 cX12_bears 7 2 0 0 false (some .int) S r F) (hT : ev_Ty S) (hC : sC S ≤ 0 ∧ sA S ≤ 0) : ∀ (n : Nat) (l0 : Nat) (l1 : Int32) (l2 : Int32) (l3 : Int32) (l4 : Int32) (l5 : Int32) (l6 : Int32) (D : ev_D), sK S l0 = 15 → fX12_bears_40 (sL S) (sE S) fu n l0 l1 l2 l3 l4 l5 l6 D = some r → F S D 40 [some (.ref l0), some (.int l1), some (.int l2), some (.int l3), some (.int l4), some (.int l5), some (.int l6)] [] := by
  have hX := hR.X
  intro n
  induction n with
  | zero =>
    intro l0 l1 l2 l3 l4 l5 l6 D hl0 hf
    rw [fX12_bears_40] at hf
    cases hf
  | succ n ih =>
    intro l0 l1 l2 l3 l4 l5 l6 D hl0 hf
    rw [fX12_bears_40] at hf
    refine ev_blk hX lkok_RX12 [(.iload 6, 2, 0, 0, 0), (.sipush 256, 3, 0, 0, 256)] (by decide +kernel) (g := true) (lv' := [some (.ref l0), some (.int l1), some (.int l2), some (.int l3), some (.int l4), some (.int l5), some (.int l6)]) (st' := [.int (256 : Int32), .int l6]) (D' := D) (pc' := 45) rfl (rfl) rfl ?_
    refine ev_ic_ge hX (off := 75) 120 (by decide +kernel) (by decide) (fun h4 => ?_) (fun h4 => ?_)
    · have hf := ev_it h4 hf
      refine ev_blk hX lkok_RX12 [(.iload_n 2, 1, 0, 0, 0)] (by decide +kernel) (g := true) (lv' := [some (.ref l0), some (.int l1), some (.int l2), some (.int l3), some (.int l4), some (.int l5), some (.int l6)]) (st' := [.int l2]) (D' := D) (pc' := 121) rfl (rfl) rfl ?_
      refine ev_if_ne hX (off := 7) 128 (by decide +kernel) (by decide) (fun h5 => ?_) (fun h5 => ?_)
      · have hf := ev_nf h5 hf
        refine ev_blk hX lkok_RX12 [(.iload_n 2, 1, 0, 0, 0), (.iconst 1, 1, 0, 0, 1)] (by decide +kernel) (g := true) (lv' := [some (.ref l0), some (.int l1), some (.int l2), some (.int l3), some (.int l4), some (.int l5), some (.int l6)]) (st' := [.int (1 : Int32), .int l2]) (D' := D) (pc' := 130) rfl (rfl) rfl ?_
        refine ev_ic_ne hX (off := 8) 138 (by decide +kernel) (by decide) (fun h6 => ?_) (fun h6 => ?_)
        · have hf := ev_nf h6 hf
          refine ev_blk hX lkok_RX12 [(.iload 5, 2, 0, 0, 0)] (by decide +kernel) (g := true) (lv' := [some (.ref l0), some (.int l1), some (.int l2), some (.int l3), some (.int l4), some (.int l5), some (.int l6)]) (st' := [.int l5]) (D' := D) (pc' := 140) rfl (rfl) rfl ?_
          exact ev_iret hR ev_sm.rf (Option.some.inj hf) hC (by decide +kernel)
        · have hf := ev_it h6 hf
          refine ev_blk hX lkok_RX12 [(.iload 4, 2, 0, 0, 0)] (by decide +kernel) (g := true) (lv' := [some (.ref l0), some (.int l1), some (.int l2), some (.int l3), some (.int l4), some (.int l5), some (.int l6)]) (st' := [.int l4]) (D' := D) (pc' := 135) rfl (rfl) rfl ?_
          refine ev_goto hX (off := 5) 140 (by decide +kernel) (by decide) ?_
          exact ev_iret hR ev_sm.rf (Option.some.inj hf) hC (by decide +kernel)
      · have hf := ev_it h5 hf
        refine ev_blk hX lkok_RX12 [(.iload_n 3, 1, 0, 0, 0)] (by decide +kernel) (g := true) (lv' := [some (.ref l0), some (.int l1), some (.int l2), some (.int l3), some (.int l4), some (.int l5), some (.int l6)]) (st' := [.int l3]) (D' := D) (pc' := 125) rfl (rfl) rfl ?_
        refine ev_goto hX (off := 15) 140 (by decide +kernel) (by decide) ?_
        exact ev_iret hR ev_sm.rf (Option.some.inj hf) hC (by decide +kernel)
    · have hf := ev_nf h4 hf
      refine ev_blk hX lkok_RX12 [(.aload_n 0, 1, 0, 0, 0), (.iload 6, 2, 0, 0, 0)] (by decide +kernel) (g := true) (lv' := [some (.ref l0), some (.int l1), some (.int l2), some (.int l3), some (.int l4), some (.int l5), some (.int l6)]) (st' := [.int l6, .ref l0]) (D' := D) (pc' := 51) rfl (rfl) rfl ?_
      obtain ⟨v7, D7, hc7, hf⟩ := ev_bd_s hf
      refine ev_callV hX YX12_heavyOf ml_RX12_432 (mX12_heavyOf hT hl0 hc7) (vs := [.int l6]) (st := []) (by decide) 12 hl0 rfl rfl rfl (by decide +kernel) hC ?_
      show F S D7 54 [some (.ref l0), some (.int l1), some (.int l2), some (.int l3), some (.int l4), some (.int l5), some (.int l6)] [.int v7]
      refine ev_blk hX lkok_RX12 [(.iload_n 1, 1, 0, 0, 0)] (by decide +kernel) (g := true) (lv' := [some (.ref l0), some (.int l1), some (.int l2), some (.int l3), some (.int l4), some (.int l5), some (.int l6)]) (st' := [.int l1, .int v7]) (D' := D7) (pc' := 55) rfl (rfl) rfl ?_
      refine ev_ic_gt hX (off := 59) 114 (by decide +kernel) (by decide) (fun h8 => ?_) (fun h8 => ?_)
      · have hf := ev_it h8 hf
        refine ev_blk hX lkok_RX12 [(.iinc 6 1, 3, 0, 0, 1)] (by decide +kernel) (g := true) (lv' := [some (.ref l0), some (.int l1), some (.int l2), some (.int l3), some (.int l4), some (.int l5), some (.int (l6 + (1 : Int32)))]) (st' := []) (D' := D7) (pc' := 117) rfl (rfl) rfl ?_
        refine ev_goto hX (off := (-77)) 40 (by decide +kernel) (by decide) ?_
        exact ev_weak hX (ev_le_eq (ev_le_eq (ev_le_eq (ev_le_eq (ev_le_eq (ev_le_eq (ev_le_eq ev_le_nil))))))) (ih _ _ _ _ _ _ _ _ hl0 hf)
      · have hf := ev_nf h8 hf
        refine ev_blk hX lkok_RX12 [(.aload_n 0, 1, 0, 0, 0), (.iload 6, 2, 0, 0, 0)] (by decide +kernel) (g := true) (lv' := [some (.ref l0), some (.int l1), some (.int l2), some (.int l3), some (.int l4), some (.int l5), some (.int l6)]) (st' := [.int l6, .ref l0]) (D' := D7) (pc' := 61) rfl (rfl) rfl ?_
        obtain ⟨v9, D9, hc9, hf⟩ := ev_bd_s hf
        refine ev_callV hX YX12_onesOf ml_RX12_326 (mX12_onesOf hT hl0 hc9) (vs := [.int l6]) (st := []) (by decide) 12 hl0 rfl rfl rfl (by decide +kernel) hC ?_
        show F S D9 64 [some (.ref l0), some (.int l1), some (.int l2), some (.int l3), some (.int l4), some (.int l5), some (.int l6)] [.int v9]
        refine ev_blk hX lkok_RX12 [(.iload_n 3, 1, 0, 0, 0)] (by decide +kernel) (g := true) (lv' := [some (.ref l0), some (.int l1), some (.int l2), some (.int l3), some (.int l4), some (.int l5), some (.int l6)]) (st' := [.int l3, .int v9]) (D' := D9) (pc' := 65) rfl (rfl) rfl ?_
        refine ev_ic_ge hX (off := 6) 71 (by decide +kernel) (by decide) (fun h10 => ?_) (fun h10 => ?_)
        · have hf := ev_it h10 hf
          refine ev_blk hX lkok_RX12 [(.aload_n 0, 1, 0, 0, 0), (.iload 6, 2, 0, 0, 0)] (by decide +kernel) (g := true) (lv' := [some (.ref l0), some (.int l1), some (.int l2), some (.int l3), some (.int l4), some (.int l5), some (.int l6)]) (st' := [.int l6, .ref l0]) (D' := D9) (pc' := 74) rfl (rfl) rfl ?_
          obtain ⟨v11, D11, hc11, hf⟩ := ev_bd_s hf
          refine ev_callV hX YX12_onesOf ml_RX12_326 (mX12_onesOf hT hl0 hc11) (vs := [.int l6]) (st := []) (by decide) 12 hl0 rfl rfl rfl (by decide +kernel) hC ?_
          show F S D11 77 [some (.ref l0), some (.int l1), some (.int l2), some (.int l3), some (.int l4), some (.int l5), some (.int l6)] [.int v11]
          refine ev_blk hX lkok_RX12 [(.iload_n 3, 1, 0, 0, 0)] (by decide +kernel) (g := true) (lv' := [some (.ref l0), some (.int l1), some (.int l2), some (.int l3), some (.int l4), some (.int l5), some (.int l6)]) (st' := [.int l3, .int v11]) (D' := D11) (pc' := 78) rfl (rfl) rfl ?_
          refine ev_ic_le hX (off := 9) 87 (by decide +kernel) (by decide) (fun h12 => ?_) (fun h12 => ?_)
          · have hf := ev_it h12 hf
            exact ev_weak hX (ev_le_eq (ev_le_eq (ev_le_eq (ev_le_no (ev_le_eq (ev_le_eq (ev_le_eq ev_le_nil))))))) (tX12_bears_87 hR hT hC  ih hl0 hf)
          · have hf := ev_nf h12 hf
            refine ev_blk hX lkok_RX12 [(.iconst 0, 1, 0, 0, 0), (.istore 4, 2, 0, 0, 0), (.iconst 0, 1, 0, 0, 0), (.istore 5, 2, 0, 0, 0)] (by decide +kernel) (g := true) (lv' := [some (.ref l0), some (.int l1), some (.int l2), some (.int l3), some (.int (0 : Int32)), some (.int (0 : Int32)), some (.int l6)]) (st' := []) (D' := D11) (pc' := 87) rfl (rfl) rfl ?_
            exact ev_weak hX (ev_le_eq (ev_le_eq (ev_le_eq (ev_le_no (ev_le_eq (ev_le_eq (ev_le_eq ev_le_nil))))))) (tX12_bears_87 hR hT hC  ih hl0 hf)
        · have hf := ev_nf h10 hf
          refine ev_goto hX (off := 46) 114 (by decide +kernel) (by decide) ?_
          refine ev_blk hX lkok_RX12 [(.iinc 6 1, 3, 0, 0, 1)] (by decide +kernel) (g := true) (lv' := [some (.ref l0), some (.int l1), some (.int l2), some (.int l3), some (.int l4), some (.int l5), some (.int (l6 + (1 : Int32)))]) (st' := []) (D' := D9) (pc' := 117) rfl (rfl) rfl ?_
          refine ev_goto hX (off := (-77)) 40 (by decide +kernel) (by decide) ?_
          exact ev_weak hX (ev_le_eq (ev_le_eq (ev_le_eq (ev_le_eq (ev_le_eq (ev_le_eq (ev_le_eq ev_le_nil))))))) (ih _ _ _ _ _ _ _ _ hl0 hf)
set_option maxHeartbeats 4000000 in
set_option maxRecDepth 100000 in
theorem tX12_bears {S : ev_S} {fu : Nat} {r : Int32 × ev_D} {F : ev_Fr} (hR : ev_R RX12 cX12_bears 7 2 0 0 false (some .int) S r F) (hT : ev_Ty S) (hC : sC S ≤ 0 ∧ sA S ≤ 0) {l0 : Nat} {l1 : Int32} {l2 : Int32} {D : ev_D} (hl0 : sK S l0 = 15) (hf : fX12_bears (sL S) (sE S) fu l0 l1 l2 D = some r) : F S D 0 [some (.ref l0), some (.int l1), some (.int l2), none, none, none, none] [] := by
  have hX := hR.X
  unfold fX12_bears at hf
  refine ev_blk hX lkok_RX12 [(.aload_n 0, 1, 0, 0, 0), (.iconst 0, 1, 0, 0, 0), (.putfield 128, 3, 12, 0, 0), (.aload_n 0, 1, 0, 0, 0), (.iload_n 1, 1, 0, 0, 0), (.iconst 1, 1, 0, 0, 1), (.sipush 800, 3, 0, 0, 800)] (by decide +kernel) (g := (sK S l0 == 15) && (true)) (lv' := [some (.ref l0), some (.int l1), some (.int l2), none, none, none, none]) (st' := [.int (800 : Int32), .int (1 : Int32), .int l1, .ref l0]) (D' := (ev_up D l0 0 (0 : Int32))) (pc' := 11) rfl (ev_gk hl0 (rfl)) rfl ?_
  obtain ⟨v13, D13, hc13, hf⟩ := ev_bd_s hf
  refine ev_callV hX YX12_isIn ml_RX12_150 (mX12_isIn hT hl0 hc13) (vs := [.int l1, .int (1 : Int32), .int (800 : Int32)]) (st := []) (by decide) 12 hl0 rfl rfl rfl (by decide +kernel) hC ?_
  show F S D13 14 [some (.ref l0), some (.int l1), some (.int l2), none, none, none, none] [.int v13]
  refine ev_if_eq hX (off := 13) 27 (by decide +kernel) (by decide) (fun h14 => ?_) (fun h14 => ?_)
  · have hf := ev_it h14 hf
    refine ev_blk hX lkok_RX12 [(.iconst (-1), 1, 0, 0, (-1))] (by decide +kernel) (g := true) (lv' := [some (.ref l0), some (.int l1), some (.int l2), none, none, none, none]) (st' := [.int (-1 : Int32)]) (D' := D13) (pc' := 28) rfl (rfl) rfl ?_
    exact ev_iret hR ev_sm.rf (Option.some.inj hf) hC (by decide +kernel)
  · have hf := ev_nf h14 hf
    refine ev_blk hX lkok_RX12 [(.aload_n 0, 1, 0, 0, 0), (.iload_n 2, 1, 0, 0, 0), (.iconst 0, 1, 0, 0, 0), (.iconst 2, 1, 0, 0, 2)] (by decide +kernel) (g := true) (lv' := [some (.ref l0), some (.int l1), some (.int l2), none, none, none, none]) (st' := [.int (2 : Int32), .int (0 : Int32), .int l2, .ref l0]) (D' := D13) (pc' := 21) rfl (rfl) rfl ?_
    obtain ⟨v15, D15, hc15, hf⟩ := ev_bd_s hf
    refine ev_callV hX YX12_isIn ml_RX12_150 (mX12_isIn hT hl0 hc15) (vs := [.int l2, .int (0 : Int32), .int (2 : Int32)]) (st := []) (by decide) 12 hl0 rfl rfl rfl (by decide +kernel) hC ?_
    show F S D15 24 [some (.ref l0), some (.int l1), some (.int l2), none, none, none, none] [.int v15]
    refine ev_if_ne hX (off := 5) 29 (by decide +kernel) (by decide) (fun h16 => ?_) (fun h16 => ?_)
    · have hf := ev_nf h16 hf
      refine ev_blk hX lkok_RX12 [(.iconst 0, 1, 0, 0, 0), (.istore_n 3, 1, 0, 0, 0), (.iconst 0, 1, 0, 0, 0), (.istore 4, 2, 0, 0, 0), (.iconst 0, 1, 0, 0, 0), (.istore 5, 2, 0, 0, 0), (.iconst 0, 1, 0, 0, 0), (.istore 6, 2, 0, 0, 0)] (by decide +kernel) (g := true) (lv' := [some (.ref l0), some (.int l1), some (.int l2), some (.int (0 : Int32)), some (.int (0 : Int32)), some (.int (0 : Int32)), some (.int (0 : Int32))]) (st' := []) (D' := D15) (pc' := 40) rfl (rfl) rfl ?_
      exact ev_weak hX (ev_le_eq (ev_le_eq (ev_le_eq (ev_le_eq (ev_le_eq (ev_le_eq (ev_le_eq ev_le_nil))))))) (tX12_bears_40 hR hT hC   fu _ _ _ _ _ _ _ _ hl0 hf)
    · have hf := ev_it h16 hf
      refine ev_blk hX lkok_RX12 [(.iconst (-1), 1, 0, 0, (-1))] (by decide +kernel) (g := true) (lv' := [some (.ref l0), some (.int l1), some (.int l2), none, none, none, none]) (st' := [.int (-1 : Int32)]) (D' := D15) (pc' := 28) rfl (rfl) rfl ?_
      exact ev_iret hR ev_sm.rf (Option.some.inj hf) hC (by decide +kernel)
theorem mX12_bears {S : ev_S} {fu : Nat} {r : Int32 × ev_D} (hT : ev_Ty S) {l0 : Nat} {l1 : Int32} {l2 : Int32} {D : ev_D} (hl0 : sK S l0 = 15) (hf : fX12_bears (sL S) (sE S) fu l0 l1 l2 D = some r) : ev_M 2 0 0 yX12_bears cX12_bears 7 (some .int) [.ref l0, .int l1, .int l2] S D S r :=
  ev_met (ini := false) (plainFor_of_name (by decide)) (fun h => by cases h) rfl (Nat.le_of_ble_eq_true rfl) (fun F hR => tX12_bears (S := ev_z S) hR hT ⟨Nat.le_refl 0, Nat.le_refl 0⟩ hl0 hf)
