set_option maxHeartbeats 4000000 in
set_option maxRecDepth 100000 in
theorem tX12_pigeon {S : ev_S} {fu : Nat} {r : Int32 × ev_D} {F : ev_Fr} (hR : ev_R RX12 cX12_pigeon 2 1 0 0 false (some .int) S r F) (hT : ev_Ty S) (hC : sC S ≤ 0 ∧ sA S ≤ 0) {l0 : Nat} {l1 : Int32} {D : ev_D} (hl0 : sK S l0 = 15) (hf : fX12_pigeon (sL S) (sE S) fu l0 l1 D = some r) : F S D 0 [some (.ref l0), some (.int l1)] [] := by
  have hX := hR.X
  unfold fX12_pigeon at hf
  refine ev_blk hX lkok_RX12 [(.aload_n 0, 1, 0, 0, 0), (.iconst 0, 1, 0, 0, 0), (.putfield 128, 3, 12, 0, 0), (.iload_n 1, 1, 0, 0, 0), (.iconst (-1), 1, 0, 0, (-1))] (by decide +kernel) (g := (sK S l0 == 15) && (true)) (lv' := [some (.ref l0), some (.int l1)]) (st' := [.int (-1 : Int32), .int l1]) (D' := (ev_up D l0 0 (0 : Int32))) (pc' := 7) rfl (ev_gk hl0 (rfl)) rfl ?_
  refine ev_ic_ne hX (off := 10) 17 (by decide +kernel) (by decide) (fun h1 => ?_) (fun h1 => ?_)
  · have hf := ev_nf h1 hf
    refine ev_blk hX lkok_RX12 [(.aload_n 0, 1, 0, 0, 0), (.iload_n 1, 1, 0, 0, 0), (.iconst 0, 1, 0, 0, 0), (.bipush 99, 2, 0, 0, 99)] (by decide +kernel) (g := true) (lv' := [some (.ref l0), some (.int l1)]) (st' := [.int (99 : Int32), .int (0 : Int32), .int l1, .ref l0]) (D' := (ev_up D l0 0 (0 : Int32))) (pc' := 22) rfl (rfl) rfl ?_
    obtain ⟨v2, D2, hc2, hf⟩ := ev_bd_s hf
    refine ev_callV hX YX12_isIn ml_RX12_150 (mX12_isIn hT hl0 hc2) (vs := [.int l1, .int (0 : Int32), .int (99 : Int32)]) (st := []) (by decide) 12 hl0 rfl rfl rfl (by decide +kernel) hC ?_
    show F S D2 25 [some (.ref l0), some (.int l1)] [.int v2]
    refine ev_if_eq hX (off := 12) 37 (by decide +kernel) (by decide) (fun h3 => ?_) (fun h3 => ?_)
    · have hf := ev_it h3 hf
      refine ev_blk hX lkok_RX12 [(.iconst (-1), 1, 0, 0, (-1))] (by decide +kernel) (g := true) (lv' := [some (.ref l0), some (.int l1)]) (st' := [.int (-1 : Int32)]) (D' := D2) (pc' := 38) rfl (rfl) rfl ?_
      exact ev_iret hR ev_sm.rf (Option.some.inj hf) hC (by decide +kernel)
    · have hf := ev_nf h3 hf
      refine ev_blk hX lkok_RX12 [(.aload_n 0, 1, 0, 0, 0), (.getfield 435, 3, 12, 57, 0), (.bipush 24, 2, 0, 0, 24)] (by decide +kernel) (g := (sK S l0 == 15) && (true)) (lv' := [some (.ref l0), some (.int l1)]) (st' := [.int (24 : Int32), .int (D2 l0 57)]) (D' := D2) (pc' := 34) rfl (ev_gk hl0 (rfl)) rfl ?_
      refine ev_ic_ne hX (off := 5) 39 (by decide +kernel) (by decide) (fun h4 => ?_) (fun h4 => ?_)
      · have hf := ev_nf h4 hf
        obtain ⟨hg5, hf⟩ := ev_gd_s hf
        refine ev_blk hX lkok_RX12 [(.aload_n 0, 1, 0, 0, 0), (.getfield 113, 3, 12, 58, 0), (.aload_n 0, 1, 0, 0, 0), (.getfield 435, 3, 12, 57, 0), (.iload_n 1, 1, 0, 0, 0), (.iastore, 1, 0, 0, 0), (.aload_n 0, 1, 0, 0, 0), (.aload_n 0, 1, 0, 0, 0), (.getfield 435, 3, 12, 57, 0), (.iconst 1, 1, 0, 0, 1), (.iadd, 1, 0, 0, 0), (.putfield 435, 3, 12, 57, 0), (.aload_n 0, 1, 0, 0, 0), (.getfield 435, 3, 12, 57, 0)] (by decide +kernel) (g := (sK S l0 == 15) && ((sK S l0 == 15) && ((sK S ((sE S) l0 58) == 1 && ev_in (D2 l0 57) ((sL S) ((sE S) l0 58))) && ((sK S l0 == 15) && ((sK S l0 == 15) && ((sK S l0 == 15) && (true))))))) (lv' := [some (.ref l0), some (.int l1)]) (st' := [.int ((ev_up (ev_up D2 ((sE S) l0 58) ((D2 l0 57)).toNatClampNeg l1) l0 57 (((ev_up D2 ((sE S) l0 58) ((D2 l0 57)).toNatClampNeg l1) l0 57) + (1 : Int32))) l0 57)]) (D' := (ev_up (ev_up D2 ((sE S) l0 58) ((D2 l0 57)).toNatClampNeg l1) l0 57 (((ev_up D2 ((sE S) l0 58) ((D2 l0 57)).toNatClampNeg l1) l0 57) + (1 : Int32)))) (pc' := 63) rfl (ev_gk hl0 (ev_gk hl0 (ev_gi (ev_tyk hT hl0 rfl rfl) hg5 (ev_gk hl0 (ev_gk hl0 (ev_gk hl0 (rfl))))))) rfl ?_
        exact ev_iret hR ev_sm.rf (Option.some.inj hf) hC (by decide +kernel)
      · have hf := ev_it h4 hf
        refine ev_blk hX lkok_RX12 [(.iconst (-1), 1, 0, 0, (-1))] (by decide +kernel) (g := true) (lv' := [some (.ref l0), some (.int l1)]) (st' := [.int (-1 : Int32)]) (D' := D2) (pc' := 38) rfl (rfl) rfl ?_
        exact ev_iret hR ev_sm.rf (Option.some.inj hf) hC (by decide +kernel)
  · have hf := ev_it h1 hf
    refine ev_blk hX lkok_RX12 [(.aload_n 0, 1, 0, 0, 0), (.iconst 0, 1, 0, 0, 0), (.putfield 435, 3, 12, 57, 0), (.iconst 0, 1, 0, 0, 0)] (by decide +kernel) (g := (sK S l0 == 15) && (true)) (lv' := [some (.ref l0), some (.int l1)]) (st' := [.int (0 : Int32)]) (D' := (ev_up (ev_up D l0 0 (0 : Int32)) l0 57 (0 : Int32))) (pc' := 16) rfl (ev_gk hl0 (rfl)) rfl ?_
    exact ev_iret hR ev_sm.rf (Option.some.inj hf) hC (by decide +kernel)
theorem mX12_pigeon {S : ev_S} {fu : Nat} {r : Int32 × ev_D} (hT : ev_Ty S) {l0 : Nat} {l1 : Int32} {D : ev_D} (hl0 : sK S l0 = 15) (hf : fX12_pigeon (sL S) (sE S) fu l0 l1 D = some r) : ev_M 1 0 0 yX12_pigeon cX12_pigeon 2 (some .int) [.ref l0, .int l1] S D S r :=
  ev_met (ini := false) (plainFor_of_name (by decide)) (fun h => by cases h) rfl (Nat.le_of_ble_eq_true rfl) (fun F hR => tX12_pigeon (S := ev_z S) hR hT ⟨Nat.le_refl 0, Nat.le_refl 0⟩ hl0 hf)
set_option maxHeartbeats 4000000 in
set_option maxRecDepth 100000 in
theorem tX12_pigeonsFrom_5 {S : ev_S} {fu : Nat} {r : Int32 × ev_D} {F : ev_Fr} (hR : ev_R RX12 cX12_pigeonsFrom 5 0 0 0 false (some .int) S r F) (hT : ev_Ty S) (hC : sC S ≤ 0 ∧ sA S ≤ 0) : ∀ (n : Nat) (l0 : Nat) (l1 : Int32) (l2 : Int32) (l3 : Int32) (l4 : Int32) (D : ev_D), sK S l0 = 15 → fX12_pigeonsFrom_5 (sL S) (sE S) fu n l0 l1 l2 l3 l4 D = some r → F S D 5 [some (.ref l0), some (.int l1), some (.int l2), some (.int l3), some (.int l4)] [] := by
  have hX := hR.X
  intro n
  induction n with
  | zero =>
    intro l0 l1 l2 l3 l4 D hl0 hf
    rw [fX12_pigeonsFrom_5] at hf
    cases hf
  | succ n ih =>
    intro l0 l1 l2 l3 l4 D hl0 hf
    rw [fX12_pigeonsFrom_5] at hf
    refine ev_blk hX lkok_RX12 [(.iload 4, 2, 0, 0, 0), (.iload_n 2, 1, 0, 0, 0)] (by decide +kernel) (g := true) (lv' := [some (.ref l0), some (.int l1), some (.int l2), some (.int l3), some (.int l4)]) (st' := [.int l2, .int l4]) (D' := D) (pc' := 8) rfl (rfl) rfl ?_
    refine ev_ic_ge hX (off := 26) 34 (by decide +kernel) (by decide) (fun h1 => ?_) (fun h1 => ?_)
    · have hf := ev_it h1 hf
      refine ev_blk hX lkok_RX12 [(.iload_n 3, 1, 0, 0, 0)] (by decide +kernel) (g := true) (lv' := [some (.ref l0), some (.int l1), some (.int l2), some (.int l3), some (.int l4)]) (st' := [.int l3]) (D' := D) (pc' := 35) rfl (rfl) rfl ?_
      exact ev_iret hR ev_sm.rf (Option.some.inj hf) hC (by decide +kernel)
    · have hf := ev_nf h1 hf
      obtain ⟨hg2, hf⟩ := ev_gd_s hf
      obtain ⟨hg3, hf⟩ := ev_gd_s hf
      refine ev_blk hX lkok_RX12 [(.iload_n 3, 1, 0, 0, 0), (.aload_n 0, 1, 0, 0, 0), (.getfield 113, 3, 12, 58, 0), (.iload_n 1, 1, 0, 0, 0), (.iload 4, 2, 0, 0, 0), (.iadd, 1, 0, 0, 0), (.aload_n 0, 1, 0, 0, 0), (.getfield 435, 3, 12, 57, 0), (.irem, 1, 0, 0, 0), (.iaload, 1, 0, 0, 0), (.iadd, 1, 0, 0, 0), (.istore_n 3, 1, 0, 0, 0), (.iinc 4 1, 3, 0, 0, 1)] (by decide +kernel) (g := (sK S l0 == 15) && ((sK S l0 == 15) && ((!(decide ((D l0 57) = 0))) && ((sK S ((sE S) l0 58) == 1 && ev_in ((l1 + l4) - (l1 + l4) / (D l0 57) * (D l0 57)) ((sL S) ((sE S) l0 58))) && (true))))) (lv' := [some (.ref l0), some (.int l1), some (.int l2), some (.int (l3 + (D ((sE S) l0 58) (((l1 + l4) - (l1 + l4) / (D l0 57) * (D l0 57))).toNatClampNeg))), some (.int (l4 + (1 : Int32)))]) (st' := []) (D' := D) (pc' := 31) rfl (ev_gk hl0 (ev_gk hl0 (ev_g2 hg2 (ev_gi (ev_tyk hT hl0 rfl rfl) hg3 (rfl))))) rfl ?_
      refine ev_goto hX (off := (-26)) 5 (by decide +kernel) (by decide) ?_
      exact ev_weak hX (ev_le_eq (ev_le_eq (ev_le_eq (ev_le_eq (ev_le_eq ev_le_nil))))) (ih _ _ _ _ _ _ hl0 hf)
set_option maxHeartbeats 4000000 in
set_option maxRecDepth 100000 in
theorem tX12_pigeonsFrom {S : ev_S} {fu : Nat} {r : Int32 × ev_D} {F : ev_Fr} (hR : ev_R RX12 cX12_pigeonsFrom 5 0 0 0 false (some .int) S r F) (hT : ev_Ty S) (hC : sC S ≤ 0 ∧ sA S ≤ 0) {l0 : Nat} {l1 : Int32} {l2 : Int32} {D : ev_D} (hl0 : sK S l0 = 15) (hf : fX12_pigeonsFrom (sL S) (sE S) fu l0 l1 l2 D = some r) : F S D 0 [some (.ref l0), some (.int l1), some (.int l2), none, none] [] := by
  have hX := hR.X
  unfold fX12_pigeonsFrom at hf
  refine ev_blk hX lkok_RX12 [(.iconst 0, 1, 0, 0, 0), (.istore_n 3, 1, 0, 0, 0), (.iconst 0, 1, 0, 0, 0), (.istore 4, 2, 0, 0, 0)] (by decide +kernel) (g := true) (lv' := [some (.ref l0), some (.int l1), some (.int l2), some (.int (0 : Int32)), some (.int (0 : Int32))]) (st' := []) (D' := D) (pc' := 5) rfl (rfl) rfl ?_
  exact ev_weak hX (ev_le_eq (ev_le_eq (ev_le_eq (ev_le_eq (ev_le_eq ev_le_nil))))) (tX12_pigeonsFrom_5 hR hT hC   fu _ _ _ _ _ _ hl0 hf)
theorem mX12_pigeonsFrom {S : ev_S} {fu : Nat} {r : Int32 × ev_D} (hT : ev_Ty S) {l0 : Nat} {l1 : Int32} {l2 : Int32} {D : ev_D} (hl0 : sK S l0 = 15) (hf : fX12_pigeonsFrom (sL S) (sE S) fu l0 l1 l2 D = some r) : ev_M 0 0 0 yX12_pigeonsFrom cX12_pigeonsFrom 5 (some .int) [.ref l0, .int l1, .int l2] S D S r :=
  ev_met (ini := false) (plainFor_of_name (by decide)) (fun h => by cases h) rfl (Nat.le_of_ble_eq_true rfl) (fun F hR => tX12_pigeonsFrom (S := ev_z S) hR hT ⟨Nat.le_refl 0, Nat.le_refl 0⟩ hl0 hf)
set_option maxHeartbeats 4000000 in
set_option maxRecDepth 100000 in
theorem tX12_best_35 {S : ev_S} {fu : Nat} {r : Int32 × ev_D} {F : ev_Fr} (hR : ev_R RX12 cX12_best 5 1 0 0 false (some .int) S r F) (hT : ev_Ty S) (hC : sC S ≤ 0 ∧ sA S ≤ 0) : ∀ (n : Nat) (l0 : Nat) (l1 : Int32) (l2 : Int32) (l3 : Int32) (l4 : Int32) (D : ev_D), sK S l0 = 15 → fX12_best_35 (sL S) (sE S) fu n l0 l1 l2 l3 l4 D = some r → F S D 35 [some (.ref l0), some (.int l1), some (.int l2), some (.int l3), some (.int l4)] [] := by
  have hX := hR.X
  intro n
  induction n with
  | zero =>
    intro l0 l1 l2 l3 l4 D hl0 hf
    rw [fX12_best_35] at hf
    cases hf
  | succ n ih =>
    intro l0 l1 l2 l3 l4 D hl0 hf
    rw [fX12_best_35] at hf
    refine ev_blk hX lkok_RX12 [(.iload 4, 2, 0, 0, 0), (.aload_n 0, 1, 0, 0, 0), (.getfield 435, 3, 12, 57, 0)] (by decide +kernel) (g := (sK S l0 == 15) && (true)) (lv' := [some (.ref l0), some (.int l1), some (.int l2), some (.int l3), some (.int l4)]) (st' := [.int (D l0 57), .int l4]) (D' := D) (pc' := 41) rfl (ev_gk hl0 (rfl)) rfl ?_
    refine ev_ic_ge hX (off := 28) 69 (by decide +kernel) (by decide) (fun h1 => ?_) (fun h1 => ?_)
    · have hf := ev_it h1 hf
      refine ev_blk hX lkok_RX12 [(.iload_n 2, 1, 0, 0, 0)] (by decide +kernel) (g := true) (lv' := [some (.ref l0), some (.int l1), some (.int l2), some (.int l3), some (.int l4)]) (st' := [.int l2]) (D' := D) (pc' := 70) rfl (rfl) rfl ?_
      refine ev_if_ne hX (off := 12) 82 (by decide +kernel) (by decide) (fun h2 => ?_) (fun h2 => ?_)
      · have hf := ev_nf h2 hf
        refine ev_blk hX lkok_RX12 [(.iload_n 3, 1, 0, 0, 0)] (by decide +kernel) (g := true) (lv' := [some (.ref l0), some (.int l1), some (.int l2), some (.int l3), some (.int l4)]) (st' := [.int l3]) (D' := D) (pc' := 83) rfl (rfl) rfl ?_
        exact ev_iret hR ev_sm.rf (Option.some.inj hf) hC (by decide +kernel)
      · have hf := ev_it h2 hf
        refine ev_blk hX lkok_RX12 [(.aload_n 0, 1, 0, 0, 0), (.iload_n 3, 1, 0, 0, 0), (.iload_n 1, 1, 0, 0, 0)] (by decide +kernel) (g := true) (lv' := [some (.ref l0), some (.int l1), some (.int l2), some (.int l3), some (.int l4)]) (st' := [.int l1, .int l3, .ref l0]) (D' := D) (pc' := 76) rfl (rfl) rfl ?_
        obtain ⟨v3, D3, hc3, hf⟩ := ev_bd_s hf
        refine ev_callV hX YX12_pigeonsFrom ml_RX12_438 (mX12_pigeonsFrom hT hl0 hc3) (vs := [.int l3, .int l1]) (st := []) (by decide) 12 hl0 rfl rfl rfl (by decide +kernel) hC ?_
        show F S D3 79 [some (.ref l0), some (.int l1), some (.int l2), some (.int l3), some (.int l4)] [.int v3]
        refine ev_goto hX (off := 4) 83 (by decide +kernel) (by decide) ?_
        exact ev_iret hR ev_sm.rf (Option.some.inj hf) hC (by decide +kernel)
    · have hf := ev_nf h1 hf
      refine ev_blk hX lkok_RX12 [(.aload_n 0, 1, 0, 0, 0), (.iload 4, 2, 0, 0, 0), (.iload_n 1, 1, 0, 0, 0)] (by decide +kernel) (g := true) (lv' := [some (.ref l0), some (.int l1), some (.int l2), some (.int l3), some (.int l4)]) (st' := [.int l1, .int l4, .ref l0]) (D' := D) (pc' := 48) rfl (rfl) rfl ?_
      obtain ⟨v4, D4, hc4, hf⟩ := ev_bd_s hf
      refine ev_callV hX YX12_pigeonsFrom ml_RX12_438 (mX12_pigeonsFrom hT hl0 hc4) (vs := [.int l4, .int l1]) (st := []) (by decide) 12 hl0 rfl rfl rfl (by decide +kernel) hC ?_
      show F S D4 51 [some (.ref l0), some (.int l1), some (.int l2), some (.int l3), some (.int l4)] [.int v4]
      refine ev_blk hX lkok_RX12 [(.aload_n 0, 1, 0, 0, 0), (.iload_n 3, 1, 0, 0, 0), (.iload_n 1, 1, 0, 0, 0)] (by decide +kernel) (g := true) (lv' := [some (.ref l0), some (.int l1), some (.int l2), some (.int l3), some (.int l4)]) (st' := [.int l1, .int l3, .ref l0, .int v4]) (D' := D4) (pc' := 54) rfl (rfl) rfl ?_
      obtain ⟨v5, D5, hc5, hf⟩ := ev_bd_s hf
      refine ev_callV hX YX12_pigeonsFrom ml_RX12_438 (mX12_pigeonsFrom hT hl0 hc5) (vs := [.int l3, .int l1]) (st := [.int v4]) (by decide) 12 hl0 rfl rfl rfl (by decide +kernel) hC ?_
      show F S D5 57 [some (.ref l0), some (.int l1), some (.int l2), some (.int l3), some (.int l4)] [.int v5, .int v4]
      refine ev_ic_le hX (off := 6) 63 (by decide +kernel) (by decide) (fun h6 => ?_) (fun h6 => ?_)
      · have hf := ev_it h6 hf
        refine ev_blk hX lkok_RX12 [(.iinc 4 1, 3, 0, 0, 1)] (by decide +kernel) (g := true) (lv' := [some (.ref l0), some (.int l1), some (.int l2), some (.int l3), some (.int (l4 + (1 : Int32)))]) (st' := []) (D' := D5) (pc' := 66) rfl (rfl) rfl ?_
        refine ev_goto hX (off := (-31)) 35 (by decide +kernel) (by decide) ?_
        exact ev_weak hX (ev_le_eq (ev_le_eq (ev_le_eq (ev_le_eq (ev_le_eq ev_le_nil))))) (ih _ _ _ _ _ _ hl0 hf)
      · have hf := ev_nf h6 hf
        refine ev_blk hX lkok_RX12 [(.iload 4, 2, 0, 0, 0), (.istore_n 3, 1, 0, 0, 0), (.iinc 4 1, 3, 0, 0, 1)] (by decide +kernel) (g := true) (lv' := [some (.ref l0), some (.int l1), some (.int l2), some (.int l4), some (.int (l4 + (1 : Int32)))]) (st' := []) (D' := D5) (pc' := 66) rfl (rfl) rfl ?_
        refine ev_goto hX (off := (-31)) 35 (by decide +kernel) (by decide) ?_
        exact ev_weak hX (ev_le_eq (ev_le_eq (ev_le_eq (ev_le_eq (ev_le_eq ev_le_nil))))) (ih _ _ _ _ _ _ hl0 hf)
set_option maxHeartbeats 4000000 in
set_option maxRecDepth 100000 in
theorem tX12_best {S : ev_S} {fu : Nat} {r : Int32 × ev_D} {F : ev_Fr} (hR : ev_R RX12 cX12_best 5 1 0 0 false (some .int) S r F) (hT : ev_Ty S) (hC : sC S ≤ 0 ∧ sA S ≤ 0) {l0 : Nat} {l1 : Int32} {l2 : Int32} {D : ev_D} (hl0 : sK S l0 = 15) (hf : fX12_best (sL S) (sE S) fu l0 l1 l2 D = some r) : F S D 0 [some (.ref l0), some (.int l1), some (.int l2), none, none] [] := by
  have hX := hR.X
  unfold fX12_best at hf
  refine ev_blk hX lkok_RX12 [(.aload_n 0, 1, 0, 0, 0), (.iconst 0, 1, 0, 0, 0), (.putfield 128, 3, 12, 0, 0), (.aload_n 0, 1, 0, 0, 0), (.iload_n 1, 1, 0, 0, 0), (.iconst 1, 1, 0, 0, 1), (.aload_n 0, 1, 0, 0, 0), (.getfield 435, 3, 12, 57, 0)] (by decide +kernel) (g := (sK S l0 == 15) && ((sK S l0 == 15) && (true))) (lv' := [some (.ref l0), some (.int l1), some (.int l2), none, none]) (st' := [.int ((ev_up D l0 0 (0 : Int32)) l0 57), .int (1 : Int32), .int l1, .ref l0]) (D' := (ev_up D l0 0 (0 : Int32))) (pc' := 12) rfl (ev_gk hl0 (ev_gk hl0 (rfl))) rfl ?_
  obtain ⟨v7, D7, hc7, hf⟩ := ev_bd_s hf
  refine ev_callV hX YX12_isIn ml_RX12_150 (mX12_isIn hT hl0 hc7) (vs := [.int l1, .int (1 : Int32), .int ((ev_up D l0 0 (0 : Int32)) l0 57)]) (st := []) (by decide) 12 hl0 rfl rfl rfl (by decide +kernel) hC ?_
  show F S D7 15 [some (.ref l0), some (.int l1), some (.int l2), none, none] [.int v7]
  refine ev_if_eq hX (off := 13) 28 (by decide +kernel) (by decide) (fun h8 => ?_) (fun h8 => ?_)
  · have hf := ev_it h8 hf
    refine ev_blk hX lkok_RX12 [(.iconst (-1), 1, 0, 0, (-1))] (by decide +kernel) (g := true) (lv' := [some (.ref l0), some (.int l1), some (.int l2), none, none]) (st' := [.int (-1 : Int32)]) (D' := D7) (pc' := 29) rfl (rfl) rfl ?_
    exact ev_iret hR ev_sm.rf (Option.some.inj hf) hC (by decide +kernel)
  · have hf := ev_nf h8 hf
    refine ev_blk hX lkok_RX12 [(.aload_n 0, 1, 0, 0, 0), (.iload_n 2, 1, 0, 0, 0), (.iconst 0, 1, 0, 0, 0), (.iconst 1, 1, 0, 0, 1)] (by decide +kernel) (g := true) (lv' := [some (.ref l0), some (.int l1), some (.int l2), none, none]) (st' := [.int (1 : Int32), .int (0 : Int32), .int l2, .ref l0]) (D' := D7) (pc' := 22) rfl (rfl) rfl ?_
    obtain ⟨v9, D9, hc9, hf⟩ := ev_bd_s hf
    refine ev_callV hX YX12_isIn ml_RX12_150 (mX12_isIn hT hl0 hc9) (vs := [.int l2, .int (0 : Int32), .int (1 : Int32)]) (st := []) (by decide) 12 hl0 rfl rfl rfl (by decide +kernel) hC ?_
    show F S D9 25 [some (.ref l0), some (.int l1), some (.int l2), none, none] [.int v9]
    refine ev_if_ne hX (off := 5) 30 (by decide +kernel) (by decide) (fun h10 => ?_) (fun h10 => ?_)
    · have hf := ev_nf h10 hf
      refine ev_blk hX lkok_RX12 [(.iconst 0, 1, 0, 0, 0), (.istore_n 3, 1, 0, 0, 0), (.iconst 1, 1, 0, 0, 1), (.istore 4, 2, 0, 0, 0)] (by decide +kernel) (g := true) (lv' := [some (.ref l0), some (.int l1), some (.int l2), some (.int (0 : Int32)), some (.int (1 : Int32))]) (st' := []) (D' := D9) (pc' := 35) rfl (rfl) rfl ?_
      exact ev_weak hX (ev_le_eq (ev_le_eq (ev_le_eq (ev_le_eq (ev_le_eq ev_le_nil))))) (tX12_best_35 hR hT hC   fu _ _ _ _ _ _ hl0 hf)
    · have hf := ev_it h10 hf
      refine ev_blk hX lkok_RX12 [(.iconst (-1), 1, 0, 0, (-1))] (by decide +kernel) (g := true) (lv' := [some (.ref l0), some (.int l1), some (.int l2), none, none]) (st' := [.int (-1 : Int32)]) (D' := D9) (pc' := 29) rfl (rfl) rfl ?_
      exact ev_iret hR ev_sm.rf (Option.some.inj hf) hC (by decide +kernel)
theorem mX12_best {S : ev_S} {fu : Nat} {r : Int32 × ev_D} (hT : ev_Ty S) {l0 : Nat} {l1 : Int32} {l2 : Int32} {D : ev_D} (hl0 : sK S l0 = 15) (hf : fX12_best (sL S) (sE S) fu l0 l1 l2 D = some r) : ev_M 1 0 0 yX12_best cX12_best 5 (some .int) [.ref l0, .int l1, .int l2] S D S r :=
  ev_met (ini := false) (plainFor_of_name (by decide)) (fun h => by cases h) rfl (Nat.le_of_ble_eq_true rfl) (fun F hR => tX12_best (S := ev_z S) hR hT ⟨Nat.le_refl 0, Nat.le_refl 0⟩ hl0 hf)
set_option maxHeartbeats 4000000 in
set_option maxRecDepth 100000 in
theorem tX12_stranger_108 {S : ev_S} {fu : Nat} {r : Int32 × ev_D} {F : ev_Fr} (hR : ev_R RX12 cX12_stranger 4 1 0 0 false (some .int) S r F) (hT : ev_Ty S) (hC : sC S ≤ 0 ∧ sA S ≤ 0) {l0 : Nat} {D : ev_D} (hl0 : sK S l0 = 15) (hf : fX12_stranger_108 (sL S) (sE S) fu l0 D = some r) : F S D 108 [some (.ref l0), none, none, none] [] := by
  have hX := hR.X
  unfold fX12_stranger_108 at hf
  refine ev_blk hX lkok_RX12 [(.aload_n 0, 1, 0, 0, 0), (.aload_n 0, 1, 0, 0, 0), (.getfield 441, 3, 12, 59, 0), (.iconst 1, 1, 0, 0, 1), (.iadd, 1, 0, 0, 0), (.putfield 441, 3, 12, 59, 0), (.aload_n 0, 1, 0, 0, 0), (.getfield 441, 3, 12, 59, 0)] (by decide +kernel) (g := (sK S l0 == 15) && ((sK S l0 == 15) && ((sK S l0 == 15) && (true)))) (lv' := [some (.ref l0), none, none, none]) (st' := [.int ((ev_up D l0 59 ((D l0 59) + (1 : Int32))) l0 59)]) (D' := (ev_up D l0 59 ((D l0 59) + (1 : Int32)))) (pc' := 122) rfl (ev_gk hl0 (ev_gk hl0 (ev_gk hl0 (rfl)))) rfl ?_
  exact ev_iret hR ev_sm.rf (Option.some.inj hf) hC (by decide +kernel)
set_option maxHeartbeats 4000000 in
set_option maxRecDepth 100000 in
theorem tX12_stranger_17 {S : ev_S} {fu : Nat} {r : Int32 × ev_D} {F : ev_Fr} (hR : ev_R RX12 cX12_stranger 4 1 0 0 false (some .int) S r F) (hT : ev_Ty S) (hC : sC S ≤ 0 ∧ sA S ≤ 0) : ∀ (n : Nat) (l0 : Nat) (l3 : Int32) (D : ev_D), sK S l0 = 15 → fX12_stranger_17 (sL S) (sE S) fu n l0 l3 D = some r → F S D 17 [some (.ref l0), none, none, some (.int l3)] [] := by
  have hX := hR.X
  intro n
  induction n with
  | zero =>
    intro l0 l3 D hl0 hf
    rw [fX12_stranger_17] at hf
    cases hf
  | succ n ih =>
    intro l0 l3 D hl0 hf
    rw [fX12_stranger_17] at hf
    refine ev_blk hX lkok_RX12 [(.iload_n 3, 1, 0, 0, 0), (.bipush 10, 2, 0, 0, 10)] (by decide +kernel) (g := true) (lv' := [some (.ref l0), none, none, some (.int l3)]) (st' := [.int (10 : Int32), .int l3]) (D' := D) (pc' := 20) rfl (rfl) rfl ?_
    refine ev_ic_ge hX (off := 16) 36 (by decide +kernel) (by decide) (fun h1 => ?_) (fun h1 => ?_)
    · have hf := ev_it h1 hf
      refine ev_blk hX lkok_RX12 [(.iconst 0, 1, 0, 0, 0)] (by decide +kernel) (g := true) (lv' := [some (.ref l0), none, none, some (.int l3)]) (st' := [.int (0 : Int32)]) (D' := D) (pc' := 37) rfl (rfl) rfl ?_
      exact ev_iret hR ev_sm.rf (Option.some.inj hf) hC (by decide +kernel)
    · have hf := ev_nf h1 hf
      obtain ⟨hg2, hf⟩ := ev_gd_s hf
      refine ev_blk hX lkok_RX12 [(.aload_n 0, 1, 0, 0, 0), (.getfield 116, 3, 12, 60, 0), (.iload_n 3, 1, 0, 0, 0), (.iconst 0, 1, 0, 0, 0), (.iastore, 1, 0, 0, 0), (.iinc 3 1, 3, 0, 0, 1)] (by decide +kernel) (g := (sK S l0 == 15) && ((sK S ((sE S) l0 60) == 1 && ev_in l3 ((sL S) ((sE S) l0 60))) && (true))) (lv' := [some (.ref l0), none, none, some (.int (l3 + (1 : Int32)))]) (st' := []) (D' := (ev_up D ((sE S) l0 60) (l3).toNatClampNeg (0 : Int32))) (pc' := 33) rfl (ev_gk hl0 (ev_gi (ev_tyk hT hl0 rfl rfl) hg2 (rfl))) rfl ?_
      refine ev_goto hX (off := (-16)) 17 (by decide +kernel) (by decide) ?_
      exact ev_weak hX (ev_le_eq (ev_le_no (ev_le_no (ev_le_eq ev_le_nil)))) (ih _ _ _ hl0 hf)
set_option maxHeartbeats 4000000 in
set_option maxRecDepth 100000 in
theorem tX12_stranger {S : ev_S} {fu : Nat} {r : Int32 × ev_D} {F : ev_Fr} (hR : ev_R RX12 cX12_stranger 4 1 0 0 false (some .int) S r F) (hT : ev_Ty S) (hC : sC S ≤ 0 ∧ sA S ≤ 0) {l0 : Nat} {l1 : Int32} {l2 : Int32} {D : ev_D} (hl0 : sK S l0 = 15) (hf : fX12_stranger (sL S) (sE S) fu l0 l1 l2 D = some r) : F S D 0 [some (.ref l0), some (.int l1), some (.int l2), none] [] := by
  have hX := hR.X
  unfold fX12_stranger at hf
  refine ev_blk hX lkok_RX12 [(.aload_n 0, 1, 0, 0, 0), (.iconst 0, 1, 0, 0, 0), (.putfield 128, 3, 12, 0, 0), (.iload_n 1, 1, 0, 0, 0), (.iconst (-1), 1, 0, 0, (-1))] (by decide +kernel) (g := (sK S l0 == 15) && (true)) (lv' := [some (.ref l0), some (.int l1), some (.int l2), none]) (st' := [.int (-1 : Int32), .int l1]) (D' := (ev_up D l0 0 (0 : Int32))) (pc' := 7) rfl (ev_gk hl0 (rfl)) rfl ?_
  refine ev_ic_ne hX (off := 31) 38 (by decide +kernel) (by decide) (fun h3 => ?_) (fun h3 => ?_)
  · have hf := ev_nf h3 hf
    refine ev_blk hX lkok_RX12 [(.aload_n 0, 1, 0, 0, 0), (.iload_n 1, 1, 0, 0, 0), (.iconst 0, 1, 0, 0, 0), (.bipush 9, 2, 0, 0, 9)] (by decide +kernel) (g := true) (lv' := [some (.ref l0), some (.int l1), some (.int l2), none]) (st' := [.int (9 : Int32), .int (0 : Int32), .int l1, .ref l0]) (D' := (ev_up D l0 0 (0 : Int32))) (pc' := 43) rfl (rfl) rfl ?_
    obtain ⟨v4, D4, hc4, hf⟩ := ev_bd_s hf
    refine ev_callV hX YX12_isIn ml_RX12_150 (mX12_isIn hT hl0 hc4) (vs := [.int l1, .int (0 : Int32), .int (9 : Int32)]) (st := []) (by decide) 12 hl0 rfl rfl rfl (by decide +kernel) hC ?_
    show F S D4 46 [some (.ref l0), some (.int l1), some (.int l2), none] [.int v4]
    refine ev_if_eq hX (off := 28) 74 (by decide +kernel) (by decide) (fun h5 => ?_) (fun h5 => ?_)
    · have hf := ev_it h5 hf
      refine ev_blk hX lkok_RX12 [(.iconst (-1), 1, 0, 0, (-1))] (by decide +kernel) (g := true) (lv' := [some (.ref l0), some (.int l1), some (.int l2), none]) (st' := [.int (-1 : Int32)]) (D' := D4) (pc' := 75) rfl (rfl) rfl ?_
      exact ev_iret hR ev_sm.rf (Option.some.inj hf) hC (by decide +kernel)
    · have hf := ev_nf h5 hf
      refine ev_blk hX lkok_RX12 [(.aload_n 0, 1, 0, 0, 0), (.iload_n 2, 1, 0, 0, 0), (.iconst 0, 1, 0, 0, 0), (.bipush 9, 2, 0, 0, 9)] (by decide +kernel) (g := true) (lv' := [some (.ref l0), some (.int l1), some (.int l2), none]) (st' := [.int (9 : Int32), .int (0 : Int32), .int l2, .ref l0]) (D' := D4) (pc' := 54) rfl (rfl) rfl ?_
      obtain ⟨v6, D6, hc6, hf⟩ := ev_bd_s hf
      refine ev_callV hX YX12_isIn ml_RX12_150 (mX12_isIn hT hl0 hc6) (vs := [.int l2, .int (0 : Int32), .int (9 : Int32)]) (st := []) (by decide) 12 hl0 rfl rfl rfl (by decide +kernel) hC ?_
      show F S D6 57 [some (.ref l0), some (.int l1), some (.int l2), none] [.int v6]
      refine ev_if_eq hX (off := 17) 74 (by decide +kernel) (by decide) (fun h7 => ?_) (fun h7 => ?_)
      · have hf := ev_it h7 hf
        refine ev_blk hX lkok_RX12 [(.iconst (-1), 1, 0, 0, (-1))] (by decide +kernel) (g := true) (lv' := [some (.ref l0), some (.int l1), some (.int l2), none]) (st' := [.int (-1 : Int32)]) (D' := D6) (pc' := 75) rfl (rfl) rfl ?_
        exact ev_iret hR ev_sm.rf (Option.some.inj hf) hC (by decide +kernel)
      · have hf := ev_nf h7 hf
        refine ev_blk hX lkok_RX12 [(.iload_n 1, 1, 0, 0, 0), (.iload_n 2, 1, 0, 0, 0)] (by decide +kernel) (g := true) (lv' := [some (.ref l0), some (.int l1), some (.int l2), none]) (st' := [.int l2, .int l1]) (D' := D6) (pc' := 62) rfl (rfl) rfl ?_
        refine ev_ic_eq hX (off := 12) 74 (by decide +kernel) (by decide) (fun h8 => ?_) (fun h8 => ?_)
        · have hf := ev_it h8 hf
          refine ev_blk hX lkok_RX12 [(.iconst (-1), 1, 0, 0, (-1))] (by decide +kernel) (g := true) (lv' := [some (.ref l0), some (.int l1), some (.int l2), none]) (st' := [.int (-1 : Int32)]) (D' := D6) (pc' := 75) rfl (rfl) rfl ?_
          exact ev_iret hR ev_sm.rf (Option.some.inj hf) hC (by decide +kernel)
        · have hf := ev_nf h8 hf
          refine ev_blk hX lkok_RX12 [(.aload_n 0, 1, 0, 0, 0), (.getfield 441, 3, 12, 59, 0), (.bipush 20, 2, 0, 0, 20)] (by decide +kernel) (g := (sK S l0 == 15) && (true)) (lv' := [some (.ref l0), some (.int l1), some (.int l2), none]) (st' := [.int (20 : Int32), .int (D6 l0 59)]) (D' := D6) (pc' := 71) rfl (ev_gk hl0 (rfl)) rfl ?_
          refine ev_ic_ne hX (off := 5) 76 (by decide +kernel) (by decide) (fun h9 => ?_) (fun h9 => ?_)
          · have hf := ev_nf h9 hf
            obtain ⟨hg10, hf⟩ := ev_gd_s hf
            obtain ⟨hg11, hf⟩ := ev_gd_s hf
            obtain ⟨hg12, hf⟩ := ev_gd_s hf
            obtain ⟨hg13, hf⟩ := ev_gd_s hf
            refine ev_blk hX lkok_RX12 [(.aload_n 0, 1, 0, 0, 0), (.getfield 116, 3, 12, 60, 0), (.iload_n 1, 1, 0, 0, 0), (.aload_n 0, 1, 0, 0, 0), (.getfield 116, 3, 12, 60, 0), (.iload_n 1, 1, 0, 0, 0), (.iaload, 1, 0, 0, 0), (.iconst 1, 1, 0, 0, 1), (.iload_n 2, 1, 0, 0, 0), (.ishl, 1, 0, 0, 0), (.ior, 1, 0, 0, 0), (.iastore, 1, 0, 0, 0), (.aload_n 0, 1, 0, 0, 0), (.getfield 116, 3, 12, 60, 0), (.iload_n 2, 1, 0, 0, 0), (.aload_n 0, 1, 0, 0, 0), (.getfield 116, 3, 12, 60, 0), (.iload_n 2, 1, 0, 0, 0), (.iaload, 1, 0, 0, 0), (.iconst 1, 1, 0, 0, 1), (.iload_n 1, 1, 0, 0, 0), (.ishl, 1, 0, 0, 0), (.ior, 1, 0, 0, 0), (.iastore, 1, 0, 0, 0)] (by decide +kernel) (g := (sK S l0 == 15) && ((sK S l0 == 15) && ((sK S ((sE S) l0 60) == 1 && ev_in l1 ((sL S) ((sE S) l0 60))) && ((sK S ((sE S) l0 60) == 1 && ev_in l1 ((sL S) ((sE S) l0 60))) && ((sK S l0 == 15) && ((sK S l0 == 15) && ((sK S ((sE S) l0 60) == 1 && ev_in l2 ((sL S) ((sE S) l0 60))) && ((sK S ((sE S) l0 60) == 1 && ev_in l2 ((sL S) ((sE S) l0 60))) && (true))))))))) (lv' := [some (.ref l0), some (.int l1), some (.int l2), none]) (st' := []) (D' := (ev_up (ev_up D6 ((sE S) l0 60) (l1).toNatClampNeg ((D6 ((sE S) l0 60) (l1).toNatClampNeg) ||| ((1 : Int32) <<< (l2 &&& 31)))) ((sE S) l0 60) (l2).toNatClampNeg (((ev_up D6 ((sE S) l0 60) (l1).toNatClampNeg ((D6 ((sE S) l0 60) (l1).toNatClampNeg) ||| ((1 : Int32) <<< (l2 &&& 31)))) ((sE S) l0 60) (l2).toNatClampNeg) ||| ((1 : Int32) <<< (l1 &&& 31))))) (pc' := 108) rfl (ev_gk hl0 (ev_gk hl0 (ev_gi (ev_tyk hT hl0 rfl rfl) hg10 (ev_gi (ev_tyk hT hl0 rfl rfl) hg11 (ev_gk hl0 (ev_gk hl0 (ev_gi (ev_tyk hT hl0 rfl rfl) hg12 (ev_gi (ev_tyk hT hl0 rfl rfl) hg13 (rfl))))))))) rfl ?_
            exact ev_weak hX (ev_le_eq (ev_le_no (ev_le_no (ev_le_no ev_le_nil)))) (tX12_stranger_108 hR hT hC   hl0 hf)
          · have hf := ev_it h9 hf
            refine ev_blk hX lkok_RX12 [(.iconst (-1), 1, 0, 0, (-1))] (by decide +kernel) (g := true) (lv' := [some (.ref l0), some (.int l1), some (.int l2), none]) (st' := [.int (-1 : Int32)]) (D' := D6) (pc' := 75) rfl (rfl) rfl ?_
            exact ev_iret hR ev_sm.rf (Option.some.inj hf) hC (by decide +kernel)
  · have hf := ev_it h3 hf
    refine ev_blk hX lkok_RX12 [(.aload_n 0, 1, 0, 0, 0), (.iconst 0, 1, 0, 0, 0), (.putfield 441, 3, 12, 59, 0), (.iconst 0, 1, 0, 0, 0), (.istore_n 3, 1, 0, 0, 0)] (by decide +kernel) (g := (sK S l0 == 15) && (true)) (lv' := [some (.ref l0), some (.int l1), some (.int l2), some (.int (0 : Int32))]) (st' := []) (D' := (ev_up (ev_up D l0 0 (0 : Int32)) l0 59 (0 : Int32))) (pc' := 17) rfl (ev_gk hl0 (rfl)) rfl ?_
    exact ev_weak hX (ev_le_eq (ev_le_no (ev_le_no (ev_le_eq ev_le_nil)))) (tX12_stranger_17 hR hT hC   fu _ _ _ hl0 hf)
theorem mX12_stranger {S : ev_S} {fu : Nat} {r : Int32 × ev_D} (hT : ev_Ty S) {l0 : Nat} {l1 : Int32} {l2 : Int32} {D : ev_D} (hl0 : sK S l0 = 15) (hf : fX12_stranger (sL S) (sE S) fu l0 l1 l2 D = some r) : ev_M 1 0 0 yX12_stranger cX12_stranger 4 (some .int) [.ref l0, .int l1, .int l2] S D S r :=
  ev_met (ini := false) (plainFor_of_name (by decide)) (fun h => by cases h) rfl (Nat.le_of_ble_eq_true rfl) (fun F hR => tX12_stranger (S := ev_z S) hR hT ⟨Nat.le_refl 0, Nat.le_refl 0⟩ hl0 hf)
set_option maxHeartbeats 4000000 in
set_option maxRecDepth 100000 in
theorem tX12_toldBy_4 {S : ev_S} {fu : Nat} {r : Int32 × ev_D} {F : ev_Fr} (hR : ev_R RX12 cX12_toldBy 4 1 0 0 false (some .int) S r F) (hT : ev_Ty S) (hC : sC S ≤ 0 ∧ sA S ≤ 0) : ∀ (n : Nat) (l0 : Nat) (l1 : Int32) (l2 : Int32) (l3 : Int32) (D : ev_D), sK S l0 = 15 → fX12_toldBy_4 (sL S) (sE S) fu n l0 l1 l2 l3 D = some r → F S D 4 [some (.ref l0), some (.int l1), some (.int l2), some (.int l3)] [] := by
  have hX := hR.X
  intro n
  induction n with
  | zero =>
    intro l0 l1 l2 l3 D hl0 hf
    rw [fX12_toldBy_4] at hf
    cases hf
  | succ n ih =>
    intro l0 l1 l2 l3 D hl0 hf
    rw [fX12_toldBy_4] at hf
    refine ev_blk hX lkok_RX12 [(.iload_n 3, 1, 0, 0, 0), (.bipush 10, 2, 0, 0, 10)] (by decide +kernel) (g := true) (lv' := [some (.ref l0), some (.int l1), some (.int l2), some (.int l3)]) (st' := [.int (10 : Int32), .int l3]) (D' := D) (pc' := 7) rfl (rfl) rfl ?_
    refine ev_ic_ge hX (off := 27) 34 (by decide +kernel) (by decide) (fun h1 => ?_) (fun h1 => ?_)
    · have hf := ev_it h1 hf
      refine ev_blk hX lkok_RX12 [(.iload_n 2, 1, 0, 0, 0)] (by decide +kernel) (g := true) (lv' := [some (.ref l0), some (.int l1), some (.int l2), some (.int l3)]) (st' := [.int l2]) (D' := D) (pc' := 35) rfl (rfl) rfl ?_
      exact ev_iret hR ev_sm.rf (Option.some.inj hf) hC (by decide +kernel)
    · have hf := ev_nf h1 hf
      refine ev_blk hX lkok_RX12 [(.aload_n 0, 1, 0, 0, 0), (.iload_n 1, 1, 0, 0, 0), (.iload_n 3, 1, 0, 0, 0)] (by decide +kernel) (g := true) (lv' := [some (.ref l0), some (.int l1), some (.int l2), some (.int l3)]) (st' := [.int l3, .int l1, .ref l0]) (D' := D) (pc' := 13) rfl (rfl) rfl ?_
      obtain ⟨v2, D2, hc2, hf⟩ := ev_bd_s hf
      refine ev_callV hX YX12_has ml_RX12_390 (mX12_has hT hl0 hc2) (vs := [.int l1, .int l3]) (st := []) (by decide) 12 hl0 rfl rfl rfl (by decide +kernel) hC ?_
      show F S D2 16 [some (.ref l0), some (.int l1), some (.int l2), some (.int l3)] [.int v2]
      refine ev_if_eq hX (off := 12) 28 (by decide +kernel) (by decide) (fun h3 => ?_) (fun h3 => ?_)
      · have hf := ev_it h3 hf
        refine ev_blk hX lkok_RX12 [(.iinc 3 1, 3, 0, 0, 1)] (by decide +kernel) (g := true) (lv' := [some (.ref l0), some (.int l1), some (.int l2), some (.int (l3 + (1 : Int32)))]) (st' := []) (D' := D2) (pc' := 31) rfl (rfl) rfl ?_
        refine ev_goto hX (off := (-27)) 4 (by decide +kernel) (by decide) ?_
        exact ev_weak hX (ev_le_eq (ev_le_eq (ev_le_eq (ev_le_eq ev_le_nil)))) (ih _ _ _ _ _ hl0 hf)
      · have hf := ev_nf h3 hf
        obtain ⟨hg4, hf⟩ := ev_gd_s hf
        refine ev_blk hX lkok_RX12 [(.iload_n 2, 1, 0, 0, 0), (.aload_n 0, 1, 0, 0, 0), (.getfield 116, 3, 12, 60, 0), (.iload_n 3, 1, 0, 0, 0), (.iaload, 1, 0, 0, 0), (.ior, 1, 0, 0, 0), (.istore_n 2, 1, 0, 0, 0), (.iinc 3 1, 3, 0, 0, 1)] (by decide +kernel) (g := (sK S l0 == 15) && ((sK S ((sE S) l0 60) == 1 && ev_in l3 ((sL S) ((sE S) l0 60))) && (true))) (lv' := [some (.ref l0), some (.int l1), some (.int (l2 ||| (D2 ((sE S) l0 60) (l3).toNatClampNeg))), some (.int (l3 + (1 : Int32)))]) (st' := []) (D' := D2) (pc' := 31) rfl (ev_gk hl0 (ev_gi (ev_tyk hT hl0 rfl rfl) hg4 (rfl))) rfl ?_
        refine ev_goto hX (off := (-27)) 4 (by decide +kernel) (by decide) ?_
        exact ev_weak hX (ev_le_eq (ev_le_eq (ev_le_eq (ev_le_eq ev_le_nil)))) (ih _ _ _ _ _ hl0 hf)
set_option maxHeartbeats 4000000 in
set_option maxRecDepth 100000 in
theorem tX12_toldBy {S : ev_S} {fu : Nat} {r : Int32 × ev_D} {F : ev_Fr} (hR : ev_R RX12 cX12_toldBy 4 1 0 0 false (some .int) S r F) (hT : ev_Ty S) (hC : sC S ≤ 0 ∧ sA S ≤ 0) {l0 : Nat} {l1 : Int32} {D : ev_D} (hl0 : sK S l0 = 15) (hf : fX12_toldBy (sL S) (sE S) fu l0 l1 D = some r) : F S D 0 [some (.ref l0), some (.int l1), none, none] [] := by
  have hX := hR.X
  unfold fX12_toldBy at hf
  refine ev_blk hX lkok_RX12 [(.iload_n 1, 1, 0, 0, 0), (.istore_n 2, 1, 0, 0, 0), (.iconst 0, 1, 0, 0, 0), (.istore_n 3, 1, 0, 0, 0)] (by decide +kernel) (g := true) (lv' := [some (.ref l0), some (.int l1), some (.int l1), some (.int (0 : Int32))]) (st' := []) (D' := D) (pc' := 4) rfl (rfl) rfl ?_
  exact ev_weak hX (ev_le_eq (ev_le_eq (ev_le_eq (ev_le_eq ev_le_nil)))) (tX12_toldBy_4 hR hT hC   fu _ _ _ _ _ hl0 hf)
theorem mX12_toldBy {S : ev_S} {fu : Nat} {r : Int32 × ev_D} (hT : ev_Ty S) {l0 : Nat} {l1 : Int32} {D : ev_D} (hl0 : sK S l0 = 15) (hf : fX12_toldBy (sL S) (sE S) fu l0 l1 D = some r) : ev_M 1 0 0 yX12_toldBy cX12_toldBy 4 (some .int) [.ref l0, .int l1] S D S r :=
  ev_met (ini := false) (plainFor_of_name (by decide)) (fun h => by cases h) rfl (Nat.le_of_ble_eq_true rfl) (fun F hR => tX12_toldBy (S := ev_z S) hR hT ⟨Nat.le_refl 0, Nat.le_refl 0⟩ hl0 hf)
set_option maxHeartbeats 4000000 in
set_option maxRecDepth 100000 in
theorem tX12_reachedFrom_7 {S : ev_S} {fu : Nat} {r : Int32 × ev_D} {F : ev_Fr} (hR : ev_R RX12 cX12_reachedFrom 5 2 0 0 false (some .int) S r F) (hT : ev_Ty S) (hC : sC S ≤ 0 ∧ sA S ≤ 0) : ∀ (n : Nat) (l0 : Nat) (l2 : Int32) (l3 : Int32) (l4 : Int32) (D : ev_D), sK S l0 = 15 → fX12_reachedFrom_7 (sL S) (sE S) fu n l0 l2 l3 l4 D = some r → F S D 7 [some (.ref l0), none, some (.int l2), some (.int l3), some (.int l4)] [] := by
  have hX := hR.X
  intro n
  induction n with
  | zero =>
    intro l0 l2 l3 l4 D hl0 hf
    rw [fX12_reachedFrom_7] at hf
    cases hf
  | succ n ih =>
    intro l0 l2 l3 l4 D hl0 hf
    rw [fX12_reachedFrom_7] at hf
    refine ev_blk hX lkok_RX12 [(.iload 4, 2, 0, 0, 0), (.iload_n 3, 1, 0, 0, 0)] (by decide +kernel) (g := true) (lv' := [some (.ref l0), none, some (.int l2), some (.int l3), some (.int l4)]) (st' := [.int l3, .int l4]) (D' := D) (pc' := 10) rfl (rfl) rfl ?_
    refine ev_ic_eq hX (off := 20) 30 (by decide +kernel) (by decide) (fun h1 => ?_) (fun h1 => ?_)
    · have hf := ev_it h1 hf
      refine ev_blk hX lkok_RX12 [(.iload_n 3, 1, 0, 0, 0)] (by decide +kernel) (g := true) (lv' := [some (.ref l0), none, some (.int l2), some (.int l3), some (.int l4)]) (st' := [.int l3]) (D' := D) (pc' := 31) rfl (rfl) rfl ?_
      exact ev_iret hR ev_sm.rf (Option.some.inj hf) hC (by decide +kernel)
    · have hf := ev_nf h1 hf
      refine ev_blk hX lkok_RX12 [(.iload_n 3, 1, 0, 0, 0), (.istore 4, 2, 0, 0, 0), (.aload_n 0, 1, 0, 0, 0), (.iload 4, 2, 0, 0, 0)] (by decide +kernel) (g := true) (lv' := [some (.ref l0), none, some (.int l2), some (.int l3), some (.int l3)]) (st' := [.int l3, .ref l0]) (D' := D) (pc' := 19) rfl (rfl) rfl ?_
      obtain ⟨v2, D2, hc2, hf⟩ := ev_bd_s hf
      refine ev_callV hX YX12_toldBy ml_RX12_444 (mX12_toldBy hT hl0 hc2) (vs := [.int l3]) (st := []) (by decide) 12 hl0 rfl rfl rfl (by decide +kernel) hC ?_
      show F S D2 22 [some (.ref l0), none, some (.int l2), some (.int l3), some (.int l3)] [.int v2]
      refine ev_blk hX lkok_RX12 [(.iload_n 2, 1, 0, 0, 0), (.iconst (-1), 1, 0, 0, (-1)), (.ixor, 1, 0, 0, 0), (.iand, 1, 0, 0, 0), (.istore_n 3, 1, 0, 0, 0)] (by decide +kernel) (g := true) (lv' := [some (.ref l0), none, some (.int l2), some (.int (v2 &&& (l2 ^^^ (-1 : Int32)))), some (.int l3)]) (st' := []) (D' := D2) (pc' := 27) rfl (rfl) rfl ?_
      refine ev_goto hX (off := (-20)) 7 (by decide +kernel) (by decide) ?_
      exact ev_weak hX (ev_le_eq (ev_le_no (ev_le_eq (ev_le_eq (ev_le_eq ev_le_nil))))) (ih _ _ _ _ _ hl0 hf)
set_option maxHeartbeats 4000000 in
set_option maxRecDepth 100000 in
theorem tX12_reachedFrom {S : ev_S} {fu : Nat} {r : Int32 × ev_D} {F : ev_Fr} (hR : ev_R RX12 cX12_reachedFrom 5 2 0 0 false (some .int) S r F) (hT : ev_Ty S) (hC : sC S ≤ 0 ∧ sA S ≤ 0) {l0 : Nat} {l1 : Int32} {l2 : Int32} {D : ev_D} (hl0 : sK S l0 = 15) (hf : fX12_reachedFrom (sL S) (sE S) fu l0 l1 l2 D = some r) : F S D 0 [some (.ref l0), some (.int l1), some (.int l2), none, none] [] := by
  have hX := hR.X
  unfold fX12_reachedFrom at hf
  refine ev_blk hX lkok_RX12 [(.iconst 1, 1, 0, 0, 1), (.iload_n 1, 1, 0, 0, 0), (.ishl, 1, 0, 0, 0), (.istore_n 3, 1, 0, 0, 0), (.iconst 0, 1, 0, 0, 0), (.istore 4, 2, 0, 0, 0)] (by decide +kernel) (g := true) (lv' := [some (.ref l0), some (.int l1), some (.int l2), some (.int ((1 : Int32) <<< (l1 &&& 31))), some (.int (0 : Int32))]) (st' := []) (D' := D) (pc' := 7) rfl (rfl) rfl ?_
  exact ev_weak hX (ev_le_eq (ev_le_no (ev_le_eq (ev_le_eq (ev_le_eq ev_le_nil))))) (tX12_reachedFrom_7 hR hT hC   fu _ _ _ _ _ hl0 hf)
theorem mX12_reachedFrom {S : ev_S} {fu : Nat} {r : Int32 × ev_D} (hT : ev_Ty S) {l0 : Nat} {l1 : Int32} {l2 : Int32} {D : ev_D} (hl0 : sK S l0 = 15) (hf : fX12_reachedFrom (sL S) (sE S) fu l0 l1 l2 D = some r) : ev_M 2 0 0 yX12_reachedFrom cX12_reachedFrom 5 (some .int) [.ref l0, .int l1, .int l2] S D S r :=
  ev_met (ini := false) (plainFor_of_name (by decide)) (fun h => by cases h) rfl (Nat.le_of_ble_eq_true rfl) (fun F hR => tX12_reachedFrom (S := ev_z S) hR hT ⟨Nat.le_refl 0, Nat.le_refl 0⟩ hl0 hf)
set_option maxHeartbeats 4000000 in
set_option maxRecDepth 100000 in
theorem tX12_doesSplit_26 {S : ev_S} {fu : Nat} {r : Int32 × ev_D} {F : ev_Fr} (hR : ev_R RX12 cX12_doesSplit 4 3 0 0 false (some .boolean) S r F) (hT : ev_Ty S) (hC : sC S ≤ 0 ∧ sA S ≤ 0) : ∀ (n : Nat) (l0 : Nat) (l1 : Int32) (l2 : Int32) (l3 : Int32) (D : ev_D), sK S l0 = 15 → fX12_doesSplit_26 (sL S) (sE S) fu n l0 l1 l2 l3 D = some r → F S D 26 [some (.ref l0), some (.int l1), some (.int l2), some (.int l3)] [] := by
  have hX := hR.X
  intro n
  induction n with
  | zero =>
    intro l0 l1 l2 l3 D hl0 hf
    rw [fX12_doesSplit_26] at hf
    cases hf
  | succ n ih =>
    intro l0 l1 l2 l3 D hl0 hf
    rw [fX12_doesSplit_26] at hf
    refine ev_blk hX lkok_RX12 [(.aload_n 0, 1, 0, 0, 0), (.iload_n 2, 1, 0, 0, 0), (.iload_n 3, 1, 0, 0, 0)] (by decide +kernel) (g := true) (lv' := [some (.ref l0), some (.int l1), some (.int l2), some (.int l3)]) (st' := [.int l3, .int l2, .ref l0]) (D' := D) (pc' := 29) rfl (rfl) rfl ?_
    obtain ⟨v1, D1, hc1, hf⟩ := ev_bd_s hf
    refine ev_callV hX YX12_has ml_RX12_390 (mX12_has hT hl0 hc1) (vs := [.int l2, .int l3]) (st := []) (by decide) 12 hl0 rfl rfl rfl (by decide +kernel) hC ?_
    show F S D1 32 [some (.ref l0), some (.int l1), some (.int l2), some (.int l3)] [.int v1]
    refine ev_if_ne hX (off := 10) 42 (by decide +kernel) (by decide) (fun h2 => ?_) (fun h2 => ?_)
    · have hf := ev_nf h2 hf
      refine ev_blk hX lkok_RX12 [(.aload_n 0, 1, 0, 0, 0), (.iload_n 3, 1, 0, 0, 0), (.iconst 1, 1, 0, 0, 1), (.iload_n 1, 1, 0, 0, 0), (.ishl, 1, 0, 0, 0)] (by decide +kernel) (g := true) (lv' := [some (.ref l0), some (.int l1), some (.int l2), some (.int l3)]) (st' := [.int ((1 : Int32) <<< (l1 &&& 31)), .int l3, .ref l0]) (D' := D1) (pc' := 47) rfl (rfl) rfl ?_
      obtain ⟨v3, D3, hc3, hf⟩ := ev_bd_s hf
      refine ev_callV hX YX12_reachedFrom ml_RX12_447 (mX12_reachedFrom hT hl0 hc3) (vs := [.int l3, .int ((1 : Int32) <<< (l1 &&& 31))]) (st := []) (by decide) 12 hl0 rfl rfl rfl (by decide +kernel) hC ?_
      show F S D3 50 [some (.ref l0), some (.int l1), some (.int l2), some (.int l3)] [.int v3]
      refine ev_blk hX lkok_RX12 [(.iload_n 2, 1, 0, 0, 0)] (by decide +kernel) (g := true) (lv' := [some (.ref l0), some (.int l1), some (.int l2), some (.int l3)]) (st' := [.int l2, .int v3]) (D' := D3) (pc' := 51) rfl (rfl) rfl ?_
      refine ev_ic_eq hX (off := 7) 58 (by decide +kernel) (by decide) (fun h4 => ?_) (fun h4 => ?_)
      · have hf := ev_it h4 hf
        refine ev_blk hX lkok_RX12 [(.iconst 0, 1, 0, 0, 0)] (by decide +kernel) (g := true) (lv' := [some (.ref l0), some (.int l1), some (.int l2), some (.int l3)]) (st' := [.int (0 : Int32)]) (D' := D3) (pc' := 59) rfl (rfl) rfl ?_
        exact ev_zret hR ev_sm.rf (Or.inl rfl) (Option.some.inj hf) hC (by decide +kernel)
      · have hf := ev_nf h4 hf
        refine ev_blk hX lkok_RX12 [(.iconst 1, 1, 0, 0, 1)] (by decide +kernel) (g := true) (lv' := [some (.ref l0), some (.int l1), some (.int l2), some (.int l3)]) (st' := [.int (1 : Int32)]) (D' := D3) (pc' := 55) rfl (rfl) rfl ?_
        refine ev_goto hX (off := 4) 59 (by decide +kernel) (by decide) ?_
        exact ev_zret hR ev_sm.rf (Or.inr rfl) (Option.some.inj hf) hC (by decide +kernel)
    · have hf := ev_it h2 hf
      refine ev_blk hX lkok_RX12 [(.iload_n 3, 1, 0, 0, 0), (.iconst 1, 1, 0, 0, 1), (.iadd, 1, 0, 0, 0), (.istore_n 3, 1, 0, 0, 0)] (by decide +kernel) (g := true) (lv' := [some (.ref l0), some (.int l1), some (.int l2), some (.int (l3 + (1 : Int32)))]) (st' := []) (D' := D1) (pc' := 39) rfl (rfl) rfl ?_
      refine ev_goto hX (off := (-13)) 26 (by decide +kernel) (by decide) ?_
      exact ev_weak hX (ev_le_eq (ev_le_eq (ev_le_eq (ev_le_eq ev_le_nil)))) (ih _ _ _ _ _ hl0 hf)
set_option maxHeartbeats 4000000 in
set_option maxRecDepth 100000 in
theorem tX12_doesSplit {S : ev_S} {fu : Nat} {r : Int32 × ev_D} {F : ev_Fr} (hR : ev_R RX12 cX12_doesSplit 4 3 0 0 false (some .boolean) S r F) (hT : ev_Ty S) (hC : sC S ≤ 0 ∧ sA S ≤ 0) {l0 : Nat} {l1 : Int32} {D : ev_D} (hl0 : sK S l0 = 15) (hf : fX12_doesSplit (sL S) (sE S) fu l0 l1 D = some r) : F S D 0 [some (.ref l0), some (.int l1), none, none] [] := by
  have hX := hR.X
  unfold fX12_doesSplit at hf
  obtain ⟨hg7, hf⟩ := ev_gd_s hf
  refine ev_blk hX lkok_RX12 [(.aload_n 0, 1, 0, 0, 0), (.getfield 116, 3, 12, 60, 0), (.iload_n 1, 1, 0, 0, 0), (.iaload, 1, 0, 0, 0)] (by decide +kernel) (g := (sK S l0 == 15) && ((sK S ((sE S) l0 60) == 1 && ev_in l1 ((sL S) ((sE S) l0 60))) && (true))) (lv' := [some (.ref l0), some (.int l1), none, none]) (st' := [.int (D ((sE S) l0 60) (l1).toNatClampNeg)]) (D' := D) (pc' := 6) rfl (ev_gk hl0 (ev_gi (ev_tyk hT hl0 rfl rfl) hg7 (rfl))) rfl ?_
  refine ev_if_ne hX (off := 5) 11 (by decide +kernel) (by decide) (fun h5 => ?_) (fun h5 => ?_)
  · have hf := ev_nf h5 hf
    refine ev_blk hX lkok_RX12 [(.aload_n 0, 1, 0, 0, 0), (.iload_n 1, 1, 0, 0, 0), (.iconst 0, 1, 0, 0, 0)] (by decide +kernel) (g := true) (lv' := [some (.ref l0), some (.int l1), none, none]) (st' := [.int (0 : Int32), .int l1, .ref l0]) (D' := D) (pc' := 14) rfl (rfl) rfl ?_
    obtain ⟨v6, D6, hc6, hf⟩ := ev_bd_s hf
    refine ev_callV hX YX12_reachedFrom ml_RX12_447 (mX12_reachedFrom hT hl0 hc6) (vs := [.int l1, .int (0 : Int32)]) (st := []) (by decide) 12 hl0 rfl rfl rfl (by decide +kernel) hC ?_
    show F S D6 17 [some (.ref l0), some (.int l1), none, none] [.int v6]
    refine ev_blk hX lkok_RX12 [(.iconst 1, 1, 0, 0, 1), (.iload_n 1, 1, 0, 0, 0), (.ishl, 1, 0, 0, 0), (.iconst (-1), 1, 0, 0, (-1)), (.ixor, 1, 0, 0, 0), (.iand, 1, 0, 0, 0), (.istore_n 2, 1, 0, 0, 0), (.iconst 0, 1, 0, 0, 0), (.istore_n 3, 1, 0, 0, 0)] (by decide +kernel) (g := true) (lv' := [some (.ref l0), some (.int l1), some (.int (v6 &&& (((1 : Int32) <<< (l1 &&& 31)) ^^^ (-1 : Int32)))), some (.int (0 : Int32))]) (st' := []) (D' := D6) (pc' := 26) rfl (rfl) rfl ?_
    exact ev_weak hX (ev_le_eq (ev_le_eq (ev_le_eq (ev_le_eq ev_le_nil)))) (tX12_doesSplit_26 hR hT hC   fu _ _ _ _ _ hl0 hf)
  · have hf := ev_it h5 hf
    refine ev_blk hX lkok_RX12 [(.iconst 0, 1, 0, 0, 0)] (by decide +kernel) (g := true) (lv' := [some (.ref l0), some (.int l1), none, none]) (st' := [.int (0 : Int32)]) (D' := D) (pc' := 10) rfl (rfl) rfl ?_
    exact ev_zret hR ev_sm.rf (Or.inl rfl) (Option.some.inj hf) hC (by decide +kernel)
theorem mX12_doesSplit {S : ev_S} {fu : Nat} {r : Int32 × ev_D} (hT : ev_Ty S) {l0 : Nat} {l1 : Int32} {D : ev_D} (hl0 : sK S l0 = 15) (hf : fX12_doesSplit (sL S) (sE S) fu l0 l1 D = some r) : ev_M 3 0 0 yX12_doesSplit cX12_doesSplit 4 (some .boolean) [.ref l0, .int l1] S D S r :=
  ev_met (ini := false) (plainFor_of_name (by decide)) (fun h => by cases h) rfl (Nat.le_of_ble_eq_true rfl) (fun F hR => tX12_doesSplit (S := ev_z S) hR hT ⟨Nat.le_refl 0, Nat.le_refl 0⟩ hl0 hf)
set_option maxHeartbeats 4000000 in
set_option maxRecDepth 100000 in
theorem tX12_heard_76 {S : ev_S} {fu : Nat} {r : Int32 × ev_D} {F : ev_Fr} (hR : ev_R RX12 cX12_heard 5 4 0 0 false (some .int) S r F) (hT : ev_Ty S) (hC : sC S ≤ 0 ∧ sA S ≤ 0) : ∀ (n : Nat) (l0 : Nat) (l2 : Int32) (l3 : Int32) (l4 : Int32) (D : ev_D), sK S l0 = 15 → fX12_heard_76 (sL S) (sE S) fu n l0 l2 l3 l4 D = some r → F S D 76 [some (.ref l0), none, some (.int l2), some (.int l3), some (.int l4)] [] := by
  have hX := hR.X
  intro n
  induction n with
  | zero =>
    intro l0 l2 l3 l4 D hl0 hf
    rw [fX12_heard_76] at hf
    cases hf
  | succ n ih =>
    intro l0 l2 l3 l4 D hl0 hf
    rw [fX12_heard_76] at hf
    refine ev_blk hX lkok_RX12 [(.aload_n 0, 1, 0, 0, 0), (.iload_n 3, 1, 0, 0, 0)] (by decide +kernel) (g := true) (lv' := [some (.ref l0), none, some (.int l2), some (.int l3), some (.int l4)]) (st' := [.int l3, .ref l0]) (D' := D) (pc' := 78) rfl (rfl) rfl ?_
    obtain ⟨v1, D1, hc1, hf⟩ := ev_bd_s hf
    refine ev_callV hX YX12_toldBy ml_RX12_444 (mX12_toldBy hT hl0 hc1) (vs := [.int l3]) (st := []) (by decide) 12 hl0 rfl rfl rfl (by decide +kernel) hC ?_
    show F S D1 81 [some (.ref l0), none, some (.int l2), some (.int l3), some (.int l4)] [.int v1]
    refine ev_blk hX lkok_RX12 [(.iload_n 3, 1, 0, 0, 0)] (by decide +kernel) (g := true) (lv' := [some (.ref l0), none, some (.int l2), some (.int l3), some (.int l4)]) (st' := [.int l3, .int v1]) (D' := D1) (pc' := 82) rfl (rfl) rfl ?_
    refine ev_ic_eq hX (off := 18) 100 (by decide +kernel) (by decide) (fun h2 => ?_) (fun h2 => ?_)
    · have hf := ev_it h2 hf
      refine ev_blk hX lkok_RX12 [(.iload_n 2, 1, 0, 0, 0)] (by decide +kernel) (g := true) (lv' := [some (.ref l0), none, some (.int l2), some (.int l3), some (.int l4)]) (st' := [.int l2]) (D' := D1) (pc' := 101) rfl (rfl) rfl ?_
      refine ev_if_ne hX (off := 8) 109 (by decide +kernel) (by decide) (fun h3 => ?_) (fun h3 => ?_)
      · have hf := ev_nf h3 hf
        refine ev_blk hX lkok_RX12 [(.aload_n 0, 1, 0, 0, 0), (.iload_n 3, 1, 0, 0, 0)] (by decide +kernel) (g := true) (lv' := [some (.ref l0), none, some (.int l2), some (.int l3), some (.int l4)]) (st' := [.int l3, .ref l0]) (D' := D1) (pc' := 111) rfl (rfl) rfl ?_
        obtain ⟨v4, D4, hc4, hf⟩ := ev_bd_s hf
        refine ev_callV hX YX12_onesOf ml_RX12_326 (mX12_onesOf hT hl0 hc4) (vs := [.int l3]) (st := []) (by decide) 12 hl0 rfl rfl rfl (by decide +kernel) hC ?_
        show F S D4 114 [some (.ref l0), none, some (.int l2), some (.int l3), some (.int l4)] [.int v4]
        exact ev_iret hR ev_sm.rf (Option.some.inj hf) hC (by decide +kernel)
      · have hf := ev_it h3 hf
        refine ev_blk hX lkok_RX12 [(.iload 4, 2, 0, 0, 0)] (by decide +kernel) (g := true) (lv' := [some (.ref l0), none, some (.int l2), some (.int l3), some (.int l4)]) (st' := [.int l4]) (D' := D1) (pc' := 106) rfl (rfl) rfl ?_
        refine ev_goto hX (off := 8) 114 (by decide +kernel) (by decide) ?_
        exact ev_iret hR ev_sm.rf (Option.some.inj hf) hC (by decide +kernel)
    · have hf := ev_nf h2 hf
      refine ev_blk hX lkok_RX12 [(.aload_n 0, 1, 0, 0, 0), (.iload_n 3, 1, 0, 0, 0)] (by decide +kernel) (g := true) (lv' := [some (.ref l0), none, some (.int l2), some (.int l3), some (.int l4)]) (st' := [.int l3, .ref l0]) (D' := D1) (pc' := 87) rfl (rfl) rfl ?_
      obtain ⟨v5, D5, hc5, hf⟩ := ev_bd_s hf
      refine ev_callV hX YX12_toldBy ml_RX12_444 (mX12_toldBy hT hl0 hc5) (vs := [.int l3]) (st := []) (by decide) 12 hl0 rfl rfl rfl (by decide +kernel) hC ?_
      show F S D5 90 [some (.ref l0), none, some (.int l2), some (.int l3), some (.int l4)] [.int v5]
      refine ev_blk hX lkok_RX12 [(.istore_n 3, 1, 0, 0, 0), (.iload 4, 2, 0, 0, 0), (.iconst 1, 1, 0, 0, 1), (.iadd, 1, 0, 0, 0), (.istore 4, 2, 0, 0, 0)] (by decide +kernel) (g := true) (lv' := [some (.ref l0), none, some (.int l2), some (.int v5), some (.int (l4 + (1 : Int32)))]) (st' := []) (D' := D5) (pc' := 97) rfl (rfl) rfl ?_
      refine ev_goto hX (off := (-21)) 76 (by decide +kernel) (by decide) ?_
      exact ev_weak hX (ev_le_eq (ev_le_no (ev_le_eq (ev_le_eq (ev_le_eq ev_le_nil))))) (ih _ _ _ _ _ hl0 hf)
set_option maxHeartbeats 4000000 in
set_option maxRecDepth 100000 in
theorem tX12_heard_15 {S : ev_S} {fu : Nat} {r : Int32 × ev_D} {F : ev_Fr} (hR : ev_R RX12 cX12_heard 5 4 0 0 false (some .int) S r F) (hT : ev_Ty S) (hC : sC S ≤ 0 ∧ sA S ≤ 0) : ∀ (n : Nat) (l0 : Nat) (l3 : Int32) (l4 : Int32) (D : ev_D), sK S l0 = 15 → fX12_heard_15 (sL S) (sE S) fu n l0 l3 l4 D = some r → F S D 15 [some (.ref l0), none, none, some (.int l3), some (.int l4)] [] := by
  have hX := hR.X
  intro n
  induction n with
  | zero =>
    intro l0 l3 l4 D hl0 hf
    rw [fX12_heard_15] at hf
    cases hf
  | succ n ih =>
    intro l0 l3 l4 D hl0 hf
    rw [fX12_heard_15] at hf
    refine ev_blk hX lkok_RX12 [(.iload 4, 2, 0, 0, 0), (.bipush 10, 2, 0, 0, 10)] (by decide +kernel) (g := true) (lv' := [some (.ref l0), none, none, some (.int l3), some (.int l4)]) (st' := [.int (10 : Int32), .int l4]) (D' := D) (pc' := 19) rfl (rfl) rfl ?_
    refine ev_ic_ge hX (off := 25) 44 (by decide +kernel) (by decide) (fun h6 => ?_) (fun h6 => ?_)
    · have hf := ev_it h6 hf
      refine ev_blk hX lkok_RX12 [(.iload_n 3, 1, 0, 0, 0)] (by decide +kernel) (g := true) (lv' := [some (.ref l0), none, none, some (.int l3), some (.int l4)]) (st' := [.int l3]) (D' := D) (pc' := 45) rfl (rfl) rfl ?_
      exact ev_iret hR ev_sm.rf (Option.some.inj hf) hC (by decide +kernel)
    · have hf := ev_nf h6 hf
      refine ev_blk hX lkok_RX12 [(.aload_n 0, 1, 0, 0, 0), (.iload 4, 2, 0, 0, 0)] (by decide +kernel) (g := true) (lv' := [some (.ref l0), none, none, some (.int l3), some (.int l4)]) (st' := [.int l4, .ref l0]) (D' := D) (pc' := 25) rfl (rfl) rfl ?_
      obtain ⟨v7, D7, hc7, hf⟩ := ev_bd_s hf
      refine ev_callV hX YX12_doesSplit ml_RX12_450 (mX12_doesSplit hT hl0 hc7) (vs := [.int l4]) (st := []) (by decide) 12 hl0 rfl rfl rfl (by decide +kernel) hC ?_
      show F S D7 28 [some (.ref l0), none, none, some (.int l3), some (.int l4)] [.int v7]
      refine ev_if_eq hX (off := 10) 38 (by decide +kernel) (by decide) (fun h8 => ?_) (fun h8 => ?_)
      · have hf := ev_it h8 hf
        refine ev_blk hX lkok_RX12 [(.iinc 4 1, 3, 0, 0, 1)] (by decide +kernel) (g := true) (lv' := [some (.ref l0), none, none, some (.int l3), some (.int (l4 + (1 : Int32)))]) (st' := []) (D' := D7) (pc' := 41) rfl (rfl) rfl ?_
        refine ev_goto hX (off := (-26)) 15 (by decide +kernel) (by decide) ?_
        exact ev_weak hX (ev_le_eq (ev_le_no (ev_le_no (ev_le_eq (ev_le_eq ev_le_nil))))) (ih _ _ _ _ hl0 hf)
      · have hf := ev_nf h8 hf
        refine ev_blk hX lkok_RX12 [(.iload_n 3, 1, 0, 0, 0), (.iconst 1, 1, 0, 0, 1), (.iload 4, 2, 0, 0, 0), (.ishl, 1, 0, 0, 0), (.ior, 1, 0, 0, 0), (.istore_n 3, 1, 0, 0, 0), (.iinc 4 1, 3, 0, 0, 1)] (by decide +kernel) (g := true) (lv' := [some (.ref l0), none, none, some (.int (l3 ||| ((1 : Int32) <<< (l4 &&& 31)))), some (.int (l4 + (1 : Int32)))]) (st' := []) (D' := D7) (pc' := 41) rfl (rfl) rfl ?_
        refine ev_goto hX (off := (-26)) 15 (by decide +kernel) (by decide) ?_
        exact ev_weak hX (ev_le_eq (ev_le_no (ev_le_no (ev_le_eq (ev_le_eq ev_le_nil))))) (ih _ _ _ _ hl0 hf)
set_option maxHeartbeats 4000000 in
set_option maxRecDepth 100000 in
theorem tX12_heard {S : ev_S} {fu : Nat} {r : Int32 × ev_D} {F : ev_Fr} (hR : ev_R RX12 cX12_heard 5 4 0 0 false (some .int) S r F) (hT : ev_Ty S) (hC : sC S ≤ 0 ∧ sA S ≤ 0) {l0 : Nat} {l1 : Int32} {l2 : Int32} {D : ev_D} (hl0 : sK S l0 = 15) (hf : fX12_heard (sL S) (sE S) fu l0 l1 l2 D = some r) : F S D 0 [some (.ref l0), some (.int l1), some (.int l2), none, none] [] := by
  have hX := hR.X
  unfold fX12_heard at hf
  refine ev_blk hX lkok_RX12 [(.aload_n 0, 1, 0, 0, 0), (.iconst 0, 1, 0, 0, 0), (.putfield 128, 3, 12, 0, 0), (.iload_n 2, 1, 0, 0, 0), (.iconst 2, 1, 0, 0, 2)] (by decide +kernel) (g := (sK S l0 == 15) && (true)) (lv' := [some (.ref l0), some (.int l1), some (.int l2), none, none]) (st' := [.int (2 : Int32), .int l2]) (D' := (ev_up D l0 0 (0 : Int32))) (pc' := 7) rfl (ev_gk hl0 (rfl)) rfl ?_
  refine ev_ic_ne hX (off := 39) 46 (by decide +kernel) (by decide) (fun h9 => ?_) (fun h9 => ?_)
  · have hf := ev_nf h9 hf
    refine ev_blk hX lkok_RX12 [(.aload_n 0, 1, 0, 0, 0), (.iload_n 1, 1, 0, 0, 0), (.iconst 0, 1, 0, 0, 0), (.bipush 9, 2, 0, 0, 9)] (by decide +kernel) (g := true) (lv' := [some (.ref l0), some (.int l1), some (.int l2), none, none]) (st' := [.int (9 : Int32), .int (0 : Int32), .int l1, .ref l0]) (D' := (ev_up D l0 0 (0 : Int32))) (pc' := 51) rfl (rfl) rfl ?_
    obtain ⟨v10, D10, hc10, hf⟩ := ev_bd_s hf
    refine ev_callV hX YX12_isIn ml_RX12_150 (mX12_isIn hT hl0 hc10) (vs := [.int l1, .int (0 : Int32), .int (9 : Int32)]) (st := []) (by decide) 12 hl0 rfl rfl rfl (by decide +kernel) hC ?_
    show F S D10 54 [some (.ref l0), some (.int l1), some (.int l2), none, none] [.int v10]
    refine ev_if_eq hX (off := 13) 67 (by decide +kernel) (by decide) (fun h11 => ?_) (fun h11 => ?_)
    · have hf := ev_it h11 hf
      refine ev_blk hX lkok_RX12 [(.iconst (-1), 1, 0, 0, (-1))] (by decide +kernel) (g := true) (lv' := [some (.ref l0), some (.int l1), some (.int l2), none, none]) (st' := [.int (-1 : Int32)]) (D' := D10) (pc' := 68) rfl (rfl) rfl ?_
      exact ev_iret hR ev_sm.rf (Option.some.inj hf) hC (by decide +kernel)
    · have hf := ev_nf h11 hf
      refine ev_blk hX lkok_RX12 [(.aload_n 0, 1, 0, 0, 0), (.iload_n 2, 1, 0, 0, 0), (.iconst 0, 1, 0, 0, 0), (.iconst 1, 1, 0, 0, 1)] (by decide +kernel) (g := true) (lv' := [some (.ref l0), some (.int l1), some (.int l2), none, none]) (st' := [.int (1 : Int32), .int (0 : Int32), .int l2, .ref l0]) (D' := D10) (pc' := 61) rfl (rfl) rfl ?_
      obtain ⟨v12, D12, hc12, hf⟩ := ev_bd_s hf
      refine ev_callV hX YX12_isIn ml_RX12_150 (mX12_isIn hT hl0 hc12) (vs := [.int l2, .int (0 : Int32), .int (1 : Int32)]) (st := []) (by decide) 12 hl0 rfl rfl rfl (by decide +kernel) hC ?_
      show F S D12 64 [some (.ref l0), some (.int l1), some (.int l2), none, none] [.int v12]
      refine ev_if_ne hX (off := 5) 69 (by decide +kernel) (by decide) (fun h13 => ?_) (fun h13 => ?_)
      · have hf := ev_nf h13 hf
        refine ev_blk hX lkok_RX12 [(.iconst 1, 1, 0, 0, 1), (.iload_n 1, 1, 0, 0, 0), (.ishl, 1, 0, 0, 0), (.istore_n 3, 1, 0, 0, 0), (.iconst 0, 1, 0, 0, 0), (.istore 4, 2, 0, 0, 0)] (by decide +kernel) (g := true) (lv' := [some (.ref l0), some (.int l1), some (.int l2), some (.int ((1 : Int32) <<< (l1 &&& 31))), some (.int (0 : Int32))]) (st' := []) (D' := D12) (pc' := 76) rfl (rfl) rfl ?_
        exact ev_weak hX (ev_le_eq (ev_le_no (ev_le_eq (ev_le_eq (ev_le_eq ev_le_nil))))) (tX12_heard_76 hR hT hC   fu _ _ _ _ _ hl0 hf)
      · have hf := ev_it h13 hf
        refine ev_blk hX lkok_RX12 [(.iconst (-1), 1, 0, 0, (-1))] (by decide +kernel) (g := true) (lv' := [some (.ref l0), some (.int l1), some (.int l2), none, none]) (st' := [.int (-1 : Int32)]) (D' := D12) (pc' := 68) rfl (rfl) rfl ?_
        exact ev_iret hR ev_sm.rf (Option.some.inj hf) hC (by decide +kernel)
  · have hf := ev_it h9 hf
    refine ev_blk hX lkok_RX12 [(.iconst 0, 1, 0, 0, 0), (.istore_n 3, 1, 0, 0, 0), (.iconst 0, 1, 0, 0, 0), (.istore 4, 2, 0, 0, 0)] (by decide +kernel) (g := true) (lv' := [some (.ref l0), some (.int l1), some (.int l2), some (.int (0 : Int32)), some (.int (0 : Int32))]) (st' := []) (D' := (ev_up D l0 0 (0 : Int32))) (pc' := 15) rfl (rfl) rfl ?_
    exact ev_weak hX (ev_le_eq (ev_le_no (ev_le_no (ev_le_eq (ev_le_eq ev_le_nil))))) (tX12_heard_15 hR hT hC   fu _ _ _ _ hl0 hf)
theorem mX12_heard {S : ev_S} {fu : Nat} {r : Int32 × ev_D} (hT : ev_Ty S) {l0 : Nat} {l1 : Int32} {l2 : Int32} {D : ev_D} (hl0 : sK S l0 = 15) (hf : fX12_heard (sL S) (sE S) fu l0 l1 l2 D = some r) : ev_M 4 0 0 yX12_heard cX12_heard 5 (some .int) [.ref l0, .int l1, .int l2] S D S r :=
  ev_met (ini := false) (plainFor_of_name (by decide)) (fun h => by cases h) rfl (Nat.le_of_ble_eq_true rfl) (fun F hR => tX12_heard (S := ev_z S) hR hT ⟨Nat.le_refl 0, Nat.le_refl 0⟩ hl0 hf)
set_option maxHeartbeats 4000000 in
set_option maxRecDepth 100000 in
theorem tX12_needOf {S : ev_S} {fu : Nat} {r : Int32 × ev_D} {F : ev_Fr} (hR : ev_R RX12 cX12_needOf 2 0 0 0 false (some .int) S r F) (hT : ev_Ty S) (hC : sC S ≤ 0 ∧ sA S ≤ 0) {l0 : Nat} {l1 : Int32} {D : ev_D} (hl0 : sK S l0 = 15) (hf : fX12_needOf (sL S) (sE S) fu l0 l1 D = some r) : F S D 0 [some (.ref l0), some (.int l1)] [] := by
  have hX := hR.X
  unfold fX12_needOf at hf
  obtain ⟨hg1, hf⟩ := ev_gd_s hf
  obtain ⟨hg2, hf⟩ := ev_gd_s hf
  refine ev_blk hX lkok_RX12 [(.aload_n 0, 1, 0, 0, 0), (.getfield 7, 3, 12, 1, 0), (.bipush 14, 2, 0, 0, 14), (.iload_n 1, 1, 0, 0, 0), (.iadd, 1, 0, 0, 0), (.iaload, 1, 0, 0, 0), (.aload_n 0, 1, 0, 0, 0), (.getfield 28, 3, 12, 10, 0), (.iload_n 1, 1, 0, 0, 0), (.iaload, 1, 0, 0, 0), (.iadd, 1, 0, 0, 0)] (by decide +kernel) (g := (sK S l0 == 15) && ((sK S ((sE S) l0 1) == 1 && ev_in ((14 : Int32) + l1) ((sL S) ((sE S) l0 1))) && ((sK S l0 == 15) && ((sK S ((sE S) l0 10) == 1 && ev_in l1 ((sL S) ((sE S) l0 10))) && (true))))) (lv' := [some (.ref l0), some (.int l1)]) (st' := [.int ((D ((sE S) l0 1) (((14 : Int32) + l1)).toNatClampNeg) + (D ((sE S) l0 10) (l1).toNatClampNeg))]) (D' := D) (pc' := 16) rfl (ev_gk hl0 (ev_gi (ev_tyk hT hl0 rfl rfl) hg1 (ev_gk hl0 (ev_gi (ev_tyk hT hl0 rfl rfl) hg2 (rfl))))) rfl ?_
  exact ev_iret hR ev_sm.rf (Option.some.inj hf) hC (by decide +kernel)
theorem mX12_needOf {S : ev_S} {fu : Nat} {r : Int32 × ev_D} (hT : ev_Ty S) {l0 : Nat} {l1 : Int32} {D : ev_D} (hl0 : sK S l0 = 15) (hf : fX12_needOf (sL S) (sE S) fu l0 l1 D = some r) : ev_M 0 0 0 yX12_needOf cX12_needOf 2 (some .int) [.ref l0, .int l1] S D S r :=
  ev_met (ini := false) (plainFor_of_name (by decide)) (fun h => by cases h) rfl (Nat.le_of_ble_eq_true rfl) (fun F hR => tX12_needOf (S := ev_z S) hR hT ⟨Nat.le_refl 0, Nat.le_refl 0⟩ hl0 hf)
set_option maxHeartbeats 4000000 in
set_option maxRecDepth 100000 in
theorem tX12_fedAhead_4 {S : ev_S} {fu : Nat} {r : Int32 × ev_D} {F : ev_Fr} (hR : ev_R RX12 cX12_fedAhead 4 1 0 0 false (some .int) S r F) (hT : ev_Ty S) (hC : sC S ≤ 0 ∧ sA S ≤ 0) : ∀ (n : Nat) (l0 : Nat) (l1 : Int32) (l2 : Int32) (l3 : Int32) (D : ev_D), sK S l0 = 15 → fX12_fedAhead_4 (sL S) (sE S) fu n l0 l1 l2 l3 D = some r → F S D 4 [some (.ref l0), some (.int l1), some (.int l2), some (.int l3)] [] := by
  have hX := hR.X
  intro n
  induction n with
  | zero =>
    intro l0 l1 l2 l3 D hl0 hf
    rw [fX12_fedAhead_4] at hf
    cases hf
  | succ n ih =>
    intro l0 l1 l2 l3 D hl0 hf
    rw [fX12_fedAhead_4] at hf
    refine ev_blk hX lkok_RX12 [(.iload_n 3, 1, 0, 0, 0), (.aload_n 0, 1, 0, 0, 0), (.getfield 140, 3, 12, 7, 0)] (by decide +kernel) (g := (sK S l0 == 15) && (true)) (lv' := [some (.ref l0), some (.int l1), some (.int l2), some (.int l3)]) (st' := [.int (D l0 7), .int l3]) (D' := D) (pc' := 9) rfl (ev_gk hl0 (rfl)) rfl ?_
    refine ev_ic_ge hX (off := 44) 53 (by decide +kernel) (by decide) (fun h1 => ?_) (fun h1 => ?_)
    · have hf := ev_it h1 hf
      refine ev_blk hX lkok_RX12 [(.iload_n 2, 1, 0, 0, 0)] (by decide +kernel) (g := true) (lv' := [some (.ref l0), some (.int l1), some (.int l2), some (.int l3)]) (st' := [.int l2]) (D' := D) (pc' := 54) rfl (rfl) rfl ?_
      exact ev_iret hR ev_sm.rf (Option.some.inj hf) hC (by decide +kernel)
    · have hf := ev_nf h1 hf
      refine ev_blk hX lkok_RX12 [(.aload_n 0, 1, 0, 0, 0), (.iload_n 3, 1, 0, 0, 0)] (by decide +kernel) (g := true) (lv' := [some (.ref l0), some (.int l1), some (.int l2), some (.int l3)]) (st' := [.int l3, .ref l0]) (D' := D) (pc' := 14) rfl (rfl) rfl ?_
      obtain ⟨v2, D2, hc2, hf⟩ := ev_bd_s hf
      refine ev_callV hX YX12_needOf ml_RX12_453 (mX12_needOf hT hl0 hc2) (vs := [.int l3]) (st := []) (by decide) 12 hl0 rfl rfl rfl (by decide +kernel) hC ?_
      show F S D2 17 [some (.ref l0), some (.int l1), some (.int l2), some (.int l3)] [.int v2]
      refine ev_blk hX lkok_RX12 [(.aload_n 0, 1, 0, 0, 0), (.iload_n 1, 1, 0, 0, 0)] (by decide +kernel) (g := true) (lv' := [some (.ref l0), some (.int l1), some (.int l2), some (.int l3)]) (st' := [.int l1, .ref l0, .int v2]) (D' := D2) (pc' := 19) rfl (rfl) rfl ?_
      obtain ⟨v3, D3, hc3, hf⟩ := ev_bd_s hf
      refine ev_callV hX YX12_needOf ml_RX12_453 (mX12_needOf hT hl0 hc3) (vs := [.int l1]) (st := [.int v2]) (by decide) 12 hl0 rfl rfl rfl (by decide +kernel) hC ?_
      show F S D3 22 [some (.ref l0), some (.int l1), some (.int l2), some (.int l3)] [.int v3, .int v2]
      refine ev_ic_gt hX (off := 21) 43 (by decide +kernel) (by decide) (fun h4 => ?_) (fun h4 => ?_)
      · have hf := ev_it h4 hf
        refine ev_blk hX lkok_RX12 [(.iload_n 2, 1, 0, 0, 0), (.iconst 1, 1, 0, 0, 1), (.iadd, 1, 0, 0, 0), (.istore_n 2, 1, 0, 0, 0), (.iinc 3 1, 3, 0, 0, 1)] (by decide +kernel) (g := true) (lv' := [some (.ref l0), some (.int l1), some (.int (l2 + (1 : Int32))), some (.int (l3 + (1 : Int32)))]) (st' := []) (D' := D3) (pc' := 50) rfl (rfl) rfl ?_
        refine ev_goto hX (off := (-46)) 4 (by decide +kernel) (by decide) ?_
        exact ev_weak hX (ev_le_eq (ev_le_eq (ev_le_eq (ev_le_eq ev_le_nil)))) (ih _ _ _ _ _ hl0 hf)
      · have hf := ev_nf h4 hf
        refine ev_blk hX lkok_RX12 [(.aload_n 0, 1, 0, 0, 0), (.iload_n 3, 1, 0, 0, 0)] (by decide +kernel) (g := true) (lv' := [some (.ref l0), some (.int l1), some (.int l2), some (.int l3)]) (st' := [.int l3, .ref l0]) (D' := D3) (pc' := 27) rfl (rfl) rfl ?_
        obtain ⟨v5, D5, hc5, hf⟩ := ev_bd_s hf
        refine ev_callV hX YX12_needOf ml_RX12_453 (mX12_needOf hT hl0 hc5) (vs := [.int l3]) (st := []) (by decide) 12 hl0 rfl rfl rfl (by decide +kernel) hC ?_
        show F S D5 30 [some (.ref l0), some (.int l1), some (.int l2), some (.int l3)] [.int v5]
        refine ev_blk hX lkok_RX12 [(.aload_n 0, 1, 0, 0, 0), (.iload_n 1, 1, 0, 0, 0)] (by decide +kernel) (g := true) (lv' := [some (.ref l0), some (.int l1), some (.int l2), some (.int l3)]) (st' := [.int l1, .ref l0, .int v5]) (D' := D5) (pc' := 32) rfl (rfl) rfl ?_
        obtain ⟨v6, D6, hc6, hf⟩ := ev_bd_s hf
        refine ev_callV hX YX12_needOf ml_RX12_453 (mX12_needOf hT hl0 hc6) (vs := [.int l1]) (st := [.int v5]) (by decide) 12 hl0 rfl rfl rfl (by decide +kernel) hC ?_
        show F S D6 35 [some (.ref l0), some (.int l1), some (.int l2), some (.int l3)] [.int v6, .int v5]
        refine ev_ic_ne hX (off := 12) 47 (by decide +kernel) (by decide) (fun h7 => ?_) (fun h7 => ?_)
        · have hf := ev_nf h7 hf
          refine ev_blk hX lkok_RX12 [(.iinc 3 1, 3, 0, 0, 1)] (by decide +kernel) (g := true) (lv' := [some (.ref l0), some (.int l1), some (.int l2), some (.int (l3 + (1 : Int32)))]) (st' := []) (D' := D6) (pc' := 50) rfl (rfl) rfl ?_
          refine ev_goto hX (off := (-46)) 4 (by decide +kernel) (by decide) ?_
          exact ev_weak hX (ev_le_eq (ev_le_eq (ev_le_eq (ev_le_eq ev_le_nil)))) (ih _ _ _ _ _ hl0 hf)
        · have hf := ev_it h7 hf
          refine ev_blk hX lkok_RX12 [(.iload_n 3, 1, 0, 0, 0), (.iload_n 1, 1, 0, 0, 0)] (by decide +kernel) (g := true) (lv' := [some (.ref l0), some (.int l1), some (.int l2), some (.int l3)]) (st' := [.int l1, .int l3]) (D' := D6) (pc' := 40) rfl (rfl) rfl ?_
          refine ev_ic_ge hX (off := 7) 47 (by decide +kernel) (by decide) (fun h8 => ?_) (fun h8 => ?_)
          · have hf := ev_it h8 hf
            refine ev_blk hX lkok_RX12 [(.iinc 3 1, 3, 0, 0, 1)] (by decide +kernel) (g := true) (lv' := [some (.ref l0), some (.int l1), some (.int l2), some (.int (l3 + (1 : Int32)))]) (st' := []) (D' := D6) (pc' := 50) rfl (rfl) rfl ?_
            refine ev_goto hX (off := (-46)) 4 (by decide +kernel) (by decide) ?_
            exact ev_weak hX (ev_le_eq (ev_le_eq (ev_le_eq (ev_le_eq ev_le_nil)))) (ih _ _ _ _ _ hl0 hf)
          · have hf := ev_nf h8 hf
            refine ev_blk hX lkok_RX12 [(.iload_n 2, 1, 0, 0, 0), (.iconst 1, 1, 0, 0, 1), (.iadd, 1, 0, 0, 0), (.istore_n 2, 1, 0, 0, 0), (.iinc 3 1, 3, 0, 0, 1)] (by decide +kernel) (g := true) (lv' := [some (.ref l0), some (.int l1), some (.int (l2 + (1 : Int32))), some (.int (l3 + (1 : Int32)))]) (st' := []) (D' := D6) (pc' := 50) rfl (rfl) rfl ?_
            refine ev_goto hX (off := (-46)) 4 (by decide +kernel) (by decide) ?_
            exact ev_weak hX (ev_le_eq (ev_le_eq (ev_le_eq (ev_le_eq ev_le_nil)))) (ih _ _ _ _ _ hl0 hf)
set_option maxHeartbeats 4000000 in
set_option maxRecDepth 100000 in
theorem tX12_fedAhead {S : ev_S} {fu : Nat} {r : Int32 × ev_D} {F : ev_Fr} (hR : ev_R RX12 cX12_fedAhead 4 1 0 0 false (some .int) S r F) (hT : ev_Ty S) (hC : sC S ≤ 0 ∧ sA S ≤ 0) {l0 : Nat} {l1 : Int32} {D : ev_D} (hl0 : sK S l0 = 15) (hf : fX12_fedAhead (sL S) (sE S) fu l0 l1 D = some r) : F S D 0 [some (.ref l0), some (.int l1), none, none] [] := by
  have hX := hR.X
  unfold fX12_fedAhead at hf
  refine ev_blk hX lkok_RX12 [(.iconst 0, 1, 0, 0, 0), (.istore_n 2, 1, 0, 0, 0), (.iconst 0, 1, 0, 0, 0), (.istore_n 3, 1, 0, 0, 0)] (by decide +kernel) (g := true) (lv' := [some (.ref l0), some (.int l1), some (.int (0 : Int32)), some (.int (0 : Int32))]) (st' := []) (D' := D) (pc' := 4) rfl (rfl) rfl ?_
  exact ev_weak hX (ev_le_eq (ev_le_eq (ev_le_eq (ev_le_eq ev_le_nil)))) (tX12_fedAhead_4 hR hT hC   fu _ _ _ _ _ hl0 hf)
theorem mX12_fedAhead {S : ev_S} {fu : Nat} {r : Int32 × ev_D} (hT : ev_Ty S) {l0 : Nat} {l1 : Int32} {D : ev_D} (hl0 : sK S l0 = 15) (hf : fX12_fedAhead (sL S) (sE S) fu l0 l1 D = some r) : ev_M 1 0 0 yX12_fedAhead cX12_fedAhead 4 (some .int) [.ref l0, .int l1] S D S r :=
  ev_met (ini := false) (plainFor_of_name (by decide)) (fun h => by cases h) rfl (Nat.le_of_ble_eq_true rfl) (fun F hR => tX12_fedAhead (S := ev_z S) hR hT ⟨Nat.le_refl 0, Nat.le_refl 0⟩ hl0 hf)
set_option maxHeartbeats 4000000 in
set_option maxRecDepth 100000 in
theorem tX12_feeds_32 {S : ev_S} {fu : Nat} {r : Int32 × ev_D} {F : ev_Fr} (hR : ev_R RX12 cX12_feeds 4 2 0 0 false (some .int) S r F) (hT : ev_Ty S) (hC : sC S ≤ 0 ∧ sA S ≤ 0) : ∀ (n : Nat) (l0 : Nat) (l1 : Int32) (l2 : Int32) (l3 : Int32) (D : ev_D), sK S l0 = 15 → fX12_feeds_32 (sL S) (sE S) fu n l0 l1 l2 l3 D = some r → F S D 32 [some (.ref l0), some (.int l1), some (.int l2), some (.int l3)] [] := by
  have hX := hR.X
  intro n
  induction n with
  | zero =>
    intro l0 l1 l2 l3 D hl0 hf
    rw [fX12_feeds_32] at hf
    cases hf
  | succ n ih =>
    intro l0 l1 l2 l3 D hl0 hf
    rw [fX12_feeds_32] at hf
    refine ev_blk hX lkok_RX12 [(.iload_n 3, 1, 0, 0, 0), (.aload_n 0, 1, 0, 0, 0), (.getfield 140, 3, 12, 7, 0)] (by decide +kernel) (g := (sK S l0 == 15) && (true)) (lv' := [some (.ref l0), some (.int l1), some (.int l2), some (.int l3)]) (st' := [.int (D l0 7), .int l3]) (D' := D) (pc' := 37) rfl (ev_gk hl0 (rfl)) rfl ?_
    refine ev_ic_ge hX (off := 39) 76 (by decide +kernel) (by decide) (fun h1 => ?_) (fun h1 => ?_)
    · have hf := ev_it h1 hf
      refine ev_blk hX lkok_RX12 [(.iload_n 2, 1, 0, 0, 0)] (by decide +kernel) (g := true) (lv' := [some (.ref l0), some (.int l1), some (.int l2), some (.int l3)]) (st' := [.int l2]) (D' := D) (pc' := 77) rfl (rfl) rfl ?_
      exact ev_iret hR ev_sm.rf (Option.some.inj hf) hC (by decide +kernel)
    · have hf := ev_nf h1 hf
      refine ev_blk hX lkok_RX12 [(.aload_n 0, 1, 0, 0, 0), (.iload_n 3, 1, 0, 0, 0)] (by decide +kernel) (g := true) (lv' := [some (.ref l0), some (.int l1), some (.int l2), some (.int l3)]) (st' := [.int l3, .ref l0]) (D' := D) (pc' := 42) rfl (rfl) rfl ?_
      obtain ⟨v2, D2, hc2, hf⟩ := ev_bd_s hf
      refine ev_callV hX YX12_fedAhead ml_RX12_456 (mX12_fedAhead hT hl0 hc2) (vs := [.int l3]) (st := []) (by decide) 12 hl0 rfl rfl rfl (by decide +kernel) hC ?_
      show F S D2 45 [some (.ref l0), some (.int l1), some (.int l2), some (.int l3)] [.int v2]
      refine ev_blk hX lkok_RX12 [(.iload_n 1, 1, 0, 0, 0), (.bipush 10, 2, 0, 0, 10), (.isub, 1, 0, 0, 0)] (by decide +kernel) (g := true) (lv' := [some (.ref l0), some (.int l1), some (.int l2), some (.int l3)]) (st' := [.int (l1 - (10 : Int32)), .int v2]) (D' := D2) (pc' := 49) rfl (rfl) rfl ?_
      refine ev_ic_ne hX (off := 5) 54 (by decide +kernel) (by decide) (fun h3 => ?_) (fun h3 => ?_)
      · have hf := ev_nf h3 hf
        refine ev_blk hX lkok_RX12 [(.iload_n 2, 1, 0, 0, 0), (.aload_n 0, 1, 0, 0, 0), (.iload_n 3, 1, 0, 0, 0)] (by decide +kernel) (g := true) (lv' := [some (.ref l0), some (.int l1), some (.int l2), some (.int l3)]) (st' := [.int l3, .ref l0, .int l2]) (D' := D2) (pc' := 57) rfl (rfl) rfl ?_
        obtain ⟨v4, D4, hc4, hf⟩ := ev_bd_s hf
        refine ev_callV hX YX12_needOf ml_RX12_453 (mX12_needOf hT hl0 hc4) (vs := [.int l3]) (st := [.int l2]) (by decide) 12 hl0 rfl rfl rfl (by decide +kernel) hC ?_
        show F S D4 60 [some (.ref l0), some (.int l1), some (.int l2), some (.int l3)] [.int v4, .int l2]
        refine ev_blk hX lkok_RX12 [(.aload_n 0, 1, 0, 0, 0), (.iload_n 3, 1, 0, 0, 0)] (by decide +kernel) (g := true) (lv' := [some (.ref l0), some (.int l1), some (.int l2), some (.int l3)]) (st' := [.int l3, .ref l0, .int v4, .int l2]) (D' := D4) (pc' := 62) rfl (rfl) rfl ?_
        obtain ⟨v5, D5, hc5, hf⟩ := ev_bd_s hf
        refine ev_callV hX YX12_fedAhead ml_RX12_456 (mX12_fedAhead hT hl0 hc5) (vs := [.int l3]) (st := [.int v4, .int l2]) (by decide) 12 hl0 rfl rfl rfl (by decide +kernel) hC ?_
        show F S D5 65 [some (.ref l0), some (.int l1), some (.int l2), some (.int l3)] [.int v5, .int v4, .int l2]
        refine ev_blk hX lkok_RX12 [(.iconst 1, 1, 0, 0, 1), (.iadd, 1, 0, 0, 0), (.imul, 1, 0, 0, 0), (.iadd, 1, 0, 0, 0), (.istore_n 2, 1, 0, 0, 0), (.iinc 3 1, 3, 0, 0, 1)] (by decide +kernel) (g := true) (lv' := [some (.ref l0), some (.int l1), some (.int (l2 + (v4 * (v5 + (1 : Int32))))), some (.int (l3 + (1 : Int32)))]) (st' := []) (D' := D5) (pc' := 73) rfl (rfl) rfl ?_
        refine ev_goto hX (off := (-41)) 32 (by decide +kernel) (by decide) ?_
        exact ev_weak hX (ev_le_eq (ev_le_eq (ev_le_eq (ev_le_eq ev_le_nil)))) (ih _ _ _ _ _ hl0 hf)
      · have hf := ev_it h3 hf
        refine ev_blk hX lkok_RX12 [(.iload_n 3, 1, 0, 0, 0)] (by decide +kernel) (g := true) (lv' := [some (.ref l0), some (.int l1), some (.int l2), some (.int l3)]) (st' := [.int l3]) (D' := D2) (pc' := 53) rfl (rfl) rfl ?_
        exact ev_iret hR ev_sm.rf (Option.some.inj hf) hC (by decide +kernel)
set_option maxHeartbeats 4000000 in
set_option maxRecDepth 100000 in
theorem tX12_feeds {S : ev_S} {fu : Nat} {r : Int32 × ev_D} {F : ev_Fr} (hR : ev_R RX12 cX12_feeds 4 2 0 0 false (some .int) S r F) (hT : ev_Ty S) (hC : sC S ≤ 0 ∧ sA S ≤ 0) {l0 : Nat} {l1 : Int32} {D : ev_D} (hl0 : sK S l0 = 15) (hf : fX12_feeds (sL S) (sE S) fu l0 l1 D = some r) : F S D 0 [some (.ref l0), some (.int l1), none, none] [] := by
  have hX := hR.X
  unfold fX12_feeds at hf
  refine ev_blk hX lkok_RX12 [(.aload_n 0, 1, 0, 0, 0), (.iconst 0, 1, 0, 0, 0), (.putfield 128, 3, 12, 0, 0), (.iload_n 1, 1, 0, 0, 0)] (by decide +kernel) (g := (sK S l0 == 15) && (true)) (lv' := [some (.ref l0), some (.int l1), none, none]) (st' := [.int l1]) (D' := (ev_up D l0 0 (0 : Int32))) (pc' := 6) rfl (ev_gk hl0 (rfl)) rfl ?_
  refine ev_if_eq hX (off := 22) 28 (by decide +kernel) (by decide) (fun h6 => ?_) (fun h6 => ?_)
  · have hf := ev_it h6 hf
    refine ev_blk hX lkok_RX12 [(.iconst 0, 1, 0, 0, 0), (.istore_n 2, 1, 0, 0, 0), (.iconst 0, 1, 0, 0, 0), (.istore_n 3, 1, 0, 0, 0)] (by decide +kernel) (g := true) (lv' := [some (.ref l0), some (.int l1), some (.int (0 : Int32)), some (.int (0 : Int32))]) (st' := []) (D' := (ev_up D l0 0 (0 : Int32))) (pc' := 32) rfl (rfl) rfl ?_
    exact ev_weak hX (ev_le_eq (ev_le_eq (ev_le_eq (ev_le_eq ev_le_nil)))) (tX12_feeds_32 hR hT hC   fu _ _ _ _ _ hl0 hf)
  · have hf := ev_nf h6 hf
    refine ev_blk hX lkok_RX12 [(.aload_n 0, 1, 0, 0, 0), (.iload_n 1, 1, 0, 0, 0), (.bipush 10, 2, 0, 0, 10), (.bipush 9, 2, 0, 0, 9), (.aload_n 0, 1, 0, 0, 0), (.getfield 140, 3, 12, 7, 0), (.iadd, 1, 0, 0, 0)] (by decide +kernel) (g := (sK S l0 == 15) && (true)) (lv' := [some (.ref l0), some (.int l1), none, none]) (st' := [.int ((9 : Int32) + ((ev_up D l0 0 (0 : Int32)) l0 7)), .int (10 : Int32), .int l1, .ref l0]) (D' := (ev_up D l0 0 (0 : Int32))) (pc' := 20) rfl (ev_gk hl0 (rfl)) rfl ?_
    obtain ⟨v7, D7, hc7, hf⟩ := ev_bd_s hf
    refine ev_callV hX YX12_isIn ml_RX12_150 (mX12_isIn hT hl0 hc7) (vs := [.int l1, .int (10 : Int32), .int ((9 : Int32) + ((ev_up D l0 0 (0 : Int32)) l0 7))]) (st := []) (by decide) 12 hl0 rfl rfl rfl (by decide +kernel) hC ?_
    show F S D7 23 [some (.ref l0), some (.int l1), none, none] [.int v7]
    refine ev_if_ne hX (off := 5) 28 (by decide +kernel) (by decide) (fun h8 => ?_) (fun h8 => ?_)
    · have hf := ev_nf h8 hf
      refine ev_blk hX lkok_RX12 [(.iconst 0, 1, 0, 0, 0), (.istore_n 2, 1, 0, 0, 0), (.iconst 0, 1, 0, 0, 0), (.istore_n 3, 1, 0, 0, 0)] (by decide +kernel) (g := true) (lv' := [some (.ref l0), some (.int l1), some (.int (0 : Int32)), some (.int (0 : Int32))]) (st' := []) (D' := D7) (pc' := 32) rfl (rfl) rfl ?_
      exact ev_weak hX (ev_le_eq (ev_le_eq (ev_le_eq (ev_le_eq ev_le_nil)))) (tX12_feeds_32 hR hT hC   fu _ _ _ _ _ hl0 hf)
    · have hf := ev_it h8 hf
      refine ev_blk hX lkok_RX12 [(.iconst (-1), 1, 0, 0, (-1))] (by decide +kernel) (g := true) (lv' := [some (.ref l0), some (.int l1), none, none]) (st' := [.int (-1 : Int32)]) (D' := D7) (pc' := 27) rfl (rfl) rfl ?_
      exact ev_iret hR ev_sm.rf (Option.some.inj hf) hC (by decide +kernel)
theorem mX12_feeds {S : ev_S} {fu : Nat} {r : Int32 × ev_D} (hT : ev_Ty S) {l0 : Nat} {l1 : Int32} {D : ev_D} (hl0 : sK S l0 = 15) (hf : fX12_feeds (sL S) (sE S) fu l0 l1 D = some r) : ev_M 2 0 0 yX12_feeds cX12_feeds 4 (some .int) [.ref l0, .int l1] S D S r :=
  ev_met (ini := false) (plainFor_of_name (by decide)) (fun h => by cases h) rfl (Nat.le_of_ble_eq_true rfl) (fun F hR => tX12_feeds (S := ev_z S) hR hT ⟨Nat.le_refl 0, Nat.le_refl 0⟩ hl0 hf)
set_option maxHeartbeats 4000000 in
set_option maxRecDepth 100000 in
theorem tX12_isBeating_10 {S : ev_S} {fu : Nat} {r : Int32 × ev_D} {F : ev_Fr} (hR : ev_R RX12 cX12_isBeating 4 1 0 0 false (some .boolean) S r F) (hT : ev_Ty S) (hC : sC S ≤ 0 ∧ sA S ≤ 0) {k2 : Nat → Int32 → Int32 → ev_D → ev_Op} (hk2 : ∀ (l0 : Nat) (l1 : Int32) (l2 : Int32) (D : ev_D), sK S l0 = 15 → k2 l0 l1 l2 D = some r → F S D 2 [some (.ref l0), some (.int l1), some (.int l2), none] []) : ∀ (n : Nat) (l0 : Nat) (l1 : Int32) (l2 : Int32) (l3 : Int32) (D : ev_D), sK S l0 = 15 → fX12_isBeating_10 (sL S) (sE S) fu k2 n l0 l1 l2 l3 D = some r → F S D 10 [some (.ref l0), some (.int l1), some (.int l2), some (.int l3)] [] := by
  have hX := hR.X
  intro n
  induction n with
  | zero =>
    intro l0 l1 l2 l3 D hl0 hf
    rw [fX12_isBeating_10] at hf
    cases hf
  | succ n ih =>
    intro l0 l1 l2 l3 D hl0 hf
    rw [fX12_isBeating_10] at hf
    refine ev_blk hX lkok_RX12 [(.iload_n 3, 1, 0, 0, 0), (.bipush 8, 2, 0, 0, 8)] (by decide +kernel) (g := true) (lv' := [some (.ref l0), some (.int l1), some (.int l2), some (.int l3)]) (st' := [.int (8 : Int32), .int l3]) (D' := D) (pc' := 13) rfl (rfl) rfl ?_
    refine ev_ic_ge hX (off := 57) 70 (by decide +kernel) (by decide) (fun h1 => ?_) (fun h1 => ?_)
    · have hf := ev_it h1 hf
      refine ev_blk hX lkok_RX12 [(.iinc 2 1, 3, 0, 0, 1)] (by decide +kernel) (g := true) (lv' := [some (.ref l0), some (.int l1), some (.int (l2 + (1 : Int32))), some (.int l3)]) (st' := []) (D' := D) (pc' := 73) rfl (rfl) rfl ?_
      refine ev_goto hX (off := (-71)) 2 (by decide +kernel) (by decide) ?_
      exact ev_weak hX (ev_le_eq (ev_le_eq (ev_le_eq (ev_le_no ev_le_nil)))) (hk2 _ _ _ _ hl0 hf)
    · have hf := ev_nf h1 hf
      refine ev_blk hX lkok_RX12 [(.aload_n 0, 1, 0, 0, 0), (.iload_n 1, 1, 0, 0, 0), (.iload_n 2, 1, 0, 0, 0)] (by decide +kernel) (g := true) (lv' := [some (.ref l0), some (.int l1), some (.int l2), some (.int l3)]) (st' := [.int l2, .int l1, .ref l0]) (D' := D) (pc' := 19) rfl (rfl) rfl ?_
      obtain ⟨v2, D2, hc2, hf⟩ := ev_bd_s hf
      refine ev_callV hX YX12_has ml_RX12_390 (mX12_has hT hl0 hc2) (vs := [.int l1, .int l2]) (st := []) (by decide) 12 hl0 rfl rfl rfl (by decide +kernel) hC ?_
      show F S D2 22 [some (.ref l0), some (.int l1), some (.int l2), some (.int l3)] [.int v2]
      refine ev_if_ne hX (off := 42) 64 (by decide +kernel) (by decide) (fun h3 => ?_) (fun h3 => ?_)
      · have hf := ev_nf h3 hf
        refine ev_blk hX lkok_RX12 [(.iinc 3 1, 3, 0, 0, 1)] (by decide +kernel) (g := true) (lv' := [some (.ref l0), some (.int l1), some (.int l2), some (.int (l3 + (1 : Int32)))]) (st' := []) (D' := D2) (pc' := 67) rfl (rfl) rfl ?_
        refine ev_goto hX (off := (-57)) 10 (by decide +kernel) (by decide) ?_
        exact ev_weak hX (ev_le_eq (ev_le_eq (ev_le_eq (ev_le_eq ev_le_nil)))) (ih _ _ _ _ _ hl0 hf)
      · have hf := ev_it h3 hf
        refine ev_blk hX lkok_RX12 [(.aload_n 0, 1, 0, 0, 0), (.iload_n 1, 1, 0, 0, 0), (.iload_n 3, 1, 0, 0, 0)] (by decide +kernel) (g := true) (lv' := [some (.ref l0), some (.int l1), some (.int l2), some (.int l3)]) (st' := [.int l3, .int l1, .ref l0]) (D' := D2) (pc' := 28) rfl (rfl) rfl ?_
        obtain ⟨v4, D4, hc4, hf⟩ := ev_bd_s hf
        refine ev_callV hX YX12_has ml_RX12_390 (mX12_has hT hl0 hc4) (vs := [.int l1, .int l3]) (st := []) (by decide) 12 hl0 rfl rfl rfl (by decide +kernel) hC ?_
        show F S D4 31 [some (.ref l0), some (.int l1), some (.int l2), some (.int l3)] [.int v4]
        refine ev_if_ne hX (off := 33) 64 (by decide +kernel) (by decide) (fun h5 => ?_) (fun h5 => ?_)
        · have hf := ev_nf h5 hf
          refine ev_blk hX lkok_RX12 [(.iinc 3 1, 3, 0, 0, 1)] (by decide +kernel) (g := true) (lv' := [some (.ref l0), some (.int l1), some (.int l2), some (.int (l3 + (1 : Int32)))]) (st' := []) (D' := D4) (pc' := 67) rfl (rfl) rfl ?_
          refine ev_goto hX (off := (-57)) 10 (by decide +kernel) (by decide) ?_
          exact ev_weak hX (ev_le_eq (ev_le_eq (ev_le_eq (ev_le_eq ev_le_nil)))) (ih _ _ _ _ _ hl0 hf)
        · have hf := ev_it h5 hf
          refine ev_blk hX lkok_RX12 [(.aload_n 0, 1, 0, 0, 0), (.iload_n 2, 1, 0, 0, 0)] (by decide +kernel) (g := true) (lv' := [some (.ref l0), some (.int l1), some (.int l2), some (.int l3)]) (st' := [.int l2, .ref l0]) (D' := D4) (pc' := 36) rfl (rfl) rfl ?_
          obtain ⟨v6, D6, hc6, hf⟩ := ev_bd_s hf
          refine ev_callV hX YX12_heavy ml_RX12_320 (mX12_heavy hT hl0 hc6) (vs := [.int l2]) (st := []) (by decide) 12 hl0 rfl rfl rfl (by decide +kernel) hC ?_
          show F S D6 39 [some (.ref l0), some (.int l1), some (.int l2), some (.int l3)] [.int v6]
          refine ev_blk hX lkok_RX12 [(.aload_n 0, 1, 0, 0, 0), (.iload_n 3, 1, 0, 0, 0)] (by decide +kernel) (g := true) (lv' := [some (.ref l0), some (.int l1), some (.int l2), some (.int l3)]) (st' := [.int l3, .ref l0, .int v6]) (D' := D6) (pc' := 41) rfl (rfl) rfl ?_
          obtain ⟨v7, D7, hc7, hf⟩ := ev_bd_s hf
          refine ev_callV hX YX12_heavy ml_RX12_320 (mX12_heavy hT hl0 hc7) (vs := [.int l3]) (st := [.int v6]) (by decide) 12 hl0 rfl rfl rfl (by decide +kernel) hC ?_
          show F S D7 44 [some (.ref l0), some (.int l1), some (.int l2), some (.int l3)] [.int v7, .int v6]
          refine ev_ic_le hX (off := 20) 64 (by decide +kernel) (by decide) (fun h8 => ?_) (fun h8 => ?_)
          · have hf := ev_it h8 hf
            refine ev_blk hX lkok_RX12 [(.iinc 3 1, 3, 0, 0, 1)] (by decide +kernel) (g := true) (lv' := [some (.ref l0), some (.int l1), some (.int l2), some (.int (l3 + (1 : Int32)))]) (st' := []) (D' := D7) (pc' := 67) rfl (rfl) rfl ?_
            refine ev_goto hX (off := (-57)) 10 (by decide +kernel) (by decide) ?_
            exact ev_weak hX (ev_le_eq (ev_le_eq (ev_le_eq (ev_le_eq ev_le_nil)))) (ih _ _ _ _ _ hl0 hf)
          · have hf := ev_nf h8 hf
            refine ev_blk hX lkok_RX12 [(.aload_n 0, 1, 0, 0, 0), (.iload_n 2, 1, 0, 0, 0)] (by decide +kernel) (g := true) (lv' := [some (.ref l0), some (.int l1), some (.int l2), some (.int l3)]) (st' := [.int l2, .ref l0]) (D' := D7) (pc' := 49) rfl (rfl) rfl ?_
            obtain ⟨v9, D9, hc9, hf⟩ := ev_bd_s hf
            refine ev_callV hX YX12_heavy ml_RX12_320 (mX12_heavy hT hl0 hc9) (vs := [.int l2]) (st := []) (by decide) 12 hl0 rfl rfl rfl (by decide +kernel) hC ?_
            show F S D9 52 [some (.ref l0), some (.int l1), some (.int l2), some (.int l3)] [.int v9]
            refine ev_blk hX lkok_RX12 [(.iconst 2, 1, 0, 0, 2), (.aload_n 0, 1, 0, 0, 0), (.iload_n 3, 1, 0, 0, 0)] (by decide +kernel) (g := true) (lv' := [some (.ref l0), some (.int l1), some (.int l2), some (.int l3)]) (st' := [.int l3, .ref l0, .int (2 : Int32), .int v9]) (D' := D9) (pc' := 55) rfl (rfl) rfl ?_
            obtain ⟨v10, D10, hc10, hf⟩ := ev_bd_s hf
            refine ev_callV hX YX12_heavy ml_RX12_320 (mX12_heavy hT hl0 hc10) (vs := [.int l3]) (st := [.int (2 : Int32), .int v9]) (by decide) 12 hl0 rfl rfl rfl (by decide +kernel) hC ?_
            show F S D10 58 [some (.ref l0), some (.int l1), some (.int l2), some (.int l3)] [.int v10, .int (2 : Int32), .int v9]
            refine ev_blk hX lkok_RX12 [(.imul, 1, 0, 0, 0)] (by decide +kernel) (g := true) (lv' := [some (.ref l0), some (.int l1), some (.int l2), some (.int l3)]) (st' := [.int ((2 : Int32) * v10), .int v9]) (D' := D10) (pc' := 59) rfl (rfl) rfl ?_
            refine ev_ic_ge hX (off := 5) 64 (by decide +kernel) (by decide) (fun h11 => ?_) (fun h11 => ?_)
            · have hf := ev_it h11 hf
              refine ev_blk hX lkok_RX12 [(.iinc 3 1, 3, 0, 0, 1)] (by decide +kernel) (g := true) (lv' := [some (.ref l0), some (.int l1), some (.int l2), some (.int (l3 + (1 : Int32)))]) (st' := []) (D' := D10) (pc' := 67) rfl (rfl) rfl ?_
              refine ev_goto hX (off := (-57)) 10 (by decide +kernel) (by decide) ?_
              exact ev_weak hX (ev_le_eq (ev_le_eq (ev_le_eq (ev_le_eq ev_le_nil)))) (ih _ _ _ _ _ hl0 hf)
            · have hf := ev_nf h11 hf
              refine ev_blk hX lkok_RX12 [(.iconst 1, 1, 0, 0, 1)] (by decide +kernel) (g := true) (lv' := [some (.ref l0), some (.int l1), some (.int l2), some (.int l3)]) (st' := [.int (1 : Int32)]) (D' := D10) (pc' := 63) rfl (rfl) rfl ?_
              exact ev_zret hR ev_sm.rf (Or.inr rfl) (Option.some.inj hf) hC (by decide +kernel)
set_option maxHeartbeats 4000000 in
set_option maxRecDepth 100000 in
theorem tX12_isBeating_2 {S : ev_S} {fu : Nat} {r : Int32 × ev_D} {F : ev_Fr} (hR : ev_R RX12 cX12_isBeating 4 1 0 0 false (some .boolean) S r F) (hT : ev_Ty S) (hC : sC S ≤ 0 ∧ sA S ≤ 0) : ∀ (n : Nat) (l0 : Nat) (l1 : Int32) (l2 : Int32) (D : ev_D), sK S l0 = 15 → fX12_isBeating_2 (sL S) (sE S) fu n l0 l1 l2 D = some r → F S D 2 [some (.ref l0), some (.int l1), some (.int l2), none] [] := by
  have hX := hR.X
  intro n
  induction n with
  | zero =>
    intro l0 l1 l2 D hl0 hf
    rw [fX12_isBeating_2] at hf
    cases hf
  | succ n ih =>
    intro l0 l1 l2 D hl0 hf
    rw [fX12_isBeating_2] at hf
    refine ev_blk hX lkok_RX12 [(.iload_n 2, 1, 0, 0, 0), (.bipush 8, 2, 0, 0, 8)] (by decide +kernel) (g := true) (lv' := [some (.ref l0), some (.int l1), some (.int l2), none]) (st' := [.int (8 : Int32), .int l2]) (D' := D) (pc' := 5) rfl (rfl) rfl ?_
    refine ev_ic_ge hX (off := 71) 76 (by decide +kernel) (by decide) (fun h12 => ?_) (fun h12 => ?_)
    · have hf := ev_it h12 hf
      refine ev_blk hX lkok_RX12 [(.iconst 0, 1, 0, 0, 0)] (by decide +kernel) (g := true) (lv' := [some (.ref l0), some (.int l1), some (.int l2), none]) (st' := [.int (0 : Int32)]) (D' := D) (pc' := 77) rfl (rfl) rfl ?_
      exact ev_zret hR ev_sm.rf (Or.inl rfl) (Option.some.inj hf) hC (by decide +kernel)
    · have hf := ev_nf h12 hf
      refine ev_blk hX lkok_RX12 [(.iconst 0, 1, 0, 0, 0), (.istore_n 3, 1, 0, 0, 0)] (by decide +kernel) (g := true) (lv' := [some (.ref l0), some (.int l1), some (.int l2), some (.int (0 : Int32))]) (st' := []) (D' := D) (pc' := 10) rfl (rfl) rfl ?_
      exact ev_weak hX (ev_le_eq (ev_le_eq (ev_le_eq (ev_le_eq ev_le_nil)))) (tX12_isBeating_10 hR hT hC  ih fu _ _ _ _ _ hl0 hf)
set_option maxHeartbeats 4000000 in
set_option maxRecDepth 100000 in
theorem tX12_isBeating {S : ev_S} {fu : Nat} {r : Int32 × ev_D} {F : ev_Fr} (hR : ev_R RX12 cX12_isBeating 4 1 0 0 false (some .boolean) S r F) (hT : ev_Ty S) (hC : sC S ≤ 0 ∧ sA S ≤ 0) {l0 : Nat} {l1 : Int32} {D : ev_D} (hl0 : sK S l0 = 15) (hf : fX12_isBeating (sL S) (sE S) fu l0 l1 D = some r) : F S D 0 [some (.ref l0), some (.int l1), none, none] [] := by
  have hX := hR.X
  unfold fX12_isBeating at hf
  refine ev_blk hX lkok_RX12 [(.iconst 0, 1, 0, 0, 0), (.istore_n 2, 1, 0, 0, 0)] (by decide +kernel) (g := true) (lv' := [some (.ref l0), some (.int l1), some (.int (0 : Int32)), none]) (st' := []) (D' := D) (pc' := 2) rfl (rfl) rfl ?_
  exact ev_weak hX (ev_le_eq (ev_le_eq (ev_le_eq (ev_le_no ev_le_nil)))) (tX12_isBeating_2 hR hT hC   fu _ _ _ _ hl0 hf)
theorem mX12_isBeating {S : ev_S} {fu : Nat} {r : Int32 × ev_D} (hT : ev_Ty S) {l0 : Nat} {l1 : Int32} {D : ev_D} (hl0 : sK S l0 = 15) (hf : fX12_isBeating (sL S) (sE S) fu l0 l1 D = some r) : ev_M 1 0 0 yX12_isBeating cX12_isBeating 4 (some .boolean) [.ref l0, .int l1] S D S r :=
  ev_met (ini := false) (plainFor_of_name (by decide)) (fun h => by cases h) rfl (Nat.le_of_ble_eq_true rfl) (fun F hR => tX12_isBeating (S := ev_z S) hR hT ⟨Nat.le_refl 0, Nat.le_refl 0⟩ hl0 hf)
set_option maxHeartbeats 4000000 in
set_option maxRecDepth 100000 in
theorem tX12_casts_23 {S : ev_S} {fu : Nat} {r : Int32 × ev_D} {F : ev_Fr} (hR : ev_R RX12 cX12_casts 4 2 0 0 false (some .int) S r F) (hT : ev_Ty S) (hC : sC S ≤ 0 ∧ sA S ≤ 0) : ∀ (n : Nat) (l0 : Nat) (l1 : Int32) (l2 : Int32) (l3 : Int32) (D : ev_D), sK S l0 = 15 → fX12_casts_23 (sL S) (sE S) fu n l0 l1 l2 l3 D = some r → F S D 23 [some (.ref l0), some (.int l1), some (.int l2), some (.int l3)] [] := by
  have hX := hR.X
  intro n
  induction n with
  | zero =>
    intro l0 l1 l2 l3 D hl0 hf
    rw [fX12_casts_23] at hf
    cases hf
  | succ n ih =>
    intro l0 l1 l2 l3 D hl0 hf
    rw [fX12_casts_23] at hf
    refine ev_blk hX lkok_RX12 [(.iload_n 3, 1, 0, 0, 0), (.sipush 256, 3, 0, 0, 256)] (by decide +kernel) (g := true) (lv' := [some (.ref l0), some (.int l1), some (.int l2), some (.int l3)]) (st' := [.int (256 : Int32), .int l3]) (D' := D) (pc' := 27) rfl (rfl) rfl ?_
    refine ev_ic_ge hX (off := 32) 59 (by decide +kernel) (by decide) (fun h1 => ?_) (fun h1 => ?_)
    · have hf := ev_it h1 hf
      refine ev_blk hX lkok_RX12 [(.iload_n 1, 1, 0, 0, 0)] (by decide +kernel) (g := true) (lv' := [some (.ref l0), some (.int l1), some (.int l2), some (.int l3)]) (st' := [.int l1]) (D' := D) (pc' := 60) rfl (rfl) rfl ?_
      refine ev_if_ne hX (off := 11) 71 (by decide +kernel) (by decide) (fun h2 => ?_) (fun h2 => ?_)
      · have hf := ev_nf h2 hf
        refine ev_blk hX lkok_RX12 [(.iload_n 2, 1, 0, 0, 0)] (by decide +kernel) (g := true) (lv' := [some (.ref l0), some (.int l1), some (.int l2), some (.int l3)]) (st' := [.int l2]) (D' := D) (pc' := 72) rfl (rfl) rfl ?_
        exact ev_iret hR ev_sm.rf (Option.some.inj hf) hC (by decide +kernel)
      · have hf := ev_it h2 hf
        refine ev_blk hX lkok_RX12 [(.aload_n 0, 1, 0, 0, 0), (.iload_n 2, 1, 0, 0, 0)] (by decide +kernel) (g := true) (lv' := [some (.ref l0), some (.int l1), some (.int l2), some (.int l3)]) (st' := [.int l2, .ref l0]) (D' := D) (pc' := 65) rfl (rfl) rfl ?_
        obtain ⟨v3, D3, hc3, hf⟩ := ev_bd_s hf
        refine ev_callV hX YX12_onesOf ml_RX12_326 (mX12_onesOf hT hl0 hc3) (vs := [.int l2]) (st := []) (by decide) 12 hl0 rfl rfl rfl (by decide +kernel) hC ?_
        show F S D3 68 [some (.ref l0), some (.int l1), some (.int l2), some (.int l3)] [.int v3]
        refine ev_goto hX (off := 4) 72 (by decide +kernel) (by decide) ?_
        exact ev_iret hR ev_sm.rf (Option.some.inj hf) hC (by decide +kernel)
    · have hf := ev_nf h1 hf
      refine ev_blk hX lkok_RX12 [(.aload_n 0, 1, 0, 0, 0), (.iload_n 3, 1, 0, 0, 0)] (by decide +kernel) (g := true) (lv' := [some (.ref l0), some (.int l1), some (.int l2), some (.int l3)]) (st' := [.int l3, .ref l0]) (D' := D) (pc' := 32) rfl (rfl) rfl ?_
      obtain ⟨v4, D4, hc4, hf⟩ := ev_bd_s hf
      refine ev_callV hX YX12_onesOf ml_RX12_326 (mX12_onesOf hT hl0 hc4) (vs := [.int l3]) (st := []) (by decide) 12 hl0 rfl rfl rfl (by decide +kernel) hC ?_
      show F S D4 35 [some (.ref l0), some (.int l1), some (.int l2), some (.int l3)] [.int v4]
      refine ev_blk hX lkok_RX12 [(.aload_n 0, 1, 0, 0, 0), (.iload_n 2, 1, 0, 0, 0)] (by decide +kernel) (g := true) (lv' := [some (.ref l0), some (.int l1), some (.int l2), some (.int l3)]) (st' := [.int l2, .ref l0, .int v4]) (D' := D4) (pc' := 37) rfl (rfl) rfl ?_
      obtain ⟨v5, D5, hc5, hf⟩ := ev_bd_s hf
      refine ev_callV hX YX12_onesOf ml_RX12_326 (mX12_onesOf hT hl0 hc5) (vs := [.int l2]) (st := [.int v4]) (by decide) 12 hl0 rfl rfl rfl (by decide +kernel) hC ?_
      show F S D5 40 [some (.ref l0), some (.int l1), some (.int l2), some (.int l3)] [.int v5, .int v4]
      refine ev_ic_ge hX (off := 13) 53 (by decide +kernel) (by decide) (fun h6 => ?_) (fun h6 => ?_)
      · have hf := ev_it h6 hf
        refine ev_blk hX lkok_RX12 [(.iinc 3 1, 3, 0, 0, 1)] (by decide +kernel) (g := true) (lv' := [some (.ref l0), some (.int l1), some (.int l2), some (.int (l3 + (1 : Int32)))]) (st' := []) (D' := D5) (pc' := 56) rfl (rfl) rfl ?_
        refine ev_goto hX (off := (-33)) 23 (by decide +kernel) (by decide) ?_
        exact ev_weak hX (ev_le_eq (ev_le_eq (ev_le_eq (ev_le_eq ev_le_nil)))) (ih _ _ _ _ _ hl0 hf)
      · have hf := ev_nf h6 hf
        refine ev_blk hX lkok_RX12 [(.aload_n 0, 1, 0, 0, 0), (.iload_n 3, 1, 0, 0, 0)] (by decide +kernel) (g := true) (lv' := [some (.ref l0), some (.int l1), some (.int l2), some (.int l3)]) (st' := [.int l3, .ref l0]) (D' := D5) (pc' := 45) rfl (rfl) rfl ?_
        obtain ⟨v7, D7, hc7, hf⟩ := ev_bd_s hf
        refine ev_callV hX YX12_isBeating ml_RX12_459 (mX12_isBeating hT hl0 hc7) (vs := [.int l3]) (st := []) (by decide) 12 hl0 rfl rfl rfl (by decide +kernel) hC ?_
        show F S D7 48 [some (.ref l0), some (.int l1), some (.int l2), some (.int l3)] [.int v7]
        refine ev_if_ne hX (off := 5) 53 (by decide +kernel) (by decide) (fun h8 => ?_) (fun h8 => ?_)
        · have hf := ev_nf h8 hf
          refine ev_blk hX lkok_RX12 [(.iinc 3 1, 3, 0, 0, 1)] (by decide +kernel) (g := true) (lv' := [some (.ref l0), some (.int l1), some (.int l2), some (.int (l3 + (1 : Int32)))]) (st' := []) (D' := D7) (pc' := 56) rfl (rfl) rfl ?_
          refine ev_goto hX (off := (-33)) 23 (by decide +kernel) (by decide) ?_
          exact ev_weak hX (ev_le_eq (ev_le_eq (ev_le_eq (ev_le_eq ev_le_nil)))) (ih _ _ _ _ _ hl0 hf)
        · have hf := ev_it h8 hf
          refine ev_blk hX lkok_RX12 [(.iload_n 3, 1, 0, 0, 0), (.istore_n 2, 1, 0, 0, 0), (.iinc 3 1, 3, 0, 0, 1)] (by decide +kernel) (g := true) (lv' := [some (.ref l0), some (.int l1), some (.int l3), some (.int (l3 + (1 : Int32)))]) (st' := []) (D' := D7) (pc' := 56) rfl (rfl) rfl ?_
          refine ev_goto hX (off := (-33)) 23 (by decide +kernel) (by decide) ?_
          exact ev_weak hX (ev_le_eq (ev_le_eq (ev_le_eq (ev_le_eq ev_le_nil)))) (ih _ _ _ _ _ hl0 hf)
set_option maxHeartbeats 4000000 in
set_option maxRecDepth 100000 in
theorem tX12_casts {S : ev_S} {fu : Nat} {r : Int32 × ev_D} {F : ev_Fr} (hR : ev_R RX12 cX12_casts 4 2 0 0 false (some .int) S r F) (hT : ev_Ty S) (hC : sC S ≤ 0 ∧ sA S ≤ 0) {l0 : Nat} {l1 : Int32} {D : ev_D} (hl0 : sK S l0 = 15) (hf : fX12_casts (sL S) (sE S) fu l0 l1 D = some r) : F S D 0 [some (.ref l0), some (.int l1), none, none] [] := by
  have hX := hR.X
  unfold fX12_casts at hf
  refine ev_blk hX lkok_RX12 [(.aload_n 0, 1, 0, 0, 0), (.iconst 0, 1, 0, 0, 0), (.putfield 128, 3, 12, 0, 0), (.aload_n 0, 1, 0, 0, 0), (.iload_n 1, 1, 0, 0, 0), (.iconst 0, 1, 0, 0, 0), (.iconst 1, 1, 0, 0, 1)] (by decide +kernel) (g := (sK S l0 == 15) && (true)) (lv' := [some (.ref l0), some (.int l1), none, none]) (st' := [.int (1 : Int32), .int (0 : Int32), .int l1, .ref l0]) (D' := (ev_up D l0 0 (0 : Int32))) (pc' := 9) rfl (ev_gk hl0 (rfl)) rfl ?_
  obtain ⟨v9, D9, hc9, hf⟩ := ev_bd_s hf
  refine ev_callV hX YX12_isIn ml_RX12_150 (mX12_isIn hT hl0 hc9) (vs := [.int l1, .int (0 : Int32), .int (1 : Int32)]) (st := []) (by decide) 12 hl0 rfl rfl rfl (by decide +kernel) hC ?_
  show F S D9 12 [some (.ref l0), some (.int l1), none, none] [.int v9]
  refine ev_if_ne hX (off := 5) 17 (by decide +kernel) (by decide) (fun h10 => ?_) (fun h10 => ?_)
  · have hf := ev_nf h10 hf
    refine ev_blk hX lkok_RX12 [(.sipush 255, 3, 0, 0, 255), (.istore_n 2, 1, 0, 0, 0), (.iconst 0, 1, 0, 0, 0), (.istore_n 3, 1, 0, 0, 0)] (by decide +kernel) (g := true) (lv' := [some (.ref l0), some (.int l1), some (.int (255 : Int32)), some (.int (0 : Int32))]) (st' := []) (D' := D9) (pc' := 23) rfl (rfl) rfl ?_
    exact ev_weak hX (ev_le_eq (ev_le_eq (ev_le_eq (ev_le_eq ev_le_nil)))) (tX12_casts_23 hR hT hC   fu _ _ _ _ _ hl0 hf)
  · have hf := ev_it h10 hf
    refine ev_blk hX lkok_RX12 [(.iconst (-1), 1, 0, 0, (-1))] (by decide +kernel) (g := true) (lv' := [some (.ref l0), some (.int l1), none, none]) (st' := [.int (-1 : Int32)]) (D' := D9) (pc' := 16) rfl (rfl) rfl ?_
    exact ev_iret hR ev_sm.rf (Option.some.inj hf) hC (by decide +kernel)
theorem mX12_casts {S : ev_S} {fu : Nat} {r : Int32 × ev_D} (hT : ev_Ty S) {l0 : Nat} {l1 : Int32} {D : ev_D} (hl0 : sK S l0 = 15) (hf : fX12_casts (sL S) (sE S) fu l0 l1 D = some r) : ev_M 2 0 0 yX12_casts cX12_casts 4 (some .int) [.ref l0, .int l1] S D S r :=
  ev_met (ini := false) (plainFor_of_name (by decide)) (fun h => by cases h) rfl (Nat.le_of_ble_eq_true rfl) (fun F hR => tX12_casts (S := ev_z S) hR hT ⟨Nat.le_refl 0, Nat.le_refl 0⟩ hl0 hf)
set_option maxHeartbeats 4000000 in
set_option maxRecDepth 100000 in
theorem tX12_opinion {S : ev_S} {fu : Nat} {r : Int32 × ev_D} {F : ev_Fr} (hR : ev_R RX12 cX12_opinion 3 1 0 0 false (some .boolean) S r F) (hT : ev_Ty S) (hC : sC S ≤ 0 ∧ sA S ≤ 0) {l0 : Nat} {l1 : Int32} {l2 : Int32} {D : ev_D} (hl0 : sK S l0 = 15) (hf : fX12_opinion (sL S) (sE S) fu l0 l1 l2 D = some r) : F S D 0 [some (.ref l0), some (.int l1), some (.int l2)] [] := by
  have hX := hR.X
  unfold fX12_opinion at hf
  refine ev_blk hX lkok_RX12 [(.aload_n 0, 1, 0, 0, 0), (.iconst 0, 1, 0, 0, 0), (.putfield 128, 3, 12, 0, 0), (.aload_n 0, 1, 0, 0, 0), (.iload_n 1, 1, 0, 0, 0), (.iconst 0, 1, 0, 0, 0), (.bipush 9, 2, 0, 0, 9)] (by decide +kernel) (g := (sK S l0 == 15) && (true)) (lv' := [some (.ref l0), some (.int l1), some (.int l2)]) (st' := [.int (9 : Int32), .int (0 : Int32), .int l1, .ref l0]) (D' := (ev_up D l0 0 (0 : Int32))) (pc' := 10) rfl (ev_gk hl0 (rfl)) rfl ?_
  obtain ⟨v1, D1, hc1, hf⟩ := ev_bd_s hf
  refine ev_callV hX YX12_isIn ml_RX12_150 (mX12_isIn hT hl0 hc1) (vs := [.int l1, .int (0 : Int32), .int (9 : Int32)]) (st := []) (by decide) 12 hl0 rfl rfl rfl (by decide +kernel) hC ?_
  show F S D1 13 [some (.ref l0), some (.int l1), some (.int l2)] [.int v1]
  refine ev_if_eq hX (off := 15) 28 (by decide +kernel) (by decide) (fun h2 => ?_) (fun h2 => ?_)
  · have hf := ev_it h2 hf
    refine ev_blk hX lkok_RX12 [(.iconst 0, 1, 0, 0, 0)] (by decide +kernel) (g := true) (lv' := [some (.ref l0), some (.int l1), some (.int l2)]) (st' := [.int (0 : Int32)]) (D' := D1) (pc' := 29) rfl (rfl) rfl ?_
    exact ev_zret hR ev_sm.rf (Or.inl rfl) (Option.some.inj hf) hC (by decide +kernel)
  · have hf := ev_nf h2 hf
    refine ev_blk hX lkok_RX12 [(.aload_n 0, 1, 0, 0, 0), (.iload_n 2, 1, 0, 0, 0), (.bipush (-9), 2, 0, 0, (-9)), (.bipush 9, 2, 0, 0, 9)] (by decide +kernel) (g := true) (lv' := [some (.ref l0), some (.int l1), some (.int l2)]) (st' := [.int (9 : Int32), .int (-9 : Int32), .int l2, .ref l0]) (D' := D1) (pc' := 22) rfl (rfl) rfl ?_
    obtain ⟨v3, D3, hc3, hf⟩ := ev_bd_s hf
    refine ev_callV hX YX12_isIn ml_RX12_150 (mX12_isIn hT hl0 hc3) (vs := [.int l2, .int (-9 : Int32), .int (9 : Int32)]) (st := []) (by decide) 12 hl0 rfl rfl rfl (by decide +kernel) hC ?_
    show F S D3 25 [some (.ref l0), some (.int l1), some (.int l2)] [.int v3]
    refine ev_if_ne hX (off := 5) 30 (by decide +kernel) (by decide) (fun h4 => ?_) (fun h4 => ?_)
    · have hf := ev_nf h4 hf
      obtain ⟨hg5, hf⟩ := ev_gd_s hf
      refine ev_blk hX lkok_RX12 [(.aload_n 0, 1, 0, 0, 0), (.getfield 119, 3, 12, 61, 0), (.iload_n 1, 1, 0, 0, 0), (.iload_n 2, 1, 0, 0, 0), (.iastore, 1, 0, 0, 0), (.iconst 1, 1, 0, 0, 1)] (by decide +kernel) (g := (sK S l0 == 15) && ((sK S ((sE S) l0 61) == 1 && ev_in l1 ((sL S) ((sE S) l0 61))) && (true))) (lv' := [some (.ref l0), some (.int l1), some (.int l2)]) (st' := [.int (1 : Int32)]) (D' := (ev_up D3 ((sE S) l0 61) (l1).toNatClampNeg l2)) (pc' := 38) rfl (ev_gk hl0 (ev_gi (ev_tyk hT hl0 rfl rfl) hg5 (rfl))) rfl ?_
      exact ev_zret hR ev_sm.rf (Or.inr rfl) (Option.some.inj hf) hC (by decide +kernel)
    · have hf := ev_it h4 hf
      refine ev_blk hX lkok_RX12 [(.iconst 0, 1, 0, 0, 0)] (by decide +kernel) (g := true) (lv' := [some (.ref l0), some (.int l1), some (.int l2)]) (st' := [.int (0 : Int32)]) (D' := D3) (pc' := 29) rfl (rfl) rfl ?_
      exact ev_zret hR ev_sm.rf (Or.inl rfl) (Option.some.inj hf) hC (by decide +kernel)
theorem mX12_opinion {S : ev_S} {fu : Nat} {r : Int32 × ev_D} (hT : ev_Ty S) {l0 : Nat} {l1 : Int32} {l2 : Int32} {D : ev_D} (hl0 : sK S l0 = 15) (hf : fX12_opinion (sL S) (sE S) fu l0 l1 l2 D = some r) : ev_M 1 0 0 yX12_opinion cX12_opinion 3 (some .boolean) [.ref l0, .int l1, .int l2] S D S r :=
  ev_met (ini := false) (plainFor_of_name (by decide)) (fun h => by cases h) rfl (Nat.le_of_ble_eq_true rfl) (fun F hR => tX12_opinion (S := ev_z S) hR hT ⟨Nat.le_refl 0, Nat.le_refl 0⟩ hl0 hf)
set_option maxHeartbeats 4000000 in
set_option maxRecDepth 100000 in
theorem tX12_opinionOf_4 {S : ev_S} {fu : Nat} {r : Int32 × ev_D} {F : ev_Fr} (hR : ev_R RX12 cX12_opinionOf 4 1 0 0 false (some .int) S r F) (hT : ev_Ty S) (hC : sC S ≤ 0 ∧ sA S ≤ 0) : ∀ (n : Nat) (l0 : Nat) (l1 : Int32) (l2 : Int32) (l3 : Int32) (D : ev_D), sK S l0 = 15 → fX12_opinionOf_4 (sL S) (sE S) fu n l0 l1 l2 l3 D = some r → F S D 4 [some (.ref l0), some (.int l1), some (.int l2), some (.int l3)] [] := by
  have hX := hR.X
  intro n
  induction n with
  | zero =>
    intro l0 l1 l2 l3 D hl0 hf
    rw [fX12_opinionOf_4] at hf
    cases hf
  | succ n ih =>
    intro l0 l1 l2 l3 D hl0 hf
    rw [fX12_opinionOf_4] at hf
    refine ev_blk hX lkok_RX12 [(.iload_n 3, 1, 0, 0, 0), (.aload_n 0, 1, 0, 0, 0), (.getfield 140, 3, 12, 7, 0)] (by decide +kernel) (g := (sK S l0 == 15) && (true)) (lv' := [some (.ref l0), some (.int l1), some (.int l2), some (.int l3)]) (st' := [.int (D l0 7), .int l3]) (D' := D) (pc' := 9) rfl (ev_gk hl0 (rfl)) rfl ?_
    refine ev_ic_ge hX (off := 27) 36 (by decide +kernel) (by decide) (fun h1 => ?_) (fun h1 => ?_)
    · have hf := ev_it h1 hf
      refine ev_blk hX lkok_RX12 [(.iload_n 2, 1, 0, 0, 0)] (by decide +kernel) (g := true) (lv' := [some (.ref l0), some (.int l1), some (.int l2), some (.int l3)]) (st' := [.int l2]) (D' := D) (pc' := 37) rfl (rfl) rfl ?_
      exact ev_iret hR ev_sm.rf (Option.some.inj hf) hC (by decide +kernel)
    · have hf := ev_nf h1 hf
      refine ev_blk hX lkok_RX12 [(.aload_n 0, 1, 0, 0, 0), (.iload_n 1, 1, 0, 0, 0), (.iload_n 3, 1, 0, 0, 0)] (by decide +kernel) (g := true) (lv' := [some (.ref l0), some (.int l1), some (.int l2), some (.int l3)]) (st' := [.int l3, .int l1, .ref l0]) (D' := D) (pc' := 15) rfl (rfl) rfl ?_
      obtain ⟨v2, D2, hc2, hf⟩ := ev_bd_s hf
      refine ev_callV hX YX12_has ml_RX12_390 (mX12_has hT hl0 hc2) (vs := [.int l1, .int l3]) (st := []) (by decide) 12 hl0 rfl rfl rfl (by decide +kernel) hC ?_
      show F S D2 18 [some (.ref l0), some (.int l1), some (.int l2), some (.int l3)] [.int v2]
      refine ev_if_eq hX (off := 12) 30 (by decide +kernel) (by decide) (fun h3 => ?_) (fun h3 => ?_)
      · have hf := ev_it h3 hf
        refine ev_blk hX lkok_RX12 [(.iinc 3 1, 3, 0, 0, 1)] (by decide +kernel) (g := true) (lv' := [some (.ref l0), some (.int l1), some (.int l2), some (.int (l3 + (1 : Int32)))]) (st' := []) (D' := D2) (pc' := 33) rfl (rfl) rfl ?_
        refine ev_goto hX (off := (-29)) 4 (by decide +kernel) (by decide) ?_
        exact ev_weak hX (ev_le_eq (ev_le_eq (ev_le_eq (ev_le_eq ev_le_nil)))) (ih _ _ _ _ _ hl0 hf)
      · have hf := ev_nf h3 hf
        obtain ⟨hg4, hf⟩ := ev_gd_s hf
        refine ev_blk hX lkok_RX12 [(.iload_n 2, 1, 0, 0, 0), (.aload_n 0, 1, 0, 0, 0), (.getfield 119, 3, 12, 61, 0), (.iload_n 3, 1, 0, 0, 0), (.iaload, 1, 0, 0, 0), (.iadd, 1, 0, 0, 0), (.istore_n 2, 1, 0, 0, 0), (.iinc 3 1, 3, 0, 0, 1)] (by decide +kernel) (g := (sK S l0 == 15) && ((sK S ((sE S) l0 61) == 1 && ev_in l3 ((sL S) ((sE S) l0 61))) && (true))) (lv' := [some (.ref l0), some (.int l1), some (.int (l2 + (D2 ((sE S) l0 61) (l3).toNatClampNeg))), some (.int (l3 + (1 : Int32)))]) (st' := []) (D' := D2) (pc' := 33) rfl (ev_gk hl0 (ev_gi (ev_tyk hT hl0 rfl rfl) hg4 (rfl))) rfl ?_
        refine ev_goto hX (off := (-29)) 4 (by decide +kernel) (by decide) ?_
        exact ev_weak hX (ev_le_eq (ev_le_eq (ev_le_eq (ev_le_eq ev_le_nil)))) (ih _ _ _ _ _ hl0 hf)
set_option maxHeartbeats 4000000 in
set_option maxRecDepth 100000 in
theorem tX12_opinionOf {S : ev_S} {fu : Nat} {r : Int32 × ev_D} {F : ev_Fr} (hR : ev_R RX12 cX12_opinionOf 4 1 0 0 false (some .int) S r F) (hT : ev_Ty S) (hC : sC S ≤ 0 ∧ sA S ≤ 0) {l0 : Nat} {l1 : Int32} {D : ev_D} (hl0 : sK S l0 = 15) (hf : fX12_opinionOf (sL S) (sE S) fu l0 l1 D = some r) : F S D 0 [some (.ref l0), some (.int l1), none, none] [] := by
  have hX := hR.X
  unfold fX12_opinionOf at hf
  refine ev_blk hX lkok_RX12 [(.iconst 0, 1, 0, 0, 0), (.istore_n 2, 1, 0, 0, 0), (.iconst 0, 1, 0, 0, 0), (.istore_n 3, 1, 0, 0, 0)] (by decide +kernel) (g := true) (lv' := [some (.ref l0), some (.int l1), some (.int (0 : Int32)), some (.int (0 : Int32))]) (st' := []) (D' := D) (pc' := 4) rfl (rfl) rfl ?_
  exact ev_weak hX (ev_le_eq (ev_le_eq (ev_le_eq (ev_le_eq ev_le_nil)))) (tX12_opinionOf_4 hR hT hC   fu _ _ _ _ _ hl0 hf)
theorem mX12_opinionOf {S : ev_S} {fu : Nat} {r : Int32 × ev_D} (hT : ev_Ty S) {l0 : Nat} {l1 : Int32} {D : ev_D} (hl0 : sK S l0 = 15) (hf : fX12_opinionOf (sL S) (sE S) fu l0 l1 D = some r) : ev_M 1 0 0 yX12_opinionOf cX12_opinionOf 4 (some .int) [.ref l0, .int l1] S D S r :=
  ev_met (ini := false) (plainFor_of_name (by decide)) (fun h => by cases h) rfl (Nat.le_of_ble_eq_true rfl) (fun F hR => tX12_opinionOf (S := ev_z S) hR hT ⟨Nat.le_refl 0, Nat.le_refl 0⟩ hl0 hf)
set_option maxHeartbeats 4000000 in
set_option maxRecDepth 100000 in
theorem tX12_swings_10 {S : ev_S} {fu : Nat} {r : Int32 × ev_D} {F : ev_Fr} (hR : ev_R RX12 cX12_swings 5 2 0 0 false (some .int) S r F) (hT : ev_Ty S) (hC : sC S ≤ 0 ∧ sA S ≤ 0) : ∀ (n : Nat) (l0 : Nat) (l1 : Int32) (l2 : Int32) (l3 : Int32) (l4 : Int32) (D : ev_D), sK S l0 = 15 → fX12_swings_10 (sL S) (sE S) fu n l0 l1 l2 l3 l4 D = some r → F S D 10 [some (.ref l0), some (.int l1), some (.int l2), some (.int l3), some (.int l4)] [] := by
  have hX := hR.X
  intro n
  induction n with
  | zero =>
    intro l0 l1 l2 l3 l4 D hl0 hf
    rw [fX12_swings_10] at hf
    cases hf
  | succ n ih =>
    intro l0 l1 l2 l3 l4 D hl0 hf
    rw [fX12_swings_10] at hf
    refine ev_blk hX lkok_RX12 [(.iload 4, 2, 0, 0, 0), (.iload_n 2, 1, 0, 0, 0)] (by decide +kernel) (g := true) (lv' := [some (.ref l0), some (.int l1), some (.int l2), some (.int l3), some (.int l4)]) (st' := [.int l2, .int l4]) (D' := D) (pc' := 13) rfl (rfl) rfl ?_
    refine ev_ic_gt hX (off := 64) 77 (by decide +kernel) (by decide) (fun h1 => ?_) (fun h1 => ?_)
    · have hf := ev_it h1 hf
      refine ev_blk hX lkok_RX12 [(.iload_n 3, 1, 0, 0, 0)] (by decide +kernel) (g := true) (lv' := [some (.ref l0), some (.int l1), some (.int l2), some (.int l3), some (.int l4)]) (st' := [.int l3]) (D' := D) (pc' := 78) rfl (rfl) rfl ?_
      exact ev_iret hR ev_sm.rf (Option.some.inj hf) hC (by decide +kernel)
    · have hf := ev_nf h1 hf
      refine ev_blk hX lkok_RX12 [(.iload 4, 2, 0, 0, 0), (.iload_n 2, 1, 0, 0, 0), (.iconst (-1), 1, 0, 0, (-1)), (.ixor, 1, 0, 0, 0), (.iand, 1, 0, 0, 0)] (by decide +kernel) (g := true) (lv' := [some (.ref l0), some (.int l1), some (.int l2), some (.int l3), some (.int l4)]) (st' := [.int (l4 &&& (l2 ^^^ (-1 : Int32)))]) (D' := D) (pc' := 22) rfl (rfl) rfl ?_
      refine ev_if_ne hX (off := 49) 71 (by decide +kernel) (by decide) (fun h2 => ?_) (fun h2 => ?_)
      · have hf := ev_nf h2 hf
        refine ev_blk hX lkok_RX12 [(.iinc 4 1, 3, 0, 0, 1)] (by decide +kernel) (g := true) (lv' := [some (.ref l0), some (.int l1), some (.int l2), some (.int l3), some (.int (l4 + (1 : Int32)))]) (st' := []) (D' := D) (pc' := 74) rfl (rfl) rfl ?_
        refine ev_goto hX (off := (-64)) 10 (by decide +kernel) (by decide) ?_
        exact ev_weak hX (ev_le_eq (ev_le_eq (ev_le_eq (ev_le_eq (ev_le_eq ev_le_nil))))) (ih _ _ _ _ _ _ hl0 hf)
      · have hf := ev_it h2 hf
        refine ev_blk hX lkok_RX12 [(.aload_n 0, 1, 0, 0, 0), (.iload 4, 2, 0, 0, 0)] (by decide +kernel) (g := true) (lv' := [some (.ref l0), some (.int l1), some (.int l2), some (.int l3), some (.int l4)]) (st' := [.int l4, .ref l0]) (D' := D) (pc' := 28) rfl (rfl) rfl ?_
        obtain ⟨v3, D3, hc3, hf⟩ := ev_bd_s hf
        refine ev_callV hX YX12_opinionOf ml_RX12_462 (mX12_opinionOf hT hl0 hc3) (vs := [.int l4]) (st := []) (by decide) 12 hl0 rfl rfl rfl (by decide +kernel) hC ?_
        show F S D3 31 [some (.ref l0), some (.int l1), some (.int l2), some (.int l3), some (.int l4)] [.int v3]
        refine ev_if_gt hX (off := 6) 37 (by decide +kernel) (by decide) (fun h4 => ?_) (fun h4 => ?_)
        · have hf := ev_it h4 hf
          refine ev_blk hX lkok_RX12 [(.iload_n 1, 1, 0, 0, 0), (.iconst (-1), 1, 0, 0, (-1))] (by decide +kernel) (g := true) (lv' := [some (.ref l0), some (.int l1), some (.int l2), some (.int l3), some (.int l4)]) (st' := [.int (-1 : Int32), .int l1]) (D' := D3) (pc' := 39) rfl (rfl) rfl ?_
          refine ev_ic_eq hX (off := 28) 67 (by decide +kernel) (by decide) (fun h5 => ?_) (fun h5 => ?_)
          · have hf := ev_it h5 hf
            refine ev_blk hX lkok_RX12 [(.iload_n 3, 1, 0, 0, 0), (.iconst 1, 1, 0, 0, 1), (.iadd, 1, 0, 0, 0), (.istore_n 3, 1, 0, 0, 0), (.iinc 4 1, 3, 0, 0, 1)] (by decide +kernel) (g := true) (lv' := [some (.ref l0), some (.int l1), some (.int l2), some (.int (l3 + (1 : Int32))), some (.int (l4 + (1 : Int32)))]) (st' := []) (D' := D3) (pc' := 74) rfl (rfl) rfl ?_
            refine ev_goto hX (off := (-64)) 10 (by decide +kernel) (by decide) ?_
            exact ev_weak hX (ev_le_eq (ev_le_eq (ev_le_eq (ev_le_eq (ev_le_eq ev_le_nil))))) (ih _ _ _ _ _ _ hl0 hf)
          · have hf := ev_nf h5 hf
            refine ev_blk hX lkok_RX12 [(.aload_n 0, 1, 0, 0, 0), (.iload 4, 2, 0, 0, 0), (.iload_n 1, 1, 0, 0, 0)] (by decide +kernel) (g := true) (lv' := [some (.ref l0), some (.int l1), some (.int l2), some (.int l3), some (.int l4)]) (st' := [.int l1, .int l4, .ref l0]) (D' := D3) (pc' := 46) rfl (rfl) rfl ?_
            obtain ⟨v6, D6, hc6, hf⟩ := ev_bd_s hf
            refine ev_callV hX YX12_has ml_RX12_390 (mX12_has hT hl0 hc6) (vs := [.int l4, .int l1]) (st := []) (by decide) 12 hl0 rfl rfl rfl (by decide +kernel) hC ?_
            show F S D6 49 [some (.ref l0), some (.int l1), some (.int l2), some (.int l3), some (.int l4)] [.int v6]
            refine ev_if_eq hX (off := 22) 71 (by decide +kernel) (by decide) (fun h7 => ?_) (fun h7 => ?_)
            · have hf := ev_it h7 hf
              refine ev_blk hX lkok_RX12 [(.iinc 4 1, 3, 0, 0, 1)] (by decide +kernel) (g := true) (lv' := [some (.ref l0), some (.int l1), some (.int l2), some (.int l3), some (.int (l4 + (1 : Int32)))]) (st' := []) (D' := D6) (pc' := 74) rfl (rfl) rfl ?_
              refine ev_goto hX (off := (-64)) 10 (by decide +kernel) (by decide) ?_
              exact ev_weak hX (ev_le_eq (ev_le_eq (ev_le_eq (ev_le_eq (ev_le_eq ev_le_nil))))) (ih _ _ _ _ _ _ hl0 hf)
            · have hf := ev_nf h7 hf
              refine ev_blk hX lkok_RX12 [(.aload_n 0, 1, 0, 0, 0), (.iload 4, 2, 0, 0, 0), (.iconst 1, 1, 0, 0, 1), (.iload_n 1, 1, 0, 0, 0), (.ishl, 1, 0, 0, 0), (.iconst (-1), 1, 0, 0, (-1)), (.ixor, 1, 0, 0, 0), (.iand, 1, 0, 0, 0)] (by decide +kernel) (g := true) (lv' := [some (.ref l0), some (.int l1), some (.int l2), some (.int l3), some (.int l4)]) (st' := [.int (l4 &&& (((1 : Int32) <<< (l1 &&& 31)) ^^^ (-1 : Int32))), .ref l0]) (D' := D6) (pc' := 61) rfl (rfl) rfl ?_
              obtain ⟨v8, D8, hc8, hf⟩ := ev_bd_s hf
              refine ev_callV hX YX12_opinionOf ml_RX12_462 (mX12_opinionOf hT hl0 hc8) (vs := [.int (l4 &&& (((1 : Int32) <<< (l1 &&& 31)) ^^^ (-1 : Int32)))]) (st := []) (by decide) 12 hl0 rfl rfl rfl (by decide +kernel) hC ?_
              show F S D8 64 [some (.ref l0), some (.int l1), some (.int l2), some (.int l3), some (.int l4)] [.int v8]
              refine ev_if_gt hX (off := 7) 71 (by decide +kernel) (by decide) (fun h9 => ?_) (fun h9 => ?_)
              · have hf := ev_it h9 hf
                refine ev_blk hX lkok_RX12 [(.iinc 4 1, 3, 0, 0, 1)] (by decide +kernel) (g := true) (lv' := [some (.ref l0), some (.int l1), some (.int l2), some (.int l3), some (.int (l4 + (1 : Int32)))]) (st' := []) (D' := D8) (pc' := 74) rfl (rfl) rfl ?_
                refine ev_goto hX (off := (-64)) 10 (by decide +kernel) (by decide) ?_
                exact ev_weak hX (ev_le_eq (ev_le_eq (ev_le_eq (ev_le_eq (ev_le_eq ev_le_nil))))) (ih _ _ _ _ _ _ hl0 hf)
              · have hf := ev_nf h9 hf
                refine ev_blk hX lkok_RX12 [(.iload_n 3, 1, 0, 0, 0), (.iconst 1, 1, 0, 0, 1), (.iadd, 1, 0, 0, 0), (.istore_n 3, 1, 0, 0, 0), (.iinc 4 1, 3, 0, 0, 1)] (by decide +kernel) (g := true) (lv' := [some (.ref l0), some (.int l1), some (.int l2), some (.int (l3 + (1 : Int32))), some (.int (l4 + (1 : Int32)))]) (st' := []) (D' := D8) (pc' := 74) rfl (rfl) rfl ?_
                refine ev_goto hX (off := (-64)) 10 (by decide +kernel) (by decide) ?_
                exact ev_weak hX (ev_le_eq (ev_le_eq (ev_le_eq (ev_le_eq (ev_le_eq ev_le_nil))))) (ih _ _ _ _ _ _ hl0 hf)
        · have hf := ev_nf h4 hf
          refine ev_goto hX (off := 37) 71 (by decide +kernel) (by decide) ?_
          refine ev_blk hX lkok_RX12 [(.iinc 4 1, 3, 0, 0, 1)] (by decide +kernel) (g := true) (lv' := [some (.ref l0), some (.int l1), some (.int l2), some (.int l3), some (.int (l4 + (1 : Int32)))]) (st' := []) (D' := D3) (pc' := 74) rfl (rfl) rfl ?_
          refine ev_goto hX (off := (-64)) 10 (by decide +kernel) (by decide) ?_
          exact ev_weak hX (ev_le_eq (ev_le_eq (ev_le_eq (ev_le_eq (ev_le_eq ev_le_nil))))) (ih _ _ _ _ _ _ hl0 hf)
set_option maxHeartbeats 4000000 in
set_option maxRecDepth 100000 in
theorem tX12_swings {S : ev_S} {fu : Nat} {r : Int32 × ev_D} {F : ev_Fr} (hR : ev_R RX12 cX12_swings 5 2 0 0 false (some .int) S r F) (hT : ev_Ty S) (hC : sC S ≤ 0 ∧ sA S ≤ 0) {l0 : Nat} {l1 : Int32} {D : ev_D} (hl0 : sK S l0 = 15) (hf : fX12_swings (sL S) (sE S) fu l0 l1 D = some r) : F S D 0 [some (.ref l0), some (.int l1), none, none, none] [] := by
  have hX := hR.X
  unfold fX12_swings at hf
  refine ev_blk hX lkok_RX12 [(.aload_n 0, 1, 0, 0, 0)] (by decide +kernel) (g := true) (lv' := [some (.ref l0), some (.int l1), none, none, none]) (st' := [.ref l0]) (D' := D) (pc' := 1) rfl (rfl) rfl ?_
  obtain ⟨v10, D10, hc10, hf⟩ := ev_bd_s hf
  refine ev_callV hX YX12_awakeSet ml_RX12_384 (mX12_awakeSet hT hl0 hc10) (vs := []) (st := []) (by decide) 12 hl0 rfl rfl rfl (by decide +kernel) hC ?_
  show F S D10 4 [some (.ref l0), some (.int l1), none, none, none] [.int v10]
  refine ev_blk hX lkok_RX12 [(.istore_n 2, 1, 0, 0, 0), (.iconst 0, 1, 0, 0, 0), (.istore_n 3, 1, 0, 0, 0), (.iconst 0, 1, 0, 0, 0), (.istore 4, 2, 0, 0, 0)] (by decide +kernel) (g := true) (lv' := [some (.ref l0), some (.int l1), some (.int v10), some (.int (0 : Int32)), some (.int (0 : Int32))]) (st' := []) (D' := D10) (pc' := 10) rfl (rfl) rfl ?_
  exact ev_weak hX (ev_le_eq (ev_le_eq (ev_le_eq (ev_le_eq (ev_le_eq ev_le_nil))))) (tX12_swings_10 hR hT hC   fu _ _ _ _ _ _ hl0 hf)
theorem mX12_swings {S : ev_S} {fu : Nat} {r : Int32 × ev_D} (hT : ev_Ty S) {l0 : Nat} {l1 : Int32} {D : ev_D} (hl0 : sK S l0 = 15) (hf : fX12_swings (sL S) (sE S) fu l0 l1 D = some r) : ev_M 2 0 0 yX12_swings cX12_swings 5 (some .int) [.ref l0, .int l1] S D S r :=
  ev_met (ini := false) (plainFor_of_name (by decide)) (fun h => by cases h) rfl (Nat.le_of_ble_eq_true rfl) (fun F hR => tX12_swings (S := ev_z S) hR hT ⟨Nat.le_refl 0, Nat.le_refl 0⟩ hl0 hf)
set_option maxHeartbeats 4000000 in
set_option maxRecDepth 100000 in
theorem tX12_peals {S : ev_S} {fu : Nat} {r : Int32 × ev_D} {F : ev_Fr} (hR : ev_R RX12 cX12_peals 2 3 0 0 false (some .int) S r F) (hT : ev_Ty S) (hC : sC S ≤ 0 ∧ sA S ≤ 0) {l0 : Nat} {l1 : Int32} {D : ev_D} (hl0 : sK S l0 = 15) (hf : fX12_peals (sL S) (sE S) fu l0 l1 D = some r) : F S D 0 [some (.ref l0), some (.int l1)] [] := by
  have hX := hR.X
  unfold fX12_peals at hf
  refine ev_blk hX lkok_RX12 [(.aload_n 0, 1, 0, 0, 0), (.iconst 0, 1, 0, 0, 0), (.putfield 128, 3, 12, 0, 0), (.iload_n 1, 1, 0, 0, 0)] (by decide +kernel) (g := (sK S l0 == 15) && (true)) (lv' := [some (.ref l0), some (.int l1)]) (st' := [.int l1]) (D' := (ev_up D l0 0 (0 : Int32))) (pc' := 6) rfl (ev_gk hl0 (rfl)) rfl ?_
  refine ev_if_ne hX (off := 12) 18 (by decide +kernel) (by decide) (fun h1 => ?_) (fun h1 => ?_)
  · have hf := ev_nf h1 hf
    refine ev_blk hX lkok_RX12 [(.iload_n 1, 1, 0, 0, 0), (.iconst 1, 1, 0, 0, 1)] (by decide +kernel) (g := true) (lv' := [some (.ref l0), some (.int l1)]) (st' := [.int (1 : Int32), .int l1]) (D' := (ev_up D l0 0 (0 : Int32))) (pc' := 20) rfl (rfl) rfl ?_
    refine ev_ic_ne hX (off := 9) 29 (by decide +kernel) (by decide) (fun h2 => ?_) (fun h2 => ?_)
    · have hf := ev_nf h2 hf
      refine ev_blk hX lkok_RX12 [(.aload_n 0, 1, 0, 0, 0), (.iload_n 1, 1, 0, 0, 0), (.bipush 10, 2, 0, 0, 10), (.bipush 9, 2, 0, 0, 9), (.aload_n 0, 1, 0, 0, 0), (.getfield 140, 3, 12, 7, 0), (.iadd, 1, 0, 0, 0)] (by decide +kernel) (g := (sK S l0 == 15) && (true)) (lv' := [some (.ref l0), some (.int l1)]) (st' := [.int ((9 : Int32) + ((ev_up D l0 0 (0 : Int32)) l0 7)), .int (10 : Int32), .int l1, .ref l0]) (D' := (ev_up D l0 0 (0 : Int32))) (pc' := 40) rfl (ev_gk hl0 (rfl)) rfl ?_
      obtain ⟨v3, D3, hc3, hf⟩ := ev_bd_s hf
      refine ev_callV hX YX12_isIn ml_RX12_150 (mX12_isIn hT hl0 hc3) (vs := [.int l1, .int (10 : Int32), .int ((9 : Int32) + ((ev_up D l0 0 (0 : Int32)) l0 7))]) (st := []) (by decide) 12 hl0 rfl rfl rfl (by decide +kernel) hC ?_
      show F S D3 43 [some (.ref l0), some (.int l1)] [.int v3]
      refine ev_if_eq hX (off := 14) 57 (by decide +kernel) (by decide) (fun h4 => ?_) (fun h4 => ?_)
      · have hf := ev_it h4 hf
        refine ev_blk hX lkok_RX12 [(.bipush (-100), 2, 0, 0, (-100))] (by decide +kernel) (g := true) (lv' := [some (.ref l0), some (.int l1)]) (st' := [.int (-100 : Int32)]) (D' := D3) (pc' := 59) rfl (rfl) rfl ?_
        exact ev_iret hR ev_sm.rf (Option.some.inj hf) hC (by decide +kernel)
      · have hf := ev_nf h4 hf
        refine ev_blk hX lkok_RX12 [(.aload_n 0, 1, 0, 0, 0), (.iload_n 1, 1, 0, 0, 0), (.bipush 10, 2, 0, 0, 10), (.isub, 1, 0, 0, 0)] (by decide +kernel) (g := true) (lv' := [some (.ref l0), some (.int l1)]) (st' := [.int (l1 - (10 : Int32)), .ref l0]) (D' := D3) (pc' := 51) rfl (rfl) rfl ?_
        obtain ⟨v5, D5, hc5, hf⟩ := ev_bd_s hf
        refine ev_callV hX YX12_swings ml_RX12_465 (mX12_swings hT hl0 hc5) (vs := [.int (l1 - (10 : Int32))]) (st := []) (by decide) 12 hl0 rfl rfl rfl (by decide +kernel) hC ?_
        show F S D5 54 [some (.ref l0), some (.int l1)] [.int v5]
        refine ev_goto hX (off := 5) 59 (by decide +kernel) (by decide) ?_
        exact ev_iret hR ev_sm.rf (Option.some.inj hf) hC (by decide +kernel)
    · have hf := ev_it h2 hf
      refine ev_blk hX lkok_RX12 [(.aload_n 0, 1, 0, 0, 0), (.iconst (-1), 1, 0, 0, (-1))] (by decide +kernel) (g := true) (lv' := [some (.ref l0), some (.int l1)]) (st' := [.int (-1 : Int32), .ref l0]) (D' := (ev_up D l0 0 (0 : Int32))) (pc' := 25) rfl (rfl) rfl ?_
      obtain ⟨v6, D6, hc6, hf⟩ := ev_bd_s hf
      refine ev_callV hX YX12_swings ml_RX12_465 (mX12_swings hT hl0 hc6) (vs := [.int (-1 : Int32)]) (st := []) (by decide) 12 hl0 rfl rfl rfl (by decide +kernel) hC ?_
      show F S D6 28 [some (.ref l0), some (.int l1)] [.int v6]
      exact ev_iret hR ev_sm.rf (Option.some.inj hf) hC (by decide +kernel)
  · have hf := ev_it h1 hf
    refine ev_blk hX lkok_RX12 [(.aload_n 0, 1, 0, 0, 0), (.aload_n 0, 1, 0, 0, 0)] (by decide +kernel) (g := true) (lv' := [some (.ref l0), some (.int l1)]) (st' := [.ref l0, .ref l0]) (D' := (ev_up D l0 0 (0 : Int32))) (pc' := 11) rfl (rfl) rfl ?_
    obtain ⟨v7, D7, hc7, hf⟩ := ev_bd_s hf
    refine ev_callV hX YX12_awakeSet ml_RX12_384 (mX12_awakeSet hT hl0 hc7) (vs := []) (st := [.ref l0]) (by decide) 12 hl0 rfl rfl rfl (by decide +kernel) hC ?_
    show F S D7 14 [some (.ref l0), some (.int l1)] [.int v7, .ref l0]
    obtain ⟨v8, D8, hc8, hf⟩ := ev_bd_s hf
    refine ev_callV hX YX12_opinionOf ml_RX12_462 (mX12_opinionOf hT hl0 hc8) (vs := [.int v7]) (st := []) (by decide) 12 hl0 rfl rfl rfl (by decide +kernel) hC ?_
    show F S D8 17 [some (.ref l0), some (.int l1)] [.int v8]
    exact ev_iret hR ev_sm.rf (Option.some.inj hf) hC (by decide +kernel)
theorem mX12_peals {S : ev_S} {fu : Nat} {r : Int32 × ev_D} (hT : ev_Ty S) {l0 : Nat} {l1 : Int32} {D : ev_D} (hl0 : sK S l0 = 15) (hf : fX12_peals (sL S) (sE S) fu l0 l1 D = some r) : ev_M 3 0 0 yX12_peals cX12_peals 2 (some .int) [.ref l0, .int l1] S D S r :=
  ev_met (ini := false) (plainFor_of_name (by decide)) (fun h => by cases h) rfl (Nat.le_of_ble_eq_true rfl) (fun F hR => tX12_peals (S := ev_z S) hR hT ⟨Nat.le_refl 0, Nat.le_refl 0⟩ hl0 hf)
set_option maxHeartbeats 4000000 in
set_option maxRecDepth 100000 in
theorem tX12_findsNimbers_36 {S : ev_S} {fu : Nat} {r : Int32 × ev_D} {F : ev_Fr} (hR : ev_R RX12 cX12_findsNimbers 5 0 0 0 false none S r F) (hT : ev_Ty S) (hC : sC S ≤ 0 ∧ sA S ≤ 0) {k9 : Nat → Int32 → ev_D → ev_Op} (hk9 : ∀ (l0 : Nat) (l1 : Int32) (D : ev_D), sK S l0 = 15 → k9 l0 l1 D = some r → F S D 9 [some (.ref l0), some (.int l1), none, none, none] []) : ∀ (n : Nat) (l0 : Nat) (l1 : Int32) (l2 : Int32) (l3 : Int32) (l4 : Int32) (D : ev_D), sK S l0 = 15 → fX12_findsNimbers_36 (sL S) (sE S) fu k9 n l0 l1 l2 l3 l4 D = some r → F S D 36 [some (.ref l0), some (.int l1), some (.int l2), some (.int l3), some (.int l4)] [] := by
  have hX := hR.X
  intro n
  induction n with
  | zero =>
    intro l0 l1 l2 l3 l4 D hl0 hf
    rw [fX12_findsNimbers_36] at hf
    cases hf
  | succ n ih =>
    intro l0 l1 l2 l3 l4 D hl0 hf
    rw [fX12_findsNimbers_36] at hf
    refine ev_blk hX lkok_RX12 [(.iload 4, 2, 0, 0, 0), (.iload_n 2, 1, 0, 0, 0)] (by decide +kernel) (g := true) (lv' := [some (.ref l0), some (.int l1), some (.int l2), some (.int l3), some (.int l4)]) (st' := [.int l2, .int l4]) (D' := D) (pc' := 39) rfl (rfl) rfl ?_
    refine ev_ic_eq hX (off := 9) 48 (by decide +kernel) (by decide) (fun h1 => ?_) (fun h1 => ?_)
    · have hf := ev_it h1 hf
      refine ev_blk hX lkok_RX12 [(.iload 4, 2, 0, 0, 0), (.iconst 1, 1, 0, 0, 1), (.iadd, 1, 0, 0, 0), (.istore 4, 2, 0, 0, 0)] (by decide +kernel) (g := true) (lv' := [some (.ref l0), some (.int l1), some (.int l2), some (.int l3), some (.int (l4 + (1 : Int32)))]) (st' := []) (D' := D) (pc' := 54) rfl (rfl) rfl ?_
      refine ev_goto hX (off := (-18)) 36 (by decide +kernel) (by decide) ?_
      exact ev_weak hX (ev_le_eq (ev_le_eq (ev_le_eq (ev_le_eq (ev_le_eq ev_le_nil))))) (ih _ _ _ _ _ _ hl0 hf)
    · have hf := ev_nf h1 hf
      refine ev_blk hX lkok_RX12 [(.iload 4, 2, 0, 0, 0), (.iload_n 3, 1, 0, 0, 0)] (by decide +kernel) (g := true) (lv' := [some (.ref l0), some (.int l1), some (.int l2), some (.int l3), some (.int l4)]) (st' := [.int l3, .int l4]) (D' := D) (pc' := 45) rfl (rfl) rfl ?_
      refine ev_ic_ne hX (off := 12) 57 (by decide +kernel) (by decide) (fun h2 => ?_) (fun h2 => ?_)
      · have hf := ev_nf h2 hf
        obtain ⟨hg3, hf⟩ := ev_gd_s hf
        refine ev_blk hX lkok_RX12 [(.aload_n 0, 1, 0, 0, 0), (.getfield 122, 3, 12, 62, 0), (.iload_n 1, 1, 0, 0, 0), (.iload 4, 2, 0, 0, 0), (.iastore, 1, 0, 0, 0), (.iinc 1 1, 3, 0, 0, 1)] (by decide +kernel) (g := (sK S l0 == 15) && ((sK S ((sE S) l0 62) == 1 && ev_in l1 ((sL S) ((sE S) l0 62))) && (true))) (lv' := [some (.ref l0), some (.int (l1 + (1 : Int32))), some (.int l2), some (.int l3), some (.int l4)]) (st' := []) (D' := (ev_up D ((sE S) l0 62) (l1).toNatClampNeg l4)) (pc' := 68) rfl (ev_gk hl0 (ev_gi (ev_tyk hT hl0 rfl rfl) hg3 (rfl))) rfl ?_
        refine ev_goto hX (off := (-59)) 9 (by decide +kernel) (by decide) ?_
        exact ev_weak hX (ev_le_eq (ev_le_eq (ev_le_no (ev_le_no (ev_le_no ev_le_nil))))) (hk9 _ _ _ hl0 hf)
      · have hf := ev_it h2 hf
        refine ev_blk hX lkok_RX12 [(.iload 4, 2, 0, 0, 0), (.iconst 1, 1, 0, 0, 1), (.iadd, 1, 0, 0, 0), (.istore 4, 2, 0, 0, 0)] (by decide +kernel) (g := true) (lv' := [some (.ref l0), some (.int l1), some (.int l2), some (.int l3), some (.int (l4 + (1 : Int32)))]) (st' := []) (D' := D) (pc' := 54) rfl (rfl) rfl ?_
        refine ev_goto hX (off := (-18)) 36 (by decide +kernel) (by decide) ?_
        exact ev_weak hX (ev_le_eq (ev_le_eq (ev_le_eq (ev_le_eq (ev_le_eq ev_le_nil))))) (ih _ _ _ _ _ _ hl0 hf)
set_option maxHeartbeats 4000000 in
set_option maxRecDepth 100000 in
theorem tX12_findsNimbers_9 {S : ev_S} {fu : Nat} {r : Int32 × ev_D} {F : ev_Fr} (hR : ev_R RX12 cX12_findsNimbers 5 0 0 0 false none S r F) (hT : ev_Ty S) (hC : sC S ≤ 0 ∧ sA S ≤ 0) : ∀ (n : Nat) (l0 : Nat) (l1 : Int32) (D : ev_D), sK S l0 = 15 → fX12_findsNimbers_9 (sL S) (sE S) fu n l0 l1 D = some r → F S D 9 [some (.ref l0), some (.int l1), none, none, none] [] := by
  have hX := hR.X
  intro n
  induction n with
  | zero =>
    intro l0 l1 D hl0 hf
    rw [fX12_findsNimbers_9] at hf
    cases hf
  | succ n ih =>
    intro l0 l1 D hl0 hf
    rw [fX12_findsNimbers_9] at hf
    refine ev_blk hX lkok_RX12 [(.iload_n 1, 1, 0, 0, 0), (.bipush 100, 2, 0, 0, 100)] (by decide +kernel) (g := true) (lv' := [some (.ref l0), some (.int l1), none, none, none]) (st' := [.int (100 : Int32), .int l1]) (D' := D) (pc' := 12) rfl (rfl) rfl ?_
    refine ev_ic_ge hX (off := 59) 71 (by decide +kernel) (by decide) (fun h4 => ?_) (fun h4 => ?_)
    · have hf := ev_it h4 hf
      exact ev_vret hR ev_sm.rf (Option.some.inj hf) hC (by decide +kernel)
    · have hf := ev_nf h4 hf
      obtain ⟨hg5, hf⟩ := ev_gd_s hf
      obtain ⟨hg6, hf⟩ := ev_gd_s hf
      refine ev_blk hX lkok_RX12 [(.aload_n 0, 1, 0, 0, 0), (.getfield 122, 3, 12, 62, 0), (.iload_n 1, 1, 0, 0, 0), (.iconst 1, 1, 0, 0, 1), (.isub, 1, 0, 0, 0), (.iaload, 1, 0, 0, 0), (.istore_n 2, 1, 0, 0, 0), (.aload_n 0, 1, 0, 0, 0), (.getfield 122, 3, 12, 62, 0), (.iload_n 1, 1, 0, 0, 0), (.iconst 2, 1, 0, 0, 2), (.idiv, 1, 0, 0, 0), (.iaload, 1, 0, 0, 0), (.istore_n 3, 1, 0, 0, 0), (.iconst 0, 1, 0, 0, 0), (.istore 4, 2, 0, 0, 0)] (by decide +kernel) (g := (sK S l0 == 15) && ((sK S ((sE S) l0 62) == 1 && ev_in (l1 - (1 : Int32)) ((sL S) ((sE S) l0 62))) && ((sK S l0 == 15) && ((!(decide ((2 : Int32) = 0))) && ((sK S ((sE S) l0 62) == 1 && ev_in (l1 / (2 : Int32)) ((sL S) ((sE S) l0 62))) && (true)))))) (lv' := [some (.ref l0), some (.int l1), some (.int (D ((sE S) l0 62) ((l1 - (1 : Int32))).toNatClampNeg)), some (.int (D ((sE S) l0 62) ((l1 / (2 : Int32))).toNatClampNeg)), some (.int (0 : Int32))]) (st' := []) (D' := D) (pc' := 36) rfl (ev_gk hl0 (ev_gi (ev_tyk hT hl0 rfl rfl) hg5 (ev_gk hl0 (ev_g2 rfl (ev_gi (ev_tyk hT hl0 rfl rfl) hg6 (rfl)))))) rfl ?_
      exact ev_weak hX (ev_le_eq (ev_le_eq (ev_le_eq (ev_le_eq (ev_le_eq ev_le_nil))))) (tX12_findsNimbers_36 hR hT hC  ih fu _ _ _ _ _ _ hl0 hf)
set_option maxHeartbeats 4000000 in
set_option maxRecDepth 100000 in
theorem tX12_findsNimbers {S : ev_S} {fu : Nat} {r : Int32 × ev_D} {F : ev_Fr} (hR : ev_R RX12 cX12_findsNimbers 5 0 0 0 false none S r F) (hT : ev_Ty S) (hC : sC S ≤ 0 ∧ sA S ≤ 0) {l0 : Nat} {D : ev_D} (hl0 : sK S l0 = 15) (hf : fX12_findsNimbers (sL S) (sE S) fu l0 D = some r) : F S D 0 [some (.ref l0), none, none, none, none] [] := by
  have hX := hR.X
  unfold fX12_findsNimbers at hf
  obtain ⟨hg7, hf⟩ := ev_gd_s hf
  refine ev_blk hX lkok_RX12 [(.aload_n 0, 1, 0, 0, 0), (.getfield 122, 3, 12, 62, 0), (.iconst 0, 1, 0, 0, 0), (.iconst 0, 1, 0, 0, 0), (.iastore, 1, 0, 0, 0), (.iconst 1, 1, 0, 0, 1), (.istore_n 1, 1, 0, 0, 0)] (by decide +kernel) (g := (sK S l0 == 15) && ((sK S ((sE S) l0 62) == 1 && ev_in (0 : Int32) ((sL S) ((sE S) l0 62))) && (true))) (lv' := [some (.ref l0), some (.int (1 : Int32)), none, none, none]) (st' := []) (D' := (ev_up D ((sE S) l0 62) ((0 : Int32)).toNatClampNeg (0 : Int32))) (pc' := 9) rfl (ev_gk hl0 (ev_gi (ev_tyk hT hl0 rfl rfl) hg7 (rfl))) rfl ?_
  exact ev_weak hX (ev_le_eq (ev_le_eq (ev_le_no (ev_le_no (ev_le_no ev_le_nil))))) (tX12_findsNimbers_9 hR hT hC   fu _ _ _ hl0 hf)
theorem mX12_findsNimbers {S : ev_S} {fu : Nat} {r : Int32 × ev_D} (hT : ev_Ty S) {l0 : Nat} {D : ev_D} (hl0 : sK S l0 = 15) (hf : fX12_findsNimbers (sL S) (sE S) fu l0 D = some r) : ev_M 0 0 0 yX12_findsNimbers cX12_findsNimbers 5 none [.ref l0] S D S r :=
  ev_met (ini := false) (plainFor_of_name (by decide)) (fun h => by cases h) rfl (Nat.le_of_ble_eq_true rfl) (fun F hR => tX12_findsNimbers (S := ev_z S) hR hT ⟨Nat.le_refl 0, Nat.le_refl 0⟩ hl0 hf)
set_option maxHeartbeats 4000000 in
set_option maxRecDepth 100000 in
theorem tX12_game_117 {S : ev_S} {fu : Nat} {r : Int32 × ev_D} {F : ev_Fr} (hR : ev_R RX12 cX12_game 6 1 0 0 false (some .int) S r F) (hT : ev_Ty S) (hC : sC S ≤ 0 ∧ sA S ≤ 0) {k58 : Nat → Int32 → Int32 → Int32 → ev_D → ev_Op} (hk58 : ∀ (l0 : Nat) (l1 : Int32) (l2 : Int32) (l3 : Int32) (D : ev_D), sK S l0 = 15 → k58 l0 l1 l2 l3 D = some r → F S D 58 [some (.ref l0), some (.int l1), some (.int l2), some (.int l3), none, none] []) {l0 : Nat} {l1 : Int32} {l2 : Int32} {l3 : Int32} {l4 : Int32} {l5 : Int32} {D : ev_D} (hl0 : sK S l0 = 15) (hf : fX12_game_117 (sL S) (sE S) fu k58 l0 l1 l2 l3 l4 l5 D = some r) : F S D 117 [some (.ref l0), some (.int l1), some (.int l2), some (.int l3), some (.int l4), some (.int l5)] [] := by
  have hX := hR.X
  unfold fX12_game_117 at hf
  refine ev_blk hX lkok_RX12 [(.iload 4, 2, 0, 0, 0)] (by decide +kernel) (g := true) (lv' := [some (.ref l0), some (.int l1), some (.int l2), some (.int l3), some (.int l4), some (.int l5)]) (st' := [.int l4]) (D' := D) (pc' := 119) rfl (rfl) rfl ?_
  refine ev_if_le hX (off := 33) 152 (by decide +kernel) (by decide) (fun h1 => ?_) (fun h1 => ?_)
  · have hf := ev_it h1 hf
    refine ev_blk hX lkok_RX12 [(.iinc 3 1, 3, 0, 0, 1)] (by decide +kernel) (g := true) (lv' := [some (.ref l0), some (.int l1), some (.int l2), some (.int (l3 + (1 : Int32))), some (.int l4), some (.int l5)]) (st' := []) (D' := D) (pc' := 155) rfl (rfl) rfl ?_
    refine ev_goto hX (off := (-97)) 58 (by decide +kernel) (by decide) ?_
    exact ev_weak hX (ev_le_eq (ev_le_eq (ev_le_eq (ev_le_eq (ev_le_no (ev_le_no ev_le_nil)))))) (hk58 _ _ _ _ _ hl0 hf)
  · have hf := ev_nf h1 hf
    obtain ⟨hg4, hf⟩ := ev_gd_s hf
    refine ev_blk hX lkok_RX12 [(.aload_n 0, 1, 0, 0, 0), (.getfield 122, 3, 12, 62, 0), (.iload 4, 2, 0, 0, 0), (.iconst 2, 1, 0, 0, 2), (.idiv, 1, 0, 0, 0), (.iaload, 1, 0, 0, 0), (.iload 5, 2, 0, 0, 0)] (by decide +kernel) (g := (sK S l0 == 15) && ((!(decide ((2 : Int32) = 0))) && ((sK S ((sE S) l0 62) == 1 && ev_in (l4 / (2 : Int32)) ((sL S) ((sE S) l0 62))) && (true)))) (lv' := [some (.ref l0), some (.int l1), some (.int l2), some (.int l3), some (.int l4), some (.int l5)]) (st' := [.int l5, .int (D ((sE S) l0 62) ((l4 / (2 : Int32))).toNatClampNeg)]) (D' := D) (pc' := 133) rfl (ev_gk hl0 (ev_g2 rfl (ev_gi (ev_tyk hT hl0 rfl rfl) hg4 (rfl)))) rfl ?_
    refine ev_ic_ne hX (off := 19) 152 (by decide +kernel) (by decide) (fun h2 => ?_) (fun h2 => ?_)
    · have hf := ev_nf h2 hf
      refine ev_blk hX lkok_RX12 [(.iinc 3 1, 3, 0, 0, 1)] (by decide +kernel) (g := true) (lv' := [some (.ref l0), some (.int l1), some (.int l2), some (.int (l3 + (1 : Int32))), some (.int l4), some (.int l5)]) (st' := []) (D' := D) (pc' := 155) rfl (rfl) rfl ?_
      refine ev_goto hX (off := (-97)) 58 (by decide +kernel) (by decide) ?_
      exact ev_weak hX (ev_le_eq (ev_le_eq (ev_le_eq (ev_le_eq (ev_le_no (ev_le_no ev_le_nil)))))) (hk58 _ _ _ _ _ hl0 hf)
    · have hf := ev_it h2 hf
      refine ev_blk hX lkok_RX12 [(.iload_n 1, 1, 0, 0, 0)] (by decide +kernel) (g := true) (lv' := [some (.ref l0), some (.int l1), some (.int l2), some (.int l3), some (.int l4), some (.int l5)]) (st' := [.int l1]) (D' := D) (pc' := 137) rfl (rfl) rfl ?_
      refine ev_if_ne hX (off := 7) 144 (by decide +kernel) (by decide) (fun h3 => ?_) (fun h3 => ?_)
      · have hf := ev_nf h3 hf
        refine ev_blk hX lkok_RX12 [(.iload 4, 2, 0, 0, 0), (.iload 4, 2, 0, 0, 0), (.iconst 2, 1, 0, 0, 2), (.idiv, 1, 0, 0, 0), (.isub, 1, 0, 0, 0)] (by decide +kernel) (g := (!(decide ((2 : Int32) = 0))) && (true)) (lv' := [some (.ref l0), some (.int l1), some (.int l2), some (.int l3), some (.int l4), some (.int l5)]) (st' := [.int (l4 - (l4 / (2 : Int32)))]) (D' := D) (pc' := 151) rfl (ev_g2 rfl (rfl)) rfl ?_
        exact ev_iret hR ev_sm.rf (Option.some.inj hf) hC (by decide +kernel)
      · have hf := ev_it h3 hf
        refine ev_blk hX lkok_RX12 [(.iload_n 3, 1, 0, 0, 0)] (by decide +kernel) (g := true) (lv' := [some (.ref l0), some (.int l1), some (.int l2), some (.int l3), some (.int l4), some (.int l5)]) (st' := [.int l3]) (D' := D) (pc' := 141) rfl (rfl) rfl ?_
        refine ev_goto hX (off := 10) 151 (by decide +kernel) (by decide) ?_
        exact ev_iret hR ev_sm.rf (Option.some.inj hf) hC (by decide +kernel)
set_option maxHeartbeats 4000000 in
set_option maxRecDepth 100000 in
theorem tX12_game_58 {S : ev_S} {fu : Nat} {r : Int32 × ev_D} {F : ev_Fr} (hR : ev_R RX12 cX12_game 6 1 0 0 false (some .int) S r F) (hT : ev_Ty S) (hC : sC S ≤ 0 ∧ sA S ≤ 0) : ∀ (n : Nat) (l0 : Nat) (l1 : Int32) (l2 : Int32) (l3 : Int32) (D : ev_D), sK S l0 = 15 → fX12_game_58 (sL S) (sE S) fu n l0 l1 l2 l3 D = some r → F S D 58 [some (.ref l0), some (.int l1), some (.int l2), some (.int l3), none, none] [] := by
  have hX := hR.X
  intro n
  induction n with
  | zero =>
    intro l0 l1 l2 l3 D hl0 hf
    rw [fX12_game_58] at hf
    cases hf
  | succ n ih =>
    intro l0 l1 l2 l3 D hl0 hf
    rw [fX12_game_58] at hf
    refine ev_blk hX lkok_RX12 [(.iload_n 3, 1, 0, 0, 0), (.aload_n 0, 1, 0, 0, 0), (.getfield 140, 3, 12, 7, 0)] (by decide +kernel) (g := (sK S l0 == 15) && (true)) (lv' := [some (.ref l0), some (.int l1), some (.int l2), some (.int l3), none, none]) (st' := [.int (D l0 7), .int l3]) (D' := D) (pc' := 63) rfl (ev_gk hl0 (rfl)) rfl ?_
    refine ev_ic_ge hX (off := 95) 158 (by decide +kernel) (by decide) (fun h5 => ?_) (fun h5 => ?_)
    · have hf := ev_it h5 hf
      refine ev_blk hX lkok_RX12 [(.iconst (-1), 1, 0, 0, (-1))] (by decide +kernel) (g := true) (lv' := [some (.ref l0), some (.int l1), some (.int l2), some (.int l3), none, none]) (st' := [.int (-1 : Int32)]) (D' := D) (pc' := 159) rfl (rfl) rfl ?_
      exact ev_iret hR ev_sm.rf (Option.some.inj hf) hC (by decide +kernel)
    · have hf := ev_nf h5 hf
      obtain ⟨hg10, hf⟩ := ev_gd_s hf
      obtain ⟨hg11, hf⟩ := ev_gd_s hf
      refine ev_blk hX lkok_RX12 [(.aload_n 0, 1, 0, 0, 0), (.getfield 7, 3, 12, 1, 0), (.bipush 24, 2, 0, 0, 24), (.iload_n 3, 1, 0, 0, 0), (.iadd, 1, 0, 0, 0), (.iaload, 1, 0, 0, 0), (.istore 4, 2, 0, 0, 0), (.iload_n 2, 1, 0, 0, 0), (.aload_n 0, 1, 0, 0, 0), (.getfield 122, 3, 12, 62, 0), (.iload 4, 2, 0, 0, 0), (.iaload, 1, 0, 0, 0), (.ixor, 1, 0, 0, 0), (.istore 5, 2, 0, 0, 0), (.iload 4, 2, 0, 0, 0)] (by decide +kernel) (g := (sK S l0 == 15) && ((sK S ((sE S) l0 1) == 1 && ev_in ((24 : Int32) + l3) ((sL S) ((sE S) l0 1))) && ((sK S l0 == 15) && ((sK S ((sE S) l0 62) == 1 && ev_in (D ((sE S) l0 1) (((24 : Int32) + l3)).toNatClampNeg) ((sL S) ((sE S) l0 62))) && (true))))) (lv' := [some (.ref l0), some (.int l1), some (.int l2), some (.int l3), some (.int (D ((sE S) l0 1) (((24 : Int32) + l3)).toNatClampNeg)), some (.int (l2 ^^^ (D ((sE S) l0 62) ((D ((sE S) l0 1) (((24 : Int32) + l3)).toNatClampNeg)).toNatClampNeg)))]) (st' := [.int (D ((sE S) l0 1) (((24 : Int32) + l3)).toNatClampNeg)]) (D' := D) (pc' := 90) rfl (ev_gk hl0 (ev_gi (ev_tyk hT hl0 rfl rfl) hg10 (ev_gk hl0 (ev_gi (ev_tyk hT hl0 rfl rfl) hg11 (rfl))))) rfl ?_
      refine ev_if_le hX (off := 27) 117 (by decide +kernel) (by decide) (fun h6 => ?_) (fun h6 => ?_)
      · have hf := ev_it h6 hf
        exact ev_weak hX (ev_le_eq (ev_le_eq (ev_le_eq (ev_le_eq (ev_le_eq (ev_le_eq ev_le_nil)))))) (tX12_game_117 hR hT hC  ih hl0 hf)
      · have hf := ev_nf h6 hf
        obtain ⟨hg9, hf⟩ := ev_gd_s hf
        refine ev_blk hX lkok_RX12 [(.aload_n 0, 1, 0, 0, 0), (.getfield 122, 3, 12, 62, 0), (.iload 4, 2, 0, 0, 0), (.iconst 1, 1, 0, 0, 1), (.isub, 1, 0, 0, 0), (.iaload, 1, 0, 0, 0), (.iload 5, 2, 0, 0, 0)] (by decide +kernel) (g := (sK S l0 == 15) && ((sK S ((sE S) l0 62) == 1 && ev_in ((D ((sE S) l0 1) (((24 : Int32) + l3)).toNatClampNeg) - (1 : Int32)) ((sL S) ((sE S) l0 62))) && (true))) (lv' := [some (.ref l0), some (.int l1), some (.int l2), some (.int l3), some (.int (D ((sE S) l0 1) (((24 : Int32) + l3)).toNatClampNeg)), some (.int (l2 ^^^ (D ((sE S) l0 62) ((D ((sE S) l0 1) (((24 : Int32) + l3)).toNatClampNeg)).toNatClampNeg)))]) (st' := [.int (l2 ^^^ (D ((sE S) l0 62) ((D ((sE S) l0 1) (((24 : Int32) + l3)).toNatClampNeg)).toNatClampNeg)), .int (D ((sE S) l0 62) (((D ((sE S) l0 1) (((24 : Int32) + l3)).toNatClampNeg) - (1 : Int32))).toNatClampNeg)]) (D' := D) (pc' := 104) rfl (ev_gk hl0 (ev_gi (ev_tyk hT hl0 rfl rfl) hg9 (rfl))) rfl ?_
        refine ev_ic_ne hX (off := 13) 117 (by decide +kernel) (by decide) (fun h7 => ?_) (fun h7 => ?_)
        · have hf := ev_nf h7 hf
          exact ev_weak hX (ev_le_eq (ev_le_eq (ev_le_eq (ev_le_eq (ev_le_eq (ev_le_eq ev_le_nil)))))) (tX12_game_117 hR hT hC  ih hl0 hf)
        · have hf := ev_it h7 hf
          refine ev_blk hX lkok_RX12 [(.iload_n 1, 1, 0, 0, 0)] (by decide +kernel) (g := true) (lv' := [some (.ref l0), some (.int l1), some (.int l2), some (.int l3), some (.int (D ((sE S) l0 1) (((24 : Int32) + l3)).toNatClampNeg)), some (.int (l2 ^^^ (D ((sE S) l0 62) ((D ((sE S) l0 1) (((24 : Int32) + l3)).toNatClampNeg)).toNatClampNeg)))]) (st' := [.int l1]) (D' := D) (pc' := 108) rfl (rfl) rfl ?_
          refine ev_if_ne hX (off := 7) 115 (by decide +kernel) (by decide) (fun h8 => ?_) (fun h8 => ?_)
          · have hf := ev_nf h8 hf
            refine ev_blk hX lkok_RX12 [(.iconst 1, 1, 0, 0, 1)] (by decide +kernel) (g := true) (lv' := [some (.ref l0), some (.int l1), some (.int l2), some (.int l3), some (.int (D ((sE S) l0 1) (((24 : Int32) + l3)).toNatClampNeg)), some (.int (l2 ^^^ (D ((sE S) l0 62) ((D ((sE S) l0 1) (((24 : Int32) + l3)).toNatClampNeg)).toNatClampNeg)))]) (st' := [.int (1 : Int32)]) (D' := D) (pc' := 116) rfl (rfl) rfl ?_
            exact ev_iret hR ev_sm.rf (Option.some.inj hf) hC (by decide +kernel)
          · have hf := ev_it h8 hf
            refine ev_blk hX lkok_RX12 [(.iload_n 3, 1, 0, 0, 0)] (by decide +kernel) (g := true) (lv' := [some (.ref l0), some (.int l1), some (.int l2), some (.int l3), some (.int (D ((sE S) l0 1) (((24 : Int32) + l3)).toNatClampNeg)), some (.int (l2 ^^^ (D ((sE S) l0 62) ((D ((sE S) l0 1) (((24 : Int32) + l3)).toNatClampNeg)).toNatClampNeg)))]) (st' := [.int l3]) (D' := D) (pc' := 112) rfl (rfl) rfl ?_
            refine ev_goto hX (off := 4) 116 (by decide +kernel) (by decide) ?_
            exact ev_iret hR ev_sm.rf (Option.some.inj hf) hC (by decide +kernel)
set_option maxHeartbeats 4000000 in
set_option maxRecDepth 100000 in
theorem tX12_game_25 {S : ev_S} {fu : Nat} {r : Int32 × ev_D} {F : ev_Fr} (hR : ev_R RX12 cX12_game 6 1 0 0 false (some .int) S r F) (hT : ev_Ty S) (hC : sC S ≤ 0 ∧ sA S ≤ 0) : ∀ (n : Nat) (l0 : Nat) (l1 : Int32) (l2 : Int32) (l3 : Int32) (D : ev_D), sK S l0 = 15 → fX12_game_25 (sL S) (sE S) fu n l0 l1 l2 l3 D = some r → F S D 25 [some (.ref l0), some (.int l1), some (.int l2), some (.int l3), none, none] [] := by
  have hX := hR.X
  intro n
  induction n with
  | zero =>
    intro l0 l1 l2 l3 D hl0 hf
    rw [fX12_game_25] at hf
    cases hf
  | succ n ih =>
    intro l0 l1 l2 l3 D hl0 hf
    rw [fX12_game_25] at hf
    refine ev_blk hX lkok_RX12 [(.iload_n 3, 1, 0, 0, 0), (.aload_n 0, 1, 0, 0, 0), (.getfield 140, 3, 12, 7, 0)] (by decide +kernel) (g := (sK S l0 == 15) && (true)) (lv' := [some (.ref l0), some (.int l1), some (.int l2), some (.int l3), none, none]) (st' := [.int (D l0 7), .int l3]) (D' := D) (pc' := 30) rfl (ev_gk hl0 (rfl)) rfl ?_
    refine ev_ic_ge hX (off := 26) 56 (by decide +kernel) (by decide) (fun h12 => ?_) (fun h12 => ?_)
    · have hf := ev_it h12 hf
      refine ev_blk hX lkok_RX12 [(.iconst 0, 1, 0, 0, 0), (.istore_n 3, 1, 0, 0, 0)] (by decide +kernel) (g := true) (lv' := [some (.ref l0), some (.int l1), some (.int l2), some (.int (0 : Int32)), none, none]) (st' := []) (D' := D) (pc' := 58) rfl (rfl) rfl ?_
      exact ev_weak hX (ev_le_eq (ev_le_eq (ev_le_eq (ev_le_eq (ev_le_no (ev_le_no ev_le_nil)))))) (tX12_game_58 hR hT hC   fu _ _ _ _ _ hl0 hf)
    · have hf := ev_nf h12 hf
      obtain ⟨hg13, hf⟩ := ev_gd_s hf
      obtain ⟨hg14, hf⟩ := ev_gd_s hf
      refine ev_blk hX lkok_RX12 [(.iload_n 2, 1, 0, 0, 0), (.aload_n 0, 1, 0, 0, 0), (.getfield 122, 3, 12, 62, 0), (.aload_n 0, 1, 0, 0, 0), (.getfield 7, 3, 12, 1, 0), (.bipush 24, 2, 0, 0, 24), (.iload_n 3, 1, 0, 0, 0), (.iadd, 1, 0, 0, 0), (.iaload, 1, 0, 0, 0), (.iaload, 1, 0, 0, 0), (.ixor, 1, 0, 0, 0), (.istore_n 2, 1, 0, 0, 0), (.iinc 3 1, 3, 0, 0, 1)] (by decide +kernel) (g := (sK S l0 == 15) && ((sK S l0 == 15) && ((sK S ((sE S) l0 1) == 1 && ev_in ((24 : Int32) + l3) ((sL S) ((sE S) l0 1))) && ((sK S ((sE S) l0 62) == 1 && ev_in (D ((sE S) l0 1) (((24 : Int32) + l3)).toNatClampNeg) ((sL S) ((sE S) l0 62))) && (true))))) (lv' := [some (.ref l0), some (.int l1), some (.int (l2 ^^^ (D ((sE S) l0 62) ((D ((sE S) l0 1) (((24 : Int32) + l3)).toNatClampNeg)).toNatClampNeg))), some (.int (l3 + (1 : Int32))), none, none]) (st' := []) (D' := D) (pc' := 53) rfl (ev_gk hl0 (ev_gk hl0 (ev_gi (ev_tyk hT hl0 rfl rfl) hg13 (ev_gi (ev_tyk hT hl0 rfl rfl) hg14 (rfl))))) rfl ?_
      refine ev_goto hX (off := (-28)) 25 (by decide +kernel) (by decide) ?_
      exact ev_weak hX (ev_le_eq (ev_le_eq (ev_le_eq (ev_le_eq (ev_le_no (ev_le_no ev_le_nil)))))) (ih _ _ _ _ _ hl0 hf)
set_option maxHeartbeats 4000000 in
set_option maxRecDepth 100000 in
theorem tX12_game {S : ev_S} {fu : Nat} {r : Int32 × ev_D} {F : ev_Fr} (hR : ev_R RX12 cX12_game 6 1 0 0 false (some .int) S r F) (hT : ev_Ty S) (hC : sC S ≤ 0 ∧ sA S ≤ 0) {l0 : Nat} {l1 : Int32} {D : ev_D} (hl0 : sK S l0 = 15) (hf : fX12_game (sL S) (sE S) fu l0 l1 D = some r) : F S D 0 [some (.ref l0), some (.int l1), none, none, none, none] [] := by
  have hX := hR.X
  unfold fX12_game at hf
  refine ev_blk hX lkok_RX12 [(.aload_n 0, 1, 0, 0, 0), (.iconst 0, 1, 0, 0, 0), (.putfield 128, 3, 12, 0, 0), (.aload_n 0, 1, 0, 0, 0), (.iload_n 1, 1, 0, 0, 0), (.iconst 0, 1, 0, 0, 0), (.iconst 1, 1, 0, 0, 1)] (by decide +kernel) (g := (sK S l0 == 15) && (true)) (lv' := [some (.ref l0), some (.int l1), none, none, none, none]) (st' := [.int (1 : Int32), .int (0 : Int32), .int l1, .ref l0]) (D' := (ev_up D l0 0 (0 : Int32))) (pc' := 9) rfl (ev_gk hl0 (rfl)) rfl ?_
  obtain ⟨v15, D15, hc15, hf⟩ := ev_bd_s hf
  refine ev_callV hX YX12_isIn ml_RX12_150 (mX12_isIn hT hl0 hc15) (vs := [.int l1, .int (0 : Int32), .int (1 : Int32)]) (st := []) (by decide) 12 hl0 rfl rfl rfl (by decide +kernel) hC ?_
  show F S D15 12 [some (.ref l0), some (.int l1), none, none, none, none] [.int v15]
  refine ev_if_ne hX (off := 5) 17 (by decide +kernel) (by decide) (fun h16 => ?_) (fun h16 => ?_)
  · have hf := ev_nf h16 hf
    refine ev_blk hX lkok_RX12 [(.aload_n 0, 1, 0, 0, 0)] (by decide +kernel) (g := true) (lv' := [some (.ref l0), some (.int l1), none, none, none, none]) (st' := [.ref l0]) (D' := D15) (pc' := 18) rfl (rfl) rfl ?_
    obtain ⟨v17, D17, hc17, hf⟩ := ev_bd_s hf
    refine ev_callV hX YX12_findsNimbers ml_RX12_468 (mX12_findsNimbers hT hl0 hc17) (vs := []) (st := []) (by decide) 12 hl0 rfl rfl rfl (by decide +kernel) hC ?_
    show F S D17 21 [some (.ref l0), some (.int l1), none, none, none, none] []
    refine ev_blk hX lkok_RX12 [(.iconst 0, 1, 0, 0, 0), (.istore_n 2, 1, 0, 0, 0), (.iconst 0, 1, 0, 0, 0), (.istore_n 3, 1, 0, 0, 0)] (by decide +kernel) (g := true) (lv' := [some (.ref l0), some (.int l1), some (.int (0 : Int32)), some (.int (0 : Int32)), none, none]) (st' := []) (D' := D17) (pc' := 25) rfl (rfl) rfl ?_
    exact ev_weak hX (ev_le_eq (ev_le_eq (ev_le_eq (ev_le_eq (ev_le_no (ev_le_no ev_le_nil)))))) (tX12_game_25 hR hT hC   fu _ _ _ _ _ hl0 hf)
  · have hf := ev_it h16 hf
    refine ev_blk hX lkok_RX12 [(.iconst (-1), 1, 0, 0, (-1))] (by decide +kernel) (g := true) (lv' := [some (.ref l0), some (.int l1), none, none, none, none]) (st' := [.int (-1 : Int32)]) (D' := D15) (pc' := 16) rfl (rfl) rfl ?_
    exact ev_iret hR ev_sm.rf (Option.some.inj hf) hC (by decide +kernel)
theorem mX12_game {S : ev_S} {fu : Nat} {r : Int32 × ev_D} (hT : ev_Ty S) {l0 : Nat} {l1 : Int32} {D : ev_D} (hl0 : sK S l0 = 15) (hf : fX12_game (sL S) (sE S) fu l0 l1 D = some r) : ev_M 1 0 0 yX12_game cX12_game 6 (some .int) [.ref l0, .int l1] S D S r :=
  ev_met (ini := false) (plainFor_of_name (by decide)) (fun h => by cases h) rfl (Nat.le_of_ble_eq_true rfl) (fun F hR => tX12_game (S := ev_z S) hR hT ⟨Nat.le_refl 0, Nat.le_refl 0⟩ hl0 hf)
set_option maxHeartbeats 4000000 in
set_option maxRecDepth 100000 in
theorem tX12_keeps {S : ev_S} {fu : Nat} {r : Int32 × ev_D} {F : ev_Fr} (hR : ev_R RX12 cX12_keeps 2 0 0 0 false (some .int) S r F) (hT : ev_Ty S) (hC : sC S ≤ 0 ∧ sA S ≤ 0) {l0 : Nat} {l1 : Int32} {D : ev_D} (hl0 : sK S l0 = 15) (hf : fX12_keeps (sL S) (sE S) fu l0 l1 D = some r) : F S D 0 [some (.ref l0), some (.int l1)] [] := by
  have hX := hR.X
  unfold fX12_keeps at hf
  refine ev_blk hX lkok_RX12 [(.aload_n 0, 1, 0, 0, 0), (.aload_n 0, 1, 0, 0, 0), (.getfield 471, 3, 12, 65, 0), (.iconst 1, 1, 0, 0, 1), (.iadd, 1, 0, 0, 0), (.putfield 471, 3, 12, 65, 0), (.aload_n 0, 1, 0, 0, 0), (.getfield 474, 3, 12, 63, 0)] (by decide +kernel) (g := (sK S l0 == 15) && ((sK S l0 == 15) && ((sK S l0 == 15) && (true)))) (lv' := [some (.ref l0), some (.int l1)]) (st' := [.int ((ev_up D l0 65 ((D l0 65) + (1 : Int32))) l0 63)]) (D' := (ev_up D l0 65 ((D l0 65) + (1 : Int32)))) (pc' := 14) rfl (ev_gk hl0 (ev_gk hl0 (ev_gk hl0 (rfl)))) rfl ?_
  refine ev_if_ne hX (off := 15) 29 (by decide +kernel) (by decide) (fun h1 => ?_) (fun h1 => ?_)
  · have hf := ev_nf h1 hf
    obtain ⟨hg2, hf⟩ := ev_gd_s hf
    refine ev_blk hX lkok_RX12 [(.aload_n 0, 1, 0, 0, 0), (.getfield 125, 3, 12, 66, 0), (.aload_n 0, 1, 0, 0, 0), (.getfield 471, 3, 12, 65, 0), (.iconst 1, 1, 0, 0, 1), (.isub, 1, 0, 0, 0), (.iload_n 1, 1, 0, 0, 0), (.iastore, 1, 0, 0, 0), (.iload_n 1, 1, 0, 0, 0)] (by decide +kernel) (g := (sK S l0 == 15) && ((sK S l0 == 15) && ((sK S ((sE S) l0 66) == 1 && ev_in (((ev_up D l0 65 ((D l0 65) + (1 : Int32))) l0 65) - (1 : Int32)) ((sL S) ((sE S) l0 66))) && (true)))) (lv' := [some (.ref l0), some (.int l1)]) (st' := [.int l1]) (D' := (ev_up (ev_up D l0 65 ((D l0 65) + (1 : Int32))) ((sE S) l0 66) ((((ev_up D l0 65 ((D l0 65) + (1 : Int32))) l0 65) - (1 : Int32))).toNatClampNeg l1)) (pc' := 42) rfl (ev_gk hl0 (ev_gk hl0 (ev_gi (ev_tyk hT hl0 rfl rfl) hg2 (rfl)))) rfl ?_
    exact ev_iret hR ev_sm.rf (Option.some.inj hf) hC (by decide +kernel)
  · have hf := ev_it h1 hf
    obtain ⟨hg3, hf⟩ := ev_gd_s hf
    refine ev_blk hX lkok_RX12 [(.aload_n 0, 1, 0, 0, 0), (.getfield 125, 3, 12, 66, 0), (.aload_n 0, 1, 0, 0, 0), (.getfield 471, 3, 12, 65, 0), (.iconst 1, 1, 0, 0, 1), (.isub, 1, 0, 0, 0), (.iaload, 1, 0, 0, 0)] (by decide +kernel) (g := (sK S l0 == 15) && ((sK S l0 == 15) && ((sK S ((sE S) l0 66) == 1 && ev_in (((ev_up D l0 65 ((D l0 65) + (1 : Int32))) l0 65) - (1 : Int32)) ((sL S) ((sE S) l0 66))) && (true)))) (lv' := [some (.ref l0), some (.int l1)]) (st' := [.int ((ev_up D l0 65 ((D l0 65) + (1 : Int32))) ((sE S) l0 66) ((((ev_up D l0 65 ((D l0 65) + (1 : Int32))) l0 65) - (1 : Int32))).toNatClampNeg)]) (D' := (ev_up D l0 65 ((D l0 65) + (1 : Int32)))) (pc' := 28) rfl (ev_gk hl0 (ev_gk hl0 (ev_gi (ev_tyk hT hl0 rfl rfl) hg3 (rfl)))) rfl ?_
    exact ev_iret hR ev_sm.rf (Option.some.inj hf) hC (by decide +kernel)
theorem mX12_keeps {S : ev_S} {fu : Nat} {r : Int32 × ev_D} (hT : ev_Ty S) {l0 : Nat} {l1 : Int32} {D : ev_D} (hl0 : sK S l0 = 15) (hf : fX12_keeps (sL S) (sE S) fu l0 l1 D = some r) : ev_M 0 0 0 yX12_keeps cX12_keeps 2 (some .int) [.ref l0, .int l1] S D S r :=
  ev_met (ini := false) (plainFor_of_name (by decide)) (fun h => by cases h) rfl (Nat.le_of_ble_eq_true rfl) (fun F hR => tX12_keeps (S := ev_z S) hR hT ⟨Nat.le_refl 0, Nat.le_refl 0⟩ hl0 hf)
set_option maxHeartbeats 4000000 in
set_option maxRecDepth 100000 in
theorem tX12_keepsLaw_96 {S : ev_S} {fu : Nat} {r : Int32 × ev_D} {F : ev_Fr} (hR : ev_R RX12 cX12_keepsLaw 2 1 0 0 false none S r F) (hT : ev_Ty S) (hC : sC S ≤ 0 ∧ sA S ≤ 0) : ∀ (n : Nat) (l0 : Nat) (l1 : Int32) (D : ev_D), sK S l0 = 15 → fX12_keepsLaw_96 (sL S) (sE S) fu n l0 l1 D = some r → F S D 96 [some (.ref l0), some (.int l1)] [] := by
  have hX := hR.X
  intro n
  induction n with
  | zero =>
    intro l0 l1 D hl0 hf
    rw [fX12_keepsLaw_96] at hf
    cases hf
  | succ n ih =>
    intro l0 l1 D hl0 hf
    rw [fX12_keepsLaw_96] at hf
    refine ev_blk hX lkok_RX12 [(.iload_n 1, 1, 0, 0, 0), (.sipush 400, 3, 0, 0, 400)] (by decide +kernel) (g := true) (lv' := [some (.ref l0), some (.int l1)]) (st' := [.int (400 : Int32), .int l1]) (D' := D) (pc' := 100) rfl (rfl) rfl ?_
    refine ev_ic_ge hX (off := 41) 141 (by decide +kernel) (by decide) (fun h1 => ?_) (fun h1 => ?_)
    · have hf := ev_it h1 hf
      exact ev_vret hR ev_sm.rf (Option.some.inj hf) hC (by decide +kernel)
    · have hf := ev_nf h1 hf
      obtain ⟨hg7, hf⟩ := ev_gd_s hf
      refine ev_blk hX lkok_RX12 [(.aload_n 0, 1, 0, 0, 0), (.getfield 55, 3, 12, 24, 0), (.iload_n 1, 1, 0, 0, 0), (.aload_n 0, 1, 0, 0, 0), (.aload_n 0, 1, 0, 0, 0), (.getfield 55, 3, 12, 24, 0), (.iload_n 1, 1, 0, 0, 0), (.iaload, 1, 0, 0, 0)] (by decide +kernel) (g := (sK S l0 == 15) && ((sK S l0 == 15) && ((sK S ((sE S) l0 24) == 1 && ev_in l1 ((sL S) ((sE S) l0 24))) && (true)))) (lv' := [some (.ref l0), some (.int l1)]) (st' := [.int (D ((sE S) l0 24) (l1).toNatClampNeg), .ref l0, .int l1, .ref ((sE S) l0 24)]) (D' := D) (pc' := 115) rfl (ev_gk hl0 (ev_gk hl0 (ev_gi (ev_tyk hT hl0 rfl rfl) hg7 (rfl)))) rfl ?_
      obtain ⟨v2, D2, hc2, hf⟩ := ev_bd_s hf
      refine ev_callV hX YX12_keeps ml_RX12_477 (mX12_keeps hT hl0 hc2) (vs := [.int (D ((sE S) l0 24) (l1).toNatClampNeg)]) (st := [.int l1, .ref ((sE S) l0 24)]) (by decide) 12 hl0 rfl rfl rfl (by decide +kernel) hC ?_
      show F S D2 118 [some (.ref l0), some (.int l1)] [.int v2, .int l1, .ref ((sE S) l0 24)]
      obtain ⟨hg5, hf⟩ := ev_gd_s hf
      obtain ⟨hg6, hf⟩ := ev_gd_s hf
      refine ev_blk hX lkok_RX12 [(.iastore, 1, 0, 0, 0), (.aload_n 0, 1, 0, 0, 0), (.getfield 58, 3, 12, 25, 0), (.iload_n 1, 1, 0, 0, 0), (.aload_n 0, 1, 0, 0, 0), (.aload_n 0, 1, 0, 0, 0), (.getfield 58, 3, 12, 25, 0), (.iload_n 1, 1, 0, 0, 0), (.iaload, 1, 0, 0, 0)] (by decide +kernel) (g := (sK S ((sE S) l0 24) == 1 && ev_in l1 ((sL S) ((sE S) l0 24))) && ((sK S l0 == 15) && ((sK S l0 == 15) && ((sK S ((sE S) l0 25) == 1 && ev_in l1 ((sL S) ((sE S) l0 25))) && (true))))) (lv' := [some (.ref l0), some (.int l1)]) (st' := [.int ((ev_up D2 ((sE S) l0 24) (l1).toNatClampNeg v2) ((sE S) l0 25) (l1).toNatClampNeg), .ref l0, .int l1, .ref ((sE S) l0 25)]) (D' := (ev_up D2 ((sE S) l0 24) (l1).toNatClampNeg v2)) (pc' := 131) rfl (ev_gi (ev_tyk hT hl0 rfl rfl) hg5 (ev_gk hl0 (ev_gk hl0 (ev_gi (ev_tyk hT hl0 rfl rfl) hg6 (rfl))))) rfl ?_
      obtain ⟨v3, D3, hc3, hf⟩ := ev_bd_s hf
      refine ev_callV hX YX12_keeps ml_RX12_477 (mX12_keeps hT hl0 hc3) (vs := [.int ((ev_up D2 ((sE S) l0 24) (l1).toNatClampNeg v2) ((sE S) l0 25) (l1).toNatClampNeg)]) (st := [.int l1, .ref ((sE S) l0 25)]) (by decide) 12 hl0 rfl rfl rfl (by decide +kernel) hC ?_
      show F S D3 134 [some (.ref l0), some (.int l1)] [.int v3, .int l1, .ref ((sE S) l0 25)]
      obtain ⟨hg4, hf⟩ := ev_gd_s hf
      refine ev_blk hX lkok_RX12 [(.iastore, 1, 0, 0, 0), (.iinc 1 1, 3, 0, 0, 1)] (by decide +kernel) (g := (sK S ((sE S) l0 25) == 1 && ev_in l1 ((sL S) ((sE S) l0 25))) && (true)) (lv' := [some (.ref l0), some (.int (l1 + (1 : Int32)))]) (st' := []) (D' := (ev_up D3 ((sE S) l0 25) (l1).toNatClampNeg v3)) (pc' := 138) rfl (ev_gi (ev_tyk hT hl0 rfl rfl) hg4 (rfl)) rfl ?_
      refine ev_goto hX (off := (-42)) 96 (by decide +kernel) (by decide) ?_
      exact ev_weak hX (ev_le_eq (ev_le_eq ev_le_nil)) (ih _ _ _ hl0 hf)
set_option maxHeartbeats 4000000 in
set_option maxRecDepth 100000 in
theorem tX12_keepsLaw_18 {S : ev_S} {fu : Nat} {r : Int32 × ev_D} {F : ev_Fr} (hR : ev_R RX12 cX12_keepsLaw 2 1 0 0 false none S r F) (hT : ev_Ty S) (hC : sC S ≤ 0 ∧ sA S ≤ 0) : ∀ (n : Nat) (l0 : Nat) (l1 : Int32) (D : ev_D), sK S l0 = 15 → fX12_keepsLaw_18 (sL S) (sE S) fu n l0 l1 D = some r → F S D 18 [some (.ref l0), some (.int l1)] [] := by
  have hX := hR.X
  intro n
  induction n with
  | zero =>
    intro l0 l1 D hl0 hf
    rw [fX12_keepsLaw_18] at hf
    cases hf
  | succ n ih =>
    intro l0 l1 D hl0 hf
    rw [fX12_keepsLaw_18] at hf
    refine ev_blk hX lkok_RX12 [(.iload_n 1, 1, 0, 0, 0), (.bipush 16, 2, 0, 0, 16)] (by decide +kernel) (g := true) (lv' := [some (.ref l0), some (.int l1)]) (st' := [.int (16 : Int32), .int l1]) (D' := D) (pc' := 21) rfl (rfl) rfl ?_
    refine ev_ic_ge hX (off := 73) 94 (by decide +kernel) (by decide) (fun h8 => ?_) (fun h8 => ?_)
    · have hf := ev_it h8 hf
      refine ev_blk hX lkok_RX12 [(.iconst 0, 1, 0, 0, 0), (.istore_n 1, 1, 0, 0, 0)] (by decide +kernel) (g := true) (lv' := [some (.ref l0), some (.int (0 : Int32))]) (st' := []) (D' := D) (pc' := 96) rfl (rfl) rfl ?_
      exact ev_weak hX (ev_le_eq (ev_le_eq ev_le_nil)) (tX12_keepsLaw_96 hR hT hC   fu _ _ _ hl0 hf)
    · have hf := ev_nf h8 hf
      obtain ⟨hg20, hf⟩ := ev_gd_s hf
      refine ev_blk hX lkok_RX12 [(.aload_n 0, 1, 0, 0, 0), (.getfield 43, 3, 12, 20, 0), (.iload_n 1, 1, 0, 0, 0), (.aload_n 0, 1, 0, 0, 0), (.aload_n 0, 1, 0, 0, 0), (.getfield 43, 3, 12, 20, 0), (.iload_n 1, 1, 0, 0, 0), (.iaload, 1, 0, 0, 0)] (by decide +kernel) (g := (sK S l0 == 15) && ((sK S l0 == 15) && ((sK S ((sE S) l0 20) == 1 && ev_in l1 ((sL S) ((sE S) l0 20))) && (true)))) (lv' := [some (.ref l0), some (.int l1)]) (st' := [.int (D ((sE S) l0 20) (l1).toNatClampNeg), .ref l0, .int l1, .ref ((sE S) l0 20)]) (D' := D) (pc' := 36) rfl (ev_gk hl0 (ev_gk hl0 (ev_gi (ev_tyk hT hl0 rfl rfl) hg20 (rfl)))) rfl ?_
      obtain ⟨v9, D9, hc9, hf⟩ := ev_bd_s hf
      refine ev_callV hX YX12_keeps ml_RX12_477 (mX12_keeps hT hl0 hc9) (vs := [.int (D ((sE S) l0 20) (l1).toNatClampNeg)]) (st := [.int l1, .ref ((sE S) l0 20)]) (by decide) 12 hl0 rfl rfl rfl (by decide +kernel) hC ?_
      show F S D9 39 [some (.ref l0), some (.int l1)] [.int v9, .int l1, .ref ((sE S) l0 20)]
      obtain ⟨hg18, hf⟩ := ev_gd_s hf
      obtain ⟨hg19, hf⟩ := ev_gd_s hf
      refine ev_blk hX lkok_RX12 [(.iastore, 1, 0, 0, 0), (.aload_n 0, 1, 0, 0, 0), (.getfield 46, 3, 12, 21, 0), (.iload_n 1, 1, 0, 0, 0), (.aload_n 0, 1, 0, 0, 0), (.aload_n 0, 1, 0, 0, 0), (.getfield 46, 3, 12, 21, 0), (.iload_n 1, 1, 0, 0, 0), (.iaload, 1, 0, 0, 0)] (by decide +kernel) (g := (sK S ((sE S) l0 20) == 1 && ev_in l1 ((sL S) ((sE S) l0 20))) && ((sK S l0 == 15) && ((sK S l0 == 15) && ((sK S ((sE S) l0 21) == 1 && ev_in l1 ((sL S) ((sE S) l0 21))) && (true))))) (lv' := [some (.ref l0), some (.int l1)]) (st' := [.int ((ev_up D9 ((sE S) l0 20) (l1).toNatClampNeg v9) ((sE S) l0 21) (l1).toNatClampNeg), .ref l0, .int l1, .ref ((sE S) l0 21)]) (D' := (ev_up D9 ((sE S) l0 20) (l1).toNatClampNeg v9)) (pc' := 52) rfl (ev_gi (ev_tyk hT hl0 rfl rfl) hg18 (ev_gk hl0 (ev_gk hl0 (ev_gi (ev_tyk hT hl0 rfl rfl) hg19 (rfl))))) rfl ?_
      obtain ⟨v10, D10, hc10, hf⟩ := ev_bd_s hf
      refine ev_callV hX YX12_keeps ml_RX12_477 (mX12_keeps hT hl0 hc10) (vs := [.int ((ev_up D9 ((sE S) l0 20) (l1).toNatClampNeg v9) ((sE S) l0 21) (l1).toNatClampNeg)]) (st := [.int l1, .ref ((sE S) l0 21)]) (by decide) 12 hl0 rfl rfl rfl (by decide +kernel) hC ?_
      show F S D10 55 [some (.ref l0), some (.int l1)] [.int v10, .int l1, .ref ((sE S) l0 21)]
      obtain ⟨hg16, hf⟩ := ev_gd_s hf
      obtain ⟨hg17, hf⟩ := ev_gd_s hf
      refine ev_blk hX lkok_RX12 [(.iastore, 1, 0, 0, 0), (.aload_n 0, 1, 0, 0, 0), (.getfield 49, 3, 12, 22, 0), (.iload_n 1, 1, 0, 0, 0), (.aload_n 0, 1, 0, 0, 0), (.aload_n 0, 1, 0, 0, 0), (.getfield 49, 3, 12, 22, 0), (.iload_n 1, 1, 0, 0, 0), (.iaload, 1, 0, 0, 0)] (by decide +kernel) (g := (sK S ((sE S) l0 21) == 1 && ev_in l1 ((sL S) ((sE S) l0 21))) && ((sK S l0 == 15) && ((sK S l0 == 15) && ((sK S ((sE S) l0 22) == 1 && ev_in l1 ((sL S) ((sE S) l0 22))) && (true))))) (lv' := [some (.ref l0), some (.int l1)]) (st' := [.int ((ev_up D10 ((sE S) l0 21) (l1).toNatClampNeg v10) ((sE S) l0 22) (l1).toNatClampNeg), .ref l0, .int l1, .ref ((sE S) l0 22)]) (D' := (ev_up D10 ((sE S) l0 21) (l1).toNatClampNeg v10)) (pc' := 68) rfl (ev_gi (ev_tyk hT hl0 rfl rfl) hg16 (ev_gk hl0 (ev_gk hl0 (ev_gi (ev_tyk hT hl0 rfl rfl) hg17 (rfl))))) rfl ?_
      obtain ⟨v11, D11, hc11, hf⟩ := ev_bd_s hf
      refine ev_callV hX YX12_keeps ml_RX12_477 (mX12_keeps hT hl0 hc11) (vs := [.int ((ev_up D10 ((sE S) l0 21) (l1).toNatClampNeg v10) ((sE S) l0 22) (l1).toNatClampNeg)]) (st := [.int l1, .ref ((sE S) l0 22)]) (by decide) 12 hl0 rfl rfl rfl (by decide +kernel) hC ?_
      show F S D11 71 [some (.ref l0), some (.int l1)] [.int v11, .int l1, .ref ((sE S) l0 22)]
      obtain ⟨hg14, hf⟩ := ev_gd_s hf
      obtain ⟨hg15, hf⟩ := ev_gd_s hf
      refine ev_blk hX lkok_RX12 [(.iastore, 1, 0, 0, 0), (.aload_n 0, 1, 0, 0, 0), (.getfield 52, 3, 12, 23, 0), (.iload_n 1, 1, 0, 0, 0), (.aload_n 0, 1, 0, 0, 0), (.aload_n 0, 1, 0, 0, 0), (.getfield 52, 3, 12, 23, 0), (.iload_n 1, 1, 0, 0, 0), (.iaload, 1, 0, 0, 0)] (by decide +kernel) (g := (sK S ((sE S) l0 22) == 1 && ev_in l1 ((sL S) ((sE S) l0 22))) && ((sK S l0 == 15) && ((sK S l0 == 15) && ((sK S ((sE S) l0 23) == 1 && ev_in l1 ((sL S) ((sE S) l0 23))) && (true))))) (lv' := [some (.ref l0), some (.int l1)]) (st' := [.int ((ev_up D11 ((sE S) l0 22) (l1).toNatClampNeg v11) ((sE S) l0 23) (l1).toNatClampNeg), .ref l0, .int l1, .ref ((sE S) l0 23)]) (D' := (ev_up D11 ((sE S) l0 22) (l1).toNatClampNeg v11)) (pc' := 84) rfl (ev_gi (ev_tyk hT hl0 rfl rfl) hg14 (ev_gk hl0 (ev_gk hl0 (ev_gi (ev_tyk hT hl0 rfl rfl) hg15 (rfl))))) rfl ?_
      obtain ⟨v12, D12, hc12, hf⟩ := ev_bd_s hf
      refine ev_callV hX YX12_keeps ml_RX12_477 (mX12_keeps hT hl0 hc12) (vs := [.int ((ev_up D11 ((sE S) l0 22) (l1).toNatClampNeg v11) ((sE S) l0 23) (l1).toNatClampNeg)]) (st := [.int l1, .ref ((sE S) l0 23)]) (by decide) 12 hl0 rfl rfl rfl (by decide +kernel) hC ?_
      show F S D12 87 [some (.ref l0), some (.int l1)] [.int v12, .int l1, .ref ((sE S) l0 23)]
      obtain ⟨hg13, hf⟩ := ev_gd_s hf
      refine ev_blk hX lkok_RX12 [(.iastore, 1, 0, 0, 0), (.iinc 1 1, 3, 0, 0, 1)] (by decide +kernel) (g := (sK S ((sE S) l0 23) == 1 && ev_in l1 ((sL S) ((sE S) l0 23))) && (true)) (lv' := [some (.ref l0), some (.int (l1 + (1 : Int32)))]) (st' := []) (D' := (ev_up D12 ((sE S) l0 23) (l1).toNatClampNeg v12)) (pc' := 91) rfl (ev_gi (ev_tyk hT hl0 rfl rfl) hg13 (rfl)) rfl ?_
      refine ev_goto hX (off := (-73)) 18 (by decide +kernel) (by decide) ?_
      exact ev_weak hX (ev_le_eq (ev_le_eq ev_le_nil)) (ih _ _ _ hl0 hf)
set_option maxHeartbeats 4000000 in
set_option maxRecDepth 100000 in
theorem tX12_keepsLaw {S : ev_S} {fu : Nat} {r : Int32 × ev_D} {F : ev_Fr} (hR : ev_R RX12 cX12_keepsLaw 2 1 0 0 false none S r F) (hT : ev_Ty S) (hC : sC S ≤ 0 ∧ sA S ≤ 0) {l0 : Nat} {D : ev_D} (hl0 : sK S l0 = 15) (hf : fX12_keepsLaw (sL S) (sE S) fu l0 D = some r) : F S D 0 [some (.ref l0), none] [] := by
  have hX := hR.X
  unfold fX12_keepsLaw at hf
  obtain ⟨hg23, hf⟩ := ev_gd_s hf
  refine ev_blk hX lkok_RX12 [(.aload_n 0, 1, 0, 0, 0), (.getfield 40, 3, 12, 19, 0), (.iconst 0, 1, 0, 0, 0), (.aload_n 0, 1, 0, 0, 0), (.aload_n 0, 1, 0, 0, 0), (.getfield 40, 3, 12, 19, 0), (.iconst 0, 1, 0, 0, 0), (.iaload, 1, 0, 0, 0)] (by decide +kernel) (g := (sK S l0 == 15) && ((sK S l0 == 15) && ((sK S ((sE S) l0 19) == 1 && ev_in (0 : Int32) ((sL S) ((sE S) l0 19))) && (true)))) (lv' := [some (.ref l0), none]) (st' := [.int (D ((sE S) l0 19) ((0 : Int32)).toNatClampNeg), .ref l0, .int (0 : Int32), .ref ((sE S) l0 19)]) (D' := D) (pc' := 12) rfl (ev_gk hl0 (ev_gk hl0 (ev_gi (ev_tyk hT hl0 rfl rfl) hg23 (rfl)))) rfl ?_
  obtain ⟨v21, D21, hc21, hf⟩ := ev_bd_s hf
  refine ev_callV hX YX12_keeps ml_RX12_477 (mX12_keeps hT hl0 hc21) (vs := [.int (D ((sE S) l0 19) ((0 : Int32)).toNatClampNeg)]) (st := [.int (0 : Int32), .ref ((sE S) l0 19)]) (by decide) 12 hl0 rfl rfl rfl (by decide +kernel) hC ?_
  show F S D21 15 [some (.ref l0), none] [.int v21, .int (0 : Int32), .ref ((sE S) l0 19)]
  obtain ⟨hg22, hf⟩ := ev_gd_s hf
  refine ev_blk hX lkok_RX12 [(.iastore, 1, 0, 0, 0), (.iconst 0, 1, 0, 0, 0), (.istore_n 1, 1, 0, 0, 0)] (by decide +kernel) (g := (sK S ((sE S) l0 19) == 1 && ev_in (0 : Int32) ((sL S) ((sE S) l0 19))) && (true)) (lv' := [some (.ref l0), some (.int (0 : Int32))]) (st' := []) (D' := (ev_up D21 ((sE S) l0 19) ((0 : Int32)).toNatClampNeg v21)) (pc' := 18) rfl (ev_gi (ev_tyk hT hl0 rfl rfl) hg22 (rfl)) rfl ?_
  exact ev_weak hX (ev_le_eq (ev_le_eq ev_le_nil)) (tX12_keepsLaw_18 hR hT hC   fu _ _ _ hl0 hf)
theorem mX12_keepsLaw {S : ev_S} {fu : Nat} {r : Int32 × ev_D} (hT : ev_Ty S) {l0 : Nat} {D : ev_D} (hl0 : sK S l0 = 15) (hf : fX12_keepsLaw (sL S) (sE S) fu l0 D = some r) : ev_M 1 0 0 yX12_keepsLaw cX12_keepsLaw 2 none [.ref l0] S D S r :=
  ev_met (ini := false) (plainFor_of_name (by decide)) (fun h => by cases h) rfl (Nat.le_of_ble_eq_true rfl) (fun F hR => tX12_keepsLaw (S := ev_z S) hR hT ⟨Nat.le_refl 0, Nat.le_refl 0⟩ hl0 hf)
set_option maxHeartbeats 4000000 in
set_option maxRecDepth 100000 in
theorem tX12_keepsMany {S : ev_S} {fu : Nat} {r : Int32 × ev_D} {F : ev_Fr} (hR : ev_R RX12 cX12_keepsMany 1 1 0 0 false none S r F) (hT : ev_Ty S) (hC : sC S ≤ 0 ∧ sA S ≤ 0) {l0 : Nat} {D : ev_D} (hl0 : sK S l0 = 15) (hf : fX12_keepsMany (sL S) (sE S) fu l0 D = some r) : F S D 0 [some (.ref l0)] [] := by
  have hX := hR.X
  unfold fX12_keepsMany at hf
  refine ev_blk hX lkok_RX12 [(.aload_n 0, 1, 0, 0, 0), (.aload_n 0, 1, 0, 0, 0), (.aload_n 0, 1, 0, 0, 0), (.getfield 140, 3, 12, 7, 0)] (by decide +kernel) (g := (sK S l0 == 15) && (true)) (lv' := [some (.ref l0)]) (st' := [.int (D l0 7), .ref l0, .ref l0]) (D' := D) (pc' := 6) rfl (ev_gk hl0 (rfl)) rfl ?_
  obtain ⟨v1, D1, hc1, hf⟩ := ev_bd_s hf
  refine ev_callV hX YX12_keeps ml_RX12_477 (mX12_keeps hT hl0 hc1) (vs := [.int (D l0 7)]) (st := [.ref l0]) (by decide) 12 hl0 rfl rfl rfl (by decide +kernel) hC ?_
  show F S D1 9 [some (.ref l0)] [.int v1, .ref l0]
  refine ev_blk hX lkok_RX12 [(.putfield 140, 3, 12, 7, 0), (.aload_n 0, 1, 0, 0, 0), (.aload_n 0, 1, 0, 0, 0), (.aload_n 0, 1, 0, 0, 0), (.getfield 290, 3, 12, 35, 0)] (by decide +kernel) (g := (sK S l0 == 15) && ((sK S l0 == 15) && (true))) (lv' := [some (.ref l0)]) (st' := [.int ((ev_up D1 l0 7 v1) l0 35), .ref l0, .ref l0]) (D' := (ev_up D1 l0 7 v1)) (pc' := 18) rfl (ev_gk hl0 (ev_gk hl0 (rfl))) rfl ?_
  obtain ⟨v2, D2, hc2, hf⟩ := ev_bd_s hf
  refine ev_callV hX YX12_keeps ml_RX12_477 (mX12_keeps hT hl0 hc2) (vs := [.int ((ev_up D1 l0 7 v1) l0 35)]) (st := [.ref l0]) (by decide) 12 hl0 rfl rfl rfl (by decide +kernel) hC ?_
  show F S D2 21 [some (.ref l0)] [.int v2, .ref l0]
  refine ev_blk hX lkok_RX12 [(.putfield 290, 3, 12, 35, 0), (.aload_n 0, 1, 0, 0, 0), (.aload_n 0, 1, 0, 0, 0), (.aload_n 0, 1, 0, 0, 0), (.getfield 293, 3, 12, 37, 0)] (by decide +kernel) (g := (sK S l0 == 15) && ((sK S l0 == 15) && (true))) (lv' := [some (.ref l0)]) (st' := [.int ((ev_up D2 l0 35 v2) l0 37), .ref l0, .ref l0]) (D' := (ev_up D2 l0 35 v2)) (pc' := 30) rfl (ev_gk hl0 (ev_gk hl0 (rfl))) rfl ?_
  obtain ⟨v3, D3, hc3, hf⟩ := ev_bd_s hf
  refine ev_callV hX YX12_keeps ml_RX12_477 (mX12_keeps hT hl0 hc3) (vs := [.int ((ev_up D2 l0 35 v2) l0 37)]) (st := [.ref l0]) (by decide) 12 hl0 rfl rfl rfl (by decide +kernel) hC ?_
  show F S D3 33 [some (.ref l0)] [.int v3, .ref l0]
  refine ev_blk hX lkok_RX12 [(.putfield 293, 3, 12, 37, 0), (.aload_n 0, 1, 0, 0, 0), (.aload_n 0, 1, 0, 0, 0), (.aload_n 0, 1, 0, 0, 0), (.getfield 296, 3, 12, 39, 0)] (by decide +kernel) (g := (sK S l0 == 15) && ((sK S l0 == 15) && (true))) (lv' := [some (.ref l0)]) (st' := [.int ((ev_up D3 l0 37 v3) l0 39), .ref l0, .ref l0]) (D' := (ev_up D3 l0 37 v3)) (pc' := 42) rfl (ev_gk hl0 (ev_gk hl0 (rfl))) rfl ?_
  obtain ⟨v4, D4, hc4, hf⟩ := ev_bd_s hf
  refine ev_callV hX YX12_keeps ml_RX12_477 (mX12_keeps hT hl0 hc4) (vs := [.int ((ev_up D3 l0 37 v3) l0 39)]) (st := [.ref l0]) (by decide) 12 hl0 rfl rfl rfl (by decide +kernel) hC ?_
  show F S D4 45 [some (.ref l0)] [.int v4, .ref l0]
  refine ev_blk hX lkok_RX12 [(.putfield 296, 3, 12, 39, 0), (.aload_n 0, 1, 0, 0, 0), (.aload_n 0, 1, 0, 0, 0), (.aload_n 0, 1, 0, 0, 0), (.getfield 406, 3, 12, 45, 0)] (by decide +kernel) (g := (sK S l0 == 15) && ((sK S l0 == 15) && (true))) (lv' := [some (.ref l0)]) (st' := [.int ((ev_up D4 l0 39 v4) l0 45), .ref l0, .ref l0]) (D' := (ev_up D4 l0 39 v4)) (pc' := 54) rfl (ev_gk hl0 (ev_gk hl0 (rfl))) rfl ?_
  obtain ⟨v5, D5, hc5, hf⟩ := ev_bd_s hf
  refine ev_callV hX YX12_keeps ml_RX12_477 (mX12_keeps hT hl0 hc5) (vs := [.int ((ev_up D4 l0 39 v4) l0 45)]) (st := [.ref l0]) (by decide) 12 hl0 rfl rfl rfl (by decide +kernel) hC ?_
  show F S D5 57 [some (.ref l0)] [.int v5, .ref l0]
  refine ev_blk hX lkok_RX12 [(.putfield 406, 3, 12, 45, 0), (.aload_n 0, 1, 0, 0, 0), (.aload_n 0, 1, 0, 0, 0), (.aload_n 0, 1, 0, 0, 0), (.getfield 414, 3, 12, 48, 0)] (by decide +kernel) (g := (sK S l0 == 15) && ((sK S l0 == 15) && (true))) (lv' := [some (.ref l0)]) (st' := [.int ((ev_up D5 l0 45 v5) l0 48), .ref l0, .ref l0]) (D' := (ev_up D5 l0 45 v5)) (pc' := 66) rfl (ev_gk hl0 (ev_gk hl0 (rfl))) rfl ?_
  obtain ⟨v6, D6, hc6, hf⟩ := ev_bd_s hf
  refine ev_callV hX YX12_keeps ml_RX12_477 (mX12_keeps hT hl0 hc6) (vs := [.int ((ev_up D5 l0 45 v5) l0 48)]) (st := [.ref l0]) (by decide) 12 hl0 rfl rfl rfl (by decide +kernel) hC ?_
  show F S D6 69 [some (.ref l0)] [.int v6, .ref l0]
  refine ev_blk hX lkok_RX12 [(.putfield 414, 3, 12, 48, 0), (.aload_n 0, 1, 0, 0, 0), (.aload_n 0, 1, 0, 0, 0), (.aload_n 0, 1, 0, 0, 0), (.getfield 426, 3, 12, 53, 0)] (by decide +kernel) (g := (sK S l0 == 15) && ((sK S l0 == 15) && (true))) (lv' := [some (.ref l0)]) (st' := [.int ((ev_up D6 l0 48 v6) l0 53), .ref l0, .ref l0]) (D' := (ev_up D6 l0 48 v6)) (pc' := 78) rfl (ev_gk hl0 (ev_gk hl0 (rfl))) rfl ?_
  obtain ⟨v7, D7, hc7, hf⟩ := ev_bd_s hf
  refine ev_callV hX YX12_keeps ml_RX12_477 (mX12_keeps hT hl0 hc7) (vs := [.int ((ev_up D6 l0 48 v6) l0 53)]) (st := [.ref l0]) (by decide) 12 hl0 rfl rfl rfl (by decide +kernel) hC ?_
  show F S D7 81 [some (.ref l0)] [.int v7, .ref l0]
  refine ev_blk hX lkok_RX12 [(.putfield 426, 3, 12, 53, 0), (.aload_n 0, 1, 0, 0, 0), (.aload_n 0, 1, 0, 0, 0), (.aload_n 0, 1, 0, 0, 0), (.getfield 435, 3, 12, 57, 0)] (by decide +kernel) (g := (sK S l0 == 15) && ((sK S l0 == 15) && (true))) (lv' := [some (.ref l0)]) (st' := [.int ((ev_up D7 l0 53 v7) l0 57), .ref l0, .ref l0]) (D' := (ev_up D7 l0 53 v7)) (pc' := 90) rfl (ev_gk hl0 (ev_gk hl0 (rfl))) rfl ?_
  obtain ⟨v8, D8, hc8, hf⟩ := ev_bd_s hf
  refine ev_callV hX YX12_keeps ml_RX12_477 (mX12_keeps hT hl0 hc8) (vs := [.int ((ev_up D7 l0 53 v7) l0 57)]) (st := [.ref l0]) (by decide) 12 hl0 rfl rfl rfl (by decide +kernel) hC ?_
  show F S D8 93 [some (.ref l0)] [.int v8, .ref l0]
  refine ev_blk hX lkok_RX12 [(.putfield 435, 3, 12, 57, 0), (.aload_n 0, 1, 0, 0, 0), (.aload_n 0, 1, 0, 0, 0), (.aload_n 0, 1, 0, 0, 0), (.getfield 441, 3, 12, 59, 0)] (by decide +kernel) (g := (sK S l0 == 15) && ((sK S l0 == 15) && (true))) (lv' := [some (.ref l0)]) (st' := [.int ((ev_up D8 l0 57 v8) l0 59), .ref l0, .ref l0]) (D' := (ev_up D8 l0 57 v8)) (pc' := 102) rfl (ev_gk hl0 (ev_gk hl0 (rfl))) rfl ?_
  obtain ⟨v9, D9, hc9, hf⟩ := ev_bd_s hf
  refine ev_callV hX YX12_keeps ml_RX12_477 (mX12_keeps hT hl0 hc9) (vs := [.int ((ev_up D8 l0 57 v8) l0 59)]) (st := [.ref l0]) (by decide) 12 hl0 rfl rfl rfl (by decide +kernel) hC ?_
  show F S D9 105 [some (.ref l0)] [.int v9, .ref l0]
  refine ev_blk hX lkok_RX12 [(.putfield 441, 3, 12, 59, 0)] (by decide +kernel) (g := (sK S l0 == 15) && (true)) (lv' := [some (.ref l0)]) (st' := []) (D' := (ev_up D9 l0 59 v9)) (pc' := 108) rfl (ev_gk hl0 (rfl)) rfl ?_
  exact ev_vret hR ev_sm.rf (Option.some.inj hf) hC (by decide +kernel)
theorem mX12_keepsMany {S : ev_S} {fu : Nat} {r : Int32 × ev_D} (hT : ev_Ty S) {l0 : Nat} {D : ev_D} (hl0 : sK S l0 = 15) (hf : fX12_keepsMany (sL S) (sE S) fu l0 D = some r) : ev_M 1 0 0 yX12_keepsMany cX12_keepsMany 1 none [.ref l0] S D S r :=
  ev_met (ini := false) (plainFor_of_name (by decide)) (fun h => by cases h) rfl (Nat.le_of_ble_eq_true rfl) (fun F hR => tX12_keepsMany (S := ev_z S) hR hT ⟨Nat.le_refl 0, Nat.le_refl 0⟩ hl0 hf)
set_option maxHeartbeats 4000000 in
set_option maxRecDepth 100000 in
theorem tX12_keepsTold_340 {S : ev_S} {fu : Nat} {r : Int32 × ev_D} {F : ev_Fr} (hR : ev_R RX12 cX12_keepsTold 2 1 0 0 false none S r F) (hT : ev_Ty S) (hC : sC S ≤ 0 ∧ sA S ≤ 0) : ∀ (n : Nat) (l0 : Nat) (l1 : Int32) (D : ev_D), sK S l0 = 15 → fX12_keepsTold_340 (sL S) (sE S) fu n l0 l1 D = some r → F S D 340 [some (.ref l0), some (.int l1)] [] := by
  have hX := hR.X
  intro n
  induction n with
  | zero =>
    intro l0 l1 D hl0 hf
    rw [fX12_keepsTold_340] at hf
    cases hf
  | succ n ih =>
    intro l0 l1 D hl0 hf
    rw [fX12_keepsTold_340] at hf
    refine ev_blk hX lkok_RX12 [(.iload_n 1, 1, 0, 0, 0), (.bipush 48, 2, 0, 0, 48)] (by decide +kernel) (g := true) (lv' := [some (.ref l0), some (.int l1)]) (st' := [.int (48 : Int32), .int l1]) (D' := D) (pc' := 343) rfl (rfl) rfl ?_
    refine ev_ic_ge hX (off := 25) 368 (by decide +kernel) (by decide) (fun h1 => ?_) (fun h1 => ?_)
    · have hf := ev_it h1 hf
      exact ev_vret hR ev_sm.rf (Option.some.inj hf) hC (by decide +kernel)
    · have hf := ev_nf h1 hf
      obtain ⟨hg4, hf⟩ := ev_gd_s hf
      refine ev_blk hX lkok_RX12 [(.aload_n 0, 1, 0, 0, 0), (.getfield 71, 3, 12, 38, 0), (.iload_n 1, 1, 0, 0, 0), (.aload_n 0, 1, 0, 0, 0), (.aload_n 0, 1, 0, 0, 0), (.getfield 71, 3, 12, 38, 0), (.iload_n 1, 1, 0, 0, 0), (.iaload, 1, 0, 0, 0)] (by decide +kernel) (g := (sK S l0 == 15) && ((sK S l0 == 15) && ((sK S ((sE S) l0 38) == 1 && ev_in l1 ((sL S) ((sE S) l0 38))) && (true)))) (lv' := [some (.ref l0), some (.int l1)]) (st' := [.int (D ((sE S) l0 38) (l1).toNatClampNeg), .ref l0, .int l1, .ref ((sE S) l0 38)]) (D' := D) (pc' := 358) rfl (ev_gk hl0 (ev_gk hl0 (ev_gi (ev_tyk hT hl0 rfl rfl) hg4 (rfl)))) rfl ?_
      obtain ⟨v2, D2, hc2, hf⟩ := ev_bd_s hf
      refine ev_callV hX YX12_keeps ml_RX12_477 (mX12_keeps hT hl0 hc2) (vs := [.int (D ((sE S) l0 38) (l1).toNatClampNeg)]) (st := [.int l1, .ref ((sE S) l0 38)]) (by decide) 12 hl0 rfl rfl rfl (by decide +kernel) hC ?_
      show F S D2 361 [some (.ref l0), some (.int l1)] [.int v2, .int l1, .ref ((sE S) l0 38)]
      obtain ⟨hg3, hf⟩ := ev_gd_s hf
      refine ev_blk hX lkok_RX12 [(.iastore, 1, 0, 0, 0), (.iinc 1 1, 3, 0, 0, 1)] (by decide +kernel) (g := (sK S ((sE S) l0 38) == 1 && ev_in l1 ((sL S) ((sE S) l0 38))) && (true)) (lv' := [some (.ref l0), some (.int (l1 + (1 : Int32)))]) (st' := []) (D' := (ev_up D2 ((sE S) l0 38) (l1).toNatClampNeg v2)) (pc' := 365) rfl (ev_gi (ev_tyk hT hl0 rfl rfl) hg3 (rfl)) rfl ?_
      refine ev_goto hX (off := (-25)) 340 (by decide +kernel) (by decide) ?_
      exact ev_weak hX (ev_le_eq (ev_le_eq ev_le_nil)) (ih _ _ _ hl0 hf)
set_option maxHeartbeats 4000000 in
set_option maxRecDepth 100000 in
theorem tX12_keepsTold_310 {S : ev_S} {fu : Nat} {r : Int32 × ev_D} {F : ev_Fr} (hR : ev_R RX12 cX12_keepsTold 2 1 0 0 false none S r F) (hT : ev_Ty S) (hC : sC S ≤ 0 ∧ sA S ≤ 0) : ∀ (n : Nat) (l0 : Nat) (l1 : Int32) (D : ev_D), sK S l0 = 15 → fX12_keepsTold_310 (sL S) (sE S) fu n l0 l1 D = some r → F S D 310 [some (.ref l0), some (.int l1)] [] := by
  have hX := hR.X
  intro n
  induction n with
  | zero =>
    intro l0 l1 D hl0 hf
    rw [fX12_keepsTold_310] at hf
    cases hf
  | succ n ih =>
    intro l0 l1 D hl0 hf
    rw [fX12_keepsTold_310] at hf
    refine ev_blk hX lkok_RX12 [(.iload_n 1, 1, 0, 0, 0), (.bipush 16, 2, 0, 0, 16)] (by decide +kernel) (g := true) (lv' := [some (.ref l0), some (.int l1)]) (st' := [.int (16 : Int32), .int l1]) (D' := D) (pc' := 313) rfl (rfl) rfl ?_
    refine ev_ic_ge hX (off := 25) 338 (by decide +kernel) (by decide) (fun h5 => ?_) (fun h5 => ?_)
    · have hf := ev_it h5 hf
      refine ev_blk hX lkok_RX12 [(.iconst 0, 1, 0, 0, 0), (.istore_n 1, 1, 0, 0, 0)] (by decide +kernel) (g := true) (lv' := [some (.ref l0), some (.int (0 : Int32))]) (st' := []) (D' := D) (pc' := 340) rfl (rfl) rfl ?_
      exact ev_weak hX (ev_le_eq (ev_le_eq ev_le_nil)) (tX12_keepsTold_340 hR hT hC   fu _ _ _ hl0 hf)
    · have hf := ev_nf h5 hf
      obtain ⟨hg8, hf⟩ := ev_gd_s hf
      refine ev_blk hX lkok_RX12 [(.aload_n 0, 1, 0, 0, 0), (.getfield 74, 3, 12, 40, 0), (.iload_n 1, 1, 0, 0, 0), (.aload_n 0, 1, 0, 0, 0), (.aload_n 0, 1, 0, 0, 0), (.getfield 74, 3, 12, 40, 0), (.iload_n 1, 1, 0, 0, 0), (.iaload, 1, 0, 0, 0)] (by decide +kernel) (g := (sK S l0 == 15) && ((sK S l0 == 15) && ((sK S ((sE S) l0 40) == 1 && ev_in l1 ((sL S) ((sE S) l0 40))) && (true)))) (lv' := [some (.ref l0), some (.int l1)]) (st' := [.int (D ((sE S) l0 40) (l1).toNatClampNeg), .ref l0, .int l1, .ref ((sE S) l0 40)]) (D' := D) (pc' := 328) rfl (ev_gk hl0 (ev_gk hl0 (ev_gi (ev_tyk hT hl0 rfl rfl) hg8 (rfl)))) rfl ?_
      obtain ⟨v6, D6, hc6, hf⟩ := ev_bd_s hf
      refine ev_callV hX YX12_keeps ml_RX12_477 (mX12_keeps hT hl0 hc6) (vs := [.int (D ((sE S) l0 40) (l1).toNatClampNeg)]) (st := [.int l1, .ref ((sE S) l0 40)]) (by decide) 12 hl0 rfl rfl rfl (by decide +kernel) hC ?_
      show F S D6 331 [some (.ref l0), some (.int l1)] [.int v6, .int l1, .ref ((sE S) l0 40)]
      obtain ⟨hg7, hf⟩ := ev_gd_s hf
      refine ev_blk hX lkok_RX12 [(.iastore, 1, 0, 0, 0), (.iinc 1 1, 3, 0, 0, 1)] (by decide +kernel) (g := (sK S ((sE S) l0 40) == 1 && ev_in l1 ((sL S) ((sE S) l0 40))) && (true)) (lv' := [some (.ref l0), some (.int (l1 + (1 : Int32)))]) (st' := []) (D' := (ev_up D6 ((sE S) l0 40) (l1).toNatClampNeg v6)) (pc' := 335) rfl (ev_gi (ev_tyk hT hl0 rfl rfl) hg7 (rfl)) rfl ?_
      refine ev_goto hX (off := (-25)) 310 (by decide +kernel) (by decide) ?_
      exact ev_weak hX (ev_le_eq (ev_le_eq ev_le_nil)) (ih _ _ _ hl0 hf)
set_option maxHeartbeats 4000000 in
set_option maxRecDepth 100000 in
theorem tX12_keepsTold_280 {S : ev_S} {fu : Nat} {r : Int32 × ev_D} {F : ev_Fr} (hR : ev_R RX12 cX12_keepsTold 2 1 0 0 false none S r F) (hT : ev_Ty S) (hC : sC S ≤ 0 ∧ sA S ≤ 0) : ∀ (n : Nat) (l0 : Nat) (l1 : Int32) (D : ev_D), sK S l0 = 15 → fX12_keepsTold_280 (sL S) (sE S) fu n l0 l1 D = some r → F S D 280 [some (.ref l0), some (.int l1)] [] := by
  have hX := hR.X
  intro n
  induction n with
  | zero =>
    intro l0 l1 D hl0 hf
    rw [fX12_keepsTold_280] at hf
    cases hf
  | succ n ih =>
    intro l0 l1 D hl0 hf
    rw [fX12_keepsTold_280] at hf
    refine ev_blk hX lkok_RX12 [(.iload_n 1, 1, 0, 0, 0), (.bipush 80, 2, 0, 0, 80)] (by decide +kernel) (g := true) (lv' := [some (.ref l0), some (.int l1)]) (st' := [.int (80 : Int32), .int l1]) (D' := D) (pc' := 283) rfl (rfl) rfl ?_
    refine ev_ic_ge hX (off := 25) 308 (by decide +kernel) (by decide) (fun h9 => ?_) (fun h9 => ?_)
    · have hf := ev_it h9 hf
      refine ev_blk hX lkok_RX12 [(.iconst 0, 1, 0, 0, 0), (.istore_n 1, 1, 0, 0, 0)] (by decide +kernel) (g := true) (lv' := [some (.ref l0), some (.int (0 : Int32))]) (st' := []) (D' := D) (pc' := 310) rfl (rfl) rfl ?_
      exact ev_weak hX (ev_le_eq (ev_le_eq ev_le_nil)) (tX12_keepsTold_310 hR hT hC   fu _ _ _ hl0 hf)
    · have hf := ev_nf h9 hf
      obtain ⟨hg12, hf⟩ := ev_gd_s hf
      refine ev_blk hX lkok_RX12 [(.aload_n 0, 1, 0, 0, 0), (.getfield 98, 3, 12, 51, 0), (.iload_n 1, 1, 0, 0, 0), (.aload_n 0, 1, 0, 0, 0), (.aload_n 0, 1, 0, 0, 0), (.getfield 98, 3, 12, 51, 0), (.iload_n 1, 1, 0, 0, 0), (.iaload, 1, 0, 0, 0)] (by decide +kernel) (g := (sK S l0 == 15) && ((sK S l0 == 15) && ((sK S ((sE S) l0 51) == 1 && ev_in l1 ((sL S) ((sE S) l0 51))) && (true)))) (lv' := [some (.ref l0), some (.int l1)]) (st' := [.int (D ((sE S) l0 51) (l1).toNatClampNeg), .ref l0, .int l1, .ref ((sE S) l0 51)]) (D' := D) (pc' := 298) rfl (ev_gk hl0 (ev_gk hl0 (ev_gi (ev_tyk hT hl0 rfl rfl) hg12 (rfl)))) rfl ?_
      obtain ⟨v10, D10, hc10, hf⟩ := ev_bd_s hf
      refine ev_callV hX YX12_keeps ml_RX12_477 (mX12_keeps hT hl0 hc10) (vs := [.int (D ((sE S) l0 51) (l1).toNatClampNeg)]) (st := [.int l1, .ref ((sE S) l0 51)]) (by decide) 12 hl0 rfl rfl rfl (by decide +kernel) hC ?_
      show F S D10 301 [some (.ref l0), some (.int l1)] [.int v10, .int l1, .ref ((sE S) l0 51)]
      obtain ⟨hg11, hf⟩ := ev_gd_s hf
      refine ev_blk hX lkok_RX12 [(.iastore, 1, 0, 0, 0), (.iinc 1 1, 3, 0, 0, 1)] (by decide +kernel) (g := (sK S ((sE S) l0 51) == 1 && ev_in l1 ((sL S) ((sE S) l0 51))) && (true)) (lv' := [some (.ref l0), some (.int (l1 + (1 : Int32)))]) (st' := []) (D' := (ev_up D10 ((sE S) l0 51) (l1).toNatClampNeg v10)) (pc' := 305) rfl (ev_gi (ev_tyk hT hl0 rfl rfl) hg11 (rfl)) rfl ?_
      refine ev_goto hX (off := (-25)) 280 (by decide +kernel) (by decide) ?_
      exact ev_weak hX (ev_le_eq (ev_le_eq ev_le_nil)) (ih _ _ _ hl0 hf)
set_option maxHeartbeats 4000000 in
set_option maxRecDepth 100000 in
theorem tX12_keepsTold_250 {S : ev_S} {fu : Nat} {r : Int32 × ev_D} {F : ev_Fr} (hR : ev_R RX12 cX12_keepsTold 2 1 0 0 false none S r F) (hT : ev_Ty S) (hC : sC S ≤ 0 ∧ sA S ≤ 0) : ∀ (n : Nat) (l0 : Nat) (l1 : Int32) (D : ev_D), sK S l0 = 15 → fX12_keepsTold_250 (sL S) (sE S) fu n l0 l1 D = some r → F S D 250 [some (.ref l0), some (.int l1)] [] := by
  have hX := hR.X
  intro n
  induction n with
  | zero =>
    intro l0 l1 D hl0 hf
    rw [fX12_keepsTold_250] at hf
    cases hf
  | succ n ih =>
    intro l0 l1 D hl0 hf
    rw [fX12_keepsTold_250] at hf
    refine ev_blk hX lkok_RX12 [(.iload_n 1, 1, 0, 0, 0), (.bipush 24, 2, 0, 0, 24)] (by decide +kernel) (g := true) (lv' := [some (.ref l0), some (.int l1)]) (st' := [.int (24 : Int32), .int l1]) (D' := D) (pc' := 253) rfl (rfl) rfl ?_
    refine ev_ic_ge hX (off := 25) 278 (by decide +kernel) (by decide) (fun h13 => ?_) (fun h13 => ?_)
    · have hf := ev_it h13 hf
      refine ev_blk hX lkok_RX12 [(.iconst 0, 1, 0, 0, 0), (.istore_n 1, 1, 0, 0, 0)] (by decide +kernel) (g := true) (lv' := [some (.ref l0), some (.int (0 : Int32))]) (st' := []) (D' := D) (pc' := 280) rfl (rfl) rfl ?_
      exact ev_weak hX (ev_le_eq (ev_le_eq ev_le_nil)) (tX12_keepsTold_280 hR hT hC   fu _ _ _ hl0 hf)
    · have hf := ev_nf h13 hf
      obtain ⟨hg16, hf⟩ := ev_gd_s hf
      refine ev_blk hX lkok_RX12 [(.aload_n 0, 1, 0, 0, 0), (.getfield 113, 3, 12, 58, 0), (.iload_n 1, 1, 0, 0, 0), (.aload_n 0, 1, 0, 0, 0), (.aload_n 0, 1, 0, 0, 0), (.getfield 113, 3, 12, 58, 0), (.iload_n 1, 1, 0, 0, 0), (.iaload, 1, 0, 0, 0)] (by decide +kernel) (g := (sK S l0 == 15) && ((sK S l0 == 15) && ((sK S ((sE S) l0 58) == 1 && ev_in l1 ((sL S) ((sE S) l0 58))) && (true)))) (lv' := [some (.ref l0), some (.int l1)]) (st' := [.int (D ((sE S) l0 58) (l1).toNatClampNeg), .ref l0, .int l1, .ref ((sE S) l0 58)]) (D' := D) (pc' := 268) rfl (ev_gk hl0 (ev_gk hl0 (ev_gi (ev_tyk hT hl0 rfl rfl) hg16 (rfl)))) rfl ?_
      obtain ⟨v14, D14, hc14, hf⟩ := ev_bd_s hf
      refine ev_callV hX YX12_keeps ml_RX12_477 (mX12_keeps hT hl0 hc14) (vs := [.int (D ((sE S) l0 58) (l1).toNatClampNeg)]) (st := [.int l1, .ref ((sE S) l0 58)]) (by decide) 12 hl0 rfl rfl rfl (by decide +kernel) hC ?_
      show F S D14 271 [some (.ref l0), some (.int l1)] [.int v14, .int l1, .ref ((sE S) l0 58)]
      obtain ⟨hg15, hf⟩ := ev_gd_s hf
      refine ev_blk hX lkok_RX12 [(.iastore, 1, 0, 0, 0), (.iinc 1 1, 3, 0, 0, 1)] (by decide +kernel) (g := (sK S ((sE S) l0 58) == 1 && ev_in l1 ((sL S) ((sE S) l0 58))) && (true)) (lv' := [some (.ref l0), some (.int (l1 + (1 : Int32)))]) (st' := []) (D' := (ev_up D14 ((sE S) l0 58) (l1).toNatClampNeg v14)) (pc' := 275) rfl (ev_gi (ev_tyk hT hl0 rfl rfl) hg15 (rfl)) rfl ?_
      refine ev_goto hX (off := (-25)) 250 (by decide +kernel) (by decide) ?_
      exact ev_weak hX (ev_le_eq (ev_le_eq ev_le_nil)) (ih _ _ _ hl0 hf)
set_option maxHeartbeats 4000000 in
set_option maxRecDepth 100000 in
theorem tX12_keepsTold_220 {S : ev_S} {fu : Nat} {r : Int32 × ev_D} {F : ev_Fr} (hR : ev_R RX12 cX12_keepsTold 2 1 0 0 false none S r F) (hT : ev_Ty S) (hC : sC S ≤ 0 ∧ sA S ≤ 0) : ∀ (n : Nat) (l0 : Nat) (l1 : Int32) (D : ev_D), sK S l0 = 15 → fX12_keepsTold_220 (sL S) (sE S) fu n l0 l1 D = some r → F S D 220 [some (.ref l0), some (.int l1)] [] := by
  have hX := hR.X
  intro n
  induction n with
  | zero =>
    intro l0 l1 D hl0 hf
    rw [fX12_keepsTold_220] at hf
    cases hf
  | succ n ih =>
    intro l0 l1 D hl0 hf
    rw [fX12_keepsTold_220] at hf
    refine ev_blk hX lkok_RX12 [(.iload_n 1, 1, 0, 0, 0), (.bipush 12, 2, 0, 0, 12)] (by decide +kernel) (g := true) (lv' := [some (.ref l0), some (.int l1)]) (st' := [.int (12 : Int32), .int l1]) (D' := D) (pc' := 223) rfl (rfl) rfl ?_
    refine ev_ic_ge hX (off := 25) 248 (by decide +kernel) (by decide) (fun h17 => ?_) (fun h17 => ?_)
    · have hf := ev_it h17 hf
      refine ev_blk hX lkok_RX12 [(.iconst 0, 1, 0, 0, 0), (.istore_n 1, 1, 0, 0, 0)] (by decide +kernel) (g := true) (lv' := [some (.ref l0), some (.int (0 : Int32))]) (st' := []) (D' := D) (pc' := 250) rfl (rfl) rfl ?_
      exact ev_weak hX (ev_le_eq (ev_le_eq ev_le_nil)) (tX12_keepsTold_250 hR hT hC   fu _ _ _ hl0 hf)
    · have hf := ev_nf h17 hf
      obtain ⟨hg20, hf⟩ := ev_gd_s hf
      refine ev_blk hX lkok_RX12 [(.aload_n 0, 1, 0, 0, 0), (.getfield 104, 3, 12, 54, 0), (.iload_n 1, 1, 0, 0, 0), (.aload_n 0, 1, 0, 0, 0), (.aload_n 0, 1, 0, 0, 0), (.getfield 104, 3, 12, 54, 0), (.iload_n 1, 1, 0, 0, 0), (.iaload, 1, 0, 0, 0)] (by decide +kernel) (g := (sK S l0 == 15) && ((sK S l0 == 15) && ((sK S ((sE S) l0 54) == 1 && ev_in l1 ((sL S) ((sE S) l0 54))) && (true)))) (lv' := [some (.ref l0), some (.int l1)]) (st' := [.int (D ((sE S) l0 54) (l1).toNatClampNeg), .ref l0, .int l1, .ref ((sE S) l0 54)]) (D' := D) (pc' := 238) rfl (ev_gk hl0 (ev_gk hl0 (ev_gi (ev_tyk hT hl0 rfl rfl) hg20 (rfl)))) rfl ?_
      obtain ⟨v18, D18, hc18, hf⟩ := ev_bd_s hf
      refine ev_callV hX YX12_keeps ml_RX12_477 (mX12_keeps hT hl0 hc18) (vs := [.int (D ((sE S) l0 54) (l1).toNatClampNeg)]) (st := [.int l1, .ref ((sE S) l0 54)]) (by decide) 12 hl0 rfl rfl rfl (by decide +kernel) hC ?_
      show F S D18 241 [some (.ref l0), some (.int l1)] [.int v18, .int l1, .ref ((sE S) l0 54)]
      obtain ⟨hg19, hf⟩ := ev_gd_s hf
      refine ev_blk hX lkok_RX12 [(.iastore, 1, 0, 0, 0), (.iinc 1 1, 3, 0, 0, 1)] (by decide +kernel) (g := (sK S ((sE S) l0 54) == 1 && ev_in l1 ((sL S) ((sE S) l0 54))) && (true)) (lv' := [some (.ref l0), some (.int (l1 + (1 : Int32)))]) (st' := []) (D' := (ev_up D18 ((sE S) l0 54) (l1).toNatClampNeg v18)) (pc' := 245) rfl (ev_gi (ev_tyk hT hl0 rfl rfl) hg19 (rfl)) rfl ?_
      refine ev_goto hX (off := (-25)) 220 (by decide +kernel) (by decide) ?_
      exact ev_weak hX (ev_le_eq (ev_le_eq ev_le_nil)) (ih _ _ _ hl0 hf)
set_option maxHeartbeats 4000000 in
set_option maxRecDepth 100000 in
theorem tX12_keepsTold_174 {S : ev_S} {fu : Nat} {r : Int32 × ev_D} {F : ev_Fr} (hR : ev_R RX12 cX12_keepsTold 2 1 0 0 false none S r F) (hT : ev_Ty S) (hC : sC S ≤ 0 ∧ sA S ≤ 0) : ∀ (n : Nat) (l0 : Nat) (l1 : Int32) (D : ev_D), sK S l0 = 15 → fX12_keepsTold_174 (sL S) (sE S) fu n l0 l1 D = some r → F S D 174 [some (.ref l0), some (.int l1)] [] := by
  have hX := hR.X
  intro n
  induction n with
  | zero =>
    intro l0 l1 D hl0 hf
    rw [fX12_keepsTold_174] at hf
    cases hf
  | succ n ih =>
    intro l0 l1 D hl0 hf
    rw [fX12_keepsTold_174] at hf
    refine ev_blk hX lkok_RX12 [(.iload_n 1, 1, 0, 0, 0), (.bipush 6, 2, 0, 0, 6)] (by decide +kernel) (g := true) (lv' := [some (.ref l0), some (.int l1)]) (st' := [.int (6 : Int32), .int l1]) (D' := D) (pc' := 177) rfl (rfl) rfl ?_
    refine ev_ic_ge hX (off := 41) 218 (by decide +kernel) (by decide) (fun h21 => ?_) (fun h21 => ?_)
    · have hf := ev_it h21 hf
      refine ev_blk hX lkok_RX12 [(.iconst 0, 1, 0, 0, 0), (.istore_n 1, 1, 0, 0, 0)] (by decide +kernel) (g := true) (lv' := [some (.ref l0), some (.int (0 : Int32))]) (st' := []) (D' := D) (pc' := 220) rfl (rfl) rfl ?_
      exact ev_weak hX (ev_le_eq (ev_le_eq ev_le_nil)) (tX12_keepsTold_220 hR hT hC   fu _ _ _ hl0 hf)
    · have hf := ev_nf h21 hf
      obtain ⟨hg27, hf⟩ := ev_gd_s hf
      refine ev_blk hX lkok_RX12 [(.aload_n 0, 1, 0, 0, 0), (.getfield 92, 3, 12, 49, 0), (.iload_n 1, 1, 0, 0, 0), (.aload_n 0, 1, 0, 0, 0), (.aload_n 0, 1, 0, 0, 0), (.getfield 92, 3, 12, 49, 0), (.iload_n 1, 1, 0, 0, 0), (.iaload, 1, 0, 0, 0)] (by decide +kernel) (g := (sK S l0 == 15) && ((sK S l0 == 15) && ((sK S ((sE S) l0 49) == 1 && ev_in l1 ((sL S) ((sE S) l0 49))) && (true)))) (lv' := [some (.ref l0), some (.int l1)]) (st' := [.int (D ((sE S) l0 49) (l1).toNatClampNeg), .ref l0, .int l1, .ref ((sE S) l0 49)]) (D' := D) (pc' := 192) rfl (ev_gk hl0 (ev_gk hl0 (ev_gi (ev_tyk hT hl0 rfl rfl) hg27 (rfl)))) rfl ?_
      obtain ⟨v22, D22, hc22, hf⟩ := ev_bd_s hf
      refine ev_callV hX YX12_keeps ml_RX12_477 (mX12_keeps hT hl0 hc22) (vs := [.int (D ((sE S) l0 49) (l1).toNatClampNeg)]) (st := [.int l1, .ref ((sE S) l0 49)]) (by decide) 12 hl0 rfl rfl rfl (by decide +kernel) hC ?_
      show F S D22 195 [some (.ref l0), some (.int l1)] [.int v22, .int l1, .ref ((sE S) l0 49)]
      obtain ⟨hg25, hf⟩ := ev_gd_s hf
      obtain ⟨hg26, hf⟩ := ev_gd_s hf
      refine ev_blk hX lkok_RX12 [(.iastore, 1, 0, 0, 0), (.aload_n 0, 1, 0, 0, 0), (.getfield 95, 3, 12, 50, 0), (.iload_n 1, 1, 0, 0, 0), (.aload_n 0, 1, 0, 0, 0), (.aload_n 0, 1, 0, 0, 0), (.getfield 95, 3, 12, 50, 0), (.iload_n 1, 1, 0, 0, 0), (.iaload, 1, 0, 0, 0)] (by decide +kernel) (g := (sK S ((sE S) l0 49) == 1 && ev_in l1 ((sL S) ((sE S) l0 49))) && ((sK S l0 == 15) && ((sK S l0 == 15) && ((sK S ((sE S) l0 50) == 1 && ev_in l1 ((sL S) ((sE S) l0 50))) && (true))))) (lv' := [some (.ref l0), some (.int l1)]) (st' := [.int ((ev_up D22 ((sE S) l0 49) (l1).toNatClampNeg v22) ((sE S) l0 50) (l1).toNatClampNeg), .ref l0, .int l1, .ref ((sE S) l0 50)]) (D' := (ev_up D22 ((sE S) l0 49) (l1).toNatClampNeg v22)) (pc' := 208) rfl (ev_gi (ev_tyk hT hl0 rfl rfl) hg25 (ev_gk hl0 (ev_gk hl0 (ev_gi (ev_tyk hT hl0 rfl rfl) hg26 (rfl))))) rfl ?_
      obtain ⟨v23, D23, hc23, hf⟩ := ev_bd_s hf
      refine ev_callV hX YX12_keeps ml_RX12_477 (mX12_keeps hT hl0 hc23) (vs := [.int ((ev_up D22 ((sE S) l0 49) (l1).toNatClampNeg v22) ((sE S) l0 50) (l1).toNatClampNeg)]) (st := [.int l1, .ref ((sE S) l0 50)]) (by decide) 12 hl0 rfl rfl rfl (by decide +kernel) hC ?_
      show F S D23 211 [some (.ref l0), some (.int l1)] [.int v23, .int l1, .ref ((sE S) l0 50)]
      obtain ⟨hg24, hf⟩ := ev_gd_s hf
      refine ev_blk hX lkok_RX12 [(.iastore, 1, 0, 0, 0), (.iinc 1 1, 3, 0, 0, 1)] (by decide +kernel) (g := (sK S ((sE S) l0 50) == 1 && ev_in l1 ((sL S) ((sE S) l0 50))) && (true)) (lv' := [some (.ref l0), some (.int (l1 + (1 : Int32)))]) (st' := []) (D' := (ev_up D23 ((sE S) l0 50) (l1).toNatClampNeg v23)) (pc' := 215) rfl (ev_gi (ev_tyk hT hl0 rfl rfl) hg24 (rfl)) rfl ?_
      refine ev_goto hX (off := (-41)) 174 (by decide +kernel) (by decide) ?_
      exact ev_weak hX (ev_le_eq (ev_le_eq ev_le_nil)) (ih _ _ _ hl0 hf)
set_option maxHeartbeats 4000000 in
set_option maxRecDepth 100000 in
theorem tX12_keepsTold_32 {S : ev_S} {fu : Nat} {r : Int32 × ev_D} {F : ev_Fr} (hR : ev_R RX12 cX12_keepsTold 2 1 0 0 false none S r F) (hT : ev_Ty S) (hC : sC S ≤ 0 ∧ sA S ≤ 0) : ∀ (n : Nat) (l0 : Nat) (l1 : Int32) (D : ev_D), sK S l0 = 15 → fX12_keepsTold_32 (sL S) (sE S) fu n l0 l1 D = some r → F S D 32 [some (.ref l0), some (.int l1)] [] := by
  have hX := hR.X
  intro n
  induction n with
  | zero =>
    intro l0 l1 D hl0 hf
    rw [fX12_keepsTold_32] at hf
    cases hf
  | succ n ih =>
    intro l0 l1 D hl0 hf
    rw [fX12_keepsTold_32] at hf
    refine ev_blk hX lkok_RX12 [(.iload_n 1, 1, 0, 0, 0), (.bipush 10, 2, 0, 0, 10)] (by decide +kernel) (g := true) (lv' := [some (.ref l0), some (.int l1)]) (st' := [.int (10 : Int32), .int l1]) (D' := D) (pc' := 35) rfl (rfl) rfl ?_
    refine ev_ic_ge hX (off := 137) 172 (by decide +kernel) (by decide) (fun h28 => ?_) (fun h28 => ?_)
    · have hf := ev_it h28 hf
      refine ev_blk hX lkok_RX12 [(.iconst 0, 1, 0, 0, 0), (.istore_n 1, 1, 0, 0, 0)] (by decide +kernel) (g := true) (lv' := [some (.ref l0), some (.int (0 : Int32))]) (st' := []) (D' := D) (pc' := 174) rfl (rfl) rfl ?_
      exact ev_weak hX (ev_le_eq (ev_le_eq ev_le_nil)) (tX12_keepsTold_174 hR hT hC   fu _ _ _ hl0 hf)
    · have hf := ev_nf h28 hf
      obtain ⟨hg52, hf⟩ := ev_gd_s hf
      refine ev_blk hX lkok_RX12 [(.aload_n 0, 1, 0, 0, 0), (.getfield 22, 3, 12, 8, 0), (.iload_n 1, 1, 0, 0, 0), (.aload_n 0, 1, 0, 0, 0), (.aload_n 0, 1, 0, 0, 0), (.getfield 22, 3, 12, 8, 0), (.iload_n 1, 1, 0, 0, 0), (.iaload, 1, 0, 0, 0)] (by decide +kernel) (g := (sK S l0 == 15) && ((sK S l0 == 15) && ((sK S ((sE S) l0 8) == 1 && ev_in l1 ((sL S) ((sE S) l0 8))) && (true)))) (lv' := [some (.ref l0), some (.int l1)]) (st' := [.int (D ((sE S) l0 8) (l1).toNatClampNeg), .ref l0, .int l1, .ref ((sE S) l0 8)]) (D' := D) (pc' := 50) rfl (ev_gk hl0 (ev_gk hl0 (ev_gi (ev_tyk hT hl0 rfl rfl) hg52 (rfl)))) rfl ?_
      obtain ⟨v29, D29, hc29, hf⟩ := ev_bd_s hf
      refine ev_callV hX YX12_keeps ml_RX12_477 (mX12_keeps hT hl0 hc29) (vs := [.int (D ((sE S) l0 8) (l1).toNatClampNeg)]) (st := [.int l1, .ref ((sE S) l0 8)]) (by decide) 12 hl0 rfl rfl rfl (by decide +kernel) hC ?_
      show F S D29 53 [some (.ref l0), some (.int l1)] [.int v29, .int l1, .ref ((sE S) l0 8)]
      obtain ⟨hg50, hf⟩ := ev_gd_s hf
      obtain ⟨hg51, hf⟩ := ev_gd_s hf
      refine ev_blk hX lkok_RX12 [(.iastore, 1, 0, 0, 0), (.aload_n 0, 1, 0, 0, 0), (.getfield 25, 3, 12, 9, 0), (.iload_n 1, 1, 0, 0, 0), (.aload_n 0, 1, 0, 0, 0), (.aload_n 0, 1, 0, 0, 0), (.getfield 25, 3, 12, 9, 0), (.iload_n 1, 1, 0, 0, 0), (.iaload, 1, 0, 0, 0)] (by decide +kernel) (g := (sK S ((sE S) l0 8) == 1 && ev_in l1 ((sL S) ((sE S) l0 8))) && ((sK S l0 == 15) && ((sK S l0 == 15) && ((sK S ((sE S) l0 9) == 1 && ev_in l1 ((sL S) ((sE S) l0 9))) && (true))))) (lv' := [some (.ref l0), some (.int l1)]) (st' := [.int ((ev_up D29 ((sE S) l0 8) (l1).toNatClampNeg v29) ((sE S) l0 9) (l1).toNatClampNeg), .ref l0, .int l1, .ref ((sE S) l0 9)]) (D' := (ev_up D29 ((sE S) l0 8) (l1).toNatClampNeg v29)) (pc' := 66) rfl (ev_gi (ev_tyk hT hl0 rfl rfl) hg50 (ev_gk hl0 (ev_gk hl0 (ev_gi (ev_tyk hT hl0 rfl rfl) hg51 (rfl))))) rfl ?_
      obtain ⟨v30, D30, hc30, hf⟩ := ev_bd_s hf
      refine ev_callV hX YX12_keeps ml_RX12_477 (mX12_keeps hT hl0 hc30) (vs := [.int ((ev_up D29 ((sE S) l0 8) (l1).toNatClampNeg v29) ((sE S) l0 9) (l1).toNatClampNeg)]) (st := [.int l1, .ref ((sE S) l0 9)]) (by decide) 12 hl0 rfl rfl rfl (by decide +kernel) hC ?_
      show F S D30 69 [some (.ref l0), some (.int l1)] [.int v30, .int l1, .ref ((sE S) l0 9)]
      obtain ⟨hg48, hf⟩ := ev_gd_s hf
      obtain ⟨hg49, hf⟩ := ev_gd_s hf
      refine ev_blk hX lkok_RX12 [(.iastore, 1, 0, 0, 0), (.aload_n 0, 1, 0, 0, 0), (.getfield 28, 3, 12, 10, 0), (.iload_n 1, 1, 0, 0, 0), (.aload_n 0, 1, 0, 0, 0), (.aload_n 0, 1, 0, 0, 0), (.getfield 28, 3, 12, 10, 0), (.iload_n 1, 1, 0, 0, 0), (.iaload, 1, 0, 0, 0)] (by decide +kernel) (g := (sK S ((sE S) l0 9) == 1 && ev_in l1 ((sL S) ((sE S) l0 9))) && ((sK S l0 == 15) && ((sK S l0 == 15) && ((sK S ((sE S) l0 10) == 1 && ev_in l1 ((sL S) ((sE S) l0 10))) && (true))))) (lv' := [some (.ref l0), some (.int l1)]) (st' := [.int ((ev_up D30 ((sE S) l0 9) (l1).toNatClampNeg v30) ((sE S) l0 10) (l1).toNatClampNeg), .ref l0, .int l1, .ref ((sE S) l0 10)]) (D' := (ev_up D30 ((sE S) l0 9) (l1).toNatClampNeg v30)) (pc' := 82) rfl (ev_gi (ev_tyk hT hl0 rfl rfl) hg48 (ev_gk hl0 (ev_gk hl0 (ev_gi (ev_tyk hT hl0 rfl rfl) hg49 (rfl))))) rfl ?_
      obtain ⟨v31, D31, hc31, hf⟩ := ev_bd_s hf
      refine ev_callV hX YX12_keeps ml_RX12_477 (mX12_keeps hT hl0 hc31) (vs := [.int ((ev_up D30 ((sE S) l0 9) (l1).toNatClampNeg v30) ((sE S) l0 10) (l1).toNatClampNeg)]) (st := [.int l1, .ref ((sE S) l0 10)]) (by decide) 12 hl0 rfl rfl rfl (by decide +kernel) hC ?_
      show F S D31 85 [some (.ref l0), some (.int l1)] [.int v31, .int l1, .ref ((sE S) l0 10)]
      obtain ⟨hg46, hf⟩ := ev_gd_s hf
      obtain ⟨hg47, hf⟩ := ev_gd_s hf
      refine ev_blk hX lkok_RX12 [(.iastore, 1, 0, 0, 0), (.aload_n 0, 1, 0, 0, 0), (.getfield 68, 3, 12, 36, 0), (.iload_n 1, 1, 0, 0, 0), (.aload_n 0, 1, 0, 0, 0), (.aload_n 0, 1, 0, 0, 0), (.getfield 68, 3, 12, 36, 0), (.iload_n 1, 1, 0, 0, 0), (.iaload, 1, 0, 0, 0)] (by decide +kernel) (g := (sK S ((sE S) l0 10) == 1 && ev_in l1 ((sL S) ((sE S) l0 10))) && ((sK S l0 == 15) && ((sK S l0 == 15) && ((sK S ((sE S) l0 36) == 1 && ev_in l1 ((sL S) ((sE S) l0 36))) && (true))))) (lv' := [some (.ref l0), some (.int l1)]) (st' := [.int ((ev_up D31 ((sE S) l0 10) (l1).toNatClampNeg v31) ((sE S) l0 36) (l1).toNatClampNeg), .ref l0, .int l1, .ref ((sE S) l0 36)]) (D' := (ev_up D31 ((sE S) l0 10) (l1).toNatClampNeg v31)) (pc' := 98) rfl (ev_gi (ev_tyk hT hl0 rfl rfl) hg46 (ev_gk hl0 (ev_gk hl0 (ev_gi (ev_tyk hT hl0 rfl rfl) hg47 (rfl))))) rfl ?_
      obtain ⟨v32, D32, hc32, hf⟩ := ev_bd_s hf
      refine ev_callV hX YX12_keeps ml_RX12_477 (mX12_keeps hT hl0 hc32) (vs := [.int ((ev_up D31 ((sE S) l0 10) (l1).toNatClampNeg v31) ((sE S) l0 36) (l1).toNatClampNeg)]) (st := [.int l1, .ref ((sE S) l0 36)]) (by decide) 12 hl0 rfl rfl rfl (by decide +kernel) hC ?_
      show F S D32 101 [some (.ref l0), some (.int l1)] [.int v32, .int l1, .ref ((sE S) l0 36)]
      obtain ⟨hg44, hf⟩ := ev_gd_s hf
      obtain ⟨hg45, hf⟩ := ev_gd_s hf
      refine ev_blk hX lkok_RX12 [(.iastore, 1, 0, 0, 0), (.aload_n 0, 1, 0, 0, 0), (.getfield 86, 3, 12, 46, 0), (.iload_n 1, 1, 0, 0, 0), (.aload_n 0, 1, 0, 0, 0), (.aload_n 0, 1, 0, 0, 0), (.getfield 86, 3, 12, 46, 0), (.iload_n 1, 1, 0, 0, 0), (.iaload, 1, 0, 0, 0)] (by decide +kernel) (g := (sK S ((sE S) l0 36) == 1 && ev_in l1 ((sL S) ((sE S) l0 36))) && ((sK S l0 == 15) && ((sK S l0 == 15) && ((sK S ((sE S) l0 46) == 1 && ev_in l1 ((sL S) ((sE S) l0 46))) && (true))))) (lv' := [some (.ref l0), some (.int l1)]) (st' := [.int ((ev_up D32 ((sE S) l0 36) (l1).toNatClampNeg v32) ((sE S) l0 46) (l1).toNatClampNeg), .ref l0, .int l1, .ref ((sE S) l0 46)]) (D' := (ev_up D32 ((sE S) l0 36) (l1).toNatClampNeg v32)) (pc' := 114) rfl (ev_gi (ev_tyk hT hl0 rfl rfl) hg44 (ev_gk hl0 (ev_gk hl0 (ev_gi (ev_tyk hT hl0 rfl rfl) hg45 (rfl))))) rfl ?_
      obtain ⟨v33, D33, hc33, hf⟩ := ev_bd_s hf
      refine ev_callV hX YX12_keeps ml_RX12_477 (mX12_keeps hT hl0 hc33) (vs := [.int ((ev_up D32 ((sE S) l0 36) (l1).toNatClampNeg v32) ((sE S) l0 46) (l1).toNatClampNeg)]) (st := [.int l1, .ref ((sE S) l0 46)]) (by decide) 12 hl0 rfl rfl rfl (by decide +kernel) hC ?_
      show F S D33 117 [some (.ref l0), some (.int l1)] [.int v33, .int l1, .ref ((sE S) l0 46)]
      obtain ⟨hg42, hf⟩ := ev_gd_s hf
      obtain ⟨hg43, hf⟩ := ev_gd_s hf
      refine ev_blk hX lkok_RX12 [(.iastore, 1, 0, 0, 0), (.aload_n 0, 1, 0, 0, 0), (.getfield 89, 3, 12, 47, 0), (.iload_n 1, 1, 0, 0, 0), (.aload_n 0, 1, 0, 0, 0), (.aload_n 0, 1, 0, 0, 0), (.getfield 89, 3, 12, 47, 0), (.iload_n 1, 1, 0, 0, 0), (.iaload, 1, 0, 0, 0)] (by decide +kernel) (g := (sK S ((sE S) l0 46) == 1 && ev_in l1 ((sL S) ((sE S) l0 46))) && ((sK S l0 == 15) && ((sK S l0 == 15) && ((sK S ((sE S) l0 47) == 1 && ev_in l1 ((sL S) ((sE S) l0 47))) && (true))))) (lv' := [some (.ref l0), some (.int l1)]) (st' := [.int ((ev_up D33 ((sE S) l0 46) (l1).toNatClampNeg v33) ((sE S) l0 47) (l1).toNatClampNeg), .ref l0, .int l1, .ref ((sE S) l0 47)]) (D' := (ev_up D33 ((sE S) l0 46) (l1).toNatClampNeg v33)) (pc' := 130) rfl (ev_gi (ev_tyk hT hl0 rfl rfl) hg42 (ev_gk hl0 (ev_gk hl0 (ev_gi (ev_tyk hT hl0 rfl rfl) hg43 (rfl))))) rfl ?_
      obtain ⟨v34, D34, hc34, hf⟩ := ev_bd_s hf
      refine ev_callV hX YX12_keeps ml_RX12_477 (mX12_keeps hT hl0 hc34) (vs := [.int ((ev_up D33 ((sE S) l0 46) (l1).toNatClampNeg v33) ((sE S) l0 47) (l1).toNatClampNeg)]) (st := [.int l1, .ref ((sE S) l0 47)]) (by decide) 12 hl0 rfl rfl rfl (by decide +kernel) hC ?_
      show F S D34 133 [some (.ref l0), some (.int l1)] [.int v34, .int l1, .ref ((sE S) l0 47)]
      obtain ⟨hg40, hf⟩ := ev_gd_s hf
      obtain ⟨hg41, hf⟩ := ev_gd_s hf
      refine ev_blk hX lkok_RX12 [(.iastore, 1, 0, 0, 0), (.aload_n 0, 1, 0, 0, 0), (.getfield 116, 3, 12, 60, 0), (.iload_n 1, 1, 0, 0, 0), (.aload_n 0, 1, 0, 0, 0), (.aload_n 0, 1, 0, 0, 0), (.getfield 116, 3, 12, 60, 0), (.iload_n 1, 1, 0, 0, 0), (.iaload, 1, 0, 0, 0)] (by decide +kernel) (g := (sK S ((sE S) l0 47) == 1 && ev_in l1 ((sL S) ((sE S) l0 47))) && ((sK S l0 == 15) && ((sK S l0 == 15) && ((sK S ((sE S) l0 60) == 1 && ev_in l1 ((sL S) ((sE S) l0 60))) && (true))))) (lv' := [some (.ref l0), some (.int l1)]) (st' := [.int ((ev_up D34 ((sE S) l0 47) (l1).toNatClampNeg v34) ((sE S) l0 60) (l1).toNatClampNeg), .ref l0, .int l1, .ref ((sE S) l0 60)]) (D' := (ev_up D34 ((sE S) l0 47) (l1).toNatClampNeg v34)) (pc' := 146) rfl (ev_gi (ev_tyk hT hl0 rfl rfl) hg40 (ev_gk hl0 (ev_gk hl0 (ev_gi (ev_tyk hT hl0 rfl rfl) hg41 (rfl))))) rfl ?_
      obtain ⟨v35, D35, hc35, hf⟩ := ev_bd_s hf
      refine ev_callV hX YX12_keeps ml_RX12_477 (mX12_keeps hT hl0 hc35) (vs := [.int ((ev_up D34 ((sE S) l0 47) (l1).toNatClampNeg v34) ((sE S) l0 60) (l1).toNatClampNeg)]) (st := [.int l1, .ref ((sE S) l0 60)]) (by decide) 12 hl0 rfl rfl rfl (by decide +kernel) hC ?_
      show F S D35 149 [some (.ref l0), some (.int l1)] [.int v35, .int l1, .ref ((sE S) l0 60)]
      obtain ⟨hg38, hf⟩ := ev_gd_s hf
      obtain ⟨hg39, hf⟩ := ev_gd_s hf
      refine ev_blk hX lkok_RX12 [(.iastore, 1, 0, 0, 0), (.aload_n 0, 1, 0, 0, 0), (.getfield 119, 3, 12, 61, 0), (.iload_n 1, 1, 0, 0, 0), (.aload_n 0, 1, 0, 0, 0), (.aload_n 0, 1, 0, 0, 0), (.getfield 119, 3, 12, 61, 0), (.iload_n 1, 1, 0, 0, 0), (.iaload, 1, 0, 0, 0)] (by decide +kernel) (g := (sK S ((sE S) l0 60) == 1 && ev_in l1 ((sL S) ((sE S) l0 60))) && ((sK S l0 == 15) && ((sK S l0 == 15) && ((sK S ((sE S) l0 61) == 1 && ev_in l1 ((sL S) ((sE S) l0 61))) && (true))))) (lv' := [some (.ref l0), some (.int l1)]) (st' := [.int ((ev_up D35 ((sE S) l0 60) (l1).toNatClampNeg v35) ((sE S) l0 61) (l1).toNatClampNeg), .ref l0, .int l1, .ref ((sE S) l0 61)]) (D' := (ev_up D35 ((sE S) l0 60) (l1).toNatClampNeg v35)) (pc' := 162) rfl (ev_gi (ev_tyk hT hl0 rfl rfl) hg38 (ev_gk hl0 (ev_gk hl0 (ev_gi (ev_tyk hT hl0 rfl rfl) hg39 (rfl))))) rfl ?_
      obtain ⟨v36, D36, hc36, hf⟩ := ev_bd_s hf
      refine ev_callV hX YX12_keeps ml_RX12_477 (mX12_keeps hT hl0 hc36) (vs := [.int ((ev_up D35 ((sE S) l0 60) (l1).toNatClampNeg v35) ((sE S) l0 61) (l1).toNatClampNeg)]) (st := [.int l1, .ref ((sE S) l0 61)]) (by decide) 12 hl0 rfl rfl rfl (by decide +kernel) hC ?_
      show F S D36 165 [some (.ref l0), some (.int l1)] [.int v36, .int l1, .ref ((sE S) l0 61)]
      obtain ⟨hg37, hf⟩ := ev_gd_s hf
      refine ev_blk hX lkok_RX12 [(.iastore, 1, 0, 0, 0), (.iinc 1 1, 3, 0, 0, 1)] (by decide +kernel) (g := (sK S ((sE S) l0 61) == 1 && ev_in l1 ((sL S) ((sE S) l0 61))) && (true)) (lv' := [some (.ref l0), some (.int (l1 + (1 : Int32)))]) (st' := []) (D' := (ev_up D36 ((sE S) l0 61) (l1).toNatClampNeg v36)) (pc' := 169) rfl (ev_gi (ev_tyk hT hl0 rfl rfl) hg37 (rfl)) rfl ?_
      refine ev_goto hX (off := (-137)) 32 (by decide +kernel) (by decide) ?_
      exact ev_weak hX (ev_le_eq (ev_le_eq ev_le_nil)) (ih _ _ _ hl0 hf)
set_option maxHeartbeats 4000000 in
set_option maxRecDepth 100000 in
theorem tX12_keepsTold_2 {S : ev_S} {fu : Nat} {r : Int32 × ev_D} {F : ev_Fr} (hR : ev_R RX12 cX12_keepsTold 2 1 0 0 false none S r F) (hT : ev_Ty S) (hC : sC S ≤ 0 ∧ sA S ≤ 0) : ∀ (n : Nat) (l0 : Nat) (l1 : Int32) (D : ev_D), sK S l0 = 15 → fX12_keepsTold_2 (sL S) (sE S) fu n l0 l1 D = some r → F S D 2 [some (.ref l0), some (.int l1)] [] := by
  have hX := hR.X
  intro n
  induction n with
  | zero =>
    intro l0 l1 D hl0 hf
    rw [fX12_keepsTold_2] at hf
    cases hf
  | succ n ih =>
    intro l0 l1 D hl0 hf
    rw [fX12_keepsTold_2] at hf
    refine ev_blk hX lkok_RX12 [(.iload_n 1, 1, 0, 0, 0), (.bipush 8, 2, 0, 0, 8)] (by decide +kernel) (g := true) (lv' := [some (.ref l0), some (.int l1)]) (st' := [.int (8 : Int32), .int l1]) (D' := D) (pc' := 5) rfl (rfl) rfl ?_
    refine ev_ic_ge hX (off := 25) 30 (by decide +kernel) (by decide) (fun h53 => ?_) (fun h53 => ?_)
    · have hf := ev_it h53 hf
      refine ev_blk hX lkok_RX12 [(.iconst 0, 1, 0, 0, 0), (.istore_n 1, 1, 0, 0, 0)] (by decide +kernel) (g := true) (lv' := [some (.ref l0), some (.int (0 : Int32))]) (st' := []) (D' := D) (pc' := 32) rfl (rfl) rfl ?_
      exact ev_weak hX (ev_le_eq (ev_le_eq ev_le_nil)) (tX12_keepsTold_32 hR hT hC   fu _ _ _ hl0 hf)
    · have hf := ev_nf h53 hf
      obtain ⟨hg56, hf⟩ := ev_gd_s hf
      refine ev_blk hX lkok_RX12 [(.aload_n 0, 1, 0, 0, 0), (.getfield 19, 3, 12, 6, 0), (.iload_n 1, 1, 0, 0, 0), (.aload_n 0, 1, 0, 0, 0), (.aload_n 0, 1, 0, 0, 0), (.getfield 19, 3, 12, 6, 0), (.iload_n 1, 1, 0, 0, 0), (.iaload, 1, 0, 0, 0)] (by decide +kernel) (g := (sK S l0 == 15) && ((sK S l0 == 15) && ((sK S ((sE S) l0 6) == 1 && ev_in l1 ((sL S) ((sE S) l0 6))) && (true)))) (lv' := [some (.ref l0), some (.int l1)]) (st' := [.int (D ((sE S) l0 6) (l1).toNatClampNeg), .ref l0, .int l1, .ref ((sE S) l0 6)]) (D' := D) (pc' := 20) rfl (ev_gk hl0 (ev_gk hl0 (ev_gi (ev_tyk hT hl0 rfl rfl) hg56 (rfl)))) rfl ?_
      obtain ⟨v54, D54, hc54, hf⟩ := ev_bd_s hf
      refine ev_callV hX YX12_keeps ml_RX12_477 (mX12_keeps hT hl0 hc54) (vs := [.int (D ((sE S) l0 6) (l1).toNatClampNeg)]) (st := [.int l1, .ref ((sE S) l0 6)]) (by decide) 12 hl0 rfl rfl rfl (by decide +kernel) hC ?_
      show F S D54 23 [some (.ref l0), some (.int l1)] [.int v54, .int l1, .ref ((sE S) l0 6)]
      obtain ⟨hg55, hf⟩ := ev_gd_s hf
      refine ev_blk hX lkok_RX12 [(.iastore, 1, 0, 0, 0), (.iinc 1 1, 3, 0, 0, 1)] (by decide +kernel) (g := (sK S ((sE S) l0 6) == 1 && ev_in l1 ((sL S) ((sE S) l0 6))) && (true)) (lv' := [some (.ref l0), some (.int (l1 + (1 : Int32)))]) (st' := []) (D' := (ev_up D54 ((sE S) l0 6) (l1).toNatClampNeg v54)) (pc' := 27) rfl (ev_gi (ev_tyk hT hl0 rfl rfl) hg55 (rfl)) rfl ?_
      refine ev_goto hX (off := (-25)) 2 (by decide +kernel) (by decide) ?_
      exact ev_weak hX (ev_le_eq (ev_le_eq ev_le_nil)) (ih _ _ _ hl0 hf)
set_option maxHeartbeats 4000000 in
set_option maxRecDepth 100000 in
theorem tX12_keepsTold {S : ev_S} {fu : Nat} {r : Int32 × ev_D} {F : ev_Fr} (hR : ev_R RX12 cX12_keepsTold 2 1 0 0 false none S r F) (hT : ev_Ty S) (hC : sC S ≤ 0 ∧ sA S ≤ 0) {l0 : Nat} {D : ev_D} (hl0 : sK S l0 = 15) (hf : fX12_keepsTold (sL S) (sE S) fu l0 D = some r) : F S D 0 [some (.ref l0), none] [] := by
  have hX := hR.X
  unfold fX12_keepsTold at hf
  refine ev_blk hX lkok_RX12 [(.iconst 0, 1, 0, 0, 0), (.istore_n 1, 1, 0, 0, 0)] (by decide +kernel) (g := true) (lv' := [some (.ref l0), some (.int (0 : Int32))]) (st' := []) (D' := D) (pc' := 2) rfl (rfl) rfl ?_
  exact ev_weak hX (ev_le_eq (ev_le_eq ev_le_nil)) (tX12_keepsTold_2 hR hT hC   fu _ _ _ hl0 hf)
theorem mX12_keepsTold {S : ev_S} {fu : Nat} {r : Int32 × ev_D} (hT : ev_Ty S) {l0 : Nat} {D : ev_D} (hl0 : sK S l0 = 15) (hf : fX12_keepsTold (sL S) (sE S) fu l0 D = some r) : ev_M 1 0 0 yX12_keepsTold cX12_keepsTold 2 none [.ref l0] S D S r :=
  ev_met (ini := false) (plainFor_of_name (by decide)) (fun h => by cases h) rfl (Nat.le_of_ble_eq_true rfl) (fun F hR => tX12_keepsTold (S := ev_z S) hR hT ⟨Nat.le_refl 0, Nat.le_refl 0⟩ hl0 hf)
