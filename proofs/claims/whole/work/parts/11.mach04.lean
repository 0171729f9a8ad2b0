set_option maxHeartbeats 4000000 in
set_option maxRecDepth 100000 in
theorem tJ7_fill_5 {S : ev_S} {fu : Nat} {r : Int32 × ev_D} {F : ev_Fr} (hR : ev_R RJ7 cJ7_fill_53178 4 0 0 0 false none S r F) (hT : ev_Ty S) (hC : sC S ≤ 0 ∧ sA S ≤ 0) : ∀ (n : Nat) (l0 : Nat) (l1 : Int32) (l2 : Int32) (l3 : Int32) (D : ev_D), sK S l0 = 1 → fJ7_fill_5 (sL S) (sE S) fu n l0 l1 l2 l3 D = some r → F S D 5 [some (.ref l0), some (.int l1), some (.int l2), some (.int l3)] [] := by
  have hX := hR.X
  intro n
  induction n with
  | zero =>
    intro l0 l1 l2 l3 D hl0 hf
    rw [fJ7_fill_5] at hf
    cases hf
  | succ n ih =>
    intro l0 l1 l2 l3 D hl0 hf
    rw [fJ7_fill_5] at hf
    refine ev_blk hX lkok_RJ7 [(.iload_n 2, 1, 0, 0, 0), (.iload_n 3, 1, 0, 0, 0)] (by decide +kernel) (g := true) (lv' := [some (.ref l0), some (.int l1), some (.int l2), some (.int l3)]) (st' := [.int l3, .int l2]) (D' := D) (pc' := 7) rfl (rfl) rfl ?_
    refine ev_ic_ge hX (off := 13) 20 (by decide +kernel) (by decide) (fun h1 => ?_) (fun h1 => ?_)
    · have hf := ev_it h1 hf
      exact ev_vret hR ev_sm.rf (Option.some.inj hf) hC (by decide +kernel)
    · have hf := ev_nf h1 hf
      obtain ⟨hg2, hf⟩ := ev_gd_s hf
      refine ev_blk hX lkok_RJ7 [(.aload_n 0, 1, 0, 0, 0), (.iload_n 2, 1, 0, 0, 0), (.iload_n 1, 1, 0, 0, 0), (.iastore, 1, 0, 0, 0), (.iinc 2 1, 3, 0, 0, 1)] (by decide +kernel) (g := (sK S l0 == 1 && ev_in l2 ((sL S) l0)) && (true)) (lv' := [some (.ref l0), some (.int l1), some (.int (l2 + (1 : Int32))), some (.int l3)]) (st' := []) (D' := (ev_up D l0 (l2).toNatClampNeg l1)) (pc' := 17) rfl (ev_gi hl0 hg2 (rfl)) rfl ?_
      refine ev_goto hX (off := (-12)) 5 (by decide +kernel) (by decide) ?_
      exact ev_weak hX (ev_le_eq (ev_le_eq (ev_le_eq (ev_le_eq ev_le_nil)))) (ih _ _ _ _ _ hl0 hf)
set_option maxHeartbeats 4000000 in
set_option maxRecDepth 100000 in
theorem tJ7_fill {S : ev_S} {fu : Nat} {r : Int32 × ev_D} {F : ev_Fr} (hR : ev_R RJ7 cJ7_fill_53178 4 0 0 0 false none S r F) (hT : ev_Ty S) (hC : sC S ≤ 0 ∧ sA S ≤ 0) {l0 : Nat} {l1 : Int32} {D : ev_D} (hl0 : sK S l0 = 1) (hf : fJ7_fill (sL S) (sE S) fu l0 l1 D = some r) : F S D 0 [some (.ref l0), some (.int l1), none, none] [] := by
  have hX := hR.X
  unfold fJ7_fill at hf
  refine ev_blk hX lkok_RJ7 [(.iconst 0, 1, 0, 0, 0), (.istore_n 2, 1, 0, 0, 0), (.aload_n 0, 1, 0, 0, 0), (.arraylength, 1, 0, 0, 0), (.istore_n 3, 1, 0, 0, 0)] (by decide +kernel) (g := (sK S l0 == 1) && (true)) (lv' := [some (.ref l0), some (.int l1), some (.int (0 : Int32)), some (.int (Int32.ofNat ((sL S) l0)))]) (st' := []) (D' := D) (pc' := 5) rfl (ev_gk hl0 (rfl)) rfl ?_
  exact ev_weak hX (ev_le_eq (ev_le_eq (ev_le_eq (ev_le_eq ev_le_nil)))) (tJ7_fill_5 hR hT hC  fu _ _ _ _ _ hl0 hf)
theorem mJ7_fill {S : ev_S} {fu : Nat} {r : Int32 × ev_D} (hT : ev_Ty S) {l0 : Nat} {l1 : Int32} {D : ev_D} (hl0 : sK S l0 = 1) (hf : fJ7_fill (sL S) (sE S) fu l0 l1 D = some r) : ev_M 0 0 0 yJ7_fill_53178 cJ7_fill_53178 4 none [.ref l0, .int l1] S D S r :=
  ev_met (ini := false) (plainFor_of_name (by decide)) (fun h => by cases h) rfl (Nat.le_of_ble_eq_true rfl) (fun F hR => tJ7_fill (S := ev_z S) hR hT ⟨Nat.le_refl 0, Nat.le_refl 0⟩ hl0 hf)
set_option maxHeartbeats 4000000 in
set_option maxRecDepth 100000 in
theorem tX3_fillNear_92 {S : ev_S} {fu : Nat} {r : Int32 × ev_D} {F : ev_Fr} (hR : ev_R RX3 cX3_fillNear 6 1 0 0 false none S r F) (hT : ev_Ty S) (hC : sC S ≤ 0 ∧ sA S ≤ 0) {k10 : Nat → Nat → Int32 → Int32 → ev_D → ev_Op} (hk10 : ∀ (l0 : Nat) (l1 : Nat) (l2 : Int32) (l3 : Int32) (D : ev_D), sK S l0 = 6 → sK S l1 = 9 → k10 l0 l1 l2 l3 D = some r → F S D 10 [some (.ref l0), some (.ref l1), some (.int l2), some (.int l3), none, none] []) {l0 : Nat} {l1 : Nat} {l2 : Int32} {l3 : Int32} {D : ev_D} (hl0 : sK S l0 = 6) (hl1 : sK S l1 = 9) (hf : fX3_fillNear_92 (sL S) (sE S) fu k10 l0 l1 l2 l3 D = some r) : F S D 92 [some (.ref l0), some (.ref l1), some (.int l2), some (.int l3), none, none] [] := by
  have hX := hR.X
  unfold fX3_fillNear_92 at hf
  refine ev_blk hX lkok_RX3 [(.iinc 3 1, 3, 0, 0, 1)] (by decide +kernel) (g := true) (lv' := [some (.ref l0), some (.ref l1), some (.int l2), some (.int (l3 + (1 : Int32))), none, none]) (st' := []) (D' := D) (pc' := 95) rfl (rfl) rfl ?_
  refine ev_goto hX (off := (-85)) 10 (by decide +kernel) (by decide) ?_
  exact ev_weak hX (ev_le_eq (ev_le_eq (ev_le_eq (ev_le_eq (ev_le_no (ev_le_no ev_le_nil)))))) (hk10 _ _ _ _ _ hl0 hl1 hf)
set_option maxHeartbeats 4000000 in
set_option maxRecDepth 100000 in
theorem tX3_fillNear_10 {S : ev_S} {fu : Nat} {r : Int32 × ev_D} {F : ev_Fr} (hR : ev_R RX3 cX3_fillNear 6 1 0 0 false none S r F) (hT : ev_Ty S) (hC : sC S ≤ 0 ∧ sA S ≤ 0) : ∀ (n : Nat) (l0 : Nat) (l1 : Nat) (l2 : Int32) (l3 : Int32) (D : ev_D), sK S l0 = 6 → sK S l1 = 9 → fX3_fillNear_10 (sL S) (sE S) fu n l0 l1 l2 l3 D = some r → F S D 10 [some (.ref l0), some (.ref l1), some (.int l2), some (.int l3), none, none] [] := by
  have hX := hR.X
  intro n
  induction n with
  | zero =>
    intro l0 l1 l2 l3 D hl0 hl1 hf
    rw [fX3_fillNear_10] at hf
    cases hf
  | succ n ih =>
    intro l0 l1 l2 l3 D hl0 hl1 hf
    rw [fX3_fillNear_10] at hf
    refine ev_blk hX lkok_RX3 [(.iload_n 3, 1, 0, 0, 0), (.aload_n 1, 1, 0, 0, 0), (.getfield 55, 3, 6, 0, 0)] (by decide +kernel) (g := (sK S l1 == 9) && (true)) (lv' := [some (.ref l0), some (.ref l1), some (.int l2), some (.int l3), none, none]) (st' := [.int (D l1 0), .int l3]) (D' := D) (pc' := 15) rfl (ev_gk hl1 (rfl)) rfl ?_
    refine ev_ic_ge hX (off := 83) 98 (by decide +kernel) (by decide) (fun h1 => ?_) (fun h1 => ?_)
    · have hf := ev_it h1 hf
      exact ev_vret hR ev_sm.rf (Option.some.inj hf) hC (by decide +kernel)
    · have hf := ev_nf h1 hf
      refine ev_blk hX lkok_RX3 [(.aload_n 1, 1, 0, 0, 0), (.iload_n 3, 1, 0, 0, 0), (.iconst 0, 1, 0, 0, 0)] (by decide +kernel) (g := true) (lv' := [some (.ref l0), some (.ref l1), some (.int l2), some (.int l3), none, none]) (st' := [.int (0 : Int32), .int l3, .ref l1]) (D' := D) (pc' := 21) rfl (rfl) rfl ?_
      obtain ⟨v2, D2, hc2, hf⟩ := ev_bd_s hf
      refine ev_callV hX YX6_cell ml_RX3_61 (mX6_cell hT hl1 hc2) (vs := [.int l3, .int (0 : Int32)]) (st := []) (by decide) 6 hl1 rfl rfl rfl (by decide +kernel) hC ?_
      show F S D2 24 [some (.ref l0), some (.ref l1), some (.int l2), some (.int l3), none, none] [.int v2]
      refine ev_blk hX lkok_RX3 [(.istore 4, 2, 0, 0, 0), (.aload_n 1, 1, 0, 0, 0), (.iload_n 3, 1, 0, 0, 0), (.iconst 1, 1, 0, 0, 1)] (by decide +kernel) (g := true) (lv' := [some (.ref l0), some (.ref l1), some (.int l2), some (.int l3), some (.int v2), none]) (st' := [.int (1 : Int32), .int l3, .ref l1]) (D' := D2) (pc' := 29) rfl (rfl) rfl ?_
      obtain ⟨v3, D3, hc3, hf⟩ := ev_bd_s hf
      refine ev_callV hX YX6_cell ml_RX3_61 (mX6_cell hT hl1 hc3) (vs := [.int l3, .int (1 : Int32)]) (st := []) (by decide) 6 hl1 rfl rfl rfl (by decide +kernel) hC ?_
      show F S D3 32 [some (.ref l0), some (.ref l1), some (.int l2), some (.int l3), some (.int v2), none] [.int v3]
      refine ev_blk hX lkok_RX3 [(.istore 5, 2, 0, 0, 0), (.iload 4, 2, 0, 0, 0), (.iconst 0, 1, 0, 0, 0), (.bipush 11, 2, 0, 0, 11)] (by decide +kernel) (g := true) (lv' := [some (.ref l0), some (.ref l1), some (.int l2), some (.int l3), some (.int v2), some (.int v3)]) (st' := [.int (11 : Int32), .int (0 : Int32), .int v2]) (D' := D3) (pc' := 39) rfl (rfl) rfl ?_
      obtain ⟨v4, D4, hc4, hf⟩ := ev_bd_s hf
      refine ev_callSN hX YX11_within ml_RX3_79 (mX11_within hT  hc4) (vs := [.int v2, .int (0 : Int32), .int (11 : Int32)]) (st := []) (by decide) rfl rfl (by decide +kernel) hC ?_
      show F S D4 42 [some (.ref l0), some (.ref l1), some (.int l2), some (.int l3), some (.int v2), some (.int v3)] [.int v4]
      refine ev_if_eq hX (off := 50) 92 (by decide +kernel) (by decide) (fun h5 => ?_) (fun h5 => ?_)
      · have hf := ev_it h5 hf
        exact ev_weak hX (ev_le_eq (ev_le_eq (ev_le_eq (ev_le_eq (ev_le_no (ev_le_no ev_le_nil)))))) (tX3_fillNear_92 hR hT hC ih hl0 hl1 hf)
      · have hf := ev_nf h5 hf
        refine ev_blk hX lkok_RX3 [(.iload 5, 2, 0, 0, 0), (.iconst 0, 1, 0, 0, 0), (.bipush 11, 2, 0, 0, 11)] (by decide +kernel) (g := true) (lv' := [some (.ref l0), some (.ref l1), some (.int l2), some (.int l3), some (.int v2), some (.int v3)]) (st' := [.int (11 : Int32), .int (0 : Int32), .int v3]) (D' := D4) (pc' := 50) rfl (rfl) rfl ?_
        obtain ⟨v6, D6, hc6, hf⟩ := ev_bd_s hf
        refine ev_callSN hX YX11_within ml_RX3_79 (mX11_within hT  hc6) (vs := [.int v3, .int (0 : Int32), .int (11 : Int32)]) (st := []) (by decide) rfl rfl (by decide +kernel) hC ?_
        show F S D6 53 [some (.ref l0), some (.ref l1), some (.int l2), some (.int l3), some (.int v2), some (.int v3)] [.int v6]
        refine ev_if_eq hX (off := 39) 92 (by decide +kernel) (by decide) (fun h7 => ?_) (fun h7 => ?_)
        · have hf := ev_it h7 hf
          exact ev_weak hX (ev_le_eq (ev_le_eq (ev_le_eq (ev_le_eq (ev_le_no (ev_le_no ev_le_nil)))))) (tX3_fillNear_92 hR hT hC ih hl0 hl1 hf)
        · have hf := ev_nf h7 hf
          obtain ⟨hg11, hf⟩ := ev_gd_s hf
          obtain ⟨hg12, hf⟩ := ev_gd_s hf
          obtain ⟨hg13, hf⟩ := ev_gd_s hf
          refine ev_blk hX lkok_RX3 [(.aload_n 0, 1, 0, 0, 0), (.getfield 21, 3, 3, 6, 0), (.iload 4, 2, 0, 0, 0), (.dup2, 1, 0, 0, 0), (.iaload, 1, 0, 0, 0), (.iconst 1, 1, 0, 0, 1), (.iload 5, 2, 0, 0, 0), (.ishl, 1, 0, 0, 0), (.ior, 1, 0, 0, 0), (.iastore, 1, 0, 0, 0), (.aload_n 0, 1, 0, 0, 0), (.getfield 21, 3, 3, 6, 0), (.iload 5, 2, 0, 0, 0), (.dup2, 1, 0, 0, 0), (.iaload, 1, 0, 0, 0), (.iload_n 2, 1, 0, 0, 0)] (by decide +kernel) (g := (sK S l0 == 6) && ((sK S ((sE S) l0 6) == 1 && ev_in v2 ((sL S) ((sE S) l0 6))) && ((sK S ((sE S) l0 6) == 1 && ev_in v2 ((sL S) ((sE S) l0 6))) && ((sK S l0 == 6) && ((sK S ((sE S) l0 6) == 1 && ev_in v3 ((sL S) ((sE S) l0 6))) && (true)))))) (lv' := [some (.ref l0), some (.ref l1), some (.int l2), some (.int l3), some (.int v2), some (.int v3)]) (st' := [.int l2, .int ((ev_up D6 ((sE S) l0 6) (v2).toNatClampNeg ((D6 ((sE S) l0 6) (v2).toNatClampNeg) ||| ((1 : Int32) <<< (v3 &&& 31)))) ((sE S) l0 6) (v3).toNatClampNeg), .int v3, .ref ((sE S) l0 6)]) (D' := (ev_up D6 ((sE S) l0 6) (v2).toNatClampNeg ((D6 ((sE S) l0 6) (v2).toNatClampNeg) ||| ((1 : Int32) <<< (v3 &&& 31))))) (pc' := 79) rfl (ev_gk hl0 (ev_gi (ev_tyk hT hl0 rfl rfl) hg11 (ev_gi (ev_tyk hT hl0 rfl rfl) hg12 (ev_gk hl0 (ev_gi (ev_tyk hT hl0 rfl rfl) hg13 (rfl)))))) rfl ?_
          refine ev_if_eq hX (off := 10) 89 (by decide +kernel) (by decide) (fun h8 => ?_) (fun h8 => ?_)
          · have hf := ev_it h8 hf
            obtain ⟨hg9, hf⟩ := ev_gd_s hf
            refine ev_blk hX lkok_RX3 [(.iconst 0, 1, 0, 0, 0), (.ior, 1, 0, 0, 0), (.iastore, 1, 0, 0, 0)] (by decide +kernel) (g := (sK S ((sE S) l0 6) == 1 && ev_in v3 ((sL S) ((sE S) l0 6))) && (true)) (lv' := [some (.ref l0), some (.ref l1), some (.int l2), some (.int l3), some (.int v2), some (.int v3)]) (st' := []) (D' := (ev_up (ev_up D6 ((sE S) l0 6) (v2).toNatClampNeg ((D6 ((sE S) l0 6) (v2).toNatClampNeg) ||| ((1 : Int32) <<< (v3 &&& 31)))) ((sE S) l0 6) (v3).toNatClampNeg (((ev_up D6 ((sE S) l0 6) (v2).toNatClampNeg ((D6 ((sE S) l0 6) (v2).toNatClampNeg) ||| ((1 : Int32) <<< (v3 &&& 31)))) ((sE S) l0 6) (v3).toNatClampNeg) ||| (0 : Int32)))) (pc' := 92) rfl (ev_gi (ev_tyk hT hl0 rfl rfl) hg9 (rfl)) rfl ?_
            exact ev_weak hX (ev_le_eq (ev_le_eq (ev_le_eq (ev_le_eq (ev_le_no (ev_le_no ev_le_nil)))))) (tX3_fillNear_92 hR hT hC ih hl0 hl1 hf)
          · have hf := ev_nf h8 hf
            refine ev_blk hX lkok_RX3 [(.iconst 1, 1, 0, 0, 1), (.iload 4, 2, 0, 0, 0), (.ishl, 1, 0, 0, 0)] (by decide +kernel) (g := true) (lv' := [some (.ref l0), some (.ref l1), some (.int l2), some (.int l3), some (.int v2), some (.int v3)]) (st' := [.int ((1 : Int32) <<< (v2 &&& 31)), .int ((ev_up D6 ((sE S) l0 6) (v2).toNatClampNeg ((D6 ((sE S) l0 6) (v2).toNatClampNeg) ||| ((1 : Int32) <<< (v3 &&& 31)))) ((sE S) l0 6) (v3).toNatClampNeg), .int v3, .ref ((sE S) l0 6)]) (D' := (ev_up D6 ((sE S) l0 6) (v2).toNatClampNeg ((D6 ((sE S) l0 6) (v2).toNatClampNeg) ||| ((1 : Int32) <<< (v3 &&& 31))))) (pc' := 86) rfl (rfl) rfl ?_
            refine ev_goto hX (off := 4) 90 (by decide +kernel) (by decide) ?_
            obtain ⟨hg10, hf⟩ := ev_gd_s hf
            refine ev_blk hX lkok_RX3 [(.ior, 1, 0, 0, 0), (.iastore, 1, 0, 0, 0)] (by decide +kernel) (g := (sK S ((sE S) l0 6) == 1 && ev_in v3 ((sL S) ((sE S) l0 6))) && (true)) (lv' := [some (.ref l0), some (.ref l1), some (.int l2), some (.int l3), some (.int v2), some (.int v3)]) (st' := []) (D' := (ev_up (ev_up D6 ((sE S) l0 6) (v2).toNatClampNeg ((D6 ((sE S) l0 6) (v2).toNatClampNeg) ||| ((1 : Int32) <<< (v3 &&& 31)))) ((sE S) l0 6) (v3).toNatClampNeg (((ev_up D6 ((sE S) l0 6) (v2).toNatClampNeg ((D6 ((sE S) l0 6) (v2).toNatClampNeg) ||| ((1 : Int32) <<< (v3 &&& 31)))) ((sE S) l0 6) (v3).toNatClampNeg) ||| ((1 : Int32) <<< (v2 &&& 31))))) (pc' := 92) rfl (ev_gi (ev_tyk hT hl0 rfl rfl) hg10 (rfl)) rfl ?_
            exact ev_weak hX (ev_le_eq (ev_le_eq (ev_le_eq (ev_le_eq (ev_le_no (ev_le_no ev_le_nil)))))) (tX3_fillNear_92 hR hT hC ih hl0 hl1 hf)
set_option maxHeartbeats 4000000 in
set_option maxRecDepth 100000 in
theorem tX3_fillNear {S : ev_S} {fu : Nat} {r : Int32 × ev_D} {F : ev_Fr} (hR : ev_R RX3 cX3_fillNear 6 1 0 0 false none S r F) (hT : ev_Ty S) (hC : sC S ≤ 0 ∧ sA S ≤ 0) {l0 : Nat} {l1 : Nat} {l2 : Int32} {D : ev_D} (hl0 : sK S l0 = 6) (hl1 : sK S l1 = 9) (hf : fX3_fillNear (sL S) (sE S) fu l0 l1 l2 D = some r) : F S D 0 [some (.ref l0), some (.ref l1), some (.int l2), none, none, none] [] := by
  have hX := hR.X
  unfold fX3_fillNear at hf
  refine ev_blk hX lkok_RX3 [(.aload_n 0, 1, 0, 0, 0), (.getfield 21, 3, 3, 6, 0), (.iconst 0, 1, 0, 0, 0)] (by decide +kernel) (g := (sK S l0 == 6) && (true)) (lv' := [some (.ref l0), some (.ref l1), some (.int l2), none, none, none]) (st' := [.int (0 : Int32), .ref ((sE S) l0 6)]) (D' := D) (pc' := 5) rfl (ev_gk hl0 (rfl)) rfl ?_
  obtain ⟨v14, D14, hc14, hf⟩ := ev_bd_s hf
  refine ev_callS hX YJ7_fill ml_RX3_132 (mJ7_fill hT (ev_tyk hT hl0 rfl rfl) hc14) (vs := [.ref ((sE S) l0 6), .int (0 : Int32)]) (st := []) (by decide) rfl rfl (by decide +kernel) hC ?_
  show F S D14 8 [some (.ref l0), some (.ref l1), some (.int l2), none, none, none] []
  refine ev_blk hX lkok_RX3 [(.iconst 0, 1, 0, 0, 0), (.istore_n 3, 1, 0, 0, 0)] (by decide +kernel) (g := true) (lv' := [some (.ref l0), some (.ref l1), some (.int l2), some (.int (0 : Int32)), none, none]) (st' := []) (D' := D14) (pc' := 10) rfl (rfl) rfl ?_
  exact ev_weak hX (ev_le_eq (ev_le_eq (ev_le_eq (ev_le_eq (ev_le_no (ev_le_no ev_le_nil)))))) (tX3_fillNear_10 hR hT hC  fu _ _ _ _ _ hl0 hl1 hf)
theorem mX3_fillNear {S : ev_S} {fu : Nat} {r : Int32 × ev_D} (hT : ev_Ty S) {l0 : Nat} {l1 : Nat} {l2 : Int32} {D : ev_D} (hl0 : sK S l0 = 6) (hl1 : sK S l1 = 9) (hf : fX3_fillNear (sL S) (sE S) fu l0 l1 l2 D = some r) : ev_M 1 0 0 yX3_fillNear cX3_fillNear 6 none [.ref l0, .ref l1, .int l2] S D S r :=
  ev_met (ini := false) (plainFor_of_name (by decide)) (fun h => by cases h) rfl (Nat.le_of_ble_eq_true rfl) (fun F hR => tX3_fillNear (S := ev_z S) hR hT ⟨Nat.le_refl 0, Nat.le_refl 0⟩ hl0 hl1 hf)
set_option maxHeartbeats 4000000 in
set_option maxRecDepth 100000 in
theorem tX3_stepOn_15 {S : ev_S} {fu : Nat} {r : Int32 × ev_D} {F : ev_Fr} (hR : ev_R RX3 cX3_stepOn 6 1 0 0 false (some .int) S r F) (hT : ev_Ty S) (hC : sC S ≤ 0 ∧ sA S ≤ 0) {k5 : Nat → Int32 → Int32 → Int32 → Int32 → ev_D → ev_Op} (hk5 : ∀ (l0 : Nat) (l1 : Int32) (l2 : Int32) (l3 : Int32) (l4 : Int32) (D : ev_D), sK S l0 = 6 → k5 l0 l1 l2 l3 l4 D = some r → F S D 5 [some (.ref l0), some (.int l1), some (.int l2), some (.int l3), some (.int l4), none] []) : ∀ (n : Nat) (l0 : Nat) (l1 : Int32) (l2 : Int32) (l3 : Int32) (l4 : Int32) (l5 : Int32) (D : ev_D), sK S l0 = 6 → fX3_stepOn_15 (sL S) (sE S) fu k5 n l0 l1 l2 l3 l4 l5 D = some r → F S D 15 [some (.ref l0), some (.int l1), some (.int l2), some (.int l3), some (.int l4), some (.int l5)] [] := by
  have hX := hR.X
  intro n
  induction n with
  | zero =>
    intro l0 l1 l2 l3 l4 l5 D hl0 hf
    rw [fX3_stepOn_15] at hf
    cases hf
  | succ n ih =>
    intro l0 l1 l2 l3 l4 l5 D hl0 hf
    rw [fX3_stepOn_15] at hf
    refine ev_blk hX lkok_RX3 [(.iload 5, 2, 0, 0, 0), (.bipush 12, 2, 0, 0, 12)] (by decide +kernel) (g := true) (lv' := [some (.ref l0), some (.int l1), some (.int l2), some (.int l3), some (.int l4), some (.int l5)]) (st' := [.int (12 : Int32), .int l5]) (D' := D) (pc' := 19) rfl (rfl) rfl ?_
    refine ev_ic_ge hX (off := 61) 80 (by decide +kernel) (by decide) (fun h1 => ?_) (fun h1 => ?_)
    · have hf := ev_it h1 hf
      refine ev_blk hX lkok_RX3 [(.iinc 4 1, 3, 0, 0, 1)] (by decide +kernel) (g := true) (lv' := [some (.ref l0), some (.int l1), some (.int l2), some (.int l3), some (.int (l4 + (1 : Int32))), some (.int l5)]) (st' := []) (D' := D) (pc' := 83) rfl (rfl) rfl ?_
      refine ev_goto hX (off := (-78)) 5 (by decide +kernel) (by decide) ?_
      exact ev_weak hX (ev_le_eq (ev_le_eq (ev_le_eq (ev_le_eq (ev_le_eq (ev_le_no ev_le_nil)))))) (hk5 _ _ _ _ _ _ hl0 hf)
    · have hf := ev_nf h1 hf
      refine ev_blk hX lkok_RX3 [(.iload_n 1, 1, 0, 0, 0), (.iload 4, 2, 0, 0, 0)] (by decide +kernel) (g := true) (lv' := [some (.ref l0), some (.int l1), some (.int l2), some (.int l3), some (.int l4), some (.int l5)]) (st' := [.int l4, .int l1]) (D' := D) (pc' := 25) rfl (rfl) rfl ?_
      obtain ⟨v2, D2, hc2, hf⟩ := ev_bd_s hf
      refine ev_callSN hX YX11_isIn ml_RX3_64 (mX11_isIn hT  hc2) (vs := [.int l1, .int l4]) (st := []) (by decide) rfl rfl (by decide +kernel) hC ?_
      show F S D2 28 [some (.ref l0), some (.int l1), some (.int l2), some (.int l3), some (.int l4), some (.int l5)] [.int v2]
      refine ev_if_eq hX (off := 52) 80 (by decide +kernel) (by decide) (fun h3 => ?_) (fun h3 => ?_)
      · have hf := ev_it h3 hf
        refine ev_blk hX lkok_RX3 [(.iinc 4 1, 3, 0, 0, 1)] (by decide +kernel) (g := true) (lv' := [some (.ref l0), some (.int l1), some (.int l2), some (.int l3), some (.int (l4 + (1 : Int32))), some (.int l5)]) (st' := []) (D' := D2) (pc' := 83) rfl (rfl) rfl ?_
        refine ev_goto hX (off := (-78)) 5 (by decide +kernel) (by decide) ?_
        exact ev_weak hX (ev_le_eq (ev_le_eq (ev_le_eq (ev_le_eq (ev_le_eq (ev_le_no ev_le_nil)))))) (hk5 _ _ _ _ _ _ hl0 hf)
      · have hf := ev_nf h3 hf
        obtain ⟨hg9, hf⟩ := ev_gd_s hf
        refine ev_blk hX lkok_RX3 [(.aload_n 0, 1, 0, 0, 0), (.getfield 21, 3, 3, 6, 0), (.iload 4, 2, 0, 0, 0), (.iaload, 1, 0, 0, 0), (.iload_n 2, 1, 0, 0, 0), (.iconst (-1), 1, 0, 0, (-1)), (.ixor, 1, 0, 0, 0), (.iand, 1, 0, 0, 0), (.iload 5, 2, 0, 0, 0)] (by decide +kernel) (g := (sK S l0 == 6) && ((sK S ((sE S) l0 6) == 1 && ev_in l4 ((sL S) ((sE S) l0 6))) && (true))) (lv' := [some (.ref l0), some (.int l1), some (.int l2), some (.int l3), some (.int l4), some (.int l5)]) (st' := [.int l5, .int ((D2 ((sE S) l0 6) (l4).toNatClampNeg) &&& (l2 ^^^ (-1 : Int32)))]) (D' := D2) (pc' := 44) rfl (ev_gk hl0 (ev_gi (ev_tyk hT hl0 rfl rfl) hg9 (rfl))) rfl ?_
        obtain ⟨v4, D4, hc4, hf⟩ := ev_bd_s hf
        refine ev_callSN hX YX11_isIn ml_RX3_64 (mX11_isIn hT  hc4) (vs := [.int ((D2 ((sE S) l0 6) (l4).toNatClampNeg) &&& (l2 ^^^ (-1 : Int32))), .int l5]) (st := []) (by decide) rfl rfl (by decide +kernel) hC ?_
        show F S D4 47 [some (.ref l0), some (.int l1), some (.int l2), some (.int l3), some (.int l4), some (.int l5)] [.int v4]
        refine ev_if_eq hX (off := 27) 74 (by decide +kernel) (by decide) (fun h5 => ?_) (fun h5 => ?_)
        · have hf := ev_it h5 hf
          refine ev_blk hX lkok_RX3 [(.iinc 5 1, 3, 0, 0, 1)] (by decide +kernel) (g := true) (lv' := [some (.ref l0), some (.int l1), some (.int l2), some (.int l3), some (.int l4), some (.int (l5 + (1 : Int32)))]) (st' := []) (D' := D4) (pc' := 77) rfl (rfl) rfl ?_
          refine ev_goto hX (off := (-62)) 15 (by decide +kernel) (by decide) ?_
          exact ev_weak hX (ev_le_eq (ev_le_eq (ev_le_eq (ev_le_eq (ev_le_eq (ev_le_eq ev_le_nil)))))) (ih _ _ _ _ _ _ _ hl0 hf)
        · have hf := ev_nf h5 hf
          obtain ⟨hg6, hf⟩ := ev_gd_s hf
          obtain ⟨hg7, hf⟩ := ev_gd_s hf
          obtain ⟨hg8, hf⟩ := ev_gd_s hf
          refine ev_blk hX lkok_RX3 [(.aload_n 0, 1, 0, 0, 0), (.getfield 24, 3, 3, 7, 0), (.iload 5, 2, 0, 0, 0), (.dup2, 1, 0, 0, 0), (.iaload, 1, 0, 0, 0), (.aload_n 0, 1, 0, 0, 0), (.getfield 24, 3, 3, 7, 0), (.iload 4, 2, 0, 0, 0), (.iaload, 1, 0, 0, 0), (.iadd, 1, 0, 0, 0), (.iastore, 1, 0, 0, 0), (.iload_n 3, 1, 0, 0, 0), (.iconst 1, 1, 0, 0, 1), (.iload 5, 2, 0, 0, 0), (.ishl, 1, 0, 0, 0), (.ior, 1, 0, 0, 0), (.istore_n 3, 1, 0, 0, 0), (.iinc 5 1, 3, 0, 0, 1)] (by decide +kernel) (g := (sK S l0 == 6) && ((sK S ((sE S) l0 7) == 1 && ev_in l5 ((sL S) ((sE S) l0 7))) && ((sK S l0 == 6) && ((sK S ((sE S) l0 7) == 1 && ev_in l4 ((sL S) ((sE S) l0 7))) && ((sK S ((sE S) l0 7) == 1 && ev_in l5 ((sL S) ((sE S) l0 7))) && (true)))))) (lv' := [some (.ref l0), some (.int l1), some (.int l2), some (.int (l3 ||| ((1 : Int32) <<< (l5 &&& 31)))), some (.int l4), some (.int (l5 + (1 : Int32)))]) (st' := []) (D' := (ev_up D4 ((sE S) l0 7) (l5).toNatClampNeg ((D4 ((sE S) l0 7) (l5).toNatClampNeg) + (D4 ((sE S) l0 7) (l4).toNatClampNeg)))) (pc' := 77) rfl (ev_gk hl0 (ev_gi (ev_tyk hT hl0 rfl rfl) hg6 (ev_gk hl0 (ev_gi (ev_tyk hT hl0 rfl rfl) hg7 (ev_gi (ev_tyk hT hl0 rfl rfl) hg8 (rfl)))))) rfl ?_
          refine ev_goto hX (off := (-62)) 15 (by decide +kernel) (by decide) ?_
          exact ev_weak hX (ev_le_eq (ev_le_eq (ev_le_eq (ev_le_eq (ev_le_eq (ev_le_eq ev_le_nil)))))) (ih _ _ _ _ _ _ _ hl0 hf)
set_option maxHeartbeats 4000000 in
set_option maxRecDepth 100000 in
theorem tX3_stepOn_5 {S : ev_S} {fu : Nat} {r : Int32 × ev_D} {F : ev_Fr} (hR : ev_R RX3 cX3_stepOn 6 1 0 0 false (some .int) S r F) (hT : ev_Ty S) (hC : sC S ≤ 0 ∧ sA S ≤ 0) : ∀ (n : Nat) (l0 : Nat) (l1 : Int32) (l2 : Int32) (l3 : Int32) (l4 : Int32) (D : ev_D), sK S l0 = 6 → fX3_stepOn_5 (sL S) (sE S) fu n l0 l1 l2 l3 l4 D = some r → F S D 5 [some (.ref l0), some (.int l1), some (.int l2), some (.int l3), some (.int l4), none] [] := by
  have hX := hR.X
  intro n
  induction n with
  | zero =>
    intro l0 l1 l2 l3 l4 D hl0 hf
    rw [fX3_stepOn_5] at hf
    cases hf
  | succ n ih =>
    intro l0 l1 l2 l3 l4 D hl0 hf
    rw [fX3_stepOn_5] at hf
    refine ev_blk hX lkok_RX3 [(.iload 4, 2, 0, 0, 0), (.bipush 12, 2, 0, 0, 12)] (by decide +kernel) (g := true) (lv' := [some (.ref l0), some (.int l1), some (.int l2), some (.int l3), some (.int l4), none]) (st' := [.int (12 : Int32), .int l4]) (D' := D) (pc' := 9) rfl (rfl) rfl ?_
    refine ev_ic_ge hX (off := 77) 86 (by decide +kernel) (by decide) (fun h10 => ?_) (fun h10 => ?_)
    · have hf := ev_it h10 hf
      refine ev_blk hX lkok_RX3 [(.iload_n 3, 1, 0, 0, 0)] (by decide +kernel) (g := true) (lv' := [some (.ref l0), some (.int l1), some (.int l2), some (.int l3), some (.int l4), none]) (st' := [.int l3]) (D' := D) (pc' := 87) rfl (rfl) rfl ?_
      exact ev_iret hR ev_sm.rf (Option.some.inj hf) hC (by decide +kernel)
    · have hf := ev_nf h10 hf
      refine ev_blk hX lkok_RX3 [(.iconst 0, 1, 0, 0, 0), (.istore 5, 2, 0, 0, 0)] (by decide +kernel) (g := true) (lv' := [some (.ref l0), some (.int l1), some (.int l2), some (.int l3), some (.int l4), some (.int (0 : Int32))]) (st' := []) (D' := D) (pc' := 15) rfl (rfl) rfl ?_
      exact ev_weak hX (ev_le_eq (ev_le_eq (ev_le_eq (ev_le_eq (ev_le_eq (ev_le_eq ev_le_nil)))))) (tX3_stepOn_15 hR hT hC ih fu _ _ _ _ _ _ _ hl0 hf)
set_option maxHeartbeats 4000000 in
set_option maxRecDepth 100000 in
theorem tX3_stepOn {S : ev_S} {fu : Nat} {r : Int32 × ev_D} {F : ev_Fr} (hR : ev_R RX3 cX3_stepOn 6 1 0 0 false (some .int) S r F) (hT : ev_Ty S) (hC : sC S ≤ 0 ∧ sA S ≤ 0) {l0 : Nat} {l1 : Int32} {l2 : Int32} {D : ev_D} (hl0 : sK S l0 = 6) (hf : fX3_stepOn (sL S) (sE S) fu l0 l1 l2 D = some r) : F S D 0 [some (.ref l0), some (.int l1), some (.int l2), none, none, none] [] := by
  have hX := hR.X
  unfold fX3_stepOn at hf
  refine ev_blk hX lkok_RX3 [(.iconst 0, 1, 0, 0, 0), (.istore_n 3, 1, 0, 0, 0), (.iconst 0, 1, 0, 0, 0), (.istore 4, 2, 0, 0, 0)] (by decide +kernel) (g := true) (lv' := [some (.ref l0), some (.int l1), some (.int l2), some (.int (0 : Int32)), some (.int (0 : Int32)), none]) (st' := []) (D' := D) (pc' := 5) rfl (rfl) rfl ?_
  exact ev_weak hX (ev_le_eq (ev_le_eq (ev_le_eq (ev_le_eq (ev_le_eq (ev_le_no ev_le_nil)))))) (tX3_stepOn_5 hR hT hC  fu _ _ _ _ _ _ hl0 hf)
theorem mX3_stepOn {S : ev_S} {fu : Nat} {r : Int32 × ev_D} (hT : ev_Ty S) {l0 : Nat} {l1 : Int32} {l2 : Int32} {D : ev_D} (hl0 : sK S l0 = 6) (hf : fX3_stepOn (sL S) (sE S) fu l0 l1 l2 D = some r) : ev_M 1 0 0 yX3_stepOn cX3_stepOn 6 (some .int) [.ref l0, .int l1, .int l2] S D S r :=
  ev_met (ini := false) (plainFor_of_name (by decide)) (fun h => by cases h) rfl (Nat.le_of_ble_eq_true rfl) (fun F hR => tX3_stepOn (S := ev_z S) hR hT ⟨Nat.le_refl 0, Nat.le_refl 0⟩ hl0 hf)
set_option maxHeartbeats 4000000 in
set_option maxRecDepth 100000 in
theorem tX3_wavesBetween_61 {S : ev_S} {fu : Nat} {r : Int32 × ev_D} {F : ev_Fr} (hR : ev_R RX3 cX3_wavesBetween 7 2 0 0 false (some .int) S r F) (hT : ev_Ty S) (hC : sC S ≤ 0 ∧ sA S ≤ 0) : ∀ (n : Nat) (l0 : Nat) (l2 : Int32) (l3 : Int32) (l4 : Int32) (l5 : Int32) (l6 : Int32) (D : ev_D), sK S l0 = 6 → fX3_wavesBetween_61 (sL S) (sE S) fu n l0 l2 l3 l4 l5 l6 D = some r → F S D 61 [some (.ref l0), none, some (.int l2), some (.int l3), some (.int l4), some (.int l5), some (.int l6)] [] := by
  have hX := hR.X
  intro n
  induction n with
  | zero =>
    intro l0 l2 l3 l4 l5 l6 D hl0 hf
    rw [fX3_wavesBetween_61] at hf
    cases hf
  | succ n ih =>
    intro l0 l2 l3 l4 l5 l6 D hl0 hf
    rw [fX3_wavesBetween_61] at hf
    refine ev_blk hX lkok_RX3 [(.iload 6, 2, 0, 0, 0), (.bipush 12, 2, 0, 0, 12)] (by decide +kernel) (g := true) (lv' := [some (.ref l0), none, some (.int l2), some (.int l3), some (.int l4), some (.int l5), some (.int l6)]) (st' := [.int (12 : Int32), .int l6]) (D' := D) (pc' := 65) rfl (rfl) rfl ?_
    refine ev_ic_ge hX (off := 51) 116 (by decide +kernel) (by decide) (fun h1 => ?_) (fun h1 => ?_)
    · have hf := ev_it h1 hf
      refine ev_blk hX lkok_RX3 [(.iconst (-1), 1, 0, 0, (-1))] (by decide +kernel) (g := true) (lv' := [some (.ref l0), none, some (.int l2), some (.int l3), some (.int l4), some (.int l5), some (.int l6)]) (st' := [.int (-1 : Int32)]) (D' := D) (pc' := 117) rfl (rfl) rfl ?_
      exact ev_iret hR ev_sm.rf (Option.some.inj hf) hC (by decide +kernel)
    · have hf := ev_nf h1 hf
      refine ev_blk hX lkok_RX3 [(.aload_n 0, 1, 0, 0, 0), (.iload 5, 2, 0, 0, 0), (.iload 4, 2, 0, 0, 0)] (by decide +kernel) (g := true) (lv' := [some (.ref l0), none, some (.int l2), some (.int l3), some (.int l4), some (.int l5), some (.int l6)]) (st' := [.int l4, .int l5, .ref l0]) (D' := D) (pc' := 73) rfl (rfl) rfl ?_
      obtain ⟨v2, D2, hc2, hf⟩ := ev_bd_s hf
      refine ev_callV hX YX3_stepOn ml_RX3_145 (mX3_stepOn hT hl0 hc2) (vs := [.int l5, .int l4]) (st := []) (by decide) 3 hl0 rfl rfl rfl (by decide +kernel) hC ?_
      show F S D2 76 [some (.ref l0), none, some (.int l2), some (.int l3), some (.int l4), some (.int l5), some (.int l6)] [.int v2]
      refine ev_blk hX lkok_RX3 [(.istore 5, 2, 0, 0, 0), (.iload 4, 2, 0, 0, 0), (.iload 5, 2, 0, 0, 0), (.ior, 1, 0, 0, 0), (.istore 4, 2, 0, 0, 0), (.iload 5, 2, 0, 0, 0), (.iload_n 2, 1, 0, 0, 0)] (by decide +kernel) (g := true) (lv' := [some (.ref l0), none, some (.int l2), some (.int l3), some (.int (l4 ||| v2)), some (.int v2), some (.int l6)]) (st' := [.int l2, .int v2]) (D' := D2) (pc' := 88) rfl (rfl) rfl ?_
      obtain ⟨v3, D3, hc3, hf⟩ := ev_bd_s hf
      refine ev_callSN hX YX11_isIn ml_RX3_64 (mX11_isIn hT  hc3) (vs := [.int v2, .int l2]) (st := []) (by decide) rfl rfl (by decide +kernel) hC ?_
      show F S D3 91 [some (.ref l0), none, some (.int l2), some (.int l3), some (.int (l4 ||| v2)), some (.int v2), some (.int l6)] [.int v3]
      refine ev_if_eq hX (off := 19) 110 (by decide +kernel) (by decide) (fun h4 => ?_) (fun h4 => ?_)
      · have hf := ev_it h4 hf
        refine ev_blk hX lkok_RX3 [(.iinc 6 1, 3, 0, 0, 1)] (by decide +kernel) (g := true) (lv' := [some (.ref l0), none, some (.int l2), some (.int l3), some (.int (l4 ||| v2)), some (.int v2), some (.int (l6 + (1 : Int32)))]) (st' := []) (D' := D3) (pc' := 113) rfl (rfl) rfl ?_
        refine ev_goto hX (off := (-52)) 61 (by decide +kernel) (by decide) ?_
        exact ev_weak hX (ev_le_eq (ev_le_no (ev_le_eq (ev_le_eq (ev_le_eq (ev_le_eq (ev_le_eq ev_le_nil))))))) (ih _ _ _ _ _ _ _ hl0 hf)
      · have hf := ev_nf h4 hf
        refine ev_blk hX lkok_RX3 [(.iload_n 3, 1, 0, 0, 0)] (by decide +kernel) (g := true) (lv' := [some (.ref l0), none, some (.int l2), some (.int l3), some (.int (l4 ||| v2)), some (.int v2), some (.int l6)]) (st' := [.int l3]) (D' := D3) (pc' := 95) rfl (rfl) rfl ?_
        refine ev_if_ne hX (off := 8) 103 (by decide +kernel) (by decide) (fun h5 => ?_) (fun h5 => ?_)
        · have hf := ev_nf h5 hf
          obtain ⟨hg6, hf⟩ := ev_gd_s hf
          refine ev_blk hX lkok_RX3 [(.aload_n 0, 1, 0, 0, 0), (.getfield 24, 3, 3, 7, 0), (.iload_n 2, 1, 0, 0, 0), (.iaload, 1, 0, 0, 0)] (by decide +kernel) (g := (sK S l0 == 6) && ((sK S ((sE S) l0 7) == 1 && ev_in l2 ((sL S) ((sE S) l0 7))) && (true))) (lv' := [some (.ref l0), none, some (.int l2), some (.int l3), some (.int (l4 ||| v2)), some (.int v2), some (.int l6)]) (st' := [.int (D3 ((sE S) l0 7) (l2).toNatClampNeg)]) (D' := D3) (pc' := 109) rfl (ev_gk hl0 (ev_gi (ev_tyk hT hl0 rfl rfl) hg6 (rfl))) rfl ?_
          exact ev_iret hR ev_sm.rf (Option.some.inj hf) hC (by decide +kernel)
        · have hf := ev_it h5 hf
          refine ev_blk hX lkok_RX3 [(.iload 6, 2, 0, 0, 0)] (by decide +kernel) (g := true) (lv' := [some (.ref l0), none, some (.int l2), some (.int l3), some (.int (l4 ||| v2)), some (.int v2), some (.int l6)]) (st' := [.int l6]) (D' := D3) (pc' := 100) rfl (rfl) rfl ?_
          refine ev_goto hX (off := 9) 109 (by decide +kernel) (by decide) ?_
          exact ev_iret hR ev_sm.rf (Option.some.inj hf) hC (by decide +kernel)
set_option maxHeartbeats 4000000 in
set_option maxRecDepth 100000 in
theorem tX3_wavesBetween {S : ev_S} {fu : Nat} {r : Int32 × ev_D} {F : ev_Fr} (hR : ev_R RX3 cX3_wavesBetween 7 2 0 0 false (some .int) S r F) (hT : ev_Ty S) (hC : sC S ≤ 0 ∧ sA S ≤ 0) {l0 : Nat} {l1 : Int32} {l2 : Int32} {l3 : Int32} {D : ev_D} (hl0 : sK S l0 = 6) (hf : fX3_wavesBetween (sL S) (sE S) fu l0 l1 l2 l3 D = some r) : F S D 0 [some (.ref l0), some (.int l1), some (.int l2), some (.int l3), none, none, none] [] := by
  have hX := hR.X
  unfold fX3_wavesBetween at hf
  refine ev_blk hX lkok_RX3 [(.aload_n 0, 1, 0, 0, 0), (.aload_n 0, 1, 0, 0, 0), (.getfield 41, 3, 3, 2, 0), (.getfield 138, 3, 8, 2, 0), (.iconst 0, 1, 0, 0, 0)] (by decide +kernel) (g := (sK S l0 == 6) && ((sK S ((sE S) l0 2) == 11) && (true))) (lv' := [some (.ref l0), some (.int l1), some (.int l2), some (.int l3), none, none, none]) (st' := [.int (0 : Int32), .ref ((sE S) ((sE S) l0 2) 2), .ref l0]) (D' := D) (pc' := 9) rfl (ev_gk hl0 (ev_gk (ev_tyk hT hl0 rfl rfl) (rfl))) rfl ?_
  obtain ⟨v7, D7, hc7, hf⟩ := ev_bd_s hf
  refine ev_callV hX YX3_fillNear ml_RX3_141 (mX3_fillNear hT hl0 (ev_tyk hT (ev_tyk hT hl0 rfl rfl) rfl rfl) hc7) (vs := [.ref ((sE S) ((sE S) l0 2) 2), .int (0 : Int32)]) (st := []) (by decide) 3 hl0 rfl rfl rfl (by decide +kernel) hC ?_
  show F S D7 12 [some (.ref l0), some (.int l1), some (.int l2), some (.int l3), none, none, none] []
  refine ev_blk hX lkok_RX3 [(.aload_n 0, 1, 0, 0, 0), (.getfield 24, 3, 3, 7, 0), (.iconst 0, 1, 0, 0, 0)] (by decide +kernel) (g := (sK S l0 == 6) && (true)) (lv' := [some (.ref l0), some (.int l1), some (.int l2), some (.int l3), none, none, none]) (st' := [.int (0 : Int32), .ref ((sE S) l0 7)]) (D' := D7) (pc' := 17) rfl (ev_gk hl0 (rfl)) rfl ?_
  obtain ⟨v8, D8, hc8, hf⟩ := ev_bd_s hf
  refine ev_callS hX YJ7_fill ml_RX3_132 (mJ7_fill hT (ev_tyk hT hl0 rfl rfl) hc8) (vs := [.ref ((sE S) l0 7), .int (0 : Int32)]) (st := []) (by decide) rfl rfl (by decide +kernel) hC ?_
  show F S D8 20 [some (.ref l0), some (.int l1), some (.int l2), some (.int l3), none, none, none] []
  refine ev_blk hX lkok_RX3 [(.iload_n 1, 1, 0, 0, 0), (.iconst 0, 1, 0, 0, 0), (.bipush 11, 2, 0, 0, 11)] (by decide +kernel) (g := true) (lv' := [some (.ref l0), some (.int l1), some (.int l2), some (.int l3), none, none, none]) (st' := [.int (11 : Int32), .int (0 : Int32), .int l1]) (D' := D8) (pc' := 24) rfl (rfl) rfl ?_
  obtain ⟨v9, D9, hc9, hf⟩ := ev_bd_s hf
  refine ev_callSN hX YX11_within ml_RX3_79 (mX11_within hT  hc9) (vs := [.int l1, .int (0 : Int32), .int (11 : Int32)]) (st := []) (by decide) rfl rfl (by decide +kernel) hC ?_
  show F S D9 27 [some (.ref l0), some (.int l1), some (.int l2), some (.int l3), none, none, none] [.int v9]
  refine ev_if_eq hX (off := 13) 40 (by decide +kernel) (by decide) (fun h10 => ?_) (fun h10 => ?_)
  · have hf := ev_it h10 hf
    refine ev_blk hX lkok_RX3 [(.iconst (-1), 1, 0, 0, (-1))] (by decide +kernel) (g := true) (lv' := [some (.ref l0), some (.int l1), some (.int l2), some (.int l3), none, none, none]) (st' := [.int (-1 : Int32)]) (D' := D9) (pc' := 41) rfl (rfl) rfl ?_
    exact ev_iret hR ev_sm.rf (Option.some.inj hf) hC (by decide +kernel)
  · have hf := ev_nf h10 hf
    refine ev_blk hX lkok_RX3 [(.iload_n 2, 1, 0, 0, 0), (.iconst 0, 1, 0, 0, 0), (.bipush 11, 2, 0, 0, 11)] (by decide +kernel) (g := true) (lv' := [some (.ref l0), some (.int l1), some (.int l2), some (.int l3), none, none, none]) (st' := [.int (11 : Int32), .int (0 : Int32), .int l2]) (D' := D9) (pc' := 34) rfl (rfl) rfl ?_
    obtain ⟨v11, D11, hc11, hf⟩ := ev_bd_s hf
    refine ev_callSN hX YX11_within ml_RX3_79 (mX11_within hT  hc11) (vs := [.int l2, .int (0 : Int32), .int (11 : Int32)]) (st := []) (by decide) rfl rfl (by decide +kernel) hC ?_
    show F S D11 37 [some (.ref l0), some (.int l1), some (.int l2), some (.int l3), none, none, none] [.int v11]
    refine ev_if_ne hX (off := 5) 42 (by decide +kernel) (by decide) (fun h12 => ?_) (fun h12 => ?_)
    · have hf := ev_nf h12 hf
      obtain ⟨hg13, hf⟩ := ev_gd_s hf
      refine ev_blk hX lkok_RX3 [(.aload_n 0, 1, 0, 0, 0), (.getfield 24, 3, 3, 7, 0), (.iload_n 1, 1, 0, 0, 0), (.iconst 1, 1, 0, 0, 1), (.iastore, 1, 0, 0, 0), (.iconst 1, 1, 0, 0, 1), (.iload_n 1, 1, 0, 0, 0), (.ishl, 1, 0, 0, 0), (.istore 4, 2, 0, 0, 0), (.iload 4, 2, 0, 0, 0), (.istore 5, 2, 0, 0, 0), (.iconst 0, 1, 0, 0, 0), (.istore 6, 2, 0, 0, 0)] (by decide +kernel) (g := (sK S l0 == 6) && ((sK S ((sE S) l0 7) == 1 && ev_in l1 ((sL S) ((sE S) l0 7))) && (true))) (lv' := [some (.ref l0), some (.int l1), some (.int l2), some (.int l3), some (.int ((1 : Int32) <<< (l1 &&& 31))), some (.int ((1 : Int32) <<< (l1 &&& 31))), some (.int (0 : Int32))]) (st' := []) (D' := (ev_up D11 ((sE S) l0 7) (l1).toNatClampNeg (1 : Int32))) (pc' := 61) rfl (ev_gk hl0 (ev_gi (ev_tyk hT hl0 rfl rfl) hg13 (rfl))) rfl ?_
      exact ev_weak hX (ev_le_eq (ev_le_no (ev_le_eq (ev_le_eq (ev_le_eq (ev_le_eq (ev_le_eq ev_le_nil))))))) (tX3_wavesBetween_61 hR hT hC  fu _ _ _ _ _ _ _ hl0 hf)
    · have hf := ev_it h12 hf
      refine ev_blk hX lkok_RX3 [(.iconst (-1), 1, 0, 0, (-1))] (by decide +kernel) (g := true) (lv' := [some (.ref l0), some (.int l1), some (.int l2), some (.int l3), none, none, none]) (st' := [.int (-1 : Int32)]) (D' := D11) (pc' := 41) rfl (rfl) rfl ?_
      exact ev_iret hR ev_sm.rf (Option.some.inj hf) hC (by decide +kernel)
theorem mX3_wavesBetween {S : ev_S} {fu : Nat} {r : Int32 × ev_D} (hT : ev_Ty S) {l0 : Nat} {l1 : Int32} {l2 : Int32} {l3 : Int32} {D : ev_D} (hl0 : sK S l0 = 6) (hf : fX3_wavesBetween (sL S) (sE S) fu l0 l1 l2 l3 D = some r) : ev_M 2 0 0 yX3_wavesBetween cX3_wavesBetween 7 (some .int) [.ref l0, .int l1, .int l2, .int l3] S D S r :=
  ev_met (ini := false) (plainFor_of_name (by decide)) (fun h => by cases h) rfl (Nat.le_of_ble_eq_true rfl) (fun F hR => tX3_wavesBetween (S := ev_z S) hR hT ⟨Nat.le_refl 0, Nat.le_refl 0⟩ hl0 hf)
set_option maxHeartbeats 4000000 in
set_option maxRecDepth 100000 in
theorem tX11_waves {S : ev_S} {fu : Nat} {r : Int32 × ev_D} {F : ev_Fr} (hR : ev_R RX11 cX11_waves 4 3 0 0 false (some .int) S r F) (hT : ev_Ty S) (hC : sC S ≤ 0 ∧ sA S ≤ 0) {l0 : Nat} {l1 : Int32} {l2 : Int32} {l3 : Int32} {D : ev_D} (hl0 : sK S l0 = 14) (hf : fX11_waves (sL S) (sE S) fu l0 l1 l2 l3 D = some r) : F S D 0 [some (.ref l0), some (.int l1), some (.int l2), some (.int l3)] [] := by
  have hX := hR.X
  unfold fX11_waves at hf
  refine ev_blk hX lkok_RX11 [(.iload_n 1, 1, 0, 0, 0), (.iconst 0, 1, 0, 0, 0), (.bipush 11, 2, 0, 0, 11)] (by decide +kernel) (g := true) (lv' := [some (.ref l0), some (.int l1), some (.int l2), some (.int l3)]) (st' := [.int (11 : Int32), .int (0 : Int32), .int l1]) (D' := D) (pc' := 4) rfl (rfl) rfl ?_
  obtain ⟨v1, D1, hc1, hf⟩ := ev_bd_s hf
  refine ev_callS hX YX11_within ml_RX11_85 (mX11_within hT  hc1) (vs := [.int l1, .int (0 : Int32), .int (11 : Int32)]) (st := []) (by decide) rfl rfl (by decide +kernel) hC ?_
  show F S D1 7 [some (.ref l0), some (.int l1), some (.int l2), some (.int l3)] [.int v1]
  refine ev_if_eq hX (off := 18) 25 (by decide +kernel) (by decide) (fun h2 => ?_) (fun h2 => ?_)
  · have hf := ev_it h2 hf
    refine ev_blk hX lkok_RX11 [(.iconst (-1), 1, 0, 0, (-1))] (by decide +kernel) (g := true) (lv' := [some (.ref l0), some (.int l1), some (.int l2), some (.int l3)]) (st' := [.int (-1 : Int32)]) (D' := D1) (pc' := 26) rfl (rfl) rfl ?_
    exact ev_iret hR ev_sm.rf (Option.some.inj hf) hC (by decide +kernel)
  · have hf := ev_nf h2 hf
    refine ev_blk hX lkok_RX11 [(.iload_n 2, 1, 0, 0, 0), (.iconst 0, 1, 0, 0, 0), (.bipush 11, 2, 0, 0, 11)] (by decide +kernel) (g := true) (lv' := [some (.ref l0), some (.int l1), some (.int l2), some (.int l3)]) (st' := [.int (11 : Int32), .int (0 : Int32), .int l2]) (D' := D1) (pc' := 14) rfl (rfl) rfl ?_
    obtain ⟨v3, D3, hc3, hf⟩ := ev_bd_s hf
    refine ev_callS hX YX11_within ml_RX11_85 (mX11_within hT  hc3) (vs := [.int l2, .int (0 : Int32), .int (11 : Int32)]) (st := []) (by decide) rfl rfl (by decide +kernel) hC ?_
    show F S D3 17 [some (.ref l0), some (.int l1), some (.int l2), some (.int l3)] [.int v3]
    refine ev_if_eq hX (off := 8) 25 (by decide +kernel) (by decide) (fun h4 => ?_) (fun h4 => ?_)
    · have hf := ev_it h4 hf
      refine ev_blk hX lkok_RX11 [(.iconst (-1), 1, 0, 0, (-1))] (by decide +kernel) (g := true) (lv' := [some (.ref l0), some (.int l1), some (.int l2), some (.int l3)]) (st' := [.int (-1 : Int32)]) (D' := D3) (pc' := 26) rfl (rfl) rfl ?_
      exact ev_iret hR ev_sm.rf (Option.some.inj hf) hC (by decide +kernel)
    · have hf := ev_nf h4 hf
      refine ev_blk hX lkok_RX11 [(.iload_n 1, 1, 0, 0, 0), (.iload_n 2, 1, 0, 0, 0)] (by decide +kernel) (g := true) (lv' := [some (.ref l0), some (.int l1), some (.int l2), some (.int l3)]) (st' := [.int l2, .int l1]) (D' := D3) (pc' := 22) rfl (rfl) rfl ?_
      refine ev_ic_ne hX (off := 5) 27 (by decide +kernel) (by decide) (fun h5 => ?_) (fun h5 => ?_)
      · have hf := ev_nf h5 hf
        refine ev_blk hX lkok_RX11 [(.iload_n 3, 1, 0, 0, 0), (.iconst 0, 1, 0, 0, 0), (.iconst 1, 1, 0, 0, 1)] (by decide +kernel) (g := true) (lv' := [some (.ref l0), some (.int l1), some (.int l2), some (.int l3)]) (st' := [.int (1 : Int32), .int (0 : Int32), .int l3]) (D' := D3) (pc' := 30) rfl (rfl) rfl ?_
        obtain ⟨v6, D6, hc6, hf⟩ := ev_bd_s hf
        refine ev_callS hX YX11_within ml_RX11_85 (mX11_within hT  hc6) (vs := [.int l3, .int (0 : Int32), .int (1 : Int32)]) (st := []) (by decide) rfl rfl (by decide +kernel) hC ?_
        show F S D6 33 [some (.ref l0), some (.int l1), some (.int l2), some (.int l3)] [.int v6]
        refine ev_if_eq hX (off := 16) 49 (by decide +kernel) (by decide) (fun h7 => ?_) (fun h7 => ?_)
        · have hf := ev_it h7 hf
          refine ev_blk hX lkok_RX11 [(.iconst (-1), 1, 0, 0, (-1))] (by decide +kernel) (g := true) (lv' := [some (.ref l0), some (.int l1), some (.int l2), some (.int l3)]) (st' := [.int (-1 : Int32)]) (D' := D6) (pc' := 50) rfl (rfl) rfl ?_
          exact ev_iret hR ev_sm.rf (Option.some.inj hf) hC (by decide +kernel)
        · have hf := ev_nf h7 hf
          refine ev_blk hX lkok_RX11 [(.aload_n 0, 1, 0, 0, 0), (.getfield 71, 3, 11, 5, 0), (.iload_n 1, 1, 0, 0, 0), (.iload_n 2, 1, 0, 0, 0), (.iload_n 3, 1, 0, 0, 0)] (by decide +kernel) (g := (sK S l0 == 14) && (true)) (lv' := [some (.ref l0), some (.int l1), some (.int l2), some (.int l3)]) (st' := [.int l3, .int l2, .int l1, .ref ((sE S) l0 5)]) (D' := D6) (pc' := 43) rfl (ev_gk hl0 (rfl)) rfl ?_
          obtain ⟨v8, D8, hc8, hf⟩ := ev_bd_s hf
          refine ev_callV hX YX3_wavesBetween ml_RX11_273 (mX3_wavesBetween hT (ev_tyk hT hl0 rfl rfl) hc8) (vs := [.int l1, .int l2, .int l3]) (st := []) (by decide) 3 (ev_tyk hT hl0 rfl rfl) rfl rfl rfl (by decide +kernel) hC ?_
          show F S D8 46 [some (.ref l0), some (.int l1), some (.int l2), some (.int l3)] [.int v8]
          refine ev_goto hX (off := 4) 50 (by decide +kernel) (by decide) ?_
          exact ev_iret hR ev_sm.rf (Option.some.inj hf) hC (by decide +kernel)
      · have hf := ev_it h5 hf
        refine ev_blk hX lkok_RX11 [(.iconst (-1), 1, 0, 0, (-1))] (by decide +kernel) (g := true) (lv' := [some (.ref l0), some (.int l1), some (.int l2), some (.int l3)]) (st' := [.int (-1 : Int32)]) (D' := D3) (pc' := 26) rfl (rfl) rfl ?_
        exact ev_iret hR ev_sm.rf (Option.some.inj hf) hC (by decide +kernel)
theorem mX11_waves {S : ev_S} {fu : Nat} {r : Int32 × ev_D} (hT : ev_Ty S) {l0 : Nat} {l1 : Int32} {l2 : Int32} {l3 : Int32} {D : ev_D} (hl0 : sK S l0 = 14) (hf : fX11_waves (sL S) (sE S) fu l0 l1 l2 l3 D = some r) : ev_M 3 0 0 yX11_waves cX11_waves 4 (some .int) [.ref l0, .int l1, .int l2, .int l3] S D S r :=
  ev_met (ini := false) (plainFor_of_name (by decide)) (fun h => by cases h) rfl (Nat.le_of_ble_eq_true rfl) (fun F hR => tX11_waves (S := ev_z S) hR hT ⟨Nat.le_refl 0, Nat.le_refl 0⟩ hl0 hf)
set_option maxHeartbeats 4000000 in
set_option maxRecDepth 100000 in
theorem tX3_heavyOf_4 {S : ev_S} {fu : Nat} {r : Int32 × ev_D} {F : ev_Fr} (hR : ev_R RX3 cX3_heavyOf 4 1 0 0 false (some .int) S r F) (hT : ev_Ty S) (hC : sC S ≤ 0 ∧ sA S ≤ 0) : ∀ (n : Nat) (l0 : Nat) (l1 : Int32) (l2 : Int32) (l3 : Int32) (D : ev_D), sK S l0 = 6 → fX3_heavyOf_4 (sL S) (sE S) fu n l0 l1 l2 l3 D = some r → F S D 4 [some (.ref l0), some (.int l1), some (.int l2), some (.int l3)] [] := by
  have hX := hR.X
  intro n
  induction n with
  | zero =>
    intro l0 l1 l2 l3 D hl0 hf
    rw [fX3_heavyOf_4] at hf
    cases hf
  | succ n ih =>
    intro l0 l1 l2 l3 D hl0 hf
    rw [fX3_heavyOf_4] at hf
    refine ev_blk hX lkok_RX3 [(.iload_n 3, 1, 0, 0, 0), (.bipush 8, 2, 0, 0, 8)] (by decide +kernel) (g := true) (lv' := [some (.ref l0), some (.int l1), some (.int l2), some (.int l3)]) (st' := [.int (8 : Int32), .int l3]) (D' := D) (pc' := 7) rfl (rfl) rfl ?_
    refine ev_ic_ge hX (off := 29) 36 (by decide +kernel) (by decide) (fun h1 => ?_) (fun h1 => ?_)
    · have hf := ev_it h1 hf
      refine ev_blk hX lkok_RX3 [(.iload_n 2, 1, 0, 0, 0)] (by decide +kernel) (g := true) (lv' := [some (.ref l0), some (.int l1), some (.int l2), some (.int l3)]) (st' := [.int l2]) (D' := D) (pc' := 37) rfl (rfl) rfl ?_
      exact ev_iret hR ev_sm.rf (Option.some.inj hf) hC (by decide +kernel)
    · have hf := ev_nf h1 hf
      refine ev_blk hX lkok_RX3 [(.iload_n 1, 1, 0, 0, 0), (.iload_n 3, 1, 0, 0, 0)] (by decide +kernel) (g := true) (lv' := [some (.ref l0), some (.int l1), some (.int l2), some (.int l3)]) (st' := [.int l3, .int l1]) (D' := D) (pc' := 12) rfl (rfl) rfl ?_
      obtain ⟨v2, D2, hc2, hf⟩ := ev_bd_s hf
      refine ev_callSN hX YX11_isIn ml_RX3_64 (mX11_isIn hT  hc2) (vs := [.int l1, .int l3]) (st := []) (by decide) rfl rfl (by decide +kernel) hC ?_
      show F S D2 15 [some (.ref l0), some (.int l1), some (.int l2), some (.int l3)] [.int v2]
      refine ev_if_eq hX (off := 15) 30 (by decide +kernel) (by decide) (fun h3 => ?_) (fun h3 => ?_)
      · have hf := ev_it h3 hf
        refine ev_blk hX lkok_RX3 [(.iinc 3 1, 3, 0, 0, 1)] (by decide +kernel) (g := true) (lv' := [some (.ref l0), some (.int l1), some (.int l2), some (.int (l3 + (1 : Int32)))]) (st' := []) (D' := D2) (pc' := 33) rfl (rfl) rfl ?_
        refine ev_goto hX (off := (-29)) 4 (by decide +kernel) (by decide) ?_
        exact ev_weak hX (ev_le_eq (ev_le_eq (ev_le_eq (ev_le_eq ev_le_nil)))) (ih _ _ _ _ _ hl0 hf)
      · have hf := ev_nf h3 hf
        obtain ⟨hg4, hf⟩ := ev_gd_s hf
        refine ev_blk hX lkok_RX3 [(.iload_n 2, 1, 0, 0, 0), (.aload_n 0, 1, 0, 0, 0), (.getfield 33, 3, 3, 0, 0), (.getfield 148, 3, 9, 7, 0), (.iload_n 3, 1, 0, 0, 0), (.iaload, 1, 0, 0, 0), (.iadd, 1, 0, 0, 0), (.istore_n 2, 1, 0, 0, 0), (.iinc 3 1, 3, 0, 0, 1)] (by decide +kernel) (g := (sK S l0 == 6) && ((sK S ((sE S) l0 0) == 12) && ((sK S ((sE S) ((sE S) l0 0) 7) == 1 && ev_in l3 ((sL S) ((sE S) ((sE S) l0 0) 7))) && (true)))) (lv' := [some (.ref l0), some (.int l1), some (.int (l2 + (D2 ((sE S) ((sE S) l0 0) 7) (l3).toNatClampNeg))), some (.int (l3 + (1 : Int32)))]) (st' := []) (D' := D2) (pc' := 33) rfl (ev_gk hl0 (ev_gk (ev_tyk hT hl0 rfl rfl) (ev_gi (ev_tyk hT (ev_tyk hT hl0 rfl rfl) rfl rfl) hg4 (rfl)))) rfl ?_
        refine ev_goto hX (off := (-29)) 4 (by decide +kernel) (by decide) ?_
        exact ev_weak hX (ev_le_eq (ev_le_eq (ev_le_eq (ev_le_eq ev_le_nil)))) (ih _ _ _ _ _ hl0 hf)
set_option maxHeartbeats 4000000 in
set_option maxRecDepth 100000 in
theorem tX3_heavyOf {S : ev_S} {fu : Nat} {r : Int32 × ev_D} {F : ev_Fr} (hR : ev_R RX3 cX3_heavyOf 4 1 0 0 false (some .int) S r F) (hT : ev_Ty S) (hC : sC S ≤ 0 ∧ sA S ≤ 0) {l0 : Nat} {l1 : Int32} {D : ev_D} (hl0 : sK S l0 = 6) (hf : fX3_heavyOf (sL S) (sE S) fu l0 l1 D = some r) : F S D 0 [some (.ref l0), some (.int l1), none, none] [] := by
  have hX := hR.X
  unfold fX3_heavyOf at hf
  refine ev_blk hX lkok_RX3 [(.iconst 0, 1, 0, 0, 0), (.istore_n 2, 1, 0, 0, 0), (.iconst 0, 1, 0, 0, 0), (.istore_n 3, 1, 0, 0, 0)] (by decide +kernel) (g := true) (lv' := [some (.ref l0), some (.int l1), some (.int (0 : Int32)), some (.int (0 : Int32))]) (st' := []) (D' := D) (pc' := 4) rfl (rfl) rfl ?_
  exact ev_weak hX (ev_le_eq (ev_le_eq (ev_le_eq (ev_le_eq ev_le_nil)))) (tX3_heavyOf_4 hR hT hC  fu _ _ _ _ _ hl0 hf)
theorem mX3_heavyOf {S : ev_S} {fu : Nat} {r : Int32 × ev_D} (hT : ev_Ty S) {l0 : Nat} {l1 : Int32} {D : ev_D} (hl0 : sK S l0 = 6) (hf : fX3_heavyOf (sL S) (sE S) fu l0 l1 D = some r) : ev_M 1 0 0 yX3_heavyOf cX3_heavyOf 4 (some .int) [.ref l0, .int l1] S D S r :=
  ev_met (ini := false) (plainFor_of_name (by decide)) (fun h => by cases h) rfl (Nat.le_of_ble_eq_true rfl) (fun F hR => tX3_heavyOf (S := ev_z S) hR hT ⟨Nat.le_refl 0, Nat.le_refl 0⟩ hl0 hf)
set_option maxHeartbeats 4000000 in
set_option maxRecDepth 100000 in
theorem tX3_borne_64 {S : ev_S} {fu : Nat} {r : Int32 × ev_D} {F : ev_Fr} (hR : ev_R RX3 cX3_borne 9 2 0 0 false (some .int) S r F) (hT : ev_Ty S) (hC : sC S ≤ 0 ∧ sA S ≤ 0) {k11 : Nat → Int32 → Int32 → Int32 → Int32 → Int32 → Int32 → ev_D → ev_Op} (hk11 : ∀ (l0 : Nat) (l1 : Int32) (l2 : Int32) (l3 : Int32) (l4 : Int32) (l5 : Int32) (l6 : Int32) (D : ev_D), sK S l0 = 6 → k11 l0 l1 l2 l3 l4 l5 l6 D = some r → F S D 11 [some (.ref l0), some (.int l1), some (.int l2), some (.int l3), some (.int l4), some (.int l5), some (.int l6), none, none] []) {l0 : Nat} {l1 : Int32} {l2 : Int32} {l3 : Int32} {l4 : Int32} {l6 : Int32} {l7 : Int32} {s0 : Int32} {D : ev_D} (hl0 : sK S l0 = 6) (hf : fX3_borne_64 (sL S) (sE S) fu k11 l0 l1 l2 l3 l4 l6 l7 s0 D = some r) : F S D 64 [some (.ref l0), some (.int l1), some (.int l2), some (.int l3), some (.int l4), none, some (.int l6), some (.int l7), none] [.int s0] := by
  have hX := hR.X
  unfold fX3_borne_64 at hf
  refine ev_blk hX lkok_RX3 [(.istore 5, 2, 0, 0, 0), (.iload 7, 2, 0, 0, 0), (.iload_n 3, 1, 0, 0, 0)] (by decide +kernel) (g := true) (lv' := [some (.ref l0), some (.int l1), some (.int l2), some (.int l3), some (.int l4), some (.int s0), some (.int l6), some (.int l7), none]) (st' := [.int l3, .int l7]) (D' := D) (pc' := 69) rfl (rfl) rfl ?_
  refine ev_ic_le hX (off := 7) 76 (by decide +kernel) (by decide) (fun h1 => ?_) (fun h1 => ?_)
  · have hf := ev_it h1 hf
    refine ev_blk hX lkok_RX3 [(.iload 4, 2, 0, 0, 0), (.iconst 1, 1, 0, 0, 1), (.iadd, 1, 0, 0, 0), (.istore 4, 2, 0, 0, 0), (.iload 7, 2, 0, 0, 0), (.istore_n 3, 1, 0, 0, 0), (.iinc 6 1, 3, 0, 0, 1)] (by decide +kernel) (g := true) (lv' := [some (.ref l0), some (.int l1), some (.int l2), some (.int l7), some (.int (l4 + (1 : Int32))), some (.int s0), some (.int (l6 + (1 : Int32))), some (.int l7), none]) (st' := []) (D' := D) (pc' := 88) rfl (rfl) rfl ?_
    refine ev_goto hX (off := (-77)) 11 (by decide +kernel) (by decide) ?_
    exact ev_weak hX (ev_le_eq (ev_le_eq (ev_le_eq (ev_le_eq (ev_le_eq (ev_le_eq (ev_le_eq (ev_le_no (ev_le_no ev_le_nil))))))))) (hk11 _ _ _ _ _ _ _ _ hl0 hf)
  · have hf := ev_nf h1 hf
    refine ev_blk hX lkok_RX3 [(.iconst 1, 1, 0, 0, 1)] (by decide +kernel) (g := true) (lv' := [some (.ref l0), some (.int l1), some (.int l2), some (.int l3), some (.int l4), some (.int s0), some (.int l6), some (.int l7), none]) (st' := [.int (1 : Int32)]) (D' := D) (pc' := 73) rfl (rfl) rfl ?_
    refine ev_goto hX (off := 7) 80 (by decide +kernel) (by decide) ?_
    refine ev_blk hX lkok_RX3 [(.istore 4, 2, 0, 0, 0), (.iload 7, 2, 0, 0, 0), (.istore_n 3, 1, 0, 0, 0), (.iinc 6 1, 3, 0, 0, 1)] (by decide +kernel) (g := true) (lv' := [some (.ref l0), some (.int l1), some (.int l2), some (.int l7), some (.int (1 : Int32)), some (.int s0), some (.int (l6 + (1 : Int32))), some (.int l7), none]) (st' := []) (D' := D) (pc' := 88) rfl (rfl) rfl ?_
    refine ev_goto hX (off := (-77)) 11 (by decide +kernel) (by decide) ?_
    exact ev_weak hX (ev_le_eq (ev_le_eq (ev_le_eq (ev_le_eq (ev_le_eq (ev_le_eq (ev_le_eq (ev_le_no (ev_le_no ev_le_nil))))))))) (hk11 _ _ _ _ _ _ _ _ hl0 hf)
set_option maxHeartbeats 4000000 in
set_option maxRecDepth 100000 in
theorem tX3_borne_11 {S : ev_S} {fu : Nat} {r : Int32 × ev_D} {F : ev_Fr} (hR : ev_R RX3 cX3_borne 9 2 0 0 false (some .int) S r F) (hT : ev_Ty S) (hC : sC S ≤ 0 ∧ sA S ≤ 0) : ∀ (n : Nat) (l0 : Nat) (l1 : Int32) (l2 : Int32) (l3 : Int32) (l4 : Int32) (l5 : Int32) (l6 : Int32) (D : ev_D), sK S l0 = 6 → fX3_borne_11 (sL S) (sE S) fu n l0 l1 l2 l3 l4 l5 l6 D = some r → F S D 11 [some (.ref l0), some (.int l1), some (.int l2), some (.int l3), some (.int l4), some (.int l5), some (.int l6), none, none] [] := by
  have hX := hR.X
  intro n
  induction n with
  | zero =>
    intro l0 l1 l2 l3 l4 l5 l6 D hl0 hf
    rw [fX3_borne_11] at hf
    cases hf
  | succ n ih =>
    intro l0 l1 l2 l3 l4 l5 l6 D hl0 hf
    rw [fX3_borne_11] at hf
    refine ev_blk hX lkok_RX3 [(.iload 6, 2, 0, 0, 0), (.sipush 256, 3, 0, 0, 256)] (by decide +kernel) (g := true) (lv' := [some (.ref l0), some (.int l1), some (.int l2), some (.int l3), some (.int l4), some (.int l5), some (.int l6), none, none]) (st' := [.int (256 : Int32), .int l6]) (D' := D) (pc' := 16) rfl (rfl) rfl ?_
    refine ev_ic_ge hX (off := 75) 91 (by decide +kernel) (by decide) (fun h2 => ?_) (fun h2 => ?_)
    · have hf := ev_it h2 hf
      refine ev_blk hX lkok_RX3 [(.iload_n 2, 1, 0, 0, 0)] (by decide +kernel) (g := true) (lv' := [some (.ref l0), some (.int l1), some (.int l2), some (.int l3), some (.int l4), some (.int l5), some (.int l6), none, none]) (st' := [.int l2]) (D' := D) (pc' := 92) rfl (rfl) rfl ?_
      refine ev_if_ne hX (off := 7) 99 (by decide +kernel) (by decide) (fun h3 => ?_) (fun h3 => ?_)
      · have hf := ev_nf h3 hf
        refine ev_blk hX lkok_RX3 [(.iload_n 2, 1, 0, 0, 0), (.iconst 1, 1, 0, 0, 1)] (by decide +kernel) (g := true) (lv' := [some (.ref l0), some (.int l1), some (.int l2), some (.int l3), some (.int l4), some (.int l5), some (.int l6), none, none]) (st' := [.int (1 : Int32), .int l2]) (D' := D) (pc' := 101) rfl (rfl) rfl ?_
        refine ev_ic_ne hX (off := 8) 109 (by decide +kernel) (by decide) (fun h4 => ?_) (fun h4 => ?_)
        · have hf := ev_nf h4 hf
          refine ev_blk hX lkok_RX3 [(.iload 5, 2, 0, 0, 0)] (by decide +kernel) (g := true) (lv' := [some (.ref l0), some (.int l1), some (.int l2), some (.int l3), some (.int l4), some (.int l5), some (.int l6), none, none]) (st' := [.int l5]) (D' := D) (pc' := 111) rfl (rfl) rfl ?_
          exact ev_iret hR ev_sm.rf (Option.some.inj hf) hC (by decide +kernel)
        · have hf := ev_it h4 hf
          refine ev_blk hX lkok_RX3 [(.iload 4, 2, 0, 0, 0)] (by decide +kernel) (g := true) (lv' := [some (.ref l0), some (.int l1), some (.int l2), some (.int l3), some (.int l4), some (.int l5), some (.int l6), none, none]) (st' := [.int l4]) (D' := D) (pc' := 106) rfl (rfl) rfl ?_
          refine ev_goto hX (off := 5) 111 (by decide +kernel) (by decide) ?_
          exact ev_iret hR ev_sm.rf (Option.some.inj hf) hC (by decide +kernel)
      · have hf := ev_it h3 hf
        refine ev_blk hX lkok_RX3 [(.iload_n 3, 1, 0, 0, 0)] (by decide +kernel) (g := true) (lv' := [some (.ref l0), some (.int l1), some (.int l2), some (.int l3), some (.int l4), some (.int l5), some (.int l6), none, none]) (st' := [.int l3]) (D' := D) (pc' := 96) rfl (rfl) rfl ?_
        refine ev_goto hX (off := 15) 111 (by decide +kernel) (by decide) ?_
        exact ev_iret hR ev_sm.rf (Option.some.inj hf) hC (by decide +kernel)
    · have hf := ev_nf h2 hf
      refine ev_blk hX lkok_RX3 [(.iload 6, 2, 0, 0, 0)] (by decide +kernel) (g := true) (lv' := [some (.ref l0), some (.int l1), some (.int l2), some (.int l3), some (.int l4), some (.int l5), some (.int l6), none, none]) (st' := [.int l6]) (D' := D) (pc' := 21) rfl (rfl) rfl ?_
      obtain ⟨v5, D5, hc5, hf⟩ := ev_bd_s hf
      refine ev_callS hX YJ6_bitCount ml_RX3_88 (mJ6_bitCount hT  hc5) (vs := [.int l6]) (st := []) (by decide) rfl rfl (by decide +kernel) hC ?_
      show F S D5 24 [some (.ref l0), some (.int l1), some (.int l2), some (.int l3), some (.int l4), some (.int l5), some (.int l6), none, none] [.int v5]
      refine ev_blk hX lkok_RX3 [(.istore 7, 2, 0, 0, 0), (.aload_n 0, 1, 0, 0, 0), (.iload 6, 2, 0, 0, 0)] (by decide +kernel) (g := true) (lv' := [some (.ref l0), some (.int l1), some (.int l2), some (.int l3), some (.int l4), some (.int l5), some (.int l6), some (.int v5), none]) (st' := [.int l6, .ref l0]) (D' := D5) (pc' := 29) rfl (rfl) rfl ?_
      obtain ⟨v6, D6, hc6, hf⟩ := ev_bd_s hf
      refine ev_callV hX YX3_heavyOf ml_RX3_151 (mX3_heavyOf hT hl0 hc6) (vs := [.int l6]) (st := []) (by decide) 3 hl0 rfl rfl rfl (by decide +kernel) hC ?_
      show F S D6 32 [some (.ref l0), some (.int l1), some (.int l2), some (.int l3), some (.int l4), some (.int l5), some (.int l6), some (.int v5), none] [.int v6]
      refine ev_blk hX lkok_RX3 [(.istore 8, 2, 0, 0, 0), (.iload 8, 2, 0, 0, 0), (.iload_n 1, 1, 0, 0, 0)] (by decide +kernel) (g := true) (lv' := [some (.ref l0), some (.int l1), some (.int l2), some (.int l3), some (.int l4), some (.int l5), some (.int l6), some (.int v5), some (.int v6)]) (st' := [.int l1, .int v6]) (D' := D6) (pc' := 37) rfl (rfl) rfl ?_
      refine ev_ic_gt hX (off := 48) 85 (by decide +kernel) (by decide) (fun h7 => ?_) (fun h7 => ?_)
      · have hf := ev_it h7 hf
        refine ev_blk hX lkok_RX3 [(.iinc 6 1, 3, 0, 0, 1)] (by decide +kernel) (g := true) (lv' := [some (.ref l0), some (.int l1), some (.int l2), some (.int l3), some (.int l4), some (.int l5), some (.int (l6 + (1 : Int32))), some (.int v5), some (.int v6)]) (st' := []) (D' := D6) (pc' := 88) rfl (rfl) rfl ?_
        refine ev_goto hX (off := (-77)) 11 (by decide +kernel) (by decide) ?_
        exact ev_weak hX (ev_le_eq (ev_le_eq (ev_le_eq (ev_le_eq (ev_le_eq (ev_le_eq (ev_le_eq (ev_le_no (ev_le_no ev_le_nil))))))))) (ih _ _ _ _ _ _ _ _ hl0 hf)
      · have hf := ev_nf h7 hf
        refine ev_blk hX lkok_RX3 [(.iload 7, 2, 0, 0, 0), (.iload_n 3, 1, 0, 0, 0)] (by decide +kernel) (g := true) (lv' := [some (.ref l0), some (.int l1), some (.int l2), some (.int l3), some (.int l4), some (.int l5), some (.int l6), some (.int v5), some (.int v6)]) (st' := [.int l3, .int v5]) (D' := D6) (pc' := 43) rfl (rfl) rfl ?_
        refine ev_ic_lt hX (off := 42) 85 (by decide +kernel) (by decide) (fun h8 => ?_) (fun h8 => ?_)
        · have hf := ev_it h8 hf
          refine ev_blk hX lkok_RX3 [(.iinc 6 1, 3, 0, 0, 1)] (by decide +kernel) (g := true) (lv' := [some (.ref l0), some (.int l1), some (.int l2), some (.int l3), some (.int l4), some (.int l5), some (.int (l6 + (1 : Int32))), some (.int v5), some (.int v6)]) (st' := []) (D' := D6) (pc' := 88) rfl (rfl) rfl ?_
          refine ev_goto hX (off := (-77)) 11 (by decide +kernel) (by decide) ?_
          exact ev_weak hX (ev_le_eq (ev_le_eq (ev_le_eq (ev_le_eq (ev_le_eq (ev_le_eq (ev_le_eq (ev_le_no (ev_le_no ev_le_nil))))))))) (ih _ _ _ _ _ _ _ _ hl0 hf)
        · have hf := ev_nf h8 hf
          refine ev_blk hX lkok_RX3 [(.iload 7, 2, 0, 0, 0), (.iload_n 3, 1, 0, 0, 0)] (by decide +kernel) (g := true) (lv' := [some (.ref l0), some (.int l1), some (.int l2), some (.int l3), some (.int l4), some (.int l5), some (.int l6), some (.int v5), some (.int v6)]) (st' := [.int l3, .int v5]) (D' := D6) (pc' := 49) rfl (rfl) rfl ?_
          refine ev_ic_le hX (off := 8) 57 (by decide +kernel) (by decide) (fun h9 => ?_) (fun h9 => ?_)
          · have hf := ev_it h9 hf
            refine ev_blk hX lkok_RX3 [(.iload 5, 2, 0, 0, 0), (.iload 8, 2, 0, 0, 0)] (by decide +kernel) (g := true) (lv' := [some (.ref l0), some (.int l1), some (.int l2), some (.int l3), some (.int l4), some (.int l5), some (.int l6), some (.int v5), some (.int v6)]) (st' := [.int v6, .int l5]) (D' := D6) (pc' := 61) rfl (rfl) rfl ?_
            obtain ⟨v10, D10, hc10, hf⟩ := ev_bd_s hf
            refine ev_callS hX YJ9_max ml_RX3_102 (mJ9_max hT  hc10) (vs := [.int l5, .int v6]) (st := []) (by decide) rfl rfl (by decide +kernel) hC ?_
            show F S D10 64 [some (.ref l0), some (.int l1), some (.int l2), some (.int l3), some (.int l4), some (.int l5), some (.int l6), some (.int v5), some (.int v6)] [.int v10]
            exact ev_weak hX (ev_le_eq (ev_le_eq (ev_le_eq (ev_le_eq (ev_le_eq (ev_le_no (ev_le_eq (ev_le_eq (ev_le_no ev_le_nil))))))))) (tX3_borne_64 hR hT hC ih hl0 hf)
          · have hf := ev_nf h9 hf
            refine ev_blk hX lkok_RX3 [(.iload 8, 2, 0, 0, 0)] (by decide +kernel) (g := true) (lv' := [some (.ref l0), some (.int l1), some (.int l2), some (.int l3), some (.int l4), some (.int l5), some (.int l6), some (.int v5), some (.int v6)]) (st' := [.int v6]) (D' := D6) (pc' := 54) rfl (rfl) rfl ?_
            refine ev_goto hX (off := 10) 64 (by decide +kernel) (by decide) ?_
            exact ev_weak hX (ev_le_eq (ev_le_eq (ev_le_eq (ev_le_eq (ev_le_eq (ev_le_no (ev_le_eq (ev_le_eq (ev_le_no ev_le_nil))))))))) (tX3_borne_64 hR hT hC ih hl0 hf)
set_option maxHeartbeats 4000000 in
set_option maxRecDepth 100000 in
theorem tX3_borne {S : ev_S} {fu : Nat} {r : Int32 × ev_D} {F : ev_Fr} (hR : ev_R RX3 cX3_borne 9 2 0 0 false (some .int) S r F) (hT : ev_Ty S) (hC : sC S ≤ 0 ∧ sA S ≤ 0) {l0 : Nat} {l1 : Int32} {l2 : Int32} {D : ev_D} (hl0 : sK S l0 = 6) (hf : fX3_borne (sL S) (sE S) fu l0 l1 l2 D = some r) : F S D 0 [some (.ref l0), some (.int l1), some (.int l2), none, none, none, none, none, none] [] := by
  have hX := hR.X
  unfold fX3_borne at hf
  refine ev_blk hX lkok_RX3 [(.iconst 0, 1, 0, 0, 0), (.istore_n 3, 1, 0, 0, 0), (.iconst 0, 1, 0, 0, 0), (.istore 4, 2, 0, 0, 0), (.iconst 0, 1, 0, 0, 0), (.istore 5, 2, 0, 0, 0), (.iconst 0, 1, 0, 0, 0), (.istore 6, 2, 0, 0, 0)] (by decide +kernel) (g := true) (lv' := [some (.ref l0), some (.int l1), some (.int l2), some (.int (0 : Int32)), some (.int (0 : Int32)), some (.int (0 : Int32)), some (.int (0 : Int32)), none, none]) (st' := []) (D' := D) (pc' := 11) rfl (rfl) rfl ?_
  exact ev_weak hX (ev_le_eq (ev_le_eq (ev_le_eq (ev_le_eq (ev_le_eq (ev_le_eq (ev_le_eq (ev_le_no (ev_le_no ev_le_nil))))))))) (tX3_borne_11 hR hT hC  fu _ _ _ _ _ _ _ _ hl0 hf)
theorem mX3_borne {S : ev_S} {fu : Nat} {r : Int32 × ev_D} (hT : ev_Ty S) {l0 : Nat} {l1 : Int32} {l2 : Int32} {D : ev_D} (hl0 : sK S l0 = 6) (hf : fX3_borne (sL S) (sE S) fu l0 l1 l2 D = some r) : ev_M 2 0 0 yX3_borne cX3_borne 9 (some .int) [.ref l0, .int l1, .int l2] S D S r :=
  ev_met (ini := false) (plainFor_of_name (by decide)) (fun h => by cases h) rfl (Nat.le_of_ble_eq_true rfl) (fun F hR => tX3_borne (S := ev_z S) hR hT ⟨Nat.le_refl 0, Nat.le_refl 0⟩ hl0 hf)
set_option maxHeartbeats 4000000 in
set_option maxRecDepth 100000 in
theorem tX11_bears {S : ev_S} {fu : Nat} {r : Int32 × ev_D} {F : ev_Fr} (hR : ev_R RX11 cX11_bears 3 3 0 0 false (some .int) S r F) (hT : ev_Ty S) (hC : sC S ≤ 0 ∧ sA S ≤ 0) {l0 : Nat} {l1 : Int32} {l2 : Int32} {D : ev_D} (hl0 : sK S l0 = 14) (hf : fX11_bears (sL S) (sE S) fu l0 l1 l2 D = some r) : F S D 0 [some (.ref l0), some (.int l1), some (.int l2)] [] := by
  have hX := hR.X
  unfold fX11_bears at hf
  refine ev_blk hX lkok_RX11 [(.iload_n 1, 1, 0, 0, 0), (.iconst 1, 1, 0, 0, 1), (.sipush 800, 3, 0, 0, 800)] (by decide +kernel) (g := true) (lv' := [some (.ref l0), some (.int l1), some (.int l2)]) (st' := [.int (800 : Int32), .int (1 : Int32), .int l1]) (D' := D) (pc' := 5) rfl (rfl) rfl ?_
  obtain ⟨v1, D1, hc1, hf⟩ := ev_bd_s hf
  refine ev_callS hX YX11_within ml_RX11_85 (mX11_within hT  hc1) (vs := [.int l1, .int (1 : Int32), .int (800 : Int32)]) (st := []) (by decide) rfl rfl (by decide +kernel) hC ?_
  show F S D1 8 [some (.ref l0), some (.int l1), some (.int l2)] [.int v1]
  refine ev_if_eq hX (off := 24) 32 (by decide +kernel) (by decide) (fun h2 => ?_) (fun h2 => ?_)
  · have hf := ev_it h2 hf
    refine ev_blk hX lkok_RX11 [(.iconst (-1), 1, 0, 0, (-1))] (by decide +kernel) (g := true) (lv' := [some (.ref l0), some (.int l1), some (.int l2)]) (st' := [.int (-1 : Int32)]) (D' := D1) (pc' := 33) rfl (rfl) rfl ?_
    exact ev_iret hR ev_sm.rf (Option.some.inj hf) hC (by decide +kernel)
  · have hf := ev_nf h2 hf
    refine ev_blk hX lkok_RX11 [(.iload_n 2, 1, 0, 0, 0), (.iconst 0, 1, 0, 0, 0), (.iconst 2, 1, 0, 0, 2)] (by decide +kernel) (g := true) (lv' := [some (.ref l0), some (.int l1), some (.int l2)]) (st' := [.int (2 : Int32), .int (0 : Int32), .int l2]) (D' := D1) (pc' := 14) rfl (rfl) rfl ?_
    obtain ⟨v3, D3, hc3, hf⟩ := ev_bd_s hf
    refine ev_callS hX YX11_within ml_RX11_85 (mX11_within hT  hc3) (vs := [.int l2, .int (0 : Int32), .int (2 : Int32)]) (st := []) (by decide) rfl rfl (by decide +kernel) hC ?_
    show F S D3 17 [some (.ref l0), some (.int l1), some (.int l2)] [.int v3]
    refine ev_if_eq hX (off := 15) 32 (by decide +kernel) (by decide) (fun h4 => ?_) (fun h4 => ?_)
    · have hf := ev_it h4 hf
      refine ev_blk hX lkok_RX11 [(.iconst (-1), 1, 0, 0, (-1))] (by decide +kernel) (g := true) (lv' := [some (.ref l0), some (.int l1), some (.int l2)]) (st' := [.int (-1 : Int32)]) (D' := D3) (pc' := 33) rfl (rfl) rfl ?_
      exact ev_iret hR ev_sm.rf (Option.some.inj hf) hC (by decide +kernel)
    · have hf := ev_nf h4 hf
      refine ev_blk hX lkok_RX11 [(.aload_n 0, 1, 0, 0, 0), (.getfield 71, 3, 11, 5, 0), (.iload_n 1, 1, 0, 0, 0), (.iload_n 2, 1, 0, 0, 0)] (by decide +kernel) (g := (sK S l0 == 14) && (true)) (lv' := [some (.ref l0), some (.int l1), some (.int l2)]) (st' := [.int l2, .int l1, .ref ((sE S) l0 5)]) (D' := D3) (pc' := 26) rfl (ev_gk hl0 (rfl)) rfl ?_
      obtain ⟨v5, D5, hc5, hf⟩ := ev_bd_s hf
      refine ev_callV hX YX3_borne ml_RX11_276 (mX3_borne hT (ev_tyk hT hl0 rfl rfl) hc5) (vs := [.int l1, .int l2]) (st := []) (by decide) 3 (ev_tyk hT hl0 rfl rfl) rfl rfl rfl (by decide +kernel) hC ?_
      show F S D5 29 [some (.ref l0), some (.int l1), some (.int l2)] [.int v5]
      refine ev_goto hX (off := 4) 33 (by decide +kernel) (by decide) ?_
      exact ev_iret hR ev_sm.rf (Option.some.inj hf) hC (by decide +kernel)
theorem mX11_bears {S : ev_S} {fu : Nat} {r : Int32 × ev_D} (hT : ev_Ty S) {l0 : Nat} {l1 : Int32} {l2 : Int32} {D : ev_D} (hl0 : sK S l0 = 14) (hf : fX11_bears (sL S) (sE S) fu l0 l1 l2 D = some r) : ev_M 3 0 0 yX11_bears cX11_bears 3 (some .int) [.ref l0, .int l1, .int l2] S D S r :=
  ev_met (ini := false) (plainFor_of_name (by decide)) (fun h => by cases h) rfl (Nat.le_of_ble_eq_true rfl) (fun F hR => tX11_bears (S := ev_z S) hR hT ⟨Nat.le_refl 0, Nat.le_refl 0⟩ hl0 hf)
set_option maxHeartbeats 4000000 in
set_option maxRecDepth 100000 in
theorem tX11_pigeon {S : ev_S} {fu : Nat} {r : Int32 × ev_D} {F : ev_Fr} (hR : ev_R RX11 cX11_pigeon 3 1 0 0 false (some .int) S r F) (hT : ev_Ty S) (hC : sC S ≤ 0 ∧ sA S ≤ 0) {l0 : Nat} {l1 : Int32} {D : ev_D} (hl0 : sK S l0 = 14) (hf : fX11_pigeon (sL S) (sE S) fu l0 l1 D = some r) : F S D 0 [some (.ref l0), some (.int l1), none] [] := by
  have hX := hR.X
  unfold fX11_pigeon at hf
  refine ev_blk hX lkok_RX11 [(.aload_n 0, 1, 0, 0, 0), (.getfield 10, 3, 11, 0, 0), (.getfield 64, 3, 10, 3, 0), (.getfield 279, 3, 8, 3, 0), (.astore_n 2, 1, 0, 0, 0), (.iload_n 1, 1, 0, 0, 0), (.iconst (-1), 1, 0, 0, (-1))] (by decide +kernel) (g := (sK S l0 == 14) && ((sK S ((sE S) l0 0) == 13) && ((sK S ((sE S) ((sE S) l0 0) 3) == 11) && (true)))) (lv' := [some (.ref l0), some (.int l1), some (.ref ((sE S) ((sE S) ((sE S) l0 0) 3) 3))]) (st' := [.int (-1 : Int32), .int l1]) (D' := D) (pc' := 13) rfl (ev_gk hl0 (ev_gk (ev_tyk hT hl0 rfl rfl) (ev_gk (ev_tyk hT (ev_tyk hT hl0 rfl rfl) rfl rfl) (rfl)))) rfl ?_
  refine ev_ic_ne hX (off := 8) 21 (by decide +kernel) (by decide) (fun h1 => ?_) (fun h1 => ?_)
  · have hf := ev_nf h1 hf
    refine ev_blk hX lkok_RX11 [(.iload_n 1, 1, 0, 0, 0), (.iconst 0, 1, 0, 0, 0), (.bipush 99, 2, 0, 0, 99)] (by decide +kernel) (g := true) (lv' := [some (.ref l0), some (.int l1), some (.ref ((sE S) ((sE S) ((sE S) l0 0) 3) 3))]) (st' := [.int (99 : Int32), .int (0 : Int32), .int l1]) (D' := D) (pc' := 25) rfl (rfl) rfl ?_
    obtain ⟨v2, D2, hc2, hf⟩ := ev_bd_s hf
    refine ev_callS hX YX11_within ml_RX11_85 (mX11_within hT  hc2) (vs := [.int l1, .int (0 : Int32), .int (99 : Int32)]) (st := []) (by decide) rfl rfl (by decide +kernel) hC ?_
    show F S D2 28 [some (.ref l0), some (.int l1), some (.ref ((sE S) ((sE S) ((sE S) l0 0) 3) 3))] [.int v2]
    refine ev_if_eq hX (off := 13) 41 (by decide +kernel) (by decide) (fun h3 => ?_) (fun h3 => ?_)
    · have hf := ev_it h3 hf
      refine ev_blk hX lkok_RX11 [(.iconst (-1), 1, 0, 0, (-1))] (by decide +kernel) (g := true) (lv' := [some (.ref l0), some (.int l1), some (.ref ((sE S) ((sE S) ((sE S) l0 0) 3) 3))]) (st' := [.int (-1 : Int32)]) (D' := D2) (pc' := 42) rfl (rfl) rfl ?_
      exact ev_iret hR ev_sm.rf (Option.some.inj hf) hC (by decide +kernel)
    · have hf := ev_nf h3 hf
      refine ev_blk hX lkok_RX11 [(.aload_n 2, 1, 0, 0, 0), (.iload_n 1, 1, 0, 0, 0), (.iconst 0, 1, 0, 0, 0), (.iconst 0, 1, 0, 0, 0)] (by decide +kernel) (g := true) (lv' := [some (.ref l0), some (.int l1), some (.ref ((sE S) ((sE S) ((sE S) l0 0) 3) 3))]) (st' := [.int (0 : Int32), .int (0 : Int32), .int l1, .ref ((sE S) ((sE S) ((sE S) l0 0) 3) 3)]) (D' := D2) (pc' := 35) rfl (rfl) rfl ?_
      obtain ⟨v4, D4, hc4, hf⟩ := ev_bd_s hf
      refine ev_callV hX YX6_add ml_RX11_240 (mX6_add hT (ev_tyk hT (ev_tyk hT (ev_tyk hT hl0 rfl rfl) rfl rfl) rfl rfl) hc4) (vs := [.int l1, .int (0 : Int32), .int (0 : Int32)]) (st := []) (by decide) 6 (ev_tyk hT (ev_tyk hT (ev_tyk hT hl0 rfl rfl) rfl rfl) rfl rfl) rfl rfl rfl (by decide +kernel) hC ?_
      show F S D4 38 [some (.ref l0), some (.int l1), some (.ref ((sE S) ((sE S) ((sE S) l0 0) 3) 3))] [.int v4]
      refine ev_goto hX (off := 4) 42 (by decide +kernel) (by decide) ?_
      exact ev_iret hR ev_sm.rf (Option.some.inj hf) hC (by decide +kernel)
  · have hf := ev_it h1 hf
    refine ev_blk hX lkok_RX11 [(.aload_n 2, 1, 0, 0, 0)] (by decide +kernel) (g := true) (lv' := [some (.ref l0), some (.int l1), some (.ref ((sE S) ((sE S) ((sE S) l0 0) 3) 3))]) (st' := [.ref ((sE S) ((sE S) ((sE S) l0 0) 3) 3)]) (D' := D) (pc' := 17) rfl (rfl) rfl ?_
    obtain ⟨v5, D5, hc5, hf⟩ := ev_bd_s hf
    refine ev_callV hX YX6_empty ml_RX11_234 (mX6_empty hT (ev_tyk hT (ev_tyk hT (ev_tyk hT hl0 rfl rfl) rfl rfl) rfl rfl) hc5) (vs := []) (st := []) (by decide) 6 (ev_tyk hT (ev_tyk hT (ev_tyk hT hl0 rfl rfl) rfl rfl) rfl rfl) rfl rfl rfl (by decide +kernel) hC ?_
    show F S D5 20 [some (.ref l0), some (.int l1), some (.ref ((sE S) ((sE S) ((sE S) l0 0) 3) 3))] [.int v5]
    exact ev_iret hR ev_sm.rf (Option.some.inj hf) hC (by decide +kernel)
theorem mX11_pigeon {S : ev_S} {fu : Nat} {r : Int32 × ev_D} (hT : ev_Ty S) {l0 : Nat} {l1 : Int32} {D : ev_D} (hl0 : sK S l0 = 14) (hf : fX11_pigeon (sL S) (sE S) fu l0 l1 D = some r) : ev_M 1 0 0 yX11_pigeon cX11_pigeon 3 (some .int) [.ref l0, .int l1] S D S r :=
  ev_met (ini := false) (plainFor_of_name (by decide)) (fun h => by cases h) rfl (Nat.le_of_ble_eq_true rfl) (fun F hR => tX11_pigeon (S := ev_z S) hR hT ⟨Nat.le_refl 0, Nat.le_refl 0⟩ hl0 hf)
set_option maxHeartbeats 4000000 in
set_option maxRecDepth 100000 in
theorem tX3_bestHours_32 {S : ev_S} {fu : Nat} {r : Int32 × ev_D} {F : ev_Fr} (hR : ev_R RX3 cX3_bestHours 9 1 0 0 false (some .int) S r F) (hT : ev_Ty S) (hC : sC S ≤ 0 ∧ sA S ≤ 0) {k20 : Nat → Int32 → Int32 → Int32 → Int32 → Int32 → Int32 → ev_D → ev_Op} (hk20 : ∀ (l0 : Nat) (l1 : Int32) (l2 : Int32) (l3 : Int32) (l4 : Int32) (l5 : Int32) (l6 : Int32) (D : ev_D), sK S l0 = 6 → k20 l0 l1 l2 l3 l4 l5 l6 D = some r → F S D 20 [some (.ref l0), some (.int l1), some (.int l2), some (.int l3), some (.int l4), some (.int l5), some (.int l6), none, none] []) : ∀ (n : Nat) (l0 : Nat) (l1 : Int32) (l2 : Int32) (l3 : Int32) (l4 : Int32) (l5 : Int32) (l6 : Int32) (l7 : Int32) (l8 : Int32) (D : ev_D), sK S l0 = 6 → fX3_bestHours_32 (sL S) (sE S) fu k20 n l0 l1 l2 l3 l4 l5 l6 l7 l8 D = some r → F S D 32 [some (.ref l0), some (.int l1), some (.int l2), some (.int l3), some (.int l4), some (.int l5), some (.int l6), some (.int l7), some (.int l8)] [] := by
  have hX := hR.X
  intro n
  induction n with
  | zero =>
    intro l0 l1 l2 l3 l4 l5 l6 l7 l8 D hl0 hf
    rw [fX3_bestHours_32] at hf
    cases hf
  | succ n ih =>
    intro l0 l1 l2 l3 l4 l5 l6 l7 l8 D hl0 hf
    rw [fX3_bestHours_32] at hf
    refine ev_blk hX lkok_RX3 [(.iload 8, 2, 0, 0, 0), (.iload_n 1, 1, 0, 0, 0)] (by decide +kernel) (g := true) (lv' := [some (.ref l0), some (.int l1), some (.int l2), some (.int l3), some (.int l4), some (.int l5), some (.int l6), some (.int l7), some (.int l8)]) (st' := [.int l1, .int l8]) (D' := D) (pc' := 35) rfl (rfl) rfl ?_
    refine ev_ic_ge hX (off := 32) 67 (by decide +kernel) (by decide) (fun h1 => ?_) (fun h1 => ?_)
    · have hf := ev_it h1 hf
      refine ev_blk hX lkok_RX3 [(.iload 7, 2, 0, 0, 0), (.iload 4, 2, 0, 0, 0)] (by decide +kernel) (g := true) (lv' := [some (.ref l0), some (.int l1), some (.int l2), some (.int l3), some (.int l4), some (.int l5), some (.int l6), some (.int l7), some (.int l8)]) (st' := [.int l4, .int l7]) (D' := D) (pc' := 71) rfl (rfl) rfl ?_
      refine ev_ic_le hX (off := 11) 82 (by decide +kernel) (by decide) (fun h2 => ?_) (fun h2 => ?_)
      · have hf := ev_it h2 hf
        refine ev_blk hX lkok_RX3 [(.iinc 6 1, 3, 0, 0, 1)] (by decide +kernel) (g := true) (lv' := [some (.ref l0), some (.int l1), some (.int l2), some (.int l3), some (.int l4), some (.int l5), some (.int (l6 + (1 : Int32))), some (.int l7), some (.int l8)]) (st' := []) (D' := D) (pc' := 85) rfl (rfl) rfl ?_
        refine ev_goto hX (off := (-65)) 20 (by decide +kernel) (by decide) ?_
        exact ev_weak hX (ev_le_eq (ev_le_eq (ev_le_eq (ev_le_eq (ev_le_eq (ev_le_eq (ev_le_eq (ev_le_no (ev_le_no ev_le_nil))))))))) (hk20 _ _ _ _ _ _ _ _ hl0 hf)
      · have hf := ev_nf h2 hf
        refine ev_blk hX lkok_RX3 [(.iload 7, 2, 0, 0, 0), (.istore 4, 2, 0, 0, 0), (.iload 6, 2, 0, 0, 0), (.istore 5, 2, 0, 0, 0), (.iinc 6 1, 3, 0, 0, 1)] (by decide +kernel) (g := true) (lv' := [some (.ref l0), some (.int l1), some (.int l2), some (.int l3), some (.int l7), some (.int l6), some (.int (l6 + (1 : Int32))), some (.int l7), some (.int l8)]) (st' := []) (D' := D) (pc' := 85) rfl (rfl) rfl ?_
        refine ev_goto hX (off := (-65)) 20 (by decide +kernel) (by decide) ?_
        exact ev_weak hX (ev_le_eq (ev_le_eq (ev_le_eq (ev_le_eq (ev_le_eq (ev_le_eq (ev_le_eq (ev_le_no (ev_le_no ev_le_nil))))))))) (hk20 _ _ _ _ _ _ _ _ hl0 hf)
    · have hf := ev_nf h1 hf
      obtain ⟨hg4, hf⟩ := ev_gd_s hf
      refine ev_blk hX lkok_RX3 [(.iload 7, 2, 0, 0, 0), (.aload_n 0, 1, 0, 0, 0), (.getfield 41, 3, 3, 2, 0), (.getfield 154, 3, 8, 3, 0), (.iload 6, 2, 0, 0, 0), (.iload 8, 2, 0, 0, 0), (.iadd, 1, 0, 0, 0), (.iload_n 3, 1, 0, 0, 0), (.irem, 1, 0, 0, 0), (.iconst 0, 1, 0, 0, 0)] (by decide +kernel) (g := (sK S l0 == 6) && ((sK S ((sE S) l0 2) == 11) && ((!(decide (l3 = 0))) && (true)))) (lv' := [some (.ref l0), some (.int l1), some (.int l2), some (.int l3), some (.int l4), some (.int l5), some (.int l6), some (.int l7), some (.int l8)]) (st' := [.int (0 : Int32), .int ((l6 + l8) - (l6 + l8) / l3 * l3), .ref ((sE S) ((sE S) l0 2) 3), .int l7]) (D' := D) (pc' := 55) rfl (ev_gk hl0 (ev_gk (ev_tyk hT hl0 rfl rfl) (ev_g2 hg4 (rfl)))) rfl ?_
      obtain ⟨v3, D3, hc3, hf⟩ := ev_bd_s hf
      refine ev_callV hX YX6_cell ml_RX3_61 (mX6_cell hT (ev_tyk hT (ev_tyk hT hl0 rfl rfl) rfl rfl) hc3) (vs := [.int ((l6 + l8) - (l6 + l8) / l3 * l3), .int (0 : Int32)]) (st := [.int l7]) (by decide) 6 (ev_tyk hT (ev_tyk hT hl0 rfl rfl) rfl rfl) rfl rfl rfl (by decide +kernel) hC ?_
      show F S D3 58 [some (.ref l0), some (.int l1), some (.int l2), some (.int l3), some (.int l4), some (.int l5), some (.int l6), some (.int l7), some (.int l8)] [.int v3, .int l7]
      refine ev_blk hX lkok_RX3 [(.iadd, 1, 0, 0, 0), (.istore 7, 2, 0, 0, 0), (.iinc 8 1, 3, 0, 0, 1)] (by decide +kernel) (g := true) (lv' := [some (.ref l0), some (.int l1), some (.int l2), some (.int l3), some (.int l4), some (.int l5), some (.int l6), some (.int (l7 + v3)), some (.int (l8 + (1 : Int32)))]) (st' := []) (D' := D3) (pc' := 64) rfl (rfl) rfl ?_
      refine ev_goto hX (off := (-32)) 32 (by decide +kernel) (by decide) ?_
      exact ev_weak hX (ev_le_eq (ev_le_eq (ev_le_eq (ev_le_eq (ev_le_eq (ev_le_eq (ev_le_eq (ev_le_eq (ev_le_eq ev_le_nil))))))))) (ih _ _ _ _ _ _ _ _ _ _ hl0 hf)
set_option maxHeartbeats 4000000 in
set_option maxRecDepth 100000 in
theorem tX3_bestHours_20 {S : ev_S} {fu : Nat} {r : Int32 × ev_D} {F : ev_Fr} (hR : ev_R RX3 cX3_bestHours 9 1 0 0 false (some .int) S r F) (hT : ev_Ty S) (hC : sC S ≤ 0 ∧ sA S ≤ 0) : ∀ (n : Nat) (l0 : Nat) (l1 : Int32) (l2 : Int32) (l3 : Int32) (l4 : Int32) (l5 : Int32) (l6 : Int32) (D : ev_D), sK S l0 = 6 → fX3_bestHours_20 (sL S) (sE S) fu n l0 l1 l2 l3 l4 l5 l6 D = some r → F S D 20 [some (.ref l0), some (.int l1), some (.int l2), some (.int l3), some (.int l4), some (.int l5), some (.int l6), none, none] [] := by
  have hX := hR.X
  intro n
  induction n with
  | zero =>
    intro l0 l1 l2 l3 l4 l5 l6 D hl0 hf
    rw [fX3_bestHours_20] at hf
    cases hf
  | succ n ih =>
    intro l0 l1 l2 l3 l4 l5 l6 D hl0 hf
    rw [fX3_bestHours_20] at hf
    refine ev_blk hX lkok_RX3 [(.iload 6, 2, 0, 0, 0), (.iload_n 3, 1, 0, 0, 0)] (by decide +kernel) (g := true) (lv' := [some (.ref l0), some (.int l1), some (.int l2), some (.int l3), some (.int l4), some (.int l5), some (.int l6), none, none]) (st' := [.int l3, .int l6]) (D' := D) (pc' := 23) rfl (rfl) rfl ?_
    refine ev_ic_ge hX (off := 65) 88 (by decide +kernel) (by decide) (fun h5 => ?_) (fun h5 => ?_)
    · have hf := ev_it h5 hf
      refine ev_blk hX lkok_RX3 [(.iload_n 2, 1, 0, 0, 0)] (by decide +kernel) (g := true) (lv' := [some (.ref l0), some (.int l1), some (.int l2), some (.int l3), some (.int l4), some (.int l5), some (.int l6), none, none]) (st' := [.int l2]) (D' := D) (pc' := 89) rfl (rfl) rfl ?_
      refine ev_if_ne hX (off := 8) 97 (by decide +kernel) (by decide) (fun h6 => ?_) (fun h6 => ?_)
      · have hf := ev_nf h6 hf
        refine ev_blk hX lkok_RX3 [(.iload 5, 2, 0, 0, 0)] (by decide +kernel) (g := true) (lv' := [some (.ref l0), some (.int l1), some (.int l2), some (.int l3), some (.int l4), some (.int l5), some (.int l6), none, none]) (st' := [.int l5]) (D' := D) (pc' := 99) rfl (rfl) rfl ?_
        exact ev_iret hR ev_sm.rf (Option.some.inj hf) hC (by decide +kernel)
      · have hf := ev_it h6 hf
        refine ev_blk hX lkok_RX3 [(.iload 4, 2, 0, 0, 0)] (by decide +kernel) (g := true) (lv' := [some (.ref l0), some (.int l1), some (.int l2), some (.int l3), some (.int l4), some (.int l5), some (.int l6), none, none]) (st' := [.int l4]) (D' := D) (pc' := 94) rfl (rfl) rfl ?_
        refine ev_goto hX (off := 5) 99 (by decide +kernel) (by decide) ?_
        exact ev_iret hR ev_sm.rf (Option.some.inj hf) hC (by decide +kernel)
    · have hf := ev_nf h5 hf
      refine ev_blk hX lkok_RX3 [(.iconst 0, 1, 0, 0, 0), (.istore 7, 2, 0, 0, 0), (.iconst 0, 1, 0, 0, 0), (.istore 8, 2, 0, 0, 0)] (by decide +kernel) (g := true) (lv' := [some (.ref l0), some (.int l1), some (.int l2), some (.int l3), some (.int l4), some (.int l5), some (.int l6), some (.int (0 : Int32)), some (.int (0 : Int32))]) (st' := []) (D' := D) (pc' := 32) rfl (rfl) rfl ?_
      exact ev_weak hX (ev_le_eq (ev_le_eq (ev_le_eq (ev_le_eq (ev_le_eq (ev_le_eq (ev_le_eq (ev_le_eq (ev_le_eq ev_le_nil))))))))) (tX3_bestHours_32 hR hT hC ih fu _ _ _ _ _ _ _ _ _ _ hl0 hf)
set_option maxHeartbeats 4000000 in
set_option maxRecDepth 100000 in
theorem tX3_bestHours {S : ev_S} {fu : Nat} {r : Int32 × ev_D} {F : ev_Fr} (hR : ev_R RX3 cX3_bestHours 9 1 0 0 false (some .int) S r F) (hT : ev_Ty S) (hC : sC S ≤ 0 ∧ sA S ≤ 0) {l0 : Nat} {l1 : Int32} {l2 : Int32} {D : ev_D} (hl0 : sK S l0 = 6) (hf : fX3_bestHours (sL S) (sE S) fu l0 l1 l2 D = some r) : F S D 0 [some (.ref l0), some (.int l1), some (.int l2), none, none, none, none, none, none] [] := by
  have hX := hR.X
  unfold fX3_bestHours at hf
  refine ev_blk hX lkok_RX3 [(.aload_n 0, 1, 0, 0, 0), (.getfield 41, 3, 3, 2, 0), (.getfield 154, 3, 8, 3, 0), (.getfield 55, 3, 6, 0, 0), (.istore_n 3, 1, 0, 0, 0), (.iconst (-1), 1, 0, 0, (-1)), (.istore 4, 2, 0, 0, 0), (.iconst (-1), 1, 0, 0, (-1)), (.istore 5, 2, 0, 0, 0), (.iconst 0, 1, 0, 0, 0), (.istore 6, 2, 0, 0, 0)] (by decide +kernel) (g := (sK S l0 == 6) && ((sK S ((sE S) l0 2) == 11) && ((sK S ((sE S) ((sE S) l0 2) 3) == 9) && (true)))) (lv' := [some (.ref l0), some (.int l1), some (.int l2), some (.int (D ((sE S) ((sE S) l0 2) 3) 0)), some (.int (-1 : Int32)), some (.int (-1 : Int32)), some (.int (0 : Int32)), none, none]) (st' := []) (D' := D) (pc' := 20) rfl (ev_gk hl0 (ev_gk (ev_tyk hT hl0 rfl rfl) (ev_gk (ev_tyk hT (ev_tyk hT hl0 rfl rfl) rfl rfl) (rfl)))) rfl ?_
  exact ev_weak hX (ev_le_eq (ev_le_eq (ev_le_eq (ev_le_eq (ev_le_eq (ev_le_eq (ev_le_eq (ev_le_no (ev_le_no ev_le_nil))))))))) (tX3_bestHours_20 hR hT hC  fu _ _ _ _ _ _ _ _ hl0 hf)
theorem mX3_bestHours {S : ev_S} {fu : Nat} {r : Int32 × ev_D} (hT : ev_Ty S) {l0 : Nat} {l1 : Int32} {l2 : Int32} {D : ev_D} (hl0 : sK S l0 = 6) (hf : fX3_bestHours (sL S) (sE S) fu l0 l1 l2 D = some r) : ev_M 1 0 0 yX3_bestHours cX3_bestHours 9 (some .int) [.ref l0, .int l1, .int l2] S D S r :=
  ev_met (ini := false) (plainFor_of_name (by decide)) (fun h => by cases h) rfl (Nat.le_of_ble_eq_true rfl) (fun F hR => tX3_bestHours (S := ev_z S) hR hT ⟨Nat.le_refl 0, Nat.le_refl 0⟩ hl0 hf)
set_option maxHeartbeats 4000000 in
set_option maxRecDepth 100000 in
theorem tX11_best_35 {S : ev_S} {fu : Nat} {r : Int32 × ev_D} {F : ev_Fr} (hR : ev_R RX11 cX11_best 4 2 0 0 false (some .int) S r F) (hT : ev_Ty S) (hC : sC S ≤ 0 ∧ sA S ≤ 0) {l0 : Nat} {l1 : Int32} {l2 : Int32} {s0 : Int32} {D : ev_D} (hl0 : sK S l0 = 14) (hf : fX11_best_35 (sL S) (sE S) fu l0 l1 l2 s0 D = some r) : F S D 35 [some (.ref l0), some (.int l1), some (.int l2), none] [.int s0] := by
  have hX := hR.X
  unfold fX11_best_35 at hf
  refine ev_blk hX lkok_RX11 [(.istore_n 3, 1, 0, 0, 0), (.iload_n 3, 1, 0, 0, 0)] (by decide +kernel) (g := true) (lv' := [some (.ref l0), some (.int l1), some (.int l2), some (.int s0)]) (st' := [.int s0]) (D' := D) (pc' := 37) rfl (rfl) rfl ?_
  refine ev_if_eq hX (off := 15) 52 (by decide +kernel) (by decide) (fun h1 => ?_) (fun h1 => ?_)
  · have hf := ev_it h1 hf
    refine ev_blk hX lkok_RX11 [(.iconst (-1), 1, 0, 0, (-1))] (by decide +kernel) (g := true) (lv' := [some (.ref l0), some (.int l1), some (.int l2), some (.int s0)]) (st' := [.int (-1 : Int32)]) (D' := D) (pc' := 53) rfl (rfl) rfl ?_
    exact ev_iret hR ev_sm.rf (Option.some.inj hf) hC (by decide +kernel)
  · have hf := ev_nf h1 hf
    refine ev_blk hX lkok_RX11 [(.aload_n 0, 1, 0, 0, 0), (.getfield 71, 3, 11, 5, 0), (.iload_n 1, 1, 0, 0, 0), (.iload_n 2, 1, 0, 0, 0)] (by decide +kernel) (g := (sK S l0 == 14) && (true)) (lv' := [some (.ref l0), some (.int l1), some (.int l2), some (.int s0)]) (st' := [.int l2, .int l1, .ref ((sE S) l0 5)]) (D' := D) (pc' := 46) rfl (ev_gk hl0 (rfl)) rfl ?_
    obtain ⟨v2, D2, hc2, hf⟩ := ev_bd_s hf
    refine ev_callV hX YX3_bestHours ml_RX11_285 (mX3_bestHours hT (ev_tyk hT hl0 rfl rfl) hc2) (vs := [.int l1, .int l2]) (st := []) (by decide) 3 (ev_tyk hT hl0 rfl rfl) rfl rfl rfl (by decide +kernel) hC ?_
    show F S D2 49 [some (.ref l0), some (.int l1), some (.int l2), some (.int s0)] [.int v2]
    refine ev_goto hX (off := 4) 53 (by decide +kernel) (by decide) ?_
    exact ev_iret hR ev_sm.rf (Option.some.inj hf) hC (by decide +kernel)
set_option maxHeartbeats 4000000 in
set_option maxRecDepth 100000 in
theorem tX11_best_34 {S : ev_S} {fu : Nat} {r : Int32 × ev_D} {F : ev_Fr} (hR : ev_R RX11 cX11_best 4 2 0 0 false (some .int) S r F) (hT : ev_Ty S) (hC : sC S ≤ 0 ∧ sA S ≤ 0) {l0 : Nat} {l1 : Int32} {l2 : Int32} {D : ev_D} (hl0 : sK S l0 = 14) (hf : fX11_best_34 (sL S) (sE S) fu l0 l1 l2 D = some r) : F S D 34 [some (.ref l0), some (.int l1), some (.int l2), none] [] := by
  have hX := hR.X
  unfold fX11_best_34 at hf
  refine ev_blk hX lkok_RX11 [(.iconst 0, 1, 0, 0, 0)] (by decide +kernel) (g := true) (lv' := [some (.ref l0), some (.int l1), some (.int l2), none]) (st' := [.int (0 : Int32)]) (D' := D) (pc' := 35) rfl (rfl) rfl ?_
  exact ev_weak hX (ev_le_eq (ev_le_eq (ev_le_eq (ev_le_no ev_le_nil)))) (tX11_best_35 hR hT hC  hl0 hf)
set_option maxHeartbeats 4000000 in
set_option maxRecDepth 100000 in
theorem tX11_best {S : ev_S} {fu : Nat} {r : Int32 × ev_D} {F : ev_Fr} (hR : ev_R RX11 cX11_best 4 2 0 0 false (some .int) S r F) (hT : ev_Ty S) (hC : sC S ≤ 0 ∧ sA S ≤ 0) {l0 : Nat} {l1 : Int32} {l2 : Int32} {D : ev_D} (hl0 : sK S l0 = 14) (hf : fX11_best (sL S) (sE S) fu l0 l1 l2 D = some r) : F S D 0 [some (.ref l0), some (.int l1), some (.int l2), none] [] := by
  have hX := hR.X
  unfold fX11_best at hf
  refine ev_blk hX lkok_RX11 [(.iload_n 1, 1, 0, 0, 0), (.iconst 1, 1, 0, 0, 1), (.aload_n 0, 1, 0, 0, 0), (.getfield 10, 3, 11, 0, 0), (.getfield 64, 3, 10, 3, 0), (.getfield 279, 3, 8, 3, 0), (.getfield 282, 3, 6, 0, 0)] (by decide +kernel) (g := (sK S l0 == 14) && ((sK S ((sE S) l0 0) == 13) && ((sK S ((sE S) ((sE S) l0 0) 3) == 11) && ((sK S ((sE S) ((sE S) ((sE S) l0 0) 3) 3) == 9) && (true))))) (lv' := [some (.ref l0), some (.int l1), some (.int l2), none]) (st' := [.int (D ((sE S) ((sE S) ((sE S) l0 0) 3) 3) 0), .int (1 : Int32), .int l1]) (D' := D) (pc' := 15) rfl (ev_gk hl0 (ev_gk (ev_tyk hT hl0 rfl rfl) (ev_gk (ev_tyk hT (ev_tyk hT hl0 rfl rfl) rfl rfl) (ev_gk (ev_tyk hT (ev_tyk hT (ev_tyk hT hl0 rfl rfl) rfl rfl) rfl rfl) (rfl))))) rfl ?_
  obtain ⟨v3, D3, hc3, hf⟩ := ev_bd_s hf
  refine ev_callS hX YX11_within ml_RX11_85 (mX11_within hT  hc3) (vs := [.int l1, .int (1 : Int32), .int (D ((sE S) ((sE S) ((sE S) l0 0) 3) 3) 0)]) (st := []) (by decide) rfl rfl (by decide +kernel) hC ?_
  show F S D3 18 [some (.ref l0), some (.int l1), some (.int l2), none] [.int v3]
  refine ev_if_eq hX (off := 16) 34 (by decide +kernel) (by decide) (fun h4 => ?_) (fun h4 => ?_)
  · have hf := ev_it h4 hf
    exact ev_weak hX (ev_le_eq (ev_le_eq (ev_le_eq (ev_le_no ev_le_nil)))) (tX11_best_34 hR hT hC  hl0 hf)
  · have hf := ev_nf h4 hf
    refine ev_blk hX lkok_RX11 [(.iload_n 2, 1, 0, 0, 0), (.iconst 0, 1, 0, 0, 0), (.iconst 1, 1, 0, 0, 1)] (by decide +kernel) (g := true) (lv' := [some (.ref l0), some (.int l1), some (.int l2), none]) (st' := [.int (1 : Int32), .int (0 : Int32), .int l2]) (D' := D3) (pc' := 24) rfl (rfl) rfl ?_
    obtain ⟨v5, D5, hc5, hf⟩ := ev_bd_s hf
    refine ev_callS hX YX11_within ml_RX11_85 (mX11_within hT  hc5) (vs := [.int l2, .int (0 : Int32), .int (1 : Int32)]) (st := []) (by decide) rfl rfl (by decide +kernel) hC ?_
    show F S D5 27 [some (.ref l0), some (.int l1), some (.int l2), none] [.int v5]
    refine ev_if_eq hX (off := 7) 34 (by decide +kernel) (by decide) (fun h6 => ?_) (fun h6 => ?_)
    · have hf := ev_it h6 hf
      exact ev_weak hX (ev_le_eq (ev_le_eq (ev_le_eq (ev_le_no ev_le_nil)))) (tX11_best_34 hR hT hC  hl0 hf)
    · have hf := ev_nf h6 hf
      refine ev_blk hX lkok_RX11 [(.iconst 1, 1, 0, 0, 1)] (by decide +kernel) (g := true) (lv' := [some (.ref l0), some (.int l1), some (.int l2), none]) (st' := [.int (1 : Int32)]) (D' := D5) (pc' := 31) rfl (rfl) rfl ?_
      refine ev_goto hX (off := 4) 35 (by decide +kernel) (by decide) ?_
      exact ev_weak hX (ev_le_eq (ev_le_eq (ev_le_eq (ev_le_no ev_le_nil)))) (tX11_best_35 hR hT hC  hl0 hf)
theorem mX11_best {S : ev_S} {fu : Nat} {r : Int32 × ev_D} (hT : ev_Ty S) {l0 : Nat} {l1 : Int32} {l2 : Int32} {D : ev_D} (hl0 : sK S l0 = 14) (hf : fX11_best (sL S) (sE S) fu l0 l1 l2 D = some r) : ev_M 2 0 0 yX11_best cX11_best 4 (some .int) [.ref l0, .int l1, .int l2] S D S r :=
  ev_met (ini := false) (plainFor_of_name (by decide)) (fun h => by cases h) rfl (Nat.le_of_ble_eq_true rfl) (fun F hR => tX11_best (S := ev_z S) hR hT ⟨Nat.le_refl 0, Nat.le_refl 0⟩ hl0 hf)
set_option maxHeartbeats 4000000 in
set_option maxRecDepth 100000 in
theorem tX11_stranger {S : ev_S} {fu : Nat} {r : Int32 × ev_D} {F : ev_Fr} (hR : ev_R RX11 cX11_stranger 4 1 0 0 false (some .int) S r F) (hT : ev_Ty S) (hC : sC S ≤ 0 ∧ sA S ≤ 0) {l0 : Nat} {l1 : Int32} {l2 : Int32} {D : ev_D} (hl0 : sK S l0 = 14) (hf : fX11_stranger (sL S) (sE S) fu l0 l1 l2 D = some r) : F S D 0 [some (.ref l0), some (.int l1), some (.int l2), none] [] := by
  have hX := hR.X
  unfold fX11_stranger at hf
  refine ev_blk hX lkok_RX11 [(.aload_n 0, 1, 0, 0, 0), (.getfield 10, 3, 11, 0, 0), (.getfield 64, 3, 10, 3, 0), (.getfield 288, 3, 8, 4, 0), (.astore_n 3, 1, 0, 0, 0), (.iload_n 1, 1, 0, 0, 0), (.iconst (-1), 1, 0, 0, (-1))] (by decide +kernel) (g := (sK S l0 == 14) && ((sK S ((sE S) l0 0) == 13) && ((sK S ((sE S) ((sE S) l0 0) 3) == 11) && (true)))) (lv' := [some (.ref l0), some (.int l1), some (.int l2), some (.ref ((sE S) ((sE S) ((sE S) l0 0) 3) 4))]) (st' := [.int (-1 : Int32), .int l1]) (D' := D) (pc' := 13) rfl (ev_gk hl0 (ev_gk (ev_tyk hT hl0 rfl rfl) (ev_gk (ev_tyk hT (ev_tyk hT hl0 rfl rfl) rfl rfl) (rfl)))) rfl ?_
  refine ev_ic_ne hX (off := 8) 21 (by decide +kernel) (by decide) (fun h1 => ?_) (fun h1 => ?_)
  · have hf := ev_nf h1 hf
    refine ev_blk hX lkok_RX11 [(.iload_n 1, 1, 0, 0, 0), (.iconst 0, 1, 0, 0, 0), (.bipush 9, 2, 0, 0, 9)] (by decide +kernel) (g := true) (lv' := [some (.ref l0), some (.int l1), some (.int l2), some (.ref ((sE S) ((sE S) ((sE S) l0 0) 3) 4))]) (st' := [.int (9 : Int32), .int (0 : Int32), .int l1]) (D' := D) (pc' := 25) rfl (rfl) rfl ?_
    obtain ⟨v2, D2, hc2, hf⟩ := ev_bd_s hf
    refine ev_callS hX YX11_within ml_RX11_85 (mX11_within hT  hc2) (vs := [.int l1, .int (0 : Int32), .int (9 : Int32)]) (st := []) (by decide) rfl rfl (by decide +kernel) hC ?_
    show F S D2 28 [some (.ref l0), some (.int l1), some (.int l2), some (.ref ((sE S) ((sE S) ((sE S) l0 0) 3) 4))] [.int v2]
    refine ev_if_eq hX (off := 18) 46 (by decide +kernel) (by decide) (fun h3 => ?_) (fun h3 => ?_)
    · have hf := ev_it h3 hf
      refine ev_blk hX lkok_RX11 [(.iconst (-1), 1, 0, 0, (-1))] (by decide +kernel) (g := true) (lv' := [some (.ref l0), some (.int l1), some (.int l2), some (.ref ((sE S) ((sE S) ((sE S) l0 0) 3) 4))]) (st' := [.int (-1 : Int32)]) (D' := D2) (pc' := 47) rfl (rfl) rfl ?_
      exact ev_iret hR ev_sm.rf (Option.some.inj hf) hC (by decide +kernel)
    · have hf := ev_nf h3 hf
      refine ev_blk hX lkok_RX11 [(.iload_n 2, 1, 0, 0, 0), (.iconst 0, 1, 0, 0, 0), (.bipush 9, 2, 0, 0, 9)] (by decide +kernel) (g := true) (lv' := [some (.ref l0), some (.int l1), some (.int l2), some (.ref ((sE S) ((sE S) ((sE S) l0 0) 3) 4))]) (st' := [.int (9 : Int32), .int (0 : Int32), .int l2]) (D' := D2) (pc' := 35) rfl (rfl) rfl ?_
      obtain ⟨v4, D4, hc4, hf⟩ := ev_bd_s hf
      refine ev_callS hX YX11_within ml_RX11_85 (mX11_within hT  hc4) (vs := [.int l2, .int (0 : Int32), .int (9 : Int32)]) (st := []) (by decide) rfl rfl (by decide +kernel) hC ?_
      show F S D4 38 [some (.ref l0), some (.int l1), some (.int l2), some (.ref ((sE S) ((sE S) ((sE S) l0 0) 3) 4))] [.int v4]
      refine ev_if_eq hX (off := 8) 46 (by decide +kernel) (by decide) (fun h5 => ?_) (fun h5 => ?_)
      · have hf := ev_it h5 hf
        refine ev_blk hX lkok_RX11 [(.iconst (-1), 1, 0, 0, (-1))] (by decide +kernel) (g := true) (lv' := [some (.ref l0), some (.int l1), some (.int l2), some (.ref ((sE S) ((sE S) ((sE S) l0 0) 3) 4))]) (st' := [.int (-1 : Int32)]) (D' := D4) (pc' := 47) rfl (rfl) rfl ?_
        exact ev_iret hR ev_sm.rf (Option.some.inj hf) hC (by decide +kernel)
      · have hf := ev_nf h5 hf
        refine ev_blk hX lkok_RX11 [(.iload_n 1, 1, 0, 0, 0), (.iload_n 2, 1, 0, 0, 0)] (by decide +kernel) (g := true) (lv' := [some (.ref l0), some (.int l1), some (.int l2), some (.ref ((sE S) ((sE S) ((sE S) l0 0) 3) 4))]) (st' := [.int l2, .int l1]) (D' := D4) (pc' := 43) rfl (rfl) rfl ?_
        refine ev_ic_ne hX (off := 5) 48 (by decide +kernel) (by decide) (fun h6 => ?_) (fun h6 => ?_)
        · have hf := ev_nf h6 hf
          refine ev_blk hX lkok_RX11 [(.aload_n 3, 1, 0, 0, 0), (.iload_n 1, 1, 0, 0, 0), (.iload_n 2, 1, 0, 0, 0), (.iconst 0, 1, 0, 0, 0)] (by decide +kernel) (g := true) (lv' := [some (.ref l0), some (.int l1), some (.int l2), some (.ref ((sE S) ((sE S) ((sE S) l0 0) 3) 4))]) (st' := [.int (0 : Int32), .int l2, .int l1, .ref ((sE S) ((sE S) ((sE S) l0 0) 3) 4)]) (D' := D4) (pc' := 52) rfl (rfl) rfl ?_
          obtain ⟨v7, D7, hc7, hf⟩ := ev_bd_s hf
          refine ev_callV hX YX6_add ml_RX11_240 (mX6_add hT (ev_tyk hT (ev_tyk hT (ev_tyk hT hl0 rfl rfl) rfl rfl) rfl rfl) hc7) (vs := [.int l1, .int l2, .int (0 : Int32)]) (st := []) (by decide) 6 (ev_tyk hT (ev_tyk hT (ev_tyk hT hl0 rfl rfl) rfl rfl) rfl rfl) rfl rfl rfl (by decide +kernel) hC ?_
          show F S D7 55 [some (.ref l0), some (.int l1), some (.int l2), some (.ref ((sE S) ((sE S) ((sE S) l0 0) 3) 4))] [.int v7]
          exact ev_iret hR ev_sm.rf (Option.some.inj hf) hC (by decide +kernel)
        · have hf := ev_it h6 hf
          refine ev_blk hX lkok_RX11 [(.iconst (-1), 1, 0, 0, (-1))] (by decide +kernel) (g := true) (lv' := [some (.ref l0), some (.int l1), some (.int l2), some (.ref ((sE S) ((sE S) ((sE S) l0 0) 3) 4))]) (st' := [.int (-1 : Int32)]) (D' := D4) (pc' := 47) rfl (rfl) rfl ?_
          exact ev_iret hR ev_sm.rf (Option.some.inj hf) hC (by decide +kernel)
  · have hf := ev_it h1 hf
    refine ev_blk hX lkok_RX11 [(.aload_n 3, 1, 0, 0, 0)] (by decide +kernel) (g := true) (lv' := [some (.ref l0), some (.int l1), some (.int l2), some (.ref ((sE S) ((sE S) ((sE S) l0 0) 3) 4))]) (st' := [.ref ((sE S) ((sE S) ((sE S) l0 0) 3) 4)]) (D' := D) (pc' := 17) rfl (rfl) rfl ?_
    obtain ⟨v8, D8, hc8, hf⟩ := ev_bd_s hf
    refine ev_callV hX YX6_empty ml_RX11_234 (mX6_empty hT (ev_tyk hT (ev_tyk hT (ev_tyk hT hl0 rfl rfl) rfl rfl) rfl rfl) hc8) (vs := []) (st := []) (by decide) 6 (ev_tyk hT (ev_tyk hT (ev_tyk hT hl0 rfl rfl) rfl rfl) rfl rfl) rfl rfl rfl (by decide +kernel) hC ?_
    show F S D8 20 [some (.ref l0), some (.int l1), some (.int l2), some (.ref ((sE S) ((sE S) ((sE S) l0 0) 3) 4))] [.int v8]
    exact ev_iret hR ev_sm.rf (Option.some.inj hf) hC (by decide +kernel)
theorem mX11_stranger {S : ev_S} {fu : Nat} {r : Int32 × ev_D} (hT : ev_Ty S) {l0 : Nat} {l1 : Int32} {l2 : Int32} {D : ev_D} (hl0 : sK S l0 = 14) (hf : fX11_stranger (sL S) (sE S) fu l0 l1 l2 D = some r) : ev_M 1 0 0 yX11_stranger cX11_stranger 4 (some .int) [.ref l0, .int l1, .int l2] S D S r :=
  ev_met (ini := false) (plainFor_of_name (by decide)) (fun h => by cases h) rfl (Nat.le_of_ble_eq_true rfl) (fun F hR => tX11_stranger (S := ev_z S) hR hT ⟨Nat.le_refl 0, Nat.le_refl 0⟩ hl0 hf)
set_option maxHeartbeats 4000000 in
set_option maxRecDepth 100000 in
theorem tX3_knowNext_4 {S : ev_S} {fu : Nat} {r : Int32 × ev_D} {F : ev_Fr} (hR : ev_R RX3 cX3_knowNext 4 1 0 0 false (some .int) S r F) (hT : ev_Ty S) (hC : sC S ≤ 0 ∧ sA S ≤ 0) : ∀ (n : Nat) (l0 : Nat) (l1 : Int32) (l2 : Int32) (l3 : Int32) (D : ev_D), sK S l0 = 6 → fX3_knowNext_4 (sL S) (sE S) fu n l0 l1 l2 l3 D = some r → F S D 4 [some (.ref l0), some (.int l1), some (.int l2), some (.int l3)] [] := by
  have hX := hR.X
  intro n
  induction n with
  | zero =>
    intro l0 l1 l2 l3 D hl0 hf
    rw [fX3_knowNext_4] at hf
    cases hf
  | succ n ih =>
    intro l0 l1 l2 l3 D hl0 hf
    rw [fX3_knowNext_4] at hf
    refine ev_blk hX lkok_RX3 [(.iload_n 3, 1, 0, 0, 0), (.bipush 10, 2, 0, 0, 10)] (by decide +kernel) (g := true) (lv' := [some (.ref l0), some (.int l1), some (.int l2), some (.int l3)]) (st' := [.int (10 : Int32), .int l3]) (D' := D) (pc' := 7) rfl (rfl) rfl ?_
    refine ev_ic_ge hX (off := 26) 33 (by decide +kernel) (by decide) (fun h1 => ?_) (fun h1 => ?_)
    · have hf := ev_it h1 hf
      refine ev_blk hX lkok_RX3 [(.iload_n 2, 1, 0, 0, 0)] (by decide +kernel) (g := true) (lv' := [some (.ref l0), some (.int l1), some (.int l2), some (.int l3)]) (st' := [.int l2]) (D' := D) (pc' := 34) rfl (rfl) rfl ?_
      exact ev_iret hR ev_sm.rf (Option.some.inj hf) hC (by decide +kernel)
    · have hf := ev_nf h1 hf
      refine ev_blk hX lkok_RX3 [(.iload_n 1, 1, 0, 0, 0), (.iload_n 3, 1, 0, 0, 0)] (by decide +kernel) (g := true) (lv' := [some (.ref l0), some (.int l1), some (.int l2), some (.int l3)]) (st' := [.int l3, .int l1]) (D' := D) (pc' := 12) rfl (rfl) rfl ?_
      obtain ⟨v2, D2, hc2, hf⟩ := ev_bd_s hf
      refine ev_callSN hX YX11_isIn ml_RX3_64 (mX11_isIn hT  hc2) (vs := [.int l1, .int l3]) (st := []) (by decide) rfl rfl (by decide +kernel) hC ?_
      show F S D2 15 [some (.ref l0), some (.int l1), some (.int l2), some (.int l3)] [.int v2]
      refine ev_if_eq hX (off := 12) 27 (by decide +kernel) (by decide) (fun h3 => ?_) (fun h3 => ?_)
      · have hf := ev_it h3 hf
        refine ev_blk hX lkok_RX3 [(.iinc 3 1, 3, 0, 0, 1)] (by decide +kernel) (g := true) (lv' := [some (.ref l0), some (.int l1), some (.int l2), some (.int (l3 + (1 : Int32)))]) (st' := []) (D' := D2) (pc' := 30) rfl (rfl) rfl ?_
        refine ev_goto hX (off := (-26)) 4 (by decide +kernel) (by decide) ?_
        exact ev_weak hX (ev_le_eq (ev_le_eq (ev_le_eq (ev_le_eq ev_le_nil)))) (ih _ _ _ _ _ hl0 hf)
      · have hf := ev_nf h3 hf
        obtain ⟨hg4, hf⟩ := ev_gd_s hf
        refine ev_blk hX lkok_RX3 [(.iload_n 2, 1, 0, 0, 0), (.aload_n 0, 1, 0, 0, 0), (.getfield 21, 3, 3, 6, 0), (.iload_n 3, 1, 0, 0, 0), (.iaload, 1, 0, 0, 0), (.ior, 1, 0, 0, 0), (.istore_n 2, 1, 0, 0, 0), (.iinc 3 1, 3, 0, 0, 1)] (by decide +kernel) (g := (sK S l0 == 6) && ((sK S ((sE S) l0 6) == 1 && ev_in l3 ((sL S) ((sE S) l0 6))) && (true))) (lv' := [some (.ref l0), some (.int l1), some (.int (l2 ||| (D2 ((sE S) l0 6) (l3).toNatClampNeg))), some (.int (l3 + (1 : Int32)))]) (st' := []) (D' := D2) (pc' := 30) rfl (ev_gk hl0 (ev_gi (ev_tyk hT hl0 rfl rfl) hg4 (rfl))) rfl ?_
        refine ev_goto hX (off := (-26)) 4 (by decide +kernel) (by decide) ?_
        exact ev_weak hX (ev_le_eq (ev_le_eq (ev_le_eq (ev_le_eq ev_le_nil)))) (ih _ _ _ _ _ hl0 hf)
set_option maxHeartbeats 4000000 in
set_option maxRecDepth 100000 in
theorem tX3_knowNext {S : ev_S} {fu : Nat} {r : Int32 × ev_D} {F : ev_Fr} (hR : ev_R RX3 cX3_knowNext 4 1 0 0 false (some .int) S r F) (hT : ev_Ty S) (hC : sC S ≤ 0 ∧ sA S ≤ 0) {l0 : Nat} {l1 : Int32} {D : ev_D} (hl0 : sK S l0 = 6) (hf : fX3_knowNext (sL S) (sE S) fu l0 l1 D = some r) : F S D 0 [some (.ref l0), some (.int l1), none, none] [] := by
  have hX := hR.X
  unfold fX3_knowNext at hf
  refine ev_blk hX lkok_RX3 [(.iload_n 1, 1, 0, 0, 0), (.istore_n 2, 1, 0, 0, 0), (.iconst 0, 1, 0, 0, 0), (.istore_n 3, 1, 0, 0, 0)] (by decide +kernel) (g := true) (lv' := [some (.ref l0), some (.int l1), some (.int l1), some (.int (0 : Int32))]) (st' := []) (D' := D) (pc' := 4) rfl (rfl) rfl ?_
  exact ev_weak hX (ev_le_eq (ev_le_eq (ev_le_eq (ev_le_eq ev_le_nil)))) (tX3_knowNext_4 hR hT hC  fu _ _ _ _ _ hl0 hf)
theorem mX3_knowNext {S : ev_S} {fu : Nat} {r : Int32 × ev_D} (hT : ev_Ty S) {l0 : Nat} {l1 : Int32} {D : ev_D} (hl0 : sK S l0 = 6) (hf : fX3_knowNext (sL S) (sE S) fu l0 l1 D = some r) : ev_M 1 0 0 yX3_knowNext cX3_knowNext 4 (some .int) [.ref l0, .int l1] S D S r :=
  ev_met (ini := false) (plainFor_of_name (by decide)) (fun h => by cases h) rfl (Nat.le_of_ble_eq_true rfl) (fun F hR => tX3_knowNext (S := ev_z S) hR hT ⟨Nat.le_refl 0, Nat.le_refl 0⟩ hl0 hf)
set_option maxHeartbeats 4000000 in
set_option maxRecDepth 100000 in
theorem tX3_news_22 {S : ev_S} {fu : Nat} {r : Int32 × ev_D} {F : ev_Fr} (hR : ev_R RX3 cX3_news 7 2 0 0 false (some .int) S r F) (hT : ev_Ty S) (hC : sC S ≤ 0 ∧ sA S ≤ 0) : ∀ (n : Nat) (l0 : Nat) (l2 : Int32) (l3 : Int32) (l4 : Int32) (l5 : Int32) (D : ev_D), sK S l0 = 6 → fX3_news_22 (sL S) (sE S) fu n l0 l2 l3 l4 l5 D = some r → F S D 22 [some (.ref l0), none, some (.int l2), some (.int l3), some (.int l4), some (.int l5), none] [] := by
  have hX := hR.X
  intro n
  induction n with
  | zero =>
    intro l0 l2 l3 l4 l5 D hl0 hf
    rw [fX3_news_22] at hf
    cases hf
  | succ n ih =>
    intro l0 l2 l3 l4 l5 D hl0 hf
    rw [fX3_news_22] at hf
    refine ev_blk hX lkok_RX3 [(.iload 5, 2, 0, 0, 0), (.bipush 10, 2, 0, 0, 10)] (by decide +kernel) (g := true) (lv' := [some (.ref l0), none, some (.int l2), some (.int l3), some (.int l4), some (.int l5), none]) (st' := [.int (10 : Int32), .int l5]) (D' := D) (pc' := 26) rfl (rfl) rfl ?_
    refine ev_ic_ge hX (off := 28) 54 (by decide +kernel) (by decide) (fun h1 => ?_) (fun h1 => ?_)
    · have hf := ev_it h1 hf
      refine ev_blk hX lkok_RX3 [(.iload_n 2, 1, 0, 0, 0)] (by decide +kernel) (g := true) (lv' := [some (.ref l0), none, some (.int l2), some (.int l3), some (.int l4), some (.int l5), none]) (st' := [.int l2]) (D' := D) (pc' := 55) rfl (rfl) rfl ?_
      refine ev_if_ne hX (off := 8) 63 (by decide +kernel) (by decide) (fun h2 => ?_) (fun h2 => ?_)
      · have hf := ev_nf h2 hf
        refine ev_blk hX lkok_RX3 [(.iload_n 3, 1, 0, 0, 0)] (by decide +kernel) (g := true) (lv' := [some (.ref l0), none, some (.int l2), some (.int l3), some (.int l4), some (.int l5), none]) (st' := [.int l3]) (D' := D) (pc' := 64) rfl (rfl) rfl ?_
        obtain ⟨v3, D3, hc3, hf⟩ := ev_bd_s hf
        refine ev_callS hX YJ6_bitCount ml_RX3_88 (mJ6_bitCount hT  hc3) (vs := [.int l3]) (st := []) (by decide) rfl rfl (by decide +kernel) hC ?_
        show F S D3 67 [some (.ref l0), none, some (.int l2), some (.int l3), some (.int l4), some (.int l5), none] [.int v3]
        exact ev_iret hR ev_sm.rf (Option.some.inj hf) hC (by decide +kernel)
      · have hf := ev_it h2 hf
        refine ev_blk hX lkok_RX3 [(.iload 4, 2, 0, 0, 0)] (by decide +kernel) (g := true) (lv' := [some (.ref l0), none, some (.int l2), some (.int l3), some (.int l4), some (.int l5), none]) (st' := [.int l4]) (D' := D) (pc' := 60) rfl (rfl) rfl ?_
        refine ev_goto hX (off := 7) 67 (by decide +kernel) (by decide) ?_
        exact ev_iret hR ev_sm.rf (Option.some.inj hf) hC (by decide +kernel)
    · have hf := ev_nf h1 hf
      refine ev_blk hX lkok_RX3 [(.aload_n 0, 1, 0, 0, 0), (.iload_n 3, 1, 0, 0, 0)] (by decide +kernel) (g := true) (lv' := [some (.ref l0), none, some (.int l2), some (.int l3), some (.int l4), some (.int l5), none]) (st' := [.int l3, .ref l0]) (D' := D) (pc' := 31) rfl (rfl) rfl ?_
      obtain ⟨v4, D4, hc4, hf⟩ := ev_bd_s hf
      refine ev_callV hX YX3_knowNext ml_RX3_160 (mX3_knowNext hT hl0 hc4) (vs := [.int l3]) (st := []) (by decide) 3 hl0 rfl rfl rfl (by decide +kernel) hC ?_
      show F S D4 34 [some (.ref l0), none, some (.int l2), some (.int l3), some (.int l4), some (.int l5), none] [.int v4]
      refine ev_blk hX lkok_RX3 [(.istore 6, 2, 0, 0, 0), (.iload 6, 2, 0, 0, 0), (.iload_n 3, 1, 0, 0, 0)] (by decide +kernel) (g := true) (lv' := [some (.ref l0), none, some (.int l2), some (.int l3), some (.int l4), some (.int l5), some (.int v4)]) (st' := [.int l3, .int v4]) (D' := D4) (pc' := 39) rfl (rfl) rfl ?_
      refine ev_ic_eq hX (off := 6) 45 (by decide +kernel) (by decide) (fun h5 => ?_) (fun h5 => ?_)
      · have hf := ev_it h5 hf
        refine ev_blk hX lkok_RX3 [(.iload 6, 2, 0, 0, 0), (.istore_n 3, 1, 0, 0, 0), (.iinc 5 1, 3, 0, 0, 1)] (by decide +kernel) (g := true) (lv' := [some (.ref l0), none, some (.int l2), some (.int v4), some (.int l4), some (.int (l5 + (1 : Int32))), some (.int v4)]) (st' := []) (D' := D4) (pc' := 51) rfl (rfl) rfl ?_
        refine ev_goto hX (off := (-29)) 22 (by decide +kernel) (by decide) ?_
        exact ev_weak hX (ev_le_eq (ev_le_no (ev_le_eq (ev_le_eq (ev_le_eq (ev_le_eq (ev_le_no ev_le_nil))))))) (ih _ _ _ _ _ _ hl0 hf)
      · have hf := ev_nf h5 hf
        refine ev_blk hX lkok_RX3 [(.iinc 4 1, 3, 0, 0, 1), (.iload 6, 2, 0, 0, 0), (.istore_n 3, 1, 0, 0, 0), (.iinc 5 1, 3, 0, 0, 1)] (by decide +kernel) (g := true) (lv' := [some (.ref l0), none, some (.int l2), some (.int v4), some (.int (l4 + (1 : Int32))), some (.int (l5 + (1 : Int32))), some (.int v4)]) (st' := []) (D' := D4) (pc' := 51) rfl (rfl) rfl ?_
        refine ev_goto hX (off := (-29)) 22 (by decide +kernel) (by decide) ?_
        exact ev_weak hX (ev_le_eq (ev_le_no (ev_le_eq (ev_le_eq (ev_le_eq (ev_le_eq (ev_le_no ev_le_nil))))))) (ih _ _ _ _ _ _ hl0 hf)
set_option maxHeartbeats 4000000 in
set_option maxRecDepth 100000 in
theorem tX3_news {S : ev_S} {fu : Nat} {r : Int32 × ev_D} {F : ev_Fr} (hR : ev_R RX3 cX3_news 7 2 0 0 false (some .int) S r F) (hT : ev_Ty S) (hC : sC S ≤ 0 ∧ sA S ≤ 0) {l0 : Nat} {l1 : Int32} {l2 : Int32} {D : ev_D} (hl0 : sK S l0 = 6) (hf : fX3_news (sL S) (sE S) fu l0 l1 l2 D = some r) : F S D 0 [some (.ref l0), some (.int l1), some (.int l2), none, none, none, none] [] := by
  have hX := hR.X
  unfold fX3_news at hf
  refine ev_blk hX lkok_RX3 [(.aload_n 0, 1, 0, 0, 0), (.aload_n 0, 1, 0, 0, 0), (.getfield 41, 3, 3, 2, 0), (.getfield 157, 3, 8, 4, 0), (.iconst 1, 1, 0, 0, 1)] (by decide +kernel) (g := (sK S l0 == 6) && ((sK S ((sE S) l0 2) == 11) && (true))) (lv' := [some (.ref l0), some (.int l1), some (.int l2), none, none, none, none]) (st' := [.int (1 : Int32), .ref ((sE S) ((sE S) l0 2) 4), .ref l0]) (D' := D) (pc' := 9) rfl (ev_gk hl0 (ev_gk (ev_tyk hT hl0 rfl rfl) (rfl))) rfl ?_
  obtain ⟨v6, D6, hc6, hf⟩ := ev_bd_s hf
  refine ev_callV hX YX3_fillNear ml_RX3_141 (mX3_fillNear hT hl0 (ev_tyk hT (ev_tyk hT hl0 rfl rfl) rfl rfl) hc6) (vs := [.ref ((sE S) ((sE S) l0 2) 4), .int (1 : Int32)]) (st := []) (by decide) 3 hl0 rfl rfl rfl (by decide +kernel) hC ?_
  show F S D6 12 [some (.ref l0), some (.int l1), some (.int l2), none, none, none, none] []
  refine ev_blk hX lkok_RX3 [(.iconst 1, 1, 0, 0, 1), (.iload_n 1, 1, 0, 0, 0), (.ishl, 1, 0, 0, 0), (.istore_n 3, 1, 0, 0, 0), (.iconst 0, 1, 0, 0, 0), (.istore 4, 2, 0, 0, 0), (.iconst 0, 1, 0, 0, 0), (.istore 5, 2, 0, 0, 0)] (by decide +kernel) (g := true) (lv' := [some (.ref l0), some (.int l1), some (.int l2), some (.int ((1 : Int32) <<< (l1 &&& 31))), some (.int (0 : Int32)), some (.int (0 : Int32)), none]) (st' := []) (D' := D6) (pc' := 22) rfl (rfl) rfl ?_
  exact ev_weak hX (ev_le_eq (ev_le_no (ev_le_eq (ev_le_eq (ev_le_eq (ev_le_eq (ev_le_no ev_le_nil))))))) (tX3_news_22 hR hT hC  fu _ _ _ _ _ _ hl0 hf)
theorem mX3_news {S : ev_S} {fu : Nat} {r : Int32 × ev_D} (hT : ev_Ty S) {l0 : Nat} {l1 : Int32} {l2 : Int32} {D : ev_D} (hl0 : sK S l0 = 6) (hf : fX3_news (sL S) (sE S) fu l0 l1 l2 D = some r) : ev_M 2 0 0 yX3_news cX3_news 7 (some .int) [.ref l0, .int l1, .int l2] S D S r :=
  ev_met (ini := false) (plainFor_of_name (by decide)) (fun h => by cases h) rfl (Nat.le_of_ble_eq_true rfl) (fun F hR => tX3_news (S := ev_z S) hR hT ⟨Nat.le_refl 0, Nat.le_refl 0⟩ hl0 hf)
set_option maxHeartbeats 4000000 in
set_option maxRecDepth 100000 in
theorem tJ6_lowestOneBit {S : ev_S} {fu : Nat} {r : Int32 × ev_D} {F : ev_Fr} (hR : ev_R RJ6 cJ6_lowestOneBit_0f7a4 1 0 0 0 false (some .int) S r F) (hT : ev_Ty S) (hC : sC S ≤ 0 ∧ sA S ≤ 0) {l0 : Int32} {D : ev_D}  (hf : fJ6_lowestOneBit (sL S) (sE S) fu l0 D = some r) : F S D 0 [some (.int l0)] [] := by
  have hX := hR.X
  unfold fJ6_lowestOneBit at hf
  refine ev_blk hX lkok_RJ6 [(.iload_n 0, 1, 0, 0, 0), (.iload_n 0, 1, 0, 0, 0), (.ineg, 1, 0, 0, 0), (.iand, 1, 0, 0, 0)] (by decide +kernel) (g := true) (lv' := [some (.int l0)]) (st' := [.int (l0 &&& (-l0))]) (D' := D) (pc' := 4) rfl (rfl) rfl ?_
  exact ev_iret hR ev_sm.rf (Option.some.inj hf) hC (by decide +kernel)
theorem mJ6_lowestOneBit {S : ev_S} {fu : Nat} {r : Int32 × ev_D} (hT : ev_Ty S) {l0 : Int32} {D : ev_D}  (hf : fJ6_lowestOneBit (sL S) (sE S) fu l0 D = some r) : ev_M 0 0 0 yJ6_lowestOneBit_0f7a4 cJ6_lowestOneBit_0f7a4 1 (some .int) [.int l0] S D S r :=
  ev_met (ini := false) (plainFor_of_name (by decide)) (fun h => by cases h) rfl (Nat.le_of_ble_eq_true rfl) (fun F hR => tJ6_lowestOneBit (S := ev_z S) hR hT ⟨Nat.le_refl 0, Nat.le_refl 0⟩  hf)
set_option maxHeartbeats 4000000 in
set_option maxRecDepth 100000 in
theorem tX3_knownWithout_12 {S : ev_S} {fu : Nat} {r : Int32 × ev_D} {F : ev_Fr} (hR : ev_R RX3 cX3_knownWithout 4 2 0 0 false (some .int) S r F) (hT : ev_Ty S) (hC : sC S ≤ 0 ∧ sA S ≤ 0) : ∀ (n : Nat) (l0 : Nat) (l1 : Int32) (l2 : Int32) (l3 : Int32) (D : ev_D), sK S l0 = 6 → fX3_knownWithout_12 (sL S) (sE S) fu n l0 l1 l2 l3 D = some r → F S D 12 [some (.ref l0), some (.int l1), some (.int l2), some (.int l3)] [] := by
  have hX := hR.X
  intro n
  induction n with
  | zero =>
    intro l0 l1 l2 l3 D hl0 hf
    rw [fX3_knownWithout_12] at hf
    cases hf
  | succ n ih =>
    intro l0 l1 l2 l3 D hl0 hf
    rw [fX3_knownWithout_12] at hf
    refine ev_blk hX lkok_RX3 [(.iload_n 3, 1, 0, 0, 0), (.bipush 10, 2, 0, 0, 10)] (by decide +kernel) (g := true) (lv' := [some (.ref l0), some (.int l1), some (.int l2), some (.int l3)]) (st' := [.int (10 : Int32), .int l3]) (D' := D) (pc' := 15) rfl (rfl) rfl ?_
    refine ev_ic_ge hX (off := 21) 36 (by decide +kernel) (by decide) (fun h1 => ?_) (fun h1 => ?_)
    · have hf := ev_it h1 hf
      refine ev_blk hX lkok_RX3 [(.iload_n 2, 1, 0, 0, 0)] (by decide +kernel) (g := true) (lv' := [some (.ref l0), some (.int l1), some (.int l2), some (.int l3)]) (st' := [.int l2]) (D' := D) (pc' := 37) rfl (rfl) rfl ?_
      exact ev_iret hR ev_sm.rf (Option.some.inj hf) hC (by decide +kernel)
    · have hf := ev_nf h1 hf
      refine ev_blk hX lkok_RX3 [(.aload_n 0, 1, 0, 0, 0), (.iload_n 2, 1, 0, 0, 0)] (by decide +kernel) (g := true) (lv' := [some (.ref l0), some (.int l1), some (.int l2), some (.int l3)]) (st' := [.int l2, .ref l0]) (D' := D) (pc' := 20) rfl (rfl) rfl ?_
      obtain ⟨v2, D2, hc2, hf⟩ := ev_bd_s hf
      refine ev_callV hX YX3_knowNext ml_RX3_160 (mX3_knowNext hT hl0 hc2) (vs := [.int l2]) (st := []) (by decide) 3 hl0 rfl rfl rfl (by decide +kernel) hC ?_
      show F S D2 23 [some (.ref l0), some (.int l1), some (.int l2), some (.int l3)] [.int v2]
      refine ev_blk hX lkok_RX3 [(.iconst 1, 1, 0, 0, 1), (.iload_n 1, 1, 0, 0, 0), (.ishl, 1, 0, 0, 0), (.iconst (-1), 1, 0, 0, (-1)), (.ixor, 1, 0, 0, 0), (.iand, 1, 0, 0, 0), (.istore_n 2, 1, 0, 0, 0), (.iinc 3 1, 3, 0, 0, 1)] (by decide +kernel) (g := true) (lv' := [some (.ref l0), some (.int l1), some (.int (v2 &&& (((1 : Int32) <<< (l1 &&& 31)) ^^^ (-1 : Int32)))), some (.int (l3 + (1 : Int32)))]) (st' := []) (D' := D2) (pc' := 33) rfl (rfl) rfl ?_
      refine ev_goto hX (off := (-21)) 12 (by decide +kernel) (by decide) ?_
      exact ev_weak hX (ev_le_eq (ev_le_eq (ev_le_eq (ev_le_eq ev_le_nil)))) (ih _ _ _ _ _ hl0 hf)
set_option maxHeartbeats 4000000 in
set_option maxRecDepth 100000 in
theorem tX3_knownWithout {S : ev_S} {fu : Nat} {r : Int32 × ev_D} {F : ev_Fr} (hR : ev_R RX3 cX3_knownWithout 4 2 0 0 false (some .int) S r F) (hT : ev_Ty S) (hC : sC S ≤ 0 ∧ sA S ≤ 0) {l0 : Nat} {l1 : Int32} {D : ev_D} (hl0 : sK S l0 = 6) (hf : fX3_knownWithout (sL S) (sE S) fu l0 l1 D = some r) : F S D 0 [some (.ref l0), some (.int l1), none, none] [] := by
  have hX := hR.X
  unfold fX3_knownWithout at hf
  obtain ⟨hg4, hf⟩ := ev_gd_s hf
  refine ev_blk hX lkok_RX3 [(.aload_n 0, 1, 0, 0, 0), (.getfield 21, 3, 3, 6, 0), (.iload_n 1, 1, 0, 0, 0), (.iaload, 1, 0, 0, 0)] (by decide +kernel) (g := (sK S l0 == 6) && ((sK S ((sE S) l0 6) == 1 && ev_in l1 ((sL S) ((sE S) l0 6))) && (true))) (lv' := [some (.ref l0), some (.int l1), none, none]) (st' := [.int (D ((sE S) l0 6) (l1).toNatClampNeg)]) (D' := D) (pc' := 6) rfl (ev_gk hl0 (ev_gi (ev_tyk hT hl0 rfl rfl) hg4 (rfl))) rfl ?_
  obtain ⟨v3, D3, hc3, hf⟩ := ev_bd_s hf
  refine ev_callS hX YJ6_lowestOneBit ml_RX3_166 (mJ6_lowestOneBit hT  hc3) (vs := [.int (D ((sE S) l0 6) (l1).toNatClampNeg)]) (st := []) (by decide) rfl rfl (by decide +kernel) hC ?_
  show F S D3 9 [some (.ref l0), some (.int l1), none, none] [.int v3]
  refine ev_blk hX lkok_RX3 [(.istore_n 2, 1, 0, 0, 0), (.iconst 0, 1, 0, 0, 0), (.istore_n 3, 1, 0, 0, 0)] (by decide +kernel) (g := true) (lv' := [some (.ref l0), some (.int l1), some (.int v3), some (.int (0 : Int32))]) (st' := []) (D' := D3) (pc' := 12) rfl (rfl) rfl ?_
  exact ev_weak hX (ev_le_eq (ev_le_eq (ev_le_eq (ev_le_eq ev_le_nil)))) (tX3_knownWithout_12 hR hT hC  fu _ _ _ _ _ hl0 hf)
theorem mX3_knownWithout {S : ev_S} {fu : Nat} {r : Int32 × ev_D} (hT : ev_Ty S) {l0 : Nat} {l1 : Int32} {D : ev_D} (hl0 : sK S l0 = 6) (hf : fX3_knownWithout (sL S) (sE S) fu l0 l1 D = some r) : ev_M 2 0 0 yX3_knownWithout cX3_knownWithout 4 (some .int) [.ref l0, .int l1] S D S r :=
  ev_met (ini := false) (plainFor_of_name (by decide)) (fun h => by cases h) rfl (Nat.le_of_ble_eq_true rfl) (fun F hR => tX3_knownWithout (S := ev_z S) hR hT ⟨Nat.le_refl 0, Nat.le_refl 0⟩ hl0 hf)
set_option maxHeartbeats 4000000 in
set_option maxRecDepth 100000 in
theorem tX3_splits_16 {S : ev_S} {fu : Nat} {r : Int32 × ev_D} {F : ev_Fr} (hR : ev_R RX3 cX3_splits 3 3 0 0 false (some .int) S r F) (hT : ev_Ty S) (hC : sC S ≤ 0 ∧ sA S ≤ 0) : ∀ (n : Nat) (l0 : Nat) (l1 : Int32) (l2 : Int32) (D : ev_D), sK S l0 = 6 → fX3_splits_16 (sL S) (sE S) fu n l0 l1 l2 D = some r → F S D 16 [some (.ref l0), some (.int l1), some (.int l2)] [] := by
  have hX := hR.X
  intro n
  induction n with
  | zero =>
    intro l0 l1 l2 D hl0 hf
    rw [fX3_splits_16] at hf
    cases hf
  | succ n ih =>
    intro l0 l1 l2 D hl0 hf
    rw [fX3_splits_16] at hf
    refine ev_blk hX lkok_RX3 [(.iload_n 2, 1, 0, 0, 0), (.bipush 10, 2, 0, 0, 10)] (by decide +kernel) (g := true) (lv' := [some (.ref l0), some (.int l1), some (.int l2)]) (st' := [.int (10 : Int32), .int l2]) (D' := D) (pc' := 19) rfl (rfl) rfl ?_
    refine ev_ic_ge hX (off := 41) 60 (by decide +kernel) (by decide) (fun h1 => ?_) (fun h1 => ?_)
    · have hf := ev_it h1 hf
      refine ev_blk hX lkok_RX3 [(.iload_n 1, 1, 0, 0, 0)] (by decide +kernel) (g := true) (lv' := [some (.ref l0), some (.int l1), some (.int l2)]) (st' := [.int l1]) (D' := D) (pc' := 61) rfl (rfl) rfl ?_
      exact ev_iret hR ev_sm.rf (Option.some.inj hf) hC (by decide +kernel)
    · have hf := ev_nf h1 hf
      obtain ⟨hg6, hf⟩ := ev_gd_s hf
      refine ev_blk hX lkok_RX3 [(.aload_n 0, 1, 0, 0, 0), (.getfield 21, 3, 3, 6, 0), (.iload_n 2, 1, 0, 0, 0), (.iaload, 1, 0, 0, 0)] (by decide +kernel) (g := (sK S l0 == 6) && ((sK S ((sE S) l0 6) == 1 && ev_in l2 ((sL S) ((sE S) l0 6))) && (true))) (lv' := [some (.ref l0), some (.int l1), some (.int l2)]) (st' := [.int (D ((sE S) l0 6) (l2).toNatClampNeg)]) (D' := D) (pc' := 28) rfl (ev_gk hl0 (ev_gi (ev_tyk hT hl0 rfl rfl) hg6 (rfl))) rfl ?_
      refine ev_if_eq hX (off := 26) 54 (by decide +kernel) (by decide) (fun h2 => ?_) (fun h2 => ?_)
      · have hf := ev_it h2 hf
        refine ev_blk hX lkok_RX3 [(.iinc 2 1, 3, 0, 0, 1)] (by decide +kernel) (g := true) (lv' := [some (.ref l0), some (.int l1), some (.int (l2 + (1 : Int32)))]) (st' := []) (D' := D) (pc' := 57) rfl (rfl) rfl ?_
        refine ev_goto hX (off := (-41)) 16 (by decide +kernel) (by decide) ?_
        exact ev_weak hX (ev_le_eq (ev_le_eq (ev_le_eq ev_le_nil))) (ih _ _ _ _ hl0 hf)
      · have hf := ev_nf h2 hf
        obtain ⟨hg5, hf⟩ := ev_gd_s hf
        refine ev_blk hX lkok_RX3 [(.aload_n 0, 1, 0, 0, 0), (.getfield 21, 3, 3, 6, 0), (.iload_n 2, 1, 0, 0, 0), (.iaload, 1, 0, 0, 0), (.aload_n 0, 1, 0, 0, 0), (.iload_n 2, 1, 0, 0, 0)] (by decide +kernel) (g := (sK S l0 == 6) && ((sK S ((sE S) l0 6) == 1 && ev_in l2 ((sL S) ((sE S) l0 6))) && (true))) (lv' := [some (.ref l0), some (.int l1), some (.int l2)]) (st' := [.int l2, .ref l0, .int (D ((sE S) l0 6) (l2).toNatClampNeg)]) (D' := D) (pc' := 39) rfl (ev_gk hl0 (ev_gi (ev_tyk hT hl0 rfl rfl) hg5 (rfl))) rfl ?_
        obtain ⟨v3, D3, hc3, hf⟩ := ev_bd_s hf
        refine ev_callV hX YX3_knownWithout ml_RX3_163 (mX3_knownWithout hT hl0 hc3) (vs := [.int l2]) (st := [.int (D ((sE S) l0 6) (l2).toNatClampNeg)]) (by decide) 3 hl0 rfl rfl rfl (by decide +kernel) hC ?_
        show F S D3 42 [some (.ref l0), some (.int l1), some (.int l2)] [.int v3, .int (D ((sE S) l0 6) (l2).toNatClampNeg)]
        refine ev_blk hX lkok_RX3 [(.iconst (-1), 1, 0, 0, (-1)), (.ixor, 1, 0, 0, 0), (.iand, 1, 0, 0, 0)] (by decide +kernel) (g := true) (lv' := [some (.ref l0), some (.int l1), some (.int l2)]) (st' := [.int ((D ((sE S) l0 6) (l2).toNatClampNeg) &&& (v3 ^^^ (-1 : Int32)))]) (D' := D3) (pc' := 45) rfl (rfl) rfl ?_
        refine ev_if_eq hX (off := 9) 54 (by decide +kernel) (by decide) (fun h4 => ?_) (fun h4 => ?_)
        · have hf := ev_it h4 hf
          refine ev_blk hX lkok_RX3 [(.iinc 2 1, 3, 0, 0, 1)] (by decide +kernel) (g := true) (lv' := [some (.ref l0), some (.int l1), some (.int (l2 + (1 : Int32)))]) (st' := []) (D' := D3) (pc' := 57) rfl (rfl) rfl ?_
          refine ev_goto hX (off := (-41)) 16 (by decide +kernel) (by decide) ?_
          exact ev_weak hX (ev_le_eq (ev_le_eq (ev_le_eq ev_le_nil))) (ih _ _ _ _ hl0 hf)
        · have hf := ev_nf h4 hf
          refine ev_blk hX lkok_RX3 [(.iload_n 1, 1, 0, 0, 0), (.iconst 1, 1, 0, 0, 1), (.iload_n 2, 1, 0, 0, 0), (.ishl, 1, 0, 0, 0), (.ior, 1, 0, 0, 0), (.istore_n 1, 1, 0, 0, 0), (.iinc 2 1, 3, 0, 0, 1)] (by decide +kernel) (g := true) (lv' := [some (.ref l0), some (.int (l1 ||| ((1 : Int32) <<< (l2 &&& 31)))), some (.int (l2 + (1 : Int32)))]) (st' := []) (D' := D3) (pc' := 57) rfl (rfl) rfl ?_
          refine ev_goto hX (off := (-41)) 16 (by decide +kernel) (by decide) ?_
          exact ev_weak hX (ev_le_eq (ev_le_eq (ev_le_eq ev_le_nil))) (ih _ _ _ _ hl0 hf)
set_option maxHeartbeats 4000000 in
set_option maxRecDepth 100000 in
theorem tX3_splits {S : ev_S} {fu : Nat} {r : Int32 × ev_D} {F : ev_Fr} (hR : ev_R RX3 cX3_splits 3 3 0 0 false (some .int) S r F) (hT : ev_Ty S) (hC : sC S ≤ 0 ∧ sA S ≤ 0) {l0 : Nat} {D : ev_D} (hl0 : sK S l0 = 6) (hf : fX3_splits (sL S) (sE S) fu l0 D = some r) : F S D 0 [some (.ref l0), none, none] [] := by
  have hX := hR.X
  unfold fX3_splits at hf
  refine ev_blk hX lkok_RX3 [(.aload_n 0, 1, 0, 0, 0), (.aload_n 0, 1, 0, 0, 0), (.getfield 41, 3, 3, 2, 0), (.getfield 157, 3, 8, 4, 0), (.iconst 1, 1, 0, 0, 1)] (by decide +kernel) (g := (sK S l0 == 6) && ((sK S ((sE S) l0 2) == 11) && (true))) (lv' := [some (.ref l0), none, none]) (st' := [.int (1 : Int32), .ref ((sE S) ((sE S) l0 2) 4), .ref l0]) (D' := D) (pc' := 9) rfl (ev_gk hl0 (ev_gk (ev_tyk hT hl0 rfl rfl) (rfl))) rfl ?_
  obtain ⟨v7, D7, hc7, hf⟩ := ev_bd_s hf
  refine ev_callV hX YX3_fillNear ml_RX3_141 (mX3_fillNear hT hl0 (ev_tyk hT (ev_tyk hT hl0 rfl rfl) rfl rfl) hc7) (vs := [.ref ((sE S) ((sE S) l0 2) 4), .int (1 : Int32)]) (st := []) (by decide) 3 hl0 rfl rfl rfl (by decide +kernel) hC ?_
  show F S D7 12 [some (.ref l0), none, none] []
  refine ev_blk hX lkok_RX3 [(.iconst 0, 1, 0, 0, 0), (.istore_n 1, 1, 0, 0, 0), (.iconst 0, 1, 0, 0, 0), (.istore_n 2, 1, 0, 0, 0)] (by decide +kernel) (g := true) (lv' := [some (.ref l0), some (.int (0 : Int32)), some (.int (0 : Int32))]) (st' := []) (D' := D7) (pc' := 16) rfl (rfl) rfl ?_
  exact ev_weak hX (ev_le_eq (ev_le_eq (ev_le_eq ev_le_nil))) (tX3_splits_16 hR hT hC  fu _ _ _ _ hl0 hf)
theorem mX3_splits {S : ev_S} {fu : Nat} {r : Int32 × ev_D} (hT : ev_Ty S) {l0 : Nat} {D : ev_D} (hl0 : sK S l0 = 6) (hf : fX3_splits (sL S) (sE S) fu l0 D = some r) : ev_M 3 0 0 yX3_splits cX3_splits 3 (some .int) [.ref l0] S D S r :=
  ev_met (ini := false) (plainFor_of_name (by decide)) (fun h => by cases h) rfl (Nat.le_of_ble_eq_true rfl) (fun F hR => tX3_splits (S := ev_z S) hR hT ⟨Nat.le_refl 0, Nat.le_refl 0⟩ hl0 hf)
set_option maxHeartbeats 4000000 in
set_option maxRecDepth 100000 in
theorem tX11_heard {S : ev_S} {fu : Nat} {r : Int32 × ev_D} {F : ev_Fr} (hR : ev_R RX11 cX11_heard 3 4 0 0 false (some .int) S r F) (hT : ev_Ty S) (hC : sC S ≤ 0 ∧ sA S ≤ 0) {l0 : Nat} {l1 : Int32} {l2 : Int32} {D : ev_D} (hl0 : sK S l0 = 14) (hf : fX11_heard (sL S) (sE S) fu l0 l1 l2 D = some r) : F S D 0 [some (.ref l0), some (.int l1), some (.int l2)] [] := by
  have hX := hR.X
  unfold fX11_heard at hf
  refine ev_blk hX lkok_RX11 [(.iload_n 2, 1, 0, 0, 0), (.iconst 2, 1, 0, 0, 2)] (by decide +kernel) (g := true) (lv' := [some (.ref l0), some (.int l1), some (.int l2)]) (st' := [.int (2 : Int32), .int l2]) (D' := D) (pc' := 2) rfl (rfl) rfl ?_
  refine ev_ic_ne hX (off := 11) 13 (by decide +kernel) (by decide) (fun h1 => ?_) (fun h1 => ?_)
  · have hf := ev_nf h1 hf
    refine ev_blk hX lkok_RX11 [(.iload_n 1, 1, 0, 0, 0), (.iconst 0, 1, 0, 0, 0), (.bipush 9, 2, 0, 0, 9)] (by decide +kernel) (g := true) (lv' := [some (.ref l0), some (.int l1), some (.int l2)]) (st' := [.int (9 : Int32), .int (0 : Int32), .int l1]) (D' := D) (pc' := 17) rfl (rfl) rfl ?_
    obtain ⟨v2, D2, hc2, hf⟩ := ev_bd_s hf
    refine ev_callS hX YX11_within ml_RX11_85 (mX11_within hT  hc2) (vs := [.int l1, .int (0 : Int32), .int (9 : Int32)]) (st := []) (by decide) rfl rfl (by decide +kernel) hC ?_
    show F S D2 20 [some (.ref l0), some (.int l1), some (.int l2)] [.int v2]
    refine ev_if_eq hX (off := 12) 32 (by decide +kernel) (by decide) (fun h3 => ?_) (fun h3 => ?_)
    · have hf := ev_it h3 hf
      refine ev_blk hX lkok_RX11 [(.iconst (-1), 1, 0, 0, (-1))] (by decide +kernel) (g := true) (lv' := [some (.ref l0), some (.int l1), some (.int l2)]) (st' := [.int (-1 : Int32)]) (D' := D2) (pc' := 33) rfl (rfl) rfl ?_
      exact ev_iret hR ev_sm.rf (Option.some.inj hf) hC (by decide +kernel)
    · have hf := ev_nf h3 hf
      refine ev_blk hX lkok_RX11 [(.iload_n 2, 1, 0, 0, 0), (.iconst 0, 1, 0, 0, 0), (.iconst 1, 1, 0, 0, 1)] (by decide +kernel) (g := true) (lv' := [some (.ref l0), some (.int l1), some (.int l2)]) (st' := [.int (1 : Int32), .int (0 : Int32), .int l2]) (D' := D2) (pc' := 26) rfl (rfl) rfl ?_
      obtain ⟨v4, D4, hc4, hf⟩ := ev_bd_s hf
      refine ev_callS hX YX11_within ml_RX11_85 (mX11_within hT  hc4) (vs := [.int l2, .int (0 : Int32), .int (1 : Int32)]) (st := []) (by decide) rfl rfl (by decide +kernel) hC ?_
      show F S D4 29 [some (.ref l0), some (.int l1), some (.int l2)] [.int v4]
      refine ev_if_ne hX (off := 5) 34 (by decide +kernel) (by decide) (fun h5 => ?_) (fun h5 => ?_)
      · have hf := ev_nf h5 hf
        refine ev_blk hX lkok_RX11 [(.aload_n 0, 1, 0, 0, 0), (.getfield 71, 3, 11, 5, 0), (.iload_n 1, 1, 0, 0, 0), (.iload_n 2, 1, 0, 0, 0)] (by decide +kernel) (g := (sK S l0 == 14) && (true)) (lv' := [some (.ref l0), some (.int l1), some (.int l2)]) (st' := [.int l2, .int l1, .ref ((sE S) l0 5)]) (D' := D4) (pc' := 40) rfl (ev_gk hl0 (rfl)) rfl ?_
        obtain ⟨v6, D6, hc6, hf⟩ := ev_bd_s hf
        refine ev_callV hX YX3_news ml_RX11_294 (mX3_news hT (ev_tyk hT hl0 rfl rfl) hc6) (vs := [.int l1, .int l2]) (st := []) (by decide) 3 (ev_tyk hT hl0 rfl rfl) rfl rfl rfl (by decide +kernel) hC ?_
        show F S D6 43 [some (.ref l0), some (.int l1), some (.int l2)] [.int v6]
        exact ev_iret hR ev_sm.rf (Option.some.inj hf) hC (by decide +kernel)
      · have hf := ev_it h5 hf
        refine ev_blk hX lkok_RX11 [(.iconst (-1), 1, 0, 0, (-1))] (by decide +kernel) (g := true) (lv' := [some (.ref l0), some (.int l1), some (.int l2)]) (st' := [.int (-1 : Int32)]) (D' := D4) (pc' := 33) rfl (rfl) rfl ?_
        exact ev_iret hR ev_sm.rf (Option.some.inj hf) hC (by decide +kernel)
  · have hf := ev_it h1 hf
    refine ev_blk hX lkok_RX11 [(.aload_n 0, 1, 0, 0, 0), (.getfield 71, 3, 11, 5, 0)] (by decide +kernel) (g := (sK S l0 == 14) && (true)) (lv' := [some (.ref l0), some (.int l1), some (.int l2)]) (st' := [.ref ((sE S) l0 5)]) (D' := D) (pc' := 9) rfl (ev_gk hl0 (rfl)) rfl ?_
    obtain ⟨v7, D7, hc7, hf⟩ := ev_bd_s hf
    refine ev_callV hX YX3_splits ml_RX11_291 (mX3_splits hT (ev_tyk hT hl0 rfl rfl) hc7) (vs := []) (st := []) (by decide) 3 (ev_tyk hT hl0 rfl rfl) rfl rfl rfl (by decide +kernel) hC ?_
    show F S D7 12 [some (.ref l0), some (.int l1), some (.int l2)] [.int v7]
    exact ev_iret hR ev_sm.rf (Option.some.inj hf) hC (by decide +kernel)
theorem mX11_heard {S : ev_S} {fu : Nat} {r : Int32 × ev_D} (hT : ev_Ty S) {l0 : Nat} {l1 : Int32} {l2 : Int32} {D : ev_D} (hl0 : sK S l0 = 14) (hf : fX11_heard (sL S) (sE S) fu l0 l1 l2 D = some r) : ev_M 4 0 0 yX11_heard cX11_heard 3 (some .int) [.ref l0, .int l1, .int l2] S D S r :=
  ev_met (ini := false) (plainFor_of_name (by decide)) (fun h => by cases h) rfl (Nat.le_of_ble_eq_true rfl) (fun F hR => tX11_heard (S := ev_z S) hR hT ⟨Nat.le_refl 0, Nat.le_refl 0⟩ hl0 hf)
set_option maxHeartbeats 4000000 in
set_option maxRecDepth 100000 in
theorem tX3_weightOf {S : ev_S} {fu : Nat} {r : Int32 × ev_D} {F : ev_Fr} (hR : ev_R RX3 cX3_weightOf 2 1 0 0 false (some .int) S r F) (hT : ev_Ty S) (hC : sC S ≤ 0 ∧ sA S ≤ 0) {l0 : Nat} {l1 : Int32} {D : ev_D} (hl0 : sK S l0 = 6) (hf : fX3_weightOf (sL S) (sE S) fu l0 l1 D = some r) : F S D 0 [some (.ref l0), some (.int l1)] [] := by
  have hX := hR.X
  unfold fX3_weightOf at hf
  refine ev_blk hX lkok_RX3 [(.aload_n 0, 1, 0, 0, 0), (.getfield 33, 3, 3, 0, 0), (.iload_n 1, 1, 0, 0, 0)] (by decide +kernel) (g := (sK S l0 == 6) && (true)) (lv' := [some (.ref l0), some (.int l1)]) (st' := [.int l1, .ref ((sE S) l0 0)]) (D' := D) (pc' := 5) rfl (ev_gk hl0 (rfl)) rfl ?_
  obtain ⟨v1, D1, hc1, hf⟩ := ev_bd_s hf
  refine ev_callV hX YX9_has ml_RX3_169 (mX9_has hT (ev_tyk hT hl0 rfl rfl) hc1) (vs := [.int l1]) (st := []) (by decide) 9 (ev_tyk hT hl0 rfl rfl) rfl rfl rfl (by decide +kernel) hC ?_
  show F S D1 8 [some (.ref l0), some (.int l1)] [.int v1]
  refine ev_if_eq hX (off := 25) 33 (by decide +kernel) (by decide) (fun h2 => ?_) (fun h2 => ?_)
  · have hf := ev_it h2 hf
    refine ev_blk hX lkok_RX3 [(.iconst 0, 1, 0, 0, 0)] (by decide +kernel) (g := true) (lv' := [some (.ref l0), some (.int l1)]) (st' := [.int (0 : Int32)]) (D' := D1) (pc' := 34) rfl (rfl) rfl ?_
    exact ev_iret hR ev_sm.rf (Option.some.inj hf) hC (by decide +kernel)
  · have hf := ev_nf h2 hf
    obtain ⟨hg3, hf⟩ := ev_gd_s hf
    obtain ⟨hg4, hf⟩ := ev_gd_s hf
    refine ev_blk hX lkok_RX3 [(.aload_n 0, 1, 0, 0, 0), (.getfield 33, 3, 3, 0, 0), (.getfield 173, 3, 9, 12, 0), (.iload_n 1, 1, 0, 0, 0), (.iaload, 1, 0, 0, 0), (.aload_n 0, 1, 0, 0, 0), (.getfield 33, 3, 3, 0, 0), (.getfield 176, 3, 9, 11, 0), (.iload_n 1, 1, 0, 0, 0), (.iaload, 1, 0, 0, 0), (.iadd, 1, 0, 0, 0)] (by decide +kernel) (g := (sK S l0 == 6) && ((sK S ((sE S) l0 0) == 12) && ((sK S ((sE S) ((sE S) l0 0) 12) == 1 && ev_in l1 ((sL S) ((sE S) ((sE S) l0 0) 12))) && ((sK S l0 == 6) && ((sK S ((sE S) l0 0) == 12) && ((sK S ((sE S) ((sE S) l0 0) 11) == 1 && ev_in l1 ((sL S) ((sE S) ((sE S) l0 0) 11))) && (true))))))) (lv' := [some (.ref l0), some (.int l1)]) (st' := [.int ((D1 ((sE S) ((sE S) l0 0) 12) (l1).toNatClampNeg) + (D1 ((sE S) ((sE S) l0 0) 11) (l1).toNatClampNeg))]) (D' := D1) (pc' := 30) rfl (ev_gk hl0 (ev_gk (ev_tyk hT hl0 rfl rfl) (ev_gi (ev_tyk hT (ev_tyk hT hl0 rfl rfl) rfl rfl) hg3 (ev_gk hl0 (ev_gk (ev_tyk hT hl0 rfl rfl) (ev_gi (ev_tyk hT (ev_tyk hT hl0 rfl rfl) rfl rfl) hg4 (rfl))))))) rfl ?_
    refine ev_goto hX (off := 4) 34 (by decide +kernel) (by decide) ?_
    exact ev_iret hR ev_sm.rf (Option.some.inj hf) hC (by decide +kernel)
theorem mX3_weightOf {S : ev_S} {fu : Nat} {r : Int32 × ev_D} (hT : ev_Ty S) {l0 : Nat} {l1 : Int32} {D : ev_D} (hl0 : sK S l0 = 6) (hf : fX3_weightOf (sL S) (sE S) fu l0 l1 D = some r) : ev_M 1 0 0 yX3_weightOf cX3_weightOf 2 (some .int) [.ref l0, .int l1] S D S r :=
  ev_met (ini := false) (plainFor_of_name (by decide)) (fun h => by cases h) rfl (Nat.le_of_ble_eq_true rfl) (fun F hR => tX3_weightOf (S := ev_z S) hR hT ⟨Nat.le_refl 0, Nat.le_refl 0⟩ hl0 hf)
set_option maxHeartbeats 4000000 in
set_option maxRecDepth 100000 in
theorem tX3_turnToBeFed_4 {S : ev_S} {fu : Nat} {r : Int32 × ev_D} {F : ev_Fr} (hR : ev_R RX3 cX3_turnToBeFed 4 2 0 0 false (some .int) S r F) (hT : ev_Ty S) (hC : sC S ≤ 0 ∧ sA S ≤ 0) : ∀ (n : Nat) (l0 : Nat) (l1 : Int32) (l2 : Int32) (l3 : Int32) (D : ev_D), sK S l0 = 6 → fX3_turnToBeFed_4 (sL S) (sE S) fu n l0 l1 l2 l3 D = some r → F S D 4 [some (.ref l0), some (.int l1), some (.int l2), some (.int l3)] [] := by
  have hX := hR.X
  intro n
  induction n with
  | zero =>
    intro l0 l1 l2 l3 D hl0 hf
    rw [fX3_turnToBeFed_4] at hf
    cases hf
  | succ n ih =>
    intro l0 l1 l2 l3 D hl0 hf
    rw [fX3_turnToBeFed_4] at hf
    refine ev_blk hX lkok_RX3 [(.iload_n 3, 1, 0, 0, 0), (.aload_n 0, 1, 0, 0, 0), (.getfield 33, 3, 3, 0, 0), (.getfield 114, 3, 9, 5, 0)] (by decide +kernel) (g := (sK S l0 == 6) && ((sK S ((sE S) l0 0) == 12) && (true))) (lv' := [some (.ref l0), some (.int l1), some (.int l2), some (.int l3)]) (st' := [.int (D ((sE S) l0 0) 5), .int l3]) (D' := D) (pc' := 12) rfl (ev_gk hl0 (ev_gk (ev_tyk hT hl0 rfl rfl) (rfl))) rfl ?_
    refine ev_ic_ge hX (off := 43) 55 (by decide +kernel) (by decide) (fun h1 => ?_) (fun h1 => ?_)
    · have hf := ev_it h1 hf
      refine ev_blk hX lkok_RX3 [(.iload_n 2, 1, 0, 0, 0)] (by decide +kernel) (g := true) (lv' := [some (.ref l0), some (.int l1), some (.int l2), some (.int l3)]) (st' := [.int l2]) (D' := D) (pc' := 56) rfl (rfl) rfl ?_
      exact ev_iret hR ev_sm.rf (Option.some.inj hf) hC (by decide +kernel)
    · have hf := ev_nf h1 hf
      refine ev_blk hX lkok_RX3 [(.aload_n 0, 1, 0, 0, 0), (.iload_n 3, 1, 0, 0, 0)] (by decide +kernel) (g := true) (lv' := [some (.ref l0), some (.int l1), some (.int l2), some (.int l3)]) (st' := [.int l3, .ref l0]) (D' := D) (pc' := 17) rfl (rfl) rfl ?_
      obtain ⟨v2, D2, hc2, hf⟩ := ev_bd_s hf
      refine ev_callV hX YX3_weightOf ml_RX3_179 (mX3_weightOf hT hl0 hc2) (vs := [.int l3]) (st := []) (by decide) 3 hl0 rfl rfl rfl (by decide +kernel) hC ?_
      show F S D2 20 [some (.ref l0), some (.int l1), some (.int l2), some (.int l3)] [.int v2]
      refine ev_blk hX lkok_RX3 [(.aload_n 0, 1, 0, 0, 0), (.iload_n 1, 1, 0, 0, 0)] (by decide +kernel) (g := true) (lv' := [some (.ref l0), some (.int l1), some (.int l2), some (.int l3)]) (st' := [.int l1, .ref l0, .int v2]) (D' := D2) (pc' := 22) rfl (rfl) rfl ?_
      obtain ⟨v3, D3, hc3, hf⟩ := ev_bd_s hf
      refine ev_callV hX YX3_weightOf ml_RX3_179 (mX3_weightOf hT hl0 hc3) (vs := [.int l1]) (st := [.int v2]) (by decide) 3 hl0 rfl rfl rfl (by decide +kernel) hC ?_
      show F S D3 25 [some (.ref l0), some (.int l1), some (.int l2), some (.int l3)] [.int v3, .int v2]
      refine ev_ic_gt hX (off := 21) 46 (by decide +kernel) (by decide) (fun h4 => ?_) (fun h4 => ?_)
      · have hf := ev_it h4 hf
        refine ev_blk hX lkok_RX3 [(.iinc 2 1, 3, 0, 0, 1), (.iinc 3 1, 3, 0, 0, 1)] (by decide +kernel) (g := true) (lv' := [some (.ref l0), some (.int l1), some (.int (l2 + (1 : Int32))), some (.int (l3 + (1 : Int32)))]) (st' := []) (D' := D3) (pc' := 52) rfl (rfl) rfl ?_
        refine ev_goto hX (off := (-48)) 4 (by decide +kernel) (by decide) ?_
        exact ev_weak hX (ev_le_eq (ev_le_eq (ev_le_eq (ev_le_eq ev_le_nil)))) (ih _ _ _ _ _ hl0 hf)
      · have hf := ev_nf h4 hf
        refine ev_blk hX lkok_RX3 [(.aload_n 0, 1, 0, 0, 0), (.iload_n 3, 1, 0, 0, 0)] (by decide +kernel) (g := true) (lv' := [some (.ref l0), some (.int l1), some (.int l2), some (.int l3)]) (st' := [.int l3, .ref l0]) (D' := D3) (pc' := 30) rfl (rfl) rfl ?_
        obtain ⟨v5, D5, hc5, hf⟩ := ev_bd_s hf
        refine ev_callV hX YX3_weightOf ml_RX3_179 (mX3_weightOf hT hl0 hc5) (vs := [.int l3]) (st := []) (by decide) 3 hl0 rfl rfl rfl (by decide +kernel) hC ?_
        show F S D5 33 [some (.ref l0), some (.int l1), some (.int l2), some (.int l3)] [.int v5]
        refine ev_blk hX lkok_RX3 [(.aload_n 0, 1, 0, 0, 0), (.iload_n 1, 1, 0, 0, 0)] (by decide +kernel) (g := true) (lv' := [some (.ref l0), some (.int l1), some (.int l2), some (.int l3)]) (st' := [.int l1, .ref l0, .int v5]) (D' := D5) (pc' := 35) rfl (rfl) rfl ?_
        obtain ⟨v6, D6, hc6, hf⟩ := ev_bd_s hf
        refine ev_callV hX YX3_weightOf ml_RX3_179 (mX3_weightOf hT hl0 hc6) (vs := [.int l1]) (st := [.int v5]) (by decide) 3 hl0 rfl rfl rfl (by decide +kernel) hC ?_
        show F S D6 38 [some (.ref l0), some (.int l1), some (.int l2), some (.int l3)] [.int v6, .int v5]
        refine ev_ic_ne hX (off := 11) 49 (by decide +kernel) (by decide) (fun h7 => ?_) (fun h7 => ?_)
        · have hf := ev_nf h7 hf
          refine ev_blk hX lkok_RX3 [(.iinc 3 1, 3, 0, 0, 1)] (by decide +kernel) (g := true) (lv' := [some (.ref l0), some (.int l1), some (.int l2), some (.int (l3 + (1 : Int32)))]) (st' := []) (D' := D6) (pc' := 52) rfl (rfl) rfl ?_
          refine ev_goto hX (off := (-48)) 4 (by decide +kernel) (by decide) ?_
          exact ev_weak hX (ev_le_eq (ev_le_eq (ev_le_eq (ev_le_eq ev_le_nil)))) (ih _ _ _ _ _ hl0 hf)
        · have hf := ev_it h7 hf
          refine ev_blk hX lkok_RX3 [(.iload_n 3, 1, 0, 0, 0), (.iload_n 1, 1, 0, 0, 0)] (by decide +kernel) (g := true) (lv' := [some (.ref l0), some (.int l1), some (.int l2), some (.int l3)]) (st' := [.int l1, .int l3]) (D' := D6) (pc' := 43) rfl (rfl) rfl ?_
          refine ev_ic_ge hX (off := 6) 49 (by decide +kernel) (by decide) (fun h8 => ?_) (fun h8 => ?_)
          · have hf := ev_it h8 hf
            refine ev_blk hX lkok_RX3 [(.iinc 3 1, 3, 0, 0, 1)] (by decide +kernel) (g := true) (lv' := [some (.ref l0), some (.int l1), some (.int l2), some (.int (l3 + (1 : Int32)))]) (st' := []) (D' := D6) (pc' := 52) rfl (rfl) rfl ?_
            refine ev_goto hX (off := (-48)) 4 (by decide +kernel) (by decide) ?_
            exact ev_weak hX (ev_le_eq (ev_le_eq (ev_le_eq (ev_le_eq ev_le_nil)))) (ih _ _ _ _ _ hl0 hf)
          · have hf := ev_nf h8 hf
            refine ev_blk hX lkok_RX3 [(.iinc 2 1, 3, 0, 0, 1), (.iinc 3 1, 3, 0, 0, 1)] (by decide +kernel) (g := true) (lv' := [some (.ref l0), some (.int l1), some (.int (l2 + (1 : Int32))), some (.int (l3 + (1 : Int32)))]) (st' := []) (D' := D6) (pc' := 52) rfl (rfl) rfl ?_
            refine ev_goto hX (off := (-48)) 4 (by decide +kernel) (by decide) ?_
            exact ev_weak hX (ev_le_eq (ev_le_eq (ev_le_eq (ev_le_eq ev_le_nil)))) (ih _ _ _ _ _ hl0 hf)
set_option maxHeartbeats 4000000 in
set_option maxRecDepth 100000 in
theorem tX3_turnToBeFed {S : ev_S} {fu : Nat} {r : Int32 × ev_D} {F : ev_Fr} (hR : ev_R RX3 cX3_turnToBeFed 4 2 0 0 false (some .int) S r F) (hT : ev_Ty S) (hC : sC S ≤ 0 ∧ sA S ≤ 0) {l0 : Nat} {l1 : Int32} {D : ev_D} (hl0 : sK S l0 = 6) (hf : fX3_turnToBeFed (sL S) (sE S) fu l0 l1 D = some r) : F S D 0 [some (.ref l0), some (.int l1), none, none] [] := by
  have hX := hR.X
  unfold fX3_turnToBeFed at hf
  refine ev_blk hX lkok_RX3 [(.iconst 0, 1, 0, 0, 0), (.istore_n 2, 1, 0, 0, 0), (.iconst 0, 1, 0, 0, 0), (.istore_n 3, 1, 0, 0, 0)] (by decide +kernel) (g := true) (lv' := [some (.ref l0), some (.int l1), some (.int (0 : Int32)), some (.int (0 : Int32))]) (st' := []) (D' := D) (pc' := 4) rfl (rfl) rfl ?_
  exact ev_weak hX (ev_le_eq (ev_le_eq (ev_le_eq (ev_le_eq ev_le_nil)))) (tX3_turnToBeFed_4 hR hT hC  fu _ _ _ _ _ hl0 hf)
theorem mX3_turnToBeFed {S : ev_S} {fu : Nat} {r : Int32 × ev_D} (hT : ev_Ty S) {l0 : Nat} {l1 : Int32} {D : ev_D} (hl0 : sK S l0 = 6) (hf : fX3_turnToBeFed (sL S) (sE S) fu l0 l1 D = some r) : ev_M 2 0 0 yX3_turnToBeFed cX3_turnToBeFed 4 (some .int) [.ref l0, .int l1] S D S r :=
  ev_met (ini := false) (plainFor_of_name (by decide)) (fun h => by cases h) rfl (Nat.le_of_ble_eq_true rfl) (fun F hR => tX3_turnToBeFed (S := ev_z S) hR hT ⟨Nat.le_refl 0, Nat.le_refl 0⟩ hl0 hf)
set_option maxHeartbeats 4000000 in
set_option maxRecDepth 100000 in
theorem tX3_fedAt_2 {S : ev_S} {fu : Nat} {r : Int32 × ev_D} {F : ev_Fr} (hR : ev_R RX3 cX3_fedAt 3 3 0 0 false (some .int) S r F) (hT : ev_Ty S) (hC : sC S ≤ 0 ∧ sA S ≤ 0) : ∀ (n : Nat) (l0 : Nat) (l1 : Int32) (l2 : Int32) (D : ev_D), sK S l0 = 6 → fX3_fedAt_2 (sL S) (sE S) fu n l0 l1 l2 D = some r → F S D 2 [some (.ref l0), some (.int l1), some (.int l2)] [] := by
  have hX := hR.X
  intro n
  induction n with
  | zero =>
    intro l0 l1 l2 D hl0 hf
    rw [fX3_fedAt_2] at hf
    cases hf
  | succ n ih =>
    intro l0 l1 l2 D hl0 hf
    rw [fX3_fedAt_2] at hf
    refine ev_blk hX lkok_RX3 [(.iload_n 2, 1, 0, 0, 0), (.aload_n 0, 1, 0, 0, 0), (.getfield 33, 3, 3, 0, 0), (.getfield 114, 3, 9, 5, 0)] (by decide +kernel) (g := (sK S l0 == 6) && ((sK S ((sE S) l0 0) == 12) && (true))) (lv' := [some (.ref l0), some (.int l1), some (.int l2)]) (st' := [.int (D ((sE S) l0 0) 5), .int l2]) (D' := D) (pc' := 10) rfl (ev_gk hl0 (ev_gk (ev_tyk hT hl0 rfl rfl) (rfl))) rfl ?_
    refine ev_ic_ge hX (off := 20) 30 (by decide +kernel) (by decide) (fun h1 => ?_) (fun h1 => ?_)
    · have hf := ev_it h1 hf
      refine ev_blk hX lkok_RX3 [(.iconst (-1), 1, 0, 0, (-1))] (by decide +kernel) (g := true) (lv' := [some (.ref l0), some (.int l1), some (.int l2)]) (st' := [.int (-1 : Int32)]) (D' := D) (pc' := 31) rfl (rfl) rfl ?_
      exact ev_iret hR ev_sm.rf (Option.some.inj hf) hC (by decide +kernel)
    · have hf := ev_nf h1 hf
      refine ev_blk hX lkok_RX3 [(.aload_n 0, 1, 0, 0, 0), (.iload_n 2, 1, 0, 0, 0)] (by decide +kernel) (g := true) (lv' := [some (.ref l0), some (.int l1), some (.int l2)]) (st' := [.int l2, .ref l0]) (D' := D) (pc' := 15) rfl (rfl) rfl ?_
      obtain ⟨v2, D2, hc2, hf⟩ := ev_bd_s hf
      refine ev_callV hX YX3_turnToBeFed ml_RX3_182 (mX3_turnToBeFed hT hl0 hc2) (vs := [.int l2]) (st := []) (by decide) 3 hl0 rfl rfl rfl (by decide +kernel) hC ?_
      show F S D2 18 [some (.ref l0), some (.int l1), some (.int l2)] [.int v2]
      refine ev_blk hX lkok_RX3 [(.iload_n 1, 1, 0, 0, 0)] (by decide +kernel) (g := true) (lv' := [some (.ref l0), some (.int l1), some (.int l2)]) (st' := [.int l1, .int v2]) (D' := D2) (pc' := 19) rfl (rfl) rfl ?_
      refine ev_ic_ne hX (off := 5) 24 (by decide +kernel) (by decide) (fun h3 => ?_) (fun h3 => ?_)
      · have hf := ev_nf h3 hf
        refine ev_blk hX lkok_RX3 [(.iinc 2 1, 3, 0, 0, 1)] (by decide +kernel) (g := true) (lv' := [some (.ref l0), some (.int l1), some (.int (l2 + (1 : Int32)))]) (st' := []) (D' := D2) (pc' := 27) rfl (rfl) rfl ?_
        refine ev_goto hX (off := (-25)) 2 (by decide +kernel) (by decide) ?_
        exact ev_weak hX (ev_le_eq (ev_le_eq (ev_le_eq ev_le_nil))) (ih _ _ _ _ hl0 hf)
      · have hf := ev_it h3 hf
        refine ev_blk hX lkok_RX3 [(.iload_n 2, 1, 0, 0, 0)] (by decide +kernel) (g := true) (lv' := [some (.ref l0), some (.int l1), some (.int l2)]) (st' := [.int l2]) (D' := D2) (pc' := 23) rfl (rfl) rfl ?_
        exact ev_iret hR ev_sm.rf (Option.some.inj hf) hC (by decide +kernel)
set_option maxHeartbeats 4000000 in
set_option maxRecDepth 100000 in
theorem tX3_fedAt {S : ev_S} {fu : Nat} {r : Int32 × ev_D} {F : ev_Fr} (hR : ev_R RX3 cX3_fedAt 3 3 0 0 false (some .int) S r F) (hT : ev_Ty S) (hC : sC S ≤ 0 ∧ sA S ≤ 0) {l0 : Nat} {l1 : Int32} {D : ev_D} (hl0 : sK S l0 = 6) (hf : fX3_fedAt (sL S) (sE S) fu l0 l1 D = some r) : F S D 0 [some (.ref l0), some (.int l1), none] [] := by
  have hX := hR.X
  unfold fX3_fedAt at hf
  refine ev_blk hX lkok_RX3 [(.iconst 0, 1, 0, 0, 0), (.istore_n 2, 1, 0, 0, 0)] (by decide +kernel) (g := true) (lv' := [some (.ref l0), some (.int l1), some (.int (0 : Int32))]) (st' := []) (D' := D) (pc' := 2) rfl (rfl) rfl ?_
  exact ev_weak hX (ev_le_eq (ev_le_eq (ev_le_eq ev_le_nil))) (tX3_fedAt_2 hR hT hC  fu _ _ _ _ hl0 hf)
theorem mX3_fedAt {S : ev_S} {fu : Nat} {r : Int32 × ev_D} (hT : ev_Ty S) {l0 : Nat} {l1 : Int32} {D : ev_D} (hl0 : sK S l0 = 6) (hf : fX3_fedAt (sL S) (sE S) fu l0 l1 D = some r) : ev_M 3 0 0 yX3_fedAt cX3_fedAt 3 (some .int) [.ref l0, .int l1] S D S r :=
  ev_met (ini := false) (plainFor_of_name (by decide)) (fun h => by cases h) rfl (Nat.le_of_ble_eq_true rfl) (fun F hR => tX3_fedAt (S := ev_z S) hR hT ⟨Nat.le_refl 0, Nat.le_refl 0⟩ hl0 hf)
set_option maxHeartbeats 4000000 in
set_option maxRecDepth 100000 in
theorem tX3_feedingSum_4 {S : ev_S} {fu : Nat} {r : Int32 × ev_D} {F : ev_Fr} (hR : ev_R RX3 cX3_feedingSum 3 3 0 0 false (some .int) S r F) (hT : ev_Ty S) (hC : sC S ≤ 0 ∧ sA S ≤ 0) : ∀ (n : Nat) (l0 : Nat) (l1 : Int32) (l2 : Int32) (D : ev_D), sK S l0 = 6 → fX3_feedingSum_4 (sL S) (sE S) fu n l0 l1 l2 D = some r → F S D 4 [some (.ref l0), some (.int l1), some (.int l2)] [] := by
  have hX := hR.X
  intro n
  induction n with
  | zero =>
    intro l0 l1 l2 D hl0 hf
    rw [fX3_feedingSum_4] at hf
    cases hf
  | succ n ih =>
    intro l0 l1 l2 D hl0 hf
    rw [fX3_feedingSum_4] at hf
    refine ev_blk hX lkok_RX3 [(.iload_n 2, 1, 0, 0, 0), (.aload_n 0, 1, 0, 0, 0), (.getfield 33, 3, 3, 0, 0), (.getfield 114, 3, 9, 5, 0)] (by decide +kernel) (g := (sK S l0 == 6) && ((sK S ((sE S) l0 0) == 12) && (true))) (lv' := [some (.ref l0), some (.int l1), some (.int l2)]) (st' := [.int (D ((sE S) l0 0) 5), .int l2]) (D' := D) (pc' := 12) rfl (ev_gk hl0 (ev_gk (ev_tyk hT hl0 rfl rfl) (rfl))) rfl ?_
    refine ev_ic_ge hX (off := 25) 37 (by decide +kernel) (by decide) (fun h1 => ?_) (fun h1 => ?_)
    · have hf := ev_it h1 hf
      refine ev_blk hX lkok_RX3 [(.iload_n 1, 1, 0, 0, 0)] (by decide +kernel) (g := true) (lv' := [some (.ref l0), some (.int l1), some (.int l2)]) (st' := [.int l1]) (D' := D) (pc' := 38) rfl (rfl) rfl ?_
      exact ev_iret hR ev_sm.rf (Option.some.inj hf) hC (by decide +kernel)
    · have hf := ev_nf h1 hf
      refine ev_blk hX lkok_RX3 [(.iload_n 1, 1, 0, 0, 0), (.aload_n 0, 1, 0, 0, 0), (.iload_n 2, 1, 0, 0, 0)] (by decide +kernel) (g := true) (lv' := [some (.ref l0), some (.int l1), some (.int l2)]) (st' := [.int l2, .ref l0, .int l1]) (D' := D) (pc' := 18) rfl (rfl) rfl ?_
      obtain ⟨v2, D2, hc2, hf⟩ := ev_bd_s hf
      refine ev_callV hX YX3_weightOf ml_RX3_179 (mX3_weightOf hT hl0 hc2) (vs := [.int l2]) (st := [.int l1]) (by decide) 3 hl0 rfl rfl rfl (by decide +kernel) hC ?_
      show F S D2 21 [some (.ref l0), some (.int l1), some (.int l2)] [.int v2, .int l1]
      refine ev_blk hX lkok_RX3 [(.aload_n 0, 1, 0, 0, 0), (.iload_n 2, 1, 0, 0, 0)] (by decide +kernel) (g := true) (lv' := [some (.ref l0), some (.int l1), some (.int l2)]) (st' := [.int l2, .ref l0, .int v2, .int l1]) (D' := D2) (pc' := 23) rfl (rfl) rfl ?_
      obtain ⟨v3, D3, hc3, hf⟩ := ev_bd_s hf
      refine ev_callV hX YX3_turnToBeFed ml_RX3_182 (mX3_turnToBeFed hT hl0 hc3) (vs := [.int l2]) (st := [.int v2, .int l1]) (by decide) 3 hl0 rfl rfl rfl (by decide +kernel) hC ?_
      show F S D3 26 [some (.ref l0), some (.int l1), some (.int l2)] [.int v3, .int v2, .int l1]
      refine ev_blk hX lkok_RX3 [(.iconst 1, 1, 0, 0, 1), (.iadd, 1, 0, 0, 0), (.imul, 1, 0, 0, 0), (.iadd, 1, 0, 0, 0), (.istore_n 1, 1, 0, 0, 0), (.iinc 2 1, 3, 0, 0, 1)] (by decide +kernel) (g := true) (lv' := [some (.ref l0), some (.int (l1 + (v2 * (v3 + (1 : Int32))))), some (.int (l2 + (1 : Int32)))]) (st' := []) (D' := D3) (pc' := 34) rfl (rfl) rfl ?_
      refine ev_goto hX (off := (-30)) 4 (by decide +kernel) (by decide) ?_
      exact ev_weak hX (ev_le_eq (ev_le_eq (ev_le_eq ev_le_nil))) (ih _ _ _ _ hl0 hf)
set_option maxHeartbeats 4000000 in
set_option maxRecDepth 100000 in
theorem tX3_feedingSum {S : ev_S} {fu : Nat} {r : Int32 × ev_D} {F : ev_Fr} (hR : ev_R RX3 cX3_feedingSum 3 3 0 0 false (some .int) S r F) (hT : ev_Ty S) (hC : sC S ≤ 0 ∧ sA S ≤ 0) {l0 : Nat} {D : ev_D} (hl0 : sK S l0 = 6) (hf : fX3_feedingSum (sL S) (sE S) fu l0 D = some r) : F S D 0 [some (.ref l0), none, none] [] := by
  have hX := hR.X
  unfold fX3_feedingSum at hf
  refine ev_blk hX lkok_RX3 [(.iconst 0, 1, 0, 0, 0), (.istore_n 1, 1, 0, 0, 0), (.iconst 0, 1, 0, 0, 0), (.istore_n 2, 1, 0, 0, 0)] (by decide +kernel) (g := true) (lv' := [some (.ref l0), some (.int (0 : Int32)), some (.int (0 : Int32))]) (st' := []) (D' := D) (pc' := 4) rfl (rfl) rfl ?_
  exact ev_weak hX (ev_le_eq (ev_le_eq (ev_le_eq ev_le_nil))) (tX3_feedingSum_4 hR hT hC  fu _ _ _ _ hl0 hf)
theorem mX3_feedingSum {S : ev_S} {fu : Nat} {r : Int32 × ev_D} (hT : ev_Ty S) {l0 : Nat} {D : ev_D} (hl0 : sK S l0 = 6) (hf : fX3_feedingSum (sL S) (sE S) fu l0 D = some r) : ev_M 3 0 0 yX3_feedingSum cX3_feedingSum 3 (some .int) [.ref l0] S D S r :=
  ev_met (ini := false) (plainFor_of_name (by decide)) (fun h => by cases h) rfl (Nat.le_of_ble_eq_true rfl) (fun F hR => tX3_feedingSum (S := ev_z S) hR hT ⟨Nat.le_refl 0, Nat.le_refl 0⟩ hl0 hf)
set_option maxHeartbeats 4000000 in
set_option maxRecDepth 100000 in
theorem tX11_feeds {S : ev_S} {fu : Nat} {r : Int32 × ev_D} {F : ev_Fr} (hR : ev_R RX11 cX11_feeds 2 4 0 0 false (some .int) S r F) (hT : ev_Ty S) (hC : sC S ≤ 0 ∧ sA S ≤ 0) {l0 : Nat} {l1 : Int32} {D : ev_D} (hl0 : sK S l0 = 14) (hf : fX11_feeds (sL S) (sE S) fu l0 l1 D = some r) : F S D 0 [some (.ref l0), some (.int l1)] [] := by
  have hX := hR.X
  unfold fX11_feeds at hf
  refine ev_blk hX lkok_RX11 [(.iload_n 1, 1, 0, 0, 0)] (by decide +kernel) (g := true) (lv' := [some (.ref l0), some (.int l1)]) (st' := [.int l1]) (D' := D) (pc' := 1) rfl (rfl) rfl ?_
  refine ev_if_ne hX (off := 11) 12 (by decide +kernel) (by decide) (fun h1 => ?_) (fun h1 => ?_)
  · have hf := ev_nf h1 hf
    refine ev_blk hX lkok_RX11 [(.iload_n 1, 1, 0, 0, 0), (.bipush 10, 2, 0, 0, 10), (.bipush 9, 2, 0, 0, 9), (.aload_n 0, 1, 0, 0, 0), (.getfield 10, 3, 11, 0, 0), (.getfield 32, 3, 10, 0, 0), (.getfield 159, 3, 9, 5, 0), (.iadd, 1, 0, 0, 0)] (by decide +kernel) (g := (sK S l0 == 14) && ((sK S ((sE S) l0 0) == 13) && ((sK S ((sE S) ((sE S) l0 0) 0) == 12) && (true)))) (lv' := [some (.ref l0), some (.int l1)]) (st' := [.int ((9 : Int32) + (D ((sE S) ((sE S) l0 0) 0) 5)), .int (10 : Int32), .int l1]) (D' := D) (pc' := 28) rfl (ev_gk hl0 (ev_gk (ev_tyk hT hl0 rfl rfl) (ev_gk (ev_tyk hT (ev_tyk hT hl0 rfl rfl) rfl rfl) (rfl)))) rfl ?_
    obtain ⟨v2, D2, hc2, hf⟩ := ev_bd_s hf
    refine ev_callS hX YX11_within ml_RX11_85 (mX11_within hT  hc2) (vs := [.int l1, .int (10 : Int32), .int ((9 : Int32) + (D ((sE S) ((sE S) l0 0) 0) 5))]) (st := []) (by decide) rfl rfl (by decide +kernel) hC ?_
    show F S D2 31 [some (.ref l0), some (.int l1)] [.int v2]
    refine ev_if_eq hX (off := 17) 48 (by decide +kernel) (by decide) (fun h3 => ?_) (fun h3 => ?_)
    · have hf := ev_it h3 hf
      refine ev_blk hX lkok_RX11 [(.iconst (-1), 1, 0, 0, (-1))] (by decide +kernel) (g := true) (lv' := [some (.ref l0), some (.int l1)]) (st' := [.int (-1 : Int32)]) (D' := D2) (pc' := 49) rfl (rfl) rfl ?_
      exact ev_iret hR ev_sm.rf (Option.some.inj hf) hC (by decide +kernel)
    · have hf := ev_nf h3 hf
      refine ev_blk hX lkok_RX11 [(.aload_n 0, 1, 0, 0, 0), (.getfield 71, 3, 11, 5, 0), (.iload_n 1, 1, 0, 0, 0), (.bipush 10, 2, 0, 0, 10), (.isub, 1, 0, 0, 0)] (by decide +kernel) (g := (sK S l0 == 14) && (true)) (lv' := [some (.ref l0), some (.int l1)]) (st' := [.int (l1 - (10 : Int32)), .ref ((sE S) l0 5)]) (D' := D2) (pc' := 42) rfl (ev_gk hl0 (rfl)) rfl ?_
      obtain ⟨v4, D4, hc4, hf⟩ := ev_bd_s hf
      refine ev_callV hX YX3_fedAt ml_RX11_300 (mX3_fedAt hT (ev_tyk hT hl0 rfl rfl) hc4) (vs := [.int (l1 - (10 : Int32))]) (st := []) (by decide) 3 (ev_tyk hT hl0 rfl rfl) rfl rfl rfl (by decide +kernel) hC ?_
      show F S D4 45 [some (.ref l0), some (.int l1)] [.int v4]
      refine ev_goto hX (off := 4) 49 (by decide +kernel) (by decide) ?_
      exact ev_iret hR ev_sm.rf (Option.some.inj hf) hC (by decide +kernel)
  · have hf := ev_it h1 hf
    refine ev_blk hX lkok_RX11 [(.aload_n 0, 1, 0, 0, 0), (.getfield 71, 3, 11, 5, 0)] (by decide +kernel) (g := (sK S l0 == 14) && (true)) (lv' := [some (.ref l0), some (.int l1)]) (st' := [.ref ((sE S) l0 5)]) (D' := D) (pc' := 8) rfl (ev_gk hl0 (rfl)) rfl ?_
    obtain ⟨v5, D5, hc5, hf⟩ := ev_bd_s hf
    refine ev_callV hX YX3_feedingSum ml_RX11_297 (mX3_feedingSum hT (ev_tyk hT hl0 rfl rfl) hc5) (vs := []) (st := []) (by decide) 3 (ev_tyk hT hl0 rfl rfl) rfl rfl rfl (by decide +kernel) hC ?_
    show F S D5 11 [some (.ref l0), some (.int l1)] [.int v5]
    exact ev_iret hR ev_sm.rf (Option.some.inj hf) hC (by decide +kernel)
theorem mX11_feeds {S : ev_S} {fu : Nat} {r : Int32 × ev_D} (hT : ev_Ty S) {l0 : Nat} {l1 : Int32} {D : ev_D} (hl0 : sK S l0 = 14) (hf : fX11_feeds (sL S) (sE S) fu l0 l1 D = some r) : ev_M 4 0 0 yX11_feeds cX11_feeds 2 (some .int) [.ref l0, .int l1] S D S r :=
  ev_met (ini := false) (plainFor_of_name (by decide)) (fun h => by cases h) rfl (Nat.le_of_ble_eq_true rfl) (fun F hR => tX11_feeds (S := ev_z S) hR hT ⟨Nat.le_refl 0, Nat.le_refl 0⟩ hl0 hf)
set_option maxHeartbeats 4000000 in
set_option maxRecDepth 100000 in
theorem tX3_anyBeat_2 {S : ev_S} {fu : Nat} {r : Int32 × ev_D} {F : ev_Fr} (hR : ev_R RX3 cX3_anyBeat 3 1 0 0 false (some .boolean) S r F) (hT : ev_Ty S) (hC : sC S ≤ 0 ∧ sA S ≤ 0) : ∀ (n : Nat) (l0 : Nat) (l1 : Int32) (l2 : Int32) (D : ev_D), sK S l0 = 6 → fX3_anyBeat_2 (sL S) (sE S) fu n l0 l1 l2 D = some r → F S D 2 [some (.ref l0), some (.int l1), some (.int l2)] [] := by
  have hX := hR.X
  intro n
  induction n with
  | zero =>
    intro l0 l1 l2 D hl0 hf
    rw [fX3_anyBeat_2] at hf
    cases hf
  | succ n ih =>
    intro l0 l1 l2 D hl0 hf
    rw [fX3_anyBeat_2] at hf
    refine ev_blk hX lkok_RX3 [(.iload_n 2, 1, 0, 0, 0), (.bipush 8, 2, 0, 0, 8)] (by decide +kernel) (g := true) (lv' := [some (.ref l0), some (.int l1), some (.int l2)]) (st' := [.int (8 : Int32), .int l2]) (D' := D) (pc' := 5) rfl (rfl) rfl ?_
    refine ev_ic_ge hX (off := 30) 35 (by decide +kernel) (by decide) (fun h1 => ?_) (fun h1 => ?_)
    · have hf := ev_it h1 hf
      refine ev_blk hX lkok_RX3 [(.iconst 0, 1, 0, 0, 0)] (by decide +kernel) (g := true) (lv' := [some (.ref l0), some (.int l1), some (.int l2)]) (st' := [.int (0 : Int32)]) (D' := D) (pc' := 36) rfl (rfl) rfl ?_
      exact ev_zret hR ev_sm.rf (Or.inl rfl) (Option.some.inj hf) hC (by decide +kernel)
    · have hf := ev_nf h1 hf
      refine ev_blk hX lkok_RX3 [(.iload_n 1, 1, 0, 0, 0), (.iload_n 2, 1, 0, 0, 0)] (by decide +kernel) (g := true) (lv' := [some (.ref l0), some (.int l1), some (.int l2)]) (st' := [.int l2, .int l1]) (D' := D) (pc' := 10) rfl (rfl) rfl ?_
      obtain ⟨v2, D2, hc2, hf⟩ := ev_bd_s hf
      refine ev_callSN hX YX11_isIn ml_RX3_64 (mX11_isIn hT  hc2) (vs := [.int l1, .int l2]) (st := []) (by decide) rfl rfl (by decide +kernel) hC ?_
      show F S D2 13 [some (.ref l0), some (.int l1), some (.int l2)] [.int v2]
      refine ev_if_eq hX (off := 16) 29 (by decide +kernel) (by decide) (fun h3 => ?_) (fun h3 => ?_)
      · have hf := ev_it h3 hf
        refine ev_blk hX lkok_RX3 [(.iinc 2 1, 3, 0, 0, 1)] (by decide +kernel) (g := true) (lv' := [some (.ref l0), some (.int l1), some (.int (l2 + (1 : Int32)))]) (st' := []) (D' := D2) (pc' := 32) rfl (rfl) rfl ?_
        refine ev_goto hX (off := (-30)) 2 (by decide +kernel) (by decide) ?_
        exact ev_weak hX (ev_le_eq (ev_le_eq (ev_le_eq ev_le_nil))) (ih _ _ _ _ hl0 hf)
      · have hf := ev_nf h3 hf
        obtain ⟨hg5, hf⟩ := ev_gd_s hf
        refine ev_blk hX lkok_RX3 [(.aload_n 0, 1, 0, 0, 0), (.getfield 21, 3, 3, 6, 0), (.iload_n 2, 1, 0, 0, 0), (.iaload, 1, 0, 0, 0), (.iload_n 1, 1, 0, 0, 0), (.iand, 1, 0, 0, 0)] (by decide +kernel) (g := (sK S l0 == 6) && ((sK S ((sE S) l0 6) == 1 && ev_in l2 ((sL S) ((sE S) l0 6))) && (true))) (lv' := [some (.ref l0), some (.int l1), some (.int l2)]) (st' := [.int ((D2 ((sE S) l0 6) (l2).toNatClampNeg) &&& l1)]) (D' := D2) (pc' := 24) rfl (ev_gk hl0 (ev_gi (ev_tyk hT hl0 rfl rfl) hg5 (rfl))) rfl ?_
        refine ev_if_eq hX (off := 5) 29 (by decide +kernel) (by decide) (fun h4 => ?_) (fun h4 => ?_)
        · have hf := ev_it h4 hf
          refine ev_blk hX lkok_RX3 [(.iinc 2 1, 3, 0, 0, 1)] (by decide +kernel) (g := true) (lv' := [some (.ref l0), some (.int l1), some (.int (l2 + (1 : Int32)))]) (st' := []) (D' := D2) (pc' := 32) rfl (rfl) rfl ?_
          refine ev_goto hX (off := (-30)) 2 (by decide +kernel) (by decide) ?_
          exact ev_weak hX (ev_le_eq (ev_le_eq (ev_le_eq ev_le_nil))) (ih _ _ _ _ hl0 hf)
        · have hf := ev_nf h4 hf
          refine ev_blk hX lkok_RX3 [(.iconst 1, 1, 0, 0, 1)] (by decide +kernel) (g := true) (lv' := [some (.ref l0), some (.int l1), some (.int l2)]) (st' := [.int (1 : Int32)]) (D' := D2) (pc' := 28) rfl (rfl) rfl ?_
          exact ev_zret hR ev_sm.rf (Or.inr rfl) (Option.some.inj hf) hC (by decide +kernel)
set_option maxHeartbeats 4000000 in
set_option maxRecDepth 100000 in
theorem tX3_anyBeat {S : ev_S} {fu : Nat} {r : Int32 × ev_D} {F : ev_Fr} (hR : ev_R RX3 cX3_anyBeat 3 1 0 0 false (some .boolean) S r F) (hT : ev_Ty S) (hC : sC S ≤ 0 ∧ sA S ≤ 0) {l0 : Nat} {l1 : Int32} {D : ev_D} (hl0 : sK S l0 = 6) (hf : fX3_anyBeat (sL S) (sE S) fu l0 l1 D = some r) : F S D 0 [some (.ref l0), some (.int l1), none] [] := by
  have hX := hR.X
  unfold fX3_anyBeat at hf
  refine ev_blk hX lkok_RX3 [(.iconst 0, 1, 0, 0, 0), (.istore_n 2, 1, 0, 0, 0)] (by decide +kernel) (g := true) (lv' := [some (.ref l0), some (.int l1), some (.int (0 : Int32))]) (st' := []) (D' := D) (pc' := 2) rfl (rfl) rfl ?_
  exact ev_weak hX (ev_le_eq (ev_le_eq (ev_le_eq ev_le_nil))) (tX3_anyBeat_2 hR hT hC  fu _ _ _ _ hl0 hf)
theorem mX3_anyBeat {S : ev_S} {fu : Nat} {r : Int32 × ev_D} (hT : ev_Ty S) {l0 : Nat} {l1 : Int32} {D : ev_D} (hl0 : sK S l0 = 6) (hf : fX3_anyBeat (sL S) (sE S) fu l0 l1 D = some r) : ev_M 1 0 0 yX3_anyBeat cX3_anyBeat 3 (some .boolean) [.ref l0, .int l1] S D S r :=
  ev_met (ini := false) (plainFor_of_name (by decide)) (fun h => by cases h) rfl (Nat.le_of_ble_eq_true rfl) (fun F hR => tX3_anyBeat (S := ev_z S) hR hT ⟨Nat.le_refl 0, Nat.le_refl 0⟩ hl0 hf)
set_option maxHeartbeats 4000000 in
set_option maxRecDepth 100000 in
theorem tX3_beat {S : ev_S} {fu : Nat} {r : Int32 × ev_D} {F : ev_Fr} (hR : ev_R RX3 cX3_beat 5 1 0 0 false (some .boolean) S r F) (hT : ev_Ty S) (hC : sC S ≤ 0 ∧ sA S ≤ 0) {l0 : Nat} {l1 : Int32} {l2 : Int32} {D : ev_D} (hl0 : sK S l0 = 6) (hf : fX3_beat (sL S) (sE S) fu l0 l1 l2 D = some r) : F S D 0 [some (.ref l0), some (.int l1), some (.int l2), none, none] [] := by
  have hX := hR.X
  unfold fX3_beat at hf
  obtain ⟨hg7, hf⟩ := ev_gd_s hf
  obtain ⟨hg8, hf⟩ := ev_gd_s hf
  refine ev_blk hX lkok_RX3 [(.aload_n 0, 1, 0, 0, 0), (.getfield 33, 3, 3, 0, 0), (.getfield 148, 3, 9, 7, 0), (.iload_n 1, 1, 0, 0, 0), (.iaload, 1, 0, 0, 0), (.aload_n 0, 1, 0, 0, 0), (.getfield 33, 3, 3, 0, 0), (.getfield 148, 3, 9, 7, 0), (.iload_n 2, 1, 0, 0, 0), (.iaload, 1, 0, 0, 0)] (by decide +kernel) (g := (sK S l0 == 6) && ((sK S ((sE S) l0 0) == 12) && ((sK S ((sE S) ((sE S) l0 0) 7) == 1 && ev_in l1 ((sL S) ((sE S) ((sE S) l0 0) 7))) && ((sK S l0 == 6) && ((sK S ((sE S) l0 0) == 12) && ((sK S ((sE S) ((sE S) l0 0) 7) == 1 && ev_in l2 ((sL S) ((sE S) ((sE S) l0 0) 7))) && (true))))))) (lv' := [some (.ref l0), some (.int l1), some (.int l2), none, none]) (st' := [.int (D ((sE S) ((sE S) l0 0) 7) (l2).toNatClampNeg), .int (D ((sE S) ((sE S) l0 0) 7) (l1).toNatClampNeg)]) (D' := D) (pc' := 18) rfl (ev_gk hl0 (ev_gk (ev_tyk hT hl0 rfl rfl) (ev_gi (ev_tyk hT (ev_tyk hT hl0 rfl rfl) rfl rfl) hg7 (ev_gk hl0 (ev_gk (ev_tyk hT hl0 rfl rfl) (ev_gi (ev_tyk hT (ev_tyk hT hl0 rfl rfl) rfl rfl) hg8 (rfl))))))) rfl ?_
  obtain ⟨v1, D1, hc1, hf⟩ := ev_bd_s hf
  refine ev_callS hX YJ9_min ml_RX3_122 (mJ9_min hT  hc1) (vs := [.int (D ((sE S) ((sE S) l0 0) 7) (l1).toNatClampNeg), .int (D ((sE S) ((sE S) l0 0) 7) (l2).toNatClampNeg)]) (st := []) (by decide) rfl rfl (by decide +kernel) hC ?_
  show F S D1 21 [some (.ref l0), some (.int l1), some (.int l2), none, none] [.int v1]
  obtain ⟨hg5, hf⟩ := ev_gd_s hf
  obtain ⟨hg6, hf⟩ := ev_gd_s hf
  refine ev_blk hX lkok_RX3 [(.istore_n 3, 1, 0, 0, 0), (.aload_n 0, 1, 0, 0, 0), (.getfield 33, 3, 3, 0, 0), (.getfield 148, 3, 9, 7, 0), (.iload_n 1, 1, 0, 0, 0), (.iaload, 1, 0, 0, 0), (.aload_n 0, 1, 0, 0, 0), (.getfield 33, 3, 3, 0, 0), (.getfield 148, 3, 9, 7, 0), (.iload_n 2, 1, 0, 0, 0), (.iaload, 1, 0, 0, 0)] (by decide +kernel) (g := (sK S l0 == 6) && ((sK S ((sE S) l0 0) == 12) && ((sK S ((sE S) ((sE S) l0 0) 7) == 1 && ev_in l1 ((sL S) ((sE S) ((sE S) l0 0) 7))) && ((sK S l0 == 6) && ((sK S ((sE S) l0 0) == 12) && ((sK S ((sE S) ((sE S) l0 0) 7) == 1 && ev_in l2 ((sL S) ((sE S) ((sE S) l0 0) 7))) && (true))))))) (lv' := [some (.ref l0), some (.int l1), some (.int l2), some (.int v1), none]) (st' := [.int (D1 ((sE S) ((sE S) l0 0) 7) (l2).toNatClampNeg), .int (D1 ((sE S) ((sE S) l0 0) 7) (l1).toNatClampNeg)]) (D' := D1) (pc' := 40) rfl (ev_gk hl0 (ev_gk (ev_tyk hT hl0 rfl rfl) (ev_gi (ev_tyk hT (ev_tyk hT hl0 rfl rfl) rfl rfl) hg5 (ev_gk hl0 (ev_gk (ev_tyk hT hl0 rfl rfl) (ev_gi (ev_tyk hT (ev_tyk hT hl0 rfl rfl) rfl rfl) hg6 (rfl))))))) rfl ?_
  obtain ⟨v2, D2, hc2, hf⟩ := ev_bd_s hf
  refine ev_callS hX YJ9_max ml_RX3_102 (mJ9_max hT  hc2) (vs := [.int (D1 ((sE S) ((sE S) l0 0) 7) (l1).toNatClampNeg), .int (D1 ((sE S) ((sE S) l0 0) 7) (l2).toNatClampNeg)]) (st := []) (by decide) rfl rfl (by decide +kernel) hC ?_
  show F S D2 43 [some (.ref l0), some (.int l1), some (.int l2), some (.int v1), none] [.int v2]
  refine ev_blk hX lkok_RX3 [(.istore 4, 2, 0, 0, 0), (.iload 4, 2, 0, 0, 0), (.iload_n 3, 1, 0, 0, 0)] (by decide +kernel) (g := true) (lv' := [some (.ref l0), some (.int l1), some (.int l2), some (.int v1), some (.int v2)]) (st' := [.int v1, .int v2]) (D' := D2) (pc' := 48) rfl (rfl) rfl ?_
  refine ev_ic_le hX (off := 15) 63 (by decide +kernel) (by decide) (fun h3 => ?_) (fun h3 => ?_)
  · have hf := ev_it h3 hf
    refine ev_blk hX lkok_RX3 [(.iconst 0, 1, 0, 0, 0)] (by decide +kernel) (g := true) (lv' := [some (.ref l0), some (.int l1), some (.int l2), some (.int v1), some (.int v2)]) (st' := [.int (0 : Int32)]) (D' := D2) (pc' := 64) rfl (rfl) rfl ?_
    exact ev_zret hR ev_sm.rf (Or.inl rfl) (Option.some.inj hf) hC (by decide +kernel)
  · have hf := ev_nf h3 hf
    refine ev_blk hX lkok_RX3 [(.iload 4, 2, 0, 0, 0), (.iconst 2, 1, 0, 0, 2), (.iload_n 3, 1, 0, 0, 0), (.imul, 1, 0, 0, 0)] (by decide +kernel) (g := true) (lv' := [some (.ref l0), some (.int l1), some (.int l2), some (.int v1), some (.int v2)]) (st' := [.int ((2 : Int32) * v1), .int v2]) (D' := D2) (pc' := 56) rfl (rfl) rfl ?_
    refine ev_ic_ge hX (off := 7) 63 (by decide +kernel) (by decide) (fun h4 => ?_) (fun h4 => ?_)
    · have hf := ev_it h4 hf
      refine ev_blk hX lkok_RX3 [(.iconst 0, 1, 0, 0, 0)] (by decide +kernel) (g := true) (lv' := [some (.ref l0), some (.int l1), some (.int l2), some (.int v1), some (.int v2)]) (st' := [.int (0 : Int32)]) (D' := D2) (pc' := 64) rfl (rfl) rfl ?_
      exact ev_zret hR ev_sm.rf (Or.inl rfl) (Option.some.inj hf) hC (by decide +kernel)
    · have hf := ev_nf h4 hf
      refine ev_blk hX lkok_RX3 [(.iconst 1, 1, 0, 0, 1)] (by decide +kernel) (g := true) (lv' := [some (.ref l0), some (.int l1), some (.int l2), some (.int v1), some (.int v2)]) (st' := [.int (1 : Int32)]) (D' := D2) (pc' := 60) rfl (rfl) rfl ?_
      refine ev_goto hX (off := 4) 64 (by decide +kernel) (by decide) ?_
      exact ev_zret hR ev_sm.rf (Or.inr rfl) (Option.some.inj hf) hC (by decide +kernel)
theorem mX3_beat {S : ev_S} {fu : Nat} {r : Int32 × ev_D} (hT : ev_Ty S) {l0 : Nat} {l1 : Int32} {l2 : Int32} {D : ev_D} (hl0 : sK S l0 = 6) (hf : fX3_beat (sL S) (sE S) fu l0 l1 l2 D = some r) : ev_M 1 0 0 yX3_beat cX3_beat 5 (some .boolean) [.ref l0, .int l1, .int l2] S D S r :=
  ev_met (ini := false) (plainFor_of_name (by decide)) (fun h => by cases h) rfl (Nat.le_of_ble_eq_true rfl) (fun F hR => tX3_beat (S := ev_z S) hR hT ⟨Nat.le_refl 0, Nat.le_refl 0⟩ hl0 hf)
set_option maxHeartbeats 4000000 in
set_option maxRecDepth 100000 in
theorem tX3_castAnew_67 {S : ev_S} {fu : Nat} {r : Int32 × ev_D} {F : ev_Fr} (hR : ev_R RX3 cX3_castAnew 4 2 0 0 false (some .int) S r F) (hT : ev_Ty S) (hC : sC S ≤ 0 ∧ sA S ≤ 0) : ∀ (n : Nat) (l0 : Nat) (l1 : Int32) (l2 : Int32) (l3 : Int32) (D : ev_D), sK S l0 = 6 → fX3_castAnew_67 (sL S) (sE S) fu n l0 l1 l2 l3 D = some r → F S D 67 [some (.ref l0), some (.int l1), some (.int l2), some (.int l3)] [] := by
  have hX := hR.X
  intro n
  induction n with
  | zero =>
    intro l0 l1 l2 l3 D hl0 hf
    rw [fX3_castAnew_67] at hf
    cases hf
  | succ n ih =>
    intro l0 l1 l2 l3 D hl0 hf
    rw [fX3_castAnew_67] at hf
    refine ev_blk hX lkok_RX3 [(.iload_n 3, 1, 0, 0, 0), (.sipush 256, 3, 0, 0, 256)] (by decide +kernel) (g := true) (lv' := [some (.ref l0), some (.int l1), some (.int l2), some (.int l3)]) (st' := [.int (256 : Int32), .int l3]) (D' := D) (pc' := 71) rfl (rfl) rfl ?_
    refine ev_ic_ge hX (off := 36) 107 (by decide +kernel) (by decide) (fun h1 => ?_) (fun h1 => ?_)
    · have hf := ev_it h1 hf
      refine ev_blk hX lkok_RX3 [(.iload_n 1, 1, 0, 0, 0)] (by decide +kernel) (g := true) (lv' := [some (.ref l0), some (.int l1), some (.int l2), some (.int l3)]) (st' := [.int l1]) (D' := D) (pc' := 108) rfl (rfl) rfl ?_
      refine ev_if_ne hX (off := 10) 118 (by decide +kernel) (by decide) (fun h2 => ?_) (fun h2 => ?_)
      · have hf := ev_nf h2 hf
        refine ev_blk hX lkok_RX3 [(.iload_n 2, 1, 0, 0, 0)] (by decide +kernel) (g := true) (lv' := [some (.ref l0), some (.int l1), some (.int l2), some (.int l3)]) (st' := [.int l2]) (D' := D) (pc' := 119) rfl (rfl) rfl ?_
        exact ev_iret hR ev_sm.rf (Option.some.inj hf) hC (by decide +kernel)
      · have hf := ev_it h2 hf
        refine ev_blk hX lkok_RX3 [(.iload_n 2, 1, 0, 0, 0)] (by decide +kernel) (g := true) (lv' := [some (.ref l0), some (.int l1), some (.int l2), some (.int l3)]) (st' := [.int l2]) (D' := D) (pc' := 112) rfl (rfl) rfl ?_
        obtain ⟨v3, D3, hc3, hf⟩ := ev_bd_s hf
        refine ev_callS hX YJ6_bitCount ml_RX3_88 (mJ6_bitCount hT  hc3) (vs := [.int l2]) (st := []) (by decide) rfl rfl (by decide +kernel) hC ?_
        show F S D3 115 [some (.ref l0), some (.int l1), some (.int l2), some (.int l3)] [.int v3]
        refine ev_goto hX (off := 4) 119 (by decide +kernel) (by decide) ?_
        exact ev_iret hR ev_sm.rf (Option.some.inj hf) hC (by decide +kernel)
    · have hf := ev_nf h1 hf
      refine ev_blk hX lkok_RX3 [(.iload_n 3, 1, 0, 0, 0)] (by decide +kernel) (g := true) (lv' := [some (.ref l0), some (.int l1), some (.int l2), some (.int l3)]) (st' := [.int l3]) (D' := D) (pc' := 75) rfl (rfl) rfl ?_
      obtain ⟨v4, D4, hc4, hf⟩ := ev_bd_s hf
      refine ev_callS hX YJ6_bitCount ml_RX3_88 (mJ6_bitCount hT  hc4) (vs := [.int l3]) (st := []) (by decide) rfl rfl (by decide +kernel) hC ?_
      show F S D4 78 [some (.ref l0), some (.int l1), some (.int l2), some (.int l3)] [.int v4]
      refine ev_blk hX lkok_RX3 [(.iload_n 2, 1, 0, 0, 0)] (by decide +kernel) (g := true) (lv' := [some (.ref l0), some (.int l1), some (.int l2), some (.int l3)]) (st' := [.int l2, .int v4]) (D' := D4) (pc' := 79) rfl (rfl) rfl ?_
      obtain ⟨v5, D5, hc5, hf⟩ := ev_bd_s hf
      refine ev_callS hX YJ6_bitCount ml_RX3_88 (mJ6_bitCount hT  hc5) (vs := [.int l2]) (st := [.int v4]) (by decide) rfl rfl (by decide +kernel) hC ?_
      show F S D5 82 [some (.ref l0), some (.int l1), some (.int l2), some (.int l3)] [.int v5, .int v4]
      refine ev_ic_ge hX (off := 19) 101 (by decide +kernel) (by decide) (fun h6 => ?_) (fun h6 => ?_)
      · have hf := ev_it h6 hf
        refine ev_blk hX lkok_RX3 [(.iinc 3 1, 3, 0, 0, 1)] (by decide +kernel) (g := true) (lv' := [some (.ref l0), some (.int l1), some (.int l2), some (.int (l3 + (1 : Int32)))]) (st' := []) (D' := D5) (pc' := 104) rfl (rfl) rfl ?_
        refine ev_goto hX (off := (-37)) 67 (by decide +kernel) (by decide) ?_
        exact ev_weak hX (ev_le_eq (ev_le_eq (ev_le_eq (ev_le_eq ev_le_nil)))) (ih _ _ _ _ _ hl0 hf)
      · have hf := ev_nf h6 hf
        refine ev_blk hX lkok_RX3 [(.aload_n 0, 1, 0, 0, 0), (.iload_n 3, 1, 0, 0, 0), (.iconst (-1), 1, 0, 0, (-1)), (.ixor, 1, 0, 0, 0), (.sipush 255, 3, 0, 0, 255), (.iand, 1, 0, 0, 0)] (by decide +kernel) (g := true) (lv' := [some (.ref l0), some (.int l1), some (.int l2), some (.int l3)]) (st' := [.int ((l3 ^^^ (-1 : Int32)) &&& (255 : Int32)), .ref l0]) (D' := D5) (pc' := 93) rfl (rfl) rfl ?_
        obtain ⟨v7, D7, hc7, hf⟩ := ev_bd_s hf
        refine ev_callV hX YX3_anyBeat ml_RX3_188 (mX3_anyBeat hT hl0 hc7) (vs := [.int ((l3 ^^^ (-1 : Int32)) &&& (255 : Int32))]) (st := []) (by decide) 3 hl0 rfl rfl rfl (by decide +kernel) hC ?_
        show F S D7 96 [some (.ref l0), some (.int l1), some (.int l2), some (.int l3)] [.int v7]
        refine ev_if_ne hX (off := 5) 101 (by decide +kernel) (by decide) (fun h8 => ?_) (fun h8 => ?_)
        · have hf := ev_nf h8 hf
          refine ev_blk hX lkok_RX3 [(.iinc 3 1, 3, 0, 0, 1)] (by decide +kernel) (g := true) (lv' := [some (.ref l0), some (.int l1), some (.int l2), some (.int (l3 + (1 : Int32)))]) (st' := []) (D' := D7) (pc' := 104) rfl (rfl) rfl ?_
          refine ev_goto hX (off := (-37)) 67 (by decide +kernel) (by decide) ?_
          exact ev_weak hX (ev_le_eq (ev_le_eq (ev_le_eq (ev_le_eq ev_le_nil)))) (ih _ _ _ _ _ hl0 hf)
        · have hf := ev_it h8 hf
          refine ev_blk hX lkok_RX3 [(.iload_n 3, 1, 0, 0, 0), (.istore_n 2, 1, 0, 0, 0), (.iinc 3 1, 3, 0, 0, 1)] (by decide +kernel) (g := true) (lv' := [some (.ref l0), some (.int l1), some (.int l3), some (.int (l3 + (1 : Int32)))]) (st' := []) (D' := D7) (pc' := 104) rfl (rfl) rfl ?_
          refine ev_goto hX (off := (-37)) 67 (by decide +kernel) (by decide) ?_
          exact ev_weak hX (ev_le_eq (ev_le_eq (ev_le_eq (ev_le_eq ev_le_nil)))) (ih _ _ _ _ _ hl0 hf)
set_option maxHeartbeats 4000000 in
set_option maxRecDepth 100000 in
theorem tX3_castAnew_18 {S : ev_S} {fu : Nat} {r : Int32 × ev_D} {F : ev_Fr} (hR : ev_R RX3 cX3_castAnew 4 2 0 0 false (some .int) S r F) (hT : ev_Ty S) (hC : sC S ≤ 0 ∧ sA S ≤ 0) {k10 : Nat → Int32 → Int32 → ev_D → ev_Op} (hk10 : ∀ (l0 : Nat) (l1 : Int32) (l2 : Int32) (D : ev_D), sK S l0 = 6 → k10 l0 l1 l2 D = some r → F S D 10 [some (.ref l0), some (.int l1), some (.int l2), none] []) : ∀ (n : Nat) (l0 : Nat) (l1 : Int32) (l2 : Int32) (l3 : Int32) (D : ev_D), sK S l0 = 6 → fX3_castAnew_18 (sL S) (sE S) fu k10 n l0 l1 l2 l3 D = some r → F S D 18 [some (.ref l0), some (.int l1), some (.int l2), some (.int l3)] [] := by
  have hX := hR.X
  intro n
  induction n with
  | zero =>
    intro l0 l1 l2 l3 D hl0 hf
    rw [fX3_castAnew_18] at hf
    cases hf
  | succ n ih =>
    intro l0 l1 l2 l3 D hl0 hf
    rw [fX3_castAnew_18] at hf
    refine ev_blk hX lkok_RX3 [(.iload_n 3, 1, 0, 0, 0), (.bipush 8, 2, 0, 0, 8)] (by decide +kernel) (g := true) (lv' := [some (.ref l0), some (.int l1), some (.int l2), some (.int l3)]) (st' := [.int (8 : Int32), .int l3]) (D' := D) (pc' := 21) rfl (rfl) rfl ?_
    refine ev_ic_ge hX (off := 34) 55 (by decide +kernel) (by decide) (fun h9 => ?_) (fun h9 => ?_)
    · have hf := ev_it h9 hf
      refine ev_blk hX lkok_RX3 [(.iinc 2 1, 3, 0, 0, 1)] (by decide +kernel) (g := true) (lv' := [some (.ref l0), some (.int l1), some (.int (l2 + (1 : Int32))), some (.int l3)]) (st' := []) (D' := D) (pc' := 58) rfl (rfl) rfl ?_
      refine ev_goto hX (off := (-48)) 10 (by decide +kernel) (by decide) ?_
      exact ev_weak hX (ev_le_eq (ev_le_eq (ev_le_eq (ev_le_no ev_le_nil)))) (hk10 _ _ _ _ hl0 hf)
    · have hf := ev_nf h9 hf
      obtain ⟨hg14, hf⟩ := ev_gd_s hf
      refine ev_blk hX lkok_RX3 [(.aload_n 0, 1, 0, 0, 0), (.getfield 21, 3, 3, 6, 0), (.iload_n 2, 1, 0, 0, 0), (.dup2, 1, 0, 0, 0), (.iaload, 1, 0, 0, 0), (.aload_n 0, 1, 0, 0, 0), (.iload_n 2, 1, 0, 0, 0), (.iload_n 3, 1, 0, 0, 0)] (by decide +kernel) (g := (sK S l0 == 6) && ((sK S ((sE S) l0 6) == 1 && ev_in l2 ((sL S) ((sE S) l0 6))) && (true))) (lv' := [some (.ref l0), some (.int l1), some (.int l2), some (.int l3)]) (st' := [.int l3, .int l2, .ref l0, .int (D ((sE S) l0 6) (l2).toNatClampNeg), .int l2, .ref ((sE S) l0 6)]) (D' := D) (pc' := 34) rfl (ev_gk hl0 (ev_gi (ev_tyk hT hl0 rfl rfl) hg14 (rfl))) rfl ?_
      obtain ⟨v10, D10, hc10, hf⟩ := ev_bd_s hf
      refine ev_callV hX YX3_beat ml_RX3_185 (mX3_beat hT hl0 hc10) (vs := [.int l2, .int l3]) (st := [.int (D ((sE S) l0 6) (l2).toNatClampNeg), .int l2, .ref ((sE S) l0 6)]) (by decide) 3 hl0 rfl rfl rfl (by decide +kernel) hC ?_
      show F S D10 37 [some (.ref l0), some (.int l1), some (.int l2), some (.int l3)] [.int v10, .int (D ((sE S) l0 6) (l2).toNatClampNeg), .int l2, .ref ((sE S) l0 6)]
      refine ev_if_eq hX (off := 9) 46 (by decide +kernel) (by decide) (fun h11 => ?_) (fun h11 => ?_)
      · have hf := ev_it h11 hf
        obtain ⟨hg12, hf⟩ := ev_gd_s hf
        refine ev_blk hX lkok_RX3 [(.iconst 0, 1, 0, 0, 0), (.ior, 1, 0, 0, 0), (.iastore, 1, 0, 0, 0), (.iinc 3 1, 3, 0, 0, 1)] (by decide +kernel) (g := (sK S ((sE S) l0 6) == 1 && ev_in l2 ((sL S) ((sE S) l0 6))) && (true)) (lv' := [some (.ref l0), some (.int l1), some (.int l2), some (.int (l3 + (1 : Int32)))]) (st' := []) (D' := (ev_up D10 ((sE S) l0 6) (l2).toNatClampNeg ((D ((sE S) l0 6) (l2).toNatClampNeg) ||| (0 : Int32)))) (pc' := 52) rfl (ev_gi (ev_tyk hT hl0 rfl rfl) hg12 (rfl)) rfl ?_
        refine ev_goto hX (off := (-34)) 18 (by decide +kernel) (by decide) ?_
        exact ev_weak hX (ev_le_eq (ev_le_eq (ev_le_eq (ev_le_eq ev_le_nil)))) (ih _ _ _ _ _ hl0 hf)
      · have hf := ev_nf h11 hf
        refine ev_blk hX lkok_RX3 [(.iconst 1, 1, 0, 0, 1), (.iload_n 3, 1, 0, 0, 0), (.ishl, 1, 0, 0, 0)] (by decide +kernel) (g := true) (lv' := [some (.ref l0), some (.int l1), some (.int l2), some (.int l3)]) (st' := [.int ((1 : Int32) <<< (l3 &&& 31)), .int (D ((sE S) l0 6) (l2).toNatClampNeg), .int l2, .ref ((sE S) l0 6)]) (D' := D10) (pc' := 43) rfl (rfl) rfl ?_
        refine ev_goto hX (off := 4) 47 (by decide +kernel) (by decide) ?_
        obtain ⟨hg13, hf⟩ := ev_gd_s hf
        refine ev_blk hX lkok_RX3 [(.ior, 1, 0, 0, 0), (.iastore, 1, 0, 0, 0), (.iinc 3 1, 3, 0, 0, 1)] (by decide +kernel) (g := (sK S ((sE S) l0 6) == 1 && ev_in l2 ((sL S) ((sE S) l0 6))) && (true)) (lv' := [some (.ref l0), some (.int l1), some (.int l2), some (.int (l3 + (1 : Int32)))]) (st' := []) (D' := (ev_up D10 ((sE S) l0 6) (l2).toNatClampNeg ((D ((sE S) l0 6) (l2).toNatClampNeg) ||| ((1 : Int32) <<< (l3 &&& 31))))) (pc' := 52) rfl (ev_gi (ev_tyk hT hl0 rfl rfl) hg13 (rfl)) rfl ?_
        refine ev_goto hX (off := (-34)) 18 (by decide +kernel) (by decide) ?_
        exact ev_weak hX (ev_le_eq (ev_le_eq (ev_le_eq (ev_le_eq ev_le_nil)))) (ih _ _ _ _ _ hl0 hf)
set_option maxHeartbeats 4000000 in
set_option maxRecDepth 100000 in
theorem tX3_castAnew_10 {S : ev_S} {fu : Nat} {r : Int32 × ev_D} {F : ev_Fr} (hR : ev_R RX3 cX3_castAnew 4 2 0 0 false (some .int) S r F) (hT : ev_Ty S) (hC : sC S ≤ 0 ∧ sA S ≤ 0) : ∀ (n : Nat) (l0 : Nat) (l1 : Int32) (l2 : Int32) (D : ev_D), sK S l0 = 6 → fX3_castAnew_10 (sL S) (sE S) fu n l0 l1 l2 D = some r → F S D 10 [some (.ref l0), some (.int l1), some (.int l2), none] [] := by
  have hX := hR.X
  intro n
  induction n with
  | zero =>
    intro l0 l1 l2 D hl0 hf
    rw [fX3_castAnew_10] at hf
    cases hf
  | succ n ih =>
    intro l0 l1 l2 D hl0 hf
    rw [fX3_castAnew_10] at hf
    refine ev_blk hX lkok_RX3 [(.iload_n 2, 1, 0, 0, 0), (.bipush 8, 2, 0, 0, 8)] (by decide +kernel) (g := true) (lv' := [some (.ref l0), some (.int l1), some (.int l2), none]) (st' := [.int (8 : Int32), .int l2]) (D' := D) (pc' := 13) rfl (rfl) rfl ?_
    refine ev_ic_ge hX (off := 48) 61 (by decide +kernel) (by decide) (fun h15 => ?_) (fun h15 => ?_)
    · have hf := ev_it h15 hf
      refine ev_blk hX lkok_RX3 [(.sipush 255, 3, 0, 0, 255), (.istore_n 2, 1, 0, 0, 0), (.iconst 0, 1, 0, 0, 0), (.istore_n 3, 1, 0, 0, 0)] (by decide +kernel) (g := true) (lv' := [some (.ref l0), some (.int l1), some (.int (255 : Int32)), some (.int (0 : Int32))]) (st' := []) (D' := D) (pc' := 67) rfl (rfl) rfl ?_
      exact ev_weak hX (ev_le_eq (ev_le_eq (ev_le_eq (ev_le_eq ev_le_nil)))) (tX3_castAnew_67 hR hT hC  fu _ _ _ _ _ hl0 hf)
    · have hf := ev_nf h15 hf
      refine ev_blk hX lkok_RX3 [(.iconst 0, 1, 0, 0, 0), (.istore_n 3, 1, 0, 0, 0)] (by decide +kernel) (g := true) (lv' := [some (.ref l0), some (.int l1), some (.int l2), some (.int (0 : Int32))]) (st' := []) (D' := D) (pc' := 18) rfl (rfl) rfl ?_
      exact ev_weak hX (ev_le_eq (ev_le_eq (ev_le_eq (ev_le_eq ev_le_nil)))) (tX3_castAnew_18 hR hT hC ih fu _ _ _ _ _ hl0 hf)
set_option maxHeartbeats 4000000 in
set_option maxRecDepth 100000 in
theorem tX3_castAnew {S : ev_S} {fu : Nat} {r : Int32 × ev_D} {F : ev_Fr} (hR : ev_R RX3 cX3_castAnew 4 2 0 0 false (some .int) S r F) (hT : ev_Ty S) (hC : sC S ≤ 0 ∧ sA S ≤ 0) {l0 : Nat} {l1 : Int32} {D : ev_D} (hl0 : sK S l0 = 6) (hf : fX3_castAnew (sL S) (sE S) fu l0 l1 D = some r) : F S D 0 [some (.ref l0), some (.int l1), none, none] [] := by
  have hX := hR.X
  unfold fX3_castAnew at hf
  refine ev_blk hX lkok_RX3 [(.aload_n 0, 1, 0, 0, 0), (.getfield 21, 3, 3, 6, 0), (.iconst 0, 1, 0, 0, 0)] (by decide +kernel) (g := (sK S l0 == 6) && (true)) (lv' := [some (.ref l0), some (.int l1), none, none]) (st' := [.int (0 : Int32), .ref ((sE S) l0 6)]) (D' := D) (pc' := 5) rfl (ev_gk hl0 (rfl)) rfl ?_
  obtain ⟨v16, D16, hc16, hf⟩ := ev_bd_s hf
  refine ev_callS hX YJ7_fill ml_RX3_132 (mJ7_fill hT (ev_tyk hT hl0 rfl rfl) hc16) (vs := [.ref ((sE S) l0 6), .int (0 : Int32)]) (st := []) (by decide) rfl rfl (by decide +kernel) hC ?_
  show F S D16 8 [some (.ref l0), some (.int l1), none, none] []
  refine ev_blk hX lkok_RX3 [(.iconst 0, 1, 0, 0, 0), (.istore_n 2, 1, 0, 0, 0)] (by decide +kernel) (g := true) (lv' := [some (.ref l0), some (.int l1), some (.int (0 : Int32)), none]) (st' := []) (D' := D16) (pc' := 10) rfl (rfl) rfl ?_
  exact ev_weak hX (ev_le_eq (ev_le_eq (ev_le_eq (ev_le_no ev_le_nil)))) (tX3_castAnew_10 hR hT hC  fu _ _ _ _ hl0 hf)
theorem mX3_castAnew {S : ev_S} {fu : Nat} {r : Int32 × ev_D} (hT : ev_Ty S) {l0 : Nat} {l1 : Int32} {D : ev_D} (hl0 : sK S l0 = 6) (hf : fX3_castAnew (sL S) (sE S) fu l0 l1 D = some r) : ev_M 2 0 0 yX3_castAnew cX3_castAnew 4 (some .int) [.ref l0, .int l1] S D S r :=
  ev_met (ini := false) (plainFor_of_name (by decide)) (fun h => by cases h) rfl (Nat.le_of_ble_eq_true rfl) (fun F hR => tX3_castAnew (S := ev_z S) hR hT ⟨Nat.le_refl 0, Nat.le_refl 0⟩ hl0 hf)
set_option maxHeartbeats 4000000 in
set_option maxRecDepth 100000 in
theorem tX11_casts {S : ev_S} {fu : Nat} {r : Int32 × ev_D} {F : ev_Fr} (hR : ev_R RX11 cX11_casts 2 3 0 0 false (some .int) S r F) (hT : ev_Ty S) (hC : sC S ≤ 0 ∧ sA S ≤ 0) {l0 : Nat} {l1 : Int32} {D : ev_D} (hl0 : sK S l0 = 14) (hf : fX11_casts (sL S) (sE S) fu l0 l1 D = some r) : F S D 0 [some (.ref l0), some (.int l1)] [] := by
  have hX := hR.X
  unfold fX11_casts at hf
  refine ev_blk hX lkok_RX11 [(.iload_n 1, 1, 0, 0, 0), (.iconst 0, 1, 0, 0, 0), (.iconst 1, 1, 0, 0, 1)] (by decide +kernel) (g := true) (lv' := [some (.ref l0), some (.int l1)]) (st' := [.int (1 : Int32), .int (0 : Int32), .int l1]) (D' := D) (pc' := 3) rfl (rfl) rfl ?_
  obtain ⟨v1, D1, hc1, hf⟩ := ev_bd_s hf
  refine ev_callS hX YX11_within ml_RX11_85 (mX11_within hT  hc1) (vs := [.int l1, .int (0 : Int32), .int (1 : Int32)]) (st := []) (by decide) rfl rfl (by decide +kernel) hC ?_
  show F S D1 6 [some (.ref l0), some (.int l1)] [.int v1]
  refine ev_if_eq hX (off := 14) 20 (by decide +kernel) (by decide) (fun h2 => ?_) (fun h2 => ?_)
  · have hf := ev_it h2 hf
    refine ev_blk hX lkok_RX11 [(.iconst (-1), 1, 0, 0, (-1))] (by decide +kernel) (g := true) (lv' := [some (.ref l0), some (.int l1)]) (st' := [.int (-1 : Int32)]) (D' := D1) (pc' := 21) rfl (rfl) rfl ?_
    exact ev_iret hR ev_sm.rf (Option.some.inj hf) hC (by decide +kernel)
  · have hf := ev_nf h2 hf
    refine ev_blk hX lkok_RX11 [(.aload_n 0, 1, 0, 0, 0), (.getfield 71, 3, 11, 5, 0), (.iload_n 1, 1, 0, 0, 0)] (by decide +kernel) (g := (sK S l0 == 14) && (true)) (lv' := [some (.ref l0), some (.int l1)]) (st' := [.int l1, .ref ((sE S) l0 5)]) (D' := D1) (pc' := 14) rfl (ev_gk hl0 (rfl)) rfl ?_
    obtain ⟨v3, D3, hc3, hf⟩ := ev_bd_s hf
    refine ev_callV hX YX3_castAnew ml_RX11_303 (mX3_castAnew hT (ev_tyk hT hl0 rfl rfl) hc3) (vs := [.int l1]) (st := []) (by decide) 3 (ev_tyk hT hl0 rfl rfl) rfl rfl rfl (by decide +kernel) hC ?_
    show F S D3 17 [some (.ref l0), some (.int l1)] [.int v3]
    refine ev_goto hX (off := 4) 21 (by decide +kernel) (by decide) ?_
    exact ev_iret hR ev_sm.rf (Option.some.inj hf) hC (by decide +kernel)
theorem mX11_casts {S : ev_S} {fu : Nat} {r : Int32 × ev_D} (hT : ev_Ty S) {l0 : Nat} {l1 : Int32} {D : ev_D} (hl0 : sK S l0 = 14) (hf : fX11_casts (sL S) (sE S) fu l0 l1 D = some r) : ev_M 3 0 0 yX11_casts cX11_casts 2 (some .int) [.ref l0, .int l1] S D S r :=
  ev_met (ini := false) (plainFor_of_name (by decide)) (fun h => by cases h) rfl (Nat.le_of_ble_eq_true rfl) (fun F hR => tX11_casts (S := ev_z S) hR hT ⟨Nat.le_refl 0, Nat.le_refl 0⟩ hl0 hf)
set_option maxHeartbeats 4000000 in
set_option maxRecDepth 100000 in
theorem tX11_opinion {S : ev_S} {fu : Nat} {r : Int32 × ev_D} {F : ev_Fr} (hR : ev_R RX11 cX11_opinion 3 1 0 0 false (some .boolean) S r F) (hT : ev_Ty S) (hC : sC S ≤ 0 ∧ sA S ≤ 0) {l0 : Nat} {l1 : Int32} {l2 : Int32} {D : ev_D} (hl0 : sK S l0 = 14) (hf : fX11_opinion (sL S) (sE S) fu l0 l1 l2 D = some r) : F S D 0 [some (.ref l0), some (.int l1), some (.int l2)] [] := by
  have hX := hR.X
  unfold fX11_opinion at hf
  refine ev_blk hX lkok_RX11 [(.iload_n 1, 1, 0, 0, 0), (.iconst 0, 1, 0, 0, 0), (.bipush 9, 2, 0, 0, 9)] (by decide +kernel) (g := true) (lv' := [some (.ref l0), some (.int l1), some (.int l2)]) (st' := [.int (9 : Int32), .int (0 : Int32), .int l1]) (D' := D) (pc' := 4) rfl (rfl) rfl ?_
  obtain ⟨v1, D1, hc1, hf⟩ := ev_bd_s hf
  refine ev_callS hX YX11_within ml_RX11_85 (mX11_within hT  hc1) (vs := [.int l1, .int (0 : Int32), .int (9 : Int32)]) (st := []) (by decide) rfl rfl (by decide +kernel) hC ?_
  show F S D1 7 [some (.ref l0), some (.int l1), some (.int l2)] [.int v1]
  refine ev_if_eq hX (off := 14) 21 (by decide +kernel) (by decide) (fun h2 => ?_) (fun h2 => ?_)
  · have hf := ev_it h2 hf
    refine ev_blk hX lkok_RX11 [(.iconst 0, 1, 0, 0, 0)] (by decide +kernel) (g := true) (lv' := [some (.ref l0), some (.int l1), some (.int l2)]) (st' := [.int (0 : Int32)]) (D' := D1) (pc' := 22) rfl (rfl) rfl ?_
    exact ev_zret hR ev_sm.rf (Or.inl rfl) (Option.some.inj hf) hC (by decide +kernel)
  · have hf := ev_nf h2 hf
    refine ev_blk hX lkok_RX11 [(.iload_n 2, 1, 0, 0, 0), (.bipush (-9), 2, 0, 0, (-9)), (.bipush 9, 2, 0, 0, 9)] (by decide +kernel) (g := true) (lv' := [some (.ref l0), some (.int l1), some (.int l2)]) (st' := [.int (9 : Int32), .int (-9 : Int32), .int l2]) (D' := D1) (pc' := 15) rfl (rfl) rfl ?_
    obtain ⟨v3, D3, hc3, hf⟩ := ev_bd_s hf
    refine ev_callS hX YX11_within ml_RX11_85 (mX11_within hT  hc3) (vs := [.int l2, .int (-9 : Int32), .int (9 : Int32)]) (st := []) (by decide) rfl rfl (by decide +kernel) hC ?_
    show F S D3 18 [some (.ref l0), some (.int l1), some (.int l2)] [.int v3]
    refine ev_if_ne hX (off := 5) 23 (by decide +kernel) (by decide) (fun h4 => ?_) (fun h4 => ?_)
    · have hf := ev_nf h4 hf
      obtain ⟨hg5, hf⟩ := ev_gd_s hf
      refine ev_blk hX lkok_RX11 [(.aload_n 0, 1, 0, 0, 0), (.getfield 10, 3, 11, 0, 0), (.getfield 64, 3, 10, 3, 0), (.getfield 306, 3, 8, 6, 0), (.iload_n 1, 1, 0, 0, 0), (.iload_n 2, 1, 0, 0, 0), (.iastore, 1, 0, 0, 0), (.iconst 1, 1, 0, 0, 1)] (by decide +kernel) (g := (sK S l0 == 14) && ((sK S ((sE S) l0 0) == 13) && ((sK S ((sE S) ((sE S) l0 0) 3) == 11) && ((sK S ((sE S) ((sE S) ((sE S) l0 0) 3) 6) == 1 && ev_in l1 ((sL S) ((sE S) ((sE S) ((sE S) l0 0) 3) 6))) && (true))))) (lv' := [some (.ref l0), some (.int l1), some (.int l2)]) (st' := [.int (1 : Int32)]) (D' := (ev_up D3 ((sE S) ((sE S) ((sE S) l0 0) 3) 6) (l1).toNatClampNeg l2)) (pc' := 37) rfl (ev_gk hl0 (ev_gk (ev_tyk hT hl0 rfl rfl) (ev_gk (ev_tyk hT (ev_tyk hT hl0 rfl rfl) rfl rfl) (ev_gi (ev_tyk hT (ev_tyk hT (ev_tyk hT hl0 rfl rfl) rfl rfl) rfl rfl) hg5 (rfl))))) rfl ?_
      exact ev_zret hR ev_sm.rf (Or.inr rfl) (Option.some.inj hf) hC (by decide +kernel)
    · have hf := ev_it h4 hf
      refine ev_blk hX lkok_RX11 [(.iconst 0, 1, 0, 0, 0)] (by decide +kernel) (g := true) (lv' := [some (.ref l0), some (.int l1), some (.int l2)]) (st' := [.int (0 : Int32)]) (D' := D3) (pc' := 22) rfl (rfl) rfl ?_
      exact ev_zret hR ev_sm.rf (Or.inl rfl) (Option.some.inj hf) hC (by decide +kernel)
theorem mX11_opinion {S : ev_S} {fu : Nat} {r : Int32 × ev_D} (hT : ev_Ty S) {l0 : Nat} {l1 : Int32} {l2 : Int32} {D : ev_D} (hl0 : sK S l0 = 14) (hf : fX11_opinion (sL S) (sE S) fu l0 l1 l2 D = some r) : ev_M 1 0 0 yX11_opinion cX11_opinion 3 (some .boolean) [.ref l0, .int l1, .int l2] S D S r :=
  ev_met (ini := false) (plainFor_of_name (by decide)) (fun h => by cases h) rfl (Nat.le_of_ble_eq_true rfl) (fun F hR => tX11_opinion (S := ev_z S) hR hT ⟨Nat.le_refl 0, Nat.le_refl 0⟩ hl0 hf)
set_option maxHeartbeats 4000000 in
set_option maxRecDepth 100000 in
theorem tX3_opinionOfAwake_4 {S : ev_S} {fu : Nat} {r : Int32 × ev_D} {F : ev_Fr} (hR : ev_R RX3 cX3_opinionOfAwake 3 2 0 0 false (some .int) S r F) (hT : ev_Ty S) (hC : sC S ≤ 0 ∧ sA S ≤ 0) : ∀ (n : Nat) (l0 : Nat) (l1 : Int32) (l2 : Int32) (D : ev_D), sK S l0 = 6 → fX3_opinionOfAwake_4 (sL S) (sE S) fu n l0 l1 l2 D = some r → F S D 4 [some (.ref l0), some (.int l1), some (.int l2)] [] := by
  have hX := hR.X
  intro n
  induction n with
  | zero =>
    intro l0 l1 l2 D hl0 hf
    rw [fX3_opinionOfAwake_4] at hf
    cases hf
  | succ n ih =>
    intro l0 l1 l2 D hl0 hf
    rw [fX3_opinionOfAwake_4] at hf
    refine ev_blk hX lkok_RX3 [(.iload_n 2, 1, 0, 0, 0), (.aload_n 0, 1, 0, 0, 0), (.getfield 33, 3, 3, 0, 0), (.getfield 114, 3, 9, 5, 0)] (by decide +kernel) (g := (sK S l0 == 6) && ((sK S ((sE S) l0 0) == 12) && (true))) (lv' := [some (.ref l0), some (.int l1), some (.int l2)]) (st' := [.int (D ((sE S) l0 0) 5), .int l2]) (D' := D) (pc' := 12) rfl (ev_gk hl0 (ev_gk (ev_tyk hT hl0 rfl rfl) (rfl))) rfl ?_
    refine ev_ic_ge hX (off := 32) 44 (by decide +kernel) (by decide) (fun h1 => ?_) (fun h1 => ?_)
    · have hf := ev_it h1 hf
      refine ev_blk hX lkok_RX3 [(.iload_n 1, 1, 0, 0, 0)] (by decide +kernel) (g := true) (lv' := [some (.ref l0), some (.int l1), some (.int l2)]) (st' := [.int l1]) (D' := D) (pc' := 45) rfl (rfl) rfl ?_
      exact ev_iret hR ev_sm.rf (Option.some.inj hf) hC (by decide +kernel)
    · have hf := ev_nf h1 hf
      refine ev_blk hX lkok_RX3 [(.aload_n 0, 1, 0, 0, 0), (.getfield 33, 3, 3, 0, 0), (.iload_n 2, 1, 0, 0, 0)] (by decide +kernel) (g := (sK S l0 == 6) && (true)) (lv' := [some (.ref l0), some (.int l1), some (.int l2)]) (st' := [.int l2, .ref ((sE S) l0 0)]) (D' := D) (pc' := 20) rfl (ev_gk hl0 (rfl)) rfl ?_
      obtain ⟨v2, D2, hc2, hf⟩ := ev_bd_s hf
      refine ev_callV hX YX9_isAwake ml_RX3_191 (mX9_isAwake hT (ev_tyk hT hl0 rfl rfl) hc2) (vs := [.int l2]) (st := []) (by decide) 9 (ev_tyk hT hl0 rfl rfl) rfl rfl rfl (by decide +kernel) hC ?_
      show F S D2 23 [some (.ref l0), some (.int l1), some (.int l2)] [.int v2]
      refine ev_if_eq hX (off := 15) 38 (by decide +kernel) (by decide) (fun h3 => ?_) (fun h3 => ?_)
      · have hf := ev_it h3 hf
        refine ev_blk hX lkok_RX3 [(.iinc 2 1, 3, 0, 0, 1)] (by decide +kernel) (g := true) (lv' := [some (.ref l0), some (.int l1), some (.int (l2 + (1 : Int32)))]) (st' := []) (D' := D2) (pc' := 41) rfl (rfl) rfl ?_
        refine ev_goto hX (off := (-37)) 4 (by decide +kernel) (by decide) ?_
        exact ev_weak hX (ev_le_eq (ev_le_eq (ev_le_eq ev_le_nil))) (ih _ _ _ _ hl0 hf)
      · have hf := ev_nf h3 hf
        obtain ⟨hg4, hf⟩ := ev_gd_s hf
        refine ev_blk hX lkok_RX3 [(.iload_n 1, 1, 0, 0, 0), (.aload_n 0, 1, 0, 0, 0), (.getfield 41, 3, 3, 2, 0), (.getfield 194, 3, 8, 6, 0), (.iload_n 2, 1, 0, 0, 0), (.iaload, 1, 0, 0, 0), (.iadd, 1, 0, 0, 0), (.istore_n 1, 1, 0, 0, 0), (.iinc 2 1, 3, 0, 0, 1)] (by decide +kernel) (g := (sK S l0 == 6) && ((sK S ((sE S) l0 2) == 11) && ((sK S ((sE S) ((sE S) l0 2) 6) == 1 && ev_in l2 ((sL S) ((sE S) ((sE S) l0 2) 6))) && (true)))) (lv' := [some (.ref l0), some (.int (l1 + (D2 ((sE S) ((sE S) l0 2) 6) (l2).toNatClampNeg))), some (.int (l2 + (1 : Int32)))]) (st' := []) (D' := D2) (pc' := 41) rfl (ev_gk hl0 (ev_gk (ev_tyk hT hl0 rfl rfl) (ev_gi (ev_tyk hT (ev_tyk hT hl0 rfl rfl) rfl rfl) hg4 (rfl)))) rfl ?_
        refine ev_goto hX (off := (-37)) 4 (by decide +kernel) (by decide) ?_
        exact ev_weak hX (ev_le_eq (ev_le_eq (ev_le_eq ev_le_nil))) (ih _ _ _ _ hl0 hf)
set_option maxHeartbeats 4000000 in
set_option maxRecDepth 100000 in
theorem tX3_opinionOfAwake {S : ev_S} {fu : Nat} {r : Int32 × ev_D} {F : ev_Fr} (hR : ev_R RX3 cX3_opinionOfAwake 3 2 0 0 false (some .int) S r F) (hT : ev_Ty S) (hC : sC S ≤ 0 ∧ sA S ≤ 0) {l0 : Nat} {D : ev_D} (hl0 : sK S l0 = 6) (hf : fX3_opinionOfAwake (sL S) (sE S) fu l0 D = some r) : F S D 0 [some (.ref l0), none, none] [] := by
  have hX := hR.X
  unfold fX3_opinionOfAwake at hf
  refine ev_blk hX lkok_RX3 [(.iconst 0, 1, 0, 0, 0), (.istore_n 1, 1, 0, 0, 0), (.iconst 0, 1, 0, 0, 0), (.istore_n 2, 1, 0, 0, 0)] (by decide +kernel) (g := true) (lv' := [some (.ref l0), some (.int (0 : Int32)), some (.int (0 : Int32))]) (st' := []) (D' := D) (pc' := 4) rfl (rfl) rfl ?_
  exact ev_weak hX (ev_le_eq (ev_le_eq (ev_le_eq ev_le_nil))) (tX3_opinionOfAwake_4 hR hT hC  fu _ _ _ _ hl0 hf)
theorem mX3_opinionOfAwake {S : ev_S} {fu : Nat} {r : Int32 × ev_D} (hT : ev_Ty S) {l0 : Nat} {D : ev_D} (hl0 : sK S l0 = 6) (hf : fX3_opinionOfAwake (sL S) (sE S) fu l0 D = some r) : ev_M 2 0 0 yX3_opinionOfAwake cX3_opinionOfAwake 3 (some .int) [.ref l0] S D S r :=
  ev_met (ini := false) (plainFor_of_name (by decide)) (fun h => by cases h) rfl (Nat.le_of_ble_eq_true rfl) (fun F hR => tX3_opinionOfAwake (S := ev_z S) hR hT ⟨Nat.le_refl 0, Nat.le_refl 0⟩ hl0 hf)
