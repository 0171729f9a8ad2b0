set_option maxHeartbeats 4000000 in
set_option maxRecDepth 100000 in
theorem tX3_apart_20 {S : ev_S} {fu : Nat} {r : Int32 × ev_D} {F : ev_Fr} (hR : ev_R RX3 cX3_apart 5 1 0 0 false (some .int) S r F) (hT : ev_Ty S) (hC : sC S ≤ 0 ∧ sA S ≤ 0) {k4 : Nat → Int32 → Int32 → ev_D → ev_Op} (hk4 : ∀ (l0 : Nat) (l1 : Int32) (l2 : Int32) (D : ev_D), sK S l0 = 6 → k4 l0 l1 l2 D = some r → F S D 4 [some (.ref l0), some (.int l1), some (.int l2), none, none] []) : ∀ (n : Nat) (l0 : Nat) (l1 : Int32) (l2 : Int32) (l3 : Int32) (D : ev_D), sK S l0 = 6 → fX3_apart_20 (sL S) (sE S) fu k4 n l0 l1 l2 l3 D = some r → F S D 20 [some (.ref l0), some (.int l1), some (.int l2), some (.int l3), none] [] := by
  have hX := hR.X
  intro n
  induction n with
  | zero =>
    intro l0 l1 l2 l3 D hl0 hf
    rw [fX3_apart_20] at hf
    cases hf
  | succ n ih =>
    intro l0 l1 l2 l3 D hl0 hf
    rw [fX3_apart_20] at hf
    refine ev_blk hX lkok_RX3 [(.iload_n 3, 1, 0, 0, 0), (.iload_n 2, 1, 0, 0, 0)] (by decide +kernel) (g := true) (lv' := [some (.ref l0), some (.int l1), some (.int l2), some (.int l3), none]) (st' := [.int l2, .int l3]) (D' := D) (pc' := 22) rfl (rfl) rfl ?_
    refine ev_ic_ge hX (off := 53) 75 (by decide +kernel) (by decide) (fun h1 => ?_) (fun h1 => ?_)
    · have hf := ev_it h1 hf
      refine ev_blk hX lkok_RX3 [(.iinc 2 1, 3, 0, 0, 1)] (by decide +kernel) (g := true) (lv' := [some (.ref l0), some (.int l1), some (.int (l2 + (1 : Int32))), some (.int l3), none]) (st' := []) (D' := D) (pc' := 78) rfl (rfl) rfl ?_
      refine ev_goto hX (off := (-74)) 4 (by decide +kernel) (by decide) ?_
      exact ev_weak hX (ev_le_eq (ev_le_eq (ev_le_eq (ev_le_no (ev_le_no ev_le_nil))))) (hk4 _ _ _ _ hl0 hf)
    · have hf := ev_nf h1 hf
      refine ev_blk hX lkok_RX3 [(.aload_n 0, 1, 0, 0, 0), (.getfield 41, 3, 3, 2, 0), (.getfield 83, 3, 8, 0, 0), (.iload_n 2, 1, 0, 0, 0), (.iconst 0, 1, 0, 0, 0)] (by decide +kernel) (g := (sK S l0 == 6) && ((sK S ((sE S) l0 2) == 11) && (true))) (lv' := [some (.ref l0), some (.int l1), some (.int l2), some (.int l3), none]) (st' := [.int (0 : Int32), .int l2, .ref ((sE S) ((sE S) l0 2) 0)]) (D' := D) (pc' := 34) rfl (ev_gk hl0 (ev_gk (ev_tyk hT hl0 rfl rfl) (rfl))) rfl ?_
      obtain ⟨v2, D2, hc2, hf⟩ := ev_bd_s hf
      refine ev_callV hX YX6_cell ml_RX3_61 (mX6_cell hT (ev_tyk hT (ev_tyk hT hl0 rfl rfl) rfl rfl) hc2) (vs := [.int l2, .int (0 : Int32)]) (st := []) (by decide) 6 (ev_tyk hT (ev_tyk hT hl0 rfl rfl) rfl rfl) rfl rfl rfl (by decide +kernel) hC ?_
      show F S D2 37 [some (.ref l0), some (.int l1), some (.int l2), some (.int l3), none] [.int v2]
      refine ev_blk hX lkok_RX3 [(.aload_n 0, 1, 0, 0, 0), (.getfield 41, 3, 3, 2, 0), (.getfield 83, 3, 8, 0, 0), (.iload_n 3, 1, 0, 0, 0), (.iconst 0, 1, 0, 0, 0)] (by decide +kernel) (g := (sK S l0 == 6) && ((sK S ((sE S) l0 2) == 11) && (true))) (lv' := [some (.ref l0), some (.int l1), some (.int l2), some (.int l3), none]) (st' := [.int (0 : Int32), .int l3, .ref ((sE S) ((sE S) l0 2) 0), .int v2]) (D' := D2) (pc' := 46) rfl (ev_gk hl0 (ev_gk (ev_tyk hT hl0 rfl rfl) (rfl))) rfl ?_
      obtain ⟨v3, D3, hc3, hf⟩ := ev_bd_s hf
      refine ev_callV hX YX6_cell ml_RX3_61 (mX6_cell hT (ev_tyk hT (ev_tyk hT hl0 rfl rfl) rfl rfl) hc3) (vs := [.int l3, .int (0 : Int32)]) (st := [.int v2]) (by decide) 6 (ev_tyk hT (ev_tyk hT hl0 rfl rfl) rfl rfl) rfl rfl rfl (by decide +kernel) hC ?_
      show F S D3 49 [some (.ref l0), some (.int l1), some (.int l2), some (.int l3), none] [.int v3, .int v2]
      refine ev_blk hX lkok_RX3 [(.ixor, 1, 0, 0, 0)] (by decide +kernel) (g := true) (lv' := [some (.ref l0), some (.int l1), some (.int l2), some (.int l3), none]) (st' := [.int (v2 ^^^ v3)]) (D' := D3) (pc' := 50) rfl (rfl) rfl ?_
      obtain ⟨v4, D4, hc4, hf⟩ := ev_bd_s hf
      refine ev_callS hX YJ6_bitCount ml_RX3_88 (mJ6_bitCount hT  hc4) (vs := [.int (v2 ^^^ v3)]) (st := []) (by decide) rfl rfl (by decide +kernel) hC ?_
      show F S D4 53 [some (.ref l0), some (.int l1), some (.int l2), some (.int l3), none] [.int v4]
      refine ev_blk hX lkok_RX3 [(.istore 4, 2, 0, 0, 0), (.iload_n 1, 1, 0, 0, 0), (.iconst (-1), 1, 0, 0, (-1))] (by decide +kernel) (g := true) (lv' := [some (.ref l0), some (.int l1), some (.int l2), some (.int l3), some (.int v4)]) (st' := [.int (-1 : Int32), .int l1]) (D' := D4) (pc' := 57) rfl (rfl) rfl ?_
      refine ev_ic_eq hX (off := 9) 66 (by decide +kernel) (by decide) (fun h5 => ?_) (fun h5 => ?_)
      · have hf := ev_it h5 hf
        refine ev_blk hX lkok_RX3 [(.iload 4, 2, 0, 0, 0), (.istore_n 1, 1, 0, 0, 0), (.iinc 3 1, 3, 0, 0, 1)] (by decide +kernel) (g := true) (lv' := [some (.ref l0), some (.int v4), some (.int l2), some (.int (l3 + (1 : Int32))), some (.int v4)]) (st' := []) (D' := D4) (pc' := 72) rfl (rfl) rfl ?_
        refine ev_goto hX (off := (-52)) 20 (by decide +kernel) (by decide) ?_
        exact ev_weak hX (ev_le_eq (ev_le_eq (ev_le_eq (ev_le_eq (ev_le_no ev_le_nil))))) (ih _ _ _ _ _ hl0 hf)
      · have hf := ev_nf h5 hf
        refine ev_blk hX lkok_RX3 [(.iload 4, 2, 0, 0, 0), (.iload_n 1, 1, 0, 0, 0)] (by decide +kernel) (g := true) (lv' := [some (.ref l0), some (.int l1), some (.int l2), some (.int l3), some (.int v4)]) (st' := [.int l1, .int v4]) (D' := D4) (pc' := 63) rfl (rfl) rfl ?_
        refine ev_ic_ge hX (off := 6) 69 (by decide +kernel) (by decide) (fun h6 => ?_) (fun h6 => ?_)
        · have hf := ev_it h6 hf
          refine ev_blk hX lkok_RX3 [(.iinc 3 1, 3, 0, 0, 1)] (by decide +kernel) (g := true) (lv' := [some (.ref l0), some (.int l1), some (.int l2), some (.int (l3 + (1 : Int32))), some (.int v4)]) (st' := []) (D' := D4) (pc' := 72) rfl (rfl) rfl ?_
          refine ev_goto hX (off := (-52)) 20 (by decide +kernel) (by decide) ?_
          exact ev_weak hX (ev_le_eq (ev_le_eq (ev_le_eq (ev_le_eq (ev_le_no ev_le_nil))))) (ih _ _ _ _ _ hl0 hf)
        · have hf := ev_nf h6 hf
          refine ev_blk hX lkok_RX3 [(.iload 4, 2, 0, 0, 0), (.istore_n 1, 1, 0, 0, 0), (.iinc 3 1, 3, 0, 0, 1)] (by decide +kernel) (g := true) (lv' := [some (.ref l0), some (.int v4), some (.int l2), some (.int (l3 + (1 : Int32))), some (.int v4)]) (st' := []) (D' := D4) (pc' := 72) rfl (rfl) rfl ?_
          refine ev_goto hX (off := (-52)) 20 (by decide +kernel) (by decide) ?_
          exact ev_weak hX (ev_le_eq (ev_le_eq (ev_le_eq (ev_le_eq (ev_le_no ev_le_nil))))) (ih _ _ _ _ _ hl0 hf)
set_option maxHeartbeats 4000000 in
set_option maxRecDepth 100000 in
theorem tX3_apart_4 {S : ev_S} {fu : Nat} {r : Int32 × ev_D} {F : ev_Fr} (hR : ev_R RX3 cX3_apart 5 1 0 0 false (some .int) S r F) (hT : ev_Ty S) (hC : sC S ≤ 0 ∧ sA S ≤ 0) : ∀ (n : Nat) (l0 : Nat) (l1 : Int32) (l2 : Int32) (D : ev_D), sK S l0 = 6 → fX3_apart_4 (sL S) (sE S) fu n l0 l1 l2 D = some r → F S D 4 [some (.ref l0), some (.int l1), some (.int l2), none, none] [] := by
  have hX := hR.X
  intro n
  induction n with
  | zero =>
    intro l0 l1 l2 D hl0 hf
    rw [fX3_apart_4] at hf
    cases hf
  | succ n ih =>
    intro l0 l1 l2 D hl0 hf
    rw [fX3_apart_4] at hf
    refine ev_blk hX lkok_RX3 [(.iload_n 2, 1, 0, 0, 0), (.aload_n 0, 1, 0, 0, 0), (.getfield 41, 3, 3, 2, 0), (.getfield 83, 3, 8, 0, 0), (.getfield 55, 3, 6, 0, 0)] (by decide +kernel) (g := (sK S l0 == 6) && ((sK S ((sE S) l0 2) == 11) && ((sK S ((sE S) ((sE S) l0 2) 0) == 9) && (true)))) (lv' := [some (.ref l0), some (.int l1), some (.int l2), none, none]) (st' := [.int (D ((sE S) ((sE S) l0 2) 0) 0), .int l2]) (D' := D) (pc' := 15) rfl (ev_gk hl0 (ev_gk (ev_tyk hT hl0 rfl rfl) (ev_gk (ev_tyk hT (ev_tyk hT hl0 rfl rfl) rfl rfl) (rfl)))) rfl ?_
    refine ev_ic_ge hX (off := 66) 81 (by decide +kernel) (by decide) (fun h7 => ?_) (fun h7 => ?_)
    · have hf := ev_it h7 hf
      refine ev_blk hX lkok_RX3 [(.iload_n 1, 1, 0, 0, 0)] (by decide +kernel) (g := true) (lv' := [some (.ref l0), some (.int l1), some (.int l2), none, none]) (st' := [.int l1]) (D' := D) (pc' := 82) rfl (rfl) rfl ?_
      exact ev_iret hR ev_sm.rf (Option.some.inj hf) hC (by decide +kernel)
    · have hf := ev_nf h7 hf
      refine ev_blk hX lkok_RX3 [(.iconst 0, 1, 0, 0, 0), (.istore_n 3, 1, 0, 0, 0)] (by decide +kernel) (g := true) (lv' := [some (.ref l0), some (.int l1), some (.int l2), some (.int (0 : Int32)), none]) (st' := []) (D' := D) (pc' := 20) rfl (rfl) rfl ?_
      exact ev_weak hX (ev_le_eq (ev_le_eq (ev_le_eq (ev_le_eq (ev_le_no ev_le_nil))))) (tX3_apart_20 hR hT hC  ih fu _ _ _ _ _ hl0 hf)
set_option maxHeartbeats 4000000 in
set_option maxRecDepth 100000 in
theorem tX3_apart {S : ev_S} {fu : Nat} {r : Int32 × ev_D} {F : ev_Fr} (hR : ev_R RX3 cX3_apart 5 1 0 0 false (some .int) S r F) (hT : ev_Ty S) (hC : sC S ≤ 0 ∧ sA S ≤ 0) {l0 : Nat} {D : ev_D} (hl0 : sK S l0 = 6) (hf : fX3_apart (sL S) (sE S) fu l0 D = some r) : F S D 0 [some (.ref l0), none, none, none, none] [] := by
  have hX := hR.X
  unfold fX3_apart at hf
  refine ev_blk hX lkok_RX3 [(.iconst (-1), 1, 0, 0, (-1)), (.istore_n 1, 1, 0, 0, 0), (.iconst 0, 1, 0, 0, 0), (.istore_n 2, 1, 0, 0, 0)] (by decide +kernel) (g := true) (lv' := [some (.ref l0), some (.int (-1 : Int32)), some (.int (0 : Int32)), none, none]) (st' := []) (D' := D) (pc' := 4) rfl (rfl) rfl ?_
  exact ev_weak hX (ev_le_eq (ev_le_eq (ev_le_eq (ev_le_no (ev_le_no ev_le_nil))))) (tX3_apart_4 hR hT hC   fu _ _ _ _ hl0 hf)
theorem mX3_apart {S : ev_S} {fu : Nat} {r : Int32 × ev_D} (hT : ev_Ty S) {l0 : Nat} {D : ev_D} (hl0 : sK S l0 = 6) (hf : fX3_apart (sL S) (sE S) fu l0 D = some r) : ev_M 1 0 0 yX3_apart cX3_apart 5 (some .int) [.ref l0] S D S r :=
  ev_met (ini := false) (plainFor_of_name (by decide)) (fun h => by cases h) rfl (Nat.le_of_ble_eq_true rfl) (fun F hR => tX3_apart (S := ev_z S) hR hT ⟨Nat.le_refl 0, Nat.le_refl 0⟩ hl0 hf)
set_option maxHeartbeats 4000000 in
set_option maxRecDepth 100000 in
theorem tJ9_floorDiv {S : ev_S} {fu : Nat} {r : Int32 × ev_D} {F : ev_Fr} (hR : ev_R RJ9 cJ9_floorDiv_7cf53 3 0 0 0 false (some .int) S r F) (hT : ev_Ty S) (hC : sC S ≤ 0 ∧ sA S ≤ 0) {l0 : Int32} {l1 : Int32} {D : ev_D}  (hf : fJ9_floorDiv (sL S) (sE S) fu l0 l1 D = some r) : F S D 0 [some (.int l0), some (.int l1), none] [] := by
  have hX := hR.X
  unfold fJ9_floorDiv at hf
  obtain ⟨hg3, hf⟩ := ev_gd_s hf
  refine ev_blk hX lkok_RJ9 [(.iload_n 0, 1, 0, 0, 0), (.iload_n 1, 1, 0, 0, 0), (.idiv, 1, 0, 0, 0), (.istore_n 2, 1, 0, 0, 0), (.iload_n 0, 1, 0, 0, 0), (.iload_n 1, 1, 0, 0, 0), (.ixor, 1, 0, 0, 0)] (by decide +kernel) (g := (!(decide (l1 = 0))) && (true)) (lv' := [some (.int l0), some (.int l1), some (.int (l0 / l1))]) (st' := [.int (l0 ^^^ l1)]) (D' := D) (pc' := 7) rfl (ev_g2 hg3 (rfl)) rfl ?_
  refine ev_if_ge hX (off := 14) 21 (by decide +kernel) (by decide) (fun h1 => ?_) (fun h1 => ?_)
  · have hf := ev_it h1 hf
    refine ev_blk hX lkok_RJ9 [(.iload_n 2, 1, 0, 0, 0)] (by decide +kernel) (g := true) (lv' := [some (.int l0), some (.int l1), some (.int (l0 / l1))]) (st' := [.int (l0 / l1)]) (D' := D) (pc' := 22) rfl (rfl) rfl ?_
    exact ev_iret hR ev_sm.rf (Option.some.inj hf) hC (by decide +kernel)
  · have hf := ev_nf h1 hf
    refine ev_blk hX lkok_RJ9 [(.iload_n 2, 1, 0, 0, 0), (.iload_n 1, 1, 0, 0, 0), (.imul, 1, 0, 0, 0), (.iload_n 0, 1, 0, 0, 0)] (by decide +kernel) (g := true) (lv' := [some (.int l0), some (.int l1), some (.int (l0 / l1))]) (st' := [.int l0, .int ((l0 / l1) * l1)]) (D' := D) (pc' := 14) rfl (rfl) rfl ?_
    refine ev_ic_eq hX (off := 7) 21 (by decide +kernel) (by decide) (fun h2 => ?_) (fun h2 => ?_)
    · have hf := ev_it h2 hf
      refine ev_blk hX lkok_RJ9 [(.iload_n 2, 1, 0, 0, 0)] (by decide +kernel) (g := true) (lv' := [some (.int l0), some (.int l1), some (.int (l0 / l1))]) (st' := [.int (l0 / l1)]) (D' := D) (pc' := 22) rfl (rfl) rfl ?_
      exact ev_iret hR ev_sm.rf (Option.some.inj hf) hC (by decide +kernel)
    · have hf := ev_nf h2 hf
      refine ev_blk hX lkok_RJ9 [(.iload_n 2, 1, 0, 0, 0), (.iconst 1, 1, 0, 0, 1), (.isub, 1, 0, 0, 0)] (by decide +kernel) (g := true) (lv' := [some (.int l0), some (.int l1), some (.int (l0 / l1))]) (st' := [.int ((l0 / l1) - (1 : Int32))]) (D' := D) (pc' := 20) rfl (rfl) rfl ?_
      exact ev_iret hR ev_sm.rf (Option.some.inj hf) hC (by decide +kernel)
theorem mJ9_floorDiv {S : ev_S} {fu : Nat} {r : Int32 × ev_D} (hT : ev_Ty S) {l0 : Int32} {l1 : Int32} {D : ev_D}  (hf : fJ9_floorDiv (sL S) (sE S) fu l0 l1 D = some r) : ev_M 0 0 0 yJ9_floorDiv_7cf53 cJ9_floorDiv_7cf53 3 (some .int) [.int l0, .int l1] S D S r :=
  ev_met (ini := false) (by decide +kernel) (fun h => by cases h) rfl (Nat.le_of_ble_eq_true rfl) (fun F hR => tJ9_floorDiv (S := ev_z S) hR hT ⟨Nat.le_refl 0, Nat.le_refl 0⟩  hf)
set_option maxHeartbeats 4000000 in
set_option maxRecDepth 100000 in
theorem tX3_canGoWrong {S : ev_S} {fu : Nat} {r : Int32 × ev_D} {F : ev_Fr} (hR : ev_R RX3 cX3_canGoWrong 2 2 0 0 false (some .int) S r F) (hT : ev_Ty S) (hC : sC S ≤ 0 ∧ sA S ≤ 0) {l0 : Nat} {D : ev_D} (hl0 : sK S l0 = 6) (hf : fX3_canGoWrong (sL S) (sE S) fu l0 D = some r) : F S D 0 [some (.ref l0), none] [] := by
  have hX := hR.X
  unfold fX3_canGoWrong at hf
  refine ev_blk hX lkok_RX3 [(.aload_n 0, 1, 0, 0, 0)] (by decide +kernel) (g := true) (lv' := [some (.ref l0), none]) (st' := [.ref l0]) (D' := D) (pc' := 1) rfl (rfl) rfl ?_
  obtain ⟨v1, D1, hc1, hf⟩ := ev_bd_s hf
  refine ev_callV hX YX3_apart ml_RX3_94 (mX3_apart hT hl0 hc1) (vs := []) (st := []) (by decide) 3 hl0 rfl rfl rfl (by decide +kernel) hC ?_
  show F S D1 4 [some (.ref l0), none] [.int v1]
  refine ev_blk hX lkok_RX3 [(.istore_n 1, 1, 0, 0, 0), (.iload_n 1, 1, 0, 0, 0), (.iconst (-1), 1, 0, 0, (-1))] (by decide +kernel) (g := true) (lv' := [some (.ref l0), some (.int v1)]) (st' := [.int (-1 : Int32), .int v1]) (D' := D1) (pc' := 7) rfl (rfl) rfl ?_
  refine ev_ic_ne hX (off := 7) 14 (by decide +kernel) (by decide) (fun h2 => ?_) (fun h2 => ?_)
  · have hf := ev_nf h2 hf
    refine ev_blk hX lkok_RX3 [(.iconst 0, 1, 0, 0, 0), (.iload_n 1, 1, 0, 0, 0), (.iconst 1, 1, 0, 0, 1), (.isub, 1, 0, 0, 0), (.iconst 2, 1, 0, 0, 2)] (by decide +kernel) (g := true) (lv' := [some (.ref l0), some (.int v1)]) (st' := [.int (2 : Int32), .int (v1 - (1 : Int32)), .int (0 : Int32)]) (D' := D1) (pc' := 19) rfl (rfl) rfl ?_
    obtain ⟨v3, D3, hc3, hf⟩ := ev_bd_s hf
    refine ev_callS hX YJ9_floorDiv ml_RX3_97 (mJ9_floorDiv hT  hc3) (vs := [.int (v1 - (1 : Int32)), .int (2 : Int32)]) (st := [.int (0 : Int32)]) (by decide) rfl rfl (by decide +kernel) hC ?_
    show F S D3 22 [some (.ref l0), some (.int v1)] [.int v3, .int (0 : Int32)]
    obtain ⟨v4, D4, hc4, hf⟩ := ev_bd_s hf
    refine ev_callS hX YJ9_max ml_RX3_102 (mJ9_max hT  hc4) (vs := [.int (0 : Int32), .int v3]) (st := []) (by decide) rfl rfl (by decide +kernel) hC ?_
    show F S D4 25 [some (.ref l0), some (.int v1)] [.int v4]
    exact ev_iret hR ev_sm.rf (Option.some.inj hf) hC (by decide +kernel)
  · have hf := ev_it h2 hf
    refine ev_blk hX lkok_RX3 [(.iconst (-1), 1, 0, 0, (-1))] (by decide +kernel) (g := true) (lv' := [some (.ref l0), some (.int v1)]) (st' := [.int (-1 : Int32)]) (D' := D1) (pc' := 11) rfl (rfl) rfl ?_
    refine ev_goto hX (off := 14) 25 (by decide +kernel) (by decide) ?_
    exact ev_iret hR ev_sm.rf (Option.some.inj hf) hC (by decide +kernel)
theorem mX3_canGoWrong {S : ev_S} {fu : Nat} {r : Int32 × ev_D} (hT : ev_Ty S) {l0 : Nat} {D : ev_D} (hl0 : sK S l0 = 6) (hf : fX3_canGoWrong (sL S) (sE S) fu l0 D = some r) : ev_M 2 0 0 yX3_canGoWrong cX3_canGoWrong 2 (some .int) [.ref l0] S D S r :=
  ev_met (ini := false) (plainFor_of_name (by decide)) (fun h => by cases h) rfl (Nat.le_of_ble_eq_true rfl) (fun F hR => tX3_canGoWrong (S := ev_z S) hR hT ⟨Nat.le_refl 0, Nat.le_refl 0⟩ hl0 hf)
set_option maxHeartbeats 4000000 in
set_option maxRecDepth 100000 in
theorem tX3_nearestSign_9 {S : ev_S} {fu : Nat} {r : Int32 × ev_D} {F : ev_Fr} (hR : ev_R RX3 cX3_nearestSign 7 1 0 0 false (some .int) S r F) (hT : ev_Ty S) (hC : sC S ≤ 0 ∧ sA S ≤ 0) : ∀ (n : Nat) (l0 : Nat) (l1 : Int32) (l2 : Int32) (l3 : Int32) (l4 : Int32) (l5 : Int32) (D : ev_D), sK S l0 = 6 → fX3_nearestSign_9 (sL S) (sE S) fu n l0 l1 l2 l3 l4 l5 D = some r → F S D 9 [some (.ref l0), some (.int l1), some (.int l2), some (.int l3), some (.int l4), some (.int l5), none] [] := by
  have hX := hR.X
  intro n
  induction n with
  | zero =>
    intro l0 l1 l2 l3 l4 l5 D hl0 hf
    rw [fX3_nearestSign_9] at hf
    cases hf
  | succ n ih =>
    intro l0 l1 l2 l3 l4 l5 D hl0 hf
    rw [fX3_nearestSign_9] at hf
    refine ev_blk hX lkok_RX3 [(.iload 5, 2, 0, 0, 0), (.aload_n 0, 1, 0, 0, 0), (.getfield 41, 3, 3, 2, 0), (.getfield 83, 3, 8, 0, 0), (.getfield 55, 3, 6, 0, 0)] (by decide +kernel) (g := (sK S l0 == 6) && ((sK S ((sE S) l0 2) == 11) && ((sK S ((sE S) ((sE S) l0 2) 0) == 9) && (true)))) (lv' := [some (.ref l0), some (.int l1), some (.int l2), some (.int l3), some (.int l4), some (.int l5), none]) (st' := [.int (D ((sE S) ((sE S) l0 2) 0) 0), .int l5]) (D' := D) (pc' := 21) rfl (ev_gk hl0 (ev_gk (ev_tyk hT hl0 rfl rfl) (ev_gk (ev_tyk hT (ev_tyk hT hl0 rfl rfl) rfl rfl) (rfl)))) rfl ?_
    refine ev_ic_ge hX (off := 43) 64 (by decide +kernel) (by decide) (fun h1 => ?_) (fun h1 => ?_)
    · have hf := ev_it h1 hf
      refine ev_blk hX lkok_RX3 [(.iload_n 3, 1, 0, 0, 0), (.iconst (-1), 1, 0, 0, (-1))] (by decide +kernel) (g := true) (lv' := [some (.ref l0), some (.int l1), some (.int l2), some (.int l3), some (.int l4), some (.int l5), none]) (st' := [.int (-1 : Int32), .int l3]) (D' := D) (pc' := 66) rfl (rfl) rfl ?_
      refine ev_ic_ne hX (off := 5) 71 (by decide +kernel) (by decide) (fun h2 => ?_) (fun h2 => ?_)
      · have hf := ev_nf h2 hf
        refine ev_blk hX lkok_RX3 [(.iload_n 2, 1, 0, 0, 0)] (by decide +kernel) (g := true) (lv' := [some (.ref l0), some (.int l1), some (.int l2), some (.int l3), some (.int l4), some (.int l5), none]) (st' := [.int l2]) (D' := D) (pc' := 72) rfl (rfl) rfl ?_
        refine ev_if_ne hX (off := 18) 90 (by decide +kernel) (by decide) (fun h3 => ?_) (fun h3 => ?_)
        · have hf := ev_nf h3 hf
          refine ev_blk hX lkok_RX3 [(.iload 4, 2, 0, 0, 0)] (by decide +kernel) (g := true) (lv' := [some (.ref l0), some (.int l1), some (.int l2), some (.int l3), some (.int l4), some (.int l5), none]) (st' := [.int l4]) (D' := D) (pc' := 92) rfl (rfl) rfl ?_
          exact ev_iret hR ev_sm.rf (Option.some.inj hf) hC (by decide +kernel)
        · have hf := ev_it h3 hf
          refine ev_blk hX lkok_RX3 [(.aload_n 0, 1, 0, 0, 0), (.getfield 41, 3, 3, 2, 0), (.getfield 83, 3, 8, 0, 0), (.iload_n 3, 1, 0, 0, 0), (.iconst 1, 1, 0, 0, 1)] (by decide +kernel) (g := (sK S l0 == 6) && ((sK S ((sE S) l0 2) == 11) && (true))) (lv' := [some (.ref l0), some (.int l1), some (.int l2), some (.int l3), some (.int l4), some (.int l5), none]) (st' := [.int (1 : Int32), .int l3, .ref ((sE S) ((sE S) l0 2) 0)]) (D' := D) (pc' := 84) rfl (ev_gk hl0 (ev_gk (ev_tyk hT hl0 rfl rfl) (rfl))) rfl ?_
          obtain ⟨v4, D4, hc4, hf⟩ := ev_bd_s hf
          refine ev_callV hX YX6_cell ml_RX3_61 (mX6_cell hT (ev_tyk hT (ev_tyk hT hl0 rfl rfl) rfl rfl) hc4) (vs := [.int l3, .int (1 : Int32)]) (st := []) (by decide) 6 (ev_tyk hT (ev_tyk hT hl0 rfl rfl) rfl rfl) rfl rfl rfl (by decide +kernel) hC ?_
          show F S D4 87 [some (.ref l0), some (.int l1), some (.int l2), some (.int l3), some (.int l4), some (.int l5), none] [.int v4]
          refine ev_goto hX (off := 5) 92 (by decide +kernel) (by decide) ?_
          exact ev_iret hR ev_sm.rf (Option.some.inj hf) hC (by decide +kernel)
      · have hf := ev_it h2 hf
        refine ev_blk hX lkok_RX3 [(.iconst (-1), 1, 0, 0, (-1))] (by decide +kernel) (g := true) (lv' := [some (.ref l0), some (.int l1), some (.int l2), some (.int l3), some (.int l4), some (.int l5), none]) (st' := [.int (-1 : Int32)]) (D' := D) (pc' := 70) rfl (rfl) rfl ?_
        exact ev_iret hR ev_sm.rf (Option.some.inj hf) hC (by decide +kernel)
    · have hf := ev_nf h1 hf
      refine ev_blk hX lkok_RX3 [(.aload_n 0, 1, 0, 0, 0), (.getfield 41, 3, 3, 2, 0), (.getfield 83, 3, 8, 0, 0), (.iload 5, 2, 0, 0, 0), (.iconst 0, 1, 0, 0, 0)] (by decide +kernel) (g := (sK S l0 == 6) && ((sK S ((sE S) l0 2) == 11) && (true))) (lv' := [some (.ref l0), some (.int l1), some (.int l2), some (.int l3), some (.int l4), some (.int l5), none]) (st' := [.int (0 : Int32), .int l5, .ref ((sE S) ((sE S) l0 2) 0)]) (D' := D) (pc' := 34) rfl (ev_gk hl0 (ev_gk (ev_tyk hT hl0 rfl rfl) (rfl))) rfl ?_
      obtain ⟨v5, D5, hc5, hf⟩ := ev_bd_s hf
      refine ev_callV hX YX6_cell ml_RX3_61 (mX6_cell hT (ev_tyk hT (ev_tyk hT hl0 rfl rfl) rfl rfl) hc5) (vs := [.int l5, .int (0 : Int32)]) (st := []) (by decide) 6 (ev_tyk hT (ev_tyk hT hl0 rfl rfl) rfl rfl) rfl rfl rfl (by decide +kernel) hC ?_
      show F S D5 37 [some (.ref l0), some (.int l1), some (.int l2), some (.int l3), some (.int l4), some (.int l5), none] [.int v5]
      refine ev_blk hX lkok_RX3 [(.iload_n 1, 1, 0, 0, 0), (.ixor, 1, 0, 0, 0)] (by decide +kernel) (g := true) (lv' := [some (.ref l0), some (.int l1), some (.int l2), some (.int l3), some (.int l4), some (.int l5), none]) (st' := [.int (v5 ^^^ l1)]) (D' := D5) (pc' := 39) rfl (rfl) rfl ?_
      obtain ⟨v6, D6, hc6, hf⟩ := ev_bd_s hf
      refine ev_callS hX YJ6_bitCount ml_RX3_88 (mJ6_bitCount hT  hc6) (vs := [.int (v5 ^^^ l1)]) (st := []) (by decide) rfl rfl (by decide +kernel) hC ?_
      show F S D6 42 [some (.ref l0), some (.int l1), some (.int l2), some (.int l3), some (.int l4), some (.int l5), none] [.int v6]
      refine ev_blk hX lkok_RX3 [(.istore 6, 2, 0, 0, 0), (.iload 6, 2, 0, 0, 0), (.iload 4, 2, 0, 0, 0)] (by decide +kernel) (g := true) (lv' := [some (.ref l0), some (.int l1), some (.int l2), some (.int l3), some (.int l4), some (.int l5), some (.int v6)]) (st' := [.int l4, .int v6]) (D' := D6) (pc' := 48) rfl (rfl) rfl ?_
      refine ev_ic_ge hX (off := 10) 58 (by decide +kernel) (by decide) (fun h7 => ?_) (fun h7 => ?_)
      · have hf := ev_it h7 hf
        refine ev_blk hX lkok_RX3 [(.iinc 5 1, 3, 0, 0, 1)] (by decide +kernel) (g := true) (lv' := [some (.ref l0), some (.int l1), some (.int l2), some (.int l3), some (.int l4), some (.int (l5 + (1 : Int32))), some (.int v6)]) (st' := []) (D' := D6) (pc' := 61) rfl (rfl) rfl ?_
        refine ev_goto hX (off := (-52)) 9 (by decide +kernel) (by decide) ?_
        exact ev_weak hX (ev_le_eq (ev_le_eq (ev_le_eq (ev_le_eq (ev_le_eq (ev_le_eq (ev_le_no ev_le_nil))))))) (ih _ _ _ _ _ _ _ hl0 hf)
      · have hf := ev_nf h7 hf
        refine ev_blk hX lkok_RX3 [(.iload 6, 2, 0, 0, 0), (.istore 4, 2, 0, 0, 0), (.iload 5, 2, 0, 0, 0), (.istore_n 3, 1, 0, 0, 0), (.iinc 5 1, 3, 0, 0, 1)] (by decide +kernel) (g := true) (lv' := [some (.ref l0), some (.int l1), some (.int l2), some (.int l5), some (.int v6), some (.int (l5 + (1 : Int32))), some (.int v6)]) (st' := []) (D' := D6) (pc' := 61) rfl (rfl) rfl ?_
        refine ev_goto hX (off := (-52)) 9 (by decide +kernel) (by decide) ?_
        exact ev_weak hX (ev_le_eq (ev_le_eq (ev_le_eq (ev_le_eq (ev_le_eq (ev_le_eq (ev_le_no ev_le_nil))))))) (ih _ _ _ _ _ _ _ hl0 hf)
set_option maxHeartbeats 4000000 in
set_option maxRecDepth 100000 in
theorem tX3_nearestSign {S : ev_S} {fu : Nat} {r : Int32 × ev_D} {F : ev_Fr} (hR : ev_R RX3 cX3_nearestSign 7 1 0 0 false (some .int) S r F) (hT : ev_Ty S) (hC : sC S ≤ 0 ∧ sA S ≤ 0) {l0 : Nat} {l1 : Int32} {l2 : Int32} {D : ev_D} (hl0 : sK S l0 = 6) (hf : fX3_nearestSign (sL S) (sE S) fu l0 l1 l2 D = some r) : F S D 0 [some (.ref l0), some (.int l1), some (.int l2), none, none, none, none] [] := by
  have hX := hR.X
  unfold fX3_nearestSign at hf
  refine ev_blk hX lkok_RX3 [(.iconst (-1), 1, 0, 0, (-1)), (.istore_n 3, 1, 0, 0, 0), (.bipush 17, 2, 0, 0, 17), (.istore 4, 2, 0, 0, 0), (.iconst 0, 1, 0, 0, 0), (.istore 5, 2, 0, 0, 0)] (by decide +kernel) (g := true) (lv' := [some (.ref l0), some (.int l1), some (.int l2), some (.int (-1 : Int32)), some (.int (17 : Int32)), some (.int (0 : Int32)), none]) (st' := []) (D' := D) (pc' := 9) rfl (rfl) rfl ?_
  exact ev_weak hX (ev_le_eq (ev_le_eq (ev_le_eq (ev_le_eq (ev_le_eq (ev_le_eq (ev_le_no ev_le_nil))))))) (tX3_nearestSign_9 hR hT hC   fu _ _ _ _ _ _ _ hl0 hf)
theorem mX3_nearestSign {S : ev_S} {fu : Nat} {r : Int32 × ev_D} (hT : ev_Ty S) {l0 : Nat} {l1 : Int32} {l2 : Int32} {D : ev_D} (hl0 : sK S l0 = 6) (hf : fX3_nearestSign (sL S) (sE S) fu l0 l1 l2 D = some r) : ev_M 1 0 0 yX3_nearestSign cX3_nearestSign 7 (some .int) [.ref l0, .int l1, .int l2] S D S r :=
  ev_met (ini := false) (plainFor_of_name (by decide)) (fun h => by cases h) rfl (Nat.le_of_ble_eq_true rfl) (fun F hR => tX3_nearestSign (S := ev_z S) hR hT ⟨Nat.le_refl 0, Nat.le_refl 0⟩ hl0 hf)
set_option maxHeartbeats 4000000 in
set_option maxRecDepth 100000 in
theorem tX11_meant {S : ev_S} {fu : Nat} {r : Int32 × ev_D} {F : ev_Fr} (hR : ev_R RX11 cX11_meant 3 3 0 0 false (some .int) S r F) (hT : ev_Ty S) (hC : sC S ≤ 0 ∧ sA S ≤ 0) {l0 : Nat} {l1 : Int32} {l2 : Int32} {D : ev_D} (hl0 : sK S l0 = 14) (hf : fX11_meant (sL S) (sE S) fu l0 l1 l2 D = some r) : F S D 0 [some (.ref l0), some (.int l1), some (.int l2)] [] := by
  have hX := hR.X
  unfold fX11_meant at hf
  refine ev_blk hX lkok_RX11 [(.iload_n 2, 1, 0, 0, 0), (.iconst 2, 1, 0, 0, 2)] (by decide +kernel) (g := true) (lv' := [some (.ref l0), some (.int l1), some (.int l2)]) (st' := [.int (2 : Int32), .int l2]) (D' := D) (pc' := 2) rfl (rfl) rfl ?_
  refine ev_ic_ne hX (off := 11) 13 (by decide +kernel) (by decide) (fun h1 => ?_) (fun h1 => ?_)
  · have hf := ev_nf h1 hf
    refine ev_blk hX lkok_RX11 [(.iload_n 2, 1, 0, 0, 0), (.iconst 3, 1, 0, 0, 3)] (by decide +kernel) (g := true) (lv' := [some (.ref l0), some (.int l1), some (.int l2)]) (st' := [.int (3 : Int32), .int l2]) (D' := D) (pc' := 15) rfl (rfl) rfl ?_
    refine ev_ic_ne hX (off := 11) 26 (by decide +kernel) (by decide) (fun h2 => ?_) (fun h2 => ?_)
    · have hf := ev_nf h2 hf
      refine ev_blk hX lkok_RX11 [(.iload_n 1, 1, 0, 0, 0), (.iconst 0, 1, 0, 0, 0), (.ldc 239, 2, 0, 0, 65535)] (by decide +kernel) (g := true) (lv' := [some (.ref l0), some (.int l1), some (.int l2)]) (st' := [.int (65535 : Int32), .int (0 : Int32), .int l1]) (D' := D) (pc' := 30) rfl (rfl) rfl ?_
      obtain ⟨v3, D3, hc3, hf⟩ := ev_bd_s hf
      refine ev_callS hX YX11_within ml_RX11_85 (mX11_within hT  hc3) (vs := [.int l1, .int (0 : Int32), .int (65535 : Int32)]) (st := []) (by decide) rfl rfl (by decide +kernel) hC ?_
      show F S D3 33 [some (.ref l0), some (.int l1), some (.int l2)] [.int v3]
      refine ev_if_eq hX (off := 12) 45 (by decide +kernel) (by decide) (fun h4 => ?_) (fun h4 => ?_)
      · have hf := ev_it h4 hf
        refine ev_blk hX lkok_RX11 [(.iconst (-1), 1, 0, 0, (-1))] (by decide +kernel) (g := true) (lv' := [some (.ref l0), some (.int l1), some (.int l2)]) (st' := [.int (-1 : Int32)]) (D' := D3) (pc' := 46) rfl (rfl) rfl ?_
        exact ev_iret hR ev_sm.rf (Option.some.inj hf) hC (by decide +kernel)
      · have hf := ev_nf h4 hf
        refine ev_blk hX lkok_RX11 [(.iload_n 2, 1, 0, 0, 0), (.iconst 0, 1, 0, 0, 0), (.iconst 1, 1, 0, 0, 1)] (by decide +kernel) (g := true) (lv' := [some (.ref l0), some (.int l1), some (.int l2)]) (st' := [.int (1 : Int32), .int (0 : Int32), .int l2]) (D' := D3) (pc' := 39) rfl (rfl) rfl ?_
        obtain ⟨v5, D5, hc5, hf⟩ := ev_bd_s hf
        refine ev_callS hX YX11_within ml_RX11_85 (mX11_within hT  hc5) (vs := [.int l2, .int (0 : Int32), .int (1 : Int32)]) (st := []) (by decide) rfl rfl (by decide +kernel) hC ?_
        show F S D5 42 [some (.ref l0), some (.int l1), some (.int l2)] [.int v5]
        refine ev_if_ne hX (off := 5) 47 (by decide +kernel) (by decide) (fun h6 => ?_) (fun h6 => ?_)
        · have hf := ev_nf h6 hf
          refine ev_blk hX lkok_RX11 [(.aload_n 0, 1, 0, 0, 0), (.getfield 71, 3, 11, 5, 0), (.iload_n 1, 1, 0, 0, 0), (.iload_n 2, 1, 0, 0, 0)] (by decide +kernel) (g := (sK S l0 == 14) && (true)) (lv' := [some (.ref l0), some (.int l1), some (.int l2)]) (st' := [.int l2, .int l1, .ref ((sE S) l0 5)]) (D' := D5) (pc' := 53) rfl (ev_gk hl0 (rfl)) rfl ?_
          obtain ⟨v7, D7, hc7, hf⟩ := ev_bd_s hf
          refine ev_callV hX YX3_nearestSign ml_RX11_249 (mX3_nearestSign hT (ev_tyk hT hl0 rfl rfl) hc7) (vs := [.int l1, .int l2]) (st := []) (by decide) 3 (ev_tyk hT hl0 rfl rfl) rfl rfl rfl (by decide +kernel) hC ?_
          show F S D7 56 [some (.ref l0), some (.int l1), some (.int l2)] [.int v7]
          exact ev_iret hR ev_sm.rf (Option.some.inj hf) hC (by decide +kernel)
        · have hf := ev_it h6 hf
          refine ev_blk hX lkok_RX11 [(.iconst (-1), 1, 0, 0, (-1))] (by decide +kernel) (g := true) (lv' := [some (.ref l0), some (.int l1), some (.int l2)]) (st' := [.int (-1 : Int32)]) (D' := D5) (pc' := 46) rfl (rfl) rfl ?_
          exact ev_iret hR ev_sm.rf (Option.some.inj hf) hC (by decide +kernel)
    · have hf := ev_it h2 hf
      refine ev_blk hX lkok_RX11 [(.aload_n 0, 1, 0, 0, 0), (.getfield 71, 3, 11, 5, 0)] (by decide +kernel) (g := (sK S l0 == 14) && (true)) (lv' := [some (.ref l0), some (.int l1), some (.int l2)]) (st' := [.ref ((sE S) l0 5)]) (D' := D) (pc' := 22) rfl (ev_gk hl0 (rfl)) rfl ?_
      obtain ⟨v8, D8, hc8, hf⟩ := ev_bd_s hf
      refine ev_callV hX YX3_canGoWrong ml_RX11_246 (mX3_canGoWrong hT (ev_tyk hT hl0 rfl rfl) hc8) (vs := []) (st := []) (by decide) 3 (ev_tyk hT hl0 rfl rfl) rfl rfl rfl (by decide +kernel) hC ?_
      show F S D8 25 [some (.ref l0), some (.int l1), some (.int l2)] [.int v8]
      exact ev_iret hR ev_sm.rf (Option.some.inj hf) hC (by decide +kernel)
  · have hf := ev_it h1 hf
    refine ev_blk hX lkok_RX11 [(.aload_n 0, 1, 0, 0, 0), (.getfield 71, 3, 11, 5, 0)] (by decide +kernel) (g := (sK S l0 == 14) && (true)) (lv' := [some (.ref l0), some (.int l1), some (.int l2)]) (st' := [.ref ((sE S) l0 5)]) (D' := D) (pc' := 9) rfl (ev_gk hl0 (rfl)) rfl ?_
    obtain ⟨v9, D9, hc9, hf⟩ := ev_bd_s hf
    refine ev_callV hX YX3_apart ml_RX11_243 (mX3_apart hT (ev_tyk hT hl0 rfl rfl) hc9) (vs := []) (st := []) (by decide) 3 (ev_tyk hT hl0 rfl rfl) rfl rfl rfl (by decide +kernel) hC ?_
    show F S D9 12 [some (.ref l0), some (.int l1), some (.int l2)] [.int v9]
    exact ev_iret hR ev_sm.rf (Option.some.inj hf) hC (by decide +kernel)
theorem mX11_meant {S : ev_S} {fu : Nat} {r : Int32 × ev_D} (hT : ev_Ty S) {l0 : Nat} {l1 : Int32} {l2 : Int32} {D : ev_D} (hl0 : sK S l0 = 14) (hf : fX11_meant (sL S) (sE S) fu l0 l1 l2 D = some r) : ev_M 3 0 0 yX11_meant cX11_meant 3 (some .int) [.ref l0, .int l1, .int l2] S D S r :=
  ev_met (ini := false) (plainFor_of_name (by decide)) (fun h => by cases h) rfl (Nat.le_of_ble_eq_true rfl) (fun F hR => tX11_meant (S := ev_z S) hR hT ⟨Nat.le_refl 0, Nat.le_refl 0⟩ hl0 hf)
set_option maxHeartbeats 4000000 in
set_option maxRecDepth 100000 in
theorem tX11_round {S : ev_S} {fu : Nat} {r : Int32 × ev_D} {F : ev_Fr} (hR : ev_R RX11 cX11_round 4 1 0 0 false (some .int) S r F) (hT : ev_Ty S) (hC : sC S ≤ 0 ∧ sA S ≤ 0) {l0 : Nat} {l1 : Int32} {l2 : Int32} {D : ev_D} (hl0 : sK S l0 = 14) (hf : fX11_round (sL S) (sE S) fu l0 l1 l2 D = some r) : F S D 0 [some (.ref l0), some (.int l1), some (.int l2), none] [] := by
  have hX := hR.X
  unfold fX11_round at hf
  refine ev_blk hX lkok_RX11 [(.aload_n 0, 1, 0, 0, 0), (.getfield 10, 3, 11, 0, 0), (.getfield 64, 3, 10, 3, 0), (.getfield 252, 3, 8, 1, 0), (.astore_n 3, 1, 0, 0, 0), (.iload_n 1, 1, 0, 0, 0), (.iconst (-1), 1, 0, 0, (-1))] (by decide +kernel) (g := (sK S l0 == 14) && ((sK S ((sE S) l0 0) == 13) && ((sK S ((sE S) ((sE S) l0 0) 3) == 11) && (true)))) (lv' := [some (.ref l0), some (.int l1), some (.int l2), some (.ref ((sE S) ((sE S) ((sE S) l0 0) 3) 1))]) (st' := [.int (-1 : Int32), .int l1]) (D' := D) (pc' := 13) rfl (ev_gk hl0 (ev_gk (ev_tyk hT hl0 rfl rfl) (ev_gk (ev_tyk hT (ev_tyk hT hl0 rfl rfl) rfl rfl) (rfl)))) rfl ?_
  refine ev_ic_ne hX (off := 8) 21 (by decide +kernel) (by decide) (fun h1 => ?_) (fun h1 => ?_)
  · have hf := ev_nf h1 hf
    refine ev_blk hX lkok_RX11 [(.iload_n 1, 1, 0, 0, 0), (.iconst 1, 1, 0, 0, 1), (.bipush 12, 2, 0, 0, 12)] (by decide +kernel) (g := true) (lv' := [some (.ref l0), some (.int l1), some (.int l2), some (.ref ((sE S) ((sE S) ((sE S) l0 0) 3) 1))]) (st' := [.int (12 : Int32), .int (1 : Int32), .int l1]) (D' := D) (pc' := 25) rfl (rfl) rfl ?_
    obtain ⟨v2, D2, hc2, hf⟩ := ev_bd_s hf
    refine ev_callS hX YX11_within ml_RX11_85 (mX11_within hT  hc2) (vs := [.int l1, .int (1 : Int32), .int (12 : Int32)]) (st := []) (by decide) rfl rfl (by decide +kernel) hC ?_
    show F S D2 28 [some (.ref l0), some (.int l1), some (.int l2), some (.ref ((sE S) ((sE S) ((sE S) l0 0) 3) 1))] [.int v2]
    refine ev_if_eq hX (off := 14) 42 (by decide +kernel) (by decide) (fun h3 => ?_) (fun h3 => ?_)
    · have hf := ev_it h3 hf
      refine ev_blk hX lkok_RX11 [(.iconst (-1), 1, 0, 0, (-1))] (by decide +kernel) (g := true) (lv' := [some (.ref l0), some (.int l1), some (.int l2), some (.ref ((sE S) ((sE S) ((sE S) l0 0) 3) 1))]) (st' := [.int (-1 : Int32)]) (D' := D2) (pc' := 43) rfl (rfl) rfl ?_
      exact ev_iret hR ev_sm.rf (Option.some.inj hf) hC (by decide +kernel)
    · have hf := ev_nf h3 hf
      refine ev_blk hX lkok_RX11 [(.iload_n 2, 1, 0, 0, 0), (.iconst 0, 1, 0, 0, 0), (.iload_n 1, 1, 0, 0, 0), (.iconst 1, 1, 0, 0, 1), (.isub, 1, 0, 0, 0)] (by decide +kernel) (g := true) (lv' := [some (.ref l0), some (.int l1), some (.int l2), some (.ref ((sE S) ((sE S) ((sE S) l0 0) 3) 1))]) (st' := [.int (l1 - (1 : Int32)), .int (0 : Int32), .int l2]) (D' := D2) (pc' := 36) rfl (rfl) rfl ?_
      obtain ⟨v4, D4, hc4, hf⟩ := ev_bd_s hf
      refine ev_callS hX YX11_within ml_RX11_85 (mX11_within hT  hc4) (vs := [.int l2, .int (0 : Int32), .int (l1 - (1 : Int32))]) (st := []) (by decide) rfl rfl (by decide +kernel) hC ?_
      show F S D4 39 [some (.ref l0), some (.int l1), some (.int l2), some (.ref ((sE S) ((sE S) ((sE S) l0 0) 3) 1))] [.int v4]
      refine ev_if_ne hX (off := 5) 44 (by decide +kernel) (by decide) (fun h5 => ?_) (fun h5 => ?_)
      · have hf := ev_nf h5 hf
        refine ev_blk hX lkok_RX11 [(.aload_n 3, 1, 0, 0, 0), (.iload_n 1, 1, 0, 0, 0), (.iload_n 2, 1, 0, 0, 0), (.iconst 0, 1, 0, 0, 0)] (by decide +kernel) (g := true) (lv' := [some (.ref l0), some (.int l1), some (.int l2), some (.ref ((sE S) ((sE S) ((sE S) l0 0) 3) 1))]) (st' := [.int (0 : Int32), .int l2, .int l1, .ref ((sE S) ((sE S) ((sE S) l0 0) 3) 1)]) (D' := D4) (pc' := 48) rfl (rfl) rfl ?_
        obtain ⟨v6, D6, hc6, hf⟩ := ev_bd_s hf
        refine ev_callV hX YX6_add ml_RX11_240 (mX6_add hT (ev_tyk hT (ev_tyk hT (ev_tyk hT hl0 rfl rfl) rfl rfl) rfl rfl) hc6) (vs := [.int l1, .int l2, .int (0 : Int32)]) (st := []) (by decide) 6 (ev_tyk hT (ev_tyk hT (ev_tyk hT hl0 rfl rfl) rfl rfl) rfl rfl) rfl rfl rfl (by decide +kernel) hC ?_
        show F S D6 51 [some (.ref l0), some (.int l1), some (.int l2), some (.ref ((sE S) ((sE S) ((sE S) l0 0) 3) 1))] [.int v6]
        exact ev_iret hR ev_sm.rf (Option.some.inj hf) hC (by decide +kernel)
      · have hf := ev_it h5 hf
        refine ev_blk hX lkok_RX11 [(.iconst (-1), 1, 0, 0, (-1))] (by decide +kernel) (g := true) (lv' := [some (.ref l0), some (.int l1), some (.int l2), some (.ref ((sE S) ((sE S) ((sE S) l0 0) 3) 1))]) (st' := [.int (-1 : Int32)]) (D' := D4) (pc' := 43) rfl (rfl) rfl ?_
        exact ev_iret hR ev_sm.rf (Option.some.inj hf) hC (by decide +kernel)
  · have hf := ev_it h1 hf
    refine ev_blk hX lkok_RX11 [(.aload_n 3, 1, 0, 0, 0)] (by decide +kernel) (g := true) (lv' := [some (.ref l0), some (.int l1), some (.int l2), some (.ref ((sE S) ((sE S) ((sE S) l0 0) 3) 1))]) (st' := [.ref ((sE S) ((sE S) ((sE S) l0 0) 3) 1)]) (D' := D) (pc' := 17) rfl (rfl) rfl ?_
    obtain ⟨v7, D7, hc7, hf⟩ := ev_bd_s hf
    refine ev_callV hX YX6_empty ml_RX11_234 (mX6_empty hT (ev_tyk hT (ev_tyk hT (ev_tyk hT hl0 rfl rfl) rfl rfl) rfl rfl) hc7) (vs := []) (st := []) (by decide) 6 (ev_tyk hT (ev_tyk hT (ev_tyk hT hl0 rfl rfl) rfl rfl) rfl rfl) rfl rfl rfl (by decide +kernel) hC ?_
    show F S D7 20 [some (.ref l0), some (.int l1), some (.int l2), some (.ref ((sE S) ((sE S) ((sE S) l0 0) 3) 1))] [.int v7]
    exact ev_iret hR ev_sm.rf (Option.some.inj hf) hC (by decide +kernel)
theorem mX11_round {S : ev_S} {fu : Nat} {r : Int32 × ev_D} (hT : ev_Ty S) {l0 : Nat} {l1 : Int32} {l2 : Int32} {D : ev_D} (hl0 : sK S l0 = 14) (hf : fX11_round (sL S) (sE S) fu l0 l1 l2 D = some r) : ev_M 1 0 0 yX11_round cX11_round 4 (some .int) [.ref l0, .int l1, .int l2] S D S r :=
  ev_met (ini := false) (plainFor_of_name (by decide)) (fun h => by cases h) rfl (Nat.le_of_ble_eq_true rfl) (fun F hR => tX11_round (S := ev_z S) hR hT ⟨Nat.le_refl 0, Nat.le_refl 0⟩ hl0 hf)
set_option maxHeartbeats 4000000 in
set_option maxRecDepth 100000 in
theorem tX3_leastCommon_4 {S : ev_S} {fu : Nat} {r : Int32 × ev_D} {F : ev_Fr} (hR : ev_R RX3 cX3_leastCommon 4 0 0 0 false (some .int) S r F) (hT : ev_Ty S) (hC : sC S ≤ 0 ∧ sA S ≤ 0) : ∀ (n : Nat) (l0 : Int32) (l1 : Int32) (l2 : Int32) (l3 : Int32) (D : ev_D), fX3_leastCommon_4 (sL S) (sE S) fu n l0 l1 l2 l3 D = some r → F S D 4 [some (.int l0), some (.int l1), some (.int l2), some (.int l3)] [] := by
  have hX := hR.X
  intro n
  induction n with
  | zero =>
    intro l0 l1 l2 l3 D  hf
    rw [fX3_leastCommon_4] at hf
    cases hf
  | succ n ih =>
    intro l0 l1 l2 l3 D  hf
    rw [fX3_leastCommon_4] at hf
    refine ev_blk hX lkok_RX3 [(.iload_n 3, 1, 0, 0, 0), (.iload_n 1, 1, 0, 0, 0)] (by decide +kernel) (g := true) (lv' := [some (.int l0), some (.int l1), some (.int l2), some (.int l3)]) (st' := [.int l1, .int l3]) (D' := D) (pc' := 6) rfl (rfl) rfl ?_
    refine ev_ic_ge hX (off := 19) 25 (by decide +kernel) (by decide) (fun h1 => ?_) (fun h1 => ?_)
    · have hf := ev_it h1 hf
      refine ev_blk hX lkok_RX3 [(.iload_n 2, 1, 0, 0, 0)] (by decide +kernel) (g := true) (lv' := [some (.int l0), some (.int l1), some (.int l2), some (.int l3)]) (st' := [.int l2]) (D' := D) (pc' := 26) rfl (rfl) rfl ?_
      exact ev_iret hR ev_sm.rf (Option.some.inj hf) hC (by decide +kernel)
    · have hf := ev_nf h1 hf
      obtain ⟨hg3, hf⟩ := ev_gd_s hf
      refine ev_blk hX lkok_RX3 [(.iload_n 2, 1, 0, 0, 0), (.iload_n 1, 1, 0, 0, 0), (.irem, 1, 0, 0, 0)] (by decide +kernel) (g := (!(decide (l1 = 0))) && (true)) (lv' := [some (.int l0), some (.int l1), some (.int l2), some (.int l3)]) (st' := [.int (l2 - l2 / l1 * l1)]) (D' := D) (pc' := 12) rfl (ev_g2 hg3 (rfl)) rfl ?_
      refine ev_if_eq hX (off := 13) 25 (by decide +kernel) (by decide) (fun h2 => ?_) (fun h2 => ?_)
      · have hf := ev_it h2 hf
        refine ev_blk hX lkok_RX3 [(.iload_n 2, 1, 0, 0, 0)] (by decide +kernel) (g := true) (lv' := [some (.int l0), some (.int l1), some (.int l2), some (.int l3)]) (st' := [.int l2]) (D' := D) (pc' := 26) rfl (rfl) rfl ?_
        exact ev_iret hR ev_sm.rf (Option.some.inj hf) hC (by decide +kernel)
      · have hf := ev_nf h2 hf
        refine ev_blk hX lkok_RX3 [(.iload_n 2, 1, 0, 0, 0), (.iload_n 0, 1, 0, 0, 0), (.iadd, 1, 0, 0, 0), (.istore_n 2, 1, 0, 0, 0), (.iinc 3 1, 3, 0, 0, 1)] (by decide +kernel) (g := true) (lv' := [some (.int l0), some (.int l1), some (.int (l2 + l0)), some (.int (l3 + (1 : Int32)))]) (st' := []) (D' := D) (pc' := 22) rfl (rfl) rfl ?_
        refine ev_goto hX (off := (-18)) 4 (by decide +kernel) (by decide) ?_
        exact ev_weak hX (ev_le_eq (ev_le_eq (ev_le_eq (ev_le_eq ev_le_nil)))) (ih _ _ _ _ _  hf)
set_option maxHeartbeats 4000000 in
set_option maxRecDepth 100000 in
theorem tX3_leastCommon {S : ev_S} {fu : Nat} {r : Int32 × ev_D} {F : ev_Fr} (hR : ev_R RX3 cX3_leastCommon 4 0 0 0 false (some .int) S r F) (hT : ev_Ty S) (hC : sC S ≤ 0 ∧ sA S ≤ 0) {l0 : Int32} {l1 : Int32} {D : ev_D}  (hf : fX3_leastCommon (sL S) (sE S) fu l0 l1 D = some r) : F S D 0 [some (.int l0), some (.int l1), none, none] [] := by
  have hX := hR.X
  unfold fX3_leastCommon at hf
  refine ev_blk hX lkok_RX3 [(.iload_n 0, 1, 0, 0, 0), (.istore_n 2, 1, 0, 0, 0), (.iconst 1, 1, 0, 0, 1), (.istore_n 3, 1, 0, 0, 0)] (by decide +kernel) (g := true) (lv' := [some (.int l0), some (.int l1), some (.int l0), some (.int (1 : Int32))]) (st' := []) (D' := D) (pc' := 4) rfl (rfl) rfl ?_
  exact ev_weak hX (ev_le_eq (ev_le_eq (ev_le_eq (ev_le_eq ev_le_nil)))) (tX3_leastCommon_4 hR hT hC   fu _ _ _ _ _  hf)
theorem mX3_leastCommon {S : ev_S} {fu : Nat} {r : Int32 × ev_D} (hT : ev_Ty S) {l0 : Int32} {l1 : Int32} {D : ev_D}  (hf : fX3_leastCommon (sL S) (sE S) fu l0 l1 D = some r) : ev_M 0 0 0 yX3_leastCommon cX3_leastCommon 4 (some .int) [.int l0, .int l1] S D S r :=
  ev_met (ini := false) (plainFor_of_name (by decide)) (fun h => by cases h) rfl (Nat.le_of_ble_eq_true rfl) (fun F hR => tX3_leastCommon (S := ev_z S) hR hT ⟨Nat.le_refl 0, Nat.le_refl 0⟩  hf)
set_option maxHeartbeats 4000000 in
set_option maxRecDepth 100000 in
theorem tX3_ringsAt {S : ev_S} {fu : Nat} {r : Int32 × ev_D} {F : ev_Fr} (hR : ev_R RX3 cX3_ringsAt 4 1 0 0 false (some .boolean) S r F) (hT : ev_Ty S) (hC : sC S ≤ 0 ∧ sA S ≤ 0) {l0 : Nat} {l1 : Int32} {l2 : Int32} {D : ev_D} (hl0 : sK S l0 = 6) (hf : fX3_ringsAt (sL S) (sE S) fu l0 l1 l2 D = some r) : F S D 0 [some (.ref l0), some (.int l1), some (.int l2), none] [] := by
  have hX := hR.X
  unfold fX3_ringsAt at hf
  refine ev_blk hX lkok_RX3 [(.aload_n 0, 1, 0, 0, 0), (.getfield 41, 3, 3, 2, 0), (.getfield 105, 3, 8, 1, 0), (.iload_n 1, 1, 0, 0, 0), (.iconst 0, 1, 0, 0, 0)] (by decide +kernel) (g := (sK S l0 == 6) && ((sK S ((sE S) l0 2) == 11) && (true))) (lv' := [some (.ref l0), some (.int l1), some (.int l2), none]) (st' := [.int (0 : Int32), .int l1, .ref ((sE S) ((sE S) l0 2) 1)]) (D' := D) (pc' := 9) rfl (ev_gk hl0 (ev_gk (ev_tyk hT hl0 rfl rfl) (rfl))) rfl ?_
  obtain ⟨v1, D1, hc1, hf⟩ := ev_bd_s hf
  refine ev_callV hX YX6_cell ml_RX3_61 (mX6_cell hT (ev_tyk hT (ev_tyk hT hl0 rfl rfl) rfl rfl) hc1) (vs := [.int l1, .int (0 : Int32)]) (st := []) (by decide) 6 (ev_tyk hT (ev_tyk hT hl0 rfl rfl) rfl rfl) rfl rfl rfl (by decide +kernel) hC ?_
  show F S D1 12 [some (.ref l0), some (.int l1), some (.int l2), none] [.int v1]
  refine ev_blk hX lkok_RX3 [(.istore_n 3, 1, 0, 0, 0), (.iload_n 3, 1, 0, 0, 0)] (by decide +kernel) (g := true) (lv' := [some (.ref l0), some (.int l1), some (.int l2), some (.int v1)]) (st' := [.int v1]) (D' := D1) (pc' := 14) rfl (rfl) rfl ?_
  refine ev_if_le hX (off := 25) 39 (by decide +kernel) (by decide) (fun h2 => ?_) (fun h2 => ?_)
  · have hf := ev_it h2 hf
    refine ev_blk hX lkok_RX3 [(.iconst 0, 1, 0, 0, 0)] (by decide +kernel) (g := true) (lv' := [some (.ref l0), some (.int l1), some (.int l2), some (.int v1)]) (st' := [.int (0 : Int32)]) (D' := D1) (pc' := 40) rfl (rfl) rfl ?_
    exact ev_zret hR ev_sm.rf (Or.inl rfl) (Option.some.inj hf) hC (by decide +kernel)
  · have hf := ev_nf h2 hf
    obtain ⟨hg5, hf⟩ := ev_gd_s hf
    refine ev_blk hX lkok_RX3 [(.iload_n 2, 1, 0, 0, 0), (.iload_n 3, 1, 0, 0, 0), (.irem, 1, 0, 0, 0), (.aload_n 0, 1, 0, 0, 0), (.getfield 41, 3, 3, 2, 0), (.getfield 105, 3, 8, 1, 0), (.iload_n 1, 1, 0, 0, 0), (.iconst 1, 1, 0, 0, 1)] (by decide +kernel) (g := (!(decide (v1 = 0))) && ((sK S l0 == 6) && ((sK S ((sE S) l0 2) == 11) && (true)))) (lv' := [some (.ref l0), some (.int l1), some (.int l2), some (.int v1)]) (st' := [.int (1 : Int32), .int l1, .ref ((sE S) ((sE S) l0 2) 1), .int (l2 - l2 / v1 * v1)]) (D' := D1) (pc' := 29) rfl (ev_g2 hg5 (ev_gk hl0 (ev_gk (ev_tyk hT hl0 rfl rfl) (rfl)))) rfl ?_
    obtain ⟨v3, D3, hc3, hf⟩ := ev_bd_s hf
    refine ev_callV hX YX6_cell ml_RX3_61 (mX6_cell hT (ev_tyk hT (ev_tyk hT hl0 rfl rfl) rfl rfl) hc3) (vs := [.int l1, .int (1 : Int32)]) (st := [.int (l2 - l2 / v1 * v1)]) (by decide) 6 (ev_tyk hT (ev_tyk hT hl0 rfl rfl) rfl rfl) rfl rfl rfl (by decide +kernel) hC ?_
    show F S D3 32 [some (.ref l0), some (.int l1), some (.int l2), some (.int v1)] [.int v3, .int (l2 - l2 / v1 * v1)]
    refine ev_ic_ne hX (off := 7) 39 (by decide +kernel) (by decide) (fun h4 => ?_) (fun h4 => ?_)
    · have hf := ev_nf h4 hf
      refine ev_blk hX lkok_RX3 [(.iconst 0, 1, 0, 0, 0)] (by decide +kernel) (g := true) (lv' := [some (.ref l0), some (.int l1), some (.int l2), some (.int v1)]) (st' := [.int (0 : Int32)]) (D' := D3) (pc' := 40) rfl (rfl) rfl ?_
      exact ev_zret hR ev_sm.rf (Or.inl rfl) (Option.some.inj hf) hC (by decide +kernel)
    · have hf := ev_it h4 hf
      refine ev_blk hX lkok_RX3 [(.iconst 1, 1, 0, 0, 1)] (by decide +kernel) (g := true) (lv' := [some (.ref l0), some (.int l1), some (.int l2), some (.int v1)]) (st' := [.int (1 : Int32)]) (D' := D3) (pc' := 36) rfl (rfl) rfl ?_
      refine ev_goto hX (off := 4) 40 (by decide +kernel) (by decide) ?_
      exact ev_zret hR ev_sm.rf (Or.inr rfl) (Option.some.inj hf) hC (by decide +kernel)
theorem mX3_ringsAt {S : ev_S} {fu : Nat} {r : Int32 × ev_D} (hT : ev_Ty S) {l0 : Nat} {l1 : Int32} {l2 : Int32} {D : ev_D} (hl0 : sK S l0 = 6) (hf : fX3_ringsAt (sL S) (sE S) fu l0 l1 l2 D = some r) : ev_M 1 0 0 yX3_ringsAt cX3_ringsAt 4 (some .boolean) [.ref l0, .int l1, .int l2] S D S r :=
  ev_met (ini := false) (plainFor_of_name (by decide)) (fun h => by cases h) rfl (Nat.le_of_ble_eq_true rfl) (fun F hR => tX3_ringsAt (S := ev_z S) hR hT ⟨Nat.le_refl 0, Nat.le_refl 0⟩ hl0 hf)
set_option maxHeartbeats 4000000 in
set_option maxRecDepth 100000 in
theorem tX3_firstTogether_63 {S : ev_S} {fu : Nat} {r : Int32 × ev_D} {F : ev_Fr} (hR : ev_R RX3 cX3_firstTogether 6 2 0 0 false (some .int) S r F) (hT : ev_Ty S) (hC : sC S ≤ 0 ∧ sA S ≤ 0) {k6 : Nat → Int32 → Int32 → Int32 → ev_D → ev_Op} (hk6 : ∀ (l0 : Nat) (l1 : Int32) (l2 : Int32) (l3 : Int32) (D : ev_D), sK S l0 = 6 → k6 l0 l1 l2 l3 D = some r → F S D 6 [some (.ref l0), some (.int l1), some (.int l2), some (.int l3), none, none] []) {l0 : Nat} {l1 : Int32} {l2 : Int32} {l3 : Int32} {l4 : Int32} {D : ev_D} (hl0 : sK S l0 = 6) (hf : fX3_firstTogether_63 (sL S) (sE S) fu k6 l0 l1 l2 l3 l4 D = some r) : F S D 63 [some (.ref l0), some (.int l1), some (.int l2), some (.int l3), some (.int l4), none] [] := by
  have hX := hR.X
  unfold fX3_firstTogether_63 at hf
  refine ev_blk hX lkok_RX3 [(.aload_n 0, 1, 0, 0, 0), (.iload_n 3, 1, 0, 0, 0), (.iload_n 1, 1, 0, 0, 0)] (by decide +kernel) (g := true) (lv' := [some (.ref l0), some (.int l1), some (.int l2), some (.int l3), some (.int l4), none]) (st' := [.int l1, .int l3, .ref l0]) (D' := D) (pc' := 66) rfl (rfl) rfl ?_
  obtain ⟨v1, D1, hc1, hf⟩ := ev_bd_s hf
  refine ev_callV hX YX3_ringsAt ml_RX3_108 (mX3_ringsAt hT hl0 hc1) (vs := [.int l3, .int l1]) (st := []) (by decide) 3 hl0 rfl rfl rfl (by decide +kernel) hC ?_
  show F S D1 69 [some (.ref l0), some (.int l1), some (.int l2), some (.int l3), some (.int l4), none] [.int v1]
  refine ev_if_ne hX (off := 5) 74 (by decide +kernel) (by decide) (fun h2 => ?_) (fun h2 => ?_)
  · have hf := ev_nf h2 hf
    refine ev_blk hX lkok_RX3 [(.iload_n 2, 1, 0, 0, 0), (.iload 4, 2, 0, 0, 0)] (by decide +kernel) (g := true) (lv' := [some (.ref l0), some (.int l1), some (.int l2), some (.int l3), some (.int l4), none]) (st' := [.int l4, .int l2]) (D' := D1) (pc' := 77) rfl (rfl) rfl ?_
    obtain ⟨v3, D3, hc3, hf⟩ := ev_bd_s hf
    refine ev_callS hX YX3_leastCommon ml_RX3_111 (mX3_leastCommon hT  hc3) (vs := [.int l2, .int l4]) (st := []) (by decide) rfl rfl (by decide +kernel) hC ?_
    show F S D3 80 [some (.ref l0), some (.int l1), some (.int l2), some (.int l3), some (.int l4), none] [.int v3]
    refine ev_blk hX lkok_RX3 [(.istore_n 2, 1, 0, 0, 0), (.iinc 3 1, 3, 0, 0, 1)] (by decide +kernel) (g := true) (lv' := [some (.ref l0), some (.int l1), some (.int v3), some (.int (l3 + (1 : Int32))), some (.int l4), none]) (st' := []) (D' := D3) (pc' := 84) rfl (rfl) rfl ?_
    refine ev_goto hX (off := (-78)) 6 (by decide +kernel) (by decide) ?_
    exact ev_weak hX (ev_le_eq (ev_le_eq (ev_le_eq (ev_le_eq (ev_le_no (ev_le_no ev_le_nil)))))) (hk6 _ _ _ _ _ hl0 hf)
  · have hf := ev_it h2 hf
    refine ev_blk hX lkok_RX3 [(.iconst (-1), 1, 0, 0, (-1))] (by decide +kernel) (g := true) (lv' := [some (.ref l0), some (.int l1), some (.int l2), some (.int l3), some (.int l4), none]) (st' := [.int (-1 : Int32)]) (D' := D1) (pc' := 73) rfl (rfl) rfl ?_
    exact ev_iret hR ev_sm.rf (Option.some.inj hf) hC (by decide +kernel)
set_option maxHeartbeats 4000000 in
set_option maxRecDepth 100000 in
theorem tX3_firstTogether_37 {S : ev_S} {fu : Nat} {r : Int32 × ev_D} {F : ev_Fr} (hR : ev_R RX3 cX3_firstTogether 6 2 0 0 false (some .int) S r F) (hT : ev_Ty S) (hC : sC S ≤ 0 ∧ sA S ≤ 0) {k6 : Nat → Int32 → Int32 → Int32 → ev_D → ev_Op} (hk6 : ∀ (l0 : Nat) (l1 : Int32) (l2 : Int32) (l3 : Int32) (D : ev_D), sK S l0 = 6 → k6 l0 l1 l2 l3 D = some r → F S D 6 [some (.ref l0), some (.int l1), some (.int l2), some (.int l3), none, none] []) : ∀ (n : Nat) (l0 : Nat) (l1 : Int32) (l2 : Int32) (l3 : Int32) (l4 : Int32) (l5 : Int32) (D : ev_D), sK S l0 = 6 → fX3_firstTogether_37 (sL S) (sE S) fu k6 n l0 l1 l2 l3 l4 l5 D = some r → F S D 37 [some (.ref l0), some (.int l1), some (.int l2), some (.int l3), some (.int l4), some (.int l5)] [] := by
  have hX := hR.X
  intro n
  induction n with
  | zero =>
    intro l0 l1 l2 l3 l4 l5 D hl0 hf
    rw [fX3_firstTogether_37] at hf
    cases hf
  | succ n ih =>
    intro l0 l1 l2 l3 l4 l5 D hl0 hf
    rw [fX3_firstTogether_37] at hf
    refine ev_blk hX lkok_RX3 [(.iload 5, 2, 0, 0, 0), (.iload 4, 2, 0, 0, 0)] (by decide +kernel) (g := true) (lv' := [some (.ref l0), some (.int l1), some (.int l2), some (.int l3), some (.int l4), some (.int l5)]) (st' := [.int l4, .int l5]) (D' := D) (pc' := 41) rfl (rfl) rfl ?_
    refine ev_ic_ge hX (off := 22) 63 (by decide +kernel) (by decide) (fun h4 => ?_) (fun h4 => ?_)
    · have hf := ev_it h4 hf
      exact ev_weak hX (ev_le_eq (ev_le_eq (ev_le_eq (ev_le_eq (ev_le_eq (ev_le_no ev_le_nil)))))) (tX3_firstTogether_63 hR hT hC  hk6 hl0 hf)
    · have hf := ev_nf h4 hf
      refine ev_blk hX lkok_RX3 [(.aload_n 0, 1, 0, 0, 0), (.iload_n 3, 1, 0, 0, 0), (.iload_n 1, 1, 0, 0, 0)] (by decide +kernel) (g := true) (lv' := [some (.ref l0), some (.int l1), some (.int l2), some (.int l3), some (.int l4), some (.int l5)]) (st' := [.int l1, .int l3, .ref l0]) (D' := D) (pc' := 47) rfl (rfl) rfl ?_
      obtain ⟨v5, D5, hc5, hf⟩ := ev_bd_s hf
      refine ev_callV hX YX3_ringsAt ml_RX3_108 (mX3_ringsAt hT hl0 hc5) (vs := [.int l3, .int l1]) (st := []) (by decide) 3 hl0 rfl rfl rfl (by decide +kernel) hC ?_
      show F S D5 50 [some (.ref l0), some (.int l1), some (.int l2), some (.int l3), some (.int l4), some (.int l5)] [.int v5]
      refine ev_if_ne hX (off := 13) 63 (by decide +kernel) (by decide) (fun h6 => ?_) (fun h6 => ?_)
      · have hf := ev_nf h6 hf
        exact ev_weak hX (ev_le_eq (ev_le_eq (ev_le_eq (ev_le_eq (ev_le_eq (ev_le_no ev_le_nil)))))) (tX3_firstTogether_63 hR hT hC  hk6 hl0 hf)
      · have hf := ev_it h6 hf
        refine ev_blk hX lkok_RX3 [(.iload_n 1, 1, 0, 0, 0), (.iload_n 2, 1, 0, 0, 0), (.iadd, 1, 0, 0, 0), (.istore_n 1, 1, 0, 0, 0), (.iinc 5 1, 3, 0, 0, 1)] (by decide +kernel) (g := true) (lv' := [some (.ref l0), some (.int (l1 + l2)), some (.int l2), some (.int l3), some (.int l4), some (.int (l5 + (1 : Int32)))]) (st' := []) (D' := D5) (pc' := 60) rfl (rfl) rfl ?_
        refine ev_goto hX (off := (-23)) 37 (by decide +kernel) (by decide) ?_
        exact ev_weak hX (ev_le_eq (ev_le_eq (ev_le_eq (ev_le_eq (ev_le_eq (ev_le_eq ev_le_nil)))))) (ih _ _ _ _ _ _ _ hl0 hf)
set_option maxHeartbeats 4000000 in
set_option maxRecDepth 100000 in
theorem tX3_firstTogether_6 {S : ev_S} {fu : Nat} {r : Int32 × ev_D} {F : ev_Fr} (hR : ev_R RX3 cX3_firstTogether 6 2 0 0 false (some .int) S r F) (hT : ev_Ty S) (hC : sC S ≤ 0 ∧ sA S ≤ 0) : ∀ (n : Nat) (l0 : Nat) (l1 : Int32) (l2 : Int32) (l3 : Int32) (D : ev_D), sK S l0 = 6 → fX3_firstTogether_6 (sL S) (sE S) fu n l0 l1 l2 l3 D = some r → F S D 6 [some (.ref l0), some (.int l1), some (.int l2), some (.int l3), none, none] [] := by
  have hX := hR.X
  intro n
  induction n with
  | zero =>
    intro l0 l1 l2 l3 D hl0 hf
    rw [fX3_firstTogether_6] at hf
    cases hf
  | succ n ih =>
    intro l0 l1 l2 l3 D hl0 hf
    rw [fX3_firstTogether_6] at hf
    refine ev_blk hX lkok_RX3 [(.iload_n 3, 1, 0, 0, 0), (.aload_n 0, 1, 0, 0, 0), (.getfield 41, 3, 3, 2, 0), (.getfield 105, 3, 8, 1, 0), (.getfield 55, 3, 6, 0, 0)] (by decide +kernel) (g := (sK S l0 == 6) && ((sK S ((sE S) l0 2) == 11) && ((sK S ((sE S) ((sE S) l0 2) 1) == 9) && (true)))) (lv' := [some (.ref l0), some (.int l1), some (.int l2), some (.int l3), none, none]) (st' := [.int (D ((sE S) ((sE S) l0 2) 1) 0), .int l3]) (D' := D) (pc' := 17) rfl (ev_gk hl0 (ev_gk (ev_tyk hT hl0 rfl rfl) (ev_gk (ev_tyk hT (ev_tyk hT hl0 rfl rfl) rfl rfl) (rfl)))) rfl ?_
    refine ev_ic_ge hX (off := 70) 87 (by decide +kernel) (by decide) (fun h7 => ?_) (fun h7 => ?_)
    · have hf := ev_it h7 hf
      refine ev_blk hX lkok_RX3 [(.aload_n 0, 1, 0, 0, 0), (.getfield 41, 3, 3, 2, 0), (.getfield 105, 3, 8, 1, 0), (.getfield 55, 3, 6, 0, 0)] (by decide +kernel) (g := (sK S l0 == 6) && ((sK S ((sE S) l0 2) == 11) && ((sK S ((sE S) ((sE S) l0 2) 1) == 9) && (true)))) (lv' := [some (.ref l0), some (.int l1), some (.int l2), some (.int l3), none, none]) (st' := [.int (D ((sE S) ((sE S) l0 2) 1) 0)]) (D' := D) (pc' := 97) rfl (ev_gk hl0 (ev_gk (ev_tyk hT hl0 rfl rfl) (ev_gk (ev_tyk hT (ev_tyk hT hl0 rfl rfl) rfl rfl) (rfl)))) rfl ?_
      refine ev_if_ne hX (off := 7) 104 (by decide +kernel) (by decide) (fun h8 => ?_) (fun h8 => ?_)
      · have hf := ev_nf h8 hf
        refine ev_blk hX lkok_RX3 [(.iload_n 1, 1, 0, 0, 0)] (by decide +kernel) (g := true) (lv' := [some (.ref l0), some (.int l1), some (.int l2), some (.int l3), none, none]) (st' := [.int l1]) (D' := D) (pc' := 105) rfl (rfl) rfl ?_
        exact ev_iret hR ev_sm.rf (Option.some.inj hf) hC (by decide +kernel)
      · have hf := ev_it h8 hf
        refine ev_blk hX lkok_RX3 [(.iconst (-1), 1, 0, 0, (-1))] (by decide +kernel) (g := true) (lv' := [some (.ref l0), some (.int l1), some (.int l2), some (.int l3), none, none]) (st' := [.int (-1 : Int32)]) (D' := D) (pc' := 101) rfl (rfl) rfl ?_
        refine ev_goto hX (off := 4) 105 (by decide +kernel) (by decide) ?_
        exact ev_iret hR ev_sm.rf (Option.some.inj hf) hC (by decide +kernel)
    · have hf := ev_nf h7 hf
      refine ev_blk hX lkok_RX3 [(.aload_n 0, 1, 0, 0, 0), (.getfield 41, 3, 3, 2, 0), (.getfield 105, 3, 8, 1, 0), (.iload_n 3, 1, 0, 0, 0), (.iconst 0, 1, 0, 0, 0)] (by decide +kernel) (g := (sK S l0 == 6) && ((sK S ((sE S) l0 2) == 11) && (true))) (lv' := [some (.ref l0), some (.int l1), some (.int l2), some (.int l3), none, none]) (st' := [.int (0 : Int32), .int l3, .ref ((sE S) ((sE S) l0 2) 1)]) (D' := D) (pc' := 29) rfl (ev_gk hl0 (ev_gk (ev_tyk hT hl0 rfl rfl) (rfl))) rfl ?_
      obtain ⟨v9, D9, hc9, hf⟩ := ev_bd_s hf
      refine ev_callV hX YX6_cell ml_RX3_61 (mX6_cell hT (ev_tyk hT (ev_tyk hT hl0 rfl rfl) rfl rfl) hc9) (vs := [.int l3, .int (0 : Int32)]) (st := []) (by decide) 6 (ev_tyk hT (ev_tyk hT hl0 rfl rfl) rfl rfl) rfl rfl rfl (by decide +kernel) hC ?_
      show F S D9 32 [some (.ref l0), some (.int l1), some (.int l2), some (.int l3), none, none] [.int v9]
      refine ev_blk hX lkok_RX3 [(.istore 4, 2, 0, 0, 0), (.iconst 1, 1, 0, 0, 1), (.istore 5, 2, 0, 0, 0)] (by decide +kernel) (g := true) (lv' := [some (.ref l0), some (.int l1), some (.int l2), some (.int l3), some (.int v9), some (.int (1 : Int32))]) (st' := []) (D' := D9) (pc' := 37) rfl (rfl) rfl ?_
      exact ev_weak hX (ev_le_eq (ev_le_eq (ev_le_eq (ev_le_eq (ev_le_eq (ev_le_eq ev_le_nil)))))) (tX3_firstTogether_37 hR hT hC  ih fu _ _ _ _ _ _ _ hl0 hf)
set_option maxHeartbeats 4000000 in
set_option maxRecDepth 100000 in
theorem tX3_firstTogether {S : ev_S} {fu : Nat} {r : Int32 × ev_D} {F : ev_Fr} (hR : ev_R RX3 cX3_firstTogether 6 2 0 0 false (some .int) S r F) (hT : ev_Ty S) (hC : sC S ≤ 0 ∧ sA S ≤ 0) {l0 : Nat} {D : ev_D} (hl0 : sK S l0 = 6) (hf : fX3_firstTogether (sL S) (sE S) fu l0 D = some r) : F S D 0 [some (.ref l0), none, none, none, none, none] [] := by
  have hX := hR.X
  unfold fX3_firstTogether at hf
  refine ev_blk hX lkok_RX3 [(.iconst 0, 1, 0, 0, 0), (.istore_n 1, 1, 0, 0, 0), (.iconst 1, 1, 0, 0, 1), (.istore_n 2, 1, 0, 0, 0), (.iconst 0, 1, 0, 0, 0), (.istore_n 3, 1, 0, 0, 0)] (by decide +kernel) (g := true) (lv' := [some (.ref l0), some (.int (0 : Int32)), some (.int (1 : Int32)), some (.int (0 : Int32)), none, none]) (st' := []) (D' := D) (pc' := 6) rfl (rfl) rfl ?_
  exact ev_weak hX (ev_le_eq (ev_le_eq (ev_le_eq (ev_le_eq (ev_le_no (ev_le_no ev_le_nil)))))) (tX3_firstTogether_6 hR hT hC   fu _ _ _ _ _ hl0 hf)
theorem mX3_firstTogether {S : ev_S} {fu : Nat} {r : Int32 × ev_D} (hT : ev_Ty S) {l0 : Nat} {D : ev_D} (hl0 : sK S l0 = 6) (hf : fX3_firstTogether (sL S) (sE S) fu l0 D = some r) : ev_M 2 0 0 yX3_firstTogether cX3_firstTogether 6 (some .int) [.ref l0] S D S r :=
  ev_met (ini := false) (plainFor_of_name (by decide)) (fun h => by cases h) rfl (Nat.le_of_ble_eq_true rfl) (fun F hR => tX3_firstTogether (S := ev_z S) hR hT ⟨Nat.le_refl 0, Nat.le_refl 0⟩ hl0 hf)
set_option maxHeartbeats 4000000 in
set_option maxRecDepth 100000 in
theorem tX3_ringAt_4 {S : ev_S} {fu : Nat} {r : Int32 × ev_D} {F : ev_Fr} (hR : ev_R RX3 cX3_ringAt 4 2 0 0 false (some .int) S r F) (hT : ev_Ty S) (hC : sC S ≤ 0 ∧ sA S ≤ 0) : ∀ (n : Nat) (l0 : Nat) (l1 : Int32) (l2 : Int32) (l3 : Int32) (D : ev_D), sK S l0 = 6 → fX3_ringAt_4 (sL S) (sE S) fu n l0 l1 l2 l3 D = some r → F S D 4 [some (.ref l0), some (.int l1), some (.int l2), some (.int l3)] [] := by
  have hX := hR.X
  intro n
  induction n with
  | zero =>
    intro l0 l1 l2 l3 D hl0 hf
    rw [fX3_ringAt_4] at hf
    cases hf
  | succ n ih =>
    intro l0 l1 l2 l3 D hl0 hf
    rw [fX3_ringAt_4] at hf
    refine ev_blk hX lkok_RX3 [(.iload_n 3, 1, 0, 0, 0), (.aload_n 0, 1, 0, 0, 0), (.getfield 41, 3, 3, 2, 0), (.getfield 105, 3, 8, 1, 0), (.getfield 55, 3, 6, 0, 0)] (by decide +kernel) (g := (sK S l0 == 6) && ((sK S ((sE S) l0 2) == 11) && ((sK S ((sE S) ((sE S) l0 2) 1) == 9) && (true)))) (lv' := [some (.ref l0), some (.int l1), some (.int l2), some (.int l3)]) (st' := [.int (D ((sE S) ((sE S) l0 2) 1) 0), .int l3]) (D' := D) (pc' := 15) rfl (ev_gk hl0 (ev_gk (ev_tyk hT hl0 rfl rfl) (ev_gk (ev_tyk hT (ev_tyk hT hl0 rfl rfl) rfl rfl) (rfl)))) rfl ?_
    refine ev_ic_ge hX (off := 21) 36 (by decide +kernel) (by decide) (fun h1 => ?_) (fun h1 => ?_)
    · have hf := ev_it h1 hf
      refine ev_blk hX lkok_RX3 [(.iload_n 2, 1, 0, 0, 0)] (by decide +kernel) (g := true) (lv' := [some (.ref l0), some (.int l1), some (.int l2), some (.int l3)]) (st' := [.int l2]) (D' := D) (pc' := 37) rfl (rfl) rfl ?_
      exact ev_iret hR ev_sm.rf (Option.some.inj hf) hC (by decide +kernel)
    · have hf := ev_nf h1 hf
      refine ev_blk hX lkok_RX3 [(.aload_n 0, 1, 0, 0, 0), (.iload_n 3, 1, 0, 0, 0), (.iload_n 1, 1, 0, 0, 0)] (by decide +kernel) (g := true) (lv' := [some (.ref l0), some (.int l1), some (.int l2), some (.int l3)]) (st' := [.int l1, .int l3, .ref l0]) (D' := D) (pc' := 21) rfl (rfl) rfl ?_
      obtain ⟨v2, D2, hc2, hf⟩ := ev_bd_s hf
      refine ev_callV hX YX3_ringsAt ml_RX3_108 (mX3_ringsAt hT hl0 hc2) (vs := [.int l3, .int l1]) (st := []) (by decide) 3 hl0 rfl rfl rfl (by decide +kernel) hC ?_
      show F S D2 24 [some (.ref l0), some (.int l1), some (.int l2), some (.int l3)] [.int v2]
      refine ev_if_eq hX (off := 6) 30 (by decide +kernel) (by decide) (fun h3 => ?_) (fun h3 => ?_)
      · have hf := ev_it h3 hf
        refine ev_blk hX lkok_RX3 [(.iinc 3 1, 3, 0, 0, 1)] (by decide +kernel) (g := true) (lv' := [some (.ref l0), some (.int l1), some (.int l2), some (.int (l3 + (1 : Int32)))]) (st' := []) (D' := D2) (pc' := 33) rfl (rfl) rfl ?_
        refine ev_goto hX (off := (-29)) 4 (by decide +kernel) (by decide) ?_
        exact ev_weak hX (ev_le_eq (ev_le_eq (ev_le_eq (ev_le_eq ev_le_nil)))) (ih _ _ _ _ _ hl0 hf)
      · have hf := ev_nf h3 hf
        refine ev_blk hX lkok_RX3 [(.iinc 2 1, 3, 0, 0, 1), (.iinc 3 1, 3, 0, 0, 1)] (by decide +kernel) (g := true) (lv' := [some (.ref l0), some (.int l1), some (.int (l2 + (1 : Int32))), some (.int (l3 + (1 : Int32)))]) (st' := []) (D' := D2) (pc' := 33) rfl (rfl) rfl ?_
        refine ev_goto hX (off := (-29)) 4 (by decide +kernel) (by decide) ?_
        exact ev_weak hX (ev_le_eq (ev_le_eq (ev_le_eq (ev_le_eq ev_le_nil)))) (ih _ _ _ _ _ hl0 hf)
set_option maxHeartbeats 4000000 in
set_option maxRecDepth 100000 in
theorem tX3_ringAt {S : ev_S} {fu : Nat} {r : Int32 × ev_D} {F : ev_Fr} (hR : ev_R RX3 cX3_ringAt 4 2 0 0 false (some .int) S r F) (hT : ev_Ty S) (hC : sC S ≤ 0 ∧ sA S ≤ 0) {l0 : Nat} {l1 : Int32} {D : ev_D} (hl0 : sK S l0 = 6) (hf : fX3_ringAt (sL S) (sE S) fu l0 l1 D = some r) : F S D 0 [some (.ref l0), some (.int l1), none, none] [] := by
  have hX := hR.X
  unfold fX3_ringAt at hf
  refine ev_blk hX lkok_RX3 [(.iconst 0, 1, 0, 0, 0), (.istore_n 2, 1, 0, 0, 0), (.iconst 0, 1, 0, 0, 0), (.istore_n 3, 1, 0, 0, 0)] (by decide +kernel) (g := true) (lv' := [some (.ref l0), some (.int l1), some (.int (0 : Int32)), some (.int (0 : Int32))]) (st' := []) (D' := D) (pc' := 4) rfl (rfl) rfl ?_
  exact ev_weak hX (ev_le_eq (ev_le_eq (ev_le_eq (ev_le_eq ev_le_nil)))) (tX3_ringAt_4 hR hT hC   fu _ _ _ _ _ hl0 hf)
theorem mX3_ringAt {S : ev_S} {fu : Nat} {r : Int32 × ev_D} (hT : ev_Ty S) {l0 : Nat} {l1 : Int32} {D : ev_D} (hl0 : sK S l0 = 6) (hf : fX3_ringAt (sL S) (sE S) fu l0 l1 D = some r) : ev_M 2 0 0 yX3_ringAt cX3_ringAt 4 (some .int) [.ref l0, .int l1] S D S r :=
  ev_met (ini := false) (plainFor_of_name (by decide)) (fun h => by cases h) rfl (Nat.le_of_ble_eq_true rfl) (fun F hR => tX3_ringAt (S := ev_z S) hR hT ⟨Nat.le_refl 0, Nat.le_refl 0⟩ hl0 hf)
set_option maxHeartbeats 4000000 in
set_option maxRecDepth 100000 in
theorem tX11_together {S : ev_S} {fu : Nat} {r : Int32 × ev_D} {F : ev_Fr} (hR : ev_R RX11 cX11_together 2 3 0 0 false (some .int) S r F) (hT : ev_Ty S) (hC : sC S ≤ 0 ∧ sA S ≤ 0) {l0 : Nat} {l1 : Int32} {D : ev_D} (hl0 : sK S l0 = 14) (hf : fX11_together (sL S) (sE S) fu l0 l1 D = some r) : F S D 0 [some (.ref l0), some (.int l1)] [] := by
  have hX := hR.X
  unfold fX11_together at hf
  refine ev_blk hX lkok_RX11 [(.iload_n 1, 1, 0, 0, 0), (.iconst (-1), 1, 0, 0, (-1))] (by decide +kernel) (g := true) (lv' := [some (.ref l0), some (.int l1)]) (st' := [.int (-1 : Int32), .int l1]) (D' := D) (pc' := 2) rfl (rfl) rfl ?_
  refine ev_ic_ne hX (off := 11) 13 (by decide +kernel) (by decide) (fun h1 => ?_) (fun h1 => ?_)
  · have hf := ev_nf h1 hf
    refine ev_blk hX lkok_RX11 [(.iload_n 1, 1, 0, 0, 0), (.iconst 0, 1, 0, 0, 0), (.sipush 9999, 3, 0, 0, 9999)] (by decide +kernel) (g := true) (lv' := [some (.ref l0), some (.int l1)]) (st' := [.int (9999 : Int32), .int (0 : Int32), .int l1]) (D' := D) (pc' := 18) rfl (rfl) rfl ?_
    obtain ⟨v2, D2, hc2, hf⟩ := ev_bd_s hf
    refine ev_callS hX YX11_within ml_RX11_85 (mX11_within hT  hc2) (vs := [.int l1, .int (0 : Int32), .int (9999 : Int32)]) (st := []) (by decide) rfl rfl (by decide +kernel) hC ?_
    show F S D2 21 [some (.ref l0), some (.int l1)] [.int v2]
    refine ev_if_eq hX (off := 14) 35 (by decide +kernel) (by decide) (fun h3 => ?_) (fun h3 => ?_)
    · have hf := ev_it h3 hf
      refine ev_blk hX lkok_RX11 [(.iconst (-1), 1, 0, 0, (-1))] (by decide +kernel) (g := true) (lv' := [some (.ref l0), some (.int l1)]) (st' := [.int (-1 : Int32)]) (D' := D2) (pc' := 36) rfl (rfl) rfl ?_
      exact ev_iret hR ev_sm.rf (Option.some.inj hf) hC (by decide +kernel)
    · have hf := ev_nf h3 hf
      refine ev_blk hX lkok_RX11 [(.aload_n 0, 1, 0, 0, 0), (.getfield 71, 3, 11, 5, 0), (.iload_n 1, 1, 0, 0, 0)] (by decide +kernel) (g := (sK S l0 == 14) && (true)) (lv' := [some (.ref l0), some (.int l1)]) (st' := [.int l1, .ref ((sE S) l0 5)]) (D' := D2) (pc' := 29) rfl (ev_gk hl0 (rfl)) rfl ?_
      obtain ⟨v4, D4, hc4, hf⟩ := ev_bd_s hf
      refine ev_callV hX YX3_ringAt ml_RX11_258 (mX3_ringAt hT (ev_tyk hT hl0 rfl rfl) hc4) (vs := [.int l1]) (st := []) (by decide) 3 (ev_tyk hT hl0 rfl rfl) rfl rfl rfl (by decide +kernel) hC ?_
      show F S D4 32 [some (.ref l0), some (.int l1)] [.int v4]
      refine ev_goto hX (off := 4) 36 (by decide +kernel) (by decide) ?_
      exact ev_iret hR ev_sm.rf (Option.some.inj hf) hC (by decide +kernel)
  · have hf := ev_it h1 hf
    refine ev_blk hX lkok_RX11 [(.aload_n 0, 1, 0, 0, 0), (.getfield 71, 3, 11, 5, 0)] (by decide +kernel) (g := (sK S l0 == 14) && (true)) (lv' := [some (.ref l0), some (.int l1)]) (st' := [.ref ((sE S) l0 5)]) (D' := D) (pc' := 9) rfl (ev_gk hl0 (rfl)) rfl ?_
    obtain ⟨v5, D5, hc5, hf⟩ := ev_bd_s hf
    refine ev_callV hX YX3_firstTogether ml_RX11_255 (mX3_firstTogether hT (ev_tyk hT hl0 rfl rfl) hc5) (vs := []) (st := []) (by decide) 3 (ev_tyk hT hl0 rfl rfl) rfl rfl rfl (by decide +kernel) hC ?_
    show F S D5 12 [some (.ref l0), some (.int l1)] [.int v5]
    exact ev_iret hR ev_sm.rf (Option.some.inj hf) hC (by decide +kernel)
theorem mX11_together {S : ev_S} {fu : Nat} {r : Int32 × ev_D} (hT : ev_Ty S) {l0 : Nat} {l1 : Int32} {D : ev_D} (hl0 : sK S l0 = 14) (hf : fX11_together (sL S) (sE S) fu l0 l1 D = some r) : ev_M 3 0 0 yX11_together cX11_together 2 (some .int) [.ref l0, .int l1] S D S r :=
  ev_met (ini := false) (plainFor_of_name (by decide)) (fun h => by cases h) rfl (Nat.le_of_ble_eq_true rfl) (fun F hR => tX11_together (S := ev_z S) hR hT ⟨Nat.le_refl 0, Nat.le_refl 0⟩ hl0 hf)
set_option maxHeartbeats 4000000 in
set_option maxRecDepth 100000 in
theorem tX11_hold {S : ev_S} {fu : Nat} {r : Int32 × ev_D} {F : ev_Fr} (hR : ev_R RX11 cX11_hold 4 1 0 0 false (some .boolean) S r F) (hT : ev_Ty S) (hC : sC S ≤ 0 ∧ sA S ≤ 0) {l0 : Nat} {l1 : Int32} {l2 : Int32} {l3 : Int32} {D : ev_D} (hl0 : sK S l0 = 14) (hf : fX11_hold (sL S) (sE S) fu l0 l1 l2 l3 D = some r) : F S D 0 [some (.ref l0), some (.int l1), some (.int l2), some (.int l3)] [] := by
  have hX := hR.X
  unfold fX11_hold at hf
  refine ev_blk hX lkok_RX11 [(.iload_n 1, 1, 0, 0, 0), (.iconst 0, 1, 0, 0, 0), (.bipush 9, 2, 0, 0, 9)] (by decide +kernel) (g := true) (lv' := [some (.ref l0), some (.int l1), some (.int l2), some (.int l3)]) (st' := [.int (9 : Int32), .int (0 : Int32), .int l1]) (D' := D) (pc' := 4) rfl (rfl) rfl ?_
  obtain ⟨v1, D1, hc1, hf⟩ := ev_bd_s hf
  refine ev_callS hX YX11_within ml_RX11_85 (mX11_within hT  hc1) (vs := [.int l1, .int (0 : Int32), .int (9 : Int32)]) (st := []) (by decide) rfl rfl (by decide +kernel) hC ?_
  show F S D1 7 [some (.ref l0), some (.int l1), some (.int l2), some (.int l3)] [.int v1]
  refine ev_if_eq hX (off := 23) 30 (by decide +kernel) (by decide) (fun h2 => ?_) (fun h2 => ?_)
  · have hf := ev_it h2 hf
    refine ev_blk hX lkok_RX11 [(.iconst 0, 1, 0, 0, 0)] (by decide +kernel) (g := true) (lv' := [some (.ref l0), some (.int l1), some (.int l2), some (.int l3)]) (st' := [.int (0 : Int32)]) (D' := D1) (pc' := 31) rfl (rfl) rfl ?_
    exact ev_zret hR ev_sm.rf (Or.inl rfl) (Option.some.inj hf) hC (by decide +kernel)
  · have hf := ev_nf h2 hf
    refine ev_blk hX lkok_RX11 [(.iload_n 2, 1, 0, 0, 0), (.iconst 0, 1, 0, 0, 0), (.bipush 7, 2, 0, 0, 7)] (by decide +kernel) (g := true) (lv' := [some (.ref l0), some (.int l1), some (.int l2), some (.int l3)]) (st' := [.int (7 : Int32), .int (0 : Int32), .int l2]) (D' := D1) (pc' := 14) rfl (rfl) rfl ?_
    obtain ⟨v3, D3, hc3, hf⟩ := ev_bd_s hf
    refine ev_callS hX YX11_within ml_RX11_85 (mX11_within hT  hc3) (vs := [.int l2, .int (0 : Int32), .int (7 : Int32)]) (st := []) (by decide) rfl rfl (by decide +kernel) hC ?_
    show F S D3 17 [some (.ref l0), some (.int l1), some (.int l2), some (.int l3)] [.int v3]
    refine ev_if_eq hX (off := 13) 30 (by decide +kernel) (by decide) (fun h4 => ?_) (fun h4 => ?_)
    · have hf := ev_it h4 hf
      refine ev_blk hX lkok_RX11 [(.iconst 0, 1, 0, 0, 0)] (by decide +kernel) (g := true) (lv' := [some (.ref l0), some (.int l1), some (.int l2), some (.int l3)]) (st' := [.int (0 : Int32)]) (D' := D3) (pc' := 31) rfl (rfl) rfl ?_
      exact ev_zret hR ev_sm.rf (Or.inl rfl) (Option.some.inj hf) hC (by decide +kernel)
    · have hf := ev_nf h4 hf
      refine ev_blk hX lkok_RX11 [(.iload_n 3, 1, 0, 0, 0), (.iconst 0, 1, 0, 0, 0), (.bipush 99, 2, 0, 0, 99)] (by decide +kernel) (g := true) (lv' := [some (.ref l0), some (.int l1), some (.int l2), some (.int l3)]) (st' := [.int (99 : Int32), .int (0 : Int32), .int l3]) (D' := D3) (pc' := 24) rfl (rfl) rfl ?_
      obtain ⟨v5, D5, hc5, hf⟩ := ev_bd_s hf
      refine ev_callS hX YX11_within ml_RX11_85 (mX11_within hT  hc5) (vs := [.int l3, .int (0 : Int32), .int (99 : Int32)]) (st := []) (by decide) rfl rfl (by decide +kernel) hC ?_
      show F S D5 27 [some (.ref l0), some (.int l1), some (.int l2), some (.int l3)] [.int v5]
      refine ev_if_ne hX (off := 5) 32 (by decide +kernel) (by decide) (fun h6 => ?_) (fun h6 => ?_)
      · have hf := ev_nf h6 hf
        obtain ⟨hg7, hf⟩ := ev_gd_s hf
        refine ev_blk hX lkok_RX11 [(.aload_n 0, 1, 0, 0, 0), (.getfield 10, 3, 11, 0, 0), (.getfield 64, 3, 10, 3, 0), (.getfield 261, 3, 8, 5, 0), (.iload_n 1, 1, 0, 0, 0), (.bipush 8, 2, 0, 0, 8), (.imul, 1, 0, 0, 0), (.iload_n 2, 1, 0, 0, 0), (.iadd, 1, 0, 0, 0), (.iload_n 3, 1, 0, 0, 0), (.iastore, 1, 0, 0, 0), (.iconst 1, 1, 0, 0, 1)] (by decide +kernel) (g := (sK S l0 == 14) && ((sK S ((sE S) l0 0) == 13) && ((sK S ((sE S) ((sE S) l0 0) 3) == 11) && ((sK S ((sE S) ((sE S) ((sE S) l0 0) 3) 5) == 1 && ev_in ((l1 * (8 : Int32)) + l2) ((sL S) ((sE S) ((sE S) ((sE S) l0 0) 3) 5))) && (true))))) (lv' := [some (.ref l0), some (.int l1), some (.int l2), some (.int l3)]) (st' := [.int (1 : Int32)]) (D' := (ev_up D5 ((sE S) ((sE S) ((sE S) l0 0) 3) 5) (((l1 * (8 : Int32)) + l2)).toNatClampNeg l3)) (pc' := 51) rfl (ev_gk hl0 (ev_gk (ev_tyk hT hl0 rfl rfl) (ev_gk (ev_tyk hT (ev_tyk hT hl0 rfl rfl) rfl rfl) (ev_gi (ev_tyk hT (ev_tyk hT (ev_tyk hT hl0 rfl rfl) rfl rfl) rfl rfl) hg7 (rfl))))) rfl ?_
        exact ev_zret hR ev_sm.rf (Or.inr rfl) (Option.some.inj hf) hC (by decide +kernel)
      · have hf := ev_it h6 hf
        refine ev_blk hX lkok_RX11 [(.iconst 0, 1, 0, 0, 0)] (by decide +kernel) (g := true) (lv' := [some (.ref l0), some (.int l1), some (.int l2), some (.int l3)]) (st' := [.int (0 : Int32)]) (D' := D5) (pc' := 31) rfl (rfl) rfl ?_
        exact ev_zret hR ev_sm.rf (Or.inl rfl) (Option.some.inj hf) hC (by decide +kernel)
theorem mX11_hold {S : ev_S} {fu : Nat} {r : Int32 × ev_D} (hT : ev_Ty S) {l0 : Nat} {l1 : Int32} {l2 : Int32} {l3 : Int32} {D : ev_D} (hl0 : sK S l0 = 14) (hf : fX11_hold (sL S) (sE S) fu l0 l1 l2 l3 D = some r) : ev_M 1 0 0 yX11_hold cX11_hold 4 (some .boolean) [.ref l0, .int l1, .int l2, .int l3] S D S r :=
  ev_met (ini := false) (plainFor_of_name (by decide)) (fun h => by cases h) rfl (Nat.le_of_ble_eq_true rfl) (fun F hR => tX11_hold (S := ev_z S) hR hT ⟨Nat.le_refl 0, Nat.le_refl 0⟩ hl0 hf)
set_option maxHeartbeats 4000000 in
set_option maxRecDepth 100000 in
theorem tX8_holdOf {S : ev_S} {fu : Nat} {r : Int32 × ev_D} {F : ev_Fr} (hR : ev_R RX8 cX8_holdOf 3 1 0 0 false (some .int) S r F) (hT : ev_Ty S) (hC : sC S ≤ 0 ∧ sA S ≤ 0) {l0 : Nat} {l1 : Int32} {l2 : Int32} {D : ev_D} (hl0 : sK S l0 = 11) (hf : fX8_holdOf (sL S) (sE S) fu l0 l1 l2 D = some r) : F S D 0 [some (.ref l0), some (.int l1), some (.int l2)] [] := by
  have hX := hR.X
  unfold fX8_holdOf at hf
  refine ev_blk hX lkok_RX8 [(.iload_n 1, 1, 0, 0, 0), (.iconst 0, 1, 0, 0, 0), (.bipush 9, 2, 0, 0, 9)] (by decide +kernel) (g := true) (lv' := [some (.ref l0), some (.int l1), some (.int l2)]) (st' := [.int (9 : Int32), .int (0 : Int32), .int l1]) (D' := D) (pc' := 4) rfl (rfl) rfl ?_
  obtain ⟨v1, D1, hc1, hf⟩ := ev_bd_s hf
  refine ev_callSN hX YX11_within ml_RX8_47 (mX11_within hT  hc1) (vs := [.int l1, .int (0 : Int32), .int (9 : Int32)]) (st := []) (by decide) rfl rfl (by decide +kernel) hC ?_
  show F S D1 7 [some (.ref l0), some (.int l1), some (.int l2)] [.int v1]
  refine ev_if_eq hX (off := 27) 34 (by decide +kernel) (by decide) (fun h2 => ?_) (fun h2 => ?_)
  · have hf := ev_it h2 hf
    refine ev_blk hX lkok_RX8 [(.iconst 0, 1, 0, 0, 0)] (by decide +kernel) (g := true) (lv' := [some (.ref l0), some (.int l1), some (.int l2)]) (st' := [.int (0 : Int32)]) (D' := D1) (pc' := 35) rfl (rfl) rfl ?_
    exact ev_iret hR ev_sm.rf (Option.some.inj hf) hC (by decide +kernel)
  · have hf := ev_nf h2 hf
    refine ev_blk hX lkok_RX8 [(.iload_n 2, 1, 0, 0, 0), (.iconst 0, 1, 0, 0, 0), (.bipush 7, 2, 0, 0, 7)] (by decide +kernel) (g := true) (lv' := [some (.ref l0), some (.int l1), some (.int l2)]) (st' := [.int (7 : Int32), .int (0 : Int32), .int l2]) (D' := D1) (pc' := 14) rfl (rfl) rfl ?_
    obtain ⟨v3, D3, hc3, hf⟩ := ev_bd_s hf
    refine ev_callSN hX YX11_within ml_RX8_47 (mX11_within hT  hc3) (vs := [.int l2, .int (0 : Int32), .int (7 : Int32)]) (st := []) (by decide) rfl rfl (by decide +kernel) hC ?_
    show F S D3 17 [some (.ref l0), some (.int l1), some (.int l2)] [.int v3]
    refine ev_if_eq hX (off := 17) 34 (by decide +kernel) (by decide) (fun h4 => ?_) (fun h4 => ?_)
    · have hf := ev_it h4 hf
      refine ev_blk hX lkok_RX8 [(.iconst 0, 1, 0, 0, 0)] (by decide +kernel) (g := true) (lv' := [some (.ref l0), some (.int l1), some (.int l2)]) (st' := [.int (0 : Int32)]) (D' := D3) (pc' := 35) rfl (rfl) rfl ?_
      exact ev_iret hR ev_sm.rf (Option.some.inj hf) hC (by decide +kernel)
    · have hf := ev_nf h4 hf
      obtain ⟨hg5, hf⟩ := ev_gd_s hf
      refine ev_blk hX lkok_RX8 [(.aload_n 0, 1, 0, 0, 0), (.getfield 32, 3, 8, 5, 0), (.iload_n 1, 1, 0, 0, 0), (.bipush 8, 2, 0, 0, 8), (.imul, 1, 0, 0, 0), (.iload_n 2, 1, 0, 0, 0), (.iadd, 1, 0, 0, 0), (.iaload, 1, 0, 0, 0)] (by decide +kernel) (g := (sK S l0 == 11) && ((sK S ((sE S) l0 5) == 1 && ev_in ((l1 * (8 : Int32)) + l2) ((sL S) ((sE S) l0 5))) && (true))) (lv' := [some (.ref l0), some (.int l1), some (.int l2)]) (st' := [.int (D3 ((sE S) l0 5) (((l1 * (8 : Int32)) + l2)).toNatClampNeg)]) (D' := D3) (pc' := 31) rfl (ev_gk hl0 (ev_gi (ev_tyk hT hl0 rfl rfl) hg5 (rfl))) rfl ?_
      refine ev_goto hX (off := 4) 35 (by decide +kernel) (by decide) ?_
      exact ev_iret hR ev_sm.rf (Option.some.inj hf) hC (by decide +kernel)
theorem mX8_holdOf {S : ev_S} {fu : Nat} {r : Int32 × ev_D} (hT : ev_Ty S) {l0 : Nat} {l1 : Int32} {l2 : Int32} {D : ev_D} (hl0 : sK S l0 = 11) (hf : fX8_holdOf (sL S) (sE S) fu l0 l1 l2 D = some r) : ev_M 1 0 0 yX8_holdOf cX8_holdOf 3 (some .int) [.ref l0, .int l1, .int l2] S D S r :=
  ev_met (ini := false) (plainFor_of_name (by decide)) (fun h => by cases h) rfl (Nat.le_of_ble_eq_true rfl) (fun F hR => tX8_holdOf (S := ev_z S) hR hT ⟨Nat.le_refl 0, Nat.le_refl 0⟩ hl0 hf)
set_option maxHeartbeats 4000000 in
set_option maxRecDepth 100000 in
theorem tX3_firstBellFor_3 {S : ev_S} {fu : Nat} {r : Int32 × ev_D} {F : ev_Fr} (hR : ev_R RX3 cX3_firstBellFor 5 2 0 0 false (some .int) S r F) (hT : ev_Ty S) (hC : sC S ≤ 0 ∧ sA S ≤ 0) : ∀ (n : Nat) (l0 : Nat) (l1 : Int32) (l2 : Int32) (l3 : Int32) (l4 : Int32) (D : ev_D), sK S l0 = 6 → fX3_firstBellFor_3 (sL S) (sE S) fu n l0 l1 l2 l3 l4 D = some r → F S D 3 [some (.ref l0), some (.int l1), some (.int l2), some (.int l3), some (.int l4)] [] := by
  have hX := hR.X
  intro n
  induction n with
  | zero =>
    intro l0 l1 l2 l3 l4 D hl0 hf
    rw [fX3_firstBellFor_3] at hf
    cases hf
  | succ n ih =>
    intro l0 l1 l2 l3 l4 D hl0 hf
    rw [fX3_firstBellFor_3] at hf
    refine ev_blk hX lkok_RX3 [(.iload 4, 2, 0, 0, 0), (.bipush 8, 2, 0, 0, 8)] (by decide +kernel) (g := true) (lv' := [some (.ref l0), some (.int l1), some (.int l2), some (.int l3), some (.int l4)]) (st' := [.int (8 : Int32), .int l4]) (D' := D) (pc' := 7) rfl (rfl) rfl ?_
    refine ev_ic_ge hX (off := 50) 57 (by decide +kernel) (by decide) (fun h1 => ?_) (fun h1 => ?_)
    · have hf := ev_it h1 hf
      refine ev_blk hX lkok_RX3 [(.iconst (-1), 1, 0, 0, (-1))] (by decide +kernel) (g := true) (lv' := [some (.ref l0), some (.int l1), some (.int l2), some (.int l3), some (.int l4)]) (st' := [.int (-1 : Int32)]) (D' := D) (pc' := 58) rfl (rfl) rfl ?_
      exact ev_iret hR ev_sm.rf (Option.some.inj hf) hC (by decide +kernel)
    · have hf := ev_nf h1 hf
      refine ev_blk hX lkok_RX3 [(.iload_n 2, 1, 0, 0, 0), (.iload 4, 2, 0, 0, 0)] (by decide +kernel) (g := true) (lv' := [some (.ref l0), some (.int l1), some (.int l2), some (.int l3), some (.int l4)]) (st' := [.int l4, .int l2]) (D' := D) (pc' := 13) rfl (rfl) rfl ?_
      obtain ⟨v2, D2, hc2, hf⟩ := ev_bd_s hf
      refine ev_callSN hX YX11_isIn ml_RX3_64 (mX11_isIn hT  hc2) (vs := [.int l2, .int l4]) (st := []) (by decide) rfl rfl (by decide +kernel) hC ?_
      show F S D2 16 [some (.ref l0), some (.int l1), some (.int l2), some (.int l3), some (.int l4)] [.int v2]
      refine ev_if_ne hX (off := 35) 51 (by decide +kernel) (by decide) (fun h3 => ?_) (fun h3 => ?_)
      · have hf := ev_nf h3 hf
        refine ev_blk hX lkok_RX3 [(.iinc 4 1, 3, 0, 0, 1)] (by decide +kernel) (g := true) (lv' := [some (.ref l0), some (.int l1), some (.int l2), some (.int l3), some (.int (l4 + (1 : Int32)))]) (st' := []) (D' := D2) (pc' := 54) rfl (rfl) rfl ?_
        refine ev_goto hX (off := (-51)) 3 (by decide +kernel) (by decide) ?_
        exact ev_weak hX (ev_le_eq (ev_le_eq (ev_le_eq (ev_le_eq (ev_le_eq ev_le_nil))))) (ih _ _ _ _ _ _ hl0 hf)
      · have hf := ev_it h3 hf
        refine ev_blk hX lkok_RX3 [(.aload_n 0, 1, 0, 0, 0), (.getfield 41, 3, 3, 2, 0), (.iload_n 1, 1, 0, 0, 0), (.iload 4, 2, 0, 0, 0)] (by decide +kernel) (g := (sK S l0 == 6) && (true)) (lv' := [some (.ref l0), some (.int l1), some (.int l2), some (.int l3), some (.int l4)]) (st' := [.int l4, .int l1, .ref ((sE S) l0 2)]) (D' := D2) (pc' := 26) rfl (ev_gk hl0 (rfl)) rfl ?_
        obtain ⟨v4, D4, hc4, hf⟩ := ev_bd_s hf
        refine ev_callV hX YX8_holdOf ml_RX3_119 (mX8_holdOf hT (ev_tyk hT hl0 rfl rfl) hc4) (vs := [.int l1, .int l4]) (st := []) (by decide) 8 (ev_tyk hT hl0 rfl rfl) rfl rfl rfl (by decide +kernel) hC ?_
        show F S D4 29 [some (.ref l0), some (.int l1), some (.int l2), some (.int l3), some (.int l4)] [.int v4]
        refine ev_blk hX lkok_RX3 [(.iload_n 3, 1, 0, 0, 0)] (by decide +kernel) (g := true) (lv' := [some (.ref l0), some (.int l1), some (.int l2), some (.int l3), some (.int l4)]) (st' := [.int l3, .int v4]) (D' := D4) (pc' := 30) rfl (rfl) rfl ?_
        refine ev_ic_lt hX (off := 21) 51 (by decide +kernel) (by decide) (fun h5 => ?_) (fun h5 => ?_)
        · have hf := ev_it h5 hf
          refine ev_blk hX lkok_RX3 [(.iinc 4 1, 3, 0, 0, 1)] (by decide +kernel) (g := true) (lv' := [some (.ref l0), some (.int l1), some (.int l2), some (.int l3), some (.int (l4 + (1 : Int32)))]) (st' := []) (D' := D4) (pc' := 54) rfl (rfl) rfl ?_
          refine ev_goto hX (off := (-51)) 3 (by decide +kernel) (by decide) ?_
          exact ev_weak hX (ev_le_eq (ev_le_eq (ev_le_eq (ev_le_eq (ev_le_eq ev_le_nil))))) (ih _ _ _ _ _ _ hl0 hf)
        · have hf := ev_nf h5 hf
          obtain ⟨hg7, hf⟩ := ev_gd_s hf
          refine ev_blk hX lkok_RX3 [(.aload_n 0, 1, 0, 0, 0), (.getfield 18, 3, 3, 5, 0), (.iload_n 2, 1, 0, 0, 0), (.iconst 1, 1, 0, 0, 1), (.iload 4, 2, 0, 0, 0), (.ishl, 1, 0, 0, 0), (.ior, 1, 0, 0, 0), (.iaload, 1, 0, 0, 0), (.iload_n 3, 1, 0, 0, 0)] (by decide +kernel) (g := (sK S l0 == 6) && ((sK S ((sE S) l0 5) == 1 && ev_in (l2 ||| ((1 : Int32) <<< (l4 &&& 31))) ((sL S) ((sE S) l0 5))) && (true))) (lv' := [some (.ref l0), some (.int l1), some (.int l2), some (.int l3), some (.int l4)]) (st' := [.int l3, .int (D4 ((sE S) l0 5) ((l2 ||| ((1 : Int32) <<< (l4 &&& 31)))).toNatClampNeg)]) (D' := D4) (pc' := 45) rfl (ev_gk hl0 (ev_gi (ev_tyk hT hl0 rfl rfl) hg7 (rfl))) rfl ?_
          refine ev_ic_lt hX (off := 6) 51 (by decide +kernel) (by decide) (fun h6 => ?_) (fun h6 => ?_)
          · have hf := ev_it h6 hf
            refine ev_blk hX lkok_RX3 [(.iinc 4 1, 3, 0, 0, 1)] (by decide +kernel) (g := true) (lv' := [some (.ref l0), some (.int l1), some (.int l2), some (.int l3), some (.int (l4 + (1 : Int32)))]) (st' := []) (D' := D4) (pc' := 54) rfl (rfl) rfl ?_
            refine ev_goto hX (off := (-51)) 3 (by decide +kernel) (by decide) ?_
            exact ev_weak hX (ev_le_eq (ev_le_eq (ev_le_eq (ev_le_eq (ev_le_eq ev_le_nil))))) (ih _ _ _ _ _ _ hl0 hf)
          · have hf := ev_nf h6 hf
            refine ev_blk hX lkok_RX3 [(.iload 4, 2, 0, 0, 0)] (by decide +kernel) (g := true) (lv' := [some (.ref l0), some (.int l1), some (.int l2), some (.int l3), some (.int l4)]) (st' := [.int l4]) (D' := D4) (pc' := 50) rfl (rfl) rfl ?_
            exact ev_iret hR ev_sm.rf (Option.some.inj hf) hC (by decide +kernel)
set_option maxHeartbeats 4000000 in
set_option maxRecDepth 100000 in
theorem tX3_firstBellFor {S : ev_S} {fu : Nat} {r : Int32 × ev_D} {F : ev_Fr} (hR : ev_R RX3 cX3_firstBellFor 5 2 0 0 false (some .int) S r F) (hT : ev_Ty S) (hC : sC S ≤ 0 ∧ sA S ≤ 0) {l0 : Nat} {l1 : Int32} {l2 : Int32} {l3 : Int32} {D : ev_D} (hl0 : sK S l0 = 6) (hf : fX3_firstBellFor (sL S) (sE S) fu l0 l1 l2 l3 D = some r) : F S D 0 [some (.ref l0), some (.int l1), some (.int l2), some (.int l3), none] [] := by
  have hX := hR.X
  unfold fX3_firstBellFor at hf
  refine ev_blk hX lkok_RX3 [(.iconst 0, 1, 0, 0, 0), (.istore 4, 2, 0, 0, 0)] (by decide +kernel) (g := true) (lv' := [some (.ref l0), some (.int l1), some (.int l2), some (.int l3), some (.int (0 : Int32))]) (st' := []) (D' := D) (pc' := 3) rfl (rfl) rfl ?_
  exact ev_weak hX (ev_le_eq (ev_le_eq (ev_le_eq (ev_le_eq (ev_le_eq ev_le_nil))))) (tX3_firstBellFor_3 hR hT hC   fu _ _ _ _ _ _ hl0 hf)
theorem mX3_firstBellFor {S : ev_S} {fu : Nat} {r : Int32 × ev_D} (hT : ev_Ty S) {l0 : Nat} {l1 : Int32} {l2 : Int32} {l3 : Int32} {D : ev_D} (hl0 : sK S l0 = 6) (hf : fX3_firstBellFor (sL S) (sE S) fu l0 l1 l2 l3 D = some r) : ev_M 2 0 0 yX3_firstBellFor cX3_firstBellFor 5 (some .int) [.ref l0, .int l1, .int l2, .int l3] S D S r :=
  ev_met (ini := false) (plainFor_of_name (by decide)) (fun h => by cases h) rfl (Nat.le_of_ble_eq_true rfl) (fun F hR => tX3_firstBellFor (S := ev_z S) hR hT ⟨Nat.le_refl 0, Nat.le_refl 0⟩ hl0 hf)
set_option maxHeartbeats 4000000 in
set_option maxRecDepth 100000 in
theorem tX3_weakestHold_38 {S : ev_S} {fu : Nat} {r : Int32 × ev_D} {F : ev_Fr} (hR : ev_R RX3 cX3_weakestHold 5 2 0 0 false (some .int) S r F) (hT : ev_Ty S) (hC : sC S ≤ 0 ∧ sA S ≤ 0) {k4 : Nat → Int32 → ev_D → ev_Op} (hk4 : ∀ (l0 : Nat) (l1 : Int32) (D : ev_D), sK S l0 = 6 → k4 l0 l1 D = some r → F S D 4 [some (.ref l0), some (.int l1), none, none, none] []) : ∀ (n : Nat) (l0 : Nat) (l1 : Int32) (l2 : Int32) (l3 : Int32) (D : ev_D), sK S l0 = 6 → fX3_weakestHold_38 (sL S) (sE S) fu k4 n l0 l1 l2 l3 D = some r → F S D 38 [some (.ref l0), some (.int l1), some (.int l2), some (.int l3), none] [] := by
  have hX := hR.X
  intro n
  induction n with
  | zero =>
    intro l0 l1 l2 l3 D hl0 hf
    rw [fX3_weakestHold_38] at hf
    cases hf
  | succ n ih =>
    intro l0 l1 l2 l3 D hl0 hf
    rw [fX3_weakestHold_38] at hf
    refine ev_blk hX lkok_RX3 [(.iload_n 3, 1, 0, 0, 0), (.bipush 8, 2, 0, 0, 8)] (by decide +kernel) (g := true) (lv' := [some (.ref l0), some (.int l1), some (.int l2), some (.int l3), none]) (st' := [.int (8 : Int32), .int l3]) (D' := D) (pc' := 41) rfl (rfl) rfl ?_
    refine ev_ic_ge hX (off := 69) 110 (by decide +kernel) (by decide) (fun h1 => ?_) (fun h1 => ?_)
    · have hf := ev_it h1 hf
      refine ev_blk hX lkok_RX3 [(.iinc 1 (-1), 3, 0, 0, (-1))] (by decide +kernel) (g := true) (lv' := [some (.ref l0), some (.int (l1 + (-1 : Int32))), some (.int l2), some (.int l3), none]) (st' := []) (D' := D) (pc' := 113) rfl (rfl) rfl ?_
      refine ev_goto hX (off := (-109)) 4 (by decide +kernel) (by decide) ?_
      exact ev_weak hX (ev_le_eq (ev_le_eq (ev_le_no (ev_le_no (ev_le_no ev_le_nil))))) (hk4 _ _ _ hl0 hf)
    · have hf := ev_nf h1 hf
      refine ev_blk hX lkok_RX3 [(.iload_n 2, 1, 0, 0, 0), (.aload_n 0, 1, 0, 0, 0), (.getfield 33, 3, 3, 0, 0), (.getfield 114, 3, 9, 5, 0)] (by decide +kernel) (g := (sK S l0 == 6) && ((sK S ((sE S) l0 0) == 12) && (true))) (lv' := [some (.ref l0), some (.int l1), some (.int l2), some (.int l3), none]) (st' := [.int (D ((sE S) l0 0) 5), .int l2]) (D' := D) (pc' := 52) rfl (ev_gk hl0 (ev_gk (ev_tyk hT hl0 rfl rfl) (rfl))) rfl ?_
      refine ev_ic_ge hX (off := 58) 110 (by decide +kernel) (by decide) (fun h2 => ?_) (fun h2 => ?_)
      · have hf := ev_it h2 hf
        refine ev_blk hX lkok_RX3 [(.iinc 1 (-1), 3, 0, 0, (-1))] (by decide +kernel) (g := true) (lv' := [some (.ref l0), some (.int (l1 + (-1 : Int32))), some (.int l2), some (.int l3), none]) (st' := []) (D' := D) (pc' := 113) rfl (rfl) rfl ?_
        refine ev_goto hX (off := (-109)) 4 (by decide +kernel) (by decide) ?_
        exact ev_weak hX (ev_le_eq (ev_le_eq (ev_le_no (ev_le_no (ev_le_no ev_le_nil))))) (hk4 _ _ _ hl0 hf)
      · have hf := ev_nf h2 hf
        refine ev_blk hX lkok_RX3 [(.iload_n 1, 1, 0, 0, 0), (.iload_n 3, 1, 0, 0, 0)] (by decide +kernel) (g := true) (lv' := [some (.ref l0), some (.int l1), some (.int l2), some (.int l3), none]) (st' := [.int l3, .int l1]) (D' := D) (pc' := 57) rfl (rfl) rfl ?_
        obtain ⟨v3, D3, hc3, hf⟩ := ev_bd_s hf
        refine ev_callSN hX YX11_isIn ml_RX3_64 (mX11_isIn hT  hc3) (vs := [.int l1, .int l3]) (st := []) (by decide) rfl rfl (by decide +kernel) hC ?_
        show F S D3 60 [some (.ref l0), some (.int l1), some (.int l2), some (.int l3), none] [.int v3]
        refine ev_if_ne hX (off := 44) 104 (by decide +kernel) (by decide) (fun h4 => ?_) (fun h4 => ?_)
        · have hf := ev_nf h4 hf
          refine ev_blk hX lkok_RX3 [(.iinc 3 1, 3, 0, 0, 1)] (by decide +kernel) (g := true) (lv' := [some (.ref l0), some (.int l1), some (.int l2), some (.int (l3 + (1 : Int32))), none]) (st' := []) (D' := D3) (pc' := 107) rfl (rfl) rfl ?_
          refine ev_goto hX (off := (-69)) 38 (by decide +kernel) (by decide) ?_
          exact ev_weak hX (ev_le_eq (ev_le_eq (ev_le_eq (ev_le_eq (ev_le_no ev_le_nil))))) (ih _ _ _ _ _ hl0 hf)
        · have hf := ev_it h4 hf
          refine ev_blk hX lkok_RX3 [(.aload_n 0, 1, 0, 0, 0), (.getfield 41, 3, 3, 2, 0), (.iload_n 2, 1, 0, 0, 0), (.iload_n 3, 1, 0, 0, 0)] (by decide +kernel) (g := (sK S l0 == 6) && (true)) (lv' := [some (.ref l0), some (.int l1), some (.int l2), some (.int l3), none]) (st' := [.int l3, .int l2, .ref ((sE S) l0 2)]) (D' := D3) (pc' := 69) rfl (ev_gk hl0 (rfl)) rfl ?_
          obtain ⟨v5, D5, hc5, hf⟩ := ev_bd_s hf
          refine ev_callV hX YX8_holdOf ml_RX3_119 (mX8_holdOf hT (ev_tyk hT hl0 rfl rfl) hc5) (vs := [.int l2, .int l3]) (st := []) (by decide) 8 (ev_tyk hT hl0 rfl rfl) rfl rfl rfl (by decide +kernel) hC ?_
          show F S D5 72 [some (.ref l0), some (.int l1), some (.int l2), some (.int l3), none] [.int v5]
          obtain ⟨hg10, hf⟩ := ev_gd_s hf
          refine ev_blk hX lkok_RX3 [(.aload_n 0, 1, 0, 0, 0), (.getfield 18, 3, 3, 5, 0), (.iload_n 1, 1, 0, 0, 0), (.iconst 1, 1, 0, 0, 1), (.iload_n 3, 1, 0, 0, 0), (.ishl, 1, 0, 0, 0), (.ior, 1, 0, 0, 0), (.iaload, 1, 0, 0, 0)] (by decide +kernel) (g := (sK S l0 == 6) && ((sK S ((sE S) l0 5) == 1 && ev_in (l1 ||| ((1 : Int32) <<< (l3 &&& 31))) ((sL S) ((sE S) l0 5))) && (true))) (lv' := [some (.ref l0), some (.int l1), some (.int l2), some (.int l3), none]) (st' := [.int (D5 ((sE S) l0 5) ((l1 ||| ((1 : Int32) <<< (l3 &&& 31)))).toNatClampNeg), .int v5]) (D' := D5) (pc' := 82) rfl (ev_gk hl0 (ev_gi (ev_tyk hT hl0 rfl rfl) hg10 (rfl))) rfl ?_
          obtain ⟨v6, D6, hc6, hf⟩ := ev_bd_s hf
          refine ev_callS hX YJ9_min ml_RX3_122 (mJ9_min hT  hc6) (vs := [.int v5, .int (D5 ((sE S) l0 5) ((l1 ||| ((1 : Int32) <<< (l3 &&& 31)))).toNatClampNeg)]) (st := []) (by decide) rfl rfl (by decide +kernel) hC ?_
          show F S D6 85 [some (.ref l0), some (.int l1), some (.int l2), some (.int l3), none] [.int v6]
          obtain ⟨hg9, hf⟩ := ev_gd_s hf
          refine ev_blk hX lkok_RX3 [(.istore 4, 2, 0, 0, 0), (.aload_n 0, 1, 0, 0, 0), (.getfield 18, 3, 3, 5, 0), (.iload_n 1, 1, 0, 0, 0), (.aload_n 0, 1, 0, 0, 0), (.getfield 18, 3, 3, 5, 0), (.iload_n 1, 1, 0, 0, 0), (.iaload, 1, 0, 0, 0), (.iload 4, 2, 0, 0, 0)] (by decide +kernel) (g := (sK S l0 == 6) && ((sK S l0 == 6) && ((sK S ((sE S) l0 5) == 1 && ev_in l1 ((sL S) ((sE S) l0 5))) && (true)))) (lv' := [some (.ref l0), some (.int l1), some (.int l2), some (.int l3), some (.int v6)]) (st' := [.int v6, .int (D6 ((sE S) l0 5) (l1).toNatClampNeg), .int l1, .ref ((sE S) l0 5)]) (D' := D6) (pc' := 100) rfl (ev_gk hl0 (ev_gk hl0 (ev_gi (ev_tyk hT hl0 rfl rfl) hg9 (rfl)))) rfl ?_
          obtain ⟨v7, D7, hc7, hf⟩ := ev_bd_s hf
          refine ev_callS hX YJ9_max ml_RX3_102 (mJ9_max hT  hc7) (vs := [.int (D6 ((sE S) l0 5) (l1).toNatClampNeg), .int v6]) (st := [.int l1, .ref ((sE S) l0 5)]) (by decide) rfl rfl (by decide +kernel) hC ?_
          show F S D7 103 [some (.ref l0), some (.int l1), some (.int l2), some (.int l3), some (.int v6)] [.int v7, .int l1, .ref ((sE S) l0 5)]
          obtain ⟨hg8, hf⟩ := ev_gd_s hf
          refine ev_blk hX lkok_RX3 [(.iastore, 1, 0, 0, 0), (.iinc 3 1, 3, 0, 0, 1)] (by decide +kernel) (g := (sK S ((sE S) l0 5) == 1 && ev_in l1 ((sL S) ((sE S) l0 5))) && (true)) (lv' := [some (.ref l0), some (.int l1), some (.int l2), some (.int (l3 + (1 : Int32))), some (.int v6)]) (st' := []) (D' := (ev_up D7 ((sE S) l0 5) (l1).toNatClampNeg v7)) (pc' := 107) rfl (ev_gi (ev_tyk hT hl0 rfl rfl) hg8 (rfl)) rfl ?_
          refine ev_goto hX (off := (-69)) 38 (by decide +kernel) (by decide) ?_
          exact ev_weak hX (ev_le_eq (ev_le_eq (ev_le_eq (ev_le_eq (ev_le_no ev_le_nil))))) (ih _ _ _ _ _ hl0 hf)
set_option maxHeartbeats 4000000 in
set_option maxRecDepth 100000 in
theorem tX3_weakestHold_4 {S : ev_S} {fu : Nat} {r : Int32 × ev_D} {F : ev_Fr} (hR : ev_R RX3 cX3_weakestHold 5 2 0 0 false (some .int) S r F) (hT : ev_Ty S) (hC : sC S ≤ 0 ∧ sA S ≤ 0) : ∀ (n : Nat) (l0 : Nat) (l1 : Int32) (D : ev_D), sK S l0 = 6 → fX3_weakestHold_4 (sL S) (sE S) fu n l0 l1 D = some r → F S D 4 [some (.ref l0), some (.int l1), none, none, none] [] := by
  have hX := hR.X
  intro n
  induction n with
  | zero =>
    intro l0 l1 D hl0 hf
    rw [fX3_weakestHold_4] at hf
    cases hf
  | succ n ih =>
    intro l0 l1 D hl0 hf
    rw [fX3_weakestHold_4] at hf
    refine ev_blk hX lkok_RX3 [(.iload_n 1, 1, 0, 0, 0)] (by decide +kernel) (g := true) (lv' := [some (.ref l0), some (.int l1), none, none, none]) (st' := [.int l1]) (D' := D) (pc' := 5) rfl (rfl) rfl ?_
    refine ev_if_lt hX (off := 111) 116 (by decide +kernel) (by decide) (fun h11 => ?_) (fun h11 => ?_)
    · have hf := ev_it h11 hf
      obtain ⟨hg12, hf⟩ := ev_gd_s hf
      refine ev_blk hX lkok_RX3 [(.aload_n 0, 1, 0, 0, 0), (.getfield 18, 3, 3, 5, 0), (.iconst 0, 1, 0, 0, 0), (.iaload, 1, 0, 0, 0)] (by decide +kernel) (g := (sK S l0 == 6) && ((sK S ((sE S) l0 5) == 1 && ev_in (0 : Int32) ((sL S) ((sE S) l0 5))) && (true))) (lv' := [some (.ref l0), some (.int l1), none, none, none]) (st' := [.int (D ((sE S) l0 5) ((0 : Int32)).toNatClampNeg)]) (D' := D) (pc' := 122) rfl (ev_gk hl0 (ev_gi (ev_tyk hT hl0 rfl rfl) hg12 (rfl))) rfl ?_
      exact ev_iret hR ev_sm.rf (Option.some.inj hf) hC (by decide +kernel)
    · have hf := ev_nf h11 hf
      refine ev_blk hX lkok_RX3 [(.iload_n 1, 1, 0, 0, 0)] (by decide +kernel) (g := true) (lv' := [some (.ref l0), some (.int l1), none, none, none]) (st' := [.int l1]) (D' := D) (pc' := 9) rfl (rfl) rfl ?_
      obtain ⟨v13, D13, hc13, hf⟩ := ev_bd_s hf
      refine ev_callS hX YJ6_bitCount ml_RX3_88 (mJ6_bitCount hT  hc13) (vs := [.int l1]) (st := []) (by decide) rfl rfl (by decide +kernel) hC ?_
      show F S D13 12 [some (.ref l0), some (.int l1), none, none, none] [.int v13]
      refine ev_blk hX lkok_RX3 [(.istore_n 2, 1, 0, 0, 0), (.aload_n 0, 1, 0, 0, 0), (.getfield 18, 3, 3, 5, 0), (.iload_n 1, 1, 0, 0, 0), (.iload_n 2, 1, 0, 0, 0), (.aload_n 0, 1, 0, 0, 0), (.getfield 33, 3, 3, 0, 0), (.getfield 114, 3, 9, 5, 0)] (by decide +kernel) (g := (sK S l0 == 6) && ((sK S l0 == 6) && ((sK S ((sE S) l0 0) == 12) && (true)))) (lv' := [some (.ref l0), some (.int l1), some (.int v13), none, none]) (st' := [.int (D13 ((sE S) l0 0) 5), .int v13, .int l1, .ref ((sE S) l0 5)]) (D' := D13) (pc' := 26) rfl (ev_gk hl0 (ev_gk hl0 (ev_gk (ev_tyk hT hl0 rfl rfl) (rfl)))) rfl ?_
      refine ev_ic_lt hX (off := 8) 34 (by decide +kernel) (by decide) (fun h14 => ?_) (fun h14 => ?_)
      · have hf := ev_it h14 hf
        obtain ⟨hg15, hf⟩ := ev_gd_s hf
        refine ev_blk hX lkok_RX3 [(.iconst (-1), 1, 0, 0, (-1)), (.iastore, 1, 0, 0, 0), (.iconst 0, 1, 0, 0, 0), (.istore_n 3, 1, 0, 0, 0)] (by decide +kernel) (g := (sK S ((sE S) l0 5) == 1 && ev_in l1 ((sL S) ((sE S) l0 5))) && (true)) (lv' := [some (.ref l0), some (.int l1), some (.int v13), some (.int (0 : Int32)), none]) (st' := []) (D' := (ev_up D13 ((sE S) l0 5) (l1).toNatClampNeg (-1 : Int32))) (pc' := 38) rfl (ev_gi (ev_tyk hT hl0 rfl rfl) hg15 (rfl)) rfl ?_
        exact ev_weak hX (ev_le_eq (ev_le_eq (ev_le_eq (ev_le_eq (ev_le_no ev_le_nil))))) (tX3_weakestHold_38 hR hT hC  ih fu _ _ _ _ _ hl0 hf)
      · have hf := ev_nf h14 hf
        refine ev_blk hX lkok_RX3 [(.bipush 99, 2, 0, 0, 99)] (by decide +kernel) (g := true) (lv' := [some (.ref l0), some (.int l1), some (.int v13), none, none]) (st' := [.int (99 : Int32), .int l1, .ref ((sE S) l0 5)]) (D' := D13) (pc' := 31) rfl (rfl) rfl ?_
        refine ev_goto hX (off := 4) 35 (by decide +kernel) (by decide) ?_
        obtain ⟨hg16, hf⟩ := ev_gd_s hf
        refine ev_blk hX lkok_RX3 [(.iastore, 1, 0, 0, 0), (.iconst 0, 1, 0, 0, 0), (.istore_n 3, 1, 0, 0, 0)] (by decide +kernel) (g := (sK S ((sE S) l0 5) == 1 && ev_in l1 ((sL S) ((sE S) l0 5))) && (true)) (lv' := [some (.ref l0), some (.int l1), some (.int v13), some (.int (0 : Int32)), none]) (st' := []) (D' := (ev_up D13 ((sE S) l0 5) (l1).toNatClampNeg (99 : Int32))) (pc' := 38) rfl (ev_gi (ev_tyk hT hl0 rfl rfl) hg16 (rfl)) rfl ?_
        exact ev_weak hX (ev_le_eq (ev_le_eq (ev_le_eq (ev_le_eq (ev_le_no ev_le_nil))))) (tX3_weakestHold_38 hR hT hC  ih fu _ _ _ _ _ hl0 hf)
set_option maxHeartbeats 4000000 in
set_option maxRecDepth 100000 in
theorem tX3_weakestHold {S : ev_S} {fu : Nat} {r : Int32 × ev_D} {F : ev_Fr} (hR : ev_R RX3 cX3_weakestHold 5 2 0 0 false (some .int) S r F) (hT : ev_Ty S) (hC : sC S ≤ 0 ∧ sA S ≤ 0) {l0 : Nat} {D : ev_D} (hl0 : sK S l0 = 6) (hf : fX3_weakestHold (sL S) (sE S) fu l0 D = some r) : F S D 0 [some (.ref l0), none, none, none, none] [] := by
  have hX := hR.X
  unfold fX3_weakestHold at hf
  refine ev_blk hX lkok_RX3 [(.sipush 255, 3, 0, 0, 255), (.istore_n 1, 1, 0, 0, 0)] (by decide +kernel) (g := true) (lv' := [some (.ref l0), some (.int (255 : Int32)), none, none, none]) (st' := []) (D' := D) (pc' := 4) rfl (rfl) rfl ?_
  exact ev_weak hX (ev_le_eq (ev_le_eq (ev_le_no (ev_le_no (ev_le_no ev_le_nil))))) (tX3_weakestHold_4 hR hT hC   fu _ _ _ hl0 hf)
theorem mX3_weakestHold {S : ev_S} {fu : Nat} {r : Int32 × ev_D} (hT : ev_Ty S) {l0 : Nat} {D : ev_D} (hl0 : sK S l0 = 6) (hf : fX3_weakestHold (sL S) (sE S) fu l0 D = some r) : ev_M 2 0 0 yX3_weakestHold cX3_weakestHold 5 (some .int) [.ref l0] S D S r :=
  ev_met (ini := false) (plainFor_of_name (by decide)) (fun h => by cases h) rfl (Nat.le_of_ble_eq_true rfl) (fun F hR => tX3_weakestHold (S := ev_z S) hR hT ⟨Nat.le_refl 0, Nat.le_refl 0⟩ hl0 hf)
set_option maxHeartbeats 4000000 in
set_option maxRecDepth 100000 in
theorem tX3_heldBy_13 {S : ev_S} {fu : Nat} {r : Int32 × ev_D} {F : ev_Fr} (hR : ev_R RX3 cX3_heldBy 6 3 0 0 false (some .int) S r F) (hT : ev_Ty S) (hC : sC S ≤ 0 ∧ sA S ≤ 0) : ∀ (n : Nat) (l0 : Nat) (l1 : Int32) (l2 : Int32) (l3 : Int32) (l4 : Int32) (l5 : Int32) (D : ev_D), sK S l0 = 6 → fX3_heldBy_13 (sL S) (sE S) fu n l0 l1 l2 l3 l4 l5 D = some r → F S D 13 [some (.ref l0), some (.int l1), some (.int l2), some (.int l3), some (.int l4), some (.int l5)] [] := by
  have hX := hR.X
  intro n
  induction n with
  | zero =>
    intro l0 l1 l2 l3 l4 l5 D hl0 hf
    rw [fX3_heldBy_13] at hf
    cases hf
  | succ n ih =>
    intro l0 l1 l2 l3 l4 l5 D hl0 hf
    rw [fX3_heldBy_13] at hf
    refine ev_blk hX lkok_RX3 [(.iload 5, 2, 0, 0, 0), (.iload_n 1, 1, 0, 0, 0)] (by decide +kernel) (g := true) (lv' := [some (.ref l0), some (.int l1), some (.int l2), some (.int l3), some (.int l4), some (.int l5)]) (st' := [.int l1, .int l5]) (D' := D) (pc' := 16) rfl (rfl) rfl ?_
    refine ev_ic_gt hX (off := 34) 50 (by decide +kernel) (by decide) (fun h1 => ?_) (fun h1 => ?_)
    · have hf := ev_it h1 hf
      refine ev_blk hX lkok_RX3 [(.iload 4, 2, 0, 0, 0)] (by decide +kernel) (g := true) (lv' := [some (.ref l0), some (.int l1), some (.int l2), some (.int l3), some (.int l4), some (.int l5)]) (st' := [.int l4]) (D' := D) (pc' := 52) rfl (rfl) rfl ?_
      exact ev_iret hR ev_sm.rf (Option.some.inj hf) hC (by decide +kernel)
    · have hf := ev_nf h1 hf
      refine ev_blk hX lkok_RX3 [(.aload_n 0, 1, 0, 0, 0), (.iload 5, 2, 0, 0, 0), (.iload_n 3, 1, 0, 0, 0), (.iload_n 2, 1, 0, 0, 0)] (by decide +kernel) (g := true) (lv' := [some (.ref l0), some (.int l1), some (.int l2), some (.int l3), some (.int l4), some (.int l5)]) (st' := [.int l2, .int l3, .int l5, .ref l0]) (D' := D) (pc' := 24) rfl (rfl) rfl ?_
      obtain ⟨v2, D2, hc2, hf⟩ := ev_bd_s hf
      refine ev_callV hX YX3_firstBellFor ml_RX3_128 (mX3_firstBellFor hT hl0 hc2) (vs := [.int l5, .int l3, .int l2]) (st := []) (by decide) 3 hl0 rfl rfl rfl (by decide +kernel) hC ?_
      show F S D2 27 [some (.ref l0), some (.int l1), some (.int l2), some (.int l3), some (.int l4), some (.int l5)] [.int v2]
      refine ev_blk hX lkok_RX3 [(.istore 4, 2, 0, 0, 0), (.iload 4, 2, 0, 0, 0), (.iconst (-1), 1, 0, 0, (-1))] (by decide +kernel) (g := true) (lv' := [some (.ref l0), some (.int l1), some (.int l2), some (.int l3), some (.int v2), some (.int l5)]) (st' := [.int (-1 : Int32), .int v2]) (D' := D2) (pc' := 32) rfl (rfl) rfl ?_
      refine ev_ic_ne hX (off := 5) 37 (by decide +kernel) (by decide) (fun h3 => ?_) (fun h3 => ?_)
      · have hf := ev_nf h3 hf
        refine ev_blk hX lkok_RX3 [(.iload_n 3, 1, 0, 0, 0), (.iconst 1, 1, 0, 0, 1), (.iload 4, 2, 0, 0, 0), (.ishl, 1, 0, 0, 0), (.ior, 1, 0, 0, 0), (.istore_n 3, 1, 0, 0, 0), (.iinc 5 1, 3, 0, 0, 1)] (by decide +kernel) (g := true) (lv' := [some (.ref l0), some (.int l1), some (.int l2), some (.int (l3 ||| ((1 : Int32) <<< (v2 &&& 31)))), some (.int v2), some (.int (l5 + (1 : Int32)))]) (st' := []) (D' := D2) (pc' := 47) rfl (rfl) rfl ?_
        refine ev_goto hX (off := (-34)) 13 (by decide +kernel) (by decide) ?_
        exact ev_weak hX (ev_le_eq (ev_le_eq (ev_le_eq (ev_le_eq (ev_le_eq (ev_le_eq ev_le_nil)))))) (ih _ _ _ _ _ _ _ hl0 hf)
      · have hf := ev_it h3 hf
        refine ev_blk hX lkok_RX3 [(.iconst (-1), 1, 0, 0, (-1))] (by decide +kernel) (g := true) (lv' := [some (.ref l0), some (.int l1), some (.int l2), some (.int l3), some (.int v2), some (.int l5)]) (st' := [.int (-1 : Int32)]) (D' := D2) (pc' := 36) rfl (rfl) rfl ?_
        exact ev_iret hR ev_sm.rf (Option.some.inj hf) hC (by decide +kernel)
set_option maxHeartbeats 4000000 in
set_option maxRecDepth 100000 in
theorem tX3_heldBy {S : ev_S} {fu : Nat} {r : Int32 × ev_D} {F : ev_Fr} (hR : ev_R RX3 cX3_heldBy 6 3 0 0 false (some .int) S r F) (hT : ev_Ty S) (hC : sC S ≤ 0 ∧ sA S ≤ 0) {l0 : Nat} {l1 : Int32} {D : ev_D} (hl0 : sK S l0 = 6) (hf : fX3_heldBy (sL S) (sE S) fu l0 l1 D = some r) : F S D 0 [some (.ref l0), some (.int l1), none, none, none, none] [] := by
  have hX := hR.X
  unfold fX3_heldBy at hf
  refine ev_blk hX lkok_RX3 [(.aload_n 0, 1, 0, 0, 0)] (by decide +kernel) (g := true) (lv' := [some (.ref l0), some (.int l1), none, none, none, none]) (st' := [.ref l0]) (D' := D) (pc' := 1) rfl (rfl) rfl ?_
  obtain ⟨v4, D4, hc4, hf⟩ := ev_bd_s hf
  refine ev_callV hX YX3_weakestHold ml_RX3_125 (mX3_weakestHold hT hl0 hc4) (vs := []) (st := []) (by decide) 3 hl0 rfl rfl rfl (by decide +kernel) hC ?_
  show F S D4 4 [some (.ref l0), some (.int l1), none, none, none, none] [.int v4]
  refine ev_blk hX lkok_RX3 [(.istore_n 2, 1, 0, 0, 0), (.iconst 0, 1, 0, 0, 0), (.istore_n 3, 1, 0, 0, 0), (.iconst (-1), 1, 0, 0, (-1)), (.istore 4, 2, 0, 0, 0), (.iconst 0, 1, 0, 0, 0), (.istore 5, 2, 0, 0, 0)] (by decide +kernel) (g := true) (lv' := [some (.ref l0), some (.int l1), some (.int v4), some (.int (0 : Int32)), some (.int (-1 : Int32)), some (.int (0 : Int32))]) (st' := []) (D' := D4) (pc' := 13) rfl (rfl) rfl ?_
  exact ev_weak hX (ev_le_eq (ev_le_eq (ev_le_eq (ev_le_eq (ev_le_eq (ev_le_eq ev_le_nil)))))) (tX3_heldBy_13 hR hT hC   fu _ _ _ _ _ _ _ hl0 hf)
theorem mX3_heldBy {S : ev_S} {fu : Nat} {r : Int32 × ev_D} (hT : ev_Ty S) {l0 : Nat} {l1 : Int32} {D : ev_D} (hl0 : sK S l0 = 6) (hf : fX3_heldBy (sL S) (sE S) fu l0 l1 D = some r) : ev_M 3 0 0 yX3_heldBy cX3_heldBy 6 (some .int) [.ref l0, .int l1] S D S r :=
  ev_met (ini := false) (plainFor_of_name (by decide)) (fun h => by cases h) rfl (Nat.le_of_ble_eq_true rfl) (fun F hR => tX3_heldBy (S := ev_z S) hR hT ⟨Nat.le_refl 0, Nat.le_refl 0⟩ hl0 hf)
set_option maxHeartbeats 4000000 in
set_option maxRecDepth 100000 in
theorem tX11_holds {S : ev_S} {fu : Nat} {r : Int32 × ev_D} {F : ev_Fr} (hR : ev_R RX11 cX11_holds 3 4 0 0 false (some .int) S r F) (hT : ev_Ty S) (hC : sC S ≤ 0 ∧ sA S ≤ 0) {l0 : Nat} {l1 : Int32} {D : ev_D} (hl0 : sK S l0 = 14) (hf : fX11_holds (sL S) (sE S) fu l0 l1 D = some r) : F S D 0 [some (.ref l0), some (.int l1), none] [] := by
  have hX := hR.X
  unfold fX11_holds at hf
  refine ev_blk hX lkok_RX11 [(.aload_n 0, 1, 0, 0, 0), (.getfield 10, 3, 11, 0, 0), (.getfield 32, 3, 10, 0, 0), (.getfield 159, 3, 9, 5, 0), (.istore_n 2, 1, 0, 0, 0), (.iload_n 2, 1, 0, 0, 0), (.iconst 1, 1, 0, 0, 1), (.bipush 8, 2, 0, 0, 8)] (by decide +kernel) (g := (sK S l0 == 14) && ((sK S ((sE S) l0 0) == 13) && ((sK S ((sE S) ((sE S) l0 0) 0) == 12) && (true)))) (lv' := [some (.ref l0), some (.int l1), some (.int (D ((sE S) ((sE S) l0 0) 0) 5))]) (st' := [.int (8 : Int32), .int (1 : Int32), .int (D ((sE S) ((sE S) l0 0) 0) 5)]) (D' := D) (pc' := 15) rfl (ev_gk hl0 (ev_gk (ev_tyk hT hl0 rfl rfl) (ev_gk (ev_tyk hT (ev_tyk hT hl0 rfl rfl) rfl rfl) (rfl)))) rfl ?_
  obtain ⟨v1, D1, hc1, hf⟩ := ev_bd_s hf
  refine ev_callS hX YX11_within ml_RX11_85 (mX11_within hT  hc1) (vs := [.int (D ((sE S) ((sE S) l0 0) 0) 5), .int (1 : Int32), .int (8 : Int32)]) (st := []) (by decide) rfl rfl (by decide +kernel) hC ?_
  show F S D1 18 [some (.ref l0), some (.int l1), some (.int (D ((sE S) ((sE S) l0 0) 0) 5))] [.int v1]
  refine ev_if_ne hX (off := 5) 23 (by decide +kernel) (by decide) (fun h2 => ?_) (fun h2 => ?_)
  · have hf := ev_nf h2 hf
    refine ev_blk hX lkok_RX11 [(.iload_n 1, 1, 0, 0, 0)] (by decide +kernel) (g := true) (lv' := [some (.ref l0), some (.int l1), some (.int (D ((sE S) ((sE S) l0 0) 0) 5))]) (st' := [.int l1]) (D' := D1) (pc' := 24) rfl (rfl) rfl ?_
    refine ev_if_ne hX (off := 11) 35 (by decide +kernel) (by decide) (fun h3 => ?_) (fun h3 => ?_)
    · have hf := ev_nf h3 hf
      refine ev_blk hX lkok_RX11 [(.iload_n 1, 1, 0, 0, 0), (.bipush 10, 2, 0, 0, 10), (.bipush 9, 2, 0, 0, 9), (.iload_n 2, 1, 0, 0, 0), (.iadd, 1, 0, 0, 0)] (by decide +kernel) (g := true) (lv' := [some (.ref l0), some (.int l1), some (.int (D ((sE S) ((sE S) l0 0) 0) 5))]) (st' := [.int ((9 : Int32) + (D ((sE S) ((sE S) l0 0) 0) 5)), .int (10 : Int32), .int l1]) (D' := D1) (pc' := 42) rfl (rfl) rfl ?_
      obtain ⟨v4, D4, hc4, hf⟩ := ev_bd_s hf
      refine ev_callS hX YX11_within ml_RX11_85 (mX11_within hT  hc4) (vs := [.int l1, .int (10 : Int32), .int ((9 : Int32) + (D ((sE S) ((sE S) l0 0) 0) 5))]) (st := []) (by decide) rfl rfl (by decide +kernel) hC ?_
      show F S D4 45 [some (.ref l0), some (.int l1), some (.int (D ((sE S) ((sE S) l0 0) 0) 5))] [.int v4]
      refine ev_if_eq hX (off := 17) 62 (by decide +kernel) (by decide) (fun h5 => ?_) (fun h5 => ?_)
      · have hf := ev_it h5 hf
        refine ev_blk hX lkok_RX11 [(.iconst (-1), 1, 0, 0, (-1))] (by decide +kernel) (g := true) (lv' := [some (.ref l0), some (.int l1), some (.int (D ((sE S) ((sE S) l0 0) 0) 5))]) (st' := [.int (-1 : Int32)]) (D' := D4) (pc' := 63) rfl (rfl) rfl ?_
        exact ev_iret hR ev_sm.rf (Option.some.inj hf) hC (by decide +kernel)
      · have hf := ev_nf h5 hf
        refine ev_blk hX lkok_RX11 [(.aload_n 0, 1, 0, 0, 0), (.getfield 71, 3, 11, 5, 0), (.iload_n 1, 1, 0, 0, 0), (.bipush 10, 2, 0, 0, 10), (.isub, 1, 0, 0, 0)] (by decide +kernel) (g := (sK S l0 == 14) && (true)) (lv' := [some (.ref l0), some (.int l1), some (.int (D ((sE S) ((sE S) l0 0) 0) 5))]) (st' := [.int (l1 - (10 : Int32)), .ref ((sE S) l0 5)]) (D' := D4) (pc' := 56) rfl (ev_gk hl0 (rfl)) rfl ?_
        obtain ⟨v6, D6, hc6, hf⟩ := ev_bd_s hf
        refine ev_callV hX YX3_heldBy ml_RX11_267 (mX3_heldBy hT (ev_tyk hT hl0 rfl rfl) hc6) (vs := [.int (l1 - (10 : Int32))]) (st := []) (by decide) 3 (ev_tyk hT hl0 rfl rfl) rfl rfl rfl (by decide +kernel) hC ?_
        show F S D6 59 [some (.ref l0), some (.int l1), some (.int (D ((sE S) ((sE S) l0 0) 0) 5))] [.int v6]
        refine ev_goto hX (off := 4) 63 (by decide +kernel) (by decide) ?_
        exact ev_iret hR ev_sm.rf (Option.some.inj hf) hC (by decide +kernel)
    · have hf := ev_it h3 hf
      refine ev_blk hX lkok_RX11 [(.aload_n 0, 1, 0, 0, 0), (.getfield 71, 3, 11, 5, 0)] (by decide +kernel) (g := (sK S l0 == 14) && (true)) (lv' := [some (.ref l0), some (.int l1), some (.int (D ((sE S) ((sE S) l0 0) 0) 5))]) (st' := [.ref ((sE S) l0 5)]) (D' := D1) (pc' := 31) rfl (ev_gk hl0 (rfl)) rfl ?_
      obtain ⟨v7, D7, hc7, hf⟩ := ev_bd_s hf
      refine ev_callV hX YX3_weakestHold ml_RX11_264 (mX3_weakestHold hT (ev_tyk hT hl0 rfl rfl) hc7) (vs := []) (st := []) (by decide) 3 (ev_tyk hT hl0 rfl rfl) rfl rfl rfl (by decide +kernel) hC ?_
      show F S D7 34 [some (.ref l0), some (.int l1), some (.int (D ((sE S) ((sE S) l0 0) 0) 5))] [.int v7]
      exact ev_iret hR ev_sm.rf (Option.some.inj hf) hC (by decide +kernel)
  · have hf := ev_it h2 hf
    refine ev_blk hX lkok_RX11 [(.iconst (-1), 1, 0, 0, (-1))] (by decide +kernel) (g := true) (lv' := [some (.ref l0), some (.int l1), some (.int (D ((sE S) ((sE S) l0 0) 0) 5))]) (st' := [.int (-1 : Int32)]) (D' := D1) (pc' := 22) rfl (rfl) rfl ?_
    exact ev_iret hR ev_sm.rf (Option.some.inj hf) hC (by decide +kernel)
theorem mX11_holds {S : ev_S} {fu : Nat} {r : Int32 × ev_D} (hT : ev_Ty S) {l0 : Nat} {l1 : Int32} {D : ev_D} (hl0 : sK S l0 = 14) (hf : fX11_holds (sL S) (sE S) fu l0 l1 D = some r) : ev_M 4 0 0 yX11_holds cX11_holds 3 (some .int) [.ref l0, .int l1] S D S r :=
  ev_met (ini := false) (plainFor_of_name (by decide)) (fun h => by cases h) rfl (Nat.le_of_ble_eq_true rfl) (fun F hR => tX11_holds (S := ev_z S) hR hT ⟨Nat.le_refl 0, Nat.le_refl 0⟩ hl0 hf)
set_option maxHeartbeats 4000000 in
set_option maxRecDepth 100000 in
theorem tX11_see {S : ev_S} {fu : Nat} {r : Int32 × ev_D} {F : ev_Fr} (hR : ev_R RX11 cX11_see 4 1 0 0 false (some .int) S r F) (hT : ev_Ty S) (hC : sC S ≤ 0 ∧ sA S ≤ 0) {l0 : Nat} {l1 : Int32} {l2 : Int32} {D : ev_D} (hl0 : sK S l0 = 14) (hf : fX11_see (sL S) (sE S) fu l0 l1 l2 D = some r) : F S D 0 [some (.ref l0), some (.int l1), some (.int l2), none] [] := by
  have hX := hR.X
  unfold fX11_see at hf
  refine ev_blk hX lkok_RX11 [(.aload_n 0, 1, 0, 0, 0), (.getfield 10, 3, 11, 0, 0), (.getfield 64, 3, 10, 3, 0), (.getfield 270, 3, 8, 2, 0), (.astore_n 3, 1, 0, 0, 0), (.iload_n 1, 1, 0, 0, 0), (.iconst (-1), 1, 0, 0, (-1))] (by decide +kernel) (g := (sK S l0 == 14) && ((sK S ((sE S) l0 0) == 13) && ((sK S ((sE S) ((sE S) l0 0) 3) == 11) && (true)))) (lv' := [some (.ref l0), some (.int l1), some (.int l2), some (.ref ((sE S) ((sE S) ((sE S) l0 0) 3) 2))]) (st' := [.int (-1 : Int32), .int l1]) (D' := D) (pc' := 13) rfl (ev_gk hl0 (ev_gk (ev_tyk hT hl0 rfl rfl) (ev_gk (ev_tyk hT (ev_tyk hT hl0 rfl rfl) rfl rfl) (rfl)))) rfl ?_
  refine ev_ic_ne hX (off := 8) 21 (by decide +kernel) (by decide) (fun h1 => ?_) (fun h1 => ?_)
  · have hf := ev_nf h1 hf
    refine ev_blk hX lkok_RX11 [(.iload_n 1, 1, 0, 0, 0), (.iconst 0, 1, 0, 0, 0), (.bipush 11, 2, 0, 0, 11)] (by decide +kernel) (g := true) (lv' := [some (.ref l0), some (.int l1), some (.int l2), some (.ref ((sE S) ((sE S) ((sE S) l0 0) 3) 2))]) (st' := [.int (11 : Int32), .int (0 : Int32), .int l1]) (D' := D) (pc' := 25) rfl (rfl) rfl ?_
    obtain ⟨v2, D2, hc2, hf⟩ := ev_bd_s hf
    refine ev_callS hX YX11_within ml_RX11_85 (mX11_within hT  hc2) (vs := [.int l1, .int (0 : Int32), .int (11 : Int32)]) (st := []) (by decide) rfl rfl (by decide +kernel) hC ?_
    show F S D2 28 [some (.ref l0), some (.int l1), some (.int l2), some (.ref ((sE S) ((sE S) ((sE S) l0 0) 3) 2))] [.int v2]
    refine ev_if_eq hX (off := 18) 46 (by decide +kernel) (by decide) (fun h3 => ?_) (fun h3 => ?_)
    · have hf := ev_it h3 hf
      refine ev_blk hX lkok_RX11 [(.iconst (-1), 1, 0, 0, (-1))] (by decide +kernel) (g := true) (lv' := [some (.ref l0), some (.int l1), some (.int l2), some (.ref ((sE S) ((sE S) ((sE S) l0 0) 3) 2))]) (st' := [.int (-1 : Int32)]) (D' := D2) (pc' := 47) rfl (rfl) rfl ?_
      exact ev_iret hR ev_sm.rf (Option.some.inj hf) hC (by decide +kernel)
    · have hf := ev_nf h3 hf
      refine ev_blk hX lkok_RX11 [(.iload_n 2, 1, 0, 0, 0), (.iconst 0, 1, 0, 0, 0), (.bipush 11, 2, 0, 0, 11)] (by decide +kernel) (g := true) (lv' := [some (.ref l0), some (.int l1), some (.int l2), some (.ref ((sE S) ((sE S) ((sE S) l0 0) 3) 2))]) (st' := [.int (11 : Int32), .int (0 : Int32), .int l2]) (D' := D2) (pc' := 35) rfl (rfl) rfl ?_
      obtain ⟨v4, D4, hc4, hf⟩ := ev_bd_s hf
      refine ev_callS hX YX11_within ml_RX11_85 (mX11_within hT  hc4) (vs := [.int l2, .int (0 : Int32), .int (11 : Int32)]) (st := []) (by decide) rfl rfl (by decide +kernel) hC ?_
      show F S D4 38 [some (.ref l0), some (.int l1), some (.int l2), some (.ref ((sE S) ((sE S) ((sE S) l0 0) 3) 2))] [.int v4]
      refine ev_if_eq hX (off := 8) 46 (by decide +kernel) (by decide) (fun h5 => ?_) (fun h5 => ?_)
      · have hf := ev_it h5 hf
        refine ev_blk hX lkok_RX11 [(.iconst (-1), 1, 0, 0, (-1))] (by decide +kernel) (g := true) (lv' := [some (.ref l0), some (.int l1), some (.int l2), some (.ref ((sE S) ((sE S) ((sE S) l0 0) 3) 2))]) (st' := [.int (-1 : Int32)]) (D' := D4) (pc' := 47) rfl (rfl) rfl ?_
        exact ev_iret hR ev_sm.rf (Option.some.inj hf) hC (by decide +kernel)
      · have hf := ev_nf h5 hf
        refine ev_blk hX lkok_RX11 [(.iload_n 1, 1, 0, 0, 0), (.iload_n 2, 1, 0, 0, 0)] (by decide +kernel) (g := true) (lv' := [some (.ref l0), some (.int l1), some (.int l2), some (.ref ((sE S) ((sE S) ((sE S) l0 0) 3) 2))]) (st' := [.int l2, .int l1]) (D' := D4) (pc' := 43) rfl (rfl) rfl ?_
        refine ev_ic_ne hX (off := 5) 48 (by decide +kernel) (by decide) (fun h6 => ?_) (fun h6 => ?_)
        · have hf := ev_nf h6 hf
          refine ev_blk hX lkok_RX11 [(.aload_n 3, 1, 0, 0, 0), (.iload_n 1, 1, 0, 0, 0), (.iload_n 2, 1, 0, 0, 0), (.iconst 0, 1, 0, 0, 0)] (by decide +kernel) (g := true) (lv' := [some (.ref l0), some (.int l1), some (.int l2), some (.ref ((sE S) ((sE S) ((sE S) l0 0) 3) 2))]) (st' := [.int (0 : Int32), .int l2, .int l1, .ref ((sE S) ((sE S) ((sE S) l0 0) 3) 2)]) (D' := D4) (pc' := 52) rfl (rfl) rfl ?_
          obtain ⟨v7, D7, hc7, hf⟩ := ev_bd_s hf
          refine ev_callV hX YX6_add ml_RX11_240 (mX6_add hT (ev_tyk hT (ev_tyk hT (ev_tyk hT hl0 rfl rfl) rfl rfl) rfl rfl) hc7) (vs := [.int l1, .int l2, .int (0 : Int32)]) (st := []) (by decide) 6 (ev_tyk hT (ev_tyk hT (ev_tyk hT hl0 rfl rfl) rfl rfl) rfl rfl) rfl rfl rfl (by decide +kernel) hC ?_
          show F S D7 55 [some (.ref l0), some (.int l1), some (.int l2), some (.ref ((sE S) ((sE S) ((sE S) l0 0) 3) 2))] [.int v7]
          exact ev_iret hR ev_sm.rf (Option.some.inj hf) hC (by decide +kernel)
        · have hf := ev_it h6 hf
          refine ev_blk hX lkok_RX11 [(.iconst (-1), 1, 0, 0, (-1))] (by decide +kernel) (g := true) (lv' := [some (.ref l0), some (.int l1), some (.int l2), some (.ref ((sE S) ((sE S) ((sE S) l0 0) 3) 2))]) (st' := [.int (-1 : Int32)]) (D' := D4) (pc' := 47) rfl (rfl) rfl ?_
          exact ev_iret hR ev_sm.rf (Option.some.inj hf) hC (by decide +kernel)
  · have hf := ev_it h1 hf
    refine ev_blk hX lkok_RX11 [(.aload_n 3, 1, 0, 0, 0)] (by decide +kernel) (g := true) (lv' := [some (.ref l0), some (.int l1), some (.int l2), some (.ref ((sE S) ((sE S) ((sE S) l0 0) 3) 2))]) (st' := [.ref ((sE S) ((sE S) ((sE S) l0 0) 3) 2)]) (D' := D) (pc' := 17) rfl (rfl) rfl ?_
    obtain ⟨v8, D8, hc8, hf⟩ := ev_bd_s hf
    refine ev_callV hX YX6_empty ml_RX11_234 (mX6_empty hT (ev_tyk hT (ev_tyk hT (ev_tyk hT hl0 rfl rfl) rfl rfl) rfl rfl) hc8) (vs := []) (st := []) (by decide) 6 (ev_tyk hT (ev_tyk hT (ev_tyk hT hl0 rfl rfl) rfl rfl) rfl rfl) rfl rfl rfl (by decide +kernel) hC ?_
    show F S D8 20 [some (.ref l0), some (.int l1), some (.int l2), some (.ref ((sE S) ((sE S) ((sE S) l0 0) 3) 2))] [.int v8]
    exact ev_iret hR ev_sm.rf (Option.some.inj hf) hC (by decide +kernel)
theorem mX11_see {S : ev_S} {fu : Nat} {r : Int32 × ev_D} (hT : ev_Ty S) {l0 : Nat} {l1 : Int32} {l2 : Int32} {D : ev_D} (hl0 : sK S l0 = 14) (hf : fX11_see (sL S) (sE S) fu l0 l1 l2 D = some r) : ev_M 1 0 0 yX11_see cX11_see 4 (some .int) [.ref l0, .int l1, .int l2] S D S r :=
  ev_met (ini := false) (plainFor_of_name (by decide)) (fun h => by cases h) rfl (Nat.le_of_ble_eq_true rfl) (fun F hR => tX11_see (S := ev_z S) hR hT ⟨Nat.le_refl 0, Nat.le_refl 0⟩ hl0 hf)
set_option maxHeartbeats 4000000 in
set_option maxRecDepth 100000 in
theorem tJ7_fill_5 {S : ev_S} {fu : Nat} {r : Int32 × ev_D} {F : ev_Fr} (hR : ev_R RJ7 cJ7_fill_53178 4 0 0 0 false none S r F) (hT : ev_Ty S) (hC : sC S ≤ 0 ∧ sA S ≤ 0) : ∀ (n : Nat) (l0 : Nat) (l1 : Int32) (l2 : Int32) (l3 : Int32) (D : ev_D), sK S l0 = 1 → fJ7_fill_5 (sL S) (sE S) fu n l0 l1 l2 l3 D = some r → F S D 5 [some (.ref l0), some (.int l1), some (.int l2), some (.int l3)] [] := by
  have hX := hR.X
  intro n
  induction n with
  | zero =>
    intro l0 l1 l2 l3 D hl0 hf
    rw [fJ7_fill_5] at hf
    cases hf
  | succ n ih =>
    intro l0 l1 l2 l3 D hl0 hf
    rw [fJ7_fill_5] at hf
    refine ev_blk hX lkok_RJ7 [(.iload_n 2, 1, 0, 0, 0), (.iload_n 3, 1, 0, 0, 0)] (by decide +kernel) (g := true) (lv' := [some (.ref l0), some (.int l1), some (.int l2), some (.int l3)]) (st' := [.int l3, .int l2]) (D' := D) (pc' := 7) rfl (rfl) rfl ?_
    refine ev_ic_ge hX (off := 13) 20 (by decide +kernel) (by decide) (fun h1 => ?_) (fun h1 => ?_)
    · have hf := ev_it h1 hf
      exact ev_vret hR ev_sm.rf (Option.some.inj hf) hC (by decide +kernel)
    · have hf := ev_nf h1 hf
      obtain ⟨hg2, hf⟩ := ev_gd_s hf
      refine ev_blk hX lkok_RJ7 [(.aload_n 0, 1, 0, 0, 0), (.iload_n 2, 1, 0, 0, 0), (.iload_n 1, 1, 0, 0, 0), (.iastore, 1, 0, 0, 0), (.iinc 2 1, 3, 0, 0, 1)] (by decide +kernel) (g := (sK S l0 == 1 && ev_in l2 ((sL S) l0)) && (true)) (lv' := [some (.ref l0), some (.int l1), some (.int (l2 + (1 : Int32))), some (.int l3)]) (st' := []) (D' := (ev_up D l0 (l2).toNatClampNeg l1)) (pc' := 17) rfl (ev_gi hl0 hg2 (rfl)) rfl ?_
      refine ev_goto hX (off := (-12)) 5 (by decide +kernel) (by decide) ?_
      exact ev_weak hX (ev_le_eq (ev_le_eq (ev_le_eq (ev_le_eq ev_le_nil)))) (ih _ _ _ _ _ hl0 hf)
set_option maxHeartbeats 4000000 in
set_option maxRecDepth 100000 in
theorem tJ7_fill {S : ev_S} {fu : Nat} {r : Int32 × ev_D} {F : ev_Fr} (hR : ev_R RJ7 cJ7_fill_53178 4 0 0 0 false none S r F) (hT : ev_Ty S) (hC : sC S ≤ 0 ∧ sA S ≤ 0) {l0 : Nat} {l1 : Int32} {D : ev_D} (hl0 : sK S l0 = 1) (hf : fJ7_fill (sL S) (sE S) fu l0 l1 D = some r) : F S D 0 [some (.ref l0), some (.int l1), none, none] [] := by
  have hX := hR.X
  unfold fJ7_fill at hf
  refine ev_blk hX lkok_RJ7 [(.iconst 0, 1, 0, 0, 0), (.istore_n 2, 1, 0, 0, 0), (.aload_n 0, 1, 0, 0, 0), (.arraylength, 1, 0, 0, 0), (.istore_n 3, 1, 0, 0, 0)] (by decide +kernel) (g := (sK S l0 == 1) && (true)) (lv' := [some (.ref l0), some (.int l1), some (.int (0 : Int32)), some (.int (Int32.ofNat ((sL S) l0)))]) (st' := []) (D' := D) (pc' := 5) rfl (ev_gk hl0 (rfl)) rfl ?_
  exact ev_weak hX (ev_le_eq (ev_le_eq (ev_le_eq (ev_le_eq ev_le_nil)))) (tJ7_fill_5 hR hT hC   fu _ _ _ _ _ hl0 hf)
theorem mJ7_fill {S : ev_S} {fu : Nat} {r : Int32 × ev_D} (hT : ev_Ty S) {l0 : Nat} {l1 : Int32} {D : ev_D} (hl0 : sK S l0 = 1) (hf : fJ7_fill (sL S) (sE S) fu l0 l1 D = some r) : ev_M 0 0 0 yJ7_fill_53178 cJ7_fill_53178 4 none [.ref l0, .int l1] S D S r :=
  ev_met (ini := false) (plainFor_of_name (by decide)) (fun h => by cases h) rfl (Nat.le_of_ble_eq_true rfl) (fun F hR => tJ7_fill (S := ev_z S) hR hT ⟨Nat.le_refl 0, Nat.le_refl 0⟩ hl0 hf)
set_option maxHeartbeats 4000000 in
set_option maxRecDepth 100000 in
theorem tX3_fillNear_92 {S : ev_S} {fu : Nat} {r : Int32 × ev_D} {F : ev_Fr} (hR : ev_R RX3 cX3_fillNear 6 1 0 0 false none S r F) (hT : ev_Ty S) (hC : sC S ≤ 0 ∧ sA S ≤ 0) {k10 : Nat → Nat → Int32 → Int32 → ev_D → ev_Op} (hk10 : ∀ (l0 : Nat) (l1 : Nat) (l2 : Int32) (l3 : Int32) (D : ev_D), sK S l0 = 6 → sK S l1 = 9 → k10 l0 l1 l2 l3 D = some r → F S D 10 [some (.ref l0), some (.ref l1), some (.int l2), some (.int l3), none, none] []) {l0 : Nat} {l1 : Nat} {l2 : Int32} {l3 : Int32} {D : ev_D} (hl0 : sK S l0 = 6) (hl1 : sK S l1 = 9) (hf : fX3_fillNear_92 (sL S) (sE S) fu k10 l0 l1 l2 l3 D = some r) : F S D 92 [some (.ref l0), some (.ref l1), some (.int l2), some (.int l3), none, none] [] := by
  have hX := hR.X
  unfold fX3_fillNear_92 at hf
  refine ev_blk hX lkok_RX3 [(.iinc 3 1, 3, 0, 0, 1)] (by decide +kernel) (g := true) (lv' := [some (.ref l0), some (.ref l1), some (.int l2), some (.int (l3 + (1 : Int32))), none, none]) (st' := []) (D' := D) (pc' := 95) rfl (rfl) rfl ?_
  refine ev_goto hX (off := (-85)) 10 (by decide +kernel) (by decide) ?_
  exact ev_weak hX (ev_le_eq (ev_le_eq (ev_le_eq (ev_le_eq (ev_le_no (ev_le_no ev_le_nil)))))) (hk10 _ _ _ _ _ hl0 hl1 hf)
set_option maxHeartbeats 4000000 in
set_option maxRecDepth 100000 in
theorem tX3_fillNear_10 {S : ev_S} {fu : Nat} {r : Int32 × ev_D} {F : ev_Fr} (hR : ev_R RX3 cX3_fillNear 6 1 0 0 false none S r F) (hT : ev_Ty S) (hC : sC S ≤ 0 ∧ sA S ≤ 0) : ∀ (n : Nat) (l0 : Nat) (l1 : Nat) (l2 : Int32) (l3 : Int32) (D : ev_D), sK S l0 = 6 → sK S l1 = 9 → fX3_fillNear_10 (sL S) (sE S) fu n l0 l1 l2 l3 D = some r → F S D 10 [some (.ref l0), some (.ref l1), some (.int l2), some (.int l3), none, none] [] := by
  have hX := hR.X
  intro n
  induction n with
  | zero =>
    intro l0 l1 l2 l3 D hl0 hl1 hf
    rw [fX3_fillNear_10] at hf
    cases hf
  | succ n ih =>
    intro l0 l1 l2 l3 D hl0 hl1 hf
    rw [fX3_fillNear_10] at hf
    refine ev_blk hX lkok_RX3 [(.iload_n 3, 1, 0, 0, 0), (.aload_n 1, 1, 0, 0, 0), (.getfield 55, 3, 6, 0, 0)] (by decide +kernel) (g := (sK S l1 == 9) && (true)) (lv' := [some (.ref l0), some (.ref l1), some (.int l2), some (.int l3), none, none]) (st' := [.int (D l1 0), .int l3]) (D' := D) (pc' := 15) rfl (ev_gk hl1 (rfl)) rfl ?_
    refine ev_ic_ge hX (off := 83) 98 (by decide +kernel) (by decide) (fun h1 => ?_) (fun h1 => ?_)
    · have hf := ev_it h1 hf
      exact ev_vret hR ev_sm.rf (Option.some.inj hf) hC (by decide +kernel)
    · have hf := ev_nf h1 hf
      refine ev_blk hX lkok_RX3 [(.aload_n 1, 1, 0, 0, 0), (.iload_n 3, 1, 0, 0, 0), (.iconst 0, 1, 0, 0, 0)] (by decide +kernel) (g := true) (lv' := [some (.ref l0), some (.ref l1), some (.int l2), some (.int l3), none, none]) (st' := [.int (0 : Int32), .int l3, .ref l1]) (D' := D) (pc' := 21) rfl (rfl) rfl ?_
      obtain ⟨v2, D2, hc2, hf⟩ := ev_bd_s hf
      refine ev_callV hX YX6_cell ml_RX3_61 (mX6_cell hT hl1 hc2) (vs := [.int l3, .int (0 : Int32)]) (st := []) (by decide) 6 hl1 rfl rfl rfl (by decide +kernel) hC ?_
      show F S D2 24 [some (.ref l0), some (.ref l1), some (.int l2), some (.int l3), none, none] [.int v2]
      refine ev_blk hX lkok_RX3 [(.istore 4, 2, 0, 0, 0), (.aload_n 1, 1, 0, 0, 0), (.iload_n 3, 1, 0, 0, 0), (.iconst 1, 1, 0, 0, 1)] (by decide +kernel) (g := true) (lv' := [some (.ref l0), some (.ref l1), some (.int l2), some (.int l3), some (.int v2), none]) (st' := [.int (1 : Int32), .int l3, .ref l1]) (D' := D2) (pc' := 29) rfl (rfl) rfl ?_
      obtain ⟨v3, D3, hc3, hf⟩ := ev_bd_s hf
      refine ev_callV hX YX6_cell ml_RX3_61 (mX6_cell hT hl1 hc3) (vs := [.int l3, .int (1 : Int32)]) (st := []) (by decide) 6 hl1 rfl rfl rfl (by decide +kernel) hC ?_
      show F S D3 32 [some (.ref l0), some (.ref l1), some (.int l2), some (.int l3), some (.int v2), none] [.int v3]
      refine ev_blk hX lkok_RX3 [(.istore 5, 2, 0, 0, 0), (.iload 4, 2, 0, 0, 0), (.iconst 0, 1, 0, 0, 0), (.bipush 11, 2, 0, 0, 11)] (by decide +kernel) (g := true) (lv' := [some (.ref l0), some (.ref l1), some (.int l2), some (.int l3), some (.int v2), some (.int v3)]) (st' := [.int (11 : Int32), .int (0 : Int32), .int v2]) (D' := D3) (pc' := 39) rfl (rfl) rfl ?_
      obtain ⟨v4, D4, hc4, hf⟩ := ev_bd_s hf
      refine ev_callSN hX YX11_within ml_RX3_79 (mX11_within hT  hc4) (vs := [.int v2, .int (0 : Int32), .int (11 : Int32)]) (st := []) (by decide) rfl rfl (by decide +kernel) hC ?_
      show F S D4 42 [some (.ref l0), some (.ref l1), some (.int l2), some (.int l3), some (.int v2), some (.int v3)] [.int v4]
      refine ev_if_eq hX (off := 50) 92 (by decide +kernel) (by decide) (fun h5 => ?_) (fun h5 => ?_)
      · have hf := ev_it h5 hf
        exact ev_weak hX (ev_le_eq (ev_le_eq (ev_le_eq (ev_le_eq (ev_le_no (ev_le_no ev_le_nil)))))) (tX3_fillNear_92 hR hT hC  ih hl0 hl1 hf)
      · have hf := ev_nf h5 hf
        refine ev_blk hX lkok_RX3 [(.iload 5, 2, 0, 0, 0), (.iconst 0, 1, 0, 0, 0), (.bipush 11, 2, 0, 0, 11)] (by decide +kernel) (g := true) (lv' := [some (.ref l0), some (.ref l1), some (.int l2), some (.int l3), some (.int v2), some (.int v3)]) (st' := [.int (11 : Int32), .int (0 : Int32), .int v3]) (D' := D4) (pc' := 50) rfl (rfl) rfl ?_
        obtain ⟨v6, D6, hc6, hf⟩ := ev_bd_s hf
        refine ev_callSN hX YX11_within ml_RX3_79 (mX11_within hT  hc6) (vs := [.int v3, .int (0 : Int32), .int (11 : Int32)]) (st := []) (by decide) rfl rfl (by decide +kernel) hC ?_
        show F S D6 53 [some (.ref l0), some (.ref l1), some (.int l2), some (.int l3), some (.int v2), some (.int v3)] [.int v6]
        refine ev_if_eq hX (off := 39) 92 (by decide +kernel) (by decide) (fun h7 => ?_) (fun h7 => ?_)
        · have hf := ev_it h7 hf
          exact ev_weak hX (ev_le_eq (ev_le_eq (ev_le_eq (ev_le_eq (ev_le_no (ev_le_no ev_le_nil)))))) (tX3_fillNear_92 hR hT hC  ih hl0 hl1 hf)
        · have hf := ev_nf h7 hf
          obtain ⟨hg11, hf⟩ := ev_gd_s hf
          obtain ⟨hg12, hf⟩ := ev_gd_s hf
          obtain ⟨hg13, hf⟩ := ev_gd_s hf
          refine ev_blk hX lkok_RX3 [(.aload_n 0, 1, 0, 0, 0), (.getfield 21, 3, 3, 6, 0), (.iload 4, 2, 0, 0, 0), (.dup2, 1, 0, 0, 0), (.iaload, 1, 0, 0, 0), (.iconst 1, 1, 0, 0, 1), (.iload 5, 2, 0, 0, 0), (.ishl, 1, 0, 0, 0), (.ior, 1, 0, 0, 0), (.iastore, 1, 0, 0, 0), (.aload_n 0, 1, 0, 0, 0), (.getfield 21, 3, 3, 6, 0), (.iload 5, 2, 0, 0, 0), (.dup2, 1, 0, 0, 0), (.iaload, 1, 0, 0, 0), (.iload_n 2, 1, 0, 0, 0)] (by decide +kernel) (g := (sK S l0 == 6) && ((sK S ((sE S) l0 6) == 1 && ev_in v2 ((sL S) ((sE S) l0 6))) && ((sK S ((sE S) l0 6) == 1 && ev_in v2 ((sL S) ((sE S) l0 6))) && ((sK S l0 == 6) && ((sK S ((sE S) l0 6) == 1 && ev_in v3 ((sL S) ((sE S) l0 6))) && (true)))))) (lv' := [some (.ref l0), some (.ref l1), some (.int l2), some (.int l3), some (.int v2), some (.int v3)]) (st' := [.int l2, .int ((ev_up D6 ((sE S) l0 6) (v2).toNatClampNeg ((D6 ((sE S) l0 6) (v2).toNatClampNeg) ||| ((1 : Int32) <<< (v3 &&& 31)))) ((sE S) l0 6) (v3).toNatClampNeg), .int v3, .ref ((sE S) l0 6)]) (D' := (ev_up D6 ((sE S) l0 6) (v2).toNatClampNeg ((D6 ((sE S) l0 6) (v2).toNatClampNeg) ||| ((1 : Int32) <<< (v3 &&& 31))))) (pc' := 79) rfl (ev_gk hl0 (ev_gi (ev_tyk hT hl0 rfl rfl) hg11 (ev_gi (ev_tyk hT hl0 rfl rfl) hg12 (ev_gk hl0 (ev_gi (ev_tyk hT hl0 rfl rfl) hg13 (rfl)))))) rfl ?_
          refine ev_if_eq hX (off := 10) 89 (by decide +kernel) (by decide) (fun h8 => ?_) (fun h8 => ?_)
          · have hf := ev_it h8 hf
            obtain ⟨hg9, hf⟩ := ev_gd_s hf
            refine ev_blk hX lkok_RX3 [(.iconst 0, 1, 0, 0, 0), (.ior, 1, 0, 0, 0), (.iastore, 1, 0, 0, 0)] (by decide +kernel) (g := (sK S ((sE S) l0 6) == 1 && ev_in v3 ((sL S) ((sE S) l0 6))) && (true)) (lv' := [some (.ref l0), some (.ref l1), some (.int l2), some (.int l3), some (.int v2), some (.int v3)]) (st' := []) (D' := (ev_up (ev_up D6 ((sE S) l0 6) (v2).toNatClampNeg ((D6 ((sE S) l0 6) (v2).toNatClampNeg) ||| ((1 : Int32) <<< (v3 &&& 31)))) ((sE S) l0 6) (v3).toNatClampNeg (((ev_up D6 ((sE S) l0 6) (v2).toNatClampNeg ((D6 ((sE S) l0 6) (v2).toNatClampNeg) ||| ((1 : Int32) <<< (v3 &&& 31)))) ((sE S) l0 6) (v3).toNatClampNeg) ||| (0 : Int32)))) (pc' := 92) rfl (ev_gi (ev_tyk hT hl0 rfl rfl) hg9 (rfl)) rfl ?_
            exact ev_weak hX (ev_le_eq (ev_le_eq (ev_le_eq (ev_le_eq (ev_le_no (ev_le_no ev_le_nil)))))) (tX3_fillNear_92 hR hT hC  ih hl0 hl1 hf)
          · have hf := ev_nf h8 hf
            refine ev_blk hX lkok_RX3 [(.iconst 1, 1, 0, 0, 1), (.iload 4, 2, 0, 0, 0), (.ishl, 1, 0, 0, 0)] (by decide +kernel) (g := true) (lv' := [some (.ref l0), some (.ref l1), some (.int l2), some (.int l3), some (.int v2), some (.int v3)]) (st' := [.int ((1 : Int32) <<< (v2 &&& 31)), .int ((ev_up D6 ((sE S) l0 6) (v2).toNatClampNeg ((D6 ((sE S) l0 6) (v2).toNatClampNeg) ||| ((1 : Int32) <<< (v3 &&& 31)))) ((sE S) l0 6) (v3).toNatClampNeg), .int v3, .ref ((sE S) l0 6)]) (D' := (ev_up D6 ((sE S) l0 6) (v2).toNatClampNeg ((D6 ((sE S) l0 6) (v2).toNatClampNeg) ||| ((1 : Int32) <<< (v3 &&& 31))))) (pc' := 86) rfl (rfl) rfl ?_
            refine ev_goto hX (off := 4) 90 (by decide +kernel) (by decide) ?_
            obtain ⟨hg10, hf⟩ := ev_gd_s hf
            refine ev_blk hX lkok_RX3 [(.ior, 1, 0, 0, 0), (.iastore, 1, 0, 0, 0)] (by decide +kernel) (g := (sK S ((sE S) l0 6) == 1 && ev_in v3 ((sL S) ((sE S) l0 6))) && (true)) (lv' := [some (.ref l0), some (.ref l1), some (.int l2), some (.int l3), some (.int v2), some (.int v3)]) (st' := []) (D' := (ev_up (ev_up D6 ((sE S) l0 6) (v2).toNatClampNeg ((D6 ((sE S) l0 6) (v2).toNatClampNeg) ||| ((1 : Int32) <<< (v3 &&& 31)))) ((sE S) l0 6) (v3).toNatClampNeg (((ev_up D6 ((sE S) l0 6) (v2).toNatClampNeg ((D6 ((sE S) l0 6) (v2).toNatClampNeg) ||| ((1 : Int32) <<< (v3 &&& 31)))) ((sE S) l0 6) (v3).toNatClampNeg) ||| ((1 : Int32) <<< (v2 &&& 31))))) (pc' := 92) rfl (ev_gi (ev_tyk hT hl0 rfl rfl) hg10 (rfl)) rfl ?_
            exact ev_weak hX (ev_le_eq (ev_le_eq (ev_le_eq (ev_le_eq (ev_le_no (ev_le_no ev_le_nil)))))) (tX3_fillNear_92 hR hT hC  ih hl0 hl1 hf)
set_option maxHeartbeats 4000000 in
set_option maxRecDepth 100000 in
theorem tX3_fillNear {S : ev_S} {fu : Nat} {r : Int32 × ev_D} {F : ev_Fr} (hR : ev_R RX3 cX3_fillNear 6 1 0 0 false none S r F) (hT : ev_Ty S) (hC : sC S ≤ 0 ∧ sA S ≤ 0) {l0 : Nat} {l1 : Nat} {l2 : Int32} {D : ev_D} (hl0 : sK S l0 = 6) (hl1 : sK S l1 = 9) (hf : fX3_fillNear (sL S) (sE S) fu l0 l1 l2 D = some r) : F S D 0 [some (.ref l0), some (.ref l1), some (.int l2), none, none, none] [] := by
  have hX := hR.X
  unfold fX3_fillNear at hf
  refine ev_blk hX lkok_RX3 [(.aload_n 0, 1, 0, 0, 0), (.getfield 21, 3, 3, 6, 0), (.iconst 0, 1, 0, 0, 0)] (by decide +kernel) (g := (sK S l0 == 6) && (true)) (lv' := [some (.ref l0), some (.ref l1), some (.int l2), none, none, none]) (st' := [.int (0 : Int32), .ref ((sE S) l0 6)]) (D' := D) (pc' := 5) rfl (ev_gk hl0 (rfl)) rfl ?_
  obtain ⟨v14, D14, hc14, hf⟩ := ev_bd_s hf
  refine ev_callS hX YJ7_fill ml_RX3_132 (mJ7_fill hT (ev_tyk hT hl0 rfl rfl) hc14) (vs := [.ref ((sE S) l0 6), .int (0 : Int32)]) (st := []) (by decide) rfl rfl (by decide +kernel) hC ?_
  show F S D14 8 [some (.ref l0), some (.ref l1), some (.int l2), none, none, none] []
  refine ev_blk hX lkok_RX3 [(.iconst 0, 1, 0, 0, 0), (.istore_n 3, 1, 0, 0, 0)] (by decide +kernel) (g := true) (lv' := [some (.ref l0), some (.ref l1), some (.int l2), some (.int (0 : Int32)), none, none]) (st' := []) (D' := D14) (pc' := 10) rfl (rfl) rfl ?_
  exact ev_weak hX (ev_le_eq (ev_le_eq (ev_le_eq (ev_le_eq (ev_le_no (ev_le_no ev_le_nil)))))) (tX3_fillNear_10 hR hT hC   fu _ _ _ _ _ hl0 hl1 hf)
theorem mX3_fillNear {S : ev_S} {fu : Nat} {r : Int32 × ev_D} (hT : ev_Ty S) {l0 : Nat} {l1 : Nat} {l2 : Int32} {D : ev_D} (hl0 : sK S l0 = 6) (hl1 : sK S l1 = 9) (hf : fX3_fillNear (sL S) (sE S) fu l0 l1 l2 D = some r) : ev_M 1 0 0 yX3_fillNear cX3_fillNear 6 none [.ref l0, .ref l1, .int l2] S D S r :=
  ev_met (ini := false) (plainFor_of_name (by decide)) (fun h => by cases h) rfl (Nat.le_of_ble_eq_true rfl) (fun F hR => tX3_fillNear (S := ev_z S) hR hT ⟨Nat.le_refl 0, Nat.le_refl 0⟩ hl0 hl1 hf)
set_option maxHeartbeats 4000000 in
set_option maxRecDepth 100000 in
theorem tX3_stepOn_15 {S : ev_S} {fu : Nat} {r : Int32 × ev_D} {F : ev_Fr} (hR : ev_R RX3 cX3_stepOn 6 1 0 0 false (some .int) S r F) (hT : ev_Ty S) (hC : sC S ≤ 0 ∧ sA S ≤ 0) {k5 : Nat → Int32 → Int32 → Int32 → Int32 → ev_D → ev_Op} (hk5 : ∀ (l0 : Nat) (l1 : Int32) (l2 : Int32) (l3 : Int32) (l4 : Int32) (D : ev_D), sK S l0 = 6 → k5 l0 l1 l2 l3 l4 D = some r → F S D 5 [some (.ref l0), some (.int l1), some (.int l2), some (.int l3), some (.int l4), none] []) : ∀ (n : Nat) (l0 : Nat) (l1 : Int32) (l2 : Int32) (l3 : Int32) (l4 : Int32) (l5 : Int32) (D : ev_D), sK S l0 = 6 → fX3_stepOn_15 (sL S) (sE S) fu k5 n l0 l1 l2 l3 l4 l5 D = some r → F S D 15 [some (.ref l0), some (.int l1), some (.int l2), some (.int l3), some (.int l4), some (.int l5)] [] := by
  have hX := hR.X
  intro n
  induction n with
  | zero =>
    intro l0 l1 l2 l3 l4 l5 D hl0 hf
    rw [fX3_stepOn_15] at hf
    cases hf
  | succ n ih =>
    intro l0 l1 l2 l3 l4 l5 D hl0 hf
    rw [fX3_stepOn_15] at hf
    refine ev_blk hX lkok_RX3 [(.iload 5, 2, 0, 0, 0), (.bipush 12, 2, 0, 0, 12)] (by decide +kernel) (g := true) (lv' := [some (.ref l0), some (.int l1), some (.int l2), some (.int l3), some (.int l4), some (.int l5)]) (st' := [.int (12 : Int32), .int l5]) (D' := D) (pc' := 19) rfl (rfl) rfl ?_
    refine ev_ic_ge hX (off := 61) 80 (by decide +kernel) (by decide) (fun h1 => ?_) (fun h1 => ?_)
    · have hf := ev_it h1 hf
      refine ev_blk hX lkok_RX3 [(.iinc 4 1, 3, 0, 0, 1)] (by decide +kernel) (g := true) (lv' := [some (.ref l0), some (.int l1), some (.int l2), some (.int l3), some (.int (l4 + (1 : Int32))), some (.int l5)]) (st' := []) (D' := D) (pc' := 83) rfl (rfl) rfl ?_
      refine ev_goto hX (off := (-78)) 5 (by decide +kernel) (by decide) ?_
      exact ev_weak hX (ev_le_eq (ev_le_eq (ev_le_eq (ev_le_eq (ev_le_eq (ev_le_no ev_le_nil)))))) (hk5 _ _ _ _ _ _ hl0 hf)
    · have hf := ev_nf h1 hf
      refine ev_blk hX lkok_RX3 [(.iload_n 1, 1, 0, 0, 0), (.iload 4, 2, 0, 0, 0)] (by decide +kernel) (g := true) (lv' := [some (.ref l0), some (.int l1), some (.int l2), some (.int l3), some (.int l4), some (.int l5)]) (st' := [.int l4, .int l1]) (D' := D) (pc' := 25) rfl (rfl) rfl ?_
      obtain ⟨v2, D2, hc2, hf⟩ := ev_bd_s hf
      refine ev_callSN hX YX11_isIn ml_RX3_64 (mX11_isIn hT  hc2) (vs := [.int l1, .int l4]) (st := []) (by decide) rfl rfl (by decide +kernel) hC ?_
      show F S D2 28 [some (.ref l0), some (.int l1), some (.int l2), some (.int l3), some (.int l4), some (.int l5)] [.int v2]
      refine ev_if_eq hX (off := 52) 80 (by decide +kernel) (by decide) (fun h3 => ?_) (fun h3 => ?_)
      · have hf := ev_it h3 hf
        refine ev_blk hX lkok_RX3 [(.iinc 4 1, 3, 0, 0, 1)] (by decide +kernel) (g := true) (lv' := [some (.ref l0), some (.int l1), some (.int l2), some (.int l3), some (.int (l4 + (1 : Int32))), some (.int l5)]) (st' := []) (D' := D2) (pc' := 83) rfl (rfl) rfl ?_
        refine ev_goto hX (off := (-78)) 5 (by decide +kernel) (by decide) ?_
        exact ev_weak hX (ev_le_eq (ev_le_eq (ev_le_eq (ev_le_eq (ev_le_eq (ev_le_no ev_le_nil)))))) (hk5 _ _ _ _ _ _ hl0 hf)
      · have hf := ev_nf h3 hf
        obtain ⟨hg9, hf⟩ := ev_gd_s hf
        refine ev_blk hX lkok_RX3 [(.aload_n 0, 1, 0, 0, 0), (.getfield 21, 3, 3, 6, 0), (.iload 4, 2, 0, 0, 0), (.iaload, 1, 0, 0, 0), (.iload_n 2, 1, 0, 0, 0), (.iconst (-1), 1, 0, 0, (-1)), (.ixor, 1, 0, 0, 0), (.iand, 1, 0, 0, 0), (.iload 5, 2, 0, 0, 0)] (by decide +kernel) (g := (sK S l0 == 6) && ((sK S ((sE S) l0 6) == 1 && ev_in l4 ((sL S) ((sE S) l0 6))) && (true))) (lv' := [some (.ref l0), some (.int l1), some (.int l2), some (.int l3), some (.int l4), some (.int l5)]) (st' := [.int l5, .int ((D2 ((sE S) l0 6) (l4).toNatClampNeg) &&& (l2 ^^^ (-1 : Int32)))]) (D' := D2) (pc' := 44) rfl (ev_gk hl0 (ev_gi (ev_tyk hT hl0 rfl rfl) hg9 (rfl))) rfl ?_
        obtain ⟨v4, D4, hc4, hf⟩ := ev_bd_s hf
        refine ev_callSN hX YX11_isIn ml_RX3_64 (mX11_isIn hT  hc4) (vs := [.int ((D2 ((sE S) l0 6) (l4).toNatClampNeg) &&& (l2 ^^^ (-1 : Int32))), .int l5]) (st := []) (by decide) rfl rfl (by decide +kernel) hC ?_
        show F S D4 47 [some (.ref l0), some (.int l1), some (.int l2), some (.int l3), some (.int l4), some (.int l5)] [.int v4]
        refine ev_if_eq hX (off := 27) 74 (by decide +kernel) (by decide) (fun h5 => ?_) (fun h5 => ?_)
        · have hf := ev_it h5 hf
          refine ev_blk hX lkok_RX3 [(.iinc 5 1, 3, 0, 0, 1)] (by decide +kernel) (g := true) (lv' := [some (.ref l0), some (.int l1), some (.int l2), some (.int l3), some (.int l4), some (.int (l5 + (1 : Int32)))]) (st' := []) (D' := D4) (pc' := 77) rfl (rfl) rfl ?_
          refine ev_goto hX (off := (-62)) 15 (by decide +kernel) (by decide) ?_
          exact ev_weak hX (ev_le_eq (ev_le_eq (ev_le_eq (ev_le_eq (ev_le_eq (ev_le_eq ev_le_nil)))))) (ih _ _ _ _ _ _ _ hl0 hf)
        · have hf := ev_nf h5 hf
          obtain ⟨hg6, hf⟩ := ev_gd_s hf
          obtain ⟨hg7, hf⟩ := ev_gd_s hf
          obtain ⟨hg8, hf⟩ := ev_gd_s hf
          refine ev_blk hX lkok_RX3 [(.aload_n 0, 1, 0, 0, 0), (.getfield 24, 3, 3, 7, 0), (.iload 5, 2, 0, 0, 0), (.dup2, 1, 0, 0, 0), (.iaload, 1, 0, 0, 0), (.aload_n 0, 1, 0, 0, 0), (.getfield 24, 3, 3, 7, 0), (.iload 4, 2, 0, 0, 0), (.iaload, 1, 0, 0, 0), (.iadd, 1, 0, 0, 0), (.iastore, 1, 0, 0, 0), (.iload_n 3, 1, 0, 0, 0), (.iconst 1, 1, 0, 0, 1), (.iload 5, 2, 0, 0, 0), (.ishl, 1, 0, 0, 0), (.ior, 1, 0, 0, 0), (.istore_n 3, 1, 0, 0, 0), (.iinc 5 1, 3, 0, 0, 1)] (by decide +kernel) (g := (sK S l0 == 6) && ((sK S ((sE S) l0 7) == 1 && ev_in l5 ((sL S) ((sE S) l0 7))) && ((sK S l0 == 6) && ((sK S ((sE S) l0 7) == 1 && ev_in l4 ((sL S) ((sE S) l0 7))) && ((sK S ((sE S) l0 7) == 1 && ev_in l5 ((sL S) ((sE S) l0 7))) && (true)))))) (lv' := [some (.ref l0), some (.int l1), some (.int l2), some (.int (l3 ||| ((1 : Int32) <<< (l5 &&& 31)))), some (.int l4), some (.int (l5 + (1 : Int32)))]) (st' := []) (D' := (ev_up D4 ((sE S) l0 7) (l5).toNatClampNeg ((D4 ((sE S) l0 7) (l5).toNatClampNeg) + (D4 ((sE S) l0 7) (l4).toNatClampNeg)))) (pc' := 77) rfl (ev_gk hl0 (ev_gi (ev_tyk hT hl0 rfl rfl) hg6 (ev_gk hl0 (ev_gi (ev_tyk hT hl0 rfl rfl) hg7 (ev_gi (ev_tyk hT hl0 rfl rfl) hg8 (rfl)))))) rfl ?_
          refine ev_goto hX (off := (-62)) 15 (by decide +kernel) (by decide) ?_
          exact ev_weak hX (ev_le_eq (ev_le_eq (ev_le_eq (ev_le_eq (ev_le_eq (ev_le_eq ev_le_nil)))))) (ih _ _ _ _ _ _ _ hl0 hf)
set_option maxHeartbeats 4000000 in
set_option maxRecDepth 100000 in
theorem tX3_stepOn_5 {S : ev_S} {fu : Nat} {r : Int32 × ev_D} {F : ev_Fr} (hR : ev_R RX3 cX3_stepOn 6 1 0 0 false (some .int) S r F) (hT : ev_Ty S) (hC : sC S ≤ 0 ∧ sA S ≤ 0) : ∀ (n : Nat) (l0 : Nat) (l1 : Int32) (l2 : Int32) (l3 : Int32) (l4 : Int32) (D : ev_D), sK S l0 = 6 → fX3_stepOn_5 (sL S) (sE S) fu n l0 l1 l2 l3 l4 D = some r → F S D 5 [some (.ref l0), some (.int l1), some (.int l2), some (.int l3), some (.int l4), none] [] := by
  have hX := hR.X
  intro n
  induction n with
  | zero =>
    intro l0 l1 l2 l3 l4 D hl0 hf
    rw [fX3_stepOn_5] at hf
    cases hf
  | succ n ih =>
    intro l0 l1 l2 l3 l4 D hl0 hf
    rw [fX3_stepOn_5] at hf
    refine ev_blk hX lkok_RX3 [(.iload 4, 2, 0, 0, 0), (.bipush 12, 2, 0, 0, 12)] (by decide +kernel) (g := true) (lv' := [some (.ref l0), some (.int l1), some (.int l2), some (.int l3), some (.int l4), none]) (st' := [.int (12 : Int32), .int l4]) (D' := D) (pc' := 9) rfl (rfl) rfl ?_
    refine ev_ic_ge hX (off := 77) 86 (by decide +kernel) (by decide) (fun h10 => ?_) (fun h10 => ?_)
    · have hf := ev_it h10 hf
      refine ev_blk hX lkok_RX3 [(.iload_n 3, 1, 0, 0, 0)] (by decide +kernel) (g := true) (lv' := [some (.ref l0), some (.int l1), some (.int l2), some (.int l3), some (.int l4), none]) (st' := [.int l3]) (D' := D) (pc' := 87) rfl (rfl) rfl ?_
      exact ev_iret hR ev_sm.rf (Option.some.inj hf) hC (by decide +kernel)
    · have hf := ev_nf h10 hf
      refine ev_blk hX lkok_RX3 [(.iconst 0, 1, 0, 0, 0), (.istore 5, 2, 0, 0, 0)] (by decide +kernel) (g := true) (lv' := [some (.ref l0), some (.int l1), some (.int l2), some (.int l3), some (.int l4), some (.int (0 : Int32))]) (st' := []) (D' := D) (pc' := 15) rfl (rfl) rfl ?_
      exact ev_weak hX (ev_le_eq (ev_le_eq (ev_le_eq (ev_le_eq (ev_le_eq (ev_le_eq ev_le_nil)))))) (tX3_stepOn_15 hR hT hC  ih fu _ _ _ _ _ _ _ hl0 hf)
set_option maxHeartbeats 4000000 in
set_option maxRecDepth 100000 in
theorem tX3_stepOn {S : ev_S} {fu : Nat} {r : Int32 × ev_D} {F : ev_Fr} (hR : ev_R RX3 cX3_stepOn 6 1 0 0 false (some .int) S r F) (hT : ev_Ty S) (hC : sC S ≤ 0 ∧ sA S ≤ 0) {l0 : Nat} {l1 : Int32} {l2 : Int32} {D : ev_D} (hl0 : sK S l0 = 6) (hf : fX3_stepOn (sL S) (sE S) fu l0 l1 l2 D = some r) : F S D 0 [some (.ref l0), some (.int l1), some (.int l2), none, none, none] [] := by
  have hX := hR.X
  unfold fX3_stepOn at hf
  refine ev_blk hX lkok_RX3 [(.iconst 0, 1, 0, 0, 0), (.istore_n 3, 1, 0, 0, 0), (.iconst 0, 1, 0, 0, 0), (.istore 4, 2, 0, 0, 0)] (by decide +kernel) (g := true) (lv' := [some (.ref l0), some (.int l1), some (.int l2), some (.int (0 : Int32)), some (.int (0 : Int32)), none]) (st' := []) (D' := D) (pc' := 5) rfl (rfl) rfl ?_
  exact ev_weak hX (ev_le_eq (ev_le_eq (ev_le_eq (ev_le_eq (ev_le_eq (ev_le_no ev_le_nil)))))) (tX3_stepOn_5 hR hT hC   fu _ _ _ _ _ _ hl0 hf)
theorem mX3_stepOn {S : ev_S} {fu : Nat} {r : Int32 × ev_D} (hT : ev_Ty S) {l0 : Nat} {l1 : Int32} {l2 : Int32} {D : ev_D} (hl0 : sK S l0 = 6) (hf : fX3_stepOn (sL S) (sE S) fu l0 l1 l2 D = some r) : ev_M 1 0 0 yX3_stepOn cX3_stepOn 6 (some .int) [.ref l0, .int l1, .int l2] S D S r :=
  ev_met (ini := false) (plainFor_of_name (by decide)) (fun h => by cases h) rfl (Nat.le_of_ble_eq_true rfl) (fun F hR => tX3_stepOn (S := ev_z S) hR hT ⟨Nat.le_refl 0, Nat.le_refl 0⟩ hl0 hf)
set_option maxHeartbeats 4000000 in
set_option maxRecDepth 100000 in
theorem tX3_wavesBetween_61 {S : ev_S} {fu : Nat} {r : Int32 × ev_D} {F : ev_Fr} (hR : ev_R RX3 cX3_wavesBetween 7 2 0 0 false (some .int) S r F) (hT : ev_Ty S) (hC : sC S ≤ 0 ∧ sA S ≤ 0) : ∀ (n : Nat) (l0 : Nat) (l2 : Int32) (l3 : Int32) (l4 : Int32) (l5 : Int32) (l6 : Int32) (D : ev_D), sK S l0 = 6 → fX3_wavesBetween_61 (sL S) (sE S) fu n l0 l2 l3 l4 l5 l6 D = some r → F S D 61 [some (.ref l0), none, some (.int l2), some (.int l3), some (.int l4), some (.int l5), some (.int l6)] [] := by
  have hX := hR.X
  intro n
  induction n with
  | zero =>
    intro l0 l2 l3 l4 l5 l6 D hl0 hf
    rw [fX3_wavesBetween_61] at hf
    cases hf
  | succ n ih =>
    intro l0 l2 l3 l4 l5 l6 D hl0 hf
    rw [fX3_wavesBetween_61] at hf
    refine ev_blk hX lkok_RX3 [(.iload 6, 2, 0, 0, 0), (.bipush 12, 2, 0, 0, 12)] (by decide +kernel) (g := true) (lv' := [some (.ref l0), none, some (.int l2), some (.int l3), some (.int l4), some (.int l5), some (.int l6)]) (st' := [.int (12 : Int32), .int l6]) (D' := D) (pc' := 65) rfl (rfl) rfl ?_
    refine ev_ic_ge hX (off := 51) 116 (by decide +kernel) (by decide) (fun h1 => ?_) (fun h1 => ?_)
    · have hf := ev_it h1 hf
      refine ev_blk hX lkok_RX3 [(.iconst (-1), 1, 0, 0, (-1))] (by decide +kernel) (g := true) (lv' := [some (.ref l0), none, some (.int l2), some (.int l3), some (.int l4), some (.int l5), some (.int l6)]) (st' := [.int (-1 : Int32)]) (D' := D) (pc' := 117) rfl (rfl) rfl ?_
      exact ev_iret hR ev_sm.rf (Option.some.inj hf) hC (by decide +kernel)
    · have hf := ev_nf h1 hf
      refine ev_blk hX lkok_RX3 [(.aload_n 0, 1, 0, 0, 0), (.iload 5, 2, 0, 0, 0), (.iload 4, 2, 0, 0, 0)] (by decide +kernel) (g := true) (lv' := [some (.ref l0), none, some (.int l2), some (.int l3), some (.int l4), some (.int l5), some (.int l6)]) (st' := [.int l4, .int l5, .ref l0]) (D' := D) (pc' := 73) rfl (rfl) rfl ?_
      obtain ⟨v2, D2, hc2, hf⟩ := ev_bd_s hf
      refine ev_callV hX YX3_stepOn ml_RX3_145 (mX3_stepOn hT hl0 hc2) (vs := [.int l5, .int l4]) (st := []) (by decide) 3 hl0 rfl rfl rfl (by decide +kernel) hC ?_
      show F S D2 76 [some (.ref l0), none, some (.int l2), some (.int l3), some (.int l4), some (.int l5), some (.int l6)] [.int v2]
      refine ev_blk hX lkok_RX3 [(.istore 5, 2, 0, 0, 0), (.iload 4, 2, 0, 0, 0), (.iload 5, 2, 0, 0, 0), (.ior, 1, 0, 0, 0), (.istore 4, 2, 0, 0, 0), (.iload 5, 2, 0, 0, 0), (.iload_n 2, 1, 0, 0, 0)] (by decide +kernel) (g := true) (lv' := [some (.ref l0), none, some (.int l2), some (.int l3), some (.int (l4 ||| v2)), some (.int v2), some (.int l6)]) (st' := [.int l2, .int v2]) (D' := D2) (pc' := 88) rfl (rfl) rfl ?_
      obtain ⟨v3, D3, hc3, hf⟩ := ev_bd_s hf
      refine ev_callSN hX YX11_isIn ml_RX3_64 (mX11_isIn hT  hc3) (vs := [.int v2, .int l2]) (st := []) (by decide) rfl rfl (by decide +kernel) hC ?_
      show F S D3 91 [some (.ref l0), none, some (.int l2), some (.int l3), some (.int (l4 ||| v2)), some (.int v2), some (.int l6)] [.int v3]
      refine ev_if_eq hX (off := 19) 110 (by decide +kernel) (by decide) (fun h4 => ?_) (fun h4 => ?_)
      · have hf := ev_it h4 hf
        refine ev_blk hX lkok_RX3 [(.iinc 6 1, 3, 0, 0, 1)] (by decide +kernel) (g := true) (lv' := [some (.ref l0), none, some (.int l2), some (.int l3), some (.int (l4 ||| v2)), some (.int v2), some (.int (l6 + (1 : Int32)))]) (st' := []) (D' := D3) (pc' := 113) rfl (rfl) rfl ?_
        refine ev_goto hX (off := (-52)) 61 (by decide +kernel) (by decide) ?_
        exact ev_weak hX (ev_le_eq (ev_le_no (ev_le_eq (ev_le_eq (ev_le_eq (ev_le_eq (ev_le_eq ev_le_nil))))))) (ih _ _ _ _ _ _ _ hl0 hf)
      · have hf := ev_nf h4 hf
        refine ev_blk hX lkok_RX3 [(.iload_n 3, 1, 0, 0, 0)] (by decide +kernel) (g := true) (lv' := [some (.ref l0), none, some (.int l2), some (.int l3), some (.int (l4 ||| v2)), some (.int v2), some (.int l6)]) (st' := [.int l3]) (D' := D3) (pc' := 95) rfl (rfl) rfl ?_
        refine ev_if_ne hX (off := 8) 103 (by decide +kernel) (by decide) (fun h5 => ?_) (fun h5 => ?_)
        · have hf := ev_nf h5 hf
          obtain ⟨hg6, hf⟩ := ev_gd_s hf
          refine ev_blk hX lkok_RX3 [(.aload_n 0, 1, 0, 0, 0), (.getfield 24, 3, 3, 7, 0), (.iload_n 2, 1, 0, 0, 0), (.iaload, 1, 0, 0, 0)] (by decide +kernel) (g := (sK S l0 == 6) && ((sK S ((sE S) l0 7) == 1 && ev_in l2 ((sL S) ((sE S) l0 7))) && (true))) (lv' := [some (.ref l0), none, some (.int l2), some (.int l3), some (.int (l4 ||| v2)), some (.int v2), some (.int l6)]) (st' := [.int (D3 ((sE S) l0 7) (l2).toNatClampNeg)]) (D' := D3) (pc' := 109) rfl (ev_gk hl0 (ev_gi (ev_tyk hT hl0 rfl rfl) hg6 (rfl))) rfl ?_
          exact ev_iret hR ev_sm.rf (Option.some.inj hf) hC (by decide +kernel)
        · have hf := ev_it h5 hf
          refine ev_blk hX lkok_RX3 [(.iload 6, 2, 0, 0, 0)] (by decide +kernel) (g := true) (lv' := [some (.ref l0), none, some (.int l2), some (.int l3), some (.int (l4 ||| v2)), some (.int v2), some (.int l6)]) (st' := [.int l6]) (D' := D3) (pc' := 100) rfl (rfl) rfl ?_
          refine ev_goto hX (off := 9) 109 (by decide +kernel) (by decide) ?_
          exact ev_iret hR ev_sm.rf (Option.some.inj hf) hC (by decide +kernel)
set_option maxHeartbeats 4000000 in
set_option maxRecDepth 100000 in
theorem tX3_wavesBetween {S : ev_S} {fu : Nat} {r : Int32 × ev_D} {F : ev_Fr} (hR : ev_R RX3 cX3_wavesBetween 7 2 0 0 false (some .int) S r F) (hT : ev_Ty S) (hC : sC S ≤ 0 ∧ sA S ≤ 0) {l0 : Nat} {l1 : Int32} {l2 : Int32} {l3 : Int32} {D : ev_D} (hl0 : sK S l0 = 6) (hf : fX3_wavesBetween (sL S) (sE S) fu l0 l1 l2 l3 D = some r) : F S D 0 [some (.ref l0), some (.int l1), some (.int l2), some (.int l3), none, none, none] [] := by
  have hX := hR.X
  unfold fX3_wavesBetween at hf
  refine ev_blk hX lkok_RX3 [(.aload_n 0, 1, 0, 0, 0), (.aload_n 0, 1, 0, 0, 0), (.getfield 41, 3, 3, 2, 0), (.getfield 138, 3, 8, 2, 0), (.iconst 0, 1, 0, 0, 0)] (by decide +kernel) (g := (sK S l0 == 6) && ((sK S ((sE S) l0 2) == 11) && (true))) (lv' := [some (.ref l0), some (.int l1), some (.int l2), some (.int l3), none, none, none]) (st' := [.int (0 : Int32), .ref ((sE S) ((sE S) l0 2) 2), .ref l0]) (D' := D) (pc' := 9) rfl (ev_gk hl0 (ev_gk (ev_tyk hT hl0 rfl rfl) (rfl))) rfl ?_
  obtain ⟨v7, D7, hc7, hf⟩ := ev_bd_s hf
  refine ev_callV hX YX3_fillNear ml_RX3_141 (mX3_fillNear hT hl0 (ev_tyk hT (ev_tyk hT hl0 rfl rfl) rfl rfl) hc7) (vs := [.ref ((sE S) ((sE S) l0 2) 2), .int (0 : Int32)]) (st := []) (by decide) 3 hl0 rfl rfl rfl (by decide +kernel) hC ?_
  show F S D7 12 [some (.ref l0), some (.int l1), some (.int l2), some (.int l3), none, none, none] []
  refine ev_blk hX lkok_RX3 [(.aload_n 0, 1, 0, 0, 0), (.getfield 24, 3, 3, 7, 0), (.iconst 0, 1, 0, 0, 0)] (by decide +kernel) (g := (sK S l0 == 6) && (true)) (lv' := [some (.ref l0), some (.int l1), some (.int l2), some (.int l3), none, none, none]) (st' := [.int (0 : Int32), .ref ((sE S) l0 7)]) (D' := D7) (pc' := 17) rfl (ev_gk hl0 (rfl)) rfl ?_
  obtain ⟨v8, D8, hc8, hf⟩ := ev_bd_s hf
  refine ev_callS hX YJ7_fill ml_RX3_132 (mJ7_fill hT (ev_tyk hT hl0 rfl rfl) hc8) (vs := [.ref ((sE S) l0 7), .int (0 : Int32)]) (st := []) (by decide) rfl rfl (by decide +kernel) hC ?_
  show F S D8 20 [some (.ref l0), some (.int l1), some (.int l2), some (.int l3), none, none, none] []
  refine ev_blk hX lkok_RX3 [(.iload_n 1, 1, 0, 0, 0), (.iconst 0, 1, 0, 0, 0), (.bipush 11, 2, 0, 0, 11)] (by decide +kernel) (g := true) (lv' := [some (.ref l0), some (.int l1), some (.int l2), some (.int l3), none, none, none]) (st' := [.int (11 : Int32), .int (0 : Int32), .int l1]) (D' := D8) (pc' := 24) rfl (rfl) rfl ?_
  obtain ⟨v9, D9, hc9, hf⟩ := ev_bd_s hf
  refine ev_callSN hX YX11_within ml_RX3_79 (mX11_within hT  hc9) (vs := [.int l1, .int (0 : Int32), .int (11 : Int32)]) (st := []) (by decide) rfl rfl (by decide +kernel) hC ?_
  show F S D9 27 [some (.ref l0), some (.int l1), some (.int l2), some (.int l3), none, none, none] [.int v9]
  refine ev_if_eq hX (off := 13) 40 (by decide +kernel) (by decide) (fun h10 => ?_) (fun h10 => ?_)
  · have hf := ev_it h10 hf
    refine ev_blk hX lkok_RX3 [(.iconst (-1), 1, 0, 0, (-1))] (by decide +kernel) (g := true) (lv' := [some (.ref l0), some (.int l1), some (.int l2), some (.int l3), none, none, none]) (st' := [.int (-1 : Int32)]) (D' := D9) (pc' := 41) rfl (rfl) rfl ?_
    exact ev_iret hR ev_sm.rf (Option.some.inj hf) hC (by decide +kernel)
  · have hf := ev_nf h10 hf
    refine ev_blk hX lkok_RX3 [(.iload_n 2, 1, 0, 0, 0), (.iconst 0, 1, 0, 0, 0), (.bipush 11, 2, 0, 0, 11)] (by decide +kernel) (g := true) (lv' := [some (.ref l0), some (.int l1), some (.int l2), some (.int l3), none, none, none]) (st' := [.int (11 : Int32), .int (0 : Int32), .int l2]) (D' := D9) (pc' := 34) rfl (rfl) rfl ?_
    obtain ⟨v11, D11, hc11, hf⟩ := ev_bd_s hf
    refine ev_callSN hX YX11_within ml_RX3_79 (mX11_within hT  hc11) (vs := [.int l2, .int (0 : Int32), .int (11 : Int32)]) (st := []) (by decide) rfl rfl (by decide +kernel) hC ?_
    show F S D11 37 [some (.ref l0), some (.int l1), some (.int l2), some (.int l3), none, none, none] [.int v11]
    refine ev_if_ne hX (off := 5) 42 (by decide +kernel) (by decide) (fun h12 => ?_) (fun h12 => ?_)
    · have hf := ev_nf h12 hf
      obtain ⟨hg13, hf⟩ := ev_gd_s hf
      refine ev_blk hX lkok_RX3 [(.aload_n 0, 1, 0, 0, 0), (.getfield 24, 3, 3, 7, 0), (.iload_n 1, 1, 0, 0, 0), (.iconst 1, 1, 0, 0, 1), (.iastore, 1, 0, 0, 0), (.iconst 1, 1, 0, 0, 1), (.iload_n 1, 1, 0, 0, 0), (.ishl, 1, 0, 0, 0), (.istore 4, 2, 0, 0, 0), (.iload 4, 2, 0, 0, 0), (.istore 5, 2, 0, 0, 0), (.iconst 0, 1, 0, 0, 0), (.istore 6, 2, 0, 0, 0)] (by decide +kernel) (g := (sK S l0 == 6) && ((sK S ((sE S) l0 7) == 1 && ev_in l1 ((sL S) ((sE S) l0 7))) && (true))) (lv' := [some (.ref l0), some (.int l1), some (.int l2), some (.int l3), some (.int ((1 : Int32) <<< (l1 &&& 31))), some (.int ((1 : Int32) <<< (l1 &&& 31))), some (.int (0 : Int32))]) (st' := []) (D' := (ev_up D11 ((sE S) l0 7) (l1).toNatClampNeg (1 : Int32))) (pc' := 61) rfl (ev_gk hl0 (ev_gi (ev_tyk hT hl0 rfl rfl) hg13 (rfl))) rfl ?_
      exact ev_weak hX (ev_le_eq (ev_le_no (ev_le_eq (ev_le_eq (ev_le_eq (ev_le_eq (ev_le_eq ev_le_nil))))))) (tX3_wavesBetween_61 hR hT hC   fu _ _ _ _ _ _ _ hl0 hf)
    · have hf := ev_it h12 hf
      refine ev_blk hX lkok_RX3 [(.iconst (-1), 1, 0, 0, (-1))] (by decide +kernel) (g := true) (lv' := [some (.ref l0), some (.int l1), some (.int l2), some (.int l3), none, none, none]) (st' := [.int (-1 : Int32)]) (D' := D11) (pc' := 41) rfl (rfl) rfl ?_
      exact ev_iret hR ev_sm.rf (Option.some.inj hf) hC (by decide +kernel)
theorem mX3_wavesBetween {S : ev_S} {fu : Nat} {r : Int32 × ev_D} (hT : ev_Ty S) {l0 : Nat} {l1 : Int32} {l2 : Int32} {l3 : Int32} {D : ev_D} (hl0 : sK S l0 = 6) (hf : fX3_wavesBetween (sL S) (sE S) fu l0 l1 l2 l3 D = some r) : ev_M 2 0 0 yX3_wavesBetween cX3_wavesBetween 7 (some .int) [.ref l0, .int l1, .int l2, .int l3] S D S r :=
  ev_met (ini := false) (plainFor_of_name (by decide)) (fun h => by cases h) rfl (Nat.le_of_ble_eq_true rfl) (fun F hR => tX3_wavesBetween (S := ev_z S) hR hT ⟨Nat.le_refl 0, Nat.le_refl 0⟩ hl0 hf)
set_option maxHeartbeats 4000000 in
set_option maxRecDepth 100000 in
theorem tX11_waves {S : ev_S} {fu : Nat} {r : Int32 × ev_D} {F : ev_Fr} (hR : ev_R RX11 cX11_waves 4 3 0 0 false (some .int) S r F) (hT : ev_Ty S) (hC : sC S ≤ 0 ∧ sA S ≤ 0) {l0 : Nat} {l1 : Int32} {l2 : Int32} {l3 : Int32} {D : ev_D} (hl0 : sK S l0 = 14) (hf : fX11_waves (sL S) (sE S) fu l0 l1 l2 l3 D = some r) : F S D 0 [some (.ref l0), some (.int l1), some (.int l2), some (.int l3)] [] := by
  have hX := hR.X
  unfold fX11_waves at hf
  refine ev_blk hX lkok_RX11 [(.iload_n 1, 1, 0, 0, 0), (.iconst 0, 1, 0, 0, 0), (.bipush 11, 2, 0, 0, 11)] (by decide +kernel) (g := true) (lv' := [some (.ref l0), some (.int l1), some (.int l2), some (.int l3)]) (st' := [.int (11 : Int32), .int (0 : Int32), .int l1]) (D' := D) (pc' := 4) rfl (rfl) rfl ?_
  obtain ⟨v1, D1, hc1, hf⟩ := ev_bd_s hf
  refine ev_callS hX YX11_within ml_RX11_85 (mX11_within hT  hc1) (vs := [.int l1, .int (0 : Int32), .int (11 : Int32)]) (st := []) (by decide) rfl rfl (by decide +kernel) hC ?_
  show F S D1 7 [some (.ref l0), some (.int l1), some (.int l2), some (.int l3)] [.int v1]
  refine ev_if_eq hX (off := 18) 25 (by decide +kernel) (by decide) (fun h2 => ?_) (fun h2 => ?_)
  · have hf := ev_it h2 hf
    refine ev_blk hX lkok_RX11 [(.iconst (-1), 1, 0, 0, (-1))] (by decide +kernel) (g := true) (lv' := [some (.ref l0), some (.int l1), some (.int l2), some (.int l3)]) (st' := [.int (-1 : Int32)]) (D' := D1) (pc' := 26) rfl (rfl) rfl ?_
    exact ev_iret hR ev_sm.rf (Option.some.inj hf) hC (by decide +kernel)
  · have hf := ev_nf h2 hf
    refine ev_blk hX lkok_RX11 [(.iload_n 2, 1, 0, 0, 0), (.iconst 0, 1, 0, 0, 0), (.bipush 11, 2, 0, 0, 11)] (by decide +kernel) (g := true) (lv' := [some (.ref l0), some (.int l1), some (.int l2), some (.int l3)]) (st' := [.int (11 : Int32), .int (0 : Int32), .int l2]) (D' := D1) (pc' := 14) rfl (rfl) rfl ?_
    obtain ⟨v3, D3, hc3, hf⟩ := ev_bd_s hf
    refine ev_callS hX YX11_within ml_RX11_85 (mX11_within hT  hc3) (vs := [.int l2, .int (0 : Int32), .int (11 : Int32)]) (st := []) (by decide) rfl rfl (by decide +kernel) hC ?_
    show F S D3 17 [some (.ref l0), some (.int l1), some (.int l2), some (.int l3)] [.int v3]
    refine ev_if_eq hX (off := 8) 25 (by decide +kernel) (by decide) (fun h4 => ?_) (fun h4 => ?_)
    · have hf := ev_it h4 hf
      refine ev_blk hX lkok_RX11 [(.iconst (-1), 1, 0, 0, (-1))] (by decide +kernel) (g := true) (lv' := [some (.ref l0), some (.int l1), some (.int l2), some (.int l3)]) (st' := [.int (-1 : Int32)]) (D' := D3) (pc' := 26) rfl (rfl) rfl ?_
      exact ev_iret hR ev_sm.rf (Option.some.inj hf) hC (by decide +kernel)
    · have hf := ev_nf h4 hf
      refine ev_blk hX lkok_RX11 [(.iload_n 1, 1, 0, 0, 0), (.iload_n 2, 1, 0, 0, 0)] (by decide +kernel) (g := true) (lv' := [some (.ref l0), some (.int l1), some (.int l2), some (.int l3)]) (st' := [.int l2, .int l1]) (D' := D3) (pc' := 22) rfl (rfl) rfl ?_
      refine ev_ic_ne hX (off := 5) 27 (by decide +kernel) (by decide) (fun h5 => ?_) (fun h5 => ?_)
      · have hf := ev_nf h5 hf
        refine ev_blk hX lkok_RX11 [(.iload_n 3, 1, 0, 0, 0), (.iconst 0, 1, 0, 0, 0), (.iconst 1, 1, 0, 0, 1)] (by decide +kernel) (g := true) (lv' := [some (.ref l0), some (.int l1), some (.int l2), some (.int l3)]) (st' := [.int (1 : Int32), .int (0 : Int32), .int l3]) (D' := D3) (pc' := 30) rfl (rfl) rfl ?_
        obtain ⟨v6, D6, hc6, hf⟩ := ev_bd_s hf
        refine ev_callS hX YX11_within ml_RX11_85 (mX11_within hT  hc6) (vs := [.int l3, .int (0 : Int32), .int (1 : Int32)]) (st := []) (by decide) rfl rfl (by decide +kernel) hC ?_
        show F S D6 33 [some (.ref l0), some (.int l1), some (.int l2), some (.int l3)] [.int v6]
        refine ev_if_eq hX (off := 16) 49 (by decide +kernel) (by decide) (fun h7 => ?_) (fun h7 => ?_)
        · have hf := ev_it h7 hf
          refine ev_blk hX lkok_RX11 [(.iconst (-1), 1, 0, 0, (-1))] (by decide +kernel) (g := true) (lv' := [some (.ref l0), some (.int l1), some (.int l2), some (.int l3)]) (st' := [.int (-1 : Int32)]) (D' := D6) (pc' := 50) rfl (rfl) rfl ?_
          exact ev_iret hR ev_sm.rf (Option.some.inj hf) hC (by decide +kernel)
        · have hf := ev_nf h7 hf
          refine ev_blk hX lkok_RX11 [(.aload_n 0, 1, 0, 0, 0), (.getfield 71, 3, 11, 5, 0), (.iload_n 1, 1, 0, 0, 0), (.iload_n 2, 1, 0, 0, 0), (.iload_n 3, 1, 0, 0, 0)] (by decide +kernel) (g := (sK S l0 == 14) && (true)) (lv' := [some (.ref l0), some (.int l1), some (.int l2), some (.int l3)]) (st' := [.int l3, .int l2, .int l1, .ref ((sE S) l0 5)]) (D' := D6) (pc' := 43) rfl (ev_gk hl0 (rfl)) rfl ?_
          obtain ⟨v8, D8, hc8, hf⟩ := ev_bd_s hf
          refine ev_callV hX YX3_wavesBetween ml_RX11_273 (mX3_wavesBetween hT (ev_tyk hT hl0 rfl rfl) hc8) (vs := [.int l1, .int l2, .int l3]) (st := []) (by decide) 3 (ev_tyk hT hl0 rfl rfl) rfl rfl rfl (by decide +kernel) hC ?_
          show F S D8 46 [some (.ref l0), some (.int l1), some (.int l2), some (.int l3)] [.int v8]
          refine ev_goto hX (off := 4) 50 (by decide +kernel) (by decide) ?_
          exact ev_iret hR ev_sm.rf (Option.some.inj hf) hC (by decide +kernel)
      · have hf := ev_it h5 hf
        refine ev_blk hX lkok_RX11 [(.iconst (-1), 1, 0, 0, (-1))] (by decide +kernel) (g := true) (lv' := [some (.ref l0), some (.int l1), some (.int l2), some (.int l3)]) (st' := [.int (-1 : Int32)]) (D' := D3) (pc' := 26) rfl (rfl) rfl ?_
        exact ev_iret hR ev_sm.rf (Option.some.inj hf) hC (by decide +kernel)
theorem mX11_waves {S : ev_S} {fu : Nat} {r : Int32 × ev_D} (hT : ev_Ty S) {l0 : Nat} {l1 : Int32} {l2 : Int32} {l3 : Int32} {D : ev_D} (hl0 : sK S l0 = 14) (hf : fX11_waves (sL S) (sE S) fu l0 l1 l2 l3 D = some r) : ev_M 3 0 0 yX11_waves cX11_waves 4 (some .int) [.ref l0, .int l1, .int l2, .int l3] S D S r :=
  ev_met (ini := false) (plainFor_of_name (by decide)) (fun h => by cases h) rfl (Nat.le_of_ble_eq_true rfl) (fun F hR => tX11_waves (S := ev_z S) hR hT ⟨Nat.le_refl 0, Nat.le_refl 0⟩ hl0 hf)
set_option maxHeartbeats 4000000 in
set_option maxRecDepth 100000 in
theorem tX3_heavyOf_4 {S : ev_S} {fu : Nat} {r : Int32 × ev_D} {F : ev_Fr} (hR : ev_R RX3 cX3_heavyOf 4 1 0 0 false (some .int) S r F) (hT : ev_Ty S) (hC : sC S ≤ 0 ∧ sA S ≤ 0) : ∀ (n : Nat) (l0 : Nat) (l1 : Int32) (l2 : Int32) (l3 : Int32) (D : ev_D), sK S l0 = 6 → fX3_heavyOf_4 (sL S) (sE S) fu n l0 l1 l2 l3 D = some r → F S D 4 [some (.ref l0), some (.int l1), some (.int l2), some (.int l3)] [] := by
  have hX := hR.X
  intro n
  induction n with
  | zero =>
    intro l0 l1 l2 l3 D hl0 hf
    rw [fX3_heavyOf_4] at hf
    cases hf
  | succ n ih =>
    intro l0 l1 l2 l3 D hl0 hf
    rw [fX3_heavyOf_4] at hf
    refine ev_blk hX lkok_RX3 [(.iload_n 3, 1, 0, 0, 0), (.bipush 8, 2, 0, 0, 8)] (by decide +kernel) (g := true) (lv' := [some (.ref l0), some (.int l1), some (.int l2), some (.int l3)]) (st' := [.int (8 : Int32), .int l3]) (D' := D) (pc' := 7) rfl (rfl) rfl ?_
    refine ev_ic_ge hX (off := 29) 36 (by decide +kernel) (by decide) (fun h1 => ?_) (fun h1 => ?_)
    · have hf := ev_it h1 hf
      refine ev_blk hX lkok_RX3 [(.iload_n 2, 1, 0, 0, 0)] (by decide +kernel) (g := true) (lv' := [some (.ref l0), some (.int l1), some (.int l2), some (.int l3)]) (st' := [.int l2]) (D' := D) (pc' := 37) rfl (rfl) rfl ?_
      exact ev_iret hR ev_sm.rf (Option.some.inj hf) hC (by decide +kernel)
    · have hf := ev_nf h1 hf
      refine ev_blk hX lkok_RX3 [(.iload_n 1, 1, 0, 0, 0), (.iload_n 3, 1, 0, 0, 0)] (by decide +kernel) (g := true) (lv' := [some (.ref l0), some (.int l1), some (.int l2), some (.int l3)]) (st' := [.int l3, .int l1]) (D' := D) (pc' := 12) rfl (rfl) rfl ?_
      obtain ⟨v2, D2, hc2, hf⟩ := ev_bd_s hf
      refine ev_callSN hX YX11_isIn ml_RX3_64 (mX11_isIn hT  hc2) (vs := [.int l1, .int l3]) (st := []) (by decide) rfl rfl (by decide +kernel) hC ?_
      show F S D2 15 [some (.ref l0), some (.int l1), some (.int l2), some (.int l3)] [.int v2]
      refine ev_if_eq hX (off := 15) 30 (by decide +kernel) (by decide) (fun h3 => ?_) (fun h3 => ?_)
      · have hf := ev_it h3 hf
        refine ev_blk hX lkok_RX3 [(.iinc 3 1, 3, 0, 0, 1)] (by decide +kernel) (g := true) (lv' := [some (.ref l0), some (.int l1), some (.int l2), some (.int (l3 + (1 : Int32)))]) (st' := []) (D' := D2) (pc' := 33) rfl (rfl) rfl ?_
        refine ev_goto hX (off := (-29)) 4 (by decide +kernel) (by decide) ?_
        exact ev_weak hX (ev_le_eq (ev_le_eq (ev_le_eq (ev_le_eq ev_le_nil)))) (ih _ _ _ _ _ hl0 hf)
      · have hf := ev_nf h3 hf
        obtain ⟨hg4, hf⟩ := ev_gd_s hf
        refine ev_blk hX lkok_RX3 [(.iload_n 2, 1, 0, 0, 0), (.aload_n 0, 1, 0, 0, 0), (.getfield 33, 3, 3, 0, 0), (.getfield 148, 3, 9, 7, 0), (.iload_n 3, 1, 0, 0, 0), (.iaload, 1, 0, 0, 0), (.iadd, 1, 0, 0, 0), (.istore_n 2, 1, 0, 0, 0), (.iinc 3 1, 3, 0, 0, 1)] (by decide +kernel) (g := (sK S l0 == 6) && ((sK S ((sE S) l0 0) == 12) && ((sK S ((sE S) ((sE S) l0 0) 7) == 1 && ev_in l3 ((sL S) ((sE S) ((sE S) l0 0) 7))) && (true)))) (lv' := [some (.ref l0), some (.int l1), some (.int (l2 + (D2 ((sE S) ((sE S) l0 0) 7) (l3).toNatClampNeg))), some (.int (l3 + (1 : Int32)))]) (st' := []) (D' := D2) (pc' := 33) rfl (ev_gk hl0 (ev_gk (ev_tyk hT hl0 rfl rfl) (ev_gi (ev_tyk hT (ev_tyk hT hl0 rfl rfl) rfl rfl) hg4 (rfl)))) rfl ?_
        refine ev_goto hX (off := (-29)) 4 (by decide +kernel) (by decide) ?_
        exact ev_weak hX (ev_le_eq (ev_le_eq (ev_le_eq (ev_le_eq ev_le_nil)))) (ih _ _ _ _ _ hl0 hf)
set_option maxHeartbeats 4000000 in
set_option maxRecDepth 100000 in
theorem tX3_heavyOf {S : ev_S} {fu : Nat} {r : Int32 × ev_D} {F : ev_Fr} (hR : ev_R RX3 cX3_heavyOf 4 1 0 0 false (some .int) S r F) (hT : ev_Ty S) (hC : sC S ≤ 0 ∧ sA S ≤ 0) {l0 : Nat} {l1 : Int32} {D : ev_D} (hl0 : sK S l0 = 6) (hf : fX3_heavyOf (sL S) (sE S) fu l0 l1 D = some r) : F S D 0 [some (.ref l0), some (.int l1), none, none] [] := by
  have hX := hR.X
  unfold fX3_heavyOf at hf
  refine ev_blk hX lkok_RX3 [(.iconst 0, 1, 0, 0, 0), (.istore_n 2, 1, 0, 0, 0), (.iconst 0, 1, 0, 0, 0), (.istore_n 3, 1, 0, 0, 0)] (by decide +kernel) (g := true) (lv' := [some (.ref l0), some (.int l1), some (.int (0 : Int32)), some (.int (0 : Int32))]) (st' := []) (D' := D) (pc' := 4) rfl (rfl) rfl ?_
  exact ev_weak hX (ev_le_eq (ev_le_eq (ev_le_eq (ev_le_eq ev_le_nil)))) (tX3_heavyOf_4 hR hT hC   fu _ _ _ _ _ hl0 hf)
theorem mX3_heavyOf {S : ev_S} {fu : Nat} {r : Int32 × ev_D} (hT : ev_Ty S) {l0 : Nat} {l1 : Int32} {D : ev_D} (hl0 : sK S l0 = 6) (hf : fX3_heavyOf (sL S) (sE S) fu l0 l1 D = some r) : ev_M 1 0 0 yX3_heavyOf cX3_heavyOf 4 (some .int) [.ref l0, .int l1] S D S r :=
  ev_met (ini := false) (plainFor_of_name (by decide)) (fun h => by cases h) rfl (Nat.le_of_ble_eq_true rfl) (fun F hR => tX3_heavyOf (S := ev_z S) hR hT ⟨Nat.le_refl 0, Nat.le_refl 0⟩ hl0 hf)
set_option maxHeartbeats 4000000 in
set_option maxRecDepth 100000 in
theorem tX3_borne_64 {S : ev_S} {fu : Nat} {r : Int32 × ev_D} {F : ev_Fr} (hR : ev_R RX3 cX3_borne 9 2 0 0 false (some .int) S r F) (hT : ev_Ty S) (hC : sC S ≤ 0 ∧ sA S ≤ 0) {k11 : Nat → Int32 → Int32 → Int32 → Int32 → Int32 → Int32 → ev_D → ev_Op} (hk11 : ∀ (l0 : Nat) (l1 : Int32) (l2 : Int32) (l3 : Int32) (l4 : Int32) (l5 : Int32) (l6 : Int32) (D : ev_D), sK S l0 = 6 → k11 l0 l1 l2 l3 l4 l5 l6 D = some r → F S D 11 [some (.ref l0), some (.int l1), some (.int l2), some (.int l3), some (.int l4), some (.int l5), some (.int l6), none, none] []) {l0 : Nat} {l1 : Int32} {l2 : Int32} {l3 : Int32} {l4 : Int32} {l6 : Int32} {l7 : Int32} {s0 : Int32} {D : ev_D} (hl0 : sK S l0 = 6) (hf : fX3_borne_64 (sL S) (sE S) fu k11 l0 l1 l2 l3 l4 l6 l7 s0 D = some r) : F S D 64 [some (.ref l0), some (.int l1), some (.int l2), some (.int l3), some (.int l4), none, some (.int l6), some (.int l7), none] [.int s0] := by
  have hX := hR.X
  unfold fX3_borne_64 at hf
  refine ev_blk hX lkok_RX3 [(.istore 5, 2, 0, 0, 0), (.iload 7, 2, 0, 0, 0), (.iload_n 3, 1, 0, 0, 0)] (by decide +kernel) (g := true) (lv' := [some (.ref l0), some (.int l1), some (.int l2), some (.int l3), some (.int l4), some (.int s0), some (.int l6), some (.int l7), none]) (st' := [.int l3, .int l7]) (D' := D) (pc' := 69) rfl (rfl) rfl ?_
  refine ev_ic_le hX (off := 7) 76 (by decide +kernel) (by decide) (fun h1 => ?_) (fun h1 => ?_)
  · have hf := ev_it h1 hf
    refine ev_blk hX lkok_RX3 [(.iload 4, 2, 0, 0, 0), (.iconst 1, 1, 0, 0, 1), (.iadd, 1, 0, 0, 0), (.istore 4, 2, 0, 0, 0), (.iload 7, 2, 0, 0, 0), (.istore_n 3, 1, 0, 0, 0), (.iinc 6 1, 3, 0, 0, 1)] (by decide +kernel) (g := true) (lv' := [some (.ref l0), some (.int l1), some (.int l2), some (.int l7), some (.int (l4 + (1 : Int32))), some (.int s0), some (.int (l6 + (1 : Int32))), some (.int l7), none]) (st' := []) (D' := D) (pc' := 88) rfl (rfl) rfl ?_
    refine ev_goto hX (off := (-77)) 11 (by decide +kernel) (by decide) ?_
    exact ev_weak hX (ev_le_eq (ev_le_eq (ev_le_eq (ev_le_eq (ev_le_eq (ev_le_eq (ev_le_eq (ev_le_no (ev_le_no ev_le_nil))))))))) (hk11 _ _ _ _ _ _ _ _ hl0 hf)
  · have hf := ev_nf h1 hf
    refine ev_blk hX lkok_RX3 [(.iconst 1, 1, 0, 0, 1)] (by decide +kernel) (g := true) (lv' := [some (.ref l0), some (.int l1), some (.int l2), some (.int l3), some (.int l4), some (.int s0), some (.int l6), some (.int l7), none]) (st' := [.int (1 : Int32)]) (D' := D) (pc' := 73) rfl (rfl) rfl ?_
    refine ev_goto hX (off := 7) 80 (by decide +kernel) (by decide) ?_
    refine ev_blk hX lkok_RX3 [(.istore 4, 2, 0, 0, 0), (.iload 7, 2, 0, 0, 0), (.istore_n 3, 1, 0, 0, 0), (.iinc 6 1, 3, 0, 0, 1)] (by decide +kernel) (g := true) (lv' := [some (.ref l0), some (.int l1), some (.int l2), some (.int l7), some (.int (1 : Int32)), some (.int s0), some (.int (l6 + (1 : Int32))), some (.int l7), none]) (st' := []) (D' := D) (pc' := 88) rfl (rfl) rfl ?_
    refine ev_goto hX (off := (-77)) 11 (by decide +kernel) (by decide) ?_
    exact ev_weak hX (ev_le_eq (ev_le_eq (ev_le_eq (ev_le_eq (ev_le_eq (ev_le_eq (ev_le_eq (ev_le_no (ev_le_no ev_le_nil))))))))) (hk11 _ _ _ _ _ _ _ _ hl0 hf)
set_option maxHeartbeats 4000000 in
set_option maxRecDepth 100000 in
theorem tX3_borne_11 {S : ev_S} {fu : Nat} {r : Int32 × ev_D} {F : ev_Fr} (hR : ev_R RX3 cX3_borne 9 2 0 0 false (some .int) S r F) (hT : ev_Ty S) (hC : sC S ≤ 0 ∧ sA S ≤ 0) : ∀ (n : Nat) (l0 : Nat) (l1 : Int32) (l2 : Int32) (l3 : Int32) (l4 : Int32) (l5 : Int32) (l6 : Int32) (D : ev_D), sK S l0 = 6 → fX3_borne_11 (sL S) (sE S) fu n l0 l1 l2 l3 l4 l5 l6 D = some r → F S D 11 [some (.ref l0), some (.int l1), some (.int l2), some (.int l3), some (.int l4), some (.int l5), some (.int l6), none, none] [] := by
  have hX := hR.X
  intro n
  induction n with
  | zero =>
    intro l0 l1 l2 l3 l4 l5 l6 D hl0 hf
    rw [fX3_borne_11] at hf
    cases hf
  | succ n ih =>
    intro l0 l1 l2 l3 l4 l5 l6 D hl0 hf
    rw [fX3_borne_11] at hf
    refine ev_blk hX lkok_RX3 [(.iload 6, 2, 0, 0, 0), (.sipush 256, 3, 0, 0, 256)] (by decide +kernel) (g := true) (lv' := [some (.ref l0), some (.int l1), some (.int l2), some (.int l3), some (.int l4), some (.int l5), some (.int l6), none, none]) (st' := [.int (256 : Int32), .int l6]) (D' := D) (pc' := 16) rfl (rfl) rfl ?_
    refine ev_ic_ge hX (off := 75) 91 (by decide +kernel) (by decide) (fun h2 => ?_) (fun h2 => ?_)
    · have hf := ev_it h2 hf
      refine ev_blk hX lkok_RX3 [(.iload_n 2, 1, 0, 0, 0)] (by decide +kernel) (g := true) (lv' := [some (.ref l0), some (.int l1), some (.int l2), some (.int l3), some (.int l4), some (.int l5), some (.int l6), none, none]) (st' := [.int l2]) (D' := D) (pc' := 92) rfl (rfl) rfl ?_
      refine ev_if_ne hX (off := 7) 99 (by decide +kernel) (by decide) (fun h3 => ?_) (fun h3 => ?_)
      · have hf := ev_nf h3 hf
        refine ev_blk hX lkok_RX3 [(.iload_n 2, 1, 0, 0, 0), (.iconst 1, 1, 0, 0, 1)] (by decide +kernel) (g := true) (lv' := [some (.ref l0), some (.int l1), some (.int l2), some (.int l3), some (.int l4), some (.int l5), some (.int l6), none, none]) (st' := [.int (1 : Int32), .int l2]) (D' := D) (pc' := 101) rfl (rfl) rfl ?_
        refine ev_ic_ne hX (off := 8) 109 (by decide +kernel) (by decide) (fun h4 => ?_) (fun h4 => ?_)
        · have hf := ev_nf h4 hf
          refine ev_blk hX lkok_RX3 [(.iload 5, 2, 0, 0, 0)] (by decide +kernel) (g := true) (lv' := [some (.ref l0), some (.int l1), some (.int l2), some (.int l3), some (.int l4), some (.int l5), some (.int l6), none, none]) (st' := [.int l5]) (D' := D) (pc' := 111) rfl (rfl) rfl ?_
          exact ev_iret hR ev_sm.rf (Option.some.inj hf) hC (by decide +kernel)
        · have hf := ev_it h4 hf
          refine ev_blk hX lkok_RX3 [(.iload 4, 2, 0, 0, 0)] (by decide +kernel) (g := true) (lv' := [some (.ref l0), some (.int l1), some (.int l2), some (.int l3), some (.int l4), some (.int l5), some (.int l6), none, none]) (st' := [.int l4]) (D' := D) (pc' := 106) rfl (rfl) rfl ?_
          refine ev_goto hX (off := 5) 111 (by decide +kernel) (by decide) ?_
          exact ev_iret hR ev_sm.rf (Option.some.inj hf) hC (by decide +kernel)
      · have hf := ev_it h3 hf
        refine ev_blk hX lkok_RX3 [(.iload_n 3, 1, 0, 0, 0)] (by decide +kernel) (g := true) (lv' := [some (.ref l0), some (.int l1), some (.int l2), some (.int l3), some (.int l4), some (.int l5), some (.int l6), none, none]) (st' := [.int l3]) (D' := D) (pc' := 96) rfl (rfl) rfl ?_
        refine ev_goto hX (off := 15) 111 (by decide +kernel) (by decide) ?_
        exact ev_iret hR ev_sm.rf (Option.some.inj hf) hC (by decide +kernel)
    · have hf := ev_nf h2 hf
      refine ev_blk hX lkok_RX3 [(.iload 6, 2, 0, 0, 0)] (by decide +kernel) (g := true) (lv' := [some (.ref l0), some (.int l1), some (.int l2), some (.int l3), some (.int l4), some (.int l5), some (.int l6), none, none]) (st' := [.int l6]) (D' := D) (pc' := 21) rfl (rfl) rfl ?_
      obtain ⟨v5, D5, hc5, hf⟩ := ev_bd_s hf
      refine ev_callS hX YJ6_bitCount ml_RX3_88 (mJ6_bitCount hT  hc5) (vs := [.int l6]) (st := []) (by decide) rfl rfl (by decide +kernel) hC ?_
      show F S D5 24 [some (.ref l0), some (.int l1), some (.int l2), some (.int l3), some (.int l4), some (.int l5), some (.int l6), none, none] [.int v5]
      refine ev_blk hX lkok_RX3 [(.istore 7, 2, 0, 0, 0), (.aload_n 0, 1, 0, 0, 0), (.iload 6, 2, 0, 0, 0)] (by decide +kernel) (g := true) (lv' := [some (.ref l0), some (.int l1), some (.int l2), some (.int l3), some (.int l4), some (.int l5), some (.int l6), some (.int v5), none]) (st' := [.int l6, .ref l0]) (D' := D5) (pc' := 29) rfl (rfl) rfl ?_
      obtain ⟨v6, D6, hc6, hf⟩ := ev_bd_s hf
      refine ev_callV hX YX3_heavyOf ml_RX3_151 (mX3_heavyOf hT hl0 hc6) (vs := [.int l6]) (st := []) (by decide) 3 hl0 rfl rfl rfl (by decide +kernel) hC ?_
      show F S D6 32 [some (.ref l0), some (.int l1), some (.int l2), some (.int l3), some (.int l4), some (.int l5), some (.int l6), some (.int v5), none] [.int v6]
      refine ev_blk hX lkok_RX3 [(.istore 8, 2, 0, 0, 0), (.iload 8, 2, 0, 0, 0), (.iload_n 1, 1, 0, 0, 0)] (by decide +kernel) (g := true) (lv' := [some (.ref l0), some (.int l1), some (.int l2), some (.int l3), some (.int l4), some (.int l5), some (.int l6), some (.int v5), some (.int v6)]) (st' := [.int l1, .int v6]) (D' := D6) (pc' := 37) rfl (rfl) rfl ?_
      refine ev_ic_gt hX (off := 48) 85 (by decide +kernel) (by decide) (fun h7 => ?_) (fun h7 => ?_)
      · have hf := ev_it h7 hf
        refine ev_blk hX lkok_RX3 [(.iinc 6 1, 3, 0, 0, 1)] (by decide +kernel) (g := true) (lv' := [some (.ref l0), some (.int l1), some (.int l2), some (.int l3), some (.int l4), some (.int l5), some (.int (l6 + (1 : Int32))), some (.int v5), some (.int v6)]) (st' := []) (D' := D6) (pc' := 88) rfl (rfl) rfl ?_
        refine ev_goto hX (off := (-77)) 11 (by decide +kernel) (by decide) ?_
        exact ev_weak hX (ev_le_eq (ev_le_eq (ev_le_eq (ev_le_eq (ev_le_eq (ev_le_eq (ev_le_eq (ev_le_no (ev_le_no ev_le_nil))))))))) (ih _ _ _ _ _ _ _ _ hl0 hf)
      · have hf := ev_nf h7 hf
        refine ev_blk hX lkok_RX3 [(.iload 7, 2, 0, 0, 0), (.iload_n 3, 1, 0, 0, 0)] (by decide +kernel) (g := true) (lv' := [some (.ref l0), some (.int l1), some (.int l2), some (.int l3), some (.int l4), some (.int l5), some (.int l6), some (.int v5), some (.int v6)]) (st' := [.int l3, .int v5]) (D' := D6) (pc' := 43) rfl (rfl) rfl ?_
        refine ev_ic_lt hX (off := 42) 85 (by decide +kernel) (by decide) (fun h8 => ?_) (fun h8 => ?_)
        · have hf := ev_it h8 hf
          refine ev_blk hX lkok_RX3 [(.iinc 6 1, 3, 0, 0, 1)] (by decide +kernel) (g := true) (lv' := [some (.ref l0), some (.int l1), some (.int l2), some (.int l3), some (.int l4), some (.int l5), some (.int (l6 + (1 : Int32))), some (.int v5), some (.int v6)]) (st' := []) (D' := D6) (pc' := 88) rfl (rfl) rfl ?_
          refine ev_goto hX (off := (-77)) 11 (by decide +kernel) (by decide) ?_
          exact ev_weak hX (ev_le_eq (ev_le_eq (ev_le_eq (ev_le_eq (ev_le_eq (ev_le_eq (ev_le_eq (ev_le_no (ev_le_no ev_le_nil))))))))) (ih _ _ _ _ _ _ _ _ hl0 hf)
        · have hf := ev_nf h8 hf
          refine ev_blk hX lkok_RX3 [(.iload 7, 2, 0, 0, 0), (.iload_n 3, 1, 0, 0, 0)] (by decide +kernel) (g := true) (lv' := [some (.ref l0), some (.int l1), some (.int l2), some (.int l3), some (.int l4), some (.int l5), some (.int l6), some (.int v5), some (.int v6)]) (st' := [.int l3, .int v5]) (D' := D6) (pc' := 49) rfl (rfl) rfl ?_
          refine ev_ic_le hX (off := 8) 57 (by decide +kernel) (by decide) (fun h9 => ?_) (fun h9 => ?_)
          · have hf := ev_it h9 hf
            refine ev_blk hX lkok_RX3 [(.iload 5, 2, 0, 0, 0), (.iload 8, 2, 0, 0, 0)] (by decide +kernel) (g := true) (lv' := [some (.ref l0), some (.int l1), some (.int l2), some (.int l3), some (.int l4), some (.int l5), some (.int l6), some (.int v5), some (.int v6)]) (st' := [.int v6, .int l5]) (D' := D6) (pc' := 61) rfl (rfl) rfl ?_
            obtain ⟨v10, D10, hc10, hf⟩ := ev_bd_s hf
            refine ev_callS hX YJ9_max ml_RX3_102 (mJ9_max hT  hc10) (vs := [.int l5, .int v6]) (st := []) (by decide) rfl rfl (by decide +kernel) hC ?_
            show F S D10 64 [some (.ref l0), some (.int l1), some (.int l2), some (.int l3), some (.int l4), some (.int l5), some (.int l6), some (.int v5), some (.int v6)] [.int v10]
            exact ev_weak hX (ev_le_eq (ev_le_eq (ev_le_eq (ev_le_eq (ev_le_eq (ev_le_no (ev_le_eq (ev_le_eq (ev_le_no ev_le_nil))))))))) (tX3_borne_64 hR hT hC  ih hl0 hf)
          · have hf := ev_nf h9 hf
            refine ev_blk hX lkok_RX3 [(.iload 8, 2, 0, 0, 0)] (by decide +kernel) (g := true) (lv' := [some (.ref l0), some (.int l1), some (.int l2), some (.int l3), some (.int l4), some (.int l5), some (.int l6), some (.int v5), some (.int v6)]) (st' := [.int v6]) (D' := D6) (pc' := 54) rfl (rfl) rfl ?_
            refine ev_goto hX (off := 10) 64 (by decide +kernel) (by decide) ?_
            exact ev_weak hX (ev_le_eq (ev_le_eq (ev_le_eq (ev_le_eq (ev_le_eq (ev_le_no (ev_le_eq (ev_le_eq (ev_le_no ev_le_nil))))))))) (tX3_borne_64 hR hT hC  ih hl0 hf)
set_option maxHeartbeats 4000000 in
set_option maxRecDepth 100000 in
theorem tX3_borne {S : ev_S} {fu : Nat} {r : Int32 × ev_D} {F : ev_Fr} (hR : ev_R RX3 cX3_borne 9 2 0 0 false (some .int) S r F) (hT : ev_Ty S) (hC : sC S ≤ 0 ∧ sA S ≤ 0) {l0 : Nat} {l1 : Int32} {l2 : Int32} {D : ev_D} (hl0 : sK S l0 = 6) (hf : fX3_borne (sL S) (sE S) fu l0 l1 l2 D = some r) : F S D 0 [some (.ref l0), some (.int l1), some (.int l2), none, none, none, none, none, none] [] := by
  have hX := hR.X
  unfold fX3_borne at hf
  refine ev_blk hX lkok_RX3 [(.iconst 0, 1, 0, 0, 0), (.istore_n 3, 1, 0, 0, 0), (.iconst 0, 1, 0, 0, 0), (.istore 4, 2, 0, 0, 0), (.iconst 0, 1, 0, 0, 0), (.istore 5, 2, 0, 0, 0), (.iconst 0, 1, 0, 0, 0), (.istore 6, 2, 0, 0, 0)] (by decide +kernel) (g := true) (lv' := [some (.ref l0), some (.int l1), some (.int l2), some (.int (0 : Int32)), some (.int (0 : Int32)), some (.int (0 : Int32)), some (.int (0 : Int32)), none, none]) (st' := []) (D' := D) (pc' := 11) rfl (rfl) rfl ?_
  exact ev_weak hX (ev_le_eq (ev_le_eq (ev_le_eq (ev_le_eq (ev_le_eq (ev_le_eq (ev_le_eq (ev_le_no (ev_le_no ev_le_nil))))))))) (tX3_borne_11 hR hT hC   fu _ _ _ _ _ _ _ _ hl0 hf)
theorem mX3_borne {S : ev_S} {fu : Nat} {r : Int32 × ev_D} (hT : ev_Ty S) {l0 : Nat} {l1 : Int32} {l2 : Int32} {D : ev_D} (hl0 : sK S l0 = 6) (hf : fX3_borne (sL S) (sE S) fu l0 l1 l2 D = some r) : ev_M 2 0 0 yX3_borne cX3_borne 9 (some .int) [.ref l0, .int l1, .int l2] S D S r :=
  ev_met (ini := false) (plainFor_of_name (by decide)) (fun h => by cases h) rfl (Nat.le_of_ble_eq_true rfl) (fun F hR => tX3_borne (S := ev_z S) hR hT ⟨Nat.le_refl 0, Nat.le_refl 0⟩ hl0 hf)
set_option maxHeartbeats 4000000 in
set_option maxRecDepth 100000 in
theorem tX11_bears {S : ev_S} {fu : Nat} {r : Int32 × ev_D} {F : ev_Fr} (hR : ev_R RX11 cX11_bears 3 3 0 0 false (some .int) S r F) (hT : ev_Ty S) (hC : sC S ≤ 0 ∧ sA S ≤ 0) {l0 : Nat} {l1 : Int32} {l2 : Int32} {D : ev_D} (hl0 : sK S l0 = 14) (hf : fX11_bears (sL S) (sE S) fu l0 l1 l2 D = some r) : F S D 0 [some (.ref l0), some (.int l1), some (.int l2)] [] := by
  have hX := hR.X
  unfold fX11_bears at hf
  refine ev_blk hX lkok_RX11 [(.iload_n 1, 1, 0, 0, 0), (.iconst 1, 1, 0, 0, 1), (.sipush 800, 3, 0, 0, 800)] (by decide +kernel) (g := true) (lv' := [some (.ref l0), some (.int l1), some (.int l2)]) (st' := [.int (800 : Int32), .int (1 : Int32), .int l1]) (D' := D) (pc' := 5) rfl (rfl) rfl ?_
  obtain ⟨v1, D1, hc1, hf⟩ := ev_bd_s hf
  refine ev_callS hX YX11_within ml_RX11_85 (mX11_within hT  hc1) (vs := [.int l1, .int (1 : Int32), .int (800 : Int32)]) (st := []) (by decide) rfl rfl (by decide +kernel) hC ?_
  show F S D1 8 [some (.ref l0), some (.int l1), some (.int l2)] [.int v1]
  refine ev_if_eq hX (off := 24) 32 (by decide +kernel) (by decide) (fun h2 => ?_) (fun h2 => ?_)
  · have hf := ev_it h2 hf
    refine ev_blk hX lkok_RX11 [(.iconst (-1), 1, 0, 0, (-1))] (by decide +kernel) (g := true) (lv' := [some (.ref l0), some (.int l1), some (.int l2)]) (st' := [.int (-1 : Int32)]) (D' := D1) (pc' := 33) rfl (rfl) rfl ?_
    exact ev_iret hR ev_sm.rf (Option.some.inj hf) hC (by decide +kernel)
  · have hf := ev_nf h2 hf
    refine ev_blk hX lkok_RX11 [(.iload_n 2, 1, 0, 0, 0), (.iconst 0, 1, 0, 0, 0), (.iconst 2, 1, 0, 0, 2)] (by decide +kernel) (g := true) (lv' := [some (.ref l0), some (.int l1), some (.int l2)]) (st' := [.int (2 : Int32), .int (0 : Int32), .int l2]) (D' := D1) (pc' := 14) rfl (rfl) rfl ?_
    obtain ⟨v3, D3, hc3, hf⟩ := ev_bd_s hf
    refine ev_callS hX YX11_within ml_RX11_85 (mX11_within hT  hc3) (vs := [.int l2, .int (0 : Int32), .int (2 : Int32)]) (st := []) (by decide) rfl rfl (by decide +kernel) hC ?_
    show F S D3 17 [some (.ref l0), some (.int l1), some (.int l2)] [.int v3]
    refine ev_if_eq hX (off := 15) 32 (by decide +kernel) (by decide) (fun h4 => ?_) (fun h4 => ?_)
    · have hf := ev_it h4 hf
      refine ev_blk hX lkok_RX11 [(.iconst (-1), 1, 0, 0, (-1))] (by decide +kernel) (g := true) (lv' := [some (.ref l0), some (.int l1), some (.int l2)]) (st' := [.int (-1 : Int32)]) (D' := D3) (pc' := 33) rfl (rfl) rfl ?_
      exact ev_iret hR ev_sm.rf (Option.some.inj hf) hC (by decide +kernel)
    · have hf := ev_nf h4 hf
      refine ev_blk hX lkok_RX11 [(.aload_n 0, 1, 0, 0, 0), (.getfield 71, 3, 11, 5, 0), (.iload_n 1, 1, 0, 0, 0), (.iload_n 2, 1, 0, 0, 0)] (by decide +kernel) (g := (sK S l0 == 14) && (true)) (lv' := [some (.ref l0), some (.int l1), some (.int l2)]) (st' := [.int l2, .int l1, .ref ((sE S) l0 5)]) (D' := D3) (pc' := 26) rfl (ev_gk hl0 (rfl)) rfl ?_
      obtain ⟨v5, D5, hc5, hf⟩ := ev_bd_s hf
      refine ev_callV hX YX3_borne ml_RX11_276 (mX3_borne hT (ev_tyk hT hl0 rfl rfl) hc5) (vs := [.int l1, .int l2]) (st := []) (by decide) 3 (ev_tyk hT hl0 rfl rfl) rfl rfl rfl (by decide +kernel) hC ?_
      show F S D5 29 [some (.ref l0), some (.int l1), some (.int l2)] [.int v5]
      refine ev_goto hX (off := 4) 33 (by decide +kernel) (by decide) ?_
      exact ev_iret hR ev_sm.rf (Option.some.inj hf) hC (by decide +kernel)
theorem mX11_bears {S : ev_S} {fu : Nat} {r : Int32 × ev_D} (hT : ev_Ty S) {l0 : Nat} {l1 : Int32} {l2 : Int32} {D : ev_D} (hl0 : sK S l0 = 14) (hf : fX11_bears (sL S) (sE S) fu l0 l1 l2 D = some r) : ev_M 3 0 0 yX11_bears cX11_bears 3 (some .int) [.ref l0, .int l1, .int l2] S D S r :=
  ev_met (ini := false) (plainFor_of_name (by decide)) (fun h => by cases h) rfl (Nat.le_of_ble_eq_true rfl) (fun F hR => tX11_bears (S := ev_z S) hR hT ⟨Nat.le_refl 0, Nat.le_refl 0⟩ hl0 hf)
set_option maxHeartbeats 4000000 in
set_option maxRecDepth 100000 in
theorem tX11_pigeon {S : ev_S} {fu : Nat} {r : Int32 × ev_D} {F : ev_Fr} (hR : ev_R RX11 cX11_pigeon 3 1 0 0 false (some .int) S r F) (hT : ev_Ty S) (hC : sC S ≤ 0 ∧ sA S ≤ 0) {l0 : Nat} {l1 : Int32} {D : ev_D} (hl0 : sK S l0 = 14) (hf : fX11_pigeon (sL S) (sE S) fu l0 l1 D = some r) : F S D 0 [some (.ref l0), some (.int l1), none] [] := by
  have hX := hR.X
  unfold fX11_pigeon at hf
  refine ev_blk hX lkok_RX11 [(.aload_n 0, 1, 0, 0, 0), (.getfield 10, 3, 11, 0, 0), (.getfield 64, 3, 10, 3, 0), (.getfield 279, 3, 8, 3, 0), (.astore_n 2, 1, 0, 0, 0), (.iload_n 1, 1, 0, 0, 0), (.iconst (-1), 1, 0, 0, (-1))] (by decide +kernel) (g := (sK S l0 == 14) && ((sK S ((sE S) l0 0) == 13) && ((sK S ((sE S) ((sE S) l0 0) 3) == 11) && (true)))) (lv' := [some (.ref l0), some (.int l1), some (.ref ((sE S) ((sE S) ((sE S) l0 0) 3) 3))]) (st' := [.int (-1 : Int32), .int l1]) (D' := D) (pc' := 13) rfl (ev_gk hl0 (ev_gk (ev_tyk hT hl0 rfl rfl) (ev_gk (ev_tyk hT (ev_tyk hT hl0 rfl rfl) rfl rfl) (rfl)))) rfl ?_
  refine ev_ic_ne hX (off := 8) 21 (by decide +kernel) (by decide) (fun h1 => ?_) (fun h1 => ?_)
  · have hf := ev_nf h1 hf
    refine ev_blk hX lkok_RX11 [(.iload_n 1, 1, 0, 0, 0), (.iconst 0, 1, 0, 0, 0), (.bipush 99, 2, 0, 0, 99)] (by decide +kernel) (g := true) (lv' := [some (.ref l0), some (.int l1), some (.ref ((sE S) ((sE S) ((sE S) l0 0) 3) 3))]) (st' := [.int (99 : Int32), .int (0 : Int32), .int l1]) (D' := D) (pc' := 25) rfl (rfl) rfl ?_
    obtain ⟨v2, D2, hc2, hf⟩ := ev_bd_s hf
    refine ev_callS hX YX11_within ml_RX11_85 (mX11_within hT  hc2) (vs := [.int l1, .int (0 : Int32), .int (99 : Int32)]) (st := []) (by decide) rfl rfl (by decide +kernel) hC ?_
    show F S D2 28 [some (.ref l0), some (.int l1), some (.ref ((sE S) ((sE S) ((sE S) l0 0) 3) 3))] [.int v2]
    refine ev_if_eq hX (off := 13) 41 (by decide +kernel) (by decide) (fun h3 => ?_) (fun h3 => ?_)
    · have hf := ev_it h3 hf
      refine ev_blk hX lkok_RX11 [(.iconst (-1), 1, 0, 0, (-1))] (by decide +kernel) (g := true) (lv' := [some (.ref l0), some (.int l1), some (.ref ((sE S) ((sE S) ((sE S) l0 0) 3) 3))]) (st' := [.int (-1 : Int32)]) (D' := D2) (pc' := 42) rfl (rfl) rfl ?_
      exact ev_iret hR ev_sm.rf (Option.some.inj hf) hC (by decide +kernel)
    · have hf := ev_nf h3 hf
      refine ev_blk hX lkok_RX11 [(.aload_n 2, 1, 0, 0, 0), (.iload_n 1, 1, 0, 0, 0), (.iconst 0, 1, 0, 0, 0), (.iconst 0, 1, 0, 0, 0)] (by decide +kernel) (g := true) (lv' := [some (.ref l0), some (.int l1), some (.ref ((sE S) ((sE S) ((sE S) l0 0) 3) 3))]) (st' := [.int (0 : Int32), .int (0 : Int32), .int l1, .ref ((sE S) ((sE S) ((sE S) l0 0) 3) 3)]) (D' := D2) (pc' := 35) rfl (rfl) rfl ?_
      obtain ⟨v4, D4, hc4, hf⟩ := ev_bd_s hf
      refine ev_callV hX YX6_add ml_RX11_240 (mX6_add hT (ev_tyk hT (ev_tyk hT (ev_tyk hT hl0 rfl rfl) rfl rfl) rfl rfl) hc4) (vs := [.int l1, .int (0 : Int32), .int (0 : Int32)]) (st := []) (by decide) 6 (ev_tyk hT (ev_tyk hT (ev_tyk hT hl0 rfl rfl) rfl rfl) rfl rfl) rfl rfl rfl (by decide +kernel) hC ?_
      show F S D4 38 [some (.ref l0), some (.int l1), some (.ref ((sE S) ((sE S) ((sE S) l0 0) 3) 3))] [.int v4]
      refine ev_goto hX (off := 4) 42 (by decide +kernel) (by decide) ?_
      exact ev_iret hR ev_sm.rf (Option.some.inj hf) hC (by decide +kernel)
  · have hf := ev_it h1 hf
    refine ev_blk hX lkok_RX11 [(.aload_n 2, 1, 0, 0, 0)] (by decide +kernel) (g := true) (lv' := [some (.ref l0), some (.int l1), some (.ref ((sE S) ((sE S) ((sE S) l0 0) 3) 3))]) (st' := [.ref ((sE S) ((sE S) ((sE S) l0 0) 3) 3)]) (D' := D) (pc' := 17) rfl (rfl) rfl ?_
    obtain ⟨v5, D5, hc5, hf⟩ := ev_bd_s hf
    refine ev_callV hX YX6_empty ml_RX11_234 (mX6_empty hT (ev_tyk hT (ev_tyk hT (ev_tyk hT hl0 rfl rfl) rfl rfl) rfl rfl) hc5) (vs := []) (st := []) (by decide) 6 (ev_tyk hT (ev_tyk hT (ev_tyk hT hl0 rfl rfl) rfl rfl) rfl rfl) rfl rfl rfl (by decide +kernel) hC ?_
    show F S D5 20 [some (.ref l0), some (.int l1), some (.ref ((sE S) ((sE S) ((sE S) l0 0) 3) 3))] [.int v5]
    exact ev_iret hR ev_sm.rf (Option.some.inj hf) hC (by decide +kernel)
theorem mX11_pigeon {S : ev_S} {fu : Nat} {r : Int32 × ev_D} (hT : ev_Ty S) {l0 : Nat} {l1 : Int32} {D : ev_D} (hl0 : sK S l0 = 14) (hf : fX11_pigeon (sL S) (sE S) fu l0 l1 D = some r) : ev_M 1 0 0 yX11_pigeon cX11_pigeon 3 (some .int) [.ref l0, .int l1] S D S r :=
  ev_met (ini := false) (plainFor_of_name (by decide)) (fun h => by cases h) rfl (Nat.le_of_ble_eq_true rfl) (fun F hR => tX11_pigeon (S := ev_z S) hR hT ⟨Nat.le_refl 0, Nat.le_refl 0⟩ hl0 hf)
