set_option maxHeartbeats 4000000 in
set_option maxRecDepth 100000 in
theorem tX3_bestHours_32 {S : ev_S} {fu : Nat} {r : Int32 × ev_D} {F : ev_Fr} (hR : ev_R RX3 cX3_bestHours 9 1 0 0 false (some .int) S r F) (hT : ev_Ty S) (hC : sC S ≤ 0 ∧ sA S ≤ 0) {k20 : Nat → Int32 → Int32 → Int32 → Int32 → Int32 → Int32 → ev_D → ev_Op} (hk20 : ∀ (l0 : Nat) (l1 : Int32) (l2 : Int32) (l3 : Int32) (l4 : Int32) (l5 : Int32) (l6 : Int32) (D : ev_D), sK S l0 = 6 → k20 l0 l1 l2 l3 l4 l5 l6 D = some r → F S D 20 [some (.ref l0), some (.int l1), some (.int l2), some (.int l3), some (.int l4), some (.int l5), some (.int l6), none, none] []) : ∀ (n : Nat) (l0 : Nat) (l1 : Int32) (l2 : Int32) (l3 : Int32) (l4 : Int32) (l5 : Int32) (l6 : Int32) (l7 : Int32) (l8 : Int32) (D : ev_D), sK S l0 = 6 → fX3_bestHours_32 (sL S) (sE S) fu k20 n l0 l1 l2 l3 l4 l5 l6 l7 l8 D = some r → F S D 32 [some (.ref l0), some (.int l1), some (.int l2), some (.int l3), some (.int l4), some (.int l5), some (.int l6), some (.int l7), some (.int l8)] [] := by
  have hX := hR.X
  intro n
  induction n with
  | zero =>
    intro l0 l1 l2 l3 l4 l5 l6 l7 l8 D hl0 hf
    rw [fX3_bestHours_32] at hf
    cases hf
  | succ n ih =>
    intro l0 l1 l2 l3 l4 l5 l6 l7 l8 D hl0 hf
    rw [fX3_bestHours_32] at hf
    refine ev_blk hX lkok_RX3 [(.iload 8, 2, 0, 0, 0), (.iload_n 1, 1, 0, 0, 0)] (by decide +kernel) (g := true) (lv' := [some (.ref l0), some (.int l1), some (.int l2), some (.int l3), some (.int l4), some (.int l5), some (.int l6), some (.int l7), some (.int l8)]) (st' := [.int l1, .int l8]) (D' := D) (pc' := 35) rfl (rfl) rfl ?_
    refine ev_ic_ge hX (off := 32) 67 (by decide +kernel) (by decide) (fun h1 => ?_) (fun h1 => ?_)
    · have hf := ev_it h1 hf
      refine ev_blk hX lkok_RX3 [(.iload 7, 2, 0, 0, 0), (.iload 4, 2, 0, 0, 0)] (by decide +kernel) (g := true) (lv' := [some (.ref l0), some (.int l1), some (.int l2), some (.int l3), some (.int l4), some (.int l5), some (.int l6), some (.int l7), some (.int l8)]) (st' := [.int l4, .int l7]) (D' := D) (pc' := 71) rfl (rfl) rfl ?_
      refine ev_ic_le hX (off := 11) 82 (by decide +kernel) (by decide) (fun h2 => ?_) (fun h2 => ?_)
      · have hf := ev_it h2 hf
        refine ev_blk hX lkok_RX3 [(.iinc 6 1, 3, 0, 0, 1)] (by decide +kernel) (g := true) (lv' := [some (.ref l0), some (.int l1), some (.int l2), some (.int l3), some (.int l4), some (.int l5), some (.int (l6 + (1 : Int32))), some (.int l7), some (.int l8)]) (st' := []) (D' := D) (pc' := 85) rfl (rfl) rfl ?_
        refine ev_goto hX (off := (-65)) 20 (by decide +kernel) (by decide) ?_
        exact ev_weak hX (ev_le_eq (ev_le_eq (ev_le_eq (ev_le_eq (ev_le_eq (ev_le_eq (ev_le_eq (ev_le_no (ev_le_no ev_le_nil))))))))) (hk20 _ _ _ _ _ _ _ _ hl0 hf)
      · have hf := ev_nf h2 hf
        refine ev_blk hX lkok_RX3 [(.iload 7, 2, 0, 0, 0), (.istore 4, 2, 0, 0, 0), (.iload 6, 2, 0, 0, 0), (.istore 5, 2, 0, 0, 0), (.iinc 6 1, 3, 0, 0, 1)] (by decide +kernel) (g := true) (lv' := [some (.ref l0), some (.int l1), some (.int l2), some (.int l3), some (.int l7), some (.int l6), some (.int (l6 + (1 : Int32))), some (.int l7), some (.int l8)]) (st' := []) (D' := D) (pc' := 85) rfl (rfl) rfl ?_
        refine ev_goto hX (off := (-65)) 20 (by decide +kernel) (by decide) ?_
        exact ev_weak hX (ev_le_eq (ev_le_eq (ev_le_eq (ev_le_eq (ev_le_eq (ev_le_eq (ev_le_eq (ev_le_no (ev_le_no ev_le_nil))))))))) (hk20 _ _ _ _ _ _ _ _ hl0 hf)
    · have hf := ev_nf h1 hf
      obtain ⟨hg4, hf⟩ := ev_gd_s hf
      refine ev_blk hX lkok_RX3 [(.iload 7, 2, 0, 0, 0), (.aload_n 0, 1, 0, 0, 0), (.getfield 41, 3, 3, 2, 0), (.getfield 154, 3, 8, 3, 0), (.iload 6, 2, 0, 0, 0), (.iload 8, 2, 0, 0, 0), (.iadd, 1, 0, 0, 0), (.iload_n 3, 1, 0, 0, 0), (.irem, 1, 0, 0, 0), (.iconst 0, 1, 0, 0, 0)] (by decide +kernel) (g := (sK S l0 == 6) && ((sK S ((sE S) l0 2) == 11) && ((!(decide (l3 = 0))) && (true)))) (lv' := [some (.ref l0), some (.int l1), some (.int l2), some (.int l3), some (.int l4), some (.int l5), some (.int l6), some (.int l7), some (.int l8)]) (st' := [.int (0 : Int32), .int ((l6 + l8) - (l6 + l8) / l3 * l3), .ref ((sE S) ((sE S) l0 2) 3), .int l7]) (D' := D) (pc' := 55) rfl (ev_gk hl0 (ev_gk (ev_tyk hT hl0 rfl rfl) (ev_g2 hg4 (rfl)))) rfl ?_
      obtain ⟨v3, D3, hc3, hf⟩ := ev_bd_s hf
      refine ev_callV hX YX6_cell ml_RX3_61 (mX6_cell hT (ev_tyk hT (ev_tyk hT hl0 rfl rfl) rfl rfl) hc3) (vs := [.int ((l6 + l8) - (l6 + l8) / l3 * l3), .int (0 : Int32)]) (st := [.int l7]) (by decide) 6 (ev_tyk hT (ev_tyk hT hl0 rfl rfl) rfl rfl) rfl rfl rfl (by decide +kernel) hC ?_
      show F S D3 58 [some (.ref l0), some (.int l1), some (.int l2), some (.int l3), some (.int l4), some (.int l5), some (.int l6), some (.int l7), some (.int l8)] [.int v3, .int l7]
      refine ev_blk hX lkok_RX3 [(.iadd, 1, 0, 0, 0), (.istore 7, 2, 0, 0, 0), (.iinc 8 1, 3, 0, 0, 1)] (by decide +kernel) (g := true) (lv' := [some (.ref l0), some (.int l1), some (.int l2), some (.int l3), some (.int l4), some (.int l5), some (.int l6), some (.int (l7 + v3)), some (.int (l8 + (1 : Int32)))]) (st' := []) (D' := D3) (pc' := 64) rfl (rfl) rfl ?_
      refine ev_goto hX (off := (-32)) 32 (by decide +kernel) (by decide) ?_
      exact ev_weak hX (ev_le_eq (ev_le_eq (ev_le_eq (ev_le_eq (ev_le_eq (ev_le_eq (ev_le_eq (ev_le_eq (ev_le_eq ev_le_nil))))))))) (ih _ _ _ _ _ _ _ _ _ _ hl0 hf)
set_option maxHeartbeats 4000000 in
set_option maxRecDepth 100000 in
theorem tX3_bestHours_20 {S : ev_S} {fu : Nat} {r : Int32 × ev_D} {F : ev_Fr} (hR : ev_R RX3 cX3_bestHours 9 1 0 0 false (some .int) S r F) (hT : ev_Ty S) (hC : sC S ≤ 0 ∧ sA S ≤ 0) : ∀ (n : Nat) (l0 : Nat) (l1 : Int32) (l2 : Int32) (l3 : Int32) (l4 : Int32) (l5 : Int32) (l6 : Int32) (D : ev_D), sK S l0 = 6 → fX3_bestHours_20 (sL S) (sE S) fu n l0 l1 l2 l3 l4 l5 l6 D = some r → F S D 20 [some (.ref l0), some (.int l1), some (.int l2), some (.int l3), some (.int l4), some (.int l5), some (.int l6), none, none] [] := by
  have hX := hR.X
  intro n
  induction n with
  | zero =>
    intro l0 l1 l2 l3 l4 l5 l6 D hl0 hf
    rw [fX3_bestHours_20] at hf
    cases hf
  | succ n ih =>
    intro l0 l1 l2 l3 l4 l5 l6 D hl0 hf
    rw [fX3_bestHours_20] at hf
    refine ev_blk hX lkok_RX3 [(.iload 6, 2, 0, 0, 0), (.iload_n 3, 1, 0, 0, 0)] (by decide +kernel) (g := true) (lv' := [some (.ref l0), some (.int l1), some (.int l2), some (.int l3), some (.int l4), some (.int l5), some (.int l6), none, none]) (st' := [.int l3, .int l6]) (D' := D) (pc' := 23) rfl (rfl) rfl ?_
    refine ev_ic_ge hX (off := 65) 88 (by decide +kernel) (by decide) (fun h5 => ?_) (fun h5 => ?_)
    · have hf := ev_it h5 hf
      refine ev_blk hX lkok_RX3 [(.iload_n 2, 1, 0, 0, 0)] (by decide +kernel) (g := true) (lv' := [some (.ref l0), some (.int l1), some (.int l2), some (.int l3), some (.int l4), some (.int l5), some (.int l6), none, none]) (st' := [.int l2]) (D' := D) (pc' := 89) rfl (rfl) rfl ?_
      refine ev_if_ne hX (off := 8) 97 (by decide +kernel) (by decide) (fun h6 => ?_) (fun h6 => ?_)
      · have hf := ev_nf h6 hf
        refine ev_blk hX lkok_RX3 [(.iload 5, 2, 0, 0, 0)] (by decide +kernel) (g := true) (lv' := [some (.ref l0), some (.int l1), some (.int l2), some (.int l3), some (.int l4), some (.int l5), some (.int l6), none, none]) (st' := [.int l5]) (D' := D) (pc' := 99) rfl (rfl) rfl ?_
        exact ev_iret hR ev_sm.rf (Option.some.inj hf) hC (by decide +kernel)
      · have hf := ev_it h6 hf
        refine ev_blk hX lkok_RX3 [(.iload 4, 2, 0, 0, 0)] (by decide +kernel) (g := true) (lv' := [some (.ref l0), some (.int l1), some (.int l2), some (.int l3), some (.int l4), some (.int l5), some (.int l6), none, none]) (st' := [.int l4]) (D' := D) (pc' := 94) rfl (rfl) rfl ?_
        refine ev_goto hX (off := 5) 99 (by decide +kernel) (by decide) ?_
        exact ev_iret hR ev_sm.rf (Option.some.inj hf) hC (by decide +kernel)
    · have hf := ev_nf h5 hf
      refine ev_blk hX lkok_RX3 [(.iconst 0, 1, 0, 0, 0), (.istore 7, 2, 0, 0, 0), (.iconst 0, 1, 0, 0, 0), (.istore 8, 2, 0, 0, 0)] (by decide +kernel) (g := true) (lv' := [some (.ref l0), some (.int l1), some (.int l2), some (.int l3), some (.int l4), some (.int l5), some (.int l6), some (.int (0 : Int32)), some (.int (0 : Int32))]) (st' := []) (D' := D) (pc' := 32) rfl (rfl) rfl ?_
      exact ev_weak hX (ev_le_eq (ev_le_eq (ev_le_eq (ev_le_eq (ev_le_eq (ev_le_eq (ev_le_eq (ev_le_eq (ev_le_eq ev_le_nil))))))))) (tX3_bestHours_32 hR hT hC  ih fu _ _ _ _ _ _ _ _ _ _ hl0 hf)
set_option maxHeartbeats 4000000 in
set_option maxRecDepth 100000 in
theorem tX3_bestHours {S : ev_S} {fu : Nat} {r : Int32 × ev_D} {F : ev_Fr} (hR : ev_R RX3 cX3_bestHours 9 1 0 0 false (some .int) S r F) (hT : ev_Ty S) (hC : sC S ≤ 0 ∧ sA S ≤ 0) {l0 : Nat} {l1 : Int32} {l2 : Int32} {D : ev_D} (hl0 : sK S l0 = 6) (hf : fX3_bestHours (sL S) (sE S) fu l0 l1 l2 D = some r) : F S D 0 [some (.ref l0), some (.int l1), some (.int l2), none, none, none, none, none, none] [] := by
  have hX := hR.X
  unfold fX3_bestHours at hf
  refine ev_blk hX lkok_RX3 [(.aload_n 0, 1, 0, 0, 0), (.getfield 41, 3, 3, 2, 0), (.getfield 154, 3, 8, 3, 0), (.getfield 55, 3, 6, 0, 0), (.istore_n 3, 1, 0, 0, 0), (.iconst (-1), 1, 0, 0, (-1)), (.istore 4, 2, 0, 0, 0), (.iconst (-1), 1, 0, 0, (-1)), (.istore 5, 2, 0, 0, 0), (.iconst 0, 1, 0, 0, 0), (.istore 6, 2, 0, 0, 0)] (by decide +kernel) (g := (sK S l0 == 6) && ((sK S ((sE S) l0 2) == 11) && ((sK S ((sE S) ((sE S) l0 2) 3) == 9) && (true)))) (lv' := [some (.ref l0), some (.int l1), some (.int l2), some (.int (D ((sE S) ((sE S) l0 2) 3) 0)), some (.int (-1 : Int32)), some (.int (-1 : Int32)), some (.int (0 : Int32)), none, none]) (st' := []) (D' := D) (pc' := 20) rfl (ev_gk hl0 (ev_gk (ev_tyk hT hl0 rfl rfl) (ev_gk (ev_tyk hT (ev_tyk hT hl0 rfl rfl) rfl rfl) (rfl)))) rfl ?_
  exact ev_weak hX (ev_le_eq (ev_le_eq (ev_le_eq (ev_le_eq (ev_le_eq (ev_le_eq (ev_le_eq (ev_le_no (ev_le_no ev_le_nil))))))))) (tX3_bestHours_20 hR hT hC   fu _ _ _ _ _ _ _ _ hl0 hf)
theorem mX3_bestHours {S : ev_S} {fu : Nat} {r : Int32 × ev_D} (hT : ev_Ty S) {l0 : Nat} {l1 : Int32} {l2 : Int32} {D : ev_D} (hl0 : sK S l0 = 6) (hf : fX3_bestHours (sL S) (sE S) fu l0 l1 l2 D = some r) : ev_M 1 0 0 yX3_bestHours cX3_bestHours 9 (some .int) [.ref l0, .int l1, .int l2] S D S r :=
  ev_met (ini := false) (plainFor_of_name (by decide)) (fun h => by cases h) rfl (Nat.le_of_ble_eq_true rfl) (fun F hR => tX3_bestHours (S := ev_z S) hR hT ⟨Nat.le_refl 0, Nat.le_refl 0⟩ hl0 hf)
set_option maxHeartbeats 4000000 in
set_option maxRecDepth 100000 in
theorem tX11_best_35 {S : ev_S} {fu : Nat} {r : Int32 × ev_D} {F : ev_Fr} (hR : ev_R RX11 cX11_best 4 2 0 0 false (some .int) S r F) (hT : ev_Ty S) (hC : sC S ≤ 0 ∧ sA S ≤ 0) {l0 : Nat} {l1 : Int32} {l2 : Int32} {s0 : Int32} {D : ev_D} (hl0 : sK S l0 = 14) (hf : fX11_best_35 (sL S) (sE S) fu l0 l1 l2 s0 D = some r) : F S D 35 [some (.ref l0), some (.int l1), some (.int l2), none] [.int s0] := by
  have hX := hR.X
  unfold fX11_best_35 at hf
  refine ev_blk hX lkok_RX11 [(.istore_n 3, 1, 0, 0, 0), (.iload_n 3, 1, 0, 0, 0)] (by decide +kernel) (g := true) (lv' := [some (.ref l0), some (.int l1), some (.int l2), some (.int s0)]) (st' := [.int s0]) (D' := D) (pc' := 37) rfl (rfl) rfl ?_
  refine ev_if_eq hX (off := 15) 52 (by decide +kernel) (by decide) (fun h1 => ?_) (fun h1 => ?_)
  · have hf := ev_it h1 hf
    refine ev_blk hX lkok_RX11 [(.iconst (-1), 1, 0, 0, (-1))] (by decide +kernel) (g := true) (lv' := [some (.ref l0), some (.int l1), some (.int l2), some (.int s0)]) (st' := [.int (-1 : Int32)]) (D' := D) (pc' := 53) rfl (rfl) rfl ?_
    exact ev_iret hR ev_sm.rf (Option.some.inj hf) hC (by decide +kernel)
  · have hf := ev_nf h1 hf
    refine ev_blk hX lkok_RX11 [(.aload_n 0, 1, 0, 0, 0), (.getfield 71, 3, 11, 5, 0), (.iload_n 1, 1, 0, 0, 0), (.iload_n 2, 1, 0, 0, 0)] (by decide +kernel) (g := (sK S l0 == 14) && (true)) (lv' := [some (.ref l0), some (.int l1), some (.int l2), some (.int s0)]) (st' := [.int l2, .int l1, .ref ((sE S) l0 5)]) (D' := D) (pc' := 46) rfl (ev_gk hl0 (rfl)) rfl ?_
    obtain ⟨v2, D2, hc2, hf⟩ := ev_bd_s hf
    refine ev_callV hX YX3_bestHours ml_RX11_285 (mX3_bestHours hT (ev_tyk hT hl0 rfl rfl) hc2) (vs := [.int l1, .int l2]) (st := []) (by decide) 3 (ev_tyk hT hl0 rfl rfl) rfl rfl rfl (by decide +kernel) hC ?_
    show F S D2 49 [some (.ref l0), some (.int l1), some (.int l2), some (.int s0)] [.int v2]
    refine ev_goto hX (off := 4) 53 (by decide +kernel) (by decide) ?_
    exact ev_iret hR ev_sm.rf (Option.some.inj hf) hC (by decide +kernel)
set_option maxHeartbeats 4000000 in
set_option maxRecDepth 100000 in
theorem tX11_best_34 {S : ev_S} {fu : Nat} {r : Int32 × ev_D} {F : ev_Fr} (hR : ev_R RX11 cX11_best 4 2 0 0 false (some .int) S r F) (hT : ev_Ty S) (hC : sC S ≤ 0 ∧ sA S ≤ 0) {l0 : Nat} {l1 : Int32} {l2 : Int32} {D : ev_D} (hl0 : sK S l0 = 14) (hf : fX11_best_34 (sL S) (sE S) fu l0 l1 l2 D = some r) : F S D 34 [some (.ref l0), some (.int l1), some (.int l2), none] [] := by
  have hX := hR.X
  unfold fX11_best_34 at hf
  refine ev_blk hX lkok_RX11 [(.iconst 0, 1, 0, 0, 0)] (by decide +kernel) (g := true) (lv' := [some (.ref l0), some (.int l1), some (.int l2), none]) (st' := [.int (0 : Int32)]) (D' := D) (pc' := 35) rfl (rfl) rfl ?_
  exact ev_weak hX (ev_le_eq (ev_le_eq (ev_le_eq (ev_le_no ev_le_nil)))) (tX11_best_35 hR hT hC   hl0 hf)
set_option maxHeartbeats 4000000 in
set_option maxRecDepth 100000 in
theorem tX11_best {S : ev_S} {fu : Nat} {r : Int32 × ev_D} {F : ev_Fr} (hR : ev_R RX11 cX11_best 4 2 0 0 false (some .int) S r F) (hT : ev_Ty S) (hC : sC S ≤ 0 ∧ sA S ≤ 0) {l0 : Nat} {l1 : Int32} {l2 : Int32} {D : ev_D} (hl0 : sK S l0 = 14) (hf : fX11_best (sL S) (sE S) fu l0 l1 l2 D = some r) : F S D 0 [some (.ref l0), some (.int l1), some (.int l2), none] [] := by
  have hX := hR.X
  unfold fX11_best at hf
  refine ev_blk hX lkok_RX11 [(.iload_n 1, 1, 0, 0, 0), (.iconst 1, 1, 0, 0, 1), (.aload_n 0, 1, 0, 0, 0), (.getfield 10, 3, 11, 0, 0), (.getfield 64, 3, 10, 3, 0), (.getfield 279, 3, 8, 3, 0), (.getfield 282, 3, 6, 0, 0)] (by decide +kernel) (g := (sK S l0 == 14) && ((sK S ((sE S) l0 0) == 13) && ((sK S ((sE S) ((sE S) l0 0) 3) == 11) && ((sK S ((sE S) ((sE S) ((sE S) l0 0) 3) 3) == 9) && (true))))) (lv' := [some (.ref l0), some (.int l1), some (.int l2), none]) (st' := [.int (D ((sE S) ((sE S) ((sE S) l0 0) 3) 3) 0), .int (1 : Int32), .int l1]) (D' := D) (pc' := 15) rfl (ev_gk hl0 (ev_gk (ev_tyk hT hl0 rfl rfl) (ev_gk (ev_tyk hT (ev_tyk hT hl0 rfl rfl) rfl rfl) (ev_gk (ev_tyk hT (ev_tyk hT (ev_tyk hT hl0 rfl rfl) rfl rfl) rfl rfl) (rfl))))) rfl ?_
  obtain ⟨v3, D3, hc3, hf⟩ := ev_bd_s hf
  refine ev_callS hX YX11_within ml_RX11_85 (mX11_within hT  hc3) (vs := [.int l1, .int (1 : Int32), .int (D ((sE S) ((sE S) ((sE S) l0 0) 3) 3) 0)]) (st := []) (by decide) rfl rfl (by decide +kernel) hC ?_
  show F S D3 18 [some (.ref l0), some (.int l1), some (.int l2), none] [.int v3]
  refine ev_if_eq hX (off := 16) 34 (by decide +kernel) (by decide) (fun h4 => ?_) (fun h4 => ?_)
  · have hf := ev_it h4 hf
    exact ev_weak hX (ev_le_eq (ev_le_eq (ev_le_eq (ev_le_no ev_le_nil)))) (tX11_best_34 hR hT hC   hl0 hf)
  · have hf := ev_nf h4 hf
    refine ev_blk hX lkok_RX11 [(.iload_n 2, 1, 0, 0, 0), (.iconst 0, 1, 0, 0, 0), (.iconst 1, 1, 0, 0, 1)] (by decide +kernel) (g := true) (lv' := [some (.ref l0), some (.int l1), some (.int l2), none]) (st' := [.int (1 : Int32), .int (0 : Int32), .int l2]) (D' := D3) (pc' := 24) rfl (rfl) rfl ?_
    obtain ⟨v5, D5, hc5, hf⟩ := ev_bd_s hf
    refine ev_callS hX YX11_within ml_RX11_85 (mX11_within hT  hc5) (vs := [.int l2, .int (0 : Int32), .int (1 : Int32)]) (st := []) (by decide) rfl rfl (by decide +kernel) hC ?_
    show F S D5 27 [some (.ref l0), some (.int l1), some (.int l2), none] [.int v5]
    refine ev_if_eq hX (off := 7) 34 (by decide +kernel) (by decide) (fun h6 => ?_) (fun h6 => ?_)
    · have hf := ev_it h6 hf
      exact ev_weak hX (ev_le_eq (ev_le_eq (ev_le_eq (ev_le_no ev_le_nil)))) (tX11_best_34 hR hT hC   hl0 hf)
    · have hf := ev_nf h6 hf
      refine ev_blk hX lkok_RX11 [(.iconst 1, 1, 0, 0, 1)] (by decide +kernel) (g := true) (lv' := [some (.ref l0), some (.int l1), some (.int l2), none]) (st' := [.int (1 : Int32)]) (D' := D5) (pc' := 31) rfl (rfl) rfl ?_
      refine ev_goto hX (off := 4) 35 (by decide +kernel) (by decide) ?_
      exact ev_weak hX (ev_le_eq (ev_le_eq (ev_le_eq (ev_le_no ev_le_nil)))) (tX11_best_35 hR hT hC   hl0 hf)
theorem mX11_best {S : ev_S} {fu : Nat} {r : Int32 × ev_D} (hT : ev_Ty S) {l0 : Nat} {l1 : Int32} {l2 : Int32} {D : ev_D} (hl0 : sK S l0 = 14) (hf : fX11_best (sL S) (sE S) fu l0 l1 l2 D = some r) : ev_M 2 0 0 yX11_best cX11_best 4 (some .int) [.ref l0, .int l1, .int l2] S D S r :=
  ev_met (ini := false) (plainFor_of_name (by decide)) (fun h => by cases h) rfl (Nat.le_of_ble_eq_true rfl) (fun F hR => tX11_best (S := ev_z S) hR hT ⟨Nat.le_refl 0, Nat.le_refl 0⟩ hl0 hf)
set_option maxHeartbeats 4000000 in
set_option maxRecDepth 100000 in
theorem tX11_stranger {S : ev_S} {fu : Nat} {r : Int32 × ev_D} {F : ev_Fr} (hR : ev_R RX11 cX11_stranger 4 1 0 0 false (some .int) S r F) (hT : ev_Ty S) (hC : sC S ≤ 0 ∧ sA S ≤ 0) {l0 : Nat} {l1 : Int32} {l2 : Int32} {D : ev_D} (hl0 : sK S l0 = 14) (hf : fX11_stranger (sL S) (sE S) fu l0 l1 l2 D = some r) : F S D 0 [some (.ref l0), some (.int l1), some (.int l2), none] [] := by
  have hX := hR.X
  unfold fX11_stranger at hf
  refine ev_blk hX lkok_RX11 [(.aload_n 0, 1, 0, 0, 0), (.getfield 10, 3, 11, 0, 0), (.getfield 64, 3, 10, 3, 0), (.getfield 288, 3, 8, 4, 0), (.astore_n 3, 1, 0, 0, 0), (.iload_n 1, 1, 0, 0, 0), (.iconst (-1), 1, 0, 0, (-1))] (by decide +kernel) (g := (sK S l0 == 14) && ((sK S ((sE S) l0 0) == 13) && ((sK S ((sE S) ((sE S) l0 0) 3) == 11) && (true)))) (lv' := [some (.ref l0), some (.int l1), some (.int l2), some (.ref ((sE S) ((sE S) ((sE S) l0 0) 3) 4))]) (st' := [.int (-1 : Int32), .int l1]) (D' := D) (pc' := 13) rfl (ev_gk hl0 (ev_gk (ev_tyk hT hl0 rfl rfl) (ev_gk (ev_tyk hT (ev_tyk hT hl0 rfl rfl) rfl rfl) (rfl)))) rfl ?_
  refine ev_ic_ne hX (off := 8) 21 (by decide +kernel) (by decide) (fun h1 => ?_) (fun h1 => ?_)
  · have hf := ev_nf h1 hf
    refine ev_blk hX lkok_RX11 [(.iload_n 1, 1, 0, 0, 0), (.iconst 0, 1, 0, 0, 0), (.bipush 9, 2, 0, 0, 9)] (by decide +kernel) (g := true) (lv' := [some (.ref l0), some (.int l1), some (.int l2), some (.ref ((sE S) ((sE S) ((sE S) l0 0) 3) 4))]) (st' := [.int (9 : Int32), .int (0 : Int32), .int l1]) (D' := D) (pc' := 25) rfl (rfl) rfl ?_
    obtain ⟨v2, D2, hc2, hf⟩ := ev_bd_s hf
    refine ev_callS hX YX11_within ml_RX11_85 (mX11_within hT  hc2) (vs := [.int l1, .int (0 : Int32), .int (9 : Int32)]) (st := []) (by decide) rfl rfl (by decide +kernel) hC ?_
    show F S D2 28 [some (.ref l0), some (.int l1), some (.int l2), some (.ref ((sE S) ((sE S) ((sE S) l0 0) 3) 4))] [.int v2]
    refine ev_if_eq hX (off := 18) 46 (by decide +kernel) (by decide) (fun h3 => ?_) (fun h3 => ?_)
    · have hf := ev_it h3 hf
      refine ev_blk hX lkok_RX11 [(.iconst (-1), 1, 0, 0, (-1))] (by decide +kernel) (g := true) (lv' := [some (.ref l0), some (.int l1), some (.int l2), some (.ref ((sE S) ((sE S) ((sE S) l0 0) 3) 4))]) (st' := [.int (-1 : Int32)]) (D' := D2) (pc' := 47) rfl (rfl) rfl ?_
      exact ev_iret hR ev_sm.rf (Option.some.inj hf) hC (by decide +kernel)
    · have hf := ev_nf h3 hf
      refine ev_blk hX lkok_RX11 [(.iload_n 2, 1, 0, 0, 0), (.iconst 0, 1, 0, 0, 0), (.bipush 9, 2, 0, 0, 9)] (by decide +kernel) (g := true) (lv' := [some (.ref l0), some (.int l1), some (.int l2), some (.ref ((sE S) ((sE S) ((sE S) l0 0) 3) 4))]) (st' := [.int (9 : Int32), .int (0 : Int32), .int l2]) (D' := D2) (pc' := 35) rfl (rfl) rfl ?_
      obtain ⟨v4, D4, hc4, hf⟩ := ev_bd_s hf
      refine ev_callS hX YX11_within ml_RX11_85 (mX11_within hT  hc4) (vs := [.int l2, .int (0 : Int32), .int (9 : Int32)]) (st := []) (by decide) rfl rfl (by decide +kernel) hC ?_
      show F S D4 38 [some (.ref l0), some (.int l1), some (.int l2), some (.ref ((sE S) ((sE S) ((sE S) l0 0) 3) 4))] [.int v4]
      refine ev_if_eq hX (off := 8) 46 (by decide +kernel) (by decide) (fun h5 => ?_) (fun h5 => ?_)
      · have hf := ev_it h5 hf
        refine ev_blk hX lkok_RX11 [(.iconst (-1), 1, 0, 0, (-1))] (by decide +kernel) (g := true) (lv' := [some (.ref l0), some (.int l1), some (.int l2), some (.ref ((sE S) ((sE S) ((sE S) l0 0) 3) 4))]) (st' := [.int (-1 : Int32)]) (D' := D4) (pc' := 47) rfl (rfl) rfl ?_
        exact ev_iret hR ev_sm.rf (Option.some.inj hf) hC (by decide +kernel)
      · have hf := ev_nf h5 hf
        refine ev_blk hX lkok_RX11 [(.iload_n 1, 1, 0, 0, 0), (.iload_n 2, 1, 0, 0, 0)] (by decide +kernel) (g := true) (lv' := [some (.ref l0), some (.int l1), some (.int l2), some (.ref ((sE S) ((sE S) ((sE S) l0 0) 3) 4))]) (st' := [.int l2, .int l1]) (D' := D4) (pc' := 43) rfl (rfl) rfl ?_
        refine ev_ic_ne hX (off := 5) 48 (by decide +kernel) (by decide) (fun h6 => ?_) (fun h6 => ?_)
        · have hf := ev_nf h6 hf
          refine ev_blk hX lkok_RX11 [(.aload_n 3, 1, 0, 0, 0), (.iload_n 1, 1, 0, 0, 0), (.iload_n 2, 1, 0, 0, 0), (.iconst 0, 1, 0, 0, 0)] (by decide +kernel) (g := true) (lv' := [some (.ref l0), some (.int l1), some (.int l2), some (.ref ((sE S) ((sE S) ((sE S) l0 0) 3) 4))]) (st' := [.int (0 : Int32), .int l2, .int l1, .ref ((sE S) ((sE S) ((sE S) l0 0) 3) 4)]) (D' := D4) (pc' := 52) rfl (rfl) rfl ?_
          obtain ⟨v7, D7, hc7, hf⟩ := ev_bd_s hf
          refine ev_callV hX YX6_add ml_RX11_240 (mX6_add hT (ev_tyk hT (ev_tyk hT (ev_tyk hT hl0 rfl rfl) rfl rfl) rfl rfl) hc7) (vs := [.int l1, .int l2, .int (0 : Int32)]) (st := []) (by decide) 6 (ev_tyk hT (ev_tyk hT (ev_tyk hT hl0 rfl rfl) rfl rfl) rfl rfl) rfl rfl rfl (by decide +kernel) hC ?_
          show F S D7 55 [some (.ref l0), some (.int l1), some (.int l2), some (.ref ((sE S) ((sE S) ((sE S) l0 0) 3) 4))] [.int v7]
          exact ev_iret hR ev_sm.rf (Option.some.inj hf) hC (by decide +kernel)
        · have hf := ev_it h6 hf
          refine ev_blk hX lkok_RX11 [(.iconst (-1), 1, 0, 0, (-1))] (by decide +kernel) (g := true) (lv' := [some (.ref l0), some (.int l1), some (.int l2), some (.ref ((sE S) ((sE S) ((sE S) l0 0) 3) 4))]) (st' := [.int (-1 : Int32)]) (D' := D4) (pc' := 47) rfl (rfl) rfl ?_
          exact ev_iret hR ev_sm.rf (Option.some.inj hf) hC (by decide +kernel)
  · have hf := ev_it h1 hf
    refine ev_blk hX lkok_RX11 [(.aload_n 3, 1, 0, 0, 0)] (by decide +kernel) (g := true) (lv' := [some (.ref l0), some (.int l1), some (.int l2), some (.ref ((sE S) ((sE S) ((sE S) l0 0) 3) 4))]) (st' := [.ref ((sE S) ((sE S) ((sE S) l0 0) 3) 4)]) (D' := D) (pc' := 17) rfl (rfl) rfl ?_
    obtain ⟨v8, D8, hc8, hf⟩ := ev_bd_s hf
    refine ev_callV hX YX6_empty ml_RX11_234 (mX6_empty hT (ev_tyk hT (ev_tyk hT (ev_tyk hT hl0 rfl rfl) rfl rfl) rfl rfl) hc8) (vs := []) (st := []) (by decide) 6 (ev_tyk hT (ev_tyk hT (ev_tyk hT hl0 rfl rfl) rfl rfl) rfl rfl) rfl rfl rfl (by decide +kernel) hC ?_
    show F S D8 20 [some (.ref l0), some (.int l1), some (.int l2), some (.ref ((sE S) ((sE S) ((sE S) l0 0) 3) 4))] [.int v8]
    exact ev_iret hR ev_sm.rf (Option.some.inj hf) hC (by decide +kernel)
theorem mX11_stranger {S : ev_S} {fu : Nat} {r : Int32 × ev_D} (hT : ev_Ty S) {l0 : Nat} {l1 : Int32} {l2 : Int32} {D : ev_D} (hl0 : sK S l0 = 14) (hf : fX11_stranger (sL S) (sE S) fu l0 l1 l2 D = some r) : ev_M 1 0 0 yX11_stranger cX11_stranger 4 (some .int) [.ref l0, .int l1, .int l2] S D S r :=
  ev_met (ini := false) (plainFor_of_name (by decide)) (fun h => by cases h) rfl (Nat.le_of_ble_eq_true rfl) (fun F hR => tX11_stranger (S := ev_z S) hR hT ⟨Nat.le_refl 0, Nat.le_refl 0⟩ hl0 hf)
set_option maxHeartbeats 4000000 in
set_option maxRecDepth 100000 in
theorem tX3_knowNext_4 {S : ev_S} {fu : Nat} {r : Int32 × ev_D} {F : ev_Fr} (hR : ev_R RX3 cX3_knowNext 4 1 0 0 false (some .int) S r F) (hT : ev_Ty S) (hC : sC S ≤ 0 ∧ sA S ≤ 0) : ∀ (n : Nat) (l0 : Nat) (l1 : Int32) (l2 : Int32) (l3 : Int32) (D : ev_D), sK S l0 = 6 → fX3_knowNext_4 (sL S) (sE S) fu n l0 l1 l2 l3 D = some r → F S D 4 [some (.ref l0), some (.int l1), some (.int l2), some (.int l3)] [] := by
  have hX := hR.X
  intro n
  induction n with
  | zero =>
    intro l0 l1 l2 l3 D hl0 hf
    rw [fX3_knowNext_4] at hf
    cases hf
  | succ n ih =>
    intro l0 l1 l2 l3 D hl0 hf
    rw [fX3_knowNext_4] at hf
    refine ev_blk hX lkok_RX3 [(.iload_n 3, 1, 0, 0, 0), (.bipush 10, 2, 0, 0, 10)] (by decide +kernel) (g := true) (lv' := [some (.ref l0), some (.int l1), some (.int l2), some (.int l3)]) (st' := [.int (10 : Int32), .int l3]) (D' := D) (pc' := 7) rfl (rfl) rfl ?_
    refine ev_ic_ge hX (off := 26) 33 (by decide +kernel) (by decide) (fun h1 => ?_) (fun h1 => ?_)
    · have hf := ev_it h1 hf
      refine ev_blk hX lkok_RX3 [(.iload_n 2, 1, 0, 0, 0)] (by decide +kernel) (g := true) (lv' := [some (.ref l0), some (.int l1), some (.int l2), some (.int l3)]) (st' := [.int l2]) (D' := D) (pc' := 34) rfl (rfl) rfl ?_
      exact ev_iret hR ev_sm.rf (Option.some.inj hf) hC (by decide +kernel)
    · have hf := ev_nf h1 hf
      refine ev_blk hX lkok_RX3 [(.iload_n 1, 1, 0, 0, 0), (.iload_n 3, 1, 0, 0, 0)] (by decide +kernel) (g := true) (lv' := [some (.ref l0), some (.int l1), some (.int l2), some (.int l3)]) (st' := [.int l3, .int l1]) (D' := D) (pc' := 12) rfl (rfl) rfl ?_
      obtain ⟨v2, D2, hc2, hf⟩ := ev_bd_s hf
      refine ev_callSN hX YX11_isIn ml_RX3_64 (mX11_isIn hT  hc2) (vs := [.int l1, .int l3]) (st := []) (by decide) rfl rfl (by decide +kernel) hC ?_
      show F S D2 15 [some (.ref l0), some (.int l1), some (.int l2), some (.int l3)] [.int v2]
      refine ev_if_eq hX (off := 12) 27 (by decide +kernel) (by decide) (fun h3 => ?_) (fun h3 => ?_)
      · have hf := ev_it h3 hf
        refine ev_blk hX lkok_RX3 [(.iinc 3 1, 3, 0, 0, 1)] (by decide +kernel) (g := true) (lv' := [some (.ref l0), some (.int l1), some (.int l2), some (.int (l3 + (1 : Int32)))]) (st' := []) (D' := D2) (pc' := 30) rfl (rfl) rfl ?_
        refine ev_goto hX (off := (-26)) 4 (by decide +kernel) (by decide) ?_
        exact ev_weak hX (ev_le_eq (ev_le_eq (ev_le_eq (ev_le_eq ev_le_nil)))) (ih _ _ _ _ _ hl0 hf)
      · have hf := ev_nf h3 hf
        obtain ⟨hg4, hf⟩ := ev_gd_s hf
        refine ev_blk hX lkok_RX3 [(.iload_n 2, 1, 0, 0, 0), (.aload_n 0, 1, 0, 0, 0), (.getfield 21, 3, 3, 6, 0), (.iload_n 3, 1, 0, 0, 0), (.iaload, 1, 0, 0, 0), (.ior, 1, 0, 0, 0), (.istore_n 2, 1, 0, 0, 0), (.iinc 3 1, 3, 0, 0, 1)] (by decide +kernel) (g := (sK S l0 == 6) && ((sK S ((sE S) l0 6) == 1 && ev_in l3 ((sL S) ((sE S) l0 6))) && (true))) (lv' := [some (.ref l0), some (.int l1), some (.int (l2 ||| (D2 ((sE S) l0 6) (l3).toNatClampNeg))), some (.int (l3 + (1 : Int32)))]) (st' := []) (D' := D2) (pc' := 30) rfl (ev_gk hl0 (ev_gi (ev_tyk hT hl0 rfl rfl) hg4 (rfl))) rfl ?_
        refine ev_goto hX (off := (-26)) 4 (by decide +kernel) (by decide) ?_
        exact ev_weak hX (ev_le_eq (ev_le_eq (ev_le_eq (ev_le_eq ev_le_nil)))) (ih _ _ _ _ _ hl0 hf)
set_option maxHeartbeats 4000000 in
set_option maxRecDepth 100000 in
theorem tX3_knowNext {S : ev_S} {fu : Nat} {r : Int32 × ev_D} {F : ev_Fr} (hR : ev_R RX3 cX3_knowNext 4 1 0 0 false (some .int) S r F) (hT : ev_Ty S) (hC : sC S ≤ 0 ∧ sA S ≤ 0) {l0 : Nat} {l1 : Int32} {D : ev_D} (hl0 : sK S l0 = 6) (hf : fX3_knowNext (sL S) (sE S) fu l0 l1 D = some r) : F S D 0 [some (.ref l0), some (.int l1), none, none] [] := by
  have hX := hR.X
  unfold fX3_knowNext at hf
  refine ev_blk hX lkok_RX3 [(.iload_n 1, 1, 0, 0, 0), (.istore_n 2, 1, 0, 0, 0), (.iconst 0, 1, 0, 0, 0), (.istore_n 3, 1, 0, 0, 0)] (by decide +kernel) (g := true) (lv' := [some (.ref l0), some (.int l1), some (.int l1), some (.int (0 : Int32))]) (st' := []) (D' := D) (pc' := 4) rfl (rfl) rfl ?_
  exact ev_weak hX (ev_le_eq (ev_le_eq (ev_le_eq (ev_le_eq ev_le_nil)))) (tX3_knowNext_4 hR hT hC   fu _ _ _ _ _ hl0 hf)
theorem mX3_knowNext {S : ev_S} {fu : Nat} {r : Int32 × ev_D} (hT : ev_Ty S) {l0 : Nat} {l1 : Int32} {D : ev_D} (hl0 : sK S l0 = 6) (hf : fX3_knowNext (sL S) (sE S) fu l0 l1 D = some r) : ev_M 1 0 0 yX3_knowNext cX3_knowNext 4 (some .int) [.ref l0, .int l1] S D S r :=
  ev_met (ini := false) (plainFor_of_name (by decide)) (fun h => by cases h) rfl (Nat.le_of_ble_eq_true rfl) (fun F hR => tX3_knowNext (S := ev_z S) hR hT ⟨Nat.le_refl 0, Nat.le_refl 0⟩ hl0 hf)
set_option maxHeartbeats 4000000 in
set_option maxRecDepth 100000 in
theorem tX3_news_22 {S : ev_S} {fu : Nat} {r : Int32 × ev_D} {F : ev_Fr} (hR : ev_R RX3 cX3_news 7 2 0 0 false (some .int) S r F) (hT : ev_Ty S) (hC : sC S ≤ 0 ∧ sA S ≤ 0) : ∀ (n : Nat) (l0 : Nat) (l2 : Int32) (l3 : Int32) (l4 : Int32) (l5 : Int32) (D : ev_D), sK S l0 = 6 → fX3_news_22 (sL S) (sE S) fu n l0 l2 l3 l4 l5 D = some r → F S D 22 [some (.ref l0), none, some (.int l2), some (.int l3), some (.int l4), some (.int l5), none] [] := by
  have hX := hR.X
  intro n
  induction n with
  | zero =>
    intro l0 l2 l3 l4 l5 D hl0 hf
    rw [fX3_news_22] at hf
    cases hf
  | succ n ih =>
    intro l0 l2 l3 l4 l5 D hl0 hf
    rw [fX3_news_22] at hf
    refine ev_blk hX lkok_RX3 [(.iload 5, 2, 0, 0, 0), (.bipush 10, 2, 0, 0, 10)] (by decide +kernel) (g := true) (lv' := [some (.ref l0), none, some (.int l2), some (.int l3), some (.int l4), some (.int l5), none]) (st' := [.int (10 : Int32), .int l5]) (D' := D) (pc' := 26) rfl (rfl) rfl ?_
    refine ev_ic_ge hX (off := 28) 54 (by decide +kernel) (by decide) (fun h1 => ?_) (fun h1 => ?_)
    · have hf := ev_it h1 hf
      refine ev_blk hX lkok_RX3 [(.iload_n 2, 1, 0, 0, 0)] (by decide +kernel) (g := true) (lv' := [some (.ref l0), none, some (.int l2), some (.int l3), some (.int l4), some (.int l5), none]) (st' := [.int l2]) (D' := D) (pc' := 55) rfl (rfl) rfl ?_
      refine ev_if_ne hX (off := 8) 63 (by decide +kernel) (by decide) (fun h2 => ?_) (fun h2 => ?_)
      · have hf := ev_nf h2 hf
        refine ev_blk hX lkok_RX3 [(.iload_n 3, 1, 0, 0, 0)] (by decide +kernel) (g := true) (lv' := [some (.ref l0), none, some (.int l2), some (.int l3), some (.int l4), some (.int l5), none]) (st' := [.int l3]) (D' := D) (pc' := 64) rfl (rfl) rfl ?_
        obtain ⟨v3, D3, hc3, hf⟩ := ev_bd_s hf
        refine ev_callS hX YJ6_bitCount ml_RX3_88 (mJ6_bitCount hT  hc3) (vs := [.int l3]) (st := []) (by decide) rfl rfl (by decide +kernel) hC ?_
        show F S D3 67 [some (.ref l0), none, some (.int l2), some (.int l3), some (.int l4), some (.int l5), none] [.int v3]
        exact ev_iret hR ev_sm.rf (Option.some.inj hf) hC (by decide +kernel)
      · have hf := ev_it h2 hf
        refine ev_blk hX lkok_RX3 [(.iload 4, 2, 0, 0, 0)] (by decide +kernel) (g := true) (lv' := [some (.ref l0), none, some (.int l2), some (.int l3), some (.int l4), some (.int l5), none]) (st' := [.int l4]) (D' := D) (pc' := 60) rfl (rfl) rfl ?_
        refine ev_goto hX (off := 7) 67 (by decide +kernel) (by decide) ?_
        exact ev_iret hR ev_sm.rf (Option.some.inj hf) hC (by decide +kernel)
    · have hf := ev_nf h1 hf
      refine ev_blk hX lkok_RX3 [(.aload_n 0, 1, 0, 0, 0), (.iload_n 3, 1, 0, 0, 0)] (by decide +kernel) (g := true) (lv' := [some (.ref l0), none, some (.int l2), some (.int l3), some (.int l4), some (.int l5), none]) (st' := [.int l3, .ref l0]) (D' := D) (pc' := 31) rfl (rfl) rfl ?_
      obtain ⟨v4, D4, hc4, hf⟩ := ev_bd_s hf
      refine ev_callV hX YX3_knowNext ml_RX3_160 (mX3_knowNext hT hl0 hc4) (vs := [.int l3]) (st := []) (by decide) 3 hl0 rfl rfl rfl (by decide +kernel) hC ?_
      show F S D4 34 [some (.ref l0), none, some (.int l2), some (.int l3), some (.int l4), some (.int l5), none] [.int v4]
      refine ev_blk hX lkok_RX3 [(.istore 6, 2, 0, 0, 0), (.iload 6, 2, 0, 0, 0), (.iload_n 3, 1, 0, 0, 0)] (by decide +kernel) (g := true) (lv' := [some (.ref l0), none, some (.int l2), some (.int l3), some (.int l4), some (.int l5), some (.int v4)]) (st' := [.int l3, .int v4]) (D' := D4) (pc' := 39) rfl (rfl) rfl ?_
      refine ev_ic_eq hX (off := 6) 45 (by decide +kernel) (by decide) (fun h5 => ?_) (fun h5 => ?_)
      · have hf := ev_it h5 hf
        refine ev_blk hX lkok_RX3 [(.iload 6, 2, 0, 0, 0), (.istore_n 3, 1, 0, 0, 0), (.iinc 5 1, 3, 0, 0, 1)] (by decide +kernel) (g := true) (lv' := [some (.ref l0), none, some (.int l2), some (.int v4), some (.int l4), some (.int (l5 + (1 : Int32))), some (.int v4)]) (st' := []) (D' := D4) (pc' := 51) rfl (rfl) rfl ?_
        refine ev_goto hX (off := (-29)) 22 (by decide +kernel) (by decide) ?_
        exact ev_weak hX (ev_le_eq (ev_le_no (ev_le_eq (ev_le_eq (ev_le_eq (ev_le_eq (ev_le_no ev_le_nil))))))) (ih _ _ _ _ _ _ hl0 hf)
      · have hf := ev_nf h5 hf
        refine ev_blk hX lkok_RX3 [(.iinc 4 1, 3, 0, 0, 1), (.iload 6, 2, 0, 0, 0), (.istore_n 3, 1, 0, 0, 0), (.iinc 5 1, 3, 0, 0, 1)] (by decide +kernel) (g := true) (lv' := [some (.ref l0), none, some (.int l2), some (.int v4), some (.int (l4 + (1 : Int32))), some (.int (l5 + (1 : Int32))), some (.int v4)]) (st' := []) (D' := D4) (pc' := 51) rfl (rfl) rfl ?_
        refine ev_goto hX (off := (-29)) 22 (by decide +kernel) (by decide) ?_
        exact ev_weak hX (ev_le_eq (ev_le_no (ev_le_eq (ev_le_eq (ev_le_eq (ev_le_eq (ev_le_no ev_le_nil))))))) (ih _ _ _ _ _ _ hl0 hf)
set_option maxHeartbeats 4000000 in
set_option maxRecDepth 100000 in
theorem tX3_news {S : ev_S} {fu : Nat} {r : Int32 × ev_D} {F : ev_Fr} (hR : ev_R RX3 cX3_news 7 2 0 0 false (some .int) S r F) (hT : ev_Ty S) (hC : sC S ≤ 0 ∧ sA S ≤ 0) {l0 : Nat} {l1 : Int32} {l2 : Int32} {D : ev_D} (hl0 : sK S l0 = 6) (hf : fX3_news (sL S) (sE S) fu l0 l1 l2 D = some r) : F S D 0 [some (.ref l0), some (.int l1), some (.int l2), none, none, none, none] [] := by
  have hX := hR.X
  unfold fX3_news at hf
  refine ev_blk hX lkok_RX3 [(.aload_n 0, 1, 0, 0, 0), (.aload_n 0, 1, 0, 0, 0), (.getfield 41, 3, 3, 2, 0), (.getfield 157, 3, 8, 4, 0), (.iconst 1, 1, 0, 0, 1)] (by decide +kernel) (g := (sK S l0 == 6) && ((sK S ((sE S) l0 2) == 11) && (true))) (lv' := [some (.ref l0), some (.int l1), some (.int l2), none, none, none, none]) (st' := [.int (1 : Int32), .ref ((sE S) ((sE S) l0 2) 4), .ref l0]) (D' := D) (pc' := 9) rfl (ev_gk hl0 (ev_gk (ev_tyk hT hl0 rfl rfl) (rfl))) rfl ?_
  obtain ⟨v6, D6, hc6, hf⟩ := ev_bd_s hf
  refine ev_callV hX YX3_fillNear ml_RX3_141 (mX3_fillNear hT hl0 (ev_tyk hT (ev_tyk hT hl0 rfl rfl) rfl rfl) hc6) (vs := [.ref ((sE S) ((sE S) l0 2) 4), .int (1 : Int32)]) (st := []) (by decide) 3 hl0 rfl rfl rfl (by decide +kernel) hC ?_
  show F S D6 12 [some (.ref l0), some (.int l1), some (.int l2), none, none, none, none] []
  refine ev_blk hX lkok_RX3 [(.iconst 1, 1, 0, 0, 1), (.iload_n 1, 1, 0, 0, 0), (.ishl, 1, 0, 0, 0), (.istore_n 3, 1, 0, 0, 0), (.iconst 0, 1, 0, 0, 0), (.istore 4, 2, 0, 0, 0), (.iconst 0, 1, 0, 0, 0), (.istore 5, 2, 0, 0, 0)] (by decide +kernel) (g := true) (lv' := [some (.ref l0), some (.int l1), some (.int l2), some (.int ((1 : Int32) <<< (l1 &&& 31))), some (.int (0 : Int32)), some (.int (0 : Int32)), none]) (st' := []) (D' := D6) (pc' := 22) rfl (rfl) rfl ?_
  exact ev_weak hX (ev_le_eq (ev_le_no (ev_le_eq (ev_le_eq (ev_le_eq (ev_le_eq (ev_le_no ev_le_nil))))))) (tX3_news_22 hR hT hC   fu _ _ _ _ _ _ hl0 hf)
theorem mX3_news {S : ev_S} {fu : Nat} {r : Int32 × ev_D} (hT : ev_Ty S) {l0 : Nat} {l1 : Int32} {l2 : Int32} {D : ev_D} (hl0 : sK S l0 = 6) (hf : fX3_news (sL S) (sE S) fu l0 l1 l2 D = some r) : ev_M 2 0 0 yX3_news cX3_news 7 (some .int) [.ref l0, .int l1, .int l2] S D S r :=
  ev_met (ini := false) (plainFor_of_name (by decide)) (fun h => by cases h) rfl (Nat.le_of_ble_eq_true rfl) (fun F hR => tX3_news (S := ev_z S) hR hT ⟨Nat.le_refl 0, Nat.le_refl 0⟩ hl0 hf)
set_option maxHeartbeats 4000000 in
set_option maxRecDepth 100000 in
theorem tJ6_lowestOneBit {S : ev_S} {fu : Nat} {r : Int32 × ev_D} {F : ev_Fr} (hR : ev_R RJ6 cJ6_lowestOneBit_0f7a4 1 0 0 0 false (some .int) S r F) (hT : ev_Ty S) (hC : sC S ≤ 0 ∧ sA S ≤ 0) {l0 : Int32} {D : ev_D}  (hf : fJ6_lowestOneBit (sL S) (sE S) fu l0 D = some r) : F S D 0 [some (.int l0)] [] := by
  have hX := hR.X
  unfold fJ6_lowestOneBit at hf
  refine ev_blk hX lkok_RJ6 [(.iload_n 0, 1, 0, 0, 0), (.iload_n 0, 1, 0, 0, 0), (.ineg, 1, 0, 0, 0), (.iand, 1, 0, 0, 0)] (by decide +kernel) (g := true) (lv' := [some (.int l0)]) (st' := [.int (l0 &&& (-l0))]) (D' := D) (pc' := 4) rfl (rfl) rfl ?_
  exact ev_iret hR ev_sm.rf (Option.some.inj hf) hC (by decide +kernel)
theorem mJ6_lowestOneBit {S : ev_S} {fu : Nat} {r : Int32 × ev_D} (hT : ev_Ty S) {l0 : Int32} {D : ev_D}  (hf : fJ6_lowestOneBit (sL S) (sE S) fu l0 D = some r) : ev_M 0 0 0 yJ6_lowestOneBit_0f7a4 cJ6_lowestOneBit_0f7a4 1 (some .int) [.int l0] S D S r :=
  ev_met (ini := false) (plainFor_of_name (by decide)) (fun h => by cases h) rfl (Nat.le_of_ble_eq_true rfl) (fun F hR => tJ6_lowestOneBit (S := ev_z S) hR hT ⟨Nat.le_refl 0, Nat.le_refl 0⟩  hf)
set_option maxHeartbeats 4000000 in
set_option maxRecDepth 100000 in
theorem tX3_knownWithout_12 {S : ev_S} {fu : Nat} {r : Int32 × ev_D} {F : ev_Fr} (hR : ev_R RX3 cX3_knownWithout 4 2 0 0 false (some .int) S r F) (hT : ev_Ty S) (hC : sC S ≤ 0 ∧ sA S ≤ 0) : ∀ (n : Nat) (l0 : Nat) (l1 : Int32) (l2 : Int32) (l3 : Int32) (D : ev_D), sK S l0 = 6 → fX3_knownWithout_12 (sL S) (sE S) fu n l0 l1 l2 l3 D = some r → F S D 12 [some (.ref l0), some (.int l1), some (.int l2), some (.int l3)] [] := by
  have hX := hR.X
  intro n
  induction n with
  | zero =>
    intro l0 l1 l2 l3 D hl0 hf
    rw [fX3_knownWithout_12] at hf
    cases hf
  | succ n ih =>
    intro l0 l1 l2 l3 D hl0 hf
    rw [fX3_knownWithout_12] at hf
    refine ev_blk hX lkok_RX3 [(.iload_n 3, 1, 0, 0, 0), (.bipush 10, 2, 0, 0, 10)] (by decide +kernel) (g := true) (lv' := [some (.ref l0), some (.int l1), some (.int l2), some (.int l3)]) (st' := [.int (10 : Int32), .int l3]) (D' := D) (pc' := 15) rfl (rfl) rfl ?_
    refine ev_ic_ge hX (off := 21) 36 (by decide +kernel) (by decide) (fun h1 => ?_) (fun h1 => ?_)
    · have hf := ev_it h1 hf
      refine ev_blk hX lkok_RX3 [(.iload_n 2, 1, 0, 0, 0)] (by decide +kernel) (g := true) (lv' := [some (.ref l0), some (.int l1), some (.int l2), some (.int l3)]) (st' := [.int l2]) (D' := D) (pc' := 37) rfl (rfl) rfl ?_
      exact ev_iret hR ev_sm.rf (Option.some.inj hf) hC (by decide +kernel)
    · have hf := ev_nf h1 hf
      refine ev_blk hX lkok_RX3 [(.aload_n 0, 1, 0, 0, 0), (.iload_n 2, 1, 0, 0, 0)] (by decide +kernel) (g := true) (lv' := [some (.ref l0), some (.int l1), some (.int l2), some (.int l3)]) (st' := [.int l2, .ref l0]) (D' := D) (pc' := 20) rfl (rfl) rfl ?_
      obtain ⟨v2, D2, hc2, hf⟩ := ev_bd_s hf
      refine ev_callV hX YX3_knowNext ml_RX3_160 (mX3_knowNext hT hl0 hc2) (vs := [.int l2]) (st := []) (by decide) 3 hl0 rfl rfl rfl (by decide +kernel) hC ?_
      show F S D2 23 [some (.ref l0), some (.int l1), some (.int l2), some (.int l3)] [.int v2]
      refine ev_blk hX lkok_RX3 [(.iconst 1, 1, 0, 0, 1), (.iload_n 1, 1, 0, 0, 0), (.ishl, 1, 0, 0, 0), (.iconst (-1), 1, 0, 0, (-1)), (.ixor, 1, 0, 0, 0), (.iand, 1, 0, 0, 0), (.istore_n 2, 1, 0, 0, 0), (.iinc 3 1, 3, 0, 0, 1)] (by decide +kernel) (g := true) (lv' := [some (.ref l0), some (.int l1), some (.int (v2 &&& (((1 : Int32) <<< (l1 &&& 31)) ^^^ (-1 : Int32)))), some (.int (l3 + (1 : Int32)))]) (st' := []) (D' := D2) (pc' := 33) rfl (rfl) rfl ?_
      refine ev_goto hX (off := (-21)) 12 (by decide +kernel) (by decide) ?_
      exact ev_weak hX (ev_le_eq (ev_le_eq (ev_le_eq (ev_le_eq ev_le_nil)))) (ih _ _ _ _ _ hl0 hf)
set_option maxHeartbeats 4000000 in
set_option maxRecDepth 100000 in
theorem tX3_knownWithout {S : ev_S} {fu : Nat} {r : Int32 × ev_D} {F : ev_Fr} (hR : ev_R RX3 cX3_knownWithout 4 2 0 0 false (some .int) S r F) (hT : ev_Ty S) (hC : sC S ≤ 0 ∧ sA S ≤ 0) {l0 : Nat} {l1 : Int32} {D : ev_D} (hl0 : sK S l0 = 6) (hf : fX3_knownWithout (sL S) (sE S) fu l0 l1 D = some r) : F S D 0 [some (.ref l0), some (.int l1), none, none] [] := by
  have hX := hR.X
  unfold fX3_knownWithout at hf
  obtain ⟨hg4, hf⟩ := ev_gd_s hf
  refine ev_blk hX lkok_RX3 [(.aload_n 0, 1, 0, 0, 0), (.getfield 21, 3, 3, 6, 0), (.iload_n 1, 1, 0, 0, 0), (.iaload, 1, 0, 0, 0)] (by decide +kernel) (g := (sK S l0 == 6) && ((sK S ((sE S) l0 6) == 1 && ev_in l1 ((sL S) ((sE S) l0 6))) && (true))) (lv' := [some (.ref l0), some (.int l1), none, none]) (st' := [.int (D ((sE S) l0 6) (l1).toNatClampNeg)]) (D' := D) (pc' := 6) rfl (ev_gk hl0 (ev_gi (ev_tyk hT hl0 rfl rfl) hg4 (rfl))) rfl ?_
  obtain ⟨v3, D3, hc3, hf⟩ := ev_bd_s hf
  refine ev_callS hX YJ6_lowestOneBit ml_RX3_166 (mJ6_lowestOneBit hT  hc3) (vs := [.int (D ((sE S) l0 6) (l1).toNatClampNeg)]) (st := []) (by decide) rfl rfl (by decide +kernel) hC ?_
  show F S D3 9 [some (.ref l0), some (.int l1), none, none] [.int v3]
  refine ev_blk hX lkok_RX3 [(.istore_n 2, 1, 0, 0, 0), (.iconst 0, 1, 0, 0, 0), (.istore_n 3, 1, 0, 0, 0)] (by decide +kernel) (g := true) (lv' := [some (.ref l0), some (.int l1), some (.int v3), some (.int (0 : Int32))]) (st' := []) (D' := D3) (pc' := 12) rfl (rfl) rfl ?_
  exact ev_weak hX (ev_le_eq (ev_le_eq (ev_le_eq (ev_le_eq ev_le_nil)))) (tX3_knownWithout_12 hR hT hC   fu _ _ _ _ _ hl0 hf)
theorem mX3_knownWithout {S : ev_S} {fu : Nat} {r : Int32 × ev_D} (hT : ev_Ty S) {l0 : Nat} {l1 : Int32} {D : ev_D} (hl0 : sK S l0 = 6) (hf : fX3_knownWithout (sL S) (sE S) fu l0 l1 D = some r) : ev_M 2 0 0 yX3_knownWithout cX3_knownWithout 4 (some .int) [.ref l0, .int l1] S D S r :=
  ev_met (ini := false) (plainFor_of_name (by decide)) (fun h => by cases h) rfl (Nat.le_of_ble_eq_true rfl) (fun F hR => tX3_knownWithout (S := ev_z S) hR hT ⟨Nat.le_refl 0, Nat.le_refl 0⟩ hl0 hf)
set_option maxHeartbeats 4000000 in
set_option maxRecDepth 100000 in
theorem tX3_splits_16 {S : ev_S} {fu : Nat} {r : Int32 × ev_D} {F : ev_Fr} (hR : ev_R RX3 cX3_splits 3 3 0 0 false (some .int) S r F) (hT : ev_Ty S) (hC : sC S ≤ 0 ∧ sA S ≤ 0) : ∀ (n : Nat) (l0 : Nat) (l1 : Int32) (l2 : Int32) (D : ev_D), sK S l0 = 6 → fX3_splits_16 (sL S) (sE S) fu n l0 l1 l2 D = some r → F S D 16 [some (.ref l0), some (.int l1), some (.int l2)] [] := by
  have hX := hR.X
  intro n
  induction n with
  | zero =>
    intro l0 l1 l2 D hl0 hf
    rw [fX3_splits_16] at hf
    cases hf
  | succ n ih =>
    intro l0 l1 l2 D hl0 hf
    rw [fX3_splits_16] at hf
    refine ev_blk hX lkok_RX3 [(.iload_n 2, 1, 0, 0, 0), (.bipush 10, 2, 0, 0, 10)] (by decide +kernel) (g := true) (lv' := [some (.ref l0), some (.int l1), some (.int l2)]) (st' := [.int (10 : Int32), .int l2]) (D' := D) (pc' := 19) rfl (rfl) rfl ?_
    refine ev_ic_ge hX (off := 41) 60 (by decide +kernel) (by decide) (fun h1 => ?_) (fun h1 => ?_)
    · have hf := ev_it h1 hf
      refine ev_blk hX lkok_RX3 [(.iload_n 1, 1, 0, 0, 0)] (by decide +kernel) (g := true) (lv' := [some (.ref l0), some (.int l1), some (.int l2)]) (st' := [.int l1]) (D' := D) (pc' := 61) rfl (rfl) rfl ?_
      exact ev_iret hR ev_sm.rf (Option.some.inj hf) hC (by decide +kernel)
    · have hf := ev_nf h1 hf
      obtain ⟨hg6, hf⟩ := ev_gd_s hf
      refine ev_blk hX lkok_RX3 [(.aload_n 0, 1, 0, 0, 0), (.getfield 21, 3, 3, 6, 0), (.iload_n 2, 1, 0, 0, 0), (.iaload, 1, 0, 0, 0)] (by decide +kernel) (g := (sK S l0 == 6) && ((sK S ((sE S) l0 6) == 1 && ev_in l2 ((sL S) ((sE S) l0 6))) && (true))) (lv' := [some (.ref l0), some (.int l1), some (.int l2)]) (st' := [.int (D ((sE S) l0 6) (l2).toNatClampNeg)]) (D' := D) (pc' := 28) rfl (ev_gk hl0 (ev_gi (ev_tyk hT hl0 rfl rfl) hg6 (rfl))) rfl ?_
      refine ev_if_eq hX (off := 26) 54 (by decide +kernel) (by decide) (fun h2 => ?_) (fun h2 => ?_)
      · have hf := ev_it h2 hf
        refine ev_blk hX lkok_RX3 [(.iinc 2 1, 3, 0, 0, 1)] (by decide +kernel) (g := true) (lv' := [some (.ref l0), some (.int l1), some (.int (l2 + (1 : Int32)))]) (st' := []) (D' := D) (pc' := 57) rfl (rfl) rfl ?_
        refine ev_goto hX (off := (-41)) 16 (by decide +kernel) (by decide) ?_
        exact ev_weak hX (ev_le_eq (ev_le_eq (ev_le_eq ev_le_nil))) (ih _ _ _ _ hl0 hf)
      · have hf := ev_nf h2 hf
        obtain ⟨hg5, hf⟩ := ev_gd_s hf
        refine ev_blk hX lkok_RX3 [(.aload_n 0, 1, 0, 0, 0), (.getfield 21, 3, 3, 6, 0), (.iload_n 2, 1, 0, 0, 0), (.iaload, 1, 0, 0, 0), (.aload_n 0, 1, 0, 0, 0), (.iload_n 2, 1, 0, 0, 0)] (by decide +kernel) (g := (sK S l0 == 6) && ((sK S ((sE S) l0 6) == 1 && ev_in l2 ((sL S) ((sE S) l0 6))) && (true))) (lv' := [some (.ref l0), some (.int l1), some (.int l2)]) (st' := [.int l2, .ref l0, .int (D ((sE S) l0 6) (l2).toNatClampNeg)]) (D' := D) (pc' := 39) rfl (ev_gk hl0 (ev_gi (ev_tyk hT hl0 rfl rfl) hg5 (rfl))) rfl ?_
        obtain ⟨v3, D3, hc3, hf⟩ := ev_bd_s hf
        refine ev_callV hX YX3_knownWithout ml_RX3_163 (mX3_knownWithout hT hl0 hc3) (vs := [.int l2]) (st := [.int (D ((sE S) l0 6) (l2).toNatClampNeg)]) (by decide) 3 hl0 rfl rfl rfl (by decide +kernel) hC ?_
        show F S D3 42 [some (.ref l0), some (.int l1), some (.int l2)] [.int v3, .int (D ((sE S) l0 6) (l2).toNatClampNeg)]
        refine ev_blk hX lkok_RX3 [(.iconst (-1), 1, 0, 0, (-1)), (.ixor, 1, 0, 0, 0), (.iand, 1, 0, 0, 0)] (by decide +kernel) (g := true) (lv' := [some (.ref l0), some (.int l1), some (.int l2)]) (st' := [.int ((D ((sE S) l0 6) (l2).toNatClampNeg) &&& (v3 ^^^ (-1 : Int32)))]) (D' := D3) (pc' := 45) rfl (rfl) rfl ?_
        refine ev_if_eq hX (off := 9) 54 (by decide +kernel) (by decide) (fun h4 => ?_) (fun h4 => ?_)
        · have hf := ev_it h4 hf
          refine ev_blk hX lkok_RX3 [(.iinc 2 1, 3, 0, 0, 1)] (by decide +kernel) (g := true) (lv' := [some (.ref l0), some (.int l1), some (.int (l2 + (1 : Int32)))]) (st' := []) (D' := D3) (pc' := 57) rfl (rfl) rfl ?_
          refine ev_goto hX (off := (-41)) 16 (by decide +kernel) (by decide) ?_
          exact ev_weak hX (ev_le_eq (ev_le_eq (ev_le_eq ev_le_nil))) (ih _ _ _ _ hl0 hf)
        · have hf := ev_nf h4 hf
          refine ev_blk hX lkok_RX3 [(.iload_n 1, 1, 0, 0, 0), (.iconst 1, 1, 0, 0, 1), (.iload_n 2, 1, 0, 0, 0), (.ishl, 1, 0, 0, 0), (.ior, 1, 0, 0, 0), (.istore_n 1, 1, 0, 0, 0), (.iinc 2 1, 3, 0, 0, 1)] (by decide +kernel) (g := true) (lv' := [some (.ref l0), some (.int (l1 ||| ((1 : Int32) <<< (l2 &&& 31)))), some (.int (l2 + (1 : Int32)))]) (st' := []) (D' := D3) (pc' := 57) rfl (rfl) rfl ?_
          refine ev_goto hX (off := (-41)) 16 (by decide +kernel) (by decide) ?_
          exact ev_weak hX (ev_le_eq (ev_le_eq (ev_le_eq ev_le_nil))) (ih _ _ _ _ hl0 hf)
set_option maxHeartbeats 4000000 in
set_option maxRecDepth 100000 in
theorem tX3_splits {S : ev_S} {fu : Nat} {r : Int32 × ev_D} {F : ev_Fr} (hR : ev_R RX3 cX3_splits 3 3 0 0 false (some .int) S r F) (hT : ev_Ty S) (hC : sC S ≤ 0 ∧ sA S ≤ 0) {l0 : Nat} {D : ev_D} (hl0 : sK S l0 = 6) (hf : fX3_splits (sL S) (sE S) fu l0 D = some r) : F S D 0 [some (.ref l0), none, none] [] := by
  have hX := hR.X
  unfold fX3_splits at hf
  refine ev_blk hX lkok_RX3 [(.aload_n 0, 1, 0, 0, 0), (.aload_n 0, 1, 0, 0, 0), (.getfield 41, 3, 3, 2, 0), (.getfield 157, 3, 8, 4, 0), (.iconst 1, 1, 0, 0, 1)] (by decide +kernel) (g := (sK S l0 == 6) && ((sK S ((sE S) l0 2) == 11) && (true))) (lv' := [some (.ref l0), none, none]) (st' := [.int (1 : Int32), .ref ((sE S) ((sE S) l0 2) 4), .ref l0]) (D' := D) (pc' := 9) rfl (ev_gk hl0 (ev_gk (ev_tyk hT hl0 rfl rfl) (rfl))) rfl ?_
  obtain ⟨v7, D7, hc7, hf⟩ := ev_bd_s hf
  refine ev_callV hX YX3_fillNear ml_RX3_141 (mX3_fillNear hT hl0 (ev_tyk hT (ev_tyk hT hl0 rfl rfl) rfl rfl) hc7) (vs := [.ref ((sE S) ((sE S) l0 2) 4), .int (1 : Int32)]) (st := []) (by decide) 3 hl0 rfl rfl rfl (by decide +kernel) hC ?_
  show F S D7 12 [some (.ref l0), none, none] []
  refine ev_blk hX lkok_RX3 [(.iconst 0, 1, 0, 0, 0), (.istore_n 1, 1, 0, 0, 0), (.iconst 0, 1, 0, 0, 0), (.istore_n 2, 1, 0, 0, 0)] (by decide +kernel) (g := true) (lv' := [some (.ref l0), some (.int (0 : Int32)), some (.int (0 : Int32))]) (st' := []) (D' := D7) (pc' := 16) rfl (rfl) rfl ?_
  exact ev_weak hX (ev_le_eq (ev_le_eq (ev_le_eq ev_le_nil))) (tX3_splits_16 hR hT hC   fu _ _ _ _ hl0 hf)
theorem mX3_splits {S : ev_S} {fu : Nat} {r : Int32 × ev_D} (hT : ev_Ty S) {l0 : Nat} {D : ev_D} (hl0 : sK S l0 = 6) (hf : fX3_splits (sL S) (sE S) fu l0 D = some r) : ev_M 3 0 0 yX3_splits cX3_splits 3 (some .int) [.ref l0] S D S r :=
  ev_met (ini := false) (plainFor_of_name (by decide)) (fun h => by cases h) rfl (Nat.le_of_ble_eq_true rfl) (fun F hR => tX3_splits (S := ev_z S) hR hT ⟨Nat.le_refl 0, Nat.le_refl 0⟩ hl0 hf)
set_option maxHeartbeats 4000000 in
set_option maxRecDepth 100000 in
theorem tX11_heard {S : ev_S} {fu : Nat} {r : Int32 × ev_D} {F : ev_Fr} (hR : ev_R RX11 cX11_heard 3 4 0 0 false (some .int) S r F) (hT : ev_Ty S) (hC : sC S ≤ 0 ∧ sA S ≤ 0) {l0 : Nat} {l1 : Int32} {l2 : Int32} {D : ev_D} (hl0 : sK S l0 = 14) (hf : fX11_heard (sL S) (sE S) fu l0 l1 l2 D = some r) : F S D 0 [some (.ref l0), some (.int l1), some (.int l2)] [] := by
  have hX := hR.X
  unfold fX11_heard at hf
  refine ev_blk hX lkok_RX11 [(.iload_n 2, 1, 0, 0, 0), (.iconst 2, 1, 0, 0, 2)] (by decide +kernel) (g := true) (lv' := [some (.ref l0), some (.int l1), some (.int l2)]) (st' := [.int (2 : Int32), .int l2]) (D' := D) (pc' := 2) rfl (rfl) rfl ?_
  refine ev_ic_ne hX (off := 11) 13 (by decide +kernel) (by decide) (fun h1 => ?_) (fun h1 => ?_)
  · have hf := ev_nf h1 hf
    refine ev_blk hX lkok_RX11 [(.iload_n 1, 1, 0, 0, 0), (.iconst 0, 1, 0, 0, 0), (.bipush 9, 2, 0, 0, 9)] (by decide +kernel) (g := true) (lv' := [some (.ref l0), some (.int l1), some (.int l2)]) (st' := [.int (9 : Int32), .int (0 : Int32), .int l1]) (D' := D) (pc' := 17) rfl (rfl) rfl ?_
    obtain ⟨v2, D2, hc2, hf⟩ := ev_bd_s hf
    refine ev_callS hX YX11_within ml_RX11_85 (mX11_within hT  hc2) (vs := [.int l1, .int (0 : Int32), .int (9 : Int32)]) (st := []) (by decide) rfl rfl (by decide +kernel) hC ?_
    show F S D2 20 [some (.ref l0), some (.int l1), some (.int l2)] [.int v2]
    refine ev_if_eq hX (off := 12) 32 (by decide +kernel) (by decide) (fun h3 => ?_) (fun h3 => ?_)
    · have hf := ev_it h3 hf
      refine ev_blk hX lkok_RX11 [(.iconst (-1), 1, 0, 0, (-1))] (by decide +kernel) (g := true) (lv' := [some (.ref l0), some (.int l1), some (.int l2)]) (st' := [.int (-1 : Int32)]) (D' := D2) (pc' := 33) rfl (rfl) rfl ?_
      exact ev_iret hR ev_sm.rf (Option.some.inj hf) hC (by decide +kernel)
    · have hf := ev_nf h3 hf
      refine ev_blk hX lkok_RX11 [(.iload_n 2, 1, 0, 0, 0), (.iconst 0, 1, 0, 0, 0), (.iconst 1, 1, 0, 0, 1)] (by decide +kernel) (g := true) (lv' := [some (.ref l0), some (.int l1), some (.int l2)]) (st' := [.int (1 : Int32), .int (0 : Int32), .int l2]) (D' := D2) (pc' := 26) rfl (rfl) rfl ?_
      obtain ⟨v4, D4, hc4, hf⟩ := ev_bd_s hf
      refine ev_callS hX YX11_within ml_RX11_85 (mX11_within hT  hc4) (vs := [.int l2, .int (0 : Int32), .int (1 : Int32)]) (st := []) (by decide) rfl rfl (by decide +kernel) hC ?_
      show F S D4 29 [some (.ref l0), some (.int l1), some (.int l2)] [.int v4]
      refine ev_if_ne hX (off := 5) 34 (by decide +kernel) (by decide) (fun h5 => ?_) (fun h5 => ?_)
      · have hf := ev_nf h5 hf
        refine ev_blk hX lkok_RX11 [(.aload_n 0, 1, 0, 0, 0), (.getfield 71, 3, 11, 5, 0), (.iload_n 1, 1, 0, 0, 0), (.iload_n 2, 1, 0, 0, 0)] (by decide +kernel) (g := (sK S l0 == 14) && (true)) (lv' := [some (.ref l0), some (.int l1), some (.int l2)]) (st' := [.int l2, .int l1, .ref ((sE S) l0 5)]) (D' := D4) (pc' := 40) rfl (ev_gk hl0 (rfl)) rfl ?_
        obtain ⟨v6, D6, hc6, hf⟩ := ev_bd_s hf
        refine ev_callV hX YX3_news ml_RX11_294 (mX3_news hT (ev_tyk hT hl0 rfl rfl) hc6) (vs := [.int l1, .int l2]) (st := []) (by decide) 3 (ev_tyk hT hl0 rfl rfl) rfl rfl rfl (by decide +kernel) hC ?_
        show F S D6 43 [some (.ref l0), some (.int l1), some (.int l2)] [.int v6]
        exact ev_iret hR ev_sm.rf (Option.some.inj hf) hC (by decide +kernel)
      · have hf := ev_it h5 hf
        refine ev_blk hX lkok_RX11 [(.iconst (-1), 1, 0, 0, (-1))] (by decide +kernel) (g := true) (lv' := [some (.ref l0), some (.int l1), some (.int l2)]) (st' := [.int (-1 : Int32)]) (D' := D4) (pc' := 33) rfl (rfl) rfl ?_
        exact ev_iret hR ev_sm.rf (Option.some.inj hf) hC (by decide +kernel)
  · have hf := ev_it h1 hf
    refine ev_blk hX lkok_RX11 [(.aload_n 0, 1, 0, 0, 0), (.getfield 71, 3, 11, 5, 0)] (by decide +kernel) (g := (sK S l0 == 14) && (true)) (lv' := [some (.ref l0), some (.int l1), some (.int l2)]) (st' := [.ref ((sE S) l0 5)]) (D' := D) (pc' := 9) rfl (ev_gk hl0 (rfl)) rfl ?_
    obtain ⟨v7, D7, hc7, hf⟩ := ev_bd_s hf
    refine ev_callV hX YX3_splits ml_RX11_291 (mX3_splits hT (ev_tyk hT hl0 rfl rfl) hc7) (vs := []) (st := []) (by decide) 3 (ev_tyk hT hl0 rfl rfl) rfl rfl rfl (by decide +kernel) hC ?_
    show F S D7 12 [some (.ref l0), some (.int l1), some (.int l2)] [.int v7]
    exact ev_iret hR ev_sm.rf (Option.some.inj hf) hC (by decide +kernel)
theorem mX11_heard {S : ev_S} {fu : Nat} {r : Int32 × ev_D} (hT : ev_Ty S) {l0 : Nat} {l1 : Int32} {l2 : Int32} {D : ev_D} (hl0 : sK S l0 = 14) (hf : fX11_heard (sL S) (sE S) fu l0 l1 l2 D = some r) : ev_M 4 0 0 yX11_heard cX11_heard 3 (some .int) [.ref l0, .int l1, .int l2] S D S r :=
  ev_met (ini := false) (plainFor_of_name (by decide)) (fun h => by cases h) rfl (Nat.le_of_ble_eq_true rfl) (fun F hR => tX11_heard (S := ev_z S) hR hT ⟨Nat.le_refl 0, Nat.le_refl 0⟩ hl0 hf)
set_option maxHeartbeats 4000000 in
set_option maxRecDepth 100000 in
theorem tX3_weightOf {S : ev_S} {fu : Nat} {r : Int32 × ev_D} {F : ev_Fr} (hR : ev_R RX3 cX3_weightOf 2 1 0 0 false (some .int) S r F) (hT : ev_Ty S) (hC : sC S ≤ 0 ∧ sA S ≤ 0) {l0 : Nat} {l1 : Int32} {D : ev_D} (hl0 : sK S l0 = 6) (hf : fX3_weightOf (sL S) (sE S) fu l0 l1 D = some r) : F S D 0 [some (.ref l0), some (.int l1)] [] := by
  have hX := hR.X
  unfold fX3_weightOf at hf
  refine ev_blk hX lkok_RX3 [(.aload_n 0, 1, 0, 0, 0), (.getfield 33, 3, 3, 0, 0), (.iload_n 1, 1, 0, 0, 0)] (by decide +kernel) (g := (sK S l0 == 6) && (true)) (lv' := [some (.ref l0), some (.int l1)]) (st' := [.int l1, .ref ((sE S) l0 0)]) (D' := D) (pc' := 5) rfl (ev_gk hl0 (rfl)) rfl ?_
  obtain ⟨v1, D1, hc1, hf⟩ := ev_bd_s hf
  refine ev_callV hX YX9_has ml_RX3_169 (mX9_has hT (ev_tyk hT hl0 rfl rfl) hc1) (vs := [.int l1]) (st := []) (by decide) 9 (ev_tyk hT hl0 rfl rfl) rfl rfl rfl (by decide +kernel) hC ?_
  show F S D1 8 [some (.ref l0), some (.int l1)] [.int v1]
  refine ev_if_eq hX (off := 25) 33 (by decide +kernel) (by decide) (fun h2 => ?_) (fun h2 => ?_)
  · have hf := ev_it h2 hf
    refine ev_blk hX lkok_RX3 [(.iconst 0, 1, 0, 0, 0)] (by decide +kernel) (g := true) (lv' := [some (.ref l0), some (.int l1)]) (st' := [.int (0 : Int32)]) (D' := D1) (pc' := 34) rfl (rfl) rfl ?_
    exact ev_iret hR ev_sm.rf (Option.some.inj hf) hC (by decide +kernel)
  · have hf := ev_nf h2 hf
    obtain ⟨hg3, hf⟩ := ev_gd_s hf
    obtain ⟨hg4, hf⟩ := ev_gd_s hf
    refine ev_blk hX lkok_RX3 [(.aload_n 0, 1, 0, 0, 0), (.getfield 33, 3, 3, 0, 0), (.getfield 173, 3, 9, 12, 0), (.iload_n 1, 1, 0, 0, 0), (.iaload, 1, 0, 0, 0), (.aload_n 0, 1, 0, 0, 0), (.getfield 33, 3, 3, 0, 0), (.getfield 176, 3, 9, 11, 0), (.iload_n 1, 1, 0, 0, 0), (.iaload, 1, 0, 0, 0), (.iadd, 1, 0, 0, 0)] (by decide +kernel) (g := (sK S l0 == 6) && ((sK S ((sE S) l0 0) == 12) && ((sK S ((sE S) ((sE S) l0 0) 12) == 1 && ev_in l1 ((sL S) ((sE S) ((sE S) l0 0) 12))) && ((sK S l0 == 6) && ((sK S ((sE S) l0 0) == 12) && ((sK S ((sE S) ((sE S) l0 0) 11) == 1 && ev_in l1 ((sL S) ((sE S) ((sE S) l0 0) 11))) && (true))))))) (lv' := [some (.ref l0), some (.int l1)]) (st' := [.int ((D1 ((sE S) ((sE S) l0 0) 12) (l1).toNatClampNeg) + (D1 ((sE S) ((sE S) l0 0) 11) (l1).toNatClampNeg))]) (D' := D1) (pc' := 30) rfl (ev_gk hl0 (ev_gk (ev_tyk hT hl0 rfl rfl) (ev_gi (ev_tyk hT (ev_tyk hT hl0 rfl rfl) rfl rfl) hg3 (ev_gk hl0 (ev_gk (ev_tyk hT hl0 rfl rfl) (ev_gi (ev_tyk hT (ev_tyk hT hl0 rfl rfl) rfl rfl) hg4 (rfl))))))) rfl ?_
    refine ev_goto hX (off := 4) 34 (by decide +kernel) (by decide) ?_
    exact ev_iret hR ev_sm.rf (Option.some.inj hf) hC (by decide +kernel)
theorem mX3_weightOf {S : ev_S} {fu : Nat} {r : Int32 × ev_D} (hT : ev_Ty S) {l0 : Nat} {l1 : Int32} {D : ev_D} (hl0 : sK S l0 = 6) (hf : fX3_weightOf (sL S) (sE S) fu l0 l1 D = some r) : ev_M 1 0 0 yX3_weightOf cX3_weightOf 2 (some .int) [.ref l0, .int l1] S D S r :=
  ev_met (ini := false) (plainFor_of_name (by decide)) (fun h => by cases h) rfl (Nat.le_of_ble_eq_true rfl) (fun F hR => tX3_weightOf (S := ev_z S) hR hT ⟨Nat.le_refl 0, Nat.le_refl 0⟩ hl0 hf)
set_option maxHeartbeats 4000000 in
set_option maxRecDepth 100000 in
theorem tX3_turnToBeFed_4 {S : ev_S} {fu : Nat} {r : Int32 × ev_D} {F : ev_Fr} (hR : ev_R RX3 cX3_turnToBeFed 4 2 0 0 false (some .int) S r F) (hT : ev_Ty S) (hC : sC S ≤ 0 ∧ sA S ≤ 0) : ∀ (n : Nat) (l0 : Nat) (l1 : Int32) (l2 : Int32) (l3 : Int32) (D : ev_D), sK S l0 = 6 → fX3_turnToBeFed_4 (sL S) (sE S) fu n l0 l1 l2 l3 D = some r → F S D 4 [some (.ref l0), some (.int l1), some (.int l2), some (.int l3)] [] := by
  have hX := hR.X
  intro n
  induction n with
  | zero =>
    intro l0 l1 l2 l3 D hl0 hf
    rw [fX3_turnToBeFed_4] at hf
    cases hf
  | succ n ih =>
    intro l0 l1 l2 l3 D hl0 hf
    rw [fX3_turnToBeFed_4] at hf
    refine ev_blk hX lkok_RX3 [(.iload_n 3, 1, 0, 0, 0), (.aload_n 0, 1, 0, 0, 0), (.getfield 33, 3, 3, 0, 0), (.getfield 114, 3, 9, 5, 0)] (by decide +kernel) (g := (sK S l0 == 6) && ((sK S ((sE S) l0 0) == 12) && (true))) (lv' := [some (.ref l0), some (.int l1), some (.int l2), some (.int l3)]) (st' := [.int (D ((sE S) l0 0) 5), .int l3]) (D' := D) (pc' := 12) rfl (ev_gk hl0 (ev_gk (ev_tyk hT hl0 rfl rfl) (rfl))) rfl ?_
    refine ev_ic_ge hX (off := 43) 55 (by decide +kernel) (by decide) (fun h1 => ?_) (fun h1 => ?_)
    · have hf := ev_it h1 hf
      refine ev_blk hX lkok_RX3 [(.iload_n 2, 1, 0, 0, 0)] (by decide +kernel) (g := true) (lv' := [some (.ref l0), some (.int l1), some (.int l2), some (.int l3)]) (st' := [.int l2]) (D' := D) (pc' := 56) rfl (rfl) rfl ?_
      exact ev_iret hR ev_sm.rf (Option.some.inj hf) hC (by decide +kernel)
    · have hf := ev_nf h1 hf
      refine ev_blk hX lkok_RX3 [(.aload_n 0, 1, 0, 0, 0), (.iload_n 3, 1, 0, 0, 0)] (by decide +kernel) (g := true) (lv' := [some (.ref l0), some (.int l1), some (.int l2), some (.int l3)]) (st' := [.int l3, .ref l0]) (D' := D) (pc' := 17) rfl (rfl) rfl ?_
      obtain ⟨v2, D2, hc2, hf⟩ := ev_bd_s hf
      refine ev_callV hX YX3_weightOf ml_RX3_179 (mX3_weightOf hT hl0 hc2) (vs := [.int l3]) (st := []) (by decide) 3 hl0 rfl rfl rfl (by decide +kernel) hC ?_
      show F S D2 20 [some (.ref l0), some (.int l1), some (.int l2), some (.int l3)] [.int v2]
      refine ev_blk hX lkok_RX3 [(.aload_n 0, 1, 0, 0, 0), (.iload_n 1, 1, 0, 0, 0)] (by decide +kernel) (g := true) (lv' := [some (.ref l0), some (.int l1), some (.int l2), some (.int l3)]) (st' := [.int l1, .ref l0, .int v2]) (D' := D2) (pc' := 22) rfl (rfl) rfl ?_
      obtain ⟨v3, D3, hc3, hf⟩ := ev_bd_s hf
      refine ev_callV hX YX3_weightOf ml_RX3_179 (mX3_weightOf hT hl0 hc3) (vs := [.int l1]) (st := [.int v2]) (by decide) 3 hl0 rfl rfl rfl (by decide +kernel) hC ?_
      show F S D3 25 [some (.ref l0), some (.int l1), some (.int l2), some (.int l3)] [.int v3, .int v2]
      refine ev_ic_gt hX (off := 21) 46 (by decide +kernel) (by decide) (fun h4 => ?_) (fun h4 => ?_)
      · have hf := ev_it h4 hf
        refine ev_blk hX lkok_RX3 [(.iinc 2 1, 3, 0, 0, 1), (.iinc 3 1, 3, 0, 0, 1)] (by decide +kernel) (g := true) (lv' := [some (.ref l0), some (.int l1), some (.int (l2 + (1 : Int32))), some (.int (l3 + (1 : Int32)))]) (st' := []) (D' := D3) (pc' := 52) rfl (rfl) rfl ?_
        refine ev_goto hX (off := (-48)) 4 (by decide +kernel) (by decide) ?_
        exact ev_weak hX (ev_le_eq (ev_le_eq (ev_le_eq (ev_le_eq ev_le_nil)))) (ih _ _ _ _ _ hl0 hf)
      · have hf := ev_nf h4 hf
        refine ev_blk hX lkok_RX3 [(.aload_n 0, 1, 0, 0, 0), (.iload_n 3, 1, 0, 0, 0)] (by decide +kernel) (g := true) (lv' := [some (.ref l0), some (.int l1), some (.int l2), some (.int l3)]) (st' := [.int l3, .ref l0]) (D' := D3) (pc' := 30) rfl (rfl) rfl ?_
        obtain ⟨v5, D5, hc5, hf⟩ := ev_bd_s hf
        refine ev_callV hX YX3_weightOf ml_RX3_179 (mX3_weightOf hT hl0 hc5) (vs := [.int l3]) (st := []) (by decide) 3 hl0 rfl rfl rfl (by decide +kernel) hC ?_
        show F S D5 33 [some (.ref l0), some (.int l1), some (.int l2), some (.int l3)] [.int v5]
        refine ev_blk hX lkok_RX3 [(.aload_n 0, 1, 0, 0, 0), (.iload_n 1, 1, 0, 0, 0)] (by decide +kernel) (g := true) (lv' := [some (.ref l0), some (.int l1), some (.int l2), some (.int l3)]) (st' := [.int l1, .ref l0, .int v5]) (D' := D5) (pc' := 35) rfl (rfl) rfl ?_
        obtain ⟨v6, D6, hc6, hf⟩ := ev_bd_s hf
        refine ev_callV hX YX3_weightOf ml_RX3_179 (mX3_weightOf hT hl0 hc6) (vs := [.int l1]) (st := [.int v5]) (by decide) 3 hl0 rfl rfl rfl (by decide +kernel) hC ?_
        show F S D6 38 [some (.ref l0), some (.int l1), some (.int l2), some (.int l3)] [.int v6, .int v5]
        refine ev_ic_ne hX (off := 11) 49 (by decide +kernel) (by decide) (fun h7 => ?_) (fun h7 => ?_)
        · have hf := ev_nf h7 hf
          refine ev_blk hX lkok_RX3 [(.iinc 3 1, 3, 0, 0, 1)] (by decide +kernel) (g := true) (lv' := [some (.ref l0), some (.int l1), some (.int l2), some (.int (l3 + (1 : Int32)))]) (st' := []) (D' := D6) (pc' := 52) rfl (rfl) rfl ?_
          refine ev_goto hX (off := (-48)) 4 (by decide +kernel) (by decide) ?_
          exact ev_weak hX (ev_le_eq (ev_le_eq (ev_le_eq (ev_le_eq ev_le_nil)))) (ih _ _ _ _ _ hl0 hf)
        · have hf := ev_it h7 hf
          refine ev_blk hX lkok_RX3 [(.iload_n 3, 1, 0, 0, 0), (.iload_n 1, 1, 0, 0, 0)] (by decide +kernel) (g := true) (lv' := [some (.ref l0), some (.int l1), some (.int l2), some (.int l3)]) (st' := [.int l1, .int l3]) (D' := D6) (pc' := 43) rfl (rfl) rfl ?_
          refine ev_ic_ge hX (off := 6) 49 (by decide +kernel) (by decide) (fun h8 => ?_) (fun h8 => ?_)
          · have hf := ev_it h8 hf
            refine ev_blk hX lkok_RX3 [(.iinc 3 1, 3, 0, 0, 1)] (by decide +kernel) (g := true) (lv' := [some (.ref l0), some (.int l1), some (.int l2), some (.int (l3 + (1 : Int32)))]) (st' := []) (D' := D6) (pc' := 52) rfl (rfl) rfl ?_
            refine ev_goto hX (off := (-48)) 4 (by decide +kernel) (by decide) ?_
            exact ev_weak hX (ev_le_eq (ev_le_eq (ev_le_eq (ev_le_eq ev_le_nil)))) (ih _ _ _ _ _ hl0 hf)
          · have hf := ev_nf h8 hf
            refine ev_blk hX lkok_RX3 [(.iinc 2 1, 3, 0, 0, 1), (.iinc 3 1, 3, 0, 0, 1)] (by decide +kernel) (g := true) (lv' := [some (.ref l0), some (.int l1), some (.int (l2 + (1 : Int32))), some (.int (l3 + (1 : Int32)))]) (st' := []) (D' := D6) (pc' := 52) rfl (rfl) rfl ?_
            refine ev_goto hX (off := (-48)) 4 (by decide +kernel) (by decide) ?_
            exact ev_weak hX (ev_le_eq (ev_le_eq (ev_le_eq (ev_le_eq ev_le_nil)))) (ih _ _ _ _ _ hl0 hf)
set_option maxHeartbeats 4000000 in
set_option maxRecDepth 100000 in
theorem tX3_turnToBeFed {S : ev_S} {fu : Nat} {r : Int32 × ev_D} {F : ev_Fr} (hR : ev_R RX3 cX3_turnToBeFed 4 2 0 0 false (some .int) S r F) (hT : ev_Ty S) (hC : sC S ≤ 0 ∧ sA S ≤ 0) {l0 : Nat} {l1 : Int32} {D : ev_D} (hl0 : sK S l0 = 6) (hf : fX3_turnToBeFed (sL S) (sE S) fu l0 l1 D = some r) : F S D 0 [some (.ref l0), some (.int l1), none, none] [] := by
  have hX := hR.X
  unfold fX3_turnToBeFed at hf
  refine ev_blk hX lkok_RX3 [(.iconst 0, 1, 0, 0, 0), (.istore_n 2, 1, 0, 0, 0), (.iconst 0, 1, 0, 0, 0), (.istore_n 3, 1, 0, 0, 0)] (by decide +kernel) (g := true) (lv' := [some (.ref l0), some (.int l1), some (.int (0 : Int32)), some (.int (0 : Int32))]) (st' := []) (D' := D) (pc' := 4) rfl (rfl) rfl ?_
  exact ev_weak hX (ev_le_eq (ev_le_eq (ev_le_eq (ev_le_eq ev_le_nil)))) (tX3_turnToBeFed_4 hR hT hC   fu _ _ _ _ _ hl0 hf)
theorem mX3_turnToBeFed {S : ev_S} {fu : Nat} {r : Int32 × ev_D} (hT : ev_Ty S) {l0 : Nat} {l1 : Int32} {D : ev_D} (hl0 : sK S l0 = 6) (hf : fX3_turnToBeFed (sL S) (sE S) fu l0 l1 D = some r) : ev_M 2 0 0 yX3_turnToBeFed cX3_turnToBeFed 4 (some .int) [.ref l0, .int l1] S D S r :=
  ev_met (ini := false) (plainFor_of_name (by decide)) (fun h => by cases h) rfl (Nat.le_of_ble_eq_true rfl) (fun F hR => tX3_turnToBeFed (S := ev_z S) hR hT ⟨Nat.le_refl 0, Nat.le_refl 0⟩ hl0 hf)
set_option maxHeartbeats 4000000 in
set_option maxRecDepth 100000 in
theorem tX3_fedAt_2 {S : ev_S} {fu : Nat} {r : Int32 × ev_D} {F : ev_Fr} (hR : ev_R RX3 cX3_fedAt 3 3 0 0 false (some .int) S r F) (hT : ev_Ty S) (hC : sC S ≤ 0 ∧ sA S ≤ 0) : ∀ (n : Nat) (l0 : Nat) (l1 : Int32) (l2 : Int32) (D : ev_D), sK S l0 = 6 → fX3_fedAt_2 (sL S) (sE S) fu n l0 l1 l2 D = some r → F S D 2 [some (.ref l0), some (.int l1), some (.int l2)] [] := by
  have hX := hR.X
  intro n
  induction n with
  | zero =>
    intro l0 l1 l2 D hl0 hf
    rw [fX3_fedAt_2] at hf
    cases hf
  | succ n ih =>
    intro l0 l1 l2 D hl0 hf
    rw [fX3_fedAt_2] at hf
    refine ev_blk hX lkok_RX3 [(.iload_n 2, 1, 0, 0, 0), (.aload_n 0, 1, 0, 0, 0), (.getfield 33, 3, 3, 0, 0), (.getfield 114, 3, 9, 5, 0)] (by decide +kernel) (g := (sK S l0 == 6) && ((sK S ((sE S) l0 0) == 12) && (true))) (lv' := [some (.ref l0), some (.int l1), some (.int l2)]) (st' := [.int (D ((sE S) l0 0) 5), .int l2]) (D' := D) (pc' := 10) rfl (ev_gk hl0 (ev_gk (ev_tyk hT hl0 rfl rfl) (rfl))) rfl ?_
    refine ev_ic_ge hX (off := 20) 30 (by decide +kernel) (by decide) (fun h1 => ?_) (fun h1 => ?_)
    · have hf := ev_it h1 hf
      refine ev_blk hX lkok_RX3 [(.iconst (-1), 1, 0, 0, (-1))] (by decide +kernel) (g := true) (lv' := [some (.ref l0), some (.int l1), some (.int l2)]) (st' := [.int (-1 : Int32)]) (D' := D) (pc' := 31) rfl (rfl) rfl ?_
      exact ev_iret hR ev_sm.rf (Option.some.inj hf) hC (by decide +kernel)
    · have hf := ev_nf h1 hf
      refine ev_blk hX lkok_RX3 [(.aload_n 0, 1, 0, 0, 0), (.iload_n 2, 1, 0, 0, 0)] (by decide +kernel) (g := true) (lv' := [some (.ref l0), some (.int l1), some (.int l2)]) (st' := [.int l2, .ref l0]) (D' := D) (pc' := 15) rfl (rfl) rfl ?_
      obtain ⟨v2, D2, hc2, hf⟩ := ev_bd_s hf
      refine ev_callV hX YX3_turnToBeFed ml_RX3_182 (mX3_turnToBeFed hT hl0 hc2) (vs := [.int l2]) (st := []) (by decide) 3 hl0 rfl rfl rfl (by decide +kernel) hC ?_
      show F S D2 18 [some (.ref l0), some (.int l1), some (.int l2)] [.int v2]
      refine ev_blk hX lkok_RX3 [(.iload_n 1, 1, 0, 0, 0)] (by decide +kernel) (g := true) (lv' := [some (.ref l0), some (.int l1), some (.int l2)]) (st' := [.int l1, .int v2]) (D' := D2) (pc' := 19) rfl (rfl) rfl ?_
      refine ev_ic_ne hX (off := 5) 24 (by decide +kernel) (by decide) (fun h3 => ?_) (fun h3 => ?_)
      · have hf := ev_nf h3 hf
        refine ev_blk hX lkok_RX3 [(.iinc 2 1, 3, 0, 0, 1)] (by decide +kernel) (g := true) (lv' := [some (.ref l0), some (.int l1), some (.int (l2 + (1 : Int32)))]) (st' := []) (D' := D2) (pc' := 27) rfl (rfl) rfl ?_
        refine ev_goto hX (off := (-25)) 2 (by decide +kernel) (by decide) ?_
        exact ev_weak hX (ev_le_eq (ev_le_eq (ev_le_eq ev_le_nil))) (ih _ _ _ _ hl0 hf)
      · have hf := ev_it h3 hf
        refine ev_blk hX lkok_RX3 [(.iload_n 2, 1, 0, 0, 0)] (by decide +kernel) (g := true) (lv' := [some (.ref l0), some (.int l1), some (.int l2)]) (st' := [.int l2]) (D' := D2) (pc' := 23) rfl (rfl) rfl ?_
        exact ev_iret hR ev_sm.rf (Option.some.inj hf) hC (by decide +kernel)
set_option maxHeartbeats 4000000 in
set_option maxRecDepth 100000 in
theorem tX3_fedAt {S : ev_S} {fu : Nat} {r : Int32 × ev_D} {F : ev_Fr} (hR : ev_R RX3 cX3_fedAt 3 3 0 0 false (some .int) S r F) (hT : ev_Ty S) (hC : sC S ≤ 0 ∧ sA S ≤ 0) {l0 : Nat} {l1 : Int32} {D : ev_D} (hl0 : sK S l0 = 6) (hf : fX3_fedAt (sL S) (sE S) fu l0 l1 D = some r) : F S D 0 [some (.ref l0), some (.int l1), none] [] := by
  have hX := hR.X
  unfold fX3_fedAt at hf
  refine ev_blk hX lkok_RX3 [(.iconst 0, 1, 0, 0, 0), (.istore_n 2, 1, 0, 0, 0)] (by decide +kernel) (g := true) (lv' := [some (.ref l0), some (.int l1), some (.int (0 : Int32))]) (st' := []) (D' := D) (pc' := 2) rfl (rfl) rfl ?_
  exact ev_weak hX (ev_le_eq (ev_le_eq (ev_le_eq ev_le_nil))) (tX3_fedAt_2 hR hT hC   fu _ _ _ _ hl0 hf)
theorem mX3_fedAt {S : ev_S} {fu : Nat} {r : Int32 × ev_D} (hT : ev_Ty S) {l0 : Nat} {l1 : Int32} {D : ev_D} (hl0 : sK S l0 = 6) (hf : fX3_fedAt (sL S) (sE S) fu l0 l1 D = some r) : ev_M 3 0 0 yX3_fedAt cX3_fedAt 3 (some .int) [.ref l0, .int l1] S D S r :=
  ev_met (ini := false) (plainFor_of_name (by decide)) (fun h => by cases h) rfl (Nat.le_of_ble_eq_true rfl) (fun F hR => tX3_fedAt (S := ev_z S) hR hT ⟨Nat.le_refl 0, Nat.le_refl 0⟩ hl0 hf)
set_option maxHeartbeats 4000000 in
set_option maxRecDepth 100000 in
theorem tX3_feedingSum_4 {S : ev_S} {fu : Nat} {r : Int32 × ev_D} {F : ev_Fr} (hR : ev_R RX3 cX3_feedingSum 3 3 0 0 false (some .int) S r F) (hT : ev_Ty S) (hC : sC S ≤ 0 ∧ sA S ≤ 0) : ∀ (n : Nat) (l0 : Nat) (l1 : Int32) (l2 : Int32) (D : ev_D), sK S l0 = 6 → fX3_feedingSum_4 (sL S) (sE S) fu n l0 l1 l2 D = some r → F S D 4 [some (.ref l0), some (.int l1), some (.int l2)] [] := by
  have hX := hR.X
  intro n
  induction n with
  | zero =>
    intro l0 l1 l2 D hl0 hf
    rw [fX3_feedingSum_4] at hf
    cases hf
  | succ n ih =>
    intro l0 l1 l2 D hl0 hf
    rw [fX3_feedingSum_4] at hf
    refine ev_blk hX lkok_RX3 [(.iload_n 2, 1, 0, 0, 0), (.aload_n 0, 1, 0, 0, 0), (.getfield 33, 3, 3, 0, 0), (.getfield 114, 3, 9, 5, 0)] (by decide +kernel) (g := (sK S l0 == 6) && ((sK S ((sE S) l0 0) == 12) && (true))) (lv' := [some (.ref l0), some (.int l1), some (.int l2)]) (st' := [.int (D ((sE S) l0 0) 5), .int l2]) (D' := D) (pc' := 12) rfl (ev_gk hl0 (ev_gk (ev_tyk hT hl0 rfl rfl) (rfl))) rfl ?_
    refine ev_ic_ge hX (off := 25) 37 (by decide +kernel) (by decide) (fun h1 => ?_) (fun h1 => ?_)
    · have hf := ev_it h1 hf
      refine ev_blk hX lkok_RX3 [(.iload_n 1, 1, 0, 0, 0)] (by decide +kernel) (g := true) (lv' := [some (.ref l0), some (.int l1), some (.int l2)]) (st' := [.int l1]) (D' := D) (pc' := 38) rfl (rfl) rfl ?_
      exact ev_iret hR ev_sm.rf (Option.some.inj hf) hC (by decide +kernel)
    · have hf := ev_nf h1 hf
      refine ev_blk hX lkok_RX3 [(.iload_n 1, 1, 0, 0, 0), (.aload_n 0, 1, 0, 0, 0), (.iload_n 2, 1, 0, 0, 0)] (by decide +kernel) (g := true) (lv' := [some (.ref l0), some (.int l1), some (.int l2)]) (st' := [.int l2, .ref l0, .int l1]) (D' := D) (pc' := 18) rfl (rfl) rfl ?_
      obtain ⟨v2, D2, hc2, hf⟩ := ev_bd_s hf
      refine ev_callV hX YX3_weightOf ml_RX3_179 (mX3_weightOf hT hl0 hc2) (vs := [.int l2]) (st := [.int l1]) (by decide) 3 hl0 rfl rfl rfl (by decide +kernel) hC ?_
      show F S D2 21 [some (.ref l0), some (.int l1), some (.int l2)] [.int v2, .int l1]
      refine ev_blk hX lkok_RX3 [(.aload_n 0, 1, 0, 0, 0), (.iload_n 2, 1, 0, 0, 0)] (by decide +kernel) (g := true) (lv' := [some (.ref l0), some (.int l1), some (.int l2)]) (st' := [.int l2, .ref l0, .int v2, .int l1]) (D' := D2) (pc' := 23) rfl (rfl) rfl ?_
      obtain ⟨v3, D3, hc3, hf⟩ := ev_bd_s hf
      refine ev_callV hX YX3_turnToBeFed ml_RX3_182 (mX3_turnToBeFed hT hl0 hc3) (vs := [.int l2]) (st := [.int v2, .int l1]) (by decide) 3 hl0 rfl rfl rfl (by decide +kernel) hC ?_
      show F S D3 26 [some (.ref l0), some (.int l1), some (.int l2)] [.int v3, .int v2, .int l1]
      refine ev_blk hX lkok_RX3 [(.iconst 1, 1, 0, 0, 1), (.iadd, 1, 0, 0, 0), (.imul, 1, 0, 0, 0), (.iadd, 1, 0, 0, 0), (.istore_n 1, 1, 0, 0, 0), (.iinc 2 1, 3, 0, 0, 1)] (by decide +kernel) (g := true) (lv' := [some (.ref l0), some (.int (l1 + (v2 * (v3 + (1 : Int32))))), some (.int (l2 + (1 : Int32)))]) (st' := []) (D' := D3) (pc' := 34) rfl (rfl) rfl ?_
      refine ev_goto hX (off := (-30)) 4 (by decide +kernel) (by decide) ?_
      exact ev_weak hX (ev_le_eq (ev_le_eq (ev_le_eq ev_le_nil))) (ih _ _ _ _ hl0 hf)
set_option maxHeartbeats 4000000 in
set_option maxRecDepth 100000 in
theorem tX3_feedingSum {S : ev_S} {fu : Nat} {r : Int32 × ev_D} {F : ev_Fr} (hR : ev_R RX3 cX3_feedingSum 3 3 0 0 false (some .int) S r F) (hT : ev_Ty S) (hC : sC S ≤ 0 ∧ sA S ≤ 0) {l0 : Nat} {D : ev_D} (hl0 : sK S l0 = 6) (hf : fX3_feedingSum (sL S) (sE S) fu l0 D = some r) : F S D 0 [some (.ref l0), none, none] [] := by
  have hX := hR.X
  unfold fX3_feedingSum at hf
  refine ev_blk hX lkok_RX3 [(.iconst 0, 1, 0, 0, 0), (.istore_n 1, 1, 0, 0, 0), (.iconst 0, 1, 0, 0, 0), (.istore_n 2, 1, 0, 0, 0)] (by decide +kernel) (g := true) (lv' := [some (.ref l0), some (.int (0 : Int32)), some (.int (0 : Int32))]) (st' := []) (D' := D) (pc' := 4) rfl (rfl) rfl ?_
  exact ev_weak hX (ev_le_eq (ev_le_eq (ev_le_eq ev_le_nil))) (tX3_feedingSum_4 hR hT hC   fu _ _ _ _ hl0 hf)
theorem mX3_feedingSum {S : ev_S} {fu : Nat} {r : Int32 × ev_D} (hT : ev_Ty S) {l0 : Nat} {D : ev_D} (hl0 : sK S l0 = 6) (hf : fX3_feedingSum (sL S) (sE S) fu l0 D = some r) : ev_M 3 0 0 yX3_feedingSum cX3_feedingSum 3 (some .int) [.ref l0] S D S r :=
  ev_met (ini := false) (plainFor_of_name (by decide)) (fun h => by cases h) rfl (Nat.le_of_ble_eq_true rfl) (fun F hR => tX3_feedingSum (S := ev_z S) hR hT ⟨Nat.le_refl 0, Nat.le_refl 0⟩ hl0 hf)
set_option maxHeartbeats 4000000 in
set_option maxRecDepth 100000 in
theorem tX11_feeds {S : ev_S} {fu : Nat} {r : Int32 × ev_D} {F : ev_Fr} (hR : ev_R RX11 cX11_feeds 2 4 0 0 false (some .int) S r F) (hT : ev_Ty S) (hC : sC S ≤ 0 ∧ sA S ≤ 0) {l0 : Nat} {l1 : Int32} {D : ev_D} (hl0 : sK S l0 = 14) (hf : fX11_feeds (sL S) (sE S) fu l0 l1 D = some r) : F S D 0 [some (.ref l0), some (.int l1)] [] := by
  have hX := hR.X
  unfold fX11_feeds at hf
  refine ev_blk hX lkok_RX11 [(.iload_n 1, 1, 0, 0, 0)] (by decide +kernel) (g := true) (lv' := [some (.ref l0), some (.int l1)]) (st' := [.int l1]) (D' := D) (pc' := 1) rfl (rfl) rfl ?_
  refine ev_if_ne hX (off := 11) 12 (by decide +kernel) (by decide) (fun h1 => ?_) (fun h1 => ?_)
  · have hf := ev_nf h1 hf
    refine ev_blk hX lkok_RX11 [(.iload_n 1, 1, 0, 0, 0), (.bipush 10, 2, 0, 0, 10), (.bipush 9, 2, 0, 0, 9), (.aload_n 0, 1, 0, 0, 0), (.getfield 10, 3, 11, 0, 0), (.getfield 32, 3, 10, 0, 0), (.getfield 159, 3, 9, 5, 0), (.iadd, 1, 0, 0, 0)] (by decide +kernel) (g := (sK S l0 == 14) && ((sK S ((sE S) l0 0) == 13) && ((sK S ((sE S) ((sE S) l0 0) 0) == 12) && (true)))) (lv' := [some (.ref l0), some (.int l1)]) (st' := [.int ((9 : Int32) + (D ((sE S) ((sE S) l0 0) 0) 5)), .int (10 : Int32), .int l1]) (D' := D) (pc' := 28) rfl (ev_gk hl0 (ev_gk (ev_tyk hT hl0 rfl rfl) (ev_gk (ev_tyk hT (ev_tyk hT hl0 rfl rfl) rfl rfl) (rfl)))) rfl ?_
    obtain ⟨v2, D2, hc2, hf⟩ := ev_bd_s hf
    refine ev_callS hX YX11_within ml_RX11_85 (mX11_within hT  hc2) (vs := [.int l1, .int (10 : Int32), .int ((9 : Int32) + (D ((sE S) ((sE S) l0 0) 0) 5))]) (st := []) (by decide) rfl rfl (by decide +kernel) hC ?_
    show F S D2 31 [some (.ref l0), some (.int l1)] [.int v2]
    refine ev_if_eq hX (off := 17) 48 (by decide +kernel) (by decide) (fun h3 => ?_) (fun h3 => ?_)
    · have hf := ev_it h3 hf
      refine ev_blk hX lkok_RX11 [(.iconst (-1), 1, 0, 0, (-1))] (by decide +kernel) (g := true) (lv' := [some (.ref l0), some (.int l1)]) (st' := [.int (-1 : Int32)]) (D' := D2) (pc' := 49) rfl (rfl) rfl ?_
      exact ev_iret hR ev_sm.rf (Option.some.inj hf) hC (by decide +kernel)
    · have hf := ev_nf h3 hf
      refine ev_blk hX lkok_RX11 [(.aload_n 0, 1, 0, 0, 0), (.getfield 71, 3, 11, 5, 0), (.iload_n 1, 1, 0, 0, 0), (.bipush 10, 2, 0, 0, 10), (.isub, 1, 0, 0, 0)] (by decide +kernel) (g := (sK S l0 == 14) && (true)) (lv' := [some (.ref l0), some (.int l1)]) (st' := [.int (l1 - (10 : Int32)), .ref ((sE S) l0 5)]) (D' := D2) (pc' := 42) rfl (ev_gk hl0 (rfl)) rfl ?_
      obtain ⟨v4, D4, hc4, hf⟩ := ev_bd_s hf
      refine ev_callV hX YX3_fedAt ml_RX11_300 (mX3_fedAt hT (ev_tyk hT hl0 rfl rfl) hc4) (vs := [.int (l1 - (10 : Int32))]) (st := []) (by decide) 3 (ev_tyk hT hl0 rfl rfl) rfl rfl rfl (by decide +kernel) hC ?_
      show F S D4 45 [some (.ref l0), some (.int l1)] [.int v4]
      refine ev_goto hX (off := 4) 49 (by decide +kernel) (by decide) ?_
      exact ev_iret hR ev_sm.rf (Option.some.inj hf) hC (by decide +kernel)
  · have hf := ev_it h1 hf
    refine ev_blk hX lkok_RX11 [(.aload_n 0, 1, 0, 0, 0), (.getfield 71, 3, 11, 5, 0)] (by decide +kernel) (g := (sK S l0 == 14) && (true)) (lv' := [some (.ref l0), some (.int l1)]) (st' := [.ref ((sE S) l0 5)]) (D' := D) (pc' := 8) rfl (ev_gk hl0 (rfl)) rfl ?_
    obtain ⟨v5, D5, hc5, hf⟩ := ev_bd_s hf
    refine ev_callV hX YX3_feedingSum ml_RX11_297 (mX3_feedingSum hT (ev_tyk hT hl0 rfl rfl) hc5) (vs := []) (st := []) (by decide) 3 (ev_tyk hT hl0 rfl rfl) rfl rfl rfl (by decide +kernel) hC ?_
    show F S D5 11 [some (.ref l0), some (.int l1)] [.int v5]
    exact ev_iret hR ev_sm.rf (Option.some.inj hf) hC (by decide +kernel)
theorem mX11_feeds {S : ev_S} {fu : Nat} {r : Int32 × ev_D} (hT : ev_Ty S) {l0 : Nat} {l1 : Int32} {D : ev_D} (hl0 : sK S l0 = 14) (hf : fX11_feeds (sL S) (sE S) fu l0 l1 D = some r) : ev_M 4 0 0 yX11_feeds cX11_feeds 2 (some .int) [.ref l0, .int l1] S D S r :=
  ev_met (ini := false) (plainFor_of_name (by decide)) (fun h => by cases h) rfl (Nat.le_of_ble_eq_true rfl) (fun F hR => tX11_feeds (S := ev_z S) hR hT ⟨Nat.le_refl 0, Nat.le_refl 0⟩ hl0 hf)
set_option maxHeartbeats 4000000 in
set_option maxRecDepth 100000 in
theorem tX3_anyBeat_2 {S : ev_S} {fu : Nat} {r : Int32 × ev_D} {F : ev_Fr} (hR : ev_R RX3 cX3_anyBeat 3 1 0 0 false (some .boolean) S r F) (hT : ev_Ty S) (hC : sC S ≤ 0 ∧ sA S ≤ 0) : ∀ (n : Nat) (l0 : Nat) (l1 : Int32) (l2 : Int32) (D : ev_D), sK S l0 = 6 → fX3_anyBeat_2 (sL S) (sE S) fu n l0 l1 l2 D = some r → F S D 2 [some (.ref l0), some (.int l1), some (.int l2)] [] := by
  have hX := hR.X
  intro n
  induction n with
  | zero =>
    intro l0 l1 l2 D hl0 hf
    rw [fX3_anyBeat_2] at hf
    cases hf
  | succ n ih =>
    intro l0 l1 l2 D hl0 hf
    rw [fX3_anyBeat_2] at hf
    refine ev_blk hX lkok_RX3 [(.iload_n 2, 1, 0, 0, 0), (.bipush 8, 2, 0, 0, 8)] (by decide +kernel) (g := true) (lv' := [some (.ref l0), some (.int l1), some (.int l2)]) (st' := [.int (8 : Int32), .int l2]) (D' := D) (pc' := 5) rfl (rfl) rfl ?_
    refine ev_ic_ge hX (off := 30) 35 (by decide +kernel) (by decide) (fun h1 => ?_) (fun h1 => ?_)
    · have hf := ev_it h1 hf
      refine ev_blk hX lkok_RX3 [(.iconst 0, 1, 0, 0, 0)] (by decide +kernel) (g := true) (lv' := [some (.ref l0), some (.int l1), some (.int l2)]) (st' := [.int (0 : Int32)]) (D' := D) (pc' := 36) rfl (rfl) rfl ?_
      exact ev_zret hR ev_sm.rf (Or.inl rfl) (Option.some.inj hf) hC (by decide +kernel)
    · have hf := ev_nf h1 hf
      refine ev_blk hX lkok_RX3 [(.iload_n 1, 1, 0, 0, 0), (.iload_n 2, 1, 0, 0, 0)] (by decide +kernel) (g := true) (lv' := [some (.ref l0), some (.int l1), some (.int l2)]) (st' := [.int l2, .int l1]) (D' := D) (pc' := 10) rfl (rfl) rfl ?_
      obtain ⟨v2, D2, hc2, hf⟩ := ev_bd_s hf
      refine ev_callSN hX YX11_isIn ml_RX3_64 (mX11_isIn hT  hc2) (vs := [.int l1, .int l2]) (st := []) (by decide) rfl rfl (by decide +kernel) hC ?_
      show F S D2 13 [some (.ref l0), some (.int l1), some (.int l2)] [.int v2]
      refine ev_if_eq hX (off := 16) 29 (by decide +kernel) (by decide) (fun h3 => ?_) (fun h3 => ?_)
      · have hf := ev_it h3 hf
        refine ev_blk hX lkok_RX3 [(.iinc 2 1, 3, 0, 0, 1)] (by decide +kernel) (g := true) (lv' := [some (.ref l0), some (.int l1), some (.int (l2 + (1 : Int32)))]) (st' := []) (D' := D2) (pc' := 32) rfl (rfl) rfl ?_
        refine ev_goto hX (off := (-30)) 2 (by decide +kernel) (by decide) ?_
        exact ev_weak hX (ev_le_eq (ev_le_eq (ev_le_eq ev_le_nil))) (ih _ _ _ _ hl0 hf)
      · have hf := ev_nf h3 hf
        obtain ⟨hg5, hf⟩ := ev_gd_s hf
        refine ev_blk hX lkok_RX3 [(.aload_n 0, 1, 0, 0, 0), (.getfield 21, 3, 3, 6, 0), (.iload_n 2, 1, 0, 0, 0), (.iaload, 1, 0, 0, 0), (.iload_n 1, 1, 0, 0, 0), (.iand, 1, 0, 0, 0)] (by decide +kernel) (g := (sK S l0 == 6) && ((sK S ((sE S) l0 6) == 1 && ev_in l2 ((sL S) ((sE S) l0 6))) && (true))) (lv' := [some (.ref l0), some (.int l1), some (.int l2)]) (st' := [.int ((D2 ((sE S) l0 6) (l2).toNatClampNeg) &&& l1)]) (D' := D2) (pc' := 24) rfl (ev_gk hl0 (ev_gi (ev_tyk hT hl0 rfl rfl) hg5 (rfl))) rfl ?_
        refine ev_if_eq hX (off := 5) 29 (by decide +kernel) (by decide) (fun h4 => ?_) (fun h4 => ?_)
        · have hf := ev_it h4 hf
          refine ev_blk hX lkok_RX3 [(.iinc 2 1, 3, 0, 0, 1)] (by decide +kernel) (g := true) (lv' := [some (.ref l0), some (.int l1), some (.int (l2 + (1 : Int32)))]) (st' := []) (D' := D2) (pc' := 32) rfl (rfl) rfl ?_
          refine ev_goto hX (off := (-30)) 2 (by decide +kernel) (by decide) ?_
          exact ev_weak hX (ev_le_eq (ev_le_eq (ev_le_eq ev_le_nil))) (ih _ _ _ _ hl0 hf)
        · have hf := ev_nf h4 hf
          refine ev_blk hX lkok_RX3 [(.iconst 1, 1, 0, 0, 1)] (by decide +kernel) (g := true) (lv' := [some (.ref l0), some (.int l1), some (.int l2)]) (st' := [.int (1 : Int32)]) (D' := D2) (pc' := 28) rfl (rfl) rfl ?_
          exact ev_zret hR ev_sm.rf (Or.inr rfl) (Option.some.inj hf) hC (by decide +kernel)
set_option maxHeartbeats 4000000 in
set_option maxRecDepth 100000 in
theorem tX3_anyBeat {S : ev_S} {fu : Nat} {r : Int32 × ev_D} {F : ev_Fr} (hR : ev_R RX3 cX3_anyBeat 3 1 0 0 false (some .boolean) S r F) (hT : ev_Ty S) (hC : sC S ≤ 0 ∧ sA S ≤ 0) {l0 : Nat} {l1 : Int32} {D : ev_D} (hl0 : sK S l0 = 6) (hf : fX3_anyBeat (sL S) (sE S) fu l0 l1 D = some r) : F S D 0 [some (.ref l0), some (.int l1), none] [] := by
  have hX := hR.X
  unfold fX3_anyBeat at hf
  refine ev_blk hX lkok_RX3 [(.iconst 0, 1, 0, 0, 0), (.istore_n 2, 1, 0, 0, 0)] (by decide +kernel) (g := true) (lv' := [some (.ref l0), some (.int l1), some (.int (0 : Int32))]) (st' := []) (D' := D) (pc' := 2) rfl (rfl) rfl ?_
  exact ev_weak hX (ev_le_eq (ev_le_eq (ev_le_eq ev_le_nil))) (tX3_anyBeat_2 hR hT hC   fu _ _ _ _ hl0 hf)
theorem mX3_anyBeat {S : ev_S} {fu : Nat} {r : Int32 × ev_D} (hT : ev_Ty S) {l0 : Nat} {l1 : Int32} {D : ev_D} (hl0 : sK S l0 = 6) (hf : fX3_anyBeat (sL S) (sE S) fu l0 l1 D = some r) : ev_M 1 0 0 yX3_anyBeat cX3_anyBeat 3 (some .boolean) [.ref l0, .int l1] S D S r :=
  ev_met (ini := false) (plainFor_of_name (by decide)) (fun h => by cases h) rfl (Nat.le_of_ble_eq_true rfl) (fun F hR => tX3_anyBeat (S := ev_z S) hR hT ⟨Nat.le_refl 0, Nat.le_refl 0⟩ hl0 hf)
set_option maxHeartbeats 4000000 in
set_option maxRecDepth 100000 in
theorem tX3_beat {S : ev_S} {fu : Nat} {r : Int32 × ev_D} {F : ev_Fr} (hR : ev_R RX3 cX3_beat 5 1 0 0 false (some .boolean) S r F) (hT : ev_Ty S) (hC : sC S ≤ 0 ∧ sA S ≤ 0) {l0 : Nat} {l1 : Int32} {l2 : Int32} {D : ev_D} (hl0 : sK S l0 = 6) (hf : fX3_beat (sL S) (sE S) fu l0 l1 l2 D = some r) : F S D 0 [some (.ref l0), some (.int l1), some (.int l2), none, none] [] := by
  have hX := hR.X
  unfold fX3_beat at hf
  obtain ⟨hg7, hf⟩ := ev_gd_s hf
  obtain ⟨hg8, hf⟩ := ev_gd_s hf
  refine ev_blk hX lkok_RX3 [(.aload_n 0, 1, 0, 0, 0), (.getfield 33, 3, 3, 0, 0), (.getfield 148, 3, 9, 7, 0), (.iload_n 1, 1, 0, 0, 0), (.iaload, 1, 0, 0, 0), (.aload_n 0, 1, 0, 0, 0), (.getfield 33, 3, 3, 0, 0), (.getfield 148, 3, 9, 7, 0), (.iload_n 2, 1, 0, 0, 0), (.iaload, 1, 0, 0, 0)] (by decide +kernel) (g := (sK S l0 == 6) && ((sK S ((sE S) l0 0) == 12) && ((sK S ((sE S) ((sE S) l0 0) 7) == 1 && ev_in l1 ((sL S) ((sE S) ((sE S) l0 0) 7))) && ((sK S l0 == 6) && ((sK S ((sE S) l0 0) == 12) && ((sK S ((sE S) ((sE S) l0 0) 7) == 1 && ev_in l2 ((sL S) ((sE S) ((sE S) l0 0) 7))) && (true))))))) (lv' := [some (.ref l0), some (.int l1), some (.int l2), none, none]) (st' := [.int (D ((sE S) ((sE S) l0 0) 7) (l2).toNatClampNeg), .int (D ((sE S) ((sE S) l0 0) 7) (l1).toNatClampNeg)]) (D' := D) (pc' := 18) rfl (ev_gk hl0 (ev_gk (ev_tyk hT hl0 rfl rfl) (ev_gi (ev_tyk hT (ev_tyk hT hl0 rfl rfl) rfl rfl) hg7 (ev_gk hl0 (ev_gk (ev_tyk hT hl0 rfl rfl) (ev_gi (ev_tyk hT (ev_tyk hT hl0 rfl rfl) rfl rfl) hg8 (rfl))))))) rfl ?_
  obtain ⟨v1, D1, hc1, hf⟩ := ev_bd_s hf
  refine ev_callS hX YJ9_min ml_RX3_122 (mJ9_min hT  hc1) (vs := [.int (D ((sE S) ((sE S) l0 0) 7) (l1).toNatClampNeg), .int (D ((sE S) ((sE S) l0 0) 7) (l2).toNatClampNeg)]) (st := []) (by decide) rfl rfl (by decide +kernel) hC ?_
  show F S D1 21 [some (.ref l0), some (.int l1), some (.int l2), none, none] [.int v1]
  obtain ⟨hg5, hf⟩ := ev_gd_s hf
  obtain ⟨hg6, hf⟩ := ev_gd_s hf
  refine ev_blk hX lkok_RX3 [(.istore_n 3, 1, 0, 0, 0), (.aload_n 0, 1, 0, 0, 0), (.getfield 33, 3, 3, 0, 0), (.getfield 148, 3, 9, 7, 0), (.iload_n 1, 1, 0, 0, 0), (.iaload, 1, 0, 0, 0), (.aload_n 0, 1, 0, 0, 0), (.getfield 33, 3, 3, 0, 0), (.getfield 148, 3, 9, 7, 0), (.iload_n 2, 1, 0, 0, 0), (.iaload, 1, 0, 0, 0)] (by decide +kernel) (g := (sK S l0 == 6) && ((sK S ((sE S) l0 0) == 12) && ((sK S ((sE S) ((sE S) l0 0) 7) == 1 && ev_in l1 ((sL S) ((sE S) ((sE S) l0 0) 7))) && ((sK S l0 == 6) && ((sK S ((sE S) l0 0) == 12) && ((sK S ((sE S) ((sE S) l0 0) 7) == 1 && ev_in l2 ((sL S) ((sE S) ((sE S) l0 0) 7))) && (true))))))) (lv' := [some (.ref l0), some (.int l1), some (.int l2), some (.int v1), none]) (st' := [.int (D1 ((sE S) ((sE S) l0 0) 7) (l2).toNatClampNeg), .int (D1 ((sE S) ((sE S) l0 0) 7) (l1).toNatClampNeg)]) (D' := D1) (pc' := 40) rfl (ev_gk hl0 (ev_gk (ev_tyk hT hl0 rfl rfl) (ev_gi (ev_tyk hT (ev_tyk hT hl0 rfl rfl) rfl rfl) hg5 (ev_gk hl0 (ev_gk (ev_tyk hT hl0 rfl rfl) (ev_gi (ev_tyk hT (ev_tyk hT hl0 rfl rfl) rfl rfl) hg6 (rfl))))))) rfl ?_
  obtain ⟨v2, D2, hc2, hf⟩ := ev_bd_s hf
  refine ev_callS hX YJ9_max ml_RX3_102 (mJ9_max hT  hc2) (vs := [.int (D1 ((sE S) ((sE S) l0 0) 7) (l1).toNatClampNeg), .int (D1 ((sE S) ((sE S) l0 0) 7) (l2).toNatClampNeg)]) (st := []) (by decide) rfl rfl (by decide +kernel) hC ?_
  show F S D2 43 [some (.ref l0), some (.int l1), some (.int l2), some (.int v1), none] [.int v2]
  refine ev_blk hX lkok_RX3 [(.istore 4, 2, 0, 0, 0), (.iload 4, 2, 0, 0, 0), (.iload_n 3, 1, 0, 0, 0)] (by decide +kernel) (g := true) (lv' := [some (.ref l0), some (.int l1), some (.int l2), some (.int v1), some (.int v2)]) (st' := [.int v1, .int v2]) (D' := D2) (pc' := 48) rfl (rfl) rfl ?_
  refine ev_ic_le hX (off := 15) 63 (by decide +kernel) (by decide) (fun h3 => ?_) (fun h3 => ?_)
  · have hf := ev_it h3 hf
    refine ev_blk hX lkok_RX3 [(.iconst 0, 1, 0, 0, 0)] (by decide +kernel) (g := true) (lv' := [some (.ref l0), some (.int l1), some (.int l2), some (.int v1), some (.int v2)]) (st' := [.int (0 : Int32)]) (D' := D2) (pc' := 64) rfl (rfl) rfl ?_
    exact ev_zret hR ev_sm.rf (Or.inl rfl) (Option.some.inj hf) hC (by decide +kernel)
  · have hf := ev_nf h3 hf
    refine ev_blk hX lkok_RX3 [(.iload 4, 2, 0, 0, 0), (.iconst 2, 1, 0, 0, 2), (.iload_n 3, 1, 0, 0, 0), (.imul, 1, 0, 0, 0)] (by decide +kernel) (g := true) (lv' := [some (.ref l0), some (.int l1), some (.int l2), some (.int v1), some (.int v2)]) (st' := [.int ((2 : Int32) * v1), .int v2]) (D' := D2) (pc' := 56) rfl (rfl) rfl ?_
    refine ev_ic_ge hX (off := 7) 63 (by decide +kernel) (by decide) (fun h4 => ?_) (fun h4 => ?_)
    · have hf := ev_it h4 hf
      refine ev_blk hX lkok_RX3 [(.iconst 0, 1, 0, 0, 0)] (by decide +kernel) (g := true) (lv' := [some (.ref l0), some (.int l1), some (.int l2), some (.int v1), some (.int v2)]) (st' := [.int (0 : Int32)]) (D' := D2) (pc' := 64) rfl (rfl) rfl ?_
      exact ev_zret hR ev_sm.rf (Or.inl rfl) (Option.some.inj hf) hC (by decide +kernel)
    · have hf := ev_nf h4 hf
      refine ev_blk hX lkok_RX3 [(.iconst 1, 1, 0, 0, 1)] (by decide +kernel) (g := true) (lv' := [some (.ref l0), some (.int l1), some (.int l2), some (.int v1), some (.int v2)]) (st' := [.int (1 : Int32)]) (D' := D2) (pc' := 60) rfl (rfl) rfl ?_
      refine ev_goto hX (off := 4) 64 (by decide +kernel) (by decide) ?_
      exact ev_zret hR ev_sm.rf (Or.inr rfl) (Option.some.inj hf) hC (by decide +kernel)
theorem mX3_beat {S : ev_S} {fu : Nat} {r : Int32 × ev_D} (hT : ev_Ty S) {l0 : Nat} {l1 : Int32} {l2 : Int32} {D : ev_D} (hl0 : sK S l0 = 6) (hf : fX3_beat (sL S) (sE S) fu l0 l1 l2 D = some r) : ev_M 1 0 0 yX3_beat cX3_beat 5 (some .boolean) [.ref l0, .int l1, .int l2] S D S r :=
  ev_met (ini := false) (plainFor_of_name (by decide)) (fun h => by cases h) rfl (Nat.le_of_ble_eq_true rfl) (fun F hR => tX3_beat (S := ev_z S) hR hT ⟨Nat.le_refl 0, Nat.le_refl 0⟩ hl0 hf)
set_option maxHeartbeats 4000000 in
set_option maxRecDepth 100000 in
theorem tX3_castAnew_67 {S : ev_S} {fu : Nat} {r : Int32 × ev_D} {F : ev_Fr} (hR : ev_R RX3 cX3_castAnew 4 2 0 0 false (some .int) S r F) (hT : ev_Ty S) (hC : sC S ≤ 0 ∧ sA S ≤ 0) : ∀ (n : Nat) (l0 : Nat) (l1 : Int32) (l2 : Int32) (l3 : Int32) (D : ev_D), sK S l0 = 6 → fX3_castAnew_67 (sL S) (sE S) fu n l0 l1 l2 l3 D = some r → F S D 67 [some (.ref l0), some (.int l1), some (.int l2), some (.int l3)] [] := by
  have hX := hR.X
  intro n
  induction n with
  | zero =>
    intro l0 l1 l2 l3 D hl0 hf
    rw [fX3_castAnew_67] at hf
    cases hf
  | succ n ih =>
    intro l0 l1 l2 l3 D hl0 hf
    rw [fX3_castAnew_67] at hf
    refine ev_blk hX lkok_RX3 [(.iload_n 3, 1, 0, 0, 0), (.sipush 256, 3, 0, 0, 256)] (by decide +kernel) (g := true) (lv' := [some (.ref l0), some (.int l1), some (.int l2), some (.int l3)]) (st' := [.int (256 : Int32), .int l3]) (D' := D) (pc' := 71) rfl (rfl) rfl ?_
    refine ev_ic_ge hX (off := 36) 107 (by decide +kernel) (by decide) (fun h1 => ?_) (fun h1 => ?_)
    · have hf := ev_it h1 hf
      refine ev_blk hX lkok_RX3 [(.iload_n 1, 1, 0, 0, 0)] (by decide +kernel) (g := true) (lv' := [some (.ref l0), some (.int l1), some (.int l2), some (.int l3)]) (st' := [.int l1]) (D' := D) (pc' := 108) rfl (rfl) rfl ?_
      refine ev_if_ne hX (off := 10) 118 (by decide +kernel) (by decide) (fun h2 => ?_) (fun h2 => ?_)
      · have hf := ev_nf h2 hf
        refine ev_blk hX lkok_RX3 [(.iload_n 2, 1, 0, 0, 0)] (by decide +kernel) (g := true) (lv' := [some (.ref l0), some (.int l1), some (.int l2), some (.int l3)]) (st' := [.int l2]) (D' := D) (pc' := 119) rfl (rfl) rfl ?_
        exact ev_iret hR ev_sm.rf (Option.some.inj hf) hC (by decide +kernel)
      · have hf := ev_it h2 hf
        refine ev_blk hX lkok_RX3 [(.iload_n 2, 1, 0, 0, 0)] (by decide +kernel) (g := true) (lv' := [some (.ref l0), some (.int l1), some (.int l2), some (.int l3)]) (st' := [.int l2]) (D' := D) (pc' := 112) rfl (rfl) rfl ?_
        obtain ⟨v3, D3, hc3, hf⟩ := ev_bd_s hf
        refine ev_callS hX YJ6_bitCount ml_RX3_88 (mJ6_bitCount hT  hc3) (vs := [.int l2]) (st := []) (by decide) rfl rfl (by decide +kernel) hC ?_
        show F S D3 115 [some (.ref l0), some (.int l1), some (.int l2), some (.int l3)] [.int v3]
        refine ev_goto hX (off := 4) 119 (by decide +kernel) (by decide) ?_
        exact ev_iret hR ev_sm.rf (Option.some.inj hf) hC (by decide +kernel)
    · have hf := ev_nf h1 hf
      refine ev_blk hX lkok_RX3 [(.iload_n 3, 1, 0, 0, 0)] (by decide +kernel) (g := true) (lv' := [some (.ref l0), some (.int l1), some (.int l2), some (.int l3)]) (st' := [.int l3]) (D' := D) (pc' := 75) rfl (rfl) rfl ?_
      obtain ⟨v4, D4, hc4, hf⟩ := ev_bd_s hf
      refine ev_callS hX YJ6_bitCount ml_RX3_88 (mJ6_bitCount hT  hc4) (vs := [.int l3]) (st := []) (by decide) rfl rfl (by decide +kernel) hC ?_
      show F S D4 78 [some (.ref l0), some (.int l1), some (.int l2), some (.int l3)] [.int v4]
      refine ev_blk hX lkok_RX3 [(.iload_n 2, 1, 0, 0, 0)] (by decide +kernel) (g := true) (lv' := [some (.ref l0), some (.int l1), some (.int l2), some (.int l3)]) (st' := [.int l2, .int v4]) (D' := D4) (pc' := 79) rfl (rfl) rfl ?_
      obtain ⟨v5, D5, hc5, hf⟩ := ev_bd_s hf
      refine ev_callS hX YJ6_bitCount ml_RX3_88 (mJ6_bitCount hT  hc5) (vs := [.int l2]) (st := [.int v4]) (by decide) rfl rfl (by decide +kernel) hC ?_
      show F S D5 82 [some (.ref l0), some (.int l1), some (.int l2), some (.int l3)] [.int v5, .int v4]
      refine ev_ic_ge hX (off := 19) 101 (by decide +kernel) (by decide) (fun h6 => ?_) (fun h6 => ?_)
      · have hf := ev_it h6 hf
        refine ev_blk hX lkok_RX3 [(.iinc 3 1, 3, 0, 0, 1)] (by decide +kernel) (g := true) (lv' := [some (.ref l0), some (.int l1), some (.int l2), some (.int (l3 + (1 : Int32)))]) (st' := []) (D' := D5) (pc' := 104) rfl (rfl) rfl ?_
        refine ev_goto hX (off := (-37)) 67 (by decide +kernel) (by decide) ?_
        exact ev_weak hX (ev_le_eq (ev_le_eq (ev_le_eq (ev_le_eq ev_le_nil)))) (ih _ _ _ _ _ hl0 hf)
      · have hf := ev_nf h6 hf
        refine ev_blk hX lkok_RX3 [(.aload_n 0, 1, 0, 0, 0), (.iload_n 3, 1, 0, 0, 0), (.iconst (-1), 1, 0, 0, (-1)), (.ixor, 1, 0, 0, 0), (.sipush 255, 3, 0, 0, 255), (.iand, 1, 0, 0, 0)] (by decide +kernel) (g := true) (lv' := [some (.ref l0), some (.int l1), some (.int l2), some (.int l3)]) (st' := [.int ((l3 ^^^ (-1 : Int32)) &&& (255 : Int32)), .ref l0]) (D' := D5) (pc' := 93) rfl (rfl) rfl ?_
        obtain ⟨v7, D7, hc7, hf⟩ := ev_bd_s hf
        refine ev_callV hX YX3_anyBeat ml_RX3_188 (mX3_anyBeat hT hl0 hc7) (vs := [.int ((l3 ^^^ (-1 : Int32)) &&& (255 : Int32))]) (st := []) (by decide) 3 hl0 rfl rfl rfl (by decide +kernel) hC ?_
        show F S D7 96 [some (.ref l0), some (.int l1), some (.int l2), some (.int l3)] [.int v7]
        refine ev_if_ne hX (off := 5) 101 (by decide +kernel) (by decide) (fun h8 => ?_) (fun h8 => ?_)
        · have hf := ev_nf h8 hf
          refine ev_blk hX lkok_RX3 [(.iinc 3 1, 3, 0, 0, 1)] (by decide +kernel) (g := true) (lv' := [some (.ref l0), some (.int l1), some (.int l2), some (.int (l3 + (1 : Int32)))]) (st' := []) (D' := D7) (pc' := 104) rfl (rfl) rfl ?_
          refine ev_goto hX (off := (-37)) 67 (by decide +kernel) (by decide) ?_
          exact ev_weak hX (ev_le_eq (ev_le_eq (ev_le_eq (ev_le_eq ev_le_nil)))) (ih _ _ _ _ _ hl0 hf)
        · have hf := ev_it h8 hf
          refine ev_blk hX lkok_RX3 [(.iload_n 3, 1, 0, 0, 0), (.istore_n 2, 1, 0, 0, 0), (.iinc 3 1, 3, 0, 0, 1)] (by decide +kernel) (g := true) (lv' := [some (.ref l0), some (.int l1), some (.int l3), some (.int (l3 + (1 : Int32)))]) (st' := []) (D' := D7) (pc' := 104) rfl (rfl) rfl ?_
          refine ev_goto hX (off := (-37)) 67 (by decide +kernel) (by decide) ?_
          exact ev_weak hX (ev_le_eq (ev_le_eq (ev_le_eq (ev_le_eq ev_le_nil)))) (ih _ _ _ _ _ hl0 hf)
set_option maxHeartbeats 4000000 in
set_option maxRecDepth 100000 in
theorem tX3_castAnew_18 {S : ev_S} {fu : Nat} {r : Int32 × ev_D} {F : ev_Fr} (hR : ev_R RX3 cX3_castAnew 4 2 0 0 false (some .int) S r F) (hT : ev_Ty S) (hC : sC S ≤ 0 ∧ sA S ≤ 0) {k10 : Nat → Int32 → Int32 → ev_D → ev_Op} (hk10 : ∀ (l0 : Nat) (l1 : Int32) (l2 : Int32) (D : ev_D), sK S l0 = 6 → k10 l0 l1 l2 D = some r → F S D 10 [some (.ref l0), some (.int l1), some (.int l2), none] []) : ∀ (n : Nat) (l0 : Nat) (l1 : Int32) (l2 : Int32) (l3 : Int32) (D : ev_D), sK S l0 = 6 → fX3_castAnew_18 (sL S) (sE S) fu k10 n l0 l1 l2 l3 D = some r → F S D 18 [some (.ref l0), some (.int l1), some (.int l2), some (.int l3)] [] := by
  have hX := hR.X
  intro n
  induction n with
  | zero =>
    intro l0 l1 l2 l3 D hl0 hf
    rw [fX3_castAnew_18] at hf
    cases hf
  | succ n ih =>
    intro l0 l1 l2 l3 D hl0 hf
    rw [fX3_castAnew_18] at hf
    refine ev_blk hX lkok_RX3 [(.iload_n 3, 1, 0, 0, 0), (.bipush 8, 2, 0, 0, 8)] (by decide +kernel) (g := true) (lv' := [some (.ref l0), some (.int l1), some (.int l2), some (.int l3)]) (st' := [.int (8 : Int32), .int l3]) (D' := D) (pc' := 21) rfl (rfl) rfl ?_
    refine ev_ic_ge hX (off := 34) 55 (by decide +kernel) (by decide) (fun h9 => ?_) (fun h9 => ?_)
    · have hf := ev_it h9 hf
      refine ev_blk hX lkok_RX3 [(.iinc 2 1, 3, 0, 0, 1)] (by decide +kernel) (g := true) (lv' := [some (.ref l0), some (.int l1), some (.int (l2 + (1 : Int32))), some (.int l3)]) (st' := []) (D' := D) (pc' := 58) rfl (rfl) rfl ?_
      refine ev_goto hX (off := (-48)) 10 (by decide +kernel) (by decide) ?_
      exact ev_weak hX (ev_le_eq (ev_le_eq (ev_le_eq (ev_le_no ev_le_nil)))) (hk10 _ _ _ _ hl0 hf)
    · have hf := ev_nf h9 hf
      obtain ⟨hg14, hf⟩ := ev_gd_s hf
      refine ev_blk hX lkok_RX3 [(.aload_n 0, 1, 0, 0, 0), (.getfield 21, 3, 3, 6, 0), (.iload_n 2, 1, 0, 0, 0), (.dup2, 1, 0, 0, 0), (.iaload, 1, 0, 0, 0), (.aload_n 0, 1, 0, 0, 0), (.iload_n 2, 1, 0, 0, 0), (.iload_n 3, 1, 0, 0, 0)] (by decide +kernel) (g := (sK S l0 == 6) && ((sK S ((sE S) l0 6) == 1 && ev_in l2 ((sL S) ((sE S) l0 6))) && (true))) (lv' := [some (.ref l0), some (.int l1), some (.int l2), some (.int l3)]) (st' := [.int l3, .int l2, .ref l0, .int (D ((sE S) l0 6) (l2).toNatClampNeg), .int l2, .ref ((sE S) l0 6)]) (D' := D) (pc' := 34) rfl (ev_gk hl0 (ev_gi (ev_tyk hT hl0 rfl rfl) hg14 (rfl))) rfl ?_
      obtain ⟨v10, D10, hc10, hf⟩ := ev_bd_s hf
      refine ev_callV hX YX3_beat ml_RX3_185 (mX3_beat hT hl0 hc10) (vs := [.int l2, .int l3]) (st := [.int (D ((sE S) l0 6) (l2).toNatClampNeg), .int l2, .ref ((sE S) l0 6)]) (by decide) 3 hl0 rfl rfl rfl (by decide +kernel) hC ?_
      show F S D10 37 [some (.ref l0), some (.int l1), some (.int l2), some (.int l3)] [.int v10, .int (D ((sE S) l0 6) (l2).toNatClampNeg), .int l2, .ref ((sE S) l0 6)]
      refine ev_if_eq hX (off := 9) 46 (by decide +kernel) (by decide) (fun h11 => ?_) (fun h11 => ?_)
      · have hf := ev_it h11 hf
        obtain ⟨hg12, hf⟩ := ev_gd_s hf
        refine ev_blk hX lkok_RX3 [(.iconst 0, 1, 0, 0, 0), (.ior, 1, 0, 0, 0), (.iastore, 1, 0, 0, 0), (.iinc 3 1, 3, 0, 0, 1)] (by decide +kernel) (g := (sK S ((sE S) l0 6) == 1 && ev_in l2 ((sL S) ((sE S) l0 6))) && (true)) (lv' := [some (.ref l0), some (.int l1), some (.int l2), some (.int (l3 + (1 : Int32)))]) (st' := []) (D' := (ev_up D10 ((sE S) l0 6) (l2).toNatClampNeg ((D ((sE S) l0 6) (l2).toNatClampNeg) ||| (0 : Int32)))) (pc' := 52) rfl (ev_gi (ev_tyk hT hl0 rfl rfl) hg12 (rfl)) rfl ?_
        refine ev_goto hX (off := (-34)) 18 (by decide +kernel) (by decide) ?_
        exact ev_weak hX (ev_le_eq (ev_le_eq (ev_le_eq (ev_le_eq ev_le_nil)))) (ih _ _ _ _ _ hl0 hf)
      · have hf := ev_nf h11 hf
        refine ev_blk hX lkok_RX3 [(.iconst 1, 1, 0, 0, 1), (.iload_n 3, 1, 0, 0, 0), (.ishl, 1, 0, 0, 0)] (by decide +kernel) (g := true) (lv' := [some (.ref l0), some (.int l1), some (.int l2), some (.int l3)]) (st' := [.int ((1 : Int32) <<< (l3 &&& 31)), .int (D ((sE S) l0 6) (l2).toNatClampNeg), .int l2, .ref ((sE S) l0 6)]) (D' := D10) (pc' := 43) rfl (rfl) rfl ?_
        refine ev_goto hX (off := 4) 47 (by decide +kernel) (by decide) ?_
        obtain ⟨hg13, hf⟩ := ev_gd_s hf
        refine ev_blk hX lkok_RX3 [(.ior, 1, 0, 0, 0), (.iastore, 1, 0, 0, 0), (.iinc 3 1, 3, 0, 0, 1)] (by decide +kernel) (g := (sK S ((sE S) l0 6) == 1 && ev_in l2 ((sL S) ((sE S) l0 6))) && (true)) (lv' := [some (.ref l0), some (.int l1), some (.int l2), some (.int (l3 + (1 : Int32)))]) (st' := []) (D' := (ev_up D10 ((sE S) l0 6) (l2).toNatClampNeg ((D ((sE S) l0 6) (l2).toNatClampNeg) ||| ((1 : Int32) <<< (l3 &&& 31))))) (pc' := 52) rfl (ev_gi (ev_tyk hT hl0 rfl rfl) hg13 (rfl)) rfl ?_
        refine ev_goto hX (off := (-34)) 18 (by decide +kernel) (by decide) ?_
        exact ev_weak hX (ev_le_eq (ev_le_eq (ev_le_eq (ev_le_eq ev_le_nil)))) (ih _ _ _ _ _ hl0 hf)
set_option maxHeartbeats 4000000 in
set_option maxRecDepth 100000 in
theorem tX3_castAnew_10 {S : ev_S} {fu : Nat} {r : Int32 × ev_D} {F : ev_Fr} (hR : ev_R RX3 cX3_castAnew 4 2 0 0 false (some .int) S r F) (hT : ev_Ty S) (hC : sC S ≤ 0 ∧ sA S ≤ 0) : ∀ (n : Nat) (l0 : Nat) (l1 : Int32) (l2 : Int32) (D : ev_D), sK S l0 = 6 → fX3_castAnew_10 (sL S) (sE S) fu n l0 l1 l2 D = some r → F S D 10 [some (.ref l0), some (.int l1), some (.int l2), none] [] := by
  have hX := hR.X
  intro n
  induction n with
  | zero =>
    intro l0 l1 l2 D hl0 hf
    rw [fX3_castAnew_10] at hf
    cases hf
  | succ n ih =>
    intro l0 l1 l2 D hl0 hf
    rw [fX3_castAnew_10] at hf
    refine ev_blk hX lkok_RX3 [(.iload_n 2, 1, 0, 0, 0), (.bipush 8, 2, 0, 0, 8)] (by decide +kernel) (g := true) (lv' := [some (.ref l0), some (.int l1), some (.int l2), none]) (st' := [.int (8 : Int32), .int l2]) (D' := D) (pc' := 13) rfl (rfl) rfl ?_
    refine ev_ic_ge hX (off := 48) 61 (by decide +kernel) (by decide) (fun h15 => ?_) (fun h15 => ?_)
    · have hf := ev_it h15 hf
      refine ev_blk hX lkok_RX3 [(.sipush 255, 3, 0, 0, 255), (.istore_n 2, 1, 0, 0, 0), (.iconst 0, 1, 0, 0, 0), (.istore_n 3, 1, 0, 0, 0)] (by decide +kernel) (g := true) (lv' := [some (.ref l0), some (.int l1), some (.int (255 : Int32)), some (.int (0 : Int32))]) (st' := []) (D' := D) (pc' := 67) rfl (rfl) rfl ?_
      exact ev_weak hX (ev_le_eq (ev_le_eq (ev_le_eq (ev_le_eq ev_le_nil)))) (tX3_castAnew_67 hR hT hC   fu _ _ _ _ _ hl0 hf)
    · have hf := ev_nf h15 hf
      refine ev_blk hX lkok_RX3 [(.iconst 0, 1, 0, 0, 0), (.istore_n 3, 1, 0, 0, 0)] (by decide +kernel) (g := true) (lv' := [some (.ref l0), some (.int l1), some (.int l2), some (.int (0 : Int32))]) (st' := []) (D' := D) (pc' := 18) rfl (rfl) rfl ?_
      exact ev_weak hX (ev_le_eq (ev_le_eq (ev_le_eq (ev_le_eq ev_le_nil)))) (tX3_castAnew_18 hR hT hC  ih fu _ _ _ _ _ hl0 hf)
set_option maxHeartbeats 4000000 in
set_option maxRecDepth 100000 in
theorem tX3_castAnew {S : ev_S} {fu : Nat} {r : Int32 × ev_D} {F : ev_Fr} (hR : ev_R RX3 cX3_castAnew 4 2 0 0 false (some .int) S r F) (hT : ev_Ty S) (hC : sC S ≤ 0 ∧ sA S ≤ 0) {l0 : Nat} {l1 : Int32} {D : ev_D} (hl0 : sK S l0 = 6) (hf : fX3_castAnew (sL S) (sE S) fu l0 l1 D = some r) : F S D 0 [some (.ref l0), some (.int l1), none, none] [] := by
  have hX := hR.X
  unfold fX3_castAnew at hf
  refine ev_blk hX lkok_RX3 [(.aload_n 0, 1, 0, 0, 0), (.getfield 21, 3, 3, 6, 0), (.iconst 0, 1, 0, 0, 0)] (by decide +kernel) (g := (sK S l0 == 6) && (true)) (lv' := [some (.ref l0), some (.int l1), none, none]) (st' := [.int (0 : Int32), .ref ((sE S) l0 6)]) (D' := D) (pc' := 5) rfl (ev_gk hl0 (rfl)) rfl ?_
  obtain ⟨v16, D16, hc16, hf⟩ := ev_bd_s hf
  refine ev_callS hX YJ7_fill ml_RX3_132 (mJ7_fill hT (ev_tyk hT hl0 rfl rfl) hc16) (vs := [.ref ((sE S) l0 6), .int (0 : Int32)]) (st := []) (by decide) rfl rfl (by decide +kernel) hC ?_
  show F S D16 8 [some (.ref l0), some (.int l1), none, none] []
  refine ev_blk hX lkok_RX3 [(.iconst 0, 1, 0, 0, 0), (.istore_n 2, 1, 0, 0, 0)] (by decide +kernel) (g := true) (lv' := [some (.ref l0), some (.int l1), some (.int (0 : Int32)), none]) (st' := []) (D' := D16) (pc' := 10) rfl (rfl) rfl ?_
  exact ev_weak hX (ev_le_eq (ev_le_eq (ev_le_eq (ev_le_no ev_le_nil)))) (tX3_castAnew_10 hR hT hC   fu _ _ _ _ hl0 hf)
theorem mX3_castAnew {S : ev_S} {fu : Nat} {r : Int32 × ev_D} (hT : ev_Ty S) {l0 : Nat} {l1 : Int32} {D : ev_D} (hl0 : sK S l0 = 6) (hf : fX3_castAnew (sL S) (sE S) fu l0 l1 D = some r) : ev_M 2 0 0 yX3_castAnew cX3_castAnew 4 (some .int) [.ref l0, .int l1] S D S r :=
  ev_met (ini := false) (plainFor_of_name (by decide)) (fun h => by cases h) rfl (Nat.le_of_ble_eq_true rfl) (fun F hR => tX3_castAnew (S := ev_z S) hR hT ⟨Nat.le_refl 0, Nat.le_refl 0⟩ hl0 hf)
set_option maxHeartbeats 4000000 in
set_option maxRecDepth 100000 in
theorem tX11_casts {S : ev_S} {fu : Nat} {r : Int32 × ev_D} {F : ev_Fr} (hR : ev_R RX11 cX11_casts 2 3 0 0 false (some .int) S r F) (hT : ev_Ty S) (hC : sC S ≤ 0 ∧ sA S ≤ 0) {l0 : Nat} {l1 : Int32} {D : ev_D} (hl0 : sK S l0 = 14) (hf : fX11_casts (sL S) (sE S) fu l0 l1 D = some r) : F S D 0 [some (.ref l0), some (.int l1)] [] := by
  have hX := hR.X
  unfold fX11_casts at hf
  refine ev_blk hX lkok_RX11 [(.iload_n 1, 1, 0, 0, 0), (.iconst 0, 1, 0, 0, 0), (.iconst 1, 1, 0, 0, 1)] (by decide +kernel) (g := true) (lv' := [some (.ref l0), some (.int l1)]) (st' := [.int (1 : Int32), .int (0 : Int32), .int l1]) (D' := D) (pc' := 3) rfl (rfl) rfl ?_
  obtain ⟨v1, D1, hc1, hf⟩ := ev_bd_s hf
  refine ev_callS hX YX11_within ml_RX11_85 (mX11_within hT  hc1) (vs := [.int l1, .int (0 : Int32), .int (1 : Int32)]) (st := []) (by decide) rfl rfl (by decide +kernel) hC ?_
  show F S D1 6 [some (.ref l0), some (.int l1)] [.int v1]
  refine ev_if_eq hX (off := 14) 20 (by decide +kernel) (by decide) (fun h2 => ?_) (fun h2 => ?_)
  · have hf := ev_it h2 hf
    refine ev_blk hX lkok_RX11 [(.iconst (-1), 1, 0, 0, (-1))] (by decide +kernel) (g := true) (lv' := [some (.ref l0), some (.int l1)]) (st' := [.int (-1 : Int32)]) (D' := D1) (pc' := 21) rfl (rfl) rfl ?_
    exact ev_iret hR ev_sm.rf (Option.some.inj hf) hC (by decide +kernel)
  · have hf := ev_nf h2 hf
    refine ev_blk hX lkok_RX11 [(.aload_n 0, 1, 0, 0, 0), (.getfield 71, 3, 11, 5, 0), (.iload_n 1, 1, 0, 0, 0)] (by decide +kernel) (g := (sK S l0 == 14) && (true)) (lv' := [some (.ref l0), some (.int l1)]) (st' := [.int l1, .ref ((sE S) l0 5)]) (D' := D1) (pc' := 14) rfl (ev_gk hl0 (rfl)) rfl ?_
    obtain ⟨v3, D3, hc3, hf⟩ := ev_bd_s hf
    refine ev_callV hX YX3_castAnew ml_RX11_303 (mX3_castAnew hT (ev_tyk hT hl0 rfl rfl) hc3) (vs := [.int l1]) (st := []) (by decide) 3 (ev_tyk hT hl0 rfl rfl) rfl rfl rfl (by decide +kernel) hC ?_
    show F S D3 17 [some (.ref l0), some (.int l1)] [.int v3]
    refine ev_goto hX (off := 4) 21 (by decide +kernel) (by decide) ?_
    exact ev_iret hR ev_sm.rf (Option.some.inj hf) hC (by decide +kernel)
theorem mX11_casts {S : ev_S} {fu : Nat} {r : Int32 × ev_D} (hT : ev_Ty S) {l0 : Nat} {l1 : Int32} {D : ev_D} (hl0 : sK S l0 = 14) (hf : fX11_casts (sL S) (sE S) fu l0 l1 D = some r) : ev_M 3 0 0 yX11_casts cX11_casts 2 (some .int) [.ref l0, .int l1] S D S r :=
  ev_met (ini := false) (plainFor_of_name (by decide)) (fun h => by cases h) rfl (Nat.le_of_ble_eq_true rfl) (fun F hR => tX11_casts (S := ev_z S) hR hT ⟨Nat.le_refl 0, Nat.le_refl 0⟩ hl0 hf)
set_option maxHeartbeats 4000000 in
set_option maxRecDepth 100000 in
theorem tX11_opinion {S : ev_S} {fu : Nat} {r : Int32 × ev_D} {F : ev_Fr} (hR : ev_R RX11 cX11_opinion 3 1 0 0 false (some .boolean) S r F) (hT : ev_Ty S) (hC : sC S ≤ 0 ∧ sA S ≤ 0) {l0 : Nat} {l1 : Int32} {l2 : Int32} {D : ev_D} (hl0 : sK S l0 = 14) (hf : fX11_opinion (sL S) (sE S) fu l0 l1 l2 D = some r) : F S D 0 [some (.ref l0), some (.int l1), some (.int l2)] [] := by
  have hX := hR.X
  unfold fX11_opinion at hf
  refine ev_blk hX lkok_RX11 [(.iload_n 1, 1, 0, 0, 0), (.iconst 0, 1, 0, 0, 0), (.bipush 9, 2, 0, 0, 9)] (by decide +kernel) (g := true) (lv' := [some (.ref l0), some (.int l1), some (.int l2)]) (st' := [.int (9 : Int32), .int (0 : Int32), .int l1]) (D' := D) (pc' := 4) rfl (rfl) rfl ?_
  obtain ⟨v1, D1, hc1, hf⟩ := ev_bd_s hf
  refine ev_callS hX YX11_within ml_RX11_85 (mX11_within hT  hc1) (vs := [.int l1, .int (0 : Int32), .int (9 : Int32)]) (st := []) (by decide) rfl rfl (by decide +kernel) hC ?_
  show F S D1 7 [some (.ref l0), some (.int l1), some (.int l2)] [.int v1]
  refine ev_if_eq hX (off := 14) 21 (by decide +kernel) (by decide) (fun h2 => ?_) (fun h2 => ?_)
  · have hf := ev_it h2 hf
    refine ev_blk hX lkok_RX11 [(.iconst 0, 1, 0, 0, 0)] (by decide +kernel) (g := true) (lv' := [some (.ref l0), some (.int l1), some (.int l2)]) (st' := [.int (0 : Int32)]) (D' := D1) (pc' := 22) rfl (rfl) rfl ?_
    exact ev_zret hR ev_sm.rf (Or.inl rfl) (Option.some.inj hf) hC (by decide +kernel)
  · have hf := ev_nf h2 hf
    refine ev_blk hX lkok_RX11 [(.iload_n 2, 1, 0, 0, 0), (.bipush (-9), 2, 0, 0, (-9)), (.bipush 9, 2, 0, 0, 9)] (by decide +kernel) (g := true) (lv' := [some (.ref l0), some (.int l1), some (.int l2)]) (st' := [.int (9 : Int32), .int (-9 : Int32), .int l2]) (D' := D1) (pc' := 15) rfl (rfl) rfl ?_
    obtain ⟨v3, D3, hc3, hf⟩ := ev_bd_s hf
    refine ev_callS hX YX11_within ml_RX11_85 (mX11_within hT  hc3) (vs := [.int l2, .int (-9 : Int32), .int (9 : Int32)]) (st := []) (by decide) rfl rfl (by decide +kernel) hC ?_
    show F S D3 18 [some (.ref l0), some (.int l1), some (.int l2)] [.int v3]
    refine ev_if_ne hX (off := 5) 23 (by decide +kernel) (by decide) (fun h4 => ?_) (fun h4 => ?_)
    · have hf := ev_nf h4 hf
      obtain ⟨hg5, hf⟩ := ev_gd_s hf
      refine ev_blk hX lkok_RX11 [(.aload_n 0, 1, 0, 0, 0), (.getfield 10, 3, 11, 0, 0), (.getfield 64, 3, 10, 3, 0), (.getfield 306, 3, 8, 6, 0), (.iload_n 1, 1, 0, 0, 0), (.iload_n 2, 1, 0, 0, 0), (.iastore, 1, 0, 0, 0), (.iconst 1, 1, 0, 0, 1)] (by decide +kernel) (g := (sK S l0 == 14) && ((sK S ((sE S) l0 0) == 13) && ((sK S ((sE S) ((sE S) l0 0) 3) == 11) && ((sK S ((sE S) ((sE S) ((sE S) l0 0) 3) 6) == 1 && ev_in l1 ((sL S) ((sE S) ((sE S) ((sE S) l0 0) 3) 6))) && (true))))) (lv' := [some (.ref l0), some (.int l1), some (.int l2)]) (st' := [.int (1 : Int32)]) (D' := (ev_up D3 ((sE S) ((sE S) ((sE S) l0 0) 3) 6) (l1).toNatClampNeg l2)) (pc' := 37) rfl (ev_gk hl0 (ev_gk (ev_tyk hT hl0 rfl rfl) (ev_gk (ev_tyk hT (ev_tyk hT hl0 rfl rfl) rfl rfl) (ev_gi (ev_tyk hT (ev_tyk hT (ev_tyk hT hl0 rfl rfl) rfl rfl) rfl rfl) hg5 (rfl))))) rfl ?_
      exact ev_zret hR ev_sm.rf (Or.inr rfl) (Option.some.inj hf) hC (by decide +kernel)
    · have hf := ev_it h4 hf
      refine ev_blk hX lkok_RX11 [(.iconst 0, 1, 0, 0, 0)] (by decide +kernel) (g := true) (lv' := [some (.ref l0), some (.int l1), some (.int l2)]) (st' := [.int (0 : Int32)]) (D' := D3) (pc' := 22) rfl (rfl) rfl ?_
      exact ev_zret hR ev_sm.rf (Or.inl rfl) (Option.some.inj hf) hC (by decide +kernel)
theorem mX11_opinion {S : ev_S} {fu : Nat} {r : Int32 × ev_D} (hT : ev_Ty S) {l0 : Nat} {l1 : Int32} {l2 : Int32} {D : ev_D} (hl0 : sK S l0 = 14) (hf : fX11_opinion (sL S) (sE S) fu l0 l1 l2 D = some r) : ev_M 1 0 0 yX11_opinion cX11_opinion 3 (some .boolean) [.ref l0, .int l1, .int l2] S D S r :=
  ev_met (ini := false) (plainFor_of_name (by decide)) (fun h => by cases h) rfl (Nat.le_of_ble_eq_true rfl) (fun F hR => tX11_opinion (S := ev_z S) hR hT ⟨Nat.le_refl 0, Nat.le_refl 0⟩ hl0 hf)
set_option maxHeartbeats 4000000 in
set_option maxRecDepth 100000 in
theorem tX3_opinionOfAwake_4 {S : ev_S} {fu : Nat} {r : Int32 × ev_D} {F : ev_Fr} (hR : ev_R RX3 cX3_opinionOfAwake 3 2 0 0 false (some .int) S r F) (hT : ev_Ty S) (hC : sC S ≤ 0 ∧ sA S ≤ 0) : ∀ (n : Nat) (l0 : Nat) (l1 : Int32) (l2 : Int32) (D : ev_D), sK S l0 = 6 → fX3_opinionOfAwake_4 (sL S) (sE S) fu n l0 l1 l2 D = some r → F S D 4 [some (.ref l0), some (.int l1), some (.int l2)] [] := by
  have hX := hR.X
  intro n
  induction n with
  | zero =>
    intro l0 l1 l2 D hl0 hf
    rw [fX3_opinionOfAwake_4] at hf
    cases hf
  | succ n ih =>
    intro l0 l1 l2 D hl0 hf
    rw [fX3_opinionOfAwake_4] at hf
    refine ev_blk hX lkok_RX3 [(.iload_n 2, 1, 0, 0, 0), (.aload_n 0, 1, 0, 0, 0), (.getfield 33, 3, 3, 0, 0), (.getfield 114, 3, 9, 5, 0)] (by decide +kernel) (g := (sK S l0 == 6) && ((sK S ((sE S) l0 0) == 12) && (true))) (lv' := [some (.ref l0), some (.int l1), some (.int l2)]) (st' := [.int (D ((sE S) l0 0) 5), .int l2]) (D' := D) (pc' := 12) rfl (ev_gk hl0 (ev_gk (ev_tyk hT hl0 rfl rfl) (rfl))) rfl ?_
    refine ev_ic_ge hX (off := 32) 44 (by decide +kernel) (by decide) (fun h1 => ?_) (fun h1 => ?_)
    · have hf := ev_it h1 hf
      refine ev_blk hX lkok_RX3 [(.iload_n 1, 1, 0, 0, 0)] (by decide +kernel) (g := true) (lv' := [some (.ref l0), some (.int l1), some (.int l2)]) (st' := [.int l1]) (D' := D) (pc' := 45) rfl (rfl) rfl ?_
      exact ev_iret hR ev_sm.rf (Option.some.inj hf) hC (by decide +kernel)
    · have hf := ev_nf h1 hf
      refine ev_blk hX lkok_RX3 [(.aload_n 0, 1, 0, 0, 0), (.getfield 33, 3, 3, 0, 0), (.iload_n 2, 1, 0, 0, 0)] (by decide +kernel) (g := (sK S l0 == 6) && (true)) (lv' := [some (.ref l0), some (.int l1), some (.int l2)]) (st' := [.int l2, .ref ((sE S) l0 0)]) (D' := D) (pc' := 20) rfl (ev_gk hl0 (rfl)) rfl ?_
      obtain ⟨v2, D2, hc2, hf⟩ := ev_bd_s hf
      refine ev_callV hX YX9_isAwake ml_RX3_191 (mX9_isAwake hT (ev_tyk hT hl0 rfl rfl) hc2) (vs := [.int l2]) (st := []) (by decide) 9 (ev_tyk hT hl0 rfl rfl) rfl rfl rfl (by decide +kernel) hC ?_
      show F S D2 23 [some (.ref l0), some (.int l1), some (.int l2)] [.int v2]
      refine ev_if_eq hX (off := 15) 38 (by decide +kernel) (by decide) (fun h3 => ?_) (fun h3 => ?_)
      · have hf := ev_it h3 hf
        refine ev_blk hX lkok_RX3 [(.iinc 2 1, 3, 0, 0, 1)] (by decide +kernel) (g := true) (lv' := [some (.ref l0), some (.int l1), some (.int (l2 + (1 : Int32)))]) (st' := []) (D' := D2) (pc' := 41) rfl (rfl) rfl ?_
        refine ev_goto hX (off := (-37)) 4 (by decide +kernel) (by decide) ?_
        exact ev_weak hX (ev_le_eq (ev_le_eq (ev_le_eq ev_le_nil))) (ih _ _ _ _ hl0 hf)
      · have hf := ev_nf h3 hf
        obtain ⟨hg4, hf⟩ := ev_gd_s hf
        refine ev_blk hX lkok_RX3 [(.iload_n 1, 1, 0, 0, 0), (.aload_n 0, 1, 0, 0, 0), (.getfield 41, 3, 3, 2, 0), (.getfield 194, 3, 8, 6, 0), (.iload_n 2, 1, 0, 0, 0), (.iaload, 1, 0, 0, 0), (.iadd, 1, 0, 0, 0), (.istore_n 1, 1, 0, 0, 0), (.iinc 2 1, 3, 0, 0, 1)] (by decide +kernel) (g := (sK S l0 == 6) && ((sK S ((sE S) l0 2) == 11) && ((sK S ((sE S) ((sE S) l0 2) 6) == 1 && ev_in l2 ((sL S) ((sE S) ((sE S) l0 2) 6))) && (true)))) (lv' := [some (.ref l0), some (.int (l1 + (D2 ((sE S) ((sE S) l0 2) 6) (l2).toNatClampNeg))), some (.int (l2 + (1 : Int32)))]) (st' := []) (D' := D2) (pc' := 41) rfl (ev_gk hl0 (ev_gk (ev_tyk hT hl0 rfl rfl) (ev_gi (ev_tyk hT (ev_tyk hT hl0 rfl rfl) rfl rfl) hg4 (rfl)))) rfl ?_
        refine ev_goto hX (off := (-37)) 4 (by decide +kernel) (by decide) ?_
        exact ev_weak hX (ev_le_eq (ev_le_eq (ev_le_eq ev_le_nil))) (ih _ _ _ _ hl0 hf)
set_option maxHeartbeats 4000000 in
set_option maxRecDepth 100000 in
theorem tX3_opinionOfAwake {S : ev_S} {fu : Nat} {r : Int32 × ev_D} {F : ev_Fr} (hR : ev_R RX3 cX3_opinionOfAwake 3 2 0 0 false (some .int) S r F) (hT : ev_Ty S) (hC : sC S ≤ 0 ∧ sA S ≤ 0) {l0 : Nat} {D : ev_D} (hl0 : sK S l0 = 6) (hf : fX3_opinionOfAwake (sL S) (sE S) fu l0 D = some r) : F S D 0 [some (.ref l0), none, none] [] := by
  have hX := hR.X
  unfold fX3_opinionOfAwake at hf
  refine ev_blk hX lkok_RX3 [(.iconst 0, 1, 0, 0, 0), (.istore_n 1, 1, 0, 0, 0), (.iconst 0, 1, 0, 0, 0), (.istore_n 2, 1, 0, 0, 0)] (by decide +kernel) (g := true) (lv' := [some (.ref l0), some (.int (0 : Int32)), some (.int (0 : Int32))]) (st' := []) (D' := D) (pc' := 4) rfl (rfl) rfl ?_
  exact ev_weak hX (ev_le_eq (ev_le_eq (ev_le_eq ev_le_nil))) (tX3_opinionOfAwake_4 hR hT hC   fu _ _ _ _ hl0 hf)
theorem mX3_opinionOfAwake {S : ev_S} {fu : Nat} {r : Int32 × ev_D} (hT : ev_Ty S) {l0 : Nat} {D : ev_D} (hl0 : sK S l0 = 6) (hf : fX3_opinionOfAwake (sL S) (sE S) fu l0 D = some r) : ev_M 2 0 0 yX3_opinionOfAwake cX3_opinionOfAwake 3 (some .int) [.ref l0] S D S r :=
  ev_met (ini := false) (plainFor_of_name (by decide)) (fun h => by cases h) rfl (Nat.le_of_ble_eq_true rfl) (fun F hR => tX3_opinionOfAwake (S := ev_z S) hR hT ⟨Nat.le_refl 0, Nat.le_refl 0⟩ hl0 hf)
set_option maxHeartbeats 4000000 in
set_option maxRecDepth 100000 in
theorem tX3_countSets_58 {S : ev_S} {fu : Nat} {r : Int32 × ev_D} {F : ev_Fr} (hR : ev_R RX3 cX3_countSets 5 2 0 0 false none S r F) (hT : ev_Ty S) (hC : sC S ≤ 0 ∧ sA S ≤ 0) {k18 : Nat → Int32 → Int32 → ev_D → ev_Op} (hk18 : ∀ (l0 : Nat) (l1 : Int32) (l2 : Int32) (D : ev_D), sK S l0 = 6 → k18 l0 l1 l2 D = some r → F S D 18 [some (.ref l0), some (.int l1), some (.int l2), none, none] []) : ∀ (n : Nat) (l0 : Nat) (l1 : Int32) (l2 : Int32) (l3 : Int32) (D : ev_D), sK S l0 = 6 → fX3_countSets_58 (sL S) (sE S) fu k18 n l0 l1 l2 l3 D = some r → F S D 58 [some (.ref l0), some (.int l1), some (.int l2), some (.int l3), none] [] := by
  have hX := hR.X
  intro n
  induction n with
  | zero =>
    intro l0 l1 l2 l3 D hl0 hf
    rw [fX3_countSets_58] at hf
    cases hf
  | succ n ih =>
    intro l0 l1 l2 l3 D hl0 hf
    rw [fX3_countSets_58] at hf
    refine ev_blk hX lkok_RX3 [(.iload_n 3, 1, 0, 0, 0), (.aload_n 0, 1, 0, 0, 0), (.getfield 24, 3, 3, 7, 0), (.arraylength, 1, 0, 0, 0)] (by decide +kernel) (g := (sK S l0 == 6) && ((sK S ((sE S) l0 7) == 1) && (true))) (lv' := [some (.ref l0), some (.int l1), some (.int l2), some (.int l3), none]) (st' := [.int (Int32.ofNat ((sL S) ((sE S) l0 7))), .int l3]) (D' := D) (pc' := 64) rfl (ev_gk hl0 (ev_gk (ev_tyk hT hl0 rfl rfl) (rfl))) rfl ?_
    refine ev_ic_ge hX (off := 57) 121 (by decide +kernel) (by decide) (fun h1 => ?_) (fun h1 => ?_)
    · have hf := ev_it h1 hf
      refine ev_blk hX lkok_RX3 [(.iinc 2 1, 3, 0, 0, 1)] (by decide +kernel) (g := true) (lv' := [some (.ref l0), some (.int l1), some (.int (l2 + (1 : Int32))), some (.int l3), none]) (st' := []) (D' := D) (pc' := 124) rfl (rfl) rfl ?_
      refine ev_goto hX (off := (-106)) 18 (by decide +kernel) (by decide) ?_
      exact ev_weak hX (ev_le_eq (ev_le_eq (ev_le_eq (ev_le_no (ev_le_no ev_le_nil))))) (hk18 _ _ _ _ hl0 hf)
    · have hf := ev_nf h1 hf
      obtain ⟨hg8, hf⟩ := ev_gd_s hf
      obtain ⟨hg9, hf⟩ := ev_gd_s hf
      refine ev_blk hX lkok_RX3 [(.iload_n 3, 1, 0, 0, 0), (.aload_n 0, 1, 0, 0, 0), (.getfield 41, 3, 3, 2, 0), (.getfield 194, 3, 8, 6, 0), (.iload_n 2, 1, 0, 0, 0), (.iaload, 1, 0, 0, 0), (.isub, 1, 0, 0, 0), (.istore 4, 2, 0, 0, 0), (.aload_n 0, 1, 0, 0, 0), (.getfield 24, 3, 3, 7, 0), (.iload_n 3, 1, 0, 0, 0), (.dup2, 1, 0, 0, 0), (.iaload, 1, 0, 0, 0), (.iload 4, 2, 0, 0, 0)] (by decide +kernel) (g := (sK S l0 == 6) && ((sK S ((sE S) l0 2) == 11) && ((sK S ((sE S) ((sE S) l0 2) 6) == 1 && ev_in l2 ((sL S) ((sE S) ((sE S) l0 2) 6))) && ((sK S l0 == 6) && ((sK S ((sE S) l0 7) == 1 && ev_in l3 ((sL S) ((sE S) l0 7))) && (true)))))) (lv' := [some (.ref l0), some (.int l1), some (.int l2), some (.int l3), some (.int (l3 - (D ((sE S) ((sE S) l0 2) 6) (l2).toNatClampNeg)))]) (st' := [.int (l3 - (D ((sE S) ((sE S) l0 2) 6) (l2).toNatClampNeg)), .int (D ((sE S) l0 7) (l3).toNatClampNeg), .int l3, .ref ((sE S) l0 7)]) (D' := D) (pc' := 89) rfl (ev_gk hl0 (ev_gk (ev_tyk hT hl0 rfl rfl) (ev_gi (ev_tyk hT (ev_tyk hT hl0 rfl rfl) rfl rfl) hg8 (ev_gk hl0 (ev_gi (ev_tyk hT hl0 rfl rfl) hg9 (rfl)))))) rfl ?_
      refine ev_if_lt hX (off := 23) 112 (by decide +kernel) (by decide) (fun h2 => ?_) (fun h2 => ?_)
      · have hf := ev_it h2 hf
        obtain ⟨hg3, hf⟩ := ev_gd_s hf
        refine ev_blk hX lkok_RX3 [(.iconst 0, 1, 0, 0, 0), (.iadd, 1, 0, 0, 0), (.iastore, 1, 0, 0, 0), (.iinc 3 1, 3, 0, 0, 1)] (by decide +kernel) (g := (sK S ((sE S) l0 7) == 1 && ev_in l3 ((sL S) ((sE S) l0 7))) && (true)) (lv' := [some (.ref l0), some (.int l1), some (.int l2), some (.int (l3 + (1 : Int32))), some (.int (l3 - (D ((sE S) ((sE S) l0 2) 6) (l2).toNatClampNeg)))]) (st' := []) (D' := (ev_up D ((sE S) l0 7) (l3).toNatClampNeg ((D ((sE S) l0 7) (l3).toNatClampNeg) + (0 : Int32)))) (pc' := 118) rfl (ev_gi (ev_tyk hT hl0 rfl rfl) hg3 (rfl)) rfl ?_
        refine ev_goto hX (off := (-60)) 58 (by decide +kernel) (by decide) ?_
        exact ev_weak hX (ev_le_eq (ev_le_eq (ev_le_eq (ev_le_eq (ev_le_no ev_le_nil))))) (ih _ _ _ _ _ hl0 hf)
      · have hf := ev_nf h2 hf
        refine ev_blk hX lkok_RX3 [(.iload 4, 2, 0, 0, 0), (.aload_n 0, 1, 0, 0, 0), (.getfield 24, 3, 3, 7, 0), (.arraylength, 1, 0, 0, 0)] (by decide +kernel) (g := (sK S l0 == 6) && ((sK S ((sE S) l0 7) == 1) && (true))) (lv' := [some (.ref l0), some (.int l1), some (.int l2), some (.int l3), some (.int (l3 - (D ((sE S) ((sE S) l0 2) 6) (l2).toNatClampNeg)))]) (st' := [.int (Int32.ofNat ((sL S) ((sE S) l0 7))), .int (l3 - (D ((sE S) ((sE S) l0 2) 6) (l2).toNatClampNeg)), .int (D ((sE S) l0 7) (l3).toNatClampNeg), .int l3, .ref ((sE S) l0 7)]) (D' := D) (pc' := 99) rfl (ev_gk hl0 (ev_gk (ev_tyk hT hl0 rfl rfl) (rfl))) rfl ?_
        refine ev_ic_ge hX (off := 13) 112 (by decide +kernel) (by decide) (fun h4 => ?_) (fun h4 => ?_)
        · have hf := ev_it h4 hf
          obtain ⟨hg5, hf⟩ := ev_gd_s hf
          refine ev_blk hX lkok_RX3 [(.iconst 0, 1, 0, 0, 0), (.iadd, 1, 0, 0, 0), (.iastore, 1, 0, 0, 0), (.iinc 3 1, 3, 0, 0, 1)] (by decide +kernel) (g := (sK S ((sE S) l0 7) == 1 && ev_in l3 ((sL S) ((sE S) l0 7))) && (true)) (lv' := [some (.ref l0), some (.int l1), some (.int l2), some (.int (l3 + (1 : Int32))), some (.int (l3 - (D ((sE S) ((sE S) l0 2) 6) (l2).toNatClampNeg)))]) (st' := []) (D' := (ev_up D ((sE S) l0 7) (l3).toNatClampNeg ((D ((sE S) l0 7) (l3).toNatClampNeg) + (0 : Int32)))) (pc' := 118) rfl (ev_gi (ev_tyk hT hl0 rfl rfl) hg5 (rfl)) rfl ?_
          refine ev_goto hX (off := (-60)) 58 (by decide +kernel) (by decide) ?_
          exact ev_weak hX (ev_le_eq (ev_le_eq (ev_le_eq (ev_le_eq (ev_le_no ev_le_nil))))) (ih _ _ _ _ _ hl0 hf)
        · have hf := ev_nf h4 hf
          obtain ⟨hg7, hf⟩ := ev_gd_s hf
          refine ev_blk hX lkok_RX3 [(.aload_n 0, 1, 0, 0, 0), (.getfield 27, 3, 3, 8, 0), (.iload 4, 2, 0, 0, 0), (.iaload, 1, 0, 0, 0)] (by decide +kernel) (g := (sK S l0 == 6) && ((sK S ((sE S) l0 8) == 1 && ev_in (l3 - (D ((sE S) ((sE S) l0 2) 6) (l2).toNatClampNeg)) ((sL S) ((sE S) l0 8))) && (true))) (lv' := [some (.ref l0), some (.int l1), some (.int l2), some (.int l3), some (.int (l3 - (D ((sE S) ((sE S) l0 2) 6) (l2).toNatClampNeg)))]) (st' := [.int (D ((sE S) l0 8) ((l3 - (D ((sE S) ((sE S) l0 2) 6) (l2).toNatClampNeg))).toNatClampNeg), .int (D ((sE S) l0 7) (l3).toNatClampNeg), .int l3, .ref ((sE S) l0 7)]) (D' := D) (pc' := 109) rfl (ev_gk hl0 (ev_gi (ev_tyk hT hl0 rfl rfl) hg7 (rfl))) rfl ?_
          refine ev_goto hX (off := 4) 113 (by decide +kernel) (by decide) ?_
          obtain ⟨hg6, hf⟩ := ev_gd_s hf
          refine ev_blk hX lkok_RX3 [(.iadd, 1, 0, 0, 0), (.iastore, 1, 0, 0, 0), (.iinc 3 1, 3, 0, 0, 1)] (by decide +kernel) (g := (sK S ((sE S) l0 7) == 1 && ev_in l3 ((sL S) ((sE S) l0 7))) && (true)) (lv' := [some (.ref l0), some (.int l1), some (.int l2), some (.int (l3 + (1 : Int32))), some (.int (l3 - (D ((sE S) ((sE S) l0 2) 6) (l2).toNatClampNeg)))]) (st' := []) (D' := (ev_up D ((sE S) l0 7) (l3).toNatClampNeg ((D ((sE S) l0 7) (l3).toNatClampNeg) + (D ((sE S) l0 8) ((l3 - (D ((sE S) ((sE S) l0 2) 6) (l2).toNatClampNeg))).toNatClampNeg)))) (pc' := 118) rfl (ev_gi (ev_tyk hT hl0 rfl rfl) hg6 (rfl)) rfl ?_
          refine ev_goto hX (off := (-60)) 58 (by decide +kernel) (by decide) ?_
          exact ev_weak hX (ev_le_eq (ev_le_eq (ev_le_eq (ev_le_eq (ev_le_no ev_le_nil))))) (ih _ _ _ _ _ hl0 hf)
set_option maxHeartbeats 4000000 in
set_option maxRecDepth 100000 in
theorem tX3_countSets_18 {S : ev_S} {fu : Nat} {r : Int32 × ev_D} {F : ev_Fr} (hR : ev_R RX3 cX3_countSets 5 2 0 0 false none S r F) (hT : ev_Ty S) (hC : sC S ≤ 0 ∧ sA S ≤ 0) : ∀ (n : Nat) (l0 : Nat) (l1 : Int32) (l2 : Int32) (D : ev_D), sK S l0 = 6 → fX3_countSets_18 (sL S) (sE S) fu n l0 l1 l2 D = some r → F S D 18 [some (.ref l0), some (.int l1), some (.int l2), none, none] [] := by
  have hX := hR.X
  intro n
  induction n with
  | zero =>
    intro l0 l1 l2 D hl0 hf
    rw [fX3_countSets_18] at hf
    cases hf
  | succ n ih =>
    intro l0 l1 l2 D hl0 hf
    rw [fX3_countSets_18] at hf
    refine ev_blk hX lkok_RX3 [(.iload_n 2, 1, 0, 0, 0), (.aload_n 0, 1, 0, 0, 0), (.getfield 33, 3, 3, 0, 0), (.getfield 114, 3, 9, 5, 0)] (by decide +kernel) (g := (sK S l0 == 6) && ((sK S ((sE S) l0 0) == 12) && (true))) (lv' := [some (.ref l0), some (.int l1), some (.int l2), none, none]) (st' := [.int (D ((sE S) l0 0) 5), .int l2]) (D' := D) (pc' := 26) rfl (ev_gk hl0 (ev_gk (ev_tyk hT hl0 rfl rfl) (rfl))) rfl ?_
    refine ev_ic_ge hX (off := 101) 127 (by decide +kernel) (by decide) (fun h10 => ?_) (fun h10 => ?_)
    · have hf := ev_it h10 hf
      exact ev_vret hR ev_sm.rf (Option.some.inj hf) hC (by decide +kernel)
    · have hf := ev_nf h10 hf
      refine ev_blk hX lkok_RX3 [(.iload_n 2, 1, 0, 0, 0), (.iload_n 1, 1, 0, 0, 0)] (by decide +kernel) (g := true) (lv' := [some (.ref l0), some (.int l1), some (.int l2), none, none]) (st' := [.int l1, .int l2]) (D' := D) (pc' := 31) rfl (rfl) rfl ?_
      refine ev_ic_eq hX (off := 90) 121 (by decide +kernel) (by decide) (fun h11 => ?_) (fun h11 => ?_)
      · have hf := ev_it h11 hf
        refine ev_blk hX lkok_RX3 [(.iinc 2 1, 3, 0, 0, 1)] (by decide +kernel) (g := true) (lv' := [some (.ref l0), some (.int l1), some (.int (l2 + (1 : Int32))), none, none]) (st' := []) (D' := D) (pc' := 124) rfl (rfl) rfl ?_
        refine ev_goto hX (off := (-106)) 18 (by decide +kernel) (by decide) ?_
        exact ev_weak hX (ev_le_eq (ev_le_eq (ev_le_eq (ev_le_no (ev_le_no ev_le_nil))))) (ih _ _ _ _ hl0 hf)
      · have hf := ev_nf h11 hf
        refine ev_blk hX lkok_RX3 [(.aload_n 0, 1, 0, 0, 0), (.getfield 33, 3, 3, 0, 0), (.iload_n 2, 1, 0, 0, 0)] (by decide +kernel) (g := (sK S l0 == 6) && (true)) (lv' := [some (.ref l0), some (.int l1), some (.int l2), none, none]) (st' := [.int l2, .ref ((sE S) l0 0)]) (D' := D) (pc' := 39) rfl (ev_gk hl0 (rfl)) rfl ?_
        obtain ⟨v12, D12, hc12, hf⟩ := ev_bd_s hf
        refine ev_callV hX YX9_isAwake ml_RX3_191 (mX9_isAwake hT (ev_tyk hT hl0 rfl rfl) hc12) (vs := [.int l2]) (st := []) (by decide) 9 (ev_tyk hT hl0 rfl rfl) rfl rfl rfl (by decide +kernel) hC ?_
        show F S D12 42 [some (.ref l0), some (.int l1), some (.int l2), none, none] [.int v12]
        refine ev_if_eq hX (off := 79) 121 (by decide +kernel) (by decide) (fun h13 => ?_) (fun h13 => ?_)
        · have hf := ev_it h13 hf
          refine ev_blk hX lkok_RX3 [(.iinc 2 1, 3, 0, 0, 1)] (by decide +kernel) (g := true) (lv' := [some (.ref l0), some (.int l1), some (.int (l2 + (1 : Int32))), none, none]) (st' := []) (D' := D12) (pc' := 124) rfl (rfl) rfl ?_
          refine ev_goto hX (off := (-106)) 18 (by decide +kernel) (by decide) ?_
          exact ev_weak hX (ev_le_eq (ev_le_eq (ev_le_eq (ev_le_no (ev_le_no ev_le_nil))))) (ih _ _ _ _ hl0 hf)
        · have hf := ev_nf h13 hf
          refine ev_blk hX lkok_RX3 [(.aload_n 0, 1, 0, 0, 0), (.getfield 24, 3, 3, 7, 0), (.aload_n 0, 1, 0, 0, 0), (.getfield 27, 3, 3, 8, 0)] (by decide +kernel) (g := (sK S l0 == 6) && ((sK S l0 == 6) && (true))) (lv' := [some (.ref l0), some (.int l1), some (.int l2), none, none]) (st' := [.ref ((sE S) l0 8), .ref ((sE S) l0 7)]) (D' := D12) (pc' := 53) rfl (ev_gk hl0 (ev_gk hl0 (rfl))) rfl ?_
          obtain ⟨v14, D14, hc14, hf⟩ := ev_bd_s hf
          refine ev_callSN hX YX11_copy ml_RX3_197 (mX11_copy hT (ev_tyk hT hl0 rfl rfl) (ev_tyk hT hl0 rfl rfl) hc14) (vs := [.ref ((sE S) l0 7), .ref ((sE S) l0 8)]) (st := []) (by decide) rfl rfl (by decide +kernel) hC ?_
          show F S D14 56 [some (.ref l0), some (.int l1), some (.int l2), none, none] []
          refine ev_blk hX lkok_RX3 [(.iconst 0, 1, 0, 0, 0), (.istore_n 3, 1, 0, 0, 0)] (by decide +kernel) (g := true) (lv' := [some (.ref l0), some (.int l1), some (.int l2), some (.int (0 : Int32)), none]) (st' := []) (D' := D14) (pc' := 58) rfl (rfl) rfl ?_
          exact ev_weak hX (ev_le_eq (ev_le_eq (ev_le_eq (ev_le_eq (ev_le_no ev_le_nil))))) (tX3_countSets_58 hR hT hC  ih fu _ _ _ _ _ hl0 hf)
set_option maxHeartbeats 4000000 in
set_option maxRecDepth 100000 in
theorem tX3_countSets {S : ev_S} {fu : Nat} {r : Int32 × ev_D} {F : ev_Fr} (hR : ev_R RX3 cX3_countSets 5 2 0 0 false none S r F) (hT : ev_Ty S) (hC : sC S ≤ 0 ∧ sA S ≤ 0) {l0 : Nat} {l1 : Int32} {D : ev_D} (hl0 : sK S l0 = 6) (hf : fX3_countSets (sL S) (sE S) fu l0 l1 D = some r) : F S D 0 [some (.ref l0), some (.int l1), none, none, none] [] := by
  have hX := hR.X
  unfold fX3_countSets at hf
  refine ev_blk hX lkok_RX3 [(.aload_n 0, 1, 0, 0, 0), (.getfield 24, 3, 3, 7, 0), (.iconst 0, 1, 0, 0, 0)] (by decide +kernel) (g := (sK S l0 == 6) && (true)) (lv' := [some (.ref l0), some (.int l1), none, none, none]) (st' := [.int (0 : Int32), .ref ((sE S) l0 7)]) (D' := D) (pc' := 5) rfl (ev_gk hl0 (rfl)) rfl ?_
  obtain ⟨v15, D15, hc15, hf⟩ := ev_bd_s hf
  refine ev_callS hX YJ7_fill ml_RX3_132 (mJ7_fill hT (ev_tyk hT hl0 rfl rfl) hc15) (vs := [.ref ((sE S) l0 7), .int (0 : Int32)]) (st := []) (by decide) rfl rfl (by decide +kernel) hC ?_
  show F S D15 8 [some (.ref l0), some (.int l1), none, none, none] []
  obtain ⟨hg16, hf⟩ := ev_gd_s hf
  refine ev_blk hX lkok_RX3 [(.aload_n 0, 1, 0, 0, 0), (.getfield 24, 3, 3, 7, 0), (.bipush 90, 2, 0, 0, 90), (.iconst 1, 1, 0, 0, 1), (.iastore, 1, 0, 0, 0), (.iconst 0, 1, 0, 0, 0), (.istore_n 2, 1, 0, 0, 0)] (by decide +kernel) (g := (sK S l0 == 6) && ((sK S ((sE S) l0 7) == 1 && ev_in (90 : Int32) ((sL S) ((sE S) l0 7))) && (true))) (lv' := [some (.ref l0), some (.int l1), some (.int (0 : Int32)), none, none]) (st' := []) (D' := (ev_up D15 ((sE S) l0 7) ((90 : Int32)).toNatClampNeg (1 : Int32))) (pc' := 18) rfl (ev_gk hl0 (ev_gi (ev_tyk hT hl0 rfl rfl) hg16 (rfl))) rfl ?_
  exact ev_weak hX (ev_le_eq (ev_le_eq (ev_le_eq (ev_le_no (ev_le_no ev_le_nil))))) (tX3_countSets_18 hR hT hC   fu _ _ _ _ hl0 hf)
theorem mX3_countSets {S : ev_S} {fu : Nat} {r : Int32 × ev_D} (hT : ev_Ty S) {l0 : Nat} {l1 : Int32} {D : ev_D} (hl0 : sK S l0 = 6) (hf : fX3_countSets (sL S) (sE S) fu l0 l1 D = some r) : ev_M 2 0 0 yX3_countSets cX3_countSets 5 none [.ref l0, .int l1] S D S r :=
  ev_met (ini := false) (plainFor_of_name (by decide)) (fun h => by cases h) rfl (Nat.le_of_ble_eq_true rfl) (fun F hR => tX3_countSets (S := ev_z S) hR hT ⟨Nat.le_refl 0, Nat.le_refl 0⟩ hl0 hf)
set_option maxHeartbeats 4000000 in
set_option maxRecDepth 100000 in
theorem tX3_swings_9 {S : ev_S} {fu : Nat} {r : Int32 × ev_D} {F : ev_Fr} (hR : ev_R RX3 cX3_swings 3 3 0 0 false (some .int) S r F) (hT : ev_Ty S) (hC : sC S ≤ 0 ∧ sA S ≤ 0) : ∀ (n : Nat) (l0 : Nat) (l1 : Int32) (l2 : Int32) (D : ev_D), sK S l0 = 6 → fX3_swings_9 (sL S) (sE S) fu n l0 l1 l2 D = some r → F S D 9 [some (.ref l0), some (.int l1), some (.int l2)] [] := by
  have hX := hR.X
  intro n
  induction n with
  | zero =>
    intro l0 l1 l2 D hl0 hf
    rw [fX3_swings_9] at hf
    cases hf
  | succ n ih =>
    intro l0 l1 l2 D hl0 hf
    rw [fX3_swings_9] at hf
    refine ev_blk hX lkok_RX3 [(.iload_n 2, 1, 0, 0, 0), (.bipush 90, 2, 0, 0, 90)] (by decide +kernel) (g := true) (lv' := [some (.ref l0), some (.int l1), some (.int l2)]) (st' := [.int (90 : Int32), .int l2]) (D' := D) (pc' := 12) rfl (rfl) rfl ?_
    refine ev_ic_gt hX (off := 21) 33 (by decide +kernel) (by decide) (fun h1 => ?_) (fun h1 => ?_)
    · have hf := ev_it h1 hf
      refine ev_blk hX lkok_RX3 [(.iload_n 1, 1, 0, 0, 0)] (by decide +kernel) (g := true) (lv' := [some (.ref l0), some (.int l1), some (.int l2)]) (st' := [.int l1]) (D' := D) (pc' := 34) rfl (rfl) rfl ?_
      exact ev_iret hR ev_sm.rf (Option.some.inj hf) hC (by decide +kernel)
    · have hf := ev_nf h1 hf
      obtain ⟨hg2, hf⟩ := ev_gd_s hf
      refine ev_blk hX lkok_RX3 [(.iload_n 1, 1, 0, 0, 0), (.aload_n 0, 1, 0, 0, 0), (.getfield 24, 3, 3, 7, 0), (.bipush 90, 2, 0, 0, 90), (.iload_n 2, 1, 0, 0, 0), (.iadd, 1, 0, 0, 0), (.iaload, 1, 0, 0, 0), (.iadd, 1, 0, 0, 0), (.istore_n 1, 1, 0, 0, 0), (.iinc 2 1, 3, 0, 0, 1)] (by decide +kernel) (g := (sK S l0 == 6) && ((sK S ((sE S) l0 7) == 1 && ev_in ((90 : Int32) + l2) ((sL S) ((sE S) l0 7))) && (true))) (lv' := [some (.ref l0), some (.int (l1 + (D ((sE S) l0 7) (((90 : Int32) + l2)).toNatClampNeg))), some (.int (l2 + (1 : Int32)))]) (st' := []) (D' := D) (pc' := 30) rfl (ev_gk hl0 (ev_gi (ev_tyk hT hl0 rfl rfl) hg2 (rfl))) rfl ?_
      refine ev_goto hX (off := (-21)) 9 (by decide +kernel) (by decide) ?_
      exact ev_weak hX (ev_le_eq (ev_le_eq (ev_le_eq ev_le_nil))) (ih _ _ _ _ hl0 hf)
set_option maxHeartbeats 4000000 in
set_option maxRecDepth 100000 in
theorem tX3_swings {S : ev_S} {fu : Nat} {r : Int32 × ev_D} {F : ev_Fr} (hR : ev_R RX3 cX3_swings 3 3 0 0 false (some .int) S r F) (hT : ev_Ty S) (hC : sC S ≤ 0 ∧ sA S ≤ 0) {l0 : Nat} {D : ev_D} (hl0 : sK S l0 = 6) (hf : fX3_swings (sL S) (sE S) fu l0 D = some r) : F S D 0 [some (.ref l0), none, none] [] := by
  have hX := hR.X
  unfold fX3_swings at hf
  refine ev_blk hX lkok_RX3 [(.aload_n 0, 1, 0, 0, 0), (.iconst (-1), 1, 0, 0, (-1))] (by decide +kernel) (g := true) (lv' := [some (.ref l0), none, none]) (st' := [.int (-1 : Int32), .ref l0]) (D' := D) (pc' := 2) rfl (rfl) rfl ?_
  obtain ⟨v3, D3, hc3, hf⟩ := ev_bd_s hf
  refine ev_callV hX YX3_countSets ml_RX3_201 (mX3_countSets hT hl0 hc3) (vs := [.int (-1 : Int32)]) (st := []) (by decide) 3 hl0 rfl rfl rfl (by decide +kernel) hC ?_
  show F S D3 5 [some (.ref l0), none, none] []
  refine ev_blk hX lkok_RX3 [(.iconst 0, 1, 0, 0, 0), (.istore_n 1, 1, 0, 0, 0), (.iconst 1, 1, 0, 0, 1), (.istore_n 2, 1, 0, 0, 0)] (by decide +kernel) (g := true) (lv' := [some (.ref l0), some (.int (0 : Int32)), some (.int (1 : Int32))]) (st' := []) (D' := D3) (pc' := 9) rfl (rfl) rfl ?_
  exact ev_weak hX (ev_le_eq (ev_le_eq (ev_le_eq ev_le_nil))) (tX3_swings_9 hR hT hC   fu _ _ _ _ hl0 hf)
theorem mX3_swings {S : ev_S} {fu : Nat} {r : Int32 × ev_D} (hT : ev_Ty S) {l0 : Nat} {D : ev_D} (hl0 : sK S l0 = 6) (hf : fX3_swings (sL S) (sE S) fu l0 D = some r) : ev_M 3 0 0 yX3_swings cX3_swings 3 (some .int) [.ref l0] S D S r :=
  ev_met (ini := false) (plainFor_of_name (by decide)) (fun h => by cases h) rfl (Nat.le_of_ble_eq_true rfl) (fun F hR => tX3_swings (S := ev_z S) hR hT ⟨Nat.le_refl 0, Nat.le_refl 0⟩ hl0 hf)
set_option maxHeartbeats 4000000 in
set_option maxRecDepth 100000 in
theorem tX3_turns_32 {S : ev_S} {fu : Nat} {r : Int32 × ev_D} {F : ev_Fr} (hR : ev_R RX3 cX3_turns 4 3 0 0 false (some .int) S r F) (hT : ev_Ty S) (hC : sC S ≤ 0 ∧ sA S ≤ 0) : ∀ (n : Nat) (l0 : Nat) (l2 : Int32) (l3 : Int32) (D : ev_D), sK S l0 = 6 → fX3_turns_32 (sL S) (sE S) fu n l0 l2 l3 D = some r → F S D 32 [some (.ref l0), none, some (.int l2), some (.int l3)] [] := by
  have hX := hR.X
  intro n
  induction n with
  | zero =>
    intro l0 l2 l3 D hl0 hf
    rw [fX3_turns_32] at hf
    cases hf
  | succ n ih =>
    intro l0 l2 l3 D hl0 hf
    rw [fX3_turns_32] at hf
    refine ev_blk hX lkok_RX3 [(.iload_n 3, 1, 0, 0, 0)] (by decide +kernel) (g := true) (lv' := [some (.ref l0), none, some (.int l2), some (.int l3)]) (st' := [.int l3]) (D' := D) (pc' := 33) rfl (rfl) rfl ?_
    refine ev_if_gt hX (off := 21) 54 (by decide +kernel) (by decide) (fun h1 => ?_) (fun h1 => ?_)
    · have hf := ev_it h1 hf
      refine ev_blk hX lkok_RX3 [(.iload_n 2, 1, 0, 0, 0)] (by decide +kernel) (g := true) (lv' := [some (.ref l0), none, some (.int l2), some (.int l3)]) (st' := [.int l2]) (D' := D) (pc' := 55) rfl (rfl) rfl ?_
      exact ev_iret hR ev_sm.rf (Option.some.inj hf) hC (by decide +kernel)
    · have hf := ev_nf h1 hf
      obtain ⟨hg2, hf⟩ := ev_gd_s hf
      refine ev_blk hX lkok_RX3 [(.iload_n 2, 1, 0, 0, 0), (.aload_n 0, 1, 0, 0, 0), (.getfield 24, 3, 3, 7, 0), (.bipush 90, 2, 0, 0, 90), (.iload_n 3, 1, 0, 0, 0), (.iadd, 1, 0, 0, 0), (.iaload, 1, 0, 0, 0), (.iadd, 1, 0, 0, 0), (.istore_n 2, 1, 0, 0, 0), (.iinc 3 1, 3, 0, 0, 1)] (by decide +kernel) (g := (sK S l0 == 6) && ((sK S ((sE S) l0 7) == 1 && ev_in ((90 : Int32) + l3) ((sL S) ((sE S) l0 7))) && (true))) (lv' := [some (.ref l0), none, some (.int (l2 + (D ((sE S) l0 7) (((90 : Int32) + l3)).toNatClampNeg))), some (.int (l3 + (1 : Int32)))]) (st' := []) (D' := D) (pc' := 51) rfl (ev_gk hl0 (ev_gi (ev_tyk hT hl0 rfl rfl) hg2 (rfl))) rfl ?_
      refine ev_goto hX (off := (-19)) 32 (by decide +kernel) (by decide) ?_
      exact ev_weak hX (ev_le_eq (ev_le_no (ev_le_eq (ev_le_eq ev_le_nil)))) (ih _ _ _ _ hl0 hf)
set_option maxHeartbeats 4000000 in
set_option maxRecDepth 100000 in
theorem tX3_turns {S : ev_S} {fu : Nat} {r : Int32 × ev_D} {F : ev_Fr} (hR : ev_R RX3 cX3_turns 4 3 0 0 false (some .int) S r F) (hT : ev_Ty S) (hC : sC S ≤ 0 ∧ sA S ≤ 0) {l0 : Nat} {l1 : Int32} {D : ev_D} (hl0 : sK S l0 = 6) (hf : fX3_turns (sL S) (sE S) fu l0 l1 D = some r) : F S D 0 [some (.ref l0), some (.int l1), none, none] [] := by
  have hX := hR.X
  unfold fX3_turns at hf
  refine ev_blk hX lkok_RX3 [(.aload_n 0, 1, 0, 0, 0), (.getfield 33, 3, 3, 0, 0), (.iload_n 1, 1, 0, 0, 0)] (by decide +kernel) (g := (sK S l0 == 6) && (true)) (lv' := [some (.ref l0), some (.int l1), none, none]) (st' := [.int l1, .ref ((sE S) l0 0)]) (D' := D) (pc' := 5) rfl (ev_gk hl0 (rfl)) rfl ?_
  obtain ⟨v3, D3, hc3, hf⟩ := ev_bd_s hf
  refine ev_callV hX YX9_isAwake ml_RX3_191 (mX9_isAwake hT (ev_tyk hT hl0 rfl rfl) hc3) (vs := [.int l1]) (st := []) (by decide) 9 (ev_tyk hT hl0 rfl rfl) rfl rfl rfl (by decide +kernel) hC ?_
  show F S D3 8 [some (.ref l0), some (.int l1), none, none] [.int v3]
  refine ev_if_ne hX (off := 5) 13 (by decide +kernel) (by decide) (fun h4 => ?_) (fun h4 => ?_)
  · have hf := ev_nf h4 hf
    refine ev_blk hX lkok_RX3 [(.aload_n 0, 1, 0, 0, 0), (.iload_n 1, 1, 0, 0, 0)] (by decide +kernel) (g := true) (lv' := [some (.ref l0), some (.int l1), none, none]) (st' := [.int l1, .ref l0]) (D' := D3) (pc' := 15) rfl (rfl) rfl ?_
    obtain ⟨v5, D5, hc5, hf⟩ := ev_bd_s hf
    refine ev_callV hX YX3_countSets ml_RX3_201 (mX3_countSets hT hl0 hc5) (vs := [.int l1]) (st := []) (by decide) 3 hl0 rfl rfl rfl (by decide +kernel) hC ?_
    show F S D5 18 [some (.ref l0), some (.int l1), none, none] []
    obtain ⟨hg6, hf⟩ := ev_gd_s hf
    refine ev_blk hX lkok_RX3 [(.iconst 0, 1, 0, 0, 0), (.istore_n 2, 1, 0, 0, 0), (.iconst 1, 1, 0, 0, 1), (.aload_n 0, 1, 0, 0, 0), (.getfield 41, 3, 3, 2, 0), (.getfield 194, 3, 8, 6, 0), (.iload_n 1, 1, 0, 0, 0), (.iaload, 1, 0, 0, 0), (.isub, 1, 0, 0, 0), (.istore_n 3, 1, 0, 0, 0)] (by decide +kernel) (g := (sK S l0 == 6) && ((sK S ((sE S) l0 2) == 11) && ((sK S ((sE S) ((sE S) l0 2) 6) == 1 && ev_in l1 ((sL S) ((sE S) ((sE S) l0 2) 6))) && (true)))) (lv' := [some (.ref l0), some (.int l1), some (.int (0 : Int32)), some (.int ((1 : Int32) - (D5 ((sE S) ((sE S) l0 2) 6) (l1).toNatClampNeg)))]) (st' := []) (D' := D5) (pc' := 32) rfl (ev_gk hl0 (ev_gk (ev_tyk hT hl0 rfl rfl) (ev_gi (ev_tyk hT (ev_tyk hT hl0 rfl rfl) rfl rfl) hg6 (rfl)))) rfl ?_
    exact ev_weak hX (ev_le_eq (ev_le_no (ev_le_eq (ev_le_eq ev_le_nil)))) (tX3_turns_32 hR hT hC   fu _ _ _ _ hl0 hf)
  · have hf := ev_it h4 hf
    refine ev_blk hX lkok_RX3 [(.iconst 0, 1, 0, 0, 0)] (by decide +kernel) (g := true) (lv' := [some (.ref l0), some (.int l1), none, none]) (st' := [.int (0 : Int32)]) (D' := D3) (pc' := 12) rfl (rfl) rfl ?_
    exact ev_iret hR ev_sm.rf (Option.some.inj hf) hC (by decide +kernel)
theorem mX3_turns {S : ev_S} {fu : Nat} {r : Int32 × ev_D} (hT : ev_Ty S) {l0 : Nat} {l1 : Int32} {D : ev_D} (hl0 : sK S l0 = 6) (hf : fX3_turns (sL S) (sE S) fu l0 l1 D = some r) : ev_M 3 0 0 yX3_turns cX3_turns 4 (some .int) [.ref l0, .int l1] S D S r :=
  ev_met (ini := false) (plainFor_of_name (by decide)) (fun h => by cases h) rfl (Nat.le_of_ble_eq_true rfl) (fun F hR => tX3_turns (S := ev_z S) hR hT ⟨Nat.le_refl 0, Nat.le_refl 0⟩ hl0 hf)
set_option maxHeartbeats 4000000 in
set_option maxRecDepth 100000 in
theorem tX11_peals {S : ev_S} {fu : Nat} {r : Int32 × ev_D} {F : ev_Fr} (hR : ev_R RX11 cX11_peals 2 4 0 0 false (some .int) S r F) (hT : ev_Ty S) (hC : sC S ≤ 0 ∧ sA S ≤ 0) {l0 : Nat} {l1 : Int32} {D : ev_D} (hl0 : sK S l0 = 14) (hf : fX11_peals (sL S) (sE S) fu l0 l1 D = some r) : F S D 0 [some (.ref l0), some (.int l1)] [] := by
  have hX := hR.X
  unfold fX11_peals at hf
  refine ev_blk hX lkok_RX11 [(.iload_n 1, 1, 0, 0, 0)] (by decide +kernel) (g := true) (lv' := [some (.ref l0), some (.int l1)]) (st' := [.int l1]) (D' := D) (pc' := 1) rfl (rfl) rfl ?_
  refine ev_if_ne hX (off := 11) 12 (by decide +kernel) (by decide) (fun h1 => ?_) (fun h1 => ?_)
  · have hf := ev_nf h1 hf
    refine ev_blk hX lkok_RX11 [(.iload_n 1, 1, 0, 0, 0), (.iconst 1, 1, 0, 0, 1)] (by decide +kernel) (g := true) (lv' := [some (.ref l0), some (.int l1)]) (st' := [.int (1 : Int32), .int l1]) (D' := D) (pc' := 14) rfl (rfl) rfl ?_
    refine ev_ic_ne hX (off := 11) 25 (by decide +kernel) (by decide) (fun h2 => ?_) (fun h2 => ?_)
    · have hf := ev_nf h2 hf
      refine ev_blk hX lkok_RX11 [(.iload_n 1, 1, 0, 0, 0), (.bipush 10, 2, 0, 0, 10), (.bipush 9, 2, 0, 0, 9), (.aload_n 0, 1, 0, 0, 0), (.getfield 10, 3, 11, 0, 0), (.getfield 32, 3, 10, 0, 0), (.getfield 159, 3, 9, 5, 0), (.iadd, 1, 0, 0, 0)] (by decide +kernel) (g := (sK S l0 == 14) && ((sK S ((sE S) l0 0) == 13) && ((sK S ((sE S) ((sE S) l0 0) 0) == 12) && (true)))) (lv' := [some (.ref l0), some (.int l1)]) (st' := [.int ((9 : Int32) + (D ((sE S) ((sE S) l0 0) 0) 5)), .int (10 : Int32), .int l1]) (D' := D) (pc' := 41) rfl (ev_gk hl0 (ev_gk (ev_tyk hT hl0 rfl rfl) (ev_gk (ev_tyk hT (ev_tyk hT hl0 rfl rfl) rfl rfl) (rfl)))) rfl ?_
      obtain ⟨v3, D3, hc3, hf⟩ := ev_bd_s hf
      refine ev_callS hX YX11_within ml_RX11_85 (mX11_within hT  hc3) (vs := [.int l1, .int (10 : Int32), .int ((9 : Int32) + (D ((sE S) ((sE S) l0 0) 0) 5))]) (st := []) (by decide) rfl rfl (by decide +kernel) hC ?_
      show F S D3 44 [some (.ref l0), some (.int l1)] [.int v3]
      refine ev_if_eq hX (off := 17) 61 (by decide +kernel) (by decide) (fun h4 => ?_) (fun h4 => ?_)
      · have hf := ev_it h4 hf
        refine ev_blk hX lkok_RX11 [(.bipush (-100), 2, 0, 0, (-100))] (by decide +kernel) (g := true) (lv' := [some (.ref l0), some (.int l1)]) (st' := [.int (-100 : Int32)]) (D' := D3) (pc' := 63) rfl (rfl) rfl ?_
        exact ev_iret hR ev_sm.rf (Option.some.inj hf) hC (by decide +kernel)
      · have hf := ev_nf h4 hf
        refine ev_blk hX lkok_RX11 [(.aload_n 0, 1, 0, 0, 0), (.getfield 71, 3, 11, 5, 0), (.iload_n 1, 1, 0, 0, 0), (.bipush 10, 2, 0, 0, 10), (.isub, 1, 0, 0, 0)] (by decide +kernel) (g := (sK S l0 == 14) && (true)) (lv' := [some (.ref l0), some (.int l1)]) (st' := [.int (l1 - (10 : Int32)), .ref ((sE S) l0 5)]) (D' := D3) (pc' := 55) rfl (ev_gk hl0 (rfl)) rfl ?_
        obtain ⟨v5, D5, hc5, hf⟩ := ev_bd_s hf
        refine ev_callV hX YX3_turns ml_RX11_315 (mX3_turns hT (ev_tyk hT hl0 rfl rfl) hc5) (vs := [.int (l1 - (10 : Int32))]) (st := []) (by decide) 3 (ev_tyk hT hl0 rfl rfl) rfl rfl rfl (by decide +kernel) hC ?_
        show F S D5 58 [some (.ref l0), some (.int l1)] [.int v5]
        refine ev_goto hX (off := 5) 63 (by decide +kernel) (by decide) ?_
        exact ev_iret hR ev_sm.rf (Option.some.inj hf) hC (by decide +kernel)
    · have hf := ev_it h2 hf
      refine ev_blk hX lkok_RX11 [(.aload_n 0, 1, 0, 0, 0), (.getfield 71, 3, 11, 5, 0)] (by decide +kernel) (g := (sK S l0 == 14) && (true)) (lv' := [some (.ref l0), some (.int l1)]) (st' := [.ref ((sE S) l0 5)]) (D' := D) (pc' := 21) rfl (ev_gk hl0 (rfl)) rfl ?_
      obtain ⟨v6, D6, hc6, hf⟩ := ev_bd_s hf
      refine ev_callV hX YX3_swings ml_RX11_312 (mX3_swings hT (ev_tyk hT hl0 rfl rfl) hc6) (vs := []) (st := []) (by decide) 3 (ev_tyk hT hl0 rfl rfl) rfl rfl rfl (by decide +kernel) hC ?_
      show F S D6 24 [some (.ref l0), some (.int l1)] [.int v6]
      exact ev_iret hR ev_sm.rf (Option.some.inj hf) hC (by decide +kernel)
  · have hf := ev_it h1 hf
    refine ev_blk hX lkok_RX11 [(.aload_n 0, 1, 0, 0, 0), (.getfield 71, 3, 11, 5, 0)] (by decide +kernel) (g := (sK S l0 == 14) && (true)) (lv' := [some (.ref l0), some (.int l1)]) (st' := [.ref ((sE S) l0 5)]) (D' := D) (pc' := 8) rfl (ev_gk hl0 (rfl)) rfl ?_
    obtain ⟨v7, D7, hc7, hf⟩ := ev_bd_s hf
    refine ev_callV hX YX3_opinionOfAwake ml_RX11_309 (mX3_opinionOfAwake hT (ev_tyk hT hl0 rfl rfl) hc7) (vs := []) (st := []) (by decide) 3 (ev_tyk hT hl0 rfl rfl) rfl rfl rfl (by decide +kernel) hC ?_
    show F S D7 11 [some (.ref l0), some (.int l1)] [.int v7]
    exact ev_iret hR ev_sm.rf (Option.some.inj hf) hC (by decide +kernel)
theorem mX11_peals {S : ev_S} {fu : Nat} {r : Int32 × ev_D} (hT : ev_Ty S) {l0 : Nat} {l1 : Int32} {D : ev_D} (hl0 : sK S l0 = 14) (hf : fX11_peals (sL S) (sE S) fu l0 l1 D = some r) : ev_M 4 0 0 yX11_peals cX11_peals 2 (some .int) [.ref l0, .int l1] S D S r :=
  ev_met (ini := false) (plainFor_of_name (by decide)) (fun h => by cases h) rfl (Nat.le_of_ble_eq_true rfl) (fun F hR => tX11_peals (S := ev_z S) hR hT ⟨Nat.le_refl 0, Nat.le_refl 0⟩ hl0 hf)
set_option maxHeartbeats 4000000 in
set_option maxRecDepth 100000 in
theorem tX3_nimberOf {S : ev_S} {fu : Nat} {r : Int32 × ev_D} {F : ev_Fr} (hR : ev_R RX3 cX3_nimberOf 2 2 0 0 false (some .int) S r F) (hT : ev_Ty S) (hC : sC S ≤ 0 ∧ sA S ≤ 0) {l0 : Nat} {l1 : Int32} {D : ev_D} (hl0 : sK S l0 = 6) (hf : fX3_nimberOf (sL S) (sE S) fu l0 l1 D = some r) : F S D 0 [some (.ref l0), some (.int l1)] [] := by
  have hX := hR.X
  unfold fX3_nimberOf at hf
  refine ev_blk hX lkok_RX3 [(.aload_n 0, 1, 0, 0, 0), (.getfield 30, 3, 3, 9, 0), (.iload_n 1, 1, 0, 0, 0), (.iconst 0, 1, 0, 0, 0), (.bipush 99, 2, 0, 0, 99)] (by decide +kernel) (g := (sK S l0 == 6) && (true)) (lv' := [some (.ref l0), some (.int l1)]) (st' := [.int (99 : Int32), .int (0 : Int32), .int l1, .ref ((sE S) l0 9)]) (D' := D) (pc' := 8) rfl (ev_gk hl0 (rfl)) rfl ?_
  obtain ⟨v1, D1, hc1, hf⟩ := ev_bd_s hf
  refine ev_callSN hX YX11_held ml_RX3_205 (mX11_held hT  hc1) (vs := [.int l1, .int (0 : Int32), .int (99 : Int32)]) (st := [.ref ((sE S) l0 9)]) (by decide) rfl rfl (by decide +kernel) hC ?_
  show F S D1 11 [some (.ref l0), some (.int l1)] [.int v1, .ref ((sE S) l0 9)]
  obtain ⟨hg2, hf⟩ := ev_gd_s hf
  refine ev_blk hX lkok_RX3 [(.iaload, 1, 0, 0, 0)] (by decide +kernel) (g := (sK S ((sE S) l0 9) == 1 && ev_in v1 ((sL S) ((sE S) l0 9))) && (true)) (lv' := [some (.ref l0), some (.int l1)]) (st' := [.int (D1 ((sE S) l0 9) (v1).toNatClampNeg)]) (D' := D1) (pc' := 12) rfl (ev_gi (ev_tyk hT hl0 rfl rfl) hg2 (rfl)) rfl ?_
  exact ev_iret hR ev_sm.rf (Option.some.inj hf) hC (by decide +kernel)
theorem mX3_nimberOf {S : ev_S} {fu : Nat} {r : Int32 × ev_D} (hT : ev_Ty S) {l0 : Nat} {l1 : Int32} {D : ev_D} (hl0 : sK S l0 = 6) (hf : fX3_nimberOf (sL S) (sE S) fu l0 l1 D = some r) : ev_M 2 0 0 yX3_nimberOf cX3_nimberOf 2 (some .int) [.ref l0, .int l1] S D S r :=
  ev_met (ini := false) (plainFor_of_name (by decide)) (fun h => by cases h) rfl (Nat.le_of_ble_eq_true rfl) (fun F hR => tX3_nimberOf (S := ev_z S) hR hT ⟨Nat.le_refl 0, Nat.le_refl 0⟩ hl0 hf)
set_option maxHeartbeats 4000000 in
set_option maxRecDepth 100000 in
theorem tX3_loosedWell_25 {S : ev_S} {fu : Nat} {r : Int32 × ev_D} {F : ev_Fr} (hR : ev_R RX3 cX3_loosedWell 4 3 0 0 false (some .int) S r F) (hT : ev_Ty S) (hC : sC S ≤ 0 ∧ sA S ≤ 0) {l0 : Nat} {l1 : Int32} {l3 : Int32} {D : ev_D} (hl0 : sK S l0 = 6) (hf : fX3_loosedWell_25 (sL S) (sE S) fu l0 l1 l3 D = some r) : F S D 25 [some (.ref l0), some (.int l1), none, some (.int l3)] [] := by
  have hX := hR.X
  unfold fX3_loosedWell_25 at hf
  refine ev_blk hX lkok_RX3 [(.iload_n 1, 1, 0, 0, 0)] (by decide +kernel) (g := true) (lv' := [some (.ref l0), some (.int l1), none, some (.int l3)]) (st' := [.int l1]) (D' := D) (pc' := 26) rfl (rfl) rfl ?_
  refine ev_if_le hX (off := 22) 48 (by decide +kernel) (by decide) (fun h1 => ?_) (fun h1 => ?_)
  · have hf := ev_it h1 hf
    refine ev_blk hX lkok_RX3 [(.iconst 0, 1, 0, 0, 0)] (by decide +kernel) (g := true) (lv' := [some (.ref l0), some (.int l1), none, some (.int l3)]) (st' := [.int (0 : Int32)]) (D' := D) (pc' := 49) rfl (rfl) rfl ?_
    exact ev_iret hR ev_sm.rf (Option.some.inj hf) hC (by decide +kernel)
  · have hf := ev_nf h1 hf
    refine ev_blk hX lkok_RX3 [(.aload_n 0, 1, 0, 0, 0), (.iload_n 1, 1, 0, 0, 0), (.iconst 2, 1, 0, 0, 2), (.idiv, 1, 0, 0, 0)] (by decide +kernel) (g := (!(decide ((2 : Int32) = 0))) && (true)) (lv' := [some (.ref l0), some (.int l1), none, some (.int l3)]) (st' := [.int (l1 / (2 : Int32)), .ref l0]) (D' := D) (pc' := 33) rfl (ev_g2 rfl (rfl)) rfl ?_
    obtain ⟨v2, D2, hc2, hf⟩ := ev_bd_s hf
    refine ev_callV hX YX3_nimberOf ml_RX3_211 (mX3_nimberOf hT hl0 hc2) (vs := [.int (l1 / (2 : Int32))]) (st := []) (by decide) 3 hl0 rfl rfl rfl (by decide +kernel) hC ?_
    show F S D2 36 [some (.ref l0), some (.int l1), none, some (.int l3)] [.int v2]
    refine ev_blk hX lkok_RX3 [(.iload_n 3, 1, 0, 0, 0)] (by decide +kernel) (g := true) (lv' := [some (.ref l0), some (.int l1), none, some (.int l3)]) (st' := [.int l3, .int v2]) (D' := D2) (pc' := 37) rfl (rfl) rfl ?_
    refine ev_ic_ne hX (off := 11) 48 (by decide +kernel) (by decide) (fun h3 => ?_) (fun h3 => ?_)
    · have hf := ev_nf h3 hf
      refine ev_blk hX lkok_RX3 [(.iconst 0, 1, 0, 0, 0)] (by decide +kernel) (g := true) (lv' := [some (.ref l0), some (.int l1), none, some (.int l3)]) (st' := [.int (0 : Int32)]) (D' := D2) (pc' := 49) rfl (rfl) rfl ?_
      exact ev_iret hR ev_sm.rf (Option.some.inj hf) hC (by decide +kernel)
    · have hf := ev_it h3 hf
      refine ev_blk hX lkok_RX3 [(.iload_n 1, 1, 0, 0, 0), (.iload_n 1, 1, 0, 0, 0), (.iconst 2, 1, 0, 0, 2), (.idiv, 1, 0, 0, 0), (.isub, 1, 0, 0, 0)] (by decide +kernel) (g := (!(decide ((2 : Int32) = 0))) && (true)) (lv' := [some (.ref l0), some (.int l1), none, some (.int l3)]) (st' := [.int (l1 - (l1 / (2 : Int32)))]) (D' := D2) (pc' := 45) rfl (ev_g2 rfl (rfl)) rfl ?_
      refine ev_goto hX (off := 4) 49 (by decide +kernel) (by decide) ?_
      exact ev_iret hR ev_sm.rf (Option.some.inj hf) hC (by decide +kernel)
set_option maxHeartbeats 4000000 in
set_option maxRecDepth 100000 in
theorem tX3_loosedWell {S : ev_S} {fu : Nat} {r : Int32 × ev_D} {F : ev_Fr} (hR : ev_R RX3 cX3_loosedWell 4 3 0 0 false (some .int) S r F) (hT : ev_Ty S) (hC : sC S ≤ 0 ∧ sA S ≤ 0) {l0 : Nat} {l1 : Int32} {l2 : Int32} {D : ev_D} (hl0 : sK S l0 = 6) (hf : fX3_loosedWell (sL S) (sE S) fu l0 l1 l2 D = some r) : F S D 0 [some (.ref l0), some (.int l1), some (.int l2), none] [] := by
  have hX := hR.X
  unfold fX3_loosedWell at hf
  refine ev_blk hX lkok_RX3 [(.iload_n 2, 1, 0, 0, 0), (.aload_n 0, 1, 0, 0, 0), (.iload_n 1, 1, 0, 0, 0)] (by decide +kernel) (g := true) (lv' := [some (.ref l0), some (.int l1), some (.int l2), none]) (st' := [.int l1, .ref l0, .int l2]) (D' := D) (pc' := 3) rfl (rfl) rfl ?_
  obtain ⟨v4, D4, hc4, hf⟩ := ev_bd_s hf
  refine ev_callV hX YX3_nimberOf ml_RX3_211 (mX3_nimberOf hT hl0 hc4) (vs := [.int l1]) (st := [.int l2]) (by decide) 3 hl0 rfl rfl rfl (by decide +kernel) hC ?_
  show F S D4 6 [some (.ref l0), some (.int l1), some (.int l2), none] [.int v4, .int l2]
  refine ev_blk hX lkok_RX3 [(.ixor, 1, 0, 0, 0), (.istore_n 3, 1, 0, 0, 0), (.iload_n 1, 1, 0, 0, 0)] (by decide +kernel) (g := true) (lv' := [some (.ref l0), some (.int l1), some (.int l2), some (.int (l2 ^^^ v4))]) (st' := [.int l1]) (D' := D4) (pc' := 9) rfl (rfl) rfl ?_
  refine ev_if_le hX (off := 16) 25 (by decide +kernel) (by decide) (fun h5 => ?_) (fun h5 => ?_)
  · have hf := ev_it h5 hf
    exact ev_weak hX (ev_le_eq (ev_le_eq (ev_le_no (ev_le_eq ev_le_nil)))) (tX3_loosedWell_25 hR hT hC   hl0 hf)
  · have hf := ev_nf h5 hf
    refine ev_blk hX lkok_RX3 [(.aload_n 0, 1, 0, 0, 0), (.iload_n 1, 1, 0, 0, 0), (.iconst 1, 1, 0, 0, 1), (.isub, 1, 0, 0, 0)] (by decide +kernel) (g := true) (lv' := [some (.ref l0), some (.int l1), some (.int l2), some (.int (l2 ^^^ v4))]) (st' := [.int (l1 - (1 : Int32)), .ref l0]) (D' := D4) (pc' := 16) rfl (rfl) rfl ?_
    obtain ⟨v6, D6, hc6, hf⟩ := ev_bd_s hf
    refine ev_callV hX YX3_nimberOf ml_RX3_211 (mX3_nimberOf hT hl0 hc6) (vs := [.int (l1 - (1 : Int32))]) (st := []) (by decide) 3 hl0 rfl rfl rfl (by decide +kernel) hC ?_
    show F S D6 19 [some (.ref l0), some (.int l1), some (.int l2), some (.int (l2 ^^^ v4))] [.int v6]
    refine ev_blk hX lkok_RX3 [(.iload_n 3, 1, 0, 0, 0)] (by decide +kernel) (g := true) (lv' := [some (.ref l0), some (.int l1), some (.int l2), some (.int (l2 ^^^ v4))]) (st' := [.int (l2 ^^^ v4), .int v6]) (D' := D6) (pc' := 20) rfl (rfl) rfl ?_
    refine ev_ic_ne hX (off := 5) 25 (by decide +kernel) (by decide) (fun h7 => ?_) (fun h7 => ?_)
    · have hf := ev_nf h7 hf
      exact ev_weak hX (ev_le_eq (ev_le_eq (ev_le_no (ev_le_eq ev_le_nil)))) (tX3_loosedWell_25 hR hT hC   hl0 hf)
    · have hf := ev_it h7 hf
      refine ev_blk hX lkok_RX3 [(.iconst 1, 1, 0, 0, 1)] (by decide +kernel) (g := true) (lv' := [some (.ref l0), some (.int l1), some (.int l2), some (.int (l2 ^^^ v4))]) (st' := [.int (1 : Int32)]) (D' := D6) (pc' := 24) rfl (rfl) rfl ?_
      exact ev_iret hR ev_sm.rf (Option.some.inj hf) hC (by decide +kernel)
theorem mX3_loosedWell {S : ev_S} {fu : Nat} {r : Int32 × ev_D} (hT : ev_Ty S) {l0 : Nat} {l1 : Int32} {l2 : Int32} {D : ev_D} (hl0 : sK S l0 = 6) (hf : fX3_loosedWell (sL S) (sE S) fu l0 l1 l2 D = some r) : ev_M 3 0 0 yX3_loosedWell cX3_loosedWell 4 (some .int) [.ref l0, .int l1, .int l2] S D S r :=
  ev_met (ini := false) (plainFor_of_name (by decide)) (fun h => by cases h) rfl (Nat.le_of_ble_eq_true rfl) (fun F hR => tX3_loosedWell (S := ev_z S) hR hT ⟨Nat.le_refl 0, Nat.le_refl 0⟩ hl0 hf)
set_option maxHeartbeats 4000000 in
set_option maxRecDepth 100000 in
theorem tX3_goodMove_45 {S : ev_S} {fu : Nat} {r : Int32 × ev_D} {F : ev_Fr} (hR : ev_R RX3 cX3_goodMove 5 4 0 0 false (some .int) S r F) (hT : ev_Ty S) (hC : sC S ≤ 0 ∧ sA S ≤ 0) : ∀ (n : Nat) (l0 : Nat) (l1 : Int32) (l2 : Int32) (l3 : Int32) (D : ev_D), sK S l0 = 6 → fX3_goodMove_45 (sL S) (sE S) fu n l0 l1 l2 l3 D = some r → F S D 45 [some (.ref l0), some (.int l1), some (.int l2), some (.int l3), none] [] := by
  have hX := hR.X
  intro n
  induction n with
  | zero =>
    intro l0 l1 l2 l3 D hl0 hf
    rw [fX3_goodMove_45] at hf
    cases hf
  | succ n ih =>
    intro l0 l1 l2 l3 D hl0 hf
    rw [fX3_goodMove_45] at hf
    refine ev_blk hX lkok_RX3 [(.iload_n 3, 1, 0, 0, 0), (.aload_n 0, 1, 0, 0, 0), (.getfield 33, 3, 3, 0, 0), (.getfield 114, 3, 9, 5, 0)] (by decide +kernel) (g := (sK S l0 == 6) && ((sK S ((sE S) l0 0) == 12) && (true))) (lv' := [some (.ref l0), some (.int l1), some (.int l2), some (.int l3), none]) (st' := [.int (D ((sE S) l0 0) 5), .int l3]) (D' := D) (pc' := 53) rfl (ev_gk hl0 (ev_gk (ev_tyk hT hl0 rfl rfl) (rfl))) rfl ?_
    refine ev_ic_ge hX (off := 51) 104 (by decide +kernel) (by decide) (fun h1 => ?_) (fun h1 => ?_)
    · have hf := ev_it h1 hf
      refine ev_blk hX lkok_RX3 [(.iconst (-1), 1, 0, 0, (-1))] (by decide +kernel) (g := true) (lv' := [some (.ref l0), some (.int l1), some (.int l2), some (.int l3), none]) (st' := [.int (-1 : Int32)]) (D' := D) (pc' := 105) rfl (rfl) rfl ?_
      exact ev_iret hR ev_sm.rf (Option.some.inj hf) hC (by decide +kernel)
    · have hf := ev_nf h1 hf
      refine ev_blk hX lkok_RX3 [(.iload_n 3, 1, 0, 0, 0), (.bipush 10, 2, 0, 0, 10)] (by decide +kernel) (g := true) (lv' := [some (.ref l0), some (.int l1), some (.int l2), some (.int l3), none]) (st' := [.int (10 : Int32), .int l3]) (D' := D) (pc' := 59) rfl (rfl) rfl ?_
      refine ev_ic_ge hX (off := 45) 104 (by decide +kernel) (by decide) (fun h2 => ?_) (fun h2 => ?_)
      · have hf := ev_it h2 hf
        refine ev_blk hX lkok_RX3 [(.iconst (-1), 1, 0, 0, (-1))] (by decide +kernel) (g := true) (lv' := [some (.ref l0), some (.int l1), some (.int l2), some (.int l3), none]) (st' := [.int (-1 : Int32)]) (D' := D) (pc' := 105) rfl (rfl) rfl ?_
        exact ev_iret hR ev_sm.rf (Option.some.inj hf) hC (by decide +kernel)
      · have hf := ev_nf h2 hf
        refine ev_blk hX lkok_RX3 [(.iload_n 2, 1, 0, 0, 0)] (by decide +kernel) (g := true) (lv' := [some (.ref l0), some (.int l1), some (.int l2), some (.int l3), none]) (st' := [.int l2]) (D' := D) (pc' := 63) rfl (rfl) rfl ?_
        refine ev_if_eq hX (off := 41) 104 (by decide +kernel) (by decide) (fun h3 => ?_) (fun h3 => ?_)
        · have hf := ev_it h3 hf
          refine ev_blk hX lkok_RX3 [(.iconst (-1), 1, 0, 0, (-1))] (by decide +kernel) (g := true) (lv' := [some (.ref l0), some (.int l1), some (.int l2), some (.int l3), none]) (st' := [.int (-1 : Int32)]) (D' := D) (pc' := 105) rfl (rfl) rfl ?_
          exact ev_iret hR ev_sm.rf (Option.some.inj hf) hC (by decide +kernel)
        · have hf := ev_nf h3 hf
          obtain ⟨hg7, hf⟩ := ev_gd_s hf
          refine ev_blk hX lkok_RX3 [(.aload_n 0, 1, 0, 0, 0), (.aload_n 0, 1, 0, 0, 0), (.getfield 33, 3, 3, 0, 0), (.getfield 208, 3, 9, 13, 0), (.iload_n 3, 1, 0, 0, 0), (.iaload, 1, 0, 0, 0), (.iload_n 2, 1, 0, 0, 0)] (by decide +kernel) (g := (sK S l0 == 6) && ((sK S ((sE S) l0 0) == 12) && ((sK S ((sE S) ((sE S) l0 0) 13) == 1 && ev_in l3 ((sL S) ((sE S) ((sE S) l0 0) 13))) && (true)))) (lv' := [some (.ref l0), some (.int l1), some (.int l2), some (.int l3), none]) (st' := [.int l2, .int (D ((sE S) ((sE S) l0 0) 13) (l3).toNatClampNeg), .ref l0]) (D' := D) (pc' := 77) rfl (ev_gk hl0 (ev_gk (ev_tyk hT hl0 rfl rfl) (ev_gi (ev_tyk hT (ev_tyk hT hl0 rfl rfl) rfl rfl) hg7 (rfl)))) rfl ?_
          obtain ⟨v4, D4, hc4, hf⟩ := ev_bd_s hf
          refine ev_callV hX YX3_loosedWell ml_RX3_214 (mX3_loosedWell hT hl0 hc4) (vs := [.int (D ((sE S) ((sE S) l0 0) 13) (l3).toNatClampNeg), .int l2]) (st := []) (by decide) 3 hl0 rfl rfl rfl (by decide +kernel) hC ?_
          show F S D4 80 [some (.ref l0), some (.int l1), some (.int l2), some (.int l3), none] [.int v4]
          refine ev_blk hX lkok_RX3 [(.istore 4, 2, 0, 0, 0), (.iload 4, 2, 0, 0, 0)] (by decide +kernel) (g := true) (lv' := [some (.ref l0), some (.int l1), some (.int l2), some (.int l3), some (.int v4)]) (st' := [.int v4]) (D' := D4) (pc' := 84) rfl (rfl) rfl ?_
          refine ev_if_eq hX (off := 14) 98 (by decide +kernel) (by decide) (fun h5 => ?_) (fun h5 => ?_)
          · have hf := ev_it h5 hf
            refine ev_blk hX lkok_RX3 [(.iinc 3 1, 3, 0, 0, 1)] (by decide +kernel) (g := true) (lv' := [some (.ref l0), some (.int l1), some (.int l2), some (.int (l3 + (1 : Int32))), some (.int v4)]) (st' := []) (D' := D4) (pc' := 101) rfl (rfl) rfl ?_
            refine ev_goto hX (off := (-56)) 45 (by decide +kernel) (by decide) ?_
            exact ev_weak hX (ev_le_eq (ev_le_eq (ev_le_eq (ev_le_eq (ev_le_no ev_le_nil))))) (ih _ _ _ _ _ hl0 hf)
          · have hf := ev_nf h5 hf
            refine ev_blk hX lkok_RX3 [(.iload_n 1, 1, 0, 0, 0)] (by decide +kernel) (g := true) (lv' := [some (.ref l0), some (.int l1), some (.int l2), some (.int l3), some (.int v4)]) (st' := [.int l1]) (D' := D4) (pc' := 88) rfl (rfl) rfl ?_
            refine ev_if_ne hX (off := 7) 95 (by decide +kernel) (by decide) (fun h6 => ?_) (fun h6 => ?_)
            · have hf := ev_nf h6 hf
              refine ev_blk hX lkok_RX3 [(.iload 4, 2, 0, 0, 0)] (by decide +kernel) (g := true) (lv' := [some (.ref l0), some (.int l1), some (.int l2), some (.int l3), some (.int v4)]) (st' := [.int v4]) (D' := D4) (pc' := 97) rfl (rfl) rfl ?_
              exact ev_iret hR ev_sm.rf (Option.some.inj hf) hC (by decide +kernel)
            · have hf := ev_it h6 hf
              refine ev_blk hX lkok_RX3 [(.iload_n 3, 1, 0, 0, 0)] (by decide +kernel) (g := true) (lv' := [some (.ref l0), some (.int l1), some (.int l2), some (.int l3), some (.int v4)]) (st' := [.int l3]) (D' := D4) (pc' := 92) rfl (rfl) rfl ?_
              refine ev_goto hX (off := 5) 97 (by decide +kernel) (by decide) ?_
              exact ev_iret hR ev_sm.rf (Option.some.inj hf) hC (by decide +kernel)
set_option maxHeartbeats 4000000 in
set_option maxRecDepth 100000 in
theorem tX3_goodMove_4 {S : ev_S} {fu : Nat} {r : Int32 × ev_D} {F : ev_Fr} (hR : ev_R RX3 cX3_goodMove 5 4 0 0 false (some .int) S r F) (hT : ev_Ty S) (hC : sC S ≤ 0 ∧ sA S ≤ 0) : ∀ (n : Nat) (l0 : Nat) (l1 : Int32) (l2 : Int32) (l3 : Int32) (D : ev_D), sK S l0 = 6 → fX3_goodMove_4 (sL S) (sE S) fu n l0 l1 l2 l3 D = some r → F S D 4 [some (.ref l0), some (.int l1), some (.int l2), some (.int l3), none] [] := by
  have hX := hR.X
  intro n
  induction n with
  | zero =>
    intro l0 l1 l2 l3 D hl0 hf
    rw [fX3_goodMove_4] at hf
    cases hf
  | succ n ih =>
    intro l0 l1 l2 l3 D hl0 hf
    rw [fX3_goodMove_4] at hf
    refine ev_blk hX lkok_RX3 [(.iload_n 3, 1, 0, 0, 0), (.aload_n 0, 1, 0, 0, 0), (.getfield 33, 3, 3, 0, 0), (.getfield 114, 3, 9, 5, 0)] (by decide +kernel) (g := (sK S l0 == 6) && ((sK S ((sE S) l0 0) == 12) && (true))) (lv' := [some (.ref l0), some (.int l1), some (.int l2), some (.int l3), none]) (st' := [.int (D ((sE S) l0 0) 5), .int l3]) (D' := D) (pc' := 12) rfl (ev_gk hl0 (ev_gk (ev_tyk hT hl0 rfl rfl) (rfl))) rfl ?_
    refine ev_ic_ge hX (off := 31) 43 (by decide +kernel) (by decide) (fun h8 => ?_) (fun h8 => ?_)
    · have hf := ev_it h8 hf
      refine ev_blk hX lkok_RX3 [(.iconst 0, 1, 0, 0, 0), (.istore_n 3, 1, 0, 0, 0)] (by decide +kernel) (g := true) (lv' := [some (.ref l0), some (.int l1), some (.int l2), some (.int (0 : Int32)), none]) (st' := []) (D' := D) (pc' := 45) rfl (rfl) rfl ?_
      exact ev_weak hX (ev_le_eq (ev_le_eq (ev_le_eq (ev_le_eq (ev_le_no ev_le_nil))))) (tX3_goodMove_45 hR hT hC   fu _ _ _ _ _ hl0 hf)
    · have hf := ev_nf h8 hf
      refine ev_blk hX lkok_RX3 [(.iload_n 3, 1, 0, 0, 0), (.bipush 10, 2, 0, 0, 10)] (by decide +kernel) (g := true) (lv' := [some (.ref l0), some (.int l1), some (.int l2), some (.int l3), none]) (st' := [.int (10 : Int32), .int l3]) (D' := D) (pc' := 18) rfl (rfl) rfl ?_
      refine ev_ic_ge hX (off := 25) 43 (by decide +kernel) (by decide) (fun h9 => ?_) (fun h9 => ?_)
      · have hf := ev_it h9 hf
        refine ev_blk hX lkok_RX3 [(.iconst 0, 1, 0, 0, 0), (.istore_n 3, 1, 0, 0, 0)] (by decide +kernel) (g := true) (lv' := [some (.ref l0), some (.int l1), some (.int l2), some (.int (0 : Int32)), none]) (st' := []) (D' := D) (pc' := 45) rfl (rfl) rfl ?_
        exact ev_weak hX (ev_le_eq (ev_le_eq (ev_le_eq (ev_le_eq (ev_le_no ev_le_nil))))) (tX3_goodMove_45 hR hT hC   fu _ _ _ _ _ hl0 hf)
      · have hf := ev_nf h9 hf
        obtain ⟨hg11, hf⟩ := ev_gd_s hf
        refine ev_blk hX lkok_RX3 [(.iload_n 2, 1, 0, 0, 0), (.aload_n 0, 1, 0, 0, 0), (.aload_n 0, 1, 0, 0, 0), (.getfield 33, 3, 3, 0, 0), (.getfield 208, 3, 9, 13, 0), (.iload_n 3, 1, 0, 0, 0), (.iaload, 1, 0, 0, 0)] (by decide +kernel) (g := (sK S l0 == 6) && ((sK S ((sE S) l0 0) == 12) && ((sK S ((sE S) ((sE S) l0 0) 13) == 1 && ev_in l3 ((sL S) ((sE S) ((sE S) l0 0) 13))) && (true)))) (lv' := [some (.ref l0), some (.int l1), some (.int l2), some (.int l3), none]) (st' := [.int (D ((sE S) ((sE S) l0 0) 13) (l3).toNatClampNeg), .ref l0, .int l2]) (D' := D) (pc' := 32) rfl (ev_gk hl0 (ev_gk (ev_tyk hT hl0 rfl rfl) (ev_gi (ev_tyk hT (ev_tyk hT hl0 rfl rfl) rfl rfl) hg11 (rfl)))) rfl ?_
        obtain ⟨v10, D10, hc10, hf⟩ := ev_bd_s hf
        refine ev_callV hX YX3_nimberOf ml_RX3_211 (mX3_nimberOf hT hl0 hc10) (vs := [.int (D ((sE S) ((sE S) l0 0) 13) (l3).toNatClampNeg)]) (st := [.int l2]) (by decide) 3 hl0 rfl rfl rfl (by decide +kernel) hC ?_
        show F S D10 35 [some (.ref l0), some (.int l1), some (.int l2), some (.int l3), none] [.int v10, .int l2]
        refine ev_blk hX lkok_RX3 [(.ixor, 1, 0, 0, 0), (.istore_n 2, 1, 0, 0, 0), (.iinc 3 1, 3, 0, 0, 1)] (by decide +kernel) (g := true) (lv' := [some (.ref l0), some (.int l1), some (.int (l2 ^^^ v10)), some (.int (l3 + (1 : Int32))), none]) (st' := []) (D' := D10) (pc' := 40) rfl (rfl) rfl ?_
        refine ev_goto hX (off := (-36)) 4 (by decide +kernel) (by decide) ?_
        exact ev_weak hX (ev_le_eq (ev_le_eq (ev_le_eq (ev_le_eq (ev_le_no ev_le_nil))))) (ih _ _ _ _ _ hl0 hf)
set_option maxHeartbeats 4000000 in
set_option maxRecDepth 100000 in
theorem tX3_goodMove {S : ev_S} {fu : Nat} {r : Int32 × ev_D} {F : ev_Fr} (hR : ev_R RX3 cX3_goodMove 5 4 0 0 false (some .int) S r F) (hT : ev_Ty S) (hC : sC S ≤ 0 ∧ sA S ≤ 0) {l0 : Nat} {l1 : Int32} {D : ev_D} (hl0 : sK S l0 = 6) (hf : fX3_goodMove (sL S) (sE S) fu l0 l1 D = some r) : F S D 0 [some (.ref l0), some (.int l1), none, none, none] [] := by
  have hX := hR.X
  unfold fX3_goodMove at hf
  refine ev_blk hX lkok_RX3 [(.iconst 0, 1, 0, 0, 0), (.istore_n 2, 1, 0, 0, 0), (.iconst 0, 1, 0, 0, 0), (.istore_n 3, 1, 0, 0, 0)] (by decide +kernel) (g := true) (lv' := [some (.ref l0), some (.int l1), some (.int (0 : Int32)), some (.int (0 : Int32)), none]) (st' := []) (D' := D) (pc' := 4) rfl (rfl) rfl ?_
  exact ev_weak hX (ev_le_eq (ev_le_eq (ev_le_eq (ev_le_eq (ev_le_no ev_le_nil))))) (tX3_goodMove_4 hR hT hC   fu _ _ _ _ _ hl0 hf)
theorem mX3_goodMove {S : ev_S} {fu : Nat} {r : Int32 × ev_D} (hT : ev_Ty S) {l0 : Nat} {l1 : Int32} {D : ev_D} (hl0 : sK S l0 = 6) (hf : fX3_goodMove (sL S) (sE S) fu l0 l1 D = some r) : ev_M 4 0 0 yX3_goodMove cX3_goodMove 5 (some .int) [.ref l0, .int l1] S D S r :=
  ev_met (ini := false) (plainFor_of_name (by decide)) (fun h => by cases h) rfl (Nat.le_of_ble_eq_true rfl) (fun F hR => tX3_goodMove (S := ev_z S) hR hT ⟨Nat.le_refl 0, Nat.le_refl 0⟩ hl0 hf)
set_option maxHeartbeats 4000000 in
set_option maxRecDepth 100000 in
theorem tX11_game {S : ev_S} {fu : Nat} {r : Int32 × ev_D} {F : ev_Fr} (hR : ev_R RX11 cX11_game 2 5 0 0 false (some .int) S r F) (hT : ev_Ty S) (hC : sC S ≤ 0 ∧ sA S ≤ 0) {l0 : Nat} {l1 : Int32} {D : ev_D} (hl0 : sK S l0 = 14) (hf : fX11_game (sL S) (sE S) fu l0 l1 D = some r) : F S D 0 [some (.ref l0), some (.int l1)] [] := by
  have hX := hR.X
  unfold fX11_game at hf
  refine ev_blk hX lkok_RX11 [(.iload_n 1, 1, 0, 0, 0), (.iconst 0, 1, 0, 0, 0), (.iconst 1, 1, 0, 0, 1)] (by decide +kernel) (g := true) (lv' := [some (.ref l0), some (.int l1)]) (st' := [.int (1 : Int32), .int (0 : Int32), .int l1]) (D' := D) (pc' := 3) rfl (rfl) rfl ?_
  obtain ⟨v1, D1, hc1, hf⟩ := ev_bd_s hf
  refine ev_callS hX YX11_within ml_RX11_85 (mX11_within hT  hc1) (vs := [.int l1, .int (0 : Int32), .int (1 : Int32)]) (st := []) (by decide) rfl rfl (by decide +kernel) hC ?_
  show F S D1 6 [some (.ref l0), some (.int l1)] [.int v1]
  refine ev_if_eq hX (off := 14) 20 (by decide +kernel) (by decide) (fun h2 => ?_) (fun h2 => ?_)
  · have hf := ev_it h2 hf
    refine ev_blk hX lkok_RX11 [(.iconst (-1), 1, 0, 0, (-1))] (by decide +kernel) (g := true) (lv' := [some (.ref l0), some (.int l1)]) (st' := [.int (-1 : Int32)]) (D' := D1) (pc' := 21) rfl (rfl) rfl ?_
    exact ev_iret hR ev_sm.rf (Option.some.inj hf) hC (by decide +kernel)
  · have hf := ev_nf h2 hf
    refine ev_blk hX lkok_RX11 [(.aload_n 0, 1, 0, 0, 0), (.getfield 71, 3, 11, 5, 0), (.iload_n 1, 1, 0, 0, 0)] (by decide +kernel) (g := (sK S l0 == 14) && (true)) (lv' := [some (.ref l0), some (.int l1)]) (st' := [.int l1, .ref ((sE S) l0 5)]) (D' := D1) (pc' := 14) rfl (ev_gk hl0 (rfl)) rfl ?_
    obtain ⟨v3, D3, hc3, hf⟩ := ev_bd_s hf
    refine ev_callV hX YX3_goodMove ml_RX11_318 (mX3_goodMove hT (ev_tyk hT hl0 rfl rfl) hc3) (vs := [.int l1]) (st := []) (by decide) 3 (ev_tyk hT hl0 rfl rfl) rfl rfl rfl (by decide +kernel) hC ?_
    show F S D3 17 [some (.ref l0), some (.int l1)] [.int v3]
    refine ev_goto hX (off := 4) 21 (by decide +kernel) (by decide) ?_
    exact ev_iret hR ev_sm.rf (Option.some.inj hf) hC (by decide +kernel)
theorem mX11_game {S : ev_S} {fu : Nat} {r : Int32 × ev_D} (hT : ev_Ty S) {l0 : Nat} {l1 : Int32} {D : ev_D} (hl0 : sK S l0 = 14) (hf : fX11_game (sL S) (sE S) fu l0 l1 D = some r) : ev_M 5 0 0 yX11_game cX11_game 2 (some .int) [.ref l0, .int l1] S D S r :=
  ev_met (ini := false) (plainFor_of_name (by decide)) (fun h => by cases h) rfl (Nat.le_of_ble_eq_true rfl) (fun F hR => tX11_game (S := ev_z S) hR hT ⟨Nat.le_refl 0, Nat.le_refl 0⟩ hl0 hf)
set_option maxHeartbeats 4000000 in
set_option maxRecDepth 100000 in
theorem tX2_goBack {S : ev_S} {fu : Nat} {r : Int32 × ev_D} {F : ev_Fr} (hR : ev_R RX2 cX2_goBack 3 3 0 0 false (some .boolean) S r F) (hT : ev_Ty S) (hC : sC S ≤ 0 ∧ sA S ≤ 0) {l0 : Nat} {l1 : Nat} {l2 : Nat} {D : ev_D} (hl0 : sK S l0 = 5) (hl1 : sK S l1 = 12) (hl2 : sK S l2 = 3) (hf : fX2_goBack (sL S) (sE S) fu l0 l1 l2 D = some r) : F S D 0 [some (.ref l0), some (.ref l1), some (.ref l2)] [] := by
  have hX := hR.X
  unfold fX2_goBack at hf
  refine ev_blk hX lkok_RX2 [(.aload_n 0, 1, 0, 0, 0), (.getfield 9, 3, 2, 0, 0)] (by decide +kernel) (g := (sK S l0 == 5) && (true)) (lv' := [some (.ref l0), some (.ref l1), some (.ref l2)]) (st' := [.int (D l0 0)]) (D' := D) (pc' := 4) rfl (ev_gk hl0 (rfl)) rfl ?_
  refine ev_if_ne hX (off := 5) 9 (by decide +kernel) (by decide) (fun h1 => ?_) (fun h1 => ?_)
  · have hf := ev_nf h1 hf
    refine ev_blk hX lkok_RX2 [(.aload_n 0, 1, 0, 0, 0), (.aload_n 0, 1, 0, 0, 0), (.getfield 15, 3, 2, 1, 0), (.iconst 1, 1, 0, 0, 1), (.isub, 1, 0, 0, 0), (.bipush 6, 2, 0, 0, 6)] (by decide +kernel) (g := (sK S l0 == 5) && (true)) (lv' := [some (.ref l0), some (.ref l1), some (.ref l2)]) (st' := [.int (6 : Int32), .int ((D l0 1) - (1 : Int32)), .ref l0]) (D' := D) (pc' := 18) rfl (ev_gk hl0 (rfl)) rfl ?_
    obtain ⟨v2, D2, hc2, hf⟩ := ev_bd_s hf
    refine ev_callS hX YJ9_floorMod ml_RX2_29 (mJ9_floorMod hT  hc2) (vs := [.int ((D l0 1) - (1 : Int32)), .int (6 : Int32)]) (st := [.ref l0]) (by decide) rfl rfl (by decide +kernel) hC ?_
    show F S D2 21 [some (.ref l0), some (.ref l1), some (.ref l2)] [.int v2, .ref l0]
    refine ev_blk hX lkok_RX2 [(.putfield 15, 3, 2, 1, 0), (.aload_n 1, 1, 0, 0, 0), (.aload_n 0, 1, 0, 0, 0), (.getfield 20, 3, 2, 2, 0), (.aload_n 0, 1, 0, 0, 0), (.getfield 15, 3, 2, 1, 0)] (by decide +kernel) (g := (sK S l0 == 5) && ((sK S l0 == 5) && ((sK S l0 == 5) && (true)))) (lv' := [some (.ref l0), some (.ref l1), some (.ref l2)]) (st' := [.int ((ev_up D2 l0 1 v2) l0 1), .ref ((sE S) l0 2), .ref l1]) (D' := (ev_up D2 l0 1 v2)) (pc' := 33) rfl (ev_gk hl0 (ev_gk hl0 (ev_gk hl0 (rfl)))) rfl ?_
    obtain ⟨hg3, hf⟩ := ev_gd_s hf
    obtain ⟨hh3, hf⟩ := ev_gd_s hf
    refine ev_aald hX (ev_tyk hT hl0 rfl rfl) hg3 (by decide +kernel) ?_
    obtain ⟨v4, D4, hc4, hf⟩ := ev_bd_s hf
    refine ev_callV hX YX9_become ml_RX2_35 (mX9_become hT hl1 (ev_ty2 hT (ev_tyk hT hl0 rfl rfl) hh3) hc4) (vs := [.ref ((sE S) ((sE S) l0 2) (((ev_up D2 l0 1 v2) l0 1)).toNatClampNeg)]) (st := []) (by decide) 9 hl1 rfl rfl rfl (by decide +kernel) hC ?_
    show F S D4 37 [some (.ref l0), some (.ref l1), some (.ref l2)] []
    obtain ⟨hg5, hf⟩ := ev_gd_s hf
    refine ev_blk hX lkok_RX2 [(.aload_n 2, 1, 0, 0, 0), (.aload_n 0, 1, 0, 0, 0), (.getfield 24, 3, 2, 3, 0), (.aload_n 0, 1, 0, 0, 0), (.getfield 15, 3, 2, 1, 0), (.iaload, 1, 0, 0, 0), (.putfield 39, 3, 0, 0, 0), (.aload_n 0, 1, 0, 0, 0), (.dup, 1, 0, 0, 0), (.getfield 9, 3, 2, 0, 0), (.iconst 1, 1, 0, 0, 1), (.isub, 1, 0, 0, 0), (.putfield 9, 3, 2, 0, 0), (.iconst 1, 1, 0, 0, 1)] (by decide +kernel) (g := (sK S l0 == 5) && ((sK S l0 == 5) && ((sK S ((sE S) l0 3) == 1 && ev_in (D4 l0 1) ((sL S) ((sE S) l0 3))) && ((sK S l2 == 3) && ((sK S l0 == 5) && ((sK S l0 == 5) && (true))))))) (lv' := [some (.ref l0), some (.ref l1), some (.ref l2)]) (st' := [.int (1 : Int32)]) (D' := (ev_up (ev_up D4 l2 0 (D4 ((sE S) l0 3) ((D4 l0 1)).toNatClampNeg)) l0 0 (((ev_up D4 l2 0 (D4 ((sE S) l0 3) ((D4 l0 1)).toNatClampNeg)) l0 0) - (1 : Int32)))) (pc' := 61) rfl (ev_gk hl0 (ev_gk hl0 (ev_gi (ev_tyk hT hl0 rfl rfl) hg5 (ev_gk hl2 (ev_gk hl0 (ev_gk hl0 (rfl))))))) rfl ?_
    exact ev_zret hR ev_sm.rf (Or.inr rfl) (Option.some.inj hf) hC (by decide +kernel)
  · have hf := ev_it h1 hf
    refine ev_blk hX lkok_RX2 [(.iconst 0, 1, 0, 0, 0)] (by decide +kernel) (g := true) (lv' := [some (.ref l0), some (.ref l1), some (.ref l2)]) (st' := [.int (0 : Int32)]) (D' := D) (pc' := 8) rfl (rfl) rfl ?_
    exact ev_zret hR ev_sm.rf (Or.inl rfl) (Option.some.inj hf) hC (by decide +kernel)
theorem mX2_goBack {S : ev_S} {fu : Nat} {r : Int32 × ev_D} (hT : ev_Ty S) {l0 : Nat} {l1 : Nat} {l2 : Nat} {D : ev_D} (hl0 : sK S l0 = 5) (hl1 : sK S l1 = 12) (hl2 : sK S l2 = 3) (hf : fX2_goBack (sL S) (sE S) fu l0 l1 l2 D = some r) : ev_M 3 0 0 yX2_goBack cX2_goBack 3 (some .boolean) [.ref l0, .ref l1, .ref l2] S D S r :=
  ev_met (ini := false) (plainFor_of_name (by decide)) (fun h => by cases h) rfl (Nat.le_of_ble_eq_true rfl) (fun F hR => tX2_goBack (S := ev_z S) hR hT ⟨Nat.le_refl 0, Nat.le_refl 0⟩ hl0 hl1 hl2 hf)
set_option maxHeartbeats 4000000 in
set_option maxRecDepth 100000 in
theorem tX11_undo {S : ev_S} {fu : Nat} {r : Int32 × ev_D} {F : ev_Fr} (hR : ev_R RX11 cX11_undo 1 4 0 0 false (some .boolean) S r F) (hT : ev_Ty S) (hC : sC S ≤ 0 ∧ sA S ≤ 0) {l0 : Nat} {D : ev_D} (hl0 : sK S l0 = 14) (hf : fX11_undo (sL S) (sE S) fu l0 D = some r) : F S D 0 [some (.ref l0)] [] := by
  have hX := hR.X
  unfold fX11_undo at hf
  refine ev_blk hX lkok_RX11 [(.aload_n 0, 1, 0, 0, 0), (.getfield 19, 3, 11, 1, 0), (.aload_n 0, 1, 0, 0, 0), (.getfield 10, 3, 11, 0, 0), (.getfield 32, 3, 10, 0, 0), (.aload_n 0, 1, 0, 0, 0), (.getfield 10, 3, 11, 0, 0), (.getfield 36, 3, 10, 1, 0)] (by decide +kernel) (g := (sK S l0 == 14) && ((sK S l0 == 14) && ((sK S ((sE S) l0 0) == 13) && ((sK S l0 == 14) && ((sK S ((sE S) l0 0) == 13) && (true)))))) (lv' := [some (.ref l0)]) (st' := [.ref ((sE S) ((sE S) l0 0) 1), .ref ((sE S) ((sE S) l0 0) 0), .ref ((sE S) l0 1)]) (D' := D) (pc' := 18) rfl (ev_gk hl0 (ev_gk hl0 (ev_gk (ev_tyk hT hl0 rfl rfl) (ev_gk hl0 (ev_gk (ev_tyk hT hl0 rfl rfl) (rfl)))))) rfl ?_
  obtain ⟨v1, D1, hc1, hf⟩ := ev_bd_s hf
  refine ev_callV hX YX2_goBack ml_RX11_321 (mX2_goBack hT (ev_tyk hT hl0 rfl rfl) (ev_tyk hT (ev_tyk hT hl0 rfl rfl) rfl rfl) (ev_tyk hT (ev_tyk hT hl0 rfl rfl) rfl rfl) hc1) (vs := [.ref ((sE S) ((sE S) l0 0) 0), .ref ((sE S) ((sE S) l0 0) 1)]) (st := []) (by decide) 2 (ev_tyk hT hl0 rfl rfl) rfl rfl rfl (by decide +kernel) hC ?_
  show F S D1 21 [some (.ref l0)] [.int v1]
  obtain ⟨hz, hf⟩ := ev_gd_s hf
  exact ev_zret hR ev_sm.rf (ev_z01 hz) (Option.some.inj hf) hC (by decide +kernel)
theorem mX11_undo {S : ev_S} {fu : Nat} {r : Int32 × ev_D} (hT : ev_Ty S) {l0 : Nat} {D : ev_D} (hl0 : sK S l0 = 14) (hf : fX11_undo (sL S) (sE S) fu l0 D = some r) : ev_M 4 0 0 yX11_undo cX11_undo 1 (some .boolean) [.ref l0] S D S r :=
  ev_met (ini := false) (plainFor_of_name (by decide)) (fun h => by cases h) rfl (Nat.le_of_ble_eq_true rfl) (fun F hR => tX11_undo (S := ev_z S) hR hT ⟨Nat.le_refl 0, Nat.le_refl 0⟩ hl0 hf)
theorem dX11_look_17 : decode cX11_look 17 = .ok (.tableswitch 153 0 12 #[67, 72, 77, 82, 87, 92, 97, 108, 113, 121, 129, 137, 145], 67) := by decide +kernel
set_option maxHeartbeats 4000000 in
set_option maxRecDepth 100000 in
theorem tX11_look {S : ev_S} {fu : Nat} {r : Int32 × ev_D} {F : ev_Fr} (hR : ev_R RX11 cX11_look 4 0 0 0 false (some .int) S r F) (hT : ev_Ty S) (hC : sC S ≤ 0 ∧ sA S ≤ 0) {l0 : Nat} {l1 : Int32} {D : ev_D} (hl0 : sK S l0 = 14) (hf : fX11_look (sL S) (sE S) fu l0 l1 D = some r) : F S D 0 [some (.ref l0), some (.int l1), none, none] [] := by
  have hX := hR.X
  unfold fX11_look at hf
  refine ev_blk hX lkok_RX11 [(.aload_n 0, 1, 0, 0, 0), (.getfield 10, 3, 11, 0, 0), (.getfield 32, 3, 10, 0, 0), (.astore_n 2, 1, 0, 0, 0), (.aload_n 0, 1, 0, 0, 0), (.getfield 10, 3, 11, 0, 0), (.getfield 40, 3, 10, 2, 0), (.astore_n 3, 1, 0, 0, 0), (.iload_n 1, 1, 0, 0, 0)] (by decide +kernel) (g := (sK S l0 == 14) && ((sK S ((sE S) l0 0) == 13) && ((sK S l0 == 14) && ((sK S ((sE S) l0 0) == 13) && (true))))) (lv' := [some (.ref l0), some (.int l1), some (.ref ((sE S) ((sE S) l0 0) 0)), some (.ref ((sE S) ((sE S) l0 0) 2))]) (st' := [.int l1]) (D' := D) (pc' := 17) rfl (ev_gk hl0 (ev_gk (ev_tyk hT hl0 rfl rfl) (ev_gk hl0 (ev_gk (ev_tyk hT hl0 rfl rfl) (rfl))))) rfl ?_
  by_cases h1 : l1 = (0 : Int32)
  · have hf := ev_it h1 hf
    refine ev_tblIn hX (off := 67) 84 dX11_look_17 (by rw [h1]; decide) (by rw [h1]; decide) (by rw [h1]; rfl) (by decide) ?_
    refine ev_blk hX lkok_RX11 [(.aload_n 2, 1, 0, 0, 0), (.getfield 159, 3, 9, 5, 0)] (by decide +kernel) (g := (sK S ((sE S) ((sE S) l0 0) 0) == 12) && (true)) (lv' := [some (.ref l0), some (.int l1), some (.ref ((sE S) ((sE S) l0 0) 0)), some (.ref ((sE S) ((sE S) l0 0) 2))]) (st' := [.int (D ((sE S) ((sE S) l0 0) 0) 5)]) (D' := D) (pc' := 88) rfl (ev_gk (ev_tyk hT (ev_tyk hT hl0 rfl rfl) rfl rfl) (rfl)) rfl ?_
    exact ev_iret hR ev_sm.rf (Option.some.inj hf) hC (by decide +kernel)
  have hf := ev_nf h1 hf
  by_cases h2 : l1 = (1 : Int32)
  · have hf := ev_it h2 hf
    refine ev_tblIn hX (off := 72) 89 dX11_look_17 (by rw [h2]; decide) (by rw [h2]; decide) (by rw [h2]; rfl) (by decide) ?_
    refine ev_blk hX lkok_RX11 [(.aload_n 2, 1, 0, 0, 0), (.getfield 136, 3, 9, 4, 0)] (by decide +kernel) (g := (sK S ((sE S) ((sE S) l0 0) 0) == 12) && (true)) (lv' := [some (.ref l0), some (.int l1), some (.ref ((sE S) ((sE S) l0 0) 0)), some (.ref ((sE S) ((sE S) l0 0) 2))]) (st' := [.int (D ((sE S) ((sE S) l0 0) 0) 4)]) (D' := D) (pc' := 93) rfl (ev_gk (ev_tyk hT (ev_tyk hT hl0 rfl rfl) rfl rfl) (rfl)) rfl ?_
    exact ev_iret hR ev_sm.rf (Option.some.inj hf) hC (by decide +kernel)
  have hf := ev_nf h2 hf
  by_cases h3 : l1 = (2 : Int32)
  · have hf := ev_it h3 hf
    refine ev_tblIn hX (off := 77) 94 dX11_look_17 (by rw [h3]; decide) (by rw [h3]; decide) (by rw [h3]; rfl) (by decide) ?_
    refine ev_blk hX lkok_RX11 [(.aload_n 2, 1, 0, 0, 0), (.getfield 103, 3, 9, 1, 0)] (by decide +kernel) (g := (sK S ((sE S) ((sE S) l0 0) 0) == 12) && (true)) (lv' := [some (.ref l0), some (.int l1), some (.ref ((sE S) ((sE S) l0 0) 0)), some (.ref ((sE S) ((sE S) l0 0) 2))]) (st' := [.int (D ((sE S) ((sE S) l0 0) 0) 1)]) (D' := D) (pc' := 98) rfl (ev_gk (ev_tyk hT (ev_tyk hT hl0 rfl rfl) rfl rfl) (rfl)) rfl ?_
    exact ev_iret hR ev_sm.rf (Option.some.inj hf) hC (by decide +kernel)
  have hf := ev_nf h3 hf
  by_cases h4 : l1 = (3 : Int32)
  · have hf := ev_it h4 hf
    refine ev_tblIn hX (off := 82) 99 dX11_look_17 (by rw [h4]; decide) (by rw [h4]; decide) (by rw [h4]; rfl) (by decide) ?_
    refine ev_blk hX lkok_RX11 [(.aload_n 2, 1, 0, 0, 0), (.getfield 106, 3, 9, 2, 0)] (by decide +kernel) (g := (sK S ((sE S) ((sE S) l0 0) 0) == 12) && (true)) (lv' := [some (.ref l0), some (.int l1), some (.ref ((sE S) ((sE S) l0 0) 0)), some (.ref ((sE S) ((sE S) l0 0) 2))]) (st' := [.int (D ((sE S) ((sE S) l0 0) 0) 2)]) (D' := D) (pc' := 103) rfl (ev_gk (ev_tyk hT (ev_tyk hT hl0 rfl rfl) rfl rfl) (rfl)) rfl ?_
    exact ev_iret hR ev_sm.rf (Option.some.inj hf) hC (by decide +kernel)
  have hf := ev_nf h4 hf
  by_cases h5 : l1 = (4 : Int32)
  · have hf := ev_it h5 hf
    refine ev_tblIn hX (off := 87) 104 dX11_look_17 (by rw [h5]; decide) (by rw [h5]; decide) (by rw [h5]; rfl) (by decide) ?_
    refine ev_blk hX lkok_RX11 [(.aload_n 2, 1, 0, 0, 0), (.getfield 109, 3, 9, 3, 0)] (by decide +kernel) (g := (sK S ((sE S) ((sE S) l0 0) 0) == 12) && (true)) (lv' := [some (.ref l0), some (.int l1), some (.ref ((sE S) ((sE S) l0 0) 0)), some (.ref ((sE S) ((sE S) l0 0) 2))]) (st' := [.int (D ((sE S) ((sE S) l0 0) 0) 3)]) (D' := D) (pc' := 108) rfl (ev_gk (ev_tyk hT (ev_tyk hT hl0 rfl rfl) rfl rfl) (rfl)) rfl ?_
    exact ev_iret hR ev_sm.rf (Option.some.inj hf) hC (by decide +kernel)
  have hf := ev_nf h5 hf
  by_cases h6 : l1 = (5 : Int32)
  · have hf := ev_it h6 hf
    refine ev_tblIn hX (off := 92) 109 dX11_look_17 (by rw [h6]; decide) (by rw [h6]; decide) (by rw [h6]; rfl) (by decide) ?_
    refine ev_blk hX lkok_RX11 [(.aload_n 2, 1, 0, 0, 0), (.getfield 211, 3, 9, 6, 0)] (by decide +kernel) (g := (sK S ((sE S) ((sE S) l0 0) 0) == 12) && (true)) (lv' := [some (.ref l0), some (.int l1), some (.ref ((sE S) ((sE S) l0 0) 0)), some (.ref ((sE S) ((sE S) l0 0) 2))]) (st' := [.int (D ((sE S) ((sE S) l0 0) 0) 6)]) (D' := D) (pc' := 113) rfl (ev_gk (ev_tyk hT (ev_tyk hT hl0 rfl rfl) rfl rfl) (rfl)) rfl ?_
    exact ev_iret hR ev_sm.rf (Option.some.inj hf) hC (by decide +kernel)
  have hf := ev_nf h6 hf
  by_cases h7 : l1 = (6 : Int32)
  · have hf := ev_it h7 hf
    refine ev_tblIn hX (off := 97) 114 dX11_look_17 (by rw [h7]; decide) (by rw [h7]; decide) (by rw [h7]; rfl) (by decide) ?_
    refine ev_blk hX lkok_RX11 [(.aload_n 0, 1, 0, 0, 0), (.getfield 10, 3, 11, 0, 0), (.getfield 36, 3, 10, 1, 0), (.getfield 196, 3, 0, 0, 0)] (by decide +kernel) (g := (sK S l0 == 14) && ((sK S ((sE S) l0 0) == 13) && ((sK S ((sE S) ((sE S) l0 0) 1) == 3) && (true)))) (lv' := [some (.ref l0), some (.int l1), some (.ref ((sE S) ((sE S) l0 0) 0)), some (.ref ((sE S) ((sE S) l0 0) 2))]) (st' := [.int (D ((sE S) ((sE S) l0 0) 1) 0)]) (D' := D) (pc' := 124) rfl (ev_gk hl0 (ev_gk (ev_tyk hT hl0 rfl rfl) (ev_gk (ev_tyk hT (ev_tyk hT hl0 rfl rfl) rfl rfl) (rfl)))) rfl ?_
    exact ev_iret hR ev_sm.rf (Option.some.inj hf) hC (by decide +kernel)
  have hf := ev_nf h7 hf
  by_cases h8 : l1 = (7 : Int32)
  · have hf := ev_it h8 hf
    refine ev_tblIn hX (off := 108) 125 dX11_look_17 (by rw [h8]; decide) (by rw [h8]; decide) (by rw [h8]; rfl) (by decide) ?_
    refine ev_blk hX lkok_RX11 [(.aload_n 2, 1, 0, 0, 0), (.getfield 78, 3, 9, 0, 0)] (by decide +kernel) (g := (sK S ((sE S) ((sE S) l0 0) 0) == 12) && (true)) (lv' := [some (.ref l0), some (.int l1), some (.ref ((sE S) ((sE S) l0 0) 0)), some (.ref ((sE S) ((sE S) l0 0) 2))]) (st' := [.int (D ((sE S) ((sE S) l0 0) 0) 0)]) (D' := D) (pc' := 129) rfl (ev_gk (ev_tyk hT (ev_tyk hT hl0 rfl rfl) rfl rfl) (rfl)) rfl ?_
    exact ev_iret hR ev_sm.rf (Option.some.inj hf) hC (by decide +kernel)
  have hf := ev_nf h8 hf
  by_cases h9 : l1 = (8 : Int32)
  · have hf := ev_it h9 hf
    refine ev_tblIn hX (off := 113) 130 dX11_look_17 (by rw [h9]; decide) (by rw [h9]; decide) (by rw [h9]; rfl) (by decide) ?_
    refine ev_blk hX lkok_RX11 [(.aload_n 3, 1, 0, 0, 0), (.getfield 328, 3, 7, 0, 0), (.getfield 332, 3, 1, 0, 0)] (by decide +kernel) (g := (sK S ((sE S) ((sE S) l0 0) 2) == 10) && ((sK S ((sE S) ((sE S) ((sE S) l0 0) 2) 0) == 4) && (true))) (lv' := [some (.ref l0), some (.int l1), some (.ref ((sE S) ((sE S) l0 0) 0)), some (.ref ((sE S) ((sE S) l0 0) 2))]) (st' := [.int (D ((sE S) ((sE S) ((sE S) l0 0) 2) 0) 0)]) (D' := D) (pc' := 137) rfl (ev_gk (ev_tyk hT (ev_tyk hT hl0 rfl rfl) rfl rfl) (ev_gk (ev_tyk hT (ev_tyk hT (ev_tyk hT hl0 rfl rfl) rfl rfl) rfl rfl) (rfl))) rfl ?_
    exact ev_iret hR ev_sm.rf (Option.some.inj hf) hC (by decide +kernel)
  have hf := ev_nf h9 hf
  by_cases h10 : l1 = (9 : Int32)
  · have hf := ev_it h10 hf
    refine ev_tblIn hX (off := 121) 138 dX11_look_17 (by rw [h10]; decide) (by rw [h10]; decide) (by rw [h10]; rfl) (by decide) ?_
    refine ev_blk hX lkok_RX11 [(.aload_n 3, 1, 0, 0, 0), (.getfield 335, 3, 7, 1, 0), (.getfield 282, 3, 6, 0, 0)] (by decide +kernel) (g := (sK S ((sE S) ((sE S) l0 0) 2) == 10) && ((sK S ((sE S) ((sE S) ((sE S) l0 0) 2) 1) == 9) && (true))) (lv' := [some (.ref l0), some (.int l1), some (.ref ((sE S) ((sE S) l0 0) 0)), some (.ref ((sE S) ((sE S) l0 0) 2))]) (st' := [.int (D ((sE S) ((sE S) ((sE S) l0 0) 2) 1) 0)]) (D' := D) (pc' := 145) rfl (ev_gk (ev_tyk hT (ev_tyk hT hl0 rfl rfl) rfl rfl) (ev_gk (ev_tyk hT (ev_tyk hT (ev_tyk hT hl0 rfl rfl) rfl rfl) rfl rfl) (rfl))) rfl ?_
    exact ev_iret hR ev_sm.rf (Option.some.inj hf) hC (by decide +kernel)
  have hf := ev_nf h10 hf
  by_cases h11 : l1 = (10 : Int32)
  · have hf := ev_it h11 hf
    refine ev_tblIn hX (off := 129) 146 dX11_look_17 (by rw [h11]; decide) (by rw [h11]; decide) (by rw [h11]; rfl) (by decide) ?_
    refine ev_blk hX lkok_RX11 [(.aload_n 3, 1, 0, 0, 0), (.getfield 338, 3, 7, 2, 0), (.getfield 282, 3, 6, 0, 0)] (by decide +kernel) (g := (sK S ((sE S) ((sE S) l0 0) 2) == 10) && ((sK S ((sE S) ((sE S) ((sE S) l0 0) 2) 2) == 9) && (true))) (lv' := [some (.ref l0), some (.int l1), some (.ref ((sE S) ((sE S) l0 0) 0)), some (.ref ((sE S) ((sE S) l0 0) 2))]) (st' := [.int (D ((sE S) ((sE S) ((sE S) l0 0) 2) 2) 0)]) (D' := D) (pc' := 153) rfl (ev_gk (ev_tyk hT (ev_tyk hT hl0 rfl rfl) rfl rfl) (ev_gk (ev_tyk hT (ev_tyk hT (ev_tyk hT hl0 rfl rfl) rfl rfl) rfl rfl) (rfl))) rfl ?_
    exact ev_iret hR ev_sm.rf (Option.some.inj hf) hC (by decide +kernel)
  have hf := ev_nf h11 hf
  by_cases h12 : l1 = (11 : Int32)
  · have hf := ev_it h12 hf
    refine ev_tblIn hX (off := 137) 154 dX11_look_17 (by rw [h12]; decide) (by rw [h12]; decide) (by rw [h12]; rfl) (by decide) ?_
    refine ev_blk hX lkok_RX11 [(.aload_n 3, 1, 0, 0, 0), (.getfield 341, 3, 7, 3, 0), (.getfield 282, 3, 6, 0, 0)] (by decide +kernel) (g := (sK S ((sE S) ((sE S) l0 0) 2) == 10) && ((sK S ((sE S) ((sE S) ((sE S) l0 0) 2) 3) == 9) && (true))) (lv' := [some (.ref l0), some (.int l1), some (.ref ((sE S) ((sE S) l0 0) 0)), some (.ref ((sE S) ((sE S) l0 0) 2))]) (st' := [.int (D ((sE S) ((sE S) ((sE S) l0 0) 2) 3) 0)]) (D' := D) (pc' := 161) rfl (ev_gk (ev_tyk hT (ev_tyk hT hl0 rfl rfl) rfl rfl) (ev_gk (ev_tyk hT (ev_tyk hT (ev_tyk hT hl0 rfl rfl) rfl rfl) rfl rfl) (rfl))) rfl ?_
    exact ev_iret hR ev_sm.rf (Option.some.inj hf) hC (by decide +kernel)
  have hf := ev_nf h12 hf
  by_cases h13 : l1 = (12 : Int32)
  · have hf := ev_it h13 hf
    refine ev_tblIn hX (off := 145) 162 dX11_look_17 (by rw [h13]; decide) (by rw [h13]; decide) (by rw [h13]; rfl) (by decide) ?_
    refine ev_blk hX lkok_RX11 [(.aload_n 0, 1, 0, 0, 0), (.getfield 19, 3, 11, 1, 0), (.getfield 344, 3, 2, 0, 0)] (by decide +kernel) (g := (sK S l0 == 14) && ((sK S ((sE S) l0 1) == 5) && (true))) (lv' := [some (.ref l0), some (.int l1), some (.ref ((sE S) ((sE S) l0 0) 0)), some (.ref ((sE S) ((sE S) l0 0) 2))]) (st' := [.int (D ((sE S) l0 1) 0)]) (D' := D) (pc' := 169) rfl (ev_gk hl0 (ev_gk (ev_tyk hT hl0 rfl rfl) (rfl))) rfl ?_
    exact ev_iret hR ev_sm.rf (Option.some.inj hf) hC (by decide +kernel)
  have hf := ev_nf h13 hf
  refine ev_tblOut hX 170 dX11_look_17 (by have h1q : (l1).toInt ≠ 0 := ev_ne h1; have h2q : (l1).toInt ≠ 1 := ev_ne h2; have h3q : (l1).toInt ≠ 2 := ev_ne h3; have h4q : (l1).toInt ≠ 3 := ev_ne h4; have h5q : (l1).toInt ≠ 4 := ev_ne h5; have h6q : (l1).toInt ≠ 5 := ev_ne h6; have h7q : (l1).toInt ≠ 6 := ev_ne h7; have h8q : (l1).toInt ≠ 7 := ev_ne h8; have h9q : (l1).toInt ≠ 8 := ev_ne h9; have h10q : (l1).toInt ≠ 9 := ev_ne h10; have h11q : (l1).toInt ≠ 10 := ev_ne h11; have h12q : (l1).toInt ≠ 11 := ev_ne h12; have h13q : (l1).toInt ≠ 12 := ev_ne h13; omega) (by decide) ?_
  refine ev_blk hX lkok_RX11 [(.iconst (-1), 1, 0, 0, (-1))] (by decide +kernel) (g := true) (lv' := [some (.ref l0), some (.int l1), some (.ref ((sE S) ((sE S) l0 0) 0)), some (.ref ((sE S) ((sE S) l0 0) 2))]) (st' := [.int (-1 : Int32)]) (D' := D) (pc' := 171) rfl (rfl) rfl ?_
  exact ev_iret hR ev_sm.rf (Option.some.inj hf) hC (by decide +kernel)
theorem mX11_look {S : ev_S} {fu : Nat} {r : Int32 × ev_D} (hT : ev_Ty S) {l0 : Nat} {l1 : Int32} {D : ev_D} (hl0 : sK S l0 = 14) (hf : fX11_look (sL S) (sE S) fu l0 l1 D = some r) : ev_M 0 0 0 yX11_look cX11_look 4 (some .int) [.ref l0, .int l1] S D S r :=
  ev_met (ini := false) (plainFor_of_name (by decide)) (fun h => by cases h) rfl (Nat.le_of_ble_eq_true rfl) (fun F hR => tX11_look (S := ev_z S) hR hT ⟨Nat.le_refl 0, Nat.le_refl 0⟩ hl0 hf)
