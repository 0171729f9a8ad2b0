set_option maxHeartbeats 4000000 in
set_option maxRecDepth 100000 in
theorem tX12_held {S : ev_S} {fu : Nat} {r : Int32 × ev_D} {F : ev_Fr} (hR : ev_R RX12 cX12_held 4 0 0 0 false (some .int) S r F) (hT : ev_Ty S) (hC : sC S ≤ 0 ∧ sA S ≤ 0) {l0 : Nat} {l1 : Int32} {l2 : Int32} {l3 : Int32} {D : ev_D} (hl0 : sK S l0 = 15) (hf : fX12_held (sL S) (sE S) fu l0 l1 l2 l3 D = some r) : F S D 0 [some (.ref l0), some (.int l1), some (.int l2), some (.int l3)] [] := by
  have hX := hR.X
  unfold fX12_held at hf
  refine ev_blk hX lkok_RX12 [(.iload_n 1, 1, 0, 0, 0), (.iload_n 2, 1, 0, 0, 0)] (by decide +kernel) (g := true) (lv' := [some (.ref l0), some (.int l1), some (.int l2), some (.int l3)]) (st' := [.int l2, .int l1]) (D' := D) (pc' := 2) rfl (rfl) rfl ?_
  refine ev_ic_ge hX (off := 7) 9 (by decide +kernel) (by decide) (fun h1 => ?_) (fun h1 => ?_)
  · have hf := ev_it h1 hf
    refine ev_blk hX lkok_RX12 [(.iload_n 1, 1, 0, 0, 0), (.iload_n 3, 1, 0, 0, 0)] (by decide +kernel) (g := true) (lv' := [some (.ref l0), some (.int l1), some (.int l2), some (.int l3)]) (st' := [.int l3, .int l1]) (D' := D) (pc' := 11) rfl (rfl) rfl ?_
    refine ev_ic_le hX (off := 7) 18 (by decide +kernel) (by decide) (fun h2 => ?_) (fun h2 => ?_)
    · have hf := ev_it h2 hf
      refine ev_blk hX lkok_RX12 [(.iload_n 1, 1, 0, 0, 0)] (by decide +kernel) (g := true) (lv' := [some (.ref l0), some (.int l1), some (.int l2), some (.int l3)]) (st' := [.int l1]) (D' := D) (pc' := 19) rfl (rfl) rfl ?_
      exact ev_iret hR ev_sm.rf (Option.some.inj hf) hC (by decide +kernel)
    · have hf := ev_nf h2 hf
      refine ev_blk hX lkok_RX12 [(.iload_n 3, 1, 0, 0, 0)] (by decide +kernel) (g := true) (lv' := [some (.ref l0), some (.int l1), some (.int l2), some (.int l3)]) (st' := [.int l3]) (D' := D) (pc' := 15) rfl (rfl) rfl ?_
      refine ev_goto hX (off := 4) 19 (by decide +kernel) (by decide) ?_
      exact ev_iret hR ev_sm.rf (Option.some.inj hf) hC (by decide +kernel)
  · have hf := ev_nf h1 hf
    refine ev_blk hX lkok_RX12 [(.iload_n 2, 1, 0, 0, 0)] (by decide +kernel) (g := true) (lv' := [some (.ref l0), some (.int l1), some (.int l2), some (.int l3)]) (st' := [.int l2]) (D' := D) (pc' := 6) rfl (rfl) rfl ?_
    refine ev_goto hX (off := 13) 19 (by decide +kernel) (by decide) ?_
    exact ev_iret hR ev_sm.rf (Option.some.inj hf) hC (by decide +kernel)
theorem mX12_held {S : ev_S} {fu : Nat} {r : Int32 × ev_D} (hT : ev_Ty S) {l0 : Nat} {l1 : Int32} {l2 : Int32} {l3 : Int32} {D : ev_D} (hl0 : sK S l0 = 15) (hf : fX12_held (sL S) (sE S) fu l0 l1 l2 l3 D = some r) : ev_M 0 0 0 yX12_held cX12_held 4 (some .int) [.ref l0, .int l1, .int l2, .int l3] S D S r :=
  ev_met (ini := false) (plainFor_of_name (by decide)) (fun h => by cases h) rfl (Nat.le_of_ble_eq_true rfl) (fun F hR => tX12_held (S := ev_z S) hR hT ⟨Nat.le_refl 0, Nat.le_refl 0⟩ hl0 hf)
set_option maxHeartbeats 4000000 in
set_option maxRecDepth 100000 in
theorem tX12_twoOf {S : ev_S} {fu : Nat} {r : Int32 × ev_D} {F : ev_Fr} (hR : ev_R RX12 cX12_twoOf 4 0 0 0 false (some .int) S r F) (hT : ev_Ty S) (hC : sC S ≤ 0 ∧ sA S ≤ 0) {l0 : Nat} {l1 : Int32} {l2 : Int32} {l3 : Int32} {D : ev_D} (hl0 : sK S l0 = 15) (hf : fX12_twoOf (sL S) (sE S) fu l0 l1 l2 l3 D = some r) : F S D 0 [some (.ref l0), some (.int l1), some (.int l2), some (.int l3)] [] := by
  have hX := hR.X
  unfold fX12_twoOf at hf
  refine ev_blk hX lkok_RX12 [(.iload_n 1, 1, 0, 0, 0), (.iconst 2, 1, 0, 0, 2)] (by decide +kernel) (g := true) (lv' := [some (.ref l0), some (.int l1), some (.int l2), some (.int l3)]) (st' := [.int (2 : Int32), .int l1]) (D' := D) (pc' := 2) rfl (rfl) rfl ?_
  refine ev_ic_ne hX (off := 7) 9 (by decide +kernel) (by decide) (fun h1 => ?_) (fun h1 => ?_)
  · have hf := ev_nf h1 hf
    refine ev_blk hX lkok_RX12 [(.iload_n 1, 1, 0, 0, 0), (.iconst 3, 1, 0, 0, 3)] (by decide +kernel) (g := true) (lv' := [some (.ref l0), some (.int l1), some (.int l2), some (.int l3)]) (st' := [.int (3 : Int32), .int l1]) (D' := D) (pc' := 11) rfl (rfl) rfl ?_
    refine ev_ic_ne hX (off := 7) 18 (by decide +kernel) (by decide) (fun h2 => ?_) (fun h2 => ?_)
    · have hf := ev_nf h2 hf
      refine ev_blk hX lkok_RX12 [(.iload_n 1, 1, 0, 0, 0), (.iconst 4, 1, 0, 0, 4)] (by decide +kernel) (g := true) (lv' := [some (.ref l0), some (.int l1), some (.int l2), some (.int l3)]) (st' := [.int (4 : Int32), .int l1]) (D' := D) (pc' := 20) rfl (rfl) rfl ?_
      refine ev_ic_ne hX (off := 7) 27 (by decide +kernel) (by decide) (fun h3 => ?_) (fun h3 => ?_)
      · have hf := ev_nf h3 hf
        refine ev_blk hX lkok_RX12 [(.iload_n 1, 1, 0, 0, 0), (.iconst 5, 1, 0, 0, 5)] (by decide +kernel) (g := true) (lv' := [some (.ref l0), some (.int l1), some (.int l2), some (.int l3)]) (st' := [.int (5 : Int32), .int l1]) (D' := D) (pc' := 29) rfl (rfl) rfl ?_
        refine ev_ic_ne hX (off := 7) 36 (by decide +kernel) (by decide) (fun h4 => ?_) (fun h4 => ?_)
        · have hf := ev_nf h4 hf
          refine ev_blk hX lkok_RX12 [(.iload_n 1, 1, 0, 0, 0), (.bipush 6, 2, 0, 0, 6)] (by decide +kernel) (g := true) (lv' := [some (.ref l0), some (.int l1), some (.int l2), some (.int l3)]) (st' := [.int (6 : Int32), .int l1]) (D' := D) (pc' := 39) rfl (rfl) rfl ?_
          refine ev_ic_ne hX (off := 14) 53 (by decide +kernel) (by decide) (fun h5 => ?_) (fun h5 => ?_)
          · have hf := ev_nf h5 hf
            refine ev_blk hX lkok_RX12 [(.iload_n 1, 1, 0, 0, 0), (.bipush 7, 2, 0, 0, 7)] (by decide +kernel) (g := true) (lv' := [some (.ref l0), some (.int l1), some (.int l2), some (.int l3)]) (st' := [.int (7 : Int32), .int l1]) (D' := D) (pc' := 56) rfl (rfl) rfl ?_
            refine ev_ic_ne hX (off := 14) 70 (by decide +kernel) (by decide) (fun h6 => ?_) (fun h6 => ?_)
            · have hf := ev_nf h6 hf
              refine ev_blk hX lkok_RX12 [(.iload_n 1, 1, 0, 0, 0), (.bipush 8, 2, 0, 0, 8)] (by decide +kernel) (g := true) (lv' := [some (.ref l0), some (.int l1), some (.int l2), some (.int l3)]) (st' := [.int (8 : Int32), .int l1]) (D' := D) (pc' := 73) rfl (rfl) rfl ?_
              refine ev_ic_ne hX (off := 14) 87 (by decide +kernel) (by decide) (fun h7 => ?_) (fun h7 => ?_)
              · have hf := ev_nf h7 hf
                refine ev_blk hX lkok_RX12 [(.iload_n 1, 1, 0, 0, 0), (.bipush 10, 2, 0, 0, 10)] (by decide +kernel) (g := true) (lv' := [some (.ref l0), some (.int l1), some (.int l2), some (.int l3)]) (st' := [.int (10 : Int32), .int l1]) (D' := D) (pc' := 90) rfl (rfl) rfl ?_
                refine ev_ic_ne hX (off := 9) 99 (by decide +kernel) (by decide) (fun h8 => ?_) (fun h8 => ?_)
                · have hf := ev_nf h8 hf
                  refine ev_blk hX lkok_RX12 [(.iload_n 2, 1, 0, 0, 0), (.iload_n 3, 1, 0, 0, 0), (.iadd, 1, 0, 0, 0)] (by decide +kernel) (g := true) (lv' := [some (.ref l0), some (.int l1), some (.int l2), some (.int l3)]) (st' := [.int (l2 + l3)]) (D' := D) (pc' := 102) rfl (rfl) rfl ?_
                  refine ev_if_le hX (off := 7) 109 (by decide +kernel) (by decide) (fun h9 => ?_) (fun h9 => ?_)
                  · have hf := ev_it h9 hf
                    refine ev_blk hX lkok_RX12 [(.iconst 0, 1, 0, 0, 0)] (by decide +kernel) (g := true) (lv' := [some (.ref l0), some (.int l1), some (.int l2), some (.int l3)]) (st' := [.int (0 : Int32)]) (D' := D) (pc' := 110) rfl (rfl) rfl ?_
                    exact ev_iret hR ev_sm.rf (Option.some.inj hf) hC (by decide +kernel)
                  · have hf := ev_nf h9 hf
                    refine ev_blk hX lkok_RX12 [(.iconst 1, 1, 0, 0, 1)] (by decide +kernel) (g := true) (lv' := [some (.ref l0), some (.int l1), some (.int l2), some (.int l3)]) (st' := [.int (1 : Int32)]) (D' := D) (pc' := 106) rfl (rfl) rfl ?_
                    refine ev_goto hX (off := 4) 110 (by decide +kernel) (by decide) ?_
                    exact ev_iret hR ev_sm.rf (Option.some.inj hf) hC (by decide +kernel)
                · have hf := ev_it h8 hf
                  refine ev_blk hX lkok_RX12 [(.iload_n 2, 1, 0, 0, 0), (.iload_n 3, 1, 0, 0, 0), (.imul, 1, 0, 0, 0)] (by decide +kernel) (g := true) (lv' := [some (.ref l0), some (.int l1), some (.int l2), some (.int l3)]) (st' := [.int (l2 * l3)]) (D' := D) (pc' := 96) rfl (rfl) rfl ?_
                  refine ev_goto hX (off := 14) 110 (by decide +kernel) (by decide) ?_
                  exact ev_iret hR ev_sm.rf (Option.some.inj hf) hC (by decide +kernel)
              · have hf := ev_it h7 hf
                refine ev_blk hX lkok_RX12 [(.iload_n 2, 1, 0, 0, 0), (.iload_n 3, 1, 0, 0, 0)] (by decide +kernel) (g := true) (lv' := [some (.ref l0), some (.int l1), some (.int l2), some (.int l3)]) (st' := [.int l3, .int l2]) (D' := D) (pc' := 78) rfl (rfl) rfl ?_
                refine ev_ic_le hX (off := 7) 85 (by decide +kernel) (by decide) (fun h10 => ?_) (fun h10 => ?_)
                · have hf := ev_it h10 hf
                  refine ev_blk hX lkok_RX12 [(.iconst 0, 1, 0, 0, 0)] (by decide +kernel) (g := true) (lv' := [some (.ref l0), some (.int l1), some (.int l2), some (.int l3)]) (st' := [.int (0 : Int32)]) (D' := D) (pc' := 86) rfl (rfl) rfl ?_
                  exact ev_iret hR ev_sm.rf (Option.some.inj hf) hC (by decide +kernel)
                · have hf := ev_nf h10 hf
                  refine ev_blk hX lkok_RX12 [(.iconst 1, 1, 0, 0, 1)] (by decide +kernel) (g := true) (lv' := [some (.ref l0), some (.int l1), some (.int l2), some (.int l3)]) (st' := [.int (1 : Int32)]) (D' := D) (pc' := 82) rfl (rfl) rfl ?_
                  refine ev_goto hX (off := 4) 86 (by decide +kernel) (by decide) ?_
                  exact ev_iret hR ev_sm.rf (Option.some.inj hf) hC (by decide +kernel)
            · have hf := ev_it h6 hf
              refine ev_blk hX lkok_RX12 [(.iload_n 2, 1, 0, 0, 0), (.iload_n 3, 1, 0, 0, 0)] (by decide +kernel) (g := true) (lv' := [some (.ref l0), some (.int l1), some (.int l2), some (.int l3)]) (st' := [.int l3, .int l2]) (D' := D) (pc' := 61) rfl (rfl) rfl ?_
              refine ev_ic_ne hX (off := 7) 68 (by decide +kernel) (by decide) (fun h11 => ?_) (fun h11 => ?_)
              · have hf := ev_nf h11 hf
                refine ev_blk hX lkok_RX12 [(.iconst 0, 1, 0, 0, 0)] (by decide +kernel) (g := true) (lv' := [some (.ref l0), some (.int l1), some (.int l2), some (.int l3)]) (st' := [.int (0 : Int32)]) (D' := D) (pc' := 69) rfl (rfl) rfl ?_
                exact ev_iret hR ev_sm.rf (Option.some.inj hf) hC (by decide +kernel)
              · have hf := ev_it h11 hf
                refine ev_blk hX lkok_RX12 [(.iconst 1, 1, 0, 0, 1)] (by decide +kernel) (g := true) (lv' := [some (.ref l0), some (.int l1), some (.int l2), some (.int l3)]) (st' := [.int (1 : Int32)]) (D' := D) (pc' := 65) rfl (rfl) rfl ?_
                refine ev_goto hX (off := 4) 69 (by decide +kernel) (by decide) ?_
                exact ev_iret hR ev_sm.rf (Option.some.inj hf) hC (by decide +kernel)
          · have hf := ev_it h5 hf
            refine ev_blk hX lkok_RX12 [(.iload_n 2, 1, 0, 0, 0), (.iload_n 3, 1, 0, 0, 0)] (by decide +kernel) (g := true) (lv' := [some (.ref l0), some (.int l1), some (.int l2), some (.int l3)]) (st' := [.int l3, .int l2]) (D' := D) (pc' := 44) rfl (rfl) rfl ?_
            refine ev_ic_ge hX (off := 7) 51 (by decide +kernel) (by decide) (fun h12 => ?_) (fun h12 => ?_)
            · have hf := ev_it h12 hf
              refine ev_blk hX lkok_RX12 [(.iconst 0, 1, 0, 0, 0)] (by decide +kernel) (g := true) (lv' := [some (.ref l0), some (.int l1), some (.int l2), some (.int l3)]) (st' := [.int (0 : Int32)]) (D' := D) (pc' := 52) rfl (rfl) rfl ?_
              exact ev_iret hR ev_sm.rf (Option.some.inj hf) hC (by decide +kernel)
            · have hf := ev_nf h12 hf
              refine ev_blk hX lkok_RX12 [(.iconst 1, 1, 0, 0, 1)] (by decide +kernel) (g := true) (lv' := [some (.ref l0), some (.int l1), some (.int l2), some (.int l3)]) (st' := [.int (1 : Int32)]) (D' := D) (pc' := 48) rfl (rfl) rfl ?_
              refine ev_goto hX (off := 4) 52 (by decide +kernel) (by decide) ?_
              exact ev_iret hR ev_sm.rf (Option.some.inj hf) hC (by decide +kernel)
        · have hf := ev_it h4 hf
          obtain ⟨hg13, hf⟩ := ev_gd_s hf
          refine ev_blk hX lkok_RX12 [(.iload_n 2, 1, 0, 0, 0), (.iload_n 3, 1, 0, 0, 0), (.idiv, 1, 0, 0, 0)] (by decide +kernel) (g := (!(decide (l3 = 0))) && (true)) (lv' := [some (.ref l0), some (.int l1), some (.int l2), some (.int l3)]) (st' := [.int (l2 / l3)]) (D' := D) (pc' := 35) rfl (ev_g2 hg13 (rfl)) rfl ?_
          exact ev_iret hR ev_sm.rf (Option.some.inj hf) hC (by decide +kernel)
      · have hf := ev_it h3 hf
        refine ev_blk hX lkok_RX12 [(.iload_n 2, 1, 0, 0, 0), (.iload_n 3, 1, 0, 0, 0), (.imul, 1, 0, 0, 0)] (by decide +kernel) (g := true) (lv' := [some (.ref l0), some (.int l1), some (.int l2), some (.int l3)]) (st' := [.int (l2 * l3)]) (D' := D) (pc' := 26) rfl (rfl) rfl ?_
        exact ev_iret hR ev_sm.rf (Option.some.inj hf) hC (by decide +kernel)
    · have hf := ev_it h2 hf
      refine ev_blk hX lkok_RX12 [(.iload_n 2, 1, 0, 0, 0), (.iload_n 3, 1, 0, 0, 0), (.isub, 1, 0, 0, 0)] (by decide +kernel) (g := true) (lv' := [some (.ref l0), some (.int l1), some (.int l2), some (.int l3)]) (st' := [.int (l2 - l3)]) (D' := D) (pc' := 17) rfl (rfl) rfl ?_
      exact ev_iret hR ev_sm.rf (Option.some.inj hf) hC (by decide +kernel)
  · have hf := ev_it h1 hf
    refine ev_blk hX lkok_RX12 [(.iload_n 2, 1, 0, 0, 0), (.iload_n 3, 1, 0, 0, 0), (.iadd, 1, 0, 0, 0)] (by decide +kernel) (g := true) (lv' := [some (.ref l0), some (.int l1), some (.int l2), some (.int l3)]) (st' := [.int (l2 + l3)]) (D' := D) (pc' := 8) rfl (rfl) rfl ?_
    exact ev_iret hR ev_sm.rf (Option.some.inj hf) hC (by decide +kernel)
theorem mX12_twoOf {S : ev_S} {fu : Nat} {r : Int32 × ev_D} (hT : ev_Ty S) {l0 : Nat} {l1 : Int32} {l2 : Int32} {l3 : Int32} {D : ev_D} (hl0 : sK S l0 = 15) (hf : fX12_twoOf (sL S) (sE S) fu l0 l1 l2 l3 D = some r) : ev_M 0 0 0 yX12_twoOf cX12_twoOf 4 (some .int) [.ref l0, .int l1, .int l2, .int l3] S D S r :=
  ev_met (ini := false) (plainFor_of_name (by decide)) (fun h => by cases h) rfl (Nat.le_of_ble_eq_true rfl) (fun F hR => tX12_twoOf (S := ev_z S) hR hT ⟨Nat.le_refl 0, Nat.le_refl 0⟩ hl0 hf)
set_option maxHeartbeats 4000000 in
set_option maxRecDepth 100000 in
theorem tX12_runs_83 {S : ev_S} {fu : Nat} {r : Int32 × ev_D} {F : ev_Fr} (hR : ev_R RX12 cX12_runs 6 1 0 0 false (some .int) S r F) (hT : ev_Ty S) (hC : sC S ≤ 0 ∧ sA S ≤ 0) {k12 : Nat → Int32 → Int32 → Int32 → Int32 → ev_D → ev_Op} (hk12 : ∀ (l0 : Nat) (l1 : Int32) (l3 : Int32) (l4 : Int32) (l5 : Int32) (D : ev_D), sK S l0 = 15 → k12 l0 l1 l3 l4 l5 D = some r → F S D 12 [some (.ref l0), some (.int l1), none, some (.int l3), some (.int l4), some (.int l5)] []) {l0 : Nat} {l1 : Int32} {l3 : Int32} {l4 : Int32} {l5 : Int32} {s0 : Nat} {s1 : Int32} {s2 : Int32} {D : ev_D} (hl0 : sK S l0 = 15) (hs0 : sK S s0 = 1) (hf : fX12_runs_83 (sL S) (sE S) fu k12 l0 l1 l3 l4 l5 s0 s1 s2 D = some r) : F S D 83 [some (.ref l0), some (.int l1), none, some (.int l3), some (.int l4), some (.int l5)] [.int s2, .int s1, .ref s0] := by
  have hX := hR.X
  unfold fX12_runs_83 at hf
  obtain ⟨hg1, hf⟩ := ev_gd_s hf
  refine ev_blk hX lkok_RX12 [(.iastore, 1, 0, 0, 0), (.iload 4, 2, 0, 0, 0), (.iconst 1, 1, 0, 0, 1), (.iadd, 1, 0, 0, 0), (.istore 4, 2, 0, 0, 0)] (by decide +kernel) (g := (sK S s0 == 1 && ev_in s1 ((sL S) s0)) && (true)) (lv' := [some (.ref l0), some (.int l1), none, some (.int l3), some (.int (l4 + (1 : Int32))), some (.int l5)]) (st' := []) (D' := (ev_up D s0 (s1).toNatClampNeg s2)) (pc' := 90) rfl (ev_gi hs0 hg1 (rfl)) rfl ?_
  refine ev_goto hX (off := 80) 170 (by decide +kernel) (by decide) ?_
  refine ev_blk hX lkok_RX12 [(.iinc 5 1, 3, 0, 0, 1)] (by decide +kernel) (g := true) (lv' := [some (.ref l0), some (.int l1), none, some (.int l3), some (.int (l4 + (1 : Int32))), some (.int (l5 + (1 : Int32)))]) (st' := []) (D' := (ev_up D s0 (s1).toNatClampNeg s2)) (pc' := 173) rfl (rfl) rfl ?_
  refine ev_goto hX (off := (-161)) 12 (by decide +kernel) (by decide) ?_
  exact ev_weak hX (ev_le_eq (ev_le_eq (ev_le_no (ev_le_eq (ev_le_eq (ev_le_eq ev_le_nil)))))) (hk12 _ _ _ _ _ _ hl0 hf)
set_option maxHeartbeats 4000000 in
set_option maxRecDepth 100000 in
theorem tX12_runs_45 {S : ev_S} {fu : Nat} {r : Int32 × ev_D} {F : ev_Fr} (hR : ev_R RX12 cX12_runs 6 1 0 0 false (some .int) S r F) (hT : ev_Ty S) (hC : sC S ≤ 0 ∧ sA S ≤ 0) {k12 : Nat → Int32 → Int32 → Int32 → Int32 → ev_D → ev_Op} (hk12 : ∀ (l0 : Nat) (l1 : Int32) (l3 : Int32) (l4 : Int32) (l5 : Int32) (D : ev_D), sK S l0 = 15 → k12 l0 l1 l3 l4 l5 D = some r → F S D 12 [some (.ref l0), some (.int l1), none, some (.int l3), some (.int l4), some (.int l5)] []) {l0 : Nat} {l1 : Int32} {l3 : Int32} {l4 : Int32} {l5 : Int32} {D : ev_D} (hl0 : sK S l0 = 15) (hf : fX12_runs_45 (sL S) (sE S) fu k12 l0 l1 l3 l4 l5 D = some r) : F S D 45 [some (.ref l0), some (.int l1), none, some (.int l3), some (.int l4), some (.int l5)] [] := by
  have hX := hR.X
  unfold fX12_runs_45 at hf
  obtain ⟨hg6, hf⟩ := ev_gd_s hf
  refine ev_blk hX lkok_RX12 [(.aload_n 0, 1, 0, 0, 0), (.getfield 80, 3, 12, 42, 0), (.iload 4, 2, 0, 0, 0), (.aload_n 0, 1, 0, 0, 0), (.getfield 55, 3, 12, 24, 0), (.iload 5, 2, 0, 0, 0), (.iaload, 1, 0, 0, 0)] (by decide +kernel) (g := (sK S l0 == 15) && ((sK S l0 == 15) && ((sK S ((sE S) l0 24) == 1 && ev_in l5 ((sL S) ((sE S) l0 24))) && (true)))) (lv' := [some (.ref l0), some (.int l1), none, some (.int l3), some (.int l4), some (.int l5)]) (st' := [.int (D ((sE S) l0 24) (l5).toNatClampNeg), .int l4, .ref ((sE S) l0 42)]) (D' := D) (pc' := 58) rfl (ev_gk hl0 (ev_gk hl0 (ev_gi (ev_tyk hT hl0 rfl rfl) hg6 (rfl)))) rfl ?_
  refine ev_if_ne hX (off := 13) 71 (by decide +kernel) (by decide) (fun h2 => ?_) (fun h2 => ?_)
  · have hf := ev_nf h2 hf
    obtain ⟨hg3, hf⟩ := ev_gd_s hf
    obtain ⟨hg4, hf⟩ := ev_gd_s hf
    refine ev_blk hX lkok_RX12 [(.aload_n 0, 1, 0, 0, 0), (.getfield 77, 3, 12, 41, 0), (.aload_n 0, 1, 0, 0, 0), (.getfield 58, 3, 12, 25, 0), (.iload 5, 2, 0, 0, 0), (.iaload, 1, 0, 0, 0), (.iaload, 1, 0, 0, 0)] (by decide +kernel) (g := (sK S l0 == 15) && ((sK S l0 == 15) && ((sK S ((sE S) l0 25) == 1 && ev_in l5 ((sL S) ((sE S) l0 25))) && ((sK S ((sE S) l0 41) == 1 && ev_in (D ((sE S) l0 25) (l5).toNatClampNeg) ((sL S) ((sE S) l0 41))) && (true))))) (lv' := [some (.ref l0), some (.int l1), none, some (.int l3), some (.int l4), some (.int l5)]) (st' := [.int (D ((sE S) l0 41) ((D ((sE S) l0 25) (l5).toNatClampNeg)).toNatClampNeg), .int l4, .ref ((sE S) l0 42)]) (D' := D) (pc' := 83) rfl (ev_gk hl0 (ev_gk hl0 (ev_gi (ev_tyk hT hl0 rfl rfl) hg3 (ev_gi (ev_tyk hT hl0 rfl rfl) hg4 (rfl))))) rfl ?_
    exact ev_weak hX (ev_le_eq (ev_le_eq (ev_le_no (ev_le_eq (ev_le_eq (ev_le_eq ev_le_nil)))))) (tX12_runs_83 hR hT hC  hk12 hl0 (ev_tyk hT hl0 rfl rfl) hf)
  · have hf := ev_it h2 hf
    obtain ⟨hg5, hf⟩ := ev_gd_s hf
    refine ev_blk hX lkok_RX12 [(.aload_n 0, 1, 0, 0, 0), (.getfield 58, 3, 12, 25, 0), (.iload 5, 2, 0, 0, 0), (.iaload, 1, 0, 0, 0)] (by decide +kernel) (g := (sK S l0 == 15) && ((sK S ((sE S) l0 25) == 1 && ev_in l5 ((sL S) ((sE S) l0 25))) && (true))) (lv' := [some (.ref l0), some (.int l1), none, some (.int l3), some (.int l4), some (.int l5)]) (st' := [.int (D ((sE S) l0 25) (l5).toNatClampNeg), .int l4, .ref ((sE S) l0 42)]) (D' := D) (pc' := 68) rfl (ev_gk hl0 (ev_gi (ev_tyk hT hl0 rfl rfl) hg5 (rfl))) rfl ?_
    refine ev_goto hX (off := 15) 83 (by decide +kernel) (by decide) ?_
    exact ev_weak hX (ev_le_eq (ev_le_eq (ev_le_no (ev_le_eq (ev_le_eq (ev_le_eq ev_le_nil)))))) (tX12_runs_83 hR hT hC  hk12 hl0 (ev_tyk hT hl0 rfl rfl) hf)
set_option maxHeartbeats 4000000 in
set_option maxRecDepth 100000 in
theorem tX12_runs_12 {S : ev_S} {fu : Nat} {r : Int32 × ev_D} {F : ev_Fr} (hR : ev_R RX12 cX12_runs 6 1 0 0 false (some .int) S r F) (hT : ev_Ty S) (hC : sC S ≤ 0 ∧ sA S ≤ 0) : ∀ (n : Nat) (l0 : Nat) (l1 : Int32) (l3 : Int32) (l4 : Int32) (l5 : Int32) (D : ev_D), sK S l0 = 15 → fX12_runs_12 (sL S) (sE S) fu n l0 l1 l3 l4 l5 D = some r → F S D 12 [some (.ref l0), some (.int l1), none, some (.int l3), some (.int l4), some (.int l5)] [] := by
  have hX := hR.X
  intro n
  induction n with
  | zero =>
    intro l0 l1 l3 l4 l5 D hl0 hf
    rw [fX12_runs_12] at hf
    cases hf
  | succ n ih =>
    intro l0 l1 l3 l4 l5 D hl0 hf
    rw [fX12_runs_12] at hf
    refine ev_blk hX lkok_RX12 [(.iload 5, 2, 0, 0, 0), (.sipush 400, 3, 0, 0, 400), (.iload_n 1, 1, 0, 0, 0), (.imul, 1, 0, 0, 0), (.iload_n 3, 1, 0, 0, 0), (.iadd, 1, 0, 0, 0)] (by decide +kernel) (g := true) (lv' := [some (.ref l0), some (.int l1), none, some (.int l3), some (.int l4), some (.int l5)]) (st' := [.int (((400 : Int32) * l1) + l3), .int l5]) (D' := D) (pc' := 21) rfl (rfl) rfl ?_
    refine ev_ic_ge hX (off := 155) 176 (by decide +kernel) (by decide) (fun h7 => ?_) (fun h7 => ?_)
    · have hf := ev_it h7 hf
      obtain ⟨hg8, hf⟩ := ev_gd_s hf
      refine ev_blk hX lkok_RX12 [(.aload_n 0, 1, 0, 0, 0), (.getfield 80, 3, 12, 42, 0), (.iconst 0, 1, 0, 0, 0), (.iaload, 1, 0, 0, 0)] (by decide +kernel) (g := (sK S l0 == 15) && ((sK S ((sE S) l0 42) == 1 && ev_in (0 : Int32) ((sL S) ((sE S) l0 42))) && (true))) (lv' := [some (.ref l0), some (.int l1), none, some (.int l3), some (.int l4), some (.int l5)]) (st' := [.int (D ((sE S) l0 42) ((0 : Int32)).toNatClampNeg)]) (D' := D) (pc' := 182) rfl (ev_gk hl0 (ev_gi (ev_tyk hT hl0 rfl rfl) hg8 (rfl))) rfl ?_
      exact ev_iret hR ev_sm.rf (Option.some.inj hf) hC (by decide +kernel)
    · have hf := ev_nf h7 hf
      obtain ⟨hg21, hf⟩ := ev_gd_s hf
      refine ev_blk hX lkok_RX12 [(.aload_n 0, 1, 0, 0, 0), (.getfield 55, 3, 12, 24, 0), (.iload 5, 2, 0, 0, 0), (.iaload, 1, 0, 0, 0)] (by decide +kernel) (g := (sK S l0 == 15) && ((sK S ((sE S) l0 24) == 1 && ev_in l5 ((sL S) ((sE S) l0 24))) && (true))) (lv' := [some (.ref l0), some (.int l1), none, some (.int l3), some (.int l4), some (.int l5)]) (st' := [.int (D ((sE S) l0 24) (l5).toNatClampNeg)]) (D' := D) (pc' := 31) rfl (ev_gk hl0 (ev_gi (ev_tyk hT hl0 rfl rfl) hg21 (rfl))) rfl ?_
      refine ev_if_eq hX (off := 14) 45 (by decide +kernel) (by decide) (fun h9 => ?_) (fun h9 => ?_)
      · have hf := ev_it h9 hf
        exact ev_weak hX (ev_le_eq (ev_le_eq (ev_le_no (ev_le_eq (ev_le_eq (ev_le_eq ev_le_nil)))))) (tX12_runs_45 hR hT hC  ih hl0 hf)
      · have hf := ev_nf h9 hf
        obtain ⟨hg20, hf⟩ := ev_gd_s hf
        refine ev_blk hX lkok_RX12 [(.aload_n 0, 1, 0, 0, 0), (.getfield 55, 3, 12, 24, 0), (.iload 5, 2, 0, 0, 0), (.iaload, 1, 0, 0, 0), (.iconst 1, 1, 0, 0, 1)] (by decide +kernel) (g := (sK S l0 == 15) && ((sK S ((sE S) l0 24) == 1 && ev_in l5 ((sL S) ((sE S) l0 24))) && (true))) (lv' := [some (.ref l0), some (.int l1), none, some (.int l3), some (.int l4), some (.int l5)]) (st' := [.int (1 : Int32), .int (D ((sE S) l0 24) (l5).toNatClampNeg)]) (D' := D) (pc' := 42) rfl (ev_gk hl0 (ev_gi (ev_tyk hT hl0 rfl rfl) hg20 (rfl))) rfl ?_
        refine ev_ic_ne hX (off := 51) 93 (by decide +kernel) (by decide) (fun h10 => ?_) (fun h10 => ?_)
        · have hf := ev_nf h10 hf
          obtain ⟨hg19, hf⟩ := ev_gd_s hf
          refine ev_blk hX lkok_RX12 [(.aload_n 0, 1, 0, 0, 0), (.getfield 55, 3, 12, 24, 0), (.iload 5, 2, 0, 0, 0), (.iaload, 1, 0, 0, 0), (.bipush 9, 2, 0, 0, 9)] (by decide +kernel) (g := (sK S l0 == 15) && ((sK S ((sE S) l0 24) == 1 && ev_in l5 ((sL S) ((sE S) l0 24))) && (true))) (lv' := [some (.ref l0), some (.int l1), none, some (.int l3), some (.int l4), some (.int l5)]) (st' := [.int (9 : Int32), .int (D ((sE S) l0 24) (l5).toNatClampNeg)]) (D' := D) (pc' := 102) rfl (ev_gk hl0 (ev_gi (ev_tyk hT hl0 rfl rfl) hg19 (rfl))) rfl ?_
          refine ev_ic_ne hX (off := 26) 128 (by decide +kernel) (by decide) (fun h11 => ?_) (fun h11 => ?_)
          · have hf := ev_nf h11 hf
            obtain ⟨hg14, hf⟩ := ev_gd_s hf
            obtain ⟨hg15, hf⟩ := ev_gd_s hf
            obtain ⟨hg16, hf⟩ := ev_gd_s hf
            refine ev_blk hX lkok_RX12 [(.iload 4, 2, 0, 0, 0), (.iconst 1, 1, 0, 0, 1), (.isub, 1, 0, 0, 0), (.istore 4, 2, 0, 0, 0), (.aload_n 0, 1, 0, 0, 0), (.getfield 80, 3, 12, 42, 0), (.iload 4, 2, 0, 0, 0), (.iconst 1, 1, 0, 0, 1), (.isub, 1, 0, 0, 0), (.aload_n 0, 1, 0, 0, 0), (.aload_n 0, 1, 0, 0, 0), (.getfield 55, 3, 12, 24, 0), (.iload 5, 2, 0, 0, 0), (.iaload, 1, 0, 0, 0), (.aload_n 0, 1, 0, 0, 0), (.getfield 80, 3, 12, 42, 0), (.iload 4, 2, 0, 0, 0), (.iconst 1, 1, 0, 0, 1), (.isub, 1, 0, 0, 0), (.iaload, 1, 0, 0, 0), (.aload_n 0, 1, 0, 0, 0), (.getfield 80, 3, 12, 42, 0), (.iload 4, 2, 0, 0, 0), (.iaload, 1, 0, 0, 0)] (by decide +kernel) (g := (sK S l0 == 15) && ((sK S l0 == 15) && ((sK S ((sE S) l0 24) == 1 && ev_in l5 ((sL S) ((sE S) l0 24))) && ((sK S l0 == 15) && ((sK S ((sE S) l0 42) == 1 && ev_in ((l4 - (1 : Int32)) - (1 : Int32)) ((sL S) ((sE S) l0 42))) && ((sK S l0 == 15) && ((sK S ((sE S) l0 42) == 1 && ev_in (l4 - (1 : Int32)) ((sL S) ((sE S) l0 42))) && (true)))))))) (lv' := [some (.ref l0), some (.int l1), none, some (.int l3), some (.int (l4 - (1 : Int32))), some (.int l5)]) (st' := [.int (D ((sE S) l0 42) ((l4 - (1 : Int32))).toNatClampNeg), .int (D ((sE S) l0 42) (((l4 - (1 : Int32)) - (1 : Int32))).toNatClampNeg), .int (D ((sE S) l0 24) (l5).toNatClampNeg), .ref l0, .int ((l4 - (1 : Int32)) - (1 : Int32)), .ref ((sE S) l0 42)]) (D' := D) (pc' := 166) rfl (ev_gk hl0 (ev_gk hl0 (ev_gi (ev_tyk hT hl0 rfl rfl) hg14 (ev_gk hl0 (ev_gi (ev_tyk hT hl0 rfl rfl) hg15 (ev_gk hl0 (ev_gi (ev_tyk hT hl0 rfl rfl) hg16 (rfl)))))))) rfl ?_
            obtain ⟨v12, D12, hc12, hf⟩ := ev_bd_s hf
            refine ev_callV hX YX12_twoOf ml_RX12_311 (mX12_twoOf hT hl0 hc12) (vs := [.int (D ((sE S) l0 24) (l5).toNatClampNeg), .int (D ((sE S) l0 42) (((l4 - (1 : Int32)) - (1 : Int32))).toNatClampNeg), .int (D ((sE S) l0 42) ((l4 - (1 : Int32))).toNatClampNeg)]) (st := [.int ((l4 - (1 : Int32)) - (1 : Int32)), .ref ((sE S) l0 42)]) (by decide) 12 hl0 rfl rfl rfl (by decide +kernel) hC ?_
            show F S D12 169 [some (.ref l0), some (.int l1), none, some (.int l3), some (.int (l4 - (1 : Int32))), some (.int l5)] [.int v12, .int ((l4 - (1 : Int32)) - (1 : Int32)), .ref ((sE S) l0 42)]
            obtain ⟨hg13, hf⟩ := ev_gd_s hf
            refine ev_blk hX lkok_RX12 [(.iastore, 1, 0, 0, 0), (.iinc 5 1, 3, 0, 0, 1)] (by decide +kernel) (g := (sK S ((sE S) l0 42) == 1 && ev_in ((l4 - (1 : Int32)) - (1 : Int32)) ((sL S) ((sE S) l0 42))) && (true)) (lv' := [some (.ref l0), some (.int l1), none, some (.int l3), some (.int (l4 - (1 : Int32))), some (.int (l5 + (1 : Int32)))]) (st' := []) (D' := (ev_up D12 ((sE S) l0 42) (((l4 - (1 : Int32)) - (1 : Int32))).toNatClampNeg v12)) (pc' := 173) rfl (ev_gi (ev_tyk hT hl0 rfl rfl) hg13 (rfl)) rfl ?_
            refine ev_goto hX (off := (-161)) 12 (by decide +kernel) (by decide) ?_
            exact ev_weak hX (ev_le_eq (ev_le_eq (ev_le_no (ev_le_eq (ev_le_eq (ev_le_eq ev_le_nil)))))) (ih _ _ _ _ _ _ hl0 hf)
          · have hf := ev_it h11 hf
            obtain ⟨hg17, hf⟩ := ev_gd_s hf
            obtain ⟨hg18, hf⟩ := ev_gd_s hf
            refine ev_blk hX lkok_RX12 [(.aload_n 0, 1, 0, 0, 0), (.getfield 80, 3, 12, 42, 0), (.iload 4, 2, 0, 0, 0), (.iconst 1, 1, 0, 0, 1), (.isub, 1, 0, 0, 0), (.iconst 1, 1, 0, 0, 1), (.aload_n 0, 1, 0, 0, 0), (.getfield 80, 3, 12, 42, 0), (.iload 4, 2, 0, 0, 0), (.iconst 1, 1, 0, 0, 1), (.isub, 1, 0, 0, 0), (.iaload, 1, 0, 0, 0), (.isub, 1, 0, 0, 0), (.iastore, 1, 0, 0, 0)] (by decide +kernel) (g := (sK S l0 == 15) && ((sK S l0 == 15) && ((sK S ((sE S) l0 42) == 1 && ev_in (l4 - (1 : Int32)) ((sL S) ((sE S) l0 42))) && ((sK S ((sE S) l0 42) == 1 && ev_in (l4 - (1 : Int32)) ((sL S) ((sE S) l0 42))) && (true))))) (lv' := [some (.ref l0), some (.int l1), none, some (.int l3), some (.int l4), some (.int l5)]) (st' := []) (D' := (ev_up D ((sE S) l0 42) ((l4 - (1 : Int32))).toNatClampNeg ((1 : Int32) - (D ((sE S) l0 42) ((l4 - (1 : Int32))).toNatClampNeg)))) (pc' := 125) rfl (ev_gk hl0 (ev_gk hl0 (ev_gi (ev_tyk hT hl0 rfl rfl) hg17 (ev_gi (ev_tyk hT hl0 rfl rfl) hg18 (rfl))))) rfl ?_
            refine ev_goto hX (off := 45) 170 (by decide +kernel) (by decide) ?_
            refine ev_blk hX lkok_RX12 [(.iinc 5 1, 3, 0, 0, 1)] (by decide +kernel) (g := true) (lv' := [some (.ref l0), some (.int l1), none, some (.int l3), some (.int l4), some (.int (l5 + (1 : Int32)))]) (st' := []) (D' := (ev_up D ((sE S) l0 42) ((l4 - (1 : Int32))).toNatClampNeg ((1 : Int32) - (D ((sE S) l0 42) ((l4 - (1 : Int32))).toNatClampNeg)))) (pc' := 173) rfl (rfl) rfl ?_
            refine ev_goto hX (off := (-161)) 12 (by decide +kernel) (by decide) ?_
            exact ev_weak hX (ev_le_eq (ev_le_eq (ev_le_no (ev_le_eq (ev_le_eq (ev_le_eq ev_le_nil)))))) (ih _ _ _ _ _ _ hl0 hf)
        · have hf := ev_it h10 hf
          exact ev_weak hX (ev_le_eq (ev_le_eq (ev_le_no (ev_le_eq (ev_le_eq (ev_le_eq ev_le_nil)))))) (tX12_runs_45 hR hT hC  ih hl0 hf)
set_option maxHeartbeats 4000000 in
set_option maxRecDepth 100000 in
theorem tX12_runs {S : ev_S} {fu : Nat} {r : Int32 × ev_D} {F : ev_Fr} (hR : ev_R RX12 cX12_runs 6 1 0 0 false (some .int) S r F) (hT : ev_Ty S) (hC : sC S ≤ 0 ∧ sA S ≤ 0) {l0 : Nat} {l1 : Int32} {l2 : Int32} {l3 : Int32} {D : ev_D} (hl0 : sK S l0 = 15) (hf : fX12_runs (sL S) (sE S) fu l0 l1 l2 l3 D = some r) : F S D 0 [some (.ref l0), some (.int l1), some (.int l2), some (.int l3), none, none] [] := by
  have hX := hR.X
  unfold fX12_runs at hf
  refine ev_blk hX lkok_RX12 [(.iconst 0, 1, 0, 0, 0), (.istore 4, 2, 0, 0, 0), (.sipush 400, 3, 0, 0, 400), (.iload_n 1, 1, 0, 0, 0), (.imul, 1, 0, 0, 0), (.iload_n 2, 1, 0, 0, 0), (.iadd, 1, 0, 0, 0), (.istore 5, 2, 0, 0, 0)] (by decide +kernel) (g := true) (lv' := [some (.ref l0), some (.int l1), some (.int l2), some (.int l3), some (.int (0 : Int32)), some (.int (((400 : Int32) * l1) + l2))]) (st' := []) (D' := D) (pc' := 12) rfl (rfl) rfl ?_
  exact ev_weak hX (ev_le_eq (ev_le_eq (ev_le_no (ev_le_eq (ev_le_eq (ev_le_eq ev_le_nil)))))) (tX12_runs_12 hR hT hC   fu _ _ _ _ _ _ hl0 hf)
theorem mX12_runs {S : ev_S} {fu : Nat} {r : Int32 × ev_D} (hT : ev_Ty S) {l0 : Nat} {l1 : Int32} {l2 : Int32} {l3 : Int32} {D : ev_D} (hl0 : sK S l0 = 15) (hf : fX12_runs (sL S) (sE S) fu l0 l1 l2 l3 D = some r) : ev_M 1 0 0 yX12_runs cX12_runs 6 (some .int) [.ref l0, .int l1, .int l2, .int l3] S D S r :=
  ev_met (ini := false) (plainFor_of_name (by decide)) (fun h => by cases h) rfl (Nat.le_of_ble_eq_true rfl) (fun F hR => tX12_runs (S := ev_z S) hR hT ⟨Nat.le_refl 0, Nat.le_refl 0⟩ hl0 hf)
set_option maxHeartbeats 4000000 in
set_option maxRecDepth 100000 in
theorem tX12_lineOf_2 {S : ev_S} {fu : Nat} {r : Int32 × ev_D} {F : ev_Fr} (hR : ev_R RX12 cX12_lineOf 3 2 0 0 false (some .int) S r F) (hT : ev_Ty S) (hC : sC S ≤ 0 ∧ sA S ≤ 0) : ∀ (n : Nat) (l0 : Nat) (l1 : Int32) (l2 : Int32) (D : ev_D), sK S l0 = 15 → fX12_lineOf_2 (sL S) (sE S) fu n l0 l1 l2 D = some r → F S D 2 [some (.ref l0), some (.int l1), some (.int l2)] [] := by
  have hX := hR.X
  intro n
  induction n with
  | zero =>
    intro l0 l1 l2 D hl0 hf
    rw [fX12_lineOf_2] at hf
    cases hf
  | succ n ih =>
    intro l0 l1 l2 D hl0 hf
    rw [fX12_lineOf_2] at hf
    obtain ⟨hg11, hf⟩ := ev_gd_s hf
    refine ev_blk hX lkok_RX12 [(.iload_n 2, 1, 0, 0, 0), (.aload_n 0, 1, 0, 0, 0), (.getfield 40, 3, 12, 19, 0), (.iconst 0, 1, 0, 0, 0), (.iaload, 1, 0, 0, 0)] (by decide +kernel) (g := (sK S l0 == 15) && ((sK S ((sE S) l0 19) == 1 && ev_in (0 : Int32) ((sL S) ((sE S) l0 19))) && (true))) (lv' := [some (.ref l0), some (.int l1), some (.int l2)]) (st' := [.int (D ((sE S) l0 19) ((0 : Int32)).toNatClampNeg), .int l2]) (D' := D) (pc' := 9) rfl (ev_gk hl0 (ev_gi (ev_tyk hT hl0 rfl rfl) hg11 (rfl))) rfl ?_
    refine ev_ic_ge hX (off := 56) 65 (by decide +kernel) (by decide) (fun h1 => ?_) (fun h1 => ?_)
    · have hf := ev_it h1 hf
      refine ev_blk hX lkok_RX12 [(.iconst (-1), 1, 0, 0, (-1))] (by decide +kernel) (g := true) (lv' := [some (.ref l0), some (.int l1), some (.int l2)]) (st' := [.int (-1 : Int32)]) (D' := D) (pc' := 66) rfl (rfl) rfl ?_
      exact ev_iret hR ev_sm.rf (Option.some.inj hf) hC (by decide +kernel)
    · have hf := ev_nf h1 hf
      obtain ⟨hg10, hf⟩ := ev_gd_s hf
      refine ev_blk hX lkok_RX12 [(.aload_n 0, 1, 0, 0, 0), (.getfield 43, 3, 12, 20, 0), (.iload_n 2, 1, 0, 0, 0), (.iaload, 1, 0, 0, 0), (.iload_n 1, 1, 0, 0, 0)] (by decide +kernel) (g := (sK S l0 == 15) && ((sK S ((sE S) l0 20) == 1 && ev_in l2 ((sL S) ((sE S) l0 20))) && (true))) (lv' := [some (.ref l0), some (.int l1), some (.int l2)]) (st' := [.int l1, .int (D ((sE S) l0 20) (l2).toNatClampNeg)]) (D' := D) (pc' := 19) rfl (ev_gk hl0 (ev_gi (ev_tyk hT hl0 rfl rfl) hg10 (rfl))) rfl ?_
      refine ev_ic_ne hX (off := 40) 59 (by decide +kernel) (by decide) (fun h2 => ?_) (fun h2 => ?_)
      · have hf := ev_nf h2 hf
        refine ev_blk hX lkok_RX12 [(.iinc 2 1, 3, 0, 0, 1)] (by decide +kernel) (g := true) (lv' := [some (.ref l0), some (.int l1), some (.int (l2 + (1 : Int32)))]) (st' := []) (D' := D) (pc' := 62) rfl (rfl) rfl ?_
        refine ev_goto hX (off := (-60)) 2 (by decide +kernel) (by decide) ?_
        exact ev_weak hX (ev_le_eq (ev_le_eq (ev_le_eq ev_le_nil))) (ih _ _ _ _ hl0 hf)
      · have hf := ev_it h2 hf
        obtain ⟨hg8, hf⟩ := ev_gd_s hf
        obtain ⟨hg9, hf⟩ := ev_gd_s hf
        refine ev_blk hX lkok_RX12 [(.aload_n 0, 1, 0, 0, 0), (.getfield 49, 3, 12, 22, 0), (.iload_n 2, 1, 0, 0, 0), (.iaload, 1, 0, 0, 0), (.aload_n 0, 1, 0, 0, 0), (.getfield 52, 3, 12, 23, 0), (.iload_n 2, 1, 0, 0, 0), (.iaload, 1, 0, 0, 0)] (by decide +kernel) (g := (sK S l0 == 15) && ((sK S ((sE S) l0 22) == 1 && ev_in l2 ((sL S) ((sE S) l0 22))) && ((sK S l0 == 15) && ((sK S ((sE S) l0 23) == 1 && ev_in l2 ((sL S) ((sE S) l0 23))) && (true))))) (lv' := [some (.ref l0), some (.int l1), some (.int l2)]) (st' := [.int (D ((sE S) l0 23) (l2).toNatClampNeg), .int (D ((sE S) l0 22) (l2).toNatClampNeg)]) (D' := D) (pc' := 34) rfl (ev_gk hl0 (ev_gi (ev_tyk hT hl0 rfl rfl) hg8 (ev_gk hl0 (ev_gi (ev_tyk hT hl0 rfl rfl) hg9 (rfl))))) rfl ?_
        refine ev_ic_eq hX (off := 23) 57 (by decide +kernel) (by decide) (fun h3 => ?_) (fun h3 => ?_)
        · have hf := ev_it h3 hf
          refine ev_blk hX lkok_RX12 [(.iload_n 2, 1, 0, 0, 0)] (by decide +kernel) (g := true) (lv' := [some (.ref l0), some (.int l1), some (.int l2)]) (st' := [.int l2]) (D' := D) (pc' := 58) rfl (rfl) rfl ?_
          exact ev_iret hR ev_sm.rf (Option.some.inj hf) hC (by decide +kernel)
        · have hf := ev_nf h3 hf
          obtain ⟨hg6, hf⟩ := ev_gd_s hf
          obtain ⟨hg7, hf⟩ := ev_gd_s hf
          refine ev_blk hX lkok_RX12 [(.aload_n 0, 1, 0, 0, 0), (.iconst 0, 1, 0, 0, 0), (.aload_n 0, 1, 0, 0, 0), (.getfield 49, 3, 12, 22, 0), (.iload_n 2, 1, 0, 0, 0), (.iaload, 1, 0, 0, 0), (.aload_n 0, 1, 0, 0, 0), (.getfield 52, 3, 12, 23, 0), (.iload_n 2, 1, 0, 0, 0), (.iaload, 1, 0, 0, 0)] (by decide +kernel) (g := (sK S l0 == 15) && ((sK S ((sE S) l0 22) == 1 && ev_in l2 ((sL S) ((sE S) l0 22))) && ((sK S l0 == 15) && ((sK S ((sE S) l0 23) == 1 && ev_in l2 ((sL S) ((sE S) l0 23))) && (true))))) (lv' := [some (.ref l0), some (.int l1), some (.int l2)]) (st' := [.int (D ((sE S) l0 23) (l2).toNatClampNeg), .int (D ((sE S) l0 22) (l2).toNatClampNeg), .int (0 : Int32), .ref l0]) (D' := D) (pc' := 51) rfl (ev_gk hl0 (ev_gi (ev_tyk hT hl0 rfl rfl) hg6 (ev_gk hl0 (ev_gi (ev_tyk hT hl0 rfl rfl) hg7 (rfl))))) rfl ?_
          obtain ⟨v4, D4, hc4, hf⟩ := ev_bd_s hf
          refine ev_callV hX YX12_runs ml_RX12_314 (mX12_runs hT hl0 hc4) (vs := [.int (0 : Int32), .int (D ((sE S) l0 22) (l2).toNatClampNeg), .int (D ((sE S) l0 23) (l2).toNatClampNeg)]) (st := []) (by decide) 12 hl0 rfl rfl rfl (by decide +kernel) hC ?_
          show F S D4 54 [some (.ref l0), some (.int l1), some (.int l2)] [.int v4]
          refine ev_if_eq hX (off := 5) 59 (by decide +kernel) (by decide) (fun h5 => ?_) (fun h5 => ?_)
          · have hf := ev_it h5 hf
            refine ev_blk hX lkok_RX12 [(.iinc 2 1, 3, 0, 0, 1)] (by decide +kernel) (g := true) (lv' := [some (.ref l0), some (.int l1), some (.int (l2 + (1 : Int32)))]) (st' := []) (D' := D4) (pc' := 62) rfl (rfl) rfl ?_
            refine ev_goto hX (off := (-60)) 2 (by decide +kernel) (by decide) ?_
            exact ev_weak hX (ev_le_eq (ev_le_eq (ev_le_eq ev_le_nil))) (ih _ _ _ _ hl0 hf)
          · have hf := ev_nf h5 hf
            refine ev_blk hX lkok_RX12 [(.iload_n 2, 1, 0, 0, 0)] (by decide +kernel) (g := true) (lv' := [some (.ref l0), some (.int l1), some (.int l2)]) (st' := [.int l2]) (D' := D4) (pc' := 58) rfl (rfl) rfl ?_
            exact ev_iret hR ev_sm.rf (Option.some.inj hf) hC (by decide +kernel)
set_option maxHeartbeats 4000000 in
set_option maxRecDepth 100000 in
theorem tX12_lineOf {S : ev_S} {fu : Nat} {r : Int32 × ev_D} {F : ev_Fr} (hR : ev_R RX12 cX12_lineOf 3 2 0 0 false (some .int) S r F) (hT : ev_Ty S) (hC : sC S ≤ 0 ∧ sA S ≤ 0) {l0 : Nat} {l1 : Int32} {D : ev_D} (hl0 : sK S l0 = 15) (hf : fX12_lineOf (sL S) (sE S) fu l0 l1 D = some r) : F S D 0 [some (.ref l0), some (.int l1), none] [] := by
  have hX := hR.X
  unfold fX12_lineOf at hf
  refine ev_blk hX lkok_RX12 [(.iconst 0, 1, 0, 0, 0), (.istore_n 2, 1, 0, 0, 0)] (by decide +kernel) (g := true) (lv' := [some (.ref l0), some (.int l1), some (.int (0 : Int32))]) (st' := []) (D' := D) (pc' := 2) rfl (rfl) rfl ?_
  exact ev_weak hX (ev_le_eq (ev_le_eq (ev_le_eq ev_le_nil))) (tX12_lineOf_2 hR hT hC   fu _ _ _ _ hl0 hf)
theorem mX12_lineOf {S : ev_S} {fu : Nat} {r : Int32 × ev_D} (hT : ev_Ty S) {l0 : Nat} {l1 : Int32} {D : ev_D} (hl0 : sK S l0 = 15) (hf : fX12_lineOf (sL S) (sE S) fu l0 l1 D = some r) : ev_M 2 0 0 yX12_lineOf cX12_lineOf 3 (some .int) [.ref l0, .int l1] S D S r :=
  ev_met (ini := false) (plainFor_of_name (by decide)) (fun h => by cases h) rfl (Nat.le_of_ble_eq_true rfl) (fun F hR => tX12_lineOf (S := ev_z S) hR hT ⟨Nat.le_refl 0, Nat.le_refl 0⟩ hl0 hf)
set_option maxHeartbeats 4000000 in
set_option maxRecDepth 100000 in
theorem tX12_lawTells_37 {S : ev_S} {fu : Nat} {r : Int32 × ev_D} {F : ev_Fr} (hR : ev_R RX12 cX12_lawTells 5 3 0 0 false (some .int) S r F) (hT : ev_Ty S) (hC : sC S ≤ 0 ∧ sA S ≤ 0) {l3 : Int32} {s0 : Nat} {s1 : Int32} {D : ev_D} (hs0 : sK S s0 = 15) (hf : fX12_lawTells_37 (sL S) (sE S) fu l3 s0 s1 D = some r) : F S D 37 [none, none, none, some (.int l3), none] [.int s1, .ref s0] := by
  have hX := hR.X
  unfold fX12_lawTells_37 at hf
  refine ev_blk hX lkok_RX12 [(.iconst 0, 1, 0, 0, 0), (.iload_n 3, 1, 0, 0, 0)] (by decide +kernel) (g := true) (lv' := [none, none, none, some (.int l3), none]) (st' := [.int l3, .int (0 : Int32), .int s1, .ref s0]) (D' := D) (pc' := 39) rfl (rfl) rfl ?_
  obtain ⟨v1, D1, hc1, hf⟩ := ev_bd_s hf
  refine ev_callV hX YX12_held ml_RX12_332 (mX12_held hT hs0 hc1) (vs := [.int s1, .int (0 : Int32), .int l3]) (st := []) (by decide) 12 hs0 rfl rfl rfl (by decide +kernel) hC ?_
  show F S D1 42 [none, none, none, some (.int l3), none] [.int v1]
  exact ev_iret hR ev_sm.rf (Option.some.inj hf) hC (by decide +kernel)
set_option maxHeartbeats 4000000 in
set_option maxRecDepth 100000 in
theorem tX12_lawTells {S : ev_S} {fu : Nat} {r : Int32 × ev_D} {F : ev_Fr} (hR : ev_R RX12 cX12_lawTells 5 3 0 0 false (some .int) S r F) (hT : ev_Ty S) (hC : sC S ≤ 0 ∧ sA S ≤ 0) {l0 : Nat} {l1 : Int32} {l2 : Int32} {l3 : Int32} {D : ev_D} (hl0 : sK S l0 = 15) (hf : fX12_lawTells (sL S) (sE S) fu l0 l1 l2 l3 D = some r) : F S D 0 [some (.ref l0), some (.int l1), some (.int l2), some (.int l3), none] [] := by
  have hX := hR.X
  unfold fX12_lawTells at hf
  refine ev_blk hX lkok_RX12 [(.aload_n 0, 1, 0, 0, 0), (.iload_n 1, 1, 0, 0, 0)] (by decide +kernel) (g := true) (lv' := [some (.ref l0), some (.int l1), some (.int l2), some (.int l3), none]) (st' := [.int l1, .ref l0]) (D' := D) (pc' := 2) rfl (rfl) rfl ?_
  obtain ⟨v2, D2, hc2, hf⟩ := ev_bd_s hf
  refine ev_callV hX YX12_lineOf ml_RX12_329 (mX12_lineOf hT hl0 hc2) (vs := [.int l1]) (st := []) (by decide) 12 hl0 rfl rfl rfl (by decide +kernel) hC ?_
  show F S D2 5 [some (.ref l0), some (.int l1), some (.int l2), some (.int l3), none] [.int v2]
  refine ev_blk hX lkok_RX12 [(.istore 4, 2, 0, 0, 0), (.aload_n 0, 1, 0, 0, 0), (.iload 4, 2, 0, 0, 0), (.iconst (-1), 1, 0, 0, (-1))] (by decide +kernel) (g := true) (lv' := [some (.ref l0), some (.int l1), some (.int l2), some (.int l3), some (.int v2)]) (st' := [.int (-1 : Int32), .int v2, .ref l0]) (D' := D2) (pc' := 11) rfl (rfl) rfl ?_
  refine ev_ic_ne hX (off := 7) 18 (by decide +kernel) (by decide) (fun h3 => ?_) (fun h3 => ?_)
  · have hf := ev_nf h3 hf
    obtain ⟨hg5, hf⟩ := ev_gd_s hf
    obtain ⟨hg6, hf⟩ := ev_gd_s hf
    refine ev_blk hX lkok_RX12 [(.aload_n 0, 1, 0, 0, 0), (.iconst 0, 1, 0, 0, 0), (.aload_n 0, 1, 0, 0, 0), (.getfield 46, 3, 12, 21, 0), (.iload 4, 2, 0, 0, 0), (.iaload, 1, 0, 0, 0), (.aload_n 0, 1, 0, 0, 0), (.getfield 49, 3, 12, 22, 0), (.iload 4, 2, 0, 0, 0), (.iaload, 1, 0, 0, 0)] (by decide +kernel) (g := (sK S l0 == 15) && ((sK S ((sE S) l0 21) == 1 && ev_in v2 ((sL S) ((sE S) l0 21))) && ((sK S l0 == 15) && ((sK S ((sE S) l0 22) == 1 && ev_in v2 ((sL S) ((sE S) l0 22))) && (true))))) (lv' := [some (.ref l0), some (.int l1), some (.int l2), some (.int l3), some (.int v2)]) (st' := [.int (D2 ((sE S) l0 22) (v2).toNatClampNeg), .int (D2 ((sE S) l0 21) (v2).toNatClampNeg), .int (0 : Int32), .ref l0, .ref l0]) (D' := D2) (pc' := 34) rfl (ev_gk hl0 (ev_gi (ev_tyk hT hl0 rfl rfl) hg5 (ev_gk hl0 (ev_gi (ev_tyk hT hl0 rfl rfl) hg6 (rfl))))) rfl ?_
    obtain ⟨v4, D4, hc4, hf⟩ := ev_bd_s hf
    refine ev_callV hX YX12_runs ml_RX12_314 (mX12_runs hT hl0 hc4) (vs := [.int (0 : Int32), .int (D2 ((sE S) l0 21) (v2).toNatClampNeg), .int (D2 ((sE S) l0 22) (v2).toNatClampNeg)]) (st := [.ref l0]) (by decide) 12 hl0 rfl rfl rfl (by decide +kernel) hC ?_
    show F S D4 37 [some (.ref l0), some (.int l1), some (.int l2), some (.int l3), some (.int v2)] [.int v4, .ref l0]
    exact ev_weak hX (ev_le_no (ev_le_no (ev_le_no (ev_le_eq (ev_le_no ev_le_nil))))) (tX12_lawTells_37 hR hT hC   hl0 hf)
  · have hf := ev_it h3 hf
    refine ev_blk hX lkok_RX12 [(.iload_n 2, 1, 0, 0, 0)] (by decide +kernel) (g := true) (lv' := [some (.ref l0), some (.int l1), some (.int l2), some (.int l3), some (.int v2)]) (st' := [.int l2, .ref l0]) (D' := D2) (pc' := 15) rfl (rfl) rfl ?_
    refine ev_goto hX (off := 22) 37 (by decide +kernel) (by decide) ?_
    exact ev_weak hX (ev_le_no (ev_le_no (ev_le_no (ev_le_eq (ev_le_no ev_le_nil))))) (tX12_lawTells_37 hR hT hC   hl0 hf)
theorem mX12_lawTells {S : ev_S} {fu : Nat} {r : Int32 × ev_D} (hT : ev_Ty S) {l0 : Nat} {l1 : Int32} {l2 : Int32} {l3 : Int32} {D : ev_D} (hl0 : sK S l0 = 15) (hf : fX12_lawTells (sL S) (sE S) fu l0 l1 l2 l3 D = some r) : ev_M 3 0 0 yX12_lawTells cX12_lawTells 5 (some .int) [.ref l0, .int l1, .int l2, .int l3] S D S r :=
  ev_met (ini := false) (plainFor_of_name (by decide)) (fun h => by cases h) rfl (Nat.le_of_ble_eq_true rfl) (fun F hR => tX12_lawTells (S := ev_z S) hR hT ⟨Nat.le_refl 0, Nat.le_refl 0⟩ hl0 hf)
set_option maxHeartbeats 4000000 in
set_option maxRecDepth 100000 in
theorem tX12_hardOf {S : ev_S} {fu : Nat} {r : Int32 × ev_D} {F : ev_Fr} (hR : ev_R RX12 cX12_hardOf 2 4 0 0 false (some .int) S r F) (hT : ev_Ty S) (hC : sC S ≤ 0 ∧ sA S ≤ 0) {l0 : Nat} {l1 : Int32} {D : ev_D} (hl0 : sK S l0 = 15) (hf : fX12_hardOf (sL S) (sE S) fu l0 l1 D = some r) : F S D 0 [some (.ref l0), some (.int l1)] [] := by
  have hX := hR.X
  unfold fX12_hardOf at hf
  refine ev_blk hX lkok_RX12 [(.aload_n 0, 1, 0, 0, 0), (.iload_n 1, 1, 0, 0, 0)] (by decide +kernel) (g := true) (lv' := [some (.ref l0), some (.int l1)]) (st' := [.int l1, .ref l0]) (D' := D) (pc' := 2) rfl (rfl) rfl ?_
  obtain ⟨v1, D1, hc1, hf⟩ := ev_bd_s hf
  refine ev_callV hX YX12_asks ml_RX12_335 (mX12_asks hT hl0 hc1) (vs := [.int l1]) (st := []) (by decide) 12 hl0 rfl rfl rfl (by decide +kernel) hC ?_
  show F S D1 5 [some (.ref l0), some (.int l1)] []
  obtain ⟨hg3, hf⟩ := ev_gd_s hf
  refine ev_blk hX lkok_RX12 [(.aload_n 0, 1, 0, 0, 0), (.iconst 1, 1, 0, 0, 1), (.iconst 1, 1, 0, 0, 1), (.aload_n 0, 1, 0, 0, 0), (.getfield 28, 3, 12, 10, 0), (.iload_n 1, 1, 0, 0, 0), (.iaload, 1, 0, 0, 0), (.iconst 3, 1, 0, 0, 3), (.idiv, 1, 0, 0, 0), (.iadd, 1, 0, 0, 0), (.bipush 9, 2, 0, 0, 9)] (by decide +kernel) (g := (sK S l0 == 15) && ((sK S ((sE S) l0 10) == 1 && ev_in l1 ((sL S) ((sE S) l0 10))) && ((!(decide ((3 : Int32) = 0))) && (true)))) (lv' := [some (.ref l0), some (.int l1)]) (st' := [.int (9 : Int32), .int ((1 : Int32) + ((D1 ((sE S) l0 10) (l1).toNatClampNeg) / (3 : Int32))), .int (1 : Int32), .ref l0]) (D' := D1) (pc' := 19) rfl (ev_gk hl0 (ev_gi (ev_tyk hT hl0 rfl rfl) hg3 (ev_g2 rfl (rfl)))) rfl ?_
  obtain ⟨v2, D2, hc2, hf⟩ := ev_bd_s hf
  refine ev_callV hX YX12_lawTells ml_RX12_338 (mX12_lawTells hT hl0 hc2) (vs := [.int (1 : Int32), .int ((1 : Int32) + ((D1 ((sE S) l0 10) (l1).toNatClampNeg) / (3 : Int32))), .int (9 : Int32)]) (st := []) (by decide) 12 hl0 rfl rfl rfl (by decide +kernel) hC ?_
  show F S D2 22 [some (.ref l0), some (.int l1)] [.int v2]
  exact ev_iret hR ev_sm.rf (Option.some.inj hf) hC (by decide +kernel)
theorem mX12_hardOf {S : ev_S} {fu : Nat} {r : Int32 × ev_D} (hT : ev_Ty S) {l0 : Nat} {l1 : Int32} {D : ev_D} (hl0 : sK S l0 = 15) (hf : fX12_hardOf (sL S) (sE S) fu l0 l1 D = some r) : ev_M 4 0 0 yX12_hardOf cX12_hardOf 2 (some .int) [.ref l0, .int l1] S D S r :=
  ev_met (ini := false) (plainFor_of_name (by decide)) (fun h => by cases h) rfl (Nat.le_of_ble_eq_true rfl) (fun F hR => tX12_hardOf (S := ev_z S) hR hT ⟨Nat.le_refl 0, Nat.le_refl 0⟩ hl0 hf)
set_option maxHeartbeats 4000000 in
set_option maxRecDepth 100000 in
theorem tX12_lesser {S : ev_S} {fu : Nat} {r : Int32 × ev_D} {F : ev_Fr} (hR : ev_R RX12 cX12_lesser 3 0 0 0 false (some .int) S r F) (hT : ev_Ty S) (hC : sC S ≤ 0 ∧ sA S ≤ 0) {l0 : Nat} {l1 : Int32} {l2 : Int32} {D : ev_D} (hl0 : sK S l0 = 15) (hf : fX12_lesser (sL S) (sE S) fu l0 l1 l2 D = some r) : F S D 0 [some (.ref l0), some (.int l1), some (.int l2)] [] := by
  have hX := hR.X
  unfold fX12_lesser at hf
  refine ev_blk hX lkok_RX12 [(.iload_n 1, 1, 0, 0, 0), (.iload_n 2, 1, 0, 0, 0)] (by decide +kernel) (g := true) (lv' := [some (.ref l0), some (.int l1), some (.int l2)]) (st' := [.int l2, .int l1]) (D' := D) (pc' := 2) rfl (rfl) rfl ?_
  refine ev_ic_ge hX (off := 7) 9 (by decide +kernel) (by decide) (fun h1 => ?_) (fun h1 => ?_)
  · have hf := ev_it h1 hf
    refine ev_blk hX lkok_RX12 [(.iload_n 2, 1, 0, 0, 0)] (by decide +kernel) (g := true) (lv' := [some (.ref l0), some (.int l1), some (.int l2)]) (st' := [.int l2]) (D' := D) (pc' := 10) rfl (rfl) rfl ?_
    exact ev_iret hR ev_sm.rf (Option.some.inj hf) hC (by decide +kernel)
  · have hf := ev_nf h1 hf
    refine ev_blk hX lkok_RX12 [(.iload_n 1, 1, 0, 0, 0)] (by decide +kernel) (g := true) (lv' := [some (.ref l0), some (.int l1), some (.int l2)]) (st' := [.int l1]) (D' := D) (pc' := 6) rfl (rfl) rfl ?_
    refine ev_goto hX (off := 4) 10 (by decide +kernel) (by decide) ?_
    exact ev_iret hR ev_sm.rf (Option.some.inj hf) hC (by decide +kernel)
theorem mX12_lesser {S : ev_S} {fu : Nat} {r : Int32 × ev_D} (hT : ev_Ty S) {l0 : Nat} {l1 : Int32} {l2 : Int32} {D : ev_D} (hl0 : sK S l0 = 15) (hf : fX12_lesser (sL S) (sE S) fu l0 l1 l2 D = some r) : ev_M 0 0 0 yX12_lesser cX12_lesser 3 (some .int) [.ref l0, .int l1, .int l2] S D S r :=
  ev_met (ini := false) (plainFor_of_name (by decide)) (fun h => by cases h) rfl (Nat.le_of_ble_eq_true rfl) (fun F hR => tX12_lesser (S := ev_z S) hR hT ⟨Nat.le_refl 0, Nat.le_refl 0⟩ hl0 hf)
set_option maxHeartbeats 4000000 in
set_option maxRecDepth 100000 in
theorem tX12_notes_63 {S : ev_S} {fu : Nat} {r : Int32 × ev_D} {F : ev_Fr} (hR : ev_R RX12 cX12_notes 5 0 0 0 false none S r F) (hT : ev_Ty S) (hC : sC S ≤ 0 ∧ sA S ≤ 0) {l0 : Nat} {l3 : Int32} {l4 : Int32} {D : ev_D} (hl0 : sK S l0 = 15) (hf : fX12_notes_63 (sL S) (sE S) fu l0 l3 l4 D = some r) : F S D 63 [some (.ref l0), none, none, some (.int l3), some (.int l4)] [] := by
  have hX := hR.X
  unfold fX12_notes_63 at hf
  obtain ⟨hg1, hf⟩ := ev_gd_s hf
  obtain ⟨hg2, hf⟩ := ev_gd_s hf
  obtain ⟨hg3, hf⟩ := ev_gd_s hf
  refine ev_blk hX lkok_RX12 [(.aload_n 0, 1, 0, 0, 0), (.getfield 31, 3, 12, 11, 0), (.iload 4, 2, 0, 0, 0), (.iconst 3, 1, 0, 0, 3), (.iadd, 1, 0, 0, 0), (.iload_n 3, 1, 0, 0, 0), (.iastore, 1, 0, 0, 0), (.aload_n 0, 1, 0, 0, 0), (.getfield 7, 3, 12, 1, 0), (.iconst 2, 1, 0, 0, 2), (.aload_n 0, 1, 0, 0, 0), (.getfield 7, 3, 12, 1, 0), (.iconst 2, 1, 0, 0, 2), (.iaload, 1, 0, 0, 0), (.iconst 1, 1, 0, 0, 1), (.iadd, 1, 0, 0, 0), (.iastore, 1, 0, 0, 0)] (by decide +kernel) (g := (sK S l0 == 15) && ((sK S ((sE S) l0 11) == 1 && ev_in (l4 + (3 : Int32)) ((sL S) ((sE S) l0 11))) && ((sK S l0 == 15) && ((sK S l0 == 15) && ((sK S ((sE S) l0 1) == 1 && ev_in (2 : Int32) ((sL S) ((sE S) l0 1))) && ((sK S ((sE S) l0 1) == 1 && ev_in (2 : Int32) ((sL S) ((sE S) l0 1))) && (true))))))) (lv' := [some (.ref l0), none, none, some (.int l3), some (.int l4)]) (st' := []) (D' := (ev_up (ev_up D ((sE S) l0 11) ((l4 + (3 : Int32))).toNatClampNeg l3) ((sE S) l0 1) ((2 : Int32)).toNatClampNeg (((ev_up D ((sE S) l0 11) ((l4 + (3 : Int32))).toNatClampNeg l3) ((sE S) l0 1) ((2 : Int32)).toNatClampNeg) + (1 : Int32)))) (pc' := 87) rfl (ev_gk hl0 (ev_gi (ev_tyk hT hl0 rfl rfl) hg1 (ev_gk hl0 (ev_gk hl0 (ev_gi (ev_tyk hT hl0 rfl rfl) hg2 (ev_gi (ev_tyk hT hl0 rfl rfl) hg3 (rfl))))))) rfl ?_
  exact ev_vret hR ev_sm.rf (Option.some.inj hf) hC (by decide +kernel)
set_option maxHeartbeats 4000000 in
set_option maxRecDepth 100000 in
theorem tX12_notes {S : ev_S} {fu : Nat} {r : Int32 × ev_D} {F : ev_Fr} (hR : ev_R RX12 cX12_notes 5 0 0 0 false none S r F) (hT : ev_Ty S) (hC : sC S ≤ 0 ∧ sA S ≤ 0) {l0 : Nat} {l1 : Int32} {l2 : Int32} {l3 : Int32} {D : ev_D} (hl0 : sK S l0 = 15) (hf : fX12_notes (sL S) (sE S) fu l0 l1 l2 l3 D = some r) : F S D 0 [some (.ref l0), some (.int l1), some (.int l2), some (.int l3), none] [] := by
  have hX := hR.X
  unfold fX12_notes at hf
  refine ev_blk hX lkok_RX12 [(.aload_n 0, 1, 0, 0, 0), (.getfield 134, 3, 12, 5, 0)] (by decide +kernel) (g := (sK S l0 == 15) && (true)) (lv' := [some (.ref l0), some (.int l1), some (.int l2), some (.int l3), none]) (st' := [.int (D l0 5)]) (D' := D) (pc' := 4) rfl (ev_gk hl0 (rfl)) rfl ?_
  refine ev_if_ne hX (off := 15) 19 (by decide +kernel) (by decide) (fun h4 => ?_) (fun h4 => ?_)
  · have hf := ev_nf h4 hf
    exact ev_vret hR ev_sm.rf (Option.some.inj hf) hC (by decide +kernel)
  · have hf := ev_it h4 hf
    obtain ⟨hg11, hf⟩ := ev_gd_s hf
    refine ev_blk hX lkok_RX12 [(.aload_n 0, 1, 0, 0, 0), (.getfield 7, 3, 12, 1, 0), (.iconst 2, 1, 0, 0, 2), (.iaload, 1, 0, 0, 0), (.sipush 150, 3, 0, 0, 150)] (by decide +kernel) (g := (sK S l0 == 15) && ((sK S ((sE S) l0 1) == 1 && ev_in (2 : Int32) ((sL S) ((sE S) l0 1))) && (true))) (lv' := [some (.ref l0), some (.int l1), some (.int l2), some (.int l3), none]) (st' := [.int (150 : Int32), .int (D ((sE S) l0 1) ((2 : Int32)).toNatClampNeg)]) (D' := D) (pc' := 16) rfl (ev_gk hl0 (ev_gi (ev_tyk hT hl0 rfl rfl) hg11 (rfl))) rfl ?_
    refine ev_ic_ne hX (off := 4) 20 (by decide +kernel) (by decide) (fun h5 => ?_) (fun h5 => ?_)
    · have hf := ev_nf h5 hf
      obtain ⟨hg6, hf⟩ := ev_gd_s hf
      obtain ⟨hg7, hf⟩ := ev_gd_s hf
      obtain ⟨hg8, hf⟩ := ev_gd_s hf
      obtain ⟨hg9, hf⟩ := ev_gd_s hf
      obtain ⟨hg10, hf⟩ := ev_gd_s hf
      refine ev_blk hX lkok_RX12 [(.iconst 4, 1, 0, 0, 4), (.aload_n 0, 1, 0, 0, 0), (.getfield 7, 3, 12, 1, 0), (.iconst 2, 1, 0, 0, 2), (.iaload, 1, 0, 0, 0), (.imul, 1, 0, 0, 0), (.istore 4, 2, 0, 0, 0), (.aload_n 0, 1, 0, 0, 0), (.getfield 31, 3, 12, 11, 0), (.iload 4, 2, 0, 0, 0), (.aload_n 0, 1, 0, 0, 0), (.getfield 7, 3, 12, 1, 0), (.iconst 0, 1, 0, 0, 0), (.iaload, 1, 0, 0, 0), (.iastore, 1, 0, 0, 0), (.aload_n 0, 1, 0, 0, 0), (.getfield 31, 3, 12, 11, 0), (.iload 4, 2, 0, 0, 0), (.iconst 1, 1, 0, 0, 1), (.iadd, 1, 0, 0, 0), (.iload_n 1, 1, 0, 0, 0), (.iastore, 1, 0, 0, 0), (.aload_n 0, 1, 0, 0, 0), (.getfield 31, 3, 12, 11, 0), (.iload 4, 2, 0, 0, 0), (.iconst 2, 1, 0, 0, 2), (.iadd, 1, 0, 0, 0), (.iload_n 2, 1, 0, 0, 0), (.iastore, 1, 0, 0, 0)] (by decide +kernel) (g := (sK S l0 == 15) && ((sK S ((sE S) l0 1) == 1 && ev_in (2 : Int32) ((sL S) ((sE S) l0 1))) && ((sK S l0 == 15) && ((sK S l0 == 15) && ((sK S ((sE S) l0 1) == 1 && ev_in (0 : Int32) ((sL S) ((sE S) l0 1))) && ((sK S ((sE S) l0 11) == 1 && ev_in ((4 : Int32) * (D ((sE S) l0 1) ((2 : Int32)).toNatClampNeg)) ((sL S) ((sE S) l0 11))) && ((sK S l0 == 15) && ((sK S ((sE S) l0 11) == 1 && ev_in (((4 : Int32) * (D ((sE S) l0 1) ((2 : Int32)).toNatClampNeg)) + (1 : Int32)) ((sL S) ((sE S) l0 11))) && ((sK S l0 == 15) && ((sK S ((sE S) l0 11) == 1 && ev_in (((4 : Int32) * (D ((sE S) l0 1) ((2 : Int32)).toNatClampNeg)) + (2 : Int32)) ((sL S) ((sE S) l0 11))) && (true))))))))))) (lv' := [some (.ref l0), some (.int l1), some (.int l2), some (.int l3), some (.int ((4 : Int32) * (D ((sE S) l0 1) ((2 : Int32)).toNatClampNeg)))]) (st' := []) (D' := (ev_up (ev_up (ev_up D ((sE S) l0 11) (((4 : Int32) * (D ((sE S) l0 1) ((2 : Int32)).toNatClampNeg))).toNatClampNeg (D ((sE S) l0 1) ((0 : Int32)).toNatClampNeg)) ((sE S) l0 11) ((((4 : Int32) * (D ((sE S) l0 1) ((2 : Int32)).toNatClampNeg)) + (1 : Int32))).toNatClampNeg l1) ((sE S) l0 11) ((((4 : Int32) * (D ((sE S) l0 1) ((2 : Int32)).toNatClampNeg)) + (2 : Int32))).toNatClampNeg l2)) (pc' := 63) rfl (ev_gk hl0 (ev_gi (ev_tyk hT hl0 rfl rfl) hg6 (ev_gk hl0 (ev_gk hl0 (ev_gi (ev_tyk hT hl0 rfl rfl) hg7 (ev_gi (ev_tyk hT hl0 rfl rfl) hg8 (ev_gk hl0 (ev_gi (ev_tyk hT hl0 rfl rfl) hg9 (ev_gk hl0 (ev_gi (ev_tyk hT hl0 rfl rfl) hg10 (rfl))))))))))) rfl ?_
      exact ev_weak hX (ev_le_eq (ev_le_no (ev_le_no (ev_le_eq (ev_le_eq ev_le_nil))))) (tX12_notes_63 hR hT hC   hl0 hf)
    · have hf := ev_it h5 hf
      exact ev_vret hR ev_sm.rf (Option.some.inj hf) hC (by decide +kernel)
theorem mX12_notes {S : ev_S} {fu : Nat} {r : Int32 × ev_D} (hT : ev_Ty S) {l0 : Nat} {l1 : Int32} {l2 : Int32} {l3 : Int32} {D : ev_D} (hl0 : sK S l0 = 15) (hf : fX12_notes (sL S) (sE S) fu l0 l1 l2 l3 D = some r) : ev_M 0 0 0 yX12_notes cX12_notes 5 none [.ref l0, .int l1, .int l2, .int l3] S D S r :=
  ev_met (ini := false) (plainFor_of_name (by decide)) (fun h => by cases h) rfl (Nat.le_of_ble_eq_true rfl) (fun F hR => tX12_notes (S := ev_z S) hR hT ⟨Nat.le_refl 0, Nat.le_refl 0⟩ hl0 hf)
set_option maxHeartbeats 4000000 in
set_option maxRecDepth 100000 in
theorem tX12_pulls {S : ev_S} {fu : Nat} {r : Int32 × ev_D} {F : ev_Fr} (hR : ev_R RX12 cX12_pulls 4 5 0 0 false (some .int) S r F) (hT : ev_Ty S) (hC : sC S ≤ 0 ∧ sA S ≤ 0) {l0 : Nat} {l1 : Int32} {D : ev_D} (hl0 : sK S l0 = 15) (hf : fX12_pulls (sL S) (sE S) fu l0 l1 D = some r) : F S D 0 [some (.ref l0), some (.int l1), none, none] [] := by
  have hX := hR.X
  unfold fX12_pulls at hf
  refine ev_blk hX lkok_RX12 [(.aload_n 0, 1, 0, 0, 0), (.iload_n 1, 1, 0, 0, 0)] (by decide +kernel) (g := true) (lv' := [some (.ref l0), some (.int l1), none, none]) (st' := [.int l1, .ref l0]) (D' := D) (pc' := 2) rfl (rfl) rfl ?_
  obtain ⟨v1, D1, hc1, hf⟩ := ev_bd_s hf
  refine ev_callV hX YX12_hardOf ml_RX12_341 (mX12_hardOf hT hl0 hc1) (vs := [.int l1]) (st := []) (by decide) 12 hl0 rfl rfl rfl (by decide +kernel) hC ?_
  show F S D1 5 [some (.ref l0), some (.int l1), none, none] [.int v1]
  obtain ⟨hg14, hf⟩ := ev_gd_s hf
  obtain ⟨hg15, hf⟩ := ev_gd_s hf
  obtain ⟨hg16, hf⟩ := ev_gd_s hf
  obtain ⟨hg17, hf⟩ := ev_gd_s hf
  refine ev_blk hX lkok_RX12 [(.istore_n 2, 1, 0, 0, 0), (.aload_n 0, 1, 0, 0, 0), (.getfield 22, 3, 12, 8, 0), (.iload_n 1, 1, 0, 0, 0), (.iaload, 1, 0, 0, 0), (.istore_n 3, 1, 0, 0, 0), (.aload_n 0, 1, 0, 0, 0), (.getfield 7, 3, 12, 1, 0), (.bipush 6, 2, 0, 0, 6), (.iload_n 3, 1, 0, 0, 0), (.iadd, 1, 0, 0, 0), (.aload_n 0, 1, 0, 0, 0), (.getfield 7, 3, 12, 1, 0), (.bipush 6, 2, 0, 0, 6), (.iload_n 3, 1, 0, 0, 0), (.iadd, 1, 0, 0, 0), (.iaload, 1, 0, 0, 0), (.iload_n 2, 1, 0, 0, 0), (.iadd, 1, 0, 0, 0), (.iastore, 1, 0, 0, 0), (.aload_n 0, 1, 0, 0, 0), (.getfield 7, 3, 12, 1, 0), (.iconst 5, 1, 0, 0, 5), (.aload_n 0, 1, 0, 0, 0), (.sipush 9999, 3, 0, 0, 9999), (.aload_n 0, 1, 0, 0, 0), (.getfield 7, 3, 12, 1, 0), (.iconst 5, 1, 0, 0, 5), (.iaload, 1, 0, 0, 0), (.iload_n 2, 1, 0, 0, 0), (.aload_n 0, 1, 0, 0, 0), (.iload_n 3, 1, 0, 0, 0)] (by decide +kernel) (g := (sK S l0 == 15) && ((sK S ((sE S) l0 8) == 1 && ev_in l1 ((sL S) ((sE S) l0 8))) && ((sK S l0 == 15) && ((sK S l0 == 15) && ((sK S ((sE S) l0 1) == 1 && ev_in ((6 : Int32) + (D1 ((sE S) l0 8) (l1).toNatClampNeg)) ((sL S) ((sE S) l0 1))) && ((sK S ((sE S) l0 1) == 1 && ev_in ((6 : Int32) + (D1 ((sE S) l0 8) (l1).toNatClampNeg)) ((sL S) ((sE S) l0 1))) && ((sK S l0 == 15) && ((sK S l0 == 15) && ((sK S ((sE S) l0 1) == 1 && ev_in (5 : Int32) ((sL S) ((sE S) l0 1))) && (true)))))))))) (lv' := [some (.ref l0), some (.int l1), some (.int v1), some (.int (D1 ((sE S) l0 8) (l1).toNatClampNeg))]) (st' := [.int (D1 ((sE S) l0 8) (l1).toNatClampNeg), .ref l0, .int v1, .int ((ev_up D1 ((sE S) l0 1) (((6 : Int32) + (D1 ((sE S) l0 8) (l1).toNatClampNeg))).toNatClampNeg ((D1 ((sE S) l0 1) (((6 : Int32) + (D1 ((sE S) l0 8) (l1).toNatClampNeg))).toNatClampNeg) + v1)) ((sE S) l0 1) ((5 : Int32)).toNatClampNeg), .int (9999 : Int32), .ref l0, .int (5 : Int32), .ref ((sE S) l0 1)]) (D' := (ev_up D1 ((sE S) l0 1) (((6 : Int32) + (D1 ((sE S) l0 8) (l1).toNatClampNeg))).toNatClampNeg ((D1 ((sE S) l0 1) (((6 : Int32) + (D1 ((sE S) l0 8) (l1).toNatClampNeg))).toNatClampNeg) + v1))) (pc' := 51) rfl (ev_gk hl0 (ev_gi (ev_tyk hT hl0 rfl rfl) hg14 (ev_gk hl0 (ev_gk hl0 (ev_gi (ev_tyk hT hl0 rfl rfl) hg15 (ev_gi (ev_tyk hT hl0 rfl rfl) hg16 (ev_gk hl0 (ev_gk hl0 (ev_gi (ev_tyk hT hl0 rfl rfl) hg17 (rfl)))))))))) rfl ?_
  obtain ⟨v2, D2, hc2, hf⟩ := ev_bd_s hf
  refine ev_callV hX YX12_heavy ml_RX12_320 (mX12_heavy hT hl0 hc2) (vs := [.int (D1 ((sE S) l0 8) (l1).toNatClampNeg)]) (st := [.int v1, .int ((ev_up D1 ((sE S) l0 1) (((6 : Int32) + (D1 ((sE S) l0 8) (l1).toNatClampNeg))).toNatClampNeg ((D1 ((sE S) l0 1) (((6 : Int32) + (D1 ((sE S) l0 8) (l1).toNatClampNeg))).toNatClampNeg) + v1)) ((sE S) l0 1) ((5 : Int32)).toNatClampNeg), .int (9999 : Int32), .ref l0, .int (5 : Int32), .ref ((sE S) l0 1)]) (by decide) 12 hl0 rfl rfl rfl (by decide +kernel) hC ?_
  show F S D2 54 [some (.ref l0), some (.int l1), some (.int v1), some (.int (D1 ((sE S) l0 8) (l1).toNatClampNeg))] [.int v2, .int v1, .int ((ev_up D1 ((sE S) l0 1) (((6 : Int32) + (D1 ((sE S) l0 8) (l1).toNatClampNeg))).toNatClampNeg ((D1 ((sE S) l0 1) (((6 : Int32) + (D1 ((sE S) l0 8) (l1).toNatClampNeg))).toNatClampNeg) + v1)) ((sE S) l0 1) ((5 : Int32)).toNatClampNeg), .int (9999 : Int32), .ref l0, .int (5 : Int32), .ref ((sE S) l0 1)]
  refine ev_blk hX lkok_RX12 [(.imul, 1, 0, 0, 0), (.iadd, 1, 0, 0, 0)] (by decide +kernel) (g := true) (lv' := [some (.ref l0), some (.int l1), some (.int v1), some (.int (D1 ((sE S) l0 8) (l1).toNatClampNeg))]) (st' := [.int (((ev_up D1 ((sE S) l0 1) (((6 : Int32) + (D1 ((sE S) l0 8) (l1).toNatClampNeg))).toNatClampNeg ((D1 ((sE S) l0 1) (((6 : Int32) + (D1 ((sE S) l0 8) (l1).toNatClampNeg))).toNatClampNeg) + v1)) ((sE S) l0 1) ((5 : Int32)).toNatClampNeg) + (v1 * v2)), .int (9999 : Int32), .ref l0, .int (5 : Int32), .ref ((sE S) l0 1)]) (D' := D2) (pc' := 56) rfl (rfl) rfl ?_
  obtain ⟨v3, D3, hc3, hf⟩ := ev_bd_s hf
  refine ev_callV hX YX12_lesser ml_RX12_344 (mX12_lesser hT hl0 hc3) (vs := [.int (9999 : Int32), .int (((ev_up D1 ((sE S) l0 1) (((6 : Int32) + (D1 ((sE S) l0 8) (l1).toNatClampNeg))).toNatClampNeg ((D1 ((sE S) l0 1) (((6 : Int32) + (D1 ((sE S) l0 8) (l1).toNatClampNeg))).toNatClampNeg) + v1)) ((sE S) l0 1) ((5 : Int32)).toNatClampNeg) + (v1 * v2))]) (st := [.int (5 : Int32), .ref ((sE S) l0 1)]) (by decide) 12 hl0 rfl rfl rfl (by decide +kernel) hC ?_
  show F S D3 59 [some (.ref l0), some (.int l1), some (.int v1), some (.int (D1 ((sE S) l0 8) (l1).toNatClampNeg))] [.int v3, .int (5 : Int32), .ref ((sE S) l0 1)]
  obtain ⟨hg12, hf⟩ := ev_gd_s hf
  obtain ⟨hg13, hf⟩ := ev_gd_s hf
  refine ev_blk hX lkok_RX12 [(.iastore, 1, 0, 0, 0), (.aload_n 0, 1, 0, 0, 0), (.getfield 7, 3, 12, 1, 0), (.bipush 24, 2, 0, 0, 24), (.iload_n 1, 1, 0, 0, 0), (.iadd, 1, 0, 0, 0), (.aload_n 0, 1, 0, 0, 0), (.bipush 99, 2, 0, 0, 99), (.aload_n 0, 1, 0, 0, 0), (.getfield 7, 3, 12, 1, 0), (.bipush 24, 2, 0, 0, 24), (.iload_n 1, 1, 0, 0, 0), (.iadd, 1, 0, 0, 0), (.iaload, 1, 0, 0, 0), (.iload_n 2, 1, 0, 0, 0), (.iadd, 1, 0, 0, 0)] (by decide +kernel) (g := (sK S ((sE S) l0 1) == 1 && ev_in (5 : Int32) ((sL S) ((sE S) l0 1))) && ((sK S l0 == 15) && ((sK S l0 == 15) && ((sK S ((sE S) l0 1) == 1 && ev_in ((24 : Int32) + l1) ((sL S) ((sE S) l0 1))) && (true))))) (lv' := [some (.ref l0), some (.int l1), some (.int v1), some (.int (D1 ((sE S) l0 8) (l1).toNatClampNeg))]) (st' := [.int (((ev_up D3 ((sE S) l0 1) ((5 : Int32)).toNatClampNeg v3) ((sE S) l0 1) (((24 : Int32) + l1)).toNatClampNeg) + v1), .int (99 : Int32), .ref l0, .int ((24 : Int32) + l1), .ref ((sE S) l0 1)]) (D' := (ev_up D3 ((sE S) l0 1) ((5 : Int32)).toNatClampNeg v3)) (pc' := 82) rfl (ev_gi (ev_tyk hT hl0 rfl rfl) hg12 (ev_gk hl0 (ev_gk hl0 (ev_gi (ev_tyk hT hl0 rfl rfl) hg13 (rfl))))) rfl ?_
  obtain ⟨v4, D4, hc4, hf⟩ := ev_bd_s hf
  refine ev_callV hX YX12_lesser ml_RX12_344 (mX12_lesser hT hl0 hc4) (vs := [.int (99 : Int32), .int (((ev_up D3 ((sE S) l0 1) ((5 : Int32)).toNatClampNeg v3) ((sE S) l0 1) (((24 : Int32) + l1)).toNatClampNeg) + v1)]) (st := [.int ((24 : Int32) + l1), .ref ((sE S) l0 1)]) (by decide) 12 hl0 rfl rfl rfl (by decide +kernel) hC ?_
  show F S D4 85 [some (.ref l0), some (.int l1), some (.int v1), some (.int (D1 ((sE S) l0 8) (l1).toNatClampNeg))] [.int v4, .int ((24 : Int32) + l1), .ref ((sE S) l0 1)]
  obtain ⟨hg11, hf⟩ := ev_gd_s hf
  refine ev_blk hX lkok_RX12 [(.iastore, 1, 0, 0, 0), (.aload_n 0, 1, 0, 0, 0), (.iconst 0, 1, 0, 0, 0), (.iload_n 1, 1, 0, 0, 0), (.iload_n 2, 1, 0, 0, 0)] (by decide +kernel) (g := (sK S ((sE S) l0 1) == 1 && ev_in ((24 : Int32) + l1) ((sL S) ((sE S) l0 1))) && (true)) (lv' := [some (.ref l0), some (.int l1), some (.int v1), some (.int (D1 ((sE S) l0 8) (l1).toNatClampNeg))]) (st' := [.int v1, .int l1, .int (0 : Int32), .ref l0]) (D' := (ev_up D4 ((sE S) l0 1) (((24 : Int32) + l1)).toNatClampNeg v4)) (pc' := 90) rfl (ev_gi (ev_tyk hT hl0 rfl rfl) hg11 (rfl)) rfl ?_
  obtain ⟨v5, D5, hc5, hf⟩ := ev_bd_s hf
  refine ev_callV hX YX12_notes ml_RX12_347 (mX12_notes hT hl0 hc5) (vs := [.int (0 : Int32), .int l1, .int v1]) (st := []) (by decide) 12 hl0 rfl rfl rfl (by decide +kernel) hC ?_
  show F S D5 93 [some (.ref l0), some (.int l1), some (.int v1), some (.int (D1 ((sE S) l0 8) (l1).toNatClampNeg))] []
  obtain ⟨hg10, hf⟩ := ev_gd_s hf
  refine ev_blk hX lkok_RX12 [(.aload_n 0, 1, 0, 0, 0), (.getfield 7, 3, 12, 1, 0), (.bipush 24, 2, 0, 0, 24), (.iload_n 1, 1, 0, 0, 0), (.iadd, 1, 0, 0, 0), (.iaload, 1, 0, 0, 0), (.bipush 99, 2, 0, 0, 99)] (by decide +kernel) (g := (sK S l0 == 15) && ((sK S ((sE S) l0 1) == 1 && ev_in ((24 : Int32) + l1) ((sL S) ((sE S) l0 1))) && (true))) (lv' := [some (.ref l0), some (.int l1), some (.int v1), some (.int (D1 ((sE S) l0 8) (l1).toNatClampNeg))]) (st' := [.int (99 : Int32), .int (D5 ((sE S) l0 1) (((24 : Int32) + l1)).toNatClampNeg)]) (D' := D5) (pc' := 104) rfl (ev_gk hl0 (ev_gi (ev_tyk hT hl0 rfl rfl) hg10 (rfl))) rfl ?_
  refine ev_ic_ge hX (off := 5) 109 (by decide +kernel) (by decide) (fun h6 => ?_) (fun h6 => ?_)
  · have hf := ev_it h6 hf
    obtain ⟨hg8, hf⟩ := ev_gd_s hf
    obtain ⟨hg9, hf⟩ := ev_gd_s hf
    refine ev_blk hX lkok_RX12 [(.aload_n 0, 1, 0, 0, 0), (.getfield 7, 3, 12, 1, 0), (.bipush 34, 2, 0, 0, 34), (.iload_n 1, 1, 0, 0, 0), (.iadd, 1, 0, 0, 0), (.iconst 1, 1, 0, 0, 1), (.iastore, 1, 0, 0, 0), (.aload_n 0, 1, 0, 0, 0), (.iconst 2, 1, 0, 0, 2), (.iload_n 1, 1, 0, 0, 0), (.aload_n 0, 1, 0, 0, 0), (.getfield 7, 3, 12, 1, 0), (.bipush 6, 2, 0, 0, 6), (.iload_n 3, 1, 0, 0, 0), (.iadd, 1, 0, 0, 0), (.iaload, 1, 0, 0, 0)] (by decide +kernel) (g := (sK S l0 == 15) && ((sK S ((sE S) l0 1) == 1 && ev_in ((34 : Int32) + l1) ((sL S) ((sE S) l0 1))) && ((sK S l0 == 15) && ((sK S ((sE S) l0 1) == 1 && ev_in ((6 : Int32) + (D1 ((sE S) l0 8) (l1).toNatClampNeg)) ((sL S) ((sE S) l0 1))) && (true))))) (lv' := [some (.ref l0), some (.int l1), some (.int v1), some (.int (D1 ((sE S) l0 8) (l1).toNatClampNeg))]) (st' := [.int ((ev_up D5 ((sE S) l0 1) (((34 : Int32) + l1)).toNatClampNeg (1 : Int32)) ((sE S) l0 1) (((6 : Int32) + (D1 ((sE S) l0 8) (l1).toNatClampNeg))).toNatClampNeg), .int l1, .int (2 : Int32), .ref l0]) (D' := (ev_up D5 ((sE S) l0 1) (((34 : Int32) + l1)).toNatClampNeg (1 : Int32))) (pc' := 131) rfl (ev_gk hl0 (ev_gi (ev_tyk hT hl0 rfl rfl) hg8 (ev_gk hl0 (ev_gi (ev_tyk hT hl0 rfl rfl) hg9 (rfl))))) rfl ?_
    obtain ⟨v7, D7, hc7, hf⟩ := ev_bd_s hf
    refine ev_callV hX YX12_notes ml_RX12_347 (mX12_notes hT hl0 hc7) (vs := [.int (2 : Int32), .int l1, .int ((ev_up D5 ((sE S) l0 1) (((34 : Int32) + l1)).toNatClampNeg (1 : Int32)) ((sE S) l0 1) (((6 : Int32) + (D1 ((sE S) l0 8) (l1).toNatClampNeg))).toNatClampNeg)]) (st := []) (by decide) 12 hl0 rfl rfl rfl (by decide +kernel) hC ?_
    show F S D7 134 [some (.ref l0), some (.int l1), some (.int v1), some (.int (D1 ((sE S) l0 8) (l1).toNatClampNeg))] []
    refine ev_blk hX lkok_RX12 [(.iload_n 2, 1, 0, 0, 0)] (by decide +kernel) (g := true) (lv' := [some (.ref l0), some (.int l1), some (.int v1), some (.int (D1 ((sE S) l0 8) (l1).toNatClampNeg))]) (st' := [.int v1]) (D' := D7) (pc' := 135) rfl (rfl) rfl ?_
    exact ev_iret hR ev_sm.rf (Option.some.inj hf) hC (by decide +kernel)
  · have hf := ev_nf h6 hf
    refine ev_blk hX lkok_RX12 [(.iload_n 2, 1, 0, 0, 0)] (by decide +kernel) (g := true) (lv' := [some (.ref l0), some (.int l1), some (.int v1), some (.int (D1 ((sE S) l0 8) (l1).toNatClampNeg))]) (st' := [.int v1]) (D' := D5) (pc' := 108) rfl (rfl) rfl ?_
    exact ev_iret hR ev_sm.rf (Option.some.inj hf) hC (by decide +kernel)
theorem mX12_pulls {S : ev_S} {fu : Nat} {r : Int32 × ev_D} (hT : ev_Ty S) {l0 : Nat} {l1 : Int32} {D : ev_D} (hl0 : sK S l0 = 15) (hf : fX12_pulls (sL S) (sE S) fu l0 l1 D = some r) : ev_M 5 0 0 yX12_pulls cX12_pulls 4 (some .int) [.ref l0, .int l1] S D S r :=
  ev_met (ini := false) (plainFor_of_name (by decide)) (fun h => by cases h) rfl (Nat.le_of_ble_eq_true rfl) (fun F hR => tX12_pulls (S := ev_z S) hR hT ⟨Nat.le_refl 0, Nat.le_refl 0⟩ hl0 hf)
set_option maxHeartbeats 4000000 in
set_option maxRecDepth 100000 in
theorem tX12_pull {S : ev_S} {fu : Nat} {r : Int32 × ev_D} {F : ev_Fr} (hR : ev_R RX12 cX12_pull 2 6 0 0 false (some .int) S r F) (hT : ev_Ty S) (hC : sC S ≤ 0 ∧ sA S ≤ 0) {l0 : Nat} {l1 : Int32} {D : ev_D} (hl0 : sK S l0 = 15) (hf : fX12_pull (sL S) (sE S) fu l0 l1 D = some r) : F S D 0 [some (.ref l0), some (.int l1)] [] := by
  have hX := hR.X
  unfold fX12_pull at hf
  refine ev_blk hX lkok_RX12 [(.aload_n 0, 1, 0, 0, 0), (.iconst 0, 1, 0, 0, 0), (.putfield 128, 3, 12, 0, 0), (.aload_n 0, 1, 0, 0, 0), (.iload_n 1, 1, 0, 0, 0)] (by decide +kernel) (g := (sK S l0 == 15) && (true)) (lv' := [some (.ref l0), some (.int l1)]) (st' := [.int l1, .ref l0]) (D' := (ev_up D l0 0 (0 : Int32))) (pc' := 7) rfl (ev_gk hl0 (rfl)) rfl ?_
  obtain ⟨v1, D1, hc1, hf⟩ := ev_bd_s hf
  refine ev_callV hX YX12_isRinger ml_RX12_154 (mX12_isRinger hT hl0 hc1) (vs := [.int l1]) (st := []) (by decide) 12 hl0 rfl rfl rfl (by decide +kernel) hC ?_
  show F S D1 10 [some (.ref l0), some (.int l1)] [.int v1]
  refine ev_if_eq hX (off := 11) 21 (by decide +kernel) (by decide) (fun h2 => ?_) (fun h2 => ?_)
  · have hf := ev_it h2 hf
    refine ev_blk hX lkok_RX12 [(.iconst (-1), 1, 0, 0, (-1))] (by decide +kernel) (g := true) (lv' := [some (.ref l0), some (.int l1)]) (st' := [.int (-1 : Int32)]) (D' := D1) (pc' := 22) rfl (rfl) rfl ?_
    exact ev_iret hR ev_sm.rf (Option.some.inj hf) hC (by decide +kernel)
  · have hf := ev_nf h2 hf
    refine ev_blk hX lkok_RX12 [(.aload_n 0, 1, 0, 0, 0), (.iload_n 1, 1, 0, 0, 0)] (by decide +kernel) (g := true) (lv' := [some (.ref l0), some (.int l1)]) (st' := [.int l1, .ref l0]) (D' := D1) (pc' := 15) rfl (rfl) rfl ?_
    obtain ⟨v3, D3, hc3, hf⟩ := ev_bd_s hf
    refine ev_callV hX YX12_isAwake ml_RX12_143 (mX12_isAwake hT hl0 hc3) (vs := [.int l1]) (st := []) (by decide) 12 hl0 rfl rfl rfl (by decide +kernel) hC ?_
    show F S D3 18 [some (.ref l0), some (.int l1)] [.int v3]
    refine ev_if_ne hX (off := 5) 23 (by decide +kernel) (by decide) (fun h4 => ?_) (fun h4 => ?_)
    · have hf := ev_nf h4 hf
      refine ev_blk hX lkok_RX12 [(.aload_n 0, 1, 0, 0, 0)] (by decide +kernel) (g := true) (lv' := [some (.ref l0), some (.int l1)]) (st' := [.ref l0]) (D' := D3) (pc' := 24) rfl (rfl) rfl ?_
      obtain ⟨v5, D5, hc5, hf⟩ := ev_bd_s hf
      refine ev_callV hX YX12_keepsAhead ml_RX12_351 (mX12_keepsAhead hT hl0 hc5) (vs := []) (st := []) (by decide) 12 hl0 rfl rfl rfl (by decide +kernel) hC ?_
      show F S D5 27 [some (.ref l0), some (.int l1)] []
      refine ev_blk hX lkok_RX12 [(.aload_n 0, 1, 0, 0, 0), (.iload_n 1, 1, 0, 0, 0)] (by decide +kernel) (g := true) (lv' := [some (.ref l0), some (.int l1)]) (st' := [.int l1, .ref l0]) (D' := D5) (pc' := 29) rfl (rfl) rfl ?_
      obtain ⟨v6, D6, hc6, hf⟩ := ev_bd_s hf
      refine ev_callV hX YX12_pulls ml_RX12_354 (mX12_pulls hT hl0 hc6) (vs := [.int l1]) (st := []) (by decide) 12 hl0 rfl rfl rfl (by decide +kernel) hC ?_
      show F S D6 32 [some (.ref l0), some (.int l1)] [.int v6]
      exact ev_iret hR ev_sm.rf (Option.some.inj hf) hC (by decide +kernel)
    · have hf := ev_it h4 hf
      refine ev_blk hX lkok_RX12 [(.iconst (-1), 1, 0, 0, (-1))] (by decide +kernel) (g := true) (lv' := [some (.ref l0), some (.int l1)]) (st' := [.int (-1 : Int32)]) (D' := D3) (pc' := 22) rfl (rfl) rfl ?_
      exact ev_iret hR ev_sm.rf (Option.some.inj hf) hC (by decide +kernel)
theorem mX12_pull {S : ev_S} {fu : Nat} {r : Int32 × ev_D} (hT : ev_Ty S) {l0 : Nat} {l1 : Int32} {D : ev_D} (hl0 : sK S l0 = 15) (hf : fX12_pull (sL S) (sE S) fu l0 l1 D = some r) : ev_M 6 0 0 yX12_pull cX12_pull 2 (some .int) [.ref l0, .int l1] S D S r :=
  ev_met (ini := false) (plainFor_of_name (by decide)) (fun h => by cases h) rfl (Nat.le_of_ble_eq_true rfl) (fun F hR => tX12_pull (S := ev_z S) hR hT ⟨Nat.le_refl 0, Nat.le_refl 0⟩ hl0 hf)
set_option maxHeartbeats 4000000 in
set_option maxRecDepth 100000 in
theorem tX12_act_95 {S : ev_S} {fu : Nat} {r : Int32 × ev_D} {F : ev_Fr} (hR : ev_R RX12 cX12_act 3 1 0 0 false (some .boolean) S r F) (hT : ev_Ty S) (hC : sC S ≤ 0 ∧ sA S ≤ 0) {l0 : Nat} {l1 : Int32} {l2 : Int32} {D : ev_D} (hl0 : sK S l0 = 15) (hf : fX12_act_95 (sL S) (sE S) fu l0 l1 l2 D = some r) : F S D 95 [some (.ref l0), some (.int l1), some (.int l2)] [] := by
  have hX := hR.X
  unfold fX12_act_95 at hf
  refine ev_blk hX lkok_RX12 [(.iload_n 1, 1, 0, 0, 0)] (by decide +kernel) (g := true) (lv' := [some (.ref l0), some (.int l1), some (.int l2)]) (st' := [.int l1]) (D' := D) (pc' := 96) rfl (rfl) rfl ?_
  refine ev_if_le hX (off := 15) 111 (by decide +kernel) (by decide) (fun h1 => ?_) (fun h1 => ?_)
  · have hf := ev_it h1 hf
    refine ev_blk hX lkok_RX12 [(.iconst 1, 1, 0, 0, 1)] (by decide +kernel) (g := true) (lv' := [some (.ref l0), some (.int l1), some (.int l2)]) (st' := [.int (1 : Int32)]) (D' := D) (pc' := 112) rfl (rfl) rfl ?_
    exact ev_zret hR ev_sm.rf (Or.inr rfl) (Option.some.inj hf) hC (by decide +kernel)
  · have hf := ev_nf h1 hf
    obtain ⟨hg2, hf⟩ := ev_gd_s hf
    refine ev_blk hX lkok_RX12 [(.aload_n 0, 1, 0, 0, 0), (.getfield 7, 3, 12, 1, 0), (.bipush 34, 2, 0, 0, 34), (.iload_n 2, 1, 0, 0, 0), (.iadd, 1, 0, 0, 0), (.iload_n 1, 1, 0, 0, 0), (.iconst 1, 1, 0, 0, 1), (.isub, 1, 0, 0, 0), (.iastore, 1, 0, 0, 0), (.iconst 1, 1, 0, 0, 1)] (by decide +kernel) (g := (sK S l0 == 15) && ((sK S ((sE S) l0 1) == 1 && ev_in ((34 : Int32) + l2) ((sL S) ((sE S) l0 1))) && (true))) (lv' := [some (.ref l0), some (.int l1), some (.int l2)]) (st' := [.int (1 : Int32)]) (D' := (ev_up D ((sE S) l0 1) (((34 : Int32) + l2)).toNatClampNeg (l1 - (1 : Int32)))) (pc' := 112) rfl (ev_gk hl0 (ev_gi (ev_tyk hT hl0 rfl rfl) hg2 (rfl))) rfl ?_
    exact ev_zret hR ev_sm.rf (Or.inr rfl) (Option.some.inj hf) hC (by decide +kernel)
set_option maxHeartbeats 4000000 in
set_option maxRecDepth 100000 in
theorem tX12_act_80 {S : ev_S} {fu : Nat} {r : Int32 × ev_D} {F : ev_Fr} (hR : ev_R RX12 cX12_act 3 1 0 0 false (some .boolean) S r F) (hT : ev_Ty S) (hC : sC S ≤ 0 ∧ sA S ≤ 0) {l0 : Nat} {l1 : Int32} {l2 : Int32} {D : ev_D} (hl0 : sK S l0 = 15) (hf : fX12_act_80 (sL S) (sE S) fu l0 l1 l2 D = some r) : F S D 80 [some (.ref l0), some (.int l1), some (.int l2)] [] := by
  have hX := hR.X
  unfold fX12_act_80 at hf
  refine ev_blk hX lkok_RX12 [(.iload_n 1, 1, 0, 0, 0), (.iconst 1, 1, 0, 0, 1)] (by decide +kernel) (g := true) (lv' := [some (.ref l0), some (.int l1), some (.int l2)]) (st' := [.int (1 : Int32), .int l1]) (D' := D) (pc' := 82) rfl (rfl) rfl ?_
  refine ev_ic_ne hX (off := 13) 95 (by decide +kernel) (by decide) (fun h3 => ?_) (fun h3 => ?_)
  · have hf := ev_nf h3 hf
    exact ev_weak hX (ev_le_eq (ev_le_eq (ev_le_eq ev_le_nil))) (tX12_act_95 hR hT hC   hl0 hf)
  · have hf := ev_it h3 hf
    obtain ⟨hg4, hf⟩ := ev_gd_s hf
    refine ev_blk hX lkok_RX12 [(.aload_n 0, 1, 0, 0, 0), (.getfield 7, 3, 12, 1, 0), (.bipush 24, 2, 0, 0, 24), (.iload_n 2, 1, 0, 0, 0), (.iadd, 1, 0, 0, 0), (.iconst 0, 1, 0, 0, 0), (.iastore, 1, 0, 0, 0)] (by decide +kernel) (g := (sK S l0 == 15) && ((sK S ((sE S) l0 1) == 1 && ev_in ((24 : Int32) + l2) ((sL S) ((sE S) l0 1))) && (true))) (lv' := [some (.ref l0), some (.int l1), some (.int l2)]) (st' := []) (D' := (ev_up D ((sE S) l0 1) (((24 : Int32) + l2)).toNatClampNeg (0 : Int32))) (pc' := 95) rfl (ev_gk hl0 (ev_gi (ev_tyk hT hl0 rfl rfl) hg4 (rfl))) rfl ?_
    exact ev_weak hX (ev_le_eq (ev_le_eq (ev_le_eq ev_le_nil))) (tX12_act_95 hR hT hC   hl0 hf)
set_option maxHeartbeats 4000000 in
set_option maxRecDepth 100000 in
theorem tX12_act_47 {S : ev_S} {fu : Nat} {r : Int32 × ev_D} {F : ev_Fr} (hR : ev_R RX12 cX12_act 3 1 0 0 false (some .boolean) S r F) (hT : ev_Ty S) (hC : sC S ≤ 0 ∧ sA S ≤ 0) {l0 : Nat} {l1 : Int32} {l2 : Int32} {D : ev_D} (hl0 : sK S l0 = 15) (hf : fX12_act_47 (sL S) (sE S) fu l0 l1 l2 D = some r) : F S D 47 [some (.ref l0), some (.int l1), some (.int l2)] [] := by
  have hX := hR.X
  unfold fX12_act_47 at hf
  refine ev_blk hX lkok_RX12 [(.aload_n 0, 1, 0, 0, 0)] (by decide +kernel) (g := true) (lv' := [some (.ref l0), some (.int l1), some (.int l2)]) (st' := [.ref l0]) (D' := D) (pc' := 48) rfl (rfl) rfl ?_
  obtain ⟨v5, D5, hc5, hf⟩ := ev_bd_s hf
  refine ev_callV hX YX12_keepsAhead ml_RX12_351 (mX12_keepsAhead hT hl0 hc5) (vs := []) (st := []) (by decide) 12 hl0 rfl rfl rfl (by decide +kernel) hC ?_
  show F S D5 51 [some (.ref l0), some (.int l1), some (.int l2)] []
  refine ev_blk hX lkok_RX12 [(.iload_n 1, 1, 0, 0, 0)] (by decide +kernel) (g := true) (lv' := [some (.ref l0), some (.int l1), some (.int l2)]) (st' := [.int l1]) (D' := D5) (pc' := 52) rfl (rfl) rfl ?_
  refine ev_if_ne hX (off := 28) 80 (by decide +kernel) (by decide) (fun h6 => ?_) (fun h6 => ?_)
  · have hf := ev_nf h6 hf
    exact ev_weak hX (ev_le_eq (ev_le_eq (ev_le_eq ev_le_nil))) (tX12_act_80 hR hT hC   hl0 hf)
  · have hf := ev_it h6 hf
    obtain ⟨hg9, hf⟩ := ev_gd_s hf
    refine ev_blk hX lkok_RX12 [(.aload_n 0, 1, 0, 0, 0), (.iconst 1, 1, 0, 0, 1), (.iload_n 2, 1, 0, 0, 0), (.aload_n 0, 1, 0, 0, 0), (.getfield 7, 3, 12, 1, 0), (.bipush 14, 2, 0, 0, 14), (.iload_n 2, 1, 0, 0, 0), (.iadd, 1, 0, 0, 0), (.iaload, 1, 0, 0, 0)] (by decide +kernel) (g := (sK S l0 == 15) && ((sK S ((sE S) l0 1) == 1 && ev_in ((14 : Int32) + l2) ((sL S) ((sE S) l0 1))) && (true))) (lv' := [some (.ref l0), some (.int l1), some (.int l2)]) (st' := [.int (D5 ((sE S) l0 1) (((14 : Int32) + l2)).toNatClampNeg), .int l2, .int (1 : Int32), .ref l0]) (D' := D5) (pc' := 67) rfl (ev_gk hl0 (ev_gi (ev_tyk hT hl0 rfl rfl) hg9 (rfl))) rfl ?_
    obtain ⟨v7, D7, hc7, hf⟩ := ev_bd_s hf
    refine ev_callV hX YX12_notes ml_RX12_347 (mX12_notes hT hl0 hc7) (vs := [.int (1 : Int32), .int l2, .int (D5 ((sE S) l0 1) (((14 : Int32) + l2)).toNatClampNeg)]) (st := []) (by decide) 12 hl0 rfl rfl rfl (by decide +kernel) hC ?_
    show F S D7 70 [some (.ref l0), some (.int l1), some (.int l2)] []
    obtain ⟨hg8, hf⟩ := ev_gd_s hf
    refine ev_blk hX lkok_RX12 [(.aload_n 0, 1, 0, 0, 0), (.getfield 7, 3, 12, 1, 0), (.bipush 14, 2, 0, 0, 14), (.iload_n 2, 1, 0, 0, 0), (.iadd, 1, 0, 0, 0), (.iconst 0, 1, 0, 0, 0), (.iastore, 1, 0, 0, 0)] (by decide +kernel) (g := (sK S l0 == 15) && ((sK S ((sE S) l0 1) == 1 && ev_in ((14 : Int32) + l2) ((sL S) ((sE S) l0 1))) && (true))) (lv' := [some (.ref l0), some (.int l1), some (.int l2)]) (st' := []) (D' := (ev_up D7 ((sE S) l0 1) (((14 : Int32) + l2)).toNatClampNeg (0 : Int32))) (pc' := 80) rfl (ev_gk hl0 (ev_gi (ev_tyk hT hl0 rfl rfl) hg8 (rfl))) rfl ?_
    exact ev_weak hX (ev_le_eq (ev_le_eq (ev_le_eq ev_le_nil))) (tX12_act_80 hR hT hC   hl0 hf)
set_option maxHeartbeats 4000000 in
set_option maxRecDepth 100000 in
theorem tX12_act_42 {S : ev_S} {fu : Nat} {r : Int32 × ev_D} {F : ev_Fr} (hR : ev_R RX12 cX12_act 3 1 0 0 false (some .boolean) S r F) (hT : ev_Ty S) (hC : sC S ≤ 0 ∧ sA S ≤ 0) {l0 : Nat} {l1 : Int32} {l2 : Int32} {s0 : Int32} {s1 : Int32} {D : ev_D} (hl0 : sK S l0 = 15) (hf : fX12_act_42 (sL S) (sE S) fu l0 l1 l2 s0 s1 D = some r) : F S D 42 [some (.ref l0), some (.int l1), some (.int l2)] [.int s1, .int s0] := by
  have hX := hR.X
  unfold fX12_act_42 at hf
  refine ev_ic_ne hX (off := 5) 47 (by decide +kernel) (by decide) (fun h10 => ?_) (fun h10 => ?_)
  · have hf := ev_nf h10 hf
    exact ev_weak hX (ev_le_eq (ev_le_eq (ev_le_eq ev_le_nil))) (tX12_act_47 hR hT hC   hl0 hf)
  · have hf := ev_it h10 hf
    refine ev_blk hX lkok_RX12 [(.iconst 0, 1, 0, 0, 0)] (by decide +kernel) (g := true) (lv' := [some (.ref l0), some (.int l1), some (.int l2)]) (st' := [.int (0 : Int32)]) (D' := D) (pc' := 46) rfl (rfl) rfl ?_
    exact ev_zret hR ev_sm.rf (Or.inl rfl) (Option.some.inj hf) hC (by decide +kernel)
set_option maxHeartbeats 4000000 in
set_option maxRecDepth 100000 in
theorem tX12_act {S : ev_S} {fu : Nat} {r : Int32 × ev_D} {F : ev_Fr} (hR : ev_R RX12 cX12_act 3 1 0 0 false (some .boolean) S r F) (hT : ev_Ty S) (hC : sC S ≤ 0 ∧ sA S ≤ 0) {l0 : Nat} {l1 : Int32} {l2 : Int32} {D : ev_D} (hl0 : sK S l0 = 15) (hf : fX12_act (sL S) (sE S) fu l0 l1 l2 D = some r) : F S D 0 [some (.ref l0), some (.int l1), some (.int l2)] [] := by
  have hX := hR.X
  unfold fX12_act at hf
  refine ev_blk hX lkok_RX12 [(.aload_n 0, 1, 0, 0, 0), (.iconst 0, 1, 0, 0, 0), (.putfield 128, 3, 12, 0, 0), (.aload_n 0, 1, 0, 0, 0), (.iload_n 1, 1, 0, 0, 0), (.iconst 0, 1, 0, 0, 0), (.iconst 2, 1, 0, 0, 2)] (by decide +kernel) (g := (sK S l0 == 15) && (true)) (lv' := [some (.ref l0), some (.int l1), some (.int l2)]) (st' := [.int (2 : Int32), .int (0 : Int32), .int l1, .ref l0]) (D' := (ev_up D l0 0 (0 : Int32))) (pc' := 9) rfl (ev_gk hl0 (rfl)) rfl ?_
  obtain ⟨v11, D11, hc11, hf⟩ := ev_bd_s hf
  refine ev_callV hX YX12_isIn ml_RX12_150 (mX12_isIn hT hl0 hc11) (vs := [.int l1, .int (0 : Int32), .int (2 : Int32)]) (st := []) (by decide) 12 hl0 rfl rfl rfl (by decide +kernel) hC ?_
  show F S D11 12 [some (.ref l0), some (.int l1), some (.int l2)] [.int v11]
  refine ev_if_eq hX (off := 33) 45 (by decide +kernel) (by decide) (fun h12 => ?_) (fun h12 => ?_)
  · have hf := ev_it h12 hf
    refine ev_blk hX lkok_RX12 [(.iconst 0, 1, 0, 0, 0)] (by decide +kernel) (g := true) (lv' := [some (.ref l0), some (.int l1), some (.int l2)]) (st' := [.int (0 : Int32)]) (D' := D11) (pc' := 46) rfl (rfl) rfl ?_
    exact ev_zret hR ev_sm.rf (Or.inl rfl) (Option.some.inj hf) hC (by decide +kernel)
  · have hf := ev_nf h12 hf
    refine ev_blk hX lkok_RX12 [(.aload_n 0, 1, 0, 0, 0), (.iload_n 2, 1, 0, 0, 0)] (by decide +kernel) (g := true) (lv' := [some (.ref l0), some (.int l1), some (.int l2)]) (st' := [.int l2, .ref l0]) (D' := D11) (pc' := 17) rfl (rfl) rfl ?_
    obtain ⟨v13, D13, hc13, hf⟩ := ev_bd_s hf
    refine ev_callV hX YX12_isRinger ml_RX12_154 (mX12_isRinger hT hl0 hc13) (vs := [.int l2]) (st := []) (by decide) 12 hl0 rfl rfl rfl (by decide +kernel) hC ?_
    show F S D13 20 [some (.ref l0), some (.int l1), some (.int l2)] [.int v13]
    refine ev_if_eq hX (off := 25) 45 (by decide +kernel) (by decide) (fun h14 => ?_) (fun h14 => ?_)
    · have hf := ev_it h14 hf
      refine ev_blk hX lkok_RX12 [(.iconst 0, 1, 0, 0, 0)] (by decide +kernel) (g := true) (lv' := [some (.ref l0), some (.int l1), some (.int l2)]) (st' := [.int (0 : Int32)]) (D' := D13) (pc' := 46) rfl (rfl) rfl ?_
      exact ev_zret hR ev_sm.rf (Or.inl rfl) (Option.some.inj hf) hC (by decide +kernel)
    · have hf := ev_nf h14 hf
      refine ev_blk hX lkok_RX12 [(.iload_n 1, 1, 0, 0, 0)] (by decide +kernel) (g := true) (lv' := [some (.ref l0), some (.int l1), some (.int l2)]) (st' := [.int l1]) (D' := D13) (pc' := 24) rfl (rfl) rfl ?_
      refine ev_if_le hX (off := 23) 47 (by decide +kernel) (by decide) (fun h15 => ?_) (fun h15 => ?_)
      · have hf := ev_it h15 hf
        exact ev_weak hX (ev_le_eq (ev_le_eq (ev_le_eq ev_le_nil))) (tX12_act_47 hR hT hC   hl0 hf)
      · have hf := ev_nf h15 hf
        refine ev_blk hX lkok_RX12 [(.aload_n 0, 1, 0, 0, 0), (.iload_n 2, 1, 0, 0, 0)] (by decide +kernel) (g := true) (lv' := [some (.ref l0), some (.int l1), some (.int l2)]) (st' := [.int l2, .ref l0]) (D' := D13) (pc' := 29) rfl (rfl) rfl ?_
        obtain ⟨v16, D16, hc16, hf⟩ := ev_bd_s hf
        refine ev_callV hX YX12_isAwake ml_RX12_143 (mX12_isAwake hT hl0 hc16) (vs := [.int l2]) (st := []) (by decide) 12 hl0 rfl rfl rfl (by decide +kernel) hC ?_
        show F S D16 32 [some (.ref l0), some (.int l1), some (.int l2)] [.int v16]
        refine ev_blk hX lkok_RX12 [(.iload_n 1, 1, 0, 0, 0), (.iconst 1, 1, 0, 0, 1)] (by decide +kernel) (g := true) (lv' := [some (.ref l0), some (.int l1), some (.int l2)]) (st' := [.int (1 : Int32), .int l1, .int v16]) (D' := D16) (pc' := 34) rfl (rfl) rfl ?_
        refine ev_ic_ne hX (off := 7) 41 (by decide +kernel) (by decide) (fun h17 => ?_) (fun h17 => ?_)
        · have hf := ev_nf h17 hf
          refine ev_blk hX lkok_RX12 [(.iconst 0, 1, 0, 0, 0)] (by decide +kernel) (g := true) (lv' := [some (.ref l0), some (.int l1), some (.int l2)]) (st' := [.int (0 : Int32), .int v16]) (D' := D16) (pc' := 42) rfl (rfl) rfl ?_
          exact ev_weak hX (ev_le_eq (ev_le_eq (ev_le_eq ev_le_nil))) (tX12_act_42 hR hT hC   hl0 hf)
        · have hf := ev_it h17 hf
          refine ev_blk hX lkok_RX12 [(.iconst 1, 1, 0, 0, 1)] (by decide +kernel) (g := true) (lv' := [some (.ref l0), some (.int l1), some (.int l2)]) (st' := [.int (1 : Int32), .int v16]) (D' := D16) (pc' := 38) rfl (rfl) rfl ?_
          refine ev_goto hX (off := 4) 42 (by decide +kernel) (by decide) ?_
          exact ev_weak hX (ev_le_eq (ev_le_eq (ev_le_eq ev_le_nil))) (tX12_act_42 hR hT hC   hl0 hf)
theorem mX12_act {S : ev_S} {fu : Nat} {r : Int32 × ev_D} (hT : ev_Ty S) {l0 : Nat} {l1 : Int32} {l2 : Int32} {D : ev_D} (hl0 : sK S l0 = 15) (hf : fX12_act (sL S) (sE S) fu l0 l1 l2 D = some r) : ev_M 1 0 0 yX12_act cX12_act 3 (some .boolean) [.ref l0, .int l1, .int l2] S D S r :=
  ev_met (ini := false) (plainFor_of_name (by decide)) (fun h => by cases h) rfl (Nat.le_of_ble_eq_true rfl) (fun F hR => tX12_act (S := ev_z S) hR hT ⟨Nat.le_refl 0, Nat.le_refl 0⟩ hl0 hf)
set_option maxHeartbeats 4000000 in
set_option maxRecDepth 100000 in
theorem tX12_draw {S : ev_S} {fu : Nat} {r : Int32 × ev_D} {F : ev_Fr} (hR : ev_R RX12 cX12_draw 2 0 0 0 false (some .int) S r F) (hT : ev_Ty S) (hC : sC S ≤ 0 ∧ sA S ≤ 0) {l0 : Nat} {l1 : Int32} {D : ev_D} (hl0 : sK S l0 = 15) (hf : fX12_draw (sL S) (sE S) fu l0 l1 D = some r) : F S D 0 [some (.ref l0), some (.int l1)] [] := by
  have hX := hR.X
  unfold fX12_draw at hf
  obtain ⟨hg1, hf⟩ := ev_gd_s hf
  obtain ⟨hg2, hf⟩ := ev_gd_s hf
  obtain ⟨hg3, hf⟩ := ev_gd_s hf
  obtain ⟨hg4, hf⟩ := ev_gd_s hf
  refine ev_blk hX lkok_RX12 [(.aload_n 0, 1, 0, 0, 0), (.getfield 7, 3, 12, 1, 0), (.iconst 1, 1, 0, 0, 1), (.ldc 138, 2, 0, 0, 1664525), (.aload_n 0, 1, 0, 0, 0), (.getfield 7, 3, 12, 1, 0), (.iconst 1, 1, 0, 0, 1), (.iaload, 1, 0, 0, 0), (.imul, 1, 0, 0, 0), (.ldc 139, 2, 0, 0, 1013904223), (.iadd, 1, 0, 0, 0), (.iastore, 1, 0, 0, 0), (.aload_n 0, 1, 0, 0, 0), (.getfield 7, 3, 12, 1, 0), (.iconst 1, 1, 0, 0, 1), (.iaload, 1, 0, 0, 0), (.bipush 8, 2, 0, 0, 8), (.iushr, 1, 0, 0, 0), (.iload_n 1, 1, 0, 0, 0), (.irem, 1, 0, 0, 0)] (by decide +kernel) (g := (sK S l0 == 15) && ((sK S l0 == 15) && ((sK S ((sE S) l0 1) == 1 && ev_in (1 : Int32) ((sL S) ((sE S) l0 1))) && ((sK S ((sE S) l0 1) == 1 && ev_in (1 : Int32) ((sL S) ((sE S) l0 1))) && ((sK S l0 == 15) && ((sK S ((sE S) l0 1) == 1 && ev_in (1 : Int32) ((sL S) ((sE S) l0 1))) && ((!(decide (l1 = 0))) && (true)))))))) (lv' := [some (.ref l0), some (.int l1)]) (st' := [.int (((((ev_up D ((sE S) l0 1) ((1 : Int32)).toNatClampNeg (((1664525 : Int32) * (D ((sE S) l0 1) ((1 : Int32)).toNatClampNeg)) + (1013904223 : Int32))) ((sE S) l0 1) ((1 : Int32)).toNatClampNeg)).toUInt32 >>> (((8 : Int32)).toUInt32 &&& Int32.toUInt32 31)).toInt32 - ((((ev_up D ((sE S) l0 1) ((1 : Int32)).toNatClampNeg (((1664525 : Int32) * (D ((sE S) l0 1) ((1 : Int32)).toNatClampNeg)) + (1013904223 : Int32))) ((sE S) l0 1) ((1 : Int32)).toNatClampNeg)).toUInt32 >>> (((8 : Int32)).toUInt32 &&& Int32.toUInt32 31)).toInt32 / l1 * l1)]) (D' := (ev_up D ((sE S) l0 1) ((1 : Int32)).toNatClampNeg (((1664525 : Int32) * (D ((sE S) l0 1) ((1 : Int32)).toNatClampNeg)) + (1013904223 : Int32)))) (pc' := 29) rfl (ev_gk hl0 (ev_gk hl0 (ev_gi (ev_tyk hT hl0 rfl rfl) hg1 (ev_gi (ev_tyk hT hl0 rfl rfl) hg2 (ev_gk hl0 (ev_gi (ev_tyk hT hl0 rfl rfl) hg3 (ev_g2 hg4 (rfl)))))))) rfl ?_
  exact ev_iret hR ev_sm.rf (Option.some.inj hf) hC (by decide +kernel)
theorem mX12_draw {S : ev_S} {fu : Nat} {r : Int32 × ev_D} (hT : ev_Ty S) {l0 : Nat} {l1 : Int32} {D : ev_D} (hl0 : sK S l0 = 15) (hf : fX12_draw (sL S) (sE S) fu l0 l1 D = some r) : ev_M 0 0 0 yX12_draw cX12_draw 2 (some .int) [.ref l0, .int l1] S D S r :=
  ev_met (ini := false) (plainFor_of_name (by decide)) (fun h => by cases h) rfl (Nat.le_of_ble_eq_true rfl) (fun F hR => tX12_draw (S := ev_z S) hR hT ⟨Nat.le_refl 0, Nat.le_refl 0⟩ hl0 hf)
set_option maxHeartbeats 4000000 in
set_option maxRecDepth 100000 in
theorem tX12_pullOf {S : ev_S} {fu : Nat} {r : Int32 × ev_D} {F : ev_Fr} (hR : ev_R RX12 cX12_pullOf 2 4 0 0 false (some .int) S r F) (hT : ev_Ty S) (hC : sC S ≤ 0 ∧ sA S ≤ 0) {l0 : Nat} {l1 : Int32} {D : ev_D} (hl0 : sK S l0 = 15) (hf : fX12_pullOf (sL S) (sE S) fu l0 l1 D = some r) : F S D 0 [some (.ref l0), some (.int l1)] [] := by
  have hX := hR.X
  unfold fX12_pullOf at hf
  refine ev_blk hX lkok_RX12 [(.aload_n 0, 1, 0, 0, 0), (.iload_n 1, 1, 0, 0, 0)] (by decide +kernel) (g := true) (lv' := [some (.ref l0), some (.int l1)]) (st' := [.int l1, .ref l0]) (D' := D) (pc' := 2) rfl (rfl) rfl ?_
  obtain ⟨v1, D1, hc1, hf⟩ := ev_bd_s hf
  refine ev_callV hX YX12_asks ml_RX12_335 (mX12_asks hT hl0 hc1) (vs := [.int l1]) (st := []) (by decide) 12 hl0 rfl rfl rfl (by decide +kernel) hC ?_
  show F S D1 5 [some (.ref l0), some (.int l1)] []
  obtain ⟨hg3, hf⟩ := ev_gd_s hf
  obtain ⟨hg4, hf⟩ := ev_gd_s hf
  refine ev_blk hX lkok_RX12 [(.aload_n 0, 1, 0, 0, 0), (.iconst 0, 1, 0, 0, 0), (.bipush 100, 2, 0, 0, 100), (.bipush 9, 2, 0, 0, 9), (.aload_n 0, 1, 0, 0, 0), (.getfield 7, 3, 12, 1, 0), (.bipush 14, 2, 0, 0, 14), (.iload_n 1, 1, 0, 0, 0), (.iadd, 1, 0, 0, 0), (.iaload, 1, 0, 0, 0), (.imul, 1, 0, 0, 0), (.iadd, 1, 0, 0, 0), (.iconst 5, 1, 0, 0, 5), (.aload_n 0, 1, 0, 0, 0), (.getfield 7, 3, 12, 1, 0), (.iconst 3, 1, 0, 0, 3), (.iaload, 1, 0, 0, 0), (.imul, 1, 0, 0, 0), (.iadd, 1, 0, 0, 0), (.sipush 1000, 3, 0, 0, 1000)] (by decide +kernel) (g := (sK S l0 == 15) && ((sK S ((sE S) l0 1) == 1 && ev_in ((14 : Int32) + l1) ((sL S) ((sE S) l0 1))) && ((sK S l0 == 15) && ((sK S ((sE S) l0 1) == 1 && ev_in (3 : Int32) ((sL S) ((sE S) l0 1))) && (true))))) (lv' := [some (.ref l0), some (.int l1)]) (st' := [.int (1000 : Int32), .int (((100 : Int32) + ((9 : Int32) * (D1 ((sE S) l0 1) (((14 : Int32) + l1)).toNatClampNeg))) + ((5 : Int32) * (D1 ((sE S) l0 1) ((3 : Int32)).toNatClampNeg))), .int (0 : Int32), .ref l0]) (D' := D1) (pc' := 34) rfl (ev_gk hl0 (ev_gi (ev_tyk hT hl0 rfl rfl) hg3 (ev_gk hl0 (ev_gi (ev_tyk hT hl0 rfl rfl) hg4 (rfl))))) rfl ?_
  obtain ⟨v2, D2, hc2, hf⟩ := ev_bd_s hf
  refine ev_callV hX YX12_lawTells ml_RX12_338 (mX12_lawTells hT hl0 hc2) (vs := [.int (0 : Int32), .int (((100 : Int32) + ((9 : Int32) * (D1 ((sE S) l0 1) (((14 : Int32) + l1)).toNatClampNeg))) + ((5 : Int32) * (D1 ((sE S) l0 1) ((3 : Int32)).toNatClampNeg))), .int (1000 : Int32)]) (st := []) (by decide) 12 hl0 rfl rfl rfl (by decide +kernel) hC ?_
  show F S D2 37 [some (.ref l0), some (.int l1)] [.int v2]
  exact ev_iret hR ev_sm.rf (Option.some.inj hf) hC (by decide +kernel)
theorem mX12_pullOf {S : ev_S} {fu : Nat} {r : Int32 × ev_D} (hT : ev_Ty S) {l0 : Nat} {l1 : Int32} {D : ev_D} (hl0 : sK S l0 = 15) (hf : fX12_pullOf (sL S) (sE S) fu l0 l1 D = some r) : ev_M 4 0 0 yX12_pullOf cX12_pullOf 2 (some .int) [.ref l0, .int l1] S D S r :=
  ev_met (ini := false) (plainFor_of_name (by decide)) (fun h => by cases h) rfl (Nat.le_of_ble_eq_true rfl) (fun F hR => tX12_pullOf (S := ev_z S) hR hT ⟨Nat.le_refl 0, Nat.le_refl 0⟩ hl0 hf)
set_option maxHeartbeats 4000000 in
set_option maxRecDepth 100000 in
theorem tX12_doesPull {S : ev_S} {fu : Nat} {r : Int32 × ev_D} {F : ev_Fr} (hR : ev_R RX12 cX12_doesPull 3 5 0 0 false (some .boolean) S r F) (hT : ev_Ty S) (hC : sC S ≤ 0 ∧ sA S ≤ 0) {l0 : Nat} {l1 : Int32} {D : ev_D} (hl0 : sK S l0 = 15) (hf : fX12_doesPull (sL S) (sE S) fu l0 l1 D = some r) : F S D 0 [some (.ref l0), some (.int l1), none] [] := by
  have hX := hR.X
  unfold fX12_doesPull at hf
  refine ev_blk hX lkok_RX12 [(.aload_n 0, 1, 0, 0, 0), (.iload_n 1, 1, 0, 0, 0)] (by decide +kernel) (g := true) (lv' := [some (.ref l0), some (.int l1), none]) (st' := [.int l1, .ref l0]) (D' := D) (pc' := 2) rfl (rfl) rfl ?_
  obtain ⟨v1, D1, hc1, hf⟩ := ev_bd_s hf
  refine ev_callV hX YX12_pullOf ml_RX12_360 (mX12_pullOf hT hl0 hc1) (vs := [.int l1]) (st := []) (by decide) 12 hl0 rfl rfl rfl (by decide +kernel) hC ?_
  show F S D1 5 [some (.ref l0), some (.int l1), none] [.int v1]
  refine ev_blk hX lkok_RX12 [(.istore_n 2, 1, 0, 0, 0), (.aload_n 0, 1, 0, 0, 0), (.getfield 134, 3, 12, 5, 0)] (by decide +kernel) (g := (sK S l0 == 15) && (true)) (lv' := [some (.ref l0), some (.int l1), some (.int v1)]) (st' := [.int (D1 l0 5)]) (D' := D1) (pc' := 10) rfl (ev_gk hl0 (rfl)) rfl ?_
  refine ev_if_eq hX (off := 20) 30 (by decide +kernel) (by decide) (fun h2 => ?_) (fun h2 => ?_)
  · have hf := ev_it h2 hf
    refine ev_blk hX lkok_RX12 [(.aload_n 0, 1, 0, 0, 0), (.sipush 1000, 3, 0, 0, 1000)] (by decide +kernel) (g := true) (lv' := [some (.ref l0), some (.int l1), some (.int v1)]) (st' := [.int (1000 : Int32), .ref l0]) (D' := D1) (pc' := 34) rfl (rfl) rfl ?_
    obtain ⟨v3, D3, hc3, hf⟩ := ev_bd_s hf
    refine ev_callV hX YX12_draw ml_RX12_363 (mX12_draw hT hl0 hc3) (vs := [.int (1000 : Int32)]) (st := []) (by decide) 12 hl0 rfl rfl rfl (by decide +kernel) hC ?_
    show F S D3 37 [some (.ref l0), some (.int l1), some (.int v1)] [.int v3]
    refine ev_blk hX lkok_RX12 [(.iload_n 2, 1, 0, 0, 0)] (by decide +kernel) (g := true) (lv' := [some (.ref l0), some (.int l1), some (.int v1)]) (st' := [.int v1, .int v3]) (D' := D3) (pc' := 38) rfl (rfl) rfl ?_
    refine ev_ic_ge hX (off := 7) 45 (by decide +kernel) (by decide) (fun h4 => ?_) (fun h4 => ?_)
    · have hf := ev_it h4 hf
      refine ev_blk hX lkok_RX12 [(.iconst 0, 1, 0, 0, 0)] (by decide +kernel) (g := true) (lv' := [some (.ref l0), some (.int l1), some (.int v1)]) (st' := [.int (0 : Int32)]) (D' := D3) (pc' := 46) rfl (rfl) rfl ?_
      exact ev_zret hR ev_sm.rf (Or.inl rfl) (Option.some.inj hf) hC (by decide +kernel)
    · have hf := ev_nf h4 hf
      refine ev_blk hX lkok_RX12 [(.iconst 1, 1, 0, 0, 1)] (by decide +kernel) (g := true) (lv' := [some (.ref l0), some (.int l1), some (.int v1)]) (st' := [.int (1 : Int32)]) (D' := D3) (pc' := 42) rfl (rfl) rfl ?_
      refine ev_goto hX (off := 4) 46 (by decide +kernel) (by decide) ?_
      exact ev_zret hR ev_sm.rf (Or.inr rfl) (Option.some.inj hf) hC (by decide +kernel)
  · have hf := ev_nf h2 hf
    refine ev_blk hX lkok_RX12 [(.iconst 2, 1, 0, 0, 2), (.iload_n 2, 1, 0, 0, 0), (.imul, 1, 0, 0, 0), (.sipush 1000, 3, 0, 0, 1000)] (by decide +kernel) (g := true) (lv' := [some (.ref l0), some (.int l1), some (.int v1)]) (st' := [.int (1000 : Int32), .int ((2 : Int32) * v1)]) (D' := D1) (pc' := 19) rfl (rfl) rfl ?_
    refine ev_ic_lt hX (off := 7) 26 (by decide +kernel) (by decide) (fun h5 => ?_) (fun h5 => ?_)
    · have hf := ev_it h5 hf
      refine ev_blk hX lkok_RX12 [(.iconst 0, 1, 0, 0, 0)] (by decide +kernel) (g := true) (lv' := [some (.ref l0), some (.int l1), some (.int v1)]) (st' := [.int (0 : Int32)]) (D' := D1) (pc' := 27) rfl (rfl) rfl ?_
      refine ev_goto hX (off := 19) 46 (by decide +kernel) (by decide) ?_
      exact ev_zret hR ev_sm.rf (Or.inl rfl) (Option.some.inj hf) hC (by decide +kernel)
    · have hf := ev_nf h5 hf
      refine ev_blk hX lkok_RX12 [(.iconst 1, 1, 0, 0, 1)] (by decide +kernel) (g := true) (lv' := [some (.ref l0), some (.int l1), some (.int v1)]) (st' := [.int (1 : Int32)]) (D' := D1) (pc' := 23) rfl (rfl) rfl ?_
      refine ev_goto hX (off := 23) 46 (by decide +kernel) (by decide) ?_
      exact ev_zret hR ev_sm.rf (Or.inr rfl) (Option.some.inj hf) hC (by decide +kernel)
theorem mX12_doesPull {S : ev_S} {fu : Nat} {r : Int32 × ev_D} (hT : ev_Ty S) {l0 : Nat} {l1 : Int32} {D : ev_D} (hl0 : sK S l0 = 15) (hf : fX12_doesPull (sL S) (sE S) fu l0 l1 D = some r) : ev_M 5 0 0 yX12_doesPull cX12_doesPull 3 (some .boolean) [.ref l0, .int l1] S D S r :=
  ev_met (ini := false) (plainFor_of_name (by decide)) (fun h => by cases h) rfl (Nat.le_of_ble_eq_true rfl) (fun F hR => tX12_doesPull (S := ev_z S) hR hT ⟨Nat.le_refl 0, Nat.le_refl 0⟩ hl0 hf)
set_option maxHeartbeats 4000000 in
set_option maxRecDepth 100000 in
theorem tX12_greater {S : ev_S} {fu : Nat} {r : Int32 × ev_D} {F : ev_Fr} (hR : ev_R RX12 cX12_greater 3 0 0 0 false (some .int) S r F) (hT : ev_Ty S) (hC : sC S ≤ 0 ∧ sA S ≤ 0) {l0 : Nat} {l1 : Int32} {l2 : Int32} {D : ev_D} (hl0 : sK S l0 = 15) (hf : fX12_greater (sL S) (sE S) fu l0 l1 l2 D = some r) : F S D 0 [some (.ref l0), some (.int l1), some (.int l2)] [] := by
  have hX := hR.X
  unfold fX12_greater at hf
  refine ev_blk hX lkok_RX12 [(.iload_n 1, 1, 0, 0, 0), (.iload_n 2, 1, 0, 0, 0)] (by decide +kernel) (g := true) (lv' := [some (.ref l0), some (.int l1), some (.int l2)]) (st' := [.int l2, .int l1]) (D' := D) (pc' := 2) rfl (rfl) rfl ?_
  refine ev_ic_le hX (off := 7) 9 (by decide +kernel) (by decide) (fun h1 => ?_) (fun h1 => ?_)
  · have hf := ev_it h1 hf
    refine ev_blk hX lkok_RX12 [(.iload_n 2, 1, 0, 0, 0)] (by decide +kernel) (g := true) (lv' := [some (.ref l0), some (.int l1), some (.int l2)]) (st' := [.int l2]) (D' := D) (pc' := 10) rfl (rfl) rfl ?_
    exact ev_iret hR ev_sm.rf (Option.some.inj hf) hC (by decide +kernel)
  · have hf := ev_nf h1 hf
    refine ev_blk hX lkok_RX12 [(.iload_n 1, 1, 0, 0, 0)] (by decide +kernel) (g := true) (lv' := [some (.ref l0), some (.int l1), some (.int l2)]) (st' := [.int l1]) (D' := D) (pc' := 6) rfl (rfl) rfl ?_
    refine ev_goto hX (off := 4) 10 (by decide +kernel) (by decide) ?_
    exact ev_iret hR ev_sm.rf (Option.some.inj hf) hC (by decide +kernel)
theorem mX12_greater {S : ev_S} {fu : Nat} {r : Int32 × ev_D} (hT : ev_Ty S) {l0 : Nat} {l1 : Int32} {l2 : Int32} {D : ev_D} (hl0 : sK S l0 = 15) (hf : fX12_greater (sL S) (sE S) fu l0 l1 l2 D = some r) : ev_M 0 0 0 yX12_greater cX12_greater 3 (some .int) [.ref l0, .int l1, .int l2] S D S r :=
  ev_met (ini := false) (plainFor_of_name (by decide)) (fun h => by cases h) rfl (Nat.le_of_ble_eq_true rfl) (fun F hR => tX12_greater (S := ev_z S) hR hT ⟨Nat.le_refl 0, Nat.le_refl 0⟩ hl0 hf)
set_option maxHeartbeats 4000000 in
set_option maxRecDepth 100000 in
theorem tX12_happens_70 {S : ev_S} {fu : Nat} {r : Int32 × ev_D} {F : ev_Fr} (hR : ev_R RX12 cX12_happens 3 1 0 0 false none S r F) (hT : ev_Ty S) (hC : sC S ≤ 0 ∧ sA S ≤ 0) {l0 : Nat} {l1 : Int32} {l2 : Int32} {D : ev_D} (hl0 : sK S l0 = 15) (hf : fX12_happens_70 (sL S) (sE S) fu l0 l1 l2 D = some r) : F S D 70 [some (.ref l0), some (.int l1), some (.int l2)] [] := by
  have hX := hR.X
  unfold fX12_happens_70 at hf
  refine ev_blk hX lkok_RX12 [(.iload_n 1, 1, 0, 0, 0), (.iconst 5, 1, 0, 0, 5)] (by decide +kernel) (g := true) (lv' := [some (.ref l0), some (.int l1), some (.int l2)]) (st' := [.int (5 : Int32), .int l1]) (D' := D) (pc' := 72) rfl (rfl) rfl ?_
  refine ev_ic_ne hX (off := 10) 82 (by decide +kernel) (by decide) (fun h1 => ?_) (fun h1 => ?_)
  · have hf := ev_nf h1 hf
    exact ev_vret hR ev_sm.rf (Option.some.inj hf) hC (by decide +kernel)
  · have hf := ev_it h1 hf
    obtain ⟨hg2, hf⟩ := ev_gd_s hf
    refine ev_blk hX lkok_RX12 [(.aload_n 0, 1, 0, 0, 0), (.getfield 7, 3, 12, 1, 0), (.iconst 4, 1, 0, 0, 4), (.iload_n 2, 1, 0, 0, 0), (.iastore, 1, 0, 0, 0)] (by decide +kernel) (g := (sK S l0 == 15) && ((sK S ((sE S) l0 1) == 1 && ev_in (4 : Int32) ((sL S) ((sE S) l0 1))) && (true))) (lv' := [some (.ref l0), some (.int l1), some (.int l2)]) (st' := []) (D' := (ev_up D ((sE S) l0 1) ((4 : Int32)).toNatClampNeg l2)) (pc' := 82) rfl (ev_gk hl0 (ev_gi (ev_tyk hT hl0 rfl rfl) hg2 (rfl))) rfl ?_
    exact ev_vret hR ev_sm.rf (Option.some.inj hf) hC (by decide +kernel)
set_option maxHeartbeats 4000000 in
set_option maxRecDepth 100000 in
theorem tX12_happens_58 {S : ev_S} {fu : Nat} {r : Int32 × ev_D} {F : ev_Fr} (hR : ev_R RX12 cX12_happens 3 1 0 0 false none S r F) (hT : ev_Ty S) (hC : sC S ≤ 0 ∧ sA S ≤ 0) {l0 : Nat} {l1 : Int32} {l2 : Int32} {D : ev_D} (hl0 : sK S l0 = 15) (hf : fX12_happens_58 (sL S) (sE S) fu l0 l1 l2 D = some r) : F S D 58 [some (.ref l0), some (.int l1), some (.int l2)] [] := by
  have hX := hR.X
  unfold fX12_happens_58 at hf
  refine ev_blk hX lkok_RX12 [(.iload_n 1, 1, 0, 0, 0), (.iconst 4, 1, 0, 0, 4)] (by decide +kernel) (g := true) (lv' := [some (.ref l0), some (.int l1), some (.int l2)]) (st' := [.int (4 : Int32), .int l1]) (D' := D) (pc' := 60) rfl (rfl) rfl ?_
  refine ev_ic_ne hX (off := 10) 70 (by decide +kernel) (by decide) (fun h3 => ?_) (fun h3 => ?_)
  · have hf := ev_nf h3 hf
    exact ev_weak hX (ev_le_eq (ev_le_eq (ev_le_eq ev_le_nil))) (tX12_happens_70 hR hT hC   hl0 hf)
  · have hf := ev_it h3 hf
    obtain ⟨hg4, hf⟩ := ev_gd_s hf
    refine ev_blk hX lkok_RX12 [(.aload_n 0, 1, 0, 0, 0), (.getfield 7, 3, 12, 1, 0), (.iconst 3, 1, 0, 0, 3), (.iload_n 2, 1, 0, 0, 0), (.iastore, 1, 0, 0, 0)] (by decide +kernel) (g := (sK S l0 == 15) && ((sK S ((sE S) l0 1) == 1 && ev_in (3 : Int32) ((sL S) ((sE S) l0 1))) && (true))) (lv' := [some (.ref l0), some (.int l1), some (.int l2)]) (st' := []) (D' := (ev_up D ((sE S) l0 1) ((3 : Int32)).toNatClampNeg l2)) (pc' := 70) rfl (ev_gk hl0 (ev_gi (ev_tyk hT hl0 rfl rfl) hg4 (rfl))) rfl ?_
    exact ev_weak hX (ev_le_eq (ev_le_eq (ev_le_eq ev_le_nil))) (tX12_happens_70 hR hT hC   hl0 hf)
set_option maxHeartbeats 4000000 in
set_option maxRecDepth 100000 in
theorem tX12_happens_39 {S : ev_S} {fu : Nat} {r : Int32 × ev_D} {F : ev_Fr} (hR : ev_R RX12 cX12_happens 3 1 0 0 false none S r F) (hT : ev_Ty S) (hC : sC S ≤ 0 ∧ sA S ≤ 0) {l0 : Nat} {l1 : Int32} {l2 : Int32} {D : ev_D} (hl0 : sK S l0 = 15) (hf : fX12_happens_39 (sL S) (sE S) fu l0 l1 l2 D = some r) : F S D 39 [some (.ref l0), some (.int l1), some (.int l2)] [] := by
  have hX := hR.X
  unfold fX12_happens_39 at hf
  obtain ⟨hg7, hf⟩ := ev_gd_s hf
  refine ev_blk hX lkok_RX12 [(.aload_n 0, 1, 0, 0, 0), (.getfield 7, 3, 12, 1, 0), (.iconst 3, 1, 0, 0, 3), (.aload_n 0, 1, 0, 0, 0), (.iconst 0, 1, 0, 0, 0), (.aload_n 0, 1, 0, 0, 0), (.getfield 7, 3, 12, 1, 0), (.iconst 3, 1, 0, 0, 3), (.iaload, 1, 0, 0, 0), (.iload_n 2, 1, 0, 0, 0), (.isub, 1, 0, 0, 0)] (by decide +kernel) (g := (sK S l0 == 15) && ((sK S l0 == 15) && ((sK S ((sE S) l0 1) == 1 && ev_in (3 : Int32) ((sL S) ((sE S) l0 1))) && (true)))) (lv' := [some (.ref l0), some (.int l1), some (.int l2)]) (st' := [.int ((D ((sE S) l0 1) ((3 : Int32)).toNatClampNeg) - l2), .int (0 : Int32), .ref l0, .int (3 : Int32), .ref ((sE S) l0 1)]) (D' := D) (pc' := 54) rfl (ev_gk hl0 (ev_gk hl0 (ev_gi (ev_tyk hT hl0 rfl rfl) hg7 (rfl)))) rfl ?_
  obtain ⟨v5, D5, hc5, hf⟩ := ev_bd_s hf
  refine ev_callV hX YX12_greater ml_RX12_357 (mX12_greater hT hl0 hc5) (vs := [.int (0 : Int32), .int ((D ((sE S) l0 1) ((3 : Int32)).toNatClampNeg) - l2)]) (st := [.int (3 : Int32), .ref ((sE S) l0 1)]) (by decide) 12 hl0 rfl rfl rfl (by decide +kernel) hC ?_
  show F S D5 57 [some (.ref l0), some (.int l1), some (.int l2)] [.int v5, .int (3 : Int32), .ref ((sE S) l0 1)]
  obtain ⟨hg6, hf⟩ := ev_gd_s hf
  refine ev_blk hX lkok_RX12 [(.iastore, 1, 0, 0, 0)] (by decide +kernel) (g := (sK S ((sE S) l0 1) == 1 && ev_in (3 : Int32) ((sL S) ((sE S) l0 1))) && (true)) (lv' := [some (.ref l0), some (.int l1), some (.int l2)]) (st' := []) (D' := (ev_up D5 ((sE S) l0 1) ((3 : Int32)).toNatClampNeg v5)) (pc' := 58) rfl (ev_gi (ev_tyk hT hl0 rfl rfl) hg6 (rfl)) rfl ?_
  exact ev_weak hX (ev_le_eq (ev_le_eq (ev_le_eq ev_le_nil))) (tX12_happens_58 hR hT hC   hl0 hf)
set_option maxHeartbeats 4000000 in
set_option maxRecDepth 100000 in
theorem tX12_happens_29 {S : ev_S} {fu : Nat} {r : Int32 × ev_D} {F : ev_Fr} (hR : ev_R RX12 cX12_happens 3 1 0 0 false none S r F) (hT : ev_Ty S) (hC : sC S ≤ 0 ∧ sA S ≤ 0) {l0 : Nat} {l1 : Int32} {l2 : Int32} {D : ev_D} (hl0 : sK S l0 = 15) (hf : fX12_happens_29 (sL S) (sE S) fu l0 l1 l2 D = some r) : F S D 29 [some (.ref l0), some (.int l1), some (.int l2)] [] := by
  have hX := hR.X
  unfold fX12_happens_29 at hf
  refine ev_blk hX lkok_RX12 [(.iload_n 1, 1, 0, 0, 0), (.iconst 1, 1, 0, 0, 1)] (by decide +kernel) (g := true) (lv' := [some (.ref l0), some (.int l1), some (.int l2)]) (st' := [.int (1 : Int32), .int l1]) (D' := D) (pc' := 31) rfl (rfl) rfl ?_
  refine ev_ic_eq hX (off := 8) 39 (by decide +kernel) (by decide) (fun h8 => ?_) (fun h8 => ?_)
  · have hf := ev_it h8 hf
    exact ev_weak hX (ev_le_eq (ev_le_eq (ev_le_eq ev_le_nil))) (tX12_happens_39 hR hT hC   hl0 hf)
  · have hf := ev_nf h8 hf
    refine ev_blk hX lkok_RX12 [(.iload_n 1, 1, 0, 0, 0), (.iconst 3, 1, 0, 0, 3)] (by decide +kernel) (g := true) (lv' := [some (.ref l0), some (.int l1), some (.int l2)]) (st' := [.int (3 : Int32), .int l1]) (D' := D) (pc' := 36) rfl (rfl) rfl ?_
    refine ev_ic_ne hX (off := 22) 58 (by decide +kernel) (by decide) (fun h9 => ?_) (fun h9 => ?_)
    · have hf := ev_nf h9 hf
      exact ev_weak hX (ev_le_eq (ev_le_eq (ev_le_eq ev_le_nil))) (tX12_happens_58 hR hT hC   hl0 hf)
    · have hf := ev_it h9 hf
      exact ev_weak hX (ev_le_eq (ev_le_eq (ev_le_eq ev_le_nil))) (tX12_happens_39 hR hT hC   hl0 hf)
set_option maxHeartbeats 4000000 in
set_option maxRecDepth 100000 in
theorem tX12_happens_9 {S : ev_S} {fu : Nat} {r : Int32 × ev_D} {F : ev_Fr} (hR : ev_R RX12 cX12_happens 3 1 0 0 false none S r F) (hT : ev_Ty S) (hC : sC S ≤ 0 ∧ sA S ≤ 0) {l0 : Nat} {l1 : Int32} {l2 : Int32} {D : ev_D} (hl0 : sK S l0 = 15) (hf : fX12_happens_9 (sL S) (sE S) fu l0 l1 l2 D = some r) : F S D 9 [some (.ref l0), some (.int l1), some (.int l2)] [] := by
  have hX := hR.X
  unfold fX12_happens_9 at hf
  obtain ⟨hg12, hf⟩ := ev_gd_s hf
  refine ev_blk hX lkok_RX12 [(.aload_n 0, 1, 0, 0, 0), (.getfield 7, 3, 12, 1, 0), (.iconst 3, 1, 0, 0, 3), (.aload_n 0, 1, 0, 0, 0), (.bipush 99, 2, 0, 0, 99), (.aload_n 0, 1, 0, 0, 0), (.getfield 7, 3, 12, 1, 0), (.iconst 3, 1, 0, 0, 3), (.iaload, 1, 0, 0, 0), (.iload_n 2, 1, 0, 0, 0), (.iadd, 1, 0, 0, 0)] (by decide +kernel) (g := (sK S l0 == 15) && ((sK S l0 == 15) && ((sK S ((sE S) l0 1) == 1 && ev_in (3 : Int32) ((sL S) ((sE S) l0 1))) && (true)))) (lv' := [some (.ref l0), some (.int l1), some (.int l2)]) (st' := [.int ((D ((sE S) l0 1) ((3 : Int32)).toNatClampNeg) + l2), .int (99 : Int32), .ref l0, .int (3 : Int32), .ref ((sE S) l0 1)]) (D' := D) (pc' := 25) rfl (ev_gk hl0 (ev_gk hl0 (ev_gi (ev_tyk hT hl0 rfl rfl) hg12 (rfl)))) rfl ?_
  obtain ⟨v10, D10, hc10, hf⟩ := ev_bd_s hf
  refine ev_callV hX YX12_lesser ml_RX12_344 (mX12_lesser hT hl0 hc10) (vs := [.int (99 : Int32), .int ((D ((sE S) l0 1) ((3 : Int32)).toNatClampNeg) + l2)]) (st := [.int (3 : Int32), .ref ((sE S) l0 1)]) (by decide) 12 hl0 rfl rfl rfl (by decide +kernel) hC ?_
  show F S D10 28 [some (.ref l0), some (.int l1), some (.int l2)] [.int v10, .int (3 : Int32), .ref ((sE S) l0 1)]
  obtain ⟨hg11, hf⟩ := ev_gd_s hf
  refine ev_blk hX lkok_RX12 [(.iastore, 1, 0, 0, 0)] (by decide +kernel) (g := (sK S ((sE S) l0 1) == 1 && ev_in (3 : Int32) ((sL S) ((sE S) l0 1))) && (true)) (lv' := [some (.ref l0), some (.int l1), some (.int l2)]) (st' := []) (D' := (ev_up D10 ((sE S) l0 1) ((3 : Int32)).toNatClampNeg v10)) (pc' := 29) rfl (ev_gi (ev_tyk hT hl0 rfl rfl) hg11 (rfl)) rfl ?_
  exact ev_weak hX (ev_le_eq (ev_le_eq (ev_le_eq ev_le_nil))) (tX12_happens_29 hR hT hC   hl0 hf)
set_option maxHeartbeats 4000000 in
set_option maxRecDepth 100000 in
theorem tX12_happens {S : ev_S} {fu : Nat} {r : Int32 × ev_D} {F : ev_Fr} (hR : ev_R RX12 cX12_happens 3 1 0 0 false none S r F) (hT : ev_Ty S) (hC : sC S ≤ 0 ∧ sA S ≤ 0) {l0 : Nat} {l1 : Int32} {l2 : Int32} {D : ev_D} (hl0 : sK S l0 = 15) (hf : fX12_happens (sL S) (sE S) fu l0 l1 l2 D = some r) : F S D 0 [some (.ref l0), some (.int l1), some (.int l2)] [] := by
  have hX := hR.X
  unfold fX12_happens at hf
  refine ev_blk hX lkok_RX12 [(.iload_n 1, 1, 0, 0, 0)] (by decide +kernel) (g := true) (lv' := [some (.ref l0), some (.int l1), some (.int l2)]) (st' := [.int l1]) (D' := D) (pc' := 1) rfl (rfl) rfl ?_
  refine ev_if_eq hX (off := 8) 9 (by decide +kernel) (by decide) (fun h13 => ?_) (fun h13 => ?_)
  · have hf := ev_it h13 hf
    exact ev_weak hX (ev_le_eq (ev_le_eq (ev_le_eq ev_le_nil))) (tX12_happens_9 hR hT hC   hl0 hf)
  · have hf := ev_nf h13 hf
    refine ev_blk hX lkok_RX12 [(.iload_n 1, 1, 0, 0, 0), (.iconst 2, 1, 0, 0, 2)] (by decide +kernel) (g := true) (lv' := [some (.ref l0), some (.int l1), some (.int l2)]) (st' := [.int (2 : Int32), .int l1]) (D' := D) (pc' := 6) rfl (rfl) rfl ?_
    refine ev_ic_ne hX (off := 23) 29 (by decide +kernel) (by decide) (fun h14 => ?_) (fun h14 => ?_)
    · have hf := ev_nf h14 hf
      exact ev_weak hX (ev_le_eq (ev_le_eq (ev_le_eq ev_le_nil))) (tX12_happens_29 hR hT hC   hl0 hf)
    · have hf := ev_it h14 hf
      exact ev_weak hX (ev_le_eq (ev_le_eq (ev_le_eq ev_le_nil))) (tX12_happens_9 hR hT hC   hl0 hf)
theorem mX12_happens {S : ev_S} {fu : Nat} {r : Int32 × ev_D} (hT : ev_Ty S) {l0 : Nat} {l1 : Int32} {l2 : Int32} {D : ev_D} (hl0 : sK S l0 = 15) (hf : fX12_happens (sL S) (sE S) fu l0 l1 l2 D = some r) : ev_M 1 0 0 yX12_happens cX12_happens 3 none [.ref l0, .int l1, .int l2] S D S r :=
  ev_met (ini := false) (plainFor_of_name (by decide)) (fun h => by cases h) rfl (Nat.le_of_ble_eq_true rfl) (fun F hR => tX12_happens (S := ev_z S) hR hT ⟨Nat.le_refl 0, Nat.le_refl 0⟩ hl0 hf)
set_option maxHeartbeats 4000000 in
set_option maxRecDepth 100000 in
theorem tX12_lostNow {S : ev_S} {fu : Nat} {r : Int32 × ev_D} {F : ev_Fr} (hR : ev_R RX12 cX12_lostNow 1 4 0 0 false (some .int) S r F) (hT : ev_Ty S) (hC : sC S ≤ 0 ∧ sA S ≤ 0) {l0 : Nat} {D : ev_D} (hl0 : sK S l0 = 15) (hf : fX12_lostNow (sL S) (sE S) fu l0 D = some r) : F S D 0 [some (.ref l0)] [] := by
  have hX := hR.X
  unfold fX12_lostNow at hf
  refine ev_blk hX lkok_RX12 [(.aload_n 0, 1, 0, 0, 0)] (by decide +kernel) (g := true) (lv' := [some (.ref l0)]) (st' := [.ref l0]) (D' := D) (pc' := 1) rfl (rfl) rfl ?_
  obtain ⟨v1, D1, hc1, hf⟩ := ev_bd_s hf
  refine ev_callV hX YX12_asksTower ml_RX12_317 (mX12_asksTower hT hl0 hc1) (vs := []) (st := []) (by decide) 12 hl0 rfl rfl rfl (by decide +kernel) hC ?_
  show F S D1 4 [some (.ref l0)] []
  obtain ⟨hg3, hf⟩ := ev_gd_s hf
  refine ev_blk hX lkok_RX12 [(.aload_n 0, 1, 0, 0, 0), (.iconst 2, 1, 0, 0, 2), (.aload_n 0, 1, 0, 0, 0), (.getfield 7, 3, 12, 1, 0), (.iconst 5, 1, 0, 0, 5), (.iaload, 1, 0, 0, 0), (.iconst 4, 1, 0, 0, 4), (.idiv, 1, 0, 0, 0), (.sipush 9999, 3, 0, 0, 9999)] (by decide +kernel) (g := (sK S l0 == 15) && ((sK S ((sE S) l0 1) == 1 && ev_in (5 : Int32) ((sL S) ((sE S) l0 1))) && ((!(decide ((4 : Int32) = 0))) && (true)))) (lv' := [some (.ref l0)]) (st' := [.int (9999 : Int32), .int ((D1 ((sE S) l0 1) ((5 : Int32)).toNatClampNeg) / (4 : Int32)), .int (2 : Int32), .ref l0]) (D' := D1) (pc' := 17) rfl (ev_gk hl0 (ev_gi (ev_tyk hT hl0 rfl rfl) hg3 (ev_g2 rfl (rfl)))) rfl ?_
  obtain ⟨v2, D2, hc2, hf⟩ := ev_bd_s hf
  refine ev_callV hX YX12_lawTells ml_RX12_338 (mX12_lawTells hT hl0 hc2) (vs := [.int (2 : Int32), .int ((D1 ((sE S) l0 1) ((5 : Int32)).toNatClampNeg) / (4 : Int32)), .int (9999 : Int32)]) (st := []) (by decide) 12 hl0 rfl rfl rfl (by decide +kernel) hC ?_
  show F S D2 20 [some (.ref l0)] [.int v2]
  exact ev_iret hR ev_sm.rf (Option.some.inj hf) hC (by decide +kernel)
theorem mX12_lostNow {S : ev_S} {fu : Nat} {r : Int32 × ev_D} (hT : ev_Ty S) {l0 : Nat} {D : ev_D} (hl0 : sK S l0 = 15) (hf : fX12_lostNow (sL S) (sE S) fu l0 D = some r) : ev_M 4 0 0 yX12_lostNow cX12_lostNow 1 (some .int) [.ref l0] S D S r :=
  ev_met (ini := false) (plainFor_of_name (by decide)) (fun h => by cases h) rfl (Nat.le_of_ble_eq_true rfl) (fun F hR => tX12_lostNow (S := ev_z S) hR hT ⟨Nat.le_refl 0, Nat.le_refl 0⟩ hl0 hf)
set_option maxHeartbeats 4000000 in
set_option maxRecDepth 100000 in
theorem tX12_rests {S : ev_S} {fu : Nat} {r : Int32 × ev_D} {F : ev_Fr} (hR : ev_R RX12 cX12_rests 2 1 0 0 false none S r F) (hT : ev_Ty S) (hC : sC S ≤ 0 ∧ sA S ≤ 0) {l0 : Nat} {l1 : Int32} {D : ev_D} (hl0 : sK S l0 = 15) (hf : fX12_rests (sL S) (sE S) fu l0 l1 D = some r) : F S D 0 [some (.ref l0), some (.int l1)] [] := by
  have hX := hR.X
  unfold fX12_rests at hf
  obtain ⟨hg12, hf⟩ := ev_gd_s hf
  refine ev_blk hX lkok_RX12 [(.aload_n 0, 1, 0, 0, 0), (.getfield 7, 3, 12, 1, 0), (.bipush 14, 2, 0, 0, 14), (.iload_n 1, 1, 0, 0, 0), (.iadd, 1, 0, 0, 0), (.aload_n 0, 1, 0, 0, 0), (.bipush 99, 2, 0, 0, 99), (.aload_n 0, 1, 0, 0, 0), (.getfield 7, 3, 12, 1, 0), (.bipush 14, 2, 0, 0, 14), (.iload_n 1, 1, 0, 0, 0), (.iadd, 1, 0, 0, 0), (.iaload, 1, 0, 0, 0), (.iconst 1, 1, 0, 0, 1), (.iadd, 1, 0, 0, 0)] (by decide +kernel) (g := (sK S l0 == 15) && ((sK S l0 == 15) && ((sK S ((sE S) l0 1) == 1 && ev_in ((14 : Int32) + l1) ((sL S) ((sE S) l0 1))) && (true)))) (lv' := [some (.ref l0), some (.int l1)]) (st' := [.int ((D ((sE S) l0 1) (((14 : Int32) + l1)).toNatClampNeg) + (1 : Int32)), .int (99 : Int32), .ref l0, .int ((14 : Int32) + l1), .ref ((sE S) l0 1)]) (D' := D) (pc' := 22) rfl (ev_gk hl0 (ev_gk hl0 (ev_gi (ev_tyk hT hl0 rfl rfl) hg12 (rfl)))) rfl ?_
  obtain ⟨v1, D1, hc1, hf⟩ := ev_bd_s hf
  refine ev_callV hX YX12_lesser ml_RX12_344 (mX12_lesser hT hl0 hc1) (vs := [.int (99 : Int32), .int ((D ((sE S) l0 1) (((14 : Int32) + l1)).toNatClampNeg) + (1 : Int32))]) (st := [.int ((14 : Int32) + l1), .ref ((sE S) l0 1)]) (by decide) 12 hl0 rfl rfl rfl (by decide +kernel) hC ?_
  show F S D1 25 [some (.ref l0), some (.int l1)] [.int v1, .int ((14 : Int32) + l1), .ref ((sE S) l0 1)]
  obtain ⟨hg11, hf⟩ := ev_gd_s hf
  refine ev_blk hX lkok_RX12 [(.iastore, 1, 0, 0, 0), (.aload_n 0, 1, 0, 0, 0), (.iload_n 1, 1, 0, 0, 0)] (by decide +kernel) (g := (sK S ((sE S) l0 1) == 1 && ev_in ((14 : Int32) + l1) ((sL S) ((sE S) l0 1))) && (true)) (lv' := [some (.ref l0), some (.int l1)]) (st' := [.int l1, .ref l0]) (D' := (ev_up D1 ((sE S) l0 1) (((14 : Int32) + l1)).toNatClampNeg v1)) (pc' := 28) rfl (ev_gi (ev_tyk hT hl0 rfl rfl) hg11 (rfl)) rfl ?_
  obtain ⟨v2, D2, hc2, hf⟩ := ev_bd_s hf
  refine ev_callV hX YX12_isAwake ml_RX12_143 (mX12_isAwake hT hl0 hc2) (vs := [.int l1]) (st := []) (by decide) 12 hl0 rfl rfl rfl (by decide +kernel) hC ?_
  show F S D2 31 [some (.ref l0), some (.int l1)] [.int v2]
  refine ev_if_eq hX (off := 4) 35 (by decide +kernel) (by decide) (fun h3 => ?_) (fun h3 => ?_)
  · have hf := ev_it h3 hf
    obtain ⟨hg10, hf⟩ := ev_gd_s hf
    refine ev_blk hX lkok_RX12 [(.aload_n 0, 1, 0, 0, 0), (.getfield 7, 3, 12, 1, 0), (.bipush 24, 2, 0, 0, 24), (.iload_n 1, 1, 0, 0, 0), (.iadd, 1, 0, 0, 0), (.aload_n 0, 1, 0, 0, 0), (.iconst 0, 1, 0, 0, 0), (.aload_n 0, 1, 0, 0, 0), (.getfield 7, 3, 12, 1, 0), (.bipush 24, 2, 0, 0, 24), (.iload_n 1, 1, 0, 0, 0), (.iadd, 1, 0, 0, 0), (.iaload, 1, 0, 0, 0), (.bipush 9, 2, 0, 0, 9), (.isub, 1, 0, 0, 0)] (by decide +kernel) (g := (sK S l0 == 15) && ((sK S l0 == 15) && ((sK S ((sE S) l0 1) == 1 && ev_in ((24 : Int32) + l1) ((sL S) ((sE S) l0 1))) && (true)))) (lv' := [some (.ref l0), some (.int l1)]) (st' := [.int ((D2 ((sE S) l0 1) (((24 : Int32) + l1)).toNatClampNeg) - (9 : Int32)), .int (0 : Int32), .ref l0, .int ((24 : Int32) + l1), .ref ((sE S) l0 1)]) (D' := D2) (pc' := 57) rfl (ev_gk hl0 (ev_gk hl0 (ev_gi (ev_tyk hT hl0 rfl rfl) hg10 (rfl)))) rfl ?_
    obtain ⟨v4, D4, hc4, hf⟩ := ev_bd_s hf
    refine ev_callV hX YX12_greater ml_RX12_357 (mX12_greater hT hl0 hc4) (vs := [.int (0 : Int32), .int ((D2 ((sE S) l0 1) (((24 : Int32) + l1)).toNatClampNeg) - (9 : Int32))]) (st := [.int ((24 : Int32) + l1), .ref ((sE S) l0 1)]) (by decide) 12 hl0 rfl rfl rfl (by decide +kernel) hC ?_
    show F S D4 60 [some (.ref l0), some (.int l1)] [.int v4, .int ((24 : Int32) + l1), .ref ((sE S) l0 1)]
    obtain ⟨hg8, hf⟩ := ev_gd_s hf
    obtain ⟨hg9, hf⟩ := ev_gd_s hf
    refine ev_blk hX lkok_RX12 [(.iastore, 1, 0, 0, 0), (.aload_n 0, 1, 0, 0, 0), (.getfield 7, 3, 12, 1, 0), (.bipush 24, 2, 0, 0, 24), (.iload_n 1, 1, 0, 0, 0), (.iadd, 1, 0, 0, 0), (.iaload, 1, 0, 0, 0)] (by decide +kernel) (g := (sK S ((sE S) l0 1) == 1 && ev_in ((24 : Int32) + l1) ((sL S) ((sE S) l0 1))) && ((sK S l0 == 15) && ((sK S ((sE S) l0 1) == 1 && ev_in ((24 : Int32) + l1) ((sL S) ((sE S) l0 1))) && (true)))) (lv' := [some (.ref l0), some (.int l1)]) (st' := [.int ((ev_up D4 ((sE S) l0 1) (((24 : Int32) + l1)).toNatClampNeg v4) ((sE S) l0 1) (((24 : Int32) + l1)).toNatClampNeg)]) (D' := (ev_up D4 ((sE S) l0 1) (((24 : Int32) + l1)).toNatClampNeg v4)) (pc' := 70) rfl (ev_gi (ev_tyk hT hl0 rfl rfl) hg8 (ev_gk hl0 (ev_gi (ev_tyk hT hl0 rfl rfl) hg9 (rfl)))) rfl ?_
    refine ev_if_le hX (off := 4) 74 (by decide +kernel) (by decide) (fun h5 => ?_) (fun h5 => ?_)
    · have hf := ev_it h5 hf
      obtain ⟨hg7, hf⟩ := ev_gd_s hf
      refine ev_blk hX lkok_RX12 [(.aload_n 0, 1, 0, 0, 0), (.getfield 7, 3, 12, 1, 0), (.bipush 34, 2, 0, 0, 34), (.iload_n 1, 1, 0, 0, 0), (.iadd, 1, 0, 0, 0), (.iconst 0, 1, 0, 0, 0), (.iastore, 1, 0, 0, 0), (.aload_n 0, 1, 0, 0, 0), (.iconst 3, 1, 0, 0, 3), (.iload_n 1, 1, 0, 0, 0), (.iconst 0, 1, 0, 0, 0)] (by decide +kernel) (g := (sK S l0 == 15) && ((sK S ((sE S) l0 1) == 1 && ev_in ((34 : Int32) + l1) ((sL S) ((sE S) l0 1))) && (true))) (lv' := [some (.ref l0), some (.int l1)]) (st' := [.int (0 : Int32), .int l1, .int (3 : Int32), .ref l0]) (D' := (ev_up (ev_up D4 ((sE S) l0 1) (((24 : Int32) + l1)).toNatClampNeg v4) ((sE S) l0 1) (((34 : Int32) + l1)).toNatClampNeg (0 : Int32))) (pc' := 88) rfl (ev_gk hl0 (ev_gi (ev_tyk hT hl0 rfl rfl) hg7 (rfl))) rfl ?_
      obtain ⟨v6, D6, hc6, hf⟩ := ev_bd_s hf
      refine ev_callV hX YX12_notes ml_RX12_347 (mX12_notes hT hl0 hc6) (vs := [.int (3 : Int32), .int l1, .int (0 : Int32)]) (st := []) (by decide) 12 hl0 rfl rfl rfl (by decide +kernel) hC ?_
      show F S D6 91 [some (.ref l0), some (.int l1)] []
      exact ev_vret hR ev_sm.rf (Option.some.inj hf) hC (by decide +kernel)
    · have hf := ev_nf h5 hf
      exact ev_vret hR ev_sm.rf (Option.some.inj hf) hC (by decide +kernel)
  · have hf := ev_nf h3 hf
    exact ev_vret hR ev_sm.rf (Option.some.inj hf) hC (by decide +kernel)
theorem mX12_rests {S : ev_S} {fu : Nat} {r : Int32 × ev_D} (hT : ev_Ty S) {l0 : Nat} {l1 : Int32} {D : ev_D} (hl0 : sK S l0 = 15) (hf : fX12_rests (sL S) (sE S) fu l0 l1 D = some r) : ev_M 1 0 0 yX12_rests cX12_rests 2 none [.ref l0, .int l1] S D S r :=
  ev_met (ini := false) (plainFor_of_name (by decide)) (fun h => by cases h) rfl (Nat.le_of_ble_eq_true rfl) (fun F hR => tX12_rests (S := ev_z S) hR hT ⟨Nat.le_refl 0, Nat.le_refl 0⟩ hl0 hf)
set_option maxHeartbeats 4000000 in
set_option maxRecDepth 100000 in
theorem tX12_goesBy_211 {S : ev_S} {fu : Nat} {r : Int32 × ev_D} {F : ev_Fr} (hR : ev_R RX12 cX12_goesBy 3 6 0 0 false (some .int) S r F) (hT : ev_Ty S) (hC : sC S ≤ 0 ∧ sA S ≤ 0) {l1 : Int32} {D : ev_D}  (hf : fX12_goesBy_211 (sL S) (sE S) fu l1 D = some r) : F S D 211 [none, some (.int l1), none] [] := by
  have hX := hR.X
  unfold fX12_goesBy_211 at hf
  refine ev_blk hX lkok_RX12 [(.iload_n 1, 1, 0, 0, 0)] (by decide +kernel) (g := true) (lv' := [none, some (.int l1), none]) (st' := [.int l1]) (D' := D) (pc' := 212) rfl (rfl) rfl ?_
  exact ev_iret hR ev_sm.rf (Option.some.inj hf) hC (by decide +kernel)
set_option maxHeartbeats 4000000 in
set_option maxRecDepth 100000 in
theorem tX12_goesBy_156 {S : ev_S} {fu : Nat} {r : Int32 × ev_D} {F : ev_Fr} (hR : ev_R RX12 cX12_goesBy 3 6 0 0 false (some .int) S r F) (hT : ev_Ty S) (hC : sC S ≤ 0 ∧ sA S ≤ 0) : ∀ (n : Nat) (l0 : Nat) (l1 : Int32) (l2 : Int32) (D : ev_D), sK S l0 = 15 → fX12_goesBy_156 (sL S) (sE S) fu n l0 l1 l2 D = some r → F S D 156 [some (.ref l0), some (.int l1), some (.int l2)] [] := by
  have hX := hR.X
  intro n
  induction n with
  | zero =>
    intro l0 l1 l2 D hl0 hf
    rw [fX12_goesBy_156] at hf
    cases hf
  | succ n ih =>
    intro l0 l1 l2 D hl0 hf
    rw [fX12_goesBy_156] at hf
    refine ev_blk hX lkok_RX12 [(.iload_n 2, 1, 0, 0, 0), (.aload_n 0, 1, 0, 0, 0), (.getfield 140, 3, 12, 7, 0)] (by decide +kernel) (g := (sK S l0 == 15) && (true)) (lv' := [some (.ref l0), some (.int l1), some (.int l2)]) (st' := [.int (D l0 7), .int l2]) (D' := D) (pc' := 161) rfl (ev_gk hl0 (rfl)) rfl ?_
    refine ev_ic_ge hX (off := 14) 175 (by decide +kernel) (by decide) (fun h1 => ?_) (fun h1 => ?_)
    · have hf := ev_it h1 hf
      obtain ⟨hg2, hf⟩ := ev_gd_s hf
      obtain ⟨hg3, hf⟩ := ev_gd_s hf
      obtain ⟨hg4, hf⟩ := ev_gd_s hf
      obtain ⟨hg5, hf⟩ := ev_gd_s hf
      obtain ⟨hg6, hf⟩ := ev_gd_s hf
      refine ev_blk hX lkok_RX12 [(.aload_n 0, 1, 0, 0, 0), (.getfield 7, 3, 12, 1, 0), (.iconst 3, 1, 0, 0, 3), (.aload_n 0, 1, 0, 0, 0), (.getfield 7, 3, 12, 1, 0), (.iconst 3, 1, 0, 0, 3), (.iaload, 1, 0, 0, 0), (.aload_n 0, 1, 0, 0, 0), (.getfield 7, 3, 12, 1, 0), (.iconst 3, 1, 0, 0, 3), (.iaload, 1, 0, 0, 0), (.bipush 10, 2, 0, 0, 10), (.idiv, 1, 0, 0, 0), (.isub, 1, 0, 0, 0), (.iastore, 1, 0, 0, 0), (.aload_n 0, 1, 0, 0, 0), (.getfield 7, 3, 12, 1, 0), (.iconst 0, 1, 0, 0, 0), (.aload_n 0, 1, 0, 0, 0), (.getfield 7, 3, 12, 1, 0), (.iconst 0, 1, 0, 0, 0), (.iaload, 1, 0, 0, 0), (.iconst 1, 1, 0, 0, 1), (.iadd, 1, 0, 0, 0), (.iastore, 1, 0, 0, 0)] (by decide +kernel) (g := (sK S l0 == 15) && ((sK S l0 == 15) && ((sK S ((sE S) l0 1) == 1 && ev_in (3 : Int32) ((sL S) ((sE S) l0 1))) && ((sK S l0 == 15) && ((sK S ((sE S) l0 1) == 1 && ev_in (3 : Int32) ((sL S) ((sE S) l0 1))) && ((!(decide ((10 : Int32) = 0))) && ((sK S ((sE S) l0 1) == 1 && ev_in (3 : Int32) ((sL S) ((sE S) l0 1))) && ((sK S l0 == 15) && ((sK S l0 == 15) && ((sK S ((sE S) l0 1) == 1 && ev_in (0 : Int32) ((sL S) ((sE S) l0 1))) && ((sK S ((sE S) l0 1) == 1 && ev_in (0 : Int32) ((sL S) ((sE S) l0 1))) && (true)))))))))))) (lv' := [some (.ref l0), some (.int l1), some (.int l2)]) (st' := []) (D' := (ev_up (ev_up D ((sE S) l0 1) ((3 : Int32)).toNatClampNeg ((D ((sE S) l0 1) ((3 : Int32)).toNatClampNeg) - ((D ((sE S) l0 1) ((3 : Int32)).toNatClampNeg) / (10 : Int32)))) ((sE S) l0 1) ((0 : Int32)).toNatClampNeg (((ev_up D ((sE S) l0 1) ((3 : Int32)).toNatClampNeg ((D ((sE S) l0 1) ((3 : Int32)).toNatClampNeg) - ((D ((sE S) l0 1) ((3 : Int32)).toNatClampNeg) / (10 : Int32)))) ((sE S) l0 1) ((0 : Int32)).toNatClampNeg) + (1 : Int32)))) (pc' := 211) rfl (ev_gk hl0 (ev_gk hl0 (ev_gi (ev_tyk hT hl0 rfl rfl) hg2 (ev_gk hl0 (ev_gi (ev_tyk hT hl0 rfl rfl) hg3 (ev_g2 rfl (ev_gi (ev_tyk hT hl0 rfl rfl) hg4 (ev_gk hl0 (ev_gk hl0 (ev_gi (ev_tyk hT hl0 rfl rfl) hg5 (ev_gi (ev_tyk hT hl0 rfl rfl) hg6 (rfl)))))))))))) rfl ?_
      exact ev_weak hX (ev_le_no (ev_le_eq (ev_le_no ev_le_nil))) (tX12_goesBy_211 hR hT hC    hf)
    · have hf := ev_nf h1 hf
      refine ev_blk hX lkok_RX12 [(.aload_n 0, 1, 0, 0, 0), (.iload_n 2, 1, 0, 0, 0)] (by decide +kernel) (g := true) (lv' := [some (.ref l0), some (.int l1), some (.int l2)]) (st' := [.int l2, .ref l0]) (D' := D) (pc' := 166) rfl (rfl) rfl ?_
      obtain ⟨v7, D7, hc7, hf⟩ := ev_bd_s hf
      refine ev_callV hX YX12_rests ml_RX12_375 (mX12_rests hT hl0 hc7) (vs := [.int l2]) (st := []) (by decide) 12 hl0 rfl rfl rfl (by decide +kernel) hC ?_
      show F S D7 169 [some (.ref l0), some (.int l1), some (.int l2)] []
      refine ev_blk hX lkok_RX12 [(.iinc 2 1, 3, 0, 0, 1)] (by decide +kernel) (g := true) (lv' := [some (.ref l0), some (.int l1), some (.int (l2 + (1 : Int32)))]) (st' := []) (D' := D7) (pc' := 172) rfl (rfl) rfl ?_
      refine ev_goto hX (off := (-16)) 156 (by decide +kernel) (by decide) ?_
      exact ev_weak hX (ev_le_eq (ev_le_eq (ev_le_eq ev_le_nil))) (ih _ _ _ _ hl0 hf)
set_option maxHeartbeats 4000000 in
set_option maxRecDepth 100000 in
theorem tX12_goesBy_67 {S : ev_S} {fu : Nat} {r : Int32 × ev_D} {F : ev_Fr} (hR : ev_R RX12 cX12_goesBy 3 6 0 0 false (some .int) S r F) (hT : ev_Ty S) (hC : sC S ≤ 0 ∧ sA S ≤ 0) : ∀ (n : Nat) (l0 : Nat) (l1 : Int32) (D : ev_D), sK S l0 = 15 → fX12_goesBy_67 (sL S) (sE S) fu n l0 l1 D = some r → F S D 67 [some (.ref l0), some (.int l1), none] [] := by
  have hX := hR.X
  intro n
  induction n with
  | zero =>
    intro l0 l1 D hl0 hf
    rw [fX12_goesBy_67] at hf
    cases hf
  | succ n ih =>
    intro l0 l1 D hl0 hf
    rw [fX12_goesBy_67] at hf
    refine ev_blk hX lkok_RX12 [(.iload_n 1, 1, 0, 0, 0), (.aload_n 0, 1, 0, 0, 0), (.getfield 140, 3, 12, 7, 0)] (by decide +kernel) (g := (sK S l0 == 15) && (true)) (lv' := [some (.ref l0), some (.int l1), none]) (st' := [.int (D l0 7), .int l1]) (D' := D) (pc' := 72) rfl (ev_gk hl0 (rfl)) rfl ?_
    refine ev_ic_ge hX (off := 46) 118 (by decide +kernel) (by decide) (fun h8 => ?_) (fun h8 => ?_)
    · have hf := ev_it h8 hf
      refine ev_blk hX lkok_RX12 [(.aload_n 0, 1, 0, 0, 0), (.aload_n 0, 1, 0, 0, 0), (.getfield 323, 3, 12, 43, 0)] (by decide +kernel) (g := (sK S l0 == 15) && (true)) (lv' := [some (.ref l0), some (.int l1), none]) (st' := [.int (D l0 43), .ref l0]) (D' := D) (pc' := 123) rfl (ev_gk hl0 (rfl)) rfl ?_
      obtain ⟨v9, D9, hc9, hf⟩ := ev_bd_s hf
      refine ev_callV hX YX12_onesOf ml_RX12_326 (mX12_onesOf hT hl0 hc9) (vs := [.int (D l0 43)]) (st := []) (by decide) 12 hl0 rfl rfl rfl (by decide +kernel) hC ?_
      show F S D9 126 [some (.ref l0), some (.int l1), none] [.int v9]
      obtain ⟨hg13, hf⟩ := ev_gd_s hf
      refine ev_blk hX lkok_RX12 [(.istore_n 1, 1, 0, 0, 0), (.aload_n 0, 1, 0, 0, 0), (.iconst 0, 1, 0, 0, 0), (.putfield 323, 3, 12, 43, 0), (.aload_n 0, 1, 0, 0, 0), (.getfield 7, 3, 12, 1, 0), (.iconst 5, 1, 0, 0, 5), (.aload_n 0, 1, 0, 0, 0), (.iconst 0, 1, 0, 0, 0), (.aload_n 0, 1, 0, 0, 0), (.getfield 7, 3, 12, 1, 0), (.iconst 5, 1, 0, 0, 5), (.iaload, 1, 0, 0, 0), (.aload_n 0, 1, 0, 0, 0)] (by decide +kernel) (g := (sK S l0 == 15) && ((sK S l0 == 15) && ((sK S l0 == 15) && ((sK S ((sE S) l0 1) == 1 && ev_in (5 : Int32) ((sL S) ((sE S) l0 1))) && (true))))) (lv' := [some (.ref l0), some (.int v9), none]) (st' := [.ref l0, .int ((ev_up D9 l0 43 (0 : Int32)) ((sE S) l0 1) ((5 : Int32)).toNatClampNeg), .int (0 : Int32), .ref l0, .int (5 : Int32), .ref ((sE S) l0 1)]) (D' := (ev_up D9 l0 43 (0 : Int32))) (pc' := 146) rfl (ev_gk hl0 (ev_gk hl0 (ev_gk hl0 (ev_gi (ev_tyk hT hl0 rfl rfl) hg13 (rfl))))) rfl ?_
      obtain ⟨v10, D10, hc10, hf⟩ := ev_bd_s hf
      refine ev_callV hX YX12_lostNow ml_RX12_372 (mX12_lostNow hT hl0 hc10) (vs := []) (st := [.int ((ev_up D9 l0 43 (0 : Int32)) ((sE S) l0 1) ((5 : Int32)).toNatClampNeg), .int (0 : Int32), .ref l0, .int (5 : Int32), .ref ((sE S) l0 1)]) (by decide) 12 hl0 rfl rfl rfl (by decide +kernel) hC ?_
      show F S D10 149 [some (.ref l0), some (.int v9), none] [.int v10, .int ((ev_up D9 l0 43 (0 : Int32)) ((sE S) l0 1) ((5 : Int32)).toNatClampNeg), .int (0 : Int32), .ref l0, .int (5 : Int32), .ref ((sE S) l0 1)]
      refine ev_blk hX lkok_RX12 [(.isub, 1, 0, 0, 0)] (by decide +kernel) (g := true) (lv' := [some (.ref l0), some (.int v9), none]) (st' := [.int (((ev_up D9 l0 43 (0 : Int32)) ((sE S) l0 1) ((5 : Int32)).toNatClampNeg) - v10), .int (0 : Int32), .ref l0, .int (5 : Int32), .ref ((sE S) l0 1)]) (D' := D10) (pc' := 150) rfl (rfl) rfl ?_
      obtain ⟨v11, D11, hc11, hf⟩ := ev_bd_s hf
      refine ev_callV hX YX12_greater ml_RX12_357 (mX12_greater hT hl0 hc11) (vs := [.int (0 : Int32), .int (((ev_up D9 l0 43 (0 : Int32)) ((sE S) l0 1) ((5 : Int32)).toNatClampNeg) - v10)]) (st := [.int (5 : Int32), .ref ((sE S) l0 1)]) (by decide) 12 hl0 rfl rfl rfl (by decide +kernel) hC ?_
      show F S D11 153 [some (.ref l0), some (.int v9), none] [.int v11, .int (5 : Int32), .ref ((sE S) l0 1)]
      obtain ⟨hg12, hf⟩ := ev_gd_s hf
      refine ev_blk hX lkok_RX12 [(.iastore, 1, 0, 0, 0), (.iconst 0, 1, 0, 0, 0), (.istore_n 2, 1, 0, 0, 0)] (by decide +kernel) (g := (sK S ((sE S) l0 1) == 1 && ev_in (5 : Int32) ((sL S) ((sE S) l0 1))) && (true)) (lv' := [some (.ref l0), some (.int v9), some (.int (0 : Int32))]) (st' := []) (D' := (ev_up D11 ((sE S) l0 1) ((5 : Int32)).toNatClampNeg v11)) (pc' := 156) rfl (ev_gi (ev_tyk hT hl0 rfl rfl) hg12 (rfl)) rfl ?_
      exact ev_weak hX (ev_le_eq (ev_le_eq (ev_le_eq ev_le_nil))) (tX12_goesBy_156 hR hT hC   fu _ _ _ _ hl0 hf)
    · have hf := ev_nf h8 hf
      refine ev_blk hX lkok_RX12 [(.aload_n 0, 1, 0, 0, 0), (.iload_n 1, 1, 0, 0, 0)] (by decide +kernel) (g := true) (lv' := [some (.ref l0), some (.int l1), none]) (st' := [.int l1, .ref l0]) (D' := D) (pc' := 77) rfl (rfl) rfl ?_
      obtain ⟨v14, D14, hc14, hf⟩ := ev_bd_s hf
      refine ev_callV hX YX12_isAwake ml_RX12_143 (mX12_isAwake hT hl0 hc14) (vs := [.int l1]) (st := []) (by decide) 12 hl0 rfl rfl rfl (by decide +kernel) hC ?_
      show F S D14 80 [some (.ref l0), some (.int l1), none] [.int v14]
      refine ev_if_eq hX (off := 32) 112 (by decide +kernel) (by decide) (fun h15 => ?_) (fun h15 => ?_)
      · have hf := ev_it h15 hf
        refine ev_blk hX lkok_RX12 [(.iinc 1 1, 3, 0, 0, 1)] (by decide +kernel) (g := true) (lv' := [some (.ref l0), some (.int (l1 + (1 : Int32))), none]) (st' := []) (D' := D14) (pc' := 115) rfl (rfl) rfl ?_
        refine ev_goto hX (off := (-48)) 67 (by decide +kernel) (by decide) ?_
        exact ev_weak hX (ev_le_eq (ev_le_eq (ev_le_no ev_le_nil))) (ih _ _ _ hl0 hf)
      · have hf := ev_nf h15 hf
        refine ev_blk hX lkok_RX12 [(.aload_n 0, 1, 0, 0, 0), (.iload_n 1, 1, 0, 0, 0)] (by decide +kernel) (g := true) (lv' := [some (.ref l0), some (.int l1), none]) (st' := [.int l1, .ref l0]) (D' := D14) (pc' := 85) rfl (rfl) rfl ?_
        obtain ⟨v16, D16, hc16, hf⟩ := ev_bd_s hf
        refine ev_callV hX YX12_doesPull ml_RX12_369 (mX12_doesPull hT hl0 hc16) (vs := [.int l1]) (st := []) (by decide) 12 hl0 rfl rfl rfl (by decide +kernel) hC ?_
        show F S D16 88 [some (.ref l0), some (.int l1), none] [.int v16]
        refine ev_if_ne hX (off := 6) 94 (by decide +kernel) (by decide) (fun h17 => ?_) (fun h17 => ?_)
        · have hf := ev_nf h17 hf
          refine ev_blk hX lkok_RX12 [(.aload_n 0, 1, 0, 0, 0), (.iload_n 1, 1, 0, 0, 0)] (by decide +kernel) (g := true) (lv' := [some (.ref l0), some (.int l1), none]) (st' := [.int l1, .ref l0]) (D' := D16) (pc' := 96) rfl (rfl) rfl ?_
          obtain ⟨v18, D18, hc18, hf⟩ := ev_bd_s hf
          refine ev_callV hX YX12_pulls ml_RX12_354 (mX12_pulls hT hl0 hc18) (vs := [.int l1]) (st := []) (by decide) 12 hl0 rfl rfl rfl (by decide +kernel) hC ?_
          show F S D18 99 [some (.ref l0), some (.int l1), none] [.int v18]
          refine ev_blk hX lkok_RX12 [(.pop, 1, 0, 0, 0), (.aload_n 0, 1, 0, 0, 0), (.aload_n 0, 1, 0, 0, 0), (.getfield 323, 3, 12, 43, 0), (.iconst 1, 1, 0, 0, 1), (.iload_n 1, 1, 0, 0, 0), (.ishl, 1, 0, 0, 0), (.ior, 1, 0, 0, 0), (.putfield 323, 3, 12, 43, 0), (.iinc 1 1, 3, 0, 0, 1)] (by decide +kernel) (g := (sK S l0 == 15) && ((sK S l0 == 15) && (true))) (lv' := [some (.ref l0), some (.int (l1 + (1 : Int32))), none]) (st' := []) (D' := (ev_up D18 l0 43 ((D18 l0 43) ||| ((1 : Int32) <<< (l1 &&& 31))))) (pc' := 115) rfl (ev_gk hl0 (ev_gk hl0 (rfl))) rfl ?_
          refine ev_goto hX (off := (-48)) 67 (by decide +kernel) (by decide) ?_
          exact ev_weak hX (ev_le_eq (ev_le_eq (ev_le_no ev_le_nil))) (ih _ _ _ hl0 hf)
        · have hf := ev_it h17 hf
          refine ev_goto hX (off := 21) 112 (by decide +kernel) (by decide) ?_
          refine ev_blk hX lkok_RX12 [(.iinc 1 1, 3, 0, 0, 1)] (by decide +kernel) (g := true) (lv' := [some (.ref l0), some (.int (l1 + (1 : Int32))), none]) (st' := []) (D' := D16) (pc' := 115) rfl (rfl) rfl ?_
          refine ev_goto hX (off := (-48)) 67 (by decide +kernel) (by decide) ?_
          exact ev_weak hX (ev_le_eq (ev_le_eq (ev_le_no ev_le_nil))) (ih _ _ _ hl0 hf)
set_option maxHeartbeats 4000000 in
set_option maxRecDepth 100000 in
theorem tX12_goesBy_2 {S : ev_S} {fu : Nat} {r : Int32 × ev_D} {F : ev_Fr} (hR : ev_R RX12 cX12_goesBy 3 6 0 0 false (some .int) S r F) (hT : ev_Ty S) (hC : sC S ≤ 0 ∧ sA S ≤ 0) : ∀ (n : Nat) (l0 : Nat) (l1 : Int32) (D : ev_D), sK S l0 = 15 → fX12_goesBy_2 (sL S) (sE S) fu n l0 l1 D = some r → F S D 2 [some (.ref l0), some (.int l1), none] [] := by
  have hX := hR.X
  intro n
  induction n with
  | zero =>
    intro l0 l1 D hl0 hf
    rw [fX12_goesBy_2] at hf
    cases hf
  | succ n ih =>
    intro l0 l1 D hl0 hf
    rw [fX12_goesBy_2] at hf
    refine ev_blk hX lkok_RX12 [(.iload_n 1, 1, 0, 0, 0), (.aload_n 0, 1, 0, 0, 0), (.getfield 293, 3, 12, 37, 0)] (by decide +kernel) (g := (sK S l0 == 15) && (true)) (lv' := [some (.ref l0), some (.int l1), none]) (st' := [.int (D l0 37), .int l1]) (D' := D) (pc' := 7) rfl (ev_gk hl0 (rfl)) rfl ?_
    refine ev_ic_ge hX (off := 53) 60 (by decide +kernel) (by decide) (fun h19 => ?_) (fun h19 => ?_)
    · have hf := ev_it h19 hf
      refine ev_blk hX lkok_RX12 [(.aload_n 0, 1, 0, 0, 0), (.iconst 0, 1, 0, 0, 0), (.putfield 323, 3, 12, 43, 0), (.iconst 0, 1, 0, 0, 0), (.istore_n 1, 1, 0, 0, 0)] (by decide +kernel) (g := (sK S l0 == 15) && (true)) (lv' := [some (.ref l0), some (.int (0 : Int32)), none]) (st' := []) (D' := (ev_up D l0 43 (0 : Int32))) (pc' := 67) rfl (ev_gk hl0 (rfl)) rfl ?_
      exact ev_weak hX (ev_le_eq (ev_le_eq (ev_le_no ev_le_nil))) (tX12_goesBy_67 hR hT hC   fu _ _ _ hl0 hf)
    · have hf := ev_nf h19 hf
      obtain ⟨hg24, hf⟩ := ev_gd_s hf
      obtain ⟨hg25, hf⟩ := ev_gd_s hf
      refine ev_blk hX lkok_RX12 [(.aload_n 0, 1, 0, 0, 0), (.getfield 71, 3, 12, 38, 0), (.iconst 3, 1, 0, 0, 3), (.iload_n 1, 1, 0, 0, 0), (.imul, 1, 0, 0, 0), (.iaload, 1, 0, 0, 0), (.aload_n 0, 1, 0, 0, 0), (.getfield 7, 3, 12, 1, 0), (.iconst 0, 1, 0, 0, 0), (.iaload, 1, 0, 0, 0), (.bipush 24, 2, 0, 0, 24), (.irem, 1, 0, 0, 0)] (by decide +kernel) (g := (sK S l0 == 15) && ((sK S ((sE S) l0 38) == 1 && ev_in ((3 : Int32) * l1) ((sL S) ((sE S) l0 38))) && ((sK S l0 == 15) && ((sK S ((sE S) l0 1) == 1 && ev_in (0 : Int32) ((sL S) ((sE S) l0 1))) && ((!(decide ((24 : Int32) = 0))) && (true)))))) (lv' := [some (.ref l0), some (.int l1), none]) (st' := [.int ((D ((sE S) l0 1) ((0 : Int32)).toNatClampNeg) - (D ((sE S) l0 1) ((0 : Int32)).toNatClampNeg) / (24 : Int32) * (24 : Int32)), .int (D ((sE S) l0 38) (((3 : Int32) * l1)).toNatClampNeg)]) (D' := D) (pc' := 27) rfl (ev_gk hl0 (ev_gi (ev_tyk hT hl0 rfl rfl) hg24 (ev_gk hl0 (ev_gi (ev_tyk hT hl0 rfl rfl) hg25 (ev_g2 rfl (rfl)))))) rfl ?_
      refine ev_ic_ne hX (off := 27) 54 (by decide +kernel) (by decide) (fun h20 => ?_) (fun h20 => ?_)
      · have hf := ev_nf h20 hf
        refine ev_blk hX lkok_RX12 [(.iinc 1 1, 3, 0, 0, 1)] (by decide +kernel) (g := true) (lv' := [some (.ref l0), some (.int (l1 + (1 : Int32))), none]) (st' := []) (D' := D) (pc' := 57) rfl (rfl) rfl ?_
        refine ev_goto hX (off := (-55)) 2 (by decide +kernel) (by decide) ?_
        exact ev_weak hX (ev_le_eq (ev_le_eq (ev_le_no ev_le_nil))) (ih _ _ _ hl0 hf)
      · have hf := ev_it h20 hf
        obtain ⟨hg22, hf⟩ := ev_gd_s hf
        obtain ⟨hg23, hf⟩ := ev_gd_s hf
        refine ev_blk hX lkok_RX12 [(.aload_n 0, 1, 0, 0, 0), (.aload_n 0, 1, 0, 0, 0), (.getfield 71, 3, 12, 38, 0), (.iconst 3, 1, 0, 0, 3), (.iload_n 1, 1, 0, 0, 0), (.imul, 1, 0, 0, 0), (.iconst 1, 1, 0, 0, 1), (.iadd, 1, 0, 0, 0), (.iaload, 1, 0, 0, 0), (.aload_n 0, 1, 0, 0, 0), (.getfield 71, 3, 12, 38, 0), (.iconst 3, 1, 0, 0, 3), (.iload_n 1, 1, 0, 0, 0), (.imul, 1, 0, 0, 0), (.iconst 2, 1, 0, 0, 2), (.iadd, 1, 0, 0, 0), (.iaload, 1, 0, 0, 0)] (by decide +kernel) (g := (sK S l0 == 15) && ((sK S ((sE S) l0 38) == 1 && ev_in (((3 : Int32) * l1) + (1 : Int32)) ((sL S) ((sE S) l0 38))) && ((sK S l0 == 15) && ((sK S ((sE S) l0 38) == 1 && ev_in (((3 : Int32) * l1) + (2 : Int32)) ((sL S) ((sE S) l0 38))) && (true))))) (lv' := [some (.ref l0), some (.int l1), none]) (st' := [.int (D ((sE S) l0 38) ((((3 : Int32) * l1) + (2 : Int32))).toNatClampNeg), .int (D ((sE S) l0 38) ((((3 : Int32) * l1) + (1 : Int32))).toNatClampNeg), .ref l0]) (D' := D) (pc' := 51) rfl (ev_gk hl0 (ev_gi (ev_tyk hT hl0 rfl rfl) hg22 (ev_gk hl0 (ev_gi (ev_tyk hT hl0 rfl rfl) hg23 (rfl))))) rfl ?_
        obtain ⟨v21, D21, hc21, hf⟩ := ev_bd_s hf
        refine ev_callV hX YX12_happens ml_RX12_366 (mX12_happens hT hl0 hc21) (vs := [.int (D ((sE S) l0 38) ((((3 : Int32) * l1) + (1 : Int32))).toNatClampNeg), .int (D ((sE S) l0 38) ((((3 : Int32) * l1) + (2 : Int32))).toNatClampNeg)]) (st := []) (by decide) 12 hl0 rfl rfl rfl (by decide +kernel) hC ?_
        show F S D21 54 [some (.ref l0), some (.int l1), none] []
        refine ev_blk hX lkok_RX12 [(.iinc 1 1, 3, 0, 0, 1)] (by decide +kernel) (g := true) (lv' := [some (.ref l0), some (.int (l1 + (1 : Int32))), none]) (st' := []) (D' := D21) (pc' := 57) rfl (rfl) rfl ?_
        refine ev_goto hX (off := (-55)) 2 (by decide +kernel) (by decide) ?_
        exact ev_weak hX (ev_le_eq (ev_le_eq (ev_le_no ev_le_nil))) (ih _ _ _ hl0 hf)
set_option maxHeartbeats 4000000 in
set_option maxRecDepth 100000 in
theorem tX12_goesBy {S : ev_S} {fu : Nat} {r : Int32 × ev_D} {F : ev_Fr} (hR : ev_R RX12 cX12_goesBy 3 6 0 0 false (some .int) S r F) (hT : ev_Ty S) (hC : sC S ≤ 0 ∧ sA S ≤ 0) {l0 : Nat} {D : ev_D} (hl0 : sK S l0 = 15) (hf : fX12_goesBy (sL S) (sE S) fu l0 D = some r) : F S D 0 [some (.ref l0), none, none] [] := by
  have hX := hR.X
  unfold fX12_goesBy at hf
  refine ev_blk hX lkok_RX12 [(.iconst 0, 1, 0, 0, 0), (.istore_n 1, 1, 0, 0, 0)] (by decide +kernel) (g := true) (lv' := [some (.ref l0), some (.int (0 : Int32)), none]) (st' := []) (D' := D) (pc' := 2) rfl (rfl) rfl ?_
  exact ev_weak hX (ev_le_eq (ev_le_eq (ev_le_no ev_le_nil))) (tX12_goesBy_2 hR hT hC   fu _ _ _ hl0 hf)
theorem mX12_goesBy {S : ev_S} {fu : Nat} {r : Int32 × ev_D} (hT : ev_Ty S) {l0 : Nat} {D : ev_D} (hl0 : sK S l0 = 15) (hf : fX12_goesBy (sL S) (sE S) fu l0 D = some r) : ev_M 6 0 0 yX12_goesBy cX12_goesBy 3 (some .int) [.ref l0] S D S r :=
  ev_met (ini := false) (plainFor_of_name (by decide)) (fun h => by cases h) rfl (Nat.le_of_ble_eq_true rfl) (fun F hR => tX12_goesBy (S := ev_z S) hR hT ⟨Nat.le_refl 0, Nat.le_refl 0⟩ hl0 hf)
set_option maxHeartbeats 4000000 in
set_option maxRecDepth 100000 in
theorem tX12_hours_36 {S : ev_S} {fu : Nat} {r : Int32 × ev_D} {F : ev_Fr} (hR : ev_R RX12 cX12_hours 4 7 0 0 false (some .int) S r F) (hT : ev_Ty S) (hC : sC S ≤ 0 ∧ sA S ≤ 0) : ∀ (n : Nat) (l0 : Nat) (l1 : Int32) (l2 : Int32) (l3 : Int32) (D : ev_D), sK S l0 = 15 → fX12_hours_36 (sL S) (sE S) fu n l0 l1 l2 l3 D = some r → F S D 36 [some (.ref l0), some (.int l1), some (.int l2), some (.int l3)] [] := by
  have hX := hR.X
  intro n
  induction n with
  | zero =>
    intro l0 l1 l2 l3 D hl0 hf
    rw [fX12_hours_36] at hf
    cases hf
  | succ n ih =>
    intro l0 l1 l2 l3 D hl0 hf
    rw [fX12_hours_36] at hf
    refine ev_blk hX lkok_RX12 [(.iload_n 3, 1, 0, 0, 0), (.iload_n 1, 1, 0, 0, 0)] (by decide +kernel) (g := true) (lv' := [some (.ref l0), some (.int l1), some (.int l2), some (.int l3)]) (st' := [.int l1, .int l3]) (D' := D) (pc' := 38) rfl (rfl) rfl ?_
    refine ev_ic_ge hX (off := 20) 58 (by decide +kernel) (by decide) (fun h1 => ?_) (fun h1 => ?_)
    · have hf := ev_it h1 hf
      refine ev_blk hX lkok_RX12 [(.iload_n 2, 1, 0, 0, 0)] (by decide +kernel) (g := true) (lv' := [some (.ref l0), some (.int l1), some (.int l2), some (.int l3)]) (st' := [.int l2]) (D' := D) (pc' := 59) rfl (rfl) rfl ?_
      exact ev_iret hR ev_sm.rf (Option.some.inj hf) hC (by decide +kernel)
    · have hf := ev_nf h1 hf
      refine ev_blk hX lkok_RX12 [(.aload_n 0, 1, 0, 0, 0)] (by decide +kernel) (g := true) (lv' := [some (.ref l0), some (.int l1), some (.int l2), some (.int l3)]) (st' := [.ref l0]) (D' := D) (pc' := 42) rfl (rfl) rfl ?_
      obtain ⟨v2, D2, hc2, hf⟩ := ev_bd_s hf
      refine ev_callV hX YX12_keepsAhead ml_RX12_351 (mX12_keepsAhead hT hl0 hc2) (vs := []) (st := []) (by decide) 12 hl0 rfl rfl rfl (by decide +kernel) hC ?_
      show F S D2 45 [some (.ref l0), some (.int l1), some (.int l2), some (.int l3)] []
      refine ev_blk hX lkok_RX12 [(.iload_n 2, 1, 0, 0, 0), (.aload_n 0, 1, 0, 0, 0)] (by decide +kernel) (g := true) (lv' := [some (.ref l0), some (.int l1), some (.int l2), some (.int l3)]) (st' := [.ref l0, .int l2]) (D' := D2) (pc' := 47) rfl (rfl) rfl ?_
      obtain ⟨v3, D3, hc3, hf⟩ := ev_bd_s hf
      refine ev_callV hX YX12_goesBy ml_RX12_378 (mX12_goesBy hT hl0 hc3) (vs := []) (st := [.int l2]) (by decide) 12 hl0 rfl rfl rfl (by decide +kernel) hC ?_
      show F S D3 50 [some (.ref l0), some (.int l1), some (.int l2), some (.int l3)] [.int v3, .int l2]
      refine ev_blk hX lkok_RX12 [(.iadd, 1, 0, 0, 0), (.istore_n 2, 1, 0, 0, 0), (.iinc 3 1, 3, 0, 0, 1)] (by decide +kernel) (g := true) (lv' := [some (.ref l0), some (.int l1), some (.int (l2 + v3)), some (.int (l3 + (1 : Int32)))]) (st' := []) (D' := D3) (pc' := 55) rfl (rfl) rfl ?_
      refine ev_goto hX (off := (-19)) 36 (by decide +kernel) (by decide) ?_
      exact ev_weak hX (ev_le_eq (ev_le_eq (ev_le_eq (ev_le_eq ev_le_nil)))) (ih _ _ _ _ _ hl0 hf)
set_option maxHeartbeats 4000000 in
set_option maxRecDepth 100000 in
theorem tX12_hours {S : ev_S} {fu : Nat} {r : Int32 × ev_D} {F : ev_Fr} (hR : ev_R RX12 cX12_hours 4 7 0 0 false (some .int) S r F) (hT : ev_Ty S) (hC : sC S ≤ 0 ∧ sA S ≤ 0) {l0 : Nat} {l1 : Int32} {D : ev_D} (hl0 : sK S l0 = 15) (hf : fX12_hours (sL S) (sE S) fu l0 l1 D = some r) : F S D 0 [some (.ref l0), some (.int l1), none, none] [] := by
  have hX := hR.X
  unfold fX12_hours at hf
  refine ev_blk hX lkok_RX12 [(.aload_n 0, 1, 0, 0, 0), (.iconst 0, 1, 0, 0, 0), (.putfield 128, 3, 12, 0, 0), (.aload_n 0, 1, 0, 0, 0), (.iload_n 1, 1, 0, 0, 0), (.iconst 1, 1, 0, 0, 1), (.bipush 60, 2, 0, 0, 60)] (by decide +kernel) (g := (sK S l0 == 15) && (true)) (lv' := [some (.ref l0), some (.int l1), none, none]) (st' := [.int (60 : Int32), .int (1 : Int32), .int l1, .ref l0]) (D' := (ev_up D l0 0 (0 : Int32))) (pc' := 10) rfl (ev_gk hl0 (rfl)) rfl ?_
  obtain ⟨v4, D4, hc4, hf⟩ := ev_bd_s hf
  refine ev_callV hX YX12_isIn ml_RX12_150 (mX12_isIn hT hl0 hc4) (vs := [.int l1, .int (1 : Int32), .int (60 : Int32)]) (st := []) (by decide) 12 hl0 rfl rfl rfl (by decide +kernel) hC ?_
  show F S D4 13 [some (.ref l0), some (.int l1), none, none] [.int v4]
  refine ev_if_eq hX (off := 17) 30 (by decide +kernel) (by decide) (fun h5 => ?_) (fun h5 => ?_)
  · have hf := ev_it h5 hf
    refine ev_blk hX lkok_RX12 [(.iconst (-1), 1, 0, 0, (-1))] (by decide +kernel) (g := true) (lv' := [some (.ref l0), some (.int l1), none, none]) (st' := [.int (-1 : Int32)]) (D' := D4) (pc' := 31) rfl (rfl) rfl ?_
    exact ev_iret hR ev_sm.rf (Option.some.inj hf) hC (by decide +kernel)
  · have hf := ev_nf h5 hf
    obtain ⟨hg7, hf⟩ := ev_gd_s hf
    refine ev_blk hX lkok_RX12 [(.aload_n 0, 1, 0, 0, 0), (.getfield 7, 3, 12, 1, 0), (.iconst 0, 1, 0, 0, 0), (.iaload, 1, 0, 0, 0), (.iload_n 1, 1, 0, 0, 0), (.iadd, 1, 0, 0, 0), (.sipush 9999, 3, 0, 0, 9999)] (by decide +kernel) (g := (sK S l0 == 15) && ((sK S ((sE S) l0 1) == 1 && ev_in (0 : Int32) ((sL S) ((sE S) l0 1))) && (true))) (lv' := [some (.ref l0), some (.int l1), none, none]) (st' := [.int (9999 : Int32), .int ((D4 ((sE S) l0 1) ((0 : Int32)).toNatClampNeg) + l1)]) (D' := D4) (pc' := 27) rfl (ev_gk hl0 (ev_gi (ev_tyk hT hl0 rfl rfl) hg7 (rfl))) rfl ?_
    refine ev_ic_le hX (off := 5) 32 (by decide +kernel) (by decide) (fun h6 => ?_) (fun h6 => ?_)
    · have hf := ev_it h6 hf
      refine ev_blk hX lkok_RX12 [(.iconst 0, 1, 0, 0, 0), (.istore_n 2, 1, 0, 0, 0), (.iconst 0, 1, 0, 0, 0), (.istore_n 3, 1, 0, 0, 0)] (by decide +kernel) (g := true) (lv' := [some (.ref l0), some (.int l1), some (.int (0 : Int32)), some (.int (0 : Int32))]) (st' := []) (D' := D4) (pc' := 36) rfl (rfl) rfl ?_
      exact ev_weak hX (ev_le_eq (ev_le_eq (ev_le_eq (ev_le_eq ev_le_nil)))) (tX12_hours_36 hR hT hC   fu _ _ _ _ _ hl0 hf)
    · have hf := ev_nf h6 hf
      refine ev_blk hX lkok_RX12 [(.iconst (-1), 1, 0, 0, (-1))] (by decide +kernel) (g := true) (lv' := [some (.ref l0), some (.int l1), none, none]) (st' := [.int (-1 : Int32)]) (D' := D4) (pc' := 31) rfl (rfl) rfl ?_
      exact ev_iret hR ev_sm.rf (Option.some.inj hf) hC (by decide +kernel)
theorem mX12_hours {S : ev_S} {fu : Nat} {r : Int32 × ev_D} (hT : ev_Ty S) {l0 : Nat} {l1 : Int32} {D : ev_D} (hl0 : sK S l0 = 15) (hf : fX12_hours (sL S) (sE S) fu l0 l1 D = some r) : ev_M 7 0 0 yX12_hours cX12_hours 4 (some .int) [.ref l0, .int l1] S D S r :=
  ev_met (ini := false) (plainFor_of_name (by decide)) (fun h => by cases h) rfl (Nat.le_of_ble_eq_true rfl) (fun F hR => tX12_hours (S := ev_z S) hR hT ⟨Nat.le_refl 0, Nat.le_refl 0⟩ hl0 hf)
set_option maxHeartbeats 4000000 in
set_option maxRecDepth 100000 in
theorem tX12_of {S : ev_S} {fu : Nat} {r : Int32 × ev_D} {F : ev_Fr} (hR : ev_R RX12 cX12_of 3 5 0 0 false (some .int) S r F) (hT : ev_Ty S) (hC : sC S ≤ 0 ∧ sA S ≤ 0) {l0 : Nat} {l1 : Int32} {l2 : Int32} {D : ev_D} (hl0 : sK S l0 = 15) (hf : fX12_of (sL S) (sE S) fu l0 l1 l2 D = some r) : F S D 0 [some (.ref l0), some (.int l1), some (.int l2)] [] := by
  have hX := hR.X
  unfold fX12_of at hf
  refine ev_blk hX lkok_RX12 [(.aload_n 0, 1, 0, 0, 0), (.iconst 0, 1, 0, 0, 0), (.putfield 128, 3, 12, 0, 0), (.aload_n 0, 1, 0, 0, 0), (.iload_n 1, 1, 0, 0, 0)] (by decide +kernel) (g := (sK S l0 == 15) && (true)) (lv' := [some (.ref l0), some (.int l1), some (.int l2)]) (st' := [.int l1, .ref l0]) (D' := (ev_up D l0 0 (0 : Int32))) (pc' := 7) rfl (ev_gk hl0 (rfl)) rfl ?_
  obtain ⟨v1, D1, hc1, hf⟩ := ev_bd_s hf
  refine ev_callV hX YX12_isRinger ml_RX12_154 (mX12_isRinger hT hl0 hc1) (vs := [.int l1]) (st := []) (by decide) 12 hl0 rfl rfl rfl (by decide +kernel) hC ?_
  show F S D1 10 [some (.ref l0), some (.int l1), some (.int l2)] [.int v1]
  refine ev_if_ne hX (off := 5) 15 (by decide +kernel) (by decide) (fun h2 => ?_) (fun h2 => ?_)
  · have hf := ev_nf h2 hf
    refine ev_blk hX lkok_RX12 [(.iload_n 2, 1, 0, 0, 0)] (by decide +kernel) (g := true) (lv' := [some (.ref l0), some (.int l1), some (.int l2)]) (st' := [.int l2]) (D' := D1) (pc' := 16) rfl (rfl) rfl ?_
    refine ev_if_ne hX (off := 10) 26 (by decide +kernel) (by decide) (fun h3 => ?_) (fun h3 => ?_)
    · have hf := ev_nf h3 hf
      refine ev_blk hX lkok_RX12 [(.iload_n 2, 1, 0, 0, 0), (.iconst 1, 1, 0, 0, 1)] (by decide +kernel) (g := true) (lv' := [some (.ref l0), some (.int l1), some (.int l2)]) (st' := [.int (1 : Int32), .int l2]) (D' := D1) (pc' := 28) rfl (rfl) rfl ?_
      refine ev_ic_ne hX (off := 10) 38 (by decide +kernel) (by decide) (fun h4 => ?_) (fun h4 => ?_)
      · have hf := ev_nf h4 hf
        refine ev_blk hX lkok_RX12 [(.iload_n 2, 1, 0, 0, 0), (.iconst 2, 1, 0, 0, 2)] (by decide +kernel) (g := true) (lv' := [some (.ref l0), some (.int l1), some (.int l2)]) (st' := [.int (2 : Int32), .int l2]) (D' := D1) (pc' := 40) rfl (rfl) rfl ?_
        refine ev_ic_ne hX (off := 10) 50 (by decide +kernel) (by decide) (fun h5 => ?_) (fun h5 => ?_)
        · have hf := ev_nf h5 hf
          refine ev_blk hX lkok_RX12 [(.iload_n 2, 1, 0, 0, 0), (.iconst 3, 1, 0, 0, 3)] (by decide +kernel) (g := true) (lv' := [some (.ref l0), some (.int l1), some (.int l2)]) (st' := [.int (3 : Int32), .int l2]) (D' := D1) (pc' := 52) rfl (rfl) rfl ?_
          refine ev_ic_ne hX (off := 13) 65 (by decide +kernel) (by decide) (fun h6 => ?_) (fun h6 => ?_)
          · have hf := ev_nf h6 hf
            refine ev_blk hX lkok_RX12 [(.iload_n 2, 1, 0, 0, 0), (.iconst 4, 1, 0, 0, 4)] (by decide +kernel) (g := true) (lv' := [some (.ref l0), some (.int l1), some (.int l2)]) (st' := [.int (4 : Int32), .int l2]) (D' := D1) (pc' := 67) rfl (rfl) rfl ?_
            refine ev_ic_ne hX (off := 13) 80 (by decide +kernel) (by decide) (fun h7 => ?_) (fun h7 => ?_)
            · have hf := ev_nf h7 hf
              refine ev_blk hX lkok_RX12 [(.iload_n 2, 1, 0, 0, 0), (.iconst 5, 1, 0, 0, 5)] (by decide +kernel) (g := true) (lv' := [some (.ref l0), some (.int l1), some (.int l2)]) (st' := [.int (5 : Int32), .int l2]) (D' := D1) (pc' := 82) rfl (rfl) rfl ?_
              refine ev_ic_ne hX (off := 15) 97 (by decide +kernel) (by decide) (fun h8 => ?_) (fun h8 => ?_)
              · have hf := ev_nf h8 hf
                refine ev_blk hX lkok_RX12 [(.iload_n 2, 1, 0, 0, 0), (.bipush 6, 2, 0, 0, 6)] (by decide +kernel) (g := true) (lv' := [some (.ref l0), some (.int l1), some (.int l2)]) (st' := [.int (6 : Int32), .int l2]) (D' := D1) (pc' := 100) rfl (rfl) rfl ?_
                refine ev_ic_ne hX (off := 12) 112 (by decide +kernel) (by decide) (fun h9 => ?_) (fun h9 => ?_)
                · have hf := ev_nf h9 hf
                  refine ev_blk hX lkok_RX12 [(.iload_n 2, 1, 0, 0, 0), (.bipush 7, 2, 0, 0, 7)] (by decide +kernel) (g := true) (lv' := [some (.ref l0), some (.int l1), some (.int l2)]) (st' := [.int (7 : Int32), .int l2]) (D' := D1) (pc' := 115) rfl (rfl) rfl ?_
                  refine ev_ic_ne hX (off := 11) 126 (by decide +kernel) (by decide) (fun h10 => ?_) (fun h10 => ?_)
                  · have hf := ev_nf h10 hf
                    refine ev_blk hX lkok_RX12 [(.iload_n 2, 1, 0, 0, 0), (.bipush 8, 2, 0, 0, 8)] (by decide +kernel) (g := true) (lv' := [some (.ref l0), some (.int l1), some (.int l2)]) (st' := [.int (8 : Int32), .int l2]) (D' := D1) (pc' := 129) rfl (rfl) rfl ?_
                    refine ev_ic_ne hX (off := 11) 140 (by decide +kernel) (by decide) (fun h11 => ?_) (fun h11 => ?_)
                    · have hf := ev_nf h11 hf
                      refine ev_blk hX lkok_RX12 [(.iconst (-1), 1, 0, 0, (-1))] (by decide +kernel) (g := true) (lv' := [some (.ref l0), some (.int l1), some (.int l2)]) (st' := [.int (-1 : Int32)]) (D' := D1) (pc' := 141) rfl (rfl) rfl ?_
                      exact ev_iret hR ev_sm.rf (Option.some.inj hf) hC (by decide +kernel)
                    · have hf := ev_it h11 hf
                      refine ev_blk hX lkok_RX12 [(.aload_n 0, 1, 0, 0, 0), (.iload_n 1, 1, 0, 0, 0)] (by decide +kernel) (g := true) (lv' := [some (.ref l0), some (.int l1), some (.int l2)]) (st' := [.int l1, .ref l0]) (D' := D1) (pc' := 134) rfl (rfl) rfl ?_
                      obtain ⟨v12, D12, hc12, hf⟩ := ev_bd_s hf
                      refine ev_callV hX YX12_hardOf ml_RX12_341 (mX12_hardOf hT hl0 hc12) (vs := [.int l1]) (st := []) (by decide) 12 hl0 rfl rfl rfl (by decide +kernel) hC ?_
                      show F S D12 137 [some (.ref l0), some (.int l1), some (.int l2)] [.int v12]
                      refine ev_goto hX (off := 4) 141 (by decide +kernel) (by decide) ?_
                      exact ev_iret hR ev_sm.rf (Option.some.inj hf) hC (by decide +kernel)
                  · have hf := ev_it h10 hf
                    refine ev_blk hX lkok_RX12 [(.aload_n 0, 1, 0, 0, 0), (.iload_n 1, 1, 0, 0, 0)] (by decide +kernel) (g := true) (lv' := [some (.ref l0), some (.int l1), some (.int l2)]) (st' := [.int l1, .ref l0]) (D' := D1) (pc' := 120) rfl (rfl) rfl ?_
                    obtain ⟨v13, D13, hc13, hf⟩ := ev_bd_s hf
                    refine ev_callV hX YX12_pullOf ml_RX12_360 (mX12_pullOf hT hl0 hc13) (vs := [.int l1]) (st := []) (by decide) 12 hl0 rfl rfl rfl (by decide +kernel) hC ?_
                    show F S D13 123 [some (.ref l0), some (.int l1), some (.int l2)] [.int v13]
                    refine ev_goto hX (off := 18) 141 (by decide +kernel) (by decide) ?_
                    exact ev_iret hR ev_sm.rf (Option.some.inj hf) hC (by decide +kernel)
                · have hf := ev_it h9 hf
                  obtain ⟨hg14, hf⟩ := ev_gd_s hf
                  refine ev_blk hX lkok_RX12 [(.aload_n 0, 1, 0, 0, 0), (.getfield 68, 3, 12, 36, 0), (.iload_n 1, 1, 0, 0, 0), (.iaload, 1, 0, 0, 0)] (by decide +kernel) (g := (sK S l0 == 15) && ((sK S ((sE S) l0 36) == 1 && ev_in l1 ((sL S) ((sE S) l0 36))) && (true))) (lv' := [some (.ref l0), some (.int l1), some (.int l2)]) (st' := [.int (D1 ((sE S) l0 36) (l1).toNatClampNeg)]) (D' := D1) (pc' := 109) rfl (ev_gk hl0 (ev_gi (ev_tyk hT hl0 rfl rfl) hg14 (rfl))) rfl ?_
                  refine ev_goto hX (off := 32) 141 (by decide +kernel) (by decide) ?_
                  exact ev_iret hR ev_sm.rf (Option.some.inj hf) hC (by decide +kernel)
              · have hf := ev_it h8 hf
                obtain ⟨hg15, hf⟩ := ev_gd_s hf
                refine ev_blk hX lkok_RX12 [(.iconst 1, 1, 0, 0, 1), (.aload_n 0, 1, 0, 0, 0), (.getfield 7, 3, 12, 1, 0), (.bipush 34, 2, 0, 0, 34), (.iload_n 1, 1, 0, 0, 0), (.iadd, 1, 0, 0, 0), (.iaload, 1, 0, 0, 0), (.isub, 1, 0, 0, 0)] (by decide +kernel) (g := (sK S l0 == 15) && ((sK S ((sE S) l0 1) == 1 && ev_in ((34 : Int32) + l1) ((sL S) ((sE S) l0 1))) && (true))) (lv' := [some (.ref l0), some (.int l1), some (.int l2)]) (st' := [.int ((1 : Int32) - (D1 ((sE S) l0 1) (((34 : Int32) + l1)).toNatClampNeg))]) (D' := D1) (pc' := 96) rfl (ev_gk hl0 (ev_gi (ev_tyk hT hl0 rfl rfl) hg15 (rfl))) rfl ?_
                exact ev_iret hR ev_sm.rf (Option.some.inj hf) hC (by decide +kernel)
            · have hf := ev_it h7 hf
              obtain ⟨hg16, hf⟩ := ev_gd_s hf
              refine ev_blk hX lkok_RX12 [(.aload_n 0, 1, 0, 0, 0), (.getfield 7, 3, 12, 1, 0), (.bipush 24, 2, 0, 0, 24), (.iload_n 1, 1, 0, 0, 0), (.iadd, 1, 0, 0, 0), (.iaload, 1, 0, 0, 0)] (by decide +kernel) (g := (sK S l0 == 15) && ((sK S ((sE S) l0 1) == 1 && ev_in ((24 : Int32) + l1) ((sL S) ((sE S) l0 1))) && (true))) (lv' := [some (.ref l0), some (.int l1), some (.int l2)]) (st' := [.int (D1 ((sE S) l0 1) (((24 : Int32) + l1)).toNatClampNeg)]) (D' := D1) (pc' := 79) rfl (ev_gk hl0 (ev_gi (ev_tyk hT hl0 rfl rfl) hg16 (rfl))) rfl ?_
              exact ev_iret hR ev_sm.rf (Option.some.inj hf) hC (by decide +kernel)
          · have hf := ev_it h6 hf
            obtain ⟨hg17, hf⟩ := ev_gd_s hf
            refine ev_blk hX lkok_RX12 [(.aload_n 0, 1, 0, 0, 0), (.getfield 7, 3, 12, 1, 0), (.bipush 14, 2, 0, 0, 14), (.iload_n 1, 1, 0, 0, 0), (.iadd, 1, 0, 0, 0), (.iaload, 1, 0, 0, 0)] (by decide +kernel) (g := (sK S l0 == 15) && ((sK S ((sE S) l0 1) == 1 && ev_in ((14 : Int32) + l1) ((sL S) ((sE S) l0 1))) && (true))) (lv' := [some (.ref l0), some (.int l1), some (.int l2)]) (st' := [.int (D1 ((sE S) l0 1) (((14 : Int32) + l1)).toNatClampNeg)]) (D' := D1) (pc' := 64) rfl (ev_gk hl0 (ev_gi (ev_tyk hT hl0 rfl rfl) hg17 (rfl))) rfl ?_
            exact ev_iret hR ev_sm.rf (Option.some.inj hf) hC (by decide +kernel)
        · have hf := ev_it h5 hf
          obtain ⟨hg18, hf⟩ := ev_gd_s hf
          refine ev_blk hX lkok_RX12 [(.aload_n 0, 1, 0, 0, 0), (.getfield 28, 3, 12, 10, 0), (.iload_n 1, 1, 0, 0, 0), (.iaload, 1, 0, 0, 0)] (by decide +kernel) (g := (sK S l0 == 15) && ((sK S ((sE S) l0 10) == 1 && ev_in l1 ((sL S) ((sE S) l0 10))) && (true))) (lv' := [some (.ref l0), some (.int l1), some (.int l2)]) (st' := [.int (D1 ((sE S) l0 10) (l1).toNatClampNeg)]) (D' := D1) (pc' := 49) rfl (ev_gk hl0 (ev_gi (ev_tyk hT hl0 rfl rfl) hg18 (rfl))) rfl ?_
          exact ev_iret hR ev_sm.rf (Option.some.inj hf) hC (by decide +kernel)
      · have hf := ev_it h4 hf
        obtain ⟨hg19, hf⟩ := ev_gd_s hf
        refine ev_blk hX lkok_RX12 [(.aload_n 0, 1, 0, 0, 0), (.getfield 25, 3, 12, 9, 0), (.iload_n 1, 1, 0, 0, 0), (.iaload, 1, 0, 0, 0)] (by decide +kernel) (g := (sK S l0 == 15) && ((sK S ((sE S) l0 9) == 1 && ev_in l1 ((sL S) ((sE S) l0 9))) && (true))) (lv' := [some (.ref l0), some (.int l1), some (.int l2)]) (st' := [.int (D1 ((sE S) l0 9) (l1).toNatClampNeg)]) (D' := D1) (pc' := 37) rfl (ev_gk hl0 (ev_gi (ev_tyk hT hl0 rfl rfl) hg19 (rfl))) rfl ?_
        exact ev_iret hR ev_sm.rf (Option.some.inj hf) hC (by decide +kernel)
    · have hf := ev_it h3 hf
      obtain ⟨hg20, hf⟩ := ev_gd_s hf
      refine ev_blk hX lkok_RX12 [(.aload_n 0, 1, 0, 0, 0), (.getfield 22, 3, 12, 8, 0), (.iload_n 1, 1, 0, 0, 0), (.iaload, 1, 0, 0, 0)] (by decide +kernel) (g := (sK S l0 == 15) && ((sK S ((sE S) l0 8) == 1 && ev_in l1 ((sL S) ((sE S) l0 8))) && (true))) (lv' := [some (.ref l0), some (.int l1), some (.int l2)]) (st' := [.int (D1 ((sE S) l0 8) (l1).toNatClampNeg)]) (D' := D1) (pc' := 25) rfl (ev_gk hl0 (ev_gi (ev_tyk hT hl0 rfl rfl) hg20 (rfl))) rfl ?_
      exact ev_iret hR ev_sm.rf (Option.some.inj hf) hC (by decide +kernel)
  · have hf := ev_it h2 hf
    refine ev_blk hX lkok_RX12 [(.iconst (-1), 1, 0, 0, (-1))] (by decide +kernel) (g := true) (lv' := [some (.ref l0), some (.int l1), some (.int l2)]) (st' := [.int (-1 : Int32)]) (D' := D1) (pc' := 14) rfl (rfl) rfl ?_
    exact ev_iret hR ev_sm.rf (Option.some.inj hf) hC (by decide +kernel)
theorem mX12_of {S : ev_S} {fu : Nat} {r : Int32 × ev_D} (hT : ev_Ty S) {l0 : Nat} {l1 : Int32} {l2 : Int32} {D : ev_D} (hl0 : sK S l0 = 15) (hf : fX12_of (sL S) (sE S) fu l0 l1 l2 D = some r) : ev_M 5 0 0 yX12_of cX12_of 3 (some .int) [.ref l0, .int l1, .int l2] S D S r :=
  ev_met (ini := false) (plainFor_of_name (by decide)) (fun h => by cases h) rfl (Nat.le_of_ble_eq_true rfl) (fun F hR => tX12_of (S := ev_z S) hR hT ⟨Nat.le_refl 0, Nat.le_refl 0⟩ hl0 hf)
set_option maxHeartbeats 4000000 in
set_option maxRecDepth 100000 in
theorem tX12_bell {S : ev_S} {fu : Nat} {r : Int32 × ev_D} {F : ev_Fr} (hR : ev_R RX12 cX12_bell 3 1 0 0 false (some .int) S r F) (hT : ev_Ty S) (hC : sC S ≤ 0 ∧ sA S ≤ 0) {l0 : Nat} {l1 : Int32} {l2 : Int32} {D : ev_D} (hl0 : sK S l0 = 15) (hf : fX12_bell (sL S) (sE S) fu l0 l1 l2 D = some r) : F S D 0 [some (.ref l0), some (.int l1), some (.int l2)] [] := by
  have hX := hR.X
  unfold fX12_bell at hf
  refine ev_blk hX lkok_RX12 [(.aload_n 0, 1, 0, 0, 0), (.iconst 0, 1, 0, 0, 0), (.putfield 128, 3, 12, 0, 0), (.aload_n 0, 1, 0, 0, 0), (.iload_n 1, 1, 0, 0, 0)] (by decide +kernel) (g := (sK S l0 == 15) && (true)) (lv' := [some (.ref l0), some (.int l1), some (.int l2)]) (st' := [.int l1, .ref l0]) (D' := (ev_up D l0 0 (0 : Int32))) (pc' := 7) rfl (ev_gk hl0 (rfl)) rfl ?_
  obtain ⟨v1, D1, hc1, hf⟩ := ev_bd_s hf
  refine ev_callV hX YX12_isBell ml_RX12_147 (mX12_isBell hT hl0 hc1) (vs := [.int l1]) (st := []) (by decide) 12 hl0 rfl rfl rfl (by decide +kernel) hC ?_
  show F S D1 10 [some (.ref l0), some (.int l1), some (.int l2)] [.int v1]
  refine ev_if_ne hX (off := 5) 15 (by decide +kernel) (by decide) (fun h2 => ?_) (fun h2 => ?_)
  · have hf := ev_nf h2 hf
    refine ev_blk hX lkok_RX12 [(.iload_n 2, 1, 0, 0, 0)] (by decide +kernel) (g := true) (lv' := [some (.ref l0), some (.int l1), some (.int l2)]) (st' := [.int l2]) (D' := D1) (pc' := 16) rfl (rfl) rfl ?_
    refine ev_if_ne hX (off := 11) 27 (by decide +kernel) (by decide) (fun h3 => ?_) (fun h3 => ?_)
    · have hf := ev_nf h3 hf
      refine ev_blk hX lkok_RX12 [(.iload_n 2, 1, 0, 0, 0), (.iconst 1, 1, 0, 0, 1)] (by decide +kernel) (g := true) (lv' := [some (.ref l0), some (.int l1), some (.int l2)]) (st' := [.int (1 : Int32), .int l2]) (D' := D1) (pc' := 29) rfl (rfl) rfl ?_
      refine ev_ic_ne hX (off := 15) 44 (by decide +kernel) (by decide) (fun h4 => ?_) (fun h4 => ?_)
      · have hf := ev_nf h4 hf
        refine ev_blk hX lkok_RX12 [(.iconst (-1), 1, 0, 0, (-1))] (by decide +kernel) (g := true) (lv' := [some (.ref l0), some (.int l1), some (.int l2)]) (st' := [.int (-1 : Int32)]) (D' := D1) (pc' := 45) rfl (rfl) rfl ?_
        exact ev_iret hR ev_sm.rf (Option.some.inj hf) hC (by decide +kernel)
      · have hf := ev_it h4 hf
        obtain ⟨hg5, hf⟩ := ev_gd_s hf
        refine ev_blk hX lkok_RX12 [(.aload_n 0, 1, 0, 0, 0), (.getfield 7, 3, 12, 1, 0), (.bipush 6, 2, 0, 0, 6), (.iload_n 1, 1, 0, 0, 0), (.iadd, 1, 0, 0, 0), (.iaload, 1, 0, 0, 0)] (by decide +kernel) (g := (sK S l0 == 15) && ((sK S ((sE S) l0 1) == 1 && ev_in ((6 : Int32) + l1) ((sL S) ((sE S) l0 1))) && (true))) (lv' := [some (.ref l0), some (.int l1), some (.int l2)]) (st' := [.int (D1 ((sE S) l0 1) (((6 : Int32) + l1)).toNatClampNeg)]) (D' := D1) (pc' := 41) rfl (ev_gk hl0 (ev_gi (ev_tyk hT hl0 rfl rfl) hg5 (rfl))) rfl ?_
        refine ev_goto hX (off := 4) 45 (by decide +kernel) (by decide) ?_
        exact ev_iret hR ev_sm.rf (Option.some.inj hf) hC (by decide +kernel)
    · have hf := ev_it h3 hf
      refine ev_blk hX lkok_RX12 [(.aload_n 0, 1, 0, 0, 0), (.iload_n 1, 1, 0, 0, 0)] (by decide +kernel) (g := true) (lv' := [some (.ref l0), some (.int l1), some (.int l2)]) (st' := [.int l1, .ref l0]) (D' := D1) (pc' := 21) rfl (rfl) rfl ?_
      obtain ⟨v6, D6, hc6, hf⟩ := ev_bd_s hf
      refine ev_callV hX YX12_heavy ml_RX12_320 (mX12_heavy hT hl0 hc6) (vs := [.int l1]) (st := []) (by decide) 12 hl0 rfl rfl rfl (by decide +kernel) hC ?_
      show F S D6 24 [some (.ref l0), some (.int l1), some (.int l2)] [.int v6]
      refine ev_goto hX (off := 21) 45 (by decide +kernel) (by decide) ?_
      exact ev_iret hR ev_sm.rf (Option.some.inj hf) hC (by decide +kernel)
  · have hf := ev_it h2 hf
    refine ev_blk hX lkok_RX12 [(.iconst (-1), 1, 0, 0, (-1))] (by decide +kernel) (g := true) (lv' := [some (.ref l0), some (.int l1), some (.int l2)]) (st' := [.int (-1 : Int32)]) (D' := D1) (pc' := 14) rfl (rfl) rfl ?_
    exact ev_iret hR ev_sm.rf (Option.some.inj hf) hC (by decide +kernel)
theorem mX12_bell {S : ev_S} {fu : Nat} {r : Int32 × ev_D} (hT : ev_Ty S) {l0 : Nat} {l1 : Int32} {l2 : Int32} {D : ev_D} (hl0 : sK S l0 = 15) (hf : fX12_bell (sL S) (sE S) fu l0 l1 l2 D = some r) : ev_M 1 0 0 yX12_bell cX12_bell 3 (some .int) [.ref l0, .int l1, .int l2] S D S r :=
  ev_met (ini := false) (plainFor_of_name (by decide)) (fun h => by cases h) rfl (Nat.le_of_ble_eq_true rfl) (fun F hR => tX12_bell (S := ev_z S) hR hT ⟨Nat.le_refl 0, Nat.le_refl 0⟩ hl0 hf)
set_option maxHeartbeats 4000000 in
set_option maxRecDepth 100000 in
theorem tX12_lost {S : ev_S} {fu : Nat} {r : Int32 × ev_D} {F : ev_Fr} (hR : ev_R RX12 cX12_lost 1 5 0 0 false (some .int) S r F) (hT : ev_Ty S) (hC : sC S ≤ 0 ∧ sA S ≤ 0) {l0 : Nat} {D : ev_D} (hl0 : sK S l0 = 15) (hf : fX12_lost (sL S) (sE S) fu l0 D = some r) : F S D 0 [some (.ref l0)] [] := by
  have hX := hR.X
  unfold fX12_lost at hf
  refine ev_blk hX lkok_RX12 [(.aload_n 0, 1, 0, 0, 0), (.iconst 0, 1, 0, 0, 0), (.putfield 128, 3, 12, 0, 0), (.aload_n 0, 1, 0, 0, 0)] (by decide +kernel) (g := (sK S l0 == 15) && (true)) (lv' := [some (.ref l0)]) (st' := [.ref l0]) (D' := (ev_up D l0 0 (0 : Int32))) (pc' := 6) rfl (ev_gk hl0 (rfl)) rfl ?_
  obtain ⟨v1, D1, hc1, hf⟩ := ev_bd_s hf
  refine ev_callV hX YX12_lostNow ml_RX12_372 (mX12_lostNow hT hl0 hc1) (vs := []) (st := []) (by decide) 12 hl0 rfl rfl rfl (by decide +kernel) hC ?_
  show F S D1 9 [some (.ref l0)] [.int v1]
  exact ev_iret hR ev_sm.rf (Option.some.inj hf) hC (by decide +kernel)
theorem mX12_lost {S : ev_S} {fu : Nat} {r : Int32 × ev_D} (hT : ev_Ty S) {l0 : Nat} {D : ev_D} (hl0 : sK S l0 = 15) (hf : fX12_lost (sL S) (sE S) fu l0 D = some r) : ev_M 5 0 0 yX12_lost cX12_lost 1 (some .int) [.ref l0] S D S r :=
  ev_met (ini := false) (plainFor_of_name (by decide)) (fun h => by cases h) rfl (Nat.le_of_ble_eq_true rfl) (fun F hR => tX12_lost (S := ev_z S) hR hT ⟨Nat.le_refl 0, Nat.le_refl 0⟩ hl0 hf)
set_option maxHeartbeats 4000000 in
set_option maxRecDepth 100000 in
theorem tX12_book {S : ev_S} {fu : Nat} {r : Int32 × ev_D} {F : ev_Fr} (hR : ev_R RX12 cX12_book 3 1 0 0 false (some .int) S r F) (hT : ev_Ty S) (hC : sC S ≤ 0 ∧ sA S ≤ 0) {l0 : Nat} {l1 : Int32} {l2 : Int32} {D : ev_D} (hl0 : sK S l0 = 15) (hf : fX12_book (sL S) (sE S) fu l0 l1 l2 D = some r) : F S D 0 [some (.ref l0), some (.int l1), some (.int l2)] [] := by
  have hX := hR.X
  unfold fX12_book at hf
  obtain ⟨hg6, hf⟩ := ev_gd_s hf
  refine ev_blk hX lkok_RX12 [(.aload_n 0, 1, 0, 0, 0), (.iconst 0, 1, 0, 0, 0), (.putfield 128, 3, 12, 0, 0), (.aload_n 0, 1, 0, 0, 0), (.iload_n 1, 1, 0, 0, 0), (.iconst 0, 1, 0, 0, 0), (.aload_n 0, 1, 0, 0, 0), (.getfield 7, 3, 12, 1, 0), (.iconst 2, 1, 0, 0, 2), (.iaload, 1, 0, 0, 0), (.iconst 1, 1, 0, 0, 1), (.isub, 1, 0, 0, 0)] (by decide +kernel) (g := (sK S l0 == 15) && ((sK S l0 == 15) && ((sK S ((sE S) l0 1) == 1 && ev_in (2 : Int32) ((sL S) ((sE S) l0 1))) && (true)))) (lv' := [some (.ref l0), some (.int l1), some (.int l2)]) (st' := [.int (((ev_up D l0 0 (0 : Int32)) ((sE S) l0 1) ((2 : Int32)).toNatClampNeg) - (1 : Int32)), .int (0 : Int32), .int l1, .ref l0]) (D' := (ev_up D l0 0 (0 : Int32))) (pc' := 16) rfl (ev_gk hl0 (ev_gk hl0 (ev_gi (ev_tyk hT hl0 rfl rfl) hg6 (rfl)))) rfl ?_
  obtain ⟨v1, D1, hc1, hf⟩ := ev_bd_s hf
  refine ev_callV hX YX12_isIn ml_RX12_150 (mX12_isIn hT hl0 hc1) (vs := [.int l1, .int (0 : Int32), .int (((ev_up D l0 0 (0 : Int32)) ((sE S) l0 1) ((2 : Int32)).toNatClampNeg) - (1 : Int32))]) (st := []) (by decide) 12 hl0 rfl rfl rfl (by decide +kernel) hC ?_
  show F S D1 19 [some (.ref l0), some (.int l1), some (.int l2)] [.int v1]
  refine ev_if_eq hX (off := 26) 45 (by decide +kernel) (by decide) (fun h2 => ?_) (fun h2 => ?_)
  · have hf := ev_it h2 hf
    refine ev_blk hX lkok_RX12 [(.iconst (-1), 1, 0, 0, (-1))] (by decide +kernel) (g := true) (lv' := [some (.ref l0), some (.int l1), some (.int l2)]) (st' := [.int (-1 : Int32)]) (D' := D1) (pc' := 46) rfl (rfl) rfl ?_
    exact ev_iret hR ev_sm.rf (Option.some.inj hf) hC (by decide +kernel)
  · have hf := ev_nf h2 hf
    refine ev_blk hX lkok_RX12 [(.aload_n 0, 1, 0, 0, 0), (.iload_n 2, 1, 0, 0, 0), (.iconst 0, 1, 0, 0, 0), (.iconst 3, 1, 0, 0, 3)] (by decide +kernel) (g := true) (lv' := [some (.ref l0), some (.int l1), some (.int l2)]) (st' := [.int (3 : Int32), .int (0 : Int32), .int l2, .ref l0]) (D' := D1) (pc' := 26) rfl (rfl) rfl ?_
    obtain ⟨v3, D3, hc3, hf⟩ := ev_bd_s hf
    refine ev_callV hX YX12_isIn ml_RX12_150 (mX12_isIn hT hl0 hc3) (vs := [.int l2, .int (0 : Int32), .int (3 : Int32)]) (st := []) (by decide) 12 hl0 rfl rfl rfl (by decide +kernel) hC ?_
    show F S D3 29 [some (.ref l0), some (.int l1), some (.int l2)] [.int v3]
    refine ev_if_eq hX (off := 16) 45 (by decide +kernel) (by decide) (fun h4 => ?_) (fun h4 => ?_)
    · have hf := ev_it h4 hf
      refine ev_blk hX lkok_RX12 [(.iconst (-1), 1, 0, 0, (-1))] (by decide +kernel) (g := true) (lv' := [some (.ref l0), some (.int l1), some (.int l2)]) (st' := [.int (-1 : Int32)]) (D' := D3) (pc' := 46) rfl (rfl) rfl ?_
      exact ev_iret hR ev_sm.rf (Option.some.inj hf) hC (by decide +kernel)
    · have hf := ev_nf h4 hf
      obtain ⟨hg5, hf⟩ := ev_gd_s hf
      refine ev_blk hX lkok_RX12 [(.aload_n 0, 1, 0, 0, 0), (.getfield 31, 3, 12, 11, 0), (.iconst 4, 1, 0, 0, 4), (.iload_n 1, 1, 0, 0, 0), (.imul, 1, 0, 0, 0), (.iload_n 2, 1, 0, 0, 0), (.iadd, 1, 0, 0, 0), (.iaload, 1, 0, 0, 0)] (by decide +kernel) (g := (sK S l0 == 15) && ((sK S ((sE S) l0 11) == 1 && ev_in (((4 : Int32) * l1) + l2) ((sL S) ((sE S) l0 11))) && (true))) (lv' := [some (.ref l0), some (.int l1), some (.int l2)]) (st' := [.int (D3 ((sE S) l0 11) ((((4 : Int32) * l1) + l2)).toNatClampNeg)]) (D' := D3) (pc' := 42) rfl (ev_gk hl0 (ev_gi (ev_tyk hT hl0 rfl rfl) hg5 (rfl))) rfl ?_
      refine ev_goto hX (off := 4) 46 (by decide +kernel) (by decide) ?_
      exact ev_iret hR ev_sm.rf (Option.some.inj hf) hC (by decide +kernel)
theorem mX12_book {S : ev_S} {fu : Nat} {r : Int32 × ev_D} (hT : ev_Ty S) {l0 : Nat} {l1 : Int32} {l2 : Int32} {D : ev_D} (hl0 : sK S l0 = 15) (hf : fX12_book (sL S) (sE S) fu l0 l1 l2 D = some r) : ev_M 1 0 0 yX12_book cX12_book 3 (some .int) [.ref l0, .int l1, .int l2] S D S r :=
  ev_met (ini := false) (plainFor_of_name (by decide)) (fun h => by cases h) rfl (Nat.le_of_ble_eq_true rfl) (fun F hR => tX12_book (S := ev_z S) hR hT ⟨Nat.le_refl 0, Nat.le_refl 0⟩ hl0 hf)
set_option maxHeartbeats 4000000 in
set_option maxRecDepth 100000 in
theorem tX12_awakeSet_4 {S : ev_S} {fu : Nat} {r : Int32 × ev_D} {F : ev_Fr} (hR : ev_R RX12 cX12_awakeSet 3 1 0 0 false (some .int) S r F) (hT : ev_Ty S) (hC : sC S ≤ 0 ∧ sA S ≤ 0) : ∀ (n : Nat) (l0 : Nat) (l1 : Int32) (l2 : Int32) (D : ev_D), sK S l0 = 15 → fX12_awakeSet_4 (sL S) (sE S) fu n l0 l1 l2 D = some r → F S D 4 [some (.ref l0), some (.int l1), some (.int l2)] [] := by
  have hX := hR.X
  intro n
  induction n with
  | zero =>
    intro l0 l1 l2 D hl0 hf
    rw [fX12_awakeSet_4] at hf
    cases hf
  | succ n ih =>
    intro l0 l1 l2 D hl0 hf
    rw [fX12_awakeSet_4] at hf
    refine ev_blk hX lkok_RX12 [(.iload_n 2, 1, 0, 0, 0), (.aload_n 0, 1, 0, 0, 0), (.getfield 140, 3, 12, 7, 0)] (by decide +kernel) (g := (sK S l0 == 15) && (true)) (lv' := [some (.ref l0), some (.int l1), some (.int l2)]) (st' := [.int (D l0 7), .int l2]) (D' := D) (pc' := 9) rfl (ev_gk hl0 (rfl)) rfl ?_
    refine ev_ic_ge hX (off := 23) 32 (by decide +kernel) (by decide) (fun h1 => ?_) (fun h1 => ?_)
    · have hf := ev_it h1 hf
      refine ev_blk hX lkok_RX12 [(.iload_n 1, 1, 0, 0, 0)] (by decide +kernel) (g := true) (lv' := [some (.ref l0), some (.int l1), some (.int l2)]) (st' := [.int l1]) (D' := D) (pc' := 33) rfl (rfl) rfl ?_
      exact ev_iret hR ev_sm.rf (Option.some.inj hf) hC (by decide +kernel)
    · have hf := ev_nf h1 hf
      refine ev_blk hX lkok_RX12 [(.aload_n 0, 1, 0, 0, 0), (.iload_n 2, 1, 0, 0, 0)] (by decide +kernel) (g := true) (lv' := [some (.ref l0), some (.int l1), some (.int l2)]) (st' := [.int l2, .ref l0]) (D' := D) (pc' := 14) rfl (rfl) rfl ?_
      obtain ⟨v2, D2, hc2, hf⟩ := ev_bd_s hf
      refine ev_callV hX YX12_isAwake ml_RX12_143 (mX12_isAwake hT hl0 hc2) (vs := [.int l2]) (st := []) (by decide) 12 hl0 rfl rfl rfl (by decide +kernel) hC ?_
      show F S D2 17 [some (.ref l0), some (.int l1), some (.int l2)] [.int v2]
      refine ev_if_eq hX (off := 9) 26 (by decide +kernel) (by decide) (fun h3 => ?_) (fun h3 => ?_)
      · have hf := ev_it h3 hf
        refine ev_blk hX lkok_RX12 [(.iinc 2 1, 3, 0, 0, 1)] (by decide +kernel) (g := true) (lv' := [some (.ref l0), some (.int l1), some (.int (l2 + (1 : Int32)))]) (st' := []) (D' := D2) (pc' := 29) rfl (rfl) rfl ?_
        refine ev_goto hX (off := (-25)) 4 (by decide +kernel) (by decide) ?_
        exact ev_weak hX (ev_le_eq (ev_le_eq (ev_le_eq ev_le_nil))) (ih _ _ _ _ hl0 hf)
      · have hf := ev_nf h3 hf
        refine ev_blk hX lkok_RX12 [(.iload_n 1, 1, 0, 0, 0), (.iconst 1, 1, 0, 0, 1), (.iload_n 2, 1, 0, 0, 0), (.ishl, 1, 0, 0, 0), (.ior, 1, 0, 0, 0), (.istore_n 1, 1, 0, 0, 0), (.iinc 2 1, 3, 0, 0, 1)] (by decide +kernel) (g := true) (lv' := [some (.ref l0), some (.int (l1 ||| ((1 : Int32) <<< (l2 &&& 31)))), some (.int (l2 + (1 : Int32)))]) (st' := []) (D' := D2) (pc' := 29) rfl (rfl) rfl ?_
        refine ev_goto hX (off := (-25)) 4 (by decide +kernel) (by decide) ?_
        exact ev_weak hX (ev_le_eq (ev_le_eq (ev_le_eq ev_le_nil))) (ih _ _ _ _ hl0 hf)
set_option maxHeartbeats 4000000 in
set_option maxRecDepth 100000 in
theorem tX12_awakeSet {S : ev_S} {fu : Nat} {r : Int32 × ev_D} {F : ev_Fr} (hR : ev_R RX12 cX12_awakeSet 3 1 0 0 false (some .int) S r F) (hT : ev_Ty S) (hC : sC S ≤ 0 ∧ sA S ≤ 0) {l0 : Nat} {D : ev_D} (hl0 : sK S l0 = 15) (hf : fX12_awakeSet (sL S) (sE S) fu l0 D = some r) : F S D 0 [some (.ref l0), none, none] [] := by
  have hX := hR.X
  unfold fX12_awakeSet at hf
  refine ev_blk hX lkok_RX12 [(.iconst 0, 1, 0, 0, 0), (.istore_n 1, 1, 0, 0, 0), (.iconst 0, 1, 0, 0, 0), (.istore_n 2, 1, 0, 0, 0)] (by decide +kernel) (g := true) (lv' := [some (.ref l0), some (.int (0 : Int32)), some (.int (0 : Int32))]) (st' := []) (D' := D) (pc' := 4) rfl (rfl) rfl ?_
  exact ev_weak hX (ev_le_eq (ev_le_eq (ev_le_eq ev_le_nil))) (tX12_awakeSet_4 hR hT hC   fu _ _ _ _ hl0 hf)
theorem mX12_awakeSet {S : ev_S} {fu : Nat} {r : Int32 × ev_D} (hT : ev_Ty S) {l0 : Nat} {D : ev_D} (hl0 : sK S l0 = 15) (hf : fX12_awakeSet (sL S) (sE S) fu l0 D = some r) : ev_M 1 0 0 yX12_awakeSet cX12_awakeSet 3 (some .int) [.ref l0] S D S r :=
  ev_met (ini := false) (plainFor_of_name (by decide)) (fun h => by cases h) rfl (Nat.le_of_ble_eq_true rfl) (fun F hR => tX12_awakeSet (S := ev_z S) hR hT ⟨Nat.le_refl 0, Nat.le_refl 0⟩ hl0 hf)
set_option maxHeartbeats 4000000 in
set_option maxRecDepth 100000 in
theorem tX12_endsThought_2 {S : ev_S} {fu : Nat} {r : Int32 × ev_D} {F : ev_Fr} (hR : ev_R RX12 cX12_endsThought 2 0 0 0 false none S r F) (hT : ev_Ty S) (hC : sC S ≤ 0 ∧ sA S ≤ 0) : ∀ (n : Nat) (l0 : Nat) (l1 : Int32) (D : ev_D), sK S l0 = 15 → fX12_endsThought_2 (sL S) (sE S) fu n l0 l1 D = some r → F S D 2 [some (.ref l0), some (.int l1)] [] := by
  have hX := hR.X
  intro n
  induction n with
  | zero =>
    intro l0 l1 D hl0 hf
    rw [fX12_endsThought_2] at hf
    cases hf
  | succ n ih =>
    intro l0 l1 D hl0 hf
    rw [fX12_endsThought_2] at hf
    refine ev_blk hX lkok_RX12 [(.iload_n 1, 1, 0, 0, 0), (.bipush 44, 2, 0, 0, 44)] (by decide +kernel) (g := true) (lv' := [some (.ref l0), some (.int l1)]) (st' := [.int (44 : Int32), .int l1]) (D' := D) (pc' := 5) rfl (rfl) rfl ?_
    refine ev_ic_ge hX (off := 21) 26 (by decide +kernel) (by decide) (fun h1 => ?_) (fun h1 => ?_)
    · have hf := ev_it h1 hf
      refine ev_blk hX lkok_RX12 [(.aload_n 0, 1, 0, 0, 0), (.iconst 0, 1, 0, 0, 0), (.putfield 134, 3, 12, 5, 0)] (by decide +kernel) (g := (sK S l0 == 15 && ((0 : Int32) == 0 || (0 : Int32) == 1)) && (true)) (lv' := [some (.ref l0), some (.int l1)]) (st' := []) (D' := (ev_up D l0 5 (0 : Int32))) (pc' := 31) rfl (ev_gz hl0 rfl (rfl)) rfl ?_
      exact ev_vret hR ev_sm.rf (Option.some.inj hf) hC (by decide +kernel)
    · have hf := ev_nf h1 hf
      obtain ⟨hg2, hf⟩ := ev_gd_s hf
      obtain ⟨hg3, hf⟩ := ev_gd_s hf
      refine ev_blk hX lkok_RX12 [(.aload_n 0, 1, 0, 0, 0), (.getfield 7, 3, 12, 1, 0), (.iload_n 1, 1, 0, 0, 0), (.aload_n 0, 1, 0, 0, 0), (.getfield 16, 3, 12, 4, 0), (.iload_n 1, 1, 0, 0, 0), (.iaload, 1, 0, 0, 0), (.iastore, 1, 0, 0, 0), (.iinc 1 1, 3, 0, 0, 1)] (by decide +kernel) (g := (sK S l0 == 15) && ((sK S l0 == 15) && ((sK S ((sE S) l0 4) == 1 && ev_in l1 ((sL S) ((sE S) l0 4))) && ((sK S ((sE S) l0 1) == 1 && ev_in l1 ((sL S) ((sE S) l0 1))) && (true))))) (lv' := [some (.ref l0), some (.int (l1 + (1 : Int32)))]) (st' := []) (D' := (ev_up D ((sE S) l0 1) (l1).toNatClampNeg (D ((sE S) l0 4) (l1).toNatClampNeg))) (pc' := 23) rfl (ev_gk hl0 (ev_gk hl0 (ev_gi (ev_tyk hT hl0 rfl rfl) hg2 (ev_gi (ev_tyk hT hl0 rfl rfl) hg3 (rfl))))) rfl ?_
      refine ev_goto hX (off := (-21)) 2 (by decide +kernel) (by decide) ?_
      exact ev_weak hX (ev_le_eq (ev_le_eq ev_le_nil)) (ih _ _ _ hl0 hf)
set_option maxHeartbeats 4000000 in
set_option maxRecDepth 100000 in
theorem tX12_endsThought {S : ev_S} {fu : Nat} {r : Int32 × ev_D} {F : ev_Fr} (hR : ev_R RX12 cX12_endsThought 2 0 0 0 false none S r F) (hT : ev_Ty S) (hC : sC S ≤ 0 ∧ sA S ≤ 0) {l0 : Nat} {D : ev_D} (hl0 : sK S l0 = 15) (hf : fX12_endsThought (sL S) (sE S) fu l0 D = some r) : F S D 0 [some (.ref l0), none] [] := by
  have hX := hR.X
  unfold fX12_endsThought at hf
  refine ev_blk hX lkok_RX12 [(.iconst 0, 1, 0, 0, 0), (.istore_n 1, 1, 0, 0, 0)] (by decide +kernel) (g := true) (lv' := [some (.ref l0), some (.int (0 : Int32))]) (st' := []) (D' := D) (pc' := 2) rfl (rfl) rfl ?_
  exact ev_weak hX (ev_le_eq (ev_le_eq ev_le_nil)) (tX12_endsThought_2 hR hT hC   fu _ _ _ hl0 hf)
theorem mX12_endsThought {S : ev_S} {fu : Nat} {r : Int32 × ev_D} (hT : ev_Ty S) {l0 : Nat} {D : ev_D} (hl0 : sK S l0 = 15) (hf : fX12_endsThought (sL S) (sE S) fu l0 D = some r) : ev_M 0 0 0 yX12_endsThought cX12_endsThought 2 none [.ref l0] S D S r :=
  ev_met (ini := false) (plainFor_of_name (by decide)) (fun h => by cases h) rfl (Nat.le_of_ble_eq_true rfl) (fun F hR => tX12_endsThought (S := ev_z S) hR hT ⟨Nat.le_refl 0, Nat.le_refl 0⟩ hl0 hf)
set_option maxHeartbeats 4000000 in
set_option maxRecDepth 100000 in
theorem tX12_thinks_2 {S : ev_S} {fu : Nat} {r : Int32 × ev_D} {F : ev_Fr} (hR : ev_R RX12 cX12_thinks 2 0 0 0 false none S r F) (hT : ev_Ty S) (hC : sC S ≤ 0 ∧ sA S ≤ 0) : ∀ (n : Nat) (l0 : Nat) (l1 : Int32) (D : ev_D), sK S l0 = 15 → fX12_thinks_2 (sL S) (sE S) fu n l0 l1 D = some r → F S D 2 [some (.ref l0), some (.int l1)] [] := by
  have hX := hR.X
  intro n
  induction n with
  | zero =>
    intro l0 l1 D hl0 hf
    rw [fX12_thinks_2] at hf
    cases hf
  | succ n ih =>
    intro l0 l1 D hl0 hf
    rw [fX12_thinks_2] at hf
    refine ev_blk hX lkok_RX12 [(.iload_n 1, 1, 0, 0, 0), (.bipush 44, 2, 0, 0, 44)] (by decide +kernel) (g := true) (lv' := [some (.ref l0), some (.int l1)]) (st' := [.int (44 : Int32), .int l1]) (D' := D) (pc' := 5) rfl (rfl) rfl ?_
    refine ev_ic_ge hX (off := 21) 26 (by decide +kernel) (by decide) (fun h1 => ?_) (fun h1 => ?_)
    · have hf := ev_it h1 hf
      refine ev_blk hX lkok_RX12 [(.aload_n 0, 1, 0, 0, 0), (.iconst 1, 1, 0, 0, 1), (.putfield 134, 3, 12, 5, 0)] (by decide +kernel) (g := (sK S l0 == 15 && ((1 : Int32) == 0 || (1 : Int32) == 1)) && (true)) (lv' := [some (.ref l0), some (.int l1)]) (st' := []) (D' := (ev_up D l0 5 (1 : Int32))) (pc' := 31) rfl (ev_gz hl0 rfl (rfl)) rfl ?_
      exact ev_vret hR ev_sm.rf (Option.some.inj hf) hC (by decide +kernel)
    · have hf := ev_nf h1 hf
      obtain ⟨hg2, hf⟩ := ev_gd_s hf
      obtain ⟨hg3, hf⟩ := ev_gd_s hf
      refine ev_blk hX lkok_RX12 [(.aload_n 0, 1, 0, 0, 0), (.getfield 16, 3, 12, 4, 0), (.iload_n 1, 1, 0, 0, 0), (.aload_n 0, 1, 0, 0, 0), (.getfield 7, 3, 12, 1, 0), (.iload_n 1, 1, 0, 0, 0), (.iaload, 1, 0, 0, 0), (.iastore, 1, 0, 0, 0), (.iinc 1 1, 3, 0, 0, 1)] (by decide +kernel) (g := (sK S l0 == 15) && ((sK S l0 == 15) && ((sK S ((sE S) l0 1) == 1 && ev_in l1 ((sL S) ((sE S) l0 1))) && ((sK S ((sE S) l0 4) == 1 && ev_in l1 ((sL S) ((sE S) l0 4))) && (true))))) (lv' := [some (.ref l0), some (.int (l1 + (1 : Int32)))]) (st' := []) (D' := (ev_up D ((sE S) l0 4) (l1).toNatClampNeg (D ((sE S) l0 1) (l1).toNatClampNeg))) (pc' := 23) rfl (ev_gk hl0 (ev_gk hl0 (ev_gi (ev_tyk hT hl0 rfl rfl) hg2 (ev_gi (ev_tyk hT hl0 rfl rfl) hg3 (rfl))))) rfl ?_
      refine ev_goto hX (off := (-21)) 2 (by decide +kernel) (by decide) ?_
      exact ev_weak hX (ev_le_eq (ev_le_eq ev_le_nil)) (ih _ _ _ hl0 hf)
set_option maxHeartbeats 4000000 in
set_option maxRecDepth 100000 in
theorem tX12_thinks {S : ev_S} {fu : Nat} {r : Int32 × ev_D} {F : ev_Fr} (hR : ev_R RX12 cX12_thinks 2 0 0 0 false none S r F) (hT : ev_Ty S) (hC : sC S ≤ 0 ∧ sA S ≤ 0) {l0 : Nat} {D : ev_D} (hl0 : sK S l0 = 15) (hf : fX12_thinks (sL S) (sE S) fu l0 D = some r) : F S D 0 [some (.ref l0), none] [] := by
  have hX := hR.X
  unfold fX12_thinks at hf
  refine ev_blk hX lkok_RX12 [(.iconst 0, 1, 0, 0, 0), (.istore_n 1, 1, 0, 0, 0)] (by decide +kernel) (g := true) (lv' := [some (.ref l0), some (.int (0 : Int32))]) (st' := []) (D' := D) (pc' := 2) rfl (rfl) rfl ?_
  exact ev_weak hX (ev_le_eq (ev_le_eq ev_le_nil)) (tX12_thinks_2 hR hT hC   fu _ _ _ hl0 hf)
theorem mX12_thinks {S : ev_S} {fu : Nat} {r : Int32 × ev_D} (hT : ev_Ty S) {l0 : Nat} {D : ev_D} (hl0 : sK S l0 = 15) (hf : fX12_thinks (sL S) (sE S) fu l0 D = some r) : ev_M 0 0 0 yX12_thinks cX12_thinks 2 none [.ref l0] S D S r :=
  ev_met (ini := false) (plainFor_of_name (by decide)) (fun h => by cases h) rfl (Nat.le_of_ble_eq_true rfl) (fun F hR => tX12_thinks (S := ev_z S) hR hT ⟨Nat.le_refl 0, Nat.le_refl 0⟩ hl0 hf)
set_option maxHeartbeats 4000000 in
set_option maxRecDepth 100000 in
theorem tX12_goes_125 {S : ev_S} {fu : Nat} {r : Int32 × ev_D} {F : ev_Fr} (hR : ev_R RX12 cX12_goes 5 7 0 0 false (some .int) S r F) (hT : ev_Ty S) (hC : sC S ≤ 0 ∧ sA S ≤ 0) {l0 : Nat} {s0 : Int32} {D : ev_D} (hl0 : sK S l0 = 15) (hf : fX12_goes_125 (sL S) (sE S) fu l0 s0 D = some r) : F S D 125 [some (.ref l0), none, none, none, none] [.int s0] := by
  have hX := hR.X
  unfold fX12_goes_125 at hf
  refine ev_blk hX lkok_RX12 [(.istore 4, 2, 0, 0, 0), (.aload_n 0, 1, 0, 0, 0)] (by decide +kernel) (g := true) (lv' := [some (.ref l0), none, none, none, some (.int s0)]) (st' := [.ref l0]) (D' := D) (pc' := 128) rfl (rfl) rfl ?_
  obtain ⟨v1, D1, hc1, hf⟩ := ev_bd_s hf
  refine ev_callV hX YX12_endsThought ml_RX12_387 (mX12_endsThought hT hl0 hc1) (vs := []) (st := []) (by decide) 12 hl0 rfl rfl rfl (by decide +kernel) hC ?_
  show F S D1 131 [some (.ref l0), none, none, none, some (.int s0)] []
  refine ev_blk hX lkok_RX12 [(.iload 4, 2, 0, 0, 0)] (by decide +kernel) (g := true) (lv' := [some (.ref l0), none, none, none, some (.int s0)]) (st' := [.int s0]) (D' := D1) (pc' := 133) rfl (rfl) rfl ?_
  exact ev_iret hR ev_sm.rf (Option.some.inj hf) hC (by decide +kernel)
set_option maxHeartbeats 4000000 in
set_option maxRecDepth 100000 in
theorem tX12_goes_55 {S : ev_S} {fu : Nat} {r : Int32 × ev_D} {F : ev_Fr} (hR : ev_R RX12 cX12_goes 5 7 0 0 false (some .int) S r F) (hT : ev_Ty S) (hC : sC S ≤ 0 ∧ sA S ≤ 0) : ∀ (n : Nat) (l0 : Nat) (l2 : Int32) (l3 : Int32) (l4 : Int32) (D : ev_D), sK S l0 = 15 → fX12_goes_55 (sL S) (sE S) fu n l0 l2 l3 l4 D = some r → F S D 55 [some (.ref l0), none, some (.int l2), some (.int l3), some (.int l4)] [] := by
  have hX := hR.X
  intro n
  induction n with
  | zero =>
    intro l0 l2 l3 l4 D hl0 hf
    rw [fX12_goes_55] at hf
    cases hf
  | succ n ih =>
    intro l0 l2 l3 l4 D hl0 hf
    rw [fX12_goes_55] at hf
    refine ev_blk hX lkok_RX12 [(.iload 4, 2, 0, 0, 0), (.bipush 8, 2, 0, 0, 8)] (by decide +kernel) (g := true) (lv' := [some (.ref l0), none, some (.int l2), some (.int l3), some (.int l4)]) (st' := [.int (8 : Int32), .int l4]) (D' := D) (pc' := 59) rfl (rfl) rfl ?_
    refine ev_ic_ge hX (off := 22) 81 (by decide +kernel) (by decide) (fun h2 => ?_) (fun h2 => ?_)
    · have hf := ev_it h2 hf
      refine ev_blk hX lkok_RX12 [(.iload_n 2, 1, 0, 0, 0)] (by decide +kernel) (g := true) (lv' := [some (.ref l0), none, some (.int l2), some (.int l3), some (.int l4)]) (st' := [.int l2]) (D' := D) (pc' := 82) rfl (rfl) rfl ?_
      refine ev_if_ne hX (off := 12) 94 (by decide +kernel) (by decide) (fun h3 => ?_) (fun h3 => ?_)
      · have hf := ev_nf h3 hf
        refine ev_blk hX lkok_RX12 [(.iload_n 2, 1, 0, 0, 0), (.iconst 1, 1, 0, 0, 1)] (by decide +kernel) (g := true) (lv' := [some (.ref l0), none, some (.int l2), some (.int l3), some (.int l4)]) (st' := [.int (1 : Int32), .int l2]) (D' := D) (pc' := 96) rfl (rfl) rfl ?_
        refine ev_ic_ne hX (off := 7) 103 (by decide +kernel) (by decide) (fun h4 => ?_) (fun h4 => ?_)
        · have hf := ev_nf h4 hf
          refine ev_blk hX lkok_RX12 [(.iload_n 2, 1, 0, 0, 0), (.iconst 2, 1, 0, 0, 2)] (by decide +kernel) (g := true) (lv' := [some (.ref l0), none, some (.int l2), some (.int l3), some (.int l4)]) (st' := [.int (2 : Int32), .int l2]) (D' := D) (pc' := 105) rfl (rfl) rfl ?_
          refine ev_ic_ne hX (off := 12) 117 (by decide +kernel) (by decide) (fun h5 => ?_) (fun h5 => ?_)
          · have hf := ev_nf h5 hf
            refine ev_blk hX lkok_RX12 [(.aload_n 0, 1, 0, 0, 0), (.aload_n 0, 1, 0, 0, 0)] (by decide +kernel) (g := true) (lv' := [some (.ref l0), none, some (.int l2), some (.int l3), some (.int l4)]) (st' := [.ref l0, .ref l0]) (D' := D) (pc' := 119) rfl (rfl) rfl ?_
            obtain ⟨v6, D6, hc6, hf⟩ := ev_bd_s hf
            refine ev_callV hX YX12_awakeSet ml_RX12_384 (mX12_awakeSet hT hl0 hc6) (vs := []) (st := [.ref l0]) (by decide) 12 hl0 rfl rfl rfl (by decide +kernel) hC ?_
            show F S D6 122 [some (.ref l0), none, some (.int l2), some (.int l3), some (.int l4)] [.int v6, .ref l0]
            obtain ⟨v7, D7, hc7, hf⟩ := ev_bd_s hf
            refine ev_callV hX YX12_onesOf ml_RX12_326 (mX12_onesOf hT hl0 hc7) (vs := [.int v6]) (st := []) (by decide) 12 hl0 rfl rfl rfl (by decide +kernel) hC ?_
            show F S D7 125 [some (.ref l0), none, some (.int l2), some (.int l3), some (.int l4)] [.int v7]
            exact ev_weak hX (ev_le_eq (ev_le_no (ev_le_no (ev_le_no (ev_le_no ev_le_nil))))) (tX12_goes_125 hR hT hC   hl0 hf)
          · have hf := ev_it h5 hf
            obtain ⟨hg8, hf⟩ := ev_gd_s hf
            refine ev_blk hX lkok_RX12 [(.aload_n 0, 1, 0, 0, 0), (.getfield 7, 3, 12, 1, 0), (.iconst 3, 1, 0, 0, 3), (.iaload, 1, 0, 0, 0)] (by decide +kernel) (g := (sK S l0 == 15) && ((sK S ((sE S) l0 1) == 1 && ev_in (3 : Int32) ((sL S) ((sE S) l0 1))) && (true))) (lv' := [some (.ref l0), none, some (.int l2), some (.int l3), some (.int l4)]) (st' := [.int (D ((sE S) l0 1) ((3 : Int32)).toNatClampNeg)]) (D' := D) (pc' := 114) rfl (ev_gk hl0 (ev_gi (ev_tyk hT hl0 rfl rfl) hg8 (rfl))) rfl ?_
            refine ev_goto hX (off := 11) 125 (by decide +kernel) (by decide) ?_
            exact ev_weak hX (ev_le_eq (ev_le_no (ev_le_no (ev_le_no (ev_le_no ev_le_nil))))) (tX12_goes_125 hR hT hC   hl0 hf)
        · have hf := ev_it h4 hf
          refine ev_blk hX lkok_RX12 [(.iload_n 3, 1, 0, 0, 0)] (by decide +kernel) (g := true) (lv' := [some (.ref l0), none, some (.int l2), some (.int l3), some (.int l4)]) (st' := [.int l3]) (D' := D) (pc' := 100) rfl (rfl) rfl ?_
          refine ev_goto hX (off := 25) 125 (by decide +kernel) (by decide) ?_
          exact ev_weak hX (ev_le_eq (ev_le_no (ev_le_no (ev_le_no (ev_le_no ev_le_nil))))) (tX12_goes_125 hR hT hC   hl0 hf)
      · have hf := ev_it h3 hf
        obtain ⟨hg9, hf⟩ := ev_gd_s hf
        refine ev_blk hX lkok_RX12 [(.aload_n 0, 1, 0, 0, 0), (.getfield 7, 3, 12, 1, 0), (.iconst 5, 1, 0, 0, 5), (.iaload, 1, 0, 0, 0)] (by decide +kernel) (g := (sK S l0 == 15) && ((sK S ((sE S) l0 1) == 1 && ev_in (5 : Int32) ((sL S) ((sE S) l0 1))) && (true))) (lv' := [some (.ref l0), none, some (.int l2), some (.int l3), some (.int l4)]) (st' := [.int (D ((sE S) l0 1) ((5 : Int32)).toNatClampNeg)]) (D' := D) (pc' := 91) rfl (ev_gk hl0 (ev_gi (ev_tyk hT hl0 rfl rfl) hg9 (rfl))) rfl ?_
        refine ev_goto hX (off := 34) 125 (by decide +kernel) (by decide) ?_
        exact ev_weak hX (ev_le_eq (ev_le_no (ev_le_no (ev_le_no (ev_le_no ev_le_nil))))) (tX12_goes_125 hR hT hC   hl0 hf)
    · have hf := ev_nf h2 hf
      obtain ⟨hg10, hf⟩ := ev_gd_s hf
      refine ev_blk hX lkok_RX12 [(.iload_n 3, 1, 0, 0, 0), (.aload_n 0, 1, 0, 0, 0), (.getfield 7, 3, 12, 1, 0), (.bipush 6, 2, 0, 0, 6), (.iload 4, 2, 0, 0, 0), (.iadd, 1, 0, 0, 0), (.iaload, 1, 0, 0, 0), (.iadd, 1, 0, 0, 0), (.istore_n 3, 1, 0, 0, 0), (.iinc 4 1, 3, 0, 0, 1)] (by decide +kernel) (g := (sK S l0 == 15) && ((sK S ((sE S) l0 1) == 1 && ev_in ((6 : Int32) + l4) ((sL S) ((sE S) l0 1))) && (true))) (lv' := [some (.ref l0), none, some (.int l2), some (.int (l3 + (D ((sE S) l0 1) (((6 : Int32) + l4)).toNatClampNeg))), some (.int (l4 + (1 : Int32)))]) (st' := []) (D' := D) (pc' := 78) rfl (ev_gk hl0 (ev_gi (ev_tyk hT hl0 rfl rfl) hg10 (rfl))) rfl ?_
      refine ev_goto hX (off := (-23)) 55 (by decide +kernel) (by decide) ?_
      exact ev_weak hX (ev_le_eq (ev_le_no (ev_le_eq (ev_le_eq (ev_le_eq ev_le_nil))))) (ih _ _ _ _ _ hl0 hf)
set_option maxHeartbeats 4000000 in
set_option maxRecDepth 100000 in
theorem tX12_goes_34 {S : ev_S} {fu : Nat} {r : Int32 × ev_D} {F : ev_Fr} (hR : ev_R RX12 cX12_goes 5 7 0 0 false (some .int) S r F) (hT : ev_Ty S) (hC : sC S ≤ 0 ∧ sA S ≤ 0) : ∀ (n : Nat) (l0 : Nat) (l1 : Int32) (l2 : Int32) (l3 : Int32) (D : ev_D), sK S l0 = 15 → fX12_goes_34 (sL S) (sE S) fu n l0 l1 l2 l3 D = some r → F S D 34 [some (.ref l0), some (.int l1), some (.int l2), some (.int l3), none] [] := by
  have hX := hR.X
  intro n
  induction n with
  | zero =>
    intro l0 l1 l2 l3 D hl0 hf
    rw [fX12_goes_34] at hf
    cases hf
  | succ n ih =>
    intro l0 l1 l2 l3 D hl0 hf
    rw [fX12_goes_34] at hf
    refine ev_blk hX lkok_RX12 [(.iload_n 3, 1, 0, 0, 0), (.iload_n 1, 1, 0, 0, 0)] (by decide +kernel) (g := true) (lv' := [some (.ref l0), some (.int l1), some (.int l2), some (.int l3), none]) (st' := [.int l1, .int l3]) (D' := D) (pc' := 36) rfl (rfl) rfl ?_
    refine ev_ic_ge hX (off := 14) 50 (by decide +kernel) (by decide) (fun h11 => ?_) (fun h11 => ?_)
    · have hf := ev_it h11 hf
      refine ev_blk hX lkok_RX12 [(.iconst 0, 1, 0, 0, 0), (.istore_n 3, 1, 0, 0, 0), (.iconst 0, 1, 0, 0, 0), (.istore 4, 2, 0, 0, 0)] (by decide +kernel) (g := true) (lv' := [some (.ref l0), some (.int l1), some (.int l2), some (.int (0 : Int32)), some (.int (0 : Int32))]) (st' := []) (D' := D) (pc' := 55) rfl (rfl) rfl ?_
      exact ev_weak hX (ev_le_eq (ev_le_no (ev_le_eq (ev_le_eq (ev_le_eq ev_le_nil))))) (tX12_goes_55 hR hT hC   fu _ _ _ _ _ hl0 hf)
    · have hf := ev_nf h11 hf
      refine ev_blk hX lkok_RX12 [(.aload_n 0, 1, 0, 0, 0)] (by decide +kernel) (g := true) (lv' := [some (.ref l0), some (.int l1), some (.int l2), some (.int l3), none]) (st' := [.ref l0]) (D' := D) (pc' := 40) rfl (rfl) rfl ?_
      obtain ⟨v12, D12, hc12, hf⟩ := ev_bd_s hf
      refine ev_callV hX YX12_goesBy ml_RX12_378 (mX12_goesBy hT hl0 hc12) (vs := []) (st := []) (by decide) 12 hl0 rfl rfl rfl (by decide +kernel) hC ?_
      show F S D12 43 [some (.ref l0), some (.int l1), some (.int l2), some (.int l3), none] [.int v12]
      refine ev_blk hX lkok_RX12 [(.pop, 1, 0, 0, 0), (.iinc 3 1, 3, 0, 0, 1)] (by decide +kernel) (g := true) (lv' := [some (.ref l0), some (.int l1), some (.int l2), some (.int (l3 + (1 : Int32))), none]) (st' := []) (D' := D12) (pc' := 47) rfl (rfl) rfl ?_
      refine ev_goto hX (off := (-13)) 34 (by decide +kernel) (by decide) ?_
      exact ev_weak hX (ev_le_eq (ev_le_eq (ev_le_eq (ev_le_eq (ev_le_no ev_le_nil))))) (ih _ _ _ _ _ hl0 hf)
set_option maxHeartbeats 4000000 in
set_option maxRecDepth 100000 in
theorem tX12_goes {S : ev_S} {fu : Nat} {r : Int32 × ev_D} {F : ev_Fr} (hR : ev_R RX12 cX12_goes 5 7 0 0 false (some .int) S r F) (hT : ev_Ty S) (hC : sC S ≤ 0 ∧ sA S ≤ 0) {l0 : Nat} {l1 : Int32} {l2 : Int32} {D : ev_D} (hl0 : sK S l0 = 15) (hf : fX12_goes (sL S) (sE S) fu l0 l1 l2 D = some r) : F S D 0 [some (.ref l0), some (.int l1), some (.int l2), none, none] [] := by
  have hX := hR.X
  unfold fX12_goes at hf
  refine ev_blk hX lkok_RX12 [(.aload_n 0, 1, 0, 0, 0), (.iconst 0, 1, 0, 0, 0), (.putfield 128, 3, 12, 0, 0), (.aload_n 0, 1, 0, 0, 0), (.iload_n 1, 1, 0, 0, 0), (.iconst 1, 1, 0, 0, 1), (.bipush 60, 2, 0, 0, 60)] (by decide +kernel) (g := (sK S l0 == 15) && (true)) (lv' := [some (.ref l0), some (.int l1), some (.int l2), none, none]) (st' := [.int (60 : Int32), .int (1 : Int32), .int l1, .ref l0]) (D' := (ev_up D l0 0 (0 : Int32))) (pc' := 10) rfl (ev_gk hl0 (rfl)) rfl ?_
  obtain ⟨v13, D13, hc13, hf⟩ := ev_bd_s hf
  refine ev_callV hX YX12_isIn ml_RX12_150 (mX12_isIn hT hl0 hc13) (vs := [.int l1, .int (1 : Int32), .int (60 : Int32)]) (st := []) (by decide) 12 hl0 rfl rfl rfl (by decide +kernel) hC ?_
  show F S D13 13 [some (.ref l0), some (.int l1), some (.int l2), none, none] [.int v13]
  refine ev_if_eq hX (off := 13) 26 (by decide +kernel) (by decide) (fun h14 => ?_) (fun h14 => ?_)
  · have hf := ev_it h14 hf
    refine ev_blk hX lkok_RX12 [(.iconst (-1), 1, 0, 0, (-1))] (by decide +kernel) (g := true) (lv' := [some (.ref l0), some (.int l1), some (.int l2), none, none]) (st' := [.int (-1 : Int32)]) (D' := D13) (pc' := 27) rfl (rfl) rfl ?_
    exact ev_iret hR ev_sm.rf (Option.some.inj hf) hC (by decide +kernel)
  · have hf := ev_nf h14 hf
    refine ev_blk hX lkok_RX12 [(.aload_n 0, 1, 0, 0, 0), (.iload_n 2, 1, 0, 0, 0), (.iconst 0, 1, 0, 0, 0), (.iconst 3, 1, 0, 0, 3)] (by decide +kernel) (g := true) (lv' := [some (.ref l0), some (.int l1), some (.int l2), none, none]) (st' := [.int (3 : Int32), .int (0 : Int32), .int l2, .ref l0]) (D' := D13) (pc' := 20) rfl (rfl) rfl ?_
    obtain ⟨v15, D15, hc15, hf⟩ := ev_bd_s hf
    refine ev_callV hX YX12_isIn ml_RX12_150 (mX12_isIn hT hl0 hc15) (vs := [.int l2, .int (0 : Int32), .int (3 : Int32)]) (st := []) (by decide) 12 hl0 rfl rfl rfl (by decide +kernel) hC ?_
    show F S D15 23 [some (.ref l0), some (.int l1), some (.int l2), none, none] [.int v15]
    refine ev_if_ne hX (off := 5) 28 (by decide +kernel) (by decide) (fun h16 => ?_) (fun h16 => ?_)
    · have hf := ev_nf h16 hf
      refine ev_blk hX lkok_RX12 [(.aload_n 0, 1, 0, 0, 0)] (by decide +kernel) (g := true) (lv' := [some (.ref l0), some (.int l1), some (.int l2), none, none]) (st' := [.ref l0]) (D' := D15) (pc' := 29) rfl (rfl) rfl ?_
      obtain ⟨v17, D17, hc17, hf⟩ := ev_bd_s hf
      refine ev_callV hX YX12_thinks ml_RX12_381 (mX12_thinks hT hl0 hc17) (vs := []) (st := []) (by decide) 12 hl0 rfl rfl rfl (by decide +kernel) hC ?_
      show F S D17 32 [some (.ref l0), some (.int l1), some (.int l2), none, none] []
      refine ev_blk hX lkok_RX12 [(.iconst 0, 1, 0, 0, 0), (.istore_n 3, 1, 0, 0, 0)] (by decide +kernel) (g := true) (lv' := [some (.ref l0), some (.int l1), some (.int l2), some (.int (0 : Int32)), none]) (st' := []) (D' := D17) (pc' := 34) rfl (rfl) rfl ?_
      exact ev_weak hX (ev_le_eq (ev_le_eq (ev_le_eq (ev_le_eq (ev_le_no ev_le_nil))))) (tX12_goes_34 hR hT hC   fu _ _ _ _ _ hl0 hf)
    · have hf := ev_it h16 hf
      refine ev_blk hX lkok_RX12 [(.iconst (-1), 1, 0, 0, (-1))] (by decide +kernel) (g := true) (lv' := [some (.ref l0), some (.int l1), some (.int l2), none, none]) (st' := [.int (-1 : Int32)]) (D' := D15) (pc' := 27) rfl (rfl) rfl ?_
      exact ev_iret hR ev_sm.rf (Option.some.inj hf) hC (by decide +kernel)
theorem mX12_goes {S : ev_S} {fu : Nat} {r : Int32 × ev_D} (hT : ev_Ty S) {l0 : Nat} {l1 : Int32} {l2 : Int32} {D : ev_D} (hl0 : sK S l0 = 15) (hf : fX12_goes (sL S) (sE S) fu l0 l1 l2 D = some r) : ev_M 7 0 0 yX12_goes cX12_goes 5 (some .int) [.ref l0, .int l1, .int l2] S D S r :=
  ev_met (ini := false) (plainFor_of_name (by decide)) (fun h => by cases h) rfl (Nat.le_of_ble_eq_true rfl) (fun F hR => tX12_goes (S := ev_z S) hR hT ⟨Nat.le_refl 0, Nat.le_refl 0⟩ hl0 hf)
