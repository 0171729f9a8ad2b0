set_option maxHeartbeats 4000000 in
set_option maxRecDepth 100000 in
theorem tX4_readComparison {S : ev_S} {fu : Nat} {r : Int32 × ev_D} {F : ev_Fr} (hR : ev_R RX4 cX4_readComparison 2 3 0 0 false (some .boolean) S r F) (hT : ev_Ty S) (hC : sC S ≤ 0 ∧ sA S ≤ 0) {l0 : Nat} {D : ev_D} (hl0 : sK S l0 = 7) (hf : fX4_readComparison (sL S) (sE S) fu l0 D = some r) : F S D 0 [some (.ref l0), none] [] := by
  have hX := hR.X
  unfold fX4_readComparison at hf
  refine ev_blk hX lkok_RX4 [(.aload_n 0, 1, 0, 0, 0)] (by decide +kernel) (g := true) (lv' := [some (.ref l0), none]) (st' := [.ref l0]) (D' := D) (pc' := 1) rfl (rfl) rfl ?_
  obtain ⟨v1, D1, hc1, hf⟩ := ev_bd_s hf
  refine ev_callV hX YX4_readNumber ml_RX4_171 (mX4_readNumber hT hl0 hc1) (vs := []) (st := []) (by decide) 4 hl0 rfl rfl rfl (by decide +kernel) hC ?_
  show F S D1 4 [some (.ref l0), none] [.int v1]
  refine ev_if_ne hX (off := 5) 9 (by decide +kernel) (by decide) (fun h2 => ?_) (fun h2 => ?_)
  · have hf := ev_nf h2 hf
    refine ev_blk hX lkok_RX4 [(.aload_n 0, 1, 0, 0, 0)] (by decide +kernel) (g := true) (lv' := [some (.ref l0), none]) (st' := [.ref l0]) (D' := D1) (pc' := 10) rfl (rfl) rfl ?_
    obtain ⟨v3, D3, hc3, hf⟩ := ev_bd_s hf
    refine ev_callV hX YX4_kind ml_RX4_63 (mX4_kind hT hl0 hc3) (vs := []) (st := []) (by decide) 4 hl0 rfl rfl rfl (by decide +kernel) hC ?_
    show F S D3 13 [some (.ref l0), none] [.int v3]
    refine ev_blk hX lkok_RX4 [(.istore_n 1, 1, 0, 0, 0), (.iload_n 1, 1, 0, 0, 0), (.bipush 60, 2, 0, 0, 60), (.bipush 62, 2, 0, 0, 62)] (by decide +kernel) (g := true) (lv' := [some (.ref l0), some (.int v3)]) (st' := [.int (62 : Int32), .int (60 : Int32), .int v3]) (D' := D3) (pc' := 19) rfl (rfl) rfl ?_
    obtain ⟨v4, D4, hc4, hf⟩ := ev_bd_s hf
    refine ev_callSN hX YX11_within ml_RX4_56 (mX11_within hT  hc4) (vs := [.int v3, .int (60 : Int32), .int (62 : Int32)]) (st := []) (by decide) rfl rfl (by decide +kernel) hC ?_
    show F S D4 22 [some (.ref l0), some (.int v3)] [.int v4]
    refine ev_if_ne hX (off := 9) 31 (by decide +kernel) (by decide) (fun h5 => ?_) (fun h5 => ?_)
    · have hf := ev_nf h5 hf
      refine ev_blk hX lkok_RX4 [(.aload_n 0, 1, 0, 0, 0), (.dup, 1, 0, 0, 0), (.getfield 44, 3, 4, 9, 0), (.iconst 1, 1, 0, 0, 1), (.iadd, 1, 0, 0, 0), (.putfield 44, 3, 4, 9, 0), (.aload_n 0, 1, 0, 0, 0)] (by decide +kernel) (g := (sK S l0 == 7) && ((sK S l0 == 7) && (true))) (lv' := [some (.ref l0), some (.int v3)]) (st' := [.ref l0]) (D' := (ev_up D4 l0 9 ((D4 l0 9) + (1 : Int32)))) (pc' := 42) rfl (ev_gk hl0 (ev_gk hl0 (rfl))) rfl ?_
      obtain ⟨v6, D6, hc6, hf⟩ := ev_bd_s hf
      refine ev_callV hX YX4_readNumber ml_RX4_171 (mX4_readNumber hT hl0 hc6) (vs := []) (st := []) (by decide) 4 hl0 rfl rfl rfl (by decide +kernel) hC ?_
      show F S D6 45 [some (.ref l0), some (.int v3)] [.int v6]
      refine ev_if_ne hX (off := 5) 50 (by decide +kernel) (by decide) (fun h7 => ?_) (fun h7 => ?_)
      · have hf := ev_nf h7 hf
        refine ev_blk hX lkok_RX4 [(.aload_n 0, 1, 0, 0, 0), (.getfield 14, 3, 4, 0, 0), (.getfield 90, 3, 7, 0, 0), (.sipush 10105, 3, 0, 0, 10105), (.iload_n 1, 1, 0, 0, 0), (.iadd, 1, 0, 0, 0), (.bipush 60, 2, 0, 0, 60), (.isub, 1, 0, 0, 0)] (by decide +kernel) (g := (sK S l0 == 7) && ((sK S ((sE S) l0 0) == 10) && (true))) (lv' := [some (.ref l0), some (.int v3)]) (st' := [.int (((10105 : Int32) + v3) - (60 : Int32)), .ref ((sE S) ((sE S) l0 0) 0)]) (D' := D6) (pc' := 65) rfl (ev_gk hl0 (ev_gk (ev_tyk hT hl0 rfl rfl) (rfl))) rfl ?_
        obtain ⟨v8, D8, hc8, hf⟩ := ev_bd_s hf
        refine ev_callV hX YX1_add ml_RX4_192 (mX1_add hT (ev_tyk hT (ev_tyk hT hl0 rfl rfl) rfl rfl) hc8) (vs := [.int (((10105 : Int32) + v3) - (60 : Int32))]) (st := []) (by decide) 1 (ev_tyk hT (ev_tyk hT hl0 rfl rfl) rfl rfl) rfl rfl rfl (by decide +kernel) hC ?_
        show F S D8 68 [some (.ref l0), some (.int v3)] []
        refine ev_blk hX lkok_RX4 [(.iconst 1, 1, 0, 0, 1)] (by decide +kernel) (g := true) (lv' := [some (.ref l0), some (.int v3)]) (st' := [.int (1 : Int32)]) (D' := D8) (pc' := 69) rfl (rfl) rfl ?_
        exact ev_zret hR ev_sm.rf (Or.inr rfl) (Option.some.inj hf) hC (by decide +kernel)
      · have hf := ev_it h7 hf
        refine ev_blk hX lkok_RX4 [(.iconst 0, 1, 0, 0, 0)] (by decide +kernel) (g := true) (lv' := [some (.ref l0), some (.int v3)]) (st' := [.int (0 : Int32)]) (D' := D6) (pc' := 49) rfl (rfl) rfl ?_
        exact ev_zret hR ev_sm.rf (Or.inl rfl) (Option.some.inj hf) hC (by decide +kernel)
    · have hf := ev_it h5 hf
      refine ev_blk hX lkok_RX4 [(.aload_n 0, 1, 0, 0, 0), (.iconst 1, 1, 0, 0, 1)] (by decide +kernel) (g := true) (lv' := [some (.ref l0), some (.int v3)]) (st' := [.int (1 : Int32), .ref l0]) (D' := D4) (pc' := 27) rfl (rfl) rfl ?_
      obtain ⟨v9, D9, hc9, hf⟩ := ev_bd_s hf
      refine ev_callV hX YX4_refuse ml_RX4_71 (mX4_refuse hT hl0 hc9) (vs := [.int (1 : Int32)]) (st := []) (by decide) 4 hl0 rfl rfl rfl (by decide +kernel) hC ?_
      show F S D9 30 [some (.ref l0), some (.int v3)] [.int v9]
      obtain ⟨hz, hf⟩ := ev_gd_s hf
      exact ev_zret hR ev_sm.rf (ev_z01 hz) (Option.some.inj hf) hC (by decide +kernel)
  · have hf := ev_it h2 hf
    refine ev_blk hX lkok_RX4 [(.iconst 0, 1, 0, 0, 0)] (by decide +kernel) (g := true) (lv' := [some (.ref l0), none]) (st' := [.int (0 : Int32)]) (D' := D1) (pc' := 8) rfl (rfl) rfl ?_
    exact ev_zret hR ev_sm.rf (Or.inl rfl) (Option.some.inj hf) hC (by decide +kernel)
theorem mX4_readComparison {S : ev_S} {fu : Nat} {r : Int32 × ev_D} (hT : ev_Ty S) {l0 : Nat} {D : ev_D} (hl0 : sK S l0 = 7) (hf : fX4_readComparison (sL S) (sE S) fu l0 D = some r) : ev_M 3 0 0 yX4_readComparison cX4_readComparison 2 (some .boolean) [.ref l0] S D S r :=
  ev_met (ini := false) (plainFor_of_name (by decide)) (fun h => by cases h) rfl (Nat.le_of_ble_eq_true rfl) (fun F hR => tX4_readComparison (S := ev_z S) hR hT ⟨Nat.le_refl 0, Nat.le_refl 0⟩ hl0 hf)
set_option maxHeartbeats 4000000 in
set_option maxRecDepth 100000 in
theorem tX4_take {S : ev_S} {fu : Nat} {r : Int32 × ev_D} {F : ev_Fr} (hR : ev_R RX4 cX4_take 2 1 0 0 false (some .boolean) S r F) (hT : ev_Ty S) (hC : sC S ≤ 0 ∧ sA S ≤ 0) {l0 : Nat} {l1 : Int32} {D : ev_D} (hl0 : sK S l0 = 7) (hf : fX4_take (sL S) (sE S) fu l0 l1 D = some r) : F S D 0 [some (.ref l0), some (.int l1)] [] := by
  have hX := hR.X
  unfold fX4_take at hf
  refine ev_blk hX lkok_RX4 [(.aload_n 0, 1, 0, 0, 0)] (by decide +kernel) (g := true) (lv' := [some (.ref l0), some (.int l1)]) (st' := [.ref l0]) (D' := D) (pc' := 1) rfl (rfl) rfl ?_
  obtain ⟨v1, D1, hc1, hf⟩ := ev_bd_s hf
  refine ev_callV hX YX4_kind ml_RX4_63 (mX4_kind hT hl0 hc1) (vs := []) (st := []) (by decide) 4 hl0 rfl rfl rfl (by decide +kernel) hC ?_
  show F S D1 4 [some (.ref l0), some (.int l1)] [.int v1]
  refine ev_blk hX lkok_RX4 [(.iload_n 1, 1, 0, 0, 0)] (by decide +kernel) (g := true) (lv' := [some (.ref l0), some (.int l1)]) (st' := [.int l1, .int v1]) (D' := D1) (pc' := 5) rfl (rfl) rfl ?_
  refine ev_ic_eq hX (off := 9) 14 (by decide +kernel) (by decide) (fun h2 => ?_) (fun h2 => ?_)
  · have hf := ev_it h2 hf
    refine ev_blk hX lkok_RX4 [(.aload_n 0, 1, 0, 0, 0), (.dup, 1, 0, 0, 0), (.getfield 44, 3, 4, 9, 0), (.iconst 1, 1, 0, 0, 1), (.iadd, 1, 0, 0, 0), (.putfield 44, 3, 4, 9, 0), (.iconst 1, 1, 0, 0, 1)] (by decide +kernel) (g := (sK S l0 == 7) && ((sK S l0 == 7) && (true))) (lv' := [some (.ref l0), some (.int l1)]) (st' := [.int (1 : Int32)]) (D' := (ev_up D1 l0 9 ((D1 l0 9) + (1 : Int32)))) (pc' := 25) rfl (ev_gk hl0 (ev_gk hl0 (rfl))) rfl ?_
    exact ev_zret hR ev_sm.rf (Or.inr rfl) (Option.some.inj hf) hC (by decide +kernel)
  · have hf := ev_nf h2 hf
    refine ev_blk hX lkok_RX4 [(.aload_n 0, 1, 0, 0, 0), (.iconst 1, 1, 0, 0, 1)] (by decide +kernel) (g := true) (lv' := [some (.ref l0), some (.int l1)]) (st' := [.int (1 : Int32), .ref l0]) (D' := D1) (pc' := 10) rfl (rfl) rfl ?_
    obtain ⟨v3, D3, hc3, hf⟩ := ev_bd_s hf
    refine ev_callV hX YX4_refuse ml_RX4_71 (mX4_refuse hT hl0 hc3) (vs := [.int (1 : Int32)]) (st := []) (by decide) 4 hl0 rfl rfl rfl (by decide +kernel) hC ?_
    show F S D3 13 [some (.ref l0), some (.int l1)] [.int v3]
    obtain ⟨hz, hf⟩ := ev_gd_s hf
    exact ev_zret hR ev_sm.rf (ev_z01 hz) (Option.some.inj hf) hC (by decide +kernel)
theorem mX4_take {S : ev_S} {fu : Nat} {r : Int32 × ev_D} (hT : ev_Ty S) {l0 : Nat} {l1 : Int32} {D : ev_D} (hl0 : sK S l0 = 7) (hf : fX4_take (sL S) (sE S) fu l0 l1 D = some r) : ev_M 1 0 0 yX4_take cX4_take 2 (some .boolean) [.ref l0, .int l1] S D S r :=
  ev_met (ini := false) (plainFor_of_name (by decide)) (fun h => by cases h) rfl (Nat.le_of_ble_eq_true rfl) (fun F hR => tX4_take (S := ev_z S) hR hT ⟨Nat.le_refl 0, Nat.le_refl 0⟩ hl0 hf)
set_option maxHeartbeats 4000000 in
set_option maxRecDepth 100000 in
theorem tX4_takeNots_4 {S : ev_S} {fu : Nat} {r : Int32 × ev_D} {F : ev_Fr} (hR : ev_R RX4 cX4_takeNots 4 1 0 0 false (some .int) S r F) (hT : ev_Ty S) (hC : sC S ≤ 0 ∧ sA S ≤ 0) : ∀ (n : Nat) (l0 : Nat) (l2 : Int32) (l3 : Int32) (D : ev_D), sK S l0 = 7 → fX4_takeNots_4 (sL S) (sE S) fu n l0 l2 l3 D = some r → F S D 4 [some (.ref l0), none, some (.int l2), some (.int l3)] [] := by
  have hX := hR.X
  intro n
  induction n with
  | zero =>
    intro l0 l2 l3 D hl0 hf
    rw [fX4_takeNots_4] at hf
    cases hf
  | succ n ih =>
    intro l0 l2 l3 D hl0 hf
    rw [fX4_takeNots_4] at hf
    refine ev_blk hX lkok_RX4 [(.iload_n 3, 1, 0, 0, 0), (.bipush 8, 2, 0, 0, 8)] (by decide +kernel) (g := true) (lv' := [some (.ref l0), none, some (.int l2), some (.int l3)]) (st' := [.int (8 : Int32), .int l3]) (D' := D) (pc' := 7) rfl (rfl) rfl ?_
    refine ev_ic_gt hX (off := 46) 53 (by decide +kernel) (by decide) (fun h1 => ?_) (fun h1 => ?_)
    · have hf := ev_it h1 hf
      refine ev_blk hX lkok_RX4 [(.iload_n 2, 1, 0, 0, 0)] (by decide +kernel) (g := true) (lv' := [some (.ref l0), none, some (.int l2), some (.int l3)]) (st' := [.int l2]) (D' := D) (pc' := 54) rfl (rfl) rfl ?_
      exact ev_iret hR ev_sm.rf (Option.some.inj hf) hC (by decide +kernel)
    · have hf := ev_nf h1 hf
      refine ev_blk hX lkok_RX4 [(.aload_n 0, 1, 0, 0, 0)] (by decide +kernel) (g := true) (lv' := [some (.ref l0), none, some (.int l2), some (.int l3)]) (st' := [.ref l0]) (D' := D) (pc' := 11) rfl (rfl) rfl ?_
      obtain ⟨v2, D2, hc2, hf⟩ := ev_bd_s hf
      refine ev_callV hX YX4_kind ml_RX4_63 (mX4_kind hT hl0 hc2) (vs := []) (st := []) (by decide) 4 hl0 rfl rfl rfl (by decide +kernel) hC ?_
      show F S D2 14 [some (.ref l0), none, some (.int l2), some (.int l3)] [.int v2]
      refine ev_blk hX lkok_RX4 [(.sipush 262, 3, 0, 0, 262)] (by decide +kernel) (g := true) (lv' := [some (.ref l0), none, some (.int l2), some (.int l3)]) (st' := [.int (262 : Int32), .int v2]) (D' := D2) (pc' := 17) rfl (rfl) rfl ?_
      refine ev_ic_ne hX (off := 36) 53 (by decide +kernel) (by decide) (fun h3 => ?_) (fun h3 => ?_)
      · have hf := ev_nf h3 hf
        refine ev_blk hX lkok_RX4 [(.iload_n 2, 1, 0, 0, 0)] (by decide +kernel) (g := true) (lv' := [some (.ref l0), none, some (.int l2), some (.int l3)]) (st' := [.int l2]) (D' := D2) (pc' := 54) rfl (rfl) rfl ?_
        exact ev_iret hR ev_sm.rf (Option.some.inj hf) hC (by decide +kernel)
      · have hf := ev_it h3 hf
        refine ev_blk hX lkok_RX4 [(.iload_n 3, 1, 0, 0, 0), (.bipush 8, 2, 0, 0, 8)] (by decide +kernel) (g := true) (lv' := [some (.ref l0), none, some (.int l2), some (.int l3)]) (st' := [.int (8 : Int32), .int l3]) (D' := D2) (pc' := 23) rfl (rfl) rfl ?_
        refine ev_ic_ne hX (off := 11) 34 (by decide +kernel) (by decide) (fun h4 => ?_) (fun h4 => ?_)
        · have hf := ev_nf h4 hf
          refine ev_blk hX lkok_RX4 [(.iinc 2 1, 3, 0, 0, 1), (.aload_n 0, 1, 0, 0, 0), (.dup, 1, 0, 0, 0), (.getfield 44, 3, 4, 9, 0), (.iconst 1, 1, 0, 0, 1), (.iadd, 1, 0, 0, 0), (.putfield 44, 3, 4, 9, 0), (.iinc 3 1, 3, 0, 0, 1)] (by decide +kernel) (g := (sK S l0 == 7) && ((sK S l0 == 7) && (true))) (lv' := [some (.ref l0), none, some (.int (l2 + (1 : Int32))), some (.int (l3 + (1 : Int32)))]) (st' := []) (D' := (ev_up D2 l0 9 ((D2 l0 9) + (1 : Int32)))) (pc' := 50) rfl (ev_gk hl0 (ev_gk hl0 (rfl))) rfl ?_
          refine ev_goto hX (off := (-46)) 4 (by decide +kernel) (by decide) ?_
          exact ev_weak hX (ev_le_eq (ev_le_no (ev_le_eq (ev_le_eq ev_le_nil)))) (ih _ _ _ _ hl0 hf)
        · have hf := ev_it h4 hf
          refine ev_blk hX lkok_RX4 [(.aload_n 0, 1, 0, 0, 0), (.iconst 3, 1, 0, 0, 3)] (by decide +kernel) (g := true) (lv' := [some (.ref l0), none, some (.int l2), some (.int l3)]) (st' := [.int (3 : Int32), .ref l0]) (D' := D2) (pc' := 28) rfl (rfl) rfl ?_
          obtain ⟨v5, D5, hc5, hf⟩ := ev_bd_s hf
          refine ev_callV hX YX4_refuse ml_RX4_71 (mX4_refuse hT hl0 hc5) (vs := [.int (3 : Int32)]) (st := []) (by decide) 4 hl0 rfl rfl rfl (by decide +kernel) hC ?_
          show F S D5 31 [some (.ref l0), none, some (.int l2), some (.int l3)] [.int v5]
          refine ev_blk hX lkok_RX4 [(.pop, 1, 0, 0, 0), (.iconst (-1), 1, 0, 0, (-1))] (by decide +kernel) (g := true) (lv' := [some (.ref l0), none, some (.int l2), some (.int l3)]) (st' := [.int (-1 : Int32)]) (D' := D5) (pc' := 33) rfl (rfl) rfl ?_
          exact ev_iret hR ev_sm.rf (Option.some.inj hf) hC (by decide +kernel)
set_option maxHeartbeats 4000000 in
set_option maxRecDepth 100000 in
theorem tX4_takeNots {S : ev_S} {fu : Nat} {r : Int32 × ev_D} {F : ev_Fr} (hR : ev_R RX4 cX4_takeNots 4 1 0 0 false (some .int) S r F) (hT : ev_Ty S) (hC : sC S ≤ 0 ∧ sA S ≤ 0) {l0 : Nat} {l1 : Int32} {D : ev_D} (hl0 : sK S l0 = 7) (hf : fX4_takeNots (sL S) (sE S) fu l0 l1 D = some r) : F S D 0 [some (.ref l0), some (.int l1), none, none] [] := by
  have hX := hR.X
  unfold fX4_takeNots at hf
  refine ev_blk hX lkok_RX4 [(.iconst 0, 1, 0, 0, 0), (.istore_n 2, 1, 0, 0, 0), (.iload_n 1, 1, 0, 0, 0), (.istore_n 3, 1, 0, 0, 0)] (by decide +kernel) (g := true) (lv' := [some (.ref l0), some (.int l1), some (.int (0 : Int32)), some (.int l1)]) (st' := []) (D' := D) (pc' := 4) rfl (rfl) rfl ?_
  exact ev_weak hX (ev_le_eq (ev_le_no (ev_le_eq (ev_le_eq ev_le_nil)))) (tX4_takeNots_4 hR hT hC   fu _ _ _ _ hl0 hf)
theorem mX4_takeNots {S : ev_S} {fu : Nat} {r : Int32 × ev_D} (hT : ev_Ty S) {l0 : Nat} {l1 : Int32} {D : ev_D} (hl0 : sK S l0 = 7) (hf : fX4_takeNots (sL S) (sE S) fu l0 l1 D = some r) : ev_M 1 0 0 yX4_takeNots cX4_takeNots 4 (some .int) [.ref l0, .int l1] S D S r :=
  ev_met (ini := false) (plainFor_of_name (by decide)) (fun h => by cases h) rfl (Nat.le_of_ble_eq_true rfl) (fun F hR => tX4_takeNots (S := ev_z S) hR hT ⟨Nat.le_refl 0, Nat.le_refl 0⟩ hl0 hf)
set_option maxHeartbeats 4000000 in
set_option maxRecDepth 100000 in
theorem tX4_readInner {dd : Nat} {S : ev_S} {fu : Nat} {r : Int32 × ev_D} {F : ev_Fr} (hR : ev_R RX4 cX4_readInner 2 (dd + 1) 0 0 false (some .boolean) S r F) (hT : ev_Ty S) (hC : sC S ≤ 0 ∧ sA S ≤ 0) (hdd : 4 ≤ dd) {rt : Nat → Int32 → ev_D → ev_Op} (hrt : ∀ (l0 : Nat) (l1 : Int32) (D : ev_D) (r : Int32 × ev_D), sK S l0 = 7 → rt l0 l1 D = some r → ev_M dd 0 0 yX4_readTruth cX4_readTruth 6 (some .boolean) [.ref l0, .int l1] S D S r) {l0 : Nat} {l1 : Int32} {D : ev_D} (hl0 : sK S l0 = 7) (hf : fX4_readInner (sL S) (sE S) fu rt l0 l1 D = some r) : F S D 0 [some (.ref l0), some (.int l1)] [] := by
  have hX := hR.X
  unfold fX4_readInner at hf
  refine ev_blk hX lkok_RX4 [(.iload_n 1, 1, 0, 0, 0), (.bipush 8, 2, 0, 0, 8)] (by decide +kernel) (g := true) (lv' := [some (.ref l0), some (.int l1)]) (st' := [.int (8 : Int32), .int l1]) (D' := D) (pc' := 3) rfl (rfl) rfl ?_
  refine ev_ic_lt hX (off := 9) 12 (by decide +kernel) (by decide) (fun h1 => ?_) (fun h1 => ?_)
  · have hf := ev_it h1 hf
    refine ev_blk hX lkok_RX4 [(.aload_n 0, 1, 0, 0, 0), (.dup, 1, 0, 0, 0), (.getfield 44, 3, 4, 9, 0), (.iconst 1, 1, 0, 0, 1), (.iadd, 1, 0, 0, 0), (.putfield 44, 3, 4, 9, 0), (.aload_n 0, 1, 0, 0, 0), (.iload_n 1, 1, 0, 0, 0), (.iconst 1, 1, 0, 0, 1), (.iadd, 1, 0, 0, 0)] (by decide +kernel) (g := (sK S l0 == 7) && ((sK S l0 == 7) && (true))) (lv' := [some (.ref l0), some (.int l1)]) (st' := [.int (l1 + (1 : Int32)), .ref l0]) (D' := (ev_up D l0 9 ((D l0 9) + (1 : Int32)))) (pc' := 26) rfl (ev_gk hl0 (ev_gk hl0 (rfl))) rfl ?_
    obtain ⟨v2, D2, hc2, hf⟩ := ev_bd_s hf
    refine ev_callV hX YX4_readTruth ml_RX4_177 (hrt _ _ _ _ hl0 hc2) (vs := [.int (l1 + (1 : Int32))]) (st := []) (by omega) 4 hl0 rfl rfl rfl (by decide +kernel) hC ?_
    show F S D2 29 [some (.ref l0), some (.int l1)] [.int v2]
    refine ev_if_eq hX (off := 16) 45 (by decide +kernel) (by decide) (fun h3 => ?_) (fun h3 => ?_)
    · have hf := ev_it h3 hf
      refine ev_blk hX lkok_RX4 [(.iconst 0, 1, 0, 0, 0)] (by decide +kernel) (g := true) (lv' := [some (.ref l0), some (.int l1)]) (st' := [.int (0 : Int32)]) (D' := D2) (pc' := 46) rfl (rfl) rfl ?_
      exact ev_zret hR ev_sm.rf (Or.inl rfl) (Option.some.inj hf) hC (by decide +kernel)
    · have hf := ev_nf h3 hf
      refine ev_blk hX lkok_RX4 [(.aload_n 0, 1, 0, 0, 0), (.bipush 41, 2, 0, 0, 41)] (by decide +kernel) (g := true) (lv' := [some (.ref l0), some (.int l1)]) (st' := [.int (41 : Int32), .ref l0]) (D' := D2) (pc' := 35) rfl (rfl) rfl ?_
      obtain ⟨v4, D4, hc4, hf⟩ := ev_bd_s hf
      refine ev_callV hX YX4_take ml_RX4_87 (mX4_take hT hl0 hc4) (vs := [.int (41 : Int32)]) (st := []) (by omega) 4 hl0 rfl rfl rfl (by decide +kernel) hC ?_
      show F S D4 38 [some (.ref l0), some (.int l1)] [.int v4]
      refine ev_if_eq hX (off := 7) 45 (by decide +kernel) (by decide) (fun h5 => ?_) (fun h5 => ?_)
      · have hf := ev_it h5 hf
        refine ev_blk hX lkok_RX4 [(.iconst 0, 1, 0, 0, 0)] (by decide +kernel) (g := true) (lv' := [some (.ref l0), some (.int l1)]) (st' := [.int (0 : Int32)]) (D' := D4) (pc' := 46) rfl (rfl) rfl ?_
        exact ev_zret hR ev_sm.rf (Or.inl rfl) (Option.some.inj hf) hC (by decide +kernel)
      · have hf := ev_nf h5 hf
        refine ev_blk hX lkok_RX4 [(.iconst 1, 1, 0, 0, 1)] (by decide +kernel) (g := true) (lv' := [some (.ref l0), some (.int l1)]) (st' := [.int (1 : Int32)]) (D' := D4) (pc' := 42) rfl (rfl) rfl ?_
        refine ev_goto hX (off := 4) 46 (by decide +kernel) (by decide) ?_
        exact ev_zret hR ev_sm.rf (Or.inr rfl) (Option.some.inj hf) hC (by decide +kernel)
  · have hf := ev_nf h1 hf
    refine ev_blk hX lkok_RX4 [(.aload_n 0, 1, 0, 0, 0), (.iconst 3, 1, 0, 0, 3)] (by decide +kernel) (g := true) (lv' := [some (.ref l0), some (.int l1)]) (st' := [.int (3 : Int32), .ref l0]) (D' := D) (pc' := 8) rfl (rfl) rfl ?_
    obtain ⟨v6, D6, hc6, hf⟩ := ev_bd_s hf
    refine ev_callV hX YX4_refuse ml_RX4_71 (mX4_refuse hT hl0 hc6) (vs := [.int (3 : Int32)]) (st := []) (by omega) 4 hl0 rfl rfl rfl (by decide +kernel) hC ?_
    show F S D6 11 [some (.ref l0), some (.int l1)] [.int v6]
    obtain ⟨hz, hf⟩ := ev_gd_s hf
    exact ev_zret hR ev_sm.rf (ev_z01 hz) (Option.some.inj hf) hC (by decide +kernel)
theorem mX4_readInner {dd : Nat} {S : ev_S} {fu : Nat} {r : Int32 × ev_D} (hT : ev_Ty S) (hdd : 4 ≤ dd) {rt : Nat → Int32 → ev_D → ev_Op} (hrt : ∀ (l0 : Nat) (l1 : Int32) (D : ev_D) (r : Int32 × ev_D), sK S l0 = 7 → rt l0 l1 D = some r → ev_M dd 0 0 yX4_readTruth cX4_readTruth 6 (some .boolean) [.ref l0, .int l1] S D S r) {l0 : Nat} {l1 : Int32} {D : ev_D} (hl0 : sK S l0 = 7) (hf : fX4_readInner (sL S) (sE S) fu rt l0 l1 D = some r) : ev_M (dd + 1) 0 0 yX4_readInner cX4_readInner 2 (some .boolean) [.ref l0, .int l1] S D S r :=
  ev_met (ini := false) (plainFor_of_name (by decide)) (fun h => by cases h) rfl (Nat.le_of_ble_eq_true rfl) (fun F hR => tX4_readInner (S := ev_z S) hR hT ⟨Nat.le_refl 0, Nat.le_refl 0⟩ hdd hrt hl0 hf)
set_option maxHeartbeats 4000000 in
set_option maxRecDepth 100000 in
theorem tX4_readTruth_159 {dd : Nat} {S : ev_S} {fu : Nat} {r : Int32 × ev_D} {F : ev_Fr} (hR : ev_R RX4 cX4_readTruth 6 (dd + 2) 0 0 false (some .boolean) S r F) (hT : ev_Ty S) (hC : sC S ≤ 0 ∧ sA S ≤ 0) (hdd : 4 ≤ dd) {rt : Nat → Int32 → ev_D → ev_Op} (hrt : ∀ (l0 : Nat) (l1 : Int32) (D : ev_D) (r : Int32 × ev_D), sK S l0 = 7 → rt l0 l1 D = some r → ev_M dd 0 0 yX4_readTruth cX4_readTruth 6 (some .boolean) [.ref l0, .int l1] S D S r) {k7 : Nat → Int32 → Int32 → Int32 → Int32 → ev_D → ev_Op} (hk7 : ∀ (l0 : Nat) (l1 : Int32) (l2 : Int32) (l3 : Int32) (l4 : Int32) (D : ev_D), sK S l0 = 7 → k7 l0 l1 l2 l3 l4 D = some r → F S D 7 [some (.ref l0), some (.int l1), some (.int l2), some (.int l3), some (.int l4), none] []) {l0 : Nat} {l1 : Int32} {l2 : Int32} {l3 : Int32} {l4 : Int32} {D : ev_D} (hl0 : sK S l0 = 7) (hf : fX4_readTruth_159 (sL S) (sE S) fu rt k7 l0 l1 l2 l3 l4 D = some r) : F S D 159 [some (.ref l0), some (.int l1), some (.int l2), some (.int l3), some (.int l4), none] [] := by
  have hX := hR.X
  unfold fX4_readTruth_159 at hf
  refine ev_blk hX lkok_RX4 [(.aload_n 0, 1, 0, 0, 0), (.dup, 1, 0, 0, 0), (.getfield 44, 3, 4, 9, 0), (.iconst 1, 1, 0, 0, 1), (.iadd, 1, 0, 0, 0), (.putfield 44, 3, 4, 9, 0), (.iinc 4 1, 3, 0, 0, 1)] (by decide +kernel) (g := (sK S l0 == 7) && ((sK S l0 == 7) && (true))) (lv' := [some (.ref l0), some (.int l1), some (.int l2), some (.int l3), some (.int (l4 + (1 : Int32))), none]) (st' := []) (D' := (ev_up D l0 9 ((D l0 9) + (1 : Int32)))) (pc' := 172) rfl (ev_gk hl0 (ev_gk hl0 (rfl))) rfl ?_
  refine ev_goto hX (off := (-165)) 7 (by decide +kernel) (by decide) ?_
  exact ev_weak hX (ev_le_eq (ev_le_eq (ev_le_eq (ev_le_eq (ev_le_eq (ev_le_no ev_le_nil)))))) (hk7 _ _ _ _ _ _ hl0 hf)
set_option maxHeartbeats 4000000 in
set_option maxRecDepth 100000 in
theorem tX4_readTruth_152 {dd : Nat} {S : ev_S} {fu : Nat} {r : Int32 × ev_D} {F : ev_Fr} (hR : ev_R RX4 cX4_readTruth 6 (dd + 2) 0 0 false (some .boolean) S r F) (hT : ev_Ty S) (hC : sC S ≤ 0 ∧ sA S ≤ 0) (hdd : 4 ≤ dd) {rt : Nat → Int32 → ev_D → ev_Op} (hrt : ∀ (l0 : Nat) (l1 : Int32) (D : ev_D) (r : Int32 × ev_D), sK S l0 = 7 → rt l0 l1 D = some r → ev_M dd 0 0 yX4_readTruth cX4_readTruth 6 (some .boolean) [.ref l0, .int l1] S D S r) {k7 : Nat → Int32 → Int32 → Int32 → Int32 → ev_D → ev_Op} (hk7 : ∀ (l0 : Nat) (l1 : Int32) (l2 : Int32) (l3 : Int32) (l4 : Int32) (D : ev_D), sK S l0 = 7 → k7 l0 l1 l2 l3 l4 D = some r → F S D 7 [some (.ref l0), some (.int l1), some (.int l2), some (.int l3), some (.int l4), none] []) {l0 : Nat} {l1 : Int32} {l2 : Int32} {l4 : Int32} {s0 : Int32} {D : ev_D} (hl0 : sK S l0 = 7) (hf : fX4_readTruth_152 (sL S) (sE S) fu rt k7 l0 l1 l2 l4 s0 D = some r) : F S D 152 [some (.ref l0), some (.int l1), some (.int l2), none, some (.int l4), none] [.int s0] := by
  have hX := hR.X
  unfold fX4_readTruth_152 at hf
  refine ev_blk hX lkok_RX4 [(.istore_n 3, 1, 0, 0, 0), (.iload_n 3, 1, 0, 0, 0)] (by decide +kernel) (g := true) (lv' := [some (.ref l0), some (.int l1), some (.int l2), some (.int s0), some (.int l4), none]) (st' := [.int s0]) (D' := D) (pc' := 154) rfl (rfl) rfl ?_
  refine ev_if_ne hX (off := 5) 159 (by decide +kernel) (by decide) (fun h1 => ?_) (fun h1 => ?_)
  · have hf := ev_nf h1 hf
    exact ev_weak hX (ev_le_eq (ev_le_eq (ev_le_eq (ev_le_eq (ev_le_eq (ev_le_no ev_le_nil)))))) (tX4_readTruth_159 hR hT hC hdd hrt hk7 hl0 hf)
  · have hf := ev_it h1 hf
    refine ev_blk hX lkok_RX4 [(.iconst 1, 1, 0, 0, 1)] (by decide +kernel) (g := true) (lv' := [some (.ref l0), some (.int l1), some (.int l2), some (.int s0), some (.int l4), none]) (st' := [.int (1 : Int32)]) (D' := D) (pc' := 158) rfl (rfl) rfl ?_
    exact ev_zret hR ev_sm.rf (Or.inr rfl) (Option.some.inj hf) hC (by decide +kernel)
set_option maxHeartbeats 4000000 in
set_option maxRecDepth 100000 in
theorem tX4_readTruth_137 {dd : Nat} {S : ev_S} {fu : Nat} {r : Int32 × ev_D} {F : ev_Fr} (hR : ev_R RX4 cX4_readTruth 6 (dd + 2) 0 0 false (some .boolean) S r F) (hT : ev_Ty S) (hC : sC S ≤ 0 ∧ sA S ≤ 0) (hdd : 4 ≤ dd) {rt : Nat → Int32 → ev_D → ev_Op} (hrt : ∀ (l0 : Nat) (l1 : Int32) (D : ev_D) (r : Int32 × ev_D), sK S l0 = 7 → rt l0 l1 D = some r → ev_M dd 0 0 yX4_readTruth cX4_readTruth 6 (some .boolean) [.ref l0, .int l1] S D S r) {k7 : Nat → Int32 → Int32 → Int32 → Int32 → ev_D → ev_Op} (hk7 : ∀ (l0 : Nat) (l1 : Int32) (l2 : Int32) (l3 : Int32) (l4 : Int32) (D : ev_D), sK S l0 = 7 → k7 l0 l1 l2 l3 l4 D = some r → F S D 7 [some (.ref l0), some (.int l1), some (.int l2), some (.int l3), some (.int l4), none] []) {l0 : Nat} {l1 : Int32} {l2 : Int32} {l4 : Int32} {D : ev_D} (hl0 : sK S l0 = 7) (hf : fX4_readTruth_137 (sL S) (sE S) fu rt k7 l0 l1 l2 l4 D = some r) : F S D 137 [some (.ref l0), some (.int l1), some (.int l2), none, some (.int l4), none] [] := by
  have hX := hR.X
  unfold fX4_readTruth_137 at hf
  refine ev_blk hX lkok_RX4 [(.aload_n 0, 1, 0, 0, 0)] (by decide +kernel) (g := true) (lv' := [some (.ref l0), some (.int l1), some (.int l2), none, some (.int l4), none]) (st' := [.ref l0]) (D' := D) (pc' := 138) rfl (rfl) rfl ?_
  obtain ⟨v2, D2, hc2, hf⟩ := ev_bd_s hf
  refine ev_callV hX YX4_kind ml_RX4_63 (mX4_kind hT hl0 hc2) (vs := []) (st := []) (by omega) 4 hl0 rfl rfl rfl (by decide +kernel) hC ?_
  show F S D2 141 [some (.ref l0), some (.int l1), some (.int l2), none, some (.int l4), none] [.int v2]
  refine ev_blk hX lkok_RX4 [(.sipush 260, 3, 0, 0, 260)] (by decide +kernel) (g := true) (lv' := [some (.ref l0), some (.int l1), some (.int l2), none, some (.int l4), none]) (st' := [.int (260 : Int32), .int v2]) (D' := D2) (pc' := 144) rfl (rfl) rfl ?_
  refine ev_ic_ne hX (off := 7) 151 (by decide +kernel) (by decide) (fun h3 => ?_) (fun h3 => ?_)
  · have hf := ev_nf h3 hf
    refine ev_blk hX lkok_RX4 [(.iconst 0, 1, 0, 0, 0)] (by decide +kernel) (g := true) (lv' := [some (.ref l0), some (.int l1), some (.int l2), none, some (.int l4), none]) (st' := [.int (0 : Int32)]) (D' := D2) (pc' := 152) rfl (rfl) rfl ?_
    exact ev_weak hX (ev_le_eq (ev_le_eq (ev_le_eq (ev_le_no (ev_le_eq (ev_le_no ev_le_nil)))))) (tX4_readTruth_152 hR hT hC hdd hrt hk7 hl0 hf)
  · have hf := ev_it h3 hf
    refine ev_blk hX lkok_RX4 [(.iconst 1, 1, 0, 0, 1)] (by decide +kernel) (g := true) (lv' := [some (.ref l0), some (.int l1), some (.int l2), none, some (.int l4), none]) (st' := [.int (1 : Int32)]) (D' := D2) (pc' := 148) rfl (rfl) rfl ?_
    refine ev_goto hX (off := 4) 152 (by decide +kernel) (by decide) ?_
    exact ev_weak hX (ev_le_eq (ev_le_eq (ev_le_eq (ev_le_no (ev_le_eq (ev_le_no ev_le_nil)))))) (tX4_readTruth_152 hR hT hC hdd hrt hk7 hl0 hf)
set_option maxHeartbeats 4000000 in
set_option maxRecDepth 100000 in
theorem tX4_readTruth_115 {dd : Nat} {S : ev_S} {fu : Nat} {r : Int32 × ev_D} {F : ev_Fr} (hR : ev_R RX4 cX4_readTruth 6 (dd + 2) 0 0 false (some .boolean) S r F) (hT : ev_Ty S) (hC : sC S ≤ 0 ∧ sA S ≤ 0) (hdd : 4 ≤ dd) {rt : Nat → Int32 → ev_D → ev_Op} (hrt : ∀ (l0 : Nat) (l1 : Int32) (D : ev_D) (r : Int32 × ev_D), sK S l0 = 7 → rt l0 l1 D = some r → ev_M dd 0 0 yX4_readTruth cX4_readTruth 6 (some .boolean) [.ref l0, .int l1] S D S r) {k7 : Nat → Int32 → Int32 → Int32 → Int32 → ev_D → ev_Op} (hk7 : ∀ (l0 : Nat) (l1 : Int32) (l2 : Int32) (l3 : Int32) (l4 : Int32) (D : ev_D), sK S l0 = 7 → k7 l0 l1 l2 l3 l4 D = some r → F S D 7 [some (.ref l0), some (.int l1), some (.int l2), some (.int l3), some (.int l4), none] []) {l0 : Nat} {l1 : Int32} {l3 : Int32} {l4 : Int32} {s0 : Int32} {D : ev_D} (hl0 : sK S l0 = 7) (hf : fX4_readTruth_115 (sL S) (sE S) fu rt k7 l0 l1 l3 l4 s0 D = some r) : F S D 115 [some (.ref l0), some (.int l1), none, some (.int l3), some (.int l4), none] [.int s0] := by
  have hX := hR.X
  unfold fX4_readTruth_115 at hf
  refine ev_blk hX lkok_RX4 [(.istore_n 2, 1, 0, 0, 0), (.iload_n 2, 1, 0, 0, 0)] (by decide +kernel) (g := true) (lv' := [some (.ref l0), some (.int l1), some (.int s0), some (.int l3), some (.int l4), none]) (st' := [.int s0]) (D' := D) (pc' := 117) rfl (rfl) rfl ?_
  refine ev_if_ne hX (off := 42) 159 (by decide +kernel) (by decide) (fun h4 => ?_) (fun h4 => ?_)
  · have hf := ev_nf h4 hf
    exact ev_weak hX (ev_le_eq (ev_le_eq (ev_le_eq (ev_le_eq (ev_le_eq (ev_le_no ev_le_nil)))))) (tX4_readTruth_159 hR hT hC hdd hrt hk7 hl0 hf)
  · have hf := ev_it h4 hf
    refine ev_blk hX lkok_RX4 [(.iload_n 3, 1, 0, 0, 0)] (by decide +kernel) (g := true) (lv' := [some (.ref l0), some (.int l1), some (.int s0), some (.int l3), some (.int l4), none]) (st' := [.int l3]) (D' := D) (pc' := 121) rfl (rfl) rfl ?_
    refine ev_if_eq hX (off := 16) 137 (by decide +kernel) (by decide) (fun h5 => ?_) (fun h5 => ?_)
    · have hf := ev_it h5 hf
      exact ev_weak hX (ev_le_eq (ev_le_eq (ev_le_eq (ev_le_no (ev_le_eq (ev_le_no ev_le_nil)))))) (tX4_readTruth_137 hR hT hC hdd hrt hk7 hl0 hf)
    · have hf := ev_nf h5 hf
      refine ev_blk hX lkok_RX4 [(.aload_n 0, 1, 0, 0, 0), (.getfield 14, 3, 4, 0, 0), (.getfield 90, 3, 7, 0, 0), (.sipush 10109, 3, 0, 0, 10109)] (by decide +kernel) (g := (sK S l0 == 7) && ((sK S ((sE S) l0 0) == 10) && (true))) (lv' := [some (.ref l0), some (.int l1), some (.int s0), some (.int l3), some (.int l4), none]) (st' := [.int (10109 : Int32), .ref ((sE S) ((sE S) l0 0) 0)]) (D' := D) (pc' := 134) rfl (ev_gk hl0 (ev_gk (ev_tyk hT hl0 rfl rfl) (rfl))) rfl ?_
      obtain ⟨v6, D6, hc6, hf⟩ := ev_bd_s hf
      refine ev_callV hX YX1_add ml_RX4_192 (mX1_add hT (ev_tyk hT (ev_tyk hT hl0 rfl rfl) rfl rfl) hc6) (vs := [.int (10109 : Int32)]) (st := []) (by omega) 1 (ev_tyk hT (ev_tyk hT hl0 rfl rfl) rfl rfl) rfl rfl rfl (by decide +kernel) hC ?_
      show F S D6 137 [some (.ref l0), some (.int l1), some (.int s0), some (.int l3), some (.int l4), none] []
      exact ev_weak hX (ev_le_eq (ev_le_eq (ev_le_eq (ev_le_no (ev_le_eq (ev_le_no ev_le_nil)))))) (tX4_readTruth_137 hR hT hC hdd hrt hk7 hl0 hf)
set_option maxHeartbeats 4000000 in
set_option maxRecDepth 100000 in
theorem tX4_readTruth_100 {dd : Nat} {S : ev_S} {fu : Nat} {r : Int32 × ev_D} {F : ev_Fr} (hR : ev_R RX4 cX4_readTruth 6 (dd + 2) 0 0 false (some .boolean) S r F) (hT : ev_Ty S) (hC : sC S ≤ 0 ∧ sA S ≤ 0) (hdd : 4 ≤ dd) {rt : Nat → Int32 → ev_D → ev_Op} (hrt : ∀ (l0 : Nat) (l1 : Int32) (D : ev_D) (r : Int32 × ev_D), sK S l0 = 7 → rt l0 l1 D = some r → ev_M dd 0 0 yX4_readTruth cX4_readTruth 6 (some .boolean) [.ref l0, .int l1] S D S r) {k7 : Nat → Int32 → Int32 → Int32 → Int32 → ev_D → ev_Op} (hk7 : ∀ (l0 : Nat) (l1 : Int32) (l2 : Int32) (l3 : Int32) (l4 : Int32) (D : ev_D), sK S l0 = 7 → k7 l0 l1 l2 l3 l4 D = some r → F S D 7 [some (.ref l0), some (.int l1), some (.int l2), some (.int l3), some (.int l4), none] []) {l0 : Nat} {l1 : Int32} {l3 : Int32} {l4 : Int32} {D : ev_D} (hl0 : sK S l0 = 7) (hf : fX4_readTruth_100 (sL S) (sE S) fu rt k7 l0 l1 l3 l4 D = some r) : F S D 100 [some (.ref l0), some (.int l1), none, some (.int l3), some (.int l4), none] [] := by
  have hX := hR.X
  unfold fX4_readTruth_100 at hf
  refine ev_blk hX lkok_RX4 [(.aload_n 0, 1, 0, 0, 0)] (by decide +kernel) (g := true) (lv' := [some (.ref l0), some (.int l1), none, some (.int l3), some (.int l4), none]) (st' := [.ref l0]) (D' := D) (pc' := 101) rfl (rfl) rfl ?_
  obtain ⟨v7, D7, hc7, hf⟩ := ev_bd_s hf
  refine ev_callV hX YX4_kind ml_RX4_63 (mX4_kind hT hl0 hc7) (vs := []) (st := []) (by omega) 4 hl0 rfl rfl rfl (by decide +kernel) hC ?_
  show F S D7 104 [some (.ref l0), some (.int l1), none, some (.int l3), some (.int l4), none] [.int v7]
  refine ev_blk hX lkok_RX4 [(.sipush 261, 3, 0, 0, 261)] (by decide +kernel) (g := true) (lv' := [some (.ref l0), some (.int l1), none, some (.int l3), some (.int l4), none]) (st' := [.int (261 : Int32), .int v7]) (D' := D7) (pc' := 107) rfl (rfl) rfl ?_
  refine ev_ic_ne hX (off := 7) 114 (by decide +kernel) (by decide) (fun h8 => ?_) (fun h8 => ?_)
  · have hf := ev_nf h8 hf
    refine ev_blk hX lkok_RX4 [(.iconst 0, 1, 0, 0, 0)] (by decide +kernel) (g := true) (lv' := [some (.ref l0), some (.int l1), none, some (.int l3), some (.int l4), none]) (st' := [.int (0 : Int32)]) (D' := D7) (pc' := 115) rfl (rfl) rfl ?_
    exact ev_weak hX (ev_le_eq (ev_le_eq (ev_le_no (ev_le_eq (ev_le_eq (ev_le_no ev_le_nil)))))) (tX4_readTruth_115 hR hT hC hdd hrt hk7 hl0 hf)
  · have hf := ev_it h8 hf
    refine ev_blk hX lkok_RX4 [(.iconst 1, 1, 0, 0, 1)] (by decide +kernel) (g := true) (lv' := [some (.ref l0), some (.int l1), none, some (.int l3), some (.int l4), none]) (st' := [.int (1 : Int32)]) (D' := D7) (pc' := 111) rfl (rfl) rfl ?_
    refine ev_goto hX (off := 4) 115 (by decide +kernel) (by decide) ?_
    exact ev_weak hX (ev_le_eq (ev_le_eq (ev_le_no (ev_le_eq (ev_le_eq (ev_le_no ev_le_nil)))))) (tX4_readTruth_115 hR hT hC hdd hrt hk7 hl0 hf)
set_option maxHeartbeats 4000000 in
set_option maxRecDepth 100000 in
theorem tX4_readTruth_83 {dd : Nat} {S : ev_S} {fu : Nat} {r : Int32 × ev_D} {F : ev_Fr} (hR : ev_R RX4 cX4_readTruth 6 (dd + 2) 0 0 false (some .boolean) S r F) (hT : ev_Ty S) (hC : sC S ≤ 0 ∧ sA S ≤ 0) (hdd : 4 ≤ dd) {rt : Nat → Int32 → ev_D → ev_Op} (hrt : ∀ (l0 : Nat) (l1 : Int32) (D : ev_D) (r : Int32 × ev_D), sK S l0 = 7 → rt l0 l1 D = some r → ev_M dd 0 0 yX4_readTruth cX4_readTruth 6 (some .boolean) [.ref l0, .int l1] S D S r) {k7 : Nat → Int32 → Int32 → Int32 → Int32 → ev_D → ev_Op} (hk7 : ∀ (l0 : Nat) (l1 : Int32) (l2 : Int32) (l3 : Int32) (l4 : Int32) (D : ev_D), sK S l0 = 7 → k7 l0 l1 l2 l3 l4 D = some r → F S D 7 [some (.ref l0), some (.int l1), some (.int l2), some (.int l3), some (.int l4), none] []) {l0 : Nat} {l1 : Int32} {l2 : Int32} {l3 : Int32} {l4 : Int32} {D : ev_D} (hl0 : sK S l0 = 7) (hf : fX4_readTruth_83 (sL S) (sE S) fu rt k7 l0 l1 l2 l3 l4 D = some r) : F S D 83 [some (.ref l0), some (.int l1), some (.int l2), some (.int l3), some (.int l4), none] [] := by
  have hX := hR.X
  unfold fX4_readTruth_83 at hf
  refine ev_blk hX lkok_RX4 [(.iload_n 2, 1, 0, 0, 0)] (by decide +kernel) (g := true) (lv' := [some (.ref l0), some (.int l1), some (.int l2), some (.int l3), some (.int l4), none]) (st' := [.int l2]) (D' := D) (pc' := 84) rfl (rfl) rfl ?_
  refine ev_if_eq hX (off := 16) 100 (by decide +kernel) (by decide) (fun h9 => ?_) (fun h9 => ?_)
  · have hf := ev_it h9 hf
    exact ev_weak hX (ev_le_eq (ev_le_eq (ev_le_no (ev_le_eq (ev_le_eq (ev_le_no ev_le_nil)))))) (tX4_readTruth_100 hR hT hC hdd hrt hk7 hl0 hf)
  · have hf := ev_nf h9 hf
    refine ev_blk hX lkok_RX4 [(.aload_n 0, 1, 0, 0, 0), (.getfield 14, 3, 4, 0, 0), (.getfield 90, 3, 7, 0, 0), (.sipush 10108, 3, 0, 0, 10108)] (by decide +kernel) (g := (sK S l0 == 7) && ((sK S ((sE S) l0 0) == 10) && (true))) (lv' := [some (.ref l0), some (.int l1), some (.int l2), some (.int l3), some (.int l4), none]) (st' := [.int (10108 : Int32), .ref ((sE S) ((sE S) l0 0) 0)]) (D' := D) (pc' := 97) rfl (ev_gk hl0 (ev_gk (ev_tyk hT hl0 rfl rfl) (rfl))) rfl ?_
    obtain ⟨v10, D10, hc10, hf⟩ := ev_bd_s hf
    refine ev_callV hX YX1_add ml_RX4_192 (mX1_add hT (ev_tyk hT (ev_tyk hT hl0 rfl rfl) rfl rfl) hc10) (vs := [.int (10108 : Int32)]) (st := []) (by omega) 1 (ev_tyk hT (ev_tyk hT hl0 rfl rfl) rfl rfl) rfl rfl rfl (by decide +kernel) hC ?_
    show F S D10 100 [some (.ref l0), some (.int l1), some (.int l2), some (.int l3), some (.int l4), none] []
    exact ev_weak hX (ev_le_eq (ev_le_eq (ev_le_no (ev_le_eq (ev_le_eq (ev_le_no ev_le_nil)))))) (tX4_readTruth_100 hR hT hC hdd hrt hk7 hl0 hf)
set_option maxHeartbeats 4000000 in
set_option maxRecDepth 100000 in
theorem tX4_readTruth_62 {dd : Nat} {S : ev_S} {fu : Nat} {r : Int32 × ev_D} {F : ev_Fr} (hR : ev_R RX4 cX4_readTruth 6 (dd + 2) 0 0 false (some .boolean) S r F) (hT : ev_Ty S) (hC : sC S ≤ 0 ∧ sA S ≤ 0) (hdd : 4 ≤ dd) {rt : Nat → Int32 → ev_D → ev_Op} (hrt : ∀ (l0 : Nat) (l1 : Int32) (D : ev_D) (r : Int32 × ev_D), sK S l0 = 7 → rt l0 l1 D = some r → ev_M dd 0 0 yX4_readTruth cX4_readTruth 6 (some .boolean) [.ref l0, .int l1] S D S r) {k7 : Nat → Int32 → Int32 → Int32 → Int32 → ev_D → ev_Op} (hk7 : ∀ (l0 : Nat) (l1 : Int32) (l2 : Int32) (l3 : Int32) (l4 : Int32) (D : ev_D), sK S l0 = 7 → k7 l0 l1 l2 l3 l4 D = some r → F S D 7 [some (.ref l0), some (.int l1), some (.int l2), some (.int l3), some (.int l4), none] []) {l0 : Nat} {l1 : Int32} {l2 : Int32} {l3 : Int32} {l4 : Int32} {l5 : Int32} {D : ev_D} (hl0 : sK S l0 = 7) (hf : fX4_readTruth_62 (sL S) (sE S) fu rt k7 l0 l1 l2 l3 l4 l5 D = some r) : F S D 62 [some (.ref l0), some (.int l1), some (.int l2), some (.int l3), some (.int l4), some (.int l5)] [] := by
  have hX := hR.X
  unfold fX4_readTruth_62 at hf
  refine ev_blk hX lkok_RX4 [(.iload 5, 2, 0, 0, 0), (.iconst 1, 1, 0, 0, 1), (.iand, 1, 0, 0, 0), (.iconst 1, 1, 0, 0, 1)] (by decide +kernel) (g := true) (lv' := [some (.ref l0), some (.int l1), some (.int l2), some (.int l3), some (.int l4), some (.int l5)]) (st' := [.int (1 : Int32), .int (l5 &&& (1 : Int32))]) (D' := D) (pc' := 67) rfl (rfl) rfl ?_
  refine ev_ic_ne hX (off := 16) 83 (by decide +kernel) (by decide) (fun h11 => ?_) (fun h11 => ?_)
  · have hf := ev_nf h11 hf
    exact ev_weak hX (ev_le_eq (ev_le_eq (ev_le_eq (ev_le_eq (ev_le_eq (ev_le_no ev_le_nil)))))) (tX4_readTruth_83 hR hT hC hdd hrt hk7 hl0 hf)
  · have hf := ev_it h11 hf
    refine ev_blk hX lkok_RX4 [(.aload_n 0, 1, 0, 0, 0), (.getfield 14, 3, 4, 0, 0), (.getfield 90, 3, 7, 0, 0), (.sipush 10100, 3, 0, 0, 10100)] (by decide +kernel) (g := (sK S l0 == 7) && ((sK S ((sE S) l0 0) == 10) && (true))) (lv' := [some (.ref l0), some (.int l1), some (.int l2), some (.int l3), some (.int l4), some (.int l5)]) (st' := [.int (10100 : Int32), .ref ((sE S) ((sE S) l0 0) 0)]) (D' := D) (pc' := 80) rfl (ev_gk hl0 (ev_gk (ev_tyk hT hl0 rfl rfl) (rfl))) rfl ?_
    obtain ⟨v12, D12, hc12, hf⟩ := ev_bd_s hf
    refine ev_callV hX YX1_add ml_RX4_192 (mX1_add hT (ev_tyk hT (ev_tyk hT hl0 rfl rfl) rfl rfl) hc12) (vs := [.int (10100 : Int32)]) (st := []) (by omega) 1 (ev_tyk hT (ev_tyk hT hl0 rfl rfl) rfl rfl) rfl rfl rfl (by decide +kernel) hC ?_
    show F S D12 83 [some (.ref l0), some (.int l1), some (.int l2), some (.int l3), some (.int l4), some (.int l5)] []
    exact ev_weak hX (ev_le_eq (ev_le_eq (ev_le_eq (ev_le_eq (ev_le_eq (ev_le_no ev_le_nil)))))) (tX4_readTruth_83 hR hT hC hdd hrt hk7 hl0 hf)
set_option maxHeartbeats 4000000 in
set_option maxRecDepth 100000 in
theorem tX4_readTruth_7 {dd : Nat} {S : ev_S} {fu : Nat} {r : Int32 × ev_D} {F : ev_Fr} (hR : ev_R RX4 cX4_readTruth 6 (dd + 2) 0 0 false (some .boolean) S r F) (hT : ev_Ty S) (hC : sC S ≤ 0 ∧ sA S ≤ 0) (hdd : 4 ≤ dd) {rt : Nat → Int32 → ev_D → ev_Op} (hrt : ∀ (l0 : Nat) (l1 : Int32) (D : ev_D) (r : Int32 × ev_D), sK S l0 = 7 → rt l0 l1 D = some r → ev_M dd 0 0 yX4_readTruth cX4_readTruth 6 (some .boolean) [.ref l0, .int l1] S D S r) : ∀ (n : Nat) (l0 : Nat) (l1 : Int32) (l2 : Int32) (l3 : Int32) (l4 : Int32) (D : ev_D), sK S l0 = 7 → fX4_readTruth_7 (sL S) (sE S) fu rt n l0 l1 l2 l3 l4 D = some r → F S D 7 [some (.ref l0), some (.int l1), some (.int l2), some (.int l3), some (.int l4), none] [] := by
  have hX := hR.X
  intro n
  induction n with
  | zero =>
    intro l0 l1 l2 l3 l4 D hl0 hf
    rw [fX4_readTruth_7] at hf
    cases hf
  | succ n ih =>
    intro l0 l1 l2 l3 l4 D hl0 hf
    rw [fX4_readTruth_7] at hf
    refine ev_blk hX lkok_RX4 [(.iload 4, 2, 0, 0, 0), (.sipush 400, 3, 0, 0, 400)] (by decide +kernel) (g := true) (lv' := [some (.ref l0), some (.int l1), some (.int l2), some (.int l3), some (.int l4), none]) (st' := [.int (400 : Int32), .int l4]) (D' := D) (pc' := 12) rfl (rfl) rfl ?_
    refine ev_ic_ge hX (off := 163) 175 (by decide +kernel) (by decide) (fun h13 => ?_) (fun h13 => ?_)
    · have hf := ev_it h13 hf
      refine ev_blk hX lkok_RX4 [(.aload_n 0, 1, 0, 0, 0), (.iconst 1, 1, 0, 0, 1)] (by decide +kernel) (g := true) (lv' := [some (.ref l0), some (.int l1), some (.int l2), some (.int l3), some (.int l4), none]) (st' := [.int (1 : Int32), .ref l0]) (D' := D) (pc' := 177) rfl (rfl) rfl ?_
      obtain ⟨v14, D14, hc14, hf⟩ := ev_bd_s hf
      refine ev_callV hX YX4_refuse ml_RX4_71 (mX4_refuse hT hl0 hc14) (vs := [.int (1 : Int32)]) (st := []) (by omega) 4 hl0 rfl rfl rfl (by decide +kernel) hC ?_
      show F S D14 180 [some (.ref l0), some (.int l1), some (.int l2), some (.int l3), some (.int l4), none] [.int v14]
      obtain ⟨hz, hf⟩ := ev_gd_s hf
      exact ev_zret hR ev_sm.rf (ev_z01 hz) (Option.some.inj hf) hC (by decide +kernel)
    · have hf := ev_nf h13 hf
      refine ev_blk hX lkok_RX4 [(.aload_n 0, 1, 0, 0, 0), (.iload_n 1, 1, 0, 0, 0)] (by decide +kernel) (g := true) (lv' := [some (.ref l0), some (.int l1), some (.int l2), some (.int l3), some (.int l4), none]) (st' := [.int l1, .ref l0]) (D' := D) (pc' := 17) rfl (rfl) rfl ?_
      obtain ⟨v15, D15, hc15, hf⟩ := ev_bd_s hf
      refine ev_callV hX YX4_takeNots ml_RX4_183 (mX4_takeNots hT hl0 hc15) (vs := [.int l1]) (st := []) (by omega) 4 hl0 rfl rfl rfl (by decide +kernel) hC ?_
      show F S D15 20 [some (.ref l0), some (.int l1), some (.int l2), some (.int l3), some (.int l4), none] [.int v15]
      refine ev_blk hX lkok_RX4 [(.istore 5, 2, 0, 0, 0), (.iload 5, 2, 0, 0, 0), (.iconst (-1), 1, 0, 0, (-1))] (by decide +kernel) (g := true) (lv' := [some (.ref l0), some (.int l1), some (.int l2), some (.int l3), some (.int l4), some (.int v15)]) (st' := [.int (-1 : Int32), .int v15]) (D' := D15) (pc' := 25) rfl (rfl) rfl ?_
      refine ev_ic_ne hX (off := 5) 30 (by decide +kernel) (by decide) (fun h16 => ?_) (fun h16 => ?_)
      · have hf := ev_nf h16 hf
        refine ev_blk hX lkok_RX4 [(.aload_n 0, 1, 0, 0, 0)] (by decide +kernel) (g := true) (lv' := [some (.ref l0), some (.int l1), some (.int l2), some (.int l3), some (.int l4), some (.int v15)]) (st' := [.ref l0]) (D' := D15) (pc' := 31) rfl (rfl) rfl ?_
        obtain ⟨v17, D17, hc17, hf⟩ := ev_bd_s hf
        refine ev_callV hX YX4_kind ml_RX4_63 (mX4_kind hT hl0 hc17) (vs := []) (st := []) (by omega) 4 hl0 rfl rfl rfl (by decide +kernel) hC ?_
        show F S D17 34 [some (.ref l0), some (.int l1), some (.int l2), some (.int l3), some (.int l4), some (.int v15)] [.int v17]
        refine ev_blk hX lkok_RX4 [(.bipush 40, 2, 0, 0, 40)] (by decide +kernel) (g := true) (lv' := [some (.ref l0), some (.int l1), some (.int l2), some (.int l3), some (.int l4), some (.int v15)]) (st' := [.int (40 : Int32), .int v17]) (D' := D17) (pc' := 36) rfl (rfl) rfl ?_
        refine ev_ic_ne hX (off := 17) 53 (by decide +kernel) (by decide) (fun h18 => ?_) (fun h18 => ?_)
        · have hf := ev_nf h18 hf
          refine ev_blk hX lkok_RX4 [(.aload_n 0, 1, 0, 0, 0)] (by decide +kernel) (g := true) (lv' := [some (.ref l0), some (.int l1), some (.int l2), some (.int l3), some (.int l4), some (.int v15)]) (st' := [.ref l0]) (D' := D17) (pc' := 54) rfl (rfl) rfl ?_
          obtain ⟨v19, D19, hc19, hf⟩ := ev_bd_s hf
          refine ev_callV hX YX4_readComparison ml_RX4_189 (mX4_readComparison hT hl0 hc19) (vs := []) (st := []) (by omega) 4 hl0 rfl rfl rfl (by decide +kernel) hC ?_
          show F S D19 57 [some (.ref l0), some (.int l1), some (.int l2), some (.int l3), some (.int l4), some (.int v15)] [.int v19]
          refine ev_if_ne hX (off := 5) 62 (by decide +kernel) (by decide) (fun h20 => ?_) (fun h20 => ?_)
          · have hf := ev_nf h20 hf
            exact ev_weak hX (ev_le_eq (ev_le_eq (ev_le_eq (ev_le_eq (ev_le_eq (ev_le_eq ev_le_nil)))))) (tX4_readTruth_62 hR hT hC hdd hrt ih hl0 hf)
          · have hf := ev_it h20 hf
            refine ev_blk hX lkok_RX4 [(.iconst 0, 1, 0, 0, 0)] (by decide +kernel) (g := true) (lv' := [some (.ref l0), some (.int l1), some (.int l2), some (.int l3), some (.int l4), some (.int v15)]) (st' := [.int (0 : Int32)]) (D' := D19) (pc' := 61) rfl (rfl) rfl ?_
            exact ev_zret hR ev_sm.rf (Or.inl rfl) (Option.some.inj hf) hC (by decide +kernel)
        · have hf := ev_it h18 hf
          refine ev_blk hX lkok_RX4 [(.aload_n 0, 1, 0, 0, 0), (.iload_n 1, 1, 0, 0, 0), (.iload 5, 2, 0, 0, 0), (.iadd, 1, 0, 0, 0)] (by decide +kernel) (g := true) (lv' := [some (.ref l0), some (.int l1), some (.int l2), some (.int l3), some (.int l4), some (.int v15)]) (st' := [.int (l1 + v15), .ref l0]) (D' := D17) (pc' := 44) rfl (rfl) rfl ?_
          obtain ⟨v21, D21, hc21, hf⟩ := ev_bd_s hf
          refine ev_callV hX YX4_readInner ml_RX4_186 (mX4_readInner hT hdd hrt hl0 hc21) (vs := [.int (l1 + v15)]) (st := []) (by omega) 4 hl0 rfl rfl rfl (by decide +kernel) hC ?_
          show F S D21 47 [some (.ref l0), some (.int l1), some (.int l2), some (.int l3), some (.int l4), some (.int v15)] [.int v21]
          refine ev_if_eq hX (off := 13) 60 (by decide +kernel) (by decide) (fun h22 => ?_) (fun h22 => ?_)
          · have hf := ev_it h22 hf
            refine ev_blk hX lkok_RX4 [(.iconst 0, 1, 0, 0, 0)] (by decide +kernel) (g := true) (lv' := [some (.ref l0), some (.int l1), some (.int l2), some (.int l3), some (.int l4), some (.int v15)]) (st' := [.int (0 : Int32)]) (D' := D21) (pc' := 61) rfl (rfl) rfl ?_
            exact ev_zret hR ev_sm.rf (Or.inl rfl) (Option.some.inj hf) hC (by decide +kernel)
          · have hf := ev_nf h22 hf
            refine ev_goto hX (off := 12) 62 (by decide +kernel) (by decide) ?_
            exact ev_weak hX (ev_le_eq (ev_le_eq (ev_le_eq (ev_le_eq (ev_le_eq (ev_le_eq ev_le_nil)))))) (tX4_readTruth_62 hR hT hC hdd hrt ih hl0 hf)
      · have hf := ev_it h16 hf
        refine ev_blk hX lkok_RX4 [(.iconst 0, 1, 0, 0, 0)] (by decide +kernel) (g := true) (lv' := [some (.ref l0), some (.int l1), some (.int l2), some (.int l3), some (.int l4), some (.int v15)]) (st' := [.int (0 : Int32)]) (D' := D15) (pc' := 29) rfl (rfl) rfl ?_
        exact ev_zret hR ev_sm.rf (Or.inl rfl) (Option.some.inj hf) hC (by decide +kernel)
set_option maxHeartbeats 4000000 in
set_option maxRecDepth 100000 in
theorem tX4_readTruthB {dd : Nat} {S : ev_S} {fu : Nat} {r : Int32 × ev_D} {F : ev_Fr} (hR : ev_R RX4 cX4_readTruth 6 (dd + 2) 0 0 false (some .boolean) S r F) (hT : ev_Ty S) (hC : sC S ≤ 0 ∧ sA S ≤ 0) (hdd : 4 ≤ dd) {rt : Nat → Int32 → ev_D → ev_Op} (hrt : ∀ (l0 : Nat) (l1 : Int32) (D : ev_D) (r : Int32 × ev_D), sK S l0 = 7 → rt l0 l1 D = some r → ev_M dd 0 0 yX4_readTruth cX4_readTruth 6 (some .boolean) [.ref l0, .int l1] S D S r) {l0 : Nat} {l1 : Int32} {D : ev_D} (hl0 : sK S l0 = 7) (hf : fX4_readTruthB (sL S) (sE S) fu rt l0 l1 D = some r) : F S D 0 [some (.ref l0), some (.int l1), none, none, none, none] [] := by
  have hX := hR.X
  unfold fX4_readTruthB at hf
  refine ev_blk hX lkok_RX4 [(.iconst 0, 1, 0, 0, 0), (.istore_n 2, 1, 0, 0, 0), (.iconst 0, 1, 0, 0, 0), (.istore_n 3, 1, 0, 0, 0), (.iconst 0, 1, 0, 0, 0), (.istore 4, 2, 0, 0, 0)] (by decide +kernel) (g := true) (lv' := [some (.ref l0), some (.int l1), some (.int (0 : Int32)), some (.int (0 : Int32)), some (.int (0 : Int32)), none]) (st' := []) (D' := D) (pc' := 7) rfl (rfl) rfl ?_
  exact ev_weak hX (ev_le_eq (ev_le_eq (ev_le_eq (ev_le_eq (ev_le_eq (ev_le_no ev_le_nil)))))) (tX4_readTruth_7 hR hT hC hdd hrt  fu _ _ _ _ _ _ hl0 hf)
theorem mX4_readTruthB {dd : Nat} {S : ev_S} {fu : Nat} {r : Int32 × ev_D} (hT : ev_Ty S) (hdd : 4 ≤ dd) {rt : Nat → Int32 → ev_D → ev_Op} (hrt : ∀ (l0 : Nat) (l1 : Int32) (D : ev_D) (r : Int32 × ev_D), sK S l0 = 7 → rt l0 l1 D = some r → ev_M dd 0 0 yX4_readTruth cX4_readTruth 6 (some .boolean) [.ref l0, .int l1] S D S r) {l0 : Nat} {l1 : Int32} {D : ev_D} (hl0 : sK S l0 = 7) (hf : fX4_readTruthB (sL S) (sE S) fu rt l0 l1 D = some r) : ev_M (dd + 2) 0 0 yX4_readTruth cX4_readTruth 6 (some .boolean) [.ref l0, .int l1] S D S r :=
  ev_met (ini := false) (plainFor_of_name (by decide)) (fun h => by cases h) rfl (Nat.le_of_ble_eq_true rfl) (fun F hR => tX4_readTruthB (S := ev_z S) hR hT ⟨Nat.le_refl 0, Nat.le_refl 0⟩ hdd hrt hl0 hf)
theorem mX4_readTruth {S : ev_S} {fu : Nat} (hT : ev_Ty S) : ∀ {n : Nat} {l0 : Nat} {l1 : Int32} {D : ev_D} {r : Int32 × ev_D}, sK S l0 = 7 → fX4_readTruth (sL S) (sE S) fu n l0 l1 D = some r → ev_M (4 + 2 * n) 0 0 yX4_readTruth cX4_readTruth 6 (some .boolean) [.ref l0, .int l1] S D S r
  | 0, l0, l1, D, r, _, hf => by
    rw [fX4_readTruth] at hf
    cases hf
  | n + 1, l0, l1, D, r, h, hf => by
    rw [fX4_readTruth] at hf
    exact mX4_readTruthB hT (dd := 4 + 2 * n) (by omega) (fun l0 l1 D r h hf => mX4_readTruth hT h hf) h hf
set_option maxHeartbeats 4000000 in
set_option maxRecDepth 100000 in
theorem tX4_readLaw_77 {S : ev_S} {fu : Nat} {r : Int32 × ev_D} {F : ev_Fr} (hR : ev_R RX4 cX4_readLaw 1 25 0 0 false (some .boolean) S r F) (hT : ev_Ty S) (hC : sC S ≤ 0 ∧ sA S ≤ 0) {l0 : Nat} {D : ev_D} (hl0 : sK S l0 = 7) (hf : fX4_readLaw_77 (sL S) (sE S) fu l0 D = some r) : F S D 77 [some (.ref l0)] [] := by
  have hX := hR.X
  unfold fX4_readLaw_77 at hf
  refine ev_blk hX lkok_RX4 [(.aload_n 0, 1, 0, 0, 0), (.getfield 14, 3, 4, 0, 0), (.getfield 90, 3, 7, 0, 0)] (by decide +kernel) (g := (sK S l0 == 7) && ((sK S ((sE S) l0 0) == 10) && (true))) (lv' := [some (.ref l0)]) (st' := [.ref ((sE S) ((sE S) l0 0) 0)]) (D' := D) (pc' := 84) rfl (ev_gk hl0 (ev_gk (ev_tyk hT hl0 rfl rfl) (rfl))) rfl ?_
  obtain ⟨v1, D1, hc1, hf⟩ := ev_bd_s hf
  refine ev_callV hX YX1_finish ml_RX4_180 (mX1_finish hT (ev_tyk hT (ev_tyk hT hl0 rfl rfl) rfl rfl) hc1) (vs := []) (st := []) (by decide) 1 (ev_tyk hT (ev_tyk hT hl0 rfl rfl) rfl rfl) rfl rfl rfl (by decide +kernel) hC ?_
  show F S D1 87 [some (.ref l0)] []
  refine ev_blk hX lkok_RX4 [(.iconst 1, 1, 0, 0, 1)] (by decide +kernel) (g := true) (lv' := [some (.ref l0)]) (st' := [.int (1 : Int32)]) (D' := D1) (pc' := 88) rfl (rfl) rfl ?_
  exact ev_zret hR ev_sm.rf (Or.inr rfl) (Option.some.inj hf) hC (by decide +kernel)
set_option maxHeartbeats 4000000 in
set_option maxRecDepth 100000 in
theorem tX4_readLaw {S : ev_S} {fu : Nat} {r : Int32 × ev_D} {F : ev_Fr} (hR : ev_R RX4 cX4_readLaw 1 25 0 0 false (some .boolean) S r F) (hT : ev_Ty S) (hC : sC S ≤ 0 ∧ sA S ≤ 0) {l0 : Nat} {D : ev_D} (hl0 : sK S l0 = 7) (hf : fX4_readLaw (sL S) (sE S) fu l0 D = some r) : F S D 0 [some (.ref l0)] [] := by
  have hX := hR.X
  unfold fX4_readLaw at hf
  refine ev_blk hX lkok_RX4 [(.aload_n 0, 1, 0, 0, 0), (.getfield 14, 3, 4, 0, 0), (.getfield 90, 3, 7, 0, 0), (.aload_n 0, 1, 0, 0, 0)] (by decide +kernel) (g := (sK S l0 == 7) && ((sK S ((sE S) l0 0) == 10) && (true))) (lv' := [some (.ref l0)]) (st' := [.ref l0, .ref ((sE S) ((sE S) l0 0) 0)]) (D' := D) (pc' := 8) rfl (ev_gk hl0 (ev_gk (ev_tyk hT hl0 rfl rfl) (rfl))) rfl ?_
  obtain ⟨v2, D2, hc2, hf⟩ := ev_bd_s hf
  refine ev_callV hX YX4_kind ml_RX4_63 (mX4_kind hT hl0 hc2) (vs := []) (st := [.ref ((sE S) ((sE S) l0 0) 0)]) (by decide) 4 hl0 rfl rfl rfl (by decide +kernel) hC ?_
  show F S D2 11 [some (.ref l0)] [.int v2, .ref ((sE S) ((sE S) l0 0) 0)]
  refine ev_blk hX lkok_RX4 [(.sipush 256, 3, 0, 0, 256), (.isub, 1, 0, 0, 0)] (by decide +kernel) (g := true) (lv' := [some (.ref l0)]) (st' := [.int (v2 - (256 : Int32)), .ref ((sE S) ((sE S) l0 0) 0)]) (D' := D2) (pc' := 15) rfl (rfl) rfl ?_
  obtain ⟨v3, D3, hc3, hf⟩ := ev_bd_s hf
  refine ev_callV hX YX1_begin ml_RX4_167 (mX1_begin hT (ev_tyk hT (ev_tyk hT hl0 rfl rfl) rfl rfl) hc3) (vs := [.int (v2 - (256 : Int32))]) (st := []) (by decide) 1 (ev_tyk hT (ev_tyk hT hl0 rfl rfl) rfl rfl) rfl rfl rfl (by decide +kernel) hC ?_
  show F S D3 18 [some (.ref l0)] []
  refine ev_blk hX lkok_RX4 [(.aload_n 0, 1, 0, 0, 0), (.dup, 1, 0, 0, 0), (.getfield 44, 3, 4, 9, 0), (.iconst 1, 1, 0, 0, 1), (.iadd, 1, 0, 0, 0), (.putfield 44, 3, 4, 9, 0), (.aload_n 0, 1, 0, 0, 0)] (by decide +kernel) (g := (sK S l0 == 7) && ((sK S l0 == 7) && (true))) (lv' := [some (.ref l0)]) (st' := [.ref l0]) (D' := (ev_up D3 l0 9 ((D3 l0 9) + (1 : Int32)))) (pc' := 29) rfl (ev_gk hl0 (ev_gk hl0 (rfl))) rfl ?_
  obtain ⟨v4, D4, hc4, hf⟩ := ev_bd_s hf
  refine ev_callV hX YX4_readNumber ml_RX4_171 (mX4_readNumber hT hl0 hc4) (vs := []) (st := []) (by decide) 4 hl0 rfl rfl rfl (by decide +kernel) hC ?_
  show F S D4 32 [some (.ref l0)] [.int v4]
  refine ev_if_ne hX (off := 5) 37 (by decide +kernel) (by decide) (fun h5 => ?_) (fun h5 => ?_)
  · have hf := ev_nf h5 hf
    refine ev_blk hX lkok_RX4 [(.aload_n 0, 1, 0, 0, 0), (.getfield 14, 3, 4, 0, 0), (.getfield 90, 3, 7, 0, 0)] (by decide +kernel) (g := (sK S l0 == 7) && ((sK S ((sE S) l0 0) == 10) && (true))) (lv' := [some (.ref l0)]) (st' := [.ref ((sE S) ((sE S) l0 0) 0)]) (D' := D4) (pc' := 44) rfl (ev_gk hl0 (ev_gk (ev_tyk hT hl0 rfl rfl) (rfl))) rfl ?_
    obtain ⟨v6, D6, hc6, hf⟩ := ev_bd_s hf
    refine ev_callV hX YX1_markWhen ml_RX4_174 (mX1_markWhen hT (ev_tyk hT (ev_tyk hT hl0 rfl rfl) rfl rfl) hc6) (vs := []) (st := []) (by decide) 1 (ev_tyk hT (ev_tyk hT hl0 rfl rfl) rfl rfl) rfl rfl rfl (by decide +kernel) hC ?_
    show F S D6 47 [some (.ref l0)] []
    refine ev_blk hX lkok_RX4 [(.aload_n 0, 1, 0, 0, 0)] (by decide +kernel) (g := true) (lv' := [some (.ref l0)]) (st' := [.ref l0]) (D' := D6) (pc' := 48) rfl (rfl) rfl ?_
    obtain ⟨v7, D7, hc7, hf⟩ := ev_bd_s hf
    refine ev_callV hX YX4_kind ml_RX4_63 (mX4_kind hT hl0 hc7) (vs := []) (st := []) (by decide) 4 hl0 rfl rfl rfl (by decide +kernel) hC ?_
    show F S D7 51 [some (.ref l0)] [.int v7]
    refine ev_blk hX lkok_RX4 [(.sipush 259, 3, 0, 0, 259)] (by decide +kernel) (g := true) (lv' := [some (.ref l0)]) (st' := [.int (259 : Int32), .int v7]) (D' := D7) (pc' := 54) rfl (rfl) rfl ?_
    refine ev_ic_ne hX (off := 23) 77 (by decide +kernel) (by decide) (fun h8 => ?_) (fun h8 => ?_)
    · have hf := ev_nf h8 hf
      exact ev_weak hX (ev_le_eq ev_le_nil) (tX4_readLaw_77 hR hT hC   hl0 hf)
    · have hf := ev_it h8 hf
      refine ev_blk hX lkok_RX4 [(.aload_n 0, 1, 0, 0, 0), (.dup, 1, 0, 0, 0), (.getfield 44, 3, 4, 9, 0), (.iconst 1, 1, 0, 0, 1), (.iadd, 1, 0, 0, 0), (.putfield 44, 3, 4, 9, 0), (.aload_n 0, 1, 0, 0, 0), (.iconst 0, 1, 0, 0, 0)] (by decide +kernel) (g := (sK S l0 == 7) && ((sK S l0 == 7) && (true))) (lv' := [some (.ref l0)]) (st' := [.int (0 : Int32), .ref l0]) (D' := (ev_up D7 l0 9 ((D7 l0 9) + (1 : Int32)))) (pc' := 69) rfl (ev_gk hl0 (ev_gk hl0 (rfl))) rfl ?_
      obtain ⟨v9, D9, hc9, hf⟩ := ev_bd_s hf
      refine ev_callV hX YX4_readTruth ml_RX4_177 (mX4_readTruth hT hl0 hc9) (vs := [.int (0 : Int32)]) (st := []) (by decide) 4 hl0 rfl rfl rfl (by decide +kernel) hC ?_
      show F S D9 72 [some (.ref l0)] [.int v9]
      refine ev_if_ne hX (off := 5) 77 (by decide +kernel) (by decide) (fun h10 => ?_) (fun h10 => ?_)
      · have hf := ev_nf h10 hf
        exact ev_weak hX (ev_le_eq ev_le_nil) (tX4_readLaw_77 hR hT hC   hl0 hf)
      · have hf := ev_it h10 hf
        refine ev_blk hX lkok_RX4 [(.iconst 0, 1, 0, 0, 0)] (by decide +kernel) (g := true) (lv' := [some (.ref l0)]) (st' := [.int (0 : Int32)]) (D' := D9) (pc' := 76) rfl (rfl) rfl ?_
        exact ev_zret hR ev_sm.rf (Or.inl rfl) (Option.some.inj hf) hC (by decide +kernel)
  · have hf := ev_it h5 hf
    refine ev_blk hX lkok_RX4 [(.iconst 0, 1, 0, 0, 0)] (by decide +kernel) (g := true) (lv' := [some (.ref l0)]) (st' := [.int (0 : Int32)]) (D' := D4) (pc' := 36) rfl (rfl) rfl ?_
    exact ev_zret hR ev_sm.rf (Or.inl rfl) (Option.some.inj hf) hC (by decide +kernel)
theorem mX4_readLaw {S : ev_S} {fu : Nat} {r : Int32 × ev_D} (hT : ev_Ty S) {l0 : Nat} {D : ev_D} (hl0 : sK S l0 = 7) (hf : fX4_readLaw (sL S) (sE S) fu l0 D = some r) : ev_M 25 0 0 yX4_readLaw cX4_readLaw 1 (some .boolean) [.ref l0] S D S r :=
  ev_met (ini := false) (plainFor_of_name (by decide)) (fun h => by cases h) rfl (Nat.le_of_ble_eq_true rfl) (fun F hR => tX4_readLaw (S := ev_z S) hR hT ⟨Nat.le_refl 0, Nat.le_refl 0⟩ hl0 hf)
set_option maxHeartbeats 4000000 in
set_option maxRecDepth 100000 in
theorem tX4_readRope {S : ev_S} {fu : Nat} {r : Int32 × ev_D} {F : ev_Fr} (hR : ev_R RX4 cX4_readRope 2 2 0 0 false (some .boolean) S r F) (hT : ev_Ty S) (hC : sC S ≤ 0 ∧ sA S ≤ 0) {l0 : Nat} {D : ev_D} (hl0 : sK S l0 = 7) (hf : fX4_readRope (sL S) (sE S) fu l0 D = some r) : F S D 0 [some (.ref l0), none] [] := by
  have hX := hR.X
  unfold fX4_readRope at hf
  refine ev_blk hX lkok_RX4 [(.aload_n 0, 1, 0, 0, 0), (.dup, 1, 0, 0, 0), (.getfield 44, 3, 4, 9, 0), (.iconst 1, 1, 0, 0, 1), (.iadd, 1, 0, 0, 0), (.putfield 44, 3, 4, 9, 0), (.aload_n 0, 1, 0, 0, 0), (.aload_n 0, 1, 0, 0, 0), (.getfield 50, 3, 4, 11, 0), (.iconst 1, 1, 0, 0, 1), (.isub, 1, 0, 0, 0), (.iconst 0, 1, 0, 0, 0)] (by decide +kernel) (g := (sK S l0 == 7) && ((sK S l0 == 7) && ((sK S l0 == 7) && (true)))) (lv' := [some (.ref l0), none]) (st' := [.int (0 : Int32), .int (((ev_up D l0 9 ((D l0 9) + (1 : Int32))) l0 11) - (1 : Int32)), .ref l0]) (D' := (ev_up D l0 9 ((D l0 9) + (1 : Int32)))) (pc' := 18) rfl (ev_gk hl0 (ev_gk hl0 (ev_gk hl0 (rfl)))) rfl ?_
  obtain ⟨v1, D1, hc1, hf⟩ := ev_bd_s hf
  refine ev_callV hX YX4_takeNumber ml_RX4_160 (mX4_takeNumber hT hl0 hc1) (vs := [.int (((ev_up D l0 9 ((D l0 9) + (1 : Int32))) l0 11) - (1 : Int32)), .int (0 : Int32)]) (st := []) (by decide) 4 hl0 rfl rfl rfl (by decide +kernel) hC ?_
  show F S D1 21 [some (.ref l0), none] [.int v1]
  refine ev_if_ne hX (off := 5) 26 (by decide +kernel) (by decide) (fun h2 => ?_) (fun h2 => ?_)
  · have hf := ev_nf h2 hf
    refine ev_blk hX lkok_RX4 [(.aload_n 0, 1, 0, 0, 0), (.getfield 47, 3, 4, 10, 0), (.istore_n 1, 1, 0, 0, 0), (.aload_n 0, 1, 0, 0, 0), (.sipush 275, 3, 0, 0, 275)] (by decide +kernel) (g := (sK S l0 == 7) && (true)) (lv' := [some (.ref l0), some (.int (D1 l0 10))]) (st' := [.int (275 : Int32), .ref l0]) (D' := D1) (pc' := 35) rfl (ev_gk hl0 (rfl)) rfl ?_
    obtain ⟨v3, D3, hc3, hf⟩ := ev_bd_s hf
    refine ev_callV hX YX4_take ml_RX4_87 (mX4_take hT hl0 hc3) (vs := [.int (275 : Int32)]) (st := []) (by decide) 4 hl0 rfl rfl rfl (by decide +kernel) hC ?_
    show F S D3 38 [some (.ref l0), some (.int (D1 l0 10))] [.int v3]
    refine ev_if_eq hX (off := 19) 57 (by decide +kernel) (by decide) (fun h4 => ?_) (fun h4 => ?_)
    · have hf := ev_it h4 hf
      refine ev_blk hX lkok_RX4 [(.iconst 0, 1, 0, 0, 0)] (by decide +kernel) (g := true) (lv' := [some (.ref l0), some (.int (D1 l0 10))]) (st' := [.int (0 : Int32)]) (D' := D3) (pc' := 58) rfl (rfl) rfl ?_
      exact ev_zret hR ev_sm.rf (Or.inl rfl) (Option.some.inj hf) hC (by decide +kernel)
    · have hf := ev_nf h4 hf
      refine ev_blk hX lkok_RX4 [(.aload_n 0, 1, 0, 0, 0), (.aload_n 0, 1, 0, 0, 0), (.getfield 50, 3, 4, 11, 0), (.iconst 1, 1, 0, 0, 1), (.isub, 1, 0, 0, 0), (.iconst 1, 1, 0, 0, 1), (.iload_n 1, 1, 0, 0, 0), (.ishl, 1, 0, 0, 0)] (by decide +kernel) (g := (sK S l0 == 7) && (true)) (lv' := [some (.ref l0), some (.int (D1 l0 10))]) (st' := [.int ((1 : Int32) <<< ((D1 l0 10) &&& 31)), .int ((D3 l0 11) - (1 : Int32)), .ref l0]) (D' := D3) (pc' := 51) rfl (ev_gk hl0 (rfl)) rfl ?_
      obtain ⟨v5, D5, hc5, hf⟩ := ev_bd_s hf
      refine ev_callV hX YX4_takeNumber ml_RX4_160 (mX4_takeNumber hT hl0 hc5) (vs := [.int ((D3 l0 11) - (1 : Int32)), .int ((1 : Int32) <<< ((D1 l0 10) &&& 31))]) (st := []) (by decide) 4 hl0 rfl rfl rfl (by decide +kernel) hC ?_
      show F S D5 54 [some (.ref l0), some (.int (D1 l0 10))] [.int v5]
      refine ev_if_ne hX (off := 5) 59 (by decide +kernel) (by decide) (fun h6 => ?_) (fun h6 => ?_)
      · have hf := ev_nf h6 hf
        refine ev_blk hX lkok_RX4 [(.aload_n 0, 1, 0, 0, 0), (.getfield 14, 3, 4, 0, 0), (.getfield 99, 3, 7, 1, 0), (.iload_n 1, 1, 0, 0, 0), (.aload_n 0, 1, 0, 0, 0), (.getfield 47, 3, 4, 10, 0), (.iconst 0, 1, 0, 0, 0)] (by decide +kernel) (g := (sK S l0 == 7) && ((sK S ((sE S) l0 0) == 10) && ((sK S l0 == 7) && (true)))) (lv' := [some (.ref l0), some (.int (D1 l0 10))]) (st' := [.int (0 : Int32), .int (D5 l0 10), .int (D1 l0 10), .ref ((sE S) ((sE S) l0 0) 1)]) (D' := D5) (pc' := 72) rfl (ev_gk hl0 (ev_gk (ev_tyk hT hl0 rfl rfl) (ev_gk hl0 (rfl)))) rfl ?_
        obtain ⟨v7, D7, hc7, hf⟩ := ev_bd_s hf
        refine ev_callV hX YX6_add ml_RX4_163 (mX6_add hT (ev_tyk hT (ev_tyk hT hl0 rfl rfl) rfl rfl) hc7) (vs := [.int (D1 l0 10), .int (D5 l0 10), .int (0 : Int32)]) (st := []) (by decide) 6 (ev_tyk hT (ev_tyk hT hl0 rfl rfl) rfl rfl) rfl rfl rfl (by decide +kernel) hC ?_
        show F S D7 75 [some (.ref l0), some (.int (D1 l0 10))] [.int v7]
        refine ev_blk hX lkok_RX4 [(.pop, 1, 0, 0, 0), (.iconst 1, 1, 0, 0, 1)] (by decide +kernel) (g := true) (lv' := [some (.ref l0), some (.int (D1 l0 10))]) (st' := [.int (1 : Int32)]) (D' := D7) (pc' := 77) rfl (rfl) rfl ?_
        exact ev_zret hR ev_sm.rf (Or.inr rfl) (Option.some.inj hf) hC (by decide +kernel)
      · have hf := ev_it h6 hf
        refine ev_blk hX lkok_RX4 [(.iconst 0, 1, 0, 0, 0)] (by decide +kernel) (g := true) (lv' := [some (.ref l0), some (.int (D1 l0 10))]) (st' := [.int (0 : Int32)]) (D' := D5) (pc' := 58) rfl (rfl) rfl ?_
        exact ev_zret hR ev_sm.rf (Or.inl rfl) (Option.some.inj hf) hC (by decide +kernel)
  · have hf := ev_it h2 hf
    refine ev_blk hX lkok_RX4 [(.iconst 0, 1, 0, 0, 0)] (by decide +kernel) (g := true) (lv' := [some (.ref l0), none]) (st' := [.int (0 : Int32)]) (D' := D1) (pc' := 25) rfl (rfl) rfl ?_
    exact ev_zret hR ev_sm.rf (Or.inl rfl) (Option.some.inj hf) hC (by decide +kernel)
theorem mX4_readRope {S : ev_S} {fu : Nat} {r : Int32 × ev_D} (hT : ev_Ty S) {l0 : Nat} {D : ev_D} (hl0 : sK S l0 = 7) (hf : fX4_readRope (sL S) (sE S) fu l0 D = some r) : ev_M 2 0 0 yX4_readRope cX4_readRope 2 (some .boolean) [.ref l0] S D S r :=
  ev_met (ini := false) (plainFor_of_name (by decide)) (fun h => by cases h) rfl (Nat.le_of_ble_eq_true rfl) (fun F hR => tX4_readRope (S := ev_z S) hR hT ⟨Nat.le_refl 0, Nat.le_refl 0⟩ hl0 hf)
set_option maxHeartbeats 4000000 in
set_option maxRecDepth 100000 in
theorem tX4_addToken_45 {S : ev_S} {fu : Nat} {r : Int32 × ev_D} {F : ev_Fr} (hR : ev_R RX4 cX4_addToken 3 0 0 0 false none S r F) (hT : ev_Ty S) (hC : sC S ≤ 0 ∧ sA S ≤ 0) {l0 : Nat} {D : ev_D} (hl0 : sK S l0 = 7) (hf : fX4_addToken_45 (sL S) (sE S) fu l0 D = some r) : F S D 45 [some (.ref l0), none, none] [] := by
  have hX := hR.X
  unfold fX4_addToken_45 at hf
  refine ev_blk hX lkok_RX4 [(.aload_n 0, 1, 0, 0, 0), (.dup, 1, 0, 0, 0), (.getfield 41, 3, 4, 8, 0), (.iconst 1, 1, 0, 0, 1), (.iadd, 1, 0, 0, 0), (.putfield 41, 3, 4, 8, 0)] (by decide +kernel) (g := (sK S l0 == 7) && ((sK S l0 == 7) && (true))) (lv' := [some (.ref l0), none, none]) (st' := []) (D' := (ev_up D l0 8 ((D l0 8) + (1 : Int32)))) (pc' := 55) rfl (ev_gk hl0 (ev_gk hl0 (rfl))) rfl ?_
  exact ev_vret hR ev_sm.rf (Option.some.inj hf) hC (by decide +kernel)
set_option maxHeartbeats 4000000 in
set_option maxRecDepth 100000 in
theorem tX4_addToken {S : ev_S} {fu : Nat} {r : Int32 × ev_D} {F : ev_Fr} (hR : ev_R RX4 cX4_addToken 3 0 0 0 false none S r F) (hT : ev_Ty S) (hC : sC S ≤ 0 ∧ sA S ≤ 0) {l0 : Nat} {l1 : Int32} {l2 : Int32} {D : ev_D} (hl0 : sK S l0 = 7) (hf : fX4_addToken (sL S) (sE S) fu l0 l1 l2 D = some r) : F S D 0 [some (.ref l0), some (.int l1), some (.int l2)] [] := by
  have hX := hR.X
  unfold fX4_addToken at hf
  refine ev_blk hX lkok_RX4 [(.aload_n 0, 1, 0, 0, 0), (.getfield 41, 3, 4, 8, 0), (.aload_n 0, 1, 0, 0, 0), (.getfield 32, 3, 4, 5, 0), (.arraylength, 1, 0, 0, 0)] (by decide +kernel) (g := (sK S l0 == 7) && ((sK S l0 == 7) && ((sK S ((sE S) l0 5) == 1) && (true)))) (lv' := [some (.ref l0), some (.int l1), some (.int l2)]) (st' := [.int (Int32.ofNat ((sL S) ((sE S) l0 5))), .int (D l0 8)]) (D' := D) (pc' := 9) rfl (ev_gk hl0 (ev_gk hl0 (ev_gk (ev_tyk hT hl0 rfl rfl) (rfl)))) rfl ?_
  refine ev_ic_ge hX (off := 46) 55 (by decide +kernel) (by decide) (fun h1 => ?_) (fun h1 => ?_)
  · have hf := ev_it h1 hf
    exact ev_vret hR ev_sm.rf (Option.some.inj hf) hC (by decide +kernel)
  · have hf := ev_nf h1 hf
    obtain ⟨hg2, hf⟩ := ev_gd_s hf
    obtain ⟨hg3, hf⟩ := ev_gd_s hf
    obtain ⟨hg4, hf⟩ := ev_gd_s hf
    refine ev_blk hX lkok_RX4 [(.aload_n 0, 1, 0, 0, 0), (.getfield 32, 3, 4, 5, 0), (.aload_n 0, 1, 0, 0, 0), (.getfield 41, 3, 4, 8, 0), (.iload_n 1, 1, 0, 0, 0), (.iastore, 1, 0, 0, 0), (.aload_n 0, 1, 0, 0, 0), (.getfield 35, 3, 4, 6, 0), (.aload_n 0, 1, 0, 0, 0), (.getfield 41, 3, 4, 8, 0), (.aload_n 0, 1, 0, 0, 0), (.getfield 47, 3, 4, 10, 0), (.iastore, 1, 0, 0, 0), (.aload_n 0, 1, 0, 0, 0), (.getfield 38, 3, 4, 7, 0), (.aload_n 0, 1, 0, 0, 0), (.getfield 41, 3, 4, 8, 0), (.iload_n 2, 1, 0, 0, 0), (.iastore, 1, 0, 0, 0)] (by decide +kernel) (g := (sK S l0 == 7) && ((sK S l0 == 7) && ((sK S ((sE S) l0 5) == 1 && ev_in (D l0 8) ((sL S) ((sE S) l0 5))) && ((sK S l0 == 7) && ((sK S l0 == 7) && ((sK S l0 == 7) && ((sK S ((sE S) l0 6) == 1 && ev_in ((ev_up D ((sE S) l0 5) ((D l0 8)).toNatClampNeg l1) l0 8) ((sL S) ((sE S) l0 6))) && ((sK S l0 == 7) && ((sK S l0 == 7) && ((sK S ((sE S) l0 7) == 1 && ev_in ((ev_up (ev_up D ((sE S) l0 5) ((D l0 8)).toNatClampNeg l1) ((sE S) l0 6) (((ev_up D ((sE S) l0 5) ((D l0 8)).toNatClampNeg l1) l0 8)).toNatClampNeg ((ev_up D ((sE S) l0 5) ((D l0 8)).toNatClampNeg l1) l0 10)) l0 8) ((sL S) ((sE S) l0 7))) && (true))))))))))) (lv' := [some (.ref l0), some (.int l1), some (.int l2)]) (st' := []) (D' := (ev_up (ev_up (ev_up D ((sE S) l0 5) ((D l0 8)).toNatClampNeg l1) ((sE S) l0 6) (((ev_up D ((sE S) l0 5) ((D l0 8)).toNatClampNeg l1) l0 8)).toNatClampNeg ((ev_up D ((sE S) l0 5) ((D l0 8)).toNatClampNeg l1) l0 10)) ((sE S) l0 7) (((ev_up (ev_up D ((sE S) l0 5) ((D l0 8)).toNatClampNeg l1) ((sE S) l0 6) (((ev_up D ((sE S) l0 5) ((D l0 8)).toNatClampNeg l1) l0 8)).toNatClampNeg ((ev_up D ((sE S) l0 5) ((D l0 8)).toNatClampNeg l1) l0 10)) l0 8)).toNatClampNeg l2)) (pc' := 45) rfl (ev_gk hl0 (ev_gk hl0 (ev_gi (ev_tyk hT hl0 rfl rfl) hg2 (ev_gk hl0 (ev_gk hl0 (ev_gk hl0 (ev_gi (ev_tyk hT hl0 rfl rfl) hg3 (ev_gk hl0 (ev_gk hl0 (ev_gi (ev_tyk hT hl0 rfl rfl) hg4 (rfl))))))))))) rfl ?_
    exact ev_weak hX (ev_le_eq (ev_le_no (ev_le_no ev_le_nil))) (tX4_addToken_45 hR hT hC   hl0 hf)
theorem mX4_addToken {S : ev_S} {fu : Nat} {r : Int32 × ev_D} (hT : ev_Ty S) {l0 : Nat} {l1 : Int32} {l2 : Int32} {D : ev_D} (hl0 : sK S l0 = 7) (hf : fX4_addToken (sL S) (sE S) fu l0 l1 l2 D = some r) : ev_M 0 0 0 yX4_addToken cX4_addToken 3 none [.ref l0, .int l1, .int l2] S D S r :=
  ev_met (ini := false) (plainFor_of_name (by decide)) (fun h => by cases h) rfl (Nat.le_of_ble_eq_true rfl) (fun F hR => tX4_addToken (S := ev_z S) hR hT ⟨Nat.le_refl 0, Nat.le_refl 0⟩ hl0 hf)
set_option maxHeartbeats 4000000 in
set_option maxRecDepth 100000 in
theorem tX4_isBlank {S : ev_S} {fu : Nat} {r : Int32 × ev_D} {F : ev_Fr} (hR : ev_R RX4 cX4_isBlank 1 0 0 0 false (some .boolean) S r F) (hT : ev_Ty S) (hC : sC S ≤ 0 ∧ sA S ≤ 0) {l0 : Int32} {D : ev_D}  (hf : fX4_isBlank (sL S) (sE S) fu l0 D = some r) : F S D 0 [some (.int l0)] [] := by
  have hX := hR.X
  unfold fX4_isBlank at hf
  refine ev_blk hX lkok_RX4 [(.iload_n 0, 1, 0, 0, 0), (.bipush 32, 2, 0, 0, 32)] (by decide +kernel) (g := true) (lv' := [some (.int l0)]) (st' := [.int (32 : Int32), .int l0]) (D' := D) (pc' := 3) rfl (rfl) rfl ?_
  refine ev_ic_eq hX (off := 9) 12 (by decide +kernel) (by decide) (fun h1 => ?_) (fun h1 => ?_)
  · have hf := ev_it h1 hf
    refine ev_blk hX lkok_RX4 [(.iconst 1, 1, 0, 0, 1)] (by decide +kernel) (g := true) (lv' := [some (.int l0)]) (st' := [.int (1 : Int32)]) (D' := D) (pc' := 13) rfl (rfl) rfl ?_
    refine ev_goto hX (off := 4) 17 (by decide +kernel) (by decide) ?_
    exact ev_zret hR ev_sm.rf (Or.inr rfl) (Option.some.inj hf) hC (by decide +kernel)
  · have hf := ev_nf h1 hf
    refine ev_blk hX lkok_RX4 [(.iload_n 0, 1, 0, 0, 0), (.bipush 10, 2, 0, 0, 10)] (by decide +kernel) (g := true) (lv' := [some (.int l0)]) (st' := [.int (10 : Int32), .int l0]) (D' := D) (pc' := 9) rfl (rfl) rfl ?_
    refine ev_ic_ne hX (off := 7) 16 (by decide +kernel) (by decide) (fun h2 => ?_) (fun h2 => ?_)
    · have hf := ev_nf h2 hf
      refine ev_blk hX lkok_RX4 [(.iconst 0, 1, 0, 0, 0)] (by decide +kernel) (g := true) (lv' := [some (.int l0)]) (st' := [.int (0 : Int32)]) (D' := D) (pc' := 17) rfl (rfl) rfl ?_
      exact ev_zret hR ev_sm.rf (Or.inl rfl) (Option.some.inj hf) hC (by decide +kernel)
    · have hf := ev_it h2 hf
      refine ev_blk hX lkok_RX4 [(.iconst 1, 1, 0, 0, 1)] (by decide +kernel) (g := true) (lv' := [some (.int l0)]) (st' := [.int (1 : Int32)]) (D' := D) (pc' := 13) rfl (rfl) rfl ?_
      refine ev_goto hX (off := 4) 17 (by decide +kernel) (by decide) ?_
      exact ev_zret hR ev_sm.rf (Or.inr rfl) (Option.some.inj hf) hC (by decide +kernel)
theorem mX4_isBlank {S : ev_S} {fu : Nat} {r : Int32 × ev_D} (hT : ev_Ty S) {l0 : Int32} {D : ev_D}  (hf : fX4_isBlank (sL S) (sE S) fu l0 D = some r) : ev_M 0 0 0 yX4_isBlank cX4_isBlank 1 (some .boolean) [.int l0] S D S r :=
  ev_met (ini := false) (plainFor_of_name (by decide)) (fun h => by cases h) rfl (Nat.le_of_ble_eq_true rfl) (fun F hR => tX4_isBlank (S := ev_z S) hR hT ⟨Nat.le_refl 0, Nat.le_refl 0⟩  hf)
set_option maxHeartbeats 4000000 in
set_option maxRecDepth 100000 in
theorem tX4_isDigit {S : ev_S} {fu : Nat} {r : Int32 × ev_D} {F : ev_Fr} (hR : ev_R RX4 cX4_isDigit 1 0 0 0 false (some .boolean) S r F) (hT : ev_Ty S) (hC : sC S ≤ 0 ∧ sA S ≤ 0) {l0 : Int32} {D : ev_D}  (hf : fX4_isDigit (sL S) (sE S) fu l0 D = some r) : F S D 0 [some (.int l0)] [] := by
  have hX := hR.X
  unfold fX4_isDigit at hf
  refine ev_blk hX lkok_RX4 [(.iload_n 0, 1, 0, 0, 0), (.bipush 48, 2, 0, 0, 48)] (by decide +kernel) (g := true) (lv' := [some (.int l0)]) (st' := [.int (48 : Int32), .int l0]) (D' := D) (pc' := 3) rfl (rfl) rfl ?_
  refine ev_ic_lt hX (off := 13) 16 (by decide +kernel) (by decide) (fun h1 => ?_) (fun h1 => ?_)
  · have hf := ev_it h1 hf
    refine ev_blk hX lkok_RX4 [(.iconst 0, 1, 0, 0, 0)] (by decide +kernel) (g := true) (lv' := [some (.int l0)]) (st' := [.int (0 : Int32)]) (D' := D) (pc' := 17) rfl (rfl) rfl ?_
    exact ev_zret hR ev_sm.rf (Or.inl rfl) (Option.some.inj hf) hC (by decide +kernel)
  · have hf := ev_nf h1 hf
    refine ev_blk hX lkok_RX4 [(.iload_n 0, 1, 0, 0, 0), (.bipush 57, 2, 0, 0, 57)] (by decide +kernel) (g := true) (lv' := [some (.int l0)]) (st' := [.int (57 : Int32), .int l0]) (D' := D) (pc' := 9) rfl (rfl) rfl ?_
    refine ev_ic_gt hX (off := 7) 16 (by decide +kernel) (by decide) (fun h2 => ?_) (fun h2 => ?_)
    · have hf := ev_it h2 hf
      refine ev_blk hX lkok_RX4 [(.iconst 0, 1, 0, 0, 0)] (by decide +kernel) (g := true) (lv' := [some (.int l0)]) (st' := [.int (0 : Int32)]) (D' := D) (pc' := 17) rfl (rfl) rfl ?_
      exact ev_zret hR ev_sm.rf (Or.inl rfl) (Option.some.inj hf) hC (by decide +kernel)
    · have hf := ev_nf h2 hf
      refine ev_blk hX lkok_RX4 [(.iconst 1, 1, 0, 0, 1)] (by decide +kernel) (g := true) (lv' := [some (.int l0)]) (st' := [.int (1 : Int32)]) (D' := D) (pc' := 13) rfl (rfl) rfl ?_
      refine ev_goto hX (off := 4) 17 (by decide +kernel) (by decide) ?_
      exact ev_zret hR ev_sm.rf (Or.inr rfl) (Option.some.inj hf) hC (by decide +kernel)
theorem mX4_isDigit {S : ev_S} {fu : Nat} {r : Int32 × ev_D} (hT : ev_Ty S) {l0 : Int32} {D : ev_D}  (hf : fX4_isDigit (sL S) (sE S) fu l0 D = some r) : ev_M 0 0 0 yX4_isDigit cX4_isDigit 1 (some .boolean) [.int l0] S D S r :=
  ev_met (ini := false) (plainFor_of_name (by decide)) (fun h => by cases h) rfl (Nat.le_of_ble_eq_true rfl) (fun F hR => tX4_isDigit (S := ev_z S) hR hT ⟨Nat.le_refl 0, Nat.le_refl 0⟩  hf)
set_option maxHeartbeats 4000000 in
set_option maxRecDepth 100000 in
theorem tX4_isLetter_12 {S : ev_S} {fu : Nat} {r : Int32 × ev_D} {F : ev_Fr} (hR : ev_R RX4 cX4_isLetter 1 0 0 0 false (some .boolean) S r F) (hT : ev_Ty S) (hC : sC S ≤ 0 ∧ sA S ≤ 0) {l0 : Int32} {D : ev_D}  (hf : fX4_isLetter_12 (sL S) (sE S) fu l0 D = some r) : F S D 12 [some (.int l0)] [] := by
  have hX := hR.X
  unfold fX4_isLetter_12 at hf
  refine ev_blk hX lkok_RX4 [(.iload_n 0, 1, 0, 0, 0), (.bipush 65, 2, 0, 0, 65)] (by decide +kernel) (g := true) (lv' := [some (.int l0)]) (st' := [.int (65 : Int32), .int l0]) (D' := D) (pc' := 15) rfl (rfl) rfl ?_
  refine ev_ic_lt hX (off := 13) 28 (by decide +kernel) (by decide) (fun h1 => ?_) (fun h1 => ?_)
  · have hf := ev_it h1 hf
    refine ev_blk hX lkok_RX4 [(.iconst 0, 1, 0, 0, 0)] (by decide +kernel) (g := true) (lv' := [some (.int l0)]) (st' := [.int (0 : Int32)]) (D' := D) (pc' := 29) rfl (rfl) rfl ?_
    exact ev_zret hR ev_sm.rf (Or.inl rfl) (Option.some.inj hf) hC (by decide +kernel)
  · have hf := ev_nf h1 hf
    refine ev_blk hX lkok_RX4 [(.iload_n 0, 1, 0, 0, 0), (.bipush 90, 2, 0, 0, 90)] (by decide +kernel) (g := true) (lv' := [some (.int l0)]) (st' := [.int (90 : Int32), .int l0]) (D' := D) (pc' := 21) rfl (rfl) rfl ?_
    refine ev_ic_gt hX (off := 7) 28 (by decide +kernel) (by decide) (fun h2 => ?_) (fun h2 => ?_)
    · have hf := ev_it h2 hf
      refine ev_blk hX lkok_RX4 [(.iconst 0, 1, 0, 0, 0)] (by decide +kernel) (g := true) (lv' := [some (.int l0)]) (st' := [.int (0 : Int32)]) (D' := D) (pc' := 29) rfl (rfl) rfl ?_
      exact ev_zret hR ev_sm.rf (Or.inl rfl) (Option.some.inj hf) hC (by decide +kernel)
    · have hf := ev_nf h2 hf
      refine ev_blk hX lkok_RX4 [(.iconst 1, 1, 0, 0, 1)] (by decide +kernel) (g := true) (lv' := [some (.int l0)]) (st' := [.int (1 : Int32)]) (D' := D) (pc' := 25) rfl (rfl) rfl ?_
      refine ev_goto hX (off := 4) 29 (by decide +kernel) (by decide) ?_
      exact ev_zret hR ev_sm.rf (Or.inr rfl) (Option.some.inj hf) hC (by decide +kernel)
set_option maxHeartbeats 4000000 in
set_option maxRecDepth 100000 in
theorem tX4_isLetter {S : ev_S} {fu : Nat} {r : Int32 × ev_D} {F : ev_Fr} (hR : ev_R RX4 cX4_isLetter 1 0 0 0 false (some .boolean) S r F) (hT : ev_Ty S) (hC : sC S ≤ 0 ∧ sA S ≤ 0) {l0 : Int32} {D : ev_D}  (hf : fX4_isLetter (sL S) (sE S) fu l0 D = some r) : F S D 0 [some (.int l0)] [] := by
  have hX := hR.X
  unfold fX4_isLetter at hf
  refine ev_blk hX lkok_RX4 [(.iload_n 0, 1, 0, 0, 0), (.bipush 97, 2, 0, 0, 97)] (by decide +kernel) (g := true) (lv' := [some (.int l0)]) (st' := [.int (97 : Int32), .int l0]) (D' := D) (pc' := 3) rfl (rfl) rfl ?_
  refine ev_ic_lt hX (off := 9) 12 (by decide +kernel) (by decide) (fun h3 => ?_) (fun h3 => ?_)
  · have hf := ev_it h3 hf
    exact ev_weak hX (ev_le_eq ev_le_nil) (tX4_isLetter_12 hR hT hC    hf)
  · have hf := ev_nf h3 hf
    refine ev_blk hX lkok_RX4 [(.iload_n 0, 1, 0, 0, 0), (.bipush 122, 2, 0, 0, 122)] (by decide +kernel) (g := true) (lv' := [some (.int l0)]) (st' := [.int (122 : Int32), .int l0]) (D' := D) (pc' := 9) rfl (rfl) rfl ?_
    refine ev_ic_le hX (off := 15) 24 (by decide +kernel) (by decide) (fun h4 => ?_) (fun h4 => ?_)
    · have hf := ev_it h4 hf
      refine ev_blk hX lkok_RX4 [(.iconst 1, 1, 0, 0, 1)] (by decide +kernel) (g := true) (lv' := [some (.int l0)]) (st' := [.int (1 : Int32)]) (D' := D) (pc' := 25) rfl (rfl) rfl ?_
      refine ev_goto hX (off := 4) 29 (by decide +kernel) (by decide) ?_
      exact ev_zret hR ev_sm.rf (Or.inr rfl) (Option.some.inj hf) hC (by decide +kernel)
    · have hf := ev_nf h4 hf
      exact ev_weak hX (ev_le_eq ev_le_nil) (tX4_isLetter_12 hR hT hC    hf)
theorem mX4_isLetter {S : ev_S} {fu : Nat} {r : Int32 × ev_D} (hT : ev_Ty S) {l0 : Int32} {D : ev_D}  (hf : fX4_isLetter (sL S) (sE S) fu l0 D = some r) : ev_M 0 0 0 yX4_isLetter cX4_isLetter 1 (some .boolean) [.int l0] S D S r :=
  ev_met (ini := false) (plainFor_of_name (by decide)) (fun h => by cases h) rfl (Nat.le_of_ble_eq_true rfl) (fun F hR => tX4_isLetter (S := ev_z S) hR hT ⟨Nat.le_refl 0, Nat.le_refl 0⟩  hf)
set_option maxHeartbeats 4000000 in
set_option maxRecDepth 100000 in
theorem tX4_runFrom_32 {S : ev_S} {fu : Nat} {r : Int32 × ev_D} {F : ev_Fr} (hR : ev_R RX4 cX4_runFrom 4 1 0 0 false (some .int) S r F) (hT : ev_Ty S) (hC : sC S ≤ 0 ∧ sA S ≤ 0) : ∀ (n : Nat) (l0 : Nat) (l2 : Int32) (l3 : Int32) (D : ev_D), sK S l0 = 7 → fX4_runFrom_32 (sL S) (sE S) fu n l0 l2 l3 D = some r → F S D 32 [some (.ref l0), none, some (.int l2), some (.int l3)] [] := by
  have hX := hR.X
  intro n
  induction n with
  | zero =>
    intro l0 l2 l3 D hl0 hf
    rw [fX4_runFrom_32] at hf
    cases hf
  | succ n ih =>
    intro l0 l2 l3 D hl0 hf
    rw [fX4_runFrom_32] at hf
    refine ev_blk hX lkok_RX4 [(.iload_n 2, 1, 0, 0, 0), (.aload_n 0, 1, 0, 0, 0), (.getfield 18, 3, 4, 1, 0)] (by decide +kernel) (g := (sK S l0 == 7) && (true)) (lv' := [some (.ref l0), none, some (.int l2), some (.int l3)]) (st' := [.int (D l0 1), .int l2]) (D' := D) (pc' := 37) rfl (ev_gk hl0 (rfl)) rfl ?_
    refine ev_ic_ge hX (off := 40) 77 (by decide +kernel) (by decide) (fun h1 => ?_) (fun h1 => ?_)
    · have hf := ev_it h1 hf
      refine ev_blk hX lkok_RX4 [(.iload_n 2, 1, 0, 0, 0)] (by decide +kernel) (g := true) (lv' := [some (.ref l0), none, some (.int l2), some (.int l3)]) (st' := [.int l2]) (D' := D) (pc' := 78) rfl (rfl) rfl ?_
      exact ev_iret hR ev_sm.rf (Option.some.inj hf) hC (by decide +kernel)
    · have hf := ev_nf h1 hf
      refine ev_blk hX lkok_RX4 [(.iload_n 3, 1, 0, 0, 0)] (by decide +kernel) (g := true) (lv' := [some (.ref l0), none, some (.int l2), some (.int l3)]) (st' := [.int l3]) (D' := D) (pc' := 41) rfl (rfl) rfl ?_
      refine ev_if_eq hX (off := 18) 59 (by decide +kernel) (by decide) (fun h2 => ?_) (fun h2 => ?_)
      · have hf := ev_it h2 hf
        obtain ⟨hg5, hf⟩ := ev_gd_s hf
        refine ev_blk hX lkok_RX4 [(.aload_n 0, 1, 0, 0, 0), (.getfield 28, 3, 4, 4, 0), (.iload_n 2, 1, 0, 0, 0), (.iaload, 1, 0, 0, 0)] (by decide +kernel) (g := (sK S l0 == 7) && ((sK S ((sE S) l0 4) == 1 && ev_in l2 ((sL S) ((sE S) l0 4))) && (true))) (lv' := [some (.ref l0), none, some (.int l2), some (.int l3)]) (st' := [.int (D ((sE S) l0 4) (l2).toNatClampNeg)]) (D' := D) (pc' := 65) rfl (ev_gk hl0 (ev_gi (ev_tyk hT hl0 rfl rfl) hg5 (rfl))) rfl ?_
        obtain ⟨v3, D3, hc3, hf⟩ := ev_bd_s hf
        refine ev_callS hX YX4_isDigit ml_RX4_132 (mX4_isDigit hT  hc3) (vs := [.int (D ((sE S) l0 4) (l2).toNatClampNeg)]) (st := []) (by decide) rfl rfl (by decide +kernel) hC ?_
        show F S D3 68 [some (.ref l0), none, some (.int l2), some (.int l3)] [.int v3]
        refine ev_if_eq hX (off := 9) 77 (by decide +kernel) (by decide) (fun h4 => ?_) (fun h4 => ?_)
        · have hf := ev_it h4 hf
          refine ev_blk hX lkok_RX4 [(.iload_n 2, 1, 0, 0, 0)] (by decide +kernel) (g := true) (lv' := [some (.ref l0), none, some (.int l2), some (.int l3)]) (st' := [.int l2]) (D' := D3) (pc' := 78) rfl (rfl) rfl ?_
          exact ev_iret hR ev_sm.rf (Option.some.inj hf) hC (by decide +kernel)
        · have hf := ev_nf h4 hf
          refine ev_blk hX lkok_RX4 [(.iinc 2 1, 3, 0, 0, 1)] (by decide +kernel) (g := true) (lv' := [some (.ref l0), none, some (.int (l2 + (1 : Int32))), some (.int l3)]) (st' := []) (D' := D3) (pc' := 74) rfl (rfl) rfl ?_
          refine ev_goto hX (off := (-42)) 32 (by decide +kernel) (by decide) ?_
          exact ev_weak hX (ev_le_eq (ev_le_no (ev_le_eq (ev_le_eq ev_le_nil)))) (ih _ _ _ _ hl0 hf)
      · have hf := ev_nf h2 hf
        obtain ⟨hg8, hf⟩ := ev_gd_s hf
        refine ev_blk hX lkok_RX4 [(.aload_n 0, 1, 0, 0, 0), (.getfield 28, 3, 4, 4, 0), (.iload_n 2, 1, 0, 0, 0), (.iaload, 1, 0, 0, 0)] (by decide +kernel) (g := (sK S l0 == 7) && ((sK S ((sE S) l0 4) == 1 && ev_in l2 ((sL S) ((sE S) l0 4))) && (true))) (lv' := [some (.ref l0), none, some (.int l2), some (.int l3)]) (st' := [.int (D ((sE S) l0 4) (l2).toNatClampNeg)]) (D' := D) (pc' := 50) rfl (ev_gk hl0 (ev_gi (ev_tyk hT hl0 rfl rfl) hg8 (rfl))) rfl ?_
        obtain ⟨v6, D6, hc6, hf⟩ := ev_bd_s hf
        refine ev_callS hX YX4_isLetter ml_RX4_129 (mX4_isLetter hT  hc6) (vs := [.int (D ((sE S) l0 4) (l2).toNatClampNeg)]) (st := []) (by decide) rfl rfl (by decide +kernel) hC ?_
        show F S D6 53 [some (.ref l0), none, some (.int l2), some (.int l3)] [.int v6]
        refine ev_if_eq hX (off := 24) 77 (by decide +kernel) (by decide) (fun h7 => ?_) (fun h7 => ?_)
        · have hf := ev_it h7 hf
          refine ev_blk hX lkok_RX4 [(.iload_n 2, 1, 0, 0, 0)] (by decide +kernel) (g := true) (lv' := [some (.ref l0), none, some (.int l2), some (.int l3)]) (st' := [.int l2]) (D' := D6) (pc' := 78) rfl (rfl) rfl ?_
          exact ev_iret hR ev_sm.rf (Option.some.inj hf) hC (by decide +kernel)
        · have hf := ev_nf h7 hf
          refine ev_goto hX (off := 15) 71 (by decide +kernel) (by decide) ?_
          refine ev_blk hX lkok_RX4 [(.iinc 2 1, 3, 0, 0, 1)] (by decide +kernel) (g := true) (lv' := [some (.ref l0), none, some (.int (l2 + (1 : Int32))), some (.int l3)]) (st' := []) (D' := D6) (pc' := 74) rfl (rfl) rfl ?_
          refine ev_goto hX (off := (-42)) 32 (by decide +kernel) (by decide) ?_
          exact ev_weak hX (ev_le_eq (ev_le_no (ev_le_eq (ev_le_eq ev_le_nil)))) (ih _ _ _ _ hl0 hf)
set_option maxHeartbeats 4000000 in
set_option maxRecDepth 100000 in
theorem tX4_runFrom {S : ev_S} {fu : Nat} {r : Int32 × ev_D} {F : ev_Fr} (hR : ev_R RX4 cX4_runFrom 4 1 0 0 false (some .int) S r F) (hT : ev_Ty S) (hC : sC S ≤ 0 ∧ sA S ≤ 0) {l0 : Nat} {l1 : Int32} {D : ev_D} (hl0 : sK S l0 = 7) (hf : fX4_runFrom (sL S) (sE S) fu l0 l1 D = some r) : F S D 0 [some (.ref l0), some (.int l1), none, none] [] := by
  have hX := hR.X
  unfold fX4_runFrom at hf
  obtain ⟨hg14, hf⟩ := ev_gd_s hf
  refine ev_blk hX lkok_RX4 [(.iload_n 1, 1, 0, 0, 0), (.iconst 1, 1, 0, 0, 1), (.iadd, 1, 0, 0, 0), (.istore_n 2, 1, 0, 0, 0), (.aload_n 0, 1, 0, 0, 0), (.getfield 28, 3, 4, 4, 0), (.iload_n 1, 1, 0, 0, 0), (.iaload, 1, 0, 0, 0)] (by decide +kernel) (g := (sK S l0 == 7) && ((sK S ((sE S) l0 4) == 1 && ev_in l1 ((sL S) ((sE S) l0 4))) && (true))) (lv' := [some (.ref l0), some (.int l1), some (.int (l1 + (1 : Int32))), none]) (st' := [.int (D ((sE S) l0 4) (l1).toNatClampNeg)]) (D' := D) (pc' := 10) rfl (ev_gk hl0 (ev_gi (ev_tyk hT hl0 rfl rfl) hg14 (rfl))) rfl ?_
  obtain ⟨v9, D9, hc9, hf⟩ := ev_bd_s hf
  refine ev_callS hX YX4_isLetter ml_RX4_129 (mX4_isLetter hT  hc9) (vs := [.int (D ((sE S) l0 4) (l1).toNatClampNeg)]) (st := []) (by decide) rfl rfl (by decide +kernel) hC ?_
  show F S D9 13 [some (.ref l0), some (.int l1), some (.int (l1 + (1 : Int32))), none] [.int v9]
  refine ev_blk hX lkok_RX4 [(.istore_n 3, 1, 0, 0, 0), (.iload_n 3, 1, 0, 0, 0)] (by decide +kernel) (g := true) (lv' := [some (.ref l0), some (.int l1), some (.int (l1 + (1 : Int32))), some (.int v9)]) (st' := [.int v9]) (D' := D9) (pc' := 15) rfl (rfl) rfl ?_
  refine ev_if_ne hX (off := 17) 32 (by decide +kernel) (by decide) (fun h10 => ?_) (fun h10 => ?_)
  · have hf := ev_nf h10 hf
    exact ev_weak hX (ev_le_eq (ev_le_no (ev_le_eq (ev_le_eq ev_le_nil)))) (tX4_runFrom_32 hR hT hC   fu _ _ _ _ hl0 hf)
  · have hf := ev_it h10 hf
    obtain ⟨hg13, hf⟩ := ev_gd_s hf
    refine ev_blk hX lkok_RX4 [(.aload_n 0, 1, 0, 0, 0), (.getfield 28, 3, 4, 4, 0), (.iload_n 1, 1, 0, 0, 0), (.iaload, 1, 0, 0, 0)] (by decide +kernel) (g := (sK S l0 == 7) && ((sK S ((sE S) l0 4) == 1 && ev_in l1 ((sL S) ((sE S) l0 4))) && (true))) (lv' := [some (.ref l0), some (.int l1), some (.int (l1 + (1 : Int32))), some (.int v9)]) (st' := [.int (D9 ((sE S) l0 4) (l1).toNatClampNeg)]) (D' := D9) (pc' := 24) rfl (ev_gk hl0 (ev_gi (ev_tyk hT hl0 rfl rfl) hg13 (rfl))) rfl ?_
    obtain ⟨v11, D11, hc11, hf⟩ := ev_bd_s hf
    refine ev_callS hX YX4_isDigit ml_RX4_132 (mX4_isDigit hT  hc11) (vs := [.int (D9 ((sE S) l0 4) (l1).toNatClampNeg)]) (st := []) (by decide) rfl rfl (by decide +kernel) hC ?_
    show F S D11 27 [some (.ref l0), some (.int l1), some (.int (l1 + (1 : Int32))), some (.int v9)] [.int v11]
    refine ev_if_ne hX (off := 5) 32 (by decide +kernel) (by decide) (fun h12 => ?_) (fun h12 => ?_)
    · have hf := ev_nf h12 hf
      exact ev_weak hX (ev_le_eq (ev_le_no (ev_le_eq (ev_le_eq ev_le_nil)))) (tX4_runFrom_32 hR hT hC   fu _ _ _ _ hl0 hf)
    · have hf := ev_it h12 hf
      refine ev_blk hX lkok_RX4 [(.iload_n 2, 1, 0, 0, 0)] (by decide +kernel) (g := true) (lv' := [some (.ref l0), some (.int l1), some (.int (l1 + (1 : Int32))), some (.int v9)]) (st' := [.int (l1 + (1 : Int32))]) (D' := D11) (pc' := 31) rfl (rfl) rfl ?_
      exact ev_iret hR ev_sm.rf (Option.some.inj hf) hC (by decide +kernel)
theorem mX4_runFrom {S : ev_S} {fu : Nat} {r : Int32 × ev_D} (hT : ev_Ty S) {l0 : Nat} {l1 : Int32} {D : ev_D} (hl0 : sK S l0 = 7) (hf : fX4_runFrom (sL S) (sE S) fu l0 l1 D = some r) : ev_M 1 0 0 yX4_runFrom cX4_runFrom 4 (some .int) [.ref l0, .int l1] S D S r :=
  ev_met (ini := false) (plainFor_of_name (by decide)) (fun h => by cases h) rfl (Nat.le_of_ble_eq_true rfl) (fun F hR => tX4_runFrom (S := ev_z S) hR hT ⟨Nat.le_refl 0, Nat.le_refl 0⟩ hl0 hf)
theorem dX11_fault_1 : decode cX11_fault 1 = .ok (.lookupswitch 43 #[(0, 27), (1, 35)], 27) := by decide +kernel
set_option maxHeartbeats 4000000 in
set_option maxRecDepth 100000 in
theorem tX11_fault {S : ev_S} {fu : Nat} {r : Int32 × ev_D} {F : ev_Fr} (hR : ev_R RX11 cX11_fault 2 0 0 0 false (some .int) S r F) (hT : ev_Ty S) (hC : sC S ≤ 0 ∧ sA S ≤ 0) {l0 : Nat} {l1 : Int32} {D : ev_D} (hl0 : sK S l0 = 14) (hf : fX11_fault (sL S) (sE S) fu l0 l1 D = some r) : F S D 0 [some (.ref l0), some (.int l1)] [] := by
  have hX := hR.X
  unfold fX11_fault at hf
  refine ev_blk hX lkok_RX11 [(.iload_n 1, 1, 0, 0, 0)] (by decide +kernel) (g := true) (lv' := [some (.ref l0), some (.int l1)]) (st' := [.int l1]) (D' := D) (pc' := 1) rfl (rfl) rfl ?_
  by_cases h1 : l1 = (0 : Int32)
  · have hf := ev_it h1 hf
    refine ev_lookup hX (off := 27) 28 dX11_fault_1 (by decide) (by rw [h1]; rfl) (by decide) ?_
    refine ev_blk hX lkok_RX11 [(.aload_n 0, 1, 0, 0, 0), (.getfield 26, 3, 11, 2, 0), (.getfield 174, 3, 4, 2, 0)] (by decide +kernel) (g := (sK S l0 == 14) && ((sK S ((sE S) l0 2) == 7) && (true))) (lv' := [some (.ref l0), some (.int l1)]) (st' := [.int (D ((sE S) l0 2) 2)]) (D' := D) (pc' := 35) rfl (ev_gk hl0 (ev_gk (ev_tyk hT hl0 rfl rfl) (rfl))) rfl ?_
    exact ev_iret hR ev_sm.rf (Option.some.inj hf) hC (by decide +kernel)
  have hf := ev_nf h1 hf
  by_cases h2 : l1 = (1 : Int32)
  · have hf := ev_it h2 hf
    refine ev_lookup hX (off := 35) 36 dX11_fault_1 (by decide) (by rw [h2]; rfl) (by decide) ?_
    refine ev_blk hX lkok_RX11 [(.aload_n 0, 1, 0, 0, 0), (.getfield 26, 3, 11, 2, 0), (.getfield 177, 3, 4, 3, 0)] (by decide +kernel) (g := (sK S l0 == 14) && ((sK S ((sE S) l0 2) == 7) && (true))) (lv' := [some (.ref l0), some (.int l1)]) (st' := [.int (D ((sE S) l0 2) 3)]) (D' := D) (pc' := 43) rfl (ev_gk hl0 (ev_gk (ev_tyk hT hl0 rfl rfl) (rfl))) rfl ?_
    exact ev_iret hR ev_sm.rf (Option.some.inj hf) hC (by decide +kernel)
  have hf := ev_nf h2 hf
  refine ev_lookup hX (off := 43) 44 dX11_fault_1 (by decide) (by show Op.lookupswitch.offset [(0, 27), (1, 35)] _ _ = _; rw [lv_osw (a := 0) h1 (by decide), lv_osw (a := 1) h2 (by decide)]; rfl) (by decide) ?_
  refine ev_blk hX lkok_RX11 [(.iconst (-1), 1, 0, 0, (-1))] (by decide +kernel) (g := true) (lv' := [some (.ref l0), some (.int l1)]) (st' := [.int (-1 : Int32)]) (D' := D) (pc' := 45) rfl (rfl) rfl ?_
  exact ev_iret hR ev_sm.rf (Option.some.inj hf) hC (by decide +kernel)
theorem mX11_fault {S : ev_S} {fu : Nat} {r : Int32 × ev_D} (hT : ev_Ty S) {l0 : Nat} {l1 : Int32} {D : ev_D} (hl0 : sK S l0 = 14) (hf : fX11_fault (sL S) (sE S) fu l0 l1 D = some r) : ev_M 0 0 0 yX11_fault cX11_fault 2 (some .int) [.ref l0, .int l1] S D S r :=
  ev_met (ini := false) (plainFor_of_name (by decide)) (fun h => by cases h) rfl (Nat.le_of_ble_eq_true rfl) (fun F hR => tX11_fault (S := ev_z S) hR hT ⟨Nat.le_refl 0, Nat.le_refl 0⟩ hl0 hf)
theorem dX11_of_19 : decode cX11_of 19 = .ok (.tableswitch 132 0 8 #[49, 56, 63, 70, 77, 84, 98, 110, 121], 49) := by decide +kernel
set_option maxHeartbeats 4000000 in
set_option maxRecDepth 100000 in
theorem tX11_of {S : ev_S} {fu : Nat} {r : Int32 × ev_D} {F : ev_Fr} (hR : ev_R RX11 cX11_of 4 4 0 0 false (some .int) S r F) (hT : ev_Ty S) (hC : sC S ≤ 0 ∧ sA S ≤ 0) {l0 : Nat} {l1 : Int32} {l2 : Int32} {D : ev_D} (hl0 : sK S l0 = 14) (hf : fX11_of (sL S) (sE S) fu l0 l1 l2 D = some r) : F S D 0 [some (.ref l0), some (.int l1), some (.int l2), none] [] := by
  have hX := hR.X
  unfold fX11_of at hf
  refine ev_blk hX lkok_RX11 [(.aload_n 0, 1, 0, 0, 0), (.getfield 10, 3, 11, 0, 0), (.getfield 32, 3, 10, 0, 0), (.astore_n 3, 1, 0, 0, 0), (.aload_n 3, 1, 0, 0, 0), (.iload_n 1, 1, 0, 0, 0)] (by decide +kernel) (g := (sK S l0 == 14) && ((sK S ((sE S) l0 0) == 13) && (true))) (lv' := [some (.ref l0), some (.int l1), some (.int l2), some (.ref ((sE S) ((sE S) l0 0) 0))]) (st' := [.int l1, .ref ((sE S) ((sE S) l0 0) 0)]) (D' := D) (pc' := 10) rfl (ev_gk hl0 (ev_gk (ev_tyk hT hl0 rfl rfl) (rfl))) rfl ?_
  obtain ⟨v1, D1, hc1, hf⟩ := ev_bd_s hf
  refine ev_callV hX YX9_has ml_RX11_112 (mX9_has hT (ev_tyk hT (ev_tyk hT hl0 rfl rfl) rfl rfl) hc1) (vs := [.int l1]) (st := []) (by decide) 9 (ev_tyk hT (ev_tyk hT hl0 rfl rfl) rfl rfl) rfl rfl rfl (by decide +kernel) hC ?_
  show F S D1 13 [some (.ref l0), some (.int l1), some (.int l2), some (.ref ((sE S) ((sE S) l0 0) 0))] [.int v1]
  refine ev_if_ne hX (off := 5) 18 (by decide +kernel) (by decide) (fun h2 => ?_) (fun h2 => ?_)
  · have hf := ev_nf h2 hf
    refine ev_blk hX lkok_RX11 [(.iload_n 2, 1, 0, 0, 0)] (by decide +kernel) (g := true) (lv' := [some (.ref l0), some (.int l1), some (.int l2), some (.ref ((sE S) ((sE S) l0 0) 0))]) (st' := [.int l2]) (D' := D1) (pc' := 19) rfl (rfl) rfl ?_
    by_cases h3 : l2 = (0 : Int32)
    · have hf := ev_it h3 hf
      refine ev_tblIn hX (off := 49) 68 dX11_of_19 (by rw [h3]; decide) (by rw [h3]; decide) (by rw [h3]; rfl) (by decide) ?_
      obtain ⟨hg4, hf⟩ := ev_gd_s hf
      refine ev_blk hX lkok_RX11 [(.aload_n 3, 1, 0, 0, 0), (.getfield 116, 3, 9, 9, 0), (.iload_n 1, 1, 0, 0, 0), (.iaload, 1, 0, 0, 0)] (by decide +kernel) (g := (sK S ((sE S) ((sE S) l0 0) 0) == 12) && ((sK S ((sE S) ((sE S) ((sE S) l0 0) 0) 9) == 1 && ev_in l1 ((sL S) ((sE S) ((sE S) ((sE S) l0 0) 0) 9))) && (true))) (lv' := [some (.ref l0), some (.int l1), some (.int l2), some (.ref ((sE S) ((sE S) l0 0) 0))]) (st' := [.int (D1 ((sE S) ((sE S) ((sE S) l0 0) 0) 9) (l1).toNatClampNeg)]) (D' := D1) (pc' := 74) rfl (ev_gk (ev_tyk hT (ev_tyk hT hl0 rfl rfl) rfl rfl) (ev_gi (ev_tyk hT (ev_tyk hT (ev_tyk hT hl0 rfl rfl) rfl rfl) rfl rfl) hg4 (rfl))) rfl ?_
      exact ev_iret hR ev_sm.rf (Option.some.inj hf) hC (by decide +kernel)
    have hf := ev_nf h3 hf
    by_cases h5 : l2 = (1 : Int32)
    · have hf := ev_it h5 hf
      refine ev_tblIn hX (off := 56) 75 dX11_of_19 (by rw [h5]; decide) (by rw [h5]; decide) (by rw [h5]; rfl) (by decide) ?_
      obtain ⟨hg6, hf⟩ := ev_gd_s hf
      refine ev_blk hX lkok_RX11 [(.aload_n 3, 1, 0, 0, 0), (.getfield 180, 3, 9, 10, 0), (.iload_n 1, 1, 0, 0, 0), (.iaload, 1, 0, 0, 0)] (by decide +kernel) (g := (sK S ((sE S) ((sE S) l0 0) 0) == 12) && ((sK S ((sE S) ((sE S) ((sE S) l0 0) 0) 10) == 1 && ev_in l1 ((sL S) ((sE S) ((sE S) ((sE S) l0 0) 0) 10))) && (true))) (lv' := [some (.ref l0), some (.int l1), some (.int l2), some (.ref ((sE S) ((sE S) l0 0) 0))]) (st' := [.int (D1 ((sE S) ((sE S) ((sE S) l0 0) 0) 10) (l1).toNatClampNeg)]) (D' := D1) (pc' := 81) rfl (ev_gk (ev_tyk hT (ev_tyk hT hl0 rfl rfl) rfl rfl) (ev_gi (ev_tyk hT (ev_tyk hT (ev_tyk hT hl0 rfl rfl) rfl rfl) rfl rfl) hg6 (rfl))) rfl ?_
      exact ev_iret hR ev_sm.rf (Option.some.inj hf) hC (by decide +kernel)
    have hf := ev_nf h5 hf
    by_cases h7 : l2 = (2 : Int32)
    · have hf := ev_it h7 hf
      refine ev_tblIn hX (off := 63) 82 dX11_of_19 (by rw [h7]; decide) (by rw [h7]; decide) (by rw [h7]; rfl) (by decide) ?_
      obtain ⟨hg8, hf⟩ := ev_gd_s hf
      refine ev_blk hX lkok_RX11 [(.aload_n 3, 1, 0, 0, 0), (.getfield 183, 3, 9, 11, 0), (.iload_n 1, 1, 0, 0, 0), (.iaload, 1, 0, 0, 0)] (by decide +kernel) (g := (sK S ((sE S) ((sE S) l0 0) 0) == 12) && ((sK S ((sE S) ((sE S) ((sE S) l0 0) 0) 11) == 1 && ev_in l1 ((sL S) ((sE S) ((sE S) ((sE S) l0 0) 0) 11))) && (true))) (lv' := [some (.ref l0), some (.int l1), some (.int l2), some (.ref ((sE S) ((sE S) l0 0) 0))]) (st' := [.int (D1 ((sE S) ((sE S) ((sE S) l0 0) 0) 11) (l1).toNatClampNeg)]) (D' := D1) (pc' := 88) rfl (ev_gk (ev_tyk hT (ev_tyk hT hl0 rfl rfl) rfl rfl) (ev_gi (ev_tyk hT (ev_tyk hT (ev_tyk hT hl0 rfl rfl) rfl rfl) rfl rfl) hg8 (rfl))) rfl ?_
      exact ev_iret hR ev_sm.rf (Option.some.inj hf) hC (by decide +kernel)
    have hf := ev_nf h7 hf
    by_cases h9 : l2 = (3 : Int32)
    · have hf := ev_it h9 hf
      refine ev_tblIn hX (off := 70) 89 dX11_of_19 (by rw [h9]; decide) (by rw [h9]; decide) (by rw [h9]; rfl) (by decide) ?_
      obtain ⟨hg10, hf⟩ := ev_gd_s hf
      refine ev_blk hX lkok_RX11 [(.aload_n 3, 1, 0, 0, 0), (.getfield 119, 3, 9, 12, 0), (.iload_n 1, 1, 0, 0, 0), (.iaload, 1, 0, 0, 0)] (by decide +kernel) (g := (sK S ((sE S) ((sE S) l0 0) 0) == 12) && ((sK S ((sE S) ((sE S) ((sE S) l0 0) 0) 12) == 1 && ev_in l1 ((sL S) ((sE S) ((sE S) ((sE S) l0 0) 0) 12))) && (true))) (lv' := [some (.ref l0), some (.int l1), some (.int l2), some (.ref ((sE S) ((sE S) l0 0) 0))]) (st' := [.int (D1 ((sE S) ((sE S) ((sE S) l0 0) 0) 12) (l1).toNatClampNeg)]) (D' := D1) (pc' := 95) rfl (ev_gk (ev_tyk hT (ev_tyk hT hl0 rfl rfl) rfl rfl) (ev_gi (ev_tyk hT (ev_tyk hT (ev_tyk hT hl0 rfl rfl) rfl rfl) rfl rfl) hg10 (rfl))) rfl ?_
      exact ev_iret hR ev_sm.rf (Option.some.inj hf) hC (by decide +kernel)
    have hf := ev_nf h9 hf
    by_cases h11 : l2 = (4 : Int32)
    · have hf := ev_it h11 hf
      refine ev_tblIn hX (off := 77) 96 dX11_of_19 (by rw [h11]; decide) (by rw [h11]; decide) (by rw [h11]; rfl) (by decide) ?_
      obtain ⟨hg12, hf⟩ := ev_gd_s hf
      refine ev_blk hX lkok_RX11 [(.aload_n 3, 1, 0, 0, 0), (.getfield 122, 3, 9, 13, 0), (.iload_n 1, 1, 0, 0, 0), (.iaload, 1, 0, 0, 0)] (by decide +kernel) (g := (sK S ((sE S) ((sE S) l0 0) 0) == 12) && ((sK S ((sE S) ((sE S) ((sE S) l0 0) 0) 13) == 1 && ev_in l1 ((sL S) ((sE S) ((sE S) ((sE S) l0 0) 0) 13))) && (true))) (lv' := [some (.ref l0), some (.int l1), some (.int l2), some (.ref ((sE S) ((sE S) l0 0) 0))]) (st' := [.int (D1 ((sE S) ((sE S) ((sE S) l0 0) 0) 13) (l1).toNatClampNeg)]) (D' := D1) (pc' := 102) rfl (ev_gk (ev_tyk hT (ev_tyk hT hl0 rfl rfl) rfl rfl) (ev_gi (ev_tyk hT (ev_tyk hT (ev_tyk hT hl0 rfl rfl) rfl rfl) rfl rfl) hg12 (rfl))) rfl ?_
      exact ev_iret hR ev_sm.rf (Option.some.inj hf) hC (by decide +kernel)
    have hf := ev_nf h11 hf
    by_cases h13 : l2 = (5 : Int32)
    · have hf := ev_it h13 hf
      refine ev_tblIn hX (off := 84) 103 dX11_of_19 (by rw [h13]; decide) (by rw [h13]; decide) (by rw [h13]; rfl) (by decide) ?_
      refine ev_blk hX lkok_RX11 [(.aload_n 3, 1, 0, 0, 0), (.iload_n 1, 1, 0, 0, 0)] (by decide +kernel) (g := true) (lv' := [some (.ref l0), some (.int l1), some (.int l2), some (.ref ((sE S) ((sE S) l0 0) 0))]) (st' := [.int l1, .ref ((sE S) ((sE S) l0 0) 0)]) (D' := D1) (pc' := 105) rfl (rfl) rfl ?_
      obtain ⟨v14, D14, hc14, hf⟩ := ev_bd_s hf
      refine ev_callV hX YX9_isAwake ml_RX11_125 (mX9_isAwake hT (ev_tyk hT (ev_tyk hT hl0 rfl rfl) rfl rfl) hc14) (vs := [.int l1]) (st := []) (by decide) 9 (ev_tyk hT (ev_tyk hT hl0 rfl rfl) rfl rfl) rfl rfl rfl (by decide +kernel) hC ?_
      show F S D14 108 [some (.ref l0), some (.int l1), some (.int l2), some (.ref ((sE S) ((sE S) l0 0) 0))] [.int v14]
      refine ev_if_eq hX (off := 7) 115 (by decide +kernel) (by decide) (fun h15 => ?_) (fun h15 => ?_)
      · have hf := ev_it h15 hf
        refine ev_blk hX lkok_RX11 [(.iconst 0, 1, 0, 0, 0)] (by decide +kernel) (g := true) (lv' := [some (.ref l0), some (.int l1), some (.int l2), some (.ref ((sE S) ((sE S) l0 0) 0))]) (st' := [.int (0 : Int32)]) (D' := D14) (pc' := 116) rfl (rfl) rfl ?_
        exact ev_iret hR ev_sm.rf (Option.some.inj hf) hC (by decide +kernel)
      · have hf := ev_nf h15 hf
        refine ev_blk hX lkok_RX11 [(.iconst 1, 1, 0, 0, 1)] (by decide +kernel) (g := true) (lv' := [some (.ref l0), some (.int l1), some (.int l2), some (.ref ((sE S) ((sE S) l0 0) 0))]) (st' := [.int (1 : Int32)]) (D' := D14) (pc' := 112) rfl (rfl) rfl ?_
        refine ev_goto hX (off := 4) 116 (by decide +kernel) (by decide) ?_
        exact ev_iret hR ev_sm.rf (Option.some.inj hf) hC (by decide +kernel)
    have hf := ev_nf h13 hf
    by_cases h16 : l2 = (6 : Int32)
    · have hf := ev_it h16 hf
      refine ev_tblIn hX (off := 98) 117 dX11_of_19 (by rw [h16]; decide) (by rw [h16]; decide) (by rw [h16]; rfl) (by decide) ?_
      refine ev_blk hX lkok_RX11 [(.aload_n 0, 1, 0, 0, 0), (.getfield 10, 3, 11, 0, 0), (.getfield 40, 3, 10, 2, 0), (.iload_n 1, 1, 0, 0, 0)] (by decide +kernel) (g := (sK S l0 == 14) && ((sK S ((sE S) l0 0) == 13) && (true))) (lv' := [some (.ref l0), some (.int l1), some (.int l2), some (.ref ((sE S) ((sE S) l0 0) 0))]) (st' := [.int l1, .ref ((sE S) ((sE S) l0 0) 2)]) (D' := D1) (pc' := 125) rfl (ev_gk hl0 (ev_gk (ev_tyk hT hl0 rfl rfl) (rfl))) rfl ?_
      obtain ⟨v17, D17, hc17, hf⟩ := ev_bd_s hf
      refine ev_callV hX YX7_feltBy ml_RX11_186 (mX7_feltBy hT (ev_tyk hT (ev_tyk hT hl0 rfl rfl) rfl rfl) hc17) (vs := [.int l1]) (st := []) (by decide) 7 (ev_tyk hT (ev_tyk hT hl0 rfl rfl) rfl rfl) rfl rfl rfl (by decide +kernel) hC ?_
      show F S D17 128 [some (.ref l0), some (.int l1), some (.int l2), some (.ref ((sE S) ((sE S) l0 0) 0))] [.int v17]
      exact ev_iret hR ev_sm.rf (Option.some.inj hf) hC (by decide +kernel)
    have hf := ev_nf h16 hf
    by_cases h18 : l2 = (7 : Int32)
    · have hf := ev_it h18 hf
      refine ev_tblIn hX (off := 110) 129 dX11_of_19 (by rw [h18]; decide) (by rw [h18]; decide) (by rw [h18]; rfl) (by decide) ?_
      refine ev_blk hX lkok_RX11 [(.aload_n 0, 1, 0, 0, 0), (.getfield 47, 3, 11, 3, 0), (.iconst 0, 1, 0, 0, 0), (.iload_n 1, 1, 0, 0, 0), (.iconst 0, 1, 0, 0, 0)] (by decide +kernel) (g := (sK S l0 == 14) && (true)) (lv' := [some (.ref l0), some (.int l1), some (.int l2), some (.ref ((sE S) ((sE S) l0 0) 0))]) (st' := [.int (0 : Int32), .int l1, .int (0 : Int32), .ref ((sE S) l0 3)]) (D' := D1) (pc' := 136) rfl (ev_gk hl0 (rfl)) rfl ?_
      obtain ⟨v19, D19, hc19, hf⟩ := ev_bd_s hf
      refine ev_callV hX YX5_ask ml_RX11_190 (mX5_ask hT (ev_tyk hT hl0 rfl rfl) hc19) (vs := [.int (0 : Int32), .int l1, .int (0 : Int32)]) (st := []) (by decide) 5 (ev_tyk hT hl0 rfl rfl) rfl rfl rfl (by decide +kernel) hC ?_
      show F S D19 139 [some (.ref l0), some (.int l1), some (.int l2), some (.ref ((sE S) ((sE S) l0 0) 0))] [.int v19]
      exact ev_iret hR ev_sm.rf (Option.some.inj hf) hC (by decide +kernel)
    have hf := ev_nf h18 hf
    by_cases h20 : l2 = (8 : Int32)
    · have hf := ev_it h20 hf
      refine ev_tblIn hX (off := 121) 140 dX11_of_19 (by rw [h20]; decide) (by rw [h20]; decide) (by rw [h20]; rfl) (by decide) ?_
      refine ev_blk hX lkok_RX11 [(.aload_n 0, 1, 0, 0, 0), (.getfield 47, 3, 11, 3, 0), (.iconst 1, 1, 0, 0, 1), (.iload_n 1, 1, 0, 0, 0), (.iconst 0, 1, 0, 0, 0)] (by decide +kernel) (g := (sK S l0 == 14) && (true)) (lv' := [some (.ref l0), some (.int l1), some (.int l2), some (.ref ((sE S) ((sE S) l0 0) 0))]) (st' := [.int (0 : Int32), .int l1, .int (1 : Int32), .ref ((sE S) l0 3)]) (D' := D1) (pc' := 147) rfl (ev_gk hl0 (rfl)) rfl ?_
      obtain ⟨v21, D21, hc21, hf⟩ := ev_bd_s hf
      refine ev_callV hX YX5_ask ml_RX11_190 (mX5_ask hT (ev_tyk hT hl0 rfl rfl) hc21) (vs := [.int (1 : Int32), .int l1, .int (0 : Int32)]) (st := []) (by decide) 5 (ev_tyk hT hl0 rfl rfl) rfl rfl rfl (by decide +kernel) hC ?_
      show F S D21 150 [some (.ref l0), some (.int l1), some (.int l2), some (.ref ((sE S) ((sE S) l0 0) 0))] [.int v21]
      exact ev_iret hR ev_sm.rf (Option.some.inj hf) hC (by decide +kernel)
    have hf := ev_nf h20 hf
    refine ev_tblOut hX 151 dX11_of_19 (by have h3q : (l2).toInt ≠ 0 := ev_ne h3; have h5q : (l2).toInt ≠ 1 := ev_ne h5; have h7q : (l2).toInt ≠ 2 := ev_ne h7; have h9q : (l2).toInt ≠ 3 := ev_ne h9; have h11q : (l2).toInt ≠ 4 := ev_ne h11; have h13q : (l2).toInt ≠ 5 := ev_ne h13; have h16q : (l2).toInt ≠ 6 := ev_ne h16; have h18q : (l2).toInt ≠ 7 := ev_ne h18; have h20q : (l2).toInt ≠ 8 := ev_ne h20; omega) (by decide) ?_
    refine ev_blk hX lkok_RX11 [(.iconst (-1), 1, 0, 0, (-1))] (by decide +kernel) (g := true) (lv' := [some (.ref l0), some (.int l1), some (.int l2), some (.ref ((sE S) ((sE S) l0 0) 0))]) (st' := [.int (-1 : Int32)]) (D' := D1) (pc' := 152) rfl (rfl) rfl ?_
    exact ev_iret hR ev_sm.rf (Option.some.inj hf) hC (by decide +kernel)
  · have hf := ev_it h2 hf
    refine ev_blk hX lkok_RX11 [(.iconst (-1), 1, 0, 0, (-1))] (by decide +kernel) (g := true) (lv' := [some (.ref l0), some (.int l1), some (.int l2), some (.ref ((sE S) ((sE S) l0 0) 0))]) (st' := [.int (-1 : Int32)]) (D' := D1) (pc' := 17) rfl (rfl) rfl ?_
    exact ev_iret hR ev_sm.rf (Option.some.inj hf) hC (by decide +kernel)
theorem mX11_of {S : ev_S} {fu : Nat} {r : Int32 × ev_D} (hT : ev_Ty S) {l0 : Nat} {l1 : Int32} {l2 : Int32} {D : ev_D} (hl0 : sK S l0 = 14) (hf : fX11_of (sL S) (sE S) fu l0 l1 l2 D = some r) : ev_M 4 0 0 yX11_of cX11_of 4 (some .int) [.ref l0, .int l1, .int l2] S D S r :=
  ev_met (ini := false) (plainFor_of_name (by decide)) (fun h => by cases h) rfl (Nat.le_of_ble_eq_true rfl) (fun F hR => tX11_of (S := ev_z S) hR hT ⟨Nat.le_refl 0, Nat.le_refl 0⟩ hl0 hf)
theorem dX11_bell_13 : decode cX11_bell 13 = .ok (.lookupswitch 53 #[(0, 27), (1, 40)], 27) := by decide +kernel
set_option maxHeartbeats 4000000 in
set_option maxRecDepth 100000 in
theorem tX11_bell {S : ev_S} {fu : Nat} {r : Int32 × ev_D} {F : ev_Fr} (hR : ev_R RX11 cX11_bell 3 1 0 0 false (some .int) S r F) (hT : ev_Ty S) (hC : sC S ≤ 0 ∧ sA S ≤ 0) {l0 : Nat} {l1 : Int32} {l2 : Int32} {D : ev_D} (hl0 : sK S l0 = 14) (hf : fX11_bell (sL S) (sE S) fu l0 l1 l2 D = some r) : F S D 0 [some (.ref l0), some (.int l1), some (.int l2)] [] := by
  have hX := hR.X
  unfold fX11_bell at hf
  refine ev_blk hX lkok_RX11 [(.iload_n 1, 1, 0, 0, 0), (.iconst 0, 1, 0, 0, 0), (.bipush 7, 2, 0, 0, 7)] (by decide +kernel) (g := true) (lv' := [some (.ref l0), some (.int l1), some (.int l2)]) (st' := [.int (7 : Int32), .int (0 : Int32), .int l1]) (D' := D) (pc' := 4) rfl (rfl) rfl ?_
  obtain ⟨v1, D1, hc1, hf⟩ := ev_bd_s hf
  refine ev_callS hX YX11_within ml_RX11_85 (mX11_within hT  hc1) (vs := [.int l1, .int (0 : Int32), .int (7 : Int32)]) (st := []) (by decide) rfl rfl (by decide +kernel) hC ?_
  show F S D1 7 [some (.ref l0), some (.int l1), some (.int l2)] [.int v1]
  refine ev_if_ne hX (off := 5) 12 (by decide +kernel) (by decide) (fun h2 => ?_) (fun h2 => ?_)
  · have hf := ev_nf h2 hf
    refine ev_blk hX lkok_RX11 [(.iload_n 2, 1, 0, 0, 0)] (by decide +kernel) (g := true) (lv' := [some (.ref l0), some (.int l1), some (.int l2)]) (st' := [.int l2]) (D' := D1) (pc' := 13) rfl (rfl) rfl ?_
    by_cases h3 : l2 = (0 : Int32)
    · have hf := ev_it h3 hf
      refine ev_lookup hX (off := 27) 40 dX11_bell_13 (by decide) (by rw [h3]; rfl) (by decide) ?_
      obtain ⟨hg4, hf⟩ := ev_gd_s hf
      refine ev_blk hX lkok_RX11 [(.aload_n 0, 1, 0, 0, 0), (.getfield 10, 3, 11, 0, 0), (.getfield 32, 3, 10, 0, 0), (.getfield 99, 3, 9, 7, 0), (.iload_n 1, 1, 0, 0, 0), (.iaload, 1, 0, 0, 0)] (by decide +kernel) (g := (sK S l0 == 14) && ((sK S ((sE S) l0 0) == 13) && ((sK S ((sE S) ((sE S) l0 0) 0) == 12) && ((sK S ((sE S) ((sE S) ((sE S) l0 0) 0) 7) == 1 && ev_in l1 ((sL S) ((sE S) ((sE S) ((sE S) l0 0) 0) 7))) && (true))))) (lv' := [some (.ref l0), some (.int l1), some (.int l2)]) (st' := [.int (D1 ((sE S) ((sE S) ((sE S) l0 0) 0) 7) (l1).toNatClampNeg)]) (D' := D1) (pc' := 52) rfl (ev_gk hl0 (ev_gk (ev_tyk hT hl0 rfl rfl) (ev_gk (ev_tyk hT (ev_tyk hT hl0 rfl rfl) rfl rfl) (ev_gi (ev_tyk hT (ev_tyk hT (ev_tyk hT hl0 rfl rfl) rfl rfl) rfl rfl) hg4 (rfl))))) rfl ?_
      exact ev_iret hR ev_sm.rf (Option.some.inj hf) hC (by decide +kernel)
    have hf := ev_nf h3 hf
    by_cases h5 : l2 = (1 : Int32)
    · have hf := ev_it h5 hf
      refine ev_lookup hX (off := 40) 53 dX11_bell_13 (by decide) (by rw [h5]; rfl) (by decide) ?_
      obtain ⟨hg6, hf⟩ := ev_gd_s hf
      refine ev_blk hX lkok_RX11 [(.aload_n 0, 1, 0, 0, 0), (.getfield 10, 3, 11, 0, 0), (.getfield 32, 3, 10, 0, 0), (.getfield 193, 3, 9, 8, 0), (.iload_n 1, 1, 0, 0, 0), (.iaload, 1, 0, 0, 0)] (by decide +kernel) (g := (sK S l0 == 14) && ((sK S ((sE S) l0 0) == 13) && ((sK S ((sE S) ((sE S) l0 0) 0) == 12) && ((sK S ((sE S) ((sE S) ((sE S) l0 0) 0) 8) == 1 && ev_in l1 ((sL S) ((sE S) ((sE S) ((sE S) l0 0) 0) 8))) && (true))))) (lv' := [some (.ref l0), some (.int l1), some (.int l2)]) (st' := [.int (D1 ((sE S) ((sE S) ((sE S) l0 0) 0) 8) (l1).toNatClampNeg)]) (D' := D1) (pc' := 65) rfl (ev_gk hl0 (ev_gk (ev_tyk hT hl0 rfl rfl) (ev_gk (ev_tyk hT (ev_tyk hT hl0 rfl rfl) rfl rfl) (ev_gi (ev_tyk hT (ev_tyk hT (ev_tyk hT hl0 rfl rfl) rfl rfl) rfl rfl) hg6 (rfl))))) rfl ?_
      exact ev_iret hR ev_sm.rf (Option.some.inj hf) hC (by decide +kernel)
    have hf := ev_nf h5 hf
    refine ev_lookup hX (off := 53) 66 dX11_bell_13 (by decide) (by show Op.lookupswitch.offset [(0, 27), (1, 40)] _ _ = _; rw [lv_osw (a := 0) h3 (by decide), lv_osw (a := 1) h5 (by decide)]; rfl) (by decide) ?_
    refine ev_blk hX lkok_RX11 [(.iconst (-1), 1, 0, 0, (-1))] (by decide +kernel) (g := true) (lv' := [some (.ref l0), some (.int l1), some (.int l2)]) (st' := [.int (-1 : Int32)]) (D' := D1) (pc' := 67) rfl (rfl) rfl ?_
    exact ev_iret hR ev_sm.rf (Option.some.inj hf) hC (by decide +kernel)
  · have hf := ev_it h2 hf
    refine ev_blk hX lkok_RX11 [(.iconst (-1), 1, 0, 0, (-1))] (by decide +kernel) (g := true) (lv' := [some (.ref l0), some (.int l1), some (.int l2)]) (st' := [.int (-1 : Int32)]) (D' := D1) (pc' := 11) rfl (rfl) rfl ?_
    exact ev_iret hR ev_sm.rf (Option.some.inj hf) hC (by decide +kernel)
theorem mX11_bell {S : ev_S} {fu : Nat} {r : Int32 × ev_D} (hT : ev_Ty S) {l0 : Nat} {l1 : Int32} {l2 : Int32} {D : ev_D} (hl0 : sK S l0 = 14) (hf : fX11_bell (sL S) (sE S) fu l0 l1 l2 D = some r) : ev_M 1 0 0 yX11_bell cX11_bell 3 (some .int) [.ref l0, .int l1, .int l2] S D S r :=
  ev_met (ini := false) (plainFor_of_name (by decide)) (fun h => by cases h) rfl (Nat.le_of_ble_eq_true rfl) (fun F hR => tX11_bell (S := ev_z S) hR hT ⟨Nat.le_refl 0, Nat.le_refl 0⟩ hl0 hf)
set_option maxHeartbeats 4000000 in
set_option maxRecDepth 100000 in
theorem tX11_lost {S : ev_S} {fu : Nat} {r : Int32 × ev_D} {F : ev_Fr} (hR : ev_R RX11 cX11_lost 1 4 0 0 false (some .int) S r F) (hT : ev_Ty S) (hC : sC S ≤ 0 ∧ sA S ≤ 0) {l0 : Nat} {D : ev_D} (hl0 : sK S l0 = 14) (hf : fX11_lost (sL S) (sE S) fu l0 D = some r) : F S D 0 [some (.ref l0)] [] := by
  have hX := hR.X
  unfold fX11_lost at hf
  refine ev_blk hX lkok_RX11 [(.aload_n 0, 1, 0, 0, 0), (.getfield 47, 3, 11, 3, 0), (.iconst 2, 1, 0, 0, 2), (.iconst (-1), 1, 0, 0, (-1)), (.iconst 0, 1, 0, 0, 0)] (by decide +kernel) (g := (sK S l0 == 14) && (true)) (lv' := [some (.ref l0)]) (st' := [.int (0 : Int32), .int (-1 : Int32), .int (2 : Int32), .ref ((sE S) l0 3)]) (D' := D) (pc' := 7) rfl (ev_gk hl0 (rfl)) rfl ?_
  obtain ⟨v1, D1, hc1, hf⟩ := ev_bd_s hf
  refine ev_callV hX YX5_ask ml_RX11_190 (mX5_ask hT (ev_tyk hT hl0 rfl rfl) hc1) (vs := [.int (2 : Int32), .int (-1 : Int32), .int (0 : Int32)]) (st := []) (by decide) 5 (ev_tyk hT hl0 rfl rfl) rfl rfl rfl (by decide +kernel) hC ?_
  show F S D1 10 [some (.ref l0)] [.int v1]
  exact ev_iret hR ev_sm.rf (Option.some.inj hf) hC (by decide +kernel)
theorem mX11_lost {S : ev_S} {fu : Nat} {r : Int32 × ev_D} (hT : ev_Ty S) {l0 : Nat} {D : ev_D} (hl0 : sK S l0 = 14) (hf : fX11_lost (sL S) (sE S) fu l0 D = some r) : ev_M 4 0 0 yX11_lost cX11_lost 1 (some .int) [.ref l0] S D S r :=
  ev_met (ini := false) (plainFor_of_name (by decide)) (fun h => by cases h) rfl (Nat.le_of_ble_eq_true rfl) (fun F hR => tX11_lost (S := ev_z S) hR hT ⟨Nat.le_refl 0, Nat.le_refl 0⟩ hl0 hf)
set_option maxHeartbeats 4000000 in
set_option maxRecDepth 100000 in
theorem tX0_cell {S : ev_S} {fu : Nat} {r : Int32 × ev_D} {F : ev_Fr} (hR : ev_R RX0 cX0_cell 4 0 0 0 false (some .int) S r F) (hT : ev_Ty S) (hC : sC S ≤ 0 ∧ sA S ≤ 0) {l0 : Nat} {l1 : Int32} {l2 : Int32} {D : ev_D} (hl0 : sK S l0 = 3) (hf : fX0_cell (sL S) (sE S) fu l0 l1 l2 D = some r) : F S D 0 [some (.ref l0), some (.int l1), some (.int l2), none] [] := by
  have hX := hR.X
  unfold fX0_cell at hf
  refine ev_blk hX lkok_RX0 [(.iload_n 1, 1, 0, 0, 0), (.iconst 4, 1, 0, 0, 4), (.imul, 1, 0, 0, 0), (.iload_n 2, 1, 0, 0, 0), (.iadd, 1, 0, 0, 0), (.istore_n 3, 1, 0, 0, 0), (.iload_n 3, 1, 0, 0, 0)] (by decide +kernel) (g := true) (lv' := [some (.ref l0), some (.int l1), some (.int l2), some (.int ((l1 * (4 : Int32)) + l2))]) (st' := [.int ((l1 * (4 : Int32)) + l2)]) (D' := D) (pc' := 7) rfl (rfl) rfl ?_
  refine ev_if_lt hX (off := 21) 28 (by decide +kernel) (by decide) (fun h1 => ?_) (fun h1 => ?_)
  · have hf := ev_it h1 hf
    refine ev_blk hX lkok_RX0 [(.iconst (-1), 1, 0, 0, (-1))] (by decide +kernel) (g := true) (lv' := [some (.ref l0), some (.int l1), some (.int l2), some (.int ((l1 * (4 : Int32)) + l2))]) (st' := [.int (-1 : Int32)]) (D' := D) (pc' := 29) rfl (rfl) rfl ?_
    exact ev_iret hR ev_sm.rf (Option.some.inj hf) hC (by decide +kernel)
  · have hf := ev_nf h1 hf
    refine ev_blk hX lkok_RX0 [(.iload_n 3, 1, 0, 0, 0), (.aload_n 0, 1, 0, 0, 0), (.getfield 24, 3, 0, 2, 0), (.arraylength, 1, 0, 0, 0)] (by decide +kernel) (g := (sK S l0 == 3) && ((sK S ((sE S) l0 2) == 1) && (true))) (lv' := [some (.ref l0), some (.int l1), some (.int l2), some (.int ((l1 * (4 : Int32)) + l2))]) (st' := [.int (Int32.ofNat ((sL S) ((sE S) l0 2))), .int ((l1 * (4 : Int32)) + l2)]) (D' := D) (pc' := 16) rfl (ev_gk hl0 (ev_gk (ev_tyk hT hl0 rfl rfl) (rfl))) rfl ?_
    refine ev_ic_ge hX (off := 12) 28 (by decide +kernel) (by decide) (fun h2 => ?_) (fun h2 => ?_)
    · have hf := ev_it h2 hf
      refine ev_blk hX lkok_RX0 [(.iconst (-1), 1, 0, 0, (-1))] (by decide +kernel) (g := true) (lv' := [some (.ref l0), some (.int l1), some (.int l2), some (.int ((l1 * (4 : Int32)) + l2))]) (st' := [.int (-1 : Int32)]) (D' := D) (pc' := 29) rfl (rfl) rfl ?_
      exact ev_iret hR ev_sm.rf (Option.some.inj hf) hC (by decide +kernel)
    · have hf := ev_nf h2 hf
      obtain ⟨hg3, hf⟩ := ev_gd_s hf
      refine ev_blk hX lkok_RX0 [(.aload_n 0, 1, 0, 0, 0), (.getfield 24, 3, 0, 2, 0), (.iload_n 3, 1, 0, 0, 0), (.iaload, 1, 0, 0, 0)] (by decide +kernel) (g := (sK S l0 == 3) && ((sK S ((sE S) l0 2) == 1 && ev_in ((l1 * (4 : Int32)) + l2) ((sL S) ((sE S) l0 2))) && (true))) (lv' := [some (.ref l0), some (.int l1), some (.int l2), some (.int ((l1 * (4 : Int32)) + l2))]) (st' := [.int (D ((sE S) l0 2) (((l1 * (4 : Int32)) + l2)).toNatClampNeg)]) (D' := D) (pc' := 25) rfl (ev_gk hl0 (ev_gi (ev_tyk hT hl0 rfl rfl) hg3 (rfl))) rfl ?_
      refine ev_goto hX (off := 4) 29 (by decide +kernel) (by decide) ?_
      exact ev_iret hR ev_sm.rf (Option.some.inj hf) hC (by decide +kernel)
theorem mX0_cell {S : ev_S} {fu : Nat} {r : Int32 × ev_D} (hT : ev_Ty S) {l0 : Nat} {l1 : Int32} {l2 : Int32} {D : ev_D} (hl0 : sK S l0 = 3) (hf : fX0_cell (sL S) (sE S) fu l0 l1 l2 D = some r) : ev_M 0 0 0 yX0_cell cX0_cell 4 (some .int) [.ref l0, .int l1, .int l2] S D S r :=
  ev_met (ini := false) (plainFor_of_name (by decide)) (fun h => by cases h) rfl (Nat.le_of_ble_eq_true rfl) (fun F hR => tX0_cell (S := ev_z S) hR hT ⟨Nat.le_refl 0, Nat.le_refl 0⟩ hl0 hf)
set_option maxHeartbeats 4000000 in
set_option maxRecDepth 100000 in
theorem tX11_book {S : ev_S} {fu : Nat} {r : Int32 × ev_D} {F : ev_Fr} (hR : ev_R RX11 cX11_book 3 1 0 0 false (some .int) S r F) (hT : ev_Ty S) (hC : sC S ≤ 0 ∧ sA S ≤ 0) {l0 : Nat} {l1 : Int32} {l2 : Int32} {D : ev_D} (hl0 : sK S l0 = 14) (hf : fX11_book (sL S) (sE S) fu l0 l1 l2 D = some r) : F S D 0 [some (.ref l0), some (.int l1), some (.int l2)] [] := by
  have hX := hR.X
  unfold fX11_book at hf
  refine ev_blk hX lkok_RX11 [(.iload_n 1, 1, 0, 0, 0), (.iconst 0, 1, 0, 0, 0), (.aload_n 0, 1, 0, 0, 0), (.getfield 10, 3, 11, 0, 0), (.getfield 36, 3, 10, 1, 0), (.getfield 196, 3, 0, 0, 0), (.iconst 1, 1, 0, 0, 1), (.isub, 1, 0, 0, 0)] (by decide +kernel) (g := (sK S l0 == 14) && ((sK S ((sE S) l0 0) == 13) && ((sK S ((sE S) ((sE S) l0 0) 1) == 3) && (true)))) (lv' := [some (.ref l0), some (.int l1), some (.int l2)]) (st' := [.int ((D ((sE S) ((sE S) l0 0) 1) 0) - (1 : Int32)), .int (0 : Int32), .int l1]) (D' := D) (pc' := 14) rfl (ev_gk hl0 (ev_gk (ev_tyk hT hl0 rfl rfl) (ev_gk (ev_tyk hT (ev_tyk hT hl0 rfl rfl) rfl rfl) (rfl)))) rfl ?_
  obtain ⟨v1, D1, hc1, hf⟩ := ev_bd_s hf
  refine ev_callS hX YX11_within ml_RX11_85 (mX11_within hT  hc1) (vs := [.int l1, .int (0 : Int32), .int ((D ((sE S) ((sE S) l0 0) 1) 0) - (1 : Int32))]) (st := []) (by decide) rfl rfl (by decide +kernel) hC ?_
  show F S D1 17 [some (.ref l0), some (.int l1), some (.int l2)] [.int v1]
  refine ev_if_eq hX (off := 12) 29 (by decide +kernel) (by decide) (fun h2 => ?_) (fun h2 => ?_)
  · have hf := ev_it h2 hf
    refine ev_blk hX lkok_RX11 [(.iconst (-1), 1, 0, 0, (-1))] (by decide +kernel) (g := true) (lv' := [some (.ref l0), some (.int l1), some (.int l2)]) (st' := [.int (-1 : Int32)]) (D' := D1) (pc' := 30) rfl (rfl) rfl ?_
    exact ev_iret hR ev_sm.rf (Option.some.inj hf) hC (by decide +kernel)
  · have hf := ev_nf h2 hf
    refine ev_blk hX lkok_RX11 [(.iload_n 2, 1, 0, 0, 0), (.iconst 0, 1, 0, 0, 0), (.iconst 3, 1, 0, 0, 3)] (by decide +kernel) (g := true) (lv' := [some (.ref l0), some (.int l1), some (.int l2)]) (st' := [.int (3 : Int32), .int (0 : Int32), .int l2]) (D' := D1) (pc' := 23) rfl (rfl) rfl ?_
    obtain ⟨v3, D3, hc3, hf⟩ := ev_bd_s hf
    refine ev_callS hX YX11_within ml_RX11_85 (mX11_within hT  hc3) (vs := [.int l2, .int (0 : Int32), .int (3 : Int32)]) (st := []) (by decide) rfl rfl (by decide +kernel) hC ?_
    show F S D3 26 [some (.ref l0), some (.int l1), some (.int l2)] [.int v3]
    refine ev_if_ne hX (off := 5) 31 (by decide +kernel) (by decide) (fun h4 => ?_) (fun h4 => ?_)
    · have hf := ev_nf h4 hf
      refine ev_blk hX lkok_RX11 [(.aload_n 0, 1, 0, 0, 0), (.getfield 10, 3, 11, 0, 0), (.getfield 36, 3, 10, 1, 0), (.iload_n 1, 1, 0, 0, 0), (.iload_n 2, 1, 0, 0, 0)] (by decide +kernel) (g := (sK S l0 == 14) && ((sK S ((sE S) l0 0) == 13) && (true))) (lv' := [some (.ref l0), some (.int l1), some (.int l2)]) (st' := [.int l2, .int l1, .ref ((sE S) ((sE S) l0 0) 1)]) (D' := D3) (pc' := 40) rfl (ev_gk hl0 (ev_gk (ev_tyk hT hl0 rfl rfl) (rfl))) rfl ?_
      obtain ⟨v5, D5, hc5, hf⟩ := ev_bd_s hf
      refine ev_callV hX YX0_cell ml_RX11_199 (mX0_cell hT (ev_tyk hT (ev_tyk hT hl0 rfl rfl) rfl rfl) hc5) (vs := [.int l1, .int l2]) (st := []) (by decide) 0 (ev_tyk hT (ev_tyk hT hl0 rfl rfl) rfl rfl) rfl rfl rfl (by decide +kernel) hC ?_
      show F S D5 43 [some (.ref l0), some (.int l1), some (.int l2)] [.int v5]
      exact ev_iret hR ev_sm.rf (Option.some.inj hf) hC (by decide +kernel)
    · have hf := ev_it h4 hf
      refine ev_blk hX lkok_RX11 [(.iconst (-1), 1, 0, 0, (-1))] (by decide +kernel) (g := true) (lv' := [some (.ref l0), some (.int l1), some (.int l2)]) (st' := [.int (-1 : Int32)]) (D' := D3) (pc' := 30) rfl (rfl) rfl ?_
      exact ev_iret hR ev_sm.rf (Option.some.inj hf) hC (by decide +kernel)
theorem mX11_book {S : ev_S} {fu : Nat} {r : Int32 × ev_D} (hT : ev_Ty S) {l0 : Nat} {l1 : Int32} {l2 : Int32} {D : ev_D} (hl0 : sK S l0 = 14) (hf : fX11_book (sL S) (sE S) fu l0 l1 l2 D = some r) : ev_M 1 0 0 yX11_book cX11_book 3 (some .int) [.ref l0, .int l1, .int l2] S D S r :=
  ev_met (ini := false) (plainFor_of_name (by decide)) (fun h => by cases h) rfl (Nat.le_of_ble_eq_true rfl) (fun F hR => tX11_book (S := ev_z S) hR hT ⟨Nat.le_refl 0, Nat.le_refl 0⟩ hl0 hf)
set_option maxHeartbeats 4000000 in
set_option maxRecDepth 100000 in
theorem tX9_allStrokes_4 {S : ev_S} {fu : Nat} {r : Int32 × ev_D} {F : ev_Fr} (hR : ev_R RX9 cX9_allStrokes 3 0 0 0 false (some .int) S r F) (hT : ev_Ty S) (hC : sC S ≤ 0 ∧ sA S ≤ 0) : ∀ (n : Nat) (l0 : Nat) (l1 : Int32) (l2 : Int32) (D : ev_D), sK S l0 = 12 → fX9_allStrokes_4 (sL S) (sE S) fu n l0 l1 l2 D = some r → F S D 4 [some (.ref l0), some (.int l1), some (.int l2)] [] := by
  have hX := hR.X
  intro n
  induction n with
  | zero =>
    intro l0 l1 l2 D hl0 hf
    rw [fX9_allStrokes_4] at hf
    cases hf
  | succ n ih =>
    intro l0 l1 l2 D hl0 hf
    rw [fX9_allStrokes_4] at hf
    refine ev_blk hX lkok_RX9 [(.iload_n 2, 1, 0, 0, 0), (.bipush 8, 2, 0, 0, 8)] (by decide +kernel) (g := true) (lv' := [some (.ref l0), some (.int l1), some (.int l2)]) (st' := [.int (8 : Int32), .int l2]) (D' := D) (pc' := 7) rfl (rfl) rfl ?_
    refine ev_ic_ge hX (off := 18) 25 (by decide +kernel) (by decide) (fun h1 => ?_) (fun h1 => ?_)
    · have hf := ev_it h1 hf
      refine ev_blk hX lkok_RX9 [(.iload_n 1, 1, 0, 0, 0)] (by decide +kernel) (g := true) (lv' := [some (.ref l0), some (.int l1), some (.int l2)]) (st' := [.int l1]) (D' := D) (pc' := 26) rfl (rfl) rfl ?_
      exact ev_iret hR ev_sm.rf (Option.some.inj hf) hC (by decide +kernel)
    · have hf := ev_nf h1 hf
      obtain ⟨hg2, hf⟩ := ev_gd_s hf
      refine ev_blk hX lkok_RX9 [(.iload_n 1, 1, 0, 0, 0), (.aload_n 0, 1, 0, 0, 0), (.getfield 37, 3, 9, 8, 0), (.iload_n 2, 1, 0, 0, 0), (.iaload, 1, 0, 0, 0), (.iadd, 1, 0, 0, 0), (.istore_n 1, 1, 0, 0, 0), (.iinc 2 1, 3, 0, 0, 1)] (by decide +kernel) (g := (sK S l0 == 12) && ((sK S ((sE S) l0 8) == 1 && ev_in l2 ((sL S) ((sE S) l0 8))) && (true))) (lv' := [some (.ref l0), some (.int (l1 + (D ((sE S) l0 8) (l2).toNatClampNeg))), some (.int (l2 + (1 : Int32)))]) (st' := []) (D' := D) (pc' := 22) rfl (ev_gk hl0 (ev_gi (ev_tyk hT hl0 rfl rfl) hg2 (rfl))) rfl ?_
      refine ev_goto hX (off := (-18)) 4 (by decide +kernel) (by decide) ?_
      exact ev_weak hX (ev_le_eq (ev_le_eq (ev_le_eq ev_le_nil))) (ih _ _ _ _ hl0 hf)
set_option maxHeartbeats 4000000 in
set_option maxRecDepth 100000 in
theorem tX9_allStrokes {S : ev_S} {fu : Nat} {r : Int32 × ev_D} {F : ev_Fr} (hR : ev_R RX9 cX9_allStrokes 3 0 0 0 false (some .int) S r F) (hT : ev_Ty S) (hC : sC S ≤ 0 ∧ sA S ≤ 0) {l0 : Nat} {D : ev_D} (hl0 : sK S l0 = 12) (hf : fX9_allStrokes (sL S) (sE S) fu l0 D = some r) : F S D 0 [some (.ref l0), none, none] [] := by
  have hX := hR.X
  unfold fX9_allStrokes at hf
  refine ev_blk hX lkok_RX9 [(.iconst 0, 1, 0, 0, 0), (.istore_n 1, 1, 0, 0, 0), (.iconst 0, 1, 0, 0, 0), (.istore_n 2, 1, 0, 0, 0)] (by decide +kernel) (g := true) (lv' := [some (.ref l0), some (.int (0 : Int32)), some (.int (0 : Int32))]) (st' := []) (D' := D) (pc' := 4) rfl (rfl) rfl ?_
  exact ev_weak hX (ev_le_eq (ev_le_eq (ev_le_eq ev_le_nil))) (tX9_allStrokes_4 hR hT hC   fu _ _ _ _ hl0 hf)
theorem mX9_allStrokes {S : ev_S} {fu : Nat} {r : Int32 × ev_D} (hT : ev_Ty S) {l0 : Nat} {D : ev_D} (hl0 : sK S l0 = 12) (hf : fX9_allStrokes (sL S) (sE S) fu l0 D = some r) : ev_M 0 0 0 yX9_allStrokes cX9_allStrokes 3 (some .int) [.ref l0] S D S r :=
  ev_met (ini := false) (plainFor_of_name (by decide)) (fun h => by cases h) rfl (Nat.le_of_ble_eq_true rfl) (fun F hR => tX9_allStrokes (S := ev_z S) hR hT ⟨Nat.le_refl 0, Nat.le_refl 0⟩ hl0 hf)
theorem dX11_goes_65 : decode cX11_goes 65 = .ok (.tableswitch 42 0 2 #[27, 32, 37], 27) := by decide +kernel
set_option maxHeartbeats 4000000 in
set_option maxRecDepth 100000 in
theorem tX11_goes_43 {S : ev_S} {fu : Nat} {r : Int32 × ev_D} {F : ev_Fr} (hR : ev_R RX11 cX11_goes 5 7 0 0 false (some .int) S r F) (hT : ev_Ty S) (hC : sC S ≤ 0 ∧ sA S ≤ 0) : ∀ (n : Nat) (l0 : Nat) (l1 : Int32) (l2 : Int32) (l3 : Nat) (l4 : Int32) (D : ev_D), sK S l0 = 14 → sK S l3 = 12 → fX11_goes_43 (sL S) (sE S) fu n l0 l1 l2 l3 l4 D = some r → F S D 43 [some (.ref l0), some (.int l1), some (.int l2), some (.ref l3), some (.int l4)] [] := by
  have hX := hR.X
  intro n
  induction n with
  | zero =>
    intro l0 l1 l2 l3 l4 D hl0 hl3 hf
    rw [fX11_goes_43] at hf
    cases hf
  | succ n ih =>
    intro l0 l1 l2 l3 l4 D hl0 hl3 hf
    rw [fX11_goes_43] at hf
    refine ev_blk hX lkok_RX11 [(.iload 4, 2, 0, 0, 0), (.iload_n 1, 1, 0, 0, 0)] (by decide +kernel) (g := true) (lv' := [some (.ref l0), some (.int l1), some (.int l2), some (.ref l3), some (.int l4)]) (st' := [.int l1, .int l4]) (D' := D) (pc' := 46) rfl (rfl) rfl ?_
    refine ev_ic_ge hX (off := 18) 64 (by decide +kernel) (by decide) (fun h1 => ?_) (fun h1 => ?_)
    · have hf := ev_it h1 hf
      refine ev_blk hX lkok_RX11 [(.iload_n 2, 1, 0, 0, 0)] (by decide +kernel) (g := true) (lv' := [some (.ref l0), some (.int l1), some (.int l2), some (.ref l3), some (.int l4)]) (st' := [.int l2]) (D' := D) (pc' := 65) rfl (rfl) rfl ?_
      by_cases h2 : l2 = (0 : Int32)
      · have hf := ev_it h2 hf
        refine ev_tblIn hX (off := 27) 92 dX11_goes_65 (by rw [h2]; decide) (by rw [h2]; decide) (by rw [h2]; rfl) (by decide) ?_
        refine ev_blk hX lkok_RX11 [(.aload_n 3, 1, 0, 0, 0), (.getfield 109, 3, 9, 3, 0)] (by decide +kernel) (g := (sK S l3 == 12) && (true)) (lv' := [some (.ref l0), some (.int l1), some (.int l2), some (.ref l3), some (.int l4)]) (st' := [.int (D l3 3)]) (D' := D) (pc' := 96) rfl (ev_gk hl3 (rfl)) rfl ?_
        exact ev_iret hR ev_sm.rf (Option.some.inj hf) hC (by decide +kernel)
      have hf := ev_nf h2 hf
      by_cases h3 : l2 = (1 : Int32)
      · have hf := ev_it h3 hf
        refine ev_tblIn hX (off := 32) 97 dX11_goes_65 (by rw [h3]; decide) (by rw [h3]; decide) (by rw [h3]; rfl) (by decide) ?_
        refine ev_blk hX lkok_RX11 [(.aload_n 3, 1, 0, 0, 0)] (by decide +kernel) (g := true) (lv' := [some (.ref l0), some (.int l1), some (.int l2), some (.ref l3), some (.int l4)]) (st' := [.ref l3]) (D' := D) (pc' := 98) rfl (rfl) rfl ?_
        obtain ⟨v4, D4, hc4, hf⟩ := ev_bd_s hf
        refine ev_callV hX YX9_allStrokes ml_RX11_207 (mX9_allStrokes hT hl3 hc4) (vs := []) (st := []) (by decide) 9 hl3 rfl rfl rfl (by decide +kernel) hC ?_
        show F S D4 101 [some (.ref l0), some (.int l1), some (.int l2), some (.ref l3), some (.int l4)] [.int v4]
        exact ev_iret hR ev_sm.rf (Option.some.inj hf) hC (by decide +kernel)
      have hf := ev_nf h3 hf
      by_cases h5 : l2 = (2 : Int32)
      · have hf := ev_it h5 hf
        refine ev_tblIn hX (off := 37) 102 dX11_goes_65 (by rw [h5]; decide) (by rw [h5]; decide) (by rw [h5]; rfl) (by decide) ?_
        refine ev_blk hX lkok_RX11 [(.aload_n 3, 1, 0, 0, 0), (.getfield 103, 3, 9, 1, 0)] (by decide +kernel) (g := (sK S l3 == 12) && (true)) (lv' := [some (.ref l0), some (.int l1), some (.int l2), some (.ref l3), some (.int l4)]) (st' := [.int (D l3 1)]) (D' := D) (pc' := 106) rfl (ev_gk hl3 (rfl)) rfl ?_
        exact ev_iret hR ev_sm.rf (Option.some.inj hf) hC (by decide +kernel)
      have hf := ev_nf h5 hf
      refine ev_tblOut hX 107 dX11_goes_65 (by have h2q : (l2).toInt ≠ 0 := ev_ne h2; have h3q : (l2).toInt ≠ 1 := ev_ne h3; have h5q : (l2).toInt ≠ 2 := ev_ne h5; omega) (by decide) ?_
      refine ev_blk hX lkok_RX11 [(.aload_n 3, 1, 0, 0, 0), (.getfield 211, 3, 9, 6, 0)] (by decide +kernel) (g := (sK S l3 == 12) && (true)) (lv' := [some (.ref l0), some (.int l1), some (.int l2), some (.ref l3), some (.int l4)]) (st' := [.int (D l3 6)]) (D' := D) (pc' := 111) rfl (ev_gk hl3 (rfl)) rfl ?_
      obtain ⟨v6, D6, hc6, hf⟩ := ev_bd_s hf
      refine ev_callS hX YJ6_bitCount ml_RX11_214 (mJ6_bitCount hT  hc6) (vs := [.int (D l3 6)]) (st := []) (by decide) rfl rfl (by decide +kernel) hC ?_
      show F S D6 114 [some (.ref l0), some (.int l1), some (.int l2), some (.ref l3), some (.int l4)] [.int v6]
      exact ev_iret hR ev_sm.rf (Option.some.inj hf) hC (by decide +kernel)
    · have hf := ev_nf h1 hf
      refine ev_blk hX lkok_RX11 [(.aload_n 0, 1, 0, 0, 0), (.getfield 59, 3, 11, 4, 0), (.iconst 0, 1, 0, 0, 0)] (by decide +kernel) (g := (sK S l0 == 14) && (true)) (lv' := [some (.ref l0), some (.int l1), some (.int l2), some (.ref l3), some (.int l4)]) (st' := [.int (0 : Int32), .ref ((sE S) l0 4)]) (D' := D) (pc' := 54) rfl (ev_gk hl0 (rfl)) rfl ?_
      obtain ⟨v7, D7, hc7, hf⟩ := ev_bd_s hf
      refine ev_callV hX YX5_pass ml_RX11_149 (mX5_pass hT (ev_tyk hT hl0 rfl rfl) hc7) (vs := [.int (0 : Int32)]) (st := []) (by decide) 5 (ev_tyk hT hl0 rfl rfl) rfl rfl rfl (by decide +kernel) hC ?_
      show F S D7 57 [some (.ref l0), some (.int l1), some (.int l2), some (.ref l3), some (.int l4)] [.int v7]
      refine ev_blk hX lkok_RX11 [(.pop, 1, 0, 0, 0), (.iinc 4 1, 3, 0, 0, 1)] (by decide +kernel) (g := true) (lv' := [some (.ref l0), some (.int l1), some (.int l2), some (.ref l3), some (.int (l4 + (1 : Int32)))]) (st' := []) (D' := D7) (pc' := 61) rfl (rfl) rfl ?_
      refine ev_goto hX (off := (-18)) 43 (by decide +kernel) (by decide) ?_
      exact ev_weak hX (ev_le_eq (ev_le_eq (ev_le_eq (ev_le_eq (ev_le_eq ev_le_nil))))) (ih _ _ _ _ _ _ hl0 hl3 hf)
set_option maxHeartbeats 4000000 in
set_option maxRecDepth 100000 in
theorem tX11_goes {S : ev_S} {fu : Nat} {r : Int32 × ev_D} {F : ev_Fr} (hR : ev_R RX11 cX11_goes 5 7 0 0 false (some .int) S r F) (hT : ev_Ty S) (hC : sC S ≤ 0 ∧ sA S ≤ 0) {l0 : Nat} {l1 : Int32} {l2 : Int32} {D : ev_D} (hl0 : sK S l0 = 14) (hf : fX11_goes (sL S) (sE S) fu l0 l1 l2 D = some r) : F S D 0 [some (.ref l0), some (.int l1), some (.int l2), none, none] [] := by
  have hX := hR.X
  unfold fX11_goes at hf
  refine ev_blk hX lkok_RX11 [(.iload_n 1, 1, 0, 0, 0), (.iconst 1, 1, 0, 0, 1), (.bipush 60, 2, 0, 0, 60)] (by decide +kernel) (g := true) (lv' := [some (.ref l0), some (.int l1), some (.int l2), none, none]) (st' := [.int (60 : Int32), .int (1 : Int32), .int l1]) (D' := D) (pc' := 4) rfl (rfl) rfl ?_
  obtain ⟨v8, D8, hc8, hf⟩ := ev_bd_s hf
  refine ev_callS hX YX11_within ml_RX11_85 (mX11_within hT  hc8) (vs := [.int l1, .int (1 : Int32), .int (60 : Int32)]) (st := []) (by decide) rfl rfl (by decide +kernel) hC ?_
  show F S D8 7 [some (.ref l0), some (.int l1), some (.int l2), none, none] [.int v8]
  refine ev_if_eq hX (off := 12) 19 (by decide +kernel) (by decide) (fun h9 => ?_) (fun h9 => ?_)
  · have hf := ev_it h9 hf
    refine ev_blk hX lkok_RX11 [(.iconst (-1), 1, 0, 0, (-1))] (by decide +kernel) (g := true) (lv' := [some (.ref l0), some (.int l1), some (.int l2), none, none]) (st' := [.int (-1 : Int32)]) (D' := D8) (pc' := 20) rfl (rfl) rfl ?_
    exact ev_iret hR ev_sm.rf (Option.some.inj hf) hC (by decide +kernel)
  · have hf := ev_nf h9 hf
    refine ev_blk hX lkok_RX11 [(.iload_n 2, 1, 0, 0, 0), (.iconst 0, 1, 0, 0, 0), (.iconst 3, 1, 0, 0, 3)] (by decide +kernel) (g := true) (lv' := [some (.ref l0), some (.int l1), some (.int l2), none, none]) (st' := [.int (3 : Int32), .int (0 : Int32), .int l2]) (D' := D8) (pc' := 13) rfl (rfl) rfl ?_
    obtain ⟨v10, D10, hc10, hf⟩ := ev_bd_s hf
    refine ev_callS hX YX11_within ml_RX11_85 (mX11_within hT  hc10) (vs := [.int l2, .int (0 : Int32), .int (3 : Int32)]) (st := []) (by decide) rfl rfl (by decide +kernel) hC ?_
    show F S D10 16 [some (.ref l0), some (.int l1), some (.int l2), none, none] [.int v10]
    refine ev_if_ne hX (off := 5) 21 (by decide +kernel) (by decide) (fun h11 => ?_) (fun h11 => ?_)
    · have hf := ev_nf h11 hf
      refine ev_blk hX lkok_RX11 [(.aload_n 0, 1, 0, 0, 0), (.getfield 59, 3, 11, 4, 0), (.getfield 202, 3, 5, 0, 0), (.astore_n 3, 1, 0, 0, 0), (.aload_n 3, 1, 0, 0, 0), (.aload_n 0, 1, 0, 0, 0), (.getfield 10, 3, 11, 0, 0), (.getfield 32, 3, 10, 0, 0)] (by decide +kernel) (g := (sK S l0 == 14) && ((sK S ((sE S) l0 4) == 8) && ((sK S l0 == 14) && ((sK S ((sE S) l0 0) == 13) && (true))))) (lv' := [some (.ref l0), some (.int l1), some (.int l2), some (.ref ((sE S) ((sE S) l0 4) 0)), none]) (st' := [.ref ((sE S) ((sE S) l0 0) 0), .ref ((sE S) ((sE S) l0 4) 0)]) (D' := D10) (pc' := 37) rfl (ev_gk hl0 (ev_gk (ev_tyk hT hl0 rfl rfl) (ev_gk hl0 (ev_gk (ev_tyk hT hl0 rfl rfl) (rfl))))) rfl ?_
      obtain ⟨v12, D12, hc12, hf⟩ := ev_bd_s hf
      refine ev_callV hX YX9_become ml_RX11_203 (mX9_become hT (ev_tyk hT (ev_tyk hT hl0 rfl rfl) rfl rfl) (ev_tyk hT (ev_tyk hT hl0 rfl rfl) rfl rfl) hc12) (vs := [.ref ((sE S) ((sE S) l0 0) 0)]) (st := []) (by decide) 9 (ev_tyk hT (ev_tyk hT hl0 rfl rfl) rfl rfl) rfl rfl rfl (by decide +kernel) hC ?_
      show F S D12 40 [some (.ref l0), some (.int l1), some (.int l2), some (.ref ((sE S) ((sE S) l0 4) 0)), none] []
      refine ev_blk hX lkok_RX11 [(.iconst 0, 1, 0, 0, 0), (.istore 4, 2, 0, 0, 0)] (by decide +kernel) (g := true) (lv' := [some (.ref l0), some (.int l1), some (.int l2), some (.ref ((sE S) ((sE S) l0 4) 0)), some (.int (0 : Int32))]) (st' := []) (D' := D12) (pc' := 43) rfl (rfl) rfl ?_
      exact ev_weak hX (ev_le_eq (ev_le_eq (ev_le_eq (ev_le_eq (ev_le_eq ev_le_nil))))) (tX11_goes_43 hR hT hC   fu _ _ _ _ _ _ hl0 (ev_tyk hT (ev_tyk hT hl0 rfl rfl) rfl rfl) hf)
    · have hf := ev_it h11 hf
      refine ev_blk hX lkok_RX11 [(.iconst (-1), 1, 0, 0, (-1))] (by decide +kernel) (g := true) (lv' := [some (.ref l0), some (.int l1), some (.int l2), none, none]) (st' := [.int (-1 : Int32)]) (D' := D10) (pc' := 20) rfl (rfl) rfl ?_
      exact ev_iret hR ev_sm.rf (Option.some.inj hf) hC (by decide +kernel)
theorem mX11_goes {S : ev_S} {fu : Nat} {r : Int32 × ev_D} (hT : ev_Ty S) {l0 : Nat} {l1 : Int32} {l2 : Int32} {D : ev_D} (hl0 : sK S l0 = 14) (hf : fX11_goes (sL S) (sE S) fu l0 l1 l2 D = some r) : ev_M 7 0 0 yX11_goes cX11_goes 5 (some .int) [.ref l0, .int l1, .int l2] S D S r :=
  ev_met (ini := false) (plainFor_of_name (by decide)) (fun h => by cases h) rfl (Nat.le_of_ble_eq_true rfl) (fun F hR => tX11_goes (S := ev_z S) hR hT ⟨Nat.le_refl 0, Nat.le_refl 0⟩ hl0 hf)
set_option maxHeartbeats 4000000 in
set_option maxRecDepth 100000 in
theorem tX3_change_41 {S : ev_S} {fu : Nat} {r : Int32 × ev_D} {F : ev_Fr} (hR : ev_R RX3 cX3_change 6 1 0 0 false none S r F) (hT : ev_Ty S) (hC : sC S ≤ 0 ∧ sA S ≤ 0) : ∀ (n : Nat) (l0 : Nat) (l1 : Int32) (l3 : Int32) (l4 : Int32) (D : ev_D), sK S l0 = 6 → fX3_change_41 (sL S) (sE S) fu n l0 l1 l3 l4 D = some r → F S D 41 [some (.ref l0), some (.int l1), none, some (.int l3), some (.int l4), none] [] := by
  have hX := hR.X
  intro n
  induction n with
  | zero =>
    intro l0 l1 l3 l4 D hl0 hf
    rw [fX3_change_41] at hf
    cases hf
  | succ n ih =>
    intro l0 l1 l3 l4 D hl0 hf
    rw [fX3_change_41] at hf
    refine ev_blk hX lkok_RX3 [(.iload 4, 2, 0, 0, 0), (.iload_n 1, 1, 0, 0, 0), (.iconst 1, 1, 0, 0, 1), (.isub, 1, 0, 0, 0)] (by decide +kernel) (g := true) (lv' := [some (.ref l0), some (.int l1), none, some (.int l3), some (.int l4), none]) (st' := [.int (l1 - (1 : Int32)), .int l4]) (D' := D) (pc' := 46) rfl (rfl) rfl ?_
    refine ev_ic_ge hX (off := 61) 107 (by decide +kernel) (by decide) (fun h1 => ?_) (fun h1 => ?_)
    · have hf := ev_it h1 hf
      exact ev_vret hR ev_sm.rf (Option.some.inj hf) hC (by decide +kernel)
    · have hf := ev_nf h1 hf
      refine ev_blk hX lkok_RX3 [(.iload 4, 2, 0, 0, 0), (.bipush 7, 2, 0, 0, 7)] (by decide +kernel) (g := true) (lv' := [some (.ref l0), some (.int l1), none, some (.int l3), some (.int l4), none]) (st' := [.int (7 : Int32), .int l4]) (D' := D) (pc' := 53) rfl (rfl) rfl ?_
      refine ev_ic_ge hX (off := 54) 107 (by decide +kernel) (by decide) (fun h2 => ?_) (fun h2 => ?_)
      · have hf := ev_it h2 hf
        exact ev_vret hR ev_sm.rf (Option.some.inj hf) hC (by decide +kernel)
      · have hf := ev_nf h2 hf
        refine ev_blk hX lkok_RX3 [(.iload_n 3, 1, 0, 0, 0), (.iload 4, 2, 0, 0, 0)] (by decide +kernel) (g := true) (lv' := [some (.ref l0), some (.int l1), none, some (.int l3), some (.int l4), none]) (st' := [.int l4, .int l3]) (D' := D) (pc' := 59) rfl (rfl) rfl ?_
        obtain ⟨v3, D3, hc3, hf⟩ := ev_bd_s hf
        refine ev_callSN hX YX11_isIn ml_RX3_64 (mX11_isIn hT  hc3) (vs := [.int l3, .int l4]) (st := []) (by decide) rfl rfl (by decide +kernel) hC ?_
        show F S D3 62 [some (.ref l0), some (.int l1), none, some (.int l3), some (.int l4), none] [.int v3]
        refine ev_if_eq hX (off := 39) 101 (by decide +kernel) (by decide) (fun h4 => ?_) (fun h4 => ?_)
        · have hf := ev_it h4 hf
          refine ev_blk hX lkok_RX3 [(.iinc 4 1, 3, 0, 0, 1)] (by decide +kernel) (g := true) (lv' := [some (.ref l0), some (.int l1), none, some (.int l3), some (.int (l4 + (1 : Int32))), none]) (st' := []) (D' := D3) (pc' := 104) rfl (rfl) rfl ?_
          refine ev_goto hX (off := (-63)) 41 (by decide +kernel) (by decide) ?_
          exact ev_weak hX (ev_le_eq (ev_le_eq (ev_le_no (ev_le_eq (ev_le_eq (ev_le_no ev_le_nil)))))) (ih _ _ _ _ _ hl0 hf)
        · have hf := ev_nf h4 hf
          obtain ⟨hg5, hf⟩ := ev_gd_s hf
          obtain ⟨hg6, hf⟩ := ev_gd_s hf
          obtain ⟨hg7, hf⟩ := ev_gd_s hf
          obtain ⟨hg8, hf⟩ := ev_gd_s hf
          refine ev_blk hX lkok_RX3 [(.aload_n 0, 1, 0, 0, 0), (.getfield 9, 3, 3, 3, 0), (.iload 4, 2, 0, 0, 0), (.iaload, 1, 0, 0, 0), (.istore 5, 2, 0, 0, 0), (.aload_n 0, 1, 0, 0, 0), (.getfield 9, 3, 3, 3, 0), (.iload 4, 2, 0, 0, 0), (.aload_n 0, 1, 0, 0, 0), (.getfield 9, 3, 3, 3, 0), (.iload 4, 2, 0, 0, 0), (.iconst 1, 1, 0, 0, 1), (.iadd, 1, 0, 0, 0), (.iaload, 1, 0, 0, 0), (.iastore, 1, 0, 0, 0), (.aload_n 0, 1, 0, 0, 0), (.getfield 9, 3, 3, 3, 0), (.iload 4, 2, 0, 0, 0), (.iconst 1, 1, 0, 0, 1), (.iadd, 1, 0, 0, 0), (.iload 5, 2, 0, 0, 0), (.iastore, 1, 0, 0, 0), (.iinc 4 1, 3, 0, 0, 1)] (by decide +kernel) (g := (sK S l0 == 6) && ((sK S ((sE S) l0 3) == 1 && ev_in l4 ((sL S) ((sE S) l0 3))) && ((sK S l0 == 6) && ((sK S l0 == 6) && ((sK S ((sE S) l0 3) == 1 && ev_in (l4 + (1 : Int32)) ((sL S) ((sE S) l0 3))) && ((sK S ((sE S) l0 3) == 1 && ev_in l4 ((sL S) ((sE S) l0 3))) && ((sK S l0 == 6) && ((sK S ((sE S) l0 3) == 1 && ev_in (l4 + (1 : Int32)) ((sL S) ((sE S) l0 3))) && (true))))))))) (lv' := [some (.ref l0), some (.int l1), none, some (.int l3), some (.int (l4 + (1 : Int32))), some (.int (D3 ((sE S) l0 3) (l4).toNatClampNeg))]) (st' := []) (D' := (ev_up (ev_up D3 ((sE S) l0 3) (l4).toNatClampNeg (D3 ((sE S) l0 3) ((l4 + (1 : Int32))).toNatClampNeg)) ((sE S) l0 3) ((l4 + (1 : Int32))).toNatClampNeg (D3 ((sE S) l0 3) (l4).toNatClampNeg))) (pc' := 104) rfl (ev_gk hl0 (ev_gi (ev_tyk hT hl0 rfl rfl) hg5 (ev_gk hl0 (ev_gk hl0 (ev_gi (ev_tyk hT hl0 rfl rfl) hg6 (ev_gi (ev_tyk hT hl0 rfl rfl) hg7 (ev_gk hl0 (ev_gi (ev_tyk hT hl0 rfl rfl) hg8 (rfl))))))))) rfl ?_
          refine ev_goto hX (off := (-63)) 41 (by decide +kernel) (by decide) ?_
          exact ev_weak hX (ev_le_eq (ev_le_eq (ev_le_no (ev_le_eq (ev_le_eq (ev_le_no ev_le_nil)))))) (ih _ _ _ _ _ hl0 hf)
set_option maxHeartbeats 4000000 in
set_option maxRecDepth 100000 in
theorem tX3_change {S : ev_S} {fu : Nat} {r : Int32 × ev_D} {F : ev_Fr} (hR : ev_R RX3 cX3_change 6 1 0 0 false none S r F) (hT : ev_Ty S) (hC : sC S ≤ 0 ∧ sA S ≤ 0) {l0 : Nat} {l1 : Int32} {l2 : Int32} {D : ev_D} (hl0 : sK S l0 = 6) (hf : fX3_change (sL S) (sE S) fu l0 l1 l2 D = some r) : F S D 0 [some (.ref l0), some (.int l1), some (.int l2), none, none, none] [] := by
  have hX := hR.X
  unfold fX3_change at hf
  refine ev_blk hX lkok_RX3 [(.aload_n 0, 1, 0, 0, 0), (.getfield 37, 3, 3, 1, 0), (.getfield 49, 3, 7, 3, 0), (.getfield 55, 3, 6, 0, 0)] (by decide +kernel) (g := (sK S l0 == 6) && ((sK S ((sE S) l0 1) == 10) && ((sK S ((sE S) ((sE S) l0 1) 3) == 9) && (true)))) (lv' := [some (.ref l0), some (.int l1), some (.int l2), none, none, none]) (st' := [.int (D ((sE S) ((sE S) l0 1) 3) 0)]) (D' := D) (pc' := 10) rfl (ev_gk hl0 (ev_gk (ev_tyk hT hl0 rfl rfl) (ev_gk (ev_tyk hT (ev_tyk hT hl0 rfl rfl) rfl rfl) (rfl)))) rfl ?_
  refine ev_if_ne hX (off := 4) 14 (by decide +kernel) (by decide) (fun h9 => ?_) (fun h9 => ?_)
  · have hf := ev_nf h9 hf
    obtain ⟨hg11, hf⟩ := ev_gd_s hf
    refine ev_blk hX lkok_RX3 [(.aload_n 0, 1, 0, 0, 0), (.getfield 37, 3, 3, 1, 0), (.getfield 49, 3, 7, 3, 0), (.iload_n 2, 1, 0, 0, 0), (.aload_n 0, 1, 0, 0, 0), (.getfield 37, 3, 3, 1, 0), (.getfield 49, 3, 7, 3, 0), (.getfield 55, 3, 6, 0, 0), (.irem, 1, 0, 0, 0), (.iconst 0, 1, 0, 0, 0)] (by decide +kernel) (g := (sK S l0 == 6) && ((sK S ((sE S) l0 1) == 10) && ((sK S l0 == 6) && ((sK S ((sE S) l0 1) == 10) && ((sK S ((sE S) ((sE S) l0 1) 3) == 9) && ((!(decide ((D ((sE S) ((sE S) l0 1) 3) 0) = 0))) && (true))))))) (lv' := [some (.ref l0), some (.int l1), some (.int l2), none, none, none]) (st' := [.int (0 : Int32), .int (l2 - l2 / (D ((sE S) ((sE S) l0 1) 3) 0) * (D ((sE S) ((sE S) l0 1) 3) 0)), .ref ((sE S) ((sE S) l0 1) 3)]) (D' := D) (pc' := 34) rfl (ev_gk hl0 (ev_gk (ev_tyk hT hl0 rfl rfl) (ev_gk hl0 (ev_gk (ev_tyk hT hl0 rfl rfl) (ev_gk (ev_tyk hT (ev_tyk hT hl0 rfl rfl) rfl rfl) (ev_g2 hg11 (rfl))))))) rfl ?_
    obtain ⟨v10, D10, hc10, hf⟩ := ev_bd_s hf
    refine ev_callV hX YX6_cell ml_RX3_61 (mX6_cell hT (ev_tyk hT (ev_tyk hT hl0 rfl rfl) rfl rfl) hc10) (vs := [.int (l2 - l2 / (D ((sE S) ((sE S) l0 1) 3) 0) * (D ((sE S) ((sE S) l0 1) 3) 0)), .int (0 : Int32)]) (st := []) (by decide) 6 (ev_tyk hT (ev_tyk hT hl0 rfl rfl) rfl rfl) rfl rfl rfl (by decide +kernel) hC ?_
    show F S D10 37 [some (.ref l0), some (.int l1), some (.int l2), none, none, none] [.int v10]
    refine ev_blk hX lkok_RX3 [(.istore_n 3, 1, 0, 0, 0), (.iconst 0, 1, 0, 0, 0), (.istore 4, 2, 0, 0, 0)] (by decide +kernel) (g := true) (lv' := [some (.ref l0), some (.int l1), some (.int l2), some (.int v10), some (.int (0 : Int32)), none]) (st' := []) (D' := D10) (pc' := 41) rfl (rfl) rfl ?_
    exact ev_weak hX (ev_le_eq (ev_le_eq (ev_le_no (ev_le_eq (ev_le_eq (ev_le_no ev_le_nil)))))) (tX3_change_41 hR hT hC   fu _ _ _ _ _ hl0 hf)
  · have hf := ev_it h9 hf
    exact ev_vret hR ev_sm.rf (Option.some.inj hf) hC (by decide +kernel)
theorem mX3_change {S : ev_S} {fu : Nat} {r : Int32 × ev_D} (hT : ev_Ty S) {l0 : Nat} {l1 : Int32} {l2 : Int32} {D : ev_D} (hl0 : sK S l0 = 6) (hf : fX3_change (sL S) (sE S) fu l0 l1 l2 D = some r) : ev_M 1 0 0 yX3_change cX3_change 6 none [.ref l0, .int l1, .int l2] S D S r :=
  ev_met (ini := false) (plainFor_of_name (by decide)) (fun h => by cases h) rfl (Nat.le_of_ble_eq_true rfl) (fun F hR => tX3_change (S := ev_z S) hR hT ⟨Nat.le_refl 0, Nat.le_refl 0⟩ hl0 hf)
set_option maxHeartbeats 4000000 in
set_option maxRecDepth 100000 in
theorem tX3_rowAsNumber_4 {S : ev_S} {fu : Nat} {r : Int32 × ev_D} {F : ev_Fr} (hR : ev_R RX3 cX3_rowAsNumber 3 0 0 0 false (some .int) S r F) (hT : ev_Ty S) (hC : sC S ≤ 0 ∧ sA S ≤ 0) : ∀ (n : Nat) (l0 : Nat) (l1 : Int32) (l2 : Int32) (D : ev_D), sK S l0 = 6 → fX3_rowAsNumber_4 (sL S) (sE S) fu n l0 l1 l2 D = some r → F S D 4 [some (.ref l0), some (.int l1), some (.int l2)] [] := by
  have hX := hR.X
  intro n
  induction n with
  | zero =>
    intro l0 l1 l2 D hl0 hf
    rw [fX3_rowAsNumber_4] at hf
    cases hf
  | succ n ih =>
    intro l0 l1 l2 D hl0 hf
    rw [fX3_rowAsNumber_4] at hf
    refine ev_blk hX lkok_RX3 [(.iload_n 2, 1, 0, 0, 0), (.bipush 8, 2, 0, 0, 8)] (by decide +kernel) (g := true) (lv' := [some (.ref l0), some (.int l1), some (.int l2)]) (st' := [.int (8 : Int32), .int l2]) (D' := D) (pc' := 7) rfl (rfl) rfl ?_
    refine ev_ic_ge hX (off := 21) 28 (by decide +kernel) (by decide) (fun h1 => ?_) (fun h1 => ?_)
    · have hf := ev_it h1 hf
      refine ev_blk hX lkok_RX3 [(.iload_n 1, 1, 0, 0, 0)] (by decide +kernel) (g := true) (lv' := [some (.ref l0), some (.int l1), some (.int l2)]) (st' := [.int l1]) (D' := D) (pc' := 29) rfl (rfl) rfl ?_
      exact ev_iret hR ev_sm.rf (Option.some.inj hf) hC (by decide +kernel)
    · have hf := ev_nf h1 hf
      obtain ⟨hg2, hf⟩ := ev_gd_s hf
      refine ev_blk hX lkok_RX3 [(.iload_n 1, 1, 0, 0, 0), (.bipush 8, 2, 0, 0, 8), (.imul, 1, 0, 0, 0), (.aload_n 0, 1, 0, 0, 0), (.getfield 9, 3, 3, 3, 0), (.iload_n 2, 1, 0, 0, 0), (.iaload, 1, 0, 0, 0), (.iadd, 1, 0, 0, 0), (.istore_n 1, 1, 0, 0, 0), (.iinc 2 1, 3, 0, 0, 1)] (by decide +kernel) (g := (sK S l0 == 6) && ((sK S ((sE S) l0 3) == 1 && ev_in l2 ((sL S) ((sE S) l0 3))) && (true))) (lv' := [some (.ref l0), some (.int ((l1 * (8 : Int32)) + (D ((sE S) l0 3) (l2).toNatClampNeg))), some (.int (l2 + (1 : Int32)))]) (st' := []) (D' := D) (pc' := 25) rfl (ev_gk hl0 (ev_gi (ev_tyk hT hl0 rfl rfl) hg2 (rfl))) rfl ?_
      refine ev_goto hX (off := (-21)) 4 (by decide +kernel) (by decide) ?_
      exact ev_weak hX (ev_le_eq (ev_le_eq (ev_le_eq ev_le_nil))) (ih _ _ _ _ hl0 hf)
set_option maxHeartbeats 4000000 in
set_option maxRecDepth 100000 in
theorem tX3_rowAsNumber {S : ev_S} {fu : Nat} {r : Int32 × ev_D} {F : ev_Fr} (hR : ev_R RX3 cX3_rowAsNumber 3 0 0 0 false (some .int) S r F) (hT : ev_Ty S) (hC : sC S ≤ 0 ∧ sA S ≤ 0) {l0 : Nat} {D : ev_D} (hl0 : sK S l0 = 6) (hf : fX3_rowAsNumber (sL S) (sE S) fu l0 D = some r) : F S D 0 [some (.ref l0), none, none] [] := by
  have hX := hR.X
  unfold fX3_rowAsNumber at hf
  refine ev_blk hX lkok_RX3 [(.iconst 0, 1, 0, 0, 0), (.istore_n 1, 1, 0, 0, 0), (.iconst 0, 1, 0, 0, 0), (.istore_n 2, 1, 0, 0, 0)] (by decide +kernel) (g := true) (lv' := [some (.ref l0), some (.int (0 : Int32)), some (.int (0 : Int32))]) (st' := []) (D' := D) (pc' := 4) rfl (rfl) rfl ?_
  exact ev_weak hX (ev_le_eq (ev_le_eq (ev_le_eq ev_le_nil))) (tX3_rowAsNumber_4 hR hT hC   fu _ _ _ _ hl0 hf)
theorem mX3_rowAsNumber {S : ev_S} {fu : Nat} {r : Int32 × ev_D} (hT : ev_Ty S) {l0 : Nat} {D : ev_D} (hl0 : sK S l0 = 6) (hf : fX3_rowAsNumber (sL S) (sE S) fu l0 D = some r) : ev_M 0 0 0 yX3_rowAsNumber cX3_rowAsNumber 3 (some .int) [.ref l0] S D S r :=
  ev_met (ini := false) (plainFor_of_name (by decide)) (fun h => by cases h) rfl (Nat.le_of_ble_eq_true rfl) (fun F hR => tX3_rowAsNumber (S := ev_z S) hR hT ⟨Nat.le_refl 0, Nat.le_refl 0⟩ hl0 hf)
set_option maxHeartbeats 4000000 in
set_option maxRecDepth 100000 in
theorem tX3_startRounds_2 {S : ev_S} {fu : Nat} {r : Int32 × ev_D} {F : ev_Fr} (hR : ev_R RX3 cX3_startRounds 2 0 0 0 false none S r F) (hT : ev_Ty S) (hC : sC S ≤ 0 ∧ sA S ≤ 0) : ∀ (n : Nat) (l0 : Nat) (l1 : Int32) (D : ev_D), sK S l0 = 6 → fX3_startRounds_2 (sL S) (sE S) fu n l0 l1 D = some r → F S D 2 [some (.ref l0), some (.int l1)] [] := by
  have hX := hR.X
  intro n
  induction n with
  | zero =>
    intro l0 l1 D hl0 hf
    rw [fX3_startRounds_2] at hf
    cases hf
  | succ n ih =>
    intro l0 l1 D hl0 hf
    rw [fX3_startRounds_2] at hf
    refine ev_blk hX lkok_RX3 [(.iload_n 1, 1, 0, 0, 0), (.bipush 8, 2, 0, 0, 8)] (by decide +kernel) (g := true) (lv' := [some (.ref l0), some (.int l1)]) (st' := [.int (8 : Int32), .int l1]) (D' := D) (pc' := 5) rfl (rfl) rfl ?_
    refine ev_ic_ge hX (off := 16) 21 (by decide +kernel) (by decide) (fun h1 => ?_) (fun h1 => ?_)
    · have hf := ev_it h1 hf
      exact ev_vret hR ev_sm.rf (Option.some.inj hf) hC (by decide +kernel)
    · have hf := ev_nf h1 hf
      obtain ⟨hg2, hf⟩ := ev_gd_s hf
      refine ev_blk hX lkok_RX3 [(.aload_n 0, 1, 0, 0, 0), (.getfield 9, 3, 3, 3, 0), (.iload_n 1, 1, 0, 0, 0), (.iload_n 1, 1, 0, 0, 0), (.iastore, 1, 0, 0, 0), (.iinc 1 1, 3, 0, 0, 1)] (by decide +kernel) (g := (sK S l0 == 6) && ((sK S ((sE S) l0 3) == 1 && ev_in l1 ((sL S) ((sE S) l0 3))) && (true))) (lv' := [some (.ref l0), some (.int (l1 + (1 : Int32)))]) (st' := []) (D' := (ev_up D ((sE S) l0 3) (l1).toNatClampNeg l1)) (pc' := 18) rfl (ev_gk hl0 (ev_gi (ev_tyk hT hl0 rfl rfl) hg2 (rfl))) rfl ?_
      refine ev_goto hX (off := (-16)) 2 (by decide +kernel) (by decide) ?_
      exact ev_weak hX (ev_le_eq (ev_le_eq ev_le_nil)) (ih _ _ _ hl0 hf)
set_option maxHeartbeats 4000000 in
set_option maxRecDepth 100000 in
theorem tX3_startRounds {S : ev_S} {fu : Nat} {r : Int32 × ev_D} {F : ev_Fr} (hR : ev_R RX3 cX3_startRounds 2 0 0 0 false none S r F) (hT : ev_Ty S) (hC : sC S ≤ 0 ∧ sA S ≤ 0) {l0 : Nat} {D : ev_D} (hl0 : sK S l0 = 6) (hf : fX3_startRounds (sL S) (sE S) fu l0 D = some r) : F S D 0 [some (.ref l0), none] [] := by
  have hX := hR.X
  unfold fX3_startRounds at hf
  refine ev_blk hX lkok_RX3 [(.iconst 0, 1, 0, 0, 0), (.istore_n 1, 1, 0, 0, 0)] (by decide +kernel) (g := true) (lv' := [some (.ref l0), some (.int (0 : Int32))]) (st' := []) (D' := D) (pc' := 2) rfl (rfl) rfl ?_
  exact ev_weak hX (ev_le_eq (ev_le_eq ev_le_nil)) (tX3_startRounds_2 hR hT hC   fu _ _ _ hl0 hf)
theorem mX3_startRounds {S : ev_S} {fu : Nat} {r : Int32 × ev_D} (hT : ev_Ty S) {l0 : Nat} {D : ev_D} (hl0 : sK S l0 = 6) (hf : fX3_startRounds (sL S) (sE S) fu l0 D = some r) : ev_M 0 0 0 yX3_startRounds cX3_startRounds 2 none [.ref l0] S D S r :=
  ev_met (ini := false) (plainFor_of_name (by decide)) (fun h => by cases h) rfl (Nat.le_of_ble_eq_true rfl) (fun F hR => tX3_startRounds (S := ev_z S) hR hT ⟨Nat.le_refl 0, Nat.le_refl 0⟩ hl0 hf)
set_option maxHeartbeats 4000000 in
set_option maxRecDepth 100000 in
theorem tX3_rowsToRepeat_40 {S : ev_S} {fu : Nat} {r : Int32 × ev_D} {F : ev_Fr} (hR : ev_R RX3 cX3_rowsToRepeat 4 2 0 0 false (some .int) S r F) (hT : ev_Ty S) (hC : sC S ≤ 0 ∧ sA S ≤ 0) {k21 : Nat → Int32 → Int32 → ev_D → ev_Op} (hk21 : ∀ (l0 : Nat) (l1 : Int32) (l2 : Int32) (D : ev_D), sK S l0 = 6 → k21 l0 l1 l2 D = some r → F S D 21 [some (.ref l0), some (.int l1), some (.int l2), none] []) : ∀ (n : Nat) (l0 : Nat) (l1 : Int32) (l2 : Int32) (l3 : Int32) (D : ev_D), sK S l0 = 6 → fX3_rowsToRepeat_40 (sL S) (sE S) fu k21 n l0 l1 l2 l3 D = some r → F S D 40 [some (.ref l0), some (.int l1), some (.int l2), some (.int l3)] [] := by
  have hX := hR.X
  intro n
  induction n with
  | zero =>
    intro l0 l1 l2 l3 D hl0 hf
    rw [fX3_rowsToRepeat_40] at hf
    cases hf
  | succ n ih =>
    intro l0 l1 l2 l3 D hl0 hf
    rw [fX3_rowsToRepeat_40] at hf
    refine ev_blk hX lkok_RX3 [(.iload_n 3, 1, 0, 0, 0), (.iload_n 2, 1, 0, 0, 0)] (by decide +kernel) (g := true) (lv' := [some (.ref l0), some (.int l1), some (.int l2), some (.int l3)]) (st' := [.int l2, .int l3]) (D' := D) (pc' := 42) rfl (rfl) rfl ?_
    refine ev_ic_ge hX (off := 26) 68 (by decide +kernel) (by decide) (fun h1 => ?_) (fun h1 => ?_)
    · have hf := ev_it h1 hf
      refine ev_blk hX lkok_RX3 [(.aload_n 0, 1, 0, 0, 0), (.iload_n 1, 1, 0, 0, 0), (.iload_n 2, 1, 0, 0, 0)] (by decide +kernel) (g := true) (lv' := [some (.ref l0), some (.int l1), some (.int l2), some (.int l3)]) (st' := [.int l2, .int l1, .ref l0]) (D' := D) (pc' := 71) rfl (rfl) rfl ?_
      obtain ⟨v2, D2, hc2, hf⟩ := ev_bd_s hf
      refine ev_callV hX YX3_change ml_RX3_75 (mX3_change hT hl0 hc2) (vs := [.int l1, .int l2]) (st := []) (by decide) 3 hl0 rfl rfl rfl (by decide +kernel) hC ?_
      show F S D2 74 [some (.ref l0), some (.int l1), some (.int l2), some (.int l3)] []
      refine ev_blk hX lkok_RX3 [(.iinc 2 1, 3, 0, 0, 1)] (by decide +kernel) (g := true) (lv' := [some (.ref l0), some (.int l1), some (.int (l2 + (1 : Int32))), some (.int l3)]) (st' := []) (D' := D2) (pc' := 77) rfl (rfl) rfl ?_
      refine ev_goto hX (off := (-56)) 21 (by decide +kernel) (by decide) ?_
      exact ev_weak hX (ev_le_eq (ev_le_eq (ev_le_eq (ev_le_no ev_le_nil)))) (hk21 _ _ _ _ hl0 hf)
    · have hf := ev_nf h1 hf
      obtain ⟨hg4, hf⟩ := ev_gd_s hf
      obtain ⟨hg5, hf⟩ := ev_gd_s hf
      refine ev_blk hX lkok_RX3 [(.aload_n 0, 1, 0, 0, 0), (.getfield 15, 3, 3, 4, 0), (.iload_n 3, 1, 0, 0, 0), (.iaload, 1, 0, 0, 0), (.aload_n 0, 1, 0, 0, 0), (.getfield 15, 3, 3, 4, 0), (.iload_n 2, 1, 0, 0, 0), (.iaload, 1, 0, 0, 0)] (by decide +kernel) (g := (sK S l0 == 6) && ((sK S ((sE S) l0 4) == 1 && ev_in l3 ((sL S) ((sE S) l0 4))) && ((sK S l0 == 6) && ((sK S ((sE S) l0 4) == 1 && ev_in l2 ((sL S) ((sE S) l0 4))) && (true))))) (lv' := [some (.ref l0), some (.int l1), some (.int l2), some (.int l3)]) (st' := [.int (D ((sE S) l0 4) (l2).toNatClampNeg), .int (D ((sE S) l0 4) (l3).toNatClampNeg)]) (D' := D) (pc' := 57) rfl (ev_gk hl0 (ev_gi (ev_tyk hT hl0 rfl rfl) hg4 (ev_gk hl0 (ev_gi (ev_tyk hT hl0 rfl rfl) hg5 (rfl))))) rfl ?_
      refine ev_ic_ne hX (off := 5) 62 (by decide +kernel) (by decide) (fun h3 => ?_) (fun h3 => ?_)
      · have hf := ev_nf h3 hf
        refine ev_blk hX lkok_RX3 [(.iinc 3 1, 3, 0, 0, 1)] (by decide +kernel) (g := true) (lv' := [some (.ref l0), some (.int l1), some (.int l2), some (.int (l3 + (1 : Int32)))]) (st' := []) (D' := D) (pc' := 65) rfl (rfl) rfl ?_
        refine ev_goto hX (off := (-25)) 40 (by decide +kernel) (by decide) ?_
        exact ev_weak hX (ev_le_eq (ev_le_eq (ev_le_eq (ev_le_eq ev_le_nil)))) (ih _ _ _ _ _ hl0 hf)
      · have hf := ev_it h3 hf
        refine ev_blk hX lkok_RX3 [(.iload_n 2, 1, 0, 0, 0)] (by decide +kernel) (g := true) (lv' := [some (.ref l0), some (.int l1), some (.int l2), some (.int l3)]) (st' := [.int l2]) (D' := D) (pc' := 61) rfl (rfl) rfl ?_
        exact ev_iret hR ev_sm.rf (Option.some.inj hf) hC (by decide +kernel)
set_option maxHeartbeats 4000000 in
set_option maxRecDepth 100000 in
theorem tX3_rowsToRepeat_21 {S : ev_S} {fu : Nat} {r : Int32 × ev_D} {F : ev_Fr} (hR : ev_R RX3 cX3_rowsToRepeat 4 2 0 0 false (some .int) S r F) (hT : ev_Ty S) (hC : sC S ≤ 0 ∧ sA S ≤ 0) : ∀ (n : Nat) (l0 : Nat) (l1 : Int32) (l2 : Int32) (D : ev_D), sK S l0 = 6 → fX3_rowsToRepeat_21 (sL S) (sE S) fu n l0 l1 l2 D = some r → F S D 21 [some (.ref l0), some (.int l1), some (.int l2), none] [] := by
  have hX := hR.X
  intro n
  induction n with
  | zero =>
    intro l0 l1 l2 D hl0 hf
    rw [fX3_rowsToRepeat_21] at hf
    cases hf
  | succ n ih =>
    intro l0 l1 l2 D hl0 hf
    rw [fX3_rowsToRepeat_21] at hf
    refine ev_blk hX lkok_RX3 [(.iload_n 2, 1, 0, 0, 0), (.sipush 256, 3, 0, 0, 256)] (by decide +kernel) (g := true) (lv' := [some (.ref l0), some (.int l1), some (.int l2), none]) (st' := [.int (256 : Int32), .int l2]) (D' := D) (pc' := 25) rfl (rfl) rfl ?_
    refine ev_ic_ge hX (off := 55) 80 (by decide +kernel) (by decide) (fun h6 => ?_) (fun h6 => ?_)
    · have hf := ev_it h6 hf
      refine ev_blk hX lkok_RX3 [(.sipush 256, 3, 0, 0, 256)] (by decide +kernel) (g := true) (lv' := [some (.ref l0), some (.int l1), some (.int l2), none]) (st' := [.int (256 : Int32)]) (D' := D) (pc' := 83) rfl (rfl) rfl ?_
      exact ev_iret hR ev_sm.rf (Option.some.inj hf) hC (by decide +kernel)
    · have hf := ev_nf h6 hf
      refine ev_blk hX lkok_RX3 [(.aload_n 0, 1, 0, 0, 0), (.getfield 15, 3, 3, 4, 0), (.iload_n 2, 1, 0, 0, 0), (.aload_n 0, 1, 0, 0, 0)] (by decide +kernel) (g := (sK S l0 == 6) && (true)) (lv' := [some (.ref l0), some (.int l1), some (.int l2), none]) (st' := [.ref l0, .int l2, .ref ((sE S) l0 4)]) (D' := D) (pc' := 34) rfl (ev_gk hl0 (rfl)) rfl ?_
      obtain ⟨v7, D7, hc7, hf⟩ := ev_bd_s hf
      refine ev_callV hX YX3_rowAsNumber ml_RX3_71 (mX3_rowAsNumber hT hl0 hc7) (vs := []) (st := [.int l2, .ref ((sE S) l0 4)]) (by decide) 3 hl0 rfl rfl rfl (by decide +kernel) hC ?_
      show F S D7 37 [some (.ref l0), some (.int l1), some (.int l2), none] [.int v7, .int l2, .ref ((sE S) l0 4)]
      obtain ⟨hg8, hf⟩ := ev_gd_s hf
      refine ev_blk hX lkok_RX3 [(.iastore, 1, 0, 0, 0), (.iconst 0, 1, 0, 0, 0), (.istore_n 3, 1, 0, 0, 0)] (by decide +kernel) (g := (sK S ((sE S) l0 4) == 1 && ev_in l2 ((sL S) ((sE S) l0 4))) && (true)) (lv' := [some (.ref l0), some (.int l1), some (.int l2), some (.int (0 : Int32))]) (st' := []) (D' := (ev_up D7 ((sE S) l0 4) (l2).toNatClampNeg v7)) (pc' := 40) rfl (ev_gi (ev_tyk hT hl0 rfl rfl) hg8 (rfl)) rfl ?_
      exact ev_weak hX (ev_le_eq (ev_le_eq (ev_le_eq (ev_le_eq ev_le_nil)))) (tX3_rowsToRepeat_40 hR hT hC  ih fu _ _ _ _ _ hl0 hf)
set_option maxHeartbeats 4000000 in
set_option maxRecDepth 100000 in
theorem tX3_rowsToRepeat {S : ev_S} {fu : Nat} {r : Int32 × ev_D} {F : ev_Fr} (hR : ev_R RX3 cX3_rowsToRepeat 4 2 0 0 false (some .int) S r F) (hT : ev_Ty S) (hC : sC S ≤ 0 ∧ sA S ≤ 0) {l0 : Nat} {l1 : Int32} {D : ev_D} (hl0 : sK S l0 = 6) (hf : fX3_rowsToRepeat (sL S) (sE S) fu l0 l1 D = some r) : F S D 0 [some (.ref l0), some (.int l1), none, none] [] := by
  have hX := hR.X
  unfold fX3_rowsToRepeat at hf
  refine ev_blk hX lkok_RX3 [(.aload_n 0, 1, 0, 0, 0), (.getfield 37, 3, 3, 1, 0), (.getfield 49, 3, 7, 3, 0), (.getfield 55, 3, 6, 0, 0)] (by decide +kernel) (g := (sK S l0 == 6) && ((sK S ((sE S) l0 1) == 10) && ((sK S ((sE S) ((sE S) l0 1) 3) == 9) && (true)))) (lv' := [some (.ref l0), some (.int l1), none, none]) (st' := [.int (D ((sE S) ((sE S) l0 1) 3) 0)]) (D' := D) (pc' := 10) rfl (ev_gk hl0 (ev_gk (ev_tyk hT hl0 rfl rfl) (ev_gk (ev_tyk hT (ev_tyk hT hl0 rfl rfl) rfl rfl) (rfl)))) rfl ?_
  refine ev_if_ne hX (off := 5) 15 (by decide +kernel) (by decide) (fun h9 => ?_) (fun h9 => ?_)
  · have hf := ev_nf h9 hf
    refine ev_blk hX lkok_RX3 [(.aload_n 0, 1, 0, 0, 0)] (by decide +kernel) (g := true) (lv' := [some (.ref l0), some (.int l1), none, none]) (st' := [.ref l0]) (D' := D) (pc' := 16) rfl (rfl) rfl ?_
    obtain ⟨v10, D10, hc10, hf⟩ := ev_bd_s hf
    refine ev_callV hX YX3_startRounds ml_RX3_68 (mX3_startRounds hT hl0 hc10) (vs := []) (st := []) (by decide) 3 hl0 rfl rfl rfl (by decide +kernel) hC ?_
    show F S D10 19 [some (.ref l0), some (.int l1), none, none] []
    refine ev_blk hX lkok_RX3 [(.iconst 0, 1, 0, 0, 0), (.istore_n 2, 1, 0, 0, 0)] (by decide +kernel) (g := true) (lv' := [some (.ref l0), some (.int l1), some (.int (0 : Int32)), none]) (st' := []) (D' := D10) (pc' := 21) rfl (rfl) rfl ?_
    exact ev_weak hX (ev_le_eq (ev_le_eq (ev_le_eq (ev_le_no ev_le_nil)))) (tX3_rowsToRepeat_21 hR hT hC   fu _ _ _ _ hl0 hf)
  · have hf := ev_it h9 hf
    refine ev_blk hX lkok_RX3 [(.iconst 1, 1, 0, 0, 1)] (by decide +kernel) (g := true) (lv' := [some (.ref l0), some (.int l1), none, none]) (st' := [.int (1 : Int32)]) (D' := D) (pc' := 14) rfl (rfl) rfl ?_
    exact ev_iret hR ev_sm.rf (Option.some.inj hf) hC (by decide +kernel)
theorem mX3_rowsToRepeat {S : ev_S} {fu : Nat} {r : Int32 × ev_D} (hT : ev_Ty S) {l0 : Nat} {l1 : Int32} {D : ev_D} (hl0 : sK S l0 = 6) (hf : fX3_rowsToRepeat (sL S) (sE S) fu l0 l1 D = some r) : ev_M 2 0 0 yX3_rowsToRepeat cX3_rowsToRepeat 4 (some .int) [.ref l0, .int l1] S D S r :=
  ev_met (ini := false) (plainFor_of_name (by decide)) (fun h => by cases h) rfl (Nat.le_of_ble_eq_true rfl) (fun F hR => tX3_rowsToRepeat (S := ev_z S) hR hT ⟨Nat.le_refl 0, Nat.le_refl 0⟩ hl0 hf)
set_option maxHeartbeats 4000000 in
set_option maxRecDepth 100000 in
theorem tX3_rowsToRounds_26 {S : ev_S} {fu : Nat} {r : Int32 × ev_D} {F : ev_Fr} (hR : ev_R RX3 cX3_rowsToRounds 4 2 0 0 false (some .int) S r F) (hT : ev_Ty S) (hC : sC S ≤ 0 ∧ sA S ≤ 0) : ∀ (n : Nat) (l0 : Nat) (l1 : Int32) (l2 : Int32) (l3 : Int32) (D : ev_D), sK S l0 = 6 → fX3_rowsToRounds_26 (sL S) (sE S) fu n l0 l1 l2 l3 D = some r → F S D 26 [some (.ref l0), some (.int l1), some (.int l2), some (.int l3)] [] := by
  have hX := hR.X
  intro n
  induction n with
  | zero =>
    intro l0 l1 l2 l3 D hl0 hf
    rw [fX3_rowsToRounds_26] at hf
    cases hf
  | succ n ih =>
    intro l0 l1 l2 l3 D hl0 hf
    rw [fX3_rowsToRounds_26] at hf
    refine ev_blk hX lkok_RX3 [(.iload_n 3, 1, 0, 0, 0), (.sipush 9999, 3, 0, 0, 9999)] (by decide +kernel) (g := true) (lv' := [some (.ref l0), some (.int l1), some (.int l2), some (.int l3)]) (st' := [.int (9999 : Int32), .int l3]) (D' := D) (pc' := 30) rfl (rfl) rfl ?_
    refine ev_ic_gt hX (off := 27) 57 (by decide +kernel) (by decide) (fun h1 => ?_) (fun h1 => ?_)
    · have hf := ev_it h1 hf
      refine ev_blk hX lkok_RX3 [(.iconst (-1), 1, 0, 0, (-1))] (by decide +kernel) (g := true) (lv' := [some (.ref l0), some (.int l1), some (.int l2), some (.int l3)]) (st' := [.int (-1 : Int32)]) (D' := D) (pc' := 58) rfl (rfl) rfl ?_
      exact ev_iret hR ev_sm.rf (Option.some.inj hf) hC (by decide +kernel)
    · have hf := ev_nf h1 hf
      refine ev_blk hX lkok_RX3 [(.aload_n 0, 1, 0, 0, 0), (.iload_n 1, 1, 0, 0, 0), (.iload_n 3, 1, 0, 0, 0), (.iconst 1, 1, 0, 0, 1), (.isub, 1, 0, 0, 0)] (by decide +kernel) (g := true) (lv' := [some (.ref l0), some (.int l1), some (.int l2), some (.int l3)]) (st' := [.int (l3 - (1 : Int32)), .int l1, .ref l0]) (D' := D) (pc' := 38) rfl (rfl) rfl ?_
      obtain ⟨v2, D2, hc2, hf⟩ := ev_bd_s hf
      refine ev_callV hX YX3_change ml_RX3_75 (mX3_change hT hl0 hc2) (vs := [.int l1, .int (l3 - (1 : Int32))]) (st := []) (by decide) 3 hl0 rfl rfl rfl (by decide +kernel) hC ?_
      show F S D2 41 [some (.ref l0), some (.int l1), some (.int l2), some (.int l3)] []
      refine ev_blk hX lkok_RX3 [(.aload_n 0, 1, 0, 0, 0)] (by decide +kernel) (g := true) (lv' := [some (.ref l0), some (.int l1), some (.int l2), some (.int l3)]) (st' := [.ref l0]) (D' := D2) (pc' := 42) rfl (rfl) rfl ?_
      obtain ⟨v3, D3, hc3, hf⟩ := ev_bd_s hf
      refine ev_callV hX YX3_rowAsNumber ml_RX3_71 (mX3_rowAsNumber hT hl0 hc3) (vs := []) (st := []) (by decide) 3 hl0 rfl rfl rfl (by decide +kernel) hC ?_
      show F S D3 45 [some (.ref l0), some (.int l1), some (.int l2), some (.int l3)] [.int v3]
      refine ev_blk hX lkok_RX3 [(.iload_n 2, 1, 0, 0, 0)] (by decide +kernel) (g := true) (lv' := [some (.ref l0), some (.int l1), some (.int l2), some (.int l3)]) (st' := [.int l2, .int v3]) (D' := D3) (pc' := 46) rfl (rfl) rfl ?_
      refine ev_ic_ne hX (off := 5) 51 (by decide +kernel) (by decide) (fun h4 => ?_) (fun h4 => ?_)
      · have hf := ev_nf h4 hf
        refine ev_blk hX lkok_RX3 [(.iinc 3 1, 3, 0, 0, 1)] (by decide +kernel) (g := true) (lv' := [some (.ref l0), some (.int l1), some (.int l2), some (.int (l3 + (1 : Int32)))]) (st' := []) (D' := D3) (pc' := 54) rfl (rfl) rfl ?_
        refine ev_goto hX (off := (-28)) 26 (by decide +kernel) (by decide) ?_
        exact ev_weak hX (ev_le_eq (ev_le_eq (ev_le_eq (ev_le_eq ev_le_nil)))) (ih _ _ _ _ _ hl0 hf)
      · have hf := ev_it h4 hf
        refine ev_blk hX lkok_RX3 [(.iload_n 3, 1, 0, 0, 0)] (by decide +kernel) (g := true) (lv' := [some (.ref l0), some (.int l1), some (.int l2), some (.int l3)]) (st' := [.int l3]) (D' := D3) (pc' := 50) rfl (rfl) rfl ?_
        exact ev_iret hR ev_sm.rf (Option.some.inj hf) hC (by decide +kernel)
set_option maxHeartbeats 4000000 in
set_option maxRecDepth 100000 in
theorem tX3_rowsToRounds {S : ev_S} {fu : Nat} {r : Int32 × ev_D} {F : ev_Fr} (hR : ev_R RX3 cX3_rowsToRounds 4 2 0 0 false (some .int) S r F) (hT : ev_Ty S) (hC : sC S ≤ 0 ∧ sA S ≤ 0) {l0 : Nat} {l1 : Int32} {D : ev_D} (hl0 : sK S l0 = 6) (hf : fX3_rowsToRounds (sL S) (sE S) fu l0 l1 D = some r) : F S D 0 [some (.ref l0), some (.int l1), none, none] [] := by
  have hX := hR.X
  unfold fX3_rowsToRounds at hf
  refine ev_blk hX lkok_RX3 [(.aload_n 0, 1, 0, 0, 0), (.getfield 37, 3, 3, 1, 0), (.getfield 49, 3, 7, 3, 0), (.getfield 55, 3, 6, 0, 0)] (by decide +kernel) (g := (sK S l0 == 6) && ((sK S ((sE S) l0 1) == 10) && ((sK S ((sE S) ((sE S) l0 1) 3) == 9) && (true)))) (lv' := [some (.ref l0), some (.int l1), none, none]) (st' := [.int (D ((sE S) ((sE S) l0 1) 3) 0)]) (D' := D) (pc' := 10) rfl (ev_gk hl0 (ev_gk (ev_tyk hT hl0 rfl rfl) (ev_gk (ev_tyk hT (ev_tyk hT hl0 rfl rfl) rfl rfl) (rfl)))) rfl ?_
  refine ev_if_ne hX (off := 5) 15 (by decide +kernel) (by decide) (fun h5 => ?_) (fun h5 => ?_)
  · have hf := ev_nf h5 hf
    refine ev_blk hX lkok_RX3 [(.aload_n 0, 1, 0, 0, 0)] (by decide +kernel) (g := true) (lv' := [some (.ref l0), some (.int l1), none, none]) (st' := [.ref l0]) (D' := D) (pc' := 16) rfl (rfl) rfl ?_
    obtain ⟨v6, D6, hc6, hf⟩ := ev_bd_s hf
    refine ev_callV hX YX3_startRounds ml_RX3_68 (mX3_startRounds hT hl0 hc6) (vs := []) (st := []) (by decide) 3 hl0 rfl rfl rfl (by decide +kernel) hC ?_
    show F S D6 19 [some (.ref l0), some (.int l1), none, none] []
    refine ev_blk hX lkok_RX3 [(.aload_n 0, 1, 0, 0, 0)] (by decide +kernel) (g := true) (lv' := [some (.ref l0), some (.int l1), none, none]) (st' := [.ref l0]) (D' := D6) (pc' := 20) rfl (rfl) rfl ?_
    obtain ⟨v7, D7, hc7, hf⟩ := ev_bd_s hf
    refine ev_callV hX YX3_rowAsNumber ml_RX3_71 (mX3_rowAsNumber hT hl0 hc7) (vs := []) (st := []) (by decide) 3 hl0 rfl rfl rfl (by decide +kernel) hC ?_
    show F S D7 23 [some (.ref l0), some (.int l1), none, none] [.int v7]
    refine ev_blk hX lkok_RX3 [(.istore_n 2, 1, 0, 0, 0), (.iconst 1, 1, 0, 0, 1), (.istore_n 3, 1, 0, 0, 0)] (by decide +kernel) (g := true) (lv' := [some (.ref l0), some (.int l1), some (.int v7), some (.int (1 : Int32))]) (st' := []) (D' := D7) (pc' := 26) rfl (rfl) rfl ?_
    exact ev_weak hX (ev_le_eq (ev_le_eq (ev_le_eq (ev_le_eq ev_le_nil)))) (tX3_rowsToRounds_26 hR hT hC   fu _ _ _ _ _ hl0 hf)
  · have hf := ev_it h5 hf
    refine ev_blk hX lkok_RX3 [(.iconst (-1), 1, 0, 0, (-1))] (by decide +kernel) (g := true) (lv' := [some (.ref l0), some (.int l1), none, none]) (st' := [.int (-1 : Int32)]) (D' := D) (pc' := 14) rfl (rfl) rfl ?_
    exact ev_iret hR ev_sm.rf (Option.some.inj hf) hC (by decide +kernel)
theorem mX3_rowsToRounds {S : ev_S} {fu : Nat} {r : Int32 × ev_D} (hT : ev_Ty S) {l0 : Nat} {l1 : Int32} {D : ev_D} (hl0 : sK S l0 = 6) (hf : fX3_rowsToRounds (sL S) (sE S) fu l0 l1 D = some r) : ev_M 2 0 0 yX3_rowsToRounds cX3_rowsToRounds 4 (some .int) [.ref l0, .int l1] S D S r :=
  ev_met (ini := false) (plainFor_of_name (by decide)) (fun h => by cases h) rfl (Nat.le_of_ble_eq_true rfl) (fun F hR => tX3_rowsToRounds (S := ev_z S) hR hT ⟨Nat.le_refl 0, Nat.le_refl 0⟩ hl0 hf)
theorem dX11_peal_13 : decode cX11_peal 13 = .ok (.lookupswitch 45 #[(0, 27), (1, 36)], 27) := by decide +kernel
set_option maxHeartbeats 4000000 in
set_option maxRecDepth 100000 in
theorem tX11_peal {S : ev_S} {fu : Nat} {r : Int32 × ev_D} {F : ev_Fr} (hR : ev_R RX11 cX11_peal 3 3 0 0 false (some .int) S r F) (hT : ev_Ty S) (hC : sC S ≤ 0 ∧ sA S ≤ 0) {l0 : Nat} {l1 : Int32} {l2 : Int32} {D : ev_D} (hl0 : sK S l0 = 14) (hf : fX11_peal (sL S) (sE S) fu l0 l1 l2 D = some r) : F S D 0 [some (.ref l0), some (.int l1), some (.int l2)] [] := by
  have hX := hR.X
  unfold fX11_peal at hf
  refine ev_blk hX lkok_RX11 [(.iload_n 1, 1, 0, 0, 0), (.iconst 2, 1, 0, 0, 2), (.bipush 8, 2, 0, 0, 8)] (by decide +kernel) (g := true) (lv' := [some (.ref l0), some (.int l1), some (.int l2)]) (st' := [.int (8 : Int32), .int (2 : Int32), .int l1]) (D' := D) (pc' := 4) rfl (rfl) rfl ?_
  obtain ⟨v1, D1, hc1, hf⟩ := ev_bd_s hf
  refine ev_callS hX YX11_within ml_RX11_85 (mX11_within hT  hc1) (vs := [.int l1, .int (2 : Int32), .int (8 : Int32)]) (st := []) (by decide) rfl rfl (by decide +kernel) hC ?_
  show F S D1 7 [some (.ref l0), some (.int l1), some (.int l2)] [.int v1]
  refine ev_if_ne hX (off := 5) 12 (by decide +kernel) (by decide) (fun h2 => ?_) (fun h2 => ?_)
  · have hf := ev_nf h2 hf
    refine ev_blk hX lkok_RX11 [(.iload_n 2, 1, 0, 0, 0)] (by decide +kernel) (g := true) (lv' := [some (.ref l0), some (.int l1), some (.int l2)]) (st' := [.int l2]) (D' := D1) (pc' := 13) rfl (rfl) rfl ?_
    by_cases h3 : l2 = (0 : Int32)
    · have hf := ev_it h3 hf
      refine ev_lookup hX (off := 27) 40 dX11_peal_13 (by decide) (by rw [h3]; rfl) (by decide) ?_
      refine ev_blk hX lkok_RX11 [(.aload_n 0, 1, 0, 0, 0), (.getfield 71, 3, 11, 5, 0), (.iload_n 1, 1, 0, 0, 0)] (by decide +kernel) (g := (sK S l0 == 14) && (true)) (lv' := [some (.ref l0), some (.int l1), some (.int l2)]) (st' := [.int l1, .ref ((sE S) l0 5)]) (D' := D1) (pc' := 45) rfl (ev_gk hl0 (rfl)) rfl ?_
      obtain ⟨v4, D4, hc4, hf⟩ := ev_bd_s hf
      refine ev_callV hX YX3_rowsToRounds ml_RX11_219 (mX3_rowsToRounds hT (ev_tyk hT hl0 rfl rfl) hc4) (vs := [.int l1]) (st := []) (by decide) 3 (ev_tyk hT hl0 rfl rfl) rfl rfl rfl (by decide +kernel) hC ?_
      show F S D4 48 [some (.ref l0), some (.int l1), some (.int l2)] [.int v4]
      exact ev_iret hR ev_sm.rf (Option.some.inj hf) hC (by decide +kernel)
    have hf := ev_nf h3 hf
    by_cases h5 : l2 = (1 : Int32)
    · have hf := ev_it h5 hf
      refine ev_lookup hX (off := 36) 49 dX11_peal_13 (by decide) (by rw [h5]; rfl) (by decide) ?_
      refine ev_blk hX lkok_RX11 [(.aload_n 0, 1, 0, 0, 0), (.getfield 71, 3, 11, 5, 0), (.iload_n 1, 1, 0, 0, 0)] (by decide +kernel) (g := (sK S l0 == 14) && (true)) (lv' := [some (.ref l0), some (.int l1), some (.int l2)]) (st' := [.int l1, .ref ((sE S) l0 5)]) (D' := D1) (pc' := 54) rfl (ev_gk hl0 (rfl)) rfl ?_
      obtain ⟨v6, D6, hc6, hf⟩ := ev_bd_s hf
      refine ev_callV hX YX3_rowsToRepeat ml_RX11_222 (mX3_rowsToRepeat hT (ev_tyk hT hl0 rfl rfl) hc6) (vs := [.int l1]) (st := []) (by decide) 3 (ev_tyk hT hl0 rfl rfl) rfl rfl rfl (by decide +kernel) hC ?_
      show F S D6 57 [some (.ref l0), some (.int l1), some (.int l2)] [.int v6]
      exact ev_iret hR ev_sm.rf (Option.some.inj hf) hC (by decide +kernel)
    have hf := ev_nf h5 hf
    refine ev_lookup hX (off := 45) 58 dX11_peal_13 (by decide) (by show Op.lookupswitch.offset [(0, 27), (1, 36)] _ _ = _; rw [lv_osw (a := 0) h3 (by decide), lv_osw (a := 1) h5 (by decide)]; rfl) (by decide) ?_
    refine ev_blk hX lkok_RX11 [(.iconst (-1), 1, 0, 0, (-1))] (by decide +kernel) (g := true) (lv' := [some (.ref l0), some (.int l1), some (.int l2)]) (st' := [.int (-1 : Int32)]) (D' := D1) (pc' := 59) rfl (rfl) rfl ?_
    exact ev_iret hR ev_sm.rf (Option.some.inj hf) hC (by decide +kernel)
  · have hf := ev_it h2 hf
    refine ev_blk hX lkok_RX11 [(.iconst (-1), 1, 0, 0, (-1))] (by decide +kernel) (g := true) (lv' := [some (.ref l0), some (.int l1), some (.int l2)]) (st' := [.int (-1 : Int32)]) (D' := D1) (pc' := 11) rfl (rfl) rfl ?_
    exact ev_iret hR ev_sm.rf (Option.some.inj hf) hC (by decide +kernel)
theorem mX11_peal {S : ev_S} {fu : Nat} {r : Int32 × ev_D} (hT : ev_Ty S) {l0 : Nat} {l1 : Int32} {l2 : Int32} {D : ev_D} (hl0 : sK S l0 = 14) (hf : fX11_peal (sL S) (sE S) fu l0 l1 l2 D = some r) : ev_M 3 0 0 yX11_peal cX11_peal 3 (some .int) [.ref l0, .int l1, .int l2] S D S r :=
  ev_met (ini := false) (plainFor_of_name (by decide)) (fun h => by cases h) rfl (Nat.le_of_ble_eq_true rfl) (fun F hR => tX11_peal (S := ev_z S) hR hT ⟨Nat.le_refl 0, Nat.le_refl 0⟩ hl0 hf)
set_option maxHeartbeats 4000000 in
set_option maxRecDepth 100000 in
theorem tX3_bellAt_36 {S : ev_S} {fu : Nat} {r : Int32 × ev_D} {F : ev_Fr} (hR : ev_R RX3 cX3_bellAt 5 2 0 0 false (some .int) S r F) (hT : ev_Ty S) (hC : sC S ≤ 0 ∧ sA S ≤ 0) : ∀ (n : Nat) (l0 : Nat) (l1 : Int32) (l2 : Int32) (l3 : Int32) (l4 : Int32) (D : ev_D), sK S l0 = 6 → fX3_bellAt_36 (sL S) (sE S) fu n l0 l1 l2 l3 l4 D = some r → F S D 36 [some (.ref l0), some (.int l1), some (.int l2), some (.int l3), some (.int l4)] [] := by
  have hX := hR.X
  intro n
  induction n with
  | zero =>
    intro l0 l1 l2 l3 l4 D hl0 hf
    rw [fX3_bellAt_36] at hf
    cases hf
  | succ n ih =>
    intro l0 l1 l2 l3 l4 D hl0 hf
    rw [fX3_bellAt_36] at hf
    refine ev_blk hX lkok_RX3 [(.iload 4, 2, 0, 0, 0), (.iload_n 2, 1, 0, 0, 0)] (by decide +kernel) (g := true) (lv' := [some (.ref l0), some (.int l1), some (.int l2), some (.int l3), some (.int l4)]) (st' := [.int l2, .int l4]) (D' := D) (pc' := 39) rfl (rfl) rfl ?_
    refine ev_ic_ge hX (off := 16) 55 (by decide +kernel) (by decide) (fun h1 => ?_) (fun h1 => ?_)
    · have hf := ev_it h1 hf
      obtain ⟨hg2, hf⟩ := ev_gd_s hf
      refine ev_blk hX lkok_RX3 [(.aload_n 0, 1, 0, 0, 0), (.getfield 9, 3, 3, 3, 0), (.iload_n 3, 1, 0, 0, 0), (.iaload, 1, 0, 0, 0)] (by decide +kernel) (g := (sK S l0 == 6) && ((sK S ((sE S) l0 3) == 1 && ev_in l3 ((sL S) ((sE S) l0 3))) && (true))) (lv' := [some (.ref l0), some (.int l1), some (.int l2), some (.int l3), some (.int l4)]) (st' := [.int (D ((sE S) l0 3) (l3).toNatClampNeg)]) (D' := D) (pc' := 61) rfl (ev_gk hl0 (ev_gi (ev_tyk hT hl0 rfl rfl) hg2 (rfl))) rfl ?_
      exact ev_iret hR ev_sm.rf (Option.some.inj hf) hC (by decide +kernel)
    · have hf := ev_nf h1 hf
      refine ev_blk hX lkok_RX3 [(.aload_n 0, 1, 0, 0, 0), (.iload_n 1, 1, 0, 0, 0), (.iload 4, 2, 0, 0, 0)] (by decide +kernel) (g := true) (lv' := [some (.ref l0), some (.int l1), some (.int l2), some (.int l3), some (.int l4)]) (st' := [.int l4, .int l1, .ref l0]) (D' := D) (pc' := 46) rfl (rfl) rfl ?_
      obtain ⟨v3, D3, hc3, hf⟩ := ev_bd_s hf
      refine ev_callV hX YX3_change ml_RX3_75 (mX3_change hT hl0 hc3) (vs := [.int l1, .int l4]) (st := []) (by decide) 3 hl0 rfl rfl rfl (by decide +kernel) hC ?_
      show F S D3 49 [some (.ref l0), some (.int l1), some (.int l2), some (.int l3), some (.int l4)] []
      refine ev_blk hX lkok_RX3 [(.iinc 4 1, 3, 0, 0, 1)] (by decide +kernel) (g := true) (lv' := [some (.ref l0), some (.int l1), some (.int l2), some (.int l3), some (.int (l4 + (1 : Int32)))]) (st' := []) (D' := D3) (pc' := 52) rfl (rfl) rfl ?_
      refine ev_goto hX (off := (-16)) 36 (by decide +kernel) (by decide) ?_
      exact ev_weak hX (ev_le_eq (ev_le_eq (ev_le_eq (ev_le_eq (ev_le_eq ev_le_nil))))) (ih _ _ _ _ _ _ hl0 hf)
set_option maxHeartbeats 4000000 in
set_option maxRecDepth 100000 in
theorem tX3_bellAt_17 {S : ev_S} {fu : Nat} {r : Int32 × ev_D} {F : ev_Fr} (hR : ev_R RX3 cX3_bellAt 5 2 0 0 false (some .int) S r F) (hT : ev_Ty S) (hC : sC S ≤ 0 ∧ sA S ≤ 0) {l0 : Nat} {l1 : Int32} {l2 : Int32} {l3 : Int32} {D : ev_D} (hl0 : sK S l0 = 6) (hf : fX3_bellAt_17 (sL S) (sE S) fu l0 l1 l2 l3 D = some r) : F S D 17 [some (.ref l0), some (.int l1), some (.int l2), some (.int l3), none] [] := by
  have hX := hR.X
  unfold fX3_bellAt_17 at hf
  refine ev_blk hX lkok_RX3 [(.iload_n 3, 1, 0, 0, 0), (.iconst 0, 1, 0, 0, 0), (.bipush 7, 2, 0, 0, 7)] (by decide +kernel) (g := true) (lv' := [some (.ref l0), some (.int l1), some (.int l2), some (.int l3), none]) (st' := [.int (7 : Int32), .int (0 : Int32), .int l3]) (D' := D) (pc' := 21) rfl (rfl) rfl ?_
  obtain ⟨v4, D4, hc4, hf⟩ := ev_bd_s hf
  refine ev_callSN hX YX11_within ml_RX3_79 (mX11_within hT  hc4) (vs := [.int l3, .int (0 : Int32), .int (7 : Int32)]) (st := []) (by decide) rfl rfl (by decide +kernel) hC ?_
  show F S D4 24 [some (.ref l0), some (.int l1), some (.int l2), some (.int l3), none] [.int v4]
  refine ev_if_ne hX (off := 5) 29 (by decide +kernel) (by decide) (fun h5 => ?_) (fun h5 => ?_)
  · have hf := ev_nf h5 hf
    refine ev_blk hX lkok_RX3 [(.aload_n 0, 1, 0, 0, 0)] (by decide +kernel) (g := true) (lv' := [some (.ref l0), some (.int l1), some (.int l2), some (.int l3), none]) (st' := [.ref l0]) (D' := D4) (pc' := 30) rfl (rfl) rfl ?_
    obtain ⟨v6, D6, hc6, hf⟩ := ev_bd_s hf
    refine ev_callV hX YX3_startRounds ml_RX3_68 (mX3_startRounds hT hl0 hc6) (vs := []) (st := []) (by decide) 3 hl0 rfl rfl rfl (by decide +kernel) hC ?_
    show F S D6 33 [some (.ref l0), some (.int l1), some (.int l2), some (.int l3), none] []
    refine ev_blk hX lkok_RX3 [(.iconst 0, 1, 0, 0, 0), (.istore 4, 2, 0, 0, 0)] (by decide +kernel) (g := true) (lv' := [some (.ref l0), some (.int l1), some (.int l2), some (.int l3), some (.int (0 : Int32))]) (st' := []) (D' := D6) (pc' := 36) rfl (rfl) rfl ?_
    exact ev_weak hX (ev_le_eq (ev_le_eq (ev_le_eq (ev_le_eq (ev_le_eq ev_le_nil))))) (tX3_bellAt_36 hR hT hC   fu _ _ _ _ _ _ hl0 hf)
  · have hf := ev_it h5 hf
    refine ev_blk hX lkok_RX3 [(.iconst (-1), 1, 0, 0, (-1))] (by decide +kernel) (g := true) (lv' := [some (.ref l0), some (.int l1), some (.int l2), some (.int l3), none]) (st' := [.int (-1 : Int32)]) (D' := D4) (pc' := 28) rfl (rfl) rfl ?_
    exact ev_iret hR ev_sm.rf (Option.some.inj hf) hC (by decide +kernel)
set_option maxHeartbeats 4000000 in
set_option maxRecDepth 100000 in
theorem tX3_bellAt {S : ev_S} {fu : Nat} {r : Int32 × ev_D} {F : ev_Fr} (hR : ev_R RX3 cX3_bellAt 5 2 0 0 false (some .int) S r F) (hT : ev_Ty S) (hC : sC S ≤ 0 ∧ sA S ≤ 0) {l0 : Nat} {l1 : Int32} {l2 : Int32} {l3 : Int32} {D : ev_D} (hl0 : sK S l0 = 6) (hf : fX3_bellAt (sL S) (sE S) fu l0 l1 l2 l3 D = some r) : F S D 0 [some (.ref l0), some (.int l1), some (.int l2), some (.int l3), none] [] := by
  have hX := hR.X
  unfold fX3_bellAt at hf
  refine ev_blk hX lkok_RX3 [(.iload_n 2, 1, 0, 0, 0)] (by decide +kernel) (g := true) (lv' := [some (.ref l0), some (.int l1), some (.int l2), some (.int l3), none]) (st' := [.int l2]) (D' := D) (pc' := 1) rfl (rfl) rfl ?_
  refine ev_if_le hX (off := 16) 17 (by decide +kernel) (by decide) (fun h7 => ?_) (fun h7 => ?_)
  · have hf := ev_it h7 hf
    exact ev_weak hX (ev_le_eq (ev_le_eq (ev_le_eq (ev_le_eq (ev_le_no ev_le_nil))))) (tX3_bellAt_17 hR hT hC   hl0 hf)
  · have hf := ev_nf h7 hf
    refine ev_blk hX lkok_RX3 [(.aload_n 0, 1, 0, 0, 0), (.getfield 37, 3, 3, 1, 0), (.getfield 49, 3, 7, 3, 0), (.getfield 55, 3, 6, 0, 0)] (by decide +kernel) (g := (sK S l0 == 6) && ((sK S ((sE S) l0 1) == 10) && ((sK S ((sE S) ((sE S) l0 1) 3) == 9) && (true)))) (lv' := [some (.ref l0), some (.int l1), some (.int l2), some (.int l3), none]) (st' := [.int (D ((sE S) ((sE S) l0 1) 3) 0)]) (D' := D) (pc' := 14) rfl (ev_gk hl0 (ev_gk (ev_tyk hT hl0 rfl rfl) (ev_gk (ev_tyk hT (ev_tyk hT hl0 rfl rfl) rfl rfl) (rfl)))) rfl ?_
    refine ev_if_eq hX (off := 13) 27 (by decide +kernel) (by decide) (fun h8 => ?_) (fun h8 => ?_)
    · have hf := ev_it h8 hf
      refine ev_blk hX lkok_RX3 [(.iconst (-1), 1, 0, 0, (-1))] (by decide +kernel) (g := true) (lv' := [some (.ref l0), some (.int l1), some (.int l2), some (.int l3), none]) (st' := [.int (-1 : Int32)]) (D' := D) (pc' := 28) rfl (rfl) rfl ?_
      exact ev_iret hR ev_sm.rf (Option.some.inj hf) hC (by decide +kernel)
    · have hf := ev_nf h8 hf
      exact ev_weak hX (ev_le_eq (ev_le_eq (ev_le_eq (ev_le_eq (ev_le_no ev_le_nil))))) (tX3_bellAt_17 hR hT hC   hl0 hf)
theorem mX3_bellAt {S : ev_S} {fu : Nat} {r : Int32 × ev_D} (hT : ev_Ty S) {l0 : Nat} {l1 : Int32} {l2 : Int32} {l3 : Int32} {D : ev_D} (hl0 : sK S l0 = 6) (hf : fX3_bellAt (sL S) (sE S) fu l0 l1 l2 l3 D = some r) : ev_M 2 0 0 yX3_bellAt cX3_bellAt 5 (some .int) [.ref l0, .int l1, .int l2, .int l3] S D S r :=
  ev_met (ini := false) (plainFor_of_name (by decide)) (fun h => by cases h) rfl (Nat.le_of_ble_eq_true rfl) (fun F hR => tX3_bellAt (S := ev_z S) hR hT ⟨Nat.le_refl 0, Nat.le_refl 0⟩ hl0 hf)
set_option maxHeartbeats 4000000 in
set_option maxRecDepth 100000 in
theorem tX11_row {S : ev_S} {fu : Nat} {r : Int32 × ev_D} {F : ev_Fr} (hR : ev_R RX11 cX11_row 4 3 0 0 false (some .int) S r F) (hT : ev_Ty S) (hC : sC S ≤ 0 ∧ sA S ≤ 0) {l0 : Nat} {l1 : Int32} {l2 : Int32} {l3 : Int32} {D : ev_D} (hl0 : sK S l0 = 14) (hf : fX11_row (sL S) (sE S) fu l0 l1 l2 l3 D = some r) : F S D 0 [some (.ref l0), some (.int l1), some (.int l2), some (.int l3)] [] := by
  have hX := hR.X
  unfold fX11_row at hf
  refine ev_blk hX lkok_RX11 [(.iload_n 1, 1, 0, 0, 0), (.iconst 2, 1, 0, 0, 2), (.bipush 8, 2, 0, 0, 8)] (by decide +kernel) (g := true) (lv' := [some (.ref l0), some (.int l1), some (.int l2), some (.int l3)]) (st' := [.int (8 : Int32), .int (2 : Int32), .int l1]) (D' := D) (pc' := 4) rfl (rfl) rfl ?_
  obtain ⟨v1, D1, hc1, hf⟩ := ev_bd_s hf
  refine ev_callS hX YX11_within ml_RX11_85 (mX11_within hT  hc1) (vs := [.int l1, .int (2 : Int32), .int (8 : Int32)]) (st := []) (by decide) rfl rfl (by decide +kernel) hC ?_
  show F S D1 7 [some (.ref l0), some (.int l1), some (.int l2), some (.int l3)] [.int v1]
  refine ev_if_eq hX (off := 25) 32 (by decide +kernel) (by decide) (fun h2 => ?_) (fun h2 => ?_)
  · have hf := ev_it h2 hf
    refine ev_blk hX lkok_RX11 [(.iconst (-1), 1, 0, 0, (-1))] (by decide +kernel) (g := true) (lv' := [some (.ref l0), some (.int l1), some (.int l2), some (.int l3)]) (st' := [.int (-1 : Int32)]) (D' := D1) (pc' := 33) rfl (rfl) rfl ?_
    exact ev_iret hR ev_sm.rf (Option.some.inj hf) hC (by decide +kernel)
  · have hf := ev_nf h2 hf
    refine ev_blk hX lkok_RX11 [(.iload_n 2, 1, 0, 0, 0), (.iconst 0, 1, 0, 0, 0), (.sipush 999, 3, 0, 0, 999)] (by decide +kernel) (g := true) (lv' := [some (.ref l0), some (.int l1), some (.int l2), some (.int l3)]) (st' := [.int (999 : Int32), .int (0 : Int32), .int l2]) (D' := D1) (pc' := 15) rfl (rfl) rfl ?_
    obtain ⟨v3, D3, hc3, hf⟩ := ev_bd_s hf
    refine ev_callS hX YX11_within ml_RX11_85 (mX11_within hT  hc3) (vs := [.int l2, .int (0 : Int32), .int (999 : Int32)]) (st := []) (by decide) rfl rfl (by decide +kernel) hC ?_
    show F S D3 18 [some (.ref l0), some (.int l1), some (.int l2), some (.int l3)] [.int v3]
    refine ev_if_eq hX (off := 14) 32 (by decide +kernel) (by decide) (fun h4 => ?_) (fun h4 => ?_)
    · have hf := ev_it h4 hf
      refine ev_blk hX lkok_RX11 [(.iconst (-1), 1, 0, 0, (-1))] (by decide +kernel) (g := true) (lv' := [some (.ref l0), some (.int l1), some (.int l2), some (.int l3)]) (st' := [.int (-1 : Int32)]) (D' := D3) (pc' := 33) rfl (rfl) rfl ?_
      exact ev_iret hR ev_sm.rf (Option.some.inj hf) hC (by decide +kernel)
    · have hf := ev_nf h4 hf
      refine ev_blk hX lkok_RX11 [(.iload_n 3, 1, 0, 0, 0), (.iconst 0, 1, 0, 0, 0), (.iload_n 1, 1, 0, 0, 0), (.iconst 1, 1, 0, 0, 1), (.isub, 1, 0, 0, 0)] (by decide +kernel) (g := true) (lv' := [some (.ref l0), some (.int l1), some (.int l2), some (.int l3)]) (st' := [.int (l1 - (1 : Int32)), .int (0 : Int32), .int l3]) (D' := D3) (pc' := 26) rfl (rfl) rfl ?_
      obtain ⟨v5, D5, hc5, hf⟩ := ev_bd_s hf
      refine ev_callS hX YX11_within ml_RX11_85 (mX11_within hT  hc5) (vs := [.int l3, .int (0 : Int32), .int (l1 - (1 : Int32))]) (st := []) (by decide) rfl rfl (by decide +kernel) hC ?_
      show F S D5 29 [some (.ref l0), some (.int l1), some (.int l2), some (.int l3)] [.int v5]
      refine ev_if_ne hX (off := 5) 34 (by decide +kernel) (by decide) (fun h6 => ?_) (fun h6 => ?_)
      · have hf := ev_nf h6 hf
        refine ev_blk hX lkok_RX11 [(.aload_n 0, 1, 0, 0, 0), (.getfield 71, 3, 11, 5, 0), (.iload_n 1, 1, 0, 0, 0), (.iload_n 2, 1, 0, 0, 0), (.iload_n 3, 1, 0, 0, 0)] (by decide +kernel) (g := (sK S l0 == 14) && (true)) (lv' := [some (.ref l0), some (.int l1), some (.int l2), some (.int l3)]) (st' := [.int l3, .int l2, .int l1, .ref ((sE S) l0 5)]) (D' := D5) (pc' := 41) rfl (ev_gk hl0 (rfl)) rfl ?_
        obtain ⟨v7, D7, hc7, hf⟩ := ev_bd_s hf
        refine ev_callV hX YX3_bellAt ml_RX11_225 (mX3_bellAt hT (ev_tyk hT hl0 rfl rfl) hc7) (vs := [.int l1, .int l2, .int l3]) (st := []) (by decide) 3 (ev_tyk hT hl0 rfl rfl) rfl rfl rfl (by decide +kernel) hC ?_
        show F S D7 44 [some (.ref l0), some (.int l1), some (.int l2), some (.int l3)] [.int v7]
        exact ev_iret hR ev_sm.rf (Option.some.inj hf) hC (by decide +kernel)
      · have hf := ev_it h6 hf
        refine ev_blk hX lkok_RX11 [(.iconst (-1), 1, 0, 0, (-1))] (by decide +kernel) (g := true) (lv' := [some (.ref l0), some (.int l1), some (.int l2), some (.int l3)]) (st' := [.int (-1 : Int32)]) (D' := D5) (pc' := 33) rfl (rfl) rfl ?_
        exact ev_iret hR ev_sm.rf (Option.some.inj hf) hC (by decide +kernel)
theorem mX11_row {S : ev_S} {fu : Nat} {r : Int32 × ev_D} (hT : ev_Ty S) {l0 : Nat} {l1 : Int32} {l2 : Int32} {l3 : Int32} {D : ev_D} (hl0 : sK S l0 = 14) (hf : fX11_row (sL S) (sE S) fu l0 l1 l2 l3 D = some r) : ev_M 3 0 0 yX11_row cX11_row 4 (some .int) [.ref l0, .int l1, .int l2, .int l3] S D S r :=
  ev_met (ini := false) (plainFor_of_name (by decide)) (fun h => by cases h) rfl (Nat.le_of_ble_eq_true rfl) (fun F hR => tX11_row (S := ev_z S) hR hT ⟨Nat.le_refl 0, Nat.le_refl 0⟩ hl0 hf)
set_option maxHeartbeats 4000000 in
set_option maxRecDepth 100000 in
theorem tX11_sign {S : ev_S} {fu : Nat} {r : Int32 × ev_D} {F : ev_Fr} (hR : ev_R RX11 cX11_sign 4 1 0 0 false (some .int) S r F) (hT : ev_Ty S) (hC : sC S ≤ 0 ∧ sA S ≤ 0) {l0 : Nat} {l1 : Int32} {l2 : Int32} {D : ev_D} (hl0 : sK S l0 = 14) (hf : fX11_sign (sL S) (sE S) fu l0 l1 l2 D = some r) : F S D 0 [some (.ref l0), some (.int l1), some (.int l2), none] [] := by
  have hX := hR.X
  unfold fX11_sign at hf
  refine ev_blk hX lkok_RX11 [(.aload_n 0, 1, 0, 0, 0), (.getfield 10, 3, 11, 0, 0), (.getfield 64, 3, 10, 3, 0), (.getfield 228, 3, 8, 0, 0), (.astore_n 3, 1, 0, 0, 0), (.iload_n 1, 1, 0, 0, 0), (.iconst (-1), 1, 0, 0, (-1))] (by decide +kernel) (g := (sK S l0 == 14) && ((sK S ((sE S) l0 0) == 13) && ((sK S ((sE S) ((sE S) l0 0) 3) == 11) && (true)))) (lv' := [some (.ref l0), some (.int l1), some (.int l2), some (.ref ((sE S) ((sE S) ((sE S) l0 0) 3) 0))]) (st' := [.int (-1 : Int32), .int l1]) (D' := D) (pc' := 13) rfl (ev_gk hl0 (ev_gk (ev_tyk hT hl0 rfl rfl) (ev_gk (ev_tyk hT (ev_tyk hT hl0 rfl rfl) rfl rfl) (rfl)))) rfl ?_
  refine ev_ic_ne hX (off := 8) 21 (by decide +kernel) (by decide) (fun h1 => ?_) (fun h1 => ?_)
  · have hf := ev_nf h1 hf
    refine ev_blk hX lkok_RX11 [(.iload_n 1, 1, 0, 0, 0), (.iconst 0, 1, 0, 0, 0), (.ldc 239, 2, 0, 0, 65535)] (by decide +kernel) (g := true) (lv' := [some (.ref l0), some (.int l1), some (.int l2), some (.ref ((sE S) ((sE S) ((sE S) l0 0) 3) 0))]) (st' := [.int (65535 : Int32), .int (0 : Int32), .int l1]) (D' := D) (pc' := 25) rfl (rfl) rfl ?_
    obtain ⟨v2, D2, hc2, hf⟩ := ev_bd_s hf
    refine ev_callS hX YX11_within ml_RX11_85 (mX11_within hT  hc2) (vs := [.int l1, .int (0 : Int32), .int (65535 : Int32)]) (st := []) (by decide) rfl rfl (by decide +kernel) hC ?_
    show F S D2 28 [some (.ref l0), some (.int l1), some (.int l2), some (.ref ((sE S) ((sE S) ((sE S) l0 0) 3) 0))] [.int v2]
    refine ev_if_eq hX (off := 13) 41 (by decide +kernel) (by decide) (fun h3 => ?_) (fun h3 => ?_)
    · have hf := ev_it h3 hf
      refine ev_blk hX lkok_RX11 [(.iconst (-1), 1, 0, 0, (-1))] (by decide +kernel) (g := true) (lv' := [some (.ref l0), some (.int l1), some (.int l2), some (.ref ((sE S) ((sE S) ((sE S) l0 0) 3) 0))]) (st' := [.int (-1 : Int32)]) (D' := D2) (pc' := 42) rfl (rfl) rfl ?_
      exact ev_iret hR ev_sm.rf (Option.some.inj hf) hC (by decide +kernel)
    · have hf := ev_nf h3 hf
      refine ev_blk hX lkok_RX11 [(.iload_n 2, 1, 0, 0, 0), (.iconst 0, 1, 0, 0, 0), (.bipush 99, 2, 0, 0, 99)] (by decide +kernel) (g := true) (lv' := [some (.ref l0), some (.int l1), some (.int l2), some (.ref ((sE S) ((sE S) ((sE S) l0 0) 3) 0))]) (st' := [.int (99 : Int32), .int (0 : Int32), .int l2]) (D' := D2) (pc' := 35) rfl (rfl) rfl ?_
      obtain ⟨v4, D4, hc4, hf⟩ := ev_bd_s hf
      refine ev_callS hX YX11_within ml_RX11_85 (mX11_within hT  hc4) (vs := [.int l2, .int (0 : Int32), .int (99 : Int32)]) (st := []) (by decide) rfl rfl (by decide +kernel) hC ?_
      show F S D4 38 [some (.ref l0), some (.int l1), some (.int l2), some (.ref ((sE S) ((sE S) ((sE S) l0 0) 3) 0))] [.int v4]
      refine ev_if_ne hX (off := 5) 43 (by decide +kernel) (by decide) (fun h5 => ?_) (fun h5 => ?_)
      · have hf := ev_nf h5 hf
        refine ev_blk hX lkok_RX11 [(.aload_n 3, 1, 0, 0, 0), (.iload_n 1, 1, 0, 0, 0), (.iload_n 2, 1, 0, 0, 0), (.iconst 0, 1, 0, 0, 0)] (by decide +kernel) (g := true) (lv' := [some (.ref l0), some (.int l1), some (.int l2), some (.ref ((sE S) ((sE S) ((sE S) l0 0) 3) 0))]) (st' := [.int (0 : Int32), .int l2, .int l1, .ref ((sE S) ((sE S) ((sE S) l0 0) 3) 0)]) (D' := D4) (pc' := 47) rfl (rfl) rfl ?_
        obtain ⟨v6, D6, hc6, hf⟩ := ev_bd_s hf
        refine ev_callV hX YX6_add ml_RX11_240 (mX6_add hT (ev_tyk hT (ev_tyk hT (ev_tyk hT hl0 rfl rfl) rfl rfl) rfl rfl) hc6) (vs := [.int l1, .int l2, .int (0 : Int32)]) (st := []) (by decide) 6 (ev_tyk hT (ev_tyk hT (ev_tyk hT hl0 rfl rfl) rfl rfl) rfl rfl) rfl rfl rfl (by decide +kernel) hC ?_
        show F S D6 50 [some (.ref l0), some (.int l1), some (.int l2), some (.ref ((sE S) ((sE S) ((sE S) l0 0) 3) 0))] [.int v6]
        exact ev_iret hR ev_sm.rf (Option.some.inj hf) hC (by decide +kernel)
      · have hf := ev_it h5 hf
        refine ev_blk hX lkok_RX11 [(.iconst (-1), 1, 0, 0, (-1))] (by decide +kernel) (g := true) (lv' := [some (.ref l0), some (.int l1), some (.int l2), some (.ref ((sE S) ((sE S) ((sE S) l0 0) 3) 0))]) (st' := [.int (-1 : Int32)]) (D' := D4) (pc' := 42) rfl (rfl) rfl ?_
        exact ev_iret hR ev_sm.rf (Option.some.inj hf) hC (by decide +kernel)
  · have hf := ev_it h1 hf
    refine ev_blk hX lkok_RX11 [(.aload_n 3, 1, 0, 0, 0)] (by decide +kernel) (g := true) (lv' := [some (.ref l0), some (.int l1), some (.int l2), some (.ref ((sE S) ((sE S) ((sE S) l0 0) 3) 0))]) (st' := [.ref ((sE S) ((sE S) ((sE S) l0 0) 3) 0)]) (D' := D) (pc' := 17) rfl (rfl) rfl ?_
    obtain ⟨v7, D7, hc7, hf⟩ := ev_bd_s hf
    refine ev_callV hX YX6_empty ml_RX11_234 (mX6_empty hT (ev_tyk hT (ev_tyk hT (ev_tyk hT hl0 rfl rfl) rfl rfl) rfl rfl) hc7) (vs := []) (st := []) (by decide) 6 (ev_tyk hT (ev_tyk hT (ev_tyk hT hl0 rfl rfl) rfl rfl) rfl rfl) rfl rfl rfl (by decide +kernel) hC ?_
    show F S D7 20 [some (.ref l0), some (.int l1), some (.int l2), some (.ref ((sE S) ((sE S) ((sE S) l0 0) 3) 0))] [.int v7]
    exact ev_iret hR ev_sm.rf (Option.some.inj hf) hC (by decide +kernel)
theorem mX11_sign {S : ev_S} {fu : Nat} {r : Int32 × ev_D} (hT : ev_Ty S) {l0 : Nat} {l1 : Int32} {l2 : Int32} {D : ev_D} (hl0 : sK S l0 = 14) (hf : fX11_sign (sL S) (sE S) fu l0 l1 l2 D = some r) : ev_M 1 0 0 yX11_sign cX11_sign 4 (some .int) [.ref l0, .int l1, .int l2] S D S r :=
  ev_met (ini := false) (plainFor_of_name (by decide)) (fun h => by cases h) rfl (Nat.le_of_ble_eq_true rfl) (fun F hR => tX11_sign (S := ev_z S) hR hT ⟨Nat.le_refl 0, Nat.le_refl 0⟩ hl0 hf)
