set_option maxHeartbeats 4000000 in
set_option maxRecDepth 100000 in
theorem tX11_pull {S : ev_S} {fu : Nat} {r : Int32 × ev_D} {F : ev_Fr} (hR : ev_R RX11 cX11_pull 2 5 0 0 false (some .int) S r F) (hT : ev_Ty S) (hC : sC S ≤ 0 ∧ sA S ≤ 0) {l0 : Nat} {l1 : Int32} {D : ev_D} (hl0 : sK S l0 = 14) (hf : fX11_pull (sL S) (sE S) fu l0 l1 D = some r) : F S D 0 [some (.ref l0), some (.int l1)] [] := by
  have hX := hR.X
  unfold fX11_pull at hf
  refine ev_blk hX lkok_RX11 [(.aload_n 0, 1, 0, 0, 0), (.getfield 10, 3, 11, 0, 0), (.getfield 32, 3, 10, 0, 0), (.iload_n 1, 1, 0, 0, 0)] (by decide +kernel) (g := (sK S l0 == 14) && ((sK S ((sE S) l0 0) == 13) && (true))) (lv' := [some (.ref l0), some (.int l1)]) (st' := [.int l1, .ref ((sE S) ((sE S) l0 0) 0)]) (D' := D) (pc' := 8) rfl (ev_gk hl0 (ev_gk (ev_tyk hT hl0 rfl rfl) (rfl))) rfl ?_
  obtain ⟨v1, D1, hc1, hf⟩ := ev_bd_s hf
  refine ev_callV hX YX9_isAwake ml_RX11_125 (mX9_isAwake hT (ev_tyk hT (ev_tyk hT hl0 rfl rfl) rfl rfl) hc1) (vs := [.int l1]) (st := []) (by decide) 9 (ev_tyk hT (ev_tyk hT hl0 rfl rfl) rfl rfl) rfl rfl rfl (by decide +kernel) hC ?_
  show F S D1 11 [some (.ref l0), some (.int l1)] [.int v1]
  refine ev_if_ne hX (off := 5) 16 (by decide +kernel) (by decide) (fun h2 => ?_) (fun h2 => ?_)
  · have hf := ev_nf h2 hf
    refine ev_blk hX lkok_RX11 [(.aload_n 0, 1, 0, 0, 0), (.getfield 19, 3, 11, 1, 0), (.aload_n 0, 1, 0, 0, 0), (.getfield 10, 3, 11, 0, 0), (.getfield 32, 3, 10, 0, 0), (.aload_n 0, 1, 0, 0, 0), (.getfield 10, 3, 11, 0, 0), (.getfield 36, 3, 10, 1, 0)] (by decide +kernel) (g := (sK S l0 == 14) && ((sK S l0 == 14) && ((sK S ((sE S) l0 0) == 13) && ((sK S l0 == 14) && ((sK S ((sE S) l0 0) == 13) && (true)))))) (lv' := [some (.ref l0), some (.int l1)]) (st' := [.ref ((sE S) ((sE S) l0 0) 1), .ref ((sE S) ((sE S) l0 0) 0), .ref ((sE S) l0 1)]) (D' := D1) (pc' := 34) rfl (ev_gk hl0 (ev_gk hl0 (ev_gk (ev_tyk hT hl0 rfl rfl) (ev_gk hl0 (ev_gk (ev_tyk hT hl0 rfl rfl) (rfl)))))) rfl ?_
    obtain ⟨v3, D3, hc3, hf⟩ := ev_bd_s hf
    refine ev_callV hX YX2_keep ml_RX11_128 (mX2_keep hT (ev_tyk hT hl0 rfl rfl) (ev_tyk hT (ev_tyk hT hl0 rfl rfl) rfl rfl) (ev_tyk hT (ev_tyk hT hl0 rfl rfl) rfl rfl) hc3) (vs := [.ref ((sE S) ((sE S) l0 0) 0), .ref ((sE S) ((sE S) l0 0) 1)]) (st := []) (by decide) 2 (ev_tyk hT hl0 rfl rfl) rfl rfl rfl (by decide +kernel) hC ?_
    show F S D3 37 [some (.ref l0), some (.int l1)] []
    refine ev_blk hX lkok_RX11 [(.aload_n 0, 1, 0, 0, 0), (.getfield 47, 3, 11, 3, 0), (.iload_n 1, 1, 0, 0, 0), (.iconst 0, 1, 0, 0, 0)] (by decide +kernel) (g := (sK S l0 == 14) && (true)) (lv' := [some (.ref l0), some (.int l1)]) (st' := [.int (0 : Int32), .int l1, .ref ((sE S) l0 3)]) (D' := D3) (pc' := 43) rfl (ev_gk hl0 (rfl)) rfl ?_
    obtain ⟨v4, D4, hc4, hf⟩ := ev_bd_s hf
    refine ev_callV hX YX5_strike ml_RX11_132 (mX5_strike hT (ev_tyk hT hl0 rfl rfl) hc4) (vs := [.int l1, .int (0 : Int32)]) (st := []) (by decide) 5 (ev_tyk hT hl0 rfl rfl) rfl rfl rfl (by decide +kernel) hC ?_
    show F S D4 46 [some (.ref l0), some (.int l1)] [.int v4]
    exact ev_iret hR ev_sm.rf (Option.some.inj hf) hC (by decide +kernel)
  · have hf := ev_it h2 hf
    refine ev_blk hX lkok_RX11 [(.iconst (-1), 1, 0, 0, (-1))] (by decide +kernel) (g := true) (lv' := [some (.ref l0), some (.int l1)]) (st' := [.int (-1 : Int32)]) (D' := D1) (pc' := 15) rfl (rfl) rfl ?_
    exact ev_iret hR ev_sm.rf (Option.some.inj hf) hC (by decide +kernel)
theorem mX11_pull {S : ev_S} {fu : Nat} {r : Int32 × ev_D} (hT : ev_Ty S) {l0 : Nat} {l1 : Int32} {D : ev_D} (hl0 : sK S l0 = 14) (hf : fX11_pull (sL S) (sE S) fu l0 l1 D = some r) : ev_M 5 0 0 yX11_pull cX11_pull 2 (some .int) [.ref l0, .int l1] S D S r :=
  ev_met (ini := false) (plainFor_of_name (by decide)) (fun h => by cases h) rfl (Nat.le_of_ble_eq_true rfl) (fun F hR => tX11_pull (S := ev_z S) hR hT ⟨Nat.le_refl 0, Nat.le_refl 0⟩ hl0 hf)
set_option maxHeartbeats 4000000 in
set_option maxRecDepth 100000 in
theorem tX11_act_55 {S : ev_S} {fu : Nat} {r : Int32 × ev_D} {F : ev_Fr} (hR : ev_R RX11 cX11_act 4 4 0 0 false (some .boolean) S r F) (hT : ev_Ty S) (hC : sC S ≤ 0 ∧ sA S ≤ 0) {l0 : Nat} {l1 : Int32} {l2 : Int32} {l3 : Nat} {D : ev_D} (hl0 : sK S l0 = 14) (hl3 : sK S l3 = 12) (hf : fX11_act_55 (sL S) (sE S) fu l0 l1 l2 l3 D = some r) : F S D 55 [some (.ref l0), some (.int l1), some (.int l2), some (.ref l3)] [] := by
  have hX := hR.X
  unfold fX11_act_55 at hf
  refine ev_blk hX lkok_RX11 [(.aload_n 0, 1, 0, 0, 0), (.getfield 19, 3, 11, 1, 0), (.aload_n 3, 1, 0, 0, 0), (.aload_n 0, 1, 0, 0, 0), (.getfield 10, 3, 11, 0, 0), (.getfield 36, 3, 10, 1, 0)] (by decide +kernel) (g := (sK S l0 == 14) && ((sK S l0 == 14) && ((sK S ((sE S) l0 0) == 13) && (true)))) (lv' := [some (.ref l0), some (.int l1), some (.int l2), some (.ref l3)]) (st' := [.ref ((sE S) ((sE S) l0 0) 1), .ref l3, .ref ((sE S) l0 1)]) (D' := D) (pc' := 67) rfl (ev_gk hl0 (ev_gk hl0 (ev_gk (ev_tyk hT hl0 rfl rfl) (rfl)))) rfl ?_
  obtain ⟨v1, D1, hc1, hf⟩ := ev_bd_s hf
  refine ev_callV hX YX2_keep ml_RX11_128 (mX2_keep hT (ev_tyk hT hl0 rfl rfl) hl3 (ev_tyk hT (ev_tyk hT hl0 rfl rfl) rfl rfl) hc1) (vs := [.ref l3, .ref ((sE S) ((sE S) l0 0) 1)]) (st := []) (by decide) 2 (ev_tyk hT hl0 rfl rfl) rfl rfl rfl (by decide +kernel) hC ?_
  show F S D1 70 [some (.ref l0), some (.int l1), some (.int l2), some (.ref l3)] []
  refine ev_blk hX lkok_RX11 [(.iload_n 1, 1, 0, 0, 0)] (by decide +kernel) (g := true) (lv' := [some (.ref l0), some (.int l1), some (.int l2), some (.ref l3)]) (st' := [.int l1]) (D' := D1) (pc' := 71) rfl (rfl) rfl ?_
  refine ev_if_ne hX (off := 35) 106 (by decide +kernel) (by decide) (fun h2 => ?_) (fun h2 => ?_)
  · have hf := ev_nf h2 hf
    refine ev_blk hX lkok_RX11 [(.iload_n 1, 1, 0, 0, 0), (.iconst 1, 1, 0, 0, 1)] (by decide +kernel) (g := true) (lv' := [some (.ref l0), some (.int l1), some (.int l2), some (.ref l3)]) (st' := [.int (1 : Int32), .int l1]) (D' := D1) (pc' := 108) rfl (rfl) rfl ?_
    refine ev_ic_ne hX (off := 18) 126 (by decide +kernel) (by decide) (fun h3 => ?_) (fun h3 => ?_)
    · have hf := ev_nf h3 hf
      refine ev_blk hX lkok_RX11 [(.aload_n 3, 1, 0, 0, 0), (.iload_n 2, 1, 0, 0, 0)] (by decide +kernel) (g := true) (lv' := [some (.ref l0), some (.int l1), some (.int l2), some (.ref l3)]) (st' := [.int l2, .ref l3]) (D' := D1) (pc' := 128) rfl (rfl) rfl ?_
      obtain ⟨v4, D4, hc4, hf⟩ := ev_bd_s hf
      refine ev_callV hX YX9_sleep ml_RX11_146 (mX9_sleep hT hl3 hc4) (vs := [.int l2]) (st := []) (by decide) 9 hl3 rfl rfl rfl (by decide +kernel) hC ?_
      show F S D4 131 [some (.ref l0), some (.int l1), some (.int l2), some (.ref l3)] []
      refine ev_blk hX lkok_RX11 [(.iconst 1, 1, 0, 0, 1)] (by decide +kernel) (g := true) (lv' := [some (.ref l0), some (.int l1), some (.int l2), some (.ref l3)]) (st' := [.int (1 : Int32)]) (D' := D4) (pc' := 132) rfl (rfl) rfl ?_
      exact ev_zret hR ev_sm.rf (Or.inr rfl) (Option.some.inj hf) hC (by decide +kernel)
    · have hf := ev_it h3 hf
      refine ev_blk hX lkok_RX11 [(.aload_n 3, 1, 0, 0, 0), (.iload_n 2, 1, 0, 0, 0)] (by decide +kernel) (g := true) (lv' := [some (.ref l0), some (.int l1), some (.int l2), some (.ref l3)]) (st' := [.int l2, .ref l3]) (D' := D1) (pc' := 113) rfl (rfl) rfl ?_
      obtain ⟨v5, D5, hc5, hf⟩ := ev_bd_s hf
      refine ev_callV hX YX9_wake ml_RX11_143 (mX9_wake hT hl3 hc5) (vs := [.int l2]) (st := []) (by decide) 9 hl3 rfl rfl rfl (by decide +kernel) hC ?_
      show F S D5 116 [some (.ref l0), some (.int l1), some (.int l2), some (.ref l3)] []
      obtain ⟨hg6, hf⟩ := ev_gd_s hf
      refine ev_blk hX lkok_RX11 [(.aload_n 3, 1, 0, 0, 0), (.getfield 122, 3, 9, 13, 0), (.iload_n 2, 1, 0, 0, 0), (.iconst 0, 1, 0, 0, 0), (.iastore, 1, 0, 0, 0)] (by decide +kernel) (g := (sK S l3 == 12) && ((sK S ((sE S) l3 13) == 1 && ev_in l2 ((sL S) ((sE S) l3 13))) && (true))) (lv' := [some (.ref l0), some (.int l1), some (.int l2), some (.ref l3)]) (st' := []) (D' := (ev_up D5 ((sE S) l3 13) (l2).toNatClampNeg (0 : Int32))) (pc' := 123) rfl (ev_gk hl3 (ev_gi (ev_tyk hT hl3 rfl rfl) hg6 (rfl))) rfl ?_
      refine ev_goto hX (off := 8) 131 (by decide +kernel) (by decide) ?_
      refine ev_blk hX lkok_RX11 [(.iconst 1, 1, 0, 0, 1)] (by decide +kernel) (g := true) (lv' := [some (.ref l0), some (.int l1), some (.int l2), some (.ref l3)]) (st' := [.int (1 : Int32)]) (D' := (ev_up D5 ((sE S) l3 13) (l2).toNatClampNeg (0 : Int32))) (pc' := 132) rfl (rfl) rfl ?_
      exact ev_zret hR ev_sm.rf (Or.inr rfl) (Option.some.inj hf) hC (by decide +kernel)
  · have hf := ev_it h2 hf
    obtain ⟨hg9, hf⟩ := ev_gd_s hf
    refine ev_blk hX lkok_RX11 [(.aload_n 0, 1, 0, 0, 0), (.getfield 10, 3, 11, 0, 0), (.getfield 36, 3, 10, 1, 0), (.aload_n 3, 1, 0, 0, 0), (.getfield 136, 3, 9, 4, 0), (.iconst 1, 1, 0, 0, 1), (.iload_n 2, 1, 0, 0, 0), (.aload_n 3, 1, 0, 0, 0), (.getfield 119, 3, 9, 12, 0), (.iload_n 2, 1, 0, 0, 0), (.iaload, 1, 0, 0, 0)] (by decide +kernel) (g := (sK S l0 == 14) && ((sK S ((sE S) l0 0) == 13) && ((sK S l3 == 12) && ((sK S l3 == 12) && ((sK S ((sE S) l3 12) == 1 && ev_in l2 ((sL S) ((sE S) l3 12))) && (true)))))) (lv' := [some (.ref l0), some (.int l1), some (.int l2), some (.ref l3)]) (st' := [.int (D1 ((sE S) l3 12) (l2).toNatClampNeg), .int l2, .int (1 : Int32), .int (D1 l3 4), .ref ((sE S) ((sE S) l0 0) 1)]) (D' := D1) (pc' := 93) rfl (ev_gk hl0 (ev_gk (ev_tyk hT hl0 rfl rfl) (ev_gk hl3 (ev_gk hl3 (ev_gi (ev_tyk hT hl3 rfl rfl) hg9 (rfl)))))) rfl ?_
    obtain ⟨v7, D7, hc7, hf⟩ := ev_bd_s hf
    refine ev_callV hX YX0_write ml_RX11_139 (mX0_write hT (ev_tyk hT (ev_tyk hT hl0 rfl rfl) rfl rfl) hc7) (vs := [.int (D1 l3 4), .int (1 : Int32), .int l2, .int (D1 ((sE S) l3 12) (l2).toNatClampNeg)]) (st := []) (by decide) 0 (ev_tyk hT (ev_tyk hT hl0 rfl rfl) rfl rfl) rfl rfl rfl (by decide +kernel) hC ?_
    show F S D7 96 [some (.ref l0), some (.int l1), some (.int l2), some (.ref l3)] []
    obtain ⟨hg8, hf⟩ := ev_gd_s hf
    refine ev_blk hX lkok_RX11 [(.aload_n 3, 1, 0, 0, 0), (.getfield 119, 3, 9, 12, 0), (.iload_n 2, 1, 0, 0, 0), (.iconst 0, 1, 0, 0, 0), (.iastore, 1, 0, 0, 0)] (by decide +kernel) (g := (sK S l3 == 12) && ((sK S ((sE S) l3 12) == 1 && ev_in l2 ((sL S) ((sE S) l3 12))) && (true))) (lv' := [some (.ref l0), some (.int l1), some (.int l2), some (.ref l3)]) (st' := []) (D' := (ev_up D7 ((sE S) l3 12) (l2).toNatClampNeg (0 : Int32))) (pc' := 103) rfl (ev_gk hl3 (ev_gi (ev_tyk hT hl3 rfl rfl) hg8 (rfl))) rfl ?_
    refine ev_goto hX (off := 28) 131 (by decide +kernel) (by decide) ?_
    refine ev_blk hX lkok_RX11 [(.iconst 1, 1, 0, 0, 1)] (by decide +kernel) (g := true) (lv' := [some (.ref l0), some (.int l1), some (.int l2), some (.ref l3)]) (st' := [.int (1 : Int32)]) (D' := (ev_up D7 ((sE S) l3 12) (l2).toNatClampNeg (0 : Int32))) (pc' := 132) rfl (rfl) rfl ?_
    exact ev_zret hR ev_sm.rf (Or.inr rfl) (Option.some.inj hf) hC (by decide +kernel)
set_option maxHeartbeats 4000000 in
set_option maxRecDepth 100000 in
theorem tX11_act_40 {S : ev_S} {fu : Nat} {r : Int32 × ev_D} {F : ev_Fr} (hR : ev_R RX11 cX11_act 4 4 0 0 false (some .boolean) S r F) (hT : ev_Ty S) (hC : sC S ≤ 0 ∧ sA S ≤ 0) {l0 : Nat} {l1 : Int32} {l2 : Int32} {l3 : Nat} {D : ev_D} (hl0 : sK S l0 = 14) (hl3 : sK S l3 = 12) (hf : fX11_act_40 (sL S) (sE S) fu l0 l1 l2 l3 D = some r) : F S D 40 [some (.ref l0), some (.int l1), some (.int l2), some (.ref l3)] [] := by
  have hX := hR.X
  unfold fX11_act_40 at hf
  refine ev_blk hX lkok_RX11 [(.iload_n 1, 1, 0, 0, 0), (.iconst 2, 1, 0, 0, 2)] (by decide +kernel) (g := true) (lv' := [some (.ref l0), some (.int l1), some (.int l2), some (.ref l3)]) (st' := [.int (2 : Int32), .int l1]) (D' := D) (pc' := 42) rfl (rfl) rfl ?_
  refine ev_ic_ne hX (off := 13) 55 (by decide +kernel) (by decide) (fun h10 => ?_) (fun h10 => ?_)
  · have hf := ev_nf h10 hf
    exact ev_weak hX (ev_le_eq (ev_le_eq (ev_le_eq (ev_le_eq ev_le_nil)))) (tX11_act_55 hR hT hC   hl0 hl3 hf)
  · have hf := ev_it h10 hf
    refine ev_blk hX lkok_RX11 [(.aload_n 3, 1, 0, 0, 0), (.iload_n 2, 1, 0, 0, 0)] (by decide +kernel) (g := true) (lv' := [some (.ref l0), some (.int l1), some (.int l2), some (.ref l3)]) (st' := [.int l2, .ref l3]) (D' := D) (pc' := 47) rfl (rfl) rfl ?_
    obtain ⟨v11, D11, hc11, hf⟩ := ev_bd_s hf
    refine ev_callV hX YX9_isAwake ml_RX11_125 (mX9_isAwake hT hl3 hc11) (vs := [.int l2]) (st := []) (by decide) 9 hl3 rfl rfl rfl (by decide +kernel) hC ?_
    show F S D11 50 [some (.ref l0), some (.int l1), some (.int l2), some (.ref l3)] [.int v11]
    refine ev_if_ne hX (off := 5) 55 (by decide +kernel) (by decide) (fun h12 => ?_) (fun h12 => ?_)
    · have hf := ev_nf h12 hf
      exact ev_weak hX (ev_le_eq (ev_le_eq (ev_le_eq (ev_le_eq ev_le_nil)))) (tX11_act_55 hR hT hC   hl0 hl3 hf)
    · have hf := ev_it h12 hf
      refine ev_blk hX lkok_RX11 [(.iconst 0, 1, 0, 0, 0)] (by decide +kernel) (g := true) (lv' := [some (.ref l0), some (.int l1), some (.int l2), some (.ref l3)]) (st' := [.int (0 : Int32)]) (D' := D11) (pc' := 54) rfl (rfl) rfl ?_
      exact ev_zret hR ev_sm.rf (Or.inl rfl) (Option.some.inj hf) hC (by decide +kernel)
set_option maxHeartbeats 4000000 in
set_option maxRecDepth 100000 in
theorem tX11_act {S : ev_S} {fu : Nat} {r : Int32 × ev_D} {F : ev_Fr} (hR : ev_R RX11 cX11_act 4 4 0 0 false (some .boolean) S r F) (hT : ev_Ty S) (hC : sC S ≤ 0 ∧ sA S ≤ 0) {l0 : Nat} {l1 : Int32} {l2 : Int32} {D : ev_D} (hl0 : sK S l0 = 14) (hf : fX11_act (sL S) (sE S) fu l0 l1 l2 D = some r) : F S D 0 [some (.ref l0), some (.int l1), some (.int l2), none] [] := by
  have hX := hR.X
  unfold fX11_act at hf
  refine ev_blk hX lkok_RX11 [(.aload_n 0, 1, 0, 0, 0), (.getfield 10, 3, 11, 0, 0), (.getfield 32, 3, 10, 0, 0), (.astore_n 3, 1, 0, 0, 0), (.aload_n 3, 1, 0, 0, 0), (.iload_n 2, 1, 0, 0, 0)] (by decide +kernel) (g := (sK S l0 == 14) && ((sK S ((sE S) l0 0) == 13) && (true))) (lv' := [some (.ref l0), some (.int l1), some (.int l2), some (.ref ((sE S) ((sE S) l0 0) 0))]) (st' := [.int l2, .ref ((sE S) ((sE S) l0 0) 0)]) (D' := D) (pc' := 10) rfl (ev_gk hl0 (ev_gk (ev_tyk hT hl0 rfl rfl) (rfl))) rfl ?_
  obtain ⟨v13, D13, hc13, hf⟩ := ev_bd_s hf
  refine ev_callV hX YX9_has ml_RX11_112 (mX9_has hT (ev_tyk hT (ev_tyk hT hl0 rfl rfl) rfl rfl) hc13) (vs := [.int l2]) (st := []) (by decide) 9 (ev_tyk hT (ev_tyk hT hl0 rfl rfl) rfl rfl) rfl rfl rfl (by decide +kernel) hC ?_
  show F S D13 13 [some (.ref l0), some (.int l1), some (.int l2), some (.ref ((sE S) ((sE S) l0 0) 0))] [.int v13]
  refine ev_if_eq hX (off := 12) 25 (by decide +kernel) (by decide) (fun h14 => ?_) (fun h14 => ?_)
  · have hf := ev_it h14 hf
    refine ev_blk hX lkok_RX11 [(.iconst 0, 1, 0, 0, 0)] (by decide +kernel) (g := true) (lv' := [some (.ref l0), some (.int l1), some (.int l2), some (.ref ((sE S) ((sE S) l0 0) 0))]) (st' := [.int (0 : Int32)]) (D' := D13) (pc' := 26) rfl (rfl) rfl ?_
    exact ev_zret hR ev_sm.rf (Or.inl rfl) (Option.some.inj hf) hC (by decide +kernel)
  · have hf := ev_nf h14 hf
    refine ev_blk hX lkok_RX11 [(.iload_n 1, 1, 0, 0, 0), (.iconst 0, 1, 0, 0, 0), (.iconst 2, 1, 0, 0, 2)] (by decide +kernel) (g := true) (lv' := [some (.ref l0), some (.int l1), some (.int l2), some (.ref ((sE S) ((sE S) l0 0) 0))]) (st' := [.int (2 : Int32), .int (0 : Int32), .int l1]) (D' := D13) (pc' := 19) rfl (rfl) rfl ?_
    obtain ⟨v15, D15, hc15, hf⟩ := ev_bd_s hf
    refine ev_callS hX YX11_within ml_RX11_85 (mX11_within hT  hc15) (vs := [.int l1, .int (0 : Int32), .int (2 : Int32)]) (st := []) (by decide) rfl rfl (by decide +kernel) hC ?_
    show F S D15 22 [some (.ref l0), some (.int l1), some (.int l2), some (.ref ((sE S) ((sE S) l0 0) 0))] [.int v15]
    refine ev_if_ne hX (off := 5) 27 (by decide +kernel) (by decide) (fun h16 => ?_) (fun h16 => ?_)
    · have hf := ev_nf h16 hf
      refine ev_blk hX lkok_RX11 [(.iload_n 1, 1, 0, 0, 0), (.iconst 1, 1, 0, 0, 1)] (by decide +kernel) (g := true) (lv' := [some (.ref l0), some (.int l1), some (.int l2), some (.ref ((sE S) ((sE S) l0 0) 0))]) (st' := [.int (1 : Int32), .int l1]) (D' := D15) (pc' := 29) rfl (rfl) rfl ?_
      refine ev_ic_ne hX (off := 11) 40 (by decide +kernel) (by decide) (fun h17 => ?_) (fun h17 => ?_)
      · have hf := ev_nf h17 hf
        exact ev_weak hX (ev_le_eq (ev_le_eq (ev_le_eq (ev_le_eq ev_le_nil)))) (tX11_act_40 hR hT hC   hl0 (ev_tyk hT (ev_tyk hT hl0 rfl rfl) rfl rfl) hf)
      · have hf := ev_it h17 hf
        refine ev_blk hX lkok_RX11 [(.aload_n 3, 1, 0, 0, 0), (.iload_n 2, 1, 0, 0, 0)] (by decide +kernel) (g := true) (lv' := [some (.ref l0), some (.int l1), some (.int l2), some (.ref ((sE S) ((sE S) l0 0) 0))]) (st' := [.int l2, .ref ((sE S) ((sE S) l0 0) 0)]) (D' := D15) (pc' := 34) rfl (rfl) rfl ?_
        obtain ⟨v18, D18, hc18, hf⟩ := ev_bd_s hf
        refine ev_callV hX YX9_isAwake ml_RX11_125 (mX9_isAwake hT (ev_tyk hT (ev_tyk hT hl0 rfl rfl) rfl rfl) hc18) (vs := [.int l2]) (st := []) (by decide) 9 (ev_tyk hT (ev_tyk hT hl0 rfl rfl) rfl rfl) rfl rfl rfl (by decide +kernel) hC ?_
        show F S D18 37 [some (.ref l0), some (.int l1), some (.int l2), some (.ref ((sE S) ((sE S) l0 0) 0))] [.int v18]
        refine ev_if_ne hX (off := 16) 53 (by decide +kernel) (by decide) (fun h19 => ?_) (fun h19 => ?_)
        · have hf := ev_nf h19 hf
          refine ev_blk hX lkok_RX11 [(.iconst 0, 1, 0, 0, 0)] (by decide +kernel) (g := true) (lv' := [some (.ref l0), some (.int l1), some (.int l2), some (.ref ((sE S) ((sE S) l0 0) 0))]) (st' := [.int (0 : Int32)]) (D' := D18) (pc' := 54) rfl (rfl) rfl ?_
          exact ev_zret hR ev_sm.rf (Or.inl rfl) (Option.some.inj hf) hC (by decide +kernel)
        · have hf := ev_it h19 hf
          exact ev_weak hX (ev_le_eq (ev_le_eq (ev_le_eq (ev_le_eq ev_le_nil)))) (tX11_act_40 hR hT hC   hl0 (ev_tyk hT (ev_tyk hT hl0 rfl rfl) rfl rfl) hf)
    · have hf := ev_it h16 hf
      refine ev_blk hX lkok_RX11 [(.iconst 0, 1, 0, 0, 0)] (by decide +kernel) (g := true) (lv' := [some (.ref l0), some (.int l1), some (.int l2), some (.ref ((sE S) ((sE S) l0 0) 0))]) (st' := [.int (0 : Int32)]) (D' := D15) (pc' := 26) rfl (rfl) rfl ?_
      exact ev_zret hR ev_sm.rf (Or.inl rfl) (Option.some.inj hf) hC (by decide +kernel)
theorem mX11_act {S : ev_S} {fu : Nat} {r : Int32 × ev_D} (hT : ev_Ty S) {l0 : Nat} {l1 : Int32} {l2 : Int32} {D : ev_D} (hl0 : sK S l0 = 14) (hf : fX11_act (sL S) (sE S) fu l0 l1 l2 D = some r) : ev_M 4 0 0 yX11_act cX11_act 4 (some .boolean) [.ref l0, .int l1, .int l2] S D S r :=
  ev_met (ini := false) (plainFor_of_name (by decide)) (fun h => by cases h) rfl (Nat.le_of_ble_eq_true rfl) (fun F hR => tX11_act (S := ev_z S) hR hT ⟨Nat.le_refl 0, Nat.le_refl 0⟩ hl0 hf)
set_option maxHeartbeats 4000000 in
set_option maxRecDepth 100000 in
theorem tX5_grow {S : ev_S} {fu : Nat} {r : Int32 × ev_D} {F : ev_Fr} (hR : ev_R RX5 cX5_grow 2 2 0 0 false none S r F) (hT : ev_Ty S) (hC : sC S ≤ 0 ∧ sA S ≤ 0) {l0 : Nat} {l1 : Int32} {D : ev_D} (hl0 : sK S l0 = 8) (hf : fX5_grow (sL S) (sE S) fu l0 l1 D = some r) : F S D 0 [some (.ref l0), some (.int l1)] [] := by
  have hX := hR.X
  unfold fX5_grow at hf
  refine ev_blk hX lkok_RX5 [(.aload_n 0, 1, 0, 0, 0), (.getfield 17, 3, 5, 0, 0), (.iload_n 1, 1, 0, 0, 0)] (by decide +kernel) (g := (sK S l0 == 8) && (true)) (lv' := [some (.ref l0), some (.int l1)]) (st' := [.int l1, .ref ((sE S) l0 0)]) (D' := D) (pc' := 5) rfl (ev_gk hl0 (rfl)) rfl ?_
  obtain ⟨v1, D1, hc1, hf⟩ := ev_bd_s hf
  refine ev_callV hX YX9_has ml_RX5_54 (mX9_has hT (ev_tyk hT hl0 rfl rfl) hc1) (vs := [.int l1]) (st := []) (by decide) 9 (ev_tyk hT hl0 rfl rfl) rfl rfl rfl (by decide +kernel) hC ?_
  show F S D1 8 [some (.ref l0), some (.int l1)] [.int v1]
  refine ev_if_ne hX (off := 4) 12 (by decide +kernel) (by decide) (fun h2 => ?_) (fun h2 => ?_)
  · have hf := ev_nf h2 hf
    obtain ⟨hg14, hf⟩ := ev_gd_s hf
    refine ev_blk hX lkok_RX5 [(.aload_n 0, 1, 0, 0, 0), (.getfield 17, 3, 5, 0, 0), (.getfield 69, 3, 9, 12, 0), (.iload_n 1, 1, 0, 0, 0), (.bipush 99, 2, 0, 0, 99), (.aload_n 0, 1, 0, 0, 0), (.getfield 17, 3, 5, 0, 0), (.getfield 69, 3, 9, 12, 0), (.iload_n 1, 1, 0, 0, 0), (.iaload, 1, 0, 0, 0), (.iconst 1, 1, 0, 0, 1), (.iadd, 1, 0, 0, 0)] (by decide +kernel) (g := (sK S l0 == 8) && ((sK S ((sE S) l0 0) == 12) && ((sK S l0 == 8) && ((sK S ((sE S) l0 0) == 12) && ((sK S ((sE S) ((sE S) l0 0) 12) == 1 && ev_in l1 ((sL S) ((sE S) ((sE S) l0 0) 12))) && (true)))))) (lv' := [some (.ref l0), some (.int l1)]) (st' := [.int ((D1 ((sE S) ((sE S) l0 0) 12) (l1).toNatClampNeg) + (1 : Int32)), .int (99 : Int32), .int l1, .ref ((sE S) ((sE S) l0 0) 12)]) (D' := D1) (pc' := 33) rfl (ev_gk hl0 (ev_gk (ev_tyk hT hl0 rfl rfl) (ev_gk hl0 (ev_gk (ev_tyk hT hl0 rfl rfl) (ev_gi (ev_tyk hT (ev_tyk hT hl0 rfl rfl) rfl rfl) hg14 (rfl)))))) rfl ?_
    obtain ⟨v3, D3, hc3, hf⟩ := ev_bd_s hf
    refine ev_callS hX YJ9_min ml_RX5_105 (mJ9_min hT  hc3) (vs := [.int (99 : Int32), .int ((D1 ((sE S) ((sE S) l0 0) 12) (l1).toNatClampNeg) + (1 : Int32))]) (st := [.int l1, .ref ((sE S) ((sE S) l0 0) 12)]) (by decide) rfl rfl (by decide +kernel) hC ?_
    show F S D3 36 [some (.ref l0), some (.int l1)] [.int v3, .int l1, .ref ((sE S) ((sE S) l0 0) 12)]
    obtain ⟨hg13, hf⟩ := ev_gd_s hf
    refine ev_blk hX lkok_RX5 [(.iastore, 1, 0, 0, 0), (.aload_n 0, 1, 0, 0, 0), (.getfield 17, 3, 5, 0, 0), (.iload_n 1, 1, 0, 0, 0)] (by decide +kernel) (g := (sK S ((sE S) ((sE S) l0 0) 12) == 1 && ev_in l1 ((sL S) ((sE S) ((sE S) l0 0) 12))) && ((sK S l0 == 8) && (true))) (lv' := [some (.ref l0), some (.int l1)]) (st' := [.int l1, .ref ((sE S) l0 0)]) (D' := (ev_up D3 ((sE S) ((sE S) l0 0) 12) (l1).toNatClampNeg v3)) (pc' := 42) rfl (ev_gi (ev_tyk hT (ev_tyk hT hl0 rfl rfl) rfl rfl) hg13 (ev_gk hl0 (rfl))) rfl ?_
    obtain ⟨v4, D4, hc4, hf⟩ := ev_bd_s hf
    refine ev_callV hX YX9_isAwake ml_RX5_96 (mX9_isAwake hT (ev_tyk hT hl0 rfl rfl) hc4) (vs := [.int l1]) (st := []) (by decide) 9 (ev_tyk hT hl0 rfl rfl) rfl rfl rfl (by decide +kernel) hC ?_
    show F S D4 45 [some (.ref l0), some (.int l1)] [.int v4]
    refine ev_if_eq hX (off := 4) 49 (by decide +kernel) (by decide) (fun h5 => ?_) (fun h5 => ?_)
    · have hf := ev_it h5 hf
      obtain ⟨hg12, hf⟩ := ev_gd_s hf
      refine ev_blk hX lkok_RX5 [(.aload_n 0, 1, 0, 0, 0), (.getfield 17, 3, 5, 0, 0), (.getfield 72, 3, 9, 13, 0), (.iload_n 1, 1, 0, 0, 0), (.iconst 0, 1, 0, 0, 0), (.aload_n 0, 1, 0, 0, 0), (.getfield 17, 3, 5, 0, 0), (.getfield 72, 3, 9, 13, 0), (.iload_n 1, 1, 0, 0, 0), (.iaload, 1, 0, 0, 0), (.bipush 9, 2, 0, 0, 9), (.isub, 1, 0, 0, 0)] (by decide +kernel) (g := (sK S l0 == 8) && ((sK S ((sE S) l0 0) == 12) && ((sK S l0 == 8) && ((sK S ((sE S) l0 0) == 12) && ((sK S ((sE S) ((sE S) l0 0) 13) == 1 && ev_in l1 ((sL S) ((sE S) ((sE S) l0 0) 13))) && (true)))))) (lv' := [some (.ref l0), some (.int l1)]) (st' := [.int ((D4 ((sE S) ((sE S) l0 0) 13) (l1).toNatClampNeg) - (9 : Int32)), .int (0 : Int32), .int l1, .ref ((sE S) ((sE S) l0 0) 13)]) (D' := D4) (pc' := 70) rfl (ev_gk hl0 (ev_gk (ev_tyk hT hl0 rfl rfl) (ev_gk hl0 (ev_gk (ev_tyk hT hl0 rfl rfl) (ev_gi (ev_tyk hT (ev_tyk hT hl0 rfl rfl) rfl rfl) hg12 (rfl)))))) rfl ?_
      obtain ⟨v6, D6, hc6, hf⟩ := ev_bd_s hf
      refine ev_callS hX YJ9_max ml_RX5_125 (mJ9_max hT  hc6) (vs := [.int (0 : Int32), .int ((D4 ((sE S) ((sE S) l0 0) 13) (l1).toNatClampNeg) - (9 : Int32))]) (st := [.int l1, .ref ((sE S) ((sE S) l0 0) 13)]) (by decide) rfl rfl (by decide +kernel) hC ?_
      show F S D6 73 [some (.ref l0), some (.int l1)] [.int v6, .int l1, .ref ((sE S) ((sE S) l0 0) 13)]
      obtain ⟨hg10, hf⟩ := ev_gd_s hf
      obtain ⟨hg11, hf⟩ := ev_gd_s hf
      refine ev_blk hX lkok_RX5 [(.iastore, 1, 0, 0, 0), (.aload_n 0, 1, 0, 0, 0), (.getfield 17, 3, 5, 0, 0), (.getfield 72, 3, 9, 13, 0), (.iload_n 1, 1, 0, 0, 0), (.iaload, 1, 0, 0, 0)] (by decide +kernel) (g := (sK S ((sE S) ((sE S) l0 0) 13) == 1 && ev_in l1 ((sL S) ((sE S) ((sE S) l0 0) 13))) && ((sK S l0 == 8) && ((sK S ((sE S) l0 0) == 12) && ((sK S ((sE S) ((sE S) l0 0) 13) == 1 && ev_in l1 ((sL S) ((sE S) ((sE S) l0 0) 13))) && (true))))) (lv' := [some (.ref l0), some (.int l1)]) (st' := [.int ((ev_up D6 ((sE S) ((sE S) l0 0) 13) (l1).toNatClampNeg v6) ((sE S) ((sE S) l0 0) 13) (l1).toNatClampNeg)]) (D' := (ev_up D6 ((sE S) ((sE S) l0 0) 13) (l1).toNatClampNeg v6)) (pc' := 83) rfl (ev_gi (ev_tyk hT (ev_tyk hT hl0 rfl rfl) rfl rfl) hg10 (ev_gk hl0 (ev_gk (ev_tyk hT hl0 rfl rfl) (ev_gi (ev_tyk hT (ev_tyk hT hl0 rfl rfl) rfl rfl) hg11 (rfl))))) rfl ?_
      refine ev_if_ne hX (off := 28) 111 (by decide +kernel) (by decide) (fun h7 => ?_) (fun h7 => ?_)
      · have hf := ev_nf h7 hf
        exact ev_vret hR ev_sm.rf (Option.some.inj hf) hC (by decide +kernel)
      · have hf := ev_it h7 hf
        refine ev_blk hX lkok_RX5 [(.aload_n 0, 1, 0, 0, 0), (.getfield 17, 3, 5, 0, 0), (.iload_n 1, 1, 0, 0, 0)] (by decide +kernel) (g := (sK S l0 == 8) && (true)) (lv' := [some (.ref l0), some (.int l1)]) (st' := [.int l1, .ref ((sE S) l0 0)]) (D' := (ev_up D6 ((sE S) ((sE S) l0 0) 13) (l1).toNatClampNeg v6)) (pc' := 91) rfl (ev_gk hl0 (rfl)) rfl ?_
        obtain ⟨v8, D8, hc8, hf⟩ := ev_bd_s hf
        refine ev_callV hX YX9_wake ml_RX5_164 (mX9_wake hT (ev_tyk hT hl0 rfl rfl) hc8) (vs := [.int l1]) (st := []) (by decide) 9 (ev_tyk hT hl0 rfl rfl) rfl rfl rfl (by decide +kernel) hC ?_
        show F S D8 94 [some (.ref l0), some (.int l1)] []
        refine ev_blk hX lkok_RX5 [(.aload_n 0, 1, 0, 0, 0), (.getfield 21, 3, 5, 1, 0), (.aload_n 0, 1, 0, 0, 0), (.getfield 17, 3, 5, 0, 0), (.getfield 88, 3, 9, 4, 0), (.iconst 3, 1, 0, 0, 3), (.iload_n 1, 1, 0, 0, 0), (.iconst 0, 1, 0, 0, 0)] (by decide +kernel) (g := (sK S l0 == 8) && ((sK S l0 == 8) && ((sK S ((sE S) l0 0) == 12) && (true)))) (lv' := [some (.ref l0), some (.int l1)]) (st' := [.int (0 : Int32), .int l1, .int (3 : Int32), .int (D8 ((sE S) l0 0) 4), .ref ((sE S) l0 1)]) (D' := D8) (pc' := 108) rfl (ev_gk hl0 (ev_gk hl0 (ev_gk (ev_tyk hT hl0 rfl rfl) (rfl)))) rfl ?_
        obtain ⟨v9, D9, hc9, hf⟩ := ev_bd_s hf
        refine ev_callV hX YX0_write ml_RX5_110 (mX0_write hT (ev_tyk hT hl0 rfl rfl) hc9) (vs := [.int (D8 ((sE S) l0 0) 4), .int (3 : Int32), .int l1, .int (0 : Int32)]) (st := []) (by decide) 0 (ev_tyk hT hl0 rfl rfl) rfl rfl rfl (by decide +kernel) hC ?_
        show F S D9 111 [some (.ref l0), some (.int l1)] []
        exact ev_vret hR ev_sm.rf (Option.some.inj hf) hC (by decide +kernel)
    · have hf := ev_nf h5 hf
      exact ev_vret hR ev_sm.rf (Option.some.inj hf) hC (by decide +kernel)
  · have hf := ev_it h2 hf
    exact ev_vret hR ev_sm.rf (Option.some.inj hf) hC (by decide +kernel)
theorem mX5_grow {S : ev_S} {fu : Nat} {r : Int32 × ev_D} (hT : ev_Ty S) {l0 : Nat} {l1 : Int32} {D : ev_D} (hl0 : sK S l0 = 8) (hf : fX5_grow (sL S) (sE S) fu l0 l1 D = some r) : ev_M 2 0 0 yX5_grow cX5_grow 2 none [.ref l0, .int l1] S D S r :=
  ev_met (ini := false) (plainFor_of_name (by decide)) (fun h => by cases h) rfl (Nat.le_of_ble_eq_true rfl) (fun F hR => tX5_grow (S := ev_z S) hR hT ⟨Nat.le_refl 0, Nat.le_refl 0⟩ hl0 hf)
theorem dX5_happenOne_1 : decode cX5_happenOne 1 = .ok (.tableswitch 93 0 4 #[35, 59, 35, 59, 82], 35) := by decide +kernel
set_option maxHeartbeats 4000000 in
set_option maxRecDepth 100000 in
theorem tX5_happenOne {S : ev_S} {fu : Nat} {r : Int32 × ev_D} {F : ev_Fr} (hR : ev_R RX5 cX5_happenOne 3 1 0 0 false none S r F) (hT : ev_Ty S) (hC : sC S ≤ 0 ∧ sA S ≤ 0) {l0 : Nat} {l1 : Int32} {l2 : Int32} {D : ev_D} (hl0 : sK S l0 = 8) (hf : fX5_happenOne (sL S) (sE S) fu l0 l1 l2 D = some r) : F S D 0 [some (.ref l0), some (.int l1), some (.int l2)] [] := by
  have hX := hR.X
  unfold fX5_happenOne at hf
  refine ev_blk hX lkok_RX5 [(.iload_n 1, 1, 0, 0, 0)] (by decide +kernel) (g := true) (lv' := [some (.ref l0), some (.int l1), some (.int l2)]) (st' := [.int l1]) (D' := D) (pc' := 1) rfl (rfl) rfl ?_
  by_cases h1 : l1 = (0 : Int32)
  · have hf := ev_it h1 hf
    refine ev_tblIn hX (off := 35) 36 dX5_happenOne_1 (by rw [h1]; decide) (by rw [h1]; decide) (by rw [h1]; rfl) (by decide) ?_
    refine ev_blk hX lkok_RX5 [(.aload_n 0, 1, 0, 0, 0), (.getfield 17, 3, 5, 0, 0), (.bipush 99, 2, 0, 0, 99), (.aload_n 0, 1, 0, 0, 0), (.getfield 17, 3, 5, 0, 0), (.getfield 82, 3, 9, 1, 0), (.iload_n 2, 1, 0, 0, 0), (.iadd, 1, 0, 0, 0)] (by decide +kernel) (g := (sK S l0 == 8) && ((sK S l0 == 8) && ((sK S ((sE S) l0 0) == 12) && (true)))) (lv' := [some (.ref l0), some (.int l1), some (.int l2)]) (st' := [.int ((D ((sE S) l0 0) 1) + l2), .int (99 : Int32), .ref ((sE S) l0 0)]) (D' := D) (pc' := 51) rfl (ev_gk hl0 (ev_gk hl0 (ev_gk (ev_tyk hT hl0 rfl rfl) (rfl)))) rfl ?_
    obtain ⟨v2, D2, hc2, hf⟩ := ev_bd_s hf
    refine ev_callS hX YJ9_min ml_RX5_105 (mJ9_min hT  hc2) (vs := [.int (99 : Int32), .int ((D ((sE S) l0 0) 1) + l2)]) (st := [.ref ((sE S) l0 0)]) (by decide) rfl rfl (by decide +kernel) hC ?_
    show F S D2 54 [some (.ref l0), some (.int l1), some (.int l2)] [.int v2, .ref ((sE S) l0 0)]
    refine ev_blk hX lkok_RX5 [(.putfield 82, 3, 9, 1, 0)] (by decide +kernel) (g := (sK S ((sE S) l0 0) == 12) && (true)) (lv' := [some (.ref l0), some (.int l1), some (.int l2)]) (st' := []) (D' := (ev_up D2 ((sE S) l0 0) 1 v2)) (pc' := 57) rfl (ev_gk (ev_tyk hT hl0 rfl rfl) (rfl)) rfl ?_
    refine ev_goto hX (off := 45) 102 (by decide +kernel) (by decide) ?_
    exact ev_vret hR ev_sm.rf (Option.some.inj hf) hC (by decide +kernel)
  have hf := ev_nf h1 hf
  by_cases h3 : l1 = (1 : Int32)
  · have hf := ev_it h3 hf
    refine ev_tblIn hX (off := 59) 60 dX5_happenOne_1 (by rw [h3]; decide) (by rw [h3]; decide) (by rw [h3]; rfl) (by decide) ?_
    refine ev_blk hX lkok_RX5 [(.aload_n 0, 1, 0, 0, 0), (.getfield 17, 3, 5, 0, 0), (.iconst 0, 1, 0, 0, 0), (.aload_n 0, 1, 0, 0, 0), (.getfield 17, 3, 5, 0, 0), (.getfield 82, 3, 9, 1, 0), (.iload_n 2, 1, 0, 0, 0), (.isub, 1, 0, 0, 0)] (by decide +kernel) (g := (sK S l0 == 8) && ((sK S l0 == 8) && ((sK S ((sE S) l0 0) == 12) && (true)))) (lv' := [some (.ref l0), some (.int l1), some (.int l2)]) (st' := [.int ((D ((sE S) l0 0) 1) - l2), .int (0 : Int32), .ref ((sE S) l0 0)]) (D' := D) (pc' := 74) rfl (ev_gk hl0 (ev_gk hl0 (ev_gk (ev_tyk hT hl0 rfl rfl) (rfl)))) rfl ?_
    obtain ⟨v4, D4, hc4, hf⟩ := ev_bd_s hf
    refine ev_callS hX YJ9_max ml_RX5_125 (mJ9_max hT  hc4) (vs := [.int (0 : Int32), .int ((D ((sE S) l0 0) 1) - l2)]) (st := [.ref ((sE S) l0 0)]) (by decide) rfl rfl (by decide +kernel) hC ?_
    show F S D4 77 [some (.ref l0), some (.int l1), some (.int l2)] [.int v4, .ref ((sE S) l0 0)]
    refine ev_blk hX lkok_RX5 [(.putfield 82, 3, 9, 1, 0)] (by decide +kernel) (g := (sK S ((sE S) l0 0) == 12) && (true)) (lv' := [some (.ref l0), some (.int l1), some (.int l2)]) (st' := []) (D' := (ev_up D4 ((sE S) l0 0) 1 v4)) (pc' := 80) rfl (ev_gk (ev_tyk hT hl0 rfl rfl) (rfl)) rfl ?_
    refine ev_goto hX (off := 22) 102 (by decide +kernel) (by decide) ?_
    exact ev_vret hR ev_sm.rf (Option.some.inj hf) hC (by decide +kernel)
  have hf := ev_nf h3 hf
  by_cases h5 : l1 = (2 : Int32)
  · have hf := ev_it h5 hf
    refine ev_tblIn hX (off := 35) 36 dX5_happenOne_1 (by rw [h5]; decide) (by rw [h5]; decide) (by rw [h5]; rfl) (by decide) ?_
    refine ev_blk hX lkok_RX5 [(.aload_n 0, 1, 0, 0, 0), (.getfield 17, 3, 5, 0, 0), (.bipush 99, 2, 0, 0, 99), (.aload_n 0, 1, 0, 0, 0), (.getfield 17, 3, 5, 0, 0), (.getfield 82, 3, 9, 1, 0), (.iload_n 2, 1, 0, 0, 0), (.iadd, 1, 0, 0, 0)] (by decide +kernel) (g := (sK S l0 == 8) && ((sK S l0 == 8) && ((sK S ((sE S) l0 0) == 12) && (true)))) (lv' := [some (.ref l0), some (.int l1), some (.int l2)]) (st' := [.int ((D ((sE S) l0 0) 1) + l2), .int (99 : Int32), .ref ((sE S) l0 0)]) (D' := D) (pc' := 51) rfl (ev_gk hl0 (ev_gk hl0 (ev_gk (ev_tyk hT hl0 rfl rfl) (rfl)))) rfl ?_
    obtain ⟨v6, D6, hc6, hf⟩ := ev_bd_s hf
    refine ev_callS hX YJ9_min ml_RX5_105 (mJ9_min hT  hc6) (vs := [.int (99 : Int32), .int ((D ((sE S) l0 0) 1) + l2)]) (st := [.ref ((sE S) l0 0)]) (by decide) rfl rfl (by decide +kernel) hC ?_
    show F S D6 54 [some (.ref l0), some (.int l1), some (.int l2)] [.int v6, .ref ((sE S) l0 0)]
    refine ev_blk hX lkok_RX5 [(.putfield 82, 3, 9, 1, 0)] (by decide +kernel) (g := (sK S ((sE S) l0 0) == 12) && (true)) (lv' := [some (.ref l0), some (.int l1), some (.int l2)]) (st' := []) (D' := (ev_up D6 ((sE S) l0 0) 1 v6)) (pc' := 57) rfl (ev_gk (ev_tyk hT hl0 rfl rfl) (rfl)) rfl ?_
    refine ev_goto hX (off := 45) 102 (by decide +kernel) (by decide) ?_
    exact ev_vret hR ev_sm.rf (Option.some.inj hf) hC (by decide +kernel)
  have hf := ev_nf h5 hf
  by_cases h7 : l1 = (3 : Int32)
  · have hf := ev_it h7 hf
    refine ev_tblIn hX (off := 59) 60 dX5_happenOne_1 (by rw [h7]; decide) (by rw [h7]; decide) (by rw [h7]; rfl) (by decide) ?_
    refine ev_blk hX lkok_RX5 [(.aload_n 0, 1, 0, 0, 0), (.getfield 17, 3, 5, 0, 0), (.iconst 0, 1, 0, 0, 0), (.aload_n 0, 1, 0, 0, 0), (.getfield 17, 3, 5, 0, 0), (.getfield 82, 3, 9, 1, 0), (.iload_n 2, 1, 0, 0, 0), (.isub, 1, 0, 0, 0)] (by decide +kernel) (g := (sK S l0 == 8) && ((sK S l0 == 8) && ((sK S ((sE S) l0 0) == 12) && (true)))) (lv' := [some (.ref l0), some (.int l1), some (.int l2)]) (st' := [.int ((D ((sE S) l0 0) 1) - l2), .int (0 : Int32), .ref ((sE S) l0 0)]) (D' := D) (pc' := 74) rfl (ev_gk hl0 (ev_gk hl0 (ev_gk (ev_tyk hT hl0 rfl rfl) (rfl)))) rfl ?_
    obtain ⟨v8, D8, hc8, hf⟩ := ev_bd_s hf
    refine ev_callS hX YJ9_max ml_RX5_125 (mJ9_max hT  hc8) (vs := [.int (0 : Int32), .int ((D ((sE S) l0 0) 1) - l2)]) (st := [.ref ((sE S) l0 0)]) (by decide) rfl rfl (by decide +kernel) hC ?_
    show F S D8 77 [some (.ref l0), some (.int l1), some (.int l2)] [.int v8, .ref ((sE S) l0 0)]
    refine ev_blk hX lkok_RX5 [(.putfield 82, 3, 9, 1, 0)] (by decide +kernel) (g := (sK S ((sE S) l0 0) == 12) && (true)) (lv' := [some (.ref l0), some (.int l1), some (.int l2)]) (st' := []) (D' := (ev_up D8 ((sE S) l0 0) 1 v8)) (pc' := 80) rfl (ev_gk (ev_tyk hT hl0 rfl rfl) (rfl)) rfl ?_
    refine ev_goto hX (off := 22) 102 (by decide +kernel) (by decide) ?_
    exact ev_vret hR ev_sm.rf (Option.some.inj hf) hC (by decide +kernel)
  have hf := ev_nf h7 hf
  by_cases h9 : l1 = (4 : Int32)
  · have hf := ev_it h9 hf
    refine ev_tblIn hX (off := 82) 83 dX5_happenOne_1 (by rw [h9]; decide) (by rw [h9]; decide) (by rw [h9]; rfl) (by decide) ?_
    refine ev_blk hX lkok_RX5 [(.aload_n 0, 1, 0, 0, 0), (.getfield 17, 3, 5, 0, 0), (.iload_n 2, 1, 0, 0, 0), (.putfield 82, 3, 9, 1, 0)] (by decide +kernel) (g := (sK S l0 == 8) && ((sK S ((sE S) l0 0) == 12) && (true))) (lv' := [some (.ref l0), some (.int l1), some (.int l2)]) (st' := []) (D' := (ev_up D ((sE S) l0 0) 1 l2)) (pc' := 91) rfl (ev_gk hl0 (ev_gk (ev_tyk hT hl0 rfl rfl) (rfl))) rfl ?_
    refine ev_goto hX (off := 11) 102 (by decide +kernel) (by decide) ?_
    exact ev_vret hR ev_sm.rf (Option.some.inj hf) hC (by decide +kernel)
  have hf := ev_nf h9 hf
  refine ev_tblOut hX 94 dX5_happenOne_1 (by have h1q : (l1).toInt ≠ 0 := ev_ne h1; have h3q : (l1).toInt ≠ 1 := ev_ne h3; have h5q : (l1).toInt ≠ 2 := ev_ne h5; have h7q : (l1).toInt ≠ 3 := ev_ne h7; have h9q : (l1).toInt ≠ 4 := ev_ne h9; omega) (by decide) ?_
  refine ev_blk hX lkok_RX5 [(.aload_n 0, 1, 0, 0, 0), (.getfield 17, 3, 5, 0, 0), (.iload_n 2, 1, 0, 0, 0), (.putfield 85, 3, 9, 2, 0)] (by decide +kernel) (g := (sK S l0 == 8) && ((sK S ((sE S) l0 0) == 12) && (true))) (lv' := [some (.ref l0), some (.int l1), some (.int l2)]) (st' := []) (D' := (ev_up D ((sE S) l0 0) 2 l2)) (pc' := 102) rfl (ev_gk hl0 (ev_gk (ev_tyk hT hl0 rfl rfl) (rfl))) rfl ?_
  exact ev_vret hR ev_sm.rf (Option.some.inj hf) hC (by decide +kernel)
theorem mX5_happenOne {S : ev_S} {fu : Nat} {r : Int32 × ev_D} (hT : ev_Ty S) {l0 : Nat} {l1 : Int32} {l2 : Int32} {D : ev_D} (hl0 : sK S l0 = 8) (hf : fX5_happenOne (sL S) (sE S) fu l0 l1 l2 D = some r) : ev_M 1 0 0 yX5_happenOne cX5_happenOne 3 none [.ref l0, .int l1, .int l2] S D S r :=
  ev_met (ini := false) (plainFor_of_name (by decide)) (fun h => by cases h) rfl (Nat.le_of_ble_eq_true rfl) (fun F hR => tX5_happenOne (S := ev_z S) hR hT ⟨Nat.le_refl 0, Nat.le_refl 0⟩ hl0 hf)
set_option maxHeartbeats 4000000 in
set_option maxRecDepth 100000 in
theorem tX6_cell {S : ev_S} {fu : Nat} {r : Int32 × ev_D} {F : ev_Fr} (hR : ev_R RX6 cX6_cell 4 0 0 0 false (some .int) S r F) (hT : ev_Ty S) (hC : sC S ≤ 0 ∧ sA S ≤ 0) {l0 : Nat} {l1 : Int32} {l2 : Int32} {D : ev_D} (hl0 : sK S l0 = 9) (hf : fX6_cell (sL S) (sE S) fu l0 l1 l2 D = some r) : F S D 0 [some (.ref l0), some (.int l1), some (.int l2), none] [] := by
  have hX := hR.X
  unfold fX6_cell at hf
  refine ev_blk hX lkok_RX6 [(.iload_n 1, 1, 0, 0, 0), (.iconst 3, 1, 0, 0, 3), (.imul, 1, 0, 0, 0), (.iload_n 2, 1, 0, 0, 0), (.iadd, 1, 0, 0, 0), (.istore_n 3, 1, 0, 0, 0), (.iload_n 3, 1, 0, 0, 0)] (by decide +kernel) (g := true) (lv' := [some (.ref l0), some (.int l1), some (.int l2), some (.int ((l1 * (3 : Int32)) + l2))]) (st' := [.int ((l1 * (3 : Int32)) + l2)]) (D' := D) (pc' := 7) rfl (rfl) rfl ?_
  refine ev_if_lt hX (off := 21) 28 (by decide +kernel) (by decide) (fun h1 => ?_) (fun h1 => ?_)
  · have hf := ev_it h1 hf
    refine ev_blk hX lkok_RX6 [(.iconst (-1), 1, 0, 0, (-1))] (by decide +kernel) (g := true) (lv' := [some (.ref l0), some (.int l1), some (.int l2), some (.int ((l1 * (3 : Int32)) + l2))]) (st' := [.int (-1 : Int32)]) (D' := D) (pc' := 29) rfl (rfl) rfl ?_
    exact ev_iret hR ev_sm.rf (Option.some.inj hf) hC (by decide +kernel)
  · have hf := ev_nf h1 hf
    refine ev_blk hX lkok_RX6 [(.iload_n 3, 1, 0, 0, 0), (.aload_n 0, 1, 0, 0, 0), (.getfield 24, 3, 6, 2, 0), (.arraylength, 1, 0, 0, 0)] (by decide +kernel) (g := (sK S l0 == 9) && ((sK S ((sE S) l0 2) == 1) && (true))) (lv' := [some (.ref l0), some (.int l1), some (.int l2), some (.int ((l1 * (3 : Int32)) + l2))]) (st' := [.int (Int32.ofNat ((sL S) ((sE S) l0 2))), .int ((l1 * (3 : Int32)) + l2)]) (D' := D) (pc' := 16) rfl (ev_gk hl0 (ev_gk (ev_tyk hT hl0 rfl rfl) (rfl))) rfl ?_
    refine ev_ic_ge hX (off := 12) 28 (by decide +kernel) (by decide) (fun h2 => ?_) (fun h2 => ?_)
    · have hf := ev_it h2 hf
      refine ev_blk hX lkok_RX6 [(.iconst (-1), 1, 0, 0, (-1))] (by decide +kernel) (g := true) (lv' := [some (.ref l0), some (.int l1), some (.int l2), some (.int ((l1 * (3 : Int32)) + l2))]) (st' := [.int (-1 : Int32)]) (D' := D) (pc' := 29) rfl (rfl) rfl ?_
      exact ev_iret hR ev_sm.rf (Option.some.inj hf) hC (by decide +kernel)
    · have hf := ev_nf h2 hf
      obtain ⟨hg3, hf⟩ := ev_gd_s hf
      refine ev_blk hX lkok_RX6 [(.aload_n 0, 1, 0, 0, 0), (.getfield 24, 3, 6, 2, 0), (.iload_n 3, 1, 0, 0, 0), (.iaload, 1, 0, 0, 0)] (by decide +kernel) (g := (sK S l0 == 9) && ((sK S ((sE S) l0 2) == 1 && ev_in ((l1 * (3 : Int32)) + l2) ((sL S) ((sE S) l0 2))) && (true))) (lv' := [some (.ref l0), some (.int l1), some (.int l2), some (.int ((l1 * (3 : Int32)) + l2))]) (st' := [.int (D ((sE S) l0 2) (((l1 * (3 : Int32)) + l2)).toNatClampNeg)]) (D' := D) (pc' := 25) rfl (ev_gk hl0 (ev_gi (ev_tyk hT hl0 rfl rfl) hg3 (rfl))) rfl ?_
      refine ev_goto hX (off := 4) 29 (by decide +kernel) (by decide) ?_
      exact ev_iret hR ev_sm.rf (Option.some.inj hf) hC (by decide +kernel)
theorem mX6_cell {S : ev_S} {fu : Nat} {r : Int32 × ev_D} (hT : ev_Ty S) {l0 : Nat} {l1 : Int32} {l2 : Int32} {D : ev_D} (hl0 : sK S l0 = 9) (hf : fX6_cell (sL S) (sE S) fu l0 l1 l2 D = some r) : ev_M 0 0 0 yX6_cell cX6_cell 4 (some .int) [.ref l0, .int l1, .int l2] S D S r :=
  ev_met (ini := false) (plainFor_of_name (by decide)) (fun h => by cases h) rfl (Nat.le_of_ble_eq_true rfl) (fun F hR => tX6_cell (S := ev_z S) hR hT ⟨Nat.le_refl 0, Nat.le_refl 0⟩ hl0 hf)
set_option maxHeartbeats 4000000 in
set_option maxRecDepth 100000 in
theorem tX5_happen_15 {S : ev_S} {fu : Nat} {r : Int32 × ev_D} {F : ev_Fr} (hR : ev_R RX5 cX5_happen 3 2 0 0 false none S r F) (hT : ev_Ty S) (hC : sC S ≤ 0 ∧ sA S ≤ 0) : ∀ (n : Nat) (l0 : Nat) (l1 : Int32) (l2 : Int32) (D : ev_D), sK S l0 = 8 → fX5_happen_15 (sL S) (sE S) fu n l0 l1 l2 D = some r → F S D 15 [some (.ref l0), some (.int l1), some (.int l2)] [] := by
  have hX := hR.X
  intro n
  induction n with
  | zero =>
    intro l0 l1 l2 D hl0 hf
    rw [fX5_happen_15] at hf
    cases hf
  | succ n ih =>
    intro l0 l1 l2 D hl0 hf
    rw [fX5_happen_15] at hf
    refine ev_blk hX lkok_RX5 [(.iload_n 2, 1, 0, 0, 0), (.aload_n 0, 1, 0, 0, 0), (.getfield 25, 3, 5, 2, 0), (.getfield 134, 3, 7, 2, 0), (.getfield 138, 3, 6, 0, 0)] (by decide +kernel) (g := (sK S l0 == 8) && ((sK S ((sE S) l0 2) == 10) && ((sK S ((sE S) ((sE S) l0 2) 2) == 9) && (true)))) (lv' := [some (.ref l0), some (.int l1), some (.int l2)]) (st' := [.int (D ((sE S) ((sE S) l0 2) 2) 0), .int l2]) (D' := D) (pc' := 26) rfl (ev_gk hl0 (ev_gk (ev_tyk hT hl0 rfl rfl) (ev_gk (ev_tyk hT (ev_tyk hT hl0 rfl rfl) rfl rfl) (rfl)))) rfl ?_
    refine ev_ic_ge hX (off := 53) 79 (by decide +kernel) (by decide) (fun h1 => ?_) (fun h1 => ?_)
    · have hf := ev_it h1 hf
      exact ev_vret hR ev_sm.rf (Option.some.inj hf) hC (by decide +kernel)
    · have hf := ev_nf h1 hf
      refine ev_blk hX lkok_RX5 [(.aload_n 0, 1, 0, 0, 0), (.getfield 25, 3, 5, 2, 0), (.getfield 134, 3, 7, 2, 0), (.iload_n 2, 1, 0, 0, 0), (.iconst 0, 1, 0, 0, 0)] (by decide +kernel) (g := (sK S l0 == 8) && ((sK S ((sE S) l0 2) == 10) && (true))) (lv' := [some (.ref l0), some (.int l1), some (.int l2)]) (st' := [.int (0 : Int32), .int l2, .ref ((sE S) ((sE S) l0 2) 2)]) (D' := D) (pc' := 38) rfl (ev_gk hl0 (ev_gk (ev_tyk hT hl0 rfl rfl) (rfl))) rfl ?_
      obtain ⟨v2, D2, hc2, hf⟩ := ev_bd_s hf
      refine ev_callV hX YX6_cell ml_RX5_143 (mX6_cell hT (ev_tyk hT (ev_tyk hT hl0 rfl rfl) rfl rfl) hc2) (vs := [.int l2, .int (0 : Int32)]) (st := []) (by decide) 6 (ev_tyk hT (ev_tyk hT hl0 rfl rfl) rfl rfl) rfl rfl rfl (by decide +kernel) hC ?_
      show F S D2 41 [some (.ref l0), some (.int l1), some (.int l2)] [.int v2]
      refine ev_blk hX lkok_RX5 [(.iload_n 1, 1, 0, 0, 0)] (by decide +kernel) (g := true) (lv' := [some (.ref l0), some (.int l1), some (.int l2)]) (st' := [.int l1, .int v2]) (D' := D2) (pc' := 42) rfl (rfl) rfl ?_
      refine ev_ic_ne hX (off := 31) 73 (by decide +kernel) (by decide) (fun h3 => ?_) (fun h3 => ?_)
      · have hf := ev_nf h3 hf
        refine ev_blk hX lkok_RX5 [(.iinc 2 1, 3, 0, 0, 1)] (by decide +kernel) (g := true) (lv' := [some (.ref l0), some (.int l1), some (.int (l2 + (1 : Int32)))]) (st' := []) (D' := D2) (pc' := 76) rfl (rfl) rfl ?_
        refine ev_goto hX (off := (-61)) 15 (by decide +kernel) (by decide) ?_
        exact ev_weak hX (ev_le_eq (ev_le_eq (ev_le_eq ev_le_nil))) (ih _ _ _ _ hl0 hf)
      · have hf := ev_it h3 hf
        refine ev_blk hX lkok_RX5 [(.aload_n 0, 1, 0, 0, 0), (.aload_n 0, 1, 0, 0, 0), (.getfield 25, 3, 5, 2, 0), (.getfield 134, 3, 7, 2, 0), (.iload_n 2, 1, 0, 0, 0), (.iconst 1, 1, 0, 0, 1)] (by decide +kernel) (g := (sK S l0 == 8) && ((sK S ((sE S) l0 2) == 10) && (true))) (lv' := [some (.ref l0), some (.int l1), some (.int l2)]) (st' := [.int (1 : Int32), .int l2, .ref ((sE S) ((sE S) l0 2) 2), .ref l0]) (D' := D2) (pc' := 55) rfl (ev_gk hl0 (ev_gk (ev_tyk hT hl0 rfl rfl) (rfl))) rfl ?_
        obtain ⟨v4, D4, hc4, hf⟩ := ev_bd_s hf
        refine ev_callV hX YX6_cell ml_RX5_143 (mX6_cell hT (ev_tyk hT (ev_tyk hT hl0 rfl rfl) rfl rfl) hc4) (vs := [.int l2, .int (1 : Int32)]) (st := [.ref l0]) (by decide) 6 (ev_tyk hT (ev_tyk hT hl0 rfl rfl) rfl rfl) rfl rfl rfl (by decide +kernel) hC ?_
        show F S D4 58 [some (.ref l0), some (.int l1), some (.int l2)] [.int v4, .ref l0]
        refine ev_blk hX lkok_RX5 [(.aload_n 0, 1, 0, 0, 0), (.getfield 25, 3, 5, 2, 0), (.getfield 134, 3, 7, 2, 0), (.iload_n 2, 1, 0, 0, 0), (.iconst 2, 1, 0, 0, 2)] (by decide +kernel) (g := (sK S l0 == 8) && ((sK S ((sE S) l0 2) == 10) && (true))) (lv' := [some (.ref l0), some (.int l1), some (.int l2)]) (st' := [.int (2 : Int32), .int l2, .ref ((sE S) ((sE S) l0 2) 2), .int v4, .ref l0]) (D' := D4) (pc' := 67) rfl (ev_gk hl0 (ev_gk (ev_tyk hT hl0 rfl rfl) (rfl))) rfl ?_
        obtain ⟨v5, D5, hc5, hf⟩ := ev_bd_s hf
        refine ev_callV hX YX6_cell ml_RX5_143 (mX6_cell hT (ev_tyk hT (ev_tyk hT hl0 rfl rfl) rfl rfl) hc5) (vs := [.int l2, .int (2 : Int32)]) (st := [.int v4, .ref l0]) (by decide) 6 (ev_tyk hT (ev_tyk hT hl0 rfl rfl) rfl rfl) rfl rfl rfl (by decide +kernel) hC ?_
        show F S D5 70 [some (.ref l0), some (.int l1), some (.int l2)] [.int v5, .int v4, .ref l0]
        obtain ⟨v6, D6, hc6, hf⟩ := ev_bd_s hf
        refine ev_callV hX YX5_happenOne ml_RX5_146 (mX5_happenOne hT hl0 hc6) (vs := [.int v4, .int v5]) (st := []) (by decide) 5 hl0 rfl rfl rfl (by decide +kernel) hC ?_
        show F S D6 73 [some (.ref l0), some (.int l1), some (.int l2)] []
        refine ev_blk hX lkok_RX5 [(.iinc 2 1, 3, 0, 0, 1)] (by decide +kernel) (g := true) (lv' := [some (.ref l0), some (.int l1), some (.int (l2 + (1 : Int32)))]) (st' := []) (D' := D6) (pc' := 76) rfl (rfl) rfl ?_
        refine ev_goto hX (off := (-61)) 15 (by decide +kernel) (by decide) ?_
        exact ev_weak hX (ev_le_eq (ev_le_eq (ev_le_eq ev_le_nil))) (ih _ _ _ _ hl0 hf)
set_option maxHeartbeats 4000000 in
set_option maxRecDepth 100000 in
theorem tX5_happen {S : ev_S} {fu : Nat} {r : Int32 × ev_D} {F : ev_Fr} (hR : ev_R RX5 cX5_happen 3 2 0 0 false none S r F) (hT : ev_Ty S) (hC : sC S ≤ 0 ∧ sA S ≤ 0) {l0 : Nat} {D : ev_D} (hl0 : sK S l0 = 8) (hf : fX5_happen (sL S) (sE S) fu l0 D = some r) : F S D 0 [some (.ref l0), none, none] [] := by
  have hX := hR.X
  unfold fX5_happen at hf
  refine ev_blk hX lkok_RX5 [(.aload_n 0, 1, 0, 0, 0), (.getfield 17, 3, 5, 0, 0), (.getfield 88, 3, 9, 4, 0), (.bipush 24, 2, 0, 0, 24)] (by decide +kernel) (g := (sK S l0 == 8) && ((sK S ((sE S) l0 0) == 12) && (true))) (lv' := [some (.ref l0), none, none]) (st' := [.int (24 : Int32), .int (D ((sE S) l0 0) 4)]) (D' := D) (pc' := 9) rfl (ev_gk hl0 (ev_gk (ev_tyk hT hl0 rfl rfl) (rfl))) rfl ?_
  obtain ⟨v7, D7, hc7, hf⟩ := ev_bd_s hf
  refine ev_callS hX YJ9_floorMod ml_RX5_91 (mJ9_floorMod hT  hc7) (vs := [.int (D ((sE S) l0 0) 4), .int (24 : Int32)]) (st := []) (by decide) rfl rfl (by decide +kernel) hC ?_
  show F S D7 12 [some (.ref l0), none, none] [.int v7]
  refine ev_blk hX lkok_RX5 [(.istore_n 1, 1, 0, 0, 0), (.iconst 0, 1, 0, 0, 0), (.istore_n 2, 1, 0, 0, 0)] (by decide +kernel) (g := true) (lv' := [some (.ref l0), some (.int v7), some (.int (0 : Int32))]) (st' := []) (D' := D7) (pc' := 15) rfl (rfl) rfl ?_
  exact ev_weak hX (ev_le_eq (ev_le_eq (ev_le_eq ev_le_nil))) (tX5_happen_15 hR hT hC   fu _ _ _ _ hl0 hf)
theorem mX5_happen {S : ev_S} {fu : Nat} {r : Int32 × ev_D} (hT : ev_Ty S) {l0 : Nat} {D : ev_D} (hl0 : sK S l0 = 8) (hf : fX5_happen (sL S) (sE S) fu l0 D = some r) : ev_M 2 0 0 yX5_happen cX5_happen 3 none [.ref l0] S D S r :=
  ev_met (ini := false) (plainFor_of_name (by decide)) (fun h => by cases h) rfl (Nat.le_of_ble_eq_true rfl) (fun F hR => tX5_happen (S := ev_z S) hR hT ⟨Nat.le_refl 0, Nat.le_refl 0⟩ hl0 hf)
set_option maxHeartbeats 4000000 in
set_option maxRecDepth 100000 in
theorem tX7_feltBy_4 {S : ev_S} {fu : Nat} {r : Int32 × ev_D} {F : ev_Fr} (hR : ev_R RX7 cX7_feltBy 4 1 0 0 false (some .int) S r F) (hT : ev_Ty S) (hC : sC S ≤ 0 ∧ sA S ≤ 0) : ∀ (n : Nat) (l0 : Nat) (l1 : Int32) (l2 : Int32) (l3 : Int32) (D : ev_D), sK S l0 = 10 → fX7_feltBy_4 (sL S) (sE S) fu n l0 l1 l2 l3 D = some r → F S D 4 [some (.ref l0), some (.int l1), some (.int l2), some (.int l3)] [] := by
  have hX := hR.X
  intro n
  induction n with
  | zero =>
    intro l0 l1 l2 l3 D hl0 hf
    rw [fX7_feltBy_4] at hf
    cases hf
  | succ n ih =>
    intro l0 l1 l2 l3 D hl0 hf
    rw [fX7_feltBy_4] at hf
    refine ev_blk hX lkok_RX7 [(.iload_n 3, 1, 0, 0, 0), (.aload_n 0, 1, 0, 0, 0), (.getfield 23, 3, 7, 1, 0), (.getfield 40, 3, 6, 0, 0)] (by decide +kernel) (g := (sK S l0 == 10) && ((sK S ((sE S) l0 1) == 9) && (true))) (lv' := [some (.ref l0), some (.int l1), some (.int l2), some (.int l3)]) (st' := [.int (D ((sE S) l0 1) 0), .int l3]) (D' := D) (pc' := 12) rfl (ev_gk hl0 (ev_gk (ev_tyk hT hl0 rfl rfl) (rfl))) rfl ?_
    refine ev_ic_ge hX (off := 36) 48 (by decide +kernel) (by decide) (fun h1 => ?_) (fun h1 => ?_)
    · have hf := ev_it h1 hf
      refine ev_blk hX lkok_RX7 [(.iload_n 2, 1, 0, 0, 0)] (by decide +kernel) (g := true) (lv' := [some (.ref l0), some (.int l1), some (.int l2), some (.int l3)]) (st' := [.int l2]) (D' := D) (pc' := 49) rfl (rfl) rfl ?_
      exact ev_iret hR ev_sm.rf (Option.some.inj hf) hC (by decide +kernel)
    · have hf := ev_nf h1 hf
      refine ev_blk hX lkok_RX7 [(.aload_n 0, 1, 0, 0, 0), (.getfield 23, 3, 7, 1, 0), (.iload_n 3, 1, 0, 0, 0), (.iconst 0, 1, 0, 0, 0)] (by decide +kernel) (g := (sK S l0 == 10) && (true)) (lv' := [some (.ref l0), some (.int l1), some (.int l2), some (.int l3)]) (st' := [.int (0 : Int32), .int l3, .ref ((sE S) l0 1)]) (D' := D) (pc' := 21) rfl (ev_gk hl0 (rfl)) rfl ?_
      obtain ⟨v2, D2, hc2, hf⟩ := ev_bd_s hf
      refine ev_callV hX YX6_cell ml_RX7_44 (mX6_cell hT (ev_tyk hT hl0 rfl rfl) hc2) (vs := [.int l3, .int (0 : Int32)]) (st := []) (by decide) 6 (ev_tyk hT hl0 rfl rfl) rfl rfl rfl (by decide +kernel) hC ?_
      show F S D2 24 [some (.ref l0), some (.int l1), some (.int l2), some (.int l3)] [.int v2]
      refine ev_blk hX lkok_RX7 [(.iload_n 1, 1, 0, 0, 0)] (by decide +kernel) (g := true) (lv' := [some (.ref l0), some (.int l1), some (.int l2), some (.int l3)]) (st' := [.int l1, .int v2]) (D' := D2) (pc' := 25) rfl (rfl) rfl ?_
      refine ev_ic_ne hX (off := 17) 42 (by decide +kernel) (by decide) (fun h3 => ?_) (fun h3 => ?_)
      · have hf := ev_nf h3 hf
        refine ev_blk hX lkok_RX7 [(.iinc 3 1, 3, 0, 0, 1)] (by decide +kernel) (g := true) (lv' := [some (.ref l0), some (.int l1), some (.int l2), some (.int (l3 + (1 : Int32)))]) (st' := []) (D' := D2) (pc' := 45) rfl (rfl) rfl ?_
        refine ev_goto hX (off := (-41)) 4 (by decide +kernel) (by decide) ?_
        exact ev_weak hX (ev_le_eq (ev_le_eq (ev_le_eq (ev_le_eq ev_le_nil)))) (ih _ _ _ _ _ hl0 hf)
      · have hf := ev_it h3 hf
        refine ev_blk hX lkok_RX7 [(.iload_n 2, 1, 0, 0, 0), (.iconst 1, 1, 0, 0, 1), (.aload_n 0, 1, 0, 0, 0), (.getfield 23, 3, 7, 1, 0), (.iload_n 3, 1, 0, 0, 0), (.iconst 1, 1, 0, 0, 1)] (by decide +kernel) (g := (sK S l0 == 10) && (true)) (lv' := [some (.ref l0), some (.int l1), some (.int l2), some (.int l3)]) (st' := [.int (1 : Int32), .int l3, .ref ((sE S) l0 1), .int (1 : Int32), .int l2]) (D' := D2) (pc' := 36) rfl (ev_gk hl0 (rfl)) rfl ?_
        obtain ⟨v4, D4, hc4, hf⟩ := ev_bd_s hf
        refine ev_callV hX YX6_cell ml_RX7_44 (mX6_cell hT (ev_tyk hT hl0 rfl rfl) hc4) (vs := [.int l3, .int (1 : Int32)]) (st := [.int (1 : Int32), .int l2]) (by decide) 6 (ev_tyk hT hl0 rfl rfl) rfl rfl rfl (by decide +kernel) hC ?_
        show F S D4 39 [some (.ref l0), some (.int l1), some (.int l2), some (.int l3)] [.int v4, .int (1 : Int32), .int l2]
        refine ev_blk hX lkok_RX7 [(.ishl, 1, 0, 0, 0), (.ior, 1, 0, 0, 0), (.istore_n 2, 1, 0, 0, 0), (.iinc 3 1, 3, 0, 0, 1)] (by decide +kernel) (g := true) (lv' := [some (.ref l0), some (.int l1), some (.int (l2 ||| ((1 : Int32) <<< (v4 &&& 31)))), some (.int (l3 + (1 : Int32)))]) (st' := []) (D' := D4) (pc' := 45) rfl (rfl) rfl ?_
        refine ev_goto hX (off := (-41)) 4 (by decide +kernel) (by decide) ?_
        exact ev_weak hX (ev_le_eq (ev_le_eq (ev_le_eq (ev_le_eq ev_le_nil)))) (ih _ _ _ _ _ hl0 hf)
set_option maxHeartbeats 4000000 in
set_option maxRecDepth 100000 in
theorem tX7_feltBy {S : ev_S} {fu : Nat} {r : Int32 × ev_D} {F : ev_Fr} (hR : ev_R RX7 cX7_feltBy 4 1 0 0 false (some .int) S r F) (hT : ev_Ty S) (hC : sC S ≤ 0 ∧ sA S ≤ 0) {l0 : Nat} {l1 : Int32} {D : ev_D} (hl0 : sK S l0 = 10) (hf : fX7_feltBy (sL S) (sE S) fu l0 l1 D = some r) : F S D 0 [some (.ref l0), some (.int l1), none, none] [] := by
  have hX := hR.X
  unfold fX7_feltBy at hf
  refine ev_blk hX lkok_RX7 [(.iconst 0, 1, 0, 0, 0), (.istore_n 2, 1, 0, 0, 0), (.iconst 0, 1, 0, 0, 0), (.istore_n 3, 1, 0, 0, 0)] (by decide +kernel) (g := true) (lv' := [some (.ref l0), some (.int l1), some (.int (0 : Int32)), some (.int (0 : Int32))]) (st' := []) (D' := D) (pc' := 4) rfl (rfl) rfl ?_
  exact ev_weak hX (ev_le_eq (ev_le_eq (ev_le_eq (ev_le_eq ev_le_nil)))) (tX7_feltBy_4 hR hT hC   fu _ _ _ _ _ hl0 hf)
theorem mX7_feltBy {S : ev_S} {fu : Nat} {r : Int32 × ev_D} (hT : ev_Ty S) {l0 : Nat} {l1 : Int32} {D : ev_D} (hl0 : sK S l0 = 10) (hf : fX7_feltBy (sL S) (sE S) fu l0 l1 D = some r) : ev_M 1 0 0 yX7_feltBy cX7_feltBy 4 (some .int) [.ref l0, .int l1] S D S r :=
  ev_met (ini := false) (plainFor_of_name (by decide)) (fun h => by cases h) rfl (Nat.le_of_ble_eq_true rfl) (fun F hR => tX7_feltBy (S := ev_z S) hR hT ⟨Nat.le_refl 0, Nat.le_refl 0⟩ hl0 hf)
set_option maxHeartbeats 4000000 in
set_option maxRecDepth 100000 in
theorem tX9_draw {S : ev_S} {fu : Nat} {r : Int32 × ev_D} {F : ev_Fr} (hR : ev_R RX9 cX9_draw 2 0 0 0 false (some .int) S r F) (hT : ev_Ty S) (hC : sC S ≤ 0 ∧ sA S ≤ 0) {l0 : Nat} {l1 : Int32} {D : ev_D} (hl0 : sK S l0 = 12) (hf : fX9_draw (sL S) (sE S) fu l0 l1 D = some r) : F S D 0 [some (.ref l0), some (.int l1)] [] := by
  have hX := hR.X
  unfold fX9_draw at hf
  refine ev_blk hX lkok_RX9 [(.aload_n 0, 1, 0, 0, 0), (.aload_n 0, 1, 0, 0, 0), (.getfield 9, 3, 9, 0, 0), (.ldc 77, 2, 0, 0, 1664525), (.imul, 1, 0, 0, 0), (.ldc 78, 2, 0, 0, 1013904223), (.iadd, 1, 0, 0, 0), (.putfield 9, 3, 9, 0, 0), (.iload_n 1, 1, 0, 0, 0)] (by decide +kernel) (g := (sK S l0 == 12) && ((sK S l0 == 12) && (true))) (lv' := [some (.ref l0), some (.int l1)]) (st' := [.int l1]) (D' := (ev_up D l0 0 (((D l0 0) * (1664525 : Int32)) + (1013904223 : Int32)))) (pc' := 15) rfl (ev_gk hl0 (ev_gk hl0 (rfl))) rfl ?_
  refine ev_if_le hX (off := 15) 30 (by decide +kernel) (by decide) (fun h1 => ?_) (fun h1 => ?_)
  · have hf := ev_it h1 hf
    refine ev_blk hX lkok_RX9 [(.iconst 0, 1, 0, 0, 0)] (by decide +kernel) (g := true) (lv' := [some (.ref l0), some (.int l1)]) (st' := [.int (0 : Int32)]) (D' := (ev_up D l0 0 (((D l0 0) * (1664525 : Int32)) + (1013904223 : Int32)))) (pc' := 31) rfl (rfl) rfl ?_
    exact ev_iret hR ev_sm.rf (Option.some.inj hf) hC (by decide +kernel)
  · have hf := ev_nf h1 hf
    obtain ⟨hg2, hf⟩ := ev_gd_s hf
    refine ev_blk hX lkok_RX9 [(.aload_n 0, 1, 0, 0, 0), (.getfield 9, 3, 9, 0, 0), (.bipush 8, 2, 0, 0, 8), (.iushr, 1, 0, 0, 0), (.iload_n 1, 1, 0, 0, 0), (.irem, 1, 0, 0, 0)] (by decide +kernel) (g := (sK S l0 == 12) && ((!(decide (l1 = 0))) && (true))) (lv' := [some (.ref l0), some (.int l1)]) (st' := [.int (((((ev_up D l0 0 (((D l0 0) * (1664525 : Int32)) + (1013904223 : Int32))) l0 0)).toUInt32 >>> (((8 : Int32)).toUInt32 &&& Int32.toUInt32 31)).toInt32 - ((((ev_up D l0 0 (((D l0 0) * (1664525 : Int32)) + (1013904223 : Int32))) l0 0)).toUInt32 >>> (((8 : Int32)).toUInt32 &&& Int32.toUInt32 31)).toInt32 / l1 * l1)]) (D' := (ev_up D l0 0 (((D l0 0) * (1664525 : Int32)) + (1013904223 : Int32)))) (pc' := 27) rfl (ev_gk hl0 (ev_g2 hg2 (rfl))) rfl ?_
    refine ev_goto hX (off := 4) 31 (by decide +kernel) (by decide) ?_
    exact ev_iret hR ev_sm.rf (Option.some.inj hf) hC (by decide +kernel)
theorem mX9_draw {S : ev_S} {fu : Nat} {r : Int32 × ev_D} (hT : ev_Ty S) {l0 : Nat} {l1 : Int32} {D : ev_D} (hl0 : sK S l0 = 12) (hf : fX9_draw (sL S) (sE S) fu l0 l1 D = some r) : ev_M 0 0 0 yX9_draw cX9_draw 2 (some .int) [.ref l0, .int l1] S D S r :=
  ev_met (ini := false) (plainFor_of_name (by decide)) (fun h => by cases h) rfl (Nat.le_of_ble_eq_true rfl) (fun F hR => tX9_draw (S := ev_z S) hR hT ⟨Nat.le_refl 0, Nat.le_refl 0⟩ hl0 hf)
set_option maxHeartbeats 4000000 in
set_option maxRecDepth 100000 in
theorem tJ6_bitCount_41 {S : ev_S} {fu : Nat} {r : Int32 × ev_D} {F : ev_Fr} (hR : ev_R RJ6 cJ6_bitCount_0f7a4 1 0 0 0 false (some .int) S r F) (hT : ev_Ty S) (hC : sC S ≤ 0 ∧ sA S ≤ 0) {l0 : Int32} {D : ev_D}  (hf : fJ6_bitCount_41 (sL S) (sE S) fu l0 D = some r) : F S D 41 [some (.int l0)] [] := by
  have hX := hR.X
  unfold fJ6_bitCount_41 at hf
  refine ev_blk hX lkok_RJ6 [(.iload_n 0, 1, 0, 0, 0), (.iload_n 0, 1, 0, 0, 0), (.bipush 16, 2, 0, 0, 16), (.iushr, 1, 0, 0, 0), (.iadd, 1, 0, 0, 0), (.istore_n 0, 1, 0, 0, 0), (.iload_n 0, 1, 0, 0, 0), (.bipush 63, 2, 0, 0, 63), (.iand, 1, 0, 0, 0)] (by decide +kernel) (g := true) (lv' := [some (.int (l0 + ((l0).toUInt32 >>> (((16 : Int32)).toUInt32 &&& Int32.toUInt32 31)).toInt32))]) (st' := [.int ((l0 + ((l0).toUInt32 >>> (((16 : Int32)).toUInt32 &&& Int32.toUInt32 31)).toInt32) &&& (63 : Int32))]) (D' := D) (pc' := 52) rfl (rfl) rfl ?_
  exact ev_iret hR ev_sm.rf (Option.some.inj hf) hC (by decide +kernel)
set_option maxHeartbeats 4000000 in
set_option maxRecDepth 100000 in
theorem tJ6_bitCount_24 {S : ev_S} {fu : Nat} {r : Int32 × ev_D} {F : ev_Fr} (hR : ev_R RJ6 cJ6_bitCount_0f7a4 1 0 0 0 false (some .int) S r F) (hT : ev_Ty S) (hC : sC S ≤ 0 ∧ sA S ≤ 0) {l0 : Int32} {D : ev_D}  (hf : fJ6_bitCount_24 (sL S) (sE S) fu l0 D = some r) : F S D 24 [some (.int l0)] [] := by
  have hX := hR.X
  unfold fJ6_bitCount_24 at hf
  refine ev_blk hX lkok_RJ6 [(.iload_n 0, 1, 0, 0, 0), (.iload_n 0, 1, 0, 0, 0), (.iconst 4, 1, 0, 0, 4), (.iushr, 1, 0, 0, 0), (.iadd, 1, 0, 0, 0), (.ldc_w 267, 3, 0, 0, 252645135), (.iand, 1, 0, 0, 0), (.istore_n 0, 1, 0, 0, 0), (.iload_n 0, 1, 0, 0, 0), (.iload_n 0, 1, 0, 0, 0), (.bipush 8, 2, 0, 0, 8), (.iushr, 1, 0, 0, 0), (.iadd, 1, 0, 0, 0), (.istore_n 0, 1, 0, 0, 0)] (by decide +kernel) (g := true) (lv' := [some (.int (((l0 + ((l0).toUInt32 >>> (((4 : Int32)).toUInt32 &&& Int32.toUInt32 31)).toInt32) &&& (252645135 : Int32)) + ((((l0 + ((l0).toUInt32 >>> (((4 : Int32)).toUInt32 &&& Int32.toUInt32 31)).toInt32) &&& (252645135 : Int32))).toUInt32 >>> (((8 : Int32)).toUInt32 &&& Int32.toUInt32 31)).toInt32))]) (st' := []) (D' := D) (pc' := 41) rfl (rfl) rfl ?_
  exact ev_weak hX (ev_le_eq ev_le_nil) (tJ6_bitCount_41 hR hT hC    hf)
set_option maxHeartbeats 4000000 in
set_option maxRecDepth 100000 in
theorem tJ6_bitCount {S : ev_S} {fu : Nat} {r : Int32 × ev_D} {F : ev_Fr} (hR : ev_R RJ6 cJ6_bitCount_0f7a4 1 0 0 0 false (some .int) S r F) (hT : ev_Ty S) (hC : sC S ≤ 0 ∧ sA S ≤ 0) {l0 : Int32} {D : ev_D}  (hf : fJ6_bitCount (sL S) (sE S) fu l0 D = some r) : F S D 0 [some (.int l0)] [] := by
  have hX := hR.X
  unfold fJ6_bitCount at hf
  refine ev_blk hX lkok_RJ6 [(.iload_n 0, 1, 0, 0, 0), (.iload_n 0, 1, 0, 0, 0), (.iconst 1, 1, 0, 0, 1), (.iushr, 1, 0, 0, 0), (.ldc_w 265, 3, 0, 0, 1431655765), (.iand, 1, 0, 0, 0), (.isub, 1, 0, 0, 0), (.istore_n 0, 1, 0, 0, 0), (.iload_n 0, 1, 0, 0, 0), (.ldc_w 266, 3, 0, 0, 858993459), (.iand, 1, 0, 0, 0), (.iload_n 0, 1, 0, 0, 0), (.iconst 2, 1, 0, 0, 2), (.iushr, 1, 0, 0, 0), (.ldc_w 266, 3, 0, 0, 858993459), (.iand, 1, 0, 0, 0), (.iadd, 1, 0, 0, 0), (.istore_n 0, 1, 0, 0, 0)] (by decide +kernel) (g := true) (lv' := [some (.int (((l0 - (((l0).toUInt32 >>> (((1 : Int32)).toUInt32 &&& Int32.toUInt32 31)).toInt32 &&& (1431655765 : Int32))) &&& (858993459 : Int32)) + ((((l0 - (((l0).toUInt32 >>> (((1 : Int32)).toUInt32 &&& Int32.toUInt32 31)).toInt32 &&& (1431655765 : Int32)))).toUInt32 >>> (((2 : Int32)).toUInt32 &&& Int32.toUInt32 31)).toInt32 &&& (858993459 : Int32))))]) (st' := []) (D' := D) (pc' := 24) rfl (rfl) rfl ?_
  exact ev_weak hX (ev_le_eq ev_le_nil) (tJ6_bitCount_24 hR hT hC    hf)
theorem mJ6_bitCount {S : ev_S} {fu : Nat} {r : Int32 × ev_D} (hT : ev_Ty S) {l0 : Int32} {D : ev_D}  (hf : fJ6_bitCount (sL S) (sE S) fu l0 D = some r) : ev_M 0 0 0 yJ6_bitCount_0f7a4 cJ6_bitCount_0f7a4 1 (some .int) [.int l0] S D S r :=
  ev_met (ini := false) (plainFor_of_name (by decide)) (fun h => by cases h) rfl (Nat.le_of_ble_eq_true rfl) (fun F hR => tJ6_bitCount (S := ev_z S) hR hT ⟨Nat.le_refl 0, Nat.le_refl 0⟩  hf)
set_option maxHeartbeats 4000000 in
set_option maxRecDepth 100000 in
theorem tX5_pullAll_81 {S : ev_S} {fu : Nat} {r : Int32 × ev_D} {F : ev_Fr} (hR : ev_R RX5 cX5_pullAll 6 5 0 0 false (some .int) S r F) (hT : ev_Ty S) (hC : sC S ≤ 0 ∧ sA S ≤ 0) {k4 : Nat → Int32 → Int32 → Int32 → ev_D → ev_Op} (hk4 : ∀ (l0 : Nat) (l1 : Int32) (l2 : Int32) (l3 : Int32) (D : ev_D), sK S l0 = 8 → k4 l0 l1 l2 l3 D = some r → F S D 4 [some (.ref l0), some (.int l1), some (.int l2), some (.int l3), none, none] []) {l0 : Nat} {l1 : Int32} {l2 : Int32} {l3 : Int32} {l4 : Int32} {D : ev_D} (hl0 : sK S l0 = 8) (hf : fX5_pullAll_81 (sL S) (sE S) fu k4 l0 l1 l2 l3 l4 D = some r) : F S D 81 [some (.ref l0), some (.int l1), some (.int l2), some (.int l3), some (.int l4), none] [] := by
  have hX := hR.X
  unfold fX5_pullAll_81 at hf
  refine ev_blk hX lkok_RX5 [(.aload_n 0, 1, 0, 0, 0), (.iload_n 3, 1, 0, 0, 0), (.iload 4, 2, 0, 0, 0)] (by decide +kernel) (g := true) (lv' := [some (.ref l0), some (.int l1), some (.int l2), some (.int l3), some (.int l4), none]) (st' := [.int l4, .int l3, .ref l0]) (D' := D) (pc' := 85) rfl (rfl) rfl ?_
  obtain ⟨v1, D1, hc1, hf⟩ := ev_bd_s hf
  refine ev_callV hX YX5_strike ml_RX5_161 (mX5_strike hT hl0 hc1) (vs := [.int l3, .int l4]) (st := []) (by decide) 5 hl0 rfl rfl rfl (by decide +kernel) hC ?_
  show F S D1 88 [some (.ref l0), some (.int l1), some (.int l2), some (.int l3), some (.int l4), none] [.int v1]
  refine ev_blk hX lkok_RX5 [(.pop, 1, 0, 0, 0), (.iload_n 2, 1, 0, 0, 0), (.iconst 1, 1, 0, 0, 1), (.iload_n 3, 1, 0, 0, 0), (.ishl, 1, 0, 0, 0), (.ior, 1, 0, 0, 0), (.istore_n 2, 1, 0, 0, 0), (.iinc 3 1, 3, 0, 0, 1)] (by decide +kernel) (g := true) (lv' := [some (.ref l0), some (.int l1), some (.int (l2 ||| ((1 : Int32) <<< (l3 &&& 31)))), some (.int (l3 + (1 : Int32))), some (.int l4), none]) (st' := []) (D' := D1) (pc' := 98) rfl (rfl) rfl ?_
  refine ev_goto hX (off := (-94)) 4 (by decide +kernel) (by decide) ?_
  exact ev_weak hX (ev_le_eq (ev_le_eq (ev_le_eq (ev_le_eq (ev_le_no (ev_le_no ev_le_nil)))))) (hk4 _ _ _ _ _ hl0 hf)
set_option maxHeartbeats 4000000 in
set_option maxRecDepth 100000 in
theorem tX5_pullAll_4 {S : ev_S} {fu : Nat} {r : Int32 × ev_D} {F : ev_Fr} (hR : ev_R RX5 cX5_pullAll 6 5 0 0 false (some .int) S r F) (hT : ev_Ty S) (hC : sC S ≤ 0 ∧ sA S ≤ 0) : ∀ (n : Nat) (l0 : Nat) (l1 : Int32) (l2 : Int32) (l3 : Int32) (D : ev_D), sK S l0 = 8 → fX5_pullAll_4 (sL S) (sE S) fu n l0 l1 l2 l3 D = some r → F S D 4 [some (.ref l0), some (.int l1), some (.int l2), some (.int l3), none, none] [] := by
  have hX := hR.X
  intro n
  induction n with
  | zero =>
    intro l0 l1 l2 l3 D hl0 hf
    rw [fX5_pullAll_4] at hf
    cases hf
  | succ n ih =>
    intro l0 l1 l2 l3 D hl0 hf
    rw [fX5_pullAll_4] at hf
    refine ev_blk hX lkok_RX5 [(.iload_n 3, 1, 0, 0, 0), (.aload_n 0, 1, 0, 0, 0), (.getfield 17, 3, 5, 0, 0), (.getfield 128, 3, 9, 5, 0)] (by decide +kernel) (g := (sK S l0 == 8) && ((sK S ((sE S) l0 0) == 12) && (true))) (lv' := [some (.ref l0), some (.int l1), some (.int l2), some (.int l3), none, none]) (st' := [.int (D ((sE S) l0 0) 5), .int l3]) (D' := D) (pc' := 12) rfl (ev_gk hl0 (ev_gk (ev_tyk hT hl0 rfl rfl) (rfl))) rfl ?_
    refine ev_ic_ge hX (off := 89) 101 (by decide +kernel) (by decide) (fun h2 => ?_) (fun h2 => ?_)
    · have hf := ev_it h2 hf
      refine ev_blk hX lkok_RX5 [(.iload_n 2, 1, 0, 0, 0)] (by decide +kernel) (g := true) (lv' := [some (.ref l0), some (.int l1), some (.int l2), some (.int l3), none, none]) (st' := [.int l2]) (D' := D) (pc' := 102) rfl (rfl) rfl ?_
      obtain ⟨v3, D3, hc3, hf⟩ := ev_bd_s hf
      refine ev_callS hX YJ6_bitCount ml_RX5_153 (mJ6_bitCount hT  hc3) (vs := [.int l2]) (st := []) (by decide) rfl rfl (by decide +kernel) hC ?_
      show F S D3 105 [some (.ref l0), some (.int l1), some (.int l2), some (.int l3), none, none] [.int v3]
      exact ev_iret hR ev_sm.rf (Option.some.inj hf) hC (by decide +kernel)
    · have hf := ev_nf h2 hf
      refine ev_blk hX lkok_RX5 [(.aload_n 0, 1, 0, 0, 0), (.getfield 17, 3, 5, 0, 0), (.iload_n 3, 1, 0, 0, 0)] (by decide +kernel) (g := (sK S l0 == 8) && (true)) (lv' := [some (.ref l0), some (.int l1), some (.int l2), some (.int l3), none, none]) (st' := [.int l3, .ref ((sE S) l0 0)]) (D' := D) (pc' := 20) rfl (ev_gk hl0 (rfl)) rfl ?_
      obtain ⟨v4, D4, hc4, hf⟩ := ev_bd_s hf
      refine ev_callV hX YX9_isAwake ml_RX5_96 (mX9_isAwake hT (ev_tyk hT hl0 rfl rfl) hc4) (vs := [.int l3]) (st := []) (by decide) 9 (ev_tyk hT hl0 rfl rfl) rfl rfl rfl (by decide +kernel) hC ?_
      show F S D4 23 [some (.ref l0), some (.int l1), some (.int l2), some (.int l3), none, none] [.int v4]
      refine ev_if_eq hX (off := 72) 95 (by decide +kernel) (by decide) (fun h5 => ?_) (fun h5 => ?_)
      · have hf := ev_it h5 hf
        refine ev_blk hX lkok_RX5 [(.iinc 3 1, 3, 0, 0, 1)] (by decide +kernel) (g := true) (lv' := [some (.ref l0), some (.int l1), some (.int l2), some (.int (l3 + (1 : Int32))), none, none]) (st' := []) (D' := D4) (pc' := 98) rfl (rfl) rfl ?_
        refine ev_goto hX (off := (-94)) 4 (by decide +kernel) (by decide) ?_
        exact ev_weak hX (ev_le_eq (ev_le_eq (ev_le_eq (ev_le_eq (ev_le_no (ev_le_no ev_le_nil)))))) (ih _ _ _ _ _ hl0 hf)
      · have hf := ev_nf h5 hf
        refine ev_blk hX lkok_RX5 [(.aload_n 0, 1, 0, 0, 0), (.getfield 25, 3, 5, 2, 0), (.iload_n 3, 1, 0, 0, 0)] (by decide +kernel) (g := (sK S l0 == 8) && (true)) (lv' := [some (.ref l0), some (.int l1), some (.int l2), some (.int l3), none, none]) (st' := [.int l3, .ref ((sE S) l0 2)]) (D' := D4) (pc' := 31) rfl (ev_gk hl0 (rfl)) rfl ?_
        obtain ⟨v6, D6, hc6, hf⟩ := ev_bd_s hf
        refine ev_callV hX YX7_feltBy ml_RX5_149 (mX7_feltBy hT (ev_tyk hT hl0 rfl rfl) hc6) (vs := [.int l3]) (st := []) (by decide) 7 (ev_tyk hT hl0 rfl rfl) rfl rfl rfl (by decide +kernel) hC ?_
        show F S D6 34 [some (.ref l0), some (.int l1), some (.int l2), some (.int l3), none, none] [.int v6]
        refine ev_blk hX lkok_RX5 [(.iload_n 2, 1, 0, 0, 0), (.iand, 1, 0, 0, 0)] (by decide +kernel) (g := true) (lv' := [some (.ref l0), some (.int l1), some (.int l2), some (.int l3), none, none]) (st' := [.int (v6 &&& l2)]) (D' := D6) (pc' := 36) rfl (rfl) rfl ?_
        obtain ⟨v7, D7, hc7, hf⟩ := ev_bd_s hf
        refine ev_callS hX YJ6_bitCount ml_RX5_153 (mJ6_bitCount hT  hc7) (vs := [.int (v6 &&& l2)]) (st := []) (by decide) rfl rfl (by decide +kernel) hC ?_
        show F S D7 39 [some (.ref l0), some (.int l1), some (.int l2), some (.int l3), none, none] [.int v7]
        refine ev_blk hX lkok_RX5 [(.istore 4, 2, 0, 0, 0), (.aload_n 0, 1, 0, 0, 0), (.iconst 0, 1, 0, 0, 0), (.iload_n 3, 1, 0, 0, 0), (.iload 4, 2, 0, 0, 0)] (by decide +kernel) (g := true) (lv' := [some (.ref l0), some (.int l1), some (.int l2), some (.int l3), some (.int v7), none]) (st' := [.int v7, .int l3, .int (0 : Int32), .ref l0]) (D' := D7) (pc' := 46) rfl (rfl) rfl ?_
        obtain ⟨v8, D8, hc8, hf⟩ := ev_bd_s hf
        refine ev_callV hX YX5_ask ml_RX5_99 (mX5_ask hT hl0 hc8) (vs := [.int (0 : Int32), .int l3, .int v7]) (st := []) (by decide) 5 hl0 rfl rfl rfl (by decide +kernel) hC ?_
        show F S D8 49 [some (.ref l0), some (.int l1), some (.int l2), some (.int l3), some (.int v7), none] [.int v8]
        refine ev_blk hX lkok_RX5 [(.istore 5, 2, 0, 0, 0), (.iload_n 1, 1, 0, 0, 0)] (by decide +kernel) (g := true) (lv' := [some (.ref l0), some (.int l1), some (.int l2), some (.int l3), some (.int v7), some (.int v8)]) (st' := [.int l1]) (D' := D8) (pc' := 52) rfl (rfl) rfl ?_
        refine ev_if_eq hX (off := 21) 73 (by decide +kernel) (by decide) (fun h9 => ?_) (fun h9 => ?_)
        · have hf := ev_it h9 hf
          refine ev_blk hX lkok_RX5 [(.iload 5, 2, 0, 0, 0), (.sipush 500, 3, 0, 0, 500)] (by decide +kernel) (g := true) (lv' := [some (.ref l0), some (.int l1), some (.int l2), some (.int l3), some (.int v7), some (.int v8)]) (st' := [.int (500 : Int32), .int v8]) (D' := D8) (pc' := 78) rfl (rfl) rfl ?_
          refine ev_ic_lt hX (off := 17) 95 (by decide +kernel) (by decide) (fun h10 => ?_) (fun h10 => ?_)
          · have hf := ev_it h10 hf
            refine ev_blk hX lkok_RX5 [(.iinc 3 1, 3, 0, 0, 1)] (by decide +kernel) (g := true) (lv' := [some (.ref l0), some (.int l1), some (.int l2), some (.int (l3 + (1 : Int32))), some (.int v7), some (.int v8)]) (st' := []) (D' := D8) (pc' := 98) rfl (rfl) rfl ?_
            refine ev_goto hX (off := (-94)) 4 (by decide +kernel) (by decide) ?_
            exact ev_weak hX (ev_le_eq (ev_le_eq (ev_le_eq (ev_le_eq (ev_le_no (ev_le_no ev_le_nil)))))) (ih _ _ _ _ _ hl0 hf)
          · have hf := ev_nf h10 hf
            exact ev_weak hX (ev_le_eq (ev_le_eq (ev_le_eq (ev_le_eq (ev_le_eq (ev_le_no ev_le_nil)))))) (tX5_pullAll_81 hR hT hC  ih hl0 hf)
        · have hf := ev_nf h9 hf
          refine ev_blk hX lkok_RX5 [(.aload_n 0, 1, 0, 0, 0), (.getfield 17, 3, 5, 0, 0), (.sipush 1000, 3, 0, 0, 1000)] (by decide +kernel) (g := (sK S l0 == 8) && (true)) (lv' := [some (.ref l0), some (.int l1), some (.int l2), some (.int l3), some (.int v7), some (.int v8)]) (st' := [.int (1000 : Int32), .ref ((sE S) l0 0)]) (D' := D8) (pc' := 62) rfl (ev_gk hl0 (rfl)) rfl ?_
          obtain ⟨v11, D11, hc11, hf⟩ := ev_bd_s hf
          refine ev_callV hX YX9_draw ml_RX5_158 (mX9_draw hT (ev_tyk hT hl0 rfl rfl) hc11) (vs := [.int (1000 : Int32)]) (st := []) (by decide) 9 (ev_tyk hT hl0 rfl rfl) rfl rfl rfl (by decide +kernel) hC ?_
          show F S D11 65 [some (.ref l0), some (.int l1), some (.int l2), some (.int l3), some (.int v7), some (.int v8)] [.int v11]
          refine ev_blk hX lkok_RX5 [(.iload 5, 2, 0, 0, 0)] (by decide +kernel) (g := true) (lv' := [some (.ref l0), some (.int l1), some (.int l2), some (.int l3), some (.int v7), some (.int v8)]) (st' := [.int v8, .int v11]) (D' := D11) (pc' := 67) rfl (rfl) rfl ?_
          refine ev_ic_ge hX (off := 28) 95 (by decide +kernel) (by decide) (fun h12 => ?_) (fun h12 => ?_)
          · have hf := ev_it h12 hf
            refine ev_blk hX lkok_RX5 [(.iinc 3 1, 3, 0, 0, 1)] (by decide +kernel) (g := true) (lv' := [some (.ref l0), some (.int l1), some (.int l2), some (.int (l3 + (1 : Int32))), some (.int v7), some (.int v8)]) (st' := []) (D' := D11) (pc' := 98) rfl (rfl) rfl ?_
            refine ev_goto hX (off := (-94)) 4 (by decide +kernel) (by decide) ?_
            exact ev_weak hX (ev_le_eq (ev_le_eq (ev_le_eq (ev_le_eq (ev_le_no (ev_le_no ev_le_nil)))))) (ih _ _ _ _ _ hl0 hf)
          · have hf := ev_nf h12 hf
            refine ev_goto hX (off := 11) 81 (by decide +kernel) (by decide) ?_
            exact ev_weak hX (ev_le_eq (ev_le_eq (ev_le_eq (ev_le_eq (ev_le_eq (ev_le_no ev_le_nil)))))) (tX5_pullAll_81 hR hT hC  ih hl0 hf)
set_option maxHeartbeats 4000000 in
set_option maxRecDepth 100000 in
theorem tX5_pullAll {S : ev_S} {fu : Nat} {r : Int32 × ev_D} {F : ev_Fr} (hR : ev_R RX5 cX5_pullAll 6 5 0 0 false (some .int) S r F) (hT : ev_Ty S) (hC : sC S ≤ 0 ∧ sA S ≤ 0) {l0 : Nat} {l1 : Int32} {D : ev_D} (hl0 : sK S l0 = 8) (hf : fX5_pullAll (sL S) (sE S) fu l0 l1 D = some r) : F S D 0 [some (.ref l0), some (.int l1), none, none, none, none] [] := by
  have hX := hR.X
  unfold fX5_pullAll at hf
  refine ev_blk hX lkok_RX5 [(.iconst 0, 1, 0, 0, 0), (.istore_n 2, 1, 0, 0, 0), (.iconst 0, 1, 0, 0, 0), (.istore_n 3, 1, 0, 0, 0)] (by decide +kernel) (g := true) (lv' := [some (.ref l0), some (.int l1), some (.int (0 : Int32)), some (.int (0 : Int32)), none, none]) (st' := []) (D' := D) (pc' := 4) rfl (rfl) rfl ?_
  exact ev_weak hX (ev_le_eq (ev_le_eq (ev_le_eq (ev_le_eq (ev_le_no (ev_le_no ev_le_nil)))))) (tX5_pullAll_4 hR hT hC   fu _ _ _ _ _ hl0 hf)
theorem mX5_pullAll {S : ev_S} {fu : Nat} {r : Int32 × ev_D} (hT : ev_Ty S) {l0 : Nat} {l1 : Int32} {D : ev_D} (hl0 : sK S l0 = 8) (hf : fX5_pullAll (sL S) (sE S) fu l0 l1 D = some r) : ev_M 5 0 0 yX5_pullAll cX5_pullAll 6 (some .int) [.ref l0, .int l1] S D S r :=
  ev_met (ini := false) (plainFor_of_name (by decide)) (fun h => by cases h) rfl (Nat.le_of_ble_eq_true rfl) (fun F hR => tX5_pullAll (S := ev_z S) hR hT ⟨Nat.le_refl 0, Nat.le_refl 0⟩ hl0 hf)
set_option maxHeartbeats 4000000 in
set_option maxRecDepth 100000 in
theorem tX5_pass_38 {S : ev_S} {fu : Nat} {r : Int32 × ev_D} {F : ev_Fr} (hR : ev_R RX5 cX5_pass 4 6 0 0 false (some .int) S r F) (hT : ev_Ty S) (hC : sC S ≤ 0 ∧ sA S ≤ 0) : ∀ (n : Nat) (l0 : Nat) (l2 : Int32) (l3 : Int32) (D : ev_D), sK S l0 = 8 → fX5_pass_38 (sL S) (sE S) fu n l0 l2 l3 D = some r → F S D 38 [some (.ref l0), none, some (.int l2), some (.int l3)] [] := by
  have hX := hR.X
  intro n
  induction n with
  | zero =>
    intro l0 l2 l3 D hl0 hf
    rw [fX5_pass_38] at hf
    cases hf
  | succ n ih =>
    intro l0 l2 l3 D hl0 hf
    rw [fX5_pass_38] at hf
    refine ev_blk hX lkok_RX5 [(.iload_n 3, 1, 0, 0, 0), (.aload_n 0, 1, 0, 0, 0), (.getfield 17, 3, 5, 0, 0), (.getfield 128, 3, 9, 5, 0)] (by decide +kernel) (g := (sK S l0 == 8) && ((sK S ((sE S) l0 0) == 12) && (true))) (lv' := [some (.ref l0), none, some (.int l2), some (.int l3)]) (st' := [.int (D ((sE S) l0 0) 5), .int l3]) (D' := D) (pc' := 46) rfl (ev_gk hl0 (ev_gk (ev_tyk hT hl0 rfl rfl) (rfl))) rfl ?_
    refine ev_ic_ge hX (off := 14) 60 (by decide +kernel) (by decide) (fun h1 => ?_) (fun h1 => ?_)
    · have hf := ev_it h1 hf
      refine ev_blk hX lkok_RX5 [(.aload_n 0, 1, 0, 0, 0), (.getfield 17, 3, 5, 0, 0), (.dup, 1, 0, 0, 0), (.getfield 82, 3, 9, 1, 0), (.aload_n 0, 1, 0, 0, 0), (.getfield 17, 3, 5, 0, 0), (.getfield 82, 3, 9, 1, 0), (.bipush 10, 2, 0, 0, 10), (.idiv, 1, 0, 0, 0), (.isub, 1, 0, 0, 0), (.putfield 82, 3, 9, 1, 0), (.aload_n 0, 1, 0, 0, 0), (.getfield 17, 3, 5, 0, 0), (.dup, 1, 0, 0, 0), (.getfield 88, 3, 9, 4, 0), (.iconst 1, 1, 0, 0, 1), (.iadd, 1, 0, 0, 0), (.putfield 88, 3, 9, 4, 0), (.iload_n 2, 1, 0, 0, 0)] (by decide +kernel) (g := (sK S l0 == 8) && ((sK S ((sE S) l0 0) == 12) && ((sK S l0 == 8) && ((sK S ((sE S) l0 0) == 12) && ((!(decide ((10 : Int32) = 0))) && ((sK S ((sE S) l0 0) == 12) && ((sK S l0 == 8) && ((sK S ((sE S) l0 0) == 12) && ((sK S ((sE S) l0 0) == 12) && (true)))))))))) (lv' := [some (.ref l0), none, some (.int l2), some (.int l3)]) (st' := [.int l2]) (D' := (ev_up (ev_up D ((sE S) l0 0) 1 ((D ((sE S) l0 0) 1) - ((D ((sE S) l0 0) 1) / (10 : Int32)))) ((sE S) l0 0) 4 (((ev_up D ((sE S) l0 0) 1 ((D ((sE S) l0 0) 1) - ((D ((sE S) l0 0) 1) / (10 : Int32)))) ((sE S) l0 0) 4) + (1 : Int32)))) (pc' := 96) rfl (ev_gk hl0 (ev_gk (ev_tyk hT hl0 rfl rfl) (ev_gk hl0 (ev_gk (ev_tyk hT hl0 rfl rfl) (ev_g2 rfl (ev_gk (ev_tyk hT hl0 rfl rfl) (ev_gk hl0 (ev_gk (ev_tyk hT hl0 rfl rfl) (ev_gk (ev_tyk hT hl0 rfl rfl) (rfl)))))))))) rfl ?_
      exact ev_iret hR ev_sm.rf (Option.some.inj hf) hC (by decide +kernel)
    · have hf := ev_nf h1 hf
      refine ev_blk hX lkok_RX5 [(.aload_n 0, 1, 0, 0, 0), (.iload_n 3, 1, 0, 0, 0)] (by decide +kernel) (g := true) (lv' := [some (.ref l0), none, some (.int l2), some (.int l3)]) (st' := [.int l3, .ref l0]) (D' := D) (pc' := 51) rfl (rfl) rfl ?_
      obtain ⟨v2, D2, hc2, hf⟩ := ev_bd_s hf
      refine ev_callV hX YX5_grow ml_RX5_131 (mX5_grow hT hl0 hc2) (vs := [.int l3]) (st := []) (by decide) 5 hl0 rfl rfl rfl (by decide +kernel) hC ?_
      show F S D2 54 [some (.ref l0), none, some (.int l2), some (.int l3)] []
      refine ev_blk hX lkok_RX5 [(.iinc 3 1, 3, 0, 0, 1)] (by decide +kernel) (g := true) (lv' := [some (.ref l0), none, some (.int l2), some (.int (l3 + (1 : Int32)))]) (st' := []) (D' := D2) (pc' := 57) rfl (rfl) rfl ?_
      refine ev_goto hX (off := (-19)) 38 (by decide +kernel) (by decide) ?_
      exact ev_weak hX (ev_le_eq (ev_le_no (ev_le_eq (ev_le_eq ev_le_nil)))) (ih _ _ _ _ hl0 hf)
set_option maxHeartbeats 4000000 in
set_option maxRecDepth 100000 in
theorem tX5_pass {S : ev_S} {fu : Nat} {r : Int32 × ev_D} {F : ev_Fr} (hR : ev_R RX5 cX5_pass 4 6 0 0 false (some .int) S r F) (hT : ev_Ty S) (hC : sC S ≤ 0 ∧ sA S ≤ 0) {l0 : Nat} {l1 : Int32} {D : ev_D} (hl0 : sK S l0 = 8) (hf : fX5_pass (sL S) (sE S) fu l0 l1 D = some r) : F S D 0 [some (.ref l0), some (.int l1), none, none] [] := by
  have hX := hR.X
  unfold fX5_pass at hf
  refine ev_blk hX lkok_RX5 [(.aload_n 0, 1, 0, 0, 0)] (by decide +kernel) (g := true) (lv' := [some (.ref l0), some (.int l1), none, none]) (st' := [.ref l0]) (D' := D) (pc' := 1) rfl (rfl) rfl ?_
  obtain ⟨v3, D3, hc3, hf⟩ := ev_bd_s hf
  refine ev_callV hX YX5_happen ml_RX5_118 (mX5_happen hT hl0 hc3) (vs := []) (st := []) (by decide) 5 hl0 rfl rfl rfl (by decide +kernel) hC ?_
  show F S D3 4 [some (.ref l0), some (.int l1), none, none] []
  refine ev_blk hX lkok_RX5 [(.aload_n 0, 1, 0, 0, 0), (.iload_n 1, 1, 0, 0, 0)] (by decide +kernel) (g := true) (lv' := [some (.ref l0), some (.int l1), none, none]) (st' := [.int l1, .ref l0]) (D' := D3) (pc' := 6) rfl (rfl) rfl ?_
  obtain ⟨v4, D4, hc4, hf⟩ := ev_bd_s hf
  refine ev_callV hX YX5_pullAll ml_RX5_121 (mX5_pullAll hT hl0 hc4) (vs := [.int l1]) (st := []) (by decide) 5 hl0 rfl rfl rfl (by decide +kernel) hC ?_
  show F S D4 9 [some (.ref l0), some (.int l1), none, none] [.int v4]
  refine ev_blk hX lkok_RX5 [(.istore_n 2, 1, 0, 0, 0), (.aload_n 0, 1, 0, 0, 0), (.getfield 17, 3, 5, 0, 0), (.iconst 0, 1, 0, 0, 0), (.aload_n 0, 1, 0, 0, 0), (.getfield 17, 3, 5, 0, 0), (.getfield 78, 3, 9, 3, 0), (.aload_n 0, 1, 0, 0, 0), (.iconst 2, 1, 0, 0, 2), (.iconst (-1), 1, 0, 0, (-1)), (.iconst 0, 1, 0, 0, 0)] (by decide +kernel) (g := (sK S l0 == 8) && ((sK S l0 == 8) && ((sK S ((sE S) l0 0) == 12) && (true)))) (lv' := [some (.ref l0), some (.int l1), some (.int v4), none]) (st' := [.int (0 : Int32), .int (-1 : Int32), .int (2 : Int32), .ref l0, .int (D4 ((sE S) l0 0) 3), .int (0 : Int32), .ref ((sE S) l0 0)]) (D' := D4) (pc' := 26) rfl (ev_gk hl0 (ev_gk hl0 (ev_gk (ev_tyk hT hl0 rfl rfl) (rfl)))) rfl ?_
  obtain ⟨v5, D5, hc5, hf⟩ := ev_bd_s hf
  refine ev_callV hX YX5_ask ml_RX5_99 (mX5_ask hT hl0 hc5) (vs := [.int (2 : Int32), .int (-1 : Int32), .int (0 : Int32)]) (st := [.int (D4 ((sE S) l0 0) 3), .int (0 : Int32), .ref ((sE S) l0 0)]) (by decide) 5 hl0 rfl rfl rfl (by decide +kernel) hC ?_
  show F S D5 29 [some (.ref l0), some (.int l1), some (.int v4), none] [.int v5, .int (D4 ((sE S) l0 0) 3), .int (0 : Int32), .ref ((sE S) l0 0)]
  refine ev_blk hX lkok_RX5 [(.isub, 1, 0, 0, 0)] (by decide +kernel) (g := true) (lv' := [some (.ref l0), some (.int l1), some (.int v4), none]) (st' := [.int ((D4 ((sE S) l0 0) 3) - v5), .int (0 : Int32), .ref ((sE S) l0 0)]) (D' := D5) (pc' := 30) rfl (rfl) rfl ?_
  obtain ⟨v6, D6, hc6, hf⟩ := ev_bd_s hf
  refine ev_callS hX YJ9_max ml_RX5_125 (mJ9_max hT  hc6) (vs := [.int (0 : Int32), .int ((D4 ((sE S) l0 0) 3) - v5)]) (st := [.ref ((sE S) l0 0)]) (by decide) rfl rfl (by decide +kernel) hC ?_
  show F S D6 33 [some (.ref l0), some (.int l1), some (.int v4), none] [.int v6, .ref ((sE S) l0 0)]
  refine ev_blk hX lkok_RX5 [(.putfield 78, 3, 9, 3, 0), (.iconst 0, 1, 0, 0, 0), (.istore_n 3, 1, 0, 0, 0)] (by decide +kernel) (g := (sK S ((sE S) l0 0) == 12) && (true)) (lv' := [some (.ref l0), some (.int l1), some (.int v4), some (.int (0 : Int32))]) (st' := []) (D' := (ev_up D6 ((sE S) l0 0) 3 v6)) (pc' := 38) rfl (ev_gk (ev_tyk hT hl0 rfl rfl) (rfl)) rfl ?_
  exact ev_weak hX (ev_le_eq (ev_le_no (ev_le_eq (ev_le_eq ev_le_nil)))) (tX5_pass_38 hR hT hC   fu _ _ _ _ hl0 hf)
theorem mX5_pass {S : ev_S} {fu : Nat} {r : Int32 × ev_D} (hT : ev_Ty S) {l0 : Nat} {l1 : Int32} {D : ev_D} (hl0 : sK S l0 = 8) (hf : fX5_pass (sL S) (sE S) fu l0 l1 D = some r) : ev_M 6 0 0 yX5_pass cX5_pass 4 (some .int) [.ref l0, .int l1] S D S r :=
  ev_met (ini := false) (plainFor_of_name (by decide)) (fun h => by cases h) rfl (Nat.le_of_ble_eq_true rfl) (fun F hR => tX5_pass (S := ev_z S) hR hT ⟨Nat.le_refl 0, Nat.le_refl 0⟩ hl0 hf)
set_option maxHeartbeats 4000000 in
set_option maxRecDepth 100000 in
theorem tX11_hours_34 {S : ev_S} {fu : Nat} {r : Int32 × ev_D} {F : ev_Fr} (hR : ev_R RX11 cX11_hours 4 7 0 0 false (some .int) S r F) (hT : ev_Ty S) (hC : sC S ≤ 0 ∧ sA S ≤ 0) : ∀ (n : Nat) (l0 : Nat) (l1 : Int32) (l2 : Int32) (l3 : Int32) (D : ev_D), sK S l0 = 14 → fX11_hours_34 (sL S) (sE S) fu n l0 l1 l2 l3 D = some r → F S D 34 [some (.ref l0), some (.int l1), some (.int l2), some (.int l3)] [] := by
  have hX := hR.X
  intro n
  induction n with
  | zero =>
    intro l0 l1 l2 l3 D hl0 hf
    rw [fX11_hours_34] at hf
    cases hf
  | succ n ih =>
    intro l0 l1 l2 l3 D hl0 hf
    rw [fX11_hours_34] at hf
    refine ev_blk hX lkok_RX11 [(.iload_n 3, 1, 0, 0, 0), (.iload_n 1, 1, 0, 0, 0)] (by decide +kernel) (g := true) (lv' := [some (.ref l0), some (.int l1), some (.int l2), some (.int l3)]) (st' := [.int l1, .int l3]) (D' := D) (pc' := 36) rfl (rfl) rfl ?_
    refine ev_ic_ge hX (off := 41) 77 (by decide +kernel) (by decide) (fun h1 => ?_) (fun h1 => ?_)
    · have hf := ev_it h1 hf
      refine ev_blk hX lkok_RX11 [(.iload_n 2, 1, 0, 0, 0)] (by decide +kernel) (g := true) (lv' := [some (.ref l0), some (.int l1), some (.int l2), some (.int l3)]) (st' := [.int l2]) (D' := D) (pc' := 78) rfl (rfl) rfl ?_
      exact ev_iret hR ev_sm.rf (Option.some.inj hf) hC (by decide +kernel)
    · have hf := ev_nf h1 hf
      refine ev_blk hX lkok_RX11 [(.aload_n 0, 1, 0, 0, 0), (.getfield 19, 3, 11, 1, 0), (.aload_n 0, 1, 0, 0, 0), (.getfield 10, 3, 11, 0, 0), (.getfield 32, 3, 10, 0, 0), (.aload_n 0, 1, 0, 0, 0), (.getfield 10, 3, 11, 0, 0), (.getfield 36, 3, 10, 1, 0)] (by decide +kernel) (g := (sK S l0 == 14) && ((sK S l0 == 14) && ((sK S ((sE S) l0 0) == 13) && ((sK S l0 == 14) && ((sK S ((sE S) l0 0) == 13) && (true)))))) (lv' := [some (.ref l0), some (.int l1), some (.int l2), some (.int l3)]) (st' := [.ref ((sE S) ((sE S) l0 0) 1), .ref ((sE S) ((sE S) l0 0) 0), .ref ((sE S) l0 1)]) (D' := D) (pc' := 57) rfl (ev_gk hl0 (ev_gk hl0 (ev_gk (ev_tyk hT hl0 rfl rfl) (ev_gk hl0 (ev_gk (ev_tyk hT hl0 rfl rfl) (rfl)))))) rfl ?_
      obtain ⟨v2, D2, hc2, hf⟩ := ev_bd_s hf
      refine ev_callV hX YX2_keep ml_RX11_128 (mX2_keep hT (ev_tyk hT hl0 rfl rfl) (ev_tyk hT (ev_tyk hT hl0 rfl rfl) rfl rfl) (ev_tyk hT (ev_tyk hT hl0 rfl rfl) rfl rfl) hc2) (vs := [.ref ((sE S) ((sE S) l0 0) 0), .ref ((sE S) ((sE S) l0 0) 1)]) (st := []) (by decide) 2 (ev_tyk hT hl0 rfl rfl) rfl rfl rfl (by decide +kernel) hC ?_
      show F S D2 60 [some (.ref l0), some (.int l1), some (.int l2), some (.int l3)] []
      refine ev_blk hX lkok_RX11 [(.iload_n 2, 1, 0, 0, 0), (.aload_n 0, 1, 0, 0, 0), (.getfield 47, 3, 11, 3, 0), (.iconst 1, 1, 0, 0, 1)] (by decide +kernel) (g := (sK S l0 == 14) && (true)) (lv' := [some (.ref l0), some (.int l1), some (.int l2), some (.int l3)]) (st' := [.int (1 : Int32), .ref ((sE S) l0 3), .int l2]) (D' := D2) (pc' := 66) rfl (ev_gk hl0 (rfl)) rfl ?_
      obtain ⟨v3, D3, hc3, hf⟩ := ev_bd_s hf
      refine ev_callV hX YX5_pass ml_RX11_149 (mX5_pass hT (ev_tyk hT hl0 rfl rfl) hc3) (vs := [.int (1 : Int32)]) (st := [.int l2]) (by decide) 5 (ev_tyk hT hl0 rfl rfl) rfl rfl rfl (by decide +kernel) hC ?_
      show F S D3 69 [some (.ref l0), some (.int l1), some (.int l2), some (.int l3)] [.int v3, .int l2]
      refine ev_blk hX lkok_RX11 [(.iadd, 1, 0, 0, 0), (.istore_n 2, 1, 0, 0, 0), (.iinc 3 1, 3, 0, 0, 1)] (by decide +kernel) (g := true) (lv' := [some (.ref l0), some (.int l1), some (.int (l2 + v3)), some (.int (l3 + (1 : Int32)))]) (st' := []) (D' := D3) (pc' := 74) rfl (rfl) rfl ?_
      refine ev_goto hX (off := (-40)) 34 (by decide +kernel) (by decide) ?_
      exact ev_weak hX (ev_le_eq (ev_le_eq (ev_le_eq (ev_le_eq ev_le_nil)))) (ih _ _ _ _ _ hl0 hf)
set_option maxHeartbeats 4000000 in
set_option maxRecDepth 100000 in
theorem tX11_hours {S : ev_S} {fu : Nat} {r : Int32 × ev_D} {F : ev_Fr} (hR : ev_R RX11 cX11_hours 4 7 0 0 false (some .int) S r F) (hT : ev_Ty S) (hC : sC S ≤ 0 ∧ sA S ≤ 0) {l0 : Nat} {l1 : Int32} {D : ev_D} (hl0 : sK S l0 = 14) (hf : fX11_hours (sL S) (sE S) fu l0 l1 D = some r) : F S D 0 [some (.ref l0), some (.int l1), none, none] [] := by
  have hX := hR.X
  unfold fX11_hours at hf
  refine ev_blk hX lkok_RX11 [(.iload_n 1, 1, 0, 0, 0), (.iconst 1, 1, 0, 0, 1), (.bipush 60, 2, 0, 0, 60)] (by decide +kernel) (g := true) (lv' := [some (.ref l0), some (.int l1), none, none]) (st' := [.int (60 : Int32), .int (1 : Int32), .int l1]) (D' := D) (pc' := 4) rfl (rfl) rfl ?_
  obtain ⟨v4, D4, hc4, hf⟩ := ev_bd_s hf
  refine ev_callS hX YX11_within ml_RX11_85 (mX11_within hT  hc4) (vs := [.int l1, .int (1 : Int32), .int (60 : Int32)]) (st := []) (by decide) rfl rfl (by decide +kernel) hC ?_
  show F S D4 7 [some (.ref l0), some (.int l1), none, none] [.int v4]
  refine ev_if_eq hX (off := 21) 28 (by decide +kernel) (by decide) (fun h5 => ?_) (fun h5 => ?_)
  · have hf := ev_it h5 hf
    refine ev_blk hX lkok_RX11 [(.iconst (-1), 1, 0, 0, (-1))] (by decide +kernel) (g := true) (lv' := [some (.ref l0), some (.int l1), none, none]) (st' := [.int (-1 : Int32)]) (D' := D4) (pc' := 29) rfl (rfl) rfl ?_
    exact ev_iret hR ev_sm.rf (Option.some.inj hf) hC (by decide +kernel)
  · have hf := ev_nf h5 hf
    refine ev_blk hX lkok_RX11 [(.aload_n 0, 1, 0, 0, 0), (.getfield 10, 3, 11, 0, 0), (.getfield 32, 3, 10, 0, 0), (.getfield 136, 3, 9, 4, 0), (.iload_n 1, 1, 0, 0, 0), (.iadd, 1, 0, 0, 0), (.sipush 9999, 3, 0, 0, 9999)] (by decide +kernel) (g := (sK S l0 == 14) && ((sK S ((sE S) l0 0) == 13) && ((sK S ((sE S) ((sE S) l0 0) 0) == 12) && (true)))) (lv' := [some (.ref l0), some (.int l1), none, none]) (st' := [.int (9999 : Int32), .int ((D4 ((sE S) ((sE S) l0 0) 0) 4) + l1)]) (D' := D4) (pc' := 25) rfl (ev_gk hl0 (ev_gk (ev_tyk hT hl0 rfl rfl) (ev_gk (ev_tyk hT (ev_tyk hT hl0 rfl rfl) rfl rfl) (rfl)))) rfl ?_
    refine ev_ic_le hX (off := 5) 30 (by decide +kernel) (by decide) (fun h6 => ?_) (fun h6 => ?_)
    · have hf := ev_it h6 hf
      refine ev_blk hX lkok_RX11 [(.iconst 0, 1, 0, 0, 0), (.istore_n 2, 1, 0, 0, 0), (.iconst 0, 1, 0, 0, 0), (.istore_n 3, 1, 0, 0, 0)] (by decide +kernel) (g := true) (lv' := [some (.ref l0), some (.int l1), some (.int (0 : Int32)), some (.int (0 : Int32))]) (st' := []) (D' := D4) (pc' := 34) rfl (rfl) rfl ?_
      exact ev_weak hX (ev_le_eq (ev_le_eq (ev_le_eq (ev_le_eq ev_le_nil)))) (tX11_hours_34 hR hT hC   fu _ _ _ _ _ hl0 hf)
    · have hf := ev_nf h6 hf
      refine ev_blk hX lkok_RX11 [(.iconst (-1), 1, 0, 0, (-1))] (by decide +kernel) (g := true) (lv' := [some (.ref l0), some (.int l1), none, none]) (st' := [.int (-1 : Int32)]) (D' := D4) (pc' := 29) rfl (rfl) rfl ?_
      exact ev_iret hR ev_sm.rf (Option.some.inj hf) hC (by decide +kernel)
theorem mX11_hours {S : ev_S} {fu : Nat} {r : Int32 × ev_D} (hT : ev_Ty S) {l0 : Nat} {l1 : Int32} {D : ev_D} (hl0 : sK S l0 = 14) (hf : fX11_hours (sL S) (sE S) fu l0 l1 D = some r) : ev_M 7 0 0 yX11_hours cX11_hours 4 (some .int) [.ref l0, .int l1] S D S r :=
  ev_met (ini := false) (plainFor_of_name (by decide)) (fun h => by cases h) rfl (Nat.le_of_ble_eq_true rfl) (fun F hR => tX11_hours (S := ev_z S) hR hT ⟨Nat.le_refl 0, Nat.le_refl 0⟩ hl0 hf)
set_option maxHeartbeats 4000000 in
set_option maxRecDepth 100000 in
theorem tX4_append_43 {S : ev_S} {fu : Nat} {r : Int32 × ev_D} {F : ev_Fr} (hR : ev_R RX4 cX4_append 3 0 0 0 false none S r F) (hT : ev_Ty S) (hC : sC S ≤ 0 ∧ sA S ≤ 0) {k3 : Nat → Int32 → Int32 → ev_D → ev_Op} (hk3 : ∀ (l0 : Nat) (l1 : Int32) (l2 : Int32) (D : ev_D), sK S l0 = 7 → k3 l0 l1 l2 D = some r → F S D 3 [some (.ref l0), some (.int l1), some (.int l2)] []) {l0 : Nat} {l1 : Int32} {l2 : Int32} {D : ev_D} (hl0 : sK S l0 = 7) (hf : fX4_append_43 (sL S) (sE S) fu k3 l0 l1 l2 D = some r) : F S D 43 [some (.ref l0), some (.int l1), some (.int l2)] [] := by
  have hX := hR.X
  unfold fX4_append_43 at hf
  refine ev_blk hX lkok_RX4 [(.iinc 2 (-8), 3, 0, 0, (-8))] (by decide +kernel) (g := true) (lv' := [some (.ref l0), some (.int l1), some (.int (l2 + (-8 : Int32)))]) (st' := []) (D' := D) (pc' := 46) rfl (rfl) rfl ?_
  refine ev_goto hX (off := (-43)) 3 (by decide +kernel) (by decide) ?_
  exact ev_weak hX (ev_le_eq (ev_le_eq (ev_le_eq ev_le_nil))) (hk3 _ _ _ _ hl0 hf)
set_option maxHeartbeats 4000000 in
set_option maxRecDepth 100000 in
theorem tX4_append_3 {S : ev_S} {fu : Nat} {r : Int32 × ev_D} {F : ev_Fr} (hR : ev_R RX4 cX4_append 3 0 0 0 false none S r F) (hT : ev_Ty S) (hC : sC S ≤ 0 ∧ sA S ≤ 0) : ∀ (n : Nat) (l0 : Nat) (l1 : Int32) (l2 : Int32) (D : ev_D), sK S l0 = 7 → fX4_append_3 (sL S) (sE S) fu n l0 l1 l2 D = some r → F S D 3 [some (.ref l0), some (.int l1), some (.int l2)] [] := by
  have hX := hR.X
  intro n
  induction n with
  | zero =>
    intro l0 l1 l2 D hl0 hf
    rw [fX4_append_3] at hf
    cases hf
  | succ n ih =>
    intro l0 l1 l2 D hl0 hf
    rw [fX4_append_3] at hf
    refine ev_blk hX lkok_RX4 [(.iload_n 2, 1, 0, 0, 0)] (by decide +kernel) (g := true) (lv' := [some (.ref l0), some (.int l1), some (.int l2)]) (st' := [.int l2]) (D' := D) (pc' := 4) rfl (rfl) rfl ?_
    refine ev_if_lt hX (off := 45) 49 (by decide +kernel) (by decide) (fun h1 => ?_) (fun h1 => ?_)
    · have hf := ev_it h1 hf
      exact ev_vret hR ev_sm.rf (Option.some.inj hf) hC (by decide +kernel)
    · have hf := ev_nf h1 hf
      refine ev_blk hX lkok_RX4 [(.aload_n 0, 1, 0, 0, 0), (.getfield 18, 3, 4, 1, 0), (.sipush 400, 3, 0, 0, 400)] (by decide +kernel) (g := (sK S l0 == 7) && (true)) (lv' := [some (.ref l0), some (.int l1), some (.int l2)]) (st' := [.int (400 : Int32), .int (D l0 1)]) (D' := D) (pc' := 14) rfl (ev_gk hl0 (rfl)) rfl ?_
      refine ev_ic_ge hX (off := 35) 49 (by decide +kernel) (by decide) (fun h2 => ?_) (fun h2 => ?_)
      · have hf := ev_it h2 hf
        exact ev_vret hR ev_sm.rf (Option.some.inj hf) hC (by decide +kernel)
      · have hf := ev_nf h2 hf
        obtain ⟨hg3, hf⟩ := ev_gd_s hf
        refine ev_blk hX lkok_RX4 [(.aload_n 0, 1, 0, 0, 0), (.getfield 28, 3, 4, 4, 0), (.aload_n 0, 1, 0, 0, 0), (.getfield 18, 3, 4, 1, 0), (.iload_n 1, 1, 0, 0, 0), (.iload_n 2, 1, 0, 0, 0), (.iushr, 1, 0, 0, 0), (.sipush 255, 3, 0, 0, 255), (.iand, 1, 0, 0, 0), (.iastore, 1, 0, 0, 0), (.aload_n 0, 1, 0, 0, 0), (.dup, 1, 0, 0, 0), (.getfield 18, 3, 4, 1, 0), (.iconst 1, 1, 0, 0, 1), (.iadd, 1, 0, 0, 0), (.putfield 18, 3, 4, 1, 0)] (by decide +kernel) (g := (sK S l0 == 7) && ((sK S l0 == 7) && ((sK S ((sE S) l0 4) == 1 && ev_in (D l0 1) ((sL S) ((sE S) l0 4))) && ((sK S l0 == 7) && ((sK S l0 == 7) && (true)))))) (lv' := [some (.ref l0), some (.int l1), some (.int l2)]) (st' := []) (D' := (ev_up (ev_up D ((sE S) l0 4) ((D l0 1)).toNatClampNeg (((l1).toUInt32 >>> ((l2).toUInt32 &&& Int32.toUInt32 31)).toInt32 &&& (255 : Int32))) l0 1 (((ev_up D ((sE S) l0 4) ((D l0 1)).toNatClampNeg (((l1).toUInt32 >>> ((l2).toUInt32 &&& Int32.toUInt32 31)).toInt32 &&& (255 : Int32))) l0 1) + (1 : Int32)))) (pc' := 43) rfl (ev_gk hl0 (ev_gk hl0 (ev_gi (ev_tyk hT hl0 rfl rfl) hg3 (ev_gk hl0 (ev_gk hl0 (rfl)))))) rfl ?_
        exact ev_weak hX (ev_le_eq (ev_le_eq (ev_le_eq ev_le_nil))) (tX4_append_43 hR hT hC  ih hl0 hf)
set_option maxHeartbeats 4000000 in
set_option maxRecDepth 100000 in
theorem tX4_append {S : ev_S} {fu : Nat} {r : Int32 × ev_D} {F : ev_Fr} (hR : ev_R RX4 cX4_append 3 0 0 0 false none S r F) (hT : ev_Ty S) (hC : sC S ≤ 0 ∧ sA S ≤ 0) {l0 : Nat} {l1 : Int32} {D : ev_D} (hl0 : sK S l0 = 7) (hf : fX4_append (sL S) (sE S) fu l0 l1 D = some r) : F S D 0 [some (.ref l0), some (.int l1), none] [] := by
  have hX := hR.X
  unfold fX4_append at hf
  refine ev_blk hX lkok_RX4 [(.bipush 24, 2, 0, 0, 24), (.istore_n 2, 1, 0, 0, 0)] (by decide +kernel) (g := true) (lv' := [some (.ref l0), some (.int l1), some (.int (24 : Int32))]) (st' := []) (D' := D) (pc' := 3) rfl (rfl) rfl ?_
  exact ev_weak hX (ev_le_eq (ev_le_eq (ev_le_eq ev_le_nil))) (tX4_append_3 hR hT hC   fu _ _ _ _ hl0 hf)
theorem mX4_append {S : ev_S} {fu : Nat} {r : Int32 × ev_D} (hT : ev_Ty S) {l0 : Nat} {l1 : Int32} {D : ev_D} (hl0 : sK S l0 = 7) (hf : fX4_append (sL S) (sE S) fu l0 l1 D = some r) : ev_M 0 0 0 yX4_append cX4_append 3 none [.ref l0, .int l1] S D S r :=
  ev_met (ini := false) (plainFor_of_name (by decide)) (fun h => by cases h) rfl (Nat.le_of_ble_eq_true rfl) (fun F hR => tX4_append (S := ev_z S) hR hT ⟨Nat.le_refl 0, Nat.le_refl 0⟩ hl0 hf)
set_option maxHeartbeats 4000000 in
set_option maxRecDepth 100000 in
theorem tX11_feed {S : ev_S} {fu : Nat} {r : Int32 × ev_D} {F : ev_Fr} (hR : ev_R RX11 cX11_feed 6 1 0 0 false (some .int) S r F) (hT : ev_Ty S) (hC : sC S ≤ 0 ∧ sA S ≤ 0) {l0 : Nat} {l1 : Int32} {l2 : Int32} {l3 : Int32} {l4 : Int32} {l5 : Int32} {D : ev_D} (hl0 : sK S l0 = 14) (hf : fX11_feed (sL S) (sE S) fu l0 l1 l2 l3 l4 l5 D = some r) : F S D 0 [some (.ref l0), some (.int l1), some (.int l2), some (.int l3), some (.int l4), some (.int l5)] [] := by
  have hX := hR.X
  unfold fX11_feed at hf
  refine ev_blk hX lkok_RX11 [(.aload_n 0, 1, 0, 0, 0), (.getfield 26, 3, 11, 2, 0), (.getfield 153, 3, 4, 1, 0), (.bipush 20, 2, 0, 0, 20), (.iadd, 1, 0, 0, 0), (.sipush 400, 3, 0, 0, 400)] (by decide +kernel) (g := (sK S l0 == 14) && ((sK S ((sE S) l0 2) == 7) && (true))) (lv' := [some (.ref l0), some (.int l1), some (.int l2), some (.int l3), some (.int l4), some (.int l5)]) (st' := [.int (400 : Int32), .int ((D ((sE S) l0 2) 1) + (20 : Int32))]) (D' := D) (pc' := 13) rfl (ev_gk hl0 (ev_gk (ev_tyk hT hl0 rfl rfl) (rfl))) rfl ?_
  refine ev_ic_le hX (off := 5) 18 (by decide +kernel) (by decide) (fun h1 => ?_) (fun h1 => ?_)
  · have hf := ev_it h1 hf
    refine ev_blk hX lkok_RX11 [(.aload_n 0, 1, 0, 0, 0), (.getfield 26, 3, 11, 2, 0), (.iload_n 1, 1, 0, 0, 0)] (by decide +kernel) (g := (sK S l0 == 14) && (true)) (lv' := [some (.ref l0), some (.int l1), some (.int l2), some (.int l3), some (.int l4), some (.int l5)]) (st' := [.int l1, .ref ((sE S) l0 2)]) (D' := D) (pc' := 23) rfl (ev_gk hl0 (rfl)) rfl ?_
    obtain ⟨v2, D2, hc2, hf⟩ := ev_bd_s hf
    refine ev_callV hX YX4_append ml_RX11_156 (mX4_append hT (ev_tyk hT hl0 rfl rfl) hc2) (vs := [.int l1]) (st := []) (by decide) 4 (ev_tyk hT hl0 rfl rfl) rfl rfl rfl (by decide +kernel) hC ?_
    show F S D2 26 [some (.ref l0), some (.int l1), some (.int l2), some (.int l3), some (.int l4), some (.int l5)] []
    refine ev_blk hX lkok_RX11 [(.aload_n 0, 1, 0, 0, 0), (.getfield 26, 3, 11, 2, 0), (.iload_n 2, 1, 0, 0, 0)] (by decide +kernel) (g := (sK S l0 == 14) && (true)) (lv' := [some (.ref l0), some (.int l1), some (.int l2), some (.int l3), some (.int l4), some (.int l5)]) (st' := [.int l2, .ref ((sE S) l0 2)]) (D' := D2) (pc' := 31) rfl (ev_gk hl0 (rfl)) rfl ?_
    obtain ⟨v3, D3, hc3, hf⟩ := ev_bd_s hf
    refine ev_callV hX YX4_append ml_RX11_156 (mX4_append hT (ev_tyk hT hl0 rfl rfl) hc3) (vs := [.int l2]) (st := []) (by decide) 4 (ev_tyk hT hl0 rfl rfl) rfl rfl rfl (by decide +kernel) hC ?_
    show F S D3 34 [some (.ref l0), some (.int l1), some (.int l2), some (.int l3), some (.int l4), some (.int l5)] []
    refine ev_blk hX lkok_RX11 [(.aload_n 0, 1, 0, 0, 0), (.getfield 26, 3, 11, 2, 0), (.iload_n 3, 1, 0, 0, 0)] (by decide +kernel) (g := (sK S l0 == 14) && (true)) (lv' := [some (.ref l0), some (.int l1), some (.int l2), some (.int l3), some (.int l4), some (.int l5)]) (st' := [.int l3, .ref ((sE S) l0 2)]) (D' := D3) (pc' := 39) rfl (ev_gk hl0 (rfl)) rfl ?_
    obtain ⟨v4, D4, hc4, hf⟩ := ev_bd_s hf
    refine ev_callV hX YX4_append ml_RX11_156 (mX4_append hT (ev_tyk hT hl0 rfl rfl) hc4) (vs := [.int l3]) (st := []) (by decide) 4 (ev_tyk hT hl0 rfl rfl) rfl rfl rfl (by decide +kernel) hC ?_
    show F S D4 42 [some (.ref l0), some (.int l1), some (.int l2), some (.int l3), some (.int l4), some (.int l5)] []
    refine ev_blk hX lkok_RX11 [(.aload_n 0, 1, 0, 0, 0), (.getfield 26, 3, 11, 2, 0), (.iload 4, 2, 0, 0, 0)] (by decide +kernel) (g := (sK S l0 == 14) && (true)) (lv' := [some (.ref l0), some (.int l1), some (.int l2), some (.int l3), some (.int l4), some (.int l5)]) (st' := [.int l4, .ref ((sE S) l0 2)]) (D' := D4) (pc' := 48) rfl (ev_gk hl0 (rfl)) rfl ?_
    obtain ⟨v5, D5, hc5, hf⟩ := ev_bd_s hf
    refine ev_callV hX YX4_append ml_RX11_156 (mX4_append hT (ev_tyk hT hl0 rfl rfl) hc5) (vs := [.int l4]) (st := []) (by decide) 4 (ev_tyk hT hl0 rfl rfl) rfl rfl rfl (by decide +kernel) hC ?_
    show F S D5 51 [some (.ref l0), some (.int l1), some (.int l2), some (.int l3), some (.int l4), some (.int l5)] []
    refine ev_blk hX lkok_RX11 [(.aload_n 0, 1, 0, 0, 0), (.getfield 26, 3, 11, 2, 0), (.iload 5, 2, 0, 0, 0)] (by decide +kernel) (g := (sK S l0 == 14) && (true)) (lv' := [some (.ref l0), some (.int l1), some (.int l2), some (.int l3), some (.int l4), some (.int l5)]) (st' := [.int l5, .ref ((sE S) l0 2)]) (D' := D5) (pc' := 57) rfl (ev_gk hl0 (rfl)) rfl ?_
    obtain ⟨v6, D6, hc6, hf⟩ := ev_bd_s hf
    refine ev_callV hX YX4_append ml_RX11_156 (mX4_append hT (ev_tyk hT hl0 rfl rfl) hc6) (vs := [.int l5]) (st := []) (by decide) 4 (ev_tyk hT hl0 rfl rfl) rfl rfl rfl (by decide +kernel) hC ?_
    show F S D6 60 [some (.ref l0), some (.int l1), some (.int l2), some (.int l3), some (.int l4), some (.int l5)] []
    refine ev_blk hX lkok_RX11 [(.aload_n 0, 1, 0, 0, 0), (.getfield 26, 3, 11, 2, 0), (.getfield 153, 3, 4, 1, 0)] (by decide +kernel) (g := (sK S l0 == 14) && ((sK S ((sE S) l0 2) == 7) && (true))) (lv' := [some (.ref l0), some (.int l1), some (.int l2), some (.int l3), some (.int l4), some (.int l5)]) (st' := [.int (D6 ((sE S) l0 2) 1)]) (D' := D6) (pc' := 67) rfl (ev_gk hl0 (ev_gk (ev_tyk hT hl0 rfl rfl) (rfl))) rfl ?_
    exact ev_iret hR ev_sm.rf (Option.some.inj hf) hC (by decide +kernel)
  · have hf := ev_nf h1 hf
    refine ev_blk hX lkok_RX11 [(.iconst (-1), 1, 0, 0, (-1))] (by decide +kernel) (g := true) (lv' := [some (.ref l0), some (.int l1), some (.int l2), some (.int l3), some (.int l4), some (.int l5)]) (st' := [.int (-1 : Int32)]) (D' := D) (pc' := 17) rfl (rfl) rfl ?_
    exact ev_iret hR ev_sm.rf (Option.some.inj hf) hC (by decide +kernel)
theorem mX11_feed {S : ev_S} {fu : Nat} {r : Int32 × ev_D} (hT : ev_Ty S) {l0 : Nat} {l1 : Int32} {l2 : Int32} {l3 : Int32} {l4 : Int32} {l5 : Int32} {D : ev_D} (hl0 : sK S l0 = 14) (hf : fX11_feed (sL S) (sE S) fu l0 l1 l2 l3 l4 l5 D = some r) : ev_M 1 0 0 yX11_feed cX11_feed 6 (some .int) [.ref l0, .int l1, .int l2, .int l3, .int l4, .int l5] S D S r :=
  ev_met (ini := false) (plainFor_of_name (by decide)) (fun h => by cases h) rfl (Nat.le_of_ble_eq_true rfl) (fun F hR => tX11_feed (S := ev_z S) hR hT ⟨Nat.le_refl 0, Nat.le_refl 0⟩ hl0 hf)
set_option maxHeartbeats 4000000 in
set_option maxRecDepth 100000 in
theorem tX11_end {S : ev_S} {fu : Nat} {r : Int32 × ev_D} {F : ev_Fr} (hR : ev_R RX11 cX11_end 2 1 0 0 false (some .boolean) S r F) (hT : ev_Ty S) (hC : sC S ≤ 0 ∧ sA S ≤ 0) {l0 : Nat} {l1 : Int32} {D : ev_D} (hl0 : sK S l0 = 14) (hf : fX11_end (sL S) (sE S) fu l0 l1 D = some r) : F S D 0 [some (.ref l0), some (.int l1)] [] := by
  have hX := hR.X
  unfold fX11_end at hf
  refine ev_blk hX lkok_RX11 [(.iload_n 1, 1, 0, 0, 0), (.iconst 0, 1, 0, 0, 0), (.aload_n 0, 1, 0, 0, 0), (.getfield 26, 3, 11, 2, 0), (.getfield 153, 3, 4, 1, 0)] (by decide +kernel) (g := (sK S l0 == 14) && ((sK S ((sE S) l0 2) == 7) && (true))) (lv' := [some (.ref l0), some (.int l1)]) (st' := [.int (D ((sE S) l0 2) 1), .int (0 : Int32), .int l1]) (D' := D) (pc' := 9) rfl (ev_gk hl0 (ev_gk (ev_tyk hT hl0 rfl rfl) (rfl))) rfl ?_
  obtain ⟨v1, D1, hc1, hf⟩ := ev_bd_s hf
  refine ev_callS hX YX11_within ml_RX11_85 (mX11_within hT  hc1) (vs := [.int l1, .int (0 : Int32), .int (D ((sE S) l0 2) 1)]) (st := []) (by decide) rfl rfl (by decide +kernel) hC ?_
  show F S D1 12 [some (.ref l0), some (.int l1)] [.int v1]
  refine ev_if_ne hX (off := 5) 17 (by decide +kernel) (by decide) (fun h2 => ?_) (fun h2 => ?_)
  · have hf := ev_nf h2 hf
    refine ev_blk hX lkok_RX11 [(.aload_n 0, 1, 0, 0, 0), (.getfield 26, 3, 11, 2, 0), (.iload_n 1, 1, 0, 0, 0), (.putfield 153, 3, 4, 1, 0), (.iconst 1, 1, 0, 0, 1)] (by decide +kernel) (g := (sK S l0 == 14) && ((sK S ((sE S) l0 2) == 7) && (true))) (lv' := [some (.ref l0), some (.int l1)]) (st' := [.int (1 : Int32)]) (D' := (ev_up D1 ((sE S) l0 2) 1 l1)) (pc' := 26) rfl (ev_gk hl0 (ev_gk (ev_tyk hT hl0 rfl rfl) (rfl))) rfl ?_
    exact ev_zret hR ev_sm.rf (Or.inr rfl) (Option.some.inj hf) hC (by decide +kernel)
  · have hf := ev_it h2 hf
    refine ev_blk hX lkok_RX11 [(.iconst 0, 1, 0, 0, 0)] (by decide +kernel) (g := true) (lv' := [some (.ref l0), some (.int l1)]) (st' := [.int (0 : Int32)]) (D' := D1) (pc' := 16) rfl (rfl) rfl ?_
    exact ev_zret hR ev_sm.rf (Or.inl rfl) (Option.some.inj hf) hC (by decide +kernel)
theorem mX11_end {S : ev_S} {fu : Nat} {r : Int32 × ev_D} (hT : ev_Ty S) {l0 : Nat} {l1 : Int32} {D : ev_D} (hl0 : sK S l0 = 14) (hf : fX11_end (sL S) (sE S) fu l0 l1 D = some r) : ev_M 1 0 0 yX11_end cX11_end 2 (some .boolean) [.ref l0, .int l1] S D S r :=
  ev_met (ini := false) (plainFor_of_name (by decide)) (fun h => by cases h) rfl (Nat.le_of_ble_eq_true rfl) (fun F hR => tX11_end (S := ev_z S) hR hT ⟨Nat.le_refl 0, Nat.le_refl 0⟩ hl0 hf)
set_option maxHeartbeats 4000000 in
set_option maxRecDepth 100000 in
theorem tX1_clear {S : ev_S} {fu : Nat} {r : Int32 × ev_D} {F : ev_Fr} (hR : ev_R RX1 cX1_clear 1 0 0 0 false none S r F) (hT : ev_Ty S) (hC : sC S ≤ 0 ∧ sA S ≤ 0) {l0 : Nat} {D : ev_D} (hl0 : sK S l0 = 4) (hf : fX1_clear (sL S) (sE S) fu l0 D = some r) : F S D 0 [some (.ref l0)] [] := by
  have hX := hR.X
  unfold fX1_clear at hf
  refine ev_blk hX lkok_RX1 [(.aload_n 0, 1, 0, 0, 0), (.iconst 0, 1, 0, 0, 0), (.putfield 11, 3, 1, 0, 0), (.aload_n 0, 1, 0, 0, 0), (.iconst 0, 1, 0, 0, 0), (.putfield 15, 3, 1, 1, 0)] (by decide +kernel) (g := (sK S l0 == 4) && ((sK S l0 == 4) && (true))) (lv' := [some (.ref l0)]) (st' := []) (D' := (ev_up (ev_up D l0 0 (0 : Int32)) l0 1 (0 : Int32))) (pc' := 10) rfl (ev_gk hl0 (ev_gk hl0 (rfl))) rfl ?_
  exact ev_vret hR ev_sm.rf (Option.some.inj hf) hC (by decide +kernel)
theorem mX1_clear {S : ev_S} {fu : Nat} {r : Int32 × ev_D} (hT : ev_Ty S) {l0 : Nat} {D : ev_D} (hl0 : sK S l0 = 4) (hf : fX1_clear (sL S) (sE S) fu l0 D = some r) : ev_M 0 0 0 yX1_clear cX1_clear 1 none [.ref l0] S D S r :=
  ev_met (ini := false) (plainFor_of_name (by decide)) (fun h => by cases h) rfl (Nat.le_of_ble_eq_true rfl) (fun F hR => tX1_clear (S := ev_z S) hR hT ⟨Nat.le_refl 0, Nat.le_refl 0⟩ hl0 hf)
set_option maxHeartbeats 4000000 in
set_option maxRecDepth 100000 in
theorem tX6_empty {S : ev_S} {fu : Nat} {r : Int32 × ev_D} {F : ev_Fr} (hR : ev_R RX6 cX6_empty 1 0 0 0 false (some .int) S r F) (hT : ev_Ty S) (hC : sC S ≤ 0 ∧ sA S ≤ 0) {l0 : Nat} {D : ev_D} (hl0 : sK S l0 = 9) (hf : fX6_empty (sL S) (sE S) fu l0 D = some r) : F S D 0 [some (.ref l0)] [] := by
  have hX := hR.X
  unfold fX6_empty at hf
  refine ev_blk hX lkok_RX6 [(.aload_n 0, 1, 0, 0, 0), (.iconst 0, 1, 0, 0, 0), (.putfield 9, 3, 6, 0, 0), (.iconst 0, 1, 0, 0, 0)] (by decide +kernel) (g := (sK S l0 == 9) && (true)) (lv' := [some (.ref l0)]) (st' := [.int (0 : Int32)]) (D' := (ev_up D l0 0 (0 : Int32))) (pc' := 6) rfl (ev_gk hl0 (rfl)) rfl ?_
  exact ev_iret hR ev_sm.rf (Option.some.inj hf) hC (by decide +kernel)
theorem mX6_empty {S : ev_S} {fu : Nat} {r : Int32 × ev_D} (hT : ev_Ty S) {l0 : Nat} {D : ev_D} (hl0 : sK S l0 = 9) (hf : fX6_empty (sL S) (sE S) fu l0 D = some r) : ev_M 0 0 0 yX6_empty cX6_empty 1 (some .int) [.ref l0] S D S r :=
  ev_met (ini := false) (plainFor_of_name (by decide)) (fun h => by cases h) rfl (Nat.le_of_ble_eq_true rfl) (fun F hR => tX6_empty (S := ev_z S) hR hT ⟨Nat.le_refl 0, Nat.le_refl 0⟩ hl0 hf)
set_option maxHeartbeats 4000000 in
set_option maxRecDepth 100000 in
theorem tX4_clearDraft {S : ev_S} {fu : Nat} {r : Int32 × ev_D} {F : ev_Fr} (hR : ev_R RX4 cX4_clearDraft 1 1 0 0 false none S r F) (hT : ev_Ty S) (hC : sC S ≤ 0 ∧ sA S ≤ 0) {l0 : Nat} {D : ev_D} (hl0 : sK S l0 = 7) (hf : fX4_clearDraft (sL S) (sE S) fu l0 D = some r) : F S D 0 [some (.ref l0)] [] := by
  have hX := hR.X
  unfold fX4_clearDraft at hf
  refine ev_blk hX lkok_RX4 [(.aload_n 0, 1, 0, 0, 0), (.getfield 14, 3, 4, 0, 0), (.getfield 90, 3, 7, 0, 0)] (by decide +kernel) (g := (sK S l0 == 7) && ((sK S ((sE S) l0 0) == 10) && (true))) (lv' := [some (.ref l0)]) (st' := [.ref ((sE S) ((sE S) l0 0) 0)]) (D' := D) (pc' := 7) rfl (ev_gk hl0 (ev_gk (ev_tyk hT hl0 rfl rfl) (rfl))) rfl ?_
  obtain ⟨v1, D1, hc1, hf⟩ := ev_bd_s hf
  refine ev_callV hX YX1_clear ml_RX4_94 (mX1_clear hT (ev_tyk hT (ev_tyk hT hl0 rfl rfl) rfl rfl) hc1) (vs := []) (st := []) (by decide) 1 (ev_tyk hT (ev_tyk hT hl0 rfl rfl) rfl rfl) rfl rfl rfl (by decide +kernel) hC ?_
  show F S D1 10 [some (.ref l0)] []
  refine ev_blk hX lkok_RX4 [(.aload_n 0, 1, 0, 0, 0), (.getfield 14, 3, 4, 0, 0), (.getfield 99, 3, 7, 1, 0)] (by decide +kernel) (g := (sK S l0 == 7) && ((sK S ((sE S) l0 0) == 10) && (true))) (lv' := [some (.ref l0)]) (st' := [.ref ((sE S) ((sE S) l0 0) 1)]) (D' := D1) (pc' := 17) rfl (ev_gk hl0 (ev_gk (ev_tyk hT hl0 rfl rfl) (rfl))) rfl ?_
  obtain ⟨v2, D2, hc2, hf⟩ := ev_bd_s hf
  refine ev_callV hX YX6_empty ml_RX4_103 (mX6_empty hT (ev_tyk hT (ev_tyk hT hl0 rfl rfl) rfl rfl) hc2) (vs := []) (st := []) (by decide) 6 (ev_tyk hT (ev_tyk hT hl0 rfl rfl) rfl rfl) rfl rfl rfl (by decide +kernel) hC ?_
  show F S D2 20 [some (.ref l0)] [.int v2]
  refine ev_blk hX lkok_RX4 [(.pop, 1, 0, 0, 0), (.aload_n 0, 1, 0, 0, 0), (.getfield 14, 3, 4, 0, 0), (.getfield 108, 3, 7, 2, 0)] (by decide +kernel) (g := (sK S l0 == 7) && ((sK S ((sE S) l0 0) == 10) && (true))) (lv' := [some (.ref l0)]) (st' := [.ref ((sE S) ((sE S) l0 0) 2)]) (D' := D2) (pc' := 28) rfl (ev_gk hl0 (ev_gk (ev_tyk hT hl0 rfl rfl) (rfl))) rfl ?_
  obtain ⟨v3, D3, hc3, hf⟩ := ev_bd_s hf
  refine ev_callV hX YX6_empty ml_RX4_103 (mX6_empty hT (ev_tyk hT (ev_tyk hT hl0 rfl rfl) rfl rfl) hc3) (vs := []) (st := []) (by decide) 6 (ev_tyk hT (ev_tyk hT hl0 rfl rfl) rfl rfl) rfl rfl rfl (by decide +kernel) hC ?_
  show F S D3 31 [some (.ref l0)] [.int v3]
  refine ev_blk hX lkok_RX4 [(.pop, 1, 0, 0, 0), (.aload_n 0, 1, 0, 0, 0), (.getfield 14, 3, 4, 0, 0), (.getfield 111, 3, 7, 3, 0)] (by decide +kernel) (g := (sK S l0 == 7) && ((sK S ((sE S) l0 0) == 10) && (true))) (lv' := [some (.ref l0)]) (st' := [.ref ((sE S) ((sE S) l0 0) 3)]) (D' := D3) (pc' := 39) rfl (ev_gk hl0 (ev_gk (ev_tyk hT hl0 rfl rfl) (rfl))) rfl ?_
  obtain ⟨v4, D4, hc4, hf⟩ := ev_bd_s hf
  refine ev_callV hX YX6_empty ml_RX4_103 (mX6_empty hT (ev_tyk hT (ev_tyk hT hl0 rfl rfl) rfl rfl) hc4) (vs := []) (st := []) (by decide) 6 (ev_tyk hT (ev_tyk hT hl0 rfl rfl) rfl rfl) rfl rfl rfl (by decide +kernel) hC ?_
  show F S D4 42 [some (.ref l0)] [.int v4]
  refine ev_blk hX lkok_RX4 [(.pop, 1, 0, 0, 0)] (by decide +kernel) (g := true) (lv' := [some (.ref l0)]) (st' := []) (D' := D4) (pc' := 43) rfl (rfl) rfl ?_
  exact ev_vret hR ev_sm.rf (Option.some.inj hf) hC (by decide +kernel)
theorem mX4_clearDraft {S : ev_S} {fu : Nat} {r : Int32 × ev_D} (hT : ev_Ty S) {l0 : Nat} {D : ev_D} (hl0 : sK S l0 = 7) (hf : fX4_clearDraft (sL S) (sE S) fu l0 D = some r) : ev_M 1 0 0 yX4_clearDraft cX4_clearDraft 1 none [.ref l0] S D S r :=
  ev_met (ini := false) (plainFor_of_name (by decide)) (fun h => by cases h) rfl (Nat.le_of_ble_eq_true rfl) (fun F hR => tX4_clearDraft (S := ev_z S) hR hT ⟨Nat.le_refl 0, Nat.le_refl 0⟩ hl0 hf)
set_option maxHeartbeats 4000000 in
set_option maxRecDepth 100000 in
theorem tX4_kind {S : ev_S} {fu : Nat} {r : Int32 × ev_D} {F : ev_Fr} (hR : ev_R RX4 cX4_kind 1 0 0 0 false (some .int) S r F) (hT : ev_Ty S) (hC : sC S ≤ 0 ∧ sA S ≤ 0) {l0 : Nat} {D : ev_D} (hl0 : sK S l0 = 7) (hf : fX4_kind (sL S) (sE S) fu l0 D = some r) : F S D 0 [some (.ref l0)] [] := by
  have hX := hR.X
  unfold fX4_kind at hf
  refine ev_blk hX lkok_RX4 [(.aload_n 0, 1, 0, 0, 0), (.getfield 44, 3, 4, 9, 0), (.aload_n 0, 1, 0, 0, 0), (.getfield 41, 3, 4, 8, 0)] (by decide +kernel) (g := (sK S l0 == 7) && ((sK S l0 == 7) && (true))) (lv' := [some (.ref l0)]) (st' := [.int (D l0 8), .int (D l0 9)]) (D' := D) (pc' := 8) rfl (ev_gk hl0 (ev_gk hl0 (rfl))) rfl ?_
  refine ev_ic_ge hX (off := 27) 35 (by decide +kernel) (by decide) (fun h1 => ?_) (fun h1 => ?_)
  · have hf := ev_it h1 hf
    refine ev_blk hX lkok_RX4 [(.iconst 0, 1, 0, 0, 0)] (by decide +kernel) (g := true) (lv' := [some (.ref l0)]) (st' := [.int (0 : Int32)]) (D' := D) (pc' := 36) rfl (rfl) rfl ?_
    exact ev_iret hR ev_sm.rf (Option.some.inj hf) hC (by decide +kernel)
  · have hf := ev_nf h1 hf
    refine ev_blk hX lkok_RX4 [(.aload_n 0, 1, 0, 0, 0), (.getfield 44, 3, 4, 9, 0), (.aload_n 0, 1, 0, 0, 0), (.getfield 32, 3, 4, 5, 0), (.arraylength, 1, 0, 0, 0)] (by decide +kernel) (g := (sK S l0 == 7) && ((sK S l0 == 7) && ((sK S ((sE S) l0 5) == 1) && (true)))) (lv' := [some (.ref l0)]) (st' := [.int (Int32.ofNat ((sL S) ((sE S) l0 5))), .int (D l0 9)]) (D' := D) (pc' := 20) rfl (ev_gk hl0 (ev_gk hl0 (ev_gk (ev_tyk hT hl0 rfl rfl) (rfl)))) rfl ?_
    refine ev_ic_ge hX (off := 15) 35 (by decide +kernel) (by decide) (fun h2 => ?_) (fun h2 => ?_)
    · have hf := ev_it h2 hf
      refine ev_blk hX lkok_RX4 [(.iconst 0, 1, 0, 0, 0)] (by decide +kernel) (g := true) (lv' := [some (.ref l0)]) (st' := [.int (0 : Int32)]) (D' := D) (pc' := 36) rfl (rfl) rfl ?_
      exact ev_iret hR ev_sm.rf (Option.some.inj hf) hC (by decide +kernel)
    · have hf := ev_nf h2 hf
      obtain ⟨hg3, hf⟩ := ev_gd_s hf
      refine ev_blk hX lkok_RX4 [(.aload_n 0, 1, 0, 0, 0), (.getfield 32, 3, 4, 5, 0), (.aload_n 0, 1, 0, 0, 0), (.getfield 44, 3, 4, 9, 0), (.iaload, 1, 0, 0, 0)] (by decide +kernel) (g := (sK S l0 == 7) && ((sK S l0 == 7) && ((sK S ((sE S) l0 5) == 1 && ev_in (D l0 9) ((sL S) ((sE S) l0 5))) && (true)))) (lv' := [some (.ref l0)]) (st' := [.int (D ((sE S) l0 5) ((D l0 9)).toNatClampNeg)]) (D' := D) (pc' := 32) rfl (ev_gk hl0 (ev_gk hl0 (ev_gi (ev_tyk hT hl0 rfl rfl) hg3 (rfl)))) rfl ?_
      refine ev_goto hX (off := 4) 36 (by decide +kernel) (by decide) ?_
      exact ev_iret hR ev_sm.rf (Option.some.inj hf) hC (by decide +kernel)
theorem mX4_kind {S : ev_S} {fu : Nat} {r : Int32 × ev_D} (hT : ev_Ty S) {l0 : Nat} {D : ev_D} (hl0 : sK S l0 = 7) (hf : fX4_kind (sL S) (sE S) fu l0 D = some r) : ev_M 0 0 0 yX4_kind cX4_kind 1 (some .int) [.ref l0] S D S r :=
  ev_met (ini := false) (plainFor_of_name (by decide)) (fun h => by cases h) rfl (Nat.le_of_ble_eq_true rfl) (fun F hR => tX4_kind (S := ev_z S) hR hT ⟨Nat.le_refl 0, Nat.le_refl 0⟩ hl0 hf)
theorem dX4_mayBegin_1 : decode cX4_mayBegin 1 = .ok (.tableswitch 73 0 2 #[27, 41, 57], 27) := by decide +kernel
set_option maxHeartbeats 4000000 in
set_option maxRecDepth 100000 in
theorem tX4_mayBegin {S : ev_S} {fu : Nat} {r : Int32 × ev_D} {F : ev_Fr} (hR : ev_R RX4 cX4_mayBegin 2 1 0 0 false (some .boolean) S r F) (hT : ev_Ty S) (hC : sC S ≤ 0 ∧ sA S ≤ 0) {l0 : Nat} {l1 : Int32} {D : ev_D} (hl0 : sK S l0 = 7) (hf : fX4_mayBegin (sL S) (sE S) fu l0 l1 D = some r) : F S D 0 [some (.ref l0), some (.int l1)] [] := by
  have hX := hR.X
  unfold fX4_mayBegin at hf
  refine ev_blk hX lkok_RX4 [(.iload_n 1, 1, 0, 0, 0)] (by decide +kernel) (g := true) (lv' := [some (.ref l0), some (.int l1)]) (st' := [.int l1]) (D' := D) (pc' := 1) rfl (rfl) rfl ?_
  by_cases h1 : l1 = (0 : Int32)
  · have hf := ev_it h1 hf
    refine ev_tblIn hX (off := 27) 28 dX4_mayBegin_1 (by rw [h1]; decide) (by rw [h1]; decide) (by rw [h1]; rfl) (by decide) ?_
    refine ev_blk hX lkok_RX4 [(.aload_n 0, 1, 0, 0, 0)] (by decide +kernel) (g := true) (lv' := [some (.ref l0), some (.int l1)]) (st' := [.ref l0]) (D' := D) (pc' := 29) rfl (rfl) rfl ?_
    obtain ⟨v2, D2, hc2, hf⟩ := ev_bd_s hf
    refine ev_callV hX YX4_kind ml_RX4_63 (mX4_kind hT hl0 hc2) (vs := []) (st := []) (by decide) 4 hl0 rfl rfl rfl (by decide +kernel) hC ?_
    show F S D2 32 [some (.ref l0), some (.int l1)] [.int v2]
    refine ev_blk hX lkok_RX4 [(.sipush 256, 3, 0, 0, 256), (.sipush 258, 3, 0, 0, 258)] (by decide +kernel) (g := true) (lv' := [some (.ref l0), some (.int l1)]) (st' := [.int (258 : Int32), .int (256 : Int32), .int v2]) (D' := D2) (pc' := 38) rfl (rfl) rfl ?_
    obtain ⟨v3, D3, hc3, hf⟩ := ev_bd_s hf
    refine ev_callSN hX YX11_within ml_RX4_56 (mX11_within hT  hc3) (vs := [.int v2, .int (256 : Int32), .int (258 : Int32)]) (st := []) (by decide) rfl rfl (by decide +kernel) hC ?_
    show F S D3 41 [some (.ref l0), some (.int l1)] [.int v3]
    obtain ⟨hz, hf⟩ := ev_gd_s hf
    exact ev_zret hR ev_sm.rf (ev_z01 hz) (Option.some.inj hf) hC (by decide +kernel)
  have hf := ev_nf h1 hf
  by_cases h4 : l1 = (1 : Int32)
  · have hf := ev_it h4 hf
    refine ev_tblIn hX (off := 41) 42 dX4_mayBegin_1 (by rw [h4]; decide) (by rw [h4]; decide) (by rw [h4]; rfl) (by decide) ?_
    refine ev_blk hX lkok_RX4 [(.aload_n 0, 1, 0, 0, 0)] (by decide +kernel) (g := true) (lv' := [some (.ref l0), some (.int l1)]) (st' := [.ref l0]) (D' := D) (pc' := 43) rfl (rfl) rfl ?_
    obtain ⟨v5, D5, hc5, hf⟩ := ev_bd_s hf
    refine ev_callV hX YX4_kind ml_RX4_63 (mX4_kind hT hl0 hc5) (vs := []) (st := []) (by decide) 4 hl0 rfl rfl rfl (by decide +kernel) hC ?_
    show F S D5 46 [some (.ref l0), some (.int l1)] [.int v5]
    refine ev_blk hX lkok_RX4 [(.sipush 274, 3, 0, 0, 274)] (by decide +kernel) (g := true) (lv' := [some (.ref l0), some (.int l1)]) (st' := [.int (274 : Int32), .int v5]) (D' := D5) (pc' := 49) rfl (rfl) rfl ?_
    refine ev_ic_ne hX (off := 7) 56 (by decide +kernel) (by decide) (fun h6 => ?_) (fun h6 => ?_)
    · have hf := ev_nf h6 hf
      refine ev_blk hX lkok_RX4 [(.iconst 0, 1, 0, 0, 0)] (by decide +kernel) (g := true) (lv' := [some (.ref l0), some (.int l1)]) (st' := [.int (0 : Int32)]) (D' := D5) (pc' := 57) rfl (rfl) rfl ?_
      exact ev_zret hR ev_sm.rf (Or.inl rfl) (Option.some.inj hf) hC (by decide +kernel)
    · have hf := ev_it h6 hf
      refine ev_blk hX lkok_RX4 [(.iconst 1, 1, 0, 0, 1)] (by decide +kernel) (g := true) (lv' := [some (.ref l0), some (.int l1)]) (st' := [.int (1 : Int32)]) (D' := D5) (pc' := 53) rfl (rfl) rfl ?_
      refine ev_goto hX (off := 4) 57 (by decide +kernel) (by decide) ?_
      exact ev_zret hR ev_sm.rf (Or.inr rfl) (Option.some.inj hf) hC (by decide +kernel)
  have hf := ev_nf h4 hf
  by_cases h7 : l1 = (2 : Int32)
  · have hf := ev_it h7 hf
    refine ev_tblIn hX (off := 57) 58 dX4_mayBegin_1 (by rw [h7]; decide) (by rw [h7]; decide) (by rw [h7]; rfl) (by decide) ?_
    refine ev_blk hX lkok_RX4 [(.aload_n 0, 1, 0, 0, 0)] (by decide +kernel) (g := true) (lv' := [some (.ref l0), some (.int l1)]) (st' := [.ref l0]) (D' := D) (pc' := 59) rfl (rfl) rfl ?_
    obtain ⟨v8, D8, hc8, hf⟩ := ev_bd_s hf
    refine ev_callV hX YX4_kind ml_RX4_63 (mX4_kind hT hl0 hc8) (vs := []) (st := []) (by decide) 4 hl0 rfl rfl rfl (by decide +kernel) hC ?_
    show F S D8 62 [some (.ref l0), some (.int l1)] [.int v8]
    refine ev_blk hX lkok_RX4 [(.sipush 276, 3, 0, 0, 276)] (by decide +kernel) (g := true) (lv' := [some (.ref l0), some (.int l1)]) (st' := [.int (276 : Int32), .int v8]) (D' := D8) (pc' := 65) rfl (rfl) rfl ?_
    refine ev_ic_ne hX (off := 7) 72 (by decide +kernel) (by decide) (fun h9 => ?_) (fun h9 => ?_)
    · have hf := ev_nf h9 hf
      refine ev_blk hX lkok_RX4 [(.iconst 0, 1, 0, 0, 0)] (by decide +kernel) (g := true) (lv' := [some (.ref l0), some (.int l1)]) (st' := [.int (0 : Int32)]) (D' := D8) (pc' := 73) rfl (rfl) rfl ?_
      exact ev_zret hR ev_sm.rf (Or.inl rfl) (Option.some.inj hf) hC (by decide +kernel)
    · have hf := ev_it h9 hf
      refine ev_blk hX lkok_RX4 [(.iconst 1, 1, 0, 0, 1)] (by decide +kernel) (g := true) (lv' := [some (.ref l0), some (.int l1)]) (st' := [.int (1 : Int32)]) (D' := D8) (pc' := 69) rfl (rfl) rfl ?_
      refine ev_goto hX (off := 4) 73 (by decide +kernel) (by decide) ?_
      exact ev_zret hR ev_sm.rf (Or.inr rfl) (Option.some.inj hf) hC (by decide +kernel)
  have hf := ev_nf h7 hf
  refine ev_tblOut hX 74 dX4_mayBegin_1 (by have h1q : (l1).toInt ≠ 0 := ev_ne h1; have h4q : (l1).toInt ≠ 1 := ev_ne h4; have h7q : (l1).toInt ≠ 2 := ev_ne h7; omega) (by decide) ?_
  refine ev_blk hX lkok_RX4 [(.aload_n 0, 1, 0, 0, 0)] (by decide +kernel) (g := true) (lv' := [some (.ref l0), some (.int l1)]) (st' := [.ref l0]) (D' := D) (pc' := 75) rfl (rfl) rfl ?_
  obtain ⟨v10, D10, hc10, hf⟩ := ev_bd_s hf
  refine ev_callV hX YX4_kind ml_RX4_63 (mX4_kind hT hl0 hc10) (vs := []) (st := []) (by decide) 4 hl0 rfl rfl rfl (by decide +kernel) hC ?_
  show F S D10 78 [some (.ref l0), some (.int l1)] [.int v10]
  refine ev_blk hX lkok_RX4 [(.sipush 282, 3, 0, 0, 282)] (by decide +kernel) (g := true) (lv' := [some (.ref l0), some (.int l1)]) (st' := [.int (282 : Int32), .int v10]) (D' := D10) (pc' := 81) rfl (rfl) rfl ?_
  refine ev_ic_ne hX (off := 7) 88 (by decide +kernel) (by decide) (fun h11 => ?_) (fun h11 => ?_)
  · have hf := ev_nf h11 hf
    refine ev_blk hX lkok_RX4 [(.iconst 0, 1, 0, 0, 0)] (by decide +kernel) (g := true) (lv' := [some (.ref l0), some (.int l1)]) (st' := [.int (0 : Int32)]) (D' := D10) (pc' := 89) rfl (rfl) rfl ?_
    exact ev_zret hR ev_sm.rf (Or.inl rfl) (Option.some.inj hf) hC (by decide +kernel)
  · have hf := ev_it h11 hf
    refine ev_blk hX lkok_RX4 [(.iconst 1, 1, 0, 0, 1)] (by decide +kernel) (g := true) (lv' := [some (.ref l0), some (.int l1)]) (st' := [.int (1 : Int32)]) (D' := D10) (pc' := 85) rfl (rfl) rfl ?_
    refine ev_goto hX (off := 4) 89 (by decide +kernel) (by decide) ?_
    exact ev_zret hR ev_sm.rf (Or.inr rfl) (Option.some.inj hf) hC (by decide +kernel)
theorem mX4_mayBegin {S : ev_S} {fu : Nat} {r : Int32 × ev_D} (hT : ev_Ty S) {l0 : Nat} {l1 : Int32} {D : ev_D} (hl0 : sK S l0 = 7) (hf : fX4_mayBegin (sL S) (sE S) fu l0 l1 D = some r) : ev_M 1 0 0 yX4_mayBegin cX4_mayBegin 2 (some .boolean) [.ref l0, .int l1] S D S r :=
  ev_met (ini := false) (plainFor_of_name (by decide)) (fun h => by cases h) rfl (Nat.le_of_ble_eq_true rfl) (fun F hR => tX4_mayBegin (S := ev_z S) hR hT ⟨Nat.le_refl 0, Nat.le_refl 0⟩ hl0 hf)
set_option maxHeartbeats 4000000 in
set_option maxRecDepth 100000 in
theorem tX4_refuse {S : ev_S} {fu : Nat} {r : Int32 × ev_D} {F : ev_Fr} (hR : ev_R RX4 cX4_refuse 2 0 0 0 false (some .boolean) S r F) (hT : ev_Ty S) (hC : sC S ≤ 0 ∧ sA S ≤ 0) {l0 : Nat} {l1 : Int32} {D : ev_D} (hl0 : sK S l0 = 7) (hf : fX4_refuse (sL S) (sE S) fu l0 l1 D = some r) : F S D 0 [some (.ref l0), some (.int l1)] [] := by
  have hX := hR.X
  unfold fX4_refuse at hf
  refine ev_blk hX lkok_RX4 [(.aload_n 0, 1, 0, 0, 0), (.iload_n 1, 1, 0, 0, 0), (.putfield 22, 3, 4, 2, 0), (.aload_n 0, 1, 0, 0, 0), (.aload_n 0, 1, 0, 0, 0), (.getfield 44, 3, 4, 9, 0), (.aload_n 0, 1, 0, 0, 0), (.getfield 41, 3, 4, 8, 0)] (by decide +kernel) (g := (sK S l0 == 7) && ((sK S l0 == 7) && ((sK S l0 == 7) && (true)))) (lv' := [some (.ref l0), some (.int l1)]) (st' := [.int ((ev_up D l0 2 l1) l0 8), .int ((ev_up D l0 2 l1) l0 9), .ref l0]) (D' := (ev_up D l0 2 l1)) (pc' := 14) rfl (ev_gk hl0 (ev_gk hl0 (ev_gk hl0 (rfl)))) rfl ?_
  refine ev_ic_ge hX (off := 27) 41 (by decide +kernel) (by decide) (fun h1 => ?_) (fun h1 => ?_)
  · have hf := ev_it h1 hf
    refine ev_blk hX lkok_RX4 [(.iconst (-1), 1, 0, 0, (-1)), (.putfield 25, 3, 4, 3, 0), (.iconst 0, 1, 0, 0, 0)] (by decide +kernel) (g := (sK S l0 == 7) && (true)) (lv' := [some (.ref l0), some (.int l1)]) (st' := [.int (0 : Int32)]) (D' := (ev_up (ev_up D l0 2 l1) l0 3 (-1 : Int32))) (pc' := 46) rfl (ev_gk hl0 (rfl)) rfl ?_
    exact ev_zret hR ev_sm.rf (Or.inl rfl) (Option.some.inj hf) hC (by decide +kernel)
  · have hf := ev_nf h1 hf
    refine ev_blk hX lkok_RX4 [(.aload_n 0, 1, 0, 0, 0), (.getfield 44, 3, 4, 9, 0), (.aload_n 0, 1, 0, 0, 0), (.getfield 38, 3, 4, 7, 0), (.arraylength, 1, 0, 0, 0)] (by decide +kernel) (g := (sK S l0 == 7) && ((sK S l0 == 7) && ((sK S ((sE S) l0 7) == 1) && (true)))) (lv' := [some (.ref l0), some (.int l1)]) (st' := [.int (Int32.ofNat ((sL S) ((sE S) l0 7))), .int ((ev_up D l0 2 l1) l0 9), .ref l0]) (D' := (ev_up D l0 2 l1)) (pc' := 26) rfl (ev_gk hl0 (ev_gk hl0 (ev_gk (ev_tyk hT hl0 rfl rfl) (rfl)))) rfl ?_
    refine ev_ic_ge hX (off := 15) 41 (by decide +kernel) (by decide) (fun h2 => ?_) (fun h2 => ?_)
    · have hf := ev_it h2 hf
      refine ev_blk hX lkok_RX4 [(.iconst (-1), 1, 0, 0, (-1)), (.putfield 25, 3, 4, 3, 0), (.iconst 0, 1, 0, 0, 0)] (by decide +kernel) (g := (sK S l0 == 7) && (true)) (lv' := [some (.ref l0), some (.int l1)]) (st' := [.int (0 : Int32)]) (D' := (ev_up (ev_up D l0 2 l1) l0 3 (-1 : Int32))) (pc' := 46) rfl (ev_gk hl0 (rfl)) rfl ?_
      exact ev_zret hR ev_sm.rf (Or.inl rfl) (Option.some.inj hf) hC (by decide +kernel)
    · have hf := ev_nf h2 hf
      obtain ⟨hg3, hf⟩ := ev_gd_s hf
      refine ev_blk hX lkok_RX4 [(.aload_n 0, 1, 0, 0, 0), (.getfield 38, 3, 4, 7, 0), (.aload_n 0, 1, 0, 0, 0), (.getfield 44, 3, 4, 9, 0), (.iaload, 1, 0, 0, 0)] (by decide +kernel) (g := (sK S l0 == 7) && ((sK S l0 == 7) && ((sK S ((sE S) l0 7) == 1 && ev_in ((ev_up D l0 2 l1) l0 9) ((sL S) ((sE S) l0 7))) && (true)))) (lv' := [some (.ref l0), some (.int l1)]) (st' := [.int ((ev_up D l0 2 l1) ((sE S) l0 7) (((ev_up D l0 2 l1) l0 9)).toNatClampNeg), .ref l0]) (D' := (ev_up D l0 2 l1)) (pc' := 38) rfl (ev_gk hl0 (ev_gk hl0 (ev_gi (ev_tyk hT hl0 rfl rfl) hg3 (rfl)))) rfl ?_
      refine ev_goto hX (off := 4) 42 (by decide +kernel) (by decide) ?_
      refine ev_blk hX lkok_RX4 [(.putfield 25, 3, 4, 3, 0), (.iconst 0, 1, 0, 0, 0)] (by decide +kernel) (g := (sK S l0 == 7) && (true)) (lv' := [some (.ref l0), some (.int l1)]) (st' := [.int (0 : Int32)]) (D' := (ev_up (ev_up D l0 2 l1) l0 3 ((ev_up D l0 2 l1) ((sE S) l0 7) (((ev_up D l0 2 l1) l0 9)).toNatClampNeg))) (pc' := 46) rfl (ev_gk hl0 (rfl)) rfl ?_
      exact ev_zret hR ev_sm.rf (Or.inl rfl) (Option.some.inj hf) hC (by decide +kernel)
theorem mX4_refuse {S : ev_S} {fu : Nat} {r : Int32 × ev_D} (hT : ev_Ty S) {l0 : Nat} {l1 : Int32} {D : ev_D} (hl0 : sK S l0 = 7) (hf : fX4_refuse (sL S) (sE S) fu l0 l1 D = some r) : ev_M 0 0 0 yX4_refuse cX4_refuse 2 (some .boolean) [.ref l0, .int l1] S D S r :=
  ev_met (ini := false) (plainFor_of_name (by decide)) (fun h => by cases h) rfl (Nat.le_of_ble_eq_true rfl) (fun F hR => tX4_refuse (S := ev_z S) hR hT ⟨Nat.le_refl 0, Nat.le_refl 0⟩ hl0 hf)
set_option maxHeartbeats 4000000 in
set_option maxRecDepth 100000 in
theorem tX4_takeNumber_61 {S : ev_S} {fu : Nat} {r : Int32 × ev_D} {F : ev_Fr} (hR : ev_R RX4 cX4_takeNumber 4 1 0 0 false (some .boolean) S r F) (hT : ev_Ty S) (hC : sC S ≤ 0 ∧ sA S ≤ 0) {l0 : Nat} {l3 : Int32} {D : ev_D} (hl0 : sK S l0 = 7) (hf : fX4_takeNumber_61 (sL S) (sE S) fu l0 l3 D = some r) : F S D 61 [some (.ref l0), none, none, some (.int l3)] [] := by
  have hX := hR.X
  unfold fX4_takeNumber_61 at hf
  refine ev_blk hX lkok_RX4 [(.aload_n 0, 1, 0, 0, 0), (.iload_n 3, 1, 0, 0, 0), (.putfield 47, 3, 4, 10, 0), (.aload_n 0, 1, 0, 0, 0), (.dup, 1, 0, 0, 0), (.getfield 44, 3, 4, 9, 0), (.iconst 1, 1, 0, 0, 1), (.iadd, 1, 0, 0, 0), (.putfield 44, 3, 4, 9, 0), (.iconst 1, 1, 0, 0, 1)] (by decide +kernel) (g := (sK S l0 == 7) && ((sK S l0 == 7) && ((sK S l0 == 7) && (true)))) (lv' := [some (.ref l0), none, none, some (.int l3)]) (st' := [.int (1 : Int32)]) (D' := (ev_up (ev_up D l0 10 l3) l0 9 (((ev_up D l0 10 l3) l0 9) + (1 : Int32)))) (pc' := 77) rfl (ev_gk hl0 (ev_gk hl0 (ev_gk hl0 (rfl)))) rfl ?_
  exact ev_zret hR ev_sm.rf (Or.inr rfl) (Option.some.inj hf) hC (by decide +kernel)
set_option maxHeartbeats 4000000 in
set_option maxRecDepth 100000 in
theorem tX4_takeNumber_55 {S : ev_S} {fu : Nat} {r : Int32 × ev_D} {F : ev_Fr} (hR : ev_R RX4 cX4_takeNumber 4 1 0 0 false (some .boolean) S r F) (hT : ev_Ty S) (hC : sC S ≤ 0 ∧ sA S ≤ 0) {l0 : Nat} {D : ev_D} (hl0 : sK S l0 = 7) (hf : fX4_takeNumber_55 (sL S) (sE S) fu l0 D = some r) : F S D 55 [some (.ref l0), none, none, none] [] := by
  have hX := hR.X
  unfold fX4_takeNumber_55 at hf
  refine ev_blk hX lkok_RX4 [(.aload_n 0, 1, 0, 0, 0), (.iconst 2, 1, 0, 0, 2)] (by decide +kernel) (g := true) (lv' := [some (.ref l0), none, none, none]) (st' := [.int (2 : Int32), .ref l0]) (D' := D) (pc' := 57) rfl (rfl) rfl ?_
  obtain ⟨v1, D1, hc1, hf⟩ := ev_bd_s hf
  refine ev_callV hX YX4_refuse ml_RX4_71 (mX4_refuse hT hl0 hc1) (vs := [.int (2 : Int32)]) (st := []) (by decide) 4 hl0 rfl rfl rfl (by decide +kernel) hC ?_
  show F S D1 60 [some (.ref l0), none, none, none] [.int v1]
  obtain ⟨hz, hf⟩ := ev_gd_s hf
  exact ev_zret hR ev_sm.rf (ev_z01 hz) (Option.some.inj hf) hC (by decide +kernel)
set_option maxHeartbeats 4000000 in
set_option maxRecDepth 100000 in
theorem tX4_takeNumber_20 {S : ev_S} {fu : Nat} {r : Int32 × ev_D} {F : ev_Fr} (hR : ev_R RX4 cX4_takeNumber 4 1 0 0 false (some .boolean) S r F) (hT : ev_Ty S) (hC : sC S ≤ 0 ∧ sA S ≤ 0) {l0 : Nat} {D : ev_D} (hl0 : sK S l0 = 7) (hf : fX4_takeNumber_20 (sL S) (sE S) fu l0 D = some r) : F S D 20 [some (.ref l0), none, none, none] [] := by
  have hX := hR.X
  unfold fX4_takeNumber_20 at hf
  refine ev_blk hX lkok_RX4 [(.aload_n 0, 1, 0, 0, 0), (.iconst 1, 1, 0, 0, 1)] (by decide +kernel) (g := true) (lv' := [some (.ref l0), none, none, none]) (st' := [.int (1 : Int32), .ref l0]) (D' := D) (pc' := 22) rfl (rfl) rfl ?_
  obtain ⟨v2, D2, hc2, hf⟩ := ev_bd_s hf
  refine ev_callV hX YX4_refuse ml_RX4_71 (mX4_refuse hT hl0 hc2) (vs := [.int (1 : Int32)]) (st := []) (by decide) 4 hl0 rfl rfl rfl (by decide +kernel) hC ?_
  show F S D2 25 [some (.ref l0), none, none, none] [.int v2]
  obtain ⟨hz, hf⟩ := ev_gd_s hf
  exact ev_zret hR ev_sm.rf (ev_z01 hz) (Option.some.inj hf) hC (by decide +kernel)
set_option maxHeartbeats 4000000 in
set_option maxRecDepth 100000 in
theorem tX4_takeNumber {S : ev_S} {fu : Nat} {r : Int32 × ev_D} {F : ev_Fr} (hR : ev_R RX4 cX4_takeNumber 4 1 0 0 false (some .boolean) S r F) (hT : ev_Ty S) (hC : sC S ≤ 0 ∧ sA S ≤ 0) {l0 : Nat} {l1 : Int32} {l2 : Int32} {D : ev_D} (hl0 : sK S l0 = 7) (hf : fX4_takeNumber (sL S) (sE S) fu l0 l1 l2 D = some r) : F S D 0 [some (.ref l0), some (.int l1), some (.int l2), none] [] := by
  have hX := hR.X
  unfold fX4_takeNumber at hf
  refine ev_blk hX lkok_RX4 [(.aload_n 0, 1, 0, 0, 0)] (by decide +kernel) (g := true) (lv' := [some (.ref l0), some (.int l1), some (.int l2), none]) (st' := [.ref l0]) (D' := D) (pc' := 1) rfl (rfl) rfl ?_
  obtain ⟨v3, D3, hc3, hf⟩ := ev_bd_s hf
  refine ev_callV hX YX4_kind ml_RX4_63 (mX4_kind hT hl0 hc3) (vs := []) (st := []) (by decide) 4 hl0 rfl rfl rfl (by decide +kernel) hC ?_
  show F S D3 4 [some (.ref l0), some (.int l1), some (.int l2), none] [.int v3]
  refine ev_blk hX lkok_RX4 [(.iconst 2, 1, 0, 0, 2)] (by decide +kernel) (g := true) (lv' := [some (.ref l0), some (.int l1), some (.int l2), none]) (st' := [.int (2 : Int32), .int v3]) (D' := D3) (pc' := 5) rfl (rfl) rfl ?_
  refine ev_ic_ne hX (off := 15) 20 (by decide +kernel) (by decide) (fun h4 => ?_) (fun h4 => ?_)
  · have hf := ev_nf h4 hf
    exact ev_weak hX (ev_le_eq (ev_le_no (ev_le_no (ev_le_no ev_le_nil)))) (tX4_takeNumber_20 hR hT hC   hl0 hf)
  · have hf := ev_it h4 hf
    refine ev_blk hX lkok_RX4 [(.aload_n 0, 1, 0, 0, 0), (.getfield 44, 3, 4, 9, 0), (.aload_n 0, 1, 0, 0, 0), (.getfield 35, 3, 4, 6, 0), (.arraylength, 1, 0, 0, 0)] (by decide +kernel) (g := (sK S l0 == 7) && ((sK S l0 == 7) && ((sK S ((sE S) l0 6) == 1) && (true)))) (lv' := [some (.ref l0), some (.int l1), some (.int l2), none]) (st' := [.int (Int32.ofNat ((sL S) ((sE S) l0 6))), .int (D3 l0 9)]) (D' := D3) (pc' := 17) rfl (ev_gk hl0 (ev_gk hl0 (ev_gk (ev_tyk hT hl0 rfl rfl) (rfl)))) rfl ?_
    refine ev_ic_lt hX (off := 9) 26 (by decide +kernel) (by decide) (fun h5 => ?_) (fun h5 => ?_)
    · have hf := ev_it h5 hf
      obtain ⟨hg10, hf⟩ := ev_gd_s hf
      refine ev_blk hX lkok_RX4 [(.aload_n 0, 1, 0, 0, 0), (.getfield 35, 3, 4, 6, 0), (.aload_n 0, 1, 0, 0, 0), (.getfield 44, 3, 4, 9, 0), (.iaload, 1, 0, 0, 0), (.istore_n 3, 1, 0, 0, 0), (.iload_n 3, 1, 0, 0, 0), (.iload_n 1, 1, 0, 0, 0)] (by decide +kernel) (g := (sK S l0 == 7) && ((sK S l0 == 7) && ((sK S ((sE S) l0 6) == 1 && ev_in (D3 l0 9) ((sL S) ((sE S) l0 6))) && (true)))) (lv' := [some (.ref l0), some (.int l1), some (.int l2), some (.int (D3 ((sE S) l0 6) ((D3 l0 9)).toNatClampNeg))]) (st' := [.int l1, .int (D3 ((sE S) l0 6) ((D3 l0 9)).toNatClampNeg)]) (D' := D3) (pc' := 38) rfl (ev_gk hl0 (ev_gk hl0 (ev_gi (ev_tyk hT hl0 rfl rfl) hg10 (rfl)))) rfl ?_
      refine ev_ic_gt hX (off := 17) 55 (by decide +kernel) (by decide) (fun h6 => ?_) (fun h6 => ?_)
      · have hf := ev_it h6 hf
        exact ev_weak hX (ev_le_eq (ev_le_no (ev_le_no (ev_le_no ev_le_nil)))) (tX4_takeNumber_55 hR hT hC   hl0 hf)
      · have hf := ev_nf h6 hf
        refine ev_blk hX lkok_RX4 [(.iload_n 3, 1, 0, 0, 0), (.bipush 31, 2, 0, 0, 31)] (by decide +kernel) (g := true) (lv' := [some (.ref l0), some (.int l1), some (.int l2), some (.int (D3 ((sE S) l0 6) ((D3 l0 9)).toNatClampNeg))]) (st' := [.int (31 : Int32), .int (D3 ((sE S) l0 6) ((D3 l0 9)).toNatClampNeg)]) (D' := D3) (pc' := 44) rfl (rfl) rfl ?_
        refine ev_ic_ge hX (off := 17) 61 (by decide +kernel) (by decide) (fun h7 => ?_) (fun h7 => ?_)
        · have hf := ev_it h7 hf
          exact ev_weak hX (ev_le_eq (ev_le_no (ev_le_no (ev_le_eq ev_le_nil)))) (tX4_takeNumber_61 hR hT hC   hl0 hf)
        · have hf := ev_nf h7 hf
          refine ev_blk hX lkok_RX4 [(.iload_n 2, 1, 0, 0, 0), (.iload_n 3, 1, 0, 0, 0)] (by decide +kernel) (g := true) (lv' := [some (.ref l0), some (.int l1), some (.int l2), some (.int (D3 ((sE S) l0 6) ((D3 l0 9)).toNatClampNeg))]) (st' := [.int (D3 ((sE S) l0 6) ((D3 l0 9)).toNatClampNeg), .int l2]) (D' := D3) (pc' := 49) rfl (rfl) rfl ?_
          obtain ⟨v8, D8, hc8, hf⟩ := ev_bd_s hf
          refine ev_callSN hX YX11_isIn ml_RX4_156 (mX11_isIn hT  hc8) (vs := [.int l2, .int (D3 ((sE S) l0 6) ((D3 l0 9)).toNatClampNeg)]) (st := []) (by decide) rfl rfl (by decide +kernel) hC ?_
          show F S D8 52 [some (.ref l0), some (.int l1), some (.int l2), some (.int (D3 ((sE S) l0 6) ((D3 l0 9)).toNatClampNeg))] [.int v8]
          refine ev_if_eq hX (off := 9) 61 (by decide +kernel) (by decide) (fun h9 => ?_) (fun h9 => ?_)
          · have hf := ev_it h9 hf
            exact ev_weak hX (ev_le_eq (ev_le_no (ev_le_no (ev_le_eq ev_le_nil)))) (tX4_takeNumber_61 hR hT hC   hl0 hf)
          · have hf := ev_nf h9 hf
            exact ev_weak hX (ev_le_eq (ev_le_no (ev_le_no (ev_le_no ev_le_nil)))) (tX4_takeNumber_55 hR hT hC   hl0 hf)
    · have hf := ev_nf h5 hf
      exact ev_weak hX (ev_le_eq (ev_le_no (ev_le_no (ev_le_no ev_le_nil)))) (tX4_takeNumber_20 hR hT hC   hl0 hf)
theorem mX4_takeNumber {S : ev_S} {fu : Nat} {r : Int32 × ev_D} (hT : ev_Ty S) {l0 : Nat} {l1 : Int32} {l2 : Int32} {D : ev_D} (hl0 : sK S l0 = 7) (hf : fX4_takeNumber (sL S) (sE S) fu l0 l1 l2 D = some r) : ev_M 1 0 0 yX4_takeNumber cX4_takeNumber 4 (some .boolean) [.ref l0, .int l1, .int l2] S D S r :=
  ev_met (ini := false) (plainFor_of_name (by decide)) (fun h => by cases h) rfl (Nat.le_of_ble_eq_true rfl) (fun F hR => tX4_takeNumber (S := ev_z S) hR hT ⟨Nat.le_refl 0, Nat.le_refl 0⟩ hl0 hf)
set_option maxHeartbeats 4000000 in
set_option maxRecDepth 100000 in
theorem tX6_add_53 {S : ev_S} {fu : Nat} {r : Int32 × ev_D} {F : ev_Fr} (hR : ev_R RX6 cX6_add 4 0 0 0 false (some .int) S r F) (hT : ev_Ty S) (hC : sC S ≤ 0 ∧ sA S ≤ 0) {l0 : Nat} {D : ev_D} (hl0 : sK S l0 = 9) (hf : fX6_add_53 (sL S) (sE S) fu l0 D = some r) : F S D 53 [some (.ref l0), none, none, none] [] := by
  have hX := hR.X
  unfold fX6_add_53 at hf
  refine ev_blk hX lkok_RX6 [(.aload_n 0, 1, 0, 0, 0), (.dup, 1, 0, 0, 0), (.getfield 9, 3, 6, 0, 0), (.iconst 1, 1, 0, 0, 1), (.iadd, 1, 0, 0, 0), (.putfield 9, 3, 6, 0, 0), (.aload_n 0, 1, 0, 0, 0), (.getfield 9, 3, 6, 0, 0)] (by decide +kernel) (g := (sK S l0 == 9) && ((sK S l0 == 9) && ((sK S l0 == 9) && (true)))) (lv' := [some (.ref l0), none, none, none]) (st' := [.int ((ev_up D l0 0 ((D l0 0) + (1 : Int32))) l0 0)]) (D' := (ev_up D l0 0 ((D l0 0) + (1 : Int32)))) (pc' := 67) rfl (ev_gk hl0 (ev_gk hl0 (ev_gk hl0 (rfl)))) rfl ?_
  exact ev_iret hR ev_sm.rf (Option.some.inj hf) hC (by decide +kernel)
set_option maxHeartbeats 4000000 in
set_option maxRecDepth 100000 in
theorem tX6_add {S : ev_S} {fu : Nat} {r : Int32 × ev_D} {F : ev_Fr} (hR : ev_R RX6 cX6_add 4 0 0 0 false (some .int) S r F) (hT : ev_Ty S) (hC : sC S ≤ 0 ∧ sA S ≤ 0) {l0 : Nat} {l1 : Int32} {l2 : Int32} {l3 : Int32} {D : ev_D} (hl0 : sK S l0 = 9) (hf : fX6_add (sL S) (sE S) fu l0 l1 l2 l3 D = some r) : F S D 0 [some (.ref l0), some (.int l1), some (.int l2), some (.int l3)] [] := by
  have hX := hR.X
  unfold fX6_add at hf
  refine ev_blk hX lkok_RX6 [(.aload_n 0, 1, 0, 0, 0), (.getfield 9, 3, 6, 0, 0), (.aload_n 0, 1, 0, 0, 0), (.getfield 21, 3, 6, 1, 0)] (by decide +kernel) (g := (sK S l0 == 9) && ((sK S l0 == 9) && (true))) (lv' := [some (.ref l0), some (.int l1), some (.int l2), some (.int l3)]) (st' := [.int (D l0 1), .int (D l0 0)]) (D' := D) (pc' := 8) rfl (ev_gk hl0 (ev_gk hl0 (rfl))) rfl ?_
  refine ev_ic_lt hX (off := 5) 13 (by decide +kernel) (by decide) (fun h1 => ?_) (fun h1 => ?_)
  · have hf := ev_it h1 hf
    obtain ⟨hg2, hf⟩ := ev_gd_s hf
    obtain ⟨hg3, hf⟩ := ev_gd_s hf
    obtain ⟨hg4, hf⟩ := ev_gd_s hf
    refine ev_blk hX lkok_RX6 [(.aload_n 0, 1, 0, 0, 0), (.getfield 24, 3, 6, 2, 0), (.aload_n 0, 1, 0, 0, 0), (.getfield 9, 3, 6, 0, 0), (.iconst 3, 1, 0, 0, 3), (.imul, 1, 0, 0, 0), (.iload_n 1, 1, 0, 0, 0), (.iastore, 1, 0, 0, 0), (.aload_n 0, 1, 0, 0, 0), (.getfield 24, 3, 6, 2, 0), (.aload_n 0, 1, 0, 0, 0), (.getfield 9, 3, 6, 0, 0), (.iconst 3, 1, 0, 0, 3), (.imul, 1, 0, 0, 0), (.iconst 1, 1, 0, 0, 1), (.iadd, 1, 0, 0, 0), (.iload_n 2, 1, 0, 0, 0), (.iastore, 1, 0, 0, 0), (.aload_n 0, 1, 0, 0, 0), (.getfield 24, 3, 6, 2, 0), (.aload_n 0, 1, 0, 0, 0), (.getfield 9, 3, 6, 0, 0), (.iconst 3, 1, 0, 0, 3), (.imul, 1, 0, 0, 0), (.iconst 2, 1, 0, 0, 2), (.iadd, 1, 0, 0, 0), (.iload_n 3, 1, 0, 0, 0), (.iastore, 1, 0, 0, 0)] (by decide +kernel) (g := (sK S l0 == 9) && ((sK S l0 == 9) && ((sK S ((sE S) l0 2) == 1 && ev_in ((D l0 0) * (3 : Int32)) ((sL S) ((sE S) l0 2))) && ((sK S l0 == 9) && ((sK S l0 == 9) && ((sK S ((sE S) l0 2) == 1 && ev_in ((((ev_up D ((sE S) l0 2) (((D l0 0) * (3 : Int32))).toNatClampNeg l1) l0 0) * (3 : Int32)) + (1 : Int32)) ((sL S) ((sE S) l0 2))) && ((sK S l0 == 9) && ((sK S l0 == 9) && ((sK S ((sE S) l0 2) == 1 && ev_in ((((ev_up (ev_up D ((sE S) l0 2) (((D l0 0) * (3 : Int32))).toNatClampNeg l1) ((sE S) l0 2) (((((ev_up D ((sE S) l0 2) (((D l0 0) * (3 : Int32))).toNatClampNeg l1) l0 0) * (3 : Int32)) + (1 : Int32))).toNatClampNeg l2) l0 0) * (3 : Int32)) + (2 : Int32)) ((sL S) ((sE S) l0 2))) && (true)))))))))) (lv' := [some (.ref l0), some (.int l1), some (.int l2), some (.int l3)]) (st' := []) (D' := (ev_up (ev_up (ev_up D ((sE S) l0 2) (((D l0 0) * (3 : Int32))).toNatClampNeg l1) ((sE S) l0 2) (((((ev_up D ((sE S) l0 2) (((D l0 0) * (3 : Int32))).toNatClampNeg l1) l0 0) * (3 : Int32)) + (1 : Int32))).toNatClampNeg l2) ((sE S) l0 2) (((((ev_up (ev_up D ((sE S) l0 2) (((D l0 0) * (3 : Int32))).toNatClampNeg l1) ((sE S) l0 2) (((((ev_up D ((sE S) l0 2) (((D l0 0) * (3 : Int32))).toNatClampNeg l1) l0 0) * (3 : Int32)) + (1 : Int32))).toNatClampNeg l2) l0 0) * (3 : Int32)) + (2 : Int32))).toNatClampNeg l3)) (pc' := 53) rfl (ev_gk hl0 (ev_gk hl0 (ev_gi (ev_tyk hT hl0 rfl rfl) hg2 (ev_gk hl0 (ev_gk hl0 (ev_gi (ev_tyk hT hl0 rfl rfl) hg3 (ev_gk hl0 (ev_gk hl0 (ev_gi (ev_tyk hT hl0 rfl rfl) hg4 (rfl)))))))))) rfl ?_
    exact ev_weak hX (ev_le_eq (ev_le_no (ev_le_no (ev_le_no ev_le_nil)))) (tX6_add_53 hR hT hC   hl0 hf)
  · have hf := ev_nf h1 hf
    refine ev_blk hX lkok_RX6 [(.iconst (-1), 1, 0, 0, (-1))] (by decide +kernel) (g := true) (lv' := [some (.ref l0), some (.int l1), some (.int l2), some (.int l3)]) (st' := [.int (-1 : Int32)]) (D' := D) (pc' := 12) rfl (rfl) rfl ?_
    exact ev_iret hR ev_sm.rf (Option.some.inj hf) hC (by decide +kernel)
theorem mX6_add {S : ev_S} {fu : Nat} {r : Int32 × ev_D} (hT : ev_Ty S) {l0 : Nat} {l1 : Int32} {l2 : Int32} {l3 : Int32} {D : ev_D} (hl0 : sK S l0 = 9) (hf : fX6_add (sL S) (sE S) fu l0 l1 l2 l3 D = some r) : ev_M 0 0 0 yX6_add cX6_add 4 (some .int) [.ref l0, .int l1, .int l2, .int l3] S D S r :=
  ev_met (ini := false) (plainFor_of_name (by decide)) (fun h => by cases h) rfl (Nat.le_of_ble_eq_true rfl) (fun F hR => tX6_add (S := ev_z S) hR hT ⟨Nat.le_refl 0, Nat.le_refl 0⟩ hl0 hf)
set_option maxHeartbeats 4000000 in
set_option maxRecDepth 100000 in
theorem tX4_readChange_70 {S : ev_S} {fu : Nat} {r : Int32 × ev_D} {F : ev_Fr} (hR : ev_R RX4 cX4_readChange 3 2 0 0 false (some .boolean) S r F) (hT : ev_Ty S) (hC : sC S ≤ 0 ∧ sA S ≤ 0) {l0 : Nat} {l1 : Int32} {D : ev_D} (hl0 : sK S l0 = 7) (hf : fX4_readChange_70 (sL S) (sE S) fu l0 l1 D = some r) : F S D 70 [some (.ref l0), some (.int l1), none] [] := by
  have hX := hR.X
  unfold fX4_readChange_70 at hf
  refine ev_blk hX lkok_RX4 [(.aload_n 0, 1, 0, 0, 0), (.getfield 14, 3, 4, 0, 0), (.getfield 111, 3, 7, 3, 0), (.iload_n 1, 1, 0, 0, 0), (.iconst 0, 1, 0, 0, 0), (.iconst 0, 1, 0, 0, 0)] (by decide +kernel) (g := (sK S l0 == 7) && ((sK S ((sE S) l0 0) == 10) && (true))) (lv' := [some (.ref l0), some (.int l1), none]) (st' := [.int (0 : Int32), .int (0 : Int32), .int l1, .ref ((sE S) ((sE S) l0 0) 3)]) (D' := D) (pc' := 80) rfl (ev_gk hl0 (ev_gk (ev_tyk hT hl0 rfl rfl) (rfl))) rfl ?_
  obtain ⟨v1, D1, hc1, hf⟩ := ev_bd_s hf
  refine ev_callV hX YX6_add ml_RX4_163 (mX6_add hT (ev_tyk hT (ev_tyk hT hl0 rfl rfl) rfl rfl) hc1) (vs := [.int l1, .int (0 : Int32), .int (0 : Int32)]) (st := []) (by decide) 6 (ev_tyk hT (ev_tyk hT hl0 rfl rfl) rfl rfl) rfl rfl rfl (by decide +kernel) hC ?_
  show F S D1 83 [some (.ref l0), some (.int l1), none] [.int v1]
  refine ev_blk hX lkok_RX4 [(.pop, 1, 0, 0, 0), (.iconst 1, 1, 0, 0, 1)] (by decide +kernel) (g := true) (lv' := [some (.ref l0), some (.int l1), none]) (st' := [.int (1 : Int32)]) (D' := D1) (pc' := 85) rfl (rfl) rfl ?_
  exact ev_zret hR ev_sm.rf (Or.inr rfl) (Option.some.inj hf) hC (by decide +kernel)
set_option maxHeartbeats 4000000 in
set_option maxRecDepth 100000 in
theorem tX4_readChange_35 {S : ev_S} {fu : Nat} {r : Int32 × ev_D} {F : ev_Fr} (hR : ev_R RX4 cX4_readChange 3 2 0 0 false (some .boolean) S r F) (hT : ev_Ty S) (hC : sC S ≤ 0 ∧ sA S ≤ 0) {k14 : Nat → Int32 → Int32 → ev_D → ev_Op} (hk14 : ∀ (l0 : Nat) (l1 : Int32) (l2 : Int32) (D : ev_D), sK S l0 = 7 → k14 l0 l1 l2 D = some r → F S D 14 [some (.ref l0), some (.int l1), some (.int l2)] []) {l0 : Nat} {l1 : Int32} {l2 : Int32} {D : ev_D} (hl0 : sK S l0 = 7) (hf : fX4_readChange_35 (sL S) (sE S) fu k14 l0 l1 l2 D = some r) : F S D 35 [some (.ref l0), some (.int l1), some (.int l2)] [] := by
  have hX := hR.X
  unfold fX4_readChange_35 at hf
  refine ev_blk hX lkok_RX4 [(.aload_n 0, 1, 0, 0, 0), (.bipush 6, 2, 0, 0, 6), (.iload_n 1, 1, 0, 0, 0), (.iload_n 1, 1, 0, 0, 0), (.iconst 1, 1, 0, 0, 1), (.ishl, 1, 0, 0, 0), (.ior, 1, 0, 0, 0), (.iload_n 1, 1, 0, 0, 0), (.iconst 1, 1, 0, 0, 1), (.ishr, 1, 0, 0, 0), (.ior, 1, 0, 0, 0)] (by decide +kernel) (g := true) (lv' := [some (.ref l0), some (.int l1), some (.int l2)]) (st' := [.int ((l1 ||| (l1 <<< ((1 : Int32) &&& 31))) ||| (l1 >>> ((1 : Int32) &&& 31))), .int (6 : Int32), .ref l0]) (D' := D) (pc' := 47) rfl (rfl) rfl ?_
  obtain ⟨v2, D2, hc2, hf⟩ := ev_bd_s hf
  refine ev_callV hX YX4_takeNumber ml_RX4_160 (mX4_takeNumber hT hl0 hc2) (vs := [.int (6 : Int32), .int ((l1 ||| (l1 <<< ((1 : Int32) &&& 31))) ||| (l1 >>> ((1 : Int32) &&& 31)))]) (st := []) (by decide) 4 hl0 rfl rfl rfl (by decide +kernel) hC ?_
  show F S D2 50 [some (.ref l0), some (.int l1), some (.int l2)] [.int v2]
  refine ev_if_ne hX (off := 5) 55 (by decide +kernel) (by decide) (fun h3 => ?_) (fun h3 => ?_)
  · have hf := ev_nf h3 hf
    refine ev_blk hX lkok_RX4 [(.iload_n 1, 1, 0, 0, 0), (.iconst 1, 1, 0, 0, 1), (.aload_n 0, 1, 0, 0, 0), (.getfield 47, 3, 4, 10, 0), (.ishl, 1, 0, 0, 0), (.ior, 1, 0, 0, 0), (.istore_n 1, 1, 0, 0, 0), (.iinc 2 1, 3, 0, 0, 1)] (by decide +kernel) (g := (sK S l0 == 7) && (true)) (lv' := [some (.ref l0), some (.int (l1 ||| ((1 : Int32) <<< ((D2 l0 10) &&& 31)))), some (.int (l2 + (1 : Int32)))]) (st' := []) (D' := D2) (pc' := 67) rfl (ev_gk hl0 (rfl)) rfl ?_
    refine ev_goto hX (off := (-53)) 14 (by decide +kernel) (by decide) ?_
    exact ev_weak hX (ev_le_eq (ev_le_eq (ev_le_eq ev_le_nil))) (hk14 _ _ _ _ hl0 hf)
  · have hf := ev_it h3 hf
    refine ev_blk hX lkok_RX4 [(.iconst 0, 1, 0, 0, 0)] (by decide +kernel) (g := true) (lv' := [some (.ref l0), some (.int l1), some (.int l2)]) (st' := [.int (0 : Int32)]) (D' := D2) (pc' := 54) rfl (rfl) rfl ?_
    exact ev_zret hR ev_sm.rf (Or.inl rfl) (Option.some.inj hf) hC (by decide +kernel)
set_option maxHeartbeats 4000000 in
set_option maxRecDepth 100000 in
theorem tX4_readChange_14 {S : ev_S} {fu : Nat} {r : Int32 × ev_D} {F : ev_Fr} (hR : ev_R RX4 cX4_readChange 3 2 0 0 false (some .boolean) S r F) (hT : ev_Ty S) (hC : sC S ≤ 0 ∧ sA S ≤ 0) : ∀ (n : Nat) (l0 : Nat) (l1 : Int32) (l2 : Int32) (D : ev_D), sK S l0 = 7 → fX4_readChange_14 (sL S) (sE S) fu n l0 l1 l2 D = some r → F S D 14 [some (.ref l0), some (.int l1), some (.int l2)] [] := by
  have hX := hR.X
  intro n
  induction n with
  | zero =>
    intro l0 l1 l2 D hl0 hf
    rw [fX4_readChange_14] at hf
    cases hf
  | succ n ih =>
    intro l0 l1 l2 D hl0 hf
    rw [fX4_readChange_14] at hf
    refine ev_blk hX lkok_RX4 [(.iload_n 2, 1, 0, 0, 0), (.bipush 7, 2, 0, 0, 7)] (by decide +kernel) (g := true) (lv' := [some (.ref l0), some (.int l1), some (.int l2)]) (st' := [.int (7 : Int32), .int l2]) (D' := D) (pc' := 17) rfl (rfl) rfl ?_
    refine ev_ic_gt hX (off := 53) 70 (by decide +kernel) (by decide) (fun h4 => ?_) (fun h4 => ?_)
    · have hf := ev_it h4 hf
      exact ev_weak hX (ev_le_eq (ev_le_eq (ev_le_no ev_le_nil))) (tX4_readChange_70 hR hT hC   hl0 hf)
    · have hf := ev_nf h4 hf
      refine ev_blk hX lkok_RX4 [(.iload_n 2, 1, 0, 0, 0)] (by decide +kernel) (g := true) (lv' := [some (.ref l0), some (.int l1), some (.int l2)]) (st' := [.int l2]) (D' := D) (pc' := 21) rfl (rfl) rfl ?_
      refine ev_if_le hX (off := 14) 35 (by decide +kernel) (by decide) (fun h5 => ?_) (fun h5 => ?_)
      · have hf := ev_it h5 hf
        exact ev_weak hX (ev_le_eq (ev_le_eq (ev_le_eq ev_le_nil))) (tX4_readChange_35 hR hT hC  ih hl0 hf)
      · have hf := ev_nf h5 hf
        refine ev_blk hX lkok_RX4 [(.aload_n 0, 1, 0, 0, 0)] (by decide +kernel) (g := true) (lv' := [some (.ref l0), some (.int l1), some (.int l2)]) (st' := [.ref l0]) (D' := D) (pc' := 25) rfl (rfl) rfl ?_
        obtain ⟨v6, D6, hc6, hf⟩ := ev_bd_s hf
        refine ev_callV hX YX4_kind ml_RX4_63 (mX4_kind hT hl0 hc6) (vs := []) (st := []) (by decide) 4 hl0 rfl rfl rfl (by decide +kernel) hC ?_
        show F S D6 28 [some (.ref l0), some (.int l1), some (.int l2)] [.int v6]
        refine ev_blk hX lkok_RX4 [(.iconst 2, 1, 0, 0, 2)] (by decide +kernel) (g := true) (lv' := [some (.ref l0), some (.int l1), some (.int l2)]) (st' := [.int (2 : Int32), .int v6]) (D' := D6) (pc' := 29) rfl (rfl) rfl ?_
        refine ev_ic_eq hX (off := 6) 35 (by decide +kernel) (by decide) (fun h7 => ?_) (fun h7 => ?_)
        · have hf := ev_it h7 hf
          exact ev_weak hX (ev_le_eq (ev_le_eq (ev_le_eq ev_le_nil))) (tX4_readChange_35 hR hT hC  ih hl0 hf)
        · have hf := ev_nf h7 hf
          refine ev_goto hX (off := 38) 70 (by decide +kernel) (by decide) ?_
          exact ev_weak hX (ev_le_eq (ev_le_eq (ev_le_no ev_le_nil))) (tX4_readChange_70 hR hT hC   hl0 hf)
set_option maxHeartbeats 4000000 in
set_option maxRecDepth 100000 in
theorem tX4_readChange {S : ev_S} {fu : Nat} {r : Int32 × ev_D} {F : ev_Fr} (hR : ev_R RX4 cX4_readChange 3 2 0 0 false (some .boolean) S r F) (hT : ev_Ty S) (hC : sC S ≤ 0 ∧ sA S ≤ 0) {l0 : Nat} {D : ev_D} (hl0 : sK S l0 = 7) (hf : fX4_readChange (sL S) (sE S) fu l0 D = some r) : F S D 0 [some (.ref l0), none, none] [] := by
  have hX := hR.X
  unfold fX4_readChange at hf
  refine ev_blk hX lkok_RX4 [(.iconst 0, 1, 0, 0, 0), (.istore_n 1, 1, 0, 0, 0), (.aload_n 0, 1, 0, 0, 0), (.dup, 1, 0, 0, 0), (.getfield 44, 3, 4, 9, 0), (.iconst 1, 1, 0, 0, 1), (.iadd, 1, 0, 0, 0), (.putfield 44, 3, 4, 9, 0), (.iconst 0, 1, 0, 0, 0), (.istore_n 2, 1, 0, 0, 0)] (by decide +kernel) (g := (sK S l0 == 7) && ((sK S l0 == 7) && (true))) (lv' := [some (.ref l0), some (.int (0 : Int32)), some (.int (0 : Int32))]) (st' := []) (D' := (ev_up D l0 9 ((D l0 9) + (1 : Int32)))) (pc' := 14) rfl (ev_gk hl0 (ev_gk hl0 (rfl))) rfl ?_
  exact ev_weak hX (ev_le_eq (ev_le_eq (ev_le_eq ev_le_nil))) (tX4_readChange_14 hR hT hC   fu _ _ _ _ hl0 hf)
theorem mX4_readChange {S : ev_S} {fu : Nat} {r : Int32 × ev_D} (hT : ev_Ty S) {l0 : Nat} {D : ev_D} (hl0 : sK S l0 = 7) (hf : fX4_readChange (sL S) (sE S) fu l0 D = some r) : ev_M 2 0 0 yX4_readChange cX4_readChange 3 (some .boolean) [.ref l0] S D S r :=
  ev_met (ini := false) (plainFor_of_name (by decide)) (fun h => by cases h) rfl (Nat.le_of_ble_eq_true rfl) (fun F hR => tX4_readChange (S := ev_z S) hR hT ⟨Nat.le_refl 0, Nat.le_refl 0⟩ hl0 hf)
set_option maxHeartbeats 4000000 in
set_option maxRecDepth 100000 in
theorem tX4_readDay_98 {S : ev_S} {fu : Nat} {r : Int32 × ev_D} {F : ev_Fr} (hR : ev_R RX4 cX4_readDay 4 2 0 0 false (some .boolean) S r F) (hT : ev_Ty S) (hC : sC S ≤ 0 ∧ sA S ≤ 0) {l0 : Nat} {l1 : Int32} {l3 : Int32} {s0 : Nat} {s1 : Int32} {D : ev_D} (hl0 : sK S l0 = 7) (hs0 : sK S s0 = 7) (hf : fX4_readDay_98 (sL S) (sE S) fu l0 l1 l3 s0 s1 D = some r) : F S D 98 [some (.ref l0), some (.int l1), none, some (.int l3)] [.int s1, .ref s0] := by
  have hX := hR.X
  unfold fX4_readDay_98 at hf
  refine ev_blk hX lkok_RX4 [(.iconst 0, 1, 0, 0, 0)] (by decide +kernel) (g := true) (lv' := [some (.ref l0), some (.int l1), none, some (.int l3)]) (st' := [.int (0 : Int32), .int s1, .ref s0]) (D' := D) (pc' := 99) rfl (rfl) rfl ?_
  obtain ⟨v1, D1, hc1, hf⟩ := ev_bd_s hf
  refine ev_callV hX YX4_takeNumber ml_RX4_160 (mX4_takeNumber hT hs0 hc1) (vs := [.int s1, .int (0 : Int32)]) (st := []) (by decide) 4 hs0 rfl rfl rfl (by decide +kernel) hC ?_
  show F S D1 102 [some (.ref l0), some (.int l1), none, some (.int l3)] [.int v1]
  refine ev_if_ne hX (off := 5) 107 (by decide +kernel) (by decide) (fun h2 => ?_) (fun h2 => ?_)
  · have hf := ev_nf h2 hf
    refine ev_blk hX lkok_RX4 [(.aload_n 0, 1, 0, 0, 0), (.getfield 14, 3, 4, 0, 0), (.getfield 108, 3, 7, 2, 0), (.iload_n 1, 1, 0, 0, 0), (.iload_n 3, 1, 0, 0, 0), (.aload_n 0, 1, 0, 0, 0), (.getfield 47, 3, 4, 10, 0)] (by decide +kernel) (g := (sK S l0 == 7) && ((sK S ((sE S) l0 0) == 10) && ((sK S l0 == 7) && (true)))) (lv' := [some (.ref l0), some (.int l1), none, some (.int l3)]) (st' := [.int (D1 l0 10), .int l3, .int l1, .ref ((sE S) ((sE S) l0 0) 2)]) (D' := D1) (pc' := 120) rfl (ev_gk hl0 (ev_gk (ev_tyk hT hl0 rfl rfl) (ev_gk hl0 (rfl)))) rfl ?_
    obtain ⟨v3, D3, hc3, hf⟩ := ev_bd_s hf
    refine ev_callV hX YX6_add ml_RX4_163 (mX6_add hT (ev_tyk hT (ev_tyk hT hl0 rfl rfl) rfl rfl) hc3) (vs := [.int l1, .int l3, .int (D1 l0 10)]) (st := []) (by decide) 6 (ev_tyk hT (ev_tyk hT hl0 rfl rfl) rfl rfl) rfl rfl rfl (by decide +kernel) hC ?_
    show F S D3 123 [some (.ref l0), some (.int l1), none, some (.int l3)] [.int v3]
    refine ev_blk hX lkok_RX4 [(.pop, 1, 0, 0, 0), (.iconst 1, 1, 0, 0, 1)] (by decide +kernel) (g := true) (lv' := [some (.ref l0), some (.int l1), none, some (.int l3)]) (st' := [.int (1 : Int32)]) (D' := D3) (pc' := 125) rfl (rfl) rfl ?_
    exact ev_zret hR ev_sm.rf (Or.inr rfl) (Option.some.inj hf) hC (by decide +kernel)
  · have hf := ev_it h2 hf
    refine ev_blk hX lkok_RX4 [(.iconst 0, 1, 0, 0, 0)] (by decide +kernel) (g := true) (lv' := [some (.ref l0), some (.int l1), none, some (.int l3)]) (st' := [.int (0 : Int32)]) (D' := D1) (pc' := 106) rfl (rfl) rfl ?_
    exact ev_zret hR ev_sm.rf (Or.inl rfl) (Option.some.inj hf) hC (by decide +kernel)
set_option maxHeartbeats 4000000 in
set_option maxRecDepth 100000 in
theorem tX4_readDay_74 {S : ev_S} {fu : Nat} {r : Int32 × ev_D} {F : ev_Fr} (hR : ev_R RX4 cX4_readDay 4 2 0 0 false (some .boolean) S r F) (hT : ev_Ty S) (hC : sC S ≤ 0 ∧ sA S ≤ 0) {l0 : Nat} {l1 : Int32} {s0 : Int32} {D : ev_D} (hl0 : sK S l0 = 7) (hf : fX4_readDay_74 (sL S) (sE S) fu l0 l1 s0 D = some r) : F S D 74 [some (.ref l0), some (.int l1), none, none] [.int s0] := by
  have hX := hR.X
  unfold fX4_readDay_74 at hf
  refine ev_blk hX lkok_RX4 [(.istore_n 3, 1, 0, 0, 0), (.aload_n 0, 1, 0, 0, 0), (.dup, 1, 0, 0, 0), (.getfield 44, 3, 4, 9, 0), (.iconst 1, 1, 0, 0, 1), (.iadd, 1, 0, 0, 0), (.putfield 44, 3, 4, 9, 0), (.aload_n 0, 1, 0, 0, 0), (.iload_n 3, 1, 0, 0, 0), (.iconst 5, 1, 0, 0, 5)] (by decide +kernel) (g := (sK S l0 == 7) && ((sK S l0 == 7) && (true))) (lv' := [some (.ref l0), some (.int l1), none, some (.int s0)]) (st' := [.int (5 : Int32), .int s0, .ref l0]) (D' := (ev_up D l0 9 ((D l0 9) + (1 : Int32)))) (pc' := 88) rfl (ev_gk hl0 (ev_gk hl0 (rfl))) rfl ?_
  refine ev_ic_ne hX (off := 8) 96 (by decide +kernel) (by decide) (fun h4 => ?_) (fun h4 => ?_)
  · have hf := ev_nf h4 hf
    refine ev_blk hX lkok_RX4 [(.bipush 99, 2, 0, 0, 99)] (by decide +kernel) (g := true) (lv' := [some (.ref l0), some (.int l1), none, some (.int s0)]) (st' := [.int (99 : Int32), .ref l0]) (D' := (ev_up D l0 9 ((D l0 9) + (1 : Int32)))) (pc' := 98) rfl (rfl) rfl ?_
    exact ev_weak hX (ev_le_eq (ev_le_eq (ev_le_no (ev_le_eq ev_le_nil)))) (tX4_readDay_98 hR hT hC   hl0 hl0 hf)
  · have hf := ev_it h4 hf
    refine ev_blk hX lkok_RX4 [(.bipush 9, 2, 0, 0, 9)] (by decide +kernel) (g := true) (lv' := [some (.ref l0), some (.int l1), none, some (.int s0)]) (st' := [.int (9 : Int32), .ref l0]) (D' := (ev_up D l0 9 ((D l0 9) + (1 : Int32)))) (pc' := 93) rfl (rfl) rfl ?_
    refine ev_goto hX (off := 5) 98 (by decide +kernel) (by decide) ?_
    exact ev_weak hX (ev_le_eq (ev_le_eq (ev_le_no (ev_le_eq ev_le_nil)))) (tX4_readDay_98 hR hT hC   hl0 hl0 hf)
set_option maxHeartbeats 4000000 in
set_option maxRecDepth 100000 in
theorem tX4_readDay_58 {S : ev_S} {fu : Nat} {r : Int32 × ev_D} {F : ev_Fr} (hR : ev_R RX4 cX4_readDay 4 2 0 0 false (some .boolean) S r F) (hT : ev_Ty S) (hC : sC S ≤ 0 ∧ sA S ≤ 0) {l0 : Nat} {l1 : Int32} {l2 : Int32} {D : ev_D} (hl0 : sK S l0 = 7) (hf : fX4_readDay_58 (sL S) (sE S) fu l0 l1 l2 D = some r) : F S D 58 [some (.ref l0), some (.int l1), some (.int l2), none] [] := by
  have hX := hR.X
  unfold fX4_readDay_58 at hf
  refine ev_blk hX lkok_RX4 [(.iload_n 2, 1, 0, 0, 0), (.sipush 271, 3, 0, 0, 271)] (by decide +kernel) (g := true) (lv' := [some (.ref l0), some (.int l1), some (.int l2), none]) (st' := [.int (271 : Int32), .int l2]) (D' := D) (pc' := 62) rfl (rfl) rfl ?_
  refine ev_ic_ne hX (off := 7) 69 (by decide +kernel) (by decide) (fun h5 => ?_) (fun h5 => ?_)
  · have hf := ev_nf h5 hf
    refine ev_blk hX lkok_RX4 [(.iload_n 2, 1, 0, 0, 0), (.sipush 277, 3, 0, 0, 277), (.isub, 1, 0, 0, 0)] (by decide +kernel) (g := true) (lv' := [some (.ref l0), some (.int l1), some (.int l2), none]) (st' := [.int (l2 - (277 : Int32))]) (D' := D) (pc' := 74) rfl (rfl) rfl ?_
    exact ev_weak hX (ev_le_eq (ev_le_eq (ev_le_no (ev_le_no ev_le_nil)))) (tX4_readDay_74 hR hT hC   hl0 hf)
  · have hf := ev_it h5 hf
    refine ev_blk hX lkok_RX4 [(.iconst 5, 1, 0, 0, 5)] (by decide +kernel) (g := true) (lv' := [some (.ref l0), some (.int l1), some (.int l2), none]) (st' := [.int (5 : Int32)]) (D' := D) (pc' := 66) rfl (rfl) rfl ?_
    refine ev_goto hX (off := 8) 74 (by decide +kernel) (by decide) ?_
    exact ev_weak hX (ev_le_eq (ev_le_eq (ev_le_no (ev_le_no ev_le_nil)))) (tX4_readDay_74 hR hT hC   hl0 hf)
set_option maxHeartbeats 4000000 in
set_option maxRecDepth 100000 in
theorem tX4_readDay {S : ev_S} {fu : Nat} {r : Int32 × ev_D} {F : ev_Fr} (hR : ev_R RX4 cX4_readDay 4 2 0 0 false (some .boolean) S r F) (hT : ev_Ty S) (hC : sC S ≤ 0 ∧ sA S ≤ 0) {l0 : Nat} {D : ev_D} (hl0 : sK S l0 = 7) (hf : fX4_readDay (sL S) (sE S) fu l0 D = some r) : F S D 0 [some (.ref l0), none, none, none] [] := by
  have hX := hR.X
  unfold fX4_readDay at hf
  refine ev_blk hX lkok_RX4 [(.aload_n 0, 1, 0, 0, 0), (.dup, 1, 0, 0, 0), (.getfield 44, 3, 4, 9, 0), (.iconst 1, 1, 0, 0, 1), (.iadd, 1, 0, 0, 0), (.putfield 44, 3, 4, 9, 0), (.aload_n 0, 1, 0, 0, 0), (.bipush 23, 2, 0, 0, 23), (.iconst 0, 1, 0, 0, 0)] (by decide +kernel) (g := (sK S l0 == 7) && ((sK S l0 == 7) && (true))) (lv' := [some (.ref l0), none, none, none]) (st' := [.int (0 : Int32), .int (23 : Int32), .ref l0]) (D' := (ev_up D l0 9 ((D l0 9) + (1 : Int32)))) (pc' := 14) rfl (ev_gk hl0 (ev_gk hl0 (rfl))) rfl ?_
  obtain ⟨v6, D6, hc6, hf⟩ := ev_bd_s hf
  refine ev_callV hX YX4_takeNumber ml_RX4_160 (mX4_takeNumber hT hl0 hc6) (vs := [.int (23 : Int32), .int (0 : Int32)]) (st := []) (by decide) 4 hl0 rfl rfl rfl (by decide +kernel) hC ?_
  show F S D6 17 [some (.ref l0), none, none, none] [.int v6]
  refine ev_if_ne hX (off := 5) 22 (by decide +kernel) (by decide) (fun h7 => ?_) (fun h7 => ?_)
  · have hf := ev_nf h7 hf
    refine ev_blk hX lkok_RX4 [(.aload_n 0, 1, 0, 0, 0), (.getfield 47, 3, 4, 10, 0), (.istore_n 1, 1, 0, 0, 0), (.aload_n 0, 1, 0, 0, 0)] (by decide +kernel) (g := (sK S l0 == 7) && (true)) (lv' := [some (.ref l0), some (.int (D6 l0 10)), none, none]) (st' := [.ref l0]) (D' := D6) (pc' := 28) rfl (ev_gk hl0 (rfl)) rfl ?_
    obtain ⟨v8, D8, hc8, hf⟩ := ev_bd_s hf
    refine ev_callV hX YX4_kind ml_RX4_63 (mX4_kind hT hl0 hc8) (vs := []) (st := []) (by decide) 4 hl0 rfl rfl rfl (by decide +kernel) hC ?_
    show F S D8 31 [some (.ref l0), some (.int (D6 l0 10)), none, none] [.int v8]
    refine ev_blk hX lkok_RX4 [(.istore_n 2, 1, 0, 0, 0), (.iload_n 2, 1, 0, 0, 0), (.sipush 271, 3, 0, 0, 271)] (by decide +kernel) (g := true) (lv' := [some (.ref l0), some (.int (D6 l0 10)), some (.int v8), none]) (st' := [.int (271 : Int32), .int v8]) (D' := D8) (pc' := 36) rfl (rfl) rfl ?_
    refine ev_ic_eq hX (off := 22) 58 (by decide +kernel) (by decide) (fun h9 => ?_) (fun h9 => ?_)
    · have hf := ev_it h9 hf
      exact ev_weak hX (ev_le_eq (ev_le_eq (ev_le_eq (ev_le_no ev_le_nil)))) (tX4_readDay_58 hR hT hC   hl0 hf)
    · have hf := ev_nf h9 hf
      refine ev_blk hX lkok_RX4 [(.iload_n 2, 1, 0, 0, 0), (.sipush 277, 3, 0, 0, 277), (.sipush 281, 3, 0, 0, 281)] (by decide +kernel) (g := true) (lv' := [some (.ref l0), some (.int (D6 l0 10)), some (.int v8), none]) (st' := [.int (281 : Int32), .int (277 : Int32), .int v8]) (D' := D8) (pc' := 46) rfl (rfl) rfl ?_
      obtain ⟨v10, D10, hc10, hf⟩ := ev_bd_s hf
      refine ev_callSN hX YX11_within ml_RX4_56 (mX11_within hT  hc10) (vs := [.int v8, .int (277 : Int32), .int (281 : Int32)]) (st := []) (by decide) rfl rfl (by decide +kernel) hC ?_
      show F S D10 49 [some (.ref l0), some (.int (D6 l0 10)), some (.int v8), none] [.int v10]
      refine ev_if_ne hX (off := 9) 58 (by decide +kernel) (by decide) (fun h11 => ?_) (fun h11 => ?_)
      · have hf := ev_nf h11 hf
        exact ev_weak hX (ev_le_eq (ev_le_eq (ev_le_eq (ev_le_no ev_le_nil)))) (tX4_readDay_58 hR hT hC   hl0 hf)
      · have hf := ev_it h11 hf
        refine ev_blk hX lkok_RX4 [(.aload_n 0, 1, 0, 0, 0), (.iconst 1, 1, 0, 0, 1)] (by decide +kernel) (g := true) (lv' := [some (.ref l0), some (.int (D6 l0 10)), some (.int v8), none]) (st' := [.int (1 : Int32), .ref l0]) (D' := D10) (pc' := 54) rfl (rfl) rfl ?_
        obtain ⟨v12, D12, hc12, hf⟩ := ev_bd_s hf
        refine ev_callV hX YX4_refuse ml_RX4_71 (mX4_refuse hT hl0 hc12) (vs := [.int (1 : Int32)]) (st := []) (by decide) 4 hl0 rfl rfl rfl (by decide +kernel) hC ?_
        show F S D12 57 [some (.ref l0), some (.int (D6 l0 10)), some (.int v8), none] [.int v12]
        obtain ⟨hz, hf⟩ := ev_gd_s hf
        exact ev_zret hR ev_sm.rf (ev_z01 hz) (Option.some.inj hf) hC (by decide +kernel)
  · have hf := ev_it h7 hf
    refine ev_blk hX lkok_RX4 [(.iconst 0, 1, 0, 0, 0)] (by decide +kernel) (g := true) (lv' := [some (.ref l0), none, none, none]) (st' := [.int (0 : Int32)]) (D' := D6) (pc' := 21) rfl (rfl) rfl ?_
    exact ev_zret hR ev_sm.rf (Or.inl rfl) (Option.some.inj hf) hC (by decide +kernel)
theorem mX4_readDay {S : ev_S} {fu : Nat} {r : Int32 × ev_D} (hT : ev_Ty S) {l0 : Nat} {D : ev_D} (hl0 : sK S l0 = 7) (hf : fX4_readDay (sL S) (sE S) fu l0 D = some r) : ev_M 2 0 0 yX4_readDay cX4_readDay 4 (some .boolean) [.ref l0] S D S r :=
  ev_met (ini := false) (plainFor_of_name (by decide)) (fun h => by cases h) rfl (Nat.le_of_ble_eq_true rfl) (fun F hR => tX4_readDay (S := ev_z S) hR hT ⟨Nat.le_refl 0, Nat.le_refl 0⟩ hl0 hf)
set_option maxHeartbeats 4000000 in
set_option maxRecDepth 100000 in
theorem tX1_begin_45 {S : ev_S} {fu : Nat} {r : Int32 × ev_D} {F : ev_Fr} (hR : ev_R RX1 cX1_begin 2 0 0 0 false none S r F) (hT : ev_Ty S) (hC : sC S ≤ 0 ∧ sA S ≤ 0) {l0 : Nat} {D : ev_D} (hl0 : sK S l0 = 4) (hf : fX1_begin_45 (sL S) (sE S) fu l0 D = some r) : F S D 45 [some (.ref l0), none] [] := by
  have hX := hR.X
  unfold fX1_begin_45 at hf
  obtain ⟨hg1, hf⟩ := ev_gd_s hf
  refine ev_blk hX lkok_RX1 [(.aload_n 0, 1, 0, 0, 0), (.getfield 28, 3, 1, 5, 0), (.aload_n 0, 1, 0, 0, 0), (.getfield 11, 3, 1, 0, 0), (.aload_n 0, 1, 0, 0, 0), (.getfield 15, 3, 1, 1, 0), (.iastore, 1, 0, 0, 0)] (by decide +kernel) (g := (sK S l0 == 4) && ((sK S l0 == 4) && ((sK S l0 == 4) && ((sK S ((sE S) l0 5) == 1 && ev_in (D l0 0) ((sL S) ((sE S) l0 5))) && (true))))) (lv' := [some (.ref l0), none]) (st' := []) (D' := (ev_up D ((sE S) l0 5) ((D l0 0)).toNatClampNeg (D l0 1))) (pc' := 58) rfl (ev_gk hl0 (ev_gk hl0 (ev_gk hl0 (ev_gi (ev_tyk hT hl0 rfl rfl) hg1 (rfl))))) rfl ?_
  exact ev_vret hR ev_sm.rf (Option.some.inj hf) hC (by decide +kernel)
set_option maxHeartbeats 4000000 in
set_option maxRecDepth 100000 in
theorem tX1_begin {S : ev_S} {fu : Nat} {r : Int32 × ev_D} {F : ev_Fr} (hR : ev_R RX1 cX1_begin 2 0 0 0 false none S r F) (hT : ev_Ty S) (hC : sC S ≤ 0 ∧ sA S ≤ 0) {l0 : Nat} {l1 : Int32} {D : ev_D} (hl0 : sK S l0 = 4) (hf : fX1_begin (sL S) (sE S) fu l0 l1 D = some r) : F S D 0 [some (.ref l0), some (.int l1)] [] := by
  have hX := hR.X
  unfold fX1_begin at hf
  refine ev_blk hX lkok_RX1 [(.aload_n 0, 1, 0, 0, 0), (.getfield 11, 3, 1, 0, 0), (.bipush 16, 2, 0, 0, 16)] (by decide +kernel) (g := (sK S l0 == 4) && (true)) (lv' := [some (.ref l0), some (.int l1)]) (st' := [.int (16 : Int32), .int (D l0 0)]) (D' := D) (pc' := 6) rfl (ev_gk hl0 (rfl)) rfl ?_
  refine ev_ic_ge hX (off := 52) 58 (by decide +kernel) (by decide) (fun h2 => ?_) (fun h2 => ?_)
  · have hf := ev_it h2 hf
    exact ev_vret hR ev_sm.rf (Option.some.inj hf) hC (by decide +kernel)
  · have hf := ev_nf h2 hf
    obtain ⟨hg3, hf⟩ := ev_gd_s hf
    obtain ⟨hg4, hf⟩ := ev_gd_s hf
    obtain ⟨hg5, hf⟩ := ev_gd_s hf
    refine ev_blk hX lkok_RX1 [(.aload_n 0, 1, 0, 0, 0), (.getfield 18, 3, 1, 2, 0), (.aload_n 0, 1, 0, 0, 0), (.getfield 11, 3, 1, 0, 0), (.iload_n 1, 1, 0, 0, 0), (.iastore, 1, 0, 0, 0), (.aload_n 0, 1, 0, 0, 0), (.getfield 22, 3, 1, 3, 0), (.aload_n 0, 1, 0, 0, 0), (.getfield 11, 3, 1, 0, 0), (.aload_n 0, 1, 0, 0, 0), (.getfield 15, 3, 1, 1, 0), (.iastore, 1, 0, 0, 0), (.aload_n 0, 1, 0, 0, 0), (.getfield 25, 3, 1, 4, 0), (.aload_n 0, 1, 0, 0, 0), (.getfield 11, 3, 1, 0, 0), (.aload_n 0, 1, 0, 0, 0), (.getfield 15, 3, 1, 1, 0), (.iastore, 1, 0, 0, 0)] (by decide +kernel) (g := (sK S l0 == 4) && ((sK S l0 == 4) && ((sK S ((sE S) l0 2) == 1 && ev_in (D l0 0) ((sL S) ((sE S) l0 2))) && ((sK S l0 == 4) && ((sK S l0 == 4) && ((sK S l0 == 4) && ((sK S ((sE S) l0 3) == 1 && ev_in ((ev_up D ((sE S) l0 2) ((D l0 0)).toNatClampNeg l1) l0 0) ((sL S) ((sE S) l0 3))) && ((sK S l0 == 4) && ((sK S l0 == 4) && ((sK S l0 == 4) && ((sK S ((sE S) l0 4) == 1 && ev_in ((ev_up (ev_up D ((sE S) l0 2) ((D l0 0)).toNatClampNeg l1) ((sE S) l0 3) (((ev_up D ((sE S) l0 2) ((D l0 0)).toNatClampNeg l1) l0 0)).toNatClampNeg ((ev_up D ((sE S) l0 2) ((D l0 0)).toNatClampNeg l1) l0 1)) l0 0) ((sL S) ((sE S) l0 4))) && (true)))))))))))) (lv' := [some (.ref l0), some (.int l1)]) (st' := []) (D' := (ev_up (ev_up (ev_up D ((sE S) l0 2) ((D l0 0)).toNatClampNeg l1) ((sE S) l0 3) (((ev_up D ((sE S) l0 2) ((D l0 0)).toNatClampNeg l1) l0 0)).toNatClampNeg ((ev_up D ((sE S) l0 2) ((D l0 0)).toNatClampNeg l1) l0 1)) ((sE S) l0 4) (((ev_up (ev_up D ((sE S) l0 2) ((D l0 0)).toNatClampNeg l1) ((sE S) l0 3) (((ev_up D ((sE S) l0 2) ((D l0 0)).toNatClampNeg l1) l0 0)).toNatClampNeg ((ev_up D ((sE S) l0 2) ((D l0 0)).toNatClampNeg l1) l0 1)) l0 0)).toNatClampNeg ((ev_up (ev_up D ((sE S) l0 2) ((D l0 0)).toNatClampNeg l1) ((sE S) l0 3) (((ev_up D ((sE S) l0 2) ((D l0 0)).toNatClampNeg l1) l0 0)).toNatClampNeg ((ev_up D ((sE S) l0 2) ((D l0 0)).toNatClampNeg l1) l0 1)) l0 1))) (pc' := 45) rfl (ev_gk hl0 (ev_gk hl0 (ev_gi (ev_tyk hT hl0 rfl rfl) hg3 (ev_gk hl0 (ev_gk hl0 (ev_gk hl0 (ev_gi (ev_tyk hT hl0 rfl rfl) hg4 (ev_gk hl0 (ev_gk hl0 (ev_gk hl0 (ev_gi (ev_tyk hT hl0 rfl rfl) hg5 (rfl)))))))))))) rfl ?_
    exact ev_weak hX (ev_le_eq (ev_le_no ev_le_nil)) (tX1_begin_45 hR hT hC   hl0 hf)
theorem mX1_begin {S : ev_S} {fu : Nat} {r : Int32 × ev_D} (hT : ev_Ty S) {l0 : Nat} {l1 : Int32} {D : ev_D} (hl0 : sK S l0 = 4) (hf : fX1_begin (sL S) (sE S) fu l0 l1 D = some r) : ev_M 0 0 0 yX1_begin cX1_begin 2 none [.ref l0, .int l1] S D S r :=
  ev_met (ini := false) (plainFor_of_name (by decide)) (fun h => by cases h) rfl (Nat.le_of_ble_eq_true rfl) (fun F hR => tX1_begin (S := ev_z S) hR hT ⟨Nat.le_refl 0, Nat.le_refl 0⟩ hl0 hf)
set_option maxHeartbeats 4000000 in
set_option maxRecDepth 100000 in
theorem tX1_finish {S : ev_S} {fu : Nat} {r : Int32 × ev_D} {F : ev_Fr} (hR : ev_R RX1 cX1_finish 1 0 0 0 false none S r F) (hT : ev_Ty S) (hC : sC S ≤ 0 ∧ sA S ≤ 0) {l0 : Nat} {D : ev_D} (hl0 : sK S l0 = 4) (hf : fX1_finish (sL S) (sE S) fu l0 D = some r) : F S D 0 [some (.ref l0)] [] := by
  have hX := hR.X
  unfold fX1_finish at hf
  refine ev_blk hX lkok_RX1 [(.aload_n 0, 1, 0, 0, 0), (.getfield 11, 3, 1, 0, 0), (.bipush 16, 2, 0, 0, 16)] (by decide +kernel) (g := (sK S l0 == 4) && (true)) (lv' := [some (.ref l0)]) (st' := [.int (16 : Int32), .int (D l0 0)]) (D' := D) (pc' := 6) rfl (ev_gk hl0 (rfl)) rfl ?_
  refine ev_ic_ge hX (off := 26) 32 (by decide +kernel) (by decide) (fun h1 => ?_) (fun h1 => ?_)
  · have hf := ev_it h1 hf
    exact ev_vret hR ev_sm.rf (Option.some.inj hf) hC (by decide +kernel)
  · have hf := ev_nf h1 hf
    obtain ⟨hg2, hf⟩ := ev_gd_s hf
    refine ev_blk hX lkok_RX1 [(.aload_n 0, 1, 0, 0, 0), (.getfield 28, 3, 1, 5, 0), (.aload_n 0, 1, 0, 0, 0), (.getfield 11, 3, 1, 0, 0), (.aload_n 0, 1, 0, 0, 0), (.getfield 15, 3, 1, 1, 0), (.iastore, 1, 0, 0, 0), (.aload_n 0, 1, 0, 0, 0), (.dup, 1, 0, 0, 0), (.getfield 11, 3, 1, 0, 0), (.iconst 1, 1, 0, 0, 1), (.iadd, 1, 0, 0, 0), (.putfield 11, 3, 1, 0, 0)] (by decide +kernel) (g := (sK S l0 == 4) && ((sK S l0 == 4) && ((sK S l0 == 4) && ((sK S ((sE S) l0 5) == 1 && ev_in (D l0 0) ((sL S) ((sE S) l0 5))) && ((sK S l0 == 4) && ((sK S l0 == 4) && (true))))))) (lv' := [some (.ref l0)]) (st' := []) (D' := (ev_up (ev_up D ((sE S) l0 5) ((D l0 0)).toNatClampNeg (D l0 1)) l0 0 (((ev_up D ((sE S) l0 5) ((D l0 0)).toNatClampNeg (D l0 1)) l0 0) + (1 : Int32)))) (pc' := 32) rfl (ev_gk hl0 (ev_gk hl0 (ev_gk hl0 (ev_gi (ev_tyk hT hl0 rfl rfl) hg2 (ev_gk hl0 (ev_gk hl0 (rfl))))))) rfl ?_
    exact ev_vret hR ev_sm.rf (Option.some.inj hf) hC (by decide +kernel)
theorem mX1_finish {S : ev_S} {fu : Nat} {r : Int32 × ev_D} (hT : ev_Ty S) {l0 : Nat} {D : ev_D} (hl0 : sK S l0 = 4) (hf : fX1_finish (sL S) (sE S) fu l0 D = some r) : ev_M 0 0 0 yX1_finish cX1_finish 1 none [.ref l0] S D S r :=
  ev_met (ini := false) (plainFor_of_name (by decide)) (fun h => by cases h) rfl (Nat.le_of_ble_eq_true rfl) (fun F hR => tX1_finish (S := ev_z S) hR hT ⟨Nat.le_refl 0, Nat.le_refl 0⟩ hl0 hf)
set_option maxHeartbeats 4000000 in
set_option maxRecDepth 100000 in
theorem tX1_markWhen {S : ev_S} {fu : Nat} {r : Int32 × ev_D} {F : ev_Fr} (hR : ev_R RX1 cX1_markWhen 1 0 0 0 false none S r F) (hT : ev_Ty S) (hC : sC S ≤ 0 ∧ sA S ≤ 0) {l0 : Nat} {D : ev_D} (hl0 : sK S l0 = 4) (hf : fX1_markWhen (sL S) (sE S) fu l0 D = some r) : F S D 0 [some (.ref l0)] [] := by
  have hX := hR.X
  unfold fX1_markWhen at hf
  refine ev_blk hX lkok_RX1 [(.aload_n 0, 1, 0, 0, 0), (.getfield 11, 3, 1, 0, 0), (.bipush 16, 2, 0, 0, 16)] (by decide +kernel) (g := (sK S l0 == 4) && (true)) (lv' := [some (.ref l0)]) (st' := [.int (16 : Int32), .int (D l0 0)]) (D' := D) (pc' := 6) rfl (ev_gk hl0 (rfl)) rfl ?_
  refine ev_ic_ge hX (off := 16) 22 (by decide +kernel) (by decide) (fun h1 => ?_) (fun h1 => ?_)
  · have hf := ev_it h1 hf
    exact ev_vret hR ev_sm.rf (Option.some.inj hf) hC (by decide +kernel)
  · have hf := ev_nf h1 hf
    obtain ⟨hg2, hf⟩ := ev_gd_s hf
    refine ev_blk hX lkok_RX1 [(.aload_n 0, 1, 0, 0, 0), (.getfield 25, 3, 1, 4, 0), (.aload_n 0, 1, 0, 0, 0), (.getfield 11, 3, 1, 0, 0), (.aload_n 0, 1, 0, 0, 0), (.getfield 15, 3, 1, 1, 0), (.iastore, 1, 0, 0, 0)] (by decide +kernel) (g := (sK S l0 == 4) && ((sK S l0 == 4) && ((sK S l0 == 4) && ((sK S ((sE S) l0 4) == 1 && ev_in (D l0 0) ((sL S) ((sE S) l0 4))) && (true))))) (lv' := [some (.ref l0)]) (st' := []) (D' := (ev_up D ((sE S) l0 4) ((D l0 0)).toNatClampNeg (D l0 1))) (pc' := 22) rfl (ev_gk hl0 (ev_gk hl0 (ev_gk hl0 (ev_gi (ev_tyk hT hl0 rfl rfl) hg2 (rfl))))) rfl ?_
    exact ev_vret hR ev_sm.rf (Option.some.inj hf) hC (by decide +kernel)
theorem mX1_markWhen {S : ev_S} {fu : Nat} {r : Int32 × ev_D} (hT : ev_Ty S) {l0 : Nat} {D : ev_D} (hl0 : sK S l0 = 4) (hf : fX1_markWhen (sL S) (sE S) fu l0 D = some r) : ev_M 0 0 0 yX1_markWhen cX1_markWhen 1 none [.ref l0] S D S r :=
  ev_met (ini := false) (plainFor_of_name (by decide)) (fun h => by cases h) rfl (Nat.le_of_ble_eq_true rfl) (fun F hR => tX1_markWhen (S := ev_z S) hR hT ⟨Nat.le_refl 0, Nat.le_refl 0⟩ hl0 hf)
set_option maxHeartbeats 4000000 in
set_option maxRecDepth 100000 in
theorem tX1_add {S : ev_S} {fu : Nat} {r : Int32 × ev_D} {F : ev_Fr} (hR : ev_R RX1 cX1_add 2 0 0 0 false none S r F) (hT : ev_Ty S) (hC : sC S ≤ 0 ∧ sA S ≤ 0) {l0 : Nat} {l1 : Int32} {D : ev_D} (hl0 : sK S l0 = 4) (hf : fX1_add (sL S) (sE S) fu l0 l1 D = some r) : F S D 0 [some (.ref l0), some (.int l1)] [] := by
  have hX := hR.X
  unfold fX1_add at hf
  refine ev_blk hX lkok_RX1 [(.aload_n 0, 1, 0, 0, 0), (.getfield 15, 3, 1, 1, 0), (.aload_n 0, 1, 0, 0, 0), (.getfield 31, 3, 1, 6, 0), (.arraylength, 1, 0, 0, 0)] (by decide +kernel) (g := (sK S l0 == 4) && ((sK S l0 == 4) && ((sK S ((sE S) l0 6) == 1) && (true)))) (lv' := [some (.ref l0), some (.int l1)]) (st' := [.int (Int32.ofNat ((sL S) ((sE S) l0 6))), .int (D l0 1)]) (D' := D) (pc' := 9) rfl (ev_gk hl0 (ev_gk hl0 (ev_gk (ev_tyk hT hl0 rfl rfl) (rfl)))) rfl ?_
  refine ev_ic_ge hX (off := 23) 32 (by decide +kernel) (by decide) (fun h1 => ?_) (fun h1 => ?_)
  · have hf := ev_it h1 hf
    exact ev_vret hR ev_sm.rf (Option.some.inj hf) hC (by decide +kernel)
  · have hf := ev_nf h1 hf
    obtain ⟨hg2, hf⟩ := ev_gd_s hf
    refine ev_blk hX lkok_RX1 [(.aload_n 0, 1, 0, 0, 0), (.getfield 31, 3, 1, 6, 0), (.aload_n 0, 1, 0, 0, 0), (.getfield 15, 3, 1, 1, 0), (.iload_n 1, 1, 0, 0, 0), (.iastore, 1, 0, 0, 0), (.aload_n 0, 1, 0, 0, 0), (.dup, 1, 0, 0, 0), (.getfield 15, 3, 1, 1, 0), (.iconst 1, 1, 0, 0, 1), (.iadd, 1, 0, 0, 0), (.putfield 15, 3, 1, 1, 0)] (by decide +kernel) (g := (sK S l0 == 4) && ((sK S l0 == 4) && ((sK S ((sE S) l0 6) == 1 && ev_in (D l0 1) ((sL S) ((sE S) l0 6))) && ((sK S l0 == 4) && ((sK S l0 == 4) && (true)))))) (lv' := [some (.ref l0), some (.int l1)]) (st' := []) (D' := (ev_up (ev_up D ((sE S) l0 6) ((D l0 1)).toNatClampNeg l1) l0 1 (((ev_up D ((sE S) l0 6) ((D l0 1)).toNatClampNeg l1) l0 1) + (1 : Int32)))) (pc' := 32) rfl (ev_gk hl0 (ev_gk hl0 (ev_gi (ev_tyk hT hl0 rfl rfl) hg2 (ev_gk hl0 (ev_gk hl0 (rfl)))))) rfl ?_
    exact ev_vret hR ev_sm.rf (Option.some.inj hf) hC (by decide +kernel)
theorem mX1_add {S : ev_S} {fu : Nat} {r : Int32 × ev_D} (hT : ev_Ty S) {l0 : Nat} {l1 : Int32} {D : ev_D} (hl0 : sK S l0 = 4) (hf : fX1_add (sL S) (sE S) fu l0 l1 D = some r) : ev_M 0 0 0 yX1_add cX1_add 2 none [.ref l0, .int l1] S D S r :=
  ev_met (ini := false) (plainFor_of_name (by decide)) (fun h => by cases h) rfl (Nat.le_of_ble_eq_true rfl) (fun F hR => tX1_add (S := ev_z S) hR hT ⟨Nat.le_refl 0, Nat.le_refl 0⟩ hl0 hf)
set_option maxHeartbeats 4000000 in
set_option maxRecDepth 100000 in
theorem tX4_readUnit_44 {S : ev_S} {fu : Nat} {r : Int32 × ev_D} {F : ev_Fr} (hR : ev_R RX4 cX4_readUnit 2 1 0 0 false (some .boolean) S r F) (hT : ev_Ty S) (hC : sC S ≤ 0 ∧ sA S ≤ 0) {l0 : Nat} {l1 : Int32} {D : ev_D} (hl0 : sK S l0 = 7) (hf : fX4_readUnit_44 (sL S) (sE S) fu l0 l1 D = some r) : F S D 44 [some (.ref l0), some (.int l1)] [] := by
  have hX := hR.X
  unfold fX4_readUnit_44 at hf
  refine ev_blk hX lkok_RX4 [(.iload_n 1, 1, 0, 0, 0), (.sipush 263, 3, 0, 0, 263), (.sipush 273, 3, 0, 0, 273)] (by decide +kernel) (g := true) (lv' := [some (.ref l0), some (.int l1)]) (st' := [.int (273 : Int32), .int (263 : Int32), .int l1]) (D' := D) (pc' := 51) rfl (rfl) rfl ?_
  obtain ⟨v1, D1, hc1, hf⟩ := ev_bd_s hf
  refine ev_callSN hX YX11_within ml_RX4_56 (mX11_within hT  hc1) (vs := [.int l1, .int (263 : Int32), .int (273 : Int32)]) (st := []) (by decide) rfl rfl (by decide +kernel) hC ?_
  show F S D1 54 [some (.ref l0), some (.int l1)] [.int v1]
  refine ev_if_eq hX (off := 25) 79 (by decide +kernel) (by decide) (fun h2 => ?_) (fun h2 => ?_)
  · have hf := ev_it h2 hf
    refine ev_blk hX lkok_RX4 [(.aload_n 0, 1, 0, 0, 0), (.iconst 1, 1, 0, 0, 1)] (by decide +kernel) (g := true) (lv' := [some (.ref l0), some (.int l1)]) (st' := [.int (1 : Int32), .ref l0]) (D' := D1) (pc' := 81) rfl (rfl) rfl ?_
    obtain ⟨v3, D3, hc3, hf⟩ := ev_bd_s hf
    refine ev_callV hX YX4_refuse ml_RX4_71 (mX4_refuse hT hl0 hc3) (vs := [.int (1 : Int32)]) (st := []) (by decide) 4 hl0 rfl rfl rfl (by decide +kernel) hC ?_
    show F S D3 84 [some (.ref l0), some (.int l1)] [.int v3]
    obtain ⟨hz, hf⟩ := ev_gd_s hf
    exact ev_zret hR ev_sm.rf (ev_z01 hz) (Option.some.inj hf) hC (by decide +kernel)
  · have hf := ev_nf h2 hf
    refine ev_blk hX lkok_RX4 [(.aload_n 0, 1, 0, 0, 0), (.getfield 14, 3, 4, 0, 0), (.getfield 90, 3, 7, 0, 0), (.sipush 10000, 3, 0, 0, 10000), (.iload_n 1, 1, 0, 0, 0), (.iadd, 1, 0, 0, 0), (.sipush 263, 3, 0, 0, 263), (.isub, 1, 0, 0, 0)] (by decide +kernel) (g := (sK S l0 == 7) && ((sK S ((sE S) l0 0) == 10) && (true))) (lv' := [some (.ref l0), some (.int l1)]) (st' := [.int (((10000 : Int32) + l1) - (263 : Int32)), .ref ((sE S) ((sE S) l0 0) 0)]) (D' := D1) (pc' := 73) rfl (ev_gk hl0 (ev_gk (ev_tyk hT hl0 rfl rfl) (rfl))) rfl ?_
    obtain ⟨v4, D4, hc4, hf⟩ := ev_bd_s hf
    refine ev_callV hX YX1_add ml_RX4_192 (mX1_add hT (ev_tyk hT (ev_tyk hT hl0 rfl rfl) rfl rfl) hc4) (vs := [.int (((10000 : Int32) + l1) - (263 : Int32))]) (st := []) (by decide) 1 (ev_tyk hT (ev_tyk hT hl0 rfl rfl) rfl rfl) rfl rfl rfl (by decide +kernel) hC ?_
    show F S D4 76 [some (.ref l0), some (.int l1)] []
    refine ev_goto hX (off := 9) 85 (by decide +kernel) (by decide) ?_
    refine ev_blk hX lkok_RX4 [(.aload_n 0, 1, 0, 0, 0), (.dup, 1, 0, 0, 0), (.getfield 44, 3, 4, 9, 0), (.iconst 1, 1, 0, 0, 1), (.iadd, 1, 0, 0, 0), (.putfield 44, 3, 4, 9, 0), (.iconst 1, 1, 0, 0, 1)] (by decide +kernel) (g := (sK S l0 == 7) && ((sK S l0 == 7) && (true))) (lv' := [some (.ref l0), some (.int l1)]) (st' := [.int (1 : Int32)]) (D' := (ev_up D4 l0 9 ((D4 l0 9) + (1 : Int32)))) (pc' := 96) rfl (ev_gk hl0 (ev_gk hl0 (rfl))) rfl ?_
    exact ev_zret hR ev_sm.rf (Or.inr rfl) (Option.some.inj hf) hC (by decide +kernel)
set_option maxHeartbeats 4000000 in
set_option maxRecDepth 100000 in
theorem tX4_readUnit {S : ev_S} {fu : Nat} {r : Int32 × ev_D} {F : ev_Fr} (hR : ev_R RX4 cX4_readUnit 2 1 0 0 false (some .boolean) S r F) (hT : ev_Ty S) (hC : sC S ≤ 0 ∧ sA S ≤ 0) {l0 : Nat} {D : ev_D} (hl0 : sK S l0 = 7) (hf : fX4_readUnit (sL S) (sE S) fu l0 D = some r) : F S D 0 [some (.ref l0), none] [] := by
  have hX := hR.X
  unfold fX4_readUnit at hf
  refine ev_blk hX lkok_RX4 [(.aload_n 0, 1, 0, 0, 0)] (by decide +kernel) (g := true) (lv' := [some (.ref l0), none]) (st' := [.ref l0]) (D' := D) (pc' := 1) rfl (rfl) rfl ?_
  obtain ⟨v5, D5, hc5, hf⟩ := ev_bd_s hf
  refine ev_callV hX YX4_kind ml_RX4_63 (mX4_kind hT hl0 hc5) (vs := []) (st := []) (by decide) 4 hl0 rfl rfl rfl (by decide +kernel) hC ?_
  show F S D5 4 [some (.ref l0), none] [.int v5]
  refine ev_blk hX lkok_RX4 [(.istore_n 1, 1, 0, 0, 0), (.iload_n 1, 1, 0, 0, 0), (.iconst 2, 1, 0, 0, 2)] (by decide +kernel) (g := true) (lv' := [some (.ref l0), some (.int v5)]) (st' := [.int (2 : Int32), .int v5]) (D' := D5) (pc' := 7) rfl (rfl) rfl ?_
  refine ev_ic_ne hX (off := 37) 44 (by decide +kernel) (by decide) (fun h6 => ?_) (fun h6 => ?_)
  · have hf := ev_nf h6 hf
    exact ev_weak hX (ev_le_eq (ev_le_eq ev_le_nil)) (tX4_readUnit_44 hR hT hC   hl0 hf)
  · have hf := ev_it h6 hf
    refine ev_blk hX lkok_RX4 [(.aload_n 0, 1, 0, 0, 0), (.getfield 44, 3, 4, 9, 0), (.aload_n 0, 1, 0, 0, 0), (.getfield 35, 3, 4, 6, 0), (.arraylength, 1, 0, 0, 0)] (by decide +kernel) (g := (sK S l0 == 7) && ((sK S l0 == 7) && ((sK S ((sE S) l0 6) == 1) && (true)))) (lv' := [some (.ref l0), some (.int v5)]) (st' := [.int (Int32.ofNat ((sL S) ((sE S) l0 6))), .int (D5 l0 9)]) (D' := D5) (pc' := 19) rfl (ev_gk hl0 (ev_gk hl0 (ev_gk (ev_tyk hT hl0 rfl rfl) (rfl)))) rfl ?_
    refine ev_ic_ge hX (off := 25) 44 (by decide +kernel) (by decide) (fun h7 => ?_) (fun h7 => ?_)
    · have hf := ev_it h7 hf
      exact ev_weak hX (ev_le_eq (ev_le_eq ev_le_nil)) (tX4_readUnit_44 hR hT hC   hl0 hf)
    · have hf := ev_nf h7 hf
      obtain ⟨hg9, hf⟩ := ev_gd_s hf
      refine ev_blk hX lkok_RX4 [(.aload_n 0, 1, 0, 0, 0), (.getfield 14, 3, 4, 0, 0), (.getfield 90, 3, 7, 0, 0), (.aload_n 0, 1, 0, 0, 0), (.getfield 35, 3, 4, 6, 0), (.aload_n 0, 1, 0, 0, 0), (.getfield 44, 3, 4, 9, 0), (.iaload, 1, 0, 0, 0)] (by decide +kernel) (g := (sK S l0 == 7) && ((sK S ((sE S) l0 0) == 10) && ((sK S l0 == 7) && ((sK S l0 == 7) && ((sK S ((sE S) l0 6) == 1 && ev_in (D5 l0 9) ((sL S) ((sE S) l0 6))) && (true)))))) (lv' := [some (.ref l0), some (.int v5)]) (st' := [.int (D5 ((sE S) l0 6) ((D5 l0 9)).toNatClampNeg), .ref ((sE S) ((sE S) l0 0) 0)]) (D' := D5) (pc' := 38) rfl (ev_gk hl0 (ev_gk (ev_tyk hT hl0 rfl rfl) (ev_gk hl0 (ev_gk hl0 (ev_gi (ev_tyk hT hl0 rfl rfl) hg9 (rfl)))))) rfl ?_
      obtain ⟨v8, D8, hc8, hf⟩ := ev_bd_s hf
      refine ev_callV hX YX1_add ml_RX4_192 (mX1_add hT (ev_tyk hT (ev_tyk hT hl0 rfl rfl) rfl rfl) hc8) (vs := [.int (D5 ((sE S) l0 6) ((D5 l0 9)).toNatClampNeg)]) (st := []) (by decide) 1 (ev_tyk hT (ev_tyk hT hl0 rfl rfl) rfl rfl) rfl rfl rfl (by decide +kernel) hC ?_
      show F S D8 41 [some (.ref l0), some (.int v5)] []
      refine ev_goto hX (off := 44) 85 (by decide +kernel) (by decide) ?_
      refine ev_blk hX lkok_RX4 [(.aload_n 0, 1, 0, 0, 0), (.dup, 1, 0, 0, 0), (.getfield 44, 3, 4, 9, 0), (.iconst 1, 1, 0, 0, 1), (.iadd, 1, 0, 0, 0), (.putfield 44, 3, 4, 9, 0), (.iconst 1, 1, 0, 0, 1)] (by decide +kernel) (g := (sK S l0 == 7) && ((sK S l0 == 7) && (true))) (lv' := [some (.ref l0), some (.int v5)]) (st' := [.int (1 : Int32)]) (D' := (ev_up D8 l0 9 ((D8 l0 9) + (1 : Int32)))) (pc' := 96) rfl (ev_gk hl0 (ev_gk hl0 (rfl))) rfl ?_
      exact ev_zret hR ev_sm.rf (Or.inr rfl) (Option.some.inj hf) hC (by decide +kernel)
theorem mX4_readUnit {S : ev_S} {fu : Nat} {r : Int32 × ev_D} (hT : ev_Ty S) {l0 : Nat} {D : ev_D} (hl0 : sK S l0 = 7) (hf : fX4_readUnit (sL S) (sE S) fu l0 D = some r) : ev_M 1 0 0 yX4_readUnit cX4_readUnit 2 (some .boolean) [.ref l0] S D S r :=
  ev_met (ini := false) (plainFor_of_name (by decide)) (fun h => by cases h) rfl (Nat.le_of_ble_eq_true rfl) (fun F hR => tX4_readUnit (S := ev_z S) hR hT ⟨Nat.le_refl 0, Nat.le_refl 0⟩ hl0 hf)
set_option maxHeartbeats 4000000 in
set_option maxRecDepth 100000 in
theorem tX4_readNumber_189 {S : ev_S} {fu : Nat} {r : Int32 × ev_D} {F : ev_Fr} (hR : ev_R RX4 cX4_readNumber 5 2 0 0 false (some .boolean) S r F) (hT : ev_Ty S) (hC : sC S ≤ 0 ∧ sA S ≤ 0) {k6 : Nat → Int32 → Int32 → Int32 → ev_D → ev_Op} (hk6 : ∀ (l0 : Nat) (l1 : Int32) (l2 : Int32) (l3 : Int32) (D : ev_D), sK S l0 = 7 → k6 l0 l1 l2 l3 D = some r → F S D 6 [some (.ref l0), some (.int l1), some (.int l2), some (.int l3), none] []) {l0 : Nat} {l1 : Int32} {l2 : Int32} {l3 : Int32} {D : ev_D} (hl0 : sK S l0 = 7) (hf : fX4_readNumber_189 (sL S) (sE S) fu k6 l0 l1 l2 l3 D = some r) : F S D 189 [some (.ref l0), some (.int l1), some (.int l2), some (.int l3), none] [] := by
  have hX := hR.X
  unfold fX4_readNumber_189 at hf
  refine ev_blk hX lkok_RX4 [(.aload_n 0, 1, 0, 0, 0), (.dup, 1, 0, 0, 0), (.getfield 44, 3, 4, 9, 0), (.iconst 1, 1, 0, 0, 1), (.iadd, 1, 0, 0, 0), (.putfield 44, 3, 4, 9, 0), (.iinc 3 1, 3, 0, 0, 1)] (by decide +kernel) (g := (sK S l0 == 7) && ((sK S l0 == 7) && (true))) (lv' := [some (.ref l0), some (.int l1), some (.int l2), some (.int (l3 + (1 : Int32))), none]) (st' := []) (D' := (ev_up D l0 9 ((D l0 9) + (1 : Int32)))) (pc' := 202) rfl (ev_gk hl0 (ev_gk hl0 (rfl))) rfl ?_
  refine ev_goto hX (off := (-196)) 6 (by decide +kernel) (by decide) ?_
  exact ev_weak hX (ev_le_eq (ev_le_eq (ev_le_eq (ev_le_eq (ev_le_no ev_le_nil))))) (hk6 _ _ _ _ _ hl0 hf)
set_option maxHeartbeats 4000000 in
set_option maxRecDepth 100000 in
theorem tX4_readNumber_188 {S : ev_S} {fu : Nat} {r : Int32 × ev_D} {F : ev_Fr} (hR : ev_R RX4 cX4_readNumber 5 2 0 0 false (some .boolean) S r F) (hT : ev_Ty S) (hC : sC S ≤ 0 ∧ sA S ≤ 0) {k6 : Nat → Int32 → Int32 → Int32 → ev_D → ev_Op} (hk6 : ∀ (l0 : Nat) (l1 : Int32) (l2 : Int32) (l3 : Int32) (D : ev_D), sK S l0 = 7 → k6 l0 l1 l2 l3 D = some r → F S D 6 [some (.ref l0), some (.int l1), some (.int l2), some (.int l3), none] []) {l0 : Nat} {l1 : Int32} {l3 : Int32} {s0 : Int32} {D : ev_D} (hl0 : sK S l0 = 7) (hf : fX4_readNumber_188 (sL S) (sE S) fu k6 l0 l1 l3 s0 D = some r) : F S D 188 [some (.ref l0), some (.int l1), none, some (.int l3), none] [.int s0] := by
  have hX := hR.X
  unfold fX4_readNumber_188 at hf
  refine ev_blk hX lkok_RX4 [(.istore_n 2, 1, 0, 0, 0)] (by decide +kernel) (g := true) (lv' := [some (.ref l0), some (.int l1), some (.int s0), some (.int l3), none]) (st' := []) (D' := D) (pc' := 189) rfl (rfl) rfl ?_
  exact ev_weak hX (ev_le_eq (ev_le_eq (ev_le_eq (ev_le_eq (ev_le_no ev_le_nil))))) (tX4_readNumber_189 hR hT hC  hk6 hl0 hf)
set_option maxHeartbeats 4000000 in
set_option maxRecDepth 100000 in
theorem tX4_readNumber_170 {S : ev_S} {fu : Nat} {r : Int32 × ev_D} {F : ev_Fr} (hR : ev_R RX4 cX4_readNumber 5 2 0 0 false (some .boolean) S r F) (hT : ev_Ty S) (hC : sC S ≤ 0 ∧ sA S ≤ 0) {k6 : Nat → Int32 → Int32 → Int32 → ev_D → ev_Op} (hk6 : ∀ (l0 : Nat) (l1 : Int32) (l2 : Int32) (l3 : Int32) (D : ev_D), sK S l0 = 7 → k6 l0 l1 l2 l3 D = some r → F S D 6 [some (.ref l0), some (.int l1), some (.int l2), some (.int l3), none] []) {l0 : Nat} {l1 : Int32} {l3 : Int32} {D : ev_D} (hl0 : sK S l0 = 7) (hf : fX4_readNumber_170 (sL S) (sE S) fu k6 l0 l1 l3 D = some r) : F S D 170 [some (.ref l0), some (.int l1), none, some (.int l3), none] [] := by
  have hX := hR.X
  unfold fX4_readNumber_170 at hf
  refine ev_blk hX lkok_RX4 [(.aload_n 0, 1, 0, 0, 0)] (by decide +kernel) (g := true) (lv' := [some (.ref l0), some (.int l1), none, some (.int l3), none]) (st' := [.ref l0]) (D' := D) (pc' := 171) rfl (rfl) rfl ?_
  obtain ⟨v1, D1, hc1, hf⟩ := ev_bd_s hf
  refine ev_callV hX YX4_kind ml_RX4_63 (mX4_kind hT hl0 hc1) (vs := []) (st := []) (by decide) 4 hl0 rfl rfl rfl (by decide +kernel) hC ?_
  show F S D1 174 [some (.ref l0), some (.int l1), none, some (.int l3), none] [.int v1]
  refine ev_blk hX lkok_RX4 [(.bipush 43, 2, 0, 0, 43)] (by decide +kernel) (g := true) (lv' := [some (.ref l0), some (.int l1), none, some (.int l3), none]) (st' := [.int (43 : Int32), .int v1]) (D' := D1) (pc' := 176) rfl (rfl) rfl ?_
  refine ev_ic_ne hX (off := 9) 185 (by decide +kernel) (by decide) (fun h2 => ?_) (fun h2 => ?_)
  · have hf := ev_nf h2 hf
    refine ev_blk hX lkok_RX4 [(.sipush 10102, 3, 0, 0, 10102)] (by decide +kernel) (g := true) (lv' := [some (.ref l0), some (.int l1), none, some (.int l3), none]) (st' := [.int (10102 : Int32)]) (D' := D1) (pc' := 188) rfl (rfl) rfl ?_
    exact ev_weak hX (ev_le_eq (ev_le_eq (ev_le_no (ev_le_eq (ev_le_no ev_le_nil))))) (tX4_readNumber_188 hR hT hC  hk6 hl0 hf)
  · have hf := ev_it h2 hf
    refine ev_blk hX lkok_RX4 [(.sipush 10101, 3, 0, 0, 10101)] (by decide +kernel) (g := true) (lv' := [some (.ref l0), some (.int l1), none, some (.int l3), none]) (st' := [.int (10101 : Int32)]) (D' := D1) (pc' := 182) rfl (rfl) rfl ?_
    refine ev_goto hX (off := 6) 188 (by decide +kernel) (by decide) ?_
    exact ev_weak hX (ev_le_eq (ev_le_eq (ev_le_no (ev_le_eq (ev_le_no ev_le_nil))))) (tX4_readNumber_188 hR hT hC  hk6 hl0 hf)
set_option maxHeartbeats 4000000 in
set_option maxRecDepth 100000 in
theorem tX4_readNumber_150 {S : ev_S} {fu : Nat} {r : Int32 × ev_D} {F : ev_Fr} (hR : ev_R RX4 cX4_readNumber 5 2 0 0 false (some .boolean) S r F) (hT : ev_Ty S) (hC : sC S ≤ 0 ∧ sA S ≤ 0) {k6 : Nat → Int32 → Int32 → Int32 → ev_D → ev_Op} (hk6 : ∀ (l0 : Nat) (l1 : Int32) (l2 : Int32) (l3 : Int32) (D : ev_D), sK S l0 = 7 → k6 l0 l1 l2 l3 D = some r → F S D 6 [some (.ref l0), some (.int l1), some (.int l2), some (.int l3), none] []) {l0 : Nat} {l1 : Int32} {l3 : Int32} {D : ev_D} (hl0 : sK S l0 = 7) (hf : fX4_readNumber_150 (sL S) (sE S) fu k6 l0 l1 l3 D = some r) : F S D 150 [some (.ref l0), some (.int l1), none, some (.int l3), none] [] := by
  have hX := hR.X
  unfold fX4_readNumber_150 at hf
  refine ev_blk hX lkok_RX4 [(.aload_n 0, 1, 0, 0, 0)] (by decide +kernel) (g := true) (lv' := [some (.ref l0), some (.int l1), none, some (.int l3), none]) (st' := [.ref l0]) (D' := D) (pc' := 151) rfl (rfl) rfl ?_
  obtain ⟨v3, D3, hc3, hf⟩ := ev_bd_s hf
  refine ev_callV hX YX4_kind ml_RX4_63 (mX4_kind hT hl0 hc3) (vs := []) (st := []) (by decide) 4 hl0 rfl rfl rfl (by decide +kernel) hC ?_
  show F S D3 154 [some (.ref l0), some (.int l1), none, some (.int l3), none] [.int v3]
  refine ev_blk hX lkok_RX4 [(.bipush 43, 2, 0, 0, 43)] (by decide +kernel) (g := true) (lv' := [some (.ref l0), some (.int l1), none, some (.int l3), none]) (st' := [.int (43 : Int32), .int v3]) (D' := D3) (pc' := 156) rfl (rfl) rfl ?_
  refine ev_ic_eq hX (off := 14) 170 (by decide +kernel) (by decide) (fun h4 => ?_) (fun h4 => ?_)
  · have hf := ev_it h4 hf
    exact ev_weak hX (ev_le_eq (ev_le_eq (ev_le_no (ev_le_eq (ev_le_no ev_le_nil))))) (tX4_readNumber_170 hR hT hC  hk6 hl0 hf)
  · have hf := ev_nf h4 hf
    refine ev_blk hX lkok_RX4 [(.aload_n 0, 1, 0, 0, 0)] (by decide +kernel) (g := true) (lv' := [some (.ref l0), some (.int l1), none, some (.int l3), none]) (st' := [.ref l0]) (D' := D3) (pc' := 160) rfl (rfl) rfl ?_
    obtain ⟨v5, D5, hc5, hf⟩ := ev_bd_s hf
    refine ev_callV hX YX4_kind ml_RX4_63 (mX4_kind hT hl0 hc5) (vs := []) (st := []) (by decide) 4 hl0 rfl rfl rfl (by decide +kernel) hC ?_
    show F S D5 163 [some (.ref l0), some (.int l1), none, some (.int l3), none] [.int v5]
    refine ev_blk hX lkok_RX4 [(.bipush 45, 2, 0, 0, 45)] (by decide +kernel) (g := true) (lv' := [some (.ref l0), some (.int l1), none, some (.int l3), none]) (st' := [.int (45 : Int32), .int v5]) (D' := D5) (pc' := 165) rfl (rfl) rfl ?_
    refine ev_ic_eq hX (off := 5) 170 (by decide +kernel) (by decide) (fun h6 => ?_) (fun h6 => ?_)
    · have hf := ev_it h6 hf
      exact ev_weak hX (ev_le_eq (ev_le_eq (ev_le_no (ev_le_eq (ev_le_no ev_le_nil))))) (tX4_readNumber_170 hR hT hC  hk6 hl0 hf)
    · have hf := ev_nf h6 hf
      refine ev_blk hX lkok_RX4 [(.iconst 1, 1, 0, 0, 1)] (by decide +kernel) (g := true) (lv' := [some (.ref l0), some (.int l1), none, some (.int l3), none]) (st' := [.int (1 : Int32)]) (D' := D5) (pc' := 169) rfl (rfl) rfl ?_
      exact ev_zret hR ev_sm.rf (Or.inr rfl) (Option.some.inj hf) hC (by decide +kernel)
set_option maxHeartbeats 4000000 in
set_option maxRecDepth 100000 in
theorem tX4_readNumber_129 {S : ev_S} {fu : Nat} {r : Int32 × ev_D} {F : ev_Fr} (hR : ev_R RX4 cX4_readNumber 5 2 0 0 false (some .boolean) S r F) (hT : ev_Ty S) (hC : sC S ≤ 0 ∧ sA S ≤ 0) {k6 : Nat → Int32 → Int32 → Int32 → ev_D → ev_Op} (hk6 : ∀ (l0 : Nat) (l1 : Int32) (l2 : Int32) (l3 : Int32) (D : ev_D), sK S l0 = 7 → k6 l0 l1 l2 l3 D = some r → F S D 6 [some (.ref l0), some (.int l1), some (.int l2), some (.int l3), none] []) {l0 : Nat} {l2 : Int32} {l3 : Int32} {s0 : Int32} {D : ev_D} (hl0 : sK S l0 = 7) (hf : fX4_readNumber_129 (sL S) (sE S) fu k6 l0 l2 l3 s0 D = some r) : F S D 129 [some (.ref l0), none, some (.int l2), some (.int l3), none] [.int s0] := by
  have hX := hR.X
  unfold fX4_readNumber_129 at hf
  refine ev_blk hX lkok_RX4 [(.istore_n 1, 1, 0, 0, 0), (.iload_n 1, 1, 0, 0, 0)] (by decide +kernel) (g := true) (lv' := [some (.ref l0), some (.int s0), some (.int l2), some (.int l3), none]) (st' := [.int s0]) (D' := D) (pc' := 131) rfl (rfl) rfl ?_
  refine ev_if_ne hX (off := 58) 189 (by decide +kernel) (by decide) (fun h7 => ?_) (fun h7 => ?_)
  · have hf := ev_nf h7 hf
    exact ev_weak hX (ev_le_eq (ev_le_eq (ev_le_eq (ev_le_eq (ev_le_no ev_le_nil))))) (tX4_readNumber_189 hR hT hC  hk6 hl0 hf)
  · have hf := ev_it h7 hf
    refine ev_blk hX lkok_RX4 [(.iload_n 2, 1, 0, 0, 0), (.iconst (-1), 1, 0, 0, (-1))] (by decide +kernel) (g := true) (lv' := [some (.ref l0), some (.int s0), some (.int l2), some (.int l3), none]) (st' := [.int (-1 : Int32), .int l2]) (D' := D) (pc' := 136) rfl (rfl) rfl ?_
    refine ev_ic_eq hX (off := 14) 150 (by decide +kernel) (by decide) (fun h8 => ?_) (fun h8 => ?_)
    · have hf := ev_it h8 hf
      exact ev_weak hX (ev_le_eq (ev_le_eq (ev_le_no (ev_le_eq (ev_le_no ev_le_nil))))) (tX4_readNumber_150 hR hT hC  hk6 hl0 hf)
    · have hf := ev_nf h8 hf
      refine ev_blk hX lkok_RX4 [(.aload_n 0, 1, 0, 0, 0), (.getfield 14, 3, 4, 0, 0), (.getfield 90, 3, 7, 0, 0), (.iload_n 2, 1, 0, 0, 0)] (by decide +kernel) (g := (sK S l0 == 7) && ((sK S ((sE S) l0 0) == 10) && (true))) (lv' := [some (.ref l0), some (.int s0), some (.int l2), some (.int l3), none]) (st' := [.int l2, .ref ((sE S) ((sE S) l0 0) 0)]) (D' := D) (pc' := 147) rfl (ev_gk hl0 (ev_gk (ev_tyk hT hl0 rfl rfl) (rfl))) rfl ?_
      obtain ⟨v9, D9, hc9, hf⟩ := ev_bd_s hf
      refine ev_callV hX YX1_add ml_RX4_192 (mX1_add hT (ev_tyk hT (ev_tyk hT hl0 rfl rfl) rfl rfl) hc9) (vs := [.int l2]) (st := []) (by decide) 1 (ev_tyk hT (ev_tyk hT hl0 rfl rfl) rfl rfl) rfl rfl rfl (by decide +kernel) hC ?_
      show F S D9 150 [some (.ref l0), some (.int s0), some (.int l2), some (.int l3), none] []
      exact ev_weak hX (ev_le_eq (ev_le_eq (ev_le_no (ev_le_eq (ev_le_no ev_le_nil))))) (tX4_readNumber_150 hR hT hC  hk6 hl0 hf)
set_option maxHeartbeats 4000000 in
set_option maxRecDepth 100000 in
theorem tX4_readNumber_115 {S : ev_S} {fu : Nat} {r : Int32 × ev_D} {F : ev_Fr} (hR : ev_R RX4 cX4_readNumber 5 2 0 0 false (some .boolean) S r F) (hT : ev_Ty S) (hC : sC S ≤ 0 ∧ sA S ≤ 0) {k6 : Nat → Int32 → Int32 → Int32 → ev_D → ev_Op} (hk6 : ∀ (l0 : Nat) (l1 : Int32) (l2 : Int32) (l3 : Int32) (D : ev_D), sK S l0 = 7 → k6 l0 l1 l2 l3 D = some r → F S D 6 [some (.ref l0), some (.int l1), some (.int l2), some (.int l3), none] []) {l0 : Nat} {l2 : Int32} {l3 : Int32} {D : ev_D} (hl0 : sK S l0 = 7) (hf : fX4_readNumber_115 (sL S) (sE S) fu k6 l0 l2 l3 D = some r) : F S D 115 [some (.ref l0), none, some (.int l2), some (.int l3), none] [] := by
  have hX := hR.X
  unfold fX4_readNumber_115 at hf
  refine ev_blk hX lkok_RX4 [(.aload_n 0, 1, 0, 0, 0)] (by decide +kernel) (g := true) (lv' := [some (.ref l0), none, some (.int l2), some (.int l3), none]) (st' := [.ref l0]) (D' := D) (pc' := 116) rfl (rfl) rfl ?_
  obtain ⟨v10, D10, hc10, hf⟩ := ev_bd_s hf
  refine ev_callV hX YX4_kind ml_RX4_63 (mX4_kind hT hl0 hc10) (vs := []) (st := []) (by decide) 4 hl0 rfl rfl rfl (by decide +kernel) hC ?_
  show F S D10 119 [some (.ref l0), none, some (.int l2), some (.int l3), none] [.int v10]
  refine ev_blk hX lkok_RX4 [(.bipush 42, 2, 0, 0, 42)] (by decide +kernel) (g := true) (lv' := [some (.ref l0), none, some (.int l2), some (.int l3), none]) (st' := [.int (42 : Int32), .int v10]) (D' := D10) (pc' := 121) rfl (rfl) rfl ?_
  refine ev_ic_ne hX (off := 7) 128 (by decide +kernel) (by decide) (fun h11 => ?_) (fun h11 => ?_)
  · have hf := ev_nf h11 hf
    refine ev_blk hX lkok_RX4 [(.iconst 0, 1, 0, 0, 0)] (by decide +kernel) (g := true) (lv' := [some (.ref l0), none, some (.int l2), some (.int l3), none]) (st' := [.int (0 : Int32)]) (D' := D10) (pc' := 129) rfl (rfl) rfl ?_
    exact ev_weak hX (ev_le_eq (ev_le_no (ev_le_eq (ev_le_eq (ev_le_no ev_le_nil))))) (tX4_readNumber_129 hR hT hC  hk6 hl0 hf)
  · have hf := ev_it h11 hf
    refine ev_blk hX lkok_RX4 [(.iconst 1, 1, 0, 0, 1)] (by decide +kernel) (g := true) (lv' := [some (.ref l0), none, some (.int l2), some (.int l3), none]) (st' := [.int (1 : Int32)]) (D' := D10) (pc' := 125) rfl (rfl) rfl ?_
    refine ev_goto hX (off := 4) 129 (by decide +kernel) (by decide) ?_
    exact ev_weak hX (ev_le_eq (ev_le_no (ev_le_eq (ev_le_eq (ev_le_no ev_le_nil))))) (tX4_readNumber_129 hR hT hC  hk6 hl0 hf)
set_option maxHeartbeats 4000000 in
set_option maxRecDepth 100000 in
theorem tX4_readNumber_42 {S : ev_S} {fu : Nat} {r : Int32 × ev_D} {F : ev_Fr} (hR : ev_R RX4 cX4_readNumber 5 2 0 0 false (some .boolean) S r F) (hT : ev_Ty S) (hC : sC S ≤ 0 ∧ sA S ≤ 0) {k6 : Nat → Int32 → Int32 → Int32 → ev_D → ev_Op} (hk6 : ∀ (l0 : Nat) (l1 : Int32) (l2 : Int32) (l3 : Int32) (D : ev_D), sK S l0 = 7 → k6 l0 l1 l2 l3 D = some r → F S D 6 [some (.ref l0), some (.int l1), some (.int l2), some (.int l3), none] []) : ∀ (n : Nat) (l0 : Nat) (l2 : Int32) (l3 : Int32) (l4 : Int32) (D : ev_D), sK S l0 = 7 → fX4_readNumber_42 (sL S) (sE S) fu k6 n l0 l2 l3 l4 D = some r → F S D 42 [some (.ref l0), none, some (.int l2), some (.int l3), some (.int l4)] [] := by
  have hX := hR.X
  intro n
  induction n with
  | zero =>
    intro l0 l2 l3 l4 D hl0 hf
    rw [fX4_readNumber_42] at hf
    cases hf
  | succ n ih =>
    intro l0 l2 l3 l4 D hl0 hf
    rw [fX4_readNumber_42] at hf
    refine ev_blk hX lkok_RX4 [(.iload 4, 2, 0, 0, 0), (.sipush 400, 3, 0, 0, 400)] (by decide +kernel) (g := true) (lv' := [some (.ref l0), none, some (.int l2), some (.int l3), some (.int l4)]) (st' := [.int (400 : Int32), .int l4]) (D' := D) (pc' := 47) rfl (rfl) rfl ?_
    refine ev_ic_ge hX (off := 68) 115 (by decide +kernel) (by decide) (fun h12 => ?_) (fun h12 => ?_)
    · have hf := ev_it h12 hf
      exact ev_weak hX (ev_le_eq (ev_le_no (ev_le_eq (ev_le_eq (ev_le_no ev_le_nil))))) (tX4_readNumber_115 hR hT hC  hk6 hl0 hf)
    · have hf := ev_nf h12 hf
      refine ev_blk hX lkok_RX4 [(.aload_n 0, 1, 0, 0, 0)] (by decide +kernel) (g := true) (lv' := [some (.ref l0), none, some (.int l2), some (.int l3), some (.int l4)]) (st' := [.ref l0]) (D' := D) (pc' := 51) rfl (rfl) rfl ?_
      obtain ⟨v13, D13, hc13, hf⟩ := ev_bd_s hf
      refine ev_callV hX YX4_kind ml_RX4_63 (mX4_kind hT hl0 hc13) (vs := []) (st := []) (by decide) 4 hl0 rfl rfl rfl (by decide +kernel) hC ?_
      show F S D13 54 [some (.ref l0), none, some (.int l2), some (.int l3), some (.int l4)] [.int v13]
      refine ev_blk hX lkok_RX4 [(.bipush 47, 2, 0, 0, 47)] (by decide +kernel) (g := true) (lv' := [some (.ref l0), none, some (.int l2), some (.int l3), some (.int l4)]) (st' := [.int (47 : Int32), .int v13]) (D' := D13) (pc' := 56) rfl (rfl) rfl ?_
      refine ev_ic_ne hX (off := 59) 115 (by decide +kernel) (by decide) (fun h14 => ?_) (fun h14 => ?_)
      · have hf := ev_nf h14 hf
        exact ev_weak hX (ev_le_eq (ev_le_no (ev_le_eq (ev_le_eq (ev_le_no ev_le_nil))))) (tX4_readNumber_115 hR hT hC  hk6 hl0 hf)
      · have hf := ev_it h14 hf
        refine ev_blk hX lkok_RX4 [(.aload_n 0, 1, 0, 0, 0), (.dup, 1, 0, 0, 0), (.getfield 44, 3, 4, 9, 0), (.iconst 1, 1, 0, 0, 1), (.iadd, 1, 0, 0, 0), (.putfield 44, 3, 4, 9, 0), (.aload_n 0, 1, 0, 0, 0), (.sipush 9999, 3, 0, 0, 9999), (.iconst 1, 1, 0, 0, 1)] (by decide +kernel) (g := (sK S l0 == 7) && ((sK S l0 == 7) && (true))) (lv' := [some (.ref l0), none, some (.int l2), some (.int l3), some (.int l4)]) (st' := [.int (1 : Int32), .int (9999 : Int32), .ref l0]) (D' := (ev_up D13 l0 9 ((D13 l0 9) + (1 : Int32)))) (pc' := 74) rfl (ev_gk hl0 (ev_gk hl0 (rfl))) rfl ?_
        obtain ⟨v15, D15, hc15, hf⟩ := ev_bd_s hf
        refine ev_callV hX YX4_takeNumber ml_RX4_160 (mX4_takeNumber hT hl0 hc15) (vs := [.int (9999 : Int32), .int (1 : Int32)]) (st := []) (by decide) 4 hl0 rfl rfl rfl (by decide +kernel) hC ?_
        show F S D15 77 [some (.ref l0), none, some (.int l2), some (.int l3), some (.int l4)] [.int v15]
        refine ev_if_ne hX (off := 5) 82 (by decide +kernel) (by decide) (fun h16 => ?_) (fun h16 => ?_)
        · have hf := ev_nf h16 hf
          refine ev_blk hX lkok_RX4 [(.aload_n 0, 1, 0, 0, 0), (.getfield 14, 3, 4, 0, 0), (.getfield 90, 3, 7, 0, 0), (.aload_n 0, 1, 0, 0, 0), (.getfield 47, 3, 4, 10, 0)] (by decide +kernel) (g := (sK S l0 == 7) && ((sK S ((sE S) l0 0) == 10) && ((sK S l0 == 7) && (true)))) (lv' := [some (.ref l0), none, some (.int l2), some (.int l3), some (.int l4)]) (st' := [.int (D15 l0 10), .ref ((sE S) ((sE S) l0 0) 0)]) (D' := D15) (pc' := 93) rfl (ev_gk hl0 (ev_gk (ev_tyk hT hl0 rfl rfl) (ev_gk hl0 (rfl)))) rfl ?_
          obtain ⟨v17, D17, hc17, hf⟩ := ev_bd_s hf
          refine ev_callV hX YX1_add ml_RX4_192 (mX1_add hT (ev_tyk hT (ev_tyk hT hl0 rfl rfl) rfl rfl) hc17) (vs := [.int (D15 l0 10)]) (st := []) (by decide) 1 (ev_tyk hT (ev_tyk hT hl0 rfl rfl) rfl rfl) rfl rfl rfl (by decide +kernel) hC ?_
          show F S D17 96 [some (.ref l0), none, some (.int l2), some (.int l3), some (.int l4)] []
          refine ev_blk hX lkok_RX4 [(.aload_n 0, 1, 0, 0, 0), (.getfield 14, 3, 4, 0, 0), (.getfield 90, 3, 7, 0, 0), (.sipush 10104, 3, 0, 0, 10104)] (by decide +kernel) (g := (sK S l0 == 7) && ((sK S ((sE S) l0 0) == 10) && (true))) (lv' := [some (.ref l0), none, some (.int l2), some (.int l3), some (.int l4)]) (st' := [.int (10104 : Int32), .ref ((sE S) ((sE S) l0 0) 0)]) (D' := D17) (pc' := 106) rfl (ev_gk hl0 (ev_gk (ev_tyk hT hl0 rfl rfl) (rfl))) rfl ?_
          obtain ⟨v18, D18, hc18, hf⟩ := ev_bd_s hf
          refine ev_callV hX YX1_add ml_RX4_192 (mX1_add hT (ev_tyk hT (ev_tyk hT hl0 rfl rfl) rfl rfl) hc18) (vs := [.int (10104 : Int32)]) (st := []) (by decide) 1 (ev_tyk hT (ev_tyk hT hl0 rfl rfl) rfl rfl) rfl rfl rfl (by decide +kernel) hC ?_
          show F S D18 109 [some (.ref l0), none, some (.int l2), some (.int l3), some (.int l4)] []
          refine ev_blk hX lkok_RX4 [(.iinc 4 1, 3, 0, 0, 1)] (by decide +kernel) (g := true) (lv' := [some (.ref l0), none, some (.int l2), some (.int l3), some (.int (l4 + (1 : Int32)))]) (st' := []) (D' := D18) (pc' := 112) rfl (rfl) rfl ?_
          refine ev_goto hX (off := (-70)) 42 (by decide +kernel) (by decide) ?_
          exact ev_weak hX (ev_le_eq (ev_le_no (ev_le_eq (ev_le_eq (ev_le_eq ev_le_nil))))) (ih _ _ _ _ _ hl0 hf)
        · have hf := ev_it h16 hf
          refine ev_blk hX lkok_RX4 [(.iconst 0, 1, 0, 0, 0)] (by decide +kernel) (g := true) (lv' := [some (.ref l0), none, some (.int l2), some (.int l3), some (.int l4)]) (st' := [.int (0 : Int32)]) (D' := D15) (pc' := 81) rfl (rfl) rfl ?_
          exact ev_zret hR ev_sm.rf (Or.inl rfl) (Option.some.inj hf) hC (by decide +kernel)
set_option maxHeartbeats 4000000 in
set_option maxRecDepth 100000 in
theorem tX4_readNumber_6 {S : ev_S} {fu : Nat} {r : Int32 × ev_D} {F : ev_Fr} (hR : ev_R RX4 cX4_readNumber 5 2 0 0 false (some .boolean) S r F) (hT : ev_Ty S) (hC : sC S ≤ 0 ∧ sA S ≤ 0) : ∀ (n : Nat) (l0 : Nat) (l1 : Int32) (l2 : Int32) (l3 : Int32) (D : ev_D), sK S l0 = 7 → fX4_readNumber_6 (sL S) (sE S) fu n l0 l1 l2 l3 D = some r → F S D 6 [some (.ref l0), some (.int l1), some (.int l2), some (.int l3), none] [] := by
  have hX := hR.X
  intro n
  induction n with
  | zero =>
    intro l0 l1 l2 l3 D hl0 hf
    rw [fX4_readNumber_6] at hf
    cases hf
  | succ n ih =>
    intro l0 l1 l2 l3 D hl0 hf
    rw [fX4_readNumber_6] at hf
    refine ev_blk hX lkok_RX4 [(.iload_n 3, 1, 0, 0, 0), (.sipush 400, 3, 0, 0, 400)] (by decide +kernel) (g := true) (lv' := [some (.ref l0), some (.int l1), some (.int l2), some (.int l3), none]) (st' := [.int (400 : Int32), .int l3]) (D' := D) (pc' := 10) rfl (rfl) rfl ?_
    refine ev_ic_ge hX (off := 195) 205 (by decide +kernel) (by decide) (fun h19 => ?_) (fun h19 => ?_)
    · have hf := ev_it h19 hf
      refine ev_blk hX lkok_RX4 [(.aload_n 0, 1, 0, 0, 0), (.iconst 1, 1, 0, 0, 1)] (by decide +kernel) (g := true) (lv' := [some (.ref l0), some (.int l1), some (.int l2), some (.int l3), none]) (st' := [.int (1 : Int32), .ref l0]) (D' := D) (pc' := 207) rfl (rfl) rfl ?_
      obtain ⟨v20, D20, hc20, hf⟩ := ev_bd_s hf
      refine ev_callV hX YX4_refuse ml_RX4_71 (mX4_refuse hT hl0 hc20) (vs := [.int (1 : Int32)]) (st := []) (by decide) 4 hl0 rfl rfl rfl (by decide +kernel) hC ?_
      show F S D20 210 [some (.ref l0), some (.int l1), some (.int l2), some (.int l3), none] [.int v20]
      obtain ⟨hz, hf⟩ := ev_gd_s hf
      exact ev_zret hR ev_sm.rf (ev_z01 hz) (Option.some.inj hf) hC (by decide +kernel)
    · have hf := ev_nf h19 hf
      refine ev_blk hX lkok_RX4 [(.aload_n 0, 1, 0, 0, 0)] (by decide +kernel) (g := true) (lv' := [some (.ref l0), some (.int l1), some (.int l2), some (.int l3), none]) (st' := [.ref l0]) (D' := D) (pc' := 14) rfl (rfl) rfl ?_
      obtain ⟨v21, D21, hc21, hf⟩ := ev_bd_s hf
      refine ev_callV hX YX4_readUnit ml_RX4_194 (mX4_readUnit hT hl0 hc21) (vs := []) (st := []) (by decide) 4 hl0 rfl rfl rfl (by decide +kernel) hC ?_
      show F S D21 17 [some (.ref l0), some (.int l1), some (.int l2), some (.int l3), none] [.int v21]
      refine ev_if_ne hX (off := 5) 22 (by decide +kernel) (by decide) (fun h22 => ?_) (fun h22 => ?_)
      · have hf := ev_nf h22 hf
        refine ev_blk hX lkok_RX4 [(.iload_n 1, 1, 0, 0, 0)] (by decide +kernel) (g := true) (lv' := [some (.ref l0), some (.int l1), some (.int l2), some (.int l3), none]) (st' := [.int l1]) (D' := D21) (pc' := 23) rfl (rfl) rfl ?_
        refine ev_if_eq hX (off := 16) 39 (by decide +kernel) (by decide) (fun h23 => ?_) (fun h23 => ?_)
        · have hf := ev_it h23 hf
          refine ev_blk hX lkok_RX4 [(.iconst 0, 1, 0, 0, 0), (.istore 4, 2, 0, 0, 0)] (by decide +kernel) (g := true) (lv' := [some (.ref l0), some (.int l1), some (.int l2), some (.int l3), some (.int (0 : Int32))]) (st' := []) (D' := D21) (pc' := 42) rfl (rfl) rfl ?_
          exact ev_weak hX (ev_le_eq (ev_le_no (ev_le_eq (ev_le_eq (ev_le_eq ev_le_nil))))) (tX4_readNumber_42 hR hT hC  ih fu _ _ _ _ _ hl0 hf)
        · have hf := ev_nf h23 hf
          refine ev_blk hX lkok_RX4 [(.aload_n 0, 1, 0, 0, 0), (.getfield 14, 3, 4, 0, 0), (.getfield 90, 3, 7, 0, 0), (.sipush 10103, 3, 0, 0, 10103)] (by decide +kernel) (g := (sK S l0 == 7) && ((sK S ((sE S) l0 0) == 10) && (true))) (lv' := [some (.ref l0), some (.int l1), some (.int l2), some (.int l3), none]) (st' := [.int (10103 : Int32), .ref ((sE S) ((sE S) l0 0) 0)]) (D' := D21) (pc' := 36) rfl (ev_gk hl0 (ev_gk (ev_tyk hT hl0 rfl rfl) (rfl))) rfl ?_
          obtain ⟨v24, D24, hc24, hf⟩ := ev_bd_s hf
          refine ev_callV hX YX1_add ml_RX4_192 (mX1_add hT (ev_tyk hT (ev_tyk hT hl0 rfl rfl) rfl rfl) hc24) (vs := [.int (10103 : Int32)]) (st := []) (by decide) 1 (ev_tyk hT (ev_tyk hT hl0 rfl rfl) rfl rfl) rfl rfl rfl (by decide +kernel) hC ?_
          show F S D24 39 [some (.ref l0), some (.int l1), some (.int l2), some (.int l3), none] []
          refine ev_blk hX lkok_RX4 [(.iconst 0, 1, 0, 0, 0), (.istore 4, 2, 0, 0, 0)] (by decide +kernel) (g := true) (lv' := [some (.ref l0), some (.int l1), some (.int l2), some (.int l3), some (.int (0 : Int32))]) (st' := []) (D' := D24) (pc' := 42) rfl (rfl) rfl ?_
          exact ev_weak hX (ev_le_eq (ev_le_no (ev_le_eq (ev_le_eq (ev_le_eq ev_le_nil))))) (tX4_readNumber_42 hR hT hC  ih fu _ _ _ _ _ hl0 hf)
      · have hf := ev_it h22 hf
        refine ev_blk hX lkok_RX4 [(.iconst 0, 1, 0, 0, 0)] (by decide +kernel) (g := true) (lv' := [some (.ref l0), some (.int l1), some (.int l2), some (.int l3), none]) (st' := [.int (0 : Int32)]) (D' := D21) (pc' := 21) rfl (rfl) rfl ?_
        exact ev_zret hR ev_sm.rf (Or.inl rfl) (Option.some.inj hf) hC (by decide +kernel)
set_option maxHeartbeats 4000000 in
set_option maxRecDepth 100000 in
theorem tX4_readNumber {S : ev_S} {fu : Nat} {r : Int32 × ev_D} {F : ev_Fr} (hR : ev_R RX4 cX4_readNumber 5 2 0 0 false (some .boolean) S r F) (hT : ev_Ty S) (hC : sC S ≤ 0 ∧ sA S ≤ 0) {l0 : Nat} {D : ev_D} (hl0 : sK S l0 = 7) (hf : fX4_readNumber (sL S) (sE S) fu l0 D = some r) : F S D 0 [some (.ref l0), none, none, none, none] [] := by
  have hX := hR.X
  unfold fX4_readNumber at hf
  refine ev_blk hX lkok_RX4 [(.iconst 0, 1, 0, 0, 0), (.istore_n 1, 1, 0, 0, 0), (.iconst (-1), 1, 0, 0, (-1)), (.istore_n 2, 1, 0, 0, 0), (.iconst 0, 1, 0, 0, 0), (.istore_n 3, 1, 0, 0, 0)] (by decide +kernel) (g := true) (lv' := [some (.ref l0), some (.int (0 : Int32)), some (.int (-1 : Int32)), some (.int (0 : Int32)), none]) (st' := []) (D' := D) (pc' := 6) rfl (rfl) rfl ?_
  exact ev_weak hX (ev_le_eq (ev_le_eq (ev_le_eq (ev_le_eq (ev_le_no ev_le_nil))))) (tX4_readNumber_6 hR hT hC   fu _ _ _ _ _ hl0 hf)
theorem mX4_readNumber {S : ev_S} {fu : Nat} {r : Int32 × ev_D} (hT : ev_Ty S) {l0 : Nat} {D : ev_D} (hl0 : sK S l0 = 7) (hf : fX4_readNumber (sL S) (sE S) fu l0 D = some r) : ev_M 2 0 0 yX4_readNumber cX4_readNumber 5 (some .boolean) [.ref l0] S D S r :=
  ev_met (ini := false) (plainFor_of_name (by decide)) (fun h => by cases h) rfl (Nat.le_of_ble_eq_true rfl) (fun F hR => tX4_readNumber (S := ev_z S) hR hT ⟨Nat.le_refl 0, Nat.le_refl 0⟩ hl0 hf)
