set_option maxHeartbeats 4000000 in
set_option maxRecDepth 100000 in
theorem tX12_keepsLaw_96 {S : ev_S} {fu : Nat} {r : Int32 × ev_D} {F : ev_Fr} (hR : ev_R RX12 cX12_keepsLaw 2 1 0 0 false none S r F) (hT : ev_Ty S) (hC : sC S ≤ 0 ∧ sA S ≤ 0) : ∀ (n : Nat) (l0 : Nat) (l1 : Int32) (D : ev_D), sK S l0 = 15 → fX12_keepsLaw_96 (sL S) (sE S) fu n l0 l1 D = some r → F S D 96 [some (.ref l0), some (.int l1)] [] := by
  have hX := hR.X
  intro n
  induction n with
  | zero =>
    intro l0 l1 D hl0 hf
    rw [fX12_keepsLaw_96] at hf
    cases hf
  | succ n ih =>
    intro l0 l1 D hl0 hf
    rw [fX12_keepsLaw_96] at hf
    refine ev_blk hX lkok_RX12 [(.iload_n 1, 1, 0, 0, 0), (.sipush 400, 3, 0, 0, 400)] (by decide +kernel) (g := true) (lv' := [some (.ref l0), some (.int l1)]) (st' := [.int (400 : Int32), .int l1]) (D' := D) (pc' := 100) rfl (rfl) rfl ?_
    refine ev_ic_ge hX (off := 41) 141 (by decide +kernel) (by decide) (fun h1 => ?_) (fun h1 => ?_)
    · have hf := ev_it h1 hf
      exact ev_vret hR ev_sm.rf (Option.some.inj hf) hC (by decide +kernel)
    · have hf := ev_nf h1 hf
      obtain ⟨hg7, hf⟩ := ev_gd_s hf
      refine ev_blk hX lkok_RX12 [(.aload_n 0, 1, 0, 0, 0), (.getfield 55, 3, 12, 24, 0), (.iload_n 1, 1, 0, 0, 0), (.aload_n 0, 1, 0, 0, 0), (.aload_n 0, 1, 0, 0, 0), (.getfield 55, 3, 12, 24, 0), (.iload_n 1, 1, 0, 0, 0), (.iaload, 1, 0, 0, 0)] (by decide +kernel) (g := (sK S l0 == 15) && ((sK S l0 == 15) && ((sK S ((sE S) l0 24) == 1 && ev_in l1 ((sL S) ((sE S) l0 24))) && (true)))) (lv' := [some (.ref l0), some (.int l1)]) (st' := [.int (D ((sE S) l0 24) (l1).toNatClampNeg), .ref l0, .int l1, .ref ((sE S) l0 24)]) (D' := D) (pc' := 115) rfl (ev_gk hl0 (ev_gk hl0 (ev_gi (ev_tyk hT hl0 rfl rfl) hg7 (rfl)))) rfl ?_
      obtain ⟨v2, D2, hc2, hf⟩ := ev_bd_s hf
      refine ev_callV hX YX12_keeps ml_RX12_477 (mX12_keeps hT hl0 hc2) (vs := [.int (D ((sE S) l0 24) (l1).toNatClampNeg)]) (st := [.int l1, .ref ((sE S) l0 24)]) (by decide) 12 hl0 rfl rfl rfl (by decide +kernel) hC ?_
      show F S D2 118 [some (.ref l0), some (.int l1)] [.int v2, .int l1, .ref ((sE S) l0 24)]
      obtain ⟨hg5, hf⟩ := ev_gd_s hf
      obtain ⟨hg6, hf⟩ := ev_gd_s hf
      refine ev_blk hX lkok_RX12 [(.iastore, 1, 0, 0, 0), (.aload_n 0, 1, 0, 0, 0), (.getfield 58, 3, 12, 25, 0), (.iload_n 1, 1, 0, 0, 0), (.aload_n 0, 1, 0, 0, 0), (.aload_n 0, 1, 0, 0, 0), (.getfield 58, 3, 12, 25, 0), (.iload_n 1, 1, 0, 0, 0), (.iaload, 1, 0, 0, 0)] (by decide +kernel) (g := (sK S ((sE S) l0 24) == 1 && ev_in l1 ((sL S) ((sE S) l0 24))) && ((sK S l0 == 15) && ((sK S l0 == 15) && ((sK S ((sE S) l0 25) == 1 && ev_in l1 ((sL S) ((sE S) l0 25))) && (true))))) (lv' := [some (.ref l0), some (.int l1)]) (st' := [.int ((ev_up D2 ((sE S) l0 24) (l1).toNatClampNeg v2) ((sE S) l0 25) (l1).toNatClampNeg), .ref l0, .int l1, .ref ((sE S) l0 25)]) (D' := (ev_up D2 ((sE S) l0 24) (l1).toNatClampNeg v2)) (pc' := 131) rfl (ev_gi (ev_tyk hT hl0 rfl rfl) hg5 (ev_gk hl0 (ev_gk hl0 (ev_gi (ev_tyk hT hl0 rfl rfl) hg6 (rfl))))) rfl ?_
      obtain ⟨v3, D3, hc3, hf⟩ := ev_bd_s hf
      refine ev_callV hX YX12_keeps ml_RX12_477 (mX12_keeps hT hl0 hc3) (vs := [.int ((ev_up D2 ((sE S) l0 24) (l1).toNatClampNeg v2) ((sE S) l0 25) (l1).toNatClampNeg)]) (st := [.int l1, .ref ((sE S) l0 25)]) (by decide) 12 hl0 rfl rfl rfl (by decide +kernel) hC ?_
      show F S D3 134 [some (.ref l0), some (.int l1)] [.int v3, .int l1, .ref ((sE S) l0 25)]
      obtain ⟨hg4, hf⟩ := ev_gd_s hf
      refine ev_blk hX lkok_RX12 [(.iastore, 1, 0, 0, 0), (.iinc 1 1, 3, 0, 0, 1)] (by decide +kernel) (g := (sK S ((sE S) l0 25) == 1 && ev_in l1 ((sL S) ((sE S) l0 25))) && (true)) (lv' := [some (.ref l0), some (.int (l1 + (1 : Int32)))]) (st' := []) (D' := (ev_up D3 ((sE S) l0 25) (l1).toNatClampNeg v3)) (pc' := 138) rfl (ev_gi (ev_tyk hT hl0 rfl rfl) hg4 (rfl)) rfl ?_
      refine ev_goto hX (off := (-42)) 96 (by decide +kernel) (by decide) ?_
      exact ev_weak hX (ev_le_eq (ev_le_eq ev_le_nil)) (ih _ _ _ hl0 hf)
set_option maxHeartbeats 4000000 in
set_option maxRecDepth 100000 in
theorem tX12_keepsLaw_18 {S : ev_S} {fu : Nat} {r : Int32 × ev_D} {F : ev_Fr} (hR : ev_R RX12 cX12_keepsLaw 2 1 0 0 false none S r F) (hT : ev_Ty S) (hC : sC S ≤ 0 ∧ sA S ≤ 0) : ∀ (n : Nat) (l0 : Nat) (l1 : Int32) (D : ev_D), sK S l0 = 15 → fX12_keepsLaw_18 (sL S) (sE S) fu n l0 l1 D = some r → F S D 18 [some (.ref l0), some (.int l1)] [] := by
  have hX := hR.X
  intro n
  induction n with
  | zero =>
    intro l0 l1 D hl0 hf
    rw [fX12_keepsLaw_18] at hf
    cases hf
  | succ n ih =>
    intro l0 l1 D hl0 hf
    rw [fX12_keepsLaw_18] at hf
    refine ev_blk hX lkok_RX12 [(.iload_n 1, 1, 0, 0, 0), (.bipush 16, 2, 0, 0, 16)] (by decide +kernel) (g := true) (lv' := [some (.ref l0), some (.int l1)]) (st' := [.int (16 : Int32), .int l1]) (D' := D) (pc' := 21) rfl (rfl) rfl ?_
    refine ev_ic_ge hX (off := 73) 94 (by decide +kernel) (by decide) (fun h8 => ?_) (fun h8 => ?_)
    · have hf := ev_it h8 hf
      refine ev_blk hX lkok_RX12 [(.iconst 0, 1, 0, 0, 0), (.istore_n 1, 1, 0, 0, 0)] (by decide +kernel) (g := true) (lv' := [some (.ref l0), some (.int (0 : Int32))]) (st' := []) (D' := D) (pc' := 96) rfl (rfl) rfl ?_
      exact ev_weak hX (ev_le_eq (ev_le_eq ev_le_nil)) (tX12_keepsLaw_96 hR hT hC  fu _ _ _ hl0 hf)
    · have hf := ev_nf h8 hf
      obtain ⟨hg20, hf⟩ := ev_gd_s hf
      refine ev_blk hX lkok_RX12 [(.aload_n 0, 1, 0, 0, 0), (.getfield 43, 3, 12, 20, 0), (.iload_n 1, 1, 0, 0, 0), (.aload_n 0, 1, 0, 0, 0), (.aload_n 0, 1, 0, 0, 0), (.getfield 43, 3, 12, 20, 0), (.iload_n 1, 1, 0, 0, 0), (.iaload, 1, 0, 0, 0)] (by decide +kernel) (g := (sK S l0 == 15) && ((sK S l0 == 15) && ((sK S ((sE S) l0 20) == 1 && ev_in l1 ((sL S) ((sE S) l0 20))) && (true)))) (lv' := [some (.ref l0), some (.int l1)]) (st' := [.int (D ((sE S) l0 20) (l1).toNatClampNeg), .ref l0, .int l1, .ref ((sE S) l0 20)]) (D' := D) (pc' := 36) rfl (ev_gk hl0 (ev_gk hl0 (ev_gi (ev_tyk hT hl0 rfl rfl) hg20 (rfl)))) rfl ?_
      obtain ⟨v9, D9, hc9, hf⟩ := ev_bd_s hf
      refine ev_callV hX YX12_keeps ml_RX12_477 (mX12_keeps hT hl0 hc9) (vs := [.int (D ((sE S) l0 20) (l1).toNatClampNeg)]) (st := [.int l1, .ref ((sE S) l0 20)]) (by decide) 12 hl0 rfl rfl rfl (by decide +kernel) hC ?_
      show F S D9 39 [some (.ref l0), some (.int l1)] [.int v9, .int l1, .ref ((sE S) l0 20)]
      obtain ⟨hg18, hf⟩ := ev_gd_s hf
      obtain ⟨hg19, hf⟩ := ev_gd_s hf
      refine ev_blk hX lkok_RX12 [(.iastore, 1, 0, 0, 0), (.aload_n 0, 1, 0, 0, 0), (.getfield 46, 3, 12, 21, 0), (.iload_n 1, 1, 0, 0, 0), (.aload_n 0, 1, 0, 0, 0), (.aload_n 0, 1, 0, 0, 0), (.getfield 46, 3, 12, 21, 0), (.iload_n 1, 1, 0, 0, 0), (.iaload, 1, 0, 0, 0)] (by decide +kernel) (g := (sK S ((sE S) l0 20) == 1 && ev_in l1 ((sL S) ((sE S) l0 20))) && ((sK S l0 == 15) && ((sK S l0 == 15) && ((sK S ((sE S) l0 21) == 1 && ev_in l1 ((sL S) ((sE S) l0 21))) && (true))))) (lv' := [some (.ref l0), some (.int l1)]) (st' := [.int ((ev_up D9 ((sE S) l0 20) (l1).toNatClampNeg v9) ((sE S) l0 21) (l1).toNatClampNeg), .ref l0, .int l1, .ref ((sE S) l0 21)]) (D' := (ev_up D9 ((sE S) l0 20) (l1).toNatClampNeg v9)) (pc' := 52) rfl (ev_gi (ev_tyk hT hl0 rfl rfl) hg18 (ev_gk hl0 (ev_gk hl0 (ev_gi (ev_tyk hT hl0 rfl rfl) hg19 (rfl))))) rfl ?_
      obtain ⟨v10, D10, hc10, hf⟩ := ev_bd_s hf
      refine ev_callV hX YX12_keeps ml_RX12_477 (mX12_keeps hT hl0 hc10) (vs := [.int ((ev_up D9 ((sE S) l0 20) (l1).toNatClampNeg v9) ((sE S) l0 21) (l1).toNatClampNeg)]) (st := [.int l1, .ref ((sE S) l0 21)]) (by decide) 12 hl0 rfl rfl rfl (by decide +kernel) hC ?_
      show F S D10 55 [some (.ref l0), some (.int l1)] [.int v10, .int l1, .ref ((sE S) l0 21)]
      obtain ⟨hg16, hf⟩ := ev_gd_s hf
      obtain ⟨hg17, hf⟩ := ev_gd_s hf
      refine ev_blk hX lkok_RX12 [(.iastore, 1, 0, 0, 0), (.aload_n 0, 1, 0, 0, 0), (.getfield 49, 3, 12, 22, 0), (.iload_n 1, 1, 0, 0, 0), (.aload_n 0, 1, 0, 0, 0), (.aload_n 0, 1, 0, 0, 0), (.getfield 49, 3, 12, 22, 0), (.iload_n 1, 1, 0, 0, 0), (.iaload, 1, 0, 0, 0)] (by decide +kernel) (g := (sK S ((sE S) l0 21) == 1 && ev_in l1 ((sL S) ((sE S) l0 21))) && ((sK S l0 == 15) && ((sK S l0 == 15) && ((sK S ((sE S) l0 22) == 1 && ev_in l1 ((sL S) ((sE S) l0 22))) && (true))))) (lv' := [some (.ref l0), some (.int l1)]) (st' := [.int ((ev_up D10 ((sE S) l0 21) (l1).toNatClampNeg v10) ((sE S) l0 22) (l1).toNatClampNeg), .ref l0, .int l1, .ref ((sE S) l0 22)]) (D' := (ev_up D10 ((sE S) l0 21) (l1).toNatClampNeg v10)) (pc' := 68) rfl (ev_gi (ev_tyk hT hl0 rfl rfl) hg16 (ev_gk hl0 (ev_gk hl0 (ev_gi (ev_tyk hT hl0 rfl rfl) hg17 (rfl))))) rfl ?_
      obtain ⟨v11, D11, hc11, hf⟩ := ev_bd_s hf
      refine ev_callV hX YX12_keeps ml_RX12_477 (mX12_keeps hT hl0 hc11) (vs := [.int ((ev_up D10 ((sE S) l0 21) (l1).toNatClampNeg v10) ((sE S) l0 22) (l1).toNatClampNeg)]) (st := [.int l1, .ref ((sE S) l0 22)]) (by decide) 12 hl0 rfl rfl rfl (by decide +kernel) hC ?_
      show F S D11 71 [some (.ref l0), some (.int l1)] [.int v11, .int l1, .ref ((sE S) l0 22)]
      obtain ⟨hg14, hf⟩ := ev_gd_s hf
      obtain ⟨hg15, hf⟩ := ev_gd_s hf
      refine ev_blk hX lkok_RX12 [(.iastore, 1, 0, 0, 0), (.aload_n 0, 1, 0, 0, 0), (.getfield 52, 3, 12, 23, 0), (.iload_n 1, 1, 0, 0, 0), (.aload_n 0, 1, 0, 0, 0), (.aload_n 0, 1, 0, 0, 0), (.getfield 52, 3, 12, 23, 0), (.iload_n 1, 1, 0, 0, 0), (.iaload, 1, 0, 0, 0)] (by decide +kernel) (g := (sK S ((sE S) l0 22) == 1 && ev_in l1 ((sL S) ((sE S) l0 22))) && ((sK S l0 == 15) && ((sK S l0 == 15) && ((sK S ((sE S) l0 23) == 1 && ev_in l1 ((sL S) ((sE S) l0 23))) && (true))))) (lv' := [some (.ref l0), some (.int l1)]) (st' := [.int ((ev_up D11 ((sE S) l0 22) (l1).toNatClampNeg v11) ((sE S) l0 23) (l1).toNatClampNeg), .ref l0, .int l1, .ref ((sE S) l0 23)]) (D' := (ev_up D11 ((sE S) l0 22) (l1).toNatClampNeg v11)) (pc' := 84) rfl (ev_gi (ev_tyk hT hl0 rfl rfl) hg14 (ev_gk hl0 (ev_gk hl0 (ev_gi (ev_tyk hT hl0 rfl rfl) hg15 (rfl))))) rfl ?_
      obtain ⟨v12, D12, hc12, hf⟩ := ev_bd_s hf
      refine ev_callV hX YX12_keeps ml_RX12_477 (mX12_keeps hT hl0 hc12) (vs := [.int ((ev_up D11 ((sE S) l0 22) (l1).toNatClampNeg v11) ((sE S) l0 23) (l1).toNatClampNeg)]) (st := [.int l1, .ref ((sE S) l0 23)]) (by decide) 12 hl0 rfl rfl rfl (by decide +kernel) hC ?_
      show F S D12 87 [some (.ref l0), some (.int l1)] [.int v12, .int l1, .ref ((sE S) l0 23)]
      obtain ⟨hg13, hf⟩ := ev_gd_s hf
      refine ev_blk hX lkok_RX12 [(.iastore, 1, 0, 0, 0), (.iinc 1 1, 3, 0, 0, 1)] (by decide +kernel) (g := (sK S ((sE S) l0 23) == 1 && ev_in l1 ((sL S) ((sE S) l0 23))) && (true)) (lv' := [some (.ref l0), some (.int (l1 + (1 : Int32)))]) (st' := []) (D' := (ev_up D12 ((sE S) l0 23) (l1).toNatClampNeg v12)) (pc' := 91) rfl (ev_gi (ev_tyk hT hl0 rfl rfl) hg13 (rfl)) rfl ?_
      refine ev_goto hX (off := (-73)) 18 (by decide +kernel) (by decide) ?_
      exact ev_weak hX (ev_le_eq (ev_le_eq ev_le_nil)) (ih _ _ _ hl0 hf)
set_option maxHeartbeats 4000000 in
set_option maxRecDepth 100000 in
theorem tX12_keepsLaw {S : ev_S} {fu : Nat} {r : Int32 × ev_D} {F : ev_Fr} (hR : ev_R RX12 cX12_keepsLaw 2 1 0 0 false none S r F) (hT : ev_Ty S) (hC : sC S ≤ 0 ∧ sA S ≤ 0) {l0 : Nat} {D : ev_D} (hl0 : sK S l0 = 15) (hf : fX12_keepsLaw (sL S) (sE S) fu l0 D = some r) : F S D 0 [some (.ref l0), none] [] := by
  have hX := hR.X
  unfold fX12_keepsLaw at hf
  obtain ⟨hg23, hf⟩ := ev_gd_s hf
  refine ev_blk hX lkok_RX12 [(.aload_n 0, 1, 0, 0, 0), (.getfield 40, 3, 12, 19, 0), (.iconst 0, 1, 0, 0, 0), (.aload_n 0, 1, 0, 0, 0), (.aload_n 0, 1, 0, 0, 0), (.getfield 40, 3, 12, 19, 0), (.iconst 0, 1, 0, 0, 0), (.iaload, 1, 0, 0, 0)] (by decide +kernel) (g := (sK S l0 == 15) && ((sK S l0 == 15) && ((sK S ((sE S) l0 19) == 1 && ev_in (0 : Int32) ((sL S) ((sE S) l0 19))) && (true)))) (lv' := [some (.ref l0), none]) (st' := [.int (D ((sE S) l0 19) ((0 : Int32)).toNatClampNeg), .ref l0, .int (0 : Int32), .ref ((sE S) l0 19)]) (D' := D) (pc' := 12) rfl (ev_gk hl0 (ev_gk hl0 (ev_gi (ev_tyk hT hl0 rfl rfl) hg23 (rfl)))) rfl ?_
  obtain ⟨v21, D21, hc21, hf⟩ := ev_bd_s hf
  refine ev_callV hX YX12_keeps ml_RX12_477 (mX12_keeps hT hl0 hc21) (vs := [.int (D ((sE S) l0 19) ((0 : Int32)).toNatClampNeg)]) (st := [.int (0 : Int32), .ref ((sE S) l0 19)]) (by decide) 12 hl0 rfl rfl rfl (by decide +kernel) hC ?_
  show F S D21 15 [some (.ref l0), none] [.int v21, .int (0 : Int32), .ref ((sE S) l0 19)]
  obtain ⟨hg22, hf⟩ := ev_gd_s hf
  refine ev_blk hX lkok_RX12 [(.iastore, 1, 0, 0, 0), (.iconst 0, 1, 0, 0, 0), (.istore_n 1, 1, 0, 0, 0)] (by decide +kernel) (g := (sK S ((sE S) l0 19) == 1 && ev_in (0 : Int32) ((sL S) ((sE S) l0 19))) && (true)) (lv' := [some (.ref l0), some (.int (0 : Int32))]) (st' := []) (D' := (ev_up D21 ((sE S) l0 19) ((0 : Int32)).toNatClampNeg v21)) (pc' := 18) rfl (ev_gi (ev_tyk hT hl0 rfl rfl) hg22 (rfl)) rfl ?_
  exact ev_weak hX (ev_le_eq (ev_le_eq ev_le_nil)) (tX12_keepsLaw_18 hR hT hC  fu _ _ _ hl0 hf)
theorem mX12_keepsLaw {S : ev_S} {fu : Nat} {r : Int32 × ev_D} (hT : ev_Ty S) {l0 : Nat} {D : ev_D} (hl0 : sK S l0 = 15) (hf : fX12_keepsLaw (sL S) (sE S) fu l0 D = some r) : ev_M 1 0 0 yX12_keepsLaw cX12_keepsLaw 2 none [.ref l0] S D S r :=
  ev_met (ini := false) (plainFor_of_name (by decide)) (fun h => by cases h) rfl (Nat.le_of_ble_eq_true rfl) (fun F hR => tX12_keepsLaw (S := ev_z S) hR hT ⟨Nat.le_refl 0, Nat.le_refl 0⟩ hl0 hf)
set_option maxHeartbeats 4000000 in
set_option maxRecDepth 100000 in
theorem tX12_keepsMany {S : ev_S} {fu : Nat} {r : Int32 × ev_D} {F : ev_Fr} (hR : ev_R RX12 cX12_keepsMany 1 1 0 0 false none S r F) (hT : ev_Ty S) (hC : sC S ≤ 0 ∧ sA S ≤ 0) {l0 : Nat} {D : ev_D} (hl0 : sK S l0 = 15) (hf : fX12_keepsMany (sL S) (sE S) fu l0 D = some r) : F S D 0 [some (.ref l0)] [] := by
  have hX := hR.X
  unfold fX12_keepsMany at hf
  refine ev_blk hX lkok_RX12 [(.aload_n 0, 1, 0, 0, 0), (.aload_n 0, 1, 0, 0, 0), (.aload_n 0, 1, 0, 0, 0), (.getfield 140, 3, 12, 7, 0)] (by decide +kernel) (g := (sK S l0 == 15) && (true)) (lv' := [some (.ref l0)]) (st' := [.int (D l0 7), .ref l0, .ref l0]) (D' := D) (pc' := 6) rfl (ev_gk hl0 (rfl)) rfl ?_
  obtain ⟨v1, D1, hc1, hf⟩ := ev_bd_s hf
  refine ev_callV hX YX12_keeps ml_RX12_477 (mX12_keeps hT hl0 hc1) (vs := [.int (D l0 7)]) (st := [.ref l0]) (by decide) 12 hl0 rfl rfl rfl (by decide +kernel) hC ?_
  show F S D1 9 [some (.ref l0)] [.int v1, .ref l0]
  refine ev_blk hX lkok_RX12 [(.putfield 140, 3, 12, 7, 0), (.aload_n 0, 1, 0, 0, 0), (.aload_n 0, 1, 0, 0, 0), (.aload_n 0, 1, 0, 0, 0), (.getfield 290, 3, 12, 35, 0)] (by decide +kernel) (g := (sK S l0 == 15) && ((sK S l0 == 15) && (true))) (lv' := [some (.ref l0)]) (st' := [.int ((ev_up D1 l0 7 v1) l0 35), .ref l0, .ref l0]) (D' := (ev_up D1 l0 7 v1)) (pc' := 18) rfl (ev_gk hl0 (ev_gk hl0 (rfl))) rfl ?_
  obtain ⟨v2, D2, hc2, hf⟩ := ev_bd_s hf
  refine ev_callV hX YX12_keeps ml_RX12_477 (mX12_keeps hT hl0 hc2) (vs := [.int ((ev_up D1 l0 7 v1) l0 35)]) (st := [.ref l0]) (by decide) 12 hl0 rfl rfl rfl (by decide +kernel) hC ?_
  show F S D2 21 [some (.ref l0)] [.int v2, .ref l0]
  refine ev_blk hX lkok_RX12 [(.putfield 290, 3, 12, 35, 0), (.aload_n 0, 1, 0, 0, 0), (.aload_n 0, 1, 0, 0, 0), (.aload_n 0, 1, 0, 0, 0), (.getfield 293, 3, 12, 37, 0)] (by decide +kernel) (g := (sK S l0 == 15) && ((sK S l0 == 15) && (true))) (lv' := [some (.ref l0)]) (st' := [.int ((ev_up D2 l0 35 v2) l0 37), .ref l0, .ref l0]) (D' := (ev_up D2 l0 35 v2)) (pc' := 30) rfl (ev_gk hl0 (ev_gk hl0 (rfl))) rfl ?_
  obtain ⟨v3, D3, hc3, hf⟩ := ev_bd_s hf
  refine ev_callV hX YX12_keeps ml_RX12_477 (mX12_keeps hT hl0 hc3) (vs := [.int ((ev_up D2 l0 35 v2) l0 37)]) (st := [.ref l0]) (by decide) 12 hl0 rfl rfl rfl (by decide +kernel) hC ?_
  show F S D3 33 [some (.ref l0)] [.int v3, .ref l0]
  refine ev_blk hX lkok_RX12 [(.putfield 293, 3, 12, 37, 0), (.aload_n 0, 1, 0, 0, 0), (.aload_n 0, 1, 0, 0, 0), (.aload_n 0, 1, 0, 0, 0), (.getfield 296, 3, 12, 39, 0)] (by decide +kernel) (g := (sK S l0 == 15) && ((sK S l0 == 15) && (true))) (lv' := [some (.ref l0)]) (st' := [.int ((ev_up D3 l0 37 v3) l0 39), .ref l0, .ref l0]) (D' := (ev_up D3 l0 37 v3)) (pc' := 42) rfl (ev_gk hl0 (ev_gk hl0 (rfl))) rfl ?_
  obtain ⟨v4, D4, hc4, hf⟩ := ev_bd_s hf
  refine ev_callV hX YX12_keeps ml_RX12_477 (mX12_keeps hT hl0 hc4) (vs := [.int ((ev_up D3 l0 37 v3) l0 39)]) (st := [.ref l0]) (by decide) 12 hl0 rfl rfl rfl (by decide +kernel) hC ?_
  show F S D4 45 [some (.ref l0)] [.int v4, .ref l0]
  refine ev_blk hX lkok_RX12 [(.putfield 296, 3, 12, 39, 0), (.aload_n 0, 1, 0, 0, 0), (.aload_n 0, 1, 0, 0, 0), (.aload_n 0, 1, 0, 0, 0), (.getfield 406, 3, 12, 45, 0)] (by decide +kernel) (g := (sK S l0 == 15) && ((sK S l0 == 15) && (true))) (lv' := [some (.ref l0)]) (st' := [.int ((ev_up D4 l0 39 v4) l0 45), .ref l0, .ref l0]) (D' := (ev_up D4 l0 39 v4)) (pc' := 54) rfl (ev_gk hl0 (ev_gk hl0 (rfl))) rfl ?_
  obtain ⟨v5, D5, hc5, hf⟩ := ev_bd_s hf
  refine ev_callV hX YX12_keeps ml_RX12_477 (mX12_keeps hT hl0 hc5) (vs := [.int ((ev_up D4 l0 39 v4) l0 45)]) (st := [.ref l0]) (by decide) 12 hl0 rfl rfl rfl (by decide +kernel) hC ?_
  show F S D5 57 [some (.ref l0)] [.int v5, .ref l0]
  refine ev_blk hX lkok_RX12 [(.putfield 406, 3, 12, 45, 0), (.aload_n 0, 1, 0, 0, 0), (.aload_n 0, 1, 0, 0, 0), (.aload_n 0, 1, 0, 0, 0), (.getfield 414, 3, 12, 48, 0)] (by decide +kernel) (g := (sK S l0 == 15) && ((sK S l0 == 15) && (true))) (lv' := [some (.ref l0)]) (st' := [.int ((ev_up D5 l0 45 v5) l0 48), .ref l0, .ref l0]) (D' := (ev_up D5 l0 45 v5)) (pc' := 66) rfl (ev_gk hl0 (ev_gk hl0 (rfl))) rfl ?_
  obtain ⟨v6, D6, hc6, hf⟩ := ev_bd_s hf
  refine ev_callV hX YX12_keeps ml_RX12_477 (mX12_keeps hT hl0 hc6) (vs := [.int ((ev_up D5 l0 45 v5) l0 48)]) (st := [.ref l0]) (by decide) 12 hl0 rfl rfl rfl (by decide +kernel) hC ?_
  show F S D6 69 [some (.ref l0)] [.int v6, .ref l0]
  refine ev_blk hX lkok_RX12 [(.putfield 414, 3, 12, 48, 0), (.aload_n 0, 1, 0, 0, 0), (.aload_n 0, 1, 0, 0, 0), (.aload_n 0, 1, 0, 0, 0), (.getfield 426, 3, 12, 53, 0)] (by decide +kernel) (g := (sK S l0 == 15) && ((sK S l0 == 15) && (true))) (lv' := [some (.ref l0)]) (st' := [.int ((ev_up D6 l0 48 v6) l0 53), .ref l0, .ref l0]) (D' := (ev_up D6 l0 48 v6)) (pc' := 78) rfl (ev_gk hl0 (ev_gk hl0 (rfl))) rfl ?_
  obtain ⟨v7, D7, hc7, hf⟩ := ev_bd_s hf
  refine ev_callV hX YX12_keeps ml_RX12_477 (mX12_keeps hT hl0 hc7) (vs := [.int ((ev_up D6 l0 48 v6) l0 53)]) (st := [.ref l0]) (by decide) 12 hl0 rfl rfl rfl (by decide +kernel) hC ?_
  show F S D7 81 [some (.ref l0)] [.int v7, .ref l0]
  refine ev_blk hX lkok_RX12 [(.putfield 426, 3, 12, 53, 0), (.aload_n 0, 1, 0, 0, 0), (.aload_n 0, 1, 0, 0, 0), (.aload_n 0, 1, 0, 0, 0), (.getfield 435, 3, 12, 57, 0)] (by decide +kernel) (g := (sK S l0 == 15) && ((sK S l0 == 15) && (true))) (lv' := [some (.ref l0)]) (st' := [.int ((ev_up D7 l0 53 v7) l0 57), .ref l0, .ref l0]) (D' := (ev_up D7 l0 53 v7)) (pc' := 90) rfl (ev_gk hl0 (ev_gk hl0 (rfl))) rfl ?_
  obtain ⟨v8, D8, hc8, hf⟩ := ev_bd_s hf
  refine ev_callV hX YX12_keeps ml_RX12_477 (mX12_keeps hT hl0 hc8) (vs := [.int ((ev_up D7 l0 53 v7) l0 57)]) (st := [.ref l0]) (by decide) 12 hl0 rfl rfl rfl (by decide +kernel) hC ?_
  show F S D8 93 [some (.ref l0)] [.int v8, .ref l0]
  refine ev_blk hX lkok_RX12 [(.putfield 435, 3, 12, 57, 0), (.aload_n 0, 1, 0, 0, 0), (.aload_n 0, 1, 0, 0, 0), (.aload_n 0, 1, 0, 0, 0), (.getfield 441, 3, 12, 59, 0)] (by decide +kernel) (g := (sK S l0 == 15) && ((sK S l0 == 15) && (true))) (lv' := [some (.ref l0)]) (st' := [.int ((ev_up D8 l0 57 v8) l0 59), .ref l0, .ref l0]) (D' := (ev_up D8 l0 57 v8)) (pc' := 102) rfl (ev_gk hl0 (ev_gk hl0 (rfl))) rfl ?_
  obtain ⟨v9, D9, hc9, hf⟩ := ev_bd_s hf
  refine ev_callV hX YX12_keeps ml_RX12_477 (mX12_keeps hT hl0 hc9) (vs := [.int ((ev_up D8 l0 57 v8) l0 59)]) (st := [.ref l0]) (by decide) 12 hl0 rfl rfl rfl (by decide +kernel) hC ?_
  show F S D9 105 [some (.ref l0)] [.int v9, .ref l0]
  refine ev_blk hX lkok_RX12 [(.putfield 441, 3, 12, 59, 0)] (by decide +kernel) (g := (sK S l0 == 15) && (true)) (lv' := [some (.ref l0)]) (st' := []) (D' := (ev_up D9 l0 59 v9)) (pc' := 108) rfl (ev_gk hl0 (rfl)) rfl ?_
  exact ev_vret hR ev_sm.rf (Option.some.inj hf) hC (by decide +kernel)
theorem mX12_keepsMany {S : ev_S} {fu : Nat} {r : Int32 × ev_D} (hT : ev_Ty S) {l0 : Nat} {D : ev_D} (hl0 : sK S l0 = 15) (hf : fX12_keepsMany (sL S) (sE S) fu l0 D = some r) : ev_M 1 0 0 yX12_keepsMany cX12_keepsMany 1 none [.ref l0] S D S r :=
  ev_met (ini := false) (plainFor_of_name (by decide)) (fun h => by cases h) rfl (Nat.le_of_ble_eq_true rfl) (fun F hR => tX12_keepsMany (S := ev_z S) hR hT ⟨Nat.le_refl 0, Nat.le_refl 0⟩ hl0 hf)
set_option maxHeartbeats 4000000 in
set_option maxRecDepth 100000 in
theorem tX12_keepsTold_340 {S : ev_S} {fu : Nat} {r : Int32 × ev_D} {F : ev_Fr} (hR : ev_R RX12 cX12_keepsTold 2 1 0 0 false none S r F) (hT : ev_Ty S) (hC : sC S ≤ 0 ∧ sA S ≤ 0) : ∀ (n : Nat) (l0 : Nat) (l1 : Int32) (D : ev_D), sK S l0 = 15 → fX12_keepsTold_340 (sL S) (sE S) fu n l0 l1 D = some r → F S D 340 [some (.ref l0), some (.int l1)] [] := by
  have hX := hR.X
  intro n
  induction n with
  | zero =>
    intro l0 l1 D hl0 hf
    rw [fX12_keepsTold_340] at hf
    cases hf
  | succ n ih =>
    intro l0 l1 D hl0 hf
    rw [fX12_keepsTold_340] at hf
    refine ev_blk hX lkok_RX12 [(.iload_n 1, 1, 0, 0, 0), (.bipush 48, 2, 0, 0, 48)] (by decide +kernel) (g := true) (lv' := [some (.ref l0), some (.int l1)]) (st' := [.int (48 : Int32), .int l1]) (D' := D) (pc' := 343) rfl (rfl) rfl ?_
    refine ev_ic_ge hX (off := 25) 368 (by decide +kernel) (by decide) (fun h1 => ?_) (fun h1 => ?_)
    · have hf := ev_it h1 hf
      exact ev_vret hR ev_sm.rf (Option.some.inj hf) hC (by decide +kernel)
    · have hf := ev_nf h1 hf
      obtain ⟨hg4, hf⟩ := ev_gd_s hf
      refine ev_blk hX lkok_RX12 [(.aload_n 0, 1, 0, 0, 0), (.getfield 71, 3, 12, 38, 0), (.iload_n 1, 1, 0, 0, 0), (.aload_n 0, 1, 0, 0, 0), (.aload_n 0, 1, 0, 0, 0), (.getfield 71, 3, 12, 38, 0), (.iload_n 1, 1, 0, 0, 0), (.iaload, 1, 0, 0, 0)] (by decide +kernel) (g := (sK S l0 == 15) && ((sK S l0 == 15) && ((sK S ((sE S) l0 38) == 1 && ev_in l1 ((sL S) ((sE S) l0 38))) && (true)))) (lv' := [some (.ref l0), some (.int l1)]) (st' := [.int (D ((sE S) l0 38) (l1).toNatClampNeg), .ref l0, .int l1, .ref ((sE S) l0 38)]) (D' := D) (pc' := 358) rfl (ev_gk hl0 (ev_gk hl0 (ev_gi (ev_tyk hT hl0 rfl rfl) hg4 (rfl)))) rfl ?_
      obtain ⟨v2, D2, hc2, hf⟩ := ev_bd_s hf
      refine ev_callV hX YX12_keeps ml_RX12_477 (mX12_keeps hT hl0 hc2) (vs := [.int (D ((sE S) l0 38) (l1).toNatClampNeg)]) (st := [.int l1, .ref ((sE S) l0 38)]) (by decide) 12 hl0 rfl rfl rfl (by decide +kernel) hC ?_
      show F S D2 361 [some (.ref l0), some (.int l1)] [.int v2, .int l1, .ref ((sE S) l0 38)]
      obtain ⟨hg3, hf⟩ := ev_gd_s hf
      refine ev_blk hX lkok_RX12 [(.iastore, 1, 0, 0, 0), (.iinc 1 1, 3, 0, 0, 1)] (by decide +kernel) (g := (sK S ((sE S) l0 38) == 1 && ev_in l1 ((sL S) ((sE S) l0 38))) && (true)) (lv' := [some (.ref l0), some (.int (l1 + (1 : Int32)))]) (st' := []) (D' := (ev_up D2 ((sE S) l0 38) (l1).toNatClampNeg v2)) (pc' := 365) rfl (ev_gi (ev_tyk hT hl0 rfl rfl) hg3 (rfl)) rfl ?_
      refine ev_goto hX (off := (-25)) 340 (by decide +kernel) (by decide) ?_
      exact ev_weak hX (ev_le_eq (ev_le_eq ev_le_nil)) (ih _ _ _ hl0 hf)
set_option maxHeartbeats 4000000 in
set_option maxRecDepth 100000 in
theorem tX12_keepsTold_310 {S : ev_S} {fu : Nat} {r : Int32 × ev_D} {F : ev_Fr} (hR : ev_R RX12 cX12_keepsTold 2 1 0 0 false none S r F) (hT : ev_Ty S) (hC : sC S ≤ 0 ∧ sA S ≤ 0) : ∀ (n : Nat) (l0 : Nat) (l1 : Int32) (D : ev_D), sK S l0 = 15 → fX12_keepsTold_310 (sL S) (sE S) fu n l0 l1 D = some r → F S D 310 [some (.ref l0), some (.int l1)] [] := by
  have hX := hR.X
  intro n
  induction n with
  | zero =>
    intro l0 l1 D hl0 hf
    rw [fX12_keepsTold_310] at hf
    cases hf
  | succ n ih =>
    intro l0 l1 D hl0 hf
    rw [fX12_keepsTold_310] at hf
    refine ev_blk hX lkok_RX12 [(.iload_n 1, 1, 0, 0, 0), (.bipush 16, 2, 0, 0, 16)] (by decide +kernel) (g := true) (lv' := [some (.ref l0), some (.int l1)]) (st' := [.int (16 : Int32), .int l1]) (D' := D) (pc' := 313) rfl (rfl) rfl ?_
    refine ev_ic_ge hX (off := 25) 338 (by decide +kernel) (by decide) (fun h5 => ?_) (fun h5 => ?_)
    · have hf := ev_it h5 hf
      refine ev_blk hX lkok_RX12 [(.iconst 0, 1, 0, 0, 0), (.istore_n 1, 1, 0, 0, 0)] (by decide +kernel) (g := true) (lv' := [some (.ref l0), some (.int (0 : Int32))]) (st' := []) (D' := D) (pc' := 340) rfl (rfl) rfl ?_
      exact ev_weak hX (ev_le_eq (ev_le_eq ev_le_nil)) (tX12_keepsTold_340 hR hT hC  fu _ _ _ hl0 hf)
    · have hf := ev_nf h5 hf
      obtain ⟨hg8, hf⟩ := ev_gd_s hf
      refine ev_blk hX lkok_RX12 [(.aload_n 0, 1, 0, 0, 0), (.getfield 74, 3, 12, 40, 0), (.iload_n 1, 1, 0, 0, 0), (.aload_n 0, 1, 0, 0, 0), (.aload_n 0, 1, 0, 0, 0), (.getfield 74, 3, 12, 40, 0), (.iload_n 1, 1, 0, 0, 0), (.iaload, 1, 0, 0, 0)] (by decide +kernel) (g := (sK S l0 == 15) && ((sK S l0 == 15) && ((sK S ((sE S) l0 40) == 1 && ev_in l1 ((sL S) ((sE S) l0 40))) && (true)))) (lv' := [some (.ref l0), some (.int l1)]) (st' := [.int (D ((sE S) l0 40) (l1).toNatClampNeg), .ref l0, .int l1, .ref ((sE S) l0 40)]) (D' := D) (pc' := 328) rfl (ev_gk hl0 (ev_gk hl0 (ev_gi (ev_tyk hT hl0 rfl rfl) hg8 (rfl)))) rfl ?_
      obtain ⟨v6, D6, hc6, hf⟩ := ev_bd_s hf
      refine ev_callV hX YX12_keeps ml_RX12_477 (mX12_keeps hT hl0 hc6) (vs := [.int (D ((sE S) l0 40) (l1).toNatClampNeg)]) (st := [.int l1, .ref ((sE S) l0 40)]) (by decide) 12 hl0 rfl rfl rfl (by decide +kernel) hC ?_
      show F S D6 331 [some (.ref l0), some (.int l1)] [.int v6, .int l1, .ref ((sE S) l0 40)]
      obtain ⟨hg7, hf⟩ := ev_gd_s hf
      refine ev_blk hX lkok_RX12 [(.iastore, 1, 0, 0, 0), (.iinc 1 1, 3, 0, 0, 1)] (by decide +kernel) (g := (sK S ((sE S) l0 40) == 1 && ev_in l1 ((sL S) ((sE S) l0 40))) && (true)) (lv' := [some (.ref l0), some (.int (l1 + (1 : Int32)))]) (st' := []) (D' := (ev_up D6 ((sE S) l0 40) (l1).toNatClampNeg v6)) (pc' := 335) rfl (ev_gi (ev_tyk hT hl0 rfl rfl) hg7 (rfl)) rfl ?_
      refine ev_goto hX (off := (-25)) 310 (by decide +kernel) (by decide) ?_
      exact ev_weak hX (ev_le_eq (ev_le_eq ev_le_nil)) (ih _ _ _ hl0 hf)
set_option maxHeartbeats 4000000 in
set_option maxRecDepth 100000 in
theorem tX12_keepsTold_280 {S : ev_S} {fu : Nat} {r : Int32 × ev_D} {F : ev_Fr} (hR : ev_R RX12 cX12_keepsTold 2 1 0 0 false none S r F) (hT : ev_Ty S) (hC : sC S ≤ 0 ∧ sA S ≤ 0) : ∀ (n : Nat) (l0 : Nat) (l1 : Int32) (D : ev_D), sK S l0 = 15 → fX12_keepsTold_280 (sL S) (sE S) fu n l0 l1 D = some r → F S D 280 [some (.ref l0), some (.int l1)] [] := by
  have hX := hR.X
  intro n
  induction n with
  | zero =>
    intro l0 l1 D hl0 hf
    rw [fX12_keepsTold_280] at hf
    cases hf
  | succ n ih =>
    intro l0 l1 D hl0 hf
    rw [fX12_keepsTold_280] at hf
    refine ev_blk hX lkok_RX12 [(.iload_n 1, 1, 0, 0, 0), (.bipush 80, 2, 0, 0, 80)] (by decide +kernel) (g := true) (lv' := [some (.ref l0), some (.int l1)]) (st' := [.int (80 : Int32), .int l1]) (D' := D) (pc' := 283) rfl (rfl) rfl ?_
    refine ev_ic_ge hX (off := 25) 308 (by decide +kernel) (by decide) (fun h9 => ?_) (fun h9 => ?_)
    · have hf := ev_it h9 hf
      refine ev_blk hX lkok_RX12 [(.iconst 0, 1, 0, 0, 0), (.istore_n 1, 1, 0, 0, 0)] (by decide +kernel) (g := true) (lv' := [some (.ref l0), some (.int (0 : Int32))]) (st' := []) (D' := D) (pc' := 310) rfl (rfl) rfl ?_
      exact ev_weak hX (ev_le_eq (ev_le_eq ev_le_nil)) (tX12_keepsTold_310 hR hT hC  fu _ _ _ hl0 hf)
    · have hf := ev_nf h9 hf
      obtain ⟨hg12, hf⟩ := ev_gd_s hf
      refine ev_blk hX lkok_RX12 [(.aload_n 0, 1, 0, 0, 0), (.getfield 98, 3, 12, 51, 0), (.iload_n 1, 1, 0, 0, 0), (.aload_n 0, 1, 0, 0, 0), (.aload_n 0, 1, 0, 0, 0), (.getfield 98, 3, 12, 51, 0), (.iload_n 1, 1, 0, 0, 0), (.iaload, 1, 0, 0, 0)] (by decide +kernel) (g := (sK S l0 == 15) && ((sK S l0 == 15) && ((sK S ((sE S) l0 51) == 1 && ev_in l1 ((sL S) ((sE S) l0 51))) && (true)))) (lv' := [some (.ref l0), some (.int l1)]) (st' := [.int (D ((sE S) l0 51) (l1).toNatClampNeg), .ref l0, .int l1, .ref ((sE S) l0 51)]) (D' := D) (pc' := 298) rfl (ev_gk hl0 (ev_gk hl0 (ev_gi (ev_tyk hT hl0 rfl rfl) hg12 (rfl)))) rfl ?_
      obtain ⟨v10, D10, hc10, hf⟩ := ev_bd_s hf
      refine ev_callV hX YX12_keeps ml_RX12_477 (mX12_keeps hT hl0 hc10) (vs := [.int (D ((sE S) l0 51) (l1).toNatClampNeg)]) (st := [.int l1, .ref ((sE S) l0 51)]) (by decide) 12 hl0 rfl rfl rfl (by decide +kernel) hC ?_
      show F S D10 301 [some (.ref l0), some (.int l1)] [.int v10, .int l1, .ref ((sE S) l0 51)]
      obtain ⟨hg11, hf⟩ := ev_gd_s hf
      refine ev_blk hX lkok_RX12 [(.iastore, 1, 0, 0, 0), (.iinc 1 1, 3, 0, 0, 1)] (by decide +kernel) (g := (sK S ((sE S) l0 51) == 1 && ev_in l1 ((sL S) ((sE S) l0 51))) && (true)) (lv' := [some (.ref l0), some (.int (l1 + (1 : Int32)))]) (st' := []) (D' := (ev_up D10 ((sE S) l0 51) (l1).toNatClampNeg v10)) (pc' := 305) rfl (ev_gi (ev_tyk hT hl0 rfl rfl) hg11 (rfl)) rfl ?_
      refine ev_goto hX (off := (-25)) 280 (by decide +kernel) (by decide) ?_
      exact ev_weak hX (ev_le_eq (ev_le_eq ev_le_nil)) (ih _ _ _ hl0 hf)
set_option maxHeartbeats 4000000 in
set_option maxRecDepth 100000 in
theorem tX12_keepsTold_250 {S : ev_S} {fu : Nat} {r : Int32 × ev_D} {F : ev_Fr} (hR : ev_R RX12 cX12_keepsTold 2 1 0 0 false none S r F) (hT : ev_Ty S) (hC : sC S ≤ 0 ∧ sA S ≤ 0) : ∀ (n : Nat) (l0 : Nat) (l1 : Int32) (D : ev_D), sK S l0 = 15 → fX12_keepsTold_250 (sL S) (sE S) fu n l0 l1 D = some r → F S D 250 [some (.ref l0), some (.int l1)] [] := by
  have hX := hR.X
  intro n
  induction n with
  | zero =>
    intro l0 l1 D hl0 hf
    rw [fX12_keepsTold_250] at hf
    cases hf
  | succ n ih =>
    intro l0 l1 D hl0 hf
    rw [fX12_keepsTold_250] at hf
    refine ev_blk hX lkok_RX12 [(.iload_n 1, 1, 0, 0, 0), (.bipush 24, 2, 0, 0, 24)] (by decide +kernel) (g := true) (lv' := [some (.ref l0), some (.int l1)]) (st' := [.int (24 : Int32), .int l1]) (D' := D) (pc' := 253) rfl (rfl) rfl ?_
    refine ev_ic_ge hX (off := 25) 278 (by decide +kernel) (by decide) (fun h13 => ?_) (fun h13 => ?_)
    · have hf := ev_it h13 hf
      refine ev_blk hX lkok_RX12 [(.iconst 0, 1, 0, 0, 0), (.istore_n 1, 1, 0, 0, 0)] (by decide +kernel) (g := true) (lv' := [some (.ref l0), some (.int (0 : Int32))]) (st' := []) (D' := D) (pc' := 280) rfl (rfl) rfl ?_
      exact ev_weak hX (ev_le_eq (ev_le_eq ev_le_nil)) (tX12_keepsTold_280 hR hT hC  fu _ _ _ hl0 hf)
    · have hf := ev_nf h13 hf
      obtain ⟨hg16, hf⟩ := ev_gd_s hf
      refine ev_blk hX lkok_RX12 [(.aload_n 0, 1, 0, 0, 0), (.getfield 113, 3, 12, 58, 0), (.iload_n 1, 1, 0, 0, 0), (.aload_n 0, 1, 0, 0, 0), (.aload_n 0, 1, 0, 0, 0), (.getfield 113, 3, 12, 58, 0), (.iload_n 1, 1, 0, 0, 0), (.iaload, 1, 0, 0, 0)] (by decide +kernel) (g := (sK S l0 == 15) && ((sK S l0 == 15) && ((sK S ((sE S) l0 58) == 1 && ev_in l1 ((sL S) ((sE S) l0 58))) && (true)))) (lv' := [some (.ref l0), some (.int l1)]) (st' := [.int (D ((sE S) l0 58) (l1).toNatClampNeg), .ref l0, .int l1, .ref ((sE S) l0 58)]) (D' := D) (pc' := 268) rfl (ev_gk hl0 (ev_gk hl0 (ev_gi (ev_tyk hT hl0 rfl rfl) hg16 (rfl)))) rfl ?_
      obtain ⟨v14, D14, hc14, hf⟩ := ev_bd_s hf
      refine ev_callV hX YX12_keeps ml_RX12_477 (mX12_keeps hT hl0 hc14) (vs := [.int (D ((sE S) l0 58) (l1).toNatClampNeg)]) (st := [.int l1, .ref ((sE S) l0 58)]) (by decide) 12 hl0 rfl rfl rfl (by decide +kernel) hC ?_
      show F S D14 271 [some (.ref l0), some (.int l1)] [.int v14, .int l1, .ref ((sE S) l0 58)]
      obtain ⟨hg15, hf⟩ := ev_gd_s hf
      refine ev_blk hX lkok_RX12 [(.iastore, 1, 0, 0, 0), (.iinc 1 1, 3, 0, 0, 1)] (by decide +kernel) (g := (sK S ((sE S) l0 58) == 1 && ev_in l1 ((sL S) ((sE S) l0 58))) && (true)) (lv' := [some (.ref l0), some (.int (l1 + (1 : Int32)))]) (st' := []) (D' := (ev_up D14 ((sE S) l0 58) (l1).toNatClampNeg v14)) (pc' := 275) rfl (ev_gi (ev_tyk hT hl0 rfl rfl) hg15 (rfl)) rfl ?_
      refine ev_goto hX (off := (-25)) 250 (by decide +kernel) (by decide) ?_
      exact ev_weak hX (ev_le_eq (ev_le_eq ev_le_nil)) (ih _ _ _ hl0 hf)
set_option maxHeartbeats 4000000 in
set_option maxRecDepth 100000 in
theorem tX12_keepsTold_220 {S : ev_S} {fu : Nat} {r : Int32 × ev_D} {F : ev_Fr} (hR : ev_R RX12 cX12_keepsTold 2 1 0 0 false none S r F) (hT : ev_Ty S) (hC : sC S ≤ 0 ∧ sA S ≤ 0) : ∀ (n : Nat) (l0 : Nat) (l1 : Int32) (D : ev_D), sK S l0 = 15 → fX12_keepsTold_220 (sL S) (sE S) fu n l0 l1 D = some r → F S D 220 [some (.ref l0), some (.int l1)] [] := by
  have hX := hR.X
  intro n
  induction n with
  | zero =>
    intro l0 l1 D hl0 hf
    rw [fX12_keepsTold_220] at hf
    cases hf
  | succ n ih =>
    intro l0 l1 D hl0 hf
    rw [fX12_keepsTold_220] at hf
    refine ev_blk hX lkok_RX12 [(.iload_n 1, 1, 0, 0, 0), (.bipush 12, 2, 0, 0, 12)] (by decide +kernel) (g := true) (lv' := [some (.ref l0), some (.int l1)]) (st' := [.int (12 : Int32), .int l1]) (D' := D) (pc' := 223) rfl (rfl) rfl ?_
    refine ev_ic_ge hX (off := 25) 248 (by decide +kernel) (by decide) (fun h17 => ?_) (fun h17 => ?_)
    · have hf := ev_it h17 hf
      refine ev_blk hX lkok_RX12 [(.iconst 0, 1, 0, 0, 0), (.istore_n 1, 1, 0, 0, 0)] (by decide +kernel) (g := true) (lv' := [some (.ref l0), some (.int (0 : Int32))]) (st' := []) (D' := D) (pc' := 250) rfl (rfl) rfl ?_
      exact ev_weak hX (ev_le_eq (ev_le_eq ev_le_nil)) (tX12_keepsTold_250 hR hT hC  fu _ _ _ hl0 hf)
    · have hf := ev_nf h17 hf
      obtain ⟨hg20, hf⟩ := ev_gd_s hf
      refine ev_blk hX lkok_RX12 [(.aload_n 0, 1, 0, 0, 0), (.getfield 104, 3, 12, 54, 0), (.iload_n 1, 1, 0, 0, 0), (.aload_n 0, 1, 0, 0, 0), (.aload_n 0, 1, 0, 0, 0), (.getfield 104, 3, 12, 54, 0), (.iload_n 1, 1, 0, 0, 0), (.iaload, 1, 0, 0, 0)] (by decide +kernel) (g := (sK S l0 == 15) && ((sK S l0 == 15) && ((sK S ((sE S) l0 54) == 1 && ev_in l1 ((sL S) ((sE S) l0 54))) && (true)))) (lv' := [some (.ref l0), some (.int l1)]) (st' := [.int (D ((sE S) l0 54) (l1).toNatClampNeg), .ref l0, .int l1, .ref ((sE S) l0 54)]) (D' := D) (pc' := 238) rfl (ev_gk hl0 (ev_gk hl0 (ev_gi (ev_tyk hT hl0 rfl rfl) hg20 (rfl)))) rfl ?_
      obtain ⟨v18, D18, hc18, hf⟩ := ev_bd_s hf
      refine ev_callV hX YX12_keeps ml_RX12_477 (mX12_keeps hT hl0 hc18) (vs := [.int (D ((sE S) l0 54) (l1).toNatClampNeg)]) (st := [.int l1, .ref ((sE S) l0 54)]) (by decide) 12 hl0 rfl rfl rfl (by decide +kernel) hC ?_
      show F S D18 241 [some (.ref l0), some (.int l1)] [.int v18, .int l1, .ref ((sE S) l0 54)]
      obtain ⟨hg19, hf⟩ := ev_gd_s hf
      refine ev_blk hX lkok_RX12 [(.iastore, 1, 0, 0, 0), (.iinc 1 1, 3, 0, 0, 1)] (by decide +kernel) (g := (sK S ((sE S) l0 54) == 1 && ev_in l1 ((sL S) ((sE S) l0 54))) && (true)) (lv' := [some (.ref l0), some (.int (l1 + (1 : Int32)))]) (st' := []) (D' := (ev_up D18 ((sE S) l0 54) (l1).toNatClampNeg v18)) (pc' := 245) rfl (ev_gi (ev_tyk hT hl0 rfl rfl) hg19 (rfl)) rfl ?_
      refine ev_goto hX (off := (-25)) 220 (by decide +kernel) (by decide) ?_
      exact ev_weak hX (ev_le_eq (ev_le_eq ev_le_nil)) (ih _ _ _ hl0 hf)
set_option maxHeartbeats 4000000 in
set_option maxRecDepth 100000 in
theorem tX12_keepsTold_174 {S : ev_S} {fu : Nat} {r : Int32 × ev_D} {F : ev_Fr} (hR : ev_R RX12 cX12_keepsTold 2 1 0 0 false none S r F) (hT : ev_Ty S) (hC : sC S ≤ 0 ∧ sA S ≤ 0) : ∀ (n : Nat) (l0 : Nat) (l1 : Int32) (D : ev_D), sK S l0 = 15 → fX12_keepsTold_174 (sL S) (sE S) fu n l0 l1 D = some r → F S D 174 [some (.ref l0), some (.int l1)] [] := by
  have hX := hR.X
  intro n
  induction n with
  | zero =>
    intro l0 l1 D hl0 hf
    rw [fX12_keepsTold_174] at hf
    cases hf
  | succ n ih =>
    intro l0 l1 D hl0 hf
    rw [fX12_keepsTold_174] at hf
    refine ev_blk hX lkok_RX12 [(.iload_n 1, 1, 0, 0, 0), (.bipush 6, 2, 0, 0, 6)] (by decide +kernel) (g := true) (lv' := [some (.ref l0), some (.int l1)]) (st' := [.int (6 : Int32), .int l1]) (D' := D) (pc' := 177) rfl (rfl) rfl ?_
    refine ev_ic_ge hX (off := 41) 218 (by decide +kernel) (by decide) (fun h21 => ?_) (fun h21 => ?_)
    · have hf := ev_it h21 hf
      refine ev_blk hX lkok_RX12 [(.iconst 0, 1, 0, 0, 0), (.istore_n 1, 1, 0, 0, 0)] (by decide +kernel) (g := true) (lv' := [some (.ref l0), some (.int (0 : Int32))]) (st' := []) (D' := D) (pc' := 220) rfl (rfl) rfl ?_
      exact ev_weak hX (ev_le_eq (ev_le_eq ev_le_nil)) (tX12_keepsTold_220 hR hT hC  fu _ _ _ hl0 hf)
    · have hf := ev_nf h21 hf
      obtain ⟨hg27, hf⟩ := ev_gd_s hf
      refine ev_blk hX lkok_RX12 [(.aload_n 0, 1, 0, 0, 0), (.getfield 92, 3, 12, 49, 0), (.iload_n 1, 1, 0, 0, 0), (.aload_n 0, 1, 0, 0, 0), (.aload_n 0, 1, 0, 0, 0), (.getfield 92, 3, 12, 49, 0), (.iload_n 1, 1, 0, 0, 0), (.iaload, 1, 0, 0, 0)] (by decide +kernel) (g := (sK S l0 == 15) && ((sK S l0 == 15) && ((sK S ((sE S) l0 49) == 1 && ev_in l1 ((sL S) ((sE S) l0 49))) && (true)))) (lv' := [some (.ref l0), some (.int l1)]) (st' := [.int (D ((sE S) l0 49) (l1).toNatClampNeg), .ref l0, .int l1, .ref ((sE S) l0 49)]) (D' := D) (pc' := 192) rfl (ev_gk hl0 (ev_gk hl0 (ev_gi (ev_tyk hT hl0 rfl rfl) hg27 (rfl)))) rfl ?_
      obtain ⟨v22, D22, hc22, hf⟩ := ev_bd_s hf
      refine ev_callV hX YX12_keeps ml_RX12_477 (mX12_keeps hT hl0 hc22) (vs := [.int (D ((sE S) l0 49) (l1).toNatClampNeg)]) (st := [.int l1, .ref ((sE S) l0 49)]) (by decide) 12 hl0 rfl rfl rfl (by decide +kernel) hC ?_
      show F S D22 195 [some (.ref l0), some (.int l1)] [.int v22, .int l1, .ref ((sE S) l0 49)]
      obtain ⟨hg25, hf⟩ := ev_gd_s hf
      obtain ⟨hg26, hf⟩ := ev_gd_s hf
      refine ev_blk hX lkok_RX12 [(.iastore, 1, 0, 0, 0), (.aload_n 0, 1, 0, 0, 0), (.getfield 95, 3, 12, 50, 0), (.iload_n 1, 1, 0, 0, 0), (.aload_n 0, 1, 0, 0, 0), (.aload_n 0, 1, 0, 0, 0), (.getfield 95, 3, 12, 50, 0), (.iload_n 1, 1, 0, 0, 0), (.iaload, 1, 0, 0, 0)] (by decide +kernel) (g := (sK S ((sE S) l0 49) == 1 && ev_in l1 ((sL S) ((sE S) l0 49))) && ((sK S l0 == 15) && ((sK S l0 == 15) && ((sK S ((sE S) l0 50) == 1 && ev_in l1 ((sL S) ((sE S) l0 50))) && (true))))) (lv' := [some (.ref l0), some (.int l1)]) (st' := [.int ((ev_up D22 ((sE S) l0 49) (l1).toNatClampNeg v22) ((sE S) l0 50) (l1).toNatClampNeg), .ref l0, .int l1, .ref ((sE S) l0 50)]) (D' := (ev_up D22 ((sE S) l0 49) (l1).toNatClampNeg v22)) (pc' := 208) rfl (ev_gi (ev_tyk hT hl0 rfl rfl) hg25 (ev_gk hl0 (ev_gk hl0 (ev_gi (ev_tyk hT hl0 rfl rfl) hg26 (rfl))))) rfl ?_
      obtain ⟨v23, D23, hc23, hf⟩ := ev_bd_s hf
      refine ev_callV hX YX12_keeps ml_RX12_477 (mX12_keeps hT hl0 hc23) (vs := [.int ((ev_up D22 ((sE S) l0 49) (l1).toNatClampNeg v22) ((sE S) l0 50) (l1).toNatClampNeg)]) (st := [.int l1, .ref ((sE S) l0 50)]) (by decide) 12 hl0 rfl rfl rfl (by decide +kernel) hC ?_
      show F S D23 211 [some (.ref l0), some (.int l1)] [.int v23, .int l1, .ref ((sE S) l0 50)]
      obtain ⟨hg24, hf⟩ := ev_gd_s hf
      refine ev_blk hX lkok_RX12 [(.iastore, 1, 0, 0, 0), (.iinc 1 1, 3, 0, 0, 1)] (by decide +kernel) (g := (sK S ((sE S) l0 50) == 1 && ev_in l1 ((sL S) ((sE S) l0 50))) && (true)) (lv' := [some (.ref l0), some (.int (l1 + (1 : Int32)))]) (st' := []) (D' := (ev_up D23 ((sE S) l0 50) (l1).toNatClampNeg v23)) (pc' := 215) rfl (ev_gi (ev_tyk hT hl0 rfl rfl) hg24 (rfl)) rfl ?_
      refine ev_goto hX (off := (-41)) 174 (by decide +kernel) (by decide) ?_
      exact ev_weak hX (ev_le_eq (ev_le_eq ev_le_nil)) (ih _ _ _ hl0 hf)
set_option maxHeartbeats 4000000 in
set_option maxRecDepth 100000 in
theorem tX12_keepsTold_32 {S : ev_S} {fu : Nat} {r : Int32 × ev_D} {F : ev_Fr} (hR : ev_R RX12 cX12_keepsTold 2 1 0 0 false none S r F) (hT : ev_Ty S) (hC : sC S ≤ 0 ∧ sA S ≤ 0) : ∀ (n : Nat) (l0 : Nat) (l1 : Int32) (D : ev_D), sK S l0 = 15 → fX12_keepsTold_32 (sL S) (sE S) fu n l0 l1 D = some r → F S D 32 [some (.ref l0), some (.int l1)] [] := by
  have hX := hR.X
  intro n
  induction n with
  | zero =>
    intro l0 l1 D hl0 hf
    rw [fX12_keepsTold_32] at hf
    cases hf
  | succ n ih =>
    intro l0 l1 D hl0 hf
    rw [fX12_keepsTold_32] at hf
    refine ev_blk hX lkok_RX12 [(.iload_n 1, 1, 0, 0, 0), (.bipush 10, 2, 0, 0, 10)] (by decide +kernel) (g := true) (lv' := [some (.ref l0), some (.int l1)]) (st' := [.int (10 : Int32), .int l1]) (D' := D) (pc' := 35) rfl (rfl) rfl ?_
    refine ev_ic_ge hX (off := 137) 172 (by decide +kernel) (by decide) (fun h28 => ?_) (fun h28 => ?_)
    · have hf := ev_it h28 hf
      refine ev_blk hX lkok_RX12 [(.iconst 0, 1, 0, 0, 0), (.istore_n 1, 1, 0, 0, 0)] (by decide +kernel) (g := true) (lv' := [some (.ref l0), some (.int (0 : Int32))]) (st' := []) (D' := D) (pc' := 174) rfl (rfl) rfl ?_
      exact ev_weak hX (ev_le_eq (ev_le_eq ev_le_nil)) (tX12_keepsTold_174 hR hT hC  fu _ _ _ hl0 hf)
    · have hf := ev_nf h28 hf
      obtain ⟨hg52, hf⟩ := ev_gd_s hf
      refine ev_blk hX lkok_RX12 [(.aload_n 0, 1, 0, 0, 0), (.getfield 22, 3, 12, 8, 0), (.iload_n 1, 1, 0, 0, 0), (.aload_n 0, 1, 0, 0, 0), (.aload_n 0, 1, 0, 0, 0), (.getfield 22, 3, 12, 8, 0), (.iload_n 1, 1, 0, 0, 0), (.iaload, 1, 0, 0, 0)] (by decide +kernel) (g := (sK S l0 == 15) && ((sK S l0 == 15) && ((sK S ((sE S) l0 8) == 1 && ev_in l1 ((sL S) ((sE S) l0 8))) && (true)))) (lv' := [some (.ref l0), some (.int l1)]) (st' := [.int (D ((sE S) l0 8) (l1).toNatClampNeg), .ref l0, .int l1, .ref ((sE S) l0 8)]) (D' := D) (pc' := 50) rfl (ev_gk hl0 (ev_gk hl0 (ev_gi (ev_tyk hT hl0 rfl rfl) hg52 (rfl)))) rfl ?_
      obtain ⟨v29, D29, hc29, hf⟩ := ev_bd_s hf
      refine ev_callV hX YX12_keeps ml_RX12_477 (mX12_keeps hT hl0 hc29) (vs := [.int (D ((sE S) l0 8) (l1).toNatClampNeg)]) (st := [.int l1, .ref ((sE S) l0 8)]) (by decide) 12 hl0 rfl rfl rfl (by decide +kernel) hC ?_
      show F S D29 53 [some (.ref l0), some (.int l1)] [.int v29, .int l1, .ref ((sE S) l0 8)]
      obtain ⟨hg50, hf⟩ := ev_gd_s hf
      obtain ⟨hg51, hf⟩ := ev_gd_s hf
      refine ev_blk hX lkok_RX12 [(.iastore, 1, 0, 0, 0), (.aload_n 0, 1, 0, 0, 0), (.getfield 25, 3, 12, 9, 0), (.iload_n 1, 1, 0, 0, 0), (.aload_n 0, 1, 0, 0, 0), (.aload_n 0, 1, 0, 0, 0), (.getfield 25, 3, 12, 9, 0), (.iload_n 1, 1, 0, 0, 0), (.iaload, 1, 0, 0, 0)] (by decide +kernel) (g := (sK S ((sE S) l0 8) == 1 && ev_in l1 ((sL S) ((sE S) l0 8))) && ((sK S l0 == 15) && ((sK S l0 == 15) && ((sK S ((sE S) l0 9) == 1 && ev_in l1 ((sL S) ((sE S) l0 9))) && (true))))) (lv' := [some (.ref l0), some (.int l1)]) (st' := [.int ((ev_up D29 ((sE S) l0 8) (l1).toNatClampNeg v29) ((sE S) l0 9) (l1).toNatClampNeg), .ref l0, .int l1, .ref ((sE S) l0 9)]) (D' := (ev_up D29 ((sE S) l0 8) (l1).toNatClampNeg v29)) (pc' := 66) rfl (ev_gi (ev_tyk hT hl0 rfl rfl) hg50 (ev_gk hl0 (ev_gk hl0 (ev_gi (ev_tyk hT hl0 rfl rfl) hg51 (rfl))))) rfl ?_
      obtain ⟨v30, D30, hc30, hf⟩ := ev_bd_s hf
      refine ev_callV hX YX12_keeps ml_RX12_477 (mX12_keeps hT hl0 hc30) (vs := [.int ((ev_up D29 ((sE S) l0 8) (l1).toNatClampNeg v29) ((sE S) l0 9) (l1).toNatClampNeg)]) (st := [.int l1, .ref ((sE S) l0 9)]) (by decide) 12 hl0 rfl rfl rfl (by decide +kernel) hC ?_
      show F S D30 69 [some (.ref l0), some (.int l1)] [.int v30, .int l1, .ref ((sE S) l0 9)]
      obtain ⟨hg48, hf⟩ := ev_gd_s hf
      obtain ⟨hg49, hf⟩ := ev_gd_s hf
      refine ev_blk hX lkok_RX12 [(.iastore, 1, 0, 0, 0), (.aload_n 0, 1, 0, 0, 0), (.getfield 28, 3, 12, 10, 0), (.iload_n 1, 1, 0, 0, 0), (.aload_n 0, 1, 0, 0, 0), (.aload_n 0, 1, 0, 0, 0), (.getfield 28, 3, 12, 10, 0), (.iload_n 1, 1, 0, 0, 0), (.iaload, 1, 0, 0, 0)] (by decide +kernel) (g := (sK S ((sE S) l0 9) == 1 && ev_in l1 ((sL S) ((sE S) l0 9))) && ((sK S l0 == 15) && ((sK S l0 == 15) && ((sK S ((sE S) l0 10) == 1 && ev_in l1 ((sL S) ((sE S) l0 10))) && (true))))) (lv' := [some (.ref l0), some (.int l1)]) (st' := [.int ((ev_up D30 ((sE S) l0 9) (l1).toNatClampNeg v30) ((sE S) l0 10) (l1).toNatClampNeg), .ref l0, .int l1, .ref ((sE S) l0 10)]) (D' := (ev_up D30 ((sE S) l0 9) (l1).toNatClampNeg v30)) (pc' := 82) rfl (ev_gi (ev_tyk hT hl0 rfl rfl) hg48 (ev_gk hl0 (ev_gk hl0 (ev_gi (ev_tyk hT hl0 rfl rfl) hg49 (rfl))))) rfl ?_
      obtain ⟨v31, D31, hc31, hf⟩ := ev_bd_s hf
      refine ev_callV hX YX12_keeps ml_RX12_477 (mX12_keeps hT hl0 hc31) (vs := [.int ((ev_up D30 ((sE S) l0 9) (l1).toNatClampNeg v30) ((sE S) l0 10) (l1).toNatClampNeg)]) (st := [.int l1, .ref ((sE S) l0 10)]) (by decide) 12 hl0 rfl rfl rfl (by decide +kernel) hC ?_
      show F S D31 85 [some (.ref l0), some (.int l1)] [.int v31, .int l1, .ref ((sE S) l0 10)]
      obtain ⟨hg46, hf⟩ := ev_gd_s hf
      obtain ⟨hg47, hf⟩ := ev_gd_s hf
      refine ev_blk hX lkok_RX12 [(.iastore, 1, 0, 0, 0), (.aload_n 0, 1, 0, 0, 0), (.getfield 68, 3, 12, 36, 0), (.iload_n 1, 1, 0, 0, 0), (.aload_n 0, 1, 0, 0, 0), (.aload_n 0, 1, 0, 0, 0), (.getfield 68, 3, 12, 36, 0), (.iload_n 1, 1, 0, 0, 0), (.iaload, 1, 0, 0, 0)] (by decide +kernel) (g := (sK S ((sE S) l0 10) == 1 && ev_in l1 ((sL S) ((sE S) l0 10))) && ((sK S l0 == 15) && ((sK S l0 == 15) && ((sK S ((sE S) l0 36) == 1 && ev_in l1 ((sL S) ((sE S) l0 36))) && (true))))) (lv' := [some (.ref l0), some (.int l1)]) (st' := [.int ((ev_up D31 ((sE S) l0 10) (l1).toNatClampNeg v31) ((sE S) l0 36) (l1).toNatClampNeg), .ref l0, .int l1, .ref ((sE S) l0 36)]) (D' := (ev_up D31 ((sE S) l0 10) (l1).toNatClampNeg v31)) (pc' := 98) rfl (ev_gi (ev_tyk hT hl0 rfl rfl) hg46 (ev_gk hl0 (ev_gk hl0 (ev_gi (ev_tyk hT hl0 rfl rfl) hg47 (rfl))))) rfl ?_
      obtain ⟨v32, D32, hc32, hf⟩ := ev_bd_s hf
      refine ev_callV hX YX12_keeps ml_RX12_477 (mX12_keeps hT hl0 hc32) (vs := [.int ((ev_up D31 ((sE S) l0 10) (l1).toNatClampNeg v31) ((sE S) l0 36) (l1).toNatClampNeg)]) (st := [.int l1, .ref ((sE S) l0 36)]) (by decide) 12 hl0 rfl rfl rfl (by decide +kernel) hC ?_
      show F S D32 101 [some (.ref l0), some (.int l1)] [.int v32, .int l1, .ref ((sE S) l0 36)]
      obtain ⟨hg44, hf⟩ := ev_gd_s hf
      obtain ⟨hg45, hf⟩ := ev_gd_s hf
      refine ev_blk hX lkok_RX12 [(.iastore, 1, 0, 0, 0), (.aload_n 0, 1, 0, 0, 0), (.getfield 86, 3, 12, 46, 0), (.iload_n 1, 1, 0, 0, 0), (.aload_n 0, 1, 0, 0, 0), (.aload_n 0, 1, 0, 0, 0), (.getfield 86, 3, 12, 46, 0), (.iload_n 1, 1, 0, 0, 0), (.iaload, 1, 0, 0, 0)] (by decide +kernel) (g := (sK S ((sE S) l0 36) == 1 && ev_in l1 ((sL S) ((sE S) l0 36))) && ((sK S l0 == 15) && ((sK S l0 == 15) && ((sK S ((sE S) l0 46) == 1 && ev_in l1 ((sL S) ((sE S) l0 46))) && (true))))) (lv' := [some (.ref l0), some (.int l1)]) (st' := [.int ((ev_up D32 ((sE S) l0 36) (l1).toNatClampNeg v32) ((sE S) l0 46) (l1).toNatClampNeg), .ref l0, .int l1, .ref ((sE S) l0 46)]) (D' := (ev_up D32 ((sE S) l0 36) (l1).toNatClampNeg v32)) (pc' := 114) rfl (ev_gi (ev_tyk hT hl0 rfl rfl) hg44 (ev_gk hl0 (ev_gk hl0 (ev_gi (ev_tyk hT hl0 rfl rfl) hg45 (rfl))))) rfl ?_
      obtain ⟨v33, D33, hc33, hf⟩ := ev_bd_s hf
      refine ev_callV hX YX12_keeps ml_RX12_477 (mX12_keeps hT hl0 hc33) (vs := [.int ((ev_up D32 ((sE S) l0 36) (l1).toNatClampNeg v32) ((sE S) l0 46) (l1).toNatClampNeg)]) (st := [.int l1, .ref ((sE S) l0 46)]) (by decide) 12 hl0 rfl rfl rfl (by decide +kernel) hC ?_
      show F S D33 117 [some (.ref l0), some (.int l1)] [.int v33, .int l1, .ref ((sE S) l0 46)]
      obtain ⟨hg42, hf⟩ := ev_gd_s hf
      obtain ⟨hg43, hf⟩ := ev_gd_s hf
      refine ev_blk hX lkok_RX12 [(.iastore, 1, 0, 0, 0), (.aload_n 0, 1, 0, 0, 0), (.getfield 89, 3, 12, 47, 0), (.iload_n 1, 1, 0, 0, 0), (.aload_n 0, 1, 0, 0, 0), (.aload_n 0, 1, 0, 0, 0), (.getfield 89, 3, 12, 47, 0), (.iload_n 1, 1, 0, 0, 0), (.iaload, 1, 0, 0, 0)] (by decide +kernel) (g := (sK S ((sE S) l0 46) == 1 && ev_in l1 ((sL S) ((sE S) l0 46))) && ((sK S l0 == 15) && ((sK S l0 == 15) && ((sK S ((sE S) l0 47) == 1 && ev_in l1 ((sL S) ((sE S) l0 47))) && (true))))) (lv' := [some (.ref l0), some (.int l1)]) (st' := [.int ((ev_up D33 ((sE S) l0 46) (l1).toNatClampNeg v33) ((sE S) l0 47) (l1).toNatClampNeg), .ref l0, .int l1, .ref ((sE S) l0 47)]) (D' := (ev_up D33 ((sE S) l0 46) (l1).toNatClampNeg v33)) (pc' := 130) rfl (ev_gi (ev_tyk hT hl0 rfl rfl) hg42 (ev_gk hl0 (ev_gk hl0 (ev_gi (ev_tyk hT hl0 rfl rfl) hg43 (rfl))))) rfl ?_
      obtain ⟨v34, D34, hc34, hf⟩ := ev_bd_s hf
      refine ev_callV hX YX12_keeps ml_RX12_477 (mX12_keeps hT hl0 hc34) (vs := [.int ((ev_up D33 ((sE S) l0 46) (l1).toNatClampNeg v33) ((sE S) l0 47) (l1).toNatClampNeg)]) (st := [.int l1, .ref ((sE S) l0 47)]) (by decide) 12 hl0 rfl rfl rfl (by decide +kernel) hC ?_
      show F S D34 133 [some (.ref l0), some (.int l1)] [.int v34, .int l1, .ref ((sE S) l0 47)]
      obtain ⟨hg40, hf⟩ := ev_gd_s hf
      obtain ⟨hg41, hf⟩ := ev_gd_s hf
      refine ev_blk hX lkok_RX12 [(.iastore, 1, 0, 0, 0), (.aload_n 0, 1, 0, 0, 0), (.getfield 116, 3, 12, 60, 0), (.iload_n 1, 1, 0, 0, 0), (.aload_n 0, 1, 0, 0, 0), (.aload_n 0, 1, 0, 0, 0), (.getfield 116, 3, 12, 60, 0), (.iload_n 1, 1, 0, 0, 0), (.iaload, 1, 0, 0, 0)] (by decide +kernel) (g := (sK S ((sE S) l0 47) == 1 && ev_in l1 ((sL S) ((sE S) l0 47))) && ((sK S l0 == 15) && ((sK S l0 == 15) && ((sK S ((sE S) l0 60) == 1 && ev_in l1 ((sL S) ((sE S) l0 60))) && (true))))) (lv' := [some (.ref l0), some (.int l1)]) (st' := [.int ((ev_up D34 ((sE S) l0 47) (l1).toNatClampNeg v34) ((sE S) l0 60) (l1).toNatClampNeg), .ref l0, .int l1, .ref ((sE S) l0 60)]) (D' := (ev_up D34 ((sE S) l0 47) (l1).toNatClampNeg v34)) (pc' := 146) rfl (ev_gi (ev_tyk hT hl0 rfl rfl) hg40 (ev_gk hl0 (ev_gk hl0 (ev_gi (ev_tyk hT hl0 rfl rfl) hg41 (rfl))))) rfl ?_
      obtain ⟨v35, D35, hc35, hf⟩ := ev_bd_s hf
      refine ev_callV hX YX12_keeps ml_RX12_477 (mX12_keeps hT hl0 hc35) (vs := [.int ((ev_up D34 ((sE S) l0 47) (l1).toNatClampNeg v34) ((sE S) l0 60) (l1).toNatClampNeg)]) (st := [.int l1, .ref ((sE S) l0 60)]) (by decide) 12 hl0 rfl rfl rfl (by decide +kernel) hC ?_
      show F S D35 149 [some (.ref l0), some (.int l1)] [.int v35, .int l1, .ref ((sE S) l0 60)]
      obtain ⟨hg38, hf⟩ := ev_gd_s hf
      obtain ⟨hg39, hf⟩ := ev_gd_s hf
      refine ev_blk hX lkok_RX12 [(.iastore, 1, 0, 0, 0), (.aload_n 0, 1, 0, 0, 0), (.getfield 119, 3, 12, 61, 0), (.iload_n 1, 1, 0, 0, 0), (.aload_n 0, 1, 0, 0, 0), (.aload_n 0, 1, 0, 0, 0), (.getfield 119, 3, 12, 61, 0), (.iload_n 1, 1, 0, 0, 0), (.iaload, 1, 0, 0, 0)] (by decide +kernel) (g := (sK S ((sE S) l0 60) == 1 && ev_in l1 ((sL S) ((sE S) l0 60))) && ((sK S l0 == 15) && ((sK S l0 == 15) && ((sK S ((sE S) l0 61) == 1 && ev_in l1 ((sL S) ((sE S) l0 61))) && (true))))) (lv' := [some (.ref l0), some (.int l1)]) (st' := [.int ((ev_up D35 ((sE S) l0 60) (l1).toNatClampNeg v35) ((sE S) l0 61) (l1).toNatClampNeg), .ref l0, .int l1, .ref ((sE S) l0 61)]) (D' := (ev_up D35 ((sE S) l0 60) (l1).toNatClampNeg v35)) (pc' := 162) rfl (ev_gi (ev_tyk hT hl0 rfl rfl) hg38 (ev_gk hl0 (ev_gk hl0 (ev_gi (ev_tyk hT hl0 rfl rfl) hg39 (rfl))))) rfl ?_
      obtain ⟨v36, D36, hc36, hf⟩ := ev_bd_s hf
      refine ev_callV hX YX12_keeps ml_RX12_477 (mX12_keeps hT hl0 hc36) (vs := [.int ((ev_up D35 ((sE S) l0 60) (l1).toNatClampNeg v35) ((sE S) l0 61) (l1).toNatClampNeg)]) (st := [.int l1, .ref ((sE S) l0 61)]) (by decide) 12 hl0 rfl rfl rfl (by decide +kernel) hC ?_
      show F S D36 165 [some (.ref l0), some (.int l1)] [.int v36, .int l1, .ref ((sE S) l0 61)]
      obtain ⟨hg37, hf⟩ := ev_gd_s hf
      refine ev_blk hX lkok_RX12 [(.iastore, 1, 0, 0, 0), (.iinc 1 1, 3, 0, 0, 1)] (by decide +kernel) (g := (sK S ((sE S) l0 61) == 1 && ev_in l1 ((sL S) ((sE S) l0 61))) && (true)) (lv' := [some (.ref l0), some (.int (l1 + (1 : Int32)))]) (st' := []) (D' := (ev_up D36 ((sE S) l0 61) (l1).toNatClampNeg v36)) (pc' := 169) rfl (ev_gi (ev_tyk hT hl0 rfl rfl) hg37 (rfl)) rfl ?_
      refine ev_goto hX (off := (-137)) 32 (by decide +kernel) (by decide) ?_
      exact ev_weak hX (ev_le_eq (ev_le_eq ev_le_nil)) (ih _ _ _ hl0 hf)
set_option maxHeartbeats 4000000 in
set_option maxRecDepth 100000 in
theorem tX12_keepsTold_2 {S : ev_S} {fu : Nat} {r : Int32 × ev_D} {F : ev_Fr} (hR : ev_R RX12 cX12_keepsTold 2 1 0 0 false none S r F) (hT : ev_Ty S) (hC : sC S ≤ 0 ∧ sA S ≤ 0) : ∀ (n : Nat) (l0 : Nat) (l1 : Int32) (D : ev_D), sK S l0 = 15 → fX12_keepsTold_2 (sL S) (sE S) fu n l0 l1 D = some r → F S D 2 [some (.ref l0), some (.int l1)] [] := by
  have hX := hR.X
  intro n
  induction n with
  | zero =>
    intro l0 l1 D hl0 hf
    rw [fX12_keepsTold_2] at hf
    cases hf
  | succ n ih =>
    intro l0 l1 D hl0 hf
    rw [fX12_keepsTold_2] at hf
    refine ev_blk hX lkok_RX12 [(.iload_n 1, 1, 0, 0, 0), (.bipush 8, 2, 0, 0, 8)] (by decide +kernel) (g := true) (lv' := [some (.ref l0), some (.int l1)]) (st' := [.int (8 : Int32), .int l1]) (D' := D) (pc' := 5) rfl (rfl) rfl ?_
    refine ev_ic_ge hX (off := 25) 30 (by decide +kernel) (by decide) (fun h53 => ?_) (fun h53 => ?_)
    · have hf := ev_it h53 hf
      refine ev_blk hX lkok_RX12 [(.iconst 0, 1, 0, 0, 0), (.istore_n 1, 1, 0, 0, 0)] (by decide +kernel) (g := true) (lv' := [some (.ref l0), some (.int (0 : Int32))]) (st' := []) (D' := D) (pc' := 32) rfl (rfl) rfl ?_
      exact ev_weak hX (ev_le_eq (ev_le_eq ev_le_nil)) (tX12_keepsTold_32 hR hT hC  fu _ _ _ hl0 hf)
    · have hf := ev_nf h53 hf
      obtain ⟨hg56, hf⟩ := ev_gd_s hf
      refine ev_blk hX lkok_RX12 [(.aload_n 0, 1, 0, 0, 0), (.getfield 19, 3, 12, 6, 0), (.iload_n 1, 1, 0, 0, 0), (.aload_n 0, 1, 0, 0, 0), (.aload_n 0, 1, 0, 0, 0), (.getfield 19, 3, 12, 6, 0), (.iload_n 1, 1, 0, 0, 0), (.iaload, 1, 0, 0, 0)] (by decide +kernel) (g := (sK S l0 == 15) && ((sK S l0 == 15) && ((sK S ((sE S) l0 6) == 1 && ev_in l1 ((sL S) ((sE S) l0 6))) && (true)))) (lv' := [some (.ref l0), some (.int l1)]) (st' := [.int (D ((sE S) l0 6) (l1).toNatClampNeg), .ref l0, .int l1, .ref ((sE S) l0 6)]) (D' := D) (pc' := 20) rfl (ev_gk hl0 (ev_gk hl0 (ev_gi (ev_tyk hT hl0 rfl rfl) hg56 (rfl)))) rfl ?_
      obtain ⟨v54, D54, hc54, hf⟩ := ev_bd_s hf
      refine ev_callV hX YX12_keeps ml_RX12_477 (mX12_keeps hT hl0 hc54) (vs := [.int (D ((sE S) l0 6) (l1).toNatClampNeg)]) (st := [.int l1, .ref ((sE S) l0 6)]) (by decide) 12 hl0 rfl rfl rfl (by decide +kernel) hC ?_
      show F S D54 23 [some (.ref l0), some (.int l1)] [.int v54, .int l1, .ref ((sE S) l0 6)]
      obtain ⟨hg55, hf⟩ := ev_gd_s hf
      refine ev_blk hX lkok_RX12 [(.iastore, 1, 0, 0, 0), (.iinc 1 1, 3, 0, 0, 1)] (by decide +kernel) (g := (sK S ((sE S) l0 6) == 1 && ev_in l1 ((sL S) ((sE S) l0 6))) && (true)) (lv' := [some (.ref l0), some (.int (l1 + (1 : Int32)))]) (st' := []) (D' := (ev_up D54 ((sE S) l0 6) (l1).toNatClampNeg v54)) (pc' := 27) rfl (ev_gi (ev_tyk hT hl0 rfl rfl) hg55 (rfl)) rfl ?_
      refine ev_goto hX (off := (-25)) 2 (by decide +kernel) (by decide) ?_
      exact ev_weak hX (ev_le_eq (ev_le_eq ev_le_nil)) (ih _ _ _ hl0 hf)
set_option maxHeartbeats 4000000 in
set_option maxRecDepth 100000 in
theorem tX12_keepsTold {S : ev_S} {fu : Nat} {r : Int32 × ev_D} {F : ev_Fr} (hR : ev_R RX12 cX12_keepsTold 2 1 0 0 false none S r F) (hT : ev_Ty S) (hC : sC S ≤ 0 ∧ sA S ≤ 0) {l0 : Nat} {D : ev_D} (hl0 : sK S l0 = 15) (hf : fX12_keepsTold (sL S) (sE S) fu l0 D = some r) : F S D 0 [some (.ref l0), none] [] := by
  have hX := hR.X
  unfold fX12_keepsTold at hf
  refine ev_blk hX lkok_RX12 [(.iconst 0, 1, 0, 0, 0), (.istore_n 1, 1, 0, 0, 0)] (by decide +kernel) (g := true) (lv' := [some (.ref l0), some (.int (0 : Int32))]) (st' := []) (D' := D) (pc' := 2) rfl (rfl) rfl ?_
  exact ev_weak hX (ev_le_eq (ev_le_eq ev_le_nil)) (tX12_keepsTold_2 hR hT hC  fu _ _ _ hl0 hf)
theorem mX12_keepsTold {S : ev_S} {fu : Nat} {r : Int32 × ev_D} (hT : ev_Ty S) {l0 : Nat} {D : ev_D} (hl0 : sK S l0 = 15) (hf : fX12_keepsTold (sL S) (sE S) fu l0 D = some r) : ev_M 1 0 0 yX12_keepsTold cX12_keepsTold 2 none [.ref l0] S D S r :=
  ev_met (ini := false) (plainFor_of_name (by decide)) (fun h => by cases h) rfl (Nat.le_of_ble_eq_true rfl) (fun F hR => tX12_keepsTold (S := ev_z S) hR hT ⟨Nat.le_refl 0, Nat.le_refl 0⟩ hl0 hf)
set_option maxHeartbeats 4000000 in
set_option maxRecDepth 100000 in
theorem tX12_image_73 {S : ev_S} {fu : Nat} {r : Int32 × ev_D} {F : ev_Fr} (hR : ev_R RX12 cX12_image 3 2 0 0 false (some .boolean) S r F) (hT : ev_Ty S) (hC : sC S ≤ 0 ∧ sA S ≤ 0) : ∀ (n : Nat) (l0 : Nat) (l1 : Int32) (l2 : Int32) (D : ev_D), sK S l0 = 15 → fX12_image_73 (sL S) (sE S) fu n l0 l1 l2 D = some r → F S D 73 [some (.ref l0), some (.int l1), some (.int l2)] [] := by
  have hX := hR.X
  intro n
  induction n with
  | zero =>
    intro l0 l1 l2 D hl0 hf
    rw [fX12_image_73] at hf
    cases hf
  | succ n ih =>
    intro l0 l1 l2 D hl0 hf
    rw [fX12_image_73] at hf
    refine ev_blk hX lkok_RX12 [(.iload_n 2, 1, 0, 0, 0), (.sipush 600, 3, 0, 0, 600)] (by decide +kernel) (g := true) (lv' := [some (.ref l0), some (.int l1), some (.int l2)]) (st' := [.int (600 : Int32), .int l2]) (D' := D) (pc' := 77) rfl (rfl) rfl ?_
    refine ev_ic_ge hX (off := 25) 102 (by decide +kernel) (by decide) (fun h1 => ?_) (fun h1 => ?_)
    · have hf := ev_it h1 hf
      refine ev_blk hX lkok_RX12 [(.aload_n 0, 1, 0, 0, 0)] (by decide +kernel) (g := true) (lv' := [some (.ref l0), some (.int l1), some (.int l2)]) (st' := [.ref l0]) (D' := D) (pc' := 103) rfl (rfl) rfl ?_
      obtain ⟨v2, D2, hc2, hf⟩ := ev_bd_s hf
      refine ev_callV hX YX12_keepsLaw ml_RX12_489 (mX12_keepsLaw hT hl0 hc2) (vs := []) (st := []) (by decide) 12 hl0 rfl rfl rfl (by decide +kernel) hC ?_
      show F S D2 106 [some (.ref l0), some (.int l1), some (.int l2)] []
      refine ev_blk hX lkok_RX12 [(.iload_n 1, 1, 0, 0, 0)] (by decide +kernel) (g := true) (lv' := [some (.ref l0), some (.int l1), some (.int l2)]) (st' := [.int l1]) (D' := D2) (pc' := 107) rfl (rfl) rfl ?_
      refine ev_if_ne hX (off := 8) 115 (by decide +kernel) (by decide) (fun h3 => ?_) (fun h3 => ?_)
      · have hf := ev_nf h3 hf
        refine ev_blk hX lkok_RX12 [(.iconst 1, 1, 0, 0, 1)] (by decide +kernel) (g := true) (lv' := [some (.ref l0), some (.int l1), some (.int l2)]) (st' := [.int (1 : Int32)]) (D' := D2) (pc' := 116) rfl (rfl) rfl ?_
        exact ev_zret hR ev_sm.rf (Or.inr rfl) (Option.some.inj hf) hC (by decide +kernel)
      · have hf := ev_it h3 hf
        refine ev_blk hX lkok_RX12 [(.aload_n 0, 1, 0, 0, 0), (.iconst 0, 1, 0, 0, 0), (.putfield 131, 3, 12, 3, 0), (.iconst 1, 1, 0, 0, 1)] (by decide +kernel) (g := (sK S l0 == 15) && (true)) (lv' := [some (.ref l0), some (.int l1), some (.int l2)]) (st' := [.int (1 : Int32)]) (D' := (ev_up D2 l0 3 (0 : Int32))) (pc' := 116) rfl (ev_gk hl0 (rfl)) rfl ?_
        exact ev_zret hR ev_sm.rf (Or.inr rfl) (Option.some.inj hf) hC (by decide +kernel)
    · have hf := ev_nf h1 hf
      obtain ⟨hg6, hf⟩ := ev_gd_s hf
      refine ev_blk hX lkok_RX12 [(.aload_n 0, 1, 0, 0, 0), (.getfield 31, 3, 12, 11, 0), (.iload_n 2, 1, 0, 0, 0), (.aload_n 0, 1, 0, 0, 0), (.aload_n 0, 1, 0, 0, 0), (.getfield 31, 3, 12, 11, 0), (.iload_n 2, 1, 0, 0, 0), (.iaload, 1, 0, 0, 0)] (by decide +kernel) (g := (sK S l0 == 15) && ((sK S l0 == 15) && ((sK S ((sE S) l0 11) == 1 && ev_in l2 ((sL S) ((sE S) l0 11))) && (true)))) (lv' := [some (.ref l0), some (.int l1), some (.int l2)]) (st' := [.int (D ((sE S) l0 11) (l2).toNatClampNeg), .ref l0, .int l2, .ref ((sE S) l0 11)]) (D' := D) (pc' := 92) rfl (ev_gk hl0 (ev_gk hl0 (ev_gi (ev_tyk hT hl0 rfl rfl) hg6 (rfl)))) rfl ?_
      obtain ⟨v4, D4, hc4, hf⟩ := ev_bd_s hf
      refine ev_callV hX YX12_keeps ml_RX12_477 (mX12_keeps hT hl0 hc4) (vs := [.int (D ((sE S) l0 11) (l2).toNatClampNeg)]) (st := [.int l2, .ref ((sE S) l0 11)]) (by decide) 12 hl0 rfl rfl rfl (by decide +kernel) hC ?_
      show F S D4 95 [some (.ref l0), some (.int l1), some (.int l2)] [.int v4, .int l2, .ref ((sE S) l0 11)]
      obtain ⟨hg5, hf⟩ := ev_gd_s hf
      refine ev_blk hX lkok_RX12 [(.iastore, 1, 0, 0, 0), (.iinc 2 1, 3, 0, 0, 1)] (by decide +kernel) (g := (sK S ((sE S) l0 11) == 1 && ev_in l2 ((sL S) ((sE S) l0 11))) && (true)) (lv' := [some (.ref l0), some (.int l1), some (.int (l2 + (1 : Int32)))]) (st' := []) (D' := (ev_up D4 ((sE S) l0 11) (l2).toNatClampNeg v4)) (pc' := 99) rfl (ev_gi (ev_tyk hT hl0 rfl rfl) hg5 (rfl)) rfl ?_
      refine ev_goto hX (off := (-26)) 73 (by decide +kernel) (by decide) ?_
      exact ev_weak hX (ev_le_eq (ev_le_eq (ev_le_eq ev_le_nil))) (ih _ _ _ _ hl0 hf)
set_option maxHeartbeats 4000000 in
set_option maxRecDepth 100000 in
theorem tX12_image_35 {S : ev_S} {fu : Nat} {r : Int32 × ev_D} {F : ev_Fr} (hR : ev_R RX12 cX12_image 3 2 0 0 false (some .boolean) S r F) (hT : ev_Ty S) (hC : sC S ≤ 0 ∧ sA S ≤ 0) : ∀ (n : Nat) (l0 : Nat) (l1 : Int32) (l2 : Int32) (D : ev_D), sK S l0 = 15 → fX12_image_35 (sL S) (sE S) fu n l0 l1 l2 D = some r → F S D 35 [some (.ref l0), some (.int l1), some (.int l2)] [] := by
  have hX := hR.X
  intro n
  induction n with
  | zero =>
    intro l0 l1 l2 D hl0 hf
    rw [fX12_image_35] at hf
    cases hf
  | succ n ih =>
    intro l0 l1 l2 D hl0 hf
    rw [fX12_image_35] at hf
    refine ev_blk hX lkok_RX12 [(.iload_n 2, 1, 0, 0, 0), (.bipush 44, 2, 0, 0, 44)] (by decide +kernel) (g := true) (lv' := [some (.ref l0), some (.int l1), some (.int l2)]) (st' := [.int (44 : Int32), .int l2]) (D' := D) (pc' := 38) rfl (rfl) rfl ?_
    refine ev_ic_ge hX (off := 25) 63 (by decide +kernel) (by decide) (fun h7 => ?_) (fun h7 => ?_)
    · have hf := ev_it h7 hf
      refine ev_blk hX lkok_RX12 [(.aload_n 0, 1, 0, 0, 0)] (by decide +kernel) (g := true) (lv' := [some (.ref l0), some (.int l1), some (.int l2)]) (st' := [.ref l0]) (D' := D) (pc' := 64) rfl (rfl) rfl ?_
      obtain ⟨v8, D8, hc8, hf⟩ := ev_bd_s hf
      refine ev_callV hX YX12_keepsMany ml_RX12_483 (mX12_keepsMany hT hl0 hc8) (vs := []) (st := []) (by decide) 12 hl0 rfl rfl rfl (by decide +kernel) hC ?_
      show F S D8 67 [some (.ref l0), some (.int l1), some (.int l2)] []
      refine ev_blk hX lkok_RX12 [(.aload_n 0, 1, 0, 0, 0)] (by decide +kernel) (g := true) (lv' := [some (.ref l0), some (.int l1), some (.int l2)]) (st' := [.ref l0]) (D' := D8) (pc' := 68) rfl (rfl) rfl ?_
      obtain ⟨v9, D9, hc9, hf⟩ := ev_bd_s hf
      refine ev_callV hX YX12_keepsTold ml_RX12_486 (mX12_keepsTold hT hl0 hc9) (vs := []) (st := []) (by decide) 12 hl0 rfl rfl rfl (by decide +kernel) hC ?_
      show F S D9 71 [some (.ref l0), some (.int l1), some (.int l2)] []
      refine ev_blk hX lkok_RX12 [(.iconst 0, 1, 0, 0, 0), (.istore_n 2, 1, 0, 0, 0)] (by decide +kernel) (g := true) (lv' := [some (.ref l0), some (.int l1), some (.int (0 : Int32))]) (st' := []) (D' := D9) (pc' := 73) rfl (rfl) rfl ?_
      exact ev_weak hX (ev_le_eq (ev_le_eq (ev_le_eq ev_le_nil))) (tX12_image_73 hR hT hC  fu _ _ _ _ hl0 hf)
    · have hf := ev_nf h7 hf
      obtain ⟨hg12, hf⟩ := ev_gd_s hf
      refine ev_blk hX lkok_RX12 [(.aload_n 0, 1, 0, 0, 0), (.getfield 7, 3, 12, 1, 0), (.iload_n 2, 1, 0, 0, 0), (.aload_n 0, 1, 0, 0, 0), (.aload_n 0, 1, 0, 0, 0), (.getfield 7, 3, 12, 1, 0), (.iload_n 2, 1, 0, 0, 0), (.iaload, 1, 0, 0, 0)] (by decide +kernel) (g := (sK S l0 == 15) && ((sK S l0 == 15) && ((sK S ((sE S) l0 1) == 1 && ev_in l2 ((sL S) ((sE S) l0 1))) && (true)))) (lv' := [some (.ref l0), some (.int l1), some (.int l2)]) (st' := [.int (D ((sE S) l0 1) (l2).toNatClampNeg), .ref l0, .int l2, .ref ((sE S) l0 1)]) (D' := D) (pc' := 53) rfl (ev_gk hl0 (ev_gk hl0 (ev_gi (ev_tyk hT hl0 rfl rfl) hg12 (rfl)))) rfl ?_
      obtain ⟨v10, D10, hc10, hf⟩ := ev_bd_s hf
      refine ev_callV hX YX12_keeps ml_RX12_477 (mX12_keeps hT hl0 hc10) (vs := [.int (D ((sE S) l0 1) (l2).toNatClampNeg)]) (st := [.int l2, .ref ((sE S) l0 1)]) (by decide) 12 hl0 rfl rfl rfl (by decide +kernel) hC ?_
      show F S D10 56 [some (.ref l0), some (.int l1), some (.int l2)] [.int v10, .int l2, .ref ((sE S) l0 1)]
      obtain ⟨hg11, hf⟩ := ev_gd_s hf
      refine ev_blk hX lkok_RX12 [(.iastore, 1, 0, 0, 0), (.iinc 2 1, 3, 0, 0, 1)] (by decide +kernel) (g := (sK S ((sE S) l0 1) == 1 && ev_in l2 ((sL S) ((sE S) l0 1))) && (true)) (lv' := [some (.ref l0), some (.int l1), some (.int (l2 + (1 : Int32)))]) (st' := []) (D' := (ev_up D10 ((sE S) l0 1) (l2).toNatClampNeg v10)) (pc' := 60) rfl (ev_gi (ev_tyk hT hl0 rfl rfl) hg11 (rfl)) rfl ?_
      refine ev_goto hX (off := (-25)) 35 (by decide +kernel) (by decide) ?_
      exact ev_weak hX (ev_le_eq (ev_le_eq (ev_le_eq ev_le_nil))) (ih _ _ _ _ hl0 hf)
set_option maxHeartbeats 4000000 in
set_option maxRecDepth 100000 in
theorem tX12_image_18 {S : ev_S} {fu : Nat} {r : Int32 × ev_D} {F : ev_Fr} (hR : ev_R RX12 cX12_image 3 2 0 0 false (some .boolean) S r F) (hT : ev_Ty S) (hC : sC S ≤ 0 ∧ sA S ≤ 0) {l0 : Nat} {l1 : Int32} {D : ev_D} (hl0 : sK S l0 = 15) (hf : fX12_image_18 (sL S) (sE S) fu l0 l1 D = some r) : F S D 18 [some (.ref l0), some (.int l1), none] [] := by
  have hX := hR.X
  unfold fX12_image_18 at hf
  obtain ⟨hg13, hf⟩ := ev_gd_s hf
  refine ev_blk hX lkok_RX12 [(.aload_n 0, 1, 0, 0, 0), (.iload_n 1, 1, 0, 0, 0), (.putfield 474, 3, 12, 63, 0), (.aload_n 0, 1, 0, 0, 0), (.iconst 1, 1, 0, 0, 1), (.putfield 480, 3, 12, 64, 0), (.aload_n 0, 1, 0, 0, 0), (.iconst 0, 1, 0, 0, 0), (.putfield 471, 3, 12, 65, 0), (.iconst 0, 1, 0, 0, 0), (.istore_n 2, 1, 0, 0, 0)] (by decide +kernel) (g := (sK S l0 == 15 && (l1 == 0 || l1 == 1)) && ((sK S l0 == 15 && ((1 : Int32) == 0 || (1 : Int32) == 1)) && ((sK S l0 == 15) && (true)))) (lv' := [some (.ref l0), some (.int l1), some (.int (0 : Int32))]) (st' := []) (D' := (ev_up (ev_up (ev_up D l0 63 l1) l0 64 (1 : Int32)) l0 65 (0 : Int32))) (pc' := 35) rfl (ev_gz hl0 hg13 (ev_gz hl0 rfl (ev_gk hl0 (rfl)))) rfl ?_
  exact ev_weak hX (ev_le_eq (ev_le_eq (ev_le_eq ev_le_nil))) (tX12_image_35 hR hT hC  fu _ _ _ _ hl0 hf)
set_option maxHeartbeats 4000000 in
set_option maxRecDepth 100000 in
theorem tX12_image {S : ev_S} {fu : Nat} {r : Int32 × ev_D} {F : ev_Fr} (hR : ev_R RX12 cX12_image 3 2 0 0 false (some .boolean) S r F) (hT : ev_Ty S) (hC : sC S ≤ 0 ∧ sA S ≤ 0) {l0 : Nat} {l1 : Int32} {D : ev_D} (hl0 : sK S l0 = 15) (hf : fX12_image (sL S) (sE S) fu l0 l1 D = some r) : F S D 0 [some (.ref l0), some (.int l1), none] [] := by
  have hX := hR.X
  unfold fX12_image at hf
  refine ev_blk hX lkok_RX12 [(.aload_n 0, 1, 0, 0, 0), (.iconst 0, 1, 0, 0, 0), (.putfield 128, 3, 12, 0, 0), (.iload_n 1, 1, 0, 0, 0)] (by decide +kernel) (g := (sK S l0 == 15) && (true)) (lv' := [some (.ref l0), some (.int l1), none]) (st' := [.int l1]) (D' := (ev_up D l0 0 (0 : Int32))) (pc' := 6) rfl (ev_gk hl0 (rfl)) rfl ?_
  refine ev_if_ne hX (off := 12) 18 (by decide +kernel) (by decide) (fun h14 => ?_) (fun h14 => ?_)
  · have hf := ev_nf h14 hf
    exact ev_weak hX (ev_le_eq (ev_le_eq (ev_le_no ev_le_nil))) (tX12_image_18 hR hT hC  hl0 hf)
  · have hf := ev_it h14 hf
    refine ev_blk hX lkok_RX12 [(.aload_n 0, 1, 0, 0, 0), (.getfield 480, 3, 12, 64, 0)] (by decide +kernel) (g := (sK S l0 == 15) && (true)) (lv' := [some (.ref l0), some (.int l1), none]) (st' := [.int ((ev_up D l0 0 (0 : Int32)) l0 64)]) (D' := (ev_up D l0 0 (0 : Int32))) (pc' := 13) rfl (ev_gk hl0 (rfl)) rfl ?_
    refine ev_if_ne hX (off := 5) 18 (by decide +kernel) (by decide) (fun h15 => ?_) (fun h15 => ?_)
    · have hf := ev_nf h15 hf
      exact ev_weak hX (ev_le_eq (ev_le_eq (ev_le_no ev_le_nil))) (tX12_image_18 hR hT hC  hl0 hf)
    · have hf := ev_it h15 hf
      refine ev_blk hX lkok_RX12 [(.iconst 0, 1, 0, 0, 0)] (by decide +kernel) (g := true) (lv' := [some (.ref l0), some (.int l1), none]) (st' := [.int (0 : Int32)]) (D' := (ev_up D l0 0 (0 : Int32))) (pc' := 17) rfl (rfl) rfl ?_
      exact ev_zret hR ev_sm.rf (Or.inl rfl) (Option.some.inj hf) hC (by decide +kernel)
theorem mX12_image {S : ev_S} {fu : Nat} {r : Int32 × ev_D} (hT : ev_Ty S) {l0 : Nat} {l1 : Int32} {D : ev_D} (hl0 : sK S l0 = 15) (hf : fX12_image (sL S) (sE S) fu l0 l1 D = some r) : ev_M 2 0 0 yX12_image cX12_image 3 (some .boolean) [.ref l0, .int l1] S D S r :=
  ev_met (ini := false) (plainFor_of_name (by decide)) (fun h => by cases h) rfl (Nat.le_of_ble_eq_true rfl) (fun F hR => tX12_image (S := ev_z S) hR hT ⟨Nat.le_refl 0, Nat.le_refl 0⟩ hl0 hf)
set_option maxHeartbeats 4000000 in
set_option maxRecDepth 100000 in
theorem tX12_look {S : ev_S} {fu : Nat} {r : Int32 × ev_D} {F : ev_Fr} (hR : ev_R RX12 cX12_look 2 2 0 0 false (some .int) S r F) (hT : ev_Ty S) (hC : sC S ≤ 0 ∧ sA S ≤ 0) {l0 : Nat} {l1 : Int32} {D : ev_D} (hl0 : sK S l0 = 15) (hf : fX12_look (sL S) (sE S) fu l0 l1 D = some r) : F S D 0 [some (.ref l0), some (.int l1)] [] := by
  have hX := hR.X
  unfold fX12_look at hf
  refine ev_blk hX lkok_RX12 [(.aload_n 0, 1, 0, 0, 0), (.iconst 0, 1, 0, 0, 0), (.putfield 128, 3, 12, 0, 0), (.iload_n 1, 1, 0, 0, 0)] (by decide +kernel) (g := (sK S l0 == 15) && (true)) (lv' := [some (.ref l0), some (.int l1)]) (st' := [.int l1]) (D' := (ev_up D l0 0 (0 : Int32))) (pc' := 6) rfl (ev_gk hl0 (rfl)) rfl ?_
  refine ev_if_ne hX (off := 8) 14 (by decide +kernel) (by decide) (fun h1 => ?_) (fun h1 => ?_)
  · have hf := ev_nf h1 hf
    refine ev_blk hX lkok_RX12 [(.iload_n 1, 1, 0, 0, 0), (.iconst 1, 1, 0, 0, 1)] (by decide +kernel) (g := true) (lv' := [some (.ref l0), some (.int l1)]) (st' := [.int (1 : Int32), .int l1]) (D' := (ev_up D l0 0 (0 : Int32))) (pc' := 16) rfl (rfl) rfl ?_
    refine ev_ic_ne hX (off := 10) 26 (by decide +kernel) (by decide) (fun h2 => ?_) (fun h2 => ?_)
    · have hf := ev_nf h2 hf
      refine ev_blk hX lkok_RX12 [(.iload_n 1, 1, 0, 0, 0), (.iconst 2, 1, 0, 0, 2)] (by decide +kernel) (g := true) (lv' := [some (.ref l0), some (.int l1)]) (st' := [.int (2 : Int32), .int l1]) (D' := (ev_up D l0 0 (0 : Int32))) (pc' := 28) rfl (rfl) rfl ?_
      refine ev_ic_ne hX (off := 10) 38 (by decide +kernel) (by decide) (fun h3 => ?_) (fun h3 => ?_)
      · have hf := ev_nf h3 hf
        refine ev_blk hX lkok_RX12 [(.iload_n 1, 1, 0, 0, 0), (.iconst 3, 1, 0, 0, 3)] (by decide +kernel) (g := true) (lv' := [some (.ref l0), some (.int l1)]) (st' := [.int (3 : Int32), .int l1]) (D' := (ev_up D l0 0 (0 : Int32))) (pc' := 40) rfl (rfl) rfl ?_
        refine ev_ic_ne hX (off := 10) 50 (by decide +kernel) (by decide) (fun h4 => ?_) (fun h4 => ?_)
        · have hf := ev_nf h4 hf
          refine ev_blk hX lkok_RX12 [(.iload_n 1, 1, 0, 0, 0), (.iconst 4, 1, 0, 0, 4)] (by decide +kernel) (g := true) (lv' := [some (.ref l0), some (.int l1)]) (st' := [.int (4 : Int32), .int l1]) (D' := (ev_up D l0 0 (0 : Int32))) (pc' := 52) rfl (rfl) rfl ?_
          refine ev_ic_ne hX (off := 10) 62 (by decide +kernel) (by decide) (fun h5 => ?_) (fun h5 => ?_)
          · have hf := ev_nf h5 hf
            refine ev_blk hX lkok_RX12 [(.iload_n 1, 1, 0, 0, 0), (.iconst 5, 1, 0, 0, 5)] (by decide +kernel) (g := true) (lv' := [some (.ref l0), some (.int l1)]) (st' := [.int (5 : Int32), .int l1]) (D' := (ev_up D l0 0 (0 : Int32))) (pc' := 64) rfl (rfl) rfl ?_
            refine ev_ic_ne hX (off := 8) 72 (by decide +kernel) (by decide) (fun h6 => ?_) (fun h6 => ?_)
            · have hf := ev_nf h6 hf
              refine ev_blk hX lkok_RX12 [(.iload_n 1, 1, 0, 0, 0), (.bipush 6, 2, 0, 0, 6)] (by decide +kernel) (g := true) (lv' := [some (.ref l0), some (.int l1)]) (st' := [.int (6 : Int32), .int l1]) (D' := (ev_up D l0 0 (0 : Int32))) (pc' := 75) rfl (rfl) rfl ?_
              refine ev_ic_ne hX (off := 10) 85 (by decide +kernel) (by decide) (fun h7 => ?_) (fun h7 => ?_)
              · have hf := ev_nf h7 hf
                refine ev_blk hX lkok_RX12 [(.iload_n 1, 1, 0, 0, 0), (.bipush 7, 2, 0, 0, 7)] (by decide +kernel) (g := true) (lv' := [some (.ref l0), some (.int l1)]) (st' := [.int (7 : Int32), .int l1]) (D' := (ev_up D l0 0 (0 : Int32))) (pc' := 88) rfl (rfl) rfl ?_
                refine ev_ic_ne hX (off := 10) 98 (by decide +kernel) (by decide) (fun h8 => ?_) (fun h8 => ?_)
                · have hf := ev_nf h8 hf
                  refine ev_blk hX lkok_RX12 [(.iload_n 1, 1, 0, 0, 0), (.bipush 8, 2, 0, 0, 8)] (by decide +kernel) (g := true) (lv' := [some (.ref l0), some (.int l1)]) (st' := [.int (8 : Int32), .int l1]) (D' := (ev_up D l0 0 (0 : Int32))) (pc' := 101) rfl (rfl) rfl ?_
                  refine ev_ic_ne hX (off := 10) 111 (by decide +kernel) (by decide) (fun h9 => ?_) (fun h9 => ?_)
                  · have hf := ev_nf h9 hf
                    refine ev_blk hX lkok_RX12 [(.iload_n 1, 1, 0, 0, 0), (.bipush 9, 2, 0, 0, 9)] (by decide +kernel) (g := true) (lv' := [some (.ref l0), some (.int l1)]) (st' := [.int (9 : Int32), .int l1]) (D' := (ev_up D l0 0 (0 : Int32))) (pc' := 114) rfl (rfl) rfl ?_
                    refine ev_ic_ne hX (off := 8) 122 (by decide +kernel) (by decide) (fun h10 => ?_) (fun h10 => ?_)
                    · have hf := ev_nf h10 hf
                      refine ev_blk hX lkok_RX12 [(.iload_n 1, 1, 0, 0, 0), (.bipush 10, 2, 0, 0, 10)] (by decide +kernel) (g := true) (lv' := [some (.ref l0), some (.int l1)]) (st' := [.int (10 : Int32), .int l1]) (D' := (ev_up D l0 0 (0 : Int32))) (pc' := 125) rfl (rfl) rfl ?_
                      refine ev_ic_ne hX (off := 8) 133 (by decide +kernel) (by decide) (fun h11 => ?_) (fun h11 => ?_)
                      · have hf := ev_nf h11 hf
                        refine ev_blk hX lkok_RX12 [(.iload_n 1, 1, 0, 0, 0), (.bipush 11, 2, 0, 0, 11)] (by decide +kernel) (g := true) (lv' := [some (.ref l0), some (.int l1)]) (st' := [.int (11 : Int32), .int l1]) (D' := (ev_up D l0 0 (0 : Int32))) (pc' := 136) rfl (rfl) rfl ?_
                        refine ev_ic_ne hX (off := 8) 144 (by decide +kernel) (by decide) (fun h12 => ?_) (fun h12 => ?_)
                        · have hf := ev_nf h12 hf
                          refine ev_blk hX lkok_RX12 [(.iload_n 1, 1, 0, 0, 0), (.bipush 12, 2, 0, 0, 12)] (by decide +kernel) (g := true) (lv' := [some (.ref l0), some (.int l1)]) (st' := [.int (12 : Int32), .int l1]) (D' := (ev_up D l0 0 (0 : Int32))) (pc' := 147) rfl (rfl) rfl ?_
                          refine ev_ic_ne hX (off := 10) 157 (by decide +kernel) (by decide) (fun h13 => ?_) (fun h13 => ?_)
                          · have hf := ev_nf h13 hf
                            refine ev_blk hX lkok_RX12 [(.iconst (-1), 1, 0, 0, (-1))] (by decide +kernel) (g := true) (lv' := [some (.ref l0), some (.int l1)]) (st' := [.int (-1 : Int32)]) (D' := (ev_up D l0 0 (0 : Int32))) (pc' := 158) rfl (rfl) rfl ?_
                            exact ev_iret hR ev_sm.rf (Option.some.inj hf) hC (by decide +kernel)
                          · have hf := ev_it h13 hf
                            refine ev_blk hX lkok_RX12 [(.aload_n 0, 1, 0, 0, 0), (.getfield 131, 3, 12, 3, 0)] (by decide +kernel) (g := (sK S l0 == 15) && (true)) (lv' := [some (.ref l0), some (.int l1)]) (st' := [.int ((ev_up D l0 0 (0 : Int32)) l0 3)]) (D' := (ev_up D l0 0 (0 : Int32))) (pc' := 154) rfl (ev_gk hl0 (rfl)) rfl ?_
                            refine ev_goto hX (off := 4) 158 (by decide +kernel) (by decide) ?_
                            exact ev_iret hR ev_sm.rf (Option.some.inj hf) hC (by decide +kernel)
                        · have hf := ev_it h12 hf
                          refine ev_blk hX lkok_RX12 [(.aload_n 0, 1, 0, 0, 0), (.getfield 296, 3, 12, 39, 0)] (by decide +kernel) (g := (sK S l0 == 15) && (true)) (lv' := [some (.ref l0), some (.int l1)]) (st' := [.int ((ev_up D l0 0 (0 : Int32)) l0 39)]) (D' := (ev_up D l0 0 (0 : Int32))) (pc' := 143) rfl (ev_gk hl0 (rfl)) rfl ?_
                          exact ev_iret hR ev_sm.rf (Option.some.inj hf) hC (by decide +kernel)
                      · have hf := ev_it h11 hf
                        refine ev_blk hX lkok_RX12 [(.aload_n 0, 1, 0, 0, 0), (.getfield 293, 3, 12, 37, 0)] (by decide +kernel) (g := (sK S l0 == 15) && (true)) (lv' := [some (.ref l0), some (.int l1)]) (st' := [.int ((ev_up D l0 0 (0 : Int32)) l0 37)]) (D' := (ev_up D l0 0 (0 : Int32))) (pc' := 132) rfl (ev_gk hl0 (rfl)) rfl ?_
                        exact ev_iret hR ev_sm.rf (Option.some.inj hf) hC (by decide +kernel)
                    · have hf := ev_it h10 hf
                      refine ev_blk hX lkok_RX12 [(.aload_n 0, 1, 0, 0, 0), (.getfield 290, 3, 12, 35, 0)] (by decide +kernel) (g := (sK S l0 == 15) && (true)) (lv' := [some (.ref l0), some (.int l1)]) (st' := [.int ((ev_up D l0 0 (0 : Int32)) l0 35)]) (D' := (ev_up D l0 0 (0 : Int32))) (pc' := 121) rfl (ev_gk hl0 (rfl)) rfl ?_
                      exact ev_iret hR ev_sm.rf (Option.some.inj hf) hC (by decide +kernel)
                  · have hf := ev_it h9 hf
                    obtain ⟨hg14, hf⟩ := ev_gd_s hf
                    refine ev_blk hX lkok_RX12 [(.aload_n 0, 1, 0, 0, 0), (.getfield 40, 3, 12, 19, 0), (.iconst 0, 1, 0, 0, 0), (.iaload, 1, 0, 0, 0)] (by decide +kernel) (g := (sK S l0 == 15) && ((sK S ((sE S) l0 19) == 1 && ev_in (0 : Int32) ((sL S) ((sE S) l0 19))) && (true))) (lv' := [some (.ref l0), some (.int l1)]) (st' := [.int ((ev_up D l0 0 (0 : Int32)) ((sE S) l0 19) ((0 : Int32)).toNatClampNeg)]) (D' := (ev_up D l0 0 (0 : Int32))) (pc' := 110) rfl (ev_gk hl0 (ev_gi (ev_tyk hT hl0 rfl rfl) hg14 (rfl))) rfl ?_
                    exact ev_iret hR ev_sm.rf (Option.some.inj hf) hC (by decide +kernel)
                · have hf := ev_it h8 hf
                  obtain ⟨hg15, hf⟩ := ev_gd_s hf
                  refine ev_blk hX lkok_RX12 [(.aload_n 0, 1, 0, 0, 0), (.getfield 7, 3, 12, 1, 0), (.iconst 1, 1, 0, 0, 1), (.iaload, 1, 0, 0, 0)] (by decide +kernel) (g := (sK S l0 == 15) && ((sK S ((sE S) l0 1) == 1 && ev_in (1 : Int32) ((sL S) ((sE S) l0 1))) && (true))) (lv' := [some (.ref l0), some (.int l1)]) (st' := [.int ((ev_up D l0 0 (0 : Int32)) ((sE S) l0 1) ((1 : Int32)).toNatClampNeg)]) (D' := (ev_up D l0 0 (0 : Int32))) (pc' := 97) rfl (ev_gk hl0 (ev_gi (ev_tyk hT hl0 rfl rfl) hg15 (rfl))) rfl ?_
                  exact ev_iret hR ev_sm.rf (Option.some.inj hf) hC (by decide +kernel)
              · have hf := ev_it h7 hf
                obtain ⟨hg16, hf⟩ := ev_gd_s hf
                refine ev_blk hX lkok_RX12 [(.aload_n 0, 1, 0, 0, 0), (.getfield 7, 3, 12, 1, 0), (.iconst 2, 1, 0, 0, 2), (.iaload, 1, 0, 0, 0)] (by decide +kernel) (g := (sK S l0 == 15) && ((sK S ((sE S) l0 1) == 1 && ev_in (2 : Int32) ((sL S) ((sE S) l0 1))) && (true))) (lv' := [some (.ref l0), some (.int l1)]) (st' := [.int ((ev_up D l0 0 (0 : Int32)) ((sE S) l0 1) ((2 : Int32)).toNatClampNeg)]) (D' := (ev_up D l0 0 (0 : Int32))) (pc' := 84) rfl (ev_gk hl0 (ev_gi (ev_tyk hT hl0 rfl rfl) hg16 (rfl))) rfl ?_
                exact ev_iret hR ev_sm.rf (Option.some.inj hf) hC (by decide +kernel)
            · have hf := ev_it h6 hf
              refine ev_blk hX lkok_RX12 [(.aload_n 0, 1, 0, 0, 0)] (by decide +kernel) (g := true) (lv' := [some (.ref l0), some (.int l1)]) (st' := [.ref l0]) (D' := (ev_up D l0 0 (0 : Int32))) (pc' := 68) rfl (rfl) rfl ?_
              obtain ⟨v17, D17, hc17, hf⟩ := ev_bd_s hf
              refine ev_callV hX YX12_awakeSet ml_RX12_384 (mX12_awakeSet hT hl0 hc17) (vs := []) (st := []) (by decide) 12 hl0 rfl rfl rfl (by decide +kernel) hC ?_
              show F S D17 71 [some (.ref l0), some (.int l1)] [.int v17]
              exact ev_iret hR ev_sm.rf (Option.some.inj hf) hC (by decide +kernel)
          · have hf := ev_it h5 hf
            obtain ⟨hg18, hf⟩ := ev_gd_s hf
            refine ev_blk hX lkok_RX12 [(.aload_n 0, 1, 0, 0, 0), (.getfield 7, 3, 12, 1, 0), (.iconst 5, 1, 0, 0, 5), (.iaload, 1, 0, 0, 0)] (by decide +kernel) (g := (sK S l0 == 15) && ((sK S ((sE S) l0 1) == 1 && ev_in (5 : Int32) ((sL S) ((sE S) l0 1))) && (true))) (lv' := [some (.ref l0), some (.int l1)]) (st' := [.int ((ev_up D l0 0 (0 : Int32)) ((sE S) l0 1) ((5 : Int32)).toNatClampNeg)]) (D' := (ev_up D l0 0 (0 : Int32))) (pc' := 61) rfl (ev_gk hl0 (ev_gi (ev_tyk hT hl0 rfl rfl) hg18 (rfl))) rfl ?_
            exact ev_iret hR ev_sm.rf (Option.some.inj hf) hC (by decide +kernel)
        · have hf := ev_it h4 hf
          obtain ⟨hg19, hf⟩ := ev_gd_s hf
          refine ev_blk hX lkok_RX12 [(.aload_n 0, 1, 0, 0, 0), (.getfield 7, 3, 12, 1, 0), (.iconst 4, 1, 0, 0, 4), (.iaload, 1, 0, 0, 0)] (by decide +kernel) (g := (sK S l0 == 15) && ((sK S ((sE S) l0 1) == 1 && ev_in (4 : Int32) ((sL S) ((sE S) l0 1))) && (true))) (lv' := [some (.ref l0), some (.int l1)]) (st' := [.int ((ev_up D l0 0 (0 : Int32)) ((sE S) l0 1) ((4 : Int32)).toNatClampNeg)]) (D' := (ev_up D l0 0 (0 : Int32))) (pc' := 49) rfl (ev_gk hl0 (ev_gi (ev_tyk hT hl0 rfl rfl) hg19 (rfl))) rfl ?_
          exact ev_iret hR ev_sm.rf (Option.some.inj hf) hC (by decide +kernel)
      · have hf := ev_it h3 hf
        obtain ⟨hg20, hf⟩ := ev_gd_s hf
        refine ev_blk hX lkok_RX12 [(.aload_n 0, 1, 0, 0, 0), (.getfield 7, 3, 12, 1, 0), (.iconst 3, 1, 0, 0, 3), (.iaload, 1, 0, 0, 0)] (by decide +kernel) (g := (sK S l0 == 15) && ((sK S ((sE S) l0 1) == 1 && ev_in (3 : Int32) ((sL S) ((sE S) l0 1))) && (true))) (lv' := [some (.ref l0), some (.int l1)]) (st' := [.int ((ev_up D l0 0 (0 : Int32)) ((sE S) l0 1) ((3 : Int32)).toNatClampNeg)]) (D' := (ev_up D l0 0 (0 : Int32))) (pc' := 37) rfl (ev_gk hl0 (ev_gi (ev_tyk hT hl0 rfl rfl) hg20 (rfl))) rfl ?_
        exact ev_iret hR ev_sm.rf (Option.some.inj hf) hC (by decide +kernel)
    · have hf := ev_it h2 hf
      obtain ⟨hg21, hf⟩ := ev_gd_s hf
      refine ev_blk hX lkok_RX12 [(.aload_n 0, 1, 0, 0, 0), (.getfield 7, 3, 12, 1, 0), (.iconst 0, 1, 0, 0, 0), (.iaload, 1, 0, 0, 0)] (by decide +kernel) (g := (sK S l0 == 15) && ((sK S ((sE S) l0 1) == 1 && ev_in (0 : Int32) ((sL S) ((sE S) l0 1))) && (true))) (lv' := [some (.ref l0), some (.int l1)]) (st' := [.int ((ev_up D l0 0 (0 : Int32)) ((sE S) l0 1) ((0 : Int32)).toNatClampNeg)]) (D' := (ev_up D l0 0 (0 : Int32))) (pc' := 25) rfl (ev_gk hl0 (ev_gi (ev_tyk hT hl0 rfl rfl) hg21 (rfl))) rfl ?_
      exact ev_iret hR ev_sm.rf (Option.some.inj hf) hC (by decide +kernel)
  · have hf := ev_it h1 hf
    refine ev_blk hX lkok_RX12 [(.aload_n 0, 1, 0, 0, 0), (.getfield 140, 3, 12, 7, 0)] (by decide +kernel) (g := (sK S l0 == 15) && (true)) (lv' := [some (.ref l0), some (.int l1)]) (st' := [.int ((ev_up D l0 0 (0 : Int32)) l0 7)]) (D' := (ev_up D l0 0 (0 : Int32))) (pc' := 13) rfl (ev_gk hl0 (rfl)) rfl ?_
    exact ev_iret hR ev_sm.rf (Option.some.inj hf) hC (by decide +kernel)
theorem mX12_look {S : ev_S} {fu : Nat} {r : Int32 × ev_D} (hT : ev_Ty S) {l0 : Nat} {l1 : Int32} {D : ev_D} (hl0 : sK S l0 = 15) (hf : fX12_look (sL S) (sE S) fu l0 l1 D = some r) : ev_M 2 0 0 yX12_look cX12_look 2 (some .int) [.ref l0, .int l1] S D S r :=
  ev_met (ini := false) (plainFor_of_name (by decide)) (fun h => by cases h) rfl (Nat.le_of_ble_eq_true rfl) (fun F hR => tX12_look (S := ev_z S) hR hT ⟨Nat.le_refl 0, Nat.le_refl 0⟩ hl0 hf)
set_option maxHeartbeats 4000000 in
set_option maxRecDepth 100000 in
theorem tX3_leastBeside_2 {S : ev_S} {fu : Nat} {r : Int32 × ev_D} {F : ev_Fr} (hR : ev_R RX3 cX3_leastBeside 3 0 0 0 false (some .int) S r F) (hT : ev_Ty S) (hC : sC S ≤ 0 ∧ sA S ≤ 0) : ∀ (n : Nat) (l0 : Int32) (l1 : Int32) (l2 : Int32) (D : ev_D), fX3_leastBeside_2 (sL S) (sE S) fu n l0 l1 l2 D = some r → F S D 2 [some (.int l0), some (.int l1), some (.int l2)] [] := by
  have hX := hR.X
  intro n
  induction n with
  | zero =>
    intro l0 l1 l2 D  hf
    rw [fX3_leastBeside_2] at hf
    cases hf
  | succ n ih =>
    intro l0 l1 l2 D  hf
    rw [fX3_leastBeside_2] at hf
    refine ev_blk hX lkok_RX3 [(.iload_n 2, 1, 0, 0, 0), (.iconst 2, 1, 0, 0, 2)] (by decide +kernel) (g := true) (lv' := [some (.int l0), some (.int l1), some (.int l2)]) (st' := [.int (2 : Int32), .int l2]) (D' := D) (pc' := 4) rfl (rfl) rfl ?_
    refine ev_ic_ge hX (off := 21) 25 (by decide +kernel) (by decide) (fun h1 => ?_) (fun h1 => ?_)
    · have hf := ev_it h1 hf
      refine ev_blk hX lkok_RX3 [(.iconst 2, 1, 0, 0, 2)] (by decide +kernel) (g := true) (lv' := [some (.int l0), some (.int l1), some (.int l2)]) (st' := [.int (2 : Int32)]) (D' := D) (pc' := 26) rfl (rfl) rfl ?_
      exact ev_iret hR ev_sm.rf (Option.some.inj hf) hC (by decide +kernel)
    · have hf := ev_nf h1 hf
      refine ev_blk hX lkok_RX3 [(.iload_n 2, 1, 0, 0, 0), (.iload_n 0, 1, 0, 0, 0)] (by decide +kernel) (g := true) (lv' := [some (.int l0), some (.int l1), some (.int l2)]) (st' := [.int l0, .int l2]) (D' := D) (pc' := 9) rfl (rfl) rfl ?_
      refine ev_ic_eq hX (off := 10) 19 (by decide +kernel) (by decide) (fun h2 => ?_) (fun h2 => ?_)
      · have hf := ev_it h2 hf
        refine ev_blk hX lkok_RX3 [(.iinc 2 1, 3, 0, 0, 1)] (by decide +kernel) (g := true) (lv' := [some (.int l0), some (.int l1), some (.int (l2 + (1 : Int32)))]) (st' := []) (D' := D) (pc' := 22) rfl (rfl) rfl ?_
        refine ev_goto hX (off := (-20)) 2 (by decide +kernel) (by decide) ?_
        exact ev_weak hX (ev_le_eq (ev_le_eq (ev_le_eq ev_le_nil))) (ih _ _ _ _  hf)
      · have hf := ev_nf h2 hf
        refine ev_blk hX lkok_RX3 [(.iload_n 2, 1, 0, 0, 0), (.iload_n 1, 1, 0, 0, 0)] (by decide +kernel) (g := true) (lv' := [some (.int l0), some (.int l1), some (.int l2)]) (st' := [.int l1, .int l2]) (D' := D) (pc' := 14) rfl (rfl) rfl ?_
        refine ev_ic_eq hX (off := 5) 19 (by decide +kernel) (by decide) (fun h3 => ?_) (fun h3 => ?_)
        · have hf := ev_it h3 hf
          refine ev_blk hX lkok_RX3 [(.iinc 2 1, 3, 0, 0, 1)] (by decide +kernel) (g := true) (lv' := [some (.int l0), some (.int l1), some (.int (l2 + (1 : Int32)))]) (st' := []) (D' := D) (pc' := 22) rfl (rfl) rfl ?_
          refine ev_goto hX (off := (-20)) 2 (by decide +kernel) (by decide) ?_
          exact ev_weak hX (ev_le_eq (ev_le_eq (ev_le_eq ev_le_nil))) (ih _ _ _ _  hf)
        · have hf := ev_nf h3 hf
          refine ev_blk hX lkok_RX3 [(.iload_n 2, 1, 0, 0, 0)] (by decide +kernel) (g := true) (lv' := [some (.int l0), some (.int l1), some (.int l2)]) (st' := [.int l2]) (D' := D) (pc' := 18) rfl (rfl) rfl ?_
          exact ev_iret hR ev_sm.rf (Option.some.inj hf) hC (by decide +kernel)
set_option maxHeartbeats 4000000 in
set_option maxRecDepth 100000 in
theorem tX3_leastBeside {S : ev_S} {fu : Nat} {r : Int32 × ev_D} {F : ev_Fr} (hR : ev_R RX3 cX3_leastBeside 3 0 0 0 false (some .int) S r F) (hT : ev_Ty S) (hC : sC S ≤ 0 ∧ sA S ≤ 0) {l0 : Int32} {l1 : Int32} {D : ev_D}  (hf : fX3_leastBeside (sL S) (sE S) fu l0 l1 D = some r) : F S D 0 [some (.int l0), some (.int l1), none] [] := by
  have hX := hR.X
  unfold fX3_leastBeside at hf
  refine ev_blk hX lkok_RX3 [(.iconst 0, 1, 0, 0, 0), (.istore_n 2, 1, 0, 0, 0)] (by decide +kernel) (g := true) (lv' := [some (.int l0), some (.int l1), some (.int (0 : Int32))]) (st' := []) (D' := D) (pc' := 2) rfl (rfl) rfl ?_
  exact ev_weak hX (ev_le_eq (ev_le_eq (ev_le_eq ev_le_nil))) (tX3_leastBeside_2 hR hT hC  fu _ _ _ _  hf)
theorem mX3_leastBeside {S : ev_S} {fu : Nat} {r : Int32 × ev_D} (hT : ev_Ty S) {l0 : Int32} {l1 : Int32} {D : ev_D}  (hf : fX3_leastBeside (sL S) (sE S) fu l0 l1 D = some r) : ev_M 0 0 0 yX3_leastBeside cX3_leastBeside 3 (some .int) [.int l0, .int l1] S D S r :=
  ev_met (ini := false) (plainFor_of_name (by decide)) (fun h => by cases h) rfl (Nat.le_of_ble_eq_true rfl) (fun F hR => tX3_leastBeside (S := ev_z S) hR hT ⟨Nat.le_refl 0, Nat.le_refl 0⟩  hf)
set_option maxHeartbeats 4000000 in
set_option maxRecDepth 100000 in
theorem tX4_addToken_45 {S : ev_S} {fu : Nat} {r : Int32 × ev_D} {F : ev_Fr} (hR : ev_R RX4 cX4_addToken 3 0 0 0 false none S r F) (hT : ev_Ty S) (hC : sC S ≤ 0 ∧ sA S ≤ 0) {l0 : Nat} {D : ev_D} (hl0 : sK S l0 = 7) (hf : fX4_addToken_45 (sL S) (sE S) fu l0 D = some r) : F S D 45 [some (.ref l0), none, none] [] := by
  have hX := hR.X
  unfold fX4_addToken_45 at hf
  refine ev_blk hX lkok_RX4 [(.aload_n 0, 1, 0, 0, 0), (.dup, 1, 0, 0, 0), (.getfield 41, 3, 4, 8, 0), (.iconst 1, 1, 0, 0, 1), (.iadd, 1, 0, 0, 0), (.putfield 41, 3, 4, 8, 0)] (by decide +kernel) (g := (sK S l0 == 7) && ((sK S l0 == 7) && (true))) (lv' := [some (.ref l0), none, none]) (st' := []) (D' := (ev_up D l0 8 ((D l0 8) + (1 : Int32)))) (pc' := 55) rfl (ev_gk hl0 (ev_gk hl0 (rfl))) rfl ?_
  exact ev_vret hR ev_sm.rf (Option.some.inj hf) hC (by decide +kernel)
set_option maxHeartbeats 4000000 in
set_option maxRecDepth 100000 in
theorem tX4_addToken {S : ev_S} {fu : Nat} {r : Int32 × ev_D} {F : ev_Fr} (hR : ev_R RX4 cX4_addToken 3 0 0 0 false none S r F) (hT : ev_Ty S) (hC : sC S ≤ 0 ∧ sA S ≤ 0) {l0 : Nat} {l1 : Int32} {l2 : Int32} {D : ev_D} (hl0 : sK S l0 = 7) (hf : fX4_addToken (sL S) (sE S) fu l0 l1 l2 D = some r) : F S D 0 [some (.ref l0), some (.int l1), some (.int l2)] [] := by
  have hX := hR.X
  unfold fX4_addToken at hf
  refine ev_blk hX lkok_RX4 [(.aload_n 0, 1, 0, 0, 0), (.getfield 41, 3, 4, 8, 0), (.aload_n 0, 1, 0, 0, 0), (.getfield 32, 3, 4, 5, 0), (.arraylength, 1, 0, 0, 0)] (by decide +kernel) (g := (sK S l0 == 7) && ((sK S l0 == 7) && ((sK S ((sE S) l0 5) == 1) && (true)))) (lv' := [some (.ref l0), some (.int l1), some (.int l2)]) (st' := [.int (Int32.ofNat ((sL S) ((sE S) l0 5))), .int (D l0 8)]) (D' := D) (pc' := 9) rfl (ev_gk hl0 (ev_gk hl0 (ev_gk (ev_tyk hT hl0 rfl rfl) (rfl)))) rfl ?_
  refine ev_ic_ge hX (off := 46) 55 (by decide +kernel) (by decide) (fun h1 => ?_) (fun h1 => ?_)
  · have hf := ev_it h1 hf
    exact ev_vret hR ev_sm.rf (Option.some.inj hf) hC (by decide +kernel)
  · have hf := ev_nf h1 hf
    obtain ⟨hg2, hf⟩ := ev_gd_s hf
    obtain ⟨hg3, hf⟩ := ev_gd_s hf
    obtain ⟨hg4, hf⟩ := ev_gd_s hf
    refine ev_blk hX lkok_RX4 [(.aload_n 0, 1, 0, 0, 0), (.getfield 32, 3, 4, 5, 0), (.aload_n 0, 1, 0, 0, 0), (.getfield 41, 3, 4, 8, 0), (.iload_n 1, 1, 0, 0, 0), (.iastore, 1, 0, 0, 0), (.aload_n 0, 1, 0, 0, 0), (.getfield 35, 3, 4, 6, 0), (.aload_n 0, 1, 0, 0, 0), (.getfield 41, 3, 4, 8, 0), (.aload_n 0, 1, 0, 0, 0), (.getfield 47, 3, 4, 10, 0), (.iastore, 1, 0, 0, 0), (.aload_n 0, 1, 0, 0, 0), (.getfield 38, 3, 4, 7, 0), (.aload_n 0, 1, 0, 0, 0), (.getfield 41, 3, 4, 8, 0), (.iload_n 2, 1, 0, 0, 0), (.iastore, 1, 0, 0, 0)] (by decide +kernel) (g := (sK S l0 == 7) && ((sK S l0 == 7) && ((sK S ((sE S) l0 5) == 1 && ev_in (D l0 8) ((sL S) ((sE S) l0 5))) && ((sK S l0 == 7) && ((sK S l0 == 7) && ((sK S l0 == 7) && ((sK S ((sE S) l0 6) == 1 && ev_in ((ev_up D ((sE S) l0 5) ((D l0 8)).toNatClampNeg l1) l0 8) ((sL S) ((sE S) l0 6))) && ((sK S l0 == 7) && ((sK S l0 == 7) && ((sK S ((sE S) l0 7) == 1 && ev_in ((ev_up (ev_up D ((sE S) l0 5) ((D l0 8)).toNatClampNeg l1) ((sE S) l0 6) (((ev_up D ((sE S) l0 5) ((D l0 8)).toNatClampNeg l1) l0 8)).toNatClampNeg ((ev_up D ((sE S) l0 5) ((D l0 8)).toNatClampNeg l1) l0 10)) l0 8) ((sL S) ((sE S) l0 7))) && (true))))))))))) (lv' := [some (.ref l0), some (.int l1), some (.int l2)]) (st' := []) (D' := (ev_up (ev_up (ev_up D ((sE S) l0 5) ((D l0 8)).toNatClampNeg l1) ((sE S) l0 6) (((ev_up D ((sE S) l0 5) ((D l0 8)).toNatClampNeg l1) l0 8)).toNatClampNeg ((ev_up D ((sE S) l0 5) ((D l0 8)).toNatClampNeg l1) l0 10)) ((sE S) l0 7) (((ev_up (ev_up D ((sE S) l0 5) ((D l0 8)).toNatClampNeg l1) ((sE S) l0 6) (((ev_up D ((sE S) l0 5) ((D l0 8)).toNatClampNeg l1) l0 8)).toNatClampNeg ((ev_up D ((sE S) l0 5) ((D l0 8)).toNatClampNeg l1) l0 10)) l0 8)).toNatClampNeg l2)) (pc' := 45) rfl (ev_gk hl0 (ev_gk hl0 (ev_gi (ev_tyk hT hl0 rfl rfl) hg2 (ev_gk hl0 (ev_gk hl0 (ev_gk hl0 (ev_gi (ev_tyk hT hl0 rfl rfl) hg3 (ev_gk hl0 (ev_gk hl0 (ev_gi (ev_tyk hT hl0 rfl rfl) hg4 (rfl))))))))))) rfl ?_
    exact ev_weak hX (ev_le_eq (ev_le_no (ev_le_no ev_le_nil))) (tX4_addToken_45 hR hT hC  hl0 hf)
theorem mX4_addToken {S : ev_S} {fu : Nat} {r : Int32 × ev_D} (hT : ev_Ty S) {l0 : Nat} {l1 : Int32} {l2 : Int32} {D : ev_D} (hl0 : sK S l0 = 7) (hf : fX4_addToken (sL S) (sE S) fu l0 l1 l2 D = some r) : ev_M 0 0 0 yX4_addToken cX4_addToken 3 none [.ref l0, .int l1, .int l2] S D S r :=
  ev_met (ini := false) (plainFor_of_name (by decide)) (fun h => by cases h) rfl (Nat.le_of_ble_eq_true rfl) (fun F hR => tX4_addToken (S := ev_z S) hR hT ⟨Nat.le_refl 0, Nat.le_refl 0⟩ hl0 hf)
set_option maxHeartbeats 4000000 in
set_option maxRecDepth 100000 in
theorem tX4_isBlank {S : ev_S} {fu : Nat} {r : Int32 × ev_D} {F : ev_Fr} (hR : ev_R RX4 cX4_isBlank 1 0 0 0 false (some .boolean) S r F) (hT : ev_Ty S) (hC : sC S ≤ 0 ∧ sA S ≤ 0) {l0 : Int32} {D : ev_D}  (hf : fX4_isBlank (sL S) (sE S) fu l0 D = some r) : F S D 0 [some (.int l0)] [] := by
  have hX := hR.X
  unfold fX4_isBlank at hf
  refine ev_blk hX lkok_RX4 [(.iload_n 0, 1, 0, 0, 0), (.bipush 32, 2, 0, 0, 32)] (by decide +kernel) (g := true) (lv' := [some (.int l0)]) (st' := [.int (32 : Int32), .int l0]) (D' := D) (pc' := 3) rfl (rfl) rfl ?_
  refine ev_ic_eq hX (off := 9) 12 (by decide +kernel) (by decide) (fun h1 => ?_) (fun h1 => ?_)
  · have hf := ev_it h1 hf
    refine ev_blk hX lkok_RX4 [(.iconst 1, 1, 0, 0, 1)] (by decide +kernel) (g := true) (lv' := [some (.int l0)]) (st' := [.int (1 : Int32)]) (D' := D) (pc' := 13) rfl (rfl) rfl ?_
    refine ev_goto hX (off := 4) 17 (by decide +kernel) (by decide) ?_
    exact ev_zret hR ev_sm.rf (Or.inr rfl) (Option.some.inj hf) hC (by decide +kernel)
  · have hf := ev_nf h1 hf
    refine ev_blk hX lkok_RX4 [(.iload_n 0, 1, 0, 0, 0), (.bipush 10, 2, 0, 0, 10)] (by decide +kernel) (g := true) (lv' := [some (.int l0)]) (st' := [.int (10 : Int32), .int l0]) (D' := D) (pc' := 9) rfl (rfl) rfl ?_
    refine ev_ic_ne hX (off := 7) 16 (by decide +kernel) (by decide) (fun h2 => ?_) (fun h2 => ?_)
    · have hf := ev_nf h2 hf
      refine ev_blk hX lkok_RX4 [(.iconst 0, 1, 0, 0, 0)] (by decide +kernel) (g := true) (lv' := [some (.int l0)]) (st' := [.int (0 : Int32)]) (D' := D) (pc' := 17) rfl (rfl) rfl ?_
      exact ev_zret hR ev_sm.rf (Or.inl rfl) (Option.some.inj hf) hC (by decide +kernel)
    · have hf := ev_it h2 hf
      refine ev_blk hX lkok_RX4 [(.iconst 1, 1, 0, 0, 1)] (by decide +kernel) (g := true) (lv' := [some (.int l0)]) (st' := [.int (1 : Int32)]) (D' := D) (pc' := 13) rfl (rfl) rfl ?_
      refine ev_goto hX (off := 4) 17 (by decide +kernel) (by decide) ?_
      exact ev_zret hR ev_sm.rf (Or.inr rfl) (Option.some.inj hf) hC (by decide +kernel)
theorem mX4_isBlank {S : ev_S} {fu : Nat} {r : Int32 × ev_D} (hT : ev_Ty S) {l0 : Int32} {D : ev_D}  (hf : fX4_isBlank (sL S) (sE S) fu l0 D = some r) : ev_M 0 0 0 yX4_isBlank cX4_isBlank 1 (some .boolean) [.int l0] S D S r :=
  ev_met (ini := false) (plainFor_of_name (by decide)) (fun h => by cases h) rfl (Nat.le_of_ble_eq_true rfl) (fun F hR => tX4_isBlank (S := ev_z S) hR hT ⟨Nat.le_refl 0, Nat.le_refl 0⟩  hf)
set_option maxHeartbeats 4000000 in
set_option maxRecDepth 100000 in
theorem tX4_isDigit {S : ev_S} {fu : Nat} {r : Int32 × ev_D} {F : ev_Fr} (hR : ev_R RX4 cX4_isDigit 1 0 0 0 false (some .boolean) S r F) (hT : ev_Ty S) (hC : sC S ≤ 0 ∧ sA S ≤ 0) {l0 : Int32} {D : ev_D}  (hf : fX4_isDigit (sL S) (sE S) fu l0 D = some r) : F S D 0 [some (.int l0)] [] := by
  have hX := hR.X
  unfold fX4_isDigit at hf
  refine ev_blk hX lkok_RX4 [(.iload_n 0, 1, 0, 0, 0), (.bipush 48, 2, 0, 0, 48)] (by decide +kernel) (g := true) (lv' := [some (.int l0)]) (st' := [.int (48 : Int32), .int l0]) (D' := D) (pc' := 3) rfl (rfl) rfl ?_
  refine ev_ic_lt hX (off := 13) 16 (by decide +kernel) (by decide) (fun h1 => ?_) (fun h1 => ?_)
  · have hf := ev_it h1 hf
    refine ev_blk hX lkok_RX4 [(.iconst 0, 1, 0, 0, 0)] (by decide +kernel) (g := true) (lv' := [some (.int l0)]) (st' := [.int (0 : Int32)]) (D' := D) (pc' := 17) rfl (rfl) rfl ?_
    exact ev_zret hR ev_sm.rf (Or.inl rfl) (Option.some.inj hf) hC (by decide +kernel)
  · have hf := ev_nf h1 hf
    refine ev_blk hX lkok_RX4 [(.iload_n 0, 1, 0, 0, 0), (.bipush 57, 2, 0, 0, 57)] (by decide +kernel) (g := true) (lv' := [some (.int l0)]) (st' := [.int (57 : Int32), .int l0]) (D' := D) (pc' := 9) rfl (rfl) rfl ?_
    refine ev_ic_gt hX (off := 7) 16 (by decide +kernel) (by decide) (fun h2 => ?_) (fun h2 => ?_)
    · have hf := ev_it h2 hf
      refine ev_blk hX lkok_RX4 [(.iconst 0, 1, 0, 0, 0)] (by decide +kernel) (g := true) (lv' := [some (.int l0)]) (st' := [.int (0 : Int32)]) (D' := D) (pc' := 17) rfl (rfl) rfl ?_
      exact ev_zret hR ev_sm.rf (Or.inl rfl) (Option.some.inj hf) hC (by decide +kernel)
    · have hf := ev_nf h2 hf
      refine ev_blk hX lkok_RX4 [(.iconst 1, 1, 0, 0, 1)] (by decide +kernel) (g := true) (lv' := [some (.int l0)]) (st' := [.int (1 : Int32)]) (D' := D) (pc' := 13) rfl (rfl) rfl ?_
      refine ev_goto hX (off := 4) 17 (by decide +kernel) (by decide) ?_
      exact ev_zret hR ev_sm.rf (Or.inr rfl) (Option.some.inj hf) hC (by decide +kernel)
theorem mX4_isDigit {S : ev_S} {fu : Nat} {r : Int32 × ev_D} (hT : ev_Ty S) {l0 : Int32} {D : ev_D}  (hf : fX4_isDigit (sL S) (sE S) fu l0 D = some r) : ev_M 0 0 0 yX4_isDigit cX4_isDigit 1 (some .boolean) [.int l0] S D S r :=
  ev_met (ini := false) (plainFor_of_name (by decide)) (fun h => by cases h) rfl (Nat.le_of_ble_eq_true rfl) (fun F hR => tX4_isDigit (S := ev_z S) hR hT ⟨Nat.le_refl 0, Nat.le_refl 0⟩  hf)
set_option maxHeartbeats 4000000 in
set_option maxRecDepth 100000 in
theorem tX4_isLetter_12 {S : ev_S} {fu : Nat} {r : Int32 × ev_D} {F : ev_Fr} (hR : ev_R RX4 cX4_isLetter 1 0 0 0 false (some .boolean) S r F) (hT : ev_Ty S) (hC : sC S ≤ 0 ∧ sA S ≤ 0) {l0 : Int32} {D : ev_D}  (hf : fX4_isLetter_12 (sL S) (sE S) fu l0 D = some r) : F S D 12 [some (.int l0)] [] := by
  have hX := hR.X
  unfold fX4_isLetter_12 at hf
  refine ev_blk hX lkok_RX4 [(.iload_n 0, 1, 0, 0, 0), (.bipush 65, 2, 0, 0, 65)] (by decide +kernel) (g := true) (lv' := [some (.int l0)]) (st' := [.int (65 : Int32), .int l0]) (D' := D) (pc' := 15) rfl (rfl) rfl ?_
  refine ev_ic_lt hX (off := 13) 28 (by decide +kernel) (by decide) (fun h1 => ?_) (fun h1 => ?_)
  · have hf := ev_it h1 hf
    refine ev_blk hX lkok_RX4 [(.iconst 0, 1, 0, 0, 0)] (by decide +kernel) (g := true) (lv' := [some (.int l0)]) (st' := [.int (0 : Int32)]) (D' := D) (pc' := 29) rfl (rfl) rfl ?_
    exact ev_zret hR ev_sm.rf (Or.inl rfl) (Option.some.inj hf) hC (by decide +kernel)
  · have hf := ev_nf h1 hf
    refine ev_blk hX lkok_RX4 [(.iload_n 0, 1, 0, 0, 0), (.bipush 90, 2, 0, 0, 90)] (by decide +kernel) (g := true) (lv' := [some (.int l0)]) (st' := [.int (90 : Int32), .int l0]) (D' := D) (pc' := 21) rfl (rfl) rfl ?_
    refine ev_ic_gt hX (off := 7) 28 (by decide +kernel) (by decide) (fun h2 => ?_) (fun h2 => ?_)
    · have hf := ev_it h2 hf
      refine ev_blk hX lkok_RX4 [(.iconst 0, 1, 0, 0, 0)] (by decide +kernel) (g := true) (lv' := [some (.int l0)]) (st' := [.int (0 : Int32)]) (D' := D) (pc' := 29) rfl (rfl) rfl ?_
      exact ev_zret hR ev_sm.rf (Or.inl rfl) (Option.some.inj hf) hC (by decide +kernel)
    · have hf := ev_nf h2 hf
      refine ev_blk hX lkok_RX4 [(.iconst 1, 1, 0, 0, 1)] (by decide +kernel) (g := true) (lv' := [some (.int l0)]) (st' := [.int (1 : Int32)]) (D' := D) (pc' := 25) rfl (rfl) rfl ?_
      refine ev_goto hX (off := 4) 29 (by decide +kernel) (by decide) ?_
      exact ev_zret hR ev_sm.rf (Or.inr rfl) (Option.some.inj hf) hC (by decide +kernel)
set_option maxHeartbeats 4000000 in
set_option maxRecDepth 100000 in
theorem tX4_isLetter {S : ev_S} {fu : Nat} {r : Int32 × ev_D} {F : ev_Fr} (hR : ev_R RX4 cX4_isLetter 1 0 0 0 false (some .boolean) S r F) (hT : ev_Ty S) (hC : sC S ≤ 0 ∧ sA S ≤ 0) {l0 : Int32} {D : ev_D}  (hf : fX4_isLetter (sL S) (sE S) fu l0 D = some r) : F S D 0 [some (.int l0)] [] := by
  have hX := hR.X
  unfold fX4_isLetter at hf
  refine ev_blk hX lkok_RX4 [(.iload_n 0, 1, 0, 0, 0), (.bipush 97, 2, 0, 0, 97)] (by decide +kernel) (g := true) (lv' := [some (.int l0)]) (st' := [.int (97 : Int32), .int l0]) (D' := D) (pc' := 3) rfl (rfl) rfl ?_
  refine ev_ic_lt hX (off := 9) 12 (by decide +kernel) (by decide) (fun h3 => ?_) (fun h3 => ?_)
  · have hf := ev_it h3 hf
    exact ev_weak hX (ev_le_eq ev_le_nil) (tX4_isLetter_12 hR hT hC   hf)
  · have hf := ev_nf h3 hf
    refine ev_blk hX lkok_RX4 [(.iload_n 0, 1, 0, 0, 0), (.bipush 122, 2, 0, 0, 122)] (by decide +kernel) (g := true) (lv' := [some (.int l0)]) (st' := [.int (122 : Int32), .int l0]) (D' := D) (pc' := 9) rfl (rfl) rfl ?_
    refine ev_ic_le hX (off := 15) 24 (by decide +kernel) (by decide) (fun h4 => ?_) (fun h4 => ?_)
    · have hf := ev_it h4 hf
      refine ev_blk hX lkok_RX4 [(.iconst 1, 1, 0, 0, 1)] (by decide +kernel) (g := true) (lv' := [some (.int l0)]) (st' := [.int (1 : Int32)]) (D' := D) (pc' := 25) rfl (rfl) rfl ?_
      refine ev_goto hX (off := 4) 29 (by decide +kernel) (by decide) ?_
      exact ev_zret hR ev_sm.rf (Or.inr rfl) (Option.some.inj hf) hC (by decide +kernel)
    · have hf := ev_nf h4 hf
      exact ev_weak hX (ev_le_eq ev_le_nil) (tX4_isLetter_12 hR hT hC   hf)
theorem mX4_isLetter {S : ev_S} {fu : Nat} {r : Int32 × ev_D} (hT : ev_Ty S) {l0 : Int32} {D : ev_D}  (hf : fX4_isLetter (sL S) (sE S) fu l0 D = some r) : ev_M 0 0 0 yX4_isLetter cX4_isLetter 1 (some .boolean) [.int l0] S D S r :=
  ev_met (ini := false) (plainFor_of_name (by decide)) (fun h => by cases h) rfl (Nat.le_of_ble_eq_true rfl) (fun F hR => tX4_isLetter (S := ev_z S) hR hT ⟨Nat.le_refl 0, Nat.le_refl 0⟩  hf)
set_option maxHeartbeats 4000000 in
set_option maxRecDepth 100000 in
theorem tX4_runFrom_32 {S : ev_S} {fu : Nat} {r : Int32 × ev_D} {F : ev_Fr} (hR : ev_R RX4 cX4_runFrom 4 1 0 0 false (some .int) S r F) (hT : ev_Ty S) (hC : sC S ≤ 0 ∧ sA S ≤ 0) : ∀ (n : Nat) (l0 : Nat) (l2 : Int32) (l3 : Int32) (D : ev_D), sK S l0 = 7 → fX4_runFrom_32 (sL S) (sE S) fu n l0 l2 l3 D = some r → F S D 32 [some (.ref l0), none, some (.int l2), some (.int l3)] [] := by
  have hX := hR.X
  intro n
  induction n with
  | zero =>
    intro l0 l2 l3 D hl0 hf
    rw [fX4_runFrom_32] at hf
    cases hf
  | succ n ih =>
    intro l0 l2 l3 D hl0 hf
    rw [fX4_runFrom_32] at hf
    refine ev_blk hX lkok_RX4 [(.iload_n 2, 1, 0, 0, 0), (.aload_n 0, 1, 0, 0, 0), (.getfield 18, 3, 4, 1, 0)] (by decide +kernel) (g := (sK S l0 == 7) && (true)) (lv' := [some (.ref l0), none, some (.int l2), some (.int l3)]) (st' := [.int (D l0 1), .int l2]) (D' := D) (pc' := 37) rfl (ev_gk hl0 (rfl)) rfl ?_
    refine ev_ic_ge hX (off := 40) 77 (by decide +kernel) (by decide) (fun h1 => ?_) (fun h1 => ?_)
    · have hf := ev_it h1 hf
      refine ev_blk hX lkok_RX4 [(.iload_n 2, 1, 0, 0, 0)] (by decide +kernel) (g := true) (lv' := [some (.ref l0), none, some (.int l2), some (.int l3)]) (st' := [.int l2]) (D' := D) (pc' := 78) rfl (rfl) rfl ?_
      exact ev_iret hR ev_sm.rf (Option.some.inj hf) hC (by decide +kernel)
    · have hf := ev_nf h1 hf
      refine ev_blk hX lkok_RX4 [(.iload_n 3, 1, 0, 0, 0)] (by decide +kernel) (g := true) (lv' := [some (.ref l0), none, some (.int l2), some (.int l3)]) (st' := [.int l3]) (D' := D) (pc' := 41) rfl (rfl) rfl ?_
      refine ev_if_eq hX (off := 18) 59 (by decide +kernel) (by decide) (fun h2 => ?_) (fun h2 => ?_)
      · have hf := ev_it h2 hf
        obtain ⟨hg5, hf⟩ := ev_gd_s hf
        refine ev_blk hX lkok_RX4 [(.aload_n 0, 1, 0, 0, 0), (.getfield 28, 3, 4, 4, 0), (.iload_n 2, 1, 0, 0, 0), (.iaload, 1, 0, 0, 0)] (by decide +kernel) (g := (sK S l0 == 7) && ((sK S ((sE S) l0 4) == 1 && ev_in l2 ((sL S) ((sE S) l0 4))) && (true))) (lv' := [some (.ref l0), none, some (.int l2), some (.int l3)]) (st' := [.int (D ((sE S) l0 4) (l2).toNatClampNeg)]) (D' := D) (pc' := 65) rfl (ev_gk hl0 (ev_gi (ev_tyk hT hl0 rfl rfl) hg5 (rfl))) rfl ?_
        obtain ⟨v3, D3, hc3, hf⟩ := ev_bd_s hf
        refine ev_callS hX YX4_isDigit ml_RX4_132 (mX4_isDigit hT  hc3) (vs := [.int (D ((sE S) l0 4) (l2).toNatClampNeg)]) (st := []) (by decide) rfl rfl (by decide +kernel) hC ?_
        show F S D3 68 [some (.ref l0), none, some (.int l2), some (.int l3)] [.int v3]
        refine ev_if_eq hX (off := 9) 77 (by decide +kernel) (by decide) (fun h4 => ?_) (fun h4 => ?_)
        · have hf := ev_it h4 hf
          refine ev_blk hX lkok_RX4 [(.iload_n 2, 1, 0, 0, 0)] (by decide +kernel) (g := true) (lv' := [some (.ref l0), none, some (.int l2), some (.int l3)]) (st' := [.int l2]) (D' := D3) (pc' := 78) rfl (rfl) rfl ?_
          exact ev_iret hR ev_sm.rf (Option.some.inj hf) hC (by decide +kernel)
        · have hf := ev_nf h4 hf
          refine ev_blk hX lkok_RX4 [(.iinc 2 1, 3, 0, 0, 1)] (by decide +kernel) (g := true) (lv' := [some (.ref l0), none, some (.int (l2 + (1 : Int32))), some (.int l3)]) (st' := []) (D' := D3) (pc' := 74) rfl (rfl) rfl ?_
          refine ev_goto hX (off := (-42)) 32 (by decide +kernel) (by decide) ?_
          exact ev_weak hX (ev_le_eq (ev_le_no (ev_le_eq (ev_le_eq ev_le_nil)))) (ih _ _ _ _ hl0 hf)
      · have hf := ev_nf h2 hf
        obtain ⟨hg8, hf⟩ := ev_gd_s hf
        refine ev_blk hX lkok_RX4 [(.aload_n 0, 1, 0, 0, 0), (.getfield 28, 3, 4, 4, 0), (.iload_n 2, 1, 0, 0, 0), (.iaload, 1, 0, 0, 0)] (by decide +kernel) (g := (sK S l0 == 7) && ((sK S ((sE S) l0 4) == 1 && ev_in l2 ((sL S) ((sE S) l0 4))) && (true))) (lv' := [some (.ref l0), none, some (.int l2), some (.int l3)]) (st' := [.int (D ((sE S) l0 4) (l2).toNatClampNeg)]) (D' := D) (pc' := 50) rfl (ev_gk hl0 (ev_gi (ev_tyk hT hl0 rfl rfl) hg8 (rfl))) rfl ?_
        obtain ⟨v6, D6, hc6, hf⟩ := ev_bd_s hf
        refine ev_callS hX YX4_isLetter ml_RX4_129 (mX4_isLetter hT  hc6) (vs := [.int (D ((sE S) l0 4) (l2).toNatClampNeg)]) (st := []) (by decide) rfl rfl (by decide +kernel) hC ?_
        show F S D6 53 [some (.ref l0), none, some (.int l2), some (.int l3)] [.int v6]
        refine ev_if_eq hX (off := 24) 77 (by decide +kernel) (by decide) (fun h7 => ?_) (fun h7 => ?_)
        · have hf := ev_it h7 hf
          refine ev_blk hX lkok_RX4 [(.iload_n 2, 1, 0, 0, 0)] (by decide +kernel) (g := true) (lv' := [some (.ref l0), none, some (.int l2), some (.int l3)]) (st' := [.int l2]) (D' := D6) (pc' := 78) rfl (rfl) rfl ?_
          exact ev_iret hR ev_sm.rf (Option.some.inj hf) hC (by decide +kernel)
        · have hf := ev_nf h7 hf
          refine ev_goto hX (off := 15) 71 (by decide +kernel) (by decide) ?_
          refine ev_blk hX lkok_RX4 [(.iinc 2 1, 3, 0, 0, 1)] (by decide +kernel) (g := true) (lv' := [some (.ref l0), none, some (.int (l2 + (1 : Int32))), some (.int l3)]) (st' := []) (D' := D6) (pc' := 74) rfl (rfl) rfl ?_
          refine ev_goto hX (off := (-42)) 32 (by decide +kernel) (by decide) ?_
          exact ev_weak hX (ev_le_eq (ev_le_no (ev_le_eq (ev_le_eq ev_le_nil)))) (ih _ _ _ _ hl0 hf)
set_option maxHeartbeats 4000000 in
set_option maxRecDepth 100000 in
theorem tX4_runFrom {S : ev_S} {fu : Nat} {r : Int32 × ev_D} {F : ev_Fr} (hR : ev_R RX4 cX4_runFrom 4 1 0 0 false (some .int) S r F) (hT : ev_Ty S) (hC : sC S ≤ 0 ∧ sA S ≤ 0) {l0 : Nat} {l1 : Int32} {D : ev_D} (hl0 : sK S l0 = 7) (hf : fX4_runFrom (sL S) (sE S) fu l0 l1 D = some r) : F S D 0 [some (.ref l0), some (.int l1), none, none] [] := by
  have hX := hR.X
  unfold fX4_runFrom at hf
  obtain ⟨hg14, hf⟩ := ev_gd_s hf
  refine ev_blk hX lkok_RX4 [(.iload_n 1, 1, 0, 0, 0), (.iconst 1, 1, 0, 0, 1), (.iadd, 1, 0, 0, 0), (.istore_n 2, 1, 0, 0, 0), (.aload_n 0, 1, 0, 0, 0), (.getfield 28, 3, 4, 4, 0), (.iload_n 1, 1, 0, 0, 0), (.iaload, 1, 0, 0, 0)] (by decide +kernel) (g := (sK S l0 == 7) && ((sK S ((sE S) l0 4) == 1 && ev_in l1 ((sL S) ((sE S) l0 4))) && (true))) (lv' := [some (.ref l0), some (.int l1), some (.int (l1 + (1 : Int32))), none]) (st' := [.int (D ((sE S) l0 4) (l1).toNatClampNeg)]) (D' := D) (pc' := 10) rfl (ev_gk hl0 (ev_gi (ev_tyk hT hl0 rfl rfl) hg14 (rfl))) rfl ?_
  obtain ⟨v9, D9, hc9, hf⟩ := ev_bd_s hf
  refine ev_callS hX YX4_isLetter ml_RX4_129 (mX4_isLetter hT  hc9) (vs := [.int (D ((sE S) l0 4) (l1).toNatClampNeg)]) (st := []) (by decide) rfl rfl (by decide +kernel) hC ?_
  show F S D9 13 [some (.ref l0), some (.int l1), some (.int (l1 + (1 : Int32))), none] [.int v9]
  refine ev_blk hX lkok_RX4 [(.istore_n 3, 1, 0, 0, 0), (.iload_n 3, 1, 0, 0, 0)] (by decide +kernel) (g := true) (lv' := [some (.ref l0), some (.int l1), some (.int (l1 + (1 : Int32))), some (.int v9)]) (st' := [.int v9]) (D' := D9) (pc' := 15) rfl (rfl) rfl ?_
  refine ev_if_ne hX (off := 17) 32 (by decide +kernel) (by decide) (fun h10 => ?_) (fun h10 => ?_)
  · have hf := ev_nf h10 hf
    exact ev_weak hX (ev_le_eq (ev_le_no (ev_le_eq (ev_le_eq ev_le_nil)))) (tX4_runFrom_32 hR hT hC  fu _ _ _ _ hl0 hf)
  · have hf := ev_it h10 hf
    obtain ⟨hg13, hf⟩ := ev_gd_s hf
    refine ev_blk hX lkok_RX4 [(.aload_n 0, 1, 0, 0, 0), (.getfield 28, 3, 4, 4, 0), (.iload_n 1, 1, 0, 0, 0), (.iaload, 1, 0, 0, 0)] (by decide +kernel) (g := (sK S l0 == 7) && ((sK S ((sE S) l0 4) == 1 && ev_in l1 ((sL S) ((sE S) l0 4))) && (true))) (lv' := [some (.ref l0), some (.int l1), some (.int (l1 + (1 : Int32))), some (.int v9)]) (st' := [.int (D9 ((sE S) l0 4) (l1).toNatClampNeg)]) (D' := D9) (pc' := 24) rfl (ev_gk hl0 (ev_gi (ev_tyk hT hl0 rfl rfl) hg13 (rfl))) rfl ?_
    obtain ⟨v11, D11, hc11, hf⟩ := ev_bd_s hf
    refine ev_callS hX YX4_isDigit ml_RX4_132 (mX4_isDigit hT  hc11) (vs := [.int (D9 ((sE S) l0 4) (l1).toNatClampNeg)]) (st := []) (by decide) rfl rfl (by decide +kernel) hC ?_
    show F S D11 27 [some (.ref l0), some (.int l1), some (.int (l1 + (1 : Int32))), some (.int v9)] [.int v11]
    refine ev_if_ne hX (off := 5) 32 (by decide +kernel) (by decide) (fun h12 => ?_) (fun h12 => ?_)
    · have hf := ev_nf h12 hf
      exact ev_weak hX (ev_le_eq (ev_le_no (ev_le_eq (ev_le_eq ev_le_nil)))) (tX4_runFrom_32 hR hT hC  fu _ _ _ _ hl0 hf)
    · have hf := ev_it h12 hf
      refine ev_blk hX lkok_RX4 [(.iload_n 2, 1, 0, 0, 0)] (by decide +kernel) (g := true) (lv' := [some (.ref l0), some (.int l1), some (.int (l1 + (1 : Int32))), some (.int v9)]) (st' := [.int (l1 + (1 : Int32))]) (D' := D11) (pc' := 31) rfl (rfl) rfl ?_
      exact ev_iret hR ev_sm.rf (Option.some.inj hf) hC (by decide +kernel)
theorem mX4_runFrom {S : ev_S} {fu : Nat} {r : Int32 × ev_D} (hT : ev_Ty S) {l0 : Nat} {l1 : Int32} {D : ev_D} (hl0 : sK S l0 = 7) (hf : fX4_runFrom (sL S) (sE S) fu l0 l1 D = some r) : ev_M 1 0 0 yX4_runFrom cX4_runFrom 4 (some .int) [.ref l0, .int l1] S D S r :=
  ev_met (ini := false) (plainFor_of_name (by decide)) (fun h => by cases h) rfl (Nat.le_of_ble_eq_true rfl) (fun F hR => tX4_runFrom (S := ev_z S) hR hT ⟨Nat.le_refl 0, Nat.le_refl 0⟩ hl0 hf)
set_option maxHeartbeats 4000000 in
set_option maxRecDepth 100000 in
theorem tX4_numberKind_16 {S : ev_S} {fu : Nat} {r : Int32 × ev_D} {F : ev_Fr} (hR : ev_R RX4 cX4_numberKind 4 0 0 0 false (some .int) S r F) (hT : ev_Ty S) (hC : sC S ≤ 0 ∧ sA S ≤ 0) : ∀ (n : Nat) (l0 : Nat) (l2 : Int32) (l3 : Int32) (D : ev_D), sK S l0 = 7 → fX4_numberKind_16 (sL S) (sE S) fu n l0 l2 l3 D = some r → F S D 16 [some (.ref l0), none, some (.int l2), some (.int l3)] [] := by
  have hX := hR.X
  intro n
  induction n with
  | zero =>
    intro l0 l2 l3 D hl0 hf
    rw [fX4_numberKind_16] at hf
    cases hf
  | succ n ih =>
    intro l0 l2 l3 D hl0 hf
    rw [fX4_numberKind_16] at hf
    refine ev_blk hX lkok_RX4 [(.iload_n 3, 1, 0, 0, 0), (.iload_n 2, 1, 0, 0, 0)] (by decide +kernel) (g := true) (lv' := [some (.ref l0), none, some (.int l2), some (.int l3)]) (st' := [.int l2, .int l3]) (D' := D) (pc' := 18) rfl (rfl) rfl ?_
    refine ev_ic_ge hX (off := 30) 48 (by decide +kernel) (by decide) (fun h1 => ?_) (fun h1 => ?_)
    · have hf := ev_it h1 hf
      refine ev_blk hX lkok_RX4 [(.iconst 2, 1, 0, 0, 2)] (by decide +kernel) (g := true) (lv' := [some (.ref l0), none, some (.int l2), some (.int l3)]) (st' := [.int (2 : Int32)]) (D' := D) (pc' := 49) rfl (rfl) rfl ?_
      exact ev_iret hR ev_sm.rf (Option.some.inj hf) hC (by decide +kernel)
    · have hf := ev_nf h1 hf
      obtain ⟨hg2, hf⟩ := ev_gd_s hf
      refine ev_blk hX lkok_RX4 [(.aload_n 0, 1, 0, 0, 0), (.aload_n 0, 1, 0, 0, 0), (.getfield 47, 3, 4, 10, 0), (.bipush 10, 2, 0, 0, 10), (.imul, 1, 0, 0, 0), (.aload_n 0, 1, 0, 0, 0), (.getfield 28, 3, 4, 4, 0), (.iload_n 3, 1, 0, 0, 0), (.iaload, 1, 0, 0, 0), (.iadd, 1, 0, 0, 0), (.bipush 48, 2, 0, 0, 48), (.isub, 1, 0, 0, 0), (.putfield 47, 3, 4, 10, 0), (.iinc 3 1, 3, 0, 0, 1)] (by decide +kernel) (g := (sK S l0 == 7) && ((sK S l0 == 7) && ((sK S ((sE S) l0 4) == 1 && ev_in l3 ((sL S) ((sE S) l0 4))) && ((sK S l0 == 7) && (true))))) (lv' := [some (.ref l0), none, some (.int l2), some (.int (l3 + (1 : Int32)))]) (st' := []) (D' := (ev_up D l0 10 ((((D l0 10) * (10 : Int32)) + (D ((sE S) l0 4) (l3).toNatClampNeg)) - (48 : Int32)))) (pc' := 45) rfl (ev_gk hl0 (ev_gk hl0 (ev_gi (ev_tyk hT hl0 rfl rfl) hg2 (ev_gk hl0 (rfl))))) rfl ?_
      refine ev_goto hX (off := (-29)) 16 (by decide +kernel) (by decide) ?_
      exact ev_weak hX (ev_le_eq (ev_le_no (ev_le_eq (ev_le_eq ev_le_nil)))) (ih _ _ _ _ hl0 hf)
set_option maxHeartbeats 4000000 in
set_option maxRecDepth 100000 in
theorem tX4_numberKind {S : ev_S} {fu : Nat} {r : Int32 × ev_D} {F : ev_Fr} (hR : ev_R RX4 cX4_numberKind 4 0 0 0 false (some .int) S r F) (hT : ev_Ty S) (hC : sC S ≤ 0 ∧ sA S ≤ 0) {l0 : Nat} {l1 : Int32} {l2 : Int32} {D : ev_D} (hl0 : sK S l0 = 7) (hf : fX4_numberKind (sL S) (sE S) fu l0 l1 l2 D = some r) : F S D 0 [some (.ref l0), some (.int l1), some (.int l2), none] [] := by
  have hX := hR.X
  unfold fX4_numberKind at hf
  refine ev_blk hX lkok_RX4 [(.iload_n 2, 1, 0, 0, 0), (.iload_n 1, 1, 0, 0, 0), (.isub, 1, 0, 0, 0), (.iconst 4, 1, 0, 0, 4)] (by decide +kernel) (g := true) (lv' := [some (.ref l0), some (.int l1), some (.int l2), none]) (st' := [.int (4 : Int32), .int (l2 - l1)]) (D' := D) (pc' := 4) rfl (rfl) rfl ?_
  refine ev_ic_le hX (off := 5) 9 (by decide +kernel) (by decide) (fun h3 => ?_) (fun h3 => ?_)
  · have hf := ev_it h3 hf
    refine ev_blk hX lkok_RX4 [(.aload_n 0, 1, 0, 0, 0), (.iconst 0, 1, 0, 0, 0), (.putfield 47, 3, 4, 10, 0), (.iload_n 1, 1, 0, 0, 0), (.istore_n 3, 1, 0, 0, 0)] (by decide +kernel) (g := (sK S l0 == 7) && (true)) (lv' := [some (.ref l0), some (.int l1), some (.int l2), some (.int l1)]) (st' := []) (D' := (ev_up D l0 10 (0 : Int32))) (pc' := 16) rfl (ev_gk hl0 (rfl)) rfl ?_
    exact ev_weak hX (ev_le_eq (ev_le_no (ev_le_eq (ev_le_eq ev_le_nil)))) (tX4_numberKind_16 hR hT hC  fu _ _ _ _ hl0 hf)
  · have hf := ev_nf h3 hf
    refine ev_blk hX lkok_RX4 [(.iconst 1, 1, 0, 0, 1)] (by decide +kernel) (g := true) (lv' := [some (.ref l0), some (.int l1), some (.int l2), none]) (st' := [.int (1 : Int32)]) (D' := D) (pc' := 8) rfl (rfl) rfl ?_
    exact ev_iret hR ev_sm.rf (Option.some.inj hf) hC (by decide +kernel)
theorem mX4_numberKind {S : ev_S} {fu : Nat} {r : Int32 × ev_D} (hT : ev_Ty S) {l0 : Nat} {l1 : Int32} {l2 : Int32} {D : ev_D} (hl0 : sK S l0 = 7) (hf : fX4_numberKind (sL S) (sE S) fu l0 l1 l2 D = some r) : ev_M 0 0 0 yX4_numberKind cX4_numberKind 4 (some .int) [.ref l0, .int l1, .int l2] S D S r :=
  ev_met (ini := false) (plainFor_of_name (by decide)) (fun h => by cases h) rfl (Nat.le_of_ble_eq_true rfl) (fun F hR => tX4_numberKind (S := ev_z S) hR hT ⟨Nat.le_refl 0, Nat.le_refl 0⟩ hl0 hf)
set_option maxHeartbeats 4000000 in
set_option maxRecDepth 100000 in
theorem tX4_takeNots_4 {S : ev_S} {fu : Nat} {r : Int32 × ev_D} {F : ev_Fr} (hR : ev_R RX4 cX4_takeNots 4 1 0 0 false (some .int) S r F) (hT : ev_Ty S) (hC : sC S ≤ 0 ∧ sA S ≤ 0) : ∀ (n : Nat) (l0 : Nat) (l2 : Int32) (l3 : Int32) (D : ev_D), sK S l0 = 7 → fX4_takeNots_4 (sL S) (sE S) fu n l0 l2 l3 D = some r → F S D 4 [some (.ref l0), none, some (.int l2), some (.int l3)] [] := by
  have hX := hR.X
  intro n
  induction n with
  | zero =>
    intro l0 l2 l3 D hl0 hf
    rw [fX4_takeNots_4] at hf
    cases hf
  | succ n ih =>
    intro l0 l2 l3 D hl0 hf
    rw [fX4_takeNots_4] at hf
    refine ev_blk hX lkok_RX4 [(.iload_n 3, 1, 0, 0, 0), (.bipush 8, 2, 0, 0, 8)] (by decide +kernel) (g := true) (lv' := [some (.ref l0), none, some (.int l2), some (.int l3)]) (st' := [.int (8 : Int32), .int l3]) (D' := D) (pc' := 7) rfl (rfl) rfl ?_
    refine ev_ic_gt hX (off := 46) 53 (by decide +kernel) (by decide) (fun h1 => ?_) (fun h1 => ?_)
    · have hf := ev_it h1 hf
      refine ev_blk hX lkok_RX4 [(.iload_n 2, 1, 0, 0, 0)] (by decide +kernel) (g := true) (lv' := [some (.ref l0), none, some (.int l2), some (.int l3)]) (st' := [.int l2]) (D' := D) (pc' := 54) rfl (rfl) rfl ?_
      exact ev_iret hR ev_sm.rf (Option.some.inj hf) hC (by decide +kernel)
    · have hf := ev_nf h1 hf
      refine ev_blk hX lkok_RX4 [(.aload_n 0, 1, 0, 0, 0)] (by decide +kernel) (g := true) (lv' := [some (.ref l0), none, some (.int l2), some (.int l3)]) (st' := [.ref l0]) (D' := D) (pc' := 11) rfl (rfl) rfl ?_
      obtain ⟨v2, D2, hc2, hf⟩ := ev_bd_s hf
      refine ev_callV hX YX4_kind ml_RX4_63 (mX4_kind hT hl0 hc2) (vs := []) (st := []) (by decide) 4 hl0 rfl rfl rfl (by decide +kernel) hC ?_
      show F S D2 14 [some (.ref l0), none, some (.int l2), some (.int l3)] [.int v2]
      refine ev_blk hX lkok_RX4 [(.sipush 262, 3, 0, 0, 262)] (by decide +kernel) (g := true) (lv' := [some (.ref l0), none, some (.int l2), some (.int l3)]) (st' := [.int (262 : Int32), .int v2]) (D' := D2) (pc' := 17) rfl (rfl) rfl ?_
      refine ev_ic_ne hX (off := 36) 53 (by decide +kernel) (by decide) (fun h3 => ?_) (fun h3 => ?_)
      · have hf := ev_nf h3 hf
        refine ev_blk hX lkok_RX4 [(.iload_n 2, 1, 0, 0, 0)] (by decide +kernel) (g := true) (lv' := [some (.ref l0), none, some (.int l2), some (.int l3)]) (st' := [.int l2]) (D' := D2) (pc' := 54) rfl (rfl) rfl ?_
        exact ev_iret hR ev_sm.rf (Option.some.inj hf) hC (by decide +kernel)
      · have hf := ev_it h3 hf
        refine ev_blk hX lkok_RX4 [(.iload_n 3, 1, 0, 0, 0), (.bipush 8, 2, 0, 0, 8)] (by decide +kernel) (g := true) (lv' := [some (.ref l0), none, some (.int l2), some (.int l3)]) (st' := [.int (8 : Int32), .int l3]) (D' := D2) (pc' := 23) rfl (rfl) rfl ?_
        refine ev_ic_ne hX (off := 11) 34 (by decide +kernel) (by decide) (fun h4 => ?_) (fun h4 => ?_)
        · have hf := ev_nf h4 hf
          refine ev_blk hX lkok_RX4 [(.iinc 2 1, 3, 0, 0, 1), (.aload_n 0, 1, 0, 0, 0), (.dup, 1, 0, 0, 0), (.getfield 44, 3, 4, 9, 0), (.iconst 1, 1, 0, 0, 1), (.iadd, 1, 0, 0, 0), (.putfield 44, 3, 4, 9, 0), (.iinc 3 1, 3, 0, 0, 1)] (by decide +kernel) (g := (sK S l0 == 7) && ((sK S l0 == 7) && (true))) (lv' := [some (.ref l0), none, some (.int (l2 + (1 : Int32))), some (.int (l3 + (1 : Int32)))]) (st' := []) (D' := (ev_up D2 l0 9 ((D2 l0 9) + (1 : Int32)))) (pc' := 50) rfl (ev_gk hl0 (ev_gk hl0 (rfl))) rfl ?_
          refine ev_goto hX (off := (-46)) 4 (by decide +kernel) (by decide) ?_
          exact ev_weak hX (ev_le_eq (ev_le_no (ev_le_eq (ev_le_eq ev_le_nil)))) (ih _ _ _ _ hl0 hf)
        · have hf := ev_it h4 hf
          refine ev_blk hX lkok_RX4 [(.aload_n 0, 1, 0, 0, 0), (.iconst 3, 1, 0, 0, 3)] (by decide +kernel) (g := true) (lv' := [some (.ref l0), none, some (.int l2), some (.int l3)]) (st' := [.int (3 : Int32), .ref l0]) (D' := D2) (pc' := 28) rfl (rfl) rfl ?_
          obtain ⟨v5, D5, hc5, hf⟩ := ev_bd_s hf
          refine ev_callV hX YX4_refuse ml_RX4_71 (mX4_refuse hT hl0 hc5) (vs := [.int (3 : Int32)]) (st := []) (by decide) 4 hl0 rfl rfl rfl (by decide +kernel) hC ?_
          show F S D5 31 [some (.ref l0), none, some (.int l2), some (.int l3)] [.int v5]
          refine ev_blk hX lkok_RX4 [(.pop, 1, 0, 0, 0), (.iconst (-1), 1, 0, 0, (-1))] (by decide +kernel) (g := true) (lv' := [some (.ref l0), none, some (.int l2), some (.int l3)]) (st' := [.int (-1 : Int32)]) (D' := D5) (pc' := 33) rfl (rfl) rfl ?_
          exact ev_iret hR ev_sm.rf (Option.some.inj hf) hC (by decide +kernel)
set_option maxHeartbeats 4000000 in
set_option maxRecDepth 100000 in
theorem tX4_takeNots {S : ev_S} {fu : Nat} {r : Int32 × ev_D} {F : ev_Fr} (hR : ev_R RX4 cX4_takeNots 4 1 0 0 false (some .int) S r F) (hT : ev_Ty S) (hC : sC S ≤ 0 ∧ sA S ≤ 0) {l0 : Nat} {l1 : Int32} {D : ev_D} (hl0 : sK S l0 = 7) (hf : fX4_takeNots (sL S) (sE S) fu l0 l1 D = some r) : F S D 0 [some (.ref l0), some (.int l1), none, none] [] := by
  have hX := hR.X
  unfold fX4_takeNots at hf
  refine ev_blk hX lkok_RX4 [(.iconst 0, 1, 0, 0, 0), (.istore_n 2, 1, 0, 0, 0), (.iload_n 1, 1, 0, 0, 0), (.istore_n 3, 1, 0, 0, 0)] (by decide +kernel) (g := true) (lv' := [some (.ref l0), some (.int l1), some (.int (0 : Int32)), some (.int l1)]) (st' := []) (D' := D) (pc' := 4) rfl (rfl) rfl ?_
  exact ev_weak hX (ev_le_eq (ev_le_no (ev_le_eq (ev_le_eq ev_le_nil)))) (tX4_takeNots_4 hR hT hC  fu _ _ _ _ hl0 hf)
theorem mX4_takeNots {S : ev_S} {fu : Nat} {r : Int32 × ev_D} (hT : ev_Ty S) {l0 : Nat} {l1 : Int32} {D : ev_D} (hl0 : sK S l0 = 7) (hf : fX4_takeNots (sL S) (sE S) fu l0 l1 D = some r) : ev_M 1 0 0 yX4_takeNots cX4_takeNots 4 (some .int) [.ref l0, .int l1] S D S r :=
  ev_met (ini := false) (plainFor_of_name (by decide)) (fun h => by cases h) rfl (Nat.le_of_ble_eq_true rfl) (fun F hR => tX4_takeNots (S := ev_z S) hR hT ⟨Nat.le_refl 0, Nat.le_refl 0⟩ hl0 hf)
set_option maxHeartbeats 4000000 in
set_option maxRecDepth 100000 in
theorem tX4_take {S : ev_S} {fu : Nat} {r : Int32 × ev_D} {F : ev_Fr} (hR : ev_R RX4 cX4_take 2 1 0 0 false (some .boolean) S r F) (hT : ev_Ty S) (hC : sC S ≤ 0 ∧ sA S ≤ 0) {l0 : Nat} {l1 : Int32} {D : ev_D} (hl0 : sK S l0 = 7) (hf : fX4_take (sL S) (sE S) fu l0 l1 D = some r) : F S D 0 [some (.ref l0), some (.int l1)] [] := by
  have hX := hR.X
  unfold fX4_take at hf
  refine ev_blk hX lkok_RX4 [(.aload_n 0, 1, 0, 0, 0)] (by decide +kernel) (g := true) (lv' := [some (.ref l0), some (.int l1)]) (st' := [.ref l0]) (D' := D) (pc' := 1) rfl (rfl) rfl ?_
  obtain ⟨v1, D1, hc1, hf⟩ := ev_bd_s hf
  refine ev_callV hX YX4_kind ml_RX4_63 (mX4_kind hT hl0 hc1) (vs := []) (st := []) (by decide) 4 hl0 rfl rfl rfl (by decide +kernel) hC ?_
  show F S D1 4 [some (.ref l0), some (.int l1)] [.int v1]
  refine ev_blk hX lkok_RX4 [(.iload_n 1, 1, 0, 0, 0)] (by decide +kernel) (g := true) (lv' := [some (.ref l0), some (.int l1)]) (st' := [.int l1, .int v1]) (D' := D1) (pc' := 5) rfl (rfl) rfl ?_
  refine ev_ic_eq hX (off := 9) 14 (by decide +kernel) (by decide) (fun h2 => ?_) (fun h2 => ?_)
  · have hf := ev_it h2 hf
    refine ev_blk hX lkok_RX4 [(.aload_n 0, 1, 0, 0, 0), (.dup, 1, 0, 0, 0), (.getfield 44, 3, 4, 9, 0), (.iconst 1, 1, 0, 0, 1), (.iadd, 1, 0, 0, 0), (.putfield 44, 3, 4, 9, 0), (.iconst 1, 1, 0, 0, 1)] (by decide +kernel) (g := (sK S l0 == 7) && ((sK S l0 == 7) && (true))) (lv' := [some (.ref l0), some (.int l1)]) (st' := [.int (1 : Int32)]) (D' := (ev_up D1 l0 9 ((D1 l0 9) + (1 : Int32)))) (pc' := 25) rfl (ev_gk hl0 (ev_gk hl0 (rfl))) rfl ?_
    exact ev_zret hR ev_sm.rf (Or.inr rfl) (Option.some.inj hf) hC (by decide +kernel)
  · have hf := ev_nf h2 hf
    refine ev_blk hX lkok_RX4 [(.aload_n 0, 1, 0, 0, 0), (.iconst 1, 1, 0, 0, 1)] (by decide +kernel) (g := true) (lv' := [some (.ref l0), some (.int l1)]) (st' := [.int (1 : Int32), .ref l0]) (D' := D1) (pc' := 10) rfl (rfl) rfl ?_
    obtain ⟨v3, D3, hc3, hf⟩ := ev_bd_s hf
    refine ev_callV hX YX4_refuse ml_RX4_71 (mX4_refuse hT hl0 hc3) (vs := [.int (1 : Int32)]) (st := []) (by decide) 4 hl0 rfl rfl rfl (by decide +kernel) hC ?_
    show F S D3 13 [some (.ref l0), some (.int l1)] [.int v3]
    obtain ⟨hz, hf⟩ := ev_gd_s hf
    exact ev_zret hR ev_sm.rf (ev_z01 hz) (Option.some.inj hf) hC (by decide +kernel)
theorem mX4_take {S : ev_S} {fu : Nat} {r : Int32 × ev_D} (hT : ev_Ty S) {l0 : Nat} {l1 : Int32} {D : ev_D} (hl0 : sK S l0 = 7) (hf : fX4_take (sL S) (sE S) fu l0 l1 D = some r) : ev_M 1 0 0 yX4_take cX4_take 2 (some .boolean) [.ref l0, .int l1] S D S r :=
  ev_met (ini := false) (plainFor_of_name (by decide)) (fun h => by cases h) rfl (Nat.le_of_ble_eq_true rfl) (fun F hR => tX4_take (S := ev_z S) hR hT ⟨Nat.le_refl 0, Nat.le_refl 0⟩ hl0 hf)
set_option maxHeartbeats 4000000 in
set_option maxRecDepth 100000 in
theorem tX4_readRope {S : ev_S} {fu : Nat} {r : Int32 × ev_D} {F : ev_Fr} (hR : ev_R RX4 cX4_readRope 2 2 0 0 false (some .boolean) S r F) (hT : ev_Ty S) (hC : sC S ≤ 0 ∧ sA S ≤ 0) {l0 : Nat} {D : ev_D} (hl0 : sK S l0 = 7) (hf : fX4_readRope (sL S) (sE S) fu l0 D = some r) : F S D 0 [some (.ref l0), none] [] := by
  have hX := hR.X
  unfold fX4_readRope at hf
  refine ev_blk hX lkok_RX4 [(.aload_n 0, 1, 0, 0, 0), (.dup, 1, 0, 0, 0), (.getfield 44, 3, 4, 9, 0), (.iconst 1, 1, 0, 0, 1), (.iadd, 1, 0, 0, 0), (.putfield 44, 3, 4, 9, 0), (.aload_n 0, 1, 0, 0, 0), (.aload_n 0, 1, 0, 0, 0), (.getfield 50, 3, 4, 11, 0), (.iconst 1, 1, 0, 0, 1), (.isub, 1, 0, 0, 0), (.iconst 0, 1, 0, 0, 0)] (by decide +kernel) (g := (sK S l0 == 7) && ((sK S l0 == 7) && ((sK S l0 == 7) && (true)))) (lv' := [some (.ref l0), none]) (st' := [.int (0 : Int32), .int (((ev_up D l0 9 ((D l0 9) + (1 : Int32))) l0 11) - (1 : Int32)), .ref l0]) (D' := (ev_up D l0 9 ((D l0 9) + (1 : Int32)))) (pc' := 18) rfl (ev_gk hl0 (ev_gk hl0 (ev_gk hl0 (rfl)))) rfl ?_
  obtain ⟨v1, D1, hc1, hf⟩ := ev_bd_s hf
  refine ev_callV hX YX4_takeNumber ml_RX4_160 (mX4_takeNumber hT hl0 hc1) (vs := [.int (((ev_up D l0 9 ((D l0 9) + (1 : Int32))) l0 11) - (1 : Int32)), .int (0 : Int32)]) (st := []) (by decide) 4 hl0 rfl rfl rfl (by decide +kernel) hC ?_
  show F S D1 21 [some (.ref l0), none] [.int v1]
  refine ev_if_ne hX (off := 5) 26 (by decide +kernel) (by decide) (fun h2 => ?_) (fun h2 => ?_)
  · have hf := ev_nf h2 hf
    refine ev_blk hX lkok_RX4 [(.aload_n 0, 1, 0, 0, 0), (.getfield 47, 3, 4, 10, 0), (.istore_n 1, 1, 0, 0, 0), (.aload_n 0, 1, 0, 0, 0), (.sipush 275, 3, 0, 0, 275)] (by decide +kernel) (g := (sK S l0 == 7) && (true)) (lv' := [some (.ref l0), some (.int (D1 l0 10))]) (st' := [.int (275 : Int32), .ref l0]) (D' := D1) (pc' := 35) rfl (ev_gk hl0 (rfl)) rfl ?_
    obtain ⟨v3, D3, hc3, hf⟩ := ev_bd_s hf
    refine ev_callV hX YX4_take ml_RX4_87 (mX4_take hT hl0 hc3) (vs := [.int (275 : Int32)]) (st := []) (by decide) 4 hl0 rfl rfl rfl (by decide +kernel) hC ?_
    show F S D3 38 [some (.ref l0), some (.int (D1 l0 10))] [.int v3]
    refine ev_if_eq hX (off := 19) 57 (by decide +kernel) (by decide) (fun h4 => ?_) (fun h4 => ?_)
    · have hf := ev_it h4 hf
      refine ev_blk hX lkok_RX4 [(.iconst 0, 1, 0, 0, 0)] (by decide +kernel) (g := true) (lv' := [some (.ref l0), some (.int (D1 l0 10))]) (st' := [.int (0 : Int32)]) (D' := D3) (pc' := 58) rfl (rfl) rfl ?_
      exact ev_zret hR ev_sm.rf (Or.inl rfl) (Option.some.inj hf) hC (by decide +kernel)
    · have hf := ev_nf h4 hf
      refine ev_blk hX lkok_RX4 [(.aload_n 0, 1, 0, 0, 0), (.aload_n 0, 1, 0, 0, 0), (.getfield 50, 3, 4, 11, 0), (.iconst 1, 1, 0, 0, 1), (.isub, 1, 0, 0, 0), (.iconst 1, 1, 0, 0, 1), (.iload_n 1, 1, 0, 0, 0), (.ishl, 1, 0, 0, 0)] (by decide +kernel) (g := (sK S l0 == 7) && (true)) (lv' := [some (.ref l0), some (.int (D1 l0 10))]) (st' := [.int ((1 : Int32) <<< ((D1 l0 10) &&& 31)), .int ((D3 l0 11) - (1 : Int32)), .ref l0]) (D' := D3) (pc' := 51) rfl (ev_gk hl0 (rfl)) rfl ?_
      obtain ⟨v5, D5, hc5, hf⟩ := ev_bd_s hf
      refine ev_callV hX YX4_takeNumber ml_RX4_160 (mX4_takeNumber hT hl0 hc5) (vs := [.int ((D3 l0 11) - (1 : Int32)), .int ((1 : Int32) <<< ((D1 l0 10) &&& 31))]) (st := []) (by decide) 4 hl0 rfl rfl rfl (by decide +kernel) hC ?_
      show F S D5 54 [some (.ref l0), some (.int (D1 l0 10))] [.int v5]
      refine ev_if_ne hX (off := 5) 59 (by decide +kernel) (by decide) (fun h6 => ?_) (fun h6 => ?_)
      · have hf := ev_nf h6 hf
        refine ev_blk hX lkok_RX4 [(.aload_n 0, 1, 0, 0, 0), (.getfield 14, 3, 4, 0, 0), (.getfield 99, 3, 7, 1, 0), (.iload_n 1, 1, 0, 0, 0), (.aload_n 0, 1, 0, 0, 0), (.getfield 47, 3, 4, 10, 0), (.iconst 0, 1, 0, 0, 0)] (by decide +kernel) (g := (sK S l0 == 7) && ((sK S ((sE S) l0 0) == 10) && ((sK S l0 == 7) && (true)))) (lv' := [some (.ref l0), some (.int (D1 l0 10))]) (st' := [.int (0 : Int32), .int (D5 l0 10), .int (D1 l0 10), .ref ((sE S) ((sE S) l0 0) 1)]) (D' := D5) (pc' := 72) rfl (ev_gk hl0 (ev_gk (ev_tyk hT hl0 rfl rfl) (ev_gk hl0 (rfl)))) rfl ?_
        obtain ⟨v7, D7, hc7, hf⟩ := ev_bd_s hf
        refine ev_callV hX YX6_add ml_RX4_163 (mX6_add hT (ev_tyk hT (ev_tyk hT hl0 rfl rfl) rfl rfl) hc7) (vs := [.int (D1 l0 10), .int (D5 l0 10), .int (0 : Int32)]) (st := []) (by decide) 6 (ev_tyk hT (ev_tyk hT hl0 rfl rfl) rfl rfl) rfl rfl rfl (by decide +kernel) hC ?_
        show F S D7 75 [some (.ref l0), some (.int (D1 l0 10))] [.int v7]
        refine ev_blk hX lkok_RX4 [(.pop, 1, 0, 0, 0), (.iconst 1, 1, 0, 0, 1)] (by decide +kernel) (g := true) (lv' := [some (.ref l0), some (.int (D1 l0 10))]) (st' := [.int (1 : Int32)]) (D' := D7) (pc' := 77) rfl (rfl) rfl ?_
        exact ev_zret hR ev_sm.rf (Or.inr rfl) (Option.some.inj hf) hC (by decide +kernel)
      · have hf := ev_it h6 hf
        refine ev_blk hX lkok_RX4 [(.iconst 0, 1, 0, 0, 0)] (by decide +kernel) (g := true) (lv' := [some (.ref l0), some (.int (D1 l0 10))]) (st' := [.int (0 : Int32)]) (D' := D5) (pc' := 58) rfl (rfl) rfl ?_
        exact ev_zret hR ev_sm.rf (Or.inl rfl) (Option.some.inj hf) hC (by decide +kernel)
  · have hf := ev_it h2 hf
    refine ev_blk hX lkok_RX4 [(.iconst 0, 1, 0, 0, 0)] (by decide +kernel) (g := true) (lv' := [some (.ref l0), none]) (st' := [.int (0 : Int32)]) (D' := D1) (pc' := 25) rfl (rfl) rfl ?_
    exact ev_zret hR ev_sm.rf (Or.inl rfl) (Option.some.inj hf) hC (by decide +kernel)
theorem mX4_readRope {S : ev_S} {fu : Nat} {r : Int32 × ev_D} (hT : ev_Ty S) {l0 : Nat} {D : ev_D} (hl0 : sK S l0 = 7) (hf : fX4_readRope (sL S) (sE S) fu l0 D = some r) : ev_M 2 0 0 yX4_readRope cX4_readRope 2 (some .boolean) [.ref l0] S D S r :=
  ev_met (ini := false) (plainFor_of_name (by decide)) (fun h => by cases h) rfl (Nat.le_of_ble_eq_true rfl) (fun F hR => tX4_readRope (S := ev_z S) hR hT ⟨Nat.le_refl 0, Nat.le_refl 0⟩ hl0 hf)
