set_option maxHeartbeats 4000000 in
set_option maxRecDepth 100000 in
theorem tX12_image_73 {S : ev_S} {fu : Nat} {r : Int32 × ev_D} {F : ev_Fr} (hR : ev_R RX12 cX12_image 3 2 0 0 false (some .boolean) S r F) (hT : ev_Ty S) (hC : sC S ≤ 0 ∧ sA S ≤ 0) : ∀ (n : Nat) (l0 : Nat) (l1 : Int32) (l2 : Int32) (D : ev_D), sK S l0 = 15 → fX12_image_73 (sL S) (sE S) fu n l0 l1 l2 D = some r → F S D 73 [some (.ref l0), some (.int l1), some (.int l2)] [] := by
  have hX := hR.X
  intro n
  induction n with
  | zero =>
    intro l0 l1 l2 D hl0 hf
    rw [fX12_image_73] at hf
    cases hf
  | succ n ih =>
    intro l0 l1 l2 D hl0 hf
    rw [fX12_image_73] at hf
    refine ev_blk hX lkok_RX12 [(.iload_n 2, 1, 0, 0, 0), (.sipush 600, 3, 0, 0, 600)] (by decide +kernel) (g := true) (lv' := [some (.ref l0), some (.int l1), some (.int l2)]) (st' := [.int (600 : Int32), .int l2]) (D' := D) (pc' := 77) rfl (rfl) rfl ?_
    refine ev_ic_ge hX (off := 25) 102 (by decide +kernel) (by decide) (fun h1 => ?_) (fun h1 => ?_)
    · have hf := ev_it h1 hf
      refine ev_blk hX lkok_RX12 [(.aload_n 0, 1, 0, 0, 0)] (by decide +kernel) (g := true) (lv' := [some (.ref l0), some (.int l1), some (.int l2)]) (st' := [.ref l0]) (D' := D) (pc' := 103) rfl (rfl) rfl ?_
      obtain ⟨v2, D2, hc2, hf⟩ := ev_bd_s hf
      refine ev_callV hX YX12_keepsLaw ml_RX12_489 (mX12_keepsLaw hT hl0 hc2) (vs := []) (st := []) (by decide) 12 hl0 rfl rfl rfl (by decide +kernel) hC ?_
      show F S D2 106 [some (.ref l0), some (.int l1), some (.int l2)] []
      refine ev_blk hX lkok_RX12 [(.iload_n 1, 1, 0, 0, 0)] (by decide +kernel) (g := true) (lv' := [some (.ref l0), some (.int l1), some (.int l2)]) (st' := [.int l1]) (D' := D2) (pc' := 107) rfl (rfl) rfl ?_
      refine ev_if_ne hX (off := 8) 115 (by decide +kernel) (by decide) (fun h3 => ?_) (fun h3 => ?_)
      · have hf := ev_nf h3 hf
        refine ev_blk hX lkok_RX12 [(.iconst 1, 1, 0, 0, 1)] (by decide +kernel) (g := true) (lv' := [some (.ref l0), some (.int l1), some (.int l2)]) (st' := [.int (1 : Int32)]) (D' := D2) (pc' := 116) rfl (rfl) rfl ?_
        exact ev_zret hR ev_sm.rf (Or.inr rfl) (Option.some.inj hf) hC (by decide +kernel)
      · have hf := ev_it h3 hf
        refine ev_blk hX lkok_RX12 [(.aload_n 0, 1, 0, 0, 0), (.iconst 0, 1, 0, 0, 0), (.putfield 131, 3, 12, 3, 0), (.iconst 1, 1, 0, 0, 1)] (by decide +kernel) (g := (sK S l0 == 15) && (true)) (lv' := [some (.ref l0), some (.int l1), some (.int l2)]) (st' := [.int (1 : Int32)]) (D' := (ev_up D2 l0 3 (0 : Int32))) (pc' := 116) rfl (ev_gk hl0 (rfl)) rfl ?_
        exact ev_zret hR ev_sm.rf (Or.inr rfl) (Option.some.inj hf) hC (by decide +kernel)
    · have hf := ev_nf h1 hf
      obtain ⟨hg6, hf⟩ := ev_gd_s hf
      refine ev_blk hX lkok_RX12 [(.aload_n 0, 1, 0, 0, 0), (.getfield 31, 3, 12, 11, 0), (.iload_n 2, 1, 0, 0, 0), (.aload_n 0, 1, 0, 0, 0), (.aload_n 0, 1, 0, 0, 0), (.getfield 31, 3, 12, 11, 0), (.iload_n 2, 1, 0, 0, 0), (.iaload, 1, 0, 0, 0)] (by decide +kernel) (g := (sK S l0 == 15) && ((sK S l0 == 15) && ((sK S ((sE S) l0 11) == 1 && ev_in l2 ((sL S) ((sE S) l0 11))) && (true)))) (lv' := [some (.ref l0), some (.int l1), some (.int l2)]) (st' := [.int (D ((sE S) l0 11) (l2).toNatClampNeg), .ref l0, .int l2, .ref ((sE S) l0 11)]) (D' := D) (pc' := 92) rfl (ev_gk hl0 (ev_gk hl0 (ev_gi (ev_tyk hT hl0 rfl rfl) hg6 (rfl)))) rfl ?_
      obtain ⟨v4, D4, hc4, hf⟩ := ev_bd_s hf
      refine ev_callV hX YX12_keeps ml_RX12_477 (mX12_keeps hT hl0 hc4) (vs := [.int (D ((sE S) l0 11) (l2).toNatClampNeg)]) (st := [.int l2, .ref ((sE S) l0 11)]) (by decide) 12 hl0 rfl rfl rfl (by decide +kernel) hC ?_
      show F S D4 95 [some (.ref l0), some (.int l1), some (.int l2)] [.int v4, .int l2, .ref ((sE S) l0 11)]
      obtain ⟨hg5, hf⟩ := ev_gd_s hf
      refine ev_blk hX lkok_RX12 [(.iastore, 1, 0, 0, 0), (.iinc 2 1, 3, 0, 0, 1)] (by decide +kernel) (g := (sK S ((sE S) l0 11) == 1 && ev_in l2 ((sL S) ((sE S) l0 11))) && (true)) (lv' := [some (.ref l0), some (.int l1), some (.int (l2 + (1 : Int32)))]) (st' := []) (D' := (ev_up D4 ((sE S) l0 11) (l2).toNatClampNeg v4)) (pc' := 99) rfl (ev_gi (ev_tyk hT hl0 rfl rfl) hg5 (rfl)) rfl ?_
      refine ev_goto hX (off := (-26)) 73 (by decide +kernel) (by decide) ?_
      exact ev_weak hX (ev_le_eq (ev_le_eq (ev_le_eq ev_le_nil))) (ih _ _ _ _ hl0 hf)
set_option maxHeartbeats 4000000 in
set_option maxRecDepth 100000 in
theorem tX12_image_35 {S : ev_S} {fu : Nat} {r : Int32 × ev_D} {F : ev_Fr} (hR : ev_R RX12 cX12_image 3 2 0 0 false (some .boolean) S r F) (hT : ev_Ty S) (hC : sC S ≤ 0 ∧ sA S ≤ 0) : ∀ (n : Nat) (l0 : Nat) (l1 : Int32) (l2 : Int32) (D : ev_D), sK S l0 = 15 → fX12_image_35 (sL S) (sE S) fu n l0 l1 l2 D = some r → F S D 35 [some (.ref l0), some (.int l1), some (.int l2)] [] := by
  have hX := hR.X
  intro n
  induction n with
  | zero =>
    intro l0 l1 l2 D hl0 hf
    rw [fX12_image_35] at hf
    cases hf
  | succ n ih =>
    intro l0 l1 l2 D hl0 hf
    rw [fX12_image_35] at hf
    refine ev_blk hX lkok_RX12 [(.iload_n 2, 1, 0, 0, 0), (.bipush 44, 2, 0, 0, 44)] (by decide +kernel) (g := true) (lv' := [some (.ref l0), some (.int l1), some (.int l2)]) (st' := [.int (44 : Int32), .int l2]) (D' := D) (pc' := 38) rfl (rfl) rfl ?_
    refine ev_ic_ge hX (off := 25) 63 (by decide +kernel) (by decide) (fun h7 => ?_) (fun h7 => ?_)
    · have hf := ev_it h7 hf
      refine ev_blk hX lkok_RX12 [(.aload_n 0, 1, 0, 0, 0)] (by decide +kernel) (g := true) (lv' := [some (.ref l0), some (.int l1), some (.int l2)]) (st' := [.ref l0]) (D' := D) (pc' := 64) rfl (rfl) rfl ?_
      obtain ⟨v8, D8, hc8, hf⟩ := ev_bd_s hf
      refine ev_callV hX YX12_keepsMany ml_RX12_483 (mX12_keepsMany hT hl0 hc8) (vs := []) (st := []) (by decide) 12 hl0 rfl rfl rfl (by decide +kernel) hC ?_
      show F S D8 67 [some (.ref l0), some (.int l1), some (.int l2)] []
      refine ev_blk hX lkok_RX12 [(.aload_n 0, 1, 0, 0, 0)] (by decide +kernel) (g := true) (lv' := [some (.ref l0), some (.int l1), some (.int l2)]) (st' := [.ref l0]) (D' := D8) (pc' := 68) rfl (rfl) rfl ?_
      obtain ⟨v9, D9, hc9, hf⟩ := ev_bd_s hf
      refine ev_callV hX YX12_keepsTold ml_RX12_486 (mX12_keepsTold hT hl0 hc9) (vs := []) (st := []) (by decide) 12 hl0 rfl rfl rfl (by decide +kernel) hC ?_
      show F S D9 71 [some (.ref l0), some (.int l1), some (.int l2)] []
      refine ev_blk hX lkok_RX12 [(.iconst 0, 1, 0, 0, 0), (.istore_n 2, 1, 0, 0, 0)] (by decide +kernel) (g := true) (lv' := [some (.ref l0), some (.int l1), some (.int (0 : Int32))]) (st' := []) (D' := D9) (pc' := 73) rfl (rfl) rfl ?_
      exact ev_weak hX (ev_le_eq (ev_le_eq (ev_le_eq ev_le_nil))) (tX12_image_73 hR hT hC   fu _ _ _ _ hl0 hf)
    · have hf := ev_nf h7 hf
      obtain ⟨hg12, hf⟩ := ev_gd_s hf
      refine ev_blk hX lkok_RX12 [(.aload_n 0, 1, 0, 0, 0), (.getfield 7, 3, 12, 1, 0), (.iload_n 2, 1, 0, 0, 0), (.aload_n 0, 1, 0, 0, 0), (.aload_n 0, 1, 0, 0, 0), (.getfield 7, 3, 12, 1, 0), (.iload_n 2, 1, 0, 0, 0), (.iaload, 1, 0, 0, 0)] (by decide +kernel) (g := (sK S l0 == 15) && ((sK S l0 == 15) && ((sK S ((sE S) l0 1) == 1 && ev_in l2 ((sL S) ((sE S) l0 1))) && (true)))) (lv' := [some (.ref l0), some (.int l1), some (.int l2)]) (st' := [.int (D ((sE S) l0 1) (l2).toNatClampNeg), .ref l0, .int l2, .ref ((sE S) l0 1)]) (D' := D) (pc' := 53) rfl (ev_gk hl0 (ev_gk hl0 (ev_gi (ev_tyk hT hl0 rfl rfl) hg12 (rfl)))) rfl ?_
      obtain ⟨v10, D10, hc10, hf⟩ := ev_bd_s hf
      refine ev_callV hX YX12_keeps ml_RX12_477 (mX12_keeps hT hl0 hc10) (vs := [.int (D ((sE S) l0 1) (l2).toNatClampNeg)]) (st := [.int l2, .ref ((sE S) l0 1)]) (by decide) 12 hl0 rfl rfl rfl (by decide +kernel) hC ?_
      show F S D10 56 [some (.ref l0), some (.int l1), some (.int l2)] [.int v10, .int l2, .ref ((sE S) l0 1)]
      obtain ⟨hg11, hf⟩ := ev_gd_s hf
      refine ev_blk hX lkok_RX12 [(.iastore, 1, 0, 0, 0), (.iinc 2 1, 3, 0, 0, 1)] (by decide +kernel) (g := (sK S ((sE S) l0 1) == 1 && ev_in l2 ((sL S) ((sE S) l0 1))) && (true)) (lv' := [some (.ref l0), some (.int l1), some (.int (l2 + (1 : Int32)))]) (st' := []) (D' := (ev_up D10 ((sE S) l0 1) (l2).toNatClampNeg v10)) (pc' := 60) rfl (ev_gi (ev_tyk hT hl0 rfl rfl) hg11 (rfl)) rfl ?_
      refine ev_goto hX (off := (-25)) 35 (by decide +kernel) (by decide) ?_
      exact ev_weak hX (ev_le_eq (ev_le_eq (ev_le_eq ev_le_nil))) (ih _ _ _ _ hl0 hf)
set_option maxHeartbeats 4000000 in
set_option maxRecDepth 100000 in
theorem tX12_image_18 {S : ev_S} {fu : Nat} {r : Int32 × ev_D} {F : ev_Fr} (hR : ev_R RX12 cX12_image 3 2 0 0 false (some .boolean) S r F) (hT : ev_Ty S) (hC : sC S ≤ 0 ∧ sA S ≤ 0) {l0 : Nat} {l1 : Int32} {D : ev_D} (hl0 : sK S l0 = 15) (hf : fX12_image_18 (sL S) (sE S) fu l0 l1 D = some r) : F S D 18 [some (.ref l0), some (.int l1), none] [] := by
  have hX := hR.X
  unfold fX12_image_18 at hf
  obtain ⟨hg13, hf⟩ := ev_gd_s hf
  refine ev_blk hX lkok_RX12 [(.aload_n 0, 1, 0, 0, 0), (.iload_n 1, 1, 0, 0, 0), (.putfield 474, 3, 12, 63, 0), (.aload_n 0, 1, 0, 0, 0), (.iconst 1, 1, 0, 0, 1), (.putfield 480, 3, 12, 64, 0), (.aload_n 0, 1, 0, 0, 0), (.iconst 0, 1, 0, 0, 0), (.putfield 471, 3, 12, 65, 0), (.iconst 0, 1, 0, 0, 0), (.istore_n 2, 1, 0, 0, 0)] (by decide +kernel) (g := (sK S l0 == 15 && (l1 == 0 || l1 == 1)) && ((sK S l0 == 15 && ((1 : Int32) == 0 || (1 : Int32) == 1)) && ((sK S l0 == 15) && (true)))) (lv' := [some (.ref l0), some (.int l1), some (.int (0 : Int32))]) (st' := []) (D' := (ev_up (ev_up (ev_up D l0 63 l1) l0 64 (1 : Int32)) l0 65 (0 : Int32))) (pc' := 35) rfl (ev_gz hl0 hg13 (ev_gz hl0 rfl (ev_gk hl0 (rfl)))) rfl ?_
  exact ev_weak hX (ev_le_eq (ev_le_eq (ev_le_eq ev_le_nil))) (tX12_image_35 hR hT hC   fu _ _ _ _ hl0 hf)
set_option maxHeartbeats 4000000 in
set_option maxRecDepth 100000 in
theorem tX12_image {S : ev_S} {fu : Nat} {r : Int32 × ev_D} {F : ev_Fr} (hR : ev_R RX12 cX12_image 3 2 0 0 false (some .boolean) S r F) (hT : ev_Ty S) (hC : sC S ≤ 0 ∧ sA S ≤ 0) {l0 : Nat} {l1 : Int32} {D : ev_D} (hl0 : sK S l0 = 15) (hf : fX12_image (sL S) (sE S) fu l0 l1 D = some r) : F S D 0 [some (.ref l0), some (.int l1), none] [] := by
  have hX := hR.X
  unfold fX12_image at hf
  refine ev_blk hX lkok_RX12 [(.aload_n 0, 1, 0, 0, 0), (.iconst 0, 1, 0, 0, 0), (.putfield 128, 3, 12, 0, 0), (.iload_n 1, 1, 0, 0, 0)] (by decide +kernel) (g := (sK S l0 == 15) && (true)) (lv' := [some (.ref l0), some (.int l1), none]) (st' := [.int l1]) (D' := (ev_up D l0 0 (0 : Int32))) (pc' := 6) rfl (ev_gk hl0 (rfl)) rfl ?_
  refine ev_if_ne hX (off := 12) 18 (by decide +kernel) (by decide) (fun h14 => ?_) (fun h14 => ?_)
  · have hf := ev_nf h14 hf
    exact ev_weak hX (ev_le_eq (ev_le_eq (ev_le_no ev_le_nil))) (tX12_image_18 hR hT hC   hl0 hf)
  · have hf := ev_it h14 hf
    refine ev_blk hX lkok_RX12 [(.aload_n 0, 1, 0, 0, 0), (.getfield 480, 3, 12, 64, 0)] (by decide +kernel) (g := (sK S l0 == 15) && (true)) (lv' := [some (.ref l0), some (.int l1), none]) (st' := [.int ((ev_up D l0 0 (0 : Int32)) l0 64)]) (D' := (ev_up D l0 0 (0 : Int32))) (pc' := 13) rfl (ev_gk hl0 (rfl)) rfl ?_
    refine ev_if_ne hX (off := 5) 18 (by decide +kernel) (by decide) (fun h15 => ?_) (fun h15 => ?_)
    · have hf := ev_nf h15 hf
      exact ev_weak hX (ev_le_eq (ev_le_eq (ev_le_no ev_le_nil))) (tX12_image_18 hR hT hC   hl0 hf)
    · have hf := ev_it h15 hf
      refine ev_blk hX lkok_RX12 [(.iconst 0, 1, 0, 0, 0)] (by decide +kernel) (g := true) (lv' := [some (.ref l0), some (.int l1), none]) (st' := [.int (0 : Int32)]) (D' := (ev_up D l0 0 (0 : Int32))) (pc' := 17) rfl (rfl) rfl ?_
      exact ev_zret hR ev_sm.rf (Or.inl rfl) (Option.some.inj hf) hC (by decide +kernel)
theorem mX12_image {S : ev_S} {fu : Nat} {r : Int32 × ev_D} (hT : ev_Ty S) {l0 : Nat} {l1 : Int32} {D : ev_D} (hl0 : sK S l0 = 15) (hf : fX12_image (sL S) (sE S) fu l0 l1 D = some r) : ev_M 2 0 0 yX12_image cX12_image 3 (some .boolean) [.ref l0, .int l1] S D S r :=
  ev_met (ini := false) (plainFor_of_name (by decide)) (fun h => by cases h) rfl (Nat.le_of_ble_eq_true rfl) (fun F hR => tX12_image (S := ev_z S) hR hT ⟨Nat.le_refl 0, Nat.le_refl 0⟩ hl0 hf)
set_option maxHeartbeats 4000000 in
set_option maxRecDepth 100000 in
theorem tX12_look {S : ev_S} {fu : Nat} {r : Int32 × ev_D} {F : ev_Fr} (hR : ev_R RX12 cX12_look 2 2 0 0 false (some .int) S r F) (hT : ev_Ty S) (hC : sC S ≤ 0 ∧ sA S ≤ 0) {l0 : Nat} {l1 : Int32} {D : ev_D} (hl0 : sK S l0 = 15) (hf : fX12_look (sL S) (sE S) fu l0 l1 D = some r) : F S D 0 [some (.ref l0), some (.int l1)] [] := by
  have hX := hR.X
  unfold fX12_look at hf
  refine ev_blk hX lkok_RX12 [(.aload_n 0, 1, 0, 0, 0), (.iconst 0, 1, 0, 0, 0), (.putfield 128, 3, 12, 0, 0), (.iload_n 1, 1, 0, 0, 0)] (by decide +kernel) (g := (sK S l0 == 15) && (true)) (lv' := [some (.ref l0), some (.int l1)]) (st' := [.int l1]) (D' := (ev_up D l0 0 (0 : Int32))) (pc' := 6) rfl (ev_gk hl0 (rfl)) rfl ?_
  refine ev_if_ne hX (off := 8) 14 (by decide +kernel) (by decide) (fun h1 => ?_) (fun h1 => ?_)
  · have hf := ev_nf h1 hf
    refine ev_blk hX lkok_RX12 [(.iload_n 1, 1, 0, 0, 0), (.iconst 1, 1, 0, 0, 1)] (by decide +kernel) (g := true) (lv' := [some (.ref l0), some (.int l1)]) (st' := [.int (1 : Int32), .int l1]) (D' := (ev_up D l0 0 (0 : Int32))) (pc' := 16) rfl (rfl) rfl ?_
    refine ev_ic_ne hX (off := 10) 26 (by decide +kernel) (by decide) (fun h2 => ?_) (fun h2 => ?_)
    · have hf := ev_nf h2 hf
      refine ev_blk hX lkok_RX12 [(.iload_n 1, 1, 0, 0, 0), (.iconst 2, 1, 0, 0, 2)] (by decide +kernel) (g := true) (lv' := [some (.ref l0), some (.int l1)]) (st' := [.int (2 : Int32), .int l1]) (D' := (ev_up D l0 0 (0 : Int32))) (pc' := 28) rfl (rfl) rfl ?_
      refine ev_ic_ne hX (off := 10) 38 (by decide +kernel) (by decide) (fun h3 => ?_) (fun h3 => ?_)
      · have hf := ev_nf h3 hf
        refine ev_blk hX lkok_RX12 [(.iload_n 1, 1, 0, 0, 0), (.iconst 3, 1, 0, 0, 3)] (by decide +kernel) (g := true) (lv' := [some (.ref l0), some (.int l1)]) (st' := [.int (3 : Int32), .int l1]) (D' := (ev_up D l0 0 (0 : Int32))) (pc' := 40) rfl (rfl) rfl ?_
        refine ev_ic_ne hX (off := 10) 50 (by decide +kernel) (by decide) (fun h4 => ?_) (fun h4 => ?_)
        · have hf := ev_nf h4 hf
          refine ev_blk hX lkok_RX12 [(.iload_n 1, 1, 0, 0, 0), (.iconst 4, 1, 0, 0, 4)] (by decide +kernel) (g := true) (lv' := [some (.ref l0), some (.int l1)]) (st' := [.int (4 : Int32), .int l1]) (D' := (ev_up D l0 0 (0 : Int32))) (pc' := 52) rfl (rfl) rfl ?_
          refine ev_ic_ne hX (off := 10) 62 (by decide +kernel) (by decide) (fun h5 => ?_) (fun h5 => ?_)
          · have hf := ev_nf h5 hf
            refine ev_blk hX lkok_RX12 [(.iload_n 1, 1, 0, 0, 0), (.iconst 5, 1, 0, 0, 5)] (by decide +kernel) (g := true) (lv' := [some (.ref l0), some (.int l1)]) (st' := [.int (5 : Int32), .int l1]) (D' := (ev_up D l0 0 (0 : Int32))) (pc' := 64) rfl (rfl) rfl ?_
            refine ev_ic_ne hX (off := 8) 72 (by decide +kernel) (by decide) (fun h6 => ?_) (fun h6 => ?_)
            · have hf := ev_nf h6 hf
              refine ev_blk hX lkok_RX12 [(.iload_n 1, 1, 0, 0, 0), (.bipush 6, 2, 0, 0, 6)] (by decide +kernel) (g := true) (lv' := [some (.ref l0), some (.int l1)]) (st' := [.int (6 : Int32), .int l1]) (D' := (ev_up D l0 0 (0 : Int32))) (pc' := 75) rfl (rfl) rfl ?_
              refine ev_ic_ne hX (off := 10) 85 (by decide +kernel) (by decide) (fun h7 => ?_) (fun h7 => ?_)
              · have hf := ev_nf h7 hf
                refine ev_blk hX lkok_RX12 [(.iload_n 1, 1, 0, 0, 0), (.bipush 7, 2, 0, 0, 7)] (by decide +kernel) (g := true) (lv' := [some (.ref l0), some (.int l1)]) (st' := [.int (7 : Int32), .int l1]) (D' := (ev_up D l0 0 (0 : Int32))) (pc' := 88) rfl (rfl) rfl ?_
                refine ev_ic_ne hX (off := 10) 98 (by decide +kernel) (by decide) (fun h8 => ?_) (fun h8 => ?_)
                · have hf := ev_nf h8 hf
                  refine ev_blk hX lkok_RX12 [(.iload_n 1, 1, 0, 0, 0), (.bipush 8, 2, 0, 0, 8)] (by decide +kernel) (g := true) (lv' := [some (.ref l0), some (.int l1)]) (st' := [.int (8 : Int32), .int l1]) (D' := (ev_up D l0 0 (0 : Int32))) (pc' := 101) rfl (rfl) rfl ?_
                  refine ev_ic_ne hX (off := 10) 111 (by decide +kernel) (by decide) (fun h9 => ?_) (fun h9 => ?_)
                  · have hf := ev_nf h9 hf
                    refine ev_blk hX lkok_RX12 [(.iload_n 1, 1, 0, 0, 0), (.bipush 9, 2, 0, 0, 9)] (by decide +kernel) (g := true) (lv' := [some (.ref l0), some (.int l1)]) (st' := [.int (9 : Int32), .int l1]) (D' := (ev_up D l0 0 (0 : Int32))) (pc' := 114) rfl (rfl) rfl ?_
                    refine ev_ic_ne hX (off := 8) 122 (by decide +kernel) (by decide) (fun h10 => ?_) (fun h10 => ?_)
                    · have hf := ev_nf h10 hf
                      refine ev_blk hX lkok_RX12 [(.iload_n 1, 1, 0, 0, 0), (.bipush 10, 2, 0, 0, 10)] (by decide +kernel) (g := true) (lv' := [some (.ref l0), some (.int l1)]) (st' := [.int (10 : Int32), .int l1]) (D' := (ev_up D l0 0 (0 : Int32))) (pc' := 125) rfl (rfl) rfl ?_
                      refine ev_ic_ne hX (off := 8) 133 (by decide +kernel) (by decide) (fun h11 => ?_) (fun h11 => ?_)
                      · have hf := ev_nf h11 hf
                        refine ev_blk hX lkok_RX12 [(.iload_n 1, 1, 0, 0, 0), (.bipush 11, 2, 0, 0, 11)] (by decide +kernel) (g := true) (lv' := [some (.ref l0), some (.int l1)]) (st' := [.int (11 : Int32), .int l1]) (D' := (ev_up D l0 0 (0 : Int32))) (pc' := 136) rfl (rfl) rfl ?_
                        refine ev_ic_ne hX (off := 8) 144 (by decide +kernel) (by decide) (fun h12 => ?_) (fun h12 => ?_)
                        · have hf := ev_nf h12 hf
                          refine ev_blk hX lkok_RX12 [(.iload_n 1, 1, 0, 0, 0), (.bipush 12, 2, 0, 0, 12)] (by decide +kernel) (g := true) (lv' := [some (.ref l0), some (.int l1)]) (st' := [.int (12 : Int32), .int l1]) (D' := (ev_up D l0 0 (0 : Int32))) (pc' := 147) rfl (rfl) rfl ?_
                          refine ev_ic_ne hX (off := 10) 157 (by decide +kernel) (by decide) (fun h13 => ?_) (fun h13 => ?_)
                          · have hf := ev_nf h13 hf
                            refine ev_blk hX lkok_RX12 [(.iconst (-1), 1, 0, 0, (-1))] (by decide +kernel) (g := true) (lv' := [some (.ref l0), some (.int l1)]) (st' := [.int (-1 : Int32)]) (D' := (ev_up D l0 0 (0 : Int32))) (pc' := 158) rfl (rfl) rfl ?_
                            exact ev_iret hR ev_sm.rf (Option.some.inj hf) hC (by decide +kernel)
                          · have hf := ev_it h13 hf
                            refine ev_blk hX lkok_RX12 [(.aload_n 0, 1, 0, 0, 0), (.getfield 131, 3, 12, 3, 0)] (by decide +kernel) (g := (sK S l0 == 15) && (true)) (lv' := [some (.ref l0), some (.int l1)]) (st' := [.int ((ev_up D l0 0 (0 : Int32)) l0 3)]) (D' := (ev_up D l0 0 (0 : Int32))) (pc' := 154) rfl (ev_gk hl0 (rfl)) rfl ?_
                            refine ev_goto hX (off := 4) 158 (by decide +kernel) (by decide) ?_
                            exact ev_iret hR ev_sm.rf (Option.some.inj hf) hC (by decide +kernel)
                        · have hf := ev_it h12 hf
                          refine ev_blk hX lkok_RX12 [(.aload_n 0, 1, 0, 0, 0), (.getfield 296, 3, 12, 39, 0)] (by decide +kernel) (g := (sK S l0 == 15) && (true)) (lv' := [some (.ref l0), some (.int l1)]) (st' := [.int ((ev_up D l0 0 (0 : Int32)) l0 39)]) (D' := (ev_up D l0 0 (0 : Int32))) (pc' := 143) rfl (ev_gk hl0 (rfl)) rfl ?_
                          exact ev_iret hR ev_sm.rf (Option.some.inj hf) hC (by decide +kernel)
                      · have hf := ev_it h11 hf
                        refine ev_blk hX lkok_RX12 [(.aload_n 0, 1, 0, 0, 0), (.getfield 293, 3, 12, 37, 0)] (by decide +kernel) (g := (sK S l0 == 15) && (true)) (lv' := [some (.ref l0), some (.int l1)]) (st' := [.int ((ev_up D l0 0 (0 : Int32)) l0 37)]) (D' := (ev_up D l0 0 (0 : Int32))) (pc' := 132) rfl (ev_gk hl0 (rfl)) rfl ?_
                        exact ev_iret hR ev_sm.rf (Option.some.inj hf) hC (by decide +kernel)
                    · have hf := ev_it h10 hf
                      refine ev_blk hX lkok_RX12 [(.aload_n 0, 1, 0, 0, 0), (.getfield 290, 3, 12, 35, 0)] (by decide +kernel) (g := (sK S l0 == 15) && (true)) (lv' := [some (.ref l0), some (.int l1)]) (st' := [.int ((ev_up D l0 0 (0 : Int32)) l0 35)]) (D' := (ev_up D l0 0 (0 : Int32))) (pc' := 121) rfl (ev_gk hl0 (rfl)) rfl ?_
                      exact ev_iret hR ev_sm.rf (Option.some.inj hf) hC (by decide +kernel)
                  · have hf := ev_it h9 hf
                    obtain ⟨hg14, hf⟩ := ev_gd_s hf
                    refine ev_blk hX lkok_RX12 [(.aload_n 0, 1, 0, 0, 0), (.getfield 40, 3, 12, 19, 0), (.iconst 0, 1, 0, 0, 0), (.iaload, 1, 0, 0, 0)] (by decide +kernel) (g := (sK S l0 == 15) && ((sK S ((sE S) l0 19) == 1 && ev_in (0 : Int32) ((sL S) ((sE S) l0 19))) && (true))) (lv' := [some (.ref l0), some (.int l1)]) (st' := [.int ((ev_up D l0 0 (0 : Int32)) ((sE S) l0 19) ((0 : Int32)).toNatClampNeg)]) (D' := (ev_up D l0 0 (0 : Int32))) (pc' := 110) rfl (ev_gk hl0 (ev_gi (ev_tyk hT hl0 rfl rfl) hg14 (rfl))) rfl ?_
                    exact ev_iret hR ev_sm.rf (Option.some.inj hf) hC (by decide +kernel)
                · have hf := ev_it h8 hf
                  obtain ⟨hg15, hf⟩ := ev_gd_s hf
                  refine ev_blk hX lkok_RX12 [(.aload_n 0, 1, 0, 0, 0), (.getfield 7, 3, 12, 1, 0), (.iconst 1, 1, 0, 0, 1), (.iaload, 1, 0, 0, 0)] (by decide +kernel) (g := (sK S l0 == 15) && ((sK S ((sE S) l0 1) == 1 && ev_in (1 : Int32) ((sL S) ((sE S) l0 1))) && (true))) (lv' := [some (.ref l0), some (.int l1)]) (st' := [.int ((ev_up D l0 0 (0 : Int32)) ((sE S) l0 1) ((1 : Int32)).toNatClampNeg)]) (D' := (ev_up D l0 0 (0 : Int32))) (pc' := 97) rfl (ev_gk hl0 (ev_gi (ev_tyk hT hl0 rfl rfl) hg15 (rfl))) rfl ?_
                  exact ev_iret hR ev_sm.rf (Option.some.inj hf) hC (by decide +kernel)
              · have hf := ev_it h7 hf
                obtain ⟨hg16, hf⟩ := ev_gd_s hf
                refine ev_blk hX lkok_RX12 [(.aload_n 0, 1, 0, 0, 0), (.getfield 7, 3, 12, 1, 0), (.iconst 2, 1, 0, 0, 2), (.iaload, 1, 0, 0, 0)] (by decide +kernel) (g := (sK S l0 == 15) && ((sK S ((sE S) l0 1) == 1 && ev_in (2 : Int32) ((sL S) ((sE S) l0 1))) && (true))) (lv' := [some (.ref l0), some (.int l1)]) (st' := [.int ((ev_up D l0 0 (0 : Int32)) ((sE S) l0 1) ((2 : Int32)).toNatClampNeg)]) (D' := (ev_up D l0 0 (0 : Int32))) (pc' := 84) rfl (ev_gk hl0 (ev_gi (ev_tyk hT hl0 rfl rfl) hg16 (rfl))) rfl ?_
                exact ev_iret hR ev_sm.rf (Option.some.inj hf) hC (by decide +kernel)
            · have hf := ev_it h6 hf
              refine ev_blk hX lkok_RX12 [(.aload_n 0, 1, 0, 0, 0)] (by decide +kernel) (g := true) (lv' := [some (.ref l0), some (.int l1)]) (st' := [.ref l0]) (D' := (ev_up D l0 0 (0 : Int32))) (pc' := 68) rfl (rfl) rfl ?_
              obtain ⟨v17, D17, hc17, hf⟩ := ev_bd_s hf
              refine ev_callV hX YX12_awakeSet ml_RX12_384 (mX12_awakeSet hT hl0 hc17) (vs := []) (st := []) (by decide) 12 hl0 rfl rfl rfl (by decide +kernel) hC ?_
              show F S D17 71 [some (.ref l0), some (.int l1)] [.int v17]
              exact ev_iret hR ev_sm.rf (Option.some.inj hf) hC (by decide +kernel)
          · have hf := ev_it h5 hf
            obtain ⟨hg18, hf⟩ := ev_gd_s hf
            refine ev_blk hX lkok_RX12 [(.aload_n 0, 1, 0, 0, 0), (.getfield 7, 3, 12, 1, 0), (.iconst 5, 1, 0, 0, 5), (.iaload, 1, 0, 0, 0)] (by decide +kernel) (g := (sK S l0 == 15) && ((sK S ((sE S) l0 1) == 1 && ev_in (5 : Int32) ((sL S) ((sE S) l0 1))) && (true))) (lv' := [some (.ref l0), some (.int l1)]) (st' := [.int ((ev_up D l0 0 (0 : Int32)) ((sE S) l0 1) ((5 : Int32)).toNatClampNeg)]) (D' := (ev_up D l0 0 (0 : Int32))) (pc' := 61) rfl (ev_gk hl0 (ev_gi (ev_tyk hT hl0 rfl rfl) hg18 (rfl))) rfl ?_
            exact ev_iret hR ev_sm.rf (Option.some.inj hf) hC (by decide +kernel)
        · have hf := ev_it h4 hf
          obtain ⟨hg19, hf⟩ := ev_gd_s hf
          refine ev_blk hX lkok_RX12 [(.aload_n 0, 1, 0, 0, 0), (.getfield 7, 3, 12, 1, 0), (.iconst 4, 1, 0, 0, 4), (.iaload, 1, 0, 0, 0)] (by decide +kernel) (g := (sK S l0 == 15) && ((sK S ((sE S) l0 1) == 1 && ev_in (4 : Int32) ((sL S) ((sE S) l0 1))) && (true))) (lv' := [some (.ref l0), some (.int l1)]) (st' := [.int ((ev_up D l0 0 (0 : Int32)) ((sE S) l0 1) ((4 : Int32)).toNatClampNeg)]) (D' := (ev_up D l0 0 (0 : Int32))) (pc' := 49) rfl (ev_gk hl0 (ev_gi (ev_tyk hT hl0 rfl rfl) hg19 (rfl))) rfl ?_
          exact ev_iret hR ev_sm.rf (Option.some.inj hf) hC (by decide +kernel)
      · have hf := ev_it h3 hf
        obtain ⟨hg20, hf⟩ := ev_gd_s hf
        refine ev_blk hX lkok_RX12 [(.aload_n 0, 1, 0, 0, 0), (.getfield 7, 3, 12, 1, 0), (.iconst 3, 1, 0, 0, 3), (.iaload, 1, 0, 0, 0)] (by decide +kernel) (g := (sK S l0 == 15) && ((sK S ((sE S) l0 1) == 1 && ev_in (3 : Int32) ((sL S) ((sE S) l0 1))) && (true))) (lv' := [some (.ref l0), some (.int l1)]) (st' := [.int ((ev_up D l0 0 (0 : Int32)) ((sE S) l0 1) ((3 : Int32)).toNatClampNeg)]) (D' := (ev_up D l0 0 (0 : Int32))) (pc' := 37) rfl (ev_gk hl0 (ev_gi (ev_tyk hT hl0 rfl rfl) hg20 (rfl))) rfl ?_
        exact ev_iret hR ev_sm.rf (Option.some.inj hf) hC (by decide +kernel)
    · have hf := ev_it h2 hf
      obtain ⟨hg21, hf⟩ := ev_gd_s hf
      refine ev_blk hX lkok_RX12 [(.aload_n 0, 1, 0, 0, 0), (.getfield 7, 3, 12, 1, 0), (.iconst 0, 1, 0, 0, 0), (.iaload, 1, 0, 0, 0)] (by decide +kernel) (g := (sK S l0 == 15) && ((sK S ((sE S) l0 1) == 1 && ev_in (0 : Int32) ((sL S) ((sE S) l0 1))) && (true))) (lv' := [some (.ref l0), some (.int l1)]) (st' := [.int ((ev_up D l0 0 (0 : Int32)) ((sE S) l0 1) ((0 : Int32)).toNatClampNeg)]) (D' := (ev_up D l0 0 (0 : Int32))) (pc' := 25) rfl (ev_gk hl0 (ev_gi (ev_tyk hT hl0 rfl rfl) hg21 (rfl))) rfl ?_
      exact ev_iret hR ev_sm.rf (Option.some.inj hf) hC (by decide +kernel)
  · have hf := ev_it h1 hf
    refine ev_blk hX lkok_RX12 [(.aload_n 0, 1, 0, 0, 0), (.getfield 140, 3, 12, 7, 0)] (by decide +kernel) (g := (sK S l0 == 15) && (true)) (lv' := [some (.ref l0), some (.int l1)]) (st' := [.int ((ev_up D l0 0 (0 : Int32)) l0 7)]) (D' := (ev_up D l0 0 (0 : Int32))) (pc' := 13) rfl (ev_gk hl0 (rfl)) rfl ?_
    exact ev_iret hR ev_sm.rf (Option.some.inj hf) hC (by decide +kernel)
theorem mX12_look {S : ev_S} {fu : Nat} {r : Int32 × ev_D} (hT : ev_Ty S) {l0 : Nat} {l1 : Int32} {D : ev_D} (hl0 : sK S l0 = 15) (hf : fX12_look (sL S) (sE S) fu l0 l1 D = some r) : ev_M 2 0 0 yX12_look cX12_look 2 (some .int) [.ref l0, .int l1] S D S r :=
  ev_met (ini := false) (plainFor_of_name (by decide)) (fun h => by cases h) rfl (Nat.le_of_ble_eq_true rfl) (fun F hR => tX12_look (S := ev_z S) hR hT ⟨Nat.le_refl 0, Nat.le_refl 0⟩ hl0 hf)
set_option maxHeartbeats 4000000 in
set_option maxRecDepth 100000 in
theorem tX3_leastBeside_2 {S : ev_S} {fu : Nat} {r : Int32 × ev_D} {F : ev_Fr} (hR : ev_R RX3 cX3_leastBeside 3 0 0 0 false (some .int) S r F) (hT : ev_Ty S) (hC : sC S ≤ 0 ∧ sA S ≤ 0) : ∀ (n : Nat) (l0 : Int32) (l1 : Int32) (l2 : Int32) (D : ev_D), fX3_leastBeside_2 (sL S) (sE S) fu n l0 l1 l2 D = some r → F S D 2 [some (.int l0), some (.int l1), some (.int l2)] [] := by
  have hX := hR.X
  intro n
  induction n with
  | zero =>
    intro l0 l1 l2 D  hf
    rw [fX3_leastBeside_2] at hf
    cases hf
  | succ n ih =>
    intro l0 l1 l2 D  hf
    rw [fX3_leastBeside_2] at hf
    refine ev_blk hX lkok_RX3 [(.iload_n 2, 1, 0, 0, 0), (.iconst 2, 1, 0, 0, 2)] (by decide +kernel) (g := true) (lv' := [some (.int l0), some (.int l1), some (.int l2)]) (st' := [.int (2 : Int32), .int l2]) (D' := D) (pc' := 4) rfl (rfl) rfl ?_
    refine ev_ic_ge hX (off := 21) 25 (by decide +kernel) (by decide) (fun h1 => ?_) (fun h1 => ?_)
    · have hf := ev_it h1 hf
      refine ev_blk hX lkok_RX3 [(.iconst 2, 1, 0, 0, 2)] (by decide +kernel) (g := true) (lv' := [some (.int l0), some (.int l1), some (.int l2)]) (st' := [.int (2 : Int32)]) (D' := D) (pc' := 26) rfl (rfl) rfl ?_
      exact ev_iret hR ev_sm.rf (Option.some.inj hf) hC (by decide +kernel)
    · have hf := ev_nf h1 hf
      refine ev_blk hX lkok_RX3 [(.iload_n 2, 1, 0, 0, 0), (.iload_n 0, 1, 0, 0, 0)] (by decide +kernel) (g := true) (lv' := [some (.int l0), some (.int l1), some (.int l2)]) (st' := [.int l0, .int l2]) (D' := D) (pc' := 9) rfl (rfl) rfl ?_
      refine ev_ic_eq hX (off := 10) 19 (by decide +kernel) (by decide) (fun h2 => ?_) (fun h2 => ?_)
      · have hf := ev_it h2 hf
        refine ev_blk hX lkok_RX3 [(.iinc 2 1, 3, 0, 0, 1)] (by decide +kernel) (g := true) (lv' := [some (.int l0), some (.int l1), some (.int (l2 + (1 : Int32)))]) (st' := []) (D' := D) (pc' := 22) rfl (rfl) rfl ?_
        refine ev_goto hX (off := (-20)) 2 (by decide +kernel) (by decide) ?_
        exact ev_weak hX (ev_le_eq (ev_le_eq (ev_le_eq ev_le_nil))) (ih _ _ _ _  hf)
      · have hf := ev_nf h2 hf
        refine ev_blk hX lkok_RX3 [(.iload_n 2, 1, 0, 0, 0), (.iload_n 1, 1, 0, 0, 0)] (by decide +kernel) (g := true) (lv' := [some (.int l0), some (.int l1), some (.int l2)]) (st' := [.int l1, .int l2]) (D' := D) (pc' := 14) rfl (rfl) rfl ?_
        refine ev_ic_eq hX (off := 5) 19 (by decide +kernel) (by decide) (fun h3 => ?_) (fun h3 => ?_)
        · have hf := ev_it h3 hf
          refine ev_blk hX lkok_RX3 [(.iinc 2 1, 3, 0, 0, 1)] (by decide +kernel) (g := true) (lv' := [some (.int l0), some (.int l1), some (.int (l2 + (1 : Int32)))]) (st' := []) (D' := D) (pc' := 22) rfl (rfl) rfl ?_
          refine ev_goto hX (off := (-20)) 2 (by decide +kernel) (by decide) ?_
          exact ev_weak hX (ev_le_eq (ev_le_eq (ev_le_eq ev_le_nil))) (ih _ _ _ _  hf)
        · have hf := ev_nf h3 hf
          refine ev_blk hX lkok_RX3 [(.iload_n 2, 1, 0, 0, 0)] (by decide +kernel) (g := true) (lv' := [some (.int l0), some (.int l1), some (.int l2)]) (st' := [.int l2]) (D' := D) (pc' := 18) rfl (rfl) rfl ?_
          exact ev_iret hR ev_sm.rf (Option.some.inj hf) hC (by decide +kernel)
set_option maxHeartbeats 4000000 in
set_option maxRecDepth 100000 in
theorem tX3_leastBeside {S : ev_S} {fu : Nat} {r : Int32 × ev_D} {F : ev_Fr} (hR : ev_R RX3 cX3_leastBeside 3 0 0 0 false (some .int) S r F) (hT : ev_Ty S) (hC : sC S ≤ 0 ∧ sA S ≤ 0) {l0 : Int32} {l1 : Int32} {D : ev_D}  (hf : fX3_leastBeside (sL S) (sE S) fu l0 l1 D = some r) : F S D 0 [some (.int l0), some (.int l1), none] [] := by
  have hX := hR.X
  unfold fX3_leastBeside at hf
  refine ev_blk hX lkok_RX3 [(.iconst 0, 1, 0, 0, 0), (.istore_n 2, 1, 0, 0, 0)] (by decide +kernel) (g := true) (lv' := [some (.int l0), some (.int l1), some (.int (0 : Int32))]) (st' := []) (D' := D) (pc' := 2) rfl (rfl) rfl ?_
  exact ev_weak hX (ev_le_eq (ev_le_eq (ev_le_eq ev_le_nil))) (tX3_leastBeside_2 hR hT hC   fu _ _ _ _  hf)
theorem mX3_leastBeside {S : ev_S} {fu : Nat} {r : Int32 × ev_D} (hT : ev_Ty S) {l0 : Int32} {l1 : Int32} {D : ev_D}  (hf : fX3_leastBeside (sL S) (sE S) fu l0 l1 D = some r) : ev_M 0 0 0 yX3_leastBeside cX3_leastBeside 3 (some .int) [.int l0, .int l1] S D S r :=
  ev_met (ini := false) (plainFor_of_name (by decide)) (fun h => by cases h) rfl (Nat.le_of_ble_eq_true rfl) (fun F hR => tX3_leastBeside (S := ev_z S) hR hT ⟨Nat.le_refl 0, Nat.le_refl 0⟩  hf)
set_option maxHeartbeats 4000000 in
set_option maxRecDepth 100000 in
theorem tX4_numberKind_16 {S : ev_S} {fu : Nat} {r : Int32 × ev_D} {F : ev_Fr} (hR : ev_R RX4 cX4_numberKind 4 0 0 0 false (some .int) S r F) (hT : ev_Ty S) (hC : sC S ≤ 0 ∧ sA S ≤ 0) : ∀ (n : Nat) (l0 : Nat) (l2 : Int32) (l3 : Int32) (D : ev_D), sK S l0 = 7 → fX4_numberKind_16 (sL S) (sE S) fu n l0 l2 l3 D = some r → F S D 16 [some (.ref l0), none, some (.int l2), some (.int l3)] [] := by
  have hX := hR.X
  intro n
  induction n with
  | zero =>
    intro l0 l2 l3 D hl0 hf
    rw [fX4_numberKind_16] at hf
    cases hf
  | succ n ih =>
    intro l0 l2 l3 D hl0 hf
    rw [fX4_numberKind_16] at hf
    refine ev_blk hX lkok_RX4 [(.iload_n 3, 1, 0, 0, 0), (.iload_n 2, 1, 0, 0, 0)] (by decide +kernel) (g := true) (lv' := [some (.ref l0), none, some (.int l2), some (.int l3)]) (st' := [.int l2, .int l3]) (D' := D) (pc' := 18) rfl (rfl) rfl ?_
    refine ev_ic_ge hX (off := 30) 48 (by decide +kernel) (by decide) (fun h1 => ?_) (fun h1 => ?_)
    · have hf := ev_it h1 hf
      refine ev_blk hX lkok_RX4 [(.iconst 2, 1, 0, 0, 2)] (by decide +kernel) (g := true) (lv' := [some (.ref l0), none, some (.int l2), some (.int l3)]) (st' := [.int (2 : Int32)]) (D' := D) (pc' := 49) rfl (rfl) rfl ?_
      exact ev_iret hR ev_sm.rf (Option.some.inj hf) hC (by decide +kernel)
    · have hf := ev_nf h1 hf
      obtain ⟨hg2, hf⟩ := ev_gd_s hf
      refine ev_blk hX lkok_RX4 [(.aload_n 0, 1, 0, 0, 0), (.aload_n 0, 1, 0, 0, 0), (.getfield 47, 3, 4, 10, 0), (.bipush 10, 2, 0, 0, 10), (.imul, 1, 0, 0, 0), (.aload_n 0, 1, 0, 0, 0), (.getfield 28, 3, 4, 4, 0), (.iload_n 3, 1, 0, 0, 0), (.iaload, 1, 0, 0, 0), (.iadd, 1, 0, 0, 0), (.bipush 48, 2, 0, 0, 48), (.isub, 1, 0, 0, 0), (.putfield 47, 3, 4, 10, 0), (.iinc 3 1, 3, 0, 0, 1)] (by decide +kernel) (g := (sK S l0 == 7) && ((sK S l0 == 7) && ((sK S ((sE S) l0 4) == 1 && ev_in l3 ((sL S) ((sE S) l0 4))) && ((sK S l0 == 7) && (true))))) (lv' := [some (.ref l0), none, some (.int l2), some (.int (l3 + (1 : Int32)))]) (st' := []) (D' := (ev_up D l0 10 ((((D l0 10) * (10 : Int32)) + (D ((sE S) l0 4) (l3).toNatClampNeg)) - (48 : Int32)))) (pc' := 45) rfl (ev_gk hl0 (ev_gk hl0 (ev_gi (ev_tyk hT hl0 rfl rfl) hg2 (ev_gk hl0 (rfl))))) rfl ?_
      refine ev_goto hX (off := (-29)) 16 (by decide +kernel) (by decide) ?_
      exact ev_weak hX (ev_le_eq (ev_le_no (ev_le_eq (ev_le_eq ev_le_nil)))) (ih _ _ _ _ hl0 hf)
set_option maxHeartbeats 4000000 in
set_option maxRecDepth 100000 in
theorem tX4_numberKind {S : ev_S} {fu : Nat} {r : Int32 × ev_D} {F : ev_Fr} (hR : ev_R RX4 cX4_numberKind 4 0 0 0 false (some .int) S r F) (hT : ev_Ty S) (hC : sC S ≤ 0 ∧ sA S ≤ 0) {l0 : Nat} {l1 : Int32} {l2 : Int32} {D : ev_D} (hl0 : sK S l0 = 7) (hf : fX4_numberKind (sL S) (sE S) fu l0 l1 l2 D = some r) : F S D 0 [some (.ref l0), some (.int l1), some (.int l2), none] [] := by
  have hX := hR.X
  unfold fX4_numberKind at hf
  refine ev_blk hX lkok_RX4 [(.iload_n 2, 1, 0, 0, 0), (.iload_n 1, 1, 0, 0, 0), (.isub, 1, 0, 0, 0), (.iconst 4, 1, 0, 0, 4)] (by decide +kernel) (g := true) (lv' := [some (.ref l0), some (.int l1), some (.int l2), none]) (st' := [.int (4 : Int32), .int (l2 - l1)]) (D' := D) (pc' := 4) rfl (rfl) rfl ?_
  refine ev_ic_le hX (off := 5) 9 (by decide +kernel) (by decide) (fun h3 => ?_) (fun h3 => ?_)
  · have hf := ev_it h3 hf
    refine ev_blk hX lkok_RX4 [(.aload_n 0, 1, 0, 0, 0), (.iconst 0, 1, 0, 0, 0), (.putfield 47, 3, 4, 10, 0), (.iload_n 1, 1, 0, 0, 0), (.istore_n 3, 1, 0, 0, 0)] (by decide +kernel) (g := (sK S l0 == 7) && (true)) (lv' := [some (.ref l0), some (.int l1), some (.int l2), some (.int l1)]) (st' := []) (D' := (ev_up D l0 10 (0 : Int32))) (pc' := 16) rfl (ev_gk hl0 (rfl)) rfl ?_
    exact ev_weak hX (ev_le_eq (ev_le_no (ev_le_eq (ev_le_eq ev_le_nil)))) (tX4_numberKind_16 hR hT hC   fu _ _ _ _ hl0 hf)
  · have hf := ev_nf h3 hf
    refine ev_blk hX lkok_RX4 [(.iconst 1, 1, 0, 0, 1)] (by decide +kernel) (g := true) (lv' := [some (.ref l0), some (.int l1), some (.int l2), none]) (st' := [.int (1 : Int32)]) (D' := D) (pc' := 8) rfl (rfl) rfl ?_
    exact ev_iret hR ev_sm.rf (Option.some.inj hf) hC (by decide +kernel)
theorem mX4_numberKind {S : ev_S} {fu : Nat} {r : Int32 × ev_D} (hT : ev_Ty S) {l0 : Nat} {l1 : Int32} {l2 : Int32} {D : ev_D} (hl0 : sK S l0 = 7) (hf : fX4_numberKind (sL S) (sE S) fu l0 l1 l2 D = some r) : ev_M 0 0 0 yX4_numberKind cX4_numberKind 4 (some .int) [.ref l0, .int l1, .int l2] S D S r :=
  ev_met (ini := false) (plainFor_of_name (by decide)) (fun h => by cases h) rfl (Nat.le_of_ble_eq_true rfl) (fun F hR => tX4_numberKind (S := ev_z S) hR hT ⟨Nat.le_refl 0, Nat.le_refl 0⟩ hl0 hf)
set_option maxHeartbeats 4000000 in
set_option maxRecDepth 100000 in
theorem tX1_become {S : ev_S} {fu : Nat} {r : Int32 × ev_D} {F : ev_Fr} (hR : ev_R RX1 cX1_become 2 2 0 0 false none S r F) (hT : ev_Ty S) (hC : sC S ≤ 0 ∧ sA S ≤ 0) {l0 : Nat} {l1 : Nat} {D : ev_D} (hl0 : sK S l0 = 4) (hl1 : sK S l1 = 4) (hf : fX1_become (sL S) (sE S) fu l0 l1 D = some r) : F S D 0 [some (.ref l0), some (.ref l1)] [] := by
  have hX := hR.X
  unfold fX1_become at hf
  refine ev_blk hX lkok_RX1 [(.aload_n 0, 1, 0, 0, 0), (.aload_n 1, 1, 0, 0, 0), (.getfield 11, 3, 1, 0, 0), (.putfield 11, 3, 1, 0, 0), (.aload_n 0, 1, 0, 0, 0), (.aload_n 1, 1, 0, 0, 0), (.getfield 15, 3, 1, 1, 0), (.putfield 15, 3, 1, 1, 0), (.aload_n 1, 1, 0, 0, 0), (.getfield 18, 3, 1, 2, 0), (.aload_n 0, 1, 0, 0, 0), (.getfield 18, 3, 1, 2, 0)] (by decide +kernel) (g := (sK S l1 == 4) && ((sK S l0 == 4) && ((sK S l1 == 4) && ((sK S l0 == 4) && ((sK S l1 == 4) && ((sK S l0 == 4) && (true))))))) (lv' := [some (.ref l0), some (.ref l1)]) (st' := [.ref ((sE S) l0 2), .ref ((sE S) l1 2)]) (D' := (ev_up (ev_up D l0 0 (D l1 0)) l0 1 ((ev_up D l0 0 (D l1 0)) l1 1))) (pc' := 24) rfl (ev_gk hl1 (ev_gk hl0 (ev_gk hl1 (ev_gk hl0 (ev_gk hl1 (ev_gk hl0 (rfl))))))) rfl ?_
  obtain ⟨v1, D1, hc1, hf⟩ := ev_bd_s hf
  refine ev_callSN hX YX11_copy ml_RX1_37 (mX11_copy hT (ev_tyk hT hl1 rfl rfl) (ev_tyk hT hl0 rfl rfl) hc1) (vs := [.ref ((sE S) l1 2), .ref ((sE S) l0 2)]) (st := []) (by decide) rfl rfl (by decide +kernel) hC ?_
  show F S D1 27 [some (.ref l0), some (.ref l1)] []
  refine ev_blk hX lkok_RX1 [(.aload_n 1, 1, 0, 0, 0), (.getfield 22, 3, 1, 3, 0), (.aload_n 0, 1, 0, 0, 0), (.getfield 22, 3, 1, 3, 0)] (by decide +kernel) (g := (sK S l1 == 4) && ((sK S l0 == 4) && (true))) (lv' := [some (.ref l0), some (.ref l1)]) (st' := [.ref ((sE S) l0 3), .ref ((sE S) l1 3)]) (D' := D1) (pc' := 35) rfl (ev_gk hl1 (ev_gk hl0 (rfl))) rfl ?_
  obtain ⟨v2, D2, hc2, hf⟩ := ev_bd_s hf
  refine ev_callSN hX YX11_copy ml_RX1_37 (mX11_copy hT (ev_tyk hT hl1 rfl rfl) (ev_tyk hT hl0 rfl rfl) hc2) (vs := [.ref ((sE S) l1 3), .ref ((sE S) l0 3)]) (st := []) (by decide) rfl rfl (by decide +kernel) hC ?_
  show F S D2 38 [some (.ref l0), some (.ref l1)] []
  refine ev_blk hX lkok_RX1 [(.aload_n 1, 1, 0, 0, 0), (.getfield 25, 3, 1, 4, 0), (.aload_n 0, 1, 0, 0, 0), (.getfield 25, 3, 1, 4, 0)] (by decide +kernel) (g := (sK S l1 == 4) && ((sK S l0 == 4) && (true))) (lv' := [some (.ref l0), some (.ref l1)]) (st' := [.ref ((sE S) l0 4), .ref ((sE S) l1 4)]) (D' := D2) (pc' := 46) rfl (ev_gk hl1 (ev_gk hl0 (rfl))) rfl ?_
  obtain ⟨v3, D3, hc3, hf⟩ := ev_bd_s hf
  refine ev_callSN hX YX11_copy ml_RX1_37 (mX11_copy hT (ev_tyk hT hl1 rfl rfl) (ev_tyk hT hl0 rfl rfl) hc3) (vs := [.ref ((sE S) l1 4), .ref ((sE S) l0 4)]) (st := []) (by decide) rfl rfl (by decide +kernel) hC ?_
  show F S D3 49 [some (.ref l0), some (.ref l1)] []
  refine ev_blk hX lkok_RX1 [(.aload_n 1, 1, 0, 0, 0), (.getfield 28, 3, 1, 5, 0), (.aload_n 0, 1, 0, 0, 0), (.getfield 28, 3, 1, 5, 0)] (by decide +kernel) (g := (sK S l1 == 4) && ((sK S l0 == 4) && (true))) (lv' := [some (.ref l0), some (.ref l1)]) (st' := [.ref ((sE S) l0 5), .ref ((sE S) l1 5)]) (D' := D3) (pc' := 57) rfl (ev_gk hl1 (ev_gk hl0 (rfl))) rfl ?_
  obtain ⟨v4, D4, hc4, hf⟩ := ev_bd_s hf
  refine ev_callSN hX YX11_copy ml_RX1_37 (mX11_copy hT (ev_tyk hT hl1 rfl rfl) (ev_tyk hT hl0 rfl rfl) hc4) (vs := [.ref ((sE S) l1 5), .ref ((sE S) l0 5)]) (st := []) (by decide) rfl rfl (by decide +kernel) hC ?_
  show F S D4 60 [some (.ref l0), some (.ref l1)] []
  refine ev_blk hX lkok_RX1 [(.aload_n 1, 1, 0, 0, 0), (.getfield 31, 3, 1, 6, 0), (.aload_n 0, 1, 0, 0, 0), (.getfield 31, 3, 1, 6, 0)] (by decide +kernel) (g := (sK S l1 == 4) && ((sK S l0 == 4) && (true))) (lv' := [some (.ref l0), some (.ref l1)]) (st' := [.ref ((sE S) l0 6), .ref ((sE S) l1 6)]) (D' := D4) (pc' := 68) rfl (ev_gk hl1 (ev_gk hl0 (rfl))) rfl ?_
  obtain ⟨v5, D5, hc5, hf⟩ := ev_bd_s hf
  refine ev_callSN hX YX11_copy ml_RX1_37 (mX11_copy hT (ev_tyk hT hl1 rfl rfl) (ev_tyk hT hl0 rfl rfl) hc5) (vs := [.ref ((sE S) l1 6), .ref ((sE S) l0 6)]) (st := []) (by decide) rfl rfl (by decide +kernel) hC ?_
  show F S D5 71 [some (.ref l0), some (.ref l1)] []
  exact ev_vret hR ev_sm.rf (Option.some.inj hf) hC (by decide +kernel)
theorem mX1_become {S : ev_S} {fu : Nat} {r : Int32 × ev_D} (hT : ev_Ty S) {l0 : Nat} {l1 : Nat} {D : ev_D} (hl0 : sK S l0 = 4) (hl1 : sK S l1 = 4) (hf : fX1_become (sL S) (sE S) fu l0 l1 D = some r) : ev_M 2 0 0 yX1_become cX1_become 2 none [.ref l0, .ref l1] S D S r :=
  ev_met (ini := false) (plainFor_of_name (by decide)) (fun h => by cases h) rfl (Nat.le_of_ble_eq_true rfl) (fun F hR => tX1_become (S := ev_z S) hR hT ⟨Nat.le_refl 0, Nat.le_refl 0⟩ hl0 hl1 hf)
set_option maxHeartbeats 4000000 in
set_option maxRecDepth 100000 in
theorem tX6_become {S : ev_S} {fu : Nat} {r : Int32 × ev_D} {F : ev_Fr} (hR : ev_R RX6 cX6_become 2 2 0 0 false none S r F) (hT : ev_Ty S) (hC : sC S ≤ 0 ∧ sA S ≤ 0) {l0 : Nat} {l1 : Nat} {D : ev_D} (hl0 : sK S l0 = 9) (hl1 : sK S l1 = 9) (hf : fX6_become (sL S) (sE S) fu l0 l1 D = some r) : F S D 0 [some (.ref l0), some (.ref l1)] [] := by
  have hX := hR.X
  unfold fX6_become at hf
  refine ev_blk hX lkok_RX6 [(.aload_n 0, 1, 0, 0, 0), (.aload_n 1, 1, 0, 0, 0), (.getfield 9, 3, 6, 0, 0), (.aload_n 0, 1, 0, 0, 0), (.getfield 21, 3, 6, 1, 0)] (by decide +kernel) (g := (sK S l1 == 9) && ((sK S l0 == 9) && (true))) (lv' := [some (.ref l0), some (.ref l1)]) (st' := [.int (D l0 1), .int (D l1 0), .ref l0]) (D' := D) (pc' := 9) rfl (ev_gk hl1 (ev_gk hl0 (rfl))) rfl ?_
  obtain ⟨v1, D1, hc1, hf⟩ := ev_bd_s hf
  refine ev_callS hX YJ9_min ml_RX6_28 (mJ9_min hT  hc1) (vs := [.int (D l1 0), .int (D l0 1)]) (st := [.ref l0]) (by decide) rfl rfl (by decide +kernel) hC ?_
  show F S D1 12 [some (.ref l0), some (.ref l1)] [.int v1, .ref l0]
  refine ev_blk hX lkok_RX6 [(.putfield 9, 3, 6, 0, 0), (.aload_n 1, 1, 0, 0, 0), (.getfield 24, 3, 6, 2, 0), (.aload_n 0, 1, 0, 0, 0), (.getfield 24, 3, 6, 2, 0)] (by decide +kernel) (g := (sK S l0 == 9) && ((sK S l1 == 9) && ((sK S l0 == 9) && (true)))) (lv' := [some (.ref l0), some (.ref l1)]) (st' := [.ref ((sE S) l0 2), .ref ((sE S) l1 2)]) (D' := (ev_up D1 l0 0 v1)) (pc' := 23) rfl (ev_gk hl0 (ev_gk hl1 (ev_gk hl0 (rfl)))) rfl ?_
  obtain ⟨v2, D2, hc2, hf⟩ := ev_bd_s hf
  refine ev_callSN hX YX11_copy ml_RX6_31 (mX11_copy hT (ev_tyk hT hl1 rfl rfl) (ev_tyk hT hl0 rfl rfl) hc2) (vs := [.ref ((sE S) l1 2), .ref ((sE S) l0 2)]) (st := []) (by decide) rfl rfl (by decide +kernel) hC ?_
  show F S D2 26 [some (.ref l0), some (.ref l1)] []
  exact ev_vret hR ev_sm.rf (Option.some.inj hf) hC (by decide +kernel)
theorem mX6_become {S : ev_S} {fu : Nat} {r : Int32 × ev_D} (hT : ev_Ty S) {l0 : Nat} {l1 : Nat} {D : ev_D} (hl0 : sK S l0 = 9) (hl1 : sK S l1 = 9) (hf : fX6_become (sL S) (sE S) fu l0 l1 D = some r) : ev_M 2 0 0 yX6_become cX6_become 2 none [.ref l0, .ref l1] S D S r :=
  ev_met (ini := false) (plainFor_of_name (by decide)) (fun h => by cases h) rfl (Nat.le_of_ble_eq_true rfl) (fun F hR => tX6_become (S := ev_z S) hR hT ⟨Nat.le_refl 0, Nat.le_refl 0⟩ hl0 hl1 hf)
theorem dX7_becomeOne_1 : decode cX7_becomeOne 1 = .ok (.tableswitch 87 0 3 #[31, 45, 59, 73], 31) := by decide +kernel
set_option maxHeartbeats 4000000 in
set_option maxRecDepth 100000 in
theorem tX7_becomeOne {S : ev_S} {fu : Nat} {r : Int32 × ev_D} {F : ev_Fr} (hR : ev_R RX7 cX7_becomeOne 3 3 0 0 false none S r F) (hT : ev_Ty S) (hC : sC S ≤ 0 ∧ sA S ≤ 0) {l0 : Nat} {l1 : Int32} {l2 : Nat} {D : ev_D} (hl0 : sK S l0 = 10) (hl2 : sK S l2 = 10) (hf : fX7_becomeOne (sL S) (sE S) fu l0 l1 l2 D = some r) : F S D 0 [some (.ref l0), some (.int l1), some (.ref l2)] [] := by
  have hX := hR.X
  unfold fX7_becomeOne at hf
  refine ev_blk hX lkok_RX7 [(.iload_n 1, 1, 0, 0, 0)] (by decide +kernel) (g := true) (lv' := [some (.ref l0), some (.int l1), some (.ref l2)]) (st' := [.int l1]) (D' := D) (pc' := 1) rfl (rfl) rfl ?_
  by_cases h1 : l1 = (0 : Int32)
  · have hf := ev_it h1 hf
    refine ev_tblIn hX (off := 31) 32 dX7_becomeOne_1 (by rw [h1]; decide) (by rw [h1]; decide) (by rw [h1]; rfl) (by decide) ?_
    refine ev_blk hX lkok_RX7 [(.aload_n 0, 1, 0, 0, 0), (.getfield 12, 3, 7, 0, 0), (.aload_n 2, 1, 0, 0, 0), (.getfield 12, 3, 7, 0, 0)] (by decide +kernel) (g := (sK S l0 == 10) && ((sK S l2 == 10) && (true))) (lv' := [some (.ref l0), some (.int l1), some (.ref l2)]) (st' := [.ref ((sE S) l2 0), .ref ((sE S) l0 0)]) (D' := D) (pc' := 40) rfl (ev_gk hl0 (ev_gk hl2 (rfl))) rfl ?_
    obtain ⟨v2, D2, hc2, hf⟩ := ev_bd_s hf
    refine ev_callV hX YX1_become ml_RX7_33 (mX1_become hT (ev_tyk hT hl0 rfl rfl) (ev_tyk hT hl2 rfl rfl) hc2) (vs := [.ref ((sE S) l2 0)]) (st := []) (by decide) 1 (ev_tyk hT hl0 rfl rfl) rfl rfl rfl (by decide +kernel) hC ?_
    show F S D2 43 [some (.ref l0), some (.int l1), some (.ref l2)] []
    refine ev_goto hX (off := 45) 88 (by decide +kernel) (by decide) ?_
    exact ev_vret hR ev_sm.rf (Option.some.inj hf) hC (by decide +kernel)
  have hf := ev_nf h1 hf
  by_cases h3 : l1 = (1 : Int32)
  · have hf := ev_it h3 hf
    refine ev_tblIn hX (off := 45) 46 dX7_becomeOne_1 (by rw [h3]; decide) (by rw [h3]; decide) (by rw [h3]; rfl) (by decide) ?_
    refine ev_blk hX lkok_RX7 [(.aload_n 0, 1, 0, 0, 0), (.getfield 23, 3, 7, 1, 0), (.aload_n 2, 1, 0, 0, 0), (.getfield 23, 3, 7, 1, 0)] (by decide +kernel) (g := (sK S l0 == 10) && ((sK S l2 == 10) && (true))) (lv' := [some (.ref l0), some (.int l1), some (.ref l2)]) (st' := [.ref ((sE S) l2 1), .ref ((sE S) l0 1)]) (D' := D) (pc' := 54) rfl (ev_gk hl0 (ev_gk hl2 (rfl))) rfl ?_
    obtain ⟨v4, D4, hc4, hf⟩ := ev_bd_s hf
    refine ev_callV hX YX6_become ml_RX7_37 (mX6_become hT (ev_tyk hT hl0 rfl rfl) (ev_tyk hT hl2 rfl rfl) hc4) (vs := [.ref ((sE S) l2 1)]) (st := []) (by decide) 6 (ev_tyk hT hl0 rfl rfl) rfl rfl rfl (by decide +kernel) hC ?_
    show F S D4 57 [some (.ref l0), some (.int l1), some (.ref l2)] []
    refine ev_goto hX (off := 31) 88 (by decide +kernel) (by decide) ?_
    exact ev_vret hR ev_sm.rf (Option.some.inj hf) hC (by decide +kernel)
  have hf := ev_nf h3 hf
  by_cases h5 : l1 = (2 : Int32)
  · have hf := ev_it h5 hf
    refine ev_tblIn hX (off := 59) 60 dX7_becomeOne_1 (by rw [h5]; decide) (by rw [h5]; decide) (by rw [h5]; rfl) (by decide) ?_
    refine ev_blk hX lkok_RX7 [(.aload_n 0, 1, 0, 0, 0), (.getfield 27, 3, 7, 2, 0), (.aload_n 2, 1, 0, 0, 0), (.getfield 27, 3, 7, 2, 0)] (by decide +kernel) (g := (sK S l0 == 10) && ((sK S l2 == 10) && (true))) (lv' := [some (.ref l0), some (.int l1), some (.ref l2)]) (st' := [.ref ((sE S) l2 2), .ref ((sE S) l0 2)]) (D' := D) (pc' := 68) rfl (ev_gk hl0 (ev_gk hl2 (rfl))) rfl ?_
    obtain ⟨v6, D6, hc6, hf⟩ := ev_bd_s hf
    refine ev_callV hX YX6_become ml_RX7_37 (mX6_become hT (ev_tyk hT hl0 rfl rfl) (ev_tyk hT hl2 rfl rfl) hc6) (vs := [.ref ((sE S) l2 2)]) (st := []) (by decide) 6 (ev_tyk hT hl0 rfl rfl) rfl rfl rfl (by decide +kernel) hC ?_
    show F S D6 71 [some (.ref l0), some (.int l1), some (.ref l2)] []
    refine ev_goto hX (off := 17) 88 (by decide +kernel) (by decide) ?_
    exact ev_vret hR ev_sm.rf (Option.some.inj hf) hC (by decide +kernel)
  have hf := ev_nf h5 hf
  by_cases h7 : l1 = (3 : Int32)
  · have hf := ev_it h7 hf
    refine ev_tblIn hX (off := 73) 74 dX7_becomeOne_1 (by rw [h7]; decide) (by rw [h7]; decide) (by rw [h7]; rfl) (by decide) ?_
    refine ev_blk hX lkok_RX7 [(.aload_n 0, 1, 0, 0, 0), (.getfield 30, 3, 7, 3, 0), (.aload_n 2, 1, 0, 0, 0), (.getfield 30, 3, 7, 3, 0)] (by decide +kernel) (g := (sK S l0 == 10) && ((sK S l2 == 10) && (true))) (lv' := [some (.ref l0), some (.int l1), some (.ref l2)]) (st' := [.ref ((sE S) l2 3), .ref ((sE S) l0 3)]) (D' := D) (pc' := 82) rfl (ev_gk hl0 (ev_gk hl2 (rfl))) rfl ?_
    obtain ⟨v8, D8, hc8, hf⟩ := ev_bd_s hf
    refine ev_callV hX YX6_become ml_RX7_37 (mX6_become hT (ev_tyk hT hl0 rfl rfl) (ev_tyk hT hl2 rfl rfl) hc8) (vs := [.ref ((sE S) l2 3)]) (st := []) (by decide) 6 (ev_tyk hT hl0 rfl rfl) rfl rfl rfl (by decide +kernel) hC ?_
    show F S D8 85 [some (.ref l0), some (.int l1), some (.ref l2)] []
    refine ev_goto hX (off := 3) 88 (by decide +kernel) (by decide) ?_
    exact ev_vret hR ev_sm.rf (Option.some.inj hf) hC (by decide +kernel)
  have hf := ev_nf h7 hf
  refine ev_tblOut hX 88 dX7_becomeOne_1 (by have h1q : (l1).toInt ≠ 0 := ev_ne h1; have h3q : (l1).toInt ≠ 1 := ev_ne h3; have h5q : (l1).toInt ≠ 2 := ev_ne h5; have h7q : (l1).toInt ≠ 3 := ev_ne h7; omega) (by decide) ?_
  exact ev_vret hR ev_sm.rf (Option.some.inj hf) hC (by decide +kernel)
theorem mX7_becomeOne {S : ev_S} {fu : Nat} {r : Int32 × ev_D} (hT : ev_Ty S) {l0 : Nat} {l1 : Int32} {l2 : Nat} {D : ev_D} (hl0 : sK S l0 = 10) (hl2 : sK S l2 = 10) (hf : fX7_becomeOne (sL S) (sE S) fu l0 l1 l2 D = some r) : ev_M 3 0 0 yX7_becomeOne cX7_becomeOne 3 none [.ref l0, .int l1, .ref l2] S D S r :=
  ev_met (ini := false) (plainFor_of_name (by decide)) (fun h => by cases h) rfl (Nat.le_of_ble_eq_true rfl) (fun F hR => tX7_becomeOne (S := ev_z S) hR hT ⟨Nat.le_refl 0, Nat.le_refl 0⟩ hl0 hl2 hf)
set_option maxHeartbeats 4000000 in
set_option maxRecDepth 100000 in
theorem tX0_become {S : ev_S} {fu : Nat} {r : Int32 × ev_D} {F : ev_Fr} (hR : ev_R RX0 cX0_become 2 2 0 0 false none S r F) (hT : ev_Ty S) (hC : sC S ≤ 0 ∧ sA S ≤ 0) {l0 : Nat} {l1 : Nat} {D : ev_D} (hl0 : sK S l0 = 3) (hl1 : sK S l1 = 3) (hf : fX0_become (sL S) (sE S) fu l0 l1 D = some r) : F S D 0 [some (.ref l0), some (.ref l1)] [] := by
  have hX := hR.X
  unfold fX0_become at hf
  refine ev_blk hX lkok_RX0 [(.aload_n 0, 1, 0, 0, 0), (.aload_n 1, 1, 0, 0, 0), (.getfield 9, 3, 0, 0, 0), (.aload_n 0, 1, 0, 0, 0), (.getfield 21, 3, 0, 1, 0)] (by decide +kernel) (g := (sK S l1 == 3) && ((sK S l0 == 3) && (true))) (lv' := [some (.ref l0), some (.ref l1)]) (st' := [.int (D l0 1), .int (D l1 0), .ref l0]) (D' := D) (pc' := 9) rfl (ev_gk hl1 (ev_gk hl0 (rfl))) rfl ?_
  obtain ⟨v1, D1, hc1, hf⟩ := ev_bd_s hf
  refine ev_callS hX YJ9_min ml_RX0_28 (mJ9_min hT  hc1) (vs := [.int (D l1 0), .int (D l0 1)]) (st := [.ref l0]) (by decide) rfl rfl (by decide +kernel) hC ?_
  show F S D1 12 [some (.ref l0), some (.ref l1)] [.int v1, .ref l0]
  refine ev_blk hX lkok_RX0 [(.putfield 9, 3, 0, 0, 0), (.aload_n 1, 1, 0, 0, 0), (.getfield 24, 3, 0, 2, 0), (.aload_n 0, 1, 0, 0, 0), (.getfield 24, 3, 0, 2, 0)] (by decide +kernel) (g := (sK S l0 == 3) && ((sK S l1 == 3) && ((sK S l0 == 3) && (true)))) (lv' := [some (.ref l0), some (.ref l1)]) (st' := [.ref ((sE S) l0 2), .ref ((sE S) l1 2)]) (D' := (ev_up D1 l0 0 v1)) (pc' := 23) rfl (ev_gk hl0 (ev_gk hl1 (ev_gk hl0 (rfl)))) rfl ?_
  obtain ⟨v2, D2, hc2, hf⟩ := ev_bd_s hf
  refine ev_callSN hX YX11_copy ml_RX0_31 (mX11_copy hT (ev_tyk hT hl1 rfl rfl) (ev_tyk hT hl0 rfl rfl) hc2) (vs := [.ref ((sE S) l1 2), .ref ((sE S) l0 2)]) (st := []) (by decide) rfl rfl (by decide +kernel) hC ?_
  show F S D2 26 [some (.ref l0), some (.ref l1)] []
  exact ev_vret hR ev_sm.rf (Option.some.inj hf) hC (by decide +kernel)
theorem mX0_become {S : ev_S} {fu : Nat} {r : Int32 × ev_D} (hT : ev_Ty S) {l0 : Nat} {l1 : Nat} {D : ev_D} (hl0 : sK S l0 = 3) (hl1 : sK S l1 = 3) (hf : fX0_become (sL S) (sE S) fu l0 l1 D = some r) : ev_M 2 0 0 yX0_become cX0_become 2 none [.ref l0, .ref l1] S D S r :=
  ev_met (ini := false) (plainFor_of_name (by decide)) (fun h => by cases h) rfl (Nat.le_of_ble_eq_true rfl) (fun F hR => tX0_become (S := ev_z S) hR hT ⟨Nat.le_refl 0, Nat.le_refl 0⟩ hl0 hl1 hf)
set_option maxHeartbeats 4000000 in
set_option maxRecDepth 100000 in
theorem tX7_become {S : ev_S} {fu : Nat} {r : Int32 × ev_D} {F : ev_Fr} (hR : ev_R RX7 cX7_become 2 3 0 0 false none S r F) (hT : ev_Ty S) (hC : sC S ≤ 0 ∧ sA S ≤ 0) {l0 : Nat} {l1 : Nat} {D : ev_D} (hl0 : sK S l0 = 10) (hl1 : sK S l1 = 10) (hf : fX7_become (sL S) (sE S) fu l0 l1 D = some r) : F S D 0 [some (.ref l0), some (.ref l1)] [] := by
  have hX := hR.X
  unfold fX7_become at hf
  refine ev_blk hX lkok_RX7 [(.aload_n 0, 1, 0, 0, 0), (.getfield 12, 3, 7, 0, 0), (.aload_n 1, 1, 0, 0, 0), (.getfield 12, 3, 7, 0, 0)] (by decide +kernel) (g := (sK S l0 == 10) && ((sK S l1 == 10) && (true))) (lv' := [some (.ref l0), some (.ref l1)]) (st' := [.ref ((sE S) l1 0), .ref ((sE S) l0 0)]) (D' := D) (pc' := 8) rfl (ev_gk hl0 (ev_gk hl1 (rfl))) rfl ?_
  obtain ⟨v1, D1, hc1, hf⟩ := ev_bd_s hf
  refine ev_callV hX YX1_become ml_RX7_33 (mX1_become hT (ev_tyk hT hl0 rfl rfl) (ev_tyk hT hl1 rfl rfl) hc1) (vs := [.ref ((sE S) l1 0)]) (st := []) (by decide) 1 (ev_tyk hT hl0 rfl rfl) rfl rfl rfl (by decide +kernel) hC ?_
  show F S D1 11 [some (.ref l0), some (.ref l1)] []
  refine ev_blk hX lkok_RX7 [(.aload_n 0, 1, 0, 0, 0), (.getfield 23, 3, 7, 1, 0), (.aload_n 1, 1, 0, 0, 0), (.getfield 23, 3, 7, 1, 0)] (by decide +kernel) (g := (sK S l0 == 10) && ((sK S l1 == 10) && (true))) (lv' := [some (.ref l0), some (.ref l1)]) (st' := [.ref ((sE S) l1 1), .ref ((sE S) l0 1)]) (D' := D1) (pc' := 19) rfl (ev_gk hl0 (ev_gk hl1 (rfl))) rfl ?_
  obtain ⟨v2, D2, hc2, hf⟩ := ev_bd_s hf
  refine ev_callV hX YX6_become ml_RX7_37 (mX6_become hT (ev_tyk hT hl0 rfl rfl) (ev_tyk hT hl1 rfl rfl) hc2) (vs := [.ref ((sE S) l1 1)]) (st := []) (by decide) 6 (ev_tyk hT hl0 rfl rfl) rfl rfl rfl (by decide +kernel) hC ?_
  show F S D2 22 [some (.ref l0), some (.ref l1)] []
  refine ev_blk hX lkok_RX7 [(.aload_n 0, 1, 0, 0, 0), (.getfield 27, 3, 7, 2, 0), (.aload_n 1, 1, 0, 0, 0), (.getfield 27, 3, 7, 2, 0)] (by decide +kernel) (g := (sK S l0 == 10) && ((sK S l1 == 10) && (true))) (lv' := [some (.ref l0), some (.ref l1)]) (st' := [.ref ((sE S) l1 2), .ref ((sE S) l0 2)]) (D' := D2) (pc' := 30) rfl (ev_gk hl0 (ev_gk hl1 (rfl))) rfl ?_
  obtain ⟨v3, D3, hc3, hf⟩ := ev_bd_s hf
  refine ev_callV hX YX6_become ml_RX7_37 (mX6_become hT (ev_tyk hT hl0 rfl rfl) (ev_tyk hT hl1 rfl rfl) hc3) (vs := [.ref ((sE S) l1 2)]) (st := []) (by decide) 6 (ev_tyk hT hl0 rfl rfl) rfl rfl rfl (by decide +kernel) hC ?_
  show F S D3 33 [some (.ref l0), some (.ref l1)] []
  refine ev_blk hX lkok_RX7 [(.aload_n 0, 1, 0, 0, 0), (.getfield 30, 3, 7, 3, 0), (.aload_n 1, 1, 0, 0, 0), (.getfield 30, 3, 7, 3, 0)] (by decide +kernel) (g := (sK S l0 == 10) && ((sK S l1 == 10) && (true))) (lv' := [some (.ref l0), some (.ref l1)]) (st' := [.ref ((sE S) l1 3), .ref ((sE S) l0 3)]) (D' := D3) (pc' := 41) rfl (ev_gk hl0 (ev_gk hl1 (rfl))) rfl ?_
  obtain ⟨v4, D4, hc4, hf⟩ := ev_bd_s hf
  refine ev_callV hX YX6_become ml_RX7_37 (mX6_become hT (ev_tyk hT hl0 rfl rfl) (ev_tyk hT hl1 rfl rfl) hc4) (vs := [.ref ((sE S) l1 3)]) (st := []) (by decide) 6 (ev_tyk hT hl0 rfl rfl) rfl rfl rfl (by decide +kernel) hC ?_
  show F S D4 44 [some (.ref l0), some (.ref l1)] []
  exact ev_vret hR ev_sm.rf (Option.some.inj hf) hC (by decide +kernel)
theorem mX7_become {S : ev_S} {fu : Nat} {r : Int32 × ev_D} (hT : ev_Ty S) {l0 : Nat} {l1 : Nat} {D : ev_D} (hl0 : sK S l0 = 10) (hl1 : sK S l1 = 10) (hf : fX7_become (sL S) (sE S) fu l0 l1 D = some r) : ev_M 3 0 0 yX7_become cX7_become 2 none [.ref l0, .ref l1] S D S r :=
  ev_met (ini := false) (plainFor_of_name (by decide)) (fun h => by cases h) rfl (Nat.le_of_ble_eq_true rfl) (fun F hR => tX7_become (S := ev_z S) hR hT ⟨Nat.le_refl 0, Nat.le_refl 0⟩ hl0 hl1 hf)
set_option maxHeartbeats 4000000 in
set_option maxRecDepth 100000 in
theorem tX8_become {S : ev_S} {fu : Nat} {r : Int32 × ev_D} {F : ev_Fr} (hR : ev_R RX8 cX8_become 2 3 0 0 false none S r F) (hT : ev_Ty S) (hC : sC S ≤ 0 ∧ sA S ≤ 0) {l0 : Nat} {l1 : Nat} {D : ev_D} (hl0 : sK S l0 = 11) (hl1 : sK S l1 = 11) (hf : fX8_become (sL S) (sE S) fu l0 l1 D = some r) : F S D 0 [some (.ref l0), some (.ref l1)] [] := by
  have hX := hR.X
  unfold fX8_become at hf
  refine ev_blk hX lkok_RX8 [(.aload_n 0, 1, 0, 0, 0), (.getfield 14, 3, 8, 0, 0), (.aload_n 1, 1, 0, 0, 0), (.getfield 14, 3, 8, 0, 0)] (by decide +kernel) (g := (sK S l0 == 11) && ((sK S l1 == 11) && (true))) (lv' := [some (.ref l0), some (.ref l1)]) (st' := [.ref ((sE S) l1 0), .ref ((sE S) l0 0)]) (D' := D) (pc' := 8) rfl (ev_gk hl0 (ev_gk hl1 (rfl))) rfl ?_
  obtain ⟨v1, D1, hc1, hf⟩ := ev_bd_s hf
  refine ev_callV hX YX6_become ml_RX8_39 (mX6_become hT (ev_tyk hT hl0 rfl rfl) (ev_tyk hT hl1 rfl rfl) hc1) (vs := [.ref ((sE S) l1 0)]) (st := []) (by decide) 6 (ev_tyk hT hl0 rfl rfl) rfl rfl rfl (by decide +kernel) hC ?_
  show F S D1 11 [some (.ref l0), some (.ref l1)] []
  refine ev_blk hX lkok_RX8 [(.aload_n 0, 1, 0, 0, 0), (.getfield 20, 3, 8, 1, 0), (.aload_n 1, 1, 0, 0, 0), (.getfield 20, 3, 8, 1, 0)] (by decide +kernel) (g := (sK S l0 == 11) && ((sK S l1 == 11) && (true))) (lv' := [some (.ref l0), some (.ref l1)]) (st' := [.ref ((sE S) l1 1), .ref ((sE S) l0 1)]) (D' := D1) (pc' := 19) rfl (ev_gk hl0 (ev_gk hl1 (rfl))) rfl ?_
  obtain ⟨v2, D2, hc2, hf⟩ := ev_bd_s hf
  refine ev_callV hX YX6_become ml_RX8_39 (mX6_become hT (ev_tyk hT hl0 rfl rfl) (ev_tyk hT hl1 rfl rfl) hc2) (vs := [.ref ((sE S) l1 1)]) (st := []) (by decide) 6 (ev_tyk hT hl0 rfl rfl) rfl rfl rfl (by decide +kernel) hC ?_
  show F S D2 22 [some (.ref l0), some (.ref l1)] []
  refine ev_blk hX lkok_RX8 [(.aload_n 0, 1, 0, 0, 0), (.getfield 23, 3, 8, 2, 0), (.aload_n 1, 1, 0, 0, 0), (.getfield 23, 3, 8, 2, 0)] (by decide +kernel) (g := (sK S l0 == 11) && ((sK S l1 == 11) && (true))) (lv' := [some (.ref l0), some (.ref l1)]) (st' := [.ref ((sE S) l1 2), .ref ((sE S) l0 2)]) (D' := D2) (pc' := 30) rfl (ev_gk hl0 (ev_gk hl1 (rfl))) rfl ?_
  obtain ⟨v3, D3, hc3, hf⟩ := ev_bd_s hf
  refine ev_callV hX YX6_become ml_RX8_39 (mX6_become hT (ev_tyk hT hl0 rfl rfl) (ev_tyk hT hl1 rfl rfl) hc3) (vs := [.ref ((sE S) l1 2)]) (st := []) (by decide) 6 (ev_tyk hT hl0 rfl rfl) rfl rfl rfl (by decide +kernel) hC ?_
  show F S D3 33 [some (.ref l0), some (.ref l1)] []
  refine ev_blk hX lkok_RX8 [(.aload_n 0, 1, 0, 0, 0), (.getfield 26, 3, 8, 3, 0), (.aload_n 1, 1, 0, 0, 0), (.getfield 26, 3, 8, 3, 0)] (by decide +kernel) (g := (sK S l0 == 11) && ((sK S l1 == 11) && (true))) (lv' := [some (.ref l0), some (.ref l1)]) (st' := [.ref ((sE S) l1 3), .ref ((sE S) l0 3)]) (D' := D3) (pc' := 41) rfl (ev_gk hl0 (ev_gk hl1 (rfl))) rfl ?_
  obtain ⟨v4, D4, hc4, hf⟩ := ev_bd_s hf
  refine ev_callV hX YX6_become ml_RX8_39 (mX6_become hT (ev_tyk hT hl0 rfl rfl) (ev_tyk hT hl1 rfl rfl) hc4) (vs := [.ref ((sE S) l1 3)]) (st := []) (by decide) 6 (ev_tyk hT hl0 rfl rfl) rfl rfl rfl (by decide +kernel) hC ?_
  show F S D4 44 [some (.ref l0), some (.ref l1)] []
  refine ev_blk hX lkok_RX8 [(.aload_n 0, 1, 0, 0, 0), (.getfield 29, 3, 8, 4, 0), (.aload_n 1, 1, 0, 0, 0), (.getfield 29, 3, 8, 4, 0)] (by decide +kernel) (g := (sK S l0 == 11) && ((sK S l1 == 11) && (true))) (lv' := [some (.ref l0), some (.ref l1)]) (st' := [.ref ((sE S) l1 4), .ref ((sE S) l0 4)]) (D' := D4) (pc' := 52) rfl (ev_gk hl0 (ev_gk hl1 (rfl))) rfl ?_
  obtain ⟨v5, D5, hc5, hf⟩ := ev_bd_s hf
  refine ev_callV hX YX6_become ml_RX8_39 (mX6_become hT (ev_tyk hT hl0 rfl rfl) (ev_tyk hT hl1 rfl rfl) hc5) (vs := [.ref ((sE S) l1 4)]) (st := []) (by decide) 6 (ev_tyk hT hl0 rfl rfl) rfl rfl rfl (by decide +kernel) hC ?_
  show F S D5 55 [some (.ref l0), some (.ref l1)] []
  refine ev_blk hX lkok_RX8 [(.aload_n 1, 1, 0, 0, 0), (.getfield 32, 3, 8, 5, 0), (.aload_n 0, 1, 0, 0, 0), (.getfield 32, 3, 8, 5, 0)] (by decide +kernel) (g := (sK S l1 == 11) && ((sK S l0 == 11) && (true))) (lv' := [some (.ref l0), some (.ref l1)]) (st' := [.ref ((sE S) l0 5), .ref ((sE S) l1 5)]) (D' := D5) (pc' := 63) rfl (ev_gk hl1 (ev_gk hl0 (rfl))) rfl ?_
  obtain ⟨v6, D6, hc6, hf⟩ := ev_bd_s hf
  refine ev_callSN hX YX11_copy ml_RX8_43 (mX11_copy hT (ev_tyk hT hl1 rfl rfl) (ev_tyk hT hl0 rfl rfl) hc6) (vs := [.ref ((sE S) l1 5), .ref ((sE S) l0 5)]) (st := []) (by decide) rfl rfl (by decide +kernel) hC ?_
  show F S D6 66 [some (.ref l0), some (.ref l1)] []
  refine ev_blk hX lkok_RX8 [(.aload_n 1, 1, 0, 0, 0), (.getfield 36, 3, 8, 6, 0), (.aload_n 0, 1, 0, 0, 0), (.getfield 36, 3, 8, 6, 0)] (by decide +kernel) (g := (sK S l1 == 11) && ((sK S l0 == 11) && (true))) (lv' := [some (.ref l0), some (.ref l1)]) (st' := [.ref ((sE S) l0 6), .ref ((sE S) l1 6)]) (D' := D6) (pc' := 74) rfl (ev_gk hl1 (ev_gk hl0 (rfl))) rfl ?_
  obtain ⟨v7, D7, hc7, hf⟩ := ev_bd_s hf
  refine ev_callSN hX YX11_copy ml_RX8_43 (mX11_copy hT (ev_tyk hT hl1 rfl rfl) (ev_tyk hT hl0 rfl rfl) hc7) (vs := [.ref ((sE S) l1 6), .ref ((sE S) l0 6)]) (st := []) (by decide) rfl rfl (by decide +kernel) hC ?_
  show F S D7 77 [some (.ref l0), some (.ref l1)] []
  exact ev_vret hR ev_sm.rf (Option.some.inj hf) hC (by decide +kernel)
theorem mX8_become {S : ev_S} {fu : Nat} {r : Int32 × ev_D} (hT : ev_Ty S) {l0 : Nat} {l1 : Nat} {D : ev_D} (hl0 : sK S l0 = 11) (hl1 : sK S l1 = 11) (hf : fX8_become (sL S) (sE S) fu l0 l1 D = some r) : ev_M 3 0 0 yX8_become cX8_become 2 none [.ref l0, .ref l1] S D S r :=
  ev_met (ini := false) (plainFor_of_name (by decide)) (fun h => by cases h) rfl (Nat.le_of_ble_eq_true rfl) (fun F hR => tX8_become (S := ev_z S) hR hT ⟨Nat.le_refl 0, Nat.le_refl 0⟩ hl0 hl1 hf)
set_option maxHeartbeats 4000000 in
set_option maxRecDepth 100000 in
theorem tX10_become {S : ev_S} {fu : Nat} {r : Int32 × ev_D} {F : ev_Fr} (hR : ev_R RX10 cX10_become 2 4 0 0 false none S r F) (hT : ev_Ty S) (hC : sC S ≤ 0 ∧ sA S ≤ 0) {l0 : Nat} {l1 : Nat} {D : ev_D} (hl0 : sK S l0 = 13) (hl1 : sK S l1 = 13) (hf : fX10_become (sL S) (sE S) fu l0 l1 D = some r) : F S D 0 [some (.ref l0), some (.ref l1)] [] := by
  have hX := hR.X
  unfold fX10_become at hf
  refine ev_blk hX lkok_RX10 [(.aload_n 0, 1, 0, 0, 0), (.getfield 12, 3, 10, 0, 0), (.aload_n 1, 1, 0, 0, 0), (.getfield 12, 3, 10, 0, 0)] (by decide +kernel) (g := (sK S l0 == 13) && ((sK S l1 == 13) && (true))) (lv' := [some (.ref l0), some (.ref l1)]) (st' := [.ref ((sE S) l1 0), .ref ((sE S) l0 0)]) (D' := D) (pc' := 8) rfl (ev_gk hl0 (ev_gk hl1 (rfl))) rfl ?_
  obtain ⟨v1, D1, hc1, hf⟩ := ev_bd_s hf
  refine ev_callV hX YX9_become ml_RX10_41 (mX9_become hT (ev_tyk hT hl0 rfl rfl) (ev_tyk hT hl1 rfl rfl) hc1) (vs := [.ref ((sE S) l1 0)]) (st := []) (by decide) 9 (ev_tyk hT hl0 rfl rfl) rfl rfl rfl (by decide +kernel) hC ?_
  show F S D1 11 [some (.ref l0), some (.ref l1)] []
  refine ev_blk hX lkok_RX10 [(.aload_n 0, 1, 0, 0, 0), (.getfield 23, 3, 10, 1, 0), (.aload_n 1, 1, 0, 0, 0), (.getfield 23, 3, 10, 1, 0)] (by decide +kernel) (g := (sK S l0 == 13) && ((sK S l1 == 13) && (true))) (lv' := [some (.ref l0), some (.ref l1)]) (st' := [.ref ((sE S) l1 1), .ref ((sE S) l0 1)]) (D' := D1) (pc' := 19) rfl (ev_gk hl0 (ev_gk hl1 (rfl))) rfl ?_
  obtain ⟨v2, D2, hc2, hf⟩ := ev_bd_s hf
  refine ev_callV hX YX0_become ml_RX10_45 (mX0_become hT (ev_tyk hT hl0 rfl rfl) (ev_tyk hT hl1 rfl rfl) hc2) (vs := [.ref ((sE S) l1 1)]) (st := []) (by decide) 0 (ev_tyk hT hl0 rfl rfl) rfl rfl rfl (by decide +kernel) hC ?_
  show F S D2 22 [some (.ref l0), some (.ref l1)] []
  refine ev_blk hX lkok_RX10 [(.aload_n 0, 1, 0, 0, 0), (.getfield 30, 3, 10, 2, 0), (.aload_n 1, 1, 0, 0, 0), (.getfield 30, 3, 10, 2, 0)] (by decide +kernel) (g := (sK S l0 == 13) && ((sK S l1 == 13) && (true))) (lv' := [some (.ref l0), some (.ref l1)]) (st' := [.ref ((sE S) l1 2), .ref ((sE S) l0 2)]) (D' := D2) (pc' := 30) rfl (ev_gk hl0 (ev_gk hl1 (rfl))) rfl ?_
  obtain ⟨v3, D3, hc3, hf⟩ := ev_bd_s hf
  refine ev_callV hX YX7_become ml_RX10_48 (mX7_become hT (ev_tyk hT hl0 rfl rfl) (ev_tyk hT hl1 rfl rfl) hc3) (vs := [.ref ((sE S) l1 2)]) (st := []) (by decide) 7 (ev_tyk hT hl0 rfl rfl) rfl rfl rfl (by decide +kernel) hC ?_
  show F S D3 33 [some (.ref l0), some (.ref l1)] []
  refine ev_blk hX lkok_RX10 [(.aload_n 0, 1, 0, 0, 0), (.getfield 37, 3, 10, 3, 0), (.aload_n 1, 1, 0, 0, 0), (.getfield 37, 3, 10, 3, 0)] (by decide +kernel) (g := (sK S l0 == 13) && ((sK S l1 == 13) && (true))) (lv' := [some (.ref l0), some (.ref l1)]) (st' := [.ref ((sE S) l1 3), .ref ((sE S) l0 3)]) (D' := D3) (pc' := 41) rfl (ev_gk hl0 (ev_gk hl1 (rfl))) rfl ?_
  obtain ⟨v4, D4, hc4, hf⟩ := ev_bd_s hf
  refine ev_callV hX YX8_become ml_RX10_51 (mX8_become hT (ev_tyk hT hl0 rfl rfl) (ev_tyk hT hl1 rfl rfl) hc4) (vs := [.ref ((sE S) l1 3)]) (st := []) (by decide) 8 (ev_tyk hT hl0 rfl rfl) rfl rfl rfl (by decide +kernel) hC ?_
  show F S D4 44 [some (.ref l0), some (.ref l1)] []
  exact ev_vret hR ev_sm.rf (Option.some.inj hf) hC (by decide +kernel)
theorem mX10_become {S : ev_S} {fu : Nat} {r : Int32 × ev_D} (hT : ev_Ty S) {l0 : Nat} {l1 : Nat} {D : ev_D} (hl0 : sK S l0 = 13) (hl1 : sK S l1 = 13) (hf : fX10_become (sL S) (sE S) fu l0 l1 D = some r) : ev_M 4 0 0 yX10_become cX10_become 2 none [.ref l0, .ref l1] S D S r :=
  ev_met (ini := false) (plainFor_of_name (by decide)) (fun h => by cases h) rfl (Nat.le_of_ble_eq_true rfl) (fun F hR => tX10_become (S := ev_z S) hR hT ⟨Nat.le_refl 0, Nat.le_refl 0⟩ hl0 hl1 hf)
