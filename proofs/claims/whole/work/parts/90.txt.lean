/-! ===== text: what it changes ===== -/
/-- k 0 .. 3: the text k was taken; k 4: none -/
def tX (k q j : Nat) : Prop := (q = 91 ∧ (j = 1 ∨ j = 2 ∨ j = 3 ∨ j = 8 ∨ j = 9 ∨ j = 10 ∨ j = 11)) ∨ (93 ≤ q ∧ q ≤ 105 ∧ ¬ ((q = 100 ∨ q = 102 ∨ q = 104) ∧ j = 1)) ∨ (107 ≤ q ∧ q ≤ 109) ∨ (q = 132 ∧ (j = 14 ∨ j = 15 ∨ j = 16 ∨ j = 17 ∨ j = 27 ∨ j = 28 ∨ j = 30 ∨ j = 31 ∨ j = 32)) ∨ ((q = 148 ∨ q = 149) ∧ 800 ≤ j) ∨ q = 150 ∨ ((144 ≤ q ∧ q ≤ 147) ∧ 32 ≤ j) ∨ (q = 151 ∧ 10 ≤ j) ∨ (q = 152 ∧ 48 ≤ j) ∨ (q = 153 ∧ 16 ≤ j) ∨ (q = 132 ∧ (j = 0 ∨ j = 13 ∨ j = 26 ∨ j = 33 ∨ j = 34)) ∨ (k = 0 ∧ ((14 ≤ q ∧ q ≤ 19) ∨ ((144 ≤ q ∧ q ≤ 147) ∧ j < 16) ∨ ((q = 148 ∨ q = 149) ∧ j < 400) ∨ (q = 143 ∧ j = 0))) ∨ (k = 1 ∧ (q = 22 ∨ (q = 21 ∧ j = 0) ∨ (q = 151 ∧ j < 10) ∨ (q = 132 ∧ j = 35))) ∨ (k = 2 ∧ (q = 24 ∨ (q = 23 ∧ j = 0) ∨ (q = 40 ∧ j = 0) ∨ (q = 152 ∧ j < 48) ∨ (q = 132 ∧ (j = 37 ∨ j = 3)))) ∨ (k = 3 ∧ (q = 26 ∨ (q = 25 ∧ j = 0) ∨ (q = 153 ∧ j < 16) ∨ (q = 132 ∧ j = 39)))
def tSC : List Nat := [91, 93, 94, 95, 96, 97, 98, 99, 100, 101, 102, 103, 104, 105, 107, 108, 109, 14, 15, 16, 17, 18, 19, 21, 22, 23, 24, 25, 26, 40, 143, 144, 145, 146, 147, 148, 149, 150, 151, 152, 153]
def tSF : List Nat := [0, 3, 13, 14, 15, 16, 17, 26, 27, 28, 30, 31, 32, 33, 34, 35, 37, 39]
theorem tSC_in : ∀ q, q < 200 → (q = 91 ∨ (93 ≤ q ∧ q ≤ 105) ∨ (107 ≤ q ∧ q ≤ 109) ∨ (14 ≤ q ∧ q ≤ 19) ∨ (21 ≤ q ∧ q ≤ 26) ∨ q = 40 ∨ (143 ≤ q ∧ q ≤ 153)) → mem tSC q = true := by decide +kernel
theorem tSF_in : ∀ j, j < 64 → (j = 0 ∨ j = 3 ∨ j = 13 ∨ j = 14 ∨ j = 15 ∨ j = 16 ∨ j = 17 ∨ j = 26 ∨ j = 27 ∨ j = 28 ∨ j = 30 ∨ j = 31 ∨ j = 32 ∨ j = 33 ∨ j = 34 ∨ j = 35 ∨ j = 37 ∨ j = 39) → mem tSF j = true := by decide +kernel
theorem tX_ex {k : Nat} {D2 D : ev_D} (hf : ∀ q j, ¬ tX k q j → D2 q j = D q j) : ex tSC tSF D2 D := by
  intro q j h1 h2
  refine hf q j fun z => ?_
  by_cases e : q = 132
  · have h3 := h2 e
    have : mem tSF j = true := tSF_in j (by unfold tX at z; omega) (by unfold tX at z; omega)
    rw [this] at h3
    cases h3
  · have : mem tSC q = true := tSC_in q (by unfold tX at z; omega) (by unfold tX at z; omega)
    rw [this] at h1
    cases h1
theorem ag_pt {rg : Nat → Nat} {gc gf : List Nat} {D' D : ev_D} (h1 : ∀ k, k ∈ gc → ∀ i, i < rg k → D' k i = D k i) (h2 : ∀ f, f ∈ gf → D' 132 f = D 132 f) : ag rg gc gf D' D := ⟨fun k hk i hi => h1 k (mem_iff.mp hk) i hi, fun f hf => h2 f (mem_iff.mp hf)⟩
theorem inv_tx {kp k : Nat} {D D2 : ev_D} (I : Inv kp D) (hf : ∀ q j, ¬ tX k q j → D2 q j = D q j) (hQ : g_Q D2) (h0 : k = 0 → g_L D2 D2) (h1 : k = 1 → g_R D2 D2) (h2 : k = 2 → g_D D2 D2 ∧ g_P D2) (h3 : k = 3 → g_C D2 D2) : Inv kp D2 := by
  obtain ⟨g0, gM, ⟨gT, gF, gB, gR, gD, gC, gS, gO, gE, gG, gU, gH, gN, gL⟩, gP, gQ, gZ, gK⟩ := I
  have he := tX_ex hf
  refine ⟨g0, ?_, ⟨k_T he rfl gT, k_F he rfl gF, k_B he rfl gB, ?_, ?_, ?_, k_S he rfl gS, k_O he rfl gO, k_E he rfl gE, k_G he rfl gG, k_U he rfl gU, k_H he rfl gH, k_N he rfl gN, ?_⟩, ?_, hQ, ?_, k_K he rfl gK⟩
  · refine g_M_eq (fun q hq => ?_) gM
    have := mem_iff.mp hq
    simp only [List.mem_cons, List.not_mem_nil, or_false] at this
    exact hf q 1 (by unfold tX; omega)
  · by_cases e : k = 1
    · exact h1 e
    · refine g_R_cg (ag_pt (fun q hq i hi => ?_) (fun f hf => by cases hf)) (ag_pt (fun q hq i hi => ?_) (fun f hf2 => ?_)) gR
      · simp only [List.mem_cons, List.not_mem_nil, or_false] at hq
        exact hf q i (by unfold tX; omega)
      · simp only [List.mem_cons, List.not_mem_nil, or_false] at hq
        subst hq
        have : i < 10 := hi
        exact hf 151 i (by unfold tX; omega)
      · simp only [List.mem_cons, List.not_mem_nil, or_false] at hf2
        subst hf2
        exact hf 132 35 (by unfold tX; omega)
  · by_cases e : k = 2
    · exact (h2 e).1
    · refine g_D_cg (ag_pt (fun q hq i hi => ?_) (fun f hf => by cases hf)) (ag_pt (fun q hq i hi => ?_) (fun f hf2 => ?_)) gD
      · simp only [List.mem_cons, List.not_mem_nil, or_false] at hq
        exact hf q i (by unfold tX; omega)
      · simp only [List.mem_cons, List.not_mem_nil, or_false] at hq
        subst hq
        have : i < 48 := hi
        exact hf 152 i (by unfold tX; omega)
      · simp only [List.mem_cons, List.not_mem_nil, or_false] at hf2
        subst hf2
        exact hf 132 37 (by unfold tX; omega)
  · by_cases e : k = 3
    · exact h3 e
    · refine g_C_cg (ag_pt (fun q hq i hi => ?_) (fun f hf => by cases hf)) (ag_pt (fun q hq i hi => ?_) (fun f hf2 => ?_)) gC
      · simp only [List.mem_cons, List.not_mem_nil, or_false] at hq
        exact hf q i (by unfold tX; omega)
      · simp only [List.mem_cons, List.not_mem_nil, or_false] at hq
        subst hq
        have : i < 16 := hi
        exact hf 153 i (by unfold tX; omega)
      · simp only [List.mem_cons, List.not_mem_nil, or_false] at hf2
        subst hf2
        exact hf 132 39 (by unfold tX; omega)
  · by_cases e : k = 0
    · exact h0 e
    · refine g_L_cg (ag_pt (fun q hq i hi => ?_) (fun f hf => by cases hf)) (ag_pt (fun q hq i hi => ?_) (fun f hf => by cases hf)) gL
      · simp only [List.mem_cons, List.not_mem_nil, or_false] at hq
        exact hf q i (by unfold tX; omega)
      · simp only [List.mem_cons, List.not_mem_nil, or_false] at hq
        rcases hq with rfl | rfl | rfl | rfl | rfl | rfl | rfl
        · exact hf 143 i (by unfold tX; omega)
        · have : i < 16 := hi
          exact hf 144 i (by unfold tX; omega)
        · have : i < 16 := hi
          exact hf 145 i (by unfold tX; omega)
        · have : i < 16 := hi
          exact hf 146 i (by unfold tX; omega)
        · have : i < 16 := hi
          exact hf 147 i (by unfold tX; omega)
        · have : i < 400 := hi
          exact hf 148 i (by unfold tX; omega)
        · have : i < 400 := hi
          exact hf 149 i (by unfold tX; omega)
  · by_cases e : k = 2
    · exact (h2 e).2
    · obtain ⟨g1, g2, g3, g4⟩ := gP
      have e40 : ∀ j, D2 40 j = D 40 j := fun j => hf 40 j (by unfold tX; omega)
      have e3 : D2 132 3 = D 132 3 := hf 132 3 (by unfold tX; omega)
      refine ⟨by rw [e40]; exact g1, by rw [e40]; exact g2, by rw [e3, e40]; exact g3, fun j hj => ?_⟩
      rw [e40] at hj
      have := g4 j hj
      rw [← e40 0, ← e40 1] at this
      refine g_P1_cg (fun q hq => ?_) (Nat.mod_lt _ (by decide)) this
      funext i
      refine hf q i ?_
      have hq2 : (pCl.all fun q => decide (¬ (q = 91 ∨ (93 ≤ q ∧ q ≤ 105) ∨ (107 ≤ q ∧ q ≤ 109) ∨ (14 ≤ q ∧ q ≤ 26) ∨ (143 ≤ q ∧ q ≤ 153) ∨ q = 132))) = true := by decide +kernel
      have h5 := of_decide_eq_true (List.all_eq_true.mp hq2 q (mem_iff.mp hq))
      unfold tX
      omega
  · obtain ⟨z1, z2, z3, z4, z5, z6, z7, z8, z9⟩ := gZ
    have e : ∀ q j, ¬ tX k q j → D2 q j = D q j := hf
    refine ⟨fun h hh => by rw [e 131 h (by unfold tX; omega)]; exact z1 h hh, fun i hi => by rw [e 142 i (by unfold tX; omega)]; exact z2 i hi, by rw [e 100 1 (by unfold tX; omega)]; exact z3, by rw [e 102 1 (by unfold tX; omega)]; exact z4, by rw [e 104 1 (by unfold tX; omega)]; exact z5, by rw [e 121 0 (by unfold tX; omega)]; exact z6, by rw [e 121 1 (by unfold tX; omega)]; exact z7, by rw [e 132 5 (by unfold tX; omega)]; exact z8, by rw [e 132 43 (by unfold tX; omega)]; exact z9⟩
/-! lines that were read are good -/
theorem lns_g {α : Type} {K : Nat → Nat} {bg : Nat → Bool} {one : Nat → tR α} {Q : α → Prop} (h : ∀ i j a, bg (K i) = true → one i = .inr (j, a) → Q a) : ∀ (d i : Nat) (ls : List α) (j : Nat) (ls' : List α), (∀ a, a ∈ ls → Q a) → lns K bg one d i ls = .inr (j, ls') → ∀ a, a ∈ ls' → Q a
  | 0, i, ls, j, ls', _, e => by cases e
  | d + 1, i, ls, j, ls', hl, e => by
    rw [lns] at e
    by_cases k0 : K i = 0
    · rw [if_pos k0] at e
      cases e
      exact hl
    · rw [if_neg k0] at e
      cases hb : bg (K i) with
      | false => rw [if_pos hb] at e; cases e
      | true =>
        rw [if_neg (by rw [hb]; decide)] at e
        by_cases l16 : ls.length = 16
        · rw [if_pos l16] at e; cases e
        · rw [if_neg l16] at e
          cases e1 : one i with
          | inl x => rw [e1] at e; cases e
          | inr x =>
            obtain ⟨j1, a⟩ := x
            rw [e1] at e
            dsimp only at e
            by_cases k59 : K j1 = 59
            · rw [if_pos k59] at e
              refine lns_g h d (j1 + 1) (ls ++ [a]) j ls' (fun x hx => ?_) e
              rcases List.mem_append.mp hx with y | y
              · exact hl x y
              · rw [List.mem_singleton] at y
                rw [y]
                exact h i j1 a hb e1
            · rw [if_neg k59] at e; cases e
theorem chL_g {K V : Nat → Nat} : ∀ (d i s j s' : Nat), nad s → chL K V d i s = .inr (j, s') → nad s'
  | 0, i, s, j, s', _, e => by cases e
  | d + 1, i, s, j, s', hs, e => by
    rw [chL] at e
    by_cases k2 : K i = 2
    · rw [if_pos k2] at e
      by_cases v6 : V i ≤ 6 ∧ (brd s).testBit (V i) = false
      · rw [if_pos v6] at e
        have h := (brd_ok hs (show V i < 7 by omega) v6.2).1
        by_cases k3 : K (i + 1) = 2
        · rw [if_pos k3] at e
          exact chL_g d (i + 1) _ j s' h e
        · rw [if_neg k3] at e
          cases e
          exact h
      · rw [if_neg v6] at e; cases e
    · rw [if_neg k2] at e; cases e
theorem lnR_g {K V : Nat → Nat} {R i j : Nat} {a : Nat × Nat} (h : lnR K V R i = .inr (j, a)) : a.1 < R ∧ a.2 < R := by
  unfold lnR at h
  by_cases k1 : K (i + 1) = 2
  · rw [if_pos k1] at h
    by_cases v1 : V (i + 1) < R
    · rw [if_pos v1] at h
      by_cases k2 : K (i + 2) = 275
      · rw [if_pos k2] at h
        by_cases k3 : K (i + 3) = 2
        · rw [if_pos k3] at h
          by_cases v3 : V (i + 3) < R ∧ V (i + 3) ≠ V (i + 1)
          · rw [if_pos v3] at h
            cases h
            exact ⟨v1, v3.1⟩
          · rw [if_neg v3] at h; cases h
        · rw [if_neg k3] at h; cases h
      · rw [if_neg k2] at h; cases h
    · rw [if_neg v1] at h; cases h
  · rw [if_neg k1] at h; cases h
theorem lnD_g {K V : Nat → Nat} {i j : Nat} {a : Nat × Nat × Nat} (h : lnD K V i = .inr (j, a)) : a.1 ≤ 23 ∧ a.2.1 ≤ 5 ∧ a.2.2 ≤ (if a.2.1 = 5 then 9 else 99) := by
  unfold lnD at h
  by_cases k1 : K (i + 1) = 2
  · rw [if_pos k1] at h
    by_cases v1 : V (i + 1) ≤ 23
    · rw [if_pos v1] at h
      by_cases k2 : K (i + 2) = 271 ∨ (277 ≤ K (i + 2) ∧ K (i + 2) ≤ 281)
      · rw [if_pos k2] at h
        by_cases k3 : K (i + 3) = 2
        · rw [if_pos k3] at h
          by_cases k4 : K (i + 2) = 271
          · rw [if_pos k4, if_pos k4] at h
            by_cases v3 : V (i + 3) ≤ 9
            · rw [if_pos v3] at h
              cases h
              exact ⟨v1, Nat.le_refl _, v3⟩
            · rw [if_neg v3] at h; cases h
          · rw [if_neg k4, if_neg k4] at h
            by_cases v3 : V (i + 3) ≤ 99
            · rw [if_pos v3] at h
              cases h
              refine ⟨v1, by show K (i + 2) - 277 ≤ 5; omega, ?_⟩
              show V (i + 3) ≤ (if K (i + 2) - 277 = 5 then 9 else 99)
              rw [if_neg (by omega)]
              exact v3
            · rw [if_neg v3] at h; cases h
        · rw [if_neg k3] at h; cases h
      · rw [if_neg k2] at h; cases h
    · rw [if_neg v1] at h; cases h
  · rw [if_neg k1] at h; cases h
theorem lnL_g {K V : Nat → Nat} (hV : ∀ i, K i = 2 → V i < 10000) {i j : Nat} {a : lLn} (hk : 256 ≤ K i ∧ K i ≤ 258) (h : lnL K V i = .inr (j, a)) : a.1 ≤ 2 ∧ vzS 3 a.2.1 ∧ ∀ p, a.2.2 = some p → vzB 24 p := by
  unfold lnL at h
  cases e : sm K V (i + 1) with
  | inl x => rw [e] at h; cases h
  | inr x =>
    obtain ⟨j1, l⟩ := x
    rw [e] at h
    dsimp only at h
    by_cases k : K j1 = 259
    · rw [if_pos k] at h
      cases e2 : tr K V 10 0 (j1 + 1) with
      | inl x => rw [e2] at h; cases h
      | inr x =>
        obtain ⟨j2, p⟩ := x
        rw [e2] at h
        cases h
        exact ⟨by show K i - 256 ≤ 2; omega, sm_g hV e, fun p' hp => by cases hp; exact tr_g hV 10 0 _ _ _ e2⟩
    · rw [if_neg k] at h
      cases h
      exact ⟨by show K i - 256 ≤ 2; omega, sm_g hV e, fun p hp => by cases hp⟩
