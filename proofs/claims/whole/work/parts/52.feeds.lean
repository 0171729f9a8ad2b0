/-! ===== feeds ===== -/
def cnt (p : Nat → Bool) (n : Nat) : Nat := up (fun i s => if p i then s + 1 else s) 0 n 0
theorem cnt_s (p : Nat → Bool) (n : Nat) : cnt p (n + 1) = if p n then cnt p n + 1 else cnt p n := by
  rw [cnt, up_l, Nat.zero_add]; rfl
theorem cnt_mono {p q : Nat → Bool} (n : Nat) (h : ∀ i, i < n → p i = true → q i = true) : cnt p n ≤ cnt q n := by
  induction n with
  | zero => exact Nat.le_refl _
  | succ n ih =>
    have := ih fun i hi => h i (by omega)
    rw [cnt_s, cnt_s]
    cases hp : p n
    · rw [if_neg (by decide)]
      split <;> omega
    · rw [if_pos rfl, if_pos (h n (by omega) hp)]
      omega
theorem cnt_lt {p q : Nat → Bool} (n : Nat) (h : ∀ i, i < n → p i = true → q i = true) {j : Nat} (hj : j < n) (h1 : q j = true) (h2 : p j = false) : cnt p n < cnt q n := by
  induction n with
  | zero => omega
  | succ n ih =>
    rw [cnt_s, cnt_s]
    by_cases e : j = n
    · subst e
      have := cnt_mono j fun i hi => h i (by omega)
      rw [h1, h2, if_neg (by decide), if_pos rfl]
      omega
    · have := ih (fun i hi => h i (by omega)) (by omega)
      cases hp : p n
      · rw [if_neg (by decide)]
        split <;> omega
      · rw [if_pos rfl, if_pos (h n (by omega) hp)]
        omega
theorem cnt_le (p : Nat → Bool) (n : Nat) : cnt p n ≤ n := by
  induction n with
  | zero => exact Nat.le_refl _
  | succ n ih => rw [cnt_s]; split <;> omega
theorem cnt_cg {p q : Nat → Bool} (n : Nat) (h : ∀ i, i < n → p i = q i) : cnt p n = cnt q n := up_cg (fun j _ h2 a => by rw [h j (by omega)]) 0
/-- fed ahead of r -/
def pA (w : Nat → Nat) (r q : Nat) : Bool := decide (w r < w q) || (decide (w q = w r) && decide (q < r))
def ah (w : Nat → Nat) (R r : Nat) : Nat := cnt (pA w r) R
theorem ah_all (w : Nat → Nat) (n : Nat) : ∀ t, t < n → ∃ r, r < n ∧ ah w n r = t := by
  induction n with
  | zero => intro t h; omega
  | succ n ih =>
    intro t ht
    have hk : ah w (n + 1) n = cnt (fun q => decide (w n ≤ w q)) n := by
      rw [ah, cnt_s, if_neg (by unfold pA; simp)]
      refine cnt_cg n fun q hq => ?_
      unfold pA
      by_cases h1 : w n < w q
      · rw [decide_eq_true h1, decide_eq_true (show w n ≤ w q by omega)]; rfl
      · rw [decide_eq_false h1, Bool.false_or, decide_eq_true hq, Bool.and_true]
        exact decide_eq_decide.mpr (by omega)
    have hkn : cnt (fun q => decide (w n ≤ w q)) n ≤ n := cnt_le _ _
    by_cases h1 : t = cnt (fun q => decide (w n ≤ w q)) n
    · exact ⟨n, by omega, hk.trans h1.symm⟩
    by_cases h2 : t < cnt (fun q => decide (w n ≤ w q)) n
    · obtain ⟨r, hr, er⟩ := ih t (by omega)
      refine ⟨r, by omega, ?_⟩
      have hw : w n ≤ w r := by
        refine Nat.le_of_not_lt fun hlt => ?_
        have := cnt_mono (p := fun q => decide (w n ≤ w q)) (q := pA w r) n fun q _ hq => by
          have hq' := of_decide_eq_true hq
          unfold pA
          rw [decide_eq_true (show w r < w q by omega)]; rfl
        unfold ah at er
        omega
      rw [ah, cnt_s, if_neg]
      · exact er
      · unfold pA
        rw [decide_eq_false (show ¬ w r < w n by omega), decide_eq_false (show ¬ n < r by omega), Bool.and_false]; decide
    · obtain ⟨r, hr, er⟩ := ih (t - 1) (by omega)
      refine ⟨r, by omega, ?_⟩
      have hw : w r < w n := by
        refine Nat.lt_of_not_le fun hle => ?_
        have := cnt_lt (p := pA w r) (q := fun q => decide (w n ≤ w q)) n (fun q _ hq => by
          unfold pA at hq
          rw [Bool.or_eq_true, Bool.and_eq_true, decide_eq_true_eq, decide_eq_true_eq, decide_eq_true_eq] at hq
          exact decide_eq_true (by omega)) hr (decide_eq_true hle) (by unfold pA; simp)
        unfold ah at er
        omega
      rw [ah, cnt_s, if_pos]
      · unfold ah at er
        omega
      · unfold pA
        rw [decide_eq_true hw]; rfl
section
variable {kp fu R : Nat} {w : Nat → Nat} {D : ev_D}
theorem e_turn4 (hR : R ≤ 10) (e5 : D 3 5 = nI R) (hw : ∀ r, r < R → fX3_weightOf sh_L (sh_E kp) fu 124 (nI r) D = some (nI (w r), D)) (hw9 : ∀ r, r < R → w r ≤ 108) {r : Nat} (hr : r < R) (k : Nat) : ∀ (i f s : Nat), i + k = R → k < f → fX3_turnToBeFed_4 sh_L (sh_E kp) fu f 124 (nI r) (nI s) (nI i) D = some (nI (up (fun i s => if pA w r i then s + 1 else s) i k s), D) := by
  induction k with
  | zero =>
    intro i f s h1 h2
    obtain ⟨f, rfl⟩ : ∃ g, f = g + 1 := ⟨f - 1, by omega⟩
    rw [fX3_turnToBeFed_4, e_124_0, e5, if_pos (nI_le (by omega) (by omega)), up_0]
  | succ k ih =>
    intro i f s h1 h2
    obtain ⟨f, rfl⟩ : ∃ g, f = g + 1 := ⟨f - 1, by omega⟩
    have a1 := hw9 r hr
    have a2 := hw9 i (by omega)
    rw [fX3_turnToBeFed_4, e_124_0, e5, if_neg (nI_ge (by omega) (by omega)), hw i (by omega), bdS, hw r hr, bdS, hw i (by omega), bdS, hw r hr, bdS, up_s, i_1, addK, addK]
    unfold pA
    by_cases h3 : w r < w i
    · rw [if_pos (nI_lt h3 (by omega)), decide_eq_true h3]
      exact ih (i + 1) f (s + 1) (by omega) (by omega)
    · rw [if_neg (nI_nlt (by omega) (by omega)), decide_eq_false h3, Bool.false_or]
      by_cases h4 : w i = w r
      · rw [if_pos (congrArg nI h4), decide_eq_true h4, Bool.true_and]
        by_cases h5 : i < r
        · rw [if_neg (nI_ge h5 (by omega)), decide_eq_true h5]
          exact ih (i + 1) f (s + 1) (by omega) (by omega)
        · rw [if_pos (nI_le (by omega) (by omega)), decide_eq_false h5]
          exact ih (i + 1) f s (by omega) (by omega)
      · rw [if_neg fun e => h4 ((nI_eq (by omega) (by omega)).mp e), decide_eq_false h4, Bool.false_and]
        exact ih (i + 1) f s (by omega) (by omega)
theorem e_ahead4 (hR : R ≤ 10) (e7 : D 132 7 = nI R) (hw : ∀ r, r < R → fX12_needOf sh_L (sh_E kp) fu 132 (nI r) D = some (nI (w r), D)) (hw9 : ∀ r, r < R → w r ≤ 108) {r : Nat} (hr : r < R) (k : Nat) : ∀ (i f s : Nat), i + k = R → k < f → fX12_fedAhead_4 sh_L (sh_E kp) fu f 132 (nI r) (nI s) (nI i) D = some (nI (up (fun i s => if pA w r i then s + 1 else s) i k s), D) := by
  induction k with
  | zero =>
    intro i f s h1 h2
    obtain ⟨f, rfl⟩ : ∃ g, f = g + 1 := ⟨f - 1, by omega⟩
    rw [fX12_fedAhead_4, e7, if_pos (nI_le (by omega) (by omega)), up_0]
  | succ k ih =>
    intro i f s h1 h2
    obtain ⟨f, rfl⟩ : ∃ g, f = g + 1 := ⟨f - 1, by omega⟩
    have a1 := hw9 r hr
    have a2 := hw9 i (by omega)
    rw [fX12_fedAhead_4, e7, if_neg (nI_ge (by omega) (by omega)), hw i (by omega), bdS, hw r hr, bdS, hw i (by omega), bdS, hw r hr, bdS, up_s, i_1, addK, addK]
    unfold pA
    by_cases h3 : w r < w i
    · rw [if_pos (nI_lt h3 (by omega)), decide_eq_true h3]
      exact ih (i + 1) f (s + 1) (by omega) (by omega)
    · rw [if_neg (nI_nlt (by omega) (by omega)), decide_eq_false h3, Bool.false_or]
      by_cases h4 : w i = w r
      · rw [if_pos (congrArg nI h4), decide_eq_true h4, Bool.true_and]
        by_cases h5 : i < r
        · rw [if_neg (nI_ge h5 (by omega)), decide_eq_true h5]
          exact ih (i + 1) f (s + 1) (by omega) (by omega)
        · rw [if_pos (nI_le (by omega) (by omega)), decide_eq_false h5]
          exact ih (i + 1) f s (by omega) (by omega)
      · rw [if_neg fun e => h4 ((nI_eq (by omega) (by omega)).mp e), decide_eq_false h4, Bool.false_and]
        exact ih (i + 1) f s (by omega) (by omega)
theorem e_fsum (hR : R ≤ 10) (e5 : D 3 5 = nI R) (hw : ∀ r, r < R → fX3_weightOf sh_L (sh_E kp) fu 124 (nI r) D = some (nI (w r), D)) (ht : ∀ r, r < R → fX3_turnToBeFed sh_L (sh_E kp) fu 124 (nI r) D = some (nI (ah w R r), D)) (k : Nat) : ∀ (i f s : Nat), i + k = R → k < f → fX3_feedingSum_4 sh_L (sh_E kp) fu f 124 (nI s) (nI i) D = some (nI (up (fun r s => s + w r * (ah w R r + 1)) i k s), D) := by
  induction k with
  | zero =>
    intro i f s h1 h2
    obtain ⟨f, rfl⟩ : ∃ g, f = g + 1 := ⟨f - 1, by omega⟩
    rw [fX3_feedingSum_4, e_124_0, e5, if_pos (nI_le (by omega) (by omega)), up_0]
  | succ k ih =>
    intro i f s h1 h2
    obtain ⟨f, rfl⟩ : ∃ g, f = g + 1 := ⟨f - 1, by omega⟩
    rw [fX3_feedingSum_4, e_124_0, e5, if_neg (nI_ge (by omega) (by omega)), hw i (by omega), bdS, ht i (by omega), bdS, up_s, i_1, addK, addK, pk_mul, addK]
    exact ih (i + 1) f _ (by omega) (by omega)
theorem e_fsumM (hR : R ≤ 10) (e7 : D 132 7 = nI R) (hw : ∀ r, r < R → fX12_needOf sh_L (sh_E kp) fu 132 (nI r) D = some (nI (w r), D)) (ht : ∀ r, r < R → fX12_fedAhead sh_L (sh_E kp) fu 132 (nI r) D = some (nI (ah w R r), D)) (k : Nat) : ∀ (i f s : Nat), i + k = R → k < f → fX12_feeds_32 sh_L (sh_E kp) fu f 132 (nI 0) (nI s) (nI i) D = some (nI (up (fun r s => s + w r * (ah w R r + 1)) i k s), D) := by
  induction k with
  | zero =>
    intro i f s h1 h2
    obtain ⟨f, rfl⟩ : ∃ g, f = g + 1 := ⟨f - 1, by omega⟩
    rw [fX12_feeds_32, e7, if_pos (nI_le (by omega) (by omega)), up_0]
  | succ k ih =>
    intro i f s h1 h2
    obtain ⟨f, rfl⟩ : ∃ g, f = g + 1 := ⟨f - 1, by omega⟩
    have hc : ah w R i ≤ R := cnt_le _ _
    rw [fX12_feeds_32, e7, if_neg (nI_ge (by omega) (by omega)), ht i (by omega), bdS, if_neg, hw i (by omega), bdS, ht i (by omega), bdS, up_s, i_1, addK, addK, pk_mul, addK]
    · exact ih (i + 1) f _ (by omega) (by omega)
    · intro e
      have h3 : nI 0 - nI 10 < 0 := pk_sneg (by decide) (by decide)
      rw [i_10] at e
      rw [← e] at h3
      exact nI_pos (by omega) h3
theorem e_fedAt {D' : ev_D} {t : Nat} (hR : R ≤ 10) (e5 : D 3 5 = nI R) (e7 : D' 132 7 = nI R) (ht : ∀ r, r < R → fX3_turnToBeFed sh_L (sh_E kp) fu 124 (nI r) D = some (nI (ah w R r), D)) (hw2 : ∀ r, r < R → fX12_needOf sh_L (sh_E kp) fu 132 (nI r) D' = some (nI (w r), D')) (ht2 : ∀ r, r < R → fX12_fedAhead sh_L (sh_E kp) fu 132 (nI r) D' = some (nI (ah w R r), D')) (htl : t < R) (k : Nat) : ∀ (i f g s : Nat), i + k = R → k < f → k < g → (∃ r, i ≤ r ∧ r < R ∧ ah w R r = t) → ∃ x, fX3_fedAt_2 sh_L (sh_E kp) fu f 124 (nI t) (nI i) D = some (nI x, D) ∧ fX12_feeds_32 sh_L (sh_E kp) fu g 132 (nI (10 + t)) (nI s) (nI i) D' = some (nI x, D') := by
  induction k with
  | zero => intro i f g s h1 h2 h3 ⟨r, h4, h5, h6⟩; omega
  | succ k ih =>
    intro i f g s h1 h2 h3 ⟨r, h4, h5, h6⟩
    obtain ⟨f, rfl⟩ : ∃ g, f = g + 1 := ⟨f - 1, by omega⟩
    obtain ⟨g, rfl⟩ : ∃ f, g = f + 1 := ⟨g - 1, by omega⟩
    have hc : ah w R i ≤ R := cnt_le _ _
    by_cases h7 : ah w R i = t
    · refine ⟨i, ?_, ?_⟩
      · rw [fX3_fedAt_2, e_124_0, e5, if_neg (nI_ge (by omega) (by omega)), ht i (by omega), bdS, if_pos (congrArg nI h7)]
      · rw [fX12_feeds_32, e7, if_neg (nI_ge (by omega) (by omega)), ht2 i (by omega), bdS, i_10, pk_sub (by omega), Nat.add_sub_cancel_left, if_pos (congrArg nI h7)]
    · obtain ⟨x, x1, x2⟩ := ih (i + 1) f g (s + w i * (ah w R i + 1)) (by omega) (by omega) (by omega) ⟨r, by
        have : r ≠ i := fun e => h7 (e ▸ h6)
        omega, h5, h6⟩
      refine ⟨x, ?_, ?_⟩
      · rw [fX3_fedAt_2, e_124_0, e5, if_neg (nI_ge (by omega) (by omega)), ht i (by omega), bdS, if_neg (fun e => h7 ((nI_eq (by omega) (by omega)).mp e)), i_1, addK]
        exact x1
      · rw [fX12_feeds_32, e7, if_neg (nI_ge (by omega) (by omega)), ht2 i (by omega), bdS, i_10, pk_sub (by omega), Nat.add_sub_cancel_left, if_neg (fun e => h7 ((nI_eq (by omega) (by omega)).mp e)), hw2 i (by omega), bdS, ht2 i (by omega), bdS, i_1, addK, addK, pk_mul, addK]
        exact x2
end
theorem p_feeds {kp fu : Nat} (hfu : 30000 ≤ fu) (a1 : Int32) (D : ev_D) (h : Inv kp D) : pl kp (fX11_feeds sh_L (sh_E kp) fu 1 a1) (fX12_feeds sh_L (sh_E kp) fu 132 a1) D := by
  have h0 := h
  obtain ⟨g0, gM, ⟨gT, gF, gB, gR, gD, gC, gS, gO, gE, gG, gU, gH, gN, gL⟩, gP, gQ, gZ, gK⟩ := h
  obtain ⟨R, hR, eR⟩ := gT.1.1
  have q11 := gF.1
  rw [eR] at q11
  have q11' : (ev_up D 132 0 (nI 0)) 132 7 = nI R := by simp (disch := omega) only [upA, neF, eqTn, true_and, false_and, and_false, and_true, and_self, reduceIte]; exact q11
  have b10 := gT.1.2.2.2.2.2.2.2.2.2.1
  have b11 := gT.1.2.2.2.2.2.2.2.2.2.2.1
  have q8 := gT.2.2.2.2.2.2.2.2.2.2.1
  have f5 := gF.2.2.2.2
  have hu : ∀ r, r < R → D 9 r = nI (nv (D 9 r)) ∧ nv (D 9 r) ≤ 99 := fun r hr => bI_nv (by decide) (b11 r (by omega))
  have ar : ∀ r, r < R → D 8 r = nI (nv (D 8 r)) ∧ nv (D 8 r) ≤ 9 := fun r hr => bI_nv (by decide) (b10 r (by omega))
  have hw : ∀ r, r < R → fX3_weightOf sh_L (sh_E kp) fu 124 (nI r) D = some (nI ((fun r => nv (D 9 r) + nv (D 8 r)) r), D) := fun r hr => by
    rw [fX3_weightOf, e_124_0, e_has1 _ _ _ _ hr hR eR, bdS, i_0, if_neg (by decide), e_3_12, e_3_11, l_9, l_8, gdI (by omega) (by omega), gdI (by omega) (by omega), nI_clamp (by omega), (hu r hr).1, (ar r hr).1, addK]
  have hw9 : ∀ r, r < R → (fun r => nv (D 9 r) + nv (D 8 r)) r ≤ 108 := fun r hr => by
    have := (hu r hr).2
    have := (ar r hr).2
    show nv (D 9 r) + nv (D 8 r) ≤ 108
    omega
  have hw2 : ∀ r, r < R → fX12_needOf sh_L (sh_E kp) fu 132 (nI r) (ev_up D 132 0 (nI 0)) = some (nI ((fun r => nv (D 9 r) + nv (D 8 r)) r), ev_up D 132 0 (nI 0)) := fun r hr => by
    have z1 : (ev_up D 132 0 (nI 0)) 133 (14 + r) = nI (nv (D 9 r)) := by rw [upN _ _ _ _ (by decide)]; exact (q8 r (by omega)).trans (hu r hr).1
    have z2 : (ev_up D 132 0 (nI 0)) 139 r = nI (nv (D 8 r)) := by rw [upN _ _ _ _ (by decide)]; exact (f5 r (by omega)).trans (ar r hr).1
    rw [fX12_needOf, i_14, addK, e_132_1, l_133, e_132_10, l_139, gdI (by omega) (by omega), gdI (by omega) (by omega), nI_clamp (by omega), nI_clamp (by omega), z1, z2, addK]
  generalize (fun r => nv (D 9 r) + nv (D 8 r)) = w at hw hw9 hw2
  have ht : ∀ r, r < R → fX3_turnToBeFed sh_L (sh_E kp) fu 124 (nI r) D = some (nI (ah w R r), D) := fun r hr => by
    rw [fX3_turnToBeFed, i_0]
    exact e_turn4 hR eR hw hw9 hr R 0 fu 0 (by omega) (by omega)
  have ht2 : ∀ r, r < R → fX12_fedAhead sh_L (sh_E kp) fu 132 (nI r) (ev_up D 132 0 (nI 0)) = some (nI (ah w R r), ev_up D 132 0 (nI 0)) := fun r hr => by
    rw [fX12_fedAhead, i_0]
    exact e_ahead4 hR q11' hw2 hw9 hr R 0 fu 0 (by omega) (by omega)
  by_cases ha0 : a1 = nI 0
  · subst ha0
    refine pl_mk (r := nI (up (fun r s => s + w r * (ah w R r + 1)) 0 R 0)) (D1 := D) (D2 := ev_up D 132 0 (nI 0)) ?_ ?_ (Inv_s (by repeat (first | exact ex_rf _ _ _ | refine ex_up ?_ rfl)) h0)
    · rw [fX11_feeds, i_0, if_pos rfl, e_1_5, fX3_feedingSum, i_0, e_fsum hR eR hw ht R 0 fu 0 (by omega) (by omega), bdS]
    · rw [fX12_feeds, i_0, if_pos rfl, e_fsumM hR q11' hw2 ht2 R 0 fu 0 (by omega) (by omega)]
  rcases in_or a1 (a := 10) (b := 9 + R) (by omega) (by omega) with hb | ⟨w10, h1, h2, rfl⟩
  · apply pl_mk
    · conv => lhs; simp (disch := omega) only [fX11_feeds, ha0, eR, e_within0 _ _ _ _ hb, ↓mm1, ↓mm9, ↓mm100, ↓mm8, bdS, gdI, gdZ, eq_self, e_within, e_isInM, e_isBell, addK, pk_mul, nI_clamp, ofN, true_and, false_and, and_false, and_true, and_self, ltT, ltF, leT, leF, eqF, m1F, m1F2, m1L, m1L2, m1G, i_0, i_1, i_2, i_3, i_4, i_5, i_6, i_7, i_8, i_9, i_10, i_11, i_12, i_14, i_15, i_16, i_17, i_18, i_19, i_20, i_21, i_23, i_24, i_25, i_26, i_31, i_32, i_34, i_40, i_41, i_42, i_43, i_44, i_45, i_47, i_48, i_57, i_59, i_60, i_61, i_62, i_63, i_65, i_80, i_90, i_97, i_98, i_99, i_100, i_122, i_150, i_151, i_255, i_256, i_258, i_259, i_260, i_261, i_262, i_263, i_271, i_273, i_274, i_275, i_276, i_277, i_281, i_282, i_380, i_400, i_500, i_600, i_800, i_999, i_1000, i_9999, i_10000, i_10100, i_10101, i_10102, i_10103, i_10104, i_10105, i_10106, i_10107, i_10108, i_10109, i_27720, i_65535, i_1664525, i_100000000, i_252645135, i_858993459, i_1013904223, i_1431655765, e_1_0, e_1_1, e_1_2, e_1_3, e_1_4, e_1_5, e_2_0, e_2_1, e_2_2, e_2_3, e_3_7, e_3_8, e_3_9, e_3_10, e_3_11, e_3_12, e_3_13, e_11_2, e_13_0, e_13_1, e_13_2, e_13_3, e_14_2, e_14_3, e_14_4, e_14_5, e_14_6, e_14_7, e_21_2, e_23_2, e_25_2, e_27_0, e_27_1, e_27_2, e_27_3, e_27_4, e_27_5, e_27_6, e_28_2, e_30_2, e_32_2, e_34_2, e_36_2, e_40_2, e_40_3, e_41_0, e_41_1, e_41_2, e_41_3, e_41_4, e_41_5, e_91_0, e_91_4, e_91_5, e_91_6, e_91_7, e_92_0, e_92_1, e_92_2, e_92_3, e_93_2, e_93_3, e_93_4, e_93_5, e_93_6, e_93_7, e_100_2, e_102_2, e_104_2, e_110_0, e_110_1, e_110_2, e_110_3, e_112_0, e_112_1, e_112_2, e_112_3, e_113_7, e_113_8, e_113_9, e_113_10, e_113_11, e_113_12, e_113_13, e_121_2, e_124_0, e_124_1, e_124_2, e_124_3, e_124_4, e_124_5, e_124_6, e_124_7, e_124_8, e_124_9, l_4, l_5, l_6, l_7, l_8, l_9, l_10, l_12, l_15, l_16, l_17, l_18, l_19, l_20, l_22, l_24, l_26, l_29, l_31, l_33, l_35, l_37, l_38, l_39, l_41, l_42, l_94, l_95, l_96, l_97, l_98, l_99, l_101, l_103, l_105, l_106, l_107, l_108, l_109, l_111, l_114, l_115, l_116, l_117, l_118, l_119, l_120, l_123, l_125, l_126, l_127, l_128, l_129, l_130, l_131, e_132_1, e_132_2, e_132_4, e_132_6, e_132_8, e_132_9, e_132_10, e_132_11, e_132_12, e_132_18, e_132_19, e_132_20, e_132_21, e_132_22, e_132_23, e_132_24, e_132_25, e_132_29, e_132_36, e_132_38, e_132_40, e_132_41, e_132_42, e_132_44, e_132_46, e_132_47, e_132_49, e_132_50, e_132_51, e_132_52, e_132_54, e_132_55, e_132_56, e_132_58, e_132_60, e_132_61, e_132_62, e_132_66, l_133, l_134, l_135, l_136, l_137, l_138, l_139, l_140, l_141, l_142, l_143, l_144, l_145, l_146, l_147, l_148, l_149, l_150, l_151, l_152, l_153, l_154, l_155, l_156, l_157, l_158, l_159, l_160, l_161, l_162, l_163, l_164, l_165, l_166, l_167, l_168, l_169, l_170, upA, reduceIte, neF]
    · conv => lhs; simp (disch := omega) only [fX12_feeds, ha0, q11, e_isInM0 _ _ _ _ _ hb, ↓mm1, ↓mm9, ↓mm100, ↓mm8, bdS, gdI, gdZ, eq_self, e_within, e_isInM, e_isBell, addK, pk_mul, nI_clamp, ofN, true_and, false_and, and_false, and_true, and_self, ltT, ltF, leT, leF, eqF, m1F, m1F2, m1L, m1L2, m1G, i_0, i_1, i_2, i_3, i_4, i_5, i_6, i_7, i_8, i_9, i_10, i_11, i_12, i_14, i_15, i_16, i_17, i_18, i_19, i_20, i_21, i_23, i_24, i_25, i_26, i_31, i_32, i_34, i_40, i_41, i_42, i_43, i_44, i_45, i_47, i_48, i_57, i_59, i_60, i_61, i_62, i_63, i_65, i_80, i_90, i_97, i_98, i_99, i_100, i_122, i_150, i_151, i_255, i_256, i_258, i_259, i_260, i_261, i_262, i_263, i_271, i_273, i_274, i_275, i_276, i_277, i_281, i_282, i_380, i_400, i_500, i_600, i_800, i_999, i_1000, i_9999, i_10000, i_10100, i_10101, i_10102, i_10103, i_10104, i_10105, i_10106, i_10107, i_10108, i_10109, i_27720, i_65535, i_1664525, i_100000000, i_252645135, i_858993459, i_1013904223, i_1431655765, e_1_0, e_1_1, e_1_2, e_1_3, e_1_4, e_1_5, e_2_0, e_2_1, e_2_2, e_2_3, e_3_7, e_3_8, e_3_9, e_3_10, e_3_11, e_3_12, e_3_13, e_11_2, e_13_0, e_13_1, e_13_2, e_13_3, e_14_2, e_14_3, e_14_4, e_14_5, e_14_6, e_14_7, e_21_2, e_23_2, e_25_2, e_27_0, e_27_1, e_27_2, e_27_3, e_27_4, e_27_5, e_27_6, e_28_2, e_30_2, e_32_2, e_34_2, e_36_2, e_40_2, e_40_3, e_41_0, e_41_1, e_41_2, e_41_3, e_41_4, e_41_5, e_91_0, e_91_4, e_91_5, e_91_6, e_91_7, e_92_0, e_92_1, e_92_2, e_92_3, e_93_2, e_93_3, e_93_4, e_93_5, e_93_6, e_93_7, e_100_2, e_102_2, e_104_2, e_110_0, e_110_1, e_110_2, e_110_3, e_112_0, e_112_1, e_112_2, e_112_3, e_113_7, e_113_8, e_113_9, e_113_10, e_113_11, e_113_12, e_113_13, e_121_2, e_124_0, e_124_1, e_124_2, e_124_3, e_124_4, e_124_5, e_124_6, e_124_7, e_124_8, e_124_9, l_4, l_5, l_6, l_7, l_8, l_9, l_10, l_12, l_15, l_16, l_17, l_18, l_19, l_20, l_22, l_24, l_26, l_29, l_31, l_33, l_35, l_37, l_38, l_39, l_41, l_42, l_94, l_95, l_96, l_97, l_98, l_99, l_101, l_103, l_105, l_106, l_107, l_108, l_109, l_111, l_114, l_115, l_116, l_117, l_118, l_119, l_120, l_123, l_125, l_126, l_127, l_128, l_129, l_130, l_131, e_132_1, e_132_2, e_132_4, e_132_6, e_132_8, e_132_9, e_132_10, e_132_11, e_132_12, e_132_18, e_132_19, e_132_20, e_132_21, e_132_22, e_132_23, e_132_24, e_132_25, e_132_29, e_132_36, e_132_38, e_132_40, e_132_41, e_132_42, e_132_44, e_132_46, e_132_47, e_132_49, e_132_50, e_132_51, e_132_52, e_132_54, e_132_55, e_132_56, e_132_58, e_132_60, e_132_61, e_132_62, e_132_66, l_133, l_134, l_135, l_136, l_137, l_138, l_139, l_140, l_141, l_142, l_143, l_144, l_145, l_146, l_147, l_148, l_149, l_150, l_151, l_152, l_153, l_154, l_155, l_156, l_157, l_158, l_159, l_160, l_161, l_162, l_163, l_164, l_165, l_166, l_167, l_168, l_169, l_170, upA, reduceIte, neF]
    · exact Inv_s (by repeat (first | exact ex_rf _ _ _ | refine ex_up ?_ rfl)) h0
  obtain ⟨t, rfl⟩ : ∃ t, w10 = 10 + t := ⟨w10 - 10, by omega⟩
  obtain ⟨r, hr, er⟩ := ah_all w R t (by omega)
  obtain ⟨x, x1, x2⟩ := e_fedAt (kp := kp) (fu := fu) (w := w) (D' := ev_up D 132 0 (nI 0)) (t := t) hR eR q11' ht hw2 ht2 (by omega) R 0 fu fu 0 (by omega) (by omega) (by omega) ⟨r, by omega, hr, er⟩
  refine pl_mk (r := nI x) (D1 := D) (D2 := ev_up D 132 0 (nI 0)) ?_ ?_ (Inv_s (by repeat (first | exact ex_rf _ _ _ | refine ex_up ?_ rfl)) h0)
  · simp (disch := omega) only [fX11_feeds, eR, fX3_fedAt, pk_sub, Nat.add_sub_cancel_left, x1, ↓mm1, ↓mm9, ↓mm100, ↓mm8, bdS, gdI, gdZ, eq_self, e_within, e_isInM, e_isBell, addK, pk_mul, nI_clamp, ofN, true_and, false_and, and_false, and_true, and_self, ltT, ltF, leT, leF, eqF, m1F, m1F2, m1L, m1L2, m1G, i_0, i_1, i_2, i_3, i_4, i_5, i_6, i_7, i_8, i_9, i_10, i_11, i_12, i_14, i_15, i_16, i_17, i_18, i_19, i_20, i_21, i_23, i_24, i_25, i_26, i_31, i_32, i_34, i_40, i_41, i_42, i_43, i_44, i_45, i_47, i_48, i_57, i_59, i_60, i_61, i_62, i_63, i_65, i_80, i_90, i_97, i_98, i_99, i_100, i_122, i_150, i_151, i_255, i_256, i_258, i_259, i_260, i_261, i_262, i_263, i_271, i_273, i_274, i_275, i_276, i_277, i_281, i_282, i_380, i_400, i_500, i_600, i_800, i_999, i_1000, i_9999, i_10000, i_10100, i_10101, i_10102, i_10103, i_10104, i_10105, i_10106, i_10107, i_10108, i_10109, i_27720, i_65535, i_1664525, i_100000000, i_252645135, i_858993459, i_1013904223, i_1431655765, e_1_0, e_1_1, e_1_2, e_1_3, e_1_4, e_1_5, e_2_0, e_2_1, e_2_2, e_2_3, e_3_7, e_3_8, e_3_9, e_3_10, e_3_11, e_3_12, e_3_13, e_11_2, e_13_0, e_13_1, e_13_2, e_13_3, e_14_2, e_14_3, e_14_4, e_14_5, e_14_6, e_14_7, e_21_2, e_23_2, e_25_2, e_27_0, e_27_1, e_27_2, e_27_3, e_27_4, e_27_5, e_27_6, e_28_2, e_30_2, e_32_2, e_34_2, e_36_2, e_40_2, e_40_3, e_41_0, e_41_1, e_41_2, e_41_3, e_41_4, e_41_5, e_91_0, e_91_4, e_91_5, e_91_6, e_91_7, e_92_0, e_92_1, e_92_2, e_92_3, e_93_2, e_93_3, e_93_4, e_93_5, e_93_6, e_93_7, e_100_2, e_102_2, e_104_2, e_110_0, e_110_1, e_110_2, e_110_3, e_112_0, e_112_1, e_112_2, e_112_3, e_113_7, e_113_8, e_113_9, e_113_10, e_113_11, e_113_12, e_113_13, e_121_2, e_124_0, e_124_1, e_124_2, e_124_3, e_124_4, e_124_5, e_124_6, e_124_7, e_124_8, e_124_9, l_4, l_5, l_6, l_7, l_8, l_9, l_10, l_12, l_15, l_16, l_17, l_18, l_19, l_20, l_22, l_24, l_26, l_29, l_31, l_33, l_35, l_37, l_38, l_39, l_41, l_42, l_94, l_95, l_96, l_97, l_98, l_99, l_101, l_103, l_105, l_106, l_107, l_108, l_109, l_111, l_114, l_115, l_116, l_117, l_118, l_119, l_120, l_123, l_125, l_126, l_127, l_128, l_129, l_130, l_131, e_132_1, e_132_2, e_132_4, e_132_6, e_132_8, e_132_9, e_132_10, e_132_11, e_132_12, e_132_18, e_132_19, e_132_20, e_132_21, e_132_22, e_132_23, e_132_24, e_132_25, e_132_29, e_132_36, e_132_38, e_132_40, e_132_41, e_132_42, e_132_44, e_132_46, e_132_47, e_132_49, e_132_50, e_132_51, e_132_52, e_132_54, e_132_55, e_132_56, e_132_58, e_132_60, e_132_61, e_132_62, e_132_66, l_133, l_134, l_135, l_136, l_137, l_138, l_139, l_140, l_141, l_142, l_143, l_144, l_145, l_146, l_147, l_148, l_149, l_150, l_151, l_152, l_153, l_154, l_155, l_156, l_157, l_158, l_159, l_160, l_161, l_162, l_163, l_164, l_165, l_166, l_167, l_168, l_169, l_170, upA, reduceIte, neF]
  · simp (disch := omega) only [fX12_feeds, q11, x2, ↓mm1, ↓mm9, ↓mm100, ↓mm8, bdS, gdI, gdZ, eq_self, e_within, e_isInM, e_isBell, addK, pk_mul, nI_clamp, ofN, true_and, false_and, and_false, and_true, and_self, ltT, ltF, leT, leF, eqF, m1F, m1F2, m1L, m1L2, m1G, i_0, i_1, i_2, i_3, i_4, i_5, i_6, i_7, i_8, i_9, i_10, i_11, i_12, i_14, i_15, i_16, i_17, i_18, i_19, i_20, i_21, i_23, i_24, i_25, i_26, i_31, i_32, i_34, i_40, i_41, i_42, i_43, i_44, i_45, i_47, i_48, i_57, i_59, i_60, i_61, i_62, i_63, i_65, i_80, i_90, i_97, i_98, i_99, i_100, i_122, i_150, i_151, i_255, i_256, i_258, i_259, i_260, i_261, i_262, i_263, i_271, i_273, i_274, i_275, i_276, i_277, i_281, i_282, i_380, i_400, i_500, i_600, i_800, i_999, i_1000, i_9999, i_10000, i_10100, i_10101, i_10102, i_10103, i_10104, i_10105, i_10106, i_10107, i_10108, i_10109, i_27720, i_65535, i_1664525, i_100000000, i_252645135, i_858993459, i_1013904223, i_1431655765, e_1_0, e_1_1, e_1_2, e_1_3, e_1_4, e_1_5, e_2_0, e_2_1, e_2_2, e_2_3, e_3_7, e_3_8, e_3_9, e_3_10, e_3_11, e_3_12, e_3_13, e_11_2, e_13_0, e_13_1, e_13_2, e_13_3, e_14_2, e_14_3, e_14_4, e_14_5, e_14_6, e_14_7, e_21_2, e_23_2, e_25_2, e_27_0, e_27_1, e_27_2, e_27_3, e_27_4, e_27_5, e_27_6, e_28_2, e_30_2, e_32_2, e_34_2, e_36_2, e_40_2, e_40_3, e_41_0, e_41_1, e_41_2, e_41_3, e_41_4, e_41_5, e_91_0, e_91_4, e_91_5, e_91_6, e_91_7, e_92_0, e_92_1, e_92_2, e_92_3, e_93_2, e_93_3, e_93_4, e_93_5, e_93_6, e_93_7, e_100_2, e_102_2, e_104_2, e_110_0, e_110_1, e_110_2, e_110_3, e_112_0, e_112_1, e_112_2, e_112_3, e_113_7, e_113_8, e_113_9, e_113_10, e_113_11, e_113_12, e_113_13, e_121_2, e_124_0, e_124_1, e_124_2, e_124_3, e_124_4, e_124_5, e_124_6, e_124_7, e_124_8, e_124_9, l_4, l_5, l_6, l_7, l_8, l_9, l_10, l_12, l_15, l_16, l_17, l_18, l_19, l_20, l_22, l_24, l_26, l_29, l_31, l_33, l_35, l_37, l_38, l_39, l_41, l_42, l_94, l_95, l_96, l_97, l_98, l_99, l_101, l_103, l_105, l_106, l_107, l_108, l_109, l_111, l_114, l_115, l_116, l_117, l_118, l_119, l_120, l_123, l_125, l_126, l_127, l_128, l_129, l_130, l_131, e_132_1, e_132_2, e_132_4, e_132_6, e_132_8, e_132_9, e_132_10, e_132_11, e_132_12, e_132_18, e_132_19, e_132_20, e_132_21, e_132_22, e_132_23, e_132_24, e_132_25, e_132_29, e_132_36, e_132_38, e_132_40, e_132_41, e_132_42, e_132_44, e_132_46, e_132_47, e_132_49, e_132_50, e_132_51, e_132_52, e_132_54, e_132_55, e_132_56, e_132_58, e_132_60, e_132_61, e_132_62, e_132_66, l_133, l_134, l_135, l_136, l_137, l_138, l_139, l_140, l_141, l_142, l_143, l_144, l_145, l_146, l_147, l_148, l_149, l_150, l_151, l_152, l_153, l_154, l_155, l_156, l_157, l_158, l_159, l_160, l_161, l_162, l_163, l_164, l_165, l_166, l_167, l_168, l_169, l_170, upA, reduceIte, neF]
