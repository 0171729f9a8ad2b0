/-! ===== text: what was read is taken ===== -/
section Take
variable {kp fu : Nat}
theorem c_becL (D : ev_D) : ∃ D', fX1_become sh_L (sh_E kp) fu 14 93 D = some (nI 0, D') ∧ D' 14 0 = D 93 0 ∧ (∀ i, i < 16 → D' 15 i = D 94 i ∧ D' 16 i = D 95 i ∧ D' 17 i = D 96 i ∧ D' 18 i = D 97 i) ∧ (∀ i, i < 400 → D' 19 i = D 98 i) ∧ ∀ q j, ¬ (14 ≤ q ∧ q ≤ 19) → D' q j = D q j := by
  refine ⟨ev_cpD (ev_cpD (ev_cpD (ev_cpD (ev_cpD (ev_up (ev_up D 14 0 (D 93 0)) 14 1 (D 93 1)) 94 15 0 0 16) 95 16 0 0 16) 96 17 0 0 16) 97 18 0 0 16) 98 19 0 0 400, ?_, ?_, fun i hi => ⟨?_, ?_, ?_, ?_⟩, fun i hi => ?_, fun q j h => ?_⟩
  · unfold fX1_become
    rw [upN _ _ _ _ (show (93 : Nat) ≠ 14 by decide), e_93_2, e_93_3, e_93_4, e_93_5, e_93_6, e_14_2, e_14_3, e_14_4, e_14_5, e_14_6, e_copy _ l_94 l_15 (by decide) (by decide), bdS, e_copy _ l_95 l_16 (by decide) (by decide), bdS, e_copy _ l_96 l_17 (by decide) (by decide), bdS, e_copy _ l_97 l_18 (by decide) (by decide), bdS, e_copy _ l_98 l_19 (by decide) (by decide), bdS]
    rfl
  · simp (disch := omega) only [upA, neF, eqTn, true_and, false_and, and_false, and_true, and_self, reduceIte, cpA]
  · simp (disch := omega) only [upA, neF, eqTn, true_and, false_and, and_false, and_true, and_self, reduceIte, cpA, hi]
  · simp (disch := omega) only [upA, neF, eqTn, true_and, false_and, and_false, and_true, and_self, reduceIte, cpA, hi]
  · simp (disch := omega) only [upA, neF, eqTn, true_and, false_and, and_false, and_true, and_self, reduceIte, cpA, hi]
  · simp (disch := omega) only [upA, neF, eqTn, true_and, false_and, and_false, and_true, and_self, reduceIte, cpA, hi]
  · simp (disch := omega) only [upA, neF, eqTn, true_and, false_and, and_false, and_true, and_self, reduceIte, cpA, hi]
  · rw [cpA, if_neg (by omega), cpA, if_neg (by omega), cpA, if_neg (by omega), cpA, if_neg (by omega), cpA, if_neg (by omega), upA, if_neg (by omega), upA, if_neg (by omega)]
theorem c_becR {t s c : Nat} (hE1 : sh_E kp s 2 = s + 1) (hE2 : sh_E kp t 2 = t + 1) (l1 : sh_L (s + 1) = 48) (l2 : sh_L (t + 1) = 48) (hts : t + 40 ≤ s) {D : ev_D} (hc : D s 0 = nI c) (hM : D t 1 = nI 16) (hc16 : c ≤ 16) : ∃ D', fX6_become sh_L (sh_E kp) fu t s D = some (nI 0, D') ∧ D' t 0 = nI c ∧ (∀ i, i < 48 → D' (t + 1) i = D (s + 1) i) ∧ ∀ q j, ¬ (q = t + 1) → ¬ (q = t ∧ j = 0) → D' q j = D q j := by
  refine ⟨ev_cpD (ev_up D t 0 (nI c)) (s + 1) (t + 1) 0 0 48, ?_, ?_, fun i hi => ?_, fun q j h1 h2 => ?_⟩
  · rw [fX6_become, hc, hM, e_min _ _ _ _ (by omega) (by omega), bdS, Nat.min_eq_left hc16, hE1, hE2, e_copy _ l1 l2 (by omega) (by decide), bdS, i_0]
  · rw [cpA, if_neg (by omega), upS]
  · rw [cpA, if_pos ⟨rfl, hi⟩, upN _ _ _ _ (by omega)]
  · rw [cpA, if_neg (fun z => h1 z.1), upA, if_neg h2]
/-! the reference -/
theorem m_tkC {n : Nat} (hn : n ≤ 16) {D0 : ev_D} (k : Nat) : ∀ (i f : Nat) (D : ev_D), i + k = n → k < f → (∀ j, j < i → D 153 j = D0 153 (16 + j)) → (∀ q j, ¬ (q = 153 ∧ j < 16) → D q j = D0 q j) → ∃ D', fX12_takesOther_92 sh_L (sh_E kp) fu f 132 (nI n) (nI i) D = some (nI 0, D') ∧ (∀ j, j < n → D' 153 j = D0 153 (16 + j)) ∧ D' 132 39 = nI n ∧ ∀ q j, ¬ (q = 153 ∧ j < 16) → ¬ (q = 132 ∧ j = 39) → D' q j = D0 q j := by
  induction k with
  | zero =>
    intro i f D hi hf h1 h2
    obtain ⟨f, rfl⟩ : ∃ f', f = f' + 1 := ⟨f - 1, by omega⟩
    refine ⟨ev_up D 132 39 (nI n), ?_, fun j hj => by rw [upN _ _ _ _ (by decide)]; exact h1 j (by omega), upS _ _ _ _, fun q j a b => by rw [upA, if_neg b]; exact h2 q j a⟩
    rw [fX12_takesOther_92, if_pos (nI_le (by omega) (by omega))]
    rfl
  | succ k ih =>
    intro i f D hi hf h1 h2
    obtain ⟨f, rfl⟩ : ∃ f', f = f' + 1 := ⟨f - 1, by omega⟩
    rw [fX12_takesOther_92, if_neg (nI_ge (by omega) (by omega)), e_132_40, l_153, i_16, addK, gdI (by omega) (by omega), gdI (by omega) (by omega), nI_clamp (by omega), nI_clamp (by omega), i_1, addK, h2 153 (16 + i) (by omega)]
    refine ih (i + 1) f _ (by omega) (by omega) (fun j hj => ?_) (fun q j a => by rw [upA, if_neg (by omega)]; exact h2 q j a)
    by_cases e : j = i
    · rw [e, upS]
    · rw [upJ _ _ _ _ e]; exact h1 j (by omega)
theorem m_tkD {n : Nat} (hn : n ≤ 16) {D0 : ev_D} (k : Nat) : ∀ (i f : Nat) (D : ev_D), i + k = 3 * n → k < f → (∀ j, j < i → D 152 j = D0 152 (48 + j)) → (∀ q j, ¬ (q = 152 ∧ j < 48) → D q j = D0 q j) → ∃ D', fX12_takesOther_49 sh_L (sh_E kp) fu f 132 (nI n) (nI i) D = some (nI 0, D') ∧ (∀ j, j < 3 * n → D' 152 j = D0 152 (48 + j)) ∧ D' 132 37 = nI n ∧ D' 132 3 = nI 0 ∧ ∀ q j, ¬ (q = 152 ∧ j < 48) → ¬ (q = 132 ∧ (j = 37 ∨ j = 3)) → D' q j = D0 q j := by
  induction k with
  | zero =>
    intro i f D hi hf h1 h2
    obtain ⟨f, rfl⟩ : ∃ f', f = f' + 1 := ⟨f - 1, by omega⟩
    refine ⟨ev_up (ev_up D 132 37 (nI n)) 132 3 (nI 0), ?_, fun j hj => by rw [upN _ _ _ _ (by decide), upN _ _ _ _ (by decide)]; exact h1 j (by omega), by rw [upJ _ _ _ _ (by decide), upS], upS _ _ _ _, fun q j a b => by rw [upA, if_neg (by omega), upA, if_neg (by omega)]; exact h2 q j a⟩
    rw [fX12_takesOther_49, i_3, pk_mul, if_pos (nI_le (by omega) (by omega))]
    rfl
  | succ k ih =>
    intro i f D hi hf h1 h2
    obtain ⟨f, rfl⟩ : ∃ f', f = f' + 1 := ⟨f - 1, by omega⟩
    rw [fX12_takesOther_49, i_3, pk_mul, if_neg (nI_ge (by omega) (by omega)), e_132_38, l_152, i_48, addK, gdI (by omega) (by omega), gdI (by omega) (by omega), nI_clamp (by omega), nI_clamp (by omega), i_1, addK, h2 152 (48 + i) (by omega)]
    refine ih (i + 1) f _ (by omega) (by omega) (fun j hj => ?_) (fun q j a => by rw [upA, if_neg (by omega)]; exact h2 q j a)
    by_cases e : j = i
    · rw [e, upS]
    · rw [upJ _ _ _ _ e]; exact h1 j (by omega)
theorem m_tkR {n : Nat} {D0 : ev_D} (k : Nat) : ∀ (i f : Nat) (D : ev_D), i + k = 10 → k < f → (∀ j, j < i → D 151 j = D0 151 (10 + j)) → (∀ q j, ¬ (q = 151 ∧ j < 10) → D q j = D0 q j) → ∃ D', fX12_takesOther_7 sh_L (sh_E kp) fu f 132 (nI n) (nI i) D = some (nI 0, D') ∧ (∀ j, j < 10 → D' 151 j = D0 151 (10 + j)) ∧ D' 132 35 = nI n ∧ ∀ q j, ¬ (q = 151 ∧ j < 10) → ¬ (q = 132 ∧ j = 35) → D' q j = D0 q j := by
  induction k with
  | zero =>
    intro i f D hi hf h1 h2
    obtain ⟨f, rfl⟩ : ∃ f', f = f' + 1 := ⟨f - 1, by omega⟩
    refine ⟨ev_up D 132 35 (nI n), ?_, fun j hj => by rw [upN _ _ _ _ (by decide)]; exact h1 j (by omega), upS _ _ _ _, fun q j a b => by rw [upA, if_neg b]; exact h2 q j a⟩
    rw [fX12_takesOther_7, i_10, if_pos (nI_le (by omega) (by omega))]
    rfl
  | succ k ih =>
    intro i f D hi hf h1 h2
    obtain ⟨f, rfl⟩ : ∃ f', f = f' + 1 := ⟨f - 1, by omega⟩
    rw [fX12_takesOther_7, i_10, if_neg (nI_ge (by omega) (by omega)), e_132_36, l_151, addK, gdI (by omega) (by omega), gdI (by omega) (by omega), nI_clamp (by omega), nI_clamp (by omega), i_1, addK, h2 151 (10 + i) (by omega)]
    refine ih (i + 1) f _ (by omega) (by omega) (fun j hj => ?_) (fun q j a => by rw [upA, if_neg (by omega)]; exact h2 q j a)
    by_cases e : j = i
    · rw [e, upS]
    · rw [upJ _ _ _ _ e]; exact h1 j (by omega)
/-- codes, then how many lines -/
theorem m_tk107 {n g : Nat} (hg : g ≤ 400) {D0 : ev_D} (h26 : D0 132 26 = nI 0) (h27 : D0 132 27 = nI g) (k : Nat) : ∀ (i f : Nat) (D : ev_D), i + k = g → k < f → (∀ j, j < i → D 148 j = D0 148 (800 + j) ∧ D 149 j = D0 149 (800 + j)) → (∀ q j, ¬ ((q = 148 ∨ q = 149) ∧ j < 400) → D q j = D0 q j) → ∃ D', fX12_takesLaw_107 sh_L (sh_E kp) fu f 132 (nI n) (nI i) D = some (nI 0, D') ∧ (∀ j, j < g → D' 148 j = D0 148 (800 + j) ∧ D' 149 j = D0 149 (800 + j)) ∧ D' 143 0 = nI n ∧ ∀ q j, ¬ ((q = 148 ∨ q = 149) ∧ j < 400) → ¬ (q = 143 ∧ j = 0) → D' q j = D0 q j := by
  induction k with
  | zero =>
    intro i f D hi hf h1 h2
    obtain ⟨f, rfl⟩ : ∃ f', f = f' + 1 := ⟨f - 1, by omega⟩
    refine ⟨ev_up D 143 0 (nI n), ?_, fun j hj => by rw [upN _ _ _ _ (by decide), upN _ _ _ _ (by decide)]; exact h1 j (by omega), upS _ _ _ _, fun q j a b => by rw [upA, if_neg b]; exact h2 q j a⟩
    rw [fX12_takesLaw_107, h2 132 27 (by omega), h27, if_pos (nI_le (by omega) (by omega)), h2 132 26 (by omega), h26, e_132_19, l_143, gdI (by omega) (by omega), nI_clamp (by omega)]
    rfl
  | succ k ih =>
    intro i f D hi hf h1 h2
    obtain ⟨f, rfl⟩ : ∃ f', f = f' + 1 := ⟨f - 1, by omega⟩
    have e26 : D 132 26 = nI 0 := by rw [h2 132 26 (by omega)]; exact h26
    rw [fX12_takesLaw_107, h2 132 27 (by omega), h27, if_neg (nI_ge (by omega) (by omega)), e_132_24, e_132_25, l_148, l_149, upN _ _ _ _ (show (132 : Nat) ≠ 148 by decide), e26, i_800, i_400, pk_mul, addK, addK, Nat.mul_zero, Nat.zero_add, gdI (by omega) (by omega), gdI (by omega) (by omega), gdI (by omega) (by omega), gdI (by omega) (by omega), nI_clamp (by omega), nI_clamp (by omega)]
    unfold fX12_takesLaw_165
    rw [i_1, addK, upN _ _ _ _ (show (149 : Nat) ≠ 148 by decide), h2 148 (800 + i) (by omega), h2 149 (800 + i) (by omega)]
    refine ih (i + 1) f _ (by omega) (by omega) (fun j hj => ?_) (fun q j a => by rw [upA, if_neg (by omega), upA, if_neg (by omega)]; exact h2 q j a)
    by_cases e : j = i
    · rw [e, upN _ _ _ _ (show (148 : Nat) ≠ 149 by decide), upS, upS]
      exact ⟨rfl, rfl⟩
    · rw [upJ _ _ _ _ e, upJ _ _ _ _ e, upJ _ _ _ _ e, upJ _ _ _ _ e]; exact h1 j (by omega)
theorem m_tk2 (hfu : 30000 ≤ fu) {n g : Nat} (hn : n ≤ 16) (hg : g ≤ 400) {D0 : ev_D} (h26 : D0 132 26 = nI 0) (h27 : D0 132 27 = nI g) (k : Nat) : ∀ (i f : Nat) (D : ev_D), i + k = n → k < f → (∀ j z, j < i → 144 ≤ z → z ≤ 147 → D z j = D0 z (32 + j)) → (∀ q j, ¬ ((144 ≤ q ∧ q ≤ 147) ∧ j < 16) → D q j = D0 q j) → ∃ D', fX12_takesLaw_2 sh_L (sh_E kp) fu f 132 (nI n) (nI i) D = some (nI 0, D') ∧ (∀ j z, j < n → 144 ≤ z → z ≤ 147 → D' z j = D0 z (32 + j)) ∧ (∀ j, j < g → D' 148 j = D0 148 (800 + j) ∧ D' 149 j = D0 149 (800 + j)) ∧ D' 143 0 = nI n ∧ ∀ q j, ¬ ((144 ≤ q ∧ q ≤ 147) ∧ j < 16) → ¬ ((q = 148 ∨ q = 149) ∧ j < 400) → ¬ (q = 143 ∧ j = 0) → D' q j = D0 q j := by
  induction k with
  | zero =>
    intro i f D hi hf h1 h2
    obtain ⟨f, rfl⟩ : ∃ f', f = f' + 1 := ⟨f - 1, by omega⟩
    obtain ⟨D', a1, a2, a3, a4⟩ := m_tk107 (kp := kp) (fu := fu) (n := n) hg (D0 := D) (by rw [h2 132 26 (by omega)]; exact h26) (by rw [h2 132 27 (by omega)]; exact h27) g 0 fu D (by omega) (by omega) (fun j hj => by omega) (fun _ _ _ => rfl)
    refine ⟨D', ?_, fun j z hj h3 h4 => ?_, fun j hj => ?_, a3, fun q j b1 b2 b3 => ?_⟩
    · rw [fX12_takesLaw_2, if_pos (nI_le (by omega) (by omega)), i_0]
      exact a1
    · rw [a4 z j (by omega) (by omega)]; exact h1 j z (by omega) h3 h4
    · rw [(a2 j hj).1, (a2 j hj).2, h2 148 _ (by omega), h2 149 _ (by omega)]
      exact ⟨rfl, rfl⟩
    · rw [a4 q j b2 b3]; exact h2 q j b1
  | succ k ih =>
    intro i f D hi hf h1 h2
    obtain ⟨f, rfl⟩ : ∃ f', f = f' + 1 := ⟨f - 1, by omega⟩
    have e26 : D 132 26 = nI 0 := by rw [h2 132 26 (by omega)]; exact h26
    have hz : nI 16 * nI 0 + nI i = nI i := by rw [pk_mul, addK, Nat.mul_zero, Nat.zero_add]
    rw [fX12_takesLaw_2, if_neg (nI_ge (by omega) (by omega)), e_132_20, e_132_21, l_144, l_145, upN _ _ _ _ (show (132 : Nat) ≠ 144 by decide), e26, i_32, i_16, hz, addK, gdI (by omega) (by omega), gdI (by omega) (by omega), gdI (by omega) (by omega), gdI (by omega) (by omega), nI_clamp (by omega), nI_clamp (by omega)]
    unfold fX12_takesLaw_53 fX12_takesLaw_99
    rw [e_132_22, e_132_23, l_146, l_147, upN _ _ _ _ (show (132 : Nat) ≠ 146 by decide), upN _ _ _ _ (show (132 : Nat) ≠ 145 by decide), upN _ _ _ _ (show (132 : Nat) ≠ 144 by decide), e26, i_32, i_16, hz, addK, gdI (by omega) (by omega), gdI (by omega) (by omega), gdI (by omega) (by omega), gdI (by omega) (by omega), nI_clamp (by omega), nI_clamp (by omega), i_1, addK, upN _ _ _ _ (show (147 : Nat) ≠ 146 by decide), upN _ _ _ _ (show (147 : Nat) ≠ 145 by decide), upN _ _ _ _ (show (147 : Nat) ≠ 144 by decide), upN _ _ _ _ (show (146 : Nat) ≠ 145 by decide), upN _ _ _ _ (show (146 : Nat) ≠ 144 by decide), upN _ _ _ _ (show (145 : Nat) ≠ 144 by decide), h2 144 (32 + i) (by omega), h2 145 (32 + i) (by omega), h2 146 (32 + i) (by omega), h2 147 (32 + i) (by omega)]
    refine ih (i + 1) f _ (by omega) (by omega) (fun j z hj h3 h4 => ?_) (fun q j a => by rw [upA, if_neg (by omega), upA, if_neg (by omega), upA, if_neg (by omega), upA, if_neg (by omega)]; exact h2 q j a)
    by_cases e : j = i
    · rw [e]
      have hc : z = 144 ∨ z = 145 ∨ z = 146 ∨ z = 147 := by omega
      rcases hc with rfl | rfl | rfl | rfl
      · simp (disch := omega) only [upA, neF, eqTn, true_and, false_and, and_false, and_true, and_self, reduceIte]
      · simp (disch := omega) only [upA, neF, eqTn, true_and, false_and, and_false, and_true, and_self, reduceIte]
      · simp (disch := omega) only [upA, neF, eqTn, true_and, false_and, and_false, and_true, and_self, reduceIte]
      · simp (disch := omega) only [upA, neF, eqTn, true_and, false_and, and_false, and_true, and_self, reduceIte]
    · rw [upJ _ _ _ _ e, upJ _ _ _ _ e, upJ _ _ _ _ e, upJ _ _ _ _ e]; exact h1 j z (by omega) h3 h4
end Take
