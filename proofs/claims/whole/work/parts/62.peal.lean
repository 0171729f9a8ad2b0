/-! ===== peal, row ===== -/
def rowC (D : ev_D) (f : Nat → Nat) : Prop := ∀ i, i < 8 → D 125 i = nI (f i)
def chC (D : ev_D) (L : Nat) (c : Nat → Nat) : Prop := D 25 0 = nI L ∧ ∀ j, j < L → D 26 (3 * j) = nI (c j)
def chM (D : ev_D) (L : Nat) (c : Nat → Nat) : Prop := D 132 39 = nI L ∧ ∀ j, j < L → D 153 j = nI (c j)
def chB (L : Nat) (c : Nat → Nat) : Prop := L ≤ 16 ∧ ∀ j, j < L → c j < 128 ∧ noadj (c j)
theorem chC_ex {D' D : ev_D} {L : Nat} {c : Nat → Nat} {sc sf : List Nat} (h : ex sc sf D' D) (hk : (mem sc 25 || Nat.beq 25 132) = false) (hk2 : (mem sc 26 || Nat.beq 26 132) = false) (g : chC D L c) : chC D' L c := ⟨(ex_at h hk 0).trans g.1, fun j hj => (ex_at h hk2 _).trans (g.2 j hj)⟩
section
variable {kp fu : Nat} {n L : Nat} {c : Nat → Nat}
theorem e_chg {s : Nat} (hn : n ≤ 8) (hs : s < 128) (hna : noadj s) {g : Nat → Nat} (d : Nat) : ∀ (q f : Nat) (D : ev_D), q + d + 1 = n → d < f → rowC D (fun i => g (tau (q + 1) s i)) → ∃ D', fX3_change_41 sh_L (sh_E kp) fu f 124 (nI n) (nI s) (nI q) D = some (nI 0, D') ∧ rowC D' (fun i => g (tau n s i)) ∧ ex [125] [] D' D := by
  induction d with
  | zero =>
    intro q f D hq hf h
    obtain ⟨f, rfl⟩ : ∃ f', f = f' + 1 := ⟨f - 1, by omega⟩
    refine ⟨D, ?_, by rw [← hq]; exact h, ex_rf _ _ _⟩
    rw [fX3_change_41, i_1, pk_sub (by omega), if_pos (nI_le (by omega) (by omega)), i_0]
  | succ d ih =>
    intro q f D hq hf h
    obtain ⟨f, rfl⟩ : ∃ f', f = f' + 1 := ⟨f - 1, by omega⟩
    rw [fX3_change_41, i_1, pk_sub (by omega), if_neg (nI_ge (by omega) (by omega)), i_7, if_neg (nI_ge (by omega) (by omega)), e_isIn _ _ _ _ (by omega) (by omega), bdS, i_0, addK, e_124_3, l_125]
    cases hb : s.testBit q with
    | false =>
      rw [if_pos bF]
      exact ih (q + 1) f D (by omega) (by omega) (fun i hi => by rw [h i hi]; show _ = nI (g (tau (q + 2) s i)); rw [tau_s0 hb])
    | true =>
      rw [if_neg (by decide), gdI (by omega) (by omega), gdI (by omega) (by omega), gdI (by omega) (by omega), gdI (by omega) (by omega), nI_clamp (by omega), nI_clamp (by omega)]
      obtain ⟨D', a1, a2, a3⟩ := ih (q + 1) f (ev_up (ev_up D 125 q (D 125 (q + 1))) 125 (q + 1) (D 125 q)) (by omega) (by omega) (fun i hi => by
        have h1 : D 125 q = nI (g (tau (q + 1) s q)) := h q (by omega)
        have h2 : D 125 (q + 1) = nI (g (tau (q + 1) s (q + 1))) := h (q + 1) (by omega)
        rw [tau_q hna hb] at h1
        rw [tau_ge (Nat.le_refl _)] at h2
        show _ = nI (g (tau (q + 2) s i))
        rw [upA, upA, tau_s1 hna hb, h1, h2]
        by_cases e1 : i = q
        · rw [if_neg (by omega), if_pos ⟨rfl, e1⟩, if_pos e1]
        · by_cases e2 : i = q + 1
          · rw [if_pos ⟨rfl, e2⟩, if_neg e1, if_pos e2]
          · rw [if_neg fun z => e2 z.2, if_neg fun z => e1 z.2, if_neg e1, if_neg e2, h i hi])
      exact ⟨D', a1, a2, ex_tr (ex_up (ex_up (ex_rf _ _ _) rfl) rfl) a3⟩
theorem e_change (hfu : 30000 ≤ fu) (hn1 : 2 ≤ n) (hn : n ≤ 8) (hL : 0 < L) (hB : chB L c) {k : Nat} (hk : k < 2 ^ 31) {D : ev_D} (hC : chC D L c) (h : rowC D (Rw n L c k)) : ∃ D', fX3_change sh_L (sh_E kp) fu 124 (nI n) (nI k) D = some (nI 0, D') ∧ rowC D' (Rw n L c (k + 1)) ∧ ex [125] [] D' D := by
  have hm : k % L < L := Nat.mod_lt _ hL
  have hL2 := hB.1
  have c0 : fX6_cell sh_L (sh_E kp) fu 25 (nI (k % L)) (nI 0) D = some (D 26 (3 * (k % L) + 0), D) := e_cell (M := 16) (e_25_2 kp) l_26 (by omega) (by omega) (by omega)
  obtain ⟨D', a1, a2, a3⟩ := e_chg (kp := kp) (fu := fu) (s := c (k % L)) (g := Rw n L c k) hn (hB.2 _ hm).1 (hB.2 _ hm).2 (n - 1) 0 fu D (by omega) (by omega) (fun i hi => by show _ = nI (Rw n L c k (tau 1 (c (k % L)) i)); rw [tau_1, h i hi])
  refine ⟨D', ?_, a2, a3⟩
  rw [fX3_change, e_124_1, e_13_3, hC.1, i_0, if_neg (show ¬ nI L = nI 0 from fun z => by have := (nI_eq (by omega) (by omega)).mp z; omega), gdZ hL (by omega), pk_rem hk hL (by omega), c0, bdS, Nat.add_zero, hC.2 _ hm, a1]
theorem e_num4 {f : Nat → Nat} {D : ev_D} (h : rowC D f) (d : Nat) : ∀ (i k : Nat), i + d = 8 → d < k → fX3_rowAsNumber_4 sh_L (sh_E kp) fu k 124 (nI (num f i)) (nI i) D = some (nI (num f 8), D) := by
  induction d with
  | zero =>
    intro i k hi hk
    obtain ⟨k, rfl⟩ : ∃ f', k = f' + 1 := ⟨k - 1, by omega⟩
    rw [fX3_rowAsNumber_4, i_8, if_pos (nI_le (by omega) (by omega)), show i = 8 by omega]
  | succ d ih =>
    intro i k hi hk
    obtain ⟨k, rfl⟩ : ∃ f', k = f' + 1 := ⟨k - 1, by omega⟩
    rw [fX3_rowAsNumber_4, i_8, if_neg (nI_ge (by omega) (by omega)), e_124_3, l_125, gdI (by omega) (by omega), nI_clamp (by omega), h i (by omega), pk_mul, addK, i_1, addK, ← num_s, ih (i + 1) k (by omega) (by omega)]
theorem e_num (hfu : 30000 ≤ fu) {f : Nat → Nat} {D : ev_D} (h : rowC D f) : fX3_rowAsNumber sh_L (sh_E kp) fu 124 D = some (nI (num f 8), D) := by
  rw [fX3_rowAsNumber, i_0]
  exact e_num4 h 8 0 fu rfl (by omega)
theorem e_rounds2 (d : Nat) : ∀ (i k : Nat) (D : ev_D), i + d = 8 → d < k → (∀ j, j < i → D 125 j = nI j) → ∃ D', fX3_startRounds_2 sh_L (sh_E kp) fu k 124 (nI i) D = some (nI 0, D') ∧ rowC D' (Rw n L c 0) ∧ ex [125] [] D' D := by
  induction d with
  | zero =>
    intro i k D hi hk h
    obtain ⟨k, rfl⟩ : ∃ f', k = f' + 1 := ⟨k - 1, by omega⟩
    exact ⟨D, by rw [fX3_startRounds_2, i_8, if_pos (nI_le (by omega) (by omega)), i_0], fun j hj => h j (by omega), ex_rf _ _ _⟩
  | succ d ih =>
    intro i k D hi hk h
    obtain ⟨k, rfl⟩ : ∃ f', k = f' + 1 := ⟨k - 1, by omega⟩
    obtain ⟨D', a1, a2, a3⟩ := ih (i + 1) k (ev_up D 125 i (nI i)) (by omega) (by omega) (fun j hj => by
      by_cases e : j = i
      · rw [e, upS]
      · rw [upJ _ _ _ _ e, h j (by omega)])
    refine ⟨D', ?_, a2, ex_tr (ex_up (ex_rf _ _ _) rfl) a3⟩
    rw [fX3_startRounds_2, i_8, if_neg (nI_ge (by omega) (by omega)), e_124_3, l_125, gdI (by omega) (by omega), nI_clamp (by omega), i_1, addK, a1]
theorem e_rounds (hfu : 30000 ≤ fu) (D : ev_D) : ∃ D', fX3_startRounds sh_L (sh_E kp) fu 124 D = some (nI 0, D') ∧ rowC D' (Rw n L c 0) ∧ ex [125] [] D' D := by
  rw [fX3_startRounds, i_0]
  exact e_rounds2 8 0 fu D rfl (by omega) (fun j hj => absurd hj (Nat.not_lt_zero j))
theorem num_R (hn : n ≤ 8) (j k : Nat) : nI (num (Rw n L c j) 8) = nI (num (Rw n L c k) 8) ↔ ∀ i, i < 8 → Rw n L c j i = Rw n L c k i := by
  have h1 := num_lt (f := Rw n L c j) (k := 8) (fun i hi => Rw_8 hn j i hi)
  have h2 := num_lt (f := Rw n L c k) (k := 8) (fun i hi => Rw_8 hn k i hi)
  have e : (8 : Nat) ^ 8 = 16777216 := rfl
  rw [nI_eq (by omega) (by omega), num_eq (fun i hi => Rw_8 hn j i hi) (fun i hi => Rw_8 hn k i hi)]
/-- how long: the class -/
theorem e_long26 (hfu : 30000 ≤ fu) (hn1 : 2 ≤ n) (hn : n ≤ 8) (hL : 0 < L) (hB : chB L c) {K : Nat} (hK : K ≤ 240) (hK1 : ∀ i, i < 8 → Rw n L c K i = i) (hK2 : ∀ k, k < K → ¬ (1 ≤ k ∧ ∀ i, i < 8 → Rw n L c k i = i)) (d : Nat) : ∀ (k f : Nat) (D : ev_D), k + 1 + d = K → d < f → chC D L c → rowC D (Rw n L c k) → ∃ D', fX3_rowsToRounds_26 sh_L (sh_E kp) fu f 124 (nI n) (nI (num (Rw n L c 0) 8)) (nI (k + 1)) D = some (nI K, D') ∧ ex [125] [] D' D := by
  induction d with
  | zero =>
    intro k f D hk hf hC h
    obtain ⟨f, rfl⟩ : ∃ f', f = f' + 1 := ⟨f - 1, by omega⟩
    obtain ⟨D1, a1, a2, a3⟩ := e_change (kp := kp) hfu hn1 hn hL hB (k := k) (by omega) hC h
    refine ⟨D1, ?_, a3⟩
    rw [fX3_rowsToRounds_26, i_9999, if_neg (show ¬ nI 9999 < nI (k + 1) from fun z => by have := (nI_ltI (by omega) (by omega)).mp z; omega), i_1, pk_sub (by omega), Nat.add_sub_cancel, a1, bdS, e_num hfu a2, bdS, if_pos ((num_R hn _ _).mpr fun i hi => by rw [show k + 1 = K from hk, hK1 i hi]; rfl), show k + 1 = K from hk]
  | succ d ih =>
    intro k f D hk hf hC h
    obtain ⟨f, rfl⟩ : ∃ f', f = f' + 1 := ⟨f - 1, by omega⟩
    obtain ⟨D1, a1, a2, a3⟩ := e_change (kp := kp) hfu hn1 hn hL hB (k := k) (by omega) hC h
    obtain ⟨D2, b1, b2⟩ := ih (k + 1) f D1 (by omega) (by omega) (chC_ex a3 rfl rfl hC) a2
    refine ⟨D2, ?_, ex_tr a3 b2⟩
    rw [fX3_rowsToRounds_26, i_9999, if_neg (show ¬ nI 9999 < nI (k + 1) from fun z => by have := (nI_ltI (by omega) (by omega)).mp z; omega), i_1, pk_sub (by omega), Nat.add_sub_cancel, a1, bdS, e_num hfu a2, bdS, if_neg (show ¬ nI (num (Rw n L c (k + 1)) 8) = nI (num (Rw n L c 0) 8) from fun z => hK2 (k + 1) (by omega) ⟨by omega, fun i hi => (num_R hn _ _).mp z i hi⟩), addK, b1]
/-- how long before a row comes twice: the class -/
theorem e_40no {k21 : Nat → Int32 → Int32 → ev_D → ev_Op} (hn : n ≤ 8) {k : Nat} (hk : k < 256) {D : ev_D} (hT : ∀ j, j ≤ k → D 126 j = nI (num (Rw n L c j) 8)) (hno : ∀ j, j < k → ¬ ∀ i, i < 8 → Rw n L c j i = Rw n L c k i) (d : Nat) : ∀ (j f : Nat), j + d = k → d < f → fX3_rowsToRepeat_40 sh_L (sh_E kp) fu k21 f 124 (nI n) (nI k) (nI j) D = ev_bd (fX3_change sh_L (sh_E kp) fu 124 (nI n) (nI k) D) (fun _ D2 => k21 124 (nI n) (nI (k + 1)) D2) := by
  induction d with
  | zero =>
    intro j f hj hf
    obtain ⟨f, rfl⟩ : ∃ f', f = f' + 1 := ⟨f - 1, by omega⟩
    rw [fX3_rowsToRepeat_40, if_pos (nI_le (by omega) (by omega)), i_1, addK]
  | succ d ih =>
    intro j f hj hf
    obtain ⟨f, rfl⟩ : ∃ f', f = f' + 1 := ⟨f - 1, by omega⟩
    rw [fX3_rowsToRepeat_40, if_neg (nI_ge (by omega) (by omega)), e_124_4, l_126, gdI (by omega) (by omega), gdI (by omega) (by omega), nI_clamp (by omega), nI_clamp (by omega), hT j (by omega), hT k (Nat.le_refl _), if_neg (show ¬ nI (num (Rw n L c j) 8) = nI (num (Rw n L c k) 8) from fun z => hno j (by omega) ((num_R hn _ _).mp z)), i_1, addK, ih (j + 1) f (by omega) (by omega)]
theorem e_40yes {k21 : Nat → Int32 → Int32 → ev_D → ev_Op} (hn : n ≤ 8) {k : Nat} (hk : k < 256) {D : ev_D} (hT : ∀ j, j ≤ k → D 126 j = nI (num (Rw n L c j) 8)) {j0 : Nat} (hj0 : j0 < k) (hy : ∀ i, i < 8 → Rw n L c j0 i = Rw n L c k i) (d : Nat) : ∀ (j f : Nat), j + d = j0 → d < f → fX3_rowsToRepeat_40 sh_L (sh_E kp) fu k21 f 124 (nI n) (nI k) (nI j) D = some (nI k, D) := by
  induction d with
  | zero =>
    intro j f hj hf
    obtain ⟨f, rfl⟩ : ∃ f', f = f' + 1 := ⟨f - 1, by omega⟩
    rw [fX3_rowsToRepeat_40, if_neg (nI_ge (by omega) (by omega)), e_124_4, l_126, gdI (by omega) (by omega), gdI (by omega) (by omega), nI_clamp (by omega), nI_clamp (by omega), hT j (by omega), hT k (Nat.le_refl _), if_pos ((num_R hn _ _).mpr (by rw [show j = j0 by omega]; exact hy))]
  | succ d ih =>
    intro j f hj hf
    obtain ⟨f, rfl⟩ : ∃ f', f = f' + 1 := ⟨f - 1, by omega⟩
    rw [fX3_rowsToRepeat_40, if_neg (nI_ge (by omega) (by omega)), e_124_4, l_126, gdI (by omega) (by omega), gdI (by omega) (by omega), nI_clamp (by omega), nI_clamp (by omega)]
    by_cases e : D 126 j = D 126 k
    · rw [if_pos e]
    · rw [if_neg e, i_1, addK, ih (j + 1) f (by omega) (by omega)]
theorem e_true21 (hfu : 30000 ≤ fu) (hn1 : 2 ≤ n) (hn : n ≤ 8) (hL : 0 < L) (hB : chB L c) {K : Nat} (hK : K ≤ 240) (hK1 : ∃ j, j < K ∧ ∀ i, i < 8 → Rw n L c j i = Rw n L c K i) (hK2 : ∀ k, k < K → ¬ ∃ j, j < k ∧ ∀ i, i < 8 → Rw n L c j i = Rw n L c k i) (d : Nat) : ∀ (k f : Nat) (D : ev_D), k + d = K → d < f → chC D L c → rowC D (Rw n L c k) → (∀ j, j < k → D 126 j = nI (num (Rw n L c j) 8)) → ∃ D', fX3_rowsToRepeat_21 sh_L (sh_E kp) fu f 124 (nI n) (nI k) D = some (nI K, D') ∧ ex [125, 126] [] D' D := by
  have hT : ∀ (k : Nat) (D : ev_D), (∀ j, j < k → D 126 j = nI (num (Rw n L c j) 8)) → ∀ j, j ≤ k → (ev_up D 126 k (nI (num (Rw n L c k) 8))) 126 j = nI (num (Rw n L c j) 8) := fun k D h j hj => by
    by_cases e : j = k
    · rw [e, upS]
    · rw [upJ _ _ _ _ e, h j (by omega)]
  induction d with
  | zero =>
    intro k f D hk hf hC h ht
    obtain ⟨f, rfl⟩ : ∃ f', f = f' + 1 := ⟨f - 1, by omega⟩
    have ek : k = K := hk
    subst ek
    obtain ⟨j0, y1, y2⟩ := hK1
    refine ⟨ev_up D 126 k (nI (num (Rw n L c k) 8)), ?_, ex_up (ex_rf _ _ _) rfl⟩
    rw [fX3_rowsToRepeat_21, i_256, if_neg (nI_ge (by omega) (by omega)), e_num hfu h, bdS, e_124_4, l_126, gdI (by omega) (by omega), nI_clamp (by omega), i_0, e_40yes hn (by omega) (hT k D ht) y1 y2 j0 0 fu (by omega) (by omega)]
  | succ d ih =>
    intro k f D hk hf hC h ht
    obtain ⟨f, rfl⟩ : ∃ f', f = f' + 1 := ⟨f - 1, by omega⟩
    have h' : rowC (ev_up D 126 k (nI (num (Rw n L c k) 8))) (Rw n L c k) := fun i hi => by rw [upN _ _ _ _ (by decide)]; exact h i hi
    have x0 : ex [125, 126] [] (ev_up D 126 k (nI (num (Rw n L c k) 8))) D := ex_up (ex_rf _ _ _) rfl
    obtain ⟨D1, a1, a2, a3⟩ := e_change (kp := kp) hfu hn1 hn hL hB (k := k) (by omega) (chC_ex x0 rfl rfl hC) h'
    have x1 : ex [125, 126] [] D1 D := ex_tr x0 (ex_sub a3 rfl)
    obtain ⟨D2, b1, b2⟩ := ih (k + 1) f D1 (by omega) (by omega) (chC_ex x1 rfl rfl hC) a2 (fun j hj => by rw [ex_at a3 rfl]; exact hT k D ht j (by omega))
    refine ⟨D2, ?_, ex_tr x1 b2⟩
    rw [fX3_rowsToRepeat_21, i_256, if_neg (nI_ge (by omega) (by omega)), e_num hfu h, bdS, e_124_4, l_126, gdI (by omega) (by omega), nI_clamp (by omega), i_0, e_40no hn (by omega) (hT k D ht) (fun j hj z => hK2 k (by omega) ⟨j, hj, z⟩) k 0 fu (by omega) (by omega), a1, bdS, b1]
/-- a bell of a row: the class -/
theorem e_bell36 (hfu : 30000 ≤ fu) (hn1 : 2 ≤ n) (hn : n ≤ 8) (hB : chB L c) {K p : Nat} (hp : p < 8) (hK : K ≤ 999) (h0 : K = 0 ∨ 0 < L) (d : Nat) : ∀ (k f : Nat) (D : ev_D), k + d = K → d < f → chC D L c → rowC D (Rw n L c k) → ∃ D', fX3_bellAt_36 sh_L (sh_E kp) fu f 124 (nI n) (nI K) (nI p) (nI k) D = some (nI (Rw n L c K p), D') ∧ ex [125] [] D' D := by
  induction d with
  | zero =>
    intro k f D hk hf hC h
    obtain ⟨f, rfl⟩ : ∃ f', f = f' + 1 := ⟨f - 1, by omega⟩
    have ek : k = K := hk
    subst ek
    refine ⟨D, ?_, ex_rf _ _ _⟩
    rw [fX3_bellAt_36, if_pos (nI_le (by omega) (by omega)), e_124_3, l_125, gdI (by omega) (by omega), nI_clamp (by omega), h p hp]
  | succ d ih =>
    intro k f D hk hf hC h
    obtain ⟨f, rfl⟩ : ∃ f', f = f' + 1 := ⟨f - 1, by omega⟩
    obtain ⟨D1, a1, a2, a3⟩ := e_change (kp := kp) hfu hn1 hn (by omega) hB (k := k) (by omega) hC h
    obtain ⟨D2, b1, b2⟩ := ih (k + 1) f D1 (by omega) (by omega) (chC_ex a3 rfl rfl hC) a2
    refine ⟨D2, ?_, ex_tr a3 b2⟩
    rw [fX3_bellAt_36, if_neg (nI_ge (by omega) (by omega)), a1, bdS, i_1, addK, b1]
/-! ===== the reference's table of rows ===== -/
def tabM (n L : Nat) (c : Nat → Nat) (D : ev_D) (K : Nat) : Prop := ∀ k, k < K → ∀ i, i < n → D 156 (8 * k + i) = nI (Rw n L c k i)
theorem e_fr45 {k22 : Nat → Int32 → Int32 → Int32 → ev_D → ev_Op} (hn : n ≤ 8) {K k s : Nat} (hk : k + 1 < 1000) (d : Nat) : ∀ (q f : Nat) (D : ev_D), q + d = n → d < f → tabM n L c D (k + 1) → (∀ i, i < q → D 156 (8 * (k + 1) + i) = nI (Rw n L c k i)) → ∃ D', fX12_findsRows_45 sh_L (sh_E kp) fu k22 f 132 (nI n) (nI K) (nI (k + 1)) (nI s) (nI q) D = fX12_findsRows_87 sh_L (sh_E kp) fu k22 fu 132 (nI n) (nI K) (nI (k + 1)) (nI s) (nI 0) D' ∧ tabM n L c D' (k + 1) ∧ (∀ i, i < n → D' 156 (8 * (k + 1) + i) = nI (Rw n L c k i)) ∧ ex [156] [] D' D := by
  induction d with
  | zero =>
    intro q f D hq hf ht h
    obtain ⟨f, rfl⟩ : ∃ f', f = f' + 1 := ⟨f - 1, by omega⟩
    refine ⟨D, ?_, ht, fun i hi => h i (by omega), ex_rf _ _ _⟩
    rw [fX12_findsRows_45, if_pos (nI_le (by omega) (by omega)), i_0]
  | succ d ih =>
    intro q f D hq hf ht h
    obtain ⟨f, rfl⟩ : ∃ f', f = f' + 1 := ⟨f - 1, by omega⟩
    obtain ⟨D', a1, a2, a3, a4⟩ := ih (q + 1) f (ev_up D 156 (8 * (k + 1) + q) (nI (Rw n L c k q))) (by omega) (by omega) (fun j hj i hi => by rw [upJ _ _ _ _ (by omega)]; exact ht j hj i hi) (fun i hi => by
      by_cases e : i = q
      · rw [e, upS]
      · rw [upJ _ _ _ _ (by omega)]; exact h i (by omega))
    refine ⟨D', ?_, a2, a3, ex_tr (ex_up (ex_rf _ _ _) rfl) a4⟩
    rw [fX12_findsRows_45, if_neg (nI_ge (by omega) (by omega)), e_132_44, l_156, i_8, pk_mul, pk_sub (by omega), addK, addK, gdI (by omega) (by omega), gdI (by omega) (by omega), nI_clamp (by omega), nI_clamp (by omega), show 8 * (k + 1) - 8 + q = 8 * k + q by omega, ht k (by omega) q (by omega), i_1, addK, a1]
theorem e_fr87 {k22 : Nat → Int32 → Int32 → Int32 → ev_D → ev_Op} (hn : n ≤ 8) {K k s : Nat} (hk : k + 1 < 1000) (hs : s < 128) (hna : noadj s) (d : Nat) : ∀ (q f : Nat) (D : ev_D), q + d + 1 = n → d < f → tabM n L c D (k + 1) → (∀ i, i < n → D 156 (8 * (k + 1) + i) = nI (Rw n L c k (tau (q + 1) s i))) → ∃ D', fX12_findsRows_87 sh_L (sh_E kp) fu k22 f 132 (nI n) (nI K) (nI (k + 1)) (nI s) (nI q) D = k22 132 (nI n) (nI K) (nI (k + 2)) D' ∧ tabM n L c D' (k + 1) ∧ (∀ i, i < n → D' 156 (8 * (k + 1) + i) = nI (Rw n L c k (tau n s i))) ∧ ex [156] [] D' D := by
  induction d with
  | zero =>
    intro q f D hq hf ht h
    obtain ⟨f, rfl⟩ : ∃ f', f = f' + 1 := ⟨f - 1, by omega⟩
    refine ⟨D, ?_, ht, fun i hi => by rw [h i hi, show q + 1 = n from hq], ex_rf _ _ _⟩
    rw [fX12_findsRows_87, i_1, addK, if_pos (nI_le (by omega) (by omega)), addK]
  | succ d ih =>
    intro q f D hq hf ht h
    obtain ⟨f, rfl⟩ : ∃ f', f = f' + 1 := ⟨f - 1, by omega⟩
    rw [fX12_findsRows_87, i_1, addK, if_neg (nI_ge (by omega) (by omega)), e_hasM _ _ _ _ _ (by omega) (by omega), bdS, i_0, fX12_findsRows_165, fX12_findsRows_165, i_1, addK]
    cases hb : s.testBit q with
    | false =>
      rw [if_pos bF]
      exact ih (q + 1) f D (by omega) (by omega) ht (fun i hi => by rw [h i hi, tau_s0 hb])
    | true =>
      rw [if_neg (by decide), e_132_44, l_156, i_8, i_7, pk_mul, pk_sub (by omega), pk_sub (by omega), addK, addK, addK, addK, gdI (by omega) (by omega), gdI (by omega) (by omega), gdI (by omega) (by omega), gdI (by omega) (by omega), nI_clamp (by omega), nI_clamp (by omega), nI_clamp (by omega), nI_clamp (by omega), upJ _ _ _ _ (show 8 * (k + 1) - 8 + q ≠ 8 * (k + 1) + q by omega), show 8 * (k + 1) - 8 + q = 8 * k + q by omega, show 8 * (k + 1) - 7 + q = 8 * k + (q + 1) by omega, ht k (by omega) q (by omega), ht k (by omega) (q + 1) (by omega)]
      obtain ⟨D', a1, a2, a3, a4⟩ := ih (q + 1) f (ev_up (ev_up D 156 (8 * (k + 1) + q) (nI (Rw n L c k (q + 1)))) 156 (8 * (k + 1) + q + 1) (nI (Rw n L c k q))) (by omega) (by omega) (fun j hj i hi => by rw [upJ _ _ _ _ (by omega), upJ _ _ _ _ (by omega)]; exact ht j hj i hi) (fun i hi => by
        show _ = nI (Rw n L c k (tau (q + 2) s i))
        rw [tau_s1 hna hb]
        by_cases e1 : i = q
        · rw [upJ _ _ _ _ (by omega), e1, upS, if_pos rfl]
        · by_cases e2 : i = q + 1
          · rw [if_neg e1, if_pos e2, e2, ← Nat.add_assoc, upS]
          · rw [upJ _ _ _ _ (by omega), upJ _ _ _ _ (by omega), if_neg e1, if_neg e2, h i hi])
      exact ⟨D', a1, a2, a3, ex_tr (ex_up (ex_up (ex_rf _ _ _) rfl) rfl) a4⟩
theorem e_fr22 (hfu : 30000 ≤ fu) (hn1 : 2 ≤ n) (hn : n ≤ 8) (hB : chB L c) {K : Nat} (hK : K ≤ 1000) (h0 : K = 1 ∨ 0 < L) (d : Nat) : ∀ (k f : Nat) (D : ev_D), k + 1 + d = K → d < f → chM D L c → tabM n L c D (k + 1) → ∃ D', fX12_findsRows_22 sh_L (sh_E kp) fu f 132 (nI n) (nI K) (nI (k + 1)) D = some (nI 0, D') ∧ tabM n L c D' K ∧ ex [156] [] D' D := by
  induction d with
  | zero =>
    intro k f D hk hf hC ht
    obtain ⟨f, rfl⟩ : ∃ f', f = f' + 1 := ⟨f - 1, by omega⟩
    refine ⟨D, ?_, by rw [← hk]; exact ht, ex_rf _ _ _⟩
    rw [fX12_findsRows_22, if_pos (nI_le (by omega) (by omega)), i_0]
  | succ d ih =>
    intro k f D hk hf hC ht
    obtain ⟨f, rfl⟩ : ∃ f', f = f' + 1 := ⟨f - 1, by omega⟩
    have hL : 0 < L := by omega
    have hm : k % L < L := Nat.mod_lt _ hL
    have hL2 := hB.1
    obtain ⟨D1, a1, a2, a3, a4⟩ := e_fr45 (kp := kp) (fu := fu) (k22 := fX12_findsRows_22 sh_L (sh_E kp) fu f) (L := L) (c := c) hn (K := K) (k := k) (s := c (k % L)) (by omega) n 0 fu D (by omega) (by omega) ht (fun i hi => absurd hi (Nat.not_lt_zero i))
    obtain ⟨D2, b1, b2, b3, b4⟩ := e_fr87 (kp := kp) (fu := fu) (k22 := fX12_findsRows_22 sh_L (sh_E kp) fu f) (L := L) (c := c) hn (K := K) (k := k) (s := c (k % L)) (by omega) (hB.2 _ hm).1 (hB.2 _ hm).2 (n - 1) 0 fu D1 (by omega) (by omega) a2 (fun i hi => by rw [tau_1]; exact a3 i hi)
    have x := ex_tr a4 b4
    obtain ⟨D3, c1, c2, c3⟩ := ih (k + 1) f D2 (by omega) (by omega) ⟨(ex_f x rfl).trans hC.1, fun j hj => (ex_at x rfl _).trans (hC.2 j hj)⟩ (fun j hj i hi => by
      by_cases e : j = k + 1
      · rw [e]; exact b3 i hi
      · exact b2 j (by omega) i hi)
    refine ⟨D3, ?_, c2, ex_tr x c3⟩
    rw [fX12_findsRows_22, if_neg (nI_ge (by omega) (by omega)), hC.1, i_0, gdZ hL (by omega), i_1, pk_sub (by omega), Nat.add_sub_cancel, pk_rem (by omega) hL (by omega), e_132_40, l_153, gdI (by omega) (by omega), nI_clamp (by omega), hC.2 _ hm, a1, b1, c1]
theorem e_fr2 (hfu : 30000 ≤ fu) (hn1 : 2 ≤ n) (hn : n ≤ 8) (hB : chB L c) {K : Nat} (hK1 : 1 ≤ K) (hK : K ≤ 1000) (h0 : K = 1 ∨ 0 < L) (d : Nat) : ∀ (i f : Nat) (D : ev_D), i + d = n → d < f → chM D L c → (∀ j, j < i → D 156 j = nI j) → ∃ D', fX12_findsRows_2 sh_L (sh_E kp) fu f 132 (nI n) (nI K) (nI i) D = some (nI 0, D') ∧ tabM n L c D' K ∧ ex [156] [] D' D := by
  induction d with
  | zero =>
    intro i f D hi hf hC h
    obtain ⟨f, rfl⟩ : ∃ f', f = f' + 1 := ⟨f - 1, by omega⟩
    obtain ⟨D', a1, a2, a3⟩ := e_fr22 (kp := kp) hfu hn1 hn hB hK h0 (K - 1) 0 fu D (by omega) (by omega) hC (fun k hk j hj => by
      rw [show 8 * k + j = j by omega, show k = 0 by omega, h j (by omega)]; rfl)
    refine ⟨D', ?_, a2, a3⟩
    rw [fX12_findsRows_2, if_pos (nI_le (by omega) (by omega)), i_1, a1]
  | succ d ih =>
    intro i f D hi hf hC h
    obtain ⟨f, rfl⟩ : ∃ f', f = f' + 1 := ⟨f - 1, by omega⟩
    obtain ⟨D', a1, a2, a3⟩ := ih (i + 1) f (ev_up D 156 i (nI i)) (by omega) (by omega) ⟨by rw [upN _ _ _ _ (by decide)]; exact hC.1, fun j hj => by rw [upN _ _ _ _ (by decide)]; exact hC.2 j hj⟩ (fun j hj => by
      by_cases e : j = i
      · rw [e, upS]
      · rw [upJ _ _ _ _ e, h j (by omega)])
    refine ⟨D', ?_, a2, ex_tr (ex_up (ex_rf _ _ _) rfl) a3⟩
    rw [fX12_findsRows_2, if_neg (nI_ge (by omega) (by omega)), e_132_44, l_156, gdI (by omega) (by omega), nI_clamp (by omega), i_1, addK, a1]
theorem e_fr (hfu : 30000 ≤ fu) (hn1 : 2 ≤ n) (hn : n ≤ 8) (hB : chB L c) {K : Nat} (hK1 : 1 ≤ K) (hK : K ≤ 1000) (h0 : K = 1 ∨ 0 < L) {D : ev_D} (hC : chM D L c) : ∃ D', fX12_findsRows sh_L (sh_E kp) fu 132 (nI n) (nI K) D = some (nI 0, D') ∧ tabM n L c D' K ∧ ex [156] [] D' D := by
  rw [fX12_findsRows, i_0]
  exact e_fr2 hfu hn1 hn hB hK1 hK h0 n 0 fu D (by omega) (by omega) hC (fun j hj => absurd hj (Nat.not_lt_zero j))
theorem e_same3 (hn : n ≤ 8) {K a b : Nat} (hK : K ≤ 1000) (ha : a < K) (hb : b < K) {D : ev_D} (ht : tabM n L c D K) (d : Nat) : ∀ (i f : Nat), i + d = n → d < f → ((∀ j, i ≤ j → j < n → Rw n L c a j = Rw n L c b j) → fX12_isSameRow_3 sh_L (sh_E kp) fu f 132 (nI a) (nI b) (nI n) (nI i) D = some (nI 1, D)) ∧ ((∃ j, i ≤ j ∧ j < n ∧ Rw n L c a j ≠ Rw n L c b j) → fX12_isSameRow_3 sh_L (sh_E kp) fu f 132 (nI a) (nI b) (nI n) (nI i) D = some (nI 0, D)) := by
  induction d with
  | zero =>
    intro i f hi hf
    obtain ⟨f, rfl⟩ : ∃ f', f = f' + 1 := ⟨f - 1, by omega⟩
    refine ⟨fun _ => ?_, fun ⟨j, h1, h2, _⟩ => by omega⟩
    rw [fX12_isSameRow_3, if_pos (nI_le (by omega) (by omega)), i_1]
  | succ d ih =>
    intro i f hi hf
    obtain ⟨f, rfl⟩ : ∃ f', f = f' + 1 := ⟨f - 1, by omega⟩
    obtain ⟨i1, i2⟩ := ih (i + 1) f (by omega) (by omega)
    have b1 := Rw_8 (L := L) (c := c) hn a i (by omega)
    have b2 := Rw_8 (L := L) (c := c) hn b i (by omega)
    rw [fX12_isSameRow_3, if_neg (nI_ge (by omega) (by omega)), e_132_44, l_156, i_8, pk_mul, pk_mul, addK, addK, gdI (by omega) (by omega), gdI (by omega) (by omega), nI_clamp (by omega), nI_clamp (by omega), ht a ha i (by omega), ht b hb i (by omega), i_1, addK, i_0]
    by_cases e : Rw n L c a i = Rw n L c b i
    · rw [if_pos (by rw [e])]
      refine ⟨fun h => i1 fun j h1 h2 => h j (by omega) h2, fun ⟨j, h1, h2, h3⟩ => i2 ⟨j, ?_, h2, h3⟩⟩
      rcases Nat.lt_or_ge i j with z | z
      · exact z
      · exact absurd (by rw [show j = i by omega]; exact e) h3
    · rw [if_neg (show ¬ nI (Rw n L c a i) = nI (Rw n L c b i) from fun z => e ((nI_eq (by omega) (by omega)).mp z))]
      exact ⟨fun h => absurd (h i (Nat.le_refl _) (by omega)) e, fun _ => rfl⟩
theorem e_same1 (hfu : 30000 ≤ fu) (hn : n ≤ 8) {K a b : Nat} (hK : K ≤ 1000) (ha : a < K) (hb : b < K) {D : ev_D} (ht : tabM n L c D K) (h : ∀ i, i < 8 → Rw n L c a i = Rw n L c b i) : fX12_isSameRow sh_L (sh_E kp) fu 132 (nI a) (nI b) (nI n) D = some (nI 1, D) := by
  rw [fX12_isSameRow, i_0]
  exact (e_same3 hn hK ha hb ht n 0 fu (by omega) (by omega)).1 fun j _ h2 => h j (by omega)
theorem e_same0 (hfu : 30000 ≤ fu) (hn : n ≤ 8) {K a b : Nat} (hK : K ≤ 1000) (ha : a < K) (hb : b < K) {D : ev_D} (ht : tabM n L c D K) (h : ¬ ∀ i, i < 8 → Rw n L c a i = Rw n L c b i) : fX12_isSameRow sh_L (sh_E kp) fu 132 (nI a) (nI b) (nI n) D = some (nI 0, D) := by
  rw [fX12_isSameRow, i_0]
  refine (e_same3 hn hK ha hb ht n 0 fu (by omega) (by omega)).2 ?_
  refine Classical.byContradiction fun hno => h fun i _ => Rw_same (fun j hj => Classical.byContradiction fun z => hno ⟨j, Nat.zero_le _, hj, z⟩) i
theorem e_longM (hfu : 30000 ≤ fu) (hn : n ≤ 8) {D : ev_D} (ht : tabM n L c D 1000) {K : Nat} (hK : K ≤ 240) (hK1 : ∀ i, i < 8 → Rw n L c K i = i) (hK2 : ∀ k, k < K → ¬ (1 ≤ k ∧ ∀ i, i < 8 → Rw n L c k i = i)) (d : Nat) : ∀ (k f : Nat), k + d = K → 1 ≤ k → d < f → fX12_longOf_2 sh_L (sh_E kp) fu f 132 (nI n) (nI k) D = some (nI K, D) := by
  induction d with
  | zero =>
    intro k f hk h1 hf
    obtain ⟨f, rfl⟩ : ∃ f', f = f' + 1 := ⟨f - 1, by omega⟩
    have ek : k = K := hk
    subst ek
    rw [fX12_longOf_2, i_0, e_same1 hfu hn (Nat.le_refl _) (by omega) (by omega) ht (fun i hi => by rw [hK1 i hi]; rfl), bdS, if_neg (by decide)]
  | succ d ih =>
    intro k f hk h1 hf
    obtain ⟨f, rfl⟩ : ∃ f', f = f' + 1 := ⟨f - 1, by omega⟩
    rw [fX12_longOf_2, i_0, e_same0 hfu hn (Nat.le_refl _) (by omega) (by omega) ht (fun z => hK2 k (by omega) ⟨h1, fun i hi => z i hi⟩), bdS, if_pos rfl, i_1, addK, ih (k + 1) f (by omega) (by omega) (by omega)]
theorem e_trueM11 {k2 : Nat → Int32 → Int32 → ev_D → ev_Op} (hfu : 30000 ≤ fu) (hn : n ≤ 8) {D : ev_D} (ht : tabM n L c D 1000) {k : Nat} (hk : k < 1000) (d : Nat) : ∀ (j f : Nat), j + d = k → d < f → ((∀ j', j ≤ j' → j' < k → ¬ ∀ i, i < 8 → Rw n L c j' i = Rw n L c k i) → fX12_trueOf_11 sh_L (sh_E kp) fu k2 f 132 (nI n) (nI k) (nI j) D = k2 132 (nI n) (nI (k + 1)) D) ∧ ((∃ j', j ≤ j' ∧ j' < k ∧ ∀ i, i < 8 → Rw n L c j' i = Rw n L c k i) → fX12_trueOf_11 sh_L (sh_E kp) fu k2 f 132 (nI n) (nI k) (nI j) D = some (nI k, D)) := by
  induction d with
  | zero =>
    intro j f hj hf
    obtain ⟨f, rfl⟩ : ∃ f', f = f' + 1 := ⟨f - 1, by omega⟩
    refine ⟨fun _ => ?_, fun ⟨j', h1, h2, _⟩ => by omega⟩
    rw [fX12_trueOf_11, if_pos (nI_le (by omega) (by omega)), i_1, addK]
  | succ d ih =>
    intro j f hj hf
    obtain ⟨f, rfl⟩ : ∃ f', f = f' + 1 := ⟨f - 1, by omega⟩
    obtain ⟨i1, i2⟩ := ih (j + 1) f (by omega) (by omega)
    rw [fX12_trueOf_11, if_neg (nI_ge (by omega) (by omega))]
    by_cases e : ∀ i, i < 8 → Rw n L c j i = Rw n L c k i
    · rw [e_same1 hfu hn (Nat.le_refl _) (by omega) (by omega) ht (fun i hi => (e i hi).symm), bdS, i_0, if_neg (by decide)]
      exact ⟨fun h => absurd e (h j (Nat.le_refl _) (by omega)), fun _ => rfl⟩
    · rw [e_same0 hfu hn (Nat.le_refl _) (by omega) (by omega) ht (fun z => e fun i hi => (z i hi).symm), bdS, i_0, if_pos rfl, i_1, addK]
      refine ⟨fun h => i1 fun j' h1 h2 => h j' (by omega) h2, fun ⟨j', h1, h2, h3⟩ => i2 ⟨j', ?_, h2, h3⟩⟩
      rcases Nat.lt_or_ge j j' with z | z
      · exact z
      · exact absurd (by rw [show j = j' by omega]; exact h3) e
theorem e_trueM (hfu : 30000 ≤ fu) (hn : n ≤ 8) {D : ev_D} (ht : tabM n L c D 1000) {K : Nat} (hK : K ≤ 240) (hK1 : ∃ j, j < K ∧ ∀ i, i < 8 → Rw n L c j i = Rw n L c K i) (hK2 : ∀ k, k < K → ¬ ∃ j, j < k ∧ ∀ i, i < 8 → Rw n L c j i = Rw n L c k i) (d : Nat) : ∀ (k f : Nat), k + d = K → d < f → fX12_trueOf_2 sh_L (sh_E kp) fu f 132 (nI n) (nI k) D = some (nI K, D) := by
  induction d with
  | zero =>
    intro k f hk hf
    obtain ⟨f, rfl⟩ : ∃ f', f = f' + 1 := ⟨f - 1, by omega⟩
    have ek : k = K := hk
    subst ek
    obtain ⟨j0, y1, y2⟩ := hK1
    rw [fX12_trueOf_2, i_1000, if_neg (nI_ge (by omega) (by omega)), i_0]
    exact (e_trueM11 hfu hn ht (by omega) k 0 fu (by omega) (by omega)).2 ⟨j0, Nat.zero_le _, y1, y2⟩
  | succ d ih =>
    intro k f hk hf
    obtain ⟨f, rfl⟩ : ∃ f', f = f' + 1 := ⟨f - 1, by omega⟩
    rw [fX12_trueOf_2, i_1000, if_neg (nI_ge (by omega) (by omega)), i_0, (e_trueM11 hfu hn ht (by omega) k 0 fu (by omega) (by omega)).1 (fun j _ h2 z => hK2 k (by omega) ⟨j, h2, z⟩), ih (k + 1) f (by omega) (by omega)]
end
/-! ===== the two calls ===== -/
theorem g_ch {D : ev_D} (g : g_C D D) : ∃ L c, chB L c ∧ chC D L c ∧ chM D L c := by
  obtain ⟨⟨L, hL, eL⟩, h2, h3⟩ := g
  rw [eL, nv_n (by omega)] at h3
  refine ⟨L, fun j => nv (D 26 (3 * j)), ⟨hL, fun j hj => ?_⟩, ⟨eL, fun j hj => ?_⟩, ⟨h2.trans eL, fun j hj => ?_⟩⟩
  · have := (bI_nv (by decide) (h3 j hj).2.1).2
    exact ⟨Nat.lt_succ_of_le this, (h3 j hj).2.2⟩
  · exact (bI_nv (by decide) (h3 j hj).2.1).1
  · rw [(h3 j hj).1]; exact (bI_nv (by decide) (h3 j hj).2.1).1
theorem p_peal {kp fu : Nat} (hfu : 30000 ≤ fu) (a1 a2 : Int32) (D : ev_D) (h : Inv kp D) : pl kp (fX11_peal sh_L (sh_E kp) fu 1 a1 a2) (fX12_peal sh_L (sh_E kp) fu 132 a1 a2) D := by
  have h0 := h
  obtain ⟨g0, gM, ⟨gT, gF, gB, gR, gD, gC, gS, gO, gE, gG, gU, gH, gN, gL⟩, gP, gQ, gZ, gK⟩ := h
  obtain ⟨L, c, hB, hC, hM⟩ := g_ch gC
  have hM' : ∀ D1 : ev_D, D1 132 39 = D 132 39 → D1 153 = D 153 → chM D1 L c := fun D1 e1 e2 => ⟨e1.trans hM.1, fun j hj => by rw [e2]; exact hM.2 j hj⟩
  have hL2 := hB.1
  rcases in_or a1 (a := 2) (b := 8) (by omega) (by omega) with hb | ⟨n, hn1, hn, rfl⟩
  · apply pl_mk
    · conv => lhs; simp (disch := omega) only [fX11_peal, e_within0 _ _ _ _ hb, ↓mm1, ↓mm9, ↓mm100, ↓mm8, bdS, gdI, gdZ, eq_self, e_within, e_isInM, e_isBell, addK, pk_mul, nI_clamp, ofN, true_and, false_and, and_false, and_true, and_self, ltT, ltF, leT, leF, eqF, m1F, m1F2, m1L, m1L2, m1G, i_0, i_1, i_2, i_3, i_4, i_5, i_6, i_7, i_8, i_9, i_10, i_11, i_12, i_14, i_15, i_16, i_17, i_18, i_19, i_20, i_21, i_23, i_24, i_25, i_26, i_31, i_32, i_34, i_40, i_41, i_42, i_43, i_44, i_45, i_47, i_48, i_57, i_59, i_60, i_61, i_62, i_63, i_65, i_80, i_90, i_97, i_98, i_99, i_100, i_122, i_150, i_151, i_255, i_256, i_258, i_259, i_260, i_261, i_262, i_263, i_271, i_273, i_274, i_275, i_276, i_277, i_281, i_282, i_380, i_400, i_500, i_600, i_800, i_999, i_1000, i_9999, i_10000, i_10100, i_10101, i_10102, i_10103, i_10104, i_10105, i_10106, i_10107, i_10108, i_10109, i_27720, i_65535, i_1664525, i_100000000, i_252645135, i_858993459, i_1013904223, i_1431655765, e_1_0, e_1_1, e_1_2, e_1_3, e_1_4, e_1_5, e_2_0, e_2_1, e_2_2, e_2_3, e_3_7, e_3_8, e_3_9, e_3_10, e_3_11, e_3_12, e_3_13, e_11_2, e_13_0, e_13_1, e_13_2, e_13_3, e_14_2, e_14_3, e_14_4, e_14_5, e_14_6, e_14_7, e_21_2, e_23_2, e_25_2, e_27_0, e_27_1, e_27_2, e_27_3, e_27_4, e_27_5, e_27_6, e_28_2, e_30_2, e_32_2, e_34_2, e_36_2, e_40_2, e_40_3, e_41_0, e_41_1, e_41_2, e_41_3, e_41_4, e_41_5, e_91_0, e_91_4, e_91_5, e_91_6, e_91_7, e_92_0, e_92_1, e_92_2, e_92_3, e_93_2, e_93_3, e_93_4, e_93_5, e_93_6, e_93_7, e_100_2, e_102_2, e_104_2, e_110_0, e_110_1, e_110_2, e_110_3, e_112_0, e_112_1, e_112_2, e_112_3, e_113_7, e_113_8, e_113_9, e_113_10, e_113_11, e_113_12, e_113_13, e_121_2, e_124_0, e_124_1, e_124_2, e_124_3, e_124_4, e_124_5, e_124_6, e_124_7, e_124_8, e_124_9, l_4, l_5, l_6, l_7, l_8, l_9, l_10, l_12, l_15, l_16, l_17, l_18, l_19, l_20, l_22, l_24, l_26, l_29, l_31, l_33, l_35, l_37, l_38, l_39, l_41, l_42, l_94, l_95, l_96, l_97, l_98, l_99, l_101, l_103, l_105, l_106, l_107, l_108, l_109, l_111, l_114, l_115, l_116, l_117, l_118, l_119, l_120, l_123, l_125, l_126, l_127, l_128, l_129, l_130, l_131, e_132_1, e_132_2, e_132_4, e_132_6, e_132_8, e_132_9, e_132_10, e_132_11, e_132_12, e_132_18, e_132_19, e_132_20, e_132_21, e_132_22, e_132_23, e_132_24, e_132_25, e_132_29, e_132_36, e_132_38, e_132_40, e_132_41, e_132_42, e_132_44, e_132_46, e_132_47, e_132_49, e_132_50, e_132_51, e_132_52, e_132_54, e_132_55, e_132_56, e_132_58, e_132_60, e_132_61, e_132_62, e_132_66, l_133, l_134, l_135, l_136, l_137, l_138, l_139, l_140, l_141, l_142, l_143, l_144, l_145, l_146, l_147, l_148, l_149, l_150, l_151, l_152, l_153, l_154, l_155, l_156, l_157, l_158, l_159, l_160, l_161, l_162, l_163, l_164, l_165, l_166, l_167, l_168, l_169, l_170, upA, reduceIte, neF]
    · conv => lhs; simp (disch := omega) only [fX12_peal, e_isInM0 _ _ _ _ _ hb, ↓mm1, ↓mm9, ↓mm100, ↓mm8, bdS, gdI, gdZ, eq_self, e_within, e_isInM, e_isBell, addK, pk_mul, nI_clamp, ofN, true_and, false_and, and_false, and_true, and_self, ltT, ltF, leT, leF, eqF, m1F, m1F2, m1L, m1L2, m1G, i_0, i_1, i_2, i_3, i_4, i_5, i_6, i_7, i_8, i_9, i_10, i_11, i_12, i_14, i_15, i_16, i_17, i_18, i_19, i_20, i_21, i_23, i_24, i_25, i_26, i_31, i_32, i_34, i_40, i_41, i_42, i_43, i_44, i_45, i_47, i_48, i_57, i_59, i_60, i_61, i_62, i_63, i_65, i_80, i_90, i_97, i_98, i_99, i_100, i_122, i_150, i_151, i_255, i_256, i_258, i_259, i_260, i_261, i_262, i_263, i_271, i_273, i_274, i_275, i_276, i_277, i_281, i_282, i_380, i_400, i_500, i_600, i_800, i_999, i_1000, i_9999, i_10000, i_10100, i_10101, i_10102, i_10103, i_10104, i_10105, i_10106, i_10107, i_10108, i_10109, i_27720, i_65535, i_1664525, i_100000000, i_252645135, i_858993459, i_1013904223, i_1431655765, e_1_0, e_1_1, e_1_2, e_1_3, e_1_4, e_1_5, e_2_0, e_2_1, e_2_2, e_2_3, e_3_7, e_3_8, e_3_9, e_3_10, e_3_11, e_3_12, e_3_13, e_11_2, e_13_0, e_13_1, e_13_2, e_13_3, e_14_2, e_14_3, e_14_4, e_14_5, e_14_6, e_14_7, e_21_2, e_23_2, e_25_2, e_27_0, e_27_1, e_27_2, e_27_3, e_27_4, e_27_5, e_27_6, e_28_2, e_30_2, e_32_2, e_34_2, e_36_2, e_40_2, e_40_3, e_41_0, e_41_1, e_41_2, e_41_3, e_41_4, e_41_5, e_91_0, e_91_4, e_91_5, e_91_6, e_91_7, e_92_0, e_92_1, e_92_2, e_92_3, e_93_2, e_93_3, e_93_4, e_93_5, e_93_6, e_93_7, e_100_2, e_102_2, e_104_2, e_110_0, e_110_1, e_110_2, e_110_3, e_112_0, e_112_1, e_112_2, e_112_3, e_113_7, e_113_8, e_113_9, e_113_10, e_113_11, e_113_12, e_113_13, e_121_2, e_124_0, e_124_1, e_124_2, e_124_3, e_124_4, e_124_5, e_124_6, e_124_7, e_124_8, e_124_9, l_4, l_5, l_6, l_7, l_8, l_9, l_10, l_12, l_15, l_16, l_17, l_18, l_19, l_20, l_22, l_24, l_26, l_29, l_31, l_33, l_35, l_37, l_38, l_39, l_41, l_42, l_94, l_95, l_96, l_97, l_98, l_99, l_101, l_103, l_105, l_106, l_107, l_108, l_109, l_111, l_114, l_115, l_116, l_117, l_118, l_119, l_120, l_123, l_125, l_126, l_127, l_128, l_129, l_130, l_131, e_132_1, e_132_2, e_132_4, e_132_6, e_132_8, e_132_9, e_132_10, e_132_11, e_132_12, e_132_18, e_132_19, e_132_20, e_132_21, e_132_22, e_132_23, e_132_24, e_132_25, e_132_29, e_132_36, e_132_38, e_132_40, e_132_41, e_132_42, e_132_44, e_132_46, e_132_47, e_132_49, e_132_50, e_132_51, e_132_52, e_132_54, e_132_55, e_132_56, e_132_58, e_132_60, e_132_61, e_132_62, e_132_66, l_133, l_134, l_135, l_136, l_137, l_138, l_139, l_140, l_141, l_142, l_143, l_144, l_145, l_146, l_147, l_148, l_149, l_150, l_151, l_152, l_153, l_154, l_155, l_156, l_157, l_158, l_159, l_160, l_161, l_162, l_163, l_164, l_165, l_166, l_167, l_168, l_169, l_170, upA, reduceIte, neF]
    · exact Inv_s (by repeat (first | exact ex_rf _ _ _ | refine ex_up ?_ rfl)) h0
  rcases in_or a2 (a := 0) (b := 1) (by omega) (by omega) with hb | ⟨w, -, hw, rfl⟩
  · have n0 : ¬ a2 = nI 0 := fun e => by subst e; exact hb.elim (fun z => by have := (nI_ltI (by omega) (by omega)).mp z; omega) (fun z => by have := (nI_ltI (by omega) (by omega)).mp z; omega)
    have n1 : ¬ a2 = nI 1 := fun e => by subst e; exact hb.elim (fun z => by have := (nI_ltI (by omega) (by omega)).mp z; omega) (fun z => by have := (nI_ltI (by omega) (by omega)).mp z; omega)
    refine pl_mk (r := mi1) (D1 := D) (D2 := ev_up D 132 0 (nI 0)) ?_ ?_ (Inv_s (by repeat (first | exact ex_rf _ _ _ | refine ex_up ?_ rfl)) h0)
    · rw [fX11_peal, i_2, i_8, e_within _ _ _ _ hn1 hn (by decide), bdS, i_0, if_neg (by decide), if_neg n0, mm1, i_1, if_neg n1]
    · rw [fX12_peal, i_2, i_8, e_isInM _ _ _ _ _ hn1 hn (by decide), bdS, mm1, i_0, if_neg (by decide), i_1, e_isInM0 _ _ _ _ _ hb, bdS, if_pos rfl]
  have m0 : ∀ X, fX12_peal sh_L (sh_E kp) fu 132 (nI n) (nI w) D = X ↔ (if (ev_up D 132 0 (nI 0)) 132 39 = nI 0 then if nI w = nI 0 then some (mi1, ev_up D 132 0 (nI 0)) else some (nI 1, ev_up D 132 0 (nI 0)) else ev_bd (fX12_findsRows sh_L (sh_E kp) fu 132 (nI n) (nI 1000) (ev_up D 132 0 (nI 0))) (fun _ D6 => if nI w = nI 0 then ev_bd (fX12_longOf sh_L (sh_E kp) fu 132 (nI n) D6) (fun v9 D9 => some (v9, D9)) else ev_bd (fX12_trueOf sh_L (sh_E kp) fu 132 (nI n) D6) (fun v8 D8 => some (v8, D8)))) = X := fun X => by
    rw [fX12_peal, i_2, i_8, e_isInM _ _ _ _ _ hn1 hn (by decide), bdS, mm1, i_0, if_neg (by decide), i_1, e_isInM _ _ _ _ _ (Nat.zero_le _) hw (by decide), bdS, if_neg (by decide), i_1000]
  have c0 : ∀ X, fX11_peal sh_L (sh_E kp) fu 1 (nI n) (nI w) D = X ↔ (if nI w = nI 0 then ev_bd (fX3_rowsToRounds sh_L (sh_E kp) fu 124 (nI n) D) (fun v4 D4 => some (v4, D4)) else if nI w = nI 1 then ev_bd (fX3_rowsToRepeat sh_L (sh_E kp) fu 124 (nI n) D) (fun v6 D6 => some (v6, D6)) else some (mi1, D)) = X := fun X => by
    rw [fX11_peal, i_2, i_8, e_within _ _ _ _ hn1 hn (by decide), bdS, mm1, i_0, if_neg (by decide), i_1, e_1_5]
  have f39 : (ev_up D 132 0 (nI 0)) 132 39 = nI L := by rw [upJ _ _ _ _ (by decide)]; exact hM.1
  by_cases hL : L = 0
  · subst hL
    by_cases e : w = 0
    · subst e
      refine pl_mk (r := mi1) (D1 := D) (D2 := ev_up D 132 0 (nI 0)) ((c0 _).mpr ?_) ((m0 _).mpr ?_) (Inv_s (by repeat (first | exact ex_rf _ _ _ | refine ex_up ?_ rfl)) h0)
      · rw [if_pos rfl, fX3_rowsToRounds, e_124_1, e_13_3, hC.1, i_0, if_pos rfl, mm1, bdS]
      · rw [f39, if_pos rfl, if_pos rfl]
    · have e1 : w = 1 := by omega
      subst e1
      refine pl_mk (r := nI 1) (D1 := D) (D2 := ev_up D 132 0 (nI 0)) ((c0 _).mpr ?_) ((m0 _).mpr ?_) (Inv_s (by repeat (first | exact ex_rf _ _ _ | refine ex_up ?_ rfl)) h0)
      · rw [if_neg (by decide), if_pos rfl, fX3_rowsToRepeat, e_124_1, e_13_3, hC.1, i_0, if_pos rfl, i_1, bdS]
      · rw [f39, if_pos rfl, if_neg (by decide)]
  have hLp : 0 < L := by omega
  have nL : ¬ nI L = nI 0 := fun z => by have := (nI_eq (by omega) (by omega)).mp z; omega
  obtain ⟨K0, k1, k2, k3⟩ := Rw_back (n := n) hn hLp hB.1 (fun j hj => (hB.2 j hj).2)
  by_cases e : w = 0
  · subst e
    obtain ⟨K, q1, ⟨q2, q2'⟩, q3⟩ := lst (P := fun k => 1 ≤ k ∧ ∀ i, i < 8 → Rw n L c k i = i) K0 ⟨k1, k3⟩
    obtain ⟨D1, a1, a2, a3⟩ := e_rounds (kp := kp) (n := n) (L := L) (c := c) hfu D
    obtain ⟨D2, b1, b2⟩ := e_long26 (kp := kp) hfu hn1 hn hLp hB (by omega) q2' q3 (K - 1) 0 fu D1 (by omega) (by omega) (chC_ex a3 rfl rfl hC) a2
    have x := ex_tr a3 b2
    have g39 : (ev_up D2 132 0 (nI 0)) 132 39 = nI L := by rw [upJ _ _ _ _ (by decide), ex_f x rfl]; exact hM.1
    obtain ⟨D3, d1, d2, d3⟩ := e_fr (kp := kp) (D := ev_up D2 132 0 (nI 0)) hfu hn1 hn hB (K := 1000) (by decide) (by decide) (.inr hLp) (hM' _ (by rw [upJ _ _ _ _ (by decide), ex_f x rfl]) (by rw [upN _ _ _ _ (by decide), ex_c x 153 rfl]))
    refine pl_mk (r := nI K) (D1 := D2) (D2 := D3) ((c0 _).mpr ?_) ?_ (Inv_s (ex_cat (ex_cat x (ex_0 D2 (nI 0)) sSC sSF rfl rfl) d3 _ _ rfl rfl) h0)
    · rw [if_pos rfl, fX3_rowsToRounds, e_124_1, e_13_3, hC.1, i_0, if_neg nL, a1, bdS, e_num hfu a2, bdS, i_1, b1, bdS]
    · rw [fX12_peal, i_2, i_8, e_isInM _ _ _ _ _ hn1 hn (by decide), bdS, mm1, i_0, if_neg (by decide), i_1, e_isInM _ _ _ _ _ (Nat.zero_le _) hw (by decide), bdS, if_neg (by decide), i_1000, g39, if_neg nL, d1, bdS, if_pos rfl, fX12_longOf, i_1, e_longM hfu hn d2 (by omega) q2' q3 (K - 1) 1 fu (by omega) (by omega) (by omega), bdS]
  · have e1 : w = 1 := by omega
    subst e1
    obtain ⟨K, q1, q2, q3⟩ := lst (P := fun k => ∃ j, j < k ∧ ∀ i, i < 8 → Rw n L c j i = Rw n L c k i) K0 ⟨0, by omega, fun i hi => by rw [k3 i hi]; rfl⟩
    have hK1 : 1 ≤ K := by obtain ⟨j, y, -⟩ := q2; omega
    obtain ⟨D1, a1, a2, a3⟩ := e_rounds (kp := kp) (n := n) (L := L) (c := c) hfu D
    obtain ⟨D2, b1, b2⟩ := e_true21 (kp := kp) hfu hn1 hn hLp hB (by omega) q2 q3 K 0 fu D1 (by omega) (by omega) (chC_ex a3 rfl rfl hC) a2 (fun j hj => absurd hj (Nat.not_lt_zero j))
    have x := ex_tr (ex_sub a3 (sc2 := [125, 126]) rfl) b2
    have g39 : (ev_up D2 132 0 (nI 0)) 132 39 = nI L := by rw [upJ _ _ _ _ (by decide), ex_f x rfl]; exact hM.1
    obtain ⟨D3, d1, d2, d3⟩ := e_fr (kp := kp) (D := ev_up D2 132 0 (nI 0)) hfu hn1 hn hB (K := 1000) (by decide) (by decide) (.inr hLp) (hM' _ (by rw [upJ _ _ _ _ (by decide), ex_f x rfl]) (by rw [upN _ _ _ _ (by decide), ex_c x 153 rfl]))
    refine pl_mk (r := nI K) (D1 := D2) (D2 := D3) ((c0 _).mpr ?_) ?_ (Inv_s (ex_cat (ex_cat x (ex_0 D2 (nI 0)) sSC sSF rfl rfl) d3 _ _ rfl rfl) h0)
    · rw [if_neg (by decide), if_pos rfl, fX3_rowsToRepeat, e_124_1, e_13_3, hC.1, i_0, if_neg nL, a1, bdS, b1, bdS]
    · rw [fX12_peal, i_2, i_8, e_isInM _ _ _ _ _ hn1 hn (by decide), bdS, mm1, i_0, if_neg (by decide), i_1, e_isInM _ _ _ _ _ (Nat.zero_le _) hw (by decide), bdS, if_neg (by decide), i_1000, g39, if_neg nL, d1, bdS, if_neg (by decide), fX12_trueOf, i_1, e_trueM hfu hn d2 (by omega) q2 q3 (K - 1) 1 fu (by omega) (by omega), bdS]
theorem p_row {kp fu : Nat} (hfu : 30000 ≤ fu) (a1 a2 a3 : Int32) (D : ev_D) (h : Inv kp D) : pl kp (fX11_row sh_L (sh_E kp) fu 1 a1 a2 a3) (fX12_row sh_L (sh_E kp) fu 132 a1 a2 a3) D := by
  have h0 := h
  obtain ⟨g0, gM, ⟨gT, gF, gB, gR, gD, gC, gS, gO, gE, gG, gU, gH, gN, gL⟩, gP, gQ, gZ, gK⟩ := h
  obtain ⟨L, c, hB, hC, hM⟩ := g_ch gC
  have hL2 := hB.1
  rcases in_or a1 (a := 2) (b := 8) (by omega) (by omega) with hb | ⟨n, hn1, hn, rfl⟩
  · apply pl_mk
    · conv => lhs; simp (disch := omega) only [fX11_row, e_within0 _ _ _ _ hb, ↓mm1, ↓mm9, ↓mm100, ↓mm8, bdS, gdI, gdZ, eq_self, e_within, e_isInM, e_isBell, addK, pk_mul, nI_clamp, ofN, true_and, false_and, and_false, and_true, and_self, ltT, ltF, leT, leF, eqF, m1F, m1F2, m1L, m1L2, m1G, i_0, i_1, i_2, i_3, i_4, i_5, i_6, i_7, i_8, i_9, i_10, i_11, i_12, i_14, i_15, i_16, i_17, i_18, i_19, i_20, i_21, i_23, i_24, i_25, i_26, i_31, i_32, i_34, i_40, i_41, i_42, i_43, i_44, i_45, i_47, i_48, i_57, i_59, i_60, i_61, i_62, i_63, i_65, i_80, i_90, i_97, i_98, i_99, i_100, i_122, i_150, i_151, i_255, i_256, i_258, i_259, i_260, i_261, i_262, i_263, i_271, i_273, i_274, i_275, i_276, i_277, i_281, i_282, i_380, i_400, i_500, i_600, i_800, i_999, i_1000, i_9999, i_10000, i_10100, i_10101, i_10102, i_10103, i_10104, i_10105, i_10106, i_10107, i_10108, i_10109, i_27720, i_65535, i_1664525, i_100000000, i_252645135, i_858993459, i_1013904223, i_1431655765, e_1_0, e_1_1, e_1_2, e_1_3, e_1_4, e_1_5, e_2_0, e_2_1, e_2_2, e_2_3, e_3_7, e_3_8, e_3_9, e_3_10, e_3_11, e_3_12, e_3_13, e_11_2, e_13_0, e_13_1, e_13_2, e_13_3, e_14_2, e_14_3, e_14_4, e_14_5, e_14_6, e_14_7, e_21_2, e_23_2, e_25_2, e_27_0, e_27_1, e_27_2, e_27_3, e_27_4, e_27_5, e_27_6, e_28_2, e_30_2, e_32_2, e_34_2, e_36_2, e_40_2, e_40_3, e_41_0, e_41_1, e_41_2, e_41_3, e_41_4, e_41_5, e_91_0, e_91_4, e_91_5, e_91_6, e_91_7, e_92_0, e_92_1, e_92_2, e_92_3, e_93_2, e_93_3, e_93_4, e_93_5, e_93_6, e_93_7, e_100_2, e_102_2, e_104_2, e_110_0, e_110_1, e_110_2, e_110_3, e_112_0, e_112_1, e_112_2, e_112_3, e_113_7, e_113_8, e_113_9, e_113_10, e_113_11, e_113_12, e_113_13, e_121_2, e_124_0, e_124_1, e_124_2, e_124_3, e_124_4, e_124_5, e_124_6, e_124_7, e_124_8, e_124_9, l_4, l_5, l_6, l_7, l_8, l_9, l_10, l_12, l_15, l_16, l_17, l_18, l_19, l_20, l_22, l_24, l_26, l_29, l_31, l_33, l_35, l_37, l_38, l_39, l_41, l_42, l_94, l_95, l_96, l_97, l_98, l_99, l_101, l_103, l_105, l_106, l_107, l_108, l_109, l_111, l_114, l_115, l_116, l_117, l_118, l_119, l_120, l_123, l_125, l_126, l_127, l_128, l_129, l_130, l_131, e_132_1, e_132_2, e_132_4, e_132_6, e_132_8, e_132_9, e_132_10, e_132_11, e_132_12, e_132_18, e_132_19, e_132_20, e_132_21, e_132_22, e_132_23, e_132_24, e_132_25, e_132_29, e_132_36, e_132_38, e_132_40, e_132_41, e_132_42, e_132_44, e_132_46, e_132_47, e_132_49, e_132_50, e_132_51, e_132_52, e_132_54, e_132_55, e_132_56, e_132_58, e_132_60, e_132_61, e_132_62, e_132_66, l_133, l_134, l_135, l_136, l_137, l_138, l_139, l_140, l_141, l_142, l_143, l_144, l_145, l_146, l_147, l_148, l_149, l_150, l_151, l_152, l_153, l_154, l_155, l_156, l_157, l_158, l_159, l_160, l_161, l_162, l_163, l_164, l_165, l_166, l_167, l_168, l_169, l_170, upA, reduceIte, neF]
    · conv => lhs; simp (disch := omega) only [fX12_row, e_isInM0 _ _ _ _ _ hb, ↓mm1, ↓mm9, ↓mm100, ↓mm8, bdS, gdI, gdZ, eq_self, e_within, e_isInM, e_isBell, addK, pk_mul, nI_clamp, ofN, true_and, false_and, and_false, and_true, and_self, ltT, ltF, leT, leF, eqF, m1F, m1F2, m1L, m1L2, m1G, i_0, i_1, i_2, i_3, i_4, i_5, i_6, i_7, i_8, i_9, i_10, i_11, i_12, i_14, i_15, i_16, i_17, i_18, i_19, i_20, i_21, i_23, i_24, i_25, i_26, i_31, i_32, i_34, i_40, i_41, i_42, i_43, i_44, i_45, i_47, i_48, i_57, i_59, i_60, i_61, i_62, i_63, i_65, i_80, i_90, i_97, i_98, i_99, i_100, i_122, i_150, i_151, i_255, i_256, i_258, i_259, i_260, i_261, i_262, i_263, i_271, i_273, i_274, i_275, i_276, i_277, i_281, i_282, i_380, i_400, i_500, i_600, i_800, i_999, i_1000, i_9999, i_10000, i_10100, i_10101, i_10102, i_10103, i_10104, i_10105, i_10106, i_10107, i_10108, i_10109, i_27720, i_65535, i_1664525, i_100000000, i_252645135, i_858993459, i_1013904223, i_1431655765, e_1_0, e_1_1, e_1_2, e_1_3, e_1_4, e_1_5, e_2_0, e_2_1, e_2_2, e_2_3, e_3_7, e_3_8, e_3_9, e_3_10, e_3_11, e_3_12, e_3_13, e_11_2, e_13_0, e_13_1, e_13_2, e_13_3, e_14_2, e_14_3, e_14_4, e_14_5, e_14_6, e_14_7, e_21_2, e_23_2, e_25_2, e_27_0, e_27_1, e_27_2, e_27_3, e_27_4, e_27_5, e_27_6, e_28_2, e_30_2, e_32_2, e_34_2, e_36_2, e_40_2, e_40_3, e_41_0, e_41_1, e_41_2, e_41_3, e_41_4, e_41_5, e_91_0, e_91_4, e_91_5, e_91_6, e_91_7, e_92_0, e_92_1, e_92_2, e_92_3, e_93_2, e_93_3, e_93_4, e_93_5, e_93_6, e_93_7, e_100_2, e_102_2, e_104_2, e_110_0, e_110_1, e_110_2, e_110_3, e_112_0, e_112_1, e_112_2, e_112_3, e_113_7, e_113_8, e_113_9, e_113_10, e_113_11, e_113_12, e_113_13, e_121_2, e_124_0, e_124_1, e_124_2, e_124_3, e_124_4, e_124_5, e_124_6, e_124_7, e_124_8, e_124_9, l_4, l_5, l_6, l_7, l_8, l_9, l_10, l_12, l_15, l_16, l_17, l_18, l_19, l_20, l_22, l_24, l_26, l_29, l_31, l_33, l_35, l_37, l_38, l_39, l_41, l_42, l_94, l_95, l_96, l_97, l_98, l_99, l_101, l_103, l_105, l_106, l_107, l_108, l_109, l_111, l_114, l_115, l_116, l_117, l_118, l_119, l_120, l_123, l_125, l_126, l_127, l_128, l_129, l_130, l_131, e_132_1, e_132_2, e_132_4, e_132_6, e_132_8, e_132_9, e_132_10, e_132_11, e_132_12, e_132_18, e_132_19, e_132_20, e_132_21, e_132_22, e_132_23, e_132_24, e_132_25, e_132_29, e_132_36, e_132_38, e_132_40, e_132_41, e_132_42, e_132_44, e_132_46, e_132_47, e_132_49, e_132_50, e_132_51, e_132_52, e_132_54, e_132_55, e_132_56, e_132_58, e_132_60, e_132_61, e_132_62, e_132_66, l_133, l_134, l_135, l_136, l_137, l_138, l_139, l_140, l_141, l_142, l_143, l_144, l_145, l_146, l_147, l_148, l_149, l_150, l_151, l_152, l_153, l_154, l_155, l_156, l_157, l_158, l_159, l_160, l_161, l_162, l_163, l_164, l_165, l_166, l_167, l_168, l_169, l_170, upA, reduceIte, neF]
    · exact Inv_s (by repeat (first | exact ex_rf _ _ _ | refine ex_up ?_ rfl)) h0
  have hw1 : ∀ D : ev_D, fX11_within sh_L (sh_E kp) fu (nI n) (nI 2) (nI 8) D = some (nI 1, D) := fun D => e_within _ _ _ _ hn1 hn (by decide)
  have hw2 : ∀ D : ev_D, fX12_isIn sh_L (sh_E kp) fu 132 (nI n) (nI 2) (nI 8) D = some (nI 1, D) := fun D => e_isInM _ _ _ _ _ hn1 hn (by decide)
  /- how far the reference lets the row be -/
  have m0 : ∀ (E : ev_D), E 132 39 = nI L → ∀ b, (b = if L = 0 then 0 else 999) → fX12_row sh_L (sh_E kp) fu 132 (nI n) a2 a3 E = fX12_row_33 sh_L (sh_E kp) fu 132 (nI n) a2 a3 132 a2 (nI 0) (nI b) (ev_up E 132 0 (nI 0)) := fun E hE b hb => by
    rw [fX12_row, i_2, i_8, i_0, hw2, bdS, if_neg (by decide), upJ _ _ _ _ (by decide), hE]
    by_cases hL : L = 0
    · rw [hb, if_pos hL, hL, if_pos rfl]
    · rw [hb, if_neg hL, if_neg (show ¬ nI L = nI 0 from fun z => by have := (nI_eq (by omega) (by omega)).mp z; omega), i_999]
  by_cases hk : ∃ k, k ≤ 999 ∧ (k = 0 ∨ 0 < L) ∧ a2 = nI k
  · obtain ⟨k, hk, hkL, rfl⟩ := hk
    have hkb : k ≤ if L = 0 then 0 else 999 := by
      by_cases hL : L = 0
      · rw [if_pos hL]; omega
      · rw [if_neg hL]; exact hk
    have hbb : (if L = 0 then 0 else 999) < 2 ^ 31 := by
      by_cases hL : L = 0
      · rw [if_pos hL]; decide
      · rw [if_neg hL]; decide
    rcases in_or a3 (a := 0) (b := n - 1) (by omega) (by omega) with hb | ⟨p, -, hp, rfl⟩
    · refine pl_mk (r := mi1) (D1 := D) (D2 := ev_up D 132 0 (nI 0)) ?_ ?_ (Inv_s (by repeat (first | exact ex_rf _ _ _ | refine ex_up ?_ rfl)) h0)
      · rw [fX11_row, i_2, i_8, hw1, bdS, mm1, i_0, if_neg (by decide), i_999, e_within _ _ _ _ (Nat.zero_le _) hk (by decide), bdS, if_neg (by decide), i_1, pk_sub (by omega), e_within0 _ _ _ _ hb, bdS, if_pos rfl]
      · rw [m0 D hM.1 _ rfl, fX12_row_33, e_isInM _ _ _ _ _ (Nat.zero_le _) hkb hbb, bdS, mm1, i_0, if_neg (by decide), i_1, pk_sub (by omega), e_isInM0 _ _ _ _ _ hb, bdS, if_pos rfl]
    · obtain ⟨D1, a1, a2, a3⟩ := e_rounds (kp := kp) (n := n) (L := L) (c := c) hfu D
      obtain ⟨D2, b1, b2⟩ := e_bell36 (kp := kp) (p := p) hfu hn1 hn hB (by omega) hk hkL k 0 fu D1 (by omega) (by omega) (chC_ex a3 rfl rfl hC) a2
      have x := ex_tr a3 b2
      have g39 : D2 132 39 = nI L := by rw [ex_f x rfl]; exact hM.1
      obtain ⟨D3, d1, d2, d3⟩ := e_fr (kp := kp) (D := ev_up D2 132 0 (nI 0)) (L := L) (c := c) hfu hn1 hn hB (K := k + 1) (by omega) (by omega) (by omega) ⟨by rw [upJ _ _ _ _ (by decide)]; exact g39, fun j hj => by rw [upN _ _ _ _ (by decide), ex_at x rfl]; exact hM.2 j hj⟩
      have bA : fX3_bellAt sh_L (sh_E kp) fu 124 (nI n) (nI k) (nI p) D = some (nI (Rw n L c k p), D2) := by
        have b17 : fX3_bellAt_17 sh_L (sh_E kp) fu 124 (nI n) (nI k) (nI p) D = some (nI (Rw n L c k p), D2) := by
          rw [fX3_bellAt_17, i_7, i_0, e_within _ _ _ _ (Nat.zero_le _) (by omega) (by decide), bdS, if_neg (by decide), a1, bdS, b1]
        rw [fX3_bellAt, b17, e_124_1, e_13_3, hC.1, i_0]
        by_cases hk0 : k = 0
        · rw [if_pos (nI_le (by omega) (by decide))]
        · rw [if_neg (nI_ge (by omega) (by omega)), if_neg (show ¬ nI L = nI 0 from fun z => by have := (nI_eq (by omega) (by omega)).mp z; omega)]
      refine pl_mk (r := nI (Rw n L c k p)) (D1 := D2) (D2 := D3) ?_ ?_ (Inv_s (ex_cat (ex_cat x (ex_0 D2 (nI 0)) sSC sSF rfl rfl) d3 _ _ rfl rfl) h0)
      · rw [fX11_row, i_2, i_8, hw1, bdS, mm1, i_0, if_neg (by decide), i_999, e_within _ _ _ _ (Nat.zero_le _) hk (by decide), bdS, if_neg (by decide), i_1, pk_sub (by omega), e_within _ _ _ _ (Nat.zero_le _) hp (by omega), bdS, if_neg (by decide), e_1_5, bA, bdS]
      · rw [m0 D2 g39 _ rfl, fX12_row_33, e_isInM _ _ _ _ _ (Nat.zero_le _) hkb hbb, bdS, mm1, i_0, if_neg (by decide), i_1, pk_sub (by omega), e_isInM _ _ _ _ _ (Nat.zero_le _) hp (by omega), bdS, if_neg (by decide), addK, d1, bdS, i_8, pk_mul, addK, e_132_44, l_156, gdI (by omega) (by omega), nI_clamp (by omega), d2 k (by omega) p (by omega)]
  · have hM0 : ∀ E : ev_D, fX12_row_33 sh_L (sh_E kp) fu 132 (nI n) a2 a3 132 a2 (nI 0) (nI (if L = 0 then 0 else 999)) E = some (mi1, E) := fun E => by
      have ho : a2 < nI 0 ∨ nI (if L = 0 then 0 else 999) < a2 := by
        by_cases hL : L = 0
        · rw [if_pos hL]
          rcases in_or a2 (a := 0) (b := 0) (by omega) (by omega) with hb | ⟨k, -, hk2, e⟩
          · exact hb
          · exact absurd ⟨k, by omega, .inl (by omega), e⟩ hk
        · rw [if_neg hL]
          rcases in_or a2 (a := 0) (b := 999) (by omega) (by omega) with hb | ⟨k, -, hk2, e⟩
          · exact hb
          · exact absurd ⟨k, hk2, .inr (by omega), e⟩ hk
      rw [fX12_row_33, e_isInM0 _ _ _ _ _ ho, bdS, mm1, i_0, if_pos rfl]
    refine pl_mk (r := mi1) (D1 := D) (D2 := ev_up D 132 0 (nI 0)) ?_ (by rw [m0 D hM.1 _ rfl, hM0]) (Inv_s (by repeat (first | exact ex_rf _ _ _ | refine ex_up ?_ rfl)) h0)
    rw [fX11_row, i_2, i_8, hw1, bdS, mm1, i_0, if_neg (by decide), i_999]
    rcases in_or a2 (a := 0) (b := 999) (by omega) (by omega) with hb | ⟨k, -, hk2, rfl⟩
    · rw [e_within0 _ _ _ _ hb, bdS, if_pos rfl]
    · rw [e_within _ _ _ _ (Nat.zero_le _) hk2 (by decide), bdS, if_neg (by decide), i_1, pk_sub (by omega)]
      have k0 : ¬ k = 0 := fun z => hk ⟨k, hk2, .inl z, rfl⟩
      have L0 : L = 0 := Nat.eq_zero_of_not_pos fun z => hk ⟨k, hk2, .inr z, rfl⟩
      rcases in_or a3 (a := 0) (b := n - 1) (by omega) (by omega) with hb | ⟨p, -, hp, rfl⟩
      · rw [e_within0 _ _ _ _ hb, bdS, if_pos rfl]
      · rw [e_within _ _ _ _ (Nat.zero_le _) hp (by omega), bdS, if_neg (by decide), e_1_5, fX3_bellAt, i_0, if_neg (nI_ge (by omega) (by omega)), e_124_1, e_13_3, hC.1, L0, if_pos rfl, mm1, bdS]
