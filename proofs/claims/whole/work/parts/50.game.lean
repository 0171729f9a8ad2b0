/-! ===== game ===== -/
theorem nim_all : (List.range 100).all (fun n => decide (nim n ≤ 2) && (Nat.beq n 0 || (Nat.beq (nim n) (lb2 (nim (n - 1)) (nim (n / 2))) && (!(Nat.beq (nim n) (nim (n - 1))) && !(Nat.beq (nim n) (nim (n / 2))))))) = true := by decide +kernel
theorem nim_p {n : Nat} (h : n < 100) : nim n ≤ 2 ∧ (n = 0 ∨ (nim n = lb2 (nim (n - 1)) (nim (n / 2)) ∧ nim n ≠ nim (n - 1) ∧ nim n ≠ nim (n / 2))) := by
  have := List.all_eq_true.mp nim_all n (List.mem_range.mpr h)
  rw [Bool.and_eq_true, decide_eq_true_eq, Bool.or_eq_true, Bool.and_eq_true, Bool.and_eq_true, Bool.not_eq_true', Bool.not_eq_true'] at this
  refine ⟨this.1, ?_⟩
  rcases this.2 with h1 | ⟨h1, h2, h3⟩
  · exact .inl (Nat.eq_of_beq_eq_true h1)
  · refine .inr ⟨Nat.eq_of_beq_eq_true h1, fun e => ?_, fun e => ?_⟩
    · rw [e, Nat.beq_refl] at h2; cases h2
    · rw [e, Nat.beq_refl] at h3; cases h3
theorem nim_0 : nim 0 = 0 := by decide +kernel
theorem e_nims36 {kp fu : Nat} (K : Nat → Int32 → ev_D → ev_Op) {n a b : Nat} (hn : n < 100) (ha : a ≤ 2) (hb : b ≤ 2) (f : Nat) (D : ev_D) : fX12_findsNimbers_36 sh_L (sh_E kp) fu K (f + 3) 132 (nI n) (nI a) (nI b) (nI 0) D = K 132 (nI (n + 1)) (ev_up D 169 n (nI (lb2 a b))) := by
  have fin : ∀ v g, v ≠ a → v ≠ b → v ≤ 2 → fX12_findsNimbers_36 sh_L (sh_E kp) fu K (g + 1) 132 (nI n) (nI a) (nI b) (nI v) D = K 132 (nI (n + 1)) (ev_up D 169 n (nI v)) := by
    intro v g h1 h2 h3
    rw [fX12_findsNimbers_36, if_neg fun e => h1 ((nI_eq (by omega) (by omega)).mp e), if_neg fun e => h2 ((nI_eq (by omega) (by omega)).mp e), e_132_62, l_169, gdI hn (by omega), nI_clamp (by omega), i_1, addK]
  have go : ∀ v g, (v = a ∨ v = b) → v ≤ 2 → fX12_findsNimbers_36 sh_L (sh_E kp) fu K (g + 1) 132 (nI n) (nI a) (nI b) (nI v) D = fX12_findsNimbers_36 sh_L (sh_E kp) fu K g 132 (nI n) (nI a) (nI b) (nI (v + 1)) D := by
    intro v g h1 h3
    rw [fX12_findsNimbers_36, i_1, addK]
    by_cases h : v = a
    · rw [if_pos (congrArg nI h)]
    · rw [if_neg fun e => h ((nI_eq (by omega) (by omega)).mp e), if_pos (congrArg nI (h1.resolve_left h))]
  unfold lb2
  by_cases h0 : a ≠ 0 ∧ b ≠ 0
  · rw [if_pos h0, fin 0 (f + 2) (by omega) (by omega) (by omega)]
  · rw [if_neg h0, go 0 (f + 2) (by omega) (by omega)]
    by_cases h1 : a ≠ 1 ∧ b ≠ 1
    · rw [if_pos h1, fin 1 (f + 1) (by omega) (by omega) (by omega)]
    · rw [if_neg h1, go 1 (f + 1) (by omega) (by omega), fin 2 f (by omega) (by omega) (by omega)]
theorem e_nims9 {kp fu : Nat} (hfu : 30000 ≤ fu) (k : Nat) : ∀ (n f : Nat) (D : ev_D), n + k = 100 → 1 ≤ n → k < f → (∀ h, h < n → D 169 h = nI (nim h)) → ∃ D', fX12_findsNimbers_9 sh_L (sh_E kp) fu f 132 (nI n) D = some (nI 0, D') ∧ (∀ h, h < 100 → D' 169 h = nI (nim h)) ∧ ex [169] [] D' D := by
  induction k with
  | zero =>
    intro n f D h1 h2 h3 h4
    obtain ⟨f, rfl⟩ : ∃ g, f = g + 1 := ⟨f - 1, by omega⟩
    exact ⟨D, by rw [fX12_findsNimbers_9, i_100, if_pos (nI_le (by omega) (by omega)), i_0], fun h hh => h4 h (by omega), ex_rf _ _ _⟩
  | succ k ih =>
    intro n f D h1 h2 h3 h4
    obtain ⟨f, rfl⟩ : ∃ g, f = g + 1 := ⟨f - 1, by omega⟩
    obtain ⟨q1, q2⟩ := nim_p (show n < 100 by omega)
    obtain ⟨q3, -, -⟩ := q2.resolve_left (by omega)
    have q4 := (nim_p (show n - 1 < 100 by omega)).1
    have q5 := (nim_p (show n / 2 < 100 by omega)).1
    obtain ⟨D', r1, r2, r3⟩ := ih (n + 1) f (ev_up D 169 n (nI (nim n))) (by omega) (by omega) (by omega) (fun h hh => by
      by_cases e : h = n
      · subst e; rw [upS]
      · rw [upJ _ _ _ _ e]; exact h4 h (by omega))
    refine ⟨D', ?_, r2, ex_tr (by repeat (first | exact ex_rf _ _ _ | refine ex_up ?_ rfl)) r3⟩
    obtain ⟨g, rfl⟩ : ∃ g, fu = g + 3 := ⟨fu - 3, by omega⟩
    rw [fX12_findsNimbers_9, i_100, if_neg (nI_ge (by omega) (by omega)), e_132_62, l_169, i_1, i_2, i_0, pk_sub (by omega), pk_div (by omega) (by decide) (by decide), gdI (by omega) (by omega), gdI (by omega) (by omega), nI_clamp (by omega), nI_clamp (by omega), h4 _ (by omega), h4 _ (by omega), e_nims36 _ (by omega) q4 q5, ← q3]
    exact r1
/-- how many are loosed well from h -/
def mv (h all : Nat) : Nat := if h = 0 then 0 else if nim (h - 1) = all ^^^ nim h then 1 else if nim (h / 2) = all ^^^ nim h then h - h / 2 else 0
theorem mv_0 {h : Nat} (hh : h < 100) : mv h 0 = 0 := by
  unfold mv
  split
  · rfl
  · rename_i h0
    obtain ⟨-, q1, q2⟩ := (nim_p hh).2.resolve_left h0
    rw [Nat.zero_xor, if_neg (fun e => q1 e.symm), if_neg (fun e => q2 e.symm)]
def gmv (ti : Nat → Nat) (all w : Nat) : Nat → Nat → Int32
  | _, 0 => mi1
  | i, k + 1 => if mv (ti i) all = 0 then gmv ti all w (i + 1) k else if w = 0 then nI i else nI (mv (ti i) all)
theorem gmv_0 {ti : Nat → Nat} {R : Nat} (ht : ∀ r, r < R → ti r < 100) (w k : Nat) : ∀ i, i + k ≤ R → gmv ti 0 w i k = mi1 := by
  induction k with
  | zero => intro i _; rfl
  | succ k ih => intro i h; rw [gmv, mv_0 (ht i (by omega)), if_pos rfl]; exact ih (i + 1) (by omega)
theorem xr4 {a b : Nat} (ha : a < 4) (hb : b ≤ 2) : a ^^^ b < 4 := Nat.xor_lt_two_pow (n := 2) ha (by omega)
theorem e_nimOf {kp fu h : Nat} {D : ev_D} (hz : ∀ h, h < 100 → D 131 h = nI (nim h)) (hh : h < 100) : fX3_nimberOf sh_L (sh_E kp) fu 124 (nI h) D = some (nI (nim h), D) := by
  rw [fX3_nimberOf, i_0, i_99, e_held _ _ _ _ (by decide), bdS, hl_n (by omega) (by decide), e_124_9, l_131, gdI (by omega) (by omega), nI_clamp (by omega), hz h hh]
theorem e_loosed {kp fu h all : Nat} {D : ev_D} (hz : ∀ h, h < 100 → D 131 h = nI (nim h)) (hh : h < 100) (ha : all < 4) : fX3_loosedWell sh_L (sh_E kp) fu 124 (nI h) (nI all) D = some (nI (mv h all), D) := by
  have q1 := (nim_p hh).1
  have q2 := (nim_p (show h - 1 < 100 by omega)).1
  have q3 := (nim_p (show h / 2 < 100 by omega)).1
  have hx := xr4 ha q1
  rw [fX3_loosedWell, e_nimOf hz hh, bdS, nI_xor, i_0, i_1]
  unfold mv
  by_cases h0 : h = 0
  · subst h0
    rw [if_pos (nI_le (by decide) (by decide)), fX3_loosedWell_25, i_0, if_pos (nI_le (by decide) (by decide)), if_pos rfl]
  · rw [if_neg (nI_ge (by omega) (by omega)), pk_sub (by omega), e_nimOf hz (by omega), bdS, if_neg h0]
    by_cases h1 : nim (h - 1) = all ^^^ nim h
    · rw [if_pos (congrArg nI h1), if_pos h1]
    · rw [if_neg fun e => h1 ((nI_eq (by omega) (by omega)).mp e), if_neg h1, fX3_loosedWell_25, i_0, if_neg (nI_ge (by omega) (by omega)), i_2, pk_div (by omega) (by decide) (by decide), e_nimOf hz (by omega), bdS]
      by_cases h2 : nim (h / 2) = all ^^^ nim h
      · rw [if_pos (congrArg nI h2), if_pos h2, pk_sub (by omega)]
      · rw [if_neg fun e => h2 ((nI_eq (by omega) (by omega)).mp e), if_neg h2]
theorem mv_le {h all : Nat} : mv h all ≤ h := by
  unfold mv
  split
  · omega
  split
  · omega
  split <;> omega
theorem e_good45 {kp fu R all w : Nat} {ti : Nat → Nat} {D : ev_D} (hw : w ≤ 1) (hR : R ≤ 10) (e5 : D 3 5 = nI R) (hz : ∀ h, h < 100 → D 131 h = nI (nim h)) (ht : ∀ r, r < R → D 10 r = nI (ti r)) (ht9 : ∀ r, r < R → ti r < 100) (ha : all < 4) (ha0 : all ≠ 0) (k : Nat) : ∀ i f, i + k = R → k < f → fX3_goodMove_45 sh_L (sh_E kp) fu f 124 (nI w) (nI all) (nI i) D = some (gmv ti all w i k, D) := by
  induction k with
  | zero =>
    intro i f h1 h2
    obtain ⟨f, rfl⟩ : ∃ g, f = g + 1 := ⟨f - 1, by omega⟩
    rw [fX3_goodMove_45, e_124_0, e5, if_pos (nI_le (by omega) (by omega))]; rfl
  | succ k ih =>
    intro i f h1 h2
    obtain ⟨f, rfl⟩ : ∃ g, f = g + 1 := ⟨f - 1, by omega⟩
    have hm := mv_le (h := ti i) (all := all)
    have h9 := ht9 i (by omega)
    rw [fX3_goodMove_45, e_124_0, e5, if_neg (nI_ge (by omega) (by omega)), i_10, if_neg (nI_ge (by omega) (by omega)), i_0, if_neg (fun e => ha0 ((nI_eq (by omega) (by decide)).mp e)), e_3_13, l_10, gdI (by omega) (by omega), nI_clamp (by omega), ht i (by omega), e_loosed hz h9 ha, bdS, gmv, i_1, addK, ih (i + 1) f (by omega) (by omega)]
    by_cases h3 : mv (ti i) all = 0
    · rw [if_pos (congrArg nI h3), if_pos h3]
    · rw [if_neg fun e => h3 ((nI_eq (by omega) (by omega)).mp e), if_neg h3]
      have hc : w = 0 ∨ w = 1 := by omega
      rcases hc with rfl | rfl <;> rfl
theorem e_good4 {kp fu R w : Nat} (hfu : 30000 ≤ fu) {ti : Nat → Nat} {D : ev_D} (hw : w ≤ 1) (hR : R ≤ 10) (e5 : D 3 5 = nI R) (hz : ∀ h, h < 100 → D 131 h = nI (nim h)) (ht : ∀ r, r < R → D 10 r = nI (ti r)) (ht9 : ∀ r, r < R → ti r < 100) (k : Nat) : ∀ i f all, i + k = R → k < f → all < 4 → fX3_goodMove_4 sh_L (sh_E kp) fu f 124 (nI w) (nI all) (nI i) D = some (gmv ti (up (fun r a => a ^^^ nim (ti r)) i k all) w 0 R, D) := by
  induction k with
  | zero =>
    intro i f all h1 h2 ha
    obtain ⟨f, rfl⟩ : ∃ g, f = g + 1 := ⟨f - 1, by omega⟩
    rw [fX3_goodMove_4, up_0, e_124_0, e5, if_pos (nI_le (by omega) (by omega)), i_0]
    by_cases h0 : all = 0
    · subst h0
      rw [gmv_0 ht9 w R 0 (by omega)]
      obtain ⟨g, rfl⟩ : ∃ g, fu = g + 1 := ⟨fu - 1, by omega⟩
      rw [fX3_goodMove_45, e_124_0, e5, i_0]
      by_cases hR0 : R = 0
      · rw [if_pos (nI_le (by omega) (by omega))]; rfl
      · rw [if_neg (nI_ge (by omega) (by omega)), i_10, if_neg (nI_ge (by omega) (by omega)), if_pos rfl]; rfl
    · exact e_good45 hw hR e5 hz ht ht9 ha h0 R 0 fu (by omega) (by omega)
  | succ k ih =>
    intro i f all h1 h2 ha
    obtain ⟨f, rfl⟩ : ∃ g, f = g + 1 := ⟨f - 1, by omega⟩
    have h9 := ht9 i (by omega)
    rw [fX3_goodMove_4, e_124_0, e5, if_neg (nI_ge (by omega) (by omega)), i_10, if_neg (nI_ge (by omega) (by omega)), e_3_13, l_10, gdI (by omega) (by omega), nI_clamp (by omega), ht i (by omega), e_nimOf hz h9, bdS, nI_xor, i_1, addK, up_s]
    exact ih (i + 1) f _ (by omega) (by omega) (xr4 ha (nim_p h9).1)
theorem e_game58 {kp fu R all w : Nat} {ti : Nat → Nat} {D : ev_D} (hw : w ≤ 1) (hR : R ≤ 10) (e7 : D 132 7 = nI R) (hz : ∀ h, h < 100 → D 169 h = nI (nim h)) (ht : ∀ r, r < R → D 133 (24 + r) = nI (ti r)) (ht9 : ∀ r, r < R → ti r < 100) (ha : all < 4) (k : Nat) : ∀ i f, i + k = R → k < f → fX12_game_58 sh_L (sh_E kp) fu f 132 (nI w) (nI all) (nI i) D = some (gmv ti all w i k, D) := by
  induction k with
  | zero =>
    intro i f h1 h2
    obtain ⟨f, rfl⟩ : ∃ g, f = g + 1 := ⟨f - 1, by omega⟩
    rw [fX12_game_58, e7, if_pos (nI_le (by omega) (by omega))]; rfl
  | succ k ih =>
    intro i f h1 h2
    obtain ⟨f, rfl⟩ : ∃ g, f = g + 1 := ⟨f - 1, by omega⟩
    have h9 := ht9 i (by omega)
    have q1 := (nim_p h9).1
    have q2 := (nim_p (show ti i - 1 < 100 by omega)).1
    have q3 := (nim_p (show ti i / 2 < 100 by omega)).1
    have hx := xr4 ha q1
    rw [fX12_game_58, e7, if_neg (nI_ge (by omega) (by omega)), i_24, addK, e_132_1, l_133, e_132_62, l_169, gdI (by omega) (by omega), nI_clamp (by omega), ht i (by omega), gdI h9 (by omega), nI_clamp (by omega), hz _ h9, nI_xor, i_0, i_1, gmv]
    unfold mv
    by_cases h0 : ti i = 0
    · rw [if_pos (nI_le (by omega) (by omega)), fX12_game_117, i_0, if_pos (nI_le (by omega) (by omega)), i_1, addK, if_pos h0, if_pos rfl]
      exact ih (i + 1) f (by omega) (by omega)
    · rw [if_neg (nI_ge (by omega) (by omega)), pk_sub (by omega), gdI (by omega) (by omega), nI_clamp (by omega), hz _ (by omega), if_neg h0]
      by_cases h1 : nim (ti i - 1) = all ^^^ nim (ti i)
      · rw [if_pos (congrArg nI h1), if_pos h1]
        have hc : w = 0 ∨ w = 1 := by omega
        rcases hc with rfl | rfl <;> rfl
      · rw [if_neg fun e => h1 ((nI_eq (by omega) (by omega)).mp e), if_neg h1, fX12_game_117, i_0, if_neg (nI_ge (by omega) (by omega)), i_2, pk_div (by omega) (by decide) (by decide), e_132_62, l_169, gdI (by omega) (by omega), nI_clamp (by omega), hz _ (by omega), i_1, addK]
        by_cases h2 : nim (ti i / 2) = all ^^^ nim (ti i)
        · rw [if_pos (congrArg nI h2), if_pos h2, if_neg (show ¬ ti i - ti i / 2 = 0 by omega), pk_sub (by omega)]
          have hc : w = 0 ∨ w = 1 := by omega
          rcases hc with rfl | rfl <;> rfl
        · rw [if_neg fun e => h2 ((nI_eq (by omega) (by omega)).mp e), if_neg h2, if_pos rfl]
          exact ih (i + 1) f (by omega) (by omega)
theorem e_game25 {kp fu R w : Nat} (hfu : 30000 ≤ fu) {ti : Nat → Nat} {D : ev_D} (hw : w ≤ 1) (hR : R ≤ 10) (e7 : D 132 7 = nI R) (hz : ∀ h, h < 100 → D 169 h = nI (nim h)) (ht : ∀ r, r < R → D 133 (24 + r) = nI (ti r)) (ht9 : ∀ r, r < R → ti r < 100) (k : Nat) : ∀ i f all, i + k = R → k < f → all < 4 → fX12_game_25 sh_L (sh_E kp) fu f 132 (nI w) (nI all) (nI i) D = some (gmv ti (up (fun r a => a ^^^ nim (ti r)) i k all) w 0 R, D) := by
  induction k with
  | zero =>
    intro i f all h1 h2 ha
    obtain ⟨f, rfl⟩ : ∃ g, f = g + 1 := ⟨f - 1, by omega⟩
    rw [fX12_game_25, up_0, e7, if_pos (nI_le (by omega) (by omega)), i_0]
    exact e_game58 hw hR e7 hz ht ht9 ha R 0 fu (by omega) (by omega)
  | succ k ih =>
    intro i f all h1 h2 ha
    obtain ⟨f, rfl⟩ : ∃ g, f = g + 1 := ⟨f - 1, by omega⟩
    have h9 := ht9 i (by omega)
    rw [fX12_game_25, e7, if_neg (nI_ge (by omega) (by omega)), i_24, addK, e_132_1, l_133, e_132_62, l_169, gdI (by omega) (by omega), nI_clamp (by omega), ht i (by omega), gdI h9 (by omega), nI_clamp (by omega), hz _ h9, nI_xor, i_1, addK, up_s]
    exact ih (i + 1) f _ (by omega) (by omega) (xr4 ha (nim_p h9).1)
theorem p_game {kp fu : Nat} (hfu : 30000 ≤ fu) (a1 : Int32) (D : ev_D) (h : Inv kp D) : pl kp (fX11_game sh_L (sh_E kp) fu 1 a1) (fX12_game sh_L (sh_E kp) fu 132 a1) D := by
  have h0 := h
  obtain ⟨g0, gM, ⟨gT, gF, gB, gR, gD, gC, gS, gO, gE, gG, gU, gH, gN, gL⟩, gP, gQ, gZ, gK⟩ := h
  rcases in_or a1 (a := 0) (b := 1) (by omega) (by omega) with hb | ⟨w, -, hw, rfl⟩
  · apply pl_mk
    · conv => lhs; simp (disch := omega) only [fX11_game, e_within0 _ _ _ _ hb, ↓mm1, ↓mm9, ↓mm100, ↓mm8, bdS, gdI, gdZ, eq_self, e_within, e_isInM, e_isBell, addK, pk_mul, nI_clamp, ofN, true_and, false_and, and_false, and_true, and_self, ltT, ltF, leT, leF, eqF, m1F, m1F2, m1L, m1L2, m1G, i_0, i_1, i_2, i_3, i_4, i_5, i_6, i_7, i_8, i_9, i_10, i_11, i_12, i_14, i_15, i_16, i_17, i_18, i_19, i_20, i_21, i_23, i_24, i_25, i_26, i_31, i_32, i_34, i_40, i_41, i_42, i_43, i_44, i_45, i_47, i_48, i_57, i_59, i_60, i_61, i_62, i_63, i_65, i_80, i_90, i_97, i_98, i_99, i_100, i_122, i_150, i_151, i_255, i_256, i_258, i_259, i_260, i_261, i_262, i_263, i_271, i_273, i_274, i_275, i_276, i_277, i_281, i_282, i_380, i_400, i_500, i_600, i_800, i_999, i_1000, i_9999, i_10000, i_10100, i_10101, i_10102, i_10103, i_10104, i_10105, i_10106, i_10107, i_10108, i_10109, i_27720, i_65535, i_1664525, i_100000000, i_252645135, i_858993459, i_1013904223, i_1431655765, e_1_0, e_1_1, e_1_2, e_1_3, e_1_4, e_1_5, e_2_0, e_2_1, e_2_2, e_2_3, e_3_7, e_3_8, e_3_9, e_3_10, e_3_11, e_3_12, e_3_13, e_11_2, e_13_0, e_13_1, e_13_2, e_13_3, e_14_2, e_14_3, e_14_4, e_14_5, e_14_6, e_14_7, e_21_2, e_23_2, e_25_2, e_27_0, e_27_1, e_27_2, e_27_3, e_27_4, e_27_5, e_27_6, e_28_2, e_30_2, e_32_2, e_34_2, e_36_2, e_40_2, e_40_3, e_41_0, e_41_1, e_41_2, e_41_3, e_41_4, e_41_5, e_91_0, e_91_4, e_91_5, e_91_6, e_91_7, e_92_0, e_92_1, e_92_2, e_92_3, e_93_2, e_93_3, e_93_4, e_93_5, e_93_6, e_93_7, e_100_2, e_102_2, e_104_2, e_110_0, e_110_1, e_110_2, e_110_3, e_112_0, e_112_1, e_112_2, e_112_3, e_113_7, e_113_8, e_113_9, e_113_10, e_113_11, e_113_12, e_113_13, e_121_2, e_124_0, e_124_1, e_124_2, e_124_3, e_124_4, e_124_5, e_124_6, e_124_7, e_124_8, e_124_9, l_4, l_5, l_6, l_7, l_8, l_9, l_10, l_12, l_15, l_16, l_17, l_18, l_19, l_20, l_22, l_24, l_26, l_29, l_31, l_33, l_35, l_37, l_38, l_39, l_41, l_42, l_94, l_95, l_96, l_97, l_98, l_99, l_101, l_103, l_105, l_106, l_107, l_108, l_109, l_111, l_114, l_115, l_116, l_117, l_118, l_119, l_120, l_123, l_125, l_126, l_127, l_128, l_129, l_130, l_131, e_132_1, e_132_2, e_132_4, e_132_6, e_132_8, e_132_9, e_132_10, e_132_11, e_132_12, e_132_18, e_132_19, e_132_20, e_132_21, e_132_22, e_132_23, e_132_24, e_132_25, e_132_29, e_132_36, e_132_38, e_132_40, e_132_41, e_132_42, e_132_44, e_132_46, e_132_47, e_132_49, e_132_50, e_132_51, e_132_52, e_132_54, e_132_55, e_132_56, e_132_58, e_132_60, e_132_61, e_132_62, e_132_66, l_133, l_134, l_135, l_136, l_137, l_138, l_139, l_140, l_141, l_142, l_143, l_144, l_145, l_146, l_147, l_148, l_149, l_150, l_151, l_152, l_153, l_154, l_155, l_156, l_157, l_158, l_159, l_160, l_161, l_162, l_163, l_164, l_165, l_166, l_167, l_168, l_169, l_170, upA, reduceIte, neF]
    · conv => lhs; simp (disch := omega) only [fX12_game, e_isInM0 _ _ _ _ _ hb, ↓mm1, ↓mm9, ↓mm100, ↓mm8, bdS, gdI, gdZ, eq_self, e_within, e_isInM, e_isBell, addK, pk_mul, nI_clamp, ofN, true_and, false_and, and_false, and_true, and_self, ltT, ltF, leT, leF, eqF, m1F, m1F2, m1L, m1L2, m1G, i_0, i_1, i_2, i_3, i_4, i_5, i_6, i_7, i_8, i_9, i_10, i_11, i_12, i_14, i_15, i_16, i_17, i_18, i_19, i_20, i_21, i_23, i_24, i_25, i_26, i_31, i_32, i_34, i_40, i_41, i_42, i_43, i_44, i_45, i_47, i_48, i_57, i_59, i_60, i_61, i_62, i_63, i_65, i_80, i_90, i_97, i_98, i_99, i_100, i_122, i_150, i_151, i_255, i_256, i_258, i_259, i_260, i_261, i_262, i_263, i_271, i_273, i_274, i_275, i_276, i_277, i_281, i_282, i_380, i_400, i_500, i_600, i_800, i_999, i_1000, i_9999, i_10000, i_10100, i_10101, i_10102, i_10103, i_10104, i_10105, i_10106, i_10107, i_10108, i_10109, i_27720, i_65535, i_1664525, i_100000000, i_252645135, i_858993459, i_1013904223, i_1431655765, e_1_0, e_1_1, e_1_2, e_1_3, e_1_4, e_1_5, e_2_0, e_2_1, e_2_2, e_2_3, e_3_7, e_3_8, e_3_9, e_3_10, e_3_11, e_3_12, e_3_13, e_11_2, e_13_0, e_13_1, e_13_2, e_13_3, e_14_2, e_14_3, e_14_4, e_14_5, e_14_6, e_14_7, e_21_2, e_23_2, e_25_2, e_27_0, e_27_1, e_27_2, e_27_3, e_27_4, e_27_5, e_27_6, e_28_2, e_30_2, e_32_2, e_34_2, e_36_2, e_40_2, e_40_3, e_41_0, e_41_1, e_41_2, e_41_3, e_41_4, e_41_5, e_91_0, e_91_4, e_91_5, e_91_6, e_91_7, e_92_0, e_92_1, e_92_2, e_92_3, e_93_2, e_93_3, e_93_4, e_93_5, e_93_6, e_93_7, e_100_2, e_102_2, e_104_2, e_110_0, e_110_1, e_110_2, e_110_3, e_112_0, e_112_1, e_112_2, e_112_3, e_113_7, e_113_8, e_113_9, e_113_10, e_113_11, e_113_12, e_113_13, e_121_2, e_124_0, e_124_1, e_124_2, e_124_3, e_124_4, e_124_5, e_124_6, e_124_7, e_124_8, e_124_9, l_4, l_5, l_6, l_7, l_8, l_9, l_10, l_12, l_15, l_16, l_17, l_18, l_19, l_20, l_22, l_24, l_26, l_29, l_31, l_33, l_35, l_37, l_38, l_39, l_41, l_42, l_94, l_95, l_96, l_97, l_98, l_99, l_101, l_103, l_105, l_106, l_107, l_108, l_109, l_111, l_114, l_115, l_116, l_117, l_118, l_119, l_120, l_123, l_125, l_126, l_127, l_128, l_129, l_130, l_131, e_132_1, e_132_2, e_132_4, e_132_6, e_132_8, e_132_9, e_132_10, e_132_11, e_132_12, e_132_18, e_132_19, e_132_20, e_132_21, e_132_22, e_132_23, e_132_24, e_132_25, e_132_29, e_132_36, e_132_38, e_132_40, e_132_41, e_132_42, e_132_44, e_132_46, e_132_47, e_132_49, e_132_50, e_132_51, e_132_52, e_132_54, e_132_55, e_132_56, e_132_58, e_132_60, e_132_61, e_132_62, e_132_66, l_133, l_134, l_135, l_136, l_137, l_138, l_139, l_140, l_141, l_142, l_143, l_144, l_145, l_146, l_147, l_148, l_149, l_150, l_151, l_152, l_153, l_154, l_155, l_156, l_157, l_158, l_159, l_160, l_161, l_162, l_163, l_164, l_165, l_166, l_167, l_168, l_169, l_170, upA, reduceIte, neF]
    · exact Inv_s (by repeat (first | exact ex_rf _ _ _ | refine ex_up ?_ rfl)) h0
  obtain ⟨R, hR, eR⟩ := gT.1.1
  have q11 := gF.1
  rw [eR] at q11
  have b12 := gT.1.2.2.2.2.2.2.2.2.2.2.2
  have q9 := gT.2.2.2.2.2.2.2.2.2.2.2.1
  have ht : ∀ r, r < R → D 10 r = nI (nv (D 10 r)) := fun r hr => (bI_nv (by decide) (b12 r (by omega))).1
  have ht9 : ∀ r, r < R → nv (D 10 r) < 100 := fun r hr => by have := (bI_nv (by decide) (b12 r (by omega))).2; exact Nat.lt_succ_of_le this
  have htm : ∀ r, r < R → D 133 (24 + r) = nI (nv (D 10 r)) := fun r hr => (q9 r (by omega)).trans (ht r hr)
  obtain ⟨D1, n1, n2, n3⟩ := e_nims9 (kp := kp) hfu 99 1 fu (ev_up (ev_up D 132 0 (nI 0)) 169 0 (nI 0)) rfl (by omega) (by omega) (fun h hh => by
    have : h = 0 := by omega
    subst this
    rw [upS, nim_0])
  have ee : ex [169] [0] D1 D := ex_tr (by repeat (first | exact ex_rf _ _ _ | refine ex_up ?_ rfl)) (ex_sf n3)
  refine pl_mk (r := gmv (fun r => nv (D 10 r)) (up (fun r a => a ^^^ nim (nv (D 10 r))) 0 R 0) w 0 R) (D1 := D) (D2 := D1) ?_ ?_ (Inv_s (ex_mo ee rfl rfl) h0)
  · have e1 := e_good4 (kp := kp) (fu := fu) (w := w) (ti := fun r => nv (D 10 r)) hfu hw hR eR gZ.1 ht ht9 R 0 fu 0 (by omega) (by omega) (by decide)
    rw [fX11_game, i_0, i_1, e_within _ _ _ _ (Nat.zero_le _) hw (by decide), bdS, if_neg (by decide), e_1_5, fX3_goodMove, i_0, e1, bdS]
  · have e1 := e_game25 (kp := kp) (fu := fu) (w := w) (ti := fun r => nv (D 10 r)) (D := D1) hfu hw hR (by rw [ex_f ee rfl]; exact q11) n2 (fun r hr => by rw [ex_at ee rfl]; exact htm r hr) ht9 R 0 fu 0 (by omega) (by omega) (by decide)
    rw [fX12_game, i_0, i_1, e_isInM _ _ _ _ _ (Nat.zero_le _) hw (by decide), bdS, if_neg (by decide), fX12_findsNimbers, e_132_62, l_169, i_0, gdI (by decide) (by decide), nI_clamp (by decide), i_1, n1, bdS, e1]
