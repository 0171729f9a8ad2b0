section
variable {kp fu : Nat} {T : Nat → Nat} {D : ev_D}
/-- what news comes to: rounds, or how many -/
def nwR (w s r : Nat) : Int32 := if w = 0 then nI r else nI (ones s)
theorem wo_0 (a : Nat) : wo a 0 = a := by rw [wo, Nat.and_zero, Nat.xor_zero]
theorem e_newsC (hfu : 30000 ≤ fu) (hT : TB T) (hD : ∀ p, p < 10 → D 128 p = nI (T p)) {w : Nat} (hw : w ≤ 1) (k : Nat) : ∀ i f s r, i + k = 10 → k < f → s < 1024 → kn T s = s → fX3_news_22 sh_L (sh_E kp) fu f 124 (nI w) (nI s) (nI r) (nI i) D = some (nwR w s r, D) := by
  induction k with
  | zero =>
    intro i f s r h1 h2 hs hf
    obtain ⟨f, rfl⟩ : ∃ g, f = g + 1 := ⟨f - 1, by omega⟩
    rw [fX3_news_22, i_10, if_pos (nI_le (by omega) (by omega)), e_bitCount _ _ _ (by omega), bdS]
    have hc : w = 0 ∨ w = 1 := by omega
    rcases hc with rfl | rfl <;> rfl
  | succ k ih =>
    intro i f s r h1 h2 hs hf
    obtain ⟨f, rfl⟩ : ∃ g, f = g + 1 := ⟨f - 1, by omega⟩
    rw [fX3_news_22, i_10, if_neg (nI_ge (by omega) (by omega)), e_know hfu hD hs, bdS, hf, if_pos rfl, i_1, addK]
    exact ih (i + 1) f s r (by omega) (by omega) hs hf
theorem e_news {D2 : ev_D} (hfu : 30000 ≤ fu) (hT : TB T) (hD : ∀ p, p < 10 → D 128 p = nI (T p)) (hD2 : ∀ p, p < 10 → D2 167 p = nI (T p)) {w : Nat} (hw : w ≤ 1) (k : Nat) : ∀ i f g s r, i + k = 10 → k < f → k < g → s < 1024 → 10 - ones s ≤ k → ∃ x, fX3_news_22 sh_L (sh_E kp) fu f 124 (nI w) (nI s) (nI r) (nI i) D = some (x, D) ∧ fX12_heard_76 sh_L (sh_E kp) fu g 132 (nI w) (nI s) (nI r) D2 = some (x, D2) := by
  induction k with
  | zero =>
    intro i f g s r h1 h2 h3 hs ho
    have hfix : kn T s = s := by
      have := itr_end hT (w := 0) 0 s hs (fun j _ => Nat.zero_testBit j) ho
      rw [wo_0] at this
      exact this
    obtain ⟨g, rfl⟩ : ∃ f, g = f + 1 := ⟨g - 1, by omega⟩
    refine ⟨_, e_newsC hfu hT hD hw 0 i f s r h1 h2 hs hfix, ?_⟩
    rw [fX12_heard_76, e_told hfu hD2 hs, bdS, hfix, if_pos rfl, e_onesOf _ _ (by omega) _ (by omega), bdS]
    have hc : w = 0 ∨ w = 1 := by omega
    rcases hc with rfl | rfl <;> rfl
  | succ k ih =>
    intro i f g s r h1 h2 h3 hs ho
    obtain ⟨g, rfl⟩ : ∃ f, g = f + 1 := ⟨g - 1, by omega⟩
    by_cases hfix : kn T s = s
    · refine ⟨_, e_newsC hfu hT hD hw (k + 1) i f s r h1 h2 hs hfix, ?_⟩
      rw [fX12_heard_76, e_told hfu hD2 hs, bdS, hfix, if_pos rfl, e_onesOf _ _ (by omega) _ (by omega), bdS]
      have hc : w = 0 ∨ w = 1 := by omega
      rcases hc with rfl | rfl <;> rfl
    · obtain ⟨f, rfl⟩ : ∃ g, f = g + 1 := ⟨f - 1, by omega⟩
      have hl := kn_lt hT hs
      have ho2 := ones_lt_of hs hl (fun j hj => (kn_bit T s j).mpr (.inl hj)) (Ne.symm hfix)
      obtain ⟨x, x1, x2⟩ := ih (i + 1) f g (kn T s) (r + 1) (by omega) (by omega) (by omega) hl (by omega)
      refine ⟨x, ?_, ?_⟩
      · rw [fX3_news_22, i_10, if_neg (nI_ge (by omega) (by omega)), e_know hfu hD hs, bdS, if_neg (fun e => hfix ((nI_eq (by omega) (by omega)).mp e)), i_1, addK, addK]
        exact x1
      · rw [fX12_heard_76, e_told hfu hD2 hs, bdS, if_neg (fun e => hfix ((nI_eq (by omega) (by omega)).mp e)), e_told hfu hD2 hs, bdS, i_1, addK]
        exact x2
theorem e_reach7 (hfu : 30000 ≤ fu) (hT : TB T) (hD : ∀ p, p < 10 → D 167 p = nI (T p)) {w : Nat} {wi : Int32} (hwi : ∀ s, nI s &&& (wi ^^^ mi1) = nI (wo s w)) (d : Nat) : ∀ f s was, s < 1024 → was < 1024 → dis s w → was ≠ s → 10 - ones s ≤ d → d + 2 ≤ f → fX12_reachedFrom_7 sh_L (sh_E kp) fu f 132 wi (nI s) (nI was) D = some (nI (itr T w d s), D) := by
  induction d with
  | zero =>
    intro f s was hs hw hd hne ho hf
    obtain ⟨f, rfl⟩ : ∃ g, f = g + 2 := ⟨f - 2, by omega⟩
    have hfix := itr_end hT (w := w) 0 s hs hd ho
    have hfix2 : wo (kn T s) w = s := hfix
    rw [fX12_reachedFrom_7, if_neg (fun e => hne ((nI_eq (by omega) (by omega)).mp e)), e_told hfu hD hs, bdS, mm1, hwi, hfix2, fX12_reachedFrom_7, if_pos rfl]; rfl
  | succ d ih =>
    intro f s was hs hw hd hne ho hf
    by_cases hfix : wo (kn T s) w = s
    · obtain ⟨f, rfl⟩ : ∃ g, f = g + 2 := ⟨f - 2, by omega⟩
      rw [fX12_reachedFrom_7, if_neg (fun e => hne ((nI_eq (by omega) (by omega)).mp e)), e_told hfu hD hs, bdS, mm1, hwi, hfix, fX12_reachedFrom_7, if_pos rfl, itr_fix hfix]
    · obtain ⟨f, rfl⟩ : ∃ g, f = g + 1 := ⟨f - 1, by omega⟩
      have hl := g_lt hT (w := w) hs
      have ho2 := ones_lt_of hs hl (g_sub hd) (Ne.symm hfix)
      rw [fX12_reachedFrom_7, if_neg (fun e => hne ((nI_eq (by omega) (by omega)).mp e)), e_told hfu hD hs, bdS, mm1, hwi, itr]
      exact ih f _ s hl hs g_dis (fun e => hfix e.symm) (by omega) (by omega)
theorem pw_pos (k : Nat) : 0 < 2 ^ k := Nat.two_pow_pos k
theorem e_reach (hfu : 30000 ≤ fu) (hT : TB T) (hD : ∀ p, p < 10 → D 167 p = nI (T p)) {w k : Nat} {wi : Int32} (hwi : ∀ s, nI s &&& (wi ^^^ mi1) = nI (wo s w)) (hk : k < 10) (hwk : w.testBit k = false) : fX12_reachedFrom sh_L (sh_E kp) fu 132 (nI k) wi D = some (nI (itr T w 10 (2 ^ k)), D) := by
  have := pw_pos k
  rw [fX12_reachedFrom, i_0, i_1, i_31, nI_shl (by omega)]
  exact e_reach7 hfu hT hD hwi 10 fu (2 ^ k) 0 (pw_10 hk) (by decide) (pw_dis hwk) (by omega) (by omega) (by omega)
theorem wi_0 (s : Nat) : nI s &&& (nI 0 ^^^ mi1) = nI (wo s 0) := by
  rw [← nI_wo]
  congr 1
theorem wi_p {p : Nat} (hp : p < 32) (s : Nat) : nI s &&& (nI (2 ^ p) ^^^ mi1) = nI (wo s (2 ^ p)) := by
  have := x_not p hp
  rw [nI_shl hp] at this
  rw [this, nI_wo]
theorem e_without (hfu : 30000 ≤ fu) (hT : TB T) (hD : ∀ p, p < 10 → D 128 p = nI (T p)) {p : Nat} (hp : p < 10) (k : Nat) : ∀ i f s, i + k = 10 → k < f → s < 1024 → fX3_knownWithout_12 sh_L (sh_E kp) fu f 124 (nI p) (nI s) (nI i) D = some (nI (itr T (2 ^ p) k s), D) := by
  induction k with
  | zero =>
    intro i f s h1 h2 hs
    obtain ⟨f, rfl⟩ : ∃ g, f = g + 1 := ⟨f - 1, by omega⟩
    rw [fX3_knownWithout_12, i_10, if_pos (nI_le (by omega) (by omega))]; rfl
  | succ k ih =>
    intro i f s h1 h2 hs
    obtain ⟨f, rfl⟩ : ∃ g, f = g + 1 := ⟨f - 1, by omega⟩
    rw [fX3_knownWithout_12, i_10, if_neg (nI_ge (by omega) (by omega)), e_know hfu hD hs, bdS, mm1, i_1, i_31, nI_shl (by omega), wi_p (by omega), addK, itr]
    exact ih (i + 1) f _ (by omega) (by omega) (g_lt hT hs)
theorem low_all : (List.range 1024).all (fun N => Nat.beq N 0 || (List.range 10).any (fun u => N.testBit u && decide (nI N &&& -(nI N) = nI (2 ^ u)))) = true := by decide +kernel
theorem low_p {N : Nat} (h0 : N ≠ 0) (h : N < 1024) : ∃ u, u < 10 ∧ N.testBit u = true ∧ nI N &&& -(nI N) = nI (2 ^ u) := by
  have h1 := List.all_eq_true.mp low_all N (List.mem_range.mpr h)
  rw [nbF h0, Bool.false_or] at h1
  obtain ⟨u, hu, h2⟩ := List.any_eq_true.mp h1
  rw [Bool.and_eq_true, decide_eq_true_eq] at h2
  exact ⟨u, List.mem_range.mp hu, h2.1, h2.2⟩
theorem e_first26 (hfu : 30000 ≤ fu) (hT : TB T) (hD : ∀ p, p < 10 → D 167 p = nI (T p)) {p O : Nat} (hp : p < 10) (hO : O < 1024) (hOp : O.testBit p = false) (k : Nat) : ∀ i f, i + k = 10 → k < f → (∃ v, i ≤ v ∧ v < 10 ∧ O.testBit v = true) → ∃ v, v < 10 ∧ O.testBit v = true ∧ fX12_doesSplit_26 sh_L (sh_E kp) fu f 132 (nI p) (nI O) (nI i) D = some (nI (if itr T (2 ^ p) 10 (2 ^ v) = O then 0 else 1), D) := by
  induction k with
  | zero => intro i f h1 h2 ⟨v, h3, h4, _⟩; omega
  | succ k ih =>
    intro i f h1 h2 ⟨v, h3, h4, h5⟩
    obtain ⟨f, rfl⟩ : ∃ g, f = g + 1 := ⟨f - 1, by omega⟩
    cases hb : O.testBit i with
    | true =>
      refine ⟨i, by omega, hb, ?_⟩
      have wv : (2 ^ p).testBit i = false := by
        rw [pw_bit]
        exact decide_eq_false fun e => by rw [e, hOp] at hb; cases hb
      have hl := itr_lt hT (w := 2 ^ p) 10 (2 ^ i) (pw_10 (show i < 10 by omega))
      rw [fX12_doesSplit_26, e_hasM _ _ _ _ _ (by omega) (by omega), hb, bdS, i_0, if_neg (by decide), i_1, i_31, nI_shl (by omega), e_reach hfu hT hD (wi_p (show p < 32 by omega)) (by omega) wv, bdS]
      by_cases he : itr T (2 ^ p) 10 (2 ^ i) = O
      · rw [if_pos (congrArg nI he), if_pos he]
      · rw [if_neg (fun e => he ((nI_eq (by omega) (by omega)).mp e)), if_neg he]
    | false =>
      obtain ⟨v2, q1, q2, q3⟩ := ih (i + 1) f (by omega) (by omega) ⟨v, by
        have : v ≠ i := fun e => by rw [e, hb] at h5; cases h5
        omega, h4, h5⟩
      refine ⟨v2, q1, q2, ?_⟩
      rw [fX12_doesSplit_26, e_hasM _ _ _ _ _ (by omega) (by omega), hb, bdS, i_0, if_pos bF, i_1, addK]
      exact q3
theorem e_splits {D2 : ev_D} (hfu : 30000 ≤ fu) (hT : TB T) (hsym : ∀ a b, a < 10 → b < 10 → (T a).testBit b = (T b).testBit a) (hirr : ∀ a, a < 10 → (T a).testBit a = false) (hD : ∀ p, p < 10 → D 128 p = nI (T p)) (hD2 : ∀ p, p < 10 → D2 167 p = nI (T p)) (k : Nat) : ∀ i f g s, i + k = 10 → k < f → k < g → ∃ x, fX3_splits_16 sh_L (sh_E kp) fu f 124 (nI s) (nI i) D = some (x, D) ∧ fX12_heard_15 sh_L (sh_E kp) fu g 132 (nI s) (nI i) D2 = some (x, D2) := by
  induction k with
  | zero =>
    intro i f g s h1 h2 h3
    obtain ⟨f, rfl⟩ : ∃ g, f = g + 1 := ⟨f - 1, by omega⟩
    obtain ⟨g, rfl⟩ : ∃ f, g = f + 1 := ⟨g - 1, by omega⟩
    refine ⟨nI s, ?_, ?_⟩
    · rw [fX3_splits_16, i_10, if_pos (nI_le (by omega) (by omega))]
    · rw [fX12_heard_15, i_10, if_pos (nI_le (by omega) (by omega))]
  | succ k ih =>
    intro i f g s h1 h2 h3
    obtain ⟨f, rfl⟩ : ∃ g, f = g + 1 := ⟨f - 1, by omega⟩
    obtain ⟨g, rfl⟩ : ∃ f, g = f + 1 := ⟨g - 1, by omega⟩
    have hi : i < 10 := by omega
    have hTi := hT i hi
    by_cases h0 : T i = 0
    · obtain ⟨x, x1, x2⟩ := ih (i + 1) f g s (by omega) (by omega) (by omega)
      refine ⟨x, ?_, ?_⟩
      · rw [fX3_splits_16, i_10, if_neg (nI_ge (by omega) (by omega)), e_124_6, l_128, gdI (by omega) (by omega), nI_clamp (by omega), hD i hi, h0, i_0, if_pos rfl, i_1, addK]
        exact x1
      · rw [fX12_heard_15, i_10, if_neg (nI_ge (by omega) (by omega)), fX12_doesSplit, e_132_60, l_167, gdI hi (by omega), nI_clamp (by omega), hD2 i hi, h0, i_0, if_pos rfl, bdS, if_pos rfl, i_1, addK]
        exact x2
    · obtain ⟨u, hu, hub, eu⟩ := low_p h0 hTi
      have z0 : ∀ j, Nat.testBit 0 j = false := Nat.zero_testBit
      have hOl : wo (itr T 0 10 (2 ^ i)) (2 ^ i) < 1024 := wo_lt (m := 10) (itr_lt hT 10 _ (pw_10 hi))
      have hui : u ≠ i := fun e => by rw [e, hirr i hi] at hub; cases hub
      have hOu : (wo (itr T 0 10 (2 ^ i)) (2 ^ i)).testBit u = true := by
        rw [wo_bit, pw_bit, decide_eq_false hui]
        rw [show (itr T 0 10 (2 ^ i)).testBit u = true from rch_st hT hi (z0 i) (rch_rf (z0 i)) hub (z0 u)]; rfl
      obtain ⟨v, v1, v2, v3⟩ := e_first26 (kp := kp) (fu := fu) (D := D2) hfu hT hD2 hi hOl wo_in 10 0 fu rfl (by omega) ⟨u, by omega, hu, hOu⟩
      have hse := split_eq hT hsym hirr hi hub v2
      have hKl := itr_lt hT (w := 2 ^ i) 10 (2 ^ u) (pw_10 hu)
      have hwl : wo (T i) (itr T (2 ^ i) 10 (2 ^ u)) < 1024 := wo_lt (m := 10) hTi
      have C0 : fX3_splits_16 sh_L (sh_E kp) fu (f + 1) 124 (nI s) (nI i) D = if nI (wo (T i) (itr T (2 ^ i) 10 (2 ^ u))) = nI 0 then fX3_splits_16 sh_L (sh_E kp) fu f 124 (nI s) (nI (i + 1)) D else fX3_splits_16 sh_L (sh_E kp) fu f 124 (nI (s ||| 2 ^ i)) (nI (i + 1)) D := by
        rw [fX3_splits_16, i_10, if_neg (nI_ge (by omega) (by omega)), e_124_6, l_128, gdI (by omega) (by omega), nI_clamp (by omega), hD i hi, i_0, if_neg (fun e => h0 ((nI_eq (by omega) (by decide)).mp e)), gdI (by omega) (by omega), fX3_knownWithout, e_124_6, l_128, gdI (by omega) (by omega), nI_clamp (by omega), hD i hi, fJ6_lowestOneBit, eu, bdS, i_0, e_without hfu hT hD hi 10 0 fu (2 ^ u) rfl (by omega) (pw_10 hu), bdS, mm1, i_1, i_31, nI_shl (by omega), nI_or, addK]
        have e1 : nI (T i) &&& (nI (itr T (2 ^ i) 10 (2 ^ u)) ^^^ mi1) = nI (wo (T i) (itr T (2 ^ i) 10 (2 ^ u))) := by
          rw [← nI_wo]
          congr 1
          apply nI_ext
          rw [Int32.toBitVec_xor, Int32.toBitVec_not]
          show _ ^^^ BitVec.allOnes 32 = _
          rw [BitVec.xor_allOnes]
        rw [e1]
      have M0 : fX12_heard_15 sh_L (sh_E kp) fu (g + 1) 132 (nI s) (nI i) D2 = if nI (if itr T (2 ^ i) 10 (2 ^ v) = wo (itr T 0 10 (2 ^ i)) (2 ^ i) then 0 else 1) = nI 0 then fX12_heard_15 sh_L (sh_E kp) fu g 132 (nI s) (nI (i + 1)) D2 else fX12_heard_15 sh_L (sh_E kp) fu g 132 (nI (s ||| 2 ^ i)) (nI (i + 1)) D2 := by
        rw [fX12_heard_15, i_10, if_neg (nI_ge (by omega) (by omega)), fX12_doesSplit, e_132_60, l_167, gdI hi (by omega), nI_clamp (by omega), hD2 i hi, i_0, if_neg (fun e => h0 ((nI_eq (by omega) (by decide)).mp e)), e_reach hfu hT hD2 wi_0 hi (z0 i), bdS, mm1, i_1, i_31, nI_shl (by omega), wi_p (by omega), v3, bdS, nI_or, addK]
      by_cases hs : itr T (2 ^ i) 10 (2 ^ v) = wo (itr T 0 10 (2 ^ i)) (2 ^ i)
      · obtain ⟨x, x1, x2⟩ := ih (i + 1) f g s (by omega) (by omega) (by omega)
        refine ⟨x, ?_, ?_⟩
        · rw [C0, hse.mpr hs, if_pos rfl]; exact x1
        · rw [M0, if_pos (by rw [if_pos hs])]; exact x2
      · obtain ⟨x, x1, x2⟩ := ih (i + 1) f g (s ||| 2 ^ i) (by omega) (by omega) (by omega)
        refine ⟨x, ?_, ?_⟩
        · rw [C0, if_neg (fun e => hs (hse.mp ((nI_eq (by omega) (by decide)).mp e)))]; exact x1
        · rw [M0, if_neg (by rw [if_neg hs]; decide)]; exact x2
end
theorem p_heard {kp fu : Nat} (hfu : 30000 ≤ fu) (hf2 : fu < 2 ^ 31) (a1 a2 : Int32) (D : ev_D) (h : Inv kp D) : pl kp (fX11_heard sh_L (sh_E kp) fu 1 a1 a2) (fX12_heard sh_L (sh_E kp) fu 132 a1 a2) D := by
  have h0 := h
  obtain ⟨g0, gM, ⟨gT, gF, gB, gR, gD, gC, gS, gO, gE, gG, gU, gH, gN, gL⟩, gP, gQ, gZ, gK⟩ := h
  obtain ⟨⟨n, hn, en⟩, s2, s3, s4⟩ := gU
  rw [en, nv_n (by omega)] at s3
  have hx : ∀ i, i < n → D 37 (3 * i) = nI (nv (D 37 (3 * i))) ∧ nv (D 37 (3 * i)) ≤ 9 := fun i hi => bI_nv (by decide) (s3 i hi).1
  have hy : ∀ i, i < n → D 37 (3 * i + 1) = nI (nv (D 37 (3 * i + 1))) ∧ nv (D 37 (3 * i + 1)) ≤ 9 := fun i hi => bI_nv (by decide) (s3 i hi).2.1
  have hne : ∀ i, i < n → nv (D 37 (3 * i)) ≠ nv (D 37 (3 * i + 1)) := fun i hi => (s3 i hi).2.2
  obtain ⟨D1, q1, q2, q3⟩ := e_fillNear (kp := kp) (fu := fu) (q := 36) (M := 20) (n := n) (tw := 1) hfu hf2 (x := fun i => nv (D 37 (3 * i))) (y := fun i => nv (D 37 (3 * i + 1))) (e_36_2 kp) l_37 (by decide) hn (by decide) (by decide) (by decide) (fun i hi => ⟨by have := (hx i hi).2; exact Nat.lt_of_le_of_lt this (by decide), by have := (hy i hi).2; exact Nat.lt_of_le_of_lt this (by decide), hne i hi⟩) en (fun i hi => ⟨(hx i hi).1, (hy i hi).1⟩)
  have hT : TB (nrS 1 (fun i => nv (D 37 (3 * i))) (fun i => nv (D 37 (3 * i + 1))) n) := fun p _ => nrS_lt (m := 10) (fun i hi => ⟨Nat.lt_of_le_of_lt (hx i hi).2 (by decide), Nat.lt_of_le_of_lt (hy i hi).2 (by decide)⟩) p
  have hsym : ∀ a b, a < 10 → b < 10 → (nrS 1 (fun i => nv (D 37 (3 * i))) (fun i => nv (D 37 (3 * i + 1))) n a).testBit b = (nrS 1 (fun i => nv (D 37 (3 * i))) (fun i => nv (D 37 (3 * i + 1))) n b).testBit a := fun a b _ _ => nr_sym hne a b
  have hirr : ∀ a, a < 10 → (nrS 1 (fun i => nv (D 37 (3 * i))) (fun i => nv (D 37 (3 * i + 1))) n a).testBit a = false := fun a _ => nr_irr hne a
  have hm : ∀ p, p < 10 → (ev_up D1 132 0 (nI 0)) 167 p = nI (nrS 1 (fun i => nv (D 37 (3 * i))) (fun i => nv (D 37 (3 * i + 1))) n p) := fun p hp => by
    rw [upN _ _ _ _ (by decide), ex_at q3 rfl, s4 p hp, tells_nr en hn hne]
  have hD : ∀ p, p < 10 → D1 128 p = nI (nrS 1 (fun i => nv (D 37 (3 * i))) (fun i => nv (D 37 (3 * i + 1))) n p) := fun p hp => q2 p (by omega)
  generalize nrS 1 (fun i => nv (D 37 (3 * i))) (fun i => nv (D 37 (3 * i + 1))) n = T at hT hsym hirr hm hD
  have IV : Inv kp (ev_up D1 132 0 (nI 0)) := Inv_s (ex_up (ex_mo q3 rfl rfl) rfl) h0
  by_cases h2 : a2 = nI 2
  · subst h2
    obtain ⟨x, x1, x2⟩ := e_splits (kp := kp) (fu := fu) (D := D1) (D2 := ev_up D1 132 0 (nI 0)) hfu hT hsym hirr hD hm 10 0 fu fu 0 rfl (by omega) (by omega)
    refine pl_mk (r := x) (D1 := D1) (D2 := ev_up D1 132 0 (nI 0)) ?_ ?_ IV
    · rw [fX11_heard, i_2, if_pos rfl, e_1_5, fX3_splits, e_124_2, e_27_4, i_1, q1, bdS, i_0, x1, bdS]
    · rw [fX12_heard, i_2, if_pos rfl, i_0, x2]
  rcases in_or a1 (a := 0) (b := 9) (by omega) (by omega) with hb | ⟨fr, -, hfr, rfl⟩
  · apply pl_mk
    · conv => lhs; simp (disch := omega) only [fX11_heard, h2, e_within0 _ _ _ _ hb, ↓mm1, ↓mm9, ↓mm100, ↓mm8, bdS, gdI, gdZ, eq_self, e_within, e_isInM, e_isBell, addK, pk_mul, nI_clamp, ofN, true_and, false_and, and_false, and_true, and_self, ltT, ltF, leT, leF, eqF, m1F, m1F2, m1L, m1L2, m1G, i_0, i_1, i_2, i_3, i_4, i_5, i_6, i_7, i_8, i_9, i_10, i_11, i_12, i_14, i_15, i_16, i_17, i_18, i_19, i_20, i_21, i_23, i_24, i_25, i_26, i_31, i_32, i_34, i_40, i_41, i_42, i_43, i_44, i_45, i_47, i_48, i_57, i_59, i_60, i_61, i_62, i_63, i_65, i_80, i_90, i_97, i_98, i_99, i_100, i_122, i_150, i_151, i_255, i_256, i_258, i_259, i_260, i_261, i_262, i_263, i_271, i_273, i_274, i_275, i_276, i_277, i_281, i_282, i_380, i_400, i_500, i_600, i_800, i_999, i_1000, i_9999, i_10000, i_10100, i_10101, i_10102, i_10103, i_10104, i_10105, i_10106, i_10107, i_10108, i_10109, i_27720, i_65535, i_1664525, i_100000000, i_252645135, i_858993459, i_1013904223, i_1431655765, e_1_0, e_1_1, e_1_2, e_1_3, e_1_4, e_1_5, e_2_0, e_2_1, e_2_2, e_2_3, e_3_7, e_3_8, e_3_9, e_3_10, e_3_11, e_3_12, e_3_13, e_11_2, e_13_0, e_13_1, e_13_2, e_13_3, e_14_2, e_14_3, e_14_4, e_14_5, e_14_6, e_14_7, e_21_2, e_23_2, e_25_2, e_27_0, e_27_1, e_27_2, e_27_3, e_27_4, e_27_5, e_27_6, e_28_2, e_30_2, e_32_2, e_34_2, e_36_2, e_40_2, e_40_3, e_41_0, e_41_1, e_41_2, e_41_3, e_41_4, e_41_5, e_91_0, e_91_4, e_91_5, e_91_6, e_91_7, e_92_0, e_92_1, e_92_2, e_92_3, e_93_2, e_93_3, e_93_4, e_93_5, e_93_6, e_93_7, e_100_2, e_102_2, e_104_2, e_110_0, e_110_1, e_110_2, e_110_3, e_112_0, e_112_1, e_112_2, e_112_3, e_113_7, e_113_8, e_113_9, e_113_10, e_113_11, e_113_12, e_113_13, e_121_2, e_124_0, e_124_1, e_124_2, e_124_3, e_124_4, e_124_5, e_124_6, e_124_7, e_124_8, e_124_9, l_4, l_5, l_6, l_7, l_8, l_9, l_10, l_12, l_15, l_16, l_17, l_18, l_19, l_20, l_22, l_24, l_26, l_29, l_31, l_33, l_35, l_37, l_38, l_39, l_41, l_42, l_94, l_95, l_96, l_97, l_98, l_99, l_101, l_103, l_105, l_106, l_107, l_108, l_109, l_111, l_114, l_115, l_116, l_117, l_118, l_119, l_120, l_123, l_125, l_126, l_127, l_128, l_129, l_130, l_131, e_132_1, e_132_2, e_132_4, e_132_6, e_132_8, e_132_9, e_132_10, e_132_11, e_132_12, e_132_18, e_132_19, e_132_20, e_132_21, e_132_22, e_132_23, e_132_24, e_132_25, e_132_29, e_132_36, e_132_38, e_132_40, e_132_41, e_132_42, e_132_44, e_132_46, e_132_47, e_132_49, e_132_50, e_132_51, e_132_52, e_132_54, e_132_55, e_132_56, e_132_58, e_132_60, e_132_61, e_132_62, e_132_66, l_133, l_134, l_135, l_136, l_137, l_138, l_139, l_140, l_141, l_142, l_143, l_144, l_145, l_146, l_147, l_148, l_149, l_150, l_151, l_152, l_153, l_154, l_155, l_156, l_157, l_158, l_159, l_160, l_161, l_162, l_163, l_164, l_165, l_166, l_167, l_168, l_169, l_170, upA, reduceIte, neF]
    · conv => lhs; simp (disch := omega) only [fX12_heard, h2, e_isInM0 _ _ _ _ _ hb, ↓mm1, ↓mm9, ↓mm100, ↓mm8, bdS, gdI, gdZ, eq_self, e_within, e_isInM, e_isBell, addK, pk_mul, nI_clamp, ofN, true_and, false_and, and_false, and_true, and_self, ltT, ltF, leT, leF, eqF, m1F, m1F2, m1L, m1L2, m1G, i_0, i_1, i_2, i_3, i_4, i_5, i_6, i_7, i_8, i_9, i_10, i_11, i_12, i_14, i_15, i_16, i_17, i_18, i_19, i_20, i_21, i_23, i_24, i_25, i_26, i_31, i_32, i_34, i_40, i_41, i_42, i_43, i_44, i_45, i_47, i_48, i_57, i_59, i_60, i_61, i_62, i_63, i_65, i_80, i_90, i_97, i_98, i_99, i_100, i_122, i_150, i_151, i_255, i_256, i_258, i_259, i_260, i_261, i_262, i_263, i_271, i_273, i_274, i_275, i_276, i_277, i_281, i_282, i_380, i_400, i_500, i_600, i_800, i_999, i_1000, i_9999, i_10000, i_10100, i_10101, i_10102, i_10103, i_10104, i_10105, i_10106, i_10107, i_10108, i_10109, i_27720, i_65535, i_1664525, i_100000000, i_252645135, i_858993459, i_1013904223, i_1431655765, e_1_0, e_1_1, e_1_2, e_1_3, e_1_4, e_1_5, e_2_0, e_2_1, e_2_2, e_2_3, e_3_7, e_3_8, e_3_9, e_3_10, e_3_11, e_3_12, e_3_13, e_11_2, e_13_0, e_13_1, e_13_2, e_13_3, e_14_2, e_14_3, e_14_4, e_14_5, e_14_6, e_14_7, e_21_2, e_23_2, e_25_2, e_27_0, e_27_1, e_27_2, e_27_3, e_27_4, e_27_5, e_27_6, e_28_2, e_30_2, e_32_2, e_34_2, e_36_2, e_40_2, e_40_3, e_41_0, e_41_1, e_41_2, e_41_3, e_41_4, e_41_5, e_91_0, e_91_4, e_91_5, e_91_6, e_91_7, e_92_0, e_92_1, e_92_2, e_92_3, e_93_2, e_93_3, e_93_4, e_93_5, e_93_6, e_93_7, e_100_2, e_102_2, e_104_2, e_110_0, e_110_1, e_110_2, e_110_3, e_112_0, e_112_1, e_112_2, e_112_3, e_113_7, e_113_8, e_113_9, e_113_10, e_113_11, e_113_12, e_113_13, e_121_2, e_124_0, e_124_1, e_124_2, e_124_3, e_124_4, e_124_5, e_124_6, e_124_7, e_124_8, e_124_9, l_4, l_5, l_6, l_7, l_8, l_9, l_10, l_12, l_15, l_16, l_17, l_18, l_19, l_20, l_22, l_24, l_26, l_29, l_31, l_33, l_35, l_37, l_38, l_39, l_41, l_42, l_94, l_95, l_96, l_97, l_98, l_99, l_101, l_103, l_105, l_106, l_107, l_108, l_109, l_111, l_114, l_115, l_116, l_117, l_118, l_119, l_120, l_123, l_125, l_126, l_127, l_128, l_129, l_130, l_131, e_132_1, e_132_2, e_132_4, e_132_6, e_132_8, e_132_9, e_132_10, e_132_11, e_132_12, e_132_18, e_132_19, e_132_20, e_132_21, e_132_22, e_132_23, e_132_24, e_132_25, e_132_29, e_132_36, e_132_38, e_132_40, e_132_41, e_132_42, e_132_44, e_132_46, e_132_47, e_132_49, e_132_50, e_132_51, e_132_52, e_132_54, e_132_55, e_132_56, e_132_58, e_132_60, e_132_61, e_132_62, e_132_66, l_133, l_134, l_135, l_136, l_137, l_138, l_139, l_140, l_141, l_142, l_143, l_144, l_145, l_146, l_147, l_148, l_149, l_150, l_151, l_152, l_153, l_154, l_155, l_156, l_157, l_158, l_159, l_160, l_161, l_162, l_163, l_164, l_165, l_166, l_167, l_168, l_169, l_170, upA, reduceIte, neF]
    · exact Inv_s (by repeat (first | exact ex_rf _ _ _ | refine ex_up ?_ rfl)) h0
  rcases in_or a2 (a := 0) (b := 1) (by omega) (by omega) with hb | ⟨w, -, hw, rfl⟩
  · apply pl_mk
    · conv => lhs; simp (disch := omega) only [fX11_heard, h2, e_within0 _ _ _ _ hb, ↓mm1, ↓mm9, ↓mm100, ↓mm8, bdS, gdI, gdZ, eq_self, e_within, e_isInM, e_isBell, addK, pk_mul, nI_clamp, ofN, true_and, false_and, and_false, and_true, and_self, ltT, ltF, leT, leF, eqF, m1F, m1F2, m1L, m1L2, m1G, i_0, i_1, i_2, i_3, i_4, i_5, i_6, i_7, i_8, i_9, i_10, i_11, i_12, i_14, i_15, i_16, i_17, i_18, i_19, i_20, i_21, i_23, i_24, i_25, i_26, i_31, i_32, i_34, i_40, i_41, i_42, i_43, i_44, i_45, i_47, i_48, i_57, i_59, i_60, i_61, i_62, i_63, i_65, i_80, i_90, i_97, i_98, i_99, i_100, i_122, i_150, i_151, i_255, i_256, i_258, i_259, i_260, i_261, i_262, i_263, i_271, i_273, i_274, i_275, i_276, i_277, i_281, i_282, i_380, i_400, i_500, i_600, i_800, i_999, i_1000, i_9999, i_10000, i_10100, i_10101, i_10102, i_10103, i_10104, i_10105, i_10106, i_10107, i_10108, i_10109, i_27720, i_65535, i_1664525, i_100000000, i_252645135, i_858993459, i_1013904223, i_1431655765, e_1_0, e_1_1, e_1_2, e_1_3, e_1_4, e_1_5, e_2_0, e_2_1, e_2_2, e_2_3, e_3_7, e_3_8, e_3_9, e_3_10, e_3_11, e_3_12, e_3_13, e_11_2, e_13_0, e_13_1, e_13_2, e_13_3, e_14_2, e_14_3, e_14_4, e_14_5, e_14_6, e_14_7, e_21_2, e_23_2, e_25_2, e_27_0, e_27_1, e_27_2, e_27_3, e_27_4, e_27_5, e_27_6, e_28_2, e_30_2, e_32_2, e_34_2, e_36_2, e_40_2, e_40_3, e_41_0, e_41_1, e_41_2, e_41_3, e_41_4, e_41_5, e_91_0, e_91_4, e_91_5, e_91_6, e_91_7, e_92_0, e_92_1, e_92_2, e_92_3, e_93_2, e_93_3, e_93_4, e_93_5, e_93_6, e_93_7, e_100_2, e_102_2, e_104_2, e_110_0, e_110_1, e_110_2, e_110_3, e_112_0, e_112_1, e_112_2, e_112_3, e_113_7, e_113_8, e_113_9, e_113_10, e_113_11, e_113_12, e_113_13, e_121_2, e_124_0, e_124_1, e_124_2, e_124_3, e_124_4, e_124_5, e_124_6, e_124_7, e_124_8, e_124_9, l_4, l_5, l_6, l_7, l_8, l_9, l_10, l_12, l_15, l_16, l_17, l_18, l_19, l_20, l_22, l_24, l_26, l_29, l_31, l_33, l_35, l_37, l_38, l_39, l_41, l_42, l_94, l_95, l_96, l_97, l_98, l_99, l_101, l_103, l_105, l_106, l_107, l_108, l_109, l_111, l_114, l_115, l_116, l_117, l_118, l_119, l_120, l_123, l_125, l_126, l_127, l_128, l_129, l_130, l_131, e_132_1, e_132_2, e_132_4, e_132_6, e_132_8, e_132_9, e_132_10, e_132_11, e_132_12, e_132_18, e_132_19, e_132_20, e_132_21, e_132_22, e_132_23, e_132_24, e_132_25, e_132_29, e_132_36, e_132_38, e_132_40, e_132_41, e_132_42, e_132_44, e_132_46, e_132_47, e_132_49, e_132_50, e_132_51, e_132_52, e_132_54, e_132_55, e_132_56, e_132_58, e_132_60, e_132_61, e_132_62, e_132_66, l_133, l_134, l_135, l_136, l_137, l_138, l_139, l_140, l_141, l_142, l_143, l_144, l_145, l_146, l_147, l_148, l_149, l_150, l_151, l_152, l_153, l_154, l_155, l_156, l_157, l_158, l_159, l_160, l_161, l_162, l_163, l_164, l_165, l_166, l_167, l_168, l_169, l_170, upA, reduceIte, neF]
    · conv => lhs; simp (disch := omega) only [fX12_heard, h2, e_isInM0 _ _ _ _ _ hb, ↓mm1, ↓mm9, ↓mm100, ↓mm8, bdS, gdI, gdZ, eq_self, e_within, e_isInM, e_isBell, addK, pk_mul, nI_clamp, ofN, true_and, false_and, and_false, and_true, and_self, ltT, ltF, leT, leF, eqF, m1F, m1F2, m1L, m1L2, m1G, i_0, i_1, i_2, i_3, i_4, i_5, i_6, i_7, i_8, i_9, i_10, i_11, i_12, i_14, i_15, i_16, i_17, i_18, i_19, i_20, i_21, i_23, i_24, i_25, i_26, i_31, i_32, i_34, i_40, i_41, i_42, i_43, i_44, i_45, i_47, i_48, i_57, i_59, i_60, i_61, i_62, i_63, i_65, i_80, i_90, i_97, i_98, i_99, i_100, i_122, i_150, i_151, i_255, i_256, i_258, i_259, i_260, i_261, i_262, i_263, i_271, i_273, i_274, i_275, i_276, i_277, i_281, i_282, i_380, i_400, i_500, i_600, i_800, i_999, i_1000, i_9999, i_10000, i_10100, i_10101, i_10102, i_10103, i_10104, i_10105, i_10106, i_10107, i_10108, i_10109, i_27720, i_65535, i_1664525, i_100000000, i_252645135, i_858993459, i_1013904223, i_1431655765, e_1_0, e_1_1, e_1_2, e_1_3, e_1_4, e_1_5, e_2_0, e_2_1, e_2_2, e_2_3, e_3_7, e_3_8, e_3_9, e_3_10, e_3_11, e_3_12, e_3_13, e_11_2, e_13_0, e_13_1, e_13_2, e_13_3, e_14_2, e_14_3, e_14_4, e_14_5, e_14_6, e_14_7, e_21_2, e_23_2, e_25_2, e_27_0, e_27_1, e_27_2, e_27_3, e_27_4, e_27_5, e_27_6, e_28_2, e_30_2, e_32_2, e_34_2, e_36_2, e_40_2, e_40_3, e_41_0, e_41_1, e_41_2, e_41_3, e_41_4, e_41_5, e_91_0, e_91_4, e_91_5, e_91_6, e_91_7, e_92_0, e_92_1, e_92_2, e_92_3, e_93_2, e_93_3, e_93_4, e_93_5, e_93_6, e_93_7, e_100_2, e_102_2, e_104_2, e_110_0, e_110_1, e_110_2, e_110_3, e_112_0, e_112_1, e_112_2, e_112_3, e_113_7, e_113_8, e_113_9, e_113_10, e_113_11, e_113_12, e_113_13, e_121_2, e_124_0, e_124_1, e_124_2, e_124_3, e_124_4, e_124_5, e_124_6, e_124_7, e_124_8, e_124_9, l_4, l_5, l_6, l_7, l_8, l_9, l_10, l_12, l_15, l_16, l_17, l_18, l_19, l_20, l_22, l_24, l_26, l_29, l_31, l_33, l_35, l_37, l_38, l_39, l_41, l_42, l_94, l_95, l_96, l_97, l_98, l_99, l_101, l_103, l_105, l_106, l_107, l_108, l_109, l_111, l_114, l_115, l_116, l_117, l_118, l_119, l_120, l_123, l_125, l_126, l_127, l_128, l_129, l_130, l_131, e_132_1, e_132_2, e_132_4, e_132_6, e_132_8, e_132_9, e_132_10, e_132_11, e_132_12, e_132_18, e_132_19, e_132_20, e_132_21, e_132_22, e_132_23, e_132_24, e_132_25, e_132_29, e_132_36, e_132_38, e_132_40, e_132_41, e_132_42, e_132_44, e_132_46, e_132_47, e_132_49, e_132_50, e_132_51, e_132_52, e_132_54, e_132_55, e_132_56, e_132_58, e_132_60, e_132_61, e_132_62, e_132_66, l_133, l_134, l_135, l_136, l_137, l_138, l_139, l_140, l_141, l_142, l_143, l_144, l_145, l_146, l_147, l_148, l_149, l_150, l_151, l_152, l_153, l_154, l_155, l_156, l_157, l_158, l_159, l_160, l_161, l_162, l_163, l_164, l_165, l_166, l_167, l_168, l_169, l_170, upA, reduceIte, neF]
    · exact Inv_s (by repeat (first | exact ex_rf _ _ _ | refine ex_up ?_ rfl)) h0
  have ho : 10 - ones (2 ^ fr) ≤ 10 := by omega
  obtain ⟨x, x1, x2⟩ := e_news (kp := kp) (fu := fu) (D := D1) (D2 := ev_up D1 132 0 (nI 0)) hfu hT hD hm hw 10 0 fu fu (2 ^ fr) 0 rfl (by omega) (by omega) (pw_10 (by omega)) ho
  refine pl_mk (r := x) (D1 := D1) (D2 := ev_up D1 132 0 (nI 0)) ?_ ?_ IV
  · rw [fX11_heard, i_2, if_neg h2, i_0, i_9, e_within _ _ _ _ (Nat.zero_le _) hfr (by decide), bdS, if_neg (by decide), i_1, e_within _ _ _ _ (Nat.zero_le _) hw (by decide), bdS, if_neg (by decide), e_1_5, fX3_news, e_124_2, e_27_4, i_1, q1, bdS, i_31, nI_shl (by omega), i_0, x1, bdS]
  · rw [fX12_heard, i_2, if_neg h2, i_0, i_9, e_isInM _ _ _ _ _ (Nat.zero_le _) hfr (by decide), bdS, if_neg (by decide), i_1, e_isInM _ _ _ _ _ (Nat.zero_le _) hw (by decide), bdS, if_neg (by decide), i_31, nI_shl (by omega), x2]
