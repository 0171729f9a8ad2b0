/-! ===== who is near whom: rows of couples as sets ===== -/
def nst (tw : Nat) (x y : Nat → Nat) (p i s : Nat) : Nat := if x i = p then s ||| 2 ^ y i else if tw = 1 ∧ y i = p then s ||| 2 ^ x i else s
def nrS (tw : Nat) (x y : Nat → Nat) (n p : Nat) : Nat := up (nst tw x y p) 0 n 0
theorem nrS_s (tw : Nat) (x y : Nat → Nat) (n p : Nat) : nrS tw x y (n + 1) p = nst tw x y p n (nrS tw x y n p) := by rw [nrS, up_l, Nat.zero_add]; rfl
theorem nrS_lt {tw : Nat} {x y : Nat → Nat} {n m : Nat} (h : ∀ i, i < n → x i < m ∧ y i < m) (p : Nat) : nrS tw x y n p < 2 ^ m := by
  induction n with
  | zero => exact Nat.two_pow_pos m
  | succ n ih =>
    have := ih fun i hi => h i (by omega)
    obtain ⟨h1, h2⟩ := h n (by omega)
    rw [nrS_s, nst]
    split
    · exact or_lt this (pw_lt h2)
    split
    · exact or_lt this (pw_lt h1)
    · exact this
theorem e_near10 {kp fu q M n tw : Nat} {x y : Nat → Nat} (hE : sh_E kp q 2 = q + 1) (hL : sh_L (q + 1) = 3 * M) (hM : M ≤ 100) (hn : n ≤ M) (htw : tw ≤ 1) (hq1 : q ≠ 128) (hq2 : q + 1 ≠ 128) (hxy : ∀ i, i < n → x i < 12 ∧ y i < 12 ∧ x i ≠ y i) (k : Nat) : ∀ (i f : Nat) (D : ev_D), i + k = n → k < f → D q 0 = nI n → (∀ i, i < n → D (q + 1) (3 * i) = nI (x i) ∧ D (q + 1) (3 * i + 1) = nI (y i)) → (∀ p, p < 12 → D 128 p = nI (nrS tw x y i p)) → ∃ D', fX3_fillNear_10 sh_L (sh_E kp) fu f 124 q (nI tw) (nI i) D = some (nI 0, D') ∧ (∀ p, p < 12 → D' 128 p = nI (nrS tw x y n p)) ∧ ex [128] [] D' D := by
  induction k with
  | zero =>
    intro i f D h1 h2 h0 hc hp
    obtain ⟨f, rfl⟩ : ∃ g, f = g + 1 := ⟨f - 1, by omega⟩
    have e : i = n := by omega
    subst e
    exact ⟨D, by rw [fX3_fillNear_10, h0, if_pos (nI_le (Nat.le_refl _) (by omega)), i_0], hp, ex_rf _ _ _⟩
  | succ k ih =>
    intro i f D h1 h2 h0 hc hp
    obtain ⟨f, rfl⟩ : ∃ g, f = g + 1 := ⟨f - 1, by omega⟩
    obtain ⟨x1, y1, ne⟩ := hxy i (by omega)
    obtain ⟨c1, c2⟩ := hc i (by omega)
    have g1 : fX6_cell sh_L (sh_E kp) fu q (nI i) (nI 0) D = some (nI (x i), D) := by
      rw [e_cell (M := M) hE hL (by omega) (by omega) hM]
      show some (D (q + 1) (3 * i), D) = _
      rw [c1]
    have g2 : fX6_cell sh_L (sh_E kp) fu q (nI i) (nI 1) D = some (nI (y i), D) := by
      rw [e_cell (M := M) hE hL (by omega) (by omega) hM, c2]
    have fin : ∀ (D1 : ev_D), ex [128] [] D1 D → (∀ p, p < 12 → D1 128 p = nI (nrS tw x y (i + 1) p)) → ∃ D', fX3_fillNear_10 sh_L (sh_E kp) fu f 124 q (nI tw) (nI (i + 1)) D1 = some (nI 0, D') ∧ (∀ p, p < 12 → D' 128 p = nI (nrS tw x y n p)) ∧ ex [128] [] D' D := by
      intro D1 e1 p1
      have hk : ∀ k, k ≠ 128 → D1 k = D k := fun k hk => funext fun j => e1 k j (by
        rw [mem, List.any_cons, List.any_nil, Bool.or_false]
        exact nbF hk) (fun _ => rfl)
      obtain ⟨D', r1, r2, r3⟩ := ih (i + 1) f D1 (by omega) (by omega) (by rw [hk q hq1]; exact h0) (fun j hj => by rw [hk _ hq2]; exact hc j hj) p1
      exact ⟨D', r1, r2, ex_tr e1 r3⟩
    have px := hp (x i) x1
    have py := hp (y i) y1
    have start : fX3_fillNear_10 sh_L (sh_E kp) fu (f + 1) 124 q (nI tw) (nI i) D = fX3_fillNear_10 sh_L (sh_E kp) fu f 124 q (nI tw) (nI (i + 1)) (ev_up (ev_up D 128 (x i) (nI (nrS tw x y i (x i) ||| 2 ^ y i))) 128 (y i) (nI (nrS tw x y i (y i) ||| (if tw = 0 then 0 else 2 ^ x i)))) := by
      rw [fX3_fillNear_10, h0, if_neg (nI_ge (by omega) (by omega)), i_0, g1, bdS, i_1, g2, bdS, i_11, e_within _ _ _ _ (Nat.zero_le _) (by omega) (by decide), bdS, if_neg (by decide), e_within _ _ _ _ (Nat.zero_le _) (by omega) (by decide), bdS, if_neg (by decide), e_124_6, l_128, gdI x1 (by omega), gdI x1 (by omega), gdI y1 (by omega), nI_clamp (by omega), nI_clamp (by omega), px, i_31, nI_shl (by omega), nI_or, upJ _ _ _ _ (Ne.symm ne), py]
      have hc : tw = 0 ∨ tw = 1 := by omega
      rcases hc with rfl | rfl
      · rw [if_pos rfl, gdI y1 (by omega), fX3_fillNear_92, nI_or, i_1, addK]; rfl
      · rw [if_neg (by decide), gdI y1 (by omega), fX3_fillNear_92, nI_shl (by omega), nI_or, i_1, addK]; rfl
    rw [start]
    refine fin _ (by repeat (first | exact ex_rf _ _ _ | refine ex_up ?_ rfl)) fun p hp2 => ?_
    rw [nrS_s, nst, upA, upA]
    by_cases e1 : p = y i
    · rw [if_pos ⟨rfl, e1⟩, if_neg (show ¬ x i = p by omega)]
      have hc : tw = 0 ∨ tw = 1 := by omega
      rcases hc with rfl | rfl
      · rw [if_pos rfl, if_neg (by omega), Nat.or_zero, e1]
      · rw [if_neg (by decide), if_pos ⟨rfl, e1.symm⟩, e1]
    · rw [if_neg (by omega)]
      by_cases e2 : p = x i
      · rw [if_pos ⟨rfl, e2⟩, if_pos e2.symm, e2]
      · rw [if_neg (by omega), if_neg (by omega), if_neg (by omega)]
        exact hp p hp2
theorem e_fillNear {kp fu q M n tw : Nat} (hfu : 30000 ≤ fu) (hf2 : fu < 2 ^ 31) {x y : Nat → Nat} (hE : sh_E kp q 2 = q + 1) (hL : sh_L (q + 1) = 3 * M) (hM : M ≤ 100) (hn : n ≤ M) (htw : tw ≤ 1) (hq1 : q ≠ 128) (hq2 : q + 1 ≠ 128) (hxy : ∀ i, i < n → x i < 12 ∧ y i < 12 ∧ x i ≠ y i) {D : ev_D} (h0 : D q 0 = nI n) (hc : ∀ i, i < n → D (q + 1) (3 * i) = nI (x i) ∧ D (q + 1) (3 * i + 1) = nI (y i)) : ∃ D', fX3_fillNear sh_L (sh_E kp) fu 124 q (nI tw) D = some (nI 0, D') ∧ (∀ p, p < 12 → D' 128 p = nI (nrS tw x y n p)) ∧ ex [128] [] D' D := by
  obtain ⟨D', r1, r2, r3⟩ := e_near10 (kp := kp) (fu := fu) hE hL hM hn htw hq1 hq2 hxy n 0 fu (fl 128 (fun _ => nI 0) 0 12 D) (by omega) (by omega) (by rw [fl_n _ _ _ _ _ hq1]; exact h0) (fun i hi => by rw [fl_n _ _ _ _ _ hq2, fl_n _ _ _ _ _ hq2]; exact hc i hi) (fun p hp => by rw [fl_i _ _ _ _ (by omega) (by omega)]; rfl)
  refine ⟨D', ?_, r2, ex_tr (fl_ex _ _ _ _ (ex_rf _ _ _) rfl) r3⟩
  rw [fX3_fillNear, e_124_6, i_0, e_fill0 l_128 (by omega) hf2, bdS]
  exact r1
theorem seen_nr {c : ev_D} {n : Nat} (h0 : c 32 0 = nI n) (hn : n ≤ 16) (r : Nat) : seen c r = nrS 0 (fun i => nv (c 33 (3 * i))) (fun i => nv (c 33 (3 * i + 1))) n r := by
  unfold seen nrS
  rw [h0, nv_n (by omega)]
  refine up_cg (fun j _ _ a => ?_) 0
  unfold nst
  rw [if_neg (show ¬ ((0 = 1) ∧ nv (c 33 (3 * j + 1)) = r) from fun z => absurd z.1 (by decide))]
theorem tells_nr {c : ev_D} {n : Nat} (h0 : c 36 0 = nI n) (hn : n ≤ 20) (hne : ∀ i, i < n → nv (c 37 (3 * i)) ≠ nv (c 37 (3 * i + 1))) (r : Nat) : tells c r = nrS 1 (fun i => nv (c 37 (3 * i))) (fun i => nv (c 37 (3 * i + 1))) n r := by
  unfold tells nrS
  rw [h0, nv_n (by omega)]
  refine up_cg (fun j _ hj a => ?_) 0
  have := hne j (by omega)
  unfold nst
  show (if nv (c 37 (3 * j + 1)) = r then _ else _) = _
  by_cases h1 : nv (c 37 (3 * j)) = r
  · rw [if_pos h1, if_pos h1, if_neg (by omega)]
  · rw [if_neg h1, if_neg h1]
    by_cases h2 : nv (c 37 (3 * j + 1)) = r
    · rw [if_pos h2, if_pos ⟨rfl, h2⟩]
    · rw [if_neg h2, if_neg (fun z => h2 z.2)]
/-- both ways: alike -/
theorem nr_sym {x y : Nat → Nat} {n : Nat} (hne : ∀ i, i < n → x i ≠ y i) (a b : Nat) : (nrS 1 x y n a).testBit b = (nrS 1 x y n b).testBit a := by
  induction n with
  | zero => rw [nrS, nrS, up_0, up_0, Nat.zero_testBit, Nat.zero_testBit]
  | succ n ih =>
    have ih := ih fun i hi => hne i (by omega)
    have hn := hne n (by omega)
    rw [nrS_s, nrS_s, nst, nst]
    by_cases a1 : x n = a <;> by_cases b1 : x n = b <;> by_cases a2 : y n = a <;> by_cases b2 : y n = b <;> simp_all [Nat.testBit_or, pw_bit] <;> omega
theorem nr_irr {x y : Nat → Nat} {n : Nat} (hne : ∀ i, i < n → x i ≠ y i) (a : Nat) : (nrS 1 x y n a).testBit a = false := by
  induction n with
  | zero => rw [nrS, up_0, Nat.zero_testBit]
  | succ n ih =>
    have ih := ih fun i hi => hne i (by omega)
    have hn := hne n (by omega)
    rw [nrS_s, nst]
    split
    · rename_i h
      rw [Nat.testBit_or, ih, pw_bit, decide_eq_false (by omega)]; rfl
    split
    · rename_i h
      rw [Nat.testBit_or, ih, pw_bit, decide_eq_false (by omega)]; rfl
    · exact ih
