/-! ===== text: reading, as a whole ===== -/
theorem tX1 {k q j : Nat} (h : q = 91 ∧ (j = 1 ∨ j = 2 ∨ j = 3 ∨ j = 8 ∨ j = 9 ∨ j = 10 ∨ j = 11)) : tX k q j := .inl h
theorem tX2 {k q j : Nat} (h : 93 ≤ q ∧ q ≤ 105 ∧ ¬ ((q = 100 ∨ q = 102 ∨ q = 104) ∧ j = 1)) : tX k q j := .inr (.inl h)
theorem tX3 {k q j : Nat} (h : 107 ≤ q ∧ q ≤ 109) : tX k q j := .inr (.inr (.inl h))
theorem tX4 {k q j : Nat} (h : q = 132 ∧ (j = 14 ∨ j = 15 ∨ j = 16 ∨ j = 17 ∨ j = 27 ∨ j = 28 ∨ j = 30 ∨ j = 31 ∨ j = 32)) : tX k q j := .inr (.inr (.inr (.inl h)))
theorem tX5 {k q j : Nat} (h : (q = 148 ∨ q = 149) ∧ 800 ≤ j) : tX k q j := .inr (.inr (.inr (.inr (.inl h))))
theorem tX6 {k q j : Nat} (h : q = 150) : tX k q j := .inr (.inr (.inr (.inr (.inr (.inl h)))))
theorem tX7 {k q j : Nat} (h : (144 ≤ q ∧ q ≤ 147) ∧ 32 ≤ j) : tX k q j := .inr (.inr (.inr (.inr (.inr (.inr (.inl h))))))
theorem tX8 {k q j : Nat} (h : q = 151 ∧ 10 ≤ j) : tX k q j := .inr (.inr (.inr (.inr (.inr (.inr (.inr (.inl h)))))))
theorem tX9 {k q j : Nat} (h : q = 152 ∧ 48 ≤ j) : tX k q j := .inr (.inr (.inr (.inr (.inr (.inr (.inr (.inr (.inl h))))))))
theorem tX10 {k q j : Nat} (h : q = 153 ∧ 16 ≤ j) : tX k q j := .inr (.inr (.inr (.inr (.inr (.inr (.inr (.inr (.inr (.inl h)))))))))
theorem tX11 {k q j : Nat} (h : q = 132 ∧ (j = 0 ∨ j = 13 ∨ j = 26 ∨ j = 33 ∨ j = 34)) : tX k q j := .inr (.inr (.inr (.inr (.inr (.inr (.inr (.inr (.inr (.inr (.inl h))))))))))
theorem tX12 {q j : Nat} (h : (14 ≤ q ∧ q ≤ 19) ∨ ((144 ≤ q ∧ q ≤ 147) ∧ j < 16) ∨ ((q = 148 ∨ q = 149) ∧ j < 400) ∨ (q = 143 ∧ j = 0)) : tX 0 q j := .inr (.inr (.inr (.inr (.inr (.inr (.inr (.inr (.inr (.inr (.inr (.inl ⟨rfl, h⟩)))))))))))
theorem tX13 {q j : Nat} (h : q = 22 ∨ (q = 21 ∧ j = 0) ∨ (q = 151 ∧ j < 10) ∨ (q = 132 ∧ j = 35)) : tX 1 q j := .inr (.inr (.inr (.inr (.inr (.inr (.inr (.inr (.inr (.inr (.inr (.inr (.inl ⟨rfl, h⟩))))))))))))
theorem tX14 {q j : Nat} (h : q = 24 ∨ (q = 23 ∧ j = 0) ∨ (q = 40 ∧ j = 0) ∨ (q = 152 ∧ j < 48) ∨ (q = 132 ∧ (j = 37 ∨ j = 3))) : tX 2 q j := .inr (.inr (.inr (.inr (.inr (.inr (.inr (.inr (.inr (.inr (.inr (.inr (.inr (.inl ⟨rfl, h⟩)))))))))))))
theorem tX15 {q j : Nat} (h : q = 26 ∨ (q = 25 ∧ j = 0) ∨ (q = 153 ∧ j < 16) ∨ (q = 132 ∧ j = 39)) : tX 3 q j := .inr (.inr (.inr (.inr (.inr (.inr (.inr (.inr (.inr (.inr (.inr (.inr (.inr (.inr ⟨rfl, h⟩)))))))))))))
theorem tX_4 {k q j : Nat} (h : tX 4 q j) : tX k q j := by
  rcases h with h | h | h | h | h | h | h | h | h | h | h | h | h | h | h
  · exact tX1 h
  · exact tX2 h
  · exact tX3 h
  · exact tX4 h
  · exact tX5 h
  · exact tX6 h
  · exact tX7 h
  · exact tX8 h
  · exact tX9 h
  · exact tX10 h
  · exact tX11 h
  · exact absurd h.1 (by decide)
  · exact absurd h.1 (by decide)
  · exact absurd h.1 (by decide)
  · exact absurd h.1 (by decide)
theorem tXF {k q j : Nat} (h : q = 132 ∧ (j = 0 ∨ j = 13 ∨ j = 14 ∨ j = 15 ∨ j = 16 ∨ j = 17 ∨ j = 26 ∨ j = 27 ∨ j = 28 ∨ j = 30 ∨ j = 31 ∨ j = 32 ∨ j = 33 ∨ j = 34)) : tX k q j := by
  by_cases e : j = 0 ∨ j = 13 ∨ j = 26 ∨ j = 33 ∨ j = 34
  · exact tX11 ⟨h.1, e⟩
  · exact tX4 ⟨h.1, by omega⟩
theorem lX_t {k q j : Nat} (h : lX q j) : tX k q j := by
  rcases h with ((h | h) | h | h) | h | h | h | h
  · exact tX4 ⟨h.1, by omega⟩
  · exact tX5 h
  · exact tX4 ⟨h.1, by omega⟩
  · exact tX6 h
  · exact tX7 h
  · exact tX8 h
  · exact tX9 h
  · exact tX10 h
theorem lX_132 {q j : Nat} (h : q < 132) : ¬ lX q j := fun z => by
  rcases z with ((z | z) | z | z) | z | z | z | z <;> omega
section Rd
variable {kp fu n R k : Nat} {T : Nat → Nat} {D : ev_D}
theorem tT_of {t : Nat} {D1 : ev_D} (h : tkC T n t D1) : tT T n t := h.2.2
theorem tT_ex (h255 : ∀ i, T i ≤ 255) (hT : ∀ i, i < 400 → D 106 i = nI (T i)) (hn : n ≤ 400) (h1 : D 91 1 = nI n) : ∃ t, tT T n t := by
  obtain ⟨t, D', _, a2, _⟩ := c_split (kp := 0) (fu := 30000) (Nat.le_refl _) h255 hT hn h1
  exact ⟨t, a2.2.2⟩
/-- what is there before the lines -/
theorem c_pre (hfu : 30000 ≤ fu) (h255 : ∀ i, T i ≤ 255) (hT : ∀ i, i < 400 → D 106 i = nI (T i)) (hn : n ≤ 400) (h1 : D 91 1 = nI n) (x : Int32) : ∃ t D1, fX4_read sh_L (sh_E kp) fu 91 x (nI R) D = ev_bd (fX11_within sh_L (sh_E kp) fu x (nI 0) (nI 3) D1) (fun v20 D20 => if v20 = nI 0 then some (mi1, D20) else ev_bd (fX4_clearDraft sh_L (sh_E kp) fu 91 D20) (fun _ D22 => fX4_read_41 sh_L (sh_E kp) fu fu 91 x (nI 0) D22)) ∧ tkC T n t D1 ∧ D1 91 1 = nI 0 ∧ D1 91 2 = nI 0 ∧ D1 91 3 = mi1 ∧ D1 91 9 = nI 0 ∧ D1 91 11 = nI R ∧ ∀ q j, ¬ (107 ≤ q ∧ q ≤ 109) → ¬ (q = 91 ∧ (j = 1 ∨ j = 2 ∨ j = 3 ∨ j = 8 ∨ j = 9 ∨ j = 10 ∨ j = 11)) → D1 q j = D q j := by
  obtain ⟨t, D', a1, a2, a3, a4⟩ := c_split (kp := kp) (fu := fu) (D := ev_up (ev_up (ev_up D 91 2 (nI 0)) 91 3 mi1) 91 11 (nI R)) hfu h255 (fun i hi => by simp (disch := omega) only [upA, neF, eqTn, true_and, false_and, and_false, and_true, and_self, reduceIte]; exact hT i hi) hn (by simp (disch := omega) only [upA, neF, eqTn, true_and, false_and, and_false, and_true, and_self, reduceIte]; exact h1)
  refine ⟨t, ev_up D' 91 1 (nI 0), ?_, tkC_91 (by decide) a2, upS _ _ _ _, ?_, ?_, ?_, ?_, fun q j h2 h3 => ?_⟩
  · unfold fX4_read
    rw [i_0, mm1, i_3, a1, bdS]
  · rw [upJ _ _ _ _ (by decide), a4 _ _ (by decide) (by decide) (by decide) (by omega)]; simp (disch := omega) only [upA, neF, eqTn, true_and, false_and, and_false, and_true, and_self, reduceIte]
  · rw [upJ _ _ _ _ (by decide), a4 _ _ (by decide) (by decide) (by decide) (by omega)]; simp (disch := omega) only [upA, neF, eqTn, true_and, false_and, and_false, and_true, and_self, reduceIte]
  · rw [upJ _ _ _ _ (by decide)]; exact a3
  · rw [upJ _ _ _ _ (by decide), a4 _ _ (by decide) (by decide) (by decide) (by omega)]; simp (disch := omega) only [upA, neF, eqTn, true_and, false_and, and_false, and_true, and_self, reduceIte]
  · rw [upA, if_neg (by omega), a4 _ _ (by omega) (by omega) (by omega) (by omega), upA, if_neg (by omega), upA, if_neg (by omega), upA, if_neg (by omega)]
theorem c_readN (hfu : 30000 ≤ fu) (h255 : ∀ i, T i ≤ 255) (hT : ∀ i, i < 400 → D 106 i = nI (T i)) (hn : n ≤ 400) (h1 : D 91 1 = nI n) {x : Int32} (hx : x < nI 0 ∨ nI 3 < x) : ∃ D3, fX4_read sh_L (sh_E kp) fu 91 x (nI R) D = some (mi1, D3) ∧ D3 91 1 = nI 0 ∧ D3 91 2 = nI 0 ∧ D3 91 3 = mi1 ∧ (∀ q j, ¬ tX 4 q j → D3 q j = D q j) ∧ ∀ q j, 110 ≤ q → D3 q j = D q j := by
  obtain ⟨t, D1, a1, a2, a3, a4, a5, a6, a7, a8⟩ := c_pre (kp := kp) (fu := fu) (R := R) hfu h255 hT hn h1 x
  refine ⟨D1, ?_, a3, a4, a5, fun q j h => a8 q j (fun z => h (tX3 z)) (fun z => h (tX1 z)), fun q j h => a8 q j (by omega) (by omega)⟩
  rw [a1, e_within0 _ _ _ _ hx, bdS, if_pos rfl]
theorem c_read {α : Type} (hfu : 30000 ≤ fu) (h255 : ∀ i, T i ≤ 255) (hT : ∀ i, i < 400 → D 106 i = nI (T i)) (hn : n ≤ 400) (h1 : D 91 1 = nI n) (hk : k ≤ 3) {bg : Nat → Bool} {one : Nat → tR α} {rd : ev_D → ev_Op} {P : Nat → List α → ev_D → Prop}
    (hb : ∀ (t i : Nat) (D : ev_D), tkC T n t D → D 91 9 = nI i → i ≤ t → fX4_mayBegin sh_L (sh_E kp) fu 91 (nI k) D = some (nI (bg (Kq T n i)).toNat, D))
    (hrd : ∀ (X : Int32 → ev_D → ev_Op) (D : ev_D), (if nI k = nI 0 then ev_bd (fX4_readLaw sh_L (sh_E kp) fu 91 D) X else if nI k = nI 1 then ev_bd (fX4_readRope sh_L (sh_E kp) fu 91 D) X else if nI k = nI 2 then ev_bd (fX4_readDay sh_L (sh_E kp) fu 91 D) X else ev_bd (fX4_readChange sh_L (sh_E kp) fu 91 D) X) = ev_bd (rd D) X)
    (hone : ∀ (t i : Nat) (ls : List α) (D : ev_D), ls.length < 16 → i ≤ t → bg (Kq T n i) = true → tkC T n t D → D 91 9 = nI i → P i ls D → oD T n t D (fun j a D' => P j (ls ++ [a]) D') (one i) (rd D))
    (hP : ∀ (i : Nat) (ls : List α) (D : ev_D) (v : Int32), P i ls D → P (i + 1) ls (ev_up D 91 9 v))
    (hP0 : ∀ D2, D2 93 0 = nI 0 → D2 93 1 = nI 0 → D2 100 0 = nI 0 → D2 102 0 = nI 0 → D2 104 0 = nI 0 → D2 91 11 = nI R → D2 100 1 = D 100 1 → D2 102 1 = D 102 1 → D2 104 1 = D 104 1 → P 0 [] D2) : (match lns (Kq T n) bg one 17 0 [] with
      | .inl (f, i') => ∃ D3, fX4_read sh_L (sh_E kp) fu 91 (nI k) (nI R) D = some (mi1, D3) ∧ D3 91 1 = nI 0 ∧ D3 91 2 = nI f ∧ D3 91 3 = nI (Pq T n i') ∧ (∀ q j, ¬ tX 4 q j → D3 q j = D q j) ∧ ∀ q j, 110 ≤ q → D3 q j = D q j
      | .inr (j, ls) => ∃ D3, fX4_read sh_L (sh_E kp) fu 91 (nI k) (nI R) D = some (nI ls.length, D3) ∧ D3 91 1 = nI 0 ∧ D3 91 2 = nI 0 ∧ D3 91 3 = mi1 ∧ P j ls D3 ∧ ls.length ≤ 16 ∧ (∀ q j, ¬ tX 4 q j → D3 q j = D q j) ∧ ∀ q j, 110 ≤ q → D3 q j = D q j) := by
  obtain ⟨t, D1, a1, a2, a3, a4, a5, a6, a7, a8⟩ := c_pre (kp := kp) (fu := fu) (R := R) hfu h255 hT hn h1 (nI k)
  have hcl : fX4_clearDraft sh_L (sh_E kp) fu 91 D1 = some (nI 0, ev_up (ev_up (ev_up (ev_up (ev_up D1 93 0 (nI 0)) 93 1 (nI 0)) 100 0 (nI 0)) 102 0 (nI 0)) 104 0 (nI 0)) := by
    unfold fX4_clearDraft fX1_clear fX6_empty
    rw [e_91_0, e_92_0, e_92_1, e_92_2, e_92_3, i_0, bdS, bdS, bdS, bdS]
  have f2 : ∀ q j, ¬ (q = 93 ∧ (j = 0 ∨ j = 1)) → ¬ ((q = 100 ∨ q = 102 ∨ q = 104) ∧ j = 0) → ev_up (ev_up (ev_up (ev_up (ev_up D1 93 0 (nI 0)) 93 1 (nI 0)) 100 0 (nI 0)) 102 0 (nI 0)) 104 0 (nI 0) q j = D1 q j := fun q j h2 h3 => by
    rw [upA, if_neg (by omega), upA, if_neg (by omega), upA, if_neg (by omega), upA, if_neg (by omega), upA, if_neg (by omega)]
  have z1 : ev_up (ev_up (ev_up (ev_up (ev_up D1 93 0 (nI 0)) 93 1 (nI 0)) 100 0 (nI 0)) 102 0 (nI 0)) 104 0 (nI 0) 93 0 = nI 0 := by simp (disch := omega) only [upA, neF, eqTn, true_and, false_and, and_false, and_true, and_self, reduceIte]
  have z2 : ev_up (ev_up (ev_up (ev_up (ev_up D1 93 0 (nI 0)) 93 1 (nI 0)) 100 0 (nI 0)) 102 0 (nI 0)) 104 0 (nI 0) 93 1 = nI 0 := by simp (disch := omega) only [upA, neF, eqTn, true_and, false_and, and_false, and_true, and_self, reduceIte]
  have z3 : ev_up (ev_up (ev_up (ev_up (ev_up D1 93 0 (nI 0)) 93 1 (nI 0)) 100 0 (nI 0)) 102 0 (nI 0)) 104 0 (nI 0) 100 0 = nI 0 := by simp (disch := omega) only [upA, neF, eqTn, true_and, false_and, and_false, and_true, and_self, reduceIte]
  have z4 : ev_up (ev_up (ev_up (ev_up (ev_up D1 93 0 (nI 0)) 93 1 (nI 0)) 100 0 (nI 0)) 102 0 (nI 0)) 104 0 (nI 0) 102 0 = nI 0 := by simp (disch := omega) only [upA, neF, eqTn, true_and, false_and, and_false, and_true, and_self, reduceIte]
  have z5 : ev_up (ev_up (ev_up (ev_up (ev_up D1 93 0 (nI 0)) 93 1 (nI 0)) 100 0 (nI 0)) 102 0 (nI 0)) 104 0 (nI 0) 104 0 = nI 0 := upS _ _ _ _
  generalize ev_up (ev_up (ev_up (ev_up (ev_up D1 93 0 (nI 0)) 93 1 (nI 0)) 100 0 (nI 0)) 102 0 (nI 0)) 104 0 (nI 0) = D2 at hcl f2 z1 z2 z3 z4 z5
  have g2 : tkC T n t D2 := tkC_of (fun q j z => f2 q j (by omega) (by omega)) a2
  have hP2 : P 0 [] D2 := hP0 D2 z1 z2 z3 z4 z5 (by rw [f2 _ _ (by omega) (by omega)]; exact a7) (by rw [f2 _ _ (by omega) (by omega), a8 _ _ (by omega) (by omega)]) (by rw [f2 _ _ (by omega) (by omega), a8 _ _ (by omega) (by omega)]) (by rw [f2 _ _ (by omega) (by omega), a8 _ _ (by omega) (by omega)])
  have hL := c_lns (kp := kp) (fu := fu) (t := t) (T := T) (n := n) hfu h255 hk (hb t) hrd (hone t) hP 17 0 [] fu D2 (Nat.zero_le _) (show 16 < 0 + 17 by decide) (show 16 < 0 + fu by omega) (Nat.zero_le _) g2 (by rw [f2 _ _ (by omega) (by omega)]; exact a6) hP2
  have hr : fX4_read sh_L (sh_E kp) fu 91 (nI k) (nI R) D = fX4_read_41 sh_L (sh_E kp) fu fu 91 (nI k) (nI 0) D2 := by
    rw [a1, e_within _ _ _ _ (Nat.zero_le _) hk (by decide), bdS, if_neg (show ¬ nI 1 = nI 0 by decide), hcl, bdS]
  have ft : ∀ (e : Bool) (D3 : ev_D), fd e D3 D2 → ∀ q j, ¬ tX 4 q j → D3 q j = D q j := fun e D3 h q j hx => by
    rw [h q j (nfd (fun z => hx (tX1 ⟨z.1, by omega⟩))) (fun z => hx (tX2 z)), f2 q j (fun z => hx (tX2 (by omega))) (fun z => hx (tX2 (by omega))), a8 q j (fun z => hx (tX3 z)) (fun z => hx (tX1 z))]
  have gt2 : ∀ (e : Bool) (D3 : ev_D), fd e D3 D2 → ∀ q j, 110 ≤ q → D3 q j = D q j := fun e D3 h q j hx => by
    rw [h q j (nfd (by omega)) (by omega), f2 q j (by omega) (by omega), a8 q j (by omega) (by omega)]
  cases e : lns (Kq T n) bg one 17 0 [] with
  | inl x =>
    rw [e] at hL
    obtain ⟨D3, b1, b2, b3⟩ := hL
    exact ⟨D3, by rw [hr]; exact b1, by rw [b3 91 1 (nfd (by omega)) (by omega), f2 _ _ (by omega) (by omega)]; exact a3, b2.1, b2.2, ft _ D3 b3, gt2 _ D3 b3⟩
  | inr x =>
    obtain ⟨j, ls⟩ := x
    rw [e] at hL
    obtain ⟨D3, b1, b2, b3, b4⟩ := hL
    have nz : ∀ q, q = 2 ∨ q = 3 → D3 91 q = D1 91 q := fun q hq => by
      rw [b4 91 q (fun z => by
        rcases z.2 with w | w | w
        · omega
        · omega
        · exact absurd w.1 (by decide)) (by omega), f2 _ _ (by omega) (by omega)]
    exact ⟨D3, by rw [hr]; exact b1, by rw [b4 91 1 (nfd (by omega)) (by omega), f2 _ _ (by omega) (by omega)]; exact a3, by rw [nz 2 (by omega)]; exact a4, by rw [nz 3 (by omega)]; exact a5, b2, b3, ft _ D3 b4, gt2 _ D3 b4⟩
/-! the reference -/
theorem m_readN {x : Int32} {m : ev_D} (hx : x < nI 0 ∨ nI 3 < x) : ∃ m', fX12_text sh_L (sh_E kp) fu 132 x m = some (mi1, m') ∧ m' 132 13 = nI 0 ∧ m' 132 33 = nI 0 ∧ m' 132 34 = mi1 ∧ (∀ q j, q ≠ 132 → m' q j = m q j) ∧ ∀ q j, ¬ tX 4 q j → m' q j = m q j := by
  refine ⟨ev_up (ev_up (ev_up (ev_up (ev_up (ev_up (ev_up m 132 0 (nI 0)) 132 33 (nI 0)) 132 34 mi1) 132 14 (nI 0)) 132 27 (nI 0)) 132 28 (nI 0)) 132 13 (nI 0), ?_, by simp (disch := omega) only [upA, neF, eqTn, true_and, false_and, and_false, and_true, and_self, reduceIte], by simp (disch := omega) only [upA, neF, eqTn, true_and, false_and, and_false, and_true, and_self, reduceIte], by simp (disch := omega) only [upA, neF, eqTn, true_and, false_and, and_false, and_true, and_self, reduceIte], fun q j h => ?_, fun q j h => ?_⟩
  · unfold fX12_text fX12_text_69
    rw [i_0, mm1, i_3, e_isInM0 _ _ _ _ _ hx, bdS, if_pos rfl, if_pos rfl]
  · rw [upN _ _ _ _ h, upN _ _ _ _ h, upN _ _ _ _ h, upN _ _ _ _ h, upN _ _ _ _ h, upN _ _ _ _ h, upN _ _ _ _ h]
  · have hj : ¬ (q = 132 ∧ (j = 13 ∨ j = 28 ∨ j = 27 ∨ j = 14 ∨ j = 34 ∨ j = 33 ∨ j = 0)) := fun z => h (tXF ⟨z.1, by omega⟩)
    rw [upA, if_neg (by omega), upA, if_neg (by omega), upA, if_neg (by omega), upA, if_neg (by omega), upA, if_neg (by omega), upA, if_neg (by omega), upA, if_neg (by omega)]
def mO {α : Type} (kp fu : Nat) (T : Nat → Nat) (n k : Nat) (m : ev_D) (P : List α → ev_D → Prop) (r : tR (List α)) : Prop := match r with
      | .inl (f, i') => ∃ m', fX12_text sh_L (sh_E kp) fu 132 (nI k) m = some (mi1, m') ∧ m' 132 13 = nI 0 ∧ m' 132 33 = nI f ∧ m' 132 34 = nI (Pq T n i') ∧ (∀ q j, q < 132 → m' q j = m q j) ∧ ∀ q j, ¬ tX 4 q j → m' q j = m q j
      | .inr (_, ls) => ls.length ≤ 16 → ∃ m7, fX12_text sh_L (sh_E kp) fu 132 (nI k) m = fX12_text_69 sh_L (sh_E kp) fu 132 (nI k) (nI ls.length) m7 ∧ m7 132 33 = nI 0 ∧ m7 132 34 = mi1 ∧ m7 132 26 = nI 0 ∧ P ls m7 ∧ (∀ q j, q < 132 → m7 q j = m q j) ∧ ∀ q j, ¬ tX 4 q j → m7 q j = m q j
theorem m_read {α : Type} (hfu : 30000 ≤ fu) (h255 : ∀ i, T i ≤ 255) (hn : n ≤ 400) {t : Nat} (gt : tT T n t) (hk : k ≤ 3) {m : ev_D} (hM : mT T n m) {rd : ev_D → ev_Op} {P : List α → ev_D → Prop} {r : tR (List α)}
    (hrd : ∀ (D : ev_D), (if nI k = nI 1 then ev_bd (fX12_readRopes sh_L (sh_E kp) fu 132 D) (fun v8 D8 => some (v8, D8)) else if nI k = nI 2 then ev_bd (fX12_readDays sh_L (sh_E kp) fu 132 D) (fun v7 D7 => some (v7, D7)) else if nI k = nI 3 then ev_bd (fX12_readChanges sh_L (sh_E kp) fu 132 D) (fun v6 D6 => some (v6, D6)) else ev_bd (fX12_readLaw sh_L (sh_E kp) fu 132 D) (fun v5 D5 => some (v5, D5))) = ev_bd (rd D) (fun v D => some (v, D)))
    (hl : ∀ m1, RS T n 0 m1 → mT T n m1 → m1 132 27 = nI 0 → m1 132 28 = nI 0 → m1 132 7 = m 132 7 → oL T n m1 P (fun ls => nI ls.length) r (rd m1)) : mO kp fu T n k m P r := by
  have f0 : ∀ q j, ¬ (q = 132 ∧ (j = 0 ∨ j = 33 ∨ j = 34 ∨ j = 14 ∨ j = 27 ∨ j = 28 ∨ j = 26)) → ev_up (ev_up (ev_up (ev_up (ev_up (ev_up (ev_up m 132 0 (nI 0)) 132 33 (nI 0)) 132 34 mi1) 132 14 (nI 0)) 132 27 (nI 0)) 132 28 (nI 0)) 132 26 (nI 0) q j = m q j := fun q j hj => by
    rw [upA, if_neg (by omega), upA, if_neg (by omega), upA, if_neg (by omega), upA, if_neg (by omega), upA, if_neg (by omega), upA, if_neg (by omega), upA, if_neg (by omega)]
  have z14 : ev_up (ev_up (ev_up (ev_up (ev_up (ev_up (ev_up m 132 0 (nI 0)) 132 33 (nI 0)) 132 34 mi1) 132 14 (nI 0)) 132 27 (nI 0)) 132 28 (nI 0)) 132 26 (nI 0) 132 14 = nI 0 := by simp (disch := omega) only [upA, neF, eqTn, true_and, false_and, and_false, and_true, and_self, reduceIte]
  have z27 : ev_up (ev_up (ev_up (ev_up (ev_up (ev_up (ev_up m 132 0 (nI 0)) 132 33 (nI 0)) 132 34 mi1) 132 14 (nI 0)) 132 27 (nI 0)) 132 28 (nI 0)) 132 26 (nI 0) 132 27 = nI 0 := by simp (disch := omega) only [upA, neF, eqTn, true_and, false_and, and_false, and_true, and_self, reduceIte]
  have z28 : ev_up (ev_up (ev_up (ev_up (ev_up (ev_up (ev_up m 132 0 (nI 0)) 132 33 (nI 0)) 132 34 mi1) 132 14 (nI 0)) 132 27 (nI 0)) 132 28 (nI 0)) 132 26 (nI 0) 132 28 = nI 0 := by simp (disch := omega) only [upA, neF, eqTn, true_and, false_and, and_false, and_true, and_self, reduceIte]
  have z33 : ev_up (ev_up (ev_up (ev_up (ev_up (ev_up (ev_up m 132 0 (nI 0)) 132 33 (nI 0)) 132 34 mi1) 132 14 (nI 0)) 132 27 (nI 0)) 132 28 (nI 0)) 132 26 (nI 0) 132 33 = nI 0 := by simp (disch := omega) only [upA, neF, eqTn, true_and, false_and, and_false, and_true, and_self, reduceIte]
  have z34 : ev_up (ev_up (ev_up (ev_up (ev_up (ev_up (ev_up m 132 0 (nI 0)) 132 33 (nI 0)) 132 34 mi1) 132 14 (nI 0)) 132 27 (nI 0)) 132 28 (nI 0)) 132 26 (nI 0) 132 34 = mi1 := by simp (disch := omega) only [upA, neF, eqTn, true_and, false_and, and_false, and_true, and_self, reduceIte]
  have z26 : ev_up (ev_up (ev_up (ev_up (ev_up (ev_up (ev_up m 132 0 (nI 0)) 132 33 (nI 0)) 132 34 mi1) 132 14 (nI 0)) 132 27 (nI 0)) 132 28 (nI 0)) 132 26 (nI 0) 132 26 = nI 0 := upS _ _ _ _
  have ht : fX12_text sh_L (sh_E kp) fu 132 (nI k) m = ev_bd (fX12_readsText sh_L (sh_E kp) fu 132 (nI k) (ev_up (ev_up (ev_up (ev_up (ev_up (ev_up m 132 0 (nI 0)) 132 33 (nI 0)) 132 34 mi1) 132 14 (nI 0)) 132 27 (nI 0)) 132 28 (nI 0))) (fun v7 D7 => if v7 = mi1 then fX12_text_69 sh_L (sh_E kp) fu 132 (nI k) v7 (ev_up (ev_up D7 132 33 (D7 132 31)) 132 34 ((ev_up D7 132 33 (D7 132 31)) 132 32)) else fX12_text_69 sh_L (sh_E kp) fu 132 (nI k) v7 D7) := by
    unfold fX12_text
    rw [i_0, mm1, i_3, e_isInM _ _ _ _ _ (Nat.zero_le _) hk (by decide), bdS, if_neg (show ¬ nI 1 = nI 0 by decide)]
  unfold mO
  rw [ht]
  unfold fX12_readsText
  rw [i_0, i_1, i_2, i_3]
  generalize ev_up (ev_up (ev_up (ev_up (ev_up (ev_up (ev_up m 132 0 (nI 0)) 132 33 (nI 0)) 132 34 mi1) 132 14 (nI 0)) 132 27 (nI 0)) 132 28 (nI 0)) 132 26 (nI 0) = m0 at f0 z14 z27 z28 z33 z34 z26 ⊢
  have M0 : mT T n m0 := ⟨by rw [f0 _ _ (by omega)]; exact hM.1, fun i hi => by rw [f0 _ _ (by omega)]; exact hM.2.1 i hi, fun i hi => by rw [f0 _ _ (by omega)]; exact hM.2.2 i hi⟩
  obtain ⟨m1, a1, a2, a3⟩ := m_rdAt (kp := kp) (p := 0) (i := 0) hfu h255 hn (Nat.zero_le _) M0 z14 rfl
  have hL := hl m1 a2 (mT_ex a3 rfl M0) (by rw [ex_f a3 (by decide)]; exact z27) (by rw [ex_f a3 (by decide)]; exact z28) (by rw [ex_f a3 (by decide), f0 _ _ (by omega)])
  have F : ∀ m7, fg m7 m1 → ∀ q j, ¬ lX q j → ¬ (q = 132 ∧ (j = 0 ∨ j = 33 ∨ j = 34 ∨ j = 14 ∨ j = 15 ∨ j = 16 ∨ j = 17 ∨ j = 27 ∨ j = 28 ∨ j = 26)) → m7 q j = m q j := fun m7 h q j h1 h2 => by
    rw [h q j h1, fm_ex a3 q j (fun z => h1 (.inl (.inl z))), f0 q j (by omega)]
  have G : ∀ m7, fg m7 m1 → ∀ j, j = 33 ∨ j = 34 ∨ j = 26 → m7 132 j = m0 132 j := fun m7 h j hj => by
    rw [h 132 j (fun z => by rcases z with ((z | z) | z | z) | z | z | z | z <;> omega), fm_ex a3 132 j (nmx (by omega) (by omega))]
  rw [a1, bdS, hrd]
  cases r with
  | inl x =>
    obtain ⟨m7, b1, b2, b3, b4⟩ := hL
    show ∃ m', _
    rw [b1, bdS, bdS, if_pos rfl, b2, upJ _ _ _ _ (show (32 : Nat) ≠ 33 by decide), b3]
    unfold fX12_text_69
    rw [mm1, if_pos rfl, i_0]
    refine ⟨_, rfl, upS _ _ _ _, by simp (disch := omega) only [upA, neF, eqTn, true_and, false_and, and_false, and_true, and_self, reduceIte], by simp (disch := omega) only [upA, neF, eqTn, true_and, false_and, and_false, and_true, and_self, reduceIte], fun q j hq => ?_, fun q j hq => ?_⟩
    · rw [upN _ _ _ _ (by omega), upN _ _ _ _ (by omega), upN _ _ _ _ (by omega)]
      exact F m7 b4 q j (lX_132 hq) (by omega)
    · rw [upA, if_neg (fun z => hq (tXF ⟨z.1, by omega⟩)), upA, if_neg (fun z => hq (tXF ⟨z.1, by omega⟩)), upA, if_neg (fun z => hq (tXF ⟨z.1, by omega⟩))]
      exact F m7 b4 q j (fun z => hq (lX_t z)) (fun z => hq (tXF ⟨z.1, by omega⟩))
  | inr x =>
    obtain ⟨j, ls⟩ := x
    intro h16
    obtain ⟨m7, b1, b2, b3⟩ := hL
    rw [b1, bdS, bdS, if_neg (m1N (by show ls.length < 2 ^ 31; omega))]
    exact ⟨m7, rfl, by rw [G m7 b3 33 (by omega)]; exact z33, by rw [G m7 b3 34 (by omega)]; exact z34, by rw [G m7 b3 26 (by omega)]; exact z26, b2, fun q j hq => F m7 b3 q j (lX_132 hq) (by omega), fun q j hq => F m7 b3 q j (fun z => hq (lX_t z)) (fun z => hq (tXF ⟨z.1, by omega⟩))⟩
end Rd
