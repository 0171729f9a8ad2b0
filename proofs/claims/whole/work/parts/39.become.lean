/-! ===== a tower becomes another one ===== -/
theorem va_upA (D : ev_D) (q : Nat) (g : Nat → Int32) (k i : Nat) : va_up D q g k i = if k = q then g i else D k i := by
  by_cases h : k = q
  · subst h; rw [va_up_self, if_pos rfl]
  · rw [va_up_ne _ _ h, if_neg h]
theorem cpA (D : ev_D) (q1 q2 n k i : Nat) : ev_cpD D q1 q2 0 0 n k i = if k = q2 ∧ i < n then D q1 i else D k i := by
  rw [ev_cpD, va_upA]
  by_cases h : k = q2
  · subst h
    rw [if_pos rfl]
    by_cases h2 : i < n
    · rw [pk_cpy_in (Nat.zero_le _) (by omega), if_pos ⟨rfl, h2⟩, Nat.zero_add, Nat.sub_zero]
    · rw [pk_cpy_out (by omega), if_neg (by omega)]
  · rw [if_neg h, if_neg fun z => h z.1]
theorem e_copy {L : Nat → Nat} {E : Nat → Nat → Nat} {fu q1 q2 n : Nat} (D : ev_D) (h1 : L q1 = n) (h2 : L q2 = n) (hq : q1 ≠ q2) (hn : n < 2 ^ 30) : fX11_copy L E fu q1 q2 D = some (nI 0, ev_cpD D q1 q2 0 0 n) := by
  rw [fX11_copy, h1, h2, ofN, e_min _ _ _ _ (by omega) (by omega), bdS, Nat.min_self, i_0, nI_clamp (by decide), nI_clamp (by omega)]
  refine gdT ?_
  simp only [ev_cpg, nI_clamp (show n < 2 ^ 31 by omega), nI_clamp (show 0 < 2 ^ 31 by decide), Bool.and_eq_true, Bool.not_eq_true', decide_eq_false_iff_not, decide_eq_true_eq]
  exact ⟨nI_pos (by decide), nI_pos (by decide), nI_pos (by omega), by omega, by omega, hq⟩
/-- the cells of a tower at b -/
def twE (kp b : Nat) : Prop := (∀ j, j < 7 → sh_E kp b (7 + j) = b + 1 + j) ∧ ∀ j, j < 8 → 1 ≤ j → sh_L (b + j) = rgT j
def twL (b : Nat) : List Nat := [b, b + 1, b + 2, b + 3, b + 4, b + 5, b + 6, b + 7]
theorem twL_in {b k : Nat} : mem (twL b) k = true ↔ b ≤ k ∧ k < b + 8 := by
  rw [mem_iff, twL]
  simp only [List.mem_cons, List.not_mem_nil, or_false]
  omega
theorem e_become {kp fu b s : Nat} (hb : twE kp b) (hs : twE kp s) (hd : b + 8 ≤ s ∨ s + 8 ≤ b) (D : ev_D) : ∃ D', fX9_become sh_L (sh_E kp) fu b s D = some (nI 0, D') ∧ (∀ j, j < 8 → ∀ i, i < rgT j → D' (b + j) i = D (s + j) i) ∧ (∀ k i, ¬ (b ≤ k ∧ k < b + 8) → D' k i = D k i) ∧ ∀ i, 7 ≤ i → D' b i = D b i := by
  have b0 := hb.1 0 (by decide)
  have b1 := hb.1 1 (by decide)
  have b2 := hb.1 2 (by decide)
  have b3 := hb.1 3 (by decide)
  have b4 := hb.1 4 (by decide)
  have b5 := hb.1 5 (by decide)
  have b6 := hb.1 6 (by decide)
  have s0 := hs.1 0 (by decide)
  have s1 := hs.1 1 (by decide)
  have s2 := hs.1 2 (by decide)
  have s3 := hs.1 3 (by decide)
  have s4 := hs.1 4 (by decide)
  have s5 := hs.1 5 (by decide)
  have s6 := hs.1 6 (by decide)
  simp only [Nat.add_zero, Nat.reduceAdd, Nat.add_assoc] at b0 b1 b2 b3 b4 b5 b6 s0 s1 s2 s3 s4 s5 s6
  have lb : ∀ j, j < 8 → 1 ≤ j → ∀ n, rgT j = n → sh_L (b + j) = n := fun j h1 h2 n e => (hb.2 j h1 h2).trans e
  have ls : ∀ j, j < 8 → 1 ≤ j → ∀ n, rgT j = n → sh_L (s + j) = n := fun j h1 h2 n e => (hs.2 j h1 h2).trans e
  have hsb : s ≠ b := by omega
  rw [fX9_become, fX9_become_32]
  simp only [upN _ _ _ _ hsb]
  have f1 : ∀ i, i < 7 → (ev_up (ev_up (ev_up (ev_up (ev_up (ev_up (ev_up D b 0 (D s 0)) b 1 (D s 1)) b 2 (D s 2)) b 3 (D s 3)) b 4 (D s 4)) b 5 (D s 5)) b 6 (D s 6)) b i = D s i := by
    intro i hi
    have hc : i = 0 ∨ i = 1 ∨ i = 2 ∨ i = 3 ∨ i = 4 ∨ i = 5 ∨ i = 6 := by omega
    rcases hc with rfl | rfl | rfl | rfl | rfl | rfl | rfl <;> simp only [upA, true_and, and_true, reduceIte, Nat.reduceEqDiff]
  have f2 : ∀ k i, k ≠ b → (ev_up (ev_up (ev_up (ev_up (ev_up (ev_up (ev_up D b 0 (D s 0)) b 1 (D s 1)) b 2 (D s 2)) b 3 (D s 3)) b 4 (D s 4)) b 5 (D s 5)) b 6 (D s 6)) k i = D k i := fun k i hk => by
    rw [upN _ _ _ _ hk, upN _ _ _ _ hk, upN _ _ _ _ hk, upN _ _ _ _ hk, upN _ _ _ _ hk, upN _ _ _ _ hk, upN _ _ _ _ hk]
  have f3 : ∀ i, 7 ≤ i → (ev_up (ev_up (ev_up (ev_up (ev_up (ev_up (ev_up D b 0 (D s 0)) b 1 (D s 1)) b 2 (D s 2)) b 3 (D s 3)) b 4 (D s 4)) b 5 (D s 5)) b 6 (D s 6)) b i = D b i := fun i hi => by
    rw [upJ _ _ _ _ (by omega), upJ _ _ _ _ (by omega), upJ _ _ _ _ (by omega), upJ _ _ _ _ (by omega), upJ _ _ _ _ (by omega), upJ _ _ _ _ (by omega), upJ _ _ _ _ (by omega)]
  generalize ev_up (ev_up (ev_up (ev_up (ev_up (ev_up (ev_up D b 0 (D s 0)) b 1 (D s 1)) b 2 (D s 2)) b 3 (D s 3)) b 4 (D s 4)) b 5 (D s 5)) b 6 (D s 6) = F at f1 f2 f3 ⊢
  rw [s0, b0, e_copy _ (ls 1 (by decide) (by decide) 8 rfl) (lb 1 (by decide) (by decide) 8 rfl) (by omega) (by decide), bdS, s1, b1, e_copy _ (ls 2 (by decide) (by decide) 8 rfl) (lb 2 (by decide) (by decide) 8 rfl) (by omega) (by decide), bdS, s2, b2, e_copy _ (ls 3 (by decide) (by decide) 10 rfl) (lb 3 (by decide) (by decide) 10 rfl) (by omega) (by decide), bdS, s3, b3, e_copy _ (ls 4 (by decide) (by decide) 10 rfl) (lb 4 (by decide) (by decide) 10 rfl) (by omega) (by decide), bdS, s4, b4, e_copy _ (ls 5 (by decide) (by decide) 10 rfl) (lb 5 (by decide) (by decide) 10 rfl) (by omega) (by decide), bdS, s5, b5, e_copy _ (ls 6 (by decide) (by decide) 10 rfl) (lb 6 (by decide) (by decide) 10 rfl) (by omega) (by decide), bdS, s6, b6, e_copy _ (ls 7 (by decide) (by decide) 10 rfl) (lb 7 (by decide) (by decide) 10 rfl) (by omega) (by decide), bdS, i_0]
  have cn : ∀ (D : ev_D) (q1 q2 n k i : Nat), k ≠ q2 → ev_cpD D q1 q2 0 0 n k i = D k i := fun D q1 q2 n k i h => by rw [cpA, if_neg fun z => h z.1]
  have ci : ∀ (D : ev_D) (q1 q2 n i : Nat), i < n → ev_cpD D q1 q2 0 0 n q2 i = D q1 i := fun D q1 q2 n i h => by rw [cpA, if_pos ⟨rfl, h⟩]
  refine ⟨_, rfl, fun j hj i hi => ?_, fun k i hk => ?_, fun i hi => ?_⟩
  · match j, hj with
    | 0, _ =>
      have hi7 : i < 7 := hi
      rw [Nat.add_zero, Nat.add_zero, cn _ _ _ _ _ _ (by omega), cn _ _ _ _ _ _ (by omega), cn _ _ _ _ _ _ (by omega), cn _ _ _ _ _ _ (by omega), cn _ _ _ _ _ _ (by omega), cn _ _ _ _ _ _ (by omega), cn _ _ _ _ _ _ (by omega)]
      exact f1 i hi7
    | 1, _ =>
      have hi7 : i < 8 := hi
      rw [cn _ _ _ _ _ _ (by omega), cn _ _ _ _ _ _ (by omega), cn _ _ _ _ _ _ (by omega), cn _ _ _ _ _ _ (by omega), cn _ _ _ _ _ _ (by omega), cn _ _ _ _ _ _ (by omega), ci _ _ _ _ _ hi7]
      exact f2 _ _ (by omega)
    | 2, _ =>
      have hi7 : i < 8 := hi
      rw [cn _ _ _ _ _ _ (by omega), cn _ _ _ _ _ _ (by omega), cn _ _ _ _ _ _ (by omega), cn _ _ _ _ _ _ (by omega), cn _ _ _ _ _ _ (by omega), ci _ _ _ _ _ hi7, cn _ _ _ _ _ _ (by omega)]
      exact f2 _ _ (by omega)
    | 3, _ =>
      have hi7 : i < 10 := hi
      rw [cn _ _ _ _ _ _ (by omega), cn _ _ _ _ _ _ (by omega), cn _ _ _ _ _ _ (by omega), cn _ _ _ _ _ _ (by omega), ci _ _ _ _ _ hi7, cn _ _ _ _ _ _ (by omega), cn _ _ _ _ _ _ (by omega)]
      exact f2 _ _ (by omega)
    | 4, _ =>
      have hi7 : i < 10 := hi
      rw [cn _ _ _ _ _ _ (by omega), cn _ _ _ _ _ _ (by omega), cn _ _ _ _ _ _ (by omega), ci _ _ _ _ _ hi7, cn _ _ _ _ _ _ (by omega), cn _ _ _ _ _ _ (by omega), cn _ _ _ _ _ _ (by omega)]
      exact f2 _ _ (by omega)
    | 5, _ =>
      have hi7 : i < 10 := hi
      rw [cn _ _ _ _ _ _ (by omega), cn _ _ _ _ _ _ (by omega), ci _ _ _ _ _ hi7, cn _ _ _ _ _ _ (by omega), cn _ _ _ _ _ _ (by omega), cn _ _ _ _ _ _ (by omega), cn _ _ _ _ _ _ (by omega)]
      exact f2 _ _ (by omega)
    | 6, _ =>
      have hi7 : i < 10 := hi
      rw [cn _ _ _ _ _ _ (by omega), ci _ _ _ _ _ hi7, cn _ _ _ _ _ _ (by omega), cn _ _ _ _ _ _ (by omega), cn _ _ _ _ _ _ (by omega), cn _ _ _ _ _ _ (by omega), cn _ _ _ _ _ _ (by omega)]
      exact f2 _ _ (by omega)
    | 7, _ =>
      have hi7 : i < 10 := hi
      rw [ci _ _ _ _ _ hi7, cn _ _ _ _ _ _ (by omega), cn _ _ _ _ _ _ (by omega), cn _ _ _ _ _ _ (by omega), cn _ _ _ _ _ _ (by omega), cn _ _ _ _ _ _ (by omega), cn _ _ _ _ _ _ (by omega)]
      exact f2 _ _ (by omega)
  · rw [cn _ _ _ _ _ _ (by omega), cn _ _ _ _ _ _ (by omega), cn _ _ _ _ _ _ (by omega), cn _ _ _ _ _ _ (by omega), cn _ _ _ _ _ _ (by omega), cn _ _ _ _ _ _ (by omega), cn _ _ _ _ _ _ (by omega)]
    exact f2 _ _ (by omega)
  · rw [cn _ _ _ _ _ _ (by omega), cn _ _ _ _ _ _ (by omega), cn _ _ _ _ _ _ (by omega), cn _ _ _ _ _ _ (by omega), cn _ _ _ _ _ _ (by omega), cn _ _ _ _ _ _ (by omega), cn _ _ _ _ _ _ (by omega)]
    exact f3 i hi
theorem twE_3 (kp : Nat) : twE kp 3 := ⟨fun j hj => by
  match j, hj with
  | 0, _ => rfl
  | 1, _ => rfl
  | 2, _ => rfl
  | 3, _ => rfl
  | 4, _ => rfl
  | 5, _ => rfl
  | 6, _ => rfl, by decide⟩
theorem twE_113 (kp : Nat) : twE kp 113 := ⟨fun j hj => by
  match j, hj with
  | 0, _ => rfl
  | 1, _ => rfl
  | 2, _ => rfl
  | 3, _ => rfl
  | 4, _ => rfl
  | 5, _ => rfl
  | 6, _ => rfl, by decide⟩
theorem twE_172 (kp : Nat) : twE kp 172 := ⟨fun j hj => by
  match j, hj with
  | 0, _ => rfl
  | 1, _ => rfl
  | 2, _ => rfl
  | 3, _ => rfl
  | 4, _ => rfl
  | 5, _ => rfl
  | 6, _ => rfl, by decide⟩
theorem sh_E1 (kp : Nat) {k i : Nat} (h : k ≠ 1) : sh_E kp k i = sh_E 0 k i := by
  unfold sh_E
  rw [if_neg fun z => h z.1, if_neg fun z => h z.1]
theorem tw43 : ∀ x, x < 6 → ∀ j, j < 7 → sh_E 0 (43 + 8 * x) (7 + j) = 43 + 8 * x + 1 + j := by decide
theorem tw43L : ∀ x, x < 6 → ∀ j, j < 8 → 1 ≤ j → sh_L (43 + 8 * x + j) = rgT j := by decide
theorem twE_43 (kp : Nat) {x : Nat} (h : x < 6) : twE kp (43 + 8 * x) := ⟨fun j hj => by rw [sh_E1 _ (by omega)]; exact tw43 x h j hj, tw43L x h⟩
theorem e41 (kp : Nat) {x : Nat} (h : x < 6) : sh_E kp 41 x = 43 + 8 * x := by
  match x, h with
  | 0, _ => rfl
  | 1, _ => rfl
  | 2, _ => rfl
  | 3, _ => rfl
  | 4, _ => rfl
  | 5, _ => rfl
