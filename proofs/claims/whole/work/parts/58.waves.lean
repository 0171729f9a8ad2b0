/-! ===== waves ===== -/
def smF (p : Nat → Bool) (v : Nat → Nat) (n : Nat) : Nat := up (fun i a => if p i then a + v i else a) 0 n 0
theorem smF_s (p : Nat → Bool) (v : Nat → Nat) (n : Nat) : smF p v (n + 1) = if p n then smF p v n + v n else smF p v n := by rw [smF, up_l, Nat.zero_add]; rfl
theorem smF_mono {p q : Nat → Bool} (v : Nat → Nat) (n : Nat) (h : ∀ i, i < n → p i = true → q i = true) : smF p v n ≤ smF q v n := by
  induction n with
  | zero => exact Nat.le_refl _
  | succ n ih =>
    have := ih fun i hi => h i (by omega)
    rw [smF_s, smF_s]
    cases hp : p n
    · rw [if_neg (by decide)]
      split <;> omega
    · rw [if_pos rfl, if_pos (h n (by omega) hp)]
      omega
theorem smF_le {p : Nat → Bool} {v : Nat → Nat} {W : Nat} (n : Nat) (h : ∀ i, i < n → p i = true → v i ≤ W) : smF p v n ≤ cnt p n * W := by
  induction n with
  | zero => exact Nat.zero_le _
  | succ n ih =>
    have := ih fun i hi => h i (by omega)
    rw [smF_s, cnt_s]
    cases hp : p n
    · rw [if_neg (by decide), if_neg (by decide)]; exact this
    · have h1 := h n (by omega) hp
      rw [if_pos rfl, if_pos rfl, Nat.add_mul, Nat.one_mul]
      omega
theorem smF_in {p : Nat → Bool} {v : Nat → Nat} (n : Nat) {j : Nat} (hj : j < n) (hp : p j = true) : v j ≤ smF p v n := by
  induction n with
  | zero => omega
  | succ n ih =>
    rw [smF_s]
    by_cases e : j = n
    · subst e
      rw [if_pos hp]; omega
    · have := ih (by omega)
      split <;> omega
theorem smF_0 {p : Nat → Bool} {v : Nat → Nat} (n : Nat) (h : ∀ i, i < n → p i = false) : smF p v n = 0 := by
  induction n with
  | zero => rfl
  | succ n ih => rw [smF_s, h n (by omega), if_neg (by decide)]; exact ih fun i hi => h i (by omega)
theorem smF_cg {p : Nat → Bool} {v w : Nat → Nat} (n : Nat) (h : ∀ i, i < n → p i = true → v i = w i) : smF p v n = smF p w n := by
  induction n with
  | zero => rfl
  | succ n ih =>
    rw [smF_s, smF_s, ih fun i hi => h i (by omega)]
    cases hp : p n
    · rw [if_neg (by decide), if_neg (by decide)]
    · rw [if_pos rfl, if_pos rfl, h n (by omega) hp]
def tb (s : Nat) : Nat → Bool := fun i => s.testBit i
theorem cnt_shift (p : Nat → Bool) (n : Nat) : cnt p (n + 1) = (if p 0 then 1 else 0) + cnt (fun i => p (i + 1)) n := by
  induction n with
  | zero => rw [cnt_s]; show (if p 0 then 0 + 1 else 0) = (if p 0 then 1 else 0) + 0; split <;> rfl
  | succ n ih =>
    rw [cnt_s, ih, cnt_s]
    by_cases hp : p (n + 1) = true
    · rw [if_pos hp, if_pos hp]; omega
    · rw [if_neg hp, if_neg hp]
theorem pc_cnt (f : Nat) : ∀ n, pc f n = cnt (tb n) f := by
  induction f with
  | zero => intro n; rfl
  | succ f ih =>
    intro n
    rw [pc, ih, cnt_shift]
    have h2 : n % 2 = if n.testBit 0 then 1 else 0 := by simpa using bit_v n 0
    rw [h2]
    congr 1
    exact cnt_cg f fun i _ => by unfold tb; rw [Nat.testBit_div_two]
theorem cnt_or {a b : Nat} (n : Nat) (h : ∀ i, i < n → (a.testBit i && b.testBit i) = false) : cnt (tb (a ||| b)) n = cnt (tb a) n + cnt (tb b) n := by
  induction n with
  | zero => rfl
  | succ n ih =>
    have hn := h n (by omega)
    rw [cnt_s, cnt_s, cnt_s, ih fun i hi => h i (by omega)]
    unfold tb
    rw [Nat.testBit_or]
    cases ha : a.testBit n <;> cases hb : b.testBit n
    · simp
    · simp; omega
    · simp; omega
    · rw [ha, hb] at hn; cases hn
theorem cnt_pos {p : Nat → Bool} (n : Nat) {j : Nat} (hj : j < n) (h : p j = true) : 1 ≤ cnt p n := by
  have := cnt_lt (p := fun _ => false) (q := p) n (fun i _ h => by cases h) hj h rfl
  omega
/-- the step of class and reference, by numbers -/
def wvS (N : Nat → Nat) (fr : Nat) (v : Nat → Nat) (q : Nat) : Nat := smF (fun p => fr.testBit p && (N p).testBit q) v 12
section
variable {kp fu : Nat} {N : Nat → Nat}
theorem e_step15 (hN : ∀ p, p < 12 → N p < 4096) (K : Nat → Int32 → Int32 → Int32 → Int32 → ev_D → ev_Op) {fr s p : Nat} (hfr : fr < 4096) (hs : s < 4096) (hp : p < 12) (hpf : fr.testBit p = true) (hps : s.testBit p = true) (k : Nat) : ∀ (q f nx : Nat) (D : ev_D), q + k = 12 → k < f → (∀ p, p < 12 → D 128 p = nI (N p)) → ∃ D' nx', fX3_stepOn_15 sh_L (sh_E kp) fu K f 124 (nI fr) (nI s) (nI nx) (nI p) (nI q) D = K 124 (nI fr) (nI s) (nI nx') (nI (p + 1)) D' ∧ (∀ j, nx'.testBit j = true ↔ nx.testBit j = true ∨ (q ≤ j ∧ j < 12 ∧ (N p).testBit j = true ∧ s.testBit j = false)) ∧ (∀ j, j < 12 → D' 129 j = if q ≤ j ∧ (N p).testBit j = true ∧ s.testBit j = false then D 129 j + D 129 p else D 129 j) ∧ ex [129] [] D' D := by
  induction k with
  | zero =>
    intro q f nx D h1 h2 hD
    obtain ⟨f, rfl⟩ : ∃ g, f = g + 1 := ⟨f - 1, by omega⟩
    refine ⟨D, nx, ?_, fun j => ⟨.inl, fun h => h.elim id fun z => by omega⟩, fun j hj => by rw [if_neg (by omega)], ex_rf _ _ _⟩
    rw [fX3_stepOn_15, i_12, if_pos (nI_le (by omega) (by omega)), i_1, addK]
  | succ k ih =>
    intro q f nx D h1 h2 hD
    obtain ⟨f, rfl⟩ : ∃ g, f = g + 1 := ⟨f - 1, by omega⟩
    have hl : wo (N p) s < 4096 := wo_lt (m := 12) (hN p hp)
    have e1 : nI (N p) &&& (nI s ^^^ mi1) = nI (wo (N p) s) := by
      rw [← nI_wo]
      congr 1
      apply nI_ext
      rw [Int32.toBitVec_xor, Int32.toBitVec_not]
      show _ ^^^ BitVec.allOnes 32 = _
      rw [BitVec.xor_allOnes]
    have start : fX3_stepOn_15 sh_L (sh_E kp) fu K (f + 1) 124 (nI fr) (nI s) (nI nx) (nI p) (nI q) D = if nI (if (wo (N p) s).testBit q then 1 else 0) = nI 0 then fX3_stepOn_15 sh_L (sh_E kp) fu K f 124 (nI fr) (nI s) (nI nx) (nI p) (nI (q + 1)) D else fX3_stepOn_15 sh_L (sh_E kp) fu K f 124 (nI fr) (nI s) (nI (nx ||| 2 ^ q)) (nI p) (nI (q + 1)) (ev_up D 129 q (D 129 q + D 129 p)) := by
      rw [fX3_stepOn_15, i_12, if_neg (nI_ge (by omega) (by omega)), e_isIn _ _ _ _ (by omega) (by omega), hpf, bdS, i_0, if_neg (by decide), e_124_6, l_128, gdI hp (by omega), nI_clamp (by omega), hD p hp, mm1, e1, e_isIn _ _ _ _ (by omega) (by omega), bdS, i_1, addK, e_124_7, l_129, gdI (by omega) (by omega), gdI (by omega) (by omega), gdI (by omega) (by omega), nI_clamp (by omega), i_31, nI_shl (by omega), nI_or]
    rw [start, wo_bit]
    cases hb : ((N p).testBit q && !(s.testBit q)) with
    | false =>
      obtain ⟨D', nx', r1, r2, r3, r4⟩ := ih (q + 1) f nx D (by omega) (by omega) hD
      refine ⟨D', nx', ?_, fun j => ?_, fun j hj => ?_, r4⟩
      · rw [if_pos bF]; exact r1
      · rw [r2]
        constructor
        · rintro (h | h)
          · exact .inl h
          · exact .inr ⟨by omega, h.2⟩
        · rintro (h | h)
          · exact .inl h
          · refine .inr ⟨?_, h.2⟩
            have : j ≠ q := fun e => by rw [e] at h; rw [h.2.2.1, h.2.2.2] at hb; cases hb
            omega
      · rw [r3 j hj]
        by_cases e : j = q
        · subst e
          rw [if_neg (by omega), if_neg]
          intro h
          rw [h.2.1, h.2.2] at hb; cases hb
        · by_cases h : q + 1 ≤ j ∧ (N p).testBit j = true ∧ s.testBit j = false
          · rw [if_pos h, if_pos ⟨by omega, h.2⟩]
          · rw [if_neg h, if_neg fun z => h ⟨by omega, z.2⟩]
    | true =>
      rw [Bool.and_eq_true, Bool.not_eq_true'] at hb
      have hqp : q ≠ p := fun e => by rw [e, hps] at hb; exact absurd hb.2 (by decide)
      obtain ⟨D', nx', r1, r2, r3, r4⟩ := ih (q + 1) f (nx ||| 2 ^ q) (ev_up D 129 q (D 129 q + D 129 p)) (by omega) (by omega) (fun p hp => by rw [upN _ _ _ _ (by decide)]; exact hD p hp)
      refine ⟨D', nx', ?_, fun j => ?_, fun j hj => ?_, ex_tr (ex_up (ex_rf _ _ _) rfl) r4⟩
      · rw [if_neg (by decide)]; exact r1
      · rw [r2, Nat.testBit_or, pw_bit, Bool.or_eq_true, decide_eq_true_eq]
        constructor
        · rintro ((h | h) | h)
          · exact .inl h
          · subst h; exact .inr ⟨by omega, by omega, hb.1, hb.2⟩
          · exact .inr ⟨by omega, h.2⟩
        · rintro (h | h)
          · exact .inl (.inl h)
          · by_cases e : j = q
            · exact .inl (.inr e)
            · exact .inr ⟨by omega, h.2⟩
      · rw [r3 j hj]
        by_cases e : j = q
        · subst e
          rw [if_neg (fun z => by omega), upS, if_pos ⟨Nat.le_refl _, hb⟩]
        · by_cases h : q + 1 ≤ j ∧ (N p).testBit j = true ∧ s.testBit j = false
          · rw [if_pos h, if_pos ⟨by omega, h.2⟩, upJ _ _ _ _ e, upJ _ _ _ _ (Ne.symm hqp)]
          · rw [if_neg h, if_neg (fun z => h ⟨by omega, z.2⟩), upJ _ _ _ _ e]
theorem e_step5 (hfu : 30000 ≤ fu) (hN : ∀ p, p < 12 → N p < 4096) {fr s : Nat} (hfr : fr < 4096) (hs : s < 4096) (hsub : ∀ j, fr.testBit j = true → s.testBit j = true) {v : Nat → Nat} (k : Nat) : ∀ (p f nx : Nat) (D : ev_D), p + k = 12 → k < f → (∀ p, p < 12 → D 128 p = nI (N p)) → (∀ j, j < 12 → fr.testBit j = true → D 129 j = nI (v j)) → (∀ j, j < 12 → s.testBit j = false → D 129 j = nI (smF (fun p => fr.testBit p && (N p).testBit j) v p)) → ∃ D' nx', fX3_stepOn_5 sh_L (sh_E kp) fu f 124 (nI fr) (nI s) (nI nx) (nI p) D = some (nI nx', D') ∧ (∀ j, nx'.testBit j = true ↔ nx.testBit j = true ∨ (j < 12 ∧ s.testBit j = false ∧ ∃ p', p ≤ p' ∧ p' < 12 ∧ fr.testBit p' = true ∧ (N p').testBit j = true)) ∧ (∀ j, j < 12 → s.testBit j = false → D' 129 j = nI (wvS N fr v j)) ∧ (∀ j, j < 12 → s.testBit j = true → D' 129 j = D 129 j) ∧ ex [129] [] D' D := by
  induction k with
  | zero =>
    intro p f nx D h1 h2 hD hv ha
    obtain ⟨f, rfl⟩ : ∃ g, f = g + 1 := ⟨f - 1, by omega⟩
    have e : p = 12 := by omega
    subst e
    exact ⟨D, nx, by rw [fX3_stepOn_5, i_12, if_pos (nI_le (by omega) (by omega))], fun j => ⟨.inl, fun h => h.elim id fun ⟨_, _, p', q1, q2, _⟩ => by omega⟩, ha, fun _ _ _ => rfl, ex_rf _ _ _⟩
  | succ k ih =>
    intro p f nx D h1 h2 hD hv ha
    obtain ⟨f, rfl⟩ : ∃ g, f = g + 1 := ⟨f - 1, by omega⟩
    cases hpf : fr.testBit p with
    | false =>
      obtain ⟨D', nx', r1, r2, r3, r4⟩ := ih (p + 1) f nx D (by omega) (by omega) hD hv (fun j hj hsj => by rw [ha j hj hsj, smF_s, hpf, Bool.false_and, if_neg (by decide)])
      refine ⟨D', nx', ?_, fun j => ?_, r3, r4⟩
      · obtain ⟨g, rfl⟩ : ∃ g, fu = g + 1 := ⟨fu - 1, by omega⟩
        rw [fX3_stepOn_5, i_12, if_neg (nI_ge (by omega) (by omega)), fX3_stepOn_15, i_12, i_0, if_neg (nI_ge (by omega) (by omega)), e_isIn _ _ _ _ (by omega) (by omega), hpf, bdS, if_pos bF, i_1, addK]
        exact r1
      · rw [r2]
        constructor
        · rintro (h | ⟨h, h0, p', q1, q2⟩)
          · exact .inl h
          · exact .inr ⟨h, h0, p', by omega, q2⟩
        · rintro (h | ⟨h, h0, p', q1, q2, q3, q4⟩)
          · exact .inl h
          · refine .inr ⟨h, h0, p', ?_, q2, q3, q4⟩
            have : p' ≠ p := fun e => by rw [e, hpf] at q3; cases q3
            omega
    | true =>
      have hps := hsub p hpf
      obtain ⟨D1, nx1, r1, r2, r3, r4⟩ := e_step15 (kp := kp) (fu := fu) hN (fX3_stepOn_5 sh_L (sh_E kp) fu f) hfr hs (show p < 12 by omega) hpf hps 12 0 fu nx D rfl (by omega) hD
      obtain ⟨D', nx', s1, s2, s3, s4, s5⟩ := ih (p + 1) f nx1 D1 (by omega) (by omega) (fun q hq => by rw [ex_at r4 rfl]; exact hD q hq) (fun j hj hfj => by
        rw [r3 j hj, if_neg (fun z => by rw [hsub j hfj] at z; exact absurd z.2.2 (by decide))]
        exact hv j hj hfj) (fun j hj hsj => by
        rw [r3 j hj, smF_s, hpf, Bool.true_and]
        cases hb : (N p).testBit j
        · rw [if_neg (fun z => absurd z.2.1 (by decide)), if_neg (by decide)]
          exact ha j hj hsj
        · rw [if_pos ⟨by omega, rfl, hsj⟩, if_pos rfl, ha j hj hsj, hv p (by omega) hpf, addK])
      refine ⟨D', nx', ?_, fun j => ?_, s3, fun j hj hsj => ?_, ex_tr r4 s5⟩
      · rw [fX3_stepOn_5, i_12, if_neg (nI_ge (by omega) (by omega)), i_0, r1]
        exact s1
      · rw [s2, r2]
        constructor
        · rintro ((h | h) | ⟨h, h0, p', q1, q2⟩)
          · exact .inl h
          · exact .inr ⟨h.2.1, h.2.2.2, p, by omega, by omega, hpf, h.2.2.1⟩
          · exact .inr ⟨h, h0, p', by omega, q2⟩
        · rintro (h | ⟨h, h0, p', q1, q2, q3, q4⟩)
          · exact .inl (.inl h)
          · by_cases e : p' = p
            · subst e
              exact .inl (.inr ⟨by omega, h, q4, h0⟩)
            · exact .inr ⟨h, h0, p', by omega, q2, q3, q4⟩
      · rw [s4 j hj hsj, r3 j hj, if_neg (fun z => by rw [hsj] at z; exact absurd z.2.2 (by decide))]
theorem e_looks31 (K : Nat → Int32 → ev_D → ev_Op) (hN : ∀ p, p < 12 → N p < 4096) {p : Nat} (hp : p < 12) (k : Nat) : ∀ (q f : Nat) (D : ev_D), q + k = 12 → k < f → (∀ p, p < 12 → D 163 p = nI (N p)) → ∃ D', fX12_looksOn_31 sh_L (sh_E kp) fu K f 132 (nI p) (nI q) D = K 132 (nI (p + 1)) D' ∧ (∀ j, j < 12 → D' 165 j = if q ≤ j ∧ (N p).testBit j = true then D 165 j + D 164 p else D 165 j) ∧ ex [165] [] D' D := by
  induction k with
  | zero =>
    intro q f D h1 h2 hD
    obtain ⟨f, rfl⟩ : ∃ g, f = g + 1 := ⟨f - 1, by omega⟩
    exact ⟨D, by rw [fX12_looksOn_31, i_12, if_pos (nI_le (by omega) (by omega)), i_1, addK], fun j hj => by rw [if_neg (by omega)], ex_rf _ _ _⟩
  | succ k ih =>
    intro q f D h1 h2 hD
    obtain ⟨f, rfl⟩ : ∃ g, f = g + 1 := ⟨f - 1, by omega⟩
    have hl := hN p hp
    have start : fX12_looksOn_31 sh_L (sh_E kp) fu K (f + 1) 132 (nI p) (nI q) D = if nI (if (N p).testBit q then 1 else 0) = nI 0 then fX12_looksOn_31 sh_L (sh_E kp) fu K f 132 (nI p) (nI (q + 1)) D else fX12_looksOn_31 sh_L (sh_E kp) fu K f 132 (nI p) (nI (q + 1)) (ev_up D 165 q (D 165 q + D 164 p)) := by
      rw [fX12_looksOn_31, i_12, if_neg (nI_ge (by omega) (by omega)), e_132_54, l_163, gdI hp (by omega), nI_clamp (by omega), hD p hp, e_hasM _ _ _ _ _ (by omega) (by omega), bdS, i_0, e_132_55, e_132_56, l_164, l_165, gdI (by omega) (by omega), gdI (by omega) (by omega), gdI (by omega) (by omega), nI_clamp (by omega), i_1, addK]
    rw [start]
    cases hb : (N p).testBit q with
    | false =>
      obtain ⟨D', r1, r2, r3⟩ := ih (q + 1) f D (by omega) (by omega) hD
      refine ⟨D', by rw [if_pos bF]; exact r1, fun j hj => ?_, r3⟩
      rw [r2 j hj]
      by_cases e : j = q
      · subst e
        rw [if_neg (by omega), if_neg (fun z => by rw [hb] at z; exact absurd z.2 (by decide))]
      · by_cases h : q + 1 ≤ j ∧ (N p).testBit j = true
        · rw [if_pos h, if_pos ⟨by omega, h.2⟩]
        · rw [if_neg h, if_neg fun z => h ⟨by omega, z.2⟩]
    | true =>
      obtain ⟨D', r1, r2, r3⟩ := ih (q + 1) f (ev_up D 165 q (D 165 q + D 164 p)) (by omega) (by omega) (fun p hp => by rw [upN _ _ _ _ (by decide)]; exact hD p hp)
      refine ⟨D', by rw [if_neg (by decide)]; exact r1, fun j hj => ?_, ex_tr (ex_up (ex_rf _ _ _) rfl) r3⟩
      rw [r2 j hj, upN _ _ _ _ (show (164 : Nat) ≠ 165 by decide)]
      by_cases e : j = q
      · subst e
        rw [if_neg (fun z => by omega), upS, if_pos ⟨Nat.le_refl _, hb⟩]
      · by_cases h : q + 1 ≤ j ∧ (N p).testBit j = true
        · rw [if_pos h, if_pos ⟨by omega, h.2⟩, upJ _ _ _ _ e]
        · rw [if_neg h, if_neg (fun z => h ⟨by omega, z.2⟩), upJ _ _ _ _ e]
theorem e_looks84 {w : Nat → Int32} (k : Nat) : ∀ (q f : Nat) (D : ev_D), q + k = 12 → k < f → (∀ j, D 165 j = w j) → fX12_looksOn_84 sh_L (sh_E kp) fu f 132 (nI q) D = some (nI 0, fl 164 w q k D) := by
  induction k with
  | zero =>
    intro q f D h1 h2 hD
    obtain ⟨f, rfl⟩ : ∃ g, f = g + 1 := ⟨f - 1, by omega⟩
    rw [fX12_looksOn_84, i_12, if_pos (nI_le (by omega) (by omega)), i_0, fl_0]
  | succ k ih =>
    intro q f D h1 h2 hD
    obtain ⟨f, rfl⟩ : ∃ g, f = g + 1 := ⟨f - 1, by omega⟩
    rw [fX12_looksOn_84, i_12, if_neg (nI_ge (by omega) (by omega)), e_132_55, e_132_56, l_164, l_165, gdI (by omega) (by omega), gdI (by omega) (by omega), nI_clamp (by omega), hD, i_1, addK, fl_s]
    exact ih (q + 1) f _ (by omega) (by omega) (fun j => by rw [upN _ _ _ _ (by decide)]; exact hD j)
theorem e_looks23 (hfu : 30000 ≤ fu) (hN : ∀ p, p < 12 → N p < 4096) (k : Nat) : ∀ (p f : Nat) (D : ev_D), p + k = 12 → k < f → (∀ p, p < 12 → D 163 p = nI (N p)) → ∃ D', fX12_looksOn_23 sh_L (sh_E kp) fu f 132 (nI p) D = some (nI 0, D') ∧ (∀ j, j < 12 → D' 164 j = up (fun p a => if (N p).testBit j then a + D 164 p else a) p k (D 165 j)) ∧ ex [164, 165] [] D' D := by
  induction k with
  | zero =>
    intro p f D h1 h2 hD
    obtain ⟨f, rfl⟩ : ∃ g, f = g + 1 := ⟨f - 1, by omega⟩
    refine ⟨_, by rw [fX12_looksOn_23, i_12, if_pos (nI_le (by omega) (by omega)), i_0]; exact e_looks84 (w := D 165) 12 0 fu D rfl (by omega) (fun _ => rfl), fun j hj => ?_, fl_ex _ _ _ _ (ex_rf _ _ _) rfl⟩
    rw [fl_i _ _ _ _ (by omega) (by omega), up_0]
  | succ k ih =>
    intro p f D h1 h2 hD
    obtain ⟨f, rfl⟩ : ∃ g, f = g + 1 := ⟨f - 1, by omega⟩
    obtain ⟨D1, r1, r2, r3⟩ := e_looks31 (kp := kp) (fu := fu) (fX12_looksOn_23 sh_L (sh_E kp) fu f) hN (show p < 12 by omega) 12 0 fu D rfl (by omega) hD
    obtain ⟨D', s1, s2, s3⟩ := ih (p + 1) f D1 (by omega) (by omega) (fun q hq => by rw [ex_at r3 rfl]; exact hD q hq)
    refine ⟨D', ?_, fun j hj => ?_, ex_tr (ex_sub r3 rfl) s3⟩
    · rw [fX12_looksOn_23, i_12, if_neg (nI_ge (by omega) (by omega)), i_0, r1]
      exact s1
    · rw [s2 j hj, up_s, r2 j hj, ex_c r3 164 rfl]
      cases (N p).testBit j
      · rw [if_neg (fun z => absurd z.2 (by decide)), if_neg (by decide)]
      · rw [if_pos ⟨by omega, rfl⟩, if_pos rfl]
theorem e_looks2 (hfu : 30000 ≤ fu) (k : Nat) : ∀ (q f : Nat) (D : ev_D), q + k = 12 → k < f → fX12_looksOn_2 sh_L (sh_E kp) fu f 132 (nI q) D = fX12_looksOn_23 sh_L (sh_E kp) fu fu 132 (nI 0) (fl 165 (fun _ => nI 0) q k D) := by
  induction k with
  | zero =>
    intro q f D h1 h2
    obtain ⟨f, rfl⟩ : ∃ g, f = g + 1 := ⟨f - 1, by omega⟩
    rw [fX12_looksOn_2, i_12, if_pos (nI_le (by omega) (by omega)), i_0, fl_0]
  | succ k ih =>
    intro q f D h1 h2
    obtain ⟨f, rfl⟩ : ∃ g, f = g + 1 := ⟨f - 1, by omega⟩
    rw [fX12_looksOn_2, i_12, if_neg (nI_ge (by omega) (by omega)), e_132_56, l_165, gdI (by omega) (by omega), nI_clamp (by omega), i_0, i_1, addK, fl_s]
    exact ih (q + 1) f _ (by omega) (by omega)
theorem e_looks (hfu : 30000 ≤ fu) (hN : ∀ p, p < 12 → N p < 4096) {D : ev_D} (hD : ∀ p, p < 12 → D 163 p = nI (N p)) : ∃ D', fX12_looksOn sh_L (sh_E kp) fu 132 D = some (nI 0, D') ∧ (∀ j, j < 12 → D' 164 j = up (fun p a => if (N p).testBit j then a + D 164 p else a) 0 12 (nI 0)) ∧ ex [164, 165] [] D' D := by
  obtain ⟨D', r1, r2, r3⟩ := e_looks23 (kp := kp) (fu := fu) hfu hN 12 0 fu (fl 165 (fun _ => nI 0) 0 12 D) rfl (by omega) (fun p hp => by rw [fl_n _ _ _ _ _ (by decide)]; exact hD p hp)
  refine ⟨D', ?_, fun j hj => ?_, ex_tr (fl_ex _ _ _ _ (ex_rf _ _ _) rfl) r3⟩
  · rw [fX12_looksOn, i_0, e_looks2 hfu 12 0 fu D rfl (by omega)]
    exact r1
  · rw [r2 j hj, fl_i _ _ _ _ (by omega) (by omega)]
    exact up_cg (fun p _ _ a => by rw [fl_n _ _ _ _ _ (show (164 : Nat) ≠ 165 by decide)]) _
/-- what holds between the two at each look -/
def wvR (N : Nat → Nat) (n s fr : Nat) (v : Nat → Nat) (c m : ev_D) : Prop := fr < 4096 ∧ s < 4096 ∧ (∀ j, fr.testBit j = true → s.testBit j = true) ∧ (∀ j, j < 12 → fr.testBit j = true → 0 < v j ∧ c 129 j = nI (v j) ∧ m 164 j = nI (v j)) ∧ (∀ j, j < 12 → s.testBit j = false → c 129 j = nI 0 ∧ m 164 j = nI 0) ∧ (∀ p, p < 12 → s.testBit p = true → fr.testBit p = false → ∀ j, (N p).testBit j = true → s.testBit j = true) ∧ smF (tb fr) v 12 ≤ 2 ^ cnt (tb s) 12 ∧ (fr = 0 ∨ n + 1 ≤ cnt (tb s) 12)
theorem c12 (s : Nat) : cnt (tb s) 12 ≤ 12 := cnt_le _ _
theorem p12 {a : Nat} (h : a ≤ 12) : 2 ^ a ≤ 4096 := pow_le (b := 12) h
theorem e_wv {b w : Nat} (hfu : 30000 ≤ fu) (hN : ∀ p, p < 12 → N p < 4096) (hb : b < 12) (hw : w ≤ 1) (k : Nat) : ∀ (n f g s fr : Nat) (v : Nat → Nat) (c m : ev_D), n + k = 11 → k + 2 < f → k < g → (∀ p, p < 12 → c 128 p = nI (N p)) → (∀ p, p < 12 → m 163 p = nI (N p)) → wvR N n s fr v c m → s.testBit b = false → ∃ x c' m', fX3_wavesBetween_61 sh_L (sh_E kp) fu f 124 (nI b) (nI w) (nI s) (nI fr) (nI n) c = some (x, c') ∧ fX12_waves_81 sh_L (sh_E kp) fu g 132 (nI b) (nI w) (nI n) m = some (x, m') ∧ ex [129] [] c' c ∧ ex [164, 165] [] m' m := by
  have stepC : ∀ (n f s fr : Nat) (v : Nat → Nat) (c m : ev_D), (∀ p, p < 12 → c 128 p = nI (N p)) → wvR N n s fr v c m → ∃ c' nx, fX3_stepOn sh_L (sh_E kp) fu 124 (nI fr) (nI s) c = some (nI nx, c') ∧ (∀ j, nx.testBit j = true ↔ (j < 12 ∧ s.testBit j = false ∧ ∃ p', p' < 12 ∧ fr.testBit p' = true ∧ (N p').testBit j = true)) ∧ (∀ j, j < 12 → s.testBit j = false → c' 129 j = nI (wvS N fr v j)) ∧ (∀ j, j < 12 → s.testBit j = true → c' 129 j = c 129 j) ∧ ex [129] [] c' c ∧ nx < 4096 := by
    intro n f s fr v c m hc R
    obtain ⟨R1, R2, R3, R4, R5, -⟩ := R
    obtain ⟨c', nx, r1, r2, r3, r4, r5⟩ := e_step5 (kp := kp) (fu := fu) hfu hN R1 R2 R3 (v := v) 12 0 fu 0 c rfl (by omega) hc (fun j hj hf => (R4 j hj hf).2.1) (fun j hj hs => (R5 j hj hs).1)
    have r2' : ∀ j, nx.testBit j = true ↔ (j < 12 ∧ s.testBit j = false ∧ ∃ p', p' < 12 ∧ fr.testBit p' = true ∧ (N p').testBit j = true) := fun j => by
      rw [r2, Nat.zero_testBit]
      constructor
      · rintro (h | ⟨h, h0, p', -, q⟩)
        · cases h
        · exact ⟨h, h0, p', q⟩
      · rintro ⟨h, h0, p', q⟩
        exact .inr ⟨h, h0, p', by omega, q⟩
    refine ⟨c', nx, by rw [fX3_stepOn, i_0]; exact r1, r2', r3, r4, r5, ?_⟩
    apply Nat.lt_pow_two_of_testBit (n := 12)
    intro i hi
    cases h : nx.testBit i with
    | false => rfl
    | true => have := ((r2' i).mp h).1; omega
  induction k with
  | zero =>
    intro n f g s fr v c m h1 h2 h3 hc hm R hbs
    obtain ⟨f, rfl⟩ : ∃ g, f = g + 2 := ⟨f - 2, by omega⟩
    obtain ⟨g, rfl⟩ : ∃ f, g = f + 1 := ⟨g - 1, by omega⟩
    have e : n = 11 := by omega
    subst e
    obtain ⟨c', nx, r1, r2, r3, r4, r5, r6⟩ := stepC 11 f s fr v c m hc R
    have hnb : nx.testBit b = false := by
      cases h : nx.testBit b with
      | false => rfl
      | true =>
        obtain ⟨-, -, p', q1, q2, -⟩ := (r2 b).mp h
        rcases R.2.2.2.2.2.2.2 with z | z
        · rw [z, Nat.zero_testBit] at q2; cases q2
        · have hc12 : cnt (tb s) 12 < 12 := by
            have := cnt_lt (p := tb s) (q := fun _ => true) 12 (fun _ _ _ => rfl) hb rfl hbs
            have := cnt_le (fun _ => true) 12
            omega
          omega
    refine ⟨mi1, c', m, ?_, ?_, r5, ex_rf _ _ _⟩
    · rw [fX3_wavesBetween_61, i_12, if_neg (nI_ge (by omega) (by omega)), r1, bdS, e_isIn _ _ _ _ (by omega) (by omega), hnb, bdS, i_0, if_pos bF, i_1, addK, fX3_wavesBetween_61, i_12, if_pos (nI_le (by omega) (by omega))]; rfl
    · rw [fX12_waves_81, i_11, if_pos (nI_le (by omega) (by omega))]; rfl
  | succ k ih =>
    intro n f g s fr v c m h1 h2 h3 hc hm R hbs
    obtain ⟨f, rfl⟩ : ∃ g, f = g + 1 := ⟨f - 1, by omega⟩
    obtain ⟨g, rfl⟩ : ∃ f, g = f + 1 := ⟨g - 1, by omega⟩
    obtain ⟨c', nx, r1, r2, r3, r4, r5, r6⟩ := stepC n f s fr v c m hc R
    obtain ⟨m', t1, t2, t3⟩ := e_looks (kp := kp) (fu := fu) (D := m) hfu hN hm
    obtain ⟨R1, R2, R3, R4, R5, R6, R7, R8⟩ := R
    have t4 : ∀ j, j < 12 → s.testBit j = false → m' 164 j = nI (wvS N fr v j) := by
      intro j hj hsj
      rw [t2 j hj]
      have : ∀ k p a, p + k ≤ 12 → up (fun p a => if (N p).testBit j then a + m 164 p else a) p k (nI a) = nI (up (fun p a => if (fr.testBit p && (N p).testBit j) then a + v p else a) p k a) := by
        intro k
        induction k with
        | zero => intro p a _; rfl
        | succ k ihk =>
          intro p a hk
          rw [up_s, up_s]
          cases hb2 : (N p).testBit j
          · rw [if_neg (by decide), Bool.and_false, if_neg (by decide)]
            exact ihk (p + 1) a (by omega)
          · rw [if_pos rfl, Bool.and_true]
            cases hf2 : fr.testBit p
            · rw [if_neg (by decide)]
              have hsp : s.testBit p = false := by
                cases hsp : s.testBit p with
                | false => rfl
                | true => rw [R6 p (by omega) hsp hf2 j hb2] at hsj; cases hsj
              rw [(R5 p (by omega) hsp).2, addK, Nat.add_zero]
              exact ihk (p + 1) a (by omega)
            · rw [if_pos rfl, (R4 p (by omega) hf2).2.2, addK]
              exact ihk (p + 1) _ (by omega)
      exact this 12 0 0 (by omega)
    have hWle : ∀ j, wvS N fr v j ≤ smF (tb fr) v 12 := fun j => smF_mono v 12 fun i _ h => by
      rw [Bool.and_eq_true] at h; exact h.1
    have hWl : smF (tb fr) v 12 ≤ 4096 := Nat.le_trans R7 (p12 (c12 s))
    have S0 : ∀ j, j < 12 → s.testBit j = false → nx.testBit j = false → wvS N fr v j = 0 := fun j hj hsj hn => smF_0 12 fun p hp => by
      cases h1 : fr.testBit p <;> cases h2 : (N p).testBit j
      · rfl
      · rfl
      · rfl
      · rw [(r2 j).mpr ⟨hj, hsj, p, hp, h1, h2⟩] at hn; cases hn
    have SP : ∀ j, nx.testBit j = true → 0 < wvS N fr v j := fun j hn => by
      obtain ⟨q0, q1, p', q2, q3, q4⟩ := (r2 j).mp hn
      have := smF_in (p := fun p => fr.testBit p && (N p).testBit j) (v := v) 12 q2 (by rw [q3, q4]; rfl)
      have := (R4 p' q2 q3).1
      unfold wvS
      omega
    have hsb : m' 164 b = nI (wvS N fr v b) := t4 b hb hbs
    have hbl := hWle b
    cases hnb : nx.testBit b with
    | true =>
      have hpos := SP b hnb
      have hcb := r3 b hb hbs
      refine ⟨if w = 0 then nI n else nI (wvS N fr v b), c', m', ?_, ?_, r5, t3⟩
      · rw [fX3_wavesBetween_61, i_12, if_neg (nI_ge (by omega) (by omega)), r1, bdS, e_isIn _ _ _ _ (by omega) (by omega), hnb, bdS, i_0, if_neg (by decide), e_124_7, l_129, gdI (by omega) (by omega), nI_clamp (by omega), hcb]
        have hcw : w = 0 ∨ w = 1 := by omega
        rcases hcw with rfl | rfl <;> rfl
      · rw [fX12_waves_81, i_11, if_neg (nI_ge (by omega) (by omega)), t1, bdS, e_132_55, l_164, gdI hb (by omega), nI_clamp (by omega), hsb, i_0, if_neg (nI_ge hpos (by omega)), gdI hb (by omega)]
        have hcw : w = 0 ∨ w = 1 := by omega
        rcases hcw with rfl | rfl <;> rfl
    | false =>
      have hz := S0 b hb hbs hnb
      have hdis : ∀ i, i < 12 → (s.testBit i && nx.testBit i) = false := fun i _ => by
        cases h : nx.testBit i
        · rw [Bool.and_false]
        · rw [((r2 i).mp h).2.1]; rfl
      have hcnt := cnt_or (a := s) (b := nx) 12 hdis
      have hor : s ||| nx < 4096 := or_12 R2 r6
      have R' : wvR N (n + 1) (s ||| nx) nx (wvS N fr v) c' m' := by
        refine ⟨r6, hor, fun j hj => by rw [Nat.testBit_or, hj, Bool.or_true], fun j hj hn => ?_, fun j hj hsj => ?_, fun p hp hsp hnp j hNj => ?_, ?_, ?_⟩
        · have q1 := ((r2 j).mp hn).2.1
          exact ⟨SP j hn, r3 j hj q1, t4 j hj q1⟩
        · rw [Nat.testBit_or, Bool.or_eq_false_iff] at hsj
          have hz2 := S0 j hj hsj.1 hsj.2
          rw [r3 j hj hsj.1, t4 j hj hsj.1, hz2]
          exact ⟨rfl, rfl⟩
        · rw [Nat.testBit_or, hnp, Bool.or_false] at hsp
          have hj12 : j < 12 := bit_in (n := 12) (hN p hp) hNj
          rw [Nat.testBit_or]
          cases hsj : s.testBit j with
          | true => rfl
          | false =>
            cases hfp : fr.testBit p with
            | false => rw [R6 p hp hsp hfp j hNj] at hsj; cases hsj
            | true => rw [(r2 j).mpr ⟨hj12, hsj, p, hp, hfp, hNj⟩]; rfl
        · have h1 := smF_le (p := tb nx) (v := wvS N fr v) (W := smF (tb fr) v 12) 12 fun i _ _ => hWle i
          have h2 : cnt (tb nx) 12 ≤ 2 ^ cnt (tb nx) 12 := Nat.le_of_lt Nat.lt_two_pow_self
          rw [hcnt, Nat.pow_add]
          exact Nat.le_trans h1 (by rw [Nat.mul_comm (2 ^ cnt (tb s) 12)]; exact Nat.mul_le_mul h2 R7)
        · by_cases hn0 : nx = 0
          · exact .inl hn0
          · right
            have : ∃ j, nx.testBit j = true := by
              refine Classical.byContradiction fun hno => hn0 (ext_bit fun j => ?_)
              rw [Nat.zero_testBit]
              cases hj : nx.testBit j with
              | false => rfl
              | true => exact absurd ⟨j, hj⟩ hno
            obtain ⟨j, hj⟩ := this
            obtain ⟨q0, -, p', q2, q3, -⟩ := (r2 j).mp hj
            have hp1 := cnt_pos (p := tb nx) 12 q0 hj
            rcases R8 with z | z
            · rw [z, Nat.zero_testBit] at q3; cases q3
            · omega
      obtain ⟨x, c2, m2, x1, x2, x3, x4⟩ := ih (n + 1) f g (s ||| nx) nx (wvS N fr v) c' m' (by omega) (by omega) (by omega) (fun p hp => by rw [ex_at r5 rfl]; exact hc p hp) (fun p hp => by rw [ex_at t3 rfl]; exact hm p hp) R' (by rw [Nat.testBit_or, hbs, hnb]; rfl)
      refine ⟨x, c2, m2, ?_, ?_, ex_tr r5 x3, ex_tr t3 x4⟩
      · rw [fX3_wavesBetween_61, i_12, if_neg (nI_ge (by omega) (by omega)), r1, bdS, e_isIn _ _ _ _ (by omega) (by omega), hnb, bdS, i_0, if_pos bF, i_1, addK, nI_or]
        exact x1
      · rw [fX12_waves_81, i_11, if_neg (nI_ge (by omega) (by omega)), t1, bdS, e_132_55, l_164, gdI hb (by omega), nI_clamp (by omega), hsb, hz, i_0, if_pos (nI_le (Nat.le_refl _) (by decide)), i_1, addK]
        exact x2
theorem e_wv47 {a b w : Nat} (ha : a < 12) (k : Nat) : ∀ (q f : Nat) (D : ev_D), q + k = 12 → k < f → fX12_waves_47 sh_L (sh_E kp) fu f 132 (nI a) (nI b) (nI w) (nI q) D = fX12_waves_81 sh_L (sh_E kp) fu fu 132 (nI b) (nI w) (nI 0) (fl 164 (fun j => nI (if j = a then 1 else 0)) q k D) := by
  induction k with
  | zero =>
    intro q f D h1 h2
    obtain ⟨f, rfl⟩ : ∃ g, f = g + 1 := ⟨f - 1, by omega⟩
    rw [fX12_waves_47, i_12, if_pos (nI_le (by omega) (by omega)), i_0, fl_0]
  | succ k ih =>
    intro q f D h1 h2
    obtain ⟨f, rfl⟩ : ∃ g, f = g + 1 := ⟨f - 1, by omega⟩
    rw [fX12_waves_47, i_12, if_neg (nI_ge (by omega) (by omega)), e_132_55, l_164, gdI (by omega) (by omega), nI_clamp (by omega), i_0, i_1, addK, fl_s]
    by_cases e : q = a
    · rw [if_pos (congrArg nI e), ih (q + 1) f _ (by omega) (by omega), if_pos e]
    · rw [if_neg (fun z => e ((nI_eq (by omega) (by omega)).mp z)), gdI (by omega) (by omega), ih (q + 1) f _ (by omega) (by omega), if_neg e]
end
theorem p_waves {kp fu : Nat} (hfu : 30000 ≤ fu) (hf2 : fu < 2 ^ 31) (a1 a2 a3 : Int32) (D : ev_D) (h : Inv kp D) : pl kp (fX11_waves sh_L (sh_E kp) fu 1 a1 a2 a3) (fX12_waves sh_L (sh_E kp) fu 132 a1 a2 a3) D := by
  have h0 := h
  obtain ⟨g0, gM, ⟨gT, gF, gB, gR, gD, gC, gS, gO, gE, gG, gU, gH, gN, gL⟩, gP, gQ, gZ, gK⟩ := h
  obtain ⟨⟨n, hn, en⟩, s2, s3, s4⟩ := gE
  rw [en, nv_n (by omega)] at s3
  rcases in_or a1 (a := 0) (b := 11) (by omega) (by omega) with hb | ⟨a, -, ha, rfl⟩
  · apply pl_mk
    · conv => lhs; simp (disch := omega) only [fX11_waves, e_within0 _ _ _ _ hb, ↓mm1, ↓mm9, ↓mm100, ↓mm8, bdS, gdI, gdZ, eq_self, e_within, e_isInM, e_isBell, addK, pk_mul, nI_clamp, ofN, true_and, false_and, and_false, and_true, and_self, ltT, ltF, leT, leF, eqF, m1F, m1F2, m1L, m1L2, m1G, i_0, i_1, i_2, i_3, i_4, i_5, i_6, i_7, i_8, i_9, i_10, i_11, i_12, i_14, i_15, i_16, i_17, i_18, i_19, i_20, i_21, i_23, i_24, i_25, i_26, i_31, i_32, i_34, i_40, i_41, i_42, i_43, i_44, i_45, i_47, i_48, i_57, i_59, i_60, i_61, i_62, i_63, i_65, i_80, i_90, i_97, i_98, i_99, i_100, i_122, i_150, i_151, i_255, i_256, i_258, i_259, i_260, i_261, i_262, i_263, i_271, i_273, i_274, i_275, i_276, i_277, i_281, i_282, i_380, i_400, i_500, i_600, i_800, i_999, i_1000, i_9999, i_10000, i_10100, i_10101, i_10102, i_10103, i_10104, i_10105, i_10106, i_10107, i_10108, i_10109, i_27720, i_65535, i_1664525, i_100000000, i_252645135, i_858993459, i_1013904223, i_1431655765, e_1_0, e_1_1, e_1_2, e_1_3, e_1_4, e_1_5, e_2_0, e_2_1, e_2_2, e_2_3, e_3_7, e_3_8, e_3_9, e_3_10, e_3_11, e_3_12, e_3_13, e_11_2, e_13_0, e_13_1, e_13_2, e_13_3, e_14_2, e_14_3, e_14_4, e_14_5, e_14_6, e_14_7, e_21_2, e_23_2, e_25_2, e_27_0, e_27_1, e_27_2, e_27_3, e_27_4, e_27_5, e_27_6, e_28_2, e_30_2, e_32_2, e_34_2, e_36_2, e_40_2, e_40_3, e_41_0, e_41_1, e_41_2, e_41_3, e_41_4, e_41_5, e_91_0, e_91_4, e_91_5, e_91_6, e_91_7, e_92_0, e_92_1, e_92_2, e_92_3, e_93_2, e_93_3, e_93_4, e_93_5, e_93_6, e_93_7, e_100_2, e_102_2, e_104_2, e_110_0, e_110_1, e_110_2, e_110_3, e_112_0, e_112_1, e_112_2, e_112_3, e_113_7, e_113_8, e_113_9, e_113_10, e_113_11, e_113_12, e_113_13, e_121_2, e_124_0, e_124_1, e_124_2, e_124_3, e_124_4, e_124_5, e_124_6, e_124_7, e_124_8, e_124_9, l_4, l_5, l_6, l_7, l_8, l_9, l_10, l_12, l_15, l_16, l_17, l_18, l_19, l_20, l_22, l_24, l_26, l_29, l_31, l_33, l_35, l_37, l_38, l_39, l_41, l_42, l_94, l_95, l_96, l_97, l_98, l_99, l_101, l_103, l_105, l_106, l_107, l_108, l_109, l_111, l_114, l_115, l_116, l_117, l_118, l_119, l_120, l_123, l_125, l_126, l_127, l_128, l_129, l_130, l_131, e_132_1, e_132_2, e_132_4, e_132_6, e_132_8, e_132_9, e_132_10, e_132_11, e_132_12, e_132_18, e_132_19, e_132_20, e_132_21, e_132_22, e_132_23, e_132_24, e_132_25, e_132_29, e_132_36, e_132_38, e_132_40, e_132_41, e_132_42, e_132_44, e_132_46, e_132_47, e_132_49, e_132_50, e_132_51, e_132_52, e_132_54, e_132_55, e_132_56, e_132_58, e_132_60, e_132_61, e_132_62, e_132_66, l_133, l_134, l_135, l_136, l_137, l_138, l_139, l_140, l_141, l_142, l_143, l_144, l_145, l_146, l_147, l_148, l_149, l_150, l_151, l_152, l_153, l_154, l_155, l_156, l_157, l_158, l_159, l_160, l_161, l_162, l_163, l_164, l_165, l_166, l_167, l_168, l_169, l_170, upA, reduceIte, neF]
    · conv => lhs; simp (disch := omega) only [fX12_waves, e_isInM0 _ _ _ _ _ hb, ↓mm1, ↓mm9, ↓mm100, ↓mm8, bdS, gdI, gdZ, eq_self, e_within, e_isInM, e_isBell, addK, pk_mul, nI_clamp, ofN, true_and, false_and, and_false, and_true, and_self, ltT, ltF, leT, leF, eqF, m1F, m1F2, m1L, m1L2, m1G, i_0, i_1, i_2, i_3, i_4, i_5, i_6, i_7, i_8, i_9, i_10, i_11, i_12, i_14, i_15, i_16, i_17, i_18, i_19, i_20, i_21, i_23, i_24, i_25, i_26, i_31, i_32, i_34, i_40, i_41, i_42, i_43, i_44, i_45, i_47, i_48, i_57, i_59, i_60, i_61, i_62, i_63, i_65, i_80, i_90, i_97, i_98, i_99, i_100, i_122, i_150, i_151, i_255, i_256, i_258, i_259, i_260, i_261, i_262, i_263, i_271, i_273, i_274, i_275, i_276, i_277, i_281, i_282, i_380, i_400, i_500, i_600, i_800, i_999, i_1000, i_9999, i_10000, i_10100, i_10101, i_10102, i_10103, i_10104, i_10105, i_10106, i_10107, i_10108, i_10109, i_27720, i_65535, i_1664525, i_100000000, i_252645135, i_858993459, i_1013904223, i_1431655765, e_1_0, e_1_1, e_1_2, e_1_3, e_1_4, e_1_5, e_2_0, e_2_1, e_2_2, e_2_3, e_3_7, e_3_8, e_3_9, e_3_10, e_3_11, e_3_12, e_3_13, e_11_2, e_13_0, e_13_1, e_13_2, e_13_3, e_14_2, e_14_3, e_14_4, e_14_5, e_14_6, e_14_7, e_21_2, e_23_2, e_25_2, e_27_0, e_27_1, e_27_2, e_27_3, e_27_4, e_27_5, e_27_6, e_28_2, e_30_2, e_32_2, e_34_2, e_36_2, e_40_2, e_40_3, e_41_0, e_41_1, e_41_2, e_41_3, e_41_4, e_41_5, e_91_0, e_91_4, e_91_5, e_91_6, e_91_7, e_92_0, e_92_1, e_92_2, e_92_3, e_93_2, e_93_3, e_93_4, e_93_5, e_93_6, e_93_7, e_100_2, e_102_2, e_104_2, e_110_0, e_110_1, e_110_2, e_110_3, e_112_0, e_112_1, e_112_2, e_112_3, e_113_7, e_113_8, e_113_9, e_113_10, e_113_11, e_113_12, e_113_13, e_121_2, e_124_0, e_124_1, e_124_2, e_124_3, e_124_4, e_124_5, e_124_6, e_124_7, e_124_8, e_124_9, l_4, l_5, l_6, l_7, l_8, l_9, l_10, l_12, l_15, l_16, l_17, l_18, l_19, l_20, l_22, l_24, l_26, l_29, l_31, l_33, l_35, l_37, l_38, l_39, l_41, l_42, l_94, l_95, l_96, l_97, l_98, l_99, l_101, l_103, l_105, l_106, l_107, l_108, l_109, l_111, l_114, l_115, l_116, l_117, l_118, l_119, l_120, l_123, l_125, l_126, l_127, l_128, l_129, l_130, l_131, e_132_1, e_132_2, e_132_4, e_132_6, e_132_8, e_132_9, e_132_10, e_132_11, e_132_12, e_132_18, e_132_19, e_132_20, e_132_21, e_132_22, e_132_23, e_132_24, e_132_25, e_132_29, e_132_36, e_132_38, e_132_40, e_132_41, e_132_42, e_132_44, e_132_46, e_132_47, e_132_49, e_132_50, e_132_51, e_132_52, e_132_54, e_132_55, e_132_56, e_132_58, e_132_60, e_132_61, e_132_62, e_132_66, l_133, l_134, l_135, l_136, l_137, l_138, l_139, l_140, l_141, l_142, l_143, l_144, l_145, l_146, l_147, l_148, l_149, l_150, l_151, l_152, l_153, l_154, l_155, l_156, l_157, l_158, l_159, l_160, l_161, l_162, l_163, l_164, l_165, l_166, l_167, l_168, l_169, l_170, upA, reduceIte, neF]
    · exact Inv_s (by repeat (first | exact ex_rf _ _ _ | refine ex_up ?_ rfl)) h0
  rcases in_or a2 (a := 0) (b := 11) (by omega) (by omega) with hb | ⟨b, -, hb, rfl⟩
  · apply pl_mk
    · conv => lhs; simp (disch := omega) only [fX11_waves, e_within0 _ _ _ _ hb, ↓mm1, ↓mm9, ↓mm100, ↓mm8, bdS, gdI, gdZ, eq_self, e_within, e_isInM, e_isBell, addK, pk_mul, nI_clamp, ofN, true_and, false_and, and_false, and_true, and_self, ltT, ltF, leT, leF, eqF, m1F, m1F2, m1L, m1L2, m1G, i_0, i_1, i_2, i_3, i_4, i_5, i_6, i_7, i_8, i_9, i_10, i_11, i_12, i_14, i_15, i_16, i_17, i_18, i_19, i_20, i_21, i_23, i_24, i_25, i_26, i_31, i_32, i_34, i_40, i_41, i_42, i_43, i_44, i_45, i_47, i_48, i_57, i_59, i_60, i_61, i_62, i_63, i_65, i_80, i_90, i_97, i_98, i_99, i_100, i_122, i_150, i_151, i_255, i_256, i_258, i_259, i_260, i_261, i_262, i_263, i_271, i_273, i_274, i_275, i_276, i_277, i_281, i_282, i_380, i_400, i_500, i_600, i_800, i_999, i_1000, i_9999, i_10000, i_10100, i_10101, i_10102, i_10103, i_10104, i_10105, i_10106, i_10107, i_10108, i_10109, i_27720, i_65535, i_1664525, i_100000000, i_252645135, i_858993459, i_1013904223, i_1431655765, e_1_0, e_1_1, e_1_2, e_1_3, e_1_4, e_1_5, e_2_0, e_2_1, e_2_2, e_2_3, e_3_7, e_3_8, e_3_9, e_3_10, e_3_11, e_3_12, e_3_13, e_11_2, e_13_0, e_13_1, e_13_2, e_13_3, e_14_2, e_14_3, e_14_4, e_14_5, e_14_6, e_14_7, e_21_2, e_23_2, e_25_2, e_27_0, e_27_1, e_27_2, e_27_3, e_27_4, e_27_5, e_27_6, e_28_2, e_30_2, e_32_2, e_34_2, e_36_2, e_40_2, e_40_3, e_41_0, e_41_1, e_41_2, e_41_3, e_41_4, e_41_5, e_91_0, e_91_4, e_91_5, e_91_6, e_91_7, e_92_0, e_92_1, e_92_2, e_92_3, e_93_2, e_93_3, e_93_4, e_93_5, e_93_6, e_93_7, e_100_2, e_102_2, e_104_2, e_110_0, e_110_1, e_110_2, e_110_3, e_112_0, e_112_1, e_112_2, e_112_3, e_113_7, e_113_8, e_113_9, e_113_10, e_113_11, e_113_12, e_113_13, e_121_2, e_124_0, e_124_1, e_124_2, e_124_3, e_124_4, e_124_5, e_124_6, e_124_7, e_124_8, e_124_9, l_4, l_5, l_6, l_7, l_8, l_9, l_10, l_12, l_15, l_16, l_17, l_18, l_19, l_20, l_22, l_24, l_26, l_29, l_31, l_33, l_35, l_37, l_38, l_39, l_41, l_42, l_94, l_95, l_96, l_97, l_98, l_99, l_101, l_103, l_105, l_106, l_107, l_108, l_109, l_111, l_114, l_115, l_116, l_117, l_118, l_119, l_120, l_123, l_125, l_126, l_127, l_128, l_129, l_130, l_131, e_132_1, e_132_2, e_132_4, e_132_6, e_132_8, e_132_9, e_132_10, e_132_11, e_132_12, e_132_18, e_132_19, e_132_20, e_132_21, e_132_22, e_132_23, e_132_24, e_132_25, e_132_29, e_132_36, e_132_38, e_132_40, e_132_41, e_132_42, e_132_44, e_132_46, e_132_47, e_132_49, e_132_50, e_132_51, e_132_52, e_132_54, e_132_55, e_132_56, e_132_58, e_132_60, e_132_61, e_132_62, e_132_66, l_133, l_134, l_135, l_136, l_137, l_138, l_139, l_140, l_141, l_142, l_143, l_144, l_145, l_146, l_147, l_148, l_149, l_150, l_151, l_152, l_153, l_154, l_155, l_156, l_157, l_158, l_159, l_160, l_161, l_162, l_163, l_164, l_165, l_166, l_167, l_168, l_169, l_170, upA, reduceIte, neF]
    · conv => lhs; simp (disch := omega) only [fX12_waves, e_isInM0 _ _ _ _ _ hb, ↓mm1, ↓mm9, ↓mm100, ↓mm8, bdS, gdI, gdZ, eq_self, e_within, e_isInM, e_isBell, addK, pk_mul, nI_clamp, ofN, true_and, false_and, and_false, and_true, and_self, ltT, ltF, leT, leF, eqF, m1F, m1F2, m1L, m1L2, m1G, i_0, i_1, i_2, i_3, i_4, i_5, i_6, i_7, i_8, i_9, i_10, i_11, i_12, i_14, i_15, i_16, i_17, i_18, i_19, i_20, i_21, i_23, i_24, i_25, i_26, i_31, i_32, i_34, i_40, i_41, i_42, i_43, i_44, i_45, i_47, i_48, i_57, i_59, i_60, i_61, i_62, i_63, i_65, i_80, i_90, i_97, i_98, i_99, i_100, i_122, i_150, i_151, i_255, i_256, i_258, i_259, i_260, i_261, i_262, i_263, i_271, i_273, i_274, i_275, i_276, i_277, i_281, i_282, i_380, i_400, i_500, i_600, i_800, i_999, i_1000, i_9999, i_10000, i_10100, i_10101, i_10102, i_10103, i_10104, i_10105, i_10106, i_10107, i_10108, i_10109, i_27720, i_65535, i_1664525, i_100000000, i_252645135, i_858993459, i_1013904223, i_1431655765, e_1_0, e_1_1, e_1_2, e_1_3, e_1_4, e_1_5, e_2_0, e_2_1, e_2_2, e_2_3, e_3_7, e_3_8, e_3_9, e_3_10, e_3_11, e_3_12, e_3_13, e_11_2, e_13_0, e_13_1, e_13_2, e_13_3, e_14_2, e_14_3, e_14_4, e_14_5, e_14_6, e_14_7, e_21_2, e_23_2, e_25_2, e_27_0, e_27_1, e_27_2, e_27_3, e_27_4, e_27_5, e_27_6, e_28_2, e_30_2, e_32_2, e_34_2, e_36_2, e_40_2, e_40_3, e_41_0, e_41_1, e_41_2, e_41_3, e_41_4, e_41_5, e_91_0, e_91_4, e_91_5, e_91_6, e_91_7, e_92_0, e_92_1, e_92_2, e_92_3, e_93_2, e_93_3, e_93_4, e_93_5, e_93_6, e_93_7, e_100_2, e_102_2, e_104_2, e_110_0, e_110_1, e_110_2, e_110_3, e_112_0, e_112_1, e_112_2, e_112_3, e_113_7, e_113_8, e_113_9, e_113_10, e_113_11, e_113_12, e_113_13, e_121_2, e_124_0, e_124_1, e_124_2, e_124_3, e_124_4, e_124_5, e_124_6, e_124_7, e_124_8, e_124_9, l_4, l_5, l_6, l_7, l_8, l_9, l_10, l_12, l_15, l_16, l_17, l_18, l_19, l_20, l_22, l_24, l_26, l_29, l_31, l_33, l_35, l_37, l_38, l_39, l_41, l_42, l_94, l_95, l_96, l_97, l_98, l_99, l_101, l_103, l_105, l_106, l_107, l_108, l_109, l_111, l_114, l_115, l_116, l_117, l_118, l_119, l_120, l_123, l_125, l_126, l_127, l_128, l_129, l_130, l_131, e_132_1, e_132_2, e_132_4, e_132_6, e_132_8, e_132_9, e_132_10, e_132_11, e_132_12, e_132_18, e_132_19, e_132_20, e_132_21, e_132_22, e_132_23, e_132_24, e_132_25, e_132_29, e_132_36, e_132_38, e_132_40, e_132_41, e_132_42, e_132_44, e_132_46, e_132_47, e_132_49, e_132_50, e_132_51, e_132_52, e_132_54, e_132_55, e_132_56, e_132_58, e_132_60, e_132_61, e_132_62, e_132_66, l_133, l_134, l_135, l_136, l_137, l_138, l_139, l_140, l_141, l_142, l_143, l_144, l_145, l_146, l_147, l_148, l_149, l_150, l_151, l_152, l_153, l_154, l_155, l_156, l_157, l_158, l_159, l_160, l_161, l_162, l_163, l_164, l_165, l_166, l_167, l_168, l_169, l_170, upA, reduceIte, neF]
    · exact Inv_s (by repeat (first | exact ex_rf _ _ _ | refine ex_up ?_ rfl)) h0
  by_cases hab : a = b
  · subst hab
    apply pl_mk
    · conv => lhs; simp (disch := omega) only [fX11_waves, ↓mm1, ↓mm9, ↓mm100, ↓mm8, bdS, gdI, gdZ, eq_self, e_within, e_isInM, e_isBell, addK, pk_mul, nI_clamp, ofN, true_and, false_and, and_false, and_true, and_self, ltT, ltF, leT, leF, eqF, m1F, m1F2, m1L, m1L2, m1G, i_0, i_1, i_2, i_3, i_4, i_5, i_6, i_7, i_8, i_9, i_10, i_11, i_12, i_14, i_15, i_16, i_17, i_18, i_19, i_20, i_21, i_23, i_24, i_25, i_26, i_31, i_32, i_34, i_40, i_41, i_42, i_43, i_44, i_45, i_47, i_48, i_57, i_59, i_60, i_61, i_62, i_63, i_65, i_80, i_90, i_97, i_98, i_99, i_100, i_122, i_150, i_151, i_255, i_256, i_258, i_259, i_260, i_261, i_262, i_263, i_271, i_273, i_274, i_275, i_276, i_277, i_281, i_282, i_380, i_400, i_500, i_600, i_800, i_999, i_1000, i_9999, i_10000, i_10100, i_10101, i_10102, i_10103, i_10104, i_10105, i_10106, i_10107, i_10108, i_10109, i_27720, i_65535, i_1664525, i_100000000, i_252645135, i_858993459, i_1013904223, i_1431655765, e_1_0, e_1_1, e_1_2, e_1_3, e_1_4, e_1_5, e_2_0, e_2_1, e_2_2, e_2_3, e_3_7, e_3_8, e_3_9, e_3_10, e_3_11, e_3_12, e_3_13, e_11_2, e_13_0, e_13_1, e_13_2, e_13_3, e_14_2, e_14_3, e_14_4, e_14_5, e_14_6, e_14_7, e_21_2, e_23_2, e_25_2, e_27_0, e_27_1, e_27_2, e_27_3, e_27_4, e_27_5, e_27_6, e_28_2, e_30_2, e_32_2, e_34_2, e_36_2, e_40_2, e_40_3, e_41_0, e_41_1, e_41_2, e_41_3, e_41_4, e_41_5, e_91_0, e_91_4, e_91_5, e_91_6, e_91_7, e_92_0, e_92_1, e_92_2, e_92_3, e_93_2, e_93_3, e_93_4, e_93_5, e_93_6, e_93_7, e_100_2, e_102_2, e_104_2, e_110_0, e_110_1, e_110_2, e_110_3, e_112_0, e_112_1, e_112_2, e_112_3, e_113_7, e_113_8, e_113_9, e_113_10, e_113_11, e_113_12, e_113_13, e_121_2, e_124_0, e_124_1, e_124_2, e_124_3, e_124_4, e_124_5, e_124_6, e_124_7, e_124_8, e_124_9, l_4, l_5, l_6, l_7, l_8, l_9, l_10, l_12, l_15, l_16, l_17, l_18, l_19, l_20, l_22, l_24, l_26, l_29, l_31, l_33, l_35, l_37, l_38, l_39, l_41, l_42, l_94, l_95, l_96, l_97, l_98, l_99, l_101, l_103, l_105, l_106, l_107, l_108, l_109, l_111, l_114, l_115, l_116, l_117, l_118, l_119, l_120, l_123, l_125, l_126, l_127, l_128, l_129, l_130, l_131, e_132_1, e_132_2, e_132_4, e_132_6, e_132_8, e_132_9, e_132_10, e_132_11, e_132_12, e_132_18, e_132_19, e_132_20, e_132_21, e_132_22, e_132_23, e_132_24, e_132_25, e_132_29, e_132_36, e_132_38, e_132_40, e_132_41, e_132_42, e_132_44, e_132_46, e_132_47, e_132_49, e_132_50, e_132_51, e_132_52, e_132_54, e_132_55, e_132_56, e_132_58, e_132_60, e_132_61, e_132_62, e_132_66, l_133, l_134, l_135, l_136, l_137, l_138, l_139, l_140, l_141, l_142, l_143, l_144, l_145, l_146, l_147, l_148, l_149, l_150, l_151, l_152, l_153, l_154, l_155, l_156, l_157, l_158, l_159, l_160, l_161, l_162, l_163, l_164, l_165, l_166, l_167, l_168, l_169, l_170, upA, reduceIte, neF]
    · conv => lhs; simp (disch := omega) only [fX12_waves, ↓mm1, ↓mm9, ↓mm100, ↓mm8, bdS, gdI, gdZ, eq_self, e_within, e_isInM, e_isBell, addK, pk_mul, nI_clamp, ofN, true_and, false_and, and_false, and_true, and_self, ltT, ltF, leT, leF, eqF, m1F, m1F2, m1L, m1L2, m1G, i_0, i_1, i_2, i_3, i_4, i_5, i_6, i_7, i_8, i_9, i_10, i_11, i_12, i_14, i_15, i_16, i_17, i_18, i_19, i_20, i_21, i_23, i_24, i_25, i_26, i_31, i_32, i_34, i_40, i_41, i_42, i_43, i_44, i_45, i_47, i_48, i_57, i_59, i_60, i_61, i_62, i_63, i_65, i_80, i_90, i_97, i_98, i_99, i_100, i_122, i_150, i_151, i_255, i_256, i_258, i_259, i_260, i_261, i_262, i_263, i_271, i_273, i_274, i_275, i_276, i_277, i_281, i_282, i_380, i_400, i_500, i_600, i_800, i_999, i_1000, i_9999, i_10000, i_10100, i_10101, i_10102, i_10103, i_10104, i_10105, i_10106, i_10107, i_10108, i_10109, i_27720, i_65535, i_1664525, i_100000000, i_252645135, i_858993459, i_1013904223, i_1431655765, e_1_0, e_1_1, e_1_2, e_1_3, e_1_4, e_1_5, e_2_0, e_2_1, e_2_2, e_2_3, e_3_7, e_3_8, e_3_9, e_3_10, e_3_11, e_3_12, e_3_13, e_11_2, e_13_0, e_13_1, e_13_2, e_13_3, e_14_2, e_14_3, e_14_4, e_14_5, e_14_6, e_14_7, e_21_2, e_23_2, e_25_2, e_27_0, e_27_1, e_27_2, e_27_3, e_27_4, e_27_5, e_27_6, e_28_2, e_30_2, e_32_2, e_34_2, e_36_2, e_40_2, e_40_3, e_41_0, e_41_1, e_41_2, e_41_3, e_41_4, e_41_5, e_91_0, e_91_4, e_91_5, e_91_6, e_91_7, e_92_0, e_92_1, e_92_2, e_92_3, e_93_2, e_93_3, e_93_4, e_93_5, e_93_6, e_93_7, e_100_2, e_102_2, e_104_2, e_110_0, e_110_1, e_110_2, e_110_3, e_112_0, e_112_1, e_112_2, e_112_3, e_113_7, e_113_8, e_113_9, e_113_10, e_113_11, e_113_12, e_113_13, e_121_2, e_124_0, e_124_1, e_124_2, e_124_3, e_124_4, e_124_5, e_124_6, e_124_7, e_124_8, e_124_9, l_4, l_5, l_6, l_7, l_8, l_9, l_10, l_12, l_15, l_16, l_17, l_18, l_19, l_20, l_22, l_24, l_26, l_29, l_31, l_33, l_35, l_37, l_38, l_39, l_41, l_42, l_94, l_95, l_96, l_97, l_98, l_99, l_101, l_103, l_105, l_106, l_107, l_108, l_109, l_111, l_114, l_115, l_116, l_117, l_118, l_119, l_120, l_123, l_125, l_126, l_127, l_128, l_129, l_130, l_131, e_132_1, e_132_2, e_132_4, e_132_6, e_132_8, e_132_9, e_132_10, e_132_11, e_132_12, e_132_18, e_132_19, e_132_20, e_132_21, e_132_22, e_132_23, e_132_24, e_132_25, e_132_29, e_132_36, e_132_38, e_132_40, e_132_41, e_132_42, e_132_44, e_132_46, e_132_47, e_132_49, e_132_50, e_132_51, e_132_52, e_132_54, e_132_55, e_132_56, e_132_58, e_132_60, e_132_61, e_132_62, e_132_66, l_133, l_134, l_135, l_136, l_137, l_138, l_139, l_140, l_141, l_142, l_143, l_144, l_145, l_146, l_147, l_148, l_149, l_150, l_151, l_152, l_153, l_154, l_155, l_156, l_157, l_158, l_159, l_160, l_161, l_162, l_163, l_164, l_165, l_166, l_167, l_168, l_169, l_170, upA, reduceIte, neF]
    · exact Inv_s (by repeat (first | exact ex_rf _ _ _ | refine ex_up ?_ rfl)) h0
  rcases in_or a3 (a := 0) (b := 1) (by omega) (by omega) with hb3 | ⟨w, -, hw, rfl⟩
  · apply pl_mk
    · conv => lhs; simp (disch := omega) only [fX11_waves, e_within0 _ _ _ _ hb3, ↓mm1, ↓mm9, ↓mm100, ↓mm8, bdS, gdI, gdZ, eq_self, e_within, e_isInM, e_isBell, addK, pk_mul, nI_clamp, ofN, true_and, false_and, and_false, and_true, and_self, ltT, ltF, leT, leF, eqF, m1F, m1F2, m1L, m1L2, m1G, i_0, i_1, i_2, i_3, i_4, i_5, i_6, i_7, i_8, i_9, i_10, i_11, i_12, i_14, i_15, i_16, i_17, i_18, i_19, i_20, i_21, i_23, i_24, i_25, i_26, i_31, i_32, i_34, i_40, i_41, i_42, i_43, i_44, i_45, i_47, i_48, i_57, i_59, i_60, i_61, i_62, i_63, i_65, i_80, i_90, i_97, i_98, i_99, i_100, i_122, i_150, i_151, i_255, i_256, i_258, i_259, i_260, i_261, i_262, i_263, i_271, i_273, i_274, i_275, i_276, i_277, i_281, i_282, i_380, i_400, i_500, i_600, i_800, i_999, i_1000, i_9999, i_10000, i_10100, i_10101, i_10102, i_10103, i_10104, i_10105, i_10106, i_10107, i_10108, i_10109, i_27720, i_65535, i_1664525, i_100000000, i_252645135, i_858993459, i_1013904223, i_1431655765, e_1_0, e_1_1, e_1_2, e_1_3, e_1_4, e_1_5, e_2_0, e_2_1, e_2_2, e_2_3, e_3_7, e_3_8, e_3_9, e_3_10, e_3_11, e_3_12, e_3_13, e_11_2, e_13_0, e_13_1, e_13_2, e_13_3, e_14_2, e_14_3, e_14_4, e_14_5, e_14_6, e_14_7, e_21_2, e_23_2, e_25_2, e_27_0, e_27_1, e_27_2, e_27_3, e_27_4, e_27_5, e_27_6, e_28_2, e_30_2, e_32_2, e_34_2, e_36_2, e_40_2, e_40_3, e_41_0, e_41_1, e_41_2, e_41_3, e_41_4, e_41_5, e_91_0, e_91_4, e_91_5, e_91_6, e_91_7, e_92_0, e_92_1, e_92_2, e_92_3, e_93_2, e_93_3, e_93_4, e_93_5, e_93_6, e_93_7, e_100_2, e_102_2, e_104_2, e_110_0, e_110_1, e_110_2, e_110_3, e_112_0, e_112_1, e_112_2, e_112_3, e_113_7, e_113_8, e_113_9, e_113_10, e_113_11, e_113_12, e_113_13, e_121_2, e_124_0, e_124_1, e_124_2, e_124_3, e_124_4, e_124_5, e_124_6, e_124_7, e_124_8, e_124_9, l_4, l_5, l_6, l_7, l_8, l_9, l_10, l_12, l_15, l_16, l_17, l_18, l_19, l_20, l_22, l_24, l_26, l_29, l_31, l_33, l_35, l_37, l_38, l_39, l_41, l_42, l_94, l_95, l_96, l_97, l_98, l_99, l_101, l_103, l_105, l_106, l_107, l_108, l_109, l_111, l_114, l_115, l_116, l_117, l_118, l_119, l_120, l_123, l_125, l_126, l_127, l_128, l_129, l_130, l_131, e_132_1, e_132_2, e_132_4, e_132_6, e_132_8, e_132_9, e_132_10, e_132_11, e_132_12, e_132_18, e_132_19, e_132_20, e_132_21, e_132_22, e_132_23, e_132_24, e_132_25, e_132_29, e_132_36, e_132_38, e_132_40, e_132_41, e_132_42, e_132_44, e_132_46, e_132_47, e_132_49, e_132_50, e_132_51, e_132_52, e_132_54, e_132_55, e_132_56, e_132_58, e_132_60, e_132_61, e_132_62, e_132_66, l_133, l_134, l_135, l_136, l_137, l_138, l_139, l_140, l_141, l_142, l_143, l_144, l_145, l_146, l_147, l_148, l_149, l_150, l_151, l_152, l_153, l_154, l_155, l_156, l_157, l_158, l_159, l_160, l_161, l_162, l_163, l_164, l_165, l_166, l_167, l_168, l_169, l_170, upA, reduceIte, neF]
    · conv => lhs; simp (disch := omega) only [fX12_waves, e_isInM0 _ _ _ _ _ hb3, ↓mm1, ↓mm9, ↓mm100, ↓mm8, bdS, gdI, gdZ, eq_self, e_within, e_isInM, e_isBell, addK, pk_mul, nI_clamp, ofN, true_and, false_and, and_false, and_true, and_self, ltT, ltF, leT, leF, eqF, m1F, m1F2, m1L, m1L2, m1G, i_0, i_1, i_2, i_3, i_4, i_5, i_6, i_7, i_8, i_9, i_10, i_11, i_12, i_14, i_15, i_16, i_17, i_18, i_19, i_20, i_21, i_23, i_24, i_25, i_26, i_31, i_32, i_34, i_40, i_41, i_42, i_43, i_44, i_45, i_47, i_48, i_57, i_59, i_60, i_61, i_62, i_63, i_65, i_80, i_90, i_97, i_98, i_99, i_100, i_122, i_150, i_151, i_255, i_256, i_258, i_259, i_260, i_261, i_262, i_263, i_271, i_273, i_274, i_275, i_276, i_277, i_281, i_282, i_380, i_400, i_500, i_600, i_800, i_999, i_1000, i_9999, i_10000, i_10100, i_10101, i_10102, i_10103, i_10104, i_10105, i_10106, i_10107, i_10108, i_10109, i_27720, i_65535, i_1664525, i_100000000, i_252645135, i_858993459, i_1013904223, i_1431655765, e_1_0, e_1_1, e_1_2, e_1_3, e_1_4, e_1_5, e_2_0, e_2_1, e_2_2, e_2_3, e_3_7, e_3_8, e_3_9, e_3_10, e_3_11, e_3_12, e_3_13, e_11_2, e_13_0, e_13_1, e_13_2, e_13_3, e_14_2, e_14_3, e_14_4, e_14_5, e_14_6, e_14_7, e_21_2, e_23_2, e_25_2, e_27_0, e_27_1, e_27_2, e_27_3, e_27_4, e_27_5, e_27_6, e_28_2, e_30_2, e_32_2, e_34_2, e_36_2, e_40_2, e_40_3, e_41_0, e_41_1, e_41_2, e_41_3, e_41_4, e_41_5, e_91_0, e_91_4, e_91_5, e_91_6, e_91_7, e_92_0, e_92_1, e_92_2, e_92_3, e_93_2, e_93_3, e_93_4, e_93_5, e_93_6, e_93_7, e_100_2, e_102_2, e_104_2, e_110_0, e_110_1, e_110_2, e_110_3, e_112_0, e_112_1, e_112_2, e_112_3, e_113_7, e_113_8, e_113_9, e_113_10, e_113_11, e_113_12, e_113_13, e_121_2, e_124_0, e_124_1, e_124_2, e_124_3, e_124_4, e_124_5, e_124_6, e_124_7, e_124_8, e_124_9, l_4, l_5, l_6, l_7, l_8, l_9, l_10, l_12, l_15, l_16, l_17, l_18, l_19, l_20, l_22, l_24, l_26, l_29, l_31, l_33, l_35, l_37, l_38, l_39, l_41, l_42, l_94, l_95, l_96, l_97, l_98, l_99, l_101, l_103, l_105, l_106, l_107, l_108, l_109, l_111, l_114, l_115, l_116, l_117, l_118, l_119, l_120, l_123, l_125, l_126, l_127, l_128, l_129, l_130, l_131, e_132_1, e_132_2, e_132_4, e_132_6, e_132_8, e_132_9, e_132_10, e_132_11, e_132_12, e_132_18, e_132_19, e_132_20, e_132_21, e_132_22, e_132_23, e_132_24, e_132_25, e_132_29, e_132_36, e_132_38, e_132_40, e_132_41, e_132_42, e_132_44, e_132_46, e_132_47, e_132_49, e_132_50, e_132_51, e_132_52, e_132_54, e_132_55, e_132_56, e_132_58, e_132_60, e_132_61, e_132_62, e_132_66, l_133, l_134, l_135, l_136, l_137, l_138, l_139, l_140, l_141, l_142, l_143, l_144, l_145, l_146, l_147, l_148, l_149, l_150, l_151, l_152, l_153, l_154, l_155, l_156, l_157, l_158, l_159, l_160, l_161, l_162, l_163, l_164, l_165, l_166, l_167, l_168, l_169, l_170, upA, reduceIte, neF]
    · exact Inv_s (by repeat (first | exact ex_rf _ _ _ | refine ex_up ?_ rfl)) h0
  refine pl_s h0 fun m hm => ?_
  have hx : ∀ i, i < n → D 33 (3 * i) = nI (nv (D 33 (3 * i))) ∧ nv (D 33 (3 * i)) ≤ 11 := fun i hi => bI_nv (by decide) (s3 i hi).1
  have hy : ∀ i, i < n → D 33 (3 * i + 1) = nI (nv (D 33 (3 * i + 1))) ∧ nv (D 33 (3 * i + 1)) ≤ 11 := fun i hi => bI_nv (by decide) (s3 i hi).2.1
  obtain ⟨D1, q1, q2, q3⟩ := e_fillNear (kp := kp) (fu := fu) (q := 32) (M := 16) (n := n) (tw := 0) hfu hf2 (x := fun i => nv (D 33 (3 * i))) (y := fun i => nv (D 33 (3 * i + 1))) (e_32_2 kp) l_33 (by decide) hn (by decide) (by decide) (by decide) (fun i hi => ⟨Nat.lt_of_le_of_lt (hx i hi).2 (by decide), Nat.lt_of_le_of_lt (hy i hi).2 (by decide), (s3 i hi).2.2⟩) en (fun i hi => ⟨(hx i hi).1, (hy i hi).1⟩)
  have hN : ∀ p, p < 12 → nrS 0 (fun i => nv (D 33 (3 * i))) (fun i => nv (D 33 (3 * i + 1))) n p < 4096 := fun p _ => nrS_lt (m := 12) (fun i hi => ⟨Nat.lt_of_le_of_lt (hx i hi).2 (by decide), Nat.lt_of_le_of_lt (hy i hi).2 (by decide)⟩) p
  have hmN : ∀ p, p < 12 → (fl 164 (fun j => nI (if j = a then 1 else 0)) 0 12 (ev_up m 132 0 (nI 0))) 163 p = nI (nrS 0 (fun i => nv (D 33 (3 * i))) (fun i => nv (D 33 (3 * i + 1))) n p) := fun p hp => by
    rw [fl_n _ _ _ _ _ (by decide), upN _ _ _ _ (by decide), re_c hm 163 rfl rfl, s4 p hp, seen_nr en hn]
  have hcN : ∀ p, p < 12 → (ev_up (fl 129 (fun _ => nI 0) 0 181 D1) 129 a (nI 1)) 128 p = nI (nrS 0 (fun i => nv (D 33 (3 * i))) (fun i => nv (D 33 (3 * i + 1))) n p) := fun p hp => by
    rw [upN _ _ _ _ (by decide), fl_n _ _ _ _ _ (by decide)]
    exact q2 p hp
  generalize nrS 0 (fun i => nv (D 33 (3 * i))) (fun i => nv (D 33 (3 * i + 1))) n = N at hN hmN hcN
  have bit : ∀ j, (2 ^ a).testBit j = true ↔ j = a := fun j => by rw [pw_bit, decide_eq_true_eq]
  have bit0 : ∀ j, (2 ^ a).testBit j = false ↔ j ≠ a := fun j => by rw [pw_bit, decide_eq_false_iff_not]
  have hcnt : 1 ≤ cnt (tb (2 ^ a)) 12 := cnt_pos 12 (show a < 12 by omega) ((bit a).mpr rfl)
  have R0 : wvR N 0 (2 ^ a) (2 ^ a) (fun _ => 1) (ev_up (fl 129 (fun _ => nI 0) 0 181 D1) 129 a (nI 1)) (fl 164 (fun j => nI (if j = a then 1 else 0)) 0 12 (ev_up m 132 0 (nI 0))) := by
    refine ⟨pw_12 (by omega), pw_12 (by omega), fun _ h => h, fun j hj h => ?_, fun j hj h => ?_, fun p hp h1 h2 => (by rw [h1] at h2; cases h2), ?_, .inr (by omega)⟩
    · have e := (bit j).mp h
      subst e
      exact ⟨Nat.zero_lt_one, upS _ _ _ _, by rw [fl_i _ _ _ _ (by omega) (by omega), if_pos rfl]⟩
    · have e := (bit0 j).mp h
      exact ⟨by rw [upJ _ _ _ _ e, fl_i _ _ _ _ (by omega) (by omega)], by rw [fl_i _ _ _ _ (by omega) (by omega), if_neg e]⟩
    · have h1 := smF_le (p := tb (2 ^ a)) (v := fun _ => 1) (W := 1) 12 fun _ _ _ => Nat.le_refl _
      rw [Nat.mul_one] at h1
      exact Nat.le_trans h1 (Nat.le_of_lt Nat.lt_two_pow_self)
  obtain ⟨x, c', m', x1, x2, x3, x4⟩ := e_wv (kp := kp) (fu := fu) (b := b) (w := w) hfu hN (by omega) hw 11 0 fu fu (2 ^ a) (2 ^ a) (fun _ => 1) _ _ rfl (by omega) (by omega) hcN hmN R0 ((bit0 b).mpr fun e => hab e.symm)
  refine ⟨x, c', m', ?_, ?_, ?_, ?_⟩
  · rw [fX11_waves, i_0, i_11, e_within _ _ _ _ (Nat.zero_le _) ha (by decide), bdS, if_neg (by decide), e_within _ _ _ _ (Nat.zero_le _) hb (by decide), bdS, if_neg (by decide), if_neg (fun e => hab ((nI_eq (by omega) (by omega)).mp e)), i_1, e_within _ _ _ _ (Nat.zero_le _) hw (by decide), bdS, if_neg (by decide), e_1_5, fX3_wavesBetween, e_124_2, e_27_2, i_0, q1, bdS, e_124_7, e_fill0 l_129 (by omega) hf2, bdS, i_11, e_within _ _ _ _ (Nat.zero_le _) ha (by decide), bdS, if_neg (by decide), e_within _ _ _ _ (Nat.zero_le _) hb (by decide), bdS, if_neg (by decide), l_129, gdI (by omega) (by omega), nI_clamp (by omega), i_1, i_31, nI_shl (by omega), x1, bdS]
  · rw [fX12_waves, i_0, i_11, e_isInM _ _ _ _ _ (Nat.zero_le _) ha (by decide), bdS, if_neg (by decide), e_isInM _ _ _ _ _ (Nat.zero_le _) hb (by decide), bdS, if_neg (by decide), if_neg (fun e => hab ((nI_eq (by omega) (by omega)).mp e)), i_1, e_isInM _ _ _ _ _ (Nat.zero_le _) hw (by decide), bdS, if_neg (by decide), e_wv47 (by omega) 12 0 fu _ rfl (by omega), x2]
  · exact ex_cat (ex_tr (ex_sub q3 rfl) (ex_up (fl_ex _ _ _ _ (ex_rf [128, 129] [] _) rfl) rfl)) x3 _ _ rfl rfl
  · exact ex_cat (fl_ex (sc := [164]) (sf := [0]) _ _ _ _ (ex_up (ex_rf _ _ _) rfl) rfl) x4 _ _ rfl rfl
