/-! ===== text: each kind ===== -/
/-- how the class and the reference end -/
def teC (kp fu : Nat) (T : Nat → Nat) (n k R : Nat) (D : ev_D) (f i : Nat) : Prop := ∃ c', fX11_text sh_L (sh_E kp) fu 1 (nI k) D = some (mi1, c') ∧ c' 91 1 = nI 0 ∧ c' 91 2 = nI f ∧ c' 91 3 = nI (Pq T n i) ∧ (∀ q j, ¬ tX 4 q j → c' q j = D q j) ∧ ∀ q j, 110 ≤ q → c' q j = D q j
section Kinds
variable {kp fu n R : Nat} {T : Nat → Nat} {D : ev_D}
theorem c_er {k f i : Nat} (h5 : D 3 5 = nI R) (h : ∃ D3, fX4_read sh_L (sh_E kp) fu 91 (nI k) (nI R) D = some (mi1, D3) ∧ D3 91 1 = nI 0 ∧ D3 91 2 = nI f ∧ D3 91 3 = nI (Pq T n i) ∧ (∀ q j, ¬ tX 4 q j → D3 q j = D q j) ∧ ∀ q j, 110 ≤ q → D3 q j = D q j) : teC kp fu T n k R D f i := by
  obtain ⟨D3, a1, a2⟩ := h
  refine ⟨D3, ?_, a2⟩
  unfold fX11_text
  rw [e_1_0, e_1_2, e_2_0, h5, a1, bdS, mm1, if_pos rfl]
theorem mb1 {t i k w : Nat} {D : ev_D} (h255 : ∀ i, T i ≤ 255) (hk : (k = 1 ∧ w = 274) ∨ (k = 2 ∧ w = 276) ∨ (k = 3 ∧ w = 282)) (g : tkC T n t D) (h9 : D 91 9 = nI i) (hi : i ≤ t) : fX4_mayBegin sh_L (sh_E kp) fu 91 (nI k) D = some (nI (decide (Kq T n i = w)).toNat, D) := by
  have hK := Kq_b (n := n) h255 i
  have hd : ∀ w, w < 283 → (if nI (Kq T n i) = nI w then some (nI 1, D) else some (nI 0, D)) = some (nI (decide (Kq T n i = w)).toNat, D) := fun w hw => by
    by_cases e : Kq T n i = w
    · rw [if_pos (congrArg nI e), decide_eq_true e]; rfl
    · rw [if_neg (fun z => e ((nI_eq (by omega) (by omega)).mp z)), decide_eq_false e]; rfl
  unfold fX4_mayBegin
  rcases hk with ⟨rfl, rfl⟩ | ⟨rfl, rfl⟩ | ⟨rfl, rfl⟩
  · rw [i_0, i_1, if_neg (show ¬ nI 1 = nI 0 by decide), if_pos rfl, c_kind g h9 hi, bdS, i_274]
    exact hd 274 (by decide)
  · rw [i_0, i_1, i_2, if_neg (show ¬ nI 2 = nI 0 by decide), if_neg (show ¬ nI 2 = nI 1 by decide), if_pos rfl, c_kind g h9 hi, bdS, i_276]
    exact hd 276 (by decide)
  · rw [i_0, i_1, i_2, if_neg (show ¬ nI 3 = nI 0 by decide), if_neg (show ¬ nI 3 = nI 1 by decide), if_neg (show ¬ nI 3 = nI 2 by decide), c_kind g h9 hi, bdS, i_282]
    exact hd 282 (by decide)
theorem mb0 {t i : Nat} {D : ev_D} (h255 : ∀ i, T i ≤ 255) (g : tkC T n t D) (h9 : D 91 9 = nI i) (hi : i ≤ t) : fX4_mayBegin sh_L (sh_E kp) fu 91 (nI 0) D = some (nI (decide (256 ≤ Kq T n i ∧ Kq T n i ≤ 258)).toNat, D) := by
  have hK := Kq_b (n := n) h255 i
  unfold fX4_mayBegin
  rw [i_0, if_pos rfl, c_kind g h9 hi, bdS, i_256, i_258]
  by_cases e : 256 ≤ Kq T n i ∧ Kq T n i ≤ 258
  · rw [e_within _ _ _ _ e.1 e.2 (by decide), bdS, decide_eq_true e]
    rfl
  · rw [e_within0 _ _ _ _ (by
      by_cases q : 256 ≤ Kq T n i
      · exact .inr (nI_lt (by omega) (by omega))
      · exact .inl (nI_lt (by omega) (by omega))), bdS, decide_eq_false e]
    rfl
/-! ropes -/
theorem rope_C (hfu : 30000 ≤ fu) (h255 : ∀ i, T i ≤ 255) (hT : ∀ i, i < 400 → D 106 i = nI (T i)) (hn : n ≤ 400) (h1 : D 91 1 = nI n) (h5 : D 3 5 = nI R) (hR : R ≤ 10) (h100 : D 100 1 = nI 16) (h21 : D 21 1 = nI 16) : (match lns (Kq T n) (fun k => decide (k = 274)) (lnR (Kq T n) (Vq T n) R) 17 0 [] with
    | .inl (f, i') => teC kp fu T n 1 R D f i'
    | .inr (_, ls) => ls.length ≤ 16 ∧ ∃ c', fX11_text sh_L (sh_E kp) fu 1 (nI 1) D = some (nI ls.length, c') ∧ c' 91 1 = nI 0 ∧ c' 91 2 = nI 0 ∧ c' 91 3 = mi1 ∧ c' 21 0 = nI ls.length ∧ (∀ q (h : q < ls.length), c' 22 (3 * q) = nI ls[q].1 ∧ c' 22 (3 * q + 1) = nI ls[q].2) ∧ (∀ q j, ¬ tX 1 q j → c' q j = D q j) ∧ ∀ q j, 110 ≤ q → c' q j = D q j) := by
  have h := c_read (kp := kp) (fu := fu) (R := R) (k := 1) (D := D) hfu h255 hT hn h1 (by decide) (bg := fun k => decide (k = 274)) (one := lnR (Kq T n) (Vq T n) R) (rd := fX4_readRope sh_L (sh_E kp) fu 91) (P := fun i ls D => rwP 100 (fun (a : Nat × Nat) => (nI a.1, nI a.2, nI 0)) i ls D ∧ D 91 11 = nI R) (fun t i D g h9 hi => mb1 h255 (.inl ⟨rfl, rfl⟩) g h9 hi) (fun X D => by rw [if_neg (show ¬ nI 1 = nI 0 by decide), if_pos rfl]) (fun t i ls D hl hi hb g h9 hp => c_rope (kp := kp) (fu := fu) h255 hR hl hi (by have := of_decide_eq_true hb; omega) g h9 hp.2 hp.1) (fun i ls D v hp => ⟨rwP_91 (i := i) (by decide) (fun q j h => by rw [upN _ _ _ _ h]) hp.1, by rw [upJ _ _ _ _ (by decide)]; exact hp.2⟩) (fun D2 z1 z2 z3 z4 z5 z6 z7 z8 z9 => ⟨⟨z3, by rw [z7]; exact h100, fun q hq => by cases hq⟩, z6⟩)
  cases e : lns (Kq T n) (fun k => decide (k = 274)) (lnR (Kq T n) (Vq T n) R) 17 0 [] with
  | inl x =>
    rw [e] at h
    exact c_er h5 h
  | inr x =>
    obtain ⟨j, ls⟩ := x
    rw [e] at h
    obtain ⟨D3, a1, a2, a3, a4, a5, a6, a7, a8⟩ := h
    obtain ⟨D4, b1, b2, b3, b4⟩ := c_becR (kp := kp) (fu := fu) (t := 21) (s := 100) (c := ls.length) (e_100_2 kp) (e_21_2 kp) l_101 l_22 (by decide) a5.1.1 (by rw [a7 21 1 (by unfold tX; omega)]; exact h21) a6
    refine ⟨a6, D4, ?_, by rw [b4 _ _ (by decide) (by decide)]; exact a2, by rw [b4 _ _ (by decide) (by decide)]; exact a3, by rw [b4 _ _ (by decide) (by decide)]; exact a4, b2, fun q hq => ?_, fun q j hq => ?_, fun q j hq => by rw [b4 q j (by omega) (by omega)]; exact a8 q j hq⟩
    · unfold fX11_text fX7_becomeOne
      rw [e_1_0, e_1_2, e_2_0, h5, a1, bdS, mm1, if_neg (m1N (by omega)), e_2_2, e_91_0, e_13_1, e_92_1, i_0, i_1, i_2, if_neg (show ¬ nI 1 = nI 0 by decide), if_pos rfl, b1, bdS, bdS, if_neg (show ¬ nI 1 = nI 2 by decide)]
    · obtain ⟨c1, c2, _⟩ := a5.1.2.2 q hq
      rw [b3 _ (by omega), b3 _ (by omega)]
      exact ⟨c1, c2⟩
    · rw [b4 q j (fun z => hq (tX13 (.inl z))) (fun z => hq (tX13 (.inr (.inl z))))]
      exact a7 q j (fun z => hq (tX_4 z))
theorem rope_fill {m0 : ev_D} (k : Nat) : ∀ (i f : Nat) (m : ev_D), i + k = 10 → k < f → (∀ j, j < i → m 151 (10 + j) = nI 0) → (∀ q j, ¬ (q = 151 ∧ 10 ≤ j) → m q j = m0 q j) → ∃ m', fX12_readRopes_2 sh_L (sh_E kp) fu f 132 (nI i) m = fX12_readRopes_26 sh_L (sh_E kp) fu fu 132 (nI 0) m' ∧ (∀ j, j < 10 → m' 151 (10 + j) = nI 0) ∧ ∀ q j, ¬ (q = 151 ∧ 10 ≤ j) → m' q j = m0 q j := by
  induction k with
  | zero =>
    intro i f m hi hf h1 h2
    obtain ⟨f, rfl⟩ : ∃ f', f = f' + 1 := ⟨f - 1, by omega⟩
    refine ⟨m, ?_, fun j hj => h1 j (by omega), h2⟩
    rw [fX12_readRopes_2, i_10, if_pos (nI_le (by omega) (by omega))]
    rfl
  | succ k ih =>
    intro i f m hi hf h1 h2
    obtain ⟨f, rfl⟩ : ∃ f', f = f' + 1 := ⟨f - 1, by omega⟩
    rw [fX12_readRopes_2, i_10, if_neg (nI_ge (by omega) (by omega)), e_132_36, l_151, addK, gdI (by omega) (by omega), nI_clamp (by omega), i_1, addK, i_0]
    refine ih (i + 1) f _ (by omega) (by omega) (fun j hj => ?_) (fun q j a => by rw [upA, if_neg (by omega)]; exact h2 q j a)
    by_cases e : j = i
    · rw [e, upS]
    · rw [upJ _ _ _ _ (by omega)]; exact h1 j (by omega)
theorem rope_M (hfu : 30000 ≤ fu) (h255 : ∀ i, T i ≤ 255) (hn : n ≤ 400) {t : Nat} (gt : tT T n t) (hR : R ≤ 10) {m : ev_D} (hM : mT T n m) (h7 : m 132 7 = nI R) : (match lns (Kq T n) (fun k => decide (k = 274)) (lnR (Kq T n) (Vq T n) R) 17 0 [] with
    | .inl (f, i') => ∃ m', fX12_text sh_L (sh_E kp) fu 132 (nI 1) m = some (mi1, m') ∧ m' 132 13 = nI 0 ∧ m' 132 33 = nI f ∧ m' 132 34 = nI (Pq T n i') ∧ (∀ q j, q < 132 → m' q j = m q j) ∧ ∀ q j, ¬ tX 4 q j → m' q j = m q j
    | .inr (_, ls) => ls.length ≤ 16 → ∃ m', fX12_text sh_L (sh_E kp) fu 132 (nI 1) m = some (nI ls.length, m') ∧ m' 132 13 = nI 0 ∧ m' 132 33 = nI 0 ∧ m' 132 34 = mi1 ∧ m' 132 35 = nI ls.length ∧ (∀ r, r < 10 → m' 151 r = nI (rfel ls r)) ∧ (∀ q j, q < 132 → m' q j = m q j) ∧ ∀ q j, ¬ tX 1 q j → m' q j = m q j) := by
  have h := m_read (kp := kp) (fu := fu) (k := 1) (m := m) hfu h255 hn gt (by decide) hM (rd := fX12_readRopes sh_L (sh_E kp) fu 132) (P := roP R) (r := lns (Kq T n) (fun k => decide (k = 274)) (lnR (Kq T n) (Vq T n) R) 17 0 []) (fun D => by rw [if_pos rfl]) (fun m1 g1 M1 _ _ e7 => by
    unfold fX12_readRopes
    rw [i_0]
    obtain ⟨m2, a1, a2, a3⟩ := rope_fill (kp := kp) (fu := fu) (m0 := m1) 10 0 fu m1 (by omega) (by omega) (fun j hj => by omega) (fun _ _ _ => rfl)
    rw [a1]
    have f2 : fg m2 m1 := fun q j hq => a3 q j (fun z => hq (.inr (.inr (.inl z))))
    refine oL_tr f2 ?_
    exact m_lns (kp := kp) (fu := fu) h255 gt (w := 18) (by decide) (line := fun _ D => fX12_readRope sh_L (sh_E kp) fu 132 D) (F := fun nf l1 D => fX12_readRopes_26 sh_L (sh_E kp) fu nf 132 l1 D) (P := roP R) (fun nf l1 D => by
      show fX12_readRopes_26 sh_L (sh_E kp) fu (nf + 1) 132 l1 D = _
      rw [fX12_readRopes_26, mm1, i_18, i_0, i_1, i_3, i_16]) (fun i ls D hl hi hk g hM hp => m_rope (kp := kp) hfu h255 hn gt hR hi hk g hM hp) 17 0 [] fu m2 (Nat.zero_le _) (show 16 < 0 + 17 by decide) (show 16 < 0 + fu by omega) (Nat.zero_le _) (RS_of (fun j hj => a3 _ _ (by omega)) g1) (mT_fg f2 M1) ⟨by rw [a3 _ _ (by omega), e7]; exact h7, fun r hr => a2 r hr⟩)
  cases e : lns (Kq T n) (fun k => decide (k = 274)) (lnR (Kq T n) (Vq T n) R) 17 0 [] with
  | inl x =>
    rw [e] at h
    exact h
  | inr x =>
    obtain ⟨j, ls⟩ := x
    rw [e] at h
    intro h16
    obtain ⟨m7, a1, a2, a3, a4, a5, a6, a7⟩ := h h16
    obtain ⟨m8, b1, b2, b3, b4⟩ := m_tkR (kp := kp) (fu := fu) (n := ls.length) (D0 := ev_up m7 132 13 (nI 0)) 10 0 fu (ev_up m7 132 13 (nI 0)) (by omega) (by omega) (fun j hj => by omega) (fun _ _ _ => rfl)
    refine ⟨m8, ?_, by rw [b4 _ _ (by decide) (by decide), upS], by rw [b4 _ _ (by decide) (by decide), upJ _ _ _ _ (by decide)]; exact a2, by rw [b4 _ _ (by decide) (by decide), upJ _ _ _ _ (by decide)]; exact a3, b3, fun r hr => ?_, fun q j hq => ?_, fun q j hq => ?_⟩
    · rw [a1]
      unfold fX12_text_69 fX12_takesOther
      rw [mm1, if_neg (m1N (by omega)), i_0, if_neg (show ¬ nI 1 = nI 0 by decide), i_1, if_pos rfl, b1, bdS]
    · rw [b2 r hr, upN _ _ _ _ (by decide)]
      exact a5.2 r hr
    · rw [b4 q j (by omega) (by omega), upN _ _ _ _ (by omega)]
      exact a6 q j hq
    · rw [b4 q j (fun z => hq (tX13 (.inr (.inr (.inl z))))) (fun z => hq (tX13 (.inr (.inr (.inr z))))), upA, if_neg (fun z => hq (tXF ⟨z.1, by omega⟩))]
      exact a7 q j (fun z => hq (tX_4 z))
end Kinds
