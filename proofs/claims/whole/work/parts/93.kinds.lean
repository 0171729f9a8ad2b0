/-! ===== text: days, changes, laws ===== -/
section Kinds2
variable {kp fu n R : Nat} {T : Nat → Nat} {D : ev_D}
theorem day_C (hfu : 30000 ≤ fu) (h255 : ∀ i, T i ≤ 255) (hT : ∀ i, i < 400 → D 106 i = nI (T i)) (hn : n ≤ 400) (h1 : D 91 1 = nI n) (h5 : D 3 5 = nI R) (h102 : D 102 1 = nI 16) (h23 : D 23 1 = nI 16) : (match lns (Kq T n) (fun k => decide (k = 276)) (lnD (Kq T n) (Vq T n)) 17 0 [] with
    | .inl (f, i') => teC kp fu T n 2 R D f i'
    | .inr (_, ls) => ls.length ≤ 16 ∧ ∃ c', fX11_text sh_L (sh_E kp) fu 1 (nI 2) D = some (nI ls.length, c') ∧ c' 91 1 = nI 0 ∧ c' 91 2 = nI 0 ∧ c' 91 3 = mi1 ∧ c' 23 0 = nI ls.length ∧ c' 40 0 = nI 0 ∧ (∀ q (h : q < ls.length), c' 24 (3 * q) = nI ls[q].1 ∧ c' 24 (3 * q + 1) = nI ls[q].2.1 ∧ c' 24 (3 * q + 2) = nI ls[q].2.2) ∧ (∀ q j, ¬ tX 2 q j → c' q j = D q j) ∧ ∀ q j, 110 ≤ q → c' q j = D q j) := by
  have h := c_read (kp := kp) (fu := fu) (R := R) (k := 2) (D := D) hfu h255 hT hn h1 (by decide) (bg := fun k => decide (k = 276)) (one := lnD (Kq T n) (Vq T n)) (rd := fX4_readDay sh_L (sh_E kp) fu 91) (P := rwP 102 (fun (a : Nat × Nat × Nat) => (nI a.1, nI a.2.1, nI a.2.2))) (fun t i D g h9 hi => mb1 h255 (.inr (.inl ⟨rfl, rfl⟩)) g h9 hi) (fun X D => by rw [if_neg (show ¬ nI 2 = nI 0 by decide), if_neg (show ¬ nI 2 = nI 1 by decide), if_pos rfl]) (fun t i ls D hl hi hb g h9 hp => c_day (kp := kp) (fu := fu) h255 hl hi (by have := of_decide_eq_true hb; omega) g h9 hp) (fun i ls D v hp => rwP_91 (i := i) (by decide) (fun q j h => by rw [upN _ _ _ _ h]) hp) (fun D2 z1 z2 z3 z4 z5 z6 z7 z8 z9 => ⟨z4, by rw [z8]; exact h102, fun q hq => by cases hq⟩)
  cases e : lns (Kq T n) (fun k => decide (k = 276)) (lnD (Kq T n) (Vq T n)) 17 0 [] with
  | inl x =>
    rw [e] at h
    exact c_er h5 h
  | inr x =>
    obtain ⟨j, ls⟩ := x
    rw [e] at h
    obtain ⟨D3, a1, a2, a3, a4, a5, a6, a7, a8⟩ := h
    obtain ⟨D4, b1, b2, b3, b4⟩ := c_becR (kp := kp) (fu := fu) (t := 23) (s := 102) (c := ls.length) (e_102_2 kp) (e_23_2 kp) l_103 l_24 (by decide) a5.1 (by rw [a7 23 1 (by unfold tX; omega)]; exact h23) a6
    refine ⟨a6, ev_up D4 40 0 (nI 0), ?_, by rw [upN _ _ _ _ (by decide), b4 _ _ (by decide) (by decide)]; exact a2, by rw [upN _ _ _ _ (by decide), b4 _ _ (by decide) (by decide)]; exact a3, by rw [upN _ _ _ _ (by decide), b4 _ _ (by decide) (by decide)]; exact a4, by rw [upN _ _ _ _ (by decide)]; exact b2, upS _ _ _ _, fun q hq => ?_, fun q j hq => ?_, fun q j hq => by rw [upN _ _ _ _ (by omega), b4 q j (by omega) (by omega)]; exact a8 q j hq⟩
    · unfold fX11_text fX7_becomeOne fX2_forget
      rw [e_1_0, e_1_1, e_1_2, e_2_0, h5, a1, bdS, mm1, if_neg (m1N (by omega)), e_2_2, e_91_0, e_13_2, e_92_2, i_0, i_1, i_2, if_neg (show ¬ nI 2 = nI 0 by decide), if_neg (show ¬ nI 2 = nI 1 by decide), if_pos rfl, b1, bdS, bdS, if_pos rfl, bdS]
    · obtain ⟨c1, c2, c3⟩ := a5.2.2 q hq
      rw [upN _ _ _ _ (by decide), b3 _ (by omega), b3 _ (by omega), b3 _ (by omega)]
      exact ⟨c1, c2, c3⟩
    · rw [upA, if_neg (fun z => hq (tX14 (.inr (.inr (.inl z))))), b4 q j (fun z => hq (tX14 (.inl z))) (fun z => hq (tX14 (.inr (.inl z))))]
      exact a7 q j (fun z => hq (tX_4 z))
theorem day_M (hfu : 30000 ≤ fu) (h255 : ∀ i, T i ≤ 255) (hn : n ≤ 400) {t : Nat} (gt : tT T n t) {m : ev_D} (hM : mT T n m) : (match lns (Kq T n) (fun k => decide (k = 276)) (lnD (Kq T n) (Vq T n)) 17 0 [] with
    | .inl (f, i') => ∃ m', fX12_text sh_L (sh_E kp) fu 132 (nI 2) m = some (mi1, m') ∧ m' 132 13 = nI 0 ∧ m' 132 33 = nI f ∧ m' 132 34 = nI (Pq T n i') ∧ (∀ q j, q < 132 → m' q j = m q j) ∧ ∀ q j, ¬ tX 4 q j → m' q j = m q j
    | .inr (_, ls) => ls.length ≤ 16 → ∃ m', fX12_text sh_L (sh_E kp) fu 132 (nI 2) m = some (nI ls.length, m') ∧ m' 132 13 = nI 0 ∧ m' 132 33 = nI 0 ∧ m' 132 34 = mi1 ∧ m' 132 37 = nI ls.length ∧ m' 132 3 = nI 0 ∧ (∀ q (h : q < ls.length), m' 152 (3 * q) = nI ls[q].1 ∧ m' 152 (3 * q + 1) = nI ls[q].2.1 ∧ m' 152 (3 * q + 2) = nI ls[q].2.2) ∧ (∀ q j, q < 132 → m' q j = m q j) ∧ ∀ q j, ¬ tX 2 q j → m' q j = m q j) := by
  have h := m_read (kp := kp) (fu := fu) (k := 2) (m := m) hfu h255 hn gt (by decide) hM (rd := fX12_readDays sh_L (sh_E kp) fu 132) (P := daP) (r := lns (Kq T n) (fun k => decide (k = 276)) (lnD (Kq T n) (Vq T n)) 17 0 []) (fun D => by rw [if_neg (show ¬ nI 2 = nI 1 by decide), if_pos rfl]) (fun m1 g1 M1 _ _ e7 => by
    unfold fX12_readDays
    rw [i_0]
    exact m_lns (kp := kp) (fu := fu) h255 gt (w := 20) (by decide) (line := fun l1 D => fX12_readDay sh_L (sh_E kp) fu 132 (nI 48 + nI 3 * l1) D) (F := fun nf l1 D => fX12_readDays_2 sh_L (sh_E kp) fu nf 132 l1 D) (P := daP) (fun nf l1 D => by
      show fX12_readDays_2 sh_L (sh_E kp) fu (nf + 1) 132 l1 D = _
      rw [fX12_readDays_2, mm1, i_20, i_0, i_1, i_3, i_16, i_48]) (fun i ls D hl hi hk g hM hp => by
      show oN T n t D _ _ (fX12_readDay sh_L (sh_E kp) fu 132 (nI 48 + nI 3 * nI ls.length) D)
      rw [pk_mul, addK]
      exact m_day (kp := kp) hfu h255 hn gt hl hi hk g hM hp) 17 0 [] fu m1 (Nat.zero_le _) (show 16 < 0 + 17 by decide) (show 16 < 0 + fu by omega) (Nat.zero_le _) g1 M1 (fun q hq => by cases hq))
  cases e : lns (Kq T n) (fun k => decide (k = 276)) (lnD (Kq T n) (Vq T n)) 17 0 [] with
  | inl x =>
    rw [e] at h
    exact h
  | inr x =>
    obtain ⟨j, ls⟩ := x
    rw [e] at h
    intro h16
    obtain ⟨m7, a1, a2, a3, a4, a5, a6, a7⟩ := h h16
    obtain ⟨m8, b1, b2, b3, b3', b4⟩ := m_tkD (kp := kp) (fu := fu) (n := ls.length) h16 (D0 := ev_up m7 132 13 (nI 0)) (3 * ls.length) 0 fu (ev_up m7 132 13 (nI 0)) (by omega) (by omega) (fun j hj => by omega) (fun _ _ _ => rfl)
    refine ⟨m8, ?_, by rw [b4 _ _ (by decide) (by decide), upS], by rw [b4 _ _ (by decide) (by decide), upJ _ _ _ _ (by decide)]; exact a2, by rw [b4 _ _ (by decide) (by decide), upJ _ _ _ _ (by decide)]; exact a3, b3, b3', fun q hq => ?_, fun q j hq => ?_, fun q j hq => ?_⟩
    · rw [a1]
      unfold fX12_text_69 fX12_takesOther
      rw [mm1, if_neg (m1N (by omega)), i_0, if_neg (show ¬ nI 2 = nI 0 by decide), i_1, if_neg (show ¬ nI 2 = nI 1 by decide), i_2, if_pos rfl, b1, bdS]
    · obtain ⟨c1, c2, c3⟩ := a5 q hq
      rw [b2 _ (by omega), b2 _ (by omega), b2 _ (by omega), upN _ _ _ _ (by decide)]
      exact ⟨c1, c2, c3⟩
    · rw [b4 q j (by omega) (by omega), upN _ _ _ _ (by omega)]
      exact a6 q j hq
    · rw [b4 q j (fun z => hq (tX14 (.inr (.inr (.inr (.inl z)))))) (fun z => hq (tX14 (.inr (.inr (.inr (.inr z)))))), upA, if_neg (fun z => hq (tXF ⟨z.1, by omega⟩))]
      exact a7 q j (fun z => hq (tX_4 z))
/-! changes -/
theorem chg_C (hfu : 30000 ≤ fu) (h255 : ∀ i, T i ≤ 255) (hT : ∀ i, i < 400 → D 106 i = nI (T i)) (hn : n ≤ 400) (h1 : D 91 1 = nI n) (h5 : D 3 5 = nI R) (h104 : D 104 1 = nI 16) (h25 : D 25 1 = nI 16) : (match lns (Kq T n) (fun k => decide (k = 282)) (lnC (Kq T n) (Vq T n)) 17 0 [] with
    | .inl (f, i') => teC kp fu T n 3 R D f i'
    | .inr (_, ls) => ls.length ≤ 16 ∧ ∃ c', fX11_text sh_L (sh_E kp) fu 1 (nI 3) D = some (nI ls.length, c') ∧ c' 91 1 = nI 0 ∧ c' 91 2 = nI 0 ∧ c' 91 3 = mi1 ∧ c' 25 0 = nI ls.length ∧ (∀ q (h : q < ls.length), c' 26 (3 * q) = nI ls[q]) ∧ (∀ q j, ¬ tX 3 q j → c' q j = D q j) ∧ ∀ q j, 110 ≤ q → c' q j = D q j) := by
  have h := c_read (kp := kp) (fu := fu) (R := R) (k := 3) (D := D) hfu h255 hT hn h1 (by decide) (bg := fun k => decide (k = 282)) (one := lnC (Kq T n) (Vq T n)) (rd := fX4_readChange sh_L (sh_E kp) fu 91) (P := rwP 104 (fun (a : Nat) => (nI a, nI 0, nI 0))) (fun t i D g h9 hi => mb1 h255 (.inr (.inr ⟨rfl, rfl⟩)) g h9 hi) (fun X D => by rw [if_neg (show ¬ nI 3 = nI 0 by decide), if_neg (show ¬ nI 3 = nI 1 by decide), if_neg (show ¬ nI 3 = nI 2 by decide)]) (fun t i ls D hl hi hb g h9 hp => c_change (kp := kp) (fu := fu) hfu h255 hl hi (by have := of_decide_eq_true hb; omega) g h9 hp) (fun i ls D v hp => rwP_91 (i := i) (by decide) (fun q j h => by rw [upN _ _ _ _ h]) hp) (fun D2 z1 z2 z3 z4 z5 z6 z7 z8 z9 => ⟨z5, by rw [z9]; exact h104, fun q hq => by cases hq⟩)
  cases e : lns (Kq T n) (fun k => decide (k = 282)) (lnC (Kq T n) (Vq T n)) 17 0 [] with
  | inl x =>
    rw [e] at h
    exact c_er h5 h
  | inr x =>
    obtain ⟨j, ls⟩ := x
    rw [e] at h
    obtain ⟨D3, a1, a2, a3, a4, a5, a6, a7, a8⟩ := h
    obtain ⟨D4, b1, b2, b3, b4⟩ := c_becR (kp := kp) (fu := fu) (t := 25) (s := 104) (c := ls.length) (e_104_2 kp) (e_25_2 kp) l_105 l_26 (by decide) a5.1 (by rw [a7 25 1 (by unfold tX; omega)]; exact h25) a6
    refine ⟨a6, D4, ?_, by rw [b4 _ _ (by decide) (by decide)]; exact a2, by rw [b4 _ _ (by decide) (by decide)]; exact a3, by rw [b4 _ _ (by decide) (by decide)]; exact a4, b2, fun q hq => ?_, fun q j hq => ?_, fun q j hq => by rw [b4 q j (by omega) (by omega)]; exact a8 q j hq⟩
    · unfold fX11_text fX7_becomeOne
      rw [e_1_0, e_1_2, e_2_0, h5, a1, bdS, mm1, if_neg (m1N (by omega)), e_2_2, e_91_0, e_13_3, e_92_3, i_0, i_1, i_2, i_3, if_neg (show ¬ nI 3 = nI 0 by decide), if_neg (show ¬ nI 3 = nI 1 by decide), if_neg (show ¬ nI 3 = nI 2 by decide), if_pos rfl, b1, bdS, bdS, if_neg (show ¬ nI 3 = nI 2 by decide)]
    · obtain ⟨c1, _, _⟩ := a5.2.2 q hq
      rw [b3 _ (by omega)]
      exact c1
    · rw [b4 q j (fun z => hq (tX15 (.inl z))) (fun z => hq (tX15 (.inr (.inl z))))]
      exact a7 q j (fun z => hq (tX_4 z))
theorem chg_M (hfu : 30000 ≤ fu) (h255 : ∀ i, T i ≤ 255) (hn : n ≤ 400) {t : Nat} (gt : tT T n t) {m : ev_D} (hM : mT T n m) : (match lns (Kq T n) (fun k => decide (k = 282)) (lnC (Kq T n) (Vq T n)) 17 0 [] with
    | .inl (f, i') => ∃ m', fX12_text sh_L (sh_E kp) fu 132 (nI 3) m = some (mi1, m') ∧ m' 132 13 = nI 0 ∧ m' 132 33 = nI f ∧ m' 132 34 = nI (Pq T n i') ∧ (∀ q j, q < 132 → m' q j = m q j) ∧ ∀ q j, ¬ tX 4 q j → m' q j = m q j
    | .inr (_, ls) => ls.length ≤ 16 → ∃ m', fX12_text sh_L (sh_E kp) fu 132 (nI 3) m = some (nI ls.length, m') ∧ m' 132 13 = nI 0 ∧ m' 132 33 = nI 0 ∧ m' 132 34 = mi1 ∧ m' 132 39 = nI ls.length ∧ (∀ q (h : q < ls.length), m' 153 q = nI ls[q]) ∧ (∀ q j, q < 132 → m' q j = m q j) ∧ ∀ q j, ¬ tX 3 q j → m' q j = m q j) := by
  have h := m_read (kp := kp) (fu := fu) (k := 3) (m := m) hfu h255 hn gt (by decide) hM (rd := fX12_readChanges sh_L (sh_E kp) fu 132) (P := chP) (r := lns (Kq T n) (fun k => decide (k = 282)) (lnC (Kq T n) (Vq T n)) 17 0 []) (fun D => by rw [if_neg (show ¬ nI 3 = nI 1 by decide), if_neg (show ¬ nI 3 = nI 2 by decide), if_pos rfl]) (fun m1 g1 M1 _ _ e7 => by
    unfold fX12_readChanges
    rw [i_0]
    exact m_lns (kp := kp) (fu := fu) h255 gt (w := 26) (by decide) (line := fun l1 D => fX12_readChange sh_L (sh_E kp) fu 132 (nI 16 + l1) D) (F := fun nf l1 D => fX12_readChanges_2 sh_L (sh_E kp) fu nf 132 l1 D) (P := chP) (fun nf l1 D => by
      show fX12_readChanges_2 sh_L (sh_E kp) fu (nf + 1) 132 l1 D = _
      rw [fX12_readChanges_2, mm1, i_26, i_0, i_1, i_3, i_16]) (fun i ls D hl hi hk g hM hp => by
      show oN T n t D _ _ (fX12_readChange sh_L (sh_E kp) fu 132 (nI 16 + nI ls.length) D)
      rw [addK]
      exact m_change (kp := kp) hfu h255 hn gt hl hi hk g hM hp) 17 0 [] fu m1 (Nat.zero_le _) (show 16 < 0 + 17 by decide) (show 16 < 0 + fu by omega) (Nat.zero_le _) g1 M1 (fun q hq => by cases hq))
  cases e : lns (Kq T n) (fun k => decide (k = 282)) (lnC (Kq T n) (Vq T n)) 17 0 [] with
  | inl x =>
    rw [e] at h
    exact h
  | inr x =>
    obtain ⟨j, ls⟩ := x
    rw [e] at h
    intro h16
    obtain ⟨m7, a1, a2, a3, a4, a5, a6, a7⟩ := h h16
    obtain ⟨m8, b1, b2, b3, b4⟩ := m_tkC (kp := kp) (fu := fu) (n := ls.length) h16 (D0 := ev_up m7 132 13 (nI 0)) ls.length 0 fu (ev_up m7 132 13 (nI 0)) (by omega) (by omega) (fun j hj => by omega) (fun _ _ _ => rfl)
    refine ⟨m8, ?_, by rw [b4 _ _ (by decide) (by decide), upS], by rw [b4 _ _ (by decide) (by decide), upJ _ _ _ _ (by decide)]; exact a2, by rw [b4 _ _ (by decide) (by decide), upJ _ _ _ _ (by decide)]; exact a3, b3, fun q hq => ?_, fun q j hq => ?_, fun q j hq => ?_⟩
    · rw [a1]
      unfold fX12_text_69 fX12_takesOther
      rw [mm1, if_neg (m1N (by omega)), i_0, if_neg (show ¬ nI 3 = nI 0 by decide), i_1, if_neg (show ¬ nI 3 = nI 1 by decide), i_2, if_neg (show ¬ nI 3 = nI 2 by decide), b1, bdS]
    · rw [b2 _ hq, upN _ _ _ _ (by decide)]
      exact a5 q hq
    · rw [b4 q j (by omega) (by omega), upN _ _ _ _ (by omega)]
      exact a6 q j hq
    · rw [b4 q j (fun z => hq (tX15 (.inr (.inr (.inl z))))) (fun z => hq (tX15 (.inr (.inr (.inr z))))), upA, if_neg (fun z => hq (tXF ⟨z.1, by omega⟩))]
      exact a7 q j (fun z => hq (tX_4 z))
/-! laws -/
def lwC (ls : List lLn) (c : ev_D) : Prop := c 14 0 = nI ls.length ∧ (∀ i (h : i < (fC 0 ls).length), c 19 i = lw_cC (fC 0 ls)[i]) ∧ (∀ q (h : q < ls.length), c 15 q = nI ls[q].1 ∧ c 16 q = nI (lB 0 ls q) ∧ c 17 q = nI (lB 0 ls q + ls[q].2.1.length) ∧ c 18 q = nI (lB 0 ls (q + 1))) ∧ (fC 0 ls).length ≤ 400
def lwM (ls : List lLn) (m : ev_D) : Prop := m 143 0 = nI ls.length ∧ (∀ i (h : i < (fC 1 ls).length), m 148 i = lw_cO (fC 1 ls)[i] ∧ ((fC 1 ls)[i].1 ≤ 1 → m 149 i = nI (fC 1 ls)[i].2)) ∧ (∀ q (h : q < ls.length), m 144 q = nI ls[q].1 ∧ m 145 q = nI (lB 1 ls q) ∧ m 146 q = nI (lB 1 ls q + ls[q].2.1.length) ∧ m 147 q = nI (lB 1 ls (q + 1))) ∧ (fC 1 ls).length ≤ 400
theorem law_C (hfu : 30000 ≤ fu) (h255 : ∀ i, T i ≤ 255) (hT : ∀ i, i < 400 → D 106 i = nI (T i)) (hn : n ≤ 400) (h1 : D 91 1 = nI n) (h5 : D 3 5 = nI R) : (match lns (Kq T n) (fun k => decide (256 ≤ k ∧ k ≤ 258)) (lnL (Kq T n) (Vq T n)) 17 0 [] with
    | .inl (f, i') => teC kp fu T n 0 R D f i'
    | .inr (_, ls) => ls.length ≤ 16 ∧ ∃ c', fX11_text sh_L (sh_E kp) fu 1 (nI 0) D = some (nI ls.length, c') ∧ c' 91 1 = nI 0 ∧ c' 91 2 = nI 0 ∧ c' 91 3 = mi1 ∧ lwC ls c' ∧ (∀ q j, ¬ tX 0 q j → c' q j = D q j) ∧ ∀ q j, 110 ≤ q → c' q j = D q j) := by
  have h := c_read (kp := kp) (fu := fu) (R := R) (k := 0) (D := D) hfu h255 hT hn h1 (by decide) (bg := fun k => decide (256 ≤ k ∧ k ≤ 258)) (one := lnL (Kq T n) (Vq T n)) (rd := fX4_readLaw sh_L (sh_E kp) fu 91) (P := fun i ls D => lwP i ls D ∧ (fC 0 ls).length ≤ 400) (fun t i D g h9 hi => mb0 h255 g h9 hi) (fun X D => by rw [if_pos rfl]) (fun t i ls D hl hi hb g h9 hp => by
    have hh := c_line (kp := kp) (fu := fu) hfu h255 hl hi (of_decide_eq_true hb) g h9 hp.1
    have ht := g.2.2.1
    cases e : lnL (Kq T n) (Vq T n) i with
    | inl x => rw [e] at hh; exact hh
    | inr x =>
      obtain ⟨j, a⟩ := x
      rw [e] at hh
      obtain ⟨D', b1, b2, b3, b4, b5⟩ := hh
      exact ⟨D', b1, b2, b3, ⟨b4, by have := b4.2.2.2; omega⟩, b5⟩) (fun i ls D v hp => ⟨⟨by rw [upN _ _ _ _ (by decide)]; exact hp.1.1, cd_91 hp.1.2.1, fun q hq => by rw [upN _ _ _ _ (by decide), upN _ _ _ _ (by decide), upN _ _ _ _ (by decide), upN _ _ _ _ (by decide)]; exact hp.1.2.2.1 q hq, by have := hp.1.2.2.2; omega⟩, hp.2⟩) (fun D2 z1 z2 z3 z4 z5 z6 z7 z8 z9 => ⟨⟨z1, ⟨z2, fun i hi => (by cases hi)⟩, fun q hq => (by cases hq), Nat.zero_le _⟩, Nat.zero_le _⟩)
  cases e : lns (Kq T n) (fun k => decide (256 ≤ k ∧ k ≤ 258)) (lnL (Kq T n) (Vq T n)) 17 0 [] with
  | inl x =>
    rw [e] at h
    exact c_er h5 h
  | inr x =>
    obtain ⟨j, ls⟩ := x
    rw [e] at h
    obtain ⟨D3, a1, a2, a3, a4, a5, a6, a7, a8⟩ := h
    obtain ⟨D4, b1, b2, b3, b3', b4⟩ := c_becL (kp := kp) (fu := fu) D3
    obtain ⟨⟨p1, p2, p3, p4⟩, p5⟩ := a5
    refine ⟨a6, D4, ?_, by rw [b4 _ _ (by decide)]; exact a2, by rw [b4 _ _ (by decide)]; exact a3, by rw [b4 _ _ (by decide)]; exact a4, ⟨by rw [b2]; exact p1, fun i hi => by rw [b3' i (by omega)]; exact p2.2 i hi, fun q hq => ?_, by omega⟩, fun q j hq => ?_, fun q j hq => by rw [b4 q j (by omega)]; exact a8 q j hq⟩
    · unfold fX11_text fX7_becomeOne
      rw [e_1_0, e_1_2, e_2_0, h5, a1, bdS, mm1, if_neg (m1N (by omega)), e_2_2, e_91_0, e_13_0, e_92_0, i_0, i_2, if_pos rfl, b1, bdS, bdS, if_neg (show ¬ nI 0 = nI 2 by decide)]
    · obtain ⟨c1, c2, c3, c4⟩ := b3 q (by omega)
      rw [c1, c2, c3, c4]
      exact p3 q hq
    · rw [b4 q j (fun z => hq (tX12 (.inl z)))]
      exact a7 q j (fun z => hq (tX_4 z))
theorem law_M (hfu : 30000 ≤ fu) (h255 : ∀ i, T i ≤ 255) (hn : n ≤ 400) {t : Nat} (gt : tT T n t) {m : ev_D} (hM : mT T n m) : (match lns (Kq T n) (fun k => decide (256 ≤ k ∧ k ≤ 258)) (lnL (Kq T n) (Vq T n)) 17 0 [] with
    | .inl (f, i') => ∃ m', fX12_text sh_L (sh_E kp) fu 132 (nI 0) m = some (mi1, m') ∧ m' 132 13 = nI 0 ∧ m' 132 33 = nI f ∧ m' 132 34 = nI (Pq T n i') ∧ (∀ q j, q < 132 → m' q j = m q j) ∧ ∀ q j, ¬ tX 4 q j → m' q j = m q j
    | .inr (_, ls) => ls.length ≤ 16 → ∃ m', fX12_text sh_L (sh_E kp) fu 132 (nI 0) m = some (nI ls.length, m') ∧ m' 132 13 = nI 0 ∧ m' 132 33 = nI 0 ∧ m' 132 34 = mi1 ∧ lwM ls m' ∧ (∀ q j, q < 132 → m' q j = m q j) ∧ ∀ q j, ¬ tX 0 q j → m' q j = m q j) := by
  have h := m_read (kp := kp) (fu := fu) (k := 0) (m := m) hfu h255 hn gt (by decide) hM (rd := fX12_readLaw sh_L (sh_E kp) fu 132) (P := fun ls D' => lmP 400 ls D') (r := lns (Kq T n) (fun k => decide (256 ≤ k ∧ k ≤ 258)) (lnL (Kq T n) (Vq T n)) 17 0 []) (fun D => by rw [if_neg (show ¬ nI 0 = nI 1 by decide), if_neg (show ¬ nI 0 = nI 2 by decide), if_neg (show ¬ nI 0 = nI 3 by decide)]) (fun m1 g1 M1 e27 e28 e7 => by
    unfold fX12_readLaw
    rw [i_0]
    exact m_lawL (kp := kp) hfu h255 hn gt 17 0 [] fu m1 (Nat.zero_le _) (show 16 < 0 + 17 by decide) (show 16 < 0 + fu by omega) (Nat.zero_le _) g1 M1 ⟨⟨e27, fun i hi => (by cases hi)⟩, fun q hq => (by cases hq), Nat.zero_le _, e28⟩)
  cases e : lns (Kq T n) (fun k => decide (256 ≤ k ∧ k ≤ 258)) (lnL (Kq T n) (Vq T n)) 17 0 [] with
  | inl x =>
    rw [e] at h
    exact h
  | inr x =>
    obtain ⟨j, ls⟩ := x
    rw [e] at h
    intro h16
    obtain ⟨m7, a1, a2, a3, a4, ⟨p1, p2, p3, p4⟩, a6, a7⟩ := h h16
    obtain ⟨m8, b1, b2, b2', b3, b4⟩ := m_tk2 (kp := kp) (fu := fu) (n := ls.length) (g := (fC 1 ls).length) hfu h16 p3 (D0 := ev_up m7 132 13 (nI 0)) (by rw [upJ _ _ _ _ (by decide)]; exact a4) (by rw [upJ _ _ _ _ (by decide)]; exact p1.1) ls.length 0 fu (ev_up m7 132 13 (nI 0)) (by omega) (by omega) (fun j z hj => by omega) (fun _ _ _ => rfl)
    refine ⟨m8, ?_, by rw [b4 _ _ (by decide) (by decide) (by decide), upS], by rw [b4 _ _ (by decide) (by decide) (by decide), upJ _ _ _ _ (by decide)]; exact a2, by rw [b4 _ _ (by decide) (by decide) (by decide), upJ _ _ _ _ (by decide)]; exact a3, ⟨b3, fun i hi => ?_, fun q hq => ?_, p3⟩, fun q j hq => ?_, fun q j hq => ?_⟩
    · rw [a1]
      unfold fX12_text_69 fX12_takesLaw
      rw [mm1, if_neg (m1N (by omega)), i_0, if_pos rfl, b1, bdS]
    · obtain ⟨c1, c2⟩ := b2' i hi
      rw [c1, c2, upN _ _ _ _ (by decide), upN _ _ _ _ (by decide)]
      exact p1.2 i hi
    · rw [b2 q 144 hq (by decide) (by decide), b2 q 145 hq (by decide) (by decide), b2 q 146 hq (by decide) (by decide), b2 q 147 hq (by decide) (by decide), upN _ _ _ _ (by decide), upN _ _ _ _ (by decide), upN _ _ _ _ (by decide), upN _ _ _ _ (by decide)]
      exact p2 q hq
    · rw [b4 q j (by omega) (by omega) (by omega), upN _ _ _ _ (by omega)]
      exact a6 q j hq
    · rw [b4 q j (fun z => hq (tX12 (.inr (.inl z)))) (fun z => hq (tX12 (.inr (.inr (.inl z))))) (fun z => hq (tX12 (.inr (.inr (.inr z))))), upA, if_neg (fun z => hq (tXF ⟨z.1, by omega⟩))]
      exact a7 q j (fun z => hq (tX_4 z))
end Kinds2
