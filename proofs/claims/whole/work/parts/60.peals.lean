/-! ===== an opinion: from -9 to 9 ===== -/
theorem op_eq {v : Int32} {o : Nat} (h : v + nI 9 = nI o) : v = nI o - nI 9 := by rw [← h]; exact (Int32.add_sub_cancel _ _).symm
theorem op_int {v : Int32} {o : Nat} (h : v + nI 9 = nI o) (ho : o ≤ 18) : v.toInt = (o : Int) - 9 := by
  rw [op_eq h, pk_sub_toInt (by omega) (by decide)]; rfl
theorem bm32 {a : Int} (h1 : -1000000 ≤ a) (h2 : a ≤ 1000000) : Int.bmod a (2 ^ 32) = a := by
  apply Int.bmod_eq_of_le <;> omega
theorem ti_inj {a b : Int32} (h : a.toInt = b.toInt) : a = b := Int32.toInt_inj.mp h
theorem op_ix {v : Int32} {o i : Nat} (h : v + nI 9 = nI o) (ho : o ≤ 18) (hi : i ≤ 1000) : (i + 9 < o → nI i - v < nI 0) ∧ (o ≤ i + 9 → nI i - v = nI (i + 9 - o)) := by
  have e : (nI i - v).toInt = (i : Int) + 9 - o := by
    rw [Int32.toInt_sub, op_int h ho, nI_toInt (by omega), bm32 (by omega) (by omega)]
    omega
  refine ⟨fun h1 => ?_, fun h1 => ti_inj ?_⟩
  · rw [Int32.lt_iff_toInt_lt, e, nI_toInt (by decide)]
    omega
  · rw [e, nI_toInt (by omega)]
    omega
/-- opinions told: their numbers from 0 to 18 -/
def opN (D : ev_D) (q : Nat) (o : Nat → Nat) : Prop := ∀ r, r < 10 → D q r + nI 9 = nI (o r) ∧ o r ≤ 18
def opX (o : Nat → Nat) (r : Nat) : Int := (o r : Int) - 9
section
variable {kp fu R A : Nat} {o : Nat → Nat} {D : ev_D}
theorem opX_b (ho : ∀ r, o r ≤ 18) (i : Nat) : -9 ≤ opX o i ∧ opX o i ≤ 9 := by
  have := ho i
  unfold opX
  omega
theorem cR_big {Aw : Nat → Bool} (ho : ∀ r, o r ≤ 18) {k : Nat} {u : Int} (hu : 9 * (k : Int) < u ∨ u < -(9 * (k : Int))) : cR Aw (opX o) k (fun t => decide (t = u)) = 0 := by
  rw [cR_cg (opX_b ho) k _ (fun _ => false) fun t h1 h2 => decide_eq_false (by omega), cR_0]
/-- the rows of sums after k -/
def waysP (Aw : Nat → Bool) (o : Nat → Nat) (k : Nat) (D : ev_D) (q : Nat) : Prop := ∀ i, i < 181 → D q i = nI (cR Aw (opX o) k (fun t => decide (t = (i : Int) - 90)))
theorem e_cs58 (ho : ∀ r, o r ≤ 18) {Aw : Nat → Bool} (K : Nat → Int32 → Int32 → ev_D → ev_Op) (but : Int32) {r : Nat} (hr : r < 10) (hA : Aw r = true) (k : Nat) : ∀ (i f : Nat) (D : ev_D), i + k = 181 → k < f → opN D 39 o → waysP Aw o r D 130 → (∀ j, i ≤ j → j < 181 → D 129 j = D 130 j) → (∀ j, j < i → D 129 j = nI (cR Aw (opX o) (r + 1) (fun t => decide (t = (j : Int) - 90)))) → ∃ D', fX3_countSets_58 sh_L (sh_E kp) fu K f 124 but (nI r) (nI i) D = K 124 but (nI (r + 1)) D' ∧ waysP Aw o (r + 1) D' 129 ∧ ex [129] [] D' D := by
  induction k with
  | zero =>
    intro i f D h1 h2 hO hW hu hd
    obtain ⟨f, rfl⟩ : ∃ g, f = g + 1 := ⟨f - 1, by omega⟩
    exact ⟨D, by rw [fX3_countSets_58, e_124_7, l_129, ofN, if_pos (nI_le (by omega) (by omega)), i_1, addK], fun j hj => hd j (by omega), ex_rf _ _ _⟩
  | succ k ih =>
    intro i f D h1 h2 hO hW hu hd
    obtain ⟨f, rfl⟩ : ∃ g, f = g + 1 := ⟨f - 1, by omega⟩
    obtain ⟨o1, o2⟩ := hO r hr
    obtain ⟨x1, x2⟩ := op_ix (i := i) o1 o2 (by omega)
    have hnew : cR Aw (opX o) (r + 1) (fun t => decide (t = (i : Int) - 90)) = cR Aw (opX o) r (fun t => decide (t = (i : Int) - 90)) + cR Aw (opX o) r (fun t => decide (t = ((i : Int) + 9 - o r) - 90)) := by
      rw [cR, hA, if_pos rfl]
      congr 2
      funext t
      exact decide_eq_decide.mpr (by unfold opX; omega)
    have hi130 := hW i (by omega)
    have hi129 : D 129 i = nI (cR Aw (opX o) r (fun t => decide (t = (i : Int) - 90))) := by rw [hu i (by omega) (by omega)]; exact hi130
    have fin : ∀ v, v = nI (cR Aw (opX o) (r + 1) (fun t => decide (t = (i : Int) - 90))) → ∃ D', fX3_countSets_58 sh_L (sh_E kp) fu K f 124 but (nI r) (nI (i + 1)) (ev_up D 129 i v) = K 124 but (nI (r + 1)) D' ∧ waysP Aw o (r + 1) D' 129 ∧ ex [129] [] D' D := by
      intro v hv
      obtain ⟨D', r1, r2, r3⟩ := ih (i + 1) f (ev_up D 129 i v) (by omega) (by omega) (fun q hq => by rw [upN _ _ _ _ (by decide)]; exact hO q hq) (fun j hj => by rw [upN _ _ _ _ (by decide)]; exact hW j hj) (fun j h3 h4 => by rw [upJ _ _ _ _ (by omega), upN _ _ _ _ (by decide)]; exact hu j (by omega) h4) (fun j hj => by
        by_cases e : j = i
        · subst e; rw [upS]; exact hv
        · rw [upJ _ _ _ _ e]; exact hd j (by omega))
      exact ⟨D', r1, r2, ex_tr (ex_up (ex_rf _ _ _) rfl) r3⟩
    by_cases hneg : i + 9 < o r
    · have hz : cR Aw (opX o) r (fun t => decide (t = ((i : Int) + 9 - o r) - 90)) = 0 := cR_big ho (.inr (by omega))
      obtain ⟨D', q1, q2⟩ := fin (D 129 i + nI 0) (by rw [hi129, addK, hnew, hz])
      refine ⟨D', ?_, q2⟩
      rw [← q1, fX3_countSets_58, e_124_7, l_129, ofN, if_neg (nI_ge (by omega) (by omega)), e_124_2, e_27_6, l_39, gdI hr (by omega), gdI (by omega) (by omega), nI_clamp (by omega), nI_clamp (by omega), i_0, if_pos (x1 hneg), gdI (by omega) (by omega), i_1, addK]
    · have x3 := x2 (by omega)
      by_cases hbig : 181 ≤ i + 9 - o r
      · have hz : cR Aw (opX o) r (fun t => decide (t = ((i : Int) + 9 - o r) - 90)) = 0 := cR_big ho (.inl (by omega))
        obtain ⟨D', q1, q2⟩ := fin (D 129 i + nI 0) (by rw [hi129, addK, hnew, hz])
        refine ⟨D', ?_, q2⟩
        rw [← q1, fX3_countSets_58, e_124_7, l_129, ofN, if_neg (nI_ge (by omega) (by omega)), e_124_2, e_27_6, l_39, gdI hr (by omega), gdI (by omega) (by omega), nI_clamp (by omega), nI_clamp (by omega), x3, i_0, if_neg (nI_nlt (by omega) (by omega)), if_pos (nI_le hbig (by omega)), gdI (by omega) (by omega), i_1, addK]
      · have h130 := hW (i + 9 - o r) (by omega)
        have ecast : ((i + 9 - o r : Nat) : Int) = (i : Int) + 9 - o r := by omega
        rw [ecast] at h130
        obtain ⟨D', q1, q2⟩ := fin (D 129 i + D 130 (i + 9 - o r)) (by rw [hi129, h130, addK, hnew])
        refine ⟨D', ?_, q2⟩
        rw [← q1, fX3_countSets_58, e_124_7, l_129, ofN, if_neg (nI_ge (by omega) (by omega)), e_124_2, e_27_6, l_39, gdI hr (by omega), gdI (by omega) (by omega), nI_clamp (by omega), nI_clamp (by omega), x3, i_0, if_neg (nI_nlt (by omega) (by omega)), if_neg (nI_ge (by omega) (by omega)), e_124_8, l_130, gdI (by omega) (by omega), gdI (by omega) (by omega), nI_clamp (by omega), i_1, addK]
theorem e_cs18 (hfu : 30000 ≤ fu) (ho : ∀ r, o r ≤ 18) (hR : R ≤ 10) (hA : A < 1024) {but : Int32} {Aw : Nat → Bool} (hAw : ∀ r, r < R → Aw r = (A.testBit r && !(decide (nI r = but)))) (k : Nat) : ∀ (r f : Nat) (D : ev_D), r + k = R → k < f → D 3 5 = nI R → D 3 6 = nI A → opN D 39 o → waysP Aw o r D 129 → ∃ D', fX3_countSets_18 sh_L (sh_E kp) fu f 124 but (nI r) D = some (nI 0, D') ∧ waysP Aw o R D' 129 ∧ ex [129, 130] [] D' D := by
  induction k with
  | zero =>
    intro r f D h1 h2 e5 e6 hO hW
    obtain ⟨f, rfl⟩ : ∃ g, f = g + 1 := ⟨f - 1, by omega⟩
    have e : r = R := by omega
    subst e
    exact ⟨D, by rw [fX3_countSets_18, e_124_0, e5, if_pos (nI_le (Nat.le_refl _) (by omega)), i_0], hW, ex_rf _ _ _⟩
  | succ k ih =>
    intro r f D h1 h2 e5 e6 hO hW
    obtain ⟨f, rfl⟩ : ∃ g, f = g + 1 := ⟨f - 1, by omega⟩
    have hr := hAw r (by omega)
    have w1 := e_isAwakeC sh_L (sh_E kp) fu 3 (show r < R by omega) hR e5 e6 hA
    have skip : Aw r = false → ∃ D', fX3_countSets_18 sh_L (sh_E kp) fu f 124 but (nI (r + 1)) D = some (nI 0, D') ∧ waysP Aw o R D' 129 ∧ ex [129, 130] [] D' D := fun hn => ih (r + 1) f D (by omega) (by omega) e5 e6 hO (fun i hi => by rw [hW i hi, cR, hn, if_neg (by decide), Nat.add_zero])
    by_cases hb : nI r = but
    · obtain ⟨D', q1, q2⟩ := skip (by rw [hr, decide_eq_true hb, Bool.not_true, Bool.and_false])
      refine ⟨D', ?_, q2⟩
      rw [fX3_countSets_18, e_124_0, e5, if_neg (nI_ge (by omega) (by omega)), if_pos hb, i_1, addK]
      exact q1
    · rw [decide_eq_false hb, Bool.not_false, Bool.and_true] at hr
      cases hAr : A.testBit r with
      | false =>
        rw [hAr] at w1
        obtain ⟨D', q1, q2⟩ := skip (by rw [hr, hAr])
        refine ⟨D', ?_, q2⟩
        rw [fX3_countSets_18, e_124_0, e5, if_neg (nI_ge (by omega) (by omega)), if_neg hb, w1, bdS, i_0, if_pos bF, i_1, addK]
        exact q1
      | true =>
        rw [hAr] at w1
        have ec : ex [130] [] (ev_cpD D 129 130 0 0 181) D := fun q x a _ => by
          rw [cpA, if_neg]
          rintro ⟨rfl, -⟩
          cases a
        have c130 : ∀ j, j < 181 → (ev_cpD D 129 130 0 0 181) 130 j = D 129 j := fun j hj => by rw [cpA, if_pos ⟨rfl, hj⟩]
        have c129 : ∀ j, (ev_cpD D 129 130 0 0 181) 129 j = D 129 j := fun j => ex_at ec rfl j
        obtain ⟨D1, q1, q2, q3⟩ := e_cs58 (kp := kp) (fu := fu) ho (fX3_countSets_18 sh_L (sh_E kp) fu f) but (show r < 10 by omega) (show Aw r = true by rw [hr, hAr]) 181 0 fu (ev_cpD D 129 130 0 0 181) rfl (by omega) (fun q hq => by rw [ex_at ec rfl]; exact hO q hq) (fun i hi => by rw [c130 i hi]; exact hW i hi) (fun j _ hj => by rw [c129, c130 j hj]) (fun j hj => by omega)
        have e1 : ex [129, 130] [] D1 D := ex_cat ec q3 _ _ rfl rfl
        obtain ⟨D', s1, s2, s3⟩ := ih (r + 1) f D1 (by omega) (by omega) (by rw [ex_at e1 rfl]; exact e5) (by rw [ex_at e1 rfl]; exact e6) (fun q hq => by rw [ex_at e1 rfl]; exact hO q hq) q2
        refine ⟨D', ?_, s2, ex_tr e1 s3⟩
        rw [fX3_countSets_18, e_124_0, e5, if_neg (nI_ge (by omega) (by omega)), if_neg hb, w1, bdS, i_0, if_neg (by decide), e_124_7, e_124_8, e_copy _ l_129 l_130 (by decide) (by decide), bdS, q1]
        exact s1
theorem e_countSets (hfu : 30000 ≤ fu) (hf2 : fu < 2 ^ 31) (ho : ∀ r, o r ≤ 18) (hR : R ≤ 10) (hA : A < 1024) {but : Int32} {Aw : Nat → Bool} (hAw : ∀ r, r < R → Aw r = (A.testBit r && !(decide (nI r = but)))) (e5 : D 3 5 = nI R) (e6 : D 3 6 = nI A) (hO : opN D 39 o) : ∃ D', fX3_countSets sh_L (sh_E kp) fu 124 but D = some (nI 0, D') ∧ waysP Aw o R D' 129 ∧ ex [129, 130] [] D' D := by
  have e0 : ex [129] [] (ev_up (fl 129 (fun _ => nI 0) 0 181 D) 129 90 (nI 1)) D := ex_up (fl_ex _ _ _ _ (ex_rf _ _ _) rfl) rfl
  obtain ⟨D', q1, q2, q3⟩ := e_cs18 (kp := kp) (fu := fu) hfu ho hR hA hAw R 0 fu (ev_up (fl 129 (fun _ => nI 0) 0 181 D) 129 90 (nI 1)) (by omega) (by omega) (by rw [ex_at e0 rfl]; exact e5) (by rw [ex_at e0 rfl]; exact e6) (fun q hq => by rw [ex_at e0 rfl]; exact hO q hq) (fun i hi => by
    rw [cR]
    by_cases e : i = 90
    · subst e; rw [upS]; rfl
    · rw [upJ _ _ _ _ e, fl_i _ _ _ _ (by omega) (by omega), decide_eq_false (show ¬ (0 : Int) = (i : Int) - 90 by omega)]; rfl)
  refine ⟨D', ?_, q2, ex_tr (ex_sub e0 rfl) q3⟩
  rw [fX3_countSets, e_124_7, i_0, e_fill0 l_129 (by omega) hf2, bdS, i_90, l_129, gdI (by decide) (by decide), nI_clamp (by decide), i_1]
  exact q1
theorem e_swC {Aw : Nat → Bool} (hW : waysP Aw o R D 129) (k : Nat) : ∀ (i f s : Nat), i + k = 91 → k < f → fX3_swings_9 sh_L (sh_E kp) fu f 124 (nI s) (nI i) D = some (nI (up (fun i s => s + cR Aw (opX o) R (fun t => decide (t = (i : Int)))) i k s), D) := by
  induction k with
  | zero =>
    intro i f s h1 h2
    obtain ⟨f, rfl⟩ : ∃ g, f = g + 1 := ⟨f - 1, by omega⟩
    rw [fX3_swings_9, i_90, if_pos (nI_lt (by omega) (by omega)), up_0]
  | succ k ih =>
    intro i f s h1 h2
    obtain ⟨f, rfl⟩ : ∃ g, f = g + 1 := ⟨f - 1, by omega⟩
    have hw := hW (90 + i) (by omega)
    rw [show ((90 + i : Nat) : Int) - 90 = (i : Int) by omega] at hw
    rw [fX3_swings_9, i_90, if_neg (nI_nlt (by omega) (by omega)), addK, e_124_7, l_129, gdI (by omega) (by omega), nI_clamp (by omega), hw, addK, i_1, addK, up_s]
    exact ih (i + 1) f _ (by omega) (by omega)
theorem neg_ix {i : Nat} (hi : i ≤ 200) : nI 90 + (nI i - nI 90) = nI i ∧ (nI i - nI 90) + nI 1 = nI (i + 1) - nI 90 ∧ ((nI 0 < nI i - nI 90) ↔ 90 < i) := by
  have e : (nI i - nI 90).toInt = (i : Int) - 90 := pk_sub_toInt (by omega) (by decide)
  refine ⟨ti_inj ?_, ti_inj ?_, ?_⟩
  · rw [Int32.toInt_add, e, nI_toInt (by decide), nI_toInt (by omega), bm32 (by omega) (by omega)]; omega
  · rw [Int32.toInt_add, e, nI_toInt (by decide), pk_sub_toInt (by omega) (by decide), bm32 (by omega) (by omega)]; omega
  · rw [Int32.lt_iff_toInt_lt, e, nI_toInt (by decide)]; omega
theorem e_tuC {Aw : Nat → Bool} (hW : waysP Aw o R D 129) (k : Nat) : ∀ (i f s : Nat), i + k = 91 → k < f → fX3_turns_32 sh_L (sh_E kp) fu f 124 (nI s) (nI i - nI 90) D = some (nI (up (fun i s => s + cR Aw (opX o) R (fun t => decide (t = (i : Int) - 90))) i k s), D) := by
  induction k with
  | zero =>
    intro i f s h1 h2
    obtain ⟨f, rfl⟩ : ∃ g, f = g + 1 := ⟨f - 1, by omega⟩
    rw [fX3_turns_32, i_0, if_pos ((neg_ix (i := i) (by omega)).2.2.mpr (by omega)), up_0]
  | succ k ih =>
    intro i f s h1 h2
    obtain ⟨f, rfl⟩ : ∃ g, f = g + 1 := ⟨f - 1, by omega⟩
    obtain ⟨n1, n2, n3⟩ := neg_ix (i := i) (by omega)
    rw [fX3_turns_32, i_0, if_neg (fun z => by have := n3.mp z; omega), i_90, n1, e_124_7, l_129, gdI (by omega) (by omega), nI_clamp (by omega), hW i (by omega), addK, i_1, n2, up_s]
    exact ih (i + 1) f _ (by omega) (by omega)
/-! the sum of a set, as both reckon it -/
theorem smS_le (ho : ∀ r, o r ≤ 18) (X : Nat) (k : Nat) : -(9 * (k : Int)) ≤ smS (opX o) X k ∧ smS (opX o) X k ≤ 9 * (k : Int) := by
  induction k with
  | zero => rw [smS]; omega
  | succ k ih =>
    have := opX_b ho k
    rw [smS]
    split <;> omega
theorem e_opM (ho : ∀ r, o r ≤ 18) (hR : R ≤ 10) (e7 : D 132 7 = nI R) (hO : opN D 168 o) {X : Nat} (hX : X < 1024) (k : Nat) : ∀ (i f : Nat) (a : Int32), i + k = R → k < f → a.toInt = smS (opX o) X i → ∃ b, fX12_opinionOf_4 sh_L (sh_E kp) fu f 132 (nI X) a (nI i) D = some (b, D) ∧ b.toInt = smS (opX o) X R := by
  induction k with
  | zero =>
    intro i f a h1 h2 ha
    obtain ⟨f, rfl⟩ : ∃ g, f = g + 1 := ⟨f - 1, by omega⟩
    have e : i = R := by omega
    subst e
    exact ⟨a, by rw [fX12_opinionOf_4, e7, if_pos (nI_le (Nat.le_refl _) (by omega))], ha⟩
  | succ k ih =>
    intro i f a h1 h2 ha
    obtain ⟨f, rfl⟩ : ∃ g, f = g + 1 := ⟨f - 1, by omega⟩
    have start : fX12_opinionOf_4 sh_L (sh_E kp) fu (f + 1) 132 (nI X) a (nI i) D = if nI (if X.testBit i then 1 else 0) = nI 0 then fX12_opinionOf_4 sh_L (sh_E kp) fu f 132 (nI X) a (nI (i + 1)) D else fX12_opinionOf_4 sh_L (sh_E kp) fu f 132 (nI X) (a + D 168 i) (nI (i + 1)) D := by
      rw [fX12_opinionOf_4, e7, if_neg (nI_ge (by omega) (by omega)), e_hasM _ _ _ _ _ (by omega) (by omega), bdS, i_0, e_132_61, l_168, gdI (by omega) (by omega), nI_clamp (by omega), i_1, addK]
    rw [start]
    have b1 := smS_le ho X i
    have b2 := opX_b ho i
    cases hb : X.testBit i with
    | false =>
      rw [if_pos bF]
      exact ih (i + 1) f a (by omega) (by omega) (by rw [ha, smS, hb, if_neg (by decide), Int.add_zero])
    | true =>
      rw [if_neg (by decide)]
      refine ih (i + 1) f _ (by omega) (by omega) ?_
      obtain ⟨o1, o2⟩ := hO i (by omega)
      have o3 : _ = opX o i := op_int o1 o2
      rw [Int32.toInt_add, ha, o3, smS, hb, if_pos rfl]
      exact bm32 (by omega) (by omega)
theorem e_opinionOf (hfu : 30000 ≤ fu) (ho : ∀ r, o r ≤ 18) (hR : R ≤ 10) (e7 : D 132 7 = nI R) (hO : opN D 168 o) {X : Nat} (hX : X < 1024) : ∃ b, fX12_opinionOf sh_L (sh_E kp) fu 132 (nI X) D = some (b, D) ∧ b.toInt = smS (opX o) X R := by
  rw [fX12_opinionOf, i_0]
  exact e_opM ho hR e7 hO hX R 0 fu (nI 0) (by omega) (by omega) rfl
theorem e_opC (ho : ∀ r, o r ≤ 18) (hR : R ≤ 10) (e5 : D 3 5 = nI R) (e6 : D 3 6 = nI A) (hA : A < 1024) (hO : opN D 39 o) (k : Nat) : ∀ (i f : Nat) (a : Int32), i + k = R → k < f → a.toInt = smS (opX o) A i → ∃ b, fX3_opinionOfAwake_4 sh_L (sh_E kp) fu f 124 a (nI i) D = some (b, D) ∧ b.toInt = smS (opX o) A R := by
  induction k with
  | zero =>
    intro i f a h1 h2 ha
    obtain ⟨f, rfl⟩ : ∃ g, f = g + 1 := ⟨f - 1, by omega⟩
    have e : i = R := by omega
    subst e
    exact ⟨a, by rw [fX3_opinionOfAwake_4, e_124_0, e5, if_pos (nI_le (Nat.le_refl _) (by omega))], ha⟩
  | succ k ih =>
    intro i f a h1 h2 ha
    obtain ⟨f, rfl⟩ : ∃ g, f = g + 1 := ⟨f - 1, by omega⟩
    have start : fX3_opinionOfAwake_4 sh_L (sh_E kp) fu (f + 1) 124 a (nI i) D = if nI (if A.testBit i then 1 else 0) = nI 0 then fX3_opinionOfAwake_4 sh_L (sh_E kp) fu f 124 a (nI (i + 1)) D else fX3_opinionOfAwake_4 sh_L (sh_E kp) fu f 124 (a + D 39 i) (nI (i + 1)) D := by
      rw [fX3_opinionOfAwake_4, e_124_0, e5, if_neg (nI_ge (by omega) (by omega)), e_isAwakeC _ _ _ _ (by omega) hR e5 e6 hA, bdS, i_0, e_124_2, e_27_6, l_39, gdI (by omega) (by omega), nI_clamp (by omega), i_1, addK]
    rw [start]
    have b1 := smS_le ho A i
    have b2 := opX_b ho i
    cases hb : A.testBit i with
    | false =>
      rw [if_pos bF]
      exact ih (i + 1) f a (by omega) (by omega) (by rw [ha, smS, hb, if_neg (by decide), Int.add_zero])
    | true =>
      rw [if_neg (by decide)]
      refine ih (i + 1) f _ (by omega) (by omega) ?_
      obtain ⟨o1, o2⟩ := hO i (by omega)
      have o3 : _ = opX o i := op_int o1 o2
      rw [Int32.toInt_add, ha, o3, smS, hb, if_pos rfl]
      exact bm32 (by omega) (by omega)
/-- which sets the reference counts -/
def swQ (o : Nat → Nat) (A R : Nat) (r : Option Nat) (X : Nat) : Bool := Nat.beq (wo X A) 0 && (decide (0 < smS (opX o) X R) && match r with
  | none => true
  | some r => X.testBit r && !(decide (0 < smS (opX o) (wo X (2 ^ r)) R)))
def swE : Option Nat → Int32
  | none => mi1
  | some r => nI r
theorem pos_int {b : Int32} {t : Int} (h : b.toInt = t) : (nI 0 < b) ↔ 0 < t := by
  rw [Int32.lt_iff_toInt_lt, h, nI_toInt (by decide)]; rfl
theorem e_sw10 (hfu : 30000 ≤ fu) (ho : ∀ r, o r ≤ 18) (hR : R ≤ 10) (hA : A < 1024) (e7 : D 132 7 = nI R) (hO : opN D 168 o) {r : Option Nat} (hr : ∀ x, r = some x → x < 10) (k : Nat) : ∀ (X f s : Nat), X + k = A + 1 → k < f → fX12_swings_10 sh_L (sh_E kp) fu f 132 (swE r) (nI A) (nI s) (nI X) D = some (nI (up (fun X s => if swQ o A R r X then s + 1 else s) X k s), D) := by
  induction k with
  | zero =>
    intro X f s h1 h2
    obtain ⟨f, rfl⟩ : ∃ g, f = g + 1 := ⟨f - 1, by omega⟩
    rw [fX12_swings_10, if_pos (nI_lt (by omega) (by omega)), up_0]
  | succ k ih =>
    intro X f s h1 h2
    obtain ⟨f, rfl⟩ : ∃ g, f = g + 1 := ⟨f - 1, by omega⟩
    have hX : X < 1024 := by omega
    have hwl : wo X A < 1024 := wo_lt (m := 10) hX
    have e1 : nI X &&& (nI A ^^^ mi1) = nI (wo X A) := by
      rw [← nI_wo]
      congr 1
      apply nI_ext
      rw [Int32.toBitVec_xor, Int32.toBitVec_not]
      show _ ^^^ BitVec.allOnes 32 = _
      rw [BitVec.xor_allOnes]
    obtain ⟨b, b1, b2⟩ := e_opinionOf (kp := kp) (fu := fu) hfu ho hR e7 hO hX
    have next : ∀ s, fX12_swings_10 sh_L (sh_E kp) fu f 132 (swE r) (nI A) (nI s) (nI (X + 1)) D = some (nI (up (fun X s => if swQ o A R r X then s + 1 else s) (X + 1) k s), D) := fun s => ih (X + 1) f s (by omega) (by omega)
    rw [fX12_swings_10, if_neg (nI_nlt (by omega) (by omega)), mm1, e1, i_0, up_s, i_1, addK, addK]
    by_cases h0 : wo X A = 0
    · rw [if_pos (congrArg nI h0), b1, bdS]
      have hz : Nat.beq (wo X A) 0 = true := by rw [h0]; rfl
      by_cases hp : 0 < smS (opX o) X R
      · rw [if_pos ((pos_int b2).mpr hp)]
        cases r with
        | none =>
          have c : swQ o A R none X = true := by unfold swQ; rw [hz, decide_eq_true hp]; rfl
          rw [if_pos (show swE none = mi1 from rfl), if_pos c]
          exact next (s + 1)
        | some q =>
          have hq := hr q rfl
          obtain ⟨b', b1', b2'⟩ := e_opinionOf (kp := kp) (fu := fu) hfu ho hR e7 hO (X := wo X (2 ^ q)) (wo_lt (m := 10) hX)
          rw [if_neg (show ¬ swE (some q) = mi1 from m1_n (by omega))]
          show ev_bd (fX12_has sh_L (sh_E kp) fu 132 (nI X) (nI q) D) _ = _
          rw [e_hasM _ _ _ _ _ (by omega) (by omega), bdS]
          by_cases hb : X.testBit q = true
          · rw [if_neg (show ¬ nI (if X.testBit q = true then 1 else 0) = nI 0 by rw [if_pos hb]; decide)]
            show ev_bd (fX12_opinionOf sh_L (sh_E kp) fu 132 (nI X &&& ((nI 1 <<< (nI q &&& 31)) ^^^ mi1)) D) _ = _
            rw [i_31, nI_shl (by omega), wi_p (by omega), b1', bdS]
            by_cases hp2 : 0 < smS (opX o) (wo X (2 ^ q)) R
            · have c : ¬ swQ o A R (some q) X = true := by
                unfold swQ
                rw [hz, decide_eq_true hp]
                show ¬ (true && (true && (X.testBit q && !(decide (0 < smS (opX o) (wo X (2 ^ q)) R))))) = true
                rw [decide_eq_true hp2, Bool.not_true, Bool.and_false]; decide
              rw [if_pos ((pos_int b2').mpr hp2), if_neg c]
              exact next s
            · have c : swQ o A R (some q) X = true := by
                unfold swQ
                rw [hz, decide_eq_true hp]
                show (true && (true && (X.testBit q && !(decide (0 < smS (opX o) (wo X (2 ^ q)) R))))) = true
                rw [decide_eq_false hp2, hb]; rfl
              rw [if_neg (fun z => hp2 ((pos_int b2').mp z)), if_pos c]
              exact next (s + 1)
          · have hb2 : X.testBit q = false := by simpa using hb
            have c : ¬ swQ o A R (some q) X = true := by
              unfold swQ
              rw [hz, decide_eq_true hp]
              show ¬ (true && (true && (X.testBit q && !(decide (0 < smS (opX o) (wo X (2 ^ q)) R))))) = true
              rw [hb2, Bool.false_and]; decide
            rw [if_pos (show nI (if X.testBit q = true then 1 else 0) = nI 0 by rw [if_neg hb]), if_neg c]
            exact next s
      · have c : ¬ swQ o A R r X = true := by
          unfold swQ
          rw [decide_eq_false hp, Bool.false_and, Bool.and_false]; decide
        rw [if_neg (fun z => hp ((pos_int b2).mp z)), if_neg c]
        exact next s
    · have c : ¬ swQ o A R r X = true := by
        unfold swQ
        rw [nbF h0, Bool.false_and]; decide
      rw [if_neg (fun e => h0 ((nI_eq (by omega) (by decide)).mp e)), if_neg c]
      exact next s
theorem sub_le {X A : Nat} (h : wo X A = 0) : X ≤ A := by
  have : X ||| A = A := ext_bit fun i => by
    have h1 := congrArg (fun z => Nat.testBit z i) h
    simp only [wo_bit, Nat.zero_testBit] at h1
    rw [Nat.testBit_or]
    cases hx : X.testBit i <;> cases ha : A.testBit i <;> simp_all
  rw [← this]
  exact Nat.left_le_or
theorem cnt_ext {p : Nat → Bool} {a b : Nat} (hab : a ≤ b) (h : ∀ X, a ≤ X → p X = false) : cnt p b = cnt p a := by
  obtain ⟨d, rfl⟩ : ∃ d, b = a + d := ⟨b - a, by omega⟩
  rw [cnt_add, cnt_0 d fun i _ => h (a + i) (by omega), Nat.add_zero]
end
theorem up_off {α : Type} (f : Nat → α → α) (i k : Nat) (a : α) : up f i k a = up (fun j => f (i + j)) 0 k a := by
  induction k with
  | zero => rfl
  | succ k ih => rw [up_l, up_l, ih, Nat.zero_add]
theorem p_peals {kp fu : Nat} (hfu : 30000 ≤ fu) (hf2 : fu < 2 ^ 31) (a1 : Int32) (D : ev_D) (h : Inv kp D) : pl kp (fX11_peals sh_L (sh_E kp) fu 1 a1) (fX12_peals sh_L (sh_E kp) fu 132 a1) D := by
  have h0 := h
  obtain ⟨g0, gM, ⟨gT, gF, gB, gR, gD, gC, gS, gO, gE, gG, gU, gH, gN, gL⟩, gP, gQ, gZ, gK⟩ := h
  obtain ⟨R, hR, eR⟩ := gT.1.1
  obtain ⟨A, hA, eA⟩ := gT.1.2.2.2.2.1
  have hZ := gT.1.2.2.2.2.2.1
  have q10 := gT.2.2.2.2.2.2.2.2.2.2.2.2
  rw [eR, eA, nv_n (by omega), nv_n (by omega)] at hZ q10
  have q11 := gF.1
  rw [eR] at q11
  have hA2 : A < 2 ^ R := Nat.lt_pow_two_of_testBit _ fun i hi => hZ i hi
  have hop : ∀ r, r < 10 → D 39 r + nI 9 = nI (nv (D 39 r + nI 9)) ∧ nv (D 39 r + nI 9) ≤ 18 := fun r hr => bI_nv (by decide) (gN r hr).2
  have ho : ∀ r, (fun r => if r < 10 then nv (D 39 r + nI 9) else 0) r ≤ 18 := fun r => by
    show (if r < 10 then nv (D 39 r + nI 9) else 0) ≤ 18
    split
    · rename_i hr; exact (hop r hr).2
    · omega
  have hO : opN D 39 (fun r => if r < 10 then nv (D 39 r + nI 9) else 0) := fun r hr => by
    show D 39 r + nI 9 = nI (if r < 10 then nv (D 39 r + nI 9) else 0) ∧ (if r < 10 then nv (D 39 r + nI 9) else 0) ≤ 18
    rw [if_pos hr]; exact hop r hr
  generalize (fun r => if r < 10 then nv (D 39 r + nI 9) else 0) = o at ho hO
  have ho : ∀ r, o r ≤ 18 := ho
  have hOm : ∀ (E : ev_D), E 168 = D 168 → opN E 168 o := fun E hE r hr => by rw [hE, (gN r hr).1]; exact hO r hr
  have aw : ∀ (E : ev_D), E 132 7 = nI R → (∀ r, r < R → E 133 (34 + r) = D 133 (34 + r)) → fX12_awakeSet sh_L (sh_E kp) fu 132 E = some (nI A, E) := fun E h1 h2 => e_awakeSet (by omega) hR hZ h1 (fun r hr => by rw [h2 r hr]; exact q10 r hr)
  by_cases ha0 : a1 = nI 0
  · subst ha0
    obtain ⟨b, b1, b2⟩ := e_opC (kp := kp) (fu := fu) ho hR eR eA (by omega) hO R 0 fu (nI 0) (by omega) (by omega) rfl
    obtain ⟨b', b1', b2'⟩ := e_opinionOf (kp := kp) (fu := fu) (R := R) (D := ev_up D 132 0 (nI 0)) hfu ho hR (by simp (disch := omega) only [upA, neF, eqTn, true_and, false_and, and_false, and_true, and_self, reduceIte]; exact q11) (hOm _ (upN _ _ _ _ (by decide))) (X := A) (by omega)
    have e : b' = b := ti_inj (b2'.trans b2.symm)
    subst e
    refine pl_mk (r := b') (D1 := D) (D2 := ev_up D 132 0 (nI 0)) ?_ ?_ (Inv_s (by repeat (first | exact ex_rf _ _ _ | refine ex_up ?_ rfl)) h0)
    · rw [fX11_peals, i_0, if_pos rfl, e_1_5, fX3_opinionOfAwake, i_0, b1, bdS]
    · rw [fX12_peals, i_0, if_pos rfl, aw _ (by simp (disch := omega) only [upA, neF, eqTn, true_and, false_and, and_false, and_true, and_self, reduceIte]; exact q11) (fun r _ => by rw [upN _ _ _ _ (by decide)]), bdS, b1', bdS]
  by_cases ha1 : a1 = nI 1
  · subst ha1
    obtain ⟨D1, q1, q2, q3⟩ := e_countSets (kp := kp) (fu := fu) (Aw := tb A) (but := mi1) hfu hf2 ho hR (by omega) (fun r hr => by rw [decide_eq_false (show ¬ nI r = mi1 from m1_n (by omega)), Bool.not_false, Bool.and_true]; rfl) eR eA hO
    have s1 := e_swC (kp := kp) (fu := fu) q2 90 1 fu 0 rfl (by omega)
    have q11' : (ev_up D1 132 0 (nI 0)) 132 7 = nI R := by simp (disch := omega) only [upA, neF, eqTn, true_and, false_and, and_false, and_true, and_self, reduceIte]; rw [ex_f q3 rfl]; exact q11
    have s2 := e_sw10 (kp := kp) (fu := fu) (R := R) (A := A) (D := ev_up D1 132 0 (nI 0)) hfu ho hR (by omega) q11' (hOm _ ((upN _ _ _ _ (by decide)).trans (ex_c q3 168 rfl))) (r := none) (fun x hx => by cases hx) (A + 1) 0 fu 0 (by omega) (by omega)
    have key : up (fun i s => s + cR (tb A) (opX o) R (fun t => decide (t = (i : Int)))) 1 90 0 = cnt (swQ o A R none) (A + 1) := by
      have k1 : up (fun i s => s + cR (tb A) (opX o) R (fun t => decide (t = (i : Int)))) 1 90 0 = up (fun i s => s + cR (tb A) (opX o) R (fun t => decide (t = (1 : Int) + i))) 0 90 0 := by
        rw [up_off]
        refine up_cg (fun j _ _ s => ?_) 0
        rw [show ((1 + j : Nat) : Int) = (1 : Int) + j by omega]
      rw [k1, cR_sum, ← cnt_ext (p := swQ o A R none) (a := A + 1) (b := 2 ^ R) (by omega) (fun X hX => by
        unfold swQ
        rw [nbF (fun z => by have := sub_le z; omega), Bool.false_and])]
      have k2 : cnt (swQ o A R none) (2 ^ R) = cnt (fun X => Nat.beq (wo X A) 0 && (fun t => decide (0 < t)) (smS (opX o) X R)) (2 ^ R) := cnt_cg _ fun X _ => by
        unfold swQ
        rw [Bool.and_true]
      rw [k2]
      refine Eq.trans ?_ (T_cR (x := opX o) (A := A) (R := R) R (fun t => decide (0 < t)) (Nat.le_refl R)).symm
      exact cR_cg (opX_b ho) R _ _ fun t h1 h2 => decide_eq_decide.mpr (by omega)
    refine pl_mk (r := nI (cnt (swQ o A R none) (A + 1))) (D1 := D1) (D2 := ev_up D1 132 0 (nI 0)) ?_ ?_ (Inv_s (ex_up (ex_mo q3 rfl rfl) rfl) h0)
    · rw [fX11_peals, i_0, if_neg (by decide), i_1, if_pos rfl, e_1_5, fX3_swings, mm1, q1, bdS, i_0, i_1, s1, key, bdS]
    · rw [fX12_peals, i_0, if_neg (by decide), mm1, i_1, if_pos rfl, fX12_swings, aw _ q11' (fun r _ => by rw [upN _ _ _ _ (by decide), ex_at q3 rfl]), bdS, i_0, show mi1 = swE none from rfl, s2, bdS]; rfl
  rcases in_or a1 (a := 10) (b := 9 + R) (by omega) (by omega) with hb | ⟨w10, h1, h2, rfl⟩
  · have n100 : (-100 : Int32) = mi100 := rfl
    apply pl_mk
    · conv => lhs; simp (disch := omega) only [fX11_peals, ha0, ha1, eR, e_within0 _ _ _ _ hb, ↓mm1, ↓mm9, ↓mm100, ↓mm8, bdS, gdI, gdZ, eq_self, e_within, e_isInM, e_isBell, addK, pk_mul, nI_clamp, ofN, true_and, false_and, and_false, and_true, and_self, ltT, ltF, leT, leF, eqF, m1F, m1F2, m1L, m1L2, m1G, i_0, i_1, i_2, i_3, i_4, i_5, i_6, i_7, i_8, i_9, i_10, i_11, i_12, i_14, i_15, i_16, i_17, i_18, i_19, i_20, i_21, i_23, i_24, i_25, i_26, i_31, i_32, i_34, i_40, i_41, i_42, i_43, i_44, i_45, i_47, i_48, i_57, i_59, i_60, i_61, i_62, i_63, i_65, i_80, i_90, i_97, i_98, i_99, i_100, i_122, i_150, i_151, i_255, i_256, i_258, i_259, i_260, i_261, i_262, i_263, i_271, i_273, i_274, i_275, i_276, i_277, i_281, i_282, i_380, i_400, i_500, i_600, i_800, i_999, i_1000, i_9999, i_10000, i_10100, i_10101, i_10102, i_10103, i_10104, i_10105, i_10106, i_10107, i_10108, i_10109, i_27720, i_65535, i_1664525, i_100000000, i_252645135, i_858993459, i_1013904223, i_1431655765, e_1_0, e_1_1, e_1_2, e_1_3, e_1_4, e_1_5, e_2_0, e_2_1, e_2_2, e_2_3, e_3_7, e_3_8, e_3_9, e_3_10, e_3_11, e_3_12, e_3_13, e_11_2, e_13_0, e_13_1, e_13_2, e_13_3, e_14_2, e_14_3, e_14_4, e_14_5, e_14_6, e_14_7, e_21_2, e_23_2, e_25_2, e_27_0, e_27_1, e_27_2, e_27_3, e_27_4, e_27_5, e_27_6, e_28_2, e_30_2, e_32_2, e_34_2, e_36_2, e_40_2, e_40_3, e_41_0, e_41_1, e_41_2, e_41_3, e_41_4, e_41_5, e_91_0, e_91_4, e_91_5, e_91_6, e_91_7, e_92_0, e_92_1, e_92_2, e_92_3, e_93_2, e_93_3, e_93_4, e_93_5, e_93_6, e_93_7, e_100_2, e_102_2, e_104_2, e_110_0, e_110_1, e_110_2, e_110_3, e_112_0, e_112_1, e_112_2, e_112_3, e_113_7, e_113_8, e_113_9, e_113_10, e_113_11, e_113_12, e_113_13, e_121_2, e_124_0, e_124_1, e_124_2, e_124_3, e_124_4, e_124_5, e_124_6, e_124_7, e_124_8, e_124_9, l_4, l_5, l_6, l_7, l_8, l_9, l_10, l_12, l_15, l_16, l_17, l_18, l_19, l_20, l_22, l_24, l_26, l_29, l_31, l_33, l_35, l_37, l_38, l_39, l_41, l_42, l_94, l_95, l_96, l_97, l_98, l_99, l_101, l_103, l_105, l_106, l_107, l_108, l_109, l_111, l_114, l_115, l_116, l_117, l_118, l_119, l_120, l_123, l_125, l_126, l_127, l_128, l_129, l_130, l_131, e_132_1, e_132_2, e_132_4, e_132_6, e_132_8, e_132_9, e_132_10, e_132_11, e_132_12, e_132_18, e_132_19, e_132_20, e_132_21, e_132_22, e_132_23, e_132_24, e_132_25, e_132_29, e_132_36, e_132_38, e_132_40, e_132_41, e_132_42, e_132_44, e_132_46, e_132_47, e_132_49, e_132_50, e_132_51, e_132_52, e_132_54, e_132_55, e_132_56, e_132_58, e_132_60, e_132_61, e_132_62, e_132_66, l_133, l_134, l_135, l_136, l_137, l_138, l_139, l_140, l_141, l_142, l_143, l_144, l_145, l_146, l_147, l_148, l_149, l_150, l_151, l_152, l_153, l_154, l_155, l_156, l_157, l_158, l_159, l_160, l_161, l_162, l_163, l_164, l_165, l_166, l_167, l_168, l_169, l_170, upA, reduceIte, neF]
    · conv => lhs; simp (disch := omega) only [fX12_peals, ha0, ha1, q11, e_isInM0 _ _ _ _ _ hb, ↓mm1, ↓mm9, ↓mm100, ↓mm8, bdS, gdI, gdZ, eq_self, e_within, e_isInM, e_isBell, addK, pk_mul, nI_clamp, ofN, true_and, false_and, and_false, and_true, and_self, ltT, ltF, leT, leF, eqF, m1F, m1F2, m1L, m1L2, m1G, i_0, i_1, i_2, i_3, i_4, i_5, i_6, i_7, i_8, i_9, i_10, i_11, i_12, i_14, i_15, i_16, i_17, i_18, i_19, i_20, i_21, i_23, i_24, i_25, i_26, i_31, i_32, i_34, i_40, i_41, i_42, i_43, i_44, i_45, i_47, i_48, i_57, i_59, i_60, i_61, i_62, i_63, i_65, i_80, i_90, i_97, i_98, i_99, i_100, i_122, i_150, i_151, i_255, i_256, i_258, i_259, i_260, i_261, i_262, i_263, i_271, i_273, i_274, i_275, i_276, i_277, i_281, i_282, i_380, i_400, i_500, i_600, i_800, i_999, i_1000, i_9999, i_10000, i_10100, i_10101, i_10102, i_10103, i_10104, i_10105, i_10106, i_10107, i_10108, i_10109, i_27720, i_65535, i_1664525, i_100000000, i_252645135, i_858993459, i_1013904223, i_1431655765, e_1_0, e_1_1, e_1_2, e_1_3, e_1_4, e_1_5, e_2_0, e_2_1, e_2_2, e_2_3, e_3_7, e_3_8, e_3_9, e_3_10, e_3_11, e_3_12, e_3_13, e_11_2, e_13_0, e_13_1, e_13_2, e_13_3, e_14_2, e_14_3, e_14_4, e_14_5, e_14_6, e_14_7, e_21_2, e_23_2, e_25_2, e_27_0, e_27_1, e_27_2, e_27_3, e_27_4, e_27_5, e_27_6, e_28_2, e_30_2, e_32_2, e_34_2, e_36_2, e_40_2, e_40_3, e_41_0, e_41_1, e_41_2, e_41_3, e_41_4, e_41_5, e_91_0, e_91_4, e_91_5, e_91_6, e_91_7, e_92_0, e_92_1, e_92_2, e_92_3, e_93_2, e_93_3, e_93_4, e_93_5, e_93_6, e_93_7, e_100_2, e_102_2, e_104_2, e_110_0, e_110_1, e_110_2, e_110_3, e_112_0, e_112_1, e_112_2, e_112_3, e_113_7, e_113_8, e_113_9, e_113_10, e_113_11, e_113_12, e_113_13, e_121_2, e_124_0, e_124_1, e_124_2, e_124_3, e_124_4, e_124_5, e_124_6, e_124_7, e_124_8, e_124_9, l_4, l_5, l_6, l_7, l_8, l_9, l_10, l_12, l_15, l_16, l_17, l_18, l_19, l_20, l_22, l_24, l_26, l_29, l_31, l_33, l_35, l_37, l_38, l_39, l_41, l_42, l_94, l_95, l_96, l_97, l_98, l_99, l_101, l_103, l_105, l_106, l_107, l_108, l_109, l_111, l_114, l_115, l_116, l_117, l_118, l_119, l_120, l_123, l_125, l_126, l_127, l_128, l_129, l_130, l_131, e_132_1, e_132_2, e_132_4, e_132_6, e_132_8, e_132_9, e_132_10, e_132_11, e_132_12, e_132_18, e_132_19, e_132_20, e_132_21, e_132_22, e_132_23, e_132_24, e_132_25, e_132_29, e_132_36, e_132_38, e_132_40, e_132_41, e_132_42, e_132_44, e_132_46, e_132_47, e_132_49, e_132_50, e_132_51, e_132_52, e_132_54, e_132_55, e_132_56, e_132_58, e_132_60, e_132_61, e_132_62, e_132_66, l_133, l_134, l_135, l_136, l_137, l_138, l_139, l_140, l_141, l_142, l_143, l_144, l_145, l_146, l_147, l_148, l_149, l_150, l_151, l_152, l_153, l_154, l_155, l_156, l_157, l_158, l_159, l_160, l_161, l_162, l_163, l_164, l_165, l_166, l_167, l_168, l_169, l_170, upA, reduceIte, neF]
    · exact Inv_s (by repeat (first | exact ex_rf _ _ _ | refine ex_up ?_ rfl)) h0
  obtain ⟨r, rfl⟩ : ∃ r, w10 = 10 + r := ⟨w10 - 10, by omega⟩
  have hr : r < R := by omega
  have w1 := e_isAwakeC sh_L (sh_E kp) fu 3 hr hR eR eA (by omega)
  have M0 : ∀ (E : ev_D), E 132 7 = nI R → E 168 = D 168 → (∀ r, r < R → E 133 (34 + r) = D 133 (34 + r)) → fX12_swings sh_L (sh_E kp) fu 132 (nI r) E = some (nI (cnt (swQ o A R (some r)) (A + 1)), E) := fun E h1 h2 h3 => by
    rw [fX12_swings, aw E h1 h3, bdS, i_0, show nI r = swE (some r) from rfl]
    exact e_sw10 hfu ho hR (by omega) h1 (hOm E h2) (fun x hx => by cases hx; omega) (A + 1) 0 fu 0 (by omega) (by omega)
  have cl : ∀ (X : ev_Op), fX3_turns sh_L (sh_E kp) fu 124 (nI r) D = X → fX11_peals sh_L (sh_E kp) fu 1 (nI (10 + r)) D = ev_bd X (fun v D => some (v, D)) := fun X hX => by
    rw [fX11_peals, i_0, if_neg ha0, i_1, if_neg ha1, e_1_0, e_2_0, eR, i_9, i_10, addK, e_within _ _ _ _ (by omega) (by omega) (by omega), bdS, if_neg (by decide), e_1_5, pk_sub (by omega), Nat.add_sub_cancel_left, hX]
  have rf : ∀ (E : ev_D) (X : ev_Op), E 132 7 = nI R → fX12_swings sh_L (sh_E kp) fu 132 (nI r) (ev_up E 132 0 (nI 0)) = X → fX12_peals sh_L (sh_E kp) fu 132 (nI (10 + r)) E = ev_bd X (fun v D => some (v, D)) := fun E X hE hX => by
    rw [fX12_peals, i_0, if_neg ha0, i_1, if_neg ha1, upJ _ _ _ _ (by decide), hE, i_9, i_10, addK, e_isInM _ _ _ _ _ (by omega) (by omega) (by omega), bdS, if_neg (by decide), pk_sub (by omega), Nat.add_sub_cancel_left, hX]
  have ext2 : cnt (swQ o A R (some r)) (A + 1) = cnt (swQ o A R (some r)) (2 ^ R) := (cnt_ext (by omega) (fun X hX => by
    unfold swQ
    rw [nbF (fun z => by have := sub_le z; omega), Bool.false_and])).symm
  cases hAr : A.testBit r with
  | false =>
    rw [hAr] at w1
    have z : cnt (swQ o A R (some r)) (A + 1) = 0 := by
      rw [ext2]
      refine cnt_0 _ fun X _ => ?_
      unfold swQ
      by_cases hs : wo X A = 0
      · have hb : X.testBit r = false := by
          have h1 := congrArg (fun z => Nat.testBit z r) hs
          simp only [wo_bit, Nat.zero_testBit, hAr, Bool.not_false, Bool.and_true] at h1
          exact h1
        dsimp only
        rw [hb, Bool.false_and, Bool.and_false, Bool.and_false]
      · rw [nbF hs, Bool.false_and]
    refine pl_mk (r := nI 0) (D1 := D) (D2 := ev_up D 132 0 (nI 0)) ?_ ?_ (Inv_s (by repeat (first | exact ex_rf _ _ _ | refine ex_up ?_ rfl)) h0)
    · rw [cl _ (by rw [fX3_turns, e_124_0, w1, bdS, i_0, if_pos bF]), bdS]
    · rw [rf D _ q11 (M0 (ev_up D 132 0 (nI 0)) (by simp (disch := omega) only [upA, neF, eqTn, true_and, false_and, and_false, and_true, and_self, reduceIte]; exact q11) (upN _ _ _ _ (by decide)) (fun r _ => by rw [upN _ _ _ _ (by decide)])), bdS, z]
  | true =>
    rw [hAr] at w1
    obtain ⟨D1, q1, q2, q3⟩ := e_countSets (kp := kp) (fu := fu) (Aw := fun i => A.testBit i && !(Nat.beq i r)) (but := nI r) hfu hf2 ho hR (by omega) (fun i hi => by
      by_cases e : i = r
      · rw [e, Nat.beq_refl, decide_eq_true rfl]
      · rw [nbF e, decide_eq_false fun z => e ((nI_eq (by omega) (by omega)).mp z)]) eR eA hO
    have q11' : D1 132 7 = nI R := by rw [ex_f q3 rfl]; exact q11
    obtain ⟨o1, o2⟩ := hO r (by omega)
    have oR := ho r
    have e39 : D1 39 r = D 39 r := ex_at q3 rfl r
    have l3 : nI 1 - D1 39 r = nI (100 - o r) - nI 90 := by
      refine ti_inj ?_
      rw [Int32.toInt_sub, e39, op_int o1 o2, nI_toInt (by decide), pk_sub_toInt (by omega) (by decide), bm32 (by omega) (by omega)]
      omega
    have key : up (fun i s => s + cR (fun i => A.testBit i && !(Nat.beq i r)) (opX o) R (fun t => decide (t = (i : Int) - 90))) (100 - o r) (91 - (100 - o r)) 0 = cnt (swQ o A R (some r)) (A + 1) := by
      have k1 : up (fun i s => s + cR (fun i => A.testBit i && !(Nat.beq i r)) (opX o) R (fun t => decide (t = (i : Int) - 90))) (100 - o r) (91 - (100 - o r)) 0 = up (fun i s => s + cR (fun i => A.testBit i && !(Nat.beq i r)) (opX o) R (fun t => decide (t = ((10 : Int) - o r) + i))) 0 (91 - (100 - o r)) 0 := by
        rw [up_off]
        refine up_cg (fun j _ _ s => ?_) 0
        rw [show ((100 - o r + j : Nat) : Int) - 90 = ((10 : Int) - o r) + j by omega]
      rw [k1, cR_sum, ext2]
      have k2 : cnt (swQ o A R (some r)) (2 ^ R) = cnt (fun X => (Nat.beq (wo X A) 0 && X.testBit r) && (fun t => decide (0 < t + opX o r) && !(decide (0 < t))) (smS (opX o) (wo X (2 ^ r)) R)) (2 ^ R) := cnt_cg _ fun X hX => by
        unfold swQ
        dsimp only
        cases hb : X.testBit r with
        | false => simp
        | true =>
          have hs : smS (opX o) X R = smS (opX o) (wo X (2 ^ r)) R + opX o r := by
            have gen : ∀ k, smS (opX o) X k = smS (opX o) (wo X (2 ^ r)) k + if r < k then opX o r else 0 := by
              intro k
              induction k with
              | zero => rfl
              | succ k ih =>
                rw [smS, smS, ih, wo_bit, pw_bit]
                by_cases e : k = r
                · subst e
                  rw [hb, decide_eq_true rfl, if_pos rfl, if_neg (by omega), if_neg (by decide), if_pos (by omega)]
                · rw [decide_eq_false e, Bool.not_false, Bool.and_true]
                  by_cases e2 : r < k
                  · rw [if_pos e2, if_pos (show r < k + 1 by omega)]; omega
                  · rw [if_neg e2, if_neg (show ¬ r < k + 1 by omega)]; omega
            rw [gen R, if_pos hr]
          rw [hs, Bool.and_true, Bool.true_and]
      obtain ⟨d, hd⟩ : ∃ d, R = r + 1 + d := ⟨R - (r + 1), by omega⟩
      have k3 := U_cR (x := opX o) (A := A) (R := R) hAr d (fun t => decide (0 < t + opX o r) && !(decide (0 < t))) (by omega)
      rw [← hd] at k3
      rw [k2, k3]
      refine cR_cg (opX_b ho) R _ _ fun t h1 h2 => ?_
      by_cases c1 : 0 < t + opX o r
      · rw [decide_eq_true c1, Bool.true_and]
        by_cases c2 : 0 < t
        · rw [decide_eq_true c2, decide_eq_false (by omega)]; rfl
        · rw [decide_eq_false c2, decide_eq_true (by unfold opX at c1; omega)]; rfl
      · rw [decide_eq_false c1, Bool.false_and, decide_eq_false (by unfold opX at c1; omega)]
    have s1 := e_tuC (kp := kp) (fu := fu) q2 (91 - (100 - o r)) (100 - o r) fu 0
    by_cases hle : 100 - o r ≤ 91
    · have s2 := s1 (by omega) (by omega)
      refine pl_mk (r := nI (cnt (swQ o A R (some r)) (A + 1))) (D1 := D1) (D2 := ev_up D1 132 0 (nI 0)) ?_ ?_ (Inv_s (ex_up (ex_mo q3 rfl rfl) rfl) h0)
      · rw [cl _ (by rw [fX3_turns, e_124_0, w1, bdS, i_0, if_neg (by decide), q1, bdS, e_124_2, e_27_6, l_39, gdI (by omega) (by omega), nI_clamp (by omega), i_1, l3, s2, key]), bdS]
      · rw [rf D1 _ q11' (M0 (ev_up D1 132 0 (nI 0)) (by simp (disch := omega) only [upA, neF, eqTn, true_and, false_and, and_false, and_true, and_self, reduceIte]; exact q11') ((upN _ _ _ _ (by decide)).trans (ex_c q3 168 rfl)) (fun r _ => by rw [upN _ _ _ _ (by decide), ex_at q3 rfl])), bdS]
    · have e0 : 91 - (100 - o r) = 0 := by omega
      rw [e0, up_0] at key
      refine pl_mk (r := nI (cnt (swQ o A R (some r)) (A + 1))) (D1 := D1) (D2 := ev_up D1 132 0 (nI 0)) ?_ ?_ (Inv_s (ex_up (ex_mo q3 rfl rfl) rfl) h0)
      · obtain ⟨g, hg⟩ : ∃ g, fu = g + 1 := ⟨fu - 1, by omega⟩
        have s3 : fX3_turns_32 sh_L (sh_E kp) fu fu 124 (nI 0) (nI (100 - o r) - nI 90) D1 = some (nI 0, D1) := by
          rw [show fX3_turns_32 sh_L (sh_E kp) fu fu 124 = fX3_turns_32 sh_L (sh_E kp) fu (g + 1) 124 by rw [← hg], fX3_turns_32, i_0, if_pos ((neg_ix (i := 100 - o r) (by omega)).2.2.mpr (by omega))]
        rw [cl _ (by rw [fX3_turns, e_124_0, w1, bdS, i_0, if_neg (by decide), q1, bdS, e_124_2, e_27_6, l_39, gdI (by omega) (by omega), nI_clamp (by omega), i_1, l3, s3, key]), bdS]
      · rw [rf D1 _ q11' (M0 (ev_up D1 132 0 (nI 0)) (by simp (disch := omega) only [upA, neF, eqTn, true_and, false_and, and_false, and_true, and_self, reduceIte]; exact q11') ((upN _ _ _ _ (by decide)).trans (ex_c q3 168 rfl)) (fun r _ => by rw [upN _ _ _ _ (by decide), ex_at q3 rfl])), bdS]
