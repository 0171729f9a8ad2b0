/-! ===== holds ===== -/
theorem pc_or (f : Nat) : ∀ n b, b < f → n.testBit b = false → pc f (n ||| 2 ^ b) = pc f n + 1 := by
  induction f with
  | zero => intro n b h; omega
  | succ f ih =>
    intro n b hb hn
    have h2 : ∀ x : Nat, x % 2 = if x.testBit 0 then 1 else 0 := fun x => by simpa using bit_v x 0
    have hd : ∀ x y : Nat, (x ||| y) / 2 = x / 2 ||| y / 2 := fun x y => Nat.eq_of_testBit_eq fun i => by simp only [Nat.testBit_div_two, Nat.testBit_or]
    rw [pc, pc, hd]
    cases b with
    | zero =>
      rw [h2, h2 n, Nat.testBit_or, hn]
      simp only [Nat.pow_zero]
      rw [show (1 : Nat) / 2 = 0 from rfl, Nat.or_zero]
      show 1 + pc f (n / 2) = 0 + pc f (n / 2) + 1
      omega
    | succ b =>
      have e1 : (2 ^ (b + 1)) / 2 = 2 ^ b := by rw [Nat.pow_succ]; omega
      have e2 : (n ||| 2 ^ (b + 1)) % 2 = n % 2 := by
        rw [h2, h2 n, Nat.testBit_or, pw_bit, decide_eq_false (by omega), Bool.or_false]
      rw [e1, e2, ih (n / 2) b (by omega) (by rw [Nat.testBit_div_two]; exact hn)]
      omega
theorem ones_or {n b : Nat} (hb : b < 16) (hn : n.testBit b = false) : ones (n ||| 2 ^ b) = ones n + 1 := pc_or 16 n b hb hn
theorem free8 {s : Nat} (hs : s < 256) (h : ones s < 8) : ∃ b, b < 8 ∧ s.testBit b = false := by
  have : (List.range 256).all (fun s => decide (8 ≤ ones s) || (List.range 8).any (fun b => !(s.testBit b))) = true := by decide +kernel
  have h1 := List.all_eq_true.mp this s (List.mem_range.mpr hs)
  rw [Bool.or_eq_true, decide_eq_true_eq] at h1
  obtain ⟨b, hb, hb2⟩ := List.any_eq_true.mp (h1.resolve_left (by omega))
  exact ⟨b, List.mem_range.mp hb, by simpa using hb2⟩
/-- what is found of the sets from s0 on -/
def hK (R : Nat) (hd : Nat → Nat → Nat) (s0 : Nat) (c m : ev_D) : Prop := ∀ t, s0 ≤ t → t < 256 → (R ≤ ones t → c 127 t = nI 99 ∧ m 162 t = nI 100000000) ∧ (ones t < R → ∃ v, v ≤ 99 ∧ c 127 t = nI v ∧ m 162 t = nI v ∧ ∃ b, b < 8 ∧ t.testBit b = false ∧ v ≤ hd (ones t) b ∧ ∃ v2, v ≤ v2 ∧ v2 ≤ 99 ∧ c 127 (t ||| 2 ^ b) = nI v2)
/-- what both know of ringers and holds -/
def hG (R : Nat) (hd : Nat → Nat → Nat) (c m : ev_D) : Prop := R ≤ 8 ∧ c 3 5 = nI R ∧ m 132 7 = nI R ∧ ∀ r b, r < 8 → b < 8 → c 38 (8 * r + b) = nI (hd r b) ∧ m 161 (8 * r + b) = nI (hd r b) ∧ hd r b ≤ 99
theorem e_holdOf {kp fu R : Nat} {hd : Nat → Nat → Nat} {c m : ev_D} (G : hG R hd c m) {r b : Nat} (hr : r < 8) (hb : b < 8) : fX8_holdOf sh_L (sh_E kp) fu 27 (nI r) (nI b) c = some (nI (hd r b), c) := by
  rw [fX8_holdOf, i_0, i_9, i_7, i_8, e_within _ _ _ _ (Nat.zero_le _) (by omega) (by decide), bdS, if_neg (by decide), e_within _ _ _ _ (Nat.zero_le _) (by omega) (by decide), bdS, if_neg (by decide), pk_mul, addK, e_27_5, l_38, gdI (by omega) (by omega), nI_clamp (by omega), show r * 8 + b = 8 * r + b by omega, (G.2.2.2 r b hr hb).1]
theorem or_gt {s b : Nat} (h : s.testBit b = false) : s < s ||| 2 ^ b := by
  refine Nat.lt_of_le_of_ne Nat.left_le_or fun e => ?_
  have : (s ||| 2 ^ b).testBit b = true := or_in
  rw [← e, h] at this
  cases this
theorem or_256 {s b : Nat} (hs : s < 256) (hb : b < 8) : s ||| 2 ^ b < 256 := or_lt (m := 8) hs (pw_lt hb)
def mxO (o : Option Nat) (u : Nat) : Nat := match o with
  | none => u
  | some y => max y u
theorem e_weak38 {kp fu R : Nat} {hd : Nat → Nat → Nat} (K : Nat → Int32 → ev_D → ev_Op) (K2 : Nat → Int32 → ev_D → ev_Op) {s : Nat} (hs : s < 256) (hr : ones s < R) (k : Nat) : ∀ (b f g : Nat) (o : Option Nat) (c m : ev_D), b + k = 8 → k < f → k < g → hG R hd c m → hK R hd (s + 1) c m → c 127 s = eC o → (∀ v, o = some v → v ≤ 99 ∧ ∃ b', b' < 8 ∧ s.testBit b' = false ∧ v ≤ hd (ones s) b' ∧ ∃ v2, v ≤ v2 ∧ v2 ≤ 99 ∧ c 127 (s ||| 2 ^ b') = nI v2) → (o = none → ∃ b', b ≤ b' ∧ b' < 8 ∧ s.testBit b' = false) → ∃ v c', v ≤ 99 ∧ fX3_weakestHold_38 sh_L (sh_E kp) fu K f 124 (nI s) (nI (ones s)) (nI b) c = K 124 (nI s + mi1) c' ∧ fX12_findsHeld_33 sh_L (sh_E kp) fu K2 g 132 (nI s) (nI (ones s)) (eC o) (nI b) m = K2 132 (nI s + mi1) (ev_up m 162 s (nI v)) ∧ c' 127 s = nI v ∧ (∀ q x, ¬ (q = 127 ∧ x = s) → c' q x = c q x) ∧ ∃ b', b' < 8 ∧ s.testBit b' = false ∧ v ≤ hd (ones s) b' ∧ ∃ v2, v ≤ v2 ∧ v2 ≤ 99 ∧ c' 127 (s ||| 2 ^ b') = nI v2 := by
  induction k with
  | zero =>
    intro b f g o c m h1 h2 h3 G HK ho hv hn
    obtain ⟨f, rfl⟩ : ∃ g, f = g + 1 := ⟨f - 1, by omega⟩
    obtain ⟨g, rfl⟩ : ∃ f, g = f + 1 := ⟨g - 1, by omega⟩
    cases o with
    | none => obtain ⟨b', q1, q2, -⟩ := hn rfl; omega
    | some v =>
      obtain ⟨v1, v2⟩ := hv v rfl
      refine ⟨v, c, v1, ?_, ?_, ho, fun _ _ _ => rfl, v2⟩
      · rw [fX3_weakestHold_38, i_8, if_pos (nI_le (by omega) (by omega)), mm1]
      · rw [fX12_findsHeld_33, i_8, if_pos (nI_le (by omega) (by omega)), fX12_findsHeld_78, e_132_52, l_162, gdI hs (by omega), nI_clamp (by omega), mm1]; rfl
  | succ k ih =>
    intro b f g o c m h1 h2 h3 G HK ho hv hn
    obtain ⟨f, rfl⟩ : ∃ g, f = g + 1 := ⟨f - 1, by omega⟩
    obtain ⟨g, rfl⟩ : ∃ f, g = f + 1 := ⟨g - 1, by omega⟩
    have hR8 := G.1
    cases hb : s.testBit b with
    | true =>
      obtain ⟨v, c', r1, r2, r3, r4⟩ := ih (b + 1) f g o c m (by omega) (by omega) (by omega) G HK ho hv (fun e => by
        obtain ⟨b', q1, q2, q3⟩ := hn e
        refine ⟨b', ?_, q2, q3⟩
        by_cases e2 : b' = b
        · rw [e2, hb] at q3; cases q3
        · omega)
      refine ⟨v, c', r1, ?_, ?_, r4⟩
      · rw [fX3_weakestHold_38, i_8, if_neg (nI_ge (by omega) (by omega)), e_124_0, G.2.1, if_neg (nI_ge hr (by omega)), e_isIn _ _ _ _ (by omega) (by omega), hb, bdS, i_0, if_neg (by decide), i_1, addK]
        exact r2
      · rw [fX12_findsHeld_33, i_8, if_neg (nI_ge (by omega) (by omega)), G.2.2.1, if_neg (nI_ge hr (by omega)), e_hasM _ _ _ _ _ (by omega) (by omega), hb, bdS, i_0, if_neg (by decide), i_1, addK]
        exact r3
    | false =>
      have hgt := or_gt hb
      have hlt := or_256 hs (show b < 8 by omega)
      have hone := ones_or (n := s) (show b < 16 by omega) hb
      obtain ⟨d1, d2, d3⟩ := G.2.2.2 (ones s) b (by omega) (by omega)
      -- the next set's value, in both
      obtain ⟨x, xm, x1, x2, x3, x4⟩ : ∃ x xm, x ≤ 99 ∧ c 127 (s ||| 2 ^ b) = nI x ∧ m 162 (s ||| 2 ^ b) = nI xm ∧ xm < 2 ^ 31 ∧ min (hd (ones s) b) xm = min (hd (ones s) b) x := by
        obtain ⟨t1, t2⟩ := HK (s ||| 2 ^ b) (by omega) hlt
        by_cases hl : R ≤ ones (s ||| 2 ^ b)
        · obtain ⟨a1, a2⟩ := t1 hl
          exact ⟨99, 100000000, by decide, a1, a2, by decide, by omega⟩
        · obtain ⟨v, a0, a1, a2, -⟩ := t2 (by omega)
          exact ⟨v, v, a0, a1, a2, by omega, rfl⟩
      have hne : s ||| 2 ^ b ≠ s := by omega
      have G' : hG R hd (ev_up c 127 s (nI (mxO o (min (hd (ones s) b) x)))) m := by
        obtain ⟨w1, w2, w3, w4⟩ := G
        exact ⟨w1, by rw [upN _ _ _ _ (by decide)]; exact w2, w3, fun r b h1 h2 => by rw [upN _ _ _ _ (by decide)]; exact w4 r b h1 h2⟩
      have HK' : hK R hd (s + 1) (ev_up c 127 s (nI (mxO o (min (hd (ones s) b) x)))) m := by
        intro t ht1 ht2
        obtain ⟨t1, t2⟩ := HK t ht1 ht2
        rw [upJ _ _ _ _ (by omega)]
        refine ⟨t1, fun h => ?_⟩
        obtain ⟨v, a0, a1, a2, b', b1, b2, b3, v2, b4, b5, b6⟩ := t2 h
        have := or_gt b2
        exact ⟨v, a0, a1, a2, b', b1, b2, b3, v2, b4, b5, by rw [upJ _ _ _ _ (by omega)]; exact b6⟩
      obtain ⟨v, c', r1, r2, r3, r4, r5, r6⟩ := ih (b + 1) f g (some (mxO o (min (hd (ones s) b) x))) (ev_up c 127 s (nI (mxO o (min (hd (ones s) b) x)))) m (by omega) (by omega) (by omega) G' HK' (upS _ _ _ _) (fun y hy => by
          cases hy
          cases o with
          | none =>
            refine ⟨by show min (hd (ones s) b) x ≤ 99; omega, b, by omega, hb, by show min (hd (ones s) b) x ≤ _; omega, x, by show min (hd (ones s) b) x ≤ x; omega, x1, ?_⟩
            rw [upJ _ _ _ _ hne]; exact x2
          | some y =>
            obtain ⟨y1, b', y2, y3, y4, y5, y6, y7, y8⟩ := hv y rfl
            have hne2 : s ||| 2 ^ b' ≠ s := by have := or_gt y3; omega
            by_cases hc : y ≤ min (hd (ones s) b) x
            · refine ⟨by show max y (min (hd (ones s) b) x) ≤ 99; omega, b, by omega, hb, by show max y (min (hd (ones s) b) x) ≤ _; omega, x, by show max y (min (hd (ones s) b) x) ≤ x; omega, x1, ?_⟩
              rw [upJ _ _ _ _ hne]; exact x2
            · refine ⟨by show max y (min (hd (ones s) b) x) ≤ 99; omega, b', y2, y3, by show max y (min (hd (ones s) b) x) ≤ _; omega, y5, by show max y (min (hd (ones s) b) x) ≤ y5; omega, y7, ?_⟩
              rw [upJ _ _ _ _ hne2]; exact y8) (fun e => by cases e)
      refine ⟨v, c', r1, ?_, ?_, r4, fun q z hq => (r5 q z hq).trans (by rw [upA, if_neg hq]), r6⟩
      · rw [← r2, fX3_weakestHold_38, i_8, if_neg (nI_ge (by omega) (by omega)), e_124_0, G.2.1, if_neg (nI_ge hr (by omega)), e_isIn _ _ _ _ (by omega) (by omega), hb, bdS, i_0, if_pos bF, e_124_2, e_holdOf G (by omega) (by omega), bdS, i_1, i_31, nI_shl (by omega), nI_or, e_124_5, l_127, gdI hlt (by omega), nI_clamp (by omega), x2, e_min _ _ _ _ (by omega) (by omega), bdS, gdI hs (by omega), nI_clamp (by omega), ho, addK]
        cases o with
        | none =>
          show ev_bd (fJ9_max sh_L (sh_E kp) fu mi1 (nI (min (hd (ones s) b) x)) c) _ = _
          rw [fJ9_max, if_pos (show mi1 < nI (min (hd (ones s) b) x) from m1_lt (by omega)), bdS, gdI hs (by omega)]; rfl
        | some y =>
          have := (hv y rfl).1
          show ev_bd (fJ9_max sh_L (sh_E kp) fu (nI y) (nI (min (hd (ones s) b) x)) c) _ = _
          rw [e_max _ _ _ _ (by omega) (by omega), bdS, gdI hs (by omega)]; rfl
      · rw [← r3, fX12_findsHeld_33, i_8, if_neg (nI_ge (by omega) (by omega)), G.2.2.1, if_neg (nI_ge hr (by omega)), e_hasM _ _ _ _ _ (by omega) (by omega), hb, bdS, i_0, if_pos bF, fX12_heldBy, i_8, pk_mul, addK, e_132_51, l_161, gdI (by omega) (by omega), nI_clamp (by omega), d2, i_1, i_31, nI_shl (by omega), nI_or, e_132_52, l_162, gdI hlt (by omega), nI_clamp (by omega), x3, e_lesser _ _ _ _ _ (by omega) x4.1, x4.2, bdS, bdS, addK]
        cases o with
        | none =>
          show ev_bd (fX12_greater sh_L (sh_E kp) fu 132 mi1 (nI (min (hd (ones s) b) x)) m) _ = _
          rw [fX12_greater, if_pos (show mi1 ≤ nI (min (hd (ones s) b) x) from m1_le (by omega)), bdS]; rfl
        | some y =>
          have := (hv y rfl).1
          show ev_bd (fX12_greater sh_L (sh_E kp) fu 132 (nI y) (nI (min (hd (ones s) b) x)) m) _ = _
          rw [e_greater _ _ _ _ _ (by omega) (by omega), bdS]; rfl
theorem m1s (s : Nat) : nI (s + 1) + mi1 = nI s := m1_add s
/-- the loop over the sets, from s - 1 down -/
theorem e_weak4 {kp fu R : Nat} (hfu : 30000 ≤ fu) {hd : Nat → Nat → Nat} (s : Nat) : ∀ (f g : Nat) (c m : ev_D), s ≤ 256 → s < f → s < g → hG R hd c m → hK R hd s c m → ∃ c' m', fX3_weakestHold_4 sh_L (sh_E kp) fu f 124 (nI s + mi1) c = some (c' 127 0, c') ∧ fX12_findsHeld_4 sh_L (sh_E kp) fu g 132 (nI s + mi1) m = some (nI 0, m') ∧ hG R hd c' m' ∧ hK R hd 0 c' m' ∧ ex [127] [] c' c ∧ ex [162] [] m' m := by
  induction s with
  | zero =>
    intro f g c m h1 h2 h3 G HK
    obtain ⟨f, rfl⟩ : ∃ g, f = g + 1 := ⟨f - 1, by omega⟩
    obtain ⟨g, rfl⟩ : ∃ f, g = f + 1 := ⟨g - 1, by omega⟩
    have hneg : nI 0 + mi1 < (0 : Int32) := by decide
    refine ⟨c, m, ?_, ?_, G, HK, ex_rf _ _ _, ex_rf _ _ _⟩
    · rw [fX3_weakestHold_4, if_pos hneg, e_124_5, l_127, i_0, gdI (by decide) (by decide), nI_clamp (by decide)]
    · rw [fX12_findsHeld_4, if_pos hneg, i_0]
  | succ s ih =>
    intro f g c m h1 h2 h3 G HK
    obtain ⟨f, rfl⟩ : ∃ g, f = g + 1 := ⟨f - 1, by omega⟩
    obtain ⟨g, rfl⟩ : ∃ f, g = f + 1 := ⟨g - 1, by omega⟩
    have o1 := ones_le s
    have hR8 := G.1
    rw [m1s]
    have C0 : fX3_weakestHold_4 sh_L (sh_E kp) fu (f + 1) 124 (nI s) c = if nI (ones s) < nI R then fX3_weakestHold_38 sh_L (sh_E kp) fu (fX3_weakestHold_4 sh_L (sh_E kp) fu f) fu 124 (nI s) (nI (ones s)) (nI 0) (ev_up c 127 s mi1) else fX3_weakestHold_38 sh_L (sh_E kp) fu (fX3_weakestHold_4 sh_L (sh_E kp) fu f) fu 124 (nI s) (nI (ones s)) (nI 0) (ev_up c 127 s (nI 99)) := by
      rw [fX3_weakestHold_4, if_neg (nI_pos (by omega)), e_bitCount _ _ _ (by omega), bdS, e_124_0, G.2.1, e_124_5, l_127, gdI (by omega) (by omega), gdI (by omega) (by omega), nI_clamp (by omega), i_99, mm1, i_0]
    have M0 : fX12_findsHeld_4 sh_L (sh_E kp) fu (g + 1) 132 (nI s) m = if nI (ones s) < nI R then fX12_findsHeld_33 sh_L (sh_E kp) fu (fX12_findsHeld_4 sh_L (sh_E kp) fu g) fu 132 (nI s) (nI (ones s)) mi1 (nI 0) m else fX12_findsHeld_33 sh_L (sh_E kp) fu (fX12_findsHeld_4 sh_L (sh_E kp) fu g) fu 132 (nI s) (nI (ones s)) (nI 100000000) (nI 0) m := by
      rw [fX12_findsHeld_4, if_neg (nI_pos (by omega)), e_onesOf _ _ (by omega) _ (by omega), bdS, G.2.2.1, i_100000000, mm1, i_0]
    have Gu : ∀ v, hG R hd (ev_up c 127 s v) m := fun v => by
      obtain ⟨w1, w2, w3, w4⟩ := G
      exact ⟨w1, by rw [upN _ _ _ _ (by decide)]; exact w2, w3, fun r b h1 h2 => by rw [upN _ _ _ _ (by decide)]; exact w4 r b h1 h2⟩
    have Ku : ∀ v, hK R hd (s + 1) (ev_up c 127 s v) m := fun v t ht1 ht2 => by
      obtain ⟨t1, t2⟩ := HK t ht1 ht2
      rw [upJ _ _ _ _ (by omega)]
      refine ⟨t1, fun h => ?_⟩
      obtain ⟨v, a0, a1, a2, b', b1, b2, b3, v2, b4, b5, b6⟩ := t2 h
      have := or_gt b2
      exact ⟨v, a0, a1, a2, b', b1, b2, b3, v2, b4, b5, by rw [upJ _ _ _ _ (by omega)]; exact b6⟩
    by_cases hr : ones s < R
    · rw [C0, M0, if_pos (nI_lt hr (by omega)), if_pos (nI_lt hr (by omega))]
      obtain ⟨b0, z1, z2⟩ := free8 (show s < 256 by omega) (by omega)
      obtain ⟨v, c1, r1, r2, r3, r4, r5, r6⟩ := e_weak38 (kp := kp) (fu := fu) (fX3_weakestHold_4 sh_L (sh_E kp) fu f) (fX12_findsHeld_4 sh_L (sh_E kp) fu g) (show s < 256 by omega) hr 8 0 fu fu none (ev_up c 127 s mi1) m rfl (by omega) (by omega) (Gu _) (Ku _) (upS _ _ _ _) (fun v e => by cases e) (fun _ => ⟨b0, by omega, z1, z2⟩)
      have r3' : fX12_findsHeld_33 sh_L (sh_E kp) fu (fX12_findsHeld_4 sh_L (sh_E kp) fu g) fu 132 (nI s) (nI (ones s)) mi1 (nI 0) m = fX12_findsHeld_4 sh_L (sh_E kp) fu g 132 (nI s + mi1) (ev_up m 162 s (nI v)) := r3
      rw [r2, r3']
      have e1 : ∀ q x, ¬ (q = 127 ∧ x = s) → c1 q x = c q x := fun q x hq => (r5 q x hq).trans (by rw [upA, if_neg hq])
      have G1 : hG R hd c1 (ev_up m 162 s (nI v)) := by
        obtain ⟨w1, w2, w3, w4⟩ := G
        exact ⟨w1, by rw [e1 _ _ (by omega)]; exact w2, by simp (disch := omega) only [upA, neF, eqTn, true_and, false_and, and_false, and_true, and_self, reduceIte]; exact w3, fun r b h1 h2 => by rw [e1 _ _ (by omega), upN _ _ _ _ (by decide)]; exact w4 r b h1 h2⟩
      have K1 : hK R hd s c1 (ev_up m 162 s (nI v)) := by
        intro t ht1 ht2
        by_cases e : t = s
        · subst e
          exact ⟨fun h => by omega, fun _ => ⟨v, r1, r4, upS _ _ _ _, r6⟩⟩
        · obtain ⟨t1, t2⟩ := HK t (by omega) ht2
          rw [e1 _ _ (by omega), upJ _ _ _ _ e]
          refine ⟨t1, fun h => ?_⟩
          obtain ⟨v, a0, a1, a2, b', b1, b2, b3, v2, b4, b5, b6⟩ := t2 h
          have := or_gt b2
          exact ⟨v, a0, a1, a2, b', b1, b2, b3, v2, b4, b5, by rw [e1 _ _ (by omega)]; exact b6⟩
      obtain ⟨c', m', s1, s2, s3, s4, s5, s6⟩ := ih f g c1 (ev_up m 162 s (nI v)) (by omega) (by omega) (by omega) G1 K1
      exact ⟨c', m', s1, s2, s3, s4, ex_tr (fun q x a _ => e1 q x fun z => by rw [z.1] at a; cases a) s5, ex_tr (ex_up (ex_rf _ _ _) rfl) s6⟩
    · rw [C0, M0, if_neg (nI_nlt (by omega) (by omega)), if_neg (nI_nlt (by omega) (by omega))]
      have C1 : fX3_weakestHold_38 sh_L (sh_E kp) fu (fX3_weakestHold_4 sh_L (sh_E kp) fu f) fu 124 (nI s) (nI (ones s)) (nI 0) (ev_up c 127 s (nI 99)) = fX3_weakestHold_4 sh_L (sh_E kp) fu f 124 (nI s + mi1) (ev_up c 127 s (nI 99)) := by
        obtain ⟨q, rfl⟩ : ∃ q, fu = q + 1 := ⟨fu - 1, by omega⟩
        rw [fX3_weakestHold_38, i_8, if_neg (nI_ge (by omega) (by omega)), e_124_0, (Gu _).2.1, if_pos (nI_le (by omega) (by omega)), mm1]
      have M1 : fX12_findsHeld_33 sh_L (sh_E kp) fu (fX12_findsHeld_4 sh_L (sh_E kp) fu g) fu 132 (nI s) (nI (ones s)) (nI 100000000) (nI 0) m = fX12_findsHeld_4 sh_L (sh_E kp) fu g 132 (nI s + mi1) (ev_up m 162 s (nI 100000000)) := by
        obtain ⟨q, rfl⟩ : ∃ q, fu = q + 1 := ⟨fu - 1, by omega⟩
        rw [fX12_findsHeld_33, i_8, if_neg (nI_ge (by omega) (by omega)), G.2.2.1, if_pos (nI_le (by omega) (by omega)), fX12_findsHeld_78, e_132_52, l_162, gdI (by omega) (by omega), nI_clamp (by omega), mm1]
      rw [C1, M1]
      have G1 : hG R hd (ev_up c 127 s (nI 99)) (ev_up m 162 s (nI 100000000)) := by
        obtain ⟨w1, w2, w3, w4⟩ := Gu (nI 99)
        exact ⟨w1, w2, by simp (disch := omega) only [upA, neF, eqTn, true_and, false_and, and_false, and_true, and_self, reduceIte]; exact w3, fun r b h1 h2 => by rw [upN m _ _ _ (by decide)]; exact w4 r b h1 h2⟩
      have K1 : hK R hd s (ev_up c 127 s (nI 99)) (ev_up m 162 s (nI 100000000)) := by
        intro t ht1 ht2
        by_cases e : t = s
        · subst e
          exact ⟨fun _ => ⟨upS _ _ _ _, upS _ _ _ _⟩, fun h => by omega⟩
        · rw [upJ m _ _ _ e]
          exact Ku (nI 99) t (by omega) ht2
      obtain ⟨c', m', s1, s2, s3, s4, s5, s6⟩ := ih f g (ev_up c 127 s (nI 99)) (ev_up m 162 s (nI 100000000)) (by omega) (by omega) (by omega) G1 K1
      exact ⟨c', m', s1, s2, s3, s4, ex_tr (ex_up (ex_rf _ _ _) rfl) s5, ex_tr (ex_up (ex_rf _ _ _) rfl) s6⟩
/-- b may be his bell -/
def gdB (hd : Nat → Nat → Nat) (c : ev_D) (q taken g b : Nat) : Prop := b < 8 ∧ taken.testBit b = false ∧ g ≤ hd q b ∧ ∃ v, g ≤ v ∧ v ≤ 99 ∧ c 127 (taken ||| 2 ^ b) = nI v
theorem e_firstB {kp fu R : Nat} {hd : Nat → Nat → Nat} {c m : ev_D} (G : hG R hd c m) (HK : hK R hd 0 c m) (K : Nat → Int32 → Int32 → Int32 → Int32 → ev_D → ev_Op) {q taken g : Nat} (hg : g ≤ 99) (hm0 : m 162 0 = nI g) (l1 : Int32) (ht : taken < 256) (hq : q < 8) (k : Nat) : ∀ (b f f2 : Nat), b + k = 8 → k < f → k < f2 → (∃ b', b ≤ b' ∧ gdB hd c q taken g b') → ∃ x, gdB hd c q taken g x ∧ fX3_firstBellFor_3 sh_L (sh_E kp) fu f 124 (nI q) (nI taken) (nI g) (nI b) c = some (nI x, c) ∧ fX12_holds_77 sh_L (sh_E kp) fu K f2 132 l1 (nI taken) (nI b) (nI q) m = K 132 l1 (nI (taken ||| 2 ^ x)) (nI x) (nI (q + 1)) m := by
  induction k with
  | zero => intro b f f2 h1 h2 h3 ⟨b', q1, q2, _⟩; omega
  | succ k ih =>
    intro b f f2 h1 h2 h3 ⟨b', q1, q2⟩
    obtain ⟨f, rfl⟩ : ∃ g, f = g + 1 := ⟨f - 1, by omega⟩
    obtain ⟨f2, rfl⟩ : ∃ f, f2 = f + 1 := ⟨f2 - 1, by omega⟩
    obtain ⟨d1, d2, d3⟩ := G.2.2.2 q b hq (by omega)
    have next : ¬ gdB hd c q taken g b → ∃ x, gdB hd c q taken g x ∧ fX3_firstBellFor_3 sh_L (sh_E kp) fu f 124 (nI q) (nI taken) (nI g) (nI (b + 1)) c = some (nI x, c) ∧ fX12_holds_77 sh_L (sh_E kp) fu K f2 132 l1 (nI taken) (nI (b + 1)) (nI q) m = K 132 l1 (nI (taken ||| 2 ^ x)) (nI x) (nI (q + 1)) m := fun hn => ih (b + 1) f f2 (by omega) (by omega) (by omega) ⟨b', by
      have : b' ≠ b := fun e => hn (e ▸ q2)
      omega, q2⟩
    cases hb : taken.testBit b with
    | true =>
      obtain ⟨x, x1, x2, x3⟩ := next (fun z => by have z2 := z.2.1; rw [hb] at z2; cases z2)
      refine ⟨x, x1, ?_, ?_⟩
      · rw [fX3_firstBellFor_3, i_8, if_neg (nI_ge (by omega) (by omega)), e_isIn _ _ _ _ (by omega) (by omega), hb, bdS, i_0, if_neg (by decide), i_1, addK]
        exact x2
      · rw [fX12_holds_77, e_hasM _ _ _ _ _ (by omega) (by omega), hb, bdS, i_0, if_neg (by decide), i_1, addK]
        exact x3
    | false =>
      have hlt := or_256 ht (show b < 8 by omega)
      obtain ⟨x, xm, x1, x2, x3, x4, x5⟩ : ∃ x xm, x ≤ 99 ∧ c 127 (taken ||| 2 ^ b) = nI x ∧ m 162 (taken ||| 2 ^ b) = nI xm ∧ xm < 2 ^ 31 ∧ (g ≤ xm ↔ g ≤ x) := by
        obtain ⟨t1, t2⟩ := HK (taken ||| 2 ^ b) (by omega) hlt
        by_cases hl : R ≤ ones (taken ||| 2 ^ b)
        · obtain ⟨a1, a2⟩ := t1 hl
          exact ⟨99, 100000000, by decide, a1, a2, by decide, by omega⟩
        · obtain ⟨v, a0, a1, a2, -⟩ := t2 (by omega)
          exact ⟨v, v, a0, a1, a2, by omega, Iff.rfl⟩
      have C0 : fX3_firstBellFor_3 sh_L (sh_E kp) fu (f + 1) 124 (nI q) (nI taken) (nI g) (nI b) c = if nI (hd q b) < nI g then fX3_firstBellFor_3 sh_L (sh_E kp) fu f 124 (nI q) (nI taken) (nI g) (nI (b + 1)) c else if nI x < nI g then fX3_firstBellFor_3 sh_L (sh_E kp) fu f 124 (nI q) (nI taken) (nI g) (nI (b + 1)) c else some (nI b, c) := by
        rw [fX3_firstBellFor_3, i_8, if_neg (nI_ge (by omega) (by omega)), e_isIn _ _ _ _ (by omega) (by omega), hb, bdS, i_0, if_pos bF, e_124_2, e_holdOf G hq (by omega), bdS, i_1, i_31, nI_shl (by omega), nI_or, e_124_5, l_127, gdI hlt (by omega), nI_clamp (by omega), x2, addK]
      have M0 : fX12_holds_77 sh_L (sh_E kp) fu K (f2 + 1) 132 l1 (nI taken) (nI b) (nI q) m = if nI g ≤ nI (min (hd q b) xm) then K 132 l1 (nI (taken ||| 2 ^ b)) (nI b) (nI (q + 1)) m else fX12_holds_77 sh_L (sh_E kp) fu K f2 132 l1 (nI taken) (nI (b + 1)) (nI q) m := by
        rw [fX12_holds_77, e_hasM _ _ _ _ _ (by omega) (by omega), hb, bdS, i_0, if_pos bF, fX12_heldBy, i_8, pk_mul, addK, e_132_51, l_161, gdI (by omega) (by omega), nI_clamp (by omega), d2, i_1, i_31, nI_shl (by omega), nI_or, e_132_52, l_162, gdI hlt (by omega), nI_clamp (by omega), x3, e_lesser _ _ _ _ _ (by omega) x4, bdS, bdS, gdI (by omega) (by omega), nI_clamp (by omega), hm0, addK, addK]
      by_cases hgood : g ≤ hd q b ∧ g ≤ x
      · refine ⟨b, ⟨by omega, hb, hgood.1, x, hgood.2, x1, x2⟩, ?_, ?_⟩
        · rw [C0, if_neg (nI_nlt hgood.1 (by omega)), if_neg (nI_nlt hgood.2 (by omega))]
        · have := x5.mpr hgood.2
          rw [M0, if_pos (nI_le (by omega) (by omega))]
      · obtain ⟨y, y1, y2, y3⟩ := next (fun z => hgood ⟨z.2.2.1, by
          obtain ⟨v, v1, v2, v3⟩ := z.2.2.2
          have := (nI_eq (by omega) (by omega)).mp (v3.symm.trans x2)
          omega⟩)
        refine ⟨y, y1, ?_, ?_⟩
        · rw [C0]
          by_cases h4 : hd q b < g
          · rw [if_pos (nI_lt h4 (by omega))]; exact y2
          · rw [if_neg (nI_nlt (by omega) (by omega)), if_pos (nI_lt (by omega) (by omega))]; exact y2
        · rw [M0, if_neg (nI_ge (by omega) (by omega))]
          exact y3
theorem e_held13 {kp fu R r : Nat} (hfu : 30000 ≤ fu) {hd : Nat → Nat → Nat} {c m : ev_D} (G : hG R hd c m) (HK : hK R hd 0 c m) {g : Nat} (hg : g ≤ 99) (hc0 : c 127 0 = nI g) (hm0 : m 162 0 = nI g) (hr : r < R) (k : Nat) : ∀ (q f f2 taken : Nat) (last : Int32), q + k = r + 1 → k < f → k < f2 → taken < 256 → ones taken = q → (∃ v, g ≤ v ∧ c 127 taken = nI v ∧ v ≤ 99) → ∃ x, fX3_heldBy_13 sh_L (sh_E kp) fu f 124 (nI r) (nI g) (nI taken) last (nI q) c = some (x, c) ∧ fX12_holds_66 sh_L (sh_E kp) fu f2 132 (nI (10 + r)) (nI taken) last (nI q) m = some (x, m) := by
  have hR8 := G.1
  induction k with
  | zero =>
    intro q f f2 taken last h1 h2 h3 ht ho hv
    obtain ⟨f, rfl⟩ : ∃ g, f = g + 1 := ⟨f - 1, by omega⟩
    obtain ⟨f2, rfl⟩ : ∃ f, f2 = f + 1 := ⟨f2 - 1, by omega⟩
    refine ⟨last, ?_, ?_⟩
    · rw [fX3_heldBy_13, if_pos (nI_lt (by omega) (by omega))]
    · rw [fX12_holds_66, i_10, pk_sub (by omega), Nat.add_sub_cancel_left, if_pos (nI_lt (by omega) (by omega))]
  | succ k ih =>
    intro q f f2 taken last h1 h2 h3 ht ho hv
    obtain ⟨f, rfl⟩ : ∃ g, f = g + 1 := ⟨f - 1, by omega⟩
    obtain ⟨f2, rfl⟩ : ∃ f, f2 = f + 1 := ⟨f2 - 1, by omega⟩
    obtain ⟨v, hv1, hv2, hv3⟩ := hv
    obtain ⟨w, w0, w1, w2, b', b1, b2, b3, v2, b4, b5, b6⟩ := (HK taken (by omega) ht).2 (by omega)
    have hwv : w = v := (nI_eq (by omega) (by omega)).mp (w1.symm.trans hv2)
    rw [ho] at b3
    obtain ⟨x, ⟨x1, x2, x3, v3, x4, x5, x6⟩, x7, x8⟩ := e_firstB (kp := kp) (fu := fu) G HK (fX12_holds_66 sh_L (sh_E kp) fu f2) (q := q) (taken := taken) hg hm0 (nI (10 + r)) ht (by omega) 8 0 fu fu rfl (by omega) (by omega) ⟨b', by omega, b1, b2, by omega, v2, by omega, b5, b6⟩
    obtain ⟨y, y1, y2⟩ := ih (q + 1) f f2 (taken ||| 2 ^ x) (nI x) (by omega) (by omega) (by omega) (or_256 ht x1) (by rw [ones_or (by omega) x2, ho]) ⟨v3, x4, x6, x5⟩
    refine ⟨y, ?_, ?_⟩
    · rw [fX3_heldBy_13, if_neg (nI_nlt (by omega) (by omega)), fX3_firstBellFor, i_0, x7, bdS, if_neg (m1_n (by omega)), i_1, i_31, nI_shl (by omega), nI_or, addK]
      exact y1
    · rw [fX12_holds_66, i_10, pk_sub (by omega), Nat.add_sub_cancel_left, if_neg (nI_nlt (by omega) (by omega)), i_0, x8]
      exact y2
theorem p_holds {kp fu : Nat} (hfu : 30000 ≤ fu) (a1 : Int32) (D : ev_D) (h : Inv kp D) : pl kp (fX11_holds sh_L (sh_E kp) fu 1 a1) (fX12_holds sh_L (sh_E kp) fu 132 a1) D := by
  have h0 := h
  obtain ⟨g0, gM, ⟨gT, gF, gB, gR, gD, gC, gS, gO, gE, gG, gU, gH, gN, gL⟩, gP, gQ, gZ, gK⟩ := h
  obtain ⟨R, hR, eR⟩ := gT.1.1
  have q11 := gF.1
  rw [eR] at q11
  by_cases hR0 : R = 0
  · subst hR0
    have hx : nI 0 < nI 1 ∨ nI 8 < nI 0 := .inl (by decide)
    apply pl_mk
    · conv => lhs; simp (disch := omega) only [fX11_holds, eR, e_within0 _ _ _ _ hx, ↓mm1, ↓mm9, ↓mm100, ↓mm8, bdS, gdI, gdZ, eq_self, e_within, e_isInM, e_isBell, addK, pk_mul, nI_clamp, ofN, true_and, false_and, and_false, and_true, and_self, ltT, ltF, leT, leF, eqF, m1F, m1F2, m1L, m1L2, m1G, i_0, i_1, i_2, i_3, i_4, i_5, i_6, i_7, i_8, i_9, i_10, i_11, i_12, i_14, i_15, i_16, i_17, i_18, i_19, i_20, i_21, i_23, i_24, i_25, i_26, i_31, i_32, i_34, i_40, i_41, i_42, i_43, i_44, i_45, i_47, i_48, i_57, i_59, i_60, i_61, i_62, i_63, i_65, i_80, i_90, i_97, i_98, i_99, i_100, i_122, i_150, i_151, i_255, i_256, i_258, i_259, i_260, i_261, i_262, i_263, i_271, i_273, i_274, i_275, i_276, i_277, i_281, i_282, i_380, i_400, i_500, i_600, i_800, i_999, i_1000, i_9999, i_10000, i_10100, i_10101, i_10102, i_10103, i_10104, i_10105, i_10106, i_10107, i_10108, i_10109, i_27720, i_65535, i_1664525, i_100000000, i_252645135, i_858993459, i_1013904223, i_1431655765, e_1_0, e_1_1, e_1_2, e_1_3, e_1_4, e_1_5, e_2_0, e_2_1, e_2_2, e_2_3, e_3_7, e_3_8, e_3_9, e_3_10, e_3_11, e_3_12, e_3_13, e_11_2, e_13_0, e_13_1, e_13_2, e_13_3, e_14_2, e_14_3, e_14_4, e_14_5, e_14_6, e_14_7, e_21_2, e_23_2, e_25_2, e_27_0, e_27_1, e_27_2, e_27_3, e_27_4, e_27_5, e_27_6, e_28_2, e_30_2, e_32_2, e_34_2, e_36_2, e_40_2, e_40_3, e_41_0, e_41_1, e_41_2, e_41_3, e_41_4, e_41_5, e_91_0, e_91_4, e_91_5, e_91_6, e_91_7, e_92_0, e_92_1, e_92_2, e_92_3, e_93_2, e_93_3, e_93_4, e_93_5, e_93_6, e_93_7, e_100_2, e_102_2, e_104_2, e_110_0, e_110_1, e_110_2, e_110_3, e_112_0, e_112_1, e_112_2, e_112_3, e_113_7, e_113_8, e_113_9, e_113_10, e_113_11, e_113_12, e_113_13, e_121_2, e_124_0, e_124_1, e_124_2, e_124_3, e_124_4, e_124_5, e_124_6, e_124_7, e_124_8, e_124_9, l_4, l_5, l_6, l_7, l_8, l_9, l_10, l_12, l_15, l_16, l_17, l_18, l_19, l_20, l_22, l_24, l_26, l_29, l_31, l_33, l_35, l_37, l_38, l_39, l_41, l_42, l_94, l_95, l_96, l_97, l_98, l_99, l_101, l_103, l_105, l_106, l_107, l_108, l_109, l_111, l_114, l_115, l_116, l_117, l_118, l_119, l_120, l_123, l_125, l_126, l_127, l_128, l_129, l_130, l_131, e_132_1, e_132_2, e_132_4, e_132_6, e_132_8, e_132_9, e_132_10, e_132_11, e_132_12, e_132_18, e_132_19, e_132_20, e_132_21, e_132_22, e_132_23, e_132_24, e_132_25, e_132_29, e_132_36, e_132_38, e_132_40, e_132_41, e_132_42, e_132_44, e_132_46, e_132_47, e_132_49, e_132_50, e_132_51, e_132_52, e_132_54, e_132_55, e_132_56, e_132_58, e_132_60, e_132_61, e_132_62, e_132_66, l_133, l_134, l_135, l_136, l_137, l_138, l_139, l_140, l_141, l_142, l_143, l_144, l_145, l_146, l_147, l_148, l_149, l_150, l_151, l_152, l_153, l_154, l_155, l_156, l_157, l_158, l_159, l_160, l_161, l_162, l_163, l_164, l_165, l_166, l_167, l_168, l_169, l_170, upA, reduceIte, neF]
    · conv => lhs; simp (disch := omega) only [fX12_holds, q11, ↓mm1, ↓mm9, ↓mm100, ↓mm8, bdS, gdI, gdZ, eq_self, e_within, e_isInM, e_isBell, addK, pk_mul, nI_clamp, ofN, true_and, false_and, and_false, and_true, and_self, ltT, ltF, leT, leF, eqF, m1F, m1F2, m1L, m1L2, m1G, i_0, i_1, i_2, i_3, i_4, i_5, i_6, i_7, i_8, i_9, i_10, i_11, i_12, i_14, i_15, i_16, i_17, i_18, i_19, i_20, i_21, i_23, i_24, i_25, i_26, i_31, i_32, i_34, i_40, i_41, i_42, i_43, i_44, i_45, i_47, i_48, i_57, i_59, i_60, i_61, i_62, i_63, i_65, i_80, i_90, i_97, i_98, i_99, i_100, i_122, i_150, i_151, i_255, i_256, i_258, i_259, i_260, i_261, i_262, i_263, i_271, i_273, i_274, i_275, i_276, i_277, i_281, i_282, i_380, i_400, i_500, i_600, i_800, i_999, i_1000, i_9999, i_10000, i_10100, i_10101, i_10102, i_10103, i_10104, i_10105, i_10106, i_10107, i_10108, i_10109, i_27720, i_65535, i_1664525, i_100000000, i_252645135, i_858993459, i_1013904223, i_1431655765, e_1_0, e_1_1, e_1_2, e_1_3, e_1_4, e_1_5, e_2_0, e_2_1, e_2_2, e_2_3, e_3_7, e_3_8, e_3_9, e_3_10, e_3_11, e_3_12, e_3_13, e_11_2, e_13_0, e_13_1, e_13_2, e_13_3, e_14_2, e_14_3, e_14_4, e_14_5, e_14_6, e_14_7, e_21_2, e_23_2, e_25_2, e_27_0, e_27_1, e_27_2, e_27_3, e_27_4, e_27_5, e_27_6, e_28_2, e_30_2, e_32_2, e_34_2, e_36_2, e_40_2, e_40_3, e_41_0, e_41_1, e_41_2, e_41_3, e_41_4, e_41_5, e_91_0, e_91_4, e_91_5, e_91_6, e_91_7, e_92_0, e_92_1, e_92_2, e_92_3, e_93_2, e_93_3, e_93_4, e_93_5, e_93_6, e_93_7, e_100_2, e_102_2, e_104_2, e_110_0, e_110_1, e_110_2, e_110_3, e_112_0, e_112_1, e_112_2, e_112_3, e_113_7, e_113_8, e_113_9, e_113_10, e_113_11, e_113_12, e_113_13, e_121_2, e_124_0, e_124_1, e_124_2, e_124_3, e_124_4, e_124_5, e_124_6, e_124_7, e_124_8, e_124_9, l_4, l_5, l_6, l_7, l_8, l_9, l_10, l_12, l_15, l_16, l_17, l_18, l_19, l_20, l_22, l_24, l_26, l_29, l_31, l_33, l_35, l_37, l_38, l_39, l_41, l_42, l_94, l_95, l_96, l_97, l_98, l_99, l_101, l_103, l_105, l_106, l_107, l_108, l_109, l_111, l_114, l_115, l_116, l_117, l_118, l_119, l_120, l_123, l_125, l_126, l_127, l_128, l_129, l_130, l_131, e_132_1, e_132_2, e_132_4, e_132_6, e_132_8, e_132_9, e_132_10, e_132_11, e_132_12, e_132_18, e_132_19, e_132_20, e_132_21, e_132_22, e_132_23, e_132_24, e_132_25, e_132_29, e_132_36, e_132_38, e_132_40, e_132_41, e_132_42, e_132_44, e_132_46, e_132_47, e_132_49, e_132_50, e_132_51, e_132_52, e_132_54, e_132_55, e_132_56, e_132_58, e_132_60, e_132_61, e_132_62, e_132_66, l_133, l_134, l_135, l_136, l_137, l_138, l_139, l_140, l_141, l_142, l_143, l_144, l_145, l_146, l_147, l_148, l_149, l_150, l_151, l_152, l_153, l_154, l_155, l_156, l_157, l_158, l_159, l_160, l_161, l_162, l_163, l_164, l_165, l_166, l_167, l_168, l_169, l_170, upA, reduceIte, neF]
    · exact Inv_s (by repeat (first | exact ex_rf _ _ _ | refine ex_up ?_ rfl)) h0
  by_cases hR8 : 8 < R
  · have hx : nI R < nI 1 ∨ nI 8 < nI R := .inr (nI_lt hR8 (by omega))
    apply pl_mk
    · conv => lhs; simp (disch := omega) only [fX11_holds, eR, e_within0 _ _ _ _ hx, ↓mm1, ↓mm9, ↓mm100, ↓mm8, bdS, gdI, gdZ, eq_self, e_within, e_isInM, e_isBell, addK, pk_mul, nI_clamp, ofN, true_and, false_and, and_false, and_true, and_self, ltT, ltF, leT, leF, eqF, m1F, m1F2, m1L, m1L2, m1G, i_0, i_1, i_2, i_3, i_4, i_5, i_6, i_7, i_8, i_9, i_10, i_11, i_12, i_14, i_15, i_16, i_17, i_18, i_19, i_20, i_21, i_23, i_24, i_25, i_26, i_31, i_32, i_34, i_40, i_41, i_42, i_43, i_44, i_45, i_47, i_48, i_57, i_59, i_60, i_61, i_62, i_63, i_65, i_80, i_90, i_97, i_98, i_99, i_100, i_122, i_150, i_151, i_255, i_256, i_258, i_259, i_260, i_261, i_262, i_263, i_271, i_273, i_274, i_275, i_276, i_277, i_281, i_282, i_380, i_400, i_500, i_600, i_800, i_999, i_1000, i_9999, i_10000, i_10100, i_10101, i_10102, i_10103, i_10104, i_10105, i_10106, i_10107, i_10108, i_10109, i_27720, i_65535, i_1664525, i_100000000, i_252645135, i_858993459, i_1013904223, i_1431655765, e_1_0, e_1_1, e_1_2, e_1_3, e_1_4, e_1_5, e_2_0, e_2_1, e_2_2, e_2_3, e_3_7, e_3_8, e_3_9, e_3_10, e_3_11, e_3_12, e_3_13, e_11_2, e_13_0, e_13_1, e_13_2, e_13_3, e_14_2, e_14_3, e_14_4, e_14_5, e_14_6, e_14_7, e_21_2, e_23_2, e_25_2, e_27_0, e_27_1, e_27_2, e_27_3, e_27_4, e_27_5, e_27_6, e_28_2, e_30_2, e_32_2, e_34_2, e_36_2, e_40_2, e_40_3, e_41_0, e_41_1, e_41_2, e_41_3, e_41_4, e_41_5, e_91_0, e_91_4, e_91_5, e_91_6, e_91_7, e_92_0, e_92_1, e_92_2, e_92_3, e_93_2, e_93_3, e_93_4, e_93_5, e_93_6, e_93_7, e_100_2, e_102_2, e_104_2, e_110_0, e_110_1, e_110_2, e_110_3, e_112_0, e_112_1, e_112_2, e_112_3, e_113_7, e_113_8, e_113_9, e_113_10, e_113_11, e_113_12, e_113_13, e_121_2, e_124_0, e_124_1, e_124_2, e_124_3, e_124_4, e_124_5, e_124_6, e_124_7, e_124_8, e_124_9, l_4, l_5, l_6, l_7, l_8, l_9, l_10, l_12, l_15, l_16, l_17, l_18, l_19, l_20, l_22, l_24, l_26, l_29, l_31, l_33, l_35, l_37, l_38, l_39, l_41, l_42, l_94, l_95, l_96, l_97, l_98, l_99, l_101, l_103, l_105, l_106, l_107, l_108, l_109, l_111, l_114, l_115, l_116, l_117, l_118, l_119, l_120, l_123, l_125, l_126, l_127, l_128, l_129, l_130, l_131, e_132_1, e_132_2, e_132_4, e_132_6, e_132_8, e_132_9, e_132_10, e_132_11, e_132_12, e_132_18, e_132_19, e_132_20, e_132_21, e_132_22, e_132_23, e_132_24, e_132_25, e_132_29, e_132_36, e_132_38, e_132_40, e_132_41, e_132_42, e_132_44, e_132_46, e_132_47, e_132_49, e_132_50, e_132_51, e_132_52, e_132_54, e_132_55, e_132_56, e_132_58, e_132_60, e_132_61, e_132_62, e_132_66, l_133, l_134, l_135, l_136, l_137, l_138, l_139, l_140, l_141, l_142, l_143, l_144, l_145, l_146, l_147, l_148, l_149, l_150, l_151, l_152, l_153, l_154, l_155, l_156, l_157, l_158, l_159, l_160, l_161, l_162, l_163, l_164, l_165, l_166, l_167, l_168, l_169, l_170, upA, reduceIte, neF]
    · conv => lhs; simp (disch := omega) only [fX12_holds, q11, ↓mm1, ↓mm9, ↓mm100, ↓mm8, bdS, gdI, gdZ, eq_self, e_within, e_isInM, e_isBell, addK, pk_mul, nI_clamp, ofN, true_and, false_and, and_false, and_true, and_self, ltT, ltF, leT, leF, eqF, m1F, m1F2, m1L, m1L2, m1G, i_0, i_1, i_2, i_3, i_4, i_5, i_6, i_7, i_8, i_9, i_10, i_11, i_12, i_14, i_15, i_16, i_17, i_18, i_19, i_20, i_21, i_23, i_24, i_25, i_26, i_31, i_32, i_34, i_40, i_41, i_42, i_43, i_44, i_45, i_47, i_48, i_57, i_59, i_60, i_61, i_62, i_63, i_65, i_80, i_90, i_97, i_98, i_99, i_100, i_122, i_150, i_151, i_255, i_256, i_258, i_259, i_260, i_261, i_262, i_263, i_271, i_273, i_274, i_275, i_276, i_277, i_281, i_282, i_380, i_400, i_500, i_600, i_800, i_999, i_1000, i_9999, i_10000, i_10100, i_10101, i_10102, i_10103, i_10104, i_10105, i_10106, i_10107, i_10108, i_10109, i_27720, i_65535, i_1664525, i_100000000, i_252645135, i_858993459, i_1013904223, i_1431655765, e_1_0, e_1_1, e_1_2, e_1_3, e_1_4, e_1_5, e_2_0, e_2_1, e_2_2, e_2_3, e_3_7, e_3_8, e_3_9, e_3_10, e_3_11, e_3_12, e_3_13, e_11_2, e_13_0, e_13_1, e_13_2, e_13_3, e_14_2, e_14_3, e_14_4, e_14_5, e_14_6, e_14_7, e_21_2, e_23_2, e_25_2, e_27_0, e_27_1, e_27_2, e_27_3, e_27_4, e_27_5, e_27_6, e_28_2, e_30_2, e_32_2, e_34_2, e_36_2, e_40_2, e_40_3, e_41_0, e_41_1, e_41_2, e_41_3, e_41_4, e_41_5, e_91_0, e_91_4, e_91_5, e_91_6, e_91_7, e_92_0, e_92_1, e_92_2, e_92_3, e_93_2, e_93_3, e_93_4, e_93_5, e_93_6, e_93_7, e_100_2, e_102_2, e_104_2, e_110_0, e_110_1, e_110_2, e_110_3, e_112_0, e_112_1, e_112_2, e_112_3, e_113_7, e_113_8, e_113_9, e_113_10, e_113_11, e_113_12, e_113_13, e_121_2, e_124_0, e_124_1, e_124_2, e_124_3, e_124_4, e_124_5, e_124_6, e_124_7, e_124_8, e_124_9, l_4, l_5, l_6, l_7, l_8, l_9, l_10, l_12, l_15, l_16, l_17, l_18, l_19, l_20, l_22, l_24, l_26, l_29, l_31, l_33, l_35, l_37, l_38, l_39, l_41, l_42, l_94, l_95, l_96, l_97, l_98, l_99, l_101, l_103, l_105, l_106, l_107, l_108, l_109, l_111, l_114, l_115, l_116, l_117, l_118, l_119, l_120, l_123, l_125, l_126, l_127, l_128, l_129, l_130, l_131, e_132_1, e_132_2, e_132_4, e_132_6, e_132_8, e_132_9, e_132_10, e_132_11, e_132_12, e_132_18, e_132_19, e_132_20, e_132_21, e_132_22, e_132_23, e_132_24, e_132_25, e_132_29, e_132_36, e_132_38, e_132_40, e_132_41, e_132_42, e_132_44, e_132_46, e_132_47, e_132_49, e_132_50, e_132_51, e_132_52, e_132_54, e_132_55, e_132_56, e_132_58, e_132_60, e_132_61, e_132_62, e_132_66, l_133, l_134, l_135, l_136, l_137, l_138, l_139, l_140, l_141, l_142, l_143, l_144, l_145, l_146, l_147, l_148, l_149, l_150, l_151, l_152, l_153, l_154, l_155, l_156, l_157, l_158, l_159, l_160, l_161, l_162, l_163, l_164, l_165, l_166, l_167, l_168, l_169, l_170, upA, reduceIte, neF]
    · exact Inv_s (by repeat (first | exact ex_rf _ _ _ | refine ex_up ?_ rfl)) h0
  by_cases hin : a1 = nI 0 ∨ ∃ r, r < R ∧ a1 = nI (10 + r)
  · refine pl_s h0 fun m hm => ?_
    have G : hG R (fun r b => nv (D 38 (8 * r + b))) D (ev_up m 132 0 (nI 0)) := by
      refine ⟨by omega, eR, by simp (disch := omega) only [upA, neF, eqTn, true_and, false_and, and_false, and_true, and_self, reduceIte]; rw [re_c hm 132 rfl rfl]; exact q11, fun r b h1 h2 => ?_⟩
      obtain ⟨e1, e2⟩ := gH (8 * r + b) (by omega)
      obtain ⟨e3, e4⟩ := bI_nv (by decide) e2
      refine ⟨e3, ?_, e4⟩
      rw [upN _ _ _ _ (by decide), re_c hm 161 rfl rfl, e1]
      exact e3
    obtain ⟨c', m', s1, s2, s3, s4, s5, s6⟩ := e_weak4 (kp := kp) (fu := fu) hfu 256 fu fu D (ev_up m 132 0 (nI 0)) (by decide) (by omega) (by omega) G (fun t h1 h2 => by omega)
    rw [show nI 256 + mi1 = nI 255 from m1s 255] at s1 s2
    obtain ⟨g, g0, g1, g2, -⟩ := (s4 0 (by omega) (by omega)).2 (by rw [ones_0]; omega)
    rw [g1] at s1
    have EM : ex mS [0] m' m := ex_cat (ex_0 m (nI 0)) s6 _ _ rfl rfl
    have m7 : (ev_up m 132 0 (nI 0)) 132 7 = nI R := G.2.2.1
    have W1 : fX11_within sh_L (sh_E kp) fu (nI R) (nI 1) (nI 8) D = some (nI 1, D) := e_within _ _ _ _ (by omega) (by omega) (by decide)
    have P1 : fX3_weakestHold sh_L (sh_E kp) fu 124 D = some (nI g, c') := by rw [fX3_weakestHold, i_255]; exact s1
    have P2 : fX12_findsHeld sh_L (sh_E kp) fu 132 (ev_up m 132 0 (nI 0)) = some (nI 0, m') := by rw [fX12_findsHeld, i_255]; exact s2
    rcases hin with rfl | ⟨r, hr, rfl⟩
    · refine ⟨nI g, c', m', ?_, ?_, ex_sub s5 rfl, EM⟩
      · rw [fX11_holds, e_1_0, e_2_0, eR, i_1, i_8, W1, bdS, i_0, if_neg (by decide), if_pos rfl, e_1_5, P1, bdS]
      · rw [fX12_holds, i_0, m7, if_neg (fun e => hR0 ((nI_eq (by omega) (by decide)).mp e)), i_8, if_neg (nI_nlt (by omega) (by omega)), if_pos rfl, fX12_holds_44, P2, bdS, i_0, if_pos rfl, e_132_52, l_162, gdI (by decide) (by decide), nI_clamp (by decide), g2]
    · obtain ⟨x, x1, x2⟩ := e_held13 (kp := kp) (fu := fu) (r := r) hfu s3 s4 g0 g1 g2 hr (r + 1) 0 fu fu 0 mi1 (by omega) (by omega) (by omega) (by decide) ones_0 ⟨g, Nat.le_refl _, g1, g0⟩
      refine ⟨x, c', m', ?_, ?_, ex_sub s5 rfl, EM⟩
      · rw [fX11_holds, e_1_0, e_2_0, eR, i_1, i_8, W1, bdS, i_0, if_neg (by decide), if_neg (fun e => by have := (nI_eq (by omega) (by decide)).mp e; omega), i_10, i_9, addK, e_within _ _ _ _ (by omega) (by omega) (by omega), bdS, if_neg (by decide), e_1_5, pk_sub (by omega), Nat.add_sub_cancel_left, fX3_heldBy, P1, bdS, i_0, mm1, x1, bdS]
      · rw [fX12_holds, i_0, m7, if_neg (fun e => hR0 ((nI_eq (by omega) (by decide)).mp e)), i_8, if_neg (nI_nlt (by omega) (by omega)), if_neg (fun e => by have := (nI_eq (by omega) (by decide)).mp e; omega), i_10, i_9, addK, e_isInM _ _ _ _ _ (by omega) (by omega) (by omega), bdS, if_neg (by decide), fX12_holds_44, P2, bdS, i_0, if_neg (fun e => by have := (nI_eq (by omega) (by decide)).mp e; omega), mm1, x2]
  · have ha0 : ¬ a1 = nI 0 := fun e => hin (.inl e)
    rcases in_or a1 (a := 10) (b := 9 + R) (by omega) (by omega) with hb | ⟨w10, h1, h2, rfl⟩
    · apply pl_mk
      · conv => lhs; simp (disch := omega) only [fX11_holds, ha0, eR, e_within0 _ _ _ _ hb, ↓mm1, ↓mm9, ↓mm100, ↓mm8, bdS, gdI, gdZ, eq_self, e_within, e_isInM, e_isBell, addK, pk_mul, nI_clamp, ofN, true_and, false_and, and_false, and_true, and_self, ltT, ltF, leT, leF, eqF, m1F, m1F2, m1L, m1L2, m1G, i_0, i_1, i_2, i_3, i_4, i_5, i_6, i_7, i_8, i_9, i_10, i_11, i_12, i_14, i_15, i_16, i_17, i_18, i_19, i_20, i_21, i_23, i_24, i_25, i_26, i_31, i_32, i_34, i_40, i_41, i_42, i_43, i_44, i_45, i_47, i_48, i_57, i_59, i_60, i_61, i_62, i_63, i_65, i_80, i_90, i_97, i_98, i_99, i_100, i_122, i_150, i_151, i_255, i_256, i_258, i_259, i_260, i_261, i_262, i_263, i_271, i_273, i_274, i_275, i_276, i_277, i_281, i_282, i_380, i_400, i_500, i_600, i_800, i_999, i_1000, i_9999, i_10000, i_10100, i_10101, i_10102, i_10103, i_10104, i_10105, i_10106, i_10107, i_10108, i_10109, i_27720, i_65535, i_1664525, i_100000000, i_252645135, i_858993459, i_1013904223, i_1431655765, e_1_0, e_1_1, e_1_2, e_1_3, e_1_4, e_1_5, e_2_0, e_2_1, e_2_2, e_2_3, e_3_7, e_3_8, e_3_9, e_3_10, e_3_11, e_3_12, e_3_13, e_11_2, e_13_0, e_13_1, e_13_2, e_13_3, e_14_2, e_14_3, e_14_4, e_14_5, e_14_6, e_14_7, e_21_2, e_23_2, e_25_2, e_27_0, e_27_1, e_27_2, e_27_3, e_27_4, e_27_5, e_27_6, e_28_2, e_30_2, e_32_2, e_34_2, e_36_2, e_40_2, e_40_3, e_41_0, e_41_1, e_41_2, e_41_3, e_41_4, e_41_5, e_91_0, e_91_4, e_91_5, e_91_6, e_91_7, e_92_0, e_92_1, e_92_2, e_92_3, e_93_2, e_93_3, e_93_4, e_93_5, e_93_6, e_93_7, e_100_2, e_102_2, e_104_2, e_110_0, e_110_1, e_110_2, e_110_3, e_112_0, e_112_1, e_112_2, e_112_3, e_113_7, e_113_8, e_113_9, e_113_10, e_113_11, e_113_12, e_113_13, e_121_2, e_124_0, e_124_1, e_124_2, e_124_3, e_124_4, e_124_5, e_124_6, e_124_7, e_124_8, e_124_9, l_4, l_5, l_6, l_7, l_8, l_9, l_10, l_12, l_15, l_16, l_17, l_18, l_19, l_20, l_22, l_24, l_26, l_29, l_31, l_33, l_35, l_37, l_38, l_39, l_41, l_42, l_94, l_95, l_96, l_97, l_98, l_99, l_101, l_103, l_105, l_106, l_107, l_108, l_109, l_111, l_114, l_115, l_116, l_117, l_118, l_119, l_120, l_123, l_125, l_126, l_127, l_128, l_129, l_130, l_131, e_132_1, e_132_2, e_132_4, e_132_6, e_132_8, e_132_9, e_132_10, e_132_11, e_132_12, e_132_18, e_132_19, e_132_20, e_132_21, e_132_22, e_132_23, e_132_24, e_132_25, e_132_29, e_132_36, e_132_38, e_132_40, e_132_41, e_132_42, e_132_44, e_132_46, e_132_47, e_132_49, e_132_50, e_132_51, e_132_52, e_132_54, e_132_55, e_132_56, e_132_58, e_132_60, e_132_61, e_132_62, e_132_66, l_133, l_134, l_135, l_136, l_137, l_138, l_139, l_140, l_141, l_142, l_143, l_144, l_145, l_146, l_147, l_148, l_149, l_150, l_151, l_152, l_153, l_154, l_155, l_156, l_157, l_158, l_159, l_160, l_161, l_162, l_163, l_164, l_165, l_166, l_167, l_168, l_169, l_170, upA, reduceIte, neF]
      · conv => lhs; simp (disch := omega) only [fX12_holds, ha0, q11, e_isInM0 _ _ _ _ _ hb, ↓mm1, ↓mm9, ↓mm100, ↓mm8, bdS, gdI, gdZ, eq_self, e_within, e_isInM, e_isBell, addK, pk_mul, nI_clamp, ofN, true_and, false_and, and_false, and_true, and_self, ltT, ltF, leT, leF, eqF, m1F, m1F2, m1L, m1L2, m1G, i_0, i_1, i_2, i_3, i_4, i_5, i_6, i_7, i_8, i_9, i_10, i_11, i_12, i_14, i_15, i_16, i_17, i_18, i_19, i_20, i_21, i_23, i_24, i_25, i_26, i_31, i_32, i_34, i_40, i_41, i_42, i_43, i_44, i_45, i_47, i_48, i_57, i_59, i_60, i_61, i_62, i_63, i_65, i_80, i_90, i_97, i_98, i_99, i_100, i_122, i_150, i_151, i_255, i_256, i_258, i_259, i_260, i_261, i_262, i_263, i_271, i_273, i_274, i_275, i_276, i_277, i_281, i_282, i_380, i_400, i_500, i_600, i_800, i_999, i_1000, i_9999, i_10000, i_10100, i_10101, i_10102, i_10103, i_10104, i_10105, i_10106, i_10107, i_10108, i_10109, i_27720, i_65535, i_1664525, i_100000000, i_252645135, i_858993459, i_1013904223, i_1431655765, e_1_0, e_1_1, e_1_2, e_1_3, e_1_4, e_1_5, e_2_0, e_2_1, e_2_2, e_2_3, e_3_7, e_3_8, e_3_9, e_3_10, e_3_11, e_3_12, e_3_13, e_11_2, e_13_0, e_13_1, e_13_2, e_13_3, e_14_2, e_14_3, e_14_4, e_14_5, e_14_6, e_14_7, e_21_2, e_23_2, e_25_2, e_27_0, e_27_1, e_27_2, e_27_3, e_27_4, e_27_5, e_27_6, e_28_2, e_30_2, e_32_2, e_34_2, e_36_2, e_40_2, e_40_3, e_41_0, e_41_1, e_41_2, e_41_3, e_41_4, e_41_5, e_91_0, e_91_4, e_91_5, e_91_6, e_91_7, e_92_0, e_92_1, e_92_2, e_92_3, e_93_2, e_93_3, e_93_4, e_93_5, e_93_6, e_93_7, e_100_2, e_102_2, e_104_2, e_110_0, e_110_1, e_110_2, e_110_3, e_112_0, e_112_1, e_112_2, e_112_3, e_113_7, e_113_8, e_113_9, e_113_10, e_113_11, e_113_12, e_113_13, e_121_2, e_124_0, e_124_1, e_124_2, e_124_3, e_124_4, e_124_5, e_124_6, e_124_7, e_124_8, e_124_9, l_4, l_5, l_6, l_7, l_8, l_9, l_10, l_12, l_15, l_16, l_17, l_18, l_19, l_20, l_22, l_24, l_26, l_29, l_31, l_33, l_35, l_37, l_38, l_39, l_41, l_42, l_94, l_95, l_96, l_97, l_98, l_99, l_101, l_103, l_105, l_106, l_107, l_108, l_109, l_111, l_114, l_115, l_116, l_117, l_118, l_119, l_120, l_123, l_125, l_126, l_127, l_128, l_129, l_130, l_131, e_132_1, e_132_2, e_132_4, e_132_6, e_132_8, e_132_9, e_132_10, e_132_11, e_132_12, e_132_18, e_132_19, e_132_20, e_132_21, e_132_22, e_132_23, e_132_24, e_132_25, e_132_29, e_132_36, e_132_38, e_132_40, e_132_41, e_132_42, e_132_44, e_132_46, e_132_47, e_132_49, e_132_50, e_132_51, e_132_52, e_132_54, e_132_55, e_132_56, e_132_58, e_132_60, e_132_61, e_132_62, e_132_66, l_133, l_134, l_135, l_136, l_137, l_138, l_139, l_140, l_141, l_142, l_143, l_144, l_145, l_146, l_147, l_148, l_149, l_150, l_151, l_152, l_153, l_154, l_155, l_156, l_157, l_158, l_159, l_160, l_161, l_162, l_163, l_164, l_165, l_166, l_167, l_168, l_169, l_170, upA, reduceIte, neF]
      · exact Inv_s (by repeat (first | exact ex_rf _ _ _ | refine ex_up ?_ rfl)) h0
    · exact absurd (.inr ⟨w10 - 10, by omega, by rw [show 10 + (w10 - 10) = w10 by omega]⟩) hin
