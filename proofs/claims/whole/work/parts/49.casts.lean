/-! ===== casts ===== -/
def anyF (p : Nat → Bool) : Nat → Nat → Bool
  | _, 0 => false
  | i, k + 1 => p i || anyF p (i + 1) k
theorem anyF_iff (p : Nat → Bool) (k : Nat) : ∀ i, anyF p i k = true ↔ ∃ j, i ≤ j ∧ j < i + k ∧ p j = true := by
  induction k with
  | zero => intro i; exact ⟨fun h => (by cases h), fun ⟨j, h1, h2, _⟩ => (by omega)⟩
  | succ k ih =>
    intro i
    rw [anyF, Bool.or_eq_true, ih]
    constructor
    · rintro (h | ⟨j, h1, h2, h3⟩)
      · exact ⟨i, by omega, by omega, h⟩
      · exact ⟨j, by omega, by omega, h3⟩
    · rintro ⟨j, h1, h2, h3⟩
      by_cases e : j = i
      · subst e; exact .inl h3
      · exact .inr ⟨j, by omega, by omega, h3⟩
theorem anyF_eq {p q : Nat → Bool} {i k i2 k2 : Nat} (h : (∃ j, i ≤ j ∧ j < i + k ∧ p j = true) ↔ ∃ j, i2 ≤ j ∧ j < i2 + k2 ∧ q j = true) : anyF p i k = anyF q i2 k2 := by
  have := (anyF_iff p k i).trans (h.trans (anyF_iff q k2 i2).symm)
  cases h1 : anyF p i k <;> cases h2 : anyF q i2 k2 <;> simp_all
theorem anyF_st (P : Nat → Bool) (a k : Nat) (D : ev_D) : (if P a = true then some (nI 1, D) else some (nI (if anyF P (a + 1) k = true then 1 else 0), D)) = some (nI (if anyF P a (k + 1) = true then 1 else 0), D) := by
  have e : anyF P a (k + 1) = (P a || anyF P (a + 1) k) := rfl
  rw [e]
  cases P a <;> rfl
def btw (w : Nat → Nat) (i j : Nat) : Bool := decide (min (w i) (w j) < max (w i) (w j)) && decide (max (w i) (w j) < 2 * min (w i) (w j))
theorem e_beat {kp fu : Nat} {w : Nat → Nat} {D : ev_D} (hw : ∀ b, b < 8 → D 4 b = nI (w b)) (hw9 : ∀ b, b < 8 → w b ≤ 99) {i j : Nat} (hi : i < 8) (hj : j < 8) : fX3_beat sh_L (sh_E kp) fu 124 (nI i) (nI j) D = some (nI (if btw w i j then 1 else 0), D) := by
  have a := hw9 i hi
  have b := hw9 j hj
  rw [fX3_beat, e_124_0, e_3_7, l_4, gdI hi (by omega), gdI hj (by omega), nI_clamp (by omega), nI_clamp (by omega), hw i hi, hw j hj, e_min _ _ _ _ (by omega) (by omega), bdS, gdI hi (by omega), gdI hj (by omega), hw i hi, hw j hj, e_max _ _ _ _ (by omega) (by omega), bdS, i_0, i_1, i_2, pk_mul]
  unfold btw
  by_cases h1 : min (w i) (w j) < max (w i) (w j)
  · rw [if_neg (nI_ge h1 (by omega)), decide_eq_true h1, Bool.true_and]
    by_cases h2 : max (w i) (w j) < 2 * min (w i) (w j)
    · rw [if_neg (nI_ge h2 (by omega)), decide_eq_true h2]; rfl
    · rw [if_pos (nI_le (by omega) (by omega)), decide_eq_false h2]; rfl
  · rw [if_pos (nI_le (by omega) (by omega)), decide_eq_false h1]; rfl
theorem e_cast18 {kp fu : Nat} {w : Nat → Nat} (hw9 : ∀ b, b < 8 → w b ≤ 99) (K : Nat → Int32 → Int32 → ev_D → ev_Op) (l1 : Int32) {i : Nat} (hi : i < 8) (k : Nat) : ∀ (j f a : Nat) (D : ev_D), j + k = 8 → k < f → (∀ b, b < 8 → D 4 b = nI (w b)) → D 128 i = nI a → ∃ D', fX3_castAnew_18 sh_L (sh_E kp) fu K f 124 l1 (nI i) (nI j) D = K 124 l1 (nI (i + 1)) D' ∧ D' 128 i = nI (up (fun j s => if btw w i j then s ||| 2 ^ j else s) j k a) ∧ ∀ q x, ¬ (q = 128 ∧ x = i) → D' q x = D q x := by
  induction k with
  | zero =>
    intro j f a D h1 h2 hw ha
    obtain ⟨f, rfl⟩ : ∃ g, f = g + 1 := ⟨f - 1, by omega⟩
    exact ⟨D, by rw [fX3_castAnew_18, i_8, if_pos (nI_le (by omega) (by omega)), i_1, addK], ha, fun _ _ _ => rfl⟩
  | succ k ih =>
    intro j f a D h1 h2 hw ha
    obtain ⟨f, rfl⟩ : ∃ g, f = g + 1 := ⟨f - 1, by omega⟩
    have hbt := e_beat (kp := kp) (fu := fu) hw hw9 hi (show j < 8 by omega)
    have keep : ∀ v, ∀ b, b < 8 → (ev_up D 128 i v) 4 b = nI (w b) := fun v b hb => by rw [upN _ _ _ _ (by decide)]; exact hw b hb
    obtain ⟨D', q1, q2, q3⟩ := ih (j + 1) f (if btw w i j then a ||| 2 ^ j else a) (ev_up D 128 i (nI (if btw w i j then a ||| 2 ^ j else a))) (by omega) (by omega) (keep _) (upS _ _ _ _)
    refine ⟨D', ?_, q2, fun q x hq => (q3 q x hq).trans (by rw [upA, if_neg hq])⟩
    rw [← q1, fX3_castAnew_18, i_8, if_neg (nI_ge (by omega) (by omega)), e_124_6, l_128, gdI (by omega) (by omega), hbt, bdS, i_0, nI_clamp (by omega), ha, i_1, addK, i_31]
    cases btw w i j
    · rw [if_pos bF, gdI (by omega) (by omega), nI_or, Nat.or_zero]; rfl
    · rw [if_neg (by decide), gdI (by omega) (by omega), nI_shl (by omega), nI_or]; rfl
theorem e_cast10 {kp fu : Nat} (hfu : 30000 ≤ fu) {w : Nat → Nat} (hw9 : ∀ b, b < 8 → w b ≤ 99) (l1 : Int32) (k : Nat) : ∀ (i f : Nat) (D : ev_D), i + k = 8 → k < f → (∀ b, b < 8 → D 4 b = nI (w b)) → (∀ j, i ≤ j → j < 8 → D 128 j = nI 0) → ∃ D', fX3_castAnew_10 sh_L (sh_E kp) fu f 124 l1 (nI i) D = fX3_castAnew_67 sh_L (sh_E kp) fu fu 124 l1 (nI 255) (nI 0) D' ∧ (∀ j, i ≤ j → j < 8 → D' 128 j = nI (sO (btw w j) 8)) ∧ (∀ j, j < i → D' 128 j = D 128 j) ∧ ex [128] [] D' D := by
  induction k with
  | zero =>
    intro i f D h1 h2 hw hz
    obtain ⟨f, rfl⟩ : ∃ g, f = g + 1 := ⟨f - 1, by omega⟩
    exact ⟨D, by rw [fX3_castAnew_10, i_8, if_pos (nI_le (by omega) (by omega)), i_255, i_0], fun j h1 h2 => by omega, fun _ _ => rfl, ex_rf _ _ _⟩
  | succ k ih =>
    intro i f D h1 h2 hw hz
    obtain ⟨f, rfl⟩ : ∃ g, f = g + 1 := ⟨f - 1, by omega⟩
    obtain ⟨D1, q1, q2, q3⟩ := e_cast18 (kp := kp) (fu := fu) hw9 (fX3_castAnew_10 sh_L (sh_E kp) fu f) l1 (show i < 8 by omega) 8 0 fu 0 D rfl (by omega) hw (hz i (by omega) (by omega))
    obtain ⟨D', r1, r2, r3, r4⟩ := ih (i + 1) f D1 (by omega) (by omega) (fun b hb => by rw [q3 _ _ (by omega)]; exact hw b hb) (fun j h3 h4 => by rw [q3 _ _ (by omega)]; exact hz j (by omega) h4)
    refine ⟨D', ?_, fun j h3 h4 => ?_, fun j hj => ?_, ex_tr (fun q x a b => q3 q x fun z => by rw [z.1] at a; cases a) r4⟩
    · rw [fX3_castAnew_10, i_8, if_neg (nI_ge (by omega) (by omega)), i_0, q1]
      exact r1
    · by_cases e : j = i
      · subst e
        rw [r3 j (by omega)]
        exact q2
      · exact r2 j (by omega) h4
    · rw [r3 j (by omega)]
      exact q3 _ _ (by omega)
theorem e_fill {kp fu q n : Nat} (hL : sh_L q = n) (hn : n < 2 ^ 31) (v : Int32) (k : Nat) : ∀ (i f : Nat) (D : ev_D), i + k = n → k < f → fJ7_fill_5 sh_L (sh_E kp) fu f q v (nI i) (nI n) D = some (nI 0, fl q (fun _ => v) i k D) := by
  induction k with
  | zero =>
    intro i f D h1 h2
    obtain ⟨f, rfl⟩ : ∃ g, f = g + 1 := ⟨f - 1, by omega⟩
    rw [fJ7_fill_5, fl_0, if_pos (nI_le (by omega) (by omega)), i_0]
  | succ k ih =>
    intro i f D h1 h2
    obtain ⟨f, rfl⟩ : ∃ g, f = g + 1 := ⟨f - 1, by omega⟩
    rw [fJ7_fill_5, fl_s, ← ih (i + 1) f _ (by omega) (by omega), if_neg (nI_ge (by omega) (by omega)), hL, gdI (by omega) (by omega), nI_clamp (by omega), i_1, addK]
theorem e_fill0 {kp fu q n : Nat} (hL : sh_L q = n) (hn : n < fu) (hf : fu < 2 ^ 31) (v : Int32) (D : ev_D) : fJ7_fill sh_L (sh_E kp) fu q v D = some (nI 0, fl q (fun _ => v) 0 n D) := by
  rw [fJ7_fill, hL, ofN, i_0]
  exact e_fill hL (by omega) v n 0 fu D (by omega) hn
/-- two of those left beat -/
def aB (w : Nat → Nat) (s : Nat) : Bool := anyF (fun i => s.testBit i && !(Nat.beq (sO (btw w i) 8 &&& s) 0)) 0 8
theorem sO_8 (p : Nat → Bool) : sO p 8 < 256 := sO_lt p 8
theorem e_anyBeat {kp fu : Nat} {w : Nat → Nat} {D : ev_D} (hn : ∀ j, j < 8 → D 128 j = nI (sO (btw w j) 8)) {s : Nat} (hs : s < 256) (k : Nat) : ∀ (i f : Nat), i + k = 8 → k < f → fX3_anyBeat_2 sh_L (sh_E kp) fu f 124 (nI s) (nI i) D = some (nI (if anyF (fun i => s.testBit i && !(Nat.beq (sO (btw w i) 8 &&& s) 0)) i k then 1 else 0), D) := by
  induction k with
  | zero =>
    intro i f h1 h2
    obtain ⟨f, rfl⟩ : ∃ g, f = g + 1 := ⟨f - 1, by omega⟩
    rw [fX3_anyBeat_2, i_8, if_pos (nI_le (by omega) (by omega))]; rfl
  | succ k ih =>
    intro i f h1 h2
    obtain ⟨f, rfl⟩ : ∃ g, f = g + 1 := ⟨f - 1, by omega⟩
    have hl : sO (btw w i) 8 &&& s < 256 := and_lt (m := 8) (sO_8 _)
    rw [fX3_anyBeat_2, i_8, if_neg (nI_ge (by omega) (by omega)), e_isIn _ _ _ _ (by omega) (by omega), bdS, i_0, i_1, addK, e_124_6, l_128, anyF, ih (i + 1) f (by omega) (by omega)]
    cases hb : s.testBit i
    · rw [if_pos bF, Bool.false_and, Bool.false_or]
    · rw [if_neg (by decide), gdI (by omega) (by omega), nI_clamp (by omega), hn i (by omega), nI_and, Bool.true_and]
      by_cases h0 : sO (btw w i) 8 &&& s = 0
      · rw [h0, if_pos rfl]; rfl
      · rw [if_neg fun e => h0 ((nI_eq (by omega) (by decide)).mp e), nbF h0]; rfl
theorem e_comp {s : Nat} : (nI s ^^^ mi1) &&& nI 255 = nI (wo 255 s) := by
  rw [← nI_wo]
  apply nI_ext
  rw [Int32.toBitVec_and, Int32.toBitVec_xor, Int32.toBitVec_and, Int32.toBitVec_not]
  show (_ ^^^ BitVec.allOnes 32) &&& _ = _
  rw [BitVec.xor_allOnes, BitVec.and_comm]
/-- a set whose others beat, as the reference finds it -/
def iB (w : Nat → Nat) (s : Nat) : Bool := anyF (fun a => anyF (fun b => (!(s.testBit a) && !(s.testBit b)) && (decide (w b < w a) && decide (w a < 2 * w b))) 0 8) 0 8
theorem e_isBeat10 {kp fu : Nat} {w : Nat → Nat} {D : ev_D} (hw : ∀ b, b < 8 → D 136 b + nI 1 = nI (w b)) (hw9 : ∀ b, b < 8 → w b ≤ 99) (K : Nat → Int32 → Int32 → ev_D → ev_Op) {s a : Nat} (hs : s < 256) (ha : a < 8) (k : Nat) : ∀ (b f : Nat), b + k = 8 → k < f → fX12_isBeating_10 sh_L (sh_E kp) fu K f 132 (nI s) (nI a) (nI b) D = if anyF (fun b => (!(s.testBit a) && !(s.testBit b)) && (decide (w b < w a) && decide (w a < 2 * w b))) b k then some (nI 1, D) else K 132 (nI s) (nI (a + 1)) D := by
  have he : ∀ b, b < 8 → fX12_heavy sh_L (sh_E kp) fu 132 (nI b) D = some (nI (w b), D) := fun b hb => by
    rw [fX12_heavy, e_132_6, l_136, gdI hb (by omega), nI_clamp (by omega), i_1, hw b hb]
  induction k with
  | zero =>
    intro b f h1 h2
    obtain ⟨f, rfl⟩ : ∃ g, f = g + 1 := ⟨f - 1, by omega⟩
    rw [fX12_isBeating_10, i_8, if_pos (nI_le (by omega) (by omega)), i_1, addK]; rfl
  | succ k ih =>
    intro b f h1 h2
    obtain ⟨f, rfl⟩ : ∃ g, f = g + 1 := ⟨f - 1, by omega⟩
    have w1 := hw9 a ha
    have w2 := hw9 b (by omega)
    rw [fX12_isBeating_10, i_8, if_neg (nI_ge (by omega) (by omega)), e_hasM _ _ _ _ _ (by omega) (by omega), bdS, anyF, i_0, i_1, addK, ih (b + 1) f (by omega) (by omega)]
    cases h3 : s.testBit a
    · rw [if_pos bF, e_hasM _ _ _ _ _ (by omega) (by omega), bdS]
      cases h4 : s.testBit b
      · rw [if_pos bF, he a ha, bdS, he b (by omega), bdS]
        by_cases h5 : w b < w a
        · rw [if_neg (nI_ge h5 (by omega)), he a ha, bdS, he b (by omega), bdS, i_2, pk_mul, decide_eq_true h5]
          by_cases h6 : w a < 2 * w b
          · rw [if_neg (nI_ge h6 (by omega)), decide_eq_true h6]; rfl
          · rw [if_pos (nI_le (by omega) (by omega)), decide_eq_false h6, ih (b + 1) f (by omega) (by omega), h3]; rfl
        · rw [if_pos (nI_le (by omega) (by omega)), decide_eq_false h5, ih (b + 1) f (by omega) (by omega), h3]; rfl
      · rw [if_neg (by decide), ih (b + 1) f (by omega) (by omega), h3]; rfl
    · rw [if_neg (by decide)]; rfl
theorem e_isBeat2 {kp fu : Nat} (hfu : 30000 ≤ fu) {w : Nat → Nat} {D : ev_D} (hw : ∀ b, b < 8 → D 136 b + nI 1 = nI (w b)) (hw9 : ∀ b, b < 8 → w b ≤ 99) {s : Nat} (hs : s < 256) (k : Nat) : ∀ (a f : Nat), a + k = 8 → k < f → fX12_isBeating_2 sh_L (sh_E kp) fu f 132 (nI s) (nI a) D = some (nI (if anyF (fun a => anyF (fun b => (!(s.testBit a) && !(s.testBit b)) && (decide (w b < w a) && decide (w a < 2 * w b))) 0 8) a k then 1 else 0), D) := by
  induction k with
  | zero =>
    intro a f h1 h2
    obtain ⟨f, rfl⟩ : ∃ g, f = g + 1 := ⟨f - 1, by omega⟩
    rw [fX12_isBeating_2, i_8, if_pos (nI_le (by omega) (by omega))]; rfl
  | succ k ih =>
    intro a f h1 h2
    obtain ⟨f, rfl⟩ : ∃ g, f = g + 1 := ⟨f - 1, by omega⟩
    rw [fX12_isBeating_2, i_8, if_neg (nI_ge (by omega) (by omega)), i_0, e_isBeat10 hw hw9 _ hs (by omega) 8 0 fu rfl (by omega), ih (a + 1) f (by omega) (by omega)]
    exact anyF_st (fun a => anyF (fun b => (!(s.testBit a) && !(s.testBit b)) && (decide (w b < w a) && decide (w a < 2 * w b))) 0 8) a k D
theorem comp_bit {s k : Nat} (hk : k < 8) : (wo 255 s).testBit k = !(s.testBit k) := by
  rw [wo_bit]
  have : ∀ k, k < 8 → Nat.testBit 255 k = true := by decide
  rw [this k hk, Bool.true_and]
theorem aB_iB (w : Nat → Nat) (s : Nat) : aB w (wo 255 s) = iB w s := by
  refine anyF_eq ⟨?_, ?_⟩
  · rintro ⟨i, h1, h2, h3⟩
    rw [Bool.and_eq_true, comp_bit (by omega), Bool.not_eq_true', Bool.not_eq_true'] at h3
    obtain ⟨h3, h4⟩ := h3
    have h5 : ∃ j, (sO (btw w i) 8 &&& wo 255 s).testBit j = true := by
      refine Classical.byContradiction fun hn => ?_
      have : sO (btw w i) 8 &&& wo 255 s = 0 := ext_bit fun j => by
        rw [Nat.zero_testBit]
        cases hj : (sO (btw w i) 8 &&& wo 255 s).testBit j with
        | false => rfl
        | true => exact absurd ⟨j, hj⟩ hn
      rw [this] at h4
      cases h4
    obtain ⟨j, hj⟩ := h5
    rw [Nat.testBit_and, sO_bit, Bool.and_eq_true, Bool.and_eq_true, decide_eq_true_eq] at hj
    obtain ⟨⟨hj8, hbt⟩, hjs⟩ := hj
    rw [comp_bit hj8, Bool.not_eq_true'] at hjs
    unfold btw at hbt
    rw [Bool.and_eq_true, decide_eq_true_eq, decide_eq_true_eq] at hbt
    by_cases hlt : w j < w i
    · refine ⟨i, by omega, by omega, (anyF_iff _ _ _).mpr ⟨j, by omega, by omega, ?_⟩⟩
      rw [h3, hjs, decide_eq_true hlt, decide_eq_true (show w i < 2 * w j by omega)]; rfl
    · refine ⟨j, by omega, by omega, (anyF_iff _ _ _).mpr ⟨i, by omega, by omega, ?_⟩⟩
      rw [h3, hjs, decide_eq_true (show w i < w j by omega), decide_eq_true (show w j < 2 * w i by omega)]; rfl
  · rintro ⟨a, h1, h2, h3⟩
    obtain ⟨b, h4, h5, h6⟩ := (anyF_iff _ _ _).mp h3
    rw [Bool.and_eq_true, Bool.and_eq_true, Bool.and_eq_true, Bool.not_eq_true', Bool.not_eq_true', decide_eq_true_eq, decide_eq_true_eq] at h6
    obtain ⟨⟨ha, hb⟩, hc, hd⟩ := h6
    refine ⟨a, by omega, by omega, ?_⟩
    rw [comp_bit (by omega), ha, Bool.not_false, Bool.true_and, Bool.not_eq_true']
    refine nbF fun e => ?_
    have : (sO (btw w a) 8 &&& wo 255 s).testBit b = true := by
      rw [Nat.testBit_and, sO_bit, comp_bit (by omega), hb, decide_eq_true (show b < 8 by omega)]
      unfold btw
      rw [decide_eq_true (show min (w a) (w b) < max (w a) (w b) by omega), decide_eq_true (show max (w a) (w b) < 2 * min (w a) (w b) by omega)]; rfl
    rw [e, Nat.zero_testBit] at this
    cases this
def cst (w : Nat → Nat) (s b : Nat) : Nat := if ones b ≤ ones s then b else if iB w s then b else s
theorem e_cast67 {kp fu what : Nat} (hfu : 30000 ≤ fu) (hwh : what ≤ 1) {w : Nat → Nat} {D : ev_D} (hn : ∀ j, j < 8 → D 128 j = nI (sO (btw w j) 8)) (k : Nat) : ∀ (i f b : Nat), i + k = 256 → k < f → b < 256 → fX3_castAnew_67 sh_L (sh_E kp) fu f 124 (nI what) (nI b) (nI i) D = some (if what = 0 then nI (ones (up (cst w) i k b)) else nI (up (cst w) i k b), D) := by
  induction k with
  | zero =>
    intro i f b h1 h2 hb
    obtain ⟨f, rfl⟩ : ∃ g, f = g + 1 := ⟨f - 1, by omega⟩
    have hc : what = 0 ∨ what = 1 := by omega
    rw [fX3_castAnew_67, up_0, i_256, if_pos (nI_le (by omega) (by omega)), e_bitCount _ _ _ (by omega), bdS]
    rcases hc with rfl | rfl <;> rfl
  | succ k ih =>
    intro i f b h1 h2 hb
    obtain ⟨f, rfl⟩ : ∃ g, f = g + 1 := ⟨f - 1, by omega⟩
    have o1 := ones_le i
    have o2 := ones_le b
    have hl : wo 255 i < 256 := wo_lt (m := 8) (by decide)
    have hab : fX3_anyBeat sh_L (sh_E kp) fu 124 (nI (wo 255 i)) D = some (nI (if iB w i then 1 else 0), D) := by
      rw [fX3_anyBeat, i_0, ← aB_iB]
      exact e_anyBeat hn hl 8 0 fu rfl (by omega)
    have hcb : cst w i b < 256 := by unfold cst; split; exact hb; split; exact hb; omega
    have step := ih (i + 1) f (cst w i b) (by omega) (by omega) hcb
    rw [fX3_castAnew_67, up_s, ← step, i_256, if_neg (nI_ge (by omega) (by omega)), e_bitCount _ _ _ (by omega), bdS, e_bitCount _ _ _ (by omega), bdS, i_255, mm1, e_comp, hab, bdS, i_0, i_1, addK]
    unfold cst
    by_cases h3 : ones b ≤ ones i
    · rw [if_pos (nI_le h3 (by omega)), if_pos h3]
    · rw [if_neg (nI_ge (by omega) (by omega)), if_neg h3]
      cases iB w i <;> rfl
theorem e_casts23 {kp fu what : Nat} (hfu : 30000 ≤ fu) (hwh : what ≤ 1) {w : Nat → Nat} {D : ev_D} (hw : ∀ b, b < 8 → D 136 b + nI 1 = nI (w b)) (hw9 : ∀ b, b < 8 → w b ≤ 99) (k : Nat) : ∀ (i f b : Nat), i + k = 256 → k < f → b < 256 → fX12_casts_23 sh_L (sh_E kp) fu f 132 (nI what) (nI b) (nI i) D = some (if what = 0 then nI (ones (up (cst w) i k b)) else nI (up (cst w) i k b), D) := by
  induction k with
  | zero =>
    intro i f b h1 h2 hb
    obtain ⟨f, rfl⟩ : ∃ g, f = g + 1 := ⟨f - 1, by omega⟩
    have hc : what = 0 ∨ what = 1 := by omega
    rw [fX12_casts_23, up_0, i_256, if_pos (nI_le (by omega) (by omega)), e_onesOf _ _ (by omega) _ (by omega), bdS]
    rcases hc with rfl | rfl <;> rfl
  | succ k ih =>
    intro i f b h1 h2 hb
    obtain ⟨f, rfl⟩ : ∃ g, f = g + 1 := ⟨f - 1, by omega⟩
    have o1 := ones_le i
    have o2 := ones_le b
    have hab : fX12_isBeating sh_L (sh_E kp) fu 132 (nI i) D = some (nI (if iB w i then 1 else 0), D) := by
      rw [fX12_isBeating, i_0]
      exact e_isBeat2 hfu hw hw9 (by omega) 8 0 fu rfl (by omega)
    have hcb : cst w i b < 256 := by unfold cst; split; exact hb; split; exact hb; omega
    have step := ih (i + 1) f (cst w i b) (by omega) (by omega) hcb
    rw [fX12_casts_23, up_s, ← step, i_256, if_neg (nI_ge (by omega) (by omega)), e_onesOf _ _ (by omega) _ (by omega), bdS, e_onesOf _ _ (by omega) _ (by omega), bdS, hab, bdS, i_0, i_1, addK]
    unfold cst
    by_cases h3 : ones b ≤ ones i
    · rw [if_pos (nI_le h3 (by omega)), if_pos h3]
    · rw [if_neg (nI_ge (by omega) (by omega)), if_neg h3]
      cases iB w i <;> rfl
theorem p_casts {kp fu : Nat} (hfu : 30000 ≤ fu) (hf2 : fu < 2 ^ 31) (a1 : Int32) (D : ev_D) (h : Inv kp D) : pl kp (fX11_casts sh_L (sh_E kp) fu 1 a1) (fX12_casts sh_L (sh_E kp) fu 132 a1) D := by
  have h0 := h
  obtain ⟨w, hw, hw9, hwm⟩ := inv_heavy h
  rcases in_or a1 (a := 0) (b := 1) (by omega) (by omega) with hb | ⟨what, -, hwh, rfl⟩
  · apply pl_mk
    · conv => lhs; simp (disch := omega) only [fX11_casts, e_within0 _ _ _ _ hb, ↓mm1, ↓mm9, ↓mm100, ↓mm8, bdS, gdI, gdZ, eq_self, e_within, e_isInM, e_isBell, addK, pk_mul, nI_clamp, ofN, true_and, false_and, and_false, and_true, and_self, ltT, ltF, leT, leF, eqF, m1F, m1F2, m1L, m1L2, m1G, i_0, i_1, i_2, i_3, i_4, i_5, i_6, i_7, i_8, i_9, i_10, i_11, i_12, i_14, i_15, i_16, i_17, i_18, i_19, i_20, i_21, i_23, i_24, i_25, i_26, i_31, i_32, i_34, i_40, i_41, i_42, i_43, i_44, i_45, i_47, i_48, i_57, i_59, i_60, i_61, i_62, i_63, i_65, i_80, i_90, i_97, i_98, i_99, i_100, i_122, i_150, i_151, i_255, i_256, i_258, i_259, i_260, i_261, i_262, i_263, i_271, i_273, i_274, i_275, i_276, i_277, i_281, i_282, i_380, i_400, i_500, i_600, i_800, i_999, i_1000, i_9999, i_10000, i_10100, i_10101, i_10102, i_10103, i_10104, i_10105, i_10106, i_10107, i_10108, i_10109, i_27720, i_65535, i_1664525, i_100000000, i_252645135, i_858993459, i_1013904223, i_1431655765, e_1_0, e_1_1, e_1_2, e_1_3, e_1_4, e_1_5, e_2_0, e_2_1, e_2_2, e_2_3, e_3_7, e_3_8, e_3_9, e_3_10, e_3_11, e_3_12, e_3_13, e_11_2, e_13_0, e_13_1, e_13_2, e_13_3, e_14_2, e_14_3, e_14_4, e_14_5, e_14_6, e_14_7, e_21_2, e_23_2, e_25_2, e_27_0, e_27_1, e_27_2, e_27_3, e_27_4, e_27_5, e_27_6, e_28_2, e_30_2, e_32_2, e_34_2, e_36_2, e_40_2, e_40_3, e_41_0, e_41_1, e_41_2, e_41_3, e_41_4, e_41_5, e_91_0, e_91_4, e_91_5, e_91_6, e_91_7, e_92_0, e_92_1, e_92_2, e_92_3, e_93_2, e_93_3, e_93_4, e_93_5, e_93_6, e_93_7, e_100_2, e_102_2, e_104_2, e_110_0, e_110_1, e_110_2, e_110_3, e_112_0, e_112_1, e_112_2, e_112_3, e_113_7, e_113_8, e_113_9, e_113_10, e_113_11, e_113_12, e_113_13, e_121_2, e_124_0, e_124_1, e_124_2, e_124_3, e_124_4, e_124_5, e_124_6, e_124_7, e_124_8, e_124_9, l_4, l_5, l_6, l_7, l_8, l_9, l_10, l_12, l_15, l_16, l_17, l_18, l_19, l_20, l_22, l_24, l_26, l_29, l_31, l_33, l_35, l_37, l_38, l_39, l_41, l_42, l_94, l_95, l_96, l_97, l_98, l_99, l_101, l_103, l_105, l_106, l_107, l_108, l_109, l_111, l_114, l_115, l_116, l_117, l_118, l_119, l_120, l_123, l_125, l_126, l_127, l_128, l_129, l_130, l_131, e_132_1, e_132_2, e_132_4, e_132_6, e_132_8, e_132_9, e_132_10, e_132_11, e_132_12, e_132_18, e_132_19, e_132_20, e_132_21, e_132_22, e_132_23, e_132_24, e_132_25, e_132_29, e_132_36, e_132_38, e_132_40, e_132_41, e_132_42, e_132_44, e_132_46, e_132_47, e_132_49, e_132_50, e_132_51, e_132_52, e_132_54, e_132_55, e_132_56, e_132_58, e_132_60, e_132_61, e_132_62, e_132_66, l_133, l_134, l_135, l_136, l_137, l_138, l_139, l_140, l_141, l_142, l_143, l_144, l_145, l_146, l_147, l_148, l_149, l_150, l_151, l_152, l_153, l_154, l_155, l_156, l_157, l_158, l_159, l_160, l_161, l_162, l_163, l_164, l_165, l_166, l_167, l_168, l_169, l_170, upA, reduceIte, neF]
    · conv => lhs; simp (disch := omega) only [fX12_casts, e_isInM0 _ _ _ _ _ hb, ↓mm1, ↓mm9, ↓mm100, ↓mm8, bdS, gdI, gdZ, eq_self, e_within, e_isInM, e_isBell, addK, pk_mul, nI_clamp, ofN, true_and, false_and, and_false, and_true, and_self, ltT, ltF, leT, leF, eqF, m1F, m1F2, m1L, m1L2, m1G, i_0, i_1, i_2, i_3, i_4, i_5, i_6, i_7, i_8, i_9, i_10, i_11, i_12, i_14, i_15, i_16, i_17, i_18, i_19, i_20, i_21, i_23, i_24, i_25, i_26, i_31, i_32, i_34, i_40, i_41, i_42, i_43, i_44, i_45, i_47, i_48, i_57, i_59, i_60, i_61, i_62, i_63, i_65, i_80, i_90, i_97, i_98, i_99, i_100, i_122, i_150, i_151, i_255, i_256, i_258, i_259, i_260, i_261, i_262, i_263, i_271, i_273, i_274, i_275, i_276, i_277, i_281, i_282, i_380, i_400, i_500, i_600, i_800, i_999, i_1000, i_9999, i_10000, i_10100, i_10101, i_10102, i_10103, i_10104, i_10105, i_10106, i_10107, i_10108, i_10109, i_27720, i_65535, i_1664525, i_100000000, i_252645135, i_858993459, i_1013904223, i_1431655765, e_1_0, e_1_1, e_1_2, e_1_3, e_1_4, e_1_5, e_2_0, e_2_1, e_2_2, e_2_3, e_3_7, e_3_8, e_3_9, e_3_10, e_3_11, e_3_12, e_3_13, e_11_2, e_13_0, e_13_1, e_13_2, e_13_3, e_14_2, e_14_3, e_14_4, e_14_5, e_14_6, e_14_7, e_21_2, e_23_2, e_25_2, e_27_0, e_27_1, e_27_2, e_27_3, e_27_4, e_27_5, e_27_6, e_28_2, e_30_2, e_32_2, e_34_2, e_36_2, e_40_2, e_40_3, e_41_0, e_41_1, e_41_2, e_41_3, e_41_4, e_41_5, e_91_0, e_91_4, e_91_5, e_91_6, e_91_7, e_92_0, e_92_1, e_92_2, e_92_3, e_93_2, e_93_3, e_93_4, e_93_5, e_93_6, e_93_7, e_100_2, e_102_2, e_104_2, e_110_0, e_110_1, e_110_2, e_110_3, e_112_0, e_112_1, e_112_2, e_112_3, e_113_7, e_113_8, e_113_9, e_113_10, e_113_11, e_113_12, e_113_13, e_121_2, e_124_0, e_124_1, e_124_2, e_124_3, e_124_4, e_124_5, e_124_6, e_124_7, e_124_8, e_124_9, l_4, l_5, l_6, l_7, l_8, l_9, l_10, l_12, l_15, l_16, l_17, l_18, l_19, l_20, l_22, l_24, l_26, l_29, l_31, l_33, l_35, l_37, l_38, l_39, l_41, l_42, l_94, l_95, l_96, l_97, l_98, l_99, l_101, l_103, l_105, l_106, l_107, l_108, l_109, l_111, l_114, l_115, l_116, l_117, l_118, l_119, l_120, l_123, l_125, l_126, l_127, l_128, l_129, l_130, l_131, e_132_1, e_132_2, e_132_4, e_132_6, e_132_8, e_132_9, e_132_10, e_132_11, e_132_12, e_132_18, e_132_19, e_132_20, e_132_21, e_132_22, e_132_23, e_132_24, e_132_25, e_132_29, e_132_36, e_132_38, e_132_40, e_132_41, e_132_42, e_132_44, e_132_46, e_132_47, e_132_49, e_132_50, e_132_51, e_132_52, e_132_54, e_132_55, e_132_56, e_132_58, e_132_60, e_132_61, e_132_62, e_132_66, l_133, l_134, l_135, l_136, l_137, l_138, l_139, l_140, l_141, l_142, l_143, l_144, l_145, l_146, l_147, l_148, l_149, l_150, l_151, l_152, l_153, l_154, l_155, l_156, l_157, l_158, l_159, l_160, l_161, l_162, l_163, l_164, l_165, l_166, l_167, l_168, l_169, l_170, upA, reduceIte, neF]
    · exact Inv_s (by repeat (first | exact ex_rf _ _ _ | refine ex_up ?_ rfl)) h0
  obtain ⟨D1, q1, q2, q3, q4⟩ := e_cast10 (kp := kp) (fu := fu) hfu hw9 (nI what) 8 0 fu (fl 128 (fun _ => nI 0) 0 12 D) rfl (by omega) (fun b hb => by rw [fl_n _ _ _ _ _ (by decide)]; exact hw b hb) (fun j _ h2 => by rw [fl_i _ _ _ _ (by omega) (by omega)])
  have ee : ex [128] [] D1 D := ex_tr (fl_ex _ _ _ _ (ex_rf _ _ _) rfl) q4
  refine pl_mk (r := if what = 0 then nI (ones (up (cst w) 0 256 255)) else nI (up (cst w) 0 256 255)) (D1 := D1) (D2 := ev_up D1 132 0 (nI 0)) ?_ ?_ (Inv_s (ex_up (ex_mo ee rfl rfl) rfl) h0)
  · have e1 := e_cast67 (kp := kp) (fu := fu) hfu hwh (D := D1) (fun j hj => q2 j (by omega) hj) 256 0 fu 255 rfl (by omega) (by decide)
    rw [fX11_casts, i_0, i_1, e_within _ _ _ _ (Nat.zero_le _) hwh (by decide), bdS, if_neg (by decide), e_1_5, fX3_castAnew, e_124_6, i_0, e_fill0 l_128 (by omega) hf2, bdS, q1, e1, bdS]
  · have e1 := e_casts23 (kp := kp) (fu := fu) hfu hwh (D := ev_up D1 132 0 (nI 0)) (w := w) (fun b hb => by have := hwm (nI 0) b hb; rw [upN _ _ _ _ (by decide)] at this ⊢; rw [ex_at ee rfl]; exact this) hw9 256 0 fu 255 rfl (by omega) (by decide)
    rw [fX12_casts, i_0, i_1, e_isInM _ _ _ _ _ (Nat.zero_le _) hwh (by decide), bdS, if_neg (by decide), i_255, e1]
