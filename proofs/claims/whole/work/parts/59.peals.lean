/-! ===== peals: sets of those awake by their sums ===== -/
def cR (A : Nat → Bool) (x : Nat → Int) : Nat → (Int → Bool) → Nat
  | 0, Q => if Q 0 then 1 else 0
  | k + 1, Q => cR A x k Q + if A k then cR A x k (fun t => Q (t + x k)) else 0
theorem cR_cg {A : Nat → Bool} {x : Nat → Int} (hx : ∀ i, -9 ≤ x i ∧ x i ≤ 9) (k : Nat) : ∀ (Q Q2 : Int → Bool), (∀ t : Int, -(9 * k) ≤ t → t ≤ 9 * k → Q t = Q2 t) → cR A x k Q = cR A x k Q2 := by
  induction k with
  | zero => intro Q Q2 h; rw [cR, cR, h 0 (by omega) (by omega)]
  | succ k ih =>
    intro Q Q2 h
    have hk := hx k
    rw [cR, cR, ih Q Q2 fun t h1 h2 => h t (by omega) (by omega), ih _ (fun t => Q2 (t + x k)) fun t h1 h2 => h (t + x k) (by omega) (by omega)]
theorem cR_A {A B : Nat → Bool} {x : Nat → Int} (k : Nat) (h : ∀ i, i < k → A i = B i) : ∀ Q, cR A x k Q = cR B x k Q := by
  induction k with
  | zero => intro Q; rfl
  | succ k ih => intro Q; rw [cR, cR, ih (fun i hi => h i (by omega)), ih (fun i hi => h i (by omega)), h k (by omega)]
theorem cR_add {A : Nat → Bool} {x : Nat → Int} (k : Nat) : ∀ (Q Q1 Q2 : Int → Bool), (∀ t, Q t = (Q1 t || Q2 t)) → (∀ t, (Q1 t && Q2 t) = false) → cR A x k Q = cR A x k Q1 + cR A x k Q2 := by
  induction k with
  | zero =>
    intro Q Q1 Q2 h h2
    rw [cR, cR, cR, h 0]
    have := h2 0
    cases ha : Q1 0 <;> cases hb : Q2 0
    · rfl
    · rfl
    · rfl
    · rw [ha, hb] at this; cases this
  | succ k ih =>
    intro Q Q1 Q2 h h2
    rw [cR, cR, cR, ih Q Q1 Q2 h h2]
    cases A k
    · rw [if_neg (by decide), if_neg (by decide), if_neg (by decide)]; omega
    · rw [if_pos rfl, if_pos rfl, if_pos rfl, ih (fun t => Q (t + x k)) (fun t => Q1 (t + x k)) (fun t => Q2 (t + x k)) (fun t => h _) (fun t => h2 _)]
      omega
theorem cR_0 {A : Nat → Bool} {x : Nat → Int} (k : Nat) : cR A x k (fun _ => false) = 0 := by
  induction k with
  | zero => rfl
  | succ k ih => rw [cR, ih]; split <;> rfl
/-- sums from a on, n of them -/
theorem cR_sum {A : Nat → Bool} {x : Nat → Int} (k : Nat) (a : Int) (n : Nat) : up (fun i s => s + cR A x k (fun t => decide (t = a + i))) 0 n 0 = cR A x k (fun t => decide (a ≤ t ∧ t < a + n)) := by
  induction n with
  | zero =>
    rw [up_0]
    have : (fun t : Int => decide (a ≤ t ∧ t < a + ((0 : Nat) : Int))) = fun _ => false := funext fun t => decide_eq_false (by omega)
    rw [this, cR_0]
  | succ n ih =>
    rw [up_l, Nat.zero_add, ih]
    symm
    refine cR_add k _ _ _ (fun t => ?_) (fun t => ?_)
    · by_cases h1 : a ≤ t ∧ t < a + (n : Int)
      · rw [decide_eq_true h1, decide_eq_true (show a ≤ t ∧ t < a + ((n + 1 : Nat) : Int) by omega)]; rfl
      · rw [decide_eq_false h1, Bool.false_or]
        exact decide_eq_decide.mpr (by omega)
    · by_cases h1 : t = a + (n : Int)
      · rw [decide_eq_false (show ¬ (a ≤ t ∧ t < a + (n : Int)) by omega)]; rfl
      · rw [decide_eq_false h1, Bool.and_false]
/-! the sum of a set -/
def smS (x : Nat → Int) (X : Nat) : Nat → Int
  | 0 => 0
  | k + 1 => smS x X k + if X.testBit k then x k else 0
theorem smS_cg {x : Nat → Int} {X Y : Nat} (k : Nat) (h : ∀ i, i < k → X.testBit i = Y.testBit i) : smS x X k = smS x Y k := by
  induction k with
  | zero => rfl
  | succ k ih => rw [smS, smS, ih fun i hi => h i (by omega), h k (by omega)]
theorem smS_hi {x : Nat → Int} {X k : Nat} (hX : X < 2 ^ k) (d : Nat) : smS x X (k + d) = smS x X k := by
  induction d with
  | zero => rfl
  | succ d ih => rw [← Nat.add_assoc, smS, ih, bit_out hX (by omega), if_neg (by decide), Int.add_zero]
theorem top_bit {k Y i : Nat} (hY : Y < 2 ^ k) : (2 ^ k + Y).testBit i = if i = k then true else if i < k then Y.testBit i else false := by
  have e : 2 ^ k + Y = Y ||| 2 ^ k := by
    have h := Nat.two_pow_add_eq_or_of_lt hY 1
    rw [Nat.mul_one] at h
    rw [Nat.or_comm]
    exact h
  rw [e, Nat.testBit_or, pw_bit]
  by_cases h1 : i = k
  · subst h1; simp
  · rw [decide_eq_false h1, Bool.or_false, if_neg h1]
    by_cases h2 : i < k
    · rw [if_pos h2]
    · rw [if_neg h2, bit_out hY (by omega)]
theorem smS_top {x : Nat → Int} {k R Y : Nat} (hY : Y < 2 ^ k) (hk : k < R) : smS x (2 ^ k + Y) R = smS x Y R + x k := by
  obtain ⟨d, rfl⟩ : ∃ d, R = k + 1 + d := ⟨R - (k + 1), by omega⟩
  have h1 : 2 ^ k + Y < 2 ^ (k + 1) := by rw [Nat.pow_succ]; omega
  have h2 : Y < 2 ^ (k + 1) := by rw [Nat.pow_succ]; omega
  rw [smS_hi h1, smS_hi h2, smS, smS, top_bit hY, if_pos rfl, bit_out hY (Nat.le_refl _), smS_cg (Y := Y) k fun i hi => by rw [top_bit hY, if_neg (by omega), if_pos hi]]
  simp
theorem wo_top {k Y A : Nat} (hY : Y < 2 ^ k) : wo (2 ^ k + Y) A = 0 ↔ A.testBit k = true ∧ wo Y A = 0 := by
  have ex : ∀ {a b : Nat}, wo a b = 0 ↔ ∀ i, a.testBit i = true → b.testBit i = true := fun {a b} => by
    constructor
    · intro h i hi
      have := congrArg (fun z => Nat.testBit z i) h
      simp only [wo_bit, hi, Nat.zero_testBit, Bool.true_and, Bool.not_eq_false'] at this
      exact this
    · intro h
      refine ext_bit fun i => ?_
      rw [wo_bit, Nat.zero_testBit]
      cases ha : a.testBit i
      · rfl
      · rw [h i ha]; rfl
  rw [ex, ex]
  constructor
  · intro h
    refine ⟨h k (by rw [top_bit hY, if_pos rfl]), fun i hi => h i ?_⟩
    have hik : i < k := bit_in hY hi
    rw [top_bit hY, if_neg (by omega), if_pos hik]
    exact hi
  · rintro ⟨h1, h2⟩ i hi
    rw [top_bit hY] at hi
    by_cases e : i = k
    · rw [e]; exact h1
    · rw [if_neg e] at hi
      split at hi
      · exact h2 i hi
      · cases hi
theorem cnt_add (p : Nat → Bool) (a b : Nat) : cnt p (a + b) = cnt p a + cnt (fun i => p (a + i)) b := by
  induction b with
  | zero => rfl
  | succ b ih =>
    rw [← Nat.add_assoc, cnt_s, cnt_s, ih]
    split <;> omega
theorem cnt_0 {p : Nat → Bool} (n : Nat) (h : ∀ i, i < n → p i = false) : cnt p n = 0 := by
  induction n with
  | zero => rfl
  | succ n ih => rw [cnt_s, h n (by omega), if_neg (by decide)]; exact ih fun i hi => h i (by omega)
theorem pow_d (k : Nat) : 2 ^ (k + 1) = 2 ^ k + 2 ^ k := by rw [Nat.pow_succ]; omega
/-- all sets below 2^k of A, by their sums -/
theorem T_cR {x : Nat → Int} {A R : Nat} (k : Nat) : ∀ (Q : Int → Bool), k ≤ R → cnt (fun X => Nat.beq (wo X A) 0 && Q (smS x X R)) (2 ^ k) = cR (tb A) x k Q := by
  induction k with
  | zero =>
    intro Q _
    have e0 : smS x 0 R = 0 := by
      have := smS_hi (x := x) (X := 0) (k := 0) (by decide) R
      rw [Nat.zero_add] at this
      exact this
    rw [cR, show 2 ^ 0 = 0 + 1 from rfl, cnt_s, e0, show Nat.beq (wo 0 A) 0 = true by rw [wo, Nat.zero_and]; rfl, Bool.true_and]
    rfl
  | succ k ih =>
    intro Q hk
    rw [pow_d, cnt_add, ih Q (by omega), cR]
    congr 1
    cases hA : tb A k
    · rw [if_neg (by decide)]
      refine cnt_0 _ fun i hi => ?_
      have : ¬ wo (2 ^ k + i) A = 0 := fun z => by
        have := ((wo_top hi).mp z).1
        unfold tb at hA
        rw [this] at hA; cases hA
      rw [nbF this, Bool.false_and]
    · rw [if_pos rfl, ← ih (fun t => Q (t + x k)) (by omega)]
      refine cnt_cg _ fun i hi => ?_
      rw [smS_top hi (by omega)]
      congr 1
      by_cases h0 : wo i A = 0
      · rw [h0, (wo_top hi).mpr ⟨hA, h0⟩]
      · rw [nbF h0, nbF fun z => h0 ((wo_top hi).mp z).2]
theorem wo_add {k Y r : Nat} (hY : Y < 2 ^ k) (hr : r < k) : wo (2 ^ k + Y) (2 ^ r) = 2 ^ k + wo Y (2 ^ r) := by
  have hl : wo Y (2 ^ r) < 2 ^ k := wo_lt hY
  refine ext_bit fun i => ?_
  rw [wo_bit, top_bit hY, top_bit hl, wo_bit]
  by_cases h1 : i = k
  · rw [if_pos h1, if_pos h1, pw_bit, decide_eq_false (by omega)]; rfl
  · rw [if_neg h1, if_neg h1]
    split <;> rfl
/-- the sets with r of them, by the sum without r -/
theorem U_cR {x : Nat → Int} {A R r : Nat} (hr : A.testBit r = true) (d : Nat) : ∀ (Q : Int → Bool), r + 1 + d ≤ R → cnt (fun X => (Nat.beq (wo X A) 0 && X.testBit r) && Q (smS x (wo X (2 ^ r)) R)) (2 ^ (r + 1 + d)) = cR (fun i => A.testBit i && !(Nat.beq i r)) x (r + 1 + d) Q := by
  induction d with
  | zero =>
    intro Q hk
    rw [Nat.add_zero, pow_d, cnt_add, cnt_0 _ (fun i hi => by rw [bit_out hi (Nat.le_refl _), Bool.and_false, Bool.false_and]), Nat.zero_add, cR, show (A.testBit r && !(Nat.beq r r)) = false by rw [Nat.beq_refl, Bool.not_true, Bool.and_false], if_neg (by decide), Nat.add_zero, cR_A (B := tb A) r (fun i hi => by rw [nbF (by omega), Bool.not_false, Bool.and_true]; rfl), ← T_cR (R := R) r Q (by omega)]
    refine cnt_cg _ fun i hi => ?_
    have e1 : wo (2 ^ r + i) (2 ^ r) = i := by
      refine ext_bit fun j => ?_
      rw [wo_bit, top_bit hi, pw_bit]
      by_cases h1 : j = r
      · rw [if_pos h1, decide_eq_true h1, h1, bit_out hi (Nat.le_refl _)]; rfl
      · rw [if_neg h1, decide_eq_false h1]
        by_cases h2 : j < r
        · rw [if_pos h2, Bool.not_false, Bool.and_true]
        · rw [if_neg h2, bit_out hi (by omega)]; rfl
    rw [e1, top_bit hi, if_pos rfl, Bool.and_true]
    congr 1
    by_cases h0 : wo i A = 0
    · rw [h0, (wo_top hi).mpr ⟨hr, h0⟩]
    · rw [nbF h0, nbF fun z => h0 ((wo_top hi).mp z).2]
  | succ d ih =>
    intro Q hk
    rw [← Nat.add_assoc, pow_d, cnt_add, ih Q (by omega), cR]
    congr 1
    have hne : r + 1 + d ≠ r := by omega
    rw [nbF hne, Bool.not_false, Bool.and_true]
    cases hA : A.testBit (r + 1 + d)
    · rw [if_neg (by decide)]
      refine cnt_0 _ fun i hi => ?_
      have : ¬ wo (2 ^ (r + 1 + d) + i) A = 0 := fun z => by
        have := ((wo_top hi).mp z).1
        rw [this] at hA; cases hA
      rw [nbF this, Bool.false_and, Bool.false_and]
    · rw [if_pos rfl, ← ih (fun t => Q (t + x (r + 1 + d))) (by omega)]
      refine cnt_cg _ fun i hi => ?_
      rw [wo_add hi (by omega), smS_top (wo_lt hi) (by omega), top_bit hi, if_neg (Ne.symm hne), if_pos (by omega)]
      congr 2
      by_cases h0 : wo i A = 0
      · rw [h0, (wo_top hi).mpr ⟨hA, h0⟩]
      · rw [nbF h0, nbF fun z => h0 ((wo_top hi).mp z).2]
