/-! ===== tools for the pure part ===== -/
theorem ofN (n : Nat) : Int32.ofNat n = nI n := rfl
theorem bdS (v : Int32) (D : ev_D) (k : Int32 → ev_D → ev_Op) : ev_bd (some (v, D)) k = k v D := rfl
theorem bdE {x : ev_Op} {v : Int32} {D : ev_D} (h : x = some (v, D)) (k : Int32 → ev_D → ev_Op) : ev_bd x k = k v D := by rw [h]; rfl
theorem gdT {b : Bool} {x : ev_Op} (h : b = true) : ev_gd b x = x := by rw [h]; rfl
theorem ev_inN {j N : Nat} (h : j < 2 ^ 31) : ev_in (nI j) N = decide (j < N) := by
  simp only [ev_in, nI_clamp h, decide_eq_false (nI_pos h)]
  rfl
theorem gdI {j N : Nat} {x : ev_Op} (h : j < N) (hN : j < 2 ^ 31) : ev_gd (ev_in (nI j) N) x = x := gdT (by rw [ev_inN hN]; exact decide_eq_true h)
theorem gdZ {d : Nat} {x : ev_Op} (h : 0 < d) (hN : d < 2 ^ 31) : ev_gd (!(decide (nI d = nI 0))) x = x := gdT (by rw [nI_0, decide_eq_false (nI_ne0 h hN)]; rfl)
theorem upA (D : ev_D) (k i : Nat) (v : Int32) (q j : Nat) : ev_up D k i v q j = if q = k ∧ j = i then v else D q j := by
  unfold ev_up upd
  by_cases h : q = k
  · subst h
    by_cases h2 : j = i <;> simp [h2]
  · simp [h]
theorem upS (D : ev_D) (k i : Nat) (v : Int32) : ev_up D k i v k i = v := by simp [upA]
theorem upN (D : ev_D) (k i : Nat) (v : Int32) {q : Nat} (h : q ≠ k) : ev_up D k i v q = D q := by simp [ev_up, h]
theorem upJ (D : ev_D) (k i : Nat) (v : Int32) {q j : Nat} (h : j ≠ i) : ev_up D k i v q j = D q j := by rw [upA, if_neg fun z => h z.2]
/-- a loop counted up: from i, k times -/
def up {α : Type} (f : Nat → α → α) : Nat → Nat → α → α
  | _, 0, a => a
  | i, k + 1, a => up f (i + 1) k (f i a)
theorem up_0 {α : Type} (f : Nat → α → α) (i : Nat) (a : α) : up f i 0 a = a := rfl
theorem up_s {α : Type} (f : Nat → α → α) (i k : Nat) (a : α) : up f i (k + 1) a = up f (i + 1) k (f i a) := rfl
theorem up_l {α : Type} (f : Nat → α → α) (i k : Nat) (a : α) : up f i (k + 1) a = f (i + k) (up f i k a) := by
  induction k generalizing i a with
  | zero => rfl
  | succ k ih =>
    rw [up_s, ih, up_s, show i + 1 + k = i + (k + 1) by omega]
theorem up_cg {α : Type} {f g : Nat → α → α} {i k : Nat} (h : ∀ j, i ≤ j → j < i + k → ∀ a, f j a = g j a) (a : α) : up f i k a = up g i k a := by
  induction k generalizing i a with
  | zero => rfl
  | succ k ih =>
    rw [up_s, up_s, h i (Nat.le_refl _) (by omega), ih fun j h1 h2 => h j (by omega) (by omega)]
theorem up_inv {α : Type} {f : Nat → α → α} (P : Nat → α → Prop) {i k : Nat} {a : α} (h0 : P i a) (h : ∀ j, i ≤ j → j < i + k → ∀ a, P j a → P (j + 1) (f j a)) : P (i + k) (up f i k a) := by
  induction k with
  | zero => exact h0
  | succ k ih => rw [up_l]; exact h (i + k) (by omega) (by omega) _ (ih fun j h1 h2 => h j h1 (by omega))
theorem up_add {α : Type} (f : Nat → α → α) (i k l : Nat) (a : α) : up f i (k + l) a = up f (i + k) l (up f i k a) := by
  induction k generalizing i a with
  | zero => simp [up_0]
  | succ k ih => rw [show k + 1 + l = (k + l) + 1 by omega, up_s, up_s, ih, show i + 1 + k = i + (k + 1) by omega]
/-! ===== ints that are small numbers ===== -/
def nv (x : Int32) : Nat := x.toNatClampNeg
theorem nv_n {n : Nat} (h : n < 2 ^ 31) : nv (nI n) = n := nI_clamp h
/-- an int from 0 to n -/
def bI (n : Nat) (x : Int32) : Prop := ∃ j, j ≤ n ∧ x = nI j
theorem bI_n {n j : Nat} (h : j ≤ n) : bI n (nI j) := ⟨j, h, rfl⟩
theorem bI_nv {n : Nat} {x : Int32} (hn : n < 2 ^ 31) (h : bI n x) : x = nI (nv x) ∧ nv x ≤ n := by
  obtain ⟨j, hj, rfl⟩ := h
  rw [nv_n (by omega)]
  exact ⟨rfl, hj⟩
theorem bI_up {n m : Nat} {x : Int32} (hn : n ≤ m) (h : bI n x) : bI m x := by
  obtain ⟨j, hj, rfl⟩ := h
  exact ⟨j, by omega, rfl⟩
/-- within bounds or not: every int -/
theorem in_or (x : Int32) {a b : Nat} (hab : a ≤ b + 1) (hb : b < 2 ^ 31 - 1) : (x < nI a ∨ nI b < x) ∨ ∃ j, a ≤ j ∧ j ≤ b ∧ x = nI j := by
  by_cases h : x < nI a
  · exact .inl (.inl h)
  by_cases h2 : nI b < x
  · exact .inl (.inr h2)
  have h0 : ¬ x < 0 := fun h0 => h (Int32.lt_of_lt_of_le h0 (nI_pos' (by omega)))
  obtain ⟨j, hj, rfl⟩ := nI_of h0
  rw [nI_ltI hj (by omega)] at h
  rw [nI_ltI (by omega) hj] at h2
  exact .inr ⟨j, by omega, by omega, rfl⟩
theorem m1_n {n : Nat} (h : n < 2 ^ 31) : ¬ nI n = -1 := fun e => by
  have h1 : (nI n).toInt = (-1 : Int32).toInt := by rw [e]
  rw [nI_toInt h, show (-1 : Int32).toInt = -1 from rfl] at h1
  omega
theorem m1_lt {n : Nat} (h : n < 2 ^ 31) : (-1 : Int32) < nI n := by
  rw [Int32.lt_iff_toInt_lt, nI_toInt h, show (-1 : Int32).toInt = -1 from rfl]
  omega
theorem m1_le {n : Nat} (h : n < 2 ^ 31) : (-1 : Int32) ≤ nI n := Int32.le_of_lt (m1_lt h)
theorem m1_nlt {n : Nat} (h : n < 2 ^ 31) : ¬ nI n < (-1 : Int32) := fun e => by
  have := m1_lt h
  rw [Int32.lt_iff_toInt_lt] at *
  omega
theorem m1_add (n : Nat) : nI (n + 1) + (-1) = nI n := pk_m1 n
/-! ===== bits ===== -/
theorem nI_bv (n : Nat) : (nI n).toBitVec = BitVec.ofNat 32 n := rfl
theorem nI_ext {x y : Int32} (h : x.toBitVec = y.toBitVec) : x = y := Int32.toBitVec_inj.mp h
theorem nI_or (a b : Nat) : nI a ||| nI b = nI (a ||| b) := nI_ext (by
  rw [Int32.toBitVec_or, nI_bv, nI_bv, nI_bv, BitVec.ofNat_or])
theorem nI_and (a b : Nat) : nI a &&& nI b = nI (a &&& b) := nI_ext (by
  rw [Int32.toBitVec_and, nI_bv, nI_bv, nI_bv, BitVec.ofNat_and])
theorem nI_xor (a b : Nat) : nI a ^^^ nI b = nI (a ^^^ b) := nI_ext (by
  rw [Int32.toBitVec_xor, nI_bv, nI_bv, nI_bv, BitVec.ofNat_xor])
/-- a set without another -/
def wo (a b : Nat) : Nat := a ^^^ (a &&& b)
theorem wo_bit (a b k : Nat) : (wo a b).testBit k = (a.testBit k && !(b.testBit k)) := by
  rw [wo, Nat.testBit_xor, Nat.testBit_and]
  cases a.testBit k <;> cases b.testBit k <;> rfl
theorem nI_wo (a b : Nat) : nI a &&& ~~~(nI b) = nI (wo a b) := nI_ext (by
  rw [Int32.toBitVec_and, Int32.toBitVec_not, nI_bv, nI_bv, nI_bv, wo, BitVec.ofNat_xor, BitVec.ofNat_and]
  apply BitVec.eq_of_getLsbD_eq
  intro i hi
  simp only [BitVec.getLsbD_and, BitVec.getLsbD_not, BitVec.getLsbD_xor, hi, decide_true, Bool.true_and]
  cases (BitVec.ofNat 32 a).getLsbD i <;> cases (BitVec.ofNat 32 b).getLsbD i <;> rfl)
theorem sh31 : ∀ k, k < 32 → ((nI k &&& nI 31).toBitVec.smod 32).toNat = k := by decide +kernel
theorem nI_shl {k : Nat} (h : k < 32) : nI 1 <<< (nI k &&& nI 31) = nI (2 ^ k) := by
  rw [pk_shlN _ k (sh31 k h) (by rw [Nat.one_mul]; exact Nat.pow_lt_pow_right (by decide) h), Nat.one_mul]
theorem nI_shr {n k : Nat} (hn : n < 2 ^ 31) (h : k < 32) : nI n >>> (nI k &&& nI 31) = nI (n / 2 ^ k) := pk_shrN hn _ k (sh31 k h)
theorem bit_v (n k : Nat) : n / 2 ^ k % 2 = if n.testBit k then 1 else 0 := by
  rw [Nat.testBit_eq_decide_div_mod_eq]
  have := Nat.mod_lt (n / 2 ^ k) (show 0 < 2 by decide)
  by_cases h : n / 2 ^ k % 2 = 1
  · simp [h]
  · simp [h]; omega
theorem and1 (n : Nat) : n &&& 1 = n % 2 := Nat.and_one_is_mod n
theorem nI_isIn {n k : Nat} (hn : n < 2 ^ 31) (h : k < 32) : ((nI n >>> (nI k &&& nI 31)) &&& nI 1 = nI 1) ↔ n.testBit k = true := by
  rw [nI_shr hn h, nI_and, and1, bit_v, nI_eq (by split <;> decide) (by decide)]
  split <;> simp [*]
theorem nI_isIn0 {n k : Nat} (hn : n < 2 ^ 31) (h : k < 32) : (nI n >>> (nI k &&& nI 31)) &&& nI 1 = nI (if n.testBit k then 1 else 0) := by
  rw [nI_shr hn h, nI_and, and1, bit_v]
theorem or_lt {a b m : Nat} (ha : a < 2 ^ m) (hb : b < 2 ^ m) : a ||| b < 2 ^ m := Nat.or_lt_two_pow ha hb
theorem and_lt {a b m : Nat} (ha : a < 2 ^ m) : a &&& b < 2 ^ m := Nat.lt_of_le_of_lt Nat.and_le_left ha
theorem wo_lt {a b m : Nat} (ha : a < 2 ^ m) : wo a b < 2 ^ m := Nat.xor_lt_two_pow ha (and_lt ha)
/-- how many bits are set -/
def pc : Nat → Nat → Nat
  | 0, _ => 0
  | f + 1, n => n % 2 + pc f (n / 2)
def ones (n : Nat) : Nat := pc 16 n
