/-! ===== comparisons that are decided ===== -/
theorem ltT {a b : Nat} (h : a < b) (hb : b < 2 ^ 31) : (nI a < nI b) = True := eq_true (nI_lt h hb)
theorem ltF {a b : Nat} (h : b ≤ a) (ha : a < 2 ^ 31) : (nI a < nI b) = False := eq_false (nI_nlt h ha)
theorem leT {a b : Nat} (h : a ≤ b) (hb : b < 2 ^ 31) : (nI a ≤ nI b) = True := eq_true (nI_le h hb)
theorem leF {a b : Nat} (h : b < a) (ha : a < 2 ^ 31) : (nI a ≤ nI b) = False := eq_false (nI_ge h ha)
theorem eqF {a b : Nat} (h : a ≠ b) (ha : a < 2 ^ 31) (hb : b < 2 ^ 31) : (nI a = nI b) = False := eq_false fun e => h ((nI_eq ha hb).mp e)
theorem eqT {a b : Nat} (h : a = b) : (nI a = nI b) = True := eq_true (congrArg nI h)
def mi1 : Int32 := -1
theorem mm1 : (-1 : Int32) = mi1 := rfl
def mi9 : Int32 := -9
theorem mm9 : (-9 : Int32) = mi9 := rfl
def mi100 : Int32 := -100
theorem mm100 : (-100 : Int32) = mi100 := rfl
def mi8 : Int32 := -8
theorem mm8 : (-8 : Int32) = mi8 := rfl
theorem m1F {n : Nat} (h : n < 2 ^ 31) : (nI n = mi1) = False := eq_false (m1_n h)
theorem m1F2 {n : Nat} (h : n < 2 ^ 31) : (mi1 = nI n) = False := eq_false fun e => m1_n h e.symm
theorem m1L {n : Nat} (h : n < 2 ^ 31) : (mi1 < nI n) = True := eq_true (m1_lt h)
theorem m1L2 {n : Nat} (h : n < 2 ^ 31) : (mi1 ≤ nI n) = True := eq_true (m1_le h)
theorem m1G {n : Nat} (h : n < 2 ^ 31) : (nI n < mi1) = False := eq_false (m1_nlt h)
theorem neF {a b : Nat} (h : a ≠ b) : (a = b) = False := eq_false h
theorem eqTn {a b : Nat} (h : a = b) : (a = b) = True := eq_true h
theorem addK (a b : Nat) : nI a + nI b = nI (a + b) := nI_add a b
/-! ===== what is kept: all but some cells, and some fields of the reference ===== -/
def mem (l : List Nat) (x : Nat) : Bool := l.any (Nat.beq x)
def ex (sc sf : List Nat) (D' D : ev_D) : Prop := ∀ k i, mem sc k = false → (k = 132 → mem sf i = false) → D' k i = D k i
theorem ex_rf (sc sf : List Nat) (D : ev_D) : ex sc sf D D := fun _ _ _ _ => rfl
theorem ex_tr {sc sf : List Nat} {D1 D2 D3 : ev_D} (h1 : ex sc sf D2 D1) (h2 : ex sc sf D3 D2) : ex sc sf D3 D1 := fun k i a b => (h2 k i a b).trans (h1 k i a b)
theorem mem_iff {l : List Nat} {x : Nat} : mem l x = true ↔ x ∈ l := by
  simp only [mem, List.any_eq_true]
  constructor
  · rintro ⟨y, hy, e⟩
    rw [Nat.eq_of_beq_eq_true e]; exact hy
  · intro h; exact ⟨x, h, Nat.beq_refl x⟩
theorem ex_up {sc sf : List Nat} {D1 D : ev_D} {k i : Nat} {v : Int32} (h : ex sc sf D1 D) (hk : (mem sc k || (Nat.beq k 132 && mem sf i)) = true) : ex sc sf (ev_up D1 k i v) D := by
  intro q j a b
  rw [upA, if_neg, h q j a b]
  rintro ⟨rfl, rfl⟩
  rw [a, Bool.false_or, Bool.and_eq_true] at hk
  have h1 := Nat.eq_of_beq_eq_true hk.1
  rw [b h1] at hk
  exact absurd hk.2 (by decide)
theorem ex_mo {sc sf sc' sf' : List Nat} {D' D : ev_D} (h : ex sc sf D' D) (h1 : sc.all (mem sc') = true) (h2 : sf.all (mem sf') = true) : ex sc' sf' D' D := by
  intro k i a b
  refine h k i ?_ fun e => ?_
  · cases h3 : mem sc k with
    | false => rfl
    | true => rw [List.all_eq_true.mp h1 k (mem_iff.mp h3)] at a; cases a
  · cases h3 : mem sf i with
    | false => rfl
    | true => have := b e; rw [List.all_eq_true.mp h2 i (mem_iff.mp h3)] at this; cases this
theorem ex_at {sc sf : List Nat} {D' D : ev_D} (h : ex sc sf D' D) {k : Nat} (hk : (mem sc k || Nat.beq k 132) = false) (i : Nat) : D' k i = D k i := by
  rw [Bool.or_eq_false_iff] at hk
  exact h k i hk.1 (fun e => by rw [e] at hk; exact absurd hk.2 (by decide))
theorem ex_f {sc sf : List Nat} {D' D : ev_D} (h : ex sc sf D' D) {i : Nat} (hk : (mem sc 132 || mem sf i) = false) : D' 132 i = D 132 i := by
  rw [Bool.or_eq_false_iff] at hk
  exact h 132 i hk.1 (fun _ => hk.2)
theorem ex_atf {sc sf : List Nat} {D' D : ev_D} (h : ex sc sf D' D) {k : Nat} (hk : (mem sc k || Nat.beq k 132) = false) : D' k = D k := funext fun i => ex_at h hk i
/-- the same at some cells, up to so many of each; and at some fields -/
def ag (rg : Nat → Nat) (gc gf : List Nat) (D' D : ev_D) : Prop := (∀ k, mem gc k = true → ∀ i, i < rg k → D' k i = D k i) ∧ ∀ f, mem gf f = true → D' 132 f = D 132 f
theorem ag_ex {rg : Nat → Nat} {gc gf sc sf : List Nat} {D' D : ev_D} (h : ex sc sf D' D) (h1 : gc.all (fun k => !(mem sc k) && !(Nat.beq k 132)) = true) (h2 : (mem sc 132 || gf.any (mem sf)) = false) : ag rg gc gf D' D := by
  rw [Bool.or_eq_false_iff] at h2
  constructor
  · intro k hk i _
    have := List.all_eq_true.mp h1 k (mem_iff.mp hk)
    rw [Bool.and_eq_true] at this
    refine ex_at h ?_ i
    rw [Bool.or_eq_false_iff]
    exact ⟨by simpa using this.1, by simpa using this.2⟩
  · intro f hf
    refine ex_f h ?_
    rw [Bool.or_eq_false_iff]
    refine ⟨h2.1, ?_⟩
    cases h3 : mem sf f with
    | false => rfl
    | true => rw [List.any_eq_true.mpr ⟨f, mem_iff.mp hf, h3⟩] at h2; cases h2.2
theorem ag_c {rg : Nat → Nat} {gc gf : List Nat} {D' D : ev_D} (h : ag rg gc gf D' D) (k : Nat) (hk : mem gc k = true) {i : Nat} (hi : i < rg k) : D' k i = D k i := h.1 k hk i hi
theorem ag_f {rg : Nat → Nat} {gc gf : List Nat} {D' D : ev_D} (h : ag rg gc gf D' D) (k : Nat) (hk : mem gf k = true) : D' 132 k = D 132 k := h.2 k hk
/-! ===== ones ===== -/
theorem and_half (a b : Nat) : (a &&& b) / 2 = a / 2 &&& b / 2 := by
  apply Nat.eq_of_testBit_eq
  intro i
  simp only [Nat.testBit_div_two, Nat.testBit_and]
theorem and_mod2 (a b : Nat) : (a &&& b) % 2 = (a % 2) * (b % 2) := by
  have h : ∀ n : Nat, n % 2 = if n.testBit 0 then 1 else 0 := fun n => by
    have := bit_v n 0
    simpa using this
  rw [h, h a, h b, Nat.testBit_and]
  cases a.testBit 0 <;> cases b.testBit 0 <;> rfl
theorem pc_pred (f : Nat) : ∀ n, 0 < n → n < 2 ^ f → pc f (n &&& (n - 1)) + 1 = pc f n := by
  induction f with
  | zero => intro n h1 h2; omega
  | succ f ih =>
    intro n h1 h2
    have hp : 2 ^ (f + 1) = 2 * 2 ^ f := by rw [Nat.pow_succ]; omega
    rw [pc, pc, and_half, and_mod2]
    rcases Nat.mod_two_eq_zero_or_one n with h | h
    · have h3 : (n - 1) / 2 = n / 2 - 1 := by omega
      rw [h, h3, Nat.zero_mul]
      have := ih (n / 2) (by omega) (by omega)
      omega
    · have h3 : (n - 1) / 2 = n / 2 := by omega
      have h4 : (n - 1) % 2 = 0 := by omega
      rw [h, h3, h4, Nat.and_self]
      omega
theorem pc_le (f n : Nat) : pc f n ≤ f := by
  induction f generalizing n with
  | zero => exact Nat.le_refl _
  | succ f ih => rw [pc]; have := ih (n / 2); omega
theorem pc_0 (f : Nat) : pc f 0 = 0 := by
  induction f with
  | zero => rfl
  | succ f ih => rw [pc]; simp [ih]
theorem ones_0 : ones 0 = 0 := rfl
theorem ones_le (n : Nat) : ones n ≤ 16 := pc_le 16 n
theorem ones_pos {n : Nat} (h : 0 < n) (h2 : n < 65536) : 0 < ones n := by
  have := pc_pred 16 n h h2
  unfold ones
  omega
theorem e_onesOf4 (L : Nat → Nat) (E : Nat → Nat → Nat) (fu : Nat) (D : ev_D) (f : Nat) : ∀ n a : Nat, n < 65536 → ones n < f → fX12_onesOf_4 L E fu f (nI a) (nI n) D = some (nI (a + ones n), D) := by
  induction f with
  | zero => intro n a _ h; omega
  | succ f ih =>
    intro n a h h2
    rw [fX12_onesOf_4, i_0, i_1]
    by_cases h0 : n = 0
    · subst h0
      rw [if_pos rfl]; rfl
    · rw [if_neg fun e => h0 ((nI_eq (by omega) (by omega)).mp e), pk_sub (by omega), nI_and, nI_add]
      have h3 := pc_pred 16 n (by omega) h
      have h4 : n &&& (n - 1) ≤ n := Nat.and_le_left
      rw [ih _ _ (by omega) (by unfold ones at h2 ⊢; omega)]
      unfold ones
      rw [show a + 1 + pc 16 (n &&& (n - 1)) = a + pc 16 n by omega]
theorem e_onesOf (L : Nat → Nat) (E : Nat → Nat → Nat) {fu : Nat} (hf : 16 < fu) (q : Nat) {n : Nat} (h : n < 65536) (D : ev_D) : fX12_onesOf L E fu q (nI n) D = some (nI (ones n), D) := by
  have := e_onesOf4 L E fu D fu n 0 h (by have := ones_le n; omega)
  rw [Nat.zero_add] at this
  exact this
/-! ===== small methods ===== -/
section
variable (L : Nat → Nat) (E : Nat → Nat → Nat) (fu q : Nat) (D : ev_D)
theorem e_within {j a b : Nat} (h1 : a ≤ j) (h2 : j ≤ b) (hb : b < 2 ^ 31) : fX11_within L E fu (nI j) (nI a) (nI b) D = some (nI 1, D) := by
  rw [fX11_within, if_neg (nI_nlt h1 (by omega)), if_neg (nI_nlt h2 hb)]; rfl
theorem e_within0 {x : Int32} {a b : Nat} (h : x < nI a ∨ nI b < x) : fX11_within L E fu x (nI a) (nI b) D = some (nI 0, D) := by
  rw [fX11_within]
  rcases h with h | h
  · rw [if_pos h]; rfl
  · by_cases h2 : x < nI a
    · rw [if_pos h2]; rfl
    · rw [if_neg h2, if_pos h]; rfl
theorem e_isInM {j a b : Nat} (h1 : a ≤ j) (h2 : j ≤ b) (hb : b < 2 ^ 31) : fX12_isIn L E fu q (nI j) (nI a) (nI b) D = some (nI 1, D) := by
  rw [fX12_isIn, if_neg (nI_nlt h1 (by omega)), if_neg (nI_nlt h2 hb)]; rfl
theorem e_isInM0 {x : Int32} {a b : Nat} (h : x < nI a ∨ nI b < x) : fX12_isIn L E fu q x (nI a) (nI b) D = some (nI 0, D) := by
  rw [fX12_isIn]
  rcases h with h | h
  · rw [if_pos h]; rfl
  · by_cases h2 : x < nI a
    · rw [if_pos h2]; rfl
    · rw [if_neg h2, if_pos h]; rfl
theorem e_isBell {j : Nat} (h2 : j ≤ 7) : fX12_isBell L E fu q (nI j) D = some (nI 1, D) := by
  rw [fX12_isBell, i_8, i_0, i_1, if_neg (nI_nlt (by omega) (by omega)), if_neg (nI_ge (by omega) (by omega))]
theorem e_isBell0 {x : Int32} (h : x < nI 0 ∨ nI 7 < x) : fX12_isBell L E fu q x D = some (nI 0, D) := by
  rw [fX12_isBell, i_8, i_0, i_1]
  by_cases h2 : x < nI 0
  · rw [if_pos h2]
  · rw [if_neg h2, if_pos]
    obtain ⟨j, hj, rfl⟩ := nI_of h2
    rcases h with h | h
    · exact absurd h h2
    · rw [nI_ltI (by omega) hj] at h
      exact nI_le (by omega) hj
theorem e_min {a b : Nat} (ha : a < 2 ^ 31) (hb : b < 2 ^ 31) : fJ9_min L E fu (nI a) (nI b) D = some (nI (min a b), D) := by
  rw [fJ9_min]
  by_cases h : b < a
  · rw [if_pos (nI_lt h ha), Nat.min_eq_right (by omega)]
  · rw [if_neg (nI_nlt (by omega) hb), Nat.min_eq_left (by omega)]
theorem e_max {a b : Nat} (ha : a < 2 ^ 31) (hb : b < 2 ^ 31) : fJ9_max L E fu (nI a) (nI b) D = some (nI (max a b), D) := by
  rw [fJ9_max]
  by_cases h : a < b
  · rw [if_pos (nI_lt h hb), Nat.max_eq_right (by omega)]
  · rw [if_neg (nI_nlt (by omega) ha), Nat.max_eq_left (by omega)]
theorem e_lesser {a b : Nat} (ha : a < 2 ^ 31) (hb : b < 2 ^ 31) : fX12_lesser L E fu q (nI a) (nI b) D = some (nI (min a b), D) := by
  rw [fX12_lesser]
  by_cases h : b ≤ a
  · rw [if_pos (nI_le h ha), Nat.min_eq_right h]
  · rw [if_neg (nI_ge (by omega) hb), Nat.min_eq_left (by omega)]
theorem e_greater {a b : Nat} (ha : a < 2 ^ 31) (hb : b < 2 ^ 31) : fX12_greater L E fu q (nI a) (nI b) D = some (nI (max a b), D) := by
  rw [fX12_greater]
  by_cases h : a ≤ b
  · rw [if_pos (nI_le h hb), Nat.max_eq_right h]
  · rw [if_neg (nI_ge (by omega) ha), Nat.max_eq_left (by omega)]
theorem e_isIn {n k : Nat} (hn : n < 2 ^ 31) (h : k < 32) : fX11_isIn L E fu (nI n) (nI k) D = some (nI (if n.testBit k then 1 else 0), D) := by
  rw [fX11_isIn, i_1, i_31, i_0]
  by_cases hb : n.testBit k = true
  · rw [if_pos ((nI_isIn hn h).mpr hb), if_pos hb]
  · rw [if_neg fun z => hb ((nI_isIn hn h).mp z), if_neg hb]
theorem e_hasM {n k : Nat} (hn : n < 2 ^ 31) (h : k < 32) : fX12_has L E fu q (nI n) (nI k) D = some (nI (if n.testBit k then 1 else 0), D) := by
  rw [fX12_has, i_1, i_31, i_0]
  by_cases hb : n.testBit k = true
  · rw [if_pos ((nI_isIn hn h).mpr hb), if_pos hb]
  · rw [if_neg fun z => hb ((nI_isIn hn h).mp z), if_neg hb]
end
