/-! ===== text: the tape as a row of words, numbers, signs ===== -/
def isL (c : Nat) : Bool := decide (97 ≤ c ∧ c ≤ 122 ∨ 65 ≤ c ∧ c ≤ 90)
def isG (c : Nat) : Bool := decide (48 ≤ c ∧ c ≤ 57)
def isK (c : Nat) : Bool := decide (c = 32 ∨ c = 10)
def isS (c : Nat) : Bool := mem [59, 43, 45, 42, 47, 40, 41, 60, 61, 62] c
def rn (P : Nat → Bool) (T : Nat → Nat) (n : Nat) : Nat → Nat → Nat
  | 0, p => p
  | d + 1, p => if p < n ∧ P (T p) = true then rn P T n d (p + 1) else p
/-- from p on while it is so, up to n -/
def rF (P : Nat → Bool) (T : Nat → Nat) (n p : Nat) : Nat := rn P T n (n - p) p
section Lex
variable {P : Nat → Bool} {T : Nat → Nat} {n p : Nat}
theorem rF_s (h : p < n) (h2 : P (T p) = true) : rF P T n p = rF P T n (p + 1) := by
  unfold rF
  rw [show n - p = (n - (p + 1)) + 1 by omega, rn, if_pos ⟨h, h2⟩]
theorem rF_e (h : ¬ (p < n ∧ P (T p) = true)) : rF P T n p = p := by
  unfold rF
  cases n - p with
  | zero => rfl
  | succ d => rw [rn, if_neg h]
theorem rF_b (d : Nat) : ∀ p, n - p = d → p ≤ n → p ≤ rF P T n p ∧ rF P T n p ≤ n ∧ (∀ q, p ≤ q → q < rF P T n p → P (T q) = true) ∧ ¬ (rF P T n p < n ∧ P (T (rF P T n p)) = true) := by
  induction d with
  | zero =>
    intro p hd hp
    rw [rF_e (by omega)]
    exact ⟨Nat.le_refl _, hp, fun q h1 h2 => by omega, by omega⟩
  | succ d ih =>
    intro p hd hp
    by_cases h : p < n ∧ P (T p) = true
    · rw [rF_s h.1 h.2]
      obtain ⟨h1, h2, h3, h4⟩ := ih (p + 1) (by omega) (by omega)
      refine ⟨by omega, h2, fun q q1 q2 => ?_, h4⟩
      by_cases e : q = p
      · rw [e]; exact h.2
      · exact h3 q (by omega) q2
    · rw [rF_e h]
      exact ⟨Nat.le_refl _, hp, fun q h1 h2 => by omega, h⟩
theorem rF_ge (h : p ≤ n) : p ≤ rF P T n p := (rF_b _ p rfl h).1
theorem rF_le (h : p ≤ n) : rF P T n p ≤ n := (rF_b _ p rfl h).2.1
theorem rF_in (h : p ≤ n) {q : Nat} (h1 : p ≤ q) (h2 : q < rF P T n p) : P (T q) = true := (rF_b _ p rfl h).2.2.1 q h1 h2
theorem rF_st (h : p ≤ n) : ¬ (rF P T n p < n ∧ P (T (rF P T n p)) = true) := (rF_b _ p rfl h).2.2.2
end Lex
/-- past blanks; past a word, a number or a sign -/
def sk (T : Nat → Nat) (n p : Nat) : Nat := rF isK T n p
def ru (T : Nat → Nat) (n p : Nat) : Nat := if isL (T p) = true then rF isL T n (p + 1) else if isG (T p) = true then rF isG T n (p + 1) else p + 1
/-- what stands from a to b -/
def sl (T : Nat → Nat) (a b : Nat) : List Nat := (List.range (b - a)).map (fun i => T (a + i))
def wds : List (List Nat) := [[112, 117, 108, 108], [104, 97, 114, 100], [108, 111, 115, 116], [119, 104, 101, 110], [111, 114], [97, 110, 100], [110, 111, 116], [102, 101, 101, 108], [97, 114, 109], [104, 117, 110, 103, 101, 114], [116, 105, 114, 101, 100], [98, 101, 108, 108], [104, 101, 97, 118, 121], [115, 119, 97, 121], [102, 111, 108, 107], [100, 114, 97, 117, 103, 104, 116], [104, 111, 117, 114], [102, 101, 108, 116], [114, 105, 110, 103, 101, 114], [102, 101, 101, 108, 115], [97, 116], [119, 101, 100, 100, 105, 110, 103], [102, 105, 114, 101], [109, 97, 114, 107, 101, 116], [100, 101, 97, 116, 104], [99, 104, 114, 105, 115, 116, 101, 110, 105, 110, 103], [115, 119, 97, 112]]
/-- the words one after another, each with a blank behind it -/
def fw : List (List Nat) → List Nat
  | [] => []
  | w :: ws => w ++ 32 :: fw ws
theorem wl_fw : wl = 32 :: fw wds := by decide +kernel
theorem wds_ok : wds.all (fun w => w.all (fun c => !(Nat.beq c 32))) = true := by decide +kernel
/-- which word it is -/
def wf (x : List Nat) : List (List Nat) → Nat → Option Nat
  | [], _ => none
  | w :: ws, j => if w = x then some j else wf x ws (j + 1)
theorem wf_lt (x : List Nat) : ∀ (ws : List (List Nat)) (j k : Nat), wf x ws j = some k → j ≤ k ∧ k < j + ws.length
  | [], j, k, h => by cases h
  | w :: ws, j, k, h => by
    rw [wf] at h
    by_cases e : w = x
    · rw [if_pos e] at h
      cases h
      simp only [List.length_cons]
      omega
    · rw [if_neg e] at h
      have := wf_lt x ws (j + 1) k h
      simp only [List.length_cons]
      omega
/-- k digits from a on -/
def nmF (T : Nat → Nat) (a : Nat) : Nat → Nat
  | 0 => 0
  | k + 1 => 10 * nmF T a k + (T (a + k) - 48)
/-- what stands at p: 1 nothing, 2 a number, a sign itself, 256 and on words -/
def tkd (T : Nat → Nat) (n p : Nat) : Nat := if isL (T p) = true then (match wf (sl T p (ru T n p)) wds 0 with
  | some j => 256 + j
  | none => 1) else if isG (T p) = true then (if ru T n p - p ≤ 4 then 2 else 1) else if isS (T p) = true then T p else 1
def Pq (T : Nat → Nat) (n : Nat) : Nat → Nat
  | 0 => sk T n 0
  | i + 1 => if Pq T n i < n then sk T n (ru T n (Pq T n i)) else n
def Kq (T : Nat → Nat) (n i : Nat) : Nat := if Pq T n i < n then tkd T n (Pq T n i) else 0
def Vq (T : Nat → Nat) (n i : Nat) : Nat := nmF T (Pq T n i) (ru T n (Pq T n i) - Pq T n i)
section Lex2
variable {T : Nat → Nat} {n p : Nat}
theorem sk_s (h : p < n) (h2 : isK (T p) = true) : sk T n p = sk T n (p + 1) := rF_s h h2
theorem sk_e (h : ¬ (p < n ∧ isK (T p) = true)) : sk T n p = p := rF_e h
theorem sk_n : sk T n n = n := rF_e (by omega)
theorem sk_ge (h : p ≤ n) : p ≤ sk T n p := rF_ge h
theorem sk_le (h : p ≤ n) : sk T n p ≤ n := rF_le h
theorem ru_gt (h : p < n) : p < ru T n p := by
  unfold ru
  split
  · exact rF_ge (by omega)
  · split
    · exact rF_ge (by omega)
    · omega
theorem ru_le (h : p < n) : ru T n p ≤ n := by
  unfold ru
  split
  · exact rF_le (by omega)
  · split
    · exact rF_le (by omega)
    · omega
theorem sk_nb (h : p ≤ n) (h2 : sk T n p < n) : isK (T (sk T n p)) = false := by
  have := rF_st (P := isK) (T := T) h
  cases e : isK (T (sk T n p)) with
  | false => rfl
  | true => exact absurd ⟨h2, e⟩ this
theorem Pq_le : ∀ i, Pq T n i ≤ n
  | 0 => sk_le (Nat.zero_le _)
  | i + 1 => by
    rw [Pq]
    split
    · exact sk_le (ru_le (by assumption))
    · exact Nat.le_refl _
theorem Pq_nb (i : Nat) (h : Pq T n i < n) : isK (T (Pq T n i)) = false := by
  cases i with
  | zero => exact sk_nb (Nat.zero_le _) h
  | succ i =>
    rw [Pq] at h ⊢
    by_cases q : Pq T n i < n
    · rw [if_pos q] at h ⊢
      exact sk_nb (ru_le q) h
    · rw [if_neg q] at h
      omega
theorem Pq_lt {i : Nat} (h : Pq T n i < n) : Pq T n i < Pq T n (i + 1) := by
  rw [Pq, if_pos h]
  exact Nat.lt_of_lt_of_le (ru_gt h) (sk_ge (ru_le h))
theorem sl_len (a b : Nat) : (sl T a b).length = b - a := by simp [sl]
theorem sl_get {a b i : Nat} (h : i < (sl T a b).length) : (sl T a b)[i] = T (a + i) := by simp [sl]
theorem nmF_lt (a : Nat) : ∀ k, (∀ i, i < k → T (a + i) ≤ 57) → nmF T a k < 10 ^ k
  | 0, _ => Nat.zero_lt_one
  | k + 1, h => by
    have h1 := nmF_lt a k fun i hi => h i (by omega)
    have h2 := h k (by omega)
    rw [nmF, Nat.pow_succ]
    omega
theorem tkd_1 (hp : p < n) : 1 ≤ tkd T n p := by
  unfold tkd
  split
  · split <;> omega
  · split
    · split <;> omega
    · split
      · rename_i h
        have := mem_iff.mp h
        simp only [List.mem_cons, List.not_mem_nil, or_false] at this
        omega
      · omega
theorem Kq_0 {i : Nat} : Kq T n i = 0 ↔ ¬ Pq T n i < n := by
  unfold Kq
  by_cases h : Pq T n i < n
  · rw [if_pos h]
    have := tkd_1 (T := T) h
    constructor
    · omega
    · intro q; exact absurd h q
  · rw [if_neg h]
    simp [h]
theorem tkd_b (h255 : ∀ i, T i ≤ 255) : tkd T n p < 283 := by
  unfold tkd
  split
  · split
    · rename_i j hj
      have := wf_lt _ _ _ _ hj
      have h27 : wds.length = 27 := by decide
      omega
    · omega
  · split
    · split <;> omega
    · split
      · have := h255 p; omega
      · omega
theorem Kq_b (h255 : ∀ i, T i ≤ 255) (i : Nat) : Kq T n i < 283 := by
  unfold Kq
  split
  · exact tkd_b h255
  · omega
/-- a number is below ten thousand -/
theorem Vq_lt {i : Nat} (h : Kq T n i = 2) : Vq T n i < 10000 := by
  unfold Kq at h
  by_cases q : Pq T n i < n
  · rw [if_pos q] at h
    unfold tkd at h
    by_cases h1 : isL (T (Pq T n i)) = true
    · rw [if_pos h1] at h
      split at h <;> omega
    · rw [if_neg h1] at h
      by_cases h2 : isG (T (Pq T n i)) = true
      · rw [if_pos h2] at h
        by_cases h3 : ru T n (Pq T n i) - Pq T n i ≤ 4
        · have h4 : Vq T n i < 10 ^ (ru T n (Pq T n i) - Pq T n i) := by
            refine nmF_lt _ _ fun j hj => ?_
            have hr : ru T n (Pq T n i) = rF isG T n (Pq T n i + 1) := by unfold ru; rw [if_neg h1, if_pos h2]
            have hg : isG (T (Pq T n i + j)) = true := by
              by_cases hj0 : j = 0
              · rw [hj0]; exact h2
              · exact rF_in (P := isG) (n := n) (p := Pq T n i + 1) (q := Pq T n i + j) (by omega) (by omega) (by omega)
            have := of_decide_eq_true hg
            omega
          exact Nat.lt_of_lt_of_le h4 (Nat.pow_le_pow_right (by decide) h3)
        · rw [if_neg h3] at h; omega
      · rw [if_neg h2] at h
        by_cases h3 : isS (T (Pq T n i)) = true
        · rw [if_pos h3] at h
          have := mem_iff.mp h3
          rw [h] at this
          simp at this
        · rw [if_neg h3] at h; omega
  · rw [if_neg q] at h; omega
end Lex2
