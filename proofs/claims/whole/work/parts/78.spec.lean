/-! ===== text: what the tokens say; a fault with its place, or how far and what ===== -/
abbrev tR (α : Type) : Type := Sum (Nat × Nat) (Nat × α)
abbrev lP : Type := List lw_C × List lw_C
section Spec
variable (K V : Nat → Nat)
def un (i : Nat) : Option lw_C := if K i = 2 then some (0, V i) else if 263 ≤ K i ∧ K i ≤ 273 then some (1, K i - 263) else none
def prL : Nat → Nat → List lw_C → tR (List lw_C)
  | 0, i, _ => .inl (9, i)
  | d + 1, i, acc => if K i = 42 then (match un K V (i + 1) with
    | none => .inl (1, i + 1)
    | some u => prL d (i + 2) (acc ++ [u, (2, 3)])) else if K i = 47 then (if K (i + 1) = 2 then (if V (i + 1) = 0 then .inl (2, i + 1) else prL d (i + 2) (acc ++ [(0, V (i + 1)), (2, 4)])) else .inl (1, i + 1)) else .inr (i, acc)
def prd (i : Nat) : tR (List lw_C) := match un K V i with
  | none => .inl (1, i)
  | some u => prL K V 402 (i + 1) [u]
def smL : Nat → Nat → List lw_C → tR (List lw_C)
  | 0, i, _ => .inl (9, i)
  | e + 1, i, acc => if K i = 43 ∨ K i = 45 then (match prd K V (i + 1) with
    | .inl x => .inl x
    | .inr (j, l) => smL e j (acc ++ l ++ [(2, if K i = 43 then 1 else 2)])) else .inr (i, acc)
def sm (i : Nat) : tR (List lw_C) := match prd K V i with
  | .inl x => .inl x
  | .inr (j, l) => smL K V 402 j l
def cm (i : Nat) : tR (List lw_C) := match sm K V i with
  | .inl x => .inl x
  | .inr (j, l) => if 60 ≤ K j ∧ K j ≤ 62 then (match sm K V (j + 1) with
    | .inl x => .inl x
    | .inr (j2, l2) => .inr (j2, l ++ l2 ++ [(2, 5 + (K j - 60))])) else .inl (1, j)
def nt : Nat → Nat → Nat → tR Nat
  | 0, _, i => .inl (9, i)
  | d + 1, o, i => if K i = 262 then (if o = 8 then .inl (3, i) else nt d (o + 1) (i + 1)) else .inr (i, o)
def inn (rt : Nat → Nat → tR lP) (o i : Nat) : tR lP := if K i = 40 then (if o < 8 then (match rt (o + 1) (i + 1) with
    | .inl x => .inl x
    | .inr (j, p) => if K j = 41 then .inr (j + 1, p) else .inl (1, j)) else .inl (3, i)) else (match cm K V i with
    | .inl x => .inl x
    | .inr (j, l) => .inr (j, (l, l)))
def nP (k : Nat) (p : lP) : lP := (p.1 ++ (if k % 2 = 1 then [(2, 0)] else []), p.2 ++ List.replicate k (2, 0))
def tpr (rt : Nat → Nat → tR lP) (o i : Nat) : tR lP := match nt K 10 o i with
  | .inl x => .inl x
  | .inr (j, o2) => (match inn K V rt o2 j with
    | .inl x => .inl x
    | .inr (j3, p) => .inr (j3, nP (o2 - o) p))
def jn (a : Option lP) (k : Nat) (b : lP) : lP := match a with
  | none => b
  | some x => (x.1 ++ b.1 ++ [(2, k)], x.2 ++ b.2 ++ [(2, k)])
def trL (rt : Nat → Nat → tR lP) (o : Nat) : Nat → Nat → Option lP → Option lP → tR lP
  | 0, i, _, _ => .inl (9, i)
  | d + 1, i, A, B => match tpr K V rt o i with
    | .inl x => .inl x
    | .inr (j, p) => if K j = 261 then trL rt o d (j + 1) A (some (jn B 8 p)) else if K j = 260 then trL rt o d (j + 1) (some (jn A 9 (jn B 8 p))) none else .inr (j, jn A 9 (jn B 8 p))
def tr : Nat → Nat → Nat → tR lP
  | 0, _, i => .inl (9, i)
  | k + 1, o, i => trL K V (tr k) o 402 i none none
/-- a line of the law, but for its end -/
def lnL (i : Nat) : tR (Nat × List lw_C × Option lP) := match sm K V (i + 1) with
  | .inl x => .inl x
  | .inr (j, l) => if K j = 259 then (match tr K V 10 0 (j + 1) with
    | .inl x => .inl x
    | .inr (j2, p) => .inr (j2, (K i - 256, l, some p))) else .inr (j, (K i - 256, l, none))
/-- lines, each with its end -/
def lns {α : Type} (bg : Nat → Bool) (one : Nat → tR α) : Nat → Nat → List α → tR (List α)
  | 0, i, _ => .inl (9, i)
  | d + 1, i, ls => if K i = 0 then .inr (i, ls) else if bg (K i) = false then .inl (1, i) else if ls.length = 16 then .inl (3, i) else (match one i with
    | .inl x => .inl x
    | .inr (j, a) => if K j = 59 then lns bg one d (j + 1) (ls ++ [a]) else .inl (1, j))
/-- a rope, a day, a change -/
def lnR (R i : Nat) : tR (Nat × Nat) := if K (i + 1) = 2 then (if V (i + 1) < R then (if K (i + 2) = 275 then (if K (i + 3) = 2 then (if V (i + 3) < R ∧ V (i + 3) ≠ V (i + 1) then .inr (i + 4, (V (i + 1), V (i + 3))) else .inl (2, i + 3)) else .inl (1, i + 3)) else .inl (1, i + 2)) else .inl (2, i + 1)) else .inl (1, i + 1)
def lnD (i : Nat) : tR (Nat × Nat × Nat) := if K (i + 1) = 2 then (if V (i + 1) ≤ 23 then (if K (i + 2) = 271 ∨ (277 ≤ K (i + 2) ∧ K (i + 2) ≤ 281) then (if K (i + 3) = 2 then (if V (i + 3) ≤ (if K (i + 2) = 271 then 9 else 99) then .inr (i + 4, (V (i + 1), (if K (i + 2) = 271 then 5 else K (i + 2) - 277), V (i + 3))) else .inl (2, i + 3)) else .inl (1, i + 3)) else .inl (1, i + 2)) else .inl (2, i + 1)) else .inl (1, i + 1)
/-- places that may not be named beside a set -/
def brd (s : Nat) : Nat := s ||| 2 * s ||| s / 2
def chL : Nat → Nat → Nat → tR Nat
  | 0, i, _ => .inl (9, i)
  | d + 1, i, s => if K i = 2 then (if V i ≤ 6 ∧ (brd s).testBit (V i) = false then (if K (i + 1) = 2 then chL d (i + 1) (s ||| 2 ^ V i) else .inr (i + 1, s ||| 2 ^ V i)) else .inl (2, i)) else .inl (1, i)
def lnC (i : Nat) : tR Nat := chL K V 402 (i + 1) 0
end Spec
section SpecB
variable {K V : Nat → Nat}
/-! how many codes there are at most -/
theorem prL_b : ∀ (d i : Nat) (acc : List lw_C) (j : Nat) (l : List lw_C), prL K V d i acc = .inr (j, l) → i ≤ j ∧ l.length + i ≤ acc.length + j
  | 0, i, acc, j, l, h => by cases h
  | d + 1, i, acc, j, l, h => by
    rw [prL] at h
    by_cases h1 : K i = 42
    · rw [if_pos h1] at h
      cases e : un K V (i + 1) with
      | none => rw [e] at h; cases h
      | some u =>
        rw [e] at h
        have := prL_b d (i + 2) _ j l h
        simp only [List.length_append, List.length_cons, List.length_nil] at this
        omega
    · rw [if_neg h1] at h
      by_cases h2 : K i = 47
      · rw [if_pos h2] at h
        by_cases h3 : K (i + 1) = 2
        · rw [if_pos h3] at h
          by_cases h4 : V (i + 1) = 0
          · rw [if_pos h4] at h; cases h
          · rw [if_neg h4] at h
            have := prL_b d (i + 2) _ j l h
            simp only [List.length_append, List.length_cons, List.length_nil] at this
            omega
        · rw [if_neg h3] at h; cases h
      · rw [if_neg h2] at h
        cases h
        omega
theorem prd_b {i j : Nat} {l : List lw_C} (h : prd K V i = .inr (j, l)) : i < j ∧ l.length + i ≤ j := by
  unfold prd at h
  cases e : un K V i with
  | none => rw [e] at h; cases h
  | some u =>
    rw [e] at h
    have := prL_b 402 (i + 1) _ j l h
    simp only [List.length_cons, List.length_nil] at this
    omega
theorem smL_b : ∀ (e i : Nat) (acc : List lw_C) (j : Nat) (l : List lw_C), smL K V e i acc = .inr (j, l) → i ≤ j ∧ l.length + i ≤ acc.length + j
  | 0, i, acc, j, l, h => by cases h
  | e + 1, i, acc, j, l, h => by
    rw [smL] at h
    by_cases h1 : K i = 43 ∨ K i = 45
    · rw [if_pos h1] at h
      cases e2 : prd K V (i + 1) with
      | inl x => rw [e2] at h; cases h
      | inr x =>
        obtain ⟨j2, l2⟩ := x
        rw [e2] at h
        have h2 := prd_b e2
        have := smL_b e j2 _ j l h
        simp only [List.length_append, List.length_cons, List.length_nil] at this
        omega
    · rw [if_neg h1] at h
      cases h
      omega
theorem sm_b {i j : Nat} {l : List lw_C} (h : sm K V i = .inr (j, l)) : i < j ∧ l.length + i ≤ j := by
  unfold sm at h
  cases e : prd K V i with
  | inl x => rw [e] at h; cases h
  | inr x =>
    obtain ⟨j2, l2⟩ := x
    rw [e] at h
    have h2 := prd_b e
    have := smL_b 402 j2 l2 j l h
    omega
theorem cm_b {i j : Nat} {l : List lw_C} (h : cm K V i = .inr (j, l)) : i < j ∧ l.length + i ≤ j := by
  unfold cm at h
  cases e : sm K V i with
  | inl x => rw [e] at h; cases h
  | inr x =>
    obtain ⟨j1, l1⟩ := x
    rw [e] at h
    have h1 := sm_b e
    by_cases h3 : 60 ≤ K j1 ∧ K j1 ≤ 62
    · have h : (match sm K V (j1 + 1) with
        | .inl x => .inl x
        | .inr (j2, l2) => .inr (j2, l1 ++ l2 ++ [(2, 5 + (K j1 - 60))])) = (.inr (j, l) : tR (List lw_C)) := by rw [← h]; exact (if_pos h3).symm
      cases e2 : sm K V (j1 + 1) with
      | inl x => rw [e2] at h; cases h
      | inr x =>
        obtain ⟨j2, l2⟩ := x
        rw [e2] at h
        have h2 := sm_b e2
        cases h
        simp only [List.length_append, List.length_cons, List.length_nil]
        omega
    · have h : (.inl (1, j1) : tR (List lw_C)) = .inr (j, l) := by rw [← h]; exact (if_neg h3).symm
      cases h
theorem nt_b : ∀ (d o i : Nat) (j o2 : Nat), o ≤ 8 → nt K d o i = .inr (j, o2) → j - i = o2 - o ∧ i ≤ j ∧ o ≤ o2 ∧ o2 ≤ 8 ∧ K j ≠ 262
  | 0, o, i, j, o2, _, h => by cases h
  | d + 1, o, i, j, o2, ho, h => by
    rw [nt] at h
    by_cases h1 : K i = 262
    · rw [if_pos h1] at h
      by_cases h2 : o = 8
      · rw [if_pos h2] at h; cases h
      · rw [if_neg h2] at h
        have := nt_b d (o + 1) (i + 1) j o2 (by omega) h
        exact ⟨by omega, by omega, by omega, this.2.2.2⟩
    · rw [if_neg h1] at h
      cases h
      exact ⟨by omega, by omega, by omega, ho, h1⟩
/-- rt keeps to the tokens -/
def rtB (rt : Nat → Nat → tR lP) : Prop := ∀ o i j p, rt o i = .inr (j, p) → i ≤ j ∧ p.1.length + i ≤ j ∧ p.2.length + i ≤ j
theorem inn_b {rt : Nat → Nat → tR lP} (hr : rtB rt) {o i j : Nat} {p : lP} (h : inn K V rt o i = .inr (j, p)) : i ≤ j ∧ p.1.length + i ≤ j ∧ p.2.length + i ≤ j := by
  unfold inn at h
  by_cases h1 : K i = 40
  · rw [if_pos h1] at h
    by_cases h2 : o < 8
    · rw [if_pos h2] at h
      cases e : rt (o + 1) (i + 1) with
      | inl x => rw [e] at h; cases h
      | inr x =>
        obtain ⟨j1, p1⟩ := x
        have hb := hr _ _ _ _ e
        rw [e] at h
        by_cases h3 : K j1 = 41
        · have h : (.inr (j1 + 1, p1) : tR lP) = .inr (j, p) := by rw [← h]; exact (if_pos h3).symm
          cases h
          omega
        · have h : (.inl (1, j1) : tR lP) = .inr (j, p) := by rw [← h]; exact (if_neg h3).symm
          cases h
    · rw [if_neg h2] at h; cases h
  · rw [if_neg h1] at h
    cases e : cm K V i with
    | inl x => rw [e] at h; cases h
    | inr x =>
      obtain ⟨j1, l1⟩ := x
      rw [e] at h
      have := cm_b e
      cases h
      show i ≤ j ∧ l1.length + i ≤ j ∧ l1.length + i ≤ j
      omega
theorem nP_b (k : Nat) (p : lP) : (nP k p).1.length ≤ p.1.length + k ∧ (nP k p).2.length = p.2.length + k := by
  unfold nP
  constructor
  · show (p.1 ++ _).length ≤ _
    rw [List.length_append]
    split
    · simp only [List.length_cons, List.length_nil]; omega
    · simp only [List.length_nil]; omega
  · show (p.2 ++ _).length = _
    rw [List.length_append, List.length_replicate]
theorem tpr_b {rt : Nat → Nat → tR lP} (hr : rtB rt) {o i j : Nat} {p : lP} (ho : o ≤ 8) (h : tpr K V rt o i = .inr (j, p)) : i ≤ j ∧ p.1.length + i ≤ j ∧ p.2.length + i ≤ j := by
  unfold tpr at h
  cases e : nt K 10 o i with
  | inl x => rw [e] at h; cases h
  | inr x =>
    obtain ⟨j1, o2⟩ := x
    rw [e] at h
    have h1 := nt_b 10 o i j1 o2 ho e
    cases e2 : inn K V rt o2 j1 with
    | inl x =>
      have h : (.inl x : tR lP) = .inr (j, p) := by
        rw [← h]
        show _ = (match inn K V rt o2 j1 with
          | .inl x => (.inl x : tR lP)
          | .inr (j3, p) => .inr (j3, nP (o2 - o) p))
        rw [e2]
      cases h
    | inr x =>
      obtain ⟨j3, p1⟩ := x
      have h2 := inn_b hr e2
      have h3 := nP_b (o2 - o) p1
      have h : (.inr (j3, nP (o2 - o) p1) : tR lP) = .inr (j, p) := by
        rw [← h]
        show _ = (match inn K V rt o2 j1 with
          | .inl x => (.inl x : tR lP)
          | .inr (j3, p) => .inr (j3, nP (o2 - o) p))
        rw [e2]
      cases h
      omega
def ol (a : Option lP) (s : Nat) : Nat := match a with
  | none => 0
  | some x => (if s = 0 then x.1.length else x.2.length) + 1
theorem jn_b (a : Option lP) (k : Nat) (b : lP) : (jn a k b).1.length = ol a 0 + b.1.length ∧ (jn a k b).2.length = ol a 1 + b.2.length := by
  cases a with
  | none => exact ⟨(Nat.zero_add _).symm, (Nat.zero_add _).symm⟩
  | some x =>
    constructor
    · show (x.1 ++ b.1 ++ [(2, k)]).length = x.1.length + 1 + b.1.length
      simp only [List.length_append, List.length_cons, List.length_nil]
      omega
    · show (x.2 ++ b.2 ++ [(2, k)]).length = x.2.length + 1 + b.2.length
      simp only [List.length_append, List.length_cons, List.length_nil]
      omega
theorem trL_b {rt : Nat → Nat → tR lP} (hr : rtB rt) {o : Nat} (ho : o ≤ 8) : ∀ (d i : Nat) (A B : Option lP) (j : Nat) (p : lP), trL K V rt o d i A B = .inr (j, p) → i ≤ j ∧ p.1.length + i ≤ j + ol A 0 + ol B 0 ∧ p.2.length + i ≤ j + ol A 1 + ol B 1
  | 0, i, A, B, j, p, h => by cases h
  | d + 1, i, A, B, j, p, h => by
    rw [trL] at h
    cases e : tpr K V rt o i with
    | inl x => rw [e] at h; cases h
    | inr x =>
      obtain ⟨j1, p1⟩ := x
      have h1 := tpr_b hr ho e
      have h2 := jn_b B 8 p1
      have h3 := jn_b A 9 (jn B 8 p1)
      have h : (if K j1 = 261 then trL K V rt o d (j1 + 1) A (some (jn B 8 p1)) else if K j1 = 260 then trL K V rt o d (j1 + 1) (some (jn A 9 (jn B 8 p1))) none else .inr (j1, jn A 9 (jn B 8 p1))) = .inr (j, p) := by rw [← h, e]
      by_cases q1 : K j1 = 261
      · rw [if_pos q1] at h
        have := trL_b hr ho d (j1 + 1) A (some (jn B 8 p1)) j p h
        have o0 : ol (some (jn B 8 p1)) 0 = (jn B 8 p1).1.length + 1 := rfl
        have o1 : ol (some (jn B 8 p1)) 1 = (jn B 8 p1).2.length + 1 := rfl
        omega
      · rw [if_neg q1] at h
        by_cases q2 : K j1 = 260
        · rw [if_pos q2] at h
          have := trL_b hr ho d (j1 + 1) (some (jn A 9 (jn B 8 p1))) none j p h
          have o0 : ol (some (jn A 9 (jn B 8 p1))) 0 = (jn A 9 (jn B 8 p1)).1.length + 1 := rfl
          have o1 : ol (some (jn A 9 (jn B 8 p1))) 1 = (jn A 9 (jn B 8 p1)).2.length + 1 := rfl
          have o2 : ol none 0 = 0 := rfl
          have o3 : ol none 1 = 0 := rfl
          omega
        · rw [if_neg q2] at h
          cases h
          omega
/-- up to eight waiting -/
theorem tr_b : ∀ (k : Nat) (o i j : Nat) (p : lP), o ≤ 8 → tr K V k o i = .inr (j, p) → i ≤ j ∧ p.1.length + i ≤ j ∧ p.2.length + i ≤ j
  | 0, o, i, j, p, _, h => by cases h
  | k + 1, o, i, j, p, ho, h => by
    rw [tr] at h
    have hr : rtB (fun o i => if o ≤ 8 then tr K V k o i else .inl (9, i)) := by
      intro o i j p h
      by_cases q : o ≤ 8
      · have h : tr K V k o i = .inr (j, p) := by rw [← h]; exact (if_pos q).symm
        exact tr_b k o i j p q h
      · have h : (.inl (9, i) : tR lP) = .inr (j, p) := by rw [← h]; exact (if_neg q).symm
        cases h
    have hi : ∀ o i, inn K V (tr K V k) o i = inn K V (fun o i => if o ≤ 8 then tr K V k o i else .inl (9, i)) o i := by
      intro o i
      unfold inn
      by_cases h1 : K i = 40
      · rw [if_pos h1, if_pos h1]
        by_cases h2 : o < 8
        · rw [if_pos h2, if_pos h2, show (fun o i => if o ≤ 8 then tr K V k o i else .inl (9, i)) (o + 1) (i + 1) = tr K V k (o + 1) (i + 1) from if_pos (by omega)]
        · rw [if_neg h2, if_neg h2]
      · rw [if_neg h1, if_neg h1]
    have ht : ∀ o i, tpr K V (tr K V k) o i = tpr K V (fun o i => if o ≤ 8 then tr K V k o i else .inl (9, i)) o i := by
      intro o i
      unfold tpr
      cases nt K 10 o i with
      | inl x => rfl
      | inr x => simp only [hi]
    have hl : ∀ (d i : Nat) (A B : Option lP), trL K V (tr K V k) o d i A B = trL K V (fun o i => if o ≤ 8 then tr K V k o i else .inl (9, i)) o d i A B := by
      intro d
      induction d with
      | zero => intro i A B; rfl
      | succ d ih =>
        intro i A B
        rw [trL, trL, ht]
        simp only [ih]
    rw [hl] at h
    have := trL_b hr ho 402 i none none j p h
    have o2 : ol none 0 = 0 := rfl
    have o3 : ol none 1 = 0 := rfl
    omega
end SpecB
