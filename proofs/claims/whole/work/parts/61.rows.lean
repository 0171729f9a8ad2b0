/-! ===== rows: how soon rounds come back ===== -/
theorem pig {N : Nat} (f : Nat → Nat) : ∀ (c : Nat) (p : Nat → Bool), (∀ k, k < c → f k < N ∧ p (f k) = true) → (∀ a b, a < b → b < c → f a ≠ f b) → c ≤ cnt p N := by
  intro c
  induction c with
  | zero => exact fun _ _ _ => Nat.zero_le _
  | succ c ih =>
    intro p h1 h2
    have i1 := ih (fun j => p j && !(Nat.beq j (f c))) (fun k hk => ⟨(h1 k (by omega)).1, by
      show (p (f k) && !(Nat.beq (f k) (f c))) = true
      rw [(h1 k (by omega)).2, nbF (h2 k c hk (by omega))]; rfl⟩) (fun a b x y => h2 a b x (by omega))
    have i2 := cnt_lt (p := fun j => p j && !(Nat.beq j (f c))) (q := p) N (fun i _ h => by
      cases hp : p i with
      | true => rfl
      | false => rw [hp] at h; cases h) (h1 c (by omega)).1 (h1 c (by omega)).2 (by
        show (p (f c) && !(Nat.beq (f c) (f c))) = false
        rw [Nat.beq_refl, Bool.not_true, Bool.and_false])
    omega
theorem lst {P : Nat → Prop} : ∀ n, P n → ∃ k, k ≤ n ∧ P k ∧ ∀ j, j < k → ¬ P j := by
  intro n
  induction n using Nat.strongRecOn with
  | _ n ih =>
    intro h
    by_cases hj : ∃ j, j < n ∧ P j
    · obtain ⟨j, h1, h2⟩ := hj
      obtain ⟨k, q1, q2, q3⟩ := ih j h1 h2
      exact ⟨k, by omega, q2, q3⟩
    · exact ⟨n, Nat.le_refl _, h, fun j h1 h2 => hj ⟨j, h1, h2⟩⟩
def pw (σ : Nat → Nat) : Nat → Nat → Nat
  | 0, i => i
  | m + 1, i => σ (pw σ m i)
theorem pw_add (σ : Nat → Nat) (a b i : Nat) : pw σ (a + b) i = pw σ a (pw σ b i) := by
  induction a with
  | zero => rw [Nat.zero_add]; rfl
  | succ a ih => rw [show a + 1 + b = (a + b) + 1 by omega, pw, pw, ih]
theorem pw_mul {σ : Nat → Nat} {v i : Nat} (h : pw σ v i = i) (q : Nat) : pw σ (v * q) i = i := by
  induction q with
  | zero => rfl
  | succ q ih => rw [Nat.mul_succ, pw_add, h, ih]
theorem lcs : ∀ b1 b2 b3 b4 b5 b6 b7 b8 : Bool, (if b1 then 1 else 0) + (if b2 then 2 else 0) + (if b3 then 3 else 0) + (if b4 then 4 else 0) + (if b5 then 5 else 0) + (if b6 then 6 else 0) + (if b7 then 7 else 0) + (if b8 then 8 else 0) ≤ 8 → ((List.range 15).any fun m => (!b1 || Nat.beq ((m + 1) % 1) 0) && (!b2 || Nat.beq ((m + 1) % 2) 0) && (!b3 || Nat.beq ((m + 1) % 3) 0) && (!b4 || Nat.beq ((m + 1) % 4) 0) && (!b5 || Nat.beq ((m + 1) % 5) 0) && (!b6 || Nat.beq ((m + 1) % 6) 0) && (!b7 || Nat.beq ((m + 1) % 7) 0) && (!b8 || Nat.beq ((m + 1) % 8) 0)) = true := by decide +kernel
theorem cnt_split {c : Nat → Nat} (N : Nat) (h : ∀ i, i < N → 1 ≤ c i ∧ c i ≤ 8) : cnt (fun j => Nat.beq (c j) 1) N + cnt (fun j => Nat.beq (c j) 2) N + cnt (fun j => Nat.beq (c j) 3) N + cnt (fun j => Nat.beq (c j) 4) N + cnt (fun j => Nat.beq (c j) 5) N + cnt (fun j => Nat.beq (c j) 6) N + cnt (fun j => Nat.beq (c j) 7) N + cnt (fun j => Nat.beq (c j) 8) N = N := by
  induction N with
  | zero => rfl
  | succ N ih =>
    have i1 := ih fun i hi => h i (by omega)
    obtain ⟨h1, h2⟩ := h N (by omega)
    simp only [cnt_s]
    have : c N = 1 ∨ c N = 2 ∨ c N = 3 ∨ c N = 4 ∨ c N = 5 ∨ c N = 6 ∨ c N = 7 ∨ c N = 8 := by omega
    rcases this with e | e | e | e | e | e | e | e <;> rw [e] <;> simp <;> omega
theorem orders {σ : Nat → Nat} (hl : ∀ i, i < 8 → σ i < 8) (hi : ∀ i j, i < 8 → j < 8 → σ i = σ j → i = j) : ∃ M, 1 ≤ M ∧ M ≤ 15 ∧ ∀ i, i < 8 → pw σ M i = i := by
  have pl : ∀ m i, i < 8 → pw σ m i < 8 := by
    intro m i h
    induction m with
    | zero => exact h
    | succ m ih => exact hl _ ih
  have pi : ∀ m i j, i < 8 → j < 8 → pw σ m i = pw σ m j → i = j := by
    intro m
    induction m with
    | zero => exact fun i j _ _ h => h
    | succ m ih => exact fun i j h1 h2 h => ih i j h1 h2 (hi _ _ (pl m i h1) (pl m j h2) h)
  have dst : ∀ i, i < 8 → ∀ v, (∀ u, 1 ≤ u → u < v → pw σ u i ≠ i) → ∀ a b, a < b → b < v → pw σ a i ≠ pw σ b i := by
    intro i h v hv a b hab hb e
    rw [show b = a + (b - a) by omega, pw_add] at e
    exact hv (b - a) (by omega) (by omega) (pi a i _ h (pl _ _ h) e).symm
  have per : ∀ i, i < 8 → ∃ v, (1 ≤ v ∧ v ≤ 8) ∧ pw σ v i = i ∧ ∀ u, 1 ≤ u → u < v → pw σ u i ≠ i := by
    intro i h
    have ex1 : ∃ v, v ≤ 8 ∧ 1 ≤ v ∧ pw σ v i = i := by
      refine Classical.byContradiction fun hn => ?_
      have := pig (N := 8) (fun k => pw σ k i) 9 (fun _ => true) (fun k _ => ⟨pl k i h, rfl⟩) (dst i h 9 fun u h1 h2 e => hn ⟨u, by omega, h1, e⟩)
      have := cnt_le (fun _ => true) 8
      omega
    obtain ⟨v, h1, h2, h3⟩ := ex1
    obtain ⟨k, q1, q2, q3⟩ := lst (P := fun v => 1 ≤ v ∧ pw σ v i = i) v ⟨h2, h3⟩
    exact ⟨k, ⟨q2.1, by omega⟩, q2.2, fun u a b e => q3 u b ⟨a, e⟩⟩
  obtain ⟨c, hc⟩ : ∃ c : Nat → Nat, ∀ i, i < 8 → (1 ≤ c i ∧ c i ≤ 8) ∧ pw σ (c i) i = i ∧ ∀ u, 1 ≤ u → u < c i → pw σ u i ≠ i :=
    ⟨fun i => if h : i < 8 then Classical.choose (per i h) else 0, fun i h => by dsimp only; rw [dif_pos h]; exact Classical.choose_spec (per i h)⟩
  have same : ∀ i k, i < 8 → c (pw σ k i) = c i := by
    intro i k h
    have hk := pl k i h
    have e1 : ∀ u, pw σ u (pw σ k i) = pw σ k i ↔ pw σ u i = i := fun u => by
      rw [← pw_add, Nat.add_comm, pw_add]
      exact ⟨fun e => pi k _ _ (pl u i h) h e, fun e => by rw [e]⟩
    obtain ⟨⟨a1, -⟩, a2, a3⟩ := hc i h
    obtain ⟨⟨b1, -⟩, b2, b3⟩ := hc (pw σ k i) hk
    refine Nat.le_antisymm (Nat.le_of_not_lt fun hlt => ?_) (Nat.le_of_not_lt fun hlt => ?_)
    · exact b3 (c i) a1 hlt ((e1 _).mpr a2)
    · exact a3 _ b1 hlt ((e1 _).mp b2)
  obtain ⟨p, hp⟩ : ∃ p : Nat → Bool, ∀ v, p v = true ↔ ∃ i, i < 8 ∧ c i = v := ⟨fun v => (List.range 8).any fun i => Nat.beq (c i) v, fun v => by
    rw [List.any_eq_true]
    constructor
    · intro ⟨i, h1, h2⟩
      exact ⟨i, List.mem_range.mp h1, Nat.eq_of_beq_eq_true h2⟩
    · intro ⟨i, h1, h2⟩
      exact ⟨i, List.mem_range.mpr h1, by rw [h2, Nat.beq_refl]⟩⟩
  have sz : ∀ v, (if p v then v else 0) ≤ cnt (fun j => Nat.beq (c j) v) 8 := by
    intro v
    by_cases hv : ∃ i, i < 8 ∧ c i = v
    · rw [(hp v).mpr hv, if_pos rfl]
      obtain ⟨i, h, rfl⟩ := hv
      exact pig (N := 8) (fun k => pw σ k i) (c i) _ (fun k _ => ⟨pl k i h, by
        show Nat.beq (c (pw σ k i)) (c i) = true
        rw [same i k h, Nat.beq_refl]⟩) (dst i h _ (hc i h).2.2)
    · rw [if_neg fun z => hv ((hp v).mp z)]; exact Nat.zero_le _
  have tot := cnt_split (c := c) 8 fun i h => (hc i h).1
  have s1 := sz 1
  have s2 := sz 2
  have s3 := sz 3
  have s4 := sz 4
  have s5 := sz 5
  have s6 := sz 6
  have s7 := sz 7
  have s8 := sz 8
  have fin := lcs _ _ _ _ _ _ _ _ (Nat.le_trans (Nat.add_le_add (Nat.add_le_add (Nat.add_le_add (Nat.add_le_add (Nat.add_le_add (Nat.add_le_add (Nat.add_le_add s1 s2) s3) s4) s5) s6) s7) s8) (Nat.le_of_eq tot))
  obtain ⟨m, hm, hq⟩ := List.any_eq_true.mp fin
  have hm15 := List.mem_range.mp hm
  refine ⟨m + 1, by omega, by omega, fun i h => ?_⟩
  simp only [Bool.and_eq_true, Bool.or_eq_true, Bool.not_eq_true', Nat.beq_eq_true_eq] at hq
  obtain ⟨⟨⟨⟨⟨⟨⟨q1, q2⟩, q3⟩, q4⟩, q5⟩, q6⟩, q7⟩, q8⟩ := hq
  obtain ⟨⟨a1, a2⟩, a3, -⟩ := hc i h
  have dv : (m + 1) % c i = 0 := by
    have : c i = 1 ∨ c i = 2 ∨ c i = 3 ∨ c i = 4 ∨ c i = 5 ∨ c i = 6 ∨ c i = 7 ∨ c i = 8 := by omega
    rcases this with e | e | e | e | e | e | e | e <;> rw [e]
    · exact Nat.eq_of_beq_eq_true (q1.resolve_left fun z => by rw [(hp 1).mpr ⟨i, h, e⟩] at z; cases z)
    · exact Nat.eq_of_beq_eq_true (q2.resolve_left fun z => by rw [(hp 2).mpr ⟨i, h, e⟩] at z; cases z)
    · exact Nat.eq_of_beq_eq_true (q3.resolve_left fun z => by rw [(hp 3).mpr ⟨i, h, e⟩] at z; cases z)
    · exact Nat.eq_of_beq_eq_true (q4.resolve_left fun z => by rw [(hp 4).mpr ⟨i, h, e⟩] at z; cases z)
    · exact Nat.eq_of_beq_eq_true (q5.resolve_left fun z => by rw [(hp 5).mpr ⟨i, h, e⟩] at z; cases z)
    · exact Nat.eq_of_beq_eq_true (q6.resolve_left fun z => by rw [(hp 6).mpr ⟨i, h, e⟩] at z; cases z)
    · exact Nat.eq_of_beq_eq_true (q7.resolve_left fun z => by rw [(hp 7).mpr ⟨i, h, e⟩] at z; cases z)
    · exact Nat.eq_of_beq_eq_true (q8.resolve_left fun z => by rw [(hp 8).mpr ⟨i, h, e⟩] at z; cases z)
  obtain ⟨q, hq⟩ := Nat.dvd_of_mod_eq_zero dv
  rw [hq]
  exact pw_mul a3 q
/-! ===== a change, and the rows ===== -/
def noadj (s : Nat) : Prop := ∀ p, (s.testBit p && s.testBit (p + 1)) = false
def tau (n s i : Nat) : Nat := if (decide (i + 1 < n) && s.testBit i) = true then i + 1 else if (decide (0 < i ∧ i < n) && s.testBit (i - 1)) = true then i - 1 else i
theorem tau_1 (s i : Nat) : tau 1 s i = i := by
  unfold tau
  rw [decide_eq_false (by omega), decide_eq_false (by omega), Bool.false_and, Bool.false_and, if_neg (by decide), if_neg (by decide)]
theorem tau_A {n s i : Nat} (h : i + 1 < n) (hb : s.testBit i = true) : tau n s i = i + 1 := by
  unfold tau
  rw [decide_eq_true h, hb]; rfl
theorem tau_B {n s i : Nat} (hs : noadj s) (h : i + 1 < n) (hb : s.testBit i = true) : tau n s (i + 1) = i := by
  unfold tau
  have h1 := hs i
  rw [hb, Bool.true_and] at h1
  rw [h1, Bool.and_false, if_neg (by decide), decide_eq_true (⟨by omega, h⟩ : 0 < i + 1 ∧ i + 1 < n), Nat.add_sub_cancel, hb]; rfl
theorem tau_or (n s i : Nat) : (i + 1 < n ∧ s.testBit i = true ∧ tau n s i = i + 1) ∨ (∃ j, i = j + 1 ∧ j + 1 < n ∧ s.testBit j = true ∧ tau n s i = j) ∨ (tau n s i = i ∧ ¬ (i + 1 < n ∧ s.testBit i = true) ∧ ∀ j, i = j + 1 → ¬ (j + 1 < n ∧ s.testBit j = true)) := by
  by_cases h : i + 1 < n ∧ s.testBit i = true
  · exact .inl ⟨h.1, h.2, tau_A h.1 h.2⟩
  have e1 : (decide (i + 1 < n) && s.testBit i) = false := by
    cases hb : s.testBit i with
    | false => rw [Bool.and_false]
    | true => rw [decide_eq_false fun z => h ⟨z, hb⟩]; rfl
  by_cases h2 : (0 < i ∧ i < n) ∧ s.testBit (i - 1) = true
  · refine .inr (.inl ⟨i - 1, by omega, by omega, h2.2, ?_⟩)
    unfold tau
    rw [e1, decide_eq_true h2.1, h2.2]; rfl
  · refine .inr (.inr ⟨?_, h, fun j hj z => h2 ⟨by omega, by rw [show i - 1 = j by omega]; exact z.2⟩⟩)
    have e2 : (decide (0 < i ∧ i < n) && s.testBit (i - 1)) = false := by
      cases hb : s.testBit (i - 1) with
      | false => rw [Bool.and_false]
      | true => rw [decide_eq_false fun z => h2 ⟨z, hb⟩]; rfl
    unfold tau
    rw [e1, e2]; rfl
theorem tau_tau {n s : Nat} (hs : noadj s) (i : Nat) : tau n s (tau n s i) = i := by
  rcases tau_or n s i with ⟨a, b, e⟩ | ⟨j, rfl, a, b, e⟩ | ⟨e, -, -⟩
  · rw [e, tau_B hs a b]
  · rw [e, tau_A a b]
  · rw [e, e]
theorem tau_ge {n s i : Nat} (h : n ≤ i) : tau n s i = i := by
  rcases tau_or n s i with ⟨a, b, e⟩ | ⟨j, rfl, a, b, e⟩ | ⟨e, -, -⟩
  · omega
  · omega
  · exact e
theorem tau_lt {n s i : Nat} (h : i < n) : tau n s i < n := by
  rcases tau_or n s i with ⟨a, b, e⟩ | ⟨j, rfl, a, b, e⟩ | ⟨e, -, -⟩ <;> omega
theorem tau_8 {n s i : Nat} (hn : n ≤ 8) (h : i < 8) : tau n s i < 8 := by
  rcases tau_or n s i with ⟨a, b, e⟩ | ⟨j, rfl, a, b, e⟩ | ⟨e, -, -⟩ <;> omega
/-- one place more: no bell changes there, or two do -/
theorem tau_s0 {q s : Nat} (hb : s.testBit q = false) (i : Nat) : tau (q + 2) s i = tau (q + 1) s i := by
  rcases tau_or (q + 1) s i with ⟨a, b, e⟩ | ⟨j, rfl, a, b, e⟩ | ⟨e, e1, e2⟩
  · rw [e, tau_A (by omega) b]
  · rw [e]
    rcases tau_or (q + 2) s (j + 1) with ⟨a', b', e'⟩ | ⟨j', hj, a', b', e'⟩ | ⟨e', e1', e2'⟩
    · by_cases hq : j + 1 = q
      · rw [hq, hb] at b'; cases b'
      · exfalso
        have : tau (q + 1) s (j + 1) = j + 1 + 1 := tau_A (by omega) b'
        omega
    · omega
    · exact absurd ⟨by omega, b⟩ (e2' j rfl)
  · rw [e]
    rcases tau_or (q + 2) s i with ⟨a', b', e'⟩ | ⟨j', hj, a', b', e'⟩ | ⟨e', e1', e2'⟩
    · by_cases hq : i = q
      · rw [hq, hb] at b'; cases b'
      · exact absurd ⟨by omega, b'⟩ e1
    · by_cases hq : j' = q
      · rw [hq, hb] at b'; cases b'
      · exact absurd ⟨by omega, b'⟩ (e2 j' hj)
    · exact e'
theorem tau_s1 {q s : Nat} (hs : noadj s) (hb : s.testBit q = true) (i : Nat) : tau (q + 2) s i = if i = q then q + 1 else if i = q + 1 then q else tau (q + 1) s i := by
  by_cases h1 : i = q
  · rw [if_pos h1, h1, tau_A (by omega) hb]
  by_cases h2 : i = q + 1
  · rw [if_neg h1, if_pos h2, h2, tau_B hs (by omega) hb]
  rw [if_neg h1, if_neg h2]
  by_cases h3 : q + 1 < i
  · rw [tau_ge (by omega), tau_ge (by omega)]
  rcases tau_or (q + 1) s i with ⟨a, b, e⟩ | ⟨j, rfl, a, b, e⟩ | ⟨e, e1, e2⟩
  · rw [e, tau_A (by omega) b]
  · rw [e, tau_B hs (by omega) b]
  · rw [e]
    rcases tau_or (q + 2) s i with ⟨a', b', e'⟩ | ⟨j', hj, a', b', e'⟩ | ⟨e', e1', e2'⟩
    · exact absurd ⟨by omega, b'⟩ e1
    · exact absurd ⟨by omega, b'⟩ (e2 j' hj)
    · exact e'
/-- where the bells at q and q + 1 were, before q is looked at -/
theorem tau_q {q s : Nat} (hs : noadj s) (hb : s.testBit q = true) : tau (q + 1) s q = q := by
  rcases tau_or (q + 1) s q with ⟨a, b, e⟩ | ⟨j, rfl, a, b, e⟩ | ⟨e, e1, e2⟩
  · omega
  · have := hs j
    rw [b, hb] at this
    cases this
  · exact e
def Rw (n L : Nat) (c : Nat → Nat) : Nat → Nat → Nat
  | 0, i => i
  | k + 1, i => Rw n L c k (tau n (c (k % L)) i)
section
variable {n L : Nat} {c : Nat → Nat}
theorem Rw_8 (hn : n ≤ 8) : ∀ k i, i < 8 → Rw n L c k i < 8 := by
  intro k
  induction k with
  | zero => exact fun i h => h
  | succ k ih => exact fun i h => ih _ (tau_8 hn h)
theorem Rw_ge : ∀ k i, n ≤ i → Rw n L c k i = i := by
  intro k
  induction k with
  | zero => exact fun i h => rfl
  | succ k ih => exact fun i h => by rw [Rw, tau_ge h, ih i h]
theorem Rw_inj (hL : 0 < L) (hc : ∀ j, j < L → noadj (c j)) : ∀ k i j, Rw n L c k i = Rw n L c k j → i = j := by
  intro k
  induction k with
  | zero => exact fun i j h => h
  | succ k ih =>
    intro i j h
    have := ih _ _ h
    rw [← tau_tau (n := n) (hc (k % L) (Nat.mod_lt _ hL)) i, this, tau_tau (hc (k % L) (Nat.mod_lt _ hL))]
theorem Rw_add (k i : Nat) : Rw n L c (L + k) i = Rw n L c L (Rw n L c k i) := by
  induction k generalizing i with
  | zero => rfl
  | succ k ih => rw [show L + (k + 1) = (L + k) + 1 from rfl, Rw, ih, Rw, Nat.add_mod_left]
theorem Rw_pw (m i : Nat) : Rw n L c (m * L) i = pw (Rw n L c L) m i := by
  induction m with
  | zero => rw [Nat.zero_mul]; rfl
  | succ m ih => rw [Nat.succ_mul, Nat.add_comm, Rw_add, ih]; rfl
theorem Rw_back (hn : n ≤ 8) (hL : 0 < L) (hL2 : L ≤ 16) (hc : ∀ j, j < L → noadj (c j)) : ∃ k, 1 ≤ k ∧ k ≤ 240 ∧ ∀ i, i < 8 → Rw n L c k i = i := by
  obtain ⟨M, h1, h2, h3⟩ := orders (σ := Rw n L c L) (fun i h => Rw_8 hn L i h) (fun i j _ _ h => Rw_inj hL hc L i j h)
  refine ⟨M * L, ?_, ?_, fun i h => by rw [Rw_pw, h3 i h]⟩
  · exact Nat.mul_pos h1 hL
  · exact Nat.mul_le_mul h2 hL2
theorem Rw_same {j k : Nat} (h : ∀ i, i < n → Rw n L c j i = Rw n L c k i) (i : Nat) : Rw n L c j i = Rw n L c k i := by
  by_cases hi : i < n
  · exact h i hi
  · rw [Rw_ge j i (by omega), Rw_ge k i (by omega)]
end
/-- a row as a number -/
def num (f : Nat → Nat) (k : Nat) : Nat := up (fun i a => a * 8 + f i) 0 k 0
theorem num_s (f : Nat → Nat) (k : Nat) : num f (k + 1) = num f k * 8 + f k := by unfold num; rw [up_l, Nat.zero_add]
theorem num_lt {f : Nat → Nat} {k : Nat} (h : ∀ i, i < k → f i < 8) : num f k < 8 ^ k := by
  induction k with
  | zero => exact Nat.one_pos
  | succ k ih =>
    have := ih fun i hi => h i (by omega)
    have := h k (by omega)
    rw [num_s, Nat.pow_succ]
    omega
theorem num_eq {f g : Nat → Nat} {k : Nat} (h1 : ∀ i, i < k → f i < 8) (h2 : ∀ i, i < k → g i < 8) : num f k = num g k ↔ ∀ i, i < k → f i = g i := by
  induction k with
  | zero => exact ⟨fun _ i h => absurd h (Nat.not_lt_zero i), fun _ => rfl⟩
  | succ k ih =>
    have a := ih (fun i hi => h1 i (by omega)) (fun i hi => h2 i (by omega))
    have b1 := h1 k (by omega)
    have b2 := h2 k (by omega)
    rw [num_s, num_s]
    constructor
    · intro e i hi
      by_cases hk : i = k
      · subst hk; omega
      · exact a.mp (by omega) i (by omega)
    · intro e
      rw [a.mpr fun i hi => e i (by omega), e k (by omega)]
