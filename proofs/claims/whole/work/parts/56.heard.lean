/-! ===== heard ===== -/
theorem pc_sub (f : Nat) : ∀ a b : Nat, (∀ i, a.testBit i = true → b.testBit i = true) → pc f a ≤ pc f b ∧ (pc f a = pc f b → a < 2 ^ f → b < 2 ^ f → a = b) := by
  induction f with
  | zero => intro a b _; exact ⟨Nat.le_refl _, fun _ h1 h2 => by omega⟩
  | succ f ih =>
    intro a b h
    obtain ⟨i1, i2⟩ := ih (a / 2) (b / 2) fun i hi => by
      rw [Nat.testBit_div_two] at hi ⊢
      exact h _ hi
    have h2 : ∀ x : Nat, x % 2 = if x.testBit 0 then 1 else 0 := fun x => by simpa using bit_v x 0
    have hm : a % 2 ≤ b % 2 := by
      rw [h2 a, h2 b]
      cases ha : a.testBit 0
      · rw [if_neg (by decide)]; omega
      · rw [h 0 ha]; omega
    rw [pc, pc]
    refine ⟨by omega, fun e h3 h4 => ?_⟩
    have hp : 2 ^ (f + 1) = 2 * 2 ^ f := by rw [Nat.pow_succ]; omega
    have := i2 (by omega) (by omega) (by omega)
    omega
def kn (T : Nat → Nat) (s : Nat) : Nat := up (fun p a => if s.testBit p then a ||| T p else a) 0 10 s
theorem kn_up (T : Nat → Nat) (s j k : Nat) : ∀ i a, (up (fun p a => if s.testBit p then a ||| T p else a) i k a).testBit j = true ↔ a.testBit j = true ∨ ∃ p, i ≤ p ∧ p < i + k ∧ s.testBit p = true ∧ (T p).testBit j = true := by
  induction k with
  | zero => intro i a; rw [up_0]; exact ⟨.inl, fun h => h.elim id fun ⟨p, h1, h2, _⟩ => by omega⟩
  | succ k ih =>
    intro i a
    rw [up_s, ih]
    constructor
    · rintro (h | ⟨p, h1, h2, h3⟩)
      · cases hs : s.testBit i
        · rw [hs, if_neg (by decide)] at h; exact .inl h
        · rw [hs, if_pos rfl, Nat.testBit_or, Bool.or_eq_true] at h
          rcases h with h | h
          · exact .inl h
          · exact .inr ⟨i, by omega, by omega, hs, h⟩
      · exact .inr ⟨p, by omega, by omega, h3⟩
    · rintro (h | ⟨p, h1, h2, h3, h4⟩)
      · left
        split
        · rw [Nat.testBit_or, h]; rfl
        · exact h
      · by_cases e : p = i
        · subst e
          left
          rw [h3, if_pos rfl, Nat.testBit_or, h4, Bool.or_true]
        · exact .inr ⟨p, by omega, by omega, h3, h4⟩
theorem kn_bit (T : Nat → Nat) (s j : Nat) : (kn T s).testBit j = true ↔ s.testBit j = true ∨ ∃ p, p < 10 ∧ s.testBit p = true ∧ (T p).testBit j = true := by
  rw [kn, kn_up]
  constructor
  · rintro (h | ⟨p, -, h2, h3⟩)
    · exact .inl h
    · exact .inr ⟨p, by omega, h3⟩
  · rintro (h | ⟨p, h2, h3⟩)
    · exact .inl h
    · exact .inr ⟨p, by omega, by omega, h3⟩
def TB (T : Nat → Nat) : Prop := ∀ p, p < 10 → T p < 1024
theorem kn_lt {T : Nat → Nat} (hT : TB T) {s : Nat} (hs : s < 1024) : kn T s < 1024 := up_inv (fun _ a => a < 1024) hs fun j _ hj a ha => by
  show (if s.testBit j then a ||| T j else a) < 1024
  split
  · exact or_10 ha (hT j (by omega))
  · exact ha
section
variable {kp fu : Nat} {T : Nat → Nat} {D : ev_D}
theorem e_know4 (hT : ∀ p, p < 10 → D 128 p = nI (T p)) {s : Nat} (hs : s < 1024) (k : Nat) : ∀ i f a, i + k = 10 → k < f → fX3_knowNext_4 sh_L (sh_E kp) fu f 124 (nI s) (nI a) (nI i) D = some (nI (up (fun p a => if s.testBit p then a ||| T p else a) i k a), D) := by
  induction k with
  | zero =>
    intro i f a h1 h2
    obtain ⟨f, rfl⟩ : ∃ g, f = g + 1 := ⟨f - 1, by omega⟩
    rw [fX3_knowNext_4, up_0, i_10, if_pos (nI_le (by omega) (by omega))]
  | succ k ih =>
    intro i f a h1 h2
    obtain ⟨f, rfl⟩ : ∃ g, f = g + 1 := ⟨f - 1, by omega⟩
    rw [fX3_knowNext_4, up_s, i_10, if_neg (nI_ge (by omega) (by omega)), e_isIn _ _ _ _ (by omega) (by omega), bdS, i_0, i_1, addK]
    cases s.testBit i
    · rw [if_pos bF, if_neg (by decide)]
      exact ih (i + 1) f a (by omega) (by omega)
    · rw [if_neg (by decide), if_pos rfl, e_124_6, l_128, gdI (by omega) (by omega), nI_clamp (by omega), hT i (by omega), nI_or]
      exact ih (i + 1) f _ (by omega) (by omega)
theorem e_know (hfu : 30000 ≤ fu) (hT : ∀ p, p < 10 → D 128 p = nI (T p)) {s : Nat} (hs : s < 1024) : fX3_knowNext sh_L (sh_E kp) fu 124 (nI s) D = some (nI (kn T s), D) := by
  rw [fX3_knowNext, i_0]
  exact e_know4 hT hs 10 0 fu s rfl (by omega)
theorem e_told4 (hT : ∀ p, p < 10 → D 167 p = nI (T p)) {s : Nat} (hs : s < 1024) (k : Nat) : ∀ i f a, i + k = 10 → k < f → fX12_toldBy_4 sh_L (sh_E kp) fu f 132 (nI s) (nI a) (nI i) D = some (nI (up (fun p a => if s.testBit p then a ||| T p else a) i k a), D) := by
  induction k with
  | zero =>
    intro i f a h1 h2
    obtain ⟨f, rfl⟩ : ∃ g, f = g + 1 := ⟨f - 1, by omega⟩
    rw [fX12_toldBy_4, up_0, i_10, if_pos (nI_le (by omega) (by omega))]
  | succ k ih =>
    intro i f a h1 h2
    obtain ⟨f, rfl⟩ : ∃ g, f = g + 1 := ⟨f - 1, by omega⟩
    rw [fX12_toldBy_4, up_s, i_10, if_neg (nI_ge (by omega) (by omega)), e_hasM _ _ _ _ _ (by omega) (by omega), bdS, i_0, i_1, addK]
    cases s.testBit i
    · rw [if_pos bF, if_neg (by decide)]
      exact ih (i + 1) f a (by omega) (by omega)
    · rw [if_neg (by decide), if_pos rfl, e_132_60, l_167, gdI (by omega) (by omega), nI_clamp (by omega), hT i (by omega), nI_or]
      exact ih (i + 1) f _ (by omega) (by omega)
theorem e_told (hfu : 30000 ≤ fu) (hT : ∀ p, p < 10 → D 167 p = nI (T p)) {s : Nat} (hs : s < 1024) : fX12_toldBy sh_L (sh_E kp) fu 132 (nI s) D = some (nI (kn T s), D) := by
  rw [fX12_toldBy, i_0]
  exact e_told4 hT hs 10 0 fu s rfl (by omega)
end
/-! ===== told on and on, without somebody ===== -/
def itr (T : Nat → Nat) (w : Nat) : Nat → Nat → Nat
  | 0, s => s
  | k + 1, s => itr T w k (wo (kn T s) w)
def dis (s w : Nat) : Prop := ∀ j, s.testBit j = true → w.testBit j = false
theorem g_sub {T : Nat → Nat} {w s : Nat} (h : dis s w) : ∀ j, s.testBit j = true → (wo (kn T s) w).testBit j = true := fun j hj => by
  rw [wo_bit, (kn_bit T s j).mpr (.inl hj), h j hj]; rfl
theorem g_dis {T : Nat → Nat} {w s : Nat} : dis (wo (kn T s) w) w := fun j hj => by
  rw [wo_bit, Bool.and_eq_true, Bool.not_eq_true'] at hj
  exact hj.2
theorem g_lt {T : Nat → Nat} (hT : TB T) {w s : Nat} (hs : s < 1024) : wo (kn T s) w < 1024 := wo_lt (m := 10) (kn_lt hT hs)
theorem ones_10 {s : Nat} (hs : s < 1024) : ones s ≤ 10 := by
  have := (pc_sub 16 s 1023 fun i hi => by
    have h10 : i < 10 := bit_in (n := 10) hs hi
    have : ∀ i, i < 10 → Nat.testBit 1023 i = true := by decide
    exact this i h10).1
  have e : pc 16 1023 = 10 := by decide
  unfold ones
  omega
theorem ones_lt_of {a b : Nat} (ha : a < 1024) (hb : b < 1024) (h : ∀ j, a.testBit j = true → b.testBit j = true) (hne : a ≠ b) : ones a < ones b := by
  obtain ⟨h1, h2⟩ := pc_sub 16 a b h
  unfold ones
  refine Nat.lt_of_le_of_ne h1 fun e => hne (h2 e (by omega) (by omega))
theorem itr_fix {T : Nat → Nat} {w s : Nat} (h : wo (kn T s) w = s) (k : Nat) : itr T w k s = s := by
  induction k with
  | zero => rfl
  | succ k ih => rw [itr, h, ih]
theorem itr_end {T : Nat → Nat} (hT : TB T) {w : Nat} (k : Nat) : ∀ s, s < 1024 → dis s w → 10 - ones s ≤ k → wo (kn T (itr T w k s)) w = itr T w k s := by
  induction k with
  | zero =>
    intro s hs hd hk
    refine Classical.byContradiction fun hne => ?_
    have := ones_lt_of hs (g_lt hT (w := w) hs) (g_sub hd) (Ne.symm hne)
    have := ones_10 (g_lt hT (w := w) hs)
    omega
  | succ k ih =>
    intro s hs hd hk
    by_cases hf : wo (kn T s) w = s
    · rw [itr_fix hf, hf]
    · have := ones_lt_of hs (g_lt hT (w := w) hs) (g_sub hd) (Ne.symm hf)
      rw [itr]
      exact ih _ (g_lt hT hs) g_dis (by omega)
theorem itr_lt {T : Nat → Nat} (hT : TB T) {w : Nat} (k : Nat) : ∀ s, s < 1024 → itr T w k s < 1024 := by
  induction k with
  | zero => intro s hs; exact hs
  | succ k ih => intro s hs; rw [itr]; exact ih _ (g_lt hT hs)
theorem itr_sup {T : Nat → Nat} {w : Nat} (k : Nat) : ∀ s, dis s w → ∀ j, s.testBit j = true → (itr T w k s).testBit j = true := by
  induction k with
  | zero => intro s _ j hj; exact hj
  | succ k ih => intro s hd j hj; rw [itr]; exact ih _ g_dis j (g_sub hd j hj)
theorem itr_dis {T : Nat → Nat} {w : Nat} (k : Nat) : ∀ s, dis s w → dis (itr T w k s) w := by
  induction k with
  | zero => intro s h; exact h
  | succ k ih => intro s _; rw [itr]; exact ih _ g_dis
theorem itr_min {T : Nat → Nat} {w : Nat} (P : Nat → Prop) (hc : ∀ i j, P i → i < 10 → (T i).testBit j = true → w.testBit j = false → P j) (k : Nat) : ∀ s, (∀ j, s.testBit j = true → P j) → ∀ j, (itr T w k s).testBit j = true → P j := by
  induction k with
  | zero => intro s h j hj; exact h j hj
  | succ k ih =>
    intro s h j hj
    rw [itr] at hj
    refine ih _ (fun j hj => ?_) j hj
    rw [wo_bit, Bool.and_eq_true, Bool.not_eq_true'] at hj
    rcases (kn_bit T s j).mp hj.1 with h1 | ⟨p, h1, h2, h3⟩
    · exact h j h1
    · exact hc p j (h p h2) h1 h3 hj.2
theorem fx_closed {T : Nat → Nat} {w F : Nat} (hF : wo (kn T F) w = F) {i j : Nat} (hi : i < 10) (h1 : F.testBit i = true) (h2 : (T i).testBit j = true) (h3 : w.testBit j = false) : F.testBit j = true := by
  rw [← hF, wo_bit, (kn_bit T F j).mpr (.inr ⟨i, hi, h1, h2⟩), h3]; rfl
section
variable {T : Nat → Nat} (hT : TB T) (hsym : ∀ a b, a < 10 → b < 10 → (T a).testBit b = (T b).testBit a)
/-- y is reached from x without w -/
def rch (T : Nat → Nat) (w x y : Nat) : Prop := (itr T w 10 (2 ^ x)).testBit y = true
theorem pw_dis {w x : Nat} (h : w.testBit x = false) : dis (2 ^ x) w := fun j hj => by
  rw [pw_bit] at hj
  rw [of_decide_eq_true hj]; exact h
theorem rch_fx {T : Nat → Nat} (hT : TB T) {w x : Nat} (hx : x < 10) (hw : w.testBit x = false) : wo (kn T (itr T w 10 (2 ^ x))) w = itr T w 10 (2 ^ x) := itr_end hT 10 _ (pw_10 hx) (pw_dis hw) (by omega)
theorem rch_rf {T : Nat → Nat} {w x : Nat} (hw : w.testBit x = false) : rch T w x x := itr_sup 10 _ (pw_dis hw) x (by rw [pw_bit, decide_eq_true rfl])
theorem rch_lt {T : Nat → Nat} (hT : TB T) {w x y : Nat} (hx : x < 10) (h : rch T w x y) : y < 10 := bit_in (n := 10) (itr_lt hT 10 _ (pw_10 hx)) h
theorem rch_w {T : Nat → Nat} {w x y : Nat} (hw : w.testBit x = false) (h : rch T w x y) : w.testBit y = false := itr_dis 10 _ (pw_dis hw) y h
theorem rch_st {T : Nat → Nat} (hT : TB T) {w x y z : Nat} (hx : x < 10) (hw : w.testBit x = false) (h : rch T w x y) (h2 : (T y).testBit z = true) (h3 : w.testBit z = false) : rch T w x z := fx_closed (rch_fx hT hx hw) (rch_lt hT hx h) h h2 h3
theorem rch_tr {T : Nat → Nat} (hT : TB T) {w x y z : Nat} (hx : x < 10) (hw : w.testBit x = false) (h : rch T w x y) (h2 : rch T w y z) : rch T w x z :=
  itr_min (P := fun z => rch T w x z) (fun i j h1 h2 h3 h4 => rch_st hT hx hw h1 h3 h4) 10 (2 ^ y) (fun j hj => by
    rw [pw_bit] at hj
    rw [of_decide_eq_true hj]; exact h) z h2
theorem rch_sy {T : Nat → Nat} (hT : TB T) (hsym : ∀ a b, a < 10 → b < 10 → (T a).testBit b = (T b).testBit a) {w x y : Nat} (hx : x < 10) (hw : w.testBit x = false) (h : rch T w x y) : rch T w y x := by
  have := itr_min (T := T) (w := w) (P := fun z => z < 10 ∧ w.testBit z = false ∧ rch T w z x) (fun i j h1 h2 h3 h4 => by
    have hj : j < 10 := bit_in (n := 10) (hT i h2) h3
    have h5 : rch T w j i := rch_st hT hj h4 (rch_rf h4) (by rw [hsym j i hj h2]; exact h3) h1.2.1
    exact ⟨hj, h4, rch_tr hT hj h4 h5 h1.2.2⟩) 10 (2 ^ x) (fun j hj => by
    rw [pw_bit] at hj
    rw [of_decide_eq_true hj]
    exact ⟨hx, hw, rch_rf hw⟩) y h
  exact this.2.2
theorem split_eq {T : Nat → Nat} (hT : TB T) (hsym : ∀ a b, a < 10 → b < 10 → (T a).testBit b = (T b).testBit a) (hirr : ∀ a, a < 10 → (T a).testBit a = false) {p u v : Nat} (hp : p < 10) (hu : (T p).testBit u = true) (hv : (wo (itr T 0 10 (2 ^ p)) (2 ^ p)).testBit v = true) : wo (T p) (itr T (2 ^ p) 10 (2 ^ u)) = 0 ↔ itr T (2 ^ p) 10 (2 ^ v) = wo (itr T 0 10 (2 ^ p)) (2 ^ p) := by
  have z0 : ∀ j, Nat.testBit 0 j = false := Nat.zero_testBit
  have hu10 : u < 10 := bit_in (n := 10) (hT p hp) hu
  have hup : u ≠ p := fun e => by rw [e, hirr p hp] at hu; cases hu
  have wu : (2 ^ p).testBit u = false := by rw [pw_bit, decide_eq_false hup]
  have hO : ∀ y, (wo (itr T 0 10 (2 ^ p)) (2 ^ p)).testBit y = true ↔ rch T 0 p y ∧ y ≠ p := fun y => by
    rw [wo_bit, Bool.and_eq_true, Bool.not_eq_true', pw_bit, decide_eq_false_iff_not]
    exact Iff.rfl
  obtain ⟨v1, v2⟩ := (hO v).mp hv
  have hv10 : v < 10 := rch_lt hT hp v1
  have wv : (2 ^ p).testBit v = false := by rw [pw_bit, decide_eq_false v2]
  have hTp : ∀ j, (T p).testBit j = true → rch T 0 p j ∧ j ≠ p := fun j hj => ⟨rch_st hT hp (z0 p) (rch_rf (z0 p)) hj (z0 j), fun e => by rw [e, hirr p hp] at hj; cases hj⟩
  have hsub : wo (T p) (itr T (2 ^ p) 10 (2 ^ u)) = 0 ↔ ∀ j, (T p).testBit j = true → rch T (2 ^ p) u j := by
    constructor
    · intro e j hj
      have := congrArg (fun x => Nat.testBit x j) e
      rw [wo_bit, hj, z0, Bool.true_and, Bool.not_eq_false'] at this
      exact this
    · intro h
      refine ext_bit fun j => ?_
      rw [wo_bit, z0]
      cases hj : (T p).testBit j
      · rfl
      · rw [show (itr T (2 ^ p) 10 (2 ^ u)).testBit j = true from h j hj]; rfl
  rw [hsub]
  constructor
  · intro h
    have OC : ∀ y, rch T 0 p y → y = p ∨ rch T (2 ^ p) u y := itr_min (P := fun y => y = p ∨ rch T (2 ^ p) u y) (fun i j h1 h2 h3 _ => by
      by_cases hj : j = p
      · exact .inl hj
      · rcases h1 with rfl | h1
        · exact .inr (h j h3)
        · exact .inr (rch_st hT hu10 wu h1 h3 (by rw [pw_bit, decide_eq_false hj]))) 10 (2 ^ p) (fun j hj => by
      rw [pw_bit] at hj
      exact .inl (of_decide_eq_true hj))
    have CO : ∀ y, rch T (2 ^ p) u y → rch T 0 p y ∧ y ≠ p := itr_min (P := fun y => rch T 0 p y ∧ y ≠ p) (fun i j h1 h2 h3 h4 => by
      refine ⟨rch_st hT hp (z0 p) h1.1 h3 (z0 j), fun e => ?_⟩
      rw [e, pw_bit, decide_eq_true rfl] at h4
      cases h4) 10 (2 ^ u) (fun j hj => by
      rw [pw_bit] at hj
      rw [of_decide_eq_true hj]
      exact hTp u hu)
    have uv : rch T (2 ^ p) u v := (OC v v1).resolve_left v2
    have vu := rch_sy hT hsym hu10 wu uv
    refine ext_bit fun y => ?_
    have hiff : (itr T (2 ^ p) 10 (2 ^ v)).testBit y = true ↔ (wo (itr T 0 10 (2 ^ p)) (2 ^ p)).testBit y = true := by
      rw [hO]
      constructor
      · intro hy
        exact CO y (rch_tr hT hu10 wu uv hy)
      · rintro ⟨h1, h2⟩
        exact rch_tr hT hv10 wv vu ((OC y h1).resolve_left h2)
    cases h1 : (itr T (2 ^ p) 10 (2 ^ v)).testBit y <;> cases h2 : (wo (itr T 0 10 (2 ^ p)) (2 ^ p)).testBit y <;> simp_all
  · intro e j hj
    have hB : ∀ y, rch T 0 p y ∧ y ≠ p → rch T (2 ^ p) v y := fun y hy => by
      have := (hO y).mpr hy
      rw [← e] at this
      exact this
    have vu := hB u (hTp u hu)
    have vj := hB j (hTp j hj)
    exact rch_tr hT hu10 wu (rch_sy hT hsym hv10 wv vu) vj
end
