/-! ===== small words for printed functions ===== -/
abbrev ev_Op : Type := Option (Int32 × ev_D)
def ev_gd (b : Bool) (x : ev_Op) : ev_Op := match b with
  | true => x
  | false => none
def ev_bd (x : ev_Op) (k : Int32 → ev_D → ev_Op) : ev_Op := match x with
  | some (v, D) => k v D
  | none => none
theorem ev_gd_s {b : Bool} {x : ev_Op} {r : Int32 × ev_D} (h : ev_gd b x = some r) : b = true ∧ x = some r := by
  cases b
  · cases h
  · exact ⟨rfl, h⟩
theorem ev_bd_s {x : ev_Op} {k : Int32 → ev_D → ev_Op} {r : Int32 × ev_D} (h : ev_bd x k = some r) : ∃ v D, x = some (v, D) ∧ k v D = some r := by
  cases x with
  | none => cases h
  | some p => exact ⟨p.1, p.2, rfl, h⟩
theorem ev_it {c : Prop} {dc : Decidable c} {a b : ev_Op} {r : Int32 × ev_D} (h : c) (hf : (@ite ev_Op c dc a b) = some r) : a = some r := by rwa [if_pos h] at hf
theorem ev_nf {c : Prop} {dc : Decidable c} {a b : ev_Op} {r : Int32 × ev_D} (h : ¬ c) (hf : (@ite ev_Op c dc a b) = some r) : b = some r := by rwa [if_neg h] at hf
theorem ev_gk {S : ev_S} {q c : Nat} {g : Bool} (h : sK S q = c) (hg : g = true) : ((sK S q == c) && g) = true := by rw [hg, h]; simp
theorem ev_gi {S : ev_S} {q n : Nat} {j : Int32} {g : Bool} (h : sK S q = 1) (hi : ev_in j n = true) (hg : g = true) : ((sK S q == 1 && ev_in j n) && g) = true := by rw [hg, h, hi]; rfl
theorem ev_g2 {a g : Bool} (h : a = true) (hg : g = true) : (a && g) = true := by rw [hg, h]; rfl
theorem ev_gz {S : ev_S} {q c : Nat} {a g : Bool} (h : sK S q = c) (ha : a = true) (hg : g = true) : ((sK S q == c && a) && g) = true := by rw [hg, h, ha]; simp
theorem ev_z01 {v : Int32} (h : (v == 0 || v == 1) = true) : v = 0 ∨ v = 1 := by simpa using h
/-- which kind a reference field holds, by the kind of its object; 0: may be null -/
def ev_tf (c i : Nat) : Nat := match c, i with
  | 3, 2 => 1
  | 4, 2 => 1
  | 4, 3 => 1
  | 4, 4 => 1
  | 4, 5 => 1
  | 4, 6 => 1
  | 4, 7 => 1
  | 5, 2 => 2
  | 5, 3 => 1
  | 6, 0 => 12
  | 6, 1 => 10
  | 6, 2 => 11
  | 6, 3 => 1
  | 6, 4 => 1
  | 6, 5 => 1
  | 6, 6 => 1
  | 6, 7 => 1
  | 6, 8 => 1
  | 6, 9 => 1
  | 7, 0 => 10
  | 7, 4 => 1
  | 7, 5 => 1
  | 7, 6 => 1
  | 7, 7 => 1
  | 8, 0 => 12
  | 8, 1 => 3
  | 8, 2 => 10
  | 8, 3 => 1
  | 9, 2 => 1
  | 10, 0 => 4
  | 10, 1 => 9
  | 10, 2 => 9
  | 10, 3 => 9
  | 11, 0 => 9
  | 11, 1 => 9
  | 11, 2 => 9
  | 11, 3 => 9
  | 11, 4 => 9
  | 11, 5 => 1
  | 11, 6 => 1
  | 12, 7 => 1
  | 12, 8 => 1
  | 12, 9 => 1
  | 12, 10 => 1
  | 12, 11 => 1
  | 12, 12 => 1
  | 12, 13 => 1
  | 13, 0 => 12
  | 13, 1 => 3
  | 13, 2 => 10
  | 13, 3 => 11
  | 14, 0 => 13
  | 14, 1 => 5
  | 14, 2 => 7
  | 14, 3 => 8
  | 14, 4 => 8
  | 14, 5 => 6
  | 15, 1 => 1
  | 15, 2 => 1
  | 15, 4 => 1
  | 15, 6 => 1
  | 15, 8 => 1
  | 15, 9 => 1
  | 15, 10 => 1
  | 15, 11 => 1
  | 15, 12 => 1
  | 15, 18 => 1
  | 15, 19 => 1
  | 15, 20 => 1
  | 15, 21 => 1
  | 15, 22 => 1
  | 15, 23 => 1
  | 15, 24 => 1
  | 15, 25 => 1
  | 15, 29 => 1
  | 15, 36 => 1
  | 15, 38 => 1
  | 15, 40 => 1
  | 15, 41 => 1
  | 15, 42 => 1
  | 15, 44 => 1
  | 15, 46 => 1
  | 15, 47 => 1
  | 15, 49 => 1
  | 15, 50 => 1
  | 15, 51 => 1
  | 15, 52 => 1
  | 15, 54 => 1
  | 15, 55 => 1
  | 15, 56 => 1
  | 15, 58 => 1
  | 15, 60 => 1
  | 15, 61 => 1
  | 15, 62 => 1
  | 15, 66 => 1
  | 2, 0 => 12
  | 2, 1 => 12
  | 2, 2 => 12
  | 2, 3 => 12
  | 2, 4 => 12
  | 2, 5 => 12
  | _, _ => 0
def ev_Ty (S : ev_S) : Prop := ∀ k i, 0 < ev_tf (sK S k) i → sK S (sE S k i) = ev_tf (sK S k) i
theorem ev_tyk {S : ev_S} (hT : ev_Ty S) {t c i w : Nat} (h : sK S t = c) (hw : ev_tf c i = w) (h0 : Nat.blt 0 w = true) : sK S (sE S t i) = w := by
  have h1 := hT t i
  rw [h, hw] at h1
  exact h1 (Nat.le_of_ble_eq_true h0)
theorem ev_ty2 {S : ev_S} (hT : ev_Ty S) {q : Nat} {j : Int32} (h : sK S q = 2) (h6 : ev_in j 6 = true) : sK S (sE S q j.toNatClampNeg) = 12 := by
  simp only [ev_in, Bool.and_eq_true, decide_eq_true_eq] at h6
  have h7 := h6.2
  generalize j.toNatClampNeg = i at h7 ⊢
  match i, h7 with
  | 0, _ => exact ev_tyk hT h rfl rfl
  | 1, _ => exact ev_tyk hT h rfl rfl
  | 2, _ => exact ev_tyk hT h rfl rfl
  | 3, _ => exact ev_tyk hT h rfl rfl
  | 4, _ => exact ev_tyk hT h rfl rfl
  | 5, _ => exact ev_tyk hT h rfl rfl
  | i + 6, h => omega
