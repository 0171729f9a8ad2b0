/-! ===== the start: Inv ===== -/
theorem st_zget {l : List (Nat × Nat)} {D : ev_D} (h : st_zc l D = true) {k n : Nat} (hm : (k, n) ∈ l) (i : Nat) (hi : i < n) : D k i = nI 0 := by
  have := List.all_eq_true.mp (List.all_eq_true.mp h (k, n) hm) i (List.mem_range.mpr hi)
  exact eq_of_beq this
theorem st_vget {l : List (Nat × Nat × Int32)} {D : ev_D} (h : st_dc l D = true) {k i : Nat} {v : Int32} (hm : (k, i, v) ∈ l) : D k i = v := eq_of_beq (List.all_eq_true.mp h (k, i, v) hm)
theorem st_nim : ∀ h, h < 100 → nim h = st_nv.getD h 0 := by
  intro h
  induction h using Nat.strongRecOn with
  | _ h ih =>
    intro hh
    by_cases h0 : h = 0
    · subst h0; rw [nim_0]; rfl
    · obtain ⟨q, -, -⟩ := (nim_p hh).2.resolve_left h0
      have s := st_nv_s (h - 1) (by omega)
      rw [show h - 1 + 1 = h by omega] at s
      rw [q, s, ih (h - 1) (by omega) (by omega), ih (h / 2) (by omega) (by omega)]
theorem st_Inv0 {D : ev_D} (z1 : st_zc st_zl D = true) (z2 : st_zc [(12, 600)] D = true) (z3 : st_zc [(140, 600)] D = true) (z4 : st_zc [(106, 400)] D = true) (z5 : st_zc [(141, 400)] D = true) (n : ((List.range 100).all fun h => D 131 h == nI (st_nv.getD h 0)) = true) (w : ((List.range 152).all fun i => D 142 i == nI (wl.getD i 0)) = true) (v : st_dc st_vl D = true) : Inv 0 D := by
  have b0 : ∀ k, bI k (nI 0) := fun k => bI_n (Nat.zero_le _)
  have e3 := st_zget z1 (k := 3) (n := 7) (by decide)
  have e5 := st_zget z1 (k := 5) (n := 8) (by decide)
  have e6 := st_zget z1 (k := 6) (n := 10) (by decide)
  have e7 := st_zget z1 (k := 7) (n := 10) (by decide)
  have e8 := st_zget z1 (k := 8) (n := 10) (by decide)
  have e9 := st_zget z1 (k := 9) (n := 10) (by decide)
  have e10 := st_zget z1 (k := 10) (n := 10) (by decide)
  have e133 := st_zget z1 (k := 133) (n := 44) (by decide)
  have e136 := st_zget z1 (k := 136) (n := 8) (by decide)
  have e137 := st_zget z1 (k := 137) (n := 10) (by decide)
  have e138 := st_zget z1 (k := 138) (n := 10) (by decide)
  have e139 := st_zget z1 (k := 139) (n := 10) (by decide)
  have e151 := st_zget z1 (k := 151) (n := 10) (by decide)
  have e161 := st_zget z1 (k := 161) (n := 80) (by decide)
  have e163 := st_zget z1 (k := 163) (n := 12) (by decide)
  have e167 := st_zget z1 (k := 167) (n := 10) (by decide)
  have e168 := st_zget z1 (k := 168) (n := 10) (by decide)
  have e38 := st_zget z1 (k := 38) (n := 80) (by decide)
  have e39 := st_zget z1 (k := 39) (n := 10) (by decide)
  have e40 := st_zget z1 (k := 40) (n := 2) (by decide)
  have e12 := st_zget z2 (k := 12) (n := 600) (by decide)
  have e140 := st_zget z3 (k := 140) (n := 600) (by decide)
  have e106 := st_zget z4 (k := 106) (n := 400) (by decide)
  have e141 := st_zget z5 (k := 141) (n := 400) (by decide)
  have V : ∀ (k i : Nat) (x : Int32), (k, i, x) ∈ st_vl → D k i = x := fun k i x hm => st_vget v hm
  have c14 : D 14 0 = nI 0 := V 14 0 0 (by decide)
  have c11 : D 11 0 = nI 0 := V 11 0 0 (by decide)
  have c21 : D 21 0 = nI 0 := V 21 0 0 (by decide)
  have c23 : D 23 0 = nI 0 := V 23 0 0 (by decide)
  have c25 : D 25 0 = nI 0 := V 25 0 0 (by decide)
  have c28 : D 28 0 = nI 0 := V 28 0 0 (by decide)
  have c30 : D 30 0 = nI 0 := V 30 0 0 (by decide)
  have c32 : D 32 0 = nI 0 := V 32 0 0 (by decide)
  have c34 : D 34 0 = nI 0 := V 34 0 0 (by decide)
  have c36 : D 36 0 = nI 0 := V 36 0 0 (by decide)
  have n0 : nv (nI 0) = 0 := nv_n (by decide)
  have e4 : ∀ i, i < 8 → D 4 i = nI 1 := by
    intro i hi
    match i, hi with
    | 0, _ => exact V 4 0 1 (by decide)
    | 1, _ => exact V 4 1 1 (by decide)
    | 2, _ => exact V 4 2 1 (by decide)
    | 3, _ => exact V 4 3 1 (by decide)
    | 4, _ => exact V 4 4 1 (by decide)
    | 5, _ => exact V 4 5 1 (by decide)
    | 6, _ => exact V 4 6 1 (by decide)
    | 7, _ => exact V 4 7 1 (by decide)
  have no : ∀ {P : Nat → Prop} {x : Int32}, x = nI 0 → ∀ i, i < nv x → P i := fun hx i hi => by
    rw [hx, n0] at hi
    exact absurd hi (Nat.not_lt_zero i)
  refine ⟨.inl rfl, ?_, ⟨?_, ?_, ?_, ?_, ?_, ?_, ?_, ?_, ?_, ?_, ?_, ?_, ?_, ?_⟩, ?_, ?_, ?_, ⟨fun _ => V 132 64 0 (by decide), fun e => absurd e (by decide)⟩⟩
  · exact ⟨V 11 1 150 (by decide), V 21 1 16 (by decide), V 23 1 16 (by decide), V 25 1 16 (by decide), V 28 1 10 (by decide), V 30 1 6 (by decide), V 32 1 16 (by decide), V 34 1 24 (by decide), V 36 1 20 (by decide)⟩
  · refine ⟨⟨by rw [e3 5 (by decide)]; exact b0 _, by rw [e3 1 (by decide)]; exact b0 _, by rw [e3 2 (by decide)]; exact b0 _, by rw [e3 3 (by decide)]; exact b0 _, by rw [e3 6 (by decide)]; exact b0 _, fun r _ => by rw [e3 6 (by decide), n0]; exact Nat.zero_testBit r, fun i hi => ⟨0, by decide, e4 i hi⟩, fun r hr => by rw [e6 r hr]; exact b0 _, fun r hr => by rw [e7 r hr]; exact b0 _, fun r hr => by rw [e8 r hr]; exact b0 _, fun r hr => by rw [e9 r hr]; exact b0 _, fun r hr => by rw [e10 r hr]; exact b0 _⟩, by rw [e3 4 (by decide)]; exact b0 _, by rw [c11]; exact b0 _, ?_⟩
    refine ⟨by rw [e133 0 (by decide), e3 4 (by decide)], by rw [e133 1 (by decide), e3 0 (by decide)], by rw [e133 2 (by decide), c11], by rw [e133 3 (by decide), e3 1 (by decide)], by rw [e133 4 (by decide), e3 2 (by decide)], by rw [e133 5 (by decide), e3 3 (by decide)], fun i hi => by rw [e133 _ (by omega), e5 i hi], fun r hr => by rw [e133 _ (by omega), e9 r hr], fun r hr => by rw [e133 _ (by omega), e10 r hr], no (e3 5 (by decide))⟩
  · refine ⟨by rw [V 132 7 0 (by decide), e3 5 (by decide)]; rfl, fun i hi => by rw [e136 i hi, e4 i hi]; rfl, fun r hr => by rw [e137 r hr, e6 r hr], fun r hr => by rw [e138 r hr, e7 r hr], fun r hr => by rw [e139 r hr, e8 r hr]⟩
  · exact fun i hi => by rw [e140 i hi, e12 i hi]
  · refine ⟨by rw [c21]; exact b0 _, by rw [c21]; exact V 132 35 0 (by decide), no c21, fun r hr => by rw [e151 r hr, felt, c21, n0]; rfl⟩
  · exact ⟨by rw [c23]; exact b0 _, by rw [c23]; exact V 132 37 0 (by decide), no c23⟩
  · exact ⟨by rw [c25]; exact b0 _, by rw [c25]; exact V 132 39 0 (by decide), no c25⟩
  · exact ⟨by rw [c28]; exact b0 _, by rw [c28]; exact V 132 45 0 (by decide), no c28⟩
  · exact ⟨by rw [c30]; exact b0 _, by rw [c30]; exact V 132 48 0 (by decide), no c30⟩
  · exact ⟨by rw [c32]; exact b0 _, by rw [c32]; exact V 132 53 0 (by decide), no c32, fun r hr => by rw [e163 r hr, seen, c32, n0]; rfl⟩
  · exact ⟨by rw [c34]; exact b0 _, by rw [c34]; exact V 132 57 0 (by decide), no c34⟩
  · exact ⟨by rw [c36]; exact b0 _, by rw [c36]; exact V 132 59 0 (by decide), no c36, fun r hr => by rw [e167 r hr, tells, c36, n0]; rfl⟩
  · exact fun i hi => ⟨by rw [e161 i hi, e38 i hi], by rw [e38 i hi]; exact b0 _⟩
  · exact fun i hi => ⟨by rw [e168 i hi, e39 i hi], by rw [e39 i hi]; exact ⟨9, by decide, rfl⟩⟩
  · exact ⟨by rw [c14]; exact b0 _, by rw [c14]; exact V 143 0 0 (by decide), no c14⟩
  · exact ⟨by rw [e40 0 (by decide)]; exact b0 _, by rw [e40 1 (by decide)]; exact b0 _, by rw [e40 0 (by decide)]; exact V 132 3 0 (by decide), no (e40 0 (by decide))⟩
  · exact ⟨by rw [V 91 1 0 (by decide)]; exact b0 _, by rw [V 132 13 0 (by decide), V 91 1 0 (by decide)], fun i hi => ⟨by rw [e141 i hi, e106 i hi], by rw [e106 i hi]; exact b0 _⟩, by rw [V 132 33 0 (by decide), V 91 2 0 (by decide)], by rw [V 132 34 (-1) (by decide), V 91 3 (-1) (by decide)]⟩
  · exact ⟨fun h hh => by rw [st_nim h hh]; exact eq_of_beq (List.all_eq_true.mp n h (List.mem_range.mpr hh)), fun i hi => eq_of_beq (List.all_eq_true.mp w i (List.mem_range.mpr hi)), V 100 1 16 (by decide), V 102 1 16 (by decide), V 104 1 16 (by decide), V 121 0 0 (by decide), V 121 1 0 (by decide), V 132 5 0 (by decide), V 132 43 0 (by decide)⟩
theorem st_get {f : ev_S → ev_D → Bool} {v : Int32} {S : ev_S} {D : ev_D} (h : st_R2 = some (v, S, D)) (hf : st_on f = true) : f S D = true := by
  unfold st_on at hf
  rw [h] at hf
  exact hf
theorem st_Inv : ∃ v S D, st_R2 = some (v, S, D) ∧ Inv 0 D ∧ st_c1 170 S = true ∧ st_c2 0 170 S = true ∧ sC S ≤ 200 ∧ sA S ≤ 20000 := by
  cases hr : st_R2 with
  | none =>
    have h := st_o2
    unfold st_on at h
    rw [hr] at h
    cases h
  | some r =>
    obtain ⟨v, S, D⟩ := r
    have o1 := st_get hr st_o1
    rw [Bool.and_eq_true, Bool.and_eq_true] at o1
    have q1 := st_get hr st_z1
    have q2 := st_get hr st_z2
    have q3 := st_get hr st_z3
    have q4 := st_get hr st_z4
    have q5 := st_get hr st_z5
    have q6 := st_get hr st_n
    have q7 := st_get hr st_w
    have q8 := st_get hr st_v
    have q9 := st_get hr st_o2
    have I : Inv 0 D := st_Inv0 q1 q2 q3 q4 q5 q6 q7 q8
    exact ⟨v, S, D, rfl, I, o1.1, q9, of_decide_eq_true o1.2.1, of_decide_eq_true o1.2.2⟩
