/-! ===== together ===== -/
def rgP (H F : Nat → Nat) (i h : Nat) : Prop := ∀ k, k < i → h % H k = F k
/-- hour and step: those that ring so far ring just at hour and by steps -/
def rgI (H F : Nat → Nat) (i hour step : Nat) : Prop := hour < step ∧ step ∣ 27720 ∧ ∀ h, rgP H F i h ↔ h % step = hour
theorem lc_dvd {a b m x : Nat} (ha : 0 < a) (hm : 0 < m) (hb : (m * a) % b = 0) (hmin : ∀ m', 1 ≤ m' → m' < m → (m' * a) % b ≠ 0) (h1 : a ∣ x) (h2 : b ∣ x) : m * a ∣ x := by
  obtain ⟨q, rfl⟩ := h1
  have hq : q % m = 0 := by
    refine Classical.byContradiction fun h => ?_
    refine hmin (q % m) (by omega) (Nat.mod_lt _ hm) ?_
    have e : a * q = (q % m) * a + (m * a) * (q / m) := by
      have := Nat.mod_add_div q m
      calc a * q = a * (q % m + m * (q / m)) := by rw [this]
        _ = (q % m) * a + (m * a) * (q / m) := by rw [Nat.mul_add, Nat.mul_comm a (q % m), ← Nat.mul_assoc, Nat.mul_comm a m]
    have d1 : b ∣ (m * a) * (q / m) := Nat.dvd_trans (Nat.dvd_of_mod_eq_zero hb) ⟨_, rfl⟩
    have d2 : b ∣ (q % m) * a := by
      rw [e] at h2
      exact (Nat.dvd_add_left d1).mp h2
    exact Nat.mod_eq_zero_of_dvd d2
  obtain ⟨c, hc⟩ := Nat.dvd_of_mod_eq_zero hq
  exact ⟨c, by rw [hc, ← Nat.mul_assoc, Nat.mul_comm a m]⟩
theorem rgI_none {H F : Nat → Nat} {i hour step : Nat} (I : rgI H F i hour step) (hH : 0 < H i) (hno : ∀ j, j < H i → (hour + j * step) % H i ≠ F i) (h : Nat) : ¬ rgP H F (i + 1) h := by
  intro hp
  have h1 := (I.2.2 h).mp fun k hk => hp k (by omega)
  have h2 := hp i (by omega)
  have e : h = hour + (h / step) * step := by
    have := Nat.mod_add_div h step
    rw [h1, Nat.mul_comm] at this
    exact this.symm
  refine hno ((h / step) % H i) (Nat.mod_lt _ hH) ?_
  rw [← h2]
  conv => rhs; rw [e]
  have e2 : h / step = (h / step) % H i + H i * (h / step / H i) := (Nat.mod_add_div _ _).symm
  conv => rhs; rw [e2]
  rw [Nat.add_mul, ← Nat.add_assoc, Nat.mul_assoc, Nat.add_mul_mod_self_left]
theorem rgI_next {H F : Nat → Nat} {i hour step J m : Nat} (I : rgI H F i hour step) (hH : 0 < H i) (hH2 : H i ∣ 27720) (hJ : (hour + J * step) % H i = F i) (hJm : ∀ j, j < J → (hour + j * step) % H i ≠ F i) (hm : 0 < m) (hb : (m * step) % H i = 0) (hmin : ∀ m', 1 ≤ m' → m' < m → (m' * step) % H i ≠ 0) : rgI H F (i + 1) (hour + J * step) (m * step) := by
  obtain ⟨I1, I2, I3⟩ := I
  have hs : 0 < step := by omega
  have hJlt : J < m := by
    refine Nat.lt_of_not_le fun hle => hJm (J - m) (by omega) ?_
    rw [← hJ]
    have e : hour + J * step = hour + (J - m) * step + m * step := by
      rw [Nat.add_assoc, ← Nat.add_mul, Nat.sub_add_cancel hle]
    rw [e, Nat.add_mod (hour + (J - m) * step) (m * step), hb, Nat.add_zero, Nat.mod_mod]
  have hlt : hour + J * step < m * step := by
    have : (J + 1) * step ≤ m * step := Nat.mul_le_mul_right _ (by omega)
    rw [Nat.add_mul, Nat.one_mul] at this
    omega
  refine ⟨hlt, lc_dvd hs hm hb hmin I2 hH2, fun h => ⟨fun hp => ?_, fun hp => ?_⟩⟩
  · have h1 := (I3 h).mp fun k hk => hp k (by omega)
    have h2 := hp i (by omega)
    have hour1 : (hour + J * step) % step = hour := by rw [Nat.add_mul_mod_self_right, Nat.mod_eq_of_lt I1]
    by_cases hle : hour + J * step ≤ h
    · have d1 : step ∣ h - (hour + J * step) := Nat.dvd_of_mod_eq_zero (Nat.sub_mod_eq_zero_of_mod_eq (by rw [h1, hour1]))
      have d2 : H i ∣ h - (hour + J * step) := Nat.dvd_of_mod_eq_zero (Nat.sub_mod_eq_zero_of_mod_eq (by rw [h2, hJ]))
      obtain ⟨c, hc⟩ := lc_dvd hs hm hb hmin d1 d2
      have e : h = hour + J * step + m * step * c := by omega
      rw [e, Nat.add_mul_mod_self_left, Nat.mod_eq_of_lt hlt]
    · have d1 : step ∣ (hour + J * step) - h := Nat.dvd_of_mod_eq_zero (Nat.sub_mod_eq_zero_of_mod_eq (by rw [h1, hour1]))
      have d2 : H i ∣ (hour + J * step) - h := Nat.dvd_of_mod_eq_zero (Nat.sub_mod_eq_zero_of_mod_eq (by rw [h2, hJ]))
      have := Nat.le_of_dvd (by omega) (lc_dvd hs hm hb hmin d1 d2)
      omega
  · have e : h = hour + J * step + m * step * (h / (m * step)) := by
      have := Nat.mod_add_div h (m * step)
      rw [hp] at this
      exact this.symm
    intro k hk
    by_cases hki : k = i
    · subst hki
      rw [e, Nat.add_mod, Nat.mul_mod, hb, Nat.zero_mul, Nat.zero_mod, Nat.add_zero, Nat.mod_mod, hJ]
    · refine (I3 h).mpr ?_ k (by omega)
      rw [e, Nat.mul_comm m step, Nat.mul_assoc, Nat.add_mul_mod_self_left, Nat.add_mul_mod_self_right, Nat.mod_eq_of_lt I1]
section
variable {kp fu n : Nat} {H F : Nat → Nat} {D : ev_D}
def rdC (D : ev_D) (n : Nat) (H F : Nat → Nat) : Prop := n ≤ 6 ∧ D 30 0 = nI n ∧ ∀ i, i < n → D 31 (3 * i) = nI (H i) ∧ D 31 (3 * i + 1) = nI (F i) ∧ 0 < H i ∧ H i ≤ 12 ∧ F i < H i
theorem e_rhC (h : rdC D n H F) {i : Nat} (hi : i < n) : fX6_cell sh_L (sh_E kp) fu 30 (nI i) (nI 0) D = some (nI (H i), D) := by
  have := h.1
  rw [e_cell (M := 6) (e_30_2 kp) l_31 (by omega) (by omega) (by omega)]
  show some (D 31 (3 * i), D) = _
  rw [(h.2.2 i hi).1]
theorem e_ringsAt (h : rdC D n H F) {i x : Nat} (hi : i < n) (hx : x < 2 ^ 31) : fX3_ringsAt sh_L (sh_E kp) fu 124 (nI i) (nI x) D = some (nI (if x % H i = F i then 1 else 0), D) := by
  have hn := h.1
  obtain ⟨g1, g2, g3, g4, g5⟩ := h.2.2 i hi
  have hm := Nat.mod_lt x g3
  rw [fX3_ringsAt, e_124_2, e_27_1, i_0, e_rhC h hi, bdS, if_neg (nI_ge g3 (by omega)), gdZ g3 (by omega), i_1, e_cell (M := 6) (e_30_2 kp) l_31 (by omega) (by omega) (by omega), bdS, pk_rem hx g3 (by omega)]
  show (if nI (x % H i) = D 31 (3 * i + 1) then _ else _) = _
  rw [g2]
  by_cases h1 : x % H i = F i
  · rw [if_pos (congrArg nI h1), if_pos h1]
  · rw [if_neg fun e => h1 ((nI_eq (by omega) (by omega)).mp e), if_neg h1]
theorem e_lc4 {a b : Nat} (ha : a ≤ 27720) (hb0 : 0 < b) (hb : b ≤ 12) (k : Nat) : ∀ (m f : Nat), m + k = b → 1 ≤ m → k < f → (∀ m', 1 ≤ m' → m' < m → (m' * a) % b ≠ 0) → ∃ M, 0 < M ∧ M ≤ b ∧ fX3_leastCommon_4 sh_L (sh_E kp) fu f (nI a) (nI b) (nI (m * a)) (nI m) D = some (nI (M * a), D) ∧ (M * a) % b = 0 ∧ ∀ m', 1 ≤ m' → m' < M → (m' * a) % b ≠ 0 := by
  induction k with
  | zero =>
    intro m f h1 h2 h3 h4
    obtain ⟨f, rfl⟩ : ∃ g, f = g + 1 := ⟨f - 1, by omega⟩
    have e : m = b := by omega
    subst e
    exact ⟨m, hb0, Nat.le_refl _, by rw [fX3_leastCommon_4, if_pos (nI_le (Nat.le_refl _) (by omega))], Nat.mul_mod_right m a, h4⟩
  | succ k ih =>
    intro m f h1 h2 h3 h4
    obtain ⟨f, rfl⟩ : ∃ g, f = g + 1 := ⟨f - 1, by omega⟩
    have hma : m * a ≤ 12 * 27720 := Nat.mul_le_mul (by omega) ha
    have hml := Nat.mod_lt (m * a) hb0
    by_cases h5 : (m * a) % b = 0
    · refine ⟨m, by omega, by omega, ?_, h5, h4⟩
      rw [fX3_leastCommon_4, if_neg (nI_ge (by omega) (by omega)), i_0, gdZ hb0 (by omega), pk_rem (by omega) hb0 (by omega), h5, if_pos rfl]
    · obtain ⟨M, M1, M2, M3, M4⟩ := ih (m + 1) f (by omega) (by omega) (by omega) (fun m' q1 q2 => by
        by_cases e : m' = m
        · rw [e]; exact h5
        · exact h4 m' q1 (by omega))
      refine ⟨M, M1, M2, ?_, M4⟩
      rw [fX3_leastCommon_4, if_neg (nI_ge (by omega) (by omega)), i_0, gdZ hb0 (by omega), pk_rem (by omega) hb0 (by omega), if_neg (fun e => h5 ((nI_eq (by omega) (by decide)).mp e)), addK, i_1, addK, ← M3, Nat.add_mul, Nat.one_mul]
theorem e_ft37 (h : rdC D n H F) (K : Nat → Int32 → Int32 → Int32 → ev_D → ev_Op) {i hour step : Nat} (hi : i < n) (hh : hour < 27720) (hs : step ≤ 27720) (k : Nat) : ∀ (j f : Nat), j + k + 1 = H i → k < f → (∀ j', j' < j → (hour + j' * step) % H i ≠ F i) → (∃ J, J < H i ∧ (hour + J * step) % H i = F i ∧ (∀ j', j' < J → (hour + j' * step) % H i ≠ F i) ∧ fX3_firstTogether_37 sh_L (sh_E kp) fu K f 124 (nI (hour + j * step)) (nI step) (nI i) (nI (H i)) (nI (j + 1)) D = fX3_firstTogether_63 sh_L (sh_E kp) fu K 124 (nI (hour + J * step)) (nI step) (nI i) (nI (H i)) D) ∨ ((∀ j', j' < H i → (hour + j' * step) % H i ≠ F i) ∧ fX3_firstTogether_37 sh_L (sh_E kp) fu K f 124 (nI (hour + j * step)) (nI step) (nI i) (nI (H i)) (nI (j + 1)) D = some (mi1, D)) := by
  obtain ⟨g1, g2, g3, g4, g5⟩ := h.2.2 i hi
  have bnd : ∀ j, j ≤ 12 → hour + j * step < 2 ^ 31 := fun j hj => by
    have : j * step ≤ 12 * 27720 := Nat.mul_le_mul hj hs
    omega
  induction k with
  | zero =>
    intro j f h1 h2 h3
    obtain ⟨f, rfl⟩ : ∃ g, f = g + 1 := ⟨f - 1, by omega⟩
    have hr := e_ringsAt (kp := kp) (fu := fu) h hi (bnd j (by omega))
    by_cases h4 : (hour + j * step) % H i = F i
    · refine .inl ⟨j, by omega, h4, h3, ?_⟩
      rw [fX3_firstTogether_37, if_pos (nI_le (by omega) (by omega))]
    · refine .inr ⟨fun j' hj' => ?_, ?_⟩
      · by_cases e : j' = j
        · rw [e]; exact h4
        · exact h3 j' (by omega)
      · rw [if_neg h4] at hr
        rw [fX3_firstTogether_37, if_pos (nI_le (by omega) (by omega)), fX3_firstTogether_63, hr, bdS, i_0, if_pos rfl]; rfl
  | succ k ih =>
    intro j f h1 h2 h3
    obtain ⟨f, rfl⟩ : ∃ g, f = g + 1 := ⟨f - 1, by omega⟩
    have hr := e_ringsAt (kp := kp) (fu := fu) h hi (bnd j (by omega))
    by_cases h4 : (hour + j * step) % H i = F i
    · rw [if_pos h4] at hr
      refine .inl ⟨j, by omega, h4, h3, ?_⟩
      rw [fX3_firstTogether_37, if_neg (nI_ge (by omega) (by omega)), hr, bdS, i_0, if_neg (by decide)]
    · rw [if_neg h4] at hr
      have step1 : fX3_firstTogether_37 sh_L (sh_E kp) fu K (f + 1) 124 (nI (hour + j * step)) (nI step) (nI i) (nI (H i)) (nI (j + 1)) D = fX3_firstTogether_37 sh_L (sh_E kp) fu K f 124 (nI (hour + (j + 1) * step)) (nI step) (nI i) (nI (H i)) (nI (j + 1 + 1)) D := by
        rw [fX3_firstTogether_37, if_neg (nI_ge (by omega) (by omega)), hr, bdS, i_0, if_pos rfl, addK, i_1, addK, Nat.add_mul, Nat.one_mul, Nat.add_assoc]
      rw [step1]
      exact ih (j + 1) f (by omega) (by omega) (fun j' hj' => by
        by_cases e : j' = j
        · rw [e]; exact h4
        · exact h3 j' (by omega))
theorem dvd12 {b : Nat} (h0 : 0 < b) (h : b ≤ 12) : b ∣ 27720 := by
  have : ∀ b, b < 13 → 0 < b → 27720 % b = 0 := by decide
  exact Nat.dvd_of_mod_eq_zero (this b (by omega) h0)
/-- the first hour at which all ring, or none -/
def ftR (H F : Nat → Nat) (n : Nat) (r : Int32) : Prop := (∃ x, r = nI x ∧ x < 27720 ∧ rgP H F n x ∧ ∀ y, rgP H F n y → x ≤ y) ∨ (r = mi1 ∧ ∀ y, ¬ rgP H F n y)
theorem e_ft6 (hfu : 30000 ≤ fu) (h : rdC D n H F) (hn0 : 0 < n) (k : Nat) : ∀ (i f hour step : Nat), i + k = n → k < f → rgI H F i hour step → ∃ r, fX3_firstTogether_6 sh_L (sh_E kp) fu f 124 (nI hour) (nI step) (nI i) D = some (r, D) ∧ ftR H F n r := by
  have hn := h.1
  have en := h.2.1
  induction k with
  | zero =>
    intro i f hour step h1 h2 I
    obtain ⟨f, rfl⟩ : ∃ g, f = g + 1 := ⟨f - 1, by omega⟩
    have e : i = n := by omega
    subst e
    have hs := Nat.le_of_dvd (by decide) I.2.1
    refine ⟨nI hour, ?_, .inl ⟨hour, rfl, by have := I.1; omega, (I.2.2 hour).mpr (Nat.mod_eq_of_lt I.1), fun y hy => ?_⟩⟩
    · rw [fX3_firstTogether_6, e_124_2, e_27_1, en, if_pos (nI_le (Nat.le_refl _) (by omega)), i_0, if_neg (fun e => by have := (nI_eq (by omega) (by decide)).mp e; omega)]
    · rw [← (I.2.2 y).mp hy]
      exact Nat.mod_le _ _
  | succ k ih =>
    intro i f hour step h1 h2 I
    obtain ⟨f, rfl⟩ : ∃ g, f = g + 1 := ⟨f - 1, by omega⟩
    obtain ⟨g1, g2, g3, g4, g5⟩ := h.2.2 i (by omega)
    have hs := Nat.le_of_dvd (by decide) I.2.1
    have hh := I.1
    have start : fX3_firstTogether_6 sh_L (sh_E kp) fu (f + 1) 124 (nI hour) (nI step) (nI i) D = fX3_firstTogether_37 sh_L (sh_E kp) fu (fX3_firstTogether_6 sh_L (sh_E kp) fu f) fu 124 (nI (hour + 0 * step)) (nI step) (nI i) (nI (H i)) (nI (0 + 1)) D := by
      rw [fX3_firstTogether_6, e_124_2, e_27_1, en, if_neg (nI_ge (by omega) (by omega)), i_0, e_rhC h (show i < n by omega), bdS, i_1, Nat.zero_mul, Nat.add_zero, Nat.zero_add]
    rcases e_ft37 (kp := kp) (fu := fu) h (fX3_firstTogether_6 sh_L (sh_E kp) fu f) (hour := hour) (step := step) (show i < n by omega) (by omega) hs (H i - 1) 0 fu (by omega) (by omega) (fun j' hj' => by omega) with ⟨J, J1, J2, J3, J4⟩ | ⟨J1, J2⟩
    · obtain ⟨M, M1, M2, M3, M4, M5⟩ := e_lc4 (kp := kp) (fu := fu) (D := D) hs g3 g4 (H i - 1) 1 fu (by omega) (by omega) (by omega) (fun m' q1 q2 => by omega)
      have I' := rgI_next I g3 (dvd12 g3 g4) J2 J3 M1 M4 M5
      obtain ⟨r, r1, r2⟩ := ih (i + 1) f (hour + J * step) (M * step) (by omega) (by omega) I'
      refine ⟨r, ?_, r2⟩
      have hb : hour + J * step < 2 ^ 31 := by
        have : J * step ≤ 12 * 27720 := Nat.mul_le_mul (by omega) hs
        omega
      have hr := e_ringsAt (kp := kp) (fu := fu) h (show i < n by omega) hb
      rw [if_pos J2] at hr
      rw [Nat.one_mul] at M3
      rw [start, J4, fX3_firstTogether_63, hr, bdS, i_0, if_neg (by decide), fX3_leastCommon, i_1, M3, bdS, addK]
      exact r1
    · refine ⟨mi1, ?_, .inr ⟨rfl, fun y hy => rgI_none I g3 J1 y fun k hk => hy k (by omega)⟩⟩
      rw [start, J2]
theorem e_ringAt4 (h : rdC D n H F) {x : Nat} (hx : x < 2 ^ 31) (k : Nat) : ∀ (i f s : Nat), i + k = n → k < f → fX3_ringAt_4 sh_L (sh_E kp) fu f 124 (nI x) (nI s) (nI i) D = some (nI (up (fun i s => if decide (x % H i = F i) then s + 1 else s) i k s), D) := by
  have hn := h.1
  have en := h.2.1
  induction k with
  | zero =>
    intro i f s h1 h2
    obtain ⟨f, rfl⟩ : ∃ g, f = g + 1 := ⟨f - 1, by omega⟩
    rw [fX3_ringAt_4, e_124_2, e_27_1, en, if_pos (nI_le (by omega) (by omega)), up_0]
  | succ k ih =>
    intro i f s h1 h2
    obtain ⟨f, rfl⟩ : ∃ g, f = g + 1 := ⟨f - 1, by omega⟩
    rw [fX3_ringAt_4, e_124_2, e_27_1, en, if_neg (nI_ge (by omega) (by omega)), e_ringsAt h (show i < n by omega) hx, bdS, i_0, i_1, addK, addK, up_s]
    by_cases h3 : x % H i = F i
    · rw [if_pos h3, if_neg (by decide), decide_eq_true h3, if_pos rfl]
      exact ih (i + 1) f _ (by omega) (by omega)
    · rw [if_neg h3, if_pos rfl, decide_eq_false h3, if_neg (by decide)]
      exact ih (i + 1) f _ (by omega) (by omega)
def rdM (D : ev_D) (n : Nat) (H F : Nat → Nat) : Prop := n ≤ 6 ∧ D 132 48 = nI n ∧ ∀ i, i < n → D 159 i = nI (H i) ∧ D 160 i = nI (F i) ∧ 0 < H i ∧ H i ≤ 12 ∧ F i < H i
theorem e_ringing4 (h : rdM D n H F) {x : Nat} (hx : x < 2 ^ 31) (k : Nat) : ∀ (i f s : Nat), i + k = n → k < f → fX12_ringingAt_4 sh_L (sh_E kp) fu f 132 (nI x) (nI s) (nI i) D = some (nI (up (fun i s => if decide (x % H i = F i) then s + 1 else s) i k s), D) := by
  have hn := h.1
  have en := h.2.1
  induction k with
  | zero =>
    intro i f s h1 h2
    obtain ⟨f, rfl⟩ : ∃ g, f = g + 1 := ⟨f - 1, by omega⟩
    rw [fX12_ringingAt_4, en, if_pos (nI_le (by omega) (by omega)), up_0]
  | succ k ih =>
    intro i f s h1 h2
    obtain ⟨f, rfl⟩ : ∃ g, f = g + 1 := ⟨f - 1, by omega⟩
    obtain ⟨g1, g2, g3, g4, g5⟩ := h.2.2 i (by omega)
    have hm := Nat.mod_lt x g3
    rw [fX12_ringingAt_4, en, if_neg (nI_ge (by omega) (by omega)), e_132_49, e_132_50, l_159, l_160, gdI (by omega) (by omega), nI_clamp (by omega), g1, i_0, gdZ g3 (by omega), gdI (by omega) (by omega), g2, pk_rem hx g3 (by omega), i_1, addK, addK, up_s]
    by_cases h3 : x % H i = F i
    · rw [if_pos (congrArg nI h3), decide_eq_true h3, if_pos rfl]
      exact ih (i + 1) f _ (by omega) (by omega)
    · rw [if_neg (fun e => h3 ((nI_eq (by omega) (by omega)).mp e)), decide_eq_false h3, if_neg (by decide)]
      exact ih (i + 1) f _ (by omega) (by omega)
theorem cnt_full {p : Nat → Bool} {n : Nat} : cnt p n = n ↔ ∀ i, i < n → p i = true := by
  induction n with
  | zero => exact ⟨fun _ i hi => absurd hi (by omega), fun _ => rfl⟩
  | succ n ih =>
    rw [cnt_s]
    have hl := cnt_le p n
    cases hp : p n
    · rw [if_neg (by decide)]
      exact ⟨fun e => by omega, fun h => by rw [h n (by omega)] at hp; cases hp⟩
    · rw [if_pos rfl]
      constructor
      · intro e i hi
        by_cases e2 : i = n
        · rw [e2]; exact hp
        · exact ih.mp (by omega) i (by omega)
      · intro h
        have := ih.mpr fun i hi => h i (by omega)
        omega
theorem e_tog34 (hfu : 30000 ≤ fu) (h : rdM D n H F) (hn0 : 0 < n) {r : Int32} (hr : ftR H F n r) (k : Nat) : ∀ (x f : Nat), x + k = 27720 → k < f → (∀ y, y < x → ¬ rgP H F n y) → fX12_together_34 sh_L (sh_E kp) fu f 132 (nI x) D = some (r, D) := by
  have hn := h.1
  have en := h.2.1
  induction k with
  | zero =>
    intro x f h1 h2 h3
    obtain ⟨f, rfl⟩ : ∃ g, f = g + 1 := ⟨f - 1, by omega⟩
    rw [fX12_together_34, i_27720, if_pos (nI_le (by omega) (by omega))]
    rcases hr with ⟨y, -, hy, py, -⟩ | ⟨rfl, -⟩
    · exact absurd py (h3 y (by omega))
    · rfl
  | succ k ih =>
    intro x f h1 h2 h3
    obtain ⟨f, rfl⟩ : ∃ g, f = g + 1 := ⟨f - 1, by omega⟩
    have hc : fX12_ringingAt sh_L (sh_E kp) fu 132 (nI x) D = some (nI (cnt (fun i => decide (x % H i = F i)) n), D) := by
      rw [fX12_ringingAt, i_0]
      exact e_ringing4 h (by omega) n 0 fu 0 (by omega) (by omega)
    have hl := cnt_le (fun i => decide (x % H i = F i)) n
    rw [fX12_together_34, i_27720, if_neg (nI_ge (by omega) (by omega)), en, i_0, if_neg (nI_ge hn0 (by omega)), hc, bdS, en, i_1, addK]
    by_cases hp : cnt (fun i => decide (x % H i = F i)) n = n
    · have px : rgP H F n x := fun k hk => of_decide_eq_true (cnt_full.mp hp k hk)
      rw [if_pos (congrArg nI hp)]
      rcases hr with ⟨y, rfl, hy, py, my⟩ | ⟨rfl, no⟩
      · have e1 := my x px
        have e2 : ¬ y < x := fun hlt => h3 y hlt py
        rw [show x = y by omega]
      · exact absurd px (no x)
    · rw [if_neg (fun e => hp ((nI_eq (by omega) (by omega)).mp e))]
      refine ih (x + 1) f (by omega) (by omega) fun y hy => ?_
      by_cases e : y = x
      · subst e
        exact fun py => hp (cnt_full.mpr fun i hi => decide_eq_true (py i hi))
      · exact h3 y (by omega)
end
theorem p_together {kp fu : Nat} (hfu : 30000 ≤ fu) (a1 : Int32) (D : ev_D) (h : Inv kp D) : pl kp (fX11_together sh_L (sh_E kp) fu 1 a1) (fX12_together sh_L (sh_E kp) fu 132 a1) D := by
  have h0 := h
  obtain ⟨g0, gM, ⟨gT, gF, gB, gR, gD, gC, gS, gO, gE, gG, gU, gH, gN, gL⟩, gP, gQ, gZ, gK⟩ := h
  obtain ⟨⟨n, hn, en⟩, s2, s3⟩ := gO
  rw [en, nv_n (by omega)] at s3
  rw [en] at s2
  have s4 : ∀ i, i < n → D 31 (3 * i) = nI (nv (D 31 (3 * i))) ∧ D 31 (3 * i + 1) = nI (nv (D 31 (3 * i + 1))) ∧ 0 < nv (D 31 (3 * i)) ∧ nv (D 31 (3 * i)) ≤ 12 ∧ nv (D 31 (3 * i + 1)) < nv (D 31 (3 * i)) := fun i hi => by
    obtain ⟨-, -, x, y, hx, hy, ex, ey⟩ := s3 i hi
    rw [ex, ey, nv_n (by omega), nv_n (by omega)]
    exact ⟨rfl, rfl, by omega, hx, hy⟩
  have hC : rdC D n (fun i => nv (D 31 (3 * i))) (fun i => nv (D 31 (3 * i + 1))) := ⟨hn, en, s4⟩
  have hM : rdM (ev_up D 132 0 (nI 0)) n (fun i => nv (D 31 (3 * i))) (fun i => nv (D 31 (3 * i + 1))) := by
    refine ⟨hn, by simp (disch := omega) only [upA, neF, eqTn, true_and, false_and, and_false, and_true, and_self, reduceIte]; exact s2, fun i hi => ?_⟩
    rw [upN _ _ _ _ (by decide), upN _ _ _ _ (by decide), (s3 i hi).1, (s3 i hi).2.1]
    exact s4 i hi
  by_cases hm : a1 = mi1
  · subst hm
    by_cases hn0 : n = 0
    · subst hn0
      refine pl_mk (r := mi1) (D1 := D) (D2 := ev_up D 132 0 (nI 0)) ?_ ?_ (Inv_s (by repeat (first | exact ex_rf _ _ _ | refine ex_up ?_ rfl)) h0)
      · obtain ⟨g, rfl⟩ : ∃ g, fu = g + 1 := ⟨fu - 1, by omega⟩
        simp (disch := omega) only [fX11_together, fX3_firstTogether, fX3_firstTogether_6, en, ↓mm1, ↓mm9, ↓mm100, ↓mm8, bdS, gdI, gdZ, eq_self, e_within, e_isInM, e_isBell, addK, pk_mul, nI_clamp, ofN, true_and, false_and, and_false, and_true, and_self, ltT, ltF, leT, leF, eqF, m1F, m1F2, m1L, m1L2, m1G, i_0, i_1, i_2, i_3, i_4, i_5, i_6, i_7, i_8, i_9, i_10, i_11, i_12, i_14, i_15, i_16, i_17, i_18, i_19, i_20, i_21, i_23, i_24, i_25, i_26, i_31, i_32, i_34, i_40, i_41, i_42, i_43, i_44, i_45, i_47, i_48, i_57, i_59, i_60, i_61, i_62, i_63, i_65, i_80, i_90, i_97, i_98, i_99, i_100, i_122, i_150, i_151, i_255, i_256, i_258, i_259, i_260, i_261, i_262, i_263, i_271, i_273, i_274, i_275, i_276, i_277, i_281, i_282, i_380, i_400, i_500, i_600, i_800, i_999, i_1000, i_9999, i_10000, i_10100, i_10101, i_10102, i_10103, i_10104, i_10105, i_10106, i_10107, i_10108, i_10109, i_27720, i_65535, i_1664525, i_100000000, i_252645135, i_858993459, i_1013904223, i_1431655765, e_1_0, e_1_1, e_1_2, e_1_3, e_1_4, e_1_5, e_2_0, e_2_1, e_2_2, e_2_3, e_3_7, e_3_8, e_3_9, e_3_10, e_3_11, e_3_12, e_3_13, e_11_2, e_13_0, e_13_1, e_13_2, e_13_3, e_14_2, e_14_3, e_14_4, e_14_5, e_14_6, e_14_7, e_21_2, e_23_2, e_25_2, e_27_0, e_27_1, e_27_2, e_27_3, e_27_4, e_27_5, e_27_6, e_28_2, e_30_2, e_32_2, e_34_2, e_36_2, e_40_2, e_40_3, e_41_0, e_41_1, e_41_2, e_41_3, e_41_4, e_41_5, e_91_0, e_91_4, e_91_5, e_91_6, e_91_7, e_92_0, e_92_1, e_92_2, e_92_3, e_93_2, e_93_3, e_93_4, e_93_5, e_93_6, e_93_7, e_100_2, e_102_2, e_104_2, e_110_0, e_110_1, e_110_2, e_110_3, e_112_0, e_112_1, e_112_2, e_112_3, e_113_7, e_113_8, e_113_9, e_113_10, e_113_11, e_113_12, e_113_13, e_121_2, e_124_0, e_124_1, e_124_2, e_124_3, e_124_4, e_124_5, e_124_6, e_124_7, e_124_8, e_124_9, l_4, l_5, l_6, l_7, l_8, l_9, l_10, l_12, l_15, l_16, l_17, l_18, l_19, l_20, l_22, l_24, l_26, l_29, l_31, l_33, l_35, l_37, l_38, l_39, l_41, l_42, l_94, l_95, l_96, l_97, l_98, l_99, l_101, l_103, l_105, l_106, l_107, l_108, l_109, l_111, l_114, l_115, l_116, l_117, l_118, l_119, l_120, l_123, l_125, l_126, l_127, l_128, l_129, l_130, l_131, e_132_1, e_132_2, e_132_4, e_132_6, e_132_8, e_132_9, e_132_10, e_132_11, e_132_12, e_132_18, e_132_19, e_132_20, e_132_21, e_132_22, e_132_23, e_132_24, e_132_25, e_132_29, e_132_36, e_132_38, e_132_40, e_132_41, e_132_42, e_132_44, e_132_46, e_132_47, e_132_49, e_132_50, e_132_51, e_132_52, e_132_54, e_132_55, e_132_56, e_132_58, e_132_60, e_132_61, e_132_62, e_132_66, l_133, l_134, l_135, l_136, l_137, l_138, l_139, l_140, l_141, l_142, l_143, l_144, l_145, l_146, l_147, l_148, l_149, l_150, l_151, l_152, l_153, l_154, l_155, l_156, l_157, l_158, l_159, l_160, l_161, l_162, l_163, l_164, l_165, l_166, l_167, l_168, l_169, l_170, upA, reduceIte, neF]
      · obtain ⟨g, rfl⟩ : ∃ g, fu = g + 1 := ⟨fu - 1, by omega⟩
        simp (disch := omega) only [fX12_together, fX12_together_34, s2, ↓mm1, ↓mm9, ↓mm100, ↓mm8, bdS, gdI, gdZ, eq_self, e_within, e_isInM, e_isBell, addK, pk_mul, nI_clamp, ofN, true_and, false_and, and_false, and_true, and_self, ltT, ltF, leT, leF, eqF, m1F, m1F2, m1L, m1L2, m1G, i_0, i_1, i_2, i_3, i_4, i_5, i_6, i_7, i_8, i_9, i_10, i_11, i_12, i_14, i_15, i_16, i_17, i_18, i_19, i_20, i_21, i_23, i_24, i_25, i_26, i_31, i_32, i_34, i_40, i_41, i_42, i_43, i_44, i_45, i_47, i_48, i_57, i_59, i_60, i_61, i_62, i_63, i_65, i_80, i_90, i_97, i_98, i_99, i_100, i_122, i_150, i_151, i_255, i_256, i_258, i_259, i_260, i_261, i_262, i_263, i_271, i_273, i_274, i_275, i_276, i_277, i_281, i_282, i_380, i_400, i_500, i_600, i_800, i_999, i_1000, i_9999, i_10000, i_10100, i_10101, i_10102, i_10103, i_10104, i_10105, i_10106, i_10107, i_10108, i_10109, i_27720, i_65535, i_1664525, i_100000000, i_252645135, i_858993459, i_1013904223, i_1431655765, e_1_0, e_1_1, e_1_2, e_1_3, e_1_4, e_1_5, e_2_0, e_2_1, e_2_2, e_2_3, e_3_7, e_3_8, e_3_9, e_3_10, e_3_11, e_3_12, e_3_13, e_11_2, e_13_0, e_13_1, e_13_2, e_13_3, e_14_2, e_14_3, e_14_4, e_14_5, e_14_6, e_14_7, e_21_2, e_23_2, e_25_2, e_27_0, e_27_1, e_27_2, e_27_3, e_27_4, e_27_5, e_27_6, e_28_2, e_30_2, e_32_2, e_34_2, e_36_2, e_40_2, e_40_3, e_41_0, e_41_1, e_41_2, e_41_3, e_41_4, e_41_5, e_91_0, e_91_4, e_91_5, e_91_6, e_91_7, e_92_0, e_92_1, e_92_2, e_92_3, e_93_2, e_93_3, e_93_4, e_93_5, e_93_6, e_93_7, e_100_2, e_102_2, e_104_2, e_110_0, e_110_1, e_110_2, e_110_3, e_112_0, e_112_1, e_112_2, e_112_3, e_113_7, e_113_8, e_113_9, e_113_10, e_113_11, e_113_12, e_113_13, e_121_2, e_124_0, e_124_1, e_124_2, e_124_3, e_124_4, e_124_5, e_124_6, e_124_7, e_124_8, e_124_9, l_4, l_5, l_6, l_7, l_8, l_9, l_10, l_12, l_15, l_16, l_17, l_18, l_19, l_20, l_22, l_24, l_26, l_29, l_31, l_33, l_35, l_37, l_38, l_39, l_41, l_42, l_94, l_95, l_96, l_97, l_98, l_99, l_101, l_103, l_105, l_106, l_107, l_108, l_109, l_111, l_114, l_115, l_116, l_117, l_118, l_119, l_120, l_123, l_125, l_126, l_127, l_128, l_129, l_130, l_131, e_132_1, e_132_2, e_132_4, e_132_6, e_132_8, e_132_9, e_132_10, e_132_11, e_132_12, e_132_18, e_132_19, e_132_20, e_132_21, e_132_22, e_132_23, e_132_24, e_132_25, e_132_29, e_132_36, e_132_38, e_132_40, e_132_41, e_132_42, e_132_44, e_132_46, e_132_47, e_132_49, e_132_50, e_132_51, e_132_52, e_132_54, e_132_55, e_132_56, e_132_58, e_132_60, e_132_61, e_132_62, e_132_66, l_133, l_134, l_135, l_136, l_137, l_138, l_139, l_140, l_141, l_142, l_143, l_144, l_145, l_146, l_147, l_148, l_149, l_150, l_151, l_152, l_153, l_154, l_155, l_156, l_157, l_158, l_159, l_160, l_161, l_162, l_163, l_164, l_165, l_166, l_167, l_168, l_169, l_170, upA, reduceIte, neF]
    · obtain ⟨r, r1, r2⟩ := e_ft6 (kp := kp) (fu := fu) hfu hC (by omega) n 0 fu 0 1 (by omega) (by omega) ⟨by decide, ⟨27720, by decide⟩, fun h => ⟨fun _ => Nat.mod_one h, fun _ k hk => by omega⟩⟩
      refine pl_mk (r := r) (D1 := D) (D2 := ev_up D 132 0 (nI 0)) ?_ ?_ (Inv_s (by repeat (first | exact ex_rf _ _ _ | refine ex_up ?_ rfl)) h0)
      · rw [fX11_together, mm1, if_pos rfl, e_1_5, fX3_firstTogether, i_0, i_1, r1, bdS]
      · rw [fX12_together, mm1, if_pos rfl, i_0]
        exact e_tog34 hfu hM (by omega) r2 27720 0 fu rfl (by omega) (fun y hy => by omega)
  rcases in_or a1 (a := 0) (b := 9999) (by omega) (by omega) with hb | ⟨x, -, hx, rfl⟩
  · apply pl_mk
    · conv => lhs; simp (disch := omega) only [fX11_together, hm, e_within0 _ _ _ _ hb, ↓mm1, ↓mm9, ↓mm100, ↓mm8, bdS, gdI, gdZ, eq_self, e_within, e_isInM, e_isBell, addK, pk_mul, nI_clamp, ofN, true_and, false_and, and_false, and_true, and_self, ltT, ltF, leT, leF, eqF, m1F, m1F2, m1L, m1L2, m1G, i_0, i_1, i_2, i_3, i_4, i_5, i_6, i_7, i_8, i_9, i_10, i_11, i_12, i_14, i_15, i_16, i_17, i_18, i_19, i_20, i_21, i_23, i_24, i_25, i_26, i_31, i_32, i_34, i_40, i_41, i_42, i_43, i_44, i_45, i_47, i_48, i_57, i_59, i_60, i_61, i_62, i_63, i_65, i_80, i_90, i_97, i_98, i_99, i_100, i_122, i_150, i_151, i_255, i_256, i_258, i_259, i_260, i_261, i_262, i_263, i_271, i_273, i_274, i_275, i_276, i_277, i_281, i_282, i_380, i_400, i_500, i_600, i_800, i_999, i_1000, i_9999, i_10000, i_10100, i_10101, i_10102, i_10103, i_10104, i_10105, i_10106, i_10107, i_10108, i_10109, i_27720, i_65535, i_1664525, i_100000000, i_252645135, i_858993459, i_1013904223, i_1431655765, e_1_0, e_1_1, e_1_2, e_1_3, e_1_4, e_1_5, e_2_0, e_2_1, e_2_2, e_2_3, e_3_7, e_3_8, e_3_9, e_3_10, e_3_11, e_3_12, e_3_13, e_11_2, e_13_0, e_13_1, e_13_2, e_13_3, e_14_2, e_14_3, e_14_4, e_14_5, e_14_6, e_14_7, e_21_2, e_23_2, e_25_2, e_27_0, e_27_1, e_27_2, e_27_3, e_27_4, e_27_5, e_27_6, e_28_2, e_30_2, e_32_2, e_34_2, e_36_2, e_40_2, e_40_3, e_41_0, e_41_1, e_41_2, e_41_3, e_41_4, e_41_5, e_91_0, e_91_4, e_91_5, e_91_6, e_91_7, e_92_0, e_92_1, e_92_2, e_92_3, e_93_2, e_93_3, e_93_4, e_93_5, e_93_6, e_93_7, e_100_2, e_102_2, e_104_2, e_110_0, e_110_1, e_110_2, e_110_3, e_112_0, e_112_1, e_112_2, e_112_3, e_113_7, e_113_8, e_113_9, e_113_10, e_113_11, e_113_12, e_113_13, e_121_2, e_124_0, e_124_1, e_124_2, e_124_3, e_124_4, e_124_5, e_124_6, e_124_7, e_124_8, e_124_9, l_4, l_5, l_6, l_7, l_8, l_9, l_10, l_12, l_15, l_16, l_17, l_18, l_19, l_20, l_22, l_24, l_26, l_29, l_31, l_33, l_35, l_37, l_38, l_39, l_41, l_42, l_94, l_95, l_96, l_97, l_98, l_99, l_101, l_103, l_105, l_106, l_107, l_108, l_109, l_111, l_114, l_115, l_116, l_117, l_118, l_119, l_120, l_123, l_125, l_126, l_127, l_128, l_129, l_130, l_131, e_132_1, e_132_2, e_132_4, e_132_6, e_132_8, e_132_9, e_132_10, e_132_11, e_132_12, e_132_18, e_132_19, e_132_20, e_132_21, e_132_22, e_132_23, e_132_24, e_132_25, e_132_29, e_132_36, e_132_38, e_132_40, e_132_41, e_132_42, e_132_44, e_132_46, e_132_47, e_132_49, e_132_50, e_132_51, e_132_52, e_132_54, e_132_55, e_132_56, e_132_58, e_132_60, e_132_61, e_132_62, e_132_66, l_133, l_134, l_135, l_136, l_137, l_138, l_139, l_140, l_141, l_142, l_143, l_144, l_145, l_146, l_147, l_148, l_149, l_150, l_151, l_152, l_153, l_154, l_155, l_156, l_157, l_158, l_159, l_160, l_161, l_162, l_163, l_164, l_165, l_166, l_167, l_168, l_169, l_170, upA, reduceIte, neF]
    · conv => lhs; simp (disch := omega) only [fX12_together, hm, e_isInM0 _ _ _ _ _ hb, ↓mm1, ↓mm9, ↓mm100, ↓mm8, bdS, gdI, gdZ, eq_self, e_within, e_isInM, e_isBell, addK, pk_mul, nI_clamp, ofN, true_and, false_and, and_false, and_true, and_self, ltT, ltF, leT, leF, eqF, m1F, m1F2, m1L, m1L2, m1G, i_0, i_1, i_2, i_3, i_4, i_5, i_6, i_7, i_8, i_9, i_10, i_11, i_12, i_14, i_15, i_16, i_17, i_18, i_19, i_20, i_21, i_23, i_24, i_25, i_26, i_31, i_32, i_34, i_40, i_41, i_42, i_43, i_44, i_45, i_47, i_48, i_57, i_59, i_60, i_61, i_62, i_63, i_65, i_80, i_90, i_97, i_98, i_99, i_100, i_122, i_150, i_151, i_255, i_256, i_258, i_259, i_260, i_261, i_262, i_263, i_271, i_273, i_274, i_275, i_276, i_277, i_281, i_282, i_380, i_400, i_500, i_600, i_800, i_999, i_1000, i_9999, i_10000, i_10100, i_10101, i_10102, i_10103, i_10104, i_10105, i_10106, i_10107, i_10108, i_10109, i_27720, i_65535, i_1664525, i_100000000, i_252645135, i_858993459, i_1013904223, i_1431655765, e_1_0, e_1_1, e_1_2, e_1_3, e_1_4, e_1_5, e_2_0, e_2_1, e_2_2, e_2_3, e_3_7, e_3_8, e_3_9, e_3_10, e_3_11, e_3_12, e_3_13, e_11_2, e_13_0, e_13_1, e_13_2, e_13_3, e_14_2, e_14_3, e_14_4, e_14_5, e_14_6, e_14_7, e_21_2, e_23_2, e_25_2, e_27_0, e_27_1, e_27_2, e_27_3, e_27_4, e_27_5, e_27_6, e_28_2, e_30_2, e_32_2, e_34_2, e_36_2, e_40_2, e_40_3, e_41_0, e_41_1, e_41_2, e_41_3, e_41_4, e_41_5, e_91_0, e_91_4, e_91_5, e_91_6, e_91_7, e_92_0, e_92_1, e_92_2, e_92_3, e_93_2, e_93_3, e_93_4, e_93_5, e_93_6, e_93_7, e_100_2, e_102_2, e_104_2, e_110_0, e_110_1, e_110_2, e_110_3, e_112_0, e_112_1, e_112_2, e_112_3, e_113_7, e_113_8, e_113_9, e_113_10, e_113_11, e_113_12, e_113_13, e_121_2, e_124_0, e_124_1, e_124_2, e_124_3, e_124_4, e_124_5, e_124_6, e_124_7, e_124_8, e_124_9, l_4, l_5, l_6, l_7, l_8, l_9, l_10, l_12, l_15, l_16, l_17, l_18, l_19, l_20, l_22, l_24, l_26, l_29, l_31, l_33, l_35, l_37, l_38, l_39, l_41, l_42, l_94, l_95, l_96, l_97, l_98, l_99, l_101, l_103, l_105, l_106, l_107, l_108, l_109, l_111, l_114, l_115, l_116, l_117, l_118, l_119, l_120, l_123, l_125, l_126, l_127, l_128, l_129, l_130, l_131, e_132_1, e_132_2, e_132_4, e_132_6, e_132_8, e_132_9, e_132_10, e_132_11, e_132_12, e_132_18, e_132_19, e_132_20, e_132_21, e_132_22, e_132_23, e_132_24, e_132_25, e_132_29, e_132_36, e_132_38, e_132_40, e_132_41, e_132_42, e_132_44, e_132_46, e_132_47, e_132_49, e_132_50, e_132_51, e_132_52, e_132_54, e_132_55, e_132_56, e_132_58, e_132_60, e_132_61, e_132_62, e_132_66, l_133, l_134, l_135, l_136, l_137, l_138, l_139, l_140, l_141, l_142, l_143, l_144, l_145, l_146, l_147, l_148, l_149, l_150, l_151, l_152, l_153, l_154, l_155, l_156, l_157, l_158, l_159, l_160, l_161, l_162, l_163, l_164, l_165, l_166, l_167, l_168, l_169, l_170, upA, reduceIte, neF]
    · exact Inv_s (by repeat (first | exact ex_rf _ _ _ | refine ex_up ?_ rfl)) h0
  have e1 := e_ringAt4 (kp := kp) (fu := fu) hC (show x < 2 ^ 31 by omega) n 0 fu 0 (by omega) (by omega)
  have e2 := e_ringing4 (kp := kp) (fu := fu) hM (show x < 2 ^ 31 by omega) n 0 fu 0 (by omega) (by omega)
  refine pl_mk (D1 := D) (D2 := ev_up D 132 0 (nI 0)) ?_ ?_ (Inv_s (by repeat (first | exact ex_rf _ _ _ | refine ex_up ?_ rfl)) h0) (r := nI (up (fun i s => if decide (x % (fun i => nv (D 31 (3 * i))) i = (fun i => nv (D 31 (3 * i + 1))) i) then s + 1 else s) 0 n 0))
  · rw [fX11_together, mm1, if_neg hm, i_0, i_9999, e_within _ _ _ _ (Nat.zero_le _) hx (by decide), bdS, if_neg (by decide), e_1_5, fX3_ringAt, i_0, e1, bdS]
  · rw [fX12_together, mm1, if_neg hm, i_0, i_9999, e_isInM _ _ _ _ _ (Nat.zero_le _) hx (by decide), bdS, if_neg (by decide), fX12_ringingAt, i_0, e2, bdS]
