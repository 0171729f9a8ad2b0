/-! ===== meant ===== -/
theorem xr16 {a b : Nat} (ha : a ≤ 65535) (hb : b ≤ 65535) : a ^^^ b < 65536 := Nat.xor_lt_two_pow (n := 16) (by omega) (by omega)
section
variable {kp fu n : Nat} {sg : Nat → Nat} {D : ev_D}
theorem e_sgC (hn : n ≤ 10) (hs : ∀ i, i < n → D 29 (3 * i) = nI (sg i)) {i : Nat} (hi : i < n) : fX6_cell sh_L (sh_E kp) fu 28 (nI i) (nI 0) D = some (nI (sg i), D) := by
  rw [e_cell (M := 10) (e_28_2 kp) l_29 (by omega) (by omega) (by omega)]
  show some (D 29 (3 * i), D) = _
  rw [hs i hi]
theorem e_near9 {s w : Nat} (hn : n ≤ 10) (en : D 28 0 = nI n) (hs : ∀ i, i < n → D 29 (3 * i) = nI (sg i)) (hs6 : ∀ i, i < n → sg i ≤ 65535) (h6 : s ≤ 65535) (hw : w ≤ 1) (k : Nat) : ∀ (i f b : Nat), i + k = n → k < f → b < n → fX3_nearestSign_9 sh_L (sh_E kp) fu f 124 (nI s) (nI w) (nI b) (nI (ones (sg b ^^^ s))) (nI i) D = some (if w = 0 then D 29 (3 * up (fun k b => if ones (sg b ^^^ s) ≤ ones (sg k ^^^ s) then b else k) i k b + 1) else nI (ones (sg (up (fun k b => if ones (sg b ^^^ s) ≤ ones (sg k ^^^ s) then b else k) i k b) ^^^ s)), D) := by
  induction k with
  | zero =>
    intro i f b h1 h2 hb
    obtain ⟨f, rfl⟩ : ∃ g, f = g + 1 := ⟨f - 1, by omega⟩
    rw [fX3_nearestSign_9, e_124_2, e_27_0, en, if_pos (nI_le (by omega) (by omega)), up_0, if_neg (m1_n (by omega))]
    have hc : w = 0 ∨ w = 1 := by omega
    rcases hc with rfl | rfl
    · rw [i_0, i_1, if_pos rfl, e_cell (M := 10) (e_28_2 kp) l_29 (by omega) (by omega) (by omega), bdS]; rfl
    · rfl
  | succ k ih =>
    intro i f b h1 h2 hb
    obtain ⟨f, rfl⟩ : ∃ g, f = g + 1 := ⟨f - 1, by omega⟩
    have o1 := ones_le (sg b ^^^ s)
    have o2 := ones_le (sg i ^^^ s)
    rw [fX3_nearestSign_9, e_124_2, e_27_0, en, if_neg (nI_ge (by omega) (by omega)), i_0, e_sgC hn hs (show i < n by omega), bdS, nI_xor, e_bitCount _ _ _ (xr16 (hs6 i (by omega)) h6), bdS, up_s, i_1, addK]
    by_cases h3 : ones (sg b ^^^ s) ≤ ones (sg i ^^^ s)
    · rw [if_pos (nI_le h3 (by omega)), if_pos h3]
      exact ih (i + 1) f b (by omega) (by omega) hb
    · rw [if_neg (nI_ge (by omega) (by omega)), if_neg h3]
      exact ih (i + 1) f i (by omega) (by omega) (by omega)
theorem e_meant89 {s w : Nat} (hfu : 30000 ≤ fu) (hn : n ≤ 10) (en : D 132 45 = nI n) (hs : ∀ i, i < n → D 157 i = nI (sg i)) (hs6 : ∀ i, i < n → sg i ≤ 65535) (h6 : s ≤ 65535) (hw : w ≤ 1) (k : Nat) : ∀ (i f b : Nat), i + k = n → k < f → b < n → fX12_meant_89 sh_L (sh_E kp) fu f 132 (nI s) (nI w) (nI b) (nI i) D = some (if w = 0 then D 158 (up (fun k b => if ones (sg b ^^^ s) ≤ ones (sg k ^^^ s) then b else k) i k b) else nI (ones (sg (up (fun k b => if ones (sg b ^^^ s) ≤ ones (sg k ^^^ s) then b else k) i k b) ^^^ s)), D) := by
  induction k with
  | zero =>
    intro i f b h1 h2 hb
    obtain ⟨f, rfl⟩ : ∃ g, f = g + 1 := ⟨f - 1, by omega⟩
    rw [fX12_meant_89, en, if_pos (nI_le (by omega) (by omega)), up_0, e_132_46, e_132_47, l_157, l_158, gdI (by omega) (by omega), gdI (by omega) (by omega), nI_clamp (by omega), hs b hb, nI_xor, e_onesOf _ _ (by omega) _ (xr16 (hs6 b hb) h6), bdS]
    have hc : w = 0 ∨ w = 1 := by omega
    rcases hc with rfl | rfl <;> rfl
  | succ k ih =>
    intro i f b h1 h2 hb
    obtain ⟨f, rfl⟩ : ∃ g, f = g + 1 := ⟨f - 1, by omega⟩
    have o1 := ones_le (sg b ^^^ s)
    have o2 := ones_le (sg i ^^^ s)
    rw [fX12_meant_89, en, if_neg (nI_ge (by omega) (by omega)), e_132_46, l_157, gdI (by omega) (by omega), nI_clamp (by omega), hs i (by omega), nI_xor, e_onesOf _ _ (by omega) _ (xr16 (hs6 i (by omega)) h6), bdS, gdI (by omega) (by omega), nI_clamp (by omega), hs b hb, nI_xor, e_onesOf _ _ (by omega) _ (xr16 (hs6 b hb) h6), bdS, up_s, i_1, addK]
    by_cases h3 : ones (sg b ^^^ s) ≤ ones (sg i ^^^ s)
    · rw [if_pos (nI_le h3 (by omega)), if_pos h3]
      exact ih (i + 1) f b (by omega) (by omega) hb
    · rw [if_neg (nI_ge (by omega) (by omega)), if_neg h3]
      exact ih (i + 1) f i (by omega) (by omega) (by omega)
end
def eC : Option Nat → Int32
  | none => mi1
  | some u => nI u
def eM : Option Nat → Int32
  | none => nI 100000000
  | some u => nI u
def apS (u : Nat) (o : Option Nat) : Option Nat := match o with
  | none => some u
  | some x => some (min x u)
def oB (o : Option Nat) : Prop := ∀ x, o = some x → x ≤ 16
theorem apS_B {u : Nat} {o : Option Nat} (hu : u ≤ 16) (h : oB o) : oB (apS u o) := by
  intro x hx
  cases o with
  | none => cases hx; exact hu
  | some y => cases hx; have := h y rfl; omega
def apI (sg : Nat → Nat) (i : Nat) (o : Option Nat) : Option Nat := up (fun j o => apS (ones (sg i ^^^ sg j)) o) 0 i o
theorem up_oB {W : Nat → Nat} (hW : ∀ j, W j ≤ 16) (i k : Nat) {o : Option Nat} (h : oB o) : oB (up (fun j o => apS (W j) o) i k o) := up_inv (fun _ o => oB o) h fun j _ _ a ha => apS_B (hW j) ha
section
variable {kp fu n : Nat} {sg : Nat → Nat} {D : ev_D}
theorem e_apart20 (hn : n ≤ 10) (hs : ∀ i, i < n → D 29 (3 * i) = nI (sg i)) (hs6 : ∀ i, i < n → sg i ≤ 65535) (K : Nat → Int32 → Int32 → ev_D → ev_Op) {i : Nat} (hi : i < n) (k : Nat) : ∀ (j f : Nat) (o : Option Nat), j + k = i → k < f → oB o → fX3_apart_20 sh_L (sh_E kp) fu K f 124 (eC o) (nI i) (nI j) D = K 124 (eC (up (fun j o => apS (ones (sg i ^^^ sg j)) o) j k o)) (nI (i + 1)) D := by
  induction k with
  | zero =>
    intro j f o h1 h2 ho
    obtain ⟨f, rfl⟩ : ∃ g, f = g + 1 := ⟨f - 1, by omega⟩
    rw [fX3_apart_20, if_pos (nI_le (by omega) (by omega)), up_0, i_1, addK]
  | succ k ih =>
    intro j f o h1 h2 ho
    obtain ⟨f, rfl⟩ : ∃ g, f = g + 1 := ⟨f - 1, by omega⟩
    have o1 := ones_le (sg i ^^^ sg j)
    rw [fX3_apart_20, if_neg (nI_ge (by omega) (by omega)), e_124_2, e_27_0, i_0, e_sgC hn hs hi, bdS, e_sgC hn hs (show j < n by omega), bdS, nI_xor, e_bitCount _ _ _ (xr16 (hs6 i hi) (hs6 j (by omega))), bdS, up_s, mm1, i_1, addK, ← ih (j + 1) f (apS (ones (sg i ^^^ sg j)) o) (by omega) (by omega) (apS_B o1 ho)]
    cases o with
    | none => rw [if_pos (show eC none = mi1 from rfl)]; rfl
    | some x =>
      have hx := ho x rfl
      rw [if_neg (show ¬ eC (some x) = mi1 from m1_n (by omega))]
      show (if nI x ≤ nI (ones (sg i ^^^ sg j)) then fX3_apart_20 sh_L (sh_E kp) fu K f 124 (nI x) (nI i) (nI (j + 1)) D else _) = fX3_apart_20 sh_L (sh_E kp) fu K f 124 (nI (min x (ones (sg i ^^^ sg j)))) (nI i) (nI (j + 1)) D
      by_cases h3 : x ≤ ones (sg i ^^^ sg j)
      · rw [if_pos (nI_le h3 (by omega)), Nat.min_eq_left h3]
      · rw [if_neg (nI_ge (by omega) (by omega)), Nat.min_eq_right (by omega)]
theorem e_apart4 (hfu : 30000 ≤ fu) (hn : n ≤ 10) (en : D 28 0 = nI n) (hs : ∀ i, i < n → D 29 (3 * i) = nI (sg i)) (hs6 : ∀ i, i < n → sg i ≤ 65535) (k : Nat) : ∀ (i f : Nat) (o : Option Nat), i + k = n → k < f → oB o → fX3_apart_4 sh_L (sh_E kp) fu f 124 (eC o) (nI i) D = some (eC (up (apI sg) i k o), D) := by
  induction k with
  | zero =>
    intro i f o h1 h2 ho
    obtain ⟨f, rfl⟩ : ∃ g, f = g + 1 := ⟨f - 1, by omega⟩
    rw [fX3_apart_4, e_124_2, e_27_0, en, if_pos (nI_le (by omega) (by omega)), up_0]
  | succ k ih =>
    intro i f o h1 h2 ho
    obtain ⟨f, rfl⟩ : ∃ g, f = g + 1 := ⟨f - 1, by omega⟩
    rw [fX3_apart_4, e_124_2, e_27_0, en, if_neg (nI_ge (by omega) (by omega)), i_0, e_apart20 hn hs hs6 _ (show i < n by omega) i 0 fu o (by omega) (by omega) ho, up_s]
    exact ih (i + 1) f _ (by omega) (by omega) (up_oB (fun j => ones_le _) _ _ ho)
theorem e_apart16 (hfu : 30000 ≤ fu) (hn : n ≤ 10) (hs : ∀ i, i < n → D 157 i = nI (sg i)) (hs6 : ∀ i, i < n → sg i ≤ 65535) (K : Nat → Int32 → Int32 → ev_D → ev_Op) {i : Nat} (hi : i < n) (k : Nat) : ∀ (j f : Nat) (o : Option Nat), j + k = i → k < f → oB o → fX12_apart_16 sh_L (sh_E kp) fu K f 132 (eM o) (nI i) (nI j) D = K 132 (eM (up (fun j o => apS (ones (sg i ^^^ sg j)) o) j k o)) (nI (i + 1)) D := by
  induction k with
  | zero =>
    intro j f o h1 h2 ho
    obtain ⟨f, rfl⟩ : ∃ g, f = g + 1 := ⟨f - 1, by omega⟩
    rw [fX12_apart_16, if_pos (nI_le (by omega) (by omega)), up_0, i_1, addK]
  | succ k ih =>
    intro j f o h1 h2 ho
    obtain ⟨f, rfl⟩ : ∃ g, f = g + 1 := ⟨f - 1, by omega⟩
    have o1 := ones_le (sg i ^^^ sg j)
    rw [fX12_apart_16, if_neg (nI_ge (by omega) (by omega)), e_132_46, l_157, gdI (by omega) (by omega), gdI (by omega) (by omega), nI_clamp (by omega), nI_clamp (by omega), hs i hi, hs j (by omega), nI_xor, e_onesOf _ _ (by omega) _ (xr16 (hs6 i hi) (hs6 j (by omega))), bdS, up_s, i_1, addK, ← ih (j + 1) f (apS (ones (sg i ^^^ sg j)) o) (by omega) (by omega) (apS_B o1 ho)]
    cases o with
    | none =>
      show ev_bd (fX12_lesser sh_L (sh_E kp) fu 132 (nI 100000000) (nI (ones (sg i ^^^ sg j))) D) _ = _
      rw [e_lesser _ _ _ _ _ (by omega) (by omega), bdS, Nat.min_eq_right (by omega)]; rfl
    | some x =>
      have hx := ho x rfl
      show ev_bd (fX12_lesser sh_L (sh_E kp) fu 132 (nI x) (nI (ones (sg i ^^^ sg j))) D) _ = _
      rw [e_lesser _ _ _ _ _ (by omega) (by omega), bdS]; rfl
theorem e_apart6 (hfu : 30000 ≤ fu) (hn : n ≤ 10) (en : D 132 45 = nI n) (hs : ∀ i, i < n → D 157 i = nI (sg i)) (hs6 : ∀ i, i < n → sg i ≤ 65535) (k : Nat) : ∀ (i f : Nat) (o : Option Nat), i + k = n → k < f → oB o → fX12_apart_6 sh_L (sh_E kp) fu f 132 (eM o) (nI i) D = some (eM (up (apI sg) i k o), D) := by
  induction k with
  | zero =>
    intro i f o h1 h2 ho
    obtain ⟨f, rfl⟩ : ∃ g, f = g + 1 := ⟨f - 1, by omega⟩
    rw [fX12_apart_6, en, if_pos (nI_le (by omega) (by omega)), up_0]
  | succ k ih =>
    intro i f o h1 h2 ho
    obtain ⟨f, rfl⟩ : ∃ g, f = g + 1 := ⟨f - 1, by omega⟩
    rw [fX12_apart_6, en, if_neg (nI_ge (by omega) (by omega)), i_0, e_apart16 hfu hn hs hs6 _ (show i < n by omega) i 0 fu o (by omega) (by omega) ho, up_s]
    exact ih (i + 1) f _ (by omega) (by omega) (up_oB (fun j => ones_le _) _ _ ho)
end
theorem ap_some (sg : Nat → Nat) {n : Nat} (hn : 2 ≤ n) : ∃ u, u ≤ 16 ∧ up (apI sg) 0 n none = some u := by
  have b : oB (up (apI sg) 0 n none) := up_inv (fun _ o => oB o) (fun x hx => by cases hx) fun j _ _ a ha => up_oB (fun j => ones_le _) _ _ ha
  have keep : ∀ (W : Nat → Nat) (i k x : Nat), ∃ y, up (fun j o => apS (W j) o) i k (some x) = some y := by
    intro W i k
    induction k generalizing i with
    | zero => intro x; exact ⟨x, rfl⟩
    | succ k ih => intro x; rw [up_s]; exact ih (i + 1) _
  have k2 : ∀ k i x, ∃ y, up (apI sg) i k (some x) = some y := by
    intro k
    induction k with
    | zero => intro i x; exact ⟨x, rfl⟩
    | succ k ih =>
      intro i x
      rw [up_s]
      obtain ⟨y, ey⟩ := keep (fun j => ones (sg i ^^^ sg j)) 0 i x
      rw [show apI sg i (some x) = some y from ey]
      exact ih (i + 1) y
  obtain ⟨m, rfl⟩ : ∃ m, n = m + 2 := ⟨n - 2, by omega⟩
  obtain ⟨y, ey⟩ := k2 m 2 (ones (sg 1 ^^^ sg 0))
  have e : up (apI sg) 0 (m + 2) none = some y := by
    rw [up_s, up_s]
    exact ey
  exact ⟨y, b y e, e⟩
theorem p_meant {kp fu : Nat} (hfu : 30000 ≤ fu) (a1 a2 : Int32) (D : ev_D) (h : Inv kp D) : pl kp (fX11_meant sh_L (sh_E kp) fu 1 a1 a2) (fX12_meant sh_L (sh_E kp) fu 132 a1 a2) D := by
  have h0 := h
  obtain ⟨g0, gM, ⟨gT, gF, gB, gR, gD, gC, gS, gO, gE, gG, gU, gH, gN, gL⟩, gP, gQ, gZ, gK⟩ := h
  obtain ⟨⟨n, hn, en⟩, s2, s3⟩ := gS
  rw [en, nv_n (by omega)] at s3
  rw [en] at s2
  have hs : ∀ i, i < n → D 29 (3 * i) = nI (nv (D 29 (3 * i))) := fun i hi => (bI_nv (by decide) (s3 i hi).2.2.1).1
  have hs6 : ∀ i, i < n → nv (D 29 (3 * i)) ≤ 65535 := fun i hi => (bI_nv (by decide) (s3 i hi).2.2.1).2
  have hsm : ∀ i, i < n → (ev_up D 132 0 (nI 0)) 157 i = nI (nv (D 29 (3 * i))) := fun i hi => by rw [upN _ _ _ _ (by decide), (s3 i hi).1]; exact hs i hi
  have s2' : (ev_up D 132 0 (nI 0)) 132 45 = nI n := by simp (disch := omega) only [upA, neF, eqTn, true_and, false_and, and_false, and_true, and_self, reduceIte]; exact s2
  have oB0 : oB none := fun x hx => by cases hx
  have E1 := e_apart4 (kp := kp) (fu := fu) (sg := fun i => nv (D 29 (3 * i))) hfu hn en hs hs6 n 0 fu none (by omega) (by omega) oB0
  have E2 := e_apart6 (kp := kp) (fu := fu) (sg := fun i => nv (D 29 (3 * i))) (D := ev_up D 132 0 (nI 0)) hfu hn s2' hsm hs6 n 0 fu none (by omega) (by omega) oB0
  have A1 : fX3_apart sh_L (sh_E kp) fu 124 D = some (eC (up (apI fun i => nv (D 29 (3 * i))) 0 n none), D) := by rw [fX3_apart, i_0]; exact E1
  have A2 : fX12_apart sh_L (sh_E kp) fu 132 (ev_up D 132 0 (nI 0)) = some (eM (up (apI fun i => nv (D 29 (3 * i))) 0 n none), ev_up D 132 0 (nI 0)) := by rw [fX12_apart, i_0, i_100000000]; exact E2
  by_cases h2 : a2 = nI 2
  · subst h2
    by_cases hn2 : 2 ≤ n
    · obtain ⟨u, hu, eu⟩ := ap_some (fun i => nv (D 29 (3 * i))) hn2
      rw [eu] at A1 A2
      refine pl_mk (r := nI u) (D1 := D) (D2 := ev_up D 132 0 (nI 0)) ?_ ?_ (Inv_s (by repeat (first | exact ex_rf _ _ _ | refine ex_up ?_ rfl)) h0)
      · rw [fX11_meant, i_2, if_pos rfl, e_1_5, A1, bdS]; rfl
      · rw [fX12_meant, i_2, if_pos rfl, i_0, fX12_meant_15, s2', i_2, if_pos (nI_le hn2 (by omega)), if_pos rfl, A2, bdS]; rfl
    · have hc : n = 0 ∨ n = 1 := by omega
      refine pl_mk (r := mi1) (D1 := D) (D2 := ev_up D 132 0 (nI 0)) ?_ ?_ (Inv_s (by repeat (first | exact ex_rf _ _ _ | refine ex_up ?_ rfl)) h0)
      · rw [fX11_meant, i_2, if_pos rfl, e_1_5, A1, bdS]
        rcases hc with rfl | rfl <;> rfl
      · rw [fX12_meant, i_2, if_pos rfl, i_0, fX12_meant_15, s2', i_2, if_neg (nI_ge (by omega) (by omega))]; rfl
  by_cases h3 : a2 = nI 3
  · subst h3
    by_cases hn2 : 2 ≤ n
    · obtain ⟨u, hu, eu⟩ := ap_some (fun i => nv (D 29 (3 * i))) hn2
      rw [eu] at A1 A2
      refine pl_mk (r := nI ((u - 1) / 2)) (D1 := D) (D2 := ev_up D 132 0 (nI 0)) ?_ ?_ (Inv_s (by repeat (first | exact ex_rf _ _ _ | refine ex_up ?_ rfl)) h0)
      · rw [fX11_meant, i_2, if_neg h2, i_3, if_pos rfl, e_1_5, fX3_canGoWrong, A1, bdS, if_neg (show ¬ eC (some u) = -1 from m1_n (by omega))]
        show ev_bd (ev_bd (fJ9_floorDiv sh_L (sh_E kp) fu (nI u - nI 1) (nI 2) D) _) _ = _
        by_cases hu0 : u = 0
        · subst hu0
          have ed : fJ9_floorDiv sh_L (sh_E kp) fu (nI 0 - nI 1) (nI 2) D = some (mi1, D) := by
            rw [fJ9_floorDiv, i_0, gdZ (by decide) (by decide), if_neg (by decide), if_neg (by decide)]; rfl
          rw [ed, bdS, i_0, fJ9_max, if_neg (by decide), bdS, bdS]
        · have ed : fJ9_floorDiv sh_L (sh_E kp) fu (nI u - nI 1) (nI 2) D = some (nI ((u - 1) / 2), D) := by
            rw [fJ9_floorDiv, i_0, gdZ (by decide) (by decide), pk_sub (by omega), nI_xor, if_pos (nI_le (Nat.zero_le _) (Nat.xor_lt_two_pow (n := 31) (by omega) (by decide))), pk_div (by omega) (by decide) (by decide)]
          rw [ed, bdS, i_0, e_max _ _ _ _ (by decide) (by omega), bdS, bdS, Nat.zero_max]
      · rw [fX12_meant, i_2, if_neg h2, i_3, if_pos rfl, i_0, fX12_meant_15, s2', i_2, if_pos (nI_le hn2 (by omega)), if_neg h2, A2, bdS]
        show ev_bd (fX12_greater sh_L (sh_E kp) fu 132 (0 : Int32) ((nI u - nI 1) / nI 2) _) _ = _
        by_cases hu0 : u = 0
        · subst hu0
          rw [fX12_greater, if_pos (by decide), bdS]; rfl
        · rw [pk_sub (by omega), pk_div (by omega) (by decide) (by decide), i_0, e_greater _ _ _ _ _ (by decide) (by omega), bdS, Nat.zero_max]
    · have hc : n = 0 ∨ n = 1 := by omega
      refine pl_mk (r := mi1) (D1 := D) (D2 := ev_up D 132 0 (nI 0)) ?_ ?_ (Inv_s (by repeat (first | exact ex_rf _ _ _ | refine ex_up ?_ rfl)) h0)
      · have A3 : fX3_apart sh_L (sh_E kp) fu 124 D = some (mi1, D) := by
          rw [A1]
          rcases hc with rfl | rfl <;> rfl
        rw [fX11_meant, i_2, if_neg h2, i_3, if_pos rfl, e_1_5, fX3_canGoWrong, A3, bdS, if_pos (show mi1 = -1 from rfl), bdS]; rfl
      · rw [fX12_meant, i_2, if_neg h2, i_3, if_pos rfl, i_0, fX12_meant_15, s2', i_2, if_neg (nI_ge (by omega) (by omega))]; rfl
  rcases in_or a1 (a := 0) (b := 65535) (by omega) (by omega) with hb | ⟨s, -, hs5, rfl⟩
  · apply pl_mk
    · conv => lhs; simp (disch := omega) only [fX11_meant, h2, h3, e_within0 _ _ _ _ hb, ↓mm1, ↓mm9, ↓mm100, ↓mm8, bdS, gdI, gdZ, eq_self, e_within, e_isInM, e_isBell, addK, pk_mul, nI_clamp, ofN, true_and, false_and, and_false, and_true, and_self, ltT, ltF, leT, leF, eqF, m1F, m1F2, m1L, m1L2, m1G, i_0, i_1, i_2, i_3, i_4, i_5, i_6, i_7, i_8, i_9, i_10, i_11, i_12, i_14, i_15, i_16, i_17, i_18, i_19, i_20, i_21, i_23, i_24, i_25, i_26, i_31, i_32, i_34, i_40, i_41, i_42, i_43, i_44, i_45, i_47, i_48, i_57, i_59, i_60, i_61, i_62, i_63, i_65, i_80, i_90, i_97, i_98, i_99, i_100, i_122, i_150, i_151, i_255, i_256, i_258, i_259, i_260, i_261, i_262, i_263, i_271, i_273, i_274, i_275, i_276, i_277, i_281, i_282, i_380, i_400, i_500, i_600, i_800, i_999, i_1000, i_9999, i_10000, i_10100, i_10101, i_10102, i_10103, i_10104, i_10105, i_10106, i_10107, i_10108, i_10109, i_27720, i_65535, i_1664525, i_100000000, i_252645135, i_858993459, i_1013904223, i_1431655765, e_1_0, e_1_1, e_1_2, e_1_3, e_1_4, e_1_5, e_2_0, e_2_1, e_2_2, e_2_3, e_3_7, e_3_8, e_3_9, e_3_10, e_3_11, e_3_12, e_3_13, e_11_2, e_13_0, e_13_1, e_13_2, e_13_3, e_14_2, e_14_3, e_14_4, e_14_5, e_14_6, e_14_7, e_21_2, e_23_2, e_25_2, e_27_0, e_27_1, e_27_2, e_27_3, e_27_4, e_27_5, e_27_6, e_28_2, e_30_2, e_32_2, e_34_2, e_36_2, e_40_2, e_40_3, e_41_0, e_41_1, e_41_2, e_41_3, e_41_4, e_41_5, e_91_0, e_91_4, e_91_5, e_91_6, e_91_7, e_92_0, e_92_1, e_92_2, e_92_3, e_93_2, e_93_3, e_93_4, e_93_5, e_93_6, e_93_7, e_100_2, e_102_2, e_104_2, e_110_0, e_110_1, e_110_2, e_110_3, e_112_0, e_112_1, e_112_2, e_112_3, e_113_7, e_113_8, e_113_9, e_113_10, e_113_11, e_113_12, e_113_13, e_121_2, e_124_0, e_124_1, e_124_2, e_124_3, e_124_4, e_124_5, e_124_6, e_124_7, e_124_8, e_124_9, l_4, l_5, l_6, l_7, l_8, l_9, l_10, l_12, l_15, l_16, l_17, l_18, l_19, l_20, l_22, l_24, l_26, l_29, l_31, l_33, l_35, l_37, l_38, l_39, l_41, l_42, l_94, l_95, l_96, l_97, l_98, l_99, l_101, l_103, l_105, l_106, l_107, l_108, l_109, l_111, l_114, l_115, l_116, l_117, l_118, l_119, l_120, l_123, l_125, l_126, l_127, l_128, l_129, l_130, l_131, e_132_1, e_132_2, e_132_4, e_132_6, e_132_8, e_132_9, e_132_10, e_132_11, e_132_12, e_132_18, e_132_19, e_132_20, e_132_21, e_132_22, e_132_23, e_132_24, e_132_25, e_132_29, e_132_36, e_132_38, e_132_40, e_132_41, e_132_42, e_132_44, e_132_46, e_132_47, e_132_49, e_132_50, e_132_51, e_132_52, e_132_54, e_132_55, e_132_56, e_132_58, e_132_60, e_132_61, e_132_62, e_132_66, l_133, l_134, l_135, l_136, l_137, l_138, l_139, l_140, l_141, l_142, l_143, l_144, l_145, l_146, l_147, l_148, l_149, l_150, l_151, l_152, l_153, l_154, l_155, l_156, l_157, l_158, l_159, l_160, l_161, l_162, l_163, l_164, l_165, l_166, l_167, l_168, l_169, l_170, upA, reduceIte, neF]
    · conv => lhs; simp (disch := omega) only [fX12_meant, h2, h3, e_isInM0 _ _ _ _ _ hb, ↓mm1, ↓mm9, ↓mm100, ↓mm8, bdS, gdI, gdZ, eq_self, e_within, e_isInM, e_isBell, addK, pk_mul, nI_clamp, ofN, true_and, false_and, and_false, and_true, and_self, ltT, ltF, leT, leF, eqF, m1F, m1F2, m1L, m1L2, m1G, i_0, i_1, i_2, i_3, i_4, i_5, i_6, i_7, i_8, i_9, i_10, i_11, i_12, i_14, i_15, i_16, i_17, i_18, i_19, i_20, i_21, i_23, i_24, i_25, i_26, i_31, i_32, i_34, i_40, i_41, i_42, i_43, i_44, i_45, i_47, i_48, i_57, i_59, i_60, i_61, i_62, i_63, i_65, i_80, i_90, i_97, i_98, i_99, i_100, i_122, i_150, i_151, i_255, i_256, i_258, i_259, i_260, i_261, i_262, i_263, i_271, i_273, i_274, i_275, i_276, i_277, i_281, i_282, i_380, i_400, i_500, i_600, i_800, i_999, i_1000, i_9999, i_10000, i_10100, i_10101, i_10102, i_10103, i_10104, i_10105, i_10106, i_10107, i_10108, i_10109, i_27720, i_65535, i_1664525, i_100000000, i_252645135, i_858993459, i_1013904223, i_1431655765, e_1_0, e_1_1, e_1_2, e_1_3, e_1_4, e_1_5, e_2_0, e_2_1, e_2_2, e_2_3, e_3_7, e_3_8, e_3_9, e_3_10, e_3_11, e_3_12, e_3_13, e_11_2, e_13_0, e_13_1, e_13_2, e_13_3, e_14_2, e_14_3, e_14_4, e_14_5, e_14_6, e_14_7, e_21_2, e_23_2, e_25_2, e_27_0, e_27_1, e_27_2, e_27_3, e_27_4, e_27_5, e_27_6, e_28_2, e_30_2, e_32_2, e_34_2, e_36_2, e_40_2, e_40_3, e_41_0, e_41_1, e_41_2, e_41_3, e_41_4, e_41_5, e_91_0, e_91_4, e_91_5, e_91_6, e_91_7, e_92_0, e_92_1, e_92_2, e_92_3, e_93_2, e_93_3, e_93_4, e_93_5, e_93_6, e_93_7, e_100_2, e_102_2, e_104_2, e_110_0, e_110_1, e_110_2, e_110_3, e_112_0, e_112_1, e_112_2, e_112_3, e_113_7, e_113_8, e_113_9, e_113_10, e_113_11, e_113_12, e_113_13, e_121_2, e_124_0, e_124_1, e_124_2, e_124_3, e_124_4, e_124_5, e_124_6, e_124_7, e_124_8, e_124_9, l_4, l_5, l_6, l_7, l_8, l_9, l_10, l_12, l_15, l_16, l_17, l_18, l_19, l_20, l_22, l_24, l_26, l_29, l_31, l_33, l_35, l_37, l_38, l_39, l_41, l_42, l_94, l_95, l_96, l_97, l_98, l_99, l_101, l_103, l_105, l_106, l_107, l_108, l_109, l_111, l_114, l_115, l_116, l_117, l_118, l_119, l_120, l_123, l_125, l_126, l_127, l_128, l_129, l_130, l_131, e_132_1, e_132_2, e_132_4, e_132_6, e_132_8, e_132_9, e_132_10, e_132_11, e_132_12, e_132_18, e_132_19, e_132_20, e_132_21, e_132_22, e_132_23, e_132_24, e_132_25, e_132_29, e_132_36, e_132_38, e_132_40, e_132_41, e_132_42, e_132_44, e_132_46, e_132_47, e_132_49, e_132_50, e_132_51, e_132_52, e_132_54, e_132_55, e_132_56, e_132_58, e_132_60, e_132_61, e_132_62, e_132_66, l_133, l_134, l_135, l_136, l_137, l_138, l_139, l_140, l_141, l_142, l_143, l_144, l_145, l_146, l_147, l_148, l_149, l_150, l_151, l_152, l_153, l_154, l_155, l_156, l_157, l_158, l_159, l_160, l_161, l_162, l_163, l_164, l_165, l_166, l_167, l_168, l_169, l_170, upA, reduceIte, neF]
    · exact Inv_s (by repeat (first | exact ex_rf _ _ _ | refine ex_up ?_ rfl)) h0
  rcases in_or a2 (a := 0) (b := 1) (by omega) (by omega) with hb | ⟨w, -, hw, rfl⟩
  · apply pl_mk
    · conv => lhs; simp (disch := omega) only [fX11_meant, h2, h3, e_within0 _ _ _ _ hb, ↓mm1, ↓mm9, ↓mm100, ↓mm8, bdS, gdI, gdZ, eq_self, e_within, e_isInM, e_isBell, addK, pk_mul, nI_clamp, ofN, true_and, false_and, and_false, and_true, and_self, ltT, ltF, leT, leF, eqF, m1F, m1F2, m1L, m1L2, m1G, i_0, i_1, i_2, i_3, i_4, i_5, i_6, i_7, i_8, i_9, i_10, i_11, i_12, i_14, i_15, i_16, i_17, i_18, i_19, i_20, i_21, i_23, i_24, i_25, i_26, i_31, i_32, i_34, i_40, i_41, i_42, i_43, i_44, i_45, i_47, i_48, i_57, i_59, i_60, i_61, i_62, i_63, i_65, i_80, i_90, i_97, i_98, i_99, i_100, i_122, i_150, i_151, i_255, i_256, i_258, i_259, i_260, i_261, i_262, i_263, i_271, i_273, i_274, i_275, i_276, i_277, i_281, i_282, i_380, i_400, i_500, i_600, i_800, i_999, i_1000, i_9999, i_10000, i_10100, i_10101, i_10102, i_10103, i_10104, i_10105, i_10106, i_10107, i_10108, i_10109, i_27720, i_65535, i_1664525, i_100000000, i_252645135, i_858993459, i_1013904223, i_1431655765, e_1_0, e_1_1, e_1_2, e_1_3, e_1_4, e_1_5, e_2_0, e_2_1, e_2_2, e_2_3, e_3_7, e_3_8, e_3_9, e_3_10, e_3_11, e_3_12, e_3_13, e_11_2, e_13_0, e_13_1, e_13_2, e_13_3, e_14_2, e_14_3, e_14_4, e_14_5, e_14_6, e_14_7, e_21_2, e_23_2, e_25_2, e_27_0, e_27_1, e_27_2, e_27_3, e_27_4, e_27_5, e_27_6, e_28_2, e_30_2, e_32_2, e_34_2, e_36_2, e_40_2, e_40_3, e_41_0, e_41_1, e_41_2, e_41_3, e_41_4, e_41_5, e_91_0, e_91_4, e_91_5, e_91_6, e_91_7, e_92_0, e_92_1, e_92_2, e_92_3, e_93_2, e_93_3, e_93_4, e_93_5, e_93_6, e_93_7, e_100_2, e_102_2, e_104_2, e_110_0, e_110_1, e_110_2, e_110_3, e_112_0, e_112_1, e_112_2, e_112_3, e_113_7, e_113_8, e_113_9, e_113_10, e_113_11, e_113_12, e_113_13, e_121_2, e_124_0, e_124_1, e_124_2, e_124_3, e_124_4, e_124_5, e_124_6, e_124_7, e_124_8, e_124_9, l_4, l_5, l_6, l_7, l_8, l_9, l_10, l_12, l_15, l_16, l_17, l_18, l_19, l_20, l_22, l_24, l_26, l_29, l_31, l_33, l_35, l_37, l_38, l_39, l_41, l_42, l_94, l_95, l_96, l_97, l_98, l_99, l_101, l_103, l_105, l_106, l_107, l_108, l_109, l_111, l_114, l_115, l_116, l_117, l_118, l_119, l_120, l_123, l_125, l_126, l_127, l_128, l_129, l_130, l_131, e_132_1, e_132_2, e_132_4, e_132_6, e_132_8, e_132_9, e_132_10, e_132_11, e_132_12, e_132_18, e_132_19, e_132_20, e_132_21, e_132_22, e_132_23, e_132_24, e_132_25, e_132_29, e_132_36, e_132_38, e_132_40, e_132_41, e_132_42, e_132_44, e_132_46, e_132_47, e_132_49, e_132_50, e_132_51, e_132_52, e_132_54, e_132_55, e_132_56, e_132_58, e_132_60, e_132_61, e_132_62, e_132_66, l_133, l_134, l_135, l_136, l_137, l_138, l_139, l_140, l_141, l_142, l_143, l_144, l_145, l_146, l_147, l_148, l_149, l_150, l_151, l_152, l_153, l_154, l_155, l_156, l_157, l_158, l_159, l_160, l_161, l_162, l_163, l_164, l_165, l_166, l_167, l_168, l_169, l_170, upA, reduceIte, neF]
    · conv => lhs; simp (disch := omega) only [fX12_meant, h2, h3, e_isInM0 _ _ _ _ _ hb, ↓mm1, ↓mm9, ↓mm100, ↓mm8, bdS, gdI, gdZ, eq_self, e_within, e_isInM, e_isBell, addK, pk_mul, nI_clamp, ofN, true_and, false_and, and_false, and_true, and_self, ltT, ltF, leT, leF, eqF, m1F, m1F2, m1L, m1L2, m1G, i_0, i_1, i_2, i_3, i_4, i_5, i_6, i_7, i_8, i_9, i_10, i_11, i_12, i_14, i_15, i_16, i_17, i_18, i_19, i_20, i_21, i_23, i_24, i_25, i_26, i_31, i_32, i_34, i_40, i_41, i_42, i_43, i_44, i_45, i_47, i_48, i_57, i_59, i_60, i_61, i_62, i_63, i_65, i_80, i_90, i_97, i_98, i_99, i_100, i_122, i_150, i_151, i_255, i_256, i_258, i_259, i_260, i_261, i_262, i_263, i_271, i_273, i_274, i_275, i_276, i_277, i_281, i_282, i_380, i_400, i_500, i_600, i_800, i_999, i_1000, i_9999, i_10000, i_10100, i_10101, i_10102, i_10103, i_10104, i_10105, i_10106, i_10107, i_10108, i_10109, i_27720, i_65535, i_1664525, i_100000000, i_252645135, i_858993459, i_1013904223, i_1431655765, e_1_0, e_1_1, e_1_2, e_1_3, e_1_4, e_1_5, e_2_0, e_2_1, e_2_2, e_2_3, e_3_7, e_3_8, e_3_9, e_3_10, e_3_11, e_3_12, e_3_13, e_11_2, e_13_0, e_13_1, e_13_2, e_13_3, e_14_2, e_14_3, e_14_4, e_14_5, e_14_6, e_14_7, e_21_2, e_23_2, e_25_2, e_27_0, e_27_1, e_27_2, e_27_3, e_27_4, e_27_5, e_27_6, e_28_2, e_30_2, e_32_2, e_34_2, e_36_2, e_40_2, e_40_3, e_41_0, e_41_1, e_41_2, e_41_3, e_41_4, e_41_5, e_91_0, e_91_4, e_91_5, e_91_6, e_91_7, e_92_0, e_92_1, e_92_2, e_92_3, e_93_2, e_93_3, e_93_4, e_93_5, e_93_6, e_93_7, e_100_2, e_102_2, e_104_2, e_110_0, e_110_1, e_110_2, e_110_3, e_112_0, e_112_1, e_112_2, e_112_3, e_113_7, e_113_8, e_113_9, e_113_10, e_113_11, e_113_12, e_113_13, e_121_2, e_124_0, e_124_1, e_124_2, e_124_3, e_124_4, e_124_5, e_124_6, e_124_7, e_124_8, e_124_9, l_4, l_5, l_6, l_7, l_8, l_9, l_10, l_12, l_15, l_16, l_17, l_18, l_19, l_20, l_22, l_24, l_26, l_29, l_31, l_33, l_35, l_37, l_38, l_39, l_41, l_42, l_94, l_95, l_96, l_97, l_98, l_99, l_101, l_103, l_105, l_106, l_107, l_108, l_109, l_111, l_114, l_115, l_116, l_117, l_118, l_119, l_120, l_123, l_125, l_126, l_127, l_128, l_129, l_130, l_131, e_132_1, e_132_2, e_132_4, e_132_6, e_132_8, e_132_9, e_132_10, e_132_11, e_132_12, e_132_18, e_132_19, e_132_20, e_132_21, e_132_22, e_132_23, e_132_24, e_132_25, e_132_29, e_132_36, e_132_38, e_132_40, e_132_41, e_132_42, e_132_44, e_132_46, e_132_47, e_132_49, e_132_50, e_132_51, e_132_52, e_132_54, e_132_55, e_132_56, e_132_58, e_132_60, e_132_61, e_132_62, e_132_66, l_133, l_134, l_135, l_136, l_137, l_138, l_139, l_140, l_141, l_142, l_143, l_144, l_145, l_146, l_147, l_148, l_149, l_150, l_151, l_152, l_153, l_154, l_155, l_156, l_157, l_158, l_159, l_160, l_161, l_162, l_163, l_164, l_165, l_166, l_167, l_168, l_169, l_170, upA, reduceIte, neF]
    · exact Inv_s (by repeat (first | exact ex_rf _ _ _ | refine ex_up ?_ rfl)) h0
  by_cases hn0 : n = 0
  · subst hn0
    refine pl_mk (r := mi1) (D1 := D) (D2 := ev_up D 132 0 (nI 0)) ?_ ?_ (Inv_s (by repeat (first | exact ex_rf _ _ _ | refine ex_up ?_ rfl)) h0)
    · obtain ⟨g, rfl⟩ : ∃ g, fu = g + 1 := ⟨fu - 1, by omega⟩
      simp (disch := omega) only [fX11_meant, fX3_nearestSign, fX3_nearestSign_9, en, ↓mm1, ↓mm9, ↓mm100, ↓mm8, bdS, gdI, gdZ, eq_self, e_within, e_isInM, e_isBell, addK, pk_mul, nI_clamp, ofN, true_and, false_and, and_false, and_true, and_self, ltT, ltF, leT, leF, eqF, m1F, m1F2, m1L, m1L2, m1G, i_0, i_1, i_2, i_3, i_4, i_5, i_6, i_7, i_8, i_9, i_10, i_11, i_12, i_14, i_15, i_16, i_17, i_18, i_19, i_20, i_21, i_23, i_24, i_25, i_26, i_31, i_32, i_34, i_40, i_41, i_42, i_43, i_44, i_45, i_47, i_48, i_57, i_59, i_60, i_61, i_62, i_63, i_65, i_80, i_90, i_97, i_98, i_99, i_100, i_122, i_150, i_151, i_255, i_256, i_258, i_259, i_260, i_261, i_262, i_263, i_271, i_273, i_274, i_275, i_276, i_277, i_281, i_282, i_380, i_400, i_500, i_600, i_800, i_999, i_1000, i_9999, i_10000, i_10100, i_10101, i_10102, i_10103, i_10104, i_10105, i_10106, i_10107, i_10108, i_10109, i_27720, i_65535, i_1664525, i_100000000, i_252645135, i_858993459, i_1013904223, i_1431655765, e_1_0, e_1_1, e_1_2, e_1_3, e_1_4, e_1_5, e_2_0, e_2_1, e_2_2, e_2_3, e_3_7, e_3_8, e_3_9, e_3_10, e_3_11, e_3_12, e_3_13, e_11_2, e_13_0, e_13_1, e_13_2, e_13_3, e_14_2, e_14_3, e_14_4, e_14_5, e_14_6, e_14_7, e_21_2, e_23_2, e_25_2, e_27_0, e_27_1, e_27_2, e_27_3, e_27_4, e_27_5, e_27_6, e_28_2, e_30_2, e_32_2, e_34_2, e_36_2, e_40_2, e_40_3, e_41_0, e_41_1, e_41_2, e_41_3, e_41_4, e_41_5, e_91_0, e_91_4, e_91_5, e_91_6, e_91_7, e_92_0, e_92_1, e_92_2, e_92_3, e_93_2, e_93_3, e_93_4, e_93_5, e_93_6, e_93_7, e_100_2, e_102_2, e_104_2, e_110_0, e_110_1, e_110_2, e_110_3, e_112_0, e_112_1, e_112_2, e_112_3, e_113_7, e_113_8, e_113_9, e_113_10, e_113_11, e_113_12, e_113_13, e_121_2, e_124_0, e_124_1, e_124_2, e_124_3, e_124_4, e_124_5, e_124_6, e_124_7, e_124_8, e_124_9, l_4, l_5, l_6, l_7, l_8, l_9, l_10, l_12, l_15, l_16, l_17, l_18, l_19, l_20, l_22, l_24, l_26, l_29, l_31, l_33, l_35, l_37, l_38, l_39, l_41, l_42, l_94, l_95, l_96, l_97, l_98, l_99, l_101, l_103, l_105, l_106, l_107, l_108, l_109, l_111, l_114, l_115, l_116, l_117, l_118, l_119, l_120, l_123, l_125, l_126, l_127, l_128, l_129, l_130, l_131, e_132_1, e_132_2, e_132_4, e_132_6, e_132_8, e_132_9, e_132_10, e_132_11, e_132_12, e_132_18, e_132_19, e_132_20, e_132_21, e_132_22, e_132_23, e_132_24, e_132_25, e_132_29, e_132_36, e_132_38, e_132_40, e_132_41, e_132_42, e_132_44, e_132_46, e_132_47, e_132_49, e_132_50, e_132_51, e_132_52, e_132_54, e_132_55, e_132_56, e_132_58, e_132_60, e_132_61, e_132_62, e_132_66, l_133, l_134, l_135, l_136, l_137, l_138, l_139, l_140, l_141, l_142, l_143, l_144, l_145, l_146, l_147, l_148, l_149, l_150, l_151, l_152, l_153, l_154, l_155, l_156, l_157, l_158, l_159, l_160, l_161, l_162, l_163, l_164, l_165, l_166, l_167, l_168, l_169, l_170, upA, reduceIte, neF]
    · simp (disch := omega) only [fX12_meant, s2, ↓mm1, ↓mm9, ↓mm100, ↓mm8, bdS, gdI, gdZ, eq_self, e_within, e_isInM, e_isBell, addK, pk_mul, nI_clamp, ofN, true_and, false_and, and_false, and_true, and_self, ltT, ltF, leT, leF, eqF, m1F, m1F2, m1L, m1L2, m1G, i_0, i_1, i_2, i_3, i_4, i_5, i_6, i_7, i_8, i_9, i_10, i_11, i_12, i_14, i_15, i_16, i_17, i_18, i_19, i_20, i_21, i_23, i_24, i_25, i_26, i_31, i_32, i_34, i_40, i_41, i_42, i_43, i_44, i_45, i_47, i_48, i_57, i_59, i_60, i_61, i_62, i_63, i_65, i_80, i_90, i_97, i_98, i_99, i_100, i_122, i_150, i_151, i_255, i_256, i_258, i_259, i_260, i_261, i_262, i_263, i_271, i_273, i_274, i_275, i_276, i_277, i_281, i_282, i_380, i_400, i_500, i_600, i_800, i_999, i_1000, i_9999, i_10000, i_10100, i_10101, i_10102, i_10103, i_10104, i_10105, i_10106, i_10107, i_10108, i_10109, i_27720, i_65535, i_1664525, i_100000000, i_252645135, i_858993459, i_1013904223, i_1431655765, e_1_0, e_1_1, e_1_2, e_1_3, e_1_4, e_1_5, e_2_0, e_2_1, e_2_2, e_2_3, e_3_7, e_3_8, e_3_9, e_3_10, e_3_11, e_3_12, e_3_13, e_11_2, e_13_0, e_13_1, e_13_2, e_13_3, e_14_2, e_14_3, e_14_4, e_14_5, e_14_6, e_14_7, e_21_2, e_23_2, e_25_2, e_27_0, e_27_1, e_27_2, e_27_3, e_27_4, e_27_5, e_27_6, e_28_2, e_30_2, e_32_2, e_34_2, e_36_2, e_40_2, e_40_3, e_41_0, e_41_1, e_41_2, e_41_3, e_41_4, e_41_5, e_91_0, e_91_4, e_91_5, e_91_6, e_91_7, e_92_0, e_92_1, e_92_2, e_92_3, e_93_2, e_93_3, e_93_4, e_93_5, e_93_6, e_93_7, e_100_2, e_102_2, e_104_2, e_110_0, e_110_1, e_110_2, e_110_3, e_112_0, e_112_1, e_112_2, e_112_3, e_113_7, e_113_8, e_113_9, e_113_10, e_113_11, e_113_12, e_113_13, e_121_2, e_124_0, e_124_1, e_124_2, e_124_3, e_124_4, e_124_5, e_124_6, e_124_7, e_124_8, e_124_9, l_4, l_5, l_6, l_7, l_8, l_9, l_10, l_12, l_15, l_16, l_17, l_18, l_19, l_20, l_22, l_24, l_26, l_29, l_31, l_33, l_35, l_37, l_38, l_39, l_41, l_42, l_94, l_95, l_96, l_97, l_98, l_99, l_101, l_103, l_105, l_106, l_107, l_108, l_109, l_111, l_114, l_115, l_116, l_117, l_118, l_119, l_120, l_123, l_125, l_126, l_127, l_128, l_129, l_130, l_131, e_132_1, e_132_2, e_132_4, e_132_6, e_132_8, e_132_9, e_132_10, e_132_11, e_132_12, e_132_18, e_132_19, e_132_20, e_132_21, e_132_22, e_132_23, e_132_24, e_132_25, e_132_29, e_132_36, e_132_38, e_132_40, e_132_41, e_132_42, e_132_44, e_132_46, e_132_47, e_132_49, e_132_50, e_132_51, e_132_52, e_132_54, e_132_55, e_132_56, e_132_58, e_132_60, e_132_61, e_132_62, e_132_66, l_133, l_134, l_135, l_136, l_137, l_138, l_139, l_140, l_141, l_142, l_143, l_144, l_145, l_146, l_147, l_148, l_149, l_150, l_151, l_152, l_153, l_154, l_155, l_156, l_157, l_158, l_159, l_160, l_161, l_162, l_163, l_164, l_165, l_166, l_167, l_168, l_169, l_170, upA, reduceIte, neF]
  have F1 := e_near9 (kp := kp) (fu := fu) (sg := fun i => nv (D 29 (3 * i))) hn en hs hs6 hs5 hw (n - 1) 1 (fu - 1) 0 (by omega) (by omega) (by omega)
  have F2 := e_meant89 (kp := kp) (fu := fu) (sg := fun i => nv (D 29 (3 * i))) (D := ev_up D 132 0 (nI 0)) hfu hn s2' hsm hs6 hs5 hw (n - 1) 1 fu 0 (by omega) (by omega) (by omega)
  have hB : up (fun k b => if ones (nv (D 29 (3 * b)) ^^^ s) ≤ ones (nv (D 29 (3 * k)) ^^^ s) then b else k) 1 (n - 1) 0 < n := by
    have := up_inv (f := fun k b => if ones (nv (D 29 (3 * b)) ^^^ s) ≤ ones (nv (D 29 (3 * k)) ^^^ s) then b else k) (fun _ b => b < n) (i := 1) (k := n - 1) (a := 0) (by omega) (fun j h1 h2 a ha => by
      show (if _ then a else j) < n
      split
      · exact ha
      · omega)
    exact this
  have hM : D 29 (3 * up (fun k b => if ones (nv (D 29 (3 * b)) ^^^ s) ≤ ones (nv (D 29 (3 * k)) ^^^ s) then b else k) 1 (n - 1) 0 + 1) = (ev_up D 132 0 (nI 0)) 158 (up (fun k b => if ones (nv (D 29 (3 * b)) ^^^ s) ≤ ones (nv (D 29 (3 * k)) ^^^ s) then b else k) 1 (n - 1) 0) := by
    rw [upN _ _ _ _ (by decide), (s3 _ hB).2.1]
  rw [hM] at F1
  refine pl_mk (D1 := D) (D2 := ev_up D 132 0 (nI 0)) ?_ ((?_ : fX12_meant sh_L (sh_E kp) fu 132 (nI s) (nI w) D = _).trans F2) (Inv_s (by repeat (first | exact ex_rf _ _ _ | refine ex_up ?_ rfl)) h0)
  · obtain ⟨g, rfl⟩ : ∃ g, fu = g + 1 := ⟨fu - 1, by omega⟩
    rw [Nat.add_sub_cancel] at F1
    have o1 := ones_le (nv (D 29 (3 * 0)) ^^^ s)
    have e1 : fX3_nearestSign sh_L (sh_E kp) (g + 1) 124 (nI s) (nI w) D = fX3_nearestSign_9 sh_L (sh_E kp) (g + 1) g 124 (nI s) (nI w) (nI 0) (nI (ones (nv (D 29 (3 * 0)) ^^^ s))) (nI 1) D := by
      rw [fX3_nearestSign, i_0, i_17, fX3_nearestSign_9, e_124_2, e_27_0, en, if_neg (nI_ge (by omega) (by omega)), i_0, e_sgC (sg := fun i => nv (D 29 (3 * i))) hn hs (show 0 < n by omega), bdS, nI_xor, e_bitCount _ _ _ (xr16 (hs6 0 (by omega)) hs5), bdS, if_neg (nI_ge (by omega) (by omega)), i_1, addK]
    rw [F1] at e1
    simp (disch := omega) only [fX11_meant, e1, ↓mm1, ↓mm9, ↓mm100, ↓mm8, bdS, gdI, gdZ, eq_self, e_within, e_isInM, e_isBell, addK, pk_mul, nI_clamp, ofN, true_and, false_and, and_false, and_true, and_self, ltT, ltF, leT, leF, eqF, m1F, m1F2, m1L, m1L2, m1G, i_0, i_1, i_2, i_3, i_4, i_5, i_6, i_7, i_8, i_9, i_10, i_11, i_12, i_14, i_15, i_16, i_17, i_18, i_19, i_20, i_21, i_23, i_24, i_25, i_26, i_31, i_32, i_34, i_40, i_41, i_42, i_43, i_44, i_45, i_47, i_48, i_57, i_59, i_60, i_61, i_62, i_63, i_65, i_80, i_90, i_97, i_98, i_99, i_100, i_122, i_150, i_151, i_255, i_256, i_258, i_259, i_260, i_261, i_262, i_263, i_271, i_273, i_274, i_275, i_276, i_277, i_281, i_282, i_380, i_400, i_500, i_600, i_800, i_999, i_1000, i_9999, i_10000, i_10100, i_10101, i_10102, i_10103, i_10104, i_10105, i_10106, i_10107, i_10108, i_10109, i_27720, i_65535, i_1664525, i_100000000, i_252645135, i_858993459, i_1013904223, i_1431655765, e_1_0, e_1_1, e_1_2, e_1_3, e_1_4, e_1_5, e_2_0, e_2_1, e_2_2, e_2_3, e_3_7, e_3_8, e_3_9, e_3_10, e_3_11, e_3_12, e_3_13, e_11_2, e_13_0, e_13_1, e_13_2, e_13_3, e_14_2, e_14_3, e_14_4, e_14_5, e_14_6, e_14_7, e_21_2, e_23_2, e_25_2, e_27_0, e_27_1, e_27_2, e_27_3, e_27_4, e_27_5, e_27_6, e_28_2, e_30_2, e_32_2, e_34_2, e_36_2, e_40_2, e_40_3, e_41_0, e_41_1, e_41_2, e_41_3, e_41_4, e_41_5, e_91_0, e_91_4, e_91_5, e_91_6, e_91_7, e_92_0, e_92_1, e_92_2, e_92_3, e_93_2, e_93_3, e_93_4, e_93_5, e_93_6, e_93_7, e_100_2, e_102_2, e_104_2, e_110_0, e_110_1, e_110_2, e_110_3, e_112_0, e_112_1, e_112_2, e_112_3, e_113_7, e_113_8, e_113_9, e_113_10, e_113_11, e_113_12, e_113_13, e_121_2, e_124_0, e_124_1, e_124_2, e_124_3, e_124_4, e_124_5, e_124_6, e_124_7, e_124_8, e_124_9, l_4, l_5, l_6, l_7, l_8, l_9, l_10, l_12, l_15, l_16, l_17, l_18, l_19, l_20, l_22, l_24, l_26, l_29, l_31, l_33, l_35, l_37, l_38, l_39, l_41, l_42, l_94, l_95, l_96, l_97, l_98, l_99, l_101, l_103, l_105, l_106, l_107, l_108, l_109, l_111, l_114, l_115, l_116, l_117, l_118, l_119, l_120, l_123, l_125, l_126, l_127, l_128, l_129, l_130, l_131, e_132_1, e_132_2, e_132_4, e_132_6, e_132_8, e_132_9, e_132_10, e_132_11, e_132_12, e_132_18, e_132_19, e_132_20, e_132_21, e_132_22, e_132_23, e_132_24, e_132_25, e_132_29, e_132_36, e_132_38, e_132_40, e_132_41, e_132_42, e_132_44, e_132_46, e_132_47, e_132_49, e_132_50, e_132_51, e_132_52, e_132_54, e_132_55, e_132_56, e_132_58, e_132_60, e_132_61, e_132_62, e_132_66, l_133, l_134, l_135, l_136, l_137, l_138, l_139, l_140, l_141, l_142, l_143, l_144, l_145, l_146, l_147, l_148, l_149, l_150, l_151, l_152, l_153, l_154, l_155, l_156, l_157, l_158, l_159, l_160, l_161, l_162, l_163, l_164, l_165, l_166, l_167, l_168, l_169, l_170, upA, reduceIte, neF]
  · simp (disch := omega) only [fX12_meant, s2, ↓mm1, ↓mm9, ↓mm100, ↓mm8, bdS, gdI, gdZ, eq_self, e_within, e_isInM, e_isBell, addK, pk_mul, nI_clamp, ofN, true_and, false_and, and_false, and_true, and_self, ltT, ltF, leT, leF, eqF, m1F, m1F2, m1L, m1L2, m1G, i_0, i_1, i_2, i_3, i_4, i_5, i_6, i_7, i_8, i_9, i_10, i_11, i_12, i_14, i_15, i_16, i_17, i_18, i_19, i_20, i_21, i_23, i_24, i_25, i_26, i_31, i_32, i_34, i_40, i_41, i_42, i_43, i_44, i_45, i_47, i_48, i_57, i_59, i_60, i_61, i_62, i_63, i_65, i_80, i_90, i_97, i_98, i_99, i_100, i_122, i_150, i_151, i_255, i_256, i_258, i_259, i_260, i_261, i_262, i_263, i_271, i_273, i_274, i_275, i_276, i_277, i_281, i_282, i_380, i_400, i_500, i_600, i_800, i_999, i_1000, i_9999, i_10000, i_10100, i_10101, i_10102, i_10103, i_10104, i_10105, i_10106, i_10107, i_10108, i_10109, i_27720, i_65535, i_1664525, i_100000000, i_252645135, i_858993459, i_1013904223, i_1431655765, e_1_0, e_1_1, e_1_2, e_1_3, e_1_4, e_1_5, e_2_0, e_2_1, e_2_2, e_2_3, e_3_7, e_3_8, e_3_9, e_3_10, e_3_11, e_3_12, e_3_13, e_11_2, e_13_0, e_13_1, e_13_2, e_13_3, e_14_2, e_14_3, e_14_4, e_14_5, e_14_6, e_14_7, e_21_2, e_23_2, e_25_2, e_27_0, e_27_1, e_27_2, e_27_3, e_27_4, e_27_5, e_27_6, e_28_2, e_30_2, e_32_2, e_34_2, e_36_2, e_40_2, e_40_3, e_41_0, e_41_1, e_41_2, e_41_3, e_41_4, e_41_5, e_91_0, e_91_4, e_91_5, e_91_6, e_91_7, e_92_0, e_92_1, e_92_2, e_92_3, e_93_2, e_93_3, e_93_4, e_93_5, e_93_6, e_93_7, e_100_2, e_102_2, e_104_2, e_110_0, e_110_1, e_110_2, e_110_3, e_112_0, e_112_1, e_112_2, e_112_3, e_113_7, e_113_8, e_113_9, e_113_10, e_113_11, e_113_12, e_113_13, e_121_2, e_124_0, e_124_1, e_124_2, e_124_3, e_124_4, e_124_5, e_124_6, e_124_7, e_124_8, e_124_9, l_4, l_5, l_6, l_7, l_8, l_9, l_10, l_12, l_15, l_16, l_17, l_18, l_19, l_20, l_22, l_24, l_26, l_29, l_31, l_33, l_35, l_37, l_38, l_39, l_41, l_42, l_94, l_95, l_96, l_97, l_98, l_99, l_101, l_103, l_105, l_106, l_107, l_108, l_109, l_111, l_114, l_115, l_116, l_117, l_118, l_119, l_120, l_123, l_125, l_126, l_127, l_128, l_129, l_130, l_131, e_132_1, e_132_2, e_132_4, e_132_6, e_132_8, e_132_9, e_132_10, e_132_11, e_132_12, e_132_18, e_132_19, e_132_20, e_132_21, e_132_22, e_132_23, e_132_24, e_132_25, e_132_29, e_132_36, e_132_38, e_132_40, e_132_41, e_132_42, e_132_44, e_132_46, e_132_47, e_132_49, e_132_50, e_132_51, e_132_52, e_132_54, e_132_55, e_132_56, e_132_58, e_132_60, e_132_61, e_132_62, e_132_66, l_133, l_134, l_135, l_136, l_137, l_138, l_139, l_140, l_141, l_142, l_143, l_144, l_145, l_146, l_147, l_148, l_149, l_150, l_151, l_152, l_153, l_154, l_155, l_156, l_157, l_158, l_159, l_160, l_161, l_162, l_163, l_164, l_165, l_166, l_167, l_168, l_169, l_170, upA, reduceIte, neF]
