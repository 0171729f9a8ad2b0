/-! ===== the reference's image: what it keeps, in its order ===== -/
def lcF (j : Nat) : Nat := if j = 0 then 7 else if j = 1 then 35 else if j = 2 then 37 else if j = 3 then 39 else if j = 4 then 45 else if j = 5 then 48 else if j = 6 then 53 else if j = 7 then 57 else 59
def lcR (j : Nat) : Nat := if j = 0 then 137 else if j = 1 then 138 else if j = 2 then 139 else if j = 3 then 151 else if j = 4 then 157 else if j = 5 then 158 else if j = 6 then 167 else 168
def lcK (j : Nat) : Nat := if j < 44 then 133 else if j < 53 then 132 else if j < 61 then 136 else if j < 141 then lcR ((j - 61) % 8) else if j < 153 then 159 + (j - 141) % 2 else if j < 165 then 163 else if j < 189 then 166 else if j < 269 then 161 else if j < 285 then 153 else if j < 333 then 152 else if j < 933 then 140 else if j < 934 then 143 else if j < 998 then 144 + (j - 934) % 4 else 148 + (j - 998) % 2
def lcI (j : Nat) : Nat := if j < 44 then j else if j < 53 then lcF (j - 44) else if j < 61 then j - 53 else if j < 141 then (j - 61) / 8 else if j < 153 then (j - 141) / 2 else if j < 165 then j - 153 else if j < 189 then j - 165 else if j < 269 then j - 189 else if j < 285 then j - 269 else if j < 333 then j - 285 else if j < 933 then j - 333 else if j < 934 then 0 else if j < 998 then (j - 934) / 4 else (j - 998) / 2
set_option maxRecDepth 100000 in
theorem lc_ips : ∀ j, j < 1798 → ips (lcK j) (lcI j) = j := by decide +kernel
set_option maxRecDepth 100000 in
theorem lc_keepsLaw_96_0 : ∀ i, i < 400 → lcK (998 + 2 * i + 0) = 148 ∧ lcI (998 + 2 * i + 0) = i := by decide +kernel
set_option maxRecDepth 100000 in
theorem lc_keepsLaw_96_1 : ∀ i, i < 400 → lcK (998 + 2 * i + 1) = 149 ∧ lcI (998 + 2 * i + 1) = i := by decide +kernel
set_option maxRecDepth 100000 in
theorem lc_keepsLaw_18_0 : ∀ i, i < 16 → lcK (934 + 4 * i + 0) = 144 ∧ lcI (934 + 4 * i + 0) = i := by decide +kernel
set_option maxRecDepth 100000 in
theorem lc_keepsLaw_18_1 : ∀ i, i < 16 → lcK (934 + 4 * i + 1) = 145 ∧ lcI (934 + 4 * i + 1) = i := by decide +kernel
set_option maxRecDepth 100000 in
theorem lc_keepsLaw_18_2 : ∀ i, i < 16 → lcK (934 + 4 * i + 2) = 146 ∧ lcI (934 + 4 * i + 2) = i := by decide +kernel
set_option maxRecDepth 100000 in
theorem lc_keepsLaw_18_3 : ∀ i, i < 16 → lcK (934 + 4 * i + 3) = 147 ∧ lcI (934 + 4 * i + 3) = i := by decide +kernel
set_option maxRecDepth 100000 in
theorem lc_keepsTold_340_0 : ∀ i, i < 48 → lcK (285 + 1 * i + 0) = 152 ∧ lcI (285 + 1 * i + 0) = i := by decide +kernel
set_option maxRecDepth 100000 in
theorem lc_keepsTold_310_0 : ∀ i, i < 16 → lcK (269 + 1 * i + 0) = 153 ∧ lcI (269 + 1 * i + 0) = i := by decide +kernel
set_option maxRecDepth 100000 in
theorem lc_keepsTold_280_0 : ∀ i, i < 80 → lcK (189 + 1 * i + 0) = 161 ∧ lcI (189 + 1 * i + 0) = i := by decide +kernel
set_option maxRecDepth 100000 in
theorem lc_keepsTold_250_0 : ∀ i, i < 24 → lcK (165 + 1 * i + 0) = 166 ∧ lcI (165 + 1 * i + 0) = i := by decide +kernel
set_option maxRecDepth 100000 in
theorem lc_keepsTold_220_0 : ∀ i, i < 12 → lcK (153 + 1 * i + 0) = 163 ∧ lcI (153 + 1 * i + 0) = i := by decide +kernel
set_option maxRecDepth 100000 in
theorem lc_keepsTold_174_0 : ∀ i, i < 6 → lcK (141 + 2 * i + 0) = 159 ∧ lcI (141 + 2 * i + 0) = i := by decide +kernel
set_option maxRecDepth 100000 in
theorem lc_keepsTold_174_1 : ∀ i, i < 6 → lcK (141 + 2 * i + 1) = 160 ∧ lcI (141 + 2 * i + 1) = i := by decide +kernel
set_option maxRecDepth 100000 in
theorem lc_keepsTold_32_0 : ∀ i, i < 10 → lcK (61 + 8 * i + 0) = 137 ∧ lcI (61 + 8 * i + 0) = i := by decide +kernel
set_option maxRecDepth 100000 in
theorem lc_keepsTold_32_1 : ∀ i, i < 10 → lcK (61 + 8 * i + 1) = 138 ∧ lcI (61 + 8 * i + 1) = i := by decide +kernel
set_option maxRecDepth 100000 in
theorem lc_keepsTold_32_2 : ∀ i, i < 10 → lcK (61 + 8 * i + 2) = 139 ∧ lcI (61 + 8 * i + 2) = i := by decide +kernel
set_option maxRecDepth 100000 in
theorem lc_keepsTold_32_3 : ∀ i, i < 10 → lcK (61 + 8 * i + 3) = 151 ∧ lcI (61 + 8 * i + 3) = i := by decide +kernel
set_option maxRecDepth 100000 in
theorem lc_keepsTold_32_4 : ∀ i, i < 10 → lcK (61 + 8 * i + 4) = 157 ∧ lcI (61 + 8 * i + 4) = i := by decide +kernel
set_option maxRecDepth 100000 in
theorem lc_keepsTold_32_5 : ∀ i, i < 10 → lcK (61 + 8 * i + 5) = 158 ∧ lcI (61 + 8 * i + 5) = i := by decide +kernel
set_option maxRecDepth 100000 in
theorem lc_keepsTold_32_6 : ∀ i, i < 10 → lcK (61 + 8 * i + 6) = 167 ∧ lcI (61 + 8 * i + 6) = i := by decide +kernel
set_option maxRecDepth 100000 in
theorem lc_keepsTold_32_7 : ∀ i, i < 10 → lcK (61 + 8 * i + 7) = 168 ∧ lcI (61 + 8 * i + 7) = i := by decide +kernel
set_option maxRecDepth 100000 in
theorem lc_keepsTold_2_0 : ∀ i, i < 8 → lcK (53 + 1 * i + 0) = 136 ∧ lcI (53 + 1 * i + 0) = i := by decide +kernel
set_option maxRecDepth 100000 in
theorem lc_image_73_0 : ∀ i, i < 600 → lcK (333 + 1 * i + 0) = 140 ∧ lcI (333 + 1 * i + 0) = i := by decide +kernel
set_option maxRecDepth 100000 in
theorem lc_image_35_0 : ∀ i, i < 44 → lcK (0 + 1 * i + 0) = 133 ∧ lcI (0 + 1 * i + 0) = i := by decide +kernel
section
variable {kp fu : Nat} {K : Nat → ev_D → Prop}
theorem e_keepsLaw_96 (hfu : 30000 ≤ fu) (hs : ∀ (p k i : Nat) (D : ev_D), p < 1798 → lcK p = k → lcI p = i → K p D → ∃ v D', fX12_keeps sh_L (sh_E kp) fu 132 (D k i) D = some (v, D') ∧ K (p + 1) (ev_up D' k i v)) (d : Nat) : ∀ (i f : Nat) (D : ev_D), i + d = 400 → d < f → K (998 + 2 * i) D → ∃ D', fX12_keepsLaw_96 sh_L (sh_E kp) fu f 132 (nI i) D = some (nI 0, D') ∧ K (998 + 2 * 400) D' := by
  induction d with
  | zero =>
    intro i f D hi hf h
    obtain ⟨f, rfl⟩ : ∃ f', f = f' + 1 := ⟨f - 1, by omega⟩
    refine ⟨D, ?_, by rw [show i = 400 by omega] at h; exact h⟩
    rw [fX12_keepsLaw_96, i_400, if_pos (nI_le (by omega) (by omega)), i_0]
  | succ d ih =>
    intro i f D hi hf h
    obtain ⟨f, rfl⟩ : ∃ f', f = f' + 1 := ⟨f - 1, by omega⟩
    obtain ⟨v0, D0, p0, q0⟩ := hs (998 + 2 * i + 0) 148 i (D) (by omega) (lc_keepsLaw_96_0 i (by omega)).1 (lc_keepsLaw_96_0 i (by omega)).2 h
    obtain ⟨v1, D1, p1, q1⟩ := hs (998 + 2 * i + 1) 149 i (ev_up D0 148 i v0) (by omega) (lc_keepsLaw_96_1 i (by omega)).1 (lc_keepsLaw_96_1 i (by omega)).2 q0
    obtain ⟨D', r1, r2⟩ := ih (i + 1) f (ev_up D1 149 i v1) (by omega) (by omega) (by rw [show 998 + 2 * (i + 1) = 998 + 2 * i + 1 + 1 by omega]; exact q1)
    refine ⟨D', ?_, r2⟩
    rw [fX12_keepsLaw_96, i_400, if_neg (nI_ge (by omega) (by omega)), e_132_24, l_148, gdI (by omega) (by omega), nI_clamp (by omega), p0, bdS, gdI (by omega) (by omega), e_132_25, l_149, gdI (by omega) (by omega), p1, bdS, gdI (by omega) (by omega), i_1, addK, r1]
theorem e_keepsLaw_18 (hfu : 30000 ≤ fu) (hs : ∀ (p k i : Nat) (D : ev_D), p < 1798 → lcK p = k → lcI p = i → K p D → ∃ v D', fX12_keeps sh_L (sh_E kp) fu 132 (D k i) D = some (v, D') ∧ K (p + 1) (ev_up D' k i v)) (d : Nat) : ∀ (i f : Nat) (D : ev_D), i + d = 16 → d < f → K (934 + 4 * i) D → ∃ D', fX12_keepsLaw_18 sh_L (sh_E kp) fu f 132 (nI i) D = fX12_keepsLaw_96 sh_L (sh_E kp) fu fu 132 (nI 0) D' ∧ K (934 + 4 * 16) D' := by
  induction d with
  | zero =>
    intro i f D hi hf h
    obtain ⟨f, rfl⟩ : ∃ f', f = f' + 1 := ⟨f - 1, by omega⟩
    refine ⟨D, ?_, by rw [show i = 16 by omega] at h; exact h⟩
    rw [fX12_keepsLaw_18, i_16, if_pos (nI_le (by omega) (by omega)), i_0]
  | succ d ih =>
    intro i f D hi hf h
    obtain ⟨f, rfl⟩ : ∃ f', f = f' + 1 := ⟨f - 1, by omega⟩
    obtain ⟨v0, D0, p0, q0⟩ := hs (934 + 4 * i + 0) 144 i (D) (by omega) (lc_keepsLaw_18_0 i (by omega)).1 (lc_keepsLaw_18_0 i (by omega)).2 h
    obtain ⟨v1, D1, p1, q1⟩ := hs (934 + 4 * i + 1) 145 i (ev_up D0 144 i v0) (by omega) (lc_keepsLaw_18_1 i (by omega)).1 (lc_keepsLaw_18_1 i (by omega)).2 q0
    obtain ⟨v2, D2, p2, q2⟩ := hs (934 + 4 * i + 2) 146 i (ev_up D1 145 i v1) (by omega) (lc_keepsLaw_18_2 i (by omega)).1 (lc_keepsLaw_18_2 i (by omega)).2 q1
    obtain ⟨v3, D3, p3, q3⟩ := hs (934 + 4 * i + 3) 147 i (ev_up D2 146 i v2) (by omega) (lc_keepsLaw_18_3 i (by omega)).1 (lc_keepsLaw_18_3 i (by omega)).2 q2
    obtain ⟨D', r1, r2⟩ := ih (i + 1) f (ev_up D3 147 i v3) (by omega) (by omega) (by rw [show 934 + 4 * (i + 1) = 934 + 4 * i + 3 + 1 by omega]; exact q3)
    refine ⟨D', ?_, r2⟩
    rw [fX12_keepsLaw_18, i_16, if_neg (nI_ge (by omega) (by omega)), e_132_20, l_144, gdI (by omega) (by omega), nI_clamp (by omega), p0, bdS, gdI (by omega) (by omega), e_132_21, l_145, gdI (by omega) (by omega), p1, bdS, gdI (by omega) (by omega), e_132_22, l_146, gdI (by omega) (by omega), p2, bdS, gdI (by omega) (by omega), e_132_23, l_147, gdI (by omega) (by omega), p3, bdS, gdI (by omega) (by omega), i_1, addK, r1]
theorem e_keepsTold_340 (hfu : 30000 ≤ fu) (hs : ∀ (p k i : Nat) (D : ev_D), p < 1798 → lcK p = k → lcI p = i → K p D → ∃ v D', fX12_keeps sh_L (sh_E kp) fu 132 (D k i) D = some (v, D') ∧ K (p + 1) (ev_up D' k i v)) (d : Nat) : ∀ (i f : Nat) (D : ev_D), i + d = 48 → d < f → K (285 + 1 * i) D → ∃ D', fX12_keepsTold_340 sh_L (sh_E kp) fu f 132 (nI i) D = some (nI 0, D') ∧ K (285 + 1 * 48) D' := by
  induction d with
  | zero =>
    intro i f D hi hf h
    obtain ⟨f, rfl⟩ : ∃ f', f = f' + 1 := ⟨f - 1, by omega⟩
    refine ⟨D, ?_, by rw [show i = 48 by omega] at h; exact h⟩
    rw [fX12_keepsTold_340, i_48, if_pos (nI_le (by omega) (by omega)), i_0]
  | succ d ih =>
    intro i f D hi hf h
    obtain ⟨f, rfl⟩ : ∃ f', f = f' + 1 := ⟨f - 1, by omega⟩
    obtain ⟨v0, D0, p0, q0⟩ := hs (285 + 1 * i + 0) 152 i (D) (by omega) (lc_keepsTold_340_0 i (by omega)).1 (lc_keepsTold_340_0 i (by omega)).2 h
    obtain ⟨D', r1, r2⟩ := ih (i + 1) f (ev_up D0 152 i v0) (by omega) (by omega) (by rw [show 285 + 1 * (i + 1) = 285 + 1 * i + 0 + 1 by omega]; exact q0)
    refine ⟨D', ?_, r2⟩
    rw [fX12_keepsTold_340, i_48, if_neg (nI_ge (by omega) (by omega)), e_132_38, l_152, gdI (by omega) (by omega), nI_clamp (by omega), p0, bdS, gdI (by omega) (by omega), i_1, addK, r1]
theorem e_keepsTold_310 (hfu : 30000 ≤ fu) (hs : ∀ (p k i : Nat) (D : ev_D), p < 1798 → lcK p = k → lcI p = i → K p D → ∃ v D', fX12_keeps sh_L (sh_E kp) fu 132 (D k i) D = some (v, D') ∧ K (p + 1) (ev_up D' k i v)) (d : Nat) : ∀ (i f : Nat) (D : ev_D), i + d = 16 → d < f → K (269 + 1 * i) D → ∃ D', fX12_keepsTold_310 sh_L (sh_E kp) fu f 132 (nI i) D = fX12_keepsTold_340 sh_L (sh_E kp) fu fu 132 (nI 0) D' ∧ K (269 + 1 * 16) D' := by
  induction d with
  | zero =>
    intro i f D hi hf h
    obtain ⟨f, rfl⟩ : ∃ f', f = f' + 1 := ⟨f - 1, by omega⟩
    refine ⟨D, ?_, by rw [show i = 16 by omega] at h; exact h⟩
    rw [fX12_keepsTold_310, i_16, if_pos (nI_le (by omega) (by omega)), i_0]
  | succ d ih =>
    intro i f D hi hf h
    obtain ⟨f, rfl⟩ : ∃ f', f = f' + 1 := ⟨f - 1, by omega⟩
    obtain ⟨v0, D0, p0, q0⟩ := hs (269 + 1 * i + 0) 153 i (D) (by omega) (lc_keepsTold_310_0 i (by omega)).1 (lc_keepsTold_310_0 i (by omega)).2 h
    obtain ⟨D', r1, r2⟩ := ih (i + 1) f (ev_up D0 153 i v0) (by omega) (by omega) (by rw [show 269 + 1 * (i + 1) = 269 + 1 * i + 0 + 1 by omega]; exact q0)
    refine ⟨D', ?_, r2⟩
    rw [fX12_keepsTold_310, i_16, if_neg (nI_ge (by omega) (by omega)), e_132_40, l_153, gdI (by omega) (by omega), nI_clamp (by omega), p0, bdS, gdI (by omega) (by omega), i_1, addK, r1]
theorem e_keepsTold_280 (hfu : 30000 ≤ fu) (hs : ∀ (p k i : Nat) (D : ev_D), p < 1798 → lcK p = k → lcI p = i → K p D → ∃ v D', fX12_keeps sh_L (sh_E kp) fu 132 (D k i) D = some (v, D') ∧ K (p + 1) (ev_up D' k i v)) (d : Nat) : ∀ (i f : Nat) (D : ev_D), i + d = 80 → d < f → K (189 + 1 * i) D → ∃ D', fX12_keepsTold_280 sh_L (sh_E kp) fu f 132 (nI i) D = fX12_keepsTold_310 sh_L (sh_E kp) fu fu 132 (nI 0) D' ∧ K (189 + 1 * 80) D' := by
  induction d with
  | zero =>
    intro i f D hi hf h
    obtain ⟨f, rfl⟩ : ∃ f', f = f' + 1 := ⟨f - 1, by omega⟩
    refine ⟨D, ?_, by rw [show i = 80 by omega] at h; exact h⟩
    rw [fX12_keepsTold_280, i_80, if_pos (nI_le (by omega) (by omega)), i_0]
  | succ d ih =>
    intro i f D hi hf h
    obtain ⟨f, rfl⟩ : ∃ f', f = f' + 1 := ⟨f - 1, by omega⟩
    obtain ⟨v0, D0, p0, q0⟩ := hs (189 + 1 * i + 0) 161 i (D) (by omega) (lc_keepsTold_280_0 i (by omega)).1 (lc_keepsTold_280_0 i (by omega)).2 h
    obtain ⟨D', r1, r2⟩ := ih (i + 1) f (ev_up D0 161 i v0) (by omega) (by omega) (by rw [show 189 + 1 * (i + 1) = 189 + 1 * i + 0 + 1 by omega]; exact q0)
    refine ⟨D', ?_, r2⟩
    rw [fX12_keepsTold_280, i_80, if_neg (nI_ge (by omega) (by omega)), e_132_51, l_161, gdI (by omega) (by omega), nI_clamp (by omega), p0, bdS, gdI (by omega) (by omega), i_1, addK, r1]
theorem e_keepsTold_250 (hfu : 30000 ≤ fu) (hs : ∀ (p k i : Nat) (D : ev_D), p < 1798 → lcK p = k → lcI p = i → K p D → ∃ v D', fX12_keeps sh_L (sh_E kp) fu 132 (D k i) D = some (v, D') ∧ K (p + 1) (ev_up D' k i v)) (d : Nat) : ∀ (i f : Nat) (D : ev_D), i + d = 24 → d < f → K (165 + 1 * i) D → ∃ D', fX12_keepsTold_250 sh_L (sh_E kp) fu f 132 (nI i) D = fX12_keepsTold_280 sh_L (sh_E kp) fu fu 132 (nI 0) D' ∧ K (165 + 1 * 24) D' := by
  induction d with
  | zero =>
    intro i f D hi hf h
    obtain ⟨f, rfl⟩ : ∃ f', f = f' + 1 := ⟨f - 1, by omega⟩
    refine ⟨D, ?_, by rw [show i = 24 by omega] at h; exact h⟩
    rw [fX12_keepsTold_250, i_24, if_pos (nI_le (by omega) (by omega)), i_0]
  | succ d ih =>
    intro i f D hi hf h
    obtain ⟨f, rfl⟩ : ∃ f', f = f' + 1 := ⟨f - 1, by omega⟩
    obtain ⟨v0, D0, p0, q0⟩ := hs (165 + 1 * i + 0) 166 i (D) (by omega) (lc_keepsTold_250_0 i (by omega)).1 (lc_keepsTold_250_0 i (by omega)).2 h
    obtain ⟨D', r1, r2⟩ := ih (i + 1) f (ev_up D0 166 i v0) (by omega) (by omega) (by rw [show 165 + 1 * (i + 1) = 165 + 1 * i + 0 + 1 by omega]; exact q0)
    refine ⟨D', ?_, r2⟩
    rw [fX12_keepsTold_250, i_24, if_neg (nI_ge (by omega) (by omega)), e_132_58, l_166, gdI (by omega) (by omega), nI_clamp (by omega), p0, bdS, gdI (by omega) (by omega), i_1, addK, r1]
theorem e_keepsTold_220 (hfu : 30000 ≤ fu) (hs : ∀ (p k i : Nat) (D : ev_D), p < 1798 → lcK p = k → lcI p = i → K p D → ∃ v D', fX12_keeps sh_L (sh_E kp) fu 132 (D k i) D = some (v, D') ∧ K (p + 1) (ev_up D' k i v)) (d : Nat) : ∀ (i f : Nat) (D : ev_D), i + d = 12 → d < f → K (153 + 1 * i) D → ∃ D', fX12_keepsTold_220 sh_L (sh_E kp) fu f 132 (nI i) D = fX12_keepsTold_250 sh_L (sh_E kp) fu fu 132 (nI 0) D' ∧ K (153 + 1 * 12) D' := by
  induction d with
  | zero =>
    intro i f D hi hf h
    obtain ⟨f, rfl⟩ : ∃ f', f = f' + 1 := ⟨f - 1, by omega⟩
    refine ⟨D, ?_, by rw [show i = 12 by omega] at h; exact h⟩
    rw [fX12_keepsTold_220, i_12, if_pos (nI_le (by omega) (by omega)), i_0]
  | succ d ih =>
    intro i f D hi hf h
    obtain ⟨f, rfl⟩ : ∃ f', f = f' + 1 := ⟨f - 1, by omega⟩
    obtain ⟨v0, D0, p0, q0⟩ := hs (153 + 1 * i + 0) 163 i (D) (by omega) (lc_keepsTold_220_0 i (by omega)).1 (lc_keepsTold_220_0 i (by omega)).2 h
    obtain ⟨D', r1, r2⟩ := ih (i + 1) f (ev_up D0 163 i v0) (by omega) (by omega) (by rw [show 153 + 1 * (i + 1) = 153 + 1 * i + 0 + 1 by omega]; exact q0)
    refine ⟨D', ?_, r2⟩
    rw [fX12_keepsTold_220, i_12, if_neg (nI_ge (by omega) (by omega)), e_132_54, l_163, gdI (by omega) (by omega), nI_clamp (by omega), p0, bdS, gdI (by omega) (by omega), i_1, addK, r1]
theorem e_keepsTold_174 (hfu : 30000 ≤ fu) (hs : ∀ (p k i : Nat) (D : ev_D), p < 1798 → lcK p = k → lcI p = i → K p D → ∃ v D', fX12_keeps sh_L (sh_E kp) fu 132 (D k i) D = some (v, D') ∧ K (p + 1) (ev_up D' k i v)) (d : Nat) : ∀ (i f : Nat) (D : ev_D), i + d = 6 → d < f → K (141 + 2 * i) D → ∃ D', fX12_keepsTold_174 sh_L (sh_E kp) fu f 132 (nI i) D = fX12_keepsTold_220 sh_L (sh_E kp) fu fu 132 (nI 0) D' ∧ K (141 + 2 * 6) D' := by
  induction d with
  | zero =>
    intro i f D hi hf h
    obtain ⟨f, rfl⟩ : ∃ f', f = f' + 1 := ⟨f - 1, by omega⟩
    refine ⟨D, ?_, by rw [show i = 6 by omega] at h; exact h⟩
    rw [fX12_keepsTold_174, i_6, if_pos (nI_le (by omega) (by omega)), i_0]
  | succ d ih =>
    intro i f D hi hf h
    obtain ⟨f, rfl⟩ : ∃ f', f = f' + 1 := ⟨f - 1, by omega⟩
    obtain ⟨v0, D0, p0, q0⟩ := hs (141 + 2 * i + 0) 159 i (D) (by omega) (lc_keepsTold_174_0 i (by omega)).1 (lc_keepsTold_174_0 i (by omega)).2 h
    obtain ⟨v1, D1, p1, q1⟩ := hs (141 + 2 * i + 1) 160 i (ev_up D0 159 i v0) (by omega) (lc_keepsTold_174_1 i (by omega)).1 (lc_keepsTold_174_1 i (by omega)).2 q0
    obtain ⟨D', r1, r2⟩ := ih (i + 1) f (ev_up D1 160 i v1) (by omega) (by omega) (by rw [show 141 + 2 * (i + 1) = 141 + 2 * i + 1 + 1 by omega]; exact q1)
    refine ⟨D', ?_, r2⟩
    rw [fX12_keepsTold_174, i_6, if_neg (nI_ge (by omega) (by omega)), e_132_49, l_159, gdI (by omega) (by omega), nI_clamp (by omega), p0, bdS, gdI (by omega) (by omega), e_132_50, l_160, gdI (by omega) (by omega), p1, bdS, gdI (by omega) (by omega), i_1, addK, r1]
theorem e_keepsTold_32 (hfu : 30000 ≤ fu) (hs : ∀ (p k i : Nat) (D : ev_D), p < 1798 → lcK p = k → lcI p = i → K p D → ∃ v D', fX12_keeps sh_L (sh_E kp) fu 132 (D k i) D = some (v, D') ∧ K (p + 1) (ev_up D' k i v)) (d : Nat) : ∀ (i f : Nat) (D : ev_D), i + d = 10 → d < f → K (61 + 8 * i) D → ∃ D', fX12_keepsTold_32 sh_L (sh_E kp) fu f 132 (nI i) D = fX12_keepsTold_174 sh_L (sh_E kp) fu fu 132 (nI 0) D' ∧ K (61 + 8 * 10) D' := by
  induction d with
  | zero =>
    intro i f D hi hf h
    obtain ⟨f, rfl⟩ : ∃ f', f = f' + 1 := ⟨f - 1, by omega⟩
    refine ⟨D, ?_, by rw [show i = 10 by omega] at h; exact h⟩
    rw [fX12_keepsTold_32, i_10, if_pos (nI_le (by omega) (by omega)), i_0]
  | succ d ih =>
    intro i f D hi hf h
    obtain ⟨f, rfl⟩ : ∃ f', f = f' + 1 := ⟨f - 1, by omega⟩
    obtain ⟨v0, D0, p0, q0⟩ := hs (61 + 8 * i + 0) 137 i (D) (by omega) (lc_keepsTold_32_0 i (by omega)).1 (lc_keepsTold_32_0 i (by omega)).2 h
    obtain ⟨v1, D1, p1, q1⟩ := hs (61 + 8 * i + 1) 138 i (ev_up D0 137 i v0) (by omega) (lc_keepsTold_32_1 i (by omega)).1 (lc_keepsTold_32_1 i (by omega)).2 q0
    obtain ⟨v2, D2, p2, q2⟩ := hs (61 + 8 * i + 2) 139 i (ev_up D1 138 i v1) (by omega) (lc_keepsTold_32_2 i (by omega)).1 (lc_keepsTold_32_2 i (by omega)).2 q1
    obtain ⟨v3, D3, p3, q3⟩ := hs (61 + 8 * i + 3) 151 i (ev_up D2 139 i v2) (by omega) (lc_keepsTold_32_3 i (by omega)).1 (lc_keepsTold_32_3 i (by omega)).2 q2
    obtain ⟨v4, D4, p4, q4⟩ := hs (61 + 8 * i + 4) 157 i (ev_up D3 151 i v3) (by omega) (lc_keepsTold_32_4 i (by omega)).1 (lc_keepsTold_32_4 i (by omega)).2 q3
    obtain ⟨v5, D5, p5, q5⟩ := hs (61 + 8 * i + 5) 158 i (ev_up D4 157 i v4) (by omega) (lc_keepsTold_32_5 i (by omega)).1 (lc_keepsTold_32_5 i (by omega)).2 q4
    obtain ⟨v6, D6, p6, q6⟩ := hs (61 + 8 * i + 6) 167 i (ev_up D5 158 i v5) (by omega) (lc_keepsTold_32_6 i (by omega)).1 (lc_keepsTold_32_6 i (by omega)).2 q5
    obtain ⟨v7, D7, p7, q7⟩ := hs (61 + 8 * i + 7) 168 i (ev_up D6 167 i v6) (by omega) (lc_keepsTold_32_7 i (by omega)).1 (lc_keepsTold_32_7 i (by omega)).2 q6
    obtain ⟨D', r1, r2⟩ := ih (i + 1) f (ev_up D7 168 i v7) (by omega) (by omega) (by rw [show 61 + 8 * (i + 1) = 61 + 8 * i + 7 + 1 by omega]; exact q7)
    refine ⟨D', ?_, r2⟩
    rw [fX12_keepsTold_32, i_10, if_neg (nI_ge (by omega) (by omega)), e_132_8, l_137, gdI (by omega) (by omega), nI_clamp (by omega), p0, bdS, gdI (by omega) (by omega), e_132_9, l_138, gdI (by omega) (by omega), p1, bdS, gdI (by omega) (by omega), e_132_10, l_139, gdI (by omega) (by omega), p2, bdS, gdI (by omega) (by omega), e_132_36, l_151, gdI (by omega) (by omega), p3, bdS, gdI (by omega) (by omega), e_132_46, l_157, gdI (by omega) (by omega), p4, bdS, gdI (by omega) (by omega), e_132_47, l_158, gdI (by omega) (by omega), p5, bdS, gdI (by omega) (by omega), e_132_60, l_167, gdI (by omega) (by omega), p6, bdS, gdI (by omega) (by omega), e_132_61, l_168, gdI (by omega) (by omega), p7, bdS, gdI (by omega) (by omega), i_1, addK, r1]
theorem e_keepsTold_2 (hfu : 30000 ≤ fu) (hs : ∀ (p k i : Nat) (D : ev_D), p < 1798 → lcK p = k → lcI p = i → K p D → ∃ v D', fX12_keeps sh_L (sh_E kp) fu 132 (D k i) D = some (v, D') ∧ K (p + 1) (ev_up D' k i v)) (d : Nat) : ∀ (i f : Nat) (D : ev_D), i + d = 8 → d < f → K (53 + 1 * i) D → ∃ D', fX12_keepsTold_2 sh_L (sh_E kp) fu f 132 (nI i) D = fX12_keepsTold_32 sh_L (sh_E kp) fu fu 132 (nI 0) D' ∧ K (53 + 1 * 8) D' := by
  induction d with
  | zero =>
    intro i f D hi hf h
    obtain ⟨f, rfl⟩ : ∃ f', f = f' + 1 := ⟨f - 1, by omega⟩
    refine ⟨D, ?_, by rw [show i = 8 by omega] at h; exact h⟩
    rw [fX12_keepsTold_2, i_8, if_pos (nI_le (by omega) (by omega)), i_0]
  | succ d ih =>
    intro i f D hi hf h
    obtain ⟨f, rfl⟩ : ∃ f', f = f' + 1 := ⟨f - 1, by omega⟩
    obtain ⟨v0, D0, p0, q0⟩ := hs (53 + 1 * i + 0) 136 i (D) (by omega) (lc_keepsTold_2_0 i (by omega)).1 (lc_keepsTold_2_0 i (by omega)).2 h
    obtain ⟨D', r1, r2⟩ := ih (i + 1) f (ev_up D0 136 i v0) (by omega) (by omega) (by rw [show 53 + 1 * (i + 1) = 53 + 1 * i + 0 + 1 by omega]; exact q0)
    refine ⟨D', ?_, r2⟩
    rw [fX12_keepsTold_2, i_8, if_neg (nI_ge (by omega) (by omega)), e_132_6, l_136, gdI (by omega) (by omega), nI_clamp (by omega), p0, bdS, gdI (by omega) (by omega), i_1, addK, r1]
theorem e_image_73 (hfu : 30000 ≤ fu) (hs : ∀ (p k i : Nat) (D : ev_D), p < 1798 → lcK p = k → lcI p = i → K p D → ∃ v D', fX12_keeps sh_L (sh_E kp) fu 132 (D k i) D = some (v, D') ∧ K (p + 1) (ev_up D' k i v)) {x : Int32} (d : Nat) : ∀ (i f : Nat) (D : ev_D), i + d = 600 → d < f → K (333 + 1 * i) D → ∃ D', fX12_image_73 sh_L (sh_E kp) fu f 132 x (nI i) D = ev_bd (fX12_keepsLaw sh_L (sh_E kp) fu 132 D') (fun _ D2 => if x = nI 0 then some (nI 1, (ev_up D2 132 3 (nI 0))) else some (nI 1, D2)) ∧ K (333 + 1 * 600) D' := by
  induction d with
  | zero =>
    intro i f D hi hf h
    obtain ⟨f, rfl⟩ : ∃ f', f = f' + 1 := ⟨f - 1, by omega⟩
    refine ⟨D, ?_, by rw [show i = 600 by omega] at h; exact h⟩
    rw [fX12_image_73, i_600, if_pos (nI_le (by omega) (by omega)), i_0, i_1]
  | succ d ih =>
    intro i f D hi hf h
    obtain ⟨f, rfl⟩ : ∃ f', f = f' + 1 := ⟨f - 1, by omega⟩
    obtain ⟨v0, D0, p0, q0⟩ := hs (333 + 1 * i + 0) 140 i (D) (by omega) (lc_image_73_0 i (by omega)).1 (lc_image_73_0 i (by omega)).2 h
    obtain ⟨D', r1, r2⟩ := ih (i + 1) f (ev_up D0 140 i v0) (by omega) (by omega) (by rw [show 333 + 1 * (i + 1) = 333 + 1 * i + 0 + 1 by omega]; exact q0)
    refine ⟨D', ?_, r2⟩
    rw [fX12_image_73, i_600, if_neg (nI_ge (by omega) (by omega)), e_132_11, l_140, gdI (by omega) (by omega), nI_clamp (by omega), p0, bdS, gdI (by omega) (by omega), i_1, addK, r1]
theorem e_image_35 (hfu : 30000 ≤ fu) (hs : ∀ (p k i : Nat) (D : ev_D), p < 1798 → lcK p = k → lcI p = i → K p D → ∃ v D', fX12_keeps sh_L (sh_E kp) fu 132 (D k i) D = some (v, D') ∧ K (p + 1) (ev_up D' k i v)) {x : Int32} (d : Nat) : ∀ (i f : Nat) (D : ev_D), i + d = 44 → d < f → K (0 + 1 * i) D → ∃ D', fX12_image_35 sh_L (sh_E kp) fu f 132 x (nI i) D = ev_bd (fX12_keepsMany sh_L (sh_E kp) fu 132 D') (fun _ D8 => ev_bd (fX12_keepsTold sh_L (sh_E kp) fu 132 D8) (fun _ D9 => fX12_image_73 sh_L (sh_E kp) fu fu 132 x (nI 0) D9)) ∧ K (0 + 1 * 44) D' := by
  induction d with
  | zero =>
    intro i f D hi hf h
    obtain ⟨f, rfl⟩ : ∃ f', f = f' + 1 := ⟨f - 1, by omega⟩
    refine ⟨D, ?_, by rw [show i = 44 by omega] at h; exact h⟩
    rw [fX12_image_35, i_44, if_pos (nI_le (by omega) (by omega)), i_0]
  | succ d ih =>
    intro i f D hi hf h
    obtain ⟨f, rfl⟩ : ∃ f', f = f' + 1 := ⟨f - 1, by omega⟩
    obtain ⟨v0, D0, p0, q0⟩ := hs (0 + 1 * i + 0) 133 i (D) (by omega) (lc_image_35_0 i (by omega)).1 (lc_image_35_0 i (by omega)).2 h
    obtain ⟨D', r1, r2⟩ := ih (i + 1) f (ev_up D0 133 i v0) (by omega) (by omega) (by rw [show 0 + 1 * (i + 1) = 0 + 1 * i + 0 + 1 by omega]; exact q0)
    refine ⟨D', ?_, r2⟩
    rw [fX12_image_35, i_44, if_neg (nI_ge (by omega) (by omega)), e_132_1, l_133, gdI (by omega) (by omega), nI_clamp (by omega), p0, bdS, gdI (by omega) (by omega), i_1, addK, r1]
theorem e_keepsMany (hs : ∀ (p k i : Nat) (D : ev_D), p < 1798 → lcK p = k → lcI p = i → K p D → ∃ v D', fX12_keeps sh_L (sh_E kp) fu 132 (D k i) D = some (v, D') ∧ K (p + 1) (ev_up D' k i v)) {D : ev_D} (h : K 44 D) : ∃ D', fX12_keepsMany sh_L (sh_E kp) fu 132 D = some (nI 0, D') ∧ K 53 D' := by
  obtain ⟨v0, D0, p0, q0⟩ := hs 44 132 7 (D) (by decide) rfl rfl h
  obtain ⟨v1, D1, p1, q1⟩ := hs 45 132 35 (ev_up D0 132 7 v0) (by decide) rfl rfl q0
  obtain ⟨v2, D2, p2, q2⟩ := hs 46 132 37 (ev_up D1 132 35 v1) (by decide) rfl rfl q1
  obtain ⟨v3, D3, p3, q3⟩ := hs 47 132 39 (ev_up D2 132 37 v2) (by decide) rfl rfl q2
  obtain ⟨v4, D4, p4, q4⟩ := hs 48 132 45 (ev_up D3 132 39 v3) (by decide) rfl rfl q3
  obtain ⟨v5, D5, p5, q5⟩ := hs 49 132 48 (ev_up D4 132 45 v4) (by decide) rfl rfl q4
  obtain ⟨v6, D6, p6, q6⟩ := hs 50 132 53 (ev_up D5 132 48 v5) (by decide) rfl rfl q5
  obtain ⟨v7, D7, p7, q7⟩ := hs 51 132 57 (ev_up D6 132 53 v6) (by decide) rfl rfl q6
  obtain ⟨v8, D8, p8, q8⟩ := hs 52 132 59 (ev_up D7 132 57 v7) (by decide) rfl rfl q7
  exact ⟨ev_up D8 132 59 v8, by rw [fX12_keepsMany, p0, bdS, p1, bdS, p2, bdS, p3, bdS, p4, bdS, p5, bdS, p6, bdS, p7, bdS, p8, bdS, i_0], q8⟩
theorem e_keepsTold (hfu : 30000 ≤ fu) (hs : ∀ (p k i : Nat) (D : ev_D), p < 1798 → lcK p = k → lcI p = i → K p D → ∃ v D', fX12_keeps sh_L (sh_E kp) fu 132 (D k i) D = some (v, D') ∧ K (p + 1) (ev_up D' k i v)) {D : ev_D} (h : K 53 D) : ∃ D', fX12_keepsTold sh_L (sh_E kp) fu 132 D = some (nI 0, D') ∧ K 333 D' := by
  obtain ⟨D0, p0, q0⟩ := e_keepsTold_2 hfu hs 8 0 fu D (by omega) (by omega) h
  obtain ⟨D1, p1, q1⟩ := e_keepsTold_32 hfu hs 10 0 fu D0 (by omega) (by omega) q0
  obtain ⟨D2, p2, q2⟩ := e_keepsTold_174 hfu hs 6 0 fu D1 (by omega) (by omega) q1
  obtain ⟨D3, p3, q3⟩ := e_keepsTold_220 hfu hs 12 0 fu D2 (by omega) (by omega) q2
  obtain ⟨D4, p4, q4⟩ := e_keepsTold_250 hfu hs 24 0 fu D3 (by omega) (by omega) q3
  obtain ⟨D5, p5, q5⟩ := e_keepsTold_280 hfu hs 80 0 fu D4 (by omega) (by omega) q4
  obtain ⟨D6, p6, q6⟩ := e_keepsTold_310 hfu hs 16 0 fu D5 (by omega) (by omega) q5
  obtain ⟨D7, p7, q7⟩ := e_keepsTold_340 hfu hs 48 0 fu D6 (by omega) (by omega) q6
  exact ⟨D7, by rw [fX12_keepsTold, i_0, p0, p1, p2, p3, p4, p5, p6, p7], q7⟩
theorem e_keepsLaw (hfu : 30000 ≤ fu) (hs : ∀ (p k i : Nat) (D : ev_D), p < 1798 → lcK p = k → lcI p = i → K p D → ∃ v D', fX12_keeps sh_L (sh_E kp) fu 132 (D k i) D = some (v, D') ∧ K (p + 1) (ev_up D' k i v)) {D : ev_D} (h : K 933 D) : ∃ D', fX12_keepsLaw sh_L (sh_E kp) fu 132 D = some (nI 0, D') ∧ K 1798 D' := by
  obtain ⟨v0, D0, p0, q0⟩ := hs 933 143 0 D (by decide) rfl rfl h
  obtain ⟨D1, p1, q1⟩ := e_keepsLaw_18 hfu hs 16 0 fu (ev_up D0 143 0 v0) (by omega) (by omega) q0
  obtain ⟨D2, p2, q2⟩ := e_keepsLaw_96 hfu hs 400 0 fu D1 (by omega) (by omega) q1
  exact ⟨D2, by rw [fX12_keepsLaw, e_132_19, l_143, i_0, gdI (by decide) (by decide), nI_clamp (by decide), p0, bdS, gdI (by decide) (by decide), p1, p2], q2⟩
theorem e_images (hfu : 30000 ≤ fu) (hs : ∀ (p k i : Nat) (D : ev_D), p < 1798 → lcK p = k → lcI p = i → K p D → ∃ v D', fX12_keeps sh_L (sh_E kp) fu 132 (D k i) D = some (v, D') ∧ K (p + 1) (ev_up D' k i v)) (x : Int32) {D : ev_D} (h : K 0 D) : ∃ D', fX12_image_35 sh_L (sh_E kp) fu fu 132 x (nI 0) D = (if x = nI 0 then some (nI 1, (ev_up D' 132 3 (nI 0))) else some (nI 1, D')) ∧ K 1798 D' := by
  obtain ⟨D1, p1, q1⟩ := e_image_35 hfu hs (x := x) 44 0 fu D (by omega) (by omega) h
  obtain ⟨D2, p2, q2⟩ := e_keepsMany hs q1
  obtain ⟨D3, p3, q3⟩ := e_keepsTold hfu hs q2
  obtain ⟨D4, p4, q4⟩ := e_image_73 hfu hs (x := x) 600 0 fu D3 (by omega) (by omega) q3
  obtain ⟨D5, p5, q5⟩ := e_keepsLaw hfu hs q4
  exact ⟨D5, by rw [p1, p2, bdS, p3, bdS, p4, p5, bdS], q5⟩
end
