/-! ===== the relations hold where the cells are the same ===== -/
def rgT (j : Nat) : Nat := if j = 0 then 7 else if j ≤ 2 then 8 else 10
def rgC (k : Nat) : Nat := if mem [11, 14, 21, 23, 25, 28, 30, 32, 34, 36] k then 1 else if k = 3 then 7 else sh_L k
def rgM (k : Nat) : Nat := if k = 143 then 1 else if mem [144, 145, 146, 147] k then 16 else if mem [148, 149] k then 400 else if k = 151 then 10 else if k = 152 then 48 else if k = 153 then 16 else sh_L k
theorem tw_B_cg {c c' : ev_D} {b b' : Nat} (h : ∀ j, j < 8 → ∀ i, i < rgT j → c' (b' + j) i = c (b + j) i) (g : tw_B c b) : tw_B c' b' := by
  obtain ⟨g1, g2, g3, g4, g5, g6, g7, g8, g9, g10, g11, g12⟩ := g
  have h0 : ∀ i, i < 7 → c' b' i = c b i := fun i hi => h 0 (by decide) i hi
  refine ⟨?_, ?_, ?_, ?_, ?_, ?_, ?_, ?_, ?_, ?_, ?_, ?_⟩
  · rw [h0 5 (by decide)]; exact g1
  · rw [h0 1 (by decide)]; exact g2
  · rw [h0 2 (by decide)]; exact g3
  · rw [h0 3 (by decide)]; exact g4
  · rw [h0 6 (by decide)]; exact g5
  · rw [h0 5 (by decide), h0 6 (by decide)]; exact g6
  · intro i hi; rw [h 1 (by decide) i hi]; exact g7 i hi
  · intro i hi; rw [h 3 (by decide) i hi]; exact g8 i hi
  · intro i hi; rw [h 4 (by decide) i hi]; exact g9 i hi
  · intro i hi; rw [h 5 (by decide) i hi]; exact g10 i hi
  · intro i hi; rw [h 6 (by decide) i hi]; exact g11 i hi
  · intro i hi; rw [h 7 (by decide) i hi]; exact g12 i hi
theorem tw_R_cg {c c' : ev_D} {b b' : Nat} {ln ln' : Int32} {n n' : Nat → Int32} (h : ∀ j, j < 8 → ∀ i, i < rgT j → c' (b' + j) i = c (b + j) i) (hl : ln' = ln) (hn : ∀ i, i < 44 → n' i = n i) (hr : bI 10 (c b 5)) (g : tw_R c b ln n) : tw_R c' b' ln' n' := by
  obtain ⟨g1, g2, g3, g4, g5, g6, g7, g8, g9, g10⟩ := g
  have h0 : ∀ i, i < 7 → c' b' i = c b i := fun i hi => h 0 (by decide) i hi
  refine ⟨?_, ?_, ?_, ?_, ?_, ?_, ?_, ?_, ?_, ?_⟩
  · rw [h0 4 (by decide), hn 0 (by decide)]; exact g1
  · rw [h0 0 (by decide), hn 1 (by decide)]; exact g2
  · rw [hl, hn 2 (by decide)]; exact g3
  · rw [h0 1 (by decide), hn 3 (by decide)]; exact g4
  · rw [h0 2 (by decide), hn 4 (by decide)]; exact g5
  · rw [h0 3 (by decide), hn 5 (by decide)]; exact g6
  · intro i hi; rw [h 2 (by decide) i hi, hn _ (by omega)]; exact g7 i hi
  · intro i hi; rw [h 6 (by decide) i hi, hn _ (by omega)]; exact g8 i hi
  · intro i hi; rw [h 7 (by decide) i hi, hn _ (by omega)]; exact g9 i hi
  · intro i hi
    rw [h0 5 (by decide)] at hi
    have := (bI_nv (by decide) hr).2
    rw [h0 6 (by decide), hn _ (by omega)]; exact g10 i hi
section
variable {c c' m m' : ev_D}
theorem ag_tw (hc : ag rgC [3, 4, 5, 6, 7, 8, 9, 10, 11] [] c' c) : ∀ j, j < 8 → ∀ i, i < rgT j → c' (3 + j) i = c (3 + j) i := by
  intro j hj i hi
  match j, hj with
  | 0, _ => exact hc.1 3 rfl i hi
  | 1, _ => exact hc.1 4 rfl i hi
  | 2, _ => exact hc.1 5 rfl i hi
  | 3, _ => exact hc.1 6 rfl i hi
  | 4, _ => exact hc.1 7 rfl i hi
  | 5, _ => exact hc.1 8 rfl i hi
  | 6, _ => exact hc.1 9 rfl i hi
  | 7, _ => exact hc.1 10 rfl i hi
theorem g_T_cg (hc : ag rgC [3, 4, 5, 6, 7, 8, 9, 10, 11] [] c' c) (hm : ag rgM [133] [] m' m) (g : g_T c m) : g_T c' m' := by
  obtain ⟨g1, g2, g3, g4⟩ := g
  refine ⟨tw_B_cg (b := 3) (ag_tw hc) g1, ?_, ?_, tw_R_cg (b := 3) (ag_tw hc) (hc.1 11 rfl 0 (by decide)) (fun i hi => hm.1 133 rfl i hi) g1.1 g4⟩
  · rw [hc.1 3 rfl 4 (by decide)]; exact g2
  · rw [hc.1 11 rfl 0 (by decide)]; exact g3
theorem g_F_cg (hc : ag rgC [3, 4, 6, 7, 8] [] c' c) (hm : ag rgM [136, 137, 138, 139] [7] m' m) (g : g_F c m) : g_F c' m' := by
  obtain ⟨g1, g2, g3, g4, g5⟩ := g
  refine ⟨?_, ?_, ?_, ?_, ?_⟩
  · rw [hc.1 3 rfl 5 (by decide), hm.2 7 rfl]; exact g1
  · intro i hi; rw [hc.1 4 rfl i hi, hm.1 136 rfl i hi]; exact g2 i hi
  · intro i hi; rw [hc.1 6 rfl i hi, hm.1 137 rfl i hi]; exact g3 i hi
  · intro i hi; rw [hc.1 7 rfl i hi, hm.1 138 rfl i hi]; exact g4 i hi
  · intro i hi; rw [hc.1 8 rfl i hi, hm.1 139 rfl i hi]; exact g5 i hi
theorem g_B_cg (hc : ag rgC [12] [] c' c) (hm : ag rgM [140] [] m' m) (g : g_B c m) : g_B c' m' := by
  intro i hi; rw [hc.1 12 rfl i hi, hm.1 140 rfl i hi]; exact g i hi
theorem felt_cg (hc : ag rgC [21, 22] [] c' c) (hb : bI 16 (c 21 0)) (r : Nat) : felt c' r = felt c r := by
  have := (bI_nv (by decide) hb).2
  unfold felt
  rw [hc.1 21 rfl 0 (by decide)]
  refine up_cg (fun j h1 h2 a => ?_) 0
  have hl : rgC 22 = 48 := rfl
  rw [hc.1 22 rfl (3 * j) (by omega), hc.1 22 rfl (3 * j + 1) (by omega)]
theorem g_R_cg (hc : ag rgC [21, 22] [] c' c) (hm : ag rgM [151] [35] m' m) (g : g_R c m) : g_R c' m' := by
  obtain ⟨g1, g2, g3, g4⟩ := g
  have hb := (bI_nv (by decide) g1).2
  have hl : rgC 22 = 48 := rfl
  refine ⟨?_, ?_, ?_, ?_⟩
  · rw [hc.1 21 rfl 0 (by decide)]; exact g1
  · rw [hc.1 21 rfl 0 (by decide), hm.2 35 rfl]; exact g2
  · intro i hi
    rw [hc.1 21 rfl 0 (by decide)] at hi
    rw [hc.1 22 rfl (3 * i) (by omega), hc.1 22 rfl (3 * i + 1) (by omega)]; exact g3 i hi
  · intro i hi; rw [felt_cg hc g1, hm.1 151 rfl i hi]; exact g4 i hi
theorem g_D_cg (hc : ag rgC [23, 24] [] c' c) (hm : ag rgM [152] [37] m' m) (g : g_D c m) : g_D c' m' := by
  obtain ⟨g1, g2, g3⟩ := g
  have hb := (bI_nv (by decide) g1).2
  have hl : rgC 24 = 48 := rfl
  have hl2 : rgM 152 = 48 := rfl
  refine ⟨?_, ?_, ?_⟩
  · rw [hc.1 23 rfl 0 (by decide)]; exact g1
  · rw [hc.1 23 rfl 0 (by decide), hm.2 37 rfl]; exact g2
  · intro i hi
    rw [hc.1 23 rfl 0 (by decide)] at hi
    rw [hc.1 24 rfl (3 * i) (by omega), hc.1 24 rfl (3 * i + 1) (by omega), hc.1 24 rfl (3 * i + 2) (by omega), hm.1 152 rfl (3 * i) (by omega), hm.1 152 rfl (3 * i + 1) (by omega), hm.1 152 rfl (3 * i + 2) (by omega)]; exact g3 i hi
theorem g_C_cg (hc : ag rgC [25, 26] [] c' c) (hm : ag rgM [153] [39] m' m) (g : g_C c m) : g_C c' m' := by
  obtain ⟨g1, g2, g3⟩ := g
  have hb := (bI_nv (by decide) g1).2
  have hl : rgC 26 = 48 := rfl
  have hl2 : rgM 153 = 16 := rfl
  refine ⟨?_, ?_, ?_⟩
  · rw [hc.1 25 rfl 0 (by decide)]; exact g1
  · rw [hc.1 25 rfl 0 (by decide), hm.2 39 rfl]; exact g2
  · intro i hi
    rw [hc.1 25 rfl 0 (by decide)] at hi
    rw [hc.1 26 rfl (3 * i) (by omega), hm.1 153 rfl i (by omega)]; exact g3 i hi
theorem g_S_cg (hc : ag rgC [28, 29] [] c' c) (hm : ag rgM [157, 158] [45] m' m) (g : g_S c m) : g_S c' m' := by
  obtain ⟨g1, g2, g3⟩ := g
  have hb := (bI_nv (by decide) g1).2
  have hl : rgC 29 = 30 := rfl
  have hl2 : rgM 157 = 10 := rfl
  have hl3 : rgM 158 = 10 := rfl
  refine ⟨?_, ?_, ?_⟩
  · rw [hc.1 28 rfl 0 (by decide)]; exact g1
  · rw [hc.1 28 rfl 0 (by decide), hm.2 45 rfl]; exact g2
  · intro i hi
    rw [hc.1 28 rfl 0 (by decide)] at hi
    rw [hc.1 29 rfl (3 * i) (by omega), hc.1 29 rfl (3 * i + 1) (by omega), hm.1 157 rfl i (by omega), hm.1 158 rfl i (by omega)]; exact g3 i hi
theorem g_O_cg (hc : ag rgC [30, 31] [] c' c) (hm : ag rgM [159, 160] [48] m' m) (g : g_O c m) : g_O c' m' := by
  obtain ⟨g1, g2, g3⟩ := g
  have hb := (bI_nv (by decide) g1).2
  have hl : rgC 31 = 18 := rfl
  have hl2 : rgM 159 = 6 := rfl
  have hl3 : rgM 160 = 6 := rfl
  refine ⟨?_, ?_, ?_⟩
  · rw [hc.1 30 rfl 0 (by decide)]; exact g1
  · rw [hc.1 30 rfl 0 (by decide), hm.2 48 rfl]; exact g2
  · intro i hi
    rw [hc.1 30 rfl 0 (by decide)] at hi
    rw [hc.1 31 rfl (3 * i) (by omega), hc.1 31 rfl (3 * i + 1) (by omega), hm.1 159 rfl i (by omega), hm.1 160 rfl i (by omega)]; exact g3 i hi
theorem g_E_cg (hc : ag rgC [32, 33] [] c' c) (hm : ag rgM [163] [53] m' m) (g : g_E c m) : g_E c' m' := by
  obtain ⟨g1, g2, g3, g4⟩ := g
  have hb := (bI_nv (by decide) g1).2
  have hl : rgC 33 = 48 := rfl
  refine ⟨?_, ?_, ?_, ?_⟩
  · rw [hc.1 32 rfl 0 (by decide)]; exact g1
  · rw [hc.1 32 rfl 0 (by decide), hm.2 53 rfl]; exact g2
  · intro i hi
    rw [hc.1 32 rfl 0 (by decide)] at hi
    rw [hc.1 33 rfl (3 * i) (by omega), hc.1 33 rfl (3 * i + 1) (by omega)]; exact g3 i hi
  · intro i hi
    rw [hm.1 163 rfl i hi, g4 i hi]
    unfold seen
    rw [hc.1 32 rfl 0 (by decide)]
    congr 1
    refine (up_cg (fun j h1 h2 a => ?_) 0).symm
    rw [hc.1 33 rfl (3 * j) (by omega), hc.1 33 rfl (3 * j + 1) (by omega)]
theorem g_G_cg (hc : ag rgC [34, 35] [] c' c) (hm : ag rgM [166] [57] m' m) (g : g_G c m) : g_G c' m' := by
  obtain ⟨g1, g2, g3⟩ := g
  have hb := (bI_nv (by decide) g1).2
  have hl : rgC 35 = 72 := rfl
  have hl2 : rgM 166 = 24 := rfl
  refine ⟨?_, ?_, ?_⟩
  · rw [hc.1 34 rfl 0 (by decide)]; exact g1
  · rw [hc.1 34 rfl 0 (by decide), hm.2 57 rfl]; exact g2
  · intro i hi
    rw [hc.1 34 rfl 0 (by decide)] at hi
    rw [hc.1 35 rfl (3 * i) (by omega), hm.1 166 rfl i (by omega)]; exact g3 i hi
theorem g_U_cg (hc : ag rgC [36, 37] [] c' c) (hm : ag rgM [167] [59] m' m) (g : g_U c m) : g_U c' m' := by
  obtain ⟨g1, g2, g3, g4⟩ := g
  have hb := (bI_nv (by decide) g1).2
  have hl : rgC 37 = 60 := rfl
  refine ⟨?_, ?_, ?_, ?_⟩
  · rw [hc.1 36 rfl 0 (by decide)]; exact g1
  · rw [hc.1 36 rfl 0 (by decide), hm.2 59 rfl]; exact g2
  · intro i hi
    rw [hc.1 36 rfl 0 (by decide)] at hi
    rw [hc.1 37 rfl (3 * i) (by omega), hc.1 37 rfl (3 * i + 1) (by omega)]; exact g3 i hi
  · intro i hi
    rw [hm.1 167 rfl i hi, g4 i hi]
    unfold tells
    rw [hc.1 36 rfl 0 (by decide)]
    congr 1
    refine (up_cg (fun j h1 h2 a => ?_) 0).symm
    rw [hc.1 37 rfl (3 * j) (by omega), hc.1 37 rfl (3 * j + 1) (by omega)]
theorem g_H_cg (hc : ag rgC [38] [] c' c) (hm : ag rgM [161] [] m' m) (g : g_H c m) : g_H c' m' := by
  intro i hi; rw [hc.1 38 rfl i hi, hm.1 161 rfl i hi]; exact g i hi
theorem g_N_cg (hc : ag rgC [39] [] c' c) (hm : ag rgM [168] [] m' m) (g : g_N c m) : g_N c' m' := by
  intro i hi; rw [hc.1 39 rfl i hi, hm.1 168 rfl i hi]; exact g i hi
theorem lw_pr_cg (hc : ∀ i, i < 400 → c' 19 i = c 19 i) (hm : ∀ i, i < 400 → m' 148 i = m 148 i ∧ m' 149 i = m 149 i) {a b a2 b2 : Nat} {p : Prop} (hb : b ≤ 400) (hb2 : b2 ≤ 400) (g : lw_pr c m a b a2 b2 p) : lw_pr c' m' a b a2 b2 p := by
  obtain ⟨l, l2, f, g1, g2, g3, g4, g5, g6, g7⟩ := g
  refine ⟨l, l2, f, g1, g2, g3, g4, g5, fun i h => ?_, fun i h => ?_⟩
  · rw [hc _ (by omega)]; exact g6 i h
  · rw [(hm _ (by omega)).1, (hm _ (by omega)).2]; exact g7 i h
theorem g_L_cg (hc : ag rgC [14, 15, 16, 17, 18, 19] [] c' c) (hm : ag rgM [143, 144, 145, 146, 147, 148, 149] [] m' m) (g : g_L c m) : g_L c' m' := by
  obtain ⟨g1, g2, g3⟩ := g
  have hb := (bI_nv (by decide) g1).2
  have h19 : ∀ i, i < 400 → c' 19 i = c 19 i := fun i hi => hc.1 19 rfl i hi
  have h48 : ∀ i, i < 400 → m' 148 i = m 148 i ∧ m' 149 i = m 149 i := fun i hi => ⟨hm.1 148 rfl i hi, hm.1 149 rfl i hi⟩
  refine ⟨?_, ?_, ?_⟩
  · rw [hc.1 14 rfl 0 (by decide)]; exact g1
  · rw [hc.1 14 rfl 0 (by decide), hm.1 143 rfl 0 (by decide)]; exact g2
  · intro l hl
    rw [hc.1 14 rfl 0 (by decide)] at hl
    have h16 : l < 16 := by omega
    obtain ⟨k1, k2, b, w, e, f, h, t, q1, q2, q3, q4, q5, q6, q7, q8, q9, q10, q11, q12, q13⟩ := g3 l hl
    rw [hc.1 15 rfl l h16, hm.1 144 rfl l h16]
    refine ⟨k1, k2, b, w, e, f, h, t, ?_, ?_, ?_, ?_, ?_, ?_, q7, q8, q9, lw_pr_cg h19 h48 (by omega) (by omega) q10, fun z => lw_pr_cg h19 h48 q7 q8 (q11 z), q12, q13⟩
    · rw [hc.1 16 rfl l h16]; exact q1
    · rw [hc.1 17 rfl l h16]; exact q2
    · rw [hc.1 18 rfl l h16]; exact q3
    · rw [hm.1 145 rfl l h16]; exact q4
    · rw [hm.1 146 rfl l h16]; exact q5
    · rw [hm.1 147 rfl l h16]; exact q6
end
theorem ag_sub {rg : Nat → Nat} {gc gf hc hf : List Nat} {D' D : ev_D} (h : ag rg hc hf D' D) (h1 : gc.all (mem hc) = true) (h2 : gf.all (mem hf) = true) : ag rg gc gf D' D :=
  ⟨fun k hk => h.1 k (List.all_eq_true.mp h1 k (mem_iff.mp hk)), fun k hk => h.2 k (List.all_eq_true.mp h2 k (mem_iff.mp hk))⟩
def wC : List Nat := [3, 4, 5, 6, 7, 8, 9, 10, 11, 12, 14, 15, 16, 17, 18, 19, 21, 22, 23, 24, 25, 26, 28, 29, 30, 31, 32, 33, 34, 35, 36, 37, 38, 39]
def wM : List Nat := [133, 136, 137, 138, 139, 140, 143, 144, 145, 146, 147, 148, 149, 151, 152, 153, 157, 158, 159, 160, 161, 163, 166, 167, 168]
def wF : List Nat := [7, 35, 37, 39, 45, 48, 53, 57, 59]
theorem g_W_cg {c c' m m' : ev_D} (hc : ag rgC wC [] c' c) (hm : ag rgM wM wF m' m) (g : g_W c m) : g_W c' m' := by
  obtain ⟨g1, g2, g3, g4, g5, g6, g7, g8, g9, g10, g11, g12, g13, g14⟩ := g
  exact ⟨g_T_cg (ag_sub hc rfl rfl) (ag_sub hm rfl rfl) g1, g_F_cg (ag_sub hc rfl rfl) (ag_sub hm rfl rfl) g2, g_B_cg (ag_sub hc rfl rfl) (ag_sub hm rfl rfl) g3, g_R_cg (ag_sub hc rfl rfl) (ag_sub hm rfl rfl) g4, g_D_cg (ag_sub hc rfl rfl) (ag_sub hm rfl rfl) g5, g_C_cg (ag_sub hc rfl rfl) (ag_sub hm rfl rfl) g6, g_S_cg (ag_sub hc rfl rfl) (ag_sub hm rfl rfl) g7, g_O_cg (ag_sub hc rfl rfl) (ag_sub hm rfl rfl) g8, g_E_cg (ag_sub hc rfl rfl) (ag_sub hm rfl rfl) g9, g_G_cg (ag_sub hc rfl rfl) (ag_sub hm rfl rfl) g10, g_U_cg (ag_sub hc rfl rfl) (ag_sub hm rfl rfl) g11, g_H_cg (ag_sub hc rfl rfl) (ag_sub hm rfl rfl) g12, g_N_cg (ag_sub hc rfl rfl) (ag_sub hm rfl rfl) g13, g_L_cg (ag_sub hc rfl rfl) (ag_sub hm rfl rfl) g14⟩
