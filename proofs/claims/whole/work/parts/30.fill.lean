/-! ===== what is asked: the values filled, for the tower that is and the one in thought ===== -/
def rg (o t v bk th : Nat) : Prop := (o = 110 ∧ t = 3 ∧ v = 111 ∧ bk = 11 ∧ th = 0) ∨ (o = 112 ∧ t = 113 ∧ v = 123 ∧ bk = 121 ∧ th = 1)
def hR (c m : ev_D) (t : Nat) : Prop := tw_B c t ∧ tw_R c t (m 133 2) (m 133) ∧ m 132 7 = c t 5 ∧ (∀ i, i < 8 → m 136 i + nI 1 = c (t + 1) i) ∧ (∀ r, r < 10 → m 137 r = c (t + 3) r) ∧ (∀ r, r < 10 → m 138 r = c (t + 4) r) ∧ (∀ r, r < 10 → m 139 r = c (t + 5) r)
theorem hR_ex {sc sm sf : List Nat} {c c' m m' : ev_D} {t : Nat} (hc : ex sc [] c' c) (hm : ex sm sf m' m) (q1 : dj [t, t + 1, t + 2, t + 3, t + 4, t + 5, t + 6, t + 7] [] sc [] = true) (q2 : dj [133, 136, 137, 138, 139] [7] sm sf = true) (h : hR c m t) : hR c' m' t := by
  obtain ⟨h1, h2, h3, h4, h5, h6, h7⟩ := h
  have m1 : ∀ j, j < 8 → mem [t, t + 1, t + 2, t + 3, t + 4, t + 5, t + 6, t + 7] (t + j) = true := by
    intro j hj
    rw [mem_iff]
    match j, hj with
    | 0, _ => simp
    | 1, _ => simp
    | 2, _ => simp
    | 3, _ => simp
    | 4, _ => simp
    | 5, _ => simp
    | 6, _ => simp
    | 7, _ => simp
  have hj : ∀ j, j < 8 → c' (t + j) = c (t + j) := fun j h => dj_c hc q1 _ (m1 j h)
  have h0 : c' t = c t := hj 0 (by decide)
  have hk : ∀ j, j < 8 → ∀ i, i < rgT j → c' (t + j) i = c (t + j) i := fun j h i _ => by rw [hj j h]
  have e3 : m' 133 = m 133 := dj_c hm q2 133 rfl
  refine ⟨tw_B_cg hk h1, tw_R_cg hk (by rw [e3]) (fun i _ => by rw [e3]) h1.1 h2, ?_, ?_, ?_, ?_, ?_⟩
  · rw [dj_f hm q2 7 rfl, h0]; exact h3
  · rw [dj_c hm q2 136 rfl, hj 1 (by decide)]; exact h4
  · rw [dj_c hm q2 137 rfl, hj 3 (by decide)]; exact h5
  · rw [dj_c hm q2 138 rfl, hj 4 (by decide)]; exact h6
  · rw [dj_c hm q2 139 rfl, hj 5 (by decide)]; exact h7
theorem e_floorMod (L : Nat → Nat) (E : Nat → Nat → Nat) (fu : Nat) (D : ev_D) {a d : Nat} (ha : a < 2 ^ 31) (h0 : 0 < d) (hd : d < 2 ^ 31) : fJ9_floorMod L E fu (nI a) (nI d) D = some (nI (a % d), D) := by
  rw [fJ9_floorMod, i_0, gdZ h0 hd, nI_xor, if_pos (nI_le (Nat.zero_le _) (Nat.xor_lt_two_pow ha hd)), pk_rem ha h0 hd]
theorem xs_mk {a : ev_Op} {v : Int32} {D' : ev_D} {P : ev_D → Prop} (h1 : a = some (v, D')) (h2 : P D') : ∃ D', a = some (v, D') ∧ P D' := ⟨D', h1, h2⟩
theorem fl_n {q p : Nat} (v : Nat → Int32) (i k : Nat) (D : ev_D) (j : Nat) (h : p ≠ q) : fl q v i k D p j = D p j := by
  rw [fl_ap, if_neg fun z => h z.1]
theorem fl_i {q : Nat} (v : Nat → Int32) (i k : Nat) (D : ev_D) {j : Nat} (h1 : i ≤ j) (h2 : j < i + k) : fl q v i k D q j = v j := by
  rw [fl_ap, if_pos ⟨rfl, h1, h2⟩]
def vlR (c : ev_D) (t r : Nat) (fe : Int32) (k : Nat) : Int32 := if k = 0 then c (t + 4) r else if k = 1 then c (t + 5) r else if k = 2 then c (t + 6) r else if k = 3 then c (t + 7) r else if k = 4 then c (t + 3) r else if k = 5 then c (t + 1) (nv (c (t + 3) r)) else if k = 6 then c t 3 else if k = 7 then c t 1 else if k = 8 then c t 2 else if k = 9 then nI (nv (c t 4) % 24) else fe
def vlT (c : ev_D) (t : Nat) (k : Nat) : Int32 := if k = 6 then c t 3 else if k = 7 then c t 1 else if k = 8 then c t 2 else if k = 9 then nI (nv (c t 4) % 24) else nI 0
theorem lt11 {k : Nat} (h : k < 11) : k = 0 ∨ k = 1 ∨ k = 2 ∨ k = 3 ∨ k = 4 ∨ k = 5 ∨ k = 6 ∨ k = 7 ∨ k = 8 ∨ k = 9 ∨ k = 10 := by omega
/-- the values filled up to j -/
def fillP (D0 : ev_D) (v : Nat) (vals : Nat → Int32) (j : Nat) (D : ev_D) : Prop := (∀ k i, k ≠ v → D k i = D0 k i) ∧ ∀ k, k < j → D v k = vals k
theorem fill_up {D0 D : ev_D} {v j : Nat} {vals : Nat → Int32} {x : Int32} (h : fillP D0 v vals j D) (hx : x = vals j) : fillP D0 v vals (j + 1) (ev_up D v j x) := by
  refine ⟨fun k i hk => by rw [upN _ _ _ _ hk]; exact h.1 k i hk, fun k hk => ?_⟩
  by_cases e : k = j
  · subst e; rw [upS]; exact hx
  · rw [upJ _ _ _ _ e]; exact h.2 k (by omega)
def flE (kp o t v : Nat) : Prop := sh_E kp o 0 = t ∧ sh_E kp o 3 = v ∧ sh_L v = 11 ∧ (∀ j, j < 8 → t + j ≠ v) ∧ (sh_E kp t 7 = t + 1 ∧ sh_E kp t 9 = t + 3 ∧ sh_E kp t 10 = t + 4 ∧ sh_E kp t 11 = t + 5 ∧ sh_E kp t 12 = t + 6 ∧ sh_E kp t 13 = t + 7) ∧ (sh_L (t + 1) = 8 ∧ sh_L (t + 3) = 10 ∧ sh_L (t + 4) = 10 ∧ sh_L (t + 5) = 10 ∧ sh_L (t + 6) = 10 ∧ sh_L (t + 7) = 10)
theorem rg_flE {kp o t v bk th : Nat} (hg : rg o t v bk th) : flE kp o t v := by
  rcases hg with ⟨rfl, rfl, rfl, rfl, rfl⟩ | ⟨rfl, rfl, rfl, rfl, rfl⟩
  · exact ⟨rfl, rfl, rfl, by decide, ⟨rfl, rfl, rfl, rfl, rfl, rfl⟩, rfl, rfl, rfl, rfl, rfl, rfl⟩
  · exact ⟨rfl, rfl, rfl, by decide, ⟨rfl, rfl, rfl, rfl, rfl, rfl⟩, rfl, rfl, rfl, rfl, rfl, rfl⟩
theorem e_f186 {kp fu o t v h : Nat} {D0 D : ev_D} {vals : Nat → Int32} {l2 : Int32} (F : flE kp o t v) (h4 : D0 t 4 = nI h) (hh : h < 20000) (P : fillP D0 v vals 8 D) (v8 : vals 8 = D0 t 2) (v9 : vals 9 = nI (h % 24)) (v10 : vals 10 = l2) : ∃ D', fX5_fillValues_186 sh_L (sh_E kp) fu o l2 D = some (nI 0, D') ∧ fillP D0 v vals 11 D' := by
  obtain ⟨f1, f2, f3, f4, -, -⟩ := F
  have tv : t ≠ v := f4 0 (by decide)
  have z : (ev_up D v 8 (D t 2)) t 4 = nI h := by rw [upN _ _ _ _ tv, P.1 t 4 tv, h4]
  rw [fX5_fillValues_186]
  simp (disch := omega) only [f1, f2, f3, i_8, i_9, i_10, i_24, i_0, gdI, nI_clamp, z, e_floorMod, bdS]
  exact ⟨_, rfl, fill_up (fill_up (fill_up P ((P.1 t 2 tv).trans v8.symm)) v9.symm) v10.symm⟩
theorem e_f157 {kp fu o t v h : Nat} {D0 D : ev_D} {vals : Nat → Int32} {l2 x : Int32} (F : flE kp o t v) (h4 : D0 t 4 = nI h) (hh : h < 20000) (P : fillP D0 v vals 5 D) (v5 : x = vals 5) (v6 : vals 6 = D0 t 3) (v7 : vals 7 = D0 t 1) (v8 : vals 8 = D0 t 2) (v9 : vals 9 = nI (h % 24)) (v10 : vals 10 = l2) : ∃ D', fX5_fillValues_157 sh_L (sh_E kp) fu o l2 v (nI 5) x D = some (nI 0, D') ∧ fillP D0 v vals 11 D' := by
  have F0 := F
  obtain ⟨f1, f2, f3, f4, -, -⟩ := F
  have tv : t ≠ v := f4 0 (by decide)
  rw [fX5_fillValues_157]
  simp (disch := omega) only [f1, f2, f3, i_6, i_7, gdI, nI_clamp]
  refine e_f186 F0 h4 hh (fill_up (fill_up (fill_up P v5) ?_) ?_) v8 v9 v10
  · rw [upN _ _ _ _ tv, P.1 t 3 tv, v6]
  · rw [upN _ _ _ _ tv, upN _ _ _ _ tv, P.1 t 1 tv, v7]
theorem e_fillR {kp fu o t v bk th : Nat} (hg : rg o t v bk th) {D : ev_D} {r R b h : Nat} (hr : r < R) (hR : R ≤ 10) (h5 : D t 5 = nI R) (hb : D (t + 3) r = nI b) (hb7 : b ≤ 7) (h4 : D t 4 = nI h) (hh : h < 20000) (fe : Int32) : ∃ D', fX5_fillValues sh_L (sh_E kp) fu o (nI r) fe D = some (nI 0, D') ∧ ex [v] [] D' D ∧ ∀ k, k < 11 → D' v k = vlR D t r fe k := by
  have F := rg_flE (kp := kp) hg
  have F0 := F
  obtain ⟨f1, f2, f3, f4, ⟨a1, a2, a3, a4, a5, a6⟩, b1, b2, b3, b4, b5, b6⟩ := F
  have P0 : fillP D v (vlR D t r fe) 0 D := ⟨fun _ _ _ => rfl, fun k hk => by omega⟩
  have P1 := fill_up (x := D (t + 4) r) P0 rfl
  have P2 := fill_up (x := D (t + 5) r) P1 rfl
  have P3 := fill_up (x := D (t + 6) r) P2 rfl
  have P4 := fill_up (x := D (t + 7) r) P3 rfl
  have P5 := fill_up (x := nI b) P4 hb.symm
  obtain ⟨D', q1, q2⟩ := e_f157 (fu := fu) (l2 := fe) (x := D (t + 1) b) F0 h4 hh P5 (show D (t + 1) b = D (t + 1) (nv (D (t + 3) r)) by rw [hb, nv_n (by omega)]) rfl rfl rfl (show nI (nv (D t 4) % 24) = nI (h % 24) by rw [h4, nv_n (by omega)]) rfl
  refine ⟨D', ?_, fun k i a _ => q2.1 k i (fun e => by rw [e, mem_iff.mpr (List.mem_singleton.mpr rfl)] at a; cases a), q2.2⟩
  have z2 : (ev_up D v 0 (D (t + 4) r)) (t + 5) r = D (t + 5) r := P1.1 _ _ (f4 5 (by decide))
  have z3 : (ev_up (ev_up D v 0 (D (t + 4) r)) v 1 (D (t + 5) r)) (t + 6) r = D (t + 6) r := P2.1 _ _ (f4 6 (by decide))
  have z4 : (ev_up (ev_up (ev_up D v 0 (D (t + 4) r)) v 1 (D (t + 5) r)) v 2 (D (t + 6) r)) (t + 7) r = D (t + 7) r := P3.1 _ _ (f4 7 (by decide))
  have z5 : (ev_up (ev_up (ev_up (ev_up (ev_up D v 0 (D (t + 4) r)) v 1 (D (t + 5) r)) v 2 (D (t + 6) r)) v 3 (D (t + 7) r)) v 4 (nI b)) (t + 1) b = D (t + 1) b := P5.1 _ _ (f4 1 (by decide))
  have ne1 : ¬ nI 1 = nI 0 := by decide
  rw [fX5_fillValues, f1, e_has1 _ _ _ _ hr hR h5, bdS, i_0, if_neg ne1, a2, b2, gdI (by omega) (by omega), nI_clamp (by omega), hb, i_7, e_held _ _ _ _ (by decide), bdS, hl_n hb7 (by decide)]
  rw [fX5_fillValues_32, i_0, if_neg ne1, f1, f2, a3, b3, gdI (by omega) (by omega), nI_clamp (by omega)]
  rw [fX5_fillValues_56, i_0, i_1, if_neg ne1, f1, f2, f3, a4, b4, gdI (by omega) (by omega), gdI (by omega) (by omega), nI_clamp (by omega), nI_clamp (by omega), z2]
  rw [fX5_fillValues_79, i_0, i_2, if_neg ne1, f1, f2, f3, a5, b5, gdI (by omega) (by omega), gdI (by omega) (by omega), nI_clamp (by omega), nI_clamp (by omega), z3]
  rw [fX5_fillValues_102, i_0, i_3, if_neg ne1, f1, f2, f3, a6, b6, gdI (by omega) (by omega), gdI (by omega) (by omega), nI_clamp (by omega), nI_clamp (by omega), z4]
  rw [fX5_fillValues_125, i_0, i_4, i_5, if_neg ne1, f1, f2, f3, a1, b1, gdI (by omega) (by omega), gdI (by omega) (by omega), gdI (by omega) (by omega), nI_clamp (by omega), nI_clamp (by omega), nI_clamp (by omega), z5]
  exact q1
theorem e_fillT {kp fu o t v bk th : Nat} (hg : rg o t v bk th) {D : ev_D} {R h : Nat} (h5 : D t 5 = nI R) (h4 : D t 4 = nI h) (hh : h < 20000) : ∃ D', fX5_fillValues sh_L (sh_E kp) fu o mi1 (nI 0) D = some (nI 0, D') ∧ ex [v] [] D' D ∧ ∀ k, k < 11 → D' v k = vlT D t k := by
  have hx : mi1 < nI 0 ∨ nI R ≤ mi1 := .inl (by decide)
  have F := rg_flE (kp := kp) hg
  have F0 := F
  obtain ⟨f1, f2, f3, f4, ⟨a1, a2, a3, a4, a5, a6⟩, b1, b2, b3, b4, b5, b6⟩ := F
  have P0 : fillP D v (vlT D t) 0 D := ⟨fun _ _ _ => rfl, fun k hk => by omega⟩
  have P5 := fill_up (x := nI 0) (fill_up (x := nI 0) (fill_up (x := nI 0) (fill_up (x := nI 0) (fill_up (x := nI 0) P0 rfl) rfl) rfl) rfl) rfl
  obtain ⟨D', q1, q2⟩ := e_f157 (fu := fu) (l2 := nI 0) (x := nI 0) F0 h4 hh P5 rfl rfl rfl rfl (show nI (nv (D t 4) % 24) = nI (h % 24) by rw [h4, nv_n (by omega)]) rfl
  refine ⟨D', ?_, fun k i a _ => q2.1 k i (fun e => by rw [e, mem_iff.mpr (List.mem_singleton.mpr rfl)] at a; cases a), q2.2⟩
  rw [fX5_fillValues, f1, e_has0 _ _ _ _ hx h5, bdS, i_0, if_pos rfl]
  rw [fX5_fillValues_32, i_0, if_pos rfl, f2]
  rw [fX5_fillValues_56, i_0, i_1, if_pos rfl, f2, f3, gdI (by omega) (by omega), nI_clamp (by omega)]
  rw [fX5_fillValues_79, i_0, i_2, if_pos rfl, f2, f3, gdI (by omega) (by omega), nI_clamp (by omega)]
  rw [fX5_fillValues_102, i_0, i_3, if_pos rfl, f2, f3, gdI (by omega) (by omega), nI_clamp (by omega)]
  rw [fX5_fillValues_125, i_0, i_4, i_5, if_pos rfl, f2, f3, gdI (by omega) (by omega), gdI (by omega) (by omega), nI_clamp (by omega), nI_clamp (by omega)]
  exact q1
theorem e_asksTower2 {kp fu : Nat} (k : Nat) : ∀ (i f : Nat) (D : ev_D), i + k = 11 → k < f → fX12_asksTower_2 sh_L (sh_E kp) fu f 132 (nI i) D = some (nI 0, ev_up (ev_up (ev_up (ev_up (fl 154 (fun _ => nI 0) i k D) 154 6 (D 133 5)) 154 7 (D 133 3)) 154 8 (D 133 4)) 154 9 (D 133 0 - D 133 0 / nI 24 * nI 24)) := by
  induction k with
  | zero =>
    intro i f D h1 h2
    obtain ⟨f, rfl⟩ : ∃ g, f = g + 1 := ⟨f - 1, by omega⟩
    rw [fX12_asksTower_2, fl_0]
    simp (disch := omega) only [fX12_asksTower_47, fX12_asksTower_76, ↓mm1, ↓mm9, ↓mm100, ↓mm8, bdS, gdI, gdZ, eq_self, e_within, e_isInM, e_isBell, addK, pk_mul, nI_clamp, ofN, true_and, false_and, and_false, and_true, and_self, ltT, ltF, leT, leF, eqF, m1F, m1F2, m1L, m1L2, m1G, i_0, i_1, i_2, i_3, i_4, i_5, i_6, i_7, i_8, i_9, i_10, i_11, i_12, i_14, i_15, i_16, i_17, i_18, i_19, i_20, i_21, i_23, i_24, i_25, i_26, i_31, i_32, i_34, i_40, i_41, i_42, i_43, i_44, i_45, i_47, i_48, i_57, i_59, i_60, i_61, i_62, i_63, i_65, i_80, i_90, i_97, i_98, i_99, i_100, i_122, i_150, i_151, i_255, i_256, i_258, i_259, i_260, i_261, i_262, i_263, i_271, i_273, i_274, i_275, i_276, i_277, i_281, i_282, i_380, i_400, i_500, i_600, i_800, i_999, i_1000, i_9999, i_10000, i_10100, i_10101, i_10102, i_10103, i_10104, i_10105, i_10106, i_10107, i_10108, i_10109, i_27720, i_65535, i_1664525, i_100000000, i_252645135, i_858993459, i_1013904223, i_1431655765, e_1_0, e_1_1, e_1_2, e_1_3, e_1_4, e_1_5, e_2_0, e_2_1, e_2_2, e_2_3, e_3_7, e_3_8, e_3_9, e_3_10, e_3_11, e_3_12, e_3_13, e_11_2, e_13_0, e_13_1, e_13_2, e_13_3, e_14_2, e_14_3, e_14_4, e_14_5, e_14_6, e_14_7, e_21_2, e_23_2, e_25_2, e_27_0, e_27_1, e_27_2, e_27_3, e_27_4, e_27_5, e_27_6, e_28_2, e_30_2, e_32_2, e_34_2, e_36_2, e_40_2, e_40_3, e_41_0, e_41_1, e_41_2, e_41_3, e_41_4, e_41_5, e_91_0, e_91_4, e_91_5, e_91_6, e_91_7, e_92_0, e_92_1, e_92_2, e_92_3, e_93_2, e_93_3, e_93_4, e_93_5, e_93_6, e_93_7, e_100_2, e_102_2, e_104_2, e_110_0, e_110_1, e_110_2, e_110_3, e_112_0, e_112_1, e_112_2, e_112_3, e_113_7, e_113_8, e_113_9, e_113_10, e_113_11, e_113_12, e_113_13, e_121_2, e_124_0, e_124_1, e_124_2, e_124_3, e_124_4, e_124_5, e_124_6, e_124_7, e_124_8, e_124_9, l_4, l_5, l_6, l_7, l_8, l_9, l_10, l_12, l_15, l_16, l_17, l_18, l_19, l_20, l_22, l_24, l_26, l_29, l_31, l_33, l_35, l_37, l_38, l_39, l_41, l_42, l_94, l_95, l_96, l_97, l_98, l_99, l_101, l_103, l_105, l_106, l_107, l_108, l_109, l_111, l_114, l_115, l_116, l_117, l_118, l_119, l_120, l_123, l_125, l_126, l_127, l_128, l_129, l_130, l_131, e_132_1, e_132_2, e_132_4, e_132_6, e_132_8, e_132_9, e_132_10, e_132_11, e_132_12, e_132_18, e_132_19, e_132_20, e_132_21, e_132_22, e_132_23, e_132_24, e_132_25, e_132_29, e_132_36, e_132_38, e_132_40, e_132_41, e_132_42, e_132_44, e_132_46, e_132_47, e_132_49, e_132_50, e_132_51, e_132_52, e_132_54, e_132_55, e_132_56, e_132_58, e_132_60, e_132_61, e_132_62, e_132_66, l_133, l_134, l_135, l_136, l_137, l_138, l_139, l_140, l_141, l_142, l_143, l_144, l_145, l_146, l_147, l_148, l_149, l_150, l_151, l_152, l_153, l_154, l_155, l_156, l_157, l_158, l_159, l_160, l_161, l_162, l_163, l_164, l_165, l_166, l_167, l_168, l_169, l_170, upA, reduceIte, neF]
  | succ k ih =>
    intro i f D h1 h2
    obtain ⟨f, rfl⟩ : ∃ g, f = g + 1 := ⟨f - 1, by omega⟩
    rw [fX12_asksTower_2, fl_s]
    simp (disch := omega) only [↓mm1, ↓mm9, ↓mm100, ↓mm8, bdS, gdI, gdZ, eq_self, e_within, e_isInM, e_isBell, addK, pk_mul, nI_clamp, ofN, true_and, false_and, and_false, and_true, and_self, ltT, ltF, leT, leF, eqF, m1F, m1F2, m1L, m1L2, m1G, i_0, i_1, i_2, i_3, i_4, i_5, i_6, i_7, i_8, i_9, i_10, i_11, i_12, i_14, i_15, i_16, i_17, i_18, i_19, i_20, i_21, i_23, i_24, i_25, i_26, i_31, i_32, i_34, i_40, i_41, i_42, i_43, i_44, i_45, i_47, i_48, i_57, i_59, i_60, i_61, i_62, i_63, i_65, i_80, i_90, i_97, i_98, i_99, i_100, i_122, i_150, i_151, i_255, i_256, i_258, i_259, i_260, i_261, i_262, i_263, i_271, i_273, i_274, i_275, i_276, i_277, i_281, i_282, i_380, i_400, i_500, i_600, i_800, i_999, i_1000, i_9999, i_10000, i_10100, i_10101, i_10102, i_10103, i_10104, i_10105, i_10106, i_10107, i_10108, i_10109, i_27720, i_65535, i_1664525, i_100000000, i_252645135, i_858993459, i_1013904223, i_1431655765, e_1_0, e_1_1, e_1_2, e_1_3, e_1_4, e_1_5, e_2_0, e_2_1, e_2_2, e_2_3, e_3_7, e_3_8, e_3_9, e_3_10, e_3_11, e_3_12, e_3_13, e_11_2, e_13_0, e_13_1, e_13_2, e_13_3, e_14_2, e_14_3, e_14_4, e_14_5, e_14_6, e_14_7, e_21_2, e_23_2, e_25_2, e_27_0, e_27_1, e_27_2, e_27_3, e_27_4, e_27_5, e_27_6, e_28_2, e_30_2, e_32_2, e_34_2, e_36_2, e_40_2, e_40_3, e_41_0, e_41_1, e_41_2, e_41_3, e_41_4, e_41_5, e_91_0, e_91_4, e_91_5, e_91_6, e_91_7, e_92_0, e_92_1, e_92_2, e_92_3, e_93_2, e_93_3, e_93_4, e_93_5, e_93_6, e_93_7, e_100_2, e_102_2, e_104_2, e_110_0, e_110_1, e_110_2, e_110_3, e_112_0, e_112_1, e_112_2, e_112_3, e_113_7, e_113_8, e_113_9, e_113_10, e_113_11, e_113_12, e_113_13, e_121_2, e_124_0, e_124_1, e_124_2, e_124_3, e_124_4, e_124_5, e_124_6, e_124_7, e_124_8, e_124_9, l_4, l_5, l_6, l_7, l_8, l_9, l_10, l_12, l_15, l_16, l_17, l_18, l_19, l_20, l_22, l_24, l_26, l_29, l_31, l_33, l_35, l_37, l_38, l_39, l_41, l_42, l_94, l_95, l_96, l_97, l_98, l_99, l_101, l_103, l_105, l_106, l_107, l_108, l_109, l_111, l_114, l_115, l_116, l_117, l_118, l_119, l_120, l_123, l_125, l_126, l_127, l_128, l_129, l_130, l_131, e_132_1, e_132_2, e_132_4, e_132_6, e_132_8, e_132_9, e_132_10, e_132_11, e_132_12, e_132_18, e_132_19, e_132_20, e_132_21, e_132_22, e_132_23, e_132_24, e_132_25, e_132_29, e_132_36, e_132_38, e_132_40, e_132_41, e_132_42, e_132_44, e_132_46, e_132_47, e_132_49, e_132_50, e_132_51, e_132_52, e_132_54, e_132_55, e_132_56, e_132_58, e_132_60, e_132_61, e_132_62, e_132_66, l_133, l_134, l_135, l_136, l_137, l_138, l_139, l_140, l_141, l_142, l_143, l_144, l_145, l_146, l_147, l_148, l_149, l_150, l_151, l_152, l_153, l_154, l_155, l_156, l_157, l_158, l_159, l_160, l_161, l_162, l_163, l_164, l_165, l_166, l_167, l_168, l_169, l_170, upA, reduceIte, neF, ih (i + 1) f _ (by omega) (by omega)]
theorem e_asksT {kp fu t : Nat} (hfu : 30000 ≤ fu) {c m : ev_D} {h : Nat} (hr : hR c m t) (h4 : c t 4 = nI h) (hh : h < 20000) : ∃ D', fX12_asksTower sh_L (sh_E kp) fu 132 m = some (nI 0, D') ∧ ex [154] [] D' m ∧ ∀ k, k < 11 → D' 154 k = vlT c t k := by
  obtain ⟨q1, q2, q3, q4, q5, q6, q7, q8, q9, q10⟩ := hr.2.1
  apply xs_mk
  · rw [fX12_asksTower, i_0]
    exact e_asksTower2 11 0 fu m rfl (by omega)
  · refine ⟨ex_up (ex_up (ex_up (ex_up (fl_ex _ _ _ _ (ex_rf _ _ _) rfl) rfl) rfl) rfl) rfl, fun k hk => ?_⟩
    rw [q1, q4, q5, q6, h4, pk_rem (by omega) (by omega) (by omega)]
    rcases lt11 hk with rfl | rfl | rfl | rfl | rfl | rfl | rfl | rfl | rfl | rfl | rfl <;> simp (disch := omega) only [vlT, fl_i, upA, neF, h4, nv_n, true_and, false_and, and_false, and_true, and_self, reduceIte]
theorem e_asksR {kp fu t : Nat} (hfu : 30000 ≤ fu) {c m : ev_D} {r R b h F P : Nat} (hr : hR c m t) (h5 : c t 5 = nI R) (hrR : r < R) (hR10 : R ≤ 10) (hb : c (t + 3) r = nI b) (hb7 : b ≤ 7) (h4 : c t 4 = nI h) (hh : h < 20000) (hF : m 151 r = nI F) (hFl : F < 1024) (hP : m 132 43 = nI P) : ∃ D', fX12_asks sh_L (sh_E kp) fu 132 (nI r) m = some (nI 0, D') ∧ ex [154] [] D' m ∧ ∀ k, k < 11 → D' 154 k = vlR c t r (nI (ones (F &&& P))) k := by
  obtain ⟨q1, q2, q3, q4, q5, q6, q7, q8, q9, q10⟩ := hr.2.1
  obtain ⟨-, -, -, f2, f3, f4, f5⟩ := hr
  have h3 := f3 r (by omega)
  rw [hb] at h3
  have hv := f2 b (by omega)
  have hFP : F &&& P < 65536 := Nat.lt_of_le_of_lt Nat.and_le_left (by omega)
  apply xs_mk
  · conv => lhs; simp (disch := omega) only [fX12_asks, fX12_asks_43, fX12_asks_70, fX12_asksTower, fX12_heavy, e_asksTower2 11 0 fu m rfl (show 11 < fu by omega), fl_n, h3, hF, hP, nI_and, e_onesOf, ↓mm1, ↓mm9, ↓mm100, ↓mm8, bdS, gdI, gdZ, eq_self, e_within, e_isInM, e_isBell, addK, pk_mul, nI_clamp, ofN, true_and, false_and, and_false, and_true, and_self, ltT, ltF, leT, leF, eqF, m1F, m1F2, m1L, m1L2, m1G, i_0, i_1, i_2, i_3, i_4, i_5, i_6, i_7, i_8, i_9, i_10, i_11, i_12, i_14, i_15, i_16, i_17, i_18, i_19, i_20, i_21, i_23, i_24, i_25, i_26, i_31, i_32, i_34, i_40, i_41, i_42, i_43, i_44, i_45, i_47, i_48, i_57, i_59, i_60, i_61, i_62, i_63, i_65, i_80, i_90, i_97, i_98, i_99, i_100, i_122, i_150, i_151, i_255, i_256, i_258, i_259, i_260, i_261, i_262, i_263, i_271, i_273, i_274, i_275, i_276, i_277, i_281, i_282, i_380, i_400, i_500, i_600, i_800, i_999, i_1000, i_9999, i_10000, i_10100, i_10101, i_10102, i_10103, i_10104, i_10105, i_10106, i_10107, i_10108, i_10109, i_27720, i_65535, i_1664525, i_100000000, i_252645135, i_858993459, i_1013904223, i_1431655765, e_1_0, e_1_1, e_1_2, e_1_3, e_1_4, e_1_5, e_2_0, e_2_1, e_2_2, e_2_3, e_3_7, e_3_8, e_3_9, e_3_10, e_3_11, e_3_12, e_3_13, e_11_2, e_13_0, e_13_1, e_13_2, e_13_3, e_14_2, e_14_3, e_14_4, e_14_5, e_14_6, e_14_7, e_21_2, e_23_2, e_25_2, e_27_0, e_27_1, e_27_2, e_27_3, e_27_4, e_27_5, e_27_6, e_28_2, e_30_2, e_32_2, e_34_2, e_36_2, e_40_2, e_40_3, e_41_0, e_41_1, e_41_2, e_41_3, e_41_4, e_41_5, e_91_0, e_91_4, e_91_5, e_91_6, e_91_7, e_92_0, e_92_1, e_92_2, e_92_3, e_93_2, e_93_3, e_93_4, e_93_5, e_93_6, e_93_7, e_100_2, e_102_2, e_104_2, e_110_0, e_110_1, e_110_2, e_110_3, e_112_0, e_112_1, e_112_2, e_112_3, e_113_7, e_113_8, e_113_9, e_113_10, e_113_11, e_113_12, e_113_13, e_121_2, e_124_0, e_124_1, e_124_2, e_124_3, e_124_4, e_124_5, e_124_6, e_124_7, e_124_8, e_124_9, l_4, l_5, l_6, l_7, l_8, l_9, l_10, l_12, l_15, l_16, l_17, l_18, l_19, l_20, l_22, l_24, l_26, l_29, l_31, l_33, l_35, l_37, l_38, l_39, l_41, l_42, l_94, l_95, l_96, l_97, l_98, l_99, l_101, l_103, l_105, l_106, l_107, l_108, l_109, l_111, l_114, l_115, l_116, l_117, l_118, l_119, l_120, l_123, l_125, l_126, l_127, l_128, l_129, l_130, l_131, e_132_1, e_132_2, e_132_4, e_132_6, e_132_8, e_132_9, e_132_10, e_132_11, e_132_12, e_132_18, e_132_19, e_132_20, e_132_21, e_132_22, e_132_23, e_132_24, e_132_25, e_132_29, e_132_36, e_132_38, e_132_40, e_132_41, e_132_42, e_132_44, e_132_46, e_132_47, e_132_49, e_132_50, e_132_51, e_132_52, e_132_54, e_132_55, e_132_56, e_132_58, e_132_60, e_132_61, e_132_62, e_132_66, l_133, l_134, l_135, l_136, l_137, l_138, l_139, l_140, l_141, l_142, l_143, l_144, l_145, l_146, l_147, l_148, l_149, l_150, l_151, l_152, l_153, l_154, l_155, l_156, l_157, l_158, l_159, l_160, l_161, l_162, l_163, l_164, l_165, l_166, l_167, l_168, l_169, l_170, upA, reduceIte, neF]
  · refine ⟨by repeat (first | exact fl_ex _ _ _ _ (ex_rf _ _ _) rfl | refine ex_up ?_ rfl), fun k hk => ?_⟩
    rcases lt11 hk with rfl | rfl | rfl | rfl | rfl | rfl | rfl | rfl | rfl | rfl | rfl <;> simp (disch := omega) only [vlR, fl_i, upA, neF, h4, hb, nv_n, true_and, false_and, and_false, and_true, and_self, reduceIte, q1, q4, q5, q6, q8, q9, f4, f5, hv, pk_rem]
