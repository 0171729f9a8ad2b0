/-! ===== what can be undone is kept ===== -/
def mix (c m : ev_D) : ev_D := fun k i => if 132 ≤ k ∧ k ≤ 170 then m k i else c k i
theorem mixC (c m : ev_D) {k : Nat} (h : k < 132 ∨ 170 < k) (i : Nat) : mix c m k i = c k i := if_neg (by omega)
theorem mixM (c m : ev_D) {k : Nat} (h1 : 132 ≤ k) (h2 : k ≤ 170) (i : Nat) : mix c m k i = m k i := if_pos ⟨h1, h2⟩
theorem g_P1_cg2 {D D' : ev_D} {j j' y : Nat} (hT : ∀ t, t < 8 → ∀ i, i < rgT t → D' (43 + 8 * y + t) i = D (43 + 8 * y + t) i) (h42 : D' 42 y = D 42 y) (hrow : ∀ q, q < 44 → D' 134 (44 * j' + q) = D 134 (44 * j + q)) (h5 : D' 3 5 = D 3 5) (h4 : ∀ i, i < 8 → D' 4 i = D 4 i) (h6 : ∀ i, i < 10 → D' 6 i = D 6 i) (h7 : ∀ i, i < 10 → D' 7 i = D 7 i) (h8 : ∀ i, i < 10 → D' 8 i = D 8 i) (g : g_P1 D j y) : g_P1 D' j' y := by
  obtain ⟨g1, g2, g3, g4, g5, g6, g7, g8, g9⟩ := g
  have t0 : ∀ i, i < 7 → D' (43 + 8 * y) i = D (43 + 8 * y) i := fun i hi => hT 0 (by decide) i hi
  refine ⟨tw_B_cg hT g1, ?_, ?_, tw_R_cg hT h42 hrow g1.1 g4, ?_, ?_, ?_, ?_, ?_⟩
  · rw [t0 4 (by decide)]; exact g2
  · rw [h42]; exact g3
  · rw [t0 5 (by decide), h5]; exact g5
  · intro i hi; rw [hT 1 (by decide) i hi, h4 i hi]; exact g6 i hi
  · intro i hi; rw [hT 3 (by decide) i hi, h6 i hi]; exact g7 i hi
  · intro i hi; rw [hT 4 (by decide) i hi, h7 i hi]; exact g8 i hi
  · intro i hi; rw [hT 5 (by decide) i hi, h8 i hi]; exact g9 i hi
theorem gP_cg {D D' : ev_D} (h : ∀ k, mem pCl k = true → k ≠ 3 → D' k = D k) (h5 : D' 3 5 = D 3 5) (h3 : D' 132 3 = D 132 3) (g : g_P D) : g_P D' := by
  obtain ⟨g1, g2, g3, g4⟩ := g
  have h40 : D' 40 = D 40 := h 40 rfl (by decide)
  rw [g_P, h40, h3]
  refine ⟨g1, g2, g3, fun j hj => g_P1_cg2 (fun t ht i _ => ?_) (by rw [h 42 rfl (by decide)]) (fun q _ => by rw [h 134 rfl (by decide)]) h5 (fun i _ => by rw [h 4 rfl (by decide)]) (fun i _ => by rw [h 6 rfl (by decide)]) (fun i _ => by rw [h 7 rfl (by decide)]) (fun i _ => by rw [h 8 rfl (by decide)]) (g4 j hj)⟩
  have hx : (nv (D 40 1) + 6 - nv (D 40 0) + j) % 6 < 6 := Nat.mod_lt _ (by decide)
  have := pCl_in (8 * ((nv (D 40 1) + 6 - nv (D 40 0) + j) % 6) + t) (by omega)
  rw [← Nat.add_assoc] at this
  rw [h _ this (by omega)]
theorem e_keepC {kp fu x n : Nat} (hfu : 30000 ≤ fu) {D : ev_D} (hx : x < 6) (hn : n ≤ 6) (e0 : D 40 0 = nI n) (e1 : D 40 1 = nI x) : ∃ D', fX2_keep sh_L (sh_E kp) fu 40 3 11 D = some (nI 0, D') ∧ (∀ j, j < 8 → ∀ i, i < rgT j → D' (43 + 8 * x + j) i = D (3 + j) i) ∧ D' 42 x = D 11 0 ∧ (∀ y, y ≠ x → D' 42 y = D 42 y) ∧ D' 40 0 = nI (min 6 (n + 1)) ∧ D' 40 1 = nI ((x + 1) % 6) ∧ ∀ k i, k ≠ 40 → k ≠ 42 → ¬ (43 + 8 * x ≤ k ∧ k < 43 + 8 * x + 8) → D' k i = D k i := by
  obtain ⟨D1, q1, q2, q3, q4⟩ := e_become (kp := kp) (fu := fu) (twE_43 kp hx) (twE_3 kp) (by omega) D
  have z0 : D1 40 0 = nI n := (q3 40 0 (by omega)).trans e0
  have z11 : D1 11 0 = D 11 0 := q3 11 0 (by omega)
  apply xs_mk
  · conv => lhs; simp (disch := omega) only [fX2_keep, e1, e_floorMod, Nat.mod_eq_of_lt hx, e41, q1, z0, z11, e_min, pk_rem, ↓mm1, ↓mm9, ↓mm100, ↓mm8, bdS, gdI, gdZ, eq_self, e_within, e_isInM, e_isBell, addK, pk_mul, nI_clamp, ofN, true_and, false_and, and_false, and_true, and_self, ltT, ltF, leT, leF, eqF, m1F, m1F2, m1L, m1L2, m1G, i_0, i_1, i_2, i_3, i_4, i_5, i_6, i_7, i_8, i_9, i_10, i_11, i_12, i_14, i_15, i_16, i_17, i_18, i_19, i_20, i_21, i_23, i_24, i_25, i_26, i_31, i_32, i_34, i_40, i_41, i_42, i_43, i_44, i_45, i_47, i_48, i_57, i_59, i_60, i_61, i_62, i_63, i_65, i_80, i_90, i_97, i_98, i_99, i_100, i_122, i_150, i_151, i_255, i_256, i_258, i_259, i_260, i_261, i_262, i_263, i_271, i_273, i_274, i_275, i_276, i_277, i_281, i_282, i_380, i_400, i_500, i_600, i_800, i_999, i_1000, i_9999, i_10000, i_10100, i_10101, i_10102, i_10103, i_10104, i_10105, i_10106, i_10107, i_10108, i_10109, i_27720, i_65535, i_1664525, i_100000000, i_252645135, i_858993459, i_1013904223, i_1431655765, e_1_0, e_1_1, e_1_2, e_1_3, e_1_4, e_1_5, e_2_0, e_2_1, e_2_2, e_2_3, e_3_7, e_3_8, e_3_9, e_3_10, e_3_11, e_3_12, e_3_13, e_11_2, e_13_0, e_13_1, e_13_2, e_13_3, e_14_2, e_14_3, e_14_4, e_14_5, e_14_6, e_14_7, e_21_2, e_23_2, e_25_2, e_27_0, e_27_1, e_27_2, e_27_3, e_27_4, e_27_5, e_27_6, e_28_2, e_30_2, e_32_2, e_34_2, e_36_2, e_40_2, e_40_3, e_41_0, e_41_1, e_41_2, e_41_3, e_41_4, e_41_5, e_91_0, e_91_4, e_91_5, e_91_6, e_91_7, e_92_0, e_92_1, e_92_2, e_92_3, e_93_2, e_93_3, e_93_4, e_93_5, e_93_6, e_93_7, e_100_2, e_102_2, e_104_2, e_110_0, e_110_1, e_110_2, e_110_3, e_112_0, e_112_1, e_112_2, e_112_3, e_113_7, e_113_8, e_113_9, e_113_10, e_113_11, e_113_12, e_113_13, e_121_2, e_124_0, e_124_1, e_124_2, e_124_3, e_124_4, e_124_5, e_124_6, e_124_7, e_124_8, e_124_9, l_4, l_5, l_6, l_7, l_8, l_9, l_10, l_12, l_15, l_16, l_17, l_18, l_19, l_20, l_22, l_24, l_26, l_29, l_31, l_33, l_35, l_37, l_38, l_39, l_41, l_42, l_94, l_95, l_96, l_97, l_98, l_99, l_101, l_103, l_105, l_106, l_107, l_108, l_109, l_111, l_114, l_115, l_116, l_117, l_118, l_119, l_120, l_123, l_125, l_126, l_127, l_128, l_129, l_130, l_131, e_132_1, e_132_2, e_132_4, e_132_6, e_132_8, e_132_9, e_132_10, e_132_11, e_132_12, e_132_18, e_132_19, e_132_20, e_132_21, e_132_22, e_132_23, e_132_24, e_132_25, e_132_29, e_132_36, e_132_38, e_132_40, e_132_41, e_132_42, e_132_44, e_132_46, e_132_47, e_132_49, e_132_50, e_132_51, e_132_52, e_132_54, e_132_55, e_132_56, e_132_58, e_132_60, e_132_61, e_132_62, e_132_66, l_133, l_134, l_135, l_136, l_137, l_138, l_139, l_140, l_141, l_142, l_143, l_144, l_145, l_146, l_147, l_148, l_149, l_150, l_151, l_152, l_153, l_154, l_155, l_156, l_157, l_158, l_159, l_160, l_161, l_162, l_163, l_164, l_165, l_166, l_167, l_168, l_169, l_170, upA, reduceIte, neF]
  · refine ⟨fun j hj i hi => ?_, ?_, fun y hy => ?_, ?_, ?_, fun k i h1 h2 h3 => ?_⟩
    · simp (disch := omega) only [upA, neF, eqTn, true_and, false_and, and_false, and_true, and_self, reduceIte]
      exact q2 j hj i hi
    · simp (disch := omega) only [upA, neF, eqTn, true_and, false_and, and_false, and_true, and_self, reduceIte]
    · simp (disch := omega) only [upA, neF, eqTn, true_and, false_and, and_false, and_true, and_self, reduceIte]
      exact q3 42 y (by omega)
    · simp (disch := omega) only [upA, neF, eqTn, true_and, false_and, and_false, and_true, and_self, reduceIte]
    · simp (disch := omega) only [upA, neF, eqTn, true_and, false_and, and_false, and_true, and_self, reduceIte]
    · simp (disch := omega) only [upA, neF, eqTn, true_and, false_and, and_false, and_true, and_self, reduceIte]
      exact q3 k i h3
theorem e_ahead55 {kp fu n : Nat} (hn : n < 6) {w : Nat → Int32} (k : Nat) : ∀ (i f : Nat) (D : ev_D), i + k = 44 → k < f → D 132 3 = nI n → (∀ q, D 133 q = w q) → fX12_keepsAhead_55 sh_L (sh_E kp) fu f 132 (nI i) D = some (nI 0, ev_up (fl 134 (fun p => w (p - 44 * n)) (44 * n + i) k D) 132 3 (nI (n + 1))) := by
  induction k with
  | zero =>
    intro i f D h1 h2 h3 h4
    obtain ⟨f, rfl⟩ : ∃ g, f = g + 1 := ⟨f - 1, by omega⟩
    rw [fX12_keepsAhead_55, fl_0]
    simp (disch := omega) only [↓mm1, ↓mm9, ↓mm100, ↓mm8, bdS, gdI, gdZ, eq_self, e_within, e_isInM, e_isBell, addK, pk_mul, nI_clamp, ofN, true_and, false_and, and_false, and_true, and_self, ltT, ltF, leT, leF, eqF, m1F, m1F2, m1L, m1L2, m1G, i_0, i_1, i_2, i_3, i_4, i_5, i_6, i_7, i_8, i_9, i_10, i_11, i_12, i_14, i_15, i_16, i_17, i_18, i_19, i_20, i_21, i_23, i_24, i_25, i_26, i_31, i_32, i_34, i_40, i_41, i_42, i_43, i_44, i_45, i_47, i_48, i_57, i_59, i_60, i_61, i_62, i_63, i_65, i_80, i_90, i_97, i_98, i_99, i_100, i_122, i_150, i_151, i_255, i_256, i_258, i_259, i_260, i_261, i_262, i_263, i_271, i_273, i_274, i_275, i_276, i_277, i_281, i_282, i_380, i_400, i_500, i_600, i_800, i_999, i_1000, i_9999, i_10000, i_10100, i_10101, i_10102, i_10103, i_10104, i_10105, i_10106, i_10107, i_10108, i_10109, i_27720, i_65535, i_1664525, i_100000000, i_252645135, i_858993459, i_1013904223, i_1431655765, e_1_0, e_1_1, e_1_2, e_1_3, e_1_4, e_1_5, e_2_0, e_2_1, e_2_2, e_2_3, e_3_7, e_3_8, e_3_9, e_3_10, e_3_11, e_3_12, e_3_13, e_11_2, e_13_0, e_13_1, e_13_2, e_13_3, e_14_2, e_14_3, e_14_4, e_14_5, e_14_6, e_14_7, e_21_2, e_23_2, e_25_2, e_27_0, e_27_1, e_27_2, e_27_3, e_27_4, e_27_5, e_27_6, e_28_2, e_30_2, e_32_2, e_34_2, e_36_2, e_40_2, e_40_3, e_41_0, e_41_1, e_41_2, e_41_3, e_41_4, e_41_5, e_91_0, e_91_4, e_91_5, e_91_6, e_91_7, e_92_0, e_92_1, e_92_2, e_92_3, e_93_2, e_93_3, e_93_4, e_93_5, e_93_6, e_93_7, e_100_2, e_102_2, e_104_2, e_110_0, e_110_1, e_110_2, e_110_3, e_112_0, e_112_1, e_112_2, e_112_3, e_113_7, e_113_8, e_113_9, e_113_10, e_113_11, e_113_12, e_113_13, e_121_2, e_124_0, e_124_1, e_124_2, e_124_3, e_124_4, e_124_5, e_124_6, e_124_7, e_124_8, e_124_9, l_4, l_5, l_6, l_7, l_8, l_9, l_10, l_12, l_15, l_16, l_17, l_18, l_19, l_20, l_22, l_24, l_26, l_29, l_31, l_33, l_35, l_37, l_38, l_39, l_41, l_42, l_94, l_95, l_96, l_97, l_98, l_99, l_101, l_103, l_105, l_106, l_107, l_108, l_109, l_111, l_114, l_115, l_116, l_117, l_118, l_119, l_120, l_123, l_125, l_126, l_127, l_128, l_129, l_130, l_131, e_132_1, e_132_2, e_132_4, e_132_6, e_132_8, e_132_9, e_132_10, e_132_11, e_132_12, e_132_18, e_132_19, e_132_20, e_132_21, e_132_22, e_132_23, e_132_24, e_132_25, e_132_29, e_132_36, e_132_38, e_132_40, e_132_41, e_132_42, e_132_44, e_132_46, e_132_47, e_132_49, e_132_50, e_132_51, e_132_52, e_132_54, e_132_55, e_132_56, e_132_58, e_132_60, e_132_61, e_132_62, e_132_66, l_133, l_134, l_135, l_136, l_137, l_138, l_139, l_140, l_141, l_142, l_143, l_144, l_145, l_146, l_147, l_148, l_149, l_150, l_151, l_152, l_153, l_154, l_155, l_156, l_157, l_158, l_159, l_160, l_161, l_162, l_163, l_164, l_165, l_166, l_167, l_168, l_169, l_170, upA, reduceIte, neF, h3]
  | succ k ih =>
    intro i f D h1 h2 h3 h4
    obtain ⟨f, rfl⟩ : ∃ g, f = g + 1 := ⟨f - 1, by omega⟩
    rw [fX12_keepsAhead_55, fl_s, show 44 * n + i - 44 * n = i by omega, show 44 * n + i + 1 = 44 * n + (i + 1) by omega, ← ih (i + 1) f _ (by omega) (by omega) (by simp (disch := omega) only [upA, neF, eqTn, true_and, false_and, and_false, and_true, and_self, reduceIte]; exact h3) (fun q => by simp (disch := omega) only [upA, neF, eqTn, true_and, false_and, and_false, and_true, and_self, reduceIte]; exact h4 q)]
    simp (disch := omega) only [↓mm1, ↓mm9, ↓mm100, ↓mm8, bdS, gdI, gdZ, eq_self, e_within, e_isInM, e_isBell, addK, pk_mul, nI_clamp, ofN, true_and, false_and, and_false, and_true, and_self, ltT, ltF, leT, leF, eqF, m1F, m1F2, m1L, m1L2, m1G, i_0, i_1, i_2, i_3, i_4, i_5, i_6, i_7, i_8, i_9, i_10, i_11, i_12, i_14, i_15, i_16, i_17, i_18, i_19, i_20, i_21, i_23, i_24, i_25, i_26, i_31, i_32, i_34, i_40, i_41, i_42, i_43, i_44, i_45, i_47, i_48, i_57, i_59, i_60, i_61, i_62, i_63, i_65, i_80, i_90, i_97, i_98, i_99, i_100, i_122, i_150, i_151, i_255, i_256, i_258, i_259, i_260, i_261, i_262, i_263, i_271, i_273, i_274, i_275, i_276, i_277, i_281, i_282, i_380, i_400, i_500, i_600, i_800, i_999, i_1000, i_9999, i_10000, i_10100, i_10101, i_10102, i_10103, i_10104, i_10105, i_10106, i_10107, i_10108, i_10109, i_27720, i_65535, i_1664525, i_100000000, i_252645135, i_858993459, i_1013904223, i_1431655765, e_1_0, e_1_1, e_1_2, e_1_3, e_1_4, e_1_5, e_2_0, e_2_1, e_2_2, e_2_3, e_3_7, e_3_8, e_3_9, e_3_10, e_3_11, e_3_12, e_3_13, e_11_2, e_13_0, e_13_1, e_13_2, e_13_3, e_14_2, e_14_3, e_14_4, e_14_5, e_14_6, e_14_7, e_21_2, e_23_2, e_25_2, e_27_0, e_27_1, e_27_2, e_27_3, e_27_4, e_27_5, e_27_6, e_28_2, e_30_2, e_32_2, e_34_2, e_36_2, e_40_2, e_40_3, e_41_0, e_41_1, e_41_2, e_41_3, e_41_4, e_41_5, e_91_0, e_91_4, e_91_5, e_91_6, e_91_7, e_92_0, e_92_1, e_92_2, e_92_3, e_93_2, e_93_3, e_93_4, e_93_5, e_93_6, e_93_7, e_100_2, e_102_2, e_104_2, e_110_0, e_110_1, e_110_2, e_110_3, e_112_0, e_112_1, e_112_2, e_112_3, e_113_7, e_113_8, e_113_9, e_113_10, e_113_11, e_113_12, e_113_13, e_121_2, e_124_0, e_124_1, e_124_2, e_124_3, e_124_4, e_124_5, e_124_6, e_124_7, e_124_8, e_124_9, l_4, l_5, l_6, l_7, l_8, l_9, l_10, l_12, l_15, l_16, l_17, l_18, l_19, l_20, l_22, l_24, l_26, l_29, l_31, l_33, l_35, l_37, l_38, l_39, l_41, l_42, l_94, l_95, l_96, l_97, l_98, l_99, l_101, l_103, l_105, l_106, l_107, l_108, l_109, l_111, l_114, l_115, l_116, l_117, l_118, l_119, l_120, l_123, l_125, l_126, l_127, l_128, l_129, l_130, l_131, e_132_1, e_132_2, e_132_4, e_132_6, e_132_8, e_132_9, e_132_10, e_132_11, e_132_12, e_132_18, e_132_19, e_132_20, e_132_21, e_132_22, e_132_23, e_132_24, e_132_25, e_132_29, e_132_36, e_132_38, e_132_40, e_132_41, e_132_42, e_132_44, e_132_46, e_132_47, e_132_49, e_132_50, e_132_51, e_132_52, e_132_54, e_132_55, e_132_56, e_132_58, e_132_60, e_132_61, e_132_62, e_132_66, l_133, l_134, l_135, l_136, l_137, l_138, l_139, l_140, l_141, l_142, l_143, l_144, l_145, l_146, l_147, l_148, l_149, l_150, l_151, l_152, l_153, l_154, l_155, l_156, l_157, l_158, l_159, l_160, l_161, l_162, l_163, l_164, l_165, l_166, l_167, l_168, l_169, l_170, upA, reduceIte, neF, h3, h4]
theorem e_ahead21 {kp fu : Nat} {w : Nat → Int32} (k : Nat) : ∀ (i f : Nat) (D : ev_D), i + k = 220 → k < f → D 132 3 = nI 5 → (∀ q, i ≤ q → D 134 q = w q) → fX12_keepsAhead_21 sh_L (sh_E kp) fu f 132 (nI i) D = fX12_keepsAhead_55 sh_L (sh_E kp) fu fu 132 (nI 0) (fl 134 (fun p => w (p + 44)) i k D) := by
  induction k with
  | zero =>
    intro i f D h1 h2 h3 h4
    obtain ⟨f, rfl⟩ : ∃ g, f = g + 1 := ⟨f - 1, by omega⟩
    rw [fX12_keepsAhead_21, fl_0]
    simp (disch := omega) only [↓mm1, ↓mm9, ↓mm100, ↓mm8, bdS, gdI, gdZ, eq_self, e_within, e_isInM, e_isBell, addK, pk_mul, nI_clamp, ofN, true_and, false_and, and_false, and_true, and_self, ltT, ltF, leT, leF, eqF, m1F, m1F2, m1L, m1L2, m1G, i_0, i_1, i_2, i_3, i_4, i_5, i_6, i_7, i_8, i_9, i_10, i_11, i_12, i_14, i_15, i_16, i_17, i_18, i_19, i_20, i_21, i_23, i_24, i_25, i_26, i_31, i_32, i_34, i_40, i_41, i_42, i_43, i_44, i_45, i_47, i_48, i_57, i_59, i_60, i_61, i_62, i_63, i_65, i_80, i_90, i_97, i_98, i_99, i_100, i_122, i_150, i_151, i_255, i_256, i_258, i_259, i_260, i_261, i_262, i_263, i_271, i_273, i_274, i_275, i_276, i_277, i_281, i_282, i_380, i_400, i_500, i_600, i_800, i_999, i_1000, i_9999, i_10000, i_10100, i_10101, i_10102, i_10103, i_10104, i_10105, i_10106, i_10107, i_10108, i_10109, i_27720, i_65535, i_1664525, i_100000000, i_252645135, i_858993459, i_1013904223, i_1431655765, e_1_0, e_1_1, e_1_2, e_1_3, e_1_4, e_1_5, e_2_0, e_2_1, e_2_2, e_2_3, e_3_7, e_3_8, e_3_9, e_3_10, e_3_11, e_3_12, e_3_13, e_11_2, e_13_0, e_13_1, e_13_2, e_13_3, e_14_2, e_14_3, e_14_4, e_14_5, e_14_6, e_14_7, e_21_2, e_23_2, e_25_2, e_27_0, e_27_1, e_27_2, e_27_3, e_27_4, e_27_5, e_27_6, e_28_2, e_30_2, e_32_2, e_34_2, e_36_2, e_40_2, e_40_3, e_41_0, e_41_1, e_41_2, e_41_3, e_41_4, e_41_5, e_91_0, e_91_4, e_91_5, e_91_6, e_91_7, e_92_0, e_92_1, e_92_2, e_92_3, e_93_2, e_93_3, e_93_4, e_93_5, e_93_6, e_93_7, e_100_2, e_102_2, e_104_2, e_110_0, e_110_1, e_110_2, e_110_3, e_112_0, e_112_1, e_112_2, e_112_3, e_113_7, e_113_8, e_113_9, e_113_10, e_113_11, e_113_12, e_113_13, e_121_2, e_124_0, e_124_1, e_124_2, e_124_3, e_124_4, e_124_5, e_124_6, e_124_7, e_124_8, e_124_9, l_4, l_5, l_6, l_7, l_8, l_9, l_10, l_12, l_15, l_16, l_17, l_18, l_19, l_20, l_22, l_24, l_26, l_29, l_31, l_33, l_35, l_37, l_38, l_39, l_41, l_42, l_94, l_95, l_96, l_97, l_98, l_99, l_101, l_103, l_105, l_106, l_107, l_108, l_109, l_111, l_114, l_115, l_116, l_117, l_118, l_119, l_120, l_123, l_125, l_126, l_127, l_128, l_129, l_130, l_131, e_132_1, e_132_2, e_132_4, e_132_6, e_132_8, e_132_9, e_132_10, e_132_11, e_132_12, e_132_18, e_132_19, e_132_20, e_132_21, e_132_22, e_132_23, e_132_24, e_132_25, e_132_29, e_132_36, e_132_38, e_132_40, e_132_41, e_132_42, e_132_44, e_132_46, e_132_47, e_132_49, e_132_50, e_132_51, e_132_52, e_132_54, e_132_55, e_132_56, e_132_58, e_132_60, e_132_61, e_132_62, e_132_66, l_133, l_134, l_135, l_136, l_137, l_138, l_139, l_140, l_141, l_142, l_143, l_144, l_145, l_146, l_147, l_148, l_149, l_150, l_151, l_152, l_153, l_154, l_155, l_156, l_157, l_158, l_159, l_160, l_161, l_162, l_163, l_164, l_165, l_166, l_167, l_168, l_169, l_170, upA, reduceIte, neF, h3]
  | succ k ih =>
    intro i f D h1 h2 h3 h4
    obtain ⟨f, rfl⟩ : ∃ g, f = g + 1 := ⟨f - 1, by omega⟩
    rw [fX12_keepsAhead_21, fl_s, ← ih (i + 1) f _ (by omega) (by omega) (by simp (disch := omega) only [upA, neF, eqTn, true_and, false_and, and_false, and_true, and_self, reduceIte]; exact h3) (fun q hq => by simp (disch := omega) only [upA, neF, eqTn, true_and, false_and, and_false, and_true, and_self, reduceIte]; exact h4 q (by omega))]
    simp (disch := omega) only [↓mm1, ↓mm9, ↓mm100, ↓mm8, bdS, gdI, gdZ, eq_self, e_within, e_isInM, e_isBell, addK, pk_mul, nI_clamp, ofN, true_and, false_and, and_false, and_true, and_self, ltT, ltF, leT, leF, eqF, m1F, m1F2, m1L, m1L2, m1G, i_0, i_1, i_2, i_3, i_4, i_5, i_6, i_7, i_8, i_9, i_10, i_11, i_12, i_14, i_15, i_16, i_17, i_18, i_19, i_20, i_21, i_23, i_24, i_25, i_26, i_31, i_32, i_34, i_40, i_41, i_42, i_43, i_44, i_45, i_47, i_48, i_57, i_59, i_60, i_61, i_62, i_63, i_65, i_80, i_90, i_97, i_98, i_99, i_100, i_122, i_150, i_151, i_255, i_256, i_258, i_259, i_260, i_261, i_262, i_263, i_271, i_273, i_274, i_275, i_276, i_277, i_281, i_282, i_380, i_400, i_500, i_600, i_800, i_999, i_1000, i_9999, i_10000, i_10100, i_10101, i_10102, i_10103, i_10104, i_10105, i_10106, i_10107, i_10108, i_10109, i_27720, i_65535, i_1664525, i_100000000, i_252645135, i_858993459, i_1013904223, i_1431655765, e_1_0, e_1_1, e_1_2, e_1_3, e_1_4, e_1_5, e_2_0, e_2_1, e_2_2, e_2_3, e_3_7, e_3_8, e_3_9, e_3_10, e_3_11, e_3_12, e_3_13, e_11_2, e_13_0, e_13_1, e_13_2, e_13_3, e_14_2, e_14_3, e_14_4, e_14_5, e_14_6, e_14_7, e_21_2, e_23_2, e_25_2, e_27_0, e_27_1, e_27_2, e_27_3, e_27_4, e_27_5, e_27_6, e_28_2, e_30_2, e_32_2, e_34_2, e_36_2, e_40_2, e_40_3, e_41_0, e_41_1, e_41_2, e_41_3, e_41_4, e_41_5, e_91_0, e_91_4, e_91_5, e_91_6, e_91_7, e_92_0, e_92_1, e_92_2, e_92_3, e_93_2, e_93_3, e_93_4, e_93_5, e_93_6, e_93_7, e_100_2, e_102_2, e_104_2, e_110_0, e_110_1, e_110_2, e_110_3, e_112_0, e_112_1, e_112_2, e_112_3, e_113_7, e_113_8, e_113_9, e_113_10, e_113_11, e_113_12, e_113_13, e_121_2, e_124_0, e_124_1, e_124_2, e_124_3, e_124_4, e_124_5, e_124_6, e_124_7, e_124_8, e_124_9, l_4, l_5, l_6, l_7, l_8, l_9, l_10, l_12, l_15, l_16, l_17, l_18, l_19, l_20, l_22, l_24, l_26, l_29, l_31, l_33, l_35, l_37, l_38, l_39, l_41, l_42, l_94, l_95, l_96, l_97, l_98, l_99, l_101, l_103, l_105, l_106, l_107, l_108, l_109, l_111, l_114, l_115, l_116, l_117, l_118, l_119, l_120, l_123, l_125, l_126, l_127, l_128, l_129, l_130, l_131, e_132_1, e_132_2, e_132_4, e_132_6, e_132_8, e_132_9, e_132_10, e_132_11, e_132_12, e_132_18, e_132_19, e_132_20, e_132_21, e_132_22, e_132_23, e_132_24, e_132_25, e_132_29, e_132_36, e_132_38, e_132_40, e_132_41, e_132_42, e_132_44, e_132_46, e_132_47, e_132_49, e_132_50, e_132_51, e_132_52, e_132_54, e_132_55, e_132_56, e_132_58, e_132_60, e_132_61, e_132_62, e_132_66, l_133, l_134, l_135, l_136, l_137, l_138, l_139, l_140, l_141, l_142, l_143, l_144, l_145, l_146, l_147, l_148, l_149, l_150, l_151, l_152, l_153, l_154, l_155, l_156, l_157, l_158, l_159, l_160, l_161, l_162, l_163, l_164, l_165, l_166, l_167, l_168, l_169, l_170, upA, reduceIte, neF, h3, h4]
theorem e_keepM {kp fu n : Nat} (hfu : 30000 ≤ fu) {D : ev_D} (hn : n ≤ 6) (e3 : D 132 3 = nI n) : ∃ D', fX12_keepsAhead sh_L (sh_E kp) fu 132 D = some (nI 0, D') ∧ D' 132 3 = nI (min 6 (n + 1)) ∧ (∀ j q, j < n → n < 6 → q < 44 → D' 134 (44 * j + q) = D 134 (44 * j + q)) ∧ (∀ j q, j < 5 → n = 6 → q < 44 → D' 134 (44 * j + q) = D 134 (44 * (j + 1) + q)) ∧ (∀ q, q < 44 → D' 134 (44 * (min 6 (n + 1) - 1) + q) = D 133 q) ∧ ex [134] [3] D' D := by
  by_cases h6 : n = 6
  · subst h6
    apply xs_mk
    · rw [fX12_keepsAhead, e3, i_6, if_pos rfl, i_1, pk_sub (by decide), i_0]
      refine (e_ahead21 (w := D 134) 220 0 fu _ rfl (by omega) (by simp (disch := omega) only [upA, neF, eqTn, true_and, false_and, and_false, and_true, and_self, reduceIte]) (fun q _ => by simp (disch := omega) only [upA, neF, eqTn, true_and, false_and, and_false, and_true, and_self, reduceIte])).trans ?_
      exact e_ahead55 (n := 5) (w := D 133) (by decide) 44 0 fu _ rfl (by omega) (by rw [fl_n _ _ _ _ _ (by decide)]; simp (disch := omega) only [upA, neF, eqTn, true_and, false_and, and_false, and_true, and_self, reduceIte]) (fun q => by rw [fl_n _ _ _ _ _ (by decide)]; simp (disch := omega) only [upA, neF, eqTn, true_and, false_and, and_false, and_true, and_self, reduceIte])
    · refine ⟨by rw [upS]; rfl, fun j q h1 h2 => by omega, fun j q h1 h2 h3 => ?_, fun q hq => ?_, ex_up (fl_ex _ _ _ _ (fl_ex _ _ _ _ (ex_up (ex_rf _ _ _) rfl) rfl) rfl) rfl⟩
      · rw [upN _ _ _ _ (by decide), fl_ap, if_neg (by omega), fl_i _ _ _ _ (by omega) (by omega), show 44 * j + q + 44 = 44 * (j + 1) + q by omega]
      · rw [upN _ _ _ _ (by decide), fl_i _ _ _ _ (by omega) (by omega), show 44 * (min 6 (6 + 1) - 1) + q - 44 * 5 = q by omega]
  · apply xs_mk
    · rw [fX12_keepsAhead, e3, i_6, if_neg fun z => h6 ((nI_eq (by omega) (by decide)).mp z), i_0]
      exact e_ahead55 (n := n) (w := D 133) (by omega) 44 0 fu _ rfl (by omega) e3 (fun q => rfl)
    · refine ⟨?_, fun j q h1 h2 h3 => ?_, fun j q h1 h2 => by omega, fun q hq => ?_, ex_up (fl_ex _ _ _ _ (ex_rf _ _ _) rfl) rfl⟩
      · rw [upS, Nat.min_eq_right (by omega)]
      · rw [upN _ _ _ _ (by decide), fl_ap, if_neg (by omega)]
      · rw [upN _ _ _ _ (by decide), Nat.min_eq_right (by omega), fl_i _ _ _ _ (by omega) (by omega), show 44 * (n + 1 - 1) + q - 44 * n = q by omega]
def kC : List Nat := [40, 42, 43, 44, 45, 46, 47, 48, 49, 50, 51, 52, 53, 54, 55, 56, 57, 58, 59, 60, 61, 62, 63, 64, 65, 66, 67, 68, 69, 70, 71, 72, 73, 74, 75, 76, 77, 78, 79, 80, 81, 82, 83, 84, 85, 86, 87, 88, 89, 90]
theorem kC_no {k : Nat} (h : mem kC k = false) : k ≠ 40 ∧ k ≠ 42 ∧ ¬ (43 ≤ k ∧ k < 91) := by
  refine ⟨fun e => (by rw [e] at h; cases h), fun e => (by rw [e] at h; cases h), fun ⟨h1, h2⟩ => ?_⟩
  have : ∀ t, t < 48 → mem kC (43 + t) = true := by decide +kernel
  have h3 := this (k - 43) (by omega)
  rw [show 43 + (k - 43) = k by omega, h] at h3
  cases h3
theorem e_keep {kp fu : Nat} (hfu : 30000 ≤ fu) {c m : ev_D} (hP : g_P (mix c m)) (hr : hR c m 3) (h9 : bI 9999 (c 3 4)) (h150 : bI 150 (c 11 0)) (hln : m 133 2 = c 11 0) : ∃ c' m', fX2_keep sh_L (sh_E kp) fu 40 3 11 c = some (nI 0, c') ∧ fX12_keepsAhead sh_L (sh_E kp) fu 132 m = some (nI 0, m') ∧ g_P (mix c' m') ∧ ex kC [] c' c ∧ ex [134] [3] m' m := by
  obtain ⟨⟨n, hn, en⟩, ⟨x, hx, ex1⟩, g3, g4⟩ := hP
  have en' : c 40 0 = nI n := en
  have ex' : c 40 1 = nI x := ex1
  have g3' : m 132 3 = nI n := g3.trans en
  obtain ⟨c', q1, q2, q3, q4, q5, q6, q7⟩ := e_keepC (kp := kp) (fu := fu) hfu (x := x) (n := n) (by omega) hn en' ex'
  obtain ⟨m', r1, r2, r3, r4, r5, r6⟩ := e_keepM (kp := kp) (fu := fu) hfu hn g3'
  have K : ∀ k i, mem kC k = false → c' k i = c k i := by
    intro k i hk
    obtain ⟨k1, k2, k3⟩ := kC_no hk
    exact q7 k i k1 k2 (by omega)
  refine ⟨c', m', q1, r1, ⟨⟨min 6 (n + 1), by omega, q5⟩, ⟨(x + 1) % 6, by omega, q6⟩, r2.trans q5.symm, fun j hj => ?_⟩, fun k i a _ => K k i a, r6⟩
  have f0 : mix c' m' 40 0 = nI (min 6 (n + 1)) := q5
  have f1 : mix c' m' 40 1 = nI ((x + 1) % 6) := q6
  rw [f0, nv_n (by omega)] at hj
  rw [f0, f1, nv_n (by omega), nv_n (by omega)]
  have same : ∀ y j2, y ≠ x → y < 6 → (∀ q, q < 44 → m' 134 (44 * j + q) = m 134 (44 * j2 + q)) → g_P1 (mix c m) j2 y → g_P1 (mix c' m') j y := by
    intro y j2 hyx hy hrow g
    refine g_P1_cg2 (fun t ht i _ => ?_) ?_ (fun q hq => ?_) ?_ (fun i _ => ?_) (fun i _ => ?_) (fun i _ => ?_) (fun i _ => ?_) g
    · rw [mixC _ _ (by omega), mixC _ _ (by omega)]
      exact q7 _ _ (by omega) (by omega) (by omega)
    · exact q4 y hyx
    · exact hrow q hq
    · exact K 3 5 rfl
    · exact K 4 i rfl
    · exact K 6 i rfl
    · exact K 7 i rfl
    · exact K 8 i rfl
  by_cases hjl : j = min 6 (n + 1) - 1
  · have hy : ((x + 1) % 6 + 6 - min 6 (n + 1) + j) % 6 = x := by omega
    rw [hy]
    have hT : ∀ t, t < 8 → ∀ i, i < rgT t → mix c' m' (43 + 8 * x + t) i = c (3 + t) i := fun t ht i hi => by
      rw [mixC _ _ (by omega)]
      exact q2 t ht i hi
    obtain ⟨b0, qq, -, -, -, -, -⟩ := hr
    have t0 : ∀ i, i < 7 → mix c' m' (43 + 8 * x) i = c 3 i := fun i hi => hT 0 (by decide) i hi
    refine ⟨tw_B_cg (b := 3) hT b0, ?_, ?_, tw_R_cg (b := 3) hT (ln := m 133 2) ?_ (fun q hq => ?_) b0.1 qq, ?_, ?_, ?_, ?_, ?_⟩
    · rw [t0 4 (by decide)]; exact h9
    · show bI 150 (c' 42 x)
      rw [q3]; exact h150
    · show c' 42 x = _
      rw [q3, hln]
    · show m' 134 (44 * j + q) = m 133 q
      rw [hjl]
      exact r5 q hq
    · rw [t0 5 (by decide)]; exact (K 3 5 rfl).symm
    · intro i hi; rw [hT 1 (by decide) i hi]; exact (K 4 i rfl).symm
    · intro i hi; rw [hT 3 (by decide) i hi]; exact (K 6 i rfl).symm
    · intro i hi; rw [hT 4 (by decide) i hi]; exact (K 7 i rfl).symm
    · intro i hi; rw [hT 5 (by decide) i hi]; exact (K 8 i rfl).symm
  · have g40 : nv (mix c m 40 0) = n := by rw [en, nv_n (by omega)]
    have g41 : nv (mix c m 40 1) = x := by rw [ex1, nv_n (by omega)]
    rw [g40, g41] at g4
    by_cases h6 : n = 6
    · have hy : ((x + 1) % 6 + 6 - min 6 (n + 1) + j) % 6 = (x + 6 - n + (j + 1)) % 6 := by omega
      rw [hy]
      exact same _ (j + 1) (by omega) (by omega) (fun q hq => r4 j q (by omega) h6 hq) (g4 (j + 1) (by omega))
    · have hy : ((x + 1) % 6 + 6 - min 6 (n + 1) + j) % 6 = (x + 6 - n + j) % 6 := by omega
      rw [hy]
      exact same _ j (by omega) (by omega) (fun q hq => r3 j q (by omega) (by omega) hq) (g4 j (by omega))
