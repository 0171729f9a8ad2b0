theorem lw_cO_2 {k : Nat} (h1 : 1 ≤ k) (h9 : k ≤ 9) : ∃ c, 2 ≤ c ∧ c ≤ 11 ∧ c ≠ 9 ∧ lw_cO (2, k) = nI c := by
  have hc : k = 1 ∨ k = 2 ∨ k = 3 ∨ k = 4 ∨ k = 5 ∨ k = 6 ∨ k = 7 ∨ k = 8 ∨ k = 9 := by omega
  rcases hc with rfl | rfl | rfl | rfl | rfl | rfl | rfl | rfl | rfl
  · exact ⟨2, by omega, by omega, by omega, rfl⟩
  · exact ⟨3, by omega, by omega, by omega, rfl⟩
  · exact ⟨4, by omega, by omega, by omega, rfl⟩
  · exact ⟨5, by omega, by omega, by omega, rfl⟩
  · exact ⟨6, by omega, by omega, by omega, rfl⟩
  · exact ⟨7, by omega, by omega, by omega, rfl⟩
  · exact ⟨8, by omega, by omega, by omega, rfl⟩
  · exact ⟨10, by omega, by omega, by omega, rfl⟩
  · exact ⟨11, by omega, by omega, by omega, rfl⟩
theorem e_runs12 {kp fu : Nat} {vals : Nat → Int32} : ∀ (l : List lw_C) (st st' : List Int32) (i f : Nat) (D : ev_D), (∀ k, k < 11 → D 154 k = vals k) → (∀ j (h : j < l.length), lw_gd l[j] ∧ D 148 (i + j) = lw_cO l[j] ∧ (l[j].1 ≤ 1 → D 149 (i + j) = nI l[j].2)) → i + l.length ≤ 400 → l.length < f → stk D 155 st → lw_ok 40 l st.length = true → lw_ev true vals l st = some st' → st.length ≤ 40 → ∃ D', fX12_runs_12 sh_L (sh_E kp) fu f 132 (nI 0) (nI (i + l.length)) (nI st.length) (nI i) D = some (D' 155 0, D') ∧ stk D' 155 st' ∧ ex [155] [] D' D := by
  intro l
  induction l with
  | nil =>
    intro st st' i f D hV hg hi hf hs hok hev h40
    obtain ⟨f, rfl⟩ : ∃ g, f = g + 1 := ⟨f - 1, by omega⟩
    cases hev
    refine ⟨D, ?_, hs, ex_rf _ _ _⟩
    rw [fX12_runs_12]
    simp (disch := omega) only [List.length_nil, Nat.add_zero, ↓mm1, ↓mm9, ↓mm100, ↓mm8, bdS, gdI, gdZ, eq_self, e_within, e_isInM, e_isBell, addK, pk_mul, nI_clamp, ofN, true_and, false_and, and_false, and_true, and_self, ltT, ltF, leT, leF, eqF, m1F, m1F2, m1L, m1L2, m1G, i_0, i_1, i_2, i_3, i_4, i_5, i_6, i_7, i_8, i_9, i_10, i_11, i_12, i_14, i_15, i_16, i_17, i_18, i_19, i_20, i_21, i_23, i_24, i_25, i_26, i_31, i_32, i_34, i_40, i_41, i_42, i_43, i_44, i_45, i_47, i_48, i_57, i_59, i_60, i_61, i_62, i_63, i_65, i_80, i_90, i_97, i_98, i_99, i_100, i_122, i_150, i_151, i_255, i_256, i_258, i_259, i_260, i_261, i_262, i_263, i_271, i_273, i_274, i_275, i_276, i_277, i_281, i_282, i_380, i_400, i_500, i_600, i_800, i_999, i_1000, i_9999, i_10000, i_10100, i_10101, i_10102, i_10103, i_10104, i_10105, i_10106, i_10107, i_10108, i_10109, i_27720, i_65535, i_1664525, i_100000000, i_252645135, i_858993459, i_1013904223, i_1431655765, e_1_0, e_1_1, e_1_2, e_1_3, e_1_4, e_1_5, e_2_0, e_2_1, e_2_2, e_2_3, e_3_7, e_3_8, e_3_9, e_3_10, e_3_11, e_3_12, e_3_13, e_11_2, e_13_0, e_13_1, e_13_2, e_13_3, e_14_2, e_14_3, e_14_4, e_14_5, e_14_6, e_14_7, e_21_2, e_23_2, e_25_2, e_27_0, e_27_1, e_27_2, e_27_3, e_27_4, e_27_5, e_27_6, e_28_2, e_30_2, e_32_2, e_34_2, e_36_2, e_40_2, e_40_3, e_41_0, e_41_1, e_41_2, e_41_3, e_41_4, e_41_5, e_91_0, e_91_4, e_91_5, e_91_6, e_91_7, e_92_0, e_92_1, e_92_2, e_92_3, e_93_2, e_93_3, e_93_4, e_93_5, e_93_6, e_93_7, e_100_2, e_102_2, e_104_2, e_110_0, e_110_1, e_110_2, e_110_3, e_112_0, e_112_1, e_112_2, e_112_3, e_113_7, e_113_8, e_113_9, e_113_10, e_113_11, e_113_12, e_113_13, e_121_2, e_124_0, e_124_1, e_124_2, e_124_3, e_124_4, e_124_5, e_124_6, e_124_7, e_124_8, e_124_9, l_4, l_5, l_6, l_7, l_8, l_9, l_10, l_12, l_15, l_16, l_17, l_18, l_19, l_20, l_22, l_24, l_26, l_29, l_31, l_33, l_35, l_37, l_38, l_39, l_41, l_42, l_94, l_95, l_96, l_97, l_98, l_99, l_101, l_103, l_105, l_106, l_107, l_108, l_109, l_111, l_114, l_115, l_116, l_117, l_118, l_119, l_120, l_123, l_125, l_126, l_127, l_128, l_129, l_130, l_131, e_132_1, e_132_2, e_132_4, e_132_6, e_132_8, e_132_9, e_132_10, e_132_11, e_132_12, e_132_18, e_132_19, e_132_20, e_132_21, e_132_22, e_132_23, e_132_24, e_132_25, e_132_29, e_132_36, e_132_38, e_132_40, e_132_41, e_132_42, e_132_44, e_132_46, e_132_47, e_132_49, e_132_50, e_132_51, e_132_52, e_132_54, e_132_55, e_132_56, e_132_58, e_132_60, e_132_61, e_132_62, e_132_66, l_133, l_134, l_135, l_136, l_137, l_138, l_139, l_140, l_141, l_142, l_143, l_144, l_145, l_146, l_147, l_148, l_149, l_150, l_151, l_152, l_153, l_154, l_155, l_156, l_157, l_158, l_159, l_160, l_161, l_162, l_163, l_164, l_165, l_166, l_167, l_168, l_169, l_170, upA, reduceIte, neF]
  | cons x l ih =>
    intro st st' i f D hV hg hi hf hs hok hev h40
    obtain ⟨f, rfl⟩ : ∃ g, f = g + 1 := ⟨f - 1, by omega⟩
    obtain ⟨x1, x2⟩ := x
    rw [List.length_cons] at hi hf
    have hg1 : ∀ j (h : j < l.length), lw_gd l[j] ∧ D 148 (i + 1 + j) = lw_cO l[j] ∧ (l[j].1 ≤ 1 → D 149 (i + 1 + j) = nI l[j].2) := fun j h => by
      have := hg (j + 1) (by rw [List.length_cons]; omega)
      rw [List.getElem_cons_succ, show i + (j + 1) = i + 1 + j by omega] at this
      exact this
    obtain ⟨ga, gb, gc⟩ : lw_gd (x1, x2) ∧ D 148 i = lw_cO (x1, x2) ∧ (x1 ≤ 1 → D 149 i = nI x2) := hg 0 (by rw [List.length_cons]; omega)
    have e1 : i + (l.length + 1) = i + 1 + l.length := by omega
    rw [List.length_cons, e1]
    rcases ga with ⟨g1, g2⟩ | ⟨g1, g2⟩ | ⟨g1, g2⟩
    · dsimp only at g1 g2
      subst g1
      have gb2 : D 148 i = nI 0 := gb
      have gc2 := gc (by omega)
      have hok2 : (decide (st.length < 40) && lw_ok 40 l (st.length + 1)) = true := hok
      rw [Bool.and_eq_true, decide_eq_true_eq] at hok2
      obtain ⟨D', h1, h2, h3⟩ := ih (nI x2 :: st) st' (i + 1) f (ev_up D 155 st.length (nI x2)) (fun k hk => by rw [upN _ _ _ _ (by decide)]; exact hV k hk) (fun j h => by rw [upN _ _ _ _ (by decide), upN _ _ _ _ (by decide)]; exact hg1 j h) (by omega) (by omega) ⟨by rw [upS], stk_up hs (Nat.le_refl _)⟩ hok2.2 hev (by rw [List.length_cons]; omega)
      refine ⟨D', ?_, h2, ex_tr (ex_up (ex_rf _ _ _) rfl) h3⟩
      rw [fX12_runs_12, ← h1]
      simp (disch := omega) only [fX12_runs_45, fX12_runs_83, ↓mm1, ↓mm9, ↓mm100, ↓mm8, bdS, gdI, gdZ, eq_self, e_within, e_isInM, e_isBell, addK, pk_mul, nI_clamp, ofN, true_and, false_and, and_false, and_true, and_self, ltT, ltF, leT, leF, eqF, m1F, m1F2, m1L, m1L2, m1G, i_0, i_1, i_2, i_3, i_4, i_5, i_6, i_7, i_8, i_9, i_10, i_11, i_12, i_14, i_15, i_16, i_17, i_18, i_19, i_20, i_21, i_23, i_24, i_25, i_26, i_31, i_32, i_34, i_40, i_41, i_42, i_43, i_44, i_45, i_47, i_48, i_57, i_59, i_60, i_61, i_62, i_63, i_65, i_80, i_90, i_97, i_98, i_99, i_100, i_122, i_150, i_151, i_255, i_256, i_258, i_259, i_260, i_261, i_262, i_263, i_271, i_273, i_274, i_275, i_276, i_277, i_281, i_282, i_380, i_400, i_500, i_600, i_800, i_999, i_1000, i_9999, i_10000, i_10100, i_10101, i_10102, i_10103, i_10104, i_10105, i_10106, i_10107, i_10108, i_10109, i_27720, i_65535, i_1664525, i_100000000, i_252645135, i_858993459, i_1013904223, i_1431655765, e_1_0, e_1_1, e_1_2, e_1_3, e_1_4, e_1_5, e_2_0, e_2_1, e_2_2, e_2_3, e_3_7, e_3_8, e_3_9, e_3_10, e_3_11, e_3_12, e_3_13, e_11_2, e_13_0, e_13_1, e_13_2, e_13_3, e_14_2, e_14_3, e_14_4, e_14_5, e_14_6, e_14_7, e_21_2, e_23_2, e_25_2, e_27_0, e_27_1, e_27_2, e_27_3, e_27_4, e_27_5, e_27_6, e_28_2, e_30_2, e_32_2, e_34_2, e_36_2, e_40_2, e_40_3, e_41_0, e_41_1, e_41_2, e_41_3, e_41_4, e_41_5, e_91_0, e_91_4, e_91_5, e_91_6, e_91_7, e_92_0, e_92_1, e_92_2, e_92_3, e_93_2, e_93_3, e_93_4, e_93_5, e_93_6, e_93_7, e_100_2, e_102_2, e_104_2, e_110_0, e_110_1, e_110_2, e_110_3, e_112_0, e_112_1, e_112_2, e_112_3, e_113_7, e_113_8, e_113_9, e_113_10, e_113_11, e_113_12, e_113_13, e_121_2, e_124_0, e_124_1, e_124_2, e_124_3, e_124_4, e_124_5, e_124_6, e_124_7, e_124_8, e_124_9, l_4, l_5, l_6, l_7, l_8, l_9, l_10, l_12, l_15, l_16, l_17, l_18, l_19, l_20, l_22, l_24, l_26, l_29, l_31, l_33, l_35, l_37, l_38, l_39, l_41, l_42, l_94, l_95, l_96, l_97, l_98, l_99, l_101, l_103, l_105, l_106, l_107, l_108, l_109, l_111, l_114, l_115, l_116, l_117, l_118, l_119, l_120, l_123, l_125, l_126, l_127, l_128, l_129, l_130, l_131, e_132_1, e_132_2, e_132_4, e_132_6, e_132_8, e_132_9, e_132_10, e_132_11, e_132_12, e_132_18, e_132_19, e_132_20, e_132_21, e_132_22, e_132_23, e_132_24, e_132_25, e_132_29, e_132_36, e_132_38, e_132_40, e_132_41, e_132_42, e_132_44, e_132_46, e_132_47, e_132_49, e_132_50, e_132_51, e_132_52, e_132_54, e_132_55, e_132_56, e_132_58, e_132_60, e_132_61, e_132_62, e_132_66, l_133, l_134, l_135, l_136, l_137, l_138, l_139, l_140, l_141, l_142, l_143, l_144, l_145, l_146, l_147, l_148, l_149, l_150, l_151, l_152, l_153, l_154, l_155, l_156, l_157, l_158, l_159, l_160, l_161, l_162, l_163, l_164, l_165, l_166, l_167, l_168, l_169, l_170, upA, reduceIte, neF, gb2, gc2, List.length_cons]
    · dsimp only at g1 g2
      subst g1
      have gb2 : D 148 i = nI 1 := gb
      have gc2 := gc (by omega)
      have hok2 : (decide (st.length < 40) && lw_ok 40 l (st.length + 1)) = true := hok
      rw [Bool.and_eq_true, decide_eq_true_eq] at hok2
      obtain ⟨D', h1, h2, h3⟩ := ih (vals x2 :: st) st' (i + 1) f (ev_up D 155 st.length (vals x2)) (fun k hk => by rw [upN _ _ _ _ (by decide)]; exact hV k hk) (fun j h => by rw [upN _ _ _ _ (by decide), upN _ _ _ _ (by decide)]; exact hg1 j h) (by omega) (by omega) ⟨by rw [upS], stk_up hs (Nat.le_refl _)⟩ hok2.2 hev (by rw [List.length_cons]; omega)
      refine ⟨D', ?_, h2, ex_tr (ex_up (ex_rf _ _ _) rfl) h3⟩
      rw [fX12_runs_12, ← h1]
      simp (disch := omega) only [fX12_runs_45, fX12_runs_83, ↓mm1, ↓mm9, ↓mm100, ↓mm8, bdS, gdI, gdZ, eq_self, e_within, e_isInM, e_isBell, addK, pk_mul, nI_clamp, ofN, true_and, false_and, and_false, and_true, and_self, ltT, ltF, leT, leF, eqF, m1F, m1F2, m1L, m1L2, m1G, i_0, i_1, i_2, i_3, i_4, i_5, i_6, i_7, i_8, i_9, i_10, i_11, i_12, i_14, i_15, i_16, i_17, i_18, i_19, i_20, i_21, i_23, i_24, i_25, i_26, i_31, i_32, i_34, i_40, i_41, i_42, i_43, i_44, i_45, i_47, i_48, i_57, i_59, i_60, i_61, i_62, i_63, i_65, i_80, i_90, i_97, i_98, i_99, i_100, i_122, i_150, i_151, i_255, i_256, i_258, i_259, i_260, i_261, i_262, i_263, i_271, i_273, i_274, i_275, i_276, i_277, i_281, i_282, i_380, i_400, i_500, i_600, i_800, i_999, i_1000, i_9999, i_10000, i_10100, i_10101, i_10102, i_10103, i_10104, i_10105, i_10106, i_10107, i_10108, i_10109, i_27720, i_65535, i_1664525, i_100000000, i_252645135, i_858993459, i_1013904223, i_1431655765, e_1_0, e_1_1, e_1_2, e_1_3, e_1_4, e_1_5, e_2_0, e_2_1, e_2_2, e_2_3, e_3_7, e_3_8, e_3_9, e_3_10, e_3_11, e_3_12, e_3_13, e_11_2, e_13_0, e_13_1, e_13_2, e_13_3, e_14_2, e_14_3, e_14_4, e_14_5, e_14_6, e_14_7, e_21_2, e_23_2, e_25_2, e_27_0, e_27_1, e_27_2, e_27_3, e_27_4, e_27_5, e_27_6, e_28_2, e_30_2, e_32_2, e_34_2, e_36_2, e_40_2, e_40_3, e_41_0, e_41_1, e_41_2, e_41_3, e_41_4, e_41_5, e_91_0, e_91_4, e_91_5, e_91_6, e_91_7, e_92_0, e_92_1, e_92_2, e_92_3, e_93_2, e_93_3, e_93_4, e_93_5, e_93_6, e_93_7, e_100_2, e_102_2, e_104_2, e_110_0, e_110_1, e_110_2, e_110_3, e_112_0, e_112_1, e_112_2, e_112_3, e_113_7, e_113_8, e_113_9, e_113_10, e_113_11, e_113_12, e_113_13, e_121_2, e_124_0, e_124_1, e_124_2, e_124_3, e_124_4, e_124_5, e_124_6, e_124_7, e_124_8, e_124_9, l_4, l_5, l_6, l_7, l_8, l_9, l_10, l_12, l_15, l_16, l_17, l_18, l_19, l_20, l_22, l_24, l_26, l_29, l_31, l_33, l_35, l_37, l_38, l_39, l_41, l_42, l_94, l_95, l_96, l_97, l_98, l_99, l_101, l_103, l_105, l_106, l_107, l_108, l_109, l_111, l_114, l_115, l_116, l_117, l_118, l_119, l_120, l_123, l_125, l_126, l_127, l_128, l_129, l_130, l_131, e_132_1, e_132_2, e_132_4, e_132_6, e_132_8, e_132_9, e_132_10, e_132_11, e_132_12, e_132_18, e_132_19, e_132_20, e_132_21, e_132_22, e_132_23, e_132_24, e_132_25, e_132_29, e_132_36, e_132_38, e_132_40, e_132_41, e_132_42, e_132_44, e_132_46, e_132_47, e_132_49, e_132_50, e_132_51, e_132_52, e_132_54, e_132_55, e_132_56, e_132_58, e_132_60, e_132_61, e_132_62, e_132_66, l_133, l_134, l_135, l_136, l_137, l_138, l_139, l_140, l_141, l_142, l_143, l_144, l_145, l_146, l_147, l_148, l_149, l_150, l_151, l_152, l_153, l_154, l_155, l_156, l_157, l_158, l_159, l_160, l_161, l_162, l_163, l_164, l_165, l_166, l_167, l_168, l_169, l_170, upA, reduceIte, neF, gb2, gc2, List.length_cons, hV x2 g2]
    · dsimp only at g1 g2
      subst g1
      by_cases hx : x2 = 0
      · subst hx
        have gb2 : D 148 i = nI 9 := gb
        have hok2 : (decide (1 ≤ st.length) && lw_ok 40 l st.length) = true := hok
        rw [Bool.and_eq_true, decide_eq_true_eq] at hok2
        match st, hs, hok2, hev, h40 with
        | a :: st, hs, hok2, hev, h40 =>
          rw [List.length_cons] at h40
          have hev2 : lw_ev true vals l ((nI 1 - a) :: st) = some st' := hev
          obtain ⟨D', h1, h2, h3⟩ := ih ((nI 1 - a) :: st) st' (i + 1) f (ev_up D 155 st.length (nI 1 - a)) (fun k hk => by rw [upN _ _ _ _ (by decide)]; exact hV k hk) (fun j h => by rw [upN _ _ _ _ (by decide), upN _ _ _ _ (by decide)]; exact hg1 j h) (by omega) (by omega) ⟨by rw [upS], stk_up hs.2 (Nat.le_refl _)⟩ hok2.2 hev2 (by rw [List.length_cons]; omega)
          refine ⟨D', ?_, h2, ex_tr (ex_up (ex_rf _ _ _) rfl) h3⟩
          rw [fX12_runs_12, ← h1]
          simp (disch := omega) only [↓mm1, ↓mm9, ↓mm100, ↓mm8, bdS, gdI, gdZ, eq_self, e_within, e_isInM, e_isBell, addK, pk_mul, nI_clamp, ofN, true_and, false_and, and_false, and_true, and_self, ltT, ltF, leT, leF, eqF, m1F, m1F2, m1L, m1L2, m1G, i_0, i_1, i_2, i_3, i_4, i_5, i_6, i_7, i_8, i_9, i_10, i_11, i_12, i_14, i_15, i_16, i_17, i_18, i_19, i_20, i_21, i_23, i_24, i_25, i_26, i_31, i_32, i_34, i_40, i_41, i_42, i_43, i_44, i_45, i_47, i_48, i_57, i_59, i_60, i_61, i_62, i_63, i_65, i_80, i_90, i_97, i_98, i_99, i_100, i_122, i_150, i_151, i_255, i_256, i_258, i_259, i_260, i_261, i_262, i_263, i_271, i_273, i_274, i_275, i_276, i_277, i_281, i_282, i_380, i_400, i_500, i_600, i_800, i_999, i_1000, i_9999, i_10000, i_10100, i_10101, i_10102, i_10103, i_10104, i_10105, i_10106, i_10107, i_10108, i_10109, i_27720, i_65535, i_1664525, i_100000000, i_252645135, i_858993459, i_1013904223, i_1431655765, e_1_0, e_1_1, e_1_2, e_1_3, e_1_4, e_1_5, e_2_0, e_2_1, e_2_2, e_2_3, e_3_7, e_3_8, e_3_9, e_3_10, e_3_11, e_3_12, e_3_13, e_11_2, e_13_0, e_13_1, e_13_2, e_13_3, e_14_2, e_14_3, e_14_4, e_14_5, e_14_6, e_14_7, e_21_2, e_23_2, e_25_2, e_27_0, e_27_1, e_27_2, e_27_3, e_27_4, e_27_5, e_27_6, e_28_2, e_30_2, e_32_2, e_34_2, e_36_2, e_40_2, e_40_3, e_41_0, e_41_1, e_41_2, e_41_3, e_41_4, e_41_5, e_91_0, e_91_4, e_91_5, e_91_6, e_91_7, e_92_0, e_92_1, e_92_2, e_92_3, e_93_2, e_93_3, e_93_4, e_93_5, e_93_6, e_93_7, e_100_2, e_102_2, e_104_2, e_110_0, e_110_1, e_110_2, e_110_3, e_112_0, e_112_1, e_112_2, e_112_3, e_113_7, e_113_8, e_113_9, e_113_10, e_113_11, e_113_12, e_113_13, e_121_2, e_124_0, e_124_1, e_124_2, e_124_3, e_124_4, e_124_5, e_124_6, e_124_7, e_124_8, e_124_9, l_4, l_5, l_6, l_7, l_8, l_9, l_10, l_12, l_15, l_16, l_17, l_18, l_19, l_20, l_22, l_24, l_26, l_29, l_31, l_33, l_35, l_37, l_38, l_39, l_41, l_42, l_94, l_95, l_96, l_97, l_98, l_99, l_101, l_103, l_105, l_106, l_107, l_108, l_109, l_111, l_114, l_115, l_116, l_117, l_118, l_119, l_120, l_123, l_125, l_126, l_127, l_128, l_129, l_130, l_131, e_132_1, e_132_2, e_132_4, e_132_6, e_132_8, e_132_9, e_132_10, e_132_11, e_132_12, e_132_18, e_132_19, e_132_20, e_132_21, e_132_22, e_132_23, e_132_24, e_132_25, e_132_29, e_132_36, e_132_38, e_132_40, e_132_41, e_132_42, e_132_44, e_132_46, e_132_47, e_132_49, e_132_50, e_132_51, e_132_52, e_132_54, e_132_55, e_132_56, e_132_58, e_132_60, e_132_61, e_132_62, e_132_66, l_133, l_134, l_135, l_136, l_137, l_138, l_139, l_140, l_141, l_142, l_143, l_144, l_145, l_146, l_147, l_148, l_149, l_150, l_151, l_152, l_153, l_154, l_155, l_156, l_157, l_158, l_159, l_160, l_161, l_162, l_163, l_164, l_165, l_166, l_167, l_168, l_169, l_170, upA, reduceIte, neF, gb2, List.length_cons, pk_sub, Nat.add_sub_cancel, hs.1]
      · have hok2 : (decide (2 ≤ st.length) && lw_ok 40 l (st.length - 1)) = true := by
          have h5 : lw_ok 40 ((2, x2) :: l) st.length = (if x2 = 0 then decide (1 ≤ st.length) && lw_ok 40 l st.length else decide (2 ≤ st.length) && lw_ok 40 l (st.length - 1)) := rfl
          rw [h5, if_neg hx] at hok
          exact hok
        rw [Bool.and_eq_true, decide_eq_true_eq] at hok2
        obtain ⟨c, c1, c2, c3, c4⟩ := lw_cO_2 (show 1 ≤ x2 by omega) g2
        rw [c4] at gb
        match st, hs, hok2, hev, h40 with
        | b :: a :: st, hs, hok2, hev, h40 =>
          rw [List.length_cons, List.length_cons] at h40
          have hev1 : ((lw_st true vals (2, x2) (b :: a :: st)).bind (lw_ev true vals l)) = some st' := hev
          have h6 : lw_st true vals (2, x2) (b :: a :: st) = (lw_two true x2 a b).map (fun v => v :: st) := by
            show (if x2 = 0 then _ else _) = _
            rw [if_neg hx]
          rw [h6] at hev1
          cases h7 : lw_two true x2 a b with
          | none => rw [h7] at hev1; cases hev1
          | some w =>
            rw [h7] at hev1
            have hev2 : lw_ev true vals l (w :: st) = some st' := hev1
            obtain ⟨D', h1, h2, h3⟩ := ih (w :: st) st' (i + 1) f (ev_up D 155 st.length w) (fun k hk => by rw [upN _ _ _ _ (by decide)]; exact hV k hk) (fun j h => by rw [upN _ _ _ _ (by decide), upN _ _ _ _ (by decide)]; exact hg1 j h) (by omega) (by omega) ⟨by rw [upS], stk_up hs.2.2 (Nat.le_refl _)⟩ hok2.2 hev2 (by rw [List.length_cons]; omega)
            refine ⟨D', ?_, h2, ex_tr (ex_up (ex_rf _ _ _) rfl) h3⟩
            have e8 : ∀ (D : ev_D), fX12_twoOf sh_L (sh_E kp) fu 132 (nI c) a b D = some (w, D) := fun D => by
              rw [← c4]
              exact e_two _ _ _ _ _ (by omega) g2 h7
            have hs1 := hs.1
            have hs2 := hs.2.1
            rw [List.length_cons] at hs1
            rw [fX12_runs_12, ← h1]
            simp (disch := omega) only [↓mm1, ↓mm9, ↓mm100, ↓mm8, bdS, gdI, gdZ, eq_self, e_within, e_isInM, e_isBell, addK, pk_mul, nI_clamp, ofN, true_and, false_and, and_false, and_true, and_self, ltT, ltF, leT, leF, eqF, m1F, m1F2, m1L, m1L2, m1G, i_0, i_1, i_2, i_3, i_4, i_5, i_6, i_7, i_8, i_9, i_10, i_11, i_12, i_14, i_15, i_16, i_17, i_18, i_19, i_20, i_21, i_23, i_24, i_25, i_26, i_31, i_32, i_34, i_40, i_41, i_42, i_43, i_44, i_45, i_47, i_48, i_57, i_59, i_60, i_61, i_62, i_63, i_65, i_80, i_90, i_97, i_98, i_99, i_100, i_122, i_150, i_151, i_255, i_256, i_258, i_259, i_260, i_261, i_262, i_263, i_271, i_273, i_274, i_275, i_276, i_277, i_281, i_282, i_380, i_400, i_500, i_600, i_800, i_999, i_1000, i_9999, i_10000, i_10100, i_10101, i_10102, i_10103, i_10104, i_10105, i_10106, i_10107, i_10108, i_10109, i_27720, i_65535, i_1664525, i_100000000, i_252645135, i_858993459, i_1013904223, i_1431655765, e_1_0, e_1_1, e_1_2, e_1_3, e_1_4, e_1_5, e_2_0, e_2_1, e_2_2, e_2_3, e_3_7, e_3_8, e_3_9, e_3_10, e_3_11, e_3_12, e_3_13, e_11_2, e_13_0, e_13_1, e_13_2, e_13_3, e_14_2, e_14_3, e_14_4, e_14_5, e_14_6, e_14_7, e_21_2, e_23_2, e_25_2, e_27_0, e_27_1, e_27_2, e_27_3, e_27_4, e_27_5, e_27_6, e_28_2, e_30_2, e_32_2, e_34_2, e_36_2, e_40_2, e_40_3, e_41_0, e_41_1, e_41_2, e_41_3, e_41_4, e_41_5, e_91_0, e_91_4, e_91_5, e_91_6, e_91_7, e_92_0, e_92_1, e_92_2, e_92_3, e_93_2, e_93_3, e_93_4, e_93_5, e_93_6, e_93_7, e_100_2, e_102_2, e_104_2, e_110_0, e_110_1, e_110_2, e_110_3, e_112_0, e_112_1, e_112_2, e_112_3, e_113_7, e_113_8, e_113_9, e_113_10, e_113_11, e_113_12, e_113_13, e_121_2, e_124_0, e_124_1, e_124_2, e_124_3, e_124_4, e_124_5, e_124_6, e_124_7, e_124_8, e_124_9, l_4, l_5, l_6, l_7, l_8, l_9, l_10, l_12, l_15, l_16, l_17, l_18, l_19, l_20, l_22, l_24, l_26, l_29, l_31, l_33, l_35, l_37, l_38, l_39, l_41, l_42, l_94, l_95, l_96, l_97, l_98, l_99, l_101, l_103, l_105, l_106, l_107, l_108, l_109, l_111, l_114, l_115, l_116, l_117, l_118, l_119, l_120, l_123, l_125, l_126, l_127, l_128, l_129, l_130, l_131, e_132_1, e_132_2, e_132_4, e_132_6, e_132_8, e_132_9, e_132_10, e_132_11, e_132_12, e_132_18, e_132_19, e_132_20, e_132_21, e_132_22, e_132_23, e_132_24, e_132_25, e_132_29, e_132_36, e_132_38, e_132_40, e_132_41, e_132_42, e_132_44, e_132_46, e_132_47, e_132_49, e_132_50, e_132_51, e_132_52, e_132_54, e_132_55, e_132_56, e_132_58, e_132_60, e_132_61, e_132_62, e_132_66, l_133, l_134, l_135, l_136, l_137, l_138, l_139, l_140, l_141, l_142, l_143, l_144, l_145, l_146, l_147, l_148, l_149, l_150, l_151, l_152, l_153, l_154, l_155, l_156, l_157, l_158, l_159, l_160, l_161, l_162, l_163, l_164, l_165, l_166, l_167, l_168, l_169, l_170, upA, reduceIte, neF, gb, List.length_cons, pk_sub, Nat.add_sub_cancel, hs1, hs2, e8]
theorem e_pr {kp fu v : Nat} (hfu : 30000 ≤ fu) (hv : sh_L v = 11) (hv20 : v ≠ 20) {vals : Nat → Int32} {c m : ev_D} (hc : ∀ k, k < 11 → c v k = vals k) (hm : ∀ k, k < 11 → m 154 k = vals k) {a b a2 b2 : Nat} {p : Prop} (h : lw_pr c m a b a2 b2 p) (hb : b ≤ 400) (hb2 : b2 ≤ 400) : ∃ x c' m', fX1_reckon sh_L (sh_E kp) fu 14 (nI a) (nI b) v c = some (x, c') ∧ fX12_runs sh_L (sh_E kp) fu 132 (nI 0) (nI a2) (nI b2) m = some (x, m') ∧ ex [20] [] c' c ∧ ex [155] [] m' m := by
  obtain ⟨l, l2, f, g1, g2, g3, g4, g5, g6, g7⟩ := h
  have o1 : lw_ok 40 l 0 = true := by
    have := g3.2 40 0 [] (by omega)
    rw [List.append_nil] at this
    rw [this]; rfl
  have o2 : lw_ok 40 l2 0 = true := by
    have := g4.2 40 0 [] (by omega)
    rw [List.append_nil] at this
    rw [this]; rfl
  subst g1
  subst g2
  obtain ⟨c', q1, q2, q3⟩ := e_reckon10 (kp := kp) (fu := fu) hv hv20 l [] [f vals] a fu c hc g6 (by omega) (by omega) trivial o1 (g3.1 vals []) (by decide)
  obtain ⟨m', r1, r2, r3⟩ := e_runs12 (kp := kp) (fu := fu) l2 [] [f vals] a2 fu m hm g7 (by omega) (by omega) trivial o2 (g4.1 vals []) (by decide)
  have k1 : c' 20 0 = f vals := q2.1
  have k2 : m' 155 0 = f vals := r2.1
  rw [k1] at q1
  rw [k2] at r1
  refine ⟨f vals, c', m', ?_, ?_, q3, r3⟩
  · rw [fX1_reckon, i_0, e_max _ _ _ _ (by omega) (by omega), bdS, Nat.zero_max]
    exact q1
  · rw [fX12_runs, i_400, i_0, pk_mul, nI_add, show 400 * 0 + a2 = a2 by omega]
    exact r1
