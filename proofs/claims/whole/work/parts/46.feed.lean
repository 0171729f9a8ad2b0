/-! ===== feed: bytes come behind the tape ===== -/
def byt (v : Int32) (k : Nat) : Int32 := nI (v.toBitVec.toNat / 2 ^ k % 256)
theorem byt_b (v : Int32) (k : Nat) : bI 255 (byt v k) := ⟨_, by have := Nat.mod_lt (v.toBitVec.toNat / 2 ^ k) (show 0 < 256 by decide); omega, rfl⟩
theorem m255 : (nI 255).toBitVec.toNat = 2 ^ 8 - 1 := by decide
theorem us0 (k : Nat) (h : k < 32) : (((nI k).toUInt32 &&& Int32.toUInt32 31).toBitVec % 32).toNat = k := by
  have : ∀ k, k < 32 → (((nI k).toUInt32 &&& Int32.toUInt32 31).toBitVec % 32).toNat = k := by decide +kernel
  exact this k h
theorem byt_C (v : Int32) {k : Nat} (h : k < 32) : (v.toUInt32 >>> ((nI k).toUInt32 &&& Int32.toUInt32 31)).toInt32 &&& nI 255 = byt v k := by
  rw [pk_and _ 8 m255, pk_ushr v (nI k) k (us0 k h)]; rfl
theorem toNat_toInt (x : Int32) : (x.toBitVec.toNat : Int) = x.toInt % 4294967296 := by
  have h := BitVec.toInt_eq_toNat_cond x.toBitVec
  have hl := x.toBitVec.isLt
  show (x.toBitVec.toNat : Int) = x.toBitVec.toInt % 4294967296
  rw [h]
  split <;> omega
theorem byt_M (v : Int32) {k : Nat} (h : k = 0 ∨ k = 8 ∨ k = 16 ∨ k = 24) : (v >>> (nI k &&& nI 31)) &&& nI 255 = byt v k := by
  rw [pk_and _ 8 m255]
  unfold byt
  congr 1
  have e1 := pk_shr v (nI k &&& nI 31) k (sh31 k (by omega))
  rw [Int.shiftRight_eq_div_pow] at e1
  have e2 := toNat_toInt (v >>> (nI k &&& nI 31))
  have e3 := toNat_toInt v
  rw [e1] at e2
  have hl := v.toBitVec.isLt
  have h1 := Int32.toInt_lt v
  have h2 := Int32.le_toInt v
  rcases h with rfl | rfl | rfl | rfl
  · simp only [Nat.pow_zero] at e2 ⊢
    omega
  · simp only [show (2 : Nat) ^ 8 = 256 from rfl] at e2 ⊢
    omega
  · simp only [show (2 : Nat) ^ 16 = 65536 from rfl, show (2 : Nat) ^ 8 = 256 from rfl] at e2 ⊢
    omega
  · simp only [show (2 : Nat) ^ 24 = 16777216 from rfl, show (2 : Nat) ^ 8 = 256 from rfl] at e2 ⊢
    omega
/-- four bytes behind n at the cell q -/
def ty4 (q n : Nat) (v : Int32) (D : ev_D) : ev_D := ev_up (ev_up (ev_up (ev_up D q n (byt v 24)) q (n + 1) (byt v 16)) q (n + 2) (byt v 8)) q (n + 3) (byt v 0)
theorem ty4_A (q n : Nat) (v : Int32) (D : ev_D) (k i : Nat) : ty4 q n v D k i = if k = q ∧ n ≤ i ∧ i < n + 4 then byt v (24 - 8 * (i - n)) else D k i := by
  unfold ty4
  by_cases h : k = q ∧ n ≤ i ∧ i < n + 4
  · rw [if_pos h]
    obtain ⟨rfl, h1, h2⟩ := h
    have hc : i = n ∨ i = n + 1 ∨ i = n + 2 ∨ i = n + 3 := by omega
    rcases hc with rfl | rfl | rfl | rfl
    · simp (disch := omega) only [upA, neF, eqTn, true_and, false_and, and_false, and_true, and_self, reduceIte]
      rw [Nat.sub_self]
    · simp (disch := omega) only [upA, neF, eqTn, true_and, false_and, and_false, and_true, and_self, reduceIte]
      rw [Nat.add_sub_cancel_left]
    · simp (disch := omega) only [upA, neF, eqTn, true_and, false_and, and_false, and_true, and_self, reduceIte]
      rw [Nat.add_sub_cancel_left]
    · simp (disch := omega) only [upA, neF, eqTn, true_and, false_and, and_false, and_true, and_self, reduceIte]
      rw [Nat.add_sub_cancel_left]
  · rw [if_neg h, upA, if_neg (by omega), upA, if_neg (by omega), upA, if_neg (by omega), upA, if_neg (by omega)]
theorem s8 : nI 24 + mi8 = nI 16 ∧ nI 16 + mi8 = nI 8 ∧ nI 8 + mi8 = nI 0 ∧ (nI 0 + mi8 < nI 0) := by decide
theorem e_append {kp fu n : Nat} (hfu : 30000 ≤ fu) {D : ev_D} (v : Int32) (h : D 91 1 = nI n) (hn : n + 4 ≤ 400) : ∃ D', fX4_append sh_L (sh_E kp) fu 91 v D = some (nI 0, D') ∧ (∀ i, n ≤ i → i < n + 4 → D' 106 i = byt v (24 - 8 * (i - n))) ∧ (∀ i, (i < n ∨ n + 4 ≤ i) → D' 106 i = D 106 i) ∧ D' 91 1 = nI (n + 4) ∧ ex [91, 106] [] D' D ∧ ∀ i, i ≠ 1 → D' 91 i = D 91 i := by
  obtain ⟨f, rfl⟩ : ∃ f, fu = f + 5 := ⟨fu - 5, by omega⟩
  obtain ⟨t1, t2, t3, t4⟩ := s8
  have one : ∀ (g s n : Nat) (D : ev_D), s < 32 → n < 400 → D 91 1 = nI n → fX4_append_3 sh_L (sh_E kp) (f + 5) (g + 1) 91 v (nI s) D = fX4_append_3 sh_L (sh_E kp) (f + 5) g 91 v (nI s + mi8) (ev_up (ev_up D 106 n (byt v s)) 91 1 (nI (n + 1))) := by
    intro g s n D hs hn h
    rw [fX4_append_3]
    simp (disch := omega) only [fX4_append_43, h, ↓mm1, ↓mm9, ↓mm100, ↓mm8, bdS, gdI, gdZ, eq_self, e_within, e_isInM, e_isBell, addK, pk_mul, nI_clamp, ofN, true_and, false_and, and_false, and_true, and_self, ltT, ltF, leT, leF, eqF, m1F, m1F2, m1L, m1L2, m1G, i_0, i_1, i_2, i_3, i_4, i_5, i_6, i_7, i_8, i_9, i_10, i_11, i_12, i_14, i_15, i_16, i_17, i_18, i_19, i_20, i_21, i_23, i_24, i_25, i_26, i_31, i_32, i_34, i_40, i_41, i_42, i_43, i_44, i_45, i_47, i_48, i_57, i_59, i_60, i_61, i_62, i_63, i_65, i_80, i_90, i_97, i_98, i_99, i_100, i_122, i_150, i_151, i_255, i_256, i_258, i_259, i_260, i_261, i_262, i_263, i_271, i_273, i_274, i_275, i_276, i_277, i_281, i_282, i_380, i_400, i_500, i_600, i_800, i_999, i_1000, i_9999, i_10000, i_10100, i_10101, i_10102, i_10103, i_10104, i_10105, i_10106, i_10107, i_10108, i_10109, i_27720, i_65535, i_1664525, i_100000000, i_252645135, i_858993459, i_1013904223, i_1431655765, e_1_0, e_1_1, e_1_2, e_1_3, e_1_4, e_1_5, e_2_0, e_2_1, e_2_2, e_2_3, e_3_7, e_3_8, e_3_9, e_3_10, e_3_11, e_3_12, e_3_13, e_11_2, e_13_0, e_13_1, e_13_2, e_13_3, e_14_2, e_14_3, e_14_4, e_14_5, e_14_6, e_14_7, e_21_2, e_23_2, e_25_2, e_27_0, e_27_1, e_27_2, e_27_3, e_27_4, e_27_5, e_27_6, e_28_2, e_30_2, e_32_2, e_34_2, e_36_2, e_40_2, e_40_3, e_41_0, e_41_1, e_41_2, e_41_3, e_41_4, e_41_5, e_91_0, e_91_4, e_91_5, e_91_6, e_91_7, e_92_0, e_92_1, e_92_2, e_92_3, e_93_2, e_93_3, e_93_4, e_93_5, e_93_6, e_93_7, e_100_2, e_102_2, e_104_2, e_110_0, e_110_1, e_110_2, e_110_3, e_112_0, e_112_1, e_112_2, e_112_3, e_113_7, e_113_8, e_113_9, e_113_10, e_113_11, e_113_12, e_113_13, e_121_2, e_124_0, e_124_1, e_124_2, e_124_3, e_124_4, e_124_5, e_124_6, e_124_7, e_124_8, e_124_9, l_4, l_5, l_6, l_7, l_8, l_9, l_10, l_12, l_15, l_16, l_17, l_18, l_19, l_20, l_22, l_24, l_26, l_29, l_31, l_33, l_35, l_37, l_38, l_39, l_41, l_42, l_94, l_95, l_96, l_97, l_98, l_99, l_101, l_103, l_105, l_106, l_107, l_108, l_109, l_111, l_114, l_115, l_116, l_117, l_118, l_119, l_120, l_123, l_125, l_126, l_127, l_128, l_129, l_130, l_131, e_132_1, e_132_2, e_132_4, e_132_6, e_132_8, e_132_9, e_132_10, e_132_11, e_132_12, e_132_18, e_132_19, e_132_20, e_132_21, e_132_22, e_132_23, e_132_24, e_132_25, e_132_29, e_132_36, e_132_38, e_132_40, e_132_41, e_132_42, e_132_44, e_132_46, e_132_47, e_132_49, e_132_50, e_132_51, e_132_52, e_132_54, e_132_55, e_132_56, e_132_58, e_132_60, e_132_61, e_132_62, e_132_66, l_133, l_134, l_135, l_136, l_137, l_138, l_139, l_140, l_141, l_142, l_143, l_144, l_145, l_146, l_147, l_148, l_149, l_150, l_151, l_152, l_153, l_154, l_155, l_156, l_157, l_158, l_159, l_160, l_161, l_162, l_163, l_164, l_165, l_166, l_167, l_168, l_169, l_170, upA, reduceIte, neF]
    rw [← byt_C v hs]
    rfl
  have E1 : fX4_append sh_L (sh_E kp) (f + 5) 91 v D = some (nI 0, ev_up (ev_up (ev_up (ev_up (ev_up (ev_up (ev_up (ev_up D 106 n (byt v 24)) 91 1 (nI (n + 1))) 106 (n + 1) (byt v 16)) 91 1 (nI (n + 2))) 106 (n + 2) (byt v 8)) 91 1 (nI (n + 3))) 106 (n + 3) (byt v 0)) 91 1 (nI (n + 4))) := by
    rw [fX4_append, i_24, one (f + 4) 24 n D (by omega) (by omega) h, t1, one (f + 3) 16 (n + 1) _ (by omega) (by omega) (upS _ _ _ _), t2, one (f + 2) 8 (n + 2) _ (by omega) (by omega) (upS _ _ _ _), t3, one (f + 1) 0 (n + 3) _ (by omega) (by omega) (upS _ _ _ _), fX4_append_3, i_0, if_pos t4]
  refine ⟨_, E1, fun i h1 h2 => ?_, fun i h1 => ?_, upS _ _ _ _, by repeat (first | exact ex_rf _ _ _ | refine ex_up ?_ rfl), fun i hi => by simp (disch := omega) only [upA, neF, eqTn, true_and, false_and, and_false, and_true, and_self, reduceIte]⟩
  · have hc : i = n ∨ i = n + 1 ∨ i = n + 2 ∨ i = n + 3 := by omega
    rcases hc with rfl | rfl | rfl | rfl
    · simp (disch := omega) only [upA, neF, eqTn, true_and, false_and, and_false, and_true, and_self, reduceIte]
      rw [Nat.sub_self]
    · simp (disch := omega) only [upA, neF, eqTn, true_and, false_and, and_false, and_true, and_self, reduceIte]
      rw [Nat.add_sub_cancel_left]
    · simp (disch := omega) only [upA, neF, eqTn, true_and, false_and, and_false, and_true, and_self, reduceIte]
      rw [Nat.add_sub_cancel_left]
    · simp (disch := omega) only [upA, neF, eqTn, true_and, false_and, and_false, and_true, and_self, reduceIte]
      rw [Nat.add_sub_cancel_left]
  · simp (disch := omega) only [upA, neF, eqTn, true_and, false_and, and_false, and_true, and_self, reduceIte]
theorem e_types {kp fu n : Nat} (hfu : 30000 ≤ fu) {D : ev_D} (v : Int32) (h : D 132 13 = nI n) (hn : n + 4 ≤ 400) : ∃ D', fX12_types sh_L (sh_E kp) fu 132 v D = some (nI 0, D') ∧ (∀ i, n ≤ i → i < n + 4 → D' 141 i = byt v (24 - 8 * (i - n))) ∧ (∀ i, (i < n ∨ n + 4 ≤ i) → D' 141 i = D 141 i) ∧ D' 132 13 = nI (n + 4) ∧ ex [141] [13] D' D := by
  obtain ⟨f, rfl⟩ : ∃ f, fu = f + 5 := ⟨fu - 5, by omega⟩
  obtain ⟨t1, t2, t3, t4⟩ := s8
  have one : ∀ (g s n : Nat) (D : ev_D), (s = 0 ∨ s = 8 ∨ s = 16 ∨ s = 24) → n < 400 → D 132 13 = nI n → fX12_types_3 sh_L (sh_E kp) (f + 5) (g + 1) 132 v (nI s) D = fX12_types_3 sh_L (sh_E kp) (f + 5) g 132 v (nI s + mi8) (ev_up (ev_up D 141 n (byt v s)) 132 13 (nI (n + 1))) := by
    intro g s n D hs hn h
    rw [fX12_types_3]
    simp (disch := omega) only [h, ↓mm1, ↓mm9, ↓mm100, ↓mm8, bdS, gdI, gdZ, eq_self, e_within, e_isInM, e_isBell, addK, pk_mul, nI_clamp, ofN, true_and, false_and, and_false, and_true, and_self, ltT, ltF, leT, leF, eqF, m1F, m1F2, m1L, m1L2, m1G, i_0, i_1, i_2, i_3, i_4, i_5, i_6, i_7, i_8, i_9, i_10, i_11, i_12, i_14, i_15, i_16, i_17, i_18, i_19, i_20, i_21, i_23, i_24, i_25, i_26, i_31, i_32, i_34, i_40, i_41, i_42, i_43, i_44, i_45, i_47, i_48, i_57, i_59, i_60, i_61, i_62, i_63, i_65, i_80, i_90, i_97, i_98, i_99, i_100, i_122, i_150, i_151, i_255, i_256, i_258, i_259, i_260, i_261, i_262, i_263, i_271, i_273, i_274, i_275, i_276, i_277, i_281, i_282, i_380, i_400, i_500, i_600, i_800, i_999, i_1000, i_9999, i_10000, i_10100, i_10101, i_10102, i_10103, i_10104, i_10105, i_10106, i_10107, i_10108, i_10109, i_27720, i_65535, i_1664525, i_100000000, i_252645135, i_858993459, i_1013904223, i_1431655765, e_1_0, e_1_1, e_1_2, e_1_3, e_1_4, e_1_5, e_2_0, e_2_1, e_2_2, e_2_3, e_3_7, e_3_8, e_3_9, e_3_10, e_3_11, e_3_12, e_3_13, e_11_2, e_13_0, e_13_1, e_13_2, e_13_3, e_14_2, e_14_3, e_14_4, e_14_5, e_14_6, e_14_7, e_21_2, e_23_2, e_25_2, e_27_0, e_27_1, e_27_2, e_27_3, e_27_4, e_27_5, e_27_6, e_28_2, e_30_2, e_32_2, e_34_2, e_36_2, e_40_2, e_40_3, e_41_0, e_41_1, e_41_2, e_41_3, e_41_4, e_41_5, e_91_0, e_91_4, e_91_5, e_91_6, e_91_7, e_92_0, e_92_1, e_92_2, e_92_3, e_93_2, e_93_3, e_93_4, e_93_5, e_93_6, e_93_7, e_100_2, e_102_2, e_104_2, e_110_0, e_110_1, e_110_2, e_110_3, e_112_0, e_112_1, e_112_2, e_112_3, e_113_7, e_113_8, e_113_9, e_113_10, e_113_11, e_113_12, e_113_13, e_121_2, e_124_0, e_124_1, e_124_2, e_124_3, e_124_4, e_124_5, e_124_6, e_124_7, e_124_8, e_124_9, l_4, l_5, l_6, l_7, l_8, l_9, l_10, l_12, l_15, l_16, l_17, l_18, l_19, l_20, l_22, l_24, l_26, l_29, l_31, l_33, l_35, l_37, l_38, l_39, l_41, l_42, l_94, l_95, l_96, l_97, l_98, l_99, l_101, l_103, l_105, l_106, l_107, l_108, l_109, l_111, l_114, l_115, l_116, l_117, l_118, l_119, l_120, l_123, l_125, l_126, l_127, l_128, l_129, l_130, l_131, e_132_1, e_132_2, e_132_4, e_132_6, e_132_8, e_132_9, e_132_10, e_132_11, e_132_12, e_132_18, e_132_19, e_132_20, e_132_21, e_132_22, e_132_23, e_132_24, e_132_25, e_132_29, e_132_36, e_132_38, e_132_40, e_132_41, e_132_42, e_132_44, e_132_46, e_132_47, e_132_49, e_132_50, e_132_51, e_132_52, e_132_54, e_132_55, e_132_56, e_132_58, e_132_60, e_132_61, e_132_62, e_132_66, l_133, l_134, l_135, l_136, l_137, l_138, l_139, l_140, l_141, l_142, l_143, l_144, l_145, l_146, l_147, l_148, l_149, l_150, l_151, l_152, l_153, l_154, l_155, l_156, l_157, l_158, l_159, l_160, l_161, l_162, l_163, l_164, l_165, l_166, l_167, l_168, l_169, l_170, upA, reduceIte, neF]
    rw [byt_M v hs]
  have E1 : fX12_types sh_L (sh_E kp) (f + 5) 132 v D = some (nI 0, ev_up (ev_up (ev_up (ev_up (ev_up (ev_up (ev_up (ev_up D 141 n (byt v 24)) 132 13 (nI (n + 1))) 141 (n + 1) (byt v 16)) 132 13 (nI (n + 2))) 141 (n + 2) (byt v 8)) 132 13 (nI (n + 3))) 141 (n + 3) (byt v 0)) 132 13 (nI (n + 4))) := by
    rw [fX12_types, i_24, one (f + 4) 24 n D (by omega) (by omega) h, t1, one (f + 3) 16 (n + 1) _ (by omega) (by omega) (upS _ _ _ _), t2, one (f + 2) 8 (n + 2) _ (by omega) (by omega) (upS _ _ _ _), t3, one (f + 1) 0 (n + 3) _ (by omega) (by omega) (upS _ _ _ _), fX12_types_3, i_0, if_pos t4]
  refine ⟨_, E1, fun i h1 h2 => ?_, fun i h1 => ?_, upS _ _ _ _, by repeat (first | exact ex_rf _ _ _ | refine ex_up ?_ rfl)⟩
  · have hc : i = n ∨ i = n + 1 ∨ i = n + 2 ∨ i = n + 3 := by omega
    rcases hc with rfl | rfl | rfl | rfl
    · simp (disch := omega) only [upA, neF, eqTn, true_and, false_and, and_false, and_true, and_self, reduceIte]
      rw [Nat.sub_self]
    · simp (disch := omega) only [upA, neF, eqTn, true_and, false_and, and_false, and_true, and_self, reduceIte]
      rw [Nat.add_sub_cancel_left]
    · simp (disch := omega) only [upA, neF, eqTn, true_and, false_and, and_false, and_true, and_self, reduceIte]
      rw [Nat.add_sub_cancel_left]
    · simp (disch := omega) only [upA, neF, eqTn, true_and, false_and, and_false, and_true, and_self, reduceIte]
      rw [Nat.add_sub_cancel_left]
  · simp (disch := omega) only [upA, neF, eqTn, true_and, false_and, and_false, and_true, and_self, reduceIte]
/-- the tapes alike up to what was typed -/
def tpE (n : Nat) (c m : ev_D) : Prop := c 91 1 = nI n ∧ m 132 13 = nI n ∧ ∀ i, i < 400 → m 141 i = c 106 i ∧ bI 255 (c 106 i)
theorem e_type1 {kp fu n : Nat} (hfu : 30000 ≤ fu) {c m : ev_D} (v : Int32) (h : tpE n c m) (hn : n + 4 ≤ 400) : ∃ c' m', fX4_append sh_L (sh_E kp) fu 91 v c = some (nI 0, c') ∧ fX12_types sh_L (sh_E kp) fu 132 v m = some (nI 0, m') ∧ tpE (n + 4) c' m' ∧ ex [91, 106] [] c' c ∧ (∀ i, i ≠ 1 → c' 91 i = c 91 i) ∧ ex [141] [13] m' m := by
  obtain ⟨c', a1, a2, a3, a4, a5, a6⟩ := e_append (kp := kp) hfu v h.1 hn
  obtain ⟨m', b1, b2, b3, b4, b5⟩ := e_types (kp := kp) hfu v h.2.1 hn
  refine ⟨c', m', a1, b1, ⟨a4, b4, fun i hi => ?_⟩, a5, a6, b5⟩
  by_cases hc : n ≤ i ∧ i < n + 4
  · rw [a2 i hc.1 hc.2, b2 i hc.1 hc.2]
    exact ⟨rfl, byt_b _ _⟩
  · rw [a3 i (by omega), b3 i (by omega)]
    exact h.2.2 i hi
theorem p_feed {kp fu : Nat} (hfu : 30000 ≤ fu) (v1 v2 v3 v4 v5 : Int32) (D : ev_D) (h : Inv kp D) : pl kp (fX11_feed sh_L (sh_E kp) fu 1 v1 v2 v3 v4 v5) (fX12_feed sh_L (sh_E kp) fu 132 v1 v2 v3 v4 v5) D := by
  have h0 := h
  obtain ⟨g0, gM, ⟨gT, gF, gB, gR, gD, gC, gS, gO, gE, gG, gU, gH, gN, gL⟩, gP, gQ, gZ, gK⟩ := h
  obtain ⟨⟨n, hn, en⟩, s1, s2, s3, s4⟩ := gQ
  rw [en] at s1
  by_cases hn2 : n ≤ 380
  · obtain ⟨r, D1, D2, h1, h2, h3, h4, h5, h6⟩ := two (a := fX11_feed sh_L (sh_E kp) fu 1 v1 v2 v3 v4 v5) (b := fX12_feed sh_L (sh_E kp) fu 132 v1 v2 v3 v4 v5) (D := D) (Z := fun m c' m' => ex [91, 106] [] c' D ∧ (∀ i, i ≠ 1 → c' 91 i = D 91 i) ∧ ex [141] [0, 13] m' m ∧ tpE (n + 20) c' m') fun m hm => by
      have T0 : tpE n D (ev_up m 132 0 (nI 0)) := ⟨en, by simp (disch := omega) only [upA, neF, eqTn, true_and, false_and, and_false, and_true, and_self, reduceIte]; rw [re_c hm 132 rfl rfl]; exact s1, fun i hi => by rw [upN _ _ _ _ (by decide), re_c hm 141 rfl rfl]; exact s2 i hi⟩
      obtain ⟨c1, m1, a1, b1, T1, x1, y1, z1⟩ := e_type1 (kp := kp) hfu v1 T0 (by omega)
      obtain ⟨c2, m2, a2, b2, T2, x2, y2, z2⟩ := e_type1 (kp := kp) hfu v2 T1 (by omega)
      obtain ⟨c3, m3, a3, b3, T3, x3, y3, z3⟩ := e_type1 (kp := kp) hfu v3 T2 (by omega)
      obtain ⟨c4, m4, a4, b4, T4, x4, y4, z4⟩ := e_type1 (kp := kp) hfu v4 T3 (by omega)
      obtain ⟨c5, m5, a5, b5, T5, x5, y5, z5⟩ := e_type1 (kp := kp) hfu v5 T4 (by omega)
      have X : ex [91, 106] [] c5 D := ex_tr x1 (ex_tr x2 (ex_tr x3 (ex_tr x4 x5)))
      have Y : ex [141] [13] m5 (ev_up m 132 0 (nI 0)) := ex_tr z1 (ex_tr z2 (ex_tr z3 (ex_tr z4 z5)))
      refine ⟨nI (n + 20), c5, m5, ?_, ?_, re_ex X rfl, X, fun i hi => (y5 i hi).trans ((y4 i hi).trans ((y3 i hi).trans ((y2 i hi).trans (y1 i hi)))), ex_cat (ex_0 m (nI 0)) Y _ _ rfl rfl, T5⟩
      · have e5 := T5.1
        simp (disch := omega) only [fX11_feed, en, a1, a2, a3, a4, a5, e5, ↓mm1, ↓mm9, ↓mm100, ↓mm8, bdS, gdI, gdZ, eq_self, e_within, e_isInM, e_isBell, addK, pk_mul, nI_clamp, ofN, true_and, false_and, and_false, and_true, and_self, ltT, ltF, leT, leF, eqF, m1F, m1F2, m1L, m1L2, m1G, i_0, i_1, i_2, i_3, i_4, i_5, i_6, i_7, i_8, i_9, i_10, i_11, i_12, i_14, i_15, i_16, i_17, i_18, i_19, i_20, i_21, i_23, i_24, i_25, i_26, i_31, i_32, i_34, i_40, i_41, i_42, i_43, i_44, i_45, i_47, i_48, i_57, i_59, i_60, i_61, i_62, i_63, i_65, i_80, i_90, i_97, i_98, i_99, i_100, i_122, i_150, i_151, i_255, i_256, i_258, i_259, i_260, i_261, i_262, i_263, i_271, i_273, i_274, i_275, i_276, i_277, i_281, i_282, i_380, i_400, i_500, i_600, i_800, i_999, i_1000, i_9999, i_10000, i_10100, i_10101, i_10102, i_10103, i_10104, i_10105, i_10106, i_10107, i_10108, i_10109, i_27720, i_65535, i_1664525, i_100000000, i_252645135, i_858993459, i_1013904223, i_1431655765, e_1_0, e_1_1, e_1_2, e_1_3, e_1_4, e_1_5, e_2_0, e_2_1, e_2_2, e_2_3, e_3_7, e_3_8, e_3_9, e_3_10, e_3_11, e_3_12, e_3_13, e_11_2, e_13_0, e_13_1, e_13_2, e_13_3, e_14_2, e_14_3, e_14_4, e_14_5, e_14_6, e_14_7, e_21_2, e_23_2, e_25_2, e_27_0, e_27_1, e_27_2, e_27_3, e_27_4, e_27_5, e_27_6, e_28_2, e_30_2, e_32_2, e_34_2, e_36_2, e_40_2, e_40_3, e_41_0, e_41_1, e_41_2, e_41_3, e_41_4, e_41_5, e_91_0, e_91_4, e_91_5, e_91_6, e_91_7, e_92_0, e_92_1, e_92_2, e_92_3, e_93_2, e_93_3, e_93_4, e_93_5, e_93_6, e_93_7, e_100_2, e_102_2, e_104_2, e_110_0, e_110_1, e_110_2, e_110_3, e_112_0, e_112_1, e_112_2, e_112_3, e_113_7, e_113_8, e_113_9, e_113_10, e_113_11, e_113_12, e_113_13, e_121_2, e_124_0, e_124_1, e_124_2, e_124_3, e_124_4, e_124_5, e_124_6, e_124_7, e_124_8, e_124_9, l_4, l_5, l_6, l_7, l_8, l_9, l_10, l_12, l_15, l_16, l_17, l_18, l_19, l_20, l_22, l_24, l_26, l_29, l_31, l_33, l_35, l_37, l_38, l_39, l_41, l_42, l_94, l_95, l_96, l_97, l_98, l_99, l_101, l_103, l_105, l_106, l_107, l_108, l_109, l_111, l_114, l_115, l_116, l_117, l_118, l_119, l_120, l_123, l_125, l_126, l_127, l_128, l_129, l_130, l_131, e_132_1, e_132_2, e_132_4, e_132_6, e_132_8, e_132_9, e_132_10, e_132_11, e_132_12, e_132_18, e_132_19, e_132_20, e_132_21, e_132_22, e_132_23, e_132_24, e_132_25, e_132_29, e_132_36, e_132_38, e_132_40, e_132_41, e_132_42, e_132_44, e_132_46, e_132_47, e_132_49, e_132_50, e_132_51, e_132_52, e_132_54, e_132_55, e_132_56, e_132_58, e_132_60, e_132_61, e_132_62, e_132_66, l_133, l_134, l_135, l_136, l_137, l_138, l_139, l_140, l_141, l_142, l_143, l_144, l_145, l_146, l_147, l_148, l_149, l_150, l_151, l_152, l_153, l_154, l_155, l_156, l_157, l_158, l_159, l_160, l_161, l_162, l_163, l_164, l_165, l_166, l_167, l_168, l_169, l_170, upA, reduceIte, neF]
      · have e5 := T5.2.1
        have e0 := T0.2.1
        rw [fX12_feed, i_0, e0, i_380, if_pos (nI_le hn2 (by decide)), b1, bdS, b2, bdS, b3, bdS, b4, bdS, b5, bdS, e5]
    refine ⟨r, D1, D2, h1, h2, ?_⟩
    have he : ex [91, 106, 141] [0, 13] D2 D := ex_cat h3 h5 _ _ rfl rfl
    refine ⟨g0, k_M he rfl gM, ⟨k_T he rfl gT, k_F he rfl gF, k_B he rfl gB, k_R he rfl gR, k_D he rfl gD, k_C he rfl gC, k_S he rfl gS, k_O he rfl gO, k_E he rfl gE, k_G he rfl gG, k_U he rfl gU, k_H he rfl gH, k_N he rfl gN, k_L he rfl gL⟩, k_P he rfl gP, ?_, k_Z he rfl gZ, k_K he rfl gK⟩
    have e91 : D2 91 = D1 91 := ex_c h5 91 rfl
    have e106 : D2 106 = D1 106 := ex_c h5 106 rfl
    refine ⟨⟨n + 20, by omega, by rw [e91]; exact h6.1⟩, by rw [e91, h6.1]; exact h6.2.1, fun i hi => by rw [e106]; exact h6.2.2 i hi, ?_, ?_⟩
    · rw [ex_f he rfl, e91, h4 2 (by decide)]; exact s3
    · rw [ex_f he rfl, e91, h4 3 (by decide)]; exact s4
  · apply pl_mk
    · conv => lhs; simp (disch := omega) only [fX11_feed, en, ↓mm1, ↓mm9, ↓mm100, ↓mm8, bdS, gdI, gdZ, eq_self, e_within, e_isInM, e_isBell, addK, pk_mul, nI_clamp, ofN, true_and, false_and, and_false, and_true, and_self, ltT, ltF, leT, leF, eqF, m1F, m1F2, m1L, m1L2, m1G, i_0, i_1, i_2, i_3, i_4, i_5, i_6, i_7, i_8, i_9, i_10, i_11, i_12, i_14, i_15, i_16, i_17, i_18, i_19, i_20, i_21, i_23, i_24, i_25, i_26, i_31, i_32, i_34, i_40, i_41, i_42, i_43, i_44, i_45, i_47, i_48, i_57, i_59, i_60, i_61, i_62, i_63, i_65, i_80, i_90, i_97, i_98, i_99, i_100, i_122, i_150, i_151, i_255, i_256, i_258, i_259, i_260, i_261, i_262, i_263, i_271, i_273, i_274, i_275, i_276, i_277, i_281, i_282, i_380, i_400, i_500, i_600, i_800, i_999, i_1000, i_9999, i_10000, i_10100, i_10101, i_10102, i_10103, i_10104, i_10105, i_10106, i_10107, i_10108, i_10109, i_27720, i_65535, i_1664525, i_100000000, i_252645135, i_858993459, i_1013904223, i_1431655765, e_1_0, e_1_1, e_1_2, e_1_3, e_1_4, e_1_5, e_2_0, e_2_1, e_2_2, e_2_3, e_3_7, e_3_8, e_3_9, e_3_10, e_3_11, e_3_12, e_3_13, e_11_2, e_13_0, e_13_1, e_13_2, e_13_3, e_14_2, e_14_3, e_14_4, e_14_5, e_14_6, e_14_7, e_21_2, e_23_2, e_25_2, e_27_0, e_27_1, e_27_2, e_27_3, e_27_4, e_27_5, e_27_6, e_28_2, e_30_2, e_32_2, e_34_2, e_36_2, e_40_2, e_40_3, e_41_0, e_41_1, e_41_2, e_41_3, e_41_4, e_41_5, e_91_0, e_91_4, e_91_5, e_91_6, e_91_7, e_92_0, e_92_1, e_92_2, e_92_3, e_93_2, e_93_3, e_93_4, e_93_5, e_93_6, e_93_7, e_100_2, e_102_2, e_104_2, e_110_0, e_110_1, e_110_2, e_110_3, e_112_0, e_112_1, e_112_2, e_112_3, e_113_7, e_113_8, e_113_9, e_113_10, e_113_11, e_113_12, e_113_13, e_121_2, e_124_0, e_124_1, e_124_2, e_124_3, e_124_4, e_124_5, e_124_6, e_124_7, e_124_8, e_124_9, l_4, l_5, l_6, l_7, l_8, l_9, l_10, l_12, l_15, l_16, l_17, l_18, l_19, l_20, l_22, l_24, l_26, l_29, l_31, l_33, l_35, l_37, l_38, l_39, l_41, l_42, l_94, l_95, l_96, l_97, l_98, l_99, l_101, l_103, l_105, l_106, l_107, l_108, l_109, l_111, l_114, l_115, l_116, l_117, l_118, l_119, l_120, l_123, l_125, l_126, l_127, l_128, l_129, l_130, l_131, e_132_1, e_132_2, e_132_4, e_132_6, e_132_8, e_132_9, e_132_10, e_132_11, e_132_12, e_132_18, e_132_19, e_132_20, e_132_21, e_132_22, e_132_23, e_132_24, e_132_25, e_132_29, e_132_36, e_132_38, e_132_40, e_132_41, e_132_42, e_132_44, e_132_46, e_132_47, e_132_49, e_132_50, e_132_51, e_132_52, e_132_54, e_132_55, e_132_56, e_132_58, e_132_60, e_132_61, e_132_62, e_132_66, l_133, l_134, l_135, l_136, l_137, l_138, l_139, l_140, l_141, l_142, l_143, l_144, l_145, l_146, l_147, l_148, l_149, l_150, l_151, l_152, l_153, l_154, l_155, l_156, l_157, l_158, l_159, l_160, l_161, l_162, l_163, l_164, l_165, l_166, l_167, l_168, l_169, l_170, upA, reduceIte, neF]
    · conv => lhs; simp (disch := omega) only [fX12_feed, s1, ↓mm1, ↓mm9, ↓mm100, ↓mm8, bdS, gdI, gdZ, eq_self, e_within, e_isInM, e_isBell, addK, pk_mul, nI_clamp, ofN, true_and, false_and, and_false, and_true, and_self, ltT, ltF, leT, leF, eqF, m1F, m1F2, m1L, m1L2, m1G, i_0, i_1, i_2, i_3, i_4, i_5, i_6, i_7, i_8, i_9, i_10, i_11, i_12, i_14, i_15, i_16, i_17, i_18, i_19, i_20, i_21, i_23, i_24, i_25, i_26, i_31, i_32, i_34, i_40, i_41, i_42, i_43, i_44, i_45, i_47, i_48, i_57, i_59, i_60, i_61, i_62, i_63, i_65, i_80, i_90, i_97, i_98, i_99, i_100, i_122, i_150, i_151, i_255, i_256, i_258, i_259, i_260, i_261, i_262, i_263, i_271, i_273, i_274, i_275, i_276, i_277, i_281, i_282, i_380, i_400, i_500, i_600, i_800, i_999, i_1000, i_9999, i_10000, i_10100, i_10101, i_10102, i_10103, i_10104, i_10105, i_10106, i_10107, i_10108, i_10109, i_27720, i_65535, i_1664525, i_100000000, i_252645135, i_858993459, i_1013904223, i_1431655765, e_1_0, e_1_1, e_1_2, e_1_3, e_1_4, e_1_5, e_2_0, e_2_1, e_2_2, e_2_3, e_3_7, e_3_8, e_3_9, e_3_10, e_3_11, e_3_12, e_3_13, e_11_2, e_13_0, e_13_1, e_13_2, e_13_3, e_14_2, e_14_3, e_14_4, e_14_5, e_14_6, e_14_7, e_21_2, e_23_2, e_25_2, e_27_0, e_27_1, e_27_2, e_27_3, e_27_4, e_27_5, e_27_6, e_28_2, e_30_2, e_32_2, e_34_2, e_36_2, e_40_2, e_40_3, e_41_0, e_41_1, e_41_2, e_41_3, e_41_4, e_41_5, e_91_0, e_91_4, e_91_5, e_91_6, e_91_7, e_92_0, e_92_1, e_92_2, e_92_3, e_93_2, e_93_3, e_93_4, e_93_5, e_93_6, e_93_7, e_100_2, e_102_2, e_104_2, e_110_0, e_110_1, e_110_2, e_110_3, e_112_0, e_112_1, e_112_2, e_112_3, e_113_7, e_113_8, e_113_9, e_113_10, e_113_11, e_113_12, e_113_13, e_121_2, e_124_0, e_124_1, e_124_2, e_124_3, e_124_4, e_124_5, e_124_6, e_124_7, e_124_8, e_124_9, l_4, l_5, l_6, l_7, l_8, l_9, l_10, l_12, l_15, l_16, l_17, l_18, l_19, l_20, l_22, l_24, l_26, l_29, l_31, l_33, l_35, l_37, l_38, l_39, l_41, l_42, l_94, l_95, l_96, l_97, l_98, l_99, l_101, l_103, l_105, l_106, l_107, l_108, l_109, l_111, l_114, l_115, l_116, l_117, l_118, l_119, l_120, l_123, l_125, l_126, l_127, l_128, l_129, l_130, l_131, e_132_1, e_132_2, e_132_4, e_132_6, e_132_8, e_132_9, e_132_10, e_132_11, e_132_12, e_132_18, e_132_19, e_132_20, e_132_21, e_132_22, e_132_23, e_132_24, e_132_25, e_132_29, e_132_36, e_132_38, e_132_40, e_132_41, e_132_42, e_132_44, e_132_46, e_132_47, e_132_49, e_132_50, e_132_51, e_132_52, e_132_54, e_132_55, e_132_56, e_132_58, e_132_60, e_132_61, e_132_62, e_132_66, l_133, l_134, l_135, l_136, l_137, l_138, l_139, l_140, l_141, l_142, l_143, l_144, l_145, l_146, l_147, l_148, l_149, l_150, l_151, l_152, l_153, l_154, l_155, l_156, l_157, l_158, l_159, l_160, l_161, l_162, l_163, l_164, l_165, l_166, l_167, l_168, l_169, l_170, upA, reduceIte, neF]
    · exact Inv_s (by repeat (first | exact ex_rf _ _ _ | refine ex_up ?_ rfl)) h0
