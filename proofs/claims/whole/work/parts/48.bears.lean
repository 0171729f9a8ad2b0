/-! ===== bears ===== -/
theorem bF : nI (if false = true then 1 else 0) = nI 0 := rfl
def hv (w : Nat → Nat) (s : Nat) : Nat := up (fun b a => if s.testBit b then a + w b else a) 0 8 0
theorem hv_le {w : Nat → Nat} (hw : ∀ b, b < 8 → w b ≤ 99) (s : Nat) : hv w s ≤ 792 := by
  have := up_inv (f := fun b a => if s.testBit b then a + w b else a) (fun i a => a ≤ 99 * i) (i := 0) (k := 8) (a := 0) (by omega) (fun j _ hj a ha => by
    have := hw j (by omega)
    show (if s.testBit j then a + w j else a) ≤ 99 * (j + 1)
    split <;> omega)
  exact this
theorem e_heavyC {kp fu : Nat} {w : Nat → Nat} {D : ev_D} (hw : ∀ b, b < 8 → D 4 b = nI (w b)) {s : Nat} (hs : s < 256) (k : Nat) : ∀ i f a, i + k = 8 → k < f → fX3_heavyOf_4 sh_L (sh_E kp) fu f 124 (nI s) (nI a) (nI i) D = some (nI (up (fun b a => if s.testBit b then a + w b else a) i k a), D) := by
  induction k with
  | zero =>
    intro i f a h1 h2
    obtain ⟨f, rfl⟩ : ∃ g, f = g + 1 := ⟨f - 1, by omega⟩
    rw [fX3_heavyOf_4, up_0, i_8, if_pos (nI_le (by omega) (by omega))]
  | succ k ih =>
    intro i f a h1 h2
    obtain ⟨f, rfl⟩ : ∃ g, f = g + 1 := ⟨f - 1, by omega⟩
    rw [fX3_heavyOf_4, up_s, i_8, if_neg (nI_ge (by omega) (by omega)), e_isIn _ _ _ _ (by omega) (by omega), bdS, i_0, i_1, addK]
    cases hb : s.testBit i
    · rw [if_pos bF, if_neg (by decide)]
      exact ih (i + 1) f a (by omega) (by omega)
    · rw [if_neg (by decide), if_pos rfl, e_124_0, e_3_7, l_4, gdI (by omega) (by omega), nI_clamp (by omega), hw i (by omega), addK]
      exact ih (i + 1) f (a + w i) (by omega) (by omega)
theorem e_heavyM {kp fu : Nat} {w : Nat → Nat} {D : ev_D} (hw : ∀ b, b < 8 → D 136 b + nI 1 = nI (w b)) {s : Nat} (hs : s < 256) (k : Nat) : ∀ i f a, i + k = 8 → k < f → fX12_heavyOf_4 sh_L (sh_E kp) fu f 132 (nI s) (nI a) (nI i) D = some (nI (up (fun b a => if s.testBit b then a + w b else a) i k a), D) := by
  induction k with
  | zero =>
    intro i f a h1 h2
    obtain ⟨f, rfl⟩ : ∃ g, f = g + 1 := ⟨f - 1, by omega⟩
    rw [fX12_heavyOf_4, up_0, i_8, if_pos (nI_le (by omega) (by omega))]
  | succ k ih =>
    intro i f a h1 h2
    obtain ⟨f, rfl⟩ : ∃ g, f = g + 1 := ⟨f - 1, by omega⟩
    rw [fX12_heavyOf_4, up_s, i_8, if_neg (nI_ge (by omega) (by omega)), e_hasM _ _ _ _ _ (by omega) (by omega), bdS, i_0, i_1, addK]
    cases hb : s.testBit i
    · rw [if_pos bF, if_neg (by decide)]
      exact ih (i + 1) f a (by omega) (by omega)
    · rw [if_neg (by decide), if_pos rfl, fX12_heavy, e_132_6, l_136, gdI (by omega) (by omega), nI_clamp (by omega), i_1, hw i (by omega), bdS, addK]
      exact ih (i + 1) f (a + w i) (by omega) (by omega)
def bst (w : Nat → Nat) (W s : Nat) (t : Nat × Nat × Nat) : Nat × Nat × Nat := if W < hv w s then t else if ones s < t.1 then t else if ones s ≤ t.1 then (ones s, t.2.1 + 1, max t.2.2 (hv w s)) else (ones s, 1, hv w s)
def sel3 (what : Nat) (t : Nat × Nat × Nat) : Int32 := if what = 0 then nI t.1 else if what = 1 then nI t.2.1 else nI t.2.2
theorem bst_b {w : Nat → Nat} (hw : ∀ b, b < 8 → w b ≤ 99) {W s : Nat} {t : Nat × Nat × Nat} (h1 : t.1 ≤ 16) (h2 : t.2.2 ≤ 792) : (bst w W s t).1 ≤ 16 ∧ (bst w W s t).2.2 ≤ 792 := by
  have a := hv_le hw s
  have b := ones_le s
  unfold bst
  split
  · exact ⟨h1, h2⟩
  split
  · exact ⟨h1, h2⟩
  split
  · exact ⟨b, by show max t.2.2 (hv w s) ≤ 792; omega⟩
  · exact ⟨b, a⟩
theorem e_borne {kp fu W what : Nat} (hfu : 30000 ≤ fu) (hwh : what ≤ 2) (hW : W ≤ 800) {w : Nat → Nat} {D : ev_D} (hw : ∀ b, b < 8 → D 4 b = nI (w b)) (hw9 : ∀ b, b < 8 → w b ≤ 99) (k : Nat) : ∀ (i f : Nat) (t : Nat × Nat × Nat), i + k = 256 → k < f → t.1 ≤ 16 → t.2.2 ≤ 792 → fX3_borne_11 sh_L (sh_E kp) fu f 124 (nI W) (nI what) (nI t.1) (nI t.2.1) (nI t.2.2) (nI i) D = some (sel3 what (up (bst w W) i k t), D) := by
  induction k with
  | zero =>
    intro i f t h1 h2 t1 t2
    obtain ⟨f, rfl⟩ : ∃ g, f = g + 1 := ⟨f - 1, by omega⟩
    have hc : what = 0 ∨ what = 1 ∨ what = 2 := by omega
    rw [fX3_borne_11, up_0, i_256, if_pos (nI_le (by omega) (by omega))]
    rcases hc with rfl | rfl | rfl <;> rfl
  | succ k ih =>
    intro i f t h1 h2 t1 t2
    obtain ⟨f, rfl⟩ : ∃ g, f = g + 1 := ⟨f - 1, by omega⟩
    have a := hv_le hw9 i
    have b := ones_le i
    obtain ⟨c1, c2⟩ := bst_b (W := W) (s := i) hw9 t1 t2
    have hvE : fX3_heavyOf sh_L (sh_E kp) fu 124 (nI i) D = some (nI (hv w i), D) := by
      rw [fX3_heavyOf, i_0]
      exact e_heavyC hw (by omega) 8 0 fu 0 rfl (by omega)
    have step := ih (i + 1) f (bst w W i t) (by omega) (by omega) c1 c2
    rw [fX3_borne_11, up_s, ← step, i_256, if_neg (nI_ge (by omega) (by omega)), e_bitCount _ _ _ (by omega), bdS, hvE, bdS, i_1, addK]
    unfold bst
    by_cases q1 : W < hv w i
    · rw [if_pos (nI_lt q1 (by omega)), if_pos q1]
    · rw [if_neg (nI_nlt (by omega) (by omega)), if_neg q1]
      by_cases q2 : ones i < t.1
      · rw [if_pos (nI_lt q2 (by omega)), if_pos q2]
      · rw [if_neg (nI_nlt (by omega) (by omega)), if_neg q2]
        by_cases q3 : ones i ≤ t.1
        · rw [if_pos (nI_le q3 (by omega)), if_pos q3, e_max _ _ _ _ (by omega) (by omega), bdS, fX3_borne_64, if_pos (nI_le q3 (by omega)), i_1, addK, addK]
        · rw [if_neg (nI_ge (by omega) (by omega)), if_neg q3, fX3_borne_64, if_neg (nI_ge (by omega) (by omega)), i_1, addK]
theorem e_bears40 {kp fu W what : Nat} (hfu : 30000 ≤ fu) (hwh : what ≤ 2) (hW : W ≤ 800) {w : Nat → Nat} {D : ev_D} (hw : ∀ b, b < 8 → D 136 b + nI 1 = nI (w b)) (hw9 : ∀ b, b < 8 → w b ≤ 99) (k : Nat) : ∀ (i f : Nat) (t : Nat × Nat × Nat), i + k = 256 → k < f → t.1 ≤ 16 → t.2.2 ≤ 792 → fX12_bears_40 sh_L (sh_E kp) fu f 132 (nI W) (nI what) (nI t.1) (nI t.2.1) (nI t.2.2) (nI i) D = some (sel3 what (up (bst w W) i k t), D) := by
  induction k with
  | zero =>
    intro i f t h1 h2 t1 t2
    obtain ⟨f, rfl⟩ : ∃ g, f = g + 1 := ⟨f - 1, by omega⟩
    have hc : what = 0 ∨ what = 1 ∨ what = 2 := by omega
    rw [fX12_bears_40, up_0, i_256, if_pos (nI_le (by omega) (by omega))]
    rcases hc with rfl | rfl | rfl <;> rfl
  | succ k ih =>
    intro i f t h1 h2 t1 t2
    obtain ⟨f, rfl⟩ : ∃ g, f = g + 1 := ⟨f - 1, by omega⟩
    have a := hv_le hw9 i
    have b := ones_le i
    obtain ⟨c1, c2⟩ := bst_b (W := W) (s := i) hw9 t1 t2
    have hvE : fX12_heavyOf sh_L (sh_E kp) fu 132 (nI i) D = some (nI (hv w i), D) := by
      rw [fX12_heavyOf, i_0]
      exact e_heavyM hw (by omega) 8 0 fu 0 rfl (by omega)
    have onE := e_onesOf sh_L (sh_E kp) (fu := fu) (by omega) 132 (show i < 65536 by omega) D
    have step := ih (i + 1) f (bst w W i t) (by omega) (by omega) c1 c2
    rw [fX12_bears_40, up_s, ← step, i_256, if_neg (nI_ge (by omega) (by omega)), hvE, bdS, i_1, addK]
    unfold bst
    by_cases q1 : W < hv w i
    · rw [if_pos (nI_lt q1 (by omega)), if_pos q1]
    · rw [if_neg (nI_nlt (by omega) (by omega)), if_neg q1, onE, bdS]
      by_cases q2 : ones i < t.1
      · rw [if_neg (nI_ge q2 (by omega)), if_pos q2]
      · rw [if_pos (nI_le (by omega) (by omega)), if_neg q2, onE, bdS]
        by_cases q3 : ones i ≤ t.1
        · rw [if_pos (nI_le q3 (by omega)), if_pos q3, fX12_bears_87, onE, bdS, hvE, bdS, e_greater _ _ _ _ _ (by omega) (by omega), bdS, i_1, addK, addK]
        · rw [if_neg (nI_ge (by omega) (by omega)), if_neg q3, fX12_bears_87, onE, bdS, hvE, bdS, i_0, e_greater _ _ _ _ _ (by omega) (by omega), bdS, i_1, addK, addK, Nat.zero_max]
theorem inv_heavy {kp : Nat} {D : ev_D} (h : Inv kp D) : ∃ w : Nat → Nat, (∀ b, b < 8 → D 4 b = nI (w b)) ∧ (∀ b, b < 8 → w b ≤ 99) ∧ ∀ (x : Int32) b, b < 8 → (ev_up D 132 0 x) 136 b + nI 1 = nI (w b) := by
  obtain ⟨g0, gM, ⟨gT, gF, gB, gR, gD, gC, gS, gO, gE, gG, gU, gH, gN, gL⟩, gP, gQ, gZ, gK⟩ := h
  have b7 := gT.1.2.2.2.2.2.2.1
  have f2 := gF.2.1
  have e1 : ∀ b, b < 8 → D 4 b = nI (nv (D 4 b)) ∧ nv (D 4 b) ≤ 99 := fun b hb => by
    obtain ⟨j, hj, ej⟩ := b7 b hb
    have ej2 : D 4 b = nI (j + 1) := ej
    rw [ej2, nv_n (by omega)]
    exact ⟨rfl, by omega⟩
  exact ⟨fun b => nv (D 4 b), fun b hb => (e1 b hb).1, fun b hb => (e1 b hb).2, fun x b hb => by rw [upN _ _ _ _ (by decide), f2 b hb]; exact (e1 b hb).1⟩
theorem p_bears {kp fu : Nat} (hfu : 30000 ≤ fu) (a1 a2 : Int32) (D : ev_D) (h : Inv kp D) : pl kp (fX11_bears sh_L (sh_E kp) fu 1 a1 a2) (fX12_bears sh_L (sh_E kp) fu 132 a1 a2) D := by
  have h0 := h
  obtain ⟨w, hw, hw9, hwm⟩ := inv_heavy h
  rcases in_or a1 (a := 1) (b := 800) (by omega) (by omega) with hb | ⟨W, hW1, hW, rfl⟩
  · apply pl_mk
    · conv => lhs; simp (disch := omega) only [fX11_bears, e_within0 _ _ _ _ hb, ↓mm1, ↓mm9, ↓mm100, ↓mm8, bdS, gdI, gdZ, eq_self, e_within, e_isInM, e_isBell, addK, pk_mul, nI_clamp, ofN, true_and, false_and, and_false, and_true, and_self, ltT, ltF, leT, leF, eqF, m1F, m1F2, m1L, m1L2, m1G, i_0, i_1, i_2, i_3, i_4, i_5, i_6, i_7, i_8, i_9, i_10, i_11, i_12, i_14, i_15, i_16, i_17, i_18, i_19, i_20, i_21, i_23, i_24, i_25, i_26, i_31, i_32, i_34, i_40, i_41, i_42, i_43, i_44, i_45, i_47, i_48, i_57, i_59, i_60, i_61, i_62, i_63, i_65, i_80, i_90, i_97, i_98, i_99, i_100, i_122, i_150, i_151, i_255, i_256, i_258, i_259, i_260, i_261, i_262, i_263, i_271, i_273, i_274, i_275, i_276, i_277, i_281, i_282, i_380, i_400, i_500, i_600, i_800, i_999, i_1000, i_9999, i_10000, i_10100, i_10101, i_10102, i_10103, i_10104, i_10105, i_10106, i_10107, i_10108, i_10109, i_27720, i_65535, i_1664525, i_100000000, i_252645135, i_858993459, i_1013904223, i_1431655765, e_1_0, e_1_1, e_1_2, e_1_3, e_1_4, e_1_5, e_2_0, e_2_1, e_2_2, e_2_3, e_3_7, e_3_8, e_3_9, e_3_10, e_3_11, e_3_12, e_3_13, e_11_2, e_13_0, e_13_1, e_13_2, e_13_3, e_14_2, e_14_3, e_14_4, e_14_5, e_14_6, e_14_7, e_21_2, e_23_2, e_25_2, e_27_0, e_27_1, e_27_2, e_27_3, e_27_4, e_27_5, e_27_6, e_28_2, e_30_2, e_32_2, e_34_2, e_36_2, e_40_2, e_40_3, e_41_0, e_41_1, e_41_2, e_41_3, e_41_4, e_41_5, e_91_0, e_91_4, e_91_5, e_91_6, e_91_7, e_92_0, e_92_1, e_92_2, e_92_3, e_93_2, e_93_3, e_93_4, e_93_5, e_93_6, e_93_7, e_100_2, e_102_2, e_104_2, e_110_0, e_110_1, e_110_2, e_110_3, e_112_0, e_112_1, e_112_2, e_112_3, e_113_7, e_113_8, e_113_9, e_113_10, e_113_11, e_113_12, e_113_13, e_121_2, e_124_0, e_124_1, e_124_2, e_124_3, e_124_4, e_124_5, e_124_6, e_124_7, e_124_8, e_124_9, l_4, l_5, l_6, l_7, l_8, l_9, l_10, l_12, l_15, l_16, l_17, l_18, l_19, l_20, l_22, l_24, l_26, l_29, l_31, l_33, l_35, l_37, l_38, l_39, l_41, l_42, l_94, l_95, l_96, l_97, l_98, l_99, l_101, l_103, l_105, l_106, l_107, l_108, l_109, l_111, l_114, l_115, l_116, l_117, l_118, l_119, l_120, l_123, l_125, l_126, l_127, l_128, l_129, l_130, l_131, e_132_1, e_132_2, e_132_4, e_132_6, e_132_8, e_132_9, e_132_10, e_132_11, e_132_12, e_132_18, e_132_19, e_132_20, e_132_21, e_132_22, e_132_23, e_132_24, e_132_25, e_132_29, e_132_36, e_132_38, e_132_40, e_132_41, e_132_42, e_132_44, e_132_46, e_132_47, e_132_49, e_132_50, e_132_51, e_132_52, e_132_54, e_132_55, e_132_56, e_132_58, e_132_60, e_132_61, e_132_62, e_132_66, l_133, l_134, l_135, l_136, l_137, l_138, l_139, l_140, l_141, l_142, l_143, l_144, l_145, l_146, l_147, l_148, l_149, l_150, l_151, l_152, l_153, l_154, l_155, l_156, l_157, l_158, l_159, l_160, l_161, l_162, l_163, l_164, l_165, l_166, l_167, l_168, l_169, l_170, upA, reduceIte, neF]
    · conv => lhs; simp (disch := omega) only [fX12_bears, e_isInM0 _ _ _ _ _ hb, ↓mm1, ↓mm9, ↓mm100, ↓mm8, bdS, gdI, gdZ, eq_self, e_within, e_isInM, e_isBell, addK, pk_mul, nI_clamp, ofN, true_and, false_and, and_false, and_true, and_self, ltT, ltF, leT, leF, eqF, m1F, m1F2, m1L, m1L2, m1G, i_0, i_1, i_2, i_3, i_4, i_5, i_6, i_7, i_8, i_9, i_10, i_11, i_12, i_14, i_15, i_16, i_17, i_18, i_19, i_20, i_21, i_23, i_24, i_25, i_26, i_31, i_32, i_34, i_40, i_41, i_42, i_43, i_44, i_45, i_47, i_48, i_57, i_59, i_60, i_61, i_62, i_63, i_65, i_80, i_90, i_97, i_98, i_99, i_100, i_122, i_150, i_151, i_255, i_256, i_258, i_259, i_260, i_261, i_262, i_263, i_271, i_273, i_274, i_275, i_276, i_277, i_281, i_282, i_380, i_400, i_500, i_600, i_800, i_999, i_1000, i_9999, i_10000, i_10100, i_10101, i_10102, i_10103, i_10104, i_10105, i_10106, i_10107, i_10108, i_10109, i_27720, i_65535, i_1664525, i_100000000, i_252645135, i_858993459, i_1013904223, i_1431655765, e_1_0, e_1_1, e_1_2, e_1_3, e_1_4, e_1_5, e_2_0, e_2_1, e_2_2, e_2_3, e_3_7, e_3_8, e_3_9, e_3_10, e_3_11, e_3_12, e_3_13, e_11_2, e_13_0, e_13_1, e_13_2, e_13_3, e_14_2, e_14_3, e_14_4, e_14_5, e_14_6, e_14_7, e_21_2, e_23_2, e_25_2, e_27_0, e_27_1, e_27_2, e_27_3, e_27_4, e_27_5, e_27_6, e_28_2, e_30_2, e_32_2, e_34_2, e_36_2, e_40_2, e_40_3, e_41_0, e_41_1, e_41_2, e_41_3, e_41_4, e_41_5, e_91_0, e_91_4, e_91_5, e_91_6, e_91_7, e_92_0, e_92_1, e_92_2, e_92_3, e_93_2, e_93_3, e_93_4, e_93_5, e_93_6, e_93_7, e_100_2, e_102_2, e_104_2, e_110_0, e_110_1, e_110_2, e_110_3, e_112_0, e_112_1, e_112_2, e_112_3, e_113_7, e_113_8, e_113_9, e_113_10, e_113_11, e_113_12, e_113_13, e_121_2, e_124_0, e_124_1, e_124_2, e_124_3, e_124_4, e_124_5, e_124_6, e_124_7, e_124_8, e_124_9, l_4, l_5, l_6, l_7, l_8, l_9, l_10, l_12, l_15, l_16, l_17, l_18, l_19, l_20, l_22, l_24, l_26, l_29, l_31, l_33, l_35, l_37, l_38, l_39, l_41, l_42, l_94, l_95, l_96, l_97, l_98, l_99, l_101, l_103, l_105, l_106, l_107, l_108, l_109, l_111, l_114, l_115, l_116, l_117, l_118, l_119, l_120, l_123, l_125, l_126, l_127, l_128, l_129, l_130, l_131, e_132_1, e_132_2, e_132_4, e_132_6, e_132_8, e_132_9, e_132_10, e_132_11, e_132_12, e_132_18, e_132_19, e_132_20, e_132_21, e_132_22, e_132_23, e_132_24, e_132_25, e_132_29, e_132_36, e_132_38, e_132_40, e_132_41, e_132_42, e_132_44, e_132_46, e_132_47, e_132_49, e_132_50, e_132_51, e_132_52, e_132_54, e_132_55, e_132_56, e_132_58, e_132_60, e_132_61, e_132_62, e_132_66, l_133, l_134, l_135, l_136, l_137, l_138, l_139, l_140, l_141, l_142, l_143, l_144, l_145, l_146, l_147, l_148, l_149, l_150, l_151, l_152, l_153, l_154, l_155, l_156, l_157, l_158, l_159, l_160, l_161, l_162, l_163, l_164, l_165, l_166, l_167, l_168, l_169, l_170, upA, reduceIte, neF]
    · exact Inv_s (by repeat (first | exact ex_rf _ _ _ | refine ex_up ?_ rfl)) h0
  rcases in_or a2 (a := 0) (b := 2) (by omega) (by omega) with hb | ⟨what, -, hwh, rfl⟩
  · apply pl_mk
    · conv => lhs; simp (disch := omega) only [fX11_bears, e_within0 _ _ _ _ hb, ↓mm1, ↓mm9, ↓mm100, ↓mm8, bdS, gdI, gdZ, eq_self, e_within, e_isInM, e_isBell, addK, pk_mul, nI_clamp, ofN, true_and, false_and, and_false, and_true, and_self, ltT, ltF, leT, leF, eqF, m1F, m1F2, m1L, m1L2, m1G, i_0, i_1, i_2, i_3, i_4, i_5, i_6, i_7, i_8, i_9, i_10, i_11, i_12, i_14, i_15, i_16, i_17, i_18, i_19, i_20, i_21, i_23, i_24, i_25, i_26, i_31, i_32, i_34, i_40, i_41, i_42, i_43, i_44, i_45, i_47, i_48, i_57, i_59, i_60, i_61, i_62, i_63, i_65, i_80, i_90, i_97, i_98, i_99, i_100, i_122, i_150, i_151, i_255, i_256, i_258, i_259, i_260, i_261, i_262, i_263, i_271, i_273, i_274, i_275, i_276, i_277, i_281, i_282, i_380, i_400, i_500, i_600, i_800, i_999, i_1000, i_9999, i_10000, i_10100, i_10101, i_10102, i_10103, i_10104, i_10105, i_10106, i_10107, i_10108, i_10109, i_27720, i_65535, i_1664525, i_100000000, i_252645135, i_858993459, i_1013904223, i_1431655765, e_1_0, e_1_1, e_1_2, e_1_3, e_1_4, e_1_5, e_2_0, e_2_1, e_2_2, e_2_3, e_3_7, e_3_8, e_3_9, e_3_10, e_3_11, e_3_12, e_3_13, e_11_2, e_13_0, e_13_1, e_13_2, e_13_3, e_14_2, e_14_3, e_14_4, e_14_5, e_14_6, e_14_7, e_21_2, e_23_2, e_25_2, e_27_0, e_27_1, e_27_2, e_27_3, e_27_4, e_27_5, e_27_6, e_28_2, e_30_2, e_32_2, e_34_2, e_36_2, e_40_2, e_40_3, e_41_0, e_41_1, e_41_2, e_41_3, e_41_4, e_41_5, e_91_0, e_91_4, e_91_5, e_91_6, e_91_7, e_92_0, e_92_1, e_92_2, e_92_3, e_93_2, e_93_3, e_93_4, e_93_5, e_93_6, e_93_7, e_100_2, e_102_2, e_104_2, e_110_0, e_110_1, e_110_2, e_110_3, e_112_0, e_112_1, e_112_2, e_112_3, e_113_7, e_113_8, e_113_9, e_113_10, e_113_11, e_113_12, e_113_13, e_121_2, e_124_0, e_124_1, e_124_2, e_124_3, e_124_4, e_124_5, e_124_6, e_124_7, e_124_8, e_124_9, l_4, l_5, l_6, l_7, l_8, l_9, l_10, l_12, l_15, l_16, l_17, l_18, l_19, l_20, l_22, l_24, l_26, l_29, l_31, l_33, l_35, l_37, l_38, l_39, l_41, l_42, l_94, l_95, l_96, l_97, l_98, l_99, l_101, l_103, l_105, l_106, l_107, l_108, l_109, l_111, l_114, l_115, l_116, l_117, l_118, l_119, l_120, l_123, l_125, l_126, l_127, l_128, l_129, l_130, l_131, e_132_1, e_132_2, e_132_4, e_132_6, e_132_8, e_132_9, e_132_10, e_132_11, e_132_12, e_132_18, e_132_19, e_132_20, e_132_21, e_132_22, e_132_23, e_132_24, e_132_25, e_132_29, e_132_36, e_132_38, e_132_40, e_132_41, e_132_42, e_132_44, e_132_46, e_132_47, e_132_49, e_132_50, e_132_51, e_132_52, e_132_54, e_132_55, e_132_56, e_132_58, e_132_60, e_132_61, e_132_62, e_132_66, l_133, l_134, l_135, l_136, l_137, l_138, l_139, l_140, l_141, l_142, l_143, l_144, l_145, l_146, l_147, l_148, l_149, l_150, l_151, l_152, l_153, l_154, l_155, l_156, l_157, l_158, l_159, l_160, l_161, l_162, l_163, l_164, l_165, l_166, l_167, l_168, l_169, l_170, upA, reduceIte, neF]
    · conv => lhs; simp (disch := omega) only [fX12_bears, e_isInM0 _ _ _ _ _ hb, ↓mm1, ↓mm9, ↓mm100, ↓mm8, bdS, gdI, gdZ, eq_self, e_within, e_isInM, e_isBell, addK, pk_mul, nI_clamp, ofN, true_and, false_and, and_false, and_true, and_self, ltT, ltF, leT, leF, eqF, m1F, m1F2, m1L, m1L2, m1G, i_0, i_1, i_2, i_3, i_4, i_5, i_6, i_7, i_8, i_9, i_10, i_11, i_12, i_14, i_15, i_16, i_17, i_18, i_19, i_20, i_21, i_23, i_24, i_25, i_26, i_31, i_32, i_34, i_40, i_41, i_42, i_43, i_44, i_45, i_47, i_48, i_57, i_59, i_60, i_61, i_62, i_63, i_65, i_80, i_90, i_97, i_98, i_99, i_100, i_122, i_150, i_151, i_255, i_256, i_258, i_259, i_260, i_261, i_262, i_263, i_271, i_273, i_274, i_275, i_276, i_277, i_281, i_282, i_380, i_400, i_500, i_600, i_800, i_999, i_1000, i_9999, i_10000, i_10100, i_10101, i_10102, i_10103, i_10104, i_10105, i_10106, i_10107, i_10108, i_10109, i_27720, i_65535, i_1664525, i_100000000, i_252645135, i_858993459, i_1013904223, i_1431655765, e_1_0, e_1_1, e_1_2, e_1_3, e_1_4, e_1_5, e_2_0, e_2_1, e_2_2, e_2_3, e_3_7, e_3_8, e_3_9, e_3_10, e_3_11, e_3_12, e_3_13, e_11_2, e_13_0, e_13_1, e_13_2, e_13_3, e_14_2, e_14_3, e_14_4, e_14_5, e_14_6, e_14_7, e_21_2, e_23_2, e_25_2, e_27_0, e_27_1, e_27_2, e_27_3, e_27_4, e_27_5, e_27_6, e_28_2, e_30_2, e_32_2, e_34_2, e_36_2, e_40_2, e_40_3, e_41_0, e_41_1, e_41_2, e_41_3, e_41_4, e_41_5, e_91_0, e_91_4, e_91_5, e_91_6, e_91_7, e_92_0, e_92_1, e_92_2, e_92_3, e_93_2, e_93_3, e_93_4, e_93_5, e_93_6, e_93_7, e_100_2, e_102_2, e_104_2, e_110_0, e_110_1, e_110_2, e_110_3, e_112_0, e_112_1, e_112_2, e_112_3, e_113_7, e_113_8, e_113_9, e_113_10, e_113_11, e_113_12, e_113_13, e_121_2, e_124_0, e_124_1, e_124_2, e_124_3, e_124_4, e_124_5, e_124_6, e_124_7, e_124_8, e_124_9, l_4, l_5, l_6, l_7, l_8, l_9, l_10, l_12, l_15, l_16, l_17, l_18, l_19, l_20, l_22, l_24, l_26, l_29, l_31, l_33, l_35, l_37, l_38, l_39, l_41, l_42, l_94, l_95, l_96, l_97, l_98, l_99, l_101, l_103, l_105, l_106, l_107, l_108, l_109, l_111, l_114, l_115, l_116, l_117, l_118, l_119, l_120, l_123, l_125, l_126, l_127, l_128, l_129, l_130, l_131, e_132_1, e_132_2, e_132_4, e_132_6, e_132_8, e_132_9, e_132_10, e_132_11, e_132_12, e_132_18, e_132_19, e_132_20, e_132_21, e_132_22, e_132_23, e_132_24, e_132_25, e_132_29, e_132_36, e_132_38, e_132_40, e_132_41, e_132_42, e_132_44, e_132_46, e_132_47, e_132_49, e_132_50, e_132_51, e_132_52, e_132_54, e_132_55, e_132_56, e_132_58, e_132_60, e_132_61, e_132_62, e_132_66, l_133, l_134, l_135, l_136, l_137, l_138, l_139, l_140, l_141, l_142, l_143, l_144, l_145, l_146, l_147, l_148, l_149, l_150, l_151, l_152, l_153, l_154, l_155, l_156, l_157, l_158, l_159, l_160, l_161, l_162, l_163, l_164, l_165, l_166, l_167, l_168, l_169, l_170, upA, reduceIte, neF]
    · exact Inv_s (by repeat (first | exact ex_rf _ _ _ | refine ex_up ?_ rfl)) h0
  refine pl_mk (r := sel3 what (up (bst w W) 0 256 (0, 0, 0))) (D1 := D) (D2 := ev_up D 132 0 (nI 0)) ?_ ?_ (Inv_s (by repeat (first | exact ex_rf _ _ _ | refine ex_up ?_ rfl)) h0)
  · have e1 := e_borne (kp := kp) (fu := fu) hfu hwh hW hw hw9 256 0 fu (0, 0, 0) rfl (by omega) (by decide) (by decide)
    rw [fX11_bears, i_0, i_1, i_2, i_800, e_within _ _ _ _ hW1 hW (by decide), bdS, if_neg (by decide), e_within _ _ _ _ (Nat.zero_le _) hwh (by decide), bdS, if_neg (by decide), e_1_5, fX3_borne, i_0, e1, bdS]
  · have e1 := e_bears40 (kp := kp) (fu := fu) hfu hwh hW (hwm (nI 0)) hw9 256 0 fu (0, 0, 0) rfl (by omega) (by decide) (by decide)
    rw [fX12_bears, i_0, i_1, i_2, i_800, e_isInM _ _ _ _ _ hW1 hW (by decide), bdS, if_neg (by decide), e_isInM _ _ _ _ _ (Nat.zero_le _) hwh (by decide), bdS, if_neg (by decide), e1]
