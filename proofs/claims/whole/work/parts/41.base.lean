/-! ===== two runs from one state: the class from D, the reference from what the class leaves ===== -/
def refEq (m D : ev_D) : Prop := ∀ k i, 132 ≤ k → k ≤ 170 → m k i = D k i
theorem two {a b : ev_D → ev_Op} {D : ev_D} {Z : ev_D → ev_D → ev_D → Prop} (h : ∀ m, refEq m D → ∃ r c' m', a D = some (r, c') ∧ b m = some (r, m') ∧ refEq c' D ∧ Z m c' m') : ∃ r D1 D2, a D = some (r, D1) ∧ b D1 = some (r, D2) ∧ Z D1 D1 D2 := by
  obtain ⟨r, c1, -, h1, -, h3, -⟩ := h D fun _ _ _ _ => rfl
  obtain ⟨r2, c2, m2, k1, k2, -, k4⟩ := h c1 h3
  have e := h1.symm.trans k1
  cases e
  exact ⟨r, c1, m2, h1, k2, k4⟩
theorem ag_re {rg : Nat → Nat} {gc gf : List Nat} {m D : ev_D} (h : refEq m D) (q : gc.all (fun k => Nat.ble 132 k && Nat.ble k 170) = true) : ag rg gc gf m D := by
  refine ⟨fun k hk i _ => ?_, fun f _ => h 132 f (by decide) (by decide)⟩
  have := List.all_eq_true.mp q k (mem_iff.mp hk)
  rw [Bool.and_eq_true] at this
  exact h k i (Nat.le_of_ble_eq_true this.1) (Nat.le_of_ble_eq_true this.2)
theorem ag_rf (rg : Nat → Nat) (gc gf : List Nat) (D : ev_D) : ag rg gc gf D D := ⟨fun _ _ _ _ => rfl, fun _ _ => rfl⟩
theorem re_c {m D : ev_D} (h : refEq m D) (k : Nat) (h1 : Nat.ble 132 k = true) (h2 : Nat.ble k 170 = true) : m k = D k := funext fun i => h k i (Nat.le_of_ble_eq_true h1) (Nat.le_of_ble_eq_true h2)
theorem re_ex {sc : List Nat} {c' D : ev_D} (h : ex sc [] c' D) (q : sc.all (fun k => Nat.blt k 132) = true) : refEq c' D := by
  intro k i h1 h2
  refine h k i ?_ (fun _ => rfl)
  cases hk : mem sc k with
  | false => rfl
  | true =>
    have := List.all_eq_true.mp q k (mem_iff.mp hk)
    have := Nat.le_of_ble_eq_true this
    omega
theorem mix_re {c m : ev_D} (h : refEq m c) : mix c m = c := by
  funext k i
  unfold mix
  split
  · rename_i hk
    exact h k i hk.1 hk.2
  · rfl
theorem hR_m {c m m' : ev_D} {t : Nat} (h : refEq m' m) (g : hR c m t) : hR c m' t := by
  unfold hR at g ⊢
  rw [re_c h 133 rfl rfl, re_c h 132 rfl rfl, re_c h 136 rfl rfl, re_c h 137 rfl rfl, re_c h 138 rfl rfl, re_c h 139 rfl rfl]
  exact g
theorem st_hH {kp : Nat} {D m : ev_D} (I : Inv kp D) (hm : refEq m D) : ∃ R h, hH 0 D m 3 R h ∧ h ≤ 9999 ∧ g_D D m ∧ m 132 43 = nI 0 ∧ g_P (mix D m) := by
  obtain ⟨g0, gM, ⟨gT, gF, gB, gR, gD, gC, gS, gO, gE, gG, gU, gH, gN, gL⟩, gP, gQ, gZ, gK⟩ := I
  obtain ⟨R, hR10, eR⟩ := gT.1.1
  obtain ⟨h, hh, eh⟩ := gT.2.1
  obtain ⟨q1, q2, q3, q4, q5, q6, q7, q8, q9, q10⟩ := gT.2.2.2
  obtain ⟨f1, f2, f3, f4, f5⟩ := gF
  refine ⟨R, h, ⟨hR_m hm ⟨gT.1, ⟨q1, q2, rfl, q4, q5, q6, q7, q8, q9, q10⟩, f1, f2, f3, f4, f5⟩, ⟨fun _ => ⟨gM.1, gT.2.2.1, ?_, ?_, ?_⟩, fun z => absurd z (by decide)⟩, g_L_cg (ag_rf _ _ _ _) (ag_re hm rfl) gL, g_R_cg (ag_rf _ _ _ _) (ag_re hm rfl) gR, eR, hR10, eh, by omega⟩, hh, g_D_cg (ag_rf _ _ _ _) (ag_re hm rfl) gD, ?_, by rw [mix_re hm]; exact gP⟩
  · rw [re_c hm 133 rfl rfl]; exact q3
  · exact g_B_cg (ag_rf _ _ _ _) (ag_re hm rfl) gB
  · rw [re_c hm 132 rfl rfl]; exact gZ.2.2.2.2.2.2.2.1
  · rw [re_c hm 132 rfl rfl]; exact gZ.2.2.2.2.2.2.2.2
def iC : List Nat := [3, 5, 9, 10, 11, 12, 20, 111, 40, 42, 43, 44, 45, 46, 47, 48, 49, 50, 51, 52, 53, 54, 55, 56, 57, 58, 59, 60, 61, 62, 63, 64, 65, 66, 67, 68, 69, 70, 71, 72, 73, 74, 75, 76, 77, 78, 79, 80, 81, 82, 83, 84, 85, 86, 87, 88, 89, 90]
def iM : List Nat := [133, 134, 140, 154, 155]
theorem ex_fields {sc sf : List Nat} {D' D : ev_D} {f : Nat} (h : ex sc (f :: sf) D' D) (hf : D' 132 f = D 132 f) : ex sc sf D' D := by
  intro k i a b
  by_cases e : k = 132 ∧ i = f
  · rw [e.1, e.2]; exact hf
  · refine h k i a fun e1 => ?_
    rw [mem, List.any_cons, Bool.or_eq_false_iff]
    exact ⟨nbF fun e2 => e ⟨e1, e2⟩, b e1⟩
theorem ex_cat {sc sc2 sf sf2 : List Nat} {D1 D2 D3 : ev_D} (h1 : ex sc sf D2 D1) (h2 : ex sc2 sf2 D3 D2) (scA sfA : List Nat) (q1 : (sc.all (mem scA) && sc2.all (mem scA)) = true) (q2 : (sf.all (mem sfA) && sf2.all (mem sfA)) = true) : ex scA sfA D3 D1 := by
  rw [Bool.and_eq_true] at q1 q2
  exact ex_tr (ex_mo h1 q1.1 q2.1) (ex_mo h2 q1.2 q2.2)
/-- the state behind hours, pulls and the like -/
theorem Inv_hours {kp : Nat} {D c' m' : ev_D} (I : Inv kp D) (hc : ex iC [] c' D) (hm : ex iM [43, 0, 3] m' c') (H : hR c' m' 3) (HB : hB 0 c' m') (h4 : bI 9999 (c' 3 4)) (P : g_P (mix c' m')) (h43 : m' 132 43 = nI 0) : Inv kp m' := by
  obtain ⟨g0, gM, ⟨gT, gF, gB, gR, gD, gC, gS, gO, gE, gG, gU, gH, gN, gL⟩, gP, gQ, gZ, gK⟩ := I
  have c43 : c' 132 43 = nI 0 := (re_ex hc rfl 132 43 (by decide) (by decide)).trans gZ.2.2.2.2.2.2.2.2
  have hm2 : ex iM [0, 3] m' c' := ex_fields hm (h43.trans c43.symm)
  have he : ex (iC ++ iM) [0, 3] m' D := ex_cat hc hm2 _ _ rfl rfl
  obtain ⟨n1, n2, n3, n4, n5⟩ := HB.1 rfl
  have e11 : m' 11 = c' 11 := ex_c hm 11 rfl
  have e12 : m' 12 = c' 12 := ex_c hm 12 rfl
  have hj : ∀ k, 3 ≤ k → k < 132 → m' k = c' k := fun k h1 h2 => funext fun i => hm k i (by
    rw [mem, iM, List.any_cons, List.any_cons, List.any_cons, List.any_cons, List.any_cons, List.any_nil]
    rw [nbF (by omega), nbF (by omega), nbF (by omega), nbF (by omega), nbF (by omega)]; rfl) (fun e => by omega)
  have e3 := hj 3 (by omega) (by omega)
  obtain ⟨b0, ⟨q1, q2, q3, q4, q5, q6, q7, q8, q9, q10⟩, f1, f2, f3, f4, f5⟩ := H
  have hk : ∀ j, j < 8 → ∀ i, i < rgT j → m' (3 + j) i = c' (3 + j) i := fun j h i _ => by rw [hj _ (by omega) (by omega)]
  have qR : tw_R m' 3 (m' 133 2) (m' 133) := tw_R_cg (b := 3) hk rfl (fun _ _ => rfl) b0.1 ⟨q1, q2, q3, q4, q5, q6, q7, q8, q9, q10⟩
  refine ⟨g0, ?_, ⟨⟨tw_B_cg (b := 3) hk b0, ?_, ?_, ?_⟩, ⟨?_, ?_, ?_, ?_, ?_⟩, ?_, k_R he rfl gR, k_D he rfl gD, k_C he rfl gC, k_S he rfl gS, k_O he rfl gO, k_E he rfl gE, k_G he rfl gG, k_U he rfl gU, k_H he rfl gH, k_N he rfl gN, k_L he rfl gL⟩, ?_, k_Q he rfl gQ, k_Z he rfl gZ, k_K he rfl gK⟩
  · obtain ⟨-, h2, h3, h4, h5, h6, h7, h8, h9⟩ := gM
    refine ⟨by rw [e11]; exact n1, ?_, ?_, ?_, ?_, ?_, ?_, ?_, ?_⟩
    · rw [ex_c he 21 rfl]; exact h2
    · rw [ex_c he 23 rfl]; exact h3
    · rw [ex_c he 25 rfl]; exact h4
    · rw [ex_c he 28 rfl]; exact h5
    · rw [ex_c he 30 rfl]; exact h6
    · rw [ex_c he 32 rfl]; exact h7
    · rw [ex_c he 34 rfl]; exact h8
    · rw [ex_c he 36 rfl]; exact h9
  · rw [e3]; exact h4
  · rw [e11]; exact n2
  · obtain ⟨r1, r2, r3, r4⟩ := qR
    exact ⟨r1, r2, by rw [e11]; exact n3, r4⟩
  · rw [e3]; exact f1
  · rw [hj 4 (by omega) (by omega)]; exact f2
  · rw [hj 6 (by omega) (by omega)]; exact f3
  · rw [hj 7 (by omega) (by omega)]; exact f4
  · rw [hj 8 (by omega) (by omega)]; exact f5
  · intro i hi; rw [e12]; exact n4 i hi
  · refine gP_cg (D := mix c' m') (fun k hk _ => ?_) (by rw [mixC _ _ (by omega), e3]) (by rw [mixM _ _ (by omega) (by omega)]) P
    funext i
    by_cases h132 : 132 ≤ k ∧ k ≤ 170
    · rw [mixM _ _ h132.1 h132.2]
    · rw [mixC _ _ (by omega)]
      have hp : ∀ k, mem pCl k = true → 3 ≤ k ∧ k ≤ 134 := fun k hk => by
        have := List.all_eq_true.mp (show pCl.all (fun k => Nat.ble 3 k && Nat.ble k 134) = true from rfl) k (mem_iff.mp hk)
        rw [Bool.and_eq_true] at this
        exact ⟨Nat.le_of_ble_eq_true this.1, Nat.le_of_ble_eq_true this.2⟩
      have := hp k hk
      rw [hj k (by omega) (by omega)]
/-- kept, with all that an hour needs -/
theorem e_keepH {kp fu : Nat} (hfu : 30000 ≤ fu) {c m : ev_D} {R h : Nat} (H : hH 0 c m 3 R h) (hh : h ≤ 9999) (gD : g_D c m) (hP : g_P (mix c m)) : ∃ c' m', fX2_keep sh_L (sh_E kp) fu 40 3 11 c = some (nI 0, c') ∧ fX12_keepsAhead sh_L (sh_E kp) fu 132 m = some (nI 0, m') ∧ hH 0 c' m' 3 R h ∧ g_D c' m' ∧ g_P (mix c' m') ∧ ex kC [] c' c ∧ ex [134] [3] m' m := by
  obtain ⟨h1, h2, h3, h4, h5, h6, h7, h8⟩ := H
  obtain ⟨n1, n2, n3, n4, n5⟩ := h2.1 rfl
  obtain ⟨c', m', k1, k2, k3, k4, k5⟩ := e_keep (kp := kp) hfu hP h1 ⟨h, hh, h7⟩ n2 n3
  refine ⟨c', m', k1, k2, ⟨hR_ex k4 k5 rfl rfl h1, hB_ex k4 k5 rfl rfl (ex_at k5 rfl _) h2, g_L_cg (dj_ag k4 rfl) (dj_ag k5 rfl) h3, g_R_cg (dj_ag k4 rfl) (dj_ag k5 rfl) h4, (ex_at k4 rfl _).trans h5, h6, (ex_at k4 rfl _).trans h7, h8⟩, g_D_cg (dj_ag k4 rfl) (dj_ag k5 rfl) gD, k3, k4, k5⟩
theorem gP_hr {c c' m m' : ev_D} (hP : g_P (mix c m)) (hc : ex (hC 0) [] c' c) (hm : ex (hM 0) [43] m' m) (h5 : c' 3 5 = c 3 5) : g_P (mix c' m') := by
  refine gP_cg (D := mix c m) (fun k hk h3 => ?_) (by rw [mixC _ _ (by omega), mixC _ _ (by omega)]; exact h5) (by rw [mixM _ _ (by omega) (by omega), mixM _ _ (by omega) (by omega)]; exact ex_f hm rfl) hP
  funext i
  have hq : ∀ k, mem pCl k = true → k ≠ 3 → mem (hC 0) k = false ∧ mem (hM 0) k = false ∧ k ≠ 132 := fun k hk h3 => by
    have := List.all_eq_true.mp (show pCl.all (fun k => Nat.beq k 3 || (!(mem (hC 0) k) && (!(mem (hM 0) k) && !(Nat.beq k 132)))) = true from rfl) k (mem_iff.mp hk)
    rw [nbF h3, Bool.false_or, Bool.and_eq_true, Bool.and_eq_true, Bool.not_eq_true', Bool.not_eq_true', Bool.not_eq_true'] at this
    exact ⟨this.1, this.2.1, fun e => by have h4 := this.2.2; rw [e] at h4; cases h4⟩
  obtain ⟨a1, a2, a3⟩ := hq k hk h3
  unfold mix
  split
  · exact hm k i a2 fun e => absurd e a3
  · exact hc k i a1 fun e => absurd e a3
theorem hH_f0 {c m : ev_D} {R h : Nat} {x : Int32} (H : hH 0 c m 3 R h) : hH 0 c (ev_up m 132 0 x) 3 R h := by
  obtain ⟨h1, h2, h3, h4, h5⟩ := H
  have e : ex [] [0] (ev_up m 132 0 x) m := ex_up (ex_rf _ _ _) rfl
  exact ⟨hR_ex (ex_rf [] [] _) e rfl rfl h1, hB_ex (ex_rf [] [] _) e rfl rfl (by simp (disch := omega) only [upA, neF, eqTn, true_and, false_and, and_false, and_true, and_self, reduceIte]) h2, g_L_cg (ag_rf _ _ _ _) (dj_ag e rfl) h3, g_R_cg (ag_rf _ _ _ _) (dj_ag e rfl) h4, h5⟩
theorem gP_f0 {c m : ev_D} {x : Int32} (hP : g_P (mix c m)) : g_P (mix c (ev_up m 132 0 x)) := by
  refine gP_cg (D := mix c m) (fun k hk _ => ?_) rfl ?_ hP
  · funext i
    unfold mix
    split
    · rw [upN _ _ _ _ (fun e => by rw [e] at hk; cases hk)]
    · rfl
  · rw [mixM _ _ (by omega) (by omega), mixM _ _ (by omega) (by omega), upJ _ _ _ _ (by decide)]
