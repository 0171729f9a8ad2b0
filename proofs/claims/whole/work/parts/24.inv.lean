/-! ===== groups kept over changes elsewhere ===== -/
def dj (gc gf sc sf : List Nat) : Bool := gc.all (fun k => !(mem sc k) && !(Nat.beq k 132)) && !(mem sc 132 || gf.any (mem sf))
theorem dj_ag {rg : Nat → Nat} {gc gf sc sf : List Nat} {D' D : ev_D} (h : ex sc sf D' D) (q : dj gc gf sc sf = true) : ag rg gc gf D' D := by
  rw [dj, Bool.and_eq_true, Bool.not_eq_true'] at q
  exact ag_ex h q.1 q.2
theorem dj_m {gc gf sc sf : List Nat} (q : dj gc gf sc sf = true) : dj gc [] sc sf = true := by
  rw [dj, Bool.and_eq_true, Bool.not_eq_true', Bool.or_eq_false_iff] at *
  exact ⟨q.1, q.2.1, rfl⟩
section
variable {sc sf : List Nat} {D' D : ev_D}
theorem k_T (h : ex sc sf D' D) (q : (dj [3, 4, 5, 6, 7, 8, 9, 10, 11] [] sc sf && dj [133] [] sc sf) = true) (g : g_T D D) : g_T D' D' := by
  rw [Bool.and_eq_true] at q
  exact g_T_cg (dj_ag h q.1) (dj_ag h q.2) g
theorem k_F (h : ex sc sf D' D) (q : (dj [3, 4, 6, 7, 8] [] sc sf && dj [136, 137, 138, 139] [7] sc sf) = true) (g : g_F D D) : g_F D' D' := by
  rw [Bool.and_eq_true] at q
  exact g_F_cg (dj_ag h q.1) (dj_ag h q.2) g
theorem k_B (h : ex sc sf D' D) (q : (dj [12] [] sc sf && dj [140] [] sc sf) = true) (g : g_B D D) : g_B D' D' := by
  rw [Bool.and_eq_true] at q
  exact g_B_cg (dj_ag h q.1) (dj_ag h q.2) g
theorem k_R (h : ex sc sf D' D) (q : (dj [21, 22] [] sc sf && dj [151] [35] sc sf) = true) (g : g_R D D) : g_R D' D' := by
  rw [Bool.and_eq_true] at q
  exact g_R_cg (dj_ag h q.1) (dj_ag h q.2) g
theorem k_D (h : ex sc sf D' D) (q : (dj [23, 24] [] sc sf && dj [152] [37] sc sf) = true) (g : g_D D D) : g_D D' D' := by
  rw [Bool.and_eq_true] at q
  exact g_D_cg (dj_ag h q.1) (dj_ag h q.2) g
theorem k_C (h : ex sc sf D' D) (q : (dj [25, 26] [] sc sf && dj [153] [39] sc sf) = true) (g : g_C D D) : g_C D' D' := by
  rw [Bool.and_eq_true] at q
  exact g_C_cg (dj_ag h q.1) (dj_ag h q.2) g
theorem k_S (h : ex sc sf D' D) (q : (dj [28, 29] [] sc sf && dj [157, 158] [45] sc sf) = true) (g : g_S D D) : g_S D' D' := by
  rw [Bool.and_eq_true] at q
  exact g_S_cg (dj_ag h q.1) (dj_ag h q.2) g
theorem k_O (h : ex sc sf D' D) (q : (dj [30, 31] [] sc sf && dj [159, 160] [48] sc sf) = true) (g : g_O D D) : g_O D' D' := by
  rw [Bool.and_eq_true] at q
  exact g_O_cg (dj_ag h q.1) (dj_ag h q.2) g
theorem k_E (h : ex sc sf D' D) (q : (dj [32, 33] [] sc sf && dj [163] [53] sc sf) = true) (g : g_E D D) : g_E D' D' := by
  rw [Bool.and_eq_true] at q
  exact g_E_cg (dj_ag h q.1) (dj_ag h q.2) g
theorem k_G (h : ex sc sf D' D) (q : (dj [34, 35] [] sc sf && dj [166] [57] sc sf) = true) (g : g_G D D) : g_G D' D' := by
  rw [Bool.and_eq_true] at q
  exact g_G_cg (dj_ag h q.1) (dj_ag h q.2) g
theorem k_U (h : ex sc sf D' D) (q : (dj [36, 37] [] sc sf && dj [167] [59] sc sf) = true) (g : g_U D D) : g_U D' D' := by
  rw [Bool.and_eq_true] at q
  exact g_U_cg (dj_ag h q.1) (dj_ag h q.2) g
theorem k_H (h : ex sc sf D' D) (q : (dj [38] [] sc sf && dj [161] [] sc sf) = true) (g : g_H D D) : g_H D' D' := by
  rw [Bool.and_eq_true] at q
  exact g_H_cg (dj_ag h q.1) (dj_ag h q.2) g
theorem k_N (h : ex sc sf D' D) (q : (dj [39] [] sc sf && dj [168] [] sc sf) = true) (g : g_N D D) : g_N D' D' := by
  rw [Bool.and_eq_true] at q
  exact g_N_cg (dj_ag h q.1) (dj_ag h q.2) g
theorem k_L (h : ex sc sf D' D) (q : (dj [14, 15, 16, 17, 18, 19] [] sc sf && dj [143, 144, 145, 146, 147, 148, 149] [] sc sf) = true) (g : g_L D D) : g_L D' D' := by
  rw [Bool.and_eq_true] at q
  exact g_L_cg (dj_ag h q.1) (dj_ag h q.2) g
theorem ex_c (h : ex sc sf D' D) (k : Nat) (hk : (mem sc k || Nat.beq k 132) = false) : D' k = D k := funext fun i => ex_at h hk i
theorem dj_c {gc gf : List Nat} (h : ex sc sf D' D) (q : dj gc gf sc sf = true) (k : Nat) (hk : mem gc k = true) : D' k = D k := by
  rw [dj, Bool.and_eq_true] at q
  have := List.all_eq_true.mp q.1 k (mem_iff.mp hk)
  rw [Bool.and_eq_true] at this
  refine ex_c h k ?_
  rw [Bool.or_eq_false_iff]
  exact ⟨by simpa using this.1, by simpa using this.2⟩
theorem dj_f {gc gf : List Nat} (h : ex sc sf D' D) (q : dj gc gf sc sf = true) (k : Nat) (hk : mem gf k = true) : D' 132 k = D 132 k := (dj_ag (rg := fun _ => 0) h q).2 k hk
theorem k_M (h : ex sc sf D' D) (q : dj [11, 21, 23, 25, 28, 30, 32, 34, 36] [] sc sf = true) (g : g_M D) : g_M D' := by
  obtain ⟨h1, h2, h3, h4, h5, h6, h7, h8, h9⟩ := g
  refine ⟨?_, ?_, ?_, ?_, ?_, ?_, ?_, ?_, ?_⟩
  · rw [dj_c h q 11 rfl]; exact h1
  · rw [dj_c h q 21 rfl]; exact h2
  · rw [dj_c h q 23 rfl]; exact h3
  · rw [dj_c h q 25 rfl]; exact h4
  · rw [dj_c h q 28 rfl]; exact h5
  · rw [dj_c h q 30 rfl]; exact h6
  · rw [dj_c h q 32 rfl]; exact h7
  · rw [dj_c h q 34 rfl]; exact h8
  · rw [dj_c h q 36 rfl]; exact h9
def pCl : List Nat := [3, 4, 6, 7, 8, 40, 42, 43, 44, 45, 46, 47, 48, 49, 50, 51, 52, 53, 54, 55, 56, 57, 58, 59, 60, 61, 62, 63, 64, 65, 66, 67, 68, 69, 70, 71, 72, 73, 74, 75, 76, 77, 78, 79, 80, 81, 82, 83, 84, 85, 86, 87, 88, 89, 90, 134]
theorem pCl_in : ∀ t, t < 48 → mem pCl (43 + t) = true := by decide +kernel
theorem g_P1_cg (h : ∀ k, mem pCl k = true → D' k = D k) {j x : Nat} (hx : x < 6) (g : g_P1 D j x) : g_P1 D' j x := by
  obtain ⟨g1, g2, g3, g4, g5, g6, g7, g8, g9⟩ := g
  have hp : ∀ t, t < 8 → D' (43 + 8 * x + t) = D (43 + 8 * x + t) := fun t ht => h _ (by
    have := pCl_in (8 * x + t) (by omega)
    rw [← Nat.add_assoc] at this
    exact this)
  have hp0 := hp 0 (by decide)
  rw [Nat.add_zero] at hp0
  have hq : ∀ j, j < 8 → ∀ i, i < rgT j → D' (43 + 8 * x + j) i = D (43 + 8 * x + j) i := fun j hj i _ => by rw [hp j hj]
  refine ⟨tw_B_cg hq g1, ?_, ?_, tw_R_cg hq (by rw [h 42 rfl]) (fun i _ => by rw [h 134 rfl]) g1.1 g4, ?_, ?_, ?_, ?_, ?_⟩
  · rw [hp0]; exact g2
  · rw [h 42 rfl]; exact g3
  · rw [hp0, h 3 rfl]; exact g5
  · rw [hp 1 (by decide), h 4 rfl]; exact g6
  · rw [hp 3 (by decide), h 6 rfl]; exact g7
  · rw [hp 4 (by decide), h 7 rfl]; exact g8
  · rw [hp 5 (by decide), h 8 rfl]; exact g9
theorem k_P (h : ex sc sf D' D) (q : dj pCl [3] sc sf = true) (g : g_P D) : g_P D' := by
  obtain ⟨g1, g2, g3, g4⟩ := g
  rw [g_P, dj_c h q 40 rfl, dj_f h q 3 rfl]
  exact ⟨g1, g2, g3, fun j hj => g_P1_cg (fun k hk => dj_c h q k hk) (Nat.mod_lt _ (by decide)) (g4 j hj)⟩
theorem k_Q (h : ex sc sf D' D) (q : dj [91, 106, 141] [13, 33, 34] sc sf = true) (g : g_Q D) : g_Q D' := by
  rw [g_Q, dj_c h q 91 rfl, dj_c h q 106 rfl, dj_c h q 141 rfl, dj_f h q 13 rfl, dj_f h q 33 rfl, dj_f h q 34 rfl]
  exact g
theorem k_Z (h : ex sc sf D' D) (q : dj [100, 102, 104, 121, 131, 142] [5, 43] sc sf = true) (g : g_Z D) : g_Z D' := by
  rw [g_Z, dj_c h q 100 rfl, dj_c h q 102 rfl, dj_c h q 104 rfl, dj_c h q 121 rfl, dj_c h q 131 rfl, dj_c h q 142 rfl, dj_f h q 5 rfl, dj_f h q 43 rfl]
  exact g
def kCl : List Nat := wC.map (fun k => k + 169)
theorem wC_in : ∀ k, mem wC k = true → mem kCl (k + 169) = true := fun k hk => mem_iff.mpr (List.mem_map.mpr ⟨k, mem_iff.mp hk, rfl⟩)
theorem g_M_eq {c c' : ev_D} (h : ∀ k, mem [11, 21, 23, 25, 28, 30, 32, 34, 36] k = true → c' k 1 = c k 1) (g : g_M c) : g_M c' := by
  rw [g_M, h 11 rfl, h 21 rfl, h 23 rfl, h 25 rfl, h 28 rfl, h 30 rfl, h 32 rfl, h 34 rfl, h 36 rfl]
  exact g
theorem k_K {kp : Nat} (h : ex sc sf D' D) (q : dj (170 :: kCl) [64] sc sf = true) (g : g_K kp D) : g_K kp D' := by
  refine ⟨fun e => ?_, fun e => ?_⟩
  · rw [dj_f h q 64 rfl]; exact g.1 e
  · obtain ⟨g1, g2, g3⟩ := g.2 e
    have hk : ∀ k, mem wC k = true → D' (k + 169) = D (k + 169) := fun k hk => dj_c h q (k + 169) (by
      have := wC_in k hk
      rw [mem, List.any_cons]
      rw [mem] at this
      rw [this, Bool.or_true])
    refine ⟨by rw [dj_f h q 64 rfl]; exact g1, g_M_eq (fun k hm => ?_) g2, g_W_cg ⟨fun k hm i _ => ?_, fun f hf => by cases hf⟩ ⟨fun k hm i _ => ?_, fun f hf => ?_⟩ g3⟩
    · show D' (k + 169) 1 = D (k + 169) 1
      rw [hk k (List.all_eq_true.mp (show List.all [11, 21, 23, 25, 28, 30, 32, 34, 36] (mem wC) = true from rfl) k (mem_iff.mp hm))]
    · show D' (k + 169) i = D (k + 169) i
      rw [hk k hm]
    · show D' 170 _ = D 170 _
      rw [dj_c h q 170 rfl]
    · show D' 170 _ = D 170 _
      rw [dj_c h q 170 rfl]
end
/-- cells and fields that no answer hangs on -/
def sSC : List Nat := [20, 111, 113, 114, 115, 116, 117, 118, 119, 120, 122, 123, 125, 126, 127, 128, 129, 130, 135, 150, 154, 155, 156, 162, 164, 165, 169]
def sSF : List Nat := [0]
theorem Inv_s {kp : Nat} {D' D : ev_D} (h : ex sSC sSF D' D) (g : Inv kp D) : Inv kp D' := by
  obtain ⟨g0, gM, ⟨gT, gF, gB, gR, gD, gC, gS, gO, gE, gG, gU, gH, gN, gL⟩, gP, gQ, gZ, gK⟩ := g
  exact ⟨g0, k_M h rfl gM, ⟨k_T h rfl gT, k_F h rfl gF, k_B h rfl gB, k_R h rfl gR, k_D h rfl gD, k_C h rfl gC, k_S h rfl gS, k_O h rfl gO, k_E h rfl gE, k_G h rfl gG, k_U h rfl gU, k_H h rfl gH, k_N h rfl gN, k_L h rfl gL⟩, k_P h rfl gP, k_Q h rfl gQ, k_Z h rfl gZ, k_K h rfl gK⟩
/-- what a call must come to -/
def pl (kp : Nat) (a b : ev_D → ev_Op) (D : ev_D) : Prop := ∃ (r : Int32) (D1 D2 : ev_D), a D = some (r, D1) ∧ b D1 = some (r, D2) ∧ Inv kp D2
theorem gM_up {D : ev_D} {k i : Nat} {v : Int32} (q : (!(mem [11, 21, 23, 25, 28, 30, 32, 34, 36] k) || !(Nat.beq i 1)) = true) (g : g_M D) : g_M (ev_up D k i v) := by
  refine g_M_eq (fun k2 h2 => ?_) g
  rw [upA, if_neg]
  rintro ⟨rfl, rfl⟩
  rw [h2] at q
  cases q
theorem pl_mk {kp : Nat} {a b : ev_D → ev_Op} {D D1 D2 : ev_D} {r : Int32} (h1 : a D = some (r, D1)) (h2 : b D1 = some (r, D2)) (h3 : Inv kp D2) : pl kp a b D := ⟨r, D1, D2, h1, h2, h3⟩
theorem iv {kp : Nat} {D D2 : ev_D} (sc sf : List Nat) (h1 : ex sc sf D2 D) (h2 : ex sc sf D2 D → Inv kp D2) : Inv kp D2 := h2 h1
