/-! ===== image: both ===== -/
set_option maxRecDepth 100000 in
theorem lc_in : ∀ j, j < 1798 → (mem wM (lcK j) || (Nat.beq (lcK j) 132 && mem wF (lcI j))) = true := by decide +kernel
set_option maxRecDepth 100000 in
theorem lc_inv0 : (wM.all fun k => (List.range (rgM k)).all fun i => Nat.beq (lcK (ips k i)) k && (Nat.beq (lcI (ips k i)) i && Nat.blt (ips k i) 1798)) = true := by decide +kernel
theorem lc_inv {k i : Nat} (hk : mem wM k = true) (hi : i < rgM k) : lcK (ips k i) = k ∧ lcI (ips k i) = i ∧ ips k i < 1798 := by
  have h := List.all_eq_true.mp (List.all_eq_true.mp lc_inv0 k (mem_iff.mp hk)) i (List.mem_range.mpr hi)
  rw [Bool.and_eq_true, Bool.and_eq_true] at h
  exact ⟨Nat.eq_of_beq_eq_true h.1, Nat.eq_of_beq_eq_true h.2.1, Nat.le_of_ble_eq_true h.2.2⟩
theorem lc_invF0 : (wF.all fun i => Nat.beq (lcK (ips 132 i)) 132 && (Nat.beq (lcI (ips 132 i)) i && Nat.blt (ips 132 i) 1798)) = true := by decide +kernel
theorem lc_invF {i : Nat} (hi : mem wF i = true) : lcK (ips 132 i) = 132 ∧ lcI (ips 132 i) = i ∧ ips 132 i < 1798 := by
  have h := List.all_eq_true.mp lc_invF0 i (mem_iff.mp hi)
  rw [Bool.and_eq_true, Bool.and_eq_true] at h
  exact ⟨Nat.eq_of_beq_eq_true h.1, Nat.eq_of_beq_eq_true h.2.1, Nat.le_of_ble_eq_true h.2.2⟩
theorem lc_ne {p : Nat} (hp : p < 1798) : lcK p ≠ 170 ∧ ∀ f, mem wF f = false → ¬ (lcK p = 132 ∧ lcI p = f) := by
  have h := lc_in p hp
  refine ⟨fun e => (by
    rw [e, show mem wM 170 = false from rfl, show Nat.beq 170 132 = false from rfl, Bool.false_and, Bool.or_false] at h
    cases h), fun f hf z => ?_⟩
  rw [z.1, z.2, hf] at h
  revert h; decide
def kT (D0 : ev_D) (p : Nat) (D : ev_D) : Prop := D 132 65 = nI p ∧ D 132 63 = nI 1 ∧ (∀ j, j < p → D 170 j = D0 (lcK j) (lcI j)) ∧ ∀ k i, k ≠ 170 → ¬ (k = 132 ∧ i = 65) → D k i = D0 k i
def kU (D0 : ev_D) (p : Nat) (D : ev_D) : Prop := D 132 65 = nI p ∧ D 132 63 = nI 0 ∧ (∀ i, D 170 i = D0 170 i) ∧ (∀ j, j < p → D (lcK j) (lcI j) = D0 170 j) ∧ ∀ k i, ¬ (k = 132 ∧ i = 65) → (mem wM k || (Nat.beq k 132 && mem wF i)) = false → D k i = D0 k i
theorem l170 : sh_L 170 = 1800 ∨ 1798 ≤ sh_L 170 := .inr (by decide)
theorem kT_s {kp fu : Nat} {D0 : ev_D} (p k i : Nat) (D : ev_D) (hp : p < 1798) (hk : lcK p = k) (hi : lcI p = i) (h : kT D0 p D) : ∃ v D', fX12_keeps sh_L (sh_E kp) fu 132 (D k i) D = some (v, D') ∧ kT D0 (p + 1) (ev_up D' k i v) := by
  obtain ⟨h1, h2, h3, h4⟩ := h
  obtain ⟨n1, n2⟩ := lc_ne hp
  have n65 := n2 65 rfl
  have n63 := n2 63 rfl
  rw [hk, hi] at n65 n63
  rw [hk] at n1
  have hL : p < sh_L 170 := by rcases l170 with e | e <;> omega
  refine ⟨D k i, ev_up (ev_up D 132 65 (nI (p + 1))) 170 p (D k i), ?_, ?_, ?_, fun j hj => ?_, fun k' i' a b => ?_⟩
  · rw [fX12_keeps, h1, i_1, addK, upJ _ _ _ _ (show 63 ≠ 65 by decide), h2, i_0, if_neg (by decide), upS, pk_sub (by omega), Nat.add_sub_cancel, e_132_66, gdI hL (by omega), nI_clamp (by omega)]
  · rw [upA, if_neg fun z => n65 ⟨z.1.symm, z.2.symm⟩, upN _ _ _ _ (by decide), upS]
  · rw [upA, if_neg fun z => n63 ⟨z.1.symm, z.2.symm⟩, upN _ _ _ _ (by decide), upJ _ _ _ _ (by decide), h2]
  · rw [upN _ _ _ _ (Ne.symm n1), upA]
    by_cases e : j = p
    · rw [if_pos ⟨rfl, e⟩, e, hk, hi]
      exact h4 k i n1 n65
    · rw [if_neg fun z => e z.2, upN _ _ _ _ (by decide), h3 j (by omega)]
  · rw [upA]
    by_cases e : k' = k ∧ i' = i
    · rw [if_pos e, e.1, e.2]
      exact h4 k i n1 n65
    · rw [if_neg e, upN _ _ _ _ a, upA, if_neg b, h4 k' i' a b]
theorem kU_s {kp fu : Nat} {D0 : ev_D} (p k i : Nat) (D : ev_D) (hp : p < 1798) (hk : lcK p = k) (hi : lcI p = i) (h : kU D0 p D) : ∃ v D', fX12_keeps sh_L (sh_E kp) fu 132 (D k i) D = some (v, D') ∧ kU D0 (p + 1) (ev_up D' k i v) := by
  obtain ⟨h1, h2, h3, h4, h5⟩ := h
  obtain ⟨n1, n2⟩ := lc_ne hp
  have n65 := n2 65 rfl
  have n63 := n2 63 rfl
  have nin := lc_in p hp
  rw [hk, hi] at n65 n63 nin
  rw [hk] at n1
  have hL : p < sh_L 170 := by rcases l170 with e | e <;> omega
  refine ⟨D 170 p, ev_up D 132 65 (nI (p + 1)), ?_, ?_, ?_, fun i' => ?_, fun j hj => ?_, fun k' i' a b => ?_⟩
  · rw [fX12_keeps, h1, i_1, addK, upJ _ _ _ _ (show 63 ≠ 65 by decide), h2, i_0, if_pos rfl, upS, pk_sub (by omega), Nat.add_sub_cancel, e_132_66, gdI hL (by omega), nI_clamp (by omega), upN _ _ _ _ (by decide)]
  · rw [upA, if_neg fun z => n65 ⟨z.1.symm, z.2.symm⟩, upS]
  · rw [upA, if_neg fun z => n63 ⟨z.1.symm, z.2.symm⟩, upJ _ _ _ _ (by decide), h2]
  · rw [upN _ _ _ _ (Ne.symm n1), upN _ _ _ _ (by decide), h3]
  · rw [upA]
    by_cases e : j = p
    · rw [e, hk, hi, if_pos ⟨rfl, rfl⟩, h3]
    · have nj := (lc_ne (p := j) (by omega)).2 65 rfl
      rw [if_neg fun z => e (by rw [← lc_ips j (by omega), ← lc_ips p hp, z.1, z.2, hk, hi]), upA, if_neg nj, h4 j (by omega)]
  · have nz : ¬ (k' = k ∧ i' = i) := fun z => by
      rw [z.1, z.2, nin] at b
      cases b
    rw [upA, if_neg nz, upA, if_neg a, h5 k' i' a b]
/-- what both leave alone -/
theorem Inv_im {kp : Nat} {D' D : ev_D} (hc : ∀ k, k < 170 → k ≠ 132 → D' k = D k) (hf : ∀ f, mem [0, 63, 64, 65] f = false → D' 132 f = D 132 f) (g : Inv kp D) : g_M D' ∧ g_W D' D' ∧ g_P D' ∧ g_Q D' ∧ g_Z D' := by
  obtain ⟨g0, gM, gW, gP, gQ, gZ, gK⟩ := g
  have hw : ∀ (l : List Nat), l.all (fun k => Nat.blt k 170 && !(Nat.beq k 132)) = true → ∀ k, mem l k = true → D' k = D k := fun l hl k hk => by
    have := List.all_eq_true.mp hl k (mem_iff.mp hk)
    rw [Bool.and_eq_true] at this
    exact hc k (Nat.le_of_ble_eq_true this.1) fun e => by have := this.2; rw [e] at this; cases this
  refine ⟨g_M_eq (fun k hk => by rw [hw _ rfl k hk]) gM, g_W_cg ⟨fun k hk i _ => by rw [hw _ rfl k hk], fun f hf => by cases hf⟩ ⟨fun k hk i _ => by rw [hw _ rfl k hk], fun f hm => hf f ?_⟩ gW, ?_, ?_, ?_⟩
  · cases h : mem [0, 63, 64, 65] f with
    | false => rfl
    | true =>
      have h2 := List.all_eq_true.mp (show List.all [0, 63, 64, 65] (fun f => !(mem wF f)) = true from rfl) f (mem_iff.mp h)
      rw [hm] at h2
      cases h2
  · obtain ⟨g1, g2, g3, g4⟩ := gP
    rw [g_P, hc 40 (by decide) (by decide), hf 3 rfl]
    exact ⟨g1, g2, g3, fun j hj => g_P1_cg (fun k hk => hw _ rfl k hk) (Nat.mod_lt _ (by decide)) (g4 j hj)⟩
  · rw [g_Q, hc 91 (by decide) (by decide), hc 106 (by decide) (by decide), hc 141 (by decide) (by decide), hf 13 rfl, hf 33 rfl, hf 34 rfl]
    exact gQ
  · rw [g_Z, hc 100 (by decide) (by decide), hc 102 (by decide) (by decide), hc 104 (by decide) (by decide), hc 121 (by decide) (by decide), hc 131 (by decide) (by decide), hc 142 (by decide) (by decide), hf 5 rfl, hf 43 rfl]
    exact gZ
theorem bI_ex {n : Nat} {x : Int32} (h : bI n x) : ∃ c, c ≤ n ∧ x = nI c := h
theorem g_wB {t u : Nat} {D c m : ev_D} (hW : g_W c m) (hc : ∀ k, k < 40 → D (k + u) 0 = c k 0) (hM : g_M (fun k i => D (k + t) i)) : wB t u D := by
  obtain ⟨gT, gF, gB, gR, gD, gC, gS, gO, gE, gG, gU, gH, gN, gL⟩ := hW
  obtain ⟨m1, m2, m3, m4, m5, m6, m7, m8, m9⟩ := hM
  refine ⟨?_, m1, ?_, m2, ?_, m3, ?_, m4, ?_, m5, ?_, m6, ?_, m7, ?_, m8, ?_, m9⟩
  · rw [hc 11 (by decide)]; exact gT.2.2.1
  · rw [hc 21 (by decide)]; exact gR.1
  · rw [hc 23 (by decide)]; exact gD.1
  · rw [hc 25 (by decide)]; exact gC.1
  · rw [hc 28 (by decide)]; exact gS.1
  · rw [hc 30 (by decide)]; exact gO.1
  · rw [hc 32 (by decide)]; exact gE.1
  · rw [hc 34 (by decide)]; exact gG.1
  · rw [hc 36 (by decide)]; exact gU.1
def im0 (D : ev_D) (x : Nat) : ev_D := ev_up (ev_up (ev_up (ev_up D 132 0 (nI 0)) 132 63 (nI x)) 132 64 (nI 1)) 132 65 (nI 0)
theorem im0_f (D : ev_D) (x : Nat) (k i : Nat) (h : ¬ (k = 132 ∧ mem [0, 63, 64, 65] i = true)) : im0 D x k i = D k i := by
  unfold im0
  rw [upA, upA, upA, upA, if_neg fun z => h ⟨z.1, by rw [z.2]; rfl⟩, if_neg fun z => h ⟨z.1, by rw [z.2]; rfl⟩, if_neg fun z => h ⟨z.1, by rw [z.2]; rfl⟩, if_neg fun z => h ⟨z.1, by rw [z.2]; rfl⟩]
/-- taking: from the class's world, kept already -/
theorem im_take {kp fu : Nat} (hfu : 30000 ≤ fu) {D D1 : ev_D} (I : Inv kp D) (h1 : ∀ k, k < 171 → D1 k = D k) (h2 : ∀ k, mem wC k = true → ∀ i, i < rgC k → D1 (k + 169) i = D k i) (h3 : ∀ k, mem mst k = true → D1 (k + 169) 1 = D k 1) : ∃ D2, fX12_image sh_L (sh_E 171) fu 132 (nI 1) D1 = some (nI 1, D2) ∧ Inv 171 D2 := by
  have k0 : kT (im0 D1 1) 0 (im0 D1 1) := ⟨by rw [im0, upS], by rw [im0, upJ _ _ _ _ (by decide), upJ _ _ _ _ (by decide), upS], fun j hj => absurd hj (Nat.not_lt_zero j), fun _ _ _ _ => rfl⟩
  obtain ⟨D2, a1, a2⟩ := e_images (kp := 171) (fu := fu) hfu (fun p k i D hp hk hi h => kT_s p k i D hp hk hi h) (nI 1) k0
  rw [if_neg (by decide)] at a1
  obtain ⟨b1, b2, b3, b4⟩ := a2
  have hc : ∀ k i, k ≠ 170 → ¬ (k = 132 ∧ mem [0, 63, 64, 65] i = true) → D2 k i = D1 k i := fun k i a b => by
    rw [b4 k i a (fun z => b ⟨z.1, by rw [z.2]; rfl⟩), im0_f D1 1 k i b]
  have hc1 : ∀ k, k < 170 → k ≠ 132 → D2 k = D k := fun k a b => funext fun i => by rw [hc k i (by omega) (fun z => b z.1), h1 k (by omega)]
  have hf1 : ∀ f, mem [0, 63, 64, 65] f = false → D2 132 f = D 132 f := fun f h => by rw [hc 132 f (by decide) (fun z => by rw [h] at z; cases z.2), h1 132 (by decide)]
  have hI := Inv_im hc1 hf1 I
  have f64 : D2 132 64 = nI 1 := by
    rw [b4 132 64 (by decide) (by decide), im0, upJ _ _ _ _ (by decide), upS]
  refine ⟨D2, ?_, .inr rfl, hI.1, hI.2.1, hI.2.2.1, hI.2.2.2.1, hI.2.2.2.2, ⟨fun e => absurd e (by decide), fun _ => ⟨f64, ?_, ?_⟩⟩⟩
  · rw [fX12_image, i_0, if_neg (by decide), fX12_image_18, i_1, i_0]
    rw [gdT (show (nI 1 == nI 0 || nI 1 == nI 1) = true by decide)]
    exact a1
  · refine g_M_eq (fun k hk => ?_) I.2.1
    have hk' := mem_iff.mp hk
    simp only [List.mem_cons, List.not_mem_nil, or_false] at hk'
    show D2 (k + 169) 1 = D k 1
    rw [hc _ _ (by omega) (fun z => by omega), h3 k hk]
  · refine g_W_cg ⟨fun k hk i hi => ?_, fun f hf => by cases hf⟩ ⟨fun k hk i hi => ?_, fun f hf => ?_⟩ I.2.2.1
    · have hk3 : 3 ≤ k := by
        have hk' := mem_iff.mp hk
        simp only [wC, List.mem_cons, List.not_mem_nil, or_false] at hk'
        omega
      show D2 (k + 169) i = D k i
      rw [hc _ _ (by omega) (fun z => by
        have hk' := mem_iff.mp hk
        simp only [wC, List.mem_cons, List.not_mem_nil, or_false] at hk'
        omega), h2 k hk i hi]
    · obtain ⟨c1, c2, c3⟩ := lc_inv hk hi
      show D2 170 (ips k i) = D k i
      have hkl : k < 171 ∧ k ≠ 132 := by
        have hk' := mem_iff.mp hk
        simp only [wM, List.mem_cons, List.not_mem_nil, or_false] at hk'
        omega
      rw [b3 _ c3, c1, c2, im0_f D1 1 k i (fun z => hkl.2 z.1), h1 k hkl.1]
    · obtain ⟨c1, c2, c3⟩ := lc_invF hf
      show D2 170 (ips 132 f) = D 132 f
      rw [b3 _ c3, c1, c2, im0_f D1 1 132 f (fun z => by
        have h2 := List.all_eq_true.mp (show List.all [0, 63, 64, 65] (fun f => !(mem wF f)) = true from rfl) f (mem_iff.mp z.2)
        rw [hf] at h2
        cases h2), h1 132 (by decide)]
