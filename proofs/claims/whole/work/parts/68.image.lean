/-! ===== image: the four ways ===== -/
theorem p_imageA {fu : Nat} (D : ev_D) (h : Inv 0 D) : ∃ D2, fX12_image sh_L (sh_E 0) fu 132 (nI 0) D = some (nI 0, D2) ∧ Inv 0 D2 := by
  refine ⟨ev_up D 132 0 (nI 0), ?_, Inv_s (by repeat (first | exact ex_rf _ _ _ | refine ex_up ?_ rfl)) h⟩
  rw [fX12_image, i_0, if_pos rfl, upJ _ _ _ _ (by decide), h.2.2.2.2.2.2.1 rfl, if_pos rfl]
theorem wC_lt {j : Nat} (hj : mem wC j = true) : 3 ≤ j ∧ j < 40 := by
  have hk' := mem_iff.mp hj
  simp only [wC, List.mem_cons, List.not_mem_nil, or_false] at hk'
  omega
theorem wM_lt {j : Nat} (hj : mem wM j = true) : 133 ≤ j ∧ j < 169 := by
  have hk' := mem_iff.mp hj
  simp only [wM, List.mem_cons, List.not_mem_nil, or_false] at hk'
  omega
theorem wM_no {j : Nat} (h : j < 133 ∨ 169 ≤ j) : mem wM j = false := by
  cases e : mem wM j with
  | false => rfl
  | true => have := wM_lt e; omega
theorem mst_lt {j : Nat} (hj : mem mst j = true) : 11 ≤ j ∧ j < 40 := by
  have hk' := mem_iff.mp hj
  simp only [mst, List.mem_cons, List.not_mem_nil, or_false] at hk'
  omega
theorem g_M_same {c c' : ev_D} (g : g_M c) (g' : g_M c') (k : Nat) (hk : mem mst k = true) : c k 1 = c' k 1 := by
  have hk' := mem_iff.mp hk
  simp only [mst, List.mem_cons, List.not_mem_nil, or_false] at hk'
  obtain ⟨m1, m2, m3, m4, m5, m6, m7, m8, m9⟩ := g
  obtain ⟨n1, n2, n3, n4, n5, n6, n7, n8, n9⟩ := g'
  rcases hk' with rfl | rfl | rfl | rfl | rfl | rfl | rfl | rfl | rfl
  · exact m1.trans n1.symm
  · exact m2.trans n2.symm
  · exact m3.trans n3.symm
  · exact m4.trans n4.symm
  · exact m5.trans n5.symm
  · exact m6.trans n6.symm
  · exact m7.trans n7.symm
  · exact m8.trans n8.symm
  · exact m9.trans n9.symm
theorem p_imageC {fu : Nat} (hfu : 30000 ≤ fu) (D : ev_D) (h : Inv 171 D) : ∃ v D1 D2, fX10_become sh_L (sh_E 171) fu 171 2 D = some (v, D1) ∧ fX12_image sh_L (sh_E 171) fu 132 (nI 1) D1 = some (nI 1, D2) ∧ Inv 171 D2 := by
  obtain ⟨k1, k2, k3⟩ := h.2.2.2.2.2.2.2 rfl
  obtain ⟨D1, a1, a2, a3, a4⟩ := e_world (fu := fu) (t := 169) (u := 0) (D := D) (.inl ⟨rfl, rfl⟩) (g_wB h.2.2.1 (fun k _ => rfl) k2)
  obtain ⟨D2, b1, b2⟩ := im_take (D1 := D1) hfu h (fun k hk => funext fun i => a3 k i fun j hj => by have := wC_lt hj; omega) (fun k hk i hi => a2 k hk i hi) (fun k hk => (a4 k hk).trans (g_M_same k2 h.2.1 k hk))
  exact ⟨nI 0, D1, D2, a1, b1, b2⟩
theorem im_old1 (D : ev_D) : ∃ v S2 D2, im_R D = some (v, S2, D2) ∧ im_ck S2 = true ∧ (∀ k, k < 171 → D2 k = D k) ∧ g_M (fun k i => D2 (k + 169) i) := by
  have h1 := im_some D
  have h2 := im_old0 D
  have h3 := im_most0 D
  cases hr : im_R D with
  | none => rw [hr] at h1; cases h1
  | some r =>
    obtain ⟨v, S2, D2⟩ := r
    rw [hr] at h1 h2 h3
    dsimp only at h1 h2 h3
    rw [Bool.and_eq_true] at h1
    refine ⟨v, S2, D2, rfl, h1.1, fun k hk => ?_, ?_⟩
    · have := congrArg (fun l => l[k]?) h2
      simpa [List.getElem?_map, List.getElem?_range hk] using this
    · injection h3 with e1 h3
      injection h3 with e2 h3
      injection h3 with e3 h3
      injection h3 with e4 h3
      injection h3 with e5 h3
      injection h3 with e6 h3
      injection h3 with e7 h3
      injection h3 with e8 h3
      injection h3 with e9 h3
      exact ⟨e1, e2, e3, e4, e5, e6, e7, e8, e9⟩
theorem p_imageD {fu : Nat} (hfu : 30000 ≤ fu) (D : ev_D) (h : Inv 0 D) : ∃ v0 S2 D0 v D1 D2, gX10_init [.ref 171] im_S1 (ev_0 D 171) = some (v0, S2, D0) ∧ im_ck S2 = true ∧ fX10_become sh_L (sh_E 171) fu 171 2 D0 = some (v, D1) ∧ fX12_image sh_L (sh_E 171) fu 132 (nI 1) D1 = some (nI 1, D2) ∧ Inv 171 D2 := by
  obtain ⟨v0, S2, D0, c1, c2, c3, c4⟩ := im_old1 D
  obtain ⟨D1, a1, a2, a3, a4⟩ := e_world (fu := fu) (t := 169) (u := 0) (D := D0) (.inl ⟨rfl, rfl⟩) (g_wB h.2.2.1 (fun k hk => by
    show D0 k 0 = D k 0
    rw [c3 k (by omega)]) c4)
  obtain ⟨D2, b1, b2⟩ := im_take (D1 := D1) hfu h (fun k hk => funext fun i => by rw [a3 k i fun j hj => (by have := wC_lt hj; omega), c3 k hk]) (fun k hk i hi => by
    have := wC_lt hk
    rw [a2 k hk i hi]
    show D0 k i = D k i
    rw [c3 k (by omega)]) (fun k hk => (a4 k hk).trans (g_M_same c4 h.2.1 k hk))
  exact ⟨v0, S2, D0, nI 0, D1, D2, c1, c2, a1, b1, b2⟩
theorem p_imageB {fu : Nat} (hfu : 30000 ≤ fu) (D : ev_D) (h : Inv 171 D) : ∃ v1 D1 v2 D2 D3, fX10_become sh_L (sh_E 171) fu 2 171 D = some (v1, D1) ∧ fX2_forget sh_L (sh_E 171) fu 40 D1 = some (v2, D2) ∧ fX12_image sh_L (sh_E 171) fu 132 (nI 0) D2 = some (nI 1, D3) ∧ Inv 171 D3 := by
  obtain ⟨k1, k2, k3⟩ := h.2.2.2.2.2.2.2 rfl
  obtain ⟨g0, gM, gW, gP, gQ, gZ, gK⟩ := h
  obtain ⟨D1, a1, a2, a3, a4⟩ := e_world (fu := fu) (t := 0) (u := 169) (D := D) (.inr ⟨rfl, rfl⟩) (g_wB k3 (fun k _ => rfl) gM)
  have k0 : kU (im0 (ev_up D1 40 0 (nI 0)) 0) 0 (im0 (ev_up D1 40 0 (nI 0)) 0) := ⟨by rw [im0, upS], by rw [im0, upJ _ _ _ _ (by decide), upJ _ _ _ _ (by decide), upS], fun _ => rfl, fun j hj => absurd hj (Nat.not_lt_zero j), fun _ _ _ _ => rfl⟩
  obtain ⟨D4, b0, ⟨b1, b2, b3, b4, b5⟩⟩ := e_images (kp := 171) (fu := fu) hfu (fun p k i D hp hk hi h => kU_s p k i D hp hk hi h) (nI 0) k0
  rw [if_pos rfl] at b0
  /- what stays -/
  have s1 : ∀ k i, 40 ≤ k → D1 k i = D k i := fun k i hk => a3 k i fun j hj => by have := wC_lt hj; omega
  have s2 : ∀ k i, mem wM k = false → k ≠ 132 → k ≠ 40 → (ev_up D4 132 3 (nI 0)) k i = D1 k i := fun k i hm hk h40 => by
    rw [upN _ _ _ _ hk, b5 k i (fun z => hk z.1) (by rw [hm, nbF hk]; rfl), im0_f _ _ _ _ (fun z => hk z.1), upN _ _ _ _ h40]
  have s3 : ∀ k, mem wM k = false → k ≠ 132 → 40 < k → (ev_up D4 132 3 (nI 0)) k = D k := fun k hm hk h40 => funext fun i => by rw [s2 k i hm hk (by omega), s1 k i (by omega)]
  have s4 : ∀ f, mem wF f = false → mem [0, 63, 64, 65, 3] f = false → (ev_up D4 132 3 (nI 0)) 132 f = D 132 f := fun f hf hn => by
    have n3 : f ≠ 3 := fun e => by rw [e] at hn; cases hn
    have n65 : f ≠ 65 := fun e => by rw [e] at hn; cases hn
    rw [upJ _ _ _ _ n3, b5 132 f (fun z => n65 z.2) (by rw [hf]; rfl), im0_f _ _ _ _ (fun z => by
      have h2 := List.all_eq_true.mp (show List.all [0, 63, 64, 65] (fun f => mem [0, 63, 64, 65, 3] f) = true from rfl) f (mem_iff.mp z.2)
      rw [hn] at h2
      cases h2), upN _ _ _ _ (by decide), s1 132 f (by decide)]
  have s170 : ∀ i, (ev_up D4 132 3 (nI 0)) 170 i = D 170 i := fun i => by
    rw [upN _ _ _ _ (by decide), b3 i, im0_f _ _ _ _ (fun z => absurd z.1 (by decide)), upN _ _ _ _ (by decide), s1 170 i (by decide)]
  have sL : ∀ j, j < 1798 → D4 (lcK j) (lcI j) = D 170 j := fun j hj => by
    rw [b4 j hj, im0_f _ _ _ _ (fun z => absurd z.1 (by decide)), upN _ _ _ _ (by decide), s1 170 j (by decide)]
  have f64 : (ev_up D4 132 3 (nI 0)) 132 64 = nI 1 := by
    rw [upJ _ _ _ _ (by decide), b5 132 64 (by decide) rfl, im0, upJ _ _ _ _ (by decide), upS]
  have f3 : (ev_up D4 132 3 (nI 0)) 132 3 = nI 0 := upS _ _ _ _
  have c40 : (ev_up D4 132 3 (nI 0)) 40 0 = nI 0 ∧ (ev_up D4 132 3 (nI 0)) 40 1 = D 40 1 := by
    constructor
    · rw [upN _ _ _ _ (by decide), b5 40 0 (by decide) rfl, im0_f _ _ _ _ (by decide), upS]
    · rw [upN _ _ _ _ (by decide), b5 40 1 (by decide) rfl, im0_f _ _ _ _ (by decide), upJ _ _ _ _ (by decide), s1 40 1 (by decide)]
  have wL : ∀ k, mem wM k = true → ∀ i, i < rgM k → (ev_up D4 132 3 (nI 0)) k i = D 170 (ips k i) := fun k hk i hi => by
    obtain ⟨c1, c2, c3⟩ := lc_inv hk hi
    have := sL _ c3
    rw [c1, c2] at this
    have hk2 := wM_lt hk
    rw [upN _ _ _ _ (by omega), this]
  have wLF : ∀ f, mem wF f = true → (ev_up D4 132 3 (nI 0)) 132 f = D 170 (ips 132 f) := fun f hf => by
    obtain ⟨c1, c2, c3⟩ := lc_invF hf
    have := sL _ c3
    rw [c1, c2] at this
    rw [upJ _ _ _ _ (fun e => by rw [e] at hf; cases hf), this]
  refine ⟨nI 0, D1, nI 0, ev_up D1 40 0 (nI 0), ev_up D4 132 3 (nI 0), a1, by rw [fX2_forget, i_0], ?_, .inr rfl, ?_, ?_, ?_, ?_, ?_, ⟨fun e => absurd e (by decide), fun _ => ⟨f64, ?_, ?_⟩⟩⟩
  · rw [fX12_image, i_0, if_pos rfl, upJ _ _ _ _ (by decide), upN _ _ _ _ (by decide), s1 132 64 (by decide), k1, if_neg (by decide), fX12_image_18, i_1, i_0]
    rw [gdT (show (nI 0 == nI 0 || nI 0 == nI 1) = true by decide)]
    exact b0
  · refine g_M_eq (fun k hk => ?_) gM
    have := mst_lt hk
    rw [s2 k 1 (wM_no (by omega)) (by omega) (by omega)]
    exact a4 k hk
  · refine g_W_cg ⟨fun k hk i hi => ?_, fun f hf => by cases hf⟩ ⟨fun k hk i hi => wL k hk i hi, fun f hf => wLF f hf⟩ k3
    have := wC_lt hk
    rw [s2 k i (wM_no (by omega)) (by omega) (by omega)]
    exact a2 k hk i hi
  · refine ⟨by rw [c40.1]; exact bI_n (by decide), by rw [c40.2]; exact gP.2.1, by rw [f3, c40.1], fun j hj => ?_⟩
    rw [c40.1, nv_n (by decide)] at hj
    exact absurd hj (Nat.not_lt_zero j)
  · rw [g_Q, s3 91 rfl (by decide) (by decide), s3 106 rfl (by decide) (by decide), s3 141 rfl (by decide) (by decide), s4 13 rfl rfl, s4 33 rfl rfl, s4 34 rfl rfl]
    exact gQ
  · rw [g_Z, s3 100 rfl (by decide) (by decide), s3 102 rfl (by decide) (by decide), s3 104 rfl (by decide) (by decide), s3 121 rfl (by decide) (by decide), s3 131 rfl (by decide) (by decide), s3 142 rfl (by decide) (by decide), s4 5 rfl rfl, s4 43 rfl rfl]
    exact gZ
  · refine g_M_eq (fun k hk => ?_) k2
    show (ev_up D4 132 3 (nI 0)) (k + 169) 1 = D (k + 169) 1
    have := mst_lt hk
    rw [s3 (k + 169) (wM_no (by omega)) (by omega) (by omega)]
  · refine g_W_cg ⟨fun k hk i hi => ?_, fun f hf => by cases hf⟩ ⟨fun k hk i hi => s170 _, fun f hf => s170 _⟩ k3
    show (ev_up D4 132 3 (nI 0)) (k + 169) i = D (k + 169) i
    have := wC_lt hk
    rw [s3 (k + 169) (wM_no (by omega)) (by omega) (by omega)]
