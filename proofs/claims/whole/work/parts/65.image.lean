/-! ===== a world becomes another one: the class ===== -/
def mst : List Nat := [11, 21, 23, 25, 28, 30, 32, 34, 36]
/-- the cells A of the world at t are now those of the world at u, nothing else is changed -/
def cpy (t u : Nat) (A : List Nat) (D' D : ev_D) : Prop := (∀ k, mem A k = true → ∀ i, i < rgC k → D' (k + t) i = D (k + u) i) ∧ (∀ k i, (∀ j, mem A j = true → k ≠ j + t) → D' k i = D k i) ∧ ∀ k, mem mst k = true → D' (k + t) 1 = D (k + t) 1
theorem mem_app (A B : List Nat) (k : Nat) : mem (A ++ B) k = (mem A k || mem B k) := by
  unfold mem; rw [List.any_append]
theorem all_lt {A : List Nat} (h : A.all (fun j => Nat.blt j 40) = true) {j : Nat} (hj : mem A j = true) : j < 40 := by
  have := List.all_eq_true.mp h j (mem_iff.mp hj)
  exact Nat.le_of_ble_eq_true this
theorem cpy_tr {t u : Nat} {A B : List Nat} {D D1 D2 : ev_D} (htu : t + 40 ≤ u ∨ u + 40 ≤ t) (h1 : cpy t u A D1 D) (h2 : cpy t u B D2 D1) (hA : A.all (fun j => Nat.blt j 40) = true) (hB : B.all (fun j => Nat.blt j 40) = true) (hd : A.all (fun j => !(mem B j)) = true) : cpy t u (A ++ B) D2 D := by
  obtain ⟨a1, a2, a3⟩ := h1
  obtain ⟨b1, b2, b3⟩ := h2
  refine ⟨fun k hk i hi => ?_, fun k i hk => ?_, fun k hk => (b3 k hk).trans (a3 k hk)⟩
  · cases hb : mem B k with
    | true =>
      have kb := all_lt hB hb
      rw [b1 k hb i hi, a2 _ i (fun j hj => by have := all_lt hA hj; omega)]
    | false =>
      rw [mem_app, hb, Bool.or_false] at hk
      rw [b2 _ i (fun j hj e => by
        have : j = k := by omega
        rw [this, hb] at hj; cases hj), a1 k hk i hi]
  · rw [b2 k i (fun j hj => hk j (by rw [mem_app, hj, Bool.or_true])), a2 k i (fun j hj => hk j (by rw [mem_app, hj, Bool.true_or]))]
theorem mem1 {j k : Nat} : mem [j] k = true ↔ k = j := by
  rw [mem_iff]; simp
theorem cpy_cp {t u j n : Nat} (D : ev_D) (hr : rgC j = n) (hm : mem mst j = false) : cpy t u [j] (ev_cpD D (j + u) (j + t) 0 0 n) D := by
  refine ⟨fun k hk i hi => ?_, fun k i hk => ?_, fun k hk => ?_⟩
  · have e := mem1.mp hk
    subst e
    rw [cpA, if_pos ⟨rfl, by omega⟩]
  · rw [cpA, if_neg fun z => hk j (mem1.mpr rfl) z.1]
  · rw [cpA, if_neg fun z => by
      have e : k = j := by omega
      rw [e, hm] at hk; cases hk]
section
variable {fu t u : Nat}
theorem e_rowsB {j n c M : Nat} {D : ev_D} (htu : t + 40 ≤ u ∨ u + 40 ≤ t) (hj : j < 39) (e1 : sh_E 171 (j + t) 2 = j + 1 + t) (e2 : sh_E 171 (j + u) 2 = j + 1 + u) (l1 : sh_L (j + 1 + t) = n) (l2 : sh_L (j + 1 + u) = n) (r0 : rgC j = 1) (r1 : rgC (j + 1) = n) (hm : mem mst (j + 1) = false) (hn : n < 2 ^ 30) (hc : D (j + u) 0 = nI c) (hM : D (j + t) 1 = nI M) (hcM : c ≤ M) (hM2 : M < 2 ^ 30) : ∃ D', fX6_become sh_L (sh_E 171) fu (j + t) (j + u) D = some (nI 0, D') ∧ fX0_become sh_L (sh_E 171) fu (j + t) (j + u) D = some (nI 0, D') ∧ cpy t u [j, j + 1] D' D := by
  have s1 : cpy t u [j] (ev_up D (j + t) 0 (nI c)) D := by
    refine ⟨fun k hk i hi => ?_, fun k i hk => ?_, fun k hk => ?_⟩
    · have e := mem1.mp hk
      subst e
      rw [show i = 0 by omega, upS, hc]
    · rw [upA, if_neg fun z => hk j (mem1.mpr rfl) z.1]
    · rw [upJ _ _ _ _ (by decide)]
  have s2 := cpy_tr htu s1 (cpy_cp (t := t) (u := u) (j := j + 1) (ev_up D (j + t) 0 (nI c)) r1 hm) (by simp [Nat.blt]; omega) (by simp [Nat.blt]; omega) (by
    show (!(mem [j + 1] j) && true) = true
    have : mem [j + 1] j = false := by
      cases h : mem [j + 1] j with
      | false => rfl
      | true => have := mem1.mp h; omega
    rw [this]; rfl)
  refine ⟨_, ?_, ?_, s2⟩
  · rw [fX6_become, hc, hM, e_min _ _ _ _ (by omega) (by omega), bdS, Nat.min_eq_left hcM, e1, e2, e_copy _ l2 l1 (by omega) hn, bdS, i_0]
  · rw [fX0_become, hc, hM, e_min _ _ _ _ (by omega) (by omega), bdS, Nat.min_eq_left hcM, e1, e2, e_copy _ l2 l1 (by omega) hn, bdS, i_0]
end
/-- what the copy needs of the two: rows within their bounds -/
def wB (t u : Nat) (D : ev_D) : Prop := (∃ c, c ≤ 150 ∧ D (11 + u) 0 = nI c) ∧ D (11 + t) 1 = nI 150 ∧ (∃ c, c ≤ 16 ∧ D (21 + u) 0 = nI c) ∧ D (21 + t) 1 = nI 16 ∧ (∃ c, c ≤ 16 ∧ D (23 + u) 0 = nI c) ∧ D (23 + t) 1 = nI 16 ∧ (∃ c, c ≤ 16 ∧ D (25 + u) 0 = nI c) ∧ D (25 + t) 1 = nI 16 ∧ (∃ c, c ≤ 10 ∧ D (28 + u) 0 = nI c) ∧ D (28 + t) 1 = nI 10 ∧ (∃ c, c ≤ 6 ∧ D (30 + u) 0 = nI c) ∧ D (30 + t) 1 = nI 6 ∧ (∃ c, c ≤ 16 ∧ D (32 + u) 0 = nI c) ∧ D (32 + t) 1 = nI 16 ∧ (∃ c, c ≤ 24 ∧ D (34 + u) 0 = nI c) ∧ D (34 + t) 1 = nI 24 ∧ (∃ c, c ≤ 20 ∧ D (36 + u) 0 = nI c) ∧ D (36 + t) 1 = nI 20
theorem cpy_b {t u : Nat} {A : List Nat} {D' D : ev_D} {j : Nat} (htu : t + 40 ≤ u ∨ u + 40 ≤ t) (h : cpy t u A D' D) (hA : A.all (fun j => Nat.blt j 40) = true) (hj : j < 40) (i : Nat) : D' (j + u) i = D (j + u) i := h.2.1 _ i fun k hk => by have := all_lt hA hk; omega
set_option maxHeartbeats 8000000 in
theorem e_world {fu t u : Nat} {D : ev_D} (htu : (t = 169 ∧ u = 0) ∨ (t = 0 ∧ u = 169)) (hB : wB t u D) : ∃ D', fX10_become sh_L (sh_E 171) fu (2 + t) (2 + u) D = some (nI 0, D') ∧ cpy t u wC D' D := by
  have h40 : t + 40 ≤ u ∨ u + 40 ≤ t := by omega
  have ne : 14 + u ≠ 14 + t := by omega
  obtain ⟨⟨c11, h11, k11⟩, m11, ⟨c21, h21, k21⟩, m21, ⟨c23, h23, k23⟩, m23, ⟨c25, h25, k25⟩, m25, ⟨c28, h28, k28⟩, m28, ⟨c30, h30, k30⟩, m30, ⟨c32, h32, k32⟩, m32, ⟨c34, h34, k34⟩, m34, ⟨c36, h36, k36⟩, m36⟩ := hB
  have tw : twE 171 (3 + t) ∧ twE 171 (3 + u) := by
    rcases htu with ⟨rfl, rfl⟩ | ⟨rfl, rfl⟩
    · exact ⟨twE_172 171, twE_3 171⟩
    · exact ⟨twE_3 171, twE_172 171⟩
  have eL : ∀ j, j < 40 → 2 ≤ j → sh_L (j + t) = sh_L j ∧ sh_L (j + u) = sh_L j := by
    rcases htu with ⟨rfl, rfl⟩ | ⟨rfl, rfl⟩ <;> decide
  have eE : ∀ j, j < 40 → 2 ≤ j → ∀ i, i < 14 → sh_E 171 j i ≠ 0 → sh_E 171 (j + t) i = sh_E 171 j i + t ∧ sh_E 171 (j + u) i = sh_E 171 j i + u := by
    rcases htu with ⟨rfl, rfl⟩ | ⟨rfl, rfl⟩ <;> decide +kernel
  have E : ∀ (j i v : Nat), j < 40 → 2 ≤ j → i < 14 → sh_E 171 j i = v → v ≠ 0 → sh_E 171 (j + t) i = v + t ∧ sh_E 171 (j + u) i = v + u := fun j i v a b d e f => by
    have := eE j a b i d (by rw [e]; exact f)
    rw [e] at this
    exact this
  obtain ⟨D1, a1, a2, a3, a4⟩ := e_become (fu := fu) tw.1 tw.2 (by omega) D
  have s1 : cpy t u [3, 4, 5, 6, 7, 8, 9, 10] D1 D := by
    refine ⟨fun k hk i hi => ?_, fun k i hk => a3 k i fun z => hk (k - t) ?_ (by omega), fun k hk => a3 _ 1 fun z => ?_⟩
    · have hk' := mem_iff.mp hk
      simp only [List.mem_cons, List.not_mem_nil, or_false] at hk'
      obtain ⟨j, hj, rfl⟩ : ∃ j, j < 8 ∧ k = 3 + j := ⟨k - 3, by omega, by omega⟩
      have hr : rgC (3 + j) = rgT j := by
        match j, hj with
        | 0, _ => rfl
        | 1, _ => rfl
        | 2, _ => rfl
        | 3, _ => rfl
        | 4, _ => rfl
        | 5, _ => rfl
        | 6, _ => rfl
        | 7, _ => rfl
      have := a2 j hj i (by rw [← hr]; exact hi)
      rw [show 3 + j + t = 3 + t + j by omega, show 3 + j + u = 3 + u + j by omega]
      exact this
    · rw [mem_iff]
      simp only [List.mem_cons, List.not_mem_nil, or_false]
      omega
    · have hk' := mem_iff.mp hk
      simp only [mst, List.mem_cons, List.not_mem_nil, or_false] at hk'
      omega
  have st : ∀ {A : List Nat} {D' : ev_D} (j n c M : Nat), cpy t u A D' D → A.all (fun j => Nat.blt j 40) = true → j < 39 → mem mst j = true → sh_E 171 j 2 = j + 1 → sh_L (j + 1) = n → rgC j = 1 → rgC (j + 1) = n → mem mst (j + 1) = false → n < 2 ^ 30 → D (j + u) 0 = nI c → D (j + t) 1 = nI M → c ≤ M → M < 2 ^ 30 → 2 ≤ j → A.all (fun k => !(mem [j, j + 1] k)) = true → ∃ D2, (fX6_become sh_L (sh_E 171) fu (j + t) (j + u) D' = some (nI 0, D2) ∧ fX0_become sh_L (sh_E 171) fu (j + t) (j + u) D' = some (nI 0, D2)) ∧ cpy t u (A ++ [j, j + 1]) D2 D := by
    intro A D' j n c M hc hA hj hm e l r0 r1 hm1 hn hcc hM hcM hM2 h2 hdis
    obtain ⟨q1, q2⟩ := E j 2 (j + 1) (by omega) h2 (by decide) e (by omega)
    have l12 := eL (j + 1) (by omega) (by omega)
    obtain ⟨D2, b1, b2, b3⟩ := e_rowsB (fu := fu) (D := D') h40 hj q1 q2 (l12.1.trans l) (l12.2.trans l) r0 r1 hm1 hn ((cpy_b h40 hc hA (by omega) 0).trans hcc) ((hc.2.2 j hm).trans hM) hcM hM2
    exact ⟨D2, ⟨b1, b2⟩, cpy_tr h40 hc b3 hA (by simp [Nat.blt]; omega) hdis⟩
  have sc : ∀ {A : List Nat} {D' : ev_D} (j n : Nat), cpy t u A D' D → A.all (fun j => Nat.blt j 40) = true → j < 40 → 2 ≤ j → sh_L j = n → rgC j = n → mem mst j = false → n < 2 ^ 30 → A.all (fun k => !(mem [j] k)) = true → ∃ D2, fX11_copy sh_L (sh_E 171) fu (j + u) (j + t) D' = some (nI 0, D2) ∧ cpy t u (A ++ [j]) D2 D := by
    intro A D' j n hc hA hj hj2 l r hm hn hdis
    have l12 := eL j hj hj2
    exact ⟨_, e_copy _ (l12.2.trans l) (l12.1.trans l) (by omega) hn, cpy_tr h40 hc (cpy_cp D' r hm) hA (by simp [Nat.blt]; omega) hdis⟩
  obtain ⟨D2, ⟨-, b2⟩, s2⟩ := st 11 600 c11 150 s1 rfl (by decide) rfl rfl rfl rfl rfl rfl (by decide) k11 m11 h11 (by decide) (by decide) rfl
  /- the law -/
  have s3 : cpy t u ([3, 4, 5, 6, 7, 8, 9, 10] ++ [11, 12] ++ [14]) (ev_up (ev_up D2 (14 + t) 0 (D2 (14 + u) 0)) (14 + t) 1 (D2 (14 + u) 1)) D := by
    refine cpy_tr h40 s2 ?_ rfl rfl rfl
    refine ⟨fun k hk i hi => ?_, fun k i hk => ?_, fun k hk => ?_⟩
    · have e := mem1.mp hk
      subst e
      have : i = 0 := by
        have h1 : rgC 14 = 1 := rfl
        omega
      rw [this, upJ _ _ _ _ (by decide), upS]
    · have hk1 : k ≠ 14 + t := hk 14 rfl
      rw [upN _ _ _ _ hk1, upN _ _ _ _ hk1]
    · have hk' := mem_iff.mp hk
      simp only [mst, List.mem_cons, List.not_mem_nil, or_false] at hk'
      rw [upN _ _ _ _ (by omega), upN _ _ _ _ (by omega)]
  obtain ⟨D4, b4, s4⟩ := sc 15 16 s3 rfl (by decide) (by decide) rfl rfl rfl (by decide) rfl
  obtain ⟨D5, b5, s5⟩ := sc 16 16 s4 rfl (by decide) (by decide) rfl rfl rfl (by decide) rfl
  obtain ⟨D6, b6, s6⟩ := sc 17 16 s5 rfl (by decide) (by decide) rfl rfl rfl (by decide) rfl
  obtain ⟨D7, b7, s7⟩ := sc 18 16 s6 rfl (by decide) (by decide) rfl rfl rfl (by decide) rfl
  obtain ⟨D8, b8, s8⟩ := sc 19 400 s7 rfl (by decide) (by decide) rfl rfl rfl (by decide) rfl
  obtain ⟨D9, ⟨b9, -⟩, s9⟩ := st 21 48 c21 16 s8 rfl (by decide) rfl rfl rfl rfl rfl rfl (by decide) k21 m21 h21 (by decide) (by decide) rfl
  obtain ⟨Da, ⟨ba, -⟩, sa⟩ := st 23 48 c23 16 s9 rfl (by decide) rfl rfl rfl rfl rfl rfl (by decide) k23 m23 h23 (by decide) (by decide) rfl
  obtain ⟨Db, ⟨bb, -⟩, sb⟩ := st 25 48 c25 16 sa rfl (by decide) rfl rfl rfl rfl rfl rfl (by decide) k25 m25 h25 (by decide) (by decide) rfl
  obtain ⟨Dc, ⟨bc, -⟩, sc'⟩ := st 28 30 c28 10 sb rfl (by decide) rfl rfl rfl rfl rfl rfl (by decide) k28 m28 h28 (by decide) (by decide) rfl
  obtain ⟨Dd, ⟨bd, -⟩, sd⟩ := st 30 18 c30 6 sc' rfl (by decide) rfl rfl rfl rfl rfl rfl (by decide) k30 m30 h30 (by decide) (by decide) rfl
  obtain ⟨De, ⟨be, -⟩, se⟩ := st 32 48 c32 16 sd rfl (by decide) rfl rfl rfl rfl rfl rfl (by decide) k32 m32 h32 (by decide) (by decide) rfl
  obtain ⟨Df, ⟨bf, -⟩, sf⟩ := st 34 72 c34 24 se rfl (by decide) rfl rfl rfl rfl rfl rfl (by decide) k34 m34 h34 (by decide) (by decide) rfl
  obtain ⟨Dg, ⟨bg, -⟩, sg⟩ := st 36 60 c36 20 sf rfl (by decide) rfl rfl rfl rfl rfl rfl (by decide) k36 m36 h36 (by decide) (by decide) rfl
  obtain ⟨Dh, bh, sh⟩ := sc 38 80 sg rfl (by decide) (by decide) rfl rfl rfl (by decide) rfl
  obtain ⟨Di, bi, si⟩ := sc 39 10 sh rfl (by decide) (by decide) rfl rfl rfl (by decide) rfl
  refine ⟨Di, ?_, si⟩
  have e20 := E 2 0 3 (by decide) (by decide) (by decide) rfl (by decide)
  have e21 := E 2 1 11 (by decide) (by decide) (by decide) rfl (by decide)
  have e22 := E 2 2 13 (by decide) (by decide) (by decide) rfl (by decide)
  have e23 := E 2 3 27 (by decide) (by decide) (by decide) rfl (by decide)
  have e130 := E 13 0 14 (by decide) (by decide) (by decide) rfl (by decide)
  have e131 := E 13 1 21 (by decide) (by decide) (by decide) rfl (by decide)
  have e132 := E 13 2 23 (by decide) (by decide) (by decide) rfl (by decide)
  have e133 := E 13 3 25 (by decide) (by decide) (by decide) rfl (by decide)
  have e142 := E 14 2 15 (by decide) (by decide) (by decide) rfl (by decide)
  have e143 := E 14 3 16 (by decide) (by decide) (by decide) rfl (by decide)
  have e144 := E 14 4 17 (by decide) (by decide) (by decide) rfl (by decide)
  have e145 := E 14 5 18 (by decide) (by decide) (by decide) rfl (by decide)
  have e146 := E 14 6 19 (by decide) (by decide) (by decide) rfl (by decide)
  have e270 := E 27 0 28 (by decide) (by decide) (by decide) rfl (by decide)
  have e271 := E 27 1 30 (by decide) (by decide) (by decide) rfl (by decide)
  have e272 := E 27 2 32 (by decide) (by decide) (by decide) rfl (by decide)
  have e273 := E 27 3 34 (by decide) (by decide) (by decide) rfl (by decide)
  have e274 := E 27 4 36 (by decide) (by decide) (by decide) rfl (by decide)
  have e275 := E 27 5 38 (by decide) (by decide) (by decide) rfl (by decide)
  have e276 := E 27 6 39 (by decide) (by decide) (by decide) rfl (by decide)
  rw [fX10_become, e20.1, e20.2, a1, bdS, e21.1, e21.2, b2, bdS, e22.1, e22.2, fX7_become, e130.1, e130.2, fX1_become, upN _ _ _ _ ne, e142.1, e142.2, b4, bdS, e143.1, e143.2, b5, bdS, e144.1, e144.2, b6, bdS, e145.1, e145.2, b7, bdS, e146.1, e146.2, b8, bdS, bdS, e131.1, e131.2, b9, bdS, e132.1, e132.2, ba, bdS, e133.1, e133.2, bb, bdS, bdS, e23.1, e23.2, fX8_become, e270.1, e270.2, bc, bdS, e271.1, e271.2, bd, bdS, e272.1, e272.2, be, bdS, e273.1, e273.2, bf, bdS, e274.1, e274.2, bg, bdS, e275.1, e275.2, bh, bdS, e276.1, e276.2, bi, bdS, bdS, i_0]
