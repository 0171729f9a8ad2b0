/-! ===== text: the reference reads laws ===== -/
def lmP (i : Nat) (ls : List lLn) (D : ev_D) : Prop := md D (fC 1 ls) ∧ (∀ q (h : q < ls.length), D 144 (32 + q) = nI ls[q].1 ∧ D 145 (32 + q) = nI (lB 1 ls q) ∧ D 146 (32 + q) = nI (lB 1 ls q + ls[q].2.1.length) ∧ D 147 (32 + q) = nI (lB 1 ls (q + 1))) ∧ (fC 1 ls).length ≤ i ∧ D 132 28 = nI 0
section MLaw
variable {kp fu n t : Nat} {T : Nat → Nat}
theorem m_isLn {k v : Nat} {D : ev_D} (h : tv k v D) (hk : k < 283) : fX12_isLineWord sh_L (sh_E kp) fu 132 D = some (nI (decide (256 ≤ k ∧ k ≤ 258)).toNat, D) := by
  unfold fX12_isLineWord
  rw [i_2, i_0, i_1]
  by_cases k3 : 256 ≤ k
  · rw [if_pos ((m_t2 h).mpr k3), (h.2.2.2.1 k3).2, m_in (by omega) (by omega) (by omega), bdS, tg]
    by_cases e : 256 ≤ k ∧ k ≤ 258
    · rw [if_pos (decide_eq_true (show 0 ≤ k - 256 ∧ k - 256 ≤ 2 by omega)), decide_eq_true e]; rfl
    · rw [if_neg (by rw [decide_eq_false (show ¬ (0 ≤ k - 256 ∧ k - 256 ≤ 2) by omega)]; decide), decide_eq_false e]; rfl
  · rw [if_neg (fun z => k3 ((m_t2 h).mp z)), decide_eq_false (by omega)]; rfl
theorem lx14 {q j : Nat} (hq : 144 ≤ q ∧ q ≤ 147) (h : 32 ≤ j) : lX q j := .inr (.inl ⟨hq, h⟩)
/-- a cell of the lines written: what is kept -/
theorem up14 {D : ev_D} {q j : Nat} {v : Int32} (hq : 144 ≤ q ∧ q ≤ 147) {i : Nat} {G : List lw_C} (g : RS T n i D) (hM : mT T n D) (hd : md D G) (h28 : D 132 28 = nI 0) : RS T n i (ev_up D q j v) ∧ mT T n (ev_up D q j v) ∧ md (ev_up D q j v) G ∧ ev_up D q j v 132 28 = nI 0 := by
  refine ⟨RS_of (fun j hj => by rw [upN _ _ _ _ (by omega)]) g, ⟨by rw [upN _ _ _ _ (by omega)]; exact hM.1, fun i hi => by rw [upN _ _ _ _ (by omega)]; exact hM.2.1 i hi, fun i hi => by rw [upN _ _ _ _ (by omega)]; exact hM.2.2 i hi⟩, md_of (by rw [upN _ _ _ _ (by omega)]) (fun i => by rw [upN _ _ _ _ (by omega)]) (fun i => by rw [upN _ _ _ _ (by omega)]) hd, by rw [upN _ _ _ _ (by omega)]; exact h28⟩
theorem m_lawL (hfu : 30000 ≤ fu) (h255 : ∀ i, T i ≤ 255) (hn : n ≤ 400) (gt : tT T n t) : ∀ (d i : Nat) (ls : List lLn) (nf : Nat) (D : ev_D), i ≤ t → 16 < ls.length + d → 16 < ls.length + nf → ls.length ≤ 16 → RS T n i D → mT T n D → lmP i ls D → oL T n D (fun ls D' => lmP 400 ls D') (fun ls => nI ls.length) (lns (Kq T n) (fun k => decide (256 ≤ k ∧ k ≤ 258)) (lnL (Kq T n) (Vq T n)) d i ls) (fX12_readLaw_2 sh_L (sh_E kp) fu nf 132 (nI ls.length) D) := by
  have ht := gt.1
  intro d
  induction d with
  | zero => intro i ls nf D hi h1 h2 h3; omega
  | succ d ih =>
    intro i ls nf D hi h1 h2 h3 g hM hp
    obtain ⟨nf, rfl⟩ : ∃ f', nf = f' + 1 := ⟨nf - 1, by omega⟩
    obtain ⟨p1, p2, p3, p4⟩ := hp
    have hK := Kq_b (n := n) h255 i
    have herr : ∀ f, oL T n D (fun ls D' => lmP 400 ls D') (fun ls => nI ls.length) (.inl (f, i)) (ev_bd (fX12_errs sh_L (sh_E kp) fu 132 (nI f) D) (fun v4 D4 => some (v4, D4))) := by
      intro f
      obtain ⟨D', a1, a2, a3, a4, _⟩ := m_err (kp := kp) (fu := fu) (f := f) g
      rw [a1, bdS]
      exact ⟨D', rfl, a2, a3, fg_fm a4⟩
    rw [fX12_readLaw_2, m_isLn g.2.2 hK, bdS, i_0, tg, mm1, i_1, i_3, i_16, lns]
    by_cases kw : 256 ≤ Kq T n i ∧ Kq T n i ≤ 258
    · have hlt := tT_lt gt hi (by omega)
      rw [if_neg (show ¬ Kq T n i = 0 by omega), if_neg (by rw [decide_eq_true kw]; decide), if_pos (decide_eq_true kw)]
      by_cases l16 : ls.length = 16
      · rw [if_pos l16, if_pos (congrArg nI l16)]
        exact herr 3
      · rw [if_neg l16, if_neg (fun z => l16 ((nI_eq (by omega) (by omega)).mp z)), i_32, addK, e_132_20, l_144, gdI (by omega) (by omega), nI_clamp (by omega), (g.2.2.2.2.2.1 kw.1).2]
        have hl16 : ls.length < 16 := by omega
        -- the word
        obtain ⟨u1, u2, u3, u4⟩ := up14 (q := 144) (j := 32 + ls.length) (v := nI (Kq T n i - 256)) (by decide) g hM p1 p4
        obtain ⟨D1, a1, a2, a3, a4⟩ := m_next (kp := kp) hfu h255 hn u2 u1 (by omega)
        have d1 := md_ex a4 rfl u3
        have o1 : D1 132 28 = nI 0 := by rw [ex_f a4 (by decide)]; exact u4
        have z1 : ∀ q j, 144 ≤ q → q ≤ 147 → ¬ (q = 144 ∧ j = 32 + ls.length) → D1 q j = D q j := fun q j h1 h2 h3 => by rw [a4 q j rfl (fun e => by omega), upA, if_neg h3]
        have w1 : D1 144 (32 + ls.length) = nI (Kq T n i - 256) := by rw [a4 _ _ rfl (fun e => by omega), upS]
        have f1 : fg D1 D := fg_tr (fg_up (fg_rf _) (lx14 (by decide) (by omega))) (fg_fm (fm_ex a4))
        rw [a1, bdS, e_132_21, l_145, gdI (by omega) (by omega), d1.1, e_132_22, l_146]
        -- where its codes begin
        obtain ⟨v1, v2, v3, v4⟩ := up14 (q := 145) (j := 32 + ls.length) (v := nI (fC 1 ls).length) (by decide) a2 a3 d1 o1
        have hS := m_sum (kp := kp) (G := fC 1 ls) hfu h255 hn gt (show i + 1 ≤ t by omega) v2 v1 v3 (by omega)
        have f2 : fg (ev_up D1 145 (32 + ls.length) (nI (fC 1 ls).length)) D := fg_up f1 (lx14 (by decide) (by omega))
        refine oL_tr f2 ?_
        rw [show lnL (Kq T n) (Vq T n) i = (match sm (Kq T n) (Vq T n) (i + 1) with
          | .inl x => (.inl x : tR lLn)
          | .inr (j, l) => if Kq T n j = 259 then (match tr (Kq T n) (Vq T n) 10 0 (j + 1) with
            | .inl x => (.inl x : tR lLn)
            | .inr (j2, p) => .inr (j2, (Kq T n i - 256, l, some p))) else .inr (j, (Kq T n i - 256, l, none))) from rfl]
        cases e1 : sm (Kq T n) (Vq T n) (i + 1) with
        | inl x =>
          rw [e1] at hS
          obtain ⟨D', b1, b2, b3, b4⟩ := hS
          show oL _ _ _ _ _ (.inl x) _
          rw [b1, bdS, if_pos rfl]
          exact ⟨D', rfl, b2, b3, fg_fm b4⟩
        | inr x =>
          obtain ⟨j, l⟩ := x
          have hb1 := sm_b e1
          rw [e1] at hS
          obtain ⟨D2, b1, b2, b3, b4, b5⟩ := hS
          have hKj := Kq_b (n := n) h255 j
          have o2 : D2 132 28 = nI 0 := by rw [b5 _ _ (nmx (by omega) (by omega))]; exact v4
          have m2 := mT_fm b5 v2
          rw [b1, bdS, if_neg (m1N (by decide)), gdI (by omega) (by omega), b4.1]
          -- where its condition begins
          obtain ⟨x1, x2', x3', x4⟩ := up14 (q := 146) (j := 32 + ls.length) (v := nI (fC 1 ls ++ l).length) (by decide) b3 m2 b4 o2
          have z3 : ∀ q j', 144 ≤ q → q ≤ 147 → ¬ (q ≤ 146 ∧ j' = 32 + ls.length) → ev_up D2 146 (32 + ls.length) (nI (fC 1 ls ++ l).length) q j' = D q j' := fun q j' h1 h2 h3 => by
            rw [upA, if_neg (by omega), b5 _ _ (nmx (by omega) (by omega)), upA, if_neg (by omega), z1 q j' h1 h2 (by omega)]
          have w3 : ev_up D2 146 (32 + ls.length) (nI (fC 1 ls ++ l).length) 144 (32 + ls.length) = nI (Kq T n i - 256) ∧ ev_up D2 146 (32 + ls.length) (nI (fC 1 ls ++ l).length) 145 (32 + ls.length) = nI (fC 1 ls).length ∧ ev_up D2 146 (32 + ls.length) (nI (fC 1 ls ++ l).length) 146 (32 + ls.length) = nI (fC 1 ls ++ l).length := by
            refine ⟨?_, ?_, upS _ _ _ _⟩
            · rw [upN _ _ _ _ (by decide), b5 _ _ (nmx (by omega) (by omega)), upN _ _ _ _ (by decide), w1]
            · rw [upN _ _ _ _ (by decide), b5 _ _ (nmx (by omega) (by omega)), upS]
          have f3 : fg (ev_up D2 146 (32 + ls.length) (nI (fC 1 ls ++ l).length)) (ev_up D1 145 (32 + ls.length) (nI (fC 1 ls).length)) := fg_up (fg_fm b5) (lx14 (by decide) (by omega))
          refine oL_tr f3 ?_
          generalize ev_up D2 146 (32 + ls.length) (nI (fC 1 ls ++ l).length) = D3 at x1 x2' x3' x4 z3 w3 ⊢
          -- the end of the line
          have h92 : ∀ (D4 : ev_D) (j2 : Nat) (c : Option lP), fa D4 D3 → RS T n j2 D4 → mT T n D4 → j2 ≤ t → md D4 (fC 1 ls ++ l ++ oa 1 c) → (fC 1 ls ++ l ++ oa 1 c).length ≤ j2 → D4 132 28 = nI 0 → oL T n D4 (fun ls D' => lmP 400 ls D') (fun ls => nI ls.length) (if Kq T n j2 = 59 then lns (Kq T n) (fun k => decide (256 ≤ k ∧ k ≤ 258)) (lnL (Kq T n) (Vq T n)) d (j2 + 1) (ls ++ [(Kq T n i - 256, l, c)]) else .inl (1, j2)) (fX12_readLaw_92 sh_L (sh_E kp) fu (fX12_readLaw_2 sh_L (sh_E kp) fu nf) 132 (nI ls.length) (nI (32 + ls.length)) D4) := by
            intro D4 j2 c hf4 g4 m4 hj2 hd4 hlen o4
            have hK2 := Kq_b (n := n) h255 j2
            have hfc : fC 1 (ls ++ [(Kq T n i - 256, l, c)]) = fC 1 ls ++ l ++ oa 1 c := by
              rw [fC_app]
              show fC 1 ls ++ (l ++ oa 1 c ++ []) = _
              rw [List.append_nil, List.append_assoc]
            have nl : ∀ q j, 144 ≤ q → q ≤ 147 → D4 q j = D3 q j := fun q j h1 h2 => hf4 q j (by
              intro z
              rcases z with z | z
              · rcases z with z | z <;> omega
              · omega)
            obtain ⟨y1, y2, y3, y4⟩ := up14 (q := 147) (j := 32 + ls.length) (v := nI (fC 1 ls ++ l ++ oa 1 c).length) (by decide) g4 m4 hd4 o4
            have f5 : fg (ev_up D4 147 (32 + ls.length) (nI (fC 1 ls ++ l ++ oa 1 c).length)) D4 := fg_up (fg_rf _) (lx14 (by decide) (by omega))
            unfold fX12_readLaw_92
            rw [e_132_23, l_147, gdI (by omega) (by omega), nI_clamp (by omega), hd4.1, i_59, m_isC y1.2.2 hK2 (by decide) (by decide), bdS, i_0, tg]
            refine oL_tr f5 ?_
            by_cases k59 : Kq T n j2 = 59
            · have hlt2 := tT_lt gt hj2 (by omega)
              obtain ⟨D5, c1, c2, c3, c4⟩ := m_next (kp := kp) hfu h255 hn y2 y1 (by omega)
              rw [if_pos k59, if_pos (decide_eq_true k59), c1, bdS, i_1, addK]
              refine oL_tr (fg_fm (fm_ex c4)) ?_
              have hl : (ls ++ [(Kq T n i - 256, l, c)]).length = ls.length + 1 := by rw [List.length_append]; rfl
              have hI := ih (j2 + 1) (ls ++ [(Kq T n i - 256, l, c)]) nf D5 (by omega) (by omega) (by omega) (by omega) c2 c3 ⟨by rw [hfc]; exact md_ex c4 rfl y3, fun q hq => ?_, by rw [hfc]; omega, by rw [ex_f c4 (by decide)]; exact y4⟩
              · rw [hl] at hI
                exact hI
              · rw [hl] at hq
                have e5 : ∀ z, 144 ≤ z → z ≤ 147 → D5 z (32 + q) = ev_up D4 147 (32 + ls.length) (nI (fC 1 ls ++ l ++ oa 1 c).length) z (32 + q) := fun z h1 h2 => c4 _ _ rfl (fun e => by omega)
                rw [e5 144 (by decide) (by decide), e5 145 (by decide) (by decide), e5 146 (by decide) (by decide), e5 147 (by decide) (by decide), upN _ _ _ _ (show (144 : Nat) ≠ 147 by decide), upN _ _ _ _ (show (145 : Nat) ≠ 147 by decide), upN _ _ _ _ (show (146 : Nat) ≠ 147 by decide), nl 144 _ (by decide) (by decide), nl 145 _ (by decide) (by decide), nl 146 _ (by decide) (by decide)]
                by_cases e : q < ls.length
                · rw [List.getElem_append_left e, lB_app (by omega), lB_app (by omega), upJ _ _ _ _ (by omega), nl 147 _ (by decide) (by decide), z3 _ _ (by decide) (by decide) (by omega), z3 _ _ (by decide) (by decide) (by omega), z3 _ _ (by decide) (by decide) (by omega), z3 _ _ (by decide) (by decide) (by omega)]
                  exact p2 q e
                · have eq : q = ls.length := by omega
                  subst eq
                  have hg : (ls ++ [(Kq T n i - 256, l, c)])[ls.length]'(by rw [hl]; omega) = (Kq T n i - 256, l, c) := by
                    rw [List.getElem_append_right (Nat.le_refl _)]
                    simp
                  rw [hg, lB_app (Nat.le_refl _), lB_all, upS, w3.1, w3.2.1, w3.2.2]
                  refine ⟨rfl, rfl, by rw [List.length_append], ?_⟩
                  rw [← hl, lB_all, hfc]
            · rw [if_neg k59, if_neg (dF k59)]
              obtain ⟨D5, c1, c2, c3, c4, _⟩ := m_err (kp := kp) (fu := fu) (f := 1) y1
              rw [i_1, c1, bdS]
              exact ⟨D5, rfl, c2, c3, fg_fm c4⟩
          rw [m_isW x1.2.2 hKj (by decide), bdS, tg]
          dsimp only
          by_cases k259 : Kq T n j = 259
          · have hlt2 := tT_lt gt b2 (by omega)
            obtain ⟨D4, c1, c2, c3, c4⟩ := m_next (kp := kp) hfu h255 hn x2' x1 (by omega)
            rw [if_pos k259, if_pos (decide_eq_true (show Kq T n j = 256 + 3 from k259)), c1, bdS]
            have hA := m_any (kp := kp) hfu h255 hn gt (show j + 1 ≤ t by omega) c2 c3 (md_ex c4 rfl x3') (by rw [ex_f c4 (by decide)]; exact x4) (by rw [List.length_append]; omega)
            cases e2 : tr (Kq T n) (Vq T n) 10 0 (j + 1) with
            | inl x =>
              rw [e2] at hA
              obtain ⟨D', r1, r2, r3, r4⟩ := hA
              show oL _ _ _ _ _ (.inl x) _
              rw [r1, bdS, if_pos rfl]
              exact ⟨D', rfl, r2, r3, fg_tr (fg_fm (fm_ex c4)) (fg_fa r4)⟩
            | inr x =>
              obtain ⟨j2, p⟩ := x
              have hb2 := tr_b 10 0 (j + 1) j2 p (by decide) e2
              rw [e2] at hA
              obtain ⟨D5, r1, r2, r3, r4, r5, r6, r7⟩ := hA
              rw [r1, bdS, if_neg (m1N (by decide))]
              exact oL_tr (fg_tr (fg_fm (fm_ex c4)) (fg_fa r7)) (h92 D5 j2 (some p) (fa_tr (fa_fm (fm_ex c4)) r7) r3 r4 r2 r5 (by
                show (fC 1 ls ++ l ++ p.2).length ≤ j2
                rw [List.length_append, List.length_append]
                omega) r6)
          · rw [if_neg k259, if_neg (dF (show ¬ Kq T n j = 256 + 3 from k259))]
            exact h92 D3 j none (fa_rf _) x1 x2' b2 (by
              show md D3 (fC 1 ls ++ l ++ [])
              rw [List.append_nil]; exact x3') (by
              show (fC 1 ls ++ l ++ []).length ≤ j
              rw [List.append_nil, List.length_append]
              omega) x4
    · rw [if_neg (show ¬ (decide (256 ≤ Kq T n i ∧ Kq T n i ≤ 258) = true) by rw [decide_eq_false kw]; decide)]
      by_cases k0 : Kq T n i = 0
      · rw [if_pos k0, if_pos ((m_t0 g.2.2).mpr k0)]
        exact ⟨D, rfl, ⟨p1, p2, by omega, p4⟩, fg_rf _⟩
      · rw [if_neg k0, if_pos (decide_eq_false kw), if_neg (fun z => k0 ((m_t0 g.2.2).mp z))]
        exact herr 1
end MLaw
