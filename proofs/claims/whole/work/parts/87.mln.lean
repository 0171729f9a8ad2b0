/-! ===== text: the reference reads days, changes, laws ===== -/
section MLn2
variable {kp fu n t : Nat} {T : Nat → Nat}
def daP (ls : List (Nat × Nat × Nat)) (D : ev_D) : Prop := ∀ q (h : q < ls.length), D 152 (48 + 3 * q) = nI ls[q].1 ∧ D 152 (48 + 3 * q + 1) = nI ls[q].2.1 ∧ D 152 (48 + 3 * q + 2) = nI ls[q].2.2
theorem daP_k (ls : List (Nat × Nat × Nat)) (D D' : ev_D) (h : fm D' D) (g : daP ls D) : daP ls D' := fun q hq => by
  rw [h _ _ (nmx (by omega) (by omega)), h _ _ (nmx (by omega) (by omega)), h _ _ (nmx (by omega) (by omega))]
  exact g q hq
theorem daP_add {ls : List (Nat × Nat × Nat)} {D D' : ev_D} (h : ∀ j, j < 48 + 3 * ls.length → D' 152 j = D 152 j) {a : Nat × Nat × Nat} (h1 : D' 152 (48 + 3 * ls.length) = nI a.1) (h2 : D' 152 (48 + 3 * ls.length + 1) = nI a.2.1) (h3 : D' 152 (48 + 3 * ls.length + 2) = nI a.2.2) (g : daP ls D) : daP (ls ++ [a]) D' := by
  intro q hq
  rw [List.length_append] at hq
  simp only [List.length_cons, List.length_nil] at hq
  by_cases e : q < ls.length
  · rw [List.getElem_append_left e, h _ (by omega), h _ (by omega), h _ (by omega)]
    exact g q e
  · have eq : q = ls.length := by omega
    subst eq
    rw [List.getElem_append_right (Nat.le_refl _), h1, h2, h3]
    simp
theorem lx152 {j : Nat} (h : 48 ≤ j) : lX 152 j := .inr (.inr (.inr (.inl ⟨rfl, h⟩)))
theorem m_day (hfu : 30000 ≤ fu) (h255 : ∀ i, T i ≤ 255) (hn : n ≤ 400) (gt : tT T n t) {i : Nat} {ls : List (Nat × Nat × Nat)} {D : ev_D} (hl : ls.length < 16) (hi : i ≤ t) (hk : Kq T n i = 276) (g : RS T n i D) (hM : mT T n D) (hp : daP ls D) : oN T n t D (fun a D' => daP (ls ++ [a]) D') (on1 (Kq T n) (lnD (Kq T n) (Vq T n)) i) (fX12_readDay sh_L (sh_E kp) fu 132 (nI (48 + 3 * ls.length)) D) := by
  have hlt := tT_lt gt hi (by omega)
  have hK := Kq_b (n := n) h255 i
  have hK2 := Kq_b (n := n) h255 (i + 2)
  obtain ⟨D1, a1, a2, a3, a4⟩ := m_next (kp := kp) hfu h255 hn hM g (by omega)
  unfold fX12_readDay fX12_readTold
  rw [i_20, m_isW g.2.2 hK (by decide), bdS, decide_eq_true (show Kq T n i = 256 + 20 from hk), i_0, if_neg (show ¬ nI (Bool.toNat true) = nI 0 by decide), a1, bdS, mm1, i_23, i_2, i_21, i_25]
  refine oN_tr (fg_fm (fm_ex a4)) ?_
  have hp1 := daP_k ls D D1 (fm_ex a4) hp
  have hw : ∀ (v : Int32) (D2 : ev_D), fm D2 D1 → fg (ev_up D2 152 (48 + 3 * ls.length) v) D1 := fun v D2 h => fg_up (fg_fm h) (lx152 (by omega))
  by_cases k1 : Kq T n (i + 1) = 2
  · have hlt1 := tT_lt gt (show i + 1 ≤ t by omega) (by omega)
    have hV1 := Vq_lt k1
    by_cases v1 : Vq T n (i + 1) ≤ 23
    · obtain ⟨D2, b1, b2, b3, b4⟩ := m_rn0 (kp := kp) (R := 24) (l2 := nI 23) hfu h255 hn a3 a2 k1 (hlN (by decide)) (by omega)
      have hp2 := daP_k ls D1 D2 b4 hp1
      rw [b1, bdS, bdS, e_132_38, l_152, gdI (by omega) (by omega), gdI (by omega) (by omega), nI_clamp (by omega), upS, if_neg (m1N (by omega))]
      refine oN_tr (hw (nI (Vq T n (i + 1))) D2 b4) ?_
      have g3 : RS T n (i + 2) (ev_up D2 152 (48 + 3 * ls.length) (nI (Vq T n (i + 1)))) := RS_of (fun j hj => by rw [upN _ _ _ _ (by decide)]) b2
      have m3 : mT T n (ev_up D2 152 (48 + 3 * ls.length) (nI (Vq T n (i + 1)))) := mT_fg (fg_up (fg_rf _) (lx152 (by omega))) b3
      have h31 : ∀ j, j < 48 + 3 * ls.length → ev_up D2 152 (48 + 3 * ls.length) (nI (Vq T n (i + 1))) 152 j = D2 152 j := fun j hj => upJ _ _ _ _ (by omega)
      have h32 : ev_up D2 152 (48 + 3 * ls.length) (nI (Vq T n (i + 1))) 152 (48 + 3 * ls.length) = nI (Vq T n (i + 1)) := upS _ _ _ _
      generalize ev_up D2 152 (48 + 3 * ls.length) (nI (Vq T n (i + 1))) = D3 at g3 m3 h31 h32 ⊢
      -- what follows the event
      have hrest : ∀ (e M l2 : Nat), M ≤ 99 → l2 ≤ 1 → M = (if l2 = 0 then 9 else 99) → Kq T n (i + 2) ≠ 0 → (∀ x, (if Kq T n (i + 3) = 2 then (if Vq T n (i + 3) ≤ M then .inr (i + 4, (Vq T n (i + 1), e, Vq T n (i + 3))) else .inl (2, i + 3)) else .inl (1, i + 3)) = x → lnD (Kq T n) (Vq T n) i = x) → oN T n t D3 (fun a D' => daP (ls ++ [a]) D') (on1 (Kq T n) (lnD (Kq T n) (Vq T n)) i) (fX12_readDay_97 sh_L (sh_E kp) fu 132 (nI (48 + 3 * ls.length)) (nI l2) 152 (nI (48 + 3 * ls.length) + nI 1) (nI e) D3) := by
        intro e M l2 hM99 hl2 hMl h0 hx
        have hlt2 := tT_lt gt (show i + 2 ≤ t by omega) h0
        unfold fX12_readDay_97
        have f4 : fg (ev_up D3 152 (48 + 3 * ls.length + 1) (nI e)) D3 := fg_up (fg_rf _) (lx152 (by omega))
        obtain ⟨D4, c1, c2, c3, c4⟩ := m_next (kp := kp) (i := i + 2) hfu h255 hn (mT_fg f4 m3) (RS_of (fun j hj => by rw [upN _ _ _ _ (by decide)]) g3) h0
        have c2' : RS T n (i + 3) D4 := c2
        have h41 : ∀ j, j < 48 + 3 * ls.length → D4 152 j = D2 152 j := fun j hj => by rw [ex_at c4 (by decide), upJ _ _ _ _ (by omega), h31 j hj]
        have h42 : D4 152 (48 + 3 * ls.length) = nI (Vq T n (i + 1)) := by rw [ex_at c4 (by decide), upJ _ _ _ _ (by omega), h32]
        have h43 : D4 152 (48 + 3 * ls.length + 1) = nI e := by rw [ex_at c4 (by decide), upS]
        have h122 : (if nI l2 = nI 0 then fX12_readDay_122 sh_L (sh_E kp) fu 132 (nI (48 + 3 * ls.length)) 152 (nI (48 + 3 * ls.length) + nI 2) 132 (nI 0) (nI 9) D4 else fX12_readDay_122 sh_L (sh_E kp) fu 132 (nI (48 + 3 * ls.length)) 152 (nI (48 + 3 * ls.length) + nI 2) 132 (nI 0) (nI 99) D4) = fX12_readDay_122 sh_L (sh_E kp) fu 132 (nI (48 + 3 * ls.length)) 152 (nI (48 + 3 * ls.length) + nI 2) 132 (nI 0) (nI M) D4 := by
          rw [hMl]
          by_cases z : l2 = 0
          · rw [if_pos (congrArg nI z), if_pos z]
          · rw [if_neg (fun y => z ((nI_eq (by omega) (by omega)).mp y)), if_neg z]
        rw [addK, l_152, gdI (by omega) (by omega), nI_clamp (by omega), c1, bdS, e_132_38, i_2, i_0, i_9, i_99, h122]
        refine oN_tr (fg_tr f4 (fg_fm (fm_ex c4))) ?_
        unfold fX12_readDay_122
        rw [e_132_38, l_152, i_2, addK, mm1, i_59]
        by_cases k3 : Kq T n (i + 3) = 2
        · have hlt3 := tT_lt gt (show i + 3 ≤ t by omega) (by omega)
          have hV3 := Vq_lt k3
          by_cases v3 : Vq T n (i + 3) ≤ M
          · have hok := hx _ (show _ = .inr (i + 4, (Vq T n (i + 1), e, Vq T n (i + 3))) by rw [if_pos k3, if_pos v3])
            obtain ⟨D5, d1, d2, d3, d4⟩ := m_rn0 (kp := kp) (i := i + 3) (R := M + 1) (l2 := nI M) hfu h255 hn c3 c2' k3 (hlN (by omega)) (by omega)
            have f6 : fg (ev_up D5 152 (48 + 3 * ls.length + 2) (nI (Vq T n (i + 3)))) D4 := fg_up (fg_fm d4) (lx152 (by omega))
            rw [on1_ok hok, d1, bdS, gdI (by omega) (by omega), gdI (by omega) (by omega), nI_clamp (by omega), upS, if_neg (m1N (by omega))]
            refine oN_tr f6 (m_mark hfu h255 hn gt (P := fun a D' => daP (ls ++ [a]) D') (fun a D D' h g => daP_k _ D D' h g) (show i + 4 ≤ t by omega) (RS_of (fun j hj => by rw [upN _ _ _ _ (by decide)]) d2) (mT_fg f6 c3) ?_)
            refine daP_add (D := D2) (fun j hj => ?_) ?_ ?_ (upS _ _ _ _) hp2
            · rw [upJ _ _ _ _ (by omega), d4 _ _ (nmx (by omega) (by omega)), h41 j hj]
            · rw [upJ _ _ _ _ (by omega), d4 _ _ (nmx (by omega) (by omega)), h42]
            · rw [upJ _ _ _ _ (by omega), d4 _ _ (nmx (by omega) (by omega)), h43]
          · have her := hx _ (show _ = .inl (2, i + 3) by rw [if_pos k3, if_neg v3])
            obtain ⟨D5, d1, d2, d3, d4⟩ := m_rn2 (kp := kp) (fu := fu) (i := i + 3) (R := M + 1) (l2 := nI M) c2' k3 (hlN (by omega)) (by omega)
            rw [on1_er her, d1, bdS, gdI (by omega) (by omega), gdI (by omega) (by omega), nI_clamp (by omega), upS, if_pos rfl]
            exact ⟨_, rfl, by rw [upN _ _ _ _ (by decide)]; exact d2, by rw [upN _ _ _ _ (by decide)]; exact d3, fg_up (fg_fm d4) (lx152 (by omega))⟩
        · have her := hx _ (show _ = .inl (1, i + 3) by rw [if_neg k3])
          obtain ⟨D5, d1, d2, d3, d4⟩ := m_rn1 (kp := kp) (fu := fu) (i := i + 3) (l1 := nI 0) (l2 := nI M) c2' k3
          rw [on1_er her, d1, bdS, gdI (by omega) (by omega), gdI (by omega) (by omega), nI_clamp (by omega), upS, if_pos rfl]
          exact ⟨_, rfl, by rw [upN _ _ _ _ (by decide)]; exact d2, by rw [upN _ _ _ _ (by decide)]; exact d3, fg_up (fg_fm d4) (lx152 (by omega))⟩
      have h54 : (277 ≤ Kq T n (i + 2) ∧ Kq T n (i + 2) ≤ 281 → False) → oN T n t D3 (fun a D' => daP (ls ++ [a]) D') (on1 (Kq T n) (lnD (Kq T n) (Vq T n)) i) (fX12_readDay_54 sh_L (sh_E kp) fu 132 (nI (48 + 3 * ls.length)) D3) := by
        intro hno
        unfold fX12_readDay_54 fX12_readDay_55 fX12_readDay_75
        rw [i_0, if_pos rfl, i_15, m_isW g3.2.2 hK2 (by decide), bdS, tg]
        by_cases k2 : Kq T n (i + 2) = 271
        · rw [if_pos (decide_eq_true (show Kq T n (i + 2) = 256 + 15 from k2)), if_pos rfl, e_132_38, i_5, i_1]
          refine hrest 5 9 0 (by decide) (by decide) rfl (by omega) (fun x hx => ?_)
          rw [← hx]
          unfold lnD
          rw [if_pos k1, if_pos v1, if_pos (.inl k2), if_pos k2, if_pos k2]
        · have her : lnD (Kq T n) (Vq T n) i = .inl (1, i + 2) := by
            unfold lnD
            rw [if_pos k1, if_pos v1, if_neg (fun z => z.elim k2 hno)]
          obtain ⟨D5, d1, d2, d3, d4, _⟩ := m_err (kp := kp) (fu := fu) (f := 1) g3
          rw [if_neg (dF (show ¬ Kq T n (i + 2) = 256 + 15 from k2)), on1_er her, i_1, d1, bdS]
          exact ⟨D5, rfl, d2, d3, fg_fm d4⟩
      by_cases k256 : 256 ≤ Kq T n (i + 2)
      · rw [if_pos ((m_t2 g3.2.2).mpr k256), (g3.2.2.2.2.2.1 k256).2, m_in (by omega) (by omega) (by omega), bdS, tg]
        by_cases k3 : 277 ≤ Kq T n (i + 2) ∧ Kq T n (i + 2) ≤ 281
        · rw [if_pos (decide_eq_true (show 21 ≤ Kq T n (i + 2) - 256 ∧ Kq T n (i + 2) - 256 ≤ 25 by omega))]
          unfold fX12_readDay_55 fX12_readDay_75
          rw [i_1, i_0, if_neg (show ¬ nI 1 = nI 0 by decide), if_neg (show ¬ nI 1 = nI 0 by decide), e_132_38, (g3.2.2.2.2.2.1 k256).2, i_21, pk_sub (by omega), show Kq T n (i + 2) - 256 - 21 = Kq T n (i + 2) - 277 by omega]
          refine hrest (Kq T n (i + 2) - 277) 99 1 (by decide) (by decide) rfl (by omega) (fun x hx => ?_)
          rw [← hx]
          unfold lnD
          rw [if_pos k1, if_pos v1, if_pos (.inr k3), if_neg (show ¬ Kq T n (i + 2) = 271 by omega), if_neg (show ¬ Kq T n (i + 2) = 271 by omega)]
        · rw [if_neg (by rw [decide_eq_false (show ¬ (21 ≤ Kq T n (i + 2) - 256 ∧ Kq T n (i + 2) - 256 ≤ 25) by omega)]; decide)]
          exact h54 k3
      · rw [if_neg (fun z => k256 ((m_t2 g3.2.2).mp z))]
        exact h54 (by omega)
    · have her : lnD (Kq T n) (Vq T n) i = .inl (2, i + 1) := by
        unfold lnD
        rw [if_pos k1, if_neg v1]
      obtain ⟨D5, d1, d2, d3, d4⟩ := m_rn2 (kp := kp) (fu := fu) (R := 24) (l2 := nI 23) a2 k1 (hlN (by decide)) (by omega)
      rw [on1_er her, d1, bdS, bdS, e_132_38, l_152, gdI (by omega) (by omega), gdI (by omega) (by omega), nI_clamp (by omega), upS, if_pos rfl]
      exact ⟨_, rfl, by rw [upN _ _ _ _ (by decide)]; exact d2, by rw [upN _ _ _ _ (by decide)]; exact d3, fg_up (fg_fm d4) (lx152 (by omega))⟩
  · have her : lnD (Kq T n) (Vq T n) i = .inl (1, i + 1) := by
      unfold lnD
      rw [if_neg k1]
    obtain ⟨D5, d1, d2, d3, d4⟩ := m_rn1 (kp := kp) (fu := fu) (l1 := nI 0) (l2 := nI 23) a2 k1
    rw [on1_er her, d1, bdS, bdS, e_132_38, l_152, gdI (by omega) (by omega), gdI (by omega) (by omega), nI_clamp (by omega), upS, if_pos rfl]
    exact ⟨_, rfl, by rw [upN _ _ _ _ (by decide)]; exact d2, by rw [upN _ _ _ _ (by decide)]; exact d3, fg_up (fg_fm d4) (lx152 (by omega))⟩
/-! changes -/
def chP (ls : List Nat) (D : ev_D) : Prop := ∀ q (h : q < ls.length), D 153 (16 + q) = nI ls[q]
theorem chP_k (ls : List Nat) (D D' : ev_D) (h : fm D' D) (g : chP ls D) : chP ls D' := fun q hq => by
  rw [h _ _ (nmx (by omega) (by omega))]
  exact g q hq
theorem brd_b {s v : Nat} (hs : s < 128) (hv : v < 7) : (((nI s >>> (nI v &&& nI 31)) &&& nI 1) + (((nI s <<< (nI 1 &&& nI 31)) >>> (nI v &&& nI 31)) &&& nI 1)) + ((nI s >>> ((nI v + nI 1) &&& nI 31)) &&& nI 1) ≤ nI 0 ↔ (brd s).testBit v = false := by
  rw [nI_isIn0 (by omega) (by omega), pk_shlN _ 1 (sh31 1 (by decide)) (by omega), nI_isIn0 (by omega) (by omega), addK v 1, nI_isIn0 (by omega) (by omega), addK, addK, nI_leI (by split <;> split <;> split <;> decide) (by decide)]
  unfold brd
  rw [Nat.testBit_or, Nat.testBit_or, ← Nat.testBit_succ, show s * 2 ^ 1 = 2 * s by omega]
  cases s.testBit v <;> cases (2 * s).testBit v <;> cases s.testBit (v + 1) <;> decide
theorem m_chL (hfu : 30000 ≤ fu) (h255 : ∀ i, T i ≤ 255) (hn : n ≤ 400) (gt : tT T n t) {ls : List Nat} (hl : ls.length < 16) : ∀ (d i s f : Nat) (D : ev_D), i ≤ t → t < i + d → t + 1 < i + f → nad s → RS T n i D → mT T n D → chP ls D → oN T n t D (fun a D' => chP (ls ++ [a]) D') (match chL (Kq T n) (Vq T n) d i s with
    | .inl x => .inl x
    | .inr (j, a) => if Kq T n j = 59 then .inr (j + 1, a) else .inl (1, j)) (fX12_readChange_8 sh_L (sh_E kp) fu f 132 (nI (16 + ls.length)) (nI s) (nI 1) D) := by
  intro d
  induction d with
  | zero => intro i s f D hi h1; omega
  | succ d ih =>
    intro i s f D hi h1 h2 hs g hM hp
    obtain ⟨f, rfl⟩ : ∃ f', f = f' + 1 := ⟨f - 1, by omega⟩
    rw [fX12_readChange_8, i_0, if_neg (show ¬ nI 1 = nI 0 by decide), i_3, i_7, i_1, i_31, i_2, chL]
    by_cases k2 : Kq T n i = 2
    · have hlt := tT_lt gt hi (by omega)
      have hV := Vq_lt k2
      rw [if_pos k2, if_pos ((m_t3 g.2.2).mpr k2), (g.2.2.2.2.1 k2).2]
      by_cases v7 : 7 ≤ Vq T n i
      · rw [if_pos (nI_le v7 (by omega)), if_neg (show ¬ (Vq T n i ≤ 6 ∧ (brd s).testBit (Vq T n i) = false) from fun z => by omega)]
        obtain ⟨D5, d1, d2, d3, d4⟩ := m_rn2 (kp := kp) (fu := fu) (R := 7) (l2 := nI 6) g k2 (hlN (by decide)) v7
        unfold fX12_readChange_68
        rw [i_0, i_6, d1, bdS, mm1, if_pos rfl]
        exact ⟨D5, rfl, d2, d3, fg_fm d4⟩
      · rw [if_neg (nI_ge (by omega) (by omega))]
        by_cases hb : (brd s).testBit (Vq T n i) = false
        · rw [if_pos ((brd_b hs.1 (by omega)).mpr hb), if_pos (show Vq T n i ≤ 6 ∧ (brd s).testBit (Vq T n i) = false from ⟨by omega, hb⟩)]
          obtain ⟨D1, a1, a2, a3, a4⟩ := m_rn0 (kp := kp) (R := 7) (l2 := nI 6) hfu h255 hn hM g k2 (hlN (by decide)) v7
          have hp1 := chP_k ls D D1 a4 hp
          obtain ⟨q1, _⟩ := brd_ok hs (show Vq T n i < 7 by omega) hb
          unfold fX12_readChange_68
          rw [i_0, i_6, a1, bdS, mm1, if_neg (m1N (by omega)), i_1, i_31, nI_shl (by omega), nI_or, i_3]
          refine oN_tr (fg_fm a4) ?_
          by_cases k3 : Kq T n (i + 1) = 2
          · rw [if_pos k3, if_pos ((m_t3 a2.2.2).mpr k3)]
            exact ih (i + 1) (s ||| 2 ^ Vq T n i) f D1 (by omega) (by omega) (by omega) q1 a2 a3 hp1
          · rw [if_neg k3, if_neg (fun z => k3 ((m_t3 a2.2.2).mp z))]
            obtain ⟨f, rfl⟩ : ∃ f', f = f' + 1 := ⟨f - 1, by omega⟩
            rw [fX12_readChange_8, i_0, if_pos rfl, e_132_40, l_153, gdI (by omega) (by omega), nI_clamp (by omega), i_59]
            have f5 : fg (ev_up D1 153 (16 + ls.length) (nI (s ||| 2 ^ Vq T n i))) D1 := fg_up (fg_rf _) (.inr (.inr (.inr (.inr ⟨rfl, by omega⟩))))
            refine oN_tr f5 (m_mark hfu h255 hn gt (P := fun a D' => chP (ls ++ [a]) D') (fun a D D' h g => chP_k _ D D' h g) (show i + 1 ≤ t by omega) (RS_of (fun j hj => by rw [upN _ _ _ _ (by decide)]) a2) (mT_fg f5 a3) ?_)
            intro q hq
            rw [List.length_append] at hq
            simp only [List.length_cons, List.length_nil] at hq
            by_cases e : q < ls.length
            · rw [List.getElem_append_left e, upJ _ _ _ _ (by omega)]
              exact hp1 q e
            · have eq : q = ls.length := by omega
              subst eq
              rw [List.getElem_append_right (Nat.le_refl _), upS]
              simp
        · rw [if_neg (fun z => hb ((brd_b hs.1 (by omega)).mp z)), if_neg (show ¬ (Vq T n i ≤ 6 ∧ (brd s).testBit (Vq T n i) = false) from fun z => hb z.2)]
          obtain ⟨D5, d1, d2, d3, d4, _⟩ := m_err (kp := kp) (fu := fu) (f := 2) g
          rw [d1, bdS]
          exact ⟨D5, rfl, d2, d3, fg_fm d4⟩
    · rw [if_neg k2, if_neg (fun z => k2 ((m_t3 g.2.2).mp z))]
      obtain ⟨D5, d1, d2, d3, d4⟩ := m_rn1 (kp := kp) (fu := fu) (l1 := nI 0) (l2 := nI 6) g k2
      unfold fX12_readChange_68
      rw [i_0, i_6, d1, bdS, mm1, if_pos rfl]
      exact ⟨D5, rfl, d2, d3, fg_fm d4⟩
theorem m_change (hfu : 30000 ≤ fu) (h255 : ∀ i, T i ≤ 255) (hn : n ≤ 400) (gt : tT T n t) {i : Nat} {ls : List Nat} {D : ev_D} (hl : ls.length < 16) (hi : i ≤ t) (hk : Kq T n i = 282) (g : RS T n i D) (hM : mT T n D) (hp : chP ls D) : oN T n t D (fun a D' => chP (ls ++ [a]) D') (on1 (Kq T n) (lnC (Kq T n) (Vq T n)) i) (fX12_readChange sh_L (sh_E kp) fu 132 (nI (16 + ls.length)) D) := by
  have hlt := tT_lt gt hi (by omega)
  have ht := gt.1
  obtain ⟨D1, a1, a2, a3, a4⟩ := m_next (kp := kp) hfu h255 hn hM g (by omega)
  unfold fX12_readChange
  rw [a1, bdS, i_0, i_1]
  refine oN_tr (fg_fm (fm_ex a4)) ?_
  have hI := m_chL (kp := kp) hfu h255 hn gt hl 402 (i + 1) 0 fu D1 (by omega) (by omega) (by omega) ⟨by decide, by decide⟩ a2 a3 (chP_k ls D D1 (fm_ex a4) hp)
  unfold on1 lnC
  cases e : chL (Kq T n) (Vq T n) 402 (i + 1) 0 with
  | inl x =>
    rw [e] at hI
    exact hI
  | inr x =>
    obtain ⟨j, a⟩ := x
    rw [e] at hI
    exact hI
end MLn2
